set_option maxHeartbeats 4000000 in
set_option maxRecDepth 100000 in
theorem kX7_next (l : Launch) (D : va_G) (ca : Nat → ClassId) (cnt : Nat → Nat) (ad : Nat → Nat → Nat) (ct : Nat → Nat → va_E) (z9 : Nat) (t : Nat) (n1 : Nat) (b1 : Nat → Int32) (vs : Nat → Int32) (a : Nat) (F : Int32) (hR : rdOK ca cnt ad ct t n1 b1 vs) (ha : a ≤ n1) : Met l yX7_next (wz yX7_next cX7_next 1 (some .int)) (rmL 3 0 0) (va_Pc [.ref (ad 13 0)] (fun U => (U.heap.size = z9 ∧ wq D cnt ad (rq ad ct t (nI a) F) U.heap) ∧ gK D ca U)) (QcW D (wA cnt ad z9) (fun rv u => rv = some (.int (if F = -1 then (bC b1 n1) (pSk (bC b1 n1) n1 a) else -1)) ∧ u = (cnt, ad, rq ad ct t (nI (pSk (bC b1 n1) n1 a)) (F)))) 0 0 (wA cnt ad z9) := by
  refine x_met (by decide) (Nat.le_of_ble_eq_true rfl) ?_
  intro p e s m below meth c E hr hlk hnm hq ls hl
  obtain ⟨hsz9, hq⟩ := hq
  subst hsz9
  generalize hav : ([.ref (ad 13 0)] : List Value).toArray = args at E ⊢
  have hx := E.1
  have hb := E.2.1
  have hown := E.2.2.2.1
  have hts := E.2.2.2.2.1
  have hw : wd D (wA cnt ad s.heap.size) s.heap cnt ad (rq ad ct t (nI a) F) s.heap [] := wd.start hq
  generalize hQ : MQ below (QcW D (wA cnt ad s.heap.size) (fun rv u => rv = some (.int (if F = -1 then (bC b1 n1) (pSk (bC b1 n1) n1 a) else -1)) ∧ u = (cnt, ad, rq ad ct t (nI (pSk (bC b1 n1) n1 a)) (F)))) args s 0 0 (wA cnt ad s.heap.size) = Q
  generalize hA9 : wA cnt ad s.heap.size = A at hw hQ
  have hl : lv_has ls 1 [(0, .ref (ad 13 0))] := hl
  obtain ⟨h13, h11, htc, h12, hbc, hn1, h14, hvc⟩ := id hR
  suffices hgo : ∀ (H : Heap) (locs : List Loc), wd D A s.heap cnt ad (rq ad ct t (nI a) F) H locs → W p l e (rmL 3 0 0) s m args below meth c H locs 0 0 Q (F0 m 0 ls []) from hgo _ _ hw
  clear hw
  intro H locs hw
  have lp0 : ∀ (n : Nat) (b : Nat), (b ≤ n1) → (pSk (bC b1 n1) n1 b = pSk (bC b1 n1) n1 a) → (n1 - b < n) → ∀ (H : Heap) (locs : List Loc), wd D A s.heap cnt ad (rq ad ct t (nI b) F) H locs → ∀ ls : Array Slot, lv_has ls 1 [(0, .ref (ad 13 0))] → W p l e (rmL 3 0 0) s m args below meth c H locs 0 0 Q (F0 m 0 ls []) := by
    intro n
    induction n with
    | zero =>
      intro b hbt hk hfu H locs hw ls hl
      exact absurd hfu (by omega)
    | succ n ih0 =>
      intro b hbt hk hfu H locs hw ls hl
      refine lv_aload_n hx hb dX7_next_0 rfl (lv_at hl 0 rfl) ?_
      refine x_get E hw 13 0 (h13) (upd2_at _ _ _ _) cl_7 ly_7 2 (by decide) tw_55 rfl dX7_next_1 ?_
      refine lv_aload_n hx hb dX7_next_4 rfl (lv_at hl 0 rfl) ?_
      refine x_get E hw 13 0 (h13) (upd2_at _ _ _ _) cl_7 ly_7 1 (by decide) tw_54 rfl dX7_next_5 ?_
      refine x_get E hw 11 t (h11) ((upd2_k _ _ _ _ (by decide)).trans htc) cl_8 ly_8 1 (by decide) tw_36 rfl dX7_next_8 ?_
      refine lv_icmp_ge (tgt := 43) hx hb dX7_next_11 (by decide) (fun c_11 => ?_) (fun c_11 => ?_)
      · skip
        have hbl : ¬ b < n1 := by have q9 := (nI_leI (a := n1) (b := b) (by omega) (by omega)).mp c_11; omega
        have hbk : pSk (bC b1 n1) n1 b = b := pSk_n (fun q => hbl q.1)
        refine lv_aload_n hx hb dX7_next_43 rfl (lv_at hl 0 rfl) ?_
        refine x_get E hw 13 0 (h13) (upd2_at _ _ _ _) cl_7 ly_7 3 (by decide) tw_56 rfl dX7_next_44 ?_
        refine lv_iconst (v := (-1)) hx hb dX7_next_47 (by decide) ?_
        refine lv_icmp_ne (tgt := 65) hx hb dX7_next_48 (by decide) (fun c_48 => ?_) (fun c_48 => ?_)
        · skip
          refine lv_iconst (v := (-1)) hx hb dX7_next_65 (by decide) ?_
          subst hQ
          exact x_iretW E hr hlk hw (by decide) (by decide) (⟨by rw [← hk, hbk]; simp [c_11, c_48], by rw [← hk, hbk]⟩) dX7_next_66
        · skip
          refine lv_aload_n hx hb dX7_next_51 rfl (lv_at hl 0 rfl) ?_
          refine x_get E hw 13 0 (h13) (upd2_at _ _ _ _) cl_7 ly_7 1 (by decide) tw_54 rfl dX7_next_52 ?_
          refine lv_aload_n hx hb dX7_next_55 rfl (lv_at hl 0 rfl) ?_
          refine x_get E hw 13 0 (h13) (upd2_at _ _ _ _) cl_7 ly_7 2 (by decide) tw_55 rfl dX7_next_56 ?_
          refine x_read (x_runV (rest := []) E cbX8_byteAt tw_428 (kX8_byteAt l D ca cnt ad (rq ad ct t (nI b) F)  t _ _ (nI b) (h11) ((upd2_k _ _ _ _ (by decide)).trans htc) (h12) ((upd2_k _ _ _ _ (by decide)).trans hbc) (hn1)) ⟨rfl, rfl, by decide, by decide⟩ (x_recv E hw cl_8 (h11) ((upd2_k _ _ _ _ (by decide)).trans htc)) (fun _ _ _ _ h => h) (fun U hU _ => by rw [hU]; exact hw.1) rfl hl.1 rfl (Nat.le_of_ble_eq_true rfl) dX7_next_59 ⟨by decide, by decide⟩) ?_
          refine x_top (x := (cBy n1 b1 (nI b))) (y := ((bC b1 n1) b)) (cBy_eq hn1 (by omega)) ?_
          refine lv_goto (tgt := 66) hx hb dX7_next_62 (by decide) ?_
          subst hQ
          exact x_iretW E hr hlk hw (by decide) (by decide) (⟨by rw [← hk, hbk]; simp [c_11, c_48], by rw [← hk, hbk]⟩) dX7_next_66
      · skip
        have hbl : b < n1 := by have q9 := mt (nI_leI (a := n1) (b := b) (by omega) (by omega)).mpr c_11; omega
        refine lv_aload_n hx hb dX7_next_14 rfl (lv_at hl 0 rfl) ?_
        refine x_get E hw 13 0 (h13) (upd2_at _ _ _ _) cl_7 ly_7 1 (by decide) tw_54 rfl dX7_next_15 ?_
        refine lv_aload_n hx hb dX7_next_18 rfl (lv_at hl 0 rfl) ?_
        refine x_get E hw 13 0 (h13) (upd2_at _ _ _ _) cl_7 ly_7 2 (by decide) tw_55 rfl dX7_next_19 ?_
        refine x_read (x_runV (rest := []) E cbX8_byteAt tw_428 (kX8_byteAt l D ca cnt ad (rq ad ct t (nI b) F)  t _ _ (nI b) (h11) ((upd2_k _ _ _ _ (by decide)).trans htc) (h12) ((upd2_k _ _ _ _ (by decide)).trans hbc) (hn1)) ⟨rfl, rfl, by decide, by decide⟩ (x_recv E hw cl_8 (h11) ((upd2_k _ _ _ _ (by decide)).trans htc)) (fun _ _ _ _ h => h) (fun U hU _ => by rw [hU]; exact hw.1) rfl hl.1 rfl (Nat.le_of_ble_eq_true rfl) dX7_next_22 ⟨by decide, by decide⟩) ?_
        refine x_top (x := (cBy n1 b1 (nI b))) (y := ((bC b1 n1) b)) (cBy_eq hn1 (by omega)) ?_
        refine lv_bipush (v := 32) hx hb dX7_next_25 (by decide) ?_
        refine lv_icmp_ne (tgt := 43) hx hb dX7_next_27 (by decide) (fun c_27 => ?_) (fun c_27 => ?_)
        · skip
          have hbk : pSk (bC b1 n1) n1 b = b := pSk_n (fun q => c_27 q.2)
          refine lv_aload_n hx hb dX7_next_43 rfl (lv_at hl 0 rfl) ?_
          refine x_get E hw 13 0 (h13) (upd2_at _ _ _ _) cl_7 ly_7 3 (by decide) tw_56 rfl dX7_next_44 ?_
          refine lv_iconst (v := (-1)) hx hb dX7_next_47 (by decide) ?_
          refine lv_icmp_ne (tgt := 65) hx hb dX7_next_48 (by decide) (fun c_48 => ?_) (fun c_48 => ?_)
          · skip
            refine lv_iconst (v := (-1)) hx hb dX7_next_65 (by decide) ?_
            subst hQ
            exact x_iretW E hr hlk hw (by decide) (by decide) (⟨by rw [← hk, hbk]; simp [c_11, c_27, c_48], by rw [← hk, hbk]⟩) dX7_next_66
          · skip
            refine lv_aload_n hx hb dX7_next_51 rfl (lv_at hl 0 rfl) ?_
            refine x_get E hw 13 0 (h13) (upd2_at _ _ _ _) cl_7 ly_7 1 (by decide) tw_54 rfl dX7_next_52 ?_
            refine lv_aload_n hx hb dX7_next_55 rfl (lv_at hl 0 rfl) ?_
            refine x_get E hw 13 0 (h13) (upd2_at _ _ _ _) cl_7 ly_7 2 (by decide) tw_55 rfl dX7_next_56 ?_
            refine x_read (x_runV (rest := []) E cbX8_byteAt tw_428 (kX8_byteAt l D ca cnt ad (rq ad ct t (nI b) F)  t _ _ (nI b) (h11) ((upd2_k _ _ _ _ (by decide)).trans htc) (h12) ((upd2_k _ _ _ _ (by decide)).trans hbc) (hn1)) ⟨rfl, rfl, by decide, by decide⟩ (x_recv E hw cl_8 (h11) ((upd2_k _ _ _ _ (by decide)).trans htc)) (fun _ _ _ _ h => h) (fun U hU _ => by rw [hU]; exact hw.1) rfl hl.1 rfl (Nat.le_of_ble_eq_true rfl) dX7_next_59 ⟨by decide, by decide⟩) ?_
            refine x_top (x := (cBy n1 b1 (nI b))) (y := ((bC b1 n1) b)) (cBy_eq hn1 (by omega)) ?_
            refine lv_goto (tgt := 66) hx hb dX7_next_62 (by decide) ?_
            subst hQ
            exact x_iretW E hr hlk hw (by decide) (by decide) (⟨by rw [← hk, hbk]; simp [c_11, c_27, c_48], by rw [← hk, hbk]⟩) dX7_next_66
        · skip
          refine lv_aload_n hx hb dX7_next_30 rfl (lv_at hl 0 rfl) ?_
          refine lv_dup hx hb dX7_next_31 rfl ?_
          refine x_get E hw 13 0 (h13) (upd2_at _ _ _ _) cl_7 ly_7 2 (by decide) tw_55 rfl dX7_next_32 ?_
          refine lv_iconst (v := 1) hx hb dX7_next_35 (by decide) ?_
          refine lv_iadd hx hb dX7_next_36 ?_
          refine x_top (x := (nI b + 1)) (y := nI (b + 1)) (nI_1 _) ?_
          refine x_put E hw 13 0 (h13) (upd2_at _ _ _ _) cl_7 ly_7 tyX7 tyX7_ok nmX7 2 (by decide) tw_55 (Or.inl rfl) (by rfl) (by rfl) (Nat.le_of_ble_eq_true rfl) dX7_next_37 (fun H locs hw => ?_)
          rw [rq_2] at hw
          refine lv_goto (tgt := 0) hx hb dX7_next_40 (by decide) ?_
          exact ih0 (b + 1) (hbl) (by rw [← hk, pSk_y hbl c_27]) (by omega) _ _ (hw) ls (lv_sub hl [0] (rfl))
  exact lp0 (n1 + 1) a (ha) (rfl) (by omega) _ _ (hw) ls (lv_sub hl [0] (rfl))
set_option maxHeartbeats 4000000 in
set_option maxRecDepth 100000 in
theorem kX7_fail (l : Launch) (D : va_G) (ca : Nat → ClassId) (cnt : Nat → Nat) (ad : Nat → Nat → Nat) (ct : Nat → Nat → va_E) (z9 : Nat) (t : Nat) (n1 : Nat) (b1 : Nat → Int32) (vs : Nat → Int32) (x8 : Int32) (F : Int32) (hR : rdOK ca cnt ad ct t n1 b1 vs) : Met l yX7_fail (wz yX7_fail cX7_fail 1 none) (rmL 1 0 0) (va_Pc [.ref (ad 13 0)] (fun U => (U.heap.size = z9 ∧ wq D cnt ad (rq ad ct t x8 F) U.heap) ∧ gK D ca U)) (QcW D (wA cnt ad z9) (fun rv u => rv = none ∧ u = (cnt, ad, rq ad ct t (x8) (if F = -1 then x8 else F)))) 0 0 (wA cnt ad z9) := by
  refine x_met (by decide) (Nat.le_of_ble_eq_true rfl) ?_
  intro p e s m below meth c E hr hlk hnm hq ls hl
  obtain ⟨hsz9, hq⟩ := hq
  subst hsz9
  generalize hav : ([.ref (ad 13 0)] : List Value).toArray = args at E ⊢
  have hx := E.1
  have hb := E.2.1
  have hown := E.2.2.2.1
  have hts := E.2.2.2.2.1
  have hw : wd D (wA cnt ad s.heap.size) s.heap cnt ad (rq ad ct t x8 F) s.heap [] := wd.start hq
  generalize hQ : MQ below (QcW D (wA cnt ad s.heap.size) (fun rv u => rv = none ∧ u = (cnt, ad, rq ad ct t (x8) (if F = -1 then x8 else F)))) args s 0 0 (wA cnt ad s.heap.size) = Q
  generalize hA9 : wA cnt ad s.heap.size = A at hw hQ
  have hl : lv_has ls 1 [(0, .ref (ad 13 0))] := hl
  obtain ⟨h13, h11, htc, h12, hbc, hn1, h14, hvc⟩ := id hR
  suffices hgo : ∀ (H : Heap) (locs : List Loc), wd D A s.heap cnt ad (rq ad ct t x8 F) H locs → W p l e (rmL 1 0 0) s m args below meth c H locs 0 0 Q (F0 m 0 ls []) from hgo _ _ hw
  clear hw
  intro H locs hw
  refine lv_aload_n hx hb dX7_fail_0 rfl (lv_at hl 0 rfl) ?_
  refine x_get E hw 13 0 (h13) (upd2_at _ _ _ _) cl_7 ly_7 3 (by decide) tw_56 rfl dX7_fail_1 ?_
  refine lv_iconst (v := (-1)) hx hb dX7_fail_4 (by decide) ?_
  refine lv_icmp_ne (tgt := 16) hx hb dX7_fail_5 (by decide) (fun c_5 => ?_) (fun c_5 => ?_)
  · skip
    subst hQ
    exact x_vretW E hr hlk hw (by decide) (by decide) (⟨rfl, by simp [c_5]⟩) dX7_fail_16
  · skip
    refine lv_aload_n hx hb dX7_fail_8 rfl (lv_at hl 0 rfl) ?_
    refine lv_aload_n hx hb dX7_fail_9 rfl (lv_at hl 0 rfl) ?_
    refine x_get E hw 13 0 (h13) (upd2_at _ _ _ _) cl_7 ly_7 2 (by decide) tw_55 rfl dX7_fail_10 ?_
    refine x_put E hw 13 0 (h13) (upd2_at _ _ _ _) cl_7 ly_7 tyX7 tyX7_ok nmX7 3 (by decide) tw_56 (Or.inl rfl) (by rfl) (by rfl) (Nat.le_of_ble_eq_true rfl) dX7_fail_13 (fun H locs hw => ?_)
    rw [rq_3] at hw
    subst hQ
    exact x_vretW E hr hlk hw (by decide) (by decide) (⟨rfl, by simp [c_5]⟩) dX7_fail_16
set_option maxHeartbeats 4000000 in
set_option maxRecDepth 100000 in
theorem kX7_take (l : Launch) (D : va_G) (ca : Nat → ClassId) (cnt : Nat → Nat) (ad : Nat → Nat → Nat) (ct : Nat → Nat → va_E) (z9 : Nat) (t : Nat) (n1 : Nat) (b1 : Nat → Int32) (vs : Nat → Int32) (a : Nat) (F : Int32) (a1 : Int32) (hR : rdOK ca cnt ad ct t n1 b1 vs) (ha : a ≤ n1) (hw9 : ¬ a1 = -1) : Met l yX7_take (wz yX7_take cX7_take 3 (some .boolean)) (rmL 4 0 0) (va_Pc [.ref (ad 13 0), .int a1] (fun U => (U.heap.size = z9 ∧ wq D cnt ad (rq ad ct t (nI a) F) U.heap) ∧ gK D ca U)) (QcW D (wA cnt ad z9) (fun rv u => (F = -1 ∧ (bC b1 n1) (pSk (bC b1 n1) n1 a) = a1 ∧ rv = some (.int 1) ∧ u = (cnt, ad, rq ad ct t (nI ((pSk (bC b1 n1) n1 a) + 1)) (F))) ∨ (¬ (F = -1 ∧ (bC b1 n1) (pSk (bC b1 n1) n1 a) = a1) ∧ rv = some (.int 0) ∧ u = (cnt, ad, rq ad ct t (nI (pSk (bC b1 n1) n1 a)) (F))))) 0 0 (wA cnt ad z9) := by
  refine x_met (by decide) (Nat.le_of_ble_eq_true rfl) ?_
  intro p e s m below meth c E hr hlk hnm hq ls hl
  obtain ⟨hsz9, hq⟩ := hq
  subst hsz9
  generalize hav : ([.ref (ad 13 0), .int a1] : List Value).toArray = args at E ⊢
  have hx := E.1
  have hb := E.2.1
  have hown := E.2.2.2.1
  have hts := E.2.2.2.2.1
  have hw : wd D (wA cnt ad s.heap.size) s.heap cnt ad (rq ad ct t (nI a) F) s.heap [] := wd.start hq
  generalize hQ : MQ below (QcW D (wA cnt ad s.heap.size) (fun rv u => (F = -1 ∧ (bC b1 n1) (pSk (bC b1 n1) n1 a) = a1 ∧ rv = some (.int 1) ∧ u = (cnt, ad, rq ad ct t (nI ((pSk (bC b1 n1) n1 a) + 1)) (F))) ∨ (¬ (F = -1 ∧ (bC b1 n1) (pSk (bC b1 n1) n1 a) = a1) ∧ rv = some (.int 0) ∧ u = (cnt, ad, rq ad ct t (nI (pSk (bC b1 n1) n1 a)) (F))))) args s 0 0 (wA cnt ad s.heap.size) = Q
  generalize hA9 : wA cnt ad s.heap.size = A at hw hQ
  have hl : lv_has ls 3 [(0, .ref (ad 13 0)), (1, .int a1)] := hl
  obtain ⟨h13, h11, htc, h12, hbc, hn1, h14, hvc⟩ := id hR
  suffices hgo : ∀ (H : Heap) (locs : List Loc), wd D A s.heap cnt ad (rq ad ct t (nI a) F) H locs → W p l e (rmL 4 0 0) s m args below meth c H locs 0 0 Q (F0 m 0 ls []) from hgo _ _ hw
  clear hw
  intro H locs hw
  refine lv_aload_n hx hb dX7_take_0 rfl (lv_at hl 0 rfl) ?_
  refine x_wrote hw (x_runV (rest := []) E cbX7_next tw_424 (kX7_next l D ca cnt ad ct H.size t n1 b1 vs a F hR (by omega)) ⟨rfl, rfl, by decide, by decide⟩ (x_recv E hw cl_7 (h13) (upd2_at _ _ _ _)) (fun _ _ _ _ h => h) (fun U hU _ => by rw [hU]; exact ⟨rfl, hw.1⟩) rfl hl.1 rfl (Nat.le_of_ble_eq_true rfl) dX7_take_1 ⟨by decide, by decide⟩) (fun rv9 u9 H locs hp9 hw hz9 hk9 => ?_)
  obtain ⟨k1, hk1⟩ : ∃ z, z = pSk (bC b1 n1) n1 a := ⟨_, rfl⟩
  rw [← hk1] at hp9
  have hkg1 : a ≤ k1 := by rw [hk1]; exact pSk_ge _ _ _
  have hkl1 : k1 ≤ n1 := by rw [hk1]; exact pSk_le (by omega)
  obtain ⟨hrv9, hu9⟩ := hp9
  subst hrv9
  subst hu9
  have hw : wd D A s.heap cnt ad (rq ad ct t (nI k1) F) H locs := hw
  refine lv_iload_n hx hb dX7_take_4 rfl (lv_at hl 1 rfl) ?_
  refine lv_icmp_ne (tgt := 12) hx hb dX7_take_5 (by decide) (fun c_5 => ?_) (fun c_5 => ?_)
  · skip
    have hc_n : ¬ (F = -1 ∧ (bC b1 n1) k1 = a1) := fun q => c_5 (by rw [if_pos q.1]; exact q.2)
    refine lv_iconst (v := 0) hx hb dX7_take_12 (by decide) ?_
    refine lv_istore_n (lv' := [(2, .int 0), (0, .ref (ad 13 0)), (1, .int a1)]) hx hb dX7_take_13 rfl hl (by decide) rfl (fun ls hl => ?_)
    refine lv_aload_n hx hb dX7_take_14 rfl (lv_at hl 1 rfl) ?_
    refine lv_dup hx hb dX7_take_15 rfl ?_
    refine x_get E hw 13 0 (h13) (upd2_at _ _ _ _) cl_7 ly_7 2 (by decide) tw_55 rfl dX7_take_16 ?_
    refine lv_iload_n hx hb dX7_take_19 rfl (lv_at hl 0 rfl) ?_
    refine lv_if_eq (tgt := 27) hx hb dX7_take_20 (by decide) (fun c_20 => ?_) (fun c_20 => ?_)
    · skip
      refine lv_iconst (v := 0) hx hb dX7_take_27 (by decide) ?_
      refine lv_iadd hx hb dX7_take_28 ?_
      refine x_top (x := (nI k1 + 0)) (y := (nI k1)) (Int32.add_zero _) ?_
      refine x_put E hw 13 0 (h13) (upd2_at _ _ _ _) cl_7 ly_7 tyX7 tyX7_ok nmX7 2 (by decide) tw_55 (Or.inl rfl) (by rfl) (by rfl) (Nat.le_of_ble_eq_true rfl) dX7_take_29 (fun H locs hw => ?_)
      rw [rq_2] at hw
      refine lv_iload_n hx hb dX7_take_32 rfl (lv_at hl 0 rfl) ?_
      subst hQ
      exact x_zretW E hr hlk (by decide) hw (by decide) (by decide) (Or.inr ⟨by rw [← hk1]; exact hc_n, rfl, by rw [← hk1]⟩) dX7_take_33
    · skip
      exact absurd c_20 (by decide)
  · skip
    have hc_F : F = -1 := by by_cases q : F = -1; exact q; rw [if_neg q] at c_5; exact absurd c_5.symm hw9
    have hc_k : (bC b1 n1) k1 = a1 := by have q9 := c_5; rw [if_pos hc_F] at q9; exact q9
    refine lv_iconst (v := 1) hx hb dX7_take_8 (by decide) ?_
    refine lv_goto (tgt := 13) hx hb dX7_take_9 (by decide) ?_
    refine lv_istore_n (lv' := [(2, .int 1), (0, .ref (ad 13 0)), (1, .int a1)]) hx hb dX7_take_13 rfl hl (by decide) rfl (fun ls hl => ?_)
    refine lv_aload_n hx hb dX7_take_14 rfl (lv_at hl 1 rfl) ?_
    refine lv_dup hx hb dX7_take_15 rfl ?_
    refine x_get E hw 13 0 (h13) (upd2_at _ _ _ _) cl_7 ly_7 2 (by decide) tw_55 rfl dX7_take_16 ?_
    refine lv_iload_n hx hb dX7_take_19 rfl (lv_at hl 0 rfl) ?_
    refine lv_if_eq (tgt := 27) hx hb dX7_take_20 (by decide) (fun c_20 => ?_) (fun c_20 => ?_)
    · skip
      exact absurd c_20 (by decide)
    · skip
      refine lv_iconst (v := 1) hx hb dX7_take_23 (by decide) ?_
      refine lv_goto (tgt := 28) hx hb dX7_take_24 (by decide) ?_
      refine lv_iadd hx hb dX7_take_28 ?_
      refine x_top (x := (nI k1 + 1)) (y := (nI (k1 + 1))) (nI_1 _) ?_
      refine x_put E hw 13 0 (h13) (upd2_at _ _ _ _) cl_7 ly_7 tyX7 tyX7_ok nmX7 2 (by decide) tw_55 (Or.inl rfl) (by rfl) (by rfl) (Nat.le_of_ble_eq_true rfl) dX7_take_29 (fun H locs hw => ?_)
      rw [rq_2] at hw
      refine lv_iload_n hx hb dX7_take_32 rfl (lv_at hl 0 rfl) ?_
      subst hQ
      exact x_zretW E hr hlk (by decide) hw (by decide) (by decide) (Or.inl ⟨hc_F, by rw [← hk1]; exact hc_k, rfl, by rw [← hk1]⟩) dX7_take_33
set_option maxHeartbeats 4000000 in
set_option maxRecDepth 100000 in
theorem kX7_isDigit (l : Launch) (D : va_G) (ca : Nat → ClassId) (a1 : Int32)  : Met l yX7_isDigit (wz yX7_isDigit cX7_isDigit 1 (some .boolean)) (rmL 2 0 0) (va_Pc [.int a1] (fun U => True ∧ gK D ca U)) (QcRead (bB (isD a1))) 0 0 (fun _ => False) := by
  refine x_met (by decide) (Nat.le_of_ble_eq_true rfl) ?_
  intro p e s m below meth c E hr hlk hnm hq ls hl
  generalize hav : ([.int a1] : List Value).toArray = args at E ⊢
  have hx := E.1
  have hb := E.2.1
  have hown := E.2.2.2.1
  have hts := E.2.2.2.2.1
  generalize hQ : MQ below (QcRead (bB (isD a1))) args s 0 0 (fun _ => False) = Q
  have hl : lv_has ls 1 [(0, .int a1)] := hl
  refine lv_iload_n hx hb dX7_isDigit_0 rfl (lv_at hl 0 rfl) ?_
  refine lv_bipush (v := 48) hx hb dX7_isDigit_1 (by decide) ?_
  refine lv_bipush (v := 57) hx hb dX7_isDigit_3 (by decide) ?_
  refine x_read (x_runSN (rest := []) E cbX9_within E.2.2.2.2.2.2.2.2.2.2.2.1 (kX9_within l D ca a1 48 57 ) ⟨rfl, rfl, by decide, by decide⟩ (fun _ _ _ _ h => h) (fun _ _ _ => trivial) rfl hl.1 rfl (Nat.le_of_ble_eq_true rfl) dX7_isDigit_5 ⟨by decide, by decide⟩) ?_
  subst hQ
  exact x_zret E hr hlk (bB_or _) (rfl) dX7_isDigit_8
set_option maxHeartbeats 4000000 in
set_option maxRecDepth 100000 in
theorem kX7_number (l : Launch) (D : va_G) (ca : Nat → ClassId) (cnt : Nat → Nat) (ad : Nat → Nat → Nat) (ct : Nat → Nat → va_E) (z9 : Nat) (t : Nat) (n1 : Nat) (b1 : Nat → Int32) (vs : Nat → Int32) (a : Nat) (F : Int32) (hR : rdOK ca cnt ad ct t n1 b1 vs) (ha : a ≤ n1) : Met l yX7_number (wz yX7_number cX7_number 3 (some .int)) (rmL 4 0 0) (va_Pc [.ref (ad 13 0)] (fun U => (U.heap.size = z9 ∧ wq D cnt ad (rq ad ct t (nI a) F) U.heap) ∧ gK D ca U)) (QcW D (wA cnt ad z9) (fun rv u => (¬ F = -1 ∧ rv = some (.int 0) ∧ u = (cnt, ad, rq ad ct t (nI (pSk (bC b1 n1) n1 a)) (F))) ∨ (F = -1 ∧ isD ((bC b1 n1) (pSk (bC b1 n1) n1 a)) = false ∧ rv = some (.int 0) ∧ u = (cnt, ad, rq ad ct t (nI (pSk (bC b1 n1) n1 a)) (nI (pSk (bC b1 n1) n1 a)))) ∨ (F = -1 ∧ isD ((bC b1 n1) (pSk (bC b1 n1) n1 a)) = true ∧ rv = some (.int (pDg (bC b1 n1) 4 (pSk (bC b1 n1) n1 a) 0).2) ∧ (pDg (bC b1 n1) 4 (pSk (bC b1 n1) n1 a) 0).1 ≤ n1 ∧ (pSk (bC b1 n1) n1 a) < (pDg (bC b1 n1) 4 (pSk (bC b1 n1) n1 a) 0).1 ∧ u = (cnt, ad, rq ad ct t (nI (pDg (bC b1 n1) 4 (pSk (bC b1 n1) n1 a) 0).1) (F))))) 0 0 (wA cnt ad z9) := by
  refine x_met (by decide) (Nat.le_of_ble_eq_true rfl) ?_
  intro p e s m below meth c E hr hlk hnm hq ls hl
  obtain ⟨hsz9, hq⟩ := hq
  subst hsz9
  generalize hav : ([.ref (ad 13 0)] : List Value).toArray = args at E ⊢
  have hx := E.1
  have hb := E.2.1
  have hown := E.2.2.2.1
  have hts := E.2.2.2.2.1
  have hw : wd D (wA cnt ad s.heap.size) s.heap cnt ad (rq ad ct t (nI a) F) s.heap [] := wd.start hq
  generalize hQ : MQ below (QcW D (wA cnt ad s.heap.size) (fun rv u => (¬ F = -1 ∧ rv = some (.int 0) ∧ u = (cnt, ad, rq ad ct t (nI (pSk (bC b1 n1) n1 a)) (F))) ∨ (F = -1 ∧ isD ((bC b1 n1) (pSk (bC b1 n1) n1 a)) = false ∧ rv = some (.int 0) ∧ u = (cnt, ad, rq ad ct t (nI (pSk (bC b1 n1) n1 a)) (nI (pSk (bC b1 n1) n1 a)))) ∨ (F = -1 ∧ isD ((bC b1 n1) (pSk (bC b1 n1) n1 a)) = true ∧ rv = some (.int (pDg (bC b1 n1) 4 (pSk (bC b1 n1) n1 a) 0).2) ∧ (pDg (bC b1 n1) 4 (pSk (bC b1 n1) n1 a) 0).1 ≤ n1 ∧ (pSk (bC b1 n1) n1 a) < (pDg (bC b1 n1) 4 (pSk (bC b1 n1) n1 a) 0).1 ∧ u = (cnt, ad, rq ad ct t (nI (pDg (bC b1 n1) 4 (pSk (bC b1 n1) n1 a) 0).1) (F))))) args s 0 0 (wA cnt ad s.heap.size) = Q
  generalize hA9 : wA cnt ad s.heap.size = A at hw hQ
  have hl : lv_has ls 3 [(0, .ref (ad 13 0))] := hl
  obtain ⟨h13, h11, htc, h12, hbc, hn1, h14, hvc⟩ := id hR
  suffices hgo : ∀ (H : Heap) (locs : List Loc), wd D A s.heap cnt ad (rq ad ct t (nI a) F) H locs → W p l e (rmL 4 0 0) s m args below meth c H locs 0 0 Q (F0 m 0 ls []) from hgo _ _ hw
  clear hw
  intro H locs hw
  refine lv_aload_n hx hb dX7_number_0 rfl (lv_at hl 0 rfl) ?_
  refine x_wrote hw (x_runV (rest := []) E cbX7_next tw_424 (kX7_next l D ca cnt ad ct H.size t n1 b1 vs a F hR (by omega)) ⟨rfl, rfl, by decide, by decide⟩ (x_recv E hw cl_7 (h13) (upd2_at _ _ _ _)) (fun _ _ _ _ h => h) (fun U hU _ => by rw [hU]; exact ⟨rfl, hw.1⟩) rfl hl.1 rfl (Nat.le_of_ble_eq_true rfl) dX7_number_1 ⟨by decide, by decide⟩) (fun rv9 u9 H locs hp9 hw hz9 hk9 => ?_)
  obtain ⟨k1, hk1⟩ : ∃ z, z = pSk (bC b1 n1) n1 a := ⟨_, rfl⟩
  rw [← hk1] at hp9
  have hkg1 : a ≤ k1 := by rw [hk1]; exact pSk_ge _ _ _
  have hkl1 : k1 ≤ n1 := by rw [hk1]; exact pSk_le (by omega)
  obtain ⟨hrv9, hu9⟩ := hp9
  subst hrv9
  subst hu9
  have hw : wd D A s.heap cnt ad (rq ad ct t (nI k1) F) H locs := hw
  refine x_read (x_runS (rest := []) E cbX7_isDigit tw_453 (kX7_isDigit l D ca (if F = -1 then (bC b1 n1) k1 else -1) ) ⟨rfl, rfl, by decide, by decide⟩ (fun _ _ _ _ h => h) (fun _ _ _ => trivial) rfl hl.1 rfl (Nat.le_of_ble_eq_true rfl) dX7_number_4 ⟨by decide, by decide⟩) ?_
  refine lv_if_ne (tgt := 16) hx hb dX7_number_7 (by decide) (fun c_7 => ?_) (fun c_7 => ?_)
  · skip
    have c_7 := bB_n0.mp c_7
    have hF : F = -1 := by by_cases q : F = -1; exact q; rw [if_neg q] at c_7; exact absurd c_7 (by decide)
    have hD : isD ((bC b1 n1) k1) = true := by have q9 := c_7; rw [if_pos hF] at q9; exact q9
    refine lv_iconst (v := 0) hx hb dX7_number_16 (by decide) ?_
    refine lv_istore_n (lv' := [(1, .int 0), (0, .ref (ad 13 0))]) hx hb dX7_number_17 rfl hl (by decide) rfl (fun ls hl => ?_)
    refine lv_iconst (v := 0) hx hb dX7_number_18 (by decide) ?_
    refine lv_istore_n (lv' := [(2, .int 0), (1, .int 0), (0, .ref (ad 13 0))]) hx hb dX7_number_19 rfl hl (by decide) rfl (fun ls hl => ?_)
    have lp20 : ∀ (n : Nat) (j : Nat) (b : Nat) (x1 : Int32), (j ≤ 4) → (b = k1 + (4 - j)) → (b ≤ n1) → (pDg (bC b1 n1) j b x1 = pDg (bC b1 n1) 4 k1 0) → (j < n) → ∀ (H : Heap) (locs : List Loc), wd D A s.heap cnt ad (rq ad ct t (nI b) F) H locs → ∀ ls : Array Slot, lv_has ls 3 [(0, .ref (ad 13 0)), (1, .int x1), (2, .int (nI (4 - j)))] → W p l e (rmL 4 0 0) s m args below meth c H locs 0 0 Q (F0 m 20 ls []) := by
      intro n
      induction n with
      | zero =>
        intro j b x1 hj hbj hbt hdg hfu H locs hw ls hl
        exact absurd hfu (by omega)
      | succ n ih20 =>
        intro j b x1 hj hbj hbt hdg hfu H locs hw ls hl
        refine lv_iload_n hx hb dX7_number_20 rfl (lv_at hl 2 rfl) ?_
        refine lv_iconst (v := 4) hx hb dX7_number_21 (by decide) ?_
        refine lv_icmp_ge (tgt := 78) hx hb dX7_number_22 (by decide) (fun c_22 => ?_) (fun c_22 => ?_)
        · skip
          have hj0 : j = 0 := by have q9 := (nI_leI (a := 4) (b := 4 - j) (by omega) (by omega)).mp c_22; omega
          have hpd : pDg (bC b1 n1) j b x1 = (b, x1) := by rw [hj0]; rfl
          have hbk : k1 < b := by omega
          refine lv_iload_n hx hb dX7_number_78 rfl (lv_at hl 1 rfl) ?_
          subst hQ
          exact x_iretW E hr hlk hw (by decide) (by decide) (Or.inr (Or.inr ⟨hF, by rw [← hk1]; exact hD, by rw [← hk1, ← hdg, hpd], by rw [← hk1, ← hdg, hpd]; exact hbt, by rw [← hk1, ← hdg, hpd]; exact hbk, by rw [← hk1, ← hdg, hpd]⟩)) dX7_number_79
        · skip
          have hj0 : ¬ j = 0 := by have q9 := mt (nI_leI (a := 4) (b := 4 - j) (by omega) (by omega)).mpr c_22; omega
          refine lv_aload_n hx hb dX7_number_25 rfl (lv_at hl 0 rfl) ?_
          refine x_get E hw 13 0 (h13) (upd2_at _ _ _ _) cl_7 ly_7 1 (by decide) tw_54 rfl dX7_number_26 ?_
          refine lv_aload_n hx hb dX7_number_29 rfl (lv_at hl 0 rfl) ?_
          refine x_get E hw 13 0 (h13) (upd2_at _ _ _ _) cl_7 ly_7 2 (by decide) tw_55 rfl dX7_number_30 ?_
          refine x_read (x_runV (rest := []) E cbX8_byteAt tw_428 (kX8_byteAt l D ca cnt ad (rq ad ct t (nI b) F)  t _ _ (nI b) (h11) ((upd2_k _ _ _ _ (by decide)).trans htc) (h12) ((upd2_k _ _ _ _ (by decide)).trans hbc) (hn1)) ⟨rfl, rfl, by decide, by decide⟩ (x_recv E hw cl_8 (h11) ((upd2_k _ _ _ _ (by decide)).trans htc)) (fun _ _ _ _ h => h) (fun U hU _ => by rw [hU]; exact hw.1) rfl hl.1 rfl (Nat.le_of_ble_eq_true rfl) dX7_number_33 ⟨by decide, by decide⟩) ?_
          refine x_top (x := (cBy n1 b1 (nI b))) (y := ((bC b1 n1) b)) (cBy_eq hn1 (by omega)) ?_
          refine x_read (x_runS (rest := []) E cbX7_isDigit tw_453 (kX7_isDigit l D ca ((bC b1 n1) b) ) ⟨rfl, rfl, by decide, by decide⟩ (fun _ _ _ _ h => h) (fun _ _ _ => trivial) rfl hl.1 rfl (Nat.le_of_ble_eq_true rfl) dX7_number_36 ⟨by decide, by decide⟩) ?_
          refine lv_if_eq (tgt := 78) hx hb dX7_number_39 (by decide) (fun c_39 => ?_) (fun c_39 => ?_)
          · skip
            have c_39 := bB_0.mp c_39
            have hpd : pDg (bC b1 n1) j b x1 = (b, x1) := pDg_n c_39
            have hbk : k1 < b := by by_cases q : j = 4; rw [hbj, q, show k1 + (4 - 4) = k1 by omega, hD] at c_39; cases c_39; omega
            refine lv_iload_n hx hb dX7_number_78 rfl (lv_at hl 1 rfl) ?_
            subst hQ
            exact x_iretW E hr hlk hw (by decide) (by decide) (Or.inr (Or.inr ⟨hF, by rw [← hk1]; exact hD, by rw [← hk1, ← hdg, hpd], by rw [← hk1, ← hdg, hpd]; exact hbt, by rw [← hk1, ← hdg, hpd]; exact hbk, by rw [← hk1, ← hdg, hpd]⟩)) dX7_number_79
          · skip
            have c_39 := bB_n0.mp c_39
            have hb1 : b < n1 := isD_lt c_39
            refine lv_bipush (v := 10) hx hb dX7_number_42 (by decide) ?_
            refine lv_iload_n hx hb dX7_number_44 rfl (lv_at hl 1 rfl) ?_
            refine lv_imul hx hb dX7_number_45 ?_
            refine lv_aload_n hx hb dX7_number_46 rfl (lv_at hl 0 rfl) ?_
            refine x_get E hw 13 0 (h13) (upd2_at _ _ _ _) cl_7 ly_7 1 (by decide) tw_54 rfl dX7_number_47 ?_
            refine lv_aload_n hx hb dX7_number_50 rfl (lv_at hl 0 rfl) ?_
            refine x_get E hw 13 0 (h13) (upd2_at _ _ _ _) cl_7 ly_7 2 (by decide) tw_55 rfl dX7_number_51 ?_
            refine x_read (x_runV (rest := [.int (10 * x1)]) E cbX8_byteAt tw_428 (kX8_byteAt l D ca cnt ad (rq ad ct t (nI b) F)  t _ _ (nI b) (h11) ((upd2_k _ _ _ _ (by decide)).trans htc) (h12) ((upd2_k _ _ _ _ (by decide)).trans hbc) (hn1)) ⟨rfl, rfl, by decide, by decide⟩ (x_recv E hw cl_8 (h11) ((upd2_k _ _ _ _ (by decide)).trans htc)) (fun _ _ _ _ h => h) (fun U hU _ => by rw [hU]; exact hw.1) rfl hl.1 rfl (Nat.le_of_ble_eq_true rfl) dX7_number_54 ⟨by decide, by decide⟩) ?_
            refine x_top (x := (cBy n1 b1 (nI b))) (y := ((bC b1 n1) b)) (cBy_eq hn1 (by omega)) ?_
            refine lv_iadd hx hb dX7_number_57 ?_
            refine lv_bipush (v := 48) hx hb dX7_number_58 (by decide) ?_
            refine lv_isub hx hb dX7_number_60 ?_
            refine lv_istore_n (lv' := [(1, .int (((10 * x1) + (bC b1 n1) b) - 48)), (0, .ref (ad 13 0)), (2, .int (nI (4 - j)))]) hx hb dX7_number_61 rfl hl (by decide) rfl (fun ls hl => ?_)
            refine lv_aload_n hx hb dX7_number_62 rfl (lv_at hl 1 rfl) ?_
            refine lv_dup hx hb dX7_number_63 rfl ?_
            refine x_get E hw 13 0 (h13) (upd2_at _ _ _ _) cl_7 ly_7 2 (by decide) tw_55 rfl dX7_number_64 ?_
            refine lv_iconst (v := 1) hx hb dX7_number_67 (by decide) ?_
            refine lv_iadd hx hb dX7_number_68 ?_
            refine x_top (x := (nI b + 1)) (y := nI (b + 1)) (nI_1 _) ?_
            refine x_put E hw 13 0 (h13) (upd2_at _ _ _ _) cl_7 ly_7 tyX7 tyX7_ok nmX7 2 (by decide) tw_55 (Or.inl rfl) (by rfl) (by rfl) (Nat.le_of_ble_eq_true rfl) dX7_number_69 (fun H locs hw => ?_)
            rw [rq_2] at hw
            refine lv_iinc (v := (nI (4 - (j - 1)))) (lv' := [(2, .int (nI (4 - (j - 1)))), (1, .int (((10 * x1) + (bC b1 n1) b) - 48)), (0, .ref (ad 13 0))]) hx hb dX7_number_72 hl (k := 2) rfl (by show nI (4 - j) + 1 = _; rw [nI_1]; exact congrArg nI (by omega)) (by decide) rfl (fun ls hl => ?_)
            refine lv_goto (tgt := 20) hx hb dX7_number_75 (by decide) ?_
            exact ih20 (j - 1) (b + 1) (((10 * x1) + (bC b1 n1) b) - 48) (by omega) (by omega) (by omega) (by rw [← hdg]; obtain ⟨j8, rfl⟩ : ∃ z, j = z + 1 := ⟨j - 1, by omega⟩; rw [pDg, if_pos c_39]; rfl) (by omega) _ _ (hw) ls (lv_sub hl [2, 1, 0] (rfl))
    exact lp20 5 4 k1 0 (Nat.le_refl _) (by omega) (by omega) (rfl) (by omega) _ _ (hw) ls (lv_sub hl [2, 1, 0] (rfl))
  · skip
    have c_7 := bB_0.mp c_7
    have hc_7 : isD (if F = -1 then (bC b1 n1) k1 else -1) = false := c_7
    refine lv_aload_n hx hb dX7_number_10 rfl (lv_at hl 0 rfl) ?_
    refine x_wrote hw (x_runV (rest := []) E cbX7_fail tw_441 (kX7_fail l D ca cnt ad ct H.size t n1 b1 vs (nI k1) F hR) ⟨rfl, rfl, by decide, by decide⟩ (x_recv E hw cl_7 (h13) (upd2_at _ _ _ _)) (fun _ _ _ _ h => h) (fun U hU _ => by rw [hU]; exact ⟨rfl, hw.1⟩) rfl hl.1 rfl (Nat.le_of_ble_eq_true rfl) dX7_number_11 ⟨by decide, by decide⟩) (fun rv9 u9 H locs hp9 hw hz9 hk9 => ?_)
    obtain ⟨hrv9, hu9⟩ := hp9
    subst hrv9
    subst hu9
    have hw : wd D A s.heap cnt ad (rq ad ct t (nI k1) (if F = -1 then nI k1 else F)) H locs := hw
    refine lv_iconst (v := 0) hx hb dX7_number_14 (by decide) ?_
    subst hQ
    exact x_iretW E hr hlk hw (by decide) (by decide) (by rw [← hk1]; by_cases q : F = -1; exact Or.inr (Or.inl ⟨q, by rw [if_pos q] at hc_7; exact hc_7, rfl, by rw [if_pos q]⟩); exact Or.inl ⟨q, rfl, by rw [if_neg q]⟩) dX7_number_15
set_option maxHeartbeats 4000000 in
set_option maxRecDepth 100000 in
theorem kX7_letterValue (l : Launch) (D : va_G) (ca : Nat → ClassId) (cnt : Nat → Nat) (ad : Nat → Nat → Nat) (ct : Nat → Nat → va_E) (z9 : Nat) (t : Nat) (n1 : Nat) (b1 : Nat → Int32) (vs : Nat → Int32) (a : Nat) (hR : rdOK ca cnt ad ct t n1 b1 vs) (ha : a ≤ n1) : Met l yX7_letterValue (wz yX7_letterValue cX7_letterValue 3 (some .int)) (rmL 4 0 0) (va_Pc [.ref (ad 13 0)] (fun U => (U.heap.size = z9 ∧ wq D cnt ad (rq ad ct t (nI a) (-1)) U.heap ∧ lets (wA cnt ad z9) U) ∧ gK D ca U)) (QcW D (wA cnt ad z9) (fun rv u => (isL ((bC b1 n1) (pSk (bC b1 n1) n1 a)) = true ∧ rv = some (.int (vL vs ((bC b1 n1) (pSk (bC b1 n1) n1 a)))) ∧ u = (cnt, ad, rq ad ct t (nI ((pSk (bC b1 n1) n1 a) + 1)) (-1))) ∨ (isL ((bC b1 n1) (pSk (bC b1 n1) n1 a)) = false ∧ rv = some (.int 0) ∧ u = (cnt, ad, rq ad ct t (nI (pSk (bC b1 n1) n1 a)) (nI (pSk (bC b1 n1) n1 a)))))) 0 0 (wA cnt ad z9) := by
  refine x_met (by decide) (Nat.le_of_ble_eq_true rfl) ?_
  intro p e s m below meth c E hr hlk hnm hq ls hl
  obtain ⟨hsz9, hq, hLt⟩ := hq
  subst hsz9
  generalize hav : ([.ref (ad 13 0)] : List Value).toArray = args at E ⊢
  have hx := E.1
  have hb := E.2.1
  have hown := E.2.2.2.1
  have hts := E.2.2.2.2.1
  have hw : wd D (wA cnt ad s.heap.size) s.heap cnt ad (rq ad ct t (nI a) (-1)) s.heap [] := wd.start hq
  generalize hQ : MQ below (QcW D (wA cnt ad s.heap.size) (fun rv u => (isL ((bC b1 n1) (pSk (bC b1 n1) n1 a)) = true ∧ rv = some (.int (vL vs ((bC b1 n1) (pSk (bC b1 n1) n1 a)))) ∧ u = (cnt, ad, rq ad ct t (nI ((pSk (bC b1 n1) n1 a) + 1)) (-1))) ∨ (isL ((bC b1 n1) (pSk (bC b1 n1) n1 a)) = false ∧ rv = some (.int 0) ∧ u = (cnt, ad, rq ad ct t (nI (pSk (bC b1 n1) n1 a)) (nI (pSk (bC b1 n1) n1 a)))))) args s 0 0 (wA cnt ad s.heap.size) = Q
  generalize hA9 : wA cnt ad s.heap.size = A at hw hQ hLt
  have hl : lv_has ls 3 [(0, .ref (ad 13 0))] := hl
  obtain ⟨tL, hLz, hLT⟩ := id hLt
  obtain ⟨h13, h11, htc, h12, hbc, hn1, h14, hvc⟩ := id hR
  suffices hgo : ∀ (H : Heap) (locs : List Loc), wd D A s.heap cnt ad (rq ad ct t (nI a) (-1)) H locs → W p l e (rmL 4 0 0) s m args below meth c H locs 0 0 Q (F0 m 0 ls []) from hgo _ _ hw
  clear hw
  intro H locs hw
  refine lv_aload_n hx hb dX7_letterValue_0 rfl (lv_at hl 0 rfl) ?_
  refine x_wrote hw (x_runV (rest := []) E cbX7_next tw_424 (kX7_next l D ca cnt ad ct H.size t n1 b1 vs a (-1) hR (by omega)) ⟨rfl, rfl, by decide, by decide⟩ (x_recv E hw cl_7 (h13) (upd2_at _ _ _ _)) (fun _ _ _ _ h => h) (fun U hU _ => by rw [hU]; exact ⟨rfl, hw.1⟩) rfl hl.1 rfl (Nat.le_of_ble_eq_true rfl) dX7_letterValue_1 ⟨by decide, by decide⟩) (fun rv9 u9 H locs hp9 hw hz9 hk9 => ?_)
  obtain ⟨k1, hk1⟩ : ∃ z, z = pSk (bC b1 n1) n1 a := ⟨_, rfl⟩
  rw [← hk1] at hp9
  have hkg1 : a ≤ k1 := by rw [hk1]; exact pSk_ge _ _ _
  have hkl1 : k1 ≤ n1 := by rw [hk1]; exact pSk_le (by omega)
  obtain ⟨hrv9, hu9⟩ := hp9
  rw [if_pos rfl] at hrv9
  subst hrv9
  subst hu9
  have hw : wd D A s.heap cnt ad (rq ad ct t (nI k1) (-1)) H locs := hw
  refine lv_istore_n (lv' := [(1, .int ((bC b1 n1) k1)), (0, .ref (ad 13 0))]) hx hb dX7_letterValue_4 rfl hl (by decide) rfl (fun ls hl => ?_)
  refine lv_iconst (v := 0) hx hb dX7_letterValue_5 (by decide) ?_
  refine lv_istore_n (lv' := [(2, .int 0), (1, .int ((bC b1 n1) k1)), (0, .ref (ad 13 0))]) hx hb dX7_letterValue_6 rfl hl (by decide) rfl (fun ls hl => ?_)
  have lp7 : ∀ (n : Nat) (i : Nat), (i ≤ 5) → (∀ j, j < i → ¬ lF j = (bC b1 n1) k1) → (5 - i < n) → ∀ (H : Heap) (locs : List Loc), wd D A s.heap cnt ad (rq ad ct t (nI k1) (-1)) H locs → ∀ ls : Array Slot, lv_has ls 3 [(0, .ref (ad 13 0)), (1, .int ((bC b1 n1) k1)), (2, .int (nI i))] → W p l e (rmL 4 0 0) s m args below meth c H locs 0 0 Q (F0 m 7 ls []) := by
    intro n
    induction n with
    | zero =>
      intro i hi hno hfu H locs hw ls hl
      exact absurd hfu (by omega)
    | succ n ih7 =>
      intro i hi hno hfu H locs hw ls hl
      refine lv_iload_n hx hb dX7_letterValue_7 rfl (lv_at hl 2 rfl) ?_
      refine va_gets hx hb hLz hw.2.2.1 hown (hts _ tw_50) (fun _ h => h) dX7_letterValue_8 ?_
      refine va_tlen hx hb hLT hw.2.2.1 (v := 5) rfl dX7_letterValue_11 ?_
      refine lv_icmp_ge (tgt := 47) hx hb dX7_letterValue_12 (by decide) (fun c_12 => ?_) (fun c_12 => ?_)
      · skip
        have hge : i = 5 := by have q9 := (nI_leI (a := 5) (b := i) (by omega) (by omega)).mp c_12; omega
        refine lv_aload_n hx hb dX7_letterValue_47 rfl (lv_at hl 0 rfl) ?_
        refine x_wrote hw (x_runV (rest := []) E cbX7_fail tw_441 (kX7_fail l D ca cnt ad ct H.size t n1 b1 vs (nI k1) (-1) hR) ⟨rfl, rfl, by decide, by decide⟩ (x_recv E hw cl_7 (h13) (upd2_at _ _ _ _)) (fun _ _ _ _ h => h) (fun U hU _ => by rw [hU]; exact ⟨rfl, hw.1⟩) rfl hl.1 rfl (Nat.le_of_ble_eq_true rfl) dX7_letterValue_48 ⟨by decide, by decide⟩) (fun rv9 u9 H locs hp9 hw hz9 hk9 => ?_)
        obtain ⟨hrv9, hu9⟩ := hp9
        rw [if_pos rfl] at hu9
        subst hrv9
        subst hu9
        have hw : wd D A s.heap cnt ad (rq ad ct t (nI k1) (nI k1)) H locs := hw
        refine lv_iconst (v := 0) hx hb dX7_letterValue_51 (by decide) ?_
        subst hQ
        exact x_iretW E hr hlk hw (by decide) (by decide) (Or.inr ⟨by rw [← hk1]; exact lF_no (fun j hj => hno j (by omega)), rfl, by rw [← hk1]⟩) dX7_letterValue_52
      · skip
        have hlt : i < 5 := by have q9 := mt (nI_leI (a := 5) (b := i) (by omega) (by omega)).mpr c_12; omega
        refine va_gets hx hb hLz hw.2.2.1 hown (hts _ tw_50) (fun _ h => h) dX7_letterValue_15 ?_
        refine lv_iload_n hx hb dX7_letterValue_18 rfl (lv_at hl 2 rfl) ?_
        refine va_tc hx hb hLT hw.2.2.1 (i := nI i) (v := .int (lF i)) (by show ¬ (nI i < 0 ∨ 5 ≤ (nI i).toNatClampNeg); rw [nI_clamp (by omega)]; have q9 := nI_pos (n := i) (by omega); intro q; rcases q with q | q; exact q9 q; omega) (by rw [nI_clamp (by omega)]) dX7_letterValue_19 ?_
        refine lv_iload_n hx hb dX7_letterValue_20 rfl (lv_at hl 1 rfl) ?_
        refine lv_icmp_ne (tgt := 41) hx hb dX7_letterValue_21 (by decide) (fun c_21 => ?_) (fun c_21 => ?_)
        · skip
          refine lv_iinc (v := (nI (i + 1))) (lv' := [(2, .int (nI (i + 1))), (0, .ref (ad 13 0)), (1, .int ((bC b1 n1) k1))]) hx hb dX7_letterValue_41 hl (k := 2) rfl (nI_1 _) (by decide) rfl (fun ls hl => ?_)
          refine lv_goto (tgt := 7) hx hb dX7_letterValue_44 (by decide) ?_
          exact ih7 (i + 1) (hlt) (fun j hj => by by_cases q : j = i; rw [q]; exact c_21; exact hno j (by omega)) (by omega) _ _ (hw) ls (lv_sub hl [1, 2, 0] (rfl))
        · skip
          refine lv_aload_n hx hb dX7_letterValue_24 rfl (lv_at hl 0 rfl) ?_
          refine lv_dup hx hb dX7_letterValue_25 rfl ?_
          refine x_get E hw 13 0 (h13) (upd2_at _ _ _ _) cl_7 ly_7 2 (by decide) tw_55 rfl dX7_letterValue_26 ?_
          refine lv_iconst (v := 1) hx hb dX7_letterValue_29 (by decide) ?_
          refine lv_iadd hx hb dX7_letterValue_30 ?_
          refine x_top (x := (nI k1 + 1)) (y := nI (k1 + 1)) (nI_1 _) ?_
          refine x_put E hw 13 0 (h13) (upd2_at _ _ _ _) cl_7 ly_7 tyX7 tyX7_ok nmX7 2 (by decide) tw_55 (Or.inl rfl) (by rfl) (by rfl) (Nat.le_of_ble_eq_true rfl) dX7_letterValue_31 (fun H locs hw => ?_)
          rw [rq_2] at hw
          refine lv_aload_n hx hb dX7_letterValue_34 rfl (lv_at hl 0 rfl) ?_
          refine x_get E hw 13 0 (h13) (upd2_at _ _ _ _) cl_7 ly_7 0 (by decide) tw_52 rfl dX7_letterValue_35 ?_
          refine lv_iload_n hx hb dX7_letterValue_38 rfl (lv_at hl 2 rfl) ?_
          refine x_ild E hw 14 0 (h14) ((upd2_k _ _ _ _ (by decide)).trans hvc) i (rfl) (by omega) (by omega) dX7_letterValue_39 ?_
          subst hQ
          exact x_iretW E hr hlk hw (by decide) (by decide) (Or.inl ⟨by rw [← hk1, ← c_21]; exact lF_L i, by rw [← hk1, ← c_21, lF_v vs hlt], by rw [← hk1]⟩) dX7_letterValue_40
  exact lp7 6 0 (Nat.zero_le _) (fun j hj => absurd hj (Nat.not_lt_zero _)) (by omega) _ _ (hw) ls (lv_sub hl [2, 1, 0] (rfl))
