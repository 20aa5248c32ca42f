set_option maxHeartbeats 4000000 in
set_option maxRecDepth 100000 in
theorem kX7_next (l : Launch) (D : va_G) (ca : Nat → ClassId) (cnt : Nat → Nat) (ad : Nat → Nat → Nat) (ct : Nat → Nat → va_E) (z9 : Nat) (t : Nat) (n1 : Nat) (b1 : Nat → Int32) (vs : Nat → Int32) (a : Nat) (F : Int32) (hR : rdOK ca cnt ad ct t n1 b1 vs) (ha : a ≤ n1) : Met l yX7_next (wz yX7_next cX7_next 1 (some .int)) (rmL 3 0 0) (va_Pc [.ref (ad 13 0)] (fun U => (U.heap.size = z9 ∧ wq D cnt ad (rq ad ct t (nI a) F) U.heap) ∧ gK D ca U)) (QcW D (wA cnt ad z9) (fun rv u => rv = some (.int (if F = -1 then (bC b1 n1) (pSk (bC b1 n1) n1 a) else -1)) ∧ u = (cnt, ad, rq ad ct t (nI (pSk (bC b1 n1) n1 a)) (F)))) 0 0 (wA cnt ad z9) := by
  refine x_met (by decide) (Nat.le_of_ble_eq_true rfl) ?_
  intro p e s m below meth c E hr hlk hnm hq ls hl
  obtain ⟨hsz9, hq⟩ := hq
  subst hsz9
  generalize hav : ([.ref (ad 13 0)] : List Value).toArray = args at E ⊢
  have hx := E.1
  have hb := E.2.1
  have hown := E.2.2.2.1
  have hts := E.2.2.2.2.1
  have hw : wd D (wA cnt ad s.heap.size) s.heap cnt ad (rq ad ct t (nI a) F) s.heap [] := wd.start hq
  generalize hQ : MQ below (QcW D (wA cnt ad s.heap.size) (fun rv u => rv = some (.int (if F = -1 then (bC b1 n1) (pSk (bC b1 n1) n1 a) else -1)) ∧ u = (cnt, ad, rq ad ct t (nI (pSk (bC b1 n1) n1 a)) (F)))) args s 0 0 (wA cnt ad s.heap.size) = Q
  generalize hA9 : wA cnt ad s.heap.size = A at hw hQ
  have hl : lv_has ls 1 [(0, .ref (ad 13 0))] := hl
  obtain ⟨h13, h11, htc, h12, hbc, hn1, h14, hvc⟩ := id hR
  suffices hgo : ∀ (H : Heap) (locs : List Loc), wd D A s.heap cnt ad (rq ad ct t (nI a) F) H locs → W p l e (rmL 3 0 0) s m args below meth c H locs 0 0 Q (F0 m 0 ls []) from hgo _ _ hw
  clear hw
  intro H locs hw
  have lp0 : ∀ (n : Nat) (b : Nat), (b ≤ n1) → (pSk (bC b1 n1) n1 b = pSk (bC b1 n1) n1 a) → (n1 - b < n) → ∀ (H : Heap) (locs : List Loc), wd D A s.heap cnt ad (rq ad ct t (nI b) F) H locs → ∀ ls : Array Slot, lv_has ls 1 [(0, .ref (ad 13 0))] → W p l e (rmL 3 0 0) s m args below meth c H locs 0 0 Q (F0 m 0 ls []) := by
    intro n
    induction n with
    | zero =>
      intro b hbt hk hfu H locs hw ls hl
      exact absurd hfu (by omega)
    | succ n ih0 =>
      intro b hbt hk hfu H locs hw ls hl
      refine lv_aload_n hx hb dX7_next_0 rfl (lv_at hl 0 rfl) ?_
      refine x_get E hw 13 0 (h13) (upd2_at _ _ _ _) cl_7 ly_7 2 (by decide) tw_55 rfl dX7_next_1 ?_
      refine lv_aload_n hx hb dX7_next_4 rfl (lv_at hl 0 rfl) ?_
      refine x_get E hw 13 0 (h13) (upd2_at _ _ _ _) cl_7 ly_7 1 (by decide) tw_54 rfl dX7_next_5 ?_
      refine x_get E hw 11 t (h11) ((upd2_k _ _ _ _ (by decide)).trans htc) cl_8 ly_8 1 (by decide) tw_36 rfl dX7_next_8 ?_
      refine lv_icmp_ge (tgt := 43) hx hb dX7_next_11 (by decide) (fun c_11 => ?_) (fun c_11 => ?_)
      · skip
        have hbl : ¬ b < n1 := by have q9 := (nI_leI (a := n1) (b := b) (by omega) (by omega)).mp c_11; omega
        have hbk : pSk (bC b1 n1) n1 b = b := pSk_n (fun q => hbl q.1)
        refine lv_aload_n hx hb dX7_next_43 rfl (lv_at hl 0 rfl) ?_
        refine x_get E hw 13 0 (h13) (upd2_at _ _ _ _) cl_7 ly_7 3 (by decide) tw_56 rfl dX7_next_44 ?_
        refine lv_iconst (v := (-1)) hx hb dX7_next_47 (by decide) ?_
        refine lv_icmp_ne (tgt := 65) hx hb dX7_next_48 (by decide) (fun c_48 => ?_) (fun c_48 => ?_)
        · skip
          refine lv_iconst (v := (-1)) hx hb dX7_next_65 (by decide) ?_
          subst hQ
          exact x_iretW E hr hlk hw (by decide) (by decide) (⟨by rw [← hk, hbk]; simp [c_11, c_48], by rw [← hk, hbk]⟩) dX7_next_66
        · skip
          refine lv_aload_n hx hb dX7_next_51 rfl (lv_at hl 0 rfl) ?_
          refine x_get E hw 13 0 (h13) (upd2_at _ _ _ _) cl_7 ly_7 1 (by decide) tw_54 rfl dX7_next_52 ?_
          refine lv_aload_n hx hb dX7_next_55 rfl (lv_at hl 0 rfl) ?_
          refine x_get E hw 13 0 (h13) (upd2_at _ _ _ _) cl_7 ly_7 2 (by decide) tw_55 rfl dX7_next_56 ?_
          refine x_read (x_runV (rest := []) E cbX8_byteAt tw_428 (kX8_byteAt l D ca cnt ad (rq ad ct t (nI b) F)  t _ _ (nI b) (h11) ((upd2_k _ _ _ _ (by decide)).trans htc) (h12) ((upd2_k _ _ _ _ (by decide)).trans hbc) (hn1)) ⟨rfl, rfl, by decide, by decide⟩ (x_recv E hw cl_8 (h11) ((upd2_k _ _ _ _ (by decide)).trans htc)) (fun _ _ _ _ h => h) (fun U hU _ => by rw [hU]; exact hw.1) rfl hl.1 rfl (Nat.le_of_ble_eq_true rfl) dX7_next_59 ⟨by decide, by decide⟩) ?_
          refine x_top (x := (cBy n1 b1 (nI b))) (y := ((bC b1 n1) b)) (cBy_eq hn1 (by omega)) ?_
          refine lv_goto (tgt := 66) hx hb dX7_next_62 (by decide) ?_
          subst hQ
          exact x_iretW E hr hlk hw (by decide) (by decide) (⟨by rw [← hk, hbk]; simp [c_11, c_48], by rw [← hk, hbk]⟩) dX7_next_66
      · skip
        have hbl : b < n1 := by have q9 := mt (nI_leI (a := n1) (b := b) (by omega) (by omega)).mpr c_11; omega
        refine lv_aload_n hx hb dX7_next_14 rfl (lv_at hl 0 rfl) ?_
        refine x_get E hw 13 0 (h13) (upd2_at _ _ _ _) cl_7 ly_7 1 (by decide) tw_54 rfl dX7_next_15 ?_
        refine lv_aload_n hx hb dX7_next_18 rfl (lv_at hl 0 rfl) ?_
        refine x_get E hw 13 0 (h13) (upd2_at _ _ _ _) cl_7 ly_7 2 (by decide) tw_55 rfl dX7_next_19 ?_
        refine x_read (x_runV (rest := []) E cbX8_byteAt tw_428 (kX8_byteAt l D ca cnt ad (rq ad ct t (nI b) F)  t _ _ (nI b) (h11) ((upd2_k _ _ _ _ (by decide)).trans htc) (h12) ((upd2_k _ _ _ _ (by decide)).trans hbc) (hn1)) ⟨rfl, rfl, by decide, by decide⟩ (x_recv E hw cl_8 (h11) ((upd2_k _ _ _ _ (by decide)).trans htc)) (fun _ _ _ _ h => h) (fun U hU _ => by rw [hU]; exact hw.1) rfl hl.1 rfl (Nat.le_of_ble_eq_true rfl) dX7_next_22 ⟨by decide, by decide⟩) ?_
        refine x_top (x := (cBy n1 b1 (nI b))) (y := ((bC b1 n1) b)) (cBy_eq hn1 (by omega)) ?_
        refine lv_bipush (v := 32) hx hb dX7_next_25 (by decide) ?_
        refine lv_icmp_ne (tgt := 43) hx hb dX7_next_27 (by decide) (fun c_27 => ?_) (fun c_27 => ?_)
        · skip
          have hbk : pSk (bC b1 n1) n1 b = b := pSk_n (fun q => c_27 q.2)
          refine lv_aload_n hx hb dX7_next_43 rfl (lv_at hl 0 rfl) ?_
          refine x_get E hw 13 0 (h13) (upd2_at _ _ _ _) cl_7 ly_7 3 (by decide) tw_56 rfl dX7_next_44 ?_
          refine lv_iconst (v := (-1)) hx hb dX7_next_47 (by decide) ?_
          refine lv_icmp_ne (tgt := 65) hx hb dX7_next_48 (by decide) (fun c_48 => ?_) (fun c_48 => ?_)
          · skip
            refine lv_iconst (v := (-1)) hx hb dX7_next_65 (by decide) ?_
            subst hQ
            exact x_iretW E hr hlk hw (by decide) (by decide) (⟨by rw [← hk, hbk]; simp [c_11, c_27, c_48], by rw [← hk, hbk]⟩) dX7_next_66
          · skip
            refine lv_aload_n hx hb dX7_next_51 rfl (lv_at hl 0 rfl) ?_
            refine x_get E hw 13 0 (h13) (upd2_at _ _ _ _) cl_7 ly_7 1 (by decide) tw_54 rfl dX7_next_52 ?_
            refine lv_aload_n hx hb dX7_next_55 rfl (lv_at hl 0 rfl) ?_
            refine x_get E hw 13 0 (h13) (upd2_at _ _ _ _) cl_7 ly_7 2 (by decide) tw_55 rfl dX7_next_56 ?_
            refine x_read (x_runV (rest := []) E cbX8_byteAt tw_428 (kX8_byteAt l D ca cnt ad (rq ad ct t (nI b) F)  t _ _ (nI b) (h11) ((upd2_k _ _ _ _ (by decide)).trans htc) (h12) ((upd2_k _ _ _ _ (by decide)).trans hbc) (hn1)) ⟨rfl, rfl, by decide, by decide⟩ (x_recv E hw cl_8 (h11) ((upd2_k _ _ _ _ (by decide)).trans htc)) (fun _ _ _ _ h => h) (fun U hU _ => by rw [hU]; exact hw.1) rfl hl.1 rfl (Nat.le_of_ble_eq_true rfl) dX7_next_59 ⟨by decide, by decide⟩) ?_
            refine x_top (x := (cBy n1 b1 (nI b))) (y := ((bC b1 n1) b)) (cBy_eq hn1 (by omega)) ?_
            refine lv_goto (tgt := 66) hx hb dX7_next_62 (by decide) ?_
            subst hQ
            exact x_iretW E hr hlk hw (by decide) (by decide) (⟨by rw [← hk, hbk]; simp [c_11, c_27, c_48], by rw [← hk, hbk]⟩) dX7_next_66
        · skip
          refine lv_aload_n hx hb dX7_next_30 rfl (lv_at hl 0 rfl) ?_
          refine lv_dup hx hb dX7_next_31 rfl ?_
          refine x_get E hw 13 0 (h13) (upd2_at _ _ _ _) cl_7 ly_7 2 (by decide) tw_55 rfl dX7_next_32 ?_
          refine lv_iconst (v := 1) hx hb dX7_next_35 (by decide) ?_
          refine lv_iadd hx hb dX7_next_36 ?_
          refine x_top (x := (nI b + 1)) (y := nI (b + 1)) (nI_1 _) ?_
          refine x_put E hw 13 0 (h13) (upd2_at _ _ _ _) cl_7 ly_7 tyX7 tyX7_ok nmX7 2 (by decide) tw_55 (Or.inl rfl) (by rfl) (by rfl) (Nat.le_of_ble_eq_true rfl) dX7_next_37 (fun H locs hw => ?_)
          rw [rq_2] at hw
          refine lv_goto (tgt := 0) hx hb dX7_next_40 (by decide) ?_
          exact ih0 (b + 1) (hbl) (by rw [← hk, pSk_y hbl c_27]) (by omega) _ _ (hw) ls (lv_sub hl [0] (rfl))
  exact lp0 (n1 + 1) a (ha) (rfl) (by omega) _ _ (hw) ls (lv_sub hl [0] (rfl))
set_option maxHeartbeats 4000000 in
set_option maxRecDepth 100000 in
theorem kX7_fail (l : Launch) (D : va_G) (ca : Nat → ClassId) (cnt : Nat → Nat) (ad : Nat → Nat → Nat) (ct : Nat → Nat → va_E) (z9 : Nat) (t : Nat) (n1 : Nat) (b1 : Nat → Int32) (vs : Nat → Int32) (x8 : Int32) (F : Int32) (hR : rdOK ca cnt ad ct t n1 b1 vs) : Met l yX7_fail (wz yX7_fail cX7_fail 1 none) (rmL 1 0 0) (va_Pc [.ref (ad 13 0)] (fun U => (U.heap.size = z9 ∧ wq D cnt ad (rq ad ct t x8 F) U.heap) ∧ gK D ca U)) (QcW D (wA cnt ad z9) (fun rv u => rv = none ∧ u = (cnt, ad, rq ad ct t (x8) (if F = -1 then x8 else F)))) 0 0 (wA cnt ad z9) := by
  refine x_met (by decide) (Nat.le_of_ble_eq_true rfl) ?_
  intro p e s m below meth c E hr hlk hnm hq ls hl
  obtain ⟨hsz9, hq⟩ := hq
  subst hsz9
  generalize hav : ([.ref (ad 13 0)] : List Value).toArray = args at E ⊢
  have hx := E.1
  have hb := E.2.1
  have hown := E.2.2.2.1
  have hts := E.2.2.2.2.1
  have hw : wd D (wA cnt ad s.heap.size) s.heap cnt ad (rq ad ct t x8 F) s.heap [] := wd.start hq
  generalize hQ : MQ below (QcW D (wA cnt ad s.heap.size) (fun rv u => rv = none ∧ u = (cnt, ad, rq ad ct t (x8) (if F = -1 then x8 else F)))) args s 0 0 (wA cnt ad s.heap.size) = Q
  generalize hA9 : wA cnt ad s.heap.size = A at hw hQ
  have hl : lv_has ls 1 [(0, .ref (ad 13 0))] := hl
  obtain ⟨h13, h11, htc, h12, hbc, hn1, h14, hvc⟩ := id hR
  suffices hgo : ∀ (H : Heap) (locs : List Loc), wd D A s.heap cnt ad (rq ad ct t x8 F) H locs → W p l e (rmL 1 0 0) s m args below meth c H locs 0 0 Q (F0 m 0 ls []) from hgo _ _ hw
  clear hw
  intro H locs hw
  refine lv_aload_n hx hb dX7_fail_0 rfl (lv_at hl 0 rfl) ?_
  refine x_get E hw 13 0 (h13) (upd2_at _ _ _ _) cl_7 ly_7 3 (by decide) tw_56 rfl dX7_fail_1 ?_
  refine lv_iconst (v := (-1)) hx hb dX7_fail_4 (by decide) ?_
  refine lv_icmp_ne (tgt := 16) hx hb dX7_fail_5 (by decide) (fun c_5 => ?_) (fun c_5 => ?_)
  · skip
    subst hQ
    exact x_vretW E hr hlk hw (by decide) (by decide) (⟨rfl, by simp [c_5]⟩) dX7_fail_16
  · skip
    refine lv_aload_n hx hb dX7_fail_8 rfl (lv_at hl 0 rfl) ?_
    refine lv_aload_n hx hb dX7_fail_9 rfl (lv_at hl 0 rfl) ?_
    refine x_get E hw 13 0 (h13) (upd2_at _ _ _ _) cl_7 ly_7 2 (by decide) tw_55 rfl dX7_fail_10 ?_
    refine x_put E hw 13 0 (h13) (upd2_at _ _ _ _) cl_7 ly_7 tyX7 tyX7_ok nmX7 3 (by decide) tw_56 (Or.inl rfl) (by rfl) (by rfl) (Nat.le_of_ble_eq_true rfl) dX7_fail_13 (fun H locs hw => ?_)
    rw [rq_3] at hw
    subst hQ
    exact x_vretW E hr hlk hw (by decide) (by decide) (⟨rfl, by simp [c_5]⟩) dX7_fail_16
set_option maxHeartbeats 4000000 in
set_option maxRecDepth 100000 in
theorem kX7_take (l : Launch) (D : va_G) (ca : Nat → ClassId) (cnt : Nat → Nat) (ad : Nat → Nat → Nat) (ct : Nat → Nat → va_E) (z9 : Nat) (t : Nat) (n1 : Nat) (b1 : Nat → Int32) (vs : Nat → Int32) (a : Nat) (F : Int32) (a1 : Int32) (hR : rdOK ca cnt ad ct t n1 b1 vs) (ha : a ≤ n1) (hw9 : ¬ a1 = -1) : Met l yX7_take (wz yX7_take cX7_take 3 (some .boolean)) (rmL 4 0 0) (va_Pc [.ref (ad 13 0), .int a1] (fun U => (U.heap.size = z9 ∧ wq D cnt ad (rq ad ct t (nI a) F) U.heap) ∧ gK D ca U)) (QcW D (wA cnt ad z9) (fun rv u => (F = -1 ∧ (bC b1 n1) (pSk (bC b1 n1) n1 a) = a1 ∧ rv = some (.int 1) ∧ u = (cnt, ad, rq ad ct t (nI ((pSk (bC b1 n1) n1 a) + 1)) (F))) ∨ (¬ (F = -1 ∧ (bC b1 n1) (pSk (bC b1 n1) n1 a) = a1) ∧ rv = some (.int 0) ∧ u = (cnt, ad, rq ad ct t (nI (pSk (bC b1 n1) n1 a)) (F))))) 0 0 (wA cnt ad z9) := by
  refine x_met (by decide) (Nat.le_of_ble_eq_true rfl) ?_
  intro p e s m below meth c E hr hlk hnm hq ls hl
  obtain ⟨hsz9, hq⟩ := hq
  subst hsz9
  generalize hav : ([.ref (ad 13 0), .int a1] : List Value).toArray = args at E ⊢
  have hx := E.1
  have hb := E.2.1
  have hown := E.2.2.2.1
  have hts := E.2.2.2.2.1
  have hw : wd D (wA cnt ad s.heap.size) s.heap cnt ad (rq ad ct t (nI a) F) s.heap [] := wd.start hq
  generalize hQ : MQ below (QcW D (wA cnt ad s.heap.size) (fun rv u => (F = -1 ∧ (bC b1 n1) (pSk (bC b1 n1) n1 a) = a1 ∧ rv = some (.int 1) ∧ u = (cnt, ad, rq ad ct t (nI ((pSk (bC b1 n1) n1 a) + 1)) (F))) ∨ (¬ (F = -1 ∧ (bC b1 n1) (pSk (bC b1 n1) n1 a) = a1) ∧ rv = some (.int 0) ∧ u = (cnt, ad, rq ad ct t (nI (pSk (bC b1 n1) n1 a)) (F))))) args s 0 0 (wA cnt ad s.heap.size) = Q
  generalize hA9 : wA cnt ad s.heap.size = A at hw hQ
  have hl : lv_has ls 3 [(0, .ref (ad 13 0)), (1, .int a1)] := hl
  obtain ⟨h13, h11, htc, h12, hbc, hn1, h14, hvc⟩ := id hR
  suffices hgo : ∀ (H : Heap) (locs : List Loc), wd D A s.heap cnt ad (rq ad ct t (nI a) F) H locs → W p l e (rmL 4 0 0) s m args below meth c H locs 0 0 Q (F0 m 0 ls []) from hgo _ _ hw
  clear hw
  intro H locs hw
  refine lv_aload_n hx hb dX7_take_0 rfl (lv_at hl 0 rfl) ?_
  refine x_wrote hw (x_runV (rest := []) E cbX7_next tw_424 (kX7_next l D ca cnt ad ct H.size t n1 b1 vs a F hR (by omega)) ⟨rfl, rfl, by decide, by decide⟩ (x_recv E hw cl_7 (h13) (upd2_at _ _ _ _)) (fun _ _ _ _ h => h) (fun U hU _ => by rw [hU]; exact ⟨rfl, hw.1⟩) rfl hl.1 rfl (Nat.le_of_ble_eq_true rfl) dX7_take_1 ⟨by decide, by decide⟩) (fun rv9 u9 H locs hp9 hw hz9 hk9 => ?_)
  obtain ⟨k1, hk1⟩ : ∃ z, z = pSk (bC b1 n1) n1 a := ⟨_, rfl⟩
  rw [← hk1] at hp9
  have hkg1 : a ≤ k1 := by rw [hk1]; exact pSk_ge _ _ _
  have hkl1 : k1 ≤ n1 := by rw [hk1]; exact pSk_le (by omega)
  obtain ⟨hrv9, hu9⟩ := hp9
  subst hrv9
  subst hu9
  have hw : wd D A s.heap cnt ad (rq ad ct t (nI k1) F) H locs := hw
  refine lv_iload_n hx hb dX7_take_4 rfl (lv_at hl 1 rfl) ?_
  refine lv_icmp_ne (tgt := 12) hx hb dX7_take_5 (by decide) (fun c_5 => ?_) (fun c_5 => ?_)
  · skip
    have hc_n : ¬ (F = -1 ∧ (bC b1 n1) k1 = a1) := fun q => c_5 (by rw [if_pos q.1]; exact q.2)
    refine lv_iconst (v := 0) hx hb dX7_take_12 (by decide) ?_
    refine lv_istore_n (lv' := [(2, .int 0), (0, .ref (ad 13 0)), (1, .int a1)]) hx hb dX7_take_13 rfl hl (by decide) rfl (fun ls hl => ?_)
    refine lv_aload_n hx hb dX7_take_14 rfl (lv_at hl 1 rfl) ?_
    refine lv_dup hx hb dX7_take_15 rfl ?_
    refine x_get E hw 13 0 (h13) (upd2_at _ _ _ _) cl_7 ly_7 2 (by decide) tw_55 rfl dX7_take_16 ?_
    refine lv_iload_n hx hb dX7_take_19 rfl (lv_at hl 0 rfl) ?_
    refine lv_if_eq (tgt := 27) hx hb dX7_take_20 (by decide) (fun c_20 => ?_) (fun c_20 => ?_)
    · skip
      refine lv_iconst (v := 0) hx hb dX7_take_27 (by decide) ?_
      refine lv_iadd hx hb dX7_take_28 ?_
      refine x_top (x := (nI k1 + 0)) (y := (nI k1)) (Int32.add_zero _) ?_
      refine x_put E hw 13 0 (h13) (upd2_at _ _ _ _) cl_7 ly_7 tyX7 tyX7_ok nmX7 2 (by decide) tw_55 (Or.inl rfl) (by rfl) (by rfl) (Nat.le_of_ble_eq_true rfl) dX7_take_29 (fun H locs hw => ?_)
      rw [rq_2] at hw
      refine lv_iload_n hx hb dX7_take_32 rfl (lv_at hl 0 rfl) ?_
      subst hQ
      exact x_zretW E hr hlk (by decide) hw (by decide) (by decide) (Or.inr ⟨by rw [← hk1]; exact hc_n, rfl, by rw [← hk1]⟩) dX7_take_33
    · skip
      exact absurd c_20 (by decide)
  · skip
    have hc_F : F = -1 := by by_cases q : F = -1; exact q; rw [if_neg q] at c_5; exact absurd c_5.symm hw9
    have hc_k : (bC b1 n1) k1 = a1 := by have q9 := c_5; rw [if_pos hc_F] at q9; exact q9
    refine lv_iconst (v := 1) hx hb dX7_take_8 (by decide) ?_
    refine lv_goto (tgt := 13) hx hb dX7_take_9 (by decide) ?_
    refine lv_istore_n (lv' := [(2, .int 1), (0, .ref (ad 13 0)), (1, .int a1)]) hx hb dX7_take_13 rfl hl (by decide) rfl (fun ls hl => ?_)
    refine lv_aload_n hx hb dX7_take_14 rfl (lv_at hl 1 rfl) ?_
    refine lv_dup hx hb dX7_take_15 rfl ?_
    refine x_get E hw 13 0 (h13) (upd2_at _ _ _ _) cl_7 ly_7 2 (by decide) tw_55 rfl dX7_take_16 ?_
    refine lv_iload_n hx hb dX7_take_19 rfl (lv_at hl 0 rfl) ?_
    refine lv_if_eq (tgt := 27) hx hb dX7_take_20 (by decide) (fun c_20 => ?_) (fun c_20 => ?_)
    · skip
      exact absurd c_20 (by decide)
    · skip
      refine lv_iconst (v := 1) hx hb dX7_take_23 (by decide) ?_
      refine lv_goto (tgt := 28) hx hb dX7_take_24 (by decide) ?_
      refine lv_iadd hx hb dX7_take_28 ?_
      refine x_top (x := (nI k1 + 1)) (y := (nI (k1 + 1))) (nI_1 _) ?_
      refine x_put E hw 13 0 (h13) (upd2_at _ _ _ _) cl_7 ly_7 tyX7 tyX7_ok nmX7 2 (by decide) tw_55 (Or.inl rfl) (by rfl) (by rfl) (Nat.le_of_ble_eq_true rfl) dX7_take_29 (fun H locs hw => ?_)
      rw [rq_2] at hw
      refine lv_iload_n hx hb dX7_take_32 rfl (lv_at hl 0 rfl) ?_
      subst hQ
      exact x_zretW E hr hlk (by decide) hw (by decide) (by decide) (Or.inl ⟨hc_F, by rw [← hk1]; exact hc_k, rfl, by rw [← hk1]⟩) dX7_take_33
set_option maxHeartbeats 4000000 in
set_option maxRecDepth 100000 in
theorem kX7_isDigit (l : Launch) (D : va_G) (ca : Nat → ClassId) (a1 : Int32)  : Met l yX7_isDigit (wz yX7_isDigit cX7_isDigit 1 (some .boolean)) (rmL 2 0 0) (va_Pc [.int a1] (fun U => True ∧ gK D ca U)) (QcRead (bB (isD a1))) 0 0 (fun _ => False) := by
  refine x_met (by decide) (Nat.le_of_ble_eq_true rfl) ?_
  intro p e s m below meth c E hr hlk hnm hq ls hl
  generalize hav : ([.int a1] : List Value).toArray = args at E ⊢
  have hx := E.1
  have hb := E.2.1
  have hown := E.2.2.2.1
  have hts := E.2.2.2.2.1
  generalize hQ : MQ below (QcRead (bB (isD a1))) args s 0 0 (fun _ => False) = Q
  have hl : lv_has ls 1 [(0, .int a1)] := hl
  refine lv_iload_n hx hb dX7_isDigit_0 rfl (lv_at hl 0 rfl) ?_
  refine lv_bipush (v := 48) hx hb dX7_isDigit_1 (by decide) ?_
  refine lv_icmp_lt (tgt := 16) hx hb dX7_isDigit_3 (by decide) (fun c_3 => ?_) (fun c_3 => ?_)
  · skip
    refine lv_iconst (v := 0) hx hb dX7_isDigit_16 (by decide) ?_
    subst hQ
    exact x_zret E hr hlk (by decide) (by simp [bB, isD, isIn, c_3]) dX7_isDigit_17
  · skip
    refine lv_iload_n hx hb dX7_isDigit_6 rfl (lv_at hl 0 rfl) ?_
    refine lv_bipush (v := 57) hx hb dX7_isDigit_7 (by decide) ?_
    refine lv_icmp_gt (tgt := 16) hx hb dX7_isDigit_9 (by decide) (fun c_9 => ?_) (fun c_9 => ?_)
    · skip
      refine lv_iconst (v := 0) hx hb dX7_isDigit_16 (by decide) ?_
      subst hQ
      exact x_zret E hr hlk (by decide) (by simp [bB, isD, isIn, c_3, c_9]) dX7_isDigit_17
    · skip
      refine lv_iconst (v := 1) hx hb dX7_isDigit_12 (by decide) ?_
      refine lv_goto (tgt := 17) hx hb dX7_isDigit_13 (by decide) ?_
      subst hQ
      exact x_zret E hr hlk (by decide) (by simp [bB, isD, isIn, c_3, c_9]) dX7_isDigit_17
set_option maxHeartbeats 4000000 in
set_option maxRecDepth 100000 in
theorem kX7_number (l : Launch) (D : va_G) (ca : Nat → ClassId) (cnt : Nat → Nat) (ad : Nat → Nat → Nat) (ct : Nat → Nat → va_E) (z9 : Nat) (t : Nat) (n1 : Nat) (b1 : Nat → Int32) (vs : Nat → Int32) (a : Nat) (F : Int32) (hR : rdOK ca cnt ad ct t n1 b1 vs) (ha : a ≤ n1) : Met l yX7_number (wz yX7_number cX7_number 3 (some .int)) (rmL 4 0 0) (va_Pc [.ref (ad 13 0)] (fun U => (U.heap.size = z9 ∧ wq D cnt ad (rq ad ct t (nI a) F) U.heap) ∧ gK D ca U)) (QcW D (wA cnt ad z9) (fun rv u => (¬ F = -1 ∧ rv = some (.int 0) ∧ u = (cnt, ad, rq ad ct t (nI (pSk (bC b1 n1) n1 a)) (F))) ∨ (F = -1 ∧ isD ((bC b1 n1) (pSk (bC b1 n1) n1 a)) = false ∧ rv = some (.int 0) ∧ u = (cnt, ad, rq ad ct t (nI (pSk (bC b1 n1) n1 a)) (nI (pSk (bC b1 n1) n1 a)))) ∨ (F = -1 ∧ isD ((bC b1 n1) (pSk (bC b1 n1) n1 a)) = true ∧ rv = some (.int (pDg (bC b1 n1) 4 (pSk (bC b1 n1) n1 a) 0).2) ∧ (pDg (bC b1 n1) 4 (pSk (bC b1 n1) n1 a) 0).1 ≤ n1 ∧ (pSk (bC b1 n1) n1 a) < (pDg (bC b1 n1) 4 (pSk (bC b1 n1) n1 a) 0).1 ∧ u = (cnt, ad, rq ad ct t (nI (pDg (bC b1 n1) 4 (pSk (bC b1 n1) n1 a) 0).1) (F))))) 0 0 (wA cnt ad z9) := by
  refine x_met (by decide) (Nat.le_of_ble_eq_true rfl) ?_
  intro p e s m below meth c E hr hlk hnm hq ls hl
  obtain ⟨hsz9, hq⟩ := hq
  subst hsz9
  generalize hav : ([.ref (ad 13 0)] : List Value).toArray = args at E ⊢
  have hx := E.1
  have hb := E.2.1
  have hown := E.2.2.2.1
  have hts := E.2.2.2.2.1
  have hw : wd D (wA cnt ad s.heap.size) s.heap cnt ad (rq ad ct t (nI a) F) s.heap [] := wd.start hq
  generalize hQ : MQ below (QcW D (wA cnt ad s.heap.size) (fun rv u => (¬ F = -1 ∧ rv = some (.int 0) ∧ u = (cnt, ad, rq ad ct t (nI (pSk (bC b1 n1) n1 a)) (F))) ∨ (F = -1 ∧ isD ((bC b1 n1) (pSk (bC b1 n1) n1 a)) = false ∧ rv = some (.int 0) ∧ u = (cnt, ad, rq ad ct t (nI (pSk (bC b1 n1) n1 a)) (nI (pSk (bC b1 n1) n1 a)))) ∨ (F = -1 ∧ isD ((bC b1 n1) (pSk (bC b1 n1) n1 a)) = true ∧ rv = some (.int (pDg (bC b1 n1) 4 (pSk (bC b1 n1) n1 a) 0).2) ∧ (pDg (bC b1 n1) 4 (pSk (bC b1 n1) n1 a) 0).1 ≤ n1 ∧ (pSk (bC b1 n1) n1 a) < (pDg (bC b1 n1) 4 (pSk (bC b1 n1) n1 a) 0).1 ∧ u = (cnt, ad, rq ad ct t (nI (pDg (bC b1 n1) 4 (pSk (bC b1 n1) n1 a) 0).1) (F))))) args s 0 0 (wA cnt ad s.heap.size) = Q
  generalize hA9 : wA cnt ad s.heap.size = A at hw hQ
  have hl : lv_has ls 3 [(0, .ref (ad 13 0))] := hl
  obtain ⟨h13, h11, htc, h12, hbc, hn1, h14, hvc⟩ := id hR
  suffices hgo : ∀ (H : Heap) (locs : List Loc), wd D A s.heap cnt ad (rq ad ct t (nI a) F) H locs → W p l e (rmL 4 0 0) s m args below meth c H locs 0 0 Q (F0 m 0 ls []) from hgo _ _ hw
  clear hw
  intro H locs hw
  refine lv_aload_n hx hb dX7_number_0 rfl (lv_at hl 0 rfl) ?_
  refine x_wrote hw (x_runV (rest := []) E cbX7_next tw_424 (kX7_next l D ca cnt ad ct H.size t n1 b1 vs a F hR (by omega)) ⟨rfl, rfl, by decide, by decide⟩ (x_recv E hw cl_7 (h13) (upd2_at _ _ _ _)) (fun _ _ _ _ h => h) (fun U hU _ => by rw [hU]; exact ⟨rfl, hw.1⟩) rfl hl.1 rfl (Nat.le_of_ble_eq_true rfl) dX7_number_1 ⟨by decide, by decide⟩) (fun rv9 u9 H locs hp9 hw hz9 hk9 => ?_)
  obtain ⟨k1, hk1⟩ : ∃ z, z = pSk (bC b1 n1) n1 a := ⟨_, rfl⟩
  rw [← hk1] at hp9
  have hkg1 : a ≤ k1 := by rw [hk1]; exact pSk_ge _ _ _
  have hkl1 : k1 ≤ n1 := by rw [hk1]; exact pSk_le (by omega)
  obtain ⟨hrv9, hu9⟩ := hp9
  subst hrv9
  subst hu9
  have hw : wd D A s.heap cnt ad (rq ad ct t (nI k1) F) H locs := hw
  refine x_read (x_runS (rest := []) E cbX7_isDigit tw_452 (kX7_isDigit l D ca (if F = -1 then (bC b1 n1) k1 else -1) ) ⟨rfl, rfl, by decide, by decide⟩ (fun _ _ _ _ h => h) (fun _ _ _ => trivial) rfl hl.1 rfl (Nat.le_of_ble_eq_true rfl) dX7_number_4 ⟨by decide, by decide⟩) ?_
  refine lv_if_ne (tgt := 16) hx hb dX7_number_7 (by decide) (fun c_7 => ?_) (fun c_7 => ?_)
  · skip
    have c_7 := bB_n0.mp c_7
    have hF : F = -1 := by by_cases q : F = -1; exact q; rw [if_neg q] at c_7; exact absurd c_7 (by decide)
    have hD : isD ((bC b1 n1) k1) = true := by have q9 := c_7; rw [if_pos hF] at q9; exact q9
    refine lv_iconst (v := 0) hx hb dX7_number_16 (by decide) ?_
    refine lv_istore_n (lv' := [(1, .int 0), (0, .ref (ad 13 0))]) hx hb dX7_number_17 rfl hl (by decide) rfl (fun ls hl => ?_)
    refine lv_iconst (v := 0) hx hb dX7_number_18 (by decide) ?_
    refine lv_istore_n (lv' := [(2, .int 0), (1, .int 0), (0, .ref (ad 13 0))]) hx hb dX7_number_19 rfl hl (by decide) rfl (fun ls hl => ?_)
    have lp20 : ∀ (n : Nat) (j : Nat) (b : Nat) (x1 : Int32), (j ≤ 4) → (b = k1 + (4 - j)) → (b ≤ n1) → (pDg (bC b1 n1) j b x1 = pDg (bC b1 n1) 4 k1 0) → (j < n) → ∀ (H : Heap) (locs : List Loc), wd D A s.heap cnt ad (rq ad ct t (nI b) F) H locs → ∀ ls : Array Slot, lv_has ls 3 [(0, .ref (ad 13 0)), (1, .int x1), (2, .int (nI (4 - j)))] → W p l e (rmL 4 0 0) s m args below meth c H locs 0 0 Q (F0 m 20 ls []) := by
      intro n
      induction n with
      | zero =>
        intro j b x1 hj hbj hbt hdg hfu H locs hw ls hl
        exact absurd hfu (by omega)
      | succ n ih20 =>
        intro j b x1 hj hbj hbt hdg hfu H locs hw ls hl
        refine lv_iload_n hx hb dX7_number_20 rfl (lv_at hl 2 rfl) ?_
        refine lv_iconst (v := 4) hx hb dX7_number_21 (by decide) ?_
        refine lv_icmp_ge (tgt := 78) hx hb dX7_number_22 (by decide) (fun c_22 => ?_) (fun c_22 => ?_)
        · skip
          have hj0 : j = 0 := by have q9 := (nI_leI (a := 4) (b := 4 - j) (by omega) (by omega)).mp c_22; omega
          have hpd : pDg (bC b1 n1) j b x1 = (b, x1) := by rw [hj0]; rfl
          have hbk : k1 < b := by omega
          refine lv_iload_n hx hb dX7_number_78 rfl (lv_at hl 1 rfl) ?_
          subst hQ
          exact x_iretW E hr hlk hw (by decide) (by decide) (Or.inr (Or.inr ⟨hF, by rw [← hk1]; exact hD, by rw [← hk1, ← hdg, hpd], by rw [← hk1, ← hdg, hpd]; exact hbt, by rw [← hk1, ← hdg, hpd]; exact hbk, by rw [← hk1, ← hdg, hpd]⟩)) dX7_number_79
        · skip
          have hj0 : ¬ j = 0 := by have q9 := mt (nI_leI (a := 4) (b := 4 - j) (by omega) (by omega)).mpr c_22; omega
          refine lv_aload_n hx hb dX7_number_25 rfl (lv_at hl 0 rfl) ?_
          refine x_get E hw 13 0 (h13) (upd2_at _ _ _ _) cl_7 ly_7 1 (by decide) tw_54 rfl dX7_number_26 ?_
          refine lv_aload_n hx hb dX7_number_29 rfl (lv_at hl 0 rfl) ?_
          refine x_get E hw 13 0 (h13) (upd2_at _ _ _ _) cl_7 ly_7 2 (by decide) tw_55 rfl dX7_number_30 ?_
          refine x_read (x_runV (rest := []) E cbX8_byteAt tw_428 (kX8_byteAt l D ca cnt ad (rq ad ct t (nI b) F)  t _ _ (nI b) (h11) ((upd2_k _ _ _ _ (by decide)).trans htc) (h12) ((upd2_k _ _ _ _ (by decide)).trans hbc) (hn1)) ⟨rfl, rfl, by decide, by decide⟩ (x_recv E hw cl_8 (h11) ((upd2_k _ _ _ _ (by decide)).trans htc)) (fun _ _ _ _ h => h) (fun U hU _ => by rw [hU]; exact hw.1) rfl hl.1 rfl (Nat.le_of_ble_eq_true rfl) dX7_number_33 ⟨by decide, by decide⟩) ?_
          refine x_top (x := (cBy n1 b1 (nI b))) (y := ((bC b1 n1) b)) (cBy_eq hn1 (by omega)) ?_
          refine x_read (x_runS (rest := []) E cbX7_isDigit tw_452 (kX7_isDigit l D ca ((bC b1 n1) b) ) ⟨rfl, rfl, by decide, by decide⟩ (fun _ _ _ _ h => h) (fun _ _ _ => trivial) rfl hl.1 rfl (Nat.le_of_ble_eq_true rfl) dX7_number_36 ⟨by decide, by decide⟩) ?_
          refine lv_if_eq (tgt := 78) hx hb dX7_number_39 (by decide) (fun c_39 => ?_) (fun c_39 => ?_)
          · skip
            have c_39 := bB_0.mp c_39
            have hpd : pDg (bC b1 n1) j b x1 = (b, x1) := pDg_n c_39
            have hbk : k1 < b := by by_cases q : j = 4; rw [hbj, q, show k1 + (4 - 4) = k1 by omega, hD] at c_39; cases c_39; omega
            refine lv_iload_n hx hb dX7_number_78 rfl (lv_at hl 1 rfl) ?_
            subst hQ
            exact x_iretW E hr hlk hw (by decide) (by decide) (Or.inr (Or.inr ⟨hF, by rw [← hk1]; exact hD, by rw [← hk1, ← hdg, hpd], by rw [← hk1, ← hdg, hpd]; exact hbt, by rw [← hk1, ← hdg, hpd]; exact hbk, by rw [← hk1, ← hdg, hpd]⟩)) dX7_number_79
          · skip
            have c_39 := bB_n0.mp c_39
            have hb1 : b < n1 := isD_lt c_39
            refine lv_bipush (v := 10) hx hb dX7_number_42 (by decide) ?_
            refine lv_iload_n hx hb dX7_number_44 rfl (lv_at hl 1 rfl) ?_
            refine lv_imul hx hb dX7_number_45 ?_
            refine lv_aload_n hx hb dX7_number_46 rfl (lv_at hl 0 rfl) ?_
            refine x_get E hw 13 0 (h13) (upd2_at _ _ _ _) cl_7 ly_7 1 (by decide) tw_54 rfl dX7_number_47 ?_
            refine lv_aload_n hx hb dX7_number_50 rfl (lv_at hl 0 rfl) ?_
            refine x_get E hw 13 0 (h13) (upd2_at _ _ _ _) cl_7 ly_7 2 (by decide) tw_55 rfl dX7_number_51 ?_
            refine x_read (x_runV (rest := [.int (10 * x1)]) E cbX8_byteAt tw_428 (kX8_byteAt l D ca cnt ad (rq ad ct t (nI b) F)  t _ _ (nI b) (h11) ((upd2_k _ _ _ _ (by decide)).trans htc) (h12) ((upd2_k _ _ _ _ (by decide)).trans hbc) (hn1)) ⟨rfl, rfl, by decide, by decide⟩ (x_recv E hw cl_8 (h11) ((upd2_k _ _ _ _ (by decide)).trans htc)) (fun _ _ _ _ h => h) (fun U hU _ => by rw [hU]; exact hw.1) rfl hl.1 rfl (Nat.le_of_ble_eq_true rfl) dX7_number_54 ⟨by decide, by decide⟩) ?_
            refine x_top (x := (cBy n1 b1 (nI b))) (y := ((bC b1 n1) b)) (cBy_eq hn1 (by omega)) ?_
            refine lv_iadd hx hb dX7_number_57 ?_
            refine lv_bipush (v := 48) hx hb dX7_number_58 (by decide) ?_
            refine lv_isub hx hb dX7_number_60 ?_
            refine lv_istore_n (lv' := [(1, .int (((10 * x1) + (bC b1 n1) b) - 48)), (0, .ref (ad 13 0)), (2, .int (nI (4 - j)))]) hx hb dX7_number_61 rfl hl (by decide) rfl (fun ls hl => ?_)
            refine lv_aload_n hx hb dX7_number_62 rfl (lv_at hl 1 rfl) ?_
            refine lv_dup hx hb dX7_number_63 rfl ?_
            refine x_get E hw 13 0 (h13) (upd2_at _ _ _ _) cl_7 ly_7 2 (by decide) tw_55 rfl dX7_number_64 ?_
            refine lv_iconst (v := 1) hx hb dX7_number_67 (by decide) ?_
            refine lv_iadd hx hb dX7_number_68 ?_
            refine x_top (x := (nI b + 1)) (y := nI (b + 1)) (nI_1 _) ?_
            refine x_put E hw 13 0 (h13) (upd2_at _ _ _ _) cl_7 ly_7 tyX7 tyX7_ok nmX7 2 (by decide) tw_55 (Or.inl rfl) (by rfl) (by rfl) (Nat.le_of_ble_eq_true rfl) dX7_number_69 (fun H locs hw => ?_)
            rw [rq_2] at hw
            refine lv_iinc (v := (nI (4 - (j - 1)))) (lv' := [(2, .int (nI (4 - (j - 1)))), (1, .int (((10 * x1) + (bC b1 n1) b) - 48)), (0, .ref (ad 13 0))]) hx hb dX7_number_72 hl (k := 2) rfl (by show nI (4 - j) + 1 = _; rw [nI_1]; exact congrArg nI (by omega)) (by decide) rfl (fun ls hl => ?_)
            refine lv_goto (tgt := 20) hx hb dX7_number_75 (by decide) ?_
            exact ih20 (j - 1) (b + 1) (((10 * x1) + (bC b1 n1) b) - 48) (by omega) (by omega) (by omega) (by rw [← hdg]; obtain ⟨j8, rfl⟩ : ∃ z, j = z + 1 := ⟨j - 1, by omega⟩; rw [pDg, if_pos c_39]; rfl) (by omega) _ _ (hw) ls (lv_sub hl [2, 1, 0] (rfl))
    exact lp20 5 4 k1 0 (Nat.le_refl _) (by omega) (by omega) (rfl) (by omega) _ _ (hw) ls (lv_sub hl [2, 1, 0] (rfl))
  · skip
    have c_7 := bB_0.mp c_7
    have hc_7 : isD (if F = -1 then (bC b1 n1) k1 else -1) = false := c_7
    refine lv_aload_n hx hb dX7_number_10 rfl (lv_at hl 0 rfl) ?_
    refine x_wrote hw (x_runV (rest := []) E cbX7_fail tw_440 (kX7_fail l D ca cnt ad ct H.size t n1 b1 vs (nI k1) F hR) ⟨rfl, rfl, by decide, by decide⟩ (x_recv E hw cl_7 (h13) (upd2_at _ _ _ _)) (fun _ _ _ _ h => h) (fun U hU _ => by rw [hU]; exact ⟨rfl, hw.1⟩) rfl hl.1 rfl (Nat.le_of_ble_eq_true rfl) dX7_number_11 ⟨by decide, by decide⟩) (fun rv9 u9 H locs hp9 hw hz9 hk9 => ?_)
    obtain ⟨hrv9, hu9⟩ := hp9
    subst hrv9
    subst hu9
    have hw : wd D A s.heap cnt ad (rq ad ct t (nI k1) (if F = -1 then nI k1 else F)) H locs := hw
    refine lv_iconst (v := 0) hx hb dX7_number_14 (by decide) ?_
    subst hQ
    exact x_iretW E hr hlk hw (by decide) (by decide) (by rw [← hk1]; by_cases q : F = -1; exact Or.inr (Or.inl ⟨q, by rw [if_pos q] at hc_7; exact hc_7, rfl, by rw [if_pos q]⟩); exact Or.inl ⟨q, rfl, by rw [if_neg q]⟩) dX7_number_15
set_option maxHeartbeats 4000000 in
set_option maxRecDepth 100000 in
theorem kX7_letterValue (l : Launch) (D : va_G) (ca : Nat → ClassId) (cnt : Nat → Nat) (ad : Nat → Nat → Nat) (ct : Nat → Nat → va_E) (z9 : Nat) (t : Nat) (n1 : Nat) (b1 : Nat → Int32) (vs : Nat → Int32) (a : Nat) (hR : rdOK ca cnt ad ct t n1 b1 vs) (ha : a ≤ n1) : Met l yX7_letterValue (wz yX7_letterValue cX7_letterValue 3 (some .int)) (rmL 4 0 0) (va_Pc [.ref (ad 13 0)] (fun U => (U.heap.size = z9 ∧ wq D cnt ad (rq ad ct t (nI a) (-1)) U.heap ∧ lets (wA cnt ad z9) U) ∧ gK D ca U)) (QcW D (wA cnt ad z9) (fun rv u => (isL ((bC b1 n1) (pSk (bC b1 n1) n1 a)) = true ∧ rv = some (.int (vL vs ((bC b1 n1) (pSk (bC b1 n1) n1 a)))) ∧ u = (cnt, ad, rq ad ct t (nI ((pSk (bC b1 n1) n1 a) + 1)) (-1))) ∨ (isL ((bC b1 n1) (pSk (bC b1 n1) n1 a)) = false ∧ rv = some (.int 0) ∧ u = (cnt, ad, rq ad ct t (nI (pSk (bC b1 n1) n1 a)) (nI (pSk (bC b1 n1) n1 a)))))) 0 0 (wA cnt ad z9) := by
  refine x_met (by decide) (Nat.le_of_ble_eq_true rfl) ?_
  intro p e s m below meth c E hr hlk hnm hq ls hl
  obtain ⟨hsz9, hq, hLt⟩ := hq
  subst hsz9
  generalize hav : ([.ref (ad 13 0)] : List Value).toArray = args at E ⊢
  have hx := E.1
  have hb := E.2.1
  have hown := E.2.2.2.1
  have hts := E.2.2.2.2.1
  have hw : wd D (wA cnt ad s.heap.size) s.heap cnt ad (rq ad ct t (nI a) (-1)) s.heap [] := wd.start hq
  generalize hQ : MQ below (QcW D (wA cnt ad s.heap.size) (fun rv u => (isL ((bC b1 n1) (pSk (bC b1 n1) n1 a)) = true ∧ rv = some (.int (vL vs ((bC b1 n1) (pSk (bC b1 n1) n1 a)))) ∧ u = (cnt, ad, rq ad ct t (nI ((pSk (bC b1 n1) n1 a) + 1)) (-1))) ∨ (isL ((bC b1 n1) (pSk (bC b1 n1) n1 a)) = false ∧ rv = some (.int 0) ∧ u = (cnt, ad, rq ad ct t (nI (pSk (bC b1 n1) n1 a)) (nI (pSk (bC b1 n1) n1 a)))))) args s 0 0 (wA cnt ad s.heap.size) = Q
  generalize hA9 : wA cnt ad s.heap.size = A at hw hQ hLt
  have hl : lv_has ls 3 [(0, .ref (ad 13 0))] := hl
  obtain ⟨tL, hLz, hLT⟩ := id hLt
  obtain ⟨h13, h11, htc, h12, hbc, hn1, h14, hvc⟩ := id hR
  suffices hgo : ∀ (H : Heap) (locs : List Loc), wd D A s.heap cnt ad (rq ad ct t (nI a) (-1)) H locs → W p l e (rmL 4 0 0) s m args below meth c H locs 0 0 Q (F0 m 0 ls []) from hgo _ _ hw
  clear hw
  intro H locs hw
  refine lv_aload_n hx hb dX7_letterValue_0 rfl (lv_at hl 0 rfl) ?_
  refine x_wrote hw (x_runV (rest := []) E cbX7_next tw_424 (kX7_next l D ca cnt ad ct H.size t n1 b1 vs a (-1) hR (by omega)) ⟨rfl, rfl, by decide, by decide⟩ (x_recv E hw cl_7 (h13) (upd2_at _ _ _ _)) (fun _ _ _ _ h => h) (fun U hU _ => by rw [hU]; exact ⟨rfl, hw.1⟩) rfl hl.1 rfl (Nat.le_of_ble_eq_true rfl) dX7_letterValue_1 ⟨by decide, by decide⟩) (fun rv9 u9 H locs hp9 hw hz9 hk9 => ?_)
  obtain ⟨k1, hk1⟩ : ∃ z, z = pSk (bC b1 n1) n1 a := ⟨_, rfl⟩
  rw [← hk1] at hp9
  have hkg1 : a ≤ k1 := by rw [hk1]; exact pSk_ge _ _ _
  have hkl1 : k1 ≤ n1 := by rw [hk1]; exact pSk_le (by omega)
  obtain ⟨hrv9, hu9⟩ := hp9
  rw [if_pos rfl] at hrv9
  subst hrv9
  subst hu9
  have hw : wd D A s.heap cnt ad (rq ad ct t (nI k1) (-1)) H locs := hw
  refine lv_istore_n (lv' := [(1, .int ((bC b1 n1) k1)), (0, .ref (ad 13 0))]) hx hb dX7_letterValue_4 rfl hl (by decide) rfl (fun ls hl => ?_)
  refine lv_iconst (v := 0) hx hb dX7_letterValue_5 (by decide) ?_
  refine lv_istore_n (lv' := [(2, .int 0), (1, .int ((bC b1 n1) k1)), (0, .ref (ad 13 0))]) hx hb dX7_letterValue_6 rfl hl (by decide) rfl (fun ls hl => ?_)
  have lp7 : ∀ (n : Nat) (i : Nat), (i ≤ 5) → (∀ j, j < i → ¬ lF j = (bC b1 n1) k1) → (5 - i < n) → ∀ (H : Heap) (locs : List Loc), wd D A s.heap cnt ad (rq ad ct t (nI k1) (-1)) H locs → ∀ ls : Array Slot, lv_has ls 3 [(0, .ref (ad 13 0)), (1, .int ((bC b1 n1) k1)), (2, .int (nI i))] → W p l e (rmL 4 0 0) s m args below meth c H locs 0 0 Q (F0 m 7 ls []) := by
    intro n
    induction n with
    | zero =>
      intro i hi hno hfu H locs hw ls hl
      exact absurd hfu (by omega)
    | succ n ih7 =>
      intro i hi hno hfu H locs hw ls hl
      refine lv_iload_n hx hb dX7_letterValue_7 rfl (lv_at hl 2 rfl) ?_
      refine va_gets hx hb hLz hw.2.2.1 hown (hts _ tw_50) (fun _ h => h) dX7_letterValue_8 ?_
      refine va_tlen hx hb hLT hw.2.2.1 (v := 5) rfl dX7_letterValue_11 ?_
      refine lv_icmp_ge (tgt := 47) hx hb dX7_letterValue_12 (by decide) (fun c_12 => ?_) (fun c_12 => ?_)
      · skip
        have hge : i = 5 := by have q9 := (nI_leI (a := 5) (b := i) (by omega) (by omega)).mp c_12; omega
        refine lv_aload_n hx hb dX7_letterValue_47 rfl (lv_at hl 0 rfl) ?_
        refine x_wrote hw (x_runV (rest := []) E cbX7_fail tw_440 (kX7_fail l D ca cnt ad ct H.size t n1 b1 vs (nI k1) (-1) hR) ⟨rfl, rfl, by decide, by decide⟩ (x_recv E hw cl_7 (h13) (upd2_at _ _ _ _)) (fun _ _ _ _ h => h) (fun U hU _ => by rw [hU]; exact ⟨rfl, hw.1⟩) rfl hl.1 rfl (Nat.le_of_ble_eq_true rfl) dX7_letterValue_48 ⟨by decide, by decide⟩) (fun rv9 u9 H locs hp9 hw hz9 hk9 => ?_)
        obtain ⟨hrv9, hu9⟩ := hp9
        rw [if_pos rfl] at hu9
        subst hrv9
        subst hu9
        have hw : wd D A s.heap cnt ad (rq ad ct t (nI k1) (nI k1)) H locs := hw
        refine lv_iconst (v := 0) hx hb dX7_letterValue_51 (by decide) ?_
        subst hQ
        exact x_iretW E hr hlk hw (by decide) (by decide) (Or.inr ⟨by rw [← hk1]; exact lF_no (fun j hj => hno j (by omega)), rfl, by rw [← hk1]⟩) dX7_letterValue_52
      · skip
        have hlt : i < 5 := by have q9 := mt (nI_leI (a := 5) (b := i) (by omega) (by omega)).mpr c_12; omega
        refine va_gets hx hb hLz hw.2.2.1 hown (hts _ tw_50) (fun _ h => h) dX7_letterValue_15 ?_
        refine lv_iload_n hx hb dX7_letterValue_18 rfl (lv_at hl 2 rfl) ?_
        refine va_tc hx hb hLT hw.2.2.1 (i := nI i) (v := .int (lF i)) (by show ¬ (nI i < 0 ∨ 5 ≤ (nI i).toNatClampNeg); rw [nI_clamp (by omega)]; have q9 := nI_pos (n := i) (by omega); intro q; rcases q with q | q; exact q9 q; omega) (by rw [nI_clamp (by omega)]) dX7_letterValue_19 ?_
        refine lv_iload_n hx hb dX7_letterValue_20 rfl (lv_at hl 1 rfl) ?_
        refine lv_icmp_ne (tgt := 41) hx hb dX7_letterValue_21 (by decide) (fun c_21 => ?_) (fun c_21 => ?_)
        · skip
          refine lv_iinc (v := (nI (i + 1))) (lv' := [(2, .int (nI (i + 1))), (0, .ref (ad 13 0)), (1, .int ((bC b1 n1) k1))]) hx hb dX7_letterValue_41 hl (k := 2) rfl (nI_1 _) (by decide) rfl (fun ls hl => ?_)
          refine lv_goto (tgt := 7) hx hb dX7_letterValue_44 (by decide) ?_
          exact ih7 (i + 1) (hlt) (fun j hj => by by_cases q : j = i; rw [q]; exact c_21; exact hno j (by omega)) (by omega) _ _ (hw) ls (lv_sub hl [1, 2, 0] (rfl))
        · skip
          refine lv_aload_n hx hb dX7_letterValue_24 rfl (lv_at hl 0 rfl) ?_
          refine lv_dup hx hb dX7_letterValue_25 rfl ?_
          refine x_get E hw 13 0 (h13) (upd2_at _ _ _ _) cl_7 ly_7 2 (by decide) tw_55 rfl dX7_letterValue_26 ?_
          refine lv_iconst (v := 1) hx hb dX7_letterValue_29 (by decide) ?_
          refine lv_iadd hx hb dX7_letterValue_30 ?_
          refine x_top (x := (nI k1 + 1)) (y := nI (k1 + 1)) (nI_1 _) ?_
          refine x_put E hw 13 0 (h13) (upd2_at _ _ _ _) cl_7 ly_7 tyX7 tyX7_ok nmX7 2 (by decide) tw_55 (Or.inl rfl) (by rfl) (by rfl) (Nat.le_of_ble_eq_true rfl) dX7_letterValue_31 (fun H locs hw => ?_)
          rw [rq_2] at hw
          refine lv_aload_n hx hb dX7_letterValue_34 rfl (lv_at hl 0 rfl) ?_
          refine x_get E hw 13 0 (h13) (upd2_at _ _ _ _) cl_7 ly_7 0 (by decide) tw_52 rfl dX7_letterValue_35 ?_
          refine lv_iload_n hx hb dX7_letterValue_38 rfl (lv_at hl 2 rfl) ?_
          refine x_ild E hw 14 0 (h14) ((upd2_k _ _ _ _ (by decide)).trans hvc) i (rfl) (by omega) (by omega) dX7_letterValue_39 ?_
          subst hQ
          exact x_iretW E hr hlk hw (by decide) (by decide) (Or.inl ⟨by rw [← hk1, ← c_21]; exact lF_L i, by rw [← hk1, ← c_21, lF_v vs hlt], by rw [← hk1]⟩) dX7_letterValue_40
  exact lp7 6 0 (Nat.zero_le _) (fun j hj => absurd hj (Nat.not_lt_zero _)) (by omega) _ _ (hw) ls (lv_sub hl [2, 1, 0] (rfl))
set_option maxHeartbeats 4000000 in
set_option maxRecDepth 100000 in
theorem kX7_test (l : Launch) (D : va_G) (ca : Nat → ClassId) (cnt : Nat → Nat) (ad : Nat → Nat → Nat) (ct : Nat → Nat → va_E) (z9 : Nat) (t : Nat) (n1 : Nat) (b1 : Nat → Int32) (vs : Nat → Int32) (a : Nat) (hR : rdOK ca cnt ad ct t n1 b1 vs) (ha : a ≤ n1) (hfx : pSk (bC b1 n1) n1 a = a) : Met l yX7_test (wz yX7_test cX7_test 2 (some .boolean)) (rmL 5 0 0) (va_Pc [.ref (ad 13 0)] (fun U => (U.heap.size = z9 ∧ wq D cnt ad (rq ad ct t (nI a) (-1)) U.heap ∧ lets (wA cnt ad z9) U) ∧ gK D ca U)) (QcW D (wA cnt ad z9) (fun rv u => ∃ x9 f9, u = (cnt, ad, rq ad ct t (nI x9) f9) ∧ cPo (bC b1 n1) n1 a vs (pTe (bC b1 n1) n1 a) rv x9 f9)) 0 0 (wA cnt ad z9) := by
  refine x_met (by decide) (Nat.le_of_ble_eq_true rfl) ?_
  intro p e s m below meth c E hr hlk hnm hq ls hl
  obtain ⟨hsz9, hq, hLt⟩ := hq
  subst hsz9
  generalize hav : ([.ref (ad 13 0)] : List Value).toArray = args at E ⊢
  have hx := E.1
  have hb := E.2.1
  have hown := E.2.2.2.1
  have hts := E.2.2.2.2.1
  have hw : wd D (wA cnt ad s.heap.size) s.heap cnt ad (rq ad ct t (nI a) (-1)) s.heap [] := wd.start hq
  generalize hQ : MQ below (QcW D (wA cnt ad s.heap.size) (fun rv u => ∃ x9 f9, u = (cnt, ad, rq ad ct t (nI x9) f9) ∧ cPo (bC b1 n1) n1 a vs (pTe (bC b1 n1) n1 a) rv x9 f9)) args s 0 0 (wA cnt ad s.heap.size) = Q
  generalize hA9 : wA cnt ad s.heap.size = A at hw hQ hLt
  have hl : lv_has ls 2 [(0, .ref (ad 13 0))] := hl
  obtain ⟨tL, hLz, hLT⟩ := id hLt
  obtain ⟨h13, h11, htc, h12, hbc, hn1, h14, hvc⟩ := id hR
  suffices hgo : ∀ (H : Heap) (locs : List Loc), wd D A s.heap cnt ad (rq ad ct t (nI a) (-1)) H locs → W p l e (rmL 5 0 0) s m args below meth c H locs 0 0 Q (F0 m 0 ls []) from hgo _ _ hw
  clear hw
  intro H locs hw
  refine lv_aload_n hx hb dX7_test_0 rfl (lv_at hl 0 rfl) ?_
  refine x_wrote hw (x_runV (rest := []) E cbX7_letterValue tw_436 (kX7_letterValue l D ca cnt ad ct H.size t n1 b1 vs a hR (by omega)) ⟨rfl, rfl, by decide, by decide⟩ (x_recv E hw cl_7 (h13) (upd2_at _ _ _ _)) (fun U g9 mk9 a9 h => ⟨h.1, h.2.1, lets_blind h.2.2⟩) (fun U hU hW9 => ⟨by rw [hU], by rw [hU]; exact hw.1, lets_call hLt hw hU hW9⟩) rfl hl.1 rfl (Nat.le_of_ble_eq_true rfl) dX7_test_1 ⟨by decide, by decide⟩) (fun rv9 u9 H locs hp9 hw hz9 hk9 => ?_)
  obtain ⟨k1, hk1⟩ : ∃ z, z = pSk (bC b1 n1) n1 a := ⟨_, rfl⟩
  rw [← hk1] at hp9
  have hkg1 : a ≤ k1 := by rw [hk1]; exact pSk_ge _ _ _
  have hkl1 : k1 ≤ n1 := by rw [hk1]; exact pSk_le (by omega)
  rcases hp9 with ⟨hL, hrv9, hu9⟩ | ⟨hL, hrv9, hu9⟩
  · skip
    subst hrv9
    subst hu9
    have hw : wd D A s.heap cnt ad (rq ad ct t (nI (k1 + 1)) (-1)) H locs := hw
    have hkt1 : k1 < n1 := isL_lt hL
    have hka : k1 = a := by rw [hk1, hfx]
    have hR1 : pTe (bC b1 n1) n1 a = pTe (bC b1 n1) n1 k1 := by rw [hka]
    refine lv_istore_n (lv' := [(1, .int (vL vs ((bC b1 n1) k1))), (0, .ref (ad 13 0))]) hx hb dX7_test_4 rfl hl (by decide) rfl (fun ls hl => ?_)
    refine lv_aload_n hx hb dX7_test_5 rfl (lv_at hl 1 rfl) ?_
    refine lv_bipush (v := 61) hx hb dX7_test_6 (by decide) ?_
    refine x_wrote hw (x_runV (rest := []) E cbX7_take tw_444 (kX7_take l D ca cnt ad ct H.size t n1 b1 vs (k1 + 1) (-1) 61 hR (by omega) (by decide)) ⟨rfl, rfl, by decide, by decide⟩ (x_recv E hw cl_7 (h13) (upd2_at _ _ _ _)) (fun _ _ _ _ h => h) (fun U hU _ => by rw [hU]; exact ⟨rfl, hw.1⟩) rfl hl.1 rfl (Nat.le_of_ble_eq_true rfl) dX7_test_8 ⟨by decide, by decide⟩) (fun rv9 u9 H locs hp9 hw hz9 hk9 => ?_)
    obtain ⟨k8, hk8⟩ : ∃ z, z = pSk (bC b1 n1) n1 (k1 + 1) := ⟨_, rfl⟩
    rw [← hk8] at hp9
    have hkg8 : (k1 + 1) ≤ k8 := by rw [hk8]; exact pSk_ge _ _ _
    have hkl8 : k8 ≤ n1 := by rw [hk8]; exact pSk_le (by omega)
    rcases hp9 with ⟨hcF8, hck8, hrv9, hu9⟩ | ⟨hcn8, hrv9, hu9⟩
    · skip
      subst hrv9
      subst hu9
      have hw : wd D A s.heap cnt ad (rq ad ct t (nI (k8 + 1)) (-1)) H locs := hw
      have hkt8 : k8 < n1 := tC_in hck8 (by decide)
      have hk8q : k8 = pSk (bC b1 n1) n1 (k1 + 1) := by rw [hk8]
      refine lv_if_eq (tgt := 28) hx hb dX7_test_11 (by decide) (fun c_11 => ?_) (fun c_11 => ?_)
      · skip
        exact absurd c_11 (by decide)
      · skip
        refine lv_iload_n hx hb dX7_test_14 rfl (lv_at hl 0 rfl) ?_
        refine lv_aload_n hx hb dX7_test_15 rfl (lv_at hl 1 rfl) ?_
        refine x_wrote hw (x_runV (rest := [.int (vL vs ((bC b1 n1) k1))]) E cbX7_number tw_448 (kX7_number l D ca cnt ad ct H.size t n1 b1 vs (k8 + 1) (-1) hR (by omega)) ⟨rfl, rfl, by decide, by decide⟩ (x_recv E hw cl_7 (h13) (upd2_at _ _ _ _)) (fun _ _ _ _ h => h) (fun U hU _ => by rw [hU]; exact ⟨rfl, hw.1⟩) rfl hl.1 rfl (Nat.le_of_ble_eq_true rfl) dX7_test_16 ⟨by decide, by decide⟩) (fun rv9 u9 H locs hp9 hw hz9 hk9 => ?_)
        obtain ⟨k16, hk16⟩ : ∃ z, z = pSk (bC b1 n1) n1 (k8 + 1) := ⟨_, rfl⟩
        rw [← hk16] at hp9
        have hkg16 : (k8 + 1) ≤ k16 := by rw [hk16]; exact pSk_ge _ _ _
        have hkl16 : k16 ≤ n1 := by rw [hk16]; exact pSk_le (by omega)
        obtain ⟨b16, hb16⟩ : ∃ z, z = pDg (bC b1 n1) 4 k16 0 := ⟨_, rfl⟩
        rw [← hb16] at hp9
        rcases hp9 with ⟨hF9, -⟩ | ⟨-, hD16, hrv9, hu9⟩ | ⟨-, hD16, hrv9, hbn16, hbk16, hu9⟩
        · exact absurd rfl hF9
        · skip
          subst hrv9
          subst hu9
          have hw : wd D A s.heap cnt ad (rq ad ct t (nI k16) (nI k16)) H locs := hw
          refine lv_icmp_ne (tgt := 26) hx hb dX7_test_19 (by decide) (fun c_19 => ?_) (fun c_19 => ?_)
          · skip
            refine lv_iconst (v := 0) hx hb dX7_test_26 (by decide) ?_
            subst hQ
            exact x_zretW E hr hlk (by decide) hw (by decide) (by decide) (⟨_, _, rfl, Or.inl ⟨k16, _, by rw [hR1]; exact pTe_3 hL hk8q (by rw [hck8]; decide) hk16 hD16, by omega, rfl, (by decide), ⟨by omega, Or.inl rfl⟩⟩⟩) dX7_test_27
          · skip
            refine lv_iconst (v := 1) hx hb dX7_test_22 (by decide) ?_
            refine lv_goto (tgt := 27) hx hb dX7_test_23 (by decide) ?_
            subst hQ
            exact x_zretW E hr hlk (by decide) hw (by decide) (by decide) (⟨_, _, rfl, Or.inl ⟨k16, _, by rw [hR1]; exact pTe_3 hL hk8q (by rw [hck8]; decide) hk16 hD16, by omega, rfl, (by decide), ⟨by omega, Or.inl rfl⟩⟩⟩) dX7_test_27
        · skip
          subst hrv9
          subst hu9
          have hw : wd D A s.heap cnt ad (rq ad ct t (nI b16.1) (-1)) H locs := hw
          refine lv_icmp_ne (tgt := 26) hx hb dX7_test_19 (by decide) (fun c_19 => ?_) (fun c_19 => ?_)
          · skip
            refine lv_iconst (v := 0) hx hb dX7_test_26 (by decide) ?_
            subst hQ
            exact x_zretW E hr hlk (by decide) hw (by decide) (by decide) (by by_cases q : isD ((bC b1 n1) b16.1) = true; exact ⟨_, _, rfl, Or.inl ⟨b16.1, _, by rw [hR1]; exact pTe_4 (x := b16.2) hL hk8q (by rw [hck8]; decide) hk16 hD16 (by rw [← hb16]) q, hbn16, rfl, (by decide), ⟨hbn16, Or.inr ⟨rfl, rfl, q⟩⟩⟩⟩; exact ⟨_, _, rfl, Or.inr ⟨[0, (bC b1 n1) k1, (bC b1 n1) k8, b16.2], by rw [hR1]; exact pTe_5 (x := b16.2) hL hk8q (by rw [hck8]; decide) hk16 hD16 (by rw [← hb16]) (by simpa using q), by omega, hbn16, (wf_t _ _ _).1, by rw [(wf_t _ _ _).2, hck8, rT_eq]; simp [bB, c_19], rfl⟩⟩) dX7_test_27
          · skip
            refine lv_iconst (v := 1) hx hb dX7_test_22 (by decide) ?_
            refine lv_goto (tgt := 27) hx hb dX7_test_23 (by decide) ?_
            subst hQ
            exact x_zretW E hr hlk (by decide) hw (by decide) (by decide) (by by_cases q : isD ((bC b1 n1) b16.1) = true; exact ⟨_, _, rfl, Or.inl ⟨b16.1, _, by rw [hR1]; exact pTe_4 (x := b16.2) hL hk8q (by rw [hck8]; decide) hk16 hD16 (by rw [← hb16]) q, hbn16, rfl, (by decide), ⟨hbn16, Or.inr ⟨rfl, rfl, q⟩⟩⟩⟩; exact ⟨_, _, rfl, Or.inr ⟨[0, (bC b1 n1) k1, (bC b1 n1) k8, b16.2], by rw [hR1]; exact pTe_5 (x := b16.2) hL hk8q (by rw [hck8]; decide) hk16 hD16 (by rw [← hb16]) (by simpa using q), by omega, hbn16, (wf_t _ _ _).1, by rw [(wf_t _ _ _).2, hck8, rT_eq]; simp [bB, c_19], rfl⟩⟩) dX7_test_27
    · skip
      subst hrv9
      subst hu9
      have hw : wd D A s.heap cnt ad (rq ad ct t (nI k8) (-1)) H locs := hw
      have hcn8 : ¬ (bC b1 n1) k8 = 61 := fun q => hcn8 ⟨rfl, q⟩
      have hk8q : k8 = pSk (bC b1 n1) n1 (k1 + 1) := by rw [hk8]
      refine lv_if_eq (tgt := 28) hx hb dX7_test_11 (by decide) (fun c_11 => ?_) (fun c_11 => ?_)
      · skip
        refine lv_aload_n hx hb dX7_test_28 rfl (lv_at hl 1 rfl) ?_
        refine lv_bipush (v := 60) hx hb dX7_test_29 (by decide) ?_
        refine x_wrote hw (x_runV (rest := []) E cbX7_take tw_444 (kX7_take l D ca cnt ad ct H.size t n1 b1 vs k8 (-1) 60 hR (by omega) (by decide)) ⟨rfl, rfl, by decide, by decide⟩ (x_recv E hw cl_7 (h13) (upd2_at _ _ _ _)) (fun _ _ _ _ h => h) (fun U hU _ => by rw [hU]; exact ⟨rfl, hw.1⟩) rfl hl.1 rfl (Nat.le_of_ble_eq_true rfl) dX7_test_31 ⟨by decide, by decide⟩) (fun rv9 u9 H locs hp9 hw hz9 hk9 => ?_)
        obtain ⟨k31, hk31⟩ : ∃ z, z = pSk (bC b1 n1) n1 k8 := ⟨_, rfl⟩
        rw [← hk31] at hp9
        have hkg31 : k8 ≤ k31 := by rw [hk31]; exact pSk_ge _ _ _
        have hkl31 : k31 ≤ n1 := by rw [hk31]; exact pSk_le (by omega)
        rcases hp9 with ⟨hcF31, hck31, hrv9, hu9⟩ | ⟨hcn31, hrv9, hu9⟩
        · skip
          subst hrv9
          subst hu9
          have hw : wd D A s.heap cnt ad (rq ad ct t (nI (k31 + 1)) (-1)) H locs := hw
          have hkt31 : k31 < n1 := tC_in hck31 (by decide)
          have hk31q : k31 = pSk (bC b1 n1) n1 (k1 + 1) := by rw [hk31, hk8, pSk_fix]
          refine lv_if_eq (tgt := 51) hx hb dX7_test_34 (by decide) (fun c_34 => ?_) (fun c_34 => ?_)
          · skip
            exact absurd c_34 (by decide)
          · skip
            refine lv_iload_n hx hb dX7_test_37 rfl (lv_at hl 0 rfl) ?_
            refine lv_aload_n hx hb dX7_test_38 rfl (lv_at hl 1 rfl) ?_
            refine x_wrote hw (x_runV (rest := [.int (vL vs ((bC b1 n1) k1))]) E cbX7_number tw_448 (kX7_number l D ca cnt ad ct H.size t n1 b1 vs (k31 + 1) (-1) hR (by omega)) ⟨rfl, rfl, by decide, by decide⟩ (x_recv E hw cl_7 (h13) (upd2_at _ _ _ _)) (fun _ _ _ _ h => h) (fun U hU _ => by rw [hU]; exact ⟨rfl, hw.1⟩) rfl hl.1 rfl (Nat.le_of_ble_eq_true rfl) dX7_test_39 ⟨by decide, by decide⟩) (fun rv9 u9 H locs hp9 hw hz9 hk9 => ?_)
            obtain ⟨k39, hk39⟩ : ∃ z, z = pSk (bC b1 n1) n1 (k31 + 1) := ⟨_, rfl⟩
            rw [← hk39] at hp9
            have hkg39 : (k31 + 1) ≤ k39 := by rw [hk39]; exact pSk_ge _ _ _
            have hkl39 : k39 ≤ n1 := by rw [hk39]; exact pSk_le (by omega)
            obtain ⟨b39, hb39⟩ : ∃ z, z = pDg (bC b1 n1) 4 k39 0 := ⟨_, rfl⟩
            rw [← hb39] at hp9
            rcases hp9 with ⟨hF9, -⟩ | ⟨-, hD39, hrv9, hu9⟩ | ⟨-, hD39, hrv9, hbn39, hbk39, hu9⟩
            · exact absurd rfl hF9
            · skip
              subst hrv9
              subst hu9
              have hw : wd D A s.heap cnt ad (rq ad ct t (nI k39) (nI k39)) H locs := hw
              refine lv_icmp_ge (tgt := 49) hx hb dX7_test_42 (by decide) (fun c_42 => ?_) (fun c_42 => ?_)
              · skip
                refine lv_iconst (v := 0) hx hb dX7_test_49 (by decide) ?_
                subst hQ
                exact x_zretW E hr hlk (by decide) hw (by decide) (by decide) (⟨_, _, rfl, Or.inl ⟨k39, _, by rw [hR1]; exact pTe_3 hL hk31q (by rw [hck31]; decide) hk39 hD39, by omega, rfl, (by decide), ⟨by omega, Or.inl rfl⟩⟩⟩) dX7_test_50
              · skip
                refine lv_iconst (v := 1) hx hb dX7_test_45 (by decide) ?_
                refine lv_goto (tgt := 50) hx hb dX7_test_46 (by decide) ?_
                subst hQ
                exact x_zretW E hr hlk (by decide) hw (by decide) (by decide) (⟨_, _, rfl, Or.inl ⟨k39, _, by rw [hR1]; exact pTe_3 hL hk31q (by rw [hck31]; decide) hk39 hD39, by omega, rfl, (by decide), ⟨by omega, Or.inl rfl⟩⟩⟩) dX7_test_50
            · skip
              subst hrv9
              subst hu9
              have hw : wd D A s.heap cnt ad (rq ad ct t (nI b39.1) (-1)) H locs := hw
              refine lv_icmp_ge (tgt := 49) hx hb dX7_test_42 (by decide) (fun c_42 => ?_) (fun c_42 => ?_)
              · skip
                refine lv_iconst (v := 0) hx hb dX7_test_49 (by decide) ?_
                subst hQ
                exact x_zretW E hr hlk (by decide) hw (by decide) (by decide) (by by_cases q : isD ((bC b1 n1) b39.1) = true; exact ⟨_, _, rfl, Or.inl ⟨b39.1, _, by rw [hR1]; exact pTe_4 (x := b39.2) hL hk31q (by rw [hck31]; decide) hk39 hD39 (by rw [← hb39]) q, hbn39, rfl, (by decide), ⟨hbn39, Or.inr ⟨rfl, rfl, q⟩⟩⟩⟩; exact ⟨_, _, rfl, Or.inr ⟨[0, (bC b1 n1) k1, (bC b1 n1) k31, b39.2], by rw [hR1]; exact pTe_5 (x := b39.2) hL hk31q (by rw [hck31]; decide) hk39 hD39 (by rw [← hb39]) (by simpa using q), by omega, hbn39, (wf_t _ _ _).1, by rw [(wf_t _ _ _).2, hck31, rT_lt]; simp [bB, c_42], rfl⟩⟩) dX7_test_50
              · skip
                refine lv_iconst (v := 1) hx hb dX7_test_45 (by decide) ?_
                refine lv_goto (tgt := 50) hx hb dX7_test_46 (by decide) ?_
                subst hQ
                exact x_zretW E hr hlk (by decide) hw (by decide) (by decide) (by by_cases q : isD ((bC b1 n1) b39.1) = true; exact ⟨_, _, rfl, Or.inl ⟨b39.1, _, by rw [hR1]; exact pTe_4 (x := b39.2) hL hk31q (by rw [hck31]; decide) hk39 hD39 (by rw [← hb39]) q, hbn39, rfl, (by decide), ⟨hbn39, Or.inr ⟨rfl, rfl, q⟩⟩⟩⟩; exact ⟨_, _, rfl, Or.inr ⟨[0, (bC b1 n1) k1, (bC b1 n1) k31, b39.2], by rw [hR1]; exact pTe_5 (x := b39.2) hL hk31q (by rw [hck31]; decide) hk39 hD39 (by rw [← hb39]) (by simpa using q), by omega, hbn39, (wf_t _ _ _).1, by rw [(wf_t _ _ _).2, hck31, rT_lt]; simp [bB, c_42], rfl⟩⟩) dX7_test_50
        · skip
          subst hrv9
          subst hu9
          have hw : wd D A s.heap cnt ad (rq ad ct t (nI k31) (-1)) H locs := hw
          have hcn31 : ¬ (bC b1 n1) k31 = 60 := fun q => hcn31 ⟨rfl, q⟩
          have hk31q : k31 = pSk (bC b1 n1) n1 (k1 + 1) := by rw [hk31, hk8, pSk_fix]
          refine lv_if_eq (tgt := 51) hx hb dX7_test_34 (by decide) (fun c_34 => ?_) (fun c_34 => ?_)
          · skip
            refine lv_aload_n hx hb dX7_test_51 rfl (lv_at hl 1 rfl) ?_
            refine lv_bipush (v := 62) hx hb dX7_test_52 (by decide) ?_
            refine x_wrote hw (x_runV (rest := []) E cbX7_take tw_444 (kX7_take l D ca cnt ad ct H.size t n1 b1 vs k31 (-1) 62 hR (by omega) (by decide)) ⟨rfl, rfl, by decide, by decide⟩ (x_recv E hw cl_7 (h13) (upd2_at _ _ _ _)) (fun _ _ _ _ h => h) (fun U hU _ => by rw [hU]; exact ⟨rfl, hw.1⟩) rfl hl.1 rfl (Nat.le_of_ble_eq_true rfl) dX7_test_54 ⟨by decide, by decide⟩) (fun rv9 u9 H locs hp9 hw hz9 hk9 => ?_)
            obtain ⟨k54, hk54⟩ : ∃ z, z = pSk (bC b1 n1) n1 k31 := ⟨_, rfl⟩
            rw [← hk54] at hp9
            have hkg54 : k31 ≤ k54 := by rw [hk54]; exact pSk_ge _ _ _
            have hkl54 : k54 ≤ n1 := by rw [hk54]; exact pSk_le (by omega)
            rcases hp9 with ⟨hcF54, hck54, hrv9, hu9⟩ | ⟨hcn54, hrv9, hu9⟩
            · skip
              subst hrv9
              subst hu9
              have hw : wd D A s.heap cnt ad (rq ad ct t (nI (k54 + 1)) (-1)) H locs := hw
              have hkt54 : k54 < n1 := tC_in hck54 (by decide)
              have hk54q : k54 = pSk (bC b1 n1) n1 (k1 + 1) := by rw [hk54, hk31, hk8, pSk_fix, pSk_fix]
              refine lv_if_eq (tgt := 74) hx hb dX7_test_57 (by decide) (fun c_57 => ?_) (fun c_57 => ?_)
              · skip
                exact absurd c_57 (by decide)
              · skip
                refine lv_iload_n hx hb dX7_test_60 rfl (lv_at hl 0 rfl) ?_
                refine lv_aload_n hx hb dX7_test_61 rfl (lv_at hl 1 rfl) ?_
                refine x_wrote hw (x_runV (rest := [.int (vL vs ((bC b1 n1) k1))]) E cbX7_number tw_448 (kX7_number l D ca cnt ad ct H.size t n1 b1 vs (k54 + 1) (-1) hR (by omega)) ⟨rfl, rfl, by decide, by decide⟩ (x_recv E hw cl_7 (h13) (upd2_at _ _ _ _)) (fun _ _ _ _ h => h) (fun U hU _ => by rw [hU]; exact ⟨rfl, hw.1⟩) rfl hl.1 rfl (Nat.le_of_ble_eq_true rfl) dX7_test_62 ⟨by decide, by decide⟩) (fun rv9 u9 H locs hp9 hw hz9 hk9 => ?_)
                obtain ⟨k62, hk62⟩ : ∃ z, z = pSk (bC b1 n1) n1 (k54 + 1) := ⟨_, rfl⟩
                rw [← hk62] at hp9
                have hkg62 : (k54 + 1) ≤ k62 := by rw [hk62]; exact pSk_ge _ _ _
                have hkl62 : k62 ≤ n1 := by rw [hk62]; exact pSk_le (by omega)
                obtain ⟨b62, hb62⟩ : ∃ z, z = pDg (bC b1 n1) 4 k62 0 := ⟨_, rfl⟩
                rw [← hb62] at hp9
                rcases hp9 with ⟨hF9, -⟩ | ⟨-, hD62, hrv9, hu9⟩ | ⟨-, hD62, hrv9, hbn62, hbk62, hu9⟩
                · exact absurd rfl hF9
                · skip
                  subst hrv9
                  subst hu9
                  have hw : wd D A s.heap cnt ad (rq ad ct t (nI k62) (nI k62)) H locs := hw
                  refine lv_icmp_le (tgt := 72) hx hb dX7_test_65 (by decide) (fun c_65 => ?_) (fun c_65 => ?_)
                  · skip
                    refine lv_iconst (v := 0) hx hb dX7_test_72 (by decide) ?_
                    subst hQ
                    exact x_zretW E hr hlk (by decide) hw (by decide) (by decide) (⟨_, _, rfl, Or.inl ⟨k62, _, by rw [hR1]; exact pTe_3 hL hk54q (by rw [hck54]; decide) hk62 hD62, by omega, rfl, (by decide), ⟨by omega, Or.inl rfl⟩⟩⟩) dX7_test_73
                  · skip
                    refine lv_iconst (v := 1) hx hb dX7_test_68 (by decide) ?_
                    refine lv_goto (tgt := 73) hx hb dX7_test_69 (by decide) ?_
                    subst hQ
                    exact x_zretW E hr hlk (by decide) hw (by decide) (by decide) (⟨_, _, rfl, Or.inl ⟨k62, _, by rw [hR1]; exact pTe_3 hL hk54q (by rw [hck54]; decide) hk62 hD62, by omega, rfl, (by decide), ⟨by omega, Or.inl rfl⟩⟩⟩) dX7_test_73
                · skip
                  subst hrv9
                  subst hu9
                  have hw : wd D A s.heap cnt ad (rq ad ct t (nI b62.1) (-1)) H locs := hw
                  refine lv_icmp_le (tgt := 72) hx hb dX7_test_65 (by decide) (fun c_65 => ?_) (fun c_65 => ?_)
                  · skip
                    refine lv_iconst (v := 0) hx hb dX7_test_72 (by decide) ?_
                    subst hQ
                    exact x_zretW E hr hlk (by decide) hw (by decide) (by decide) (by by_cases q : isD ((bC b1 n1) b62.1) = true; exact ⟨_, _, rfl, Or.inl ⟨b62.1, _, by rw [hR1]; exact pTe_4 (x := b62.2) hL hk54q (by rw [hck54]; decide) hk62 hD62 (by rw [← hb62]) q, hbn62, rfl, (by decide), ⟨hbn62, Or.inr ⟨rfl, rfl, q⟩⟩⟩⟩; exact ⟨_, _, rfl, Or.inr ⟨[0, (bC b1 n1) k1, (bC b1 n1) k54, b62.2], by rw [hR1]; exact pTe_5 (x := b62.2) hL hk54q (by rw [hck54]; decide) hk62 hD62 (by rw [← hb62]) (by simpa using q), by omega, hbn62, (wf_t _ _ _).1, by rw [(wf_t _ _ _).2, hck54, rT_gt]; simp [bB, c_65], rfl⟩⟩) dX7_test_73
                  · skip
                    refine lv_iconst (v := 1) hx hb dX7_test_68 (by decide) ?_
                    refine lv_goto (tgt := 73) hx hb dX7_test_69 (by decide) ?_
                    subst hQ
                    exact x_zretW E hr hlk (by decide) hw (by decide) (by decide) (by by_cases q : isD ((bC b1 n1) b62.1) = true; exact ⟨_, _, rfl, Or.inl ⟨b62.1, _, by rw [hR1]; exact pTe_4 (x := b62.2) hL hk54q (by rw [hck54]; decide) hk62 hD62 (by rw [← hb62]) q, hbn62, rfl, (by decide), ⟨hbn62, Or.inr ⟨rfl, rfl, q⟩⟩⟩⟩; exact ⟨_, _, rfl, Or.inr ⟨[0, (bC b1 n1) k1, (bC b1 n1) k54, b62.2], by rw [hR1]; exact pTe_5 (x := b62.2) hL hk54q (by rw [hck54]; decide) hk62 hD62 (by rw [← hb62]) (by simpa using q), by omega, hbn62, (wf_t _ _ _).1, by rw [(wf_t _ _ _).2, hck54, rT_gt]; simp [bB, c_65], rfl⟩⟩) dX7_test_73
            · skip
              subst hrv9
              subst hu9
              have hw : wd D A s.heap cnt ad (rq ad ct t (nI k54) (-1)) H locs := hw
              have hcn54 : ¬ (bC b1 n1) k54 = 62 := fun q => hcn54 ⟨rfl, q⟩
              have hk54q : k54 = pSk (bC b1 n1) n1 (k1 + 1) := by rw [hk54, hk31, hk8, pSk_fix, pSk_fix]
              refine lv_if_eq (tgt := 74) hx hb dX7_test_57 (by decide) (fun c_57 => ?_) (fun c_57 => ?_)
              · skip
                refine lv_aload_n hx hb dX7_test_74 rfl (lv_at hl 1 rfl) ?_
                refine x_wrote hw (x_runV (rest := []) E cbX7_fail tw_440 (kX7_fail l D ca cnt ad ct H.size t n1 b1 vs (nI k54) (-1) hR) ⟨rfl, rfl, by decide, by decide⟩ (x_recv E hw cl_7 (h13) (upd2_at _ _ _ _)) (fun _ _ _ _ h => h) (fun U hU _ => by rw [hU]; exact ⟨rfl, hw.1⟩) rfl hl.1 rfl (Nat.le_of_ble_eq_true rfl) dX7_test_75 ⟨by decide, by decide⟩) (fun rv9 u9 H locs hp9 hw hz9 hk9 => ?_)
                obtain ⟨hrv9, hu9⟩ := hp9
                rw [if_pos rfl] at hu9
                subst hrv9
                subst hu9
                have hw : wd D A s.heap cnt ad (rq ad ct t (nI k54) (nI k54)) H locs := hw
                refine lv_iconst (v := 0) hx hb dX7_test_78 (by decide) ?_
                subst hQ
                exact x_zretW E hr hlk (by decide) hw (by decide) (by decide) (⟨_, _, rfl, Or.inl ⟨k54, _, by rw [hR1]; exact pTe_2 hL hk54q (by have e1 : k54 = k8 := (by rw [hk54q, hk8q]); have e2 : k54 = k31 := (by rw [hk54q, hk31q]); rw [← e1] at hcn8; rw [← e2] at hcn31; simp [isS, hcn8, hcn31, hcn54]), by omega, rfl, (by decide), ⟨by omega, Or.inl rfl⟩⟩⟩) dX7_test_79
              · skip
                exact absurd c_57 (by decide)
          · skip
            exact absurd c_34 (by decide)
      · skip
        exact absurd c_11 (by decide)
  · skip
    subst hrv9
    subst hu9
    have hw : wd D A s.heap cnt ad (rq ad ct t (nI k1) (nI k1)) H locs := hw
    have hka : k1 = a := by rw [hk1, hfx]
    have hR1 : pTe (bC b1 n1) n1 a = pTe (bC b1 n1) n1 k1 := by rw [hka]
    refine lv_istore_n (lv' := [(1, .int 0), (0, .ref (ad 13 0))]) hx hb dX7_test_4 rfl hl (by decide) rfl (fun ls hl => ?_)
    refine lv_aload_n hx hb dX7_test_5 rfl (lv_at hl 1 rfl) ?_
    refine lv_bipush (v := 61) hx hb dX7_test_6 (by decide) ?_
    refine x_wrote hw (x_runV (rest := []) E cbX7_take tw_444 (kX7_take l D ca cnt ad ct H.size t n1 b1 vs k1 (nI k1) 61 hR (by omega) (by decide)) ⟨rfl, rfl, by decide, by decide⟩ (x_recv E hw cl_7 (h13) (upd2_at _ _ _ _)) (fun _ _ _ _ h => h) (fun U hU _ => by rw [hU]; exact ⟨rfl, hw.1⟩) rfl hl.1 rfl (Nat.le_of_ble_eq_true rfl) dX7_test_8 ⟨by decide, by decide⟩) (fun rv9 u9 H locs hp9 hw hz9 hk9 => ?_)
    obtain ⟨k8, hk8⟩ : ∃ z, z = pSk (bC b1 n1) n1 k1 := ⟨_, rfl⟩
    rw [← hk8] at hp9
    have hkg8 : k1 ≤ k8 := by rw [hk8]; exact pSk_ge _ _ _
    have hkl8 : k8 ≤ n1 := by rw [hk8]; exact pSk_le (by omega)
    rcases hp9 with ⟨hcF8, hck8, hrv9, hu9⟩ | ⟨hcn8, hrv9, hu9⟩
    · skip
      exact absurd hcF8 (nI_nn (by omega))
    · skip
      subst hrv9
      subst hu9
      have hw : wd D A s.heap cnt ad (rq ad ct t (nI k8) (nI k1)) H locs := hw
      skip
      refine lv_if_eq (tgt := 28) hx hb dX7_test_11 (by decide) (fun c_11 => ?_) (fun c_11 => ?_)
      · skip
        refine lv_aload_n hx hb dX7_test_28 rfl (lv_at hl 1 rfl) ?_
        refine lv_bipush (v := 60) hx hb dX7_test_29 (by decide) ?_
        refine x_wrote hw (x_runV (rest := []) E cbX7_take tw_444 (kX7_take l D ca cnt ad ct H.size t n1 b1 vs k8 (nI k1) 60 hR (by omega) (by decide)) ⟨rfl, rfl, by decide, by decide⟩ (x_recv E hw cl_7 (h13) (upd2_at _ _ _ _)) (fun _ _ _ _ h => h) (fun U hU _ => by rw [hU]; exact ⟨rfl, hw.1⟩) rfl hl.1 rfl (Nat.le_of_ble_eq_true rfl) dX7_test_31 ⟨by decide, by decide⟩) (fun rv9 u9 H locs hp9 hw hz9 hk9 => ?_)
        obtain ⟨k31, hk31⟩ : ∃ z, z = pSk (bC b1 n1) n1 k8 := ⟨_, rfl⟩
        rw [← hk31] at hp9
        have hkg31 : k8 ≤ k31 := by rw [hk31]; exact pSk_ge _ _ _
        have hkl31 : k31 ≤ n1 := by rw [hk31]; exact pSk_le (by omega)
        rcases hp9 with ⟨hcF31, hck31, hrv9, hu9⟩ | ⟨hcn31, hrv9, hu9⟩
        · skip
          exact absurd hcF31 (nI_nn (by omega))
        · skip
          subst hrv9
          subst hu9
          have hw : wd D A s.heap cnt ad (rq ad ct t (nI k31) (nI k1)) H locs := hw
          skip
          refine lv_if_eq (tgt := 51) hx hb dX7_test_34 (by decide) (fun c_34 => ?_) (fun c_34 => ?_)
          · skip
            refine lv_aload_n hx hb dX7_test_51 rfl (lv_at hl 1 rfl) ?_
            refine lv_bipush (v := 62) hx hb dX7_test_52 (by decide) ?_
            refine x_wrote hw (x_runV (rest := []) E cbX7_take tw_444 (kX7_take l D ca cnt ad ct H.size t n1 b1 vs k31 (nI k1) 62 hR (by omega) (by decide)) ⟨rfl, rfl, by decide, by decide⟩ (x_recv E hw cl_7 (h13) (upd2_at _ _ _ _)) (fun _ _ _ _ h => h) (fun U hU _ => by rw [hU]; exact ⟨rfl, hw.1⟩) rfl hl.1 rfl (Nat.le_of_ble_eq_true rfl) dX7_test_54 ⟨by decide, by decide⟩) (fun rv9 u9 H locs hp9 hw hz9 hk9 => ?_)
            obtain ⟨k54, hk54⟩ : ∃ z, z = pSk (bC b1 n1) n1 k31 := ⟨_, rfl⟩
            rw [← hk54] at hp9
            have hkg54 : k31 ≤ k54 := by rw [hk54]; exact pSk_ge _ _ _
            have hkl54 : k54 ≤ n1 := by rw [hk54]; exact pSk_le (by omega)
            rcases hp9 with ⟨hcF54, hck54, hrv9, hu9⟩ | ⟨hcn54, hrv9, hu9⟩
            · skip
              exact absurd hcF54 (nI_nn (by omega))
            · skip
              subst hrv9
              subst hu9
              have hw : wd D A s.heap cnt ad (rq ad ct t (nI k54) (nI k1)) H locs := hw
              skip
              refine lv_if_eq (tgt := 74) hx hb dX7_test_57 (by decide) (fun c_57 => ?_) (fun c_57 => ?_)
              · skip
                refine lv_aload_n hx hb dX7_test_74 rfl (lv_at hl 1 rfl) ?_
                refine x_wrote hw (x_runV (rest := []) E cbX7_fail tw_440 (kX7_fail l D ca cnt ad ct H.size t n1 b1 vs (nI k54) (nI k1) hR) ⟨rfl, rfl, by decide, by decide⟩ (x_recv E hw cl_7 (h13) (upd2_at _ _ _ _)) (fun _ _ _ _ h => h) (fun U hU _ => by rw [hU]; exact ⟨rfl, hw.1⟩) rfl hl.1 rfl (Nat.le_of_ble_eq_true rfl) dX7_test_75 ⟨by decide, by decide⟩) (fun rv9 u9 H locs hp9 hw hz9 hk9 => ?_)
                obtain ⟨hrv9, hu9⟩ := hp9
                rw [if_neg (nI_nn (by omega))] at hu9
                subst hrv9
                subst hu9
                have hw : wd D A s.heap cnt ad (rq ad ct t (nI k54) (nI k1)) H locs := hw
                refine lv_iconst (v := 0) hx hb dX7_test_78 (by decide) ?_
                subst hQ
                exact x_zretW E hr hlk (by decide) hw (by decide) (by decide) (⟨_, _, rfl, Or.inl ⟨k1, _, by rw [hR1]; exact pTe_1 hL, by omega, rfl, (by decide), ⟨by omega, Or.inl rfl⟩⟩⟩) dX7_test_79
              · skip
                exact absurd c_57 (by decide)
          · skip
            exact absurd c_34 (by decide)
      · skip
        exact absurd c_11 (by decide)
set_option maxHeartbeats 4000000 in
set_option maxRecDepth 100000 in
theorem kX7_unit (l : Launch) (D : va_G) (ca : Nat → ClassId) (cnt : Nat → Nat) (ad : Nat → Nat → Nat) (ct : Nat → Nat → va_E) (z9 : Nat) (t : Nat) (n1 : Nat) (b1 : Nat → Int32) (vs : Nat → Int32) (a : Nat) (r : Nat) (hR : rdOK ca cnt ad ct t n1 b1 vs) (ha : a ≤ n1) (hr8 : r ≤ 8) (ih : ∀ r1, r = r1 + 1 → KC l D ca r1) : Met l yX7_unit (wz yX7_unit cX7_unit 3 (some .boolean)) (rmL (3 * r + 6) 0 0) (va_Pc [.ref (ad 13 0), .int (nI (8 - r))] (fun U => (U.heap.size = z9 ∧ wq D cnt ad (rq ad ct t (nI a) (-1)) U.heap ∧ lets (wA cnt ad z9) U) ∧ gK D ca U)) (QcW D (wA cnt ad z9) (fun rv u => ∃ x9 f9, u = (cnt, ad, rq ad ct t (nI x9) f9) ∧ cPo (bC b1 n1) n1 a vs (pU (bC b1 n1) n1 r a) rv x9 f9)) 0 0 (wA cnt ad z9) := by
  refine x_met (by decide) (Nat.le_of_ble_eq_true rfl) ?_
  intro p e s m below meth c E hr hlk hnm hq ls hl
  obtain ⟨hsz9, hq, hLt⟩ := hq
  subst hsz9
  generalize hav : ([.ref (ad 13 0), .int (nI (8 - r))] : List Value).toArray = args at E ⊢
  have hx := E.1
  have hb := E.2.1
  have hown := E.2.2.2.1
  have hts := E.2.2.2.2.1
  have hw : wd D (wA cnt ad s.heap.size) s.heap cnt ad (rq ad ct t (nI a) (-1)) s.heap [] := wd.start hq
  generalize hQ : MQ below (QcW D (wA cnt ad s.heap.size) (fun rv u => ∃ x9 f9, u = (cnt, ad, rq ad ct t (nI x9) f9) ∧ cPo (bC b1 n1) n1 a vs (pU (bC b1 n1) n1 r a) rv x9 f9)) args s 0 0 (wA cnt ad s.heap.size) = Q
  generalize hA9 : wA cnt ad s.heap.size = A at hw hQ hLt
  have hl : lv_has ls 3 [(0, .ref (ad 13 0)), (1, .int (nI (8 - r)))] := hl
  obtain ⟨tL, hLz, hLT⟩ := id hLt
  obtain ⟨h13, h11, htc, h12, hbc, hn1, h14, hvc⟩ := id hR
  suffices hgo : ∀ (H : Heap) (locs : List Loc), wd D A s.heap cnt ad (rq ad ct t (nI a) (-1)) H locs → W p l e (rmL (3 * r + 6) 0 0) s m args below meth c H locs 0 0 Q (F0 m 0 ls []) from hgo _ _ hw
  clear hw
  intro H locs hw
  refine lv_aload_n hx hb dX7_unit_0 rfl (lv_at hl 0 rfl) ?_
  refine x_wrote hw (x_runV (rest := []) E cbX7_next tw_424 (kX7_next l D ca cnt ad ct H.size t n1 b1 vs a (-1) hR (by omega)) ⟨rfl, rfl, by dsimp only [rmL]; omega, by dsimp only [rmL]; omega⟩ (x_recv E hw cl_7 (h13) (upd2_at _ _ _ _)) (fun _ _ _ _ h => h) (fun U hU _ => by rw [hU]; exact ⟨rfl, hw.1⟩) rfl hl.1 rfl (Nat.le_of_ble_eq_true rfl) dX7_unit_1 ⟨Nat.le_refl _, Nat.le_refl _⟩) (fun rv9 u9 H locs hp9 hw hz9 hk9 => ?_)
  obtain ⟨k1, hk1⟩ : ∃ z, z = pSk (bC b1 n1) n1 a := ⟨_, rfl⟩
  rw [← hk1] at hp9
  have hkg1 : a ≤ k1 := by rw [hk1]; exact pSk_ge _ _ _
  have hkl1 : k1 ≤ n1 := by rw [hk1]; exact pSk_le (by omega)
  obtain ⟨hrv9, hu9⟩ := hp9
  rw [if_pos rfl] at hrv9
  subst hrv9
  subst hu9
  have hw : wd D A s.heap cnt ad (rq ad ct t (nI k1) (-1)) H locs := hw
  refine lv_bipush (v := 40) hx hb dX7_unit_4 (by decide) ?_
  refine lv_icmp_eq (tgt := 14) hx hb dX7_unit_6 (by decide) (fun c_6 => ?_) (fun c_6 => ?_)
  · skip
    refine lv_iload_n hx hb dX7_unit_14 rfl (lv_at hl 1 rfl) ?_
    refine lv_bipush (v := 8) hx hb dX7_unit_15 (by decide) ?_
    refine lv_icmp_lt (tgt := 26) hx hb dX7_unit_17 (by decide) (fun c_17 => ?_) (fun c_17 => ?_)
    · skip
      have hr0 : ¬ r = 0 := by have q9 := (nI_ltI (a := 8 - r) (b := 8) (by omega) (by omega)).mp c_17; omega
      have hkt1 : k1 < n1 := tC_in c_6 (by decide)
      refine lv_aload_n hx hb dX7_unit_26 rfl (lv_at hl 0 rfl) ?_
      refine lv_dup hx hb dX7_unit_27 rfl ?_
      refine x_get E hw 13 0 (h13) (upd2_at _ _ _ _) cl_7 ly_7 2 (by decide) tw_55 rfl dX7_unit_28 ?_
      refine lv_iconst (v := 1) hx hb dX7_unit_31 (by decide) ?_
      refine lv_iadd hx hb dX7_unit_32 ?_
      refine x_top (x := (nI k1 + 1)) (y := nI (k1 + 1)) (nI_1 _) ?_
      refine x_put E hw 13 0 (h13) (upd2_at _ _ _ _) cl_7 ly_7 tyX7 tyX7_ok nmX7 2 (by decide) tw_55 (Or.inl rfl) (by rfl) (by rfl) (Nat.le_of_ble_eq_true rfl) dX7_unit_33 (fun H locs hw => ?_)
      rw [rq_2] at hw
      refine lv_aload_n hx hb dX7_unit_36 rfl (lv_at hl 0 rfl) ?_
      refine lv_iload_n hx hb dX7_unit_37 rfl (lv_at hl 1 rfl) ?_
      refine lv_iconst (v := 1) hx hb dX7_unit_38 (by decide) ?_
      refine lv_iadd hx hb dX7_unit_39 ?_
      refine x_top (x := (nI (8 - r) + 1)) (y := (nI (8 - (r - 1)))) (by rw [nI_1]; exact congrArg nI (by omega)) ?_
      refine x_wrote hw (x_runV (rest := []) E cbX7_tests tw_412 (ih (r - 1) (by omega) cnt ad ct H.size t n1 b1 vs (k1 + 1) hR (by omega) (by omega)) ⟨rfl, rfl, by dsimp only [rmL]; omega, by dsimp only [rmL]; omega⟩ (x_recv E hw cl_7 (h13) (upd2_at _ _ _ _)) (fun U g9 mk9 a9 h => ⟨h.1, h.2.1, lets_blind h.2.2⟩) (fun U hU hW9 => ⟨by rw [hU], by rw [hU]; exact hw.1, lets_call hLt hw hU hW9⟩) rfl hl.1 rfl (Nat.le_of_ble_eq_true rfl) dX7_unit_40 ⟨Nat.le_refl _, Nat.le_refl _⟩) (fun rv9 u9 H locs hp9 hw hz9 hk9 => ?_)
      obtain ⟨x40, f40q, hu9, hp9⟩ := hp9
      subst hu9
      rcases hp9 with ⟨e40, y40, hR40, he40, hrv9, hy40, hx40, hf9 | ⟨hf9, hx9, hdg9⟩⟩ | ⟨L40, hR40, hab40, hxt40, hwf40, hrv9, hf9⟩
      · skip
        subst hrv9
        subst hf9
        have hw : wd D A s.heap cnt ad (rq ad ct t (nI x40) (nI e40)) H locs := hw
        rw [show r - 1 + 1 = r by omega] at hR40
        refine lv_istore_n (lv' := [(2, .int y40), (0, .ref (ad 13 0)), (1, .int (nI (8 - r)))]) hx hb dX7_unit_43 rfl hl (by decide) rfl (fun ls hl => ?_)
        refine lv_aload_n hx hb dX7_unit_44 rfl (lv_at hl 1 rfl) ?_
        refine lv_bipush (v := 41) hx hb dX7_unit_45 (by decide) ?_
        refine x_wrote hw (x_runV (rest := []) E cbX7_take tw_444 (kX7_take l D ca cnt ad ct H.size t n1 b1 vs x40 (nI e40) 41 hR (by omega) (by decide)) ⟨rfl, rfl, by dsimp only [rmL]; omega, by dsimp only [rmL]; omega⟩ (x_recv E hw cl_7 (h13) (upd2_at _ _ _ _)) (fun _ _ _ _ h => h) (fun U hU _ => by rw [hU]; exact ⟨rfl, hw.1⟩) rfl hl.1 rfl (Nat.le_of_ble_eq_true rfl) dX7_unit_47 ⟨Nat.le_refl _, Nat.le_refl _⟩) (fun rv9 u9 H locs hp9 hw hz9 hk9 => ?_)
        obtain ⟨k47e, hk47e⟩ : ∃ z, z = pSk (bC b1 n1) n1 x40 := ⟨_, rfl⟩
        rw [← hk47e] at hp9
        have hkg47e : x40 ≤ k47e := by rw [hk47e]; exact pSk_ge _ _ _
        have hkl47e : k47e ≤ n1 := by rw [hk47e]; exact pSk_le (by omega)
        rcases hp9 with ⟨hcF47e, hck47e, hrv9, hu9⟩ | ⟨hcn47e, hrv9, hu9⟩
        · skip
          exact absurd hcF47e (nI_nn (by omega))
        · skip
          subst hrv9
          subst hu9
          have hw : wd D A s.heap cnt ad (rq ad ct t (nI k47e) (nI e40)) H locs := hw
          refine lv_if_ne (tgt := 57) hx hb dX7_unit_50 (by decide) (fun c_50 => ?_) (fun c_50 => ?_)
          · skip
            exact absurd c_50 (by decide)
          · skip
            refine lv_aload_n hx hb dX7_unit_53 rfl (lv_at hl 1 rfl) ?_
            refine x_wrote hw (x_runV (rest := []) E cbX7_fail tw_440 (kX7_fail l D ca cnt ad ct H.size t n1 b1 vs (nI k47e) (nI e40) hR) ⟨rfl, rfl, by dsimp only [rmL]; omega, by dsimp only [rmL]; omega⟩ (x_recv E hw cl_7 (h13) (upd2_at _ _ _ _)) (fun _ _ _ _ h => h) (fun U hU _ => by rw [hU]; exact ⟨rfl, hw.1⟩) rfl hl.1 rfl (Nat.le_of_ble_eq_true rfl) dX7_unit_54 ⟨Nat.le_refl _, Nat.le_refl _⟩) (fun rv9 u9 H locs hp9 hw hz9 hk9 => ?_)
            obtain ⟨hrv9, hu9⟩ := hp9
            rw [if_neg (nI_nn (by omega))] at hu9
            subst hrv9
            subst hu9
            have hw : wd D A s.heap cnt ad (rq ad ct t (nI k47e) (nI e40)) H locs := hw
            refine lv_iload_n hx hb dX7_unit_57 rfl (lv_at hl 0 rfl) ?_
            subst hQ
            exact x_zretW E hr hlk (hy40) hw (by decide) (by decide) (⟨_, _, rfl, Or.inl ⟨e40, _, pUn_e hk1 c_6 hR40, by omega, rfl, hy40, ⟨by omega, Or.inl rfl⟩⟩⟩) dX7_unit_58
      · skip
        subst hrv9
        subst hf9
        obtain ⟨e9, he9⟩ : ∃ z, z = e40 := ⟨_, rfl⟩
        rw [← he9] at hdg9 hx9
        have hw : wd D A s.heap cnt ad (rq ad ct t (nI x40) (-1)) H locs := hw
        rw [show r - 1 + 1 = r by omega] at hR40
        refine lv_istore_n (lv' := [(2, .int y40), (0, .ref (ad 13 0)), (1, .int (nI (8 - r)))]) hx hb dX7_unit_43 rfl hl (by decide) rfl (fun ls hl => ?_)
        refine lv_aload_n hx hb dX7_unit_44 rfl (lv_at hl 1 rfl) ?_
        refine lv_bipush (v := 41) hx hb dX7_unit_45 (by decide) ?_
        refine x_wrote hw (x_runV (rest := []) E cbX7_take tw_444 (kX7_take l D ca cnt ad ct H.size t n1 b1 vs x40 (-1) 41 hR (by omega) (by decide)) ⟨rfl, rfl, by dsimp only [rmL]; omega, by dsimp only [rmL]; omega⟩ (x_recv E hw cl_7 (h13) (upd2_at _ _ _ _)) (fun _ _ _ _ h => h) (fun U hU _ => by rw [hU]; exact ⟨rfl, hw.1⟩) rfl hl.1 rfl (Nat.le_of_ble_eq_true rfl) dX7_unit_47 ⟨Nat.le_refl _, Nat.le_refl _⟩) (fun rv9 u9 H locs hp9 hw hz9 hk9 => ?_)
        obtain ⟨k47e, hk47e⟩ : ∃ z, z = pSk (bC b1 n1) n1 x40 := ⟨_, rfl⟩
        rw [← hk47e] at hp9
        have hkg47e : x40 ≤ k47e := by rw [hk47e]; exact pSk_ge _ _ _
        have hkl47e : k47e ≤ n1 := by rw [hk47e]; exact pSk_le (by omega)
        rcases hp9 with ⟨hcF47e, hck47e, hrv9, hu9⟩ | ⟨hcn47e, hrv9, hu9⟩
        · skip
          exact dig_no hdg9 (by omega) hk47e hck47e (by decide)
        · skip
          subst hrv9
          subst hu9
          have hw : wd D A s.heap cnt ad (rq ad ct t (nI k47e) (-1)) H locs := hw
          have hcn47e : ¬ (bC b1 n1) k47e = 41 := fun q => hcn47e ⟨rfl, q⟩
          have hke47e : k47e = e9 := by rw [hk47e]; exact dig_sk hdg9 (by omega)
          refine lv_if_ne (tgt := 57) hx hb dX7_unit_50 (by decide) (fun c_50 => ?_) (fun c_50 => ?_)
          · skip
            exact absurd c_50 (by decide)
          · skip
            refine lv_aload_n hx hb dX7_unit_53 rfl (lv_at hl 1 rfl) ?_
            refine x_wrote hw (x_runV (rest := []) E cbX7_fail tw_440 (kX7_fail l D ca cnt ad ct H.size t n1 b1 vs (nI k47e) (-1) hR) ⟨rfl, rfl, by dsimp only [rmL]; omega, by dsimp only [rmL]; omega⟩ (x_recv E hw cl_7 (h13) (upd2_at _ _ _ _)) (fun _ _ _ _ h => h) (fun U hU _ => by rw [hU]; exact ⟨rfl, hw.1⟩) rfl hl.1 rfl (Nat.le_of_ble_eq_true rfl) dX7_unit_54 ⟨Nat.le_refl _, Nat.le_refl _⟩) (fun rv9 u9 H locs hp9 hw hz9 hk9 => ?_)
            obtain ⟨hrv9, hu9⟩ := hp9
            rw [if_pos rfl] at hu9
            subst hrv9
            subst hu9
            have hw : wd D A s.heap cnt ad (rq ad ct t (nI k47e) (nI k47e)) H locs := hw
            refine lv_iload_n hx hb dX7_unit_57 rfl (lv_at hl 0 rfl) ?_
            subst hQ
            exact x_zretW E hr hlk (hy40) hw (by decide) (by decide) (⟨_, _, rfl, Or.inl ⟨e40, _, pUn_e hk1 c_6 hR40, by omega, rfl, hy40, ⟨by omega, Or.inl (by rw [hke47e, he9])⟩⟩⟩) dX7_unit_58
      · skip
        subst hrv9
        subst hf9
        have hw : wd D A s.heap cnt ad (rq ad ct t (nI x40) (-1)) H locs := hw
        rw [show r - 1 + 1 = r by omega] at hR40
        refine lv_istore_n (lv' := [(2, .int (bB (rB vs L40))), (0, .ref (ad 13 0)), (1, .int (nI (8 - r)))]) hx hb dX7_unit_43 rfl hl (by decide) rfl (fun ls hl => ?_)
        refine lv_aload_n hx hb dX7_unit_44 rfl (lv_at hl 1 rfl) ?_
        refine lv_bipush (v := 41) hx hb dX7_unit_45 (by decide) ?_
        refine x_wrote hw (x_runV (rest := []) E cbX7_take tw_444 (kX7_take l D ca cnt ad ct H.size t n1 b1 vs x40 (-1) 41 hR (by omega) (by decide)) ⟨rfl, rfl, by dsimp only [rmL]; omega, by dsimp only [rmL]; omega⟩ (x_recv E hw cl_7 (h13) (upd2_at _ _ _ _)) (fun _ _ _ _ h => h) (fun U hU _ => by rw [hU]; exact ⟨rfl, hw.1⟩) rfl hl.1 rfl (Nat.le_of_ble_eq_true rfl) dX7_unit_47 ⟨Nat.le_refl _, Nat.le_refl _⟩) (fun rv9 u9 H locs hp9 hw hz9 hk9 => ?_)
        obtain ⟨k47, hk47⟩ : ∃ z, z = pSk (bC b1 n1) n1 x40 := ⟨_, rfl⟩
        rw [← hk47] at hp9
        have hkg47 : x40 ≤ k47 := by rw [hk47]; exact pSk_ge _ _ _
        have hkl47 : k47 ≤ n1 := by rw [hk47]; exact pSk_le (by omega)
        rcases hp9 with ⟨hcF47, hck47, hrv9, hu9⟩ | ⟨hcn47, hrv9, hu9⟩
        · skip
          subst hrv9
          subst hu9
          have hw : wd D A s.heap cnt ad (rq ad ct t (nI (k47 + 1)) (-1)) H locs := hw
          have hkt47 : k47 < n1 := tC_in hck47 (by decide)
          refine lv_if_ne (tgt := 57) hx hb dX7_unit_50 (by decide) (fun c_50 => ?_) (fun c_50 => ?_)
          · skip
            refine lv_iload_n hx hb dX7_unit_57 rfl (lv_at hl 0 rfl) ?_
            subst hQ
            exact x_zretW E hr hlk (bB_or _) hw (by decide) (by decide) (⟨_, _, rfl, Or.inr ⟨L40, pUn_k hk1 c_6 hR40 hk47 hck47, by omega, by omega, hwf40, rfl, rfl⟩⟩) dX7_unit_58
          · skip
            exact absurd c_50 (by decide)
        · skip
          subst hrv9
          subst hu9
          have hw : wd D A s.heap cnt ad (rq ad ct t (nI k47) (-1)) H locs := hw
          have hcn47 : ¬ (bC b1 n1) k47 = 41 := fun q => hcn47 ⟨rfl, q⟩
          refine lv_if_ne (tgt := 57) hx hb dX7_unit_50 (by decide) (fun c_50 => ?_) (fun c_50 => ?_)
          · skip
            exact absurd c_50 (by decide)
          · skip
            refine lv_aload_n hx hb dX7_unit_53 rfl (lv_at hl 1 rfl) ?_
            refine x_wrote hw (x_runV (rest := []) E cbX7_fail tw_440 (kX7_fail l D ca cnt ad ct H.size t n1 b1 vs (nI k47) (-1) hR) ⟨rfl, rfl, by dsimp only [rmL]; omega, by dsimp only [rmL]; omega⟩ (x_recv E hw cl_7 (h13) (upd2_at _ _ _ _)) (fun _ _ _ _ h => h) (fun U hU _ => by rw [hU]; exact ⟨rfl, hw.1⟩) rfl hl.1 rfl (Nat.le_of_ble_eq_true rfl) dX7_unit_54 ⟨Nat.le_refl _, Nat.le_refl _⟩) (fun rv9 u9 H locs hp9 hw hz9 hk9 => ?_)
            obtain ⟨hrv9, hu9⟩ := hp9
            rw [if_pos rfl] at hu9
            subst hrv9
            subst hu9
            have hw : wd D A s.heap cnt ad (rq ad ct t (nI k47) (nI k47)) H locs := hw
            refine lv_iload_n hx hb dX7_unit_57 rfl (lv_at hl 0 rfl) ?_
            subst hQ
            exact x_zretW E hr hlk (bB_or _) hw (by decide) (by decide) (⟨_, _, rfl, Or.inl ⟨k47, _, pUn_c hk1 c_6 hR40 hk47 hcn47, by omega, rfl, bB_or _, ⟨by omega, Or.inl rfl⟩⟩⟩) dX7_unit_58
    · skip
      have hr0 : r = 0 := by have q9 := mt (nI_ltI (a := 8 - r) (b := 8) (by omega) (by omega)).mpr c_17; omega
      refine lv_aload_n hx hb dX7_unit_20 rfl (lv_at hl 0 rfl) ?_
      refine x_wrote hw (x_runV (rest := []) E cbX7_fail tw_440 (kX7_fail l D ca cnt ad ct H.size t n1 b1 vs (nI k1) (-1) hR) ⟨rfl, rfl, by dsimp only [rmL]; omega, by dsimp only [rmL]; omega⟩ (x_recv E hw cl_7 (h13) (upd2_at _ _ _ _)) (fun _ _ _ _ h => h) (fun U hU _ => by rw [hU]; exact ⟨rfl, hw.1⟩) rfl hl.1 rfl (Nat.le_of_ble_eq_true rfl) dX7_unit_21 ⟨Nat.le_refl _, Nat.le_refl _⟩) (fun rv9 u9 H locs hp9 hw hz9 hk9 => ?_)
      obtain ⟨hrv9, hu9⟩ := hp9
      rw [if_pos rfl] at hu9
      subst hrv9
      subst hu9
      have hw : wd D A s.heap cnt ad (rq ad ct t (nI k1) (nI k1)) H locs := hw
      refine lv_iconst (v := 0) hx hb dX7_unit_24 (by decide) ?_
      subst hQ
      exact x_zretW E hr hlk (by decide) hw (by decide) (by decide) (⟨_, _, rfl, Or.inl ⟨k1, _, by rw [hr0]; exact (pUn_0 hk1 c_6).trans (pTe_1 (by rw [c_6]; decide)), by omega, rfl, (by decide), ⟨by omega, Or.inl rfl⟩⟩⟩) dX7_unit_25
  · skip
    refine lv_aload_n hx hb dX7_unit_9 rfl (lv_at hl 0 rfl) ?_
    refine x_wrote hw (x_runV (rest := []) E cbX7_test tw_432 (kX7_test l D ca cnt ad ct H.size t n1 b1 vs k1 hR (by omega) (by rw [hk1]; exact pSk_fix _ _ _)) ⟨rfl, rfl, by dsimp only [rmL]; omega, by dsimp only [rmL]; omega⟩ (x_recv E hw cl_7 (h13) (upd2_at _ _ _ _)) (fun U g9 mk9 a9 h => ⟨h.1, h.2.1, lets_blind h.2.2⟩) (fun U hU hW9 => ⟨by rw [hU], by rw [hU]; exact hw.1, lets_call hLt hw hU hW9⟩) rfl hl.1 rfl (Nat.le_of_ble_eq_true rfl) dX7_unit_10 ⟨Nat.le_refl _, Nat.le_refl _⟩) (fun rv9 u9 H locs hp9 hw hz9 hk9 => ?_)
    obtain ⟨x10, f10q, hu9, hp9⟩ := hp9
    subst hu9
    rcases hp9 with ⟨e10, y10, hR10, he10, hrv9, hy10, hx10, hf9 | ⟨hf9, hx9, hdg9⟩⟩ | ⟨L10, hR10, hab10, hxt10, hwf10, hrv9, hf9⟩
    · skip
      subst hrv9
      subst hf9
      have hw : wd D A s.heap cnt ad (rq ad ct t (nI x10) (nI e10)) H locs := hw
      subst hQ
      exact x_zretW E hr hlk (hy10) hw (by decide) (by decide) (⟨_, _, rfl, Or.inl ⟨e10, _, (pUn_t hk1 c_6).trans hR10, by omega, rfl, hy10, ⟨by omega, Or.inl rfl⟩⟩⟩) dX7_unit_13
    · skip
      subst hrv9
      subst hf9
      obtain ⟨e9, he9⟩ : ∃ z, z = e10 := ⟨_, rfl⟩
      rw [← he9] at hdg9 hx9
      have hw : wd D A s.heap cnt ad (rq ad ct t (nI x10) (-1)) H locs := hw
      subst hQ
      exact x_zretW E hr hlk (hy10) hw (by decide) (by decide) (⟨_, _, rfl, Or.inl ⟨e10, _, (pUn_t hk1 c_6).trans hR10, by omega, rfl, hy10, ⟨by omega, Or.inr ⟨rfl, by rw [hx9, he9], by rw [← he9]; exact hdg9⟩⟩⟩⟩) dX7_unit_13
    · skip
      subst hrv9
      subst hf9
      have hw : wd D A s.heap cnt ad (rq ad ct t (nI x10) (-1)) H locs := hw
      subst hQ
      exact x_zretW E hr hlk (bB_or _) hw (by decide) (by decide) (⟨_, _, rfl, Or.inr ⟨L10, (pUn_t hk1 c_6).trans hR10, by omega, by omega, hwf10, rfl, rfl⟩⟩) dX7_unit_13
set_option maxHeartbeats 4000000 in
set_option maxRecDepth 100000 in
theorem kX7_part (l : Launch) (D : va_G) (ca : Nat → ClassId) (cnt : Nat → Nat) (ad : Nat → Nat → Nat) (ct : Nat → Nat → va_E) (z9 : Nat) (t : Nat) (n1 : Nat) (b1 : Nat → Int32) (vs : Nat → Int32) (a : Nat) (r : Nat) (hR : rdOK ca cnt ad ct t n1 b1 vs) (ha : a ≤ n1) (hr8 : r ≤ 8) (ih : ∀ r1, r = r1 + 1 → KC l D ca r1) : Met l yX7_part (wz yX7_part cX7_part 5 (some .boolean)) (rmL (3 * r + 7) 0 0) (va_Pc [.ref (ad 13 0), .int (nI (8 - r))] (fun U => (U.heap.size = z9 ∧ wq D cnt ad (rq ad ct t (nI a) (-1)) U.heap ∧ lets (wA cnt ad z9) U) ∧ gK D ca U)) (QcW D (wA cnt ad z9) (fun rv u => ∃ x9 f9, u = (cnt, ad, rq ad ct t (nI x9) f9) ∧ cPo (bC b1 n1) n1 a vs (pP (bC b1 n1) n1 r a) rv x9 f9)) 0 0 (wA cnt ad z9) := by
  refine x_met (by decide) (Nat.le_of_ble_eq_true rfl) ?_
  intro p e s m below meth c E hr hlk hnm hq ls hl
  obtain ⟨hsz9, hq, hLt⟩ := hq
  subst hsz9
  generalize hav : ([.ref (ad 13 0), .int (nI (8 - r))] : List Value).toArray = args at E ⊢
  have hx := E.1
  have hb := E.2.1
  have hown := E.2.2.2.1
  have hts := E.2.2.2.2.1
  have hw : wd D (wA cnt ad s.heap.size) s.heap cnt ad (rq ad ct t (nI a) (-1)) s.heap [] := wd.start hq
  generalize hQ : MQ below (QcW D (wA cnt ad s.heap.size) (fun rv u => ∃ x9 f9, u = (cnt, ad, rq ad ct t (nI x9) f9) ∧ cPo (bC b1 n1) n1 a vs (pP (bC b1 n1) n1 r a) rv x9 f9)) args s 0 0 (wA cnt ad s.heap.size) = Q
  generalize hA9 : wA cnt ad s.heap.size = A at hw hQ hLt
  have hl : lv_has ls 5 [(0, .ref (ad 13 0)), (1, .int (nI (8 - r)))] := hl
  obtain ⟨tL, hLz, hLT⟩ := id hLt
  obtain ⟨h13, h11, htc, h12, hbc, hn1, h14, hvc⟩ := id hR
  suffices hgo : ∀ (H : Heap) (locs : List Loc), wd D A s.heap cnt ad (rq ad ct t (nI a) (-1)) H locs → W p l e (rmL (3 * r + 7) 0 0) s m args below meth c H locs 0 0 Q (F0 m 0 ls []) from hgo _ _ hw
  clear hw
  intro H locs hw
  refine lv_aload_n hx hb dX7_part_0 rfl (lv_at hl 0 rfl) ?_
  refine lv_iload_n hx hb dX7_part_1 rfl (lv_at hl 1 rfl) ?_
  refine x_wrote hw (x_runV (rest := []) E cbX7_unit tw_420 (kX7_unit l D ca cnt ad ct H.size t n1 b1 vs a r hR (by omega) hr8 ih) ⟨rfl, rfl, by dsimp only [rmL]; omega, by dsimp only [rmL]; omega⟩ (x_recv E hw cl_7 (h13) (upd2_at _ _ _ _)) (fun U g9 mk9 a9 h => ⟨h.1, h.2.1, lets_blind h.2.2⟩) (fun U hU hW9 => ⟨by rw [hU], by rw [hU]; exact hw.1, lets_call hLt hw hU hW9⟩) rfl hl.1 rfl (Nat.le_of_ble_eq_true rfl) dX7_part_2 ⟨Nat.le_refl _, Nat.le_refl _⟩) (fun rv9 u9 H locs hp9 hw hz9 hk9 => ?_)
  obtain ⟨x2, f2q, hu9, hp9⟩ := hp9
  subst hu9
  rcases hp9 with ⟨e2, y2, hR2, he2, hrv9, hy2, hx2, hf9 | ⟨hf9, hx9, hdg9⟩⟩ | ⟨L2, hR2, hab2, hxt2, hwf2, hrv9, hf9⟩
  · skip
    subst hrv9
    subst hf9
    have hw : wd D A s.heap cnt ad (rq ad ct t (nI x2) (nI e2)) H locs := hw
    refine lv_istore_n (lv' := [(2, .int y2), (0, .ref (ad 13 0)), (1, .int (nI (8 - r)))]) hx hb dX7_part_5 rfl hl (by decide) rfl (fun ls hl => ?_)
    refine lv_iconst (v := 0) hx hb dX7_part_6 (by decide) ?_
    refine lv_istore_n (lv' := [(3, .int 0), (2, .int y2), (0, .ref (ad 13 0)), (1, .int (nI (8 - r)))]) hx hb dX7_part_7 rfl hl (by decide) rfl (fun ls hl => ?_)
    refine lv_iload_n hx hb dX7_part_8 rfl (lv_at hl 0 rfl) ?_
    refine lv_bipush (v := 100) hx hb dX7_part_9 (by decide) ?_
    refine lv_icmp_ge (tgt := 51) hx hb dX7_part_11 (by decide) (fun c_11 => ?_) (fun c_11 => ?_)
    · skip
      exact absurd c_11 (by decide)
    · skip
      refine lv_aload_n hx hb dX7_part_14 rfl (lv_at hl 2 rfl) ?_
      refine lv_bipush (v := 38) hx hb dX7_part_15 (by decide) ?_
      refine x_wrote hw (x_runV (rest := []) E cbX7_take tw_444 (kX7_take l D ca cnt ad ct H.size t n1 b1 vs x2 (nI e2) 38 hR (by omega) (by decide)) ⟨rfl, rfl, by dsimp only [rmL]; omega, by dsimp only [rmL]; omega⟩ (x_recv E hw cl_7 (h13) (upd2_at _ _ _ _)) (fun _ _ _ _ h => h) (fun U hU _ => by rw [hU]; exact ⟨rfl, hw.1⟩) rfl hl.1 rfl (Nat.le_of_ble_eq_true rfl) dX7_part_17 ⟨Nat.le_refl _, Nat.le_refl _⟩) (fun rv9 u9 H locs hp9 hw hz9 hk9 => ?_)
      obtain ⟨k17e, hk17e⟩ : ∃ z, z = pSk (bC b1 n1) n1 x2 := ⟨_, rfl⟩
      rw [← hk17e] at hp9
      have hkg17e : x2 ≤ k17e := by rw [hk17e]; exact pSk_ge _ _ _
      have hkl17e : k17e ≤ n1 := by rw [hk17e]; exact pSk_le (by omega)
      rcases hp9 with ⟨hcF17e, hck17e, hrv9, hu9⟩ | ⟨hcn17e, hrv9, hu9⟩
      · skip
        exact absurd hcF17e (nI_nn (by omega))
      · skip
        subst hrv9
        subst hu9
        have hw : wd D A s.heap cnt ad (rq ad ct t (nI k17e) (nI e2)) H locs := hw
        refine lv_if_eq (tgt := 51) hx hb dX7_part_20 (by decide) (fun c_20 => ?_) (fun c_20 => ?_)
        · skip
          refine lv_iload_n hx hb dX7_part_51 rfl (lv_at hl 1 rfl) ?_
          subst hQ
          exact x_zretW E hr hlk (hy2) hw (by decide) (by decide) (⟨_, _, rfl, Or.inl ⟨e2, _, pSeq_e hR2, by omega, rfl, hy2, ⟨by omega, Or.inl rfl⟩⟩⟩) dX7_part_52
        · skip
          exact absurd c_20 (by decide)
  · skip
    subst hrv9
    subst hf9
    obtain ⟨e9, he9⟩ : ∃ z, z = e2 := ⟨_, rfl⟩
    rw [← he9] at hdg9 hx9
    have hw : wd D A s.heap cnt ad (rq ad ct t (nI x2) (-1)) H locs := hw
    refine lv_istore_n (lv' := [(2, .int y2), (0, .ref (ad 13 0)), (1, .int (nI (8 - r)))]) hx hb dX7_part_5 rfl hl (by decide) rfl (fun ls hl => ?_)
    refine lv_iconst (v := 0) hx hb dX7_part_6 (by decide) ?_
    refine lv_istore_n (lv' := [(3, .int 0), (2, .int y2), (0, .ref (ad 13 0)), (1, .int (nI (8 - r)))]) hx hb dX7_part_7 rfl hl (by decide) rfl (fun ls hl => ?_)
    refine lv_iload_n hx hb dX7_part_8 rfl (lv_at hl 0 rfl) ?_
    refine lv_bipush (v := 100) hx hb dX7_part_9 (by decide) ?_
    refine lv_icmp_ge (tgt := 51) hx hb dX7_part_11 (by decide) (fun c_11 => ?_) (fun c_11 => ?_)
    · skip
      exact absurd c_11 (by decide)
    · skip
      refine lv_aload_n hx hb dX7_part_14 rfl (lv_at hl 2 rfl) ?_
      refine lv_bipush (v := 38) hx hb dX7_part_15 (by decide) ?_
      refine x_wrote hw (x_runV (rest := []) E cbX7_take tw_444 (kX7_take l D ca cnt ad ct H.size t n1 b1 vs x2 (-1) 38 hR (by omega) (by decide)) ⟨rfl, rfl, by dsimp only [rmL]; omega, by dsimp only [rmL]; omega⟩ (x_recv E hw cl_7 (h13) (upd2_at _ _ _ _)) (fun _ _ _ _ h => h) (fun U hU _ => by rw [hU]; exact ⟨rfl, hw.1⟩) rfl hl.1 rfl (Nat.le_of_ble_eq_true rfl) dX7_part_17 ⟨Nat.le_refl _, Nat.le_refl _⟩) (fun rv9 u9 H locs hp9 hw hz9 hk9 => ?_)
      obtain ⟨k17e, hk17e⟩ : ∃ z, z = pSk (bC b1 n1) n1 x2 := ⟨_, rfl⟩
      rw [← hk17e] at hp9
      have hkg17e : x2 ≤ k17e := by rw [hk17e]; exact pSk_ge _ _ _
      have hkl17e : k17e ≤ n1 := by rw [hk17e]; exact pSk_le (by omega)
      rcases hp9 with ⟨hcF17e, hck17e, hrv9, hu9⟩ | ⟨hcn17e, hrv9, hu9⟩
      · skip
        exact dig_no hdg9 (by omega) hk17e hck17e (by decide)
      · skip
        subst hrv9
        subst hu9
        have hw : wd D A s.heap cnt ad (rq ad ct t (nI k17e) (-1)) H locs := hw
        have hcn17e : ¬ (bC b1 n1) k17e = 38 := fun q => hcn17e ⟨rfl, q⟩
        have hke17e : k17e = e9 := by rw [hk17e]; exact dig_sk hdg9 (by omega)
        refine lv_if_eq (tgt := 51) hx hb dX7_part_20 (by decide) (fun c_20 => ?_) (fun c_20 => ?_)
        · skip
          refine lv_iload_n hx hb dX7_part_51 rfl (lv_at hl 1 rfl) ?_
          subst hQ
          exact x_zretW E hr hlk (hy2) hw (by decide) (by decide) (⟨_, _, rfl, Or.inl ⟨e2, _, pSeq_e hR2, by omega, rfl, hy2, ⟨by omega, Or.inr ⟨rfl, by rw [hke17e, he9], by rw [← he9]; exact hdg9⟩⟩⟩⟩) dX7_part_52
        · skip
          exact absurd c_20 (by decide)
  · skip
    subst hrv9
    subst hf9
    have hw : wd D A s.heap cnt ad (rq ad ct t (nI x2) (-1)) H locs := hw
    refine lv_istore_n (lv' := [(2, .int (bB (rB vs L2))), (0, .ref (ad 13 0)), (1, .int (nI (8 - r)))]) hx hb dX7_part_5 rfl hl (by decide) rfl (fun ls hl => ?_)
    refine lv_iconst (v := 0) hx hb dX7_part_6 (by decide) ?_
    refine lv_istore_n (lv' := [(3, .int 0), (2, .int (bB (rB vs L2))), (0, .ref (ad 13 0)), (1, .int (nI (8 - r)))]) hx hb dX7_part_7 rfl hl (by decide) rfl (fun ls hl => ?_)
    have lp8 : ∀ (n : Nat) (b : Nat) (L : List Int32) (i : Nat), (a < b) → (b ≤ n1) → (i ≤ b) → (wfL L) → (pLp (bC b1 n1) n1 (pU (bC b1 n1) n1 r) 38 1 n b L = pP (bC b1 n1) n1 r a) → (n1 - b < n) → ∀ (H : Heap) (locs : List Loc), wd D A s.heap cnt ad (rq ad ct t (nI b) (-1)) H locs → ∀ ls : Array Slot, lv_has ls 5 [(0, .ref (ad 13 0)), (1, .int (nI (8 - r))), (2, .int (bB (rB vs L))), (3, .int (nI i))] → W p l e (rmL (3 * r + 7) 0 0) s m args below meth c H locs 0 0 Q (F0 m 8 ls []) := by
      intro n
      induction n with
      | zero =>
        intro b L i hab hbt hib hwf hlp hfu H locs hw ls hl
        exact absurd hfu (by omega)
      | succ n ih8 =>
        intro b L i hab hbt hib hwf hlp hfu H locs hw ls hl
        refine lv_iload_n hx hb dX7_part_8 rfl (lv_at hl 3 rfl) ?_
        refine lv_bipush (v := 100) hx hb dX7_part_9 (by decide) ?_
        refine lv_icmp_ge (tgt := 51) hx hb dX7_part_11 (by decide) (fun c_11 => ?_) (fun c_11 => ?_)
        · skip
          have hif : 100 ≤ i := by have q9 := (nI_leI (a := 100) (b := i) (by omega) (by omega)).mp c_11; omega
          refine lv_iload_n hx hb dX7_part_51 rfl (lv_at hl 2 rfl) ?_
          subst hQ
          exact x_zretW E hr hlk (bB_or _) hw (by decide) (by decide) (⟨_, _, rfl, Or.inr ⟨L, by rw [← hlp]; exact pLp_n (b1 := b) (by rw [pSk_n (by omega)]) (fun q => absurd (tC_in q (by decide)) (by omega)), hab, hbt, hwf, rfl, rfl⟩⟩) dX7_part_52
        · skip
          refine lv_aload_n hx hb dX7_part_14 rfl (lv_at hl 0 rfl) ?_
          refine lv_bipush (v := 38) hx hb dX7_part_15 (by decide) ?_
          refine x_wrote hw (x_runV (rest := []) E cbX7_take tw_444 (kX7_take l D ca cnt ad ct H.size t n1 b1 vs b (-1) 38 hR (by omega) (by decide)) ⟨rfl, rfl, by dsimp only [rmL]; omega, by dsimp only [rmL]; omega⟩ (x_recv E hw cl_7 (h13) (upd2_at _ _ _ _)) (fun _ _ _ _ h => h) (fun U hU _ => by rw [hU]; exact ⟨rfl, hw.1⟩) rfl hl.1 rfl (Nat.le_of_ble_eq_true rfl) dX7_part_17 ⟨Nat.le_refl _, Nat.le_refl _⟩) (fun rv9 u9 H locs hp9 hw hz9 hk9 => ?_)
          obtain ⟨k17, hk17⟩ : ∃ z, z = pSk (bC b1 n1) n1 b := ⟨_, rfl⟩
          rw [← hk17] at hp9
          have hkg17 : b ≤ k17 := by rw [hk17]; exact pSk_ge _ _ _
          have hkl17 : k17 ≤ n1 := by rw [hk17]; exact pSk_le (by omega)
          rcases hp9 with ⟨hcF17, hck17, hrv9, hu9⟩ | ⟨hcn17, hrv9, hu9⟩
          · skip
            subst hrv9
            subst hu9
            have hw : wd D A s.heap cnt ad (rq ad ct t (nI (k17 + 1)) (-1)) H locs := hw
            have hkt17 : k17 < n1 := tC_in hck17 (by decide)
            refine lv_if_eq (tgt := 51) hx hb dX7_part_20 (by decide) (fun c_20 => ?_) (fun c_20 => ?_)
            · skip
              exact absurd c_20 (by decide)
            · skip
              refine lv_aload_n hx hb dX7_part_23 rfl (lv_at hl 0 rfl) ?_
              refine lv_iload_n hx hb dX7_part_24 rfl (lv_at hl 1 rfl) ?_
              refine x_wrote hw (x_runV (rest := []) E cbX7_unit tw_420 (kX7_unit l D ca cnt ad ct H.size t n1 b1 vs (k17 + 1) r hR (by omega) hr8 ih) ⟨rfl, rfl, by dsimp only [rmL]; omega, by dsimp only [rmL]; omega⟩ (x_recv E hw cl_7 (h13) (upd2_at _ _ _ _)) (fun U g9 mk9 a9 h => ⟨h.1, h.2.1, lets_blind h.2.2⟩) (fun U hU hW9 => ⟨by rw [hU], by rw [hU]; exact hw.1, lets_call hLt hw hU hW9⟩) rfl hl.1 rfl (Nat.le_of_ble_eq_true rfl) dX7_part_25 ⟨Nat.le_refl _, Nat.le_refl _⟩) (fun rv9 u9 H locs hp9 hw hz9 hk9 => ?_)
              obtain ⟨x25, f25q, hu9, hp9⟩ := hp9
              subst hu9
              rcases hp9 with ⟨e25, y25, hR25, he25, hrv9, hy25, hx25, hf9 | ⟨hf9, hx9, hdg9⟩⟩ | ⟨L25, hR25, hab25, hxt25, hwf25, hrv9, hf9⟩
              · skip
                subst hrv9
                subst hf9
                have hw : wd D A s.heap cnt ad (rq ad ct t (nI x25) (nI e25)) H locs := hw
                refine lv_istore (lv' := [(4, .int y25), (0, .ref (ad 13 0)), (1, .int (nI (8 - r))), (2, .int (bB (rB vs L))), (3, .int (nI i))]) hx hb dX7_part_28 hl (by decide) rfl (fun ls hl => ?_)
                refine lv_iload_n hx hb dX7_part_30 rfl (lv_at hl 3 rfl) ?_
                refine lv_if_eq (tgt := 43) hx hb dX7_part_31 (by decide) (fun c_31 => ?_) (fun c_31 => ?_)
                · skip
                  have c_31 := bB_0.mp c_31
                  refine lv_iconst (v := 0) hx hb dX7_part_43 (by decide) ?_
                  refine lv_istore_n (lv' := [(2, .int 0), (4, .int y25), (0, .ref (ad 13 0)), (1, .int (nI (8 - r))), (3, .int (nI i))]) hx hb dX7_part_44 rfl hl (by decide) rfl (fun ls hl => ?_)
                  refine lv_iinc (v := (nI (i + 1))) (lv' := [(3, .int (nI (i + 1))), (2, .int 0), (4, .int y25), (0, .ref (ad 13 0)), (1, .int (nI (8 - r)))]) hx hb dX7_part_45 hl (k := 4) rfl (nI_1 _) (by decide) rfl (fun ls hl => ?_)
                  refine lv_goto (tgt := 8) hx hb dX7_part_48 (by decide) ?_
                  refine lv_iload_n hx hb dX7_part_8 rfl (lv_at hl 0 rfl) ?_
                  refine lv_bipush (v := 100) hx hb dX7_part_9 (by decide) ?_
                  refine lv_icmp_ge (tgt := 51) hx hb dX7_part_11 (by decide) (fun c_11x => ?_) (fun c_11x => ?_)
                  · skip
                    skip
                    refine lv_iload_n hx hb dX7_part_51 rfl (lv_at hl 1 rfl) ?_
                    subst hQ
                    exact x_zretW E hr hlk (by decide) hw (by decide) (by decide) (⟨_, _, rfl, Or.inl ⟨e25, _, by rw [← hlp]; exact pLp_e hk17 hck17 hR25, by omega, rfl, (by decide), ⟨by omega, Or.inl rfl⟩⟩⟩) dX7_part_52
                  · skip
                    refine lv_aload_n hx hb dX7_part_14 rfl (lv_at hl 3 rfl) ?_
                    refine lv_bipush (v := 38) hx hb dX7_part_15 (by decide) ?_
                    refine x_wrote hw (x_runV (rest := []) E cbX7_take tw_444 (kX7_take l D ca cnt ad ct H.size t n1 b1 vs x25 (nI e25) 38 hR (by omega) (by decide)) ⟨rfl, rfl, by dsimp only [rmL]; omega, by dsimp only [rmL]; omega⟩ (x_recv E hw cl_7 (h13) (upd2_at _ _ _ _)) (fun _ _ _ _ h => h) (fun U hU _ => by rw [hU]; exact ⟨rfl, hw.1⟩) rfl hl.1 rfl (Nat.le_of_ble_eq_true rfl) dX7_part_17 ⟨Nat.le_refl _, Nat.le_refl _⟩) (fun rv9 u9 H locs hp9 hw hz9 hk9 => ?_)
                    obtain ⟨k17e, hk17e⟩ : ∃ z, z = pSk (bC b1 n1) n1 x25 := ⟨_, rfl⟩
                    rw [← hk17e] at hp9
                    have hkg17e : x25 ≤ k17e := by rw [hk17e]; exact pSk_ge _ _ _
                    have hkl17e : k17e ≤ n1 := by rw [hk17e]; exact pSk_le (by omega)
                    rcases hp9 with ⟨hcF17e, hck17e, hrv9, hu9⟩ | ⟨hcn17e, hrv9, hu9⟩
                    · skip
                      exact absurd hcF17e (nI_nn (by omega))
                    · skip
                      subst hrv9
                      subst hu9
                      have hw : wd D A s.heap cnt ad (rq ad ct t (nI k17e) (nI e25)) H locs := hw
                      refine lv_if_eq (tgt := 51) hx hb dX7_part_20 (by decide) (fun c_20 => ?_) (fun c_20 => ?_)
                      · skip
                        refine lv_iload_n hx hb dX7_part_51 rfl (lv_at hl 1 rfl) ?_
                        subst hQ
                        exact x_zretW E hr hlk (by decide) hw (by decide) (by decide) (⟨_, _, rfl, Or.inl ⟨e25, _, by rw [← hlp]; exact pLp_e hk17 hck17 hR25, by omega, rfl, (by decide), ⟨by omega, Or.inl rfl⟩⟩⟩) dX7_part_52
                      · skip
                        exact absurd c_20 (by decide)
                · skip
                  have c_31 := bB_n0.mp c_31
                  refine lv_iload hx hb dX7_part_34 (lv_at hl 0 rfl) ?_
                  refine lv_if_eq (tgt := 43) hx hb dX7_part_36 (by decide) (fun c_36 => ?_) (fun c_36 => ?_)
                  · skip
                    refine lv_iconst (v := 0) hx hb dX7_part_43 (by decide) ?_
                    refine lv_istore_n (lv' := [(2, .int 0), (4, .int y25), (0, .ref (ad 13 0)), (1, .int (nI (8 - r))), (3, .int (nI i))]) hx hb dX7_part_44 rfl hl (by decide) rfl (fun ls hl => ?_)
                    refine lv_iinc (v := (nI (i + 1))) (lv' := [(3, .int (nI (i + 1))), (2, .int 0), (4, .int y25), (0, .ref (ad 13 0)), (1, .int (nI (8 - r)))]) hx hb dX7_part_45 hl (k := 4) rfl (nI_1 _) (by decide) rfl (fun ls hl => ?_)
                    refine lv_goto (tgt := 8) hx hb dX7_part_48 (by decide) ?_
                    refine lv_iload_n hx hb dX7_part_8 rfl (lv_at hl 0 rfl) ?_
                    refine lv_bipush (v := 100) hx hb dX7_part_9 (by decide) ?_
                    refine lv_icmp_ge (tgt := 51) hx hb dX7_part_11 (by decide) (fun c_11x => ?_) (fun c_11x => ?_)
                    · skip
                      skip
                      refine lv_iload_n hx hb dX7_part_51 rfl (lv_at hl 1 rfl) ?_
                      subst hQ
                      exact x_zretW E hr hlk (by decide) hw (by decide) (by decide) (⟨_, _, rfl, Or.inl ⟨e25, _, by rw [← hlp]; exact pLp_e hk17 hck17 hR25, by omega, rfl, (by decide), ⟨by omega, Or.inl rfl⟩⟩⟩) dX7_part_52
                    · skip
                      refine lv_aload_n hx hb dX7_part_14 rfl (lv_at hl 3 rfl) ?_
                      refine lv_bipush (v := 38) hx hb dX7_part_15 (by decide) ?_
                      refine x_wrote hw (x_runV (rest := []) E cbX7_take tw_444 (kX7_take l D ca cnt ad ct H.size t n1 b1 vs x25 (nI e25) 38 hR (by omega) (by decide)) ⟨rfl, rfl, by dsimp only [rmL]; omega, by dsimp only [rmL]; omega⟩ (x_recv E hw cl_7 (h13) (upd2_at _ _ _ _)) (fun _ _ _ _ h => h) (fun U hU _ => by rw [hU]; exact ⟨rfl, hw.1⟩) rfl hl.1 rfl (Nat.le_of_ble_eq_true rfl) dX7_part_17 ⟨Nat.le_refl _, Nat.le_refl _⟩) (fun rv9 u9 H locs hp9 hw hz9 hk9 => ?_)
                      obtain ⟨k17e, hk17e⟩ : ∃ z, z = pSk (bC b1 n1) n1 x25 := ⟨_, rfl⟩
                      rw [← hk17e] at hp9
                      have hkg17e : x25 ≤ k17e := by rw [hk17e]; exact pSk_ge _ _ _
                      have hkl17e : k17e ≤ n1 := by rw [hk17e]; exact pSk_le (by omega)
                      rcases hp9 with ⟨hcF17e, hck17e, hrv9, hu9⟩ | ⟨hcn17e, hrv9, hu9⟩
                      · skip
                        exact absurd hcF17e (nI_nn (by omega))
                      · skip
                        subst hrv9
                        subst hu9
                        have hw : wd D A s.heap cnt ad (rq ad ct t (nI k17e) (nI e25)) H locs := hw
                        refine lv_if_eq (tgt := 51) hx hb dX7_part_20 (by decide) (fun c_20 => ?_) (fun c_20 => ?_)
                        · skip
                          refine lv_iload_n hx hb dX7_part_51 rfl (lv_at hl 1 rfl) ?_
                          subst hQ
                          exact x_zretW E hr hlk (by decide) hw (by decide) (by decide) (⟨_, _, rfl, Or.inl ⟨e25, _, by rw [← hlp]; exact pLp_e hk17 hck17 hR25, by omega, rfl, (by decide), ⟨by omega, Or.inl rfl⟩⟩⟩) dX7_part_52
                        · skip
                          exact absurd c_20 (by decide)
                  · skip
                    refine lv_iconst (v := 1) hx hb dX7_part_39 (by decide) ?_
                    refine lv_goto (tgt := 44) hx hb dX7_part_40 (by decide) ?_
                    refine lv_istore_n (lv' := [(2, .int 1), (4, .int y25), (0, .ref (ad 13 0)), (1, .int (nI (8 - r))), (3, .int (nI i))]) hx hb dX7_part_44 rfl hl (by decide) rfl (fun ls hl => ?_)
                    refine lv_iinc (v := (nI (i + 1))) (lv' := [(3, .int (nI (i + 1))), (2, .int 1), (4, .int y25), (0, .ref (ad 13 0)), (1, .int (nI (8 - r)))]) hx hb dX7_part_45 hl (k := 4) rfl (nI_1 _) (by decide) rfl (fun ls hl => ?_)
                    refine lv_goto (tgt := 8) hx hb dX7_part_48 (by decide) ?_
                    refine lv_iload_n hx hb dX7_part_8 rfl (lv_at hl 0 rfl) ?_
                    refine lv_bipush (v := 100) hx hb dX7_part_9 (by decide) ?_
                    refine lv_icmp_ge (tgt := 51) hx hb dX7_part_11 (by decide) (fun c_11x => ?_) (fun c_11x => ?_)
                    · skip
                      skip
                      refine lv_iload_n hx hb dX7_part_51 rfl (lv_at hl 1 rfl) ?_
                      subst hQ
                      exact x_zretW E hr hlk (by decide) hw (by decide) (by decide) (⟨_, _, rfl, Or.inl ⟨e25, _, by rw [← hlp]; exact pLp_e hk17 hck17 hR25, by omega, rfl, (by decide), ⟨by omega, Or.inl rfl⟩⟩⟩) dX7_part_52
                    · skip
                      refine lv_aload_n hx hb dX7_part_14 rfl (lv_at hl 3 rfl) ?_
                      refine lv_bipush (v := 38) hx hb dX7_part_15 (by decide) ?_
                      refine x_wrote hw (x_runV (rest := []) E cbX7_take tw_444 (kX7_take l D ca cnt ad ct H.size t n1 b1 vs x25 (nI e25) 38 hR (by omega) (by decide)) ⟨rfl, rfl, by dsimp only [rmL]; omega, by dsimp only [rmL]; omega⟩ (x_recv E hw cl_7 (h13) (upd2_at _ _ _ _)) (fun _ _ _ _ h => h) (fun U hU _ => by rw [hU]; exact ⟨rfl, hw.1⟩) rfl hl.1 rfl (Nat.le_of_ble_eq_true rfl) dX7_part_17 ⟨Nat.le_refl _, Nat.le_refl _⟩) (fun rv9 u9 H locs hp9 hw hz9 hk9 => ?_)
                      obtain ⟨k17e, hk17e⟩ : ∃ z, z = pSk (bC b1 n1) n1 x25 := ⟨_, rfl⟩
                      rw [← hk17e] at hp9
                      have hkg17e : x25 ≤ k17e := by rw [hk17e]; exact pSk_ge _ _ _
                      have hkl17e : k17e ≤ n1 := by rw [hk17e]; exact pSk_le (by omega)
                      rcases hp9 with ⟨hcF17e, hck17e, hrv9, hu9⟩ | ⟨hcn17e, hrv9, hu9⟩
                      · skip
                        exact absurd hcF17e (nI_nn (by omega))
                      · skip
                        subst hrv9
                        subst hu9
                        have hw : wd D A s.heap cnt ad (rq ad ct t (nI k17e) (nI e25)) H locs := hw
                        refine lv_if_eq (tgt := 51) hx hb dX7_part_20 (by decide) (fun c_20 => ?_) (fun c_20 => ?_)
                        · skip
                          refine lv_iload_n hx hb dX7_part_51 rfl (lv_at hl 1 rfl) ?_
                          subst hQ
                          exact x_zretW E hr hlk (by decide) hw (by decide) (by decide) (⟨_, _, rfl, Or.inl ⟨e25, _, by rw [← hlp]; exact pLp_e hk17 hck17 hR25, by omega, rfl, (by decide), ⟨by omega, Or.inl rfl⟩⟩⟩) dX7_part_52
                        · skip
                          exact absurd c_20 (by decide)
              · skip
                subst hrv9
                subst hf9
                obtain ⟨e9, he9⟩ : ∃ z, z = e25 := ⟨_, rfl⟩
                rw [← he9] at hdg9 hx9
                have hw : wd D A s.heap cnt ad (rq ad ct t (nI x25) (-1)) H locs := hw
                refine lv_istore (lv' := [(4, .int y25), (0, .ref (ad 13 0)), (1, .int (nI (8 - r))), (2, .int (bB (rB vs L))), (3, .int (nI i))]) hx hb dX7_part_28 hl (by decide) rfl (fun ls hl => ?_)
                refine lv_iload_n hx hb dX7_part_30 rfl (lv_at hl 3 rfl) ?_
                refine lv_if_eq (tgt := 43) hx hb dX7_part_31 (by decide) (fun c_31 => ?_) (fun c_31 => ?_)
                · skip
                  have c_31 := bB_0.mp c_31
                  refine lv_iconst (v := 0) hx hb dX7_part_43 (by decide) ?_
                  refine lv_istore_n (lv' := [(2, .int 0), (4, .int y25), (0, .ref (ad 13 0)), (1, .int (nI (8 - r))), (3, .int (nI i))]) hx hb dX7_part_44 rfl hl (by decide) rfl (fun ls hl => ?_)
                  refine lv_iinc (v := (nI (i + 1))) (lv' := [(3, .int (nI (i + 1))), (2, .int 0), (4, .int y25), (0, .ref (ad 13 0)), (1, .int (nI (8 - r)))]) hx hb dX7_part_45 hl (k := 4) rfl (nI_1 _) (by decide) rfl (fun ls hl => ?_)
                  refine lv_goto (tgt := 8) hx hb dX7_part_48 (by decide) ?_
                  refine lv_iload_n hx hb dX7_part_8 rfl (lv_at hl 0 rfl) ?_
                  refine lv_bipush (v := 100) hx hb dX7_part_9 (by decide) ?_
                  refine lv_icmp_ge (tgt := 51) hx hb dX7_part_11 (by decide) (fun c_11x => ?_) (fun c_11x => ?_)
                  · skip
                    skip
                    refine lv_iload_n hx hb dX7_part_51 rfl (lv_at hl 1 rfl) ?_
                    subst hQ
                    exact x_zretW E hr hlk (by decide) hw (by decide) (by decide) (⟨_, _, rfl, Or.inl ⟨e25, _, by rw [← hlp]; exact pLp_e hk17 hck17 hR25, by omega, rfl, (by decide), ⟨by omega, Or.inr ⟨rfl, by rw [hx9, he9], by rw [← he9]; exact hdg9⟩⟩⟩⟩) dX7_part_52
                  · skip
                    refine lv_aload_n hx hb dX7_part_14 rfl (lv_at hl 3 rfl) ?_
                    refine lv_bipush (v := 38) hx hb dX7_part_15 (by decide) ?_
                    refine x_wrote hw (x_runV (rest := []) E cbX7_take tw_444 (kX7_take l D ca cnt ad ct H.size t n1 b1 vs x25 (-1) 38 hR (by omega) (by decide)) ⟨rfl, rfl, by dsimp only [rmL]; omega, by dsimp only [rmL]; omega⟩ (x_recv E hw cl_7 (h13) (upd2_at _ _ _ _)) (fun _ _ _ _ h => h) (fun U hU _ => by rw [hU]; exact ⟨rfl, hw.1⟩) rfl hl.1 rfl (Nat.le_of_ble_eq_true rfl) dX7_part_17 ⟨Nat.le_refl _, Nat.le_refl _⟩) (fun rv9 u9 H locs hp9 hw hz9 hk9 => ?_)
                    obtain ⟨k17e, hk17e⟩ : ∃ z, z = pSk (bC b1 n1) n1 x25 := ⟨_, rfl⟩
                    rw [← hk17e] at hp9
                    have hkg17e : x25 ≤ k17e := by rw [hk17e]; exact pSk_ge _ _ _
                    have hkl17e : k17e ≤ n1 := by rw [hk17e]; exact pSk_le (by omega)
                    rcases hp9 with ⟨hcF17e, hck17e, hrv9, hu9⟩ | ⟨hcn17e, hrv9, hu9⟩
                    · skip
                      exact dig_no hdg9 (by omega) hk17e hck17e (by decide)
                    · skip
                      subst hrv9
                      subst hu9
                      have hw : wd D A s.heap cnt ad (rq ad ct t (nI k17e) (-1)) H locs := hw
                      have hcn17e : ¬ (bC b1 n1) k17e = 38 := fun q => hcn17e ⟨rfl, q⟩
                      have hke17e : k17e = e9 := by rw [hk17e]; exact dig_sk hdg9 (by omega)
                      refine lv_if_eq (tgt := 51) hx hb dX7_part_20 (by decide) (fun c_20 => ?_) (fun c_20 => ?_)
                      · skip
                        refine lv_iload_n hx hb dX7_part_51 rfl (lv_at hl 1 rfl) ?_
                        subst hQ
                        exact x_zretW E hr hlk (by decide) hw (by decide) (by decide) (⟨_, _, rfl, Or.inl ⟨e25, _, by rw [← hlp]; exact pLp_e hk17 hck17 hR25, by omega, rfl, (by decide), ⟨by omega, Or.inr ⟨rfl, by rw [hke17e, he9], by rw [← he9]; exact hdg9⟩⟩⟩⟩) dX7_part_52
                      · skip
                        exact absurd c_20 (by decide)
                · skip
                  have c_31 := bB_n0.mp c_31
                  refine lv_iload hx hb dX7_part_34 (lv_at hl 0 rfl) ?_
                  refine lv_if_eq (tgt := 43) hx hb dX7_part_36 (by decide) (fun c_36 => ?_) (fun c_36 => ?_)
                  · skip
                    refine lv_iconst (v := 0) hx hb dX7_part_43 (by decide) ?_
                    refine lv_istore_n (lv' := [(2, .int 0), (4, .int y25), (0, .ref (ad 13 0)), (1, .int (nI (8 - r))), (3, .int (nI i))]) hx hb dX7_part_44 rfl hl (by decide) rfl (fun ls hl => ?_)
                    refine lv_iinc (v := (nI (i + 1))) (lv' := [(3, .int (nI (i + 1))), (2, .int 0), (4, .int y25), (0, .ref (ad 13 0)), (1, .int (nI (8 - r)))]) hx hb dX7_part_45 hl (k := 4) rfl (nI_1 _) (by decide) rfl (fun ls hl => ?_)
                    refine lv_goto (tgt := 8) hx hb dX7_part_48 (by decide) ?_
                    refine lv_iload_n hx hb dX7_part_8 rfl (lv_at hl 0 rfl) ?_
                    refine lv_bipush (v := 100) hx hb dX7_part_9 (by decide) ?_
                    refine lv_icmp_ge (tgt := 51) hx hb dX7_part_11 (by decide) (fun c_11x => ?_) (fun c_11x => ?_)
                    · skip
                      skip
                      refine lv_iload_n hx hb dX7_part_51 rfl (lv_at hl 1 rfl) ?_
                      subst hQ
                      exact x_zretW E hr hlk (by decide) hw (by decide) (by decide) (⟨_, _, rfl, Or.inl ⟨e25, _, by rw [← hlp]; exact pLp_e hk17 hck17 hR25, by omega, rfl, (by decide), ⟨by omega, Or.inr ⟨rfl, by rw [hx9, he9], by rw [← he9]; exact hdg9⟩⟩⟩⟩) dX7_part_52
                    · skip
                      refine lv_aload_n hx hb dX7_part_14 rfl (lv_at hl 3 rfl) ?_
                      refine lv_bipush (v := 38) hx hb dX7_part_15 (by decide) ?_
                      refine x_wrote hw (x_runV (rest := []) E cbX7_take tw_444 (kX7_take l D ca cnt ad ct H.size t n1 b1 vs x25 (-1) 38 hR (by omega) (by decide)) ⟨rfl, rfl, by dsimp only [rmL]; omega, by dsimp only [rmL]; omega⟩ (x_recv E hw cl_7 (h13) (upd2_at _ _ _ _)) (fun _ _ _ _ h => h) (fun U hU _ => by rw [hU]; exact ⟨rfl, hw.1⟩) rfl hl.1 rfl (Nat.le_of_ble_eq_true rfl) dX7_part_17 ⟨Nat.le_refl _, Nat.le_refl _⟩) (fun rv9 u9 H locs hp9 hw hz9 hk9 => ?_)
                      obtain ⟨k17e, hk17e⟩ : ∃ z, z = pSk (bC b1 n1) n1 x25 := ⟨_, rfl⟩
                      rw [← hk17e] at hp9
                      have hkg17e : x25 ≤ k17e := by rw [hk17e]; exact pSk_ge _ _ _
                      have hkl17e : k17e ≤ n1 := by rw [hk17e]; exact pSk_le (by omega)
                      rcases hp9 with ⟨hcF17e, hck17e, hrv9, hu9⟩ | ⟨hcn17e, hrv9, hu9⟩
                      · skip
                        exact dig_no hdg9 (by omega) hk17e hck17e (by decide)
                      · skip
                        subst hrv9
                        subst hu9
                        have hw : wd D A s.heap cnt ad (rq ad ct t (nI k17e) (-1)) H locs := hw
                        have hcn17e : ¬ (bC b1 n1) k17e = 38 := fun q => hcn17e ⟨rfl, q⟩
                        have hke17e : k17e = e9 := by rw [hk17e]; exact dig_sk hdg9 (by omega)
                        refine lv_if_eq (tgt := 51) hx hb dX7_part_20 (by decide) (fun c_20 => ?_) (fun c_20 => ?_)
                        · skip
                          refine lv_iload_n hx hb dX7_part_51 rfl (lv_at hl 1 rfl) ?_
                          subst hQ
                          exact x_zretW E hr hlk (by decide) hw (by decide) (by decide) (⟨_, _, rfl, Or.inl ⟨e25, _, by rw [← hlp]; exact pLp_e hk17 hck17 hR25, by omega, rfl, (by decide), ⟨by omega, Or.inr ⟨rfl, by rw [hke17e, he9], by rw [← he9]; exact hdg9⟩⟩⟩⟩) dX7_part_52
                        · skip
                          exact absurd c_20 (by decide)
                  · skip
                    refine lv_iconst (v := 1) hx hb dX7_part_39 (by decide) ?_
                    refine lv_goto (tgt := 44) hx hb dX7_part_40 (by decide) ?_
                    refine lv_istore_n (lv' := [(2, .int 1), (4, .int y25), (0, .ref (ad 13 0)), (1, .int (nI (8 - r))), (3, .int (nI i))]) hx hb dX7_part_44 rfl hl (by decide) rfl (fun ls hl => ?_)
                    refine lv_iinc (v := (nI (i + 1))) (lv' := [(3, .int (nI (i + 1))), (2, .int 1), (4, .int y25), (0, .ref (ad 13 0)), (1, .int (nI (8 - r)))]) hx hb dX7_part_45 hl (k := 4) rfl (nI_1 _) (by decide) rfl (fun ls hl => ?_)
                    refine lv_goto (tgt := 8) hx hb dX7_part_48 (by decide) ?_
                    refine lv_iload_n hx hb dX7_part_8 rfl (lv_at hl 0 rfl) ?_
                    refine lv_bipush (v := 100) hx hb dX7_part_9 (by decide) ?_
                    refine lv_icmp_ge (tgt := 51) hx hb dX7_part_11 (by decide) (fun c_11x => ?_) (fun c_11x => ?_)
                    · skip
                      skip
                      refine lv_iload_n hx hb dX7_part_51 rfl (lv_at hl 1 rfl) ?_
                      subst hQ
                      exact x_zretW E hr hlk (by decide) hw (by decide) (by decide) (⟨_, _, rfl, Or.inl ⟨e25, _, by rw [← hlp]; exact pLp_e hk17 hck17 hR25, by omega, rfl, (by decide), ⟨by omega, Or.inr ⟨rfl, by rw [hx9, he9], by rw [← he9]; exact hdg9⟩⟩⟩⟩) dX7_part_52
                    · skip
                      refine lv_aload_n hx hb dX7_part_14 rfl (lv_at hl 3 rfl) ?_
                      refine lv_bipush (v := 38) hx hb dX7_part_15 (by decide) ?_
                      refine x_wrote hw (x_runV (rest := []) E cbX7_take tw_444 (kX7_take l D ca cnt ad ct H.size t n1 b1 vs x25 (-1) 38 hR (by omega) (by decide)) ⟨rfl, rfl, by dsimp only [rmL]; omega, by dsimp only [rmL]; omega⟩ (x_recv E hw cl_7 (h13) (upd2_at _ _ _ _)) (fun _ _ _ _ h => h) (fun U hU _ => by rw [hU]; exact ⟨rfl, hw.1⟩) rfl hl.1 rfl (Nat.le_of_ble_eq_true rfl) dX7_part_17 ⟨Nat.le_refl _, Nat.le_refl _⟩) (fun rv9 u9 H locs hp9 hw hz9 hk9 => ?_)
                      obtain ⟨k17e, hk17e⟩ : ∃ z, z = pSk (bC b1 n1) n1 x25 := ⟨_, rfl⟩
                      rw [← hk17e] at hp9
                      have hkg17e : x25 ≤ k17e := by rw [hk17e]; exact pSk_ge _ _ _
                      have hkl17e : k17e ≤ n1 := by rw [hk17e]; exact pSk_le (by omega)
                      rcases hp9 with ⟨hcF17e, hck17e, hrv9, hu9⟩ | ⟨hcn17e, hrv9, hu9⟩
                      · skip
                        exact dig_no hdg9 (by omega) hk17e hck17e (by decide)
                      · skip
                        subst hrv9
                        subst hu9
                        have hw : wd D A s.heap cnt ad (rq ad ct t (nI k17e) (-1)) H locs := hw
                        have hcn17e : ¬ (bC b1 n1) k17e = 38 := fun q => hcn17e ⟨rfl, q⟩
                        have hke17e : k17e = e9 := by rw [hk17e]; exact dig_sk hdg9 (by omega)
                        refine lv_if_eq (tgt := 51) hx hb dX7_part_20 (by decide) (fun c_20 => ?_) (fun c_20 => ?_)
                        · skip
                          refine lv_iload_n hx hb dX7_part_51 rfl (lv_at hl 1 rfl) ?_
                          subst hQ
                          exact x_zretW E hr hlk (by decide) hw (by decide) (by decide) (⟨_, _, rfl, Or.inl ⟨e25, _, by rw [← hlp]; exact pLp_e hk17 hck17 hR25, by omega, rfl, (by decide), ⟨by omega, Or.inr ⟨rfl, by rw [hke17e, he9], by rw [← he9]; exact hdg9⟩⟩⟩⟩) dX7_part_52
                        · skip
                          exact absurd c_20 (by decide)
              · skip
                subst hrv9
                subst hf9
                have hw : wd D A s.heap cnt ad (rq ad ct t (nI x25) (-1)) H locs := hw
                refine lv_istore (lv' := [(4, .int (bB (rB vs L25))), (0, .ref (ad 13 0)), (1, .int (nI (8 - r))), (2, .int (bB (rB vs L))), (3, .int (nI i))]) hx hb dX7_part_28 hl (by decide) rfl (fun ls hl => ?_)
                refine lv_iload_n hx hb dX7_part_30 rfl (lv_at hl 3 rfl) ?_
                refine lv_if_eq (tgt := 43) hx hb dX7_part_31 (by decide) (fun c_31 => ?_) (fun c_31 => ?_)
                · skip
                  have c_31 := bB_0.mp c_31
                  refine lv_iconst (v := 0) hx hb dX7_part_43 (by decide) ?_
                  refine x_top (x := 0) (y := (bB (rB vs (L ++ L25 ++ [1])))) (by rw [(wf_op (Or.inl rfl) hwf hwf25).2 vs]; simp [rOp, bB, c_11, c_31]) ?_
                  refine lv_istore_n (lv' := [(2, .int (bB (rB vs (L ++ L25 ++ [1])))), (4, .int (bB (rB vs L25))), (0, .ref (ad 13 0)), (1, .int (nI (8 - r))), (3, .int (nI i))]) hx hb dX7_part_44 rfl hl (by decide) rfl (fun ls hl => ?_)
                  refine lv_iinc (v := (nI (i + 1))) (lv' := [(3, .int (nI (i + 1))), (2, .int (bB (rB vs (L ++ L25 ++ [1])))), (4, .int (bB (rB vs L25))), (0, .ref (ad 13 0)), (1, .int (nI (8 - r)))]) hx hb dX7_part_45 hl (k := 4) rfl (nI_1 _) (by decide) rfl (fun ls hl => ?_)
                  refine lv_goto (tgt := 8) hx hb dX7_part_48 (by decide) ?_
                  exact ih8 x25 (L ++ L25 ++ [1]) (i + 1) (by omega) (hxt25) (by omega) ((wf_op (Or.inl rfl) hwf hwf25).1) (by rw [← hlp]; exact (pLp_s hk17 hck17 hR25).symm) (by omega) _ _ (hw) ls (lv_sub hl [3, 4, 1, 0] (rfl))
                · skip
                  have c_31 := bB_n0.mp c_31
                  refine lv_iload hx hb dX7_part_34 (lv_at hl 0 rfl) ?_
                  refine lv_if_eq (tgt := 43) hx hb dX7_part_36 (by decide) (fun c_36 => ?_) (fun c_36 => ?_)
                  · skip
                    have c_36 := bB_0.mp c_36
                    refine lv_iconst (v := 0) hx hb dX7_part_43 (by decide) ?_
                    refine x_top (x := 0) (y := (bB (rB vs (L ++ L25 ++ [1])))) (by rw [(wf_op (Or.inl rfl) hwf hwf25).2 vs]; simp [rOp, bB, c_11, c_31, c_36]) ?_
                    refine lv_istore_n (lv' := [(2, .int (bB (rB vs (L ++ L25 ++ [1])))), (4, .int (bB (rB vs L25))), (0, .ref (ad 13 0)), (1, .int (nI (8 - r))), (3, .int (nI i))]) hx hb dX7_part_44 rfl hl (by decide) rfl (fun ls hl => ?_)
                    refine lv_iinc (v := (nI (i + 1))) (lv' := [(3, .int (nI (i + 1))), (2, .int (bB (rB vs (L ++ L25 ++ [1])))), (4, .int (bB (rB vs L25))), (0, .ref (ad 13 0)), (1, .int (nI (8 - r)))]) hx hb dX7_part_45 hl (k := 4) rfl (nI_1 _) (by decide) rfl (fun ls hl => ?_)
                    refine lv_goto (tgt := 8) hx hb dX7_part_48 (by decide) ?_
                    exact ih8 x25 (L ++ L25 ++ [1]) (i + 1) (by omega) (hxt25) (by omega) ((wf_op (Or.inl rfl) hwf hwf25).1) (by rw [← hlp]; exact (pLp_s hk17 hck17 hR25).symm) (by omega) _ _ (hw) ls (lv_sub hl [3, 4, 1, 0] (rfl))
                  · skip
                    have c_36 := bB_n0.mp c_36
                    refine lv_iconst (v := 1) hx hb dX7_part_39 (by decide) ?_
                    refine lv_goto (tgt := 44) hx hb dX7_part_40 (by decide) ?_
                    refine x_top (x := 1) (y := (bB (rB vs (L ++ L25 ++ [1])))) (by rw [(wf_op (Or.inl rfl) hwf hwf25).2 vs]; simp [rOp, bB, c_11, c_31, c_36]) ?_
                    refine lv_istore_n (lv' := [(2, .int (bB (rB vs (L ++ L25 ++ [1])))), (4, .int (bB (rB vs L25))), (0, .ref (ad 13 0)), (1, .int (nI (8 - r))), (3, .int (nI i))]) hx hb dX7_part_44 rfl hl (by decide) rfl (fun ls hl => ?_)
                    refine lv_iinc (v := (nI (i + 1))) (lv' := [(3, .int (nI (i + 1))), (2, .int (bB (rB vs (L ++ L25 ++ [1])))), (4, .int (bB (rB vs L25))), (0, .ref (ad 13 0)), (1, .int (nI (8 - r)))]) hx hb dX7_part_45 hl (k := 4) rfl (nI_1 _) (by decide) rfl (fun ls hl => ?_)
                    refine lv_goto (tgt := 8) hx hb dX7_part_48 (by decide) ?_
                    exact ih8 x25 (L ++ L25 ++ [1]) (i + 1) (by omega) (hxt25) (by omega) ((wf_op (Or.inl rfl) hwf hwf25).1) (by rw [← hlp]; exact (pLp_s hk17 hck17 hR25).symm) (by omega) _ _ (hw) ls (lv_sub hl [3, 4, 1, 0] (rfl))
          · skip
            subst hrv9
            subst hu9
            have hw : wd D A s.heap cnt ad (rq ad ct t (nI k17) (-1)) H locs := hw
            have hcn17 : ¬ (bC b1 n1) k17 = 38 := fun q => hcn17 ⟨rfl, q⟩
            refine lv_if_eq (tgt := 51) hx hb dX7_part_20 (by decide) (fun c_20 => ?_) (fun c_20 => ?_)
            · skip
              refine lv_iload_n hx hb dX7_part_51 rfl (lv_at hl 2 rfl) ?_
              subst hQ
              exact x_zretW E hr hlk (bB_or _) hw (by decide) (by decide) (⟨_, _, rfl, Or.inr ⟨L, by rw [← hlp]; exact pLp_n hk17 hcn17, by omega, by omega, hwf, rfl, rfl⟩⟩) dX7_part_52
            · skip
              exact absurd c_20 (by decide)
    exact lp8 (n1 + 1) x2 L2 0 (hab2) (hxt2) (Nat.zero_le _) (hwf2) (pSeq_k hR2) (by omega) _ _ (hw) ls (lv_sub hl [2, 3, 1, 0] (rfl))
set_option maxHeartbeats 4000000 in
set_option maxRecDepth 100000 in
theorem kX7_tests (l : Launch) (D : va_G) (ca : Nat → ClassId) (cnt : Nat → Nat) (ad : Nat → Nat → Nat) (ct : Nat → Nat → va_E) (z9 : Nat) (t : Nat) (n1 : Nat) (b1 : Nat → Int32) (vs : Nat → Int32) (a : Nat) (r : Nat) (hR : rdOK ca cnt ad ct t n1 b1 vs) (ha : a ≤ n1) (hr8 : r ≤ 8) (ih : ∀ r1, r = r1 + 1 → KC l D ca r1) : Met l yX7_tests (wz yX7_tests cX7_tests 5 (some .boolean)) (rmL (3 * r + 8) 0 0) (va_Pc [.ref (ad 13 0), .int (nI (8 - r))] (fun U => (U.heap.size = z9 ∧ wq D cnt ad (rq ad ct t (nI a) (-1)) U.heap ∧ lets (wA cnt ad z9) U) ∧ gK D ca U)) (QcW D (wA cnt ad z9) (fun rv u => ∃ x9 f9, u = (cnt, ad, rq ad ct t (nI x9) f9) ∧ cPo (bC b1 n1) n1 a vs (pT (bC b1 n1) n1 (r + 1) a) rv x9 f9)) 0 0 (wA cnt ad z9) := by
  refine x_met (by decide) (Nat.le_of_ble_eq_true rfl) ?_
  intro p e s m below meth c E hr hlk hnm hq ls hl
  obtain ⟨hsz9, hq, hLt⟩ := hq
  subst hsz9
  generalize hav : ([.ref (ad 13 0), .int (nI (8 - r))] : List Value).toArray = args at E ⊢
  have hx := E.1
  have hb := E.2.1
  have hown := E.2.2.2.1
  have hts := E.2.2.2.2.1
  have hw : wd D (wA cnt ad s.heap.size) s.heap cnt ad (rq ad ct t (nI a) (-1)) s.heap [] := wd.start hq
  generalize hQ : MQ below (QcW D (wA cnt ad s.heap.size) (fun rv u => ∃ x9 f9, u = (cnt, ad, rq ad ct t (nI x9) f9) ∧ cPo (bC b1 n1) n1 a vs (pT (bC b1 n1) n1 (r + 1) a) rv x9 f9)) args s 0 0 (wA cnt ad s.heap.size) = Q
  generalize hA9 : wA cnt ad s.heap.size = A at hw hQ hLt
  have hl : lv_has ls 5 [(0, .ref (ad 13 0)), (1, .int (nI (8 - r)))] := hl
  obtain ⟨tL, hLz, hLT⟩ := id hLt
  obtain ⟨h13, h11, htc, h12, hbc, hn1, h14, hvc⟩ := id hR
  suffices hgo : ∀ (H : Heap) (locs : List Loc), wd D A s.heap cnt ad (rq ad ct t (nI a) (-1)) H locs → W p l e (rmL (3 * r + 8) 0 0) s m args below meth c H locs 0 0 Q (F0 m 0 ls []) from hgo _ _ hw
  clear hw
  intro H locs hw
  refine lv_aload_n hx hb dX7_tests_0 rfl (lv_at hl 0 rfl) ?_
  refine lv_iload_n hx hb dX7_tests_1 rfl (lv_at hl 1 rfl) ?_
  refine x_wrote hw (x_runV (rest := []) E cbX7_part tw_416 (kX7_part l D ca cnt ad ct H.size t n1 b1 vs a r hR (by omega) hr8 ih) ⟨rfl, rfl, by dsimp only [rmL]; omega, by dsimp only [rmL]; omega⟩ (x_recv E hw cl_7 (h13) (upd2_at _ _ _ _)) (fun U g9 mk9 a9 h => ⟨h.1, h.2.1, lets_blind h.2.2⟩) (fun U hU hW9 => ⟨by rw [hU], by rw [hU]; exact hw.1, lets_call hLt hw hU hW9⟩) rfl hl.1 rfl (Nat.le_of_ble_eq_true rfl) dX7_tests_2 ⟨Nat.le_refl _, Nat.le_refl _⟩) (fun rv9 u9 H locs hp9 hw hz9 hk9 => ?_)
  obtain ⟨x2, f2q, hu9, hp9⟩ := hp9
  subst hu9
  rcases hp9 with ⟨e2, y2, hR2, he2, hrv9, hy2, hx2, hf9 | ⟨hf9, hx9, hdg9⟩⟩ | ⟨L2, hR2, hab2, hxt2, hwf2, hrv9, hf9⟩
  · skip
    subst hrv9
    subst hf9
    have hw : wd D A s.heap cnt ad (rq ad ct t (nI x2) (nI e2)) H locs := hw
    refine lv_istore_n (lv' := [(2, .int y2), (0, .ref (ad 13 0)), (1, .int (nI (8 - r)))]) hx hb dX7_tests_5 rfl hl (by decide) rfl (fun ls hl => ?_)
    refine lv_iconst (v := 0) hx hb dX7_tests_6 (by decide) ?_
    refine lv_istore_n (lv' := [(3, .int 0), (2, .int y2), (0, .ref (ad 13 0)), (1, .int (nI (8 - r)))]) hx hb dX7_tests_7 rfl hl (by decide) rfl (fun ls hl => ?_)
    refine lv_iload_n hx hb dX7_tests_8 rfl (lv_at hl 0 rfl) ?_
    refine lv_bipush (v := 100) hx hb dX7_tests_9 (by decide) ?_
    refine lv_icmp_ge (tgt := 51) hx hb dX7_tests_11 (by decide) (fun c_11 => ?_) (fun c_11 => ?_)
    · skip
      exact absurd c_11 (by decide)
    · skip
      refine lv_aload_n hx hb dX7_tests_14 rfl (lv_at hl 2 rfl) ?_
      refine lv_bipush (v := 124) hx hb dX7_tests_15 (by decide) ?_
      refine x_wrote hw (x_runV (rest := []) E cbX7_take tw_444 (kX7_take l D ca cnt ad ct H.size t n1 b1 vs x2 (nI e2) 124 hR (by omega) (by decide)) ⟨rfl, rfl, by dsimp only [rmL]; omega, by dsimp only [rmL]; omega⟩ (x_recv E hw cl_7 (h13) (upd2_at _ _ _ _)) (fun _ _ _ _ h => h) (fun U hU _ => by rw [hU]; exact ⟨rfl, hw.1⟩) rfl hl.1 rfl (Nat.le_of_ble_eq_true rfl) dX7_tests_17 ⟨Nat.le_refl _, Nat.le_refl _⟩) (fun rv9 u9 H locs hp9 hw hz9 hk9 => ?_)
      obtain ⟨k17e, hk17e⟩ : ∃ z, z = pSk (bC b1 n1) n1 x2 := ⟨_, rfl⟩
      rw [← hk17e] at hp9
      have hkg17e : x2 ≤ k17e := by rw [hk17e]; exact pSk_ge _ _ _
      have hkl17e : k17e ≤ n1 := by rw [hk17e]; exact pSk_le (by omega)
      rcases hp9 with ⟨hcF17e, hck17e, hrv9, hu9⟩ | ⟨hcn17e, hrv9, hu9⟩
      · skip
        exact absurd hcF17e (nI_nn (by omega))
      · skip
        subst hrv9
        subst hu9
        have hw : wd D A s.heap cnt ad (rq ad ct t (nI k17e) (nI e2)) H locs := hw
        refine lv_if_eq (tgt := 51) hx hb dX7_tests_20 (by decide) (fun c_20 => ?_) (fun c_20 => ?_)
        · skip
          refine lv_iload_n hx hb dX7_tests_51 rfl (lv_at hl 1 rfl) ?_
          subst hQ
          exact x_zretW E hr hlk (hy2) hw (by decide) (by decide) (⟨_, _, rfl, Or.inl ⟨e2, _, pSeq_e hR2, by omega, rfl, hy2, ⟨by omega, Or.inl rfl⟩⟩⟩) dX7_tests_52
        · skip
          exact absurd c_20 (by decide)
  · skip
    subst hrv9
    subst hf9
    obtain ⟨e9, he9⟩ : ∃ z, z = e2 := ⟨_, rfl⟩
    rw [← he9] at hdg9 hx9
    have hw : wd D A s.heap cnt ad (rq ad ct t (nI x2) (-1)) H locs := hw
    refine lv_istore_n (lv' := [(2, .int y2), (0, .ref (ad 13 0)), (1, .int (nI (8 - r)))]) hx hb dX7_tests_5 rfl hl (by decide) rfl (fun ls hl => ?_)
    refine lv_iconst (v := 0) hx hb dX7_tests_6 (by decide) ?_
    refine lv_istore_n (lv' := [(3, .int 0), (2, .int y2), (0, .ref (ad 13 0)), (1, .int (nI (8 - r)))]) hx hb dX7_tests_7 rfl hl (by decide) rfl (fun ls hl => ?_)
    refine lv_iload_n hx hb dX7_tests_8 rfl (lv_at hl 0 rfl) ?_
    refine lv_bipush (v := 100) hx hb dX7_tests_9 (by decide) ?_
    refine lv_icmp_ge (tgt := 51) hx hb dX7_tests_11 (by decide) (fun c_11 => ?_) (fun c_11 => ?_)
    · skip
      exact absurd c_11 (by decide)
    · skip
      refine lv_aload_n hx hb dX7_tests_14 rfl (lv_at hl 2 rfl) ?_
      refine lv_bipush (v := 124) hx hb dX7_tests_15 (by decide) ?_
      refine x_wrote hw (x_runV (rest := []) E cbX7_take tw_444 (kX7_take l D ca cnt ad ct H.size t n1 b1 vs x2 (-1) 124 hR (by omega) (by decide)) ⟨rfl, rfl, by dsimp only [rmL]; omega, by dsimp only [rmL]; omega⟩ (x_recv E hw cl_7 (h13) (upd2_at _ _ _ _)) (fun _ _ _ _ h => h) (fun U hU _ => by rw [hU]; exact ⟨rfl, hw.1⟩) rfl hl.1 rfl (Nat.le_of_ble_eq_true rfl) dX7_tests_17 ⟨Nat.le_refl _, Nat.le_refl _⟩) (fun rv9 u9 H locs hp9 hw hz9 hk9 => ?_)
      obtain ⟨k17e, hk17e⟩ : ∃ z, z = pSk (bC b1 n1) n1 x2 := ⟨_, rfl⟩
      rw [← hk17e] at hp9
      have hkg17e : x2 ≤ k17e := by rw [hk17e]; exact pSk_ge _ _ _
      have hkl17e : k17e ≤ n1 := by rw [hk17e]; exact pSk_le (by omega)
      rcases hp9 with ⟨hcF17e, hck17e, hrv9, hu9⟩ | ⟨hcn17e, hrv9, hu9⟩
      · skip
        exact dig_no hdg9 (by omega) hk17e hck17e (by decide)
      · skip
        subst hrv9
        subst hu9
        have hw : wd D A s.heap cnt ad (rq ad ct t (nI k17e) (-1)) H locs := hw
        have hcn17e : ¬ (bC b1 n1) k17e = 124 := fun q => hcn17e ⟨rfl, q⟩
        have hke17e : k17e = e9 := by rw [hk17e]; exact dig_sk hdg9 (by omega)
        refine lv_if_eq (tgt := 51) hx hb dX7_tests_20 (by decide) (fun c_20 => ?_) (fun c_20 => ?_)
        · skip
          refine lv_iload_n hx hb dX7_tests_51 rfl (lv_at hl 1 rfl) ?_
          subst hQ
          exact x_zretW E hr hlk (hy2) hw (by decide) (by decide) (⟨_, _, rfl, Or.inl ⟨e2, _, pSeq_e hR2, by omega, rfl, hy2, ⟨by omega, Or.inr ⟨rfl, by rw [hke17e, he9], by rw [← he9]; exact hdg9⟩⟩⟩⟩) dX7_tests_52
        · skip
          exact absurd c_20 (by decide)
  · skip
    subst hrv9
    subst hf9
    have hw : wd D A s.heap cnt ad (rq ad ct t (nI x2) (-1)) H locs := hw
    refine lv_istore_n (lv' := [(2, .int (bB (rB vs L2))), (0, .ref (ad 13 0)), (1, .int (nI (8 - r)))]) hx hb dX7_tests_5 rfl hl (by decide) rfl (fun ls hl => ?_)
    refine lv_iconst (v := 0) hx hb dX7_tests_6 (by decide) ?_
    refine lv_istore_n (lv' := [(3, .int 0), (2, .int (bB (rB vs L2))), (0, .ref (ad 13 0)), (1, .int (nI (8 - r)))]) hx hb dX7_tests_7 rfl hl (by decide) rfl (fun ls hl => ?_)
    have lp8 : ∀ (n : Nat) (b : Nat) (L : List Int32) (i : Nat), (a < b) → (b ≤ n1) → (i ≤ b) → (wfL L) → (pLp (bC b1 n1) n1 (pP (bC b1 n1) n1 r) 124 2 n b L = pT (bC b1 n1) n1 (r + 1) a) → (n1 - b < n) → ∀ (H : Heap) (locs : List Loc), wd D A s.heap cnt ad (rq ad ct t (nI b) (-1)) H locs → ∀ ls : Array Slot, lv_has ls 5 [(0, .ref (ad 13 0)), (1, .int (nI (8 - r))), (2, .int (bB (rB vs L))), (3, .int (nI i))] → W p l e (rmL (3 * r + 8) 0 0) s m args below meth c H locs 0 0 Q (F0 m 8 ls []) := by
      intro n
      induction n with
      | zero =>
        intro b L i hab hbt hib hwf hlp hfu H locs hw ls hl
        exact absurd hfu (by omega)
      | succ n ih8 =>
        intro b L i hab hbt hib hwf hlp hfu H locs hw ls hl
        refine lv_iload_n hx hb dX7_tests_8 rfl (lv_at hl 3 rfl) ?_
        refine lv_bipush (v := 100) hx hb dX7_tests_9 (by decide) ?_
        refine lv_icmp_ge (tgt := 51) hx hb dX7_tests_11 (by decide) (fun c_11 => ?_) (fun c_11 => ?_)
        · skip
          have hif : 100 ≤ i := by have q9 := (nI_leI (a := 100) (b := i) (by omega) (by omega)).mp c_11; omega
          refine lv_iload_n hx hb dX7_tests_51 rfl (lv_at hl 2 rfl) ?_
          subst hQ
          exact x_zretW E hr hlk (bB_or _) hw (by decide) (by decide) (⟨_, _, rfl, Or.inr ⟨L, by rw [← hlp]; exact pLp_n (b1 := b) (by rw [pSk_n (by omega)]) (fun q => absurd (tC_in q (by decide)) (by omega)), hab, hbt, hwf, rfl, rfl⟩⟩) dX7_tests_52
        · skip
          refine lv_aload_n hx hb dX7_tests_14 rfl (lv_at hl 0 rfl) ?_
          refine lv_bipush (v := 124) hx hb dX7_tests_15 (by decide) ?_
          refine x_wrote hw (x_runV (rest := []) E cbX7_take tw_444 (kX7_take l D ca cnt ad ct H.size t n1 b1 vs b (-1) 124 hR (by omega) (by decide)) ⟨rfl, rfl, by dsimp only [rmL]; omega, by dsimp only [rmL]; omega⟩ (x_recv E hw cl_7 (h13) (upd2_at _ _ _ _)) (fun _ _ _ _ h => h) (fun U hU _ => by rw [hU]; exact ⟨rfl, hw.1⟩) rfl hl.1 rfl (Nat.le_of_ble_eq_true rfl) dX7_tests_17 ⟨Nat.le_refl _, Nat.le_refl _⟩) (fun rv9 u9 H locs hp9 hw hz9 hk9 => ?_)
          obtain ⟨k17, hk17⟩ : ∃ z, z = pSk (bC b1 n1) n1 b := ⟨_, rfl⟩
          rw [← hk17] at hp9
          have hkg17 : b ≤ k17 := by rw [hk17]; exact pSk_ge _ _ _
          have hkl17 : k17 ≤ n1 := by rw [hk17]; exact pSk_le (by omega)
          rcases hp9 with ⟨hcF17, hck17, hrv9, hu9⟩ | ⟨hcn17, hrv9, hu9⟩
          · skip
            subst hrv9
            subst hu9
            have hw : wd D A s.heap cnt ad (rq ad ct t (nI (k17 + 1)) (-1)) H locs := hw
            have hkt17 : k17 < n1 := tC_in hck17 (by decide)
            refine lv_if_eq (tgt := 51) hx hb dX7_tests_20 (by decide) (fun c_20 => ?_) (fun c_20 => ?_)
            · skip
              exact absurd c_20 (by decide)
            · skip
              refine lv_aload_n hx hb dX7_tests_23 rfl (lv_at hl 0 rfl) ?_
              refine lv_iload_n hx hb dX7_tests_24 rfl (lv_at hl 1 rfl) ?_
              refine x_wrote hw (x_runV (rest := []) E cbX7_part tw_416 (kX7_part l D ca cnt ad ct H.size t n1 b1 vs (k17 + 1) r hR (by omega) hr8 ih) ⟨rfl, rfl, by dsimp only [rmL]; omega, by dsimp only [rmL]; omega⟩ (x_recv E hw cl_7 (h13) (upd2_at _ _ _ _)) (fun U g9 mk9 a9 h => ⟨h.1, h.2.1, lets_blind h.2.2⟩) (fun U hU hW9 => ⟨by rw [hU], by rw [hU]; exact hw.1, lets_call hLt hw hU hW9⟩) rfl hl.1 rfl (Nat.le_of_ble_eq_true rfl) dX7_tests_25 ⟨Nat.le_refl _, Nat.le_refl _⟩) (fun rv9 u9 H locs hp9 hw hz9 hk9 => ?_)
              obtain ⟨x25, f25q, hu9, hp9⟩ := hp9
              subst hu9
              rcases hp9 with ⟨e25, y25, hR25, he25, hrv9, hy25, hx25, hf9 | ⟨hf9, hx9, hdg9⟩⟩ | ⟨L25, hR25, hab25, hxt25, hwf25, hrv9, hf9⟩
              · skip
                subst hrv9
                subst hf9
                have hw : wd D A s.heap cnt ad (rq ad ct t (nI x25) (nI e25)) H locs := hw
                refine lv_istore (lv' := [(4, .int y25), (0, .ref (ad 13 0)), (1, .int (nI (8 - r))), (2, .int (bB (rB vs L))), (3, .int (nI i))]) hx hb dX7_tests_28 hl (by decide) rfl (fun ls hl => ?_)
                refine lv_iload_n hx hb dX7_tests_30 rfl (lv_at hl 3 rfl) ?_
                refine lv_if_ne (tgt := 39) hx hb dX7_tests_31 (by decide) (fun c_31 => ?_) (fun c_31 => ?_)
                · skip
                  have c_31 := bB_n0.mp c_31
                  refine lv_iconst (v := 1) hx hb dX7_tests_39 (by decide) ?_
                  refine lv_goto (tgt := 44) hx hb dX7_tests_40 (by decide) ?_
                  refine lv_istore_n (lv' := [(2, .int 1), (4, .int y25), (0, .ref (ad 13 0)), (1, .int (nI (8 - r))), (3, .int (nI i))]) hx hb dX7_tests_44 rfl hl (by decide) rfl (fun ls hl => ?_)
                  refine lv_iinc (v := (nI (i + 1))) (lv' := [(3, .int (nI (i + 1))), (2, .int 1), (4, .int y25), (0, .ref (ad 13 0)), (1, .int (nI (8 - r)))]) hx hb dX7_tests_45 hl (k := 4) rfl (nI_1 _) (by decide) rfl (fun ls hl => ?_)
                  refine lv_goto (tgt := 8) hx hb dX7_tests_48 (by decide) ?_
                  refine lv_iload_n hx hb dX7_tests_8 rfl (lv_at hl 0 rfl) ?_
                  refine lv_bipush (v := 100) hx hb dX7_tests_9 (by decide) ?_
                  refine lv_icmp_ge (tgt := 51) hx hb dX7_tests_11 (by decide) (fun c_11x => ?_) (fun c_11x => ?_)
                  · skip
                    skip
                    refine lv_iload_n hx hb dX7_tests_51 rfl (lv_at hl 1 rfl) ?_
                    subst hQ
                    exact x_zretW E hr hlk (by decide) hw (by decide) (by decide) (⟨_, _, rfl, Or.inl ⟨e25, _, by rw [← hlp]; exact pLp_e hk17 hck17 hR25, by omega, rfl, (by decide), ⟨by omega, Or.inl rfl⟩⟩⟩) dX7_tests_52
                  · skip
                    refine lv_aload_n hx hb dX7_tests_14 rfl (lv_at hl 3 rfl) ?_
                    refine lv_bipush (v := 124) hx hb dX7_tests_15 (by decide) ?_
                    refine x_wrote hw (x_runV (rest := []) E cbX7_take tw_444 (kX7_take l D ca cnt ad ct H.size t n1 b1 vs x25 (nI e25) 124 hR (by omega) (by decide)) ⟨rfl, rfl, by dsimp only [rmL]; omega, by dsimp only [rmL]; omega⟩ (x_recv E hw cl_7 (h13) (upd2_at _ _ _ _)) (fun _ _ _ _ h => h) (fun U hU _ => by rw [hU]; exact ⟨rfl, hw.1⟩) rfl hl.1 rfl (Nat.le_of_ble_eq_true rfl) dX7_tests_17 ⟨Nat.le_refl _, Nat.le_refl _⟩) (fun rv9 u9 H locs hp9 hw hz9 hk9 => ?_)
                    obtain ⟨k17e, hk17e⟩ : ∃ z, z = pSk (bC b1 n1) n1 x25 := ⟨_, rfl⟩
                    rw [← hk17e] at hp9
                    have hkg17e : x25 ≤ k17e := by rw [hk17e]; exact pSk_ge _ _ _
                    have hkl17e : k17e ≤ n1 := by rw [hk17e]; exact pSk_le (by omega)
                    rcases hp9 with ⟨hcF17e, hck17e, hrv9, hu9⟩ | ⟨hcn17e, hrv9, hu9⟩
                    · skip
                      exact absurd hcF17e (nI_nn (by omega))
                    · skip
                      subst hrv9
                      subst hu9
                      have hw : wd D A s.heap cnt ad (rq ad ct t (nI k17e) (nI e25)) H locs := hw
                      refine lv_if_eq (tgt := 51) hx hb dX7_tests_20 (by decide) (fun c_20 => ?_) (fun c_20 => ?_)
                      · skip
                        refine lv_iload_n hx hb dX7_tests_51 rfl (lv_at hl 1 rfl) ?_
                        subst hQ
                        exact x_zretW E hr hlk (by decide) hw (by decide) (by decide) (⟨_, _, rfl, Or.inl ⟨e25, _, by rw [← hlp]; exact pLp_e hk17 hck17 hR25, by omega, rfl, (by decide), ⟨by omega, Or.inl rfl⟩⟩⟩) dX7_tests_52
                      · skip
                        exact absurd c_20 (by decide)
                · skip
                  have c_31 := bB_0.mp c_31
                  refine lv_iload hx hb dX7_tests_34 (lv_at hl 0 rfl) ?_
                  refine lv_if_eq (tgt := 43) hx hb dX7_tests_36 (by decide) (fun c_36 => ?_) (fun c_36 => ?_)
                  · skip
                    refine lv_iconst (v := 0) hx hb dX7_tests_43 (by decide) ?_
                    refine lv_istore_n (lv' := [(2, .int 0), (4, .int y25), (0, .ref (ad 13 0)), (1, .int (nI (8 - r))), (3, .int (nI i))]) hx hb dX7_tests_44 rfl hl (by decide) rfl (fun ls hl => ?_)
                    refine lv_iinc (v := (nI (i + 1))) (lv' := [(3, .int (nI (i + 1))), (2, .int 0), (4, .int y25), (0, .ref (ad 13 0)), (1, .int (nI (8 - r)))]) hx hb dX7_tests_45 hl (k := 4) rfl (nI_1 _) (by decide) rfl (fun ls hl => ?_)
                    refine lv_goto (tgt := 8) hx hb dX7_tests_48 (by decide) ?_
                    refine lv_iload_n hx hb dX7_tests_8 rfl (lv_at hl 0 rfl) ?_
                    refine lv_bipush (v := 100) hx hb dX7_tests_9 (by decide) ?_
                    refine lv_icmp_ge (tgt := 51) hx hb dX7_tests_11 (by decide) (fun c_11x => ?_) (fun c_11x => ?_)
                    · skip
                      skip
                      refine lv_iload_n hx hb dX7_tests_51 rfl (lv_at hl 1 rfl) ?_
                      subst hQ
                      exact x_zretW E hr hlk (by decide) hw (by decide) (by decide) (⟨_, _, rfl, Or.inl ⟨e25, _, by rw [← hlp]; exact pLp_e hk17 hck17 hR25, by omega, rfl, (by decide), ⟨by omega, Or.inl rfl⟩⟩⟩) dX7_tests_52
                    · skip
                      refine lv_aload_n hx hb dX7_tests_14 rfl (lv_at hl 3 rfl) ?_
                      refine lv_bipush (v := 124) hx hb dX7_tests_15 (by decide) ?_
                      refine x_wrote hw (x_runV (rest := []) E cbX7_take tw_444 (kX7_take l D ca cnt ad ct H.size t n1 b1 vs x25 (nI e25) 124 hR (by omega) (by decide)) ⟨rfl, rfl, by dsimp only [rmL]; omega, by dsimp only [rmL]; omega⟩ (x_recv E hw cl_7 (h13) (upd2_at _ _ _ _)) (fun _ _ _ _ h => h) (fun U hU _ => by rw [hU]; exact ⟨rfl, hw.1⟩) rfl hl.1 rfl (Nat.le_of_ble_eq_true rfl) dX7_tests_17 ⟨Nat.le_refl _, Nat.le_refl _⟩) (fun rv9 u9 H locs hp9 hw hz9 hk9 => ?_)
                      obtain ⟨k17e, hk17e⟩ : ∃ z, z = pSk (bC b1 n1) n1 x25 := ⟨_, rfl⟩
                      rw [← hk17e] at hp9
                      have hkg17e : x25 ≤ k17e := by rw [hk17e]; exact pSk_ge _ _ _
                      have hkl17e : k17e ≤ n1 := by rw [hk17e]; exact pSk_le (by omega)
                      rcases hp9 with ⟨hcF17e, hck17e, hrv9, hu9⟩ | ⟨hcn17e, hrv9, hu9⟩
                      · skip
                        exact absurd hcF17e (nI_nn (by omega))
                      · skip
                        subst hrv9
                        subst hu9
                        have hw : wd D A s.heap cnt ad (rq ad ct t (nI k17e) (nI e25)) H locs := hw
                        refine lv_if_eq (tgt := 51) hx hb dX7_tests_20 (by decide) (fun c_20 => ?_) (fun c_20 => ?_)
                        · skip
                          refine lv_iload_n hx hb dX7_tests_51 rfl (lv_at hl 1 rfl) ?_
                          subst hQ
                          exact x_zretW E hr hlk (by decide) hw (by decide) (by decide) (⟨_, _, rfl, Or.inl ⟨e25, _, by rw [← hlp]; exact pLp_e hk17 hck17 hR25, by omega, rfl, (by decide), ⟨by omega, Or.inl rfl⟩⟩⟩) dX7_tests_52
                        · skip
                          exact absurd c_20 (by decide)
                  · skip
                    refine lv_iconst (v := 1) hx hb dX7_tests_39 (by decide) ?_
                    refine lv_goto (tgt := 44) hx hb dX7_tests_40 (by decide) ?_
                    refine lv_istore_n (lv' := [(2, .int 1), (4, .int y25), (0, .ref (ad 13 0)), (1, .int (nI (8 - r))), (3, .int (nI i))]) hx hb dX7_tests_44 rfl hl (by decide) rfl (fun ls hl => ?_)
                    refine lv_iinc (v := (nI (i + 1))) (lv' := [(3, .int (nI (i + 1))), (2, .int 1), (4, .int y25), (0, .ref (ad 13 0)), (1, .int (nI (8 - r)))]) hx hb dX7_tests_45 hl (k := 4) rfl (nI_1 _) (by decide) rfl (fun ls hl => ?_)
                    refine lv_goto (tgt := 8) hx hb dX7_tests_48 (by decide) ?_
                    refine lv_iload_n hx hb dX7_tests_8 rfl (lv_at hl 0 rfl) ?_
                    refine lv_bipush (v := 100) hx hb dX7_tests_9 (by decide) ?_
                    refine lv_icmp_ge (tgt := 51) hx hb dX7_tests_11 (by decide) (fun c_11x => ?_) (fun c_11x => ?_)
                    · skip
                      skip
                      refine lv_iload_n hx hb dX7_tests_51 rfl (lv_at hl 1 rfl) ?_
                      subst hQ
                      exact x_zretW E hr hlk (by decide) hw (by decide) (by decide) (⟨_, _, rfl, Or.inl ⟨e25, _, by rw [← hlp]; exact pLp_e hk17 hck17 hR25, by omega, rfl, (by decide), ⟨by omega, Or.inl rfl⟩⟩⟩) dX7_tests_52
                    · skip
                      refine lv_aload_n hx hb dX7_tests_14 rfl (lv_at hl 3 rfl) ?_
                      refine lv_bipush (v := 124) hx hb dX7_tests_15 (by decide) ?_
                      refine x_wrote hw (x_runV (rest := []) E cbX7_take tw_444 (kX7_take l D ca cnt ad ct H.size t n1 b1 vs x25 (nI e25) 124 hR (by omega) (by decide)) ⟨rfl, rfl, by dsimp only [rmL]; omega, by dsimp only [rmL]; omega⟩ (x_recv E hw cl_7 (h13) (upd2_at _ _ _ _)) (fun _ _ _ _ h => h) (fun U hU _ => by rw [hU]; exact ⟨rfl, hw.1⟩) rfl hl.1 rfl (Nat.le_of_ble_eq_true rfl) dX7_tests_17 ⟨Nat.le_refl _, Nat.le_refl _⟩) (fun rv9 u9 H locs hp9 hw hz9 hk9 => ?_)
                      obtain ⟨k17e, hk17e⟩ : ∃ z, z = pSk (bC b1 n1) n1 x25 := ⟨_, rfl⟩
                      rw [← hk17e] at hp9
                      have hkg17e : x25 ≤ k17e := by rw [hk17e]; exact pSk_ge _ _ _
                      have hkl17e : k17e ≤ n1 := by rw [hk17e]; exact pSk_le (by omega)
                      rcases hp9 with ⟨hcF17e, hck17e, hrv9, hu9⟩ | ⟨hcn17e, hrv9, hu9⟩
                      · skip
                        exact absurd hcF17e (nI_nn (by omega))
                      · skip
                        subst hrv9
                        subst hu9
                        have hw : wd D A s.heap cnt ad (rq ad ct t (nI k17e) (nI e25)) H locs := hw
                        refine lv_if_eq (tgt := 51) hx hb dX7_tests_20 (by decide) (fun c_20 => ?_) (fun c_20 => ?_)
                        · skip
                          refine lv_iload_n hx hb dX7_tests_51 rfl (lv_at hl 1 rfl) ?_
                          subst hQ
                          exact x_zretW E hr hlk (by decide) hw (by decide) (by decide) (⟨_, _, rfl, Or.inl ⟨e25, _, by rw [← hlp]; exact pLp_e hk17 hck17 hR25, by omega, rfl, (by decide), ⟨by omega, Or.inl rfl⟩⟩⟩) dX7_tests_52
                        · skip
                          exact absurd c_20 (by decide)
              · skip
                subst hrv9
                subst hf9
                obtain ⟨e9, he9⟩ : ∃ z, z = e25 := ⟨_, rfl⟩
                rw [← he9] at hdg9 hx9
                have hw : wd D A s.heap cnt ad (rq ad ct t (nI x25) (-1)) H locs := hw
                refine lv_istore (lv' := [(4, .int y25), (0, .ref (ad 13 0)), (1, .int (nI (8 - r))), (2, .int (bB (rB vs L))), (3, .int (nI i))]) hx hb dX7_tests_28 hl (by decide) rfl (fun ls hl => ?_)
                refine lv_iload_n hx hb dX7_tests_30 rfl (lv_at hl 3 rfl) ?_
                refine lv_if_ne (tgt := 39) hx hb dX7_tests_31 (by decide) (fun c_31 => ?_) (fun c_31 => ?_)
                · skip
                  have c_31 := bB_n0.mp c_31
                  refine lv_iconst (v := 1) hx hb dX7_tests_39 (by decide) ?_
                  refine lv_goto (tgt := 44) hx hb dX7_tests_40 (by decide) ?_
                  refine lv_istore_n (lv' := [(2, .int 1), (4, .int y25), (0, .ref (ad 13 0)), (1, .int (nI (8 - r))), (3, .int (nI i))]) hx hb dX7_tests_44 rfl hl (by decide) rfl (fun ls hl => ?_)
                  refine lv_iinc (v := (nI (i + 1))) (lv' := [(3, .int (nI (i + 1))), (2, .int 1), (4, .int y25), (0, .ref (ad 13 0)), (1, .int (nI (8 - r)))]) hx hb dX7_tests_45 hl (k := 4) rfl (nI_1 _) (by decide) rfl (fun ls hl => ?_)
                  refine lv_goto (tgt := 8) hx hb dX7_tests_48 (by decide) ?_
                  refine lv_iload_n hx hb dX7_tests_8 rfl (lv_at hl 0 rfl) ?_
                  refine lv_bipush (v := 100) hx hb dX7_tests_9 (by decide) ?_
                  refine lv_icmp_ge (tgt := 51) hx hb dX7_tests_11 (by decide) (fun c_11x => ?_) (fun c_11x => ?_)
                  · skip
                    skip
                    refine lv_iload_n hx hb dX7_tests_51 rfl (lv_at hl 1 rfl) ?_
                    subst hQ
                    exact x_zretW E hr hlk (by decide) hw (by decide) (by decide) (⟨_, _, rfl, Or.inl ⟨e25, _, by rw [← hlp]; exact pLp_e hk17 hck17 hR25, by omega, rfl, (by decide), ⟨by omega, Or.inr ⟨rfl, by rw [hx9, he9], by rw [← he9]; exact hdg9⟩⟩⟩⟩) dX7_tests_52
                  · skip
                    refine lv_aload_n hx hb dX7_tests_14 rfl (lv_at hl 3 rfl) ?_
                    refine lv_bipush (v := 124) hx hb dX7_tests_15 (by decide) ?_
                    refine x_wrote hw (x_runV (rest := []) E cbX7_take tw_444 (kX7_take l D ca cnt ad ct H.size t n1 b1 vs x25 (-1) 124 hR (by omega) (by decide)) ⟨rfl, rfl, by dsimp only [rmL]; omega, by dsimp only [rmL]; omega⟩ (x_recv E hw cl_7 (h13) (upd2_at _ _ _ _)) (fun _ _ _ _ h => h) (fun U hU _ => by rw [hU]; exact ⟨rfl, hw.1⟩) rfl hl.1 rfl (Nat.le_of_ble_eq_true rfl) dX7_tests_17 ⟨Nat.le_refl _, Nat.le_refl _⟩) (fun rv9 u9 H locs hp9 hw hz9 hk9 => ?_)
                    obtain ⟨k17e, hk17e⟩ : ∃ z, z = pSk (bC b1 n1) n1 x25 := ⟨_, rfl⟩
                    rw [← hk17e] at hp9
                    have hkg17e : x25 ≤ k17e := by rw [hk17e]; exact pSk_ge _ _ _
                    have hkl17e : k17e ≤ n1 := by rw [hk17e]; exact pSk_le (by omega)
                    rcases hp9 with ⟨hcF17e, hck17e, hrv9, hu9⟩ | ⟨hcn17e, hrv9, hu9⟩
                    · skip
                      exact dig_no hdg9 (by omega) hk17e hck17e (by decide)
                    · skip
                      subst hrv9
                      subst hu9
                      have hw : wd D A s.heap cnt ad (rq ad ct t (nI k17e) (-1)) H locs := hw
                      have hcn17e : ¬ (bC b1 n1) k17e = 124 := fun q => hcn17e ⟨rfl, q⟩
                      have hke17e : k17e = e9 := by rw [hk17e]; exact dig_sk hdg9 (by omega)
                      refine lv_if_eq (tgt := 51) hx hb dX7_tests_20 (by decide) (fun c_20 => ?_) (fun c_20 => ?_)
                      · skip
                        refine lv_iload_n hx hb dX7_tests_51 rfl (lv_at hl 1 rfl) ?_
                        subst hQ
                        exact x_zretW E hr hlk (by decide) hw (by decide) (by decide) (⟨_, _, rfl, Or.inl ⟨e25, _, by rw [← hlp]; exact pLp_e hk17 hck17 hR25, by omega, rfl, (by decide), ⟨by omega, Or.inr ⟨rfl, by rw [hke17e, he9], by rw [← he9]; exact hdg9⟩⟩⟩⟩) dX7_tests_52
                      · skip
                        exact absurd c_20 (by decide)
                · skip
                  have c_31 := bB_0.mp c_31
                  refine lv_iload hx hb dX7_tests_34 (lv_at hl 0 rfl) ?_
                  refine lv_if_eq (tgt := 43) hx hb dX7_tests_36 (by decide) (fun c_36 => ?_) (fun c_36 => ?_)
                  · skip
                    refine lv_iconst (v := 0) hx hb dX7_tests_43 (by decide) ?_
                    refine lv_istore_n (lv' := [(2, .int 0), (4, .int y25), (0, .ref (ad 13 0)), (1, .int (nI (8 - r))), (3, .int (nI i))]) hx hb dX7_tests_44 rfl hl (by decide) rfl (fun ls hl => ?_)
                    refine lv_iinc (v := (nI (i + 1))) (lv' := [(3, .int (nI (i + 1))), (2, .int 0), (4, .int y25), (0, .ref (ad 13 0)), (1, .int (nI (8 - r)))]) hx hb dX7_tests_45 hl (k := 4) rfl (nI_1 _) (by decide) rfl (fun ls hl => ?_)
                    refine lv_goto (tgt := 8) hx hb dX7_tests_48 (by decide) ?_
                    refine lv_iload_n hx hb dX7_tests_8 rfl (lv_at hl 0 rfl) ?_
                    refine lv_bipush (v := 100) hx hb dX7_tests_9 (by decide) ?_
                    refine lv_icmp_ge (tgt := 51) hx hb dX7_tests_11 (by decide) (fun c_11x => ?_) (fun c_11x => ?_)
                    · skip
                      skip
                      refine lv_iload_n hx hb dX7_tests_51 rfl (lv_at hl 1 rfl) ?_
                      subst hQ
                      exact x_zretW E hr hlk (by decide) hw (by decide) (by decide) (⟨_, _, rfl, Or.inl ⟨e25, _, by rw [← hlp]; exact pLp_e hk17 hck17 hR25, by omega, rfl, (by decide), ⟨by omega, Or.inr ⟨rfl, by rw [hx9, he9], by rw [← he9]; exact hdg9⟩⟩⟩⟩) dX7_tests_52
                    · skip
                      refine lv_aload_n hx hb dX7_tests_14 rfl (lv_at hl 3 rfl) ?_
                      refine lv_bipush (v := 124) hx hb dX7_tests_15 (by decide) ?_
                      refine x_wrote hw (x_runV (rest := []) E cbX7_take tw_444 (kX7_take l D ca cnt ad ct H.size t n1 b1 vs x25 (-1) 124 hR (by omega) (by decide)) ⟨rfl, rfl, by dsimp only [rmL]; omega, by dsimp only [rmL]; omega⟩ (x_recv E hw cl_7 (h13) (upd2_at _ _ _ _)) (fun _ _ _ _ h => h) (fun U hU _ => by rw [hU]; exact ⟨rfl, hw.1⟩) rfl hl.1 rfl (Nat.le_of_ble_eq_true rfl) dX7_tests_17 ⟨Nat.le_refl _, Nat.le_refl _⟩) (fun rv9 u9 H locs hp9 hw hz9 hk9 => ?_)
                      obtain ⟨k17e, hk17e⟩ : ∃ z, z = pSk (bC b1 n1) n1 x25 := ⟨_, rfl⟩
                      rw [← hk17e] at hp9
                      have hkg17e : x25 ≤ k17e := by rw [hk17e]; exact pSk_ge _ _ _
                      have hkl17e : k17e ≤ n1 := by rw [hk17e]; exact pSk_le (by omega)
                      rcases hp9 with ⟨hcF17e, hck17e, hrv9, hu9⟩ | ⟨hcn17e, hrv9, hu9⟩
                      · skip
                        exact dig_no hdg9 (by omega) hk17e hck17e (by decide)
                      · skip
                        subst hrv9
                        subst hu9
                        have hw : wd D A s.heap cnt ad (rq ad ct t (nI k17e) (-1)) H locs := hw
                        have hcn17e : ¬ (bC b1 n1) k17e = 124 := fun q => hcn17e ⟨rfl, q⟩
                        have hke17e : k17e = e9 := by rw [hk17e]; exact dig_sk hdg9 (by omega)
                        refine lv_if_eq (tgt := 51) hx hb dX7_tests_20 (by decide) (fun c_20 => ?_) (fun c_20 => ?_)
                        · skip
                          refine lv_iload_n hx hb dX7_tests_51 rfl (lv_at hl 1 rfl) ?_
                          subst hQ
                          exact x_zretW E hr hlk (by decide) hw (by decide) (by decide) (⟨_, _, rfl, Or.inl ⟨e25, _, by rw [← hlp]; exact pLp_e hk17 hck17 hR25, by omega, rfl, (by decide), ⟨by omega, Or.inr ⟨rfl, by rw [hke17e, he9], by rw [← he9]; exact hdg9⟩⟩⟩⟩) dX7_tests_52
                        · skip
                          exact absurd c_20 (by decide)
                  · skip
                    refine lv_iconst (v := 1) hx hb dX7_tests_39 (by decide) ?_
                    refine lv_goto (tgt := 44) hx hb dX7_tests_40 (by decide) ?_
                    refine lv_istore_n (lv' := [(2, .int 1), (4, .int y25), (0, .ref (ad 13 0)), (1, .int (nI (8 - r))), (3, .int (nI i))]) hx hb dX7_tests_44 rfl hl (by decide) rfl (fun ls hl => ?_)
                    refine lv_iinc (v := (nI (i + 1))) (lv' := [(3, .int (nI (i + 1))), (2, .int 1), (4, .int y25), (0, .ref (ad 13 0)), (1, .int (nI (8 - r)))]) hx hb dX7_tests_45 hl (k := 4) rfl (nI_1 _) (by decide) rfl (fun ls hl => ?_)
                    refine lv_goto (tgt := 8) hx hb dX7_tests_48 (by decide) ?_
                    refine lv_iload_n hx hb dX7_tests_8 rfl (lv_at hl 0 rfl) ?_
                    refine lv_bipush (v := 100) hx hb dX7_tests_9 (by decide) ?_
                    refine lv_icmp_ge (tgt := 51) hx hb dX7_tests_11 (by decide) (fun c_11x => ?_) (fun c_11x => ?_)
                    · skip
                      skip
                      refine lv_iload_n hx hb dX7_tests_51 rfl (lv_at hl 1 rfl) ?_
                      subst hQ
                      exact x_zretW E hr hlk (by decide) hw (by decide) (by decide) (⟨_, _, rfl, Or.inl ⟨e25, _, by rw [← hlp]; exact pLp_e hk17 hck17 hR25, by omega, rfl, (by decide), ⟨by omega, Or.inr ⟨rfl, by rw [hx9, he9], by rw [← he9]; exact hdg9⟩⟩⟩⟩) dX7_tests_52
                    · skip
                      refine lv_aload_n hx hb dX7_tests_14 rfl (lv_at hl 3 rfl) ?_
                      refine lv_bipush (v := 124) hx hb dX7_tests_15 (by decide) ?_
                      refine x_wrote hw (x_runV (rest := []) E cbX7_take tw_444 (kX7_take l D ca cnt ad ct H.size t n1 b1 vs x25 (-1) 124 hR (by omega) (by decide)) ⟨rfl, rfl, by dsimp only [rmL]; omega, by dsimp only [rmL]; omega⟩ (x_recv E hw cl_7 (h13) (upd2_at _ _ _ _)) (fun _ _ _ _ h => h) (fun U hU _ => by rw [hU]; exact ⟨rfl, hw.1⟩) rfl hl.1 rfl (Nat.le_of_ble_eq_true rfl) dX7_tests_17 ⟨Nat.le_refl _, Nat.le_refl _⟩) (fun rv9 u9 H locs hp9 hw hz9 hk9 => ?_)
                      obtain ⟨k17e, hk17e⟩ : ∃ z, z = pSk (bC b1 n1) n1 x25 := ⟨_, rfl⟩
                      rw [← hk17e] at hp9
                      have hkg17e : x25 ≤ k17e := by rw [hk17e]; exact pSk_ge _ _ _
                      have hkl17e : k17e ≤ n1 := by rw [hk17e]; exact pSk_le (by omega)
                      rcases hp9 with ⟨hcF17e, hck17e, hrv9, hu9⟩ | ⟨hcn17e, hrv9, hu9⟩
                      · skip
                        exact dig_no hdg9 (by omega) hk17e hck17e (by decide)
                      · skip
                        subst hrv9
                        subst hu9
                        have hw : wd D A s.heap cnt ad (rq ad ct t (nI k17e) (-1)) H locs := hw
                        have hcn17e : ¬ (bC b1 n1) k17e = 124 := fun q => hcn17e ⟨rfl, q⟩
                        have hke17e : k17e = e9 := by rw [hk17e]; exact dig_sk hdg9 (by omega)
                        refine lv_if_eq (tgt := 51) hx hb dX7_tests_20 (by decide) (fun c_20 => ?_) (fun c_20 => ?_)
                        · skip
                          refine lv_iload_n hx hb dX7_tests_51 rfl (lv_at hl 1 rfl) ?_
                          subst hQ
                          exact x_zretW E hr hlk (by decide) hw (by decide) (by decide) (⟨_, _, rfl, Or.inl ⟨e25, _, by rw [← hlp]; exact pLp_e hk17 hck17 hR25, by omega, rfl, (by decide), ⟨by omega, Or.inr ⟨rfl, by rw [hke17e, he9], by rw [← he9]; exact hdg9⟩⟩⟩⟩) dX7_tests_52
                        · skip
                          exact absurd c_20 (by decide)
              · skip
                subst hrv9
                subst hf9
                have hw : wd D A s.heap cnt ad (rq ad ct t (nI x25) (-1)) H locs := hw
                refine lv_istore (lv' := [(4, .int (bB (rB vs L25))), (0, .ref (ad 13 0)), (1, .int (nI (8 - r))), (2, .int (bB (rB vs L))), (3, .int (nI i))]) hx hb dX7_tests_28 hl (by decide) rfl (fun ls hl => ?_)
                refine lv_iload_n hx hb dX7_tests_30 rfl (lv_at hl 3 rfl) ?_
                refine lv_if_ne (tgt := 39) hx hb dX7_tests_31 (by decide) (fun c_31 => ?_) (fun c_31 => ?_)
                · skip
                  have c_31 := bB_n0.mp c_31
                  refine lv_iconst (v := 1) hx hb dX7_tests_39 (by decide) ?_
                  refine lv_goto (tgt := 44) hx hb dX7_tests_40 (by decide) ?_
                  refine x_top (x := 1) (y := (bB (rB vs (L ++ L25 ++ [2])))) (by rw [(wf_op (Or.inr rfl) hwf hwf25).2 vs]; simp [rOp, bB, c_11, c_31]) ?_
                  refine lv_istore_n (lv' := [(2, .int (bB (rB vs (L ++ L25 ++ [2])))), (4, .int (bB (rB vs L25))), (0, .ref (ad 13 0)), (1, .int (nI (8 - r))), (3, .int (nI i))]) hx hb dX7_tests_44 rfl hl (by decide) rfl (fun ls hl => ?_)
                  refine lv_iinc (v := (nI (i + 1))) (lv' := [(3, .int (nI (i + 1))), (2, .int (bB (rB vs (L ++ L25 ++ [2])))), (4, .int (bB (rB vs L25))), (0, .ref (ad 13 0)), (1, .int (nI (8 - r)))]) hx hb dX7_tests_45 hl (k := 4) rfl (nI_1 _) (by decide) rfl (fun ls hl => ?_)
                  refine lv_goto (tgt := 8) hx hb dX7_tests_48 (by decide) ?_
                  exact ih8 x25 (L ++ L25 ++ [2]) (i + 1) (by omega) (hxt25) (by omega) ((wf_op (Or.inr rfl) hwf hwf25).1) (by rw [← hlp]; exact (pLp_s hk17 hck17 hR25).symm) (by omega) _ _ (hw) ls (lv_sub hl [3, 4, 1, 0] (rfl))
                · skip
                  have c_31 := bB_0.mp c_31
                  refine lv_iload hx hb dX7_tests_34 (lv_at hl 0 rfl) ?_
                  refine lv_if_eq (tgt := 43) hx hb dX7_tests_36 (by decide) (fun c_36 => ?_) (fun c_36 => ?_)
                  · skip
                    have c_36 := bB_0.mp c_36
                    refine lv_iconst (v := 0) hx hb dX7_tests_43 (by decide) ?_
                    refine x_top (x := 0) (y := (bB (rB vs (L ++ L25 ++ [2])))) (by rw [(wf_op (Or.inr rfl) hwf hwf25).2 vs]; simp [rOp, bB, c_11, c_31, c_36]) ?_
                    refine lv_istore_n (lv' := [(2, .int (bB (rB vs (L ++ L25 ++ [2])))), (4, .int (bB (rB vs L25))), (0, .ref (ad 13 0)), (1, .int (nI (8 - r))), (3, .int (nI i))]) hx hb dX7_tests_44 rfl hl (by decide) rfl (fun ls hl => ?_)
                    refine lv_iinc (v := (nI (i + 1))) (lv' := [(3, .int (nI (i + 1))), (2, .int (bB (rB vs (L ++ L25 ++ [2])))), (4, .int (bB (rB vs L25))), (0, .ref (ad 13 0)), (1, .int (nI (8 - r)))]) hx hb dX7_tests_45 hl (k := 4) rfl (nI_1 _) (by decide) rfl (fun ls hl => ?_)
                    refine lv_goto (tgt := 8) hx hb dX7_tests_48 (by decide) ?_
                    exact ih8 x25 (L ++ L25 ++ [2]) (i + 1) (by omega) (hxt25) (by omega) ((wf_op (Or.inr rfl) hwf hwf25).1) (by rw [← hlp]; exact (pLp_s hk17 hck17 hR25).symm) (by omega) _ _ (hw) ls (lv_sub hl [3, 4, 1, 0] (rfl))
                  · skip
                    have c_36 := bB_n0.mp c_36
                    refine lv_iconst (v := 1) hx hb dX7_tests_39 (by decide) ?_
                    refine lv_goto (tgt := 44) hx hb dX7_tests_40 (by decide) ?_
                    refine x_top (x := 1) (y := (bB (rB vs (L ++ L25 ++ [2])))) (by rw [(wf_op (Or.inr rfl) hwf hwf25).2 vs]; simp [rOp, bB, c_11, c_31, c_36]) ?_
                    refine lv_istore_n (lv' := [(2, .int (bB (rB vs (L ++ L25 ++ [2])))), (4, .int (bB (rB vs L25))), (0, .ref (ad 13 0)), (1, .int (nI (8 - r))), (3, .int (nI i))]) hx hb dX7_tests_44 rfl hl (by decide) rfl (fun ls hl => ?_)
                    refine lv_iinc (v := (nI (i + 1))) (lv' := [(3, .int (nI (i + 1))), (2, .int (bB (rB vs (L ++ L25 ++ [2])))), (4, .int (bB (rB vs L25))), (0, .ref (ad 13 0)), (1, .int (nI (8 - r)))]) hx hb dX7_tests_45 hl (k := 4) rfl (nI_1 _) (by decide) rfl (fun ls hl => ?_)
                    refine lv_goto (tgt := 8) hx hb dX7_tests_48 (by decide) ?_
                    exact ih8 x25 (L ++ L25 ++ [2]) (i + 1) (by omega) (hxt25) (by omega) ((wf_op (Or.inr rfl) hwf hwf25).1) (by rw [← hlp]; exact (pLp_s hk17 hck17 hR25).symm) (by omega) _ _ (hw) ls (lv_sub hl [3, 4, 1, 0] (rfl))
          · skip
            subst hrv9
            subst hu9
            have hw : wd D A s.heap cnt ad (rq ad ct t (nI k17) (-1)) H locs := hw
            have hcn17 : ¬ (bC b1 n1) k17 = 124 := fun q => hcn17 ⟨rfl, q⟩
            refine lv_if_eq (tgt := 51) hx hb dX7_tests_20 (by decide) (fun c_20 => ?_) (fun c_20 => ?_)
            · skip
              refine lv_iload_n hx hb dX7_tests_51 rfl (lv_at hl 2 rfl) ?_
              subst hQ
              exact x_zretW E hr hlk (bB_or _) hw (by decide) (by decide) (⟨_, _, rfl, Or.inr ⟨L, by rw [← hlp]; exact pLp_n hk17 hcn17, by omega, by omega, hwf, rfl, rfl⟩⟩) dX7_tests_52
            · skip
              exact absurd c_20 (by decide)
    exact lp8 (n1 + 1) x2 L2 0 (hab2) (hxt2) (Nat.zero_le _) (hwf2) (pSeq_k hR2) (by omega) _ _ (hw) ls (lv_sub hl [2, 3, 1, 0] (rfl))
theorem KC_all (l : Launch) (D : va_G) (ca : Nat → ClassId) : ∀ r, KC l D ca r
  | 0 => fun cnt ad ct z9 t n1 b1 vs a h1 h2 h3 => kX7_tests l D ca cnt ad ct z9 t n1 b1 vs a 0 h1 h2 h3 (fun r1 h => absurd h (by omega))
  | r + 1 => fun cnt ad ct z9 t n1 b1 vs a h1 h2 h3 => kX7_tests l D ca cnt ad ct z9 t n1 b1 vs a (r + 1) h1 h2 h3 (fun r1 h => Nat.succ.inj h ▸ KC_all l D ca r)
set_option maxHeartbeats 4000000 in
set_option maxRecDepth 100000 in
theorem kX7_holds (l : Launch) (D : va_G) (ca : Nat → ClassId) (cnt : Nat → Nat) (ad : Nat → Nat → Nat) (ct : Nat → Nat → va_E) (z9 : Nat) (t : Nat) (n1 : Nat) (b1 : Nat → Int32) (vs : Nat → Int32) (t0 : Nat) (x28 : Int32) (x29 : Int32) (hR : rdOK ca cnt ad ct t n1 b1 vs) : Met l yX7_holds (wz yX7_holds cX7_holds 3 (some .boolean)) (rmL 33 0 0) (va_Pc [.ref (ad 13 0), .ref (ad 11 t)] (fun U => (U.heap.size = z9 ∧ wq D cnt ad (rq ad ct t0 x28 x29) U.heap ∧ lets (wA cnt ad z9) U) ∧ gK D ca U)) (QcW D (wA cnt ad z9) (fun rv u => (∃ e, pTop (bC b1 n1) n1 = .inl e ∧ e ≤ n1 ∧ rv = some (.int 0) ∧ ∃ x9, u = (cnt, ad, rq ad ct t x9 (nI e))) ∨ ∃ a2 L, pTop (bC b1 n1) n1 = .inr (a2, L) ∧ wfL L ∧ rv = some (.int (bB (rB vs L))) ∧ u = (cnt, ad, rq ad ct t (nI a2) (-1)))) 0 0 (wA cnt ad z9) := by
  refine x_met (by decide) (Nat.le_of_ble_eq_true rfl) ?_
  intro p e s m below meth c E hr hlk hnm hq ls hl
  obtain ⟨hsz9, hq, hLt⟩ := hq
  subst hsz9
  generalize hav : ([.ref (ad 13 0), .ref (ad 11 t)] : List Value).toArray = args at E ⊢
  have hx := E.1
  have hb := E.2.1
  have hown := E.2.2.2.1
  have hts := E.2.2.2.2.1
  have hw : wd D (wA cnt ad s.heap.size) s.heap cnt ad (rq ad ct t0 x28 x29) s.heap [] := wd.start hq
  generalize hQ : MQ below (QcW D (wA cnt ad s.heap.size) (fun rv u => (∃ e, pTop (bC b1 n1) n1 = .inl e ∧ e ≤ n1 ∧ rv = some (.int 0) ∧ ∃ x9, u = (cnt, ad, rq ad ct t x9 (nI e))) ∨ ∃ a2 L, pTop (bC b1 n1) n1 = .inr (a2, L) ∧ wfL L ∧ rv = some (.int (bB (rB vs L))) ∧ u = (cnt, ad, rq ad ct t (nI a2) (-1)))) args s 0 0 (wA cnt ad s.heap.size) = Q
  generalize hA9 : wA cnt ad s.heap.size = A at hw hQ hLt
  have hl : lv_has ls 3 [(0, .ref (ad 13 0)), (1, .ref (ad 11 t))] := hl
  obtain ⟨tL, hLz, hLT⟩ := id hLt
  obtain ⟨h13, h11, htc, h12, hbc, hn1, h14, hvc⟩ := id hR
  suffices hgo : ∀ (H : Heap) (locs : List Loc), wd D A s.heap cnt ad (rq ad ct t0 x28 x29) H locs → W p l e (rmL 33 0 0) s m args below meth c H locs 0 0 Q (F0 m 0 ls []) from hgo _ _ hw
  clear hw
  intro H locs hw
  refine lv_aload_n hx hb dX7_holds_0 rfl (lv_at hl 0 rfl) ?_
  refine lv_aload_n hx hb dX7_holds_1 rfl (lv_at hl 1 rfl) ?_
  refine x_put E hw 13 0 (h13) (upd2_at _ _ _ _) cl_7 ly_7 tyX7 tyX7_ok nmX7 1 (by decide) tw_54 (Or.inl rfl) (by rfl) (by rfl) (Nat.le_of_ble_eq_true rfl) dX7_holds_2 (fun H locs hw => ?_)
  rw [rq_1] at hw
  refine lv_aload_n hx hb dX7_holds_5 rfl (lv_at hl 0 rfl) ?_
  refine lv_iconst (v := 0) hx hb dX7_holds_6 (by decide) ?_
  refine x_put E hw 13 0 (h13) (upd2_at _ _ _ _) cl_7 ly_7 tyX7 tyX7_ok nmX7 2 (by decide) tw_55 (Or.inl rfl) (by rfl) (by rfl) (Nat.le_of_ble_eq_true rfl) dX7_holds_7 (fun H locs hw => ?_)
  rw [rq_2] at hw
  refine lv_aload_n hx hb dX7_holds_10 rfl (lv_at hl 0 rfl) ?_
  refine lv_iconst (v := (-1)) hx hb dX7_holds_11 (by decide) ?_
  refine x_put E hw 13 0 (h13) (upd2_at _ _ _ _) cl_7 ly_7 tyX7 tyX7_ok nmX7 3 (by decide) tw_56 (Or.inl rfl) (by rfl) (by rfl) (Nat.le_of_ble_eq_true rfl) dX7_holds_12 (fun H locs hw => ?_)
  rw [rq_3] at hw
  have hw : wd D A s.heap cnt ad (rq ad ct t (nI 0) (-1)) H locs := hw
  refine lv_aload_n hx hb dX7_holds_15 rfl (lv_at hl 0 rfl) ?_
  refine lv_iconst (v := 0) hx hb dX7_holds_16 (by decide) ?_
  refine x_wrote hw (x_runV (rest := []) E cbX7_tests tw_412 (KC_all l D ca 8 cnt ad ct H.size t n1 b1 vs 0 hR (Nat.zero_le _) (Nat.le_refl _)) ⟨rfl, rfl, by decide, by decide⟩ (x_recv E hw cl_7 (h13) (upd2_at _ _ _ _)) (fun U g9 mk9 a9 h => ⟨h.1, h.2.1, lets_blind h.2.2⟩) (fun U hU hW9 => ⟨by rw [hU], by rw [hU]; exact hw.1, lets_call hLt hw hU hW9⟩) rfl hl.1 rfl (Nat.le_of_ble_eq_true rfl) dX7_holds_17 ⟨by decide, by decide⟩) (fun rv9 u9 H locs hp9 hw hz9 hk9 => ?_)
  obtain ⟨x17, f17q, hu9, hp9⟩ := hp9
  subst hu9
  rcases hp9 with ⟨e17, y17, hR17, he17, hrv9, hy17, hx17, hf9 | ⟨hf9, hx9, hdg9⟩⟩ | ⟨L17, hR17, hab17, hxt17, hwf17, hrv9, hf9⟩
  · skip
    subst hrv9
    subst hf9
    have hw : wd D A s.heap cnt ad (rq ad ct t (nI x17) (nI e17)) H locs := hw
    refine lv_istore_n (lv' := [(2, .int y17), (0, .ref (ad 13 0)), (1, .ref (ad 11 t))]) hx hb dX7_holds_20 rfl hl (by decide) rfl (fun ls hl => ?_)
    refine lv_aload_n hx hb dX7_holds_21 rfl (lv_at hl 1 rfl) ?_
    refine x_wrote hw (x_runV (rest := []) E cbX7_next tw_424 (kX7_next l D ca cnt ad ct H.size t n1 b1 vs x17 (nI e17) hR (by omega)) ⟨rfl, rfl, by decide, by decide⟩ (x_recv E hw cl_7 (h13) (upd2_at _ _ _ _)) (fun _ _ _ _ h => h) (fun U hU _ => by rw [hU]; exact ⟨rfl, hw.1⟩) rfl hl.1 rfl (Nat.le_of_ble_eq_true rfl) dX7_holds_22 ⟨by decide, by decide⟩) (fun rv9 u9 H locs hp9 hw hz9 hk9 => ?_)
    obtain ⟨k22e, hk22e⟩ : ∃ z, z = pSk (bC b1 n1) n1 x17 := ⟨_, rfl⟩
    rw [← hk22e] at hp9
    have hkg22e : x17 ≤ k22e := by rw [hk22e]; exact pSk_ge _ _ _
    have hkl22e : k22e ≤ n1 := by rw [hk22e]; exact pSk_le (by omega)
    obtain ⟨hrv9, hu9⟩ := hp9
    rw [if_neg (nI_nn (by omega))] at hrv9
    subst hrv9
    subst hu9
    have hw : wd D A s.heap cnt ad (rq ad ct t (nI k22e) (nI e17)) H locs := hw
    refine lv_iconst (v := (-1)) hx hb dX7_holds_25 (by decide) ?_
    refine lv_icmp_eq (tgt := 33) hx hb dX7_holds_26 (by decide) (fun c_26 => ?_) (fun c_26 => ?_)
    · skip
      refine lv_iload_n hx hb dX7_holds_33 rfl (lv_at hl 0 rfl) ?_
      refine lv_if_eq (tgt := 49) hx hb dX7_holds_34 (by decide) (fun c_34 => ?_) (fun c_34 => ?_)
      · skip
        refine lv_iconst (v := 0) hx hb dX7_holds_49 (by decide) ?_
        subst hQ
        exact x_zretW E hr hlk (by decide) hw (by decide) (by decide) (Or.inl ⟨e17, pTop_e hR17, by omega, rfl, _, rfl⟩) dX7_holds_50
      · skip
        refine lv_aload_n hx hb dX7_holds_37 rfl (lv_at hl 1 rfl) ?_
        refine x_get E hw 13 0 (h13) (upd2_at _ _ _ _) cl_7 ly_7 3 (by decide) tw_56 rfl dX7_holds_38 ?_
        refine lv_iconst (v := (-1)) hx hb dX7_holds_41 (by decide) ?_
        refine lv_icmp_ne (tgt := 49) hx hb dX7_holds_42 (by decide) (fun c_42 => ?_) (fun c_42 => ?_)
        · skip
          refine lv_iconst (v := 0) hx hb dX7_holds_49 (by decide) ?_
          subst hQ
          exact x_zretW E hr hlk (by decide) hw (by decide) (by decide) (Or.inl ⟨e17, pTop_e hR17, by omega, rfl, _, rfl⟩) dX7_holds_50
        · skip
          exact absurd c_42 (nI_nn (by omega))
    · skip
      exact absurd c_26 (by decide)
  · skip
    subst hrv9
    subst hf9
    obtain ⟨e9, he9⟩ : ∃ z, z = e17 := ⟨_, rfl⟩
    rw [← he9] at hdg9 hx9
    have hw : wd D A s.heap cnt ad (rq ad ct t (nI x17) (-1)) H locs := hw
    refine lv_istore_n (lv' := [(2, .int y17), (0, .ref (ad 13 0)), (1, .ref (ad 11 t))]) hx hb dX7_holds_20 rfl hl (by decide) rfl (fun ls hl => ?_)
    refine lv_aload_n hx hb dX7_holds_21 rfl (lv_at hl 1 rfl) ?_
    refine x_wrote hw (x_runV (rest := []) E cbX7_next tw_424 (kX7_next l D ca cnt ad ct H.size t n1 b1 vs x17 (-1) hR (by omega)) ⟨rfl, rfl, by decide, by decide⟩ (x_recv E hw cl_7 (h13) (upd2_at _ _ _ _)) (fun _ _ _ _ h => h) (fun U hU _ => by rw [hU]; exact ⟨rfl, hw.1⟩) rfl hl.1 rfl (Nat.le_of_ble_eq_true rfl) dX7_holds_22 ⟨by decide, by decide⟩) (fun rv9 u9 H locs hp9 hw hz9 hk9 => ?_)
    obtain ⟨k22e, hk22e⟩ : ∃ z, z = pSk (bC b1 n1) n1 x17 := ⟨_, rfl⟩
    rw [← hk22e] at hp9
    have hkg22e : x17 ≤ k22e := by rw [hk22e]; exact pSk_ge _ _ _
    have hkl22e : k22e ≤ n1 := by rw [hk22e]; exact pSk_le (by omega)
    obtain ⟨hrv9, hu9⟩ := hp9
    rw [if_pos rfl] at hrv9
    subst hrv9
    subst hu9
    have hw : wd D A s.heap cnt ad (rq ad ct t (nI k22e) (-1)) H locs := hw
    refine lv_iconst (v := (-1)) hx hb dX7_holds_25 (by decide) ?_
    refine lv_icmp_eq (tgt := 33) hx hb dX7_holds_26 (by decide) (fun c_26 => ?_) (fun c_26 => ?_)
    · skip
      exact dig_no hdg9 (by omega) hk22e c_26 (by decide)
    · skip
      refine lv_aload_n hx hb dX7_holds_29 rfl (lv_at hl 1 rfl) ?_
      refine x_wrote hw (x_runV (rest := []) E cbX7_fail tw_440 (kX7_fail l D ca cnt ad ct H.size t n1 b1 vs (nI k22e) (-1) hR) ⟨rfl, rfl, by decide, by decide⟩ (x_recv E hw cl_7 (h13) (upd2_at _ _ _ _)) (fun _ _ _ _ h => h) (fun U hU _ => by rw [hU]; exact ⟨rfl, hw.1⟩) rfl hl.1 rfl (Nat.le_of_ble_eq_true rfl) dX7_holds_30 ⟨by decide, by decide⟩) (fun rv9 u9 H locs hp9 hw hz9 hk9 => ?_)
      obtain ⟨hrv9, hu9⟩ := hp9
      rw [if_pos rfl] at hu9
      subst hrv9
      subst hu9
      have hw : wd D A s.heap cnt ad (rq ad ct t (nI k22e) (nI k22e)) H locs := hw
      refine lv_iload_n hx hb dX7_holds_33 rfl (lv_at hl 0 rfl) ?_
      refine lv_if_eq (tgt := 49) hx hb dX7_holds_34 (by decide) (fun c_34 => ?_) (fun c_34 => ?_)
      · skip
        refine lv_iconst (v := 0) hx hb dX7_holds_49 (by decide) ?_
        subst hQ
        exact x_zretW E hr hlk (by decide) hw (by decide) (by decide) (Or.inl ⟨e17, pTop_e hR17, by omega, rfl, nI e17, by rw [show k22e = e17 from by rw [hk22e]; exact (dig_sk hdg9 (by omega)).trans he9]⟩) dX7_holds_50
      · skip
        refine lv_aload_n hx hb dX7_holds_37 rfl (lv_at hl 1 rfl) ?_
        refine x_get E hw 13 0 (h13) (upd2_at _ _ _ _) cl_7 ly_7 3 (by decide) tw_56 rfl dX7_holds_38 ?_
        refine lv_iconst (v := (-1)) hx hb dX7_holds_41 (by decide) ?_
        refine lv_icmp_ne (tgt := 49) hx hb dX7_holds_42 (by decide) (fun c_42 => ?_) (fun c_42 => ?_)
        · skip
          refine lv_iconst (v := 0) hx hb dX7_holds_49 (by decide) ?_
          subst hQ
          exact x_zretW E hr hlk (by decide) hw (by decide) (by decide) (Or.inl ⟨e17, pTop_e hR17, by omega, rfl, nI e17, by rw [show k22e = e17 from by rw [hk22e]; exact (dig_sk hdg9 (by omega)).trans he9]⟩) dX7_holds_50
        · skip
          exact absurd c_42 (nI_nn (by omega))
  · skip
    subst hrv9
    subst hf9
    have hw : wd D A s.heap cnt ad (rq ad ct t (nI x17) (-1)) H locs := hw
    refine lv_istore_n (lv' := [(2, .int (bB (rB vs L17))), (0, .ref (ad 13 0)), (1, .ref (ad 11 t))]) hx hb dX7_holds_20 rfl hl (by decide) rfl (fun ls hl => ?_)
    refine lv_aload_n hx hb dX7_holds_21 rfl (lv_at hl 1 rfl) ?_
    refine x_wrote hw (x_runV (rest := []) E cbX7_next tw_424 (kX7_next l D ca cnt ad ct H.size t n1 b1 vs x17 (-1) hR (by omega)) ⟨rfl, rfl, by decide, by decide⟩ (x_recv E hw cl_7 (h13) (upd2_at _ _ _ _)) (fun _ _ _ _ h => h) (fun U hU _ => by rw [hU]; exact ⟨rfl, hw.1⟩) rfl hl.1 rfl (Nat.le_of_ble_eq_true rfl) dX7_holds_22 ⟨by decide, by decide⟩) (fun rv9 u9 H locs hp9 hw hz9 hk9 => ?_)
    obtain ⟨k22, hk22⟩ : ∃ z, z = pSk (bC b1 n1) n1 x17 := ⟨_, rfl⟩
    rw [← hk22] at hp9
    have hkg22 : x17 ≤ k22 := by rw [hk22]; exact pSk_ge _ _ _
    have hkl22 : k22 ≤ n1 := by rw [hk22]; exact pSk_le (by omega)
    obtain ⟨hrv9, hu9⟩ := hp9
    rw [if_pos rfl] at hrv9
    subst hrv9
    subst hu9
    have hw : wd D A s.heap cnt ad (rq ad ct t (nI k22) (-1)) H locs := hw
    refine lv_iconst (v := (-1)) hx hb dX7_holds_25 (by decide) ?_
    refine lv_icmp_eq (tgt := 33) hx hb dX7_holds_26 (by decide) (fun c_26 => ?_) (fun c_26 => ?_)
    · skip
      refine lv_iload_n hx hb dX7_holds_33 rfl (lv_at hl 0 rfl) ?_
      refine lv_if_eq (tgt := 49) hx hb dX7_holds_34 (by decide) (fun c_34 => ?_) (fun c_34 => ?_)
      · skip
        have c_34 := bB_0.mp c_34
        refine lv_iconst (v := 0) hx hb dX7_holds_49 (by decide) ?_
        subst hQ
        exact x_zretW E hr hlk (by decide) hw (by decide) (by decide) (Or.inr ⟨k22, L17, pTop_k hR17 hk22 c_26, hwf17, by simp [bB, c_26, c_34], rfl⟩) dX7_holds_50
      · skip
        have c_34 := bB_n0.mp c_34
        refine lv_aload_n hx hb dX7_holds_37 rfl (lv_at hl 1 rfl) ?_
        refine x_get E hw 13 0 (h13) (upd2_at _ _ _ _) cl_7 ly_7 3 (by decide) tw_56 rfl dX7_holds_38 ?_
        refine lv_iconst (v := (-1)) hx hb dX7_holds_41 (by decide) ?_
        refine lv_icmp_ne (tgt := 49) hx hb dX7_holds_42 (by decide) (fun c_42 => ?_) (fun c_42 => ?_)
        · skip
          exact absurd c_42 (by decide)
        · skip
          refine lv_iconst (v := 1) hx hb dX7_holds_45 (by decide) ?_
          refine lv_goto (tgt := 50) hx hb dX7_holds_46 (by decide) ?_
          subst hQ
          exact x_zretW E hr hlk (by decide) hw (by decide) (by decide) (Or.inr ⟨k22, L17, pTop_k hR17 hk22 c_26, hwf17, by simp [bB, c_26, c_34], rfl⟩) dX7_holds_50
    · skip
      refine lv_aload_n hx hb dX7_holds_29 rfl (lv_at hl 1 rfl) ?_
      refine x_wrote hw (x_runV (rest := []) E cbX7_fail tw_440 (kX7_fail l D ca cnt ad ct H.size t n1 b1 vs (nI k22) (-1) hR) ⟨rfl, rfl, by decide, by decide⟩ (x_recv E hw cl_7 (h13) (upd2_at _ _ _ _)) (fun _ _ _ _ h => h) (fun U hU _ => by rw [hU]; exact ⟨rfl, hw.1⟩) rfl hl.1 rfl (Nat.le_of_ble_eq_true rfl) dX7_holds_30 ⟨by decide, by decide⟩) (fun rv9 u9 H locs hp9 hw hz9 hk9 => ?_)
      obtain ⟨hrv9, hu9⟩ := hp9
      rw [if_pos rfl] at hu9
      subst hrv9
      subst hu9
      have hw : wd D A s.heap cnt ad (rq ad ct t (nI k22) (nI k22)) H locs := hw
      refine lv_iload_n hx hb dX7_holds_33 rfl (lv_at hl 0 rfl) ?_
      refine lv_if_eq (tgt := 49) hx hb dX7_holds_34 (by decide) (fun c_34 => ?_) (fun c_34 => ?_)
      · skip
        have c_34 := bB_0.mp c_34
        refine lv_iconst (v := 0) hx hb dX7_holds_49 (by decide) ?_
        subst hQ
        exact x_zretW E hr hlk (by decide) hw (by decide) (by decide) (Or.inl ⟨k22, pTop_f hR17 hk22 c_26, by omega, rfl, _, rfl⟩) dX7_holds_50
      · skip
        have c_34 := bB_n0.mp c_34
        refine lv_aload_n hx hb dX7_holds_37 rfl (lv_at hl 1 rfl) ?_
        refine x_get E hw 13 0 (h13) (upd2_at _ _ _ _) cl_7 ly_7 3 (by decide) tw_56 rfl dX7_holds_38 ?_
        refine lv_iconst (v := (-1)) hx hb dX7_holds_41 (by decide) ?_
        refine lv_icmp_ne (tgt := 49) hx hb dX7_holds_42 (by decide) (fun c_42 => ?_) (fun c_42 => ?_)
        · skip
          refine lv_iconst (v := 0) hx hb dX7_holds_49 (by decide) ?_
          subst hQ
          exact x_zretW E hr hlk (by decide) hw (by decide) (by decide) (Or.inl ⟨k22, pTop_f hR17 hk22 c_26, by omega, rfl, _, rfl⟩) dX7_holds_50
        · skip
          exact absurd c_42 (nI_nn (by omega))
set_option maxHeartbeats 4000000 in
set_option maxRecDepth 100000 in
theorem kX7_faultOf (l : Launch) (D : va_G) (ca : Nat → ClassId) (cnt : Nat → Nat) (ad : Nat → Nat → Nat) (ct : Nat → Nat → va_E) (z9 : Nat) (t : Nat) (n1 : Nat) (b1 : Nat → Int32) (vs : Nat → Int32) (t0 : Nat) (x28 : Int32) (x29 : Int32) (hR : rdOK ca cnt ad ct t n1 b1 vs) : Met l yX7_faultOf (wz yX7_faultOf cX7_faultOf 2 (some .int)) (rmL 34 0 0) (va_Pc [.ref (ad 13 0), .ref (ad 11 t)] (fun U => (U.heap.size = z9 ∧ wq D cnt ad (rq ad ct t0 x28 x29) U.heap ∧ lets (wA cnt ad z9) U) ∧ gK D ca U)) (QcW D (wA cnt ad z9) (fun rv u => ∃ x9 f9, u = (cnt, ad, rq ad ct t x9 f9) ∧ ((∃ e, pTop (bC b1 n1) n1 = .inl e ∧ e ≤ n1 ∧ rv = some (.int (nI e))) ∨ ∃ a2 L, pTop (bC b1 n1) n1 = .inr (a2, L) ∧ rv = some (.int (-1))))) 0 0 (wA cnt ad z9) := by
  refine x_met (by decide) (Nat.le_of_ble_eq_true rfl) ?_
  intro p e s m below meth c E hr hlk hnm hq ls hl
  obtain ⟨hsz9, hq, hLt⟩ := hq
  subst hsz9
  generalize hav : ([.ref (ad 13 0), .ref (ad 11 t)] : List Value).toArray = args at E ⊢
  have hx := E.1
  have hb := E.2.1
  have hown := E.2.2.2.1
  have hts := E.2.2.2.2.1
  have hw : wd D (wA cnt ad s.heap.size) s.heap cnt ad (rq ad ct t0 x28 x29) s.heap [] := wd.start hq
  generalize hQ : MQ below (QcW D (wA cnt ad s.heap.size) (fun rv u => ∃ x9 f9, u = (cnt, ad, rq ad ct t x9 f9) ∧ ((∃ e, pTop (bC b1 n1) n1 = .inl e ∧ e ≤ n1 ∧ rv = some (.int (nI e))) ∨ ∃ a2 L, pTop (bC b1 n1) n1 = .inr (a2, L) ∧ rv = some (.int (-1))))) args s 0 0 (wA cnt ad s.heap.size) = Q
  generalize hA9 : wA cnt ad s.heap.size = A at hw hQ hLt
  have hl : lv_has ls 2 [(0, .ref (ad 13 0)), (1, .ref (ad 11 t))] := hl
  obtain ⟨tL, hLz, hLT⟩ := id hLt
  obtain ⟨h13, h11, htc, h12, hbc, hn1, h14, hvc⟩ := id hR
  suffices hgo : ∀ (H : Heap) (locs : List Loc), wd D A s.heap cnt ad (rq ad ct t0 x28 x29) H locs → W p l e (rmL 34 0 0) s m args below meth c H locs 0 0 Q (F0 m 0 ls []) from hgo _ _ hw
  clear hw
  intro H locs hw
  refine lv_aload_n hx hb dX7_faultOf_0 rfl (lv_at hl 0 rfl) ?_
  refine lv_aload_n hx hb dX7_faultOf_1 rfl (lv_at hl 1 rfl) ?_
  refine x_wrote hw (x_runV (rest := []) E cbX7_holds tw_408 (kX7_holds l D ca cnt ad ct H.size t n1 b1 vs t0 x28 x29 hR) ⟨rfl, rfl, by decide, by decide⟩ (x_recv E hw cl_7 (h13) (upd2_at _ _ _ _)) (fun U g9 mk9 a9 h => ⟨h.1, h.2.1, lets_blind h.2.2⟩) (fun U hU hW9 => ⟨by rw [hU], by rw [hU]; exact hw.1, lets_call hLt hw hU hW9⟩) rfl hl.1 rfl (Nat.le_of_ble_eq_true rfl) dX7_faultOf_2 ⟨by decide, by decide⟩) (fun rv9 u9 H locs hp9 hw hz9 hk9 => ?_)
  rcases hp9 with ⟨e9, hR9, he9, hrv9, x9, hu9⟩ | ⟨a9, L9, hR9, hwf9, hrv9, hu9⟩
  · skip
    subst hrv9
    subst hu9
    have hw : wd D A s.heap cnt ad (rq ad ct t x9 (nI e9)) H locs := hw
    refine lv_pop hx hb dX7_faultOf_5 rfl ?_
    refine lv_aload_n hx hb dX7_faultOf_6 rfl (lv_at hl 0 rfl) ?_
    refine x_get E hw 13 0 (h13) (upd2_at _ _ _ _) cl_7 ly_7 3 (by decide) tw_56 rfl dX7_faultOf_7 ?_
    subst hQ
    exact x_iretW E hr hlk hw (by decide) (by decide) (⟨_, _, rfl, Or.inl ⟨e9, hR9, he9, rfl⟩⟩) dX7_faultOf_10
  · skip
    subst hrv9
    subst hu9
    have hw : wd D A s.heap cnt ad (rq ad ct t (nI a9) (-1)) H locs := hw
    refine lv_pop hx hb dX7_faultOf_5 rfl ?_
    refine lv_aload_n hx hb dX7_faultOf_6 rfl (lv_at hl 0 rfl) ?_
    refine x_get E hw 13 0 (h13) (upd2_at _ _ _ _) cl_7 ly_7 3 (by decide) tw_56 rfl dX7_faultOf_7 ?_
    subst hQ
    exact x_iretW E hr hlk hw (by decide) (by decide) (⟨_, _, rfl, Or.inr ⟨a9, L9, hR9, rfl⟩⟩) dX7_faultOf_10
