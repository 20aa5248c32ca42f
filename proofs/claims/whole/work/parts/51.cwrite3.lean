set_option maxHeartbeats 4000000 in
set_option maxRecDepth 100000 in
theorem kX0_give (l : Launch) (D : va_G) (ca : Nat → ClassId) (cnt : Nat → Nat) (ad : Nat → Nat → Nat) (ct : Nat → Nat → va_E) (z9 : Nat) (b1 : Nat) (n1 : Nat) (f1 : Nat → Int32) (j1 : Nat) (a2 : Int32) (hb4 : b1 < cnt 4) (hb5 : b1 < cnt 5) (hbc : ct 4 b1 = .inr (0, [.ref (ad 5 b1)])) (hbf : ct 5 b1 = .inl (ca 1, n1, .inl f1)) (hn1 : n1 ≤ 20) (hj1 : j1 < n1) : Met l yX0_give (wz yX0_give cX0_give 3 none) (rmL 2 0 0) (va_Pc [.ref (ad 4 b1), .int (nI j1), .int a2] (fun U => (U.heap.size = z9 ∧ wq D cnt ad ct U.heap) ∧ gK D ca U)) (QcW D (wA cnt ad z9) (fun rv u => rv = none ∧ u = (cnt, ad, upd2 ct 5 b1 (.inl (ca 1, n1, .inl (upd f1 j1 a2)))))) 0 0 (wA cnt ad z9) := by
  refine x_met (by decide) (Nat.le_of_ble_eq_true rfl) ?_
  intro p e s m below meth c E hr hlk hnm hq ls hl
  obtain ⟨hsz9, hq⟩ := hq
  subst hsz9
  generalize hav : ([.ref (ad 4 b1), .int (nI j1), .int a2] : List Value).toArray = args at E ⊢
  have hx := E.1
  have hb := E.2.1
  have hown := E.2.2.2.1
  have hts := E.2.2.2.2.1
  have hw : wd D (wA cnt ad s.heap.size) s.heap cnt ad ct s.heap [] := wd.start hq
  generalize hQ : MQ below (QcW D (wA cnt ad s.heap.size) (fun rv u => rv = none ∧ u = (cnt, ad, upd2 ct 5 b1 (.inl (ca 1, n1, .inl (upd f1 j1 a2)))))) args s 0 0 (wA cnt ad s.heap.size) = Q
  generalize hA9 : wA cnt ad s.heap.size = A at hw hQ
  have hl : lv_has ls 3 [(0, .ref (ad 4 b1)), (1, .int (nI j1)), (2, .int a2)] := hl
  suffices hgo : ∀ (H : Heap) (locs : List Loc), wd D A s.heap cnt ad ct H locs → W p l e (rmL 2 0 0) s m args below meth c H locs 0 0 Q (F0 m 0 ls []) from hgo _ _ hw
  clear hw
  intro H locs hw
  refine lv_iload_n hx hb dX0_give_0 rfl (lv_at hl 1 rfl) ?_
  refine lv_iconst (v := 0) hx hb dX0_give_1 (by decide) ?_
  refine lv_aload_n hx hb dX0_give_2 rfl (lv_at hl 0 rfl) ?_
  refine x_get E hw 4 b1 (hb4) hbc cl_0 ly_0 0 (by decide) tw_141 rfl dX0_give_3 ?_
  refine x_len E hw 1 rfl 5 b1 (hb5) hbf dX0_give_6 ?_
  refine lv_iconst (v := 1) hx hb dX0_give_7 (by decide) ?_
  refine lv_isub hx hb dX0_give_8 ?_
  refine x_read (x_runSN (rest := []) E cbX9_within E.2.2.2.2.2.2.2.2.1 (kX9_within l D ca (nI j1) 0 (nI n1 - 1) ) ⟨rfl, rfl, by decide, by decide⟩ (fun _ _ _ _ h => h) (fun _ _ _ => trivial) rfl hl.1 rfl (Nat.le_of_ble_eq_true rfl) dX0_give_9 ⟨by decide, by decide⟩) ?_
  refine lv_if_eq (tgt := 22) hx hb dX0_give_12 (by decide) (fun c_12 => ?_) (fun c_12 => ?_)
  · skip
    have c_12 := bB_0.mp c_12
    exact absurd (isIn_ok hj1 (by omega)) (by rw [c_12]; decide)
  · skip
    have c_12 := bB_n0.mp c_12
    refine lv_aload_n hx hb dX0_give_15 rfl (lv_at hl 0 rfl) ?_
    refine x_get E hw 4 b1 (hb4) hbc cl_0 ly_0 0 (by decide) tw_141 rfl dX0_give_16 ?_
    refine lv_iload_n hx hb dX0_give_19 rfl (lv_at hl 1 rfl) ?_
    refine lv_iload_n hx hb dX0_give_20 rfl (lv_at hl 2 rfl) ?_
    refine x_ist E hw 5 b1 (hb5) hbf j1 (rfl) (hj1) (by omega) dX0_give_21 (fun H locs hw => ?_)
    generalize hct1 : upd2 ct 5 b1 (.inl (ca 1, n1, .inl (upd f1 j1 a2))) = ct1 at hw
    have fa1 : ct1 4 b1 = .inr (0, [.ref (ad 5 b1)]) := by rw [← hct1, upd2_k _ _ _ _ (by decide)]; exact hbc
    have fa2 : ct1 5 b1 = .inl (ca 1, n1, .inl (upd f1 j1 a2)) := by rw [← hct1, upd2_at]; try rfl
    subst hQ
    exact x_vretW E hr hlk hw (by decide) (by decide) (⟨rfl, by rw [← hct1]⟩) dX0_give_22
set_option maxHeartbeats 4000000 in
set_option maxRecDepth 100000 in
theorem kX0_sendAway (l : Launch) (D : va_G) (ca : Nat → ClassId) (cnt : Nat → Nat) (ad : Nat → Nat → Nat) (ct : Nat → Nat → va_E) (z9 : Nat) (b1 : Nat) (n1 : Nat) (f1 : Nat → Int32) (j1 : Nat) (hb4 : b1 < cnt 4) (hb5 : b1 < cnt 5) (hbc : ct 4 b1 = .inr (0, [.ref (ad 5 b1)])) (hbf : ct 5 b1 = .inl (ca 1, n1, .inl f1)) (hn1 : n1 ≤ 20) (hj1 : j1 < n1) : Met l yX0_sendAway (wz yX0_sendAway cX0_sendAway 3 (some .int)) (rmL 3 0 0) (va_Pc [.ref (ad 4 b1), .int (nI j1)] (fun U => (U.heap.size = z9 ∧ wq D cnt ad ct U.heap) ∧ gK D ca U)) (QcW D (wA cnt ad z9) (fun rv u => rv = some (.int (sAw f1 n1 j1).1) ∧ u = (cnt, ad, upd2 ct 5 b1 (.inl (ca 1, n1, .inl (sAw f1 n1 j1).2))))) 0 0 (wA cnt ad z9) := by
  refine x_met (by decide) (Nat.le_of_ble_eq_true rfl) ?_
  intro p e s m below meth c E hr hlk hnm hq ls hl
  obtain ⟨hsz9, hq⟩ := hq
  subst hsz9
  generalize hav : ([.ref (ad 4 b1), .int (nI j1)] : List Value).toArray = args at E ⊢
  have hx := E.1
  have hb := E.2.1
  have hown := E.2.2.2.1
  have hts := E.2.2.2.2.1
  have hw : wd D (wA cnt ad s.heap.size) s.heap cnt ad ct s.heap [] := wd.start hq
  generalize hQ : MQ below (QcW D (wA cnt ad s.heap.size) (fun rv u => rv = some (.int (sAw f1 n1 j1).1) ∧ u = (cnt, ad, upd2 ct 5 b1 (.inl (ca 1, n1, .inl (sAw f1 n1 j1).2))))) args s 0 0 (wA cnt ad s.heap.size) = Q
  generalize hA9 : wA cnt ad s.heap.size = A at hw hQ
  have hl : lv_has ls 3 [(0, .ref (ad 4 b1)), (1, .int (nI j1))] := hl
  suffices hgo : ∀ (H : Heap) (locs : List Loc), wd D A s.heap cnt ad ct H locs → W p l e (rmL 3 0 0) s m args below meth c H locs 0 0 Q (F0 m 0 ls []) from hgo _ _ hw
  clear hw
  intro H locs hw
  refine lv_aload_n hx hb dX0_sendAway_0 rfl (lv_at hl 0 rfl) ?_
  refine lv_iload_n hx hb dX0_sendAway_1 rfl (lv_at hl 1 rfl) ?_
  refine lv_iconst (v := 3) hx hb dX0_sendAway_2 (by decide) ?_
  refine x_wrote hw (x_runV (rest := []) E cbX0_give tw_166 (kX0_give l D ca cnt ad ct H.size  b1 _ _ j1 3 (hb4) (hb5) (hbc) (hbf) (hn1) (hj1)) ⟨rfl, rfl, by decide, by decide⟩ (x_recv E hw cl_0 (hb4) hbc) (fun _ _ _ _ h => h) (fun U hU _ => by rw [hU]; exact ⟨rfl, hw.1⟩) rfl hl.1 rfl (Nat.le_of_ble_eq_true rfl) dX0_sendAway_3 ⟨by decide, by decide⟩) (fun rv9 u9 H locs hp9 hw hz9 hk9 => ?_)
  obtain ⟨hrv9, hu9⟩ := hp9
  subst hrv9
  subst hu9
  dsimp only [Option.toList, List.nil_append] at hw ⊢
  generalize hct1 : upd2 ct 5 b1 (.inl (ca 1, n1, .inl (upd f1 j1 3))) = ct1 at hw
  have fa1 : ct1 4 b1 = .inr (0, [.ref (ad 5 b1)]) := by rw [← hct1, upd2_k _ _ _ _ (by decide)]; exact hbc
  have fa2 : ct1 5 b1 = .inl (ca 1, n1, .inl (upd f1 j1 3)) := by rw [← hct1, upd2_at]; try rfl
  refine lv_iconst (v := 0) hx hb dX0_sendAway_6 (by decide) ?_
  refine lv_istore_n (lv' := [(2, .int 0), (0, .ref (ad 4 b1)), (1, .int (nI j1))]) hx hb dX0_sendAway_7 rfl hl (by decide) rfl (fun ls hl => ?_)
  have lp8 : ∀ (n : Nat) (k : Nat), (k ≤ n1) → (∀ i, i < k → decide ((upd f1 j1 3) i = 1) = false) → (n1 - k < n) → ∀ (H : Heap) (locs : List Loc), wd D A s.heap cnt ad ct1 H locs → ∀ ls : Array Slot, lv_has ls 3 [(0, .ref (ad 4 b1)), (2, .int (nI k))] → W p l e (rmL 3 0 0) s m args below meth c H locs 0 0 Q (F0 m 8 ls []) := by
    intro n
    induction n with
    | zero =>
      intro k hi hn hfu H locs hw ls hl
      exact absurd hfu (by omega)
    | succ n ih8 =>
      intro k hi hn hfu H locs hw ls hl
      refine lv_iload_n hx hb dX0_sendAway_8 rfl (lv_at hl 1 rfl) ?_
      refine lv_aload_n hx hb dX0_sendAway_9 rfl (lv_at hl 0 rfl) ?_
      refine x_get E hw 4 b1 (hb4) fa1 cl_0 ly_0 0 (by decide) tw_141 rfl dX0_sendAway_10 ?_
      refine x_len E hw 1 rfl 5 b1 (hb5) fa2 dX0_sendAway_13 ?_
      refine lv_icmp_ge (tgt := 42) hx hb dX0_sendAway_14 (by decide) (fun c_14 => ?_) (fun c_14 => ?_)
      · skip
        have hge : k = n1 := by have q9 := (nI_leI (a := n1) (b := k) (by omega) (by omega)).mp c_14; omega
        refine lv_iconst (v := (-1)) hx hb dX0_sendAway_42 (by decide) ?_
        subst hQ
        exact x_iretW E hr hlk hw (by decide) (by decide) (by have hf := firstB_none (n := n1) (hge ▸ hn); exact ⟨by simp [sAw, hf], by rw [← hct1]; simp [sAw, hf]⟩) dX0_sendAway_43
      · skip
        have hlt : k < n1 := by have q9 := mt (nI_leI (a := n1) (b := k) (by omega) (by omega)).mpr c_14; omega
        refine lv_aload_n hx hb dX0_sendAway_17 rfl (lv_at hl 0 rfl) ?_
        refine x_get E hw 4 b1 (hb4) fa1 cl_0 ly_0 0 (by decide) tw_141 rfl dX0_sendAway_18 ?_
        refine lv_iload_n hx hb dX0_sendAway_21 rfl (lv_at hl 1 rfl) ?_
        refine x_ild E hw 5 b1 (hb5) fa2 k (rfl) (hlt) (by omega) dX0_sendAway_22 ?_
        refine lv_iconst (v := 1) hx hb dX0_sendAway_23 (by decide) ?_
        refine lv_icmp_ne (tgt := 36) hx hb dX0_sendAway_24 (by decide) (fun c_24 => ?_) (fun c_24 => ?_)
        · skip
          refine lv_iinc (v := (nI (k + 1))) (lv' := [(2, .int (nI (k + 1))), (0, .ref (ad 4 b1))]) hx hb dX0_sendAway_36 hl (k := 1) rfl (nI_1 _) (by decide) rfl (fun ls hl => ?_)
          refine lv_goto (tgt := 8) hx hb dX0_sendAway_39 (by decide) ?_
          exact ih8 (k + 1) (hlt) (fun i h => by rcases Nat.lt_or_ge i k with q | q; exact hn i q; rw [show i = k by omega]; simp [c_14, c_24]) (by omega) _ _ (hw) ls (lv_sub hl [1, 0] (rfl))
        · skip
          refine lv_aload_n hx hb dX0_sendAway_27 rfl (lv_at hl 0 rfl) ?_
          refine x_get E hw 4 b1 (hb4) fa1 cl_0 ly_0 0 (by decide) tw_141 rfl dX0_sendAway_28 ?_
          refine lv_iload_n hx hb dX0_sendAway_31 rfl (lv_at hl 1 rfl) ?_
          refine lv_iconst (v := 0) hx hb dX0_sendAway_32 (by decide) ?_
          refine x_ist E hw 5 b1 (hb5) fa2 k (rfl) (hlt) (by omega) dX0_sendAway_33 (fun H locs hw => ?_)
          generalize hct2 : upd2 ct1 5 b1 (.inl (ca 1, n1, .inl (upd (upd f1 j1 3) k 0))) = ct2 at hw
          have fa3 : ct2 4 b1 = .inr (0, [.ref (ad 5 b1)]) := by rw [← hct2, upd2_k _ _ _ _ (by decide)]; exact fa1
          have fa4 : ct2 5 b1 = .inl (ca 1, n1, .inl (upd (upd f1 j1 3) k 0)) := by rw [← hct2, upd2_at]; try rfl
          refine lv_iload_n hx hb dX0_sendAway_34 rfl (lv_at hl 1 rfl) ?_
          subst hQ
          exact x_iretW E hr hlk hw (by decide) (by decide) (by have hf := firstB_at (n := n1) hn (by simp [c_14, c_24]) hlt; exact ⟨by simp [sAw, hf, hlt], by rw [← hct2, ← hct1, upd2_2]; simp [sAw, hf, hlt]⟩) dX0_sendAway_35
  exact lp8 (n1 + 1) 0 (Nat.zero_le _) (fun i h => absurd h (Nat.not_lt_zero _)) (by omega) _ _ (hw) ls (lv_sub hl [1, 0] (rfl))
set_option maxHeartbeats 4000000 in
set_option maxRecDepth 100000 in
theorem kX9_away (l : Launch) (D : va_G) (ca : Nat → ClassId) (cnt : Nat → Nat) (ad : Nat → Nat → Nat) (ct : Nat → Nat → va_E) (z9 : Nat) (v : Nat → Int32) (g : Nat → Nat → Int32) (nw : Nat) (nb : Nat) (nc : Nat) (nm : Nat) (a1 : Int32) (a2 : Int32) (hC : cRep ca cnt ad ct v g nw nb nc nm) : Met l yX9_away (wz yX9_away cX9_away 4 (some .int)) (rmL 4 0 0) (va_Pc [.ref (ad 0 0), .int a1, .int a2] (fun U => (U.heap.size = z9 ∧ wq D cnt ad ct U.heap) ∧ gK D ca U)) (QcW D (wA cnt ad z9) (fun rv u => rv = some (.int (mAwayW v g nb a1 a2).1) ∧ cRepE ca u.1 u.2.1 u.2.2 (mAwayW v g nb a1 a2).2.1 (mAwayW v g nb a1 a2).2.2 ∧ u.2.1 0 0 = ad 0 0)) 0 0 (wA cnt ad z9) := by
  refine x_met (by decide) (Nat.le_of_ble_eq_true rfl) ?_
  intro p e s m below meth c E hr hlk hnm hq ls hl
  obtain ⟨hsz9, hq⟩ := hq
  subst hsz9
  generalize hav : ([.ref (ad 0 0), .int a1, .int a2] : List Value).toArray = args at E ⊢
  have hx := E.1
  have hb := E.2.1
  have hown := E.2.2.2.1
  have hts := E.2.2.2.2.1
  have hw : wd D (wA cnt ad s.heap.size) s.heap cnt ad ct s.heap [] := wd.start hq
  generalize hQ : MQ below (QcW D (wA cnt ad s.heap.size) (fun rv u => rv = some (.int (mAwayW v g nb a1 a2).1) ∧ cRepE ca u.1 u.2.1 u.2.2 (mAwayW v g nb a1 a2).2.1 (mAwayW v g nb a1 a2).2.2 ∧ u.2.1 0 0 = ad 0 0)) args s 0 0 (wA cnt ad s.heap.size) = Q
  generalize hA9 : wA cnt ad s.heap.size = A at hw hQ
  have hl : lv_has ls 4 [(0, .ref (ad 0 0)), (1, .int a1), (2, .int a2)] := hl
  obtain ⟨hO, hIv, tp, htp, hX, hT, hB, hCc, hN⟩ := id hC
  obtain ⟨hx0, hx1, hx2, hx3, fz0⟩ := id hX
  have hO5 := hO.2.2.2.2
  obtain ⟨hb4, hb5, fB, fz1, hBd⟩ := id hB
  obtain ⟨hc6, hc7, fC, dt, ow, ix, ak, fz2, hCd⟩ := id hCc
  obtain ⟨hn9, fN, lk, fz3, hNd⟩ := id hN
  obtain ⟨ht13, ht14, ht11, ht12, szq, nq, nrq, rtq, bq0, bq1, vsq, pq1, pq2, hsz, hsz2, hnq, hnr, hrt, fz11, fz11b, fz12, fz12b, fz13, fz14, hby, hrl⟩ := id hT
  suffices hgo : ∀ (H : Heap) (locs : List Loc), wd D A s.heap cnt ad ct H locs → W p l e (rmL 4 0 0) s m args below meth c H locs 0 0 Q (F0 m 0 ls []) from hgo _ _ hw
  clear hw
  intro H locs hw
  refine lv_aload_n hx hb dX9_away_0 rfl (lv_at hl 0 rfl) ?_
  refine lv_iload_n hx hb dX9_away_1 rfl (lv_at hl 1 rfl) ?_
  refine x_readq (x_runV (rest := []) E cbX9_findBallot tw_149 (kX9_findBallot l D ca cnt ad ct v g nw nb nc nm   a1 (hC)) ⟨rfl, rfl, by decide, by decide⟩ (x_recv E hw cl_9 (hx0) fz0) (fun _ _ _ _ h => h) (fun U hU _ => by rw [hU]; exact hw.1) rfl hl.1 rfl (Nat.le_of_ble_eq_true rfl) dX9_away_2 ⟨by decide, by decide⟩) ?_
  refine x_astore_nQ (lv' := [(3, va_rf (Option.map (ad 4) (fdB nb a1))), (0, .ref (ad 0 0)), (1, .int a1), (2, .int a2)]) hx hb dX9_away_5 rfl hl (by decide) rfl (fun ls hl => ?_)
  refine x_aload_nQ hx hb dX9_away_6 rfl (lv_at hl 0 rfl) ?_
  rcases x_opt (fdB nb a1) with hn7 | ⟨b1, hi7⟩
  · skip
    rw [hn7]
    rw [hn7] at hl
    have hl : lv_has ls 4 [(3, .null), (0, .ref (ad 0 0)), (1, .int a1), (2, .int a2)] := hl
    refine lv_ifnullN (tgt := 18) hx hb dX9_away_7 (by decide) ?_
    refine lv_bipush (v := (-2)) hx hb dX9_away_18 (by decide) ?_
    subst hQ
    exact x_iretW E hr hlk hw (by decide) (by decide) (addA (rfl) (cw_post (by first | (simp [mAwayW, mWom, fdB_none hn7]; done) | (rcases hc_n with q9 | ⟨j9, q8, rfl, q9⟩; simp [mAwayW, mWom, nI_clamp (n := b1) (by omega), hg6, q9]; rw [hfe j9 q8] at q9; simp [mAwayW, nI_clamp (n := b1) (by omega), nI_clamp (n := j9) (by omega), q9])) ⟨nw, nb, nc, nm, hC⟩)) dX9_away_20
  · skip
    rw [hi7]
    rw [hi7] at hl
    have hl : lv_has ls 4 [(3, .ref (ad 4 b1)), (0, .ref (ad 0 0)), (1, .int a1), (2, .int a2)] := hl
    refine lv_ifnull hx hb dX9_away_7 ?_
    obtain ⟨hb1, rfl, hIb⟩ := fdB_some (by omega) hi7
    obtain ⟨hfb, hbc, n1, f1, hn1, hg6, hbf, hfe⟩ := hBd b1 hb1
    refine lv_aload_n hx hb dX9_away_10 rfl (lv_at hl 0 rfl) ?_
    refine lv_iload_n hx hb dX9_away_11 rfl (lv_at hl 3 rfl) ?_
    refine x_read (x_runV (rest := []) E cbX0_ballOf tw_153 (kX0_ballOf l D ca cnt ad ct  b1 _ _ a2 (by omega) (by omega) (hbc) (hbf) (hn1)) ⟨rfl, rfl, by decide, by decide⟩ (x_recv E hw cl_0 (by omega) hbc) (fun _ _ _ _ h => h) (fun U hU _ => by rw [hU]; exact hw.1) rfl hl.1 rfl (Nat.le_of_ble_eq_true rfl) dX9_away_12 ⟨by decide, by decide⟩) ?_
    refine lv_if_eq (tgt := 21) hx hb dX9_away_15 (by decide) (fun c_15 => ?_) (fun c_15 => ?_)
    · skip
      obtain ⟨j1, hj1, rfl, hc_0⟩ := cBall_0 hn1 c_15
      refine lv_aload_n hx hb dX9_away_21 rfl (lv_at hl 0 rfl) ?_
      refine lv_iload_n hx hb dX9_away_22 rfl (lv_at hl 3 rfl) ?_
      refine x_wrote hw (x_runV (rest := []) E cbX0_sendAway tw_162 (kX0_sendAway l D ca cnt ad ct H.size  b1 _ _ j1 (by omega) (by omega) (hbc) (hbf) (hn1) (hj1)) ⟨rfl, rfl, by decide, by decide⟩ (x_recv E hw cl_0 (by omega) hbc) (fun _ _ _ _ h => h) (fun U hU _ => by rw [hU]; exact ⟨rfl, hw.1⟩) rfl hl.1 rfl (Nat.le_of_ble_eq_true rfl) dX9_away_23 ⟨by decide, by decide⟩) (fun rv9 u9 H locs hp9 hw hz9 hk9 => ?_)
      obtain ⟨hrv9, hu9⟩ := hp9
      subst hrv9
      subst hu9
      dsimp only [Option.toList, List.singleton_append, List.cons_append, List.nil_append] at hw ⊢
      generalize hct1 : upd2 ct 5 b1 (.inl (ca 1, n1, .inl (sAw f1 n1 j1).2)) = ct1 at hw
      have fa1 : ct1 0 0 = .inr (9, [.int (nI nw), .int (nI nb), .int (nI nc), .int (nI nm), .int (v 4), .int (v 5), .ref (ad 1 0), .ref (ad 2 0), .ref (ad 3 0), .ref (ad 11 tp), .ref (ad 11 (1 - tp)), .ref (ad 13 0)]) := by rw [← hct1, upd2_k _ _ _ _ (by decide)]; exact fz0
      have fa2 : ct1 1 0 = .inl (ca 3, 50, aQ fB) := by rw [← hct1, upd2_k _ _ _ _ (by decide)]; exact fz1
      have fa3 : ct1 2 0 = .inl (ca 4, 60, aQ fC) := by rw [← hct1, upd2_k _ _ _ _ (by decide)]; exact fz2
      have fa4 : ct1 3 0 = .inl (ca 5, 13, aQ fN) := by rw [← hct1, upd2_k _ _ _ _ (by decide)]; exact fz3
      have fa5 : ct1 11 tp = .inr (8, [.ref (ad 12 tp), .int (nI szq)]) := by rw [← hct1, upd2_k _ _ _ _ (by decide)]; exact fz11
      have fa6 : ct1 4 b1 = .inr (0, [.ref (ad 5 b1)]) := by rw [← hct1, upd2_k _ _ _ _ (by decide)]; exact hbc
      have fa7 : ct1 5 b1 = .inl (ca 1, n1, .inl ((sAw f1 n1 j1).2)) := by rw [← hct1, upd2_at]; try rfl
      subst hQ
      exact x_iretW E hr hlk hw (by decide) (by decide) (addA (rfl) (by obtain ⟨z1, z2, z3, z4⟩ := away_eq (v := v) (g := g) hO5.2.1 hn1 hb1 hj1 hg6 hfe hc_0; exact cw_post z1 ⟨nw, nb, nc, nm, hO, mIv_g (z4 9 (by decide)) (z4 18 (by decide)) (z4 19 (by decide)) (z4 20 (by decide)) (z4 21 (by decide)) hIv, tp, htp, by rw [← hct1]; exact cX_up (by decide) hX, by rw [← hct1]; exact cT_up (by decide) (cT_g (z4 24 (by decide)) (z4 25 (by decide)) hT), by rw [← hct1]; exact cB_set hb4 hb5 fz1 hBd hn1 hg6 z2 z3 (z4 6 (by decide)), by rw [← hct1]; exact cC_up (by decide) (cC_g (fun k hk i => z4 k (by rintro rfl; simp at hk) i) hCc), by rw [← hct1]; exact cN_up (by decide) (cN_g (z4 22 (by decide)) (z4 23 (by decide)) hN)⟩)) dX9_away_26
    · skip
      have hc_n := cBall_n0 hn1 c_15
      refine lv_bipush (v := (-2)) hx hb dX9_away_18 (by decide) ?_
      subst hQ
      exact x_iretW E hr hlk hw (by decide) (by decide) (addA (rfl) (cw_post (by first | (simp [mAwayW, mWom, fdB_none hn7]; done) | (rcases hc_n with q9 | ⟨j9, q8, rfl, q9⟩; simp [mAwayW, mWom, nI_clamp (n := b1) (by omega), hg6, q9]; rw [hfe j9 q8] at q9; simp [mAwayW, nI_clamp (n := b1) (by omega), nI_clamp (n := j9) (by omega), q9])) ⟨nw, nb, nc, nm, hC⟩)) dX9_away_20
set_option maxHeartbeats 4000000 in
set_option maxRecDepth 100000 in
theorem kX9_end (l : Launch) (D : va_G) (ca : Nat → ClassId) (cnt : Nat → Nat) (ad : Nat → Nat → Nat) (ct : Nat → Nat → va_E) (z9 : Nat) (v : Nat → Int32) (g : Nat → Nat → Int32) (nw : Nat) (nb : Nat) (nc : Nat) (nm : Nat) (a1 : Int32) (hC : cRep ca cnt ad ct v g nw nb nc nm) : Met l yX9_end (wz yX9_end cX9_end 2 (some .boolean)) (rmL 2 0 0) (va_Pc [.ref (ad 0 0), .int a1] (fun U => (U.heap.size = z9 ∧ wq D cnt ad ct U.heap) ∧ gK D ca U)) (QcW D (wA cnt ad z9) (fun rv u => rv = some (.int (mEndW v g a1).1) ∧ cRepE ca u.1 u.2.1 u.2.2 (mEndW v g a1).2.1 (mEndW v g a1).2.2 ∧ u.2.1 0 0 = ad 0 0)) 0 0 (wA cnt ad z9) := by
  refine x_met (by decide) (Nat.le_of_ble_eq_true rfl) ?_
  intro p e s m below meth c E hr hlk hnm hq ls hl
  obtain ⟨hsz9, hq⟩ := hq
  subst hsz9
  generalize hav : ([.ref (ad 0 0), .int a1] : List Value).toArray = args at E ⊢
  have hx := E.1
  have hb := E.2.1
  have hown := E.2.2.2.1
  have hts := E.2.2.2.2.1
  have hw : wd D (wA cnt ad s.heap.size) s.heap cnt ad ct s.heap [] := wd.start hq
  generalize hQ : MQ below (QcW D (wA cnt ad s.heap.size) (fun rv u => rv = some (.int (mEndW v g a1).1) ∧ cRepE ca u.1 u.2.1 u.2.2 (mEndW v g a1).2.1 (mEndW v g a1).2.2 ∧ u.2.1 0 0 = ad 0 0)) args s 0 0 (wA cnt ad s.heap.size) = Q
  generalize hA9 : wA cnt ad s.heap.size = A at hw hQ
  have hl : lv_has ls 2 [(0, .ref (ad 0 0)), (1, .int a1)] := hl
  obtain ⟨hO, hIv, tp, htp, hX, hT, hB, hCc, hN⟩ := id hC
  obtain ⟨hx0, hx1, hx2, hx3, fz0⟩ := id hX
  have hO5 := hO.2.2.2.2
  obtain ⟨hb4, hb5, fB, fz1, hBd⟩ := id hB
  obtain ⟨hc6, hc7, fC, dt, ow, ix, ak, fz2, hCd⟩ := id hCc
  obtain ⟨hn9, fN, lk, fz3, hNd⟩ := id hN
  obtain ⟨ht13, ht14, ht11, ht12, szq, nq, nrq, rtq, bq0, bq1, vsq, pq1, pq2, hsz, hsz2, hnq, hnr, hrt, fz11, fz11b, fz12, fz12b, fz13, fz14, hby, hrl⟩ := id hT
  suffices hgo : ∀ (H : Heap) (locs : List Loc), wd D A s.heap cnt ad ct H locs → W p l e (rmL 2 0 0) s m args below meth c H locs 0 0 Q (F0 m 0 ls []) from hgo _ _ hw
  clear hw
  intro H locs hw
  refine lv_iload_n hx hb dX9_end_0 rfl (lv_at hl 1 rfl) ?_
  refine lv_iconst (v := 0) hx hb dX9_end_1 (by decide) ?_
  refine lv_aload_n hx hb dX9_end_2 rfl (lv_at hl 0 rfl) ?_
  refine x_get E hw 0 0 (hx0) fz0 cl_9 ly_9 9 (by decide) tw_89 rfl dX9_end_3 ?_
  refine x_get E hw 11 tp (by omega) fz11 cl_8 ly_8 1 (by decide) tw_37 rfl dX9_end_6 ?_
  refine x_read (x_runS (rest := []) E cbX9_within tw_121 (kX9_within l D ca a1 0 (nI szq) ) ⟨rfl, rfl, by decide, by decide⟩ (fun _ _ _ _ h => h) (fun _ _ _ => trivial) rfl hl.1 rfl (Nat.le_of_ble_eq_true rfl) dX9_end_9 ⟨by decide, by decide⟩) ?_
  refine lv_if_ne (tgt := 17) hx hb dX9_end_12 (by decide) (fun c_12 => ?_) (fun c_12 => ?_)
  · skip
    have c_12 := bB_n0.mp c_12
    obtain ⟨a9, ha9, rfl⟩ := isIn_le (n := szq) (by omega) c_12
    refine lv_aload_n hx hb dX9_end_17 rfl (lv_at hl 0 rfl) ?_
    refine x_get E hw 0 0 (hx0) fz0 cl_9 ly_9 9 (by decide) tw_89 rfl dX9_end_18 ?_
    refine lv_iload_n hx hb dX9_end_21 rfl (lv_at hl 1 rfl) ?_
    refine x_put E hw 11 tp (by omega) fz11 cl_8 ly_8 tyX8 tyX8_ok nmX8 1 (by decide) tw_37 (Or.inl rfl) (by rfl) (by rfl) (Nat.le_of_ble_eq_true rfl) dX9_end_22 (fun H locs hw => ?_)
    generalize hct1 : upd2 ct 11 tp (.inr (8, [.ref (ad 12 tp), .int (nI szq)].set 1 (.int (nI a9)))) = ct1 at hw
    have fa1 : ct1 0 0 = .inr (9, [.int (nI nw), .int (nI nb), .int (nI nc), .int (nI nm), .int (v 4), .int (v 5), .ref (ad 1 0), .ref (ad 2 0), .ref (ad 3 0), .ref (ad 11 tp), .ref (ad 11 (1 - tp)), .ref (ad 13 0)]) := by rw [← hct1, upd2_k _ _ _ _ (by decide)]; exact fz0
    have fa2 : ct1 1 0 = .inl (ca 3, 50, aQ fB) := by rw [← hct1, upd2_k _ _ _ _ (by decide)]; exact fz1
    have fa3 : ct1 2 0 = .inl (ca 4, 60, aQ fC) := by rw [← hct1, upd2_k _ _ _ _ (by decide)]; exact fz2
    have fa4 : ct1 3 0 = .inl (ca 5, 13, aQ fN) := by rw [← hct1, upd2_k _ _ _ _ (by decide)]; exact fz3
    have fa5 : ct1 11 tp = .inr (8, [.ref (ad 12 tp), .int (nI a9)]) := by rw [← hct1, upd2_at]; try rfl
    refine lv_iconst (v := 1) hx hb dX9_end_25 (by decide) ?_
    subst hQ
    exact x_zretW E hr hlk (by decide) hw (by decide) (by decide) (addA (rfl) (cw_post (v' := upd v 27 (nI a9)) (g' := g) (by simp [mEndW, hsz, c_12]) ⟨nw, nb, nc, nm, ⟨by rw [upd_ne _ _ (by decide)]; exact hO.1, by rw [upd_ne _ _ (by decide)]; exact hO.2.1, by rw [upd_ne _ _ (by decide)]; exact hO.2.2.1, by rw [upd_ne _ _ (by decide)]; exact hO.2.2.2.1, hO5⟩, hIv, tp, htp, cX_v (v := v) (by simp [upd]) (by simp [upd]) (by rw [← hct1]; exact cX_up (by decide) hX), by rw [← hct1]; exact cT_end htp hsz hsz2 ha9 hT, by rw [← hct1]; exact cB_up (by decide) hB, by rw [← hct1]; exact cC_up (by decide) hCc, by rw [← hct1]; exact cN_up (by decide) hN⟩)) dX9_end_26
  · skip
    have c_12 := bB_0.mp c_12
    refine lv_iconst (v := 0) hx hb dX9_end_15 (by decide) ?_
    subst hQ
    exact x_zretW E hr hlk (by decide) hw (by decide) (by decide) (addA (rfl) (cw_post (by simp [mEndW, hsz, c_12]) ⟨nw, nb, nc, nm, hC⟩)) dX9_end_16
