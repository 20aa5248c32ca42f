set_option maxHeartbeats 4000000 in
set_option maxRecDepth 100000 in
theorem kX9_ball (l : Launch) (D : va_G) (ca : Nat → ClassId) (cnt : Nat → Nat) (ad : Nat → Nat → Nat) (ct : Nat → Nat → va_E) (v : Nat → Int32) (g : Nat → Nat → Int32) (nw : Nat) (nb : Nat) (nc : Nat) (nm : Nat) (a1 : Int32) (a2 : Int32) (hC : cRep ca cnt ad ct v g nw nb nc nm) : Met l yX9_ball (wz yX9_ball cX9_ball 4 (some .int)) (rmL 3 0 0) (va_Pc [.ref (ad 0 0), .int a1, .int a2] (fun U => wq D cnt ad ct U.heap ∧ gK D ca U)) (QcRead (mBall g nb a1 a2)) 0 0 (fun _ => False) := by
  refine x_met (by decide) (Nat.le_of_ble_eq_true rfl) ?_
  intro p e s m below meth c E hr hlk hnm hq ls hl
  generalize hav : ([.ref (ad 0 0), .int a1, .int a2] : List Value).toArray = args at E ⊢
  have hx := E.1
  have hb := E.2.1
  have hown := E.2.2.2.1
  have hts := E.2.2.2.2.1
  have hw : wd D (wA cnt ad s.heap.size) s.heap cnt ad ct s.heap [] := wd.start hq
  generalize hQ : MQ below (QcRead (mBall g nb a1 a2)) args s 0 0 (fun _ => False) = Q
  have hl : lv_has ls 4 [(0, .ref (ad 0 0)), (1, .int a1), (2, .int a2)] := hl
  obtain ⟨hO, hIv, tp, htp, hX, hT, hB, hCc, hN⟩ := id hC
  obtain ⟨hx0, hx1, hx2, hx3, fz0⟩ := id hX
  have hO5 := hO.2.2.2.2
  obtain ⟨hb4, hb5, fB, fz1, hBd⟩ := id hB
  obtain ⟨hc6, hc7, fC, dt, ow, ix, ak, fz2, hCd⟩ := id hCc
  obtain ⟨hn9, fN, lk, fz3, hNd⟩ := id hN
  obtain ⟨ht13, ht14, ht11, ht12, szq, nq, nrq, rtq, bq0, bq1, vsq, pq1, pq2, hsz, hsz2, hnq, hnr, hrt, fz11, fz11b, fz12, fz12b, fz13, fz14, hby, hrl⟩ := id hT
  refine lv_aload_n hx hb dX9_ball_0 rfl (lv_at hl 0 rfl) ?_
  refine lv_iload_n hx hb dX9_ball_1 rfl (lv_at hl 1 rfl) ?_
  refine x_readq (x_runV (rest := []) E cbX9_findBallot tw_149 (kX9_findBallot l D ca cnt ad ct v g nw nb nc nm   a1 (hC)) ⟨rfl, rfl, by decide, by decide⟩ (x_recv E hw cl_9 (hx0) fz0) (fun _ _ _ _ h => h) (fun U hU _ => by rw [hU]; exact hw.1) rfl hl.1 rfl (Nat.le_of_ble_eq_true rfl) dX9_ball_2 ⟨by decide, by decide⟩) ?_
  refine x_astore_nQ (lv' := [(3, va_rf (Option.map (ad 4) (fdB nb a1))), (0, .ref (ad 0 0)), (1, .int a1), (2, .int a2)]) hx hb dX9_ball_5 rfl hl (by decide) rfl (fun ls hl => ?_)
  refine x_aload_nQ hx hb dX9_ball_6 rfl (lv_at hl 0 rfl) ?_
  rcases x_opt (fdB nb a1) with hn7 | ⟨b1, hi7⟩
  · skip
    rw [hn7]
    rw [hn7] at hl
    have hl : lv_has ls 4 [(3, .null), (0, .ref (ad 0 0)), (1, .int a1), (2, .int a2)] := hl
    refine lv_ifnonnullN hx hb dX9_ball_7 ?_
    refine lv_iconst (v := (-1)) hx hb dX9_ball_10 (by decide) ?_
    refine lv_goto (tgt := 19) hx hb dX9_ball_11 (by decide) ?_
    subst hQ
    exact x_iret E hr hlk (by first | exact cBall_eq (by omega) hb1 hn1 hg6 hfe hIb | simp [mBall, mWom, fdB_none hn7]) dX9_ball_19
  · skip
    rw [hi7]
    rw [hi7] at hl
    have hl : lv_has ls 4 [(3, .ref (ad 4 b1)), (0, .ref (ad 0 0)), (1, .int a1), (2, .int a2)] := hl
    refine lv_ifnonnull (tgt := 14) hx hb dX9_ball_7 (by decide) ?_
    obtain ⟨hb1, rfl, hIb⟩ := fdB_some (by omega) hi7
    obtain ⟨hfb, hbc, n1, f1, hn1, hg6, hbf, hfe⟩ := hBd b1 hb1
    refine lv_aload_n hx hb dX9_ball_14 rfl (lv_at hl 0 rfl) ?_
    refine lv_iload_n hx hb dX9_ball_15 rfl (lv_at hl 3 rfl) ?_
    refine x_read (x_runV (rest := []) E cbX0_ballOf tw_153 (kX0_ballOf l D ca cnt ad ct  b1 _ _ a2 (by omega) (by omega) (hbc) (hbf) (hn1)) ⟨rfl, rfl, by decide, by decide⟩ (x_recv E hw cl_0 (by omega) hbc) (fun _ _ _ _ h => h) (fun U hU _ => by rw [hU]; exact hw.1) rfl hl.1 rfl (Nat.le_of_ble_eq_true rfl) dX9_ball_16 ⟨by decide, by decide⟩) ?_
    subst hQ
    exact x_iret E hr hlk (by first | exact cBall_eq (by omega) hb1 hn1 hg6 hfe hIb | simp [mBall, mWom, fdB_none hn7]) dX9_ball_19
set_option maxHeartbeats 4000000 in
set_option maxRecDepth 100000 in
theorem kX9_place (l : Launch) (D : va_G) (ca : Nat → ClassId) (cnt : Nat → Nat) (ad : Nat → Nat → Nat) (ct : Nat → Nat → va_E) (v : Nat → Int32) (g : Nat → Nat → Int32) (nw : Nat) (nb : Nat) (nc : Nat) (nm : Nat) (a1 : Int32) (a2 : Int32) (a3 : Int32) (hC : cRep ca cnt ad ct v g nw nb nc nm) : Met l yX9_place (wz yX9_place cX9_place 5 (some .int)) (rmL 3 0 0) (va_Pc [.ref (ad 0 0), .int a1, .int a2, .int a3] (fun U => wq D cnt ad ct U.heap ∧ gK D ca U)) (QcRead (mPlace g nw nc nm a1 a2 a3)) 0 0 (fun _ => False) := by
  refine x_met (by decide) (Nat.le_of_ble_eq_true rfl) ?_
  intro p e s m below meth c E hr hlk hnm hq ls hl
  generalize hav : ([.ref (ad 0 0), .int a1, .int a2, .int a3] : List Value).toArray = args at E ⊢
  have hx := E.1
  have hb := E.2.1
  have hown := E.2.2.2.1
  have hts := E.2.2.2.2.1
  have hw : wd D (wA cnt ad s.heap.size) s.heap cnt ad ct s.heap [] := wd.start hq
  generalize hQ : MQ below (QcRead (mPlace g nw nc nm a1 a2 a3)) args s 0 0 (fun _ => False) = Q
  have hl : lv_has ls 5 [(0, .ref (ad 0 0)), (1, .int a1), (2, .int a2), (3, .int a3)] := hl
  obtain ⟨hO, hIv, tp, htp, hX, hT, hB, hCc, hN⟩ := id hC
  obtain ⟨hx0, hx1, hx2, hx3, fz0⟩ := id hX
  have hO5 := hO.2.2.2.2
  obtain ⟨hb4, hb5, fB, fz1, hBd⟩ := id hB
  obtain ⟨hc6, hc7, fC, dt, ow, ix, ak, fz2, hCd⟩ := id hCc
  obtain ⟨hn9, fN, lk, fz3, hNd⟩ := id hN
  obtain ⟨ht13, ht14, ht11, ht12, szq, nq, nrq, rtq, bq0, bq1, vsq, pq1, pq2, hsz, hsz2, hnq, hnr, hrt, fz11, fz11b, fz12, fz12b, fz13, fz14, hby, hrl⟩ := id hT
  refine lv_aload_n hx hb dX9_place_0 rfl (lv_at hl 0 rfl) ?_
  refine lv_iload_n hx hb dX9_place_1 rfl (lv_at hl 1 rfl) ?_
  refine x_readq (x_runV (rest := []) E cbX9_findChild tw_292 (kX9_findChild l D ca cnt ad ct v g nw nb nc nm   a1 (hC)) ⟨rfl, rfl, by decide, by decide⟩ (x_recv E hw cl_9 (hx0) fz0) (fun _ _ _ _ h => h) (fun U hU _ => by rw [hU]; exact hw.1) rfl hl.1 rfl (Nat.le_of_ble_eq_true rfl) dX9_place_2 ⟨by decide, by decide⟩) ?_
  refine x_astoreQ (lv' := [(4, va_rf (Option.map (ad 6) (fdB nc a1))), (0, .ref (ad 0 0)), (1, .int a1), (2, .int a2), (3, .int a3)]) hx hb dX9_place_5 hl (by decide) rfl (fun ls hl => ?_)
  refine x_aloadQ hx hb dX9_place_7 (lv_at hl 0 rfl) ?_
  rcases x_opt (fdB nc a1) with hn9 | ⟨j, hi9⟩
  · skip
    rw [hn9]
    rw [hn9] at hl
    have hl : lv_has ls 5 [(4, .null), (0, .ref (ad 0 0)), (1, .int a1), (2, .int a2), (3, .int a3)] := hl
    refine lv_ifnullN (tgt := 28) hx hb dX9_place_9 (by decide) ?_
    refine lv_iconst (v := (-1)) hx hb dX9_place_28 (by decide) ?_
    subst hQ
    exact x_iret E hr hlk (by first | (simp [mPlace, fdB_none hn9]; done) | simp [mPlace, hn9]) dX9_place_29
  · skip
    rw [hi9]
    rw [hi9] at hl
    have hl : lv_has ls 5 [(4, .ref (ad 6 j)), (0, .ref (ad 0 0)), (1, .int a1), (2, .int a2), (3, .int a3)] := hl
    refine lv_ifnull hx hb dX9_place_9 ?_
    obtain ⟨hj, rfl, hIj⟩ := fdB_some (by omega) hi9
    obtain ⟨hfc, hcc, hhc, hchn, hmc, hak, how, hnd⟩ := hCd j hj
    refine lv_aload_n hx hb dX9_place_12 rfl (lv_at hl 1 rfl) ?_
    refine lv_iload_n hx hb dX9_place_13 rfl (lv_at hl 3 rfl) ?_
    refine x_read (x_runV (rest := []) E cbX9_isPast tw_313 (kX9_isPast l D ca cnt ad ct v g nw nb nc nm   a2 (hC)) ⟨rfl, rfl, by decide, by decide⟩ (x_recv E hw cl_9 (hx0) fz0) (fun _ _ _ _ h => h) (fun U hU _ => by rw [hU]; exact hw.1) rfl hl.1 rfl (Nat.le_of_ble_eq_true rfl) dX9_place_14 ⟨by decide, by decide⟩) ?_
    refine lv_if_eq (tgt := 28) hx hb dX9_place_17 (by decide) (fun c_17 => ?_) (fun c_17 => ?_)
    · skip
      have c_17 := bB_0.mp c_17
      refine lv_iconst (v := (-1)) hx hb dX9_place_28 (by decide) ?_
      subst hQ
      exact x_iret E hr hlk (by first | (simp [mPlace, fdB_none hn9]; done) | simp [mPlace, hi9, c_17]) dX9_place_29
    · skip
      have c_17 := bB_n0.mp c_17
      refine lv_aload_n hx hb dX9_place_20 rfl (lv_at hl 1 rfl) ?_
      refine lv_iload_n hx hb dX9_place_21 rfl (lv_at hl 4 rfl) ?_
      refine x_read (x_runV (rest := []) E cbX9_isPast tw_313 (kX9_isPast l D ca cnt ad ct v g nw nb nc nm   a3 (hC)) ⟨rfl, rfl, by decide, by decide⟩ (x_recv E hw cl_9 (hx0) fz0) (fun _ _ _ _ h => h) (fun U hU _ => by rw [hU]; exact hw.1) rfl hl.1 rfl (Nat.le_of_ble_eq_true rfl) dX9_place_22 ⟨by decide, by decide⟩) ?_
      refine lv_if_ne (tgt := 30) hx hb dX9_place_25 (by decide) (fun c_25 => ?_) (fun c_25 => ?_)
      · skip
        have c_25 := bB_n0.mp c_25
        refine lv_aload hx hb dX9_place_30 (lv_at hl 0 rfl) ?_
        refine lv_iload_n hx hb dX9_place_32 rfl (lv_at hl 3 rfl) ?_
        refine lv_iload_n hx hb dX9_place_33 rfl (lv_at hl 4 rfl) ?_
        refine x_read (x_runV (rest := []) E cbX1_placeOn tw_284 (kX1_placeOn l D ca cnt ad ct  j _ _ _ _ _ _ _ _ _ _  a2 a3 (by omega) (hcc) (hchn)) ⟨rfl, rfl, by decide, by decide⟩ (x_recv E hw cl_1 (by omega) hcc) (fun _ _ _ _ h => h) (fun U hU _ => by rw [hU]; exact hw.1) rfl hl.1 rfl (Nat.le_of_ble_eq_true rfl) dX9_place_34 ⟨by decide, by decide⟩) ?_
        refine x_top (x := (plc a2 a3 ((ix j).map dt) (-1))) (y := (if mThere g j a2 a3 = true then (mWh g (nI j) a2 a3 nm).1 else -1)) (by rw [hmc]; exact plc_mch (by omega) (by omega) hIv (by omega) _ _) ?_
        subst hQ
        exact x_iret E hr hlk (by simp only [mPlace, hIj, c_17, c_25, nI_clamp (n := j) (show j < 2 ^ 31 by omega), Bool.true_and]) dX9_place_37
      · skip
        have c_25 := bB_0.mp c_25
        refine lv_iconst (v := (-1)) hx hb dX9_place_28 (by decide) ?_
        subst hQ
        exact x_iret E hr hlk (by first | (simp [mPlace, fdB_none hn9]; done) | simp [mPlace, hi9, c_17, c_25]) dX9_place_29
set_option maxHeartbeats 4000000 in
set_option maxRecDepth 100000 in
theorem kX9_childrenAt (l : Launch) (D : va_G) (ca : Nat → ClassId) (cnt : Nat → Nat) (ad : Nat → Nat → Nat) (ct : Nat → Nat → va_E) (v : Nat → Int32) (g : Nat → Nat → Int32) (nw : Nat) (nb : Nat) (nc : Nat) (nm : Nat) (a1 : Int32) (a2 : Int32) (a3 : Int32) (hC : cRep ca cnt ad ct v g nw nb nc nm) (ha1 : ¬ a1 = -1) : Met l yX9_childrenAt (wz yX9_childrenAt cX9_childrenAt 6 (some .int)) (rmL 2 0 0) (va_Pc [.ref (ad 0 0), .int a1, .int a2, .int a3] (fun U => wq D cnt ad ct U.heap ∧ gK D ca U)) (QcRead (nI (mMany g nm a1 a2 a3 nc))) 0 0 (fun _ => False) := by
  refine x_met (by decide) (Nat.le_of_ble_eq_true rfl) ?_
  intro p e s m below meth c E hr hlk hnm hq ls hl
  generalize hav : ([.ref (ad 0 0), .int a1, .int a2, .int a3] : List Value).toArray = args at E ⊢
  have hx := E.1
  have hb := E.2.1
  have hown := E.2.2.2.1
  have hts := E.2.2.2.2.1
  have hw : wd D (wA cnt ad s.heap.size) s.heap cnt ad ct s.heap [] := wd.start hq
  generalize hQ : MQ below (QcRead (nI (mMany g nm a1 a2 a3 nc))) args s 0 0 (fun _ => False) = Q
  have hl : lv_has ls 6 [(0, .ref (ad 0 0)), (1, .int a1), (2, .int a2), (3, .int a3)] := hl
  obtain ⟨hO, hIv, tp, htp, hX, hT, hB, hCc, hN⟩ := id hC
  obtain ⟨hx0, hx1, hx2, hx3, fz0⟩ := id hX
  have hO5 := hO.2.2.2.2
  obtain ⟨hb4, hb5, fB, fz1, hBd⟩ := id hB
  obtain ⟨hc6, hc7, fC, dt, ow, ix, ak, fz2, hCd⟩ := id hCc
  obtain ⟨hn9, fN, lk, fz3, hNd⟩ := id hN
  obtain ⟨ht13, ht14, ht11, ht12, szq, nq, nrq, rtq, bq0, bq1, vsq, pq1, pq2, hsz, hsz2, hnq, hnr, hrt, fz11, fz11b, fz12, fz12b, fz13, fz14, hby, hrl⟩ := id hT
  refine lv_iconst (v := 0) hx hb dX9_childrenAt_0 (by decide) ?_
  refine lv_istore (lv' := [(4, .int 0), (0, .ref (ad 0 0)), (1, .int a1), (2, .int a2), (3, .int a3)]) hx hb dX9_childrenAt_1 hl (by decide) rfl (fun ls hl => ?_)
  refine lv_iconst (v := 0) hx hb dX9_childrenAt_3 (by decide) ?_
  refine lv_istore (lv' := [(5, .int 0), (4, .int 0), (0, .ref (ad 0 0)), (1, .int a1), (2, .int a2), (3, .int a3)]) hx hb dX9_childrenAt_4 hl (by decide) rfl (fun ls hl => ?_)
  have lp6 : ∀ (n : Nat) (i : Nat) (x4 : Int32), (i ≤ nc) → (x4 = nI (mMany g nm a1 a2 a3 i)) → (nc - i < n) → ∀ ls : Array Slot, lv_has ls 6 [(0, .ref (ad 0 0)), (1, .int a1), (2, .int a2), (3, .int a3), (4, .int x4), (5, .int (nI i))] → W p l e (rmL 2 0 0) s m args below meth c s.heap [] 0 0 Q (F0 m 6 ls []) := by
    intro n
    induction n with
    | zero =>
      intro i x4 hi h4 hfu ls hl
      exact absurd hfu (by omega)
    | succ n ih6 =>
      intro i x4 hi h4 hfu ls hl
      refine lv_iload hx hb dX9_childrenAt_6 (lv_at hl 5 rfl) ?_
      refine lv_aload_n hx hb dX9_childrenAt_8 rfl (lv_at hl 0 rfl) ?_
      refine x_get E hw 0 0 (hx0) fz0 cl_9 ly_9 2 (by decide) tw_82 rfl dX9_childrenAt_9 ?_
      refine lv_icmp_ge (tgt := 40) hx hb dX9_childrenAt_12 (by decide) (fun c_12 => ?_) (fun c_12 => ?_)
      · skip
        have hge : i = nc := by have q9 := (nI_leI (a := nc) (b := i) (by omega) (by omega)).mp c_12; omega
        subst hge
        refine lv_iload hx hb dX9_childrenAt_40 (lv_at hl 4 rfl) ?_
        subst hQ
        exact x_iret E hr hlk (h4) dX9_childrenAt_42
      · skip
        have hlt : i < nc := by have q9 := mt (nI_leI (a := nc) (b := i) (by omega) (by omega)).mpr c_12; omega
        obtain ⟨hfc, hcc, hhc, hchn, hmc, hak, how, hnd⟩ := hCd i hlt
        refine lv_aload_n hx hb dX9_childrenAt_15 rfl (lv_at hl 0 rfl) ?_
        refine x_get E hw 0 0 (hx0) fz0 cl_9 ly_9 7 (by decide) tw_87 rfl dX9_childrenAt_16 ?_
        refine lv_iload hx hb dX9_childrenAt_19 (lv_at hl 5 rfl) ?_
        refine x_ald (v := .ref (ad 6 i)) E hw 4 rfl 2 0 (hx2) fz2 i (rfl) (by omega) (by decide) dX9_childrenAt_21 (by rw [(hCd i (by omega)).1]; rfl) ?_
        refine lv_iload_n hx hb dX9_childrenAt_22 rfl (lv_at hl 2 rfl) ?_
        refine lv_iload_n hx hb dX9_childrenAt_23 rfl (lv_at hl 3 rfl) ?_
        refine x_read (x_runV (rest := []) E cbX1_placeOn tw_284 (kX1_placeOn l D ca cnt ad ct  i _ _ _ _ _ _ _ _ _ _  a2 a3 (by omega) (hcc) (hchn)) ⟨rfl, rfl, by decide, by decide⟩ (x_recv E hw cl_1 (by omega) hcc) (fun _ _ _ _ h => h) (fun U hU _ => by rw [hU]; exact hw.1) rfl hl.1 rfl (Nat.le_of_ble_eq_true rfl) dX9_childrenAt_24 ⟨by decide, by decide⟩) ?_
        refine x_top (x := (plc a2 a3 ((ix i).map dt) (-1))) (y := (if mThere g i a2 a3 = true then (mWh g (nI i) a2 a3 nm).1 else -1)) (by rw [hmc]; exact plc_mch (by omega) (by omega) hIv (by omega) _ _) ?_
        refine lv_iload_n hx hb dX9_childrenAt_27 rfl (lv_at hl 1 rfl) ?_
        refine lv_icmp_ne (tgt := 34) hx hb dX9_childrenAt_28 (by decide) (fun c_28 => ?_) (fun c_28 => ?_)
        · skip
          have hc_w := mt (x_ite ha1).mpr c_28
          refine lv_iinc (v := (nI (i + 1))) (lv' := [(5, .int (nI (i + 1))), (0, .ref (ad 0 0)), (1, .int a1), (2, .int a2), (3, .int a3), (4, .int x4)]) hx hb dX9_childrenAt_34 hl (k := 5) rfl (nI_1 _) (by decide) rfl (fun ls hl => ?_)
          refine lv_goto (tgt := 6) hx hb dX9_childrenAt_37 (by decide) ?_
          exact ih6 (i + 1) x4 (hlt) (by rw [h4]; simp [mMany, nI_1, hc_w]) (by omega) ls (lv_sub hl [1, 2, 3, 4, 5, 0] (rfl))
        · skip
          have hc_w := (x_ite ha1).mp c_28
          refine lv_iinc (v := (x4 + 1)) (lv' := [(4, .int (x4 + 1)), (0, .ref (ad 0 0)), (1, .int a1), (2, .int a2), (3, .int a3), (5, .int (nI i))]) hx hb dX9_childrenAt_31 hl (k := 4) rfl (rfl) (by decide) rfl (fun ls hl => ?_)
          refine lv_iinc (v := (nI (i + 1))) (lv' := [(5, .int (nI (i + 1))), (4, .int (x4 + 1)), (0, .ref (ad 0 0)), (1, .int a1), (2, .int a2), (3, .int a3)]) hx hb dX9_childrenAt_34 hl (k := 5) rfl (nI_1 _) (by decide) rfl (fun ls hl => ?_)
          refine lv_goto (tgt := 6) hx hb dX9_childrenAt_37 (by decide) ?_
          exact ih6 (i + 1) (x4 + 1) (hlt) (by rw [h4]; simp [mMany, nI_1, hc_w]) (by omega) ls (lv_sub hl [2, 3, 4, 5, 1, 0] (rfl))
  exact lp6 (nc + 1) 0 0 (Nat.zero_le _) (rfl) (by omega) ls (lv_sub hl [2, 3, 4, 5, 1, 0] (rfl))
set_option maxHeartbeats 4000000 in
set_option maxRecDepth 100000 in
theorem kX9_many (l : Launch) (D : va_G) (ca : Nat → ClassId) (cnt : Nat → Nat) (ad : Nat → Nat → Nat) (ct : Nat → Nat → va_E) (v : Nat → Int32) (g : Nat → Nat → Int32) (nw : Nat) (nb : Nat) (nc : Nat) (nm : Nat) (a1 : Int32) (a2 : Int32) (a3 : Int32) (hC : cRep ca cnt ad ct v g nw nb nc nm) : Met l yX9_many (wz yX9_many cX9_many 4 (some .int)) (rmL 3 0 0) (va_Pc [.ref (ad 0 0), .int a1, .int a2, .int a3] (fun U => wq D cnt ad ct U.heap ∧ gK D ca U)) (QcRead (if (isIn a1 0 15 && (isIn a2 0 (nI nw) && isIn a3 0 (nI nw))) = true then nI (mMany g nm a1 a2 a3 nc) else -1)) 0 0 (fun _ => False) := by
  refine x_met (by decide) (Nat.le_of_ble_eq_true rfl) ?_
  intro p e s m below meth c E hr hlk hnm hq ls hl
  generalize hav : ([.ref (ad 0 0), .int a1, .int a2, .int a3] : List Value).toArray = args at E ⊢
  have hx := E.1
  have hb := E.2.1
  have hown := E.2.2.2.1
  have hts := E.2.2.2.2.1
  have hw : wd D (wA cnt ad s.heap.size) s.heap cnt ad ct s.heap [] := wd.start hq
  generalize hQ : MQ below (QcRead (if (isIn a1 0 15 && (isIn a2 0 (nI nw) && isIn a3 0 (nI nw))) = true then nI (mMany g nm a1 a2 a3 nc) else -1)) args s 0 0 (fun _ => False) = Q
  have hl : lv_has ls 4 [(0, .ref (ad 0 0)), (1, .int a1), (2, .int a2), (3, .int a3)] := hl
  obtain ⟨hO, hIv, tp, htp, hX, hT, hB, hCc, hN⟩ := id hC
  obtain ⟨hx0, hx1, hx2, hx3, fz0⟩ := id hX
  have hO5 := hO.2.2.2.2
  obtain ⟨hb4, hb5, fB, fz1, hBd⟩ := id hB
  obtain ⟨hc6, hc7, fC, dt, ow, ix, ak, fz2, hCd⟩ := id hCc
  obtain ⟨hn9, fN, lk, fz3, hNd⟩ := id hN
  obtain ⟨ht13, ht14, ht11, ht12, szq, nq, nrq, rtq, bq0, bq1, vsq, pq1, pq2, hsz, hsz2, hnq, hnr, hrt, fz11, fz11b, fz12, fz12b, fz13, fz14, hby, hrl⟩ := id hT
  refine lv_iload_n hx hb dX9_many_0 rfl (lv_at hl 1 rfl) ?_
  refine x_read (x_runS (rest := []) E cbX9_isPlace tw_296 (kX9_isPlace l D ca a1 ) ⟨rfl, rfl, by decide, by decide⟩ (fun _ _ _ _ h => h) (fun _ _ _ => trivial) rfl hl.1 rfl (Nat.le_of_ble_eq_true rfl) dX9_many_1 ⟨by decide, by decide⟩) ?_
  refine lv_if_eq (tgt := 23) hx hb dX9_many_4 (by decide) (fun c_4 => ?_) (fun c_4 => ?_)
  · skip
    have c_4 := bB_0.mp c_4
    refine lv_iconst (v := (-1)) hx hb dX9_many_23 (by decide) ?_
    subst hQ
    exact x_iret E hr hlk (by simp [c_4]) dX9_many_24
  · skip
    have c_4 := bB_n0.mp c_4
    refine lv_aload_n hx hb dX9_many_7 rfl (lv_at hl 0 rfl) ?_
    refine lv_iload_n hx hb dX9_many_8 rfl (lv_at hl 2 rfl) ?_
    refine x_read (x_runV (rest := []) E cbX9_isPast tw_313 (kX9_isPast l D ca cnt ad ct v g nw nb nc nm   a2 (hC)) ⟨rfl, rfl, by decide, by decide⟩ (x_recv E hw cl_9 (hx0) fz0) (fun _ _ _ _ h => h) (fun U hU _ => by rw [hU]; exact hw.1) rfl hl.1 rfl (Nat.le_of_ble_eq_true rfl) dX9_many_9 ⟨by decide, by decide⟩) ?_
    refine lv_if_eq (tgt := 23) hx hb dX9_many_12 (by decide) (fun c_12 => ?_) (fun c_12 => ?_)
    · skip
      have c_12 := bB_0.mp c_12
      refine lv_iconst (v := (-1)) hx hb dX9_many_23 (by decide) ?_
      subst hQ
      exact x_iret E hr hlk (by simp [c_4, c_12]) dX9_many_24
    · skip
      have c_12 := bB_n0.mp c_12
      refine lv_aload_n hx hb dX9_many_15 rfl (lv_at hl 0 rfl) ?_
      refine lv_iload_n hx hb dX9_many_16 rfl (lv_at hl 3 rfl) ?_
      refine x_read (x_runV (rest := []) E cbX9_isPast tw_313 (kX9_isPast l D ca cnt ad ct v g nw nb nc nm   a3 (hC)) ⟨rfl, rfl, by decide, by decide⟩ (x_recv E hw cl_9 (hx0) fz0) (fun _ _ _ _ h => h) (fun U hU _ => by rw [hU]; exact hw.1) rfl hl.1 rfl (Nat.le_of_ble_eq_true rfl) dX9_many_17 ⟨by decide, by decide⟩) ?_
      refine lv_if_ne (tgt := 25) hx hb dX9_many_20 (by decide) (fun c_20 => ?_) (fun c_20 => ?_)
      · skip
        have c_20 := bB_n0.mp c_20
        refine lv_aload_n hx hb dX9_many_25 rfl (lv_at hl 0 rfl) ?_
        refine lv_iload_n hx hb dX9_many_26 rfl (lv_at hl 1 rfl) ?_
        refine lv_iload_n hx hb dX9_many_27 rfl (lv_at hl 2 rfl) ?_
        refine lv_iload_n hx hb dX9_many_28 rfl (lv_at hl 3 rfl) ?_
        refine x_read (x_runV (rest := []) E cbX9_childrenAt tw_280 (kX9_childrenAt l D ca cnt ad ct v g nw nb nc nm   a1 a2 a3 (hC) (fun q => by rw [q] at c_4; exact absurd c_4 (by decide))) ⟨rfl, rfl, by decide, by decide⟩ (x_recv E hw cl_9 (hx0) fz0) (fun _ _ _ _ h => h) (fun U hU _ => by rw [hU]; exact hw.1) rfl hl.1 rfl (Nat.le_of_ble_eq_true rfl) dX9_many_29 ⟨by decide, by decide⟩) ?_
        subst hQ
        exact x_iret E hr hlk (by simp [c_4, c_12, c_20]) dX9_many_32
      · skip
        have c_20 := bB_0.mp c_20
        refine lv_iconst (v := (-1)) hx hb dX9_many_23 (by decide) ?_
        subst hQ
        exact x_iret E hr hlk (by simp [c_4, c_12, c_20]) dX9_many_24
set_option maxHeartbeats 4000000 in
set_option maxRecDepth 100000 in
theorem kX9_isGone (l : Launch) (D : va_G) (ca : Nat → ClassId) (cnt : Nat → Nat) (ad : Nat → Nat → Nat) (ct : Nat → Nat → va_E) (v : Nat → Int32) (g : Nat → Nat → Int32) (nw : Nat) (nb : Nat) (nc : Nat) (nm : Nat) (c1 : Nat) (a2 : Int32) (hC : cRep ca cnt ad ct v g nw nb nc nm) (hj : c1 < nc) : Met l yX9_isGone (wz yX9_isGone cX9_isGone 4 (some .boolean)) (rmL 2 0 0) (va_Pc [.ref (ad 0 0), .ref (ad 6 c1), .int a2] (fun U => wq D cnt ad ct U.heap ∧ gK D ca U)) (QcRead (bB (cGone g nw nm c1 a2))) 0 0 (fun _ => False) := by
  refine x_met (by decide) (Nat.le_of_ble_eq_true rfl) ?_
  intro p e s m below meth c E hr hlk hnm hq ls hl
  generalize hav : ([.ref (ad 0 0), .ref (ad 6 c1), .int a2] : List Value).toArray = args at E ⊢
  have hx := E.1
  have hb := E.2.1
  have hown := E.2.2.2.1
  have hts := E.2.2.2.2.1
  have hw : wd D (wA cnt ad s.heap.size) s.heap cnt ad ct s.heap [] := wd.start hq
  generalize hQ : MQ below (QcRead (bB (cGone g nw nm c1 a2))) args s 0 0 (fun _ => False) = Q
  have hl : lv_has ls 4 [(0, .ref (ad 0 0)), (1, .ref (ad 6 c1)), (2, .int a2)] := hl
  obtain ⟨hO, hIv, tp, htp, hX, hT, hB, hCc, hN⟩ := id hC
  obtain ⟨hx0, hx1, hx2, hx3, fz0⟩ := id hX
  have hO5 := hO.2.2.2.2
  obtain ⟨hb4, hb5, fB, fz1, hBd⟩ := id hB
  obtain ⟨hc6, hc7, fC, dt, ow, ix, ak, fz2, hCd⟩ := id hCc
  obtain ⟨hn9, fN, lk, fz3, hNd⟩ := id hN
  obtain ⟨ht13, ht14, ht11, ht12, szq, nq, nrq, rtq, bq0, bq1, vsq, pq1, pq2, hsz, hsz2, hnq, hnr, hrt, fz11, fz11b, fz12, fz12b, fz13, fz14, hby, hrl⟩ := id hT
  obtain ⟨hfc, hcc, hhc, hchn, hmc, hak, how, hnd⟩ := hCd c1 hj
  refine lv_aload_n hx hb dX9_isGone_0 rfl (lv_at hl 1 rfl) ?_
  refine lv_iload_n hx hb dX9_isGone_1 rfl (lv_at hl 2 rfl) ?_
  refine lv_aload_n hx hb dX9_isGone_2 rfl (lv_at hl 0 rfl) ?_
  refine x_get E hw 0 0 (hx0) fz0 cl_9 ly_9 0 (by decide) tw_80 rfl dX9_isGone_3 ?_
  refine x_read (x_runV (rest := []) E cbX1_placeOn tw_284 (kX1_placeOn l D ca cnt ad ct  c1 _ _ _ _ _ _ _ _ _ _  a2 (nI nw) (by omega) (hcc) (hchn)) ⟨rfl, rfl, by decide, by decide⟩ (x_recv E hw cl_1 (by omega) hcc) (fun _ _ _ _ h => h) (fun U hU _ => by rw [hU]; exact hw.1) rfl hl.1 rfl (Nat.le_of_ble_eq_true rfl) dX9_isGone_6 ⟨by decide, by decide⟩) ?_
  refine x_top (x := (plc a2 (nI nw) ((ix c1).map dt) (-1))) (y := (plc a2 (nI nw) (mch g c1 nm) (-1))) (by rw [hmc]) ?_
  refine lv_istore_n (lv' := [(3, .int (plc a2 (nI nw) (mch g c1 nm) (-1))), (0, .ref (ad 0 0)), (1, .ref (ad 6 c1)), (2, .int a2)]) hx hb dX9_isGone_9 rfl hl (by decide) rfl (fun ls hl => ?_)
  refine lv_iload_n hx hb dX9_isGone_10 rfl (lv_at hl 0 rfl) ?_
  refine lv_bipush (v := 14) hx hb dX9_isGone_11 (by decide) ?_
  refine lv_icmp_eq (tgt := 22) hx hb dX9_isGone_13 (by decide) (fun c_13 => ?_) (fun c_13 => ?_)
  · skip
    refine lv_iconst (v := 1) hx hb dX9_isGone_22 (by decide) ?_
    refine lv_goto (tgt := 27) hx hb dX9_isGone_23 (by decide) ?_
    subst hQ
    exact x_zret E hr hlk (by decide) (by simp [bB, cGone, c_13]) dX9_isGone_27
  · skip
    refine lv_iload_n hx hb dX9_isGone_16 rfl (lv_at hl 0 rfl) ?_
    refine lv_bipush (v := 15) hx hb dX9_isGone_17 (by decide) ?_
    refine lv_icmp_ne (tgt := 26) hx hb dX9_isGone_19 (by decide) (fun c_19 => ?_) (fun c_19 => ?_)
    · skip
      refine lv_iconst (v := 0) hx hb dX9_isGone_26 (by decide) ?_
      subst hQ
      exact x_zret E hr hlk (by decide) (by simp [bB, cGone, c_13, c_19]) dX9_isGone_27
    · skip
      refine lv_iconst (v := 1) hx hb dX9_isGone_22 (by decide) ?_
      refine lv_goto (tgt := 27) hx hb dX9_isGone_23 (by decide) ?_
      subst hQ
      exact x_zret E hr hlk (by decide) (by simp [bB, cGone, c_13, c_19]) dX9_isGone_27
set_option maxHeartbeats 4000000 in
set_option maxRecDepth 100000 in
theorem kX1_mayAsk (l : Launch) (D : va_G) (ca : Nat → ClassId) (cnt : Nat → Nat) (ad : Nat → Nat → Nat) (ct : Nat → Nat → va_E) (c1 : Nat) (t0 : Int32) (t1 : Int32) (t2 : Int32) (t4 : Int32) (t5 : Int32) (t7 : Int32) (t8 : Int32) (t9 : Int32) (ix : List Nat) (dt : Nat → MV) (a1 : Int32) (hci : c1 < cnt 6) (hcc : ct 6 c1 = .inr (1, [.int t0, .int t1, .int t2, .ref (ad 7 c1), .int t4, .int t5, va_rf (Option.map (ad 8) (ix[0]?)), .int t7, .int t8, .int t9])) : Met l yX1_mayAsk (wz yX1_mayAsk cX1_mayAsk 2 (some .boolean)) (rmL 1 0 0) (va_Pc [.ref (ad 6 c1), .int a1] (fun U => wq D cnt ad ct U.heap ∧ gK D ca U)) (QcRead (bB (!(decide (((t9 >>> (a1 &&& 31)) &&& 1) = 0))))) 0 0 (fun _ => False) := by
  refine x_met (by decide) (Nat.le_of_ble_eq_true rfl) ?_
  intro p e s m below meth c E hr hlk hnm hq ls hl
  generalize hav : ([.ref (ad 6 c1), .int a1] : List Value).toArray = args at E ⊢
  have hx := E.1
  have hb := E.2.1
  have hown := E.2.2.2.1
  have hts := E.2.2.2.2.1
  have hw : wd D (wA cnt ad s.heap.size) s.heap cnt ad ct s.heap [] := wd.start hq
  generalize hQ : MQ below (QcRead (bB (!(decide (((t9 >>> (a1 &&& 31)) &&& 1) = 0))))) args s 0 0 (fun _ => False) = Q
  have hl : lv_has ls 2 [(0, .ref (ad 6 c1)), (1, .int a1)] := hl
  refine lv_aload_n hx hb dX1_mayAsk_0 rfl (lv_at hl 0 rfl) ?_
  refine x_get E hw 6 c1 (hci) hcc cl_1 ly_1 9 (by decide) tw_245 rfl dX1_mayAsk_1 ?_
  refine lv_iload_n hx hb dX1_mayAsk_4 rfl (lv_at hl 1 rfl) ?_
  refine lv_ishr hx hb dX1_mayAsk_5 ?_
  refine lv_iconst (v := 1) hx hb dX1_mayAsk_6 (by decide) ?_
  refine lv_iand hx hb dX1_mayAsk_7 ?_
  refine lv_if_eq (tgt := 15) hx hb dX1_mayAsk_8 (by decide) (fun c_8 => ?_) (fun c_8 => ?_)
  · skip
    refine lv_iconst (v := 0) hx hb dX1_mayAsk_15 (by decide) ?_
    subst hQ
    exact x_zret E hr hlk (by decide) (by simp [bB, c_8]) dX1_mayAsk_16
  · skip
    refine lv_iconst (v := 1) hx hb dX1_mayAsk_11 (by decide) ?_
    refine lv_goto (tgt := 16) hx hb dX1_mayAsk_12 (by decide) ?_
    subst hQ
    exact x_zret E hr hlk (by decide) (by simp [bB, c_8]) dX1_mayAsk_16
set_option maxHeartbeats 4000000 in
set_option maxRecDepth 100000 in
theorem kX9_ask (l : Launch) (D : va_G) (ca : Nat → ClassId) (cnt : Nat → Nat) (ad : Nat → Nat → Nat) (ct : Nat → Nat → va_E) (v : Nat → Int32) (g : Nat → Nat → Int32) (nw : Nat) (nb : Nat) (nc : Nat) (nm : Nat) (a1 : Int32) (a2 : Int32) (hC : cRep ca cnt ad ct v g nw nb nc nm) : Met l yX9_ask (wz yX9_ask cX9_ask 4 (some .int)) (rmL 3 0 0) (va_Pc [.ref (ad 0 0), .int a1, .int a2] (fun U => wq D cnt ad ct U.heap ∧ gK D ca U)) (QcRead (mAsk g nc a1 a2)) 0 0 (fun _ => False) := by
  refine x_met (by decide) (Nat.le_of_ble_eq_true rfl) ?_
  intro p e s m below meth c E hr hlk hnm hq ls hl
  generalize hav : ([.ref (ad 0 0), .int a1, .int a2] : List Value).toArray = args at E ⊢
  have hx := E.1
  have hb := E.2.1
  have hown := E.2.2.2.1
  have hts := E.2.2.2.2.1
  have hw : wd D (wA cnt ad s.heap.size) s.heap cnt ad ct s.heap [] := wd.start hq
  generalize hQ : MQ below (QcRead (mAsk g nc a1 a2)) args s 0 0 (fun _ => False) = Q
  have hl : lv_has ls 4 [(0, .ref (ad 0 0)), (1, .int a1), (2, .int a2)] := hl
  obtain ⟨hO, hIv, tp, htp, hX, hT, hB, hCc, hN⟩ := id hC
  obtain ⟨hx0, hx1, hx2, hx3, fz0⟩ := id hX
  have hO5 := hO.2.2.2.2
  obtain ⟨hb4, hb5, fB, fz1, hBd⟩ := id hB
  obtain ⟨hc6, hc7, fC, dt, ow, ix, ak, fz2, hCd⟩ := id hCc
  obtain ⟨hn9, fN, lk, fz3, hNd⟩ := id hN
  obtain ⟨ht13, ht14, ht11, ht12, szq, nq, nrq, rtq, bq0, bq1, vsq, pq1, pq2, hsz, hsz2, hnq, hnr, hrt, fz11, fz11b, fz12, fz12b, fz13, fz14, hby, hrl⟩ := id hT
  refine lv_aload_n hx hb dX9_ask_0 rfl (lv_at hl 0 rfl) ?_
  refine lv_iload_n hx hb dX9_ask_1 rfl (lv_at hl 2 rfl) ?_
  refine x_readq (x_runV (rest := []) E cbX9_findChild tw_292 (kX9_findChild l D ca cnt ad ct v g nw nb nc nm   a2 (hC)) ⟨rfl, rfl, by decide, by decide⟩ (x_recv E hw cl_9 (hx0) fz0) (fun _ _ _ _ h => h) (fun U hU _ => by rw [hU]; exact hw.1) rfl hl.1 rfl (Nat.le_of_ble_eq_true rfl) dX9_ask_2 ⟨by decide, by decide⟩) ?_
  refine x_astore_nQ (lv' := [(3, va_rf (Option.map (ad 6) (fdB nc a2))), (0, .ref (ad 0 0)), (1, .int a1), (2, .int a2)]) hx hb dX9_ask_5 rfl hl (by decide) rfl (fun ls hl => ?_)
  refine x_aload_nQ hx hb dX9_ask_6 rfl (lv_at hl 0 rfl) ?_
  rcases x_opt (fdB nc a2) with hn7 | ⟨j, hi7⟩
  · skip
    rw [hn7]
    rw [hn7] at hl
    have hl : lv_has ls 4 [(3, .null), (0, .ref (ad 0 0)), (1, .int a1), (2, .int a2)] := hl
    refine lv_ifnullN (tgt := 17) hx hb dX9_ask_7 (by decide) ?_
    refine lv_iconst (v := (-1)) hx hb dX9_ask_17 (by decide) ?_
    subst hQ
    exact x_iret E hr hlk (by first | (simp [mAsk, mBoth, fdB_none hn7]; done) | simp [mAsk, mBoth, hn7]) dX9_ask_18
  · skip
    rw [hi7]
    rw [hi7] at hl
    have hl : lv_has ls 4 [(3, .ref (ad 6 j)), (0, .ref (ad 0 0)), (1, .int a1), (2, .int a2)] := hl
    refine lv_ifnull hx hb dX9_ask_7 ?_
    obtain ⟨hj, rfl, hIj⟩ := fdB_some (by omega) hi7
    obtain ⟨hfc, hcc, hhc, hchn, hmc, hak, how, hnd⟩ := hCd j hj
    refine lv_iload_n hx hb dX9_ask_10 rfl (lv_at hl 2 rfl) ?_
    refine x_read (x_runS (rest := []) E cbX9_isWho tw_513 (kX9_isWho l D ca a1 ) ⟨rfl, rfl, by decide, by decide⟩ (fun _ _ _ _ h => h) (fun _ _ _ => trivial) rfl hl.1 rfl (Nat.le_of_ble_eq_true rfl) dX9_ask_11 ⟨by decide, by decide⟩) ?_
    refine lv_if_ne (tgt := 19) hx hb dX9_ask_14 (by decide) (fun c_14 => ?_) (fun c_14 => ?_)
    · skip
      have c_14 := bB_n0.mp c_14
      obtain ⟨w1, -, hw1, rfl⟩ := isIn_rng (lo := 0) (hi := 19) (by decide) (by decide) c_14
      refine lv_aload_n hx hb dX9_ask_19 rfl (lv_at hl 0 rfl) ?_
      refine lv_iload_n hx hb dX9_ask_20 rfl (lv_at hl 2 rfl) ?_
      refine x_read (x_runV (rest := []) E cbX1_mayAsk tw_516 (kX1_mayAsk l D ca cnt ad ct  j _ _ _ _ _ _ _ _ (ix j) dt (nI w1) (by omega) (hcc)) ⟨rfl, rfl, by decide, by decide⟩ (x_recv E hw cl_1 (by omega) hcc) (fun _ _ _ _ h => h) (fun U hU _ => by rw [hU]; exact hw.1) rfl hl.1 rfl (Nat.le_of_ble_eq_true rfl) dX9_ask_21 ⟨by decide, by decide⟩) ?_
      have hc_a := hak w1 (by omega)
      refine lv_if_eq (tgt := 34) hx hb dX9_ask_24 (by decide) (fun c_24 => ?_) (fun c_24 => ?_)
      · skip
        have c_24 := bB_0.mp c_24
        refine lv_iconst (v := 0) hx hb dX9_ask_34 (by decide) ?_
        subst hQ
        exact x_iret E hr hlk (by simp only [Bool.not_eq_true', Bool.not_eq_false', decide_eq_true_eq, decide_eq_false_iff_not] at c_24; simp [mAsk, mBoth, hIj, c_14, nI_clamp (n := j) (by omega), nI_clamp (n := w1) (by omega), ← hc_a, c_24]) dX9_ask_35
      · skip
        have c_24 := bB_n0.mp c_24
        refine lv_aload_n hx hb dX9_ask_27 rfl (lv_at hl 0 rfl) ?_
        refine x_get E hw 6 j (by omega) hcc cl_1 ly_1 8 (by decide) tw_244 rfl dX9_ask_28 ?_
        refine lv_goto (tgt := 35) hx hb dX9_ask_31 (by decide) ?_
        subst hQ
        exact x_iret E hr hlk (by simp only [Bool.not_eq_true', Bool.not_eq_false', decide_eq_true_eq, decide_eq_false_iff_not] at c_24; simp [mAsk, mBoth, hIj, c_14, nI_clamp (n := j) (by omega), nI_clamp (n := w1) (by omega), ← hc_a, c_24]) dX9_ask_35
    · skip
      have c_14 := bB_0.mp c_14
      refine lv_iconst (v := (-1)) hx hb dX9_ask_17 (by decide) ?_
      subst hQ
      exact x_iret E hr hlk (by first | (simp [mAsk, mBoth, fdB_none hn7]; done) | simp [mAsk, mBoth, hi7, c_14]) dX9_ask_18
set_option maxHeartbeats 4000000 in
set_option maxRecDepth 100000 in
theorem kX9_guess (l : Launch) (D : va_G) (ca : Nat → ClassId) (cnt : Nat → Nat) (ad : Nat → Nat → Nat) (ct : Nat → Nat → va_E) (v : Nat → Int32) (g : Nat → Nat → Int32) (nw : Nat) (nb : Nat) (nc : Nat) (nm : Nat) (a1 : Int32) (a2 : Int32) (a3 : Int32) (hC : cRep ca cnt ad ct v g nw nb nc nm) : Met l yX9_guess (wz yX9_guess cX9_guess 5 (some .int)) (rmL 3 0 0) (va_Pc [.ref (ad 0 0), .int a1, .int a2, .int a3] (fun U => wq D cnt ad ct U.heap ∧ gK D ca U)) (QcRead (mGuess g nc a1 a2 a3)) 0 0 (fun _ => False) := by
  refine x_met (by decide) (Nat.le_of_ble_eq_true rfl) ?_
  intro p e s m below meth c E hr hlk hnm hq ls hl
  generalize hav : ([.ref (ad 0 0), .int a1, .int a2, .int a3] : List Value).toArray = args at E ⊢
  have hx := E.1
  have hb := E.2.1
  have hown := E.2.2.2.1
  have hts := E.2.2.2.2.1
  have hw : wd D (wA cnt ad s.heap.size) s.heap cnt ad ct s.heap [] := wd.start hq
  generalize hQ : MQ below (QcRead (mGuess g nc a1 a2 a3)) args s 0 0 (fun _ => False) = Q
  have hl : lv_has ls 5 [(0, .ref (ad 0 0)), (1, .int a1), (2, .int a2), (3, .int a3)] := hl
  obtain ⟨hO, hIv, tp, htp, hX, hT, hB, hCc, hN⟩ := id hC
  obtain ⟨hx0, hx1, hx2, hx3, fz0⟩ := id hX
  have hO5 := hO.2.2.2.2
  obtain ⟨hb4, hb5, fB, fz1, hBd⟩ := id hB
  obtain ⟨hc6, hc7, fC, dt, ow, ix, ak, fz2, hCd⟩ := id hCc
  obtain ⟨hn9, fN, lk, fz3, hNd⟩ := id hN
  obtain ⟨ht13, ht14, ht11, ht12, szq, nq, nrq, rtq, bq0, bq1, vsq, pq1, pq2, hsz, hsz2, hnq, hnr, hrt, fz11, fz11b, fz12, fz12b, fz13, fz14, hby, hrl⟩ := id hT
  refine lv_aload_n hx hb dX9_guess_0 rfl (lv_at hl 0 rfl) ?_
  refine lv_iload_n hx hb dX9_guess_1 rfl (lv_at hl 2 rfl) ?_
  refine x_readq (x_runV (rest := []) E cbX9_findChild tw_292 (kX9_findChild l D ca cnt ad ct v g nw nb nc nm   a2 (hC)) ⟨rfl, rfl, by decide, by decide⟩ (x_recv E hw cl_9 (hx0) fz0) (fun _ _ _ _ h => h) (fun U hU _ => by rw [hU]; exact hw.1) rfl hl.1 rfl (Nat.le_of_ble_eq_true rfl) dX9_guess_2 ⟨by decide, by decide⟩) ?_
  refine x_astoreQ (lv' := [(4, va_rf (Option.map (ad 6) (fdB nc a2))), (0, .ref (ad 0 0)), (1, .int a1), (2, .int a2), (3, .int a3)]) hx hb dX9_guess_5 hl (by decide) rfl (fun ls hl => ?_)
  refine x_aloadQ hx hb dX9_guess_7 (lv_at hl 0 rfl) ?_
  rcases x_opt (fdB nc a2) with hn9 | ⟨j, hi9⟩
  · skip
    rw [hn9]
    rw [hn9] at hl
    have hl : lv_has ls 5 [(4, .null), (0, .ref (ad 0 0)), (1, .int a1), (2, .int a2), (3, .int a3)] := hl
    refine lv_ifnullN (tgt := 29) hx hb dX9_guess_9 (by decide) ?_
    refine lv_iconst (v := (-1)) hx hb dX9_guess_29 (by decide) ?_
    subst hQ
    exact x_iret E hr hlk (by first | (simp [mGuess, mBoth, fdB_none hn9]; done) | simp [mGuess, mBoth, hn9]) dX9_guess_30
  · skip
    rw [hi9]
    rw [hi9] at hl
    have hl : lv_has ls 5 [(4, .ref (ad 6 j)), (0, .ref (ad 0 0)), (1, .int a1), (2, .int a2), (3, .int a3)] := hl
    refine lv_ifnull hx hb dX9_guess_9 ?_
    obtain ⟨hj, rfl, hIj⟩ := fdB_some (by omega) hi9
    obtain ⟨hfc, hcc, hhc, hchn, hmc, hak, how, hnd⟩ := hCd j hj
    refine lv_iload_n hx hb dX9_guess_12 rfl (lv_at hl 2 rfl) ?_
    refine x_read (x_runS (rest := []) E cbX9_isWho tw_513 (kX9_isWho l D ca a1 ) ⟨rfl, rfl, by decide, by decide⟩ (fun _ _ _ _ h => h) (fun _ _ _ => trivial) rfl hl.1 rfl (Nat.le_of_ble_eq_true rfl) dX9_guess_13 ⟨by decide, by decide⟩) ?_
    refine lv_if_eq (tgt := 29) hx hb dX9_guess_16 (by decide) (fun c_16 => ?_) (fun c_16 => ?_)
    · skip
      have c_16 := bB_0.mp c_16
      refine lv_iconst (v := (-1)) hx hb dX9_guess_29 (by decide) ?_
      subst hQ
      exact x_iret E hr hlk (by first | (simp [mGuess, mBoth, fdB_none hn9]; done) | simp [mGuess, mBoth, hi9, c_16]) dX9_guess_30
    · skip
      have c_16 := bB_n0.mp c_16
      obtain ⟨w1, -, hw1, rfl⟩ := isIn_rng (lo := 0) (hi := 19) (by decide) (by decide) c_16
      refine lv_iload_n hx hb dX9_guess_19 rfl (lv_at hl 4 rfl) ?_
      refine lv_iconst (v := 1) hx hb dX9_guess_20 (by decide) ?_
      refine lv_ldc hx hb hown (hts _ tw_508) dX9_guess_21 ?_
      refine x_read (x_runS (rest := []) E cbX9_within tw_121 (kX9_within l D ca a3 1 1000000 ) ⟨rfl, rfl, by decide, by decide⟩ (fun _ _ _ _ h => h) (fun _ _ _ => trivial) rfl hl.1 rfl (Nat.le_of_ble_eq_true rfl) dX9_guess_23 ⟨by decide, by decide⟩) ?_
      refine lv_if_ne (tgt := 31) hx hb dX9_guess_26 (by decide) (fun c_26 => ?_) (fun c_26 => ?_)
      · skip
        have c_26 := bB_n0.mp c_26
        refine lv_aload hx hb dX9_guess_31 (lv_at hl 0 rfl) ?_
        refine lv_iload_n hx hb dX9_guess_33 rfl (lv_at hl 2 rfl) ?_
        refine x_read (x_runV (rest := []) E cbX1_mayAsk tw_516 (kX1_mayAsk l D ca cnt ad ct  j _ _ _ _ _ _ _ _ (ix j) dt (nI w1) (by omega) (hcc)) ⟨rfl, rfl, by decide, by decide⟩ (x_recv E hw cl_1 (by omega) hcc) (fun _ _ _ _ h => h) (fun U hU _ => by rw [hU]; exact hw.1) rfl hl.1 rfl (Nat.le_of_ble_eq_true rfl) dX9_guess_34 ⟨by decide, by decide⟩) ?_
        have hc_a := hak w1 (by omega)
        refine lv_if_eq (tgt := 53) hx hb dX9_guess_37 (by decide) (fun c_37 => ?_) (fun c_37 => ?_)
        · skip
          have c_37 := bB_0.mp c_37
          refine lv_iconst (v := 0) hx hb dX9_guess_53 (by decide) ?_
          subst hQ
          exact x_iret E hr hlk (by simp only [Bool.not_eq_true', Bool.not_eq_false', decide_eq_true_eq, decide_eq_false_iff_not] at c_37; simp [mGuess, mBoth, bB, hIj, c_16, c_26, nI_clamp (n := j) (by omega), nI_clamp (n := w1) (by omega), ← hc_a, hi9, c_16, c_26, c_37]) dX9_guess_54
        · skip
          have c_37 := bB_n0.mp c_37
          refine lv_aload hx hb dX9_guess_40 (lv_at hl 0 rfl) ?_
          refine x_get E hw 6 j (by omega) hcc cl_1 ly_1 8 (by decide) tw_244 rfl dX9_guess_42 ?_
          refine lv_iload_n hx hb dX9_guess_45 rfl (lv_at hl 4 rfl) ?_
          refine lv_icmp_ne (tgt := 53) hx hb dX9_guess_46 (by decide) (fun c_46 => ?_) (fun c_46 => ?_)
          · skip
            refine lv_iconst (v := 0) hx hb dX9_guess_53 (by decide) ?_
            subst hQ
            exact x_iret E hr hlk (by simp only [Bool.not_eq_true', Bool.not_eq_false', decide_eq_true_eq, decide_eq_false_iff_not] at c_37; simp [mGuess, mBoth, bB, hIj, c_16, c_26, nI_clamp (n := j) (by omega), nI_clamp (n := w1) (by omega), ← hc_a, hi9, c_16, c_26, c_37, c_46]) dX9_guess_54
          · skip
            refine lv_iconst (v := 1) hx hb dX9_guess_49 (by decide) ?_
            refine lv_goto (tgt := 54) hx hb dX9_guess_50 (by decide) ?_
            subst hQ
            exact x_iret E hr hlk (by simp only [Bool.not_eq_true', Bool.not_eq_false', decide_eq_true_eq, decide_eq_false_iff_not] at c_37; simp [mGuess, mBoth, bB, hIj, c_16, c_26, nI_clamp (n := j) (by omega), nI_clamp (n := w1) (by omega), ← hc_a, hi9, c_16, c_26, c_37, c_46]) dX9_guess_54
      · skip
        have c_26 := bB_0.mp c_26
        refine lv_iconst (v := (-1)) hx hb dX9_guess_29 (by decide) ?_
        subst hQ
        exact x_iret E hr hlk (by first | (simp [mGuess, mBoth, fdB_none hn9]; done) | simp [mGuess, mBoth, hi9, c_16, c_26]) dX9_guess_30
set_option maxHeartbeats 4000000 in
set_option maxRecDepth 100000 in
theorem kX9_told (l : Launch) (D : va_G) (ca : Nat → ClassId) (cnt : Nat → Nat) (ad : Nat → Nat → Nat) (ct : Nat → Nat → va_E) (v : Nat → Int32) (g : Nat → Nat → Int32) (nw : Nat) (nb : Nat) (nc : Nat) (nm : Nat) (a1 : Int32) (a2 : Int32) (hC : cRep ca cnt ad ct v g nw nb nc nm) : Met l yX9_told (wz yX9_told cX9_told 4 (some .int)) (rmL 3 0 0) (va_Pc [.ref (ad 0 0), .int a1, .int a2] (fun U => wq D cnt ad ct U.heap ∧ gK D ca U)) (QcRead (mTold g nc nm a1 a2)) 0 0 (fun _ => False) := by
  refine x_met (by decide) (Nat.le_of_ble_eq_true rfl) ?_
  intro p e s m below meth c E hr hlk hnm hq ls hl
  generalize hav : ([.ref (ad 0 0), .int a1, .int a2] : List Value).toArray = args at E ⊢
  have hx := E.1
  have hb := E.2.1
  have hown := E.2.2.2.1
  have hts := E.2.2.2.2.1
  have hw : wd D (wA cnt ad s.heap.size) s.heap cnt ad ct s.heap [] := wd.start hq
  generalize hQ : MQ below (QcRead (mTold g nc nm a1 a2)) args s 0 0 (fun _ => False) = Q
  have hl : lv_has ls 4 [(0, .ref (ad 0 0)), (1, .int a1), (2, .int a2)] := hl
  obtain ⟨hO, hIv, tp, htp, hX, hT, hB, hCc, hN⟩ := id hC
  obtain ⟨hx0, hx1, hx2, hx3, fz0⟩ := id hX
  have hO5 := hO.2.2.2.2
  obtain ⟨hb4, hb5, fB, fz1, hBd⟩ := id hB
  obtain ⟨hc6, hc7, fC, dt, ow, ix, ak, fz2, hCd⟩ := id hCc
  obtain ⟨hn9, fN, lk, fz3, hNd⟩ := id hN
  obtain ⟨ht13, ht14, ht11, ht12, szq, nq, nrq, rtq, bq0, bq1, vsq, pq1, pq2, hsz, hsz2, hnq, hnr, hrt, fz11, fz11b, fz12, fz12b, fz13, fz14, hby, hrl⟩ := id hT
  refine lv_aload_n hx hb dX9_told_0 rfl (lv_at hl 0 rfl) ?_
  refine lv_iload_n hx hb dX9_told_1 rfl (lv_at hl 1 rfl) ?_
  refine x_readq (x_runV (rest := []) E cbX9_findChild tw_292 (kX9_findChild l D ca cnt ad ct v g nw nb nc nm   a1 (hC)) ⟨rfl, rfl, by decide, by decide⟩ (x_recv E hw cl_9 (hx0) fz0) (fun _ _ _ _ h => h) (fun U hU _ => by rw [hU]; exact hw.1) rfl hl.1 rfl (Nat.le_of_ble_eq_true rfl) dX9_told_2 ⟨by decide, by decide⟩) ?_
  refine x_astore_nQ (lv' := [(3, va_rf (Option.map (ad 6) (fdB nc a1))), (0, .ref (ad 0 0)), (1, .int a1), (2, .int a2)]) hx hb dX9_told_5 rfl hl (by decide) rfl (fun ls hl => ?_)
  refine x_aload_nQ hx hb dX9_told_6 rfl (lv_at hl 0 rfl) ?_
  rcases x_opt (fdB nc a1) with hn7 | ⟨j, hi7⟩
  · skip
    rw [hn7]
    rw [hn7] at hl
    have hl : lv_has ls 4 [(3, .null), (0, .ref (ad 0 0)), (1, .int a1), (2, .int a2)] := hl
    refine lv_ifnonnullN hx hb dX9_told_7 ?_
    refine lv_iconst (v := (-1)) hx hb dX9_told_10 (by decide) ?_
    subst hQ
    exact x_iret E hr hlk (by simp [mTold, fdB_none hn7]) dX9_told_11
  · skip
    rw [hi7]
    rw [hi7] at hl
    have hl : lv_has ls 4 [(3, .ref (ad 6 j)), (0, .ref (ad 0 0)), (1, .int a1), (2, .int a2)] := hl
    refine lv_ifnonnull (tgt := 12) hx hb dX9_told_7 (by decide) ?_
    obtain ⟨hj, rfl, hIj⟩ := fdB_some (by omega) hi7
    obtain ⟨hfc, hcc, hhc, hchn, hmc, hak, how, hnd⟩ := hCd j hj
    refine lv_iload_n hx hb dX9_told_12 rfl (lv_at hl 3 rfl) ?_
    rcases x_sw8 a2 with sw13 | sw13 | sw13 | sw13 | sw13 | sw13 | sw13 | sw13 | sw13
    · skip
      refine lv_tableIn (off := 47) (tgt := 60) hx hb dX9_told_13 (by rw [sw13]; decide) (by rw [sw13]; decide) (by rw [sw13]; decide) (by decide) ?_
      refine lv_aload_n hx hb dX9_told_60 rfl (lv_at hl 0 rfl) ?_
      refine x_get E hw 6 j (by omega) hcc cl_1 ly_1 0 (by decide) tw_227 rfl dX9_told_61 ?_
      subst hQ
      exact x_iret E hr hlk (by simp [mTold, hIj, nI_clamp (n := j) (by omega), hi7, sw13]) dX9_told_64
    · skip
      refine lv_tableIn (off := 52) (tgt := 65) hx hb dX9_told_13 (by rw [sw13]; decide) (by rw [sw13]; decide) (by rw [sw13]; decide) (by decide) ?_
      refine lv_aload_n hx hb dX9_told_65 rfl (lv_at hl 0 rfl) ?_
      refine x_get E hw 6 j (by omega) hcc cl_1 ly_1 1 (by decide) tw_230 rfl dX9_told_66 ?_
      subst hQ
      exact x_iret E hr hlk (by simp [mTold, hIj, nI_clamp (n := j) (by omega), hi7, sw13]) dX9_told_69
    · skip
      refine lv_tableIn (off := 57) (tgt := 70) hx hb dX9_told_13 (by rw [sw13]; decide) (by rw [sw13]; decide) (by rw [sw13]; decide) (by decide) ?_
      refine lv_aload_n hx hb dX9_told_70 rfl (lv_at hl 0 rfl) ?_
      refine x_get E hw 6 j (by omega) hcc cl_1 ly_1 2 (by decide) tw_233 rfl dX9_told_71 ?_
      subst hQ
      exact x_iret E hr hlk (by simp [mTold, hIj, nI_clamp (n := j) (by omega), hi7, sw13]) dX9_told_74
    · skip
      refine lv_tableIn (off := 62) (tgt := 75) hx hb dX9_told_13 (by rw [sw13]; decide) (by rw [sw13]; decide) (by rw [sw13]; decide) (by decide) ?_
      refine lv_aload_n hx hb dX9_told_75 rfl (lv_at hl 0 rfl) ?_
      refine x_get E hw 6 j (by omega) hcc cl_1 ly_1 3 (by decide) tw_235 rfl dX9_told_76 ?_
      refine x_get E hw 7 j (by omega) hhc cl_3 ly_3 0 (by decide) tw_188 rfl dX9_told_79 ?_
      subst hQ
      exact x_iret E hr hlk (by simp [mTold, hIj, nI_clamp (n := j) (by omega), hi7, sw13]) dX9_told_82
    · skip
      refine lv_tableIn (off := 70) (tgt := 83) hx hb dX9_told_13 (by rw [sw13]; decide) (by rw [sw13]; decide) (by rw [sw13]; decide) (by decide) ?_
      refine lv_aload_n hx hb dX9_told_83 rfl (lv_at hl 0 rfl) ?_
      refine x_get E hw 6 j (by omega) hcc cl_1 ly_1 3 (by decide) tw_235 rfl dX9_told_84 ?_
      refine x_get E hw 7 j (by omega) hhc cl_3 ly_3 1 (by decide) tw_190 rfl dX9_told_87 ?_
      subst hQ
      exact x_iret E hr hlk (by simp [mTold, hIj, nI_clamp (n := j) (by omega), hi7, sw13]) dX9_told_90
    · skip
      refine lv_tableIn (off := 78) (tgt := 91) hx hb dX9_told_13 (by rw [sw13]; decide) (by rw [sw13]; decide) (by rw [sw13]; decide) (by decide) ?_
      refine lv_aload_n hx hb dX9_told_91 rfl (lv_at hl 0 rfl) ?_
      refine x_get E hw 6 j (by omega) hcc cl_1 ly_1 4 (by decide) tw_237 rfl dX9_told_92 ?_
      subst hQ
      exact x_iret E hr hlk (by simp [mTold, hIj, nI_clamp (n := j) (by omega), hi7, sw13]) dX9_told_95
    · skip
      refine lv_tableIn (off := 83) (tgt := 96) hx hb dX9_told_13 (by rw [sw13]; decide) (by rw [sw13]; decide) (by rw [sw13]; decide) (by decide) ?_
      refine lv_aload_n hx hb dX9_told_96 rfl (lv_at hl 0 rfl) ?_
      refine x_get E hw 6 j (by omega) hcc cl_1 ly_1 5 (by decide) tw_239 rfl dX9_told_97 ?_
      subst hQ
      exact x_iret E hr hlk (by simp [mTold, hIj, nI_clamp (n := j) (by omega), hi7, sw13]) dX9_told_100
    · skip
      refine lv_tableIn (off := 88) (tgt := 101) hx hb dX9_told_13 (by rw [sw13]; decide) (by rw [sw13]; decide) (by rw [sw13]; decide) (by decide) ?_
      refine lv_aload_n hx hb dX9_told_101 rfl (lv_at hl 0 rfl) ?_
      refine x_get E hw 6 j (by omega) hcc cl_1 ly_1 7 (by decide) tw_242 rfl dX9_told_102 ?_
      subst hQ
      exact x_iret E hr hlk (by simp [mTold, hIj, nI_clamp (n := j) (by omega), hi7, sw13]) dX9_told_105
    · skip
      refine lv_tableOut (tgt := 106) hx hb dX9_told_13 sw13.1 (by decide) ?_
      replace sw13 := sw13.2
      refine lv_iconst (v := (-1)) hx hb dX9_told_106 (by decide) ?_
      subst hQ
      exact x_iret E hr hlk (by simp [mTold, hIj, nI_clamp (n := j) (by omega), hi7, sw13]) dX9_told_107
set_option maxHeartbeats 4000000 in
set_option maxRecDepth 100000 in
theorem kX9_count (l : Launch) (D : va_G) (ca : Nat → ClassId) (cnt : Nat → Nat) (ad : Nat → Nat → Nat) (ct : Nat → Nat → va_E) (v : Nat → Int32) (g : Nat → Nat → Int32) (nw : Nat) (nb : Nat) (nc : Nat) (nm : Nat) (a1 : Int32) (hC : cRep ca cnt ad ct v g nw nb nc nm) : Met l yX9_count (wz yX9_count cX9_count 2 (some .int)) (rmL 3 0 0) (va_Pc [.ref (ad 0 0), .int a1] (fun U => wq D cnt ad ct U.heap ∧ gK D ca U)) (QcRead (mCount v g nw nb nc nm a1)) 0 0 (fun _ => False) := by
  refine x_met (by decide) (Nat.le_of_ble_eq_true rfl) ?_
  intro p e s m below meth c E hr hlk hnm hq ls hl
  generalize hav : ([.ref (ad 0 0), .int a1] : List Value).toArray = args at E ⊢
  have hx := E.1
  have hb := E.2.1
  have hown := E.2.2.2.1
  have hts := E.2.2.2.2.1
  have hw : wd D (wA cnt ad s.heap.size) s.heap cnt ad ct s.heap [] := wd.start hq
  generalize hQ : MQ below (QcRead (mCount v g nw nb nc nm a1)) args s 0 0 (fun _ => False) = Q
  have hl : lv_has ls 2 [(0, .ref (ad 0 0)), (1, .int a1)] := hl
  obtain ⟨hO, hIv, tp, htp, hX, hT, hB, hCc, hN⟩ := id hC
  obtain ⟨hx0, hx1, hx2, hx3, fz0⟩ := id hX
  have hO5 := hO.2.2.2.2
  obtain ⟨hb4, hb5, fB, fz1, hBd⟩ := id hB
  obtain ⟨hc6, hc7, fC, dt, ow, ix, ak, fz2, hCd⟩ := id hCc
  obtain ⟨hn9, fN, lk, fz3, hNd⟩ := id hN
  obtain ⟨ht13, ht14, ht11, ht12, szq, nq, nrq, rtq, bq0, bq1, vsq, pq1, pq2, hsz, hsz2, hnq, hnr, hrt, fz11, fz11b, fz12, fz12b, fz13, fz14, hby, hrl⟩ := id hT
  refine lv_iload_n hx hb dX9_count_0 rfl (lv_at hl 1 rfl) ?_
  rcases x_sw8 a1 with sw1 | sw1 | sw1 | sw1 | sw1 | sw1 | sw1 | sw1 | sw1
  · skip
    refine lv_tableIn (off := 47) (tgt := 48) hx hb dX9_count_1 (by rw [sw1]; decide) (by rw [sw1]; decide) (by rw [sw1]; decide) (by decide) ?_
    refine lv_aload_n hx hb dX9_count_48 rfl (lv_at hl 0 rfl) ?_
    refine x_get E hw 0 0 (hx0) fz0 cl_9 ly_9 0 (by decide) tw_80 rfl dX9_count_49 ?_
    subst hQ
    exact x_iret E hr hlk (by simp [mCount, hsz, sw1]) dX9_count_52
  · skip
    refine lv_tableIn (off := 52) (tgt := 53) hx hb dX9_count_1 (by rw [sw1]; decide) (by rw [sw1]; decide) (by rw [sw1]; decide) (by decide) ?_
    refine lv_aload_n hx hb dX9_count_53 rfl (lv_at hl 0 rfl) ?_
    refine x_get E hw 0 0 (hx0) fz0 cl_9 ly_9 2 (by decide) tw_82 rfl dX9_count_54 ?_
    subst hQ
    exact x_iret E hr hlk (by simp [mCount, hsz, sw1]) dX9_count_57
  · skip
    refine lv_tableIn (off := 57) (tgt := 58) hx hb dX9_count_1 (by rw [sw1]; decide) (by rw [sw1]; decide) (by rw [sw1]; decide) (by decide) ?_
    refine lv_aload_n hx hb dX9_count_58 rfl (lv_at hl 0 rfl) ?_
    refine x_get E hw 0 0 (hx0) fz0 cl_9 ly_9 1 (by decide) tw_81 rfl dX9_count_59 ?_
    subst hQ
    exact x_iret E hr hlk (by simp [mCount, hsz, sw1]) dX9_count_62
  · skip
    refine lv_tableIn (off := 62) (tgt := 63) hx hb dX9_count_1 (by rw [sw1]; decide) (by rw [sw1]; decide) (by rw [sw1]; decide) (by decide) ?_
    refine lv_aload_n hx hb dX9_count_63 rfl (lv_at hl 0 rfl) ?_
    refine x_get E hw 0 0 (hx0) fz0 cl_9 ly_9 3 (by decide) tw_83 rfl dX9_count_64 ?_
    subst hQ
    exact x_iret E hr hlk (by simp [mCount, hsz, sw1]) dX9_count_67
  · skip
    refine lv_tableIn (off := 67) (tgt := 68) hx hb dX9_count_1 (by rw [sw1]; decide) (by rw [sw1]; decide) (by rw [sw1]; decide) (by decide) ?_
    refine lv_aload_n hx hb dX9_count_68 rfl (lv_at hl 0 rfl) ?_
    refine x_get E hw 0 0 (hx0) fz0 cl_9 ly_9 4 (by decide) tw_84 rfl dX9_count_69 ?_
    subst hQ
    exact x_iret E hr hlk (by simp [mCount, hsz, sw1]) dX9_count_72
  · skip
    refine lv_tableIn (off := 72) (tgt := 73) hx hb dX9_count_1 (by rw [sw1]; decide) (by rw [sw1]; decide) (by rw [sw1]; decide) (by decide) ?_
    refine lv_aload_n hx hb dX9_count_73 rfl (lv_at hl 0 rfl) ?_
    refine x_get E hw 0 0 (hx0) fz0 cl_9 ly_9 9 (by decide) tw_89 rfl dX9_count_74 ?_
    refine x_get E hw 11 tp (by omega) fz11 cl_8 ly_8 1 (by decide) tw_37 rfl dX9_count_77 ?_
    subst hQ
    exact x_iret E hr hlk (by simp [mCount, hsz, sw1]) dX9_count_80
  · skip
    refine lv_tableIn (off := 80) (tgt := 81) hx hb dX9_count_1 (by rw [sw1]; decide) (by rw [sw1]; decide) (by rw [sw1]; decide) (by decide) ?_
    refine lv_aload_n hx hb dX9_count_81 rfl (lv_at hl 0 rfl) ?_
    refine x_get E hw 0 0 (hx0) fz0 cl_9 ly_9 5 (by decide) tw_85 rfl dX9_count_82 ?_
    subst hQ
    exact x_iret E hr hlk (by simp [mCount, hsz, sw1]) dX9_count_85
  · skip
    refine lv_tableIn (off := 85) (tgt := 86) hx hb dX9_count_1 (by rw [sw1]; decide) (by rw [sw1]; decide) (by rw [sw1]; decide) (by decide) ?_
    refine lv_aload_n hx hb dX9_count_86 rfl (lv_at hl 0 rfl) ?_
    refine lv_iconst (v := 0) hx hb dX9_count_87 (by decide) ?_
    refine lv_aload_n hx hb dX9_count_88 rfl (lv_at hl 0 rfl) ?_
    refine x_get E hw 0 0 (hx0) fz0 cl_9 ly_9 0 (by decide) tw_80 rfl dX9_count_89 ?_
    refine lv_aload_n hx hb dX9_count_92 rfl (lv_at hl 0 rfl) ?_
    refine x_get E hw 0 0 (hx0) fz0 cl_9 ly_9 0 (by decide) tw_80 rfl dX9_count_93 ?_
    refine x_read (x_runV (rest := []) E cbX9_childrenAt tw_280 (kX9_childrenAt l D ca cnt ad ct v g nw nb nc nm   0 (nI nw) (nI nw) (hC) (by decide)) ⟨rfl, rfl, by decide, by decide⟩ (x_recv E hw cl_9 (hx0) fz0) (fun _ _ _ _ h => h) (fun U hU _ => by rw [hU]; exact hw.1) rfl hl.1 rfl (Nat.le_of_ble_eq_true rfl) dX9_count_96 ⟨by decide, by decide⟩) ?_
    subst hQ
    exact x_iret E hr hlk (by simp [mCount, hsz, sw1]) dX9_count_99
  · skip
    refine lv_tableOut (tgt := 100) hx hb dX9_count_1 sw1.1 (by decide) ?_
    replace sw1 := sw1.2
    refine lv_iconst (v := (-1)) hx hb dX9_count_100 (by decide) ?_
    subst hQ
    exact x_iret E hr hlk (by simp [mCount, hsz, sw1]) dX9_count_101
set_option maxHeartbeats 4000000 in
set_option maxRecDepth 100000 in
theorem kX3_canBe (l : Launch) (D : va_G) (ca : Nat → ClassId) (a1 : Int32) (a2 : Int32)  : Met l yX3_canBe (wz yX3_canBe cX3_canBe 2 (some .boolean)) (rmL 2 0 0) (va_Pc [.int a1, .int a2] (fun U => True ∧ gK D ca U)) (QcRead (bB (isIn a1 0 16777215 && isIn a2 0 16777215))) 0 0 (fun _ => False) := by
  refine x_met (by decide) (Nat.le_of_ble_eq_true rfl) ?_
  intro p e s m below meth c E hr hlk hnm hq ls hl
  generalize hav : ([.int a1, .int a2] : List Value).toArray = args at E ⊢
  have hx := E.1
  have hb := E.2.1
  have hown := E.2.2.2.1
  have hts := E.2.2.2.2.1
  generalize hQ : MQ below (QcRead (bB (isIn a1 0 16777215 && isIn a2 0 16777215))) args s 0 0 (fun _ => False) = Q
  have hl : lv_has ls 2 [(0, .int a1), (1, .int a2)] := hl
  refine lv_iload_n hx hb dX3_canBe_0 rfl (lv_at hl 0 rfl) ?_
  refine lv_iconst (v := 0) hx hb dX3_canBe_1 (by decide) ?_
  refine lv_ldc hx hb hown (hts _ tw_177) dX3_canBe_2 ?_
  refine x_read (x_runSN (rest := []) E cbX9_within E.2.2.2.2.2.2.2.2.2.1 (kX9_within l D ca a1 0 16777215 ) ⟨rfl, rfl, by decide, by decide⟩ (fun _ _ _ _ h => h) (fun _ _ _ => trivial) rfl hl.1 rfl (Nat.le_of_ble_eq_true rfl) dX3_canBe_4 ⟨by decide, by decide⟩) ?_
  refine lv_if_eq (tgt := 24) hx hb dX3_canBe_7 (by decide) (fun c_7 => ?_) (fun c_7 => ?_)
  · skip
    have c_7 := bB_0.mp c_7
    refine lv_iconst (v := 0) hx hb dX3_canBe_24 (by decide) ?_
    subst hQ
    exact x_zret E hr hlk (by decide) (by simp [bB, c_7]) dX3_canBe_25
  · skip
    have c_7 := bB_n0.mp c_7
    refine lv_iload_n hx hb dX3_canBe_10 rfl (lv_at hl 1 rfl) ?_
    refine lv_iconst (v := 0) hx hb dX3_canBe_11 (by decide) ?_
    refine lv_ldc hx hb hown (hts _ tw_177) dX3_canBe_12 ?_
    refine x_read (x_runSN (rest := []) E cbX9_within E.2.2.2.2.2.2.2.2.2.1 (kX9_within l D ca a2 0 16777215 ) ⟨rfl, rfl, by decide, by decide⟩ (fun _ _ _ _ h => h) (fun _ _ _ => trivial) rfl hl.1 rfl (Nat.le_of_ble_eq_true rfl) dX3_canBe_14 ⟨by decide, by decide⟩) ?_
    refine lv_if_eq (tgt := 24) hx hb dX3_canBe_17 (by decide) (fun c_17 => ?_) (fun c_17 => ?_)
    · skip
      have c_17 := bB_0.mp c_17
      refine lv_iconst (v := 0) hx hb dX3_canBe_24 (by decide) ?_
      subst hQ
      exact x_zret E hr hlk (by decide) (by simp [bB, c_7, c_17]) dX3_canBe_25
    · skip
      have c_17 := bB_n0.mp c_17
      refine lv_iconst (v := 1) hx hb dX3_canBe_20 (by decide) ?_
      refine lv_goto (tgt := 25) hx hb dX3_canBe_21 (by decide) ?_
      subst hQ
      exact x_zret E hr hlk (by decide) (by simp [bB, c_7, c_17]) dX3_canBe_25
set_option maxHeartbeats 4000000 in
set_option maxRecDepth 100000 in
theorem kX3_numberAt (l : Launch) (D : va_G) (ca : Nat → ClassId) (a1 : Int32) (a2 : Int32)  : Met l yX3_numberAt (wz yX3_numberAt cX3_numberAt 2 (some .int)) (rmL 1 0 0) (va_Pc [.int a1, .int a2] (fun U => True ∧ gK D ca U)) (QcRead (mTh a1 a2)) 0 0 (fun _ => False) := by
  refine x_met (by decide) (Nat.le_of_ble_eq_true rfl) ?_
  intro p e s m below meth c E hr hlk hnm hq ls hl
  generalize hav : ([.int a1, .int a2] : List Value).toArray = args at E ⊢
  have hx := E.1
  have hb := E.2.1
  have hown := E.2.2.2.1
  have hts := E.2.2.2.2.1
  generalize hQ : MQ below (QcRead (mTh a1 a2)) args s 0 0 (fun _ => False) = Q
  have hl : lv_has ls 2 [(0, .int a1), (1, .int a2)] := hl
  refine lv_iload_n hx hb dX3_numberAt_0 rfl (lv_at hl 0 rfl) ?_
  refine lv_iconst (v := 3) hx hb dX3_numberAt_1 (by decide) ?_
  refine lv_iload_n hx hb dX3_numberAt_2 rfl (lv_at hl 1 rfl) ?_
  refine lv_imul hx hb dX3_numberAt_3 ?_
  refine lv_ishr hx hb dX3_numberAt_4 ?_
  refine lv_bipush (v := 7) hx hb dX3_numberAt_5 (by decide) ?_
  refine lv_iand hx hb dX3_numberAt_7 ?_
  subst hQ
  exact x_iret E hr hlk (rfl) dX3_numberAt_8
set_option maxHeartbeats 4000000 in
set_option maxRecDepth 100000 in
theorem kX3_turn (l : Launch) (D : va_G) (ca : Nat → ClassId) (a1 : Int32)  : Met l yX3_turn (wz yX3_turn cX3_turn 3 (some .int)) (rmL 2 0 0) (va_Pc [.int a1] (fun U => True ∧ gK D ca U)) (QcRead (mTn a1 8)) 0 0 (fun _ => False) := by
  refine x_met (by decide) (Nat.le_of_ble_eq_true rfl) ?_
  intro p e s m below meth c E hr hlk hnm hq ls hl
  generalize hav : ([.int a1] : List Value).toArray = args at E ⊢
  have hx := E.1
  have hb := E.2.1
  have hown := E.2.2.2.1
  have hts := E.2.2.2.2.1
  generalize hQ : MQ below (QcRead (mTn a1 8)) args s 0 0 (fun _ => False) = Q
  have hl : lv_has ls 3 [(0, .int a1)] := hl
  refine lv_iconst (v := 0) hx hb dX3_turn_0 (by decide) ?_
  refine lv_istore_n (lv' := [(1, .int 0), (0, .int a1)]) hx hb dX3_turn_1 rfl hl (by decide) rfl (fun ls hl => ?_)
  refine lv_iconst (v := 0) hx hb dX3_turn_2 (by decide) ?_
  refine lv_istore_n (lv' := [(2, .int 0), (1, .int 0), (0, .int a1)]) hx hb dX3_turn_3 rfl hl (by decide) rfl (fun ls hl => ?_)
  have lp4 : ∀ (n : Nat) (k : Nat) (x1 : Int32), (k ≤ 8) → (x1 = mTn a1 k) → (8 - k < n) → ∀ ls : Array Slot, lv_has ls 3 [(0, .int a1), (1, .int x1), (2, .int (nI k))] → W p l e (rmL 2 0 0) s m args below meth c s.heap [] 0 0 Q (F0 m 4 ls []) := by
    intro n
    induction n with
    | zero =>
      intro k x1 hi h1 hfu ls hl
      exact absurd hfu (by omega)
    | succ n ih4 =>
      intro k x1 hi h1 hfu ls hl
      refine lv_iload_n hx hb dX3_turn_4 rfl (lv_at hl 2 rfl) ?_
      refine lv_bipush (v := 8) hx hb dX3_turn_5 (by decide) ?_
      refine lv_icmp_ge (tgt := 26) hx hb dX3_turn_7 (by decide) (fun c_7 => ?_) (fun c_7 => ?_)
      · skip
        obtain rfl := x_le7 hi c_7
        refine lv_iload_n hx hb dX3_turn_26 rfl (lv_at hl 1 rfl) ?_
        subst hQ
        exact x_iret E hr hlk (h1) dX3_turn_27
      · skip
        have hlt := x_lt8 hi c_7
        refine lv_iload_n hx hb dX3_turn_10 rfl (lv_at hl 1 rfl) ?_
        refine lv_iconst (v := 3) hx hb dX3_turn_11 (by decide) ?_
        refine lv_ishl hx hb dX3_turn_12 ?_
        refine lv_iload_n hx hb dX3_turn_13 rfl (lv_at hl 0 rfl) ?_
        refine lv_iload_n hx hb dX3_turn_14 rfl (lv_at hl 2 rfl) ?_
        refine x_read (x_runS (rest := [.int (x1 <<< (3 &&& 31))]) E cbX3_numberAt tw_381 (kX3_numberAt l D ca a1 (nI k) ) ⟨rfl, rfl, by decide, by decide⟩ (fun _ _ _ _ h => h) (fun _ _ _ => trivial) rfl hl.1 rfl (Nat.le_of_ble_eq_true rfl) dX3_turn_15 ⟨by decide, by decide⟩) ?_
        refine lv_ior hx hb dX3_turn_18 ?_
        refine lv_istore_n (lv' := [(1, .int ((x1 <<< (3 &&& 31)) ||| mTh a1 (nI k))), (0, .int a1), (2, .int (nI k))]) hx hb dX3_turn_19 rfl hl (by decide) rfl (fun ls hl => ?_)
        refine lv_iinc (v := (nI (k + 1))) (lv' := [(2, .int (nI (k + 1))), (1, .int ((x1 <<< (3 &&& 31)) ||| mTh a1 (nI k))), (0, .int a1)]) hx hb dX3_turn_20 hl (k := 2) rfl (nI_1 _) (by decide) rfl (fun ls hl => ?_)
        refine lv_goto (tgt := 4) hx hb dX3_turn_23 (by decide) ?_
        exact ih4 (k + 1) ((x1 <<< (3 &&& 31)) ||| mTh a1 (nI k)) (hlt) (by rw [h1]; rfl) (by omega) ls (lv_sub hl [2, 1, 0] (rfl))
  exact lp4 9 0 0 (by omega) (rfl) (by omega) ls (lv_sub hl [2, 1, 0] (rfl))
set_option maxHeartbeats 4000000 in
set_option maxRecDepth 100000 in
theorem kX3_unlike (l : Launch) (D : va_G) (ca : Nat → ClassId) (cnt : Nat → Nat) (ad : Nat → Nat → Nat) (ct : Nat → Nat → va_E) (c1 : Nat) (e1 : Int32) (t1 : Int32) (a1 : Int32) (a2 : Int32) (hhi : c1 < cnt 7) (hhc : ct 7 c1 = .inr (3, [.int e1, .int t1])) : Met l yX3_unlike (wz yX3_unlike cX3_unlike 6 (some .int)) (rmL 2 0 0) (va_Pc [.ref (ad 7 c1), .int a1, .int a2] (fun U => wq D cnt ad ct U.heap ∧ gK D ca U)) (QcRead (nI (cUn e1 t1 a1 a2 8))) 0 0 (fun _ => False) := by
  refine x_met (by decide) (Nat.le_of_ble_eq_true rfl) ?_
  intro p e s m below meth c E hr hlk hnm hq ls hl
  generalize hav : ([.ref (ad 7 c1), .int a1, .int a2] : List Value).toArray = args at E ⊢
  have hx := E.1
  have hb := E.2.1
  have hown := E.2.2.2.1
  have hts := E.2.2.2.2.1
  have hw : wd D (wA cnt ad s.heap.size) s.heap cnt ad ct s.heap [] := wd.start hq
  generalize hQ : MQ below (QcRead (nI (cUn e1 t1 a1 a2 8))) args s 0 0 (fun _ => False) = Q
  have hl : lv_has ls 6 [(0, .ref (ad 7 c1)), (1, .int a1), (2, .int a2)] := hl
  refine lv_iconst (v := 0) hx hb dX3_unlike_0 (by decide) ?_
  refine lv_istore_n (lv' := [(3, .int 0), (0, .ref (ad 7 c1)), (1, .int a1), (2, .int a2)]) hx hb dX3_unlike_1 rfl hl (by decide) rfl (fun ls hl => ?_)
  refine lv_iconst (v := 0) hx hb dX3_unlike_2 (by decide) ?_
  refine lv_istore (lv' := [(4, .int 0), (3, .int 0), (0, .ref (ad 7 c1)), (1, .int a1), (2, .int a2)]) hx hb dX3_unlike_3 hl (by decide) rfl (fun ls hl => ?_)
  have lp5 : ∀ (n : Nat) (k : Nat) (x3 : Int32), (k ≤ 8) → (x3 = nI (cUn e1 t1 a1 a2 k)) → (8 - k < n) → ∀ ls : Array Slot, lv_has ls 6 [(0, .ref (ad 7 c1)), (1, .int a1), (2, .int a2), (3, .int x3), (4, .int (nI k))] → W p l e (rmL 2 0 0) s m args below meth c s.heap [] 0 0 Q (F0 m 5 ls []) := by
    intro n
    induction n with
    | zero =>
      intro k x3 hi h3 hfu ls hl
      exact absurd hfu (by omega)
    | succ n ih5 =>
      intro k x3 hi h3 hfu ls hl
      refine lv_iload hx hb dX3_unlike_5 (lv_at hl 4 rfl) ?_
      refine lv_bipush (v := 8) hx hb dX3_unlike_7 (by decide) ?_
      refine lv_icmp_ge (tgt := 72) hx hb dX3_unlike_9 (by decide) (fun c_9 => ?_) (fun c_9 => ?_)
      · skip
        obtain rfl := x_le7 hi c_9
        refine lv_iload_n hx hb dX3_unlike_72 rfl (lv_at hl 3 rfl) ?_
        subst hQ
        exact x_iret E hr hlk (h3) dX3_unlike_73
      · skip
        have hlt := x_lt8 hi c_9
        refine lv_aload_n hx hb dX3_unlike_12 rfl (lv_at hl 0 rfl) ?_
        refine x_get E hw 7 c1 (hhi) hhc cl_3 ly_3 0 (by decide) tw_187 rfl dX3_unlike_13 ?_
        refine lv_iload hx hb dX3_unlike_16 (lv_at hl 4 rfl) ?_
        refine x_read (x_runS (rest := []) E cbX3_numberAt tw_381 (kX3_numberAt l D ca e1 (nI k) ) ⟨rfl, rfl, by decide, by decide⟩ (fun _ _ _ _ h => h) (fun _ _ _ => trivial) rfl hl.1 rfl (Nat.le_of_ble_eq_true rfl) dX3_unlike_18 ⟨by decide, by decide⟩) ?_
        refine lv_iload_n hx hb dX3_unlike_21 rfl (lv_at hl 1 rfl) ?_
        refine lv_iload hx hb dX3_unlike_22 (lv_at hl 4 rfl) ?_
        refine x_read (x_runS (rest := [.int (mTh e1 (nI k))]) E cbX3_numberAt tw_381 (kX3_numberAt l D ca a1 (nI k) ) ⟨rfl, rfl, by decide, by decide⟩ (fun _ _ _ _ h => h) (fun _ _ _ => trivial) rfl hl.1 rfl (Nat.le_of_ble_eq_true rfl) dX3_unlike_24 ⟨by decide, by decide⟩) ?_
        refine lv_iadd hx hb dX3_unlike_27 ?_
        refine lv_bipush (v := 7) hx hb dX3_unlike_28 (by decide) ?_
        refine lv_icmp_ne (tgt := 37) hx hb dX3_unlike_30 (by decide) (fun c_30 => ?_) (fun c_30 => ?_)
        · skip
          refine lv_iconst (v := 0) hx hb dX3_unlike_37 (by decide) ?_
          refine lv_istore (lv' := [(5, .int 0), (0, .ref (ad 7 c1)), (1, .int a1), (2, .int a2), (3, .int x3), (4, .int (nI k))]) hx hb dX3_unlike_38 hl (by decide) rfl (fun ls hl => ?_)
          refine lv_iload hx hb dX3_unlike_40 (lv_at hl 0 rfl) ?_
          refine lv_if_eq (tgt := 63) hx hb dX3_unlike_42 (by decide) (fun c_42 => ?_) (fun c_42 => ?_)
          · skip
            refine lv_iinc (v := (x3 + 1)) (lv' := [(3, .int (x3 + 1)), (5, .int 0), (0, .ref (ad 7 c1)), (1, .int a1), (2, .int a2), (4, .int (nI k))]) hx hb dX3_unlike_63 hl (k := 4) rfl (rfl) (by decide) rfl (fun ls hl => ?_)
            refine lv_iinc (v := (nI (k + 1))) (lv' := [(4, .int (nI (k + 1))), (3, .int (x3 + 1)), (5, .int 0), (0, .ref (ad 7 c1)), (1, .int a1), (2, .int a2)]) hx hb dX3_unlike_66 hl (k := 5) rfl (nI_1 _) (by decide) rfl (fun ls hl => ?_)
            refine lv_goto (tgt := 5) hx hb dX3_unlike_69 (by decide) ?_
            exact ih5 (k + 1) (x3 + 1) (hlt) (by rw [h3]; simp [cUn, nI_1, c_9, c_30]) (by omega) ls (lv_sub hl [3, 4, 5, 1, 0] (rfl))
          · skip
            exact absurd c_42 (by decide)
        · skip
          refine lv_iconst (v := 1) hx hb dX3_unlike_33 (by decide) ?_
          refine lv_goto (tgt := 38) hx hb dX3_unlike_34 (by decide) ?_
          refine lv_istore (lv' := [(5, .int 1), (0, .ref (ad 7 c1)), (1, .int a1), (2, .int a2), (3, .int x3), (4, .int (nI k))]) hx hb dX3_unlike_38 hl (by decide) rfl (fun ls hl => ?_)
          refine lv_iload hx hb dX3_unlike_40 (lv_at hl 0 rfl) ?_
          refine lv_if_eq (tgt := 63) hx hb dX3_unlike_42 (by decide) (fun c_42 => ?_) (fun c_42 => ?_)
          · skip
            exact absurd c_42 (by decide)
          · skip
            refine lv_aload_n hx hb dX3_unlike_45 rfl (lv_at hl 1 rfl) ?_
            refine x_get E hw 7 c1 (hhi) hhc cl_3 ly_3 1 (by decide) tw_189 rfl dX3_unlike_46 ?_
            refine lv_iload hx hb dX3_unlike_49 (lv_at hl 5 rfl) ?_
            refine x_read (x_runS (rest := []) E cbX3_numberAt tw_381 (kX3_numberAt l D ca t1 (nI k) ) ⟨rfl, rfl, by decide, by decide⟩ (fun _ _ _ _ h => h) (fun _ _ _ => trivial) rfl hl.1 rfl (Nat.le_of_ble_eq_true rfl) dX3_unlike_51 ⟨by decide, by decide⟩) ?_
            refine lv_iload_n hx hb dX3_unlike_54 rfl (lv_at hl 3 rfl) ?_
            refine lv_iload hx hb dX3_unlike_55 (lv_at hl 5 rfl) ?_
            refine x_read (x_runS (rest := [.int (mTh t1 (nI k))]) E cbX3_numberAt tw_381 (kX3_numberAt l D ca a2 (nI k) ) ⟨rfl, rfl, by decide, by decide⟩ (fun _ _ _ _ h => h) (fun _ _ _ => trivial) rfl hl.1 rfl (Nat.le_of_ble_eq_true rfl) dX3_unlike_57 ⟨by decide, by decide⟩) ?_
            refine lv_icmp_eq (tgt := 66) hx hb dX3_unlike_60 (by decide) (fun c_60 => ?_) (fun c_60 => ?_)
            · skip
              refine lv_iinc (v := (nI (k + 1))) (lv' := [(4, .int (nI (k + 1))), (5, .int 1), (0, .ref (ad 7 c1)), (1, .int a1), (2, .int a2), (3, .int x3)]) hx hb dX3_unlike_66 hl (k := 5) rfl (nI_1 _) (by decide) rfl (fun ls hl => ?_)
              refine lv_goto (tgt := 5) hx hb dX3_unlike_69 (by decide) ?_
              exact ih5 (k + 1) x3 (hlt) (by rw [h3]; simp [cUn, nI_1, c_9, c_30, c_60]) (by omega) ls (lv_sub hl [2, 3, 4, 5, 0] (rfl))
            · skip
              refine lv_iinc (v := (x3 + 1)) (lv' := [(3, .int (x3 + 1)), (5, .int 1), (0, .ref (ad 7 c1)), (1, .int a1), (2, .int a2), (4, .int (nI k))]) hx hb dX3_unlike_63 hl (k := 4) rfl (rfl) (by decide) rfl (fun ls hl => ?_)
              refine lv_iinc (v := (nI (k + 1))) (lv' := [(4, .int (nI (k + 1))), (3, .int (x3 + 1)), (5, .int 1), (0, .ref (ad 7 c1)), (1, .int a1), (2, .int a2)]) hx hb dX3_unlike_66 hl (k := 5) rfl (nI_1 _) (by decide) rfl (fun ls hl => ?_)
              refine lv_goto (tgt := 5) hx hb dX3_unlike_69 (by decide) ?_
              exact ih5 (k + 1) (x3 + 1) (hlt) (by rw [h3]; simp [cUn, nI_1, c_9, c_30, c_60]) (by omega) ls (lv_sub hl [3, 4, 5, 1, 0] (rfl))
  exact lp5 9 0 0 (by omega) (rfl) (by omega) ls (lv_sub hl [2, 3, 4, 1, 0] (rfl))
set_option maxHeartbeats 4000000 in
set_option maxRecDepth 100000 in
theorem kX3_farOff (l : Launch) (D : va_G) (ca : Nat → ClassId) (cnt : Nat → Nat) (ad : Nat → Nat → Nat) (ct : Nat → Nat → va_E) (c1 : Nat) (e1 : Int32) (t1 : Int32) (o1 : Nat) (e2 : Int32) (t2 : Int32) (hhi : c1 < cnt 7) (hhc : ct 7 c1 = .inr (3, [.int e1, .int t1])) (hoi : o1 < cnt 15) (hoc : ct 15 o1 = .inr (3, [.int e2, .int t2])) : Met l yX3_farOff (wz yX3_farOff cX3_farOff 4 (some .int)) (rmL 3 0 0) (va_Pc [.ref (ad 7 c1), .ref (ad 15 o1)] (fun U => wq D cnt ad ct U.heap ∧ gK D ca U)) (QcRead (nI (cFar e1 t1 e2 t2))) 0 0 (fun _ => False) := by
  refine x_met (by decide) (Nat.le_of_ble_eq_true rfl) ?_
  intro p e s m below meth c E hr hlk hnm hq ls hl
  generalize hav : ([.ref (ad 7 c1), .ref (ad 15 o1)] : List Value).toArray = args at E ⊢
  have hx := E.1
  have hb := E.2.1
  have hown := E.2.2.2.1
  have hts := E.2.2.2.2.1
  have hw : wd D (wA cnt ad s.heap.size) s.heap cnt ad ct s.heap [] := wd.start hq
  generalize hQ : MQ below (QcRead (nI (cFar e1 t1 e2 t2))) args s 0 0 (fun _ => False) = Q
  have hl : lv_has ls 4 [(0, .ref (ad 7 c1)), (1, .ref (ad 15 o1))] := hl
  refine lv_aload_n hx hb dX3_farOff_0 rfl (lv_at hl 0 rfl) ?_
  refine lv_aload_n hx hb dX3_farOff_1 rfl (lv_at hl 1 rfl) ?_
  refine x_get E hw 15 o1 (hoi) hoc cl_3 ly_3 0 (by decide) tw_187 rfl dX3_farOff_2 ?_
  refine lv_aload_n hx hb dX3_farOff_5 rfl (lv_at hl 1 rfl) ?_
  refine x_get E hw 15 o1 (hoi) hoc cl_3 ly_3 1 (by decide) tw_189 rfl dX3_farOff_6 ?_
  refine x_read (x_runV (rest := []) E cbX3_unlike tw_377 (kX3_unlike l D ca cnt ad ct  c1 _ _ e2 t2 (hhi) (hhc)) ⟨rfl, rfl, by decide, by decide⟩ (x_recv E hw cl_3 (hhi) hhc) (fun _ _ _ _ h => h) (fun U hU _ => by rw [hU]; exact hw.1) rfl hl.1 rfl (Nat.le_of_ble_eq_true rfl) dX3_farOff_9 ⟨by decide, by decide⟩) ?_
  refine lv_istore_n (lv' := [(2, .int (nI (cUn e1 t1 e2 t2 8))), (0, .ref (ad 7 c1)), (1, .ref (ad 15 o1))]) hx hb dX3_farOff_12 rfl hl (by decide) rfl (fun ls hl => ?_)
  refine lv_aload_n hx hb dX3_farOff_13 rfl (lv_at hl 1 rfl) ?_
  refine lv_aload_n hx hb dX3_farOff_14 rfl (lv_at hl 2 rfl) ?_
  refine x_get E hw 15 o1 (hoi) hoc cl_3 ly_3 0 (by decide) tw_187 rfl dX3_farOff_15 ?_
  refine x_read (x_runS (rest := [.ref (ad 7 c1)]) E cbX3_turn tw_384 (kX3_turn l D ca e2 ) ⟨rfl, rfl, by decide, by decide⟩ (fun _ _ _ _ h => h) (fun _ _ _ => trivial) rfl hl.1 rfl (Nat.le_of_ble_eq_true rfl) dX3_farOff_18 ⟨by decide, by decide⟩) ?_
  refine lv_aload_n hx hb dX3_farOff_21 rfl (lv_at hl 2 rfl) ?_
  refine x_get E hw 15 o1 (hoi) hoc cl_3 ly_3 1 (by decide) tw_189 rfl dX3_farOff_22 ?_
  refine x_read (x_runS (rest := [.int (mTn e2 8), .ref (ad 7 c1)]) E cbX3_turn tw_384 (kX3_turn l D ca t2 ) ⟨rfl, rfl, by decide, by decide⟩ (fun _ _ _ _ h => h) (fun _ _ _ => trivial) rfl hl.1 rfl (Nat.le_of_ble_eq_true rfl) dX3_farOff_25 ⟨by decide, by decide⟩) ?_
  refine x_read (x_runV (rest := []) E cbX3_unlike tw_377 (kX3_unlike l D ca cnt ad ct  c1 _ _ (mTn e2 8) (mTn t2 8) (hhi) (hhc)) ⟨rfl, rfl, by decide, by decide⟩ (x_recv E hw cl_3 (hhi) hhc) (fun _ _ _ _ h => h) (fun U hU _ => by rw [hU]; exact hw.1) rfl hl.1 rfl (Nat.le_of_ble_eq_true rfl) dX3_farOff_28 ⟨by decide, by decide⟩) ?_
  refine lv_istore_n (lv' := [(3, .int (nI (cUn e1 t1 (mTn e2 8) (mTn t2 8) 8))), (2, .int (nI (cUn e1 t1 e2 t2 8))), (0, .ref (ad 7 c1)), (1, .ref (ad 15 o1))]) hx hb dX3_farOff_31 rfl hl (by decide) rfl (fun ls hl => ?_)
  refine lv_iload_n hx hb dX3_farOff_32 rfl (lv_at hl 1 rfl) ?_
  refine lv_iload_n hx hb dX3_farOff_33 rfl (lv_at hl 0 rfl) ?_
  refine va_mmin hx hb (E.2.2.1.trans hl.1.symm) hown (hts _ tw_387) (hts _ tw_356) (hts _ tw_12) (hts _ tw_357) (by decide) (Nat.le_of_ble_eq_true rfl) (Nat.zero_le _) (Nat.zero_le _) dX3_farOff_34 ?_
  subst hQ
  exact x_iret E hr hlk (x_min (by have := cUn_le e1 t1 e2 t2 8; omega) (by have := cUn_le e1 t1 (mTn e2 8) (mTn t2 8) 8; omega)) dX3_farOff_37
set_option maxHeartbeats 4000000 in
set_option maxRecDepth 100000 in
theorem kX2_agreeing (l : Launch) (D : va_G) (ca : Nat → ClassId) (cnt : Nat → Nat) (ad : Nat → Nat → Nat) (ct : Nat → Nat → va_E) (q1 : Nat) (o1 : Nat) (f1 : Int32) (l1 : Int32) (s1 : Int32) (m1 : Int32) (c1 : Nat) (t0 : Int32) (t1 : Int32) (t2 : Int32) (t4 : Int32) (t5 : Int32) (t7 : Int32) (t8 : Int32) (t9 : Int32) (ix : List Nat) (dt : Nat → MV) (hqi : q1 < cnt 16) (hqc : ct 16 q1 = .inr (2, [.ref (ad 15 o1), .int f1, .int l1, .int s1, .int m1])) (hci : c1 < cnt 6) (hcc : ct 6 c1 = .inr (1, [.int t0, .int t1, .int t2, .ref (ad 7 c1), .int t4, .int t5, va_rf (Option.map (ad 8) (ix[0]?)), .int t7, .int t8, .int t9])) : Met l yX2_agreeing (wz yX2_agreeing cX2_agreeing 3 (some .int)) (rmL 2 0 0) (va_Pc [.ref (ad 16 q1), .ref (ad 6 c1)] (fun U => wq D cnt ad ct U.heap ∧ gK D ca U)) (QcRead (cAg t0 t1 t2 f1 l1 s1 m1)) 0 0 (fun _ => False) := by
  refine x_met (by decide) (Nat.le_of_ble_eq_true rfl) ?_
  intro p e s m below meth c E hr hlk hnm hq ls hl
  generalize hav : ([.ref (ad 16 q1), .ref (ad 6 c1)] : List Value).toArray = args at E ⊢
  have hx := E.1
  have hb := E.2.1
  have hown := E.2.2.2.1
  have hts := E.2.2.2.2.1
  have hw : wd D (wA cnt ad s.heap.size) s.heap cnt ad ct s.heap [] := wd.start hq
  generalize hQ : MQ below (QcRead (cAg t0 t1 t2 f1 l1 s1 m1)) args s 0 0 (fun _ => False) = Q
  have hl : lv_has ls 3 [(0, .ref (ad 16 q1)), (1, .ref (ad 6 c1))] := hl
  refine lv_aload_n hx hb dX2_agreeing_0 rfl (lv_at hl 1 rfl) ?_
  refine x_get E hw 6 c1 (hci) hcc cl_1 ly_1 0 (by decide) tw_226 rfl dX2_agreeing_1 ?_
  refine lv_aload_n hx hb dX2_agreeing_4 rfl (lv_at hl 0 rfl) ?_
  refine x_get E hw 16 q1 (hqi) hqc cl_2 ly_2 1 (by decide) tw_471 rfl dX2_agreeing_5 ?_
  refine lv_aload_n hx hb dX2_agreeing_8 rfl (lv_at hl 0 rfl) ?_
  refine x_get E hw 16 q1 (hqi) hqc cl_2 ly_2 2 (by decide) tw_472 rfl dX2_agreeing_9 ?_
  refine x_read (x_runSN (rest := []) E cbX9_within E.2.2.2.2.2.2.2.2.2.2.1 (kX9_within l D ca t0 f1 l1 ) ⟨rfl, rfl, by decide, by decide⟩ (fun _ _ _ _ h => h) (fun _ _ _ => trivial) rfl hl.1 rfl (Nat.le_of_ble_eq_true rfl) dX2_agreeing_12 ⟨by decide, by decide⟩) ?_
  refine lv_if_eq (tgt := 22) hx hb dX2_agreeing_15 (by decide) (fun c_15 => ?_) (fun c_15 => ?_)
  · skip
    have c_15 := bB_0.mp c_15
    refine lv_iconst (v := 0) hx hb dX2_agreeing_22 (by decide) ?_
    refine lv_istore_n (lv' := [(2, .int 0), (0, .ref (ad 16 q1)), (1, .ref (ad 6 c1))]) hx hb dX2_agreeing_23 rfl hl (by decide) rfl (fun ls hl => ?_)
    refine lv_iload_n hx hb dX2_agreeing_24 rfl (lv_at hl 0 rfl) ?_
    refine lv_aload_n hx hb dX2_agreeing_25 rfl (lv_at hl 2 rfl) ?_
    refine x_get E hw 6 c1 (hci) hcc cl_1 ly_1 1 (by decide) tw_229 rfl dX2_agreeing_26 ?_
    refine lv_aload_n hx hb dX2_agreeing_29 rfl (lv_at hl 1 rfl) ?_
    refine x_get E hw 16 q1 (hqi) hqc cl_2 ly_2 3 (by decide) tw_473 rfl dX2_agreeing_30 ?_
    refine lv_icmp_ne (tgt := 40) hx hb dX2_agreeing_33 (by decide) (fun c_33 => ?_) (fun c_33 => ?_)
    · skip
      refine lv_iconst (v := 0) hx hb dX2_agreeing_40 (by decide) ?_
      refine lv_iadd hx hb dX2_agreeing_41 ?_
      refine lv_istore_n (lv' := [(2, .int (0 + 0)), (0, .ref (ad 16 q1)), (1, .ref (ad 6 c1))]) hx hb dX2_agreeing_42 rfl hl (by decide) rfl (fun ls hl => ?_)
      refine lv_iload_n hx hb dX2_agreeing_43 rfl (lv_at hl 0 rfl) ?_
      refine lv_aload_n hx hb dX2_agreeing_44 rfl (lv_at hl 2 rfl) ?_
      refine x_get E hw 6 c1 (hci) hcc cl_1 ly_1 2 (by decide) tw_232 rfl dX2_agreeing_45 ?_
      refine lv_aload_n hx hb dX2_agreeing_48 rfl (lv_at hl 1 rfl) ?_
      refine x_get E hw 16 q1 (hqi) hqc cl_2 ly_2 4 (by decide) tw_474 rfl dX2_agreeing_49 ?_
      refine lv_icmp_ne (tgt := 59) hx hb dX2_agreeing_52 (by decide) (fun c_52 => ?_) (fun c_52 => ?_)
      · skip
        refine lv_iconst (v := 0) hx hb dX2_agreeing_59 (by decide) ?_
        refine lv_iadd hx hb dX2_agreeing_60 ?_
        refine lv_istore_n (lv' := [(2, .int ((0 + 0) + 0)), (0, .ref (ad 16 q1)), (1, .ref (ad 6 c1))]) hx hb dX2_agreeing_61 rfl hl (by decide) rfl (fun ls hl => ?_)
        refine lv_iload_n hx hb dX2_agreeing_62 rfl (lv_at hl 0 rfl) ?_
        subst hQ
        exact x_iret E hr hlk (by simp [cAg, bB, c_15, c_33, c_52]) dX2_agreeing_63
      · skip
        refine lv_iconst (v := 1) hx hb dX2_agreeing_55 (by decide) ?_
        refine lv_goto (tgt := 60) hx hb dX2_agreeing_56 (by decide) ?_
        refine lv_iadd hx hb dX2_agreeing_60 ?_
        refine lv_istore_n (lv' := [(2, .int ((0 + 0) + 1)), (0, .ref (ad 16 q1)), (1, .ref (ad 6 c1))]) hx hb dX2_agreeing_61 rfl hl (by decide) rfl (fun ls hl => ?_)
        refine lv_iload_n hx hb dX2_agreeing_62 rfl (lv_at hl 0 rfl) ?_
        subst hQ
        exact x_iret E hr hlk (by simp [cAg, bB, c_15, c_33, c_52]) dX2_agreeing_63
    · skip
      refine lv_iconst (v := 1) hx hb dX2_agreeing_36 (by decide) ?_
      refine lv_goto (tgt := 41) hx hb dX2_agreeing_37 (by decide) ?_
      refine lv_iadd hx hb dX2_agreeing_41 ?_
      refine lv_istore_n (lv' := [(2, .int (0 + 1)), (0, .ref (ad 16 q1)), (1, .ref (ad 6 c1))]) hx hb dX2_agreeing_42 rfl hl (by decide) rfl (fun ls hl => ?_)
      refine lv_iload_n hx hb dX2_agreeing_43 rfl (lv_at hl 0 rfl) ?_
      refine lv_aload_n hx hb dX2_agreeing_44 rfl (lv_at hl 2 rfl) ?_
      refine x_get E hw 6 c1 (hci) hcc cl_1 ly_1 2 (by decide) tw_232 rfl dX2_agreeing_45 ?_
      refine lv_aload_n hx hb dX2_agreeing_48 rfl (lv_at hl 1 rfl) ?_
      refine x_get E hw 16 q1 (hqi) hqc cl_2 ly_2 4 (by decide) tw_474 rfl dX2_agreeing_49 ?_
      refine lv_icmp_ne (tgt := 59) hx hb dX2_agreeing_52 (by decide) (fun c_52 => ?_) (fun c_52 => ?_)
      · skip
        refine lv_iconst (v := 0) hx hb dX2_agreeing_59 (by decide) ?_
        refine lv_iadd hx hb dX2_agreeing_60 ?_
        refine lv_istore_n (lv' := [(2, .int ((0 + 1) + 0)), (0, .ref (ad 16 q1)), (1, .ref (ad 6 c1))]) hx hb dX2_agreeing_61 rfl hl (by decide) rfl (fun ls hl => ?_)
        refine lv_iload_n hx hb dX2_agreeing_62 rfl (lv_at hl 0 rfl) ?_
        subst hQ
        exact x_iret E hr hlk (by simp [cAg, bB, c_15, c_33, c_52]) dX2_agreeing_63
      · skip
        refine lv_iconst (v := 1) hx hb dX2_agreeing_55 (by decide) ?_
        refine lv_goto (tgt := 60) hx hb dX2_agreeing_56 (by decide) ?_
        refine lv_iadd hx hb dX2_agreeing_60 ?_
        refine lv_istore_n (lv' := [(2, .int ((0 + 1) + 1)), (0, .ref (ad 16 q1)), (1, .ref (ad 6 c1))]) hx hb dX2_agreeing_61 rfl hl (by decide) rfl (fun ls hl => ?_)
        refine lv_iload_n hx hb dX2_agreeing_62 rfl (lv_at hl 0 rfl) ?_
        subst hQ
        exact x_iret E hr hlk (by simp [cAg, bB, c_15, c_33, c_52]) dX2_agreeing_63
  · skip
    have c_15 := bB_n0.mp c_15
    refine lv_iconst (v := 1) hx hb dX2_agreeing_18 (by decide) ?_
    refine lv_goto (tgt := 23) hx hb dX2_agreeing_19 (by decide) ?_
    refine lv_istore_n (lv' := [(2, .int 1), (0, .ref (ad 16 q1)), (1, .ref (ad 6 c1))]) hx hb dX2_agreeing_23 rfl hl (by decide) rfl (fun ls hl => ?_)
    refine lv_iload_n hx hb dX2_agreeing_24 rfl (lv_at hl 0 rfl) ?_
    refine lv_aload_n hx hb dX2_agreeing_25 rfl (lv_at hl 2 rfl) ?_
    refine x_get E hw 6 c1 (hci) hcc cl_1 ly_1 1 (by decide) tw_229 rfl dX2_agreeing_26 ?_
    refine lv_aload_n hx hb dX2_agreeing_29 rfl (lv_at hl 1 rfl) ?_
    refine x_get E hw 16 q1 (hqi) hqc cl_2 ly_2 3 (by decide) tw_473 rfl dX2_agreeing_30 ?_
    refine lv_icmp_ne (tgt := 40) hx hb dX2_agreeing_33 (by decide) (fun c_33 => ?_) (fun c_33 => ?_)
    · skip
      refine lv_iconst (v := 0) hx hb dX2_agreeing_40 (by decide) ?_
      refine lv_iadd hx hb dX2_agreeing_41 ?_
      refine lv_istore_n (lv' := [(2, .int (1 + 0)), (0, .ref (ad 16 q1)), (1, .ref (ad 6 c1))]) hx hb dX2_agreeing_42 rfl hl (by decide) rfl (fun ls hl => ?_)
      refine lv_iload_n hx hb dX2_agreeing_43 rfl (lv_at hl 0 rfl) ?_
      refine lv_aload_n hx hb dX2_agreeing_44 rfl (lv_at hl 2 rfl) ?_
      refine x_get E hw 6 c1 (hci) hcc cl_1 ly_1 2 (by decide) tw_232 rfl dX2_agreeing_45 ?_
      refine lv_aload_n hx hb dX2_agreeing_48 rfl (lv_at hl 1 rfl) ?_
      refine x_get E hw 16 q1 (hqi) hqc cl_2 ly_2 4 (by decide) tw_474 rfl dX2_agreeing_49 ?_
      refine lv_icmp_ne (tgt := 59) hx hb dX2_agreeing_52 (by decide) (fun c_52 => ?_) (fun c_52 => ?_)
      · skip
        refine lv_iconst (v := 0) hx hb dX2_agreeing_59 (by decide) ?_
        refine lv_iadd hx hb dX2_agreeing_60 ?_
        refine lv_istore_n (lv' := [(2, .int ((1 + 0) + 0)), (0, .ref (ad 16 q1)), (1, .ref (ad 6 c1))]) hx hb dX2_agreeing_61 rfl hl (by decide) rfl (fun ls hl => ?_)
        refine lv_iload_n hx hb dX2_agreeing_62 rfl (lv_at hl 0 rfl) ?_
        subst hQ
        exact x_iret E hr hlk (by simp [cAg, bB, c_15, c_33, c_52]) dX2_agreeing_63
      · skip
        refine lv_iconst (v := 1) hx hb dX2_agreeing_55 (by decide) ?_
        refine lv_goto (tgt := 60) hx hb dX2_agreeing_56 (by decide) ?_
        refine lv_iadd hx hb dX2_agreeing_60 ?_
        refine lv_istore_n (lv' := [(2, .int ((1 + 0) + 1)), (0, .ref (ad 16 q1)), (1, .ref (ad 6 c1))]) hx hb dX2_agreeing_61 rfl hl (by decide) rfl (fun ls hl => ?_)
        refine lv_iload_n hx hb dX2_agreeing_62 rfl (lv_at hl 0 rfl) ?_
        subst hQ
        exact x_iret E hr hlk (by simp [cAg, bB, c_15, c_33, c_52]) dX2_agreeing_63
    · skip
      refine lv_iconst (v := 1) hx hb dX2_agreeing_36 (by decide) ?_
      refine lv_goto (tgt := 41) hx hb dX2_agreeing_37 (by decide) ?_
      refine lv_iadd hx hb dX2_agreeing_41 ?_
      refine lv_istore_n (lv' := [(2, .int (1 + 1)), (0, .ref (ad 16 q1)), (1, .ref (ad 6 c1))]) hx hb dX2_agreeing_42 rfl hl (by decide) rfl (fun ls hl => ?_)
      refine lv_iload_n hx hb dX2_agreeing_43 rfl (lv_at hl 0 rfl) ?_
      refine lv_aload_n hx hb dX2_agreeing_44 rfl (lv_at hl 2 rfl) ?_
      refine x_get E hw 6 c1 (hci) hcc cl_1 ly_1 2 (by decide) tw_232 rfl dX2_agreeing_45 ?_
      refine lv_aload_n hx hb dX2_agreeing_48 rfl (lv_at hl 1 rfl) ?_
      refine x_get E hw 16 q1 (hqi) hqc cl_2 ly_2 4 (by decide) tw_474 rfl dX2_agreeing_49 ?_
      refine lv_icmp_ne (tgt := 59) hx hb dX2_agreeing_52 (by decide) (fun c_52 => ?_) (fun c_52 => ?_)
      · skip
        refine lv_iconst (v := 0) hx hb dX2_agreeing_59 (by decide) ?_
        refine lv_iadd hx hb dX2_agreeing_60 ?_
        refine lv_istore_n (lv' := [(2, .int ((1 + 1) + 0)), (0, .ref (ad 16 q1)), (1, .ref (ad 6 c1))]) hx hb dX2_agreeing_61 rfl hl (by decide) rfl (fun ls hl => ?_)
        refine lv_iload_n hx hb dX2_agreeing_62 rfl (lv_at hl 0 rfl) ?_
        subst hQ
        exact x_iret E hr hlk (by simp [cAg, bB, c_15, c_33, c_52]) dX2_agreeing_63
      · skip
        refine lv_iconst (v := 1) hx hb dX2_agreeing_55 (by decide) ?_
        refine lv_goto (tgt := 60) hx hb dX2_agreeing_56 (by decide) ?_
        refine lv_iadd hx hb dX2_agreeing_60 ?_
        refine lv_istore_n (lv' := [(2, .int ((1 + 1) + 1)), (0, .ref (ad 16 q1)), (1, .ref (ad 6 c1))]) hx hb dX2_agreeing_61 rfl hl (by decide) rfl (fun ls hl => ?_)
        refine lv_iload_n hx hb dX2_agreeing_62 rfl (lv_at hl 0 rfl) ?_
        subst hQ
        exact x_iret E hr hlk (by simp [cAg, bB, c_15, c_33, c_52]) dX2_agreeing_63
set_option maxHeartbeats 4000000 in
set_option maxRecDepth 100000 in
theorem kX2_disagreeing (l : Launch) (D : va_G) (ca : Nat → ClassId) (cnt : Nat → Nat) (ad : Nat → Nat → Nat) (ct : Nat → Nat → va_E) (q1 : Nat) (o1 : Nat) (f1 : Int32) (l1 : Int32) (s1 : Int32) (m1 : Int32) (c1 : Nat) (t0 : Int32) (t1 : Int32) (t2 : Int32) (t4 : Int32) (t5 : Int32) (t7 : Int32) (t8 : Int32) (t9 : Int32) (ix : List Nat) (dt : Nat → MV) (hqi : q1 < cnt 16) (hqc : ct 16 q1 = .inr (2, [.ref (ad 15 o1), .int f1, .int l1, .int s1, .int m1])) (hci : c1 < cnt 6) (hcc : ct 6 c1 = .inr (1, [.int t0, .int t1, .int t2, .ref (ad 7 c1), .int t4, .int t5, va_rf (Option.map (ad 8) (ix[0]?)), .int t7, .int t8, .int t9])) : Met l yX2_disagreeing (wz yX2_disagreeing cX2_disagreeing 3 (some .int)) (rmL 2 0 0) (va_Pc [.ref (ad 16 q1), .ref (ad 6 c1)] (fun U => wq D cnt ad ct U.heap ∧ gK D ca U)) (QcRead (cDg t0 t1 t2 f1 l1 s1 m1)) 0 0 (fun _ => False) := by
  refine x_met (by decide) (Nat.le_of_ble_eq_true rfl) ?_
  intro p e s m below meth c E hr hlk hnm hq ls hl
  generalize hav : ([.ref (ad 16 q1), .ref (ad 6 c1)] : List Value).toArray = args at E ⊢
  have hx := E.1
  have hb := E.2.1
  have hown := E.2.2.2.1
  have hts := E.2.2.2.2.1
  have hw : wd D (wA cnt ad s.heap.size) s.heap cnt ad ct s.heap [] := wd.start hq
  generalize hQ : MQ below (QcRead (cDg t0 t1 t2 f1 l1 s1 m1)) args s 0 0 (fun _ => False) = Q
  have hl : lv_has ls 3 [(0, .ref (ad 16 q1)), (1, .ref (ad 6 c1))] := hl
  refine lv_aload_n hx hb dX2_disagreeing_0 rfl (lv_at hl 1 rfl) ?_
  refine x_get E hw 6 c1 (hci) hcc cl_1 ly_1 0 (by decide) tw_226 rfl dX2_disagreeing_1 ?_
  refine lv_aload_n hx hb dX2_disagreeing_4 rfl (lv_at hl 0 rfl) ?_
  refine x_get E hw 16 q1 (hqi) hqc cl_2 ly_2 1 (by decide) tw_471 rfl dX2_disagreeing_5 ?_
  refine lv_aload_n hx hb dX2_disagreeing_8 rfl (lv_at hl 0 rfl) ?_
  refine x_get E hw 16 q1 (hqi) hqc cl_2 ly_2 2 (by decide) tw_472 rfl dX2_disagreeing_9 ?_
  refine x_read (x_runSN (rest := []) E cbX9_within E.2.2.2.2.2.2.2.2.2.2.1 (kX9_within l D ca t0 f1 l1 ) ⟨rfl, rfl, by decide, by decide⟩ (fun _ _ _ _ h => h) (fun _ _ _ => trivial) rfl hl.1 rfl (Nat.le_of_ble_eq_true rfl) dX2_disagreeing_12 ⟨by decide, by decide⟩) ?_
  refine lv_if_eq (tgt := 22) hx hb dX2_disagreeing_15 (by decide) (fun c_15 => ?_) (fun c_15 => ?_)
  · skip
    have c_15 := bB_0.mp c_15
    refine lv_iconst (v := 1) hx hb dX2_disagreeing_22 (by decide) ?_
    refine lv_istore_n (lv' := [(2, .int 1), (0, .ref (ad 16 q1)), (1, .ref (ad 6 c1))]) hx hb dX2_disagreeing_23 rfl hl (by decide) rfl (fun ls hl => ?_)
    refine lv_iload_n hx hb dX2_disagreeing_24 rfl (lv_at hl 0 rfl) ?_
    refine lv_aload_n hx hb dX2_disagreeing_25 rfl (lv_at hl 1 rfl) ?_
    refine x_get E hw 16 q1 (hqi) hqc cl_2 ly_2 3 (by decide) tw_473 rfl dX2_disagreeing_26 ?_
    refine lv_iconst (v := (-1)) hx hb dX2_disagreeing_29 (by decide) ?_
    refine lv_icmp_eq (tgt := 48) hx hb dX2_disagreeing_30 (by decide) (fun c_30 => ?_) (fun c_30 => ?_)
    · skip
      refine lv_iconst (v := 0) hx hb dX2_disagreeing_48 (by decide) ?_
      refine lv_iadd hx hb dX2_disagreeing_49 ?_
      refine lv_istore_n (lv' := [(2, .int (1 + 0)), (0, .ref (ad 16 q1)), (1, .ref (ad 6 c1))]) hx hb dX2_disagreeing_50 rfl hl (by decide) rfl (fun ls hl => ?_)
      refine lv_iload_n hx hb dX2_disagreeing_51 rfl (lv_at hl 0 rfl) ?_
      refine lv_aload_n hx hb dX2_disagreeing_52 rfl (lv_at hl 1 rfl) ?_
      refine x_get E hw 16 q1 (hqi) hqc cl_2 ly_2 4 (by decide) tw_474 rfl dX2_disagreeing_53 ?_
      refine lv_iconst (v := (-1)) hx hb dX2_disagreeing_56 (by decide) ?_
      refine lv_icmp_eq (tgt := 75) hx hb dX2_disagreeing_57 (by decide) (fun c_57 => ?_) (fun c_57 => ?_)
      · skip
        refine lv_iconst (v := 0) hx hb dX2_disagreeing_75 (by decide) ?_
        refine lv_iadd hx hb dX2_disagreeing_76 ?_
        refine lv_istore_n (lv' := [(2, .int ((1 + 0) + 0)), (0, .ref (ad 16 q1)), (1, .ref (ad 6 c1))]) hx hb dX2_disagreeing_77 rfl hl (by decide) rfl (fun ls hl => ?_)
        refine lv_iload_n hx hb dX2_disagreeing_78 rfl (lv_at hl 0 rfl) ?_
        subst hQ
        exact x_iret E hr hlk (by simp [cDg, bB, c_15, c_30, c_57]) dX2_disagreeing_79
      · skip
        refine lv_aload_n hx hb dX2_disagreeing_60 rfl (lv_at hl 2 rfl) ?_
        refine x_get E hw 6 c1 (hci) hcc cl_1 ly_1 2 (by decide) tw_232 rfl dX2_disagreeing_61 ?_
        refine lv_aload_n hx hb dX2_disagreeing_64 rfl (lv_at hl 1 rfl) ?_
        refine x_get E hw 16 q1 (hqi) hqc cl_2 ly_2 4 (by decide) tw_474 rfl dX2_disagreeing_65 ?_
        refine lv_icmp_eq (tgt := 75) hx hb dX2_disagreeing_68 (by decide) (fun c_68 => ?_) (fun c_68 => ?_)
        · skip
          refine lv_iconst (v := 0) hx hb dX2_disagreeing_75 (by decide) ?_
          refine lv_iadd hx hb dX2_disagreeing_76 ?_
          refine lv_istore_n (lv' := [(2, .int ((1 + 0) + 0)), (0, .ref (ad 16 q1)), (1, .ref (ad 6 c1))]) hx hb dX2_disagreeing_77 rfl hl (by decide) rfl (fun ls hl => ?_)
          refine lv_iload_n hx hb dX2_disagreeing_78 rfl (lv_at hl 0 rfl) ?_
          subst hQ
          exact x_iret E hr hlk (by simp [cDg, bB, c_15, c_30, c_57, c_68]) dX2_disagreeing_79
        · skip
          refine lv_iconst (v := 1) hx hb dX2_disagreeing_71 (by decide) ?_
          refine lv_goto (tgt := 76) hx hb dX2_disagreeing_72 (by decide) ?_
          refine lv_iadd hx hb dX2_disagreeing_76 ?_
          refine lv_istore_n (lv' := [(2, .int ((1 + 0) + 1)), (0, .ref (ad 16 q1)), (1, .ref (ad 6 c1))]) hx hb dX2_disagreeing_77 rfl hl (by decide) rfl (fun ls hl => ?_)
          refine lv_iload_n hx hb dX2_disagreeing_78 rfl (lv_at hl 0 rfl) ?_
          subst hQ
          exact x_iret E hr hlk (by simp [cDg, bB, c_15, c_30, c_57, c_68]) dX2_disagreeing_79
    · skip
      refine lv_aload_n hx hb dX2_disagreeing_33 rfl (lv_at hl 2 rfl) ?_
      refine x_get E hw 6 c1 (hci) hcc cl_1 ly_1 1 (by decide) tw_229 rfl dX2_disagreeing_34 ?_
      refine lv_aload_n hx hb dX2_disagreeing_37 rfl (lv_at hl 1 rfl) ?_
      refine x_get E hw 16 q1 (hqi) hqc cl_2 ly_2 3 (by decide) tw_473 rfl dX2_disagreeing_38 ?_
      refine lv_icmp_eq (tgt := 48) hx hb dX2_disagreeing_41 (by decide) (fun c_41 => ?_) (fun c_41 => ?_)
      · skip
        refine lv_iconst (v := 0) hx hb dX2_disagreeing_48 (by decide) ?_
        refine lv_iadd hx hb dX2_disagreeing_49 ?_
        refine lv_istore_n (lv' := [(2, .int (1 + 0)), (0, .ref (ad 16 q1)), (1, .ref (ad 6 c1))]) hx hb dX2_disagreeing_50 rfl hl (by decide) rfl (fun ls hl => ?_)
        refine lv_iload_n hx hb dX2_disagreeing_51 rfl (lv_at hl 0 rfl) ?_
        refine lv_aload_n hx hb dX2_disagreeing_52 rfl (lv_at hl 1 rfl) ?_
        refine x_get E hw 16 q1 (hqi) hqc cl_2 ly_2 4 (by decide) tw_474 rfl dX2_disagreeing_53 ?_
        refine lv_iconst (v := (-1)) hx hb dX2_disagreeing_56 (by decide) ?_
        refine lv_icmp_eq (tgt := 75) hx hb dX2_disagreeing_57 (by decide) (fun c_57 => ?_) (fun c_57 => ?_)
        · skip
          refine lv_iconst (v := 0) hx hb dX2_disagreeing_75 (by decide) ?_
          refine lv_iadd hx hb dX2_disagreeing_76 ?_
          refine lv_istore_n (lv' := [(2, .int ((1 + 0) + 0)), (0, .ref (ad 16 q1)), (1, .ref (ad 6 c1))]) hx hb dX2_disagreeing_77 rfl hl (by decide) rfl (fun ls hl => ?_)
          refine lv_iload_n hx hb dX2_disagreeing_78 rfl (lv_at hl 0 rfl) ?_
          subst hQ
          exact x_iret E hr hlk (by simp [cDg, bB, c_15, c_30, c_41, c_57]) dX2_disagreeing_79
        · skip
          refine lv_aload_n hx hb dX2_disagreeing_60 rfl (lv_at hl 2 rfl) ?_
          refine x_get E hw 6 c1 (hci) hcc cl_1 ly_1 2 (by decide) tw_232 rfl dX2_disagreeing_61 ?_
          refine lv_aload_n hx hb dX2_disagreeing_64 rfl (lv_at hl 1 rfl) ?_
          refine x_get E hw 16 q1 (hqi) hqc cl_2 ly_2 4 (by decide) tw_474 rfl dX2_disagreeing_65 ?_
          refine lv_icmp_eq (tgt := 75) hx hb dX2_disagreeing_68 (by decide) (fun c_68 => ?_) (fun c_68 => ?_)
          · skip
            refine lv_iconst (v := 0) hx hb dX2_disagreeing_75 (by decide) ?_
            refine lv_iadd hx hb dX2_disagreeing_76 ?_
            refine lv_istore_n (lv' := [(2, .int ((1 + 0) + 0)), (0, .ref (ad 16 q1)), (1, .ref (ad 6 c1))]) hx hb dX2_disagreeing_77 rfl hl (by decide) rfl (fun ls hl => ?_)
            refine lv_iload_n hx hb dX2_disagreeing_78 rfl (lv_at hl 0 rfl) ?_
            subst hQ
            exact x_iret E hr hlk (by simp [cDg, bB, c_15, c_30, c_41, c_57, c_68]) dX2_disagreeing_79
          · skip
            refine lv_iconst (v := 1) hx hb dX2_disagreeing_71 (by decide) ?_
            refine lv_goto (tgt := 76) hx hb dX2_disagreeing_72 (by decide) ?_
            refine lv_iadd hx hb dX2_disagreeing_76 ?_
            refine lv_istore_n (lv' := [(2, .int ((1 + 0) + 1)), (0, .ref (ad 16 q1)), (1, .ref (ad 6 c1))]) hx hb dX2_disagreeing_77 rfl hl (by decide) rfl (fun ls hl => ?_)
            refine lv_iload_n hx hb dX2_disagreeing_78 rfl (lv_at hl 0 rfl) ?_
            subst hQ
            exact x_iret E hr hlk (by simp [cDg, bB, c_15, c_30, c_41, c_57, c_68]) dX2_disagreeing_79
      · skip
        refine lv_iconst (v := 1) hx hb dX2_disagreeing_44 (by decide) ?_
        refine lv_goto (tgt := 49) hx hb dX2_disagreeing_45 (by decide) ?_
        refine lv_iadd hx hb dX2_disagreeing_49 ?_
        refine lv_istore_n (lv' := [(2, .int (1 + 1)), (0, .ref (ad 16 q1)), (1, .ref (ad 6 c1))]) hx hb dX2_disagreeing_50 rfl hl (by decide) rfl (fun ls hl => ?_)
        refine lv_iload_n hx hb dX2_disagreeing_51 rfl (lv_at hl 0 rfl) ?_
        refine lv_aload_n hx hb dX2_disagreeing_52 rfl (lv_at hl 1 rfl) ?_
        refine x_get E hw 16 q1 (hqi) hqc cl_2 ly_2 4 (by decide) tw_474 rfl dX2_disagreeing_53 ?_
        refine lv_iconst (v := (-1)) hx hb dX2_disagreeing_56 (by decide) ?_
        refine lv_icmp_eq (tgt := 75) hx hb dX2_disagreeing_57 (by decide) (fun c_57 => ?_) (fun c_57 => ?_)
        · skip
          refine lv_iconst (v := 0) hx hb dX2_disagreeing_75 (by decide) ?_
          refine lv_iadd hx hb dX2_disagreeing_76 ?_
          refine lv_istore_n (lv' := [(2, .int ((1 + 1) + 0)), (0, .ref (ad 16 q1)), (1, .ref (ad 6 c1))]) hx hb dX2_disagreeing_77 rfl hl (by decide) rfl (fun ls hl => ?_)
          refine lv_iload_n hx hb dX2_disagreeing_78 rfl (lv_at hl 0 rfl) ?_
          subst hQ
          exact x_iret E hr hlk (by simp [cDg, bB, c_15, c_30, c_41, c_57]) dX2_disagreeing_79
        · skip
          refine lv_aload_n hx hb dX2_disagreeing_60 rfl (lv_at hl 2 rfl) ?_
          refine x_get E hw 6 c1 (hci) hcc cl_1 ly_1 2 (by decide) tw_232 rfl dX2_disagreeing_61 ?_
          refine lv_aload_n hx hb dX2_disagreeing_64 rfl (lv_at hl 1 rfl) ?_
          refine x_get E hw 16 q1 (hqi) hqc cl_2 ly_2 4 (by decide) tw_474 rfl dX2_disagreeing_65 ?_
          refine lv_icmp_eq (tgt := 75) hx hb dX2_disagreeing_68 (by decide) (fun c_68 => ?_) (fun c_68 => ?_)
          · skip
            refine lv_iconst (v := 0) hx hb dX2_disagreeing_75 (by decide) ?_
            refine lv_iadd hx hb dX2_disagreeing_76 ?_
            refine lv_istore_n (lv' := [(2, .int ((1 + 1) + 0)), (0, .ref (ad 16 q1)), (1, .ref (ad 6 c1))]) hx hb dX2_disagreeing_77 rfl hl (by decide) rfl (fun ls hl => ?_)
            refine lv_iload_n hx hb dX2_disagreeing_78 rfl (lv_at hl 0 rfl) ?_
            subst hQ
            exact x_iret E hr hlk (by simp [cDg, bB, c_15, c_30, c_41, c_57, c_68]) dX2_disagreeing_79
          · skip
            refine lv_iconst (v := 1) hx hb dX2_disagreeing_71 (by decide) ?_
            refine lv_goto (tgt := 76) hx hb dX2_disagreeing_72 (by decide) ?_
            refine lv_iadd hx hb dX2_disagreeing_76 ?_
            refine lv_istore_n (lv' := [(2, .int ((1 + 1) + 1)), (0, .ref (ad 16 q1)), (1, .ref (ad 6 c1))]) hx hb dX2_disagreeing_77 rfl hl (by decide) rfl (fun ls hl => ?_)
            refine lv_iload_n hx hb dX2_disagreeing_78 rfl (lv_at hl 0 rfl) ?_
            subst hQ
            exact x_iret E hr hlk (by simp [cDg, bB, c_15, c_30, c_41, c_57, c_68]) dX2_disagreeing_79
  · skip
    have c_15 := bB_n0.mp c_15
    refine lv_iconst (v := 0) hx hb dX2_disagreeing_18 (by decide) ?_
    refine lv_goto (tgt := 23) hx hb dX2_disagreeing_19 (by decide) ?_
    refine lv_istore_n (lv' := [(2, .int 0), (0, .ref (ad 16 q1)), (1, .ref (ad 6 c1))]) hx hb dX2_disagreeing_23 rfl hl (by decide) rfl (fun ls hl => ?_)
    refine lv_iload_n hx hb dX2_disagreeing_24 rfl (lv_at hl 0 rfl) ?_
    refine lv_aload_n hx hb dX2_disagreeing_25 rfl (lv_at hl 1 rfl) ?_
    refine x_get E hw 16 q1 (hqi) hqc cl_2 ly_2 3 (by decide) tw_473 rfl dX2_disagreeing_26 ?_
    refine lv_iconst (v := (-1)) hx hb dX2_disagreeing_29 (by decide) ?_
    refine lv_icmp_eq (tgt := 48) hx hb dX2_disagreeing_30 (by decide) (fun c_30 => ?_) (fun c_30 => ?_)
    · skip
      refine lv_iconst (v := 0) hx hb dX2_disagreeing_48 (by decide) ?_
      refine lv_iadd hx hb dX2_disagreeing_49 ?_
      refine lv_istore_n (lv' := [(2, .int (0 + 0)), (0, .ref (ad 16 q1)), (1, .ref (ad 6 c1))]) hx hb dX2_disagreeing_50 rfl hl (by decide) rfl (fun ls hl => ?_)
      refine lv_iload_n hx hb dX2_disagreeing_51 rfl (lv_at hl 0 rfl) ?_
      refine lv_aload_n hx hb dX2_disagreeing_52 rfl (lv_at hl 1 rfl) ?_
      refine x_get E hw 16 q1 (hqi) hqc cl_2 ly_2 4 (by decide) tw_474 rfl dX2_disagreeing_53 ?_
      refine lv_iconst (v := (-1)) hx hb dX2_disagreeing_56 (by decide) ?_
      refine lv_icmp_eq (tgt := 75) hx hb dX2_disagreeing_57 (by decide) (fun c_57 => ?_) (fun c_57 => ?_)
      · skip
        refine lv_iconst (v := 0) hx hb dX2_disagreeing_75 (by decide) ?_
        refine lv_iadd hx hb dX2_disagreeing_76 ?_
        refine lv_istore_n (lv' := [(2, .int ((0 + 0) + 0)), (0, .ref (ad 16 q1)), (1, .ref (ad 6 c1))]) hx hb dX2_disagreeing_77 rfl hl (by decide) rfl (fun ls hl => ?_)
        refine lv_iload_n hx hb dX2_disagreeing_78 rfl (lv_at hl 0 rfl) ?_
        subst hQ
        exact x_iret E hr hlk (by simp [cDg, bB, c_15, c_30, c_57]) dX2_disagreeing_79
      · skip
        refine lv_aload_n hx hb dX2_disagreeing_60 rfl (lv_at hl 2 rfl) ?_
        refine x_get E hw 6 c1 (hci) hcc cl_1 ly_1 2 (by decide) tw_232 rfl dX2_disagreeing_61 ?_
        refine lv_aload_n hx hb dX2_disagreeing_64 rfl (lv_at hl 1 rfl) ?_
        refine x_get E hw 16 q1 (hqi) hqc cl_2 ly_2 4 (by decide) tw_474 rfl dX2_disagreeing_65 ?_
        refine lv_icmp_eq (tgt := 75) hx hb dX2_disagreeing_68 (by decide) (fun c_68 => ?_) (fun c_68 => ?_)
        · skip
          refine lv_iconst (v := 0) hx hb dX2_disagreeing_75 (by decide) ?_
          refine lv_iadd hx hb dX2_disagreeing_76 ?_
          refine lv_istore_n (lv' := [(2, .int ((0 + 0) + 0)), (0, .ref (ad 16 q1)), (1, .ref (ad 6 c1))]) hx hb dX2_disagreeing_77 rfl hl (by decide) rfl (fun ls hl => ?_)
          refine lv_iload_n hx hb dX2_disagreeing_78 rfl (lv_at hl 0 rfl) ?_
          subst hQ
          exact x_iret E hr hlk (by simp [cDg, bB, c_15, c_30, c_57, c_68]) dX2_disagreeing_79
        · skip
          refine lv_iconst (v := 1) hx hb dX2_disagreeing_71 (by decide) ?_
          refine lv_goto (tgt := 76) hx hb dX2_disagreeing_72 (by decide) ?_
          refine lv_iadd hx hb dX2_disagreeing_76 ?_
          refine lv_istore_n (lv' := [(2, .int ((0 + 0) + 1)), (0, .ref (ad 16 q1)), (1, .ref (ad 6 c1))]) hx hb dX2_disagreeing_77 rfl hl (by decide) rfl (fun ls hl => ?_)
          refine lv_iload_n hx hb dX2_disagreeing_78 rfl (lv_at hl 0 rfl) ?_
          subst hQ
          exact x_iret E hr hlk (by simp [cDg, bB, c_15, c_30, c_57, c_68]) dX2_disagreeing_79
    · skip
      refine lv_aload_n hx hb dX2_disagreeing_33 rfl (lv_at hl 2 rfl) ?_
      refine x_get E hw 6 c1 (hci) hcc cl_1 ly_1 1 (by decide) tw_229 rfl dX2_disagreeing_34 ?_
      refine lv_aload_n hx hb dX2_disagreeing_37 rfl (lv_at hl 1 rfl) ?_
      refine x_get E hw 16 q1 (hqi) hqc cl_2 ly_2 3 (by decide) tw_473 rfl dX2_disagreeing_38 ?_
      refine lv_icmp_eq (tgt := 48) hx hb dX2_disagreeing_41 (by decide) (fun c_41 => ?_) (fun c_41 => ?_)
      · skip
        refine lv_iconst (v := 0) hx hb dX2_disagreeing_48 (by decide) ?_
        refine lv_iadd hx hb dX2_disagreeing_49 ?_
        refine lv_istore_n (lv' := [(2, .int (0 + 0)), (0, .ref (ad 16 q1)), (1, .ref (ad 6 c1))]) hx hb dX2_disagreeing_50 rfl hl (by decide) rfl (fun ls hl => ?_)
        refine lv_iload_n hx hb dX2_disagreeing_51 rfl (lv_at hl 0 rfl) ?_
        refine lv_aload_n hx hb dX2_disagreeing_52 rfl (lv_at hl 1 rfl) ?_
        refine x_get E hw 16 q1 (hqi) hqc cl_2 ly_2 4 (by decide) tw_474 rfl dX2_disagreeing_53 ?_
        refine lv_iconst (v := (-1)) hx hb dX2_disagreeing_56 (by decide) ?_
        refine lv_icmp_eq (tgt := 75) hx hb dX2_disagreeing_57 (by decide) (fun c_57 => ?_) (fun c_57 => ?_)
        · skip
          refine lv_iconst (v := 0) hx hb dX2_disagreeing_75 (by decide) ?_
          refine lv_iadd hx hb dX2_disagreeing_76 ?_
          refine lv_istore_n (lv' := [(2, .int ((0 + 0) + 0)), (0, .ref (ad 16 q1)), (1, .ref (ad 6 c1))]) hx hb dX2_disagreeing_77 rfl hl (by decide) rfl (fun ls hl => ?_)
          refine lv_iload_n hx hb dX2_disagreeing_78 rfl (lv_at hl 0 rfl) ?_
          subst hQ
          exact x_iret E hr hlk (by simp [cDg, bB, c_15, c_30, c_41, c_57]) dX2_disagreeing_79
        · skip
          refine lv_aload_n hx hb dX2_disagreeing_60 rfl (lv_at hl 2 rfl) ?_
          refine x_get E hw 6 c1 (hci) hcc cl_1 ly_1 2 (by decide) tw_232 rfl dX2_disagreeing_61 ?_
          refine lv_aload_n hx hb dX2_disagreeing_64 rfl (lv_at hl 1 rfl) ?_
          refine x_get E hw 16 q1 (hqi) hqc cl_2 ly_2 4 (by decide) tw_474 rfl dX2_disagreeing_65 ?_
          refine lv_icmp_eq (tgt := 75) hx hb dX2_disagreeing_68 (by decide) (fun c_68 => ?_) (fun c_68 => ?_)
          · skip
            refine lv_iconst (v := 0) hx hb dX2_disagreeing_75 (by decide) ?_
            refine lv_iadd hx hb dX2_disagreeing_76 ?_
            refine lv_istore_n (lv' := [(2, .int ((0 + 0) + 0)), (0, .ref (ad 16 q1)), (1, .ref (ad 6 c1))]) hx hb dX2_disagreeing_77 rfl hl (by decide) rfl (fun ls hl => ?_)
            refine lv_iload_n hx hb dX2_disagreeing_78 rfl (lv_at hl 0 rfl) ?_
            subst hQ
            exact x_iret E hr hlk (by simp [cDg, bB, c_15, c_30, c_41, c_57, c_68]) dX2_disagreeing_79
          · skip
            refine lv_iconst (v := 1) hx hb dX2_disagreeing_71 (by decide) ?_
            refine lv_goto (tgt := 76) hx hb dX2_disagreeing_72 (by decide) ?_
            refine lv_iadd hx hb dX2_disagreeing_76 ?_
            refine lv_istore_n (lv' := [(2, .int ((0 + 0) + 1)), (0, .ref (ad 16 q1)), (1, .ref (ad 6 c1))]) hx hb dX2_disagreeing_77 rfl hl (by decide) rfl (fun ls hl => ?_)
            refine lv_iload_n hx hb dX2_disagreeing_78 rfl (lv_at hl 0 rfl) ?_
            subst hQ
            exact x_iret E hr hlk (by simp [cDg, bB, c_15, c_30, c_41, c_57, c_68]) dX2_disagreeing_79
      · skip
        refine lv_iconst (v := 1) hx hb dX2_disagreeing_44 (by decide) ?_
        refine lv_goto (tgt := 49) hx hb dX2_disagreeing_45 (by decide) ?_
        refine lv_iadd hx hb dX2_disagreeing_49 ?_
        refine lv_istore_n (lv' := [(2, .int (0 + 1)), (0, .ref (ad 16 q1)), (1, .ref (ad 6 c1))]) hx hb dX2_disagreeing_50 rfl hl (by decide) rfl (fun ls hl => ?_)
        refine lv_iload_n hx hb dX2_disagreeing_51 rfl (lv_at hl 0 rfl) ?_
        refine lv_aload_n hx hb dX2_disagreeing_52 rfl (lv_at hl 1 rfl) ?_
        refine x_get E hw 16 q1 (hqi) hqc cl_2 ly_2 4 (by decide) tw_474 rfl dX2_disagreeing_53 ?_
        refine lv_iconst (v := (-1)) hx hb dX2_disagreeing_56 (by decide) ?_
        refine lv_icmp_eq (tgt := 75) hx hb dX2_disagreeing_57 (by decide) (fun c_57 => ?_) (fun c_57 => ?_)
        · skip
          refine lv_iconst (v := 0) hx hb dX2_disagreeing_75 (by decide) ?_
          refine lv_iadd hx hb dX2_disagreeing_76 ?_
          refine lv_istore_n (lv' := [(2, .int ((0 + 1) + 0)), (0, .ref (ad 16 q1)), (1, .ref (ad 6 c1))]) hx hb dX2_disagreeing_77 rfl hl (by decide) rfl (fun ls hl => ?_)
          refine lv_iload_n hx hb dX2_disagreeing_78 rfl (lv_at hl 0 rfl) ?_
          subst hQ
          exact x_iret E hr hlk (by simp [cDg, bB, c_15, c_30, c_41, c_57]) dX2_disagreeing_79
        · skip
          refine lv_aload_n hx hb dX2_disagreeing_60 rfl (lv_at hl 2 rfl) ?_
          refine x_get E hw 6 c1 (hci) hcc cl_1 ly_1 2 (by decide) tw_232 rfl dX2_disagreeing_61 ?_
          refine lv_aload_n hx hb dX2_disagreeing_64 rfl (lv_at hl 1 rfl) ?_
          refine x_get E hw 16 q1 (hqi) hqc cl_2 ly_2 4 (by decide) tw_474 rfl dX2_disagreeing_65 ?_
          refine lv_icmp_eq (tgt := 75) hx hb dX2_disagreeing_68 (by decide) (fun c_68 => ?_) (fun c_68 => ?_)
          · skip
            refine lv_iconst (v := 0) hx hb dX2_disagreeing_75 (by decide) ?_
            refine lv_iadd hx hb dX2_disagreeing_76 ?_
            refine lv_istore_n (lv' := [(2, .int ((0 + 1) + 0)), (0, .ref (ad 16 q1)), (1, .ref (ad 6 c1))]) hx hb dX2_disagreeing_77 rfl hl (by decide) rfl (fun ls hl => ?_)
            refine lv_iload_n hx hb dX2_disagreeing_78 rfl (lv_at hl 0 rfl) ?_
            subst hQ
            exact x_iret E hr hlk (by simp [cDg, bB, c_15, c_30, c_41, c_57, c_68]) dX2_disagreeing_79
          · skip
            refine lv_iconst (v := 1) hx hb dX2_disagreeing_71 (by decide) ?_
            refine lv_goto (tgt := 76) hx hb dX2_disagreeing_72 (by decide) ?_
            refine lv_iadd hx hb dX2_disagreeing_76 ?_
            refine lv_istore_n (lv' := [(2, .int ((0 + 1) + 1)), (0, .ref (ad 16 q1)), (1, .ref (ad 6 c1))]) hx hb dX2_disagreeing_77 rfl hl (by decide) rfl (fun ls hl => ?_)
            refine lv_iload_n hx hb dX2_disagreeing_78 rfl (lv_at hl 0 rfl) ?_
            subst hQ
            exact x_iret E hr hlk (by simp [cDg, bB, c_15, c_30, c_41, c_57, c_68]) dX2_disagreeing_79
set_option maxHeartbeats 4000000 in
set_option maxRecDepth 100000 in
theorem kX8_byteAt (l : Launch) (D : va_G) (ca : Nat → ClassId) (cnt : Nat → Nat) (ad : Nat → Nat → Nat) (ct : Nat → Nat → va_E) (i1 : Nat) (n1 : Nat) (b1 : Nat → Int32) (a1 : Int32) (hti : i1 < cnt 11) (htc : ct 11 i1 = .inr (8, [.ref (ad 12 i1), .int (nI n1)])) (hbi : i1 < cnt 12) (hbc : ct 12 i1 = .inl (ca 0, 100, .inl b1)) (hn1 : n1 ≤ 100) : Met l yX8_byteAt (wz yX8_byteAt cX8_byteAt 2 (some .int)) (rmL 2 0 0) (va_Pc [.ref (ad 11 i1), .int a1] (fun U => wq D cnt ad ct U.heap ∧ gK D ca U)) (QcRead (cBy n1 b1 a1)) 0 0 (fun _ => False) := by
  refine x_met (by decide) (Nat.le_of_ble_eq_true rfl) ?_
  intro p e s m below meth c E hr hlk hnm hq ls hl
  generalize hav : ([.ref (ad 11 i1), .int a1] : List Value).toArray = args at E ⊢
  have hx := E.1
  have hb := E.2.1
  have hown := E.2.2.2.1
  have hts := E.2.2.2.2.1
  have hw : wd D (wA cnt ad s.heap.size) s.heap cnt ad ct s.heap [] := wd.start hq
  generalize hQ : MQ below (QcRead (cBy n1 b1 a1)) args s 0 0 (fun _ => False) = Q
  have hl : lv_has ls 2 [(0, .ref (ad 11 i1)), (1, .int a1)] := hl
  refine lv_iload_n hx hb dX8_byteAt_0 rfl (lv_at hl 1 rfl) ?_
  refine lv_if_lt (tgt := 34) hx hb dX8_byteAt_1 (by decide) (fun c_1 => ?_) (fun c_1 => ?_)
  · skip
    refine lv_iconst (v := (-1)) hx hb dX8_byteAt_34 (by decide) ?_
    subst hQ
    exact x_iret E hr hlk (by simp [cBy, isIn, c_1]) dX8_byteAt_35
  · skip
    refine lv_iload_n hx hb dX8_byteAt_4 rfl (lv_at hl 1 rfl) ?_
    refine lv_aload_n hx hb dX8_byteAt_5 rfl (lv_at hl 0 rfl) ?_
    refine x_get E hw 11 i1 (hti) htc cl_8 ly_8 1 (by decide) tw_35 rfl dX8_byteAt_6 ?_
    refine lv_icmp_ge (tgt := 34) hx hb dX8_byteAt_9 (by decide) (fun c_9 => ?_) (fun c_9 => ?_)
    · skip
      refine lv_iconst (v := (-1)) hx hb dX8_byteAt_34 (by decide) ?_
      subst hQ
      exact x_iret E hr hlk (by rw [cBy, if_neg (by_ge hn1 c_9)]) dX8_byteAt_35
    · skip
      obtain ⟨j, hj2, rfl⟩ := nI_of c_1
      have hj : j < n1 := by have q9 := mt (nI_leI (a := n1) (b := j) (by omega) (by omega)).mpr c_9; omega
      refine lv_iload_n hx hb dX8_byteAt_12 rfl (lv_at hl 1 rfl) ?_
      refine lv_aload_n hx hb dX8_byteAt_13 rfl (lv_at hl 0 rfl) ?_
      refine x_get E hw 11 i1 (hti) htc cl_8 ly_8 0 (by decide) tw_34 rfl dX8_byteAt_14 ?_
      refine x_len E hw 0 rfl 12 i1 (hbi) hbc dX8_byteAt_17 ?_
      refine lv_icmp_ge (tgt := 34) hx hb dX8_byteAt_18 (by decide) (fun c_18 => ?_) (fun c_18 => ?_)
      · skip
        exact absurd c_18 (nI_ge (by omega) (by omega))
      · skip
        refine lv_aload_n hx hb dX8_byteAt_21 rfl (lv_at hl 0 rfl) ?_
        refine x_get E hw 11 i1 (hti) htc cl_8 ly_8 0 (by decide) tw_34 rfl dX8_byteAt_22 ?_
        refine lv_iload_n hx hb dX8_byteAt_25 rfl (lv_at hl 1 rfl) ?_
        refine x_bld E hw 12 i1 (hbi) hbc j (rfl) (by omega) (by decide) dX8_byteAt_26 ?_
        refine lv_sipush (v := 255) hx hb dX8_byteAt_27 (by decide) ?_
        refine lv_iand hx hb dX8_byteAt_30 ?_
        refine lv_goto (tgt := 35) hx hb dX8_byteAt_31 (by decide) ?_
        subst hQ
        exact x_iret E hr hlk (by rw [cBy, if_pos (by_in hn1 hj), nI_clamp (by omega)]) dX8_byteAt_35
