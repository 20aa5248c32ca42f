theorem dwn_up {n m : Nat} (h : n ≤ m) : ∀ {l : List Nat}, dwn n l → dwn m l
  | [], _ => trivial
  | d :: r, hd => ⟨Nat.lt_of_lt_of_le hd.1 h, hd.2⟩
set_option maxHeartbeats 4000000 in
set_option maxRecDepth 100000 in
theorem kX9_pay (l : Launch) (D : va_G) (ca : Nat → ClassId) (cnt : Nat → Nat) (ad : Nat → Nat → Nat) (ct : Nat → Nat → va_E) (v : Nat → Int32) (g : Nat → Nat → Int32) (nw : Nat) (nb : Nat) (nc : Nat) (nm : Nat) (a1 : Int32) (a2 : Int32) (a3 : Int32) (a4 : Int32) (hC : cRep ca cnt ad ct v g nw nb nc nm) : Met l yX9_pay (wz yX9_pay cX9_pay 6 (some .int)) (rmL 4 0 0) (va_Pc [.ref (ad 0 0), .int a1, .int a2, .int a3, .int a4] (fun U => wq D cnt ad ct U.heap ∧ gK D ca U)) (QcRead (mPay g nw nc nm a1 a2 a3 a4)) 0 0 (fun _ => False) := by
  refine x_met (by decide) (Nat.le_of_ble_eq_true rfl) ?_
  intro p e s m below meth c E hr hlk hnm hq ls hl
  generalize hav : ([.ref (ad 0 0), .int a1, .int a2, .int a3, .int a4] : List Value).toArray = args at E ⊢
  have hx := E.1
  have hb := E.2.1
  have hown := E.2.2.2.1
  have hts := E.2.2.2.2.1
  have hw : wd D (wA cnt ad s.heap.size) s.heap cnt ad ct s.heap [] := wd.start hq
  generalize hQ : MQ below (QcRead (mPay g nw nc nm a1 a2 a3 a4)) args s 0 0 (fun _ => False) = Q
  have hl : lv_has ls 6 [(0, .ref (ad 0 0)), (1, .int a1), (2, .int a2), (3, .int a3), (4, .int a4)] := hl
  obtain ⟨hO, hIv, tp, htp, hX, hT, hB, hCc, hN⟩ := id hC
  obtain ⟨hx0, hx1, hx2, hx3, fz0⟩ := id hX
  have hO5 := hO.2.2.2.2
  obtain ⟨hb4, hb5, fB, fz1, hBd⟩ := id hB
  obtain ⟨hc6, hc7, fC, dt, ow, ix, ak, fz2, hCd⟩ := id hCc
  obtain ⟨hn9, fN, lk, fz3, hNd⟩ := id hN
  obtain ⟨ht13, ht14, ht11, ht12, szq, nq, nrq, rtq, bq0, bq1, vsq, pq1, pq2, hsz, hsz2, hnq, hnr, hrt, fz11, fz11b, fz12, fz12b, fz13, fz14, hby, hrl⟩ := id hT
  refine lv_aload_n hx hb dX9_pay_0 rfl (lv_at hl 0 rfl) ?_
  refine lv_iload_n hx hb dX9_pay_1 rfl (lv_at hl 1 rfl) ?_
  refine x_readq (x_runV (rest := []) E cbX9_findNurse tw_272 (kX9_findNurse l D ca cnt ad ct v g nw nb nc nm   a1 (hC)) ⟨rfl, rfl, by decide, by decide⟩ (x_recv E hw cl_9 (hx0) fz0) (fun _ _ _ _ h => h) (fun U hU _ => by rw [hU]; exact hw.1) rfl hl.1 rfl (Nat.le_of_ble_eq_true rfl) dX9_pay_2 ⟨by decide, by decide⟩) ?_
  refine x_astoreQ (lv' := [(5, va_rf (Option.map (ad 9) (fdN a1))), (0, .ref (ad 0 0)), (1, .int a1), (2, .int a2), (3, .int a3), (4, .int a4)]) hx hb dX9_pay_5 hl (by decide) rfl (fun ls hl => ?_)
  refine x_aloadQ hx hb dX9_pay_7 (lv_at hl 0 rfl) ?_
  rcases x_opt (fdN a1) with hn9 | ⟨i, hi9⟩
  · skip
    rw [hn9]
    rw [hn9] at hl
    have hl : lv_has ls 6 [(5, .null), (0, .ref (ad 0 0)), (1, .int a1), (2, .int a2), (3, .int a3), (4, .int a4)] := hl
    refine lv_ifnullN (tgt := 29) hx hb dX9_pay_9 (by decide) ?_
    refine lv_iconst (v := (-1)) hx hb dX9_pay_29 (by decide) ?_
    subst hQ
    exact x_iret E hr hlk (by simp [mPay, mPayOK, fdN_none hn9]) dX9_pay_30
  · skip
    rw [hi9]
    rw [hi9] at hl
    have hl : lv_has ls 6 [(5, .ref (ad 9 i)), (0, .ref (ad 0 0)), (1, .int a1), (2, .int a2), (3, .int a3), (4, .int a4)] := hl
    refine lv_ifnull hx hb dX9_pay_9 ?_
    obtain ⟨hi12, rfl, hIn⟩ := fdN_some hi9
    obtain ⟨hfn, hnc, lln, hlln, hlkn⟩ := hNd i hi12
    refine lv_iload_n hx hb dX9_pay_12 rfl (lv_at hl 3 rfl) ?_
    refine lv_iload_n hx hb dX9_pay_13 rfl (lv_at hl 4 rfl) ?_
    refine x_read (x_runS (rest := []) E cbX9_areWeeks tw_344 (kX9_areWeeks l D ca a2 a3 ) ⟨rfl, rfl, by decide, by decide⟩ (fun _ _ _ _ h => h) (fun _ _ _ => trivial) rfl hl.1 rfl (Nat.le_of_ble_eq_true rfl) dX9_pay_14 ⟨by decide, by decide⟩) ?_
    refine lv_if_eq (tgt := 29) hx hb dX9_pay_17 (by decide) (fun c_17 => ?_) (fun c_17 => ?_)
    · skip
      have c_17 := bB_0.mp c_17
      refine lv_iconst (v := (-1)) hx hb dX9_pay_29 (by decide) ?_
      subst hQ
      exact x_iret E hr hlk (by have q9 := c_17; simp only [Bool.and_eq_false_iff] at q9; rcases q9 with q9 | q9 <;> simp [mPay, mPayOK, q9]) dX9_pay_30
    · skip
      have c_17 := bB_n0.mp c_17
      have q17 := c_17
      simp only [Bool.and_eq_true] at q17
      obtain ⟨f2, -, g2, rfl⟩ := isIn_rng (lo := 0) (hi := 300) (by decide) (by decide) q17.1
      obtain ⟨l3, g3, g4, rfl⟩ := isIn_rng (lo := f2) (hi := 300) (by omega) (by decide) q17.2
      refine lv_aload_n hx hb dX9_pay_20 rfl (lv_at hl 1 rfl) ?_
      refine lv_iload hx hb dX9_pay_21 (lv_at hl 5 rfl) ?_
      refine x_read (x_runV (rest := []) E cbX9_isPast tw_313 (kX9_isPast l D ca cnt ad ct v g nw nb nc nm   a4 (hC)) ⟨rfl, rfl, by decide, by decide⟩ (x_recv E hw cl_9 (hx0) fz0) (fun _ _ _ _ h => h) (fun U hU _ => by rw [hU]; exact hw.1) rfl hl.1 rfl (Nat.le_of_ble_eq_true rfl) dX9_pay_23 ⟨by decide, by decide⟩) ?_
      refine lv_if_ne (tgt := 31) hx hb dX9_pay_26 (by decide) (fun c_26 => ?_) (fun c_26 => ?_)
      · skip
        have c_26 := bB_n0.mp c_26
        obtain ⟨q4, g5, rfl⟩ := isIn_le (n := nw) (by omega) c_26
        refine lv_iconst (v := 2) hx hb dX9_pay_31 (by decide) ?_
        refine lv_aload_n hx hb dX9_pay_32 rfl (lv_at hl 1 rfl) ?_
        refine lv_iload_n hx hb dX9_pay_33 rfl (lv_at hl 2 rfl) ?_
        refine lv_aload hx hb dX9_pay_34 (lv_at hl 0 rfl) ?_
        refine x_get E hw 9 i (by omega) hnc cl_6 ly_6 1 (by decide) tw_74 rfl dX9_pay_36 ?_
        refine lv_iload_n hx hb dX9_pay_39 rfl (lv_at hl 3 rfl) ?_
        refine lv_iload_n hx hb dX9_pay_40 rfl (lv_at hl 4 rfl) ?_
        refine lv_iload hx hb dX9_pay_41 (lv_at hl 5 rfl) ?_
        refine x_read (x_runV (rest := [.int 2]) E cbX9_seenDays tw_347 (kX9_seenDays l D ca cnt ad ct v g nw nb nc nm   (nI (i + 1)) (lk i) f2 l3 q4 (_) (hC) (by omega) (by omega) (g5) (hlln) (dwn_up (by omega) hlkn.1)) ⟨rfl, rfl, by decide, by decide⟩ (x_recv E hw cl_9 (hx0) fz0) (fun _ _ _ _ h => h) (fun U hU _ => by rw [hU]; exact hw.1) rfl hl.1 rfl (Nat.le_of_ble_eq_true rfl) dX9_pay_43 ⟨by decide, by decide⟩) ?_
        refine lv_imul hx hb dX9_pay_46 ?_
        subst hQ
        exact x_iret E hr hlk (by rw [seen_eq hO5.1 hO5.2.2.1 hIv (by omega) (by omega) g3 (by omega) hlkn]; simp only [Bool.and_eq_true] at c_17; simp [mPay, mPayOK, hIn, c_17.1, c_17.2, c_26, nI_clamp (n := i + 1) (by omega), nI_clamp (n := f2) (by omega), nI_clamp (n := l3) (by omega), nI_clamp (n := q4) (by omega)]) dX9_pay_47
      · skip
        have c_26 := bB_0.mp c_26
        refine lv_iconst (v := (-1)) hx hb dX9_pay_29 (by decide) ?_
        subst hQ
        exact x_iret E hr hlk (by simp [mPay, mPayOK, c_26]) dX9_pay_30
set_option maxHeartbeats 4000000 in
set_option maxRecDepth 100000 in
theorem kX9_gap (l : Launch) (D : va_G) (ca : Nat → ClassId) (cnt : Nat → Nat) (ad : Nat → Nat → Nat) (ct : Nat → Nat → va_E) (v : Nat → Int32) (g : Nat → Nat → Int32) (nw : Nat) (nb : Nat) (nc : Nat) (nm : Nat) (a1 : Int32) (a2 : Int32) (a3 : Int32) (a4 : Int32) (hC : cRep ca cnt ad ct v g nw nb nc nm) : Met l yX9_gap (wz yX9_gap cX9_gap 7 (some .int)) (rmL 4 0 0) (va_Pc [.ref (ad 0 0), .int a1, .int a2, .int a3, .int a4] (fun U => wq D cnt ad ct U.heap ∧ gK D ca U)) (QcRead (mGap g nw nc nm a1 a2 a3 a4)) 0 0 (fun _ => False) := by
  refine x_met (by decide) (Nat.le_of_ble_eq_true rfl) ?_
  intro p e s m below meth c E hr hlk hnm hq ls hl
  generalize hav : ([.ref (ad 0 0), .int a1, .int a2, .int a3, .int a4] : List Value).toArray = args at E ⊢
  have hx := E.1
  have hb := E.2.1
  have hown := E.2.2.2.1
  have hts := E.2.2.2.2.1
  have hw : wd D (wA cnt ad s.heap.size) s.heap cnt ad ct s.heap [] := wd.start hq
  generalize hQ : MQ below (QcRead (mGap g nw nc nm a1 a2 a3 a4)) args s 0 0 (fun _ => False) = Q
  have hl : lv_has ls 7 [(0, .ref (ad 0 0)), (1, .int a1), (2, .int a2), (3, .int a3), (4, .int a4)] := hl
  obtain ⟨hO, hIv, tp, htp, hX, hT, hB, hCc, hN⟩ := id hC
  obtain ⟨hx0, hx1, hx2, hx3, fz0⟩ := id hX
  have hO5 := hO.2.2.2.2
  obtain ⟨hb4, hb5, fB, fz1, hBd⟩ := id hB
  obtain ⟨hc6, hc7, fC, dt, ow, ix, ak, fz2, hCd⟩ := id hCc
  obtain ⟨hn9, fN, lk, fz3, hNd⟩ := id hN
  obtain ⟨ht13, ht14, ht11, ht12, szq, nq, nrq, rtq, bq0, bq1, vsq, pq1, pq2, hsz, hsz2, hnq, hnr, hrt, fz11, fz11b, fz12, fz12b, fz13, fz14, hby, hrl⟩ := id hT
  refine lv_aload_n hx hb dX9_gap_0 rfl (lv_at hl 0 rfl) ?_
  refine lv_iload_n hx hb dX9_gap_1 rfl (lv_at hl 1 rfl) ?_
  refine x_readq (x_runV (rest := []) E cbX9_findNurse tw_272 (kX9_findNurse l D ca cnt ad ct v g nw nb nc nm   a1 (hC)) ⟨rfl, rfl, by decide, by decide⟩ (x_recv E hw cl_9 (hx0) fz0) (fun _ _ _ _ h => h) (fun U hU _ => by rw [hU]; exact hw.1) rfl hl.1 rfl (Nat.le_of_ble_eq_true rfl) dX9_gap_2 ⟨by decide, by decide⟩) ?_
  refine x_astoreQ (lv' := [(5, va_rf (Option.map (ad 9) (fdN a1))), (0, .ref (ad 0 0)), (1, .int a1), (2, .int a2), (3, .int a3), (4, .int a4)]) hx hb dX9_gap_5 hl (by decide) rfl (fun ls hl => ?_)
  refine x_aloadQ hx hb dX9_gap_7 (lv_at hl 0 rfl) ?_
  rcases x_opt (fdN a1) with hn9 | ⟨i, hi9⟩
  · skip
    rw [hn9]
    rw [hn9] at hl
    have hl : lv_has ls 7 [(5, .null), (0, .ref (ad 0 0)), (1, .int a1), (2, .int a2), (3, .int a3), (4, .int a4)] := hl
    refine lv_ifnullN (tgt := 29) hx hb dX9_gap_9 (by decide) ?_
    refine lv_iconst (v := (-1)) hx hb dX9_gap_29 (by decide) ?_
    subst hQ
    exact x_iret E hr hlk (by simp [mGap, mPayOK, fdN_none hn9]) dX9_gap_30
  · skip
    rw [hi9]
    rw [hi9] at hl
    have hl : lv_has ls 7 [(5, .ref (ad 9 i)), (0, .ref (ad 0 0)), (1, .int a1), (2, .int a2), (3, .int a3), (4, .int a4)] := hl
    refine lv_ifnull hx hb dX9_gap_9 ?_
    obtain ⟨hi12, rfl, hIn⟩ := fdN_some hi9
    obtain ⟨hfn, hnc, lln, hlln, hlkn⟩ := hNd i hi12
    refine lv_iload_n hx hb dX9_gap_12 rfl (lv_at hl 3 rfl) ?_
    refine lv_iload_n hx hb dX9_gap_13 rfl (lv_at hl 4 rfl) ?_
    refine x_read (x_runS (rest := []) E cbX9_areWeeks tw_344 (kX9_areWeeks l D ca a2 a3 ) ⟨rfl, rfl, by decide, by decide⟩ (fun _ _ _ _ h => h) (fun _ _ _ => trivial) rfl hl.1 rfl (Nat.le_of_ble_eq_true rfl) dX9_gap_14 ⟨by decide, by decide⟩) ?_
    refine lv_if_eq (tgt := 29) hx hb dX9_gap_17 (by decide) (fun c_17 => ?_) (fun c_17 => ?_)
    · skip
      have c_17 := bB_0.mp c_17
      refine lv_iconst (v := (-1)) hx hb dX9_gap_29 (by decide) ?_
      subst hQ
      exact x_iret E hr hlk (by have q9 := c_17; simp only [Bool.and_eq_false_iff] at q9; rcases q9 with q9 | q9 <;> simp [mGap, mPayOK, q9]) dX9_gap_30
    · skip
      have c_17 := bB_n0.mp c_17
      have q17 := c_17
      simp only [Bool.and_eq_true] at q17
      obtain ⟨f2, -, g2, rfl⟩ := isIn_rng (lo := 0) (hi := 300) (by decide) (by decide) q17.1
      obtain ⟨l3, g3, g4, rfl⟩ := isIn_rng (lo := f2) (hi := 300) (by omega) (by decide) q17.2
      refine lv_aload_n hx hb dX9_gap_20 rfl (lv_at hl 1 rfl) ?_
      refine lv_iload hx hb dX9_gap_21 (lv_at hl 5 rfl) ?_
      refine x_read (x_runV (rest := []) E cbX9_isPast tw_313 (kX9_isPast l D ca cnt ad ct v g nw nb nc nm   a4 (hC)) ⟨rfl, rfl, by decide, by decide⟩ (x_recv E hw cl_9 (hx0) fz0) (fun _ _ _ _ h => h) (fun U hU _ => by rw [hU]; exact hw.1) rfl hl.1 rfl (Nat.le_of_ble_eq_true rfl) dX9_gap_23 ⟨by decide, by decide⟩) ?_
      refine lv_if_ne (tgt := 31) hx hb dX9_gap_26 (by decide) (fun c_26 => ?_) (fun c_26 => ?_)
      · skip
        have c_26 := bB_n0.mp c_26
        obtain ⟨q4, g5, rfl⟩ := isIn_le (n := nw) (by omega) c_26
        refine lv_aload_n hx hb dX9_gap_31 rfl (lv_at hl 1 rfl) ?_
        refine lv_iload_n hx hb dX9_gap_32 rfl (lv_at hl 2 rfl) ?_
        refine lv_iload_n hx hb dX9_gap_33 rfl (lv_at hl 3 rfl) ?_
        refine lv_iload_n hx hb dX9_gap_34 rfl (lv_at hl 4 rfl) ?_
        refine lv_iload hx hb dX9_gap_35 (lv_at hl 5 rfl) ?_
        refine x_read (x_runV (rest := []) E cbX9_daysWith tw_351 (kX9_daysWith l D ca cnt ad ct v g nw nb nc nm   (nI (i + 1)) f2 l3 q4 (hC) (by omega) (by omega) (g5)) ⟨rfl, rfl, by decide, by decide⟩ (x_recv E hw cl_9 (hx0) fz0) (fun _ _ _ _ h => h) (fun U hU _ => by rw [hU]; exact hw.1) rfl hl.1 rfl (Nat.le_of_ble_eq_true rfl) dX9_gap_37 ⟨by decide, by decide⟩) ?_
        refine lv_istore (lv' := [(6, .int (cDw g nc nm (nI (i + 1)) f2 l3 q4)), (5, .ref (ad 9 i)), (0, .ref (ad 0 0)), (1, .int (nI (i + 1))), (2, .int (nI f2)), (3, .int (nI l3)), (4, .int (nI q4))]) hx hb dX9_gap_40 hl (by decide) rfl (fun ls hl => ?_)
        refine lv_iload hx hb dX9_gap_42 (lv_at hl 0 rfl) ?_
        refine lv_aload_n hx hb dX9_gap_44 rfl (lv_at hl 2 rfl) ?_
        refine lv_iload_n hx hb dX9_gap_45 rfl (lv_at hl 3 rfl) ?_
        refine lv_aload hx hb dX9_gap_46 (lv_at hl 1 rfl) ?_
        refine x_get E hw 9 i (by omega) hnc cl_6 ly_6 1 (by decide) tw_74 rfl dX9_gap_48 ?_
        refine lv_iload_n hx hb dX9_gap_51 rfl (lv_at hl 4 rfl) ?_
        refine lv_iload_n hx hb dX9_gap_52 rfl (lv_at hl 5 rfl) ?_
        refine lv_iload hx hb dX9_gap_53 (lv_at hl 6 rfl) ?_
        refine x_read (x_runV (rest := [.int (cDw g nc nm (nI (i + 1)) f2 l3 q4)]) E cbX9_seenDays tw_347 (kX9_seenDays l D ca cnt ad ct v g nw nb nc nm   (nI (i + 1)) (lk i) f2 l3 q4 (_) (hC) (by omega) (by omega) (g5) (hlln) (dwn_up (by omega) hlkn.1)) ⟨rfl, rfl, by decide, by decide⟩ (x_recv E hw cl_9 (hx0) fz0) (fun _ _ _ _ h => h) (fun U hU _ => by rw [hU]; exact hw.1) rfl hl.1 rfl (Nat.le_of_ble_eq_true rfl) dX9_gap_55 ⟨by decide, by decide⟩) ?_
        refine lv_isub hx hb dX9_gap_58 ?_
        subst hQ
        exact x_iret E hr hlk (by rw [gap_eq hO5.1 hO5.2.2.1 hIv (by omega) (by omega) g3 (by omega) hlkn]; simp only [Bool.and_eq_true] at c_17; simp [mGap, mPayOK, hIn, c_17.1, c_17.2, c_26, nI_clamp (n := i + 1) (by omega), nI_clamp (n := f2) (by omega), nI_clamp (n := l3) (by omega), nI_clamp (n := q4) (by omega)]) dX9_gap_59
      · skip
        have c_26 := bB_0.mp c_26
        refine lv_iconst (v := (-1)) hx hb dX9_gap_29 (by decide) ?_
        subst hQ
        exact x_iret E hr hlk (by simp [mGap, mPayOK, c_26]) dX9_gap_30
