set_option maxHeartbeats 4000000 in
set_option maxRecDepth 100000 in
theorem kX9_allow (l : Launch) (D : va_G) (ca : Nat → ClassId) (cnt : Nat → Nat) (ad : Nat → Nat → Nat) (ct : Nat → Nat → va_E) (z9 : Nat) (v : Nat → Int32) (g : Nat → Nat → Int32) (nw : Nat) (nb : Nat) (nc : Nat) (nm : Nat) (a1 : Int32) (a2 : Int32) (tb : Bool) (hC : cRep ca cnt ad ct v g nw nb nc nm) (h17 : ∀ c, c < nc → ∀ w, w < 20 → g 17 (20 * c + w) = 0 ∨ g 17 (20 * c + w) = 1) : Met l yX9_allow (wz yX9_allow cX9_allow 5 (some .boolean)) (rmL 3 0 0) (va_Pc [.ref (ad 0 0), .int a1, .int a2, .int (bB (tb))] (fun U => (U.heap.size = z9 ∧ wq D cnt ad ct U.heap) ∧ gK D ca U)) (QcW D (wA cnt ad z9) (fun rv u => rv = some (.int (mAllowW v g nc a1 a2 tb).1) ∧ cRepE ca u.1 u.2.1 u.2.2 (mAllowW v g nc a1 a2 tb).2.1 (mAllowW v g nc a1 a2 tb).2.2 ∧ u.2.1 0 0 = ad 0 0)) 0 0 (wA cnt ad z9) := by
  refine x_met (by decide) (Nat.le_of_ble_eq_true rfl) ?_
  intro p e s m below meth c E hr hlk hnm hq ls hl
  obtain ⟨hsz9, hq⟩ := hq
  subst hsz9
  generalize hav : ([.ref (ad 0 0), .int a1, .int a2, .int (bB (tb))] : List Value).toArray = args at E ⊢
  have hx := E.1
  have hb := E.2.1
  have hown := E.2.2.2.1
  have hts := E.2.2.2.2.1
  have hw : wd D (wA cnt ad s.heap.size) s.heap cnt ad ct s.heap [] := wd.start hq
  generalize hQ : MQ below (QcW D (wA cnt ad s.heap.size) (fun rv u => rv = some (.int (mAllowW v g nc a1 a2 tb).1) ∧ cRepE ca u.1 u.2.1 u.2.2 (mAllowW v g nc a1 a2 tb).2.1 (mAllowW v g nc a1 a2 tb).2.2 ∧ u.2.1 0 0 = ad 0 0)) args s 0 0 (wA cnt ad s.heap.size) = Q
  generalize hA9 : wA cnt ad s.heap.size = A at hw hQ
  have hl : lv_has ls 5 [(0, .ref (ad 0 0)), (1, .int a1), (2, .int a2), (3, .int (bB (tb)))] := hl
  obtain ⟨hO, hIv, tp, htp, hX, hT, hB, hCc, hN⟩ := id hC
  obtain ⟨hx0, hx1, hx2, hx3, fz0⟩ := id hX
  have hO5 := hO.2.2.2.2
  obtain ⟨hb4, hb5, fB, fz1, hBd⟩ := id hB
  obtain ⟨hc6, hc7, fC, dt, ow, ix, ak, fz2, hCd⟩ := id hCc
  obtain ⟨hn9, fN, lk, fz3, hNd⟩ := id hN
  obtain ⟨ht13, ht14, ht11, ht12, szq, nq, nrq, rtq, bq0, bq1, vsq, pq1, pq2, hsz, hsz2, hnq, hnr, hrt, fz11, fz11b, fz12, fz12b, fz13, fz14, hby, hrl⟩ := id hT
  suffices hgo : ∀ (H : Heap) (locs : List Loc), wd D A s.heap cnt ad ct H locs → W p l e (rmL 3 0 0) s m args below meth c H locs 0 0 Q (F0 m 0 ls []) from hgo _ _ hw
  clear hw
  intro H locs hw
  refine lv_aload_n hx hb dX9_allow_0 rfl (lv_at hl 0 rfl) ?_
  refine lv_iload_n hx hb dX9_allow_1 rfl (lv_at hl 2 rfl) ?_
  refine x_readq (x_runV (rest := []) E cbX9_findChild tw_292 (kX9_findChild l D ca cnt ad ct v g nw nb nc nm   a2 (hC)) ⟨rfl, rfl, by decide, by decide⟩ (x_recv E hw cl_9 (hx0) fz0) (fun _ _ _ _ h => h) (fun U hU _ => by rw [hU]; exact hw.1) rfl hl.1 rfl (Nat.le_of_ble_eq_true rfl) dX9_allow_2 ⟨by decide, by decide⟩) ?_
  refine x_astoreQ (lv' := [(4, va_rf (Option.map (ad 6) (fdB nc a2))), (0, .ref (ad 0 0)), (1, .int a1), (2, .int a2), (3, .int (bB (tb)))]) hx hb dX9_allow_5 hl (by decide) rfl (fun ls hl => ?_)
  refine x_aloadQ hx hb dX9_allow_7 (lv_at hl 0 rfl) ?_
  rcases x_opt (fdB nc a2) with hn9 | ⟨j, hi9⟩
  · skip
    rw [hn9]
    rw [hn9] at hl
    have hl : lv_has ls 5 [(4, .null), (0, .ref (ad 0 0)), (1, .int a1), (2, .int a2), (3, .int (bB (tb)))] := hl
    refine lv_ifnullN (tgt := 29) hx hb dX9_allow_9 (by decide) ?_
    refine lv_iconst (v := 0) hx hb dX9_allow_29 (by decide) ?_
    subst hQ
    exact x_zretW E hr hlk (by decide) hw (by decide) (by decide) (addA (rfl) (cw_post (by first | (simp [mAllowW, mBoth, fdB_none hn9]; done) | (simp [mAllowW, mBoth, hIj, c_16]; done) | simp [mAllowW, mBoth, hIj, c_16, nI_clamp (n := j) (by omega), nI_clamp (n := w1) (by omega), hc_t]) ⟨nw, nb, nc, nm, hC⟩)) dX9_allow_30
  · skip
    rw [hi9]
    rw [hi9] at hl
    have hl : lv_has ls 5 [(4, .ref (ad 6 j)), (0, .ref (ad 0 0)), (1, .int a1), (2, .int a2), (3, .int (bB (tb)))] := hl
    refine lv_ifnull hx hb dX9_allow_9 ?_
    obtain ⟨hj, rfl, hIj⟩ := fdB_some (by omega) hi9
    obtain ⟨hfc, hcc, hhc, hchn, hmc, hak, how, hnd⟩ := hCd j hj
    refine lv_iload_n hx hb dX9_allow_12 rfl (lv_at hl 2 rfl) ?_
    refine x_read (x_runS (rest := []) E cbX9_isWho tw_513 (kX9_isWho l D ca a1 ) ⟨rfl, rfl, by decide, by decide⟩ (fun _ _ _ _ h => h) (fun _ _ _ => trivial) rfl hl.1 rfl (Nat.le_of_ble_eq_true rfl) dX9_allow_13 ⟨by decide, by decide⟩) ?_
    refine lv_if_eq (tgt := 29) hx hb dX9_allow_16 (by decide) (fun c_16 => ?_) (fun c_16 => ?_)
    · skip
      have c_16 := bB_0.mp c_16
      refine lv_iconst (v := 0) hx hb dX9_allow_29 (by decide) ?_
      subst hQ
      exact x_zretW E hr hlk (by decide) hw (by decide) (by decide) (addA (rfl) (cw_post (by first | (simp [mAllowW, mBoth, fdB_none hn9]; done) | (simp [mAllowW, mBoth, hIj, c_16]; done) | simp [mAllowW, mBoth, hIj, c_16, nI_clamp (n := j) (by omega), nI_clamp (n := w1) (by omega), hc_t]) ⟨nw, nb, nc, nm, hC⟩)) dX9_allow_30
    · skip
      have c_16 := bB_n0.mp c_16
      obtain ⟨w1, -, hw1, rfl⟩ := isIn_rng (lo := 0) (hi := 19) (by decide) (by decide) c_16
      refine lv_aload hx hb dX9_allow_19 (lv_at hl 0 rfl) ?_
      refine lv_iload_n hx hb dX9_allow_21 rfl (lv_at hl 2 rfl) ?_
      refine x_read (x_runV (rest := []) E cbX1_mayAsk tw_516 (kX1_mayAsk l D ca cnt ad ct  j _ _ _ _ _ _ _ _ (ix j) dt (nI w1) (by omega) (hcc)) ⟨rfl, rfl, by decide, by decide⟩ (x_recv E hw cl_1 (by omega) hcc) (fun _ _ _ _ h => h) (fun U hU _ => by rw [hU]; exact hw.1) rfl hl.1 rfl (Nat.le_of_ble_eq_true rfl) dX9_allow_22 ⟨by decide, by decide⟩) ?_
      refine x_top (x := (bB (!(decide (((ak j >>> ((nI w1) &&& 31)) &&& 1) = 0))))) (y := (bB (!(decide (g 17 (20 * j + w1) = 0))))) (by simp only [hak w1 (by omega)]) ?_
      refine lv_iload_n hx hb dX9_allow_25 rfl (lv_at hl 4 rfl) ?_
      refine lv_icmp_ne (tgt := 31) hx hb dX9_allow_26 (by decide) (fun c_26 => ?_) (fun c_26 => ?_)
      · skip
        have hc_t : g 17 (20 * j + w1) = bB (!tb) := ak_t (h17 j hj w1 (by omega)) c_26
        refine lv_aload hx hb dX9_allow_31 (lv_at hl 0 rfl) ?_
        refine lv_dup hx hb dX9_allow_33 rfl ?_
        refine x_get E hw 6 j (by omega) hcc cl_1 ly_1 9 (by decide) tw_246 rfl dX9_allow_34 ?_
        refine lv_iconst (v := 1) hx hb dX9_allow_37 (by decide) ?_
        refine lv_iload_n hx hb dX9_allow_38 rfl (lv_at hl 2 rfl) ?_
        refine lv_ishl hx hb dX9_allow_39 ?_
        refine lv_ixor hx hb dX9_allow_40 ?_
        refine x_put E hw 6 j (by omega) hcc cl_1 ly_1 tyX1 tyX1_ok nmX1 9 (by decide) tw_246 (Or.inl rfl) (by rfl) (by rfl) (Nat.le_of_ble_eq_true rfl) dX9_allow_41 (fun H locs hw => ?_)
        generalize hct1 : upd2 ct 6 j (.inr (1, [.int (g 9 j), .int (g 10 j), .int (g 11 j), .ref (ad 7 j), .int (g 14 j), .int (g 15 j), va_rf (Option.map (ad 8) ((ix j)[0]?)), .int (nI (mCnt g (nI j) nm)), .int (g 16 j), .int (ak j)].set 9 (.int (ak j ^^^ (1 <<< (nI w1 &&& 31)))))) = ct1 at hw
        have fa1 : ct1 0 0 = .inr (9, [.int (nI nw), .int (nI nb), .int (nI nc), .int (nI nm), .int (v 4), .int (v 5), .ref (ad 1 0), .ref (ad 2 0), .ref (ad 3 0), .ref (ad 11 tp), .ref (ad 11 (1 - tp)), .ref (ad 13 0)]) := by rw [← hct1, upd2_k _ _ _ _ (by decide)]; exact fz0
        have fa2 : ct1 1 0 = .inl (ca 3, 50, aQ fB) := by rw [← hct1, upd2_k _ _ _ _ (by decide)]; exact fz1
        have fa3 : ct1 2 0 = .inl (ca 4, 60, aQ fC) := by rw [← hct1, upd2_k _ _ _ _ (by decide)]; exact fz2
        have fa4 : ct1 3 0 = .inl (ca 5, 13, aQ fN) := by rw [← hct1, upd2_k _ _ _ _ (by decide)]; exact fz3
        have fa5 : ct1 11 tp = .inr (8, [.ref (ad 12 tp), .int (nI szq)]) := by rw [← hct1, upd2_k _ _ _ _ (by decide)]; exact fz11
        have fa6 : ct1 6 j = .inr (1, [.int (g 9 j), .int (g 10 j), .int (g 11 j), .ref (ad 7 j), .int (g 14 j), .int (g 15 j), va_rf (Option.map (ad 8) ((ix j)[0]?)), .int (nI (mCnt g (nI j) nm)), .int (g 16 j), .int (ak j ^^^ (1 <<< (nI w1 &&& 31)))]) := by rw [← hct1, upd2_at]; try rfl
        have fa7 : ct1 7 j = .inr (3, [.int (g 12 j), .int (g 13 j)]) := by rw [← hct1, upd2_k _ _ _ _ (by decide)]; exact hhc
        refine lv_iconst (v := 1) hx hb dX9_allow_44 (by decide) ?_
        subst hQ
        exact x_zretW E hr hlk (by decide) hw (by decide) (by decide) (addA (rfl) (cw_post (v' := v) (g' := upd2 g 17 (20 * j + w1) (bB tb)) (by simp [mAllowW, mBoth, hIj, c_16, nI_clamp (n := j) (by omega), nI_clamp (n := w1) (by omega), hc_t, bB_inj]) ⟨nw, nb, nc, nm, hO, mIv_g (fun _ => upd2_k _ _ _ _ (by decide)) (fun _ => upd2_k _ _ _ _ (by decide)) (fun _ => upd2_k _ _ _ _ (by decide)) (fun _ => upd2_k _ _ _ _ (by decide)) (fun _ => upd2_k _ _ _ _ (by decide)) hIv, tp, htp, by rw [← hct1]; exact cX_up (by decide) hX, by rw [← hct1]; exact cT_up (by decide) (cT_g (fun _ => upd2_k _ _ _ _ (by decide)) (fun _ => upd2_k _ _ _ _ (by decide)) hT), by rw [← hct1]; exact cB_up (by decide) (cB_g (fun _ => upd2_k _ _ _ _ (by decide)) (fun _ => upd2_k _ _ _ _ (by decide)) hB), by rw [← hct1]; have q9 := cC_set6 (g' := upd2 g 17 (20 * j + w1) (bB tb)) (ak0 := (ak j ^^^ ((1 : Int32) <<< (nI w1 &&& 31)))) hc6 hc7 fz2 hCd hj (fun k hk i => by rcases hk with rfl | rfl | rfl | rfl | rfl | rfl | rfl | rfl | rfl | rfl | rfl <;> exact upd2_k _ _ _ _ (by decide)) (fun i _ => upd2_k _ _ _ _ (by decide)) (fun i w hi hw => upd2_i _ _ _ (by omega)) (ak_flip (by omega) hak (by simp only [hak w1 (show w1 < 20 by omega)]; rw [hc_t, bB_inj]; cases tb <;> simp [bB])); rw [upd2_k _ _ _ _ (show (16 : Nat) ≠ 17 by decide)] at q9; exact q9, by rw [← hct1]; exact cN_up (by decide) (cN_g (fun _ => upd2_k _ _ _ _ (by decide)) (fun _ => upd2_k _ _ _ _ (by decide)) hN)⟩)) dX9_allow_45
      · skip
        have hc_t : g 17 (20 * j + w1) = bB tb := ak_f (h17 j hj w1 (by omega)) c_26
        refine lv_iconst (v := 0) hx hb dX9_allow_29 (by decide) ?_
        subst hQ
        exact x_zretW E hr hlk (by decide) hw (by decide) (by decide) (addA (rfl) (cw_post (by first | (simp [mAllowW, mBoth, fdB_none hn9]; done) | (simp [mAllowW, mBoth, hIj, c_16]; done) | simp [mAllowW, mBoth, hIj, c_16, nI_clamp (n := j) (by omega), nI_clamp (n := w1) (by omega), hc_t]) ⟨nw, nb, nc, nm, hC⟩)) dX9_allow_30
set_option maxHeartbeats 4000000 in
set_option maxRecDepth 100000 in
theorem kX9_beds (l : Launch) (D : va_G) (ca : Nat → ClassId) (cnt : Nat → Nat) (ad : Nat → Nat → Nat) (ct : Nat → Nat → va_E) (z9 : Nat) (v : Nat → Int32) (g : Nat → Nat → Int32) (nw : Nat) (nb : Nat) (nc : Nat) (nm : Nat) (a1 : Int32) (a2 : Int32) (hC : cRep ca cnt ad ct v g nw nb nc nm) : Met l yX9_beds (wz yX9_beds cX9_beds 4 (some .boolean)) (rmL 4 0 0) (va_Pc [.ref (ad 0 0), .int a1, .int a2] (fun U => (U.heap.size = z9 ∧ wq D cnt ad ct U.heap) ∧ gK D ca U)) (QcW D (wA cnt ad z9) (fun rv u => rv = some (.int (mBedsW v g nw nc nm a1 a2).1) ∧ cRepE ca u.1 u.2.1 u.2.2 (mBedsW v g nw nc nm a1 a2).2.1 (mBedsW v g nw nc nm a1 a2).2.2 ∧ u.2.1 0 0 = ad 0 0)) 0 0 (wA cnt ad z9) := by
  refine x_met (by decide) (Nat.le_of_ble_eq_true rfl) ?_
  intro p e s m below meth c E hr hlk hnm hq ls hl
  obtain ⟨hsz9, hq⟩ := hq
  subst hsz9
  generalize hav : ([.ref (ad 0 0), .int a1, .int a2] : List Value).toArray = args at E ⊢
  have hx := E.1
  have hb := E.2.1
  have hown := E.2.2.2.1
  have hts := E.2.2.2.2.1
  have hw : wd D (wA cnt ad s.heap.size) s.heap cnt ad ct s.heap [] := wd.start hq
  generalize hQ : MQ below (QcW D (wA cnt ad s.heap.size) (fun rv u => rv = some (.int (mBedsW v g nw nc nm a1 a2).1) ∧ cRepE ca u.1 u.2.1 u.2.2 (mBedsW v g nw nc nm a1 a2).2.1 (mBedsW v g nw nc nm a1 a2).2.2 ∧ u.2.1 0 0 = ad 0 0)) args s 0 0 (wA cnt ad s.heap.size) = Q
  generalize hA9 : wA cnt ad s.heap.size = A at hw hQ
  have hl : lv_has ls 4 [(0, .ref (ad 0 0)), (1, .int a1), (2, .int a2)] := hl
  obtain ⟨hO, hIv, tp, htp, hX, hT, hB, hCc, hN⟩ := id hC
  obtain ⟨hx0, hx1, hx2, hx3, fz0⟩ := id hX
  have hO5 := hO.2.2.2.2
  obtain ⟨hb4, hb5, fB, fz1, hBd⟩ := id hB
  obtain ⟨hc6, hc7, fC, dt, ow, ix, ak, fz2, hCd⟩ := id hCc
  obtain ⟨hn9, fN, lk, fz3, hNd⟩ := id hN
  obtain ⟨ht13, ht14, ht11, ht12, szq, nq, nrq, rtq, bq0, bq1, vsq, pq1, pq2, hsz, hsz2, hnq, hnr, hrt, fz11, fz11b, fz12, fz12b, fz13, fz14, hby, hrl⟩ := id hT
  suffices hgo : ∀ (H : Heap) (locs : List Loc), wd D A s.heap cnt ad ct H locs → W p l e (rmL 4 0 0) s m args below meth c H locs 0 0 Q (F0 m 0 ls []) from hgo _ _ hw
  clear hw
  intro H locs hw
  refine lv_aload_n hx hb dX9_beds_0 rfl (lv_at hl 0 rfl) ?_
  refine lv_iload_n hx hb dX9_beds_1 rfl (lv_at hl 1 rfl) ?_
  refine x_readq (x_runV (rest := []) E cbX9_findNurse tw_272 (kX9_findNurse l D ca cnt ad ct v g nw nb nc nm   a1 (hC)) ⟨rfl, rfl, by decide, by decide⟩ (x_recv E hw cl_9 (hx0) fz0) (fun _ _ _ _ h => h) (fun U hU _ => by rw [hU]; exact hw.1) rfl hl.1 rfl (Nat.le_of_ble_eq_true rfl) dX9_beds_2 ⟨by decide, by decide⟩) ?_
  refine x_astore_nQ (lv' := [(3, va_rf (Option.map (ad 9) (fdN a1))), (0, .ref (ad 0 0)), (1, .int a1), (2, .int a2)]) hx hb dX9_beds_5 rfl hl (by decide) rfl (fun ls hl => ?_)
  refine x_aload_nQ hx hb dX9_beds_6 rfl (lv_at hl 0 rfl) ?_
  rcases x_opt (fdN a1) with hn7 | ⟨i, hi7⟩
  · skip
    rw [hn7]
    rw [hn7] at hl
    have hl : lv_has ls 4 [(3, .null), (0, .ref (ad 0 0)), (1, .int a1), (2, .int a2)] := hl
    refine lv_ifnullN (tgt := 29) hx hb dX9_beds_7 (by decide) ?_
    refine lv_iconst (v := 0) hx hb dX9_beds_29 (by decide) ?_
    subst hQ
    exact x_zretW E hr hlk (by decide) hw (by decide) (by decide) (addA (rfl) (cw_post (by first | (simp [mBedsW, fdN_none hn7]; done) | (simp [mBedsW, hn7]; done) | (rw [cOv_eq hO5.1 hO5.2.2.1 hIv (nI_n1 (by omega)) (Nat.zero_le _)] at c_26; simp [mBedsW, hn7])) ⟨nw, nb, nc, nm, hC⟩)) dX9_beds_30
  · skip
    rw [hi7]
    rw [hi7] at hl
    have hl : lv_has ls 4 [(3, .ref (ad 9 i)), (0, .ref (ad 0 0)), (1, .int a1), (2, .int a2)] := hl
    refine lv_ifnull hx hb dX9_beds_7 ?_
    obtain ⟨hi12, rfl, hIn⟩ := fdN_some hi7
    obtain ⟨hfn, hnc, lln, hlln, hlkn⟩ := hNd i hi12
    refine lv_iload_n hx hb dX9_beds_10 rfl (lv_at hl 3 rfl) ?_
    refine lv_iconst (v := 1) hx hb dX9_beds_11 (by decide) ?_
    refine lv_iconst (v := 3) hx hb dX9_beds_12 (by decide) ?_
    refine x_read (x_runS (rest := []) E cbX9_within tw_121 (kX9_within l D ca a2 1 3 ) ⟨rfl, rfl, by decide, by decide⟩ (fun _ _ _ _ h => h) (fun _ _ _ => trivial) rfl hl.1 rfl (Nat.le_of_ble_eq_true rfl) dX9_beds_13 ⟨by decide, by decide⟩) ?_
    refine lv_if_eq (tgt := 29) hx hb dX9_beds_16 (by decide) (fun c_16 => ?_) (fun c_16 => ?_)
    · skip
      have c_16 := bB_0.mp c_16
      refine lv_iconst (v := 0) hx hb dX9_beds_29 (by decide) ?_
      subst hQ
      exact x_zretW E hr hlk (by decide) hw (by decide) (by decide) (addA (rfl) (cw_post (by first | (simp [mBedsW, fdN_none hn7]; done) | (simp [mBedsW, hi7, c_16]; done) | (rw [cOv_eq hO5.1 hO5.2.2.1 hIv (nI_n1 (by omega)) (Nat.zero_le _)] at c_26; simp [mBedsW, hi7, c_16])) ⟨nw, nb, nc, nm, hC⟩)) dX9_beds_30
    · skip
      have c_16 := bB_n0.mp c_16
      refine lv_aload_n hx hb dX9_beds_19 rfl (lv_at hl 1 rfl) ?_
      refine lv_iload_n hx hb dX9_beds_20 rfl (lv_at hl 2 rfl) ?_
      refine lv_iload_n hx hb dX9_beds_21 rfl (lv_at hl 3 rfl) ?_
      refine lv_iconst (v := 0) hx hb dX9_beds_22 (by decide) ?_
      refine x_read (x_runV (rest := []) E cbX9_isOver tw_276 (kX9_isOver l D ca cnt ad ct v g nw nb nc nm   (nI (i + 1)) a2 0 (hC) (nI_n1 (by omega))) ⟨rfl, rfl, by decide, by decide⟩ (x_recv E hw cl_9 (hx0) fz0) (fun _ _ _ _ h => h) (fun U hU _ => by rw [hU]; exact hw.1) rfl hl.1 rfl (Nat.le_of_ble_eq_true rfl) dX9_beds_23 ⟨by decide, by decide⟩) ?_
      refine lv_if_eq (tgt := 31) hx hb dX9_beds_26 (by decide) (fun c_26 => ?_) (fun c_26 => ?_)
      · skip
        have c_26 := bB_0.mp c_26
        refine lv_aload_n hx hb dX9_beds_31 rfl (lv_at hl 0 rfl) ?_
        refine lv_iload_n hx hb dX9_beds_32 rfl (lv_at hl 3 rfl) ?_
        refine x_put E hw 9 i (by omega) hnc cl_6 ly_6 tyX6 tyX6_ok nmX6 0 (by decide) tw_73 (Or.inl rfl) (by rfl) (by rfl) (Nat.le_of_ble_eq_true rfl) dX9_beds_33 (fun H locs hw => ?_)
        generalize hct1 : upd2 ct 9 i (.inr (6, [.int (g 22 (i + 1)), va_rf (Option.map (ad 10) (lk i))].set 0 (.int a2))) = ct1 at hw
        have fa1 : ct1 0 0 = .inr (9, [.int (nI nw), .int (nI nb), .int (nI nc), .int (nI nm), .int (v 4), .int (v 5), .ref (ad 1 0), .ref (ad 2 0), .ref (ad 3 0), .ref (ad 11 tp), .ref (ad 11 (1 - tp)), .ref (ad 13 0)]) := by rw [← hct1, upd2_k _ _ _ _ (by decide)]; exact fz0
        have fa2 : ct1 1 0 = .inl (ca 3, 50, aQ fB) := by rw [← hct1, upd2_k _ _ _ _ (by decide)]; exact fz1
        have fa3 : ct1 2 0 = .inl (ca 4, 60, aQ fC) := by rw [← hct1, upd2_k _ _ _ _ (by decide)]; exact fz2
        have fa4 : ct1 3 0 = .inl (ca 5, 13, aQ fN) := by rw [← hct1, upd2_k _ _ _ _ (by decide)]; exact fz3
        have fa5 : ct1 11 tp = .inr (8, [.ref (ad 12 tp), .int (nI szq)]) := by rw [← hct1, upd2_k _ _ _ _ (by decide)]; exact fz11
        have fa6 : ct1 9 i = .inr (6, [.int a2, va_rf (Option.map (ad 10) (lk i))]) := by rw [← hct1, upd2_at]; try rfl
        refine lv_iconst (v := 1) hx hb dX9_beds_36 (by decide) ?_
        subst hQ
        exact x_zretW E hr hlk (by decide) hw (by decide) (by decide) (addA (rfl) (cw_post (v' := v) (g' := upd2 g 22 (i + 1) a2) (by rw [cOv_eq hO5.1 hO5.2.2.1 hIv (nI_n1 (by omega)) (Nat.zero_le _)] at c_26; simp [mBedsW, hIn, nI_clamp (n := i + 1) (by omega), hi7, c_16, c_26]) ⟨nw, nb, nc, nm, hO, mIv_g (fun _ => upd2_k _ _ _ _ (by decide)) (fun _ => upd2_k _ _ _ _ (by decide)) (fun _ => upd2_k _ _ _ _ (by decide)) (fun _ => upd2_k _ _ _ _ (by decide)) (fun _ => upd2_k _ _ _ _ (by decide)) hIv, tp, htp, by rw [← hct1]; exact cX_up (by decide) hX, by rw [← hct1]; exact cT_up (by decide) (cT_g (fun _ => upd2_k _ _ _ _ (by decide)) (fun _ => upd2_k _ _ _ _ (by decide)) hT), by rw [← hct1]; exact cB_up (by decide) (cB_g (fun _ => upd2_k _ _ _ _ (by decide)) (fun _ => upd2_k _ _ _ _ (by decide)) hB), by rw [← hct1]; exact cC_up (by decide) (cC_g (fun k hk i => by rcases hk with rfl | rfl | rfl | rfl | rfl | rfl | rfl | rfl | rfl | rfl | rfl | rfl | rfl <;> exact upd2_k _ _ _ _ (by decide)) hCc), by rw [← hct1]; exact cN_bed hn9 fz3 hNd⟩)) dX9_beds_37
      · skip
        have c_26 := bB_n0.mp c_26
        refine lv_iconst (v := 0) hx hb dX9_beds_29 (by decide) ?_
        subst hQ
        exact x_zretW E hr hlk (by decide) hw (by decide) (by decide) (addA (rfl) (cw_post (by first | (simp [mBedsW, fdN_none hn7]; done) | (simp [mBedsW, hi7, c_16, c_26]; done) | (rw [cOv_eq hO5.1 hO5.2.2.1 hIv (nI_n1 (by omega)) (Nat.zero_le _)] at c_26; simp [mBedsW, hi7, c_16, c_26])) ⟨nw, nb, nc, nm, hC⟩)) dX9_beds_30
