set_option maxHeartbeats 4000000 in
set_option maxRecDepth 100000 in
theorem kX9_off (l : Launch) (D : va_G) (ca : Nat → ClassId) (cnt : Nat → Nat) (ad : Nat → Nat → Nat) (ct : Nat → Nat → va_E) (z9 : Nat) (v : Nat → Int32) (g : Nat → Nat → Int32) (nw : Nat) (nb : Nat) (nc : Nat) (nm : Nat) (a1 : Int32) (a2 : Int32) (a3 : Int32) (hC : cRep ca cnt ad ct v g nw nb nc nm) : Met l yX9_off (wz yX9_off cX9_off 5 (some .int)) (rmL 4 1 2) (va_Pc [.ref (ad 0 0), .int a1, .int a2, .int a3] (fun U => (U.heap.size = z9 ∧ wq D cnt ad ct U.heap) ∧ gK D ca U)) (QcW D (wA cnt ad z9) (fun rv u => rv = some (.int ((mOffP g nc a1 a2 a3, v, g)).1) ∧ cRepE ca u.1 u.2.1 u.2.2 ((mOffP g nc a1 a2 a3, v, g)).2.1 ((mOffP g nc a1 a2 a3, v, g)).2.2 ∧ u.2.1 0 0 = ad 0 0)) 1 2 (wA cnt ad z9) := by
  refine x_met (by decide) (Nat.le_of_ble_eq_true rfl) ?_
  intro p e s m below meth c E hr hlk hnm hq ls hl
  obtain ⟨hsz9, hq⟩ := hq
  subst hsz9
  generalize hav : ([.ref (ad 0 0), .int a1, .int a2, .int a3] : List Value).toArray = args at E ⊢
  have hx := E.1
  have hb := E.2.1
  have hown := E.2.2.2.1
  have hts := E.2.2.2.2.1
  have hw : wd D (wA cnt ad s.heap.size) s.heap cnt ad ct s.heap [] := wd.start hq
  generalize hQ : MQ below (QcW D (wA cnt ad s.heap.size) (fun rv u => rv = some (.int ((mOffP g nc a1 a2 a3, v, g)).1) ∧ cRepE ca u.1 u.2.1 u.2.2 ((mOffP g nc a1 a2 a3, v, g)).2.1 ((mOffP g nc a1 a2 a3, v, g)).2.2 ∧ u.2.1 0 0 = ad 0 0)) args s 1 2 (wA cnt ad s.heap.size) = Q
  generalize hA9 : wA cnt ad s.heap.size = A at hw hQ
  have hl : lv_has ls 5 [(0, .ref (ad 0 0)), (1, .int a1), (2, .int a2), (3, .int a3)] := hl
  obtain ⟨hO, hIv, tp, htp, hX, hT, hB, hCc, hN⟩ := id hC
  obtain ⟨hx0, hx1, hx2, hx3, fz0⟩ := id hX
  have hO5 := hO.2.2.2.2
  obtain ⟨hb4, hb5, fB, fz1, hBd⟩ := id hB
  obtain ⟨hc6, hc7, fC, dt, ow, ix, ak, fz2, hCd⟩ := id hCc
  obtain ⟨hn9, fN, lk, fz3, hNd⟩ := id hN
  obtain ⟨ht13, ht14, ht11, ht12, szq, nq, nrq, rtq, bq0, bq1, vsq, pq1, pq2, hsz, hsz2, hnq, hnr, hrt, fz11, fz11b, fz12, fz12b, fz13, fz14, hby, hrl⟩ := id hT
  suffices hgo : ∀ (H : Heap) (locs : List Loc), wd D A s.heap cnt ad ct H locs → W p l e (rmL 4 1 2) s m args below meth c H locs 0 0 Q (F0 m 0 ls []) from hgo _ _ hw
  clear hw
  intro H locs hw
  refine lv_aload_n hx hb dX9_off_0 rfl (lv_at hl 0 rfl) ?_
  refine lv_iload_n hx hb dX9_off_1 rfl (lv_at hl 1 rfl) ?_
  refine x_readq (x_runV (rest := []) E cbX9_findChild tw_292 (kX9_findChild l D ca cnt ad ct v g nw nb nc nm   a1 (hC)) ⟨rfl, rfl, by decide, by decide⟩ (x_recv E hw cl_9 (hx0) fz0) (fun _ _ _ _ h => h) (fun U hU _ => by rw [hU]; exact hw.1) rfl hl.1 rfl (Nat.le_of_ble_eq_true rfl) dX9_off_2 ⟨by decide, by decide⟩) ?_
  refine x_astoreQ (lv' := [(4, va_rf (Option.map (ad 6) (fdB nc a1))), (0, .ref (ad 0 0)), (1, .int a1), (2, .int a2), (3, .int a3)]) hx hb dX9_off_5 hl (by decide) rfl (fun ls hl => ?_)
  refine x_aloadQ hx hb dX9_off_7 (lv_at hl 0 rfl) ?_
  rcases x_opt (fdB nc a1) with hn9 | ⟨j, hi9⟩
  · skip
    rw [hn9]
    rw [hn9] at hl
    have hl : lv_has ls 5 [(4, .null), (0, .ref (ad 0 0)), (1, .int a1), (2, .int a2), (3, .int a3)] := hl
    refine lv_ifnullN (tgt := 20) hx hb dX9_off_9 (by decide) ?_
    refine lv_iconst (v := (-1)) hx hb dX9_off_20 (by decide) ?_
    subst hQ
    exact x_iretW E hr hlk hw (by decide) (by decide) (addA (rfl) (cw_post (by first | (simp [mOffP, fdB_none hn9]; done) | (have q9 := c_17; simp only [Bool.and_eq_false_iff] at q9; rcases q9 with q9 | q9 <;> simp [mOffP, q9])) ⟨nw, nb, nc, nm, hC⟩)) dX9_off_21
  · skip
    rw [hi9]
    rw [hi9] at hl
    have hl : lv_has ls 5 [(4, .ref (ad 6 j)), (0, .ref (ad 0 0)), (1, .int a1), (2, .int a2), (3, .int a3)] := hl
    refine lv_ifnull hx hb dX9_off_9 ?_
    obtain ⟨hj, rfl, hIj⟩ := fdB_some (by omega) hi9
    obtain ⟨hfc, hcc, hhc, hchn, hmc, hak, how, hnd⟩ := hCd j hj
    refine lv_iload_n hx hb dX9_off_12 rfl (lv_at hl 3 rfl) ?_
    refine lv_iload_n hx hb dX9_off_13 rfl (lv_at hl 4 rfl) ?_
    refine x_read (x_runS (rest := []) E cbX3_canBe tw_174 (kX3_canBe l D ca a2 a3 ) ⟨rfl, rfl, by decide, by decide⟩ (fun _ _ _ _ h => h) (fun _ _ _ => trivial) rfl hl.1 rfl (Nat.le_of_ble_eq_true rfl) dX9_off_14 ⟨by decide, by decide⟩) ?_
    refine lv_if_ne (tgt := 22) hx hb dX9_off_17 (by decide) (fun c_17 => ?_) (fun c_17 => ?_)
    · skip
      have c_17 := bB_n0.mp c_17
      refine lv_aload hx hb dX9_off_22 (lv_at hl 0 rfl) ?_
      refine x_get E hw 6 j (by omega) hcc cl_1 ly_1 3 (by decide) tw_235 rfl dX9_off_24 ?_
      refine x_new (fs := [.int 0, .int 0]) E hw 15 cl_3 ly_3 tyX3 tyX3_ok tw_181 tw_182 tw_8 df_3 (by decide) (by decide) dX9_off_27 (fun q9 H hw => ?_)
      generalize hix1 : cnt 15 = i1 at hw
      generalize hcn1 : va_up cnt 15 (i1 + 1) = cnt1 at hw
      generalize han1 : upd2 ad 15 i1 q9 = ad1 at hw
      generalize hct1 : upd2 ct 15 i1 (.inr (3, [.int 0, .int 0])) = ct1 at hw
      have hqq1 : q9 = ad1 15 i1 := by rw [← han1, upd2_at]
      subst hqq1
      have hcn1_0 : cnt1 0 = cnt 0 := by rw [← hcn1, va_up_ne _ _ (by decide)]
      have hcn1_1 : cnt1 1 = cnt 1 := by rw [← hcn1, va_up_ne _ _ (by decide)]
      have hcn1_2 : cnt1 2 = cnt 2 := by rw [← hcn1, va_up_ne _ _ (by decide)]
      have hcn1_3 : cnt1 3 = cnt 3 := by rw [← hcn1, va_up_ne _ _ (by decide)]
      have hcn1_4 : cnt1 4 = cnt 4 := by rw [← hcn1, va_up_ne _ _ (by decide)]
      have hcn1_5 : cnt1 5 = cnt 5 := by rw [← hcn1, va_up_ne _ _ (by decide)]
      have hcn1_6 : cnt1 6 = cnt 6 := by rw [← hcn1, va_up_ne _ _ (by decide)]
      have hcn1_7 : cnt1 7 = cnt 7 := by rw [← hcn1, va_up_ne _ _ (by decide)]
      have hcn1_8 : cnt1 8 = cnt 8 := by rw [← hcn1, va_up_ne _ _ (by decide)]
      have hcn1_9 : cnt1 9 = cnt 9 := by rw [← hcn1, va_up_ne _ _ (by decide)]
      have hcn1_10 : cnt1 10 = cnt 10 := by rw [← hcn1, va_up_ne _ _ (by decide)]
      have hcn1_11 : cnt1 11 = cnt 11 := by rw [← hcn1, va_up_ne _ _ (by decide)]
      have hcn1_12 : cnt1 12 = cnt 12 := by rw [← hcn1, va_up_ne _ _ (by decide)]
      have hcn1_13 : cnt1 13 = cnt 13 := by rw [← hcn1, va_up_ne _ _ (by decide)]
      have hcn1_14 : cnt1 14 = cnt 14 := by rw [← hcn1, va_up_ne _ _ (by decide)]
      have hcn1_15 : cnt1 15 = cnt 15 + 1 := by rw [← hcn1, va_up_self, hix1]
      have hcn1_16 : cnt1 16 = cnt 16 := by rw [← hcn1, va_up_ne _ _ (by decide)]
      have hcn1_17 : cnt1 17 = cnt 17 := by rw [← hcn1, va_up_ne _ _ (by decide)]
      have hag1 : ∀ k i, i < cnt k → ad k i = ad1 k i := fun k i hi => by rw [← han1]; by_cases hk : k = 15; subst hk; exact (upd2_i _ _ _ (by omega)).symm; exact (upd2_k _ _ _ _ hk).symm
      have hcg1 : ∀ k i, i < cnt k → ct1 k i = ct k i := fun k i hi => by rw [← hct1]; by_cases hk : k = 15; subst hk; exact upd2_i _ _ _ (by omega); exact upd2_k _ _ _ _ hk
      have hle1 : ∀ k, cnt k ≤ cnt1 k := fun k => by rw [← hcn1]; by_cases hk : k = 15; subst hk; rw [va_up_self]; omega; rw [va_up_ne _ _ hk]; exact Nat.le_refl _
      have fa1 : ct1 0 0 = .inr (9, [.int (nI nw), .int (nI nb), .int (nI nc), .int (nI nm), .int (v 4), .int (v 5), .ref (ad 1 0), .ref (ad 2 0), .ref (ad 3 0), .ref (ad 11 tp), .ref (ad 11 (1 - tp)), .ref (ad 13 0)]) := by rw [hcg1 0 0 (hx0)]; exact fz0
      have fa2 : ct1 1 0 = .inl (ca 3, 50, aQ fB) := by rw [hcg1 1 0 (hx1)]; exact fz1
      have fa3 : ct1 2 0 = .inl (ca 4, 60, aQ fC) := by rw [hcg1 2 0 (hx2)]; exact fz2
      have fa4 : ct1 3 0 = .inl (ca 5, 13, aQ fN) := by rw [hcg1 3 0 (hx3)]; exact fz3
      have fa5 : ct1 11 tp = .inr (8, [.ref (ad 12 tp), .int (nI szq)]) := by rw [hcg1 11 tp (by omega)]; exact fz11
      have fa6 : ct1 6 j = .inr (1, [.int (g 9 j), .int (g 10 j), .int (g 11 j), .ref (ad 7 j), .int (g 14 j), .int (g 15 j), va_rf (Option.map (ad 8) ((ix j)[0]?)), .int (nI (mCnt g (nI j) nm)), .int (g 16 j), .int (ak j)]) := by rw [hcg1 6 j (by omega)]; exact hcc
      have fa7 : ct1 7 j = .inr (3, [.int (g 12 j), .int (g 13 j)]) := by rw [hcg1 7 j (by omega)]; exact hhc
      have fa8 : ct1 15 i1 = .inr (3, [.int 0, .int 0]) := by rw [← hct1, upd2_at]
      have hin1 : i1 < cnt1 15 := by omega
      refine lv_dup hx hb dX9_off_30 rfl ?_
      refine lv_iload_n hx hb dX9_off_31 rfl (lv_at hl 3 rfl) ?_
      refine lv_iload_n hx hb dX9_off_32 rfl (lv_at hl 4 rfl) ?_
      have ev33_0 : ad 7 j = ad1 7 j := hag1 7 j (by omega)
      refine W.eq (g2 := F0 m 33 ls [.int a3, .int a2, .ref (ad1 15 i1), .ref (ad1 15 i1), .ref (ad1 7 j)]) (by rw [ev33_0]) ?_
      refine x_wrote hw (x_runI (rest := [.ref (ad1 15 i1), .ref (ad1 7 j)]) E cbX3_init tw_183 (kX3_init l D ca cnt1 ad1 ct1 H.size  15 i1  a2 a3 (hin1) (fa8)) ⟨rfl, rfl, by decide, by decide⟩ (fun _ _ _ _ h => h) (fun U hU _ => by rw [hU]; exact ⟨rfl, hw.1⟩) rfl hl.1 rfl (Nat.le_of_ble_eq_true rfl) dX9_off_33 ⟨by decide, by decide⟩) (fun rv9 u9 H locs hp9 hw hz9 hk9 => ?_)
      obtain ⟨hrv9, hu9⟩ := hp9
      subst hrv9
      subst hu9
      dsimp only [Option.toList, List.nil_append] at hw ⊢
      generalize hct2 : upd2 ct1 15 i1 (.inr (3, [.int a2, .int a3])) = ct2 at hw
      have fa9 : ct2 0 0 = .inr (9, [.int (nI nw), .int (nI nb), .int (nI nc), .int (nI nm), .int (v 4), .int (v 5), .ref (ad 1 0), .ref (ad 2 0), .ref (ad 3 0), .ref (ad 11 tp), .ref (ad 11 (1 - tp)), .ref (ad 13 0)]) := by rw [← hct2, upd2_k _ _ _ _ (by decide)]; exact fa1
      have fa10 : ct2 1 0 = .inl (ca 3, 50, aQ fB) := by rw [← hct2, upd2_k _ _ _ _ (by decide)]; exact fa2
      have fa11 : ct2 2 0 = .inl (ca 4, 60, aQ fC) := by rw [← hct2, upd2_k _ _ _ _ (by decide)]; exact fa3
      have fa12 : ct2 3 0 = .inl (ca 5, 13, aQ fN) := by rw [← hct2, upd2_k _ _ _ _ (by decide)]; exact fa4
      have fa13 : ct2 11 tp = .inr (8, [.ref (ad 12 tp), .int (nI szq)]) := by rw [← hct2, upd2_k _ _ _ _ (by decide)]; exact fa5
      have fa14 : ct2 6 j = .inr (1, [.int (g 9 j), .int (g 10 j), .int (g 11 j), .ref (ad 7 j), .int (g 14 j), .int (g 15 j), va_rf (Option.map (ad 8) ((ix j)[0]?)), .int (nI (mCnt g (nI j) nm)), .int (g 16 j), .int (ak j)]) := by rw [← hct2, upd2_k _ _ _ _ (by decide)]; exact fa6
      have fa15 : ct2 7 j = .inr (3, [.int (g 12 j), .int (g 13 j)]) := by rw [← hct2, upd2_k _ _ _ _ (by decide)]; exact fa7
      have fa16 : ct2 15 i1 = .inr (3, [.int a2, .int a3]) := by rw [← hct2, upd2_at]; try rfl
      refine x_read (x_runV (rest := []) E cbX3_farOff tw_373 (kX3_farOff l D ca cnt1 ad1 ct2  j _ _ i1 _ _  (by omega) (fa15) (hin1) (fa16)) ⟨rfl, rfl, by decide, by decide⟩ (x_recv E hw cl_3 (by omega) fa15) (fun _ _ _ _ h => h) (fun U hU _ => by rw [hU]; exact hw.1) rfl hl.1 rfl (Nat.le_of_ble_eq_true rfl) dX9_off_36 ⟨by decide, by decide⟩) ?_
      subst hQ
      exact x_iretW E hr hlk hw (by decide) (by decide) (addA ((hag1 0 0 (by omega)).symm) (cw_post (v' := v) (g' := g) (by rw [cFar_eq]; simp only [Bool.and_eq_true] at c_17; simp [mOffP, hIj, nI_clamp (n := j) (by omega), c_17.1, c_17.2]) ⟨nw, nb, nc, nm, by rw [← hct2]; exact cRep_up (by decide) (cRep_ext (by omega) (by omega) (by omega) (by omega) (by omega) hle1 hag1 hcg1 hC)⟩)) dX9_off_39
    · skip
      have c_17 := bB_0.mp c_17
      refine lv_iconst (v := (-1)) hx hb dX9_off_20 (by decide) ?_
      subst hQ
      exact x_iretW E hr hlk hw (by decide) (by decide) (addA (rfl) (cw_post (by first | (simp [mOffP, fdB_none hn9]; done) | (have q9 := c_17; simp only [Bool.and_eq_false_iff] at q9; rcases q9 with q9 | q9 <;> simp [mOffP, q9])) ⟨nw, nb, nc, nm, hC⟩)) dX9_off_21
