set_option maxHeartbeats 4000000 in
set_option maxRecDepth 100000 in
theorem kX3_init (l : Launch) (D : va_G) (ca : Nat → ClassId) (cnt : Nat → Nat) (ad : Nat → Nat → Nat) (ct : Nat → Nat → va_E) (z9 : Nat) (k9 : Nat) (i9 : Nat) (a1 : Int32) (a2 : Int32) (hki : i9 < cnt k9) (hkc : ct k9 i9 = .inr (3, [.int 0, .int 0])) : Met l yX3_init (wz yX3_init cX3_init 3 none) (rmL 2 0 0) (va_Pc [.ref (ad k9 i9), .int a1, .int a2] (fun U => (U.heap.size = z9 ∧ wq D cnt ad ct U.heap) ∧ gK D ca U)) (QcW D (wA cnt ad z9) (fun rv u => rv = none ∧ u = (cnt, ad, upd2 ct k9 i9 (.inr (3, [.int a1, .int a2]))))) 0 0 (wA cnt ad z9) := by
  refine x_met (by decide) (Nat.le_of_ble_eq_true rfl) ?_
  intro p e s m below meth c E hr hlk hnm hq ls hl
  obtain ⟨hsz9, hq⟩ := hq
  subst hsz9
  generalize hav : ([.ref (ad k9 i9), .int a1, .int a2] : List Value).toArray = args at E ⊢
  have hx := E.1
  have hb := E.2.1
  have hown := E.2.2.2.1
  have hts := E.2.2.2.2.1
  have hw : wd D (wA cnt ad s.heap.size) s.heap cnt ad ct s.heap [] := wd.start hq
  generalize hQ : MQ below (QcW D (wA cnt ad s.heap.size) (fun rv u => rv = none ∧ u = (cnt, ad, upd2 ct k9 i9 (.inr (3, [.int a1, .int a2]))))) args s 0 0 (wA cnt ad s.heap.size) = Q
  generalize hA9 : wA cnt ad s.heap.size = A at hw hQ
  have hl : lv_has ls 3 [(0, .ref (ad k9 i9)), (1, .int a1), (2, .int a2)] := hl
  suffices hgo : ∀ (H : Heap) (locs : List Loc), wd D A s.heap cnt ad ct H locs → W p l e (rmL 2 0 0) s m args below meth c H locs 0 0 Q (F0 m 0 ls []) from hgo _ _ hw
  clear hw
  intro H locs hw
  refine lv_aload_n hx hb dX3_init_0 rfl (lv_at hl 0 rfl) ?_
  refine W.objInit hx hb hown (hts _ tw_186) (hts _ tw_20) (hts _ tw_21) rfl (hl.1.trans E.2.2.1.symm) rfl dX3_init_1 (by decide) (Nat.le_of_ble_eq_true rfl) ?_
  refine W.eq (g2 := F0 m 4 ls []) rfl ?_
  refine lv_aload_n hx hb dX3_init_4 rfl (lv_at hl 0 rfl) ?_
  refine lv_iload_n hx hb dX3_init_5 rfl (lv_at hl 1 rfl) ?_
  refine x_put E hw k9 i9 (hki) hkc cl_3 ly_3 tyX3 tyX3_ok nmX3 0 (by decide) tw_187 (Or.inr ⟨rfl, hnm, rfl⟩) (by rfl) (by rfl) (Nat.le_of_ble_eq_true rfl) dX3_init_6 (fun H locs hw => ?_)
  generalize hct1 : upd2 ct k9 i9 (.inr (3, [.int 0, .int 0].set 0 (.int a1))) = ct1 at hw
  have fa1 : ct1 k9 i9 = .inr (3, [.int a1, .int 0]) := by rw [← hct1, upd2_at]; try rfl
  refine lv_aload_n hx hb dX3_init_9 rfl (lv_at hl 0 rfl) ?_
  refine lv_iload_n hx hb dX3_init_10 rfl (lv_at hl 2 rfl) ?_
  refine x_put E hw k9 i9 (hki) fa1 cl_3 ly_3 tyX3 tyX3_ok nmX3 1 (by decide) tw_189 (Or.inr ⟨rfl, hnm, rfl⟩) (by rfl) (by rfl) (Nat.le_of_ble_eq_true rfl) dX3_init_11 (fun H locs hw => ?_)
  generalize hct2 : upd2 ct1 k9 i9 (.inr (3, [.int a1, .int 0].set 1 (.int a2))) = ct2 at hw
  have fa2 : ct2 k9 i9 = .inr (3, [.int a1, .int a2]) := by rw [← hct2, upd2_at]; try rfl
  subst hQ
  exact x_vretW E hr hlk hw (by decide) (by decide) (⟨rfl, by rw [← hct2, ← hct1, upd2_2]; rfl⟩) dX3_init_14
set_option maxHeartbeats 4000000 in
set_option maxRecDepth 100000 in
theorem kX5_init (l : Launch) (D : va_G) (ca : Nat → ClassId) (cnt : Nat → Nat) (ad : Nat → Nat → Nat) (ct : Nat → Nat → va_E) (z9 : Nat) (i9 : Nat) (a1 : Int32) (a2 : Int32) (a3 : Int32) (hki : i9 < cnt 8) (hkc : ct 8 i9 = .inr (5, [.int 0, .int 0, .int 0, .null])) : Met l yX5_init (wz yX5_init cX5_init 4 none) (rmL 2 0 0) (va_Pc [.ref (ad 8 i9), .int a1, .int a2, .int a3] (fun U => (U.heap.size = z9 ∧ wq D cnt ad ct U.heap) ∧ gK D ca U)) (QcW D (wA cnt ad z9) (fun rv u => rv = none ∧ u = (cnt, ad, upd2 ct 8 i9 (.inr (5, [.int a1, .int a2, .int a3, .null]))))) 0 0 (wA cnt ad z9) := by
  refine x_met (by decide) (Nat.le_of_ble_eq_true rfl) ?_
  intro p e s m below meth c E hr hlk hnm hq ls hl
  obtain ⟨hsz9, hq⟩ := hq
  subst hsz9
  generalize hav : ([.ref (ad 8 i9), .int a1, .int a2, .int a3] : List Value).toArray = args at E ⊢
  have hx := E.1
  have hb := E.2.1
  have hown := E.2.2.2.1
  have hts := E.2.2.2.2.1
  have hw : wd D (wA cnt ad s.heap.size) s.heap cnt ad ct s.heap [] := wd.start hq
  generalize hQ : MQ below (QcW D (wA cnt ad s.heap.size) (fun rv u => rv = none ∧ u = (cnt, ad, upd2 ct 8 i9 (.inr (5, [.int a1, .int a2, .int a3, .null]))))) args s 0 0 (wA cnt ad s.heap.size) = Q
  generalize hA9 : wA cnt ad s.heap.size = A at hw hQ
  have hl : lv_has ls 4 [(0, .ref (ad 8 i9)), (1, .int a1), (2, .int a2), (3, .int a3)] := hl
  suffices hgo : ∀ (H : Heap) (locs : List Loc), wd D A s.heap cnt ad ct H locs → W p l e (rmL 2 0 0) s m args below meth c H locs 0 0 Q (F0 m 0 ls []) from hgo _ _ hw
  clear hw
  intro H locs hw
  refine lv_aload_n hx hb dX5_init_0 rfl (lv_at hl 0 rfl) ?_
  refine W.objInit hx hb hown (hts _ tw_205) (hts _ tw_20) (hts _ tw_21) rfl (hl.1.trans E.2.2.1.symm) rfl dX5_init_1 (by decide) (Nat.le_of_ble_eq_true rfl) ?_
  refine W.eq (g2 := F0 m 4 ls []) rfl ?_
  refine lv_aload_n hx hb dX5_init_4 rfl (lv_at hl 0 rfl) ?_
  refine lv_iload_n hx hb dX5_init_5 rfl (lv_at hl 1 rfl) ?_
  refine x_put E hw 8 i9 (hki) hkc cl_5 ly_5 tyX5 tyX5_ok nmX5 0 (by decide) tw_206 (Or.inr ⟨rfl, hnm, rfl⟩) (by rfl) (by rfl) (Nat.le_of_ble_eq_true rfl) dX5_init_6 (fun H locs hw => ?_)
  generalize hct1 : upd2 ct 8 i9 (.inr (5, [.int 0, .int 0, .int 0, .null].set 0 (.int a1))) = ct1 at hw
  have fa1 : ct1 8 i9 = .inr (5, [.int a1, .int 0, .int 0, .null]) := by rw [← hct1, upd2_at]; try rfl
  refine lv_aload_n hx hb dX5_init_9 rfl (lv_at hl 0 rfl) ?_
  refine lv_iload_n hx hb dX5_init_10 rfl (lv_at hl 2 rfl) ?_
  refine x_put E hw 8 i9 (hki) fa1 cl_5 ly_5 tyX5 tyX5_ok nmX5 1 (by decide) tw_209 (Or.inr ⟨rfl, hnm, rfl⟩) (by rfl) (by rfl) (Nat.le_of_ble_eq_true rfl) dX5_init_11 (fun H locs hw => ?_)
  generalize hct2 : upd2 ct1 8 i9 (.inr (5, [.int a1, .int 0, .int 0, .null].set 1 (.int a2))) = ct2 at hw
  have fa2 : ct2 8 i9 = .inr (5, [.int a1, .int a2, .int 0, .null]) := by rw [← hct2, upd2_at]; try rfl
  refine lv_aload_n hx hb dX5_init_14 rfl (lv_at hl 0 rfl) ?_
  refine lv_iload_n hx hb dX5_init_15 rfl (lv_at hl 3 rfl) ?_
  refine x_put E hw 8 i9 (hki) fa2 cl_5 ly_5 tyX5 tyX5_ok nmX5 2 (by decide) tw_212 (Or.inr ⟨rfl, hnm, rfl⟩) (by rfl) (by rfl) (Nat.le_of_ble_eq_true rfl) dX5_init_16 (fun H locs hw => ?_)
  generalize hct3 : upd2 ct2 8 i9 (.inr (5, [.int a1, .int a2, .int 0, .null].set 2 (.int a3))) = ct3 at hw
  have fa3 : ct3 8 i9 = .inr (5, [.int a1, .int a2, .int a3, .null]) := by rw [← hct3, upd2_at]; try rfl
  subst hQ
  exact x_vretW E hr hlk hw (by decide) (by decide) (⟨rfl, by rw [← hct3, ← hct2, ← hct1, upd2_2, upd2_2]; rfl⟩) dX5_init_19
set_option maxHeartbeats 4000000 in
set_option maxRecDepth 100000 in
theorem kX9_days (l : Launch) (D : va_G) (ca : Nat → ClassId) (cnt : Nat → Nat) (ad : Nat → Nat → Nat) (ct : Nat → Nat → va_E) (z9 : Nat) (v : Nat → Int32) (g : Nat → Nat → Int32) (nw : Nat) (nb : Nat) (nc : Nat) (nm : Nat) (a1 : Int32) (hC : cRep ca cnt ad ct v g nw nb nc nm) : Met l yX9_days (wz yX9_days cX9_days 2 (some .int)) (rmL 2 0 0) (va_Pc [.ref (ad 0 0), .int a1] (fun U => (U.heap.size = z9 ∧ wq D cnt ad ct U.heap) ∧ gK D ca U)) (QcW D (wA cnt ad z9) (fun rv u => rv = some (.int (mDaysW v g nw a1).1) ∧ cRepE ca u.1 u.2.1 u.2.2 (mDaysW v g nw a1).2.1 (mDaysW v g nw a1).2.2 ∧ u.2.1 0 0 = ad 0 0)) 0 0 (wA cnt ad z9) := by
  refine x_met (by decide) (Nat.le_of_ble_eq_true rfl) ?_
  intro p e s m below meth c E hr hlk hnm hq ls hl
  obtain ⟨hsz9, hq⟩ := hq
  subst hsz9
  generalize hav : ([.ref (ad 0 0), .int a1] : List Value).toArray = args at E ⊢
  have hx := E.1
  have hb := E.2.1
  have hown := E.2.2.2.1
  have hts := E.2.2.2.2.1
  have hw : wd D (wA cnt ad s.heap.size) s.heap cnt ad ct s.heap [] := wd.start hq
  generalize hQ : MQ below (QcW D (wA cnt ad s.heap.size) (fun rv u => rv = some (.int (mDaysW v g nw a1).1) ∧ cRepE ca u.1 u.2.1 u.2.2 (mDaysW v g nw a1).2.1 (mDaysW v g nw a1).2.2 ∧ u.2.1 0 0 = ad 0 0)) args s 0 0 (wA cnt ad s.heap.size) = Q
  generalize hA9 : wA cnt ad s.heap.size = A at hw hQ
  have hl : lv_has ls 2 [(0, .ref (ad 0 0)), (1, .int a1)] := hl
  obtain ⟨hO, hIv, tp, htp, hX, hT, hB, hCc, hN⟩ := id hC
  obtain ⟨hx0, hx1, hx2, hx3, fz0⟩ := id hX
  have hO5 := hO.2.2.2.2
  obtain ⟨hb4, hb5, fB, fz1, hBd⟩ := id hB
  obtain ⟨hc6, hc7, fC, dt, ow, ix, ak, fz2, hCd⟩ := id hCc
  obtain ⟨hn9, fN, lk, fz3, hNd⟩ := id hN
  obtain ⟨ht13, ht14, ht11, ht12, szq, nq, nrq, rtq, bq0, bq1, vsq, pq1, pq2, hsz, hsz2, hnq, hnr, hrt, fz11, fz11b, fz12, fz12b, fz13, fz14, hby, hrl⟩ := id hT
  suffices hgo : ∀ (H : Heap) (locs : List Loc), wd D A s.heap cnt ad ct H locs → W p l e (rmL 2 0 0) s m args below meth c H locs 0 0 Q (F0 m 0 ls []) from hgo _ _ hw
  clear hw
  intro H locs hw
  refine lv_iload_n hx hb dX9_days_0 rfl (lv_at hl 1 rfl) ?_
  refine lv_iconst (v := 0) hx hb dX9_days_1 (by decide) ?_
  refine lv_sipush (v := 1000) hx hb dX9_days_2 (by decide) ?_
  refine x_read (x_runS (rest := []) E cbX9_within tw_121 (kX9_within l D ca a1 0 1000 ) ⟨rfl, rfl, by decide, by decide⟩ (fun _ _ _ _ h => h) (fun _ _ _ => trivial) rfl hl.1 rfl (Nat.le_of_ble_eq_true rfl) dX9_days_5 ⟨by decide, by decide⟩) ?_
  refine lv_if_eq (tgt := 23) hx hb dX9_days_8 (by decide) (fun c_8 => ?_) (fun c_8 => ?_)
  · skip
    have c_8 := bB_0.mp c_8
    refine lv_iconst (v := (-1)) hx hb dX9_days_23 (by decide) ?_
    subst hQ
    exact x_iretW E hr hlk hw (by decide) (by decide) (addA (rfl) (cw_post (by simp [mDaysW, c_8]) ⟨nw, nb, nc, nm, hC⟩)) dX9_days_24
  · skip
    have c_8 := bB_n0.mp c_8
    obtain ⟨j1, -, hj1, rfl⟩ := isIn_rng (lo := 0) (hi := 1000) (by decide) (by decide) c_8
    refine lv_aload_n hx hb dX9_days_11 rfl (lv_at hl 0 rfl) ?_
    refine x_get E hw 0 0 (hx0) fz0 cl_9 ly_9 0 (by decide) tw_80 rfl dX9_days_12 ?_
    refine lv_iload_n hx hb dX9_days_15 rfl (lv_at hl 1 rfl) ?_
    refine lv_iadd hx hb dX9_days_16 ?_
    refine lv_sipush (v := 2000) hx hb dX9_days_17 (by decide) ?_
    refine lv_icmp_le (tgt := 25) hx hb dX9_days_20 (by decide) (fun c_20 => ?_) (fun c_20 => ?_)
    · skip
      have hnw : nw + j1 ≤ 2000 := (nI_leI (a := nw + j1) (b := 2000) (by omega) (by decide)).mp (by rw [← nI_add]; exact c_20)
      refine lv_aload_n hx hb dX9_days_25 rfl (lv_at hl 0 rfl) ?_
      refine lv_dup hx hb dX9_days_26 rfl ?_
      refine x_get E hw 0 0 (hx0) fz0 cl_9 ly_9 0 (by decide) tw_80 rfl dX9_days_27 ?_
      refine lv_iload_n hx hb dX9_days_30 rfl (lv_at hl 1 rfl) ?_
      refine lv_iadd hx hb dX9_days_31 ?_
      refine x_top (x := (nI nw + nI j1)) (y := (nI (nw + j1))) (nI_add _ _) ?_
      refine x_put E hw 0 0 (hx0) fz0 cl_9 ly_9 tyX9 tyX9_ok nmX9 0 (by decide) tw_80 (Or.inl rfl) (by rfl) (by rfl) (Nat.le_of_ble_eq_true rfl) dX9_days_32 (fun H locs hw => ?_)
      generalize hct1 : upd2 ct 0 0 (.inr (9, [.int (nI nw), .int (nI nb), .int (nI nc), .int (nI nm), .int (v 4), .int (v 5), .ref (ad 1 0), .ref (ad 2 0), .ref (ad 3 0), .ref (ad 11 tp), .ref (ad 11 (1 - tp)), .ref (ad 13 0)].set 0 (.int (nI (nw + j1))))) = ct1 at hw
      have fa1 : ct1 0 0 = .inr (9, [.int (nI (nw + j1)), .int (nI nb), .int (nI nc), .int (nI nm), .int (v 4), .int (v 5), .ref (ad 1 0), .ref (ad 2 0), .ref (ad 3 0), .ref (ad 11 tp), .ref (ad 11 (1 - tp)), .ref (ad 13 0)]) := by rw [← hct1, upd2_at]; try rfl
      have fa2 : ct1 1 0 = .inl (ca 3, 50, aQ fB) := by rw [← hct1, upd2_k _ _ _ _ (by decide)]; exact fz1
      have fa3 : ct1 2 0 = .inl (ca 4, 60, aQ fC) := by rw [← hct1, upd2_k _ _ _ _ (by decide)]; exact fz2
      have fa4 : ct1 3 0 = .inl (ca 5, 13, aQ fN) := by rw [← hct1, upd2_k _ _ _ _ (by decide)]; exact fz3
      have fa5 : ct1 11 tp = .inr (8, [.ref (ad 12 tp), .int (nI szq)]) := by rw [← hct1, upd2_k _ _ _ _ (by decide)]; exact fz11
      refine lv_aload_n hx hb dX9_days_35 rfl (lv_at hl 0 rfl) ?_
      refine x_get E hw 0 0 (hx0) fa1 cl_9 ly_9 0 (by decide) tw_80 rfl dX9_days_36 ?_
      subst hQ
      exact x_iretW E hr hlk hw (by decide) (by decide) (addA (rfl) (cw_post (v' := upd v 0 (nI (nw + j1))) (g' := g) (by rw [← nI_add]; simp [mDaysW, c_8, c_20]) ⟨nw + j1, nb, nc, nm, ⟨upd_at _ _ _, by rw [upd_ne _ _ (by decide)]; exact hO.2.1, by rw [upd_ne _ _ (by decide)]; exact hO.2.2.1, by rw [upd_ne _ _ (by decide)]; exact hO.2.2.2.1, hnw, hO5.2⟩, mIv_w (by omega) hIv, tp, htp, ⟨hx0, hx1, hx2, hx3, fa1⟩, cT_v (by rw [upd_ne _ _ (by decide)]) (by rw [upd_ne _ _ (by decide)]) (by rw [← hct1]; exact cT_up (by decide) hT), by rw [← hct1]; exact cB_up (by decide) hB, by rw [← hct1]; exact cC_up (by decide) hCc, by rw [← hct1]; exact cN_w (by omega) (cN_up (by decide) hN)⟩)) dX9_days_39
    · skip
      refine lv_iconst (v := (-1)) hx hb dX9_days_23 (by decide) ?_
      subst hQ
      exact x_iretW E hr hlk hw (by decide) (by decide) (addA (rfl) (cw_post (by simp [mDaysW, c_8, c_20]) ⟨nw, nb, nc, nm, hC⟩)) dX9_days_24
set_option maxHeartbeats 4000000 in
set_option maxRecDepth 100000 in
theorem kX9_name (l : Launch) (D : va_G) (ca : Nat → ClassId) (cnt : Nat → Nat) (ad : Nat → Nat → Nat) (ct : Nat → Nat → va_E) (z9 : Nat) (v : Nat → Int32) (g : Nat → Nat → Int32) (nw : Nat) (nb : Nat) (nc : Nat) (nm : Nat) (a1 : Int32) (a2 : Int32) (hC : cRep ca cnt ad ct v g nw nb nc nm) : Met l yX9_name (wz yX9_name cX9_name 4 (some .boolean)) (rmL 3 0 0) (va_Pc [.ref (ad 0 0), .int a1, .int a2] (fun U => (U.heap.size = z9 ∧ wq D cnt ad ct U.heap) ∧ gK D ca U)) (QcW D (wA cnt ad z9) (fun rv u => rv = some (.int (mNameW v g nc a1 a2).1) ∧ cRepE ca u.1 u.2.1 u.2.2 (mNameW v g nc a1 a2).2.1 (mNameW v g nc a1 a2).2.2 ∧ u.2.1 0 0 = ad 0 0)) 0 0 (wA cnt ad z9) := by
  refine x_met (by decide) (Nat.le_of_ble_eq_true rfl) ?_
  intro p e s m below meth c E hr hlk hnm hq ls hl
  obtain ⟨hsz9, hq⟩ := hq
  subst hsz9
  generalize hav : ([.ref (ad 0 0), .int a1, .int a2] : List Value).toArray = args at E ⊢
  have hx := E.1
  have hb := E.2.1
  have hown := E.2.2.2.1
  have hts := E.2.2.2.2.1
  have hw : wd D (wA cnt ad s.heap.size) s.heap cnt ad ct s.heap [] := wd.start hq
  generalize hQ : MQ below (QcW D (wA cnt ad s.heap.size) (fun rv u => rv = some (.int (mNameW v g nc a1 a2).1) ∧ cRepE ca u.1 u.2.1 u.2.2 (mNameW v g nc a1 a2).2.1 (mNameW v g nc a1 a2).2.2 ∧ u.2.1 0 0 = ad 0 0)) args s 0 0 (wA cnt ad s.heap.size) = Q
  generalize hA9 : wA cnt ad s.heap.size = A at hw hQ
  have hl : lv_has ls 4 [(0, .ref (ad 0 0)), (1, .int a1), (2, .int a2)] := hl
  obtain ⟨hO, hIv, tp, htp, hX, hT, hB, hCc, hN⟩ := id hC
  obtain ⟨hx0, hx1, hx2, hx3, fz0⟩ := id hX
  have hO5 := hO.2.2.2.2
  obtain ⟨hb4, hb5, fB, fz1, hBd⟩ := id hB
  obtain ⟨hc6, hc7, fC, dt, ow, ix, ak, fz2, hCd⟩ := id hCc
  obtain ⟨hn9, fN, lk, fz3, hNd⟩ := id hN
  obtain ⟨ht13, ht14, ht11, ht12, szq, nq, nrq, rtq, bq0, bq1, vsq, pq1, pq2, hsz, hsz2, hnq, hnr, hrt, fz11, fz11b, fz12, fz12b, fz13, fz14, hby, hrl⟩ := id hT
  suffices hgo : ∀ (H : Heap) (locs : List Loc), wd D A s.heap cnt ad ct H locs → W p l e (rmL 3 0 0) s m args below meth c H locs 0 0 Q (F0 m 0 ls []) from hgo _ _ hw
  clear hw
  intro H locs hw
  refine lv_aload_n hx hb dX9_name_0 rfl (lv_at hl 0 rfl) ?_
  refine lv_iload_n hx hb dX9_name_1 rfl (lv_at hl 1 rfl) ?_
  refine x_readq (x_runV (rest := []) E cbX9_findChild tw_292 (kX9_findChild l D ca cnt ad ct v g nw nb nc nm   a1 (hC)) ⟨rfl, rfl, by decide, by decide⟩ (x_recv E hw cl_9 (hx0) fz0) (fun _ _ _ _ h => h) (fun U hU _ => by rw [hU]; exact hw.1) rfl hl.1 rfl (Nat.le_of_ble_eq_true rfl) dX9_name_2 ⟨by decide, by decide⟩) ?_
  refine x_astore_nQ (lv' := [(3, va_rf (Option.map (ad 6) (fdB nc a1))), (0, .ref (ad 0 0)), (1, .int a1), (2, .int a2)]) hx hb dX9_name_5 rfl hl (by decide) rfl (fun ls hl => ?_)
  refine x_aload_nQ hx hb dX9_name_6 rfl (lv_at hl 0 rfl) ?_
  rcases x_opt (fdB nc a1) with hn7 | ⟨j, hi7⟩
  · skip
    rw [hn7]
    rw [hn7] at hl
    have hl : lv_has ls 4 [(3, .null), (0, .ref (ad 0 0)), (1, .int a1), (2, .int a2)] := hl
    refine lv_ifnullN (tgt := 27) hx hb dX9_name_7 (by decide) ?_
    refine lv_iconst (v := 0) hx hb dX9_name_27 (by decide) ?_
    subst hQ
    exact x_zretW E hr hlk (by decide) hw (by decide) (by decide) (addA (rfl) (cw_post (by first | (simp [mNameW, fdB_none hn7]; done) | simp [mNameW, hIj, nI_clamp (n := j) (by omega), hn7]) ⟨nw, nb, nc, nm, hC⟩)) dX9_name_28
  · skip
    rw [hi7]
    rw [hi7] at hl
    have hl : lv_has ls 4 [(3, .ref (ad 6 j)), (0, .ref (ad 0 0)), (1, .int a1), (2, .int a2)] := hl
    refine lv_ifnull hx hb dX9_name_7 ?_
    obtain ⟨hj, rfl, hIj⟩ := fdB_some (by omega) hi7
    obtain ⟨hfc, hcc, hhc, hchn, hmc, hak, how, hnd⟩ := hCd j hj
    refine lv_iload_n hx hb dX9_name_10 rfl (lv_at hl 3 rfl) ?_
    refine lv_iconst (v := 1) hx hb dX9_name_11 (by decide) ?_
    refine lv_ldc hx hb hown (hts _ tw_508) dX9_name_12 ?_
    refine x_read (x_runS (rest := []) E cbX9_within tw_121 (kX9_within l D ca a2 1 1000000 ) ⟨rfl, rfl, by decide, by decide⟩ (fun _ _ _ _ h => h) (fun _ _ _ => trivial) rfl hl.1 rfl (Nat.le_of_ble_eq_true rfl) dX9_name_14 ⟨by decide, by decide⟩) ?_
    refine lv_if_eq (tgt := 27) hx hb dX9_name_17 (by decide) (fun c_17 => ?_) (fun c_17 => ?_)
    · skip
      have c_17 := bB_0.mp c_17
      refine lv_iconst (v := 0) hx hb dX9_name_27 (by decide) ?_
      subst hQ
      exact x_zretW E hr hlk (by decide) hw (by decide) (by decide) (addA (rfl) (cw_post (by first | (simp [mNameW, fdB_none hn7]; done) | simp [mNameW, hIj, nI_clamp (n := j) (by omega), hi7, c_17]) ⟨nw, nb, nc, nm, hC⟩)) dX9_name_28
    · skip
      have c_17 := bB_n0.mp c_17
      refine lv_aload_n hx hb dX9_name_20 rfl (lv_at hl 0 rfl) ?_
      refine x_get E hw 6 j (by omega) hcc cl_1 ly_1 8 (by decide) tw_244 rfl dX9_name_21 ?_
      refine lv_if_eq (tgt := 29) hx hb dX9_name_24 (by decide) (fun c_24 => ?_) (fun c_24 => ?_)
      · skip
        refine lv_aload_n hx hb dX9_name_29 rfl (lv_at hl 0 rfl) ?_
        refine lv_iload_n hx hb dX9_name_30 rfl (lv_at hl 3 rfl) ?_
        refine x_put E hw 6 j (by omega) hcc cl_1 ly_1 tyX1 tyX1_ok nmX1 8 (by decide) tw_244 (Or.inl rfl) (by rfl) (by rfl) (Nat.le_of_ble_eq_true rfl) dX9_name_31 (fun H locs hw => ?_)
        generalize hct1 : upd2 ct 6 j (.inr (1, [.int (g 9 j), .int (g 10 j), .int (g 11 j), .ref (ad 7 j), .int (g 14 j), .int (g 15 j), va_rf (Option.map (ad 8) ((ix j)[0]?)), .int (nI (mCnt g (nI j) nm)), .int (g 16 j), .int (ak j)].set 8 (.int a2))) = ct1 at hw
        have fa1 : ct1 0 0 = .inr (9, [.int (nI nw), .int (nI nb), .int (nI nc), .int (nI nm), .int (v 4), .int (v 5), .ref (ad 1 0), .ref (ad 2 0), .ref (ad 3 0), .ref (ad 11 tp), .ref (ad 11 (1 - tp)), .ref (ad 13 0)]) := by rw [← hct1, upd2_k _ _ _ _ (by decide)]; exact fz0
        have fa2 : ct1 1 0 = .inl (ca 3, 50, aQ fB) := by rw [← hct1, upd2_k _ _ _ _ (by decide)]; exact fz1
        have fa3 : ct1 2 0 = .inl (ca 4, 60, aQ fC) := by rw [← hct1, upd2_k _ _ _ _ (by decide)]; exact fz2
        have fa4 : ct1 3 0 = .inl (ca 5, 13, aQ fN) := by rw [← hct1, upd2_k _ _ _ _ (by decide)]; exact fz3
        have fa5 : ct1 11 tp = .inr (8, [.ref (ad 12 tp), .int (nI szq)]) := by rw [← hct1, upd2_k _ _ _ _ (by decide)]; exact fz11
        have fa6 : ct1 6 j = .inr (1, [.int (g 9 j), .int (g 10 j), .int (g 11 j), .ref (ad 7 j), .int (g 14 j), .int (g 15 j), va_rf (Option.map (ad 8) ((ix j)[0]?)), .int (nI (mCnt g (nI j) nm)), .int a2, .int (ak j)]) := by rw [← hct1, upd2_at]; try rfl
        have fa7 : ct1 7 j = .inr (3, [.int (g 12 j), .int (g 13 j)]) := by rw [← hct1, upd2_k _ _ _ _ (by decide)]; exact hhc
        refine lv_iconst (v := 1) hx hb dX9_name_34 (by decide) ?_
        subst hQ
        exact x_zretW E hr hlk (by decide) hw (by decide) (by decide) (addA (rfl) (cw_post (v' := v) (g' := upd2 g 16 j a2) (by simp [mNameW, hIj, nI_clamp (n := j) (by omega), hi7, c_17, c_24]) ⟨nw, nb, nc, nm, hO, mIv_g (fun _ => upd2_k _ _ _ _ (by decide)) (fun _ => upd2_k _ _ _ _ (by decide)) (fun _ => upd2_k _ _ _ _ (by decide)) (fun _ => upd2_k _ _ _ _ (by decide)) (fun _ => upd2_k _ _ _ _ (by decide)) hIv, tp, htp, by rw [← hct1]; exact cX_up (by decide) hX, by rw [← hct1]; exact cT_up (by decide) (cT_g (fun _ => upd2_k _ _ _ _ (by decide)) (fun _ => upd2_k _ _ _ _ (by decide)) hT), by rw [← hct1]; exact cB_up (by decide) (cB_g (fun _ => upd2_k _ _ _ _ (by decide)) (fun _ => upd2_k _ _ _ _ (by decide)) hB), by rw [← hct1]; have q9 := cC_set6 (g' := upd2 g 16 j a2) (ak0 := ak j) hc6 hc7 fz2 hCd hj (fun k hk i => by rcases hk with rfl | rfl | rfl | rfl | rfl | rfl | rfl | rfl | rfl | rfl | rfl <;> exact upd2_k _ _ _ _ (by decide)) (fun i hi => upd2_i _ _ _ hi) (fun i w _ _ => upd2_k _ _ _ _ (by decide)) (fun w hw => by rw [upd2_k _ _ _ _ (by decide)]; exact hak w hw); rw [upd2_at] at q9; exact q9, by rw [← hct1]; exact cN_up (by decide) (cN_g (fun _ => upd2_k _ _ _ _ (by decide)) (fun _ => upd2_k _ _ _ _ (by decide)) hN)⟩)) dX9_name_35
      · skip
        refine lv_iconst (v := 0) hx hb dX9_name_27 (by decide) ?_
        subst hQ
        exact x_zretW E hr hlk (by decide) hw (by decide) (by decide) (addA (rfl) (cw_post (by first | (simp [mNameW, fdB_none hn7]; done) | simp [mNameW, hIj, nI_clamp (n := j) (by omega), hi7, c_17, c_24]) ⟨nw, nb, nc, nm, hC⟩)) dX9_name_28
