set_option maxHeartbeats 4000000 in
set_option maxRecDepth 100000 in
theorem kX4_init_n (l : Launch) (D : va_G) (ca : Nat → ClassId) (cnt : Nat → Nat) (ad : Nat → Nat → Nat) (ct : Nat → Nat → va_E) (z9 : Nat) (i9 : Nat) (a1 : Int32) (hki : i9 < cnt 10) (hkc : ct 10 i9 = .inr (4, [.int 0, .null])) : Met l yX4_init (wz yX4_init cX4_init 3 none) (rmL 2 0 0) (va_Pc [.ref (ad 10 i9), .int a1, .null] (fun U => (U.heap.size = z9 ∧ wq D cnt ad ct U.heap) ∧ gK D ca U)) (QcW D (wA cnt ad z9) (fun rv u => rv = none ∧ u = (cnt, ad, upd2 ct 10 i9 (.inr (4, [.int a1, va_rf none]))))) 0 0 (wA cnt ad z9) := by
  refine x_met (by decide) (Nat.le_of_ble_eq_true rfl) ?_
  intro p e s m below meth c E hr hlk hnm hq ls hl
  obtain ⟨hsz9, hq⟩ := hq
  subst hsz9
  generalize hav : ([.ref (ad 10 i9), .int a1, .null] : List Value).toArray = args at E ⊢
  have hx := E.1
  have hb := E.2.1
  have hown := E.2.2.2.1
  have hts := E.2.2.2.2.1
  have hw : wd D (wA cnt ad s.heap.size) s.heap cnt ad ct s.heap [] := wd.start hq
  generalize hQ : MQ below (QcW D (wA cnt ad s.heap.size) (fun rv u => rv = none ∧ u = (cnt, ad, upd2 ct 10 i9 (.inr (4, [.int a1, va_rf none]))))) args s 0 0 (wA cnt ad s.heap.size) = Q
  generalize hA9 : wA cnt ad s.heap.size = A at hw hQ
  have hl : lv_has ls 3 [(0, .ref (ad 10 i9)), (1, .int a1), (2, .null)] := hl
  suffices hgo : ∀ (H : Heap) (locs : List Loc), wd D A s.heap cnt ad ct H locs → W p l e (rmL 2 0 0) s m args below meth c H locs 0 0 Q (F0 m 0 ls []) from hgo _ _ hw
  clear hw
  intro H locs hw
  refine lv_aload_n hx hb dX4_init_0 rfl (lv_at hl 0 rfl) ?_
  refine W.objInit hx hb hown (hts _ tw_326) (hts _ tw_20) (hts _ tw_21) rfl (hl.1.trans E.2.2.1.symm) rfl dX4_init_1 (by decide) (Nat.le_of_ble_eq_true rfl) ?_
  refine W.eq (g2 := F0 m 4 ls []) rfl ?_
  refine lv_aload_n hx hb dX4_init_4 rfl (lv_at hl 0 rfl) ?_
  refine lv_iload_n hx hb dX4_init_5 rfl (lv_at hl 1 rfl) ?_
  refine x_put E hw 10 i9 (hki) hkc cl_4 ly_4 tyX4 tyX4_ok nmX4 0 (by decide) tw_327 (Or.inr ⟨rfl, hnm, rfl⟩) (by rfl) (by rfl) (Nat.le_of_ble_eq_true rfl) dX4_init_6 (fun H locs hw => ?_)
  generalize hct1 : upd2 ct 10 i9 (.inr (4, [.int 0, .null].set 0 (.int a1))) = ct1 at hw
  have fa1 : ct1 10 i9 = .inr (4, [.int a1, .null]) := by rw [← hct1, upd2_at]; try rfl
  refine lv_aload_n hx hb dX4_init_9 rfl (lv_at hl 0 rfl) ?_
  refine lv_aload_nN hx hb dX4_init_10 rfl (lv_at hl 2 rfl) ?_
  refine x_put E hw 10 i9 (hki) fa1 cl_4 ly_4 tyX4 tyX4_ok nmX4 1 (by decide) tw_329 (Or.inr ⟨rfl, hnm, rfl⟩) (by rfl) (by rfl) (Nat.le_of_ble_eq_true rfl) dX4_init_11 (fun H locs hw => ?_)
  generalize hct2 : upd2 ct1 10 i9 (.inr (4, [.int a1, .null].set 1 (.null))) = ct2 at hw
  have fa2 : ct2 10 i9 = .inr (4, [.int a1, .null]) := by rw [← hct2, upd2_at]; try rfl
  subst hQ
  exact x_vretW E hr hlk hw (by decide) (by decide) (⟨rfl, by rw [← hct2, ← hct1, upd2_2]; rfl⟩) dX4_init_14
set_option maxHeartbeats 4000000 in
set_option maxRecDepth 100000 in
theorem kX4_init_s (l : Launch) (D : va_G) (ca : Nat → ClassId) (cnt : Nat → Nat) (ad : Nat → Nat → Nat) (ct : Nat → Nat → va_E) (z9 : Nat) (i9 : Nat) (a1 : Int32) (q9 : Nat) (hki : i9 < cnt 10) (hkc : ct 10 i9 = .inr (4, [.int 0, .null])) : Met l yX4_init (wz yX4_init cX4_init 3 none) (rmL 2 0 0) (va_Pc [.ref (ad 10 i9), .int a1, .ref q9] (fun U => (U.heap.size = z9 ∧ wq D cnt ad ct U.heap) ∧ gK D ca U)) (QcW D (wA cnt ad z9) (fun rv u => rv = none ∧ u = (cnt, ad, upd2 ct 10 i9 (.inr (4, [.int a1, va_rf (some q9)]))))) 0 0 (wA cnt ad z9) := by
  refine x_met (by decide) (Nat.le_of_ble_eq_true rfl) ?_
  intro p e s m below meth c E hr hlk hnm hq ls hl
  obtain ⟨hsz9, hq⟩ := hq
  subst hsz9
  generalize hav : ([.ref (ad 10 i9), .int a1, .ref q9] : List Value).toArray = args at E ⊢
  have hx := E.1
  have hb := E.2.1
  have hown := E.2.2.2.1
  have hts := E.2.2.2.2.1
  have hw : wd D (wA cnt ad s.heap.size) s.heap cnt ad ct s.heap [] := wd.start hq
  generalize hQ : MQ below (QcW D (wA cnt ad s.heap.size) (fun rv u => rv = none ∧ u = (cnt, ad, upd2 ct 10 i9 (.inr (4, [.int a1, va_rf (some q9)]))))) args s 0 0 (wA cnt ad s.heap.size) = Q
  generalize hA9 : wA cnt ad s.heap.size = A at hw hQ
  have hl : lv_has ls 3 [(0, .ref (ad 10 i9)), (1, .int a1), (2, .ref q9)] := hl
  suffices hgo : ∀ (H : Heap) (locs : List Loc), wd D A s.heap cnt ad ct H locs → W p l e (rmL 2 0 0) s m args below meth c H locs 0 0 Q (F0 m 0 ls []) from hgo _ _ hw
  clear hw
  intro H locs hw
  refine lv_aload_n hx hb dX4_init_0 rfl (lv_at hl 0 rfl) ?_
  refine W.objInit hx hb hown (hts _ tw_326) (hts _ tw_20) (hts _ tw_21) rfl (hl.1.trans E.2.2.1.symm) rfl dX4_init_1 (by decide) (Nat.le_of_ble_eq_true rfl) ?_
  refine W.eq (g2 := F0 m 4 ls []) rfl ?_
  refine lv_aload_n hx hb dX4_init_4 rfl (lv_at hl 0 rfl) ?_
  refine lv_iload_n hx hb dX4_init_5 rfl (lv_at hl 1 rfl) ?_
  refine x_put E hw 10 i9 (hki) hkc cl_4 ly_4 tyX4 tyX4_ok nmX4 0 (by decide) tw_327 (Or.inr ⟨rfl, hnm, rfl⟩) (by rfl) (by rfl) (Nat.le_of_ble_eq_true rfl) dX4_init_6 (fun H locs hw => ?_)
  generalize hct1 : upd2 ct 10 i9 (.inr (4, [.int 0, .null].set 0 (.int a1))) = ct1 at hw
  have fa1 : ct1 10 i9 = .inr (4, [.int a1, .null]) := by rw [← hct1, upd2_at]; try rfl
  refine lv_aload_n hx hb dX4_init_9 rfl (lv_at hl 0 rfl) ?_
  refine lv_aload_n hx hb dX4_init_10 rfl (lv_at hl 2 rfl) ?_
  refine x_put E hw 10 i9 (hki) fa1 cl_4 ly_4 tyX4 tyX4_ok nmX4 1 (by decide) tw_329 (Or.inr ⟨rfl, hnm, rfl⟩) (by rfl) (by rfl) (Nat.le_of_ble_eq_true rfl) dX4_init_11 (fun H locs hw => ?_)
  generalize hct2 : upd2 ct1 10 i9 (.inr (4, [.int a1, .null].set 1 (.ref q9))) = ct2 at hw
  have fa2 : ct2 10 i9 = .inr (4, [.int a1, .ref q9]) := by rw [← hct2, upd2_at]; try rfl
  subst hQ
  exact x_vretW E hr hlk hw (by decide) (by decide) (⟨rfl, by rw [← hct2, ← hct1, upd2_2]; rfl⟩) dX4_init_14

theorem kX4_init (l : Launch) (D : va_G) (ca : Nat → ClassId) (cnt : Nat → Nat) (ad : Nat → Nat → Nat) (ct : Nat → Nat → va_E) (z9 : Nat) (i9 : Nat) (a1 : Int32) (o9 : Option Nat) (hki : i9 < cnt 10) (hkc : ct 10 i9 = .inr (4, [.int 0, .null])) : Met l yX4_init (wz yX4_init cX4_init 3 none) (rmL 2 0 0) (va_Pc [.ref (ad 10 i9), .int a1, va_rf o9] (fun U => (U.heap.size = z9 ∧ wq D cnt ad ct U.heap) ∧ gK D ca U)) (QcW D (wA cnt ad z9) (fun rv u => rv = none ∧ u = (cnt, ad, upd2 ct 10 i9 (.inr (4, [.int a1, va_rf o9]))))) 0 0 (wA cnt ad z9) := by
  cases o9 with
  | none => exact kX4_init_n l D ca cnt ad ct z9 i9 a1 hki hkc
  | some q9 => exact kX4_init_s l D ca cnt ad ct z9 i9 a1 q9 hki hkc
set_option maxHeartbeats 4000000 in
set_option maxRecDepth 100000 in
theorem kX9_look (l : Launch) (D : va_G) (ca : Nat → ClassId) (cnt : Nat → Nat) (ad : Nat → Nat → Nat) (ct : Nat → Nat → va_E) (z9 : Nat) (v : Nat → Int32) (g : Nat → Nat → Int32) (nw : Nat) (nb : Nat) (nc : Nat) (nm : Nat) (a1 : Int32) (hC : cRep ca cnt ad ct v g nw nb nc nm) : Met l yX9_look (wz yX9_look cX9_look 3 (some .boolean)) (rmL 3 1 2) (va_Pc [.ref (ad 0 0), .int a1] (fun U => (U.heap.size = z9 ∧ wq D cnt ad ct U.heap) ∧ gK D ca U)) (QcW D (wA cnt ad z9) (fun rv u => rv = some (.int (mLookW v g nw a1).1) ∧ cRepE ca u.1 u.2.1 u.2.2 (mLookW v g nw a1).2.1 (mLookW v g nw a1).2.2 ∧ u.2.1 0 0 = ad 0 0)) 1 2 (wA cnt ad z9) := by
  refine x_met (by decide) (Nat.le_of_ble_eq_true rfl) ?_
  intro p e s m below meth c E hr hlk hnm hq ls hl
  obtain ⟨hsz9, hq⟩ := hq
  subst hsz9
  generalize hav : ([.ref (ad 0 0), .int a1] : List Value).toArray = args at E ⊢
  have hx := E.1
  have hb := E.2.1
  have hown := E.2.2.2.1
  have hts := E.2.2.2.2.1
  have hw : wd D (wA cnt ad s.heap.size) s.heap cnt ad ct s.heap [] := wd.start hq
  generalize hQ : MQ below (QcW D (wA cnt ad s.heap.size) (fun rv u => rv = some (.int (mLookW v g nw a1).1) ∧ cRepE ca u.1 u.2.1 u.2.2 (mLookW v g nw a1).2.1 (mLookW v g nw a1).2.2 ∧ u.2.1 0 0 = ad 0 0)) args s 1 2 (wA cnt ad s.heap.size) = Q
  generalize hA9 : wA cnt ad s.heap.size = A at hw hQ
  have hl : lv_has ls 3 [(0, .ref (ad 0 0)), (1, .int a1)] := hl
  obtain ⟨hO, hIv, tp, htp, hX, hT, hB, hCc, hN⟩ := id hC
  obtain ⟨hx0, hx1, hx2, hx3, fz0⟩ := id hX
  have hO5 := hO.2.2.2.2
  obtain ⟨hb4, hb5, fB, fz1, hBd⟩ := id hB
  obtain ⟨hc6, hc7, fC, dt, ow, ix, ak, fz2, hCd⟩ := id hCc
  obtain ⟨hn9, fN, lk, fz3, hNd⟩ := id hN
  obtain ⟨ht13, ht14, ht11, ht12, szq, nq, nrq, rtq, bq0, bq1, vsq, pq1, pq2, hsz, hsz2, hnq, hnr, hrt, fz11, fz11b, fz12, fz12b, fz13, fz14, hby, hrl⟩ := id hT
  suffices hgo : ∀ (H : Heap) (locs : List Loc), wd D A s.heap cnt ad ct H locs → W p l e (rmL 3 1 2) s m args below meth c H locs 0 0 Q (F0 m 0 ls []) from hgo _ _ hw
  clear hw
  intro H locs hw
  refine lv_aload_n hx hb dX9_look_0 rfl (lv_at hl 0 rfl) ?_
  refine lv_iload_n hx hb dX9_look_1 rfl (lv_at hl 1 rfl) ?_
  refine x_readq (x_runV (rest := []) E cbX9_findNurse tw_272 (kX9_findNurse l D ca cnt ad ct v g nw nb nc nm   a1 (hC)) ⟨rfl, rfl, by decide, by decide⟩ (x_recv E hw cl_9 (hx0) fz0) (fun _ _ _ _ h => h) (fun U hU _ => by rw [hU]; exact hw.1) rfl hl.1 rfl (Nat.le_of_ble_eq_true rfl) dX9_look_2 ⟨by decide, by decide⟩) ?_
  refine x_astore_nQ (lv' := [(2, va_rf (Option.map (ad 9) (fdN a1))), (0, .ref (ad 0 0)), (1, .int a1)]) hx hb dX9_look_5 rfl hl (by decide) rfl (fun ls hl => ?_)
  refine x_aload_nQ hx hb dX9_look_6 rfl (lv_at hl 0 rfl) ?_
  rcases x_opt (fdN a1) with hn7 | ⟨i, hi7⟩
  · skip
    rw [hn7]
    rw [hn7] at hl
    have hl : lv_has ls 3 [(2, .null), (0, .ref (ad 0 0)), (1, .int a1)] := hl
    refine lv_ifnullN (tgt := 31) hx hb dX9_look_7 (by decide) ?_
    refine lv_iconst (v := 0) hx hb dX9_look_31 (by decide) ?_
    subst hQ
    exact x_zretW E hr hlk (by decide) hw (by decide) (by decide) (addA (rfl) (cw_post (by simp [mLookW, fdN_none hn7]) ⟨nw, nb, nc, nm, hC⟩)) dX9_look_32
  · skip
    rw [hi7]
    rw [hi7] at hl
    have hl : lv_has ls 3 [(2, .ref (ad 9 i)), (0, .ref (ad 0 0)), (1, .int a1)] := hl
    refine lv_ifnull hx hb dX9_look_7 ?_
    obtain ⟨hi12, rfl, hIn⟩ := fdN_some hi7
    obtain ⟨hfn, hnc, lln, hlln, hlkn⟩ := hNd i hi12
    refine lv_aload_n hx hb dX9_look_10 rfl (lv_at hl 0 rfl) ?_
    refine x_get E hw 9 i (by omega) hnc cl_6 ly_6 1 (by decide) tw_74 rfl dX9_look_11 ?_
    rcases x_opt (lk i) with hn14 | ⟨j, hi14⟩
    · skip
      rw [hn14]
      refine lv_ifnullN (tgt := 33) hx hb dX9_look_14 (by decide) ?_
      have hl9 := hlln
      rw [hn14] at hl9
      have hc_no := lk_no hlkn hO5.1 (by rw [lks_none hl9]; simp)
      refine lv_aload_n hx hb dX9_look_33 rfl (lv_at hl 0 rfl) ?_
      refine x_new (fs := [.int 0, .null]) E hw 10 cl_4 ly_4 tyX4 tyX4_ok tw_321 tw_322 tw_11 df_4 (by decide) (by decide) dX9_look_34 (fun q9 H hw => ?_)
      generalize hix1 : cnt 10 = i1 at hw
      generalize hcn1 : va_up cnt 10 (i1 + 1) = cnt1 at hw
      generalize han1 : upd2 ad 10 i1 q9 = ad1 at hw
      generalize hct1 : upd2 ct 10 i1 (.inr (4, [.int 0, .null])) = ct1 at hw
      have hqq1 : q9 = ad1 10 i1 := by rw [← han1, upd2_at]
      subst hqq1
      have hcn1_0 : cnt1 0 = cnt 0 := by rw [← hcn1, va_up_ne _ _ (by decide)]
      have hcn1_1 : cnt1 1 = cnt 1 := by rw [← hcn1, va_up_ne _ _ (by decide)]
      have hcn1_2 : cnt1 2 = cnt 2 := by rw [← hcn1, va_up_ne _ _ (by decide)]
      have hcn1_3 : cnt1 3 = cnt 3 := by rw [← hcn1, va_up_ne _ _ (by decide)]
      have hcn1_4 : cnt1 4 = cnt 4 := by rw [← hcn1, va_up_ne _ _ (by decide)]
      have hcn1_5 : cnt1 5 = cnt 5 := by rw [← hcn1, va_up_ne _ _ (by decide)]
      have hcn1_6 : cnt1 6 = cnt 6 := by rw [← hcn1, va_up_ne _ _ (by decide)]
      have hcn1_7 : cnt1 7 = cnt 7 := by rw [← hcn1, va_up_ne _ _ (by decide)]
      have hcn1_8 : cnt1 8 = cnt 8 := by rw [← hcn1, va_up_ne _ _ (by decide)]
      have hcn1_9 : cnt1 9 = cnt 9 := by rw [← hcn1, va_up_ne _ _ (by decide)]
      have hcn1_10 : cnt1 10 = cnt 10 + 1 := by rw [← hcn1, va_up_self, hix1]
      have hcn1_11 : cnt1 11 = cnt 11 := by rw [← hcn1, va_up_ne _ _ (by decide)]
      have hcn1_12 : cnt1 12 = cnt 12 := by rw [← hcn1, va_up_ne _ _ (by decide)]
      have hcn1_13 : cnt1 13 = cnt 13 := by rw [← hcn1, va_up_ne _ _ (by decide)]
      have hcn1_14 : cnt1 14 = cnt 14 := by rw [← hcn1, va_up_ne _ _ (by decide)]
      have hcn1_15 : cnt1 15 = cnt 15 := by rw [← hcn1, va_up_ne _ _ (by decide)]
      have hcn1_16 : cnt1 16 = cnt 16 := by rw [← hcn1, va_up_ne _ _ (by decide)]
      have hcn1_17 : cnt1 17 = cnt 17 := by rw [← hcn1, va_up_ne _ _ (by decide)]
      have hag1 : ∀ k i, i < cnt k → ad k i = ad1 k i := fun k i hi => by rw [← han1]; by_cases hk : k = 10; subst hk; exact (upd2_i _ _ _ (by omega)).symm; exact (upd2_k _ _ _ _ hk).symm
      have hcg1 : ∀ k i, i < cnt k → ct1 k i = ct k i := fun k i hi => by rw [← hct1]; by_cases hk : k = 10; subst hk; exact upd2_i _ _ _ (by omega); exact upd2_k _ _ _ _ hk
      have hle1 : ∀ k, cnt k ≤ cnt1 k := fun k => by rw [← hcn1]; by_cases hk : k = 10; subst hk; rw [va_up_self]; omega; rw [va_up_ne _ _ hk]; exact Nat.le_refl _
      have fa1 : ct1 0 0 = .inr (9, [.int (nI nw), .int (nI nb), .int (nI nc), .int (nI nm), .int (v 4), .int (v 5), .ref (ad 1 0), .ref (ad 2 0), .ref (ad 3 0), .ref (ad 11 tp), .ref (ad 11 (1 - tp)), .ref (ad 13 0)]) := by rw [hcg1 0 0 (hx0)]; exact fz0
      have fa2 : ct1 1 0 = .inl (ca 3, 50, aQ fB) := by rw [hcg1 1 0 (hx1)]; exact fz1
      have fa3 : ct1 2 0 = .inl (ca 4, 60, aQ fC) := by rw [hcg1 2 0 (hx2)]; exact fz2
      have fa4 : ct1 3 0 = .inl (ca 5, 13, aQ fN) := by rw [hcg1 3 0 (hx3)]; exact fz3
      have fa5 : ct1 11 tp = .inr (8, [.ref (ad 12 tp), .int (nI szq)]) := by rw [hcg1 11 tp (by omega)]; exact fz11
      have fa6 : ct1 9 i = .inr (6, [.int (g 22 (i + 1)), va_rf (Option.map (ad 10) (lk i))]) := by rw [hcg1 9 i (by omega)]; exact hnc
      have fa7 : ct1 10 i1 = .inr (4, [.int 0, .null]) := by rw [← hct1, upd2_at]
      have hin1 : i1 < cnt1 10 := by omega
      refine lv_dup hx hb dX9_look_37 rfl ?_
      refine lv_aload_n hx hb dX9_look_38 rfl (lv_at hl 1 rfl) ?_
      have ev39_0 : ad 9 i = ad1 9 i := hag1 9 i (by omega)
      have ev39_1 : ad 0 0 = ad1 0 0 := hag1 0 0 (by omega)
      refine W.eq (g2 := F0 m 39 ls [.ref (ad1 0 0), .ref (ad1 10 i1), .ref (ad1 10 i1), .ref (ad1 9 i)]) (by rw [ev39_0, ev39_1]) ?_
      refine x_get E hw 0 0 (Nat.lt_of_lt_of_le (hx0) (hle1 _)) fa1 cl_9 ly_9 0 (by decide) tw_80 rfl dX9_look_39 ?_
      refine lv_aload_n hx hb dX9_look_42 rfl (lv_at hl 0 rfl) ?_
      have ev43_0 : ad 9 i = ad1 9 i := hag1 9 i (by omega)
      refine W.eq (g2 := F0 m 43 ls [.ref (ad1 9 i), .int (nI nw), .ref (ad1 10 i1), .ref (ad1 10 i1), .ref (ad1 9 i)]) (by rw [ev43_0]) ?_
      refine x_get E hw 9 i (by omega) fa6 cl_6 ly_6 1 (by decide) tw_74 rfl dX9_look_43 ?_
      refine x_wrote hw (x_runI (rest := [.ref (ad1 10 i1), .ref (ad1 9 i)]) E cbX4_init tw_323 (kX4_init l D ca cnt1 ad1 ct1 H.size  i1  (nI nw) (Option.map (ad 10) (lk i)) (hin1) (fa7)) ⟨rfl, rfl, by decide, by decide⟩ (fun _ _ _ _ h => h) (fun U hU _ => by rw [hU]; exact ⟨rfl, hw.1⟩) rfl hl.1 rfl (Nat.le_of_ble_eq_true rfl) dX9_look_46 ⟨by decide, by decide⟩) (fun rv9 u9 H locs hp9 hw hz9 hk9 => ?_)
      obtain ⟨hrv9, hu9⟩ := hp9
      subst hrv9
      subst hu9
      dsimp only [Option.toList, List.nil_append] at hw ⊢
      generalize hct2 : upd2 ct1 10 i1 (.inr (4, [.int (nI nw), va_rf (Option.map (ad 10) (lk i))])) = ct2 at hw
      have fa8 : ct2 0 0 = .inr (9, [.int (nI nw), .int (nI nb), .int (nI nc), .int (nI nm), .int (v 4), .int (v 5), .ref (ad 1 0), .ref (ad 2 0), .ref (ad 3 0), .ref (ad 11 tp), .ref (ad 11 (1 - tp)), .ref (ad 13 0)]) := by rw [← hct2, upd2_k _ _ _ _ (by decide)]; exact fa1
      have fa9 : ct2 1 0 = .inl (ca 3, 50, aQ fB) := by rw [← hct2, upd2_k _ _ _ _ (by decide)]; exact fa2
      have fa10 : ct2 2 0 = .inl (ca 4, 60, aQ fC) := by rw [← hct2, upd2_k _ _ _ _ (by decide)]; exact fa3
      have fa11 : ct2 3 0 = .inl (ca 5, 13, aQ fN) := by rw [← hct2, upd2_k _ _ _ _ (by decide)]; exact fa4
      have fa12 : ct2 11 tp = .inr (8, [.ref (ad 12 tp), .int (nI szq)]) := by rw [← hct2, upd2_k _ _ _ _ (by decide)]; exact fa5
      have fa13 : ct2 9 i = .inr (6, [.int (g 22 (i + 1)), va_rf (Option.map (ad 10) (lk i))]) := by rw [← hct2, upd2_k _ _ _ _ (by decide)]; exact fa6
      have fa14 : ct2 10 i1 = .inr (4, [.int (nI nw), va_rf (Option.map (ad 10) (lk i))]) := by rw [← hct2, upd2_at]; try rfl
      refine x_put E hw 9 i (by omega) fa13 cl_6 ly_6 tyX6 tyX6_ok nmX6 1 (by decide) tw_74 (Or.inl rfl) (by rfl) (by rfl) (Nat.le_of_ble_eq_true rfl) dX9_look_49 (fun H locs hw => ?_)
      generalize hct3 : upd2 ct2 9 i (.inr (6, [.int (g 22 (i + 1)), va_rf (Option.map (ad 10) (lk i))].set 1 (.ref (ad1 10 i1)))) = ct3 at hw
      have fa15 : ct3 0 0 = .inr (9, [.int (nI nw), .int (nI nb), .int (nI nc), .int (nI nm), .int (v 4), .int (v 5), .ref (ad 1 0), .ref (ad 2 0), .ref (ad 3 0), .ref (ad 11 tp), .ref (ad 11 (1 - tp)), .ref (ad 13 0)]) := by rw [← hct3, upd2_k _ _ _ _ (by decide)]; exact fa8
      have fa16 : ct3 1 0 = .inl (ca 3, 50, aQ fB) := by rw [← hct3, upd2_k _ _ _ _ (by decide)]; exact fa9
      have fa17 : ct3 2 0 = .inl (ca 4, 60, aQ fC) := by rw [← hct3, upd2_k _ _ _ _ (by decide)]; exact fa10
      have fa18 : ct3 3 0 = .inl (ca 5, 13, aQ fN) := by rw [← hct3, upd2_k _ _ _ _ (by decide)]; exact fa11
      have fa19 : ct3 11 tp = .inr (8, [.ref (ad 12 tp), .int (nI szq)]) := by rw [← hct3, upd2_k _ _ _ _ (by decide)]; exact fa12
      have fa20 : ct3 9 i = .inr (6, [.int (g 22 (i + 1)), .ref (ad1 10 i1)]) := by rw [← hct3, upd2_at]; try rfl
      have fa21 : ct3 10 i1 = .inr (4, [.int (nI nw), va_rf (Option.map (ad 10) (lk i))]) := by rw [← hct3, upd2_k _ _ _ _ (by decide)]; exact fa14
      refine lv_aload_n hx hb dX9_look_52 rfl (lv_at hl 1 rfl) ?_
      refine lv_dup hx hb dX9_look_53 rfl ?_
      have ev54_0 : ad 0 0 = ad1 0 0 := hag1 0 0 (by omega)
      refine W.eq (g2 := F0 m 54 ls [.ref (ad1 0 0), .ref (ad1 0 0)]) (by rw [ev54_0]) ?_
      refine x_get E hw 0 0 (Nat.lt_of_lt_of_le (hx0) (hle1 _)) fa15 cl_9 ly_9 4 (by decide) tw_84 rfl dX9_look_54 ?_
      refine lv_iconst (v := 1) hx hb dX9_look_57 (by decide) ?_
      refine lv_iadd hx hb dX9_look_58 ?_
      refine x_put E hw 0 0 (Nat.lt_of_lt_of_le (hx0) (hle1 _)) fa15 cl_9 ly_9 tyX9 tyX9_ok nmX9 4 (by decide) tw_84 (Or.inl rfl) (by rfl) (by rfl) (Nat.le_of_ble_eq_true rfl) dX9_look_59 (fun H locs hw => ?_)
      generalize hct4 : upd2 ct3 0 0 (.inr (9, [.int (nI nw), .int (nI nb), .int (nI nc), .int (nI nm), .int (v 4), .int (v 5), .ref (ad 1 0), .ref (ad 2 0), .ref (ad 3 0), .ref (ad 11 tp), .ref (ad 11 (1 - tp)), .ref (ad 13 0)].set 4 (.int (v 4 + 1)))) = ct4 at hw
      have fa22 : ct4 0 0 = .inr (9, [.int (nI nw), .int (nI nb), .int (nI nc), .int (nI nm), .int (v 4 + 1), .int (v 5), .ref (ad 1 0), .ref (ad 2 0), .ref (ad 3 0), .ref (ad 11 tp), .ref (ad 11 (1 - tp)), .ref (ad 13 0)]) := by rw [← hct4, upd2_at]; try rfl
      have fa23 : ct4 1 0 = .inl (ca 3, 50, aQ fB) := by rw [← hct4, upd2_k _ _ _ _ (by decide)]; exact fa16
      have fa24 : ct4 2 0 = .inl (ca 4, 60, aQ fC) := by rw [← hct4, upd2_k _ _ _ _ (by decide)]; exact fa17
      have fa25 : ct4 3 0 = .inl (ca 5, 13, aQ fN) := by rw [← hct4, upd2_k _ _ _ _ (by decide)]; exact fa18
      have fa26 : ct4 11 tp = .inr (8, [.ref (ad 12 tp), .int (nI szq)]) := by rw [← hct4, upd2_k _ _ _ _ (by decide)]; exact fa19
      have fa27 : ct4 9 i = .inr (6, [.int (g 22 (i + 1)), .ref (ad1 10 i1)]) := by rw [← hct4, upd2_k _ _ _ _ (by decide)]; exact fa20
      have fa28 : ct4 10 i1 = .inr (4, [.int (nI nw), va_rf (Option.map (ad 10) (lk i))]) := by rw [← hct4, upd2_k _ _ _ _ (by decide)]; exact fa21
      refine lv_iconst (v := 1) hx hb dX9_look_62 (by decide) ?_
      subst hQ
      exact x_zretW E hr hlk (by decide) hw (by decide) (by decide) (addA ((hag1 0 0 (by omega)).symm) (by have hcg2 : ∀ k i, i < cnt k → ct2 k i = ct k i := (by rw [← hct2]; exact agr_up (by omega) hcg1); exact cw_post (v' := upd v 4 (v 4 + 1)) (g' := upd2 g 23 (2001 * (i + 1) + nw) 1) (by simp [mLookW, hIn, nI_clamp (n := i + 1) (by omega), hc_no]) ⟨nw, nb, nc, nm, ⟨by rw [upd_ne _ _ (by decide)]; exact hO.1, by rw [upd_ne _ _ (by decide)]; exact hO.2.1, by rw [upd_ne _ _ (by decide)]; exact hO.2.2.1, by rw [upd_ne _ _ (by decide)]; exact hO.2.2.2.1, hO5⟩, mIv_g (fun _ => upd2_k _ _ _ _ (by decide)) (fun _ => upd2_k _ _ _ _ (by decide)) (fun _ => upd2_k _ _ _ _ (by decide)) (fun _ => upd2_k _ _ _ _ (by decide)) (fun _ => upd2_k _ _ _ _ (by decide)) hIv, tp, htp, cX_new htp ht11 ht13 hle1 hag1 hX (by rw [upd_at, upd_ne _ _ (by decide)]; exact fa22), cT_v (v := v) (by rw [upd_ne _ _ (by decide)]) (by rw [upd_ne _ _ (by decide)]) (by rw [← hct4, ← hct3]; exact cT_up (by decide) (cT_up (by decide) (cT_ext htp hle1 hag1 hcg2 (cT_g (fun _ => upd2_k _ _ _ _ (by decide)) (fun _ => upd2_k _ _ _ _ (by decide)) hT)))), by rw [← hct4, ← hct3]; exact cB_up (by decide) (cB_up (by decide) (cB_ext (by omega) (by omega) hx1 hag1 hcg2 (cB_g (fun _ => upd2_k _ _ _ _ (by decide)) (fun _ => upd2_k _ _ _ _ (by decide)) hB))), by rw [← hct4, ← hct3]; exact cC_up (by decide) (cC_up (by decide) (cC_ext (by omega) (by omega) hx2 hle1 hag1 hcg2 (cC_g (fun k hk i => by rcases hk with rfl | rfl | rfl | rfl | rfl | rfl | rfl | rfl | rfl | rfl | rfl | rfl | rfl <;> exact upd2_k _ _ _ _ (by decide)) hCc))), by rw [← hct4, ← hct3]; exact cN_up (by decide) (cN_look (by omega) hx3 hle1 hag1 hcg2 hn9 fz3 hNd hi12 (by omega) (by rw [← hct2, upd2_at]) hc_no hO5.1)⟩)) dX9_look_63
    · skip
      rw [hi14]
      refine lv_ifnull hx hb dX9_look_14 ?_
      have hl9 := hlln
      rw [hi14] at hl9
      obtain ⟨d2, r2, o2, rfl, hjl, hjc, hlr⟩ := lks_some hl9
      refine lv_aload_n hx hb dX9_look_17 rfl (lv_at hl 0 rfl) ?_
      refine x_get E hw 9 i (by omega) hnc cl_6 ly_6 1 (by decide) tw_74 rfl dX9_look_18 ?_
      rw [hi14]
      refine x_get E hw 10 j (hjl) hjc cl_4 ly_4 0 (by decide) tw_328 rfl dX9_look_21 ?_
      refine lv_aload_n hx hb dX9_look_24 rfl (lv_at hl 1 rfl) ?_
      refine x_get E hw 0 0 (hx0) fz0 cl_9 ly_9 0 (by decide) tw_80 rfl dX9_look_25 ?_
      refine lv_icmp_ne (tgt := 33) hx hb dX9_look_28 (by decide) (fun c_28 => ?_) (fun c_28 => ?_)
      · skip
        have hc_no := lk_no hlkn hO5.1 (lk_head hlkn (fun q => c_28 (by rw [q])))
        refine lv_aload_n hx hb dX9_look_33 rfl (lv_at hl 0 rfl) ?_
        refine x_new (fs := [.int 0, .null]) E hw 10 cl_4 ly_4 tyX4 tyX4_ok tw_321 tw_322 tw_11 df_4 (by decide) (by decide) dX9_look_34 (fun q9 H hw => ?_)
        generalize hix1 : cnt 10 = i1 at hw
        generalize hcn1 : va_up cnt 10 (i1 + 1) = cnt1 at hw
        generalize han1 : upd2 ad 10 i1 q9 = ad1 at hw
        generalize hct1 : upd2 ct 10 i1 (.inr (4, [.int 0, .null])) = ct1 at hw
        have hqq1 : q9 = ad1 10 i1 := by rw [← han1, upd2_at]
        subst hqq1
        have hcn1_0 : cnt1 0 = cnt 0 := by rw [← hcn1, va_up_ne _ _ (by decide)]
        have hcn1_1 : cnt1 1 = cnt 1 := by rw [← hcn1, va_up_ne _ _ (by decide)]
        have hcn1_2 : cnt1 2 = cnt 2 := by rw [← hcn1, va_up_ne _ _ (by decide)]
        have hcn1_3 : cnt1 3 = cnt 3 := by rw [← hcn1, va_up_ne _ _ (by decide)]
        have hcn1_4 : cnt1 4 = cnt 4 := by rw [← hcn1, va_up_ne _ _ (by decide)]
        have hcn1_5 : cnt1 5 = cnt 5 := by rw [← hcn1, va_up_ne _ _ (by decide)]
        have hcn1_6 : cnt1 6 = cnt 6 := by rw [← hcn1, va_up_ne _ _ (by decide)]
        have hcn1_7 : cnt1 7 = cnt 7 := by rw [← hcn1, va_up_ne _ _ (by decide)]
        have hcn1_8 : cnt1 8 = cnt 8 := by rw [← hcn1, va_up_ne _ _ (by decide)]
        have hcn1_9 : cnt1 9 = cnt 9 := by rw [← hcn1, va_up_ne _ _ (by decide)]
        have hcn1_10 : cnt1 10 = cnt 10 + 1 := by rw [← hcn1, va_up_self, hix1]
        have hcn1_11 : cnt1 11 = cnt 11 := by rw [← hcn1, va_up_ne _ _ (by decide)]
        have hcn1_12 : cnt1 12 = cnt 12 := by rw [← hcn1, va_up_ne _ _ (by decide)]
        have hcn1_13 : cnt1 13 = cnt 13 := by rw [← hcn1, va_up_ne _ _ (by decide)]
        have hcn1_14 : cnt1 14 = cnt 14 := by rw [← hcn1, va_up_ne _ _ (by decide)]
        have hcn1_15 : cnt1 15 = cnt 15 := by rw [← hcn1, va_up_ne _ _ (by decide)]
        have hcn1_16 : cnt1 16 = cnt 16 := by rw [← hcn1, va_up_ne _ _ (by decide)]
        have hcn1_17 : cnt1 17 = cnt 17 := by rw [← hcn1, va_up_ne _ _ (by decide)]
        have hag1 : ∀ k i, i < cnt k → ad k i = ad1 k i := fun k i hi => by rw [← han1]; by_cases hk : k = 10; subst hk; exact (upd2_i _ _ _ (by omega)).symm; exact (upd2_k _ _ _ _ hk).symm
        have hcg1 : ∀ k i, i < cnt k → ct1 k i = ct k i := fun k i hi => by rw [← hct1]; by_cases hk : k = 10; subst hk; exact upd2_i _ _ _ (by omega); exact upd2_k _ _ _ _ hk
        have hle1 : ∀ k, cnt k ≤ cnt1 k := fun k => by rw [← hcn1]; by_cases hk : k = 10; subst hk; rw [va_up_self]; omega; rw [va_up_ne _ _ hk]; exact Nat.le_refl _
        have fa29 : ct1 0 0 = .inr (9, [.int (nI nw), .int (nI nb), .int (nI nc), .int (nI nm), .int (v 4), .int (v 5), .ref (ad 1 0), .ref (ad 2 0), .ref (ad 3 0), .ref (ad 11 tp), .ref (ad 11 (1 - tp)), .ref (ad 13 0)]) := by rw [hcg1 0 0 (hx0)]; exact fz0
        have fa30 : ct1 1 0 = .inl (ca 3, 50, aQ fB) := by rw [hcg1 1 0 (hx1)]; exact fz1
        have fa31 : ct1 2 0 = .inl (ca 4, 60, aQ fC) := by rw [hcg1 2 0 (hx2)]; exact fz2
        have fa32 : ct1 3 0 = .inl (ca 5, 13, aQ fN) := by rw [hcg1 3 0 (hx3)]; exact fz3
        have fa33 : ct1 11 tp = .inr (8, [.ref (ad 12 tp), .int (nI szq)]) := by rw [hcg1 11 tp (by omega)]; exact fz11
        have fa34 : ct1 9 i = .inr (6, [.int (g 22 (i + 1)), va_rf (Option.map (ad 10) (lk i))]) := by rw [hcg1 9 i (by omega)]; exact hnc
        have fa35 : ct1 10 j = .inr (4, [.int (nI d2), va_rf (Option.map (ad 10) o2)]) := by rw [hcg1 10 j (hjl)]; exact hjc
        have fa36 : ct1 10 i1 = .inr (4, [.int 0, .null]) := by rw [← hct1, upd2_at]
        have hin1 : i1 < cnt1 10 := by omega
        refine lv_dup hx hb dX9_look_37 rfl ?_
        refine lv_aload_n hx hb dX9_look_38 rfl (lv_at hl 1 rfl) ?_
        have ev39_0 : ad 9 i = ad1 9 i := hag1 9 i (by omega)
        have ev39_1 : ad 0 0 = ad1 0 0 := hag1 0 0 (by omega)
        refine W.eq (g2 := F0 m 39 ls [.ref (ad1 0 0), .ref (ad1 10 i1), .ref (ad1 10 i1), .ref (ad1 9 i)]) (by rw [ev39_0, ev39_1]) ?_
        refine x_get E hw 0 0 (Nat.lt_of_lt_of_le (hx0) (hle1 _)) fa29 cl_9 ly_9 0 (by decide) tw_80 rfl dX9_look_39 ?_
        refine lv_aload_n hx hb dX9_look_42 rfl (lv_at hl 0 rfl) ?_
        have ev43_0 : ad 9 i = ad1 9 i := hag1 9 i (by omega)
        refine W.eq (g2 := F0 m 43 ls [.ref (ad1 9 i), .int (nI nw), .ref (ad1 10 i1), .ref (ad1 10 i1), .ref (ad1 9 i)]) (by rw [ev43_0]) ?_
        refine x_get E hw 9 i (by omega) fa34 cl_6 ly_6 1 (by decide) tw_74 rfl dX9_look_43 ?_
        refine x_wrote hw (x_runI (rest := [.ref (ad1 10 i1), .ref (ad1 9 i)]) E cbX4_init tw_323 (kX4_init l D ca cnt1 ad1 ct1 H.size  i1  (nI nw) (Option.map (ad 10) (lk i)) (hin1) (fa36)) ⟨rfl, rfl, by decide, by decide⟩ (fun _ _ _ _ h => h) (fun U hU _ => by rw [hU]; exact ⟨rfl, hw.1⟩) rfl hl.1 rfl (Nat.le_of_ble_eq_true rfl) dX9_look_46 ⟨by decide, by decide⟩) (fun rv9 u9 H locs hp9 hw hz9 hk9 => ?_)
        obtain ⟨hrv9, hu9⟩ := hp9
        subst hrv9
        subst hu9
        dsimp only [Option.toList, List.nil_append] at hw ⊢
        generalize hct2 : upd2 ct1 10 i1 (.inr (4, [.int (nI nw), va_rf (Option.map (ad 10) (lk i))])) = ct2 at hw
        have fa37 : ct2 0 0 = .inr (9, [.int (nI nw), .int (nI nb), .int (nI nc), .int (nI nm), .int (v 4), .int (v 5), .ref (ad 1 0), .ref (ad 2 0), .ref (ad 3 0), .ref (ad 11 tp), .ref (ad 11 (1 - tp)), .ref (ad 13 0)]) := by rw [← hct2, upd2_k _ _ _ _ (by decide)]; exact fa29
        have fa38 : ct2 1 0 = .inl (ca 3, 50, aQ fB) := by rw [← hct2, upd2_k _ _ _ _ (by decide)]; exact fa30
        have fa39 : ct2 2 0 = .inl (ca 4, 60, aQ fC) := by rw [← hct2, upd2_k _ _ _ _ (by decide)]; exact fa31
        have fa40 : ct2 3 0 = .inl (ca 5, 13, aQ fN) := by rw [← hct2, upd2_k _ _ _ _ (by decide)]; exact fa32
        have fa41 : ct2 11 tp = .inr (8, [.ref (ad 12 tp), .int (nI szq)]) := by rw [← hct2, upd2_k _ _ _ _ (by decide)]; exact fa33
        have fa42 : ct2 9 i = .inr (6, [.int (g 22 (i + 1)), va_rf (Option.map (ad 10) (lk i))]) := by rw [← hct2, upd2_k _ _ _ _ (by decide)]; exact fa34
        have fa43 : ct2 10 j = .inr (4, [.int (nI d2), va_rf (Option.map (ad 10) o2)]) := by rw [← hct2, upd2_i _ _ _ (by omega)]; exact fa35
        have fa44 : ct2 10 i1 = .inr (4, [.int (nI nw), va_rf (Option.map (ad 10) (lk i))]) := by rw [← hct2, upd2_at]; try rfl
        refine x_put E hw 9 i (by omega) fa42 cl_6 ly_6 tyX6 tyX6_ok nmX6 1 (by decide) tw_74 (Or.inl rfl) (by rfl) (by rfl) (Nat.le_of_ble_eq_true rfl) dX9_look_49 (fun H locs hw => ?_)
        generalize hct3 : upd2 ct2 9 i (.inr (6, [.int (g 22 (i + 1)), va_rf (Option.map (ad 10) (lk i))].set 1 (.ref (ad1 10 i1)))) = ct3 at hw
        have fa45 : ct3 0 0 = .inr (9, [.int (nI nw), .int (nI nb), .int (nI nc), .int (nI nm), .int (v 4), .int (v 5), .ref (ad 1 0), .ref (ad 2 0), .ref (ad 3 0), .ref (ad 11 tp), .ref (ad 11 (1 - tp)), .ref (ad 13 0)]) := by rw [← hct3, upd2_k _ _ _ _ (by decide)]; exact fa37
        have fa46 : ct3 1 0 = .inl (ca 3, 50, aQ fB) := by rw [← hct3, upd2_k _ _ _ _ (by decide)]; exact fa38
        have fa47 : ct3 2 0 = .inl (ca 4, 60, aQ fC) := by rw [← hct3, upd2_k _ _ _ _ (by decide)]; exact fa39
        have fa48 : ct3 3 0 = .inl (ca 5, 13, aQ fN) := by rw [← hct3, upd2_k _ _ _ _ (by decide)]; exact fa40
        have fa49 : ct3 11 tp = .inr (8, [.ref (ad 12 tp), .int (nI szq)]) := by rw [← hct3, upd2_k _ _ _ _ (by decide)]; exact fa41
        have fa50 : ct3 9 i = .inr (6, [.int (g 22 (i + 1)), .ref (ad1 10 i1)]) := by rw [← hct3, upd2_at]; try rfl
        have fa51 : ct3 10 j = .inr (4, [.int (nI d2), va_rf (Option.map (ad 10) o2)]) := by rw [← hct3, upd2_k _ _ _ _ (by decide)]; exact fa43
        have fa52 : ct3 10 i1 = .inr (4, [.int (nI nw), va_rf (Option.map (ad 10) (lk i))]) := by rw [← hct3, upd2_k _ _ _ _ (by decide)]; exact fa44
        refine lv_aload_n hx hb dX9_look_52 rfl (lv_at hl 1 rfl) ?_
        refine lv_dup hx hb dX9_look_53 rfl ?_
        have ev54_0 : ad 0 0 = ad1 0 0 := hag1 0 0 (by omega)
        refine W.eq (g2 := F0 m 54 ls [.ref (ad1 0 0), .ref (ad1 0 0)]) (by rw [ev54_0]) ?_
        refine x_get E hw 0 0 (Nat.lt_of_lt_of_le (hx0) (hle1 _)) fa45 cl_9 ly_9 4 (by decide) tw_84 rfl dX9_look_54 ?_
        refine lv_iconst (v := 1) hx hb dX9_look_57 (by decide) ?_
        refine lv_iadd hx hb dX9_look_58 ?_
        refine x_put E hw 0 0 (Nat.lt_of_lt_of_le (hx0) (hle1 _)) fa45 cl_9 ly_9 tyX9 tyX9_ok nmX9 4 (by decide) tw_84 (Or.inl rfl) (by rfl) (by rfl) (Nat.le_of_ble_eq_true rfl) dX9_look_59 (fun H locs hw => ?_)
        generalize hct4 : upd2 ct3 0 0 (.inr (9, [.int (nI nw), .int (nI nb), .int (nI nc), .int (nI nm), .int (v 4), .int (v 5), .ref (ad 1 0), .ref (ad 2 0), .ref (ad 3 0), .ref (ad 11 tp), .ref (ad 11 (1 - tp)), .ref (ad 13 0)].set 4 (.int (v 4 + 1)))) = ct4 at hw
        have fa53 : ct4 0 0 = .inr (9, [.int (nI nw), .int (nI nb), .int (nI nc), .int (nI nm), .int (v 4 + 1), .int (v 5), .ref (ad 1 0), .ref (ad 2 0), .ref (ad 3 0), .ref (ad 11 tp), .ref (ad 11 (1 - tp)), .ref (ad 13 0)]) := by rw [← hct4, upd2_at]; try rfl
        have fa54 : ct4 1 0 = .inl (ca 3, 50, aQ fB) := by rw [← hct4, upd2_k _ _ _ _ (by decide)]; exact fa46
        have fa55 : ct4 2 0 = .inl (ca 4, 60, aQ fC) := by rw [← hct4, upd2_k _ _ _ _ (by decide)]; exact fa47
        have fa56 : ct4 3 0 = .inl (ca 5, 13, aQ fN) := by rw [← hct4, upd2_k _ _ _ _ (by decide)]; exact fa48
        have fa57 : ct4 11 tp = .inr (8, [.ref (ad 12 tp), .int (nI szq)]) := by rw [← hct4, upd2_k _ _ _ _ (by decide)]; exact fa49
        have fa58 : ct4 9 i = .inr (6, [.int (g 22 (i + 1)), .ref (ad1 10 i1)]) := by rw [← hct4, upd2_k _ _ _ _ (by decide)]; exact fa50
        have fa59 : ct4 10 j = .inr (4, [.int (nI d2), va_rf (Option.map (ad 10) o2)]) := by rw [← hct4, upd2_k _ _ _ _ (by decide)]; exact fa51
        have fa60 : ct4 10 i1 = .inr (4, [.int (nI nw), va_rf (Option.map (ad 10) (lk i))]) := by rw [← hct4, upd2_k _ _ _ _ (by decide)]; exact fa52
        refine lv_iconst (v := 1) hx hb dX9_look_62 (by decide) ?_
        subst hQ
        exact x_zretW E hr hlk (by decide) hw (by decide) (by decide) (addA ((hag1 0 0 (by omega)).symm) (by have hcg2 : ∀ k i, i < cnt k → ct2 k i = ct k i := (by rw [← hct2]; exact agr_up (by omega) hcg1); exact cw_post (v' := upd v 4 (v 4 + 1)) (g' := upd2 g 23 (2001 * (i + 1) + nw) 1) (by simp [mLookW, hIn, nI_clamp (n := i + 1) (by omega), hc_no]) ⟨nw, nb, nc, nm, ⟨by rw [upd_ne _ _ (by decide)]; exact hO.1, by rw [upd_ne _ _ (by decide)]; exact hO.2.1, by rw [upd_ne _ _ (by decide)]; exact hO.2.2.1, by rw [upd_ne _ _ (by decide)]; exact hO.2.2.2.1, hO5⟩, mIv_g (fun _ => upd2_k _ _ _ _ (by decide)) (fun _ => upd2_k _ _ _ _ (by decide)) (fun _ => upd2_k _ _ _ _ (by decide)) (fun _ => upd2_k _ _ _ _ (by decide)) (fun _ => upd2_k _ _ _ _ (by decide)) hIv, tp, htp, cX_new htp ht11 ht13 hle1 hag1 hX (by rw [upd_at, upd_ne _ _ (by decide)]; exact fa53), cT_v (v := v) (by rw [upd_ne _ _ (by decide)]) (by rw [upd_ne _ _ (by decide)]) (by rw [← hct4, ← hct3]; exact cT_up (by decide) (cT_up (by decide) (cT_ext htp hle1 hag1 hcg2 (cT_g (fun _ => upd2_k _ _ _ _ (by decide)) (fun _ => upd2_k _ _ _ _ (by decide)) hT)))), by rw [← hct4, ← hct3]; exact cB_up (by decide) (cB_up (by decide) (cB_ext (by omega) (by omega) hx1 hag1 hcg2 (cB_g (fun _ => upd2_k _ _ _ _ (by decide)) (fun _ => upd2_k _ _ _ _ (by decide)) hB))), by rw [← hct4, ← hct3]; exact cC_up (by decide) (cC_up (by decide) (cC_ext (by omega) (by omega) hx2 hle1 hag1 hcg2 (cC_g (fun k hk i => by rcases hk with rfl | rfl | rfl | rfl | rfl | rfl | rfl | rfl | rfl | rfl | rfl | rfl | rfl <;> exact upd2_k _ _ _ _ (by decide)) hCc))), by rw [← hct4, ← hct3]; exact cN_up (by decide) (cN_look (by omega) hx3 hle1 hag1 hcg2 hn9 fz3 hNd hi12 (by omega) (by rw [← hct2, upd2_at]) hc_no hO5.1)⟩)) dX9_look_63
      · skip
        have hc_y : nw ∈ d2 :: r2 := (by have hd2 : d2 < nw + 1 := hlkn.1.1; rw [← (nI_eq (a := d2) (b := nw) (by omega) (by omega)).mp c_28]; simp)
        refine lv_iconst (v := 0) hx hb dX9_look_31 (by decide) ?_
        subst hQ
        exact x_zretW E hr hlk (by decide) hw (by decide) (by decide) (addA (rfl) (cw_post (by have q9 := (hlkn.2 nw hO5.1).mpr hc_y; simp [mLookW, nI_clamp (n := i + 1) (by omega), q9]) ⟨nw, nb, nc, nm, hC⟩)) dX9_look_32
