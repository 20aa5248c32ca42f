set_option maxHeartbeats 4000000 in
set_option maxRecDepth 100000 in
theorem kX6_init (l : Launch) (D : va_G) (ca : Nat → ClassId) (cnt : Nat → Nat) (ad : Nat → Nat → Nat) (ct : Nat → Nat → va_E) (z9 : Nat) (i9 : Nat) (hki : i9 < cnt 9) (hkc : ct 9 i9 = .inr (6, [.int 0, .null])) : Met l yX6_init (wz yX6_init cX6_init 1 none) (rmL 2 0 0) (va_Pc [.ref (ad 9 i9)] (fun U => (U.heap.size = z9 ∧ wq D cnt ad ct U.heap) ∧ gK D ca U)) (QcW D (wA cnt ad z9) (fun rv u => rv = none ∧ u = (cnt, ad, upd2 ct 9 i9 (.inr (6, [.int 2, .null]))))) 0 0 (wA cnt ad z9) := by
  refine x_met (by decide) (Nat.le_of_ble_eq_true rfl) ?_
  intro p e s m below meth c E hr hlk hnm hq ls hl
  obtain ⟨hsz9, hq⟩ := hq
  subst hsz9
  generalize hav : ([.ref (ad 9 i9)] : List Value).toArray = args at E ⊢
  have hx := E.1
  have hb := E.2.1
  have hown := E.2.2.2.1
  have hts := E.2.2.2.2.1
  have hw : wd D (wA cnt ad s.heap.size) s.heap cnt ad ct s.heap [] := wd.start hq
  generalize hQ : MQ below (QcW D (wA cnt ad s.heap.size) (fun rv u => rv = none ∧ u = (cnt, ad, upd2 ct 9 i9 (.inr (6, [.int 2, .null]))))) args s 0 0 (wA cnt ad s.heap.size) = Q
  generalize hA9 : wA cnt ad s.heap.size = A at hw hQ
  have hl : lv_has ls 1 [(0, .ref (ad 9 i9))] := hl
  suffices hgo : ∀ (H : Heap) (locs : List Loc), wd D A s.heap cnt ad ct H locs → W p l e (rmL 2 0 0) s m args below meth c H locs 0 0 Q (F0 m 0 ls []) from hgo _ _ hw
  clear hw
  intro H locs hw
  refine lv_aload_n hx hb dX6_init_0 rfl (lv_at hl 0 rfl) ?_
  refine W.objInit hx hb hown (hts _ tw_71) (hts _ tw_20) (hts _ tw_21) rfl (hl.1.trans E.2.2.1.symm) rfl dX6_init_1 (by decide) (Nat.le_of_ble_eq_true rfl) ?_
  refine W.eq (g2 := F0 m 4 ls []) rfl ?_
  refine lv_aload_n hx hb dX6_init_4 rfl (lv_at hl 0 rfl) ?_
  refine lv_iconst (v := 2) hx hb dX6_init_5 (by decide) ?_
  refine x_put E hw 9 i9 (hki) hkc cl_6 ly_6 tyX6 tyX6_ok nmX6 0 (by decide) tw_72 (Or.inl rfl) (by rfl) (by rfl) (Nat.le_of_ble_eq_true rfl) dX6_init_6 (fun H locs hw => ?_)
  generalize hct1 : upd2 ct 9 i9 (.inr (6, [.int 0, .null].set 0 (.int 2))) = ct1 at hw
  have fa1 : ct1 9 i9 = .inr (6, [.int 2, .null]) := by rw [← hct1, upd2_at]; try rfl
  subst hQ
  exact x_vretW E hr hlk hw (by decide) (by decide) (⟨rfl, by rw [← hct1]; rfl⟩) dX6_init_9
set_option maxHeartbeats 4000000 in
set_option maxRecDepth 100000 in
theorem kX8_init (l : Launch) (D : va_G) (ca : Nat → ClassId) (cnt : Nat → Nat) (ad : Nat → Nat → Nat) (ct : Nat → Nat → va_E) (z9 : Nat) (i9 : Nat) (hki : i9 < cnt 11) (hkc : ct 11 i9 = .inr (8, [.null, .int 0])) : Met l yX8_init (wz yX8_init cX8_init 1 none) (rmL 2 1 100) (va_Pc [.ref (ad 11 i9)] (fun U => (U.heap.size = z9 ∧ wq D cnt ad ct U.heap) ∧ gK D ca U)) (QcW D (wA cnt ad z9) (fun rv u => rv = none ∧ ∃ q9, u = (va_up cnt 12 (cnt 12 + 1), upd2 ad 12 (cnt 12) q9, upd2 (upd2 ct 12 (cnt 12) (.inl (ca 0, 100, .inl (fun _ => 0)))) 11 i9 (.inr (8, [.ref q9, .int 0]))))) 1 100 (wA cnt ad z9) := by
  refine x_met (by decide) (Nat.le_of_ble_eq_true rfl) ?_
  intro p e s m below meth c E hr hlk hnm hq ls hl
  obtain ⟨hsz9, hq⟩ := hq
  subst hsz9
  generalize hav : ([.ref (ad 11 i9)] : List Value).toArray = args at E ⊢
  have hx := E.1
  have hb := E.2.1
  have hown := E.2.2.2.1
  have hts := E.2.2.2.2.1
  have hw : wd D (wA cnt ad s.heap.size) s.heap cnt ad ct s.heap [] := wd.start hq
  generalize hQ : MQ below (QcW D (wA cnt ad s.heap.size) (fun rv u => rv = none ∧ ∃ q9, u = (va_up cnt 12 (cnt 12 + 1), upd2 ad 12 (cnt 12) q9, upd2 (upd2 ct 12 (cnt 12) (.inl (ca 0, 100, .inl (fun _ => 0)))) 11 i9 (.inr (8, [.ref q9, .int 0]))))) args s 1 100 (wA cnt ad s.heap.size) = Q
  generalize hA9 : wA cnt ad s.heap.size = A at hw hQ
  have hl : lv_has ls 1 [(0, .ref (ad 11 i9))] := hl
  suffices hgo : ∀ (H : Heap) (locs : List Loc), wd D A s.heap cnt ad ct H locs → W p l e (rmL 2 1 100) s m args below meth c H locs 0 0 Q (F0 m 0 ls []) from hgo _ _ hw
  clear hw
  intro H locs hw
  refine lv_aload_n hx hb dX8_init_0 rfl (lv_at hl 0 rfl) ?_
  refine W.objInit hx hb hown (hts _ tw_33) (hts _ tw_20) (hts _ tw_21) rfl (hl.1.trans E.2.2.1.symm) rfl dX8_init_1 (by decide) (Nat.le_of_ble_eq_true rfl) ?_
  refine W.eq (g2 := F0 m 4 ls []) rfl ?_
  refine lv_aload_n hx hb dX8_init_4 rfl (lv_at hl 0 rfl) ?_
  refine lv_bipush (v := 100) hx hb dX8_init_5 (by decide) ?_
  refine x_newa (atype := .byte) (N' := 100) E hw tw_43 12 0 rfl rfl (rfl) (by decide) (by decide) (by decide) (by decide) dX8_init_7 (fun q9 H hw => ?_)
  generalize hix1 : cnt 12 = i1 at hw
  generalize hcn1 : va_up cnt 12 (i1 + 1) = cnt1 at hw
  generalize han1 : upd2 ad 12 i1 q9 = ad1 at hw
  generalize hct1 : upd2 ct 12 i1 (.inl (ca 0, 100, .inl (fun _ => 0))) = ct1 at hw
  have hqq1 : q9 = ad1 12 i1 := by rw [← han1, upd2_at]
  subst hqq1
  have hcn1_0 : cnt1 0 = cnt 0 := by rw [← hcn1, va_up_ne _ _ (by decide)]
  have hcn1_1 : cnt1 1 = cnt 1 := by rw [← hcn1, va_up_ne _ _ (by decide)]
  have hcn1_2 : cnt1 2 = cnt 2 := by rw [← hcn1, va_up_ne _ _ (by decide)]
  have hcn1_3 : cnt1 3 = cnt 3 := by rw [← hcn1, va_up_ne _ _ (by decide)]
  have hcn1_4 : cnt1 4 = cnt 4 := by rw [← hcn1, va_up_ne _ _ (by decide)]
  have hcn1_5 : cnt1 5 = cnt 5 := by rw [← hcn1, va_up_ne _ _ (by decide)]
  have hcn1_6 : cnt1 6 = cnt 6 := by rw [← hcn1, va_up_ne _ _ (by decide)]
  have hcn1_7 : cnt1 7 = cnt 7 := by rw [← hcn1, va_up_ne _ _ (by decide)]
  have hcn1_8 : cnt1 8 = cnt 8 := by rw [← hcn1, va_up_ne _ _ (by decide)]
  have hcn1_9 : cnt1 9 = cnt 9 := by rw [← hcn1, va_up_ne _ _ (by decide)]
  have hcn1_10 : cnt1 10 = cnt 10 := by rw [← hcn1, va_up_ne _ _ (by decide)]
  have hcn1_11 : cnt1 11 = cnt 11 := by rw [← hcn1, va_up_ne _ _ (by decide)]
  have hcn1_12 : cnt1 12 = cnt 12 + 1 := by rw [← hcn1, va_up_self, hix1]
  have hcn1_13 : cnt1 13 = cnt 13 := by rw [← hcn1, va_up_ne _ _ (by decide)]
  have hcn1_14 : cnt1 14 = cnt 14 := by rw [← hcn1, va_up_ne _ _ (by decide)]
  have hcn1_15 : cnt1 15 = cnt 15 := by rw [← hcn1, va_up_ne _ _ (by decide)]
  have hcn1_16 : cnt1 16 = cnt 16 := by rw [← hcn1, va_up_ne _ _ (by decide)]
  have hcn1_17 : cnt1 17 = cnt 17 := by rw [← hcn1, va_up_ne _ _ (by decide)]
  have hag1 : ∀ k i, i < cnt k → ad k i = ad1 k i := fun k i hi => by rw [← han1]; by_cases hk : k = 12; subst hk; exact (upd2_i _ _ _ (by omega)).symm; exact (upd2_k _ _ _ _ hk).symm
  have hcg1 : ∀ k i, i < cnt k → ct1 k i = ct k i := fun k i hi => by rw [← hct1]; by_cases hk : k = 12; subst hk; exact upd2_i _ _ _ (by omega); exact upd2_k _ _ _ _ hk
  have hle1 : ∀ k, cnt k ≤ cnt1 k := fun k => by rw [← hcn1]; by_cases hk : k = 12; subst hk; rw [va_up_self]; omega; rw [va_up_ne _ _ hk]; exact Nat.le_refl _
  have fa1 : ct1 11 i9 = .inr (8, [.null, .int 0]) := by rw [hcg1 11 i9 (hki)]; exact hkc
  have fa2 : ct1 12 i1 = .inl (ca 0, 100, .inl (fun _ => 0)) := by rw [← hct1, upd2_at]
  have hin1 : i1 < cnt1 12 := by omega
  have ev9_0 : ad 11 i9 = ad1 11 i9 := hag1 11 i9 (by omega)
  refine W.eq (g2 := F0 m 9 ls [.ref (ad1 12 i1), .ref (ad1 11 i9)]) (by rw [ev9_0]) ?_
  refine x_put E hw 11 i9 (Nat.lt_of_lt_of_le (hki) (hle1 _)) fa1 cl_8 ly_8 tyX8 tyX8_ok nmX8 0 (by decide) tw_34 (Or.inr ⟨rfl, hnm, rfl⟩) (by rfl) (by rfl) (Nat.le_of_ble_eq_true rfl) dX8_init_9 (fun H locs hw => ?_)
  generalize hct2 : upd2 ct1 11 i9 (.inr (8, [.null, .int 0].set 0 (.ref (ad1 12 i1)))) = ct2 at hw
  have fa3 : ct2 11 i9 = .inr (8, [.ref (ad1 12 i1), .int 0]) := by rw [← hct2, upd2_at]; try rfl
  have fa4 : ct2 12 i1 = .inl (ca 0, 100, .inl (fun _ => 0)) := by rw [← hct2, upd2_k _ _ _ _ (by decide)]; exact fa2
  subst hQ
  exact x_vretW E hr hlk hw (by decide) (by decide) (⟨rfl, ad1 12 i1, by rw [hix1, hcn1, han1, ← hct2, ← hct1]; rfl⟩) dX8_init_12
set_option maxHeartbeats 4000000 in
set_option maxRecDepth 100000 in
theorem kX7_init (l : Launch) (D : va_G) (ca : Nat → ClassId) (cnt : Nat → Nat) (ad : Nat → Nat → Nat) (ct : Nat → Nat → va_E) (z9 : Nat) (i9 : Nat) (t : Nat) (hki : i9 < cnt 13) (hkc : ct 13 i9 = .inr (7, [.null, .null, .int 0, .int 0])) (htt : t < cnt 11) : Met l yX7_init (wz yX7_init cX7_init 2 none) (rmL 2 1 5) (va_Pc [.ref (ad 13 i9), .ref (ad 11 t)] (fun U => (U.heap.size = z9 ∧ wq D cnt ad ct U.heap ∧ lets (wA cnt ad z9) U) ∧ gK D ca U)) (QcW D (wA cnt ad z9) (fun rv u => rv = none ∧ ∃ q9, u = (va_up cnt 14 (cnt 14 + 1), upd2 ad 14 (cnt 14) q9, upd2 (upd2 ct 14 (cnt 14) (.inl (ca 1, 5, .inl (fun _ => 0)))) 13 i9 (.inr (7, [.ref q9, .ref (ad 11 t), .int 0, .int 0]))))) 1 5 (wA cnt ad z9) := by
  refine x_met (by decide) (Nat.le_of_ble_eq_true rfl) ?_
  intro p e s m below meth c E hr hlk hnm hq ls hl
  obtain ⟨hsz9, hq, hLt⟩ := hq
  subst hsz9
  generalize hav : ([.ref (ad 13 i9), .ref (ad 11 t)] : List Value).toArray = args at E ⊢
  have hx := E.1
  have hb := E.2.1
  have hown := E.2.2.2.1
  have hts := E.2.2.2.2.1
  have hw : wd D (wA cnt ad s.heap.size) s.heap cnt ad ct s.heap [] := wd.start hq
  generalize hQ : MQ below (QcW D (wA cnt ad s.heap.size) (fun rv u => rv = none ∧ ∃ q9, u = (va_up cnt 14 (cnt 14 + 1), upd2 ad 14 (cnt 14) q9, upd2 (upd2 ct 14 (cnt 14) (.inl (ca 1, 5, .inl (fun _ => 0)))) 13 i9 (.inr (7, [.ref q9, .ref (ad 11 t), .int 0, .int 0]))))) args s 1 5 (wA cnt ad s.heap.size) = Q
  generalize hA9 : wA cnt ad s.heap.size = A at hw hQ hLt
  have hl : lv_has ls 2 [(0, .ref (ad 13 i9)), (1, .ref (ad 11 t))] := hl
  obtain ⟨tL, hLz, hLT⟩ := id hLt
  suffices hgo : ∀ (H : Heap) (locs : List Loc), wd D A s.heap cnt ad ct H locs → W p l e (rmL 2 1 5) s m args below meth c H locs 0 0 Q (F0 m 0 ls []) from hgo _ _ hw
  clear hw
  intro H locs hw
  refine lv_aload_n hx hb dX7_init_0 rfl (lv_at hl 0 rfl) ?_
  refine W.objInit hx hb hown (hts _ tw_49) (hts _ tw_20) (hts _ tw_21) rfl (hl.1.trans E.2.2.1.symm) rfl dX7_init_1 (by decide) (Nat.le_of_ble_eq_true rfl) ?_
  refine W.eq (g2 := F0 m 4 ls []) rfl ?_
  refine lv_aload_n hx hb dX7_init_4 rfl (lv_at hl 0 rfl) ?_
  refine va_gets hx hb hLz hw.2.2.1 hown (hts _ tw_50) (fun _ h => h) dX7_init_5 ?_
  refine va_tlen hx hb hLT hw.2.2.1 (v := 5) rfl dX7_init_8 ?_
  refine x_newa (atype := .int) (N' := 5) E hw tw_66 14 1 rfl rfl (rfl) (by decide) (by decide) (by decide) (by decide) dX7_init_9 (fun q9 H hw => ?_)
  generalize hix1 : cnt 14 = i1 at hw
  generalize hcn1 : va_up cnt 14 (i1 + 1) = cnt1 at hw
  generalize han1 : upd2 ad 14 i1 q9 = ad1 at hw
  generalize hct1 : upd2 ct 14 i1 (.inl (ca 1, 5, .inl (fun _ => 0))) = ct1 at hw
  have hqq1 : q9 = ad1 14 i1 := by rw [← han1, upd2_at]
  subst hqq1
  have hcn1_0 : cnt1 0 = cnt 0 := by rw [← hcn1, va_up_ne _ _ (by decide)]
  have hcn1_1 : cnt1 1 = cnt 1 := by rw [← hcn1, va_up_ne _ _ (by decide)]
  have hcn1_2 : cnt1 2 = cnt 2 := by rw [← hcn1, va_up_ne _ _ (by decide)]
  have hcn1_3 : cnt1 3 = cnt 3 := by rw [← hcn1, va_up_ne _ _ (by decide)]
  have hcn1_4 : cnt1 4 = cnt 4 := by rw [← hcn1, va_up_ne _ _ (by decide)]
  have hcn1_5 : cnt1 5 = cnt 5 := by rw [← hcn1, va_up_ne _ _ (by decide)]
  have hcn1_6 : cnt1 6 = cnt 6 := by rw [← hcn1, va_up_ne _ _ (by decide)]
  have hcn1_7 : cnt1 7 = cnt 7 := by rw [← hcn1, va_up_ne _ _ (by decide)]
  have hcn1_8 : cnt1 8 = cnt 8 := by rw [← hcn1, va_up_ne _ _ (by decide)]
  have hcn1_9 : cnt1 9 = cnt 9 := by rw [← hcn1, va_up_ne _ _ (by decide)]
  have hcn1_10 : cnt1 10 = cnt 10 := by rw [← hcn1, va_up_ne _ _ (by decide)]
  have hcn1_11 : cnt1 11 = cnt 11 := by rw [← hcn1, va_up_ne _ _ (by decide)]
  have hcn1_12 : cnt1 12 = cnt 12 := by rw [← hcn1, va_up_ne _ _ (by decide)]
  have hcn1_13 : cnt1 13 = cnt 13 := by rw [← hcn1, va_up_ne _ _ (by decide)]
  have hcn1_14 : cnt1 14 = cnt 14 + 1 := by rw [← hcn1, va_up_self, hix1]
  have hcn1_15 : cnt1 15 = cnt 15 := by rw [← hcn1, va_up_ne _ _ (by decide)]
  have hcn1_16 : cnt1 16 = cnt 16 := by rw [← hcn1, va_up_ne _ _ (by decide)]
  have hcn1_17 : cnt1 17 = cnt 17 := by rw [← hcn1, va_up_ne _ _ (by decide)]
  have hag1 : ∀ k i, i < cnt k → ad k i = ad1 k i := fun k i hi => by rw [← han1]; by_cases hk : k = 14; subst hk; exact (upd2_i _ _ _ (by omega)).symm; exact (upd2_k _ _ _ _ hk).symm
  have hcg1 : ∀ k i, i < cnt k → ct1 k i = ct k i := fun k i hi => by rw [← hct1]; by_cases hk : k = 14; subst hk; exact upd2_i _ _ _ (by omega); exact upd2_k _ _ _ _ hk
  have hle1 : ∀ k, cnt k ≤ cnt1 k := fun k => by rw [← hcn1]; by_cases hk : k = 14; subst hk; rw [va_up_self]; omega; rw [va_up_ne _ _ hk]; exact Nat.le_refl _
  have fa1 : ct1 13 i9 = .inr (7, [.null, .null, .int 0, .int 0]) := by rw [hcg1 13 i9 (hki)]; exact hkc
  have fa2 : ct1 14 i1 = .inl (ca 1, 5, .inl (fun _ => 0)) := by rw [← hct1, upd2_at]
  have hin1 : i1 < cnt1 14 := by omega
  have ev11_0 : ad 13 i9 = ad1 13 i9 := hag1 13 i9 (by omega)
  refine W.eq (g2 := F0 m 11 ls [.ref (ad1 14 i1), .ref (ad1 13 i9)]) (by rw [ev11_0]) ?_
  refine x_put E hw 13 i9 (Nat.lt_of_lt_of_le (hki) (hle1 _)) fa1 cl_7 ly_7 tyX7 tyX7_ok nmX7 0 (by decide) tw_52 (Or.inr ⟨rfl, hnm, rfl⟩) (by rfl) (by rfl) (Nat.le_of_ble_eq_true rfl) dX7_init_11 (fun H locs hw => ?_)
  generalize hct2 : upd2 ct1 13 i9 (.inr (7, [.null, .null, .int 0, .int 0].set 0 (.ref (ad1 14 i1)))) = ct2 at hw
  have fa3 : ct2 13 i9 = .inr (7, [.ref (ad1 14 i1), .null, .int 0, .int 0]) := by rw [← hct2, upd2_at]; try rfl
  have fa4 : ct2 14 i1 = .inl (ca 1, 5, .inl (fun _ => 0)) := by rw [← hct2, upd2_k _ _ _ _ (by decide)]; exact fa2
  refine lv_aload_n hx hb dX7_init_14 rfl (lv_at hl 0 rfl) ?_
  refine lv_aload_n hx hb dX7_init_15 rfl (lv_at hl 1 rfl) ?_
  have ev16_0 : ad 13 i9 = ad1 13 i9 := hag1 13 i9 (by omega)
  have ev16_1 : ad 11 t = ad1 11 t := hag1 11 t (by omega)
  refine W.eq (g2 := F0 m 16 ls [.ref (ad1 11 t), .ref (ad1 13 i9)]) (by rw [ev16_0, ev16_1]) ?_
  refine x_put E hw 13 i9 (Nat.lt_of_lt_of_le (hki) (hle1 _)) fa3 cl_7 ly_7 tyX7 tyX7_ok nmX7 1 (by decide) tw_54 (Or.inl rfl) (by rfl) (by rfl) (Nat.le_of_ble_eq_true rfl) dX7_init_16 (fun H locs hw => ?_)
  generalize hct3 : upd2 ct2 13 i9 (.inr (7, [.ref (ad1 14 i1), .null, .int 0, .int 0].set 1 (.ref (ad1 11 t)))) = ct3 at hw
  have fa5 : ct3 13 i9 = .inr (7, [.ref (ad1 14 i1), .ref (ad1 11 t), .int 0, .int 0]) := by rw [← hct3, upd2_at]; try rfl
  have fa6 : ct3 14 i1 = .inl (ca 1, 5, .inl (fun _ => 0)) := by rw [← hct3, upd2_k _ _ _ _ (by decide)]; exact fa4
  subst hQ
  exact x_vretW E hr hlk hw (by decide) (by decide) (⟨rfl, ad1 14 i1, by rw [hix1, hcn1, han1, hag1 11 t htt, ← hct3, ← hct2, ← hct1, upd2_2]; rfl⟩) dX7_init_19
set_option maxHeartbeats 4000000 in
set_option maxRecDepth 100000 in
theorem kX9_init (l : Launch) (D : va_G) (ca : Nat → ClassId) (cnt : Nat → Nat) (ad : Nat → Nat → Nat) (ct : Nat → Nat → va_E) (z9 : Nat)  (hc0 : cnt 0 = 1) (hcz : ∀ k, k ≠ 0 → cnt k = 0) (hkc : ct 0 0 = .inr (9, [.int 0, .int 0, .int 0, .int 0, .int 0, .int 0, .null, .null, .null, .null, .null, .null])) : Met l yX9_init (wz yX9_init cX9_init 2 none) (rmL 3 21 360) (va_Pc [.ref (ad 0 0)] (fun U => (U.heap.size = z9 ∧ wq D cnt ad ct U.heap ∧ lets (wA cnt ad z9) U) ∧ gK D ca U)) (QcW D (wA cnt ad z9) (fun rv u => rv = none ∧ cRep ca u.1 u.2.1 u.2.2 v0 g0 0 0 0 0 ∧ u.2.1 0 0 = ad 0 0)) 21 360 (wA cnt ad z9) := by
  refine x_met (by decide) (Nat.le_of_ble_eq_true rfl) ?_
  intro p e s m below meth c E hr hlk hnm hq ls hl
  obtain ⟨hsz9, hq, hLt⟩ := hq
  subst hsz9
  generalize hav : ([.ref (ad 0 0)] : List Value).toArray = args at E ⊢
  have hx := E.1
  have hb := E.2.1
  have hown := E.2.2.2.1
  have hts := E.2.2.2.2.1
  have hw : wd D (wA cnt ad s.heap.size) s.heap cnt ad ct s.heap [] := wd.start hq
  generalize hQ : MQ below (QcW D (wA cnt ad s.heap.size) (fun rv u => rv = none ∧ cRep ca u.1 u.2.1 u.2.2 v0 g0 0 0 0 0 ∧ u.2.1 0 0 = ad 0 0)) args s 21 360 (wA cnt ad s.heap.size) = Q
  generalize hA9 : wA cnt ad s.heap.size = A at hw hQ hLt
  have hl : lv_has ls 2 [(0, .ref (ad 0 0))] := hl
  have hzq1 : cnt 1 = 0 := hcz 1 (by decide)
  have hzq2 : cnt 2 = 0 := hcz 2 (by decide)
  have hzq3 : cnt 3 = 0 := hcz 3 (by decide)
  have hzq4 : cnt 4 = 0 := hcz 4 (by decide)
  have hzq5 : cnt 5 = 0 := hcz 5 (by decide)
  have hzq6 : cnt 6 = 0 := hcz 6 (by decide)
  have hzq7 : cnt 7 = 0 := hcz 7 (by decide)
  have hzq8 : cnt 8 = 0 := hcz 8 (by decide)
  have hzq9 : cnt 9 = 0 := hcz 9 (by decide)
  have hzq10 : cnt 10 = 0 := hcz 10 (by decide)
  have hzq11 : cnt 11 = 0 := hcz 11 (by decide)
  have hzq12 : cnt 12 = 0 := hcz 12 (by decide)
  have hzq13 : cnt 13 = 0 := hcz 13 (by decide)
  have hzq14 : cnt 14 = 0 := hcz 14 (by decide)
  have hzq15 : cnt 15 = 0 := hcz 15 (by decide)
  have hzq16 : cnt 16 = 0 := hcz 16 (by decide)
  have hzq17 : cnt 17 = 0 := hcz 17 (by decide)
  suffices hgo : ∀ (H : Heap) (locs : List Loc), wd D A s.heap cnt ad ct H locs → W p l e (rmL 3 21 360) s m args below meth c H locs 0 0 Q (F0 m 0 ls []) from hgo _ _ hw
  clear hw
  intro H locs hw
  refine lv_aload_n hx hb dX9_init_0 rfl (lv_at hl 0 rfl) ?_
  refine W.objInit hx hb hown (hts _ tw_19) (hts _ tw_20) (hts _ tw_21) rfl (hl.1.trans E.2.2.1.symm) rfl dX9_init_1 (by decide) (Nat.le_of_ble_eq_true rfl) ?_
  refine W.eq (g2 := F0 m 4 ls []) rfl ?_
  refine lv_aload_n hx hb dX9_init_4 rfl (lv_at hl 0 rfl) ?_
  refine lv_bipush (v := 50) hx hb dX9_init_5 (by decide) ?_
  refine x_newq (N' := 50) E hw tw_22 E.2.2.2.2.2.2.2.2.2.2.2.1 1 3 rfl rfl (by decide) (by decide) (by decide) dX9_init_7 (fun q9 H hw => ?_)
  generalize hix1 : cnt 1 = i1 at hw
  generalize hcn1 : va_up cnt 1 (i1 + 1) = cnt1 at hw
  generalize han1 : upd2 ad 1 i1 q9 = ad1 at hw
  generalize hct1 : upd2 ct 1 i1 (.inl (ca 3, 50, aQ (fun _ => none))) = ct1 at hw
  have hqq1 : q9 = ad1 1 i1 := by rw [← han1, upd2_at]
  subst hqq1
  have hcn1_0 : cnt1 0 = cnt 0 := by rw [← hcn1, va_up_ne _ _ (by decide)]
  have hcn1_1 : cnt1 1 = cnt 1 + 1 := by rw [← hcn1, va_up_self, hix1]
  have hcn1_2 : cnt1 2 = cnt 2 := by rw [← hcn1, va_up_ne _ _ (by decide)]
  have hcn1_3 : cnt1 3 = cnt 3 := by rw [← hcn1, va_up_ne _ _ (by decide)]
  have hcn1_4 : cnt1 4 = cnt 4 := by rw [← hcn1, va_up_ne _ _ (by decide)]
  have hcn1_5 : cnt1 5 = cnt 5 := by rw [← hcn1, va_up_ne _ _ (by decide)]
  have hcn1_6 : cnt1 6 = cnt 6 := by rw [← hcn1, va_up_ne _ _ (by decide)]
  have hcn1_7 : cnt1 7 = cnt 7 := by rw [← hcn1, va_up_ne _ _ (by decide)]
  have hcn1_8 : cnt1 8 = cnt 8 := by rw [← hcn1, va_up_ne _ _ (by decide)]
  have hcn1_9 : cnt1 9 = cnt 9 := by rw [← hcn1, va_up_ne _ _ (by decide)]
  have hcn1_10 : cnt1 10 = cnt 10 := by rw [← hcn1, va_up_ne _ _ (by decide)]
  have hcn1_11 : cnt1 11 = cnt 11 := by rw [← hcn1, va_up_ne _ _ (by decide)]
  have hcn1_12 : cnt1 12 = cnt 12 := by rw [← hcn1, va_up_ne _ _ (by decide)]
  have hcn1_13 : cnt1 13 = cnt 13 := by rw [← hcn1, va_up_ne _ _ (by decide)]
  have hcn1_14 : cnt1 14 = cnt 14 := by rw [← hcn1, va_up_ne _ _ (by decide)]
  have hcn1_15 : cnt1 15 = cnt 15 := by rw [← hcn1, va_up_ne _ _ (by decide)]
  have hcn1_16 : cnt1 16 = cnt 16 := by rw [← hcn1, va_up_ne _ _ (by decide)]
  have hcn1_17 : cnt1 17 = cnt 17 := by rw [← hcn1, va_up_ne _ _ (by decide)]
  have hag1 : ∀ k i, i < cnt k → ad k i = ad1 k i := fun k i hi => by rw [← han1]; by_cases hk : k = 1; subst hk; exact (upd2_i _ _ _ (by omega)).symm; exact (upd2_k _ _ _ _ hk).symm
  have hcg1 : ∀ k i, i < cnt k → ct1 k i = ct k i := fun k i hi => by rw [← hct1]; by_cases hk : k = 1; subst hk; exact upd2_i _ _ _ (by omega); exact upd2_k _ _ _ _ hk
  have hle1 : ∀ k, cnt k ≤ cnt1 k := fun k => by rw [← hcn1]; by_cases hk : k = 1; subst hk; rw [va_up_self]; omega; rw [va_up_ne _ _ hk]; exact Nat.le_refl _
  have fa1 : ct1 0 0 = .inr (9, [.int 0, .int 0, .int 0, .int 0, .int 0, .int 0, .null, .null, .null, .null, .null, .null]) := by rw [hcg1 0 0 (by omega)]; exact hkc
  have fa2 : ct1 1 i1 = .inl (ca 3, 50, aQ (fun _ => none)) := by rw [← hct1, upd2_at]
  have hin1 : i1 < cnt1 1 := by omega
  have ev10_0 : ad 0 0 = ad1 0 0 := hag1 0 0 (by omega)
  refine W.eq (g2 := F0 m 10 ls [.ref (ad1 1 i1), .ref (ad1 0 0)]) (by rw [ev10_0]) ?_
  refine x_put E hw 0 0 (by omega) fa1 cl_9 ly_9 tyX9 tyX9_ok nmX9 6 (by decide) tw_86 (Or.inr ⟨rfl, hnm, rfl⟩) (by rfl) (by rfl) (Nat.le_of_ble_eq_true rfl) dX9_init_10 (fun H locs hw => ?_)
  generalize hct2 : upd2 ct1 0 0 (.inr (9, [.int 0, .int 0, .int 0, .int 0, .int 0, .int 0, .null, .null, .null, .null, .null, .null].set 6 (.ref (ad1 1 i1)))) = ct2 at hw
  have fa3 : ct2 0 0 = .inr (9, [.int 0, .int 0, .int 0, .int 0, .int 0, .int 0, .ref (ad1 1 i1), .null, .null, .null, .null, .null]) := by rw [← hct2, upd2_at]; try rfl
  have fa4 : ct2 1 i1 = .inl (ca 3, 50, aQ (fun _ => none)) := by rw [← hct2, upd2_k _ _ _ _ (by decide)]; exact fa2
  refine lv_aload_n hx hb dX9_init_13 rfl (lv_at hl 0 rfl) ?_
  refine lv_bipush (v := 60) hx hb dX9_init_14 (by decide) ?_
  refine x_newq (N' := 60) E hw tw_24 E.2.2.2.2.2.2.2.2.2.2.2.2.1 2 4 rfl rfl (by decide) (by decide) (by decide) dX9_init_16 (fun q9 H hw => ?_)
  generalize hix3 : cnt1 2 = i3 at hw
  generalize hcn3 : va_up cnt1 2 (i3 + 1) = cnt3 at hw
  generalize han3 : upd2 ad1 2 i3 q9 = ad3 at hw
  generalize hct3 : upd2 ct2 2 i3 (.inl (ca 4, 60, aQ (fun _ => none))) = ct3 at hw
  have hqq3 : q9 = ad3 2 i3 := by rw [← han3, upd2_at]
  subst hqq3
  have hcn3_0 : cnt3 0 = cnt1 0 := by rw [← hcn3, va_up_ne _ _ (by decide)]
  have hcn3_1 : cnt3 1 = cnt1 1 := by rw [← hcn3, va_up_ne _ _ (by decide)]
  have hcn3_2 : cnt3 2 = cnt1 2 + 1 := by rw [← hcn3, va_up_self, hix3]
  have hcn3_3 : cnt3 3 = cnt1 3 := by rw [← hcn3, va_up_ne _ _ (by decide)]
  have hcn3_4 : cnt3 4 = cnt1 4 := by rw [← hcn3, va_up_ne _ _ (by decide)]
  have hcn3_5 : cnt3 5 = cnt1 5 := by rw [← hcn3, va_up_ne _ _ (by decide)]
  have hcn3_6 : cnt3 6 = cnt1 6 := by rw [← hcn3, va_up_ne _ _ (by decide)]
  have hcn3_7 : cnt3 7 = cnt1 7 := by rw [← hcn3, va_up_ne _ _ (by decide)]
  have hcn3_8 : cnt3 8 = cnt1 8 := by rw [← hcn3, va_up_ne _ _ (by decide)]
  have hcn3_9 : cnt3 9 = cnt1 9 := by rw [← hcn3, va_up_ne _ _ (by decide)]
  have hcn3_10 : cnt3 10 = cnt1 10 := by rw [← hcn3, va_up_ne _ _ (by decide)]
  have hcn3_11 : cnt3 11 = cnt1 11 := by rw [← hcn3, va_up_ne _ _ (by decide)]
  have hcn3_12 : cnt3 12 = cnt1 12 := by rw [← hcn3, va_up_ne _ _ (by decide)]
  have hcn3_13 : cnt3 13 = cnt1 13 := by rw [← hcn3, va_up_ne _ _ (by decide)]
  have hcn3_14 : cnt3 14 = cnt1 14 := by rw [← hcn3, va_up_ne _ _ (by decide)]
  have hcn3_15 : cnt3 15 = cnt1 15 := by rw [← hcn3, va_up_ne _ _ (by decide)]
  have hcn3_16 : cnt3 16 = cnt1 16 := by rw [← hcn3, va_up_ne _ _ (by decide)]
  have hcn3_17 : cnt3 17 = cnt1 17 := by rw [← hcn3, va_up_ne _ _ (by decide)]
  have hag3 : ∀ k i, i < cnt1 k → ad1 k i = ad3 k i := fun k i hi => by rw [← han3]; by_cases hk : k = 2; subst hk; exact (upd2_i _ _ _ (by omega)).symm; exact (upd2_k _ _ _ _ hk).symm
  have hcg3 : ∀ k i, i < cnt1 k → ct3 k i = ct2 k i := fun k i hi => by rw [← hct3]; by_cases hk : k = 2; subst hk; exact upd2_i _ _ _ (by omega); exact upd2_k _ _ _ _ hk
  have hle3 : ∀ k, cnt1 k ≤ cnt3 k := fun k => by rw [← hcn3]; by_cases hk : k = 2; subst hk; rw [va_up_self]; omega; rw [va_up_ne _ _ hk]; exact Nat.le_refl _
  have fa5 : ct3 0 0 = .inr (9, [.int 0, .int 0, .int 0, .int 0, .int 0, .int 0, .ref (ad1 1 i1), .null, .null, .null, .null, .null]) := by rw [hcg3 0 0 (by omega)]; exact fa3
  have fa6 : ct3 1 i1 = .inl (ca 3, 50, aQ (fun _ => none)) := by rw [hcg3 1 i1 (hin1)]; exact fa4
  have fa7 : ct3 2 i3 = .inl (ca 4, 60, aQ (fun _ => none)) := by rw [← hct3, upd2_at]
  have hin3 : i3 < cnt3 2 := by omega
  have ev19_0 : ad 0 0 = ad3 0 0 := (hag1 0 0 (by omega)).trans (hag3 0 0 (by omega))
  refine W.eq (g2 := F0 m 19 ls [.ref (ad3 2 i3), .ref (ad3 0 0)]) (by rw [ev19_0]) ?_
  refine x_put E hw 0 0 (by omega) fa5 cl_9 ly_9 tyX9 tyX9_ok nmX9 7 (by decide) tw_87 (Or.inr ⟨rfl, hnm, rfl⟩) (by rfl) (by rfl) (Nat.le_of_ble_eq_true rfl) dX9_init_19 (fun H locs hw => ?_)
  generalize hct4 : upd2 ct3 0 0 (.inr (9, [.int 0, .int 0, .int 0, .int 0, .int 0, .int 0, .ref (ad1 1 i1), .null, .null, .null, .null, .null].set 7 (.ref (ad3 2 i3)))) = ct4 at hw
  have fa8 : ct4 0 0 = .inr (9, [.int 0, .int 0, .int 0, .int 0, .int 0, .int 0, .ref (ad1 1 i1), .ref (ad3 2 i3), .null, .null, .null, .null]) := by rw [← hct4, upd2_at]; try rfl
  have fa9 : ct4 1 i1 = .inl (ca 3, 50, aQ (fun _ => none)) := by rw [← hct4, upd2_k _ _ _ _ (by decide)]; exact fa6
  have fa10 : ct4 2 i3 = .inl (ca 4, 60, aQ (fun _ => none)) := by rw [← hct4, upd2_k _ _ _ _ (by decide)]; exact fa7
  refine lv_aload_n hx hb dX9_init_22 rfl (lv_at hl 0 rfl) ?_
  refine lv_bipush (v := 13) hx hb dX9_init_23 (by decide) ?_
  refine x_newq (N' := 13) E hw tw_26 E.2.2.2.2.2.2.2.2.2.2.2.2.2 3 5 rfl rfl (by decide) (by decide) (by decide) dX9_init_25 (fun q9 H hw => ?_)
  generalize hix5 : cnt3 3 = i5 at hw
  generalize hcn5 : va_up cnt3 3 (i5 + 1) = cnt5 at hw
  generalize han5 : upd2 ad3 3 i5 q9 = ad5 at hw
  generalize hct5 : upd2 ct4 3 i5 (.inl (ca 5, 13, aQ (fun _ => none))) = ct5 at hw
  have hqq5 : q9 = ad5 3 i5 := by rw [← han5, upd2_at]
  subst hqq5
  have hcn5_0 : cnt5 0 = cnt3 0 := by rw [← hcn5, va_up_ne _ _ (by decide)]
  have hcn5_1 : cnt5 1 = cnt3 1 := by rw [← hcn5, va_up_ne _ _ (by decide)]
  have hcn5_2 : cnt5 2 = cnt3 2 := by rw [← hcn5, va_up_ne _ _ (by decide)]
  have hcn5_3 : cnt5 3 = cnt3 3 + 1 := by rw [← hcn5, va_up_self, hix5]
  have hcn5_4 : cnt5 4 = cnt3 4 := by rw [← hcn5, va_up_ne _ _ (by decide)]
  have hcn5_5 : cnt5 5 = cnt3 5 := by rw [← hcn5, va_up_ne _ _ (by decide)]
  have hcn5_6 : cnt5 6 = cnt3 6 := by rw [← hcn5, va_up_ne _ _ (by decide)]
  have hcn5_7 : cnt5 7 = cnt3 7 := by rw [← hcn5, va_up_ne _ _ (by decide)]
  have hcn5_8 : cnt5 8 = cnt3 8 := by rw [← hcn5, va_up_ne _ _ (by decide)]
  have hcn5_9 : cnt5 9 = cnt3 9 := by rw [← hcn5, va_up_ne _ _ (by decide)]
  have hcn5_10 : cnt5 10 = cnt3 10 := by rw [← hcn5, va_up_ne _ _ (by decide)]
  have hcn5_11 : cnt5 11 = cnt3 11 := by rw [← hcn5, va_up_ne _ _ (by decide)]
  have hcn5_12 : cnt5 12 = cnt3 12 := by rw [← hcn5, va_up_ne _ _ (by decide)]
  have hcn5_13 : cnt5 13 = cnt3 13 := by rw [← hcn5, va_up_ne _ _ (by decide)]
  have hcn5_14 : cnt5 14 = cnt3 14 := by rw [← hcn5, va_up_ne _ _ (by decide)]
  have hcn5_15 : cnt5 15 = cnt3 15 := by rw [← hcn5, va_up_ne _ _ (by decide)]
  have hcn5_16 : cnt5 16 = cnt3 16 := by rw [← hcn5, va_up_ne _ _ (by decide)]
  have hcn5_17 : cnt5 17 = cnt3 17 := by rw [← hcn5, va_up_ne _ _ (by decide)]
  have hag5 : ∀ k i, i < cnt3 k → ad3 k i = ad5 k i := fun k i hi => by rw [← han5]; by_cases hk : k = 3; subst hk; exact (upd2_i _ _ _ (by omega)).symm; exact (upd2_k _ _ _ _ hk).symm
  have hcg5 : ∀ k i, i < cnt3 k → ct5 k i = ct4 k i := fun k i hi => by rw [← hct5]; by_cases hk : k = 3; subst hk; exact upd2_i _ _ _ (by omega); exact upd2_k _ _ _ _ hk
  have hle5 : ∀ k, cnt3 k ≤ cnt5 k := fun k => by rw [← hcn5]; by_cases hk : k = 3; subst hk; rw [va_up_self]; omega; rw [va_up_ne _ _ hk]; exact Nat.le_refl _
  have fa11 : ct5 0 0 = .inr (9, [.int 0, .int 0, .int 0, .int 0, .int 0, .int 0, .ref (ad1 1 i1), .ref (ad3 2 i3), .null, .null, .null, .null]) := by rw [hcg5 0 0 (by omega)]; exact fa8
  have fa12 : ct5 1 i1 = .inl (ca 3, 50, aQ (fun _ => none)) := by rw [hcg5 1 i1 (Nat.lt_of_lt_of_le (hin1) (hle3 _))]; exact fa9
  have fa13 : ct5 2 i3 = .inl (ca 4, 60, aQ (fun _ => none)) := by rw [hcg5 2 i3 (hin3)]; exact fa10
  have fa14 : ct5 3 i5 = .inl (ca 5, 13, aQ (fun _ => none)) := by rw [← hct5, upd2_at]
  have hin5 : i5 < cnt5 3 := by omega
  have ev28_0 : ad 0 0 = ad5 0 0 := (hag1 0 0 (by omega)).trans ((hag3 0 0 (by omega)).trans (hag5 0 0 (by omega)))
  refine W.eq (g2 := F0 m 28 ls [.ref (ad5 3 i5), .ref (ad5 0 0)]) (by rw [ev28_0]) ?_
  refine x_put E hw 0 0 (by omega) fa11 cl_9 ly_9 tyX9 tyX9_ok nmX9 8 (by decide) tw_88 (Or.inr ⟨rfl, hnm, rfl⟩) (by rfl) (by rfl) (Nat.le_of_ble_eq_true rfl) dX9_init_28 (fun H locs hw => ?_)
  generalize hct6 : upd2 ct5 0 0 (.inr (9, [.int 0, .int 0, .int 0, .int 0, .int 0, .int 0, .ref (ad1 1 i1), .ref (ad3 2 i3), .null, .null, .null, .null].set 8 (.ref (ad5 3 i5)))) = ct6 at hw
  have fa15 : ct6 0 0 = .inr (9, [.int 0, .int 0, .int 0, .int 0, .int 0, .int 0, .ref (ad1 1 i1), .ref (ad3 2 i3), .ref (ad5 3 i5), .null, .null, .null]) := by rw [← hct6, upd2_at]; try rfl
  have fa16 : ct6 1 i1 = .inl (ca 3, 50, aQ (fun _ => none)) := by rw [← hct6, upd2_k _ _ _ _ (by decide)]; exact fa12
  have fa17 : ct6 2 i3 = .inl (ca 4, 60, aQ (fun _ => none)) := by rw [← hct6, upd2_k _ _ _ _ (by decide)]; exact fa13
  have fa18 : ct6 3 i5 = .inl (ca 5, 13, aQ (fun _ => none)) := by rw [← hct6, upd2_k _ _ _ _ (by decide)]; exact fa14
  refine lv_aload_n hx hb dX9_init_31 rfl (lv_at hl 0 rfl) ?_
  refine x_new (fs := [.null, .int 0]) E hw 11 cl_8 ly_8 tyX8 tyX8_ok tw_28 tw_29 tw_2 df_8 (by first | decide | (show _ ≤ (21 : Nat); omega)) (by first | decide | (show _ ≤ (360 : Nat); omega)) dX9_init_32 (fun q9 H hw => ?_)
  generalize hix7 : cnt5 11 = i7 at hw
  generalize hcn7 : va_up cnt5 11 (i7 + 1) = cnt7 at hw
  generalize han7 : upd2 ad5 11 i7 q9 = ad7 at hw
  generalize hct7 : upd2 ct6 11 i7 (.inr (8, [.null, .int 0])) = ct7 at hw
  have hqq7 : q9 = ad7 11 i7 := by rw [← han7, upd2_at]
  subst hqq7
  have hcn7_0 : cnt7 0 = cnt5 0 := by rw [← hcn7, va_up_ne _ _ (by decide)]
  have hcn7_1 : cnt7 1 = cnt5 1 := by rw [← hcn7, va_up_ne _ _ (by decide)]
  have hcn7_2 : cnt7 2 = cnt5 2 := by rw [← hcn7, va_up_ne _ _ (by decide)]
  have hcn7_3 : cnt7 3 = cnt5 3 := by rw [← hcn7, va_up_ne _ _ (by decide)]
  have hcn7_4 : cnt7 4 = cnt5 4 := by rw [← hcn7, va_up_ne _ _ (by decide)]
  have hcn7_5 : cnt7 5 = cnt5 5 := by rw [← hcn7, va_up_ne _ _ (by decide)]
  have hcn7_6 : cnt7 6 = cnt5 6 := by rw [← hcn7, va_up_ne _ _ (by decide)]
  have hcn7_7 : cnt7 7 = cnt5 7 := by rw [← hcn7, va_up_ne _ _ (by decide)]
  have hcn7_8 : cnt7 8 = cnt5 8 := by rw [← hcn7, va_up_ne _ _ (by decide)]
  have hcn7_9 : cnt7 9 = cnt5 9 := by rw [← hcn7, va_up_ne _ _ (by decide)]
  have hcn7_10 : cnt7 10 = cnt5 10 := by rw [← hcn7, va_up_ne _ _ (by decide)]
  have hcn7_11 : cnt7 11 = cnt5 11 + 1 := by rw [← hcn7, va_up_self, hix7]
  have hcn7_12 : cnt7 12 = cnt5 12 := by rw [← hcn7, va_up_ne _ _ (by decide)]
  have hcn7_13 : cnt7 13 = cnt5 13 := by rw [← hcn7, va_up_ne _ _ (by decide)]
  have hcn7_14 : cnt7 14 = cnt5 14 := by rw [← hcn7, va_up_ne _ _ (by decide)]
  have hcn7_15 : cnt7 15 = cnt5 15 := by rw [← hcn7, va_up_ne _ _ (by decide)]
  have hcn7_16 : cnt7 16 = cnt5 16 := by rw [← hcn7, va_up_ne _ _ (by decide)]
  have hcn7_17 : cnt7 17 = cnt5 17 := by rw [← hcn7, va_up_ne _ _ (by decide)]
  have hag7 : ∀ k i, i < cnt5 k → ad5 k i = ad7 k i := fun k i hi => by rw [← han7]; by_cases hk : k = 11; subst hk; exact (upd2_i _ _ _ (by omega)).symm; exact (upd2_k _ _ _ _ hk).symm
  have hcg7 : ∀ k i, i < cnt5 k → ct7 k i = ct6 k i := fun k i hi => by rw [← hct7]; by_cases hk : k = 11; subst hk; exact upd2_i _ _ _ (by omega); exact upd2_k _ _ _ _ hk
  have hle7 : ∀ k, cnt5 k ≤ cnt7 k := fun k => by rw [← hcn7]; by_cases hk : k = 11; subst hk; rw [va_up_self]; omega; rw [va_up_ne _ _ hk]; exact Nat.le_refl _
  have fa19 : ct7 0 0 = .inr (9, [.int 0, .int 0, .int 0, .int 0, .int 0, .int 0, .ref (ad1 1 i1), .ref (ad3 2 i3), .ref (ad5 3 i5), .null, .null, .null]) := by rw [hcg7 0 0 (by omega)]; exact fa15
  have fa20 : ct7 1 i1 = .inl (ca 3, 50, aQ (fun _ => none)) := by rw [hcg7 1 i1 (by omega)]; exact fa16
  have fa21 : ct7 2 i3 = .inl (ca 4, 60, aQ (fun _ => none)) := by rw [hcg7 2 i3 (Nat.lt_of_lt_of_le (hin3) (hle5 _))]; exact fa17
  have fa22 : ct7 3 i5 = .inl (ca 5, 13, aQ (fun _ => none)) := by rw [hcg7 3 i5 (hin5)]; exact fa18
  have fa23 : ct7 11 i7 = .inr (8, [.null, .int 0]) := by rw [← hct7, upd2_at]
  have hin7 : i7 < cnt7 11 := by omega
  refine lv_dup hx hb dX9_init_35 rfl ?_
  have ev36_0 : ad 0 0 = ad7 0 0 := (hag1 0 0 (by omega)).trans ((hag3 0 0 (by omega)).trans ((hag5 0 0 (by omega)).trans (hag7 0 0 (by omega))))
  refine W.eq (g2 := F0 m 36 ls [.ref (ad7 11 i7), .ref (ad7 11 i7), .ref (ad7 0 0)]) (by rw [ev36_0]) ?_
  refine x_wrote hw (x_runIN (rest := [.ref (ad7 11 i7), .ref (ad7 0 0)]) E cbX8_init E.2.2.2.2.2.2.1 (kX8_init l D ca cnt7 ad7 ct7 H.size  i7   (hin7) (fa23)) ⟨rfl, rfl, by decide, by decide⟩ (fun _ _ _ _ h => h) (fun U hU _ => by rw [hU]; exact ⟨rfl, hw.1⟩) rfl hl.1 rfl (Nat.le_of_ble_eq_true rfl) dX9_init_36 ⟨by first | decide | (show _ ≤ (21 : Nat); omega), by first | decide | (show _ ≤ (360 : Nat); omega)⟩) (fun rv9 u9 H locs hp9 hw hz9 hk9 => ?_)
  obtain ⟨hrv9, q9, hu9⟩ := hp9
  subst hrv9
  subst hu9
  dsimp only [Option.toList, List.nil_append] at hw ⊢
  skip
  generalize hix8 : cnt7 12 = i8 at hw
  generalize hcn8 : va_up cnt7 12 (i8 + 1) = cnt8 at hw
  generalize han8 : upd2 ad7 12 i8 q9 = ad8 at hw
  generalize hct8 : upd2 ct7 12 i8 (.inl (ca 0, 100, .inl (fun _ => 0))) = ct8 at hw
  have hqq8 : q9 = ad8 12 i8 := by rw [← han8, upd2_at]
  subst hqq8
  have hcn8_0 : cnt8 0 = cnt7 0 := by rw [← hcn8, va_up_ne _ _ (by decide)]
  have hcn8_1 : cnt8 1 = cnt7 1 := by rw [← hcn8, va_up_ne _ _ (by decide)]
  have hcn8_2 : cnt8 2 = cnt7 2 := by rw [← hcn8, va_up_ne _ _ (by decide)]
  have hcn8_3 : cnt8 3 = cnt7 3 := by rw [← hcn8, va_up_ne _ _ (by decide)]
  have hcn8_4 : cnt8 4 = cnt7 4 := by rw [← hcn8, va_up_ne _ _ (by decide)]
  have hcn8_5 : cnt8 5 = cnt7 5 := by rw [← hcn8, va_up_ne _ _ (by decide)]
  have hcn8_6 : cnt8 6 = cnt7 6 := by rw [← hcn8, va_up_ne _ _ (by decide)]
  have hcn8_7 : cnt8 7 = cnt7 7 := by rw [← hcn8, va_up_ne _ _ (by decide)]
  have hcn8_8 : cnt8 8 = cnt7 8 := by rw [← hcn8, va_up_ne _ _ (by decide)]
  have hcn8_9 : cnt8 9 = cnt7 9 := by rw [← hcn8, va_up_ne _ _ (by decide)]
  have hcn8_10 : cnt8 10 = cnt7 10 := by rw [← hcn8, va_up_ne _ _ (by decide)]
  have hcn8_11 : cnt8 11 = cnt7 11 := by rw [← hcn8, va_up_ne _ _ (by decide)]
  have hcn8_12 : cnt8 12 = cnt7 12 + 1 := by rw [← hcn8, va_up_self, hix8]
  have hcn8_13 : cnt8 13 = cnt7 13 := by rw [← hcn8, va_up_ne _ _ (by decide)]
  have hcn8_14 : cnt8 14 = cnt7 14 := by rw [← hcn8, va_up_ne _ _ (by decide)]
  have hcn8_15 : cnt8 15 = cnt7 15 := by rw [← hcn8, va_up_ne _ _ (by decide)]
  have hcn8_16 : cnt8 16 = cnt7 16 := by rw [← hcn8, va_up_ne _ _ (by decide)]
  have hcn8_17 : cnt8 17 = cnt7 17 := by rw [← hcn8, va_up_ne _ _ (by decide)]
  have hag8 : ∀ k i, i < cnt7 k → ad7 k i = ad8 k i := fun k i hi => by rw [← han8]; by_cases hk : k = 12; subst hk; exact (upd2_i _ _ _ (by omega)).symm; exact (upd2_k _ _ _ _ hk).symm
  have hcg8 : ∀ k i, i < cnt7 k → ct8 k i = ct7 k i := fun k i hi => by rw [← hct8]; by_cases hk : k = 12; subst hk; exact upd2_i _ _ _ (by omega); exact upd2_k _ _ _ _ hk
  have hle8 : ∀ k, cnt7 k ≤ cnt8 k := fun k => by rw [← hcn8]; by_cases hk : k = 12; subst hk; rw [va_up_self]; omega; rw [va_up_ne _ _ hk]; exact Nat.le_refl _
  have fa24 : ct8 0 0 = .inr (9, [.int 0, .int 0, .int 0, .int 0, .int 0, .int 0, .ref (ad1 1 i1), .ref (ad3 2 i3), .ref (ad5 3 i5), .null, .null, .null]) := by rw [hcg8 0 0 (by omega)]; exact fa19
  have fa25 : ct8 1 i1 = .inl (ca 3, 50, aQ (fun _ => none)) := by rw [hcg8 1 i1 (by omega)]; exact fa20
  have fa26 : ct8 2 i3 = .inl (ca 4, 60, aQ (fun _ => none)) := by rw [hcg8 2 i3 (by omega)]; exact fa21
  have fa27 : ct8 3 i5 = .inl (ca 5, 13, aQ (fun _ => none)) := by rw [hcg8 3 i5 (Nat.lt_of_lt_of_le (hin5) (hle7 _))]; exact fa22
  have fa28 : ct8 11 i7 = .inr (8, [.null, .int 0]) := by rw [hcg8 11 i7 (hin7)]; exact fa23
  have fa29 : ct8 12 i8 = .inl (ca 0, 100, .inl (fun _ => 0)) := by rw [← hct8, upd2_at]
  have hin8 : i8 < cnt8 12 := by omega
  generalize hct9 : upd2 ct8 11 i7 (.inr (8, [.ref (ad8 12 i8), .int 0])) = ct9 at hw
  have fa30 : ct9 0 0 = .inr (9, [.int 0, .int 0, .int 0, .int 0, .int 0, .int 0, .ref (ad1 1 i1), .ref (ad3 2 i3), .ref (ad5 3 i5), .null, .null, .null]) := by rw [← hct9, upd2_k _ _ _ _ (by decide)]; exact fa24
  have fa31 : ct9 1 i1 = .inl (ca 3, 50, aQ (fun _ => none)) := by rw [← hct9, upd2_k _ _ _ _ (by decide)]; exact fa25
  have fa32 : ct9 2 i3 = .inl (ca 4, 60, aQ (fun _ => none)) := by rw [← hct9, upd2_k _ _ _ _ (by decide)]; exact fa26
  have fa33 : ct9 3 i5 = .inl (ca 5, 13, aQ (fun _ => none)) := by rw [← hct9, upd2_k _ _ _ _ (by decide)]; exact fa27
  have fa34 : ct9 11 i7 = .inr (8, [.ref (ad8 12 i8), .int 0]) := by rw [← hct9, upd2_at]; try rfl
  have fa35 : ct9 12 i8 = .inl (ca 0, 100, .inl (fun _ => 0)) := by rw [← hct9, upd2_k _ _ _ _ (by decide)]; exact fa29
  have ev39_0 : ad7 0 0 = ad8 0 0 := hag8 0 0 (by omega)
  have ev39_1 : ad7 11 i7 = ad8 11 i7 := hag8 11 i7 (by omega)
  refine W.eq (g2 := F0 m 39 ls [.ref (ad8 11 i7), .ref (ad8 0 0)]) (by rw [ev39_0, ev39_1]) ?_
  refine x_put E hw 0 0 (by omega) fa30 cl_9 ly_9 tyX9 tyX9_ok nmX9 9 (by decide) tw_89 (Or.inl rfl) (by rfl) (by rfl) (Nat.le_of_ble_eq_true rfl) dX9_init_39 (fun H locs hw => ?_)
  generalize hct10 : upd2 ct9 0 0 (.inr (9, [.int 0, .int 0, .int 0, .int 0, .int 0, .int 0, .ref (ad1 1 i1), .ref (ad3 2 i3), .ref (ad5 3 i5), .null, .null, .null].set 9 (.ref (ad8 11 i7)))) = ct10 at hw
  have fa36 : ct10 0 0 = .inr (9, [.int 0, .int 0, .int 0, .int 0, .int 0, .int 0, .ref (ad1 1 i1), .ref (ad3 2 i3), .ref (ad5 3 i5), .ref (ad8 11 i7), .null, .null]) := by rw [← hct10, upd2_at]; try rfl
  have fa37 : ct10 1 i1 = .inl (ca 3, 50, aQ (fun _ => none)) := by rw [← hct10, upd2_k _ _ _ _ (by decide)]; exact fa31
  have fa38 : ct10 2 i3 = .inl (ca 4, 60, aQ (fun _ => none)) := by rw [← hct10, upd2_k _ _ _ _ (by decide)]; exact fa32
  have fa39 : ct10 3 i5 = .inl (ca 5, 13, aQ (fun _ => none)) := by rw [← hct10, upd2_k _ _ _ _ (by decide)]; exact fa33
  have fa40 : ct10 11 i7 = .inr (8, [.ref (ad8 12 i8), .int 0]) := by rw [← hct10, upd2_k _ _ _ _ (by decide)]; exact fa34
  have fa41 : ct10 12 i8 = .inl (ca 0, 100, .inl (fun _ => 0)) := by rw [← hct10, upd2_k _ _ _ _ (by decide)]; exact fa35
  refine lv_aload_n hx hb dX9_init_42 rfl (lv_at hl 0 rfl) ?_
  refine x_new (fs := [.null, .int 0]) E hw 11 cl_8 ly_8 tyX8 tyX8_ok tw_28 tw_29 tw_2 df_8 (by first | decide | (show _ ≤ (21 : Nat); omega)) (by first | decide | (show _ ≤ (360 : Nat); omega)) dX9_init_43 (fun q9 H hw => ?_)
  generalize hix11 : cnt8 11 = i11 at hw
  generalize hcn11 : va_up cnt8 11 (i11 + 1) = cnt11 at hw
  generalize han11 : upd2 ad8 11 i11 q9 = ad11 at hw
  generalize hct11 : upd2 ct10 11 i11 (.inr (8, [.null, .int 0])) = ct11 at hw
  have hqq11 : q9 = ad11 11 i11 := by rw [← han11, upd2_at]
  subst hqq11
  have hcn11_0 : cnt11 0 = cnt8 0 := by rw [← hcn11, va_up_ne _ _ (by decide)]
  have hcn11_1 : cnt11 1 = cnt8 1 := by rw [← hcn11, va_up_ne _ _ (by decide)]
  have hcn11_2 : cnt11 2 = cnt8 2 := by rw [← hcn11, va_up_ne _ _ (by decide)]
  have hcn11_3 : cnt11 3 = cnt8 3 := by rw [← hcn11, va_up_ne _ _ (by decide)]
  have hcn11_4 : cnt11 4 = cnt8 4 := by rw [← hcn11, va_up_ne _ _ (by decide)]
  have hcn11_5 : cnt11 5 = cnt8 5 := by rw [← hcn11, va_up_ne _ _ (by decide)]
  have hcn11_6 : cnt11 6 = cnt8 6 := by rw [← hcn11, va_up_ne _ _ (by decide)]
  have hcn11_7 : cnt11 7 = cnt8 7 := by rw [← hcn11, va_up_ne _ _ (by decide)]
  have hcn11_8 : cnt11 8 = cnt8 8 := by rw [← hcn11, va_up_ne _ _ (by decide)]
  have hcn11_9 : cnt11 9 = cnt8 9 := by rw [← hcn11, va_up_ne _ _ (by decide)]
  have hcn11_10 : cnt11 10 = cnt8 10 := by rw [← hcn11, va_up_ne _ _ (by decide)]
  have hcn11_11 : cnt11 11 = cnt8 11 + 1 := by rw [← hcn11, va_up_self, hix11]
  have hcn11_12 : cnt11 12 = cnt8 12 := by rw [← hcn11, va_up_ne _ _ (by decide)]
  have hcn11_13 : cnt11 13 = cnt8 13 := by rw [← hcn11, va_up_ne _ _ (by decide)]
  have hcn11_14 : cnt11 14 = cnt8 14 := by rw [← hcn11, va_up_ne _ _ (by decide)]
  have hcn11_15 : cnt11 15 = cnt8 15 := by rw [← hcn11, va_up_ne _ _ (by decide)]
  have hcn11_16 : cnt11 16 = cnt8 16 := by rw [← hcn11, va_up_ne _ _ (by decide)]
  have hcn11_17 : cnt11 17 = cnt8 17 := by rw [← hcn11, va_up_ne _ _ (by decide)]
  have hag11 : ∀ k i, i < cnt8 k → ad8 k i = ad11 k i := fun k i hi => by rw [← han11]; by_cases hk : k = 11; subst hk; exact (upd2_i _ _ _ (by omega)).symm; exact (upd2_k _ _ _ _ hk).symm
  have hcg11 : ∀ k i, i < cnt8 k → ct11 k i = ct10 k i := fun k i hi => by rw [← hct11]; by_cases hk : k = 11; subst hk; exact upd2_i _ _ _ (by omega); exact upd2_k _ _ _ _ hk
  have hle11 : ∀ k, cnt8 k ≤ cnt11 k := fun k => by rw [← hcn11]; by_cases hk : k = 11; subst hk; rw [va_up_self]; omega; rw [va_up_ne _ _ hk]; exact Nat.le_refl _
  have fa42 : ct11 0 0 = .inr (9, [.int 0, .int 0, .int 0, .int 0, .int 0, .int 0, .ref (ad1 1 i1), .ref (ad3 2 i3), .ref (ad5 3 i5), .ref (ad8 11 i7), .null, .null]) := by rw [hcg11 0 0 (by omega)]; exact fa36
  have fa43 : ct11 1 i1 = .inl (ca 3, 50, aQ (fun _ => none)) := by rw [hcg11 1 i1 (by omega)]; exact fa37
  have fa44 : ct11 2 i3 = .inl (ca 4, 60, aQ (fun _ => none)) := by rw [hcg11 2 i3 (by omega)]; exact fa38
  have fa45 : ct11 3 i5 = .inl (ca 5, 13, aQ (fun _ => none)) := by rw [hcg11 3 i5 (by omega)]; exact fa39
  have fa46 : ct11 11 i7 = .inr (8, [.ref (ad8 12 i8), .int 0]) := by rw [hcg11 11 i7 (Nat.lt_of_lt_of_le (hin7) (hle8 _))]; exact fa40
  have fa47 : ct11 12 i8 = .inl (ca 0, 100, .inl (fun _ => 0)) := by rw [hcg11 12 i8 (hin8)]; exact fa41
  have fa48 : ct11 11 i11 = .inr (8, [.null, .int 0]) := by rw [← hct11, upd2_at]
  have hin11 : i11 < cnt11 11 := by omega
  refine lv_dup hx hb dX9_init_46 rfl ?_
  have ev47_0 : ad 0 0 = ad11 0 0 := (hag1 0 0 (by omega)).trans ((hag3 0 0 (by omega)).trans ((hag5 0 0 (by omega)).trans ((hag7 0 0 (by omega)).trans ((hag8 0 0 (by omega)).trans (hag11 0 0 (by omega))))))
  refine W.eq (g2 := F0 m 47 ls [.ref (ad11 11 i11), .ref (ad11 11 i11), .ref (ad11 0 0)]) (by rw [ev47_0]) ?_
  refine x_wrote hw (x_runIN (rest := [.ref (ad11 11 i11), .ref (ad11 0 0)]) E cbX8_init E.2.2.2.2.2.2.1 (kX8_init l D ca cnt11 ad11 ct11 H.size  i11   (hin11) (fa48)) ⟨rfl, rfl, by decide, by decide⟩ (fun _ _ _ _ h => h) (fun U hU _ => by rw [hU]; exact ⟨rfl, hw.1⟩) rfl hl.1 rfl (Nat.le_of_ble_eq_true rfl) dX9_init_47 ⟨by first | decide | (show _ ≤ (21 : Nat); omega), by first | decide | (show _ ≤ (360 : Nat); omega)⟩) (fun rv9 u9 H locs hp9 hw hz9 hk9 => ?_)
  obtain ⟨hrv9, q9, hu9⟩ := hp9
  subst hrv9
  subst hu9
  dsimp only [Option.toList, List.nil_append] at hw ⊢
  skip
  generalize hix12 : cnt11 12 = i12 at hw
  generalize hcn12 : va_up cnt11 12 (i12 + 1) = cnt12 at hw
  generalize han12 : upd2 ad11 12 i12 q9 = ad12 at hw
  generalize hct12 : upd2 ct11 12 i12 (.inl (ca 0, 100, .inl (fun _ => 0))) = ct12 at hw
  have hqq12 : q9 = ad12 12 i12 := by rw [← han12, upd2_at]
  subst hqq12
  have hcn12_0 : cnt12 0 = cnt11 0 := by rw [← hcn12, va_up_ne _ _ (by decide)]
  have hcn12_1 : cnt12 1 = cnt11 1 := by rw [← hcn12, va_up_ne _ _ (by decide)]
  have hcn12_2 : cnt12 2 = cnt11 2 := by rw [← hcn12, va_up_ne _ _ (by decide)]
  have hcn12_3 : cnt12 3 = cnt11 3 := by rw [← hcn12, va_up_ne _ _ (by decide)]
  have hcn12_4 : cnt12 4 = cnt11 4 := by rw [← hcn12, va_up_ne _ _ (by decide)]
  have hcn12_5 : cnt12 5 = cnt11 5 := by rw [← hcn12, va_up_ne _ _ (by decide)]
  have hcn12_6 : cnt12 6 = cnt11 6 := by rw [← hcn12, va_up_ne _ _ (by decide)]
  have hcn12_7 : cnt12 7 = cnt11 7 := by rw [← hcn12, va_up_ne _ _ (by decide)]
  have hcn12_8 : cnt12 8 = cnt11 8 := by rw [← hcn12, va_up_ne _ _ (by decide)]
  have hcn12_9 : cnt12 9 = cnt11 9 := by rw [← hcn12, va_up_ne _ _ (by decide)]
  have hcn12_10 : cnt12 10 = cnt11 10 := by rw [← hcn12, va_up_ne _ _ (by decide)]
  have hcn12_11 : cnt12 11 = cnt11 11 := by rw [← hcn12, va_up_ne _ _ (by decide)]
  have hcn12_12 : cnt12 12 = cnt11 12 + 1 := by rw [← hcn12, va_up_self, hix12]
  have hcn12_13 : cnt12 13 = cnt11 13 := by rw [← hcn12, va_up_ne _ _ (by decide)]
  have hcn12_14 : cnt12 14 = cnt11 14 := by rw [← hcn12, va_up_ne _ _ (by decide)]
  have hcn12_15 : cnt12 15 = cnt11 15 := by rw [← hcn12, va_up_ne _ _ (by decide)]
  have hcn12_16 : cnt12 16 = cnt11 16 := by rw [← hcn12, va_up_ne _ _ (by decide)]
  have hcn12_17 : cnt12 17 = cnt11 17 := by rw [← hcn12, va_up_ne _ _ (by decide)]
  have hag12 : ∀ k i, i < cnt11 k → ad11 k i = ad12 k i := fun k i hi => by rw [← han12]; by_cases hk : k = 12; subst hk; exact (upd2_i _ _ _ (by omega)).symm; exact (upd2_k _ _ _ _ hk).symm
  have hcg12 : ∀ k i, i < cnt11 k → ct12 k i = ct11 k i := fun k i hi => by rw [← hct12]; by_cases hk : k = 12; subst hk; exact upd2_i _ _ _ (by omega); exact upd2_k _ _ _ _ hk
  have hle12 : ∀ k, cnt11 k ≤ cnt12 k := fun k => by rw [← hcn12]; by_cases hk : k = 12; subst hk; rw [va_up_self]; omega; rw [va_up_ne _ _ hk]; exact Nat.le_refl _
  have fa49 : ct12 0 0 = .inr (9, [.int 0, .int 0, .int 0, .int 0, .int 0, .int 0, .ref (ad1 1 i1), .ref (ad3 2 i3), .ref (ad5 3 i5), .ref (ad8 11 i7), .null, .null]) := by rw [hcg12 0 0 (by omega)]; exact fa42
  have fa50 : ct12 1 i1 = .inl (ca 3, 50, aQ (fun _ => none)) := by rw [hcg12 1 i1 (by omega)]; exact fa43
  have fa51 : ct12 2 i3 = .inl (ca 4, 60, aQ (fun _ => none)) := by rw [hcg12 2 i3 (by omega)]; exact fa44
  have fa52 : ct12 3 i5 = .inl (ca 5, 13, aQ (fun _ => none)) := by rw [hcg12 3 i5 (by omega)]; exact fa45
  have fa53 : ct12 11 i7 = .inr (8, [.ref (ad8 12 i8), .int 0]) := by rw [hcg12 11 i7 (by omega)]; exact fa46
  have fa54 : ct12 12 i8 = .inl (ca 0, 100, .inl (fun _ => 0)) := by rw [hcg12 12 i8 (Nat.lt_of_lt_of_le (hin8) (hle11 _))]; exact fa47
  have fa55 : ct12 11 i11 = .inr (8, [.null, .int 0]) := by rw [hcg12 11 i11 (hin11)]; exact fa48
  have fa56 : ct12 12 i12 = .inl (ca 0, 100, .inl (fun _ => 0)) := by rw [← hct12, upd2_at]
  have hin12 : i12 < cnt12 12 := by omega
  generalize hct13 : upd2 ct12 11 i11 (.inr (8, [.ref (ad12 12 i12), .int 0])) = ct13 at hw
  have fa57 : ct13 0 0 = .inr (9, [.int 0, .int 0, .int 0, .int 0, .int 0, .int 0, .ref (ad1 1 i1), .ref (ad3 2 i3), .ref (ad5 3 i5), .ref (ad8 11 i7), .null, .null]) := by rw [← hct13, upd2_k _ _ _ _ (by decide)]; exact fa49
  have fa58 : ct13 1 i1 = .inl (ca 3, 50, aQ (fun _ => none)) := by rw [← hct13, upd2_k _ _ _ _ (by decide)]; exact fa50
  have fa59 : ct13 2 i3 = .inl (ca 4, 60, aQ (fun _ => none)) := by rw [← hct13, upd2_k _ _ _ _ (by decide)]; exact fa51
  have fa60 : ct13 3 i5 = .inl (ca 5, 13, aQ (fun _ => none)) := by rw [← hct13, upd2_k _ _ _ _ (by decide)]; exact fa52
  have fa61 : ct13 11 i7 = .inr (8, [.ref (ad8 12 i8), .int 0]) := by rw [← hct13, upd2_i _ _ _ (by omega)]; exact fa53
  have fa62 : ct13 12 i8 = .inl (ca 0, 100, .inl (fun _ => 0)) := by rw [← hct13, upd2_k _ _ _ _ (by decide)]; exact fa54
  have fa63 : ct13 11 i11 = .inr (8, [.ref (ad12 12 i12), .int 0]) := by rw [← hct13, upd2_at]; try rfl
  have fa64 : ct13 12 i12 = .inl (ca 0, 100, .inl (fun _ => 0)) := by rw [← hct13, upd2_k _ _ _ _ (by decide)]; exact fa56
  have ev50_0 : ad11 0 0 = ad12 0 0 := hag12 0 0 (by omega)
  have ev50_1 : ad11 11 i11 = ad12 11 i11 := hag12 11 i11 (by omega)
  refine W.eq (g2 := F0 m 50 ls [.ref (ad12 11 i11), .ref (ad12 0 0)]) (by rw [ev50_0, ev50_1]) ?_
  refine x_put E hw 0 0 (by omega) fa57 cl_9 ly_9 tyX9 tyX9_ok nmX9 10 (by decide) tw_90 (Or.inl rfl) (by rfl) (by rfl) (Nat.le_of_ble_eq_true rfl) dX9_init_50 (fun H locs hw => ?_)
  generalize hct14 : upd2 ct13 0 0 (.inr (9, [.int 0, .int 0, .int 0, .int 0, .int 0, .int 0, .ref (ad1 1 i1), .ref (ad3 2 i3), .ref (ad5 3 i5), .ref (ad8 11 i7), .null, .null].set 10 (.ref (ad12 11 i11)))) = ct14 at hw
  have fa65 : ct14 0 0 = .inr (9, [.int 0, .int 0, .int 0, .int 0, .int 0, .int 0, .ref (ad1 1 i1), .ref (ad3 2 i3), .ref (ad5 3 i5), .ref (ad8 11 i7), .ref (ad12 11 i11), .null]) := by rw [← hct14, upd2_at]; try rfl
  have fa66 : ct14 1 i1 = .inl (ca 3, 50, aQ (fun _ => none)) := by rw [← hct14, upd2_k _ _ _ _ (by decide)]; exact fa58
  have fa67 : ct14 2 i3 = .inl (ca 4, 60, aQ (fun _ => none)) := by rw [← hct14, upd2_k _ _ _ _ (by decide)]; exact fa59
  have fa68 : ct14 3 i5 = .inl (ca 5, 13, aQ (fun _ => none)) := by rw [← hct14, upd2_k _ _ _ _ (by decide)]; exact fa60
  have fa69 : ct14 11 i7 = .inr (8, [.ref (ad8 12 i8), .int 0]) := by rw [← hct14, upd2_k _ _ _ _ (by decide)]; exact fa61
  have fa70 : ct14 12 i8 = .inl (ca 0, 100, .inl (fun _ => 0)) := by rw [← hct14, upd2_k _ _ _ _ (by decide)]; exact fa62
  have fa71 : ct14 11 i11 = .inr (8, [.ref (ad12 12 i12), .int 0]) := by rw [← hct14, upd2_k _ _ _ _ (by decide)]; exact fa63
  have fa72 : ct14 12 i12 = .inl (ca 0, 100, .inl (fun _ => 0)) := by rw [← hct14, upd2_k _ _ _ _ (by decide)]; exact fa64
  refine lv_aload_n hx hb dX9_init_53 rfl (lv_at hl 0 rfl) ?_
  refine x_new (fs := [.null, .null, .int 0, .int 0]) E hw 13 cl_7 ly_7 tyX7 tyX7_ok tw_44 tw_45 tw_3 df_7 (by first | decide | (show _ ≤ (21 : Nat); omega)) (by first | decide | (show _ ≤ (360 : Nat); omega)) dX9_init_54 (fun q9 H hw => ?_)
  generalize hix15 : cnt12 13 = i15 at hw
  generalize hcn15 : va_up cnt12 13 (i15 + 1) = cnt15 at hw
  generalize han15 : upd2 ad12 13 i15 q9 = ad15 at hw
  generalize hct15 : upd2 ct14 13 i15 (.inr (7, [.null, .null, .int 0, .int 0])) = ct15 at hw
  have hqq15 : q9 = ad15 13 i15 := by rw [← han15, upd2_at]
  subst hqq15
  have hcn15_0 : cnt15 0 = cnt12 0 := by rw [← hcn15, va_up_ne _ _ (by decide)]
  have hcn15_1 : cnt15 1 = cnt12 1 := by rw [← hcn15, va_up_ne _ _ (by decide)]
  have hcn15_2 : cnt15 2 = cnt12 2 := by rw [← hcn15, va_up_ne _ _ (by decide)]
  have hcn15_3 : cnt15 3 = cnt12 3 := by rw [← hcn15, va_up_ne _ _ (by decide)]
  have hcn15_4 : cnt15 4 = cnt12 4 := by rw [← hcn15, va_up_ne _ _ (by decide)]
  have hcn15_5 : cnt15 5 = cnt12 5 := by rw [← hcn15, va_up_ne _ _ (by decide)]
  have hcn15_6 : cnt15 6 = cnt12 6 := by rw [← hcn15, va_up_ne _ _ (by decide)]
  have hcn15_7 : cnt15 7 = cnt12 7 := by rw [← hcn15, va_up_ne _ _ (by decide)]
  have hcn15_8 : cnt15 8 = cnt12 8 := by rw [← hcn15, va_up_ne _ _ (by decide)]
  have hcn15_9 : cnt15 9 = cnt12 9 := by rw [← hcn15, va_up_ne _ _ (by decide)]
  have hcn15_10 : cnt15 10 = cnt12 10 := by rw [← hcn15, va_up_ne _ _ (by decide)]
  have hcn15_11 : cnt15 11 = cnt12 11 := by rw [← hcn15, va_up_ne _ _ (by decide)]
  have hcn15_12 : cnt15 12 = cnt12 12 := by rw [← hcn15, va_up_ne _ _ (by decide)]
  have hcn15_13 : cnt15 13 = cnt12 13 + 1 := by rw [← hcn15, va_up_self, hix15]
  have hcn15_14 : cnt15 14 = cnt12 14 := by rw [← hcn15, va_up_ne _ _ (by decide)]
  have hcn15_15 : cnt15 15 = cnt12 15 := by rw [← hcn15, va_up_ne _ _ (by decide)]
  have hcn15_16 : cnt15 16 = cnt12 16 := by rw [← hcn15, va_up_ne _ _ (by decide)]
  have hcn15_17 : cnt15 17 = cnt12 17 := by rw [← hcn15, va_up_ne _ _ (by decide)]
  have hag15 : ∀ k i, i < cnt12 k → ad12 k i = ad15 k i := fun k i hi => by rw [← han15]; by_cases hk : k = 13; subst hk; exact (upd2_i _ _ _ (by omega)).symm; exact (upd2_k _ _ _ _ hk).symm
  have hcg15 : ∀ k i, i < cnt12 k → ct15 k i = ct14 k i := fun k i hi => by rw [← hct15]; by_cases hk : k = 13; subst hk; exact upd2_i _ _ _ (by omega); exact upd2_k _ _ _ _ hk
  have hle15 : ∀ k, cnt12 k ≤ cnt15 k := fun k => by rw [← hcn15]; by_cases hk : k = 13; subst hk; rw [va_up_self]; omega; rw [va_up_ne _ _ hk]; exact Nat.le_refl _
  have fa73 : ct15 0 0 = .inr (9, [.int 0, .int 0, .int 0, .int 0, .int 0, .int 0, .ref (ad1 1 i1), .ref (ad3 2 i3), .ref (ad5 3 i5), .ref (ad8 11 i7), .ref (ad12 11 i11), .null]) := by rw [hcg15 0 0 (by omega)]; exact fa65
  have fa74 : ct15 1 i1 = .inl (ca 3, 50, aQ (fun _ => none)) := by rw [hcg15 1 i1 (by omega)]; exact fa66
  have fa75 : ct15 2 i3 = .inl (ca 4, 60, aQ (fun _ => none)) := by rw [hcg15 2 i3 (by omega)]; exact fa67
  have fa76 : ct15 3 i5 = .inl (ca 5, 13, aQ (fun _ => none)) := by rw [hcg15 3 i5 (by omega)]; exact fa68
  have fa77 : ct15 11 i7 = .inr (8, [.ref (ad8 12 i8), .int 0]) := by rw [hcg15 11 i7 (by omega)]; exact fa69
  have fa78 : ct15 12 i8 = .inl (ca 0, 100, .inl (fun _ => 0)) := by rw [hcg15 12 i8 (by omega)]; exact fa70
  have fa79 : ct15 11 i11 = .inr (8, [.ref (ad12 12 i12), .int 0]) := by rw [hcg15 11 i11 (Nat.lt_of_lt_of_le (hin11) (hle12 _))]; exact fa71
  have fa80 : ct15 12 i12 = .inl (ca 0, 100, .inl (fun _ => 0)) := by rw [hcg15 12 i12 (hin12)]; exact fa72
  have fa81 : ct15 13 i15 = .inr (7, [.null, .null, .int 0, .int 0]) := by rw [← hct15, upd2_at]
  have hin15 : i15 < cnt15 13 := by omega
  refine lv_dup hx hb dX9_init_57 rfl ?_
  refine lv_aload_n hx hb dX9_init_58 rfl (lv_at hl 0 rfl) ?_
  have ev59_0 : ad 0 0 = ad15 0 0 := (hag1 0 0 (by omega)).trans ((hag3 0 0 (by omega)).trans ((hag5 0 0 (by omega)).trans ((hag7 0 0 (by omega)).trans ((hag8 0 0 (by omega)).trans ((hag11 0 0 (by omega)).trans ((hag12 0 0 (by omega)).trans (hag15 0 0 (by omega))))))))
  refine W.eq (g2 := F0 m 59 ls [.ref (ad15 0 0), .ref (ad15 13 i15), .ref (ad15 13 i15), .ref (ad15 0 0)]) (by rw [ev59_0]) ?_
  refine x_get E hw 0 0 (by omega) fa73 cl_9 ly_9 10 (by decide) tw_90 rfl dX9_init_59 ?_
  have ev62_0 : ad12 11 i11 = ad15 11 i11 := hag15 11 i11 (by omega)
  refine W.eq (g2 := F0 m 62 ls [.ref (ad15 11 i11), .ref (ad15 13 i15), .ref (ad15 13 i15), .ref (ad15 0 0)]) (by rw [ev62_0]) ?_
  refine x_wrote hw (x_runI (rest := [.ref (ad15 13 i15), .ref (ad15 0 0)]) E cbX7_init tw_46 (kX7_init l D ca cnt15 ad15 ct15 H.size  i15  i11 (hin15) (fa81) (by omega)) ⟨rfl, rfl, by decide, by decide⟩ (fun U g9 mk9 a9 h => ⟨h.1, h.2.1, lets_blind h.2.2⟩) (fun U hU hW9 => ⟨by rw [hU], by rw [hU]; exact hw.1, lets_call hLt hw hU hW9⟩) rfl hl.1 rfl (Nat.le_of_ble_eq_true rfl) dX9_init_62 ⟨by first | decide | (show _ ≤ (21 : Nat); omega), by first | decide | (show _ ≤ (360 : Nat); omega)⟩) (fun rv9 u9 H locs hp9 hw hz9 hk9 => ?_)
  obtain ⟨hrv9, q9, hu9⟩ := hp9
  subst hrv9
  subst hu9
  dsimp only [Option.toList, List.nil_append] at hw ⊢
  skip
  generalize hix16 : cnt15 14 = i16 at hw
  generalize hcn16 : va_up cnt15 14 (i16 + 1) = cnt16 at hw
  generalize han16 : upd2 ad15 14 i16 q9 = ad16 at hw
  generalize hct16 : upd2 ct15 14 i16 (.inl (ca 1, 5, .inl (fun _ => 0))) = ct16 at hw
  have hqq16 : q9 = ad16 14 i16 := by rw [← han16, upd2_at]
  subst hqq16
  have hcn16_0 : cnt16 0 = cnt15 0 := by rw [← hcn16, va_up_ne _ _ (by decide)]
  have hcn16_1 : cnt16 1 = cnt15 1 := by rw [← hcn16, va_up_ne _ _ (by decide)]
  have hcn16_2 : cnt16 2 = cnt15 2 := by rw [← hcn16, va_up_ne _ _ (by decide)]
  have hcn16_3 : cnt16 3 = cnt15 3 := by rw [← hcn16, va_up_ne _ _ (by decide)]
  have hcn16_4 : cnt16 4 = cnt15 4 := by rw [← hcn16, va_up_ne _ _ (by decide)]
  have hcn16_5 : cnt16 5 = cnt15 5 := by rw [← hcn16, va_up_ne _ _ (by decide)]
  have hcn16_6 : cnt16 6 = cnt15 6 := by rw [← hcn16, va_up_ne _ _ (by decide)]
  have hcn16_7 : cnt16 7 = cnt15 7 := by rw [← hcn16, va_up_ne _ _ (by decide)]
  have hcn16_8 : cnt16 8 = cnt15 8 := by rw [← hcn16, va_up_ne _ _ (by decide)]
  have hcn16_9 : cnt16 9 = cnt15 9 := by rw [← hcn16, va_up_ne _ _ (by decide)]
  have hcn16_10 : cnt16 10 = cnt15 10 := by rw [← hcn16, va_up_ne _ _ (by decide)]
  have hcn16_11 : cnt16 11 = cnt15 11 := by rw [← hcn16, va_up_ne _ _ (by decide)]
  have hcn16_12 : cnt16 12 = cnt15 12 := by rw [← hcn16, va_up_ne _ _ (by decide)]
  have hcn16_13 : cnt16 13 = cnt15 13 := by rw [← hcn16, va_up_ne _ _ (by decide)]
  have hcn16_14 : cnt16 14 = cnt15 14 + 1 := by rw [← hcn16, va_up_self, hix16]
  have hcn16_15 : cnt16 15 = cnt15 15 := by rw [← hcn16, va_up_ne _ _ (by decide)]
  have hcn16_16 : cnt16 16 = cnt15 16 := by rw [← hcn16, va_up_ne _ _ (by decide)]
  have hcn16_17 : cnt16 17 = cnt15 17 := by rw [← hcn16, va_up_ne _ _ (by decide)]
  have hag16 : ∀ k i, i < cnt15 k → ad15 k i = ad16 k i := fun k i hi => by rw [← han16]; by_cases hk : k = 14; subst hk; exact (upd2_i _ _ _ (by omega)).symm; exact (upd2_k _ _ _ _ hk).symm
  have hcg16 : ∀ k i, i < cnt15 k → ct16 k i = ct15 k i := fun k i hi => by rw [← hct16]; by_cases hk : k = 14; subst hk; exact upd2_i _ _ _ (by omega); exact upd2_k _ _ _ _ hk
  have hle16 : ∀ k, cnt15 k ≤ cnt16 k := fun k => by rw [← hcn16]; by_cases hk : k = 14; subst hk; rw [va_up_self]; omega; rw [va_up_ne _ _ hk]; exact Nat.le_refl _
  have fa82 : ct16 0 0 = .inr (9, [.int 0, .int 0, .int 0, .int 0, .int 0, .int 0, .ref (ad1 1 i1), .ref (ad3 2 i3), .ref (ad5 3 i5), .ref (ad8 11 i7), .ref (ad12 11 i11), .null]) := by rw [hcg16 0 0 (by omega)]; exact fa73
  have fa83 : ct16 1 i1 = .inl (ca 3, 50, aQ (fun _ => none)) := by rw [hcg16 1 i1 (by omega)]; exact fa74
  have fa84 : ct16 2 i3 = .inl (ca 4, 60, aQ (fun _ => none)) := by rw [hcg16 2 i3 (by omega)]; exact fa75
  have fa85 : ct16 3 i5 = .inl (ca 5, 13, aQ (fun _ => none)) := by rw [hcg16 3 i5 (by omega)]; exact fa76
  have fa86 : ct16 11 i7 = .inr (8, [.ref (ad8 12 i8), .int 0]) := by rw [hcg16 11 i7 (by omega)]; exact fa77
  have fa87 : ct16 12 i8 = .inl (ca 0, 100, .inl (fun _ => 0)) := by rw [hcg16 12 i8 (by omega)]; exact fa78
  have fa88 : ct16 11 i11 = .inr (8, [.ref (ad12 12 i12), .int 0]) := by rw [hcg16 11 i11 (by omega)]; exact fa79
  have fa89 : ct16 12 i12 = .inl (ca 0, 100, .inl (fun _ => 0)) := by rw [hcg16 12 i12 (Nat.lt_of_lt_of_le (hin12) (hle15 _))]; exact fa80
  have fa90 : ct16 13 i15 = .inr (7, [.null, .null, .int 0, .int 0]) := by rw [hcg16 13 i15 (hin15)]; exact fa81
  have fa91 : ct16 14 i16 = .inl (ca 1, 5, .inl (fun _ => 0)) := by rw [← hct16, upd2_at]
  have hin16 : i16 < cnt16 14 := by omega
  generalize hct17 : upd2 ct16 13 i15 (.inr (7, [.ref (ad16 14 i16), .ref (ad15 11 i11), .int 0, .int 0])) = ct17 at hw
  have fa92 : ct17 0 0 = .inr (9, [.int 0, .int 0, .int 0, .int 0, .int 0, .int 0, .ref (ad1 1 i1), .ref (ad3 2 i3), .ref (ad5 3 i5), .ref (ad8 11 i7), .ref (ad12 11 i11), .null]) := by rw [← hct17, upd2_k _ _ _ _ (by decide)]; exact fa82
  have fa93 : ct17 1 i1 = .inl (ca 3, 50, aQ (fun _ => none)) := by rw [← hct17, upd2_k _ _ _ _ (by decide)]; exact fa83
  have fa94 : ct17 2 i3 = .inl (ca 4, 60, aQ (fun _ => none)) := by rw [← hct17, upd2_k _ _ _ _ (by decide)]; exact fa84
  have fa95 : ct17 3 i5 = .inl (ca 5, 13, aQ (fun _ => none)) := by rw [← hct17, upd2_k _ _ _ _ (by decide)]; exact fa85
  have fa96 : ct17 11 i7 = .inr (8, [.ref (ad8 12 i8), .int 0]) := by rw [← hct17, upd2_k _ _ _ _ (by decide)]; exact fa86
  have fa97 : ct17 12 i8 = .inl (ca 0, 100, .inl (fun _ => 0)) := by rw [← hct17, upd2_k _ _ _ _ (by decide)]; exact fa87
  have fa98 : ct17 11 i11 = .inr (8, [.ref (ad12 12 i12), .int 0]) := by rw [← hct17, upd2_k _ _ _ _ (by decide)]; exact fa88
  have fa99 : ct17 12 i12 = .inl (ca 0, 100, .inl (fun _ => 0)) := by rw [← hct17, upd2_k _ _ _ _ (by decide)]; exact fa89
  have fa100 : ct17 13 i15 = .inr (7, [.ref (ad16 14 i16), .ref (ad15 11 i11), .int 0, .int 0]) := by rw [← hct17, upd2_at]; try rfl
  have fa101 : ct17 14 i16 = .inl (ca 1, 5, .inl (fun _ => 0)) := by rw [← hct17, upd2_k _ _ _ _ (by decide)]; exact fa91
  have ev65_0 : ad15 0 0 = ad16 0 0 := hag16 0 0 (by omega)
  have ev65_1 : ad15 13 i15 = ad16 13 i15 := hag16 13 i15 (by omega)
  refine W.eq (g2 := F0 m 65 ls [.ref (ad16 13 i15), .ref (ad16 0 0)]) (by rw [ev65_0, ev65_1]) ?_
  refine x_put E hw 0 0 (by omega) fa92 cl_9 ly_9 tyX9 tyX9_ok nmX9 11 (by decide) tw_91 (Or.inr ⟨rfl, hnm, rfl⟩) (by rfl) (by rfl) (Nat.le_of_ble_eq_true rfl) dX9_init_65 (fun H locs hw => ?_)
  generalize hct18 : upd2 ct17 0 0 (.inr (9, [.int 0, .int 0, .int 0, .int 0, .int 0, .int 0, .ref (ad1 1 i1), .ref (ad3 2 i3), .ref (ad5 3 i5), .ref (ad8 11 i7), .ref (ad12 11 i11), .null].set 11 (.ref (ad16 13 i15)))) = ct18 at hw
  have fa102 : ct18 0 0 = .inr (9, [.int 0, .int 0, .int 0, .int 0, .int 0, .int 0, .ref (ad1 1 i1), .ref (ad3 2 i3), .ref (ad5 3 i5), .ref (ad8 11 i7), .ref (ad12 11 i11), .ref (ad16 13 i15)]) := by rw [← hct18, upd2_at]; try rfl
  have fa103 : ct18 1 i1 = .inl (ca 3, 50, aQ (fun _ => none)) := by rw [← hct18, upd2_k _ _ _ _ (by decide)]; exact fa93
  have fa104 : ct18 2 i3 = .inl (ca 4, 60, aQ (fun _ => none)) := by rw [← hct18, upd2_k _ _ _ _ (by decide)]; exact fa94
  have fa105 : ct18 3 i5 = .inl (ca 5, 13, aQ (fun _ => none)) := by rw [← hct18, upd2_k _ _ _ _ (by decide)]; exact fa95
  have fa106 : ct18 11 i7 = .inr (8, [.ref (ad8 12 i8), .int 0]) := by rw [← hct18, upd2_k _ _ _ _ (by decide)]; exact fa96
  have fa107 : ct18 12 i8 = .inl (ca 0, 100, .inl (fun _ => 0)) := by rw [← hct18, upd2_k _ _ _ _ (by decide)]; exact fa97
  have fa108 : ct18 11 i11 = .inr (8, [.ref (ad12 12 i12), .int 0]) := by rw [← hct18, upd2_k _ _ _ _ (by decide)]; exact fa98
  have fa109 : ct18 12 i12 = .inl (ca 0, 100, .inl (fun _ => 0)) := by rw [← hct18, upd2_k _ _ _ _ (by decide)]; exact fa99
  have fa110 : ct18 13 i15 = .inr (7, [.ref (ad16 14 i16), .ref (ad15 11 i11), .int 0, .int 0]) := by rw [← hct18, upd2_k _ _ _ _ (by decide)]; exact fa100
  have fa111 : ct18 14 i16 = .inl (ca 1, 5, .inl (fun _ => 0)) := by rw [← hct18, upd2_k _ _ _ _ (by decide)]; exact fa101
  refine lv_iconst (v := 1) hx hb dX9_init_68 (by decide) ?_
  refine lv_istore_n (lv' := [(1, .int 1), (0, .ref (ad 0 0))]) hx hb dX9_init_69 rfl hl (by decide) rfl (fun ls hl => ?_)
  have hI_i1 : i1 = 0 := by omega
  have hI_i3 : i3 = 0 := by omega
  have hI_i5 : i5 = 0 := by omega
  have hI_i15 : i15 = 0 := by omega
  have hI_i16 : i16 = 0 := by omega
  have hI_i7 : i7 = 0 := by omega
  have hI_i11 : i11 = 1 := by omega
  have hI_i8 : i8 = 0 := by omega
  have hI_i12 : i12 = 1 := by omega
  have hW0 : wI ca cnt16 ad16 ct18 (fun _ => none) 0 := ⟨⟨by omega, by omega, by omega, by omega, by omega, by omega, by omega, by omega, by omega, by omega, by omega, by omega, by omega⟩, (by have q9 := fa102; rw [(show ad1 1 i1 = ad16 1 i1 from (hag3 1 i1 (by omega)).trans ((hag5 1 i1 (by omega)).trans ((hag7 1 i1 (by omega)).trans ((hag8 1 i1 (by omega)).trans ((hag11 1 i1 (by omega)).trans ((hag12 1 i1 (by omega)).trans ((hag15 1 i1 (by omega)).trans (hag16 1 i1 (by omega))))))))), (show ad3 2 i3 = ad16 2 i3 from (hag5 2 i3 (by omega)).trans ((hag7 2 i3 (by omega)).trans ((hag8 2 i3 (by omega)).trans ((hag11 2 i3 (by omega)).trans ((hag12 2 i3 (by omega)).trans ((hag15 2 i3 (by omega)).trans (hag16 2 i3 (by omega)))))))), (show ad5 3 i5 = ad16 3 i5 from (hag7 3 i5 (by omega)).trans ((hag8 3 i5 (by omega)).trans ((hag11 3 i5 (by omega)).trans ((hag12 3 i5 (by omega)).trans ((hag15 3 i5 (by omega)).trans (hag16 3 i5 (by omega))))))), (show ad8 11 i7 = ad16 11 i7 from (hag11 11 i7 (by omega)).trans ((hag12 11 i7 (by omega)).trans ((hag15 11 i7 (by omega)).trans (hag16 11 i7 (by omega))))), (show ad12 11 i11 = ad16 11 i11 from (hag15 11 i11 (by omega)).trans (hag16 11 i11 (by omega)))] at q9; simp only [hI_i1, hI_i3, hI_i5, hI_i15, hI_i16, hI_i7, hI_i11, hI_i8, hI_i12] at q9; exact q9), (by have q9 := fa103; simp only [hI_i1, hI_i3, hI_i5, hI_i15, hI_i16, hI_i7, hI_i11, hI_i8, hI_i12] at q9; exact q9), (by have q9 := fa104; simp only [hI_i1, hI_i3, hI_i5, hI_i15, hI_i16, hI_i7, hI_i11, hI_i8, hI_i12] at q9; exact q9), (by have q9 := fa105; simp only [hI_i1, hI_i3, hI_i5, hI_i15, hI_i16, hI_i7, hI_i11, hI_i8, hI_i12] at q9; exact q9), fun i hi => absurd hi (Nat.not_lt_zero _), (by have q9 := fa106; rw [(show ad8 12 i8 = ad16 12 i8 from (hag11 12 i8 (by omega)).trans ((hag12 12 i8 (by omega)).trans ((hag15 12 i8 (by omega)).trans (hag16 12 i8 (by omega)))))] at q9; simp only [hI_i1, hI_i3, hI_i5, hI_i15, hI_i16, hI_i7, hI_i11, hI_i8, hI_i12] at q9; exact q9), (by have q9 := fa108; rw [(show ad12 12 i12 = ad16 12 i12 from (hag15 12 i12 (by omega)).trans (hag16 12 i12 (by omega)))] at q9; simp only [hI_i1, hI_i3, hI_i5, hI_i15, hI_i16, hI_i7, hI_i11, hI_i8, hI_i12] at q9; exact q9), (by have q9 := fa107; simp only [hI_i1, hI_i3, hI_i5, hI_i15, hI_i16, hI_i7, hI_i11, hI_i8, hI_i12] at q9; exact q9), (by have q9 := fa109; simp only [hI_i1, hI_i3, hI_i5, hI_i15, hI_i16, hI_i7, hI_i11, hI_i8, hI_i12] at q9; exact q9), (by have q9 := fa110; rw [(show ad15 11 i11 = ad16 11 i11 from hag16 11 i11 (by omega))] at q9; simp only [hI_i1, hI_i3, hI_i5, hI_i15, hI_i16, hI_i7, hI_i11, hI_i8, hI_i12] at q9; exact q9), (by have q9 := fa111; simp only [hI_i1, hI_i3, hI_i5, hI_i15, hI_i16, hI_i7, hI_i11, hI_i8, hI_i12] at q9; exact q9)⟩
  have hA0 : ad16 0 0 = ad 0 0 := ((hag1 0 0 (by omega)).trans ((hag3 0 0 (by omega)).trans ((hag5 0 0 (by omega)).trans ((hag7 0 0 (by omega)).trans ((hag8 0 0 (by omega)).trans ((hag11 0 0 (by omega)).trans ((hag12 0 0 (by omega)).trans ((hag15 0 0 (by omega)).trans (hag16 0 0 (by omega)))))))))).symm
  have lp70 : ∀ (n : Nat) (z : Nat) (cnt90 : Nat → Nat) (ad90 : Nat → Nat → Nat) (ct90 : Nat → Nat → va_E) (fN : Nat → Option Nat), (z ≤ 12) → (wI ca cnt90 ad90 ct90 fN z) → (ad90 0 0 = ad 0 0) → (12 - z < n) → ∀ (H : Heap) (locs : List Loc), wd D A s.heap cnt90 ad90 ct90 H locs → ∀ ls : Array Slot, lv_has ls 2 [(0, .ref (ad90 0 0)), (1, .int (nI (z + 1)))] → W p l e (rmL 3 21 360) s m args below meth c H locs (9 + z) (336 + 2 * z) Q (F0 m 70 ls []) := by
    intro n
    induction n with
    | zero =>
      intro z cnt90 ad90 ct90 fN hz hWI hA90 hfu H locs hw ls hl
      exact absurd hfu (by omega)
    | succ n ih70 =>
      intro z cnt90 ad90 ct90 fN hz hWI hA90 hfu H locs hw ls hl
      have hWc := hWI.1
      refine lv_iload_n hx hb dX9_init_70 rfl (lv_at hl 1 rfl) ?_
      refine lv_bipush (v := 12) hx hb dX9_init_71 (by decide) ?_
      refine lv_icmp_gt (tgt := 95) hx hb dX9_init_73 (by decide) (fun c_73 => ?_) (fun c_73 => ?_)
      · skip
        have hz12 : z = 12 := by have q9 := (nI_ltI (a := 12) (b := z + 1) (by omega) (by omega)).mp c_73; omega
        subst hQ
        exact x_vretW E hr hlk hw (by first | decide | (show _ ≤ (21 : Nat); omega)) (by first | decide | (show _ ≤ (360 : Nat); omega)) (⟨rfl, by subst hz12; exact cRep_0 hWI, hA90⟩) dX9_init_95
      · skip
        have hz12 : z < 12 := by have q9 := mt (nI_ltI (a := 12) (b := z + 1) (by omega) (by omega)).mpr c_73; omega
        refine lv_aload_n hx hb dX9_init_76 rfl (lv_at hl 0 rfl) ?_
        refine x_get E hw 0 0 (by omega) hWI.2.1 cl_9 ly_9 8 (by decide) tw_88 rfl dX9_init_77 ?_
        refine lv_iload_n hx hb dX9_init_80 rfl (lv_at hl 1 rfl) ?_
        refine x_new (fs := [.int 0, .null]) E hw 9 cl_6 ly_6 tyX6 tyX6_ok tw_26 tw_67 tw_4 df_6 (by first | decide | (show _ ≤ (21 : Nat); omega)) (by first | decide | (show _ ≤ (360 : Nat); omega)) dX9_init_81 (fun q9 H hw => ?_)
        generalize hix91 : cnt90 9 = i91 at hw
        generalize hcn91 : va_up cnt90 9 (i91 + 1) = cnt91 at hw
        generalize han91 : upd2 ad90 9 i91 q9 = ad91 at hw
        generalize hct91 : upd2 ct90 9 i91 (.inr (6, [.int 0, .null])) = ct91 at hw
        have hqq91 : q9 = ad91 9 i91 := by rw [← han91, upd2_at]
        subst hqq91
        have hcn91_0 : cnt91 0 = cnt90 0 := by rw [← hcn91, va_up_ne _ _ (by decide)]
        have hcn91_1 : cnt91 1 = cnt90 1 := by rw [← hcn91, va_up_ne _ _ (by decide)]
        have hcn91_2 : cnt91 2 = cnt90 2 := by rw [← hcn91, va_up_ne _ _ (by decide)]
        have hcn91_3 : cnt91 3 = cnt90 3 := by rw [← hcn91, va_up_ne _ _ (by decide)]
        have hcn91_4 : cnt91 4 = cnt90 4 := by rw [← hcn91, va_up_ne _ _ (by decide)]
        have hcn91_5 : cnt91 5 = cnt90 5 := by rw [← hcn91, va_up_ne _ _ (by decide)]
        have hcn91_6 : cnt91 6 = cnt90 6 := by rw [← hcn91, va_up_ne _ _ (by decide)]
        have hcn91_7 : cnt91 7 = cnt90 7 := by rw [← hcn91, va_up_ne _ _ (by decide)]
        have hcn91_8 : cnt91 8 = cnt90 8 := by rw [← hcn91, va_up_ne _ _ (by decide)]
        have hcn91_9 : cnt91 9 = cnt90 9 + 1 := by rw [← hcn91, va_up_self, hix91]
        have hcn91_10 : cnt91 10 = cnt90 10 := by rw [← hcn91, va_up_ne _ _ (by decide)]
        have hcn91_11 : cnt91 11 = cnt90 11 := by rw [← hcn91, va_up_ne _ _ (by decide)]
        have hcn91_12 : cnt91 12 = cnt90 12 := by rw [← hcn91, va_up_ne _ _ (by decide)]
        have hcn91_13 : cnt91 13 = cnt90 13 := by rw [← hcn91, va_up_ne _ _ (by decide)]
        have hcn91_14 : cnt91 14 = cnt90 14 := by rw [← hcn91, va_up_ne _ _ (by decide)]
        have hcn91_15 : cnt91 15 = cnt90 15 := by rw [← hcn91, va_up_ne _ _ (by decide)]
        have hcn91_16 : cnt91 16 = cnt90 16 := by rw [← hcn91, va_up_ne _ _ (by decide)]
        have hcn91_17 : cnt91 17 = cnt90 17 := by rw [← hcn91, va_up_ne _ _ (by decide)]
        have hag91 : ∀ k i, i < cnt90 k → ad90 k i = ad91 k i := fun k i hi => by rw [← han91]; by_cases hk : k = 9; subst hk; exact (upd2_i _ _ _ (by omega)).symm; exact (upd2_k _ _ _ _ hk).symm
        have hcg91 : ∀ k i, i < cnt90 k → ct91 k i = ct90 k i := fun k i hi => by rw [← hct91]; by_cases hk : k = 9; subst hk; exact upd2_i _ _ _ (by omega); exact upd2_k _ _ _ _ hk
        have hle91 : ∀ k, cnt90 k ≤ cnt91 k := fun k => by rw [← hcn91]; by_cases hk : k = 9; subst hk; rw [va_up_self]; omega; rw [va_up_ne _ _ hk]; exact Nat.le_refl _
        have fa112 : ct91 0 0 = .inr (9, [.int 0, .int 0, .int 0, .int 0, .int 0, .int 0, .ref (ad90 1 0), .ref (ad90 2 0), .ref (ad90 3 0), .ref (ad90 11 0), .ref (ad90 11 1), .ref (ad90 13 0)]) := by rw [hcg91 0 0 (by omega)]; exact hWI.2.1
        have fa113 : ct91 3 0 = .inl (ca 5, 13, aQ fN) := by rw [hcg91 3 0 (by omega)]; exact hWI.2.2.2.2.1
        have fa114 : ct91 9 i91 = .inr (6, [.int 0, .null]) := by rw [← hct91, upd2_at]
        have hin91 : i91 < cnt91 9 := by omega
        refine lv_dup hx hb dX9_init_84 rfl ?_
        have ev85_0 : ad90 3 0 = ad91 3 0 := hag91 3 0 (by omega)
        refine W.eq (g2 := F0 m 85 ls [.ref (ad91 9 i91), .ref (ad91 9 i91), .int (nI (z + 1)), .ref (ad91 3 0)]) (by rw [ev85_0]) ?_
        refine x_wrote hw (x_runIN (rest := [.ref (ad91 9 i91), .int (nI (z + 1)), .ref (ad91 3 0)]) E cbX6_init E.2.2.2.2.2.2.2.1 (kX6_init l D ca cnt91 ad91 ct91 H.size  i91   (hin91) (fa114)) ⟨rfl, rfl, by decide, by decide⟩ (fun _ _ _ _ h => h) (fun U hU _ => by rw [hU]; exact ⟨rfl, hw.1⟩) rfl hl.1 rfl (Nat.le_of_ble_eq_true rfl) dX9_init_85 ⟨by first | decide | (show _ ≤ (21 : Nat); omega), by first | decide | (show _ ≤ (360 : Nat); omega)⟩) (fun rv9 u9 H locs hp9 hw hz9 hk9 => ?_)
        obtain ⟨hrv9, hu9⟩ := hp9
        subst hrv9
        subst hu9
        dsimp only [Option.toList, List.nil_append] at hw ⊢
        generalize hct92 : upd2 ct91 9 i91 (.inr (6, [.int 2, .null])) = ct92 at hw
        have fa115 : ct92 0 0 = .inr (9, [.int 0, .int 0, .int 0, .int 0, .int 0, .int 0, .ref (ad90 1 0), .ref (ad90 2 0), .ref (ad90 3 0), .ref (ad90 11 0), .ref (ad90 11 1), .ref (ad90 13 0)]) := by rw [← hct92, upd2_k _ _ _ _ (by decide)]; exact fa112
        have fa116 : ct92 3 0 = .inl (ca 5, 13, aQ fN) := by rw [← hct92, upd2_k _ _ _ _ (by decide)]; exact fa113
        have fa117 : ct92 9 i91 = .inr (6, [.int 2, .null]) := by rw [← hct92, upd2_at]; try rfl
        refine x_ast E hw 5 rfl cl_6 3 0 (by omega) fa116 9 i91 (hin91) fa117 (z + 1) (rfl) (by omega) (by decide) dX9_init_88 (fun H locs hw => ?_)
        generalize hct93 : upd2 ct92 3 0 (.inl (ca 5, 13, aQ (va_up fN (z + 1) (some (ad91 9 i91))))) = ct93 at hw
        have fa118 : ct93 0 0 = .inr (9, [.int 0, .int 0, .int 0, .int 0, .int 0, .int 0, .ref (ad90 1 0), .ref (ad90 2 0), .ref (ad90 3 0), .ref (ad90 11 0), .ref (ad90 11 1), .ref (ad90 13 0)]) := by rw [← hct93, upd2_k _ _ _ _ (by decide)]; exact fa115
        have fa119 : ct93 3 0 = .inl (ca 5, 13, aQ (va_up fN (z + 1) (some (ad91 9 i91)))) := by rw [← hct93, upd2_at]; try rfl
        have fa120 : ct93 9 i91 = .inr (6, [.int 2, .null]) := by rw [← hct93, upd2_k _ _ _ _ (by decide)]; exact fa117
        refine lv_iinc (v := (nI ((z + 1) + 1))) (lv' := [(1, .int (nI ((z + 1) + 1))), (0, .ref (ad90 0 0))]) hx hb dX9_init_89 hl (k := 1) rfl (nI_1 _) (by decide) rfl (fun ls hl => ?_)
        refine lv_goto (tgt := 70) hx hb dX9_init_92 (by decide) ?_
        refine W.widen (k := (9 + (z + 1))) (n := (336 + 2 * (z + 1))) (by omega) (by omega) ?_
        exact ih70 (z + 1) cnt91 ad91 ct93 (va_up fN (z + 1) (some (ad91 9 i91))) (by omega) (by have hi91 : i91 = z := (by omega); subst hi91; exact wI_step hWI (fun k hk => by rw [← hcn91, va_up_ne _ _ hk]) (by omega) hag91 (fun k i hi hk => by rw [← hct93, upd2_k _ _ _ _ hk, ← hct92]; by_cases q : k = 9; subst q; rw [upd2_i _ _ _ (by omega)]; exact hcg91 9 i hi; rw [upd2_k _ _ _ _ q]; exact hcg91 k i hi) fa119 fa120) (by rw [← hag91 0 0 (by omega)]; exact hA90) (by omega) _ _ (hw) ls (lv_sub hl [1, 0] (by rw [← hag91 0 0 (by omega)]; rfl))
  refine W.widen (k := (9 + 0)) (n := (336 + 2 * 0)) (by omega) (by omega) ?_
  exact lp70 13 0 cnt16 ad16 ct18 (fun _ => none) (Nat.zero_le _) (hW0) (hA0) (by omega) _ _ (hw) ls (lv_sub hl [1, 0] (by rw [hA0]; rfl))
