set_option maxHeartbeats 4000000 in
set_option maxRecDepth 100000 in
theorem kX1_init (l : Launch) (D : va_G) (ca : Nat → ClassId) (cnt : Nat → Nat) (ad : Nat → Nat → Nat) (ct : Nat → Nat → va_E) (z9 : Nat) (i9 : Nat) (e9 : Int32) (t9 : Int32) (a1 : Int32) (a2 : Int32) (a3 : Int32) (h9 : Nat) (a5 : Int32) (a6 : Int32) (hki : i9 < cnt 6) (hkc : ct 6 i9 = .inr (1, [.int 0, .int 0, .int 0, .null, .int 0, .int 0, .null, .int 0, .int 0, .int 0])) (hh9 : h9 < cnt 7) (hhc : ct 7 h9 = .inr (3, [.int e9, .int t9])) : Met l yX1_init (wz yX1_init cX1_init 7 none) (rmL 3 1 4) (va_Pc [.ref (ad 6 i9), .int a1, .int a2, .int a3, .ref (ad 7 h9), .int a5, .int a6] (fun U => (U.heap.size = z9 ∧ wq D cnt ad ct U.heap) ∧ gK D ca U)) (QcW D (wA cnt ad z9) (fun rv u => rv = none ∧ ∃ q, u = (va_up cnt 8 (cnt 8 + 1), upd2 ad 8 (cnt 8) q, upd2 (upd2 ct 8 (cnt 8) (.inr (5, [.int 0, .int a1, .int a1, .null]))) 6 i9 (.inr (1, [.int a1, .int a2, .int a3, .ref (ad 7 h9), .int a5, .int a6, .ref q, .int 0, .int 0, .int 0]))))) 1 4 (wA cnt ad z9) := by
  refine x_met (by decide) (Nat.le_of_ble_eq_true rfl) ?_
  intro p e s m below meth c E hr hlk hnm hq ls hl
  obtain ⟨hsz9, hq⟩ := hq
  subst hsz9
  generalize hav : ([.ref (ad 6 i9), .int a1, .int a2, .int a3, .ref (ad 7 h9), .int a5, .int a6] : List Value).toArray = args at E ⊢
  have hx := E.1
  have hb := E.2.1
  have hown := E.2.2.2.1
  have hts := E.2.2.2.2.1
  have hw : wd D (wA cnt ad s.heap.size) s.heap cnt ad ct s.heap [] := wd.start hq
  generalize hQ : MQ below (QcW D (wA cnt ad s.heap.size) (fun rv u => rv = none ∧ ∃ q, u = (va_up cnt 8 (cnt 8 + 1), upd2 ad 8 (cnt 8) q, upd2 (upd2 ct 8 (cnt 8) (.inr (5, [.int 0, .int a1, .int a1, .null]))) 6 i9 (.inr (1, [.int a1, .int a2, .int a3, .ref (ad 7 h9), .int a5, .int a6, .ref q, .int 0, .int 0, .int 0]))))) args s 1 4 (wA cnt ad s.heap.size) = Q
  generalize hA9 : wA cnt ad s.heap.size = A at hw hQ
  have hl : lv_has ls 7 [(0, .ref (ad 6 i9)), (1, .int a1), (2, .int a2), (3, .int a3), (4, .ref (ad 7 h9)), (5, .int a5), (6, .int a6)] := hl
  suffices hgo : ∀ (H : Heap) (locs : List Loc), wd D A s.heap cnt ad ct H locs → W p l e (rmL 3 1 4) s m args below meth c H locs 0 0 Q (F0 m 0 ls []) from hgo _ _ hw
  clear hw
  intro H locs hw
  refine lv_aload_n hx hb dX1_init_0 rfl (lv_at hl 0 rfl) ?_
  refine W.objInit hx hb hown (hts _ tw_199) (hts _ tw_20) (hts _ tw_21) rfl (hl.1.trans E.2.2.1.symm) rfl dX1_init_1 (by decide) (Nat.le_of_ble_eq_true rfl) ?_
  refine W.eq (g2 := F0 m 4 ls []) rfl ?_
  refine lv_aload_n hx hb dX1_init_4 rfl (lv_at hl 0 rfl) ?_
  refine lv_iconst (v := 0) hx hb dX1_init_5 (by decide) ?_
  refine x_put E hw 6 i9 (hki) hkc cl_1 ly_1 tyX1 tyX1_ok nmX1 8 (by decide) tw_243 (Or.inl rfl) (by rfl) (by rfl) (Nat.le_of_ble_eq_true rfl) dX1_init_6 (fun H locs hw => ?_)
  generalize hct1 : upd2 ct 6 i9 (.inr (1, [.int 0, .int 0, .int 0, .null, .int 0, .int 0, .null, .int 0, .int 0, .int 0].set 8 (.int 0))) = ct1 at hw
  have fa1 : ct1 6 i9 = .inr (1, [.int 0, .int 0, .int 0, .null, .int 0, .int 0, .null, .int 0, .int 0, .int 0]) := by rw [← hct1, upd2_at]; try rfl
  have fa2 : ct1 7 h9 = .inr (3, [.int e9, .int t9]) := by rw [← hct1, upd2_k _ _ _ _ (by decide)]; exact hhc
  refine lv_aload_n hx hb dX1_init_9 rfl (lv_at hl 0 rfl) ?_
  refine lv_iload_n hx hb dX1_init_10 rfl (lv_at hl 1 rfl) ?_
  refine x_put E hw 6 i9 (hki) fa1 cl_1 ly_1 tyX1 tyX1_ok nmX1 0 (by decide) tw_225 (Or.inr ⟨rfl, hnm, rfl⟩) (by rfl) (by rfl) (Nat.le_of_ble_eq_true rfl) dX1_init_11 (fun H locs hw => ?_)
  generalize hct2 : upd2 ct1 6 i9 (.inr (1, [.int 0, .int 0, .int 0, .null, .int 0, .int 0, .null, .int 0, .int 0, .int 0].set 0 (.int a1))) = ct2 at hw
  have fa3 : ct2 6 i9 = .inr (1, [.int a1, .int 0, .int 0, .null, .int 0, .int 0, .null, .int 0, .int 0, .int 0]) := by rw [← hct2, upd2_at]; try rfl
  have fa4 : ct2 7 h9 = .inr (3, [.int e9, .int t9]) := by rw [← hct2, upd2_k _ _ _ _ (by decide)]; exact fa2
  refine lv_aload_n hx hb dX1_init_14 rfl (lv_at hl 0 rfl) ?_
  refine lv_iload_n hx hb dX1_init_15 rfl (lv_at hl 2 rfl) ?_
  refine x_put E hw 6 i9 (hki) fa3 cl_1 ly_1 tyX1 tyX1_ok nmX1 1 (by decide) tw_228 (Or.inr ⟨rfl, hnm, rfl⟩) (by rfl) (by rfl) (Nat.le_of_ble_eq_true rfl) dX1_init_16 (fun H locs hw => ?_)
  generalize hct3 : upd2 ct2 6 i9 (.inr (1, [.int a1, .int 0, .int 0, .null, .int 0, .int 0, .null, .int 0, .int 0, .int 0].set 1 (.int a2))) = ct3 at hw
  have fa5 : ct3 6 i9 = .inr (1, [.int a1, .int a2, .int 0, .null, .int 0, .int 0, .null, .int 0, .int 0, .int 0]) := by rw [← hct3, upd2_at]; try rfl
  have fa6 : ct3 7 h9 = .inr (3, [.int e9, .int t9]) := by rw [← hct3, upd2_k _ _ _ _ (by decide)]; exact fa4
  refine lv_aload_n hx hb dX1_init_19 rfl (lv_at hl 0 rfl) ?_
  refine lv_iload_n hx hb dX1_init_20 rfl (lv_at hl 3 rfl) ?_
  refine x_put E hw 6 i9 (hki) fa5 cl_1 ly_1 tyX1 tyX1_ok nmX1 2 (by decide) tw_231 (Or.inr ⟨rfl, hnm, rfl⟩) (by rfl) (by rfl) (Nat.le_of_ble_eq_true rfl) dX1_init_21 (fun H locs hw => ?_)
  generalize hct4 : upd2 ct3 6 i9 (.inr (1, [.int a1, .int a2, .int 0, .null, .int 0, .int 0, .null, .int 0, .int 0, .int 0].set 2 (.int a3))) = ct4 at hw
  have fa7 : ct4 6 i9 = .inr (1, [.int a1, .int a2, .int a3, .null, .int 0, .int 0, .null, .int 0, .int 0, .int 0]) := by rw [← hct4, upd2_at]; try rfl
  have fa8 : ct4 7 h9 = .inr (3, [.int e9, .int t9]) := by rw [← hct4, upd2_k _ _ _ _ (by decide)]; exact fa6
  refine lv_aload_n hx hb dX1_init_24 rfl (lv_at hl 0 rfl) ?_
  refine lv_aload hx hb dX1_init_25 (lv_at hl 4 rfl) ?_
  refine x_put E hw 6 i9 (hki) fa7 cl_1 ly_1 tyX1 tyX1_ok nmX1 3 (by decide) tw_234 (Or.inr ⟨rfl, hnm, rfl⟩) (by rfl) (by rfl) (Nat.le_of_ble_eq_true rfl) dX1_init_27 (fun H locs hw => ?_)
  generalize hct5 : upd2 ct4 6 i9 (.inr (1, [.int a1, .int a2, .int a3, .null, .int 0, .int 0, .null, .int 0, .int 0, .int 0].set 3 (.ref (ad 7 h9)))) = ct5 at hw
  have fa9 : ct5 6 i9 = .inr (1, [.int a1, .int a2, .int a3, .ref (ad 7 h9), .int 0, .int 0, .null, .int 0, .int 0, .int 0]) := by rw [← hct5, upd2_at]; try rfl
  have fa10 : ct5 7 h9 = .inr (3, [.int e9, .int t9]) := by rw [← hct5, upd2_k _ _ _ _ (by decide)]; exact fa8
  refine lv_aload_n hx hb dX1_init_30 rfl (lv_at hl 0 rfl) ?_
  refine lv_iload hx hb dX1_init_31 (lv_at hl 5 rfl) ?_
  refine x_put E hw 6 i9 (hki) fa9 cl_1 ly_1 tyX1 tyX1_ok nmX1 4 (by decide) tw_236 (Or.inr ⟨rfl, hnm, rfl⟩) (by rfl) (by rfl) (Nat.le_of_ble_eq_true rfl) dX1_init_33 (fun H locs hw => ?_)
  generalize hct6 : upd2 ct5 6 i9 (.inr (1, [.int a1, .int a2, .int a3, .ref (ad 7 h9), .int 0, .int 0, .null, .int 0, .int 0, .int 0].set 4 (.int a5))) = ct6 at hw
  have fa11 : ct6 6 i9 = .inr (1, [.int a1, .int a2, .int a3, .ref (ad 7 h9), .int a5, .int 0, .null, .int 0, .int 0, .int 0]) := by rw [← hct6, upd2_at]; try rfl
  have fa12 : ct6 7 h9 = .inr (3, [.int e9, .int t9]) := by rw [← hct6, upd2_k _ _ _ _ (by decide)]; exact fa10
  refine lv_aload_n hx hb dX1_init_36 rfl (lv_at hl 0 rfl) ?_
  refine lv_iload hx hb dX1_init_37 (lv_at hl 6 rfl) ?_
  refine x_put E hw 6 i9 (hki) fa11 cl_1 ly_1 tyX1 tyX1_ok nmX1 5 (by decide) tw_238 (Or.inr ⟨rfl, hnm, rfl⟩) (by rfl) (by rfl) (Nat.le_of_ble_eq_true rfl) dX1_init_39 (fun H locs hw => ?_)
  generalize hct7 : upd2 ct6 6 i9 (.inr (1, [.int a1, .int a2, .int a3, .ref (ad 7 h9), .int a5, .int 0, .null, .int 0, .int 0, .int 0].set 5 (.int a6))) = ct7 at hw
  have fa13 : ct7 6 i9 = .inr (1, [.int a1, .int a2, .int a3, .ref (ad 7 h9), .int a5, .int a6, .null, .int 0, .int 0, .int 0]) := by rw [← hct7, upd2_at]; try rfl
  have fa14 : ct7 7 h9 = .inr (3, [.int e9, .int t9]) := by rw [← hct7, upd2_k _ _ _ _ (by decide)]; exact fa12
  refine lv_aload_n hx hb dX1_init_42 rfl (lv_at hl 0 rfl) ?_
  refine x_new (fs := [.int 0, .int 0, .int 0, .null]) E hw 8 cl_5 ly_5 tyX5 tyX5_ok tw_200 tw_201 tw_10 df_5 (by decide) (by decide) dX1_init_43 (fun q9 H hw => ?_)
  generalize hix8 : cnt 8 = i8 at hw
  generalize hcn8 : va_up cnt 8 (i8 + 1) = cnt8 at hw
  generalize han8 : upd2 ad 8 i8 q9 = ad8 at hw
  generalize hct8 : upd2 ct7 8 i8 (.inr (5, [.int 0, .int 0, .int 0, .null])) = ct8 at hw
  have hqq8 : q9 = ad8 8 i8 := by rw [← han8, upd2_at]
  subst hqq8
  have hcn8_0 : cnt8 0 = cnt 0 := by rw [← hcn8, va_up_ne _ _ (by decide)]
  have hcn8_1 : cnt8 1 = cnt 1 := by rw [← hcn8, va_up_ne _ _ (by decide)]
  have hcn8_2 : cnt8 2 = cnt 2 := by rw [← hcn8, va_up_ne _ _ (by decide)]
  have hcn8_3 : cnt8 3 = cnt 3 := by rw [← hcn8, va_up_ne _ _ (by decide)]
  have hcn8_4 : cnt8 4 = cnt 4 := by rw [← hcn8, va_up_ne _ _ (by decide)]
  have hcn8_5 : cnt8 5 = cnt 5 := by rw [← hcn8, va_up_ne _ _ (by decide)]
  have hcn8_6 : cnt8 6 = cnt 6 := by rw [← hcn8, va_up_ne _ _ (by decide)]
  have hcn8_7 : cnt8 7 = cnt 7 := by rw [← hcn8, va_up_ne _ _ (by decide)]
  have hcn8_8 : cnt8 8 = cnt 8 + 1 := by rw [← hcn8, va_up_self, hix8]
  have hcn8_9 : cnt8 9 = cnt 9 := by rw [← hcn8, va_up_ne _ _ (by decide)]
  have hcn8_10 : cnt8 10 = cnt 10 := by rw [← hcn8, va_up_ne _ _ (by decide)]
  have hcn8_11 : cnt8 11 = cnt 11 := by rw [← hcn8, va_up_ne _ _ (by decide)]
  have hcn8_12 : cnt8 12 = cnt 12 := by rw [← hcn8, va_up_ne _ _ (by decide)]
  have hcn8_13 : cnt8 13 = cnt 13 := by rw [← hcn8, va_up_ne _ _ (by decide)]
  have hcn8_14 : cnt8 14 = cnt 14 := by rw [← hcn8, va_up_ne _ _ (by decide)]
  have hcn8_15 : cnt8 15 = cnt 15 := by rw [← hcn8, va_up_ne _ _ (by decide)]
  have hcn8_16 : cnt8 16 = cnt 16 := by rw [← hcn8, va_up_ne _ _ (by decide)]
  have hcn8_17 : cnt8 17 = cnt 17 := by rw [← hcn8, va_up_ne _ _ (by decide)]
  have hag8 : ∀ k i, i < cnt k → ad k i = ad8 k i := fun k i hi => by rw [← han8]; by_cases hk : k = 8; subst hk; exact (upd2_i _ _ _ (by omega)).symm; exact (upd2_k _ _ _ _ hk).symm
  have hcg8 : ∀ k i, i < cnt k → ct8 k i = ct7 k i := fun k i hi => by rw [← hct8]; by_cases hk : k = 8; subst hk; exact upd2_i _ _ _ (by omega); exact upd2_k _ _ _ _ hk
  have hle8 : ∀ k, cnt k ≤ cnt8 k := fun k => by rw [← hcn8]; by_cases hk : k = 8; subst hk; rw [va_up_self]; omega; rw [va_up_ne _ _ hk]; exact Nat.le_refl _
  have fa15 : ct8 6 i9 = .inr (1, [.int a1, .int a2, .int a3, .ref (ad 7 h9), .int a5, .int a6, .null, .int 0, .int 0, .int 0]) := by rw [hcg8 6 i9 (hki)]; exact fa13
  have fa16 : ct8 7 h9 = .inr (3, [.int e9, .int t9]) := by rw [hcg8 7 h9 (hh9)]; exact fa14
  have fa17 : ct8 8 i8 = .inr (5, [.int 0, .int 0, .int 0, .null]) := by rw [← hct8, upd2_at]
  have hin8 : i8 < cnt8 8 := by omega
  refine lv_dup hx hb dX1_init_46 rfl ?_
  refine lv_iconst (v := 0) hx hb dX1_init_47 (by decide) ?_
  refine lv_iload_n hx hb dX1_init_48 rfl (lv_at hl 1 rfl) ?_
  refine lv_iload_n hx hb dX1_init_49 rfl (lv_at hl 1 rfl) ?_
  have ev50_0 : ad 6 i9 = ad8 6 i9 := hag8 6 i9 (by omega)
  refine W.eq (g2 := F0 m 50 ls [.int a1, .int a1, .int 0, .ref (ad8 8 i8), .ref (ad8 8 i8), .ref (ad8 6 i9)]) (by rw [ev50_0]) ?_
  refine x_wrote hw (x_runI (rest := [.ref (ad8 8 i8), .ref (ad8 6 i9)]) E cbX5_init tw_202 (kX5_init l D ca cnt8 ad8 ct8 H.size  i8  0 a1 a1 (hin8) (fa17)) ⟨rfl, rfl, by decide, by decide⟩ (fun _ _ _ _ h => h) (fun U hU _ => by rw [hU]; exact ⟨rfl, hw.1⟩) rfl hl.1 rfl (Nat.le_of_ble_eq_true rfl) dX1_init_50 ⟨by decide, by decide⟩) (fun rv9 u9 H locs hp9 hw hz9 hk9 => ?_)
  obtain ⟨hrv9, hu9⟩ := hp9
  subst hrv9
  subst hu9
  dsimp only [Option.toList, List.nil_append] at hw ⊢
  generalize hct9 : upd2 ct8 8 i8 (.inr (5, [.int 0, .int a1, .int a1, .null])) = ct9 at hw
  have fa18 : ct9 6 i9 = .inr (1, [.int a1, .int a2, .int a3, .ref (ad 7 h9), .int a5, .int a6, .null, .int 0, .int 0, .int 0]) := by rw [← hct9, upd2_k _ _ _ _ (by decide)]; exact fa15
  have fa19 : ct9 7 h9 = .inr (3, [.int e9, .int t9]) := by rw [← hct9, upd2_k _ _ _ _ (by decide)]; exact fa16
  have fa20 : ct9 8 i8 = .inr (5, [.int 0, .int a1, .int a1, .null]) := by rw [← hct9, upd2_at]; try rfl
  refine x_put E hw 6 i9 (Nat.lt_of_lt_of_le (hki) (hle8 _)) fa18 cl_1 ly_1 tyX1 tyX1_ok nmX1 6 (by decide) tw_240 (Or.inr ⟨rfl, hnm, rfl⟩) (by rfl) (by rfl) (Nat.le_of_ble_eq_true rfl) dX1_init_53 (fun H locs hw => ?_)
  generalize hct10 : upd2 ct9 6 i9 (.inr (1, [.int a1, .int a2, .int a3, .ref (ad 7 h9), .int a5, .int a6, .null, .int 0, .int 0, .int 0].set 6 (.ref (ad8 8 i8)))) = ct10 at hw
  have fa21 : ct10 6 i9 = .inr (1, [.int a1, .int a2, .int a3, .ref (ad 7 h9), .int a5, .int a6, .ref (ad8 8 i8), .int 0, .int 0, .int 0]) := by rw [← hct10, upd2_at]; try rfl
  have fa22 : ct10 7 h9 = .inr (3, [.int e9, .int t9]) := by rw [← hct10, upd2_k _ _ _ _ (by decide)]; exact fa19
  have fa23 : ct10 8 i8 = .inr (5, [.int 0, .int a1, .int a1, .null]) := by rw [← hct10, upd2_k _ _ _ _ (by decide)]; exact fa20
  subst hQ
  exact x_vretW E hr hlk hw (by decide) (by decide) (⟨rfl, ad8 8 i8, by rw [hix8, hcn8, han8, ← hct10, ← hct9, ← hct8, ← hct7, ← hct6, ← hct5, ← hct4, ← hct3, ← hct2, ← hct1]; simp only [upd2_2]; rw [upd2_cm _ _ _ _ _ (show (6 : Nat) ≠ 8 by decide)]; simp only [upd2_2]; rfl⟩) dX1_init_56
set_option maxHeartbeats 4000000 in
set_option maxRecDepth 100000 in
theorem kX9_leave (l : Launch) (D : va_G) (ca : Nat → ClassId) (cnt : Nat → Nat) (ad : Nat → Nat → Nat) (ct : Nat → Nat → va_E) (z9 : Nat) (v : Nat → Int32) (g : Nat → Nat → Int32) (nw : Nat) (nb : Nat) (nc : Nat) (nm : Nat) (a1 : Int32) (a2 : Int32) (a3 : Int32) (a4 : Int32) (a5 : Int32) (a6 : Int32) (hC : cRep ca cnt ad ct v g nw nb nc nm) (hZ : ∀ c, nc ≤ c → c < 60 → g 16 c = 0 ∧ ∀ w, w < 20 → g 17 (20 * c + w) = 0) : Met l yX9_leave (wz yX9_leave cX9_leave 8 (some .int)) (rmL 4 3 16) (va_Pc [.ref (ad 0 0), .int a1, .int a2, .int a3, .int a4, .int a5, .int a6] (fun U => (U.heap.size = z9 ∧ wq D cnt ad ct U.heap) ∧ gK D ca U)) (QcW D (wA cnt ad z9) (fun rv u => rv = some (.int (mLeaveW v g nw nb nc a1 a2 a3 a4 a5 a6).1) ∧ cRepE ca u.1 u.2.1 u.2.2 (mLeaveW v g nw nb nc a1 a2 a3 a4 a5 a6).2.1 (mLeaveW v g nw nb nc a1 a2 a3 a4 a5 a6).2.2 ∧ u.2.1 0 0 = ad 0 0)) 3 16 (wA cnt ad z9) := by
  refine x_met (by decide) (Nat.le_of_ble_eq_true rfl) ?_
  intro p e s m below meth c E hr hlk hnm hq ls hl
  obtain ⟨hsz9, hq⟩ := hq
  subst hsz9
  generalize hav : ([.ref (ad 0 0), .int a1, .int a2, .int a3, .int a4, .int a5, .int a6] : List Value).toArray = args at E ⊢
  have hx := E.1
  have hb := E.2.1
  have hown := E.2.2.2.1
  have hts := E.2.2.2.2.1
  have hw : wd D (wA cnt ad s.heap.size) s.heap cnt ad ct s.heap [] := wd.start hq
  generalize hQ : MQ below (QcW D (wA cnt ad s.heap.size) (fun rv u => rv = some (.int (mLeaveW v g nw nb nc a1 a2 a3 a4 a5 a6).1) ∧ cRepE ca u.1 u.2.1 u.2.2 (mLeaveW v g nw nb nc a1 a2 a3 a4 a5 a6).2.1 (mLeaveW v g nw nb nc a1 a2 a3 a4 a5 a6).2.2 ∧ u.2.1 0 0 = ad 0 0)) args s 3 16 (wA cnt ad s.heap.size) = Q
  generalize hA9 : wA cnt ad s.heap.size = A at hw hQ
  have hl : lv_has ls 8 [(0, .ref (ad 0 0)), (1, .int a1), (2, .int a2), (3, .int a3), (4, .int a4), (5, .int a5), (6, .int a6)] := hl
  obtain ⟨hO, hIv, tp, htp, hX, hT, hB, hCc, hN⟩ := id hC
  obtain ⟨hx0, hx1, hx2, hx3, fz0⟩ := id hX
  have hO5 := hO.2.2.2.2
  obtain ⟨hb4, hb5, fB, fz1, hBd⟩ := id hB
  obtain ⟨hc6, hc7, fC, dt, ow, ix, ak, fz2, hCd⟩ := id hCc
  obtain ⟨hn9, fN, lk, fz3, hNd⟩ := id hN
  obtain ⟨ht13, ht14, ht11, ht12, szq, nq, nrq, rtq, bq0, bq1, vsq, pq1, pq2, hsz, hsz2, hnq, hnr, hrt, fz11, fz11b, fz12, fz12b, fz13, fz14, hby, hrl⟩ := id hT
  suffices hgo : ∀ (H : Heap) (locs : List Loc), wd D A s.heap cnt ad ct H locs → W p l e (rmL 4 3 16) s m args below meth c H locs 0 0 Q (F0 m 0 ls []) from hgo _ _ hw
  clear hw
  intro H locs hw
  refine lv_aload_n hx hb dX9_leave_0 rfl (lv_at hl 0 rfl) ?_
  refine lv_iload_n hx hb dX9_leave_1 rfl (lv_at hl 1 rfl) ?_
  refine x_readq (x_runV (rest := []) E cbX9_findBallot tw_149 (kX9_findBallot l D ca cnt ad ct v g nw nb nc nm   a1 (hC)) ⟨rfl, rfl, by decide, by decide⟩ (x_recv E hw cl_9 (hx0) fz0) (fun _ _ _ _ h => h) (fun U hU _ => by rw [hU]; exact hw.1) rfl hl.1 rfl (Nat.le_of_ble_eq_true rfl) dX9_leave_2 ⟨by decide, by decide⟩) ?_
  refine x_astoreQ (lv' := [(7, va_rf (Option.map (ad 4) (fdB nb a1))), (0, .ref (ad 0 0)), (1, .int a1), (2, .int a2), (3, .int a3), (4, .int a4), (5, .int a5), (6, .int a6)]) hx hb dX9_leave_5 hl (by decide) rfl (fun ls hl => ?_)
  refine x_aloadQ hx hb dX9_leave_7 (lv_at hl 0 rfl) ?_
  rcases x_opt (fdB nb a1) with hn9 | ⟨b1, hi9⟩
  · skip
    rw [hn9]
    rw [hn9] at hl
    have hl : lv_has ls 8 [(7, .null), (0, .ref (ad 0 0)), (1, .int a1), (2, .int a2), (3, .int a3), (4, .int a4), (5, .int a5), (6, .int a6)] := hl
    refine lv_ifnullN (tgt := 21) hx hb dX9_leave_9 (by decide) ?_
    refine lv_iconst (v := (-1)) hx hb dX9_leave_21 (by decide) ?_
    subst hQ
    exact x_iretW E hr hlk hw (by decide) (by decide) (addA (rfl) (cw_post (by first | (simp [mLeaveW, mLeaveOK, mWom, fdB_none hn9]; done) | (rcases hc_n with q9 | ⟨j9, q8, rfl, q9⟩; simp [mLeaveW, mLeaveOK, mWom, nI_clamp (n := b1) (by omega), hg6, q9]; rw [hfe j9 q8] at q9; simp [mLeaveW, mLeaveOK, nI_clamp (n := b1) (by omega), nI_clamp (n := j9) (by omega), q9])) ⟨nw, nb, nc, nm, hC⟩)) dX9_leave_22
  · skip
    rw [hi9]
    rw [hi9] at hl
    have hl : lv_has ls 8 [(7, .ref (ad 4 b1)), (0, .ref (ad 0 0)), (1, .int a1), (2, .int a2), (3, .int a3), (4, .int a4), (5, .int a5), (6, .int a6)] := hl
    refine lv_ifnull hx hb dX9_leave_9 ?_
    obtain ⟨hb1, rfl, hIb⟩ := fdB_some (by omega) hi9
    obtain ⟨hfb, hbc, n1, f1, hn1, hg6, hbf, hfe⟩ := hBd b1 hb1
    refine lv_aload hx hb dX9_leave_12 (lv_at hl 0 rfl) ?_
    refine lv_iload_n hx hb dX9_leave_14 rfl (lv_at hl 3 rfl) ?_
    refine x_read (x_runV (rest := []) E cbX0_ballOf tw_153 (kX0_ballOf l D ca cnt ad ct  b1 _ _ a2 (by omega) (by omega) (hbc) (hbf) (hn1)) ⟨rfl, rfl, by decide, by decide⟩ (x_recv E hw cl_0 (by omega) hbc) (fun _ _ _ _ h => h) (fun U hU _ => by rw [hU]; exact hw.1) rfl hl.1 rfl (Nat.le_of_ble_eq_true rfl) dX9_leave_15 ⟨by decide, by decide⟩) ?_
    refine lv_if_eq (tgt := 23) hx hb dX9_leave_18 (by decide) (fun c_18 => ?_) (fun c_18 => ?_)
    · skip
      obtain ⟨j1, hj1, rfl, hc_0⟩ := cBall_0 hn1 c_18
      refine lv_iload_n hx hb dX9_leave_23 rfl (lv_at hl 4 rfl) ?_
      refine lv_iconst (v := 0) hx hb dX9_leave_24 (by decide) ?_
      refine lv_iconst (v := 1) hx hb dX9_leave_25 (by decide) ?_
      refine x_read (x_runS (rest := []) E cbX9_within tw_121 (kX9_within l D ca a3 0 1 ) ⟨rfl, rfl, by decide, by decide⟩ (fun _ _ _ _ h => h) (fun _ _ _ => trivial) rfl hl.1 rfl (Nat.le_of_ble_eq_true rfl) dX9_leave_26 ⟨by decide, by decide⟩) ?_
      refine lv_if_eq (tgt := 53) hx hb dX9_leave_29 (by decide) (fun c_29 => ?_) (fun c_29 => ?_)
      · skip
        have c_29 := bB_0.mp c_29
        refine lv_iconst (v := (-1)) hx hb dX9_leave_53 (by decide) ?_
        subst hQ
        exact x_iretW E hr hlk hw (by decide) (by decide) (addA (rfl) (cw_post (by first | (simp [mLeaveW, mLeaveOK, hi9, c_18, c_29]; done) | (have q9 := c_50; simp only [Bool.and_eq_false_iff] at q9; rcases q9 with q9 | q9 <;> simp [mLeaveW, mLeaveOK, q9])) ⟨nw, nb, nc, nm, hC⟩)) dX9_leave_54
      · skip
        have c_29 := bB_n0.mp c_29
        refine lv_iload hx hb dX9_leave_32 (lv_at hl 5 rfl) ?_
        refine lv_iconst (v := 0) hx hb dX9_leave_34 (by decide) ?_
        refine lv_bipush (v := 9) hx hb dX9_leave_35 (by decide) ?_
        refine x_read (x_runS (rest := []) E cbX9_within tw_121 (kX9_within l D ca a4 0 9 ) ⟨rfl, rfl, by decide, by decide⟩ (fun _ _ _ _ h => h) (fun _ _ _ => trivial) rfl hl.1 rfl (Nat.le_of_ble_eq_true rfl) dX9_leave_37 ⟨by decide, by decide⟩) ?_
        refine lv_if_eq (tgt := 53) hx hb dX9_leave_40 (by decide) (fun c_40 => ?_) (fun c_40 => ?_)
        · skip
          have c_40 := bB_0.mp c_40
          refine lv_iconst (v := (-1)) hx hb dX9_leave_53 (by decide) ?_
          subst hQ
          exact x_iretW E hr hlk hw (by decide) (by decide) (addA (rfl) (cw_post (by first | (simp [mLeaveW, mLeaveOK, hi9, c_18, c_29, c_40]; done) | (have q9 := c_50; simp only [Bool.and_eq_false_iff] at q9; rcases q9 with q9 | q9 <;> simp [mLeaveW, mLeaveOK, q9])) ⟨nw, nb, nc, nm, hC⟩)) dX9_leave_54
        · skip
          have c_40 := bB_n0.mp c_40
          refine lv_iload hx hb dX9_leave_43 (lv_at hl 6 rfl) ?_
          refine lv_iload hx hb dX9_leave_45 (lv_at hl 7 rfl) ?_
          refine x_read (x_runS (rest := []) E cbX3_canBe tw_174 (kX3_canBe l D ca a5 a6 ) ⟨rfl, rfl, by decide, by decide⟩ (fun _ _ _ _ h => h) (fun _ _ _ => trivial) rfl hl.1 rfl (Nat.le_of_ble_eq_true rfl) dX9_leave_47 ⟨by decide, by decide⟩) ?_
          refine lv_if_ne (tgt := 55) hx hb dX9_leave_50 (by decide) (fun c_50 => ?_) (fun c_50 => ?_)
          · skip
            have c_50 := bB_n0.mp c_50
            refine lv_aload_n hx hb dX9_leave_55 rfl (lv_at hl 1 rfl) ?_
            refine x_get E hw 0 0 (hx0) fz0 cl_9 ly_9 2 (by decide) tw_82 rfl dX9_leave_56 ?_
            refine lv_bipush (v := 60) hx hb dX9_leave_59 (by decide) ?_
            refine lv_icmp_lt (tgt := 66) hx hb dX9_leave_61 (by decide) (fun c_61 => ?_) (fun c_61 => ?_)
            · skip
              have hnc : nc < 60 := (nI_ltI (a := nc) (b := 60) (by omega) (by decide)).mp c_61
              refine lv_aload hx hb dX9_leave_66 (lv_at hl 0 rfl) ?_
              refine lv_iload_n hx hb dX9_leave_68 rfl (lv_at hl 3 rfl) ?_
              refine lv_iconst (v := 4) hx hb dX9_leave_69 (by decide) ?_
              refine x_wrote hw (x_runV (rest := []) E cbX0_give tw_179 (kX0_give l D ca cnt ad ct H.size  b1 _ _ j1 4 (by omega) (by omega) (hbc) (hbf) (hn1) (hj1)) ⟨rfl, rfl, by decide, by decide⟩ (x_recv E hw cl_0 (by omega) hbc) (fun _ _ _ _ h => h) (fun U hU _ => by rw [hU]; exact ⟨rfl, hw.1⟩) rfl hl.1 rfl (Nat.le_of_ble_eq_true rfl) dX9_leave_70 ⟨by decide, by decide⟩) (fun rv9 u9 H locs hp9 hw hz9 hk9 => ?_)
              obtain ⟨hrv9, hu9⟩ := hp9
              subst hrv9
              subst hu9
              dsimp only [Option.toList, List.nil_append] at hw ⊢
              generalize hct1 : upd2 ct 5 b1 (.inl (ca 1, n1, .inl (upd f1 j1 4))) = ct1 at hw
              have fa1 : ct1 0 0 = .inr (9, [.int (nI nw), .int (nI nb), .int (nI nc), .int (nI nm), .int (v 4), .int (v 5), .ref (ad 1 0), .ref (ad 2 0), .ref (ad 3 0), .ref (ad 11 tp), .ref (ad 11 (1 - tp)), .ref (ad 13 0)]) := by rw [← hct1, upd2_k _ _ _ _ (by decide)]; exact fz0
              have fa2 : ct1 1 0 = .inl (ca 3, 50, aQ fB) := by rw [← hct1, upd2_k _ _ _ _ (by decide)]; exact fz1
              have fa3 : ct1 2 0 = .inl (ca 4, 60, aQ fC) := by rw [← hct1, upd2_k _ _ _ _ (by decide)]; exact fz2
              have fa4 : ct1 3 0 = .inl (ca 5, 13, aQ fN) := by rw [← hct1, upd2_k _ _ _ _ (by decide)]; exact fz3
              have fa5 : ct1 11 tp = .inr (8, [.ref (ad 12 tp), .int (nI szq)]) := by rw [← hct1, upd2_k _ _ _ _ (by decide)]; exact fz11
              have fa6 : ct1 4 b1 = .inr (0, [.ref (ad 5 b1)]) := by rw [← hct1, upd2_k _ _ _ _ (by decide)]; exact hbc
              have fa7 : ct1 5 b1 = .inl (ca 1, n1, .inl (upd f1 j1 4)) := by rw [← hct1, upd2_at]; try rfl
              refine lv_aload_n hx hb dX9_leave_73 rfl (lv_at hl 1 rfl) ?_
              refine x_get E hw 0 0 (hx0) fa1 cl_9 ly_9 7 (by decide) tw_87 rfl dX9_leave_74 ?_
              refine lv_aload_n hx hb dX9_leave_77 rfl (lv_at hl 1 rfl) ?_
              refine x_get E hw 0 0 (hx0) fa1 cl_9 ly_9 2 (by decide) tw_82 rfl dX9_leave_78 ?_
              refine x_new (fs := [.int 0, .int 0, .int 0, .null, .int 0, .int 0, .null, .int 0, .int 0, .int 0]) E hw 6 cl_1 ly_1 tyX1 tyX1_ok tw_24 tw_180 tw_9 df_1 (by decide) (by decide) dX9_leave_81 (fun q9 H hw => ?_)
              generalize hix2 : cnt 6 = i2 at hw
              generalize hcn2 : va_up cnt 6 (i2 + 1) = cnt2 at hw
              generalize han2 : upd2 ad 6 i2 q9 = ad2 at hw
              generalize hct2 : upd2 ct1 6 i2 (.inr (1, [.int 0, .int 0, .int 0, .null, .int 0, .int 0, .null, .int 0, .int 0, .int 0])) = ct2 at hw
              have hqq2 : q9 = ad2 6 i2 := by rw [← han2, upd2_at]
              subst hqq2
              have hcn2_0 : cnt2 0 = cnt 0 := by rw [← hcn2, va_up_ne _ _ (by decide)]
              have hcn2_1 : cnt2 1 = cnt 1 := by rw [← hcn2, va_up_ne _ _ (by decide)]
              have hcn2_2 : cnt2 2 = cnt 2 := by rw [← hcn2, va_up_ne _ _ (by decide)]
              have hcn2_3 : cnt2 3 = cnt 3 := by rw [← hcn2, va_up_ne _ _ (by decide)]
              have hcn2_4 : cnt2 4 = cnt 4 := by rw [← hcn2, va_up_ne _ _ (by decide)]
              have hcn2_5 : cnt2 5 = cnt 5 := by rw [← hcn2, va_up_ne _ _ (by decide)]
              have hcn2_6 : cnt2 6 = cnt 6 + 1 := by rw [← hcn2, va_up_self, hix2]
              have hcn2_7 : cnt2 7 = cnt 7 := by rw [← hcn2, va_up_ne _ _ (by decide)]
              have hcn2_8 : cnt2 8 = cnt 8 := by rw [← hcn2, va_up_ne _ _ (by decide)]
              have hcn2_9 : cnt2 9 = cnt 9 := by rw [← hcn2, va_up_ne _ _ (by decide)]
              have hcn2_10 : cnt2 10 = cnt 10 := by rw [← hcn2, va_up_ne _ _ (by decide)]
              have hcn2_11 : cnt2 11 = cnt 11 := by rw [← hcn2, va_up_ne _ _ (by decide)]
              have hcn2_12 : cnt2 12 = cnt 12 := by rw [← hcn2, va_up_ne _ _ (by decide)]
              have hcn2_13 : cnt2 13 = cnt 13 := by rw [← hcn2, va_up_ne _ _ (by decide)]
              have hcn2_14 : cnt2 14 = cnt 14 := by rw [← hcn2, va_up_ne _ _ (by decide)]
              have hcn2_15 : cnt2 15 = cnt 15 := by rw [← hcn2, va_up_ne _ _ (by decide)]
              have hcn2_16 : cnt2 16 = cnt 16 := by rw [← hcn2, va_up_ne _ _ (by decide)]
              have hcn2_17 : cnt2 17 = cnt 17 := by rw [← hcn2, va_up_ne _ _ (by decide)]
              have hag2 : ∀ k i, i < cnt k → ad k i = ad2 k i := fun k i hi => by rw [← han2]; by_cases hk : k = 6; subst hk; exact (upd2_i _ _ _ (by omega)).symm; exact (upd2_k _ _ _ _ hk).symm
              have hcg2 : ∀ k i, i < cnt k → ct2 k i = ct1 k i := fun k i hi => by rw [← hct2]; by_cases hk : k = 6; subst hk; exact upd2_i _ _ _ (by omega); exact upd2_k _ _ _ _ hk
              have hle2 : ∀ k, cnt k ≤ cnt2 k := fun k => by rw [← hcn2]; by_cases hk : k = 6; subst hk; rw [va_up_self]; omega; rw [va_up_ne _ _ hk]; exact Nat.le_refl _
              have fa8 : ct2 0 0 = .inr (9, [.int (nI nw), .int (nI nb), .int (nI nc), .int (nI nm), .int (v 4), .int (v 5), .ref (ad 1 0), .ref (ad 2 0), .ref (ad 3 0), .ref (ad 11 tp), .ref (ad 11 (1 - tp)), .ref (ad 13 0)]) := by rw [hcg2 0 0 (hx0)]; exact fa1
              have fa9 : ct2 1 0 = .inl (ca 3, 50, aQ fB) := by rw [hcg2 1 0 (hx1)]; exact fa2
              have fa10 : ct2 2 0 = .inl (ca 4, 60, aQ fC) := by rw [hcg2 2 0 (hx2)]; exact fa3
              have fa11 : ct2 3 0 = .inl (ca 5, 13, aQ fN) := by rw [hcg2 3 0 (hx3)]; exact fa4
              have fa12 : ct2 11 tp = .inr (8, [.ref (ad 12 tp), .int (nI szq)]) := by rw [hcg2 11 tp (by omega)]; exact fa5
              have fa13 : ct2 4 b1 = .inr (0, [.ref (ad 5 b1)]) := by rw [hcg2 4 b1 (by omega)]; exact fa6
              have fa14 : ct2 5 b1 = .inl (ca 1, n1, .inl (upd f1 j1 4)) := by rw [hcg2 5 b1 (by omega)]; exact fa7
              have fa15 : ct2 6 i2 = .inr (1, [.int 0, .int 0, .int 0, .null, .int 0, .int 0, .null, .int 0, .int 0, .int 0]) := by rw [← hct2, upd2_at]
              have hin2 : i2 < cnt2 6 := by omega
              refine lv_dup hx hb dX9_leave_84 rfl ?_
              refine lv_aload_n hx hb dX9_leave_85 rfl (lv_at hl 1 rfl) ?_
              have ev86_0 : ad 2 0 = ad2 2 0 := hag2 2 0 (by omega)
              have ev86_1 : ad 0 0 = ad2 0 0 := hag2 0 0 (by omega)
              refine W.eq (g2 := F0 m 86 ls [.ref (ad2 0 0), .ref (ad2 6 i2), .ref (ad2 6 i2), .int (nI nc), .ref (ad2 2 0)]) (by rw [ev86_0, ev86_1]) ?_
              refine x_get E hw 0 0 (Nat.lt_of_lt_of_le (hx0) (hle2 _)) fa8 cl_9 ly_9 0 (by decide) tw_80 rfl dX9_leave_86 ?_
              refine lv_iload_n hx hb dX9_leave_89 rfl (lv_at hl 4 rfl) ?_
              refine lv_iload hx hb dX9_leave_90 (lv_at hl 5 rfl) ?_
              refine x_new (fs := [.int 0, .int 0]) E hw 7 cl_3 ly_3 tyX3 tyX3_ok tw_181 tw_182 tw_8 df_3 (by decide) (by decide) dX9_leave_92 (fun q9 H hw => ?_)
              generalize hix3 : cnt2 7 = i3 at hw
              generalize hcn3 : va_up cnt2 7 (i3 + 1) = cnt3 at hw
              generalize han3 : upd2 ad2 7 i3 q9 = ad3 at hw
              generalize hct3 : upd2 ct2 7 i3 (.inr (3, [.int 0, .int 0])) = ct3 at hw
              have hqq3 : q9 = ad3 7 i3 := by rw [← han3, upd2_at]
              subst hqq3
              have hcn3_0 : cnt3 0 = cnt2 0 := by rw [← hcn3, va_up_ne _ _ (by decide)]
              have hcn3_1 : cnt3 1 = cnt2 1 := by rw [← hcn3, va_up_ne _ _ (by decide)]
              have hcn3_2 : cnt3 2 = cnt2 2 := by rw [← hcn3, va_up_ne _ _ (by decide)]
              have hcn3_3 : cnt3 3 = cnt2 3 := by rw [← hcn3, va_up_ne _ _ (by decide)]
              have hcn3_4 : cnt3 4 = cnt2 4 := by rw [← hcn3, va_up_ne _ _ (by decide)]
              have hcn3_5 : cnt3 5 = cnt2 5 := by rw [← hcn3, va_up_ne _ _ (by decide)]
              have hcn3_6 : cnt3 6 = cnt2 6 := by rw [← hcn3, va_up_ne _ _ (by decide)]
              have hcn3_7 : cnt3 7 = cnt2 7 + 1 := by rw [← hcn3, va_up_self, hix3]
              have hcn3_8 : cnt3 8 = cnt2 8 := by rw [← hcn3, va_up_ne _ _ (by decide)]
              have hcn3_9 : cnt3 9 = cnt2 9 := by rw [← hcn3, va_up_ne _ _ (by decide)]
              have hcn3_10 : cnt3 10 = cnt2 10 := by rw [← hcn3, va_up_ne _ _ (by decide)]
              have hcn3_11 : cnt3 11 = cnt2 11 := by rw [← hcn3, va_up_ne _ _ (by decide)]
              have hcn3_12 : cnt3 12 = cnt2 12 := by rw [← hcn3, va_up_ne _ _ (by decide)]
              have hcn3_13 : cnt3 13 = cnt2 13 := by rw [← hcn3, va_up_ne _ _ (by decide)]
              have hcn3_14 : cnt3 14 = cnt2 14 := by rw [← hcn3, va_up_ne _ _ (by decide)]
              have hcn3_15 : cnt3 15 = cnt2 15 := by rw [← hcn3, va_up_ne _ _ (by decide)]
              have hcn3_16 : cnt3 16 = cnt2 16 := by rw [← hcn3, va_up_ne _ _ (by decide)]
              have hcn3_17 : cnt3 17 = cnt2 17 := by rw [← hcn3, va_up_ne _ _ (by decide)]
              have hag3 : ∀ k i, i < cnt2 k → ad2 k i = ad3 k i := fun k i hi => by rw [← han3]; by_cases hk : k = 7; subst hk; exact (upd2_i _ _ _ (by omega)).symm; exact (upd2_k _ _ _ _ hk).symm
              have hcg3 : ∀ k i, i < cnt2 k → ct3 k i = ct2 k i := fun k i hi => by rw [← hct3]; by_cases hk : k = 7; subst hk; exact upd2_i _ _ _ (by omega); exact upd2_k _ _ _ _ hk
              have hle3 : ∀ k, cnt2 k ≤ cnt3 k := fun k => by rw [← hcn3]; by_cases hk : k = 7; subst hk; rw [va_up_self]; omega; rw [va_up_ne _ _ hk]; exact Nat.le_refl _
              have fa16 : ct3 0 0 = .inr (9, [.int (nI nw), .int (nI nb), .int (nI nc), .int (nI nm), .int (v 4), .int (v 5), .ref (ad 1 0), .ref (ad 2 0), .ref (ad 3 0), .ref (ad 11 tp), .ref (ad 11 (1 - tp)), .ref (ad 13 0)]) := by rw [hcg3 0 0 (Nat.lt_of_lt_of_le (hx0) (hle2 _))]; exact fa8
              have fa17 : ct3 1 0 = .inl (ca 3, 50, aQ fB) := by rw [hcg3 1 0 (Nat.lt_of_lt_of_le (hx1) (hle2 _))]; exact fa9
              have fa18 : ct3 2 0 = .inl (ca 4, 60, aQ fC) := by rw [hcg3 2 0 (Nat.lt_of_lt_of_le (hx2) (hle2 _))]; exact fa10
              have fa19 : ct3 3 0 = .inl (ca 5, 13, aQ fN) := by rw [hcg3 3 0 (Nat.lt_of_lt_of_le (hx3) (hle2 _))]; exact fa11
              have fa20 : ct3 11 tp = .inr (8, [.ref (ad 12 tp), .int (nI szq)]) := by rw [hcg3 11 tp (by omega)]; exact fa12
              have fa21 : ct3 4 b1 = .inr (0, [.ref (ad 5 b1)]) := by rw [hcg3 4 b1 (by omega)]; exact fa13
              have fa22 : ct3 5 b1 = .inl (ca 1, n1, .inl (upd f1 j1 4)) := by rw [hcg3 5 b1 (by omega)]; exact fa14
              have fa23 : ct3 6 i2 = .inr (1, [.int 0, .int 0, .int 0, .null, .int 0, .int 0, .null, .int 0, .int 0, .int 0]) := by rw [hcg3 6 i2 (hin2)]; exact fa15
              have fa24 : ct3 7 i3 = .inr (3, [.int 0, .int 0]) := by rw [← hct3, upd2_at]
              have hin3 : i3 < cnt3 7 := by omega
              refine lv_dup hx hb dX9_leave_95 rfl ?_
              refine lv_iload hx hb dX9_leave_96 (lv_at hl 6 rfl) ?_
              refine lv_iload hx hb dX9_leave_98 (lv_at hl 7 rfl) ?_
              have ev100_0 : ad2 2 0 = ad3 2 0 := hag3 2 0 (by omega)
              have ev100_1 : ad2 6 i2 = ad3 6 i2 := hag3 6 i2 (by omega)
              refine W.eq (g2 := F0 m 100 ls [.int a6, .int a5, .ref (ad3 7 i3), .ref (ad3 7 i3), .int a4, .int a3, .int (nI nw), .ref (ad3 6 i2), .ref (ad3 6 i2), .int (nI nc), .ref (ad3 2 0)]) (by rw [ev100_0, ev100_1]) ?_
              refine x_wrote hw (x_runI (rest := [.ref (ad3 7 i3), .int a4, .int a3, .int (nI nw), .ref (ad3 6 i2), .ref (ad3 6 i2), .int (nI nc), .ref (ad3 2 0)]) E cbX3_init tw_183 (kX3_init l D ca cnt3 ad3 ct3 H.size  7 i3  a5 a6 (hin3) (fa24)) ⟨rfl, rfl, by decide, by decide⟩ (fun _ _ _ _ h => h) (fun U hU _ => by rw [hU]; exact ⟨rfl, hw.1⟩) rfl hl.1 rfl (Nat.le_of_ble_eq_true rfl) dX9_leave_100 ⟨by decide, by decide⟩) (fun rv9 u9 H locs hp9 hw hz9 hk9 => ?_)
              obtain ⟨hrv9, hu9⟩ := hp9
              subst hrv9
              subst hu9
              dsimp only [Option.toList, List.nil_append] at hw ⊢
              generalize hct4 : upd2 ct3 7 i3 (.inr (3, [.int a5, .int a6])) = ct4 at hw
              have fa25 : ct4 0 0 = .inr (9, [.int (nI nw), .int (nI nb), .int (nI nc), .int (nI nm), .int (v 4), .int (v 5), .ref (ad 1 0), .ref (ad 2 0), .ref (ad 3 0), .ref (ad 11 tp), .ref (ad 11 (1 - tp)), .ref (ad 13 0)]) := by rw [← hct4, upd2_k _ _ _ _ (by decide)]; exact fa16
              have fa26 : ct4 1 0 = .inl (ca 3, 50, aQ fB) := by rw [← hct4, upd2_k _ _ _ _ (by decide)]; exact fa17
              have fa27 : ct4 2 0 = .inl (ca 4, 60, aQ fC) := by rw [← hct4, upd2_k _ _ _ _ (by decide)]; exact fa18
              have fa28 : ct4 3 0 = .inl (ca 5, 13, aQ fN) := by rw [← hct4, upd2_k _ _ _ _ (by decide)]; exact fa19
              have fa29 : ct4 11 tp = .inr (8, [.ref (ad 12 tp), .int (nI szq)]) := by rw [← hct4, upd2_k _ _ _ _ (by decide)]; exact fa20
              have fa30 : ct4 4 b1 = .inr (0, [.ref (ad 5 b1)]) := by rw [← hct4, upd2_k _ _ _ _ (by decide)]; exact fa21
              have fa31 : ct4 5 b1 = .inl (ca 1, n1, .inl (upd f1 j1 4)) := by rw [← hct4, upd2_k _ _ _ _ (by decide)]; exact fa22
              have fa32 : ct4 6 i2 = .inr (1, [.int 0, .int 0, .int 0, .null, .int 0, .int 0, .null, .int 0, .int 0, .int 0]) := by rw [← hct4, upd2_k _ _ _ _ (by decide)]; exact fa23
              have fa33 : ct4 7 i3 = .inr (3, [.int a5, .int a6]) := by rw [← hct4, upd2_at]; try rfl
              refine lv_iload_n hx hb dX9_leave_103 rfl (lv_at hl 2 rfl) ?_
              refine lv_iload_n hx hb dX9_leave_104 rfl (lv_at hl 3 rfl) ?_
              refine x_wrote hw (x_runI (rest := [.ref (ad3 6 i2), .int (nI nc), .ref (ad3 2 0)]) E cbX1_init tw_196 (kX1_init l D ca cnt3 ad3 ct4 H.size  i2 _ _ (nI nw) a3 a4 i3 (nI b1) (nI j1) (Nat.lt_of_lt_of_le (hin2) (hle3 _)) (fa32) (hin3) (fa33)) ⟨rfl, rfl, by decide, by decide⟩ (fun _ _ _ _ h => h) (fun U hU _ => by rw [hU]; exact ⟨rfl, hw.1⟩) rfl hl.1 rfl (Nat.le_of_ble_eq_true rfl) dX9_leave_105 ⟨by decide, by decide⟩) (fun rv9 u9 H locs hp9 hw hz9 hk9 => ?_)
              obtain ⟨hrv9, q9, hu9⟩ := hp9
              subst hrv9
              subst hu9
              dsimp only [Option.toList, List.nil_append] at hw ⊢
              skip
              generalize hix5 : cnt3 8 = i5 at hw
              generalize hcn5 : va_up cnt3 8 (i5 + 1) = cnt5 at hw
              generalize han5 : upd2 ad3 8 i5 q9 = ad5 at hw
              generalize hct5 : upd2 ct4 8 i5 (.inr (5, [.int 0, .int (nI nw), .int (nI nw), .null])) = ct5 at hw
              have hqq5 : q9 = ad5 8 i5 := by rw [← han5, upd2_at]
              subst hqq5
              have hcn5_0 : cnt5 0 = cnt3 0 := by rw [← hcn5, va_up_ne _ _ (by decide)]
              have hcn5_1 : cnt5 1 = cnt3 1 := by rw [← hcn5, va_up_ne _ _ (by decide)]
              have hcn5_2 : cnt5 2 = cnt3 2 := by rw [← hcn5, va_up_ne _ _ (by decide)]
              have hcn5_3 : cnt5 3 = cnt3 3 := by rw [← hcn5, va_up_ne _ _ (by decide)]
              have hcn5_4 : cnt5 4 = cnt3 4 := by rw [← hcn5, va_up_ne _ _ (by decide)]
              have hcn5_5 : cnt5 5 = cnt3 5 := by rw [← hcn5, va_up_ne _ _ (by decide)]
              have hcn5_6 : cnt5 6 = cnt3 6 := by rw [← hcn5, va_up_ne _ _ (by decide)]
              have hcn5_7 : cnt5 7 = cnt3 7 := by rw [← hcn5, va_up_ne _ _ (by decide)]
              have hcn5_8 : cnt5 8 = cnt3 8 + 1 := by rw [← hcn5, va_up_self, hix5]
              have hcn5_9 : cnt5 9 = cnt3 9 := by rw [← hcn5, va_up_ne _ _ (by decide)]
              have hcn5_10 : cnt5 10 = cnt3 10 := by rw [← hcn5, va_up_ne _ _ (by decide)]
              have hcn5_11 : cnt5 11 = cnt3 11 := by rw [← hcn5, va_up_ne _ _ (by decide)]
              have hcn5_12 : cnt5 12 = cnt3 12 := by rw [← hcn5, va_up_ne _ _ (by decide)]
              have hcn5_13 : cnt5 13 = cnt3 13 := by rw [← hcn5, va_up_ne _ _ (by decide)]
              have hcn5_14 : cnt5 14 = cnt3 14 := by rw [← hcn5, va_up_ne _ _ (by decide)]
              have hcn5_15 : cnt5 15 = cnt3 15 := by rw [← hcn5, va_up_ne _ _ (by decide)]
              have hcn5_16 : cnt5 16 = cnt3 16 := by rw [← hcn5, va_up_ne _ _ (by decide)]
              have hcn5_17 : cnt5 17 = cnt3 17 := by rw [← hcn5, va_up_ne _ _ (by decide)]
              have hag5 : ∀ k i, i < cnt3 k → ad3 k i = ad5 k i := fun k i hi => by rw [← han5]; by_cases hk : k = 8; subst hk; exact (upd2_i _ _ _ (by omega)).symm; exact (upd2_k _ _ _ _ hk).symm
              have hcg5 : ∀ k i, i < cnt3 k → ct5 k i = ct4 k i := fun k i hi => by rw [← hct5]; by_cases hk : k = 8; subst hk; exact upd2_i _ _ _ (by omega); exact upd2_k _ _ _ _ hk
              have hle5 : ∀ k, cnt3 k ≤ cnt5 k := fun k => by rw [← hcn5]; by_cases hk : k = 8; subst hk; rw [va_up_self]; omega; rw [va_up_ne _ _ hk]; exact Nat.le_refl _
              have fa34 : ct5 0 0 = .inr (9, [.int (nI nw), .int (nI nb), .int (nI nc), .int (nI nm), .int (v 4), .int (v 5), .ref (ad 1 0), .ref (ad 2 0), .ref (ad 3 0), .ref (ad 11 tp), .ref (ad 11 (1 - tp)), .ref (ad 13 0)]) := by rw [hcg5 0 0 (by omega)]; exact fa25
              have fa35 : ct5 1 0 = .inl (ca 3, 50, aQ fB) := by rw [hcg5 1 0 (by omega)]; exact fa26
              have fa36 : ct5 2 0 = .inl (ca 4, 60, aQ fC) := by rw [hcg5 2 0 (by omega)]; exact fa27
              have fa37 : ct5 3 0 = .inl (ca 5, 13, aQ fN) := by rw [hcg5 3 0 (by omega)]; exact fa28
              have fa38 : ct5 11 tp = .inr (8, [.ref (ad 12 tp), .int (nI szq)]) := by rw [hcg5 11 tp (by omega)]; exact fa29
              have fa39 : ct5 4 b1 = .inr (0, [.ref (ad 5 b1)]) := by rw [hcg5 4 b1 (by omega)]; exact fa30
              have fa40 : ct5 5 b1 = .inl (ca 1, n1, .inl (upd f1 j1 4)) := by rw [hcg5 5 b1 (by omega)]; exact fa31
              have fa41 : ct5 6 i2 = .inr (1, [.int 0, .int 0, .int 0, .null, .int 0, .int 0, .null, .int 0, .int 0, .int 0]) := by rw [hcg5 6 i2 (Nat.lt_of_lt_of_le (hin2) (hle3 _))]; exact fa32
              have fa42 : ct5 7 i3 = .inr (3, [.int a5, .int a6]) := by rw [hcg5 7 i3 (hin3)]; exact fa33
              have fa43 : ct5 8 i5 = .inr (5, [.int 0, .int (nI nw), .int (nI nw), .null]) := by rw [← hct5, upd2_at]
              have hin5 : i5 < cnt5 8 := by omega
              generalize hct6 : upd2 ct5 6 i2 (.inr (1, [.int (nI nw), .int a3, .int a4, .ref (ad3 7 i3), .int (nI b1), .int (nI j1), .ref (ad5 8 i5), .int 0, .int 0, .int 0])) = ct6 at hw
              have fa44 : ct6 0 0 = .inr (9, [.int (nI nw), .int (nI nb), .int (nI nc), .int (nI nm), .int (v 4), .int (v 5), .ref (ad 1 0), .ref (ad 2 0), .ref (ad 3 0), .ref (ad 11 tp), .ref (ad 11 (1 - tp)), .ref (ad 13 0)]) := by rw [← hct6, upd2_k _ _ _ _ (by decide)]; exact fa34
              have fa45 : ct6 1 0 = .inl (ca 3, 50, aQ fB) := by rw [← hct6, upd2_k _ _ _ _ (by decide)]; exact fa35
              have fa46 : ct6 2 0 = .inl (ca 4, 60, aQ fC) := by rw [← hct6, upd2_k _ _ _ _ (by decide)]; exact fa36
              have fa47 : ct6 3 0 = .inl (ca 5, 13, aQ fN) := by rw [← hct6, upd2_k _ _ _ _ (by decide)]; exact fa37
              have fa48 : ct6 11 tp = .inr (8, [.ref (ad 12 tp), .int (nI szq)]) := by rw [← hct6, upd2_k _ _ _ _ (by decide)]; exact fa38
              have fa49 : ct6 4 b1 = .inr (0, [.ref (ad 5 b1)]) := by rw [← hct6, upd2_k _ _ _ _ (by decide)]; exact fa39
              have fa50 : ct6 5 b1 = .inl (ca 1, n1, .inl (upd f1 j1 4)) := by rw [← hct6, upd2_k _ _ _ _ (by decide)]; exact fa40
              have fa51 : ct6 6 i2 = .inr (1, [.int (nI nw), .int a3, .int a4, .ref (ad3 7 i3), .int (nI b1), .int (nI j1), .ref (ad5 8 i5), .int 0, .int 0, .int 0]) := by rw [← hct6, upd2_at]; try rfl
              have fa52 : ct6 7 i3 = .inr (3, [.int a5, .int a6]) := by rw [← hct6, upd2_k _ _ _ _ (by decide)]; exact fa42
              have fa53 : ct6 8 i5 = .inr (5, [.int 0, .int (nI nw), .int (nI nw), .null]) := by rw [← hct6, upd2_k _ _ _ _ (by decide)]; exact fa43
              have ev108_0 : ad3 2 0 = ad5 2 0 := hag5 2 0 (by omega)
              have ev108_1 : ad3 6 i2 = ad5 6 i2 := hag5 6 i2 (by omega)
              refine W.eq (g2 := F0 m 108 ls [.ref (ad5 6 i2), .int (nI nc), .ref (ad5 2 0)]) (by rw [ev108_0, ev108_1]) ?_
              refine x_ast E hw 4 rfl cl_1 2 0 (by omega) fa46 6 i2 (by omega) fa51 nc (rfl) (by omega) (by decide) dX9_leave_108 (fun H locs hw => ?_)
              generalize hct7 : upd2 ct6 2 0 (.inl (ca 4, 60, aQ (va_up fC nc (some (ad5 6 i2))))) = ct7 at hw
              have fa54 : ct7 0 0 = .inr (9, [.int (nI nw), .int (nI nb), .int (nI nc), .int (nI nm), .int (v 4), .int (v 5), .ref (ad 1 0), .ref (ad 2 0), .ref (ad 3 0), .ref (ad 11 tp), .ref (ad 11 (1 - tp)), .ref (ad 13 0)]) := by rw [← hct7, upd2_k _ _ _ _ (by decide)]; exact fa44
              have fa55 : ct7 1 0 = .inl (ca 3, 50, aQ fB) := by rw [← hct7, upd2_k _ _ _ _ (by decide)]; exact fa45
              have fa56 : ct7 2 0 = .inl (ca 4, 60, aQ (va_up fC nc (some (ad5 6 i2)))) := by rw [← hct7, upd2_at]; try rfl
              have fa57 : ct7 3 0 = .inl (ca 5, 13, aQ fN) := by rw [← hct7, upd2_k _ _ _ _ (by decide)]; exact fa47
              have fa58 : ct7 11 tp = .inr (8, [.ref (ad 12 tp), .int (nI szq)]) := by rw [← hct7, upd2_k _ _ _ _ (by decide)]; exact fa48
              have fa59 : ct7 4 b1 = .inr (0, [.ref (ad 5 b1)]) := by rw [← hct7, upd2_k _ _ _ _ (by decide)]; exact fa49
              have fa60 : ct7 5 b1 = .inl (ca 1, n1, .inl (upd f1 j1 4)) := by rw [← hct7, upd2_k _ _ _ _ (by decide)]; exact fa50
              have fa61 : ct7 6 i2 = .inr (1, [.int (nI nw), .int a3, .int a4, .ref (ad3 7 i3), .int (nI b1), .int (nI j1), .ref (ad5 8 i5), .int 0, .int 0, .int 0]) := by rw [← hct7, upd2_k _ _ _ _ (by decide)]; exact fa51
              have fa62 : ct7 7 i3 = .inr (3, [.int a5, .int a6]) := by rw [← hct7, upd2_k _ _ _ _ (by decide)]; exact fa52
              have fa63 : ct7 8 i5 = .inr (5, [.int 0, .int (nI nw), .int (nI nw), .null]) := by rw [← hct7, upd2_k _ _ _ _ (by decide)]; exact fa53
              refine lv_aload_n hx hb dX9_leave_109 rfl (lv_at hl 1 rfl) ?_
              refine lv_dup hx hb dX9_leave_110 rfl ?_
              have ev111_0 : ad 0 0 = ad5 0 0 := (hag2 0 0 (by omega)).trans ((hag3 0 0 (by omega)).trans (hag5 0 0 (by omega)))
              refine W.eq (g2 := F0 m 111 ls [.ref (ad5 0 0), .ref (ad5 0 0)]) (by rw [ev111_0]) ?_
              refine x_get E hw 0 0 (by omega) fa54 cl_9 ly_9 2 (by decide) tw_82 rfl dX9_leave_111 ?_
              refine lv_iconst (v := 1) hx hb dX9_leave_114 (by decide) ?_
              refine lv_iadd hx hb dX9_leave_115 ?_
              refine x_top (x := (nI nc + 1)) (y := (nI (nc + 1))) (nI_1 _) ?_
              refine x_put E hw 0 0 (by omega) fa54 cl_9 ly_9 tyX9 tyX9_ok nmX9 2 (by decide) tw_82 (Or.inl rfl) (by rfl) (by rfl) (Nat.le_of_ble_eq_true rfl) dX9_leave_116 (fun H locs hw => ?_)
              generalize hct8 : upd2 ct7 0 0 (.inr (9, [.int (nI nw), .int (nI nb), .int (nI nc), .int (nI nm), .int (v 4), .int (v 5), .ref (ad 1 0), .ref (ad 2 0), .ref (ad 3 0), .ref (ad 11 tp), .ref (ad 11 (1 - tp)), .ref (ad 13 0)].set 2 (.int (nI (nc + 1))))) = ct8 at hw
              have fa64 : ct8 0 0 = .inr (9, [.int (nI nw), .int (nI nb), .int (nI (nc + 1)), .int (nI nm), .int (v 4), .int (v 5), .ref (ad 1 0), .ref (ad 2 0), .ref (ad 3 0), .ref (ad 11 tp), .ref (ad 11 (1 - tp)), .ref (ad 13 0)]) := by rw [← hct8, upd2_at]; try rfl
              have fa65 : ct8 1 0 = .inl (ca 3, 50, aQ fB) := by rw [← hct8, upd2_k _ _ _ _ (by decide)]; exact fa55
              have fa66 : ct8 2 0 = .inl (ca 4, 60, aQ (va_up fC nc (some (ad5 6 i2)))) := by rw [← hct8, upd2_k _ _ _ _ (by decide)]; exact fa56
              have fa67 : ct8 3 0 = .inl (ca 5, 13, aQ fN) := by rw [← hct8, upd2_k _ _ _ _ (by decide)]; exact fa57
              have fa68 : ct8 11 tp = .inr (8, [.ref (ad 12 tp), .int (nI szq)]) := by rw [← hct8, upd2_k _ _ _ _ (by decide)]; exact fa58
              have fa69 : ct8 4 b1 = .inr (0, [.ref (ad 5 b1)]) := by rw [← hct8, upd2_k _ _ _ _ (by decide)]; exact fa59
              have fa70 : ct8 5 b1 = .inl (ca 1, n1, .inl (upd f1 j1 4)) := by rw [← hct8, upd2_k _ _ _ _ (by decide)]; exact fa60
              have fa71 : ct8 6 i2 = .inr (1, [.int (nI nw), .int a3, .int a4, .ref (ad3 7 i3), .int (nI b1), .int (nI j1), .ref (ad5 8 i5), .int 0, .int 0, .int 0]) := by rw [← hct8, upd2_k _ _ _ _ (by decide)]; exact fa61
              have fa72 : ct8 7 i3 = .inr (3, [.int a5, .int a6]) := by rw [← hct8, upd2_k _ _ _ _ (by decide)]; exact fa62
              have fa73 : ct8 8 i5 = .inr (5, [.int 0, .int (nI nw), .int (nI nw), .null]) := by rw [← hct8, upd2_k _ _ _ _ (by decide)]; exact fa63
              refine lv_aload_n hx hb dX9_leave_119 rfl (lv_at hl 1 rfl) ?_
              have ev120_0 : ad 0 0 = ad5 0 0 := (hag2 0 0 (by omega)).trans ((hag3 0 0 (by omega)).trans (hag5 0 0 (by omega)))
              refine W.eq (g2 := F0 m 120 ls [.ref (ad5 0 0)]) (by rw [ev120_0]) ?_
              refine x_get E hw 0 0 (by omega) fa64 cl_9 ly_9 2 (by decide) tw_82 rfl dX9_leave_120 ?_
              refine lv_iconst (v := 1) hx hb dX9_leave_123 (by decide) ?_
              refine lv_isub hx hb dX9_leave_124 ?_
              refine x_top (x := (nI (nc + 1) - 1)) (y := (nI nc)) (nI_pred _) ?_
              subst hQ
              exact x_iretW E hr hlk hw (by decide) (by decide) (addA (((hag2 0 0 (by omega)).trans ((hag3 0 0 (by omega)).trans (hag5 0 0 (by omega)))).symm) (by dsimp only; have hf0 := hc_0; rw [hfe j1 hj1] at hf0; simp only [Bool.and_eq_true] at c_50; have hleA := hle_tr (hle_tr hle2 hle3) hle5; have hagA := hag_tr (hle_tr hle2 hle3) (hag_tr hle2 hag2 hag3) hag5; have hA4 : ∀ k i, i < cnt k → ct4 k i = ct1 k i := (by rw [← hct4]; exact agr_up (by omega) (hcg_tr hle2 hcg2 hcg3)); have hA6 : ∀ k i, i < cnt k → ct6 k i = ct1 k i := (by rw [← hct6]; exact agr_up (by omega) (hcg_tr (hle_tr hle2 hle3) hA4 hcg5)); exact cw_post (v' := upd v 2 (nI (nc + 1))) (g' := lvG g nw nc (20 * b1 + j1) a3 a4 a5 a6 (nI b1) (nI j1)) (by have hom := mWom_ok hO5.2.1 hn1 hb1 hj1 hg6; simp [mLeaveW, mLeaveOK, lvG, nI_clamp (n := b1) (by omega), nI_clamp (n := j1) (by omega), hom, hf0, c_29, c_40, c_50.1, c_50.2, show ¬ nc = 60 by omega]) ⟨nw, nb, nc + 1, nm, ⟨by rw [upd_ne _ _ (by decide)]; exact hO.1, by rw [upd_ne _ _ (by decide)]; exact hO.2.1, upd_at _ _ _, by rw [upd_ne _ _ (by decide)]; exact hO.2.2.2.1, hO5.1, hO5.2.1, by omega, hO5.2.2.2⟩, mIv_new hIv (fun k h1 h2 q h3 => lvG_o (by omega) (by omega)) (by simp [lvG, upd2]), tp, htp, cX_new htp ht11 ht13 hleA hagA hX (by rw [upd_ne _ _ (by decide), upd_ne _ _ (by decide)]; exact fa64), cT_v (v := v) (by rw [upd_ne _ _ (by decide)]) (by rw [upd_ne _ _ (by decide)]) (by rw [← hct8, ← hct7]; exact cT_up (by decide) (cT_up (by decide) (cT_ext htp hleA hagA hA6 (by rw [← hct1]; exact cT_up (by decide) (cT_g (fun _ => lvG_o (by omega) (by omega)) (fun _ => lvG_o (by omega) (by omega)) hT))))), by rw [← hct8, ← hct7]; exact cB_up (by decide) (cB_up (by decide) (cB_ext (by omega) (by omega) hx1 hagA hA6 (by rw [← hct1]; exact cB_set hb4 hb5 fz1 hBd hn1 hg6 (fun i hi => by by_cases q : i = j1; subst q; rw [upd_at]; simp [lvG, upd2]; rw [upd_ne _ _ q, lvG_o (by omega) (by omega)]; exact hfe i hi) (fun q hq => lvG_o (by omega) (by omega)) (fun _ => lvG_o (by omega) (by omega))))), cC_new (s := a3) (m := a4) (e := a5) (t := a6) (a := nI b1) (i := nI j1) hO5.1 (by omega) hIv hc6 hc7 hCd (by omega) (by omega) (by omega) (by omega) (by omega) (by omega) hleA hagA (fun k i hk hi => by rw [← hct8, upd2_k _ _ _ _ (by omega), ← hct7, upd2_k _ _ _ _ (by omega), hA6 k i hi, ← hct1, upd2_k _ _ _ _ (by omega)]) fa66 (by rw [← hag5 7 i3 hin3]; exact fa71) fa72 fa73 (fun k h1 h2 q h3 => lvG_o (by omega) (by omega)) (by simp [lvG, upd2]) (by simp [lvG, upd2]) (by simp [lvG, upd2]) (by simp [lvG, upd2]) (by simp [lvG, upd2]) (by simp [lvG, upd2]) (by simp [lvG, upd2]) (hZ nc (Nat.le_refl _) hnc).1 (hZ nc (Nat.le_refl _) hnc).2, by rw [← hct8, ← hct7]; exact cN_up (by decide) (cN_up (by decide) (cN_ext (by omega) hx3 hleA hagA hA6 (by rw [← hct1]; exact cN_up (by decide) (cN_g (fun _ => lvG_o (by omega) (by omega)) (fun _ => lvG_o (by omega) (by omega)) hN))))⟩)) dX9_leave_125
            · skip
              have hnc : nc = 60 := (by have q9 := mt (nI_ltI (a := nc) (b := 60) (by omega) (by decide)).mpr c_61; omega)
              refine lv_iconst (v := (-1)) hx hb dX9_leave_64 (by decide) ?_
              subst hQ
              exact x_iretW E hr hlk hw (by decide) (by decide) (addA (rfl) (cw_post (by simp [mLeaveW, mLeaveOK, hnc]) ⟨nw, nb, nc, nm, hC⟩)) dX9_leave_65
          · skip
            have c_50 := bB_0.mp c_50
            refine lv_iconst (v := (-1)) hx hb dX9_leave_53 (by decide) ?_
            subst hQ
            exact x_iretW E hr hlk hw (by decide) (by decide) (addA (rfl) (cw_post (by first | (simp [mLeaveW, mLeaveOK, hi9, c_18, c_29, c_40, c_50]; done) | (have q9 := c_50; simp only [Bool.and_eq_false_iff] at q9; rcases q9 with q9 | q9 <;> simp [mLeaveW, mLeaveOK, q9])) ⟨nw, nb, nc, nm, hC⟩)) dX9_leave_54
    · skip
      have hc_n := cBall_n0 hn1 c_18
      refine lv_iconst (v := (-1)) hx hb dX9_leave_21 (by decide) ?_
      subst hQ
      exact x_iretW E hr hlk hw (by decide) (by decide) (addA (rfl) (cw_post (by first | (simp [mLeaveW, mLeaveOK, mWom, fdB_none hn9]; done) | (rcases hc_n with q9 | ⟨j9, q8, rfl, q9⟩; simp [mLeaveW, mLeaveOK, mWom, nI_clamp (n := b1) (by omega), hg6, q9]; rw [hfe j9 q8] at q9; simp [mLeaveW, mLeaveOK, nI_clamp (n := b1) (by omega), nI_clamp (n := j9) (by omega), q9])) ⟨nw, nb, nc, nm, hC⟩)) dX9_leave_22
