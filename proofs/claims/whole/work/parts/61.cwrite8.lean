set_option maxHeartbeats 4000000 in
set_option maxRecDepth 100000 in
theorem kX0_kindOf (l : Launch) (D : va_G) (ca : Nat → ClassId) (a1 : Int32) (a2 : Int32) (a3 : Int32)  : Met l yX0_kindOf (wz yX0_kindOf cX0_kindOf 3 (some .int)) (rmL 1 0 0) (va_Pc [.int a1, .int a2, .int a3] (fun U => True ∧ gK D ca U)) (QcRead (kdI a1 a2 a3)) 0 0 (fun _ => False) := by
  refine x_met (by decide) (Nat.le_of_ble_eq_true rfl) ?_
  intro p e s m below meth c E hr hlk hnm hq ls hl
  generalize hav : ([.int a1, .int a2, .int a3] : List Value).toArray = args at E ⊢
  have hx := E.1
  have hb := E.2.1
  have hown := E.2.2.2.1
  have hts := E.2.2.2.2.1
  generalize hQ : MQ below (QcRead (kdI a1 a2 a3)) args s 0 0 (fun _ => False) = Q
  have hl : lv_has ls 3 [(0, .int a1), (1, .int a2), (2, .int a3)] := hl
  refine lv_iload_n hx hb dX0_kindOf_0 rfl (lv_at hl 0 rfl) ?_
  refine lv_iload_n hx hb dX0_kindOf_1 rfl (lv_at hl 1 rfl) ?_
  refine lv_icmp_ge (tgt := 7) hx hb dX0_kindOf_2 (by decide) (fun c_2 => ?_) (fun c_2 => ?_)
  · skip
    refine lv_iload_n hx hb dX0_kindOf_7 rfl (lv_at hl 0 rfl) ?_
    refine lv_iload_n hx hb dX0_kindOf_8 rfl (lv_at hl 1 rfl) ?_
    refine lv_iload_n hx hb dX0_kindOf_9 rfl (lv_at hl 2 rfl) ?_
    refine lv_iadd hx hb dX0_kindOf_10 ?_
    refine lv_icmp_ge (tgt := 18) hx hb dX0_kindOf_11 (by decide) (fun c_11 => ?_) (fun c_11 => ?_)
    · skip
      refine lv_iconst (v := 2) hx hb dX0_kindOf_18 (by decide) ?_
      subst hQ
      exact x_iret E hr hlk (by first | (simp [kdI, Int32.not_lt.mpr c_2, Int32.not_lt.mpr c_11]; done) | simp [kdI, Int32.not_lt.mpr c_2, Int32.not_le.mp c_11]) dX0_kindOf_19
    · skip
      refine lv_iconst (v := 1) hx hb dX0_kindOf_14 (by decide) ?_
      refine lv_goto (tgt := 19) hx hb dX0_kindOf_15 (by decide) ?_
      subst hQ
      exact x_iret E hr hlk (by first | (simp [kdI, Int32.not_lt.mpr c_2, Int32.not_lt.mpr c_11]; done) | simp [kdI, Int32.not_lt.mpr c_2, Int32.not_le.mp c_11]) dX0_kindOf_19
  · skip
    refine lv_iconst (v := 0) hx hb dX0_kindOf_5 (by decide) ?_
    subst hQ
    exact x_iret E hr hlk (by simp [kdI, Int32.not_le.mp c_2]) dX0_kindOf_6
set_option maxHeartbeats 4000000 in
set_option maxRecDepth 100000 in
theorem kX0_init (l : Launch) (D : va_G) (ca : Nat → ClassId) (cnt : Nat → Nat) (ad : Nat → Nat → Nat) (ct : Nat → Nat → va_E) (z9 : Nat) (b9 : Nat) (n1 : Nat) (w2 : Nat) (r3 : Nat) (x0 : Int64) (hki : b9 < cnt 4) (hkc : ct 4 b9 = .inr (0, [.null])) (hn1 : 1 ≤ n1 ∧ n1 ≤ 20) : Met l yX0_init (wz yX0_init cX0_init 12 none) (rmL 2 2 40) (va_Pc [.ref (ad 4 b9), .int (nI n1), .int (nI w2), .int (nI r3), .long x0] (fun U => (U.heap.size = z9 ∧ wq D cnt ad ct U.heap) ∧ gK D ca U)) (QcW D (wA cnt ad z9) (fun rv u => rv = none ∧ ∃ q1 q2 f17, u = (va_up (va_up cnt 17 (cnt 17 + 1)) 5 (va_up cnt 17 (cnt 17 + 1) 5 + 1), upd2 (upd2 ad 17 (cnt 17) q1) 5 (va_up cnt 17 (cnt 17 + 1) 5) q2, upd2 (upd2 (upd2 ct 17 (cnt 17) (.inl (ca 1, n1, .inl f17))) 5 (va_up cnt 17 (cnt 17 + 1) 5) (.inl (ca 1, n1, .inl (cBl n1 w2 r3 x0 n1).2.2))) 4 b9 (.inr (0, [.ref q2]))))) 2 40 (wA cnt ad z9) := by
  refine x_met (by decide) (Nat.le_of_ble_eq_true rfl) ?_
  intro p e s m below meth c E hr hlk hnm hq ls hl
  obtain ⟨hsz9, hq⟩ := hq
  subst hsz9
  generalize hav : ([.ref (ad 4 b9), .int (nI n1), .int (nI w2), .int (nI r3), .long x0] : List Value).toArray = args at E ⊢
  have hx := E.1
  have hb := E.2.1
  have hown := E.2.2.2.1
  have hts := E.2.2.2.2.1
  have hw : wd D (wA cnt ad s.heap.size) s.heap cnt ad ct s.heap [] := wd.start hq
  generalize hQ : MQ below (QcW D (wA cnt ad s.heap.size) (fun rv u => rv = none ∧ ∃ q1 q2 f17, u = (va_up (va_up cnt 17 (cnt 17 + 1)) 5 (va_up cnt 17 (cnt 17 + 1) 5 + 1), upd2 (upd2 ad 17 (cnt 17) q1) 5 (va_up cnt 17 (cnt 17 + 1) 5) q2, upd2 (upd2 (upd2 ct 17 (cnt 17) (.inl (ca 1, n1, .inl f17))) 5 (va_up cnt 17 (cnt 17 + 1) 5) (.inl (ca 1, n1, .inl (cBl n1 w2 r3 x0 n1).2.2))) 4 b9 (.inr (0, [.ref q2]))))) args s 2 40 (wA cnt ad s.heap.size) = Q
  generalize hA9 : wA cnt ad s.heap.size = A at hw hQ
  have hl : lv_has ls 12 [(0, .ref (ad 4 b9)), (1, .int (nI n1)), (2, .int (nI w2)), (3, .int (nI r3)), (4, .long x0)] := hl
  suffices hgo : ∀ (H : Heap) (locs : List Loc), wd D A s.heap cnt ad ct H locs → W p l e (rmL 2 2 40) s m args below meth c H locs 0 0 Q (F0 m 0 ls []) from hgo _ _ hw
  clear hw
  intro H locs hw
  refine lv_aload_n hx hb dX0_init_0 rfl (lv_at hl 0 rfl) ?_
  refine W.objInit hx hb hown (hts _ tw_132) (hts _ tw_20) (hts _ tw_21) rfl (hl.1.trans E.2.2.1.symm) rfl dX0_init_1 (by decide) (Nat.le_of_ble_eq_true rfl) ?_
  refine W.eq (g2 := F0 m 4 ls []) rfl ?_
  refine lv_iload_n hx hb dX0_init_4 rfl (lv_at hl 1 rfl) ?_
  refine x_newa (atype := .int) (N' := n1) E hw tw_66 17 1 rfl rfl (rfl) (by omega) (by show n1 * 4 ≤ _; omega) (by decide) (by show _ ≤ (40 : Nat); omega) dX0_init_5 (fun q9 H hw => ?_)
  generalize hix1 : cnt 17 = i1 at hw
  generalize hcn1 : va_up cnt 17 (i1 + 1) = cnt1 at hw
  generalize han1 : upd2 ad 17 i1 q9 = ad1 at hw
  generalize hct1 : upd2 ct 17 i1 (.inl (ca 1, n1, .inl (fun _ => 0))) = ct1 at hw
  have hqq1 : q9 = ad1 17 i1 := by rw [← han1, upd2_at]
  subst hqq1
  have hcn1_0 : cnt1 0 = cnt 0 := by rw [← hcn1, va_up_ne _ _ (by decide)]
  have hcn1_1 : cnt1 1 = cnt 1 := by rw [← hcn1, va_up_ne _ _ (by decide)]
  have hcn1_2 : cnt1 2 = cnt 2 := by rw [← hcn1, va_up_ne _ _ (by decide)]
  have hcn1_3 : cnt1 3 = cnt 3 := by rw [← hcn1, va_up_ne _ _ (by decide)]
  have hcn1_4 : cnt1 4 = cnt 4 := by rw [← hcn1, va_up_ne _ _ (by decide)]
  have hcn1_5 : cnt1 5 = cnt 5 := by rw [← hcn1, va_up_ne _ _ (by decide)]
  have hcn1_6 : cnt1 6 = cnt 6 := by rw [← hcn1, va_up_ne _ _ (by decide)]
  have hcn1_7 : cnt1 7 = cnt 7 := by rw [← hcn1, va_up_ne _ _ (by decide)]
  have hcn1_8 : cnt1 8 = cnt 8 := by rw [← hcn1, va_up_ne _ _ (by decide)]
  have hcn1_9 : cnt1 9 = cnt 9 := by rw [← hcn1, va_up_ne _ _ (by decide)]
  have hcn1_10 : cnt1 10 = cnt 10 := by rw [← hcn1, va_up_ne _ _ (by decide)]
  have hcn1_11 : cnt1 11 = cnt 11 := by rw [← hcn1, va_up_ne _ _ (by decide)]
  have hcn1_12 : cnt1 12 = cnt 12 := by rw [← hcn1, va_up_ne _ _ (by decide)]
  have hcn1_13 : cnt1 13 = cnt 13 := by rw [← hcn1, va_up_ne _ _ (by decide)]
  have hcn1_14 : cnt1 14 = cnt 14 := by rw [← hcn1, va_up_ne _ _ (by decide)]
  have hcn1_15 : cnt1 15 = cnt 15 := by rw [← hcn1, va_up_ne _ _ (by decide)]
  have hcn1_16 : cnt1 16 = cnt 16 := by rw [← hcn1, va_up_ne _ _ (by decide)]
  have hcn1_17 : cnt1 17 = cnt 17 + 1 := by rw [← hcn1, va_up_self, hix1]
  have hag1 : ∀ k i, i < cnt k → ad k i = ad1 k i := fun k i hi => by rw [← han1]; by_cases hk : k = 17; subst hk; exact (upd2_i _ _ _ (by omega)).symm; exact (upd2_k _ _ _ _ hk).symm
  have hcg1 : ∀ k i, i < cnt k → ct1 k i = ct k i := fun k i hi => by rw [← hct1]; by_cases hk : k = 17; subst hk; exact upd2_i _ _ _ (by omega); exact upd2_k _ _ _ _ hk
  have hle1 : ∀ k, cnt k ≤ cnt1 k := fun k => by rw [← hcn1]; by_cases hk : k = 17; subst hk; rw [va_up_self]; omega; rw [va_up_ne _ _ hk]; exact Nat.le_refl _
  have fa1 : ct1 4 b9 = .inr (0, [.null]) := by rw [hcg1 4 b9 (hki)]; exact hkc
  have fa2 : ct1 17 i1 = .inl (ca 1, n1, .inl (fun _ => 0)) := by rw [← hct1, upd2_at]
  have hin1 : i1 < cnt1 17 := by omega
  refine lv_astore (lv' := [(6, .ref (ad1 17 i1)), (0, .ref (ad 4 b9)), (1, .int (nI n1)), (2, .int (nI w2)), (3, .int (nI r3)), (4, .long x0)]) hx hb dX0_init_7 hl (by decide) rfl (fun ls hl => ?_)
  refine lv_iconst (v := 0) hx hb dX0_init_9 (by decide) ?_
  refine lv_istore (lv' := [(7, .int 0), (6, .ref (ad1 17 i1)), (0, .ref (ad 4 b9)), (1, .int (nI n1)), (2, .int (nI w2)), (3, .int (nI r3)), (4, .long x0)]) hx hb dX0_init_10 hl (by decide) rfl (fun ls hl => ?_)
  have lp12 : ∀ (n : Nat) (z : Nat), (z ≤ n1) → (n1 - z < n) → ∀ (H : Heap) (locs : List Loc), wd D A s.heap cnt1 ad1 (upd2 ct1 17 i1 (.inl (ca 1, n1, .inl (lnF w2 r3 z)))) H locs → ∀ ls : Array Slot, lv_has ls 12 [(0, .ref (ad 4 b9)), (1, .int (nI n1)), (2, .int (nI w2)), (3, .int (nI r3)), (4, .long x0), (6, .ref (ad1 17 i1)), (7, .int (nI z))] → W p l e (rmL 2 2 40) s m args below meth c H locs 1 (0 + n1) Q (F0 m 12 ls []) := by
    intro n
    induction n with
    | zero =>
      intro z hi hfu H locs hw ls hl
      exact absurd hfu (by omega)
    | succ n ih12 =>
      intro z hi hfu H locs hw ls hl
      refine lv_iload hx hb dX0_init_12 (lv_at hl 6 rfl) ?_
      refine lv_iload_n hx hb dX0_init_14 rfl (lv_at hl 1 rfl) ?_
      refine lv_icmp_ge (tgt := 36) hx hb dX0_init_15 (by decide) (fun c_15 => ?_) (fun c_15 => ?_)
      · skip
        have hge : z = n1 := by have q9 := (nI_leI (a := n1) (b := z) (by omega) (by omega)).mp c_15; omega
        refine lv_aload_n hx hb dX0_init_36 rfl (lv_at hl 0 rfl) ?_
        refine lv_iload_n hx hb dX0_init_37 rfl (lv_at hl 1 rfl) ?_
        refine x_newa (atype := .int) (N' := n1) E hw tw_66 5 1 rfl rfl (rfl) (by omega) (by show n1 * 4 ≤ _; omega) (by decide) (by show _ ≤ (40 : Nat); omega) dX0_init_38 (fun q9 H hw => ?_)
        generalize hix2 : cnt1 5 = i2 at hw
        generalize hcn2 : va_up cnt1 5 (i2 + 1) = cnt2 at hw
        generalize han2 : upd2 ad1 5 i2 q9 = ad2 at hw
        generalize hct2 : upd2 (upd2 ct1 17 i1 (.inl (ca 1, n1, .inl (lnF w2 r3 z)))) 5 i2 (.inl (ca 1, n1, .inl (fun _ => 0))) = ct2 at hw
        have hqq2 : q9 = ad2 5 i2 := by rw [← han2, upd2_at]
        subst hqq2
        have hcn2_0 : cnt2 0 = cnt1 0 := by rw [← hcn2, va_up_ne _ _ (by decide)]
        have hcn2_1 : cnt2 1 = cnt1 1 := by rw [← hcn2, va_up_ne _ _ (by decide)]
        have hcn2_2 : cnt2 2 = cnt1 2 := by rw [← hcn2, va_up_ne _ _ (by decide)]
        have hcn2_3 : cnt2 3 = cnt1 3 := by rw [← hcn2, va_up_ne _ _ (by decide)]
        have hcn2_4 : cnt2 4 = cnt1 4 := by rw [← hcn2, va_up_ne _ _ (by decide)]
        have hcn2_5 : cnt2 5 = cnt1 5 + 1 := by rw [← hcn2, va_up_self, hix2]
        have hcn2_6 : cnt2 6 = cnt1 6 := by rw [← hcn2, va_up_ne _ _ (by decide)]
        have hcn2_7 : cnt2 7 = cnt1 7 := by rw [← hcn2, va_up_ne _ _ (by decide)]
        have hcn2_8 : cnt2 8 = cnt1 8 := by rw [← hcn2, va_up_ne _ _ (by decide)]
        have hcn2_9 : cnt2 9 = cnt1 9 := by rw [← hcn2, va_up_ne _ _ (by decide)]
        have hcn2_10 : cnt2 10 = cnt1 10 := by rw [← hcn2, va_up_ne _ _ (by decide)]
        have hcn2_11 : cnt2 11 = cnt1 11 := by rw [← hcn2, va_up_ne _ _ (by decide)]
        have hcn2_12 : cnt2 12 = cnt1 12 := by rw [← hcn2, va_up_ne _ _ (by decide)]
        have hcn2_13 : cnt2 13 = cnt1 13 := by rw [← hcn2, va_up_ne _ _ (by decide)]
        have hcn2_14 : cnt2 14 = cnt1 14 := by rw [← hcn2, va_up_ne _ _ (by decide)]
        have hcn2_15 : cnt2 15 = cnt1 15 := by rw [← hcn2, va_up_ne _ _ (by decide)]
        have hcn2_16 : cnt2 16 = cnt1 16 := by rw [← hcn2, va_up_ne _ _ (by decide)]
        have hcn2_17 : cnt2 17 = cnt1 17 := by rw [← hcn2, va_up_ne _ _ (by decide)]
        have hag2 : ∀ k i, i < cnt1 k → ad1 k i = ad2 k i := fun k i hi => by rw [← han2]; by_cases hk : k = 5; subst hk; exact (upd2_i _ _ _ (by omega)).symm; exact (upd2_k _ _ _ _ hk).symm
        have hcg2 : ∀ k i, i < cnt1 k → ct2 k i = (upd2 ct1 17 i1 (.inl (ca 1, n1, .inl (lnF w2 r3 z)))) k i := fun k i hi => by rw [← hct2]; by_cases hk : k = 5; subst hk; exact upd2_i _ _ _ (by omega); exact upd2_k _ _ _ _ hk
        have hle2 : ∀ k, cnt1 k ≤ cnt2 k := fun k => by rw [← hcn2]; by_cases hk : k = 5; subst hk; rw [va_up_self]; omega; rw [va_up_ne _ _ hk]; exact Nat.le_refl _
        have fa3 : ct2 17 i1 = .inl (ca 1, n1, .inl (lnF w2 r3 z)) := by rw [hcg2 17 i1 (hin1)]; exact (upd2_at _ _ _ _)
        have fa4 : ct2 4 b9 = .inr (0, [.null]) := by rw [hcg2 4 b9 (by omega)]; exact ((upd2_k _ _ _ _ (by decide)).trans ((hcg1 4 b9 hki).trans hkc))
        have fa5 : ct2 5 i2 = .inl (ca 1, n1, .inl (fun _ => 0)) := by rw [← hct2, upd2_at]
        have hin2 : i2 < cnt2 5 := by omega
        have ev40_0 : ad 4 b9 = ad2 4 b9 := (hag1 4 b9 (by omega)).trans (hag2 4 b9 (by omega))
        refine W.eq (g2 := F0 m 40 ls [.ref (ad2 5 i2), .ref (ad2 4 b9)]) (by rw [ev40_0]) ?_
        refine x_put E hw 4 b9 (by omega) fa4 cl_0 ly_0 tyX0 tyX0_ok nmX0 0 (by decide) tw_141 (Or.inr ⟨rfl, hnm, rfl⟩) (by rfl) (by rfl) (Nat.le_of_ble_eq_true rfl) dX0_init_40 (fun H locs hw => ?_)
        generalize hct3 : upd2 ct2 4 b9 (.inr (0, [.null].set 0 (.ref (ad2 5 i2)))) = ct3 at hw
        have fa6 : ct3 17 i1 = .inl (ca 1, n1, .inl (lnF w2 r3 z)) := by rw [← hct3, upd2_k _ _ _ _ (by decide)]; exact fa3
        have fa7 : ct3 4 b9 = .inr (0, [.ref (ad2 5 i2)]) := by rw [← hct3, upd2_at]; try rfl
        have fa8 : ct3 5 i2 = .inl (ca 1, n1, .inl (fun _ => 0)) := by rw [← hct3, upd2_k _ _ _ _ (by decide)]; exact fa5
        have h4c3 := fa7
        have h5c3 := fa8
        have h17c3 := fa6
        rw [hge] at h17c3
        refine lv_lload hx hb dX0_init_43 (lv_at hl 4 rfl) ?_
        refine lv_lstore (lv' := [(7, .long x0), (0, .ref (ad 4 b9)), (1, .int (nI n1)), (2, .int (nI w2)), (3, .int (nI r3)), (4, .long x0), (6, .ref (ad1 17 i1))]) hx hb dX0_init_45 hl (by decide) rfl (fun ls hl => ?_)
        refine lv_iconst (v := 0) hx hb dX0_init_47 (by decide) ?_
        refine lv_istore (lv' := [(9, .int 0), (7, .long x0), (0, .ref (ad 4 b9)), (1, .int (nI n1)), (2, .int (nI w2)), (3, .int (nI r3)), (4, .long x0), (6, .ref (ad1 17 i1))]) hx hb dX0_init_48 hl (by decide) rfl (fun ls hl => ?_)
        have lp50 : ∀ (n : Nat) (w : Nat) (x7 : Int64), (w ≤ n1) → (x7 = (cBl n1 w2 r3 x0 w).1) → (n1 - w < n) → ∀ (H : Heap) (locs : List Loc), wd D A s.heap cnt2 ad2 (upd2 (upd2 ct3 17 i1 (.inl (ca 1, n1, .inl (cBl n1 w2 r3 x0 w).2.1))) 5 i2 (.inl (ca 1, n1, .inl (cBl n1 w2 r3 x0 w).2.2))) H locs → ∀ ls : Array Slot, lv_has ls 12 [(0, .ref (ad 4 b9)), (1, .int (nI n1)), (2, .int (nI w2)), (3, .int (nI r3)), (6, .ref (ad1 17 i1)), (7, .long x7), (9, .int (nI w))] → W p l e (rmL 2 2 40) s m args below meth c H locs 2 ((0 + n1) + n1) Q (F0 m 50 ls []) := by
          intro n
          induction n with
          | zero =>
            intro w x7 hi h7 hfu H locs hw ls hl
            exact absurd hfu (by omega)
          | succ n ih50 =>
            intro w x7 hi h7 hfu H locs hw ls hl
            refine lv_iload hx hb dX0_init_50 (lv_at hl 6 rfl) ?_
            refine lv_iload_n hx hb dX0_init_52 rfl (lv_at hl 1 rfl) ?_
            refine lv_icmp_ge (tgt := 124) hx hb dX0_init_53 (by decide) (fun c_53 => ?_) (fun c_53 => ?_)
            · skip
              have hge : w = n1 := by have q9 := (nI_leI (a := n1) (b := w) (by omega) (by omega)).mp c_53; omega
              subst hQ
              exact x_vretW E hr hlk hw (by decide) (by omega) (⟨rfl, ad1 17 i1, ad2 5 i2, _, by rw [hge, hix1, hcn1, han1, hix2, hcn2, han2, ← hct3, ← hct2, ← hct1]; rw [upd2_2, upd2_cm _ _ _ _ _ (show (4 : Nat) ≠ 17 by decide), upd2_cm _ _ _ _ _ (show (5 : Nat) ≠ 17 by decide), upd2_2, upd2_cm _ _ _ _ _ (show (4 : Nat) ≠ 5 by decide), upd2_2]; rfl⟩) dX0_init_124
            · skip
              have hlt : w < n1 := by have q9 := mt (nI_leI (a := n1) (b := w) (by omega) (by omega)).mpr c_53; omega
              have h7n : mNx x7 = mNx (cBl n1 w2 r3 x0 w).1 := by rw [h7]
              refine lv_iload_n hx hb dX0_init_56 rfl (lv_at hl 1 rfl) ?_
              refine lv_iload hx hb dX0_init_57 (lv_at hl 6 rfl) ?_
              refine lv_isub hx hb dX0_init_59 ?_
              refine x_top (x := (nI n1 - nI w)) (y := (nI (n1 - w))) (pk_sub (by omega)) ?_
              refine lv_istore (lv' := [(10, .int (nI (n1 - w))), (0, .ref (ad 4 b9)), (1, .int (nI n1)), (2, .int (nI w2)), (3, .int (nI r3)), (6, .ref (ad1 17 i1)), (7, .long x7), (9, .int (nI w))]) hx hb dX0_init_60 hl (by decide) rfl (fun ls hl => ?_)
              refine lv_lload hx hb dX0_init_62 (lv_at hl 6 rfl) ?_
              refine lv_ldc2 hx hb hown (hts _ tw_136) dX0_init_64 ?_
              refine lv_lmul hx hb dX0_init_67 ?_
              refine lv_ldc2 hx hb hown (hts _ tw_137) dX0_init_68 ?_
              refine lv_ladd hx hb dX0_init_71 ?_
              refine x_topL (x := ((x7 * 6364136223846793005) + 1442695040888963407)) (y := (mNx x7)) (mNx_eq x7) ?_
              refine lv_lstore (lv' := [(7, .long (mNx x7)), (10, .int (nI (n1 - w))), (0, .ref (ad 4 b9)), (1, .int (nI n1)), (2, .int (nI w2)), (3, .int (nI r3)), (6, .ref (ad1 17 i1)), (9, .int (nI w))]) hx hb dX0_init_72 hl (by decide) rfl (fun ls hl => ?_)
              refine lv_lload hx hb dX0_init_74 (lv_at hl 0 rfl) ?_
              refine lv_bipush (v := 33) hx hb dX0_init_76 (by decide) ?_
              refine lv_lushr (v := (lN (mHi (mNx x7)))) hx hb dX0_init_78 (mHi_val _) ?_
              refine lv_iload hx hb dX0_init_79 (lv_at hl 1 rfl) ?_
              refine lv_i2l (v := (lN (n1 - w))) hx hb dX0_init_81 (nI_l (by omega)) ?_
              refine lv_lrem hx hb dX0_init_82 (lN_ne0 (by omega) (by omega)) ?_
              refine x_topL (x := (lN (mHi (mNx x7)) - lN (mHi (mNx x7)) / lN (n1 - w) * lN (n1 - w))) (y := (lN (mK (mNx x7) (n1 - w)))) (pk_lRem (Nat.lt_trans (mHi_lt _) (by decide)) (by omega) (by omega)) ?_
              refine lv_l2i (v := (nI (mK (mNx x7) (n1 - w)))) hx hb dX0_init_83 (lN_i _) ?_
              have hKl : mK (mNx x7) (n1 - w) < n1 - w := Nat.mod_lt _ (by omega)
              generalize hK : mK (mNx x7) (n1 - w) = K at hKl ⊢
              refine lv_istore (lv' := [(11, .int (nI K)), (7, .long (mNx x7)), (10, .int (nI (n1 - w))), (0, .ref (ad 4 b9)), (1, .int (nI n1)), (2, .int (nI w2)), (3, .int (nI r3)), (6, .ref (ad1 17 i1)), (9, .int (nI w))]) hx hb dX0_init_84 hl (by decide) rfl (fun ls hl => ?_)
              refine lv_aload_n hx hb dX0_init_86 rfl (lv_at hl 3 rfl) ?_
              have ev87_0 : ad 4 b9 = ad2 4 b9 := (hag1 4 b9 (by omega)).trans (hag2 4 b9 (by omega))
              refine W.eq (g2 := F0 m 87 ls [.ref (ad2 4 b9)]) (by rw [ev87_0]) ?_
              refine x_get E hw 4 b9 (by omega) ((upd2_k _ _ _ _ (by decide)).trans ((upd2_k _ _ _ _ (by decide)).trans h4c3)) cl_0 ly_0 0 (by decide) tw_141 rfl dX0_init_87 ?_
              refine lv_iload hx hb dX0_init_90 (lv_at hl 8 rfl) ?_
              refine lv_aload hx hb dX0_init_92 (lv_at hl 7 rfl) ?_
              refine lv_iload hx hb dX0_init_94 (lv_at hl 0 rfl) ?_
              have ev96_0 : ad1 17 i1 = ad2 17 i1 := hag2 17 i1 (by omega)
              refine W.eq (g2 := F0 m 96 ls [.int (nI K), .ref (ad2 17 i1), .int (nI w), .ref (ad2 5 i2)]) (by rw [ev96_0]) ?_
              refine x_ild E hw 17 i1 (by omega) ((upd2_k _ _ _ _ (by decide)).trans (upd2_at _ _ _ _)) K (rfl) (by omega) (by omega) dX0_init_96 ?_
              refine x_ist E hw 5 i2 (by omega) (upd2_at _ _ _ _) w (rfl) (hlt) (by omega) dX0_init_97 (fun H locs hw => ?_)
              generalize hct4 : upd2 (upd2 (upd2 ct3 17 i1 (.inl (ca 1, n1, .inl (cBl n1 w2 r3 x0 w).2.1))) 5 i2 (.inl (ca 1, n1, .inl (cBl n1 w2 r3 x0 w).2.2))) 5 i2 (.inl (ca 1, n1, .inl (upd ((cBl n1 w2 r3 x0 w).2.2) w (((cBl n1 w2 r3 x0 w).2.1) K)))) = ct4 at hw
              have fa9 : ct4 17 i1 = .inl (ca 1, n1, .inl ((cBl n1 w2 r3 x0 w).2.1)) := by rw [← hct4, upd2_k _ _ _ _ (by decide)]; exact ((upd2_k _ _ _ _ (by decide)).trans (upd2_at _ _ _ _))
              have fa10 : ct4 5 i2 = .inl (ca 1, n1, .inl (upd ((cBl n1 w2 r3 x0 w).2.2) w (((cBl n1 w2 r3 x0 w).2.1) K))) := by rw [← hct4, upd2_at]; try rfl
              have fa11 : ct4 4 b9 = .inr (0, [.ref (ad2 5 i2)]) := by rw [← hct4, upd2_k _ _ _ _ (by decide)]; exact ((upd2_k _ _ _ _ (by decide)).trans ((upd2_k _ _ _ _ (by decide)).trans h4c3))
              refine lv_aload hx hb dX0_init_98 (lv_at hl 7 rfl) ?_
              refine lv_iload hx hb dX0_init_100 (lv_at hl 0 rfl) ?_
              refine lv_iconst (v := 1) hx hb dX0_init_102 (by decide) ?_
              refine lv_iadd hx hb dX0_init_103 ?_
              refine x_top (x := (nI K + 1)) (y := (nI (K + 1))) (nI_1 _) ?_
              refine lv_aload hx hb dX0_init_104 (lv_at hl 7 rfl) ?_
              refine lv_iload hx hb dX0_init_106 (lv_at hl 0 rfl) ?_
              refine lv_iload hx hb dX0_init_108 (lv_at hl 2 rfl) ?_
              refine lv_iload hx hb dX0_init_110 (lv_at hl 0 rfl) ?_
              refine lv_isub hx hb dX0_init_112 ?_
              refine x_top (x := (nI (n1 - w) - nI K)) (y := (nI (n1 - w - K))) (pk_sub (by omega)) ?_
              refine lv_iconst (v := 1) hx hb dX0_init_113 (by decide) ?_
              refine lv_isub hx hb dX0_init_114 ?_
              refine x_top (x := (nI (n1 - w - K) - 1)) (y := (nI (n1 - w - K - 1))) (pk_sub (b := 1) (by omega)) ?_
              have ev115_0 : ad1 17 i1 = ad2 17 i1 := hag2 17 i1 (by omega)
              refine W.eq (g2 := F0 m 115 ls [.int (nI (n1 - w - K - 1)), .int (nI K), .ref (ad2 17 i1), .int (nI (K + 1)), .ref (ad2 17 i1)]) (by rw [ev115_0]) ?_
              refine x_copy E hw 17 i1 (by omega) fa9 (sp := (K + 1)) (dp := K) (len := (n1 - w - K - 1)) (by omega) (by omega) (by omega) tw_138 tw_140 tw_139 tw_7 (E.2.2.1.trans hl.1.symm) (by decide) (Nat.le_of_ble_eq_true rfl) dX0_init_115 (fun H locs hw => ?_)
              generalize hct5 : upd2 ct4 17 i1 (.inl (ca 1, n1, .inl (va_cpy ((cBl n1 w2 r3 x0 w).2.1) ((cBl n1 w2 r3 x0 w).2.1) (K + 1) K (n1 - w - K - 1)))) = ct5 at hw
              have fa12 : ct5 17 i1 = .inl (ca 1, n1, .inl (va_cpy ((cBl n1 w2 r3 x0 w).2.1) ((cBl n1 w2 r3 x0 w).2.1) (K + 1) K (n1 - w - K - 1))) := by rw [← hct5, upd2_at]; try rfl
              have fa13 : ct5 5 i2 = .inl (ca 1, n1, .inl (upd ((cBl n1 w2 r3 x0 w).2.2) w (((cBl n1 w2 r3 x0 w).2.1) K))) := by rw [← hct5, upd2_k _ _ _ _ (by decide)]; exact fa10
              have fa14 : ct5 4 b9 = .inr (0, [.ref (ad2 5 i2)]) := by rw [← hct5, upd2_k _ _ _ _ (by decide)]; exact fa11
              refine lv_iinc (v := (nI (w + 1))) (lv' := [(9, .int (nI (w + 1))), (11, .int (nI K)), (7, .long (mNx x7)), (10, .int (nI (n1 - w))), (0, .ref (ad 4 b9)), (1, .int (nI n1)), (2, .int (nI w2)), (3, .int (nI r3)), (6, .ref (ad1 17 i1))]) hx hb dX0_init_118 hl (k := 8) rfl (nI_1 _) (by decide) rfl (fun ls hl => ?_)
              refine lv_goto (tgt := 50) hx hb dX0_init_121 (by decide) ?_
              exact ih50 (w + 1) (mNx x7) (hlt) (by rw [h7n, cBl]) (by omega) _ _ (by rw [← hct5, ← hct4, upd2_2, upd2_cm _ _ _ _ _ (show (5 : Nat) ≠ 17 by decide), upd2_2] at hw; rw [cBl, ← h7n, hK]; exact hw) ls (lv_sub hl [4, 5, 6, 7, 8, 2, 0] (rfl))
        exact lp50 (n1 + 1) 0 x0 (Nat.zero_le _) (rfl) (by omega) _ _ (by rw [cBl]; dsimp only; rw [upd2_same h17c3, upd2_same h5c3]; exact hw) ls (lv_sub hl [2, 3, 4, 5, 7, 1, 0] (rfl))
      · skip
        have hlt : z < n1 := by have q9 := mt (nI_leI (a := n1) (b := z) (by omega) (by omega)).mpr c_15; omega
        refine lv_aload hx hb dX0_init_18 (lv_at hl 5 rfl) ?_
        refine lv_iload hx hb dX0_init_20 (lv_at hl 6 rfl) ?_
        refine lv_iload hx hb dX0_init_22 (lv_at hl 6 rfl) ?_
        refine lv_iload_n hx hb dX0_init_24 rfl (lv_at hl 2 rfl) ?_
        refine lv_iload_n hx hb dX0_init_25 rfl (lv_at hl 3 rfl) ?_
        refine x_read (x_runS (rest := [.int (nI z), .ref (ad1 17 i1)]) E cbX0_kindOf tw_133 (kX0_kindOf l D ca (nI z) (nI w2) (nI r3) ) ⟨rfl, rfl, by decide, by decide⟩ (fun _ _ _ _ h => h) (fun _ _ _ => trivial) rfl hl.1 rfl (Nat.le_of_ble_eq_true rfl) dX0_init_26 ⟨by decide, by show _ ≤ (40 : Nat); omega⟩) ?_
        refine x_top (x := (kdI (nI z) (nI w2) (nI r3))) (y := (mColr w2 r3 (nI z))) (kd_eq _ _ _) ?_
        refine x_ist E hw 17 i1 (hin1) (upd2_at _ _ _ _) z (rfl) (hlt) (by omega) dX0_init_29 (fun H locs hw => ?_)
        generalize hct2 : upd2 (upd2 ct1 17 i1 (.inl (ca 1, n1, .inl (lnF w2 r3 z)))) 17 i1 (.inl (ca 1, n1, .inl (upd (lnF w2 r3 z) z (mColr w2 r3 (nI z))))) = ct2 at hw
        have fa15 : ct2 17 i1 = .inl (ca 1, n1, .inl (upd (lnF w2 r3 z) z (mColr w2 r3 (nI z)))) := by rw [← hct2, upd2_at]; try rfl
        have fa16 : ct2 4 b9 = .inr (0, [.null]) := by rw [← hct2, upd2_k _ _ _ _ (by decide)]; exact ((upd2_k _ _ _ _ (by decide)).trans ((hcg1 4 b9 hki).trans hkc))
        refine lv_iinc (v := (nI (z + 1))) (lv' := [(7, .int (nI (z + 1))), (0, .ref (ad 4 b9)), (1, .int (nI n1)), (2, .int (nI w2)), (3, .int (nI r3)), (4, .long x0), (6, .ref (ad1 17 i1))]) hx hb dX0_init_30 hl (k := 6) rfl (nI_1 _) (by decide) rfl (fun ls hl => ?_)
        refine lv_goto (tgt := 12) hx hb dX0_init_33 (by decide) ?_
        exact ih12 (z + 1) (hlt) (by omega) _ _ (by rw [← hct2, upd2_2, lnF_s] at hw; exact hw) ls (lv_sub hl [1, 2, 3, 4, 5, 6, 0] (rfl))
  exact lp12 (n1 + 1) 0 (Nat.zero_le _) (by omega) _ _ (by rw [lnF_0, upd2_same fa2]; exact hw) ls (lv_sub hl [2, 3, 4, 5, 6, 1, 0] (rfl))
set_option maxHeartbeats 4000000 in
set_option maxRecDepth 100000 in
theorem kX9_ballot (l : Launch) (D : va_G) (ca : Nat → ClassId) (cnt : Nat → Nat) (ad : Nat → Nat → Nat) (ct : Nat → Nat → va_E) (z9 : Nat) (v : Nat → Int32) (g : Nat → Nat → Int32) (nw : Nat) (nb : Nat) (nc : Nat) (nm : Nat) (a1 : Int32) (a2 : Int32) (a3 : Int32) (x0 : Int64) (hC : cRep ca cnt ad ct v g nw nb nc nm) : Met l yX9_ballot (wz yX9_ballot cX9_ballot 6 (some .int)) (rmL 3 3 41) (va_Pc [.ref (ad 0 0), .int a1, .int a2, .int a3, .long x0] (fun U => (U.heap.size = z9 ∧ wq D cnt ad ct U.heap) ∧ gK D ca U)) (QcW D (wA cnt ad z9) (fun rv u => rv = some (.int (mBallotW v g nb a1 a2 a3 x0).1) ∧ cRepE ca u.1 u.2.1 u.2.2 (mBallotW v g nb a1 a2 a3 x0).2.1 (mBallotW v g nb a1 a2 a3 x0).2.2 ∧ u.2.1 0 0 = ad 0 0)) 3 41 (wA cnt ad z9) := by
  refine x_met (by decide) (Nat.le_of_ble_eq_true rfl) ?_
  intro p e s m below meth c E hr hlk hnm hq ls hl
  obtain ⟨hsz9, hq⟩ := hq
  subst hsz9
  generalize hav : ([.ref (ad 0 0), .int a1, .int a2, .int a3, .long x0] : List Value).toArray = args at E ⊢
  have hx := E.1
  have hb := E.2.1
  have hown := E.2.2.2.1
  have hts := E.2.2.2.2.1
  have hw : wd D (wA cnt ad s.heap.size) s.heap cnt ad ct s.heap [] := wd.start hq
  generalize hQ : MQ below (QcW D (wA cnt ad s.heap.size) (fun rv u => rv = some (.int (mBallotW v g nb a1 a2 a3 x0).1) ∧ cRepE ca u.1 u.2.1 u.2.2 (mBallotW v g nb a1 a2 a3 x0).2.1 (mBallotW v g nb a1 a2 a3 x0).2.2 ∧ u.2.1 0 0 = ad 0 0)) args s 3 41 (wA cnt ad s.heap.size) = Q
  generalize hA9 : wA cnt ad s.heap.size = A at hw hQ
  have hl : lv_has ls 6 [(0, .ref (ad 0 0)), (1, .int a1), (2, .int a2), (3, .int a3), (4, .long x0)] := hl
  obtain ⟨hO, hIv, tp, htp, hX, hT, hB, hCc, hN⟩ := id hC
  obtain ⟨hx0, hx1, hx2, hx3, fz0⟩ := id hX
  have hO5 := hO.2.2.2.2
  obtain ⟨hb4, hb5, fB, fz1, hBd⟩ := id hB
  obtain ⟨hc6, hc7, fC, dt, ow, ix, ak, fz2, hCd⟩ := id hCc
  obtain ⟨hn9, fN, lk, fz3, hNd⟩ := id hN
  obtain ⟨ht13, ht14, ht11, ht12, szq, nq, nrq, rtq, bq0, bq1, vsq, pq1, pq2, hsz, hsz2, hnq, hnr, hrt, fz11, fz11b, fz12, fz12b, fz13, fz14, hby, hrl⟩ := id hT
  suffices hgo : ∀ (H : Heap) (locs : List Loc), wd D A s.heap cnt ad ct H locs → W p l e (rmL 3 3 41) s m args below meth c H locs 0 0 Q (F0 m 0 ls []) from hgo _ _ hw
  clear hw
  intro H locs hw
  refine lv_iload_n hx hb dX9_ballot_0 rfl (lv_at hl 1 rfl) ?_
  refine lv_iconst (v := 1) hx hb dX9_ballot_1 (by decide) ?_
  refine lv_bipush (v := 20) hx hb dX9_ballot_2 (by decide) ?_
  refine x_read (x_runS (rest := []) E cbX9_within tw_121 (kX9_within l D ca a1 1 20 ) ⟨rfl, rfl, by decide, by decide⟩ (fun _ _ _ _ h => h) (fun _ _ _ => trivial) rfl hl.1 rfl (Nat.le_of_ble_eq_true rfl) dX9_ballot_4 ⟨by decide, by decide⟩) ?_
  refine lv_if_eq (tgt := 30) hx hb dX9_ballot_7 (by decide) (fun c_7 => ?_) (fun c_7 => ?_)
  · skip
    have c_7 := bB_0.mp c_7
    refine lv_iconst (v := (-1)) hx hb dX9_ballot_30 (by decide) ?_
    subst hQ
    exact x_iretW E hr hlk hw (by decide) (by decide) (addA (rfl) (cw_post (by simp [mBallotW, mBalOK, c_7]) ⟨nw, nb, nc, nm, hC⟩)) dX9_ballot_31
  · skip
    have c_7 := bB_n0.mp c_7
    obtain ⟨n1, g1, g2, rfl⟩ := isIn_rng (lo := 1) (hi := 20) (by decide) (by decide) c_7
    refine lv_iload_n hx hb dX9_ballot_10 rfl (lv_at hl 2 rfl) ?_
    refine lv_iconst (v := 0) hx hb dX9_ballot_11 (by decide) ?_
    refine lv_iload_n hx hb dX9_ballot_12 rfl (lv_at hl 1 rfl) ?_
    refine x_read (x_runS (rest := []) E cbX9_within tw_121 (kX9_within l D ca a2 0 (nI n1) ) ⟨rfl, rfl, by decide, by decide⟩ (fun _ _ _ _ h => h) (fun _ _ _ => trivial) rfl hl.1 rfl (Nat.le_of_ble_eq_true rfl) dX9_ballot_13 ⟨by decide, by decide⟩) ?_
    refine lv_if_eq (tgt := 30) hx hb dX9_ballot_16 (by decide) (fun c_16 => ?_) (fun c_16 => ?_)
    · skip
      have c_16 := bB_0.mp c_16
      refine lv_iconst (v := (-1)) hx hb dX9_ballot_30 (by decide) ?_
      subst hQ
      exact x_iretW E hr hlk hw (by decide) (by decide) (addA (rfl) (cw_post (by simp [mBallotW, mBalOK, c_7, c_16]) ⟨nw, nb, nc, nm, hC⟩)) dX9_ballot_31
    · skip
      have c_16 := bB_n0.mp c_16
      obtain ⟨w2, g3, rfl⟩ := isIn_le (n := n1) (by omega) c_16
      refine lv_iload_n hx hb dX9_ballot_19 rfl (lv_at hl 3 rfl) ?_
      refine lv_iconst (v := 0) hx hb dX9_ballot_20 (by decide) ?_
      refine lv_iload_n hx hb dX9_ballot_21 rfl (lv_at hl 1 rfl) ?_
      refine lv_iload_n hx hb dX9_ballot_22 rfl (lv_at hl 2 rfl) ?_
      refine lv_isub hx hb dX9_ballot_23 ?_
      refine x_read (x_runS (rest := []) E cbX9_within tw_121 (kX9_within l D ca a3 0 (nI n1 - nI w2) ) ⟨rfl, rfl, by decide, by decide⟩ (fun _ _ _ _ h => h) (fun _ _ _ => trivial) rfl hl.1 rfl (Nat.le_of_ble_eq_true rfl) dX9_ballot_24 ⟨by decide, by decide⟩) ?_
      refine lv_if_ne (tgt := 32) hx hb dX9_ballot_27 (by decide) (fun c_27 => ?_) (fun c_27 => ?_)
      · skip
        have c_27 := bB_n0.mp c_27
        have q27 := c_27
        rw [pk_sub g3] at q27
        obtain ⟨r3, g4, rfl⟩ := isIn_le (n := n1 - w2) (by omega) q27
        refine lv_aload_n hx hb dX9_ballot_32 rfl (lv_at hl 0 rfl) ?_
        refine x_get E hw 0 0 (hx0) fz0 cl_9 ly_9 1 (by decide) tw_81 rfl dX9_ballot_33 ?_
        refine lv_bipush (v := 50) hx hb dX9_ballot_36 (by decide) ?_
        refine lv_icmp_lt (tgt := 43) hx hb dX9_ballot_38 (by decide) (fun c_38 => ?_) (fun c_38 => ?_)
        · skip
          have hnb : nb < 50 := (nI_ltI (a := nb) (b := 50) (by omega) (by decide)).mp c_38
          refine lv_aload_n hx hb dX9_ballot_43 rfl (lv_at hl 0 rfl) ?_
          refine x_get E hw 0 0 (hx0) fz0 cl_9 ly_9 6 (by decide) tw_86 rfl dX9_ballot_44 ?_
          refine lv_aload_n hx hb dX9_ballot_47 rfl (lv_at hl 0 rfl) ?_
          refine x_get E hw 0 0 (hx0) fz0 cl_9 ly_9 1 (by decide) tw_81 rfl dX9_ballot_48 ?_
          refine x_new (fs := [.null]) E hw 4 cl_0 ly_0 tyX0 tyX0_ok tw_22 tw_128 tw_6 df_0 (by decide) (by decide) dX9_ballot_51 (fun q9 H hw => ?_)
          generalize hix1 : cnt 4 = i1 at hw
          generalize hcn1 : va_up cnt 4 (i1 + 1) = cnt1 at hw
          generalize han1 : upd2 ad 4 i1 q9 = ad1 at hw
          generalize hct1 : upd2 ct 4 i1 (.inr (0, [.null])) = ct1 at hw
          have hqq1 : q9 = ad1 4 i1 := by rw [← han1, upd2_at]
          subst hqq1
          have hcn1_0 : cnt1 0 = cnt 0 := by rw [← hcn1, va_up_ne _ _ (by decide)]
          have hcn1_1 : cnt1 1 = cnt 1 := by rw [← hcn1, va_up_ne _ _ (by decide)]
          have hcn1_2 : cnt1 2 = cnt 2 := by rw [← hcn1, va_up_ne _ _ (by decide)]
          have hcn1_3 : cnt1 3 = cnt 3 := by rw [← hcn1, va_up_ne _ _ (by decide)]
          have hcn1_4 : cnt1 4 = cnt 4 + 1 := by rw [← hcn1, va_up_self, hix1]
          have hcn1_5 : cnt1 5 = cnt 5 := by rw [← hcn1, va_up_ne _ _ (by decide)]
          have hcn1_6 : cnt1 6 = cnt 6 := by rw [← hcn1, va_up_ne _ _ (by decide)]
          have hcn1_7 : cnt1 7 = cnt 7 := by rw [← hcn1, va_up_ne _ _ (by decide)]
          have hcn1_8 : cnt1 8 = cnt 8 := by rw [← hcn1, va_up_ne _ _ (by decide)]
          have hcn1_9 : cnt1 9 = cnt 9 := by rw [← hcn1, va_up_ne _ _ (by decide)]
          have hcn1_10 : cnt1 10 = cnt 10 := by rw [← hcn1, va_up_ne _ _ (by decide)]
          have hcn1_11 : cnt1 11 = cnt 11 := by rw [← hcn1, va_up_ne _ _ (by decide)]
          have hcn1_12 : cnt1 12 = cnt 12 := by rw [← hcn1, va_up_ne _ _ (by decide)]
          have hcn1_13 : cnt1 13 = cnt 13 := by rw [← hcn1, va_up_ne _ _ (by decide)]
          have hcn1_14 : cnt1 14 = cnt 14 := by rw [← hcn1, va_up_ne _ _ (by decide)]
          have hcn1_15 : cnt1 15 = cnt 15 := by rw [← hcn1, va_up_ne _ _ (by decide)]
          have hcn1_16 : cnt1 16 = cnt 16 := by rw [← hcn1, va_up_ne _ _ (by decide)]
          have hcn1_17 : cnt1 17 = cnt 17 := by rw [← hcn1, va_up_ne _ _ (by decide)]
          have hag1 : ∀ k i, i < cnt k → ad k i = ad1 k i := fun k i hi => by rw [← han1]; by_cases hk : k = 4; subst hk; exact (upd2_i _ _ _ (by omega)).symm; exact (upd2_k _ _ _ _ hk).symm
          have hcg1 : ∀ k i, i < cnt k → ct1 k i = ct k i := fun k i hi => by rw [← hct1]; by_cases hk : k = 4; subst hk; exact upd2_i _ _ _ (by omega); exact upd2_k _ _ _ _ hk
          have hle1 : ∀ k, cnt k ≤ cnt1 k := fun k => by rw [← hcn1]; by_cases hk : k = 4; subst hk; rw [va_up_self]; omega; rw [va_up_ne _ _ hk]; exact Nat.le_refl _
          have fa1 : ct1 0 0 = .inr (9, [.int (nI nw), .int (nI nb), .int (nI nc), .int (nI nm), .int (v 4), .int (v 5), .ref (ad 1 0), .ref (ad 2 0), .ref (ad 3 0), .ref (ad 11 tp), .ref (ad 11 (1 - tp)), .ref (ad 13 0)]) := by rw [hcg1 0 0 (hx0)]; exact fz0
          have fa2 : ct1 1 0 = .inl (ca 3, 50, aQ fB) := by rw [hcg1 1 0 (hx1)]; exact fz1
          have fa3 : ct1 2 0 = .inl (ca 4, 60, aQ fC) := by rw [hcg1 2 0 (hx2)]; exact fz2
          have fa4 : ct1 3 0 = .inl (ca 5, 13, aQ fN) := by rw [hcg1 3 0 (hx3)]; exact fz3
          have fa5 : ct1 11 tp = .inr (8, [.ref (ad 12 tp), .int (nI szq)]) := by rw [hcg1 11 tp (by omega)]; exact fz11
          have fa6 : ct1 4 i1 = .inr (0, [.null]) := by rw [← hct1, upd2_at]
          have hin1 : i1 < cnt1 4 := by omega
          refine lv_dup hx hb dX9_ballot_54 rfl ?_
          refine lv_iload_n hx hb dX9_ballot_55 rfl (lv_at hl 1 rfl) ?_
          refine lv_iload_n hx hb dX9_ballot_56 rfl (lv_at hl 2 rfl) ?_
          refine lv_iload_n hx hb dX9_ballot_57 rfl (lv_at hl 3 rfl) ?_
          refine lv_lload hx hb dX9_ballot_58 (lv_at hl 4 rfl) ?_
          have ev60_0 : ad 1 0 = ad1 1 0 := hag1 1 0 (by omega)
          refine W.eq (g2 := F0 m 60 ls [.long x0, .int (nI r3), .int (nI w2), .int (nI n1), .ref (ad1 4 i1), .ref (ad1 4 i1), .int (nI nb), .ref (ad1 1 0)]) (by rw [ev60_0]) ?_
          refine x_wrote hw (x_runI (rest := [.ref (ad1 4 i1), .int (nI nb), .ref (ad1 1 0)]) E cbX0_init tw_129 (kX0_init l D ca cnt1 ad1 ct1 H.size  i1  n1 w2 r3 x0 (hin1) (fa6) (⟨by omega, by omega⟩)) ⟨rfl, rfl, by decide, by decide⟩ (fun _ _ _ _ h => h) (fun U hU _ => by rw [hU]; exact ⟨rfl, hw.1⟩) rfl hl.1 rfl (Nat.le_of_ble_eq_true rfl) dX9_ballot_60 ⟨by decide, by decide⟩) (fun rv9 u9 H locs hp9 hw hz9 hk9 => ?_)
          obtain ⟨hrv9, q9, q8, f17, hu9⟩ := hp9
          subst hrv9
          subst hu9
          dsimp only [Option.toList, List.nil_append] at hw ⊢
          skip
          generalize hix2 : cnt1 17 = i2 at hw
          generalize hcn2 : va_up cnt1 17 (i2 + 1) = cnt2 at hw
          generalize han2 : upd2 ad1 17 i2 q9 = ad2 at hw
          generalize hct2 : upd2 ct1 17 i2 (.inl (ca 1, n1, .inl f17)) = ct2 at hw
          have hqq2 : q9 = ad2 17 i2 := by rw [← han2, upd2_at]
          subst hqq2
          have hcn2_0 : cnt2 0 = cnt1 0 := by rw [← hcn2, va_up_ne _ _ (by decide)]
          have hcn2_1 : cnt2 1 = cnt1 1 := by rw [← hcn2, va_up_ne _ _ (by decide)]
          have hcn2_2 : cnt2 2 = cnt1 2 := by rw [← hcn2, va_up_ne _ _ (by decide)]
          have hcn2_3 : cnt2 3 = cnt1 3 := by rw [← hcn2, va_up_ne _ _ (by decide)]
          have hcn2_4 : cnt2 4 = cnt1 4 := by rw [← hcn2, va_up_ne _ _ (by decide)]
          have hcn2_5 : cnt2 5 = cnt1 5 := by rw [← hcn2, va_up_ne _ _ (by decide)]
          have hcn2_6 : cnt2 6 = cnt1 6 := by rw [← hcn2, va_up_ne _ _ (by decide)]
          have hcn2_7 : cnt2 7 = cnt1 7 := by rw [← hcn2, va_up_ne _ _ (by decide)]
          have hcn2_8 : cnt2 8 = cnt1 8 := by rw [← hcn2, va_up_ne _ _ (by decide)]
          have hcn2_9 : cnt2 9 = cnt1 9 := by rw [← hcn2, va_up_ne _ _ (by decide)]
          have hcn2_10 : cnt2 10 = cnt1 10 := by rw [← hcn2, va_up_ne _ _ (by decide)]
          have hcn2_11 : cnt2 11 = cnt1 11 := by rw [← hcn2, va_up_ne _ _ (by decide)]
          have hcn2_12 : cnt2 12 = cnt1 12 := by rw [← hcn2, va_up_ne _ _ (by decide)]
          have hcn2_13 : cnt2 13 = cnt1 13 := by rw [← hcn2, va_up_ne _ _ (by decide)]
          have hcn2_14 : cnt2 14 = cnt1 14 := by rw [← hcn2, va_up_ne _ _ (by decide)]
          have hcn2_15 : cnt2 15 = cnt1 15 := by rw [← hcn2, va_up_ne _ _ (by decide)]
          have hcn2_16 : cnt2 16 = cnt1 16 := by rw [← hcn2, va_up_ne _ _ (by decide)]
          have hcn2_17 : cnt2 17 = cnt1 17 + 1 := by rw [← hcn2, va_up_self, hix2]
          have hag2 : ∀ k i, i < cnt1 k → ad1 k i = ad2 k i := fun k i hi => by rw [← han2]; by_cases hk : k = 17; subst hk; exact (upd2_i _ _ _ (by omega)).symm; exact (upd2_k _ _ _ _ hk).symm
          have hcg2 : ∀ k i, i < cnt1 k → ct2 k i = ct1 k i := fun k i hi => by rw [← hct2]; by_cases hk : k = 17; subst hk; exact upd2_i _ _ _ (by omega); exact upd2_k _ _ _ _ hk
          have hle2 : ∀ k, cnt1 k ≤ cnt2 k := fun k => by rw [← hcn2]; by_cases hk : k = 17; subst hk; rw [va_up_self]; omega; rw [va_up_ne _ _ hk]; exact Nat.le_refl _
          have fa7 : ct2 0 0 = .inr (9, [.int (nI nw), .int (nI nb), .int (nI nc), .int (nI nm), .int (v 4), .int (v 5), .ref (ad 1 0), .ref (ad 2 0), .ref (ad 3 0), .ref (ad 11 tp), .ref (ad 11 (1 - tp)), .ref (ad 13 0)]) := by rw [hcg2 0 0 (Nat.lt_of_lt_of_le (hx0) (hle1 _))]; exact fa1
          have fa8 : ct2 1 0 = .inl (ca 3, 50, aQ fB) := by rw [hcg2 1 0 (Nat.lt_of_lt_of_le (hx1) (hle1 _))]; exact fa2
          have fa9 : ct2 2 0 = .inl (ca 4, 60, aQ fC) := by rw [hcg2 2 0 (Nat.lt_of_lt_of_le (hx2) (hle1 _))]; exact fa3
          have fa10 : ct2 3 0 = .inl (ca 5, 13, aQ fN) := by rw [hcg2 3 0 (Nat.lt_of_lt_of_le (hx3) (hle1 _))]; exact fa4
          have fa11 : ct2 11 tp = .inr (8, [.ref (ad 12 tp), .int (nI szq)]) := by rw [hcg2 11 tp (by omega)]; exact fa5
          have fa12 : ct2 4 i1 = .inr (0, [.null]) := by rw [hcg2 4 i1 (hin1)]; exact fa6
          have fa13 : ct2 17 i2 = .inl (ca 1, n1, .inl f17) := by rw [← hct2, upd2_at]
          have hin2 : i2 < cnt2 17 := by omega
          skip
          generalize hix3 : cnt2 5 = i3 at hw
          generalize hcn3 : va_up cnt2 5 (i3 + 1) = cnt3 at hw
          generalize han3 : upd2 ad2 5 i3 q8 = ad3 at hw
          generalize hct3 : upd2 ct2 5 i3 (.inl (ca 1, n1, .inl ((cBl n1 w2 r3 x0 n1).2.2))) = ct3 at hw
          have hqq3 : q8 = ad3 5 i3 := by rw [← han3, upd2_at]
          subst hqq3
          have hcn3_0 : cnt3 0 = cnt2 0 := by rw [← hcn3, va_up_ne _ _ (by decide)]
          have hcn3_1 : cnt3 1 = cnt2 1 := by rw [← hcn3, va_up_ne _ _ (by decide)]
          have hcn3_2 : cnt3 2 = cnt2 2 := by rw [← hcn3, va_up_ne _ _ (by decide)]
          have hcn3_3 : cnt3 3 = cnt2 3 := by rw [← hcn3, va_up_ne _ _ (by decide)]
          have hcn3_4 : cnt3 4 = cnt2 4 := by rw [← hcn3, va_up_ne _ _ (by decide)]
          have hcn3_5 : cnt3 5 = cnt2 5 + 1 := by rw [← hcn3, va_up_self, hix3]
          have hcn3_6 : cnt3 6 = cnt2 6 := by rw [← hcn3, va_up_ne _ _ (by decide)]
          have hcn3_7 : cnt3 7 = cnt2 7 := by rw [← hcn3, va_up_ne _ _ (by decide)]
          have hcn3_8 : cnt3 8 = cnt2 8 := by rw [← hcn3, va_up_ne _ _ (by decide)]
          have hcn3_9 : cnt3 9 = cnt2 9 := by rw [← hcn3, va_up_ne _ _ (by decide)]
          have hcn3_10 : cnt3 10 = cnt2 10 := by rw [← hcn3, va_up_ne _ _ (by decide)]
          have hcn3_11 : cnt3 11 = cnt2 11 := by rw [← hcn3, va_up_ne _ _ (by decide)]
          have hcn3_12 : cnt3 12 = cnt2 12 := by rw [← hcn3, va_up_ne _ _ (by decide)]
          have hcn3_13 : cnt3 13 = cnt2 13 := by rw [← hcn3, va_up_ne _ _ (by decide)]
          have hcn3_14 : cnt3 14 = cnt2 14 := by rw [← hcn3, va_up_ne _ _ (by decide)]
          have hcn3_15 : cnt3 15 = cnt2 15 := by rw [← hcn3, va_up_ne _ _ (by decide)]
          have hcn3_16 : cnt3 16 = cnt2 16 := by rw [← hcn3, va_up_ne _ _ (by decide)]
          have hcn3_17 : cnt3 17 = cnt2 17 := by rw [← hcn3, va_up_ne _ _ (by decide)]
          have hag3 : ∀ k i, i < cnt2 k → ad2 k i = ad3 k i := fun k i hi => by rw [← han3]; by_cases hk : k = 5; subst hk; exact (upd2_i _ _ _ (by omega)).symm; exact (upd2_k _ _ _ _ hk).symm
          have hcg3 : ∀ k i, i < cnt2 k → ct3 k i = ct2 k i := fun k i hi => by rw [← hct3]; by_cases hk : k = 5; subst hk; exact upd2_i _ _ _ (by omega); exact upd2_k _ _ _ _ hk
          have hle3 : ∀ k, cnt2 k ≤ cnt3 k := fun k => by rw [← hcn3]; by_cases hk : k = 5; subst hk; rw [va_up_self]; omega; rw [va_up_ne _ _ hk]; exact Nat.le_refl _
          have fa14 : ct3 0 0 = .inr (9, [.int (nI nw), .int (nI nb), .int (nI nc), .int (nI nm), .int (v 4), .int (v 5), .ref (ad 1 0), .ref (ad 2 0), .ref (ad 3 0), .ref (ad 11 tp), .ref (ad 11 (1 - tp)), .ref (ad 13 0)]) := by rw [hcg3 0 0 (by omega)]; exact fa7
          have fa15 : ct3 1 0 = .inl (ca 3, 50, aQ fB) := by rw [hcg3 1 0 (by omega)]; exact fa8
          have fa16 : ct3 2 0 = .inl (ca 4, 60, aQ fC) := by rw [hcg3 2 0 (by omega)]; exact fa9
          have fa17 : ct3 3 0 = .inl (ca 5, 13, aQ fN) := by rw [hcg3 3 0 (by omega)]; exact fa10
          have fa18 : ct3 11 tp = .inr (8, [.ref (ad 12 tp), .int (nI szq)]) := by rw [hcg3 11 tp (by omega)]; exact fa11
          have fa19 : ct3 4 i1 = .inr (0, [.null]) := by rw [hcg3 4 i1 (Nat.lt_of_lt_of_le (hin1) (hle2 _))]; exact fa12
          have fa20 : ct3 17 i2 = .inl (ca 1, n1, .inl f17) := by rw [hcg3 17 i2 (hin2)]; exact fa13
          have fa21 : ct3 5 i3 = .inl (ca 1, n1, .inl ((cBl n1 w2 r3 x0 n1).2.2)) := by rw [← hct3, upd2_at]
          have hin3 : i3 < cnt3 5 := by omega
          generalize hct4 : upd2 ct3 4 i1 (.inr (0, [.ref (ad3 5 i3)])) = ct4 at hw
          have fa22 : ct4 0 0 = .inr (9, [.int (nI nw), .int (nI nb), .int (nI nc), .int (nI nm), .int (v 4), .int (v 5), .ref (ad 1 0), .ref (ad 2 0), .ref (ad 3 0), .ref (ad 11 tp), .ref (ad 11 (1 - tp)), .ref (ad 13 0)]) := by rw [← hct4, upd2_k _ _ _ _ (by decide)]; exact fa14
          have fa23 : ct4 1 0 = .inl (ca 3, 50, aQ fB) := by rw [← hct4, upd2_k _ _ _ _ (by decide)]; exact fa15
          have fa24 : ct4 2 0 = .inl (ca 4, 60, aQ fC) := by rw [← hct4, upd2_k _ _ _ _ (by decide)]; exact fa16
          have fa25 : ct4 3 0 = .inl (ca 5, 13, aQ fN) := by rw [← hct4, upd2_k _ _ _ _ (by decide)]; exact fa17
          have fa26 : ct4 11 tp = .inr (8, [.ref (ad 12 tp), .int (nI szq)]) := by rw [← hct4, upd2_k _ _ _ _ (by decide)]; exact fa18
          have fa27 : ct4 4 i1 = .inr (0, [.ref (ad3 5 i3)]) := by rw [← hct4, upd2_at]; try rfl
          have fa28 : ct4 17 i2 = .inl (ca 1, n1, .inl f17) := by rw [← hct4, upd2_k _ _ _ _ (by decide)]; exact fa20
          have fa29 : ct4 5 i3 = .inl (ca 1, n1, .inl ((cBl n1 w2 r3 x0 n1).2.2)) := by rw [← hct4, upd2_k _ _ _ _ (by decide)]; exact fa21
          have ev63_0 : ad1 1 0 = ad3 1 0 := (hag2 1 0 (by omega)).trans (hag3 1 0 (by omega))
          have ev63_1 : ad1 4 i1 = ad3 4 i1 := (hag2 4 i1 (by omega)).trans (hag3 4 i1 (by omega))
          refine W.eq (g2 := F0 m 63 ls [.ref (ad3 4 i1), .int (nI nb), .ref (ad3 1 0)]) (by rw [ev63_0, ev63_1]) ?_
          refine x_ast E hw 3 rfl cl_0 1 0 (by omega) fa23 4 i1 (by omega) fa27 nb (rfl) (by omega) (by decide) dX9_ballot_63 (fun H locs hw => ?_)
          generalize hct5 : upd2 ct4 1 0 (.inl (ca 3, 50, aQ (va_up fB nb (some (ad3 4 i1))))) = ct5 at hw
          have fa30 : ct5 0 0 = .inr (9, [.int (nI nw), .int (nI nb), .int (nI nc), .int (nI nm), .int (v 4), .int (v 5), .ref (ad 1 0), .ref (ad 2 0), .ref (ad 3 0), .ref (ad 11 tp), .ref (ad 11 (1 - tp)), .ref (ad 13 0)]) := by rw [← hct5, upd2_k _ _ _ _ (by decide)]; exact fa22
          have fa31 : ct5 1 0 = .inl (ca 3, 50, aQ (va_up fB nb (some (ad3 4 i1)))) := by rw [← hct5, upd2_at]; try rfl
          have fa32 : ct5 2 0 = .inl (ca 4, 60, aQ fC) := by rw [← hct5, upd2_k _ _ _ _ (by decide)]; exact fa24
          have fa33 : ct5 3 0 = .inl (ca 5, 13, aQ fN) := by rw [← hct5, upd2_k _ _ _ _ (by decide)]; exact fa25
          have fa34 : ct5 11 tp = .inr (8, [.ref (ad 12 tp), .int (nI szq)]) := by rw [← hct5, upd2_k _ _ _ _ (by decide)]; exact fa26
          have fa35 : ct5 4 i1 = .inr (0, [.ref (ad3 5 i3)]) := by rw [← hct5, upd2_k _ _ _ _ (by decide)]; exact fa27
          have fa36 : ct5 17 i2 = .inl (ca 1, n1, .inl f17) := by rw [← hct5, upd2_k _ _ _ _ (by decide)]; exact fa28
          have fa37 : ct5 5 i3 = .inl (ca 1, n1, .inl ((cBl n1 w2 r3 x0 n1).2.2)) := by rw [← hct5, upd2_k _ _ _ _ (by decide)]; exact fa29
          refine lv_aload_n hx hb dX9_ballot_64 rfl (lv_at hl 0 rfl) ?_
          refine lv_dup hx hb dX9_ballot_65 rfl ?_
          have ev66_0 : ad 0 0 = ad3 0 0 := (hag1 0 0 (by omega)).trans ((hag2 0 0 (by omega)).trans (hag3 0 0 (by omega)))
          refine W.eq (g2 := F0 m 66 ls [.ref (ad3 0 0), .ref (ad3 0 0)]) (by rw [ev66_0]) ?_
          refine x_get E hw 0 0 (by omega) fa30 cl_9 ly_9 1 (by decide) tw_81 rfl dX9_ballot_66 ?_
          refine lv_iconst (v := 1) hx hb dX9_ballot_69 (by decide) ?_
          refine lv_iadd hx hb dX9_ballot_70 ?_
          refine x_top (x := (nI nb + 1)) (y := (nI (nb + 1))) (nI_1 _) ?_
          refine x_put E hw 0 0 (by omega) fa30 cl_9 ly_9 tyX9 tyX9_ok nmX9 1 (by decide) tw_81 (Or.inl rfl) (by rfl) (by rfl) (Nat.le_of_ble_eq_true rfl) dX9_ballot_71 (fun H locs hw => ?_)
          generalize hct6 : upd2 ct5 0 0 (.inr (9, [.int (nI nw), .int (nI nb), .int (nI nc), .int (nI nm), .int (v 4), .int (v 5), .ref (ad 1 0), .ref (ad 2 0), .ref (ad 3 0), .ref (ad 11 tp), .ref (ad 11 (1 - tp)), .ref (ad 13 0)].set 1 (.int (nI (nb + 1))))) = ct6 at hw
          have fa38 : ct6 0 0 = .inr (9, [.int (nI nw), .int (nI (nb + 1)), .int (nI nc), .int (nI nm), .int (v 4), .int (v 5), .ref (ad 1 0), .ref (ad 2 0), .ref (ad 3 0), .ref (ad 11 tp), .ref (ad 11 (1 - tp)), .ref (ad 13 0)]) := by rw [← hct6, upd2_at]; try rfl
          have fa39 : ct6 1 0 = .inl (ca 3, 50, aQ (va_up fB nb (some (ad3 4 i1)))) := by rw [← hct6, upd2_k _ _ _ _ (by decide)]; exact fa31
          have fa40 : ct6 2 0 = .inl (ca 4, 60, aQ fC) := by rw [← hct6, upd2_k _ _ _ _ (by decide)]; exact fa32
          have fa41 : ct6 3 0 = .inl (ca 5, 13, aQ fN) := by rw [← hct6, upd2_k _ _ _ _ (by decide)]; exact fa33
          have fa42 : ct6 11 tp = .inr (8, [.ref (ad 12 tp), .int (nI szq)]) := by rw [← hct6, upd2_k _ _ _ _ (by decide)]; exact fa34
          have fa43 : ct6 4 i1 = .inr (0, [.ref (ad3 5 i3)]) := by rw [← hct6, upd2_k _ _ _ _ (by decide)]; exact fa35
          have fa44 : ct6 17 i2 = .inl (ca 1, n1, .inl f17) := by rw [← hct6, upd2_k _ _ _ _ (by decide)]; exact fa36
          have fa45 : ct6 5 i3 = .inl (ca 1, n1, .inl ((cBl n1 w2 r3 x0 n1).2.2)) := by rw [← hct6, upd2_k _ _ _ _ (by decide)]; exact fa37
          refine lv_aload_n hx hb dX9_ballot_74 rfl (lv_at hl 0 rfl) ?_
          have ev75_0 : ad 0 0 = ad3 0 0 := (hag1 0 0 (by omega)).trans ((hag2 0 0 (by omega)).trans (hag3 0 0 (by omega)))
          refine W.eq (g2 := F0 m 75 ls [.ref (ad3 0 0)]) (by rw [ev75_0]) ?_
          refine x_get E hw 0 0 (by omega) fa38 cl_9 ly_9 1 (by decide) tw_81 rfl dX9_ballot_75 ?_
          refine lv_iconst (v := 1) hx hb dX9_ballot_78 (by decide) ?_
          refine lv_isub hx hb dX9_ballot_79 ?_
          refine x_top (x := (nI (nb + 1) - 1)) (y := (nI nb)) (nI_pred _) ?_
          subst hQ
          exact x_iretW E hr hlk hw (by decide) (by decide) (addA (((hag1 0 0 (by omega)).trans ((hag2 0 0 (by omega)).trans (hag3 0 0 (by omega)))).symm) (by dsimp only; have hleA := hle_tr (hle_tr hle1 hle2) hle3; have hagA := hag_tr (hle_tr hle1 hle2) (hag_tr hle1 hag1 hag2) hag3; have hcgA : ∀ k i, i < cnt k → ct3 k i = ct k i := hcg_tr (hle_tr hle1 hle2) (hcg_tr hle1 hcg1 hcg2) hcg3; have hA4 : ∀ k i, i < cnt k → ct4 k i = ct k i := (by rw [← hct4]; exact agr_up (by omega) hcgA); obtain ⟨b1, b2, b3, b4, b5⟩ := bl_eq g nb n1 w2 r3 x0 n1 (Nat.le_refl _); exact cw_post (v' := upd v 1 (nI (nb + 1))) (g' := upd2 (mBl g nb n1 w2 r3 x0 n1).2 6 nb (nI n1)) (by simp [mBallotW, mBalOK, nI_clamp (n := n1) (by omega), nI_clamp (n := w2) (by omega), nI_clamp (n := r3) (by omega), c_7, c_16, c_27, show ¬ nb = 50 by omega]) ⟨nw, nb + 1, nc, nm, ⟨by rw [upd_ne _ _ (by decide)]; exact hO.1, upd_at _ _ _, by rw [upd_ne _ _ (by decide)]; exact hO.2.2.1, by rw [upd_ne _ _ (by decide)]; exact hO.2.2.2.1, hO5.1, by omega, hO5.2.2⟩, mIv_g (fun _ => by rw [upd2_k _ _ _ _ (by decide)]; exact b5 9 (by decide) (by decide) _) (fun _ => by rw [upd2_k _ _ _ _ (by decide)]; exact b5 18 (by decide) (by decide) _) (fun _ => by rw [upd2_k _ _ _ _ (by decide)]; exact b5 19 (by decide) (by decide) _) (fun _ => by rw [upd2_k _ _ _ _ (by decide)]; exact b5 20 (by decide) (by decide) _) (fun _ => by rw [upd2_k _ _ _ _ (by decide)]; exact b5 21 (by decide) (by decide) _) hIv, tp, htp, cX_new htp ht11 ht13 hleA hagA hX (by rw [upd_ne _ _ (by decide), upd_ne _ _ (by decide)]; exact fa38), cT_v (v := v) (by rw [upd_ne _ _ (by decide)]) (by rw [upd_ne _ _ (by decide)]) (by rw [← hct6, ← hct5]; exact cT_up (by decide) (cT_up (by decide) (cT_ext htp hleA hagA hA4 (cT_g (fun _ => by rw [upd2_k _ _ _ _ (by decide)]; exact b5 24 (by decide) (by decide) _) (fun _ => by rw [upd2_k _ _ _ _ (by decide)]; exact b5 25 (by decide) (by decide) _) hT)))), cB_new (n := n1) (h := (cBl n1 w2 r3 x0 n1).2.2) hb4 hb5 hBd (i4 := i1) (i5 := i3) (by omega) (by omega) (by omega) (by omega) hagA (fun k i hk hi => by rw [← hct6, upd2_k _ _ _ _ (by omega), ← hct5, upd2_k _ _ _ _ (by omega)]; exact hA4 k i hi) fa39 fa43 fa45 (by omega) (upd2_at _ _ _ _) (fun i hi => by rw [upd2_k _ _ _ _ (by decide)]; exact b3 i hi) (fun i hi => by rw [upd2_i _ _ _ hi]; exact b5 6 (by decide) (by decide) _) (fun q hq => by rw [upd2_k _ _ _ _ (by decide)]; exact b4 q (Or.inl hq)), by rw [← hct6, ← hct5]; exact cC_up (by decide) (cC_up (by decide) (cC_ext (by omega) (by omega) hx2 hleA hagA hA4 (cC_g (fun k hk i => by rw [upd2_k _ _ _ _ (by omega)]; exact b5 k (by omega) (by omega) _) hCc))), by rw [← hct6, ← hct5]; exact cN_up (by decide) (cN_up (by decide) (cN_ext (by omega) hx3 hleA hagA hA4 (cN_g (fun _ => by rw [upd2_k _ _ _ _ (by decide)]; exact b5 22 (by decide) (by decide) _) (fun _ => by rw [upd2_k _ _ _ _ (by decide)]; exact b5 23 (by decide) (by decide) _) hN)))⟩)) dX9_ballot_80
        · skip
          have hnb : nb = 50 := (by have q9 := mt (nI_ltI (a := nb) (b := 50) (by omega) (by decide)).mpr c_38; omega)
          refine lv_iconst (v := (-1)) hx hb dX9_ballot_41 (by decide) ?_
          subst hQ
          exact x_iretW E hr hlk hw (by decide) (by decide) (addA (rfl) (cw_post (by simp [mBallotW, mBalOK, c_7, c_16, c_27, c_38, hnb]) ⟨nw, nb, nc, nm, hC⟩)) dX9_ballot_42
      · skip
        have c_27 := bB_0.mp c_27
        refine lv_iconst (v := (-1)) hx hb dX9_ballot_30 (by decide) ?_
        subst hQ
        exact x_iretW E hr hlk hw (by decide) (by decide) (addA (rfl) (cw_post (by simp [mBallotW, mBalOK, c_7, c_16, c_27]) ⟨nw, nb, nc, nm, hC⟩)) dX9_ballot_31
