set_option maxHeartbeats 4000000 in
set_option maxRecDepth 100000 in
theorem kX0_kindOf (l : Launch) (D : va_G) (ca : Nat → ClassId) (a1 : Int32) (a2 : Int32) (a3 : Int32)  : Met l yX0_kindOf (wz yX0_kindOf cX0_kindOf 3 (some .int)) (rmL 1 0 0) (va_Pc [.int a1, .int a2, .int a3] (fun U => True ∧ gK D ca U)) (QcRead (kdI a1 a2 a3)) 0 0 (fun _ => False) := by
  refine x_met (by decide) (Nat.le_of_ble_eq_true rfl) ?_
  intro p e s m below meth c E hr hlk hnm hq ls hl
  generalize hav : ([.int a1, .int a2, .int a3] : List Value).toArray = args at E ⊢
  have hx := E.1
  have hb := E.2.1
  have hown := E.2.2.2.1
  have hts := E.2.2.2.2.1
  generalize hQ : MQ below (QcRead (kdI a1 a2 a3)) args s 0 0 (fun _ => False) = Q
  have hl : lv_has ls 3 [(0, .int a1), (1, .int a2), (2, .int a3)] := hl
  refine lv_iload_n hx hb dX0_kindOf_0 rfl (lv_at hl 0 rfl) ?_
  refine lv_iload_n hx hb dX0_kindOf_1 rfl (lv_at hl 1 rfl) ?_
  refine lv_icmp_ge (tgt := 7) hx hb dX0_kindOf_2 (by decide) (fun c_2 => ?_) (fun c_2 => ?_)
  · skip
    refine lv_iload_n hx hb dX0_kindOf_7 rfl (lv_at hl 0 rfl) ?_
    refine lv_iload_n hx hb dX0_kindOf_8 rfl (lv_at hl 1 rfl) ?_
    refine lv_iload_n hx hb dX0_kindOf_9 rfl (lv_at hl 2 rfl) ?_
    refine lv_iadd hx hb dX0_kindOf_10 ?_
    refine lv_icmp_ge (tgt := 18) hx hb dX0_kindOf_11 (by decide) (fun c_11 => ?_) (fun c_11 => ?_)
    · skip
      refine lv_iconst (v := 2) hx hb dX0_kindOf_18 (by decide) ?_
      subst hQ
      exact x_iret E hr hlk (by first | (simp [kdI, Int32.not_lt.mpr c_2, Int32.not_lt.mpr c_11]; done) | simp [kdI, Int32.not_lt.mpr c_2, Int32.not_le.mp c_11]) dX0_kindOf_19
    · skip
      refine lv_iconst (v := 1) hx hb dX0_kindOf_14 (by decide) ?_
      refine lv_goto (tgt := 19) hx hb dX0_kindOf_15 (by decide) ?_
      subst hQ
      exact x_iret E hr hlk (by first | (simp [kdI, Int32.not_lt.mpr c_2, Int32.not_lt.mpr c_11]; done) | simp [kdI, Int32.not_lt.mpr c_2, Int32.not_le.mp c_11]) dX0_kindOf_19
  · skip
    refine lv_iconst (v := 0) hx hb dX0_kindOf_5 (by decide) ?_
    subst hQ
    exact x_iret E hr hlk (by simp [kdI, Int32.not_le.mp c_2]) dX0_kindOf_6
set_option maxHeartbeats 4000000 in
set_option maxRecDepth 100000 in
theorem kX0_init (l : Launch) (D : va_G) (ca : Nat → ClassId) (cnt : Nat → Nat) (ad : Nat → Nat → Nat) (ct : Nat → Nat → va_E) (z9 : Nat) (b9 : Nat) (n1 : Nat) (w2 : Nat) (r3 : Nat) (x0 : Int64) (hki : b9 < cnt 4) (hkc : ct 4 b9 = .inr (0, [.null])) (hn1 : 1 ≤ n1 ∧ n1 ≤ 20) : Met l yX0_init (wz yX0_init cX0_init 12 none) (rmL 2 2 40) (va_Pc [.ref (ad 4 b9), .int (nI n1), .int (nI w2), .int (nI r3), .long x0] (fun U => (U.heap.size = z9 ∧ wq D cnt ad ct U.heap) ∧ gK D ca U)) (QcW D (wA cnt ad z9) (fun rv u => rv = none ∧ ∃ q1 q2 f17, u = (va_up (va_up cnt 17 (cnt 17 + 1)) 5 (va_up cnt 17 (cnt 17 + 1) 5 + 1), upd2 (upd2 ad 17 (cnt 17) q1) 5 (va_up cnt 17 (cnt 17 + 1) 5) q2, upd2 (upd2 (upd2 ct 17 (cnt 17) (.inl (ca 1, n1, .inl f17))) 5 (va_up cnt 17 (cnt 17 + 1) 5) (.inl (ca 1, n1, .inl (cBl n1 w2 r3 x0 n1).2.2))) 4 b9 (.inr (0, [.ref q2]))))) 2 40 (wA cnt ad z9) := by
  refine x_met (by decide) (Nat.le_of_ble_eq_true rfl) ?_
  intro p e s m below meth c E hr hlk hnm hq ls hl
  obtain ⟨hsz9, hq⟩ := hq
  subst hsz9
  generalize hav : ([.ref (ad 4 b9), .int (nI n1), .int (nI w2), .int (nI r3), .long x0] : List Value).toArray = args at E ⊢
  have hx := E.1
  have hb := E.2.1
  have hown := E.2.2.2.1
  have hts := E.2.2.2.2.1
  have hw : wd D (wA cnt ad s.heap.size) s.heap cnt ad ct s.heap [] := wd.start hq
  generalize hQ : MQ below (QcW D (wA cnt ad s.heap.size) (fun rv u => rv = none ∧ ∃ q1 q2 f17, u = (va_up (va_up cnt 17 (cnt 17 + 1)) 5 (va_up cnt 17 (cnt 17 + 1) 5 + 1), upd2 (upd2 ad 17 (cnt 17) q1) 5 (va_up cnt 17 (cnt 17 + 1) 5) q2, upd2 (upd2 (upd2 ct 17 (cnt 17) (.inl (ca 1, n1, .inl f17))) 5 (va_up cnt 17 (cnt 17 + 1) 5) (.inl (ca 1, n1, .inl (cBl n1 w2 r3 x0 n1).2.2))) 4 b9 (.inr (0, [.ref q2]))))) args s 2 40 (wA cnt ad s.heap.size) = Q
  generalize hA9 : wA cnt ad s.heap.size = A at hw hQ
  have hl : lv_has ls 12 [(0, .ref (ad 4 b9)), (1, .int (nI n1)), (2, .int (nI w2)), (3, .int (nI r3)), (4, .long x0)] := hl
  suffices hgo : ∀ (H : Heap) (locs : List Loc), wd D A s.heap cnt ad ct H locs → W p l e (rmL 2 2 40) s m args below meth c H locs 0 0 Q (F0 m 0 ls []) from hgo _ _ hw
  clear hw
  intro H locs hw
  refine lv_aload_n hx hb dX0_init_0 rfl (lv_at hl 0 rfl) ?_
  refine W.objInit hx hb hown (hts _ tw_132) (hts _ tw_20) (hts _ tw_21) rfl (hl.1.trans E.2.2.1.symm) rfl dX0_init_1 (by decide) (Nat.le_of_ble_eq_true rfl) ?_
  refine W.eq (g2 := F0 m 4 ls []) rfl ?_
  refine lv_iload_n hx hb dX0_init_4 rfl (lv_at hl 1 rfl) ?_
  refine x_newa (atype := .int) (N' := n1) E hw tw_66 17 1 rfl rfl (rfl) (by omega) (by show n1 * 4 ≤ _; omega) (by decide) (by show _ ≤ (40 : Nat); omega) dX0_init_5 (fun q9 H hw => ?_)
  generalize hix1 : cnt 17 = i1 at hw
  generalize hcn1 : va_up cnt 17 (i1 + 1) = cnt1 at hw
  generalize han1 : upd2 ad 17 i1 q9 = ad1 at hw
  generalize hct1 : upd2 ct 17 i1 (.inl (ca 1, n1, .inl (fun _ => 0))) = ct1 at hw
  have hqq1 : q9 = ad1 17 i1 := by rw [← han1, upd2_at]
  subst hqq1
  have hcn1_0 : cnt1 0 = cnt 0 := by rw [← hcn1, va_up_ne _ _ (by decide)]
  have hcn1_1 : cnt1 1 = cnt 1 := by rw [← hcn1, va_up_ne _ _ (by decide)]
  have hcn1_2 : cnt1 2 = cnt 2 := by rw [← hcn1, va_up_ne _ _ (by decide)]
  have hcn1_3 : cnt1 3 = cnt 3 := by rw [← hcn1, va_up_ne _ _ (by decide)]
  have hcn1_4 : cnt1 4 = cnt 4 := by rw [← hcn1, va_up_ne _ _ (by decide)]
  have hcn1_5 : cnt1 5 = cnt 5 := by rw [← hcn1, va_up_ne _ _ (by decide)]
  have hcn1_6 : cnt1 6 = cnt 6 := by rw [← hcn1, va_up_ne _ _ (by decide)]
  have hcn1_7 : cnt1 7 = cnt 7 := by rw [← hcn1, va_up_ne _ _ (by decide)]
  have hcn1_8 : cnt1 8 = cnt 8 := by rw [← hcn1, va_up_ne _ _ (by decide)]
  have hcn1_9 : cnt1 9 = cnt 9 := by rw [← hcn1, va_up_ne _ _ (by decide)]
  have hcn1_10 : cnt1 10 = cnt 10 := by rw [← hcn1, va_up_ne _ _ (by decide)]
  have hcn1_11 : cnt1 11 = cnt 11 := by rw [← hcn1, va_up_ne _ _ (by decide)]
  have hcn1_12 : cnt1 12 = cnt 12 := by rw [← hcn1, va_up_ne _ _ (by decide)]
  have hcn1_13 : cnt1 13 = cnt 13 := by rw [← hcn1, va_up_ne _ _ (by decide)]
  have hcn1_14 : cnt1 14 = cnt 14 := by rw [← hcn1, va_up_ne _ _ (by decide)]
  have hcn1_15 : cnt1 15 = cnt 15 := by rw [← hcn1, va_up_ne _ _ (by decide)]
  have hcn1_16 : cnt1 16 = cnt 16 := by rw [← hcn1, va_up_ne _ _ (by decide)]
  have hcn1_17 : cnt1 17 = cnt 17 + 1 := by rw [← hcn1, va_up_self, hix1]
  have hag1 : ∀ k i, i < cnt k → ad k i = ad1 k i := fun k i hi => by rw [← han1]; by_cases hk : k = 17; subst hk; exact (upd2_i _ _ _ (by omega)).symm; exact (upd2_k _ _ _ _ hk).symm
  have hcg1 : ∀ k i, i < cnt k → ct1 k i = ct k i := fun k i hi => by rw [← hct1]; by_cases hk : k = 17; subst hk; exact upd2_i _ _ _ (by omega); exact upd2_k _ _ _ _ hk
  have hle1 : ∀ k, cnt k ≤ cnt1 k := fun k => by rw [← hcn1]; by_cases hk : k = 17; subst hk; rw [va_up_self]; omega; rw [va_up_ne _ _ hk]; exact Nat.le_refl _
  have fa1 : ct1 4 b9 = .inr (0, [.null]) := by rw [hcg1 4 b9 (hki)]; exact hkc
  have fa2 : ct1 17 i1 = .inl (ca 1, n1, .inl (fun _ => 0)) := by rw [← hct1, upd2_at]
  have hin1 : i1 < cnt1 17 := by omega
  refine lv_astore (lv' := [(6, .ref (ad1 17 i1)), (0, .ref (ad 4 b9)), (1, .int (nI n1)), (2, .int (nI w2)), (3, .int (nI r3)), (4, .long x0)]) hx hb dX0_init_7 hl (by decide) rfl (fun ls hl => ?_)
  refine lv_iconst (v := 0) hx hb dX0_init_9 (by decide) ?_
  refine lv_istore (lv' := [(7, .int 0), (6, .ref (ad1 17 i1)), (0, .ref (ad 4 b9)), (1, .int (nI n1)), (2, .int (nI w2)), (3, .int (nI r3)), (4, .long x0)]) hx hb dX0_init_10 hl (by decide) rfl (fun ls hl => ?_)
  have lp12 : ∀ (n : Nat) (z : Nat), (z ≤ n1) → (n1 - z < n) → ∀ (H : Heap) (locs : List Loc), wd D A s.heap cnt1 ad1 (upd2 ct1 17 i1 (.inl (ca 1, n1, .inl (lnF w2 r3 z)))) H locs → ∀ ls : Array Slot, lv_has ls 12 [(0, .ref (ad 4 b9)), (1, .int (nI n1)), (2, .int (nI w2)), (3, .int (nI r3)), (4, .long x0), (6, .ref (ad1 17 i1)), (7, .int (nI z))] → W p l e (rmL 2 2 40) s m args below meth c H locs 1 (0 + n1) Q (F0 m 12 ls []) := by
    intro n
    induction n with
    | zero =>
      intro z hi hfu H locs hw ls hl
      exact absurd hfu (by omega)
    | succ n ih12 =>
      intro z hi hfu H locs hw ls hl
      refine lv_iload hx hb dX0_init_12 (lv_at hl 6 rfl) ?_
      refine lv_iload_n hx hb dX0_init_14 rfl (lv_at hl 1 rfl) ?_
      refine lv_icmp_ge (tgt := 36) hx hb dX0_init_15 (by decide) (fun c_15 => ?_) (fun c_15 => ?_)
      · skip
        have hge : z = n1 := by have q9 := (nI_leI (a := n1) (b := z) (by omega) (by omega)).mp c_15; omega
        refine lv_aload_n hx hb dX0_init_36 rfl (lv_at hl 0 rfl) ?_
        refine lv_iload_n hx hb dX0_init_37 rfl (lv_at hl 1 rfl) ?_
        refine x_newa (atype := .int) (N' := n1) E hw tw_66 5 1 rfl rfl (rfl) (by omega) (by show n1 * 4 ≤ _; omega) (by decide) (by show _ ≤ (40 : Nat); omega) dX0_init_38 (fun q9 H hw => ?_)
        generalize hix2 : cnt1 5 = i2 at hw
        generalize hcn2 : va_up cnt1 5 (i2 + 1) = cnt2 at hw
        generalize han2 : upd2 ad1 5 i2 q9 = ad2 at hw
        generalize hct2 : upd2 (upd2 ct1 17 i1 (.inl (ca 1, n1, .inl (lnF w2 r3 z)))) 5 i2 (.inl (ca 1, n1, .inl (fun _ => 0))) = ct2 at hw
        have hqq2 : q9 = ad2 5 i2 := by rw [← han2, upd2_at]
        subst hqq2
        have hcn2_0 : cnt2 0 = cnt1 0 := by rw [← hcn2, va_up_ne _ _ (by decide)]
        have hcn2_1 : cnt2 1 = cnt1 1 := by rw [← hcn2, va_up_ne _ _ (by decide)]
        have hcn2_2 : cnt2 2 = cnt1 2 := by rw [← hcn2, va_up_ne _ _ (by decide)]
        have hcn2_3 : cnt2 3 = cnt1 3 := by rw [← hcn2, va_up_ne _ _ (by decide)]
        have hcn2_4 : cnt2 4 = cnt1 4 := by rw [← hcn2, va_up_ne _ _ (by decide)]
        have hcn2_5 : cnt2 5 = cnt1 5 + 1 := by rw [← hcn2, va_up_self, hix2]
        have hcn2_6 : cnt2 6 = cnt1 6 := by rw [← hcn2, va_up_ne _ _ (by decide)]
        have hcn2_7 : cnt2 7 = cnt1 7 := by rw [← hcn2, va_up_ne _ _ (by decide)]
        have hcn2_8 : cnt2 8 = cnt1 8 := by rw [← hcn2, va_up_ne _ _ (by decide)]
        have hcn2_9 : cnt2 9 = cnt1 9 := by rw [← hcn2, va_up_ne _ _ (by decide)]
        have hcn2_10 : cnt2 10 = cnt1 10 := by rw [← hcn2, va_up_ne _ _ (by decide)]
        have hcn2_11 : cnt2 11 = cnt1 11 := by rw [← hcn2, va_up_ne _ _ (by decide)]
        have hcn2_12 : cnt2 12 = cnt1 12 := by rw [← hcn2, va_up_ne _ _ (by decide)]
        have hcn2_13 : cnt2 13 = cnt1 13 := by rw [← hcn2, va_up_ne _ _ (by decide)]
        have hcn2_14 : cnt2 14 = cnt1 14 := by rw [← hcn2, va_up_ne _ _ (by decide)]
        have hcn2_15 : cnt2 15 = cnt1 15 := by rw [← hcn2, va_up_ne _ _ (by decide)]
        have hcn2_16 : cnt2 16 = cnt1 16 := by rw [← hcn2, va_up_ne _ _ (by decide)]
        have hcn2_17 : cnt2 17 = cnt1 17 := by rw [← hcn2, va_up_ne _ _ (by decide)]
        have hag2 : ∀ k i, i < cnt1 k → ad1 k i = ad2 k i := fun k i hi => by rw [← han2]; by_cases hk : k = 5; subst hk; exact (upd2_i _ _ _ (by omega)).symm; exact (upd2_k _ _ _ _ hk).symm
        have hcg2 : ∀ k i, i < cnt1 k → ct2 k i = (upd2 ct1 17 i1 (.inl (ca 1, n1, .inl (lnF w2 r3 z)))) k i := fun k i hi => by rw [← hct2]; by_cases hk : k = 5; subst hk; exact upd2_i _ _ _ (by omega); exact upd2_k _ _ _ _ hk
        have hle2 : ∀ k, cnt1 k ≤ cnt2 k := fun k => by rw [← hcn2]; by_cases hk : k = 5; subst hk; rw [va_up_self]; omega; rw [va_up_ne _ _ hk]; exact Nat.le_refl _
        have fa3 : ct2 17 i1 = .inl (ca 1, n1, .inl (lnF w2 r3 z)) := by rw [hcg2 17 i1 (hin1)]; exact (upd2_at _ _ _ _)
        have fa4 : ct2 4 b9 = .inr (0, [.null]) := by rw [hcg2 4 b9 (by omega)]; exact ((upd2_k _ _ _ _ (by decide)).trans ((hcg1 4 b9 hki).trans hkc))
        have fa5 : ct2 5 i2 = .inl (ca 1, n1, .inl (fun _ => 0)) := by rw [← hct2, upd2_at]
        have hin2 : i2 < cnt2 5 := by omega
        have ev40_0 : ad 4 b9 = ad2 4 b9 := (hag1 4 b9 (by omega)).trans (hag2 4 b9 (by omega))
        refine W.eq (g2 := F0 m 40 ls [.ref (ad2 5 i2), .ref (ad2 4 b9)]) (by rw [ev40_0]) ?_
        refine x_put E hw 4 b9 (by omega) fa4 cl_0 ly_0 tyX0 tyX0_ok nmX0 0 (by decide) tw_141 (Or.inr ⟨rfl, hnm, rfl⟩) (by rfl) (by rfl) (Nat.le_of_ble_eq_true rfl) dX0_init_40 (fun H locs hw => ?_)
        generalize hct3 : upd2 ct2 4 b9 (.inr (0, [.null].set 0 (.ref (ad2 5 i2)))) = ct3 at hw
        have fa6 : ct3 17 i1 = .inl (ca 1, n1, .inl (lnF w2 r3 z)) := by rw [← hct3, upd2_k _ _ _ _ (by decide)]; exact fa3
        have fa7 : ct3 4 b9 = .inr (0, [.ref (ad2 5 i2)]) := by rw [← hct3, upd2_at]; try rfl
        have fa8 : ct3 5 i2 = .inl (ca 1, n1, .inl (fun _ => 0)) := by rw [← hct3, upd2_k _ _ _ _ (by decide)]; exact fa5
        have h4c3 := fa7
        have h5c3 := fa8
        have h17c3 := fa6
        rw [hge] at h17c3
        refine lv_lload hx hb dX0_init_43 (lv_at hl 4 rfl) ?_
        refine lv_lstore (lv' := [(7, .long x0), (0, .ref (ad 4 b9)), (1, .int (nI n1)), (2, .int (nI w2)), (3, .int (nI r3)), (4, .long x0), (6, .ref (ad1 17 i1))]) hx hb dX0_init_45 hl (by decide) rfl (fun ls hl => ?_)
        refine lv_iconst (v := 0) hx hb dX0_init_47 (by decide) ?_
        refine lv_istore (lv' := [(9, .int 0), (7, .long x0), (0, .ref (ad 4 b9)), (1, .int (nI n1)), (2, .int (nI w2)), (3, .int (nI r3)), (4, .long x0), (6, .ref (ad1 17 i1))]) hx hb dX0_init_48 hl (by decide) rfl (fun ls hl => ?_)
        have lp50 : ∀ (n : Nat) (w : Nat) (x7 : Int64), (w ≤ n1) → (x7 = (cBl n1 w2 r3 x0 w).1) → (n1 - w < n) → ∀ (H : Heap) (locs : List Loc), wd D A s.heap cnt2 ad2 (upd2 (upd2 ct3 17 i1 (.inl (ca 1, n1, .inl (cBl n1 w2 r3 x0 w).2.1))) 5 i2 (.inl (ca 1, n1, .inl (cBl n1 w2 r3 x0 w).2.2))) H locs → ∀ ls : Array Slot, lv_has ls 12 [(0, .ref (ad 4 b9)), (1, .int (nI n1)), (2, .int (nI w2)), (3, .int (nI r3)), (6, .ref (ad1 17 i1)), (7, .long x7), (9, .int (nI w))] → W p l e (rmL 2 2 40) s m args below meth c H locs 2 ((0 + n1) + n1) Q (F0 m 50 ls []) := by
          intro n
          induction n with
          | zero =>
            intro w x7 hi h7 hfu H locs hw ls hl
            exact absurd hfu (by omega)
          | succ n ih50 =>
            intro w x7 hi h7 hfu H locs hw ls hl
            refine lv_iload hx hb dX0_init_50 (lv_at hl 6 rfl) ?_
            refine lv_iload_n hx hb dX0_init_52 rfl (lv_at hl 1 rfl) ?_
            refine lv_icmp_ge (tgt := 124) hx hb dX0_init_53 (by decide) (fun c_53 => ?_) (fun c_53 => ?_)
            · skip
              have hge : w = n1 := by have q9 := (nI_leI (a := n1) (b := w) (by omega) (by omega)).mp c_53; omega
              subst hQ
              exact x_vretW E hr hlk hw (by decide) (by omega) (⟨rfl, ad1 17 i1, ad2 5 i2, _, by rw [hge, hix1, hcn1, han1, hix2, hcn2, han2, ← hct3, ← hct2, ← hct1]; rw [upd2_2, upd2_cm _ _ _ _ _ (show (4 : Nat) ≠ 17 by decide), upd2_cm _ _ _ _ _ (show (5 : Nat) ≠ 17 by decide), upd2_2, upd2_cm _ _ _ _ _ (show (4 : Nat) ≠ 5 by decide), upd2_2]; rfl⟩) dX0_init_124
            · skip
              have hlt : w < n1 := by have q9 := mt (nI_leI (a := n1) (b := w) (by omega) (by omega)).mpr c_53; omega
              have h7n : mNx x7 = mNx (cBl n1 w2 r3 x0 w).1 := by rw [h7]
              refine lv_iload_n hx hb dX0_init_56 rfl (lv_at hl 1 rfl) ?_
              refine lv_iload hx hb dX0_init_57 (lv_at hl 6 rfl) ?_
              refine lv_isub hx hb dX0_init_59 ?_
              refine x_top (x := (nI n1 - nI w)) (y := (nI (n1 - w))) (pk_sub (by omega)) ?_
              refine lv_istore (lv' := [(10, .int (nI (n1 - w))), (0, .ref (ad 4 b9)), (1, .int (nI n1)), (2, .int (nI w2)), (3, .int (nI r3)), (6, .ref (ad1 17 i1)), (7, .long x7), (9, .int (nI w))]) hx hb dX0_init_60 hl (by decide) rfl (fun ls hl => ?_)
              refine lv_lload hx hb dX0_init_62 (lv_at hl 6 rfl) ?_
              refine lv_ldc2 hx hb hown (hts _ tw_136) dX0_init_64 ?_
              refine lv_lmul hx hb dX0_init_67 ?_
              refine lv_ldc2 hx hb hown (hts _ tw_137) dX0_init_68 ?_
              refine lv_ladd hx hb dX0_init_71 ?_
              refine x_topL (x := ((x7 * 6364136223846793005) + 1442695040888963407)) (y := (mNx x7)) (mNx_eq x7) ?_
              refine lv_lstore (lv' := [(7, .long (mNx x7)), (10, .int (nI (n1 - w))), (0, .ref (ad 4 b9)), (1, .int (nI n1)), (2, .int (nI w2)), (3, .int (nI r3)), (6, .ref (ad1 17 i1)), (9, .int (nI w))]) hx hb dX0_init_72 hl (by decide) rfl (fun ls hl => ?_)
              refine lv_lload hx hb dX0_init_74 (lv_at hl 0 rfl) ?_
              refine lv_bipush (v := 33) hx hb dX0_init_76 (by decide) ?_
              refine lv_lushr (v := (lN (mHi (mNx x7)))) hx hb dX0_init_78 (mHi_val _) ?_
              refine lv_iload hx hb dX0_init_79 (lv_at hl 1 rfl) ?_
              refine lv_i2l (v := (lN (n1 - w))) hx hb dX0_init_81 (nI_l (by omega)) ?_
              refine lv_lrem hx hb dX0_init_82 (lN_ne0 (by omega) (by omega)) ?_
              refine x_topL (x := (lN (mHi (mNx x7)) - lN (mHi (mNx x7)) / lN (n1 - w) * lN (n1 - w))) (y := (lN (mK (mNx x7) (n1 - w)))) (pk_lRem (Nat.lt_trans (mHi_lt _) (by decide)) (by omega) (by omega)) ?_
              refine lv_l2i (v := (nI (mK (mNx x7) (n1 - w)))) hx hb dX0_init_83 (lN_i _) ?_
              have hKl : mK (mNx x7) (n1 - w) < n1 - w := Nat.mod_lt _ (by omega)
              generalize hK : mK (mNx x7) (n1 - w) = K at hKl ⊢
              refine lv_istore (lv' := [(11, .int (nI K)), (7, .long (mNx x7)), (10, .int (nI (n1 - w))), (0, .ref (ad 4 b9)), (1, .int (nI n1)), (2, .int (nI w2)), (3, .int (nI r3)), (6, .ref (ad1 17 i1)), (9, .int (nI w))]) hx hb dX0_init_84 hl (by decide) rfl (fun ls hl => ?_)
              refine lv_aload_n hx hb dX0_init_86 rfl (lv_at hl 3 rfl) ?_
              have ev87_0 : ad 4 b9 = ad2 4 b9 := (hag1 4 b9 (by omega)).trans (hag2 4 b9 (by omega))
              refine W.eq (g2 := F0 m 87 ls [.ref (ad2 4 b9)]) (by rw [ev87_0]) ?_
              refine x_get E hw 4 b9 (by omega) ((upd2_k _ _ _ _ (by decide)).trans ((upd2_k _ _ _ _ (by decide)).trans h4c3)) cl_0 ly_0 0 (by decide) tw_141 rfl dX0_init_87 ?_
              refine lv_iload hx hb dX0_init_90 (lv_at hl 8 rfl) ?_
              refine lv_aload hx hb dX0_init_92 (lv_at hl 7 rfl) ?_
              refine lv_iload hx hb dX0_init_94 (lv_at hl 0 rfl) ?_
              have ev96_0 : ad1 17 i1 = ad2 17 i1 := hag2 17 i1 (by omega)
              refine W.eq (g2 := F0 m 96 ls [.int (nI K), .ref (ad2 17 i1), .int (nI w), .ref (ad2 5 i2)]) (by rw [ev96_0]) ?_
              refine x_ild E hw 17 i1 (by omega) ((upd2_k _ _ _ _ (by decide)).trans (upd2_at _ _ _ _)) K (rfl) (by omega) (by omega) dX0_init_96 ?_
              refine x_ist E hw 5 i2 (by omega) (upd2_at _ _ _ _) w (rfl) (hlt) (by omega) dX0_init_97 (fun H locs hw => ?_)
              generalize hct4 : upd2 (upd2 (upd2 ct3 17 i1 (.inl (ca 1, n1, .inl (cBl n1 w2 r3 x0 w).2.1))) 5 i2 (.inl (ca 1, n1, .inl (cBl n1 w2 r3 x0 w).2.2))) 5 i2 (.inl (ca 1, n1, .inl (upd ((cBl n1 w2 r3 x0 w).2.2) w (((cBl n1 w2 r3 x0 w).2.1) K)))) = ct4 at hw
              have fa9 : ct4 17 i1 = .inl (ca 1, n1, .inl ((cBl n1 w2 r3 x0 w).2.1)) := by rw [← hct4, upd2_k _ _ _ _ (by decide)]; exact ((upd2_k _ _ _ _ (by decide)).trans (upd2_at _ _ _ _))
              have fa10 : ct4 5 i2 = .inl (ca 1, n1, .inl (upd ((cBl n1 w2 r3 x0 w).2.2) w (((cBl n1 w2 r3 x0 w).2.1) K))) := by rw [← hct4, upd2_at]; try rfl
              have fa11 : ct4 4 b9 = .inr (0, [.ref (ad2 5 i2)]) := by rw [← hct4, upd2_k _ _ _ _ (by decide)]; exact ((upd2_k _ _ _ _ (by decide)).trans ((upd2_k _ _ _ _ (by decide)).trans h4c3))
              refine lv_aload hx hb dX0_init_98 (lv_at hl 7 rfl) ?_
              refine lv_iload hx hb dX0_init_100 (lv_at hl 0 rfl) ?_
              refine lv_iconst (v := 1) hx hb dX0_init_102 (by decide) ?_
              refine lv_iadd hx hb dX0_init_103 ?_
              refine x_top (x := (nI K + 1)) (y := (nI (K + 1))) (nI_1 _) ?_
              refine lv_aload hx hb dX0_init_104 (lv_at hl 7 rfl) ?_
              refine lv_iload hx hb dX0_init_106 (lv_at hl 0 rfl) ?_
              refine lv_iload hx hb dX0_init_108 (lv_at hl 2 rfl) ?_
              refine lv_iload hx hb dX0_init_110 (lv_at hl 0 rfl) ?_
              refine lv_isub hx hb dX0_init_112 ?_
              refine x_top (x := (nI (n1 - w) - nI K)) (y := (nI (n1 - w - K))) (pk_sub (by omega)) ?_
              refine lv_iconst (v := 1) hx hb dX0_init_113 (by decide) ?_
              refine lv_isub hx hb dX0_init_114 ?_
              refine x_top (x := (nI (n1 - w - K) - 1)) (y := (nI (n1 - w - K - 1))) (pk_sub (b := 1) (by omega)) ?_
              have ev115_0 : ad1 17 i1 = ad2 17 i1 := hag2 17 i1 (by omega)
              refine W.eq (g2 := F0 m 115 ls [.int (nI (n1 - w - K - 1)), .int (nI K), .ref (ad2 17 i1), .int (nI (K + 1)), .ref (ad2 17 i1)]) (by rw [ev115_0]) ?_
              refine x_copy E hw 17 i1 (by omega) fa9 (sp := (K + 1)) (dp := K) (len := (n1 - w - K - 1)) (by omega) (by omega) (by omega) tw_138 tw_140 tw_139 tw_7 (E.2.2.1.trans hl.1.symm) (by decide) (Nat.le_of_ble_eq_true rfl) dX0_init_115 (fun H locs hw => ?_)
              generalize hct5 : upd2 ct4 17 i1 (.inl (ca 1, n1, .inl (va_cpy ((cBl n1 w2 r3 x0 w).2.1) ((cBl n1 w2 r3 x0 w).2.1) (K + 1) K (n1 - w - K - 1)))) = ct5 at hw
              have fa12 : ct5 17 i1 = .inl (ca 1, n1, .inl (va_cpy ((cBl n1 w2 r3 x0 w).2.1) ((cBl n1 w2 r3 x0 w).2.1) (K + 1) K (n1 - w - K - 1))) := by rw [← hct5, upd2_at]; try rfl
              have fa13 : ct5 5 i2 = .inl (ca 1, n1, .inl (upd ((cBl n1 w2 r3 x0 w).2.2) w (((cBl n1 w2 r3 x0 w).2.1) K))) := by rw [← hct5, upd2_k _ _ _ _ (by decide)]; exact fa10
              have fa14 : ct5 4 b9 = .inr (0, [.ref (ad2 5 i2)]) := by rw [← hct5, upd2_k _ _ _ _ (by decide)]; exact fa11
              refine lv_iinc (v := (nI (w + 1))) (lv' := [(9, .int (nI (w + 1))), (11, .int (nI K)), (7, .long (mNx x7)), (10, .int (nI (n1 - w))), (0, .ref (ad 4 b9)), (1, .int (nI n1)), (2, .int (nI w2)), (3, .int (nI r3)), (6, .ref (ad1 17 i1))]) hx hb dX0_init_118 hl (k := 8) rfl (nI_1 _) (by decide) rfl (fun ls hl => ?_)
              refine lv_goto (tgt := 50) hx hb dX0_init_121 (by decide) ?_
              exact ih50 (w + 1) (mNx x7) (hlt) (by rw [h7n, cBl]) (by omega) _ _ (by rw [← hct5, ← hct4, upd2_2, upd2_cm _ _ _ _ _ (show (5 : Nat) ≠ 17 by decide), upd2_2] at hw; rw [cBl, ← h7n, hK]; exact hw) ls (lv_sub hl [4, 5, 6, 7, 8, 2, 0] (rfl))
        exact lp50 (n1 + 1) 0 x0 (Nat.zero_le _) (rfl) (by omega) _ _ (by rw [cBl]; dsimp only; rw [upd2_same h17c3, upd2_same h5c3]; exact hw) ls (lv_sub hl [2, 3, 4, 5, 7, 1, 0] (rfl))
      · skip
        have hlt : z < n1 := by have q9 := mt (nI_leI (a := n1) (b := z) (by omega) (by omega)).mpr c_15; omega
        refine lv_aload hx hb dX0_init_18 (lv_at hl 5 rfl) ?_
        refine lv_iload hx hb dX0_init_20 (lv_at hl 6 rfl) ?_
        refine lv_iload hx hb dX0_init_22 (lv_at hl 6 rfl) ?_
        refine lv_iload_n hx hb dX0_init_24 rfl (lv_at hl 2 rfl) ?_
        refine lv_iload_n hx hb dX0_init_25 rfl (lv_at hl 3 rfl) ?_
        refine x_read (x_runS (rest := [.int (nI z), .ref (ad1 17 i1)]) E cbX0_kindOf tw_133 (kX0_kindOf l D ca (nI z) (nI w2) (nI r3) ) ⟨rfl, rfl, by decide, by decide⟩ (fun _ _ _ _ h => h) (fun _ _ _ => trivial) rfl hl.1 rfl (Nat.le_of_ble_eq_true rfl) dX0_init_26 ⟨by decide, by show _ ≤ (40 : Nat); omega⟩) ?_
        refine x_top (x := (kdI (nI z) (nI w2) (nI r3))) (y := (mColr w2 r3 (nI z))) (kd_eq _ _ _) ?_
        refine x_ist E hw 17 i1 (hin1) (upd2_at _ _ _ _) z (rfl) (hlt) (by omega) dX0_init_29 (fun H locs hw => ?_)
        generalize hct2 : upd2 (upd2 ct1 17 i1 (.inl (ca 1, n1, .inl (lnF w2 r3 z)))) 17 i1 (.inl (ca 1, n1, .inl (upd (lnF w2 r3 z) z (mColr w2 r3 (nI z))))) = ct2 at hw
        have fa15 : ct2 17 i1 = .inl (ca 1, n1, .inl (upd (lnF w2 r3 z) z (mColr w2 r3 (nI z)))) := by rw [← hct2, upd2_at]; try rfl
        have fa16 : ct2 4 b9 = .inr (0, [.null]) := by rw [← hct2, upd2_k _ _ _ _ (by decide)]; exact ((upd2_k _ _ _ _ (by decide)).trans ((hcg1 4 b9 hki).trans hkc))
        refine lv_iinc (v := (nI (z + 1))) (lv' := [(7, .int (nI (z + 1))), (0, .ref (ad 4 b9)), (1, .int (nI n1)), (2, .int (nI w2)), (3, .int (nI r3)), (4, .long x0), (6, .ref (ad1 17 i1))]) hx hb dX0_init_30 hl (k := 6) rfl (nI_1 _) (by decide) rfl (fun ls hl => ?_)
        refine lv_goto (tgt := 12) hx hb dX0_init_33 (by decide) ?_
        exact ih12 (z + 1) (hlt) (by omega) _ _ (by rw [← hct2, upd2_2, lnF_s] at hw; exact hw) ls (lv_sub hl [1, 2, 3, 4, 5, 6, 0] (rfl))
  exact lp12 (n1 + 1) 0 (Nat.zero_le _) (by omega) _ _ (by rw [lnF_0, upd2_same fa2]; exact hw) ls (lv_sub hl [2, 3, 4, 5, 6, 1, 0] (rfl))
