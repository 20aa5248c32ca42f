set_option maxHeartbeats 4000000 in
set_option maxRecDepth 100000 in
theorem kX10_isSeen (l : Launch) (D : va_G) (ca : Nat → ClassId) (ad : Nat → Nat → Nat) (v : Nat → Int32) (g : Nat → Nat → Int32) (nw : Nat) (n1 : Nat) (w2 : Nat) (q3 : Nat) (hn1 : n1 ≤ 12) (hw2 : w2 ≤ 300) (hq3 : q3 ≤ 2000) : Met l yX10_isSeen (wz yX10_isSeen cX10_isSeen 5 (some .boolean)) (rmL 1 0 0) (va_Pc [.ref (ad 33 0), .int (nI n1), .int (nI w2), .int (nI q3)] (fun U => mq D ca ad v g U.heap ∧ gK D ca U)) (QcRead (bB (mSeen g n1 w2 q3))) 0 0 (fun _ => False) := by
  refine x_met (by decide) (Nat.le_of_ble_eq_true rfl) ?_
  intro p e s m below meth c E hr hlk hnm hq ls hl
  generalize hav : ([.ref (ad 33 0), .int (nI n1), .int (nI w2), .int (nI q3)] : List Value).toArray = args at E ⊢
  have hx := E.1
  have hb := E.2.1
  have hown := E.2.2.2.1
  have hts := E.2.2.2.2.1
  have hw : mw D (wA mcnt ad s.heap.size) s.heap ca ad v g s.heap [] := wd.start hq
  generalize hQ : MQ below (QcRead (bB (mSeen g n1 w2 q3))) args s 0 0 (fun _ => False) = Q
  have hl : lv_has ls 5 [(0, .ref (ad 33 0)), (1, .int (nI n1)), (2, .int (nI w2)), (3, .int (nI q3))] := hl
  have hmt : mTop w2 q3 ≤ 7 := by unfold mTop; omega
  refine lv_bipush (v := 7) hx hb dX10_isSeen_0 (by decide) ?_
  refine lv_iload_n hx hb dX10_isSeen_2 rfl (lv_at hl 2 rfl) ?_
  refine lv_imul hx hb dX10_isSeen_3 ?_
  refine x_top (x := (7 * nI w2)) (y := (nI (7 * w2))) (pk_mul 7 _) ?_
  refine lv_istore (lv' := [(4, .int (nI (7 * w2))), (0, .ref (ad 33 0)), (1, .int (nI n1)), (2, .int (nI w2)), (3, .int (nI q3))]) hx hb dX10_isSeen_4 hl (by decide) rfl (fun ls hl => ?_)
  have lp6 : ∀ (n : Nat) (k : Nat), (k ≤ mTop w2 q3) → (anyB (fun k => !(decide (g 23 (2001 * n1 + (7 * w2 + k)) = 0))) k = false) → (mTop w2 q3 - k < n) → ∀ ls : Array Slot, lv_has ls 5 [(0, .ref (ad 33 0)), (1, .int (nI n1)), (2, .int (nI w2)), (3, .int (nI q3)), (4, .int (nI (7 * w2 + k)))] → W p l e (rmL 1 0 0) s m args below meth c s.heap [] 0 0 Q (F0 m 6 ls []) := by
    intro n
    induction n with
    | zero =>
      intro k hi hn hfu ls hl
      exact absurd hfu (by omega)
    | succ n ih6 =>
      intro k hi hn hfu ls hl
      refine lv_iload hx hb dX10_isSeen_6 (lv_at hl 4 rfl) ?_
      refine lv_iload_n hx hb dX10_isSeen_8 rfl (lv_at hl 3 rfl) ?_
      refine lv_bipush (v := 7) hx hb dX10_isSeen_9 (by decide) ?_
      refine lv_iload_n hx hb dX10_isSeen_11 rfl (lv_at hl 2 rfl) ?_
      refine lv_imul hx hb dX10_isSeen_12 ?_
      refine x_top (x := (7 * nI w2)) (y := (nI (7 * w2))) (pk_mul 7 _) ?_
      refine lv_bipush (v := 6) hx hb dX10_isSeen_13 (by decide) ?_
      refine lv_iadd hx hb dX10_isSeen_15 ?_
      refine x_top (x := (nI (7 * w2) + 6)) (y := (nI (7 * w2 + 6))) (nI_add _ 6) ?_
      refine va_mmin hx hb (E.2.2.1.trans hl.1.symm) hown (hts _ tw_741) (hts _ tw_356) (hts _ tw_12) (hts _ tw_357) (by decide) (Nat.le_of_ble_eq_true rfl) (Nat.zero_le _) (Nat.zero_le _) dX10_isSeen_16 ?_
      refine x_top (x := (if nI (7 * w2 + 6) < nI q3 then nI (7 * w2 + 6) else nI q3)) (y := (nI (min q3 (7 * w2 + 6)))) (x_min (by omega) (by omega)) ?_
      refine lv_icmp_gt (tgt := 46) hx hb dX10_isSeen_19 (by decide) (fun c_19 => ?_) (fun c_19 => ?_)
      · skip
        have hge : k = mTop w2 q3 := by have q9 := (nI_ltI (a := min q3 (7 * w2 + 6)) (b := 7 * w2 + k) (by unfold mTop at hi; omega) (by unfold mTop at hi; omega)).mp c_19; unfold mTop at *; omega
        refine lv_iconst (v := 0) hx hb dX10_isSeen_46 (by decide) ?_
        subst hQ
        exact x_zret E hr hlk (by decide) (by rw [mSeen, ← hge, hn]; rfl) dX10_isSeen_47
      · skip
        have hlt : 7 * w2 + k ≤ min q3 (7 * w2 + 6) := by have q9 := mt (nI_ltI (a := min q3 (7 * w2 + 6)) (b := 7 * w2 + k) (by omega) (by omega)).mpr c_19; omega
        refine lv_aload_n hx hb dX10_isSeen_22 rfl (lv_at hl 0 rfl) ?_
        refine m_getr E hw 23 (by decide) rfl tw_565 dX10_isSeen_23 ?_
        refine lv_sipush (v := 2001) hx hb dX10_isSeen_26 (by decide) ?_
        refine lv_iload_n hx hb dX10_isSeen_29 rfl (lv_at hl 1 rfl) ?_
        refine lv_imul hx hb dX10_isSeen_30 ?_
        refine x_top (x := (2001 * nI n1)) (y := (nI (2001 * n1))) (pk_mul 2001 _) ?_
        refine lv_iload hx hb dX10_isSeen_31 (lv_at hl 4 rfl) ?_
        refine lv_iadd hx hb dX10_isSeen_33 ?_
        refine x_top (x := (nI (2001 * n1) + nI (7 * w2 + k))) (y := (nI (2001 * n1 + (7 * w2 + k)))) (nI_add _ _) ?_
        refine m_zld E hw 23 ⟨by decide, rfl, rfl⟩ (2001 * n1 + (7 * w2 + k)) (rfl) (by show _ < 26013; omega) dX10_isSeen_34 ?_
        refine lv_if_eq (tgt := 40) hx hb dX10_isSeen_35 (by decide) (fun c_35 => ?_) (fun c_35 => ?_)
        · skip
          refine lv_iinc (v := (nI ((7 * w2 + k) + 1))) (lv' := [(4, .int (nI ((7 * w2 + k) + 1))), (0, .ref (ad 33 0)), (1, .int (nI n1)), (2, .int (nI w2)), (3, .int (nI q3))]) hx hb dX10_isSeen_40 hl (k := 4) rfl (nI_1 _) (by decide) rfl (fun ls hl => ?_)
          refine lv_goto (tgt := 6) hx hb dX10_isSeen_43 (by decide) ?_
          exact ih6 (k + 1) (by unfold mTop at *; omega) (by simp [anyB, hn, c_19, c_35]) (by unfold mTop at *; omega) ls (lv_sub hl [1, 2, 3, 4, 0] (rfl))
        · skip
          refine lv_iconst (v := 1) hx hb dX10_isSeen_38 (by decide) ?_
          subst hQ
          exact x_zret E hr hlk (by decide) (by rw [mSeen, anyB_at (i := k) (by unfold mTop; omega) (by simp [c_19, c_35])]; rfl) dX10_isSeen_39
  exact lp6 (mTop w2 q3 + 1) 0 (Nat.zero_le _) (rfl) (by omega) ls (lv_sub hl [1, 2, 3, 4, 0] (rfl))
set_option maxHeartbeats 4000000 in
set_option maxRecDepth 100000 in
theorem kX10_daysWith (l : Launch) (D : va_G) (ca : Nat → ClassId) (ad : Nat → Nat → Nat) (v : Nat → Int32) (g : Nat → Nat → Int32) (nw : Nat) (nb : Nat) (nc : Nat) (nm : Nat) (n1 : Nat) (f2 : Nat) (l3 : Nat) (q4 : Nat) (sb : Bool) (hO : mOK v nw nb nc nm) (hn1 : n1 ≤ 12) (hfl : f2 ≤ l3) (hl3 : l3 ≤ 300) (hq4 : q4 ≤ nw) : Met l yX10_daysWith (wz yX10_daysWith cX10_daysWith 10 (some .int)) (rmL 3 0 0) (va_Pc [.ref (ad 33 0), .int (nI n1), .int (nI f2), .int (nI l3), .int (nI q4), .int (bB (sb))] (fun U => mq D ca ad v g U.heap ∧ gK D ca U)) (QcRead (nI (mDays g nc nm n1 f2 l3 q4 sb))) 0 0 (fun _ => False) := by
  refine x_met (by decide) (Nat.le_of_ble_eq_true rfl) ?_
  intro p e s m below meth c E hr hlk hnm hq ls hl
  generalize hav : ([.ref (ad 33 0), .int (nI n1), .int (nI f2), .int (nI l3), .int (nI q4), .int (bB (sb))] : List Value).toArray = args at E ⊢
  have hx := E.1
  have hb := E.2.1
  have hown := E.2.2.2.1
  have hts := E.2.2.2.2.1
  have hw : mw D (wA mcnt ad s.heap.size) s.heap ca ad v g s.heap [] := wd.start hq
  generalize hQ : MQ below (QcRead (nI (mDays g nc nm n1 f2 l3 q4 sb))) args s 0 0 (fun _ => False) = Q
  have hl : lv_has ls 10 [(0, .ref (ad 33 0)), (1, .int (nI n1)), (2, .int (nI f2)), (3, .int (nI l3)), (4, .int (nI q4)), (5, .int (bB (sb)))] := hl
  have hO5 := hO.2.2.2.2
  refine lv_iconst (v := 0) hx hb dX10_daysWith_0 (by decide) ?_
  refine lv_istore (lv' := [(6, .int 0), (0, .ref (ad 33 0)), (1, .int (nI n1)), (2, .int (nI f2)), (3, .int (nI l3)), (4, .int (nI q4)), (5, .int (bB (sb)))]) hx hb dX10_daysWith_1 hl (by decide) rfl (fun ls hl => ?_)
  refine lv_iload_n hx hb dX10_daysWith_3 rfl (lv_at hl 3 rfl) ?_
  refine lv_istore (lv' := [(7, .int (nI f2)), (6, .int 0), (0, .ref (ad 33 0)), (1, .int (nI n1)), (2, .int (nI f2)), (3, .int (nI l3)), (4, .int (nI q4)), (5, .int (bB (sb)))]) hx hb dX10_daysWith_4 hl (by decide) rfl (fun ls hl => ?_)
  have lp6 : ∀ (n : Nat) (k : Nat) (x6 : Int32), (k ≤ min l3 (q4 / 7) + 1 - f2) → (x6 = nI (mDw g nc nm n1 f2 q4 sb k)) → (min l3 (q4 / 7) + 1 - f2 - k < n) → ∀ ls : Array Slot, lv_has ls 10 [(0, .ref (ad 33 0)), (1, .int (nI n1)), (2, .int (nI f2)), (3, .int (nI l3)), (4, .int (nI q4)), (5, .int (bB (sb))), (6, .int x6), (7, .int (nI (f2 + k)))] → W p l e (rmL 3 0 0) s m args below meth c s.heap [] 0 0 Q (F0 m 6 ls []) := by
    intro n
    induction n with
    | zero =>
      intro k x6 hi h6 hfu ls hl
      exact absurd hfu (by omega)
    | succ n ih6 =>
      intro k x6 hi h6 hfu ls hl
      refine lv_iload hx hb dX10_daysWith_6 (lv_at hl 7 rfl) ?_
      refine lv_iload_n hx hb dX10_daysWith_8 rfl (lv_at hl 3 rfl) ?_
      refine lv_icmp_gt (tgt := 121) hx hb dX10_daysWith_9 (by decide) (fun c_9 => ?_) (fun c_9 => ?_)
      · skip
        have hge : k = min l3 (q4 / 7) + 1 - f2 := by have q9 := (nI_ltI (a := l3) (b := f2 + k) (by omega) (by omega)).mp c_9; omega
        refine lv_iload hx hb dX10_daysWith_121 (lv_at hl 6 rfl) ?_
        subst hQ
        exact x_iret E hr hlk (by rw [h6, hge]; rfl) dX10_daysWith_123
      · skip
        have hlt1 : f2 + k ≤ l3 := by have q9 := mt (nI_ltI (a := l3) (b := f2 + k) (by omega) (by omega)).mpr c_9; omega
        refine lv_bipush (v := 7) hx hb dX10_daysWith_12 (by decide) ?_
        refine lv_iload hx hb dX10_daysWith_14 (lv_at hl 7 rfl) ?_
        refine lv_imul hx hb dX10_daysWith_16 ?_
        refine x_top (x := (7 * nI (f2 + k))) (y := (nI (7 * (f2 + k)))) (pk_mul 7 _) ?_
        refine lv_iload hx hb dX10_daysWith_17 (lv_at hl 4 rfl) ?_
        refine lv_icmp_gt (tgt := 121) hx hb dX10_daysWith_19 (by decide) (fun c_19 => ?_) (fun c_19 => ?_)
        · skip
          have hge : k = min l3 (q4 / 7) + 1 - f2 := by have q9 := (nI_ltI (a := q4) (b := 7 * (f2 + k)) (by omega) (by omega)).mp c_19; omega
          refine lv_iload hx hb dX10_daysWith_121 (lv_at hl 6 rfl) ?_
          subst hQ
          exact x_iret E hr hlk (by rw [h6, hge]; rfl) dX10_daysWith_123
        · skip
          have hlt2 : 7 * (f2 + k) ≤ q4 := by have q9 := mt (nI_ltI (a := q4) (b := 7 * (f2 + k)) (by omega) (by omega)).mpr c_19; omega
          refine lv_aload_n hx hb dX10_daysWith_22 rfl (lv_at hl 0 rfl) ?_
          refine lv_iload_n hx hb dX10_daysWith_23 rfl (lv_at hl 1 rfl) ?_
          refine lv_iload hx hb dX10_daysWith_24 (lv_at hl 7 rfl) ?_
          refine lv_iload hx hb dX10_daysWith_26 (lv_at hl 4 rfl) ?_
          refine x_read (x_runV (rest := []) E cbX10_isSeen tw_737 (kX10_isSeen l D ca ad v g nw n1 (f2 + k) q4 (hn1) (by omega) (by omega)) ⟨rfl, rfl, by decide, by decide⟩ (m_recv E hw) (fun _ _ _ _ h => h) (fun U hU _ => by rw [hU]; exact hw.1) rfl hl.1 rfl (Nat.le_of_ble_eq_true rfl) dX10_daysWith_28 ⟨by decide, by decide⟩) ?_
          refine lv_iload hx hb dX10_daysWith_31 (lv_at hl 5 rfl) ?_
          refine lv_icmp_eq (tgt := 39) hx hb dX10_daysWith_33 (by decide) (fun c_33 => ?_) (fun c_33 => ?_)
          · skip
            have hc_s := bB_inj.mp c_33
            refine lv_iconst (v := 0) hx hb dX10_daysWith_39 (by decide) ?_
            refine lv_istore (lv' := [(8, .int 0), (0, .ref (ad 33 0)), (1, .int (nI n1)), (2, .int (nI f2)), (3, .int (nI l3)), (4, .int (nI q4)), (5, .int (bB (sb))), (6, .int x6), (7, .int (nI (f2 + k)))]) hx hb dX10_daysWith_40 hl (by decide) rfl (fun ls hl => ?_)
            refine lv_bipush (v := 7) hx hb dX10_daysWith_42 (by decide) ?_
            refine lv_iload hx hb dX10_daysWith_44 (lv_at hl 8 rfl) ?_
            refine lv_imul hx hb dX10_daysWith_46 ?_
            refine x_top (x := (7 * nI (f2 + k))) (y := (nI (7 * (f2 + k)))) (pk_mul 7 _) ?_
            refine lv_istore (lv' := [(9, .int (nI (7 * (f2 + k)))), (8, .int 0), (0, .ref (ad 33 0)), (1, .int (nI n1)), (2, .int (nI f2)), (3, .int (nI l3)), (4, .int (nI q4)), (5, .int (bB (sb))), (6, .int x6), (7, .int (nI (f2 + k)))]) hx hb dX10_daysWith_47 hl (by decide) rfl (fun ls hl => ?_)
            have lp49 : ∀ (n : Nat) (j : Nat) (x6j : Int32) (x8 : Int32), (j ≤ mTop (f2 + k) q4) → (x6j = nI (mDw g nc nm n1 f2 q4 sb k + mWk g nc nm n1 (f2 + k) q4 j)) → (x8 = nI (mSame g nc nm n1 (f2 + k) q4 j)) → (mTop (f2 + k) q4 - j < n) → ∀ ls : Array Slot, lv_has ls 10 [(0, .ref (ad 33 0)), (1, .int (nI n1)), (2, .int (nI f2)), (3, .int (nI l3)), (4, .int (nI q4)), (5, .int (bB (sb))), (6, .int x6j), (7, .int (nI (f2 + k))), (8, .int x8), (9, .int (nI (7 * (f2 + k) + j)))] → W p l e (rmL 3 0 0) s m args below meth c s.heap [] 0 0 Q (F0 m 49 ls []) := by
              intro n
              induction n with
              | zero =>
                intro j x6j x8 hj h6j h8 hfu ls hl
                exact absurd hfu (by omega)
              | succ n ih49 =>
                intro j x6j x8 hj h6j h8 hfu ls hl
                refine lv_iload hx hb dX10_daysWith_49 (lv_at hl 9 rfl) ?_
                refine lv_iload hx hb dX10_daysWith_51 (lv_at hl 4 rfl) ?_
                refine lv_bipush (v := 7) hx hb dX10_daysWith_53 (by decide) ?_
                refine lv_iload hx hb dX10_daysWith_55 (lv_at hl 7 rfl) ?_
                refine lv_imul hx hb dX10_daysWith_57 ?_
                refine x_top (x := (7 * nI (f2 + k))) (y := (nI (7 * (f2 + k)))) (pk_mul 7 _) ?_
                refine lv_bipush (v := 6) hx hb dX10_daysWith_58 (by decide) ?_
                refine lv_iadd hx hb dX10_daysWith_60 ?_
                refine x_top (x := (nI (7 * (f2 + k)) + 6)) (y := (nI (7 * (f2 + k) + 6))) (nI_add _ 6) ?_
                refine va_mmin hx hb (E.2.2.1.trans hl.1.symm) hown (hts _ tw_741) (hts _ tw_356) (hts _ tw_12) (hts _ tw_357) (by decide) (Nat.le_of_ble_eq_true rfl) (Nat.zero_le _) (Nat.zero_le _) dX10_daysWith_61 ?_
                refine x_top (x := (if nI (7 * (f2 + k) + 6) < nI q4 then nI (7 * (f2 + k) + 6) else nI q4)) (y := (nI (min q4 (7 * (f2 + k) + 6)))) (x_min (by omega) (by omega)) ?_
                refine lv_icmp_gt (tgt := 115) hx hb dX10_daysWith_64 (by decide) (fun c_64 => ?_) (fun c_64 => ?_)
                · skip
                  have hgej : j = mTop (f2 + k) q4 := by have q9 := (nI_ltI (a := min q4 (7 * (f2 + k) + 6)) (b := 7 * (f2 + k) + j) (by unfold mTop at hj; omega) (by unfold mTop at hj; omega)).mp c_64; unfold mTop at *; omega
                  refine lv_iinc (v := (nI ((f2 + k) + 1))) (lv' := [(7, .int (nI ((f2 + k) + 1))), (0, .ref (ad 33 0)), (1, .int (nI n1)), (2, .int (nI f2)), (3, .int (nI l3)), (4, .int (nI q4)), (5, .int (bB (sb))), (6, .int x6j), (8, .int x8), (9, .int (nI (7 * (f2 + k) + j)))]) hx hb dX10_daysWith_115 hl (k := 7) rfl (nI_1 _) (by decide) rfl (fun ls hl => ?_)
                  refine lv_goto (tgt := 6) hx hb dX10_daysWith_118 (by decide) ?_
                  exact ih6 (k + 1) x6j (by omega) (by first | (rw [h6]; simp [mDw, hc_s]; done) | (rw [h6j, hgej]; simp [mDw, hc_s]; done)) (by omega) ls (lv_sub hl [1, 2, 3, 4, 5, 6, 7, 0] (rfl))
                · skip
                  have hltj : 7 * (f2 + k) + j ≤ min q4 (7 * (f2 + k) + 6) := by have q9 := mt (nI_ltI (a := min q4 (7 * (f2 + k) + 6)) (b := 7 * (f2 + k) + j) (by omega) (by unfold mTop at hj; omega)).mpr c_64; omega
                  refine lv_iload hx hb dX10_daysWith_67 (lv_at hl 9 rfl) ?_
                  refine lv_bipush (v := 7) hx hb dX10_daysWith_69 (by decide) ?_
                  refine lv_iload hx hb dX10_daysWith_71 (lv_at hl 7 rfl) ?_
                  refine lv_imul hx hb dX10_daysWith_73 ?_
                  refine x_top (x := (7 * nI (f2 + k))) (y := (nI (7 * (f2 + k)))) (pk_mul 7 _) ?_
                  refine lv_icmp_eq (tgt := 86) hx hb dX10_daysWith_74 (by decide) (fun c_74 => ?_) (fun c_74 => ?_)
                  · skip
                    have hc_j : j = 0 := by have q9 := (nI_eq (a := 7 * (f2 + k) + j) (b := 7 * (f2 + k)) (by omega) (by omega)).mp c_74; omega
                    refine lv_aload_n hx hb dX10_daysWith_86 rfl (lv_at hl 0 rfl) ?_
                    refine lv_iload_n hx hb dX10_daysWith_87 rfl (lv_at hl 1 rfl) ?_
                    refine lv_iload hx hb dX10_daysWith_88 (lv_at hl 9 rfl) ?_
                    refine lv_iload hx hb dX10_daysWith_90 (lv_at hl 4 rfl) ?_
                    refine x_read (x_runV (rest := []) E cbX10_manyAt tw_689 (kX10_manyAt l D ca ad v g nw nb nc nm (nI n1) (nI (7 * (f2 + k) + j)) (nI q4) (hO)) ⟨rfl, rfl, by decide, by decide⟩ (m_recv E hw) (fun _ _ _ _ h => h) (fun U hU _ => by rw [hU]; exact hw.1) rfl hl.1 rfl (Nat.le_of_ble_eq_true rfl) dX10_daysWith_92 ⟨by decide, by decide⟩) ?_
                    refine lv_goto (tgt := 100) hx hb dX10_daysWith_95 (by decide) ?_
                    refine lv_istore (lv' := [(8, .int (nI (mMany g nm (nI n1) (nI (7 * (f2 + k) + j)) (nI q4) nc))), (0, .ref (ad 33 0)), (1, .int (nI n1)), (2, .int (nI f2)), (3, .int (nI l3)), (4, .int (nI q4)), (5, .int (bB (sb))), (6, .int x6j), (7, .int (nI (f2 + k))), (9, .int (nI (7 * (f2 + k) + j)))]) hx hb dX10_daysWith_100 hl (by decide) rfl (fun ls hl => ?_)
                    refine lv_iload hx hb dX10_daysWith_102 (lv_at hl 7 rfl) ?_
                    refine lv_iload hx hb dX10_daysWith_104 (lv_at hl 0 rfl) ?_
                    refine lv_iadd hx hb dX10_daysWith_106 ?_
                    refine lv_istore (lv' := [(6, .int (x6j + nI (mMany g nm (nI n1) (nI (7 * (f2 + k) + j)) (nI q4) nc))), (8, .int (nI (mMany g nm (nI n1) (nI (7 * (f2 + k) + j)) (nI q4) nc))), (0, .ref (ad 33 0)), (1, .int (nI n1)), (2, .int (nI f2)), (3, .int (nI l3)), (4, .int (nI q4)), (5, .int (bB (sb))), (7, .int (nI (f2 + k))), (9, .int (nI (7 * (f2 + k) + j)))]) hx hb dX10_daysWith_107 hl (by decide) rfl (fun ls hl => ?_)
                    refine lv_iinc (v := (nI ((7 * (f2 + k) + j) + 1))) (lv' := [(9, .int (nI ((7 * (f2 + k) + j) + 1))), (6, .int (x6j + nI (mMany g nm (nI n1) (nI (7 * (f2 + k) + j)) (nI q4) nc))), (8, .int (nI (mMany g nm (nI n1) (nI (7 * (f2 + k) + j)) (nI q4) nc))), (0, .ref (ad 33 0)), (1, .int (nI n1)), (2, .int (nI f2)), (3, .int (nI l3)), (4, .int (nI q4)), (5, .int (bB (sb))), (7, .int (nI (f2 + k)))]) hx hb dX10_daysWith_109 hl (k := 9) rfl (nI_1 _) (by decide) rfl (fun ls hl => ?_)
                    refine lv_goto (tgt := 49) hx hb dX10_daysWith_112 (by decide) ?_
                    exact ih49 (j + 1) (x6j + nI (mMany g nm (nI n1) (nI (7 * (f2 + k) + j)) (nI q4) nc)) (nI (mMany g nm (nI n1) (nI (7 * (f2 + k) + j)) (nI q4) nc)) (by unfold mTop at *; omega) (by rw [h6j]; simp [mWk, mSame, hc_j, h8, nI_add, Nat.add_assoc, c_64, c_74, hc_j]) (by simp [mSame, hc_j, h8, c_64, c_74, hc_j]) (by unfold mTop at *; omega) ls (lv_sub hl [3, 4, 5, 6, 7, 8, 1, 9, 2, 0] (rfl))
                  · skip
                    have hc_j : ¬ j = 0 := by have q9 := mt (nI_eq (a := 7 * (f2 + k) + j) (b := 7 * (f2 + k)) (by omega) (by omega)).mpr c_74; omega
                    refine lv_aload_n hx hb dX10_daysWith_77 rfl (lv_at hl 0 rfl) ?_
                    refine lv_iload hx hb dX10_daysWith_78 (lv_at hl 9 rfl) ?_
                    refine x_read (x_runV (rest := []) E cbX10_changesOn tw_685 (kX10_changesOn l D ca ad v g nw nb nc nm (nI (7 * (f2 + k) + j)) (hO)) ⟨rfl, rfl, by decide, by decide⟩ (m_recv E hw) (fun _ _ _ _ h => h) (fun U hU _ => by rw [hU]; exact hw.1) rfl hl.1 rfl (Nat.le_of_ble_eq_true rfl) dX10_daysWith_80 ⟨by decide, by decide⟩) ?_
                    refine lv_if_eq (tgt := 98) hx hb dX10_daysWith_83 (by decide) (fun c_83 => ?_) (fun c_83 => ?_)
                    · skip
                      have c_83 := bB_0.mp c_83
                      refine lv_iload hx hb dX10_daysWith_98 (lv_at hl 8 rfl) ?_
                      refine lv_istore (lv' := [(8, .int x8), (0, .ref (ad 33 0)), (1, .int (nI n1)), (2, .int (nI f2)), (3, .int (nI l3)), (4, .int (nI q4)), (5, .int (bB (sb))), (6, .int x6j), (7, .int (nI (f2 + k))), (9, .int (nI (7 * (f2 + k) + j)))]) hx hb dX10_daysWith_100 hl (by decide) rfl (fun ls hl => ?_)
                      refine lv_iload hx hb dX10_daysWith_102 (lv_at hl 7 rfl) ?_
                      refine lv_iload hx hb dX10_daysWith_104 (lv_at hl 0 rfl) ?_
                      refine lv_iadd hx hb dX10_daysWith_106 ?_
                      refine lv_istore (lv' := [(6, .int (x6j + x8)), (8, .int x8), (0, .ref (ad 33 0)), (1, .int (nI n1)), (2, .int (nI f2)), (3, .int (nI l3)), (4, .int (nI q4)), (5, .int (bB (sb))), (7, .int (nI (f2 + k))), (9, .int (nI (7 * (f2 + k) + j)))]) hx hb dX10_daysWith_107 hl (by decide) rfl (fun ls hl => ?_)
                      refine lv_iinc (v := (nI ((7 * (f2 + k) + j) + 1))) (lv' := [(9, .int (nI ((7 * (f2 + k) + j) + 1))), (6, .int (x6j + x8)), (8, .int x8), (0, .ref (ad 33 0)), (1, .int (nI n1)), (2, .int (nI f2)), (3, .int (nI l3)), (4, .int (nI q4)), (5, .int (bB (sb))), (7, .int (nI (f2 + k)))]) hx hb dX10_daysWith_109 hl (k := 9) rfl (nI_1 _) (by decide) rfl (fun ls hl => ?_)
                      refine lv_goto (tgt := 49) hx hb dX10_daysWith_112 (by decide) ?_
                      exact ih49 (j + 1) (x6j + x8) x8 (by unfold mTop at *; omega) (by rw [h6j]; simp [mWk, mSame, hc_j, h8, nI_add, Nat.add_assoc, c_64, c_74, hc_j, c_83]) (by simp [mSame, hc_j, h8, c_64, c_74, hc_j, c_83]) (by unfold mTop at *; omega) ls (lv_sub hl [3, 4, 5, 6, 7, 8, 1, 9, 2, 0] (rfl))
                    · skip
                      have c_83 := bB_n0.mp c_83
                      refine lv_aload_n hx hb dX10_daysWith_86 rfl (lv_at hl 0 rfl) ?_
                      refine lv_iload_n hx hb dX10_daysWith_87 rfl (lv_at hl 1 rfl) ?_
                      refine lv_iload hx hb dX10_daysWith_88 (lv_at hl 9 rfl) ?_
                      refine lv_iload hx hb dX10_daysWith_90 (lv_at hl 4 rfl) ?_
                      refine x_read (x_runV (rest := []) E cbX10_manyAt tw_689 (kX10_manyAt l D ca ad v g nw nb nc nm (nI n1) (nI (7 * (f2 + k) + j)) (nI q4) (hO)) ⟨rfl, rfl, by decide, by decide⟩ (m_recv E hw) (fun _ _ _ _ h => h) (fun U hU _ => by rw [hU]; exact hw.1) rfl hl.1 rfl (Nat.le_of_ble_eq_true rfl) dX10_daysWith_92 ⟨by decide, by decide⟩) ?_
                      refine lv_goto (tgt := 100) hx hb dX10_daysWith_95 (by decide) ?_
                      refine lv_istore (lv' := [(8, .int (nI (mMany g nm (nI n1) (nI (7 * (f2 + k) + j)) (nI q4) nc))), (0, .ref (ad 33 0)), (1, .int (nI n1)), (2, .int (nI f2)), (3, .int (nI l3)), (4, .int (nI q4)), (5, .int (bB (sb))), (6, .int x6j), (7, .int (nI (f2 + k))), (9, .int (nI (7 * (f2 + k) + j)))]) hx hb dX10_daysWith_100 hl (by decide) rfl (fun ls hl => ?_)
                      refine lv_iload hx hb dX10_daysWith_102 (lv_at hl 7 rfl) ?_
                      refine lv_iload hx hb dX10_daysWith_104 (lv_at hl 0 rfl) ?_
                      refine lv_iadd hx hb dX10_daysWith_106 ?_
                      refine lv_istore (lv' := [(6, .int (x6j + nI (mMany g nm (nI n1) (nI (7 * (f2 + k) + j)) (nI q4) nc))), (8, .int (nI (mMany g nm (nI n1) (nI (7 * (f2 + k) + j)) (nI q4) nc))), (0, .ref (ad 33 0)), (1, .int (nI n1)), (2, .int (nI f2)), (3, .int (nI l3)), (4, .int (nI q4)), (5, .int (bB (sb))), (7, .int (nI (f2 + k))), (9, .int (nI (7 * (f2 + k) + j)))]) hx hb dX10_daysWith_107 hl (by decide) rfl (fun ls hl => ?_)
                      refine lv_iinc (v := (nI ((7 * (f2 + k) + j) + 1))) (lv' := [(9, .int (nI ((7 * (f2 + k) + j) + 1))), (6, .int (x6j + nI (mMany g nm (nI n1) (nI (7 * (f2 + k) + j)) (nI q4) nc))), (8, .int (nI (mMany g nm (nI n1) (nI (7 * (f2 + k) + j)) (nI q4) nc))), (0, .ref (ad 33 0)), (1, .int (nI n1)), (2, .int (nI f2)), (3, .int (nI l3)), (4, .int (nI q4)), (5, .int (bB (sb))), (7, .int (nI (f2 + k)))]) hx hb dX10_daysWith_109 hl (k := 9) rfl (nI_1 _) (by decide) rfl (fun ls hl => ?_)
                      refine lv_goto (tgt := 49) hx hb dX10_daysWith_112 (by decide) ?_
                      exact ih49 (j + 1) (x6j + nI (mMany g nm (nI n1) (nI (7 * (f2 + k) + j)) (nI q4) nc)) (nI (mMany g nm (nI n1) (nI (7 * (f2 + k) + j)) (nI q4) nc)) (by unfold mTop at *; omega) (by rw [h6j]; simp [mWk, mSame, hc_j, h8, nI_add, Nat.add_assoc, c_64, c_74, hc_j, c_83]) (by simp [mSame, hc_j, h8, c_64, c_74, hc_j, c_83]) (by unfold mTop at *; omega) ls (lv_sub hl [3, 4, 5, 6, 7, 8, 1, 9, 2, 0] (rfl))
            exact lp49 (mTop (f2 + k) q4 + 1) 0 x6 0 (Nat.zero_le _) (by rw [h6]; rfl) (rfl) (by omega) ls (lv_sub hl [2, 3, 4, 5, 6, 7, 8, 9, 1, 0] (rfl))
          · skip
            have hc_s := mt bB_inj.mpr c_33
            refine lv_goto (tgt := 115) hx hb dX10_daysWith_36 (by decide) ?_
            refine lv_iinc (v := (nI ((f2 + k) + 1))) (lv' := [(7, .int (nI ((f2 + k) + 1))), (0, .ref (ad 33 0)), (1, .int (nI n1)), (2, .int (nI f2)), (3, .int (nI l3)), (4, .int (nI q4)), (5, .int (bB (sb))), (6, .int x6)]) hx hb dX10_daysWith_115 hl (k := 7) rfl (nI_1 _) (by decide) rfl (fun ls hl => ?_)
            refine lv_goto (tgt := 6) hx hb dX10_daysWith_118 (by decide) ?_
            exact ih6 (k + 1) x6 (by omega) (by first | (rw [h6]; simp [mDw, hc_s]; done) | (rw [h6j, hgej]; simp [mDw, hc_s]; done)) (by omega) ls (lv_sub hl [1, 2, 3, 4, 5, 6, 7, 0] (rfl))
  exact lp6 (min l3 (q4 / 7) + 2) 0 0 (Nat.zero_le _) (rfl) (by omega) ls (lv_sub hl [2, 3, 4, 5, 6, 7, 1, 0] (rfl))
set_option maxHeartbeats 4000000 in
set_option maxRecDepth 100000 in
theorem kX10_areWeeks (l : Launch) (D : va_G) (ca : Nat → ClassId) (ad : Nat → Nat → Nat) (v : Nat → Int32) (g : Nat → Nat → Int32) (nw : Nat) (nb : Nat) (nc : Nat) (nm : Nat) (a1 : Int32) (a2 : Int32) (a3 : Int32) (a4 : Int32) (hO : mOK v nw nb nc nm) : Met l yX10_areWeeks (wz yX10_areWeeks cX10_areWeeks 5 (some .boolean)) (rmL 2 0 0) (va_Pc [.ref (ad 33 0), .int a1, .int a2, .int a3, .int a4] (fun U => mq D ca ad v g U.heap ∧ gK D ca U)) (QcRead (bB (mPayOK nw a1 a2 a3 a4))) 0 0 (fun _ => False) := by
  refine x_met (by decide) (Nat.le_of_ble_eq_true rfl) ?_
  intro p e s m below meth c E hr hlk hnm hq ls hl
  generalize hav : ([.ref (ad 33 0), .int a1, .int a2, .int a3, .int a4] : List Value).toArray = args at E ⊢
  have hx := E.1
  have hb := E.2.1
  have hown := E.2.2.2.1
  have hts := E.2.2.2.2.1
  have hw : mw D (wA mcnt ad s.heap.size) s.heap ca ad v g s.heap [] := wd.start hq
  generalize hQ : MQ below (QcRead (bB (mPayOK nw a1 a2 a3 a4))) args s 0 0 (fun _ => False) = Q
  have hl : lv_has ls 5 [(0, .ref (ad 33 0)), (1, .int a1), (2, .int a2), (3, .int a3), (4, .int a4)] := hl
  refine lv_iload_n hx hb dX10_areWeeks_0 rfl (lv_at hl 1 rfl) ?_
  refine lv_iconst (v := 1) hx hb dX10_areWeeks_1 (by decide) ?_
  refine lv_bipush (v := 12) hx hb dX10_areWeeks_2 (by decide) ?_
  refine x_read (x_runS (rest := []) E cbX10_in tw_647 (kX10_in l D ca a1 1 12 ) ⟨rfl, rfl, by decide, by decide⟩ (fun _ _ _ _ h => h) (fun _ _ _ => trivial) rfl hl.1 rfl (Nat.le_of_ble_eq_true rfl) dX10_areWeeks_4 ⟨by decide, by decide⟩) ?_
  refine lv_if_eq (tgt := 49) hx hb dX10_areWeeks_7 (by decide) (fun c_7 => ?_) (fun c_7 => ?_)
  · skip
    have c_7 := bB_0.mp c_7
    refine lv_iconst (v := 0) hx hb dX10_areWeeks_49 (by decide) ?_
    subst hQ
    exact x_zret E hr hlk (by decide) (by simp [bB, mPayOK, c_7]) dX10_areWeeks_50
  · skip
    have c_7 := bB_n0.mp c_7
    refine lv_iload_n hx hb dX10_areWeeks_10 rfl (lv_at hl 2 rfl) ?_
    refine lv_iconst (v := 0) hx hb dX10_areWeeks_11 (by decide) ?_
    refine lv_sipush (v := 300) hx hb dX10_areWeeks_12 (by decide) ?_
    refine x_read (x_runS (rest := []) E cbX10_in tw_647 (kX10_in l D ca a2 0 300 ) ⟨rfl, rfl, by decide, by decide⟩ (fun _ _ _ _ h => h) (fun _ _ _ => trivial) rfl hl.1 rfl (Nat.le_of_ble_eq_true rfl) dX10_areWeeks_15 ⟨by decide, by decide⟩) ?_
    refine lv_if_eq (tgt := 49) hx hb dX10_areWeeks_18 (by decide) (fun c_18 => ?_) (fun c_18 => ?_)
    · skip
      have c_18 := bB_0.mp c_18
      refine lv_iconst (v := 0) hx hb dX10_areWeeks_49 (by decide) ?_
      subst hQ
      exact x_zret E hr hlk (by decide) (by simp [bB, mPayOK, c_7, c_18]) dX10_areWeeks_50
    · skip
      have c_18 := bB_n0.mp c_18
      refine lv_iload_n hx hb dX10_areWeeks_21 rfl (lv_at hl 3 rfl) ?_
      refine lv_iload_n hx hb dX10_areWeeks_22 rfl (lv_at hl 2 rfl) ?_
      refine lv_sipush (v := 300) hx hb dX10_areWeeks_23 (by decide) ?_
      refine x_read (x_runS (rest := []) E cbX10_in tw_647 (kX10_in l D ca a3 a2 300 ) ⟨rfl, rfl, by decide, by decide⟩ (fun _ _ _ _ h => h) (fun _ _ _ => trivial) rfl hl.1 rfl (Nat.le_of_ble_eq_true rfl) dX10_areWeeks_26 ⟨by decide, by decide⟩) ?_
      refine lv_if_eq (tgt := 49) hx hb dX10_areWeeks_29 (by decide) (fun c_29 => ?_) (fun c_29 => ?_)
      · skip
        have c_29 := bB_0.mp c_29
        refine lv_iconst (v := 0) hx hb dX10_areWeeks_49 (by decide) ?_
        subst hQ
        exact x_zret E hr hlk (by decide) (by simp [bB, mPayOK, c_7, c_18, c_29]) dX10_areWeeks_50
      · skip
        have c_29 := bB_n0.mp c_29
        refine lv_iload hx hb dX10_areWeeks_32 (lv_at hl 4 rfl) ?_
        refine lv_iconst (v := 0) hx hb dX10_areWeeks_34 (by decide) ?_
        refine lv_aload_n hx hb dX10_areWeeks_35 rfl (lv_at hl 0 rfl) ?_
        refine m_geti (x := (nI nw)) E hw 0 (by decide) rfl tw_542 (hO.1) dX10_areWeeks_36 ?_
        refine x_read (x_runS (rest := []) E cbX10_in tw_647 (kX10_in l D ca a4 0 (nI nw) ) ⟨rfl, rfl, by decide, by decide⟩ (fun _ _ _ _ h => h) (fun _ _ _ => trivial) rfl hl.1 rfl (Nat.le_of_ble_eq_true rfl) dX10_areWeeks_39 ⟨by decide, by decide⟩) ?_
        refine lv_if_eq (tgt := 49) hx hb dX10_areWeeks_42 (by decide) (fun c_42 => ?_) (fun c_42 => ?_)
        · skip
          have c_42 := bB_0.mp c_42
          refine lv_iconst (v := 0) hx hb dX10_areWeeks_49 (by decide) ?_
          subst hQ
          exact x_zret E hr hlk (by decide) (by simp [bB, mPayOK, c_7, c_18, c_29, c_42]) dX10_areWeeks_50
        · skip
          have c_42 := bB_n0.mp c_42
          refine lv_iconst (v := 1) hx hb dX10_areWeeks_45 (by decide) ?_
          refine lv_goto (tgt := 50) hx hb dX10_areWeeks_46 (by decide) ?_
          subst hQ
          exact x_zret E hr hlk (by decide) (by simp [bB, mPayOK, c_7, c_18, c_29, c_42]) dX10_areWeeks_50
set_option maxHeartbeats 4000000 in
set_option maxRecDepth 100000 in
theorem kX10_pay (l : Launch) (D : va_G) (ca : Nat → ClassId) (ad : Nat → Nat → Nat) (v : Nat → Int32) (g : Nat → Nat → Int32) (nw : Nat) (nb : Nat) (nc : Nat) (nm : Nat) (a1 : Int32) (a2 : Int32) (a3 : Int32) (a4 : Int32) (hO : mOK v nw nb nc nm) : Met l yX10_pay (wz yX10_pay cX10_pay 5 (some .int)) (rmL 4 0 0) (va_Pc [.ref (ad 33 0), .int a1, .int a2, .int a3, .int a4] (fun U => mq D ca ad v g U.heap ∧ gK D ca U)) (QcRead (mPay g nw nc nm a1 a2 a3 a4)) 0 0 (fun _ => False) := by
  refine x_met (by decide) (Nat.le_of_ble_eq_true rfl) ?_
  intro p e s m below meth c E hr hlk hnm hq ls hl
  generalize hav : ([.ref (ad 33 0), .int a1, .int a2, .int a3, .int a4] : List Value).toArray = args at E ⊢
  have hx := E.1
  have hb := E.2.1
  have hown := E.2.2.2.1
  have hts := E.2.2.2.2.1
  have hw : mw D (wA mcnt ad s.heap.size) s.heap ca ad v g s.heap [] := wd.start hq
  generalize hQ : MQ below (QcRead (mPay g nw nc nm a1 a2 a3 a4)) args s 0 0 (fun _ => False) = Q
  have hl : lv_has ls 5 [(0, .ref (ad 33 0)), (1, .int a1), (2, .int a2), (3, .int a3), (4, .int a4)] := hl
  have hO5 := hO.2.2.2.2
  refine lv_aload_n hx hb dX10_pay_0 rfl (lv_at hl 0 rfl) ?_
  refine lv_iload_n hx hb dX10_pay_1 rfl (lv_at hl 1 rfl) ?_
  refine lv_iload_n hx hb dX10_pay_2 rfl (lv_at hl 2 rfl) ?_
  refine lv_iload_n hx hb dX10_pay_3 rfl (lv_at hl 3 rfl) ?_
  refine lv_iload hx hb dX10_pay_4 (lv_at hl 4 rfl) ?_
  refine x_read (x_runV (rest := []) E cbX10_areWeeks tw_729 (kX10_areWeeks l D ca ad v g nw nb nc nm a1 a2 a3 a4 (hO)) ⟨rfl, rfl, by decide, by decide⟩ (m_recv E hw) (fun _ _ _ _ h => h) (fun U hU _ => by rw [hU]; exact hw.1) rfl hl.1 rfl (Nat.le_of_ble_eq_true rfl) dX10_pay_6 ⟨by decide, by decide⟩) ?_
  refine lv_if_eq (tgt := 27) hx hb dX10_pay_9 (by decide) (fun c_9 => ?_) (fun c_9 => ?_)
  · skip
    have c_9 := bB_0.mp c_9
    refine lv_iconst (v := (-1)) hx hb dX10_pay_27 (by decide) ?_
    subst hQ
    exact x_iret E hr hlk (by first | (simp [mPay, c_9]; done) | simp [mPay, nI_clamp (n := n1) (by omega), nI_clamp (n := f2) (by omega), nI_clamp (n := l3) (by omega), nI_clamp (n := q4) (by omega), c_9]) dX10_pay_28
  · skip
    have c_9 := bB_n0.mp c_9
    obtain ⟨n1, f2, l3, q4, g1, g2, g3, g4, g5, rfl, rfl, rfl, rfl⟩ := mPayOK_nat hO5.1 c_9
    refine lv_iconst (v := 2) hx hb dX10_pay_12 (by decide) ?_
    refine lv_aload_n hx hb dX10_pay_13 rfl (lv_at hl 0 rfl) ?_
    refine lv_iload_n hx hb dX10_pay_14 rfl (lv_at hl 1 rfl) ?_
    refine lv_iload_n hx hb dX10_pay_15 rfl (lv_at hl 2 rfl) ?_
    refine lv_iload_n hx hb dX10_pay_16 rfl (lv_at hl 3 rfl) ?_
    refine lv_iload hx hb dX10_pay_17 (lv_at hl 4 rfl) ?_
    refine lv_iconst (v := 1) hx hb dX10_pay_19 (by decide) ?_
    refine x_read (x_runV (rest := [.int 2]) E cbX10_daysWith tw_733 (kX10_daysWith l D ca ad v g nw nb nc nm n1 f2 l3 q4 true (hO) (by omega) (by omega) (by omega) (by omega)) ⟨rfl, rfl, by decide, by decide⟩ (m_recv E hw) (fun _ _ _ _ h => h) (fun U hU _ => by rw [hU]; exact hw.1) rfl hl.1 rfl (Nat.le_of_ble_eq_true rfl) dX10_pay_20 ⟨by decide, by decide⟩) ?_
    refine lv_imul hx hb dX10_pay_23 ?_
    refine lv_goto (tgt := 28) hx hb dX10_pay_24 (by decide) ?_
    subst hQ
    exact x_iret E hr hlk (by first | (simp [mPay, c_9]; done) | simp [mPay, nI_clamp (n := n1) (by omega), nI_clamp (n := f2) (by omega), nI_clamp (n := l3) (by omega), nI_clamp (n := q4) (by omega), c_9]) dX10_pay_28
set_option maxHeartbeats 4000000 in
set_option maxRecDepth 100000 in
theorem kX10_gap (l : Launch) (D : va_G) (ca : Nat → ClassId) (ad : Nat → Nat → Nat) (v : Nat → Int32) (g : Nat → Nat → Int32) (nw : Nat) (nb : Nat) (nc : Nat) (nm : Nat) (a1 : Int32) (a2 : Int32) (a3 : Int32) (a4 : Int32) (hO : mOK v nw nb nc nm) : Met l yX10_gap (wz yX10_gap cX10_gap 5 (some .int)) (rmL 4 0 0) (va_Pc [.ref (ad 33 0), .int a1, .int a2, .int a3, .int a4] (fun U => mq D ca ad v g U.heap ∧ gK D ca U)) (QcRead (mGap g nw nc nm a1 a2 a3 a4)) 0 0 (fun _ => False) := by
  refine x_met (by decide) (Nat.le_of_ble_eq_true rfl) ?_
  intro p e s m below meth c E hr hlk hnm hq ls hl
  generalize hav : ([.ref (ad 33 0), .int a1, .int a2, .int a3, .int a4] : List Value).toArray = args at E ⊢
  have hx := E.1
  have hb := E.2.1
  have hown := E.2.2.2.1
  have hts := E.2.2.2.2.1
  have hw : mw D (wA mcnt ad s.heap.size) s.heap ca ad v g s.heap [] := wd.start hq
  generalize hQ : MQ below (QcRead (mGap g nw nc nm a1 a2 a3 a4)) args s 0 0 (fun _ => False) = Q
  have hl : lv_has ls 5 [(0, .ref (ad 33 0)), (1, .int a1), (2, .int a2), (3, .int a3), (4, .int a4)] := hl
  have hO5 := hO.2.2.2.2
  refine lv_aload_n hx hb dX10_gap_0 rfl (lv_at hl 0 rfl) ?_
  refine lv_iload_n hx hb dX10_gap_1 rfl (lv_at hl 1 rfl) ?_
  refine lv_iload_n hx hb dX10_gap_2 rfl (lv_at hl 2 rfl) ?_
  refine lv_iload_n hx hb dX10_gap_3 rfl (lv_at hl 3 rfl) ?_
  refine lv_iload hx hb dX10_gap_4 (lv_at hl 4 rfl) ?_
  refine x_read (x_runV (rest := []) E cbX10_areWeeks tw_729 (kX10_areWeeks l D ca ad v g nw nb nc nm a1 a2 a3 a4 (hO)) ⟨rfl, rfl, by decide, by decide⟩ (m_recv E hw) (fun _ _ _ _ h => h) (fun U hU _ => by rw [hU]; exact hw.1) rfl hl.1 rfl (Nat.le_of_ble_eq_true rfl) dX10_gap_6 ⟨by decide, by decide⟩) ?_
  refine lv_if_eq (tgt := 25) hx hb dX10_gap_9 (by decide) (fun c_9 => ?_) (fun c_9 => ?_)
  · skip
    have c_9 := bB_0.mp c_9
    refine lv_iconst (v := (-1)) hx hb dX10_gap_25 (by decide) ?_
    subst hQ
    exact x_iret E hr hlk (by first | (simp [mGap, c_9]; done) | simp [mGap, nI_clamp (n := n1) (by omega), nI_clamp (n := f2) (by omega), nI_clamp (n := l3) (by omega), nI_clamp (n := q4) (by omega), c_9]) dX10_gap_26
  · skip
    have c_9 := bB_n0.mp c_9
    obtain ⟨n1, f2, l3, q4, g1, g2, g3, g4, g5, rfl, rfl, rfl, rfl⟩ := mPayOK_nat hO5.1 c_9
    refine lv_aload_n hx hb dX10_gap_12 rfl (lv_at hl 0 rfl) ?_
    refine lv_iload_n hx hb dX10_gap_13 rfl (lv_at hl 1 rfl) ?_
    refine lv_iload_n hx hb dX10_gap_14 rfl (lv_at hl 2 rfl) ?_
    refine lv_iload_n hx hb dX10_gap_15 rfl (lv_at hl 3 rfl) ?_
    refine lv_iload hx hb dX10_gap_16 (lv_at hl 4 rfl) ?_
    refine lv_iconst (v := 0) hx hb dX10_gap_18 (by decide) ?_
    refine x_read (x_runV (rest := []) E cbX10_daysWith tw_733 (kX10_daysWith l D ca ad v g nw nb nc nm n1 f2 l3 q4 false (hO) (by omega) (by omega) (by omega) (by omega)) ⟨rfl, rfl, by decide, by decide⟩ (m_recv E hw) (fun _ _ _ _ h => h) (fun U hU _ => by rw [hU]; exact hw.1) rfl hl.1 rfl (Nat.le_of_ble_eq_true rfl) dX10_gap_19 ⟨by decide, by decide⟩) ?_
    refine lv_goto (tgt := 26) hx hb dX10_gap_22 (by decide) ?_
    subst hQ
    exact x_iret E hr hlk (by first | (simp [mGap, c_9]; done) | simp [mGap, nI_clamp (n := n1) (by omega), nI_clamp (n := f2) (by omega), nI_clamp (n := l3) (by omega), nI_clamp (n := q4) (by omega), c_9]) dX10_gap_26
set_option maxHeartbeats 4000000 in
set_option maxRecDepth 100000 in
theorem kX10_third (l : Launch) (D : va_G) (ca : Nat → ClassId) (a1 : Int32) (a2 : Int32)  : Met l yX10_third (wz yX10_third cX10_third 2 (some .int)) (rmL 1 0 0) (va_Pc [.int a1, .int a2] (fun U => True ∧ gK D ca U)) (QcRead (mTh a1 a2)) 0 0 (fun _ => False) := by
  refine x_met (by decide) (Nat.le_of_ble_eq_true rfl) ?_
  intro p e s m below meth c E hr hlk hnm hq ls hl
  generalize hav : ([.int a1, .int a2] : List Value).toArray = args at E ⊢
  have hx := E.1
  have hb := E.2.1
  have hown := E.2.2.2.1
  have hts := E.2.2.2.2.1
  generalize hQ : MQ below (QcRead (mTh a1 a2)) args s 0 0 (fun _ => False) = Q
  have hl : lv_has ls 2 [(0, .int a1), (1, .int a2)] := hl
  refine lv_iload_n hx hb dX10_third_0 rfl (lv_at hl 0 rfl) ?_
  refine lv_iconst (v := 3) hx hb dX10_third_1 (by decide) ?_
  refine lv_iload_n hx hb dX10_third_2 rfl (lv_at hl 1 rfl) ?_
  refine lv_imul hx hb dX10_third_3 ?_
  refine lv_ishr hx hb dX10_third_4 ?_
  refine lv_bipush (v := 7) hx hb dX10_third_5 (by decide) ?_
  refine lv_iand hx hb dX10_third_7 ?_
  subst hQ
  exact x_iret E hr hlk (rfl) dX10_third_8
set_option maxHeartbeats 4000000 in
set_option maxRecDepth 100000 in
theorem kX10_offBy (l : Launch) (D : va_G) (ca : Nat → ClassId) (ad : Nat → Nat → Nat) (v : Nat → Int32) (g : Nat → Nat → Int32) (c1 : Nat) (a2 : Int32) (a3 : Int32) (tb : Bool) (hc1 : c1 < 60) : Met l yX10_offBy (wz yX10_offBy cX10_offBy 9 (some .int)) (rmL 2 0 0) (va_Pc [.ref (ad 33 0), .int (nI c1), .int a2, .int a3, .int (bB (tb))] (fun U => mq D ca ad v g U.heap ∧ gK D ca U)) (QcRead (nI (mOffB g c1 a2 a3 tb 8))) 0 0 (fun _ => False) := by
  refine x_met (by decide) (Nat.le_of_ble_eq_true rfl) ?_
  intro p e s m below meth c E hr hlk hnm hq ls hl
  generalize hav : ([.ref (ad 33 0), .int (nI c1), .int a2, .int a3, .int (bB (tb))] : List Value).toArray = args at E ⊢
  have hx := E.1
  have hb := E.2.1
  have hown := E.2.2.2.1
  have hts := E.2.2.2.2.1
  have hw : mw D (wA mcnt ad s.heap.size) s.heap ca ad v g s.heap [] := wd.start hq
  generalize hQ : MQ below (QcRead (nI (mOffB g c1 a2 a3 tb 8))) args s 0 0 (fun _ => False) = Q
  have hl : lv_has ls 9 [(0, .ref (ad 33 0)), (1, .int (nI c1)), (2, .int a2), (3, .int a3), (4, .int (bB (tb)))] := hl
  refine lv_iconst (v := 0) hx hb dX10_offBy_0 (by decide) ?_
  refine lv_istore (lv' := [(5, .int 0), (0, .ref (ad 33 0)), (1, .int (nI c1)), (2, .int a2), (3, .int a3), (4, .int (bB (tb)))]) hx hb dX10_offBy_1 hl (by decide) rfl (fun ls hl => ?_)
  refine lv_iconst (v := 0) hx hb dX10_offBy_3 (by decide) ?_
  refine lv_istore (lv' := [(6, .int 0), (5, .int 0), (0, .ref (ad 33 0)), (1, .int (nI c1)), (2, .int a2), (3, .int a3), (4, .int (bB (tb)))]) hx hb dX10_offBy_4 hl (by decide) rfl (fun ls hl => ?_)
  have lp6 : ∀ (n : Nat) (k : Nat) (x5 : Int32), (k ≤ 8) → (x5 = nI (mOffB g c1 a2 a3 tb k)) → (8 - k < n) → ∀ ls : Array Slot, lv_has ls 9 [(0, .ref (ad 33 0)), (1, .int (nI c1)), (2, .int a2), (3, .int a3), (4, .int (bB (tb))), (5, .int x5), (6, .int (nI k))] → W p l e (rmL 2 0 0) s m args below meth c s.heap [] 0 0 Q (F0 m 6 ls []) := by
    intro n
    induction n with
    | zero =>
      intro k x5 hi h5 hfu ls hl
      exact absurd hfu (by omega)
    | succ n ih6 =>
      intro k x5 hi h5 hfu ls hl
      refine lv_iload hx hb dX10_offBy_6 (lv_at hl 6 rfl) ?_
      refine lv_bipush (v := 8) hx hb dX10_offBy_8 (by decide) ?_
      refine lv_icmp_ge (tgt := 101) hx hb dX10_offBy_10 (by decide) (fun c_10 => ?_) (fun c_10 => ?_)
      · skip
        obtain rfl := x_le7 hi c_10
        refine lv_iload hx hb dX10_offBy_101 (lv_at hl 5 rfl) ?_
        subst hQ
        exact x_iret E hr hlk (h5) dX10_offBy_103
      · skip
        have hlt := x_lt8 hi c_10
        refine lv_iload hx hb dX10_offBy_13 (lv_at hl 4 rfl) ?_
        refine lv_if_eq (tgt := 26) hx hb dX10_offBy_15 (by decide) (fun c_15 => ?_) (fun c_15 => ?_)
        · skip
          have c_15 := bB_0.mp c_15
          refine lv_iload hx hb dX10_offBy_26 (lv_at hl 6 rfl) ?_
          refine lv_istore (lv' := [(7, .int (nI k)), (0, .ref (ad 33 0)), (1, .int (nI c1)), (2, .int a2), (3, .int a3), (4, .int (bB (tb))), (5, .int x5), (6, .int (nI k))]) hx hb dX10_offBy_28 hl (by decide) rfl (fun ls hl => ?_)
          refine lv_aload_n hx hb dX10_offBy_30 rfl (lv_at hl 1 rfl) ?_
          refine m_getr E hw 12 (by decide) rfl tw_554 dX10_offBy_31 ?_
          refine lv_iload_n hx hb dX10_offBy_34 rfl (lv_at hl 2 rfl) ?_
          refine m_ild E hw 12 ⟨by decide, rfl, rfl⟩ c1 (rfl) (hc1) dX10_offBy_35 ?_
          refine lv_iload hx hb dX10_offBy_36 (lv_at hl 7 rfl) ?_
          refine x_read (x_runS (rest := []) E cbX10_third tw_758 (kX10_third l D ca (g 12 c1) (nI k) ) ⟨rfl, rfl, by decide, by decide⟩ (fun _ _ _ _ h => h) (fun _ _ _ => trivial) rfl hl.1 rfl (Nat.le_of_ble_eq_true rfl) dX10_offBy_38 ⟨by decide, by decide⟩) ?_
          refine lv_iload_n hx hb dX10_offBy_41 rfl (lv_at hl 3 rfl) ?_
          refine lv_iload hx hb dX10_offBy_42 (lv_at hl 0 rfl) ?_
          refine x_read (x_runS (rest := [.int (mTh (g 12 c1) (nI k))]) E cbX10_third tw_758 (kX10_third l D ca a2 (nI k) ) ⟨rfl, rfl, by decide, by decide⟩ (fun _ _ _ _ h => h) (fun _ _ _ => trivial) rfl hl.1 rfl (Nat.le_of_ble_eq_true rfl) dX10_offBy_44 ⟨by decide, by decide⟩) ?_
          refine lv_iadd hx hb dX10_offBy_47 ?_
          refine lv_bipush (v := 7) hx hb dX10_offBy_48 (by decide) ?_
          refine lv_icmp_ne (tgt := 77) hx hb dX10_offBy_50 (by decide) (fun c_50 => ?_) (fun c_50 => ?_)
          · skip
            refine lv_iconst (v := 0) hx hb dX10_offBy_77 (by decide) ?_
            refine lv_istore (lv' := [(8, .int 0), (7, .int (nI k)), (0, .ref (ad 33 0)), (1, .int (nI c1)), (2, .int a2), (3, .int a3), (4, .int (bB (tb))), (5, .int x5), (6, .int (nI k))]) hx hb dX10_offBy_78 hl (by decide) rfl (fun ls hl => ?_)
            refine lv_iload hx hb dX10_offBy_80 (lv_at hl 7 rfl) ?_
            refine lv_iload hx hb dX10_offBy_82 (lv_at hl 0 rfl) ?_
            refine lv_if_eq (tgt := 91) hx hb dX10_offBy_84 (by decide) (fun c_84 => ?_) (fun c_84 => ?_)
            · skip
              refine lv_iconst (v := 1) hx hb dX10_offBy_91 (by decide) ?_
              refine lv_iadd hx hb dX10_offBy_92 ?_
              refine lv_istore (lv' := [(5, .int (x5 + 1)), (8, .int 0), (7, .int (nI k)), (0, .ref (ad 33 0)), (1, .int (nI c1)), (2, .int a2), (3, .int a3), (4, .int (bB (tb))), (6, .int (nI k))]) hx hb dX10_offBy_93 hl (by decide) rfl (fun ls hl => ?_)
              refine lv_iinc (v := (nI (k + 1))) (lv' := [(6, .int (nI (k + 1))), (5, .int (x5 + 1)), (8, .int 0), (7, .int (nI k)), (0, .ref (ad 33 0)), (1, .int (nI c1)), (2, .int a2), (3, .int a3), (4, .int (bB (tb)))]) hx hb dX10_offBy_95 hl (k := 8) rfl (nI_1 _) (by decide) rfl (fun ls hl => ?_)
              refine lv_goto (tgt := 6) hx hb dX10_offBy_98 (by decide) ?_
              exact ih6 (k + 1) (x5 + 1) (hlt) (by rw [h5]; simp [mOffB, mGood, nI_1, c_10, c_15, c_50]) (by omega) ls (lv_sub hl [4, 5, 6, 7, 8, 1, 0] (rfl))
            · skip
              exact absurd c_84 (by decide)
          · skip
            refine lv_aload_n hx hb dX10_offBy_53 rfl (lv_at hl 1 rfl) ?_
            refine m_getr E hw 13 (by decide) rfl tw_555 dX10_offBy_54 ?_
            refine lv_iload_n hx hb dX10_offBy_57 rfl (lv_at hl 2 rfl) ?_
            refine m_ild E hw 13 ⟨by decide, rfl, rfl⟩ c1 (rfl) (hc1) dX10_offBy_58 ?_
            refine lv_iload hx hb dX10_offBy_59 (lv_at hl 7 rfl) ?_
            refine x_read (x_runS (rest := []) E cbX10_third tw_758 (kX10_third l D ca (g 13 c1) (nI k) ) ⟨rfl, rfl, by decide, by decide⟩ (fun _ _ _ _ h => h) (fun _ _ _ => trivial) rfl hl.1 rfl (Nat.le_of_ble_eq_true rfl) dX10_offBy_61 ⟨by decide, by decide⟩) ?_
            refine lv_iload_n hx hb dX10_offBy_64 rfl (lv_at hl 4 rfl) ?_
            refine lv_iload hx hb dX10_offBy_65 (lv_at hl 0 rfl) ?_
            refine x_read (x_runS (rest := [.int (mTh (g 13 c1) (nI k))]) E cbX10_third tw_758 (kX10_third l D ca a3 (nI k) ) ⟨rfl, rfl, by decide, by decide⟩ (fun _ _ _ _ h => h) (fun _ _ _ => trivial) rfl hl.1 rfl (Nat.le_of_ble_eq_true rfl) dX10_offBy_67 ⟨by decide, by decide⟩) ?_
            refine lv_icmp_ne (tgt := 77) hx hb dX10_offBy_70 (by decide) (fun c_70 => ?_) (fun c_70 => ?_)
            · skip
              refine lv_iconst (v := 0) hx hb dX10_offBy_77 (by decide) ?_
              refine lv_istore (lv' := [(8, .int 0), (7, .int (nI k)), (0, .ref (ad 33 0)), (1, .int (nI c1)), (2, .int a2), (3, .int a3), (4, .int (bB (tb))), (5, .int x5), (6, .int (nI k))]) hx hb dX10_offBy_78 hl (by decide) rfl (fun ls hl => ?_)
              refine lv_iload hx hb dX10_offBy_80 (lv_at hl 7 rfl) ?_
              refine lv_iload hx hb dX10_offBy_82 (lv_at hl 0 rfl) ?_
              refine lv_if_eq (tgt := 91) hx hb dX10_offBy_84 (by decide) (fun c_84 => ?_) (fun c_84 => ?_)
              · skip
                refine lv_iconst (v := 1) hx hb dX10_offBy_91 (by decide) ?_
                refine lv_iadd hx hb dX10_offBy_92 ?_
                refine lv_istore (lv' := [(5, .int (x5 + 1)), (8, .int 0), (7, .int (nI k)), (0, .ref (ad 33 0)), (1, .int (nI c1)), (2, .int a2), (3, .int a3), (4, .int (bB (tb))), (6, .int (nI k))]) hx hb dX10_offBy_93 hl (by decide) rfl (fun ls hl => ?_)
                refine lv_iinc (v := (nI (k + 1))) (lv' := [(6, .int (nI (k + 1))), (5, .int (x5 + 1)), (8, .int 0), (7, .int (nI k)), (0, .ref (ad 33 0)), (1, .int (nI c1)), (2, .int a2), (3, .int a3), (4, .int (bB (tb)))]) hx hb dX10_offBy_95 hl (k := 8) rfl (nI_1 _) (by decide) rfl (fun ls hl => ?_)
                refine lv_goto (tgt := 6) hx hb dX10_offBy_98 (by decide) ?_
                exact ih6 (k + 1) (x5 + 1) (hlt) (by rw [h5]; simp [mOffB, mGood, nI_1, c_10, c_15, c_50, c_70]) (by omega) ls (lv_sub hl [4, 5, 6, 7, 8, 1, 0] (rfl))
              · skip
                exact absurd c_84 (by decide)
            · skip
              refine lv_iconst (v := 1) hx hb dX10_offBy_73 (by decide) ?_
              refine lv_goto (tgt := 78) hx hb dX10_offBy_74 (by decide) ?_
              refine lv_istore (lv' := [(8, .int 1), (7, .int (nI k)), (0, .ref (ad 33 0)), (1, .int (nI c1)), (2, .int a2), (3, .int a3), (4, .int (bB (tb))), (5, .int x5), (6, .int (nI k))]) hx hb dX10_offBy_78 hl (by decide) rfl (fun ls hl => ?_)
              refine lv_iload hx hb dX10_offBy_80 (lv_at hl 7 rfl) ?_
              refine lv_iload hx hb dX10_offBy_82 (lv_at hl 0 rfl) ?_
              refine lv_if_eq (tgt := 91) hx hb dX10_offBy_84 (by decide) (fun c_84 => ?_) (fun c_84 => ?_)
              · skip
                exact absurd c_84 (by decide)
              · skip
                refine lv_iconst (v := 0) hx hb dX10_offBy_87 (by decide) ?_
                refine lv_goto (tgt := 92) hx hb dX10_offBy_88 (by decide) ?_
                refine lv_iadd hx hb dX10_offBy_92 ?_
                refine lv_istore (lv' := [(5, .int (x5 + 0)), (8, .int 1), (7, .int (nI k)), (0, .ref (ad 33 0)), (1, .int (nI c1)), (2, .int a2), (3, .int a3), (4, .int (bB (tb))), (6, .int (nI k))]) hx hb dX10_offBy_93 hl (by decide) rfl (fun ls hl => ?_)
                refine lv_iinc (v := (nI (k + 1))) (lv' := [(6, .int (nI (k + 1))), (5, .int (x5 + 0)), (8, .int 1), (7, .int (nI k)), (0, .ref (ad 33 0)), (1, .int (nI c1)), (2, .int a2), (3, .int a3), (4, .int (bB (tb)))]) hx hb dX10_offBy_95 hl (k := 8) rfl (nI_1 _) (by decide) rfl (fun ls hl => ?_)
                refine lv_goto (tgt := 6) hx hb dX10_offBy_98 (by decide) ?_
                exact ih6 (k + 1) (x5 + 0) (hlt) (by rw [h5]; simp [mOffB, mGood, nI_1, c_10, c_15, c_50, c_70]) (by omega) ls (lv_sub hl [4, 5, 6, 7, 8, 1, 0] (rfl))
        · skip
          have c_15 := bB_n0.mp c_15
          refine lv_bipush (v := 7) hx hb dX10_offBy_18 (by decide) ?_
          refine lv_iload hx hb dX10_offBy_20 (lv_at hl 6 rfl) ?_
          refine lv_isub hx hb dX10_offBy_22 ?_
          refine x_top (x := (7 - nI k)) (y := (nI (7 - k))) (x_sub7 hlt) ?_
          refine lv_goto (tgt := 28) hx hb dX10_offBy_23 (by decide) ?_
          refine lv_istore (lv' := [(7, .int (nI (7 - k))), (0, .ref (ad 33 0)), (1, .int (nI c1)), (2, .int a2), (3, .int a3), (4, .int (bB (tb))), (5, .int x5), (6, .int (nI k))]) hx hb dX10_offBy_28 hl (by decide) rfl (fun ls hl => ?_)
          refine lv_aload_n hx hb dX10_offBy_30 rfl (lv_at hl 1 rfl) ?_
          refine m_getr E hw 12 (by decide) rfl tw_554 dX10_offBy_31 ?_
          refine lv_iload_n hx hb dX10_offBy_34 rfl (lv_at hl 2 rfl) ?_
          refine m_ild E hw 12 ⟨by decide, rfl, rfl⟩ c1 (rfl) (hc1) dX10_offBy_35 ?_
          refine lv_iload hx hb dX10_offBy_36 (lv_at hl 7 rfl) ?_
          refine x_read (x_runS (rest := []) E cbX10_third tw_758 (kX10_third l D ca (g 12 c1) (nI k) ) ⟨rfl, rfl, by decide, by decide⟩ (fun _ _ _ _ h => h) (fun _ _ _ => trivial) rfl hl.1 rfl (Nat.le_of_ble_eq_true rfl) dX10_offBy_38 ⟨by decide, by decide⟩) ?_
          refine lv_iload_n hx hb dX10_offBy_41 rfl (lv_at hl 3 rfl) ?_
          refine lv_iload hx hb dX10_offBy_42 (lv_at hl 0 rfl) ?_
          refine x_read (x_runS (rest := [.int (mTh (g 12 c1) (nI k))]) E cbX10_third tw_758 (kX10_third l D ca a2 (nI (7 - k)) ) ⟨rfl, rfl, by decide, by decide⟩ (fun _ _ _ _ h => h) (fun _ _ _ => trivial) rfl hl.1 rfl (Nat.le_of_ble_eq_true rfl) dX10_offBy_44 ⟨by decide, by decide⟩) ?_
          refine lv_iadd hx hb dX10_offBy_47 ?_
          refine lv_bipush (v := 7) hx hb dX10_offBy_48 (by decide) ?_
          refine lv_icmp_ne (tgt := 77) hx hb dX10_offBy_50 (by decide) (fun c_50 => ?_) (fun c_50 => ?_)
          · skip
            refine lv_iconst (v := 0) hx hb dX10_offBy_77 (by decide) ?_
            refine lv_istore (lv' := [(8, .int 0), (7, .int (nI (7 - k))), (0, .ref (ad 33 0)), (1, .int (nI c1)), (2, .int a2), (3, .int a3), (4, .int (bB (tb))), (5, .int x5), (6, .int (nI k))]) hx hb dX10_offBy_78 hl (by decide) rfl (fun ls hl => ?_)
            refine lv_iload hx hb dX10_offBy_80 (lv_at hl 7 rfl) ?_
            refine lv_iload hx hb dX10_offBy_82 (lv_at hl 0 rfl) ?_
            refine lv_if_eq (tgt := 91) hx hb dX10_offBy_84 (by decide) (fun c_84 => ?_) (fun c_84 => ?_)
            · skip
              refine lv_iconst (v := 1) hx hb dX10_offBy_91 (by decide) ?_
              refine lv_iadd hx hb dX10_offBy_92 ?_
              refine lv_istore (lv' := [(5, .int (x5 + 1)), (8, .int 0), (7, .int (nI (7 - k))), (0, .ref (ad 33 0)), (1, .int (nI c1)), (2, .int a2), (3, .int a3), (4, .int (bB (tb))), (6, .int (nI k))]) hx hb dX10_offBy_93 hl (by decide) rfl (fun ls hl => ?_)
              refine lv_iinc (v := (nI (k + 1))) (lv' := [(6, .int (nI (k + 1))), (5, .int (x5 + 1)), (8, .int 0), (7, .int (nI (7 - k))), (0, .ref (ad 33 0)), (1, .int (nI c1)), (2, .int a2), (3, .int a3), (4, .int (bB (tb)))]) hx hb dX10_offBy_95 hl (k := 8) rfl (nI_1 _) (by decide) rfl (fun ls hl => ?_)
              refine lv_goto (tgt := 6) hx hb dX10_offBy_98 (by decide) ?_
              exact ih6 (k + 1) (x5 + 1) (hlt) (by rw [h5]; simp [mOffB, mGood, nI_1, c_10, c_15, c_50]) (by omega) ls (lv_sub hl [4, 5, 6, 7, 8, 1, 0] (rfl))
            · skip
              exact absurd c_84 (by decide)
          · skip
            refine lv_aload_n hx hb dX10_offBy_53 rfl (lv_at hl 1 rfl) ?_
            refine m_getr E hw 13 (by decide) rfl tw_555 dX10_offBy_54 ?_
            refine lv_iload_n hx hb dX10_offBy_57 rfl (lv_at hl 2 rfl) ?_
            refine m_ild E hw 13 ⟨by decide, rfl, rfl⟩ c1 (rfl) (hc1) dX10_offBy_58 ?_
            refine lv_iload hx hb dX10_offBy_59 (lv_at hl 7 rfl) ?_
            refine x_read (x_runS (rest := []) E cbX10_third tw_758 (kX10_third l D ca (g 13 c1) (nI k) ) ⟨rfl, rfl, by decide, by decide⟩ (fun _ _ _ _ h => h) (fun _ _ _ => trivial) rfl hl.1 rfl (Nat.le_of_ble_eq_true rfl) dX10_offBy_61 ⟨by decide, by decide⟩) ?_
            refine lv_iload_n hx hb dX10_offBy_64 rfl (lv_at hl 4 rfl) ?_
            refine lv_iload hx hb dX10_offBy_65 (lv_at hl 0 rfl) ?_
            refine x_read (x_runS (rest := [.int (mTh (g 13 c1) (nI k))]) E cbX10_third tw_758 (kX10_third l D ca a3 (nI (7 - k)) ) ⟨rfl, rfl, by decide, by decide⟩ (fun _ _ _ _ h => h) (fun _ _ _ => trivial) rfl hl.1 rfl (Nat.le_of_ble_eq_true rfl) dX10_offBy_67 ⟨by decide, by decide⟩) ?_
            refine lv_icmp_ne (tgt := 77) hx hb dX10_offBy_70 (by decide) (fun c_70 => ?_) (fun c_70 => ?_)
            · skip
              refine lv_iconst (v := 0) hx hb dX10_offBy_77 (by decide) ?_
              refine lv_istore (lv' := [(8, .int 0), (7, .int (nI (7 - k))), (0, .ref (ad 33 0)), (1, .int (nI c1)), (2, .int a2), (3, .int a3), (4, .int (bB (tb))), (5, .int x5), (6, .int (nI k))]) hx hb dX10_offBy_78 hl (by decide) rfl (fun ls hl => ?_)
              refine lv_iload hx hb dX10_offBy_80 (lv_at hl 7 rfl) ?_
              refine lv_iload hx hb dX10_offBy_82 (lv_at hl 0 rfl) ?_
              refine lv_if_eq (tgt := 91) hx hb dX10_offBy_84 (by decide) (fun c_84 => ?_) (fun c_84 => ?_)
              · skip
                refine lv_iconst (v := 1) hx hb dX10_offBy_91 (by decide) ?_
                refine lv_iadd hx hb dX10_offBy_92 ?_
                refine lv_istore (lv' := [(5, .int (x5 + 1)), (8, .int 0), (7, .int (nI (7 - k))), (0, .ref (ad 33 0)), (1, .int (nI c1)), (2, .int a2), (3, .int a3), (4, .int (bB (tb))), (6, .int (nI k))]) hx hb dX10_offBy_93 hl (by decide) rfl (fun ls hl => ?_)
                refine lv_iinc (v := (nI (k + 1))) (lv' := [(6, .int (nI (k + 1))), (5, .int (x5 + 1)), (8, .int 0), (7, .int (nI (7 - k))), (0, .ref (ad 33 0)), (1, .int (nI c1)), (2, .int a2), (3, .int a3), (4, .int (bB (tb)))]) hx hb dX10_offBy_95 hl (k := 8) rfl (nI_1 _) (by decide) rfl (fun ls hl => ?_)
                refine lv_goto (tgt := 6) hx hb dX10_offBy_98 (by decide) ?_
                exact ih6 (k + 1) (x5 + 1) (hlt) (by rw [h5]; simp [mOffB, mGood, nI_1, c_10, c_15, c_50, c_70]) (by omega) ls (lv_sub hl [4, 5, 6, 7, 8, 1, 0] (rfl))
              · skip
                exact absurd c_84 (by decide)
            · skip
              refine lv_iconst (v := 1) hx hb dX10_offBy_73 (by decide) ?_
              refine lv_goto (tgt := 78) hx hb dX10_offBy_74 (by decide) ?_
              refine lv_istore (lv' := [(8, .int 1), (7, .int (nI (7 - k))), (0, .ref (ad 33 0)), (1, .int (nI c1)), (2, .int a2), (3, .int a3), (4, .int (bB (tb))), (5, .int x5), (6, .int (nI k))]) hx hb dX10_offBy_78 hl (by decide) rfl (fun ls hl => ?_)
              refine lv_iload hx hb dX10_offBy_80 (lv_at hl 7 rfl) ?_
              refine lv_iload hx hb dX10_offBy_82 (lv_at hl 0 rfl) ?_
              refine lv_if_eq (tgt := 91) hx hb dX10_offBy_84 (by decide) (fun c_84 => ?_) (fun c_84 => ?_)
              · skip
                exact absurd c_84 (by decide)
              · skip
                refine lv_iconst (v := 0) hx hb dX10_offBy_87 (by decide) ?_
                refine lv_goto (tgt := 92) hx hb dX10_offBy_88 (by decide) ?_
                refine lv_iadd hx hb dX10_offBy_92 ?_
                refine lv_istore (lv' := [(5, .int (x5 + 0)), (8, .int 1), (7, .int (nI (7 - k))), (0, .ref (ad 33 0)), (1, .int (nI c1)), (2, .int a2), (3, .int a3), (4, .int (bB (tb))), (6, .int (nI k))]) hx hb dX10_offBy_93 hl (by decide) rfl (fun ls hl => ?_)
                refine lv_iinc (v := (nI (k + 1))) (lv' := [(6, .int (nI (k + 1))), (5, .int (x5 + 0)), (8, .int 1), (7, .int (nI (7 - k))), (0, .ref (ad 33 0)), (1, .int (nI c1)), (2, .int a2), (3, .int a3), (4, .int (bB (tb)))]) hx hb dX10_offBy_95 hl (k := 8) rfl (nI_1 _) (by decide) rfl (fun ls hl => ?_)
                refine lv_goto (tgt := 6) hx hb dX10_offBy_98 (by decide) ?_
                exact ih6 (k + 1) (x5 + 0) (hlt) (by rw [h5]; simp [mOffB, mGood, nI_1, c_10, c_15, c_50, c_70]) (by omega) ls (lv_sub hl [4, 5, 6, 7, 8, 1, 0] (rfl))
  exact lp6 9 0 0 (by omega) (rfl) (by omega) ls (lv_sub hl [2, 3, 4, 5, 6, 1, 0] (rfl))
set_option maxHeartbeats 4000000 in
set_option maxRecDepth 100000 in
theorem kX10_offOf (l : Launch) (D : va_G) (ca : Nat → ClassId) (ad : Nat → Nat → Nat) (v : Nat → Int32) (g : Nat → Nat → Int32) (c1 : Nat) (a2 : Int32) (a3 : Int32) (hc1 : c1 < 60) : Met l yX10_offOf (wz yX10_offOf cX10_offOf 4 (some .int)) (rmL 3 0 0) (va_Pc [.ref (ad 33 0), .int (nI c1), .int a2, .int a3] (fun U => mq D ca ad v g U.heap ∧ gK D ca U)) (QcRead (nI (mOff g c1 a2 a3))) 0 0 (fun _ => False) := by
  refine x_met (by decide) (Nat.le_of_ble_eq_true rfl) ?_
  intro p e s m below meth c E hr hlk hnm hq ls hl
  generalize hav : ([.ref (ad 33 0), .int (nI c1), .int a2, .int a3] : List Value).toArray = args at E ⊢
  have hx := E.1
  have hb := E.2.1
  have hown := E.2.2.2.1
  have hts := E.2.2.2.2.1
  have hw : mw D (wA mcnt ad s.heap.size) s.heap ca ad v g s.heap [] := wd.start hq
  generalize hQ : MQ below (QcRead (nI (mOff g c1 a2 a3))) args s 0 0 (fun _ => False) = Q
  have hl : lv_has ls 4 [(0, .ref (ad 33 0)), (1, .int (nI c1)), (2, .int a2), (3, .int a3)] := hl
  refine lv_aload_n hx hb dX10_offOf_0 rfl (lv_at hl 0 rfl) ?_
  refine lv_iload_n hx hb dX10_offOf_1 rfl (lv_at hl 1 rfl) ?_
  refine lv_iload_n hx hb dX10_offOf_2 rfl (lv_at hl 2 rfl) ?_
  refine lv_iload_n hx hb dX10_offOf_3 rfl (lv_at hl 3 rfl) ?_
  refine lv_iconst (v := 0) hx hb dX10_offOf_4 (by decide) ?_
  refine x_read (x_runV (rest := []) E cbX10_offBy tw_754 (kX10_offBy l D ca ad v g  c1 a2 a3 false (hc1)) ⟨rfl, rfl, by decide, by decide⟩ (m_recv E hw) (fun _ _ _ _ h => h) (fun U hU _ => by rw [hU]; exact hw.1) rfl hl.1 rfl (Nat.le_of_ble_eq_true rfl) dX10_offOf_5 ⟨by decide, by decide⟩) ?_
  refine lv_aload_n hx hb dX10_offOf_8 rfl (lv_at hl 0 rfl) ?_
  refine lv_iload_n hx hb dX10_offOf_9 rfl (lv_at hl 1 rfl) ?_
  refine lv_iload_n hx hb dX10_offOf_10 rfl (lv_at hl 2 rfl) ?_
  refine lv_iload_n hx hb dX10_offOf_11 rfl (lv_at hl 3 rfl) ?_
  refine lv_iconst (v := 1) hx hb dX10_offOf_12 (by decide) ?_
  refine x_read (x_runV (rest := [.int (nI (mOffB g c1 a2 a3 false 8))]) E cbX10_offBy tw_754 (kX10_offBy l D ca ad v g  c1 a2 a3 true (hc1)) ⟨rfl, rfl, by decide, by decide⟩ (m_recv E hw) (fun _ _ _ _ h => h) (fun U hU _ => by rw [hU]; exact hw.1) rfl hl.1 rfl (Nat.le_of_ble_eq_true rfl) dX10_offOf_13 ⟨by decide, by decide⟩) ?_
  refine va_mmin hx hb (E.2.2.1.trans hl.1.symm) hown (hts _ tw_741) (hts _ tw_356) (hts _ tw_12) (hts _ tw_357) (by decide) (Nat.le_of_ble_eq_true rfl) (Nat.zero_le _) (Nat.zero_le _) dX10_offOf_16 ?_
  subst hQ
  exact x_iret E hr hlk (x_min (by have := mOffB_le g c1 a2 a3 false 8; omega) (by have := mOffB_le g c1 a2 a3 true 8; omega)) dX10_offOf_19
set_option maxHeartbeats 4000000 in
set_option maxRecDepth 100000 in
theorem kX10_off (l : Launch) (D : va_G) (ca : Nat → ClassId) (ad : Nat → Nat → Nat) (v : Nat → Int32) (g : Nat → Nat → Int32) (nw : Nat) (nb : Nat) (nc : Nat) (nm : Nat) (a1 : Int32) (a2 : Int32) (a3 : Int32) (hO : mOK v nw nb nc nm) : Met l yX10_off (wz yX10_off cX10_off 4 (some .int)) (rmL 4 0 0) (va_Pc [.ref (ad 33 0), .int a1, .int a2, .int a3] (fun U => mq D ca ad v g U.heap ∧ gK D ca U)) (QcRead (mOffP g nc a1 a2 a3)) 0 0 (fun _ => False) := by
  refine x_met (by decide) (Nat.le_of_ble_eq_true rfl) ?_
  intro p e s m below meth c E hr hlk hnm hq ls hl
  generalize hav : ([.ref (ad 33 0), .int a1, .int a2, .int a3] : List Value).toArray = args at E ⊢
  have hx := E.1
  have hb := E.2.1
  have hown := E.2.2.2.1
  have hts := E.2.2.2.2.1
  have hw : mw D (wA mcnt ad s.heap.size) s.heap ca ad v g s.heap [] := wd.start hq
  generalize hQ : MQ below (QcRead (mOffP g nc a1 a2 a3)) args s 0 0 (fun _ => False) = Q
  have hl : lv_has ls 4 [(0, .ref (ad 33 0)), (1, .int a1), (2, .int a2), (3, .int a3)] := hl
  have hO5 := hO.2.2.2.2
  refine lv_aload_n hx hb dX10_off_0 rfl (lv_at hl 0 rfl) ?_
  refine lv_iload_n hx hb dX10_off_1 rfl (lv_at hl 1 rfl) ?_
  refine x_read (x_runV (rest := []) E cbX10_isChild tw_705 (kX10_isChild l D ca ad v g nw nb nc nm a1 (hO)) ⟨rfl, rfl, by decide, by decide⟩ (m_recv E hw) (fun _ _ _ _ h => h) (fun U hU _ => by rw [hU]; exact hw.1) rfl hl.1 rfl (Nat.le_of_ble_eq_true rfl) dX10_off_2 ⟨by decide, by decide⟩) ?_
  refine lv_if_eq (tgt := 38) hx hb dX10_off_5 (by decide) (fun c_5 => ?_) (fun c_5 => ?_)
  · skip
    have c_5 := bB_0.mp c_5
    refine lv_iconst (v := (-1)) hx hb dX10_off_38 (by decide) ?_
    subst hQ
    exact x_iret E hr hlk (by first | (simp [mOffP, c_5]; done) | simp [mOffP, nI_clamp (n := j) (by omega), c_5]) dX10_off_39
  · skip
    have c_5 := bB_n0.mp c_5
    obtain ⟨j, hj, rfl⟩ := isIn_nat (by omega) c_5
    refine lv_iload_n hx hb dX10_off_8 rfl (lv_at hl 2 rfl) ?_
    refine lv_iconst (v := 0) hx hb dX10_off_9 (by decide) ?_
    refine lv_ldc hx hb hown (hts _ tw_676) dX10_off_10 ?_
    refine x_read (x_runS (rest := []) E cbX10_in tw_647 (kX10_in l D ca a2 0 16777215 ) ⟨rfl, rfl, by decide, by decide⟩ (fun _ _ _ _ h => h) (fun _ _ _ => trivial) rfl hl.1 rfl (Nat.le_of_ble_eq_true rfl) dX10_off_12 ⟨by decide, by decide⟩) ?_
    refine lv_if_eq (tgt := 38) hx hb dX10_off_15 (by decide) (fun c_15 => ?_) (fun c_15 => ?_)
    · skip
      have c_15 := bB_0.mp c_15
      refine lv_iconst (v := (-1)) hx hb dX10_off_38 (by decide) ?_
      subst hQ
      exact x_iret E hr hlk (by first | (simp [mOffP, c_5, c_15]; done) | simp [mOffP, nI_clamp (n := j) (by omega), c_5, c_15]) dX10_off_39
    · skip
      have c_15 := bB_n0.mp c_15
      refine lv_iload_n hx hb dX10_off_18 rfl (lv_at hl 3 rfl) ?_
      refine lv_iconst (v := 0) hx hb dX10_off_19 (by decide) ?_
      refine lv_ldc hx hb hown (hts _ tw_676) dX10_off_20 ?_
      refine x_read (x_runS (rest := []) E cbX10_in tw_647 (kX10_in l D ca a3 0 16777215 ) ⟨rfl, rfl, by decide, by decide⟩ (fun _ _ _ _ h => h) (fun _ _ _ => trivial) rfl hl.1 rfl (Nat.le_of_ble_eq_true rfl) dX10_off_22 ⟨by decide, by decide⟩) ?_
      refine lv_if_eq (tgt := 38) hx hb dX10_off_25 (by decide) (fun c_25 => ?_) (fun c_25 => ?_)
      · skip
        have c_25 := bB_0.mp c_25
        refine lv_iconst (v := (-1)) hx hb dX10_off_38 (by decide) ?_
        subst hQ
        exact x_iret E hr hlk (by first | (simp [mOffP, c_5, c_15, c_25]; done) | simp [mOffP, nI_clamp (n := j) (by omega), c_5, c_15, c_25]) dX10_off_39
      · skip
        have c_25 := bB_n0.mp c_25
        refine lv_aload_n hx hb dX10_off_28 rfl (lv_at hl 0 rfl) ?_
        refine lv_iload_n hx hb dX10_off_29 rfl (lv_at hl 1 rfl) ?_
        refine lv_iload_n hx hb dX10_off_30 rfl (lv_at hl 2 rfl) ?_
        refine lv_iload_n hx hb dX10_off_31 rfl (lv_at hl 3 rfl) ?_
        refine x_read (x_runV (rest := []) E cbX10_offOf tw_750 (kX10_offOf l D ca ad v g  j a2 a3 (by omega)) ⟨rfl, rfl, by decide, by decide⟩ (m_recv E hw) (fun _ _ _ _ h => h) (fun U hU _ => by rw [hU]; exact hw.1) rfl hl.1 rfl (Nat.le_of_ble_eq_true rfl) dX10_off_32 ⟨by decide, by decide⟩) ?_
        refine lv_goto (tgt := 39) hx hb dX10_off_35 (by decide) ?_
        subst hQ
        exact x_iret E hr hlk (by first | (simp [mOffP, c_5, c_15, c_25]; done) | simp [mOffP, nI_clamp (n := j) (by omega), c_5, c_15, c_25]) dX10_off_39
set_option maxHeartbeats 4000000 in
set_option maxRecDepth 100000 in
theorem kX10_isWoman (l : Launch) (D : va_G) (ca : Nat → ClassId) (ad : Nat → Nat → Nat) (v : Nat → Int32) (g : Nat → Nat → Int32) (nw : Nat) (nb : Nat) (nc : Nat) (nm : Nat) (a1 : Int32) (a2 : Int32) (hO : mOK v nw nb nc nm) : Met l yX10_isWoman (wz yX10_isWoman cX10_isWoman 3 (some .boolean)) (rmL 2 0 0) (va_Pc [.ref (ad 33 0), .int a1, .int a2] (fun U => mq D ca ad v g U.heap ∧ gK D ca U)) (QcRead (bB (mWom g nb a1 a2))) 0 0 (fun _ => False) := by
  refine x_met (by decide) (Nat.le_of_ble_eq_true rfl) ?_
  intro p e s m below meth c E hr hlk hnm hq ls hl
  generalize hav : ([.ref (ad 33 0), .int a1, .int a2] : List Value).toArray = args at E ⊢
  have hx := E.1
  have hb := E.2.1
  have hown := E.2.2.2.1
  have hts := E.2.2.2.2.1
  have hw : mw D (wA mcnt ad s.heap.size) s.heap ca ad v g s.heap [] := wd.start hq
  generalize hQ : MQ below (QcRead (bB (mWom g nb a1 a2))) args s 0 0 (fun _ => False) = Q
  have hl : lv_has ls 3 [(0, .ref (ad 33 0)), (1, .int a1), (2, .int a2)] := hl
  have hO5 := hO.2.2.2.2
  refine lv_iload_n hx hb dX10_isWoman_0 rfl (lv_at hl 1 rfl) ?_
  refine lv_iconst (v := 0) hx hb dX10_isWoman_1 (by decide) ?_
  refine lv_aload_n hx hb dX10_isWoman_2 rfl (lv_at hl 0 rfl) ?_
  refine m_geti (x := (nI nb)) E hw 1 (by decide) rfl tw_543 (hO.2.1) dX10_isWoman_3 ?_
  refine lv_iconst (v := 1) hx hb dX10_isWoman_6 (by decide) ?_
  refine lv_isub hx hb dX10_isWoman_7 ?_
  refine x_read (x_runS (rest := []) E cbX10_in tw_647 (kX10_in l D ca a1 0 (nI nb - 1) ) ⟨rfl, rfl, by decide, by decide⟩ (fun _ _ _ _ h => h) (fun _ _ _ => trivial) rfl hl.1 rfl (Nat.le_of_ble_eq_true rfl) dX10_isWoman_8 ⟨by decide, by decide⟩) ?_
  refine lv_if_eq (tgt := 34) hx hb dX10_isWoman_11 (by decide) (fun c_11 => ?_) (fun c_11 => ?_)
  · skip
    have c_11 := bB_0.mp c_11
    refine lv_iconst (v := 0) hx hb dX10_isWoman_34 (by decide) ?_
    subst hQ
    exact x_zret E hr hlk (by decide) (by first | (simp [bB, mWom, c_11]; done) | simp [bB, mWom, nI_clamp (n := j) (by omega), c_11]) dX10_isWoman_35
  · skip
    have c_11 := bB_n0.mp c_11
    obtain ⟨j, hj, rfl⟩ := isIn_nat (by omega) c_11
    refine lv_iload_n hx hb dX10_isWoman_14 rfl (lv_at hl 2 rfl) ?_
    refine lv_iconst (v := 0) hx hb dX10_isWoman_15 (by decide) ?_
    refine lv_aload_n hx hb dX10_isWoman_16 rfl (lv_at hl 0 rfl) ?_
    refine m_getr E hw 6 (by decide) rfl tw_548 dX10_isWoman_17 ?_
    refine lv_iload_n hx hb dX10_isWoman_20 rfl (lv_at hl 1 rfl) ?_
    refine m_ild E hw 6 ⟨by decide, rfl, rfl⟩ j (rfl) (by show j < 50; omega) dX10_isWoman_21 ?_
    refine lv_iconst (v := 1) hx hb dX10_isWoman_22 (by decide) ?_
    refine lv_isub hx hb dX10_isWoman_23 ?_
    refine x_read (x_runS (rest := []) E cbX10_in tw_647 (kX10_in l D ca a2 0 (g 6 j - 1) ) ⟨rfl, rfl, by decide, by decide⟩ (fun _ _ _ _ h => h) (fun _ _ _ => trivial) rfl hl.1 rfl (Nat.le_of_ble_eq_true rfl) dX10_isWoman_24 ⟨by decide, by decide⟩) ?_
    refine lv_if_eq (tgt := 34) hx hb dX10_isWoman_27 (by decide) (fun c_27 => ?_) (fun c_27 => ?_)
    · skip
      have c_27 := bB_0.mp c_27
      refine lv_iconst (v := 0) hx hb dX10_isWoman_34 (by decide) ?_
      subst hQ
      exact x_zret E hr hlk (by decide) (by first | (simp [bB, mWom, c_11, c_27]; done) | simp [bB, mWom, nI_clamp (n := j) (by omega), c_11, c_27]) dX10_isWoman_35
    · skip
      have c_27 := bB_n0.mp c_27
      refine lv_iconst (v := 1) hx hb dX10_isWoman_30 (by decide) ?_
      refine lv_goto (tgt := 35) hx hb dX10_isWoman_31 (by decide) ?_
      subst hQ
      exact x_zret E hr hlk (by decide) (by first | (simp [bB, mWom, c_11, c_27]; done) | simp [bB, mWom, nI_clamp (n := j) (by omega), c_11, c_27]) dX10_isWoman_35
set_option maxHeartbeats 4000000 in
set_option maxRecDepth 100000 in
theorem kX10_ball (l : Launch) (D : va_G) (ca : Nat → ClassId) (ad : Nat → Nat → Nat) (v : Nat → Int32) (g : Nat → Nat → Int32) (nw : Nat) (nb : Nat) (nc : Nat) (nm : Nat) (a1 : Int32) (a2 : Int32) (hO : mOK v nw nb nc nm) (hWo : mWO g nb) : Met l yX10_ball (wz yX10_ball cX10_ball 3 (some .int)) (rmL 3 0 0) (va_Pc [.ref (ad 33 0), .int a1, .int a2] (fun U => mq D ca ad v g U.heap ∧ gK D ca U)) (QcRead (mBall g nb a1 a2)) 0 0 (fun _ => False) := by
  refine x_met (by decide) (Nat.le_of_ble_eq_true rfl) ?_
  intro p e s m below meth c E hr hlk hnm hq ls hl
  generalize hav : ([.ref (ad 33 0), .int a1, .int a2] : List Value).toArray = args at E ⊢
  have hx := E.1
  have hb := E.2.1
  have hown := E.2.2.2.1
  have hts := E.2.2.2.2.1
  have hw : mw D (wA mcnt ad s.heap.size) s.heap ca ad v g s.heap [] := wd.start hq
  generalize hQ : MQ below (QcRead (mBall g nb a1 a2)) args s 0 0 (fun _ => False) = Q
  have hl : lv_has ls 3 [(0, .ref (ad 33 0)), (1, .int a1), (2, .int a2)] := hl
  have hO5 := hO.2.2.2.2
  refine lv_aload_n hx hb dX10_ball_0 rfl (lv_at hl 0 rfl) ?_
  refine lv_iload_n hx hb dX10_ball_1 rfl (lv_at hl 1 rfl) ?_
  refine lv_iload_n hx hb dX10_ball_2 rfl (lv_at hl 2 rfl) ?_
  refine x_read (x_runV (rest := []) E cbX10_isWoman tw_664 (kX10_isWoman l D ca ad v g nw nb nc nm a1 a2 (hO)) ⟨rfl, rfl, by decide, by decide⟩ (m_recv E hw) (fun _ _ _ _ h => h) (fun U hU _ => by rw [hU]; exact hw.1) rfl hl.1 rfl (Nat.le_of_ble_eq_true rfl) dX10_ball_3 ⟨by decide, by decide⟩) ?_
  refine lv_if_eq (tgt := 23) hx hb dX10_ball_6 (by decide) (fun c_6 => ?_) (fun c_6 => ?_)
  · skip
    have c_6 := bB_0.mp c_6
    refine lv_iconst (v := (-1)) hx hb dX10_ball_23 (by decide) ?_
    subst hQ
    exact x_iret E hr hlk (by first | (simp [mBall, c_6]; done) | simp [mBall, nI_clamp (n := b1) (by omega), nI_clamp (n := j1) (by omega), c_6]) dX10_ball_24
  · skip
    have c_6 := bB_n0.mp c_6
    obtain ⟨b1, j1, n1, g1, g2, g3, g4, rfl, rfl⟩ := mWom_nat hO5.2.1 hWo c_6
    refine lv_aload_n hx hb dX10_ball_9 rfl (lv_at hl 0 rfl) ?_
    refine m_getr E hw 7 (by decide) rfl tw_549 dX10_ball_10 ?_
    refine lv_bipush (v := 20) hx hb dX10_ball_13 (by decide) ?_
    refine lv_iload_n hx hb dX10_ball_15 rfl (lv_at hl 1 rfl) ?_
    refine lv_imul hx hb dX10_ball_16 ?_
    refine x_top (x := (20 * nI b1)) (y := (nI (20 * b1))) (pk_mul 20 _) ?_
    refine lv_iload_n hx hb dX10_ball_17 rfl (lv_at hl 2 rfl) ?_
    refine lv_iadd hx hb dX10_ball_18 ?_
    refine x_top (x := (nI (20 * b1) + nI j1)) (y := (nI (20 * b1 + j1))) (nI_add _ _) ?_
    refine m_ild E hw 7 ⟨by decide, rfl, rfl⟩ (20 * b1 + j1) (rfl) (by show _ < 1000; omega) dX10_ball_19 ?_
    refine lv_goto (tgt := 24) hx hb dX10_ball_20 (by decide) ?_
    subst hQ
    exact x_iret E hr hlk (by first | (simp [mBall, c_6]; done) | simp [mBall, nI_clamp (n := b1) (by omega), nI_clamp (n := j1) (by omega), c_6]) dX10_ball_24
set_option maxHeartbeats 4000000 in
set_option maxRecDepth 100000 in
theorem kX10_isOpen (l : Launch) (D : va_G) (ca : Nat → ClassId) (ad : Nat → Nat → Nat) (v : Nat → Int32) (g : Nat → Nat → Int32) (nw : Nat) (nb : Nat) (nc : Nat) (nm : Nat) (a1 : Int32) (hO : mOK v nw nb nc nm) : Met l yX10_isOpen (wz yX10_isOpen cX10_isOpen 3 (some .boolean)) (rmL 2 0 0) (va_Pc [.ref (ad 33 0), .int a1] (fun U => mq D ca ad v g U.heap ∧ gK D ca U)) (QcRead (bB (mOpen g nw nm a1))) 0 0 (fun _ => False) := by
  refine x_met (by decide) (Nat.le_of_ble_eq_true rfl) ?_
  intro p e s m below meth c E hr hlk hnm hq ls hl
  generalize hav : ([.ref (ad 33 0), .int a1] : List Value).toArray = args at E ⊢
  have hx := E.1
  have hb := E.2.1
  have hown := E.2.2.2.1
  have hts := E.2.2.2.2.1
  have hw : mw D (wA mcnt ad s.heap.size) s.heap ca ad v g s.heap [] := wd.start hq
  generalize hQ : MQ below (QcRead (bB (mOpen g nw nm a1))) args s 0 0 (fun _ => False) = Q
  have hl : lv_has ls 3 [(0, .ref (ad 33 0)), (1, .int a1)] := hl
  refine lv_aload_n hx hb dX10_isOpen_0 rfl (lv_at hl 0 rfl) ?_
  refine lv_iload_n hx hb dX10_isOpen_1 rfl (lv_at hl 1 rfl) ?_
  refine lv_aload_n hx hb dX10_isOpen_2 rfl (lv_at hl 0 rfl) ?_
  refine m_geti (x := (nI nw)) E hw 0 (by decide) rfl tw_542 (hO.1) dX10_isOpen_3 ?_
  refine lv_aload_n hx hb dX10_isOpen_6 rfl (lv_at hl 0 rfl) ?_
  refine m_geti (x := (nI nw)) E hw 0 (by decide) rfl tw_542 (hO.1) dX10_isOpen_7 ?_
  refine x_read (x_runV (rest := []) E cbX10_where tw_697 (kX10_where l D ca ad v g nw nb nc nm a1 (nI nw) (nI nw) (hO)) ⟨rfl, rfl, by decide, by decide⟩ (m_recv E hw) (fun _ _ _ _ h => h) (fun U hU _ => by rw [hU]; exact hw.1) rfl hl.1 rfl (Nat.le_of_ble_eq_true rfl) dX10_isOpen_10 ⟨by decide, by decide⟩) ?_
  refine lv_istore_n (lv' := [(2, .int ((mWh g a1 (nI nw) (nI nw) nm).1)), (0, .ref (ad 33 0)), (1, .int a1)]) hx hb dX10_isOpen_13 rfl hl (by decide) rfl (fun ls hl => ?_)
  refine lv_iload_n hx hb dX10_isOpen_14 rfl (lv_at hl 0 rfl) ?_
  refine lv_bipush (v := 14) hx hb dX10_isOpen_15 (by decide) ?_
  refine lv_icmp_eq (tgt := 30) hx hb dX10_isOpen_17 (by decide) (fun c_17 => ?_) (fun c_17 => ?_)
  · skip
    refine lv_iconst (v := 0) hx hb dX10_isOpen_30 (by decide) ?_
    subst hQ
    exact x_zret E hr hlk (by decide) (by simp [bB, mOpen, c_17]) dX10_isOpen_31
  · skip
    refine lv_iload_n hx hb dX10_isOpen_20 rfl (lv_at hl 0 rfl) ?_
    refine lv_bipush (v := 15) hx hb dX10_isOpen_21 (by decide) ?_
    refine lv_icmp_eq (tgt := 30) hx hb dX10_isOpen_23 (by decide) (fun c_23 => ?_) (fun c_23 => ?_)
    · skip
      refine lv_iconst (v := 0) hx hb dX10_isOpen_30 (by decide) ?_
      subst hQ
      exact x_zret E hr hlk (by decide) (by simp [bB, mOpen, c_17, c_23]) dX10_isOpen_31
    · skip
      refine lv_iconst (v := 1) hx hb dX10_isOpen_26 (by decide) ?_
      refine lv_goto (tgt := 31) hx hb dX10_isOpen_27 (by decide) ?_
      subst hQ
      exact x_zret E hr hlk (by decide) (by simp [bB, mOpen, c_17, c_23]) dX10_isOpen_31
set_option maxHeartbeats 4000000 in
set_option maxRecDepth 100000 in
theorem kX10_agreeing (l : Launch) (D : va_G) (ca : Nat → ClassId) (ad : Nat → Nat → Nat) (v : Nat → Int32) (g : Nat → Nat → Int32) (c1 : Nat) (a2 : Int32) (a3 : Int32) (a4 : Int32) (a5 : Int32) (hc1 : c1 < 60) : Met l yX10_agreeing (wz yX10_agreeing cX10_agreeing 6 (some .int)) (rmL 2 0 0) (va_Pc [.ref (ad 33 0), .int (nI c1), .int a2, .int a3, .int a4, .int a5] (fun U => mq D ca ad v g U.heap ∧ gK D ca U)) (QcRead (mAgr g c1 a2 a3 a4 a5)) 0 0 (fun _ => False) := by
  refine x_met (by decide) (Nat.le_of_ble_eq_true rfl) ?_
  intro p e s m below meth c E hr hlk hnm hq ls hl
  generalize hav : ([.ref (ad 33 0), .int (nI c1), .int a2, .int a3, .int a4, .int a5] : List Value).toArray = args at E ⊢
  have hx := E.1
  have hb := E.2.1
  have hown := E.2.2.2.1
  have hts := E.2.2.2.2.1
  have hw : mw D (wA mcnt ad s.heap.size) s.heap ca ad v g s.heap [] := wd.start hq
  generalize hQ : MQ below (QcRead (mAgr g c1 a2 a3 a4 a5)) args s 0 0 (fun _ => False) = Q
  have hl : lv_has ls 6 [(0, .ref (ad 33 0)), (1, .int (nI c1)), (2, .int a2), (3, .int a3), (4, .int a4), (5, .int a5)] := hl
  refine lv_aload_n hx hb dX10_agreeing_0 rfl (lv_at hl 0 rfl) ?_
  refine m_getr E hw 9 (by decide) rfl tw_551 dX10_agreeing_1 ?_
  refine lv_iload_n hx hb dX10_agreeing_4 rfl (lv_at hl 1 rfl) ?_
  refine m_ild E hw 9 ⟨by decide, rfl, rfl⟩ c1 (rfl) (hc1) dX10_agreeing_5 ?_
  refine lv_iload_n hx hb dX10_agreeing_6 rfl (lv_at hl 2 rfl) ?_
  refine lv_iload_n hx hb dX10_agreeing_7 rfl (lv_at hl 3 rfl) ?_
  refine x_read (x_runS (rest := []) E cbX10_in tw_647 (kX10_in l D ca (g 9 c1) a2 a3 ) ⟨rfl, rfl, by decide, by decide⟩ (fun _ _ _ _ h => h) (fun _ _ _ => trivial) rfl hl.1 rfl (Nat.le_of_ble_eq_true rfl) dX10_agreeing_8 ⟨by decide, by decide⟩) ?_
  refine lv_if_eq (tgt := 18) hx hb dX10_agreeing_11 (by decide) (fun c_11 => ?_) (fun c_11 => ?_)
  · skip
    have c_11 := bB_0.mp c_11
    refine lv_iconst (v := 0) hx hb dX10_agreeing_18 (by decide) ?_
    refine lv_iload hx hb dX10_agreeing_19 (lv_at hl 4 rfl) ?_
    refine lv_aload_n hx hb dX10_agreeing_21 rfl (lv_at hl 0 rfl) ?_
    refine m_getr E hw 10 (by decide) rfl tw_552 dX10_agreeing_22 ?_
    refine lv_iload_n hx hb dX10_agreeing_25 rfl (lv_at hl 1 rfl) ?_
    refine m_ild E hw 10 ⟨by decide, rfl, rfl⟩ c1 (rfl) (hc1) dX10_agreeing_26 ?_
    refine lv_icmp_ne (tgt := 34) hx hb dX10_agreeing_27 (by decide) (fun c_27 => ?_) (fun c_27 => ?_)
    · skip
      refine lv_iconst (v := 0) hx hb dX10_agreeing_34 (by decide) ?_
      refine lv_iadd hx hb dX10_agreeing_35 ?_
      refine lv_iload hx hb dX10_agreeing_36 (lv_at hl 5 rfl) ?_
      refine lv_aload_n hx hb dX10_agreeing_38 rfl (lv_at hl 0 rfl) ?_
      refine m_getr E hw 11 (by decide) rfl tw_553 dX10_agreeing_39 ?_
      refine lv_iload_n hx hb dX10_agreeing_42 rfl (lv_at hl 1 rfl) ?_
      refine m_ild E hw 11 ⟨by decide, rfl, rfl⟩ c1 (rfl) (hc1) dX10_agreeing_43 ?_
      refine lv_icmp_ne (tgt := 51) hx hb dX10_agreeing_44 (by decide) (fun c_44 => ?_) (fun c_44 => ?_)
      · skip
        refine lv_iconst (v := 0) hx hb dX10_agreeing_51 (by decide) ?_
        refine lv_iadd hx hb dX10_agreeing_52 ?_
        subst hQ
        exact x_iret E hr hlk (by simp [mAgr, bB, c_11, c_27, c_44]) dX10_agreeing_53
      · skip
        refine lv_iconst (v := 1) hx hb dX10_agreeing_47 (by decide) ?_
        refine lv_goto (tgt := 52) hx hb dX10_agreeing_48 (by decide) ?_
        refine lv_iadd hx hb dX10_agreeing_52 ?_
        subst hQ
        exact x_iret E hr hlk (by simp [mAgr, bB, c_11, c_27, c_44]) dX10_agreeing_53
    · skip
      refine lv_iconst (v := 1) hx hb dX10_agreeing_30 (by decide) ?_
      refine lv_goto (tgt := 35) hx hb dX10_agreeing_31 (by decide) ?_
      refine lv_iadd hx hb dX10_agreeing_35 ?_
      refine lv_iload hx hb dX10_agreeing_36 (lv_at hl 5 rfl) ?_
      refine lv_aload_n hx hb dX10_agreeing_38 rfl (lv_at hl 0 rfl) ?_
      refine m_getr E hw 11 (by decide) rfl tw_553 dX10_agreeing_39 ?_
      refine lv_iload_n hx hb dX10_agreeing_42 rfl (lv_at hl 1 rfl) ?_
      refine m_ild E hw 11 ⟨by decide, rfl, rfl⟩ c1 (rfl) (hc1) dX10_agreeing_43 ?_
      refine lv_icmp_ne (tgt := 51) hx hb dX10_agreeing_44 (by decide) (fun c_44 => ?_) (fun c_44 => ?_)
      · skip
        refine lv_iconst (v := 0) hx hb dX10_agreeing_51 (by decide) ?_
        refine lv_iadd hx hb dX10_agreeing_52 ?_
        subst hQ
        exact x_iret E hr hlk (by simp [mAgr, bB, c_11, c_27, c_44]) dX10_agreeing_53
      · skip
        refine lv_iconst (v := 1) hx hb dX10_agreeing_47 (by decide) ?_
        refine lv_goto (tgt := 52) hx hb dX10_agreeing_48 (by decide) ?_
        refine lv_iadd hx hb dX10_agreeing_52 ?_
        subst hQ
        exact x_iret E hr hlk (by simp [mAgr, bB, c_11, c_27, c_44]) dX10_agreeing_53
  · skip
    have c_11 := bB_n0.mp c_11
    refine lv_iconst (v := 1) hx hb dX10_agreeing_14 (by decide) ?_
    refine lv_goto (tgt := 19) hx hb dX10_agreeing_15 (by decide) ?_
    refine lv_iload hx hb dX10_agreeing_19 (lv_at hl 4 rfl) ?_
    refine lv_aload_n hx hb dX10_agreeing_21 rfl (lv_at hl 0 rfl) ?_
    refine m_getr E hw 10 (by decide) rfl tw_552 dX10_agreeing_22 ?_
    refine lv_iload_n hx hb dX10_agreeing_25 rfl (lv_at hl 1 rfl) ?_
    refine m_ild E hw 10 ⟨by decide, rfl, rfl⟩ c1 (rfl) (hc1) dX10_agreeing_26 ?_
    refine lv_icmp_ne (tgt := 34) hx hb dX10_agreeing_27 (by decide) (fun c_27 => ?_) (fun c_27 => ?_)
    · skip
      refine lv_iconst (v := 0) hx hb dX10_agreeing_34 (by decide) ?_
      refine lv_iadd hx hb dX10_agreeing_35 ?_
      refine lv_iload hx hb dX10_agreeing_36 (lv_at hl 5 rfl) ?_
      refine lv_aload_n hx hb dX10_agreeing_38 rfl (lv_at hl 0 rfl) ?_
      refine m_getr E hw 11 (by decide) rfl tw_553 dX10_agreeing_39 ?_
      refine lv_iload_n hx hb dX10_agreeing_42 rfl (lv_at hl 1 rfl) ?_
      refine m_ild E hw 11 ⟨by decide, rfl, rfl⟩ c1 (rfl) (hc1) dX10_agreeing_43 ?_
      refine lv_icmp_ne (tgt := 51) hx hb dX10_agreeing_44 (by decide) (fun c_44 => ?_) (fun c_44 => ?_)
      · skip
        refine lv_iconst (v := 0) hx hb dX10_agreeing_51 (by decide) ?_
        refine lv_iadd hx hb dX10_agreeing_52 ?_
        subst hQ
        exact x_iret E hr hlk (by simp [mAgr, bB, c_11, c_27, c_44]) dX10_agreeing_53
      · skip
        refine lv_iconst (v := 1) hx hb dX10_agreeing_47 (by decide) ?_
        refine lv_goto (tgt := 52) hx hb dX10_agreeing_48 (by decide) ?_
        refine lv_iadd hx hb dX10_agreeing_52 ?_
        subst hQ
        exact x_iret E hr hlk (by simp [mAgr, bB, c_11, c_27, c_44]) dX10_agreeing_53
    · skip
      refine lv_iconst (v := 1) hx hb dX10_agreeing_30 (by decide) ?_
      refine lv_goto (tgt := 35) hx hb dX10_agreeing_31 (by decide) ?_
      refine lv_iadd hx hb dX10_agreeing_35 ?_
      refine lv_iload hx hb dX10_agreeing_36 (lv_at hl 5 rfl) ?_
      refine lv_aload_n hx hb dX10_agreeing_38 rfl (lv_at hl 0 rfl) ?_
      refine m_getr E hw 11 (by decide) rfl tw_553 dX10_agreeing_39 ?_
      refine lv_iload_n hx hb dX10_agreeing_42 rfl (lv_at hl 1 rfl) ?_
      refine m_ild E hw 11 ⟨by decide, rfl, rfl⟩ c1 (rfl) (hc1) dX10_agreeing_43 ?_
      refine lv_icmp_ne (tgt := 51) hx hb dX10_agreeing_44 (by decide) (fun c_44 => ?_) (fun c_44 => ?_)
      · skip
        refine lv_iconst (v := 0) hx hb dX10_agreeing_51 (by decide) ?_
        refine lv_iadd hx hb dX10_agreeing_52 ?_
        subst hQ
        exact x_iret E hr hlk (by simp [mAgr, bB, c_11, c_27, c_44]) dX10_agreeing_53
      · skip
        refine lv_iconst (v := 1) hx hb dX10_agreeing_47 (by decide) ?_
        refine lv_goto (tgt := 52) hx hb dX10_agreeing_48 (by decide) ?_
        refine lv_iadd hx hb dX10_agreeing_52 ?_
        subst hQ
        exact x_iret E hr hlk (by simp [mAgr, bB, c_11, c_27, c_44]) dX10_agreeing_53
set_option maxHeartbeats 4000000 in
set_option maxRecDepth 100000 in
theorem kX10_areBoth (l : Launch) (D : va_G) (ca : Nat → ClassId) (ad : Nat → Nat → Nat) (v : Nat → Int32) (g : Nat → Nat → Int32) (nw : Nat) (nb : Nat) (nc : Nat) (nm : Nat) (a1 : Int32) (a2 : Int32) (hO : mOK v nw nb nc nm) : Met l yX10_areBoth (wz yX10_areBoth cX10_areBoth 3 (some .boolean)) (rmL 3 0 0) (va_Pc [.ref (ad 33 0), .int a1, .int a2] (fun U => mq D ca ad v g U.heap ∧ gK D ca U)) (QcRead (bB (mBoth nc a1 a2))) 0 0 (fun _ => False) := by
  refine x_met (by decide) (Nat.le_of_ble_eq_true rfl) ?_
  intro p e s m below meth c E hr hlk hnm hq ls hl
  generalize hav : ([.ref (ad 33 0), .int a1, .int a2] : List Value).toArray = args at E ⊢
  have hx := E.1
  have hb := E.2.1
  have hown := E.2.2.2.1
  have hts := E.2.2.2.2.1
  have hw : mw D (wA mcnt ad s.heap.size) s.heap ca ad v g s.heap [] := wd.start hq
  generalize hQ : MQ below (QcRead (bB (mBoth nc a1 a2))) args s 0 0 (fun _ => False) = Q
  have hl : lv_has ls 3 [(0, .ref (ad 33 0)), (1, .int a1), (2, .int a2)] := hl
  refine lv_iload_n hx hb dX10_areBoth_0 rfl (lv_at hl 1 rfl) ?_
  refine lv_iconst (v := 0) hx hb dX10_areBoth_1 (by decide) ?_
  refine lv_bipush (v := 19) hx hb dX10_areBoth_2 (by decide) ?_
  refine x_read (x_runS (rest := []) E cbX10_in tw_647 (kX10_in l D ca a1 0 19 ) ⟨rfl, rfl, by decide, by decide⟩ (fun _ _ _ _ h => h) (fun _ _ _ => trivial) rfl hl.1 rfl (Nat.le_of_ble_eq_true rfl) dX10_areBoth_4 ⟨by decide, by decide⟩) ?_
  refine lv_if_eq (tgt := 22) hx hb dX10_areBoth_7 (by decide) (fun c_7 => ?_) (fun c_7 => ?_)
  · skip
    have c_7 := bB_0.mp c_7
    refine lv_iconst (v := 0) hx hb dX10_areBoth_22 (by decide) ?_
    subst hQ
    exact x_zret E hr hlk (by decide) (by simp [bB, mBoth, c_7]) dX10_areBoth_23
  · skip
    have c_7 := bB_n0.mp c_7
    refine lv_aload_n hx hb dX10_areBoth_10 rfl (lv_at hl 0 rfl) ?_
    refine lv_iload_n hx hb dX10_areBoth_11 rfl (lv_at hl 2 rfl) ?_
    refine x_read (x_runV (rest := []) E cbX10_isChild tw_705 (kX10_isChild l D ca ad v g nw nb nc nm a2 (hO)) ⟨rfl, rfl, by decide, by decide⟩ (m_recv E hw) (fun _ _ _ _ h => h) (fun U hU _ => by rw [hU]; exact hw.1) rfl hl.1 rfl (Nat.le_of_ble_eq_true rfl) dX10_areBoth_12 ⟨by decide, by decide⟩) ?_
    refine lv_if_eq (tgt := 22) hx hb dX10_areBoth_15 (by decide) (fun c_15 => ?_) (fun c_15 => ?_)
    · skip
      have c_15 := bB_0.mp c_15
      refine lv_iconst (v := 0) hx hb dX10_areBoth_22 (by decide) ?_
      subst hQ
      exact x_zret E hr hlk (by decide) (by simp [bB, mBoth, c_7, c_15]) dX10_areBoth_23
    · skip
      have c_15 := bB_n0.mp c_15
      refine lv_iconst (v := 1) hx hb dX10_areBoth_18 (by decide) ?_
      refine lv_goto (tgt := 23) hx hb dX10_areBoth_19 (by decide) ?_
      subst hQ
      exact x_zret E hr hlk (by decide) (by simp [bB, mBoth, c_7, c_15]) dX10_areBoth_23
set_option maxHeartbeats 4000000 in
set_option maxRecDepth 100000 in
theorem kX10_ask (l : Launch) (D : va_G) (ca : Nat → ClassId) (ad : Nat → Nat → Nat) (v : Nat → Int32) (g : Nat → Nat → Int32) (nw : Nat) (nb : Nat) (nc : Nat) (nm : Nat) (a1 : Int32) (a2 : Int32) (hO : mOK v nw nb nc nm) : Met l yX10_ask (wz yX10_ask cX10_ask 3 (some .int)) (rmL 4 0 0) (va_Pc [.ref (ad 33 0), .int a1, .int a2] (fun U => mq D ca ad v g U.heap ∧ gK D ca U)) (QcRead (mAsk g nc a1 a2)) 0 0 (fun _ => False) := by
  refine x_met (by decide) (Nat.le_of_ble_eq_true rfl) ?_
  intro p e s m below meth c E hr hlk hnm hq ls hl
  generalize hav : ([.ref (ad 33 0), .int a1, .int a2] : List Value).toArray = args at E ⊢
  have hx := E.1
  have hb := E.2.1
  have hown := E.2.2.2.1
  have hts := E.2.2.2.2.1
  have hw : mw D (wA mcnt ad s.heap.size) s.heap ca ad v g s.heap [] := wd.start hq
  generalize hQ : MQ below (QcRead (mAsk g nc a1 a2)) args s 0 0 (fun _ => False) = Q
  have hl : lv_has ls 3 [(0, .ref (ad 33 0)), (1, .int a1), (2, .int a2)] := hl
  have hO5 := hO.2.2.2.2
  refine lv_aload_n hx hb dX10_ask_0 rfl (lv_at hl 0 rfl) ?_
  refine lv_iload_n hx hb dX10_ask_1 rfl (lv_at hl 1 rfl) ?_
  refine lv_iload_n hx hb dX10_ask_2 rfl (lv_at hl 2 rfl) ?_
  refine x_read (x_runV (rest := []) E cbX10_areBoth tw_827 (kX10_areBoth l D ca ad v g nw nb nc nm a1 a2 (hO)) ⟨rfl, rfl, by decide, by decide⟩ (m_recv E hw) (fun _ _ _ _ h => h) (fun U hU _ => by rw [hU]; exact hw.1) rfl hl.1 rfl (Nat.le_of_ble_eq_true rfl) dX10_ask_3 ⟨by decide, by decide⟩) ?_
  refine lv_if_eq (tgt := 36) hx hb dX10_ask_6 (by decide) (fun c_6 => ?_) (fun c_6 => ?_)
  · skip
    have c_6 := bB_0.mp c_6
    refine lv_iconst (v := (-1)) hx hb dX10_ask_36 (by decide) ?_
    subst hQ
    exact x_iret E hr hlk (by first | (simp [mAsk, c_6]; done) | simp [mAsk, nI_clamp (n := w1) (by omega), nI_clamp (n := j1) (by omega), c_6]) dX10_ask_37
  · skip
    have c_6 := bB_n0.mp c_6
    obtain ⟨w1, j1, g1, g2, rfl, rfl⟩ := mBoth_nat hO5.2.2.1 c_6
    refine lv_aload_n hx hb dX10_ask_9 rfl (lv_at hl 0 rfl) ?_
    refine m_getr E hw 17 (by decide) rfl tw_559 dX10_ask_10 ?_
    refine lv_bipush (v := 20) hx hb dX10_ask_13 (by decide) ?_
    refine lv_iload_n hx hb dX10_ask_15 rfl (lv_at hl 2 rfl) ?_
    refine lv_imul hx hb dX10_ask_16 ?_
    refine x_top (x := (20 * nI j1)) (y := (nI (20 * j1))) (pk_mul 20 _) ?_
    refine lv_iload_n hx hb dX10_ask_17 rfl (lv_at hl 1 rfl) ?_
    refine lv_iadd hx hb dX10_ask_18 ?_
    refine x_top (x := (nI (20 * j1) + nI w1)) (y := (nI (20 * j1 + w1))) (nI_add _ _) ?_
    refine m_zld E hw 17 ⟨by decide, rfl, rfl⟩ (20 * j1 + w1) (rfl) (by show _ < 1200; omega) dX10_ask_19 ?_
    refine lv_if_eq (tgt := 32) hx hb dX10_ask_20 (by decide) (fun c_20 => ?_) (fun c_20 => ?_)
    · skip
      refine lv_iconst (v := 0) hx hb dX10_ask_32 (by decide) ?_
      refine lv_goto (tgt := 37) hx hb dX10_ask_33 (by decide) ?_
      subst hQ
      exact x_iret E hr hlk (by first | (simp [mAsk, c_6, c_20]; done) | simp [mAsk, nI_clamp (n := w1) (by omega), nI_clamp (n := j1) (by omega), c_6, c_20]) dX10_ask_37
    · skip
      refine lv_aload_n hx hb dX10_ask_23 rfl (lv_at hl 0 rfl) ?_
      refine m_getr E hw 16 (by decide) rfl tw_558 dX10_ask_24 ?_
      refine lv_iload_n hx hb dX10_ask_27 rfl (lv_at hl 2 rfl) ?_
      refine m_ild E hw 16 ⟨by decide, rfl, rfl⟩ j1 (rfl) (by show j1 < 60; omega) dX10_ask_28 ?_
      refine lv_goto (tgt := 37) hx hb dX10_ask_29 (by decide) ?_
      subst hQ
      exact x_iret E hr hlk (by first | (simp [mAsk, c_6, c_20]; done) | simp [mAsk, nI_clamp (n := w1) (by omega), nI_clamp (n := j1) (by omega), c_6, c_20]) dX10_ask_37
set_option maxHeartbeats 4000000 in
set_option maxRecDepth 100000 in
theorem kX10_guess (l : Launch) (D : va_G) (ca : Nat → ClassId) (ad : Nat → Nat → Nat) (v : Nat → Int32) (g : Nat → Nat → Int32) (nw : Nat) (nb : Nat) (nc : Nat) (nm : Nat) (a1 : Int32) (a2 : Int32) (a3 : Int32) (hO : mOK v nw nb nc nm) : Met l yX10_guess (wz yX10_guess cX10_guess 4 (some .int)) (rmL 4 0 0) (va_Pc [.ref (ad 33 0), .int a1, .int a2, .int a3] (fun U => mq D ca ad v g U.heap ∧ gK D ca U)) (QcRead (mGuess g nc a1 a2 a3)) 0 0 (fun _ => False) := by
  refine x_met (by decide) (Nat.le_of_ble_eq_true rfl) ?_
  intro p e s m below meth c E hr hlk hnm hq ls hl
  generalize hav : ([.ref (ad 33 0), .int a1, .int a2, .int a3] : List Value).toArray = args at E ⊢
  have hx := E.1
  have hb := E.2.1
  have hown := E.2.2.2.1
  have hts := E.2.2.2.2.1
  have hw : mw D (wA mcnt ad s.heap.size) s.heap ca ad v g s.heap [] := wd.start hq
  generalize hQ : MQ below (QcRead (mGuess g nc a1 a2 a3)) args s 0 0 (fun _ => False) = Q
  have hl : lv_has ls 4 [(0, .ref (ad 33 0)), (1, .int a1), (2, .int a2), (3, .int a3)] := hl
  have hO5 := hO.2.2.2.2
  refine lv_aload_n hx hb dX10_guess_0 rfl (lv_at hl 0 rfl) ?_
  refine lv_iload_n hx hb dX10_guess_1 rfl (lv_at hl 1 rfl) ?_
  refine lv_iload_n hx hb dX10_guess_2 rfl (lv_at hl 2 rfl) ?_
  refine x_read (x_runV (rest := []) E cbX10_areBoth tw_827 (kX10_areBoth l D ca ad v g nw nb nc nm a1 a2 (hO)) ⟨rfl, rfl, by decide, by decide⟩ (m_recv E hw) (fun _ _ _ _ h => h) (fun U hU _ => by rw [hU]; exact hw.1) rfl hl.1 rfl (Nat.le_of_ble_eq_true rfl) dX10_guess_3 ⟨by decide, by decide⟩) ?_
  refine lv_if_eq (tgt := 19) hx hb dX10_guess_6 (by decide) (fun c_6 => ?_) (fun c_6 => ?_)
  · skip
    have c_6 := bB_0.mp c_6
    refine lv_iconst (v := (-1)) hx hb dX10_guess_19 (by decide) ?_
    subst hQ
    exact x_iret E hr hlk (by first | (simp [mGuess, c_6]; done) | simp [mGuess, bB, nI_clamp (n := w1) (by omega), nI_clamp (n := j1) (by omega), c_6]) dX10_guess_20
  · skip
    have c_6 := bB_n0.mp c_6
    obtain ⟨w1, j1, g1, g2, rfl, rfl⟩ := mBoth_nat hO5.2.2.1 c_6
    refine lv_iload_n hx hb dX10_guess_9 rfl (lv_at hl 3 rfl) ?_
    refine lv_iconst (v := 1) hx hb dX10_guess_10 (by decide) ?_
    refine lv_ldc hx hb hown (hts _ tw_822) dX10_guess_11 ?_
    refine x_read (x_runS (rest := []) E cbX10_in tw_647 (kX10_in l D ca a3 1 1000000 ) ⟨rfl, rfl, by decide, by decide⟩ (fun _ _ _ _ h => h) (fun _ _ _ => trivial) rfl hl.1 rfl (Nat.le_of_ble_eq_true rfl) dX10_guess_13 ⟨by decide, by decide⟩) ?_
    refine lv_if_ne (tgt := 21) hx hb dX10_guess_16 (by decide) (fun c_16 => ?_) (fun c_16 => ?_)
    · skip
      have c_16 := bB_n0.mp c_16
      refine lv_aload_n hx hb dX10_guess_21 rfl (lv_at hl 0 rfl) ?_
      refine m_getr E hw 17 (by decide) rfl tw_559 dX10_guess_22 ?_
      refine lv_bipush (v := 20) hx hb dX10_guess_25 (by decide) ?_
      refine lv_iload_n hx hb dX10_guess_27 rfl (lv_at hl 2 rfl) ?_
      refine lv_imul hx hb dX10_guess_28 ?_
      refine x_top (x := (20 * nI j1)) (y := (nI (20 * j1))) (pk_mul 20 _) ?_
      refine lv_iload_n hx hb dX10_guess_29 rfl (lv_at hl 1 rfl) ?_
      refine lv_iadd hx hb dX10_guess_30 ?_
      refine x_top (x := (nI (20 * j1) + nI w1)) (y := (nI (20 * j1 + w1))) (nI_add _ _) ?_
      refine m_zld E hw 17 ⟨by decide, rfl, rfl⟩ (20 * j1 + w1) (rfl) (by show _ < 1200; omega) dX10_guess_31 ?_
      refine lv_if_eq (tgt := 49) hx hb dX10_guess_32 (by decide) (fun c_32 => ?_) (fun c_32 => ?_)
      · skip
        refine lv_iconst (v := 0) hx hb dX10_guess_49 (by decide) ?_
        subst hQ
        exact x_iret E hr hlk (by first | (simp [mGuess, c_6, c_16, c_32]; done) | simp [mGuess, bB, nI_clamp (n := w1) (by omega), nI_clamp (n := j1) (by omega), c_6, c_16, c_32]) dX10_guess_50
      · skip
        refine lv_aload_n hx hb dX10_guess_35 rfl (lv_at hl 0 rfl) ?_
        refine m_getr E hw 16 (by decide) rfl tw_558 dX10_guess_36 ?_
        refine lv_iload_n hx hb dX10_guess_39 rfl (lv_at hl 2 rfl) ?_
        refine m_ild E hw 16 ⟨by decide, rfl, rfl⟩ j1 (rfl) (by show j1 < 60; omega) dX10_guess_40 ?_
        refine lv_iload_n hx hb dX10_guess_41 rfl (lv_at hl 3 rfl) ?_
        refine lv_icmp_ne (tgt := 49) hx hb dX10_guess_42 (by decide) (fun c_42 => ?_) (fun c_42 => ?_)
        · skip
          refine lv_iconst (v := 0) hx hb dX10_guess_49 (by decide) ?_
          subst hQ
          exact x_iret E hr hlk (by first | (simp [mGuess, c_6, c_16, c_32, c_42]; done) | simp [mGuess, bB, nI_clamp (n := w1) (by omega), nI_clamp (n := j1) (by omega), c_6, c_16, c_32, c_42]) dX10_guess_50
        · skip
          refine lv_iconst (v := 1) hx hb dX10_guess_45 (by decide) ?_
          refine lv_goto (tgt := 50) hx hb dX10_guess_46 (by decide) ?_
          subst hQ
          exact x_iret E hr hlk (by first | (simp [mGuess, c_6, c_16, c_32, c_42]; done) | simp [mGuess, bB, nI_clamp (n := w1) (by omega), nI_clamp (n := j1) (by omega), c_6, c_16, c_32, c_42]) dX10_guess_50
    · skip
      have c_16 := bB_0.mp c_16
      refine lv_iconst (v := (-1)) hx hb dX10_guess_19 (by decide) ?_
      subst hQ
      exact x_iret E hr hlk (by first | (simp [mGuess, c_6, c_16]; done) | simp [mGuess, bB, nI_clamp (n := w1) (by omega), nI_clamp (n := j1) (by omega), c_6, c_16]) dX10_guess_20
set_option maxHeartbeats 4000000 in
set_option maxRecDepth 100000 in
theorem kX10_told (l : Launch) (D : va_G) (ca : Nat → ClassId) (ad : Nat → Nat → Nat) (v : Nat → Int32) (g : Nat → Nat → Int32) (nw : Nat) (nb : Nat) (nc : Nat) (nm : Nat) (a1 : Int32) (a2 : Int32) (hO : mOK v nw nb nc nm) : Met l yX10_told (wz yX10_told cX10_told 5 (some .int)) (rmL 3 0 0) (va_Pc [.ref (ad 33 0), .int a1, .int a2] (fun U => mq D ca ad v g U.heap ∧ gK D ca U)) (QcRead (mTold g nc nm a1 a2)) 0 0 (fun _ => False) := by
  refine x_met (by decide) (Nat.le_of_ble_eq_true rfl) ?_
  intro p e s m below meth c E hr hlk hnm hq ls hl
  generalize hav : ([.ref (ad 33 0), .int a1, .int a2] : List Value).toArray = args at E ⊢
  have hx := E.1
  have hb := E.2.1
  have hown := E.2.2.2.1
  have hts := E.2.2.2.2.1
  have hw : mw D (wA mcnt ad s.heap.size) s.heap ca ad v g s.heap [] := wd.start hq
  generalize hQ : MQ below (QcRead (mTold g nc nm a1 a2)) args s 0 0 (fun _ => False) = Q
  have hl : lv_has ls 5 [(0, .ref (ad 33 0)), (1, .int a1), (2, .int a2)] := hl
  have hO5 := hO.2.2.2.2
  refine lv_aload_n hx hb dX10_told_0 rfl (lv_at hl 0 rfl) ?_
  refine lv_iload_n hx hb dX10_told_1 rfl (lv_at hl 1 rfl) ?_
  refine x_read (x_runV (rest := []) E cbX10_isChild tw_705 (kX10_isChild l D ca ad v g nw nb nc nm a1 (hO)) ⟨rfl, rfl, by decide, by decide⟩ (m_recv E hw) (fun _ _ _ _ h => h) (fun U hU _ => by rw [hU]; exact hw.1) rfl hl.1 rfl (Nat.le_of_ble_eq_true rfl) dX10_told_2 ⟨by decide, by decide⟩) ?_
  refine lv_if_ne (tgt := 10) hx hb dX10_told_5 (by decide) (fun c_5 => ?_) (fun c_5 => ?_)
  · skip
    have c_5 := bB_n0.mp c_5
    obtain ⟨j, hj, rfl⟩ := isIn_nat (by omega) c_5
    refine lv_iconst (v := 0) hx hb dX10_told_10 (by decide) ?_
    refine lv_istore_n (lv' := [(3, .int 0), (0, .ref (ad 33 0)), (1, .int (nI j)), (2, .int a2)]) hx hb dX10_told_11 rfl hl (by decide) rfl (fun ls hl => ?_)
    refine lv_iconst (v := 0) hx hb dX10_told_12 (by decide) ?_
    refine lv_istore (lv' := [(4, .int 0), (3, .int 0), (0, .ref (ad 33 0)), (1, .int (nI j)), (2, .int a2)]) hx hb dX10_told_13 hl (by decide) rfl (fun ls hl => ?_)
    have lp15 : ∀ (n : Nat) (i : Nat) (x3 : Int32), (i ≤ nm) → (x3 = nI (mCnt g (nI j) i)) → (nm - i < n) → ∀ ls : Array Slot, lv_has ls 5 [(0, .ref (ad 33 0)), (1, .int (nI j)), (2, .int a2), (3, .int x3), (4, .int (nI i))] → W p l e (rmL 3 0 0) s m args below meth c s.heap [] 0 0 Q (F0 m 15 ls []) := by
      intro n
      induction n with
      | zero =>
        intro i x3 hi h3 hfu ls hl
        exact absurd hfu (by omega)
      | succ n ih15 =>
        intro i x3 hi h3 hfu ls hl
        refine lv_iload hx hb dX10_told_15 (lv_at hl 4 rfl) ?_
        refine lv_aload_n hx hb dX10_told_17 rfl (lv_at hl 0 rfl) ?_
        refine m_geti (x := (nI nm)) E hw 3 (by decide) rfl tw_545 (hO.2.2.2.1) dX10_told_18 ?_
        refine lv_icmp_ge (tgt := 49) hx hb dX10_told_21 (by decide) (fun c_21 => ?_) (fun c_21 => ?_)
        · skip
          have hge : i = nm := by have q9 := (nI_leI (a := nm) (b := i) (by omega) (by omega)).mp c_21; omega
          rw [hge] at h3
          refine lv_iload_n hx hb dX10_told_49 rfl (lv_at hl 2 rfl) ?_
          rcases x_sw8 a2 with sw50 | sw50 | sw50 | sw50 | sw50 | sw50 | sw50 | sw50 | sw50
          · skip
            refine lv_tableIn (off := 46) (tgt := 96) hx hb dX10_told_50 (by rw [sw50]; decide) (by rw [sw50]; decide) (by rw [sw50]; decide) (by decide) ?_
            refine lv_aload_n hx hb dX10_told_96 rfl (lv_at hl 0 rfl) ?_
            refine m_getr E hw 9 (by decide) rfl tw_551 dX10_told_97 ?_
            refine lv_iload_n hx hb dX10_told_100 rfl (lv_at hl 1 rfl) ?_
            refine m_ild E hw 9 ⟨by decide, rfl, rfl⟩ j (rfl) (by show j < 60; omega) dX10_told_101 ?_
            subst hQ
            exact x_iret E hr hlk (by first | (simp [mTold, c_21, sw50]; done) | simp [mTold, nI_clamp (n := j) (by omega), c_5, c_21, sw50]) dX10_told_102
          · skip
            refine lv_tableIn (off := 53) (tgt := 103) hx hb dX10_told_50 (by rw [sw50]; decide) (by rw [sw50]; decide) (by rw [sw50]; decide) (by decide) ?_
            refine lv_aload_n hx hb dX10_told_103 rfl (lv_at hl 0 rfl) ?_
            refine m_getr E hw 10 (by decide) rfl tw_552 dX10_told_104 ?_
            refine lv_iload_n hx hb dX10_told_107 rfl (lv_at hl 1 rfl) ?_
            refine m_ild E hw 10 ⟨by decide, rfl, rfl⟩ j (rfl) (by show j < 60; omega) dX10_told_108 ?_
            subst hQ
            exact x_iret E hr hlk (by first | (simp [mTold, c_21, sw50]; done) | simp [mTold, nI_clamp (n := j) (by omega), c_5, c_21, sw50]) dX10_told_109
          · skip
            refine lv_tableIn (off := 60) (tgt := 110) hx hb dX10_told_50 (by rw [sw50]; decide) (by rw [sw50]; decide) (by rw [sw50]; decide) (by decide) ?_
            refine lv_aload_n hx hb dX10_told_110 rfl (lv_at hl 0 rfl) ?_
            refine m_getr E hw 11 (by decide) rfl tw_553 dX10_told_111 ?_
            refine lv_iload_n hx hb dX10_told_114 rfl (lv_at hl 1 rfl) ?_
            refine m_ild E hw 11 ⟨by decide, rfl, rfl⟩ j (rfl) (by show j < 60; omega) dX10_told_115 ?_
            subst hQ
            exact x_iret E hr hlk (by first | (simp [mTold, c_21, sw50]; done) | simp [mTold, nI_clamp (n := j) (by omega), c_5, c_21, sw50]) dX10_told_116
          · skip
            refine lv_tableIn (off := 67) (tgt := 117) hx hb dX10_told_50 (by rw [sw50]; decide) (by rw [sw50]; decide) (by rw [sw50]; decide) (by decide) ?_
            refine lv_aload_n hx hb dX10_told_117 rfl (lv_at hl 0 rfl) ?_
            refine m_getr E hw 12 (by decide) rfl tw_554 dX10_told_118 ?_
            refine lv_iload_n hx hb dX10_told_121 rfl (lv_at hl 1 rfl) ?_
            refine m_ild E hw 12 ⟨by decide, rfl, rfl⟩ j (rfl) (by show j < 60; omega) dX10_told_122 ?_
            subst hQ
            exact x_iret E hr hlk (by first | (simp [mTold, c_21, sw50]; done) | simp [mTold, nI_clamp (n := j) (by omega), c_5, c_21, sw50]) dX10_told_123
          · skip
            refine lv_tableIn (off := 74) (tgt := 124) hx hb dX10_told_50 (by rw [sw50]; decide) (by rw [sw50]; decide) (by rw [sw50]; decide) (by decide) ?_
            refine lv_aload_n hx hb dX10_told_124 rfl (lv_at hl 0 rfl) ?_
            refine m_getr E hw 13 (by decide) rfl tw_555 dX10_told_125 ?_
            refine lv_iload_n hx hb dX10_told_128 rfl (lv_at hl 1 rfl) ?_
            refine m_ild E hw 13 ⟨by decide, rfl, rfl⟩ j (rfl) (by show j < 60; omega) dX10_told_129 ?_
            subst hQ
            exact x_iret E hr hlk (by first | (simp [mTold, c_21, sw50]; done) | simp [mTold, nI_clamp (n := j) (by omega), c_5, c_21, sw50]) dX10_told_130
          · skip
            refine lv_tableIn (off := 81) (tgt := 131) hx hb dX10_told_50 (by rw [sw50]; decide) (by rw [sw50]; decide) (by rw [sw50]; decide) (by decide) ?_
            refine lv_aload_n hx hb dX10_told_131 rfl (lv_at hl 0 rfl) ?_
            refine m_getr E hw 14 (by decide) rfl tw_556 dX10_told_132 ?_
            refine lv_iload_n hx hb dX10_told_135 rfl (lv_at hl 1 rfl) ?_
            refine m_ild E hw 14 ⟨by decide, rfl, rfl⟩ j (rfl) (by show j < 60; omega) dX10_told_136 ?_
            subst hQ
            exact x_iret E hr hlk (by first | (simp [mTold, c_21, sw50]; done) | simp [mTold, nI_clamp (n := j) (by omega), c_5, c_21, sw50]) dX10_told_137
          · skip
            refine lv_tableIn (off := 88) (tgt := 138) hx hb dX10_told_50 (by rw [sw50]; decide) (by rw [sw50]; decide) (by rw [sw50]; decide) (by decide) ?_
            refine lv_aload_n hx hb dX10_told_138 rfl (lv_at hl 0 rfl) ?_
            refine m_getr E hw 15 (by decide) rfl tw_557 dX10_told_139 ?_
            refine lv_iload_n hx hb dX10_told_142 rfl (lv_at hl 1 rfl) ?_
            refine m_ild E hw 15 ⟨by decide, rfl, rfl⟩ j (rfl) (by show j < 60; omega) dX10_told_143 ?_
            subst hQ
            exact x_iret E hr hlk (by first | (simp [mTold, c_21, sw50]; done) | simp [mTold, nI_clamp (n := j) (by omega), c_5, c_21, sw50]) dX10_told_144
          · skip
            refine lv_tableIn (off := 95) (tgt := 145) hx hb dX10_told_50 (by rw [sw50]; decide) (by rw [sw50]; decide) (by rw [sw50]; decide) (by decide) ?_
            refine lv_iload_n hx hb dX10_told_145 rfl (lv_at hl 3 rfl) ?_
            subst hQ
            exact x_iret E hr hlk (by rw [h3]; simp [mTold, c_5, c_21, sw50]) dX10_told_146
          · skip
            refine lv_tableOut (tgt := 147) hx hb dX10_told_50 sw50.1 (by decide) ?_
            replace sw50 := sw50.2
            refine lv_iconst (v := (-1)) hx hb dX10_told_147 (by decide) ?_
            subst hQ
            exact x_iret E hr hlk (by simp [mTold, sw50]) dX10_told_148
        · skip
          have hlt : i < nm := by have q9 := mt (nI_leI (a := nm) (b := i) (by omega) (by omega)).mpr c_21; omega
          refine lv_iload_n hx hb dX10_told_24 rfl (lv_at hl 3 rfl) ?_
          refine lv_aload_n hx hb dX10_told_25 rfl (lv_at hl 0 rfl) ?_
          refine m_getr E hw 18 (by decide) rfl tw_560 dX10_told_26 ?_
          refine lv_iload hx hb dX10_told_29 (lv_at hl 4 rfl) ?_
          refine m_ild E hw 18 ⟨by decide, rfl, rfl⟩ i (rfl) (by show i < 300; omega) dX10_told_31 ?_
          refine lv_iload_n hx hb dX10_told_32 rfl (lv_at hl 1 rfl) ?_
          refine lv_icmp_ne (tgt := 40) hx hb dX10_told_33 (by decide) (fun c_33 => ?_) (fun c_33 => ?_)
          · skip
            refine lv_iconst (v := 0) hx hb dX10_told_40 (by decide) ?_
            refine lv_iadd hx hb dX10_told_41 ?_
            refine lv_istore_n (lv' := [(3, .int (x3 + 0)), (0, .ref (ad 33 0)), (1, .int (nI j)), (2, .int a2), (4, .int (nI i))]) hx hb dX10_told_42 rfl hl (by decide) rfl (fun ls hl => ?_)
            refine lv_iinc (v := (nI (i + 1))) (lv' := [(4, .int (nI (i + 1))), (3, .int (x3 + 0)), (0, .ref (ad 33 0)), (1, .int (nI j)), (2, .int a2)]) hx hb dX10_told_43 hl (k := 4) rfl (nI_1 _) (by decide) rfl (fun ls hl => ?_)
            refine lv_goto (tgt := 15) hx hb dX10_told_46 (by decide) ?_
            exact ih15 (i + 1) (x3 + 0) (hlt) (by rw [h3]; simp [mCnt, nI_1, c_21, c_33]) (by omega) ls (lv_sub hl [2, 3, 4, 1, 0] (rfl))
          · skip
            refine lv_iconst (v := 1) hx hb dX10_told_36 (by decide) ?_
            refine lv_goto (tgt := 41) hx hb dX10_told_37 (by decide) ?_
            refine lv_iadd hx hb dX10_told_41 ?_
            refine lv_istore_n (lv' := [(3, .int (x3 + 1)), (0, .ref (ad 33 0)), (1, .int (nI j)), (2, .int a2), (4, .int (nI i))]) hx hb dX10_told_42 rfl hl (by decide) rfl (fun ls hl => ?_)
            refine lv_iinc (v := (nI (i + 1))) (lv' := [(4, .int (nI (i + 1))), (3, .int (x3 + 1)), (0, .ref (ad 33 0)), (1, .int (nI j)), (2, .int a2)]) hx hb dX10_told_43 hl (k := 4) rfl (nI_1 _) (by decide) rfl (fun ls hl => ?_)
            refine lv_goto (tgt := 15) hx hb dX10_told_46 (by decide) ?_
            exact ih15 (i + 1) (x3 + 1) (hlt) (by rw [h3]; simp [mCnt, nI_1, c_21, c_33]) (by omega) ls (lv_sub hl [2, 3, 4, 1, 0] (rfl))
    exact lp15 (nm + 1) 0 0 (Nat.zero_le _) (rfl) (by omega) ls (lv_sub hl [2, 3, 4, 1, 0] (rfl))
  · skip
    have c_5 := bB_0.mp c_5
    refine lv_iconst (v := (-1)) hx hb dX10_told_8 (by decide) ?_
    subst hQ
    exact x_iret E hr hlk (by first | (simp [mTold, c_5]; done) | simp [mTold, nI_clamp (n := j) (by omega), c_5, c_5]) dX10_told_9
set_option maxHeartbeats 4000000 in
set_option maxRecDepth 100000 in
theorem kX10_count (l : Launch) (D : va_G) (ca : Nat → ClassId) (ad : Nat → Nat → Nat) (v : Nat → Int32) (g : Nat → Nat → Int32) (nw : Nat) (nb : Nat) (nc : Nat) (nm : Nat) (a1 : Int32) (hO : mOK v nw nb nc nm) : Met l yX10_count (wz yX10_count cX10_count 2 (some .int)) (rmL 3 0 0) (va_Pc [.ref (ad 33 0), .int a1] (fun U => mq D ca ad v g U.heap ∧ gK D ca U)) (QcRead (mCount v g nw nb nc nm a1)) 0 0 (fun _ => False) := by
  refine x_met (by decide) (Nat.le_of_ble_eq_true rfl) ?_
  intro p e s m below meth c E hr hlk hnm hq ls hl
  generalize hav : ([.ref (ad 33 0), .int a1] : List Value).toArray = args at E ⊢
  have hx := E.1
  have hb := E.2.1
  have hown := E.2.2.2.1
  have hts := E.2.2.2.2.1
  have hw : mw D (wA mcnt ad s.heap.size) s.heap ca ad v g s.heap [] := wd.start hq
  generalize hQ : MQ below (QcRead (mCount v g nw nb nc nm a1)) args s 0 0 (fun _ => False) = Q
  have hl : lv_has ls 2 [(0, .ref (ad 33 0)), (1, .int a1)] := hl
  refine lv_iload_n hx hb dX10_count_0 rfl (lv_at hl 1 rfl) ?_
  rcases x_sw8 a1 with sw1 | sw1 | sw1 | sw1 | sw1 | sw1 | sw1 | sw1 | sw1
  · skip
    refine lv_tableIn (off := 47) (tgt := 48) hx hb dX10_count_1 (by rw [sw1]; decide) (by rw [sw1]; decide) (by rw [sw1]; decide) (by decide) ?_
    refine lv_aload_n hx hb dX10_count_48 rfl (lv_at hl 0 rfl) ?_
    refine m_geti (x := (nI nw)) E hw 0 (by decide) rfl tw_542 (hO.1) dX10_count_49 ?_
    subst hQ
    exact x_iret E hr hlk (by simp [mCount, sw1]) dX10_count_52
  · skip
    refine lv_tableIn (off := 52) (tgt := 53) hx hb dX10_count_1 (by rw [sw1]; decide) (by rw [sw1]; decide) (by rw [sw1]; decide) (by decide) ?_
    refine lv_aload_n hx hb dX10_count_53 rfl (lv_at hl 0 rfl) ?_
    refine m_geti (x := (nI nc)) E hw 2 (by decide) rfl tw_544 (hO.2.2.1) dX10_count_54 ?_
    subst hQ
    exact x_iret E hr hlk (by simp [mCount, sw1]) dX10_count_57
  · skip
    refine lv_tableIn (off := 57) (tgt := 58) hx hb dX10_count_1 (by rw [sw1]; decide) (by rw [sw1]; decide) (by rw [sw1]; decide) (by decide) ?_
    refine lv_aload_n hx hb dX10_count_58 rfl (lv_at hl 0 rfl) ?_
    refine m_geti (x := (nI nb)) E hw 1 (by decide) rfl tw_543 (hO.2.1) dX10_count_59 ?_
    subst hQ
    exact x_iret E hr hlk (by simp [mCount, sw1]) dX10_count_62
  · skip
    refine lv_tableIn (off := 62) (tgt := 63) hx hb dX10_count_1 (by rw [sw1]; decide) (by rw [sw1]; decide) (by rw [sw1]; decide) (by decide) ?_
    refine lv_aload_n hx hb dX10_count_63 rfl (lv_at hl 0 rfl) ?_
    refine m_geti (x := (nI nm)) E hw 3 (by decide) rfl tw_545 (hO.2.2.2.1) dX10_count_64 ?_
    subst hQ
    exact x_iret E hr hlk (by simp [mCount, sw1]) dX10_count_67
  · skip
    refine lv_tableIn (off := 67) (tgt := 68) hx hb dX10_count_1 (by rw [sw1]; decide) (by rw [sw1]; decide) (by rw [sw1]; decide) (by decide) ?_
    refine lv_aload_n hx hb dX10_count_68 rfl (lv_at hl 0 rfl) ?_
    refine m_geti (x := (v 4)) E hw 4 (by decide) rfl tw_546 (rfl) dX10_count_69 ?_
    subst hQ
    exact x_iret E hr hlk (by simp [mCount, sw1]) dX10_count_72
  · skip
    refine lv_tableIn (off := 72) (tgt := 73) hx hb dX10_count_1 (by rw [sw1]; decide) (by rw [sw1]; decide) (by rw [sw1]; decide) (by decide) ?_
    refine lv_aload_n hx hb dX10_count_73 rfl (lv_at hl 0 rfl) ?_
    refine m_geti (x := (v 27)) E hw 27 (by decide) rfl tw_569 (rfl) dX10_count_74 ?_
    subst hQ
    exact x_iret E hr hlk (by simp [mCount, sw1]) dX10_count_77
  · skip
    refine lv_tableIn (off := 77) (tgt := 78) hx hb dX10_count_1 (by rw [sw1]; decide) (by rw [sw1]; decide) (by rw [sw1]; decide) (by decide) ?_
    refine lv_aload_n hx hb dX10_count_78 rfl (lv_at hl 0 rfl) ?_
    refine m_geti (x := (v 5)) E hw 5 (by decide) rfl tw_547 (rfl) dX10_count_79 ?_
    subst hQ
    exact x_iret E hr hlk (by simp [mCount, sw1]) dX10_count_82
  · skip
    refine lv_tableIn (off := 82) (tgt := 83) hx hb dX10_count_1 (by rw [sw1]; decide) (by rw [sw1]; decide) (by rw [sw1]; decide) (by decide) ?_
    refine lv_aload_n hx hb dX10_count_83 rfl (lv_at hl 0 rfl) ?_
    refine lv_iconst (v := 0) hx hb dX10_count_84 (by decide) ?_
    refine lv_aload_n hx hb dX10_count_85 rfl (lv_at hl 0 rfl) ?_
    refine m_geti (x := (nI nw)) E hw 0 (by decide) rfl tw_542 (hO.1) dX10_count_86 ?_
    refine lv_aload_n hx hb dX10_count_89 rfl (lv_at hl 0 rfl) ?_
    refine m_geti (x := (nI nw)) E hw 0 (by decide) rfl tw_542 (hO.1) dX10_count_90 ?_
    refine x_read (x_runV (rest := []) E cbX10_manyAt tw_689 (kX10_manyAt l D ca ad v g nw nb nc nm 0 (nI nw) (nI nw) (hO)) ⟨rfl, rfl, by decide, by decide⟩ (m_recv E hw) (fun _ _ _ _ h => h) (fun U hU _ => by rw [hU]; exact hw.1) rfl hl.1 rfl (Nat.le_of_ble_eq_true rfl) dX10_count_93 ⟨by decide, by decide⟩) ?_
    subst hQ
    exact x_iret E hr hlk (by simp [mCount, sw1]) dX10_count_96
  · skip
    refine lv_tableOut (tgt := 97) hx hb dX10_count_1 sw1.1 (by decide) ?_
    replace sw1 := sw1.2
    refine lv_iconst (v := (-1)) hx hb dX10_count_97 (by decide) ?_
    subst hQ
    exact x_iret E hr hlk (by simp [mCount, sw1]) dX10_count_98
