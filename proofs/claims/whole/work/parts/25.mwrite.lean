set_option maxHeartbeats 4000000 in
set_option maxRecDepth 100000 in
theorem kX10_days (l : Launch) (D : va_G) (ca : Nat → ClassId) (ad : Nat → Nat → Nat) (z9 : Nat) (v : Nat → Int32) (g : Nat → Nat → Int32) (nw : Nat) (nb : Nat) (nc : Nat) (nm : Nat) (a1 : Int32) (hO : mOK v nw nb nc nm) : Met l yX10_days (wz yX10_days cX10_days 2 (some .int)) (rmL 2 0 0) (va_Pc [.ref (ad 33 0), .int a1] (fun U => (U.heap.size = z9 ∧ mq D ca ad v g U.heap) ∧ gK D ca U)) (QcM D ca ad (wA mcnt ad z9) (some (.int (mDaysW v g nw a1).1)) ((mDaysW v g nw a1).2.1) ((mDaysW v g nw a1).2.2)) 0 0 (wA mcnt ad z9) := by
  refine x_met (by decide) (Nat.le_of_ble_eq_true rfl) ?_
  intro p e s m below meth c E hr hlk hnm hq ls hl
  obtain ⟨hsz9, hq⟩ := hq
  subst hsz9
  generalize hav : ([.ref (ad 33 0), .int a1] : List Value).toArray = args at E ⊢
  have hx := E.1
  have hb := E.2.1
  have hown := E.2.2.2.1
  have hts := E.2.2.2.2.1
  have hw : mw D (wA mcnt ad s.heap.size) s.heap ca ad v g s.heap [] := wd.start hq
  generalize hQ : MQ below (QcM D ca ad (wA mcnt ad s.heap.size) (some (.int (mDaysW v g nw a1).1)) ((mDaysW v g nw a1).2.1) ((mDaysW v g nw a1).2.2)) args s 0 0 (wA mcnt ad s.heap.size) = Q
  generalize hA9 : wA mcnt ad s.heap.size = A at hw hQ
  have hl : lv_has ls 2 [(0, .ref (ad 33 0)), (1, .int a1)] := hl
  suffices hgo : ∀ (H : Heap) (locs : List Loc), mw D A s.heap ca ad v g H locs → W p l e (rmL 2 0 0) s m args below meth c H locs 0 0 Q (F0 m 0 ls []) from hgo _ _ hw
  clear hw
  intro H locs hw
  refine lv_iload_n hx hb dX10_days_0 rfl (lv_at hl 1 rfl) ?_
  refine lv_iconst (v := 0) hx hb dX10_days_1 (by decide) ?_
  refine lv_sipush (v := 1000) hx hb dX10_days_2 (by decide) ?_
  refine x_read (x_runS (rest := []) E cbX10_in tw_647 (kX10_in l D ca a1 0 1000 ) ⟨rfl, rfl, by decide, by decide⟩ (fun _ _ _ _ h => h) (fun _ _ _ => trivial) rfl hl.1 rfl (Nat.le_of_ble_eq_true rfl) dX10_days_5 ⟨by decide, by decide⟩) ?_
  refine lv_if_eq (tgt := 23) hx hb dX10_days_8 (by decide) (fun c_8 => ?_) (fun c_8 => ?_)
  · skip
    have c_8 := bB_0.mp c_8
    refine lv_iconst (v := (-1)) hx hb dX10_days_23 (by decide) ?_
    subst hQ
    exact m_iretS E hr hlk hw (by simp [mDaysW, c_8]) dX10_days_24
  · skip
    have c_8 := bB_n0.mp c_8
    refine lv_aload_n hx hb dX10_days_11 rfl (lv_at hl 0 rfl) ?_
    refine m_geti (x := (nI nw)) E hw 0 (by decide) rfl tw_542 (hO.1) dX10_days_12 ?_
    refine lv_iload_n hx hb dX10_days_15 rfl (lv_at hl 1 rfl) ?_
    refine lv_iadd hx hb dX10_days_16 ?_
    refine lv_sipush (v := 2000) hx hb dX10_days_17 (by decide) ?_
    refine lv_icmp_le (tgt := 25) hx hb dX10_days_20 (by decide) (fun c_20 => ?_) (fun c_20 => ?_)
    · skip
      refine lv_aload_n hx hb dX10_days_25 rfl (lv_at hl 0 rfl) ?_
      refine lv_dup hx hb dX10_days_26 rfl ?_
      refine m_geti (x := (nI nw)) E hw 0 (by decide) rfl tw_542 (hO.1) dX10_days_27 ?_
      refine lv_iload_n hx hb dX10_days_30 rfl (lv_at hl 1 rfl) ?_
      refine lv_iadd hx hb dX10_days_31 ?_
      refine m_put E hw 0 (by decide) rfl tw_542 dX10_days_32 (fun H locs hw => ?_)
      refine lv_aload_n hx hb dX10_days_35 rfl (lv_at hl 0 rfl) ?_
      refine m_geti (x := (nI nw + a1)) E hw 0 (by decide) rfl tw_542 (by simp [upd]) dX10_days_36 ?_
      subst hQ
      exact m_iretS E hr hlk hw (by simp [mDaysW, c_8, c_20]) dX10_days_39
    · skip
      refine lv_iconst (v := (-1)) hx hb dX10_days_23 (by decide) ?_
      subst hQ
      exact m_iretS E hr hlk hw (by simp [mDaysW, c_8, c_20]) dX10_days_24
set_option maxHeartbeats 4000000 in
set_option maxRecDepth 100000 in
theorem kX10_away (l : Launch) (D : va_G) (ca : Nat → ClassId) (ad : Nat → Nat → Nat) (z9 : Nat) (v : Nat → Int32) (g : Nat → Nat → Int32) (nw : Nat) (nb : Nat) (nc : Nat) (nm : Nat) (a1 : Int32) (a2 : Int32) (hO : mOK v nw nb nc nm) (hWo : mWO g nb) : Met l yX10_away (wz yX10_away cX10_away 4 (some .int)) (rmL 3 0 0) (va_Pc [.ref (ad 33 0), .int a1, .int a2] (fun U => (U.heap.size = z9 ∧ mq D ca ad v g U.heap) ∧ gK D ca U)) (QcM D ca ad (wA mcnt ad z9) (some (.int (mAwayW v g nb a1 a2).1)) ((mAwayW v g nb a1 a2).2.1) ((mAwayW v g nb a1 a2).2.2)) 0 0 (wA mcnt ad z9) := by
  refine x_met (by decide) (Nat.le_of_ble_eq_true rfl) ?_
  intro p e s m below meth c E hr hlk hnm hq ls hl
  obtain ⟨hsz9, hq⟩ := hq
  subst hsz9
  generalize hav : ([.ref (ad 33 0), .int a1, .int a2] : List Value).toArray = args at E ⊢
  have hx := E.1
  have hb := E.2.1
  have hown := E.2.2.2.1
  have hts := E.2.2.2.2.1
  have hw : mw D (wA mcnt ad s.heap.size) s.heap ca ad v g s.heap [] := wd.start hq
  generalize hQ : MQ below (QcM D ca ad (wA mcnt ad s.heap.size) (some (.int (mAwayW v g nb a1 a2).1)) ((mAwayW v g nb a1 a2).2.1) ((mAwayW v g nb a1 a2).2.2)) args s 0 0 (wA mcnt ad s.heap.size) = Q
  generalize hA9 : wA mcnt ad s.heap.size = A at hw hQ
  have hl : lv_has ls 4 [(0, .ref (ad 33 0)), (1, .int a1), (2, .int a2)] := hl
  have hO5 := hO.2.2.2.2
  suffices hgo : ∀ (H : Heap) (locs : List Loc), mw D A s.heap ca ad v g H locs → W p l e (rmL 3 0 0) s m args below meth c H locs 0 0 Q (F0 m 0 ls []) from hgo _ _ hw
  clear hw
  intro H locs hw
  refine lv_aload_n hx hb dX10_away_0 rfl (lv_at hl 0 rfl) ?_
  refine lv_iload_n hx hb dX10_away_1 rfl (lv_at hl 1 rfl) ?_
  refine lv_iload_n hx hb dX10_away_2 rfl (lv_at hl 2 rfl) ?_
  refine x_read (x_runV (rest := []) E cbX10_isWoman tw_664 (kX10_isWoman l D ca ad v g nw nb nc nm a1 a2 (hO)) ⟨rfl, rfl, by decide, by decide⟩ (m_recv E hw) (fun _ _ _ _ h => h) (fun U hU _ => by rw [hU]; exact hw.1) rfl hl.1 rfl (Nat.le_of_ble_eq_true rfl) dX10_away_3 ⟨by decide, by decide⟩) ?_
  refine lv_if_eq (tgt := 23) hx hb dX10_away_6 (by decide) (fun c_6 => ?_) (fun c_6 => ?_)
  · skip
    have c_6 := bB_0.mp c_6
    refine lv_bipush (v := (-2)) hx hb dX10_away_23 (by decide) ?_
    subst hQ
    exact m_iretS E hr hlk hw (by first | (simp [mAwayW, c_6]; done) | simp [mAwayW, nI_clamp (n := b1) (by omega), nI_clamp (n := j1) (by omega), c_6]) dX10_away_25
  · skip
    have c_6 := bB_n0.mp c_6
    obtain ⟨b1, j1, n1, g1, g2, g3, g4, rfl, rfl⟩ := mWom_nat hO5.2.1 hWo c_6
    refine lv_aload_n hx hb dX10_away_9 rfl (lv_at hl 0 rfl) ?_
    refine m_getr E hw 7 (by decide) rfl tw_549 dX10_away_10 ?_
    refine lv_bipush (v := 20) hx hb dX10_away_13 (by decide) ?_
    refine lv_iload_n hx hb dX10_away_15 rfl (lv_at hl 1 rfl) ?_
    refine lv_imul hx hb dX10_away_16 ?_
    refine x_top (x := (20 * nI b1)) (y := (nI (20 * b1))) (pk_mul 20 _) ?_
    refine lv_iload_n hx hb dX10_away_17 rfl (lv_at hl 2 rfl) ?_
    refine lv_iadd hx hb dX10_away_18 ?_
    refine x_top (x := (nI (20 * b1) + nI j1)) (y := (nI (20 * b1 + j1))) (nI_add _ _) ?_
    refine m_ild E hw 7 ⟨by decide, rfl, rfl⟩ (20 * b1 + j1) (rfl) (by show _ < 1000; omega) dX10_away_19 ?_
    refine lv_if_eq (tgt := 26) hx hb dX10_away_20 (by decide) (fun c_20 => ?_) (fun c_20 => ?_)
    · skip
      refine lv_aload_n hx hb dX10_away_26 rfl (lv_at hl 0 rfl) ?_
      refine m_getr E hw 7 (by decide) rfl tw_549 dX10_away_27 ?_
      refine lv_bipush (v := 20) hx hb dX10_away_30 (by decide) ?_
      refine lv_iload_n hx hb dX10_away_32 rfl (lv_at hl 1 rfl) ?_
      refine lv_imul hx hb dX10_away_33 ?_
      refine x_top (x := (20 * nI b1)) (y := (nI (20 * b1))) (pk_mul 20 _) ?_
      refine lv_iload_n hx hb dX10_away_34 rfl (lv_at hl 2 rfl) ?_
      refine lv_iadd hx hb dX10_away_35 ?_
      refine x_top (x := (nI (20 * b1) + nI j1)) (y := (nI (20 * b1 + j1))) (nI_add _ _) ?_
      refine lv_iconst (v := 3) hx hb dX10_away_36 (by decide) ?_
      refine m_ist E hw 7 ⟨by decide, rfl, rfl⟩ (20 * b1 + j1) (rfl) (by show _ < 1000; omega) dX10_away_37 (fun H locs hw => ?_)
      refine lv_iconst (v := 0) hx hb dX10_away_38 (by decide) ?_
      refine lv_istore_n (lv' := [(3, .int 0), (0, .ref (ad 33 0)), (1, .int (nI b1)), (2, .int (nI j1))]) hx hb dX10_away_39 rfl hl (by decide) rfl (fun ls hl => ?_)
      have lp40 : ∀ (n : Nat) (k : Nat), (k ≤ n1) → (∀ i, i < k → decide ((upd2 g 7 (20 * b1 + j1) 3) 7 (20 * b1 + i) = 1) = false) → (n1 - k < n) → ∀ (H : Heap) (locs : List Loc), mw D A s.heap ca ad v (upd2 g 7 (20 * b1 + j1) 3) H locs → ∀ ls : Array Slot, lv_has ls 4 [(0, .ref (ad 33 0)), (1, .int (nI b1)), (2, .int (nI j1)), (3, .int (nI k))] → W p l e (rmL 3 0 0) s m args below meth c H locs 0 0 Q (F0 m 40 ls []) := by
        intro n
        induction n with
        | zero =>
          intro k hi hn hfu H locs hw ls hl
          exact absurd hfu (by omega)
        | succ n ih40 =>
          intro k hi hn hfu H locs hw ls hl
          refine lv_iload_n hx hb dX10_away_40 rfl (lv_at hl 3 rfl) ?_
          refine lv_aload_n hx hb dX10_away_41 rfl (lv_at hl 0 rfl) ?_
          refine m_getr E hw 6 (by decide) rfl tw_548 dX10_away_42 ?_
          refine lv_iload_n hx hb dX10_away_45 rfl (lv_at hl 1 rfl) ?_
          refine m_ild E hw 6 ⟨by decide, rfl, rfl⟩ b1 (rfl) (by show b1 < 50; omega) dX10_away_46 ?_
          refine x_top (x := ((upd2 g 7 (20 * b1 + j1) 3) 6 b1)) (y := (nI n1)) (by simp [upd2, g4]) ?_
          refine lv_icmp_ge (tgt := 85) hx hb dX10_away_47 (by decide) (fun c_47 => ?_) (fun c_47 => ?_)
          · skip
            have hge : k = n1 := by have q9 := (nI_leI (a := n1) (b := k) (by omega) (by omega)).mp c_47; omega
            refine lv_iconst (v := (-1)) hx hb dX10_away_85 (by decide) ?_
            subst hQ
            exact m_iretS E hr hlk hw (by have hf := firstB_none (n := n1) (hge ▸ hn); simp [mAwayW, nI_clamp (n := b1) (by omega), nI_clamp (n := j1) (by omega), c_6, c_20, g4, nI_clamp (n := n1) (by omega), hf]) dX10_away_86
          · skip
            have hlt : k < n1 := by have q9 := mt (nI_leI (a := n1) (b := k) (by omega) (by omega)).mpr c_47; omega
            refine lv_aload_n hx hb dX10_away_50 rfl (lv_at hl 0 rfl) ?_
            refine m_getr E hw 7 (by decide) rfl tw_549 dX10_away_51 ?_
            refine lv_bipush (v := 20) hx hb dX10_away_54 (by decide) ?_
            refine lv_iload_n hx hb dX10_away_56 rfl (lv_at hl 1 rfl) ?_
            refine lv_imul hx hb dX10_away_57 ?_
            refine x_top (x := (20 * nI b1)) (y := (nI (20 * b1))) (pk_mul 20 _) ?_
            refine lv_iload_n hx hb dX10_away_58 rfl (lv_at hl 3 rfl) ?_
            refine lv_iadd hx hb dX10_away_59 ?_
            refine x_top (x := (nI (20 * b1) + nI k)) (y := (nI (20 * b1 + k))) (nI_add _ _) ?_
            refine m_ild E hw 7 ⟨by decide, rfl, rfl⟩ (20 * b1 + k) (rfl) (by show _ < 1000; omega) dX10_away_60 ?_
            refine lv_iconst (v := 1) hx hb dX10_away_61 (by decide) ?_
            refine lv_icmp_ne (tgt := 79) hx hb dX10_away_62 (by decide) (fun c_62 => ?_) (fun c_62 => ?_)
            · skip
              refine lv_iinc (v := (nI (k + 1))) (lv' := [(3, .int (nI (k + 1))), (0, .ref (ad 33 0)), (1, .int (nI b1)), (2, .int (nI j1))]) hx hb dX10_away_79 hl (k := 3) rfl (nI_1 _) (by decide) rfl (fun ls hl => ?_)
              refine lv_goto (tgt := 40) hx hb dX10_away_82 (by decide) ?_
              exact ih40 (k + 1) (hlt) (fun i h => by rcases Nat.lt_or_ge i k with q | q; exact hn i q; rw [show i = k by omega]; simp [c_47, c_62]) (by omega) _ _ (hw) ls (lv_sub hl [1, 2, 3, 0] (rfl))
            · skip
              refine lv_aload_n hx hb dX10_away_65 rfl (lv_at hl 0 rfl) ?_
              refine m_getr E hw 7 (by decide) rfl tw_549 dX10_away_66 ?_
              refine lv_bipush (v := 20) hx hb dX10_away_69 (by decide) ?_
              refine lv_iload_n hx hb dX10_away_71 rfl (lv_at hl 1 rfl) ?_
              refine lv_imul hx hb dX10_away_72 ?_
              refine x_top (x := (20 * nI b1)) (y := (nI (20 * b1))) (pk_mul 20 _) ?_
              refine lv_iload_n hx hb dX10_away_73 rfl (lv_at hl 3 rfl) ?_
              refine lv_iadd hx hb dX10_away_74 ?_
              refine x_top (x := (nI (20 * b1) + nI k)) (y := (nI (20 * b1 + k))) (nI_add _ _) ?_
              refine lv_iconst (v := 0) hx hb dX10_away_75 (by decide) ?_
              refine m_ist E hw 7 ⟨by decide, rfl, rfl⟩ (20 * b1 + k) (rfl) (by show _ < 1000; omega) dX10_away_76 (fun H locs hw => ?_)
              refine lv_iload_n hx hb dX10_away_77 rfl (lv_at hl 3 rfl) ?_
              subst hQ
              exact m_iretS E hr hlk hw (by have hf := firstB_at (n := n1) hn (by simp [c_47, c_62]) hlt; simp [mAwayW, nI_clamp (n := b1) (by omega), nI_clamp (n := j1) (by omega), c_6, c_20, g4, nI_clamp (n := n1) (by omega), hf, hlt]) dX10_away_78
      exact lp40 (n1 + 1) 0 (Nat.zero_le _) (fun i h => absurd h (Nat.not_lt_zero _)) (by omega) _ _ (hw) ls (lv_sub hl [1, 2, 3, 0] (rfl))
    · skip
      refine lv_bipush (v := (-2)) hx hb dX10_away_23 (by decide) ?_
      subst hQ
      exact m_iretS E hr hlk hw (by first | (simp [mAwayW, c_6, c_20]; done) | simp [mAwayW, nI_clamp (n := b1) (by omega), nI_clamp (n := j1) (by omega), c_6, c_20]) dX10_away_25
set_option maxHeartbeats 4000000 in
set_option maxRecDepth 100000 in
theorem kX10_leave (l : Launch) (D : va_G) (ca : Nat → ClassId) (ad : Nat → Nat → Nat) (z9 : Nat) (v : Nat → Int32) (g : Nat → Nat → Int32) (nw : Nat) (nb : Nat) (nc : Nat) (nm : Nat) (a1 : Int32) (a2 : Int32) (a3 : Int32) (a4 : Int32) (a5 : Int32) (a6 : Int32) (hO : mOK v nw nb nc nm) (hWo : mWO g nb) : Met l yX10_leave (wz yX10_leave cX10_leave 7 (some .int)) (rmL 3 0 0) (va_Pc [.ref (ad 33 0), .int a1, .int a2, .int a3, .int a4, .int a5, .int a6] (fun U => (U.heap.size = z9 ∧ mq D ca ad v g U.heap) ∧ gK D ca U)) (QcM D ca ad (wA mcnt ad z9) (some (.int (mLeaveW v g nw nb nc a1 a2 a3 a4 a5 a6).1)) ((mLeaveW v g nw nb nc a1 a2 a3 a4 a5 a6).2.1) ((mLeaveW v g nw nb nc a1 a2 a3 a4 a5 a6).2.2)) 0 0 (wA mcnt ad z9) := by
  refine x_met (by decide) (Nat.le_of_ble_eq_true rfl) ?_
  intro p e s m below meth c E hr hlk hnm hq ls hl
  obtain ⟨hsz9, hq⟩ := hq
  subst hsz9
  generalize hav : ([.ref (ad 33 0), .int a1, .int a2, .int a3, .int a4, .int a5, .int a6] : List Value).toArray = args at E ⊢
  have hx := E.1
  have hb := E.2.1
  have hown := E.2.2.2.1
  have hts := E.2.2.2.2.1
  have hw : mw D (wA mcnt ad s.heap.size) s.heap ca ad v g s.heap [] := wd.start hq
  generalize hQ : MQ below (QcM D ca ad (wA mcnt ad s.heap.size) (some (.int (mLeaveW v g nw nb nc a1 a2 a3 a4 a5 a6).1)) ((mLeaveW v g nw nb nc a1 a2 a3 a4 a5 a6).2.1) ((mLeaveW v g nw nb nc a1 a2 a3 a4 a5 a6).2.2)) args s 0 0 (wA mcnt ad s.heap.size) = Q
  generalize hA9 : wA mcnt ad s.heap.size = A at hw hQ
  have hl : lv_has ls 7 [(0, .ref (ad 33 0)), (1, .int a1), (2, .int a2), (3, .int a3), (4, .int a4), (5, .int a5), (6, .int a6)] := hl
  have hO5 := hO.2.2.2.2
  suffices hgo : ∀ (H : Heap) (locs : List Loc), mw D A s.heap ca ad v g H locs → W p l e (rmL 3 0 0) s m args below meth c H locs 0 0 Q (F0 m 0 ls []) from hgo _ _ hw
  clear hw
  intro H locs hw
  refine lv_aload_n hx hb dX10_leave_0 rfl (lv_at hl 0 rfl) ?_
  refine lv_iload_n hx hb dX10_leave_1 rfl (lv_at hl 1 rfl) ?_
  refine lv_iload_n hx hb dX10_leave_2 rfl (lv_at hl 2 rfl) ?_
  refine x_read (x_runV (rest := []) E cbX10_isWoman tw_664 (kX10_isWoman l D ca ad v g nw nb nc nm a1 a2 (hO)) ⟨rfl, rfl, by decide, by decide⟩ (m_recv E hw) (fun _ _ _ _ h => h) (fun U hU _ => by rw [hU]; exact hw.1) rfl hl.1 rfl (Nat.le_of_ble_eq_true rfl) dX10_leave_3 ⟨by decide, by decide⟩) ?_
  refine lv_if_eq (tgt := 74) hx hb dX10_leave_6 (by decide) (fun c_6 => ?_) (fun c_6 => ?_)
  · skip
    have c_6 := bB_0.mp c_6
    refine lv_iconst (v := (-1)) hx hb dX10_leave_74 (by decide) ?_
    subst hQ
    exact m_iretS E hr hlk hw (by first | (simp [mLeaveW, mLeaveOK, c_6]; done) | simp [mLeaveW, mLeaveOK, nI_clamp (n := b1) (by omega), nI_clamp (n := j1) (by omega), c_6]) dX10_leave_75
  · skip
    have c_6 := bB_n0.mp c_6
    obtain ⟨b1, j1, n1, g1, g2, g3, g4, rfl, rfl⟩ := mWom_nat hO5.2.1 hWo c_6
    refine lv_aload_n hx hb dX10_leave_9 rfl (lv_at hl 0 rfl) ?_
    refine m_getr E hw 7 (by decide) rfl tw_549 dX10_leave_10 ?_
    refine lv_bipush (v := 20) hx hb dX10_leave_13 (by decide) ?_
    refine lv_iload_n hx hb dX10_leave_15 rfl (lv_at hl 1 rfl) ?_
    refine lv_imul hx hb dX10_leave_16 ?_
    refine x_top (x := (20 * nI b1)) (y := (nI (20 * b1))) (pk_mul 20 _) ?_
    refine lv_iload_n hx hb dX10_leave_17 rfl (lv_at hl 2 rfl) ?_
    refine lv_iadd hx hb dX10_leave_18 ?_
    refine x_top (x := (nI (20 * b1) + nI j1)) (y := (nI (20 * b1 + j1))) (nI_add _ _) ?_
    refine m_ild E hw 7 ⟨by decide, rfl, rfl⟩ (20 * b1 + j1) (rfl) (by show _ < 1000; omega) dX10_leave_19 ?_
    refine lv_if_ne (tgt := 74) hx hb dX10_leave_20 (by decide) (fun c_20 => ?_) (fun c_20 => ?_)
    · skip
      refine lv_iconst (v := (-1)) hx hb dX10_leave_74 (by decide) ?_
      subst hQ
      exact m_iretS E hr hlk hw (by first | (simp [mLeaveW, mLeaveOK, c_6, c_20]; done) | simp [mLeaveW, mLeaveOK, nI_clamp (n := b1) (by omega), nI_clamp (n := j1) (by omega), c_6, c_20]) dX10_leave_75
    · skip
      refine lv_iload_n hx hb dX10_leave_23 rfl (lv_at hl 3 rfl) ?_
      refine lv_iconst (v := 0) hx hb dX10_leave_24 (by decide) ?_
      refine lv_iconst (v := 1) hx hb dX10_leave_25 (by decide) ?_
      refine x_read (x_runS (rest := []) E cbX10_in tw_647 (kX10_in l D ca a3 0 1 ) ⟨rfl, rfl, by decide, by decide⟩ (fun _ _ _ _ h => h) (fun _ _ _ => trivial) rfl hl.1 rfl (Nat.le_of_ble_eq_true rfl) dX10_leave_26 ⟨by decide, by decide⟩) ?_
      refine lv_if_eq (tgt := 74) hx hb dX10_leave_29 (by decide) (fun c_29 => ?_) (fun c_29 => ?_)
      · skip
        have c_29 := bB_0.mp c_29
        refine lv_iconst (v := (-1)) hx hb dX10_leave_74 (by decide) ?_
        subst hQ
        exact m_iretS E hr hlk hw (by first | (simp [mLeaveW, mLeaveOK, c_6, c_20, c_29]; done) | simp [mLeaveW, mLeaveOK, nI_clamp (n := b1) (by omega), nI_clamp (n := j1) (by omega), c_6, c_20, c_29]) dX10_leave_75
      · skip
        have c_29 := bB_n0.mp c_29
        refine lv_iload hx hb dX10_leave_32 (lv_at hl 4 rfl) ?_
        refine lv_iconst (v := 0) hx hb dX10_leave_34 (by decide) ?_
        refine lv_bipush (v := 9) hx hb dX10_leave_35 (by decide) ?_
        refine x_read (x_runS (rest := []) E cbX10_in tw_647 (kX10_in l D ca a4 0 9 ) ⟨rfl, rfl, by decide, by decide⟩ (fun _ _ _ _ h => h) (fun _ _ _ => trivial) rfl hl.1 rfl (Nat.le_of_ble_eq_true rfl) dX10_leave_37 ⟨by decide, by decide⟩) ?_
        refine lv_if_eq (tgt := 74) hx hb dX10_leave_40 (by decide) (fun c_40 => ?_) (fun c_40 => ?_)
        · skip
          have c_40 := bB_0.mp c_40
          refine lv_iconst (v := (-1)) hx hb dX10_leave_74 (by decide) ?_
          subst hQ
          exact m_iretS E hr hlk hw (by first | (simp [mLeaveW, mLeaveOK, c_6, c_20, c_29, c_40]; done) | simp [mLeaveW, mLeaveOK, nI_clamp (n := b1) (by omega), nI_clamp (n := j1) (by omega), c_6, c_20, c_29, c_40]) dX10_leave_75
        · skip
          have c_40 := bB_n0.mp c_40
          refine lv_iload hx hb dX10_leave_43 (lv_at hl 5 rfl) ?_
          refine lv_iconst (v := 0) hx hb dX10_leave_45 (by decide) ?_
          refine lv_ldc hx hb hown (hts _ tw_676) dX10_leave_46 ?_
          refine x_read (x_runS (rest := []) E cbX10_in tw_647 (kX10_in l D ca a5 0 16777215 ) ⟨rfl, rfl, by decide, by decide⟩ (fun _ _ _ _ h => h) (fun _ _ _ => trivial) rfl hl.1 rfl (Nat.le_of_ble_eq_true rfl) dX10_leave_48 ⟨by decide, by decide⟩) ?_
          refine lv_if_eq (tgt := 74) hx hb dX10_leave_51 (by decide) (fun c_51 => ?_) (fun c_51 => ?_)
          · skip
            have c_51 := bB_0.mp c_51
            refine lv_iconst (v := (-1)) hx hb dX10_leave_74 (by decide) ?_
            subst hQ
            exact m_iretS E hr hlk hw (by first | (simp [mLeaveW, mLeaveOK, c_6, c_20, c_29, c_40, c_51]; done) | simp [mLeaveW, mLeaveOK, nI_clamp (n := b1) (by omega), nI_clamp (n := j1) (by omega), c_6, c_20, c_29, c_40, c_51]) dX10_leave_75
          · skip
            have c_51 := bB_n0.mp c_51
            refine lv_iload hx hb dX10_leave_54 (lv_at hl 6 rfl) ?_
            refine lv_iconst (v := 0) hx hb dX10_leave_56 (by decide) ?_
            refine lv_ldc hx hb hown (hts _ tw_676) dX10_leave_57 ?_
            refine x_read (x_runS (rest := []) E cbX10_in tw_647 (kX10_in l D ca a6 0 16777215 ) ⟨rfl, rfl, by decide, by decide⟩ (fun _ _ _ _ h => h) (fun _ _ _ => trivial) rfl hl.1 rfl (Nat.le_of_ble_eq_true rfl) dX10_leave_59 ⟨by decide, by decide⟩) ?_
            refine lv_if_eq (tgt := 74) hx hb dX10_leave_62 (by decide) (fun c_62 => ?_) (fun c_62 => ?_)
            · skip
              have c_62 := bB_0.mp c_62
              refine lv_iconst (v := (-1)) hx hb dX10_leave_74 (by decide) ?_
              subst hQ
              exact m_iretS E hr hlk hw (by first | (simp [mLeaveW, mLeaveOK, c_6, c_20, c_29, c_40, c_51, c_62]; done) | simp [mLeaveW, mLeaveOK, nI_clamp (n := b1) (by omega), nI_clamp (n := j1) (by omega), c_6, c_20, c_29, c_40, c_51, c_62]) dX10_leave_75
            · skip
              have c_62 := bB_n0.mp c_62
              refine lv_aload_n hx hb dX10_leave_65 rfl (lv_at hl 0 rfl) ?_
              refine m_geti (x := (nI nc)) E hw 2 (by decide) rfl tw_544 (hO.2.2.1) dX10_leave_66 ?_
              refine lv_bipush (v := 60) hx hb dX10_leave_69 (by decide) ?_
              refine lv_icmp_ne (tgt := 76) hx hb dX10_leave_71 (by decide) (fun c_71 => ?_) (fun c_71 => ?_)
              · skip
                have hc_60 : ¬ nc = 60 := fun q => c_71 (by rw [q]; rfl)
                refine lv_aload_n hx hb dX10_leave_76 rfl (lv_at hl 0 rfl) ?_
                refine m_getr E hw 7 (by decide) rfl tw_549 dX10_leave_77 ?_
                refine lv_bipush (v := 20) hx hb dX10_leave_80 (by decide) ?_
                refine lv_iload_n hx hb dX10_leave_82 rfl (lv_at hl 1 rfl) ?_
                refine lv_imul hx hb dX10_leave_83 ?_
                refine x_top (x := (20 * nI b1)) (y := (nI (20 * b1))) (pk_mul 20 _) ?_
                refine lv_iload_n hx hb dX10_leave_84 rfl (lv_at hl 2 rfl) ?_
                refine lv_iadd hx hb dX10_leave_85 ?_
                refine x_top (x := (nI (20 * b1) + nI j1)) (y := (nI (20 * b1 + j1))) (nI_add _ _) ?_
                refine lv_iconst (v := 4) hx hb dX10_leave_86 (by decide) ?_
                refine m_ist E hw 7 ⟨by decide, rfl, rfl⟩ (20 * b1 + j1) (rfl) (by show _ < 1000; omega) dX10_leave_87 (fun H locs hw => ?_)
                refine lv_aload_n hx hb dX10_leave_88 rfl (lv_at hl 0 rfl) ?_
                refine m_getr E hw 9 (by decide) rfl tw_551 dX10_leave_89 ?_
                refine lv_aload_n hx hb dX10_leave_92 rfl (lv_at hl 0 rfl) ?_
                refine m_geti (x := (nI nc)) E hw 2 (by decide) rfl tw_544 (hO.2.2.1) dX10_leave_93 ?_
                refine lv_aload_n hx hb dX10_leave_96 rfl (lv_at hl 0 rfl) ?_
                refine m_geti (x := (nI nw)) E hw 0 (by decide) rfl tw_542 (hO.1) dX10_leave_97 ?_
                refine m_ist E hw 9 ⟨by decide, rfl, rfl⟩ nc (rfl) (by show nc < 60; omega) dX10_leave_100 (fun H locs hw => ?_)
                refine lv_aload_n hx hb dX10_leave_101 rfl (lv_at hl 0 rfl) ?_
                refine m_getr E hw 10 (by decide) rfl tw_552 dX10_leave_102 ?_
                refine lv_aload_n hx hb dX10_leave_105 rfl (lv_at hl 0 rfl) ?_
                refine m_geti (x := (nI nc)) E hw 2 (by decide) rfl tw_544 (hO.2.2.1) dX10_leave_106 ?_
                refine lv_iload_n hx hb dX10_leave_109 rfl (lv_at hl 3 rfl) ?_
                refine m_ist E hw 10 ⟨by decide, rfl, rfl⟩ nc (rfl) (by show nc < 60; omega) dX10_leave_110 (fun H locs hw => ?_)
                refine lv_aload_n hx hb dX10_leave_111 rfl (lv_at hl 0 rfl) ?_
                refine m_getr E hw 11 (by decide) rfl tw_553 dX10_leave_112 ?_
                refine lv_aload_n hx hb dX10_leave_115 rfl (lv_at hl 0 rfl) ?_
                refine m_geti (x := (nI nc)) E hw 2 (by decide) rfl tw_544 (hO.2.2.1) dX10_leave_116 ?_
                refine lv_iload hx hb dX10_leave_119 (lv_at hl 4 rfl) ?_
                refine m_ist E hw 11 ⟨by decide, rfl, rfl⟩ nc (rfl) (by show nc < 60; omega) dX10_leave_121 (fun H locs hw => ?_)
                refine lv_aload_n hx hb dX10_leave_122 rfl (lv_at hl 0 rfl) ?_
                refine m_getr E hw 12 (by decide) rfl tw_554 dX10_leave_123 ?_
                refine lv_aload_n hx hb dX10_leave_126 rfl (lv_at hl 0 rfl) ?_
                refine m_geti (x := (nI nc)) E hw 2 (by decide) rfl tw_544 (hO.2.2.1) dX10_leave_127 ?_
                refine lv_iload hx hb dX10_leave_130 (lv_at hl 5 rfl) ?_
                refine m_ist E hw 12 ⟨by decide, rfl, rfl⟩ nc (rfl) (by show nc < 60; omega) dX10_leave_132 (fun H locs hw => ?_)
                refine lv_aload_n hx hb dX10_leave_133 rfl (lv_at hl 0 rfl) ?_
                refine m_getr E hw 13 (by decide) rfl tw_555 dX10_leave_134 ?_
                refine lv_aload_n hx hb dX10_leave_137 rfl (lv_at hl 0 rfl) ?_
                refine m_geti (x := (nI nc)) E hw 2 (by decide) rfl tw_544 (hO.2.2.1) dX10_leave_138 ?_
                refine lv_iload hx hb dX10_leave_141 (lv_at hl 6 rfl) ?_
                refine m_ist E hw 13 ⟨by decide, rfl, rfl⟩ nc (rfl) (by show nc < 60; omega) dX10_leave_143 (fun H locs hw => ?_)
                refine lv_aload_n hx hb dX10_leave_144 rfl (lv_at hl 0 rfl) ?_
                refine m_getr E hw 14 (by decide) rfl tw_556 dX10_leave_145 ?_
                refine lv_aload_n hx hb dX10_leave_148 rfl (lv_at hl 0 rfl) ?_
                refine m_geti (x := (nI nc)) E hw 2 (by decide) rfl tw_544 (hO.2.2.1) dX10_leave_149 ?_
                refine lv_iload_n hx hb dX10_leave_152 rfl (lv_at hl 1 rfl) ?_
                refine m_ist E hw 14 ⟨by decide, rfl, rfl⟩ nc (rfl) (by show nc < 60; omega) dX10_leave_153 (fun H locs hw => ?_)
                refine lv_aload_n hx hb dX10_leave_154 rfl (lv_at hl 0 rfl) ?_
                refine m_getr E hw 15 (by decide) rfl tw_557 dX10_leave_155 ?_
                refine lv_aload_n hx hb dX10_leave_158 rfl (lv_at hl 0 rfl) ?_
                refine m_geti (x := (nI nc)) E hw 2 (by decide) rfl tw_544 (hO.2.2.1) dX10_leave_159 ?_
                refine lv_iload_n hx hb dX10_leave_162 rfl (lv_at hl 2 rfl) ?_
                refine m_ist E hw 15 ⟨by decide, rfl, rfl⟩ nc (rfl) (by show nc < 60; omega) dX10_leave_163 (fun H locs hw => ?_)
                refine lv_aload_n hx hb dX10_leave_164 rfl (lv_at hl 0 rfl) ?_
                refine lv_dup hx hb dX10_leave_165 rfl ?_
                refine m_geti (x := (nI nc)) E hw 2 (by decide) rfl tw_544 (hO.2.2.1) dX10_leave_166 ?_
                refine lv_iconst (v := 1) hx hb dX10_leave_169 (by decide) ?_
                refine lv_iadd hx hb dX10_leave_170 ?_
                refine x_top (x := (nI nc + 1)) (y := (nI (nc + 1))) (nI_1 _) ?_
                refine m_put E hw 2 (by decide) rfl tw_544 dX10_leave_171 (fun H locs hw => ?_)
                refine lv_aload_n hx hb dX10_leave_174 rfl (lv_at hl 0 rfl) ?_
                refine m_geti (x := (nI (nc + 1))) E hw 2 (by decide) rfl tw_544 (by simp [upd]) dX10_leave_175 ?_
                refine lv_iconst (v := 1) hx hb dX10_leave_178 (by decide) ?_
                refine lv_isub hx hb dX10_leave_179 ?_
                refine x_top (x := ((nI (nc + 1)) - 1)) (y := (nI nc)) (nI_pred _) ?_
                subst hQ
                exact m_iretS E hr hlk hw (by first | (simp [mLeaveW, mLeaveOK, c_6, c_20, c_29, c_40, c_51, c_62, c_71, hc_60]; done) | simp [mLeaveW, mLeaveOK, nI_clamp (n := b1) (by omega), nI_clamp (n := j1) (by omega), c_6, c_20, c_29, c_40, c_51, c_62, c_71, hc_60]) dX10_leave_180
              · skip
                have hc_60 : nc = 60 := (nI_eq (a := nc) (b := 60) (by omega) (by decide)).mp c_71
                refine lv_iconst (v := (-1)) hx hb dX10_leave_74 (by decide) ?_
                subst hQ
                exact m_iretS E hr hlk hw (by first | (simp [mLeaveW, mLeaveOK, c_6, c_20, c_29, c_40, c_51, c_62, c_71, hc_60]; done) | simp [mLeaveW, mLeaveOK, nI_clamp (n := b1) (by omega), nI_clamp (n := j1) (by omega), c_6, c_20, c_29, c_40, c_51, c_62, c_71, hc_60]) dX10_leave_75
set_option maxHeartbeats 4000000 in
set_option maxRecDepth 100000 in
theorem kX10_beds (l : Launch) (D : va_G) (ca : Nat → ClassId) (ad : Nat → Nat → Nat) (z9 : Nat) (v : Nat → Int32) (g : Nat → Nat → Int32) (nw : Nat) (nb : Nat) (nc : Nat) (nm : Nat) (a1 : Int32) (a2 : Int32) (hO : mOK v nw nb nc nm) : Met l yX10_beds (wz yX10_beds cX10_beds 3 (some .boolean)) (rmL 4 0 0) (va_Pc [.ref (ad 33 0), .int a1, .int a2] (fun U => (U.heap.size = z9 ∧ mq D ca ad v g U.heap) ∧ gK D ca U)) (QcM D ca ad (wA mcnt ad z9) (some (.int (mBedsW v g nw nc nm a1 a2).1)) ((mBedsW v g nw nc nm a1 a2).2.1) ((mBedsW v g nw nc nm a1 a2).2.2)) 0 0 (wA mcnt ad z9) := by
  refine x_met (by decide) (Nat.le_of_ble_eq_true rfl) ?_
  intro p e s m below meth c E hr hlk hnm hq ls hl
  obtain ⟨hsz9, hq⟩ := hq
  subst hsz9
  generalize hav : ([.ref (ad 33 0), .int a1, .int a2] : List Value).toArray = args at E ⊢
  have hx := E.1
  have hb := E.2.1
  have hown := E.2.2.2.1
  have hts := E.2.2.2.2.1
  have hw : mw D (wA mcnt ad s.heap.size) s.heap ca ad v g s.heap [] := wd.start hq
  generalize hQ : MQ below (QcM D ca ad (wA mcnt ad s.heap.size) (some (.int (mBedsW v g nw nc nm a1 a2).1)) ((mBedsW v g nw nc nm a1 a2).2.1) ((mBedsW v g nw nc nm a1 a2).2.2)) args s 0 0 (wA mcnt ad s.heap.size) = Q
  generalize hA9 : wA mcnt ad s.heap.size = A at hw hQ
  have hl : lv_has ls 3 [(0, .ref (ad 33 0)), (1, .int a1), (2, .int a2)] := hl
  have hO5 := hO.2.2.2.2
  suffices hgo : ∀ (H : Heap) (locs : List Loc), mw D A s.heap ca ad v g H locs → W p l e (rmL 4 0 0) s m args below meth c H locs 0 0 Q (F0 m 0 ls []) from hgo _ _ hw
  clear hw
  intro H locs hw
  refine lv_iload_n hx hb dX10_beds_0 rfl (lv_at hl 1 rfl) ?_
  refine lv_iconst (v := 1) hx hb dX10_beds_1 (by decide) ?_
  refine lv_bipush (v := 12) hx hb dX10_beds_2 (by decide) ?_
  refine x_read (x_runS (rest := []) E cbX10_in tw_647 (kX10_in l D ca a1 1 12 ) ⟨rfl, rfl, by decide, by decide⟩ (fun _ _ _ _ h => h) (fun _ _ _ => trivial) rfl hl.1 rfl (Nat.le_of_ble_eq_true rfl) dX10_beds_4 ⟨by decide, by decide⟩) ?_
  refine lv_if_eq (tgt := 29) hx hb dX10_beds_7 (by decide) (fun c_7 => ?_) (fun c_7 => ?_)
  · skip
    have c_7 := bB_0.mp c_7
    refine lv_iconst (v := 0) hx hb dX10_beds_29 (by decide) ?_
    subst hQ
    exact m_zretS E hr hlk (by decide) hw (by first | (simp [mBedsW, c_7]; done) | simp [mBedsW, nI_clamp (n := n1) (by omega), c_7]) dX10_beds_30
  · skip
    have c_7 := bB_n0.mp c_7
    obtain ⟨n1, g1, g2, rfl⟩ := isIn_rng (lo := 1) (hi := 12) (by decide) (by decide) c_7
    refine lv_iload_n hx hb dX10_beds_10 rfl (lv_at hl 2 rfl) ?_
    refine lv_iconst (v := 1) hx hb dX10_beds_11 (by decide) ?_
    refine lv_iconst (v := 3) hx hb dX10_beds_12 (by decide) ?_
    refine x_read (x_runS (rest := []) E cbX10_in tw_647 (kX10_in l D ca a2 1 3 ) ⟨rfl, rfl, by decide, by decide⟩ (fun _ _ _ _ h => h) (fun _ _ _ => trivial) rfl hl.1 rfl (Nat.le_of_ble_eq_true rfl) dX10_beds_13 ⟨by decide, by decide⟩) ?_
    refine lv_if_eq (tgt := 29) hx hb dX10_beds_16 (by decide) (fun c_16 => ?_) (fun c_16 => ?_)
    · skip
      have c_16 := bB_0.mp c_16
      refine lv_iconst (v := 0) hx hb dX10_beds_29 (by decide) ?_
      subst hQ
      exact m_zretS E hr hlk (by decide) hw (by first | (simp [mBedsW, c_7, c_16]; done) | simp [mBedsW, nI_clamp (n := n1) (by omega), c_7, c_16]) dX10_beds_30
    · skip
      have c_16 := bB_n0.mp c_16
      refine lv_aload_n hx hb dX10_beds_19 rfl (lv_at hl 0 rfl) ?_
      refine lv_iload_n hx hb dX10_beds_20 rfl (lv_at hl 1 rfl) ?_
      refine lv_iconst (v := 0) hx hb dX10_beds_21 (by decide) ?_
      refine lv_iload_n hx hb dX10_beds_22 rfl (lv_at hl 2 rfl) ?_
      refine x_read (x_runV (rest := []) E cbX10_hasRoom tw_681 (kX10_hasRoom l D ca ad v g nw nb nc nm (nI n1) 0 a2 (hO) (Nat.zero_le _)) ⟨rfl, rfl, by decide, by decide⟩ (m_recv E hw) (fun _ _ _ _ h => h) (fun U hU _ => by rw [hU]; exact hw.1) rfl hl.1 rfl (Nat.le_of_ble_eq_true rfl) dX10_beds_23 ⟨by decide, by decide⟩) ?_
      refine lv_if_ne (tgt := 31) hx hb dX10_beds_26 (by decide) (fun c_26 => ?_) (fun c_26 => ?_)
      · skip
        have c_26 := bB_n0.mp c_26
        refine lv_aload_n hx hb dX10_beds_31 rfl (lv_at hl 0 rfl) ?_
        refine m_getr E hw 22 (by decide) rfl tw_564 dX10_beds_32 ?_
        refine lv_iload_n hx hb dX10_beds_35 rfl (lv_at hl 1 rfl) ?_
        refine lv_iload_n hx hb dX10_beds_36 rfl (lv_at hl 2 rfl) ?_
        refine m_ist E hw 22 ⟨by decide, rfl, rfl⟩ n1 (rfl) (by show n1 < 13; omega) dX10_beds_37 (fun H locs hw => ?_)
        refine lv_iconst (v := 1) hx hb dX10_beds_38 (by decide) ?_
        subst hQ
        exact m_zretS E hr hlk (by decide) hw (by first | (simp [mBedsW, c_7, c_16, c_26]; done) | simp [mBedsW, nI_clamp (n := n1) (by omega), c_7, c_16, c_26]) dX10_beds_39
      · skip
        have c_26 := bB_0.mp c_26
        refine lv_iconst (v := 0) hx hb dX10_beds_29 (by decide) ?_
        subst hQ
        exact m_zretS E hr hlk (by decide) hw (by first | (simp [mBedsW, c_7, c_16, c_26]; done) | simp [mBedsW, nI_clamp (n := n1) (by omega), c_7, c_16, c_26]) dX10_beds_30
set_option maxHeartbeats 4000000 in
set_option maxRecDepth 100000 in
theorem kX10_look (l : Launch) (D : va_G) (ca : Nat → ClassId) (ad : Nat → Nat → Nat) (z9 : Nat) (v : Nat → Int32) (g : Nat → Nat → Int32) (nw : Nat) (nb : Nat) (nc : Nat) (nm : Nat) (a1 : Int32) (hO : mOK v nw nb nc nm) : Met l yX10_look (wz yX10_look cX10_look 2 (some .boolean)) (rmL 2 0 0) (va_Pc [.ref (ad 33 0), .int a1] (fun U => (U.heap.size = z9 ∧ mq D ca ad v g U.heap) ∧ gK D ca U)) (QcM D ca ad (wA mcnt ad z9) (some (.int (mLookW v g nw a1).1)) ((mLookW v g nw a1).2.1) ((mLookW v g nw a1).2.2)) 0 0 (wA mcnt ad z9) := by
  refine x_met (by decide) (Nat.le_of_ble_eq_true rfl) ?_
  intro p e s m below meth c E hr hlk hnm hq ls hl
  obtain ⟨hsz9, hq⟩ := hq
  subst hsz9
  generalize hav : ([.ref (ad 33 0), .int a1] : List Value).toArray = args at E ⊢
  have hx := E.1
  have hb := E.2.1
  have hown := E.2.2.2.1
  have hts := E.2.2.2.2.1
  have hw : mw D (wA mcnt ad s.heap.size) s.heap ca ad v g s.heap [] := wd.start hq
  generalize hQ : MQ below (QcM D ca ad (wA mcnt ad s.heap.size) (some (.int (mLookW v g nw a1).1)) ((mLookW v g nw a1).2.1) ((mLookW v g nw a1).2.2)) args s 0 0 (wA mcnt ad s.heap.size) = Q
  generalize hA9 : wA mcnt ad s.heap.size = A at hw hQ
  have hl : lv_has ls 2 [(0, .ref (ad 33 0)), (1, .int a1)] := hl
  have hO5 := hO.2.2.2.2
  suffices hgo : ∀ (H : Heap) (locs : List Loc), mw D A s.heap ca ad v g H locs → W p l e (rmL 2 0 0) s m args below meth c H locs 0 0 Q (F0 m 0 ls []) from hgo _ _ hw
  clear hw
  intro H locs hw
  refine lv_iload_n hx hb dX10_look_0 rfl (lv_at hl 1 rfl) ?_
  refine lv_iconst (v := 1) hx hb dX10_look_1 (by decide) ?_
  refine lv_bipush (v := 12) hx hb dX10_look_2 (by decide) ?_
  refine x_read (x_runS (rest := []) E cbX10_in tw_647 (kX10_in l D ca a1 1 12 ) ⟨rfl, rfl, by decide, by decide⟩ (fun _ _ _ _ h => h) (fun _ _ _ => trivial) rfl hl.1 rfl (Nat.le_of_ble_eq_true rfl) dX10_look_4 ⟨by decide, by decide⟩) ?_
  refine lv_if_eq (tgt := 28) hx hb dX10_look_7 (by decide) (fun c_7 => ?_) (fun c_7 => ?_)
  · skip
    have c_7 := bB_0.mp c_7
    refine lv_iconst (v := 0) hx hb dX10_look_28 (by decide) ?_
    subst hQ
    exact m_zretS E hr hlk (by decide) hw (by first | (simp [mLookW, c_7]; done) | simp [mLookW, nI_clamp (n := n1) (by omega), c_7]) dX10_look_29
  · skip
    have c_7 := bB_n0.mp c_7
    obtain ⟨n1, g1, g2, rfl⟩ := isIn_rng (lo := 1) (hi := 12) (by decide) (by decide) c_7
    refine lv_aload_n hx hb dX10_look_10 rfl (lv_at hl 0 rfl) ?_
    refine m_getr E hw 23 (by decide) rfl tw_565 dX10_look_11 ?_
    refine lv_sipush (v := 2001) hx hb dX10_look_14 (by decide) ?_
    refine lv_iload_n hx hb dX10_look_17 rfl (lv_at hl 1 rfl) ?_
    refine lv_imul hx hb dX10_look_18 ?_
    refine x_top (x := (2001 * nI n1)) (y := (nI (2001 * n1))) (pk_mul 2001 _) ?_
    refine lv_aload_n hx hb dX10_look_19 rfl (lv_at hl 0 rfl) ?_
    refine m_geti (x := (nI nw)) E hw 0 (by decide) rfl tw_542 (hO.1) dX10_look_20 ?_
    refine lv_iadd hx hb dX10_look_23 ?_
    refine x_top (x := (nI (2001 * n1) + nI nw)) (y := (nI (2001 * n1 + nw))) (nI_add _ _) ?_
    refine m_zld E hw 23 ⟨by decide, rfl, rfl⟩ (2001 * n1 + nw) (rfl) (by show _ < 26013; omega) dX10_look_24 ?_
    refine lv_if_eq (tgt := 30) hx hb dX10_look_25 (by decide) (fun c_25 => ?_) (fun c_25 => ?_)
    · skip
      refine lv_aload_n hx hb dX10_look_30 rfl (lv_at hl 0 rfl) ?_
      refine m_getr E hw 23 (by decide) rfl tw_565 dX10_look_31 ?_
      refine lv_sipush (v := 2001) hx hb dX10_look_34 (by decide) ?_
      refine lv_iload_n hx hb dX10_look_37 rfl (lv_at hl 1 rfl) ?_
      refine lv_imul hx hb dX10_look_38 ?_
      refine x_top (x := (2001 * nI n1)) (y := (nI (2001 * n1))) (pk_mul 2001 _) ?_
      refine lv_aload_n hx hb dX10_look_39 rfl (lv_at hl 0 rfl) ?_
      refine m_geti (x := (nI nw)) E hw 0 (by decide) rfl tw_542 (hO.1) dX10_look_40 ?_
      refine lv_iadd hx hb dX10_look_43 ?_
      refine x_top (x := (nI (2001 * n1) + nI nw)) (y := (nI (2001 * n1 + nw))) (nI_add _ _) ?_
      refine lv_iconst (v := 1) hx hb dX10_look_44 (by decide) ?_
      refine m_zst E hw 23 ⟨by decide, rfl, rfl⟩ (2001 * n1 + nw) (rfl) (by show _ < 26013; omega) (by decide) dX10_look_45 (fun H locs hw => ?_)
      refine lv_aload_n hx hb dX10_look_46 rfl (lv_at hl 0 rfl) ?_
      refine lv_dup hx hb dX10_look_47 rfl ?_
      refine m_geti (x := (v 4)) E hw 4 (by decide) rfl tw_546 (rfl) dX10_look_48 ?_
      refine lv_iconst (v := 1) hx hb dX10_look_51 (by decide) ?_
      refine lv_iadd hx hb dX10_look_52 ?_
      refine m_put E hw 4 (by decide) rfl tw_546 dX10_look_53 (fun H locs hw => ?_)
      refine lv_iconst (v := 1) hx hb dX10_look_56 (by decide) ?_
      subst hQ
      exact m_zretS E hr hlk (by decide) hw (by first | (simp [mLookW, c_7, c_25]; done) | simp [mLookW, nI_clamp (n := n1) (by omega), c_7, c_25]) dX10_look_57
    · skip
      refine lv_iconst (v := 0) hx hb dX10_look_28 (by decide) ?_
      subst hQ
      exact m_zretS E hr hlk (by decide) hw (by first | (simp [mLookW, c_7, c_25]; done) | simp [mLookW, nI_clamp (n := n1) (by omega), c_7, c_25]) dX10_look_29
set_option maxHeartbeats 4000000 in
set_option maxRecDepth 100000 in
theorem kX10_end (l : Launch) (D : va_G) (ca : Nat → ClassId) (ad : Nat → Nat → Nat) (z9 : Nat) (v : Nat → Int32) (g : Nat → Nat → Int32) (a1 : Int32)  : Met l yX10_end (wz yX10_end cX10_end 2 (some .boolean)) (rmL 1 0 0) (va_Pc [.ref (ad 33 0), .int a1] (fun U => (U.heap.size = z9 ∧ mq D ca ad v g U.heap) ∧ gK D ca U)) (QcM D ca ad (wA mcnt ad z9) (some (.int (mEndW v g a1).1)) ((mEndW v g a1).2.1) ((mEndW v g a1).2.2)) 0 0 (wA mcnt ad z9) := by
  refine x_met (by decide) (Nat.le_of_ble_eq_true rfl) ?_
  intro p e s m below meth c E hr hlk hnm hq ls hl
  obtain ⟨hsz9, hq⟩ := hq
  subst hsz9
  generalize hav : ([.ref (ad 33 0), .int a1] : List Value).toArray = args at E ⊢
  have hx := E.1
  have hb := E.2.1
  have hown := E.2.2.2.1
  have hts := E.2.2.2.2.1
  have hw : mw D (wA mcnt ad s.heap.size) s.heap ca ad v g s.heap [] := wd.start hq
  generalize hQ : MQ below (QcM D ca ad (wA mcnt ad s.heap.size) (some (.int (mEndW v g a1).1)) ((mEndW v g a1).2.1) ((mEndW v g a1).2.2)) args s 0 0 (wA mcnt ad s.heap.size) = Q
  generalize hA9 : wA mcnt ad s.heap.size = A at hw hQ
  have hl : lv_has ls 2 [(0, .ref (ad 33 0)), (1, .int a1)] := hl
  suffices hgo : ∀ (H : Heap) (locs : List Loc), mw D A s.heap ca ad v g H locs → W p l e (rmL 1 0 0) s m args below meth c H locs 0 0 Q (F0 m 0 ls []) from hgo _ _ hw
  clear hw
  intro H locs hw
  refine lv_iload_n hx hb dX10_end_0 rfl (lv_at hl 1 rfl) ?_
  refine lv_if_lt (tgt := 12) hx hb dX10_end_1 (by decide) (fun c_1 => ?_) (fun c_1 => ?_)
  · skip
    refine lv_iconst (v := 0) hx hb dX10_end_12 (by decide) ?_
    subst hQ
    exact m_zretS E hr hlk (by decide) hw (by simp [mEndW, isIn, c_1]) dX10_end_13
  · skip
    refine lv_iload_n hx hb dX10_end_4 rfl (lv_at hl 1 rfl) ?_
    refine lv_aload_n hx hb dX10_end_5 rfl (lv_at hl 0 rfl) ?_
    refine m_geti (x := (v 27)) E hw 27 (by decide) rfl tw_569 (rfl) dX10_end_6 ?_
    refine lv_icmp_le (tgt := 14) hx hb dX10_end_9 (by decide) (fun c_9 => ?_) (fun c_9 => ?_)
    · skip
      refine lv_aload_n hx hb dX10_end_14 rfl (lv_at hl 0 rfl) ?_
      refine lv_iload_n hx hb dX10_end_15 rfl (lv_at hl 1 rfl) ?_
      refine m_put E hw 27 (by decide) rfl tw_569 dX10_end_16 (fun H locs hw => ?_)
      refine lv_iconst (v := 1) hx hb dX10_end_19 (by decide) ?_
      subst hQ
      exact m_zretS E hr hlk (by decide) hw (by simp [mEndW, isIn, c_1, c_9]) dX10_end_20
    · skip
      refine lv_iconst (v := 0) hx hb dX10_end_12 (by decide) ?_
      subst hQ
      exact m_zretS E hr hlk (by decide) hw (by simp [mEndW, isIn, c_1, c_9]) dX10_end_13
set_option maxHeartbeats 4000000 in
set_option maxRecDepth 100000 in
theorem kX10_name (l : Launch) (D : va_G) (ca : Nat → ClassId) (ad : Nat → Nat → Nat) (z9 : Nat) (v : Nat → Int32) (g : Nat → Nat → Int32) (nw : Nat) (nb : Nat) (nc : Nat) (nm : Nat) (a1 : Int32) (a2 : Int32) (hO : mOK v nw nb nc nm) : Met l yX10_name (wz yX10_name cX10_name 3 (some .boolean)) (rmL 3 0 0) (va_Pc [.ref (ad 33 0), .int a1, .int a2] (fun U => (U.heap.size = z9 ∧ mq D ca ad v g U.heap) ∧ gK D ca U)) (QcM D ca ad (wA mcnt ad z9) (some (.int (mNameW v g nc a1 a2).1)) ((mNameW v g nc a1 a2).2.1) ((mNameW v g nc a1 a2).2.2)) 0 0 (wA mcnt ad z9) := by
  refine x_met (by decide) (Nat.le_of_ble_eq_true rfl) ?_
  intro p e s m below meth c E hr hlk hnm hq ls hl
  obtain ⟨hsz9, hq⟩ := hq
  subst hsz9
  generalize hav : ([.ref (ad 33 0), .int a1, .int a2] : List Value).toArray = args at E ⊢
  have hx := E.1
  have hb := E.2.1
  have hown := E.2.2.2.1
  have hts := E.2.2.2.2.1
  have hw : mw D (wA mcnt ad s.heap.size) s.heap ca ad v g s.heap [] := wd.start hq
  generalize hQ : MQ below (QcM D ca ad (wA mcnt ad s.heap.size) (some (.int (mNameW v g nc a1 a2).1)) ((mNameW v g nc a1 a2).2.1) ((mNameW v g nc a1 a2).2.2)) args s 0 0 (wA mcnt ad s.heap.size) = Q
  generalize hA9 : wA mcnt ad s.heap.size = A at hw hQ
  have hl : lv_has ls 3 [(0, .ref (ad 33 0)), (1, .int a1), (2, .int a2)] := hl
  have hO5 := hO.2.2.2.2
  suffices hgo : ∀ (H : Heap) (locs : List Loc), mw D A s.heap ca ad v g H locs → W p l e (rmL 3 0 0) s m args below meth c H locs 0 0 Q (F0 m 0 ls []) from hgo _ _ hw
  clear hw
  intro H locs hw
  refine lv_aload_n hx hb dX10_name_0 rfl (lv_at hl 0 rfl) ?_
  refine lv_iload_n hx hb dX10_name_1 rfl (lv_at hl 1 rfl) ?_
  refine x_read (x_runV (rest := []) E cbX10_isChild tw_705 (kX10_isChild l D ca ad v g nw nb nc nm a1 (hO)) ⟨rfl, rfl, by decide, by decide⟩ (m_recv E hw) (fun _ _ _ _ h => h) (fun U hU _ => by rw [hU]; exact hw.1) rfl hl.1 rfl (Nat.le_of_ble_eq_true rfl) dX10_name_2 ⟨by decide, by decide⟩) ?_
  refine lv_if_eq (tgt := 27) hx hb dX10_name_5 (by decide) (fun c_5 => ?_) (fun c_5 => ?_)
  · skip
    have c_5 := bB_0.mp c_5
    refine lv_iconst (v := 0) hx hb dX10_name_27 (by decide) ?_
    subst hQ
    exact m_zretS E hr hlk (by decide) hw (by first | (simp [mNameW, c_5]; done) | simp [mNameW, nI_clamp (n := j) (by omega), c_5]) dX10_name_28
  · skip
    have c_5 := bB_n0.mp c_5
    obtain ⟨j, hj, rfl⟩ := isIn_nat (by omega) c_5
    refine lv_iload_n hx hb dX10_name_8 rfl (lv_at hl 2 rfl) ?_
    refine lv_iconst (v := 1) hx hb dX10_name_9 (by decide) ?_
    refine lv_ldc hx hb hown (hts _ tw_822) dX10_name_10 ?_
    refine x_read (x_runS (rest := []) E cbX10_in tw_647 (kX10_in l D ca a2 1 1000000 ) ⟨rfl, rfl, by decide, by decide⟩ (fun _ _ _ _ h => h) (fun _ _ _ => trivial) rfl hl.1 rfl (Nat.le_of_ble_eq_true rfl) dX10_name_12 ⟨by decide, by decide⟩) ?_
    refine lv_if_eq (tgt := 27) hx hb dX10_name_15 (by decide) (fun c_15 => ?_) (fun c_15 => ?_)
    · skip
      have c_15 := bB_0.mp c_15
      refine lv_iconst (v := 0) hx hb dX10_name_27 (by decide) ?_
      subst hQ
      exact m_zretS E hr hlk (by decide) hw (by first | (simp [mNameW, c_5, c_15]; done) | simp [mNameW, nI_clamp (n := j) (by omega), c_5, c_15]) dX10_name_28
    · skip
      have c_15 := bB_n0.mp c_15
      refine lv_aload_n hx hb dX10_name_18 rfl (lv_at hl 0 rfl) ?_
      refine m_getr E hw 16 (by decide) rfl tw_558 dX10_name_19 ?_
      refine lv_iload_n hx hb dX10_name_22 rfl (lv_at hl 1 rfl) ?_
      refine m_ild E hw 16 ⟨by decide, rfl, rfl⟩ j (rfl) (by show j < 60; omega) dX10_name_23 ?_
      refine lv_if_eq (tgt := 29) hx hb dX10_name_24 (by decide) (fun c_24 => ?_) (fun c_24 => ?_)
      · skip
        refine lv_aload_n hx hb dX10_name_29 rfl (lv_at hl 0 rfl) ?_
        refine m_getr E hw 16 (by decide) rfl tw_558 dX10_name_30 ?_
        refine lv_iload_n hx hb dX10_name_33 rfl (lv_at hl 1 rfl) ?_
        refine lv_iload_n hx hb dX10_name_34 rfl (lv_at hl 2 rfl) ?_
        refine m_ist E hw 16 ⟨by decide, rfl, rfl⟩ j (rfl) (by show j < 60; omega) dX10_name_35 (fun H locs hw => ?_)
        refine lv_iconst (v := 1) hx hb dX10_name_36 (by decide) ?_
        subst hQ
        exact m_zretS E hr hlk (by decide) hw (by first | (simp [mNameW, c_5, c_15, c_24]; done) | simp [mNameW, nI_clamp (n := j) (by omega), c_5, c_15, c_24]) dX10_name_37
      · skip
        refine lv_iconst (v := 0) hx hb dX10_name_27 (by decide) ?_
        subst hQ
        exact m_zretS E hr hlk (by decide) hw (by first | (simp [mNameW, c_5, c_15, c_24]; done) | simp [mNameW, nI_clamp (n := j) (by omega), c_5, c_15, c_24]) dX10_name_28
set_option maxHeartbeats 4000000 in
set_option maxRecDepth 100000 in
theorem kX10_allow (l : Launch) (D : va_G) (ca : Nat → ClassId) (ad : Nat → Nat → Nat) (z9 : Nat) (v : Nat → Int32) (g : Nat → Nat → Int32) (nw : Nat) (nb : Nat) (nc : Nat) (nm : Nat) (a1 : Int32) (a2 : Int32) (tb : Bool) (hO : mOK v nw nb nc nm) : Met l yX10_allow (wz yX10_allow cX10_allow 4 (some .boolean)) (rmL 4 0 0) (va_Pc [.ref (ad 33 0), .int a1, .int a2, .int (bB (tb))] (fun U => (U.heap.size = z9 ∧ mq D ca ad v g U.heap) ∧ gK D ca U)) (QcM D ca ad (wA mcnt ad z9) (some (.int (mAllowW v g nc a1 a2 tb).1)) ((mAllowW v g nc a1 a2 tb).2.1) ((mAllowW v g nc a1 a2 tb).2.2)) 0 0 (wA mcnt ad z9) := by
  refine x_met (by decide) (Nat.le_of_ble_eq_true rfl) ?_
  intro p e s m below meth c E hr hlk hnm hq ls hl
  obtain ⟨hsz9, hq⟩ := hq
  subst hsz9
  generalize hav : ([.ref (ad 33 0), .int a1, .int a2, .int (bB (tb))] : List Value).toArray = args at E ⊢
  have hx := E.1
  have hb := E.2.1
  have hown := E.2.2.2.1
  have hts := E.2.2.2.2.1
  have hw : mw D (wA mcnt ad s.heap.size) s.heap ca ad v g s.heap [] := wd.start hq
  generalize hQ : MQ below (QcM D ca ad (wA mcnt ad s.heap.size) (some (.int (mAllowW v g nc a1 a2 tb).1)) ((mAllowW v g nc a1 a2 tb).2.1) ((mAllowW v g nc a1 a2 tb).2.2)) args s 0 0 (wA mcnt ad s.heap.size) = Q
  generalize hA9 : wA mcnt ad s.heap.size = A at hw hQ
  have hl : lv_has ls 4 [(0, .ref (ad 33 0)), (1, .int a1), (2, .int a2), (3, .int (bB (tb)))] := hl
  have hO5 := hO.2.2.2.2
  suffices hgo : ∀ (H : Heap) (locs : List Loc), mw D A s.heap ca ad v g H locs → W p l e (rmL 4 0 0) s m args below meth c H locs 0 0 Q (F0 m 0 ls []) from hgo _ _ hw
  clear hw
  intro H locs hw
  refine lv_aload_n hx hb dX10_allow_0 rfl (lv_at hl 0 rfl) ?_
  refine lv_iload_n hx hb dX10_allow_1 rfl (lv_at hl 1 rfl) ?_
  refine lv_iload_n hx hb dX10_allow_2 rfl (lv_at hl 2 rfl) ?_
  refine x_read (x_runV (rest := []) E cbX10_areBoth tw_827 (kX10_areBoth l D ca ad v g nw nb nc nm a1 a2 (hO)) ⟨rfl, rfl, by decide, by decide⟩ (m_recv E hw) (fun _ _ _ _ h => h) (fun U hU _ => by rw [hU]; exact hw.1) rfl hl.1 rfl (Nat.le_of_ble_eq_true rfl) dX10_allow_3 ⟨by decide, by decide⟩) ?_
  refine lv_if_eq (tgt := 24) hx hb dX10_allow_6 (by decide) (fun c_6 => ?_) (fun c_6 => ?_)
  · skip
    have c_6 := bB_0.mp c_6
    refine lv_iconst (v := 0) hx hb dX10_allow_24 (by decide) ?_
    subst hQ
    exact m_zretS E hr hlk (by decide) hw (by first | (simp [mAllowW, c_6]; done) | simp [mAllowW, nI_clamp (n := w1) (by omega), nI_clamp (n := j1) (by omega), c_6]) dX10_allow_25
  · skip
    have c_6 := bB_n0.mp c_6
    obtain ⟨w1, j1, g1, g2, rfl, rfl⟩ := mBoth_nat hO5.2.2.1 c_6
    refine lv_aload_n hx hb dX10_allow_9 rfl (lv_at hl 0 rfl) ?_
    refine m_getr E hw 17 (by decide) rfl tw_559 dX10_allow_10 ?_
    refine lv_bipush (v := 20) hx hb dX10_allow_13 (by decide) ?_
    refine lv_iload_n hx hb dX10_allow_15 rfl (lv_at hl 2 rfl) ?_
    refine lv_imul hx hb dX10_allow_16 ?_
    refine x_top (x := (20 * nI j1)) (y := (nI (20 * j1))) (pk_mul 20 _) ?_
    refine lv_iload_n hx hb dX10_allow_17 rfl (lv_at hl 1 rfl) ?_
    refine lv_iadd hx hb dX10_allow_18 ?_
    refine x_top (x := (nI (20 * j1) + nI w1)) (y := (nI (20 * j1 + w1))) (nI_add _ _) ?_
    refine m_zld E hw 17 ⟨by decide, rfl, rfl⟩ (20 * j1 + w1) (rfl) (by show _ < 1200; omega) dX10_allow_19 ?_
    refine lv_iload_n hx hb dX10_allow_20 rfl (lv_at hl 3 rfl) ?_
    refine lv_icmp_ne (tgt := 26) hx hb dX10_allow_21 (by decide) (fun c_21 => ?_) (fun c_21 => ?_)
    · skip
      refine lv_aload_n hx hb dX10_allow_26 rfl (lv_at hl 0 rfl) ?_
      refine m_getr E hw 17 (by decide) rfl tw_559 dX10_allow_27 ?_
      refine lv_bipush (v := 20) hx hb dX10_allow_30 (by decide) ?_
      refine lv_iload_n hx hb dX10_allow_32 rfl (lv_at hl 2 rfl) ?_
      refine lv_imul hx hb dX10_allow_33 ?_
      refine x_top (x := (20 * nI j1)) (y := (nI (20 * j1))) (pk_mul 20 _) ?_
      refine lv_iload_n hx hb dX10_allow_34 rfl (lv_at hl 1 rfl) ?_
      refine lv_iadd hx hb dX10_allow_35 ?_
      refine x_top (x := (nI (20 * j1) + nI w1)) (y := (nI (20 * j1 + w1))) (nI_add _ _) ?_
      refine lv_iload_n hx hb dX10_allow_36 rfl (lv_at hl 3 rfl) ?_
      refine m_zst E hw 17 ⟨by decide, rfl, rfl⟩ (20 * j1 + w1) (rfl) (by show _ < 1200; omega) (bB_or _) dX10_allow_37 (fun H locs hw => ?_)
      refine lv_iconst (v := 1) hx hb dX10_allow_38 (by decide) ?_
      subst hQ
      exact m_zretS E hr hlk (by decide) hw (by first | (simp [mAllowW, c_6, c_21]; done) | simp [mAllowW, nI_clamp (n := w1) (by omega), nI_clamp (n := j1) (by omega), c_6, c_21]) dX10_allow_39
    · skip
      refine lv_iconst (v := 0) hx hb dX10_allow_24 (by decide) ?_
      subst hQ
      exact m_zretS E hr hlk (by decide) hw (by first | (simp [mAllowW, c_6, c_21]; done) | simp [mAllowW, nI_clamp (n := w1) (by omega), nI_clamp (n := j1) (by omega), c_6, c_21]) dX10_allow_25
set_option maxHeartbeats 4000000 in
set_option maxRecDepth 100000 in
theorem kX10_move (l : Launch) (D : va_G) (ca : Nat → ClassId) (ad : Nat → Nat → Nat) (z9 : Nat) (v : Nat → Int32) (g : Nat → Nat → Int32) (nw : Nat) (nb : Nat) (nc : Nat) (nm : Nat) (a1 : Int32) (a2 : Int32) (a3 : Int32) (hO : mOK v nw nb nc nm) (hBo : ∀ c, c < nc → ∃ d, d ≤ nw ∧ g 9 c = nI d) : Met l yX10_move (wz yX10_move cX10_move 5 (some .boolean)) (rmL 4 0 0) (va_Pc [.ref (ad 33 0), .int a1, .int a2, .int a3] (fun U => (U.heap.size = z9 ∧ mq D ca ad v g U.heap) ∧ gK D ca U)) (QcM D ca ad (wA mcnt ad z9) (some (.int (mMoveW v g nw nc nm a1 a2 a3).1)) ((mMoveW v g nw nc nm a1 a2 a3).2.1) ((mMoveW v g nw nc nm a1 a2 a3).2.2)) 0 0 (wA mcnt ad z9) := by
  refine x_met (by decide) (Nat.le_of_ble_eq_true rfl) ?_
  intro p e s m below meth c E hr hlk hnm hq ls hl
  obtain ⟨hsz9, hq⟩ := hq
  subst hsz9
  generalize hav : ([.ref (ad 33 0), .int a1, .int a2, .int a3] : List Value).toArray = args at E ⊢
  have hx := E.1
  have hb := E.2.1
  have hown := E.2.2.2.1
  have hts := E.2.2.2.2.1
  have hw : mw D (wA mcnt ad s.heap.size) s.heap ca ad v g s.heap [] := wd.start hq
  generalize hQ : MQ below (QcM D ca ad (wA mcnt ad s.heap.size) (some (.int (mMoveW v g nw nc nm a1 a2 a3).1)) ((mMoveW v g nw nc nm a1 a2 a3).2.1) ((mMoveW v g nw nc nm a1 a2 a3).2.2)) args s 0 0 (wA mcnt ad s.heap.size) = Q
  generalize hA9 : wA mcnt ad s.heap.size = A at hw hQ
  have hl : lv_has ls 5 [(0, .ref (ad 33 0)), (1, .int a1), (2, .int a2), (3, .int a3)] := hl
  have hO5 := hO.2.2.2.2
  suffices hgo : ∀ (H : Heap) (locs : List Loc), mw D A s.heap ca ad v g H locs → W p l e (rmL 4 0 0) s m args below meth c H locs 0 0 Q (F0 m 0 ls []) from hgo _ _ hw
  clear hw
  intro H locs hw
  refine lv_aload_n hx hb dX10_move_0 rfl (lv_at hl 0 rfl) ?_
  refine lv_iload_n hx hb dX10_move_1 rfl (lv_at hl 1 rfl) ?_
  refine x_read (x_runV (rest := []) E cbX10_isChild tw_705 (kX10_isChild l D ca ad v g nw nb nc nm a1 (hO)) ⟨rfl, rfl, by decide, by decide⟩ (m_recv E hw) (fun _ _ _ _ h => h) (fun U hU _ => by rw [hU]; exact hw.1) rfl hl.1 rfl (Nat.le_of_ble_eq_true rfl) dX10_move_2 ⟨by decide, by decide⟩) ?_
  refine lv_if_eq (tgt := 45) hx hb dX10_move_5 (by decide) (fun c_5 => ?_) (fun c_5 => ?_)
  · skip
    have c_5 := bB_0.mp c_5
    refine lv_iconst (v := 0) hx hb dX10_move_45 (by decide) ?_
    subst hQ
    exact m_zretS E hr hlk (by decide) hw (by first | (simp [mMoveW, mMoveOK, c_5]; done) | (simp [mMoveW, mMoveOK, mMoveG, nI_clamp (n := j) (by omega), c_5]; done) | (simp [mMoveW, mMoveOK, mMoveG, nI_clamp (n := j) (by omega), nI_clamp (n := f3) (by omega), c_5]; done)) dX10_move_46
  · skip
    have c_5 := bB_n0.mp c_5
    obtain ⟨j, hj, rfl⟩ := isIn_nat (by omega) c_5
    refine lv_iload_n hx hb dX10_move_8 rfl (lv_at hl 2 rfl) ?_
    refine lv_iconst (v := 0) hx hb dX10_move_9 (by decide) ?_
    refine lv_bipush (v := 15) hx hb dX10_move_10 (by decide) ?_
    refine x_read (x_runS (rest := []) E cbX10_in tw_647 (kX10_in l D ca a2 0 15 ) ⟨rfl, rfl, by decide, by decide⟩ (fun _ _ _ _ h => h) (fun _ _ _ => trivial) rfl hl.1 rfl (Nat.le_of_ble_eq_true rfl) dX10_move_12 ⟨by decide, by decide⟩) ?_
    refine lv_if_eq (tgt := 45) hx hb dX10_move_15 (by decide) (fun c_15 => ?_) (fun c_15 => ?_)
    · skip
      have c_15 := bB_0.mp c_15
      refine lv_iconst (v := 0) hx hb dX10_move_45 (by decide) ?_
      subst hQ
      exact m_zretS E hr hlk (by decide) hw (by first | (simp [mMoveW, mMoveOK, c_5, c_15]; done) | (simp [mMoveW, mMoveOK, mMoveG, nI_clamp (n := j) (by omega), c_5, c_15]; done) | (simp [mMoveW, mMoveOK, mMoveG, nI_clamp (n := j) (by omega), nI_clamp (n := f3) (by omega), c_5, c_15]; done)) dX10_move_46
    · skip
      have c_15 := bB_n0.mp c_15
      refine lv_iload_n hx hb dX10_move_18 rfl (lv_at hl 3 rfl) ?_
      refine lv_aload_n hx hb dX10_move_19 rfl (lv_at hl 0 rfl) ?_
      refine m_getr E hw 9 (by decide) rfl tw_551 dX10_move_20 ?_
      refine lv_iload_n hx hb dX10_move_23 rfl (lv_at hl 1 rfl) ?_
      refine m_ild E hw 9 ⟨by decide, rfl, rfl⟩ j (rfl) (by show j < 60; omega) dX10_move_24 ?_
      refine lv_aload_n hx hb dX10_move_25 rfl (lv_at hl 0 rfl) ?_
      refine m_geti (x := (nI nw)) E hw 0 (by decide) rfl tw_542 (hO.1) dX10_move_26 ?_
      refine x_read (x_runS (rest := []) E cbX10_in tw_647 (kX10_in l D ca a3 (g 9 j) (nI nw) ) ⟨rfl, rfl, by decide, by decide⟩ (fun _ _ _ _ h => h) (fun _ _ _ => trivial) rfl hl.1 rfl (Nat.le_of_ble_eq_true rfl) dX10_move_29 ⟨by decide, by decide⟩) ?_
      refine lv_if_eq (tgt := 45) hx hb dX10_move_32 (by decide) (fun c_32 => ?_) (fun c_32 => ?_)
      · skip
        have c_32 := bB_0.mp c_32
        refine lv_iconst (v := 0) hx hb dX10_move_45 (by decide) ?_
        subst hQ
        exact m_zretS E hr hlk (by decide) hw (by first | (simp [mMoveW, mMoveOK, c_5, c_15, c_32]; done) | (simp [mMoveW, mMoveOK, mMoveG, nI_clamp (n := j) (by omega), c_5, c_15, c_32]; done) | (simp [mMoveW, mMoveOK, mMoveG, nI_clamp (n := j) (by omega), nI_clamp (n := f3) (by omega), c_5, c_15, c_32]; done)) dX10_move_46
      · skip
        have c_32 := bB_n0.mp c_32
        obtain ⟨d9, hd9, e9⟩ := hBo j hj
        rw [e9] at c_32
        obtain ⟨f3, hf3, hf4, rfl⟩ := isIn_rng (lo := d9) (hi := nw) (by omega) (by omega) c_32
        rw [← e9] at c_32
        refine lv_aload_n hx hb dX10_move_35 rfl (lv_at hl 0 rfl) ?_
        refine m_geti (x := (nI nm)) E hw 3 (by decide) rfl tw_545 (hO.2.2.2.1) dX10_move_36 ?_
        refine lv_sipush (v := 300) hx hb dX10_move_39 (by decide) ?_
        refine lv_icmp_ne (tgt := 47) hx hb dX10_move_42 (by decide) (fun c_42 => ?_) (fun c_42 => ?_)
        · skip
          have hc_300 : ¬ nm = 300 := fun q => c_42 (by rw [q]; rfl)
          refine lv_aload_n hx hb dX10_move_47 rfl (lv_at hl 0 rfl) ?_
          refine lv_iload_n hx hb dX10_move_48 rfl (lv_at hl 1 rfl) ?_
          refine lv_iload_n hx hb dX10_move_49 rfl (lv_at hl 3 rfl) ?_
          refine lv_aload_n hx hb dX10_move_50 rfl (lv_at hl 0 rfl) ?_
          refine m_geti (x := (nI nw)) E hw 0 (by decide) rfl tw_542 (hO.1) dX10_move_51 ?_
          refine x_read (x_runV (rest := []) E cbX10_where tw_697 (kX10_where l D ca ad v g nw nb nc nm (nI j) (nI f3) (nI nw) (hO)) ⟨rfl, rfl, by decide, by decide⟩ (m_recv E hw) (fun _ _ _ _ h => h) (fun U hU _ => by rw [hU]; exact hw.1) rfl hl.1 rfl (Nat.le_of_ble_eq_true rfl) dX10_move_54 ⟨by decide, by decide⟩) ?_
          refine lv_istore (lv' := [(4, .int ((mWh g (nI j) (nI f3) (nI nw) nm).1)), (0, .ref (ad 33 0)), (1, .int (nI j)), (2, .int a2), (3, .int (nI f3))]) hx hb dX10_move_57 hl (by decide) rfl (fun ls hl => ?_)
          refine lv_iload hx hb dX10_move_59 (lv_at hl 0 rfl) ?_
          refine lv_bipush (v := 14) hx hb dX10_move_61 (by decide) ?_
          refine lv_icmp_eq (tgt := 73) hx hb dX10_move_63 (by decide) (fun c_63 => ?_) (fun c_63 => ?_)
          · skip
            refine lv_iconst (v := 0) hx hb dX10_move_73 (by decide) ?_
            subst hQ
            exact m_zretS E hr hlk (by decide) hw (by first | (simp [mMoveW, mMoveOK, c_5, c_15, c_32, c_42, hc_300, c_63]; done) | (simp [mMoveW, mMoveOK, mMoveG, nI_clamp (n := j) (by omega), c_5, c_15, c_32, c_42, hc_300, c_63]; done) | (simp [mMoveW, mMoveOK, mMoveG, nI_clamp (n := j) (by omega), nI_clamp (n := f3) (by omega), c_5, c_15, c_32, c_42, hc_300, c_63]; done)) dX10_move_74
          · skip
            refine lv_iload hx hb dX10_move_66 (lv_at hl 0 rfl) ?_
            refine lv_bipush (v := 15) hx hb dX10_move_68 (by decide) ?_
            refine lv_icmp_ne (tgt := 75) hx hb dX10_move_70 (by decide) (fun c_70 => ?_) (fun c_70 => ?_)
            · skip
              refine lv_aload_n hx hb dX10_move_75 rfl (lv_at hl 1 rfl) ?_
              refine m_getr E hw 18 (by decide) rfl tw_560 dX10_move_76 ?_
              refine lv_aload_n hx hb dX10_move_79 rfl (lv_at hl 1 rfl) ?_
              refine m_geti (x := (nI nm)) E hw 3 (by decide) rfl tw_545 (hO.2.2.2.1) dX10_move_80 ?_
              refine lv_iload_n hx hb dX10_move_83 rfl (lv_at hl 2 rfl) ?_
              refine m_ist E hw 18 ⟨by decide, rfl, rfl⟩ nm (rfl) (by show nm < 300; omega) dX10_move_84 (fun H locs hw => ?_)
              refine lv_aload_n hx hb dX10_move_85 rfl (lv_at hl 1 rfl) ?_
              refine m_getr E hw 19 (by decide) rfl tw_561 dX10_move_86 ?_
              refine lv_aload_n hx hb dX10_move_89 rfl (lv_at hl 1 rfl) ?_
              refine m_geti (x := (nI nm)) E hw 3 (by decide) rfl tw_545 (hO.2.2.2.1) dX10_move_90 ?_
              refine lv_iload_n hx hb dX10_move_93 rfl (lv_at hl 3 rfl) ?_
              refine m_ist E hw 19 ⟨by decide, rfl, rfl⟩ nm (rfl) (by show nm < 300; omega) dX10_move_94 (fun H locs hw => ?_)
              refine lv_aload_n hx hb dX10_move_95 rfl (lv_at hl 1 rfl) ?_
              refine m_getr E hw 20 (by decide) rfl tw_562 dX10_move_96 ?_
              refine lv_aload_n hx hb dX10_move_99 rfl (lv_at hl 1 rfl) ?_
              refine m_geti (x := (nI nm)) E hw 3 (by decide) rfl tw_545 (hO.2.2.2.1) dX10_move_100 ?_
              refine lv_iload_n hx hb dX10_move_103 rfl (lv_at hl 4 rfl) ?_
              refine m_ist E hw 20 ⟨by decide, rfl, rfl⟩ nm (rfl) (by show nm < 300; omega) dX10_move_104 (fun H locs hw => ?_)
              refine lv_aload_n hx hb dX10_move_105 rfl (lv_at hl 1 rfl) ?_
              refine m_getr E hw 21 (by decide) rfl tw_563 dX10_move_106 ?_
              refine lv_aload_n hx hb dX10_move_109 rfl (lv_at hl 1 rfl) ?_
              refine m_geti (x := (nI nm)) E hw 3 (by decide) rfl tw_545 (hO.2.2.2.1) dX10_move_110 ?_
              refine lv_aload_n hx hb dX10_move_113 rfl (lv_at hl 1 rfl) ?_
              refine m_geti (x := (nI nw)) E hw 0 (by decide) rfl tw_542 (hO.1) dX10_move_114 ?_
              refine m_ist E hw 21 ⟨by decide, rfl, rfl⟩ nm (rfl) (by show nm < 300; omega) dX10_move_117 (fun H locs hw => ?_)
              refine lv_aload_n hx hb dX10_move_118 rfl (lv_at hl 1 rfl) ?_
              refine lv_dup hx hb dX10_move_119 rfl ?_
              refine m_geti (x := (nI nm)) E hw 3 (by decide) rfl tw_545 (hO.2.2.2.1) dX10_move_120 ?_
              refine lv_iconst (v := 1) hx hb dX10_move_123 (by decide) ?_
              refine lv_iadd hx hb dX10_move_124 ?_
              refine x_top (x := (nI nm + 1)) (y := (nI (nm + 1))) (nI_1 _) ?_
              refine m_put E hw 3 (by decide) rfl tw_545 dX10_move_125 (fun H locs hw => ?_)
              refine lv_iload_n hx hb dX10_move_128 rfl (lv_at hl 3 rfl) ?_
              refine lv_iconst (v := 1) hx hb dX10_move_129 (by decide) ?_
              refine lv_bipush (v := 12) hx hb dX10_move_130 (by decide) ?_
              refine x_read (x_runS (rest := []) E cbX10_in tw_647 (kX10_in l D ca a2 1 12 ) ⟨rfl, rfl, by decide, by decide⟩ (fun _ _ _ _ h => h) (fun _ _ _ => trivial) rfl hl.1 rfl (Nat.le_of_ble_eq_true rfl) dX10_move_132 ⟨by decide, by decide⟩) ?_
              refine lv_if_eq (tgt := 165) hx hb dX10_move_135 (by decide) (fun c_135 => ?_) (fun c_135 => ?_)
              · skip
                have c_135 := bB_0.mp c_135
                refine lv_iconst (v := 1) hx hb dX10_move_165 (by decide) ?_
                subst hQ
                exact m_zretS E hr hlk (by decide) hw (by first | (simp [mMoveW, mMoveOK, mMoveG, nI_clamp (n := j) (by omega), nI_clamp (n := f3) (by omega), c_5, c_15, c_32, c_42, hc_300, c_63, c_70, c_135]; done) | (simp only [Bool.not_eq_true, Bool.not_eq_eq_eq_not, Bool.not_true, Bool.not_false] at c_150; simp [mMoveW, mMoveOK, mMoveG, nI_clamp (n := j) (by omega), nI_clamp (n := f3) (by omega), nI_clamp (n := p2) (by omega), c_5, c_15, c_32, c_42, hc_300, c_63, c_70, c_135])) dX10_move_166
              · skip
                have c_135 := bB_n0.mp c_135
                obtain ⟨p2, hp1, hp2, rfl⟩ := isIn_rng (lo := 1) (hi := 12) (by decide) (by decide) c_135
                refine lv_aload_n hx hb dX10_move_138 rfl (lv_at hl 1 rfl) ?_
                refine lv_iload_n hx hb dX10_move_139 rfl (lv_at hl 3 rfl) ?_
                refine lv_iload_n hx hb dX10_move_140 rfl (lv_at hl 4 rfl) ?_
                refine lv_aload_n hx hb dX10_move_141 rfl (lv_at hl 1 rfl) ?_
                refine m_getr E hw 22 (by decide) rfl tw_564 dX10_move_142 ?_
                refine lv_iload_n hx hb dX10_move_145 rfl (lv_at hl 3 rfl) ?_
                refine m_ild E hw 22 ⟨by decide, rfl, rfl⟩ p2 (rfl) (by show p2 < 13; omega) dX10_move_146 ?_
                refine x_top (x := ((upd2 (upd2 (upd2 (upd2 g 18 nm (nI j)) 19 nm (nI p2)) 20 nm (nI f3)) 21 nm (nI nw)) 22 p2)) (y := (g 22 p2)) (by simp [upd2]) ?_
                refine x_read (x_runV (rest := []) E cbX10_hasRoom tw_681 (kX10_hasRoom l D ca ad (upd v 3 (nI (nm + 1))) (upd2 (upd2 (upd2 (upd2 g 18 nm (nI j)) 19 nm (nI p2)) 20 nm (nI f3)) 21 nm (nI nw)) nw nb nc (nm + 1) (nI p2) f3 (g 22 p2) (⟨by rw [upd_ne _ _ (by decide)]; exact hO.1, by rw [upd_ne _ _ (by decide)]; exact hO.2.1, by rw [upd_ne _ _ (by decide)]; exact hO.2.2.1, upd_at _ _ _, by omega, by omega, by omega, by omega⟩) (hf4)) ⟨rfl, rfl, by decide, by decide⟩ (m_recv E hw) (fun _ _ _ _ h => h) (fun U hU _ => by rw [hU]; exact hw.1) rfl hl.1 rfl (Nat.le_of_ble_eq_true rfl) dX10_move_147 ⟨by decide, by decide⟩) ?_
                refine lv_if_ne (tgt := 165) hx hb dX10_move_150 (by decide) (fun c_150 => ?_) (fun c_150 => ?_)
                · skip
                  have c_150 := bB_n0.mp c_150
                  refine lv_iconst (v := 1) hx hb dX10_move_165 (by decide) ?_
                  subst hQ
                  exact m_zretS E hr hlk (by decide) hw (by first | (simp [mMoveW, mMoveOK, mMoveG, nI_clamp (n := j) (by omega), nI_clamp (n := f3) (by omega), c_5, c_15, c_32, c_42, hc_300, c_63, c_70, c_135, c_150]; done) | (simp only [Bool.not_eq_true, Bool.not_eq_eq_eq_not, Bool.not_true, Bool.not_false] at c_150; simp [mMoveW, mMoveOK, mMoveG, nI_clamp (n := j) (by omega), nI_clamp (n := f3) (by omega), nI_clamp (n := p2) (by omega), c_5, c_15, c_32, c_42, hc_300, c_63, c_70, c_135, c_150])) dX10_move_166
                · skip
                  have c_150 := bB_0.mp c_150
                  refine lv_aload_n hx hb dX10_move_153 rfl (lv_at hl 1 rfl) ?_
                  refine lv_dup hx hb dX10_move_154 rfl ?_
                  refine m_geti (x := (nI (nm + 1))) E hw 3 (by decide) rfl tw_545 (by simp [upd]) dX10_move_155 ?_
                  refine lv_iconst (v := 1) hx hb dX10_move_158 (by decide) ?_
                  refine lv_isub hx hb dX10_move_159 ?_
                  refine x_top (x := ((nI (nm + 1)) - 1)) (y := (nI nm)) (nI_pred _) ?_
                  refine m_put E hw 3 (by decide) rfl tw_545 dX10_move_160 (fun H locs hw => ?_)
                  refine lv_iconst (v := 0) hx hb dX10_move_163 (by decide) ?_
                  subst hQ
                  exact m_zretS E hr hlk (by decide) hw (by rw [upd_upd, upd_same hO.2.2.2.1]; simp only [Bool.not_eq_true, Bool.not_eq_eq_eq_not, Bool.not_true, Bool.not_false] at c_150; simp [mMoveW, mMoveOK, mMoveG, nI_clamp (n := j) (by omega), nI_clamp (n := f3) (by omega), nI_clamp (n := p2) (by omega), c_5, c_15, c_32, c_42, hc_300, c_63, c_70, c_135, c_150]) dX10_move_164
            · skip
              refine lv_iconst (v := 0) hx hb dX10_move_73 (by decide) ?_
              subst hQ
              exact m_zretS E hr hlk (by decide) hw (by first | (simp [mMoveW, mMoveOK, c_5, c_15, c_32, c_42, hc_300, c_63, c_70]; done) | (simp [mMoveW, mMoveOK, mMoveG, nI_clamp (n := j) (by omega), c_5, c_15, c_32, c_42, hc_300, c_63, c_70]; done) | (simp [mMoveW, mMoveOK, mMoveG, nI_clamp (n := j) (by omega), nI_clamp (n := f3) (by omega), c_5, c_15, c_32, c_42, hc_300, c_63, c_70]; done)) dX10_move_74
        · skip
          have hc_300 : nm = 300 := (nI_eq (a := nm) (b := 300) (by omega) (by decide)).mp c_42
          refine lv_iconst (v := 0) hx hb dX10_move_45 (by decide) ?_
          subst hQ
          exact m_zretS E hr hlk (by decide) hw (by first | (simp [mMoveW, mMoveOK, c_5, c_15, c_32, c_42, hc_300]; done) | (simp [mMoveW, mMoveOK, mMoveG, nI_clamp (n := j) (by omega), c_5, c_15, c_32, c_42, hc_300]; done) | (simp [mMoveW, mMoveOK, mMoveG, nI_clamp (n := j) (by omega), nI_clamp (n := f3) (by omega), c_5, c_15, c_32, c_42, hc_300]; done)) dX10_move_46
set_option maxHeartbeats 4000000 in
set_option maxRecDepth 100000 in
theorem kX10_feed (l : Launch) (D : va_G) (ca : Nat → ClassId) (ad : Nat → Nat → Nat) (z9 : Nat) (v : Nat → Int32) (g : Nat → Nat → Int32) (sz : Nat) (a1 : Int32) (hs : v 27 = nI sz) (hs2 : sz ≤ 100) : Met l yX10_feed (wz yX10_feed cX10_feed 5 (some .int)) (rmL 1 0 0) (va_Pc [.ref (ad 33 0), .int a1] (fun U => (U.heap.size = z9 ∧ mq D ca ad v g U.heap) ∧ gK D ca U)) (QcM D ca ad (wA mcnt ad z9) (some (.int (mFeedW v g sz a1).1)) ((mFeedW v g sz a1).2.1) ((mFeedW v g sz a1).2.2)) 0 0 (wA mcnt ad z9) := by
  refine x_met (by decide) (Nat.le_of_ble_eq_true rfl) ?_
  intro p e s m below meth c E hr hlk hnm hq ls hl
  obtain ⟨hsz9, hq⟩ := hq
  subst hsz9
  generalize hav : ([.ref (ad 33 0), .int a1] : List Value).toArray = args at E ⊢
  have hx := E.1
  have hb := E.2.1
  have hown := E.2.2.2.1
  have hts := E.2.2.2.2.1
  have hw : mw D (wA mcnt ad s.heap.size) s.heap ca ad v g s.heap [] := wd.start hq
  generalize hQ : MQ below (QcM D ca ad (wA mcnt ad s.heap.size) (some (.int (mFeedW v g sz a1).1)) ((mFeedW v g sz a1).2.1) ((mFeedW v g sz a1).2.2)) args s 0 0 (wA mcnt ad s.heap.size) = Q
  generalize hA9 : wA mcnt ad s.heap.size = A at hw hQ
  have hl : lv_has ls 5 [(0, .ref (ad 33 0)), (1, .int a1)] := hl
  suffices hgo : ∀ (H : Heap) (locs : List Loc), mw D A s.heap ca ad v g H locs → W p l e (rmL 1 0 0) s m args below meth c H locs 0 0 Q (F0 m 0 ls []) from hgo _ _ hw
  clear hw
  intro H locs hw
  refine lv_iconst (v := 0) hx hb dX10_feed_0 (by decide) ?_
  refine lv_istore_n (lv' := [(2, .int 0), (0, .ref (ad 33 0)), (1, .int a1)]) hx hb dX10_feed_1 rfl hl (by decide) rfl (fun ls hl => ?_)
  refine lv_iconst (v := 0) hx hb dX10_feed_2 (by decide) ?_
  refine lv_istore_n (lv' := [(3, .int 0), (2, .int 0), (0, .ref (ad 33 0)), (1, .int a1)]) hx hb dX10_feed_3 rfl hl (by decide) rfl (fun ls hl => ?_)
  have lp4 : ∀ (n : Nat) (k : Nat) (x2 : Int32), (k ≤ 4) → (x2 = nI (mFc a1 k)) → (4 - k < n) → ∀ (H : Heap) (locs : List Loc), mw D A s.heap ca ad v g H locs → ∀ ls : Array Slot, lv_has ls 5 [(0, .ref (ad 33 0)), (1, .int a1), (2, .int x2), (3, .int (nI k))] → W p l e (rmL 1 0 0) s m args below meth c H locs 0 0 Q (F0 m 4 ls []) := by
    intro n
    induction n with
    | zero =>
      intro k x2 hi h2 hfu H locs hw ls hl
      exact absurd hfu (by omega)
    | succ n ih4 =>
      intro k x2 hi h2 hfu H locs hw ls hl
      refine lv_iload_n hx hb dX10_feed_4 rfl (lv_at hl 3 rfl) ?_
      refine lv_iconst (v := 4) hx hb dX10_feed_5 (by decide) ?_
      refine lv_icmp_ge (tgt := 36) hx hb dX10_feed_6 (by decide) (fun c_6 => ?_) (fun c_6 => ?_)
      · skip
        obtain rfl : k = 4 := by have q9 := (nI_leI (a := 4) (b := k) (by decide) (by omega)).mp c_6; omega
        refine lv_aload_n hx hb dX10_feed_36 rfl (lv_at hl 0 rfl) ?_
        refine m_geti (x := (nI sz)) E hw 27 (by decide) rfl tw_569 (hs) dX10_feed_37 ?_
        refine lv_iload_n hx hb dX10_feed_40 rfl (lv_at hl 2 rfl) ?_
        refine lv_iadd hx hb dX10_feed_41 ?_
        refine x_top (x := (nI sz + x2)) (y := (nI (sz + mFc a1 4))) (by rw [h2, nI_add]) ?_
        refine lv_bipush (v := 100) hx hb dX10_feed_42 (by decide) ?_
        refine lv_icmp_le (tgt := 49) hx hb dX10_feed_44 (by decide) (fun c_44 => ?_) (fun c_44 => ?_)
        · skip
          have hc_s : sz + mFc a1 4 ≤ 100 := (nI_leI (a := sz + mFc a1 4) (b := 100) (by have := mFs_le a1 4; rw [mFs_Fc] at this; omega) (by decide)).mp c_44
          refine lv_iconst (v := 3) hx hb dX10_feed_49 (by decide) ?_
          refine lv_istore_n (lv' := [(3, .int 3), (0, .ref (ad 33 0)), (1, .int a1), (2, .int x2)]) hx hb dX10_feed_50 rfl hl (by decide) rfl (fun ls hl => ?_)
          have lp51 : ∀ (n : Nat) (t : Nat) (x3 : Int32), (t ≤ 4) → (x3 = fdn t) → (4 - t < n) → ∀ (H : Heap) (locs : List Loc), mw D A s.heap ca ad (upd v 27 (nI (sz + mFs a1 t))) (mFg g sz a1 t) H locs → ∀ ls : Array Slot, lv_has ls 5 [(0, .ref (ad 33 0)), (1, .int a1), (3, .int x3)] → W p l e (rmL 1 0 0) s m args below meth c H locs 0 0 Q (F0 m 51 ls []) := by
            intro n
            induction n with
            | zero =>
              intro t x3 hi h3 hfu H locs hw ls hl
              exact absurd hfu (by omega)
            | succ n ih51 =>
              intro t x3 hi h3 hfu H locs hw ls hl
              refine lv_iload_n hx hb dX10_feed_51 rfl (lv_at hl 2 rfl) ?_
              refine lv_if_lt (tgt := 99) hx hb dX10_feed_52 (by decide) (fun c_52 => ?_) (fun c_52 => ?_)
              · skip
                rw [h3] at c_52
                have hte := fdn_lt hi c_52
                refine lv_aload_n hx hb dX10_feed_99 rfl (lv_at hl 0 rfl) ?_
                refine m_geti (x := (nI (sz + mFs a1 t))) E hw 27 (by decide) rfl tw_569 (by simp [upd]) dX10_feed_100 ?_
                subst hQ
                exact m_iretS E hr hlk hw (by rw [hte]; simp [mFeedW, hc_s]) dX10_feed_103
              · skip
                rw [h3] at c_52
                obtain ⟨hlt, hxe⟩ := fdn_ge hi c_52
                rw [hxe] at h3
                subst h3
                refine lv_iload_n hx hb dX10_feed_55 rfl (lv_at hl 1 rfl) ?_
                refine lv_bipush (v := 8) hx hb dX10_feed_56 (by decide) ?_
                refine lv_iload_n hx hb dX10_feed_58 rfl (lv_at hl 2 rfl) ?_
                refine lv_imul hx hb dX10_feed_59 ?_
                refine lv_ishr hx hb dX10_feed_60 ?_
                refine lv_sipush (v := 255) hx hb dX10_feed_61 (by decide) ?_
                refine lv_iand hx hb dX10_feed_64 ?_
                refine x_top (x := ((a1 >>> ((8 * nI (3 - t)) &&& 31)) &&& 255)) (y := (mByte a1 (3 - t))) (rfl) ?_
                refine lv_istore (lv' := [(4, .int (mByte a1 (3 - t))), (0, .ref (ad 33 0)), (1, .int a1), (3, .int (nI (3 - t)))]) hx hb dX10_feed_65 hl (by decide) rfl (fun ls hl => ?_)
                refine lv_iload hx hb dX10_feed_67 (lv_at hl 0 rfl) ?_
                refine lv_if_eq (tgt := 93) hx hb dX10_feed_69 (by decide) (fun c_69 => ?_) (fun c_69 => ?_)
                · skip
                  refine lv_iinc (v := (nI (3 - t) + (-1))) (lv' := [(3, .int (nI (3 - t) + (-1))), (4, .int (mByte a1 (3 - t))), (0, .ref (ad 33 0)), (1, .int a1)]) hx hb dX10_feed_93 hl (k := 3) rfl (rfl) (by decide) rfl (fun ls hl => ?_)
                  refine lv_goto (tgt := 51) hx hb dX10_feed_96 (by decide) ?_
                  exact ih51 (t + 1) (nI (3 - t) + (-1)) (hlt) (fdn_next hlt) (by omega) _ _ (by simpa [mFs, mFg, upd_upd, Nat.add_assoc, c_52, c_69] using hw) ls (lv_sub hl [2, 3, 0] (rfl))
                · skip
                  refine lv_aload_n hx hb dX10_feed_72 rfl (lv_at hl 1 rfl) ?_
                  refine m_getr E hw 24 (by decide) rfl tw_566 dX10_feed_73 ?_
                  refine lv_aload_n hx hb dX10_feed_76 rfl (lv_at hl 1 rfl) ?_
                  refine m_geti (x := (nI (sz + mFs a1 t))) E hw 27 (by decide) rfl tw_569 (by simp [upd]) dX10_feed_77 ?_
                  refine lv_iload hx hb dX10_feed_80 (lv_at hl 0 rfl) ?_
                  refine m_ist E hw 24 ⟨by decide, rfl, rfl⟩ (sz + mFs a1 t) (rfl) (by show _ < 100; have h8 := mFs_mono a1 (t := t + 1) hlt; rw [mFs_Fc] at h8; have h7 : mFs a1 (t + 1) = mFs a1 t + 1 := (by simp [mFs, c_52, c_69]); omega) dX10_feed_82 (fun H locs hw => ?_)
                  refine lv_aload_n hx hb dX10_feed_83 rfl (lv_at hl 1 rfl) ?_
                  refine lv_dup hx hb dX10_feed_84 rfl ?_
                  refine m_geti (x := (nI (sz + mFs a1 t))) E hw 27 (by decide) rfl tw_569 (by simp [upd]) dX10_feed_85 ?_
                  refine lv_iconst (v := 1) hx hb dX10_feed_88 (by decide) ?_
                  refine lv_iadd hx hb dX10_feed_89 ?_
                  refine x_top (x := ((nI (sz + mFs a1 t)) + 1)) (y := (nI (sz + mFs a1 t + 1))) (nI_1 _) ?_
                  refine m_put E hw 27 (by decide) rfl tw_569 dX10_feed_90 (fun H locs hw => ?_)
                  refine lv_iinc (v := (nI (3 - t) + (-1))) (lv' := [(3, .int (nI (3 - t) + (-1))), (4, .int (mByte a1 (3 - t))), (0, .ref (ad 33 0)), (1, .int a1)]) hx hb dX10_feed_93 hl (k := 3) rfl (rfl) (by decide) rfl (fun ls hl => ?_)
                  refine lv_goto (tgt := 51) hx hb dX10_feed_96 (by decide) ?_
                  exact ih51 (t + 1) (nI (3 - t) + (-1)) (hlt) (fdn_next hlt) (by omega) _ _ (by simpa [mFs, mFg, upd_upd, Nat.add_assoc, c_52, c_69] using hw) ls (lv_sub hl [2, 3, 0] (rfl))
          exact lp51 5 0 3 (by omega) (rfl) (by omega) _ _ (by rw [show mFs a1 0 = 0 from rfl, Nat.add_zero, upd_same hs]; exact hw) ls (lv_sub hl [1, 2, 0] (rfl))
        · skip
          have hc_s : ¬ sz + mFc a1 4 ≤ 100 := mt (nI_leI (a := sz + mFc a1 4) (b := 100) (by have := mFs_le a1 4; rw [mFs_Fc] at this; omega) (by decide)).mpr c_44
          refine lv_iconst (v := (-1)) hx hb dX10_feed_47 (by decide) ?_
          subst hQ
          exact m_iretS E hr hlk hw (by simp [mFeedW, c_6, c_44, hc_s]) dX10_feed_48
      · skip
        have hlt : k < 4 := by have q9 := mt (nI_leI (a := 4) (b := k) (by decide) (by omega)).mpr c_6; omega
        refine lv_iload_n hx hb dX10_feed_9 rfl (lv_at hl 2 rfl) ?_
        refine lv_iload_n hx hb dX10_feed_10 rfl (lv_at hl 1 rfl) ?_
        refine lv_bipush (v := 8) hx hb dX10_feed_11 (by decide) ?_
        refine lv_iload_n hx hb dX10_feed_13 rfl (lv_at hl 3 rfl) ?_
        refine lv_imul hx hb dX10_feed_14 ?_
        refine lv_ishr hx hb dX10_feed_15 ?_
        refine lv_sipush (v := 255) hx hb dX10_feed_16 (by decide) ?_
        refine lv_iand hx hb dX10_feed_19 ?_
        refine x_top (x := ((a1 >>> ((8 * nI k) &&& 31)) &&& 255)) (y := (mByte a1 k)) (rfl) ?_
        refine lv_if_eq (tgt := 27) hx hb dX10_feed_20 (by decide) (fun c_20 => ?_) (fun c_20 => ?_)
        · skip
          refine lv_iconst (v := 0) hx hb dX10_feed_27 (by decide) ?_
          refine lv_iadd hx hb dX10_feed_28 ?_
          refine lv_istore_n (lv' := [(2, .int (x2 + 0)), (0, .ref (ad 33 0)), (1, .int a1), (3, .int (nI k))]) hx hb dX10_feed_29 rfl hl (by decide) rfl (fun ls hl => ?_)
          refine lv_iinc (v := (nI (k + 1))) (lv' := [(3, .int (nI (k + 1))), (2, .int (x2 + 0)), (0, .ref (ad 33 0)), (1, .int a1)]) hx hb dX10_feed_30 hl (k := 3) rfl (nI_1 _) (by decide) rfl (fun ls hl => ?_)
          refine lv_goto (tgt := 4) hx hb dX10_feed_33 (by decide) ?_
          exact ih4 (k + 1) (x2 + 0) (hlt) (by rw [h2]; simp [mFc, nI_1, c_6, c_20]) (by omega) _ _ (hw) ls (lv_sub hl [2, 3, 1, 0] (rfl))
        · skip
          refine lv_iconst (v := 1) hx hb dX10_feed_23 (by decide) ?_
          refine lv_goto (tgt := 28) hx hb dX10_feed_24 (by decide) ?_
          refine lv_iadd hx hb dX10_feed_28 ?_
          refine lv_istore_n (lv' := [(2, .int (x2 + 1)), (0, .ref (ad 33 0)), (1, .int a1), (3, .int (nI k))]) hx hb dX10_feed_29 rfl hl (by decide) rfl (fun ls hl => ?_)
          refine lv_iinc (v := (nI (k + 1))) (lv' := [(3, .int (nI (k + 1))), (2, .int (x2 + 1)), (0, .ref (ad 33 0)), (1, .int a1)]) hx hb dX10_feed_30 hl (k := 3) rfl (nI_1 _) (by decide) rfl (fun ls hl => ?_)
          refine lv_goto (tgt := 4) hx hb dX10_feed_33 (by decide) ?_
          exact ih4 (k + 1) (x2 + 1) (hlt) (by rw [h2]; simp [mFc, nI_1, c_6, c_20]) (by omega) _ _ (hw) ls (lv_sub hl [2, 3, 1, 0] (rfl))
  exact lp4 5 0 0 (by omega) (rfl) (by omega) _ _ (hw) ls (lv_sub hl [2, 3, 1, 0] (rfl))
