set_option maxHeartbeats 4000000 in
set_option maxRecDepth 100000 in
theorem kX10_in (l : Launch) (D : va_G) (ca : Nat → ClassId) (a1 : Int32) (a2 : Int32) (a3 : Int32)  : Met l yX10_in (wz yX10_in cX10_in 3 (some .boolean)) (rmL 1 0 0) (va_Pc [.int a1, .int a2, .int a3] (fun U => True ∧ gK D ca U)) (QcRead (bB (isIn a1 a2 a3))) 0 0 (fun _ => False) := by
  refine x_met (by decide) (Nat.le_of_ble_eq_true rfl) ?_
  intro p e s m below meth c E hr hlk hnm hq ls hl
  generalize hav : ([.int a1, .int a2, .int a3] : List Value).toArray = args at E ⊢
  have hx := E.1
  have hb := E.2.1
  have hown := E.2.2.2.1
  have hts := E.2.2.2.2.1
  generalize hQ : MQ below (QcRead (bB (isIn a1 a2 a3))) args s 0 0 (fun _ => False) = Q
  have hl : lv_has ls 3 [(0, .int a1), (1, .int a2), (2, .int a3)] := hl
  refine lv_iload_n hx hb dX10_in_0 rfl (lv_at hl 0 rfl) ?_
  refine lv_iload_n hx hb dX10_in_1 rfl (lv_at hl 1 rfl) ?_
  refine lv_icmp_lt (tgt := 14) hx hb dX10_in_2 (by decide) (fun c_2 => ?_) (fun c_2 => ?_)
  · skip
    refine lv_iconst (v := 0) hx hb dX10_in_14 (by decide) ?_
    subst hQ
    exact x_zret E hr hlk (by decide) (by simp [bB, isIn, c_2]) dX10_in_15
  · skip
    refine lv_iload_n hx hb dX10_in_5 rfl (lv_at hl 0 rfl) ?_
    refine lv_iload_n hx hb dX10_in_6 rfl (lv_at hl 2 rfl) ?_
    refine lv_icmp_gt (tgt := 14) hx hb dX10_in_7 (by decide) (fun c_7 => ?_) (fun c_7 => ?_)
    · skip
      refine lv_iconst (v := 0) hx hb dX10_in_14 (by decide) ?_
      subst hQ
      exact x_zret E hr hlk (by decide) (by simp [bB, isIn, c_2, c_7]) dX10_in_15
    · skip
      refine lv_iconst (v := 1) hx hb dX10_in_10 (by decide) ?_
      refine lv_goto (tgt := 15) hx hb dX10_in_11 (by decide) ?_
      subst hQ
      exact x_zret E hr hlk (by decide) (by simp [bB, isIn, c_2, c_7]) dX10_in_15
set_option maxHeartbeats 4000000 in
set_option maxRecDepth 100000 in
theorem kX10_isChild (l : Launch) (D : va_G) (ca : Nat → ClassId) (ad : Nat → Nat → Nat) (v : Nat → Int32) (g : Nat → Nat → Int32) (nw : Nat) (nb : Nat) (nc : Nat) (nm : Nat) (a1 : Int32) (hO : mOK v nw nb nc nm) : Met l yX10_isChild (wz yX10_isChild cX10_isChild 2 (some .boolean)) (rmL 2 0 0) (va_Pc [.ref (ad 33 0), .int a1] (fun U => mq D ca ad v g U.heap ∧ gK D ca U)) (QcRead (bB (isIn a1 0 (nI nc - 1)))) 0 0 (fun _ => False) := by
  refine x_met (by decide) (Nat.le_of_ble_eq_true rfl) ?_
  intro p e s m below meth c E hr hlk hnm hq ls hl
  generalize hav : ([.ref (ad 33 0), .int a1] : List Value).toArray = args at E ⊢
  have hx := E.1
  have hb := E.2.1
  have hown := E.2.2.2.1
  have hts := E.2.2.2.2.1
  have hw : mw D (wA mcnt ad s.heap.size) s.heap ca ad v g s.heap [] := wd.start hq
  generalize hQ : MQ below (QcRead (bB (isIn a1 0 (nI nc - 1)))) args s 0 0 (fun _ => False) = Q
  have hl : lv_has ls 2 [(0, .ref (ad 33 0)), (1, .int a1)] := hl
  refine lv_iload_n hx hb dX10_isChild_0 rfl (lv_at hl 1 rfl) ?_
  refine lv_iconst (v := 0) hx hb dX10_isChild_1 (by decide) ?_
  refine lv_aload_n hx hb dX10_isChild_2 rfl (lv_at hl 0 rfl) ?_
  refine m_geti (x := (nI nc)) E hw 2 (by decide) rfl tw_544 (hO.2.2.1) dX10_isChild_3 ?_
  refine lv_iconst (v := 1) hx hb dX10_isChild_6 (by decide) ?_
  refine lv_isub hx hb dX10_isChild_7 ?_
  refine x_read (x_runS (rest := []) E cbX10_in tw_647 (kX10_in l D ca a1 0 (nI nc - 1) ) ⟨rfl, rfl, by decide, by decide⟩ (fun _ _ _ _ h => h) (fun _ _ _ => trivial) rfl hl.1 rfl (Nat.le_of_ble_eq_true rfl) dX10_isChild_8 ⟨by decide, by decide⟩) ?_
  subst hQ
  exact x_zret E hr hlk (bB_or _) (rfl) dX10_isChild_11
set_option maxHeartbeats 4000000 in
set_option maxRecDepth 100000 in
theorem kX10_isThere (l : Launch) (D : va_G) (ca : Nat → ClassId) (ad : Nat → Nat → Nat) (v : Nat → Int32) (g : Nat → Nat → Int32) (c1 : Nat) (a2 : Int32) (a3 : Int32) (hc1 : c1 < 60) : Met l yX10_isThere (wz yX10_isThere cX10_isThere 4 (some .boolean)) (rmL 1 0 0) (va_Pc [.ref (ad 33 0), .int (nI c1), .int a2, .int a3] (fun U => mq D ca ad v g U.heap ∧ gK D ca U)) (QcRead (bB (mThere g c1 a2 a3))) 0 0 (fun _ => False) := by
  refine x_met (by decide) (Nat.le_of_ble_eq_true rfl) ?_
  intro p e s m below meth c E hr hlk hnm hq ls hl
  generalize hav : ([.ref (ad 33 0), .int (nI c1), .int a2, .int a3] : List Value).toArray = args at E ⊢
  have hx := E.1
  have hb := E.2.1
  have hown := E.2.2.2.1
  have hts := E.2.2.2.2.1
  have hw : mw D (wA mcnt ad s.heap.size) s.heap ca ad v g s.heap [] := wd.start hq
  generalize hQ : MQ below (QcRead (bB (mThere g c1 a2 a3))) args s 0 0 (fun _ => False) = Q
  have hl : lv_has ls 4 [(0, .ref (ad 33 0)), (1, .int (nI c1)), (2, .int a2), (3, .int a3)] := hl
  refine lv_aload_n hx hb dX10_isThere_0 rfl (lv_at hl 0 rfl) ?_
  refine m_getr E hw 9 (by decide) rfl tw_551 dX10_isThere_1 ?_
  refine lv_iload_n hx hb dX10_isThere_4 rfl (lv_at hl 1 rfl) ?_
  refine m_ild E hw 9 ⟨by decide, rfl, rfl⟩ c1 (rfl) (hc1) dX10_isThere_5 ?_
  refine lv_iload_n hx hb dX10_isThere_6 rfl (lv_at hl 2 rfl) ?_
  refine lv_icmp_gt (tgt := 24) hx hb dX10_isThere_7 (by decide) (fun c_7 => ?_) (fun c_7 => ?_)
  · skip
    refine lv_iconst (v := 0) hx hb dX10_isThere_24 (by decide) ?_
    subst hQ
    exact x_zret E hr hlk (by decide) (by simp [bB, mThere, c_7]) dX10_isThere_25
  · skip
    refine lv_aload_n hx hb dX10_isThere_10 rfl (lv_at hl 0 rfl) ?_
    refine m_getr E hw 9 (by decide) rfl tw_551 dX10_isThere_11 ?_
    refine lv_iload_n hx hb dX10_isThere_14 rfl (lv_at hl 1 rfl) ?_
    refine m_ild E hw 9 ⟨by decide, rfl, rfl⟩ c1 (rfl) (hc1) dX10_isThere_15 ?_
    refine lv_iload_n hx hb dX10_isThere_16 rfl (lv_at hl 3 rfl) ?_
    refine lv_icmp_gt (tgt := 24) hx hb dX10_isThere_17 (by decide) (fun c_17 => ?_) (fun c_17 => ?_)
    · skip
      refine lv_iconst (v := 0) hx hb dX10_isThere_24 (by decide) ?_
      subst hQ
      exact x_zret E hr hlk (by decide) (by simp [bB, mThere, c_7, c_17]) dX10_isThere_25
    · skip
      refine lv_iconst (v := 1) hx hb dX10_isThere_20 (by decide) ?_
      refine lv_goto (tgt := 25) hx hb dX10_isThere_21 (by decide) ?_
      subst hQ
      exact x_zret E hr hlk (by decide) (by simp [bB, mThere, c_7, c_17]) dX10_isThere_25
set_option maxHeartbeats 4000000 in
set_option maxRecDepth 100000 in
theorem kX10_where (l : Launch) (D : va_G) (ca : Nat → ClassId) (ad : Nat → Nat → Nat) (v : Nat → Int32) (g : Nat → Nat → Int32) (nw : Nat) (nb : Nat) (nc : Nat) (nm : Nat) (a1 : Int32) (a2 : Int32) (a3 : Int32) (hO : mOK v nw nb nc nm) : Met l yX10_where (wz yX10_where cX10_where 7 (some .int)) (rmL 1 0 0) (va_Pc [.ref (ad 33 0), .int a1, .int a2, .int a3] (fun U => mq D ca ad v g U.heap ∧ gK D ca U)) (QcRead ((mWh g a1 a2 a3 nm).1)) 0 0 (fun _ => False) := by
  refine x_met (by decide) (Nat.le_of_ble_eq_true rfl) ?_
  intro p e s m below meth c E hr hlk hnm hq ls hl
  generalize hav : ([.ref (ad 33 0), .int a1, .int a2, .int a3] : List Value).toArray = args at E ⊢
  have hx := E.1
  have hb := E.2.1
  have hown := E.2.2.2.1
  have hts := E.2.2.2.2.1
  have hw : mw D (wA mcnt ad s.heap.size) s.heap ca ad v g s.heap [] := wd.start hq
  generalize hQ : MQ below (QcRead ((mWh g a1 a2 a3 nm).1)) args s 0 0 (fun _ => False) = Q
  have hl : lv_has ls 7 [(0, .ref (ad 33 0)), (1, .int a1), (2, .int a2), (3, .int a3)] := hl
  have hO5 := hO.2.2.2.2
  refine lv_iconst (v := 0) hx hb dX10_where_0 (by decide) ?_
  refine lv_istore (lv' := [(4, .int 0), (0, .ref (ad 33 0)), (1, .int a1), (2, .int a2), (3, .int a3)]) hx hb dX10_where_1 hl (by decide) rfl (fun ls hl => ?_)
  refine lv_iconst (v := (-1)) hx hb dX10_where_3 (by decide) ?_
  refine lv_istore (lv' := [(5, .int (-1)), (4, .int 0), (0, .ref (ad 33 0)), (1, .int a1), (2, .int a2), (3, .int a3)]) hx hb dX10_where_4 hl (by decide) rfl (fun ls hl => ?_)
  refine lv_iconst (v := 0) hx hb dX10_where_6 (by decide) ?_
  refine lv_istore (lv' := [(6, .int 0), (5, .int (-1)), (4, .int 0), (0, .ref (ad 33 0)), (1, .int a1), (2, .int a2), (3, .int a3)]) hx hb dX10_where_7 hl (by decide) rfl (fun ls hl => ?_)
  have lp9 : ∀ (n : Nat) (i : Nat) (x4 : Int32) (x5 : Int32), (i ≤ nm) → (x4 = (mWh g a1 a2 a3 i).1) → (x5 = (mWh g a1 a2 a3 i).2) → (nm - i < n) → ∀ ls : Array Slot, lv_has ls 7 [(0, .ref (ad 33 0)), (1, .int a1), (2, .int a2), (3, .int a3), (4, .int x4), (5, .int x5), (6, .int (nI i))] → W p l e (rmL 1 0 0) s m args below meth c s.heap [] 0 0 Q (F0 m 9 ls []) := by
    intro n
    induction n with
    | zero =>
      intro i x4 x5 hi h4 h5 hfu ls hl
      exact absurd hfu (by omega)
    | succ n ih9 =>
      intro i x4 x5 hi h4 h5 hfu ls hl
      refine lv_iload hx hb dX10_where_9 (lv_at hl 6 rfl) ?_
      refine lv_aload_n hx hb dX10_where_11 rfl (lv_at hl 0 rfl) ?_
      refine m_geti (x := (nI nm)) E hw 3 (by decide) rfl tw_545 (hO.2.2.2.1) dX10_where_12 ?_
      refine lv_icmp_ge (tgt := 87) hx hb dX10_where_15 (by decide) (fun c_15 => ?_) (fun c_15 => ?_)
      · skip
        have hge : i = nm := by have q9 := (nI_leI (a := nm) (b := i) (by omega) (by omega)).mp c_15; omega
        subst hge
        refine lv_iload hx hb dX10_where_87 (lv_at hl 4 rfl) ?_
        subst hQ
        exact x_iret E hr hlk (h4) dX10_where_89
      · skip
        have hlt : i < nm := by have q9 := mt (nI_leI (a := nm) (b := i) (by omega) (by omega)).mpr c_15; omega
        refine lv_aload_n hx hb dX10_where_18 rfl (lv_at hl 0 rfl) ?_
        refine m_getr E hw 18 (by decide) rfl tw_560 dX10_where_19 ?_
        refine lv_iload hx hb dX10_where_22 (lv_at hl 6 rfl) ?_
        refine m_ild E hw 18 ⟨by decide, rfl, rfl⟩ i (rfl) (by show i < 300; omega) dX10_where_24 ?_
        refine lv_iload_n hx hb dX10_where_25 rfl (lv_at hl 1 rfl) ?_
        refine lv_icmp_ne (tgt := 81) hx hb dX10_where_26 (by decide) (fun c_26 => ?_) (fun c_26 => ?_)
        · skip
          refine lv_iinc (v := (nI (i + 1))) (lv' := [(6, .int (nI (i + 1))), (0, .ref (ad 33 0)), (1, .int a1), (2, .int a2), (3, .int a3), (4, .int x4), (5, .int x5)]) hx hb dX10_where_81 hl (k := 6) rfl (nI_1 _) (by decide) rfl (fun ls hl => ?_)
          refine lv_goto (tgt := 9) hx hb dX10_where_84 (by decide) ?_
          exact ih9 (i + 1) x4 x5 (hlt) (by simp [mWh, ← h4, ← h5, c_15, c_26]) (by simp [mWh, ← h4, ← h5, c_15, c_26]) (by omega) ls (lv_sub hl [1, 2, 3, 4, 5, 6, 0] (rfl))
        · skip
          refine lv_aload_n hx hb dX10_where_29 rfl (lv_at hl 0 rfl) ?_
          refine m_getr E hw 21 (by decide) rfl tw_563 dX10_where_30 ?_
          refine lv_iload hx hb dX10_where_33 (lv_at hl 6 rfl) ?_
          refine m_ild E hw 21 ⟨by decide, rfl, rfl⟩ i (rfl) (by show i < 300; omega) dX10_where_35 ?_
          refine lv_iload_n hx hb dX10_where_36 rfl (lv_at hl 3 rfl) ?_
          refine lv_icmp_gt (tgt := 81) hx hb dX10_where_37 (by decide) (fun c_37 => ?_) (fun c_37 => ?_)
          · skip
            refine lv_iinc (v := (nI (i + 1))) (lv' := [(6, .int (nI (i + 1))), (0, .ref (ad 33 0)), (1, .int a1), (2, .int a2), (3, .int a3), (4, .int x4), (5, .int x5)]) hx hb dX10_where_81 hl (k := 6) rfl (nI_1 _) (by decide) rfl (fun ls hl => ?_)
            refine lv_goto (tgt := 9) hx hb dX10_where_84 (by decide) ?_
            exact ih9 (i + 1) x4 x5 (hlt) (by simp [mWh, ← h4, ← h5, c_15, c_26, c_37]) (by simp [mWh, ← h4, ← h5, c_15, c_26, c_37]) (by omega) ls (lv_sub hl [1, 2, 3, 4, 5, 6, 0] (rfl))
          · skip
            refine lv_aload_n hx hb dX10_where_40 rfl (lv_at hl 0 rfl) ?_
            refine m_getr E hw 20 (by decide) rfl tw_562 dX10_where_41 ?_
            refine lv_iload hx hb dX10_where_44 (lv_at hl 6 rfl) ?_
            refine m_ild E hw 20 ⟨by decide, rfl, rfl⟩ i (rfl) (by show i < 300; omega) dX10_where_46 ?_
            refine lv_iload_n hx hb dX10_where_47 rfl (lv_at hl 2 rfl) ?_
            refine lv_icmp_gt (tgt := 81) hx hb dX10_where_48 (by decide) (fun c_48 => ?_) (fun c_48 => ?_)
            · skip
              refine lv_iinc (v := (nI (i + 1))) (lv' := [(6, .int (nI (i + 1))), (0, .ref (ad 33 0)), (1, .int a1), (2, .int a2), (3, .int a3), (4, .int x4), (5, .int x5)]) hx hb dX10_where_81 hl (k := 6) rfl (nI_1 _) (by decide) rfl (fun ls hl => ?_)
              refine lv_goto (tgt := 9) hx hb dX10_where_84 (by decide) ?_
              exact ih9 (i + 1) x4 x5 (hlt) (by simp [mWh, ← h4, ← h5, c_15, c_26, c_37, c_48]) (by simp [mWh, ← h4, ← h5, c_15, c_26, c_37, c_48]) (by omega) ls (lv_sub hl [1, 2, 3, 4, 5, 6, 0] (rfl))
            · skip
              refine lv_aload_n hx hb dX10_where_51 rfl (lv_at hl 0 rfl) ?_
              refine m_getr E hw 20 (by decide) rfl tw_562 dX10_where_52 ?_
              refine lv_iload hx hb dX10_where_55 (lv_at hl 6 rfl) ?_
              refine m_ild E hw 20 ⟨by decide, rfl, rfl⟩ i (rfl) (by show i < 300; omega) dX10_where_57 ?_
              refine lv_iload hx hb dX10_where_58 (lv_at hl 5 rfl) ?_
              refine lv_icmp_lt (tgt := 81) hx hb dX10_where_60 (by decide) (fun c_60 => ?_) (fun c_60 => ?_)
              · skip
                refine lv_iinc (v := (nI (i + 1))) (lv' := [(6, .int (nI (i + 1))), (0, .ref (ad 33 0)), (1, .int a1), (2, .int a2), (3, .int a3), (4, .int x4), (5, .int x5)]) hx hb dX10_where_81 hl (k := 6) rfl (nI_1 _) (by decide) rfl (fun ls hl => ?_)
                refine lv_goto (tgt := 9) hx hb dX10_where_84 (by decide) ?_
                exact ih9 (i + 1) x4 x5 (hlt) (by simp [mWh, ← h4, ← h5, c_15, c_26, c_37, c_48, c_60]) (by simp [mWh, ← h4, ← h5, c_15, c_26, c_37, c_48, c_60]) (by omega) ls (lv_sub hl [1, 2, 3, 4, 5, 6, 0] (rfl))
              · skip
                refine lv_aload_n hx hb dX10_where_63 rfl (lv_at hl 0 rfl) ?_
                refine m_getr E hw 19 (by decide) rfl tw_561 dX10_where_64 ?_
                refine lv_iload hx hb dX10_where_67 (lv_at hl 6 rfl) ?_
                refine m_ild E hw 19 ⟨by decide, rfl, rfl⟩ i (rfl) (by show i < 300; omega) dX10_where_69 ?_
                refine lv_istore (lv' := [(4, .int (g 19 i)), (0, .ref (ad 33 0)), (1, .int a1), (2, .int a2), (3, .int a3), (5, .int x5), (6, .int (nI i))]) hx hb dX10_where_70 hl (by decide) rfl (fun ls hl => ?_)
                refine lv_aload_n hx hb dX10_where_72 rfl (lv_at hl 1 rfl) ?_
                refine m_getr E hw 20 (by decide) rfl tw_562 dX10_where_73 ?_
                refine lv_iload hx hb dX10_where_76 (lv_at hl 6 rfl) ?_
                refine m_ild E hw 20 ⟨by decide, rfl, rfl⟩ i (rfl) (by show i < 300; omega) dX10_where_78 ?_
                refine lv_istore (lv' := [(5, .int (g 20 i)), (4, .int (g 19 i)), (0, .ref (ad 33 0)), (1, .int a1), (2, .int a2), (3, .int a3), (6, .int (nI i))]) hx hb dX10_where_79 hl (by decide) rfl (fun ls hl => ?_)
                refine lv_iinc (v := (nI (i + 1))) (lv' := [(6, .int (nI (i + 1))), (5, .int (g 20 i)), (4, .int (g 19 i)), (0, .ref (ad 33 0)), (1, .int a1), (2, .int a2), (3, .int a3)]) hx hb dX10_where_81 hl (k := 6) rfl (nI_1 _) (by decide) rfl (fun ls hl => ?_)
                refine lv_goto (tgt := 9) hx hb dX10_where_84 (by decide) ?_
                exact ih9 (i + 1) (g 19 i) (g 20 i) (hlt) (by simp [mWh, ← h4, ← h5, c_15, c_26, c_37, c_48, c_60]) (by simp [mWh, ← h4, ← h5, c_15, c_26, c_37, c_48, c_60]) (by omega) ls (lv_sub hl [3, 4, 5, 6, 2, 1, 0] (rfl))
  exact lp9 (nm + 1) 0 0 (-1) (Nat.zero_le _) (rfl) (rfl) (by omega) ls (lv_sub hl [3, 4, 5, 6, 2, 1, 0] (rfl))
set_option maxHeartbeats 4000000 in
set_option maxRecDepth 100000 in
theorem kX10_manyAt (l : Launch) (D : va_G) (ca : Nat → ClassId) (ad : Nat → Nat → Nat) (v : Nat → Int32) (g : Nat → Nat → Int32) (nw : Nat) (nb : Nat) (nc : Nat) (nm : Nat) (a1 : Int32) (a2 : Int32) (a3 : Int32) (hO : mOK v nw nb nc nm) : Met l yX10_manyAt (wz yX10_manyAt cX10_manyAt 6 (some .int)) (rmL 2 0 0) (va_Pc [.ref (ad 33 0), .int a1, .int a2, .int a3] (fun U => mq D ca ad v g U.heap ∧ gK D ca U)) (QcRead (nI (mMany g nm a1 a2 a3 nc))) 0 0 (fun _ => False) := by
  refine x_met (by decide) (Nat.le_of_ble_eq_true rfl) ?_
  intro p e s m below meth c E hr hlk hnm hq ls hl
  generalize hav : ([.ref (ad 33 0), .int a1, .int a2, .int a3] : List Value).toArray = args at E ⊢
  have hx := E.1
  have hb := E.2.1
  have hown := E.2.2.2.1
  have hts := E.2.2.2.2.1
  have hw : mw D (wA mcnt ad s.heap.size) s.heap ca ad v g s.heap [] := wd.start hq
  generalize hQ : MQ below (QcRead (nI (mMany g nm a1 a2 a3 nc))) args s 0 0 (fun _ => False) = Q
  have hl : lv_has ls 6 [(0, .ref (ad 33 0)), (1, .int a1), (2, .int a2), (3, .int a3)] := hl
  have hO5 := hO.2.2.2.2
  refine lv_iconst (v := 0) hx hb dX10_manyAt_0 (by decide) ?_
  refine lv_istore (lv' := [(4, .int 0), (0, .ref (ad 33 0)), (1, .int a1), (2, .int a2), (3, .int a3)]) hx hb dX10_manyAt_1 hl (by decide) rfl (fun ls hl => ?_)
  refine lv_iconst (v := 0) hx hb dX10_manyAt_3 (by decide) ?_
  refine lv_istore (lv' := [(5, .int 0), (4, .int 0), (0, .ref (ad 33 0)), (1, .int a1), (2, .int a2), (3, .int a3)]) hx hb dX10_manyAt_4 hl (by decide) rfl (fun ls hl => ?_)
  have lp6 : ∀ (n : Nat) (i : Nat) (x4 : Int32), (i ≤ nc) → (x4 = nI (mMany g nm a1 a2 a3 i)) → (nc - i < n) → ∀ ls : Array Slot, lv_has ls 6 [(0, .ref (ad 33 0)), (1, .int a1), (2, .int a2), (3, .int a3), (4, .int x4), (5, .int (nI i))] → W p l e (rmL 2 0 0) s m args below meth c s.heap [] 0 0 Q (F0 m 6 ls []) := by
    intro n
    induction n with
    | zero =>
      intro i x4 hi h4 hfu ls hl
      exact absurd hfu (by omega)
    | succ n ih6 =>
      intro i x4 hi h4 hfu ls hl
      refine lv_iload hx hb dX10_manyAt_6 (lv_at hl 5 rfl) ?_
      refine lv_aload_n hx hb dX10_manyAt_8 rfl (lv_at hl 0 rfl) ?_
      refine m_geti (x := (nI nc)) E hw 2 (by decide) rfl tw_544 (hO.2.2.1) dX10_manyAt_9 ?_
      refine lv_icmp_ge (tgt := 54) hx hb dX10_manyAt_12 (by decide) (fun c_12 => ?_) (fun c_12 => ?_)
      · skip
        have hge : i = nc := by have q9 := (nI_leI (a := nc) (b := i) (by omega) (by omega)).mp c_12; omega
        subst hge
        refine lv_iload hx hb dX10_manyAt_54 (lv_at hl 4 rfl) ?_
        subst hQ
        exact x_iret E hr hlk (h4) dX10_manyAt_56
      · skip
        have hlt : i < nc := by have q9 := mt (nI_leI (a := nc) (b := i) (by omega) (by omega)).mpr c_12; omega
        refine lv_iload hx hb dX10_manyAt_15 (lv_at hl 4 rfl) ?_
        refine lv_aload_n hx hb dX10_manyAt_17 rfl (lv_at hl 0 rfl) ?_
        refine lv_iload hx hb dX10_manyAt_18 (lv_at hl 5 rfl) ?_
        refine lv_iload_n hx hb dX10_manyAt_20 rfl (lv_at hl 2 rfl) ?_
        refine lv_iload_n hx hb dX10_manyAt_21 rfl (lv_at hl 3 rfl) ?_
        refine x_read (x_runV (rest := [.int x4]) E cbX10_isThere tw_693 (kX10_isThere l D ca ad v g  i a2 a3 (by omega)) ⟨rfl, rfl, by decide, by decide⟩ (m_recv E hw) (fun _ _ _ _ h => h) (fun U hU _ => by rw [hU]; exact hw.1) rfl hl.1 rfl (Nat.le_of_ble_eq_true rfl) dX10_manyAt_22 ⟨by decide, by decide⟩) ?_
        refine lv_if_eq (tgt := 44) hx hb dX10_manyAt_25 (by decide) (fun c_25 => ?_) (fun c_25 => ?_)
        · skip
          have c_25 := bB_0.mp c_25
          refine lv_iconst (v := 0) hx hb dX10_manyAt_44 (by decide) ?_
          refine lv_iadd hx hb dX10_manyAt_45 ?_
          refine lv_istore (lv' := [(4, .int (x4 + 0)), (0, .ref (ad 33 0)), (1, .int a1), (2, .int a2), (3, .int a3), (5, .int (nI i))]) hx hb dX10_manyAt_46 hl (by decide) rfl (fun ls hl => ?_)
          refine lv_iinc (v := (nI (i + 1))) (lv' := [(5, .int (nI (i + 1))), (4, .int (x4 + 0)), (0, .ref (ad 33 0)), (1, .int a1), (2, .int a2), (3, .int a3)]) hx hb dX10_manyAt_48 hl (k := 5) rfl (nI_1 _) (by decide) rfl (fun ls hl => ?_)
          refine lv_goto (tgt := 6) hx hb dX10_manyAt_51 (by decide) ?_
          exact ih6 (i + 1) (x4 + 0) (hlt) (by rw [h4]; simp [mMany, nI_1, c_12, c_25]) (by omega) ls (lv_sub hl [2, 3, 4, 5, 1, 0] (rfl))
        · skip
          have c_25 := bB_n0.mp c_25
          refine lv_aload_n hx hb dX10_manyAt_28 rfl (lv_at hl 0 rfl) ?_
          refine lv_iload hx hb dX10_manyAt_29 (lv_at hl 5 rfl) ?_
          refine lv_iload_n hx hb dX10_manyAt_31 rfl (lv_at hl 2 rfl) ?_
          refine lv_iload_n hx hb dX10_manyAt_32 rfl (lv_at hl 3 rfl) ?_
          refine x_read (x_runV (rest := [.int x4]) E cbX10_where tw_697 (kX10_where l D ca ad v g nw nb nc nm (nI i) a2 a3 (hO)) ⟨rfl, rfl, by decide, by decide⟩ (m_recv E hw) (fun _ _ _ _ h => h) (fun U hU _ => by rw [hU]; exact hw.1) rfl hl.1 rfl (Nat.le_of_ble_eq_true rfl) dX10_manyAt_33 ⟨by decide, by decide⟩) ?_
          refine lv_iload_n hx hb dX10_manyAt_36 rfl (lv_at hl 1 rfl) ?_
          refine lv_icmp_ne (tgt := 44) hx hb dX10_manyAt_37 (by decide) (fun c_37 => ?_) (fun c_37 => ?_)
          · skip
            refine lv_iconst (v := 0) hx hb dX10_manyAt_44 (by decide) ?_
            refine lv_iadd hx hb dX10_manyAt_45 ?_
            refine lv_istore (lv' := [(4, .int (x4 + 0)), (0, .ref (ad 33 0)), (1, .int a1), (2, .int a2), (3, .int a3), (5, .int (nI i))]) hx hb dX10_manyAt_46 hl (by decide) rfl (fun ls hl => ?_)
            refine lv_iinc (v := (nI (i + 1))) (lv' := [(5, .int (nI (i + 1))), (4, .int (x4 + 0)), (0, .ref (ad 33 0)), (1, .int a1), (2, .int a2), (3, .int a3)]) hx hb dX10_manyAt_48 hl (k := 5) rfl (nI_1 _) (by decide) rfl (fun ls hl => ?_)
            refine lv_goto (tgt := 6) hx hb dX10_manyAt_51 (by decide) ?_
            exact ih6 (i + 1) (x4 + 0) (hlt) (by rw [h4]; simp [mMany, nI_1, c_12, c_25, c_37]) (by omega) ls (lv_sub hl [2, 3, 4, 5, 1, 0] (rfl))
          · skip
            refine lv_iconst (v := 1) hx hb dX10_manyAt_40 (by decide) ?_
            refine lv_goto (tgt := 45) hx hb dX10_manyAt_41 (by decide) ?_
            refine lv_iadd hx hb dX10_manyAt_45 ?_
            refine lv_istore (lv' := [(4, .int (x4 + 1)), (0, .ref (ad 33 0)), (1, .int a1), (2, .int a2), (3, .int a3), (5, .int (nI i))]) hx hb dX10_manyAt_46 hl (by decide) rfl (fun ls hl => ?_)
            refine lv_iinc (v := (nI (i + 1))) (lv' := [(5, .int (nI (i + 1))), (4, .int (x4 + 1)), (0, .ref (ad 33 0)), (1, .int a1), (2, .int a2), (3, .int a3)]) hx hb dX10_manyAt_48 hl (k := 5) rfl (nI_1 _) (by decide) rfl (fun ls hl => ?_)
            refine lv_goto (tgt := 6) hx hb dX10_manyAt_51 (by decide) ?_
            exact ih6 (i + 1) (x4 + 1) (hlt) (by rw [h4]; simp [mMany, nI_1, c_12, c_25, c_37]) (by omega) ls (lv_sub hl [2, 3, 4, 5, 1, 0] (rfl))
  exact lp6 (nc + 1) 0 0 (Nat.zero_le _) (rfl) (by omega) ls (lv_sub hl [2, 3, 4, 5, 1, 0] (rfl))
set_option maxHeartbeats 4000000 in
set_option maxRecDepth 100000 in
theorem kX10_changesOn (l : Launch) (D : va_G) (ca : Nat → ClassId) (ad : Nat → Nat → Nat) (v : Nat → Int32) (g : Nat → Nat → Int32) (nw : Nat) (nb : Nat) (nc : Nat) (nm : Nat) (a1 : Int32) (hO : mOK v nw nb nc nm) : Met l yX10_changesOn (wz yX10_changesOn cX10_changesOn 3 (some .boolean)) (rmL 1 0 0) (va_Pc [.ref (ad 33 0), .int a1] (fun U => mq D ca ad v g U.heap ∧ gK D ca U)) (QcRead (bB (mChg g nc nm a1))) 0 0 (fun _ => False) := by
  refine x_met (by decide) (Nat.le_of_ble_eq_true rfl) ?_
  intro p e s m below meth c E hr hlk hnm hq ls hl
  generalize hav : ([.ref (ad 33 0), .int a1] : List Value).toArray = args at E ⊢
  have hx := E.1
  have hb := E.2.1
  have hown := E.2.2.2.1
  have hts := E.2.2.2.2.1
  have hw : mw D (wA mcnt ad s.heap.size) s.heap ca ad v g s.heap [] := wd.start hq
  generalize hQ : MQ below (QcRead (bB (mChg g nc nm a1))) args s 0 0 (fun _ => False) = Q
  have hl : lv_has ls 3 [(0, .ref (ad 33 0)), (1, .int a1)] := hl
  have hO5 := hO.2.2.2.2
  refine lv_iconst (v := 0) hx hb dX10_changesOn_0 (by decide) ?_
  refine lv_istore_n (lv' := [(2, .int 0), (0, .ref (ad 33 0)), (1, .int a1)]) hx hb dX10_changesOn_1 rfl hl (by decide) rfl (fun ls hl => ?_)
  have lp2 : ∀ (n : Nat) (i : Nat), (i ≤ nm) → (anyB (fun m => decide (g 20 m = a1)) i = false) → (nm - i < n) → ∀ ls : Array Slot, lv_has ls 3 [(0, .ref (ad 33 0)), (1, .int a1), (2, .int (nI i))] → W p l e (rmL 1 0 0) s m args below meth c s.heap [] 0 0 Q (F0 m 2 ls []) := by
    intro n
    induction n with
    | zero =>
      intro i hi hn hfu ls hl
      exact absurd hfu (by omega)
    | succ n ih2 =>
      intro i hi hn hfu ls hl
      refine lv_iload_n hx hb dX10_changesOn_2 rfl (lv_at hl 2 rfl) ?_
      refine lv_aload_n hx hb dX10_changesOn_3 rfl (lv_at hl 0 rfl) ?_
      refine m_geti (x := (nI nm)) E hw 3 (by decide) rfl tw_545 (hO.2.2.2.1) dX10_changesOn_4 ?_
      refine lv_icmp_ge (tgt := 28) hx hb dX10_changesOn_7 (by decide) (fun c_7 => ?_) (fun c_7 => ?_)
      · skip
        have hge : i = nm := by have q9 := (nI_leI (a := nm) (b := i) (by omega) (by omega)).mp c_7; omega
        rw [hge] at hn
        refine lv_iconst (v := 0) hx hb dX10_changesOn_28 (by decide) ?_
        refine lv_istore_n (lv' := [(2, .int 0), (0, .ref (ad 33 0)), (1, .int a1)]) hx hb dX10_changesOn_29 rfl hl (by decide) rfl (fun ls hl => ?_)
        have lp30 : ∀ (n : Nat) (i : Nat), (i ≤ nc) → (anyB (fun c => decide (g 9 c = a1)) i = false) → (nc - i < n) → ∀ ls : Array Slot, lv_has ls 3 [(0, .ref (ad 33 0)), (1, .int a1), (2, .int (nI i))] → W p l e (rmL 1 0 0) s m args below meth c s.heap [] 0 0 Q (F0 m 30 ls []) := by
          intro n
          induction n with
          | zero =>
            intro i hi hn2 hfu ls hl
            exact absurd hfu (by omega)
          | succ n ih30 =>
            intro i hi hn2 hfu ls hl
            refine lv_iload_n hx hb dX10_changesOn_30 rfl (lv_at hl 2 rfl) ?_
            refine lv_aload_n hx hb dX10_changesOn_31 rfl (lv_at hl 0 rfl) ?_
            refine m_geti (x := (nI nc)) E hw 2 (by decide) rfl tw_544 (hO.2.2.1) dX10_changesOn_32 ?_
            refine lv_icmp_ge (tgt := 56) hx hb dX10_changesOn_35 (by decide) (fun c_35 => ?_) (fun c_35 => ?_)
            · skip
              have hge : i = nc := by have q9 := (nI_leI (a := nc) (b := i) (by omega) (by omega)).mp c_35; omega
              rw [hge] at hn2
              refine lv_iconst (v := 0) hx hb dX10_changesOn_56 (by decide) ?_
              subst hQ
              exact x_zret E hr hlk (by decide) (by rw [mChg, hn, hn2]; rfl) dX10_changesOn_57
            · skip
              have hlt : i < nc := by have q9 := mt (nI_leI (a := nc) (b := i) (by omega) (by omega)).mpr c_35; omega
              refine lv_aload_n hx hb dX10_changesOn_38 rfl (lv_at hl 0 rfl) ?_
              refine m_getr E hw 9 (by decide) rfl tw_551 dX10_changesOn_39 ?_
              refine lv_iload_n hx hb dX10_changesOn_42 rfl (lv_at hl 2 rfl) ?_
              refine m_ild E hw 9 ⟨by decide, rfl, rfl⟩ i (rfl) (by show i < 60; omega) dX10_changesOn_43 ?_
              refine lv_iload_n hx hb dX10_changesOn_44 rfl (lv_at hl 1 rfl) ?_
              refine lv_icmp_ne (tgt := 50) hx hb dX10_changesOn_45 (by decide) (fun c_45 => ?_) (fun c_45 => ?_)
              · skip
                refine lv_iinc (v := (nI (i + 1))) (lv' := [(2, .int (nI (i + 1))), (0, .ref (ad 33 0)), (1, .int a1)]) hx hb dX10_changesOn_50 hl (k := 2) rfl (nI_1 _) (by decide) rfl (fun ls hl => ?_)
                refine lv_goto (tgt := 30) hx hb dX10_changesOn_53 (by decide) ?_
                exact ih30 (i + 1) (hlt) (by simp [anyB, hn2, c_35, c_45]) (by omega) ls (lv_sub hl [1, 2, 0] (rfl))
              · skip
                refine lv_iconst (v := 1) hx hb dX10_changesOn_48 (by decide) ?_
                subst hQ
                exact x_zret E hr hlk (by decide) (by rw [mChg, Bool.or_comm, anyB_at hlt (by simp [c_35, c_45])]; rfl) dX10_changesOn_49
        exact lp30 (nc + 1) 0 (Nat.zero_le _) (rfl) (by omega) ls (lv_sub hl [1, 2, 0] (rfl))
      · skip
        have hlt : i < nm := by have q9 := mt (nI_leI (a := nm) (b := i) (by omega) (by omega)).mpr c_7; omega
        refine lv_aload_n hx hb dX10_changesOn_10 rfl (lv_at hl 0 rfl) ?_
        refine m_getr E hw 20 (by decide) rfl tw_562 dX10_changesOn_11 ?_
        refine lv_iload_n hx hb dX10_changesOn_14 rfl (lv_at hl 2 rfl) ?_
        refine m_ild E hw 20 ⟨by decide, rfl, rfl⟩ i (rfl) (by show i < 300; omega) dX10_changesOn_15 ?_
        refine lv_iload_n hx hb dX10_changesOn_16 rfl (lv_at hl 1 rfl) ?_
        refine lv_icmp_ne (tgt := 22) hx hb dX10_changesOn_17 (by decide) (fun c_17 => ?_) (fun c_17 => ?_)
        · skip
          refine lv_iinc (v := (nI (i + 1))) (lv' := [(2, .int (nI (i + 1))), (0, .ref (ad 33 0)), (1, .int a1)]) hx hb dX10_changesOn_22 hl (k := 2) rfl (nI_1 _) (by decide) rfl (fun ls hl => ?_)
          refine lv_goto (tgt := 2) hx hb dX10_changesOn_25 (by decide) ?_
          exact ih2 (i + 1) (hlt) (by simp [anyB, hn, c_7, c_17]) (by omega) ls (lv_sub hl [1, 2, 0] (rfl))
        · skip
          refine lv_iconst (v := 1) hx hb dX10_changesOn_20 (by decide) ?_
          subst hQ
          exact x_zret E hr hlk (by decide) (by rw [mChg, anyB_at hlt (by simp [c_7, c_17])]; rfl) dX10_changesOn_21
  exact lp2 (nm + 1) 0 (Nat.zero_le _) (rfl) (by omega) ls (lv_sub hl [1, 2, 0] (rfl))
set_option maxHeartbeats 4000000 in
set_option maxRecDepth 100000 in
theorem kX10_hasRoom (l : Launch) (D : va_G) (ca : Nat → ClassId) (ad : Nat → Nat → Nat) (v : Nat → Int32) (g : Nat → Nat → Int32) (nw : Nat) (nb : Nat) (nc : Nat) (nm : Nat) (a1 : Int32) (f2 : Nat) (a3 : Int32) (hO : mOK v nw nb nc nm) (hf2 : f2 ≤ nw) : Met l yX10_hasRoom (wz yX10_hasRoom cX10_hasRoom 5 (some .boolean)) (rmL 3 0 0) (va_Pc [.ref (ad 33 0), .int a1, .int (nI f2), .int a3] (fun U => mq D ca ad v g U.heap ∧ gK D ca U)) (QcRead (bB (!(mOver g nw nc nm a1 f2 a3)))) 0 0 (fun _ => False) := by
  refine x_met (by decide) (Nat.le_of_ble_eq_true rfl) ?_
  intro p e s m below meth c E hr hlk hnm hq ls hl
  generalize hav : ([.ref (ad 33 0), .int a1, .int (nI f2), .int a3] : List Value).toArray = args at E ⊢
  have hx := E.1
  have hb := E.2.1
  have hown := E.2.2.2.1
  have hts := E.2.2.2.2.1
  have hw : mw D (wA mcnt ad s.heap.size) s.heap ca ad v g s.heap [] := wd.start hq
  generalize hQ : MQ below (QcRead (bB (!(mOver g nw nc nm a1 f2 a3)))) args s 0 0 (fun _ => False) = Q
  have hl : lv_has ls 5 [(0, .ref (ad 33 0)), (1, .int a1), (2, .int (nI f2)), (3, .int a3)] := hl
  have hO5 := hO.2.2.2.2
  refine lv_iload_n hx hb dX10_hasRoom_0 rfl (lv_at hl 2 rfl) ?_
  refine lv_istore (lv' := [(4, .int (nI f2)), (0, .ref (ad 33 0)), (1, .int a1), (2, .int (nI f2)), (3, .int a3)]) hx hb dX10_hasRoom_1 hl (by decide) rfl (fun ls hl => ?_)
  have lp3 : ∀ (n : Nat) (k : Nat), (k ≤ nw + 1 - f2) → (anyB (mOvK g nw nc nm a1 f2 a3) k = false) → (nw + 1 - f2 - k < n) → ∀ ls : Array Slot, lv_has ls 5 [(0, .ref (ad 33 0)), (1, .int a1), (2, .int (nI f2)), (3, .int a3), (4, .int (nI (f2 + k)))] → W p l e (rmL 3 0 0) s m args below meth c s.heap [] 0 0 Q (F0 m 3 ls []) := by
    intro n
    induction n with
    | zero =>
      intro k hi hn hfu ls hl
      exact absurd hfu (by omega)
    | succ n ih3 =>
      intro k hi hn hfu ls hl
      refine lv_iload hx hb dX10_hasRoom_3 (lv_at hl 4 rfl) ?_
      refine lv_aload_n hx hb dX10_hasRoom_5 rfl (lv_at hl 0 rfl) ?_
      refine m_geti (x := (nI nw)) E hw 0 (by decide) rfl tw_542 (hO.1) dX10_hasRoom_6 ?_
      refine lv_icmp_gt (tgt := 53) hx hb dX10_hasRoom_9 (by decide) (fun c_9 => ?_) (fun c_9 => ?_)
      · skip
        have hge : k = nw + 1 - f2 := by have q9 := (nI_ltI (a := nw) (b := f2 + k) (by omega) (by omega)).mp c_9; omega
        refine lv_iconst (v := 1) hx hb dX10_hasRoom_53 (by decide) ?_
        subst hQ
        exact x_zret E hr hlk (by decide) (by rw [mOver, ← hge, hn]; rfl) dX10_hasRoom_54
      · skip
        have hlt : f2 + k ≤ nw := by have q9 := mt (nI_ltI (a := nw) (b := f2 + k) (by omega) (by omega)).mpr c_9; omega
        refine lv_iload hx hb dX10_hasRoom_12 (lv_at hl 4 rfl) ?_
        refine lv_iload_n hx hb dX10_hasRoom_14 rfl (lv_at hl 2 rfl) ?_
        refine lv_icmp_le (tgt := 30) hx hb dX10_hasRoom_15 (by decide) (fun c_15 => ?_) (fun c_15 => ?_)
        · skip
          have hc_k : k = 0 := by have q9 := (nI_leI (a := f2 + k) (b := f2) (by omega) (by omega)).mp c_15; omega
          refine lv_aload_n hx hb dX10_hasRoom_30 rfl (lv_at hl 0 rfl) ?_
          refine lv_iload_n hx hb dX10_hasRoom_31 rfl (lv_at hl 1 rfl) ?_
          refine lv_iload hx hb dX10_hasRoom_32 (lv_at hl 4 rfl) ?_
          refine lv_aload_n hx hb dX10_hasRoom_34 rfl (lv_at hl 0 rfl) ?_
          refine m_geti (x := (nI nw)) E hw 0 (by decide) rfl tw_542 (hO.1) dX10_hasRoom_35 ?_
          refine x_read (x_runV (rest := []) E cbX10_manyAt tw_689 (kX10_manyAt l D ca ad v g nw nb nc nm a1 (nI (f2 + k)) (nI nw) (hO)) ⟨rfl, rfl, by decide, by decide⟩ (m_recv E hw) (fun _ _ _ _ h => h) (fun U hU _ => by rw [hU]; exact hw.1) rfl hl.1 rfl (Nat.le_of_ble_eq_true rfl) dX10_hasRoom_38 ⟨by decide, by decide⟩) ?_
          refine lv_iload_n hx hb dX10_hasRoom_41 rfl (lv_at hl 3 rfl) ?_
          refine lv_icmp_le (tgt := 47) hx hb dX10_hasRoom_42 (by decide) (fun c_42 => ?_) (fun c_42 => ?_)
          · skip
            refine lv_iinc (v := (nI ((f2 + k) + 1))) (lv' := [(4, .int (nI ((f2 + k) + 1))), (0, .ref (ad 33 0)), (1, .int a1), (2, .int (nI f2)), (3, .int a3)]) hx hb dX10_hasRoom_47 hl (k := 4) rfl (nI_1 _) (by decide) rfl (fun ls hl => ?_)
            refine lv_goto (tgt := 3) hx hb dX10_hasRoom_50 (by decide) ?_
            exact ih3 (k + 1) (by omega) (by simp only [anyB, hn, Bool.false_or]; first | exact mOvK_f c_42 | exact mOvK_n hc_k c_24) (by omega) ls (lv_sub hl [1, 2, 3, 4, 0] (rfl))
          · skip
            refine lv_iconst (v := 0) hx hb dX10_hasRoom_45 (by decide) ?_
            subst hQ
            exact x_zret E hr hlk (by decide) (by rw [mOver, anyB_at (i := k) (by omega) (by first | exact mOvK_t (Or.inl hc_k) c_42 | exact mOvK_t (Or.inr c_24) c_42)]; rfl) dX10_hasRoom_46
        · skip
          have hc_k : ¬ k = 0 := by have q9 := mt (nI_leI (a := f2 + k) (b := f2) (by omega) (by omega)).mpr c_15; omega
          refine lv_aload_n hx hb dX10_hasRoom_18 rfl (lv_at hl 0 rfl) ?_
          refine lv_iload hx hb dX10_hasRoom_19 (lv_at hl 4 rfl) ?_
          refine x_read (x_runV (rest := []) E cbX10_changesOn tw_685 (kX10_changesOn l D ca ad v g nw nb nc nm (nI (f2 + k)) (hO)) ⟨rfl, rfl, by decide, by decide⟩ (m_recv E hw) (fun _ _ _ _ h => h) (fun U hU _ => by rw [hU]; exact hw.1) rfl hl.1 rfl (Nat.le_of_ble_eq_true rfl) dX10_hasRoom_21 ⟨by decide, by decide⟩) ?_
          refine lv_if_ne (tgt := 30) hx hb dX10_hasRoom_24 (by decide) (fun c_24 => ?_) (fun c_24 => ?_)
          · skip
            have c_24 := bB_n0.mp c_24
            refine lv_aload_n hx hb dX10_hasRoom_30 rfl (lv_at hl 0 rfl) ?_
            refine lv_iload_n hx hb dX10_hasRoom_31 rfl (lv_at hl 1 rfl) ?_
            refine lv_iload hx hb dX10_hasRoom_32 (lv_at hl 4 rfl) ?_
            refine lv_aload_n hx hb dX10_hasRoom_34 rfl (lv_at hl 0 rfl) ?_
            refine m_geti (x := (nI nw)) E hw 0 (by decide) rfl tw_542 (hO.1) dX10_hasRoom_35 ?_
            refine x_read (x_runV (rest := []) E cbX10_manyAt tw_689 (kX10_manyAt l D ca ad v g nw nb nc nm a1 (nI (f2 + k)) (nI nw) (hO)) ⟨rfl, rfl, by decide, by decide⟩ (m_recv E hw) (fun _ _ _ _ h => h) (fun U hU _ => by rw [hU]; exact hw.1) rfl hl.1 rfl (Nat.le_of_ble_eq_true rfl) dX10_hasRoom_38 ⟨by decide, by decide⟩) ?_
            refine lv_iload_n hx hb dX10_hasRoom_41 rfl (lv_at hl 3 rfl) ?_
            refine lv_icmp_le (tgt := 47) hx hb dX10_hasRoom_42 (by decide) (fun c_42 => ?_) (fun c_42 => ?_)
            · skip
              refine lv_iinc (v := (nI ((f2 + k) + 1))) (lv' := [(4, .int (nI ((f2 + k) + 1))), (0, .ref (ad 33 0)), (1, .int a1), (2, .int (nI f2)), (3, .int a3)]) hx hb dX10_hasRoom_47 hl (k := 4) rfl (nI_1 _) (by decide) rfl (fun ls hl => ?_)
              refine lv_goto (tgt := 3) hx hb dX10_hasRoom_50 (by decide) ?_
              exact ih3 (k + 1) (by omega) (by simp only [anyB, hn, Bool.false_or]; first | exact mOvK_f c_42 | exact mOvK_n hc_k c_24) (by omega) ls (lv_sub hl [1, 2, 3, 4, 0] (rfl))
            · skip
              refine lv_iconst (v := 0) hx hb dX10_hasRoom_45 (by decide) ?_
              subst hQ
              exact x_zret E hr hlk (by decide) (by rw [mOver, anyB_at (i := k) (by omega) (by first | exact mOvK_t (Or.inl hc_k) c_42 | exact mOvK_t (Or.inr c_24) c_42)]; rfl) dX10_hasRoom_46
          · skip
            have c_24 := bB_0.mp c_24
            refine lv_goto (tgt := 47) hx hb dX10_hasRoom_27 (by decide) ?_
            refine lv_iinc (v := (nI ((f2 + k) + 1))) (lv' := [(4, .int (nI ((f2 + k) + 1))), (0, .ref (ad 33 0)), (1, .int a1), (2, .int (nI f2)), (3, .int a3)]) hx hb dX10_hasRoom_47 hl (k := 4) rfl (nI_1 _) (by decide) rfl (fun ls hl => ?_)
            refine lv_goto (tgt := 3) hx hb dX10_hasRoom_50 (by decide) ?_
            exact ih3 (k + 1) (by omega) (by simp only [anyB, hn, Bool.false_or]; first | exact mOvK_f c_42 | exact mOvK_n hc_k c_24) (by omega) ls (lv_sub hl [1, 2, 3, 4, 0] (rfl))
  exact lp3 (nw + 2) 0 (Nat.zero_le _) (rfl) (by omega) ls (lv_sub hl [1, 2, 3, 4, 0] (rfl))
set_option maxHeartbeats 4000000 in
set_option maxRecDepth 100000 in
theorem kX10_areDays (l : Launch) (D : va_G) (ca : Nat → ClassId) (ad : Nat → Nat → Nat) (v : Nat → Int32) (g : Nat → Nat → Int32) (nw : Nat) (nb : Nat) (nc : Nat) (nm : Nat) (a1 : Int32) (a2 : Int32) (hO : mOK v nw nb nc nm) : Met l yX10_areDays (wz yX10_areDays cX10_areDays 3 (some .boolean)) (rmL 2 0 0) (va_Pc [.ref (ad 33 0), .int a1, .int a2] (fun U => mq D ca ad v g U.heap ∧ gK D ca U)) (QcRead (bB (isIn a1 0 (nI nw) && isIn a2 0 (nI nw)))) 0 0 (fun _ => False) := by
  refine x_met (by decide) (Nat.le_of_ble_eq_true rfl) ?_
  intro p e s m below meth c E hr hlk hnm hq ls hl
  generalize hav : ([.ref (ad 33 0), .int a1, .int a2] : List Value).toArray = args at E ⊢
  have hx := E.1
  have hb := E.2.1
  have hown := E.2.2.2.1
  have hts := E.2.2.2.2.1
  have hw : mw D (wA mcnt ad s.heap.size) s.heap ca ad v g s.heap [] := wd.start hq
  generalize hQ : MQ below (QcRead (bB (isIn a1 0 (nI nw) && isIn a2 0 (nI nw)))) args s 0 0 (fun _ => False) = Q
  have hl : lv_has ls 3 [(0, .ref (ad 33 0)), (1, .int a1), (2, .int a2)] := hl
  refine lv_iload_n hx hb dX10_areDays_0 rfl (lv_at hl 1 rfl) ?_
  refine lv_iconst (v := 0) hx hb dX10_areDays_1 (by decide) ?_
  refine lv_aload_n hx hb dX10_areDays_2 rfl (lv_at hl 0 rfl) ?_
  refine m_geti (x := (nI nw)) E hw 0 (by decide) rfl tw_542 (hO.1) dX10_areDays_3 ?_
  refine x_read (x_runS (rest := []) E cbX10_in tw_647 (kX10_in l D ca a1 0 (nI nw) ) ⟨rfl, rfl, by decide, by decide⟩ (fun _ _ _ _ h => h) (fun _ _ _ => trivial) rfl hl.1 rfl (Nat.le_of_ble_eq_true rfl) dX10_areDays_6 ⟨by decide, by decide⟩) ?_
  refine lv_if_eq (tgt := 28) hx hb dX10_areDays_9 (by decide) (fun c_9 => ?_) (fun c_9 => ?_)
  · skip
    have c_9 := bB_0.mp c_9
    refine lv_iconst (v := 0) hx hb dX10_areDays_28 (by decide) ?_
    subst hQ
    exact x_zret E hr hlk (by decide) (by simp [bB, c_9]) dX10_areDays_29
  · skip
    have c_9 := bB_n0.mp c_9
    refine lv_iload_n hx hb dX10_areDays_12 rfl (lv_at hl 2 rfl) ?_
    refine lv_iconst (v := 0) hx hb dX10_areDays_13 (by decide) ?_
    refine lv_aload_n hx hb dX10_areDays_14 rfl (lv_at hl 0 rfl) ?_
    refine m_geti (x := (nI nw)) E hw 0 (by decide) rfl tw_542 (hO.1) dX10_areDays_15 ?_
    refine x_read (x_runS (rest := []) E cbX10_in tw_647 (kX10_in l D ca a2 0 (nI nw) ) ⟨rfl, rfl, by decide, by decide⟩ (fun _ _ _ _ h => h) (fun _ _ _ => trivial) rfl hl.1 rfl (Nat.le_of_ble_eq_true rfl) dX10_areDays_18 ⟨by decide, by decide⟩) ?_
    refine lv_if_eq (tgt := 28) hx hb dX10_areDays_21 (by decide) (fun c_21 => ?_) (fun c_21 => ?_)
    · skip
      have c_21 := bB_0.mp c_21
      refine lv_iconst (v := 0) hx hb dX10_areDays_28 (by decide) ?_
      subst hQ
      exact x_zret E hr hlk (by decide) (by simp [bB, c_9, c_21]) dX10_areDays_29
    · skip
      have c_21 := bB_n0.mp c_21
      refine lv_iconst (v := 1) hx hb dX10_areDays_24 (by decide) ?_
      refine lv_goto (tgt := 29) hx hb dX10_areDays_25 (by decide) ?_
      subst hQ
      exact x_zret E hr hlk (by decide) (by simp [bB, c_9, c_21]) dX10_areDays_29
set_option maxHeartbeats 4000000 in
set_option maxRecDepth 100000 in
theorem kX10_place (l : Launch) (D : va_G) (ca : Nat → ClassId) (ad : Nat → Nat → Nat) (v : Nat → Int32) (g : Nat → Nat → Int32) (nw : Nat) (nb : Nat) (nc : Nat) (nm : Nat) (a1 : Int32) (a2 : Int32) (a3 : Int32) (hO : mOK v nw nb nc nm) : Met l yX10_place (wz yX10_place cX10_place 4 (some .int)) (rmL 3 0 0) (va_Pc [.ref (ad 33 0), .int a1, .int a2, .int a3] (fun U => mq D ca ad v g U.heap ∧ gK D ca U)) (QcRead (mPlace g nw nc nm a1 a2 a3)) 0 0 (fun _ => False) := by
  refine x_met (by decide) (Nat.le_of_ble_eq_true rfl) ?_
  intro p e s m below meth c E hr hlk hnm hq ls hl
  generalize hav : ([.ref (ad 33 0), .int a1, .int a2, .int a3] : List Value).toArray = args at E ⊢
  have hx := E.1
  have hb := E.2.1
  have hown := E.2.2.2.1
  have hts := E.2.2.2.2.1
  have hw : mw D (wA mcnt ad s.heap.size) s.heap ca ad v g s.heap [] := wd.start hq
  generalize hQ : MQ below (QcRead (mPlace g nw nc nm a1 a2 a3)) args s 0 0 (fun _ => False) = Q
  have hl : lv_has ls 4 [(0, .ref (ad 33 0)), (1, .int a1), (2, .int a2), (3, .int a3)] := hl
  have hO5 := hO.2.2.2.2
  refine lv_aload_n hx hb dX10_place_0 rfl (lv_at hl 0 rfl) ?_
  refine lv_iload_n hx hb dX10_place_1 rfl (lv_at hl 1 rfl) ?_
  refine x_read (x_runV (rest := []) E cbX10_isChild tw_705 (kX10_isChild l D ca ad v g nw nb nc nm a1 (hO)) ⟨rfl, rfl, by decide, by decide⟩ (m_recv E hw) (fun _ _ _ _ h => h) (fun U hU _ => by rw [hU]; exact hw.1) rfl hl.1 rfl (Nat.le_of_ble_eq_true rfl) dX10_place_2 ⟨by decide, by decide⟩) ?_
  refine lv_if_eq (tgt := 37) hx hb dX10_place_5 (by decide) (fun c_5 => ?_) (fun c_5 => ?_)
  · skip
    have c_5 := bB_0.mp c_5
    refine lv_iconst (v := (-1)) hx hb dX10_place_37 (by decide) ?_
    subst hQ
    exact x_iret E hr hlk (by simp [mPlace, c_5]) dX10_place_38
  · skip
    have c_5 := bB_n0.mp c_5
    obtain ⟨j, hj, rfl⟩ := isIn_nat (by omega) c_5
    refine lv_aload_n hx hb dX10_place_8 rfl (lv_at hl 0 rfl) ?_
    refine lv_iload_n hx hb dX10_place_9 rfl (lv_at hl 2 rfl) ?_
    refine lv_iload_n hx hb dX10_place_10 rfl (lv_at hl 3 rfl) ?_
    refine x_read (x_runV (rest := []) E cbX10_areDays tw_713 (kX10_areDays l D ca ad v g nw nb nc nm a2 a3 (hO)) ⟨rfl, rfl, by decide, by decide⟩ (m_recv E hw) (fun _ _ _ _ h => h) (fun U hU _ => by rw [hU]; exact hw.1) rfl hl.1 rfl (Nat.le_of_ble_eq_true rfl) dX10_place_11 ⟨by decide, by decide⟩) ?_
    refine lv_if_eq (tgt := 37) hx hb dX10_place_14 (by decide) (fun c_14 => ?_) (fun c_14 => ?_)
    · skip
      have c_14 := bB_0.mp c_14
      refine lv_iconst (v := (-1)) hx hb dX10_place_37 (by decide) ?_
      subst hQ
      exact x_iret E hr hlk (by simp [mPlace, nI_clamp (n := j) (show j < 2 ^ 31 by omega), c_5, c_14]) dX10_place_38
    · skip
      have c_14 := bB_n0.mp c_14
      refine lv_aload_n hx hb dX10_place_17 rfl (lv_at hl 0 rfl) ?_
      refine lv_iload_n hx hb dX10_place_18 rfl (lv_at hl 1 rfl) ?_
      refine lv_iload_n hx hb dX10_place_19 rfl (lv_at hl 2 rfl) ?_
      refine lv_iload_n hx hb dX10_place_20 rfl (lv_at hl 3 rfl) ?_
      refine x_read (x_runV (rest := []) E cbX10_isThere tw_693 (kX10_isThere l D ca ad v g  j a2 a3 (by omega)) ⟨rfl, rfl, by decide, by decide⟩ (m_recv E hw) (fun _ _ _ _ h => h) (fun U hU _ => by rw [hU]; exact hw.1) rfl hl.1 rfl (Nat.le_of_ble_eq_true rfl) dX10_place_21 ⟨by decide, by decide⟩) ?_
      refine lv_if_eq (tgt := 37) hx hb dX10_place_24 (by decide) (fun c_24 => ?_) (fun c_24 => ?_)
      · skip
        have c_24 := bB_0.mp c_24
        refine lv_iconst (v := (-1)) hx hb dX10_place_37 (by decide) ?_
        subst hQ
        exact x_iret E hr hlk (by simp [mPlace, nI_clamp (n := j) (show j < 2 ^ 31 by omega), c_5, c_14, c_24]) dX10_place_38
      · skip
        have c_24 := bB_n0.mp c_24
        refine lv_aload_n hx hb dX10_place_27 rfl (lv_at hl 0 rfl) ?_
        refine lv_iload_n hx hb dX10_place_28 rfl (lv_at hl 1 rfl) ?_
        refine lv_iload_n hx hb dX10_place_29 rfl (lv_at hl 2 rfl) ?_
        refine lv_iload_n hx hb dX10_place_30 rfl (lv_at hl 3 rfl) ?_
        refine x_read (x_runV (rest := []) E cbX10_where tw_697 (kX10_where l D ca ad v g nw nb nc nm (nI j) a2 a3 (hO)) ⟨rfl, rfl, by decide, by decide⟩ (m_recv E hw) (fun _ _ _ _ h => h) (fun U hU _ => by rw [hU]; exact hw.1) rfl hl.1 rfl (Nat.le_of_ble_eq_true rfl) dX10_place_31 ⟨by decide, by decide⟩) ?_
        refine lv_goto (tgt := 38) hx hb dX10_place_34 (by decide) ?_
        subst hQ
        exact x_iret E hr hlk (by simp [mPlace, nI_clamp (n := j) (show j < 2 ^ 31 by omega), c_5, c_14, c_24]) dX10_place_38
set_option maxHeartbeats 4000000 in
set_option maxRecDepth 100000 in
theorem kX10_many (l : Launch) (D : va_G) (ca : Nat → ClassId) (ad : Nat → Nat → Nat) (v : Nat → Int32) (g : Nat → Nat → Int32) (nw : Nat) (nb : Nat) (nc : Nat) (nm : Nat) (a1 : Int32) (a2 : Int32) (a3 : Int32) (hO : mOK v nw nb nc nm) : Met l yX10_many (wz yX10_many cX10_many 4 (some .int)) (rmL 3 0 0) (va_Pc [.ref (ad 33 0), .int a1, .int a2, .int a3] (fun U => mq D ca ad v g U.heap ∧ gK D ca U)) (QcRead (if (isIn a1 0 15 && (isIn a2 0 (nI nw) && isIn a3 0 (nI nw))) = true then nI (mMany g nm a1 a2 a3 nc) else -1)) 0 0 (fun _ => False) := by
  refine x_met (by decide) (Nat.le_of_ble_eq_true rfl) ?_
  intro p e s m below meth c E hr hlk hnm hq ls hl
  generalize hav : ([.ref (ad 33 0), .int a1, .int a2, .int a3] : List Value).toArray = args at E ⊢
  have hx := E.1
  have hb := E.2.1
  have hown := E.2.2.2.1
  have hts := E.2.2.2.2.1
  have hw : mw D (wA mcnt ad s.heap.size) s.heap ca ad v g s.heap [] := wd.start hq
  generalize hQ : MQ below (QcRead (if (isIn a1 0 15 && (isIn a2 0 (nI nw) && isIn a3 0 (nI nw))) = true then nI (mMany g nm a1 a2 a3 nc) else -1)) args s 0 0 (fun _ => False) = Q
  have hl : lv_has ls 4 [(0, .ref (ad 33 0)), (1, .int a1), (2, .int a2), (3, .int a3)] := hl
  refine lv_iload_n hx hb dX10_many_0 rfl (lv_at hl 1 rfl) ?_
  refine lv_iconst (v := 0) hx hb dX10_many_1 (by decide) ?_
  refine lv_bipush (v := 15) hx hb dX10_many_2 (by decide) ?_
  refine x_read (x_runS (rest := []) E cbX10_in tw_647 (kX10_in l D ca a1 0 15 ) ⟨rfl, rfl, by decide, by decide⟩ (fun _ _ _ _ h => h) (fun _ _ _ => trivial) rfl hl.1 rfl (Nat.le_of_ble_eq_true rfl) dX10_many_4 ⟨by decide, by decide⟩) ?_
  refine lv_if_eq (tgt := 29) hx hb dX10_many_7 (by decide) (fun c_7 => ?_) (fun c_7 => ?_)
  · skip
    have c_7 := bB_0.mp c_7
    refine lv_iconst (v := (-1)) hx hb dX10_many_29 (by decide) ?_
    subst hQ
    exact x_iret E hr hlk (by simp [c_7]) dX10_many_30
  · skip
    have c_7 := bB_n0.mp c_7
    refine lv_aload_n hx hb dX10_many_10 rfl (lv_at hl 0 rfl) ?_
    refine lv_iload_n hx hb dX10_many_11 rfl (lv_at hl 2 rfl) ?_
    refine lv_iload_n hx hb dX10_many_12 rfl (lv_at hl 3 rfl) ?_
    refine x_read (x_runV (rest := []) E cbX10_areDays tw_713 (kX10_areDays l D ca ad v g nw nb nc nm a2 a3 (hO)) ⟨rfl, rfl, by decide, by decide⟩ (m_recv E hw) (fun _ _ _ _ h => h) (fun U hU _ => by rw [hU]; exact hw.1) rfl hl.1 rfl (Nat.le_of_ble_eq_true rfl) dX10_many_13 ⟨by decide, by decide⟩) ?_
    refine lv_if_eq (tgt := 29) hx hb dX10_many_16 (by decide) (fun c_16 => ?_) (fun c_16 => ?_)
    · skip
      have c_16 := bB_0.mp c_16
      refine lv_iconst (v := (-1)) hx hb dX10_many_29 (by decide) ?_
      subst hQ
      exact x_iret E hr hlk (by simp [c_7, c_16]) dX10_many_30
    · skip
      have c_16 := bB_n0.mp c_16
      refine lv_aload_n hx hb dX10_many_19 rfl (lv_at hl 0 rfl) ?_
      refine lv_iload_n hx hb dX10_many_20 rfl (lv_at hl 1 rfl) ?_
      refine lv_iload_n hx hb dX10_many_21 rfl (lv_at hl 2 rfl) ?_
      refine lv_iload_n hx hb dX10_many_22 rfl (lv_at hl 3 rfl) ?_
      refine x_read (x_runV (rest := []) E cbX10_manyAt tw_689 (kX10_manyAt l D ca ad v g nw nb nc nm a1 a2 a3 (hO)) ⟨rfl, rfl, by decide, by decide⟩ (m_recv E hw) (fun _ _ _ _ h => h) (fun U hU _ => by rw [hU]; exact hw.1) rfl hl.1 rfl (Nat.le_of_ble_eq_true rfl) dX10_many_23 ⟨by decide, by decide⟩) ?_
      refine lv_goto (tgt := 30) hx hb dX10_many_26 (by decide) ?_
      subst hQ
      exact x_iret E hr hlk (by simp [c_7, c_16]) dX10_many_30
