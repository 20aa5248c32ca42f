set_option maxHeartbeats 4000000 in
set_option maxRecDepth 100000 in
theorem kX9_within (l : Launch) (D : va_G) (ca : Nat → ClassId) (a1 : Int32) (a2 : Int32) (a3 : Int32)  : Met l yX9_within (wz yX9_within cX9_within 3 (some .boolean)) (rmL 1 0 0) (va_Pc [.int a1, .int a2, .int a3] (fun U => True ∧ gK D ca U)) (QcRead (bB (isIn a1 a2 a3))) 0 0 (fun _ => False) := by
  refine x_met (by decide) (Nat.le_of_ble_eq_true rfl) ?_
  intro p e s m below meth c E hr hlk hnm hq ls hl
  generalize hav : ([.int a1, .int a2, .int a3] : List Value).toArray = args at E ⊢
  have hx := E.1
  have hb := E.2.1
  have hown := E.2.2.2.1
  have hts := E.2.2.2.2.1
  generalize hQ : MQ below (QcRead (bB (isIn a1 a2 a3))) args s 0 0 (fun _ => False) = Q
  have hl : lv_has ls 3 [(0, .int a1), (1, .int a2), (2, .int a3)] := hl
  refine lv_iload_n hx hb dX9_within_0 rfl (lv_at hl 0 rfl) ?_
  refine lv_iload_n hx hb dX9_within_1 rfl (lv_at hl 1 rfl) ?_
  refine lv_icmp_lt (tgt := 14) hx hb dX9_within_2 (by decide) (fun c_2 => ?_) (fun c_2 => ?_)
  · skip
    refine lv_iconst (v := 0) hx hb dX9_within_14 (by decide) ?_
    subst hQ
    exact x_zret E hr hlk (by decide) (by simp [bB, isIn, c_2]) dX9_within_15
  · skip
    refine lv_iload_n hx hb dX9_within_5 rfl (lv_at hl 0 rfl) ?_
    refine lv_iload_n hx hb dX9_within_6 rfl (lv_at hl 2 rfl) ?_
    refine lv_icmp_gt (tgt := 14) hx hb dX9_within_7 (by decide) (fun c_7 => ?_) (fun c_7 => ?_)
    · skip
      refine lv_iconst (v := 0) hx hb dX9_within_14 (by decide) ?_
      subst hQ
      exact x_zret E hr hlk (by decide) (by simp [bB, isIn, c_2, c_7]) dX9_within_15
    · skip
      refine lv_iconst (v := 1) hx hb dX9_within_10 (by decide) ?_
      refine lv_goto (tgt := 15) hx hb dX9_within_11 (by decide) ?_
      subst hQ
      exact x_zret E hr hlk (by decide) (by simp [bB, isIn, c_2, c_7]) dX9_within_15
set_option maxHeartbeats 4000000 in
set_option maxRecDepth 100000 in
theorem kX9_isPlace (l : Launch) (D : va_G) (ca : Nat → ClassId) (a1 : Int32)  : Met l yX9_isPlace (wz yX9_isPlace cX9_isPlace 1 (some .boolean)) (rmL 2 0 0) (va_Pc [.int a1] (fun U => True ∧ gK D ca U)) (QcRead (bB (isIn a1 0 15))) 0 0 (fun _ => False) := by
  refine x_met (by decide) (Nat.le_of_ble_eq_true rfl) ?_
  intro p e s m below meth c E hr hlk hnm hq ls hl
  generalize hav : ([.int a1] : List Value).toArray = args at E ⊢
  have hx := E.1
  have hb := E.2.1
  have hown := E.2.2.2.1
  have hts := E.2.2.2.2.1
  generalize hQ : MQ below (QcRead (bB (isIn a1 0 15))) args s 0 0 (fun _ => False) = Q
  have hl : lv_has ls 1 [(0, .int a1)] := hl
  refine lv_iload_n hx hb dX9_isPlace_0 rfl (lv_at hl 0 rfl) ?_
  refine lv_iconst (v := 0) hx hb dX9_isPlace_1 (by decide) ?_
  refine lv_bipush (v := 15) hx hb dX9_isPlace_2 (by decide) ?_
  refine x_read (x_runS (rest := []) E cbX9_within tw_121 (kX9_within l D ca a1 0 15 ) ⟨rfl, rfl, by decide, by decide⟩ (fun _ _ _ _ h => h) (fun _ _ _ => trivial) rfl hl.1 rfl (Nat.le_of_ble_eq_true rfl) dX9_isPlace_4 ⟨by decide, by decide⟩) ?_
  subst hQ
  exact x_zret E hr hlk (bB_or _) (rfl) dX9_isPlace_7
set_option maxHeartbeats 4000000 in
set_option maxRecDepth 100000 in
theorem kX9_isWho (l : Launch) (D : va_G) (ca : Nat → ClassId) (a1 : Int32)  : Met l yX9_isWho (wz yX9_isWho cX9_isWho 1 (some .boolean)) (rmL 2 0 0) (va_Pc [.int a1] (fun U => True ∧ gK D ca U)) (QcRead (bB (isIn a1 0 19))) 0 0 (fun _ => False) := by
  refine x_met (by decide) (Nat.le_of_ble_eq_true rfl) ?_
  intro p e s m below meth c E hr hlk hnm hq ls hl
  generalize hav : ([.int a1] : List Value).toArray = args at E ⊢
  have hx := E.1
  have hb := E.2.1
  have hown := E.2.2.2.1
  have hts := E.2.2.2.2.1
  generalize hQ : MQ below (QcRead (bB (isIn a1 0 19))) args s 0 0 (fun _ => False) = Q
  have hl : lv_has ls 1 [(0, .int a1)] := hl
  refine lv_iload_n hx hb dX9_isWho_0 rfl (lv_at hl 0 rfl) ?_
  refine lv_iconst (v := 0) hx hb dX9_isWho_1 (by decide) ?_
  refine lv_bipush (v := 19) hx hb dX9_isWho_2 (by decide) ?_
  refine x_read (x_runS (rest := []) E cbX9_within tw_121 (kX9_within l D ca a1 0 19 ) ⟨rfl, rfl, by decide, by decide⟩ (fun _ _ _ _ h => h) (fun _ _ _ => trivial) rfl hl.1 rfl (Nat.le_of_ble_eq_true rfl) dX9_isWho_4 ⟨by decide, by decide⟩) ?_
  subst hQ
  exact x_zret E hr hlk (bB_or _) (rfl) dX9_isWho_7
set_option maxHeartbeats 4000000 in
set_option maxRecDepth 100000 in
theorem kX9_areWeeks (l : Launch) (D : va_G) (ca : Nat → ClassId) (a1 : Int32) (a2 : Int32)  : Met l yX9_areWeeks (wz yX9_areWeeks cX9_areWeeks 2 (some .boolean)) (rmL 2 0 0) (va_Pc [.int a1, .int a2] (fun U => True ∧ gK D ca U)) (QcRead (bB (isIn a1 0 300 && isIn a2 a1 300))) 0 0 (fun _ => False) := by
  refine x_met (by decide) (Nat.le_of_ble_eq_true rfl) ?_
  intro p e s m below meth c E hr hlk hnm hq ls hl
  generalize hav : ([.int a1, .int a2] : List Value).toArray = args at E ⊢
  have hx := E.1
  have hb := E.2.1
  have hown := E.2.2.2.1
  have hts := E.2.2.2.2.1
  generalize hQ : MQ below (QcRead (bB (isIn a1 0 300 && isIn a2 a1 300))) args s 0 0 (fun _ => False) = Q
  have hl : lv_has ls 2 [(0, .int a1), (1, .int a2)] := hl
  refine lv_iload_n hx hb dX9_areWeeks_0 rfl (lv_at hl 0 rfl) ?_
  refine lv_iconst (v := 0) hx hb dX9_areWeeks_1 (by decide) ?_
  refine lv_sipush (v := 300) hx hb dX9_areWeeks_2 (by decide) ?_
  refine x_read (x_runS (rest := []) E cbX9_within tw_121 (kX9_within l D ca a1 0 300 ) ⟨rfl, rfl, by decide, by decide⟩ (fun _ _ _ _ h => h) (fun _ _ _ => trivial) rfl hl.1 rfl (Nat.le_of_ble_eq_true rfl) dX9_areWeeks_5 ⟨by decide, by decide⟩) ?_
  refine lv_if_eq (tgt := 26) hx hb dX9_areWeeks_8 (by decide) (fun c_8 => ?_) (fun c_8 => ?_)
  · skip
    have c_8 := bB_0.mp c_8
    refine lv_iconst (v := 0) hx hb dX9_areWeeks_26 (by decide) ?_
    subst hQ
    exact x_zret E hr hlk (by decide) (by simp [bB, c_8]) dX9_areWeeks_27
  · skip
    have c_8 := bB_n0.mp c_8
    refine lv_iload_n hx hb dX9_areWeeks_11 rfl (lv_at hl 1 rfl) ?_
    refine lv_iload_n hx hb dX9_areWeeks_12 rfl (lv_at hl 0 rfl) ?_
    refine lv_sipush (v := 300) hx hb dX9_areWeeks_13 (by decide) ?_
    refine x_read (x_runS (rest := []) E cbX9_within tw_121 (kX9_within l D ca a2 a1 300 ) ⟨rfl, rfl, by decide, by decide⟩ (fun _ _ _ _ h => h) (fun _ _ _ => trivial) rfl hl.1 rfl (Nat.le_of_ble_eq_true rfl) dX9_areWeeks_16 ⟨by decide, by decide⟩) ?_
    refine lv_if_eq (tgt := 26) hx hb dX9_areWeeks_19 (by decide) (fun c_19 => ?_) (fun c_19 => ?_)
    · skip
      have c_19 := bB_0.mp c_19
      refine lv_iconst (v := 0) hx hb dX9_areWeeks_26 (by decide) ?_
      subst hQ
      exact x_zret E hr hlk (by decide) (by simp [bB, c_8, c_19]) dX9_areWeeks_27
    · skip
      have c_19 := bB_n0.mp c_19
      refine lv_iconst (v := 1) hx hb dX9_areWeeks_22 (by decide) ?_
      refine lv_goto (tgt := 27) hx hb dX9_areWeeks_23 (by decide) ?_
      subst hQ
      exact x_zret E hr hlk (by decide) (by simp [bB, c_8, c_19]) dX9_areWeeks_27
set_option maxHeartbeats 4000000 in
set_option maxRecDepth 100000 in
theorem kX1_placeOn (l : Launch) (D : va_G) (ca : Nat → ClassId) (cnt : Nat → Nat) (ad : Nat → Nat → Nat) (ct : Nat → Nat → va_E) (c1 : Nat) (t0 : Int32) (t1 : Int32) (t2 : Int32) (t4 : Int32) (t5 : Int32) (t7 : Int32) (t8 : Int32) (t9 : Int32) (ix : List Nat) (dt : Nat → MV) (a1 : Int32) (a2 : Int32) (hci : c1 < cnt 6) (hcc : ct 6 c1 = .inr (1, [.int t0, .int t1, .int t2, .ref (ad 7 c1), .int t4, .int t5, va_rf (Option.map (ad 8) (ix[0]?)), .int t7, .int t8, .int t9])) (hch : chn cnt ad ct dt ix) : Met l yX1_placeOn (wz yX1_placeOn cX1_placeOn 5 (some .int)) (rmL 1 0 0) (va_Pc [.ref (ad 6 c1), .int a1, .int a2] (fun U => wq D cnt ad ct U.heap ∧ gK D ca U)) (QcRead (plc a1 a2 (ix.map dt) (-1))) 0 0 (fun _ => False) := by
  refine x_met (by decide) (Nat.le_of_ble_eq_true rfl) ?_
  intro p e s m below meth c E hr hlk hnm hq ls hl
  generalize hav : ([.ref (ad 6 c1), .int a1, .int a2] : List Value).toArray = args at E ⊢
  have hx := E.1
  have hb := E.2.1
  have hown := E.2.2.2.1
  have hts := E.2.2.2.2.1
  have hw : wd D (wA cnt ad s.heap.size) s.heap cnt ad ct s.heap [] := wd.start hq
  generalize hQ : MQ below (QcRead (plc a1 a2 (ix.map dt) (-1))) args s 0 0 (fun _ => False) = Q
  have hl : lv_has ls 5 [(0, .ref (ad 6 c1)), (1, .int a1), (2, .int a2)] := hl
  refine lv_iconst (v := (-1)) hx hb dX1_placeOn_0 (by decide) ?_
  refine lv_istore_n (lv' := [(3, .int (-1)), (0, .ref (ad 6 c1)), (1, .int a1), (2, .int a2)]) hx hb dX1_placeOn_1 rfl hl (by decide) rfl (fun ls hl => ?_)
  refine lv_aload_n hx hb dX1_placeOn_2 rfl (lv_at hl 1 rfl) ?_
  refine x_get E hw 6 c1 (hci) hcc cl_1 ly_1 6 (by decide) tw_240 rfl dX1_placeOn_3 ?_
  refine x_astoreQ (lv' := [(4, va_rf (Option.map (ad 8) (ix[0]?))), (3, .int (-1)), (0, .ref (ad 6 c1)), (1, .int a1), (2, .int a2)]) hx hb dX1_placeOn_6 hl (by decide) rfl (fun ls hl => ?_)
  have lp8 : ∀ (n : Nat) (z : Nat) (x3 : Int32), (plc a1 a2 ((ix.map dt).drop z) x3 = plc a1 a2 (ix.map dt) (-1)) → (z ≤ ix.length) → (ix.length - z < n) → ∀ ls : Array Slot, lv_has ls 5 [(0, .ref (ad 6 c1)), (1, .int a1), (2, .int a2), (3, .int x3), (4, va_rf (Option.map (ad 8) (ix[z]?)))] → W p l e (rmL 1 0 0) s m args below meth c s.heap [] 0 0 Q (F0 m 8 ls []) := by
    intro n
    induction n with
    | zero =>
      intro z x3 hp hpl hfu ls hl
      exact absurd hfu (by omega)
    | succ n ih8 =>
      intro z x3 hp hpl hfu ls hl
      refine x_aloadQ hx hb dX1_placeOn_8 (lv_at hl 4 rfl) ?_
      rcases x_opt (ix[z]?) with hn10 | ⟨i, hi10⟩
      · skip
        rw [hn10]
        rw [hn10] at hl
        have hl : lv_has ls 5 [(0, .ref (ad 6 c1)), (1, .int a1), (2, .int a2), (3, .int x3), (4, .null)] := hl
        refine lv_ifnullN (tgt := 47) hx hb dX1_placeOn_10 (by decide) ?_
        refine lv_iload_n hx hb dX1_placeOn_47 rfl (lv_at hl 3 rfl) ?_
        subst hQ
        exact x_iret E hr hlk (by first | (rw [← hp, drop_none hn10]; rfl) | (rw [← hp, drop_some hi10, plc]; simp [hn10])) dX1_placeOn_48
      · skip
        rw [hi10]
        rw [hi10] at hl
        have hl : lv_has ls 5 [(0, .ref (ad 6 c1)), (1, .int a1), (2, .int a2), (3, .int x3), (4, .ref (ad 8 i))] := hl
        refine lv_ifnull hx hb dX1_placeOn_10 ?_
        obtain ⟨hil, hic⟩ := hch z i hi10
        refine lv_aload hx hb dX1_placeOn_13 (lv_at hl 4 rfl) ?_
        refine x_get E hw 8 i (hil) hic cl_5 ly_5 1 (by decide) tw_210 rfl dX1_placeOn_15 ?_
        refine lv_iload_n hx hb dX1_placeOn_18 rfl (lv_at hl 1 rfl) ?_
        refine lv_icmp_gt (tgt := 47) hx hb dX1_placeOn_19 (by decide) (fun c_19 => ?_) (fun c_19 => ?_)
        · skip
          refine lv_iload_n hx hb dX1_placeOn_47 rfl (lv_at hl 3 rfl) ?_
          subst hQ
          exact x_iret E hr hlk (by first | (rw [← hp, drop_none hn10]; rfl) | (rw [← hp, drop_some hi10, plc]; simp [hi10, c_19])) dX1_placeOn_48
        · skip
          refine lv_aload hx hb dX1_placeOn_22 (lv_at hl 4 rfl) ?_
          refine x_get E hw 8 i (hil) hic cl_5 ly_5 2 (by decide) tw_213 rfl dX1_placeOn_24 ?_
          refine lv_iload_n hx hb dX1_placeOn_27 rfl (lv_at hl 2 rfl) ?_
          refine lv_icmp_gt (tgt := 37) hx hb dX1_placeOn_28 (by decide) (fun c_28 => ?_) (fun c_28 => ?_)
          · skip
            refine lv_aload hx hb dX1_placeOn_37 (lv_at hl 4 rfl) ?_
            refine x_get E hw 8 i (hil) hic cl_5 ly_5 3 (by decide) tw_214 rfl dX1_placeOn_39 ?_
            refine x_astoreQ (lv' := [(4, va_rf (Option.map (ad 8) (ix[z + 1]?))), (0, .ref (ad 6 c1)), (1, .int a1), (2, .int a2), (3, .int x3)]) hx hb dX1_placeOn_42 hl (by decide) rfl (fun ls hl => ?_)
            refine lv_goto (tgt := 8) hx hb dX1_placeOn_44 (by decide) ?_
            exact ih8 (z + 1) x3 (by rw [← hp, drop_some hi10, plc]; simp [hi10, c_19, c_28]) (len_some hi10) (by have := len_some hi10; omega) ls (lv_sub hl [1, 2, 3, 4, 0] (rfl))
          · skip
            refine lv_aload hx hb dX1_placeOn_31 (lv_at hl 4 rfl) ?_
            refine x_get E hw 8 i (hil) hic cl_5 ly_5 0 (by decide) tw_207 rfl dX1_placeOn_33 ?_
            refine lv_istore_n (lv' := [(3, .int ((dt i).1)), (0, .ref (ad 6 c1)), (1, .int a1), (2, .int a2), (4, .ref (ad 8 i))]) hx hb dX1_placeOn_36 rfl hl (by decide) rfl (fun ls hl => ?_)
            refine lv_aload hx hb dX1_placeOn_37 (lv_at hl 4 rfl) ?_
            refine x_get E hw 8 i (hil) hic cl_5 ly_5 3 (by decide) tw_214 rfl dX1_placeOn_39 ?_
            refine x_astoreQ (lv' := [(4, va_rf (Option.map (ad 8) (ix[z + 1]?))), (3, .int ((dt i).1)), (0, .ref (ad 6 c1)), (1, .int a1), (2, .int a2)]) hx hb dX1_placeOn_42 hl (by decide) rfl (fun ls hl => ?_)
            refine lv_goto (tgt := 8) hx hb dX1_placeOn_44 (by decide) ?_
            exact ih8 (z + 1) ((dt i).1) (by rw [← hp, drop_some hi10, plc]; simp [hi10, c_19, c_28]) (len_some hi10) (by have := len_some hi10; omega) ls (lv_sub hl [2, 3, 4, 1, 0] (rfl))
  exact lp8 (ix.length + 1) 0 (-1) (rfl) (Nat.zero_le _) (by omega) ls (lv_sub hl [2, 3, 4, 1, 0] (rfl))
set_option maxHeartbeats 4000000 in
set_option maxRecDepth 100000 in
theorem kX9_isPast (l : Launch) (D : va_G) (ca : Nat → ClassId) (cnt : Nat → Nat) (ad : Nat → Nat → Nat) (ct : Nat → Nat → va_E) (v : Nat → Int32) (g : Nat → Nat → Int32) (nw : Nat) (nb : Nat) (nc : Nat) (nm : Nat) (a1 : Int32) (hC : cRep ca cnt ad ct v g nw nb nc nm) : Met l yX9_isPast (wz yX9_isPast cX9_isPast 2 (some .boolean)) (rmL 2 0 0) (va_Pc [.ref (ad 0 0), .int a1] (fun U => wq D cnt ad ct U.heap ∧ gK D ca U)) (QcRead (bB (isIn a1 0 (nI nw)))) 0 0 (fun _ => False) := by
  refine x_met (by decide) (Nat.le_of_ble_eq_true rfl) ?_
  intro p e s m below meth c E hr hlk hnm hq ls hl
  generalize hav : ([.ref (ad 0 0), .int a1] : List Value).toArray = args at E ⊢
  have hx := E.1
  have hb := E.2.1
  have hown := E.2.2.2.1
  have hts := E.2.2.2.2.1
  have hw : wd D (wA cnt ad s.heap.size) s.heap cnt ad ct s.heap [] := wd.start hq
  generalize hQ : MQ below (QcRead (bB (isIn a1 0 (nI nw)))) args s 0 0 (fun _ => False) = Q
  have hl : lv_has ls 2 [(0, .ref (ad 0 0)), (1, .int a1)] := hl
  obtain ⟨hO, hIv, tp, htp, hX, hT, hB, hCc, hN⟩ := id hC
  obtain ⟨hx0, hx1, hx2, hx3, fz0⟩ := id hX
  have hO5 := hO.2.2.2.2
  obtain ⟨hb4, hb5, fB, fz1, hBd⟩ := id hB
  obtain ⟨hc6, hc7, fC, dt, ow, ix, ak, fz2, hCd⟩ := id hCc
  obtain ⟨hn9, fN, lk, fz3, hNd⟩ := id hN
  refine lv_iload_n hx hb dX9_isPast_0 rfl (lv_at hl 1 rfl) ?_
  refine lv_iconst (v := 0) hx hb dX9_isPast_1 (by decide) ?_
  refine lv_aload_n hx hb dX9_isPast_2 rfl (lv_at hl 0 rfl) ?_
  refine x_get E hw 0 0 (hx0) fz0 cl_9 ly_9 0 (by decide) tw_80 rfl dX9_isPast_3 ?_
  refine x_read (x_runS (rest := []) E cbX9_within tw_121 (kX9_within l D ca a1 0 (nI nw) ) ⟨rfl, rfl, by decide, by decide⟩ (fun _ _ _ _ h => h) (fun _ _ _ => trivial) rfl hl.1 rfl (Nat.le_of_ble_eq_true rfl) dX9_isPast_6 ⟨by decide, by decide⟩) ?_
  subst hQ
  exact x_zret E hr hlk (bB_or _) (rfl) dX9_isPast_9
set_option maxHeartbeats 4000000 in
set_option maxRecDepth 100000 in
theorem kX9_findBallot (l : Launch) (D : va_G) (ca : Nat → ClassId) (cnt : Nat → Nat) (ad : Nat → Nat → Nat) (ct : Nat → Nat → va_E) (v : Nat → Int32) (g : Nat → Nat → Int32) (nw : Nat) (nb : Nat) (nc : Nat) (nm : Nat) (a1 : Int32) (hC : cRep ca cnt ad ct v g nw nb nc nm) : Met l yX9_findBallot (wz yX9_findBallot cX9_findBallot 2 (some (.object "ScrapHouse$Ballot"))) (rmL 2 0 0) (va_Pc [.ref (ad 0 0), .int a1] (fun U => wq D cnt ad ct U.heap ∧ gK D ca U)) (QcRef (Option.map (ad 4) (fdB nb a1))) 0 0 (fun _ => False) := by
  refine x_met (by decide) (Nat.le_of_ble_eq_true rfl) ?_
  intro p e s m below meth c E hr hlk hnm hq ls hl
  generalize hav : ([.ref (ad 0 0), .int a1] : List Value).toArray = args at E ⊢
  have hx := E.1
  have hb := E.2.1
  have hown := E.2.2.2.1
  have hts := E.2.2.2.2.1
  have hw : wd D (wA cnt ad s.heap.size) s.heap cnt ad ct s.heap [] := wd.start hq
  generalize hQ : MQ below (QcRef (Option.map (ad 4) (fdB nb a1))) args s 0 0 (fun _ => False) = Q
  have hl : lv_has ls 2 [(0, .ref (ad 0 0)), (1, .int a1)] := hl
  obtain ⟨hO, hIv, tp, htp, hX, hT, hB, hCc, hN⟩ := id hC
  obtain ⟨hx0, hx1, hx2, hx3, fz0⟩ := id hX
  have hO5 := hO.2.2.2.2
  obtain ⟨hb4, hb5, fB, fz1, hBd⟩ := id hB
  obtain ⟨hc6, hc7, fC, dt, ow, ix, ak, fz2, hCd⟩ := id hCc
  obtain ⟨hn9, fN, lk, fz3, hNd⟩ := id hN
  refine lv_iload_n hx hb dX9_findBallot_0 rfl (lv_at hl 1 rfl) ?_
  refine lv_iconst (v := 0) hx hb dX9_findBallot_1 (by decide) ?_
  refine lv_aload_n hx hb dX9_findBallot_2 rfl (lv_at hl 0 rfl) ?_
  refine x_get E hw 0 0 (hx0) fz0 cl_9 ly_9 1 (by decide) tw_81 rfl dX9_findBallot_3 ?_
  refine lv_iconst (v := 1) hx hb dX9_findBallot_6 (by decide) ?_
  refine lv_isub hx hb dX9_findBallot_7 ?_
  refine x_read (x_runS (rest := []) E cbX9_within tw_121 (kX9_within l D ca a1 0 (nI nb - 1) ) ⟨rfl, rfl, by decide, by decide⟩ (fun _ _ _ _ h => h) (fun _ _ _ => trivial) rfl hl.1 rfl (Nat.le_of_ble_eq_true rfl) dX9_findBallot_8 ⟨by decide, by decide⟩) ?_
  refine lv_if_eq (tgt := 23) hx hb dX9_findBallot_11 (by decide) (fun c_11 => ?_) (fun c_11 => ?_)
  · skip
    have c_11 := bB_0.mp c_11
    refine lv_null hx hb dX9_findBallot_23 ?_
    subst hQ
    exact x_aret E hr (Or.inl ⟨_, rfl⟩) hlk (by first | (simp [fdB, c_11, va_rf]; done) | simp [fdB, nI_clamp (n := j) (by omega), c_11, va_rf]) dX9_findBallot_24
  · skip
    have c_11 := bB_n0.mp c_11
    obtain ⟨j, hj, rfl⟩ := isIn_nat (by omega) c_11
    refine lv_aload_n hx hb dX9_findBallot_14 rfl (lv_at hl 0 rfl) ?_
    refine x_get E hw 0 0 (hx0) fz0 cl_9 ly_9 6 (by decide) tw_86 rfl dX9_findBallot_15 ?_
    refine lv_iload_n hx hb dX9_findBallot_18 rfl (lv_at hl 1 rfl) ?_
    refine x_ald (v := .ref (ad 4 j)) E hw 3 rfl 1 0 (hx1) fz1 j (rfl) (by omega) (by decide) dX9_findBallot_19 (by rw [(hBd j (by omega)).1]; rfl) ?_
    refine lv_goto (tgt := 24) hx hb dX9_findBallot_20 (by decide) ?_
    subst hQ
    exact x_aret E hr (Or.inl ⟨_, rfl⟩) hlk (by first | (simp [fdB, c_11, va_rf]; done) | simp [fdB, nI_clamp (n := j) (by omega), c_11, va_rf]) dX9_findBallot_24
set_option maxHeartbeats 4000000 in
set_option maxRecDepth 100000 in
theorem kX9_findChild (l : Launch) (D : va_G) (ca : Nat → ClassId) (cnt : Nat → Nat) (ad : Nat → Nat → Nat) (ct : Nat → Nat → va_E) (v : Nat → Int32) (g : Nat → Nat → Int32) (nw : Nat) (nb : Nat) (nc : Nat) (nm : Nat) (a1 : Int32) (hC : cRep ca cnt ad ct v g nw nb nc nm) : Met l yX9_findChild (wz yX9_findChild cX9_findChild 2 (some (.object "ScrapHouse$Child"))) (rmL 2 0 0) (va_Pc [.ref (ad 0 0), .int a1] (fun U => wq D cnt ad ct U.heap ∧ gK D ca U)) (QcRef (Option.map (ad 6) (fdB nc a1))) 0 0 (fun _ => False) := by
  refine x_met (by decide) (Nat.le_of_ble_eq_true rfl) ?_
  intro p e s m below meth c E hr hlk hnm hq ls hl
  generalize hav : ([.ref (ad 0 0), .int a1] : List Value).toArray = args at E ⊢
  have hx := E.1
  have hb := E.2.1
  have hown := E.2.2.2.1
  have hts := E.2.2.2.2.1
  have hw : wd D (wA cnt ad s.heap.size) s.heap cnt ad ct s.heap [] := wd.start hq
  generalize hQ : MQ below (QcRef (Option.map (ad 6) (fdB nc a1))) args s 0 0 (fun _ => False) = Q
  have hl : lv_has ls 2 [(0, .ref (ad 0 0)), (1, .int a1)] := hl
  obtain ⟨hO, hIv, tp, htp, hX, hT, hB, hCc, hN⟩ := id hC
  obtain ⟨hx0, hx1, hx2, hx3, fz0⟩ := id hX
  have hO5 := hO.2.2.2.2
  obtain ⟨hb4, hb5, fB, fz1, hBd⟩ := id hB
  obtain ⟨hc6, hc7, fC, dt, ow, ix, ak, fz2, hCd⟩ := id hCc
  obtain ⟨hn9, fN, lk, fz3, hNd⟩ := id hN
  refine lv_iload_n hx hb dX9_findChild_0 rfl (lv_at hl 1 rfl) ?_
  refine lv_iconst (v := 0) hx hb dX9_findChild_1 (by decide) ?_
  refine lv_aload_n hx hb dX9_findChild_2 rfl (lv_at hl 0 rfl) ?_
  refine x_get E hw 0 0 (hx0) fz0 cl_9 ly_9 2 (by decide) tw_82 rfl dX9_findChild_3 ?_
  refine lv_iconst (v := 1) hx hb dX9_findChild_6 (by decide) ?_
  refine lv_isub hx hb dX9_findChild_7 ?_
  refine x_read (x_runS (rest := []) E cbX9_within tw_121 (kX9_within l D ca a1 0 (nI nc - 1) ) ⟨rfl, rfl, by decide, by decide⟩ (fun _ _ _ _ h => h) (fun _ _ _ => trivial) rfl hl.1 rfl (Nat.le_of_ble_eq_true rfl) dX9_findChild_8 ⟨by decide, by decide⟩) ?_
  refine lv_if_eq (tgt := 23) hx hb dX9_findChild_11 (by decide) (fun c_11 => ?_) (fun c_11 => ?_)
  · skip
    have c_11 := bB_0.mp c_11
    refine lv_null hx hb dX9_findChild_23 ?_
    subst hQ
    exact x_aret E hr (Or.inl ⟨_, rfl⟩) hlk (by first | (simp [fdB, c_11, va_rf]; done) | simp [fdB, nI_clamp (n := j) (by omega), c_11, va_rf]) dX9_findChild_24
  · skip
    have c_11 := bB_n0.mp c_11
    obtain ⟨j, hj, rfl⟩ := isIn_nat (by omega) c_11
    refine lv_aload_n hx hb dX9_findChild_14 rfl (lv_at hl 0 rfl) ?_
    refine x_get E hw 0 0 (hx0) fz0 cl_9 ly_9 7 (by decide) tw_87 rfl dX9_findChild_15 ?_
    refine lv_iload_n hx hb dX9_findChild_18 rfl (lv_at hl 1 rfl) ?_
    refine x_ald (v := .ref (ad 6 j)) E hw 4 rfl 2 0 (hx2) fz2 j (rfl) (by omega) (by decide) dX9_findChild_19 (by rw [(hCd j (by omega)).1]; rfl) ?_
    refine lv_goto (tgt := 24) hx hb dX9_findChild_20 (by decide) ?_
    subst hQ
    exact x_aret E hr (Or.inl ⟨_, rfl⟩) hlk (by first | (simp [fdB, c_11, va_rf]; done) | simp [fdB, nI_clamp (n := j) (by omega), c_11, va_rf]) dX9_findChild_24
set_option maxHeartbeats 4000000 in
set_option maxRecDepth 100000 in
theorem kX9_findNurse (l : Launch) (D : va_G) (ca : Nat → ClassId) (cnt : Nat → Nat) (ad : Nat → Nat → Nat) (ct : Nat → Nat → va_E) (v : Nat → Int32) (g : Nat → Nat → Int32) (nw : Nat) (nb : Nat) (nc : Nat) (nm : Nat) (a1 : Int32) (hC : cRep ca cnt ad ct v g nw nb nc nm) : Met l yX9_findNurse (wz yX9_findNurse cX9_findNurse 2 (some (.object "ScrapHouse$Nurse"))) (rmL 2 0 0) (va_Pc [.ref (ad 0 0), .int a1] (fun U => wq D cnt ad ct U.heap ∧ gK D ca U)) (QcRef (Option.map (ad 9) (fdN a1))) 0 0 (fun _ => False) := by
  refine x_met (by decide) (Nat.le_of_ble_eq_true rfl) ?_
  intro p e s m below meth c E hr hlk hnm hq ls hl
  generalize hav : ([.ref (ad 0 0), .int a1] : List Value).toArray = args at E ⊢
  have hx := E.1
  have hb := E.2.1
  have hown := E.2.2.2.1
  have hts := E.2.2.2.2.1
  have hw : wd D (wA cnt ad s.heap.size) s.heap cnt ad ct s.heap [] := wd.start hq
  generalize hQ : MQ below (QcRef (Option.map (ad 9) (fdN a1))) args s 0 0 (fun _ => False) = Q
  have hl : lv_has ls 2 [(0, .ref (ad 0 0)), (1, .int a1)] := hl
  obtain ⟨hO, hIv, tp, htp, hX, hT, hB, hCc, hN⟩ := id hC
  obtain ⟨hx0, hx1, hx2, hx3, fz0⟩ := id hX
  have hO5 := hO.2.2.2.2
  obtain ⟨hb4, hb5, fB, fz1, hBd⟩ := id hB
  obtain ⟨hc6, hc7, fC, dt, ow, ix, ak, fz2, hCd⟩ := id hCc
  obtain ⟨hn9, fN, lk, fz3, hNd⟩ := id hN
  refine lv_iload_n hx hb dX9_findNurse_0 rfl (lv_at hl 1 rfl) ?_
  refine lv_iconst (v := 1) hx hb dX9_findNurse_1 (by decide) ?_
  refine lv_bipush (v := 12) hx hb dX9_findNurse_2 (by decide) ?_
  refine x_read (x_runS (rest := []) E cbX9_within tw_121 (kX9_within l D ca a1 1 12 ) ⟨rfl, rfl, by decide, by decide⟩ (fun _ _ _ _ h => h) (fun _ _ _ => trivial) rfl hl.1 rfl (Nat.le_of_ble_eq_true rfl) dX9_findNurse_4 ⟨by decide, by decide⟩) ?_
  refine lv_if_eq (tgt := 19) hx hb dX9_findNurse_7 (by decide) (fun c_7 => ?_) (fun c_7 => ?_)
  · skip
    have c_7 := bB_0.mp c_7
    refine lv_null hx hb dX9_findNurse_19 ?_
    subst hQ
    exact x_aret E hr (Or.inl ⟨_, rfl⟩) hlk (by first | (simp [fdN, c_7, va_rf]; done) | simp [fdN, nI_clamp (n := j + 1) (by omega), c_7, va_rf]) dX9_findNurse_20
  · skip
    have c_7 := bB_n0.mp c_7
    obtain ⟨j, hj1, hj2, rfl⟩ := isIn_rng (lo := 1) (hi := 12) (by decide) (by decide) c_7
    obtain ⟨j, rfl⟩ : ∃ z, j = z + 1 := ⟨j - 1, by omega⟩
    refine lv_aload_n hx hb dX9_findNurse_10 rfl (lv_at hl 0 rfl) ?_
    refine x_get E hw 0 0 (hx0) fz0 cl_9 ly_9 8 (by decide) tw_88 rfl dX9_findNurse_11 ?_
    refine lv_iload_n hx hb dX9_findNurse_14 rfl (lv_at hl 1 rfl) ?_
    refine x_ald (v := .ref (ad 9 j)) E hw 5 rfl 3 0 (hx3) fz3 (j + 1) (rfl) (by omega) (by decide) dX9_findNurse_15 (by rw [(hNd j (by omega)).1]; rfl) ?_
    refine lv_goto (tgt := 20) hx hb dX9_findNurse_16 (by decide) ?_
    subst hQ
    exact x_aret E hr (Or.inl ⟨_, rfl⟩) hlk (by first | (simp [fdN, c_7, va_rf]; done) | simp [fdN, nI_clamp (n := j + 1) (by omega), c_7, va_rf]) dX9_findNurse_20
set_option maxHeartbeats 4000000 in
set_option maxRecDepth 100000 in
theorem kX0_ballOf (l : Launch) (D : va_G) (ca : Nat → ClassId) (cnt : Nat → Nat) (ad : Nat → Nat → Nat) (ct : Nat → Nat → va_E) (b1 : Nat) (n1 : Nat) (f1 : Nat → Int32) (a1 : Int32) (hb4 : b1 < cnt 4) (hb5 : b1 < cnt 5) (hbc : ct 4 b1 = .inr (0, [.ref (ad 5 b1)])) (hbf : ct 5 b1 = .inl (ca 1, n1, .inl f1)) (hn1 : n1 ≤ 20) : Met l yX0_ballOf (wz yX0_ballOf cX0_ballOf 2 (some .int)) (rmL 2 0 0) (va_Pc [.ref (ad 4 b1), .int a1] (fun U => wq D cnt ad ct U.heap ∧ gK D ca U)) (QcRead (cBall n1 f1 a1)) 0 0 (fun _ => False) := by
  refine x_met (by decide) (Nat.le_of_ble_eq_true rfl) ?_
  intro p e s m below meth c E hr hlk hnm hq ls hl
  generalize hav : ([.ref (ad 4 b1), .int a1] : List Value).toArray = args at E ⊢
  have hx := E.1
  have hb := E.2.1
  have hown := E.2.2.2.1
  have hts := E.2.2.2.2.1
  have hw : wd D (wA cnt ad s.heap.size) s.heap cnt ad ct s.heap [] := wd.start hq
  generalize hQ : MQ below (QcRead (cBall n1 f1 a1)) args s 0 0 (fun _ => False) = Q
  have hl : lv_has ls 2 [(0, .ref (ad 4 b1)), (1, .int a1)] := hl
  refine lv_iload_n hx hb dX0_ballOf_0 rfl (lv_at hl 1 rfl) ?_
  refine lv_iconst (v := 0) hx hb dX0_ballOf_1 (by decide) ?_
  refine lv_aload_n hx hb dX0_ballOf_2 rfl (lv_at hl 0 rfl) ?_
  refine x_get E hw 4 b1 (hb4) hbc cl_0 ly_0 0 (by decide) tw_141 rfl dX0_ballOf_3 ?_
  refine x_len E hw 1 rfl 5 b1 (hb5) hbf dX0_ballOf_6 ?_
  refine lv_iconst (v := 1) hx hb dX0_ballOf_7 (by decide) ?_
  refine lv_isub hx hb dX0_ballOf_8 ?_
  refine x_read (x_runSN (rest := []) E cbX9_within E.2.2.2.2.2.2.2.2.1 (kX9_within l D ca a1 0 (nI n1 - 1) ) ⟨rfl, rfl, by decide, by decide⟩ (fun _ _ _ _ h => h) (fun _ _ _ => trivial) rfl hl.1 rfl (Nat.le_of_ble_eq_true rfl) dX0_ballOf_9 ⟨by decide, by decide⟩) ?_
  refine lv_if_eq (tgt := 24) hx hb dX0_ballOf_12 (by decide) (fun c_12 => ?_) (fun c_12 => ?_)
  · skip
    have c_12 := bB_0.mp c_12
    refine lv_iconst (v := (-1)) hx hb dX0_ballOf_24 (by decide) ?_
    subst hQ
    exact x_iret E hr hlk (by first | (simp [cBall, c_12]; done) | simp [cBall, nI_clamp (n := j) (by omega), c_12]) dX0_ballOf_25
  · skip
    have c_12 := bB_n0.mp c_12
    obtain ⟨j, hj, rfl⟩ := isIn_nat (by omega) c_12
    refine lv_aload_n hx hb dX0_ballOf_15 rfl (lv_at hl 0 rfl) ?_
    refine x_get E hw 4 b1 (hb4) hbc cl_0 ly_0 0 (by decide) tw_141 rfl dX0_ballOf_16 ?_
    refine lv_iload_n hx hb dX0_ballOf_19 rfl (lv_at hl 1 rfl) ?_
    refine x_ild E hw 5 b1 (hb5) hbf j (rfl) (hj) (by omega) dX0_ballOf_20 ?_
    refine lv_goto (tgt := 25) hx hb dX0_ballOf_21 (by decide) ?_
    subst hQ
    exact x_iret E hr hlk (by first | (simp [cBall, c_12]; done) | simp [cBall, nI_clamp (n := j) (by omega), c_12]) dX0_ballOf_25
