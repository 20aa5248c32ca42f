set_option maxHeartbeats 4000000 in
set_option maxRecDepth 100000 in
theorem kX9_findNurse_G (l : Launch) (D : va_G) (ca : Nat → ClassId) (cnt : Nat → Nat) (ad : Nat → Nat → Nat) (ct : Nat → Nat → va_E) (g : Nat → Nat → Int32) (nw : Nat) (nc : Nat) (nm : Nat) (a1 : Int32) (hC : cRepG ca cnt ad ct g nw nc nm) : Met l yX9_findNurse (wz yX9_findNurse cX9_findNurse 2 (some (.object "ScrapHouse$Nurse"))) (rmL 2 0 0) (va_Pc [.ref (ad 0 0), .int a1] (fun U => wq D cnt ad ct U.heap ∧ gK D ca U)) (QcRef (Option.map (ad 9) (fdN a1))) 0 0 (fun _ => False) := by
  refine x_met (by decide) (Nat.le_of_ble_eq_true rfl) ?_
  intro p e s m below meth c E hr hlk hnm hq ls hl
  generalize hav : ([.ref (ad 0 0), .int a1] : List Value).toArray = args at E ⊢
  have hx := E.1
  have hb := E.2.1
  have hown := E.2.2.2.1
  have hts := E.2.2.2.2.1
  have hw : wd D (wA cnt ad s.heap.size) s.heap cnt ad ct s.heap [] := wd.start hq
  generalize hQ : MQ below (QcRef (Option.map (ad 9) (fdN a1))) args s 0 0 (fun _ => False) = Q
  have hl : lv_has ls 2 [(0, .ref (ad 0 0)), (1, .int a1)] := hl
  obtain ⟨hO5, hO6, hIv, hx0, hx2, hx3, ⟨x1, x3, x4, x5, tp, fz0⟩, hc6, ⟨fC, dt, ix, fz2, hCd⟩, hN⟩ := id hC
  obtain ⟨hn9, fN, lk, fz3, hNd⟩ := id hN
  refine lv_iload_n hx hb dX9_findNurse_0 rfl (lv_at hl 1 rfl) ?_
  refine lv_iconst (v := 1) hx hb dX9_findNurse_1 (by decide) ?_
  refine lv_bipush (v := 12) hx hb dX9_findNurse_2 (by decide) ?_
  refine x_read (x_runS (rest := []) E cbX9_within tw_121 (kX9_within l D ca a1 1 12 ) ⟨rfl, rfl, by decide, by decide⟩ (fun _ _ _ _ h => h) (fun _ _ _ => trivial) rfl hl.1 rfl (Nat.le_of_ble_eq_true rfl) dX9_findNurse_4 ⟨by decide, by decide⟩) ?_
  refine lv_if_eq (tgt := 19) hx hb dX9_findNurse_7 (by decide) (fun c_7 => ?_) (fun c_7 => ?_)
  · skip
    have c_7 := bB_0.mp c_7
    refine lv_null hx hb dX9_findNurse_19 ?_
    subst hQ
    exact x_aret E hr (Or.inl ⟨_, rfl⟩) hlk (by first | (simp [fdN, c_7, va_rf]; done) | simp [fdN, nI_clamp (n := j + 1) (by omega), c_7, va_rf]) dX9_findNurse_20
  · skip
    have c_7 := bB_n0.mp c_7
    obtain ⟨j, hj1, hj2, rfl⟩ := isIn_rng (lo := 1) (hi := 12) (by decide) (by decide) c_7
    obtain ⟨j, rfl⟩ : ∃ z, j = z + 1 := ⟨j - 1, by omega⟩
    refine lv_aload_n hx hb dX9_findNurse_10 rfl (lv_at hl 0 rfl) ?_
    refine x_get E hw 0 0 (hx0) fz0 cl_9 ly_9 8 (by decide) tw_88 rfl dX9_findNurse_11 ?_
    refine lv_iload_n hx hb dX9_findNurse_14 rfl (lv_at hl 1 rfl) ?_
    refine x_ald (v := .ref (ad 9 j)) E hw 5 rfl 3 0 (hx3) fz3 (j + 1) (rfl) (by omega) (by decide) dX9_findNurse_15 (by rw [(hNd j (by omega)).1]; rfl) ?_
    refine lv_goto (tgt := 20) hx hb dX9_findNurse_16 (by decide) ?_
    subst hQ
    exact x_aret E hr (Or.inl ⟨_, rfl⟩) hlk (by first | (simp [fdN, c_7, va_rf]; done) | simp [fdN, nI_clamp (n := j + 1) (by omega), c_7, va_rf]) dX9_findNurse_20
set_option maxHeartbeats 4000000 in
set_option maxRecDepth 100000 in
theorem kX9_childrenAt_G (l : Launch) (D : va_G) (ca : Nat → ClassId) (cnt : Nat → Nat) (ad : Nat → Nat → Nat) (ct : Nat → Nat → va_E) (g : Nat → Nat → Int32) (nw : Nat) (nc : Nat) (nm : Nat) (a1 : Int32) (a2 : Int32) (a3 : Int32) (hC : cRepG ca cnt ad ct g nw nc nm) (ha1 : ¬ a1 = -1) : Met l yX9_childrenAt (wz yX9_childrenAt cX9_childrenAt 6 (some .int)) (rmL 2 0 0) (va_Pc [.ref (ad 0 0), .int a1, .int a2, .int a3] (fun U => wq D cnt ad ct U.heap ∧ gK D ca U)) (QcRead (nI (mMany g nm a1 a2 a3 nc))) 0 0 (fun _ => False) := by
  refine x_met (by decide) (Nat.le_of_ble_eq_true rfl) ?_
  intro p e s m below meth c E hr hlk hnm hq ls hl
  generalize hav : ([.ref (ad 0 0), .int a1, .int a2, .int a3] : List Value).toArray = args at E ⊢
  have hx := E.1
  have hb := E.2.1
  have hown := E.2.2.2.1
  have hts := E.2.2.2.2.1
  have hw : wd D (wA cnt ad s.heap.size) s.heap cnt ad ct s.heap [] := wd.start hq
  generalize hQ : MQ below (QcRead (nI (mMany g nm a1 a2 a3 nc))) args s 0 0 (fun _ => False) = Q
  have hl : lv_has ls 6 [(0, .ref (ad 0 0)), (1, .int a1), (2, .int a2), (3, .int a3)] := hl
  obtain ⟨hO5, hO6, hIv, hx0, hx2, hx3, ⟨x1, x3, x4, x5, tp, fz0⟩, hc6, ⟨fC, dt, ix, fz2, hCd⟩, hN⟩ := id hC
  obtain ⟨hn9, fN, lk, fz3, hNd⟩ := id hN
  refine lv_iconst (v := 0) hx hb dX9_childrenAt_0 (by decide) ?_
  refine lv_istore (lv' := [(4, .int 0), (0, .ref (ad 0 0)), (1, .int a1), (2, .int a2), (3, .int a3)]) hx hb dX9_childrenAt_1 hl (by decide) rfl (fun ls hl => ?_)
  refine lv_iconst (v := 0) hx hb dX9_childrenAt_3 (by decide) ?_
  refine lv_istore (lv' := [(5, .int 0), (4, .int 0), (0, .ref (ad 0 0)), (1, .int a1), (2, .int a2), (3, .int a3)]) hx hb dX9_childrenAt_4 hl (by decide) rfl (fun ls hl => ?_)
  have lp6 : ∀ (n : Nat) (i : Nat) (x4 : Int32), (i ≤ nc) → (x4 = nI (mMany g nm a1 a2 a3 i)) → (nc - i < n) → ∀ ls : Array Slot, lv_has ls 6 [(0, .ref (ad 0 0)), (1, .int a1), (2, .int a2), (3, .int a3), (4, .int x4), (5, .int (nI i))] → W p l e (rmL 2 0 0) s m args below meth c s.heap [] 0 0 Q (F0 m 6 ls []) := by
    intro n
    induction n with
    | zero =>
      intro i x4 hi h4 hfu ls hl
      exact absurd hfu (by omega)
    | succ n ih6 =>
      intro i x4 hi h4 hfu ls hl
      refine lv_iload hx hb dX9_childrenAt_6 (lv_at hl 5 rfl) ?_
      refine lv_aload_n hx hb dX9_childrenAt_8 rfl (lv_at hl 0 rfl) ?_
      refine x_get E hw 0 0 (hx0) fz0 cl_9 ly_9 2 (by decide) tw_82 rfl dX9_childrenAt_9 ?_
      refine lv_icmp_ge (tgt := 40) hx hb dX9_childrenAt_12 (by decide) (fun c_12 => ?_) (fun c_12 => ?_)
      · skip
        have hge : i = nc := by have q9 := (nI_leI (a := nc) (b := i) (by omega) (by omega)).mp c_12; omega
        subst hge
        refine lv_iload hx hb dX9_childrenAt_40 (lv_at hl 4 rfl) ?_
        subst hQ
        exact x_iret E hr hlk (h4) dX9_childrenAt_42
      · skip
        have hlt : i < nc := by have q9 := mt (nI_leI (a := nc) (b := i) (by omega) (by omega)).mpr c_12; omega
        obtain ⟨hfc, t0, t1, t2, t4, t5, t7, t8, t9, hcc, hchn, hmc⟩ := hCd i hlt
        refine lv_aload_n hx hb dX9_childrenAt_15 rfl (lv_at hl 0 rfl) ?_
        refine x_get E hw 0 0 (hx0) fz0 cl_9 ly_9 7 (by decide) tw_87 rfl dX9_childrenAt_16 ?_
        refine lv_iload hx hb dX9_childrenAt_19 (lv_at hl 5 rfl) ?_
        refine x_ald (v := .ref (ad 6 i)) E hw 4 rfl 2 0 (hx2) fz2 i (rfl) (by omega) (by decide) dX9_childrenAt_21 (by rw [(hCd i (by omega)).1]; rfl) ?_
        refine lv_iload_n hx hb dX9_childrenAt_22 rfl (lv_at hl 2 rfl) ?_
        refine lv_iload_n hx hb dX9_childrenAt_23 rfl (lv_at hl 3 rfl) ?_
        refine x_read (x_runV (rest := []) E cbX1_placeOn tw_284 (kX1_placeOn l D ca cnt ad ct  i _ _ _ _ _ _ _ _ _ _  a2 a3 (by omega) (hcc) (hchn)) ⟨rfl, rfl, by decide, by decide⟩ (x_recv E hw cl_1 (by omega) hcc) (fun _ _ _ _ h => h) (fun U hU _ => by rw [hU]; exact hw.1) rfl hl.1 rfl (Nat.le_of_ble_eq_true rfl) dX9_childrenAt_24 ⟨by decide, by decide⟩) ?_
        refine x_top (x := (plc a2 a3 ((ix i).map dt) (-1))) (y := (if mThere g i a2 a3 = true then (mWh g (nI i) a2 a3 nm).1 else -1)) (by rw [hmc]; exact plc_mch (by omega) (by omega) hIv (by omega) _ _) ?_
        refine lv_iload_n hx hb dX9_childrenAt_27 rfl (lv_at hl 1 rfl) ?_
        refine lv_icmp_ne (tgt := 34) hx hb dX9_childrenAt_28 (by decide) (fun c_28 => ?_) (fun c_28 => ?_)
        · skip
          have hc_w := mt (x_ite ha1).mpr c_28
          refine lv_iinc (v := (nI (i + 1))) (lv' := [(5, .int (nI (i + 1))), (0, .ref (ad 0 0)), (1, .int a1), (2, .int a2), (3, .int a3), (4, .int x4)]) hx hb dX9_childrenAt_34 hl (k := 5) rfl (nI_1 _) (by decide) rfl (fun ls hl => ?_)
          refine lv_goto (tgt := 6) hx hb dX9_childrenAt_37 (by decide) ?_
          exact ih6 (i + 1) x4 (hlt) (by rw [h4]; simp [mMany, nI_1, hc_w]) (by omega) ls (lv_sub hl [1, 2, 3, 4, 5, 0] (rfl))
        · skip
          have hc_w := (x_ite ha1).mp c_28
          refine lv_iinc (v := (x4 + 1)) (lv' := [(4, .int (x4 + 1)), (0, .ref (ad 0 0)), (1, .int a1), (2, .int a2), (3, .int a3), (5, .int (nI i))]) hx hb dX9_childrenAt_31 hl (k := 4) rfl (rfl) (by decide) rfl (fun ls hl => ?_)
          refine lv_iinc (v := (nI (i + 1))) (lv' := [(5, .int (nI (i + 1))), (4, .int (x4 + 1)), (0, .ref (ad 0 0)), (1, .int a1), (2, .int a2), (3, .int a3)]) hx hb dX9_childrenAt_34 hl (k := 5) rfl (nI_1 _) (by decide) rfl (fun ls hl => ?_)
          refine lv_goto (tgt := 6) hx hb dX9_childrenAt_37 (by decide) ?_
          exact ih6 (i + 1) (x4 + 1) (hlt) (by rw [h4]; simp [mMany, nI_1, hc_w]) (by omega) ls (lv_sub hl [2, 3, 4, 5, 1, 0] (rfl))
  exact lp6 (nc + 1) 0 0 (Nat.zero_le _) (rfl) (by omega) ls (lv_sub hl [2, 3, 4, 5, 1, 0] (rfl))
set_option maxHeartbeats 4000000 in
set_option maxRecDepth 100000 in
theorem kX9_isOver_G (l : Launch) (D : va_G) (ca : Nat → ClassId) (cnt : Nat → Nat) (ad : Nat → Nat → Nat) (ct : Nat → Nat → va_E) (g : Nat → Nat → Int32) (nw : Nat) (nc : Nat) (nm : Nat) (a1 : Int32) (a2 : Int32) (f3 : Nat) (hC : cRepG ca cnt ad ct g nw nc nm) (ha1 : ¬ a1 = -1) : Met l yX9_isOver (wz yX9_isOver cX9_isOver 7 (some .boolean)) (rmL 3 0 0) (va_Pc [.ref (ad 0 0), .int a1, .int a2, .int (nI f3)] (fun U => wq D cnt ad ct U.heap ∧ gK D ca U)) (QcRead (bB (cOv g nw nc nm a1 f3 a2))) 0 0 (fun _ => False) := by
  refine x_met (by decide) (Nat.le_of_ble_eq_true rfl) ?_
  intro p e s m below meth c E hr hlk hnm hq ls hl
  generalize hav : ([.ref (ad 0 0), .int a1, .int a2, .int (nI f3)] : List Value).toArray = args at E ⊢
  have hx := E.1
  have hb := E.2.1
  have hown := E.2.2.2.1
  have hts := E.2.2.2.2.1
  have hw : wd D (wA cnt ad s.heap.size) s.heap cnt ad ct s.heap [] := wd.start hq
  generalize hQ : MQ below (QcRead (bB (cOv g nw nc nm a1 f3 a2))) args s 0 0 (fun _ => False) = Q
  have hl : lv_has ls 7 [(0, .ref (ad 0 0)), (1, .int a1), (2, .int a2), (3, .int (nI f3))] := hl
  obtain ⟨hO5, hO6, hIv, hx0, hx2, hx3, ⟨x1, x3, x4, x5, tp, fz0⟩, hc6, ⟨fC, dt, ix, fz2, hCd⟩, hN⟩ := id hC
  obtain ⟨hn9, fN, lk, fz3, hNd⟩ := id hN
  refine lv_aload_n hx hb dX9_isOver_0 rfl (lv_at hl 0 rfl) ?_
  refine lv_iload_n hx hb dX9_isOver_1 rfl (lv_at hl 1 rfl) ?_
  refine lv_iload_n hx hb dX9_isOver_2 rfl (lv_at hl 3 rfl) ?_
  refine lv_aload_n hx hb dX9_isOver_3 rfl (lv_at hl 0 rfl) ?_
  refine x_get E hw 0 0 (hx0) fz0 cl_9 ly_9 0 (by decide) tw_80 rfl dX9_isOver_4 ?_
  refine x_read (x_runV (rest := []) E cbX9_childrenAt tw_280 (kX9_childrenAt_G l D ca cnt ad ct g nw nc nm   a1 (nI f3) (nI nw) (hC) (ha1)) ⟨rfl, rfl, by decide, by decide⟩ (x_recv E hw cl_9 (hx0) fz0) (fun _ _ _ _ h => h) (fun U hU _ => by rw [hU]; exact hw.1) rfl hl.1 rfl (Nat.le_of_ble_eq_true rfl) dX9_isOver_7 ⟨by decide, by decide⟩) ?_
  refine lv_iload_n hx hb dX9_isOver_10 rfl (lv_at hl 2 rfl) ?_
  refine lv_icmp_le (tgt := 16) hx hb dX9_isOver_11 (by decide) (fun c_11 => ?_) (fun c_11 => ?_)
  · skip
    refine lv_iconst (v := 0) hx hb dX9_isOver_16 (by decide) ?_
    refine lv_istore (lv' := [(4, .int 0), (0, .ref (ad 0 0)), (1, .int a1), (2, .int a2), (3, .int (nI f3))]) hx hb dX9_isOver_17 hl (by decide) rfl (fun ls hl => ?_)
    have lp19 : ∀ (n : Nat) (i : Nat), (i ≤ nc) → (anyB (fun c => (mch g c nm).any (cOvM g nw nc nm a1 f3 a2)) i = false) → (nc - i < n) → ∀ ls : Array Slot, lv_has ls 7 [(0, .ref (ad 0 0)), (1, .int a1), (2, .int a2), (3, .int (nI f3)), (4, .int (nI i))] → W p l e (rmL 3 0 0) s m args below meth c s.heap [] 0 0 Q (F0 m 19 ls []) := by
      intro n
      induction n with
      | zero =>
        intro i hi hn hfu ls hl
        exact absurd hfu (by omega)
      | succ n ih19 =>
        intro i hi hn hfu ls hl
        refine lv_iload hx hb dX9_isOver_19 (lv_at hl 4 rfl) ?_
        refine lv_aload_n hx hb dX9_isOver_21 rfl (lv_at hl 0 rfl) ?_
        refine x_get E hw 0 0 (hx0) fz0 cl_9 ly_9 2 (by decide) tw_82 rfl dX9_isOver_22 ?_
        refine lv_icmp_ge (tgt := 111) hx hb dX9_isOver_25 (by decide) (fun c_25 => ?_) (fun c_25 => ?_)
        · skip
          have hge : i = nc := by have q9 := (nI_leI (a := nc) (b := i) (by omega) (by omega)).mp c_25; omega
          rw [hge] at hn
          refine lv_iconst (v := 0) hx hb dX9_isOver_111 (by decide) ?_
          subst hQ
          exact x_zret E hr hlk (by decide) (by rw [cOv, hn]; simp [bB, c_11]) dX9_isOver_112
        · skip
          have hlt : i < nc := by have q9 := mt (nI_leI (a := nc) (b := i) (by omega) (by omega)).mpr c_25; omega
          obtain ⟨hfc, t0, t1, t2, t4, t5, t7, t8, t9, hcc, hchn, hmc⟩ := hCd i hlt
          refine lv_aload_n hx hb dX9_isOver_28 rfl (lv_at hl 0 rfl) ?_
          refine x_get E hw 0 0 (hx0) fz0 cl_9 ly_9 7 (by decide) tw_87 rfl dX9_isOver_29 ?_
          refine lv_iload hx hb dX9_isOver_32 (lv_at hl 4 rfl) ?_
          refine x_ald (v := .ref (ad 6 i)) E hw 4 rfl 2 0 (hx2) fz2 i (rfl) (by omega) (by decide) dX9_isOver_34 (by rw [(hCd i (by omega)).1]; rfl) ?_
          refine x_get E hw 6 i (by omega) hcc cl_1 ly_1 6 (by decide) tw_241 rfl dX9_isOver_35 ?_
          refine x_astoreQ (lv' := [(5, va_rf (Option.map (ad 8) ((ix i)[0]?))), (0, .ref (ad 0 0)), (1, .int a1), (2, .int a2), (3, .int (nI f3)), (4, .int (nI i))]) hx hb dX9_isOver_38 hl (by decide) rfl (fun ls hl => ?_)
          have lp40 : ∀ (n : Nat) (z : Nat), ((((ix i).map dt).drop z).any (cOvM g nw nc nm a1 f3 a2) = (mch g i nm).any (cOvM g nw nc nm a1 f3 a2)) → ((ix i).length - z < n) → ∀ ls : Array Slot, lv_has ls 7 [(0, .ref (ad 0 0)), (1, .int a1), (2, .int a2), (3, .int (nI f3)), (4, .int (nI i)), (5, va_rf (Option.map (ad 8) ((ix i)[z]?)))] → W p l e (rmL 3 0 0) s m args below meth c s.heap [] 0 0 Q (F0 m 40 ls []) := by
            intro n
            induction n with
            | zero =>
              intro z hz hfu ls hl
              exact absurd hfu (by omega)
            | succ n ih40 =>
              intro z hz hfu ls hl
              refine x_aloadQ hx hb dX9_isOver_40 (lv_at hl 5 rfl) ?_
              rcases x_opt ((ix i)[z]?) with hn42 | ⟨k, hi42⟩
              · skip
                rw [hn42]
                rw [hn42] at hl
                have hl : lv_has ls 7 [(0, .ref (ad 0 0)), (1, .int a1), (2, .int a2), (3, .int (nI f3)), (4, .int (nI i)), (5, .null)] := hl
                refine lv_ifnullN (tgt := 105) hx hb dX9_isOver_42 (by decide) ?_
                refine lv_iinc (v := (nI (i + 1))) (lv' := [(4, .int (nI (i + 1))), (0, .ref (ad 0 0)), (1, .int a1), (2, .int a2), (3, .int (nI f3)), (5, .null)]) hx hb dX9_isOver_105 hl (k := 4) rfl (nI_1 _) (by decide) rfl (fun ls hl => ?_)
                refine lv_goto (tgt := 19) hx hb dX9_isOver_108 (by decide) ?_
                exact ih19 (i + 1) (hlt) (by rw [anyB, hn, ← hz, drop_none hn42]; rfl) (by omega) ls (lv_sub hl [1, 2, 3, 4, 0] (rfl))
              · skip
                rw [hi42]
                rw [hi42] at hl
                have hl : lv_has ls 7 [(0, .ref (ad 0 0)), (1, .int a1), (2, .int a2), (3, .int (nI f3)), (4, .int (nI i)), (5, .ref (ad 8 k))] := hl
                refine lv_ifnull hx hb dX9_isOver_42 ?_
                obtain ⟨hil, hic⟩ := hchn z k hi42
                refine lv_aload hx hb dX9_isOver_45 (lv_at hl 5 rfl) ?_
                refine x_get E hw 8 k (hil) hic cl_5 ly_5 0 (by decide) tw_208 rfl dX9_isOver_47 ?_
                refine lv_iload_n hx hb dX9_isOver_50 rfl (lv_at hl 1 rfl) ?_
                refine lv_icmp_ne (tgt := 67) hx hb dX9_isOver_51 (by decide) (fun c_51 => ?_) (fun c_51 => ?_)
                · skip
                  refine lv_iconst (v := 0) hx hb dX9_isOver_67 (by decide) ?_
                  refine lv_istore (lv' := [(6, .int 0), (0, .ref (ad 0 0)), (1, .int a1), (2, .int a2), (3, .int (nI f3)), (4, .int (nI i)), (5, .ref (ad 8 k))]) hx hb dX9_isOver_68 hl (by decide) rfl (fun ls hl => ?_)
                  refine lv_iload hx hb dX9_isOver_70 (lv_at hl 0 rfl) ?_
                  refine lv_if_eq (tgt := 95) hx hb dX9_isOver_72 (by decide) (fun c_72 => ?_) (fun c_72 => ?_)
                  · skip
                    refine lv_aload hx hb dX9_isOver_95 (lv_at hl 6 rfl) ?_
                    refine x_get E hw 8 k (hil) hic cl_5 ly_5 3 (by decide) tw_215 rfl dX9_isOver_97 ?_
                    refine x_astoreQ (lv' := [(5, va_rf (Option.map (ad 8) ((ix i)[z + 1]?))), (6, .int 0), (0, .ref (ad 0 0)), (1, .int a1), (2, .int a2), (3, .int (nI f3)), (4, .int (nI i))]) hx hb dX9_isOver_100 hl (by decide) rfl (fun ls hl => ?_)
                    refine lv_goto (tgt := 40) hx hb dX9_isOver_102 (by decide) ?_
                    exact ih40 (z + 1) (by rw [← hz, drop_some hi42, List.any_cons, show cOvM g nw nc nm a1 f3 a2 (dt k) = false from (by first | (simp [cOvM, c_51]; done) | (simp [cOvM, Int32.not_lt.mpr c_60]; done) | (simp [cOvM, Int32.not_lt.mpr c_90]; done)), Bool.false_or]) (by have := len_some hi42; omega) ls (lv_sub hl [2, 3, 4, 5, 6, 0] (rfl))
                  · skip
                    exact absurd c_72 (by decide)
                · skip
                  refine lv_aload hx hb dX9_isOver_54 (lv_at hl 5 rfl) ?_
                  refine x_get E hw 8 k (hil) hic cl_5 ly_5 1 (by decide) tw_211 rfl dX9_isOver_56 ?_
                  refine lv_iload_n hx hb dX9_isOver_59 rfl (lv_at hl 3 rfl) ?_
                  refine lv_icmp_le (tgt := 67) hx hb dX9_isOver_60 (by decide) (fun c_60 => ?_) (fun c_60 => ?_)
                  · skip
                    refine lv_iconst (v := 0) hx hb dX9_isOver_67 (by decide) ?_
                    refine lv_istore (lv' := [(6, .int 0), (0, .ref (ad 0 0)), (1, .int a1), (2, .int a2), (3, .int (nI f3)), (4, .int (nI i)), (5, .ref (ad 8 k))]) hx hb dX9_isOver_68 hl (by decide) rfl (fun ls hl => ?_)
                    refine lv_iload hx hb dX9_isOver_70 (lv_at hl 0 rfl) ?_
                    refine lv_if_eq (tgt := 95) hx hb dX9_isOver_72 (by decide) (fun c_72 => ?_) (fun c_72 => ?_)
                    · skip
                      refine lv_aload hx hb dX9_isOver_95 (lv_at hl 6 rfl) ?_
                      refine x_get E hw 8 k (hil) hic cl_5 ly_5 3 (by decide) tw_215 rfl dX9_isOver_97 ?_
                      refine x_astoreQ (lv' := [(5, va_rf (Option.map (ad 8) ((ix i)[z + 1]?))), (6, .int 0), (0, .ref (ad 0 0)), (1, .int a1), (2, .int a2), (3, .int (nI f3)), (4, .int (nI i))]) hx hb dX9_isOver_100 hl (by decide) rfl (fun ls hl => ?_)
                      refine lv_goto (tgt := 40) hx hb dX9_isOver_102 (by decide) ?_
                      exact ih40 (z + 1) (by rw [← hz, drop_some hi42, List.any_cons, show cOvM g nw nc nm a1 f3 a2 (dt k) = false from (by first | (simp [cOvM, c_51]; done) | (simp [cOvM, Int32.not_lt.mpr c_60]; done) | (simp [cOvM, Int32.not_lt.mpr c_90]; done)), Bool.false_or]) (by have := len_some hi42; omega) ls (lv_sub hl [2, 3, 4, 5, 6, 0] (rfl))
                    · skip
                      exact absurd c_72 (by decide)
                  · skip
                    refine lv_iconst (v := 1) hx hb dX9_isOver_63 (by decide) ?_
                    refine lv_goto (tgt := 68) hx hb dX9_isOver_64 (by decide) ?_
                    refine lv_istore (lv' := [(6, .int 1), (0, .ref (ad 0 0)), (1, .int a1), (2, .int a2), (3, .int (nI f3)), (4, .int (nI i)), (5, .ref (ad 8 k))]) hx hb dX9_isOver_68 hl (by decide) rfl (fun ls hl => ?_)
                    refine lv_iload hx hb dX9_isOver_70 (lv_at hl 0 rfl) ?_
                    refine lv_if_eq (tgt := 95) hx hb dX9_isOver_72 (by decide) (fun c_72 => ?_) (fun c_72 => ?_)
                    · skip
                      exact absurd c_72 (by decide)
                    · skip
                      refine lv_aload_n hx hb dX9_isOver_75 rfl (lv_at hl 1 rfl) ?_
                      refine lv_iload_n hx hb dX9_isOver_76 rfl (lv_at hl 2 rfl) ?_
                      refine lv_aload hx hb dX9_isOver_77 (lv_at hl 6 rfl) ?_
                      refine x_get E hw 8 k (hil) hic cl_5 ly_5 1 (by decide) tw_211 rfl dX9_isOver_79 ?_
                      refine lv_aload_n hx hb dX9_isOver_82 rfl (lv_at hl 1 rfl) ?_
                      refine x_get E hw 0 0 (hx0) fz0 cl_9 ly_9 0 (by decide) tw_80 rfl dX9_isOver_83 ?_
                      refine x_read (x_runV (rest := []) E cbX9_childrenAt tw_280 (kX9_childrenAt_G l D ca cnt ad ct g nw nc nm   a1 ((dt k).2.1) (nI nw) (hC) (ha1)) ⟨rfl, rfl, by decide, by decide⟩ (x_recv E hw cl_9 (hx0) fz0) (fun _ _ _ _ h => h) (fun U hU _ => by rw [hU]; exact hw.1) rfl hl.1 rfl (Nat.le_of_ble_eq_true rfl) dX9_isOver_86 ⟨by decide, by decide⟩) ?_
                      refine lv_iload_n hx hb dX9_isOver_89 rfl (lv_at hl 3 rfl) ?_
                      refine lv_icmp_le (tgt := 95) hx hb dX9_isOver_90 (by decide) (fun c_90 => ?_) (fun c_90 => ?_)
                      · skip
                        refine lv_aload hx hb dX9_isOver_95 (lv_at hl 6 rfl) ?_
                        refine x_get E hw 8 k (hil) hic cl_5 ly_5 3 (by decide) tw_215 rfl dX9_isOver_97 ?_
                        refine x_astoreQ (lv' := [(5, va_rf (Option.map (ad 8) ((ix i)[z + 1]?))), (6, .int 1), (0, .ref (ad 0 0)), (1, .int a1), (2, .int a2), (3, .int (nI f3)), (4, .int (nI i))]) hx hb dX9_isOver_100 hl (by decide) rfl (fun ls hl => ?_)
                        refine lv_goto (tgt := 40) hx hb dX9_isOver_102 (by decide) ?_
                        exact ih40 (z + 1) (by rw [← hz, drop_some hi42, List.any_cons, show cOvM g nw nc nm a1 f3 a2 (dt k) = false from (by first | (simp [cOvM, c_51]; done) | (simp [cOvM, Int32.not_lt.mpr c_60]; done) | (simp [cOvM, Int32.not_lt.mpr c_90]; done)), Bool.false_or]) (by have := len_some hi42; omega) ls (lv_sub hl [2, 3, 4, 5, 6, 0] (rfl))
                      · skip
                        refine lv_iconst (v := 1) hx hb dX9_isOver_93 (by decide) ?_
                        subst hQ
                        exact x_zret E hr hlk (by decide) (by have hx9 : (mch g i nm).any (cOvM g nw nc nm a1 f3 a2) = true := (by rw [← hz, drop_some hi42, List.any_cons]; simp [cOvM, Int32.not_le.mp c_60, Int32.not_le.mp c_90, c_51]); rw [cOv, Bool.or_comm, anyB_at hlt hx9]; rfl) dX9_isOver_94
          exact lp40 ((ix i).length + 1) 0 (by rw [hmc]; rfl) (by omega) ls (lv_sub hl [1, 2, 3, 4, 5, 0] (rfl))
    exact lp19 (nc + 1) 0 (Nat.zero_le _) (rfl) (by omega) ls (lv_sub hl [1, 2, 3, 4, 0] (rfl))
  · skip
    refine lv_iconst (v := 1) hx hb dX9_isOver_14 (by decide) ?_
    subst hQ
    exact x_zret E hr hlk (by decide) (by simp [bB, cOv, Int32.not_le.mp c_11]) dX9_isOver_15
set_option maxHeartbeats 4000000 in
set_option maxRecDepth 100000 in
theorem kX9_move (l : Launch) (D : va_G) (ca : Nat → ClassId) (cnt : Nat → Nat) (ad : Nat → Nat → Nat) (ct : Nat → Nat → va_E) (z9 : Nat) (v : Nat → Int32) (g : Nat → Nat → Int32) (nw : Nat) (nb : Nat) (nc : Nat) (nm : Nat) (a1 : Int32) (a2 : Int32) (a3 : Int32) (hC : cRep ca cnt ad ct v g nw nb nc nm) : Met l yX9_move (wz yX9_move cX9_move 8 (some .boolean)) (rmL 4 1 4) (va_Pc [.ref (ad 0 0), .int a1, .int a2, .int a3] (fun U => (U.heap.size = z9 ∧ wq D cnt ad ct U.heap) ∧ gK D ca U)) (QcW D (wA cnt ad z9) (fun rv u => rv = some (.int (mMoveW v g nw nc nm a1 a2 a3).1) ∧ cRepE ca u.1 u.2.1 u.2.2 (mMoveW v g nw nc nm a1 a2 a3).2.1 (mMoveW v g nw nc nm a1 a2 a3).2.2 ∧ u.2.1 0 0 = ad 0 0)) 1 4 (wA cnt ad z9) := by
  refine x_met (by decide) (Nat.le_of_ble_eq_true rfl) ?_
  intro p e s m below meth c E hr hlk hnm hq ls hl
  obtain ⟨hsz9, hq⟩ := hq
  subst hsz9
  generalize hav : ([.ref (ad 0 0), .int a1, .int a2, .int a3] : List Value).toArray = args at E ⊢
  have hx := E.1
  have hb := E.2.1
  have hown := E.2.2.2.1
  have hts := E.2.2.2.2.1
  have hw : wd D (wA cnt ad s.heap.size) s.heap cnt ad ct s.heap [] := wd.start hq
  generalize hQ : MQ below (QcW D (wA cnt ad s.heap.size) (fun rv u => rv = some (.int (mMoveW v g nw nc nm a1 a2 a3).1) ∧ cRepE ca u.1 u.2.1 u.2.2 (mMoveW v g nw nc nm a1 a2 a3).2.1 (mMoveW v g nw nc nm a1 a2 a3).2.2 ∧ u.2.1 0 0 = ad 0 0)) args s 1 4 (wA cnt ad s.heap.size) = Q
  generalize hA9 : wA cnt ad s.heap.size = A at hw hQ
  have hl : lv_has ls 8 [(0, .ref (ad 0 0)), (1, .int a1), (2, .int a2), (3, .int a3)] := hl
  obtain ⟨hO, hIv, tp, htp, hX, hT, hB, hCc, hN⟩ := id hC
  obtain ⟨hx0, hx1, hx2, hx3, fz0⟩ := id hX
  have hO5 := hO.2.2.2.2
  obtain ⟨hb4, hb5, fB, fz1, hBd⟩ := id hB
  obtain ⟨hc6, hc7, fC, dt, ow, ix, ak, fz2, hCd⟩ := id hCc
  obtain ⟨hn9, fN, lk, fz3, hNd⟩ := id hN
  obtain ⟨ht13, ht14, ht11, ht12, szq, nq, nrq, rtq, bq0, bq1, vsq, pq1, pq2, hsz, hsz2, hnq, hnr, hrt, fz11, fz11b, fz12, fz12b, fz13, fz14, hby, hrl⟩ := id hT
  suffices hgo : ∀ (H : Heap) (locs : List Loc), wd D A s.heap cnt ad ct H locs → W p l e (rmL 4 1 4) s m args below meth c H locs 0 0 Q (F0 m 0 ls []) from hgo _ _ hw
  clear hw
  intro H locs hw
  refine lv_aload_n hx hb dX9_move_0 rfl (lv_at hl 0 rfl) ?_
  refine lv_iload_n hx hb dX9_move_1 rfl (lv_at hl 1 rfl) ?_
  refine x_readq (x_runV (rest := []) E cbX9_findChild tw_292 (kX9_findChild l D ca cnt ad ct v g nw nb nc nm   a1 (hC)) ⟨rfl, rfl, by decide, by decide⟩ (x_recv E hw cl_9 (hx0) fz0) (fun _ _ _ _ h => h) (fun U hU _ => by rw [hU]; exact hw.1) rfl hl.1 rfl (Nat.le_of_ble_eq_true rfl) dX9_move_2 ⟨by decide, by decide⟩) ?_
  refine x_astoreQ (lv' := [(4, va_rf (Option.map (ad 6) (fdB nc a1))), (0, .ref (ad 0 0)), (1, .int a1), (2, .int a2), (3, .int a3)]) hx hb dX9_move_5 hl (by decide) rfl (fun ls hl => ?_)
  refine x_aloadQ hx hb dX9_move_7 (lv_at hl 0 rfl) ?_
  rcases x_opt (fdB nc a1) with hn9 | ⟨j, hi9⟩
  · skip
    rw [hn9]
    rw [hn9] at hl
    have hl : lv_has ls 8 [(4, .null), (0, .ref (ad 0 0)), (1, .int a1), (2, .int a2), (3, .int a3)] := hl
    refine lv_ifnullN (tgt := 35) hx hb dX9_move_9 (by decide) ?_
    refine lv_iconst (v := 0) hx hb dX9_move_35 (by decide) ?_
    subst hQ
    exact x_zretW E hr hlk (by decide) hw (by decide) (by decide) (addA (rfl) (cw_post (by first | (simp [mMoveW, mMoveOK, fdB_none hn9]; done) | simp [mMoveW, mMoveOK, hIj, nI_clamp (n := j) (by omega), hn9]) ⟨nw, nb, nc, nm, hC⟩)) dX9_move_36
  · skip
    rw [hi9]
    rw [hi9] at hl
    have hl : lv_has ls 8 [(4, .ref (ad 6 j)), (0, .ref (ad 0 0)), (1, .int a1), (2, .int a2), (3, .int a3)] := hl
    refine lv_ifnull hx hb dX9_move_9 ?_
    obtain ⟨hj, rfl, hIj⟩ := fdB_some (by omega) hi9
    obtain ⟨hfc, hcc, hhc, hchn, hmc, hak, how, hnd⟩ := hCd j hj
    refine lv_iload_n hx hb dX9_move_12 rfl (lv_at hl 3 rfl) ?_
    refine x_read (x_runS (rest := []) E cbX9_isPlace tw_296 (kX9_isPlace l D ca a2 ) ⟨rfl, rfl, by decide, by decide⟩ (fun _ _ _ _ h => h) (fun _ _ _ => trivial) rfl hl.1 rfl (Nat.le_of_ble_eq_true rfl) dX9_move_13 ⟨by decide, by decide⟩) ?_
    refine lv_if_eq (tgt := 35) hx hb dX9_move_16 (by decide) (fun c_16 => ?_) (fun c_16 => ?_)
    · skip
      have c_16 := bB_0.mp c_16
      refine lv_iconst (v := 0) hx hb dX9_move_35 (by decide) ?_
      subst hQ
      exact x_zretW E hr hlk (by decide) hw (by decide) (by decide) (addA (rfl) (cw_post (by first | (simp [mMoveW, mMoveOK, fdB_none hn9]; done) | simp [mMoveW, mMoveOK, hIj, nI_clamp (n := j) (by omega), hi9, c_16]) ⟨nw, nb, nc, nm, hC⟩)) dX9_move_36
    · skip
      have c_16 := bB_n0.mp c_16
      obtain ⟨p2, -, hp2, rfl⟩ := isIn_rng (lo := 0) (hi := 15) (by decide) (by decide) c_16
      obtain ⟨d9, hd9, hd9e⟩ := hIv.1 j hj
      refine lv_iload_n hx hb dX9_move_19 rfl (lv_at hl 4 rfl) ?_
      refine lv_aload hx hb dX9_move_20 (lv_at hl 0 rfl) ?_
      refine x_get E hw 6 j (by omega) hcc cl_1 ly_1 0 (by decide) tw_227 rfl dX9_move_22 ?_
      refine lv_aload_n hx hb dX9_move_25 rfl (lv_at hl 1 rfl) ?_
      refine x_get E hw 0 0 (hx0) fz0 cl_9 ly_9 0 (by decide) tw_80 rfl dX9_move_26 ?_
      refine x_read (x_runS (rest := []) E cbX9_within tw_121 (kX9_within l D ca a3 (g 9 j) (nI nw) ) ⟨rfl, rfl, by decide, by decide⟩ (fun _ _ _ _ h => h) (fun _ _ _ => trivial) rfl hl.1 rfl (Nat.le_of_ble_eq_true rfl) dX9_move_29 ⟨by decide, by decide⟩) ?_
      refine lv_if_ne (tgt := 37) hx hb dX9_move_32 (by decide) (fun c_32 => ?_) (fun c_32 => ?_)
      · skip
        have c_32 := bB_n0.mp c_32
        obtain ⟨f3, hf3, hf4, rfl⟩ := isIn_rng (lo := d9) (hi := nw) (by omega) (by omega) (by rw [← hd9e]; exact c_32)
        have hgo := gone_eq hO5.1 (by omega) hIv hj hd9e hf3 hf4
        refine lv_aload_n hx hb dX9_move_37 rfl (lv_at hl 1 rfl) ?_
        refine x_get E hw 0 0 (hx0) fz0 cl_9 ly_9 3 (by decide) tw_83 rfl dX9_move_38 ?_
        refine lv_sipush (v := 300) hx hb dX9_move_41 (by decide) ?_
        refine lv_icmp_ge (tgt := 57) hx hb dX9_move_44 (by decide) (fun c_44 => ?_) (fun c_44 => ?_)
        · skip
          have hn3 : nm = 300 := (by have q9 := (nI_leI (a := 300) (b := nm) (by decide) (by omega)).mp c_44; omega)
          refine lv_iconst (v := 0) hx hb dX9_move_57 (by decide) ?_
          subst hQ
          exact x_zretW E hr hlk (by decide) hw (by decide) (by decide) (addA (rfl) (cw_post (by simp [mMoveW, mMoveOK, hn3]) ⟨nw, nb, nc, nm, hC⟩)) dX9_move_58
        · skip
          have hn3 : ¬ nm = 300 := fun q => c_44 (by rw [q]; decide)
          refine lv_aload_n hx hb dX9_move_47 rfl (lv_at hl 1 rfl) ?_
          refine lv_aload hx hb dX9_move_48 (lv_at hl 0 rfl) ?_
          refine lv_iload_n hx hb dX9_move_50 rfl (lv_at hl 4 rfl) ?_
          refine x_read (x_runV (rest := []) E cbX9_isGone tw_299 (kX9_isGone l D ca cnt ad ct v g nw nb nc nm   j (nI f3) (hC) (hj)) ⟨rfl, rfl, by decide, by decide⟩ (x_recv E hw cl_9 (hx0) fz0) (fun _ _ _ _ h => h) (fun U hU _ => by rw [hU]; exact hw.1) rfl hl.1 rfl (Nat.le_of_ble_eq_true rfl) dX9_move_51 ⟨by decide, by decide⟩) ?_
          refine lv_if_eq (tgt := 59) hx hb dX9_move_54 (by decide) (fun c_54 => ?_) (fun c_54 => ?_)
          · skip
            have c_54 := bB_0.mp c_54
            have hg14 : ¬ plc (nI f3) (nI nw) (mch g j nm) (-1) = 14 := fun q => by simp [cGone, q] at c_54
            have hg15 : ¬ plc (nI f3) (nI nw) (mch g j nm) (-1) = 15 := fun q => by simp [cGone, q] at c_54
            obtain ⟨r9, hr9, -⟩ := mch_cons hO5.1 (by omega) hIv hj nm (Nat.le_refl _)
            have hmr := hmc.trans hr9
            obtain ⟨⟨i0, hi0⟩, z9, b9, hz9, hzr, hzl, hb9⟩ := lu_get (d := nI f3) hmr
            obtain ⟨hbl9, hbc9⟩ := hchn z9 b9 hb9
            refine lv_aload hx hb dX9_move_59 (lv_at hl 0 rfl) ?_
            refine lv_iload_n hx hb dX9_move_61 rfl (lv_at hl 4 rfl) ?_
            refine x_readq (x_runV (rest := []) E cbX1_lastUpTo tw_303 (kX1_lastUpTo l D ca cnt ad ct  j _ _ _ _ _ _ _ _ (ix j) dt i0 (nI f3) (by omega) (hcc) (hchn) (hi0)) ⟨rfl, rfl, by decide, by decide⟩ (x_recv E hw cl_1 (by omega) hcc) (fun _ _ _ _ h => h) (fun U hU _ => by rw [hU]; exact hw.1) rfl hl.1 rfl (Nat.le_of_ble_eq_true rfl) dX9_move_62 ⟨by decide, by decide⟩) ?_
            rw [hz9, hb9]
            refine lv_astore (lv' := [(5, .ref (ad 8 b9)), (4, .ref (ad 6 j)), (0, .ref (ad 0 0)), (1, .int (nI j)), (2, .int (nI p2)), (3, .int (nI f3))]) hx hb dX9_move_65 hl (by decide) rfl (fun ls hl => ?_)
            refine x_new (fs := [.int 0, .int 0, .int 0, .null]) E hw 8 cl_5 ly_5 tyX5 tyX5_ok tw_307 tw_201 tw_10 df_5 (by decide) (by decide) dX9_move_67 (fun q9 H hw => ?_)
            generalize hix1 : cnt 8 = i1 at hw
            generalize hcn1 : va_up cnt 8 (i1 + 1) = cnt1 at hw
            generalize han1 : upd2 ad 8 i1 q9 = ad1 at hw
            generalize hct1 : upd2 ct 8 i1 (.inr (5, [.int 0, .int 0, .int 0, .null])) = ct1 at hw
            have hqq1 : q9 = ad1 8 i1 := by rw [← han1, upd2_at]
            subst hqq1
            have hcn1_0 : cnt1 0 = cnt 0 := by rw [← hcn1, va_up_ne _ _ (by decide)]
            have hcn1_1 : cnt1 1 = cnt 1 := by rw [← hcn1, va_up_ne _ _ (by decide)]
            have hcn1_2 : cnt1 2 = cnt 2 := by rw [← hcn1, va_up_ne _ _ (by decide)]
            have hcn1_3 : cnt1 3 = cnt 3 := by rw [← hcn1, va_up_ne _ _ (by decide)]
            have hcn1_4 : cnt1 4 = cnt 4 := by rw [← hcn1, va_up_ne _ _ (by decide)]
            have hcn1_5 : cnt1 5 = cnt 5 := by rw [← hcn1, va_up_ne _ _ (by decide)]
            have hcn1_6 : cnt1 6 = cnt 6 := by rw [← hcn1, va_up_ne _ _ (by decide)]
            have hcn1_7 : cnt1 7 = cnt 7 := by rw [← hcn1, va_up_ne _ _ (by decide)]
            have hcn1_8 : cnt1 8 = cnt 8 + 1 := by rw [← hcn1, va_up_self, hix1]
            have hcn1_9 : cnt1 9 = cnt 9 := by rw [← hcn1, va_up_ne _ _ (by decide)]
            have hcn1_10 : cnt1 10 = cnt 10 := by rw [← hcn1, va_up_ne _ _ (by decide)]
            have hcn1_11 : cnt1 11 = cnt 11 := by rw [← hcn1, va_up_ne _ _ (by decide)]
            have hcn1_12 : cnt1 12 = cnt 12 := by rw [← hcn1, va_up_ne _ _ (by decide)]
            have hcn1_13 : cnt1 13 = cnt 13 := by rw [← hcn1, va_up_ne _ _ (by decide)]
            have hcn1_14 : cnt1 14 = cnt 14 := by rw [← hcn1, va_up_ne _ _ (by decide)]
            have hcn1_15 : cnt1 15 = cnt 15 := by rw [← hcn1, va_up_ne _ _ (by decide)]
            have hcn1_16 : cnt1 16 = cnt 16 := by rw [← hcn1, va_up_ne _ _ (by decide)]
            have hcn1_17 : cnt1 17 = cnt 17 := by rw [← hcn1, va_up_ne _ _ (by decide)]
            have hag1 : ∀ k i, i < cnt k → ad k i = ad1 k i := fun k i hi => by rw [← han1]; by_cases hk : k = 8; subst hk; exact (upd2_i _ _ _ (by omega)).symm; exact (upd2_k _ _ _ _ hk).symm
            have hcg1 : ∀ k i, i < cnt k → ct1 k i = ct k i := fun k i hi => by rw [← hct1]; by_cases hk : k = 8; subst hk; exact upd2_i _ _ _ (by omega); exact upd2_k _ _ _ _ hk
            have hle1 : ∀ k, cnt k ≤ cnt1 k := fun k => by rw [← hcn1]; by_cases hk : k = 8; subst hk; rw [va_up_self]; omega; rw [va_up_ne _ _ hk]; exact Nat.le_refl _
            have fa1 : ct1 0 0 = .inr (9, [.int (nI nw), .int (nI nb), .int (nI nc), .int (nI nm), .int (v 4), .int (v 5), .ref (ad 1 0), .ref (ad 2 0), .ref (ad 3 0), .ref (ad 11 tp), .ref (ad 11 (1 - tp)), .ref (ad 13 0)]) := by rw [hcg1 0 0 (hx0)]; exact fz0
            have fa2 : ct1 1 0 = .inl (ca 3, 50, aQ fB) := by rw [hcg1 1 0 (hx1)]; exact fz1
            have fa3 : ct1 2 0 = .inl (ca 4, 60, aQ fC) := by rw [hcg1 2 0 (hx2)]; exact fz2
            have fa4 : ct1 3 0 = .inl (ca 5, 13, aQ fN) := by rw [hcg1 3 0 (hx3)]; exact fz3
            have fa5 : ct1 11 tp = .inr (8, [.ref (ad 12 tp), .int (nI szq)]) := by rw [hcg1 11 tp (by omega)]; exact fz11
            have fa6 : ct1 8 b9 = .inr (5, [.int ((dt b9).1), .int ((dt b9).2.1), .int ((dt b9).2.2), va_rf (Option.map (ad 8) ((ix j)[z9 + 1]?))]) := by rw [hcg1 8 b9 (hbl9)]; exact hbc9
            have fa7 : ct1 6 j = .inr (1, [.int (g 9 j), .int (g 10 j), .int (g 11 j), .ref (ad 7 j), .int (g 14 j), .int (g 15 j), va_rf (Option.map (ad 8) ((ix j)[0]?)), .int (nI (mCnt g (nI j) nm)), .int (g 16 j), .int (ak j)]) := by rw [hcg1 6 j (by omega)]; exact hcc
            have fa8 : ct1 7 j = .inr (3, [.int (g 12 j), .int (g 13 j)]) := by rw [hcg1 7 j (by omega)]; exact hhc
            have fa9 : ct1 8 i1 = .inr (5, [.int 0, .int 0, .int 0, .null]) := by rw [← hct1, upd2_at]
            have hin1 : i1 < cnt1 8 := by omega
            refine lv_dup hx hb dX9_move_70 rfl ?_
            refine lv_iload_n hx hb dX9_move_71 rfl (lv_at hl 4 rfl) ?_
            refine lv_iload_n hx hb dX9_move_72 rfl (lv_at hl 5 rfl) ?_
            refine lv_aload_n hx hb dX9_move_73 rfl (lv_at hl 2 rfl) ?_
            have ev74_0 : ad 0 0 = ad1 0 0 := hag1 0 0 (by omega)
            refine W.eq (g2 := F0 m 74 ls [.ref (ad1 0 0), .int (nI f3), .int (nI p2), .ref (ad1 8 i1), .ref (ad1 8 i1)]) (by rw [ev74_0]) ?_
            refine x_get E hw 0 0 (Nat.lt_of_lt_of_le (hx0) (hle1 _)) fa1 cl_9 ly_9 0 (by decide) tw_80 rfl dX9_move_74 ?_
            refine x_wrote hw (x_runI (rest := [.ref (ad1 8 i1)]) E cbX5_init tw_308 (kX5_init l D ca cnt1 ad1 ct1 H.size  i1  (nI p2) (nI f3) (nI nw) (hin1) (fa9)) ⟨rfl, rfl, by decide, by decide⟩ (fun _ _ _ _ h => h) (fun U hU _ => by rw [hU]; exact ⟨rfl, hw.1⟩) rfl hl.1 rfl (Nat.le_of_ble_eq_true rfl) dX9_move_77 ⟨by decide, by decide⟩) (fun rv9 u9 H locs hp9 hw hz9 hk9 => ?_)
            obtain ⟨hrv9, hu9⟩ := hp9
            subst hrv9
            subst hu9
            dsimp only [Option.toList, List.nil_append] at hw ⊢
            generalize hct2 : upd2 ct1 8 i1 (.inr (5, [.int (nI p2), .int (nI f3), .int (nI nw), .null])) = ct2 at hw
            have fa10 : ct2 0 0 = .inr (9, [.int (nI nw), .int (nI nb), .int (nI nc), .int (nI nm), .int (v 4), .int (v 5), .ref (ad 1 0), .ref (ad 2 0), .ref (ad 3 0), .ref (ad 11 tp), .ref (ad 11 (1 - tp)), .ref (ad 13 0)]) := by rw [← hct2, upd2_k _ _ _ _ (by decide)]; exact fa1
            have fa11 : ct2 1 0 = .inl (ca 3, 50, aQ fB) := by rw [← hct2, upd2_k _ _ _ _ (by decide)]; exact fa2
            have fa12 : ct2 2 0 = .inl (ca 4, 60, aQ fC) := by rw [← hct2, upd2_k _ _ _ _ (by decide)]; exact fa3
            have fa13 : ct2 3 0 = .inl (ca 5, 13, aQ fN) := by rw [← hct2, upd2_k _ _ _ _ (by decide)]; exact fa4
            have fa14 : ct2 11 tp = .inr (8, [.ref (ad 12 tp), .int (nI szq)]) := by rw [← hct2, upd2_k _ _ _ _ (by decide)]; exact fa5
            have fa15 : ct2 8 b9 = .inr (5, [.int ((dt b9).1), .int ((dt b9).2.1), .int ((dt b9).2.2), va_rf (Option.map (ad 8) ((ix j)[z9 + 1]?))]) := by rw [← hct2, upd2_i _ _ _ (by omega)]; exact fa6
            have fa16 : ct2 6 j = .inr (1, [.int (g 9 j), .int (g 10 j), .int (g 11 j), .ref (ad 7 j), .int (g 14 j), .int (g 15 j), va_rf (Option.map (ad 8) ((ix j)[0]?)), .int (nI (mCnt g (nI j) nm)), .int (g 16 j), .int (ak j)]) := by rw [← hct2, upd2_k _ _ _ _ (by decide)]; exact fa7
            have fa17 : ct2 7 j = .inr (3, [.int (g 12 j), .int (g 13 j)]) := by rw [← hct2, upd2_k _ _ _ _ (by decide)]; exact fa8
            have fa18 : ct2 8 i1 = .inr (5, [.int (nI p2), .int (nI f3), .int (nI nw), .null]) := by rw [← hct2, upd2_at]; try rfl
            refine lv_astore (lv' := [(6, .ref (ad1 8 i1)), (5, .ref (ad 8 b9)), (4, .ref (ad 6 j)), (0, .ref (ad 0 0)), (1, .int (nI j)), (2, .int (nI p2)), (3, .int (nI f3))]) hx hb dX9_move_80 hl (by decide) rfl (fun ls hl => ?_)
            refine lv_aload hx hb dX9_move_82 (lv_at hl 0 rfl) ?_
            refine lv_aload hx hb dX9_move_84 (lv_at hl 1 rfl) ?_
            have ev86_0 : ad 8 b9 = ad1 8 b9 := hag1 8 b9 (by omega)
            refine W.eq (g2 := F0 m 86 ls [.ref (ad1 8 b9), .ref (ad1 8 i1)]) (by rw [ev86_0]) ?_
            refine x_get E hw 8 b9 (Nat.lt_of_lt_of_le (hbl9) (hle1 _)) fa15 cl_5 ly_5 3 (by decide) tw_215 rfl dX9_move_86 ?_
            refine x_put E hw 8 i1 (hin1) fa18 cl_5 ly_5 tyX5 tyX5_ok nmX5 3 (by decide) tw_215 (Or.inl rfl) (by exact x_rfn _) (by exact x_rff _) (Nat.le_of_ble_eq_true rfl) dX9_move_89 (fun H locs hw => ?_)
            generalize hct3 : upd2 ct2 8 i1 (.inr (5, [.int (nI p2), .int (nI f3), .int (nI nw), .null].set 3 (va_rf (Option.map (ad 8) ((ix j)[z9 + 1]?))))) = ct3 at hw
            have fa19 : ct3 0 0 = .inr (9, [.int (nI nw), .int (nI nb), .int (nI nc), .int (nI nm), .int (v 4), .int (v 5), .ref (ad 1 0), .ref (ad 2 0), .ref (ad 3 0), .ref (ad 11 tp), .ref (ad 11 (1 - tp)), .ref (ad 13 0)]) := by rw [← hct3, upd2_k _ _ _ _ (by decide)]; exact fa10
            have fa20 : ct3 1 0 = .inl (ca 3, 50, aQ fB) := by rw [← hct3, upd2_k _ _ _ _ (by decide)]; exact fa11
            have fa21 : ct3 2 0 = .inl (ca 4, 60, aQ fC) := by rw [← hct3, upd2_k _ _ _ _ (by decide)]; exact fa12
            have fa22 : ct3 3 0 = .inl (ca 5, 13, aQ fN) := by rw [← hct3, upd2_k _ _ _ _ (by decide)]; exact fa13
            have fa23 : ct3 11 tp = .inr (8, [.ref (ad 12 tp), .int (nI szq)]) := by rw [← hct3, upd2_k _ _ _ _ (by decide)]; exact fa14
            have fa24 : ct3 8 b9 = .inr (5, [.int ((dt b9).1), .int ((dt b9).2.1), .int ((dt b9).2.2), va_rf (Option.map (ad 8) ((ix j)[z9 + 1]?))]) := by rw [← hct3, upd2_i _ _ _ (by omega)]; exact fa15
            have fa25 : ct3 6 j = .inr (1, [.int (g 9 j), .int (g 10 j), .int (g 11 j), .ref (ad 7 j), .int (g 14 j), .int (g 15 j), va_rf (Option.map (ad 8) ((ix j)[0]?)), .int (nI (mCnt g (nI j) nm)), .int (g 16 j), .int (ak j)]) := by rw [← hct3, upd2_k _ _ _ _ (by decide)]; exact fa16
            have fa26 : ct3 7 j = .inr (3, [.int (g 12 j), .int (g 13 j)]) := by rw [← hct3, upd2_k _ _ _ _ (by decide)]; exact fa17
            have fa27 : ct3 8 i1 = .inr (5, [.int (nI p2), .int (nI f3), .int (nI nw), va_rf (Option.map (ad 8) ((ix j)[z9 + 1]?))]) := by rw [← hct3, upd2_at]; try rfl
            refine lv_aload hx hb dX9_move_92 (lv_at hl 1 rfl) ?_
            refine lv_aload hx hb dX9_move_94 (lv_at hl 0 rfl) ?_
            have ev96_0 : ad 8 b9 = ad1 8 b9 := hag1 8 b9 (by omega)
            refine W.eq (g2 := F0 m 96 ls [.ref (ad1 8 i1), .ref (ad1 8 b9)]) (by rw [ev96_0]) ?_
            refine x_put E hw 8 b9 (Nat.lt_of_lt_of_le (hbl9) (hle1 _)) fa24 cl_5 ly_5 tyX5 tyX5_ok nmX5 3 (by decide) tw_215 (Or.inl rfl) (by rfl) (by rfl) (Nat.le_of_ble_eq_true rfl) dX9_move_96 (fun H locs hw => ?_)
            generalize hct4 : upd2 ct3 8 b9 (.inr (5, [.int ((dt b9).1), .int ((dt b9).2.1), .int ((dt b9).2.2), va_rf (Option.map (ad 8) ((ix j)[z9 + 1]?))].set 3 (.ref (ad1 8 i1)))) = ct4 at hw
            have fa28 : ct4 0 0 = .inr (9, [.int (nI nw), .int (nI nb), .int (nI nc), .int (nI nm), .int (v 4), .int (v 5), .ref (ad 1 0), .ref (ad 2 0), .ref (ad 3 0), .ref (ad 11 tp), .ref (ad 11 (1 - tp)), .ref (ad 13 0)]) := by rw [← hct4, upd2_k _ _ _ _ (by decide)]; exact fa19
            have fa29 : ct4 1 0 = .inl (ca 3, 50, aQ fB) := by rw [← hct4, upd2_k _ _ _ _ (by decide)]; exact fa20
            have fa30 : ct4 2 0 = .inl (ca 4, 60, aQ fC) := by rw [← hct4, upd2_k _ _ _ _ (by decide)]; exact fa21
            have fa31 : ct4 3 0 = .inl (ca 5, 13, aQ fN) := by rw [← hct4, upd2_k _ _ _ _ (by decide)]; exact fa22
            have fa32 : ct4 11 tp = .inr (8, [.ref (ad 12 tp), .int (nI szq)]) := by rw [← hct4, upd2_k _ _ _ _ (by decide)]; exact fa23
            have fa33 : ct4 8 b9 = .inr (5, [.int ((dt b9).1), .int ((dt b9).2.1), .int ((dt b9).2.2), .ref (ad1 8 i1)]) := by rw [← hct4, upd2_at]; try rfl
            have fa34 : ct4 6 j = .inr (1, [.int (g 9 j), .int (g 10 j), .int (g 11 j), .ref (ad 7 j), .int (g 14 j), .int (g 15 j), va_rf (Option.map (ad 8) ((ix j)[0]?)), .int (nI (mCnt g (nI j) nm)), .int (g 16 j), .int (ak j)]) := by rw [← hct4, upd2_k _ _ _ _ (by decide)]; exact fa25
            have fa35 : ct4 7 j = .inr (3, [.int (g 12 j), .int (g 13 j)]) := by rw [← hct4, upd2_k _ _ _ _ (by decide)]; exact fa26
            have fa36 : ct4 8 i1 = .inr (5, [.int (nI p2), .int (nI f3), .int (nI nw), va_rf (Option.map (ad 8) ((ix j)[z9 + 1]?))]) := by rw [← hct4, upd2_i _ _ _ (by omega)]; exact fa27
            have hA3 : ∀ k i, i < cnt k → ct3 k i = ct k i := (by rw [← hct3, ← hct2]; exact agr_up (by omega) (agr_up (by omega) hcg1))
            have hA4 : ∀ k i, k ≠ 8 → i < cnt k → ct4 k i = ct k i := (fun k i h1 h2 => by rw [← hct4, upd2_k _ _ _ _ h1]; exact hA3 k i h2)
            have hIv1 := mIv_mv1 hIv hj hd9e hf3 hf4 hp2
            have hch4 := mv_chain (pl := nI p2) (fr := nI f3) (nw := nw) (cnt' := cnt1) (ad' := ad1) (ct' := ct4) (i1 := i1) (by omega) hCd hj hmr hzr hzl hb9 (by omega) (by omega) hle1 hag1 (fun i h1 h2 => by rw [← hct4, upd2_i _ _ _ h2]; exact hA3 8 i h1) fa36 fa33
            have hG := cRepG_mv hO5.1 (by omega) hIv1 hX htp ht11 ht13 hc6 hc7 fz2 hCd hN (by omega) hch4 hle1 hag1 hA4
            refine lv_aload_n hx hb dX9_move_99 rfl (lv_at hl 3 rfl) ?_
            refine lv_iload_n hx hb dX9_move_100 rfl (lv_at hl 5 rfl) ?_
            have ev101_0 : ad 0 0 = ad1 0 0 := hag1 0 0 (by omega)
            refine W.eq (g2 := F0 m 101 ls [.int (nI p2), .ref (ad1 0 0)]) (by rw [ev101_0]) ?_
            refine x_readq (x_runV (rest := []) E cbX9_findNurse tw_272 (kX9_findNurse_G l D ca cnt1 ad1 ct4 (mMoveG g nw nm (nI j) (nI p2) (nI f3)) nw nc (nm + 1)   (nI p2) (hG)) ⟨rfl, rfl, by decide, by decide⟩ (x_recv E hw cl_9 (Nat.lt_of_lt_of_le (hx0) (hle1 _)) fa28) (fun _ _ _ _ h => h) (fun U hU _ => by rw [hU]; exact hw.1) rfl hl.1 rfl (Nat.le_of_ble_eq_true rfl) dX9_move_101 ⟨by decide, by decide⟩) ?_
            refine x_astoreQ (lv' := [(7, va_rf (Option.map (ad1 9) (fdN (nI p2)))), (6, .ref (ad1 8 i1)), (5, .ref (ad 8 b9)), (4, .ref (ad 6 j)), (0, .ref (ad 0 0)), (1, .int (nI j)), (2, .int (nI p2)), (3, .int (nI f3))]) hx hb dX9_move_104 hl (by decide) rfl (fun ls hl => ?_)
            refine x_aloadQ hx hb dX9_move_106 (lv_at hl 0 rfl) ?_
            rcases x_opt (fdN (nI p2)) with hn108 | ⟨i, hi108⟩
            · skip
              rw [hn108]
              rw [hn108] at hl
              have hl : lv_has ls 8 [(7, .null), (6, .ref (ad1 8 i1)), (5, .ref (ad 8 b9)), (4, .ref (ad 6 j)), (0, .ref (ad 0 0)), (1, .int (nI j)), (2, .int (nI p2)), (3, .int (nI f3))] := hl
              refine lv_ifnullN (tgt := 137) hx hb dX9_move_108 (by decide) ?_
              refine lv_aload hx hb dX9_move_137 (lv_at hl 3 rfl) ?_
              refine lv_dup hx hb dX9_move_139 rfl ?_
              have ev140_0 : ad 6 j = ad1 6 j := hag1 6 j (by omega)
              refine W.eq (g2 := F0 m 140 ls [.ref (ad1 6 j), .ref (ad1 6 j)]) (by rw [ev140_0]) ?_
              refine x_get E hw 6 j (by omega) fa34 cl_1 ly_1 7 (by decide) tw_242 rfl dX9_move_140 ?_
              refine lv_iconst (v := 1) hx hb dX9_move_143 (by decide) ?_
              refine lv_iadd hx hb dX9_move_144 ?_
              refine x_top (x := (nI (mCnt g (nI j) nm) + 1)) (y := (nI (mCnt g (nI j) nm + 1))) (nI_1 _) ?_
              refine x_put E hw 6 j (by omega) fa34 cl_1 ly_1 tyX1 tyX1_ok nmX1 7 (by decide) tw_242 (Or.inl rfl) (by rfl) (by rfl) (Nat.le_of_ble_eq_true rfl) dX9_move_145 (fun H locs hw => ?_)
              generalize hct5 : upd2 ct4 6 j (.inr (1, [.int (g 9 j), .int (g 10 j), .int (g 11 j), .ref (ad 7 j), .int (g 14 j), .int (g 15 j), va_rf (Option.map (ad 8) ((ix j)[0]?)), .int (nI (mCnt g (nI j) nm)), .int (g 16 j), .int (ak j)].set 7 (.int (nI (mCnt g (nI j) nm + 1))))) = ct5 at hw
              have fa37 : ct5 0 0 = .inr (9, [.int (nI nw), .int (nI nb), .int (nI nc), .int (nI nm), .int (v 4), .int (v 5), .ref (ad 1 0), .ref (ad 2 0), .ref (ad 3 0), .ref (ad 11 tp), .ref (ad 11 (1 - tp)), .ref (ad 13 0)]) := by rw [← hct5, upd2_k _ _ _ _ (by decide)]; exact fa28
              have fa38 : ct5 1 0 = .inl (ca 3, 50, aQ fB) := by rw [← hct5, upd2_k _ _ _ _ (by decide)]; exact fa29
              have fa39 : ct5 2 0 = .inl (ca 4, 60, aQ fC) := by rw [← hct5, upd2_k _ _ _ _ (by decide)]; exact fa30
              have fa40 : ct5 3 0 = .inl (ca 5, 13, aQ fN) := by rw [← hct5, upd2_k _ _ _ _ (by decide)]; exact fa31
              have fa41 : ct5 11 tp = .inr (8, [.ref (ad 12 tp), .int (nI szq)]) := by rw [← hct5, upd2_k _ _ _ _ (by decide)]; exact fa32
              have fa42 : ct5 8 b9 = .inr (5, [.int ((dt b9).1), .int ((dt b9).2.1), .int ((dt b9).2.2), .ref (ad1 8 i1)]) := by rw [← hct5, upd2_k _ _ _ _ (by decide)]; exact fa33
              have fa43 : ct5 6 j = .inr (1, [.int (g 9 j), .int (g 10 j), .int (g 11 j), .ref (ad 7 j), .int (g 14 j), .int (g 15 j), va_rf (Option.map (ad 8) ((ix j)[0]?)), .int (nI (mCnt g (nI j) nm + 1)), .int (g 16 j), .int (ak j)]) := by rw [← hct5, upd2_at]; try rfl
              have fa44 : ct5 7 j = .inr (3, [.int (g 12 j), .int (g 13 j)]) := by rw [← hct5, upd2_k _ _ _ _ (by decide)]; exact fa35
              have fa45 : ct5 8 i1 = .inr (5, [.int (nI p2), .int (nI f3), .int (nI nw), va_rf (Option.map (ad 8) ((ix j)[z9 + 1]?))]) := by rw [← hct5, upd2_k _ _ _ _ (by decide)]; exact fa36
              refine lv_aload_n hx hb dX9_move_148 rfl (lv_at hl 4 rfl) ?_
              refine lv_dup hx hb dX9_move_149 rfl ?_
              have ev150_0 : ad 0 0 = ad1 0 0 := hag1 0 0 (by omega)
              refine W.eq (g2 := F0 m 150 ls [.ref (ad1 0 0), .ref (ad1 0 0)]) (by rw [ev150_0]) ?_
              refine x_get E hw 0 0 (Nat.lt_of_lt_of_le (hx0) (hle1 _)) fa37 cl_9 ly_9 3 (by decide) tw_83 rfl dX9_move_150 ?_
              refine lv_iconst (v := 1) hx hb dX9_move_153 (by decide) ?_
              refine lv_iadd hx hb dX9_move_154 ?_
              refine x_top (x := (nI nm + 1)) (y := (nI (nm + 1))) (nI_1 _) ?_
              refine x_put E hw 0 0 (Nat.lt_of_lt_of_le (hx0) (hle1 _)) fa37 cl_9 ly_9 tyX9 tyX9_ok nmX9 3 (by decide) tw_83 (Or.inl rfl) (by rfl) (by rfl) (Nat.le_of_ble_eq_true rfl) dX9_move_155 (fun H locs hw => ?_)
              generalize hct6 : upd2 ct5 0 0 (.inr (9, [.int (nI nw), .int (nI nb), .int (nI nc), .int (nI nm), .int (v 4), .int (v 5), .ref (ad 1 0), .ref (ad 2 0), .ref (ad 3 0), .ref (ad 11 tp), .ref (ad 11 (1 - tp)), .ref (ad 13 0)].set 3 (.int (nI (nm + 1))))) = ct6 at hw
              have fa46 : ct6 0 0 = .inr (9, [.int (nI nw), .int (nI nb), .int (nI nc), .int (nI (nm + 1)), .int (v 4), .int (v 5), .ref (ad 1 0), .ref (ad 2 0), .ref (ad 3 0), .ref (ad 11 tp), .ref (ad 11 (1 - tp)), .ref (ad 13 0)]) := by rw [← hct6, upd2_at]; try rfl
              have fa47 : ct6 1 0 = .inl (ca 3, 50, aQ fB) := by rw [← hct6, upd2_k _ _ _ _ (by decide)]; exact fa38
              have fa48 : ct6 2 0 = .inl (ca 4, 60, aQ fC) := by rw [← hct6, upd2_k _ _ _ _ (by decide)]; exact fa39
              have fa49 : ct6 3 0 = .inl (ca 5, 13, aQ fN) := by rw [← hct6, upd2_k _ _ _ _ (by decide)]; exact fa40
              have fa50 : ct6 11 tp = .inr (8, [.ref (ad 12 tp), .int (nI szq)]) := by rw [← hct6, upd2_k _ _ _ _ (by decide)]; exact fa41
              have fa51 : ct6 8 b9 = .inr (5, [.int ((dt b9).1), .int ((dt b9).2.1), .int ((dt b9).2.2), .ref (ad1 8 i1)]) := by rw [← hct6, upd2_k _ _ _ _ (by decide)]; exact fa42
              have fa52 : ct6 6 j = .inr (1, [.int (g 9 j), .int (g 10 j), .int (g 11 j), .ref (ad 7 j), .int (g 14 j), .int (g 15 j), va_rf (Option.map (ad 8) ((ix j)[0]?)), .int (nI (mCnt g (nI j) nm + 1)), .int (g 16 j), .int (ak j)]) := by rw [← hct6, upd2_k _ _ _ _ (by decide)]; exact fa43
              have fa53 : ct6 7 j = .inr (3, [.int (g 12 j), .int (g 13 j)]) := by rw [← hct6, upd2_k _ _ _ _ (by decide)]; exact fa44
              have fa54 : ct6 8 i1 = .inr (5, [.int (nI p2), .int (nI f3), .int (nI nw), va_rf (Option.map (ad 8) ((ix j)[z9 + 1]?))]) := by rw [← hct6, upd2_k _ _ _ _ (by decide)]; exact fa45
              refine lv_iconst (v := 1) hx hb dX9_move_158 (by decide) ?_
              subst hQ
              exact x_zretW E hr hlk (by decide) hw (by decide) (by decide) (addA ((hag1 0 0 (by omega)).symm) (cw_post (v' := upd v 3 (nI (nm + 1))) (g' := (mMoveG g nw nm (nI j) (nI p2) (nI f3))) (by simp [mMoveW, mMoveOK, hIj, nI_clamp (n := j) (by omega), c_16, c_32, hn3, ← hgo, hg14, hg15, fdN_none hn108]) ⟨nw, nb, nc, nm + 1, ⟨by rw [upd_ne _ _ (by decide)]; exact hO.1, by rw [upd_ne _ _ (by decide)]; exact hO.2.1, by rw [upd_ne _ _ (by decide)]; exact hO.2.2.1, upd_at _ _ _, hO5.1, hO5.2.1, hO5.2.2.1, by omega⟩, hIv1, tp, htp, cX_new htp ht11 ht13 hle1 hag1 hX (by rw [upd_ne _ _ (by decide), upd_ne _ _ (by decide)]; exact fa46), cT_v (v := v) (by rw [upd_ne _ _ (by decide)]) (by rw [upd_ne _ _ (by decide)]) (by rw [← hct6, ← hct5]; exact cT_up (by decide) (cT_up (by decide) (by rw [← hct4]; exact cT_up (by decide) (cT_ext htp hle1 hag1 hA3 (cT_g (fun _ => mvG_o (by omega)) (fun _ => mvG_o (by omega)) hT))))), by rw [← hct6, ← hct5]; exact cB_up (by decide) (cB_up (by decide) (by rw [← hct4]; exact cB_up (by decide) (cB_ext (by omega) (by omega) hx1 hag1 hA3 (cB_g (fun _ => mvG_o (by omega)) (fun _ => mvG_o (by omega)) hB)))), by rw [← hct6, ← hct5]; exact cC_up (by decide) (cC_mv (by omega) hx2 hc6 hc7 (by omega) (by omega) fz2 hCd hj hch4 hag1 hA4), by rw [← hct6, ← hct5]; exact cN_up (by decide) (cN_up (by decide) (by rw [← hct4]; exact cN_up (by decide) (cN_ext (by omega) hx3 hle1 hag1 hA3 (cN_g (fun _ => mvG_o (by omega)) (fun _ => mvG_o (by omega)) hN))))⟩)) dX9_move_159
            · skip
              rw [hi108]
              rw [hi108] at hl
              have hl : lv_has ls 8 [(7, .ref (ad1 9 i)), (6, .ref (ad1 8 i1)), (5, .ref (ad 8 b9)), (4, .ref (ad 6 j)), (0, .ref (ad 0 0)), (1, .int (nI j)), (2, .int (nI p2)), (3, .int (nI f3))] := hl
              refine lv_ifnull hx hb dX9_move_108 ?_
              obtain ⟨hi12, hpe, hIn⟩ := fdN_some hi108
              have hpe := (nI_eq (by omega) (by omega)).mp hpe
              obtain ⟨hfn, hnc0, lln, hlln, hlkn⟩ := hNd i hi12
              have hnc : ct4 9 i = .inr (6, [.int (g 22 (i + 1)), va_rf (Option.map (ad 10) (lk i))]) := (hA4 9 i (by decide) (by omega)).trans hnc0
              refine lv_aload_n hx hb dX9_move_111 rfl (lv_at hl 4 rfl) ?_
              refine lv_iload_n hx hb dX9_move_112 rfl (lv_at hl 6 rfl) ?_
              refine lv_aload hx hb dX9_move_113 (lv_at hl 0 rfl) ?_
              have ev115_0 : ad 0 0 = ad1 0 0 := hag1 0 0 (by omega)
              refine W.eq (g2 := F0 m 115 ls [.ref (ad1 9 i), .int (nI p2), .ref (ad1 0 0)]) (by rw [ev115_0]) ?_
              refine x_get E hw 9 i (by omega) hnc cl_6 ly_6 0 (by decide) tw_73 rfl dX9_move_115 ?_
              refine lv_iload_n hx hb dX9_move_118 rfl (lv_at hl 7 rfl) ?_
              refine x_read (x_runV (rest := []) E cbX9_isOver tw_276 (kX9_isOver_G l D ca cnt1 ad1 ct4 (mMoveG g nw nm (nI j) (nI p2) (nI f3)) nw nc (nm + 1)   (nI p2) (g 22 (i + 1)) f3 (hG) (nI_n1 (by omega))) ⟨rfl, rfl, by decide, by decide⟩ (x_recv E hw cl_9 (Nat.lt_of_lt_of_le (hx0) (hle1 _)) fa28) (fun _ _ _ _ h => h) (fun U hU _ => by rw [hU]; exact hw.1) rfl hl.1 rfl (Nat.le_of_ble_eq_true rfl) dX9_move_119 ⟨by decide, by decide⟩) ?_
              refine lv_if_eq (tgt := 137) hx hb dX9_move_122 (by decide) (fun c_122 => ?_) (fun c_122 => ?_)
              · skip
                have c_122 := bB_0.mp c_122
                refine lv_aload hx hb dX9_move_137 (lv_at hl 3 rfl) ?_
                refine lv_dup hx hb dX9_move_139 rfl ?_
                have ev140_0 : ad 6 j = ad1 6 j := hag1 6 j (by omega)
                refine W.eq (g2 := F0 m 140 ls [.ref (ad1 6 j), .ref (ad1 6 j)]) (by rw [ev140_0]) ?_
                refine x_get E hw 6 j (by omega) fa34 cl_1 ly_1 7 (by decide) tw_242 rfl dX9_move_140 ?_
                refine lv_iconst (v := 1) hx hb dX9_move_143 (by decide) ?_
                refine lv_iadd hx hb dX9_move_144 ?_
                refine x_top (x := (nI (mCnt g (nI j) nm) + 1)) (y := (nI (mCnt g (nI j) nm + 1))) (nI_1 _) ?_
                refine x_put E hw 6 j (by omega) fa34 cl_1 ly_1 tyX1 tyX1_ok nmX1 7 (by decide) tw_242 (Or.inl rfl) (by rfl) (by rfl) (Nat.le_of_ble_eq_true rfl) dX9_move_145 (fun H locs hw => ?_)
                generalize hct5 : upd2 ct4 6 j (.inr (1, [.int (g 9 j), .int (g 10 j), .int (g 11 j), .ref (ad 7 j), .int (g 14 j), .int (g 15 j), va_rf (Option.map (ad 8) ((ix j)[0]?)), .int (nI (mCnt g (nI j) nm)), .int (g 16 j), .int (ak j)].set 7 (.int (nI (mCnt g (nI j) nm + 1))))) = ct5 at hw
                have fa55 : ct5 0 0 = .inr (9, [.int (nI nw), .int (nI nb), .int (nI nc), .int (nI nm), .int (v 4), .int (v 5), .ref (ad 1 0), .ref (ad 2 0), .ref (ad 3 0), .ref (ad 11 tp), .ref (ad 11 (1 - tp)), .ref (ad 13 0)]) := by rw [← hct5, upd2_k _ _ _ _ (by decide)]; exact fa28
                have fa56 : ct5 1 0 = .inl (ca 3, 50, aQ fB) := by rw [← hct5, upd2_k _ _ _ _ (by decide)]; exact fa29
                have fa57 : ct5 2 0 = .inl (ca 4, 60, aQ fC) := by rw [← hct5, upd2_k _ _ _ _ (by decide)]; exact fa30
                have fa58 : ct5 3 0 = .inl (ca 5, 13, aQ fN) := by rw [← hct5, upd2_k _ _ _ _ (by decide)]; exact fa31
                have fa59 : ct5 11 tp = .inr (8, [.ref (ad 12 tp), .int (nI szq)]) := by rw [← hct5, upd2_k _ _ _ _ (by decide)]; exact fa32
                have fa60 : ct5 8 b9 = .inr (5, [.int ((dt b9).1), .int ((dt b9).2.1), .int ((dt b9).2.2), .ref (ad1 8 i1)]) := by rw [← hct5, upd2_k _ _ _ _ (by decide)]; exact fa33
                have fa61 : ct5 6 j = .inr (1, [.int (g 9 j), .int (g 10 j), .int (g 11 j), .ref (ad 7 j), .int (g 14 j), .int (g 15 j), va_rf (Option.map (ad 8) ((ix j)[0]?)), .int (nI (mCnt g (nI j) nm + 1)), .int (g 16 j), .int (ak j)]) := by rw [← hct5, upd2_at]; try rfl
                have fa62 : ct5 7 j = .inr (3, [.int (g 12 j), .int (g 13 j)]) := by rw [← hct5, upd2_k _ _ _ _ (by decide)]; exact fa35
                have fa63 : ct5 8 i1 = .inr (5, [.int (nI p2), .int (nI f3), .int (nI nw), va_rf (Option.map (ad 8) ((ix j)[z9 + 1]?))]) := by rw [← hct5, upd2_k _ _ _ _ (by decide)]; exact fa36
                have fa64 : ct5 9 i = .inr (6, [.int (g 22 (i + 1)), va_rf (Option.map (ad 10) (lk i))]) := by rw [← hct5, upd2_k _ _ _ _ (by decide)]; exact hnc
                refine lv_aload_n hx hb dX9_move_148 rfl (lv_at hl 4 rfl) ?_
                refine lv_dup hx hb dX9_move_149 rfl ?_
                have ev150_0 : ad 0 0 = ad1 0 0 := hag1 0 0 (by omega)
                refine W.eq (g2 := F0 m 150 ls [.ref (ad1 0 0), .ref (ad1 0 0)]) (by rw [ev150_0]) ?_
                refine x_get E hw 0 0 (Nat.lt_of_lt_of_le (hx0) (hle1 _)) fa55 cl_9 ly_9 3 (by decide) tw_83 rfl dX9_move_150 ?_
                refine lv_iconst (v := 1) hx hb dX9_move_153 (by decide) ?_
                refine lv_iadd hx hb dX9_move_154 ?_
                refine x_top (x := (nI nm + 1)) (y := (nI (nm + 1))) (nI_1 _) ?_
                refine x_put E hw 0 0 (Nat.lt_of_lt_of_le (hx0) (hle1 _)) fa55 cl_9 ly_9 tyX9 tyX9_ok nmX9 3 (by decide) tw_83 (Or.inl rfl) (by rfl) (by rfl) (Nat.le_of_ble_eq_true rfl) dX9_move_155 (fun H locs hw => ?_)
                generalize hct6 : upd2 ct5 0 0 (.inr (9, [.int (nI nw), .int (nI nb), .int (nI nc), .int (nI nm), .int (v 4), .int (v 5), .ref (ad 1 0), .ref (ad 2 0), .ref (ad 3 0), .ref (ad 11 tp), .ref (ad 11 (1 - tp)), .ref (ad 13 0)].set 3 (.int (nI (nm + 1))))) = ct6 at hw
                have fa65 : ct6 0 0 = .inr (9, [.int (nI nw), .int (nI nb), .int (nI nc), .int (nI (nm + 1)), .int (v 4), .int (v 5), .ref (ad 1 0), .ref (ad 2 0), .ref (ad 3 0), .ref (ad 11 tp), .ref (ad 11 (1 - tp)), .ref (ad 13 0)]) := by rw [← hct6, upd2_at]; try rfl
                have fa66 : ct6 1 0 = .inl (ca 3, 50, aQ fB) := by rw [← hct6, upd2_k _ _ _ _ (by decide)]; exact fa56
                have fa67 : ct6 2 0 = .inl (ca 4, 60, aQ fC) := by rw [← hct6, upd2_k _ _ _ _ (by decide)]; exact fa57
                have fa68 : ct6 3 0 = .inl (ca 5, 13, aQ fN) := by rw [← hct6, upd2_k _ _ _ _ (by decide)]; exact fa58
                have fa69 : ct6 11 tp = .inr (8, [.ref (ad 12 tp), .int (nI szq)]) := by rw [← hct6, upd2_k _ _ _ _ (by decide)]; exact fa59
                have fa70 : ct6 8 b9 = .inr (5, [.int ((dt b9).1), .int ((dt b9).2.1), .int ((dt b9).2.2), .ref (ad1 8 i1)]) := by rw [← hct6, upd2_k _ _ _ _ (by decide)]; exact fa60
                have fa71 : ct6 6 j = .inr (1, [.int (g 9 j), .int (g 10 j), .int (g 11 j), .ref (ad 7 j), .int (g 14 j), .int (g 15 j), va_rf (Option.map (ad 8) ((ix j)[0]?)), .int (nI (mCnt g (nI j) nm + 1)), .int (g 16 j), .int (ak j)]) := by rw [← hct6, upd2_k _ _ _ _ (by decide)]; exact fa61
                have fa72 : ct6 7 j = .inr (3, [.int (g 12 j), .int (g 13 j)]) := by rw [← hct6, upd2_k _ _ _ _ (by decide)]; exact fa62
                have fa73 : ct6 8 i1 = .inr (5, [.int (nI p2), .int (nI f3), .int (nI nw), va_rf (Option.map (ad 8) ((ix j)[z9 + 1]?))]) := by rw [← hct6, upd2_k _ _ _ _ (by decide)]; exact fa63
                have fa74 : ct6 9 i = .inr (6, [.int (g 22 (i + 1)), va_rf (Option.map (ad 10) (lk i))]) := by rw [← hct6, upd2_k _ _ _ _ (by decide)]; exact fa64
                refine lv_iconst (v := 1) hx hb dX9_move_158 (by decide) ?_
                subst hQ
                exact x_zretW E hr hlk (by decide) hw (by decide) (by decide) (addA ((hag1 0 0 (by omega)).symm) (cw_post (v' := upd v 3 (nI (nm + 1))) (g' := (mMoveG g nw nm (nI j) (nI p2) (nI f3))) (by have hov := c_122; rw [cOv_eq hO5.1 (by omega) hIv1 (nI_n1 (by omega)) hf4] at hov; rw [← hpe] at hov; simp [mMoveW, mMoveOK, hIj, nI_clamp (n := j) (by omega), c_16, c_32, hn3, ← hgo, hg14, hg15, hIn, nI_clamp (n := f3) (by omega), nI_clamp (n := p2) (by omega), hov]) ⟨nw, nb, nc, nm + 1, ⟨by rw [upd_ne _ _ (by decide)]; exact hO.1, by rw [upd_ne _ _ (by decide)]; exact hO.2.1, by rw [upd_ne _ _ (by decide)]; exact hO.2.2.1, upd_at _ _ _, hO5.1, hO5.2.1, hO5.2.2.1, by omega⟩, hIv1, tp, htp, cX_new htp ht11 ht13 hle1 hag1 hX (by rw [upd_ne _ _ (by decide), upd_ne _ _ (by decide)]; exact fa65), cT_v (v := v) (by rw [upd_ne _ _ (by decide)]) (by rw [upd_ne _ _ (by decide)]) (by rw [← hct6, ← hct5]; exact cT_up (by decide) (cT_up (by decide) (by rw [← hct4]; exact cT_up (by decide) (cT_ext htp hle1 hag1 hA3 (cT_g (fun _ => mvG_o (by omega)) (fun _ => mvG_o (by omega)) hT))))), by rw [← hct6, ← hct5]; exact cB_up (by decide) (cB_up (by decide) (by rw [← hct4]; exact cB_up (by decide) (cB_ext (by omega) (by omega) hx1 hag1 hA3 (cB_g (fun _ => mvG_o (by omega)) (fun _ => mvG_o (by omega)) hB)))), by rw [← hct6, ← hct5]; exact cC_up (by decide) (cC_mv (by omega) hx2 hc6 hc7 (by omega) (by omega) fz2 hCd hj hch4 hag1 hA4), by rw [← hct6, ← hct5]; exact cN_up (by decide) (cN_up (by decide) (by rw [← hct4]; exact cN_up (by decide) (cN_ext (by omega) hx3 hle1 hag1 hA3 (cN_g (fun _ => mvG_o (by omega)) (fun _ => mvG_o (by omega)) hN))))⟩)) dX9_move_159
              · skip
                have c_122 := bB_n0.mp c_122
                refine lv_aload hx hb dX9_move_125 (lv_at hl 2 rfl) ?_
                refine lv_aload hx hb dX9_move_127 (lv_at hl 1 rfl) ?_
                have ev129_0 : ad 8 b9 = ad1 8 b9 := hag1 8 b9 (by omega)
                refine W.eq (g2 := F0 m 129 ls [.ref (ad1 8 i1), .ref (ad1 8 b9)]) (by rw [ev129_0]) ?_
                refine x_get E hw 8 i1 (hin1) fa36 cl_5 ly_5 3 (by decide) tw_215 rfl dX9_move_129 ?_
                refine x_put E hw 8 b9 (Nat.lt_of_lt_of_le (hbl9) (hle1 _)) fa33 cl_5 ly_5 tyX5 tyX5_ok nmX5 3 (by decide) tw_215 (Or.inl rfl) (by exact x_rfn _) (by exact x_rff _) (Nat.le_of_ble_eq_true rfl) dX9_move_132 (fun H locs hw => ?_)
                generalize hct5 : upd2 ct4 8 b9 (.inr (5, [.int ((dt b9).1), .int ((dt b9).2.1), .int ((dt b9).2.2), .ref (ad1 8 i1)].set 3 (va_rf (Option.map (ad 8) ((ix j)[z9 + 1]?))))) = ct5 at hw
                have fa75 : ct5 0 0 = .inr (9, [.int (nI nw), .int (nI nb), .int (nI nc), .int (nI nm), .int (v 4), .int (v 5), .ref (ad 1 0), .ref (ad 2 0), .ref (ad 3 0), .ref (ad 11 tp), .ref (ad 11 (1 - tp)), .ref (ad 13 0)]) := by rw [← hct5, upd2_k _ _ _ _ (by decide)]; exact fa28
                have fa76 : ct5 1 0 = .inl (ca 3, 50, aQ fB) := by rw [← hct5, upd2_k _ _ _ _ (by decide)]; exact fa29
                have fa77 : ct5 2 0 = .inl (ca 4, 60, aQ fC) := by rw [← hct5, upd2_k _ _ _ _ (by decide)]; exact fa30
                have fa78 : ct5 3 0 = .inl (ca 5, 13, aQ fN) := by rw [← hct5, upd2_k _ _ _ _ (by decide)]; exact fa31
                have fa79 : ct5 11 tp = .inr (8, [.ref (ad 12 tp), .int (nI szq)]) := by rw [← hct5, upd2_k _ _ _ _ (by decide)]; exact fa32
                have fa80 : ct5 8 b9 = .inr (5, [.int ((dt b9).1), .int ((dt b9).2.1), .int ((dt b9).2.2), va_rf (Option.map (ad 8) ((ix j)[z9 + 1]?))]) := by rw [← hct5, upd2_at]; try rfl
                have fa81 : ct5 6 j = .inr (1, [.int (g 9 j), .int (g 10 j), .int (g 11 j), .ref (ad 7 j), .int (g 14 j), .int (g 15 j), va_rf (Option.map (ad 8) ((ix j)[0]?)), .int (nI (mCnt g (nI j) nm)), .int (g 16 j), .int (ak j)]) := by rw [← hct5, upd2_k _ _ _ _ (by decide)]; exact fa34
                have fa82 : ct5 7 j = .inr (3, [.int (g 12 j), .int (g 13 j)]) := by rw [← hct5, upd2_k _ _ _ _ (by decide)]; exact fa35
                have fa83 : ct5 8 i1 = .inr (5, [.int (nI p2), .int (nI f3), .int (nI nw), va_rf (Option.map (ad 8) ((ix j)[z9 + 1]?))]) := by rw [← hct5, upd2_i _ _ _ (by omega)]; exact fa36
                have fa84 : ct5 9 i = .inr (6, [.int (g 22 (i + 1)), va_rf (Option.map (ad 10) (lk i))]) := by rw [← hct5, upd2_k _ _ _ _ (by decide)]; exact hnc
                refine lv_iconst (v := 0) hx hb dX9_move_135 (by decide) ?_
                subst hQ
                exact x_zretW E hr hlk (by decide) hw (by decide) (by decide) (addA ((hag1 0 0 (by omega)).symm) (by have hov := c_122; rw [cOv_eq hO5.1 (by omega) hIv1 (nI_n1 (by omega)) hf4] at hov; exact cw_post (v' := v) (g' := (mMoveG g nw nm (nI j) (nI p2) (nI f3))) (by rw [← hpe] at hov; simp [mMoveW, mMoveOK, hIj, nI_clamp (n := j) (by omega), c_16, c_32, hn3, ← hgo, hg14, hg15, hIn, nI_clamp (n := f3) (by omega), nI_clamp (n := p2) (by omega), hov]) ⟨nw, nb, nc, nm, cRep_mvo (cRep_ext (by omega) (by omega) (by omega) (by omega) (by omega) hle1 hag1 (by rw [← hct5, ← hct4, upd2_2]; exact agr_back hbc9 (fun k i h1 _ => hA3 k i h1)) hC)⟩)) dX9_move_136
          · skip
            have c_54 := bB_n0.mp c_54
            refine lv_iconst (v := 0) hx hb dX9_move_57 (by decide) ?_
            subst hQ
            exact x_zretW E hr hlk (by decide) hw (by decide) (by decide) (addA (rfl) (cw_post (by simp only [cGone, hgo, Bool.or_eq_true, decide_eq_true_eq] at c_54; rcases c_54 with q9 | q9 <;> simp [mMoveW, mMoveOK, nI_clamp (n := j) (by omega), q9]) ⟨nw, nb, nc, nm, hC⟩)) dX9_move_58
      · skip
        have c_32 := bB_0.mp c_32
        refine lv_iconst (v := 0) hx hb dX9_move_35 (by decide) ?_
        subst hQ
        exact x_zretW E hr hlk (by decide) hw (by decide) (by decide) (addA (rfl) (cw_post (by first | (simp [mMoveW, mMoveOK, fdB_none hn9]; done) | simp [mMoveW, mMoveOK, hIj, nI_clamp (n := j) (by omega), hi9, c_16, c_32]) ⟨nw, nb, nc, nm, hC⟩)) dX9_move_36
