set_option maxHeartbeats 4000000 in
set_option maxRecDepth 100000 in
theorem kX9_findNurse_G (l : Launch) (D : va_G) (ca : Nat → ClassId) (cnt : Nat → Nat) (ad : Nat → Nat → Nat) (ct : Nat → Nat → va_E) (g : Nat → Nat → Int32) (nw : Nat) (nc : Nat) (nm : Nat) (a1 : Int32) (hC : cRepG ca cnt ad ct g nw nc nm) : Met l yX9_findNurse (wz yX9_findNurse cX9_findNurse 2 (some (.object "ScrapHouse$Nurse"))) (rmL 2 0 0) (va_Pc [.ref (ad 0 0), .int a1] (fun U => wq D cnt ad ct U.heap ∧ gK D ca U)) (QcRef (Option.map (ad 9) (fdN a1))) 0 0 (fun _ => False) := by
  refine x_met (by decide) (Nat.le_of_ble_eq_true rfl) ?_
  intro p e s m below meth c E hr hlk hnm hq ls hl
  generalize hav : ([.ref (ad 0 0), .int a1] : List Value).toArray = args at E ⊢
  have hx := E.1
  have hb := E.2.1
  have hown := E.2.2.2.1
  have hts := E.2.2.2.2.1
  have hw : wd D (wA cnt ad s.heap.size) s.heap cnt ad ct s.heap [] := wd.start hq
  generalize hQ : MQ below (QcRef (Option.map (ad 9) (fdN a1))) args s 0 0 (fun _ => False) = Q
  have hl : lv_has ls 2 [(0, .ref (ad 0 0)), (1, .int a1)] := hl
  obtain ⟨hO5, hO6, hIv, hx0, hx2, hx3, ⟨x1, x3, x4, x5, tp, fz0⟩, hc6, ⟨fC, dt, ix, fz2, hCd⟩, hN⟩ := id hC
  obtain ⟨hn9, fN, lk, fz3, hNd⟩ := id hN
  refine lv_iload_n hx hb dX9_findNurse_0 rfl (lv_at hl 1 rfl) ?_
  refine lv_iconst (v := 1) hx hb dX9_findNurse_1 (by decide) ?_
  refine lv_bipush (v := 12) hx hb dX9_findNurse_2 (by decide) ?_
  refine x_read (x_runS (rest := []) E cbX9_within tw_121 (kX9_within l D ca a1 1 12 ) ⟨rfl, rfl, by decide, by decide⟩ (fun _ _ _ _ h => h) (fun _ _ _ => trivial) rfl hl.1 rfl (Nat.le_of_ble_eq_true rfl) dX9_findNurse_4 ⟨by decide, by decide⟩) ?_
  refine lv_if_eq (tgt := 19) hx hb dX9_findNurse_7 (by decide) (fun c_7 => ?_) (fun c_7 => ?_)
  · skip
    have c_7 := bB_0.mp c_7
    refine lv_null hx hb dX9_findNurse_19 ?_
    subst hQ
    exact x_aret E hr (Or.inl ⟨_, rfl⟩) hlk (by first | (simp [fdN, c_7, va_rf]; done) | simp [fdN, nI_clamp (n := j + 1) (by omega), c_7, va_rf]) dX9_findNurse_20
  · skip
    have c_7 := bB_n0.mp c_7
    obtain ⟨j, hj1, hj2, rfl⟩ := isIn_rng (lo := 1) (hi := 12) (by decide) (by decide) c_7
    obtain ⟨j, rfl⟩ : ∃ z, j = z + 1 := ⟨j - 1, by omega⟩
    refine lv_aload_n hx hb dX9_findNurse_10 rfl (lv_at hl 0 rfl) ?_
    refine x_get E hw 0 0 (hx0) fz0 cl_9 ly_9 8 (by decide) tw_88 rfl dX9_findNurse_11 ?_
    refine lv_iload_n hx hb dX9_findNurse_14 rfl (lv_at hl 1 rfl) ?_
    refine x_ald (v := .ref (ad 9 j)) E hw 5 rfl 3 0 (hx3) fz3 (j + 1) (rfl) (by omega) (by decide) dX9_findNurse_15 (by rw [(hNd j (by omega)).1]; rfl) ?_
    refine lv_goto (tgt := 20) hx hb dX9_findNurse_16 (by decide) ?_
    subst hQ
    exact x_aret E hr (Or.inl ⟨_, rfl⟩) hlk (by first | (simp [fdN, c_7, va_rf]; done) | simp [fdN, nI_clamp (n := j + 1) (by omega), c_7, va_rf]) dX9_findNurse_20
set_option maxHeartbeats 4000000 in
set_option maxRecDepth 100000 in
theorem kX9_childrenAt_G (l : Launch) (D : va_G) (ca : Nat → ClassId) (cnt : Nat → Nat) (ad : Nat → Nat → Nat) (ct : Nat → Nat → va_E) (g : Nat → Nat → Int32) (nw : Nat) (nc : Nat) (nm : Nat) (a1 : Int32) (a2 : Int32) (a3 : Int32) (hC : cRepG ca cnt ad ct g nw nc nm) (ha1 : ¬ a1 = -1) : Met l yX9_childrenAt (wz yX9_childrenAt cX9_childrenAt 6 (some .int)) (rmL 2 0 0) (va_Pc [.ref (ad 0 0), .int a1, .int a2, .int a3] (fun U => wq D cnt ad ct U.heap ∧ gK D ca U)) (QcRead (nI (mMany g nm a1 a2 a3 nc))) 0 0 (fun _ => False) := by
  refine x_met (by decide) (Nat.le_of_ble_eq_true rfl) ?_
  intro p e s m below meth c E hr hlk hnm hq ls hl
  generalize hav : ([.ref (ad 0 0), .int a1, .int a2, .int a3] : List Value).toArray = args at E ⊢
  have hx := E.1
  have hb := E.2.1
  have hown := E.2.2.2.1
  have hts := E.2.2.2.2.1
  have hw : wd D (wA cnt ad s.heap.size) s.heap cnt ad ct s.heap [] := wd.start hq
  generalize hQ : MQ below (QcRead (nI (mMany g nm a1 a2 a3 nc))) args s 0 0 (fun _ => False) = Q
  have hl : lv_has ls 6 [(0, .ref (ad 0 0)), (1, .int a1), (2, .int a2), (3, .int a3)] := hl
  obtain ⟨hO5, hO6, hIv, hx0, hx2, hx3, ⟨x1, x3, x4, x5, tp, fz0⟩, hc6, ⟨fC, dt, ix, fz2, hCd⟩, hN⟩ := id hC
  obtain ⟨hn9, fN, lk, fz3, hNd⟩ := id hN
  refine lv_iconst (v := 0) hx hb dX9_childrenAt_0 (by decide) ?_
  refine lv_istore (lv' := [(4, .int 0), (0, .ref (ad 0 0)), (1, .int a1), (2, .int a2), (3, .int a3)]) hx hb dX9_childrenAt_1 hl (by decide) rfl (fun ls hl => ?_)
  refine lv_iconst (v := 0) hx hb dX9_childrenAt_3 (by decide) ?_
  refine lv_istore (lv' := [(5, .int 0), (4, .int 0), (0, .ref (ad 0 0)), (1, .int a1), (2, .int a2), (3, .int a3)]) hx hb dX9_childrenAt_4 hl (by decide) rfl (fun ls hl => ?_)
  have lp6 : ∀ (n : Nat) (i : Nat) (x4 : Int32), (i ≤ nc) → (x4 = nI (mMany g nm a1 a2 a3 i)) → (nc - i < n) → ∀ ls : Array Slot, lv_has ls 6 [(0, .ref (ad 0 0)), (1, .int a1), (2, .int a2), (3, .int a3), (4, .int x4), (5, .int (nI i))] → W p l e (rmL 2 0 0) s m args below meth c s.heap [] 0 0 Q (F0 m 6 ls []) := by
    intro n
    induction n with
    | zero =>
      intro i x4 hi h4 hfu ls hl
      exact absurd hfu (by omega)
    | succ n ih6 =>
      intro i x4 hi h4 hfu ls hl
      refine lv_iload hx hb dX9_childrenAt_6 (lv_at hl 5 rfl) ?_
      refine lv_aload_n hx hb dX9_childrenAt_8 rfl (lv_at hl 0 rfl) ?_
      refine x_get E hw 0 0 (hx0) fz0 cl_9 ly_9 2 (by decide) tw_82 rfl dX9_childrenAt_9 ?_
      refine lv_icmp_ge (tgt := 40) hx hb dX9_childrenAt_12 (by decide) (fun c_12 => ?_) (fun c_12 => ?_)
      · skip
        have hge : i = nc := by have q9 := (nI_leI (a := nc) (b := i) (by omega) (by omega)).mp c_12; omega
        subst hge
        refine lv_iload hx hb dX9_childrenAt_40 (lv_at hl 4 rfl) ?_
        subst hQ
        exact x_iret E hr hlk (h4) dX9_childrenAt_42
      · skip
        have hlt : i < nc := by have q9 := mt (nI_leI (a := nc) (b := i) (by omega) (by omega)).mpr c_12; omega
        obtain ⟨hfc, t0, t1, t2, t4, t5, t7, t8, t9, hcc, hchn, hmc⟩ := hCd i hlt
        refine lv_aload_n hx hb dX9_childrenAt_15 rfl (lv_at hl 0 rfl) ?_
        refine x_get E hw 0 0 (hx0) fz0 cl_9 ly_9 7 (by decide) tw_87 rfl dX9_childrenAt_16 ?_
        refine lv_iload hx hb dX9_childrenAt_19 (lv_at hl 5 rfl) ?_
        refine x_ald (v := .ref (ad 6 i)) E hw 4 rfl 2 0 (hx2) fz2 i (rfl) (by omega) (by decide) dX9_childrenAt_21 (by rw [(hCd i (by omega)).1]; rfl) ?_
        refine lv_iload_n hx hb dX9_childrenAt_22 rfl (lv_at hl 2 rfl) ?_
        refine lv_iload_n hx hb dX9_childrenAt_23 rfl (lv_at hl 3 rfl) ?_
        refine x_read (x_runV (rest := []) E cbX1_placeOn tw_284 (kX1_placeOn l D ca cnt ad ct  i _ _ _ _ _ _ _ _ _ _  a2 a3 (by omega) (hcc) (hchn)) ⟨rfl, rfl, by decide, by decide⟩ (x_recv E hw cl_1 (by omega) hcc) (fun _ _ _ _ h => h) (fun U hU _ => by rw [hU]; exact hw.1) rfl hl.1 rfl (Nat.le_of_ble_eq_true rfl) dX9_childrenAt_24 ⟨by decide, by decide⟩) ?_
        refine x_top (x := (plc a2 a3 ((ix i).map dt) (-1))) (y := (if mThere g i a2 a3 = true then (mWh g (nI i) a2 a3 nm).1 else -1)) (by rw [hmc]; exact plc_mch (by omega) (by omega) hIv (by omega) _ _) ?_
        refine lv_iload_n hx hb dX9_childrenAt_27 rfl (lv_at hl 1 rfl) ?_
        refine lv_icmp_ne (tgt := 34) hx hb dX9_childrenAt_28 (by decide) (fun c_28 => ?_) (fun c_28 => ?_)
        · skip
          have hc_w := mt (x_ite ha1).mpr c_28
          refine lv_iinc (v := (nI (i + 1))) (lv' := [(5, .int (nI (i + 1))), (0, .ref (ad 0 0)), (1, .int a1), (2, .int a2), (3, .int a3), (4, .int x4)]) hx hb dX9_childrenAt_34 hl (k := 5) rfl (nI_1 _) (by decide) rfl (fun ls hl => ?_)
          refine lv_goto (tgt := 6) hx hb dX9_childrenAt_37 (by decide) ?_
          exact ih6 (i + 1) x4 (hlt) (by rw [h4]; simp [mMany, nI_1, hc_w]) (by omega) ls (lv_sub hl [1, 2, 3, 4, 5, 0] (rfl))
        · skip
          have hc_w := (x_ite ha1).mp c_28
          refine lv_iinc (v := (x4 + 1)) (lv' := [(4, .int (x4 + 1)), (0, .ref (ad 0 0)), (1, .int a1), (2, .int a2), (3, .int a3), (5, .int (nI i))]) hx hb dX9_childrenAt_31 hl (k := 4) rfl (rfl) (by decide) rfl (fun ls hl => ?_)
          refine lv_iinc (v := (nI (i + 1))) (lv' := [(5, .int (nI (i + 1))), (4, .int (x4 + 1)), (0, .ref (ad 0 0)), (1, .int a1), (2, .int a2), (3, .int a3)]) hx hb dX9_childrenAt_34 hl (k := 5) rfl (nI_1 _) (by decide) rfl (fun ls hl => ?_)
          refine lv_goto (tgt := 6) hx hb dX9_childrenAt_37 (by decide) ?_
          exact ih6 (i + 1) (x4 + 1) (hlt) (by rw [h4]; simp [mMany, nI_1, hc_w]) (by omega) ls (lv_sub hl [2, 3, 4, 5, 1, 0] (rfl))
  exact lp6 (nc + 1) 0 0 (Nat.zero_le _) (rfl) (by omega) ls (lv_sub hl [2, 3, 4, 5, 1, 0] (rfl))
set_option maxHeartbeats 4000000 in
set_option maxRecDepth 100000 in
theorem kX9_isOver_G (l : Launch) (D : va_G) (ca : Nat → ClassId) (cnt : Nat → Nat) (ad : Nat → Nat → Nat) (ct : Nat → Nat → va_E) (g : Nat → Nat → Int32) (nw : Nat) (nc : Nat) (nm : Nat) (a1 : Int32) (a2 : Int32) (f3 : Nat) (hC : cRepG ca cnt ad ct g nw nc nm) (ha1 : ¬ a1 = -1) : Met l yX9_isOver (wz yX9_isOver cX9_isOver 7 (some .boolean)) (rmL 3 0 0) (va_Pc [.ref (ad 0 0), .int a1, .int a2, .int (nI f3)] (fun U => wq D cnt ad ct U.heap ∧ gK D ca U)) (QcRead (bB (cOv g nw nc nm a1 f3 a2))) 0 0 (fun _ => False) := by
  refine x_met (by decide) (Nat.le_of_ble_eq_true rfl) ?_
  intro p e s m below meth c E hr hlk hnm hq ls hl
  generalize hav : ([.ref (ad 0 0), .int a1, .int a2, .int (nI f3)] : List Value).toArray = args at E ⊢
  have hx := E.1
  have hb := E.2.1
  have hown := E.2.2.2.1
  have hts := E.2.2.2.2.1
  have hw : wd D (wA cnt ad s.heap.size) s.heap cnt ad ct s.heap [] := wd.start hq
  generalize hQ : MQ below (QcRead (bB (cOv g nw nc nm a1 f3 a2))) args s 0 0 (fun _ => False) = Q
  have hl : lv_has ls 7 [(0, .ref (ad 0 0)), (1, .int a1), (2, .int a2), (3, .int (nI f3))] := hl
  obtain ⟨hO5, hO6, hIv, hx0, hx2, hx3, ⟨x1, x3, x4, x5, tp, fz0⟩, hc6, ⟨fC, dt, ix, fz2, hCd⟩, hN⟩ := id hC
  obtain ⟨hn9, fN, lk, fz3, hNd⟩ := id hN
  refine lv_aload_n hx hb dX9_isOver_0 rfl (lv_at hl 0 rfl) ?_
  refine lv_iload_n hx hb dX9_isOver_1 rfl (lv_at hl 1 rfl) ?_
  refine lv_iload_n hx hb dX9_isOver_2 rfl (lv_at hl 3 rfl) ?_
  refine lv_aload_n hx hb dX9_isOver_3 rfl (lv_at hl 0 rfl) ?_
  refine x_get E hw 0 0 (hx0) fz0 cl_9 ly_9 0 (by decide) tw_80 rfl dX9_isOver_4 ?_
  refine x_read (x_runV (rest := []) E cbX9_childrenAt tw_280 (kX9_childrenAt_G l D ca cnt ad ct g nw nc nm   a1 (nI f3) (nI nw) (hC) (ha1)) ⟨rfl, rfl, by decide, by decide⟩ (x_recv E hw cl_9 (hx0) fz0) (fun _ _ _ _ h => h) (fun U hU _ => by rw [hU]; exact hw.1) rfl hl.1 rfl (Nat.le_of_ble_eq_true rfl) dX9_isOver_7 ⟨by decide, by decide⟩) ?_
  refine lv_iload_n hx hb dX9_isOver_10 rfl (lv_at hl 2 rfl) ?_
  refine lv_icmp_le (tgt := 16) hx hb dX9_isOver_11 (by decide) (fun c_11 => ?_) (fun c_11 => ?_)
  · skip
    refine lv_iconst (v := 0) hx hb dX9_isOver_16 (by decide) ?_
    refine lv_istore (lv' := [(4, .int 0), (0, .ref (ad 0 0)), (1, .int a1), (2, .int a2), (3, .int (nI f3))]) hx hb dX9_isOver_17 hl (by decide) rfl (fun ls hl => ?_)
    have lp19 : ∀ (n : Nat) (i : Nat), (i ≤ nc) → (anyB (fun c => (mch g c nm).any (cOvM g nw nc nm a1 f3 a2)) i = false) → (nc - i < n) → ∀ ls : Array Slot, lv_has ls 7 [(0, .ref (ad 0 0)), (1, .int a1), (2, .int a2), (3, .int (nI f3)), (4, .int (nI i))] → W p l e (rmL 3 0 0) s m args below meth c s.heap [] 0 0 Q (F0 m 19 ls []) := by
      intro n
      induction n with
      | zero =>
        intro i hi hn hfu ls hl
        exact absurd hfu (by omega)
      | succ n ih19 =>
        intro i hi hn hfu ls hl
        refine lv_iload hx hb dX9_isOver_19 (lv_at hl 4 rfl) ?_
        refine lv_aload_n hx hb dX9_isOver_21 rfl (lv_at hl 0 rfl) ?_
        refine x_get E hw 0 0 (hx0) fz0 cl_9 ly_9 2 (by decide) tw_82 rfl dX9_isOver_22 ?_
        refine lv_icmp_ge (tgt := 111) hx hb dX9_isOver_25 (by decide) (fun c_25 => ?_) (fun c_25 => ?_)
        · skip
          have hge : i = nc := by have q9 := (nI_leI (a := nc) (b := i) (by omega) (by omega)).mp c_25; omega
          rw [hge] at hn
          refine lv_iconst (v := 0) hx hb dX9_isOver_111 (by decide) ?_
          subst hQ
          exact x_zret E hr hlk (by decide) (by rw [cOv, hn]; simp [bB, c_11]) dX9_isOver_112
        · skip
          have hlt : i < nc := by have q9 := mt (nI_leI (a := nc) (b := i) (by omega) (by omega)).mpr c_25; omega
          obtain ⟨hfc, t0, t1, t2, t4, t5, t7, t8, t9, hcc, hchn, hmc⟩ := hCd i hlt
          refine lv_aload_n hx hb dX9_isOver_28 rfl (lv_at hl 0 rfl) ?_
          refine x_get E hw 0 0 (hx0) fz0 cl_9 ly_9 7 (by decide) tw_87 rfl dX9_isOver_29 ?_
          refine lv_iload hx hb dX9_isOver_32 (lv_at hl 4 rfl) ?_
          refine x_ald (v := .ref (ad 6 i)) E hw 4 rfl 2 0 (hx2) fz2 i (rfl) (by omega) (by decide) dX9_isOver_34 (by rw [(hCd i (by omega)).1]; rfl) ?_
          refine x_get E hw 6 i (by omega) hcc cl_1 ly_1 6 (by decide) tw_241 rfl dX9_isOver_35 ?_
          refine x_astoreQ (lv' := [(5, va_rf (Option.map (ad 8) ((ix i)[0]?))), (0, .ref (ad 0 0)), (1, .int a1), (2, .int a2), (3, .int (nI f3)), (4, .int (nI i))]) hx hb dX9_isOver_38 hl (by decide) rfl (fun ls hl => ?_)
          have lp40 : ∀ (n : Nat) (z : Nat), ((((ix i).map dt).drop z).any (cOvM g nw nc nm a1 f3 a2) = (mch g i nm).any (cOvM g nw nc nm a1 f3 a2)) → ((ix i).length - z < n) → ∀ ls : Array Slot, lv_has ls 7 [(0, .ref (ad 0 0)), (1, .int a1), (2, .int a2), (3, .int (nI f3)), (4, .int (nI i)), (5, va_rf (Option.map (ad 8) ((ix i)[z]?)))] → W p l e (rmL 3 0 0) s m args below meth c s.heap [] 0 0 Q (F0 m 40 ls []) := by
            intro n
            induction n with
            | zero =>
              intro z hz hfu ls hl
              exact absurd hfu (by omega)
            | succ n ih40 =>
              intro z hz hfu ls hl
              refine x_aloadQ hx hb dX9_isOver_40 (lv_at hl 5 rfl) ?_
              rcases x_opt ((ix i)[z]?) with hn42 | ⟨k, hi42⟩
              · skip
                rw [hn42]
                rw [hn42] at hl
                have hl : lv_has ls 7 [(0, .ref (ad 0 0)), (1, .int a1), (2, .int a2), (3, .int (nI f3)), (4, .int (nI i)), (5, .null)] := hl
                refine lv_ifnullN (tgt := 105) hx hb dX9_isOver_42 (by decide) ?_
                refine lv_iinc (v := (nI (i + 1))) (lv' := [(4, .int (nI (i + 1))), (0, .ref (ad 0 0)), (1, .int a1), (2, .int a2), (3, .int (nI f3)), (5, .null)]) hx hb dX9_isOver_105 hl (k := 4) rfl (nI_1 _) (by decide) rfl (fun ls hl => ?_)
                refine lv_goto (tgt := 19) hx hb dX9_isOver_108 (by decide) ?_
                exact ih19 (i + 1) (hlt) (by rw [anyB, hn, ← hz, drop_none hn42]; rfl) (by omega) ls (lv_sub hl [1, 2, 3, 4, 0] (rfl))
              · skip
                rw [hi42]
                rw [hi42] at hl
                have hl : lv_has ls 7 [(0, .ref (ad 0 0)), (1, .int a1), (2, .int a2), (3, .int (nI f3)), (4, .int (nI i)), (5, .ref (ad 8 k))] := hl
                refine lv_ifnull hx hb dX9_isOver_42 ?_
                obtain ⟨hil, hic⟩ := hchn z k hi42
                refine lv_aload hx hb dX9_isOver_45 (lv_at hl 5 rfl) ?_
                refine x_get E hw 8 k (hil) hic cl_5 ly_5 0 (by decide) tw_208 rfl dX9_isOver_47 ?_
                refine lv_iload_n hx hb dX9_isOver_50 rfl (lv_at hl 1 rfl) ?_
                refine lv_icmp_ne (tgt := 67) hx hb dX9_isOver_51 (by decide) (fun c_51 => ?_) (fun c_51 => ?_)
                · skip
                  refine lv_iconst (v := 0) hx hb dX9_isOver_67 (by decide) ?_
                  refine lv_istore (lv' := [(6, .int 0), (0, .ref (ad 0 0)), (1, .int a1), (2, .int a2), (3, .int (nI f3)), (4, .int (nI i)), (5, .ref (ad 8 k))]) hx hb dX9_isOver_68 hl (by decide) rfl (fun ls hl => ?_)
                  refine lv_iload hx hb dX9_isOver_70 (lv_at hl 0 rfl) ?_
                  refine lv_if_eq (tgt := 95) hx hb dX9_isOver_72 (by decide) (fun c_72 => ?_) (fun c_72 => ?_)
                  · skip
                    refine lv_aload hx hb dX9_isOver_95 (lv_at hl 6 rfl) ?_
                    refine x_get E hw 8 k (hil) hic cl_5 ly_5 3 (by decide) tw_215 rfl dX9_isOver_97 ?_
                    refine x_astoreQ (lv' := [(5, va_rf (Option.map (ad 8) ((ix i)[z + 1]?))), (6, .int 0), (0, .ref (ad 0 0)), (1, .int a1), (2, .int a2), (3, .int (nI f3)), (4, .int (nI i))]) hx hb dX9_isOver_100 hl (by decide) rfl (fun ls hl => ?_)
                    refine lv_goto (tgt := 40) hx hb dX9_isOver_102 (by decide) ?_
                    exact ih40 (z + 1) (by rw [← hz, drop_some hi42, List.any_cons, show cOvM g nw nc nm a1 f3 a2 (dt k) = false from (by first | (simp [cOvM, c_51]; done) | (simp [cOvM, Int32.not_lt.mpr c_60]; done) | (simp [cOvM, Int32.not_lt.mpr c_90]; done)), Bool.false_or]) (by have := len_some hi42; omega) ls (lv_sub hl [2, 3, 4, 5, 6, 0] (rfl))
                  · skip
                    exact absurd c_72 (by decide)
                · skip
                  refine lv_aload hx hb dX9_isOver_54 (lv_at hl 5 rfl) ?_
                  refine x_get E hw 8 k (hil) hic cl_5 ly_5 1 (by decide) tw_211 rfl dX9_isOver_56 ?_
                  refine lv_iload_n hx hb dX9_isOver_59 rfl (lv_at hl 3 rfl) ?_
                  refine lv_icmp_le (tgt := 67) hx hb dX9_isOver_60 (by decide) (fun c_60 => ?_) (fun c_60 => ?_)
                  · skip
                    refine lv_iconst (v := 0) hx hb dX9_isOver_67 (by decide) ?_
                    refine lv_istore (lv' := [(6, .int 0), (0, .ref (ad 0 0)), (1, .int a1), (2, .int a2), (3, .int (nI f3)), (4, .int (nI i)), (5, .ref (ad 8 k))]) hx hb dX9_isOver_68 hl (by decide) rfl (fun ls hl => ?_)
                    refine lv_iload hx hb dX9_isOver_70 (lv_at hl 0 rfl) ?_
                    refine lv_if_eq (tgt := 95) hx hb dX9_isOver_72 (by decide) (fun c_72 => ?_) (fun c_72 => ?_)
                    · skip
                      refine lv_aload hx hb dX9_isOver_95 (lv_at hl 6 rfl) ?_
                      refine x_get E hw 8 k (hil) hic cl_5 ly_5 3 (by decide) tw_215 rfl dX9_isOver_97 ?_
                      refine x_astoreQ (lv' := [(5, va_rf (Option.map (ad 8) ((ix i)[z + 1]?))), (6, .int 0), (0, .ref (ad 0 0)), (1, .int a1), (2, .int a2), (3, .int (nI f3)), (4, .int (nI i))]) hx hb dX9_isOver_100 hl (by decide) rfl (fun ls hl => ?_)
                      refine lv_goto (tgt := 40) hx hb dX9_isOver_102 (by decide) ?_
                      exact ih40 (z + 1) (by rw [← hz, drop_some hi42, List.any_cons, show cOvM g nw nc nm a1 f3 a2 (dt k) = false from (by first | (simp [cOvM, c_51]; done) | (simp [cOvM, Int32.not_lt.mpr c_60]; done) | (simp [cOvM, Int32.not_lt.mpr c_90]; done)), Bool.false_or]) (by have := len_some hi42; omega) ls (lv_sub hl [2, 3, 4, 5, 6, 0] (rfl))
                    · skip
                      exact absurd c_72 (by decide)
                  · skip
                    refine lv_iconst (v := 1) hx hb dX9_isOver_63 (by decide) ?_
                    refine lv_goto (tgt := 68) hx hb dX9_isOver_64 (by decide) ?_
                    refine lv_istore (lv' := [(6, .int 1), (0, .ref (ad 0 0)), (1, .int a1), (2, .int a2), (3, .int (nI f3)), (4, .int (nI i)), (5, .ref (ad 8 k))]) hx hb dX9_isOver_68 hl (by decide) rfl (fun ls hl => ?_)
                    refine lv_iload hx hb dX9_isOver_70 (lv_at hl 0 rfl) ?_
                    refine lv_if_eq (tgt := 95) hx hb dX9_isOver_72 (by decide) (fun c_72 => ?_) (fun c_72 => ?_)
                    · skip
                      exact absurd c_72 (by decide)
                    · skip
                      refine lv_aload_n hx hb dX9_isOver_75 rfl (lv_at hl 1 rfl) ?_
                      refine lv_iload_n hx hb dX9_isOver_76 rfl (lv_at hl 2 rfl) ?_
                      refine lv_aload hx hb dX9_isOver_77 (lv_at hl 6 rfl) ?_
                      refine x_get E hw 8 k (hil) hic cl_5 ly_5 1 (by decide) tw_211 rfl dX9_isOver_79 ?_
                      refine lv_aload_n hx hb dX9_isOver_82 rfl (lv_at hl 1 rfl) ?_
                      refine x_get E hw 0 0 (hx0) fz0 cl_9 ly_9 0 (by decide) tw_80 rfl dX9_isOver_83 ?_
                      refine x_read (x_runV (rest := []) E cbX9_childrenAt tw_280 (kX9_childrenAt_G l D ca cnt ad ct g nw nc nm   a1 ((dt k).2.1) (nI nw) (hC) (ha1)) ⟨rfl, rfl, by decide, by decide⟩ (x_recv E hw cl_9 (hx0) fz0) (fun _ _ _ _ h => h) (fun U hU _ => by rw [hU]; exact hw.1) rfl hl.1 rfl (Nat.le_of_ble_eq_true rfl) dX9_isOver_86 ⟨by decide, by decide⟩) ?_
                      refine lv_iload_n hx hb dX9_isOver_89 rfl (lv_at hl 3 rfl) ?_
                      refine lv_icmp_le (tgt := 95) hx hb dX9_isOver_90 (by decide) (fun c_90 => ?_) (fun c_90 => ?_)
                      · skip
                        refine lv_aload hx hb dX9_isOver_95 (lv_at hl 6 rfl) ?_
                        refine x_get E hw 8 k (hil) hic cl_5 ly_5 3 (by decide) tw_215 rfl dX9_isOver_97 ?_
                        refine x_astoreQ (lv' := [(5, va_rf (Option.map (ad 8) ((ix i)[z + 1]?))), (6, .int 1), (0, .ref (ad 0 0)), (1, .int a1), (2, .int a2), (3, .int (nI f3)), (4, .int (nI i))]) hx hb dX9_isOver_100 hl (by decide) rfl (fun ls hl => ?_)
                        refine lv_goto (tgt := 40) hx hb dX9_isOver_102 (by decide) ?_
                        exact ih40 (z + 1) (by rw [← hz, drop_some hi42, List.any_cons, show cOvM g nw nc nm a1 f3 a2 (dt k) = false from (by first | (simp [cOvM, c_51]; done) | (simp [cOvM, Int32.not_lt.mpr c_60]; done) | (simp [cOvM, Int32.not_lt.mpr c_90]; done)), Bool.false_or]) (by have := len_some hi42; omega) ls (lv_sub hl [2, 3, 4, 5, 6, 0] (rfl))
                      · skip
                        refine lv_iconst (v := 1) hx hb dX9_isOver_93 (by decide) ?_
                        subst hQ
                        exact x_zret E hr hlk (by decide) (by have hx9 : (mch g i nm).any (cOvM g nw nc nm a1 f3 a2) = true := (by rw [← hz, drop_some hi42, List.any_cons]; simp [cOvM, Int32.not_le.mp c_60, Int32.not_le.mp c_90, c_51]); rw [cOv, Bool.or_comm, anyB_at hlt hx9]; rfl) dX9_isOver_94
          exact lp40 ((ix i).length + 1) 0 (by rw [hmc]; rfl) (by omega) ls (lv_sub hl [1, 2, 3, 4, 5, 0] (rfl))
    exact lp19 (nc + 1) 0 (Nat.zero_le _) (rfl) (by omega) ls (lv_sub hl [1, 2, 3, 4, 0] (rfl))
  · skip
    refine lv_iconst (v := 1) hx hb dX9_isOver_14 (by decide) ?_
    subst hQ
    exact x_zret E hr hlk (by decide) (by simp [bB, cOv, Int32.not_le.mp c_11]) dX9_isOver_15
