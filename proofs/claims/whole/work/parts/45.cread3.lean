set_option maxHeartbeats 4000000 in
set_option maxRecDepth 100000 in
theorem kX1_lastUpTo (l : Launch) (D : va_G) (ca : Nat → ClassId) (cnt : Nat → Nat) (ad : Nat → Nat → Nat) (ct : Nat → Nat → va_E) (c1 : Nat) (t0 : Int32) (t1 : Int32) (t2 : Int32) (t4 : Int32) (t5 : Int32) (t7 : Int32) (t8 : Int32) (t9 : Int32) (ix : List Nat) (dt : Nat → MV) (i0 : Nat) (a1 : Int32) (hci : c1 < cnt 6) (hcc : ct 6 c1 = .inr (1, [.int t0, .int t1, .int t2, .ref (ad 7 c1), .int t4, .int t5, va_rf (Option.map (ad 8) (ix[0]?)), .int t7, .int t8, .int t9])) (hch : chn cnt ad ct dt ix) (hne : ix[0]? = some i0) : Met l yX1_lastUpTo (wz yX1_lastUpTo cX1_lastUpTo 3 (some (.object "ScrapHouse$Move"))) (rmL 1 0 0) (va_Pc [.ref (ad 6 c1), .int a1] (fun U => wq D cnt ad ct U.heap ∧ gK D ca U)) (QcRef (Option.map (ad 8) (ix[luN a1 ((ix.map dt).drop 1)]?))) 0 0 (fun _ => False) := by
  refine x_met (by decide) (Nat.le_of_ble_eq_true rfl) ?_
  intro p e s m below meth c E hr hlk hnm hq ls hl
  generalize hav : ([.ref (ad 6 c1), .int a1] : List Value).toArray = args at E ⊢
  have hx := E.1
  have hb := E.2.1
  have hown := E.2.2.2.1
  have hts := E.2.2.2.2.1
  have hw : wd D (wA cnt ad s.heap.size) s.heap cnt ad ct s.heap [] := wd.start hq
  generalize hQ : MQ below (QcRef (Option.map (ad 8) (ix[luN a1 ((ix.map dt).drop 1)]?))) args s 0 0 (fun _ => False) = Q
  have hl : lv_has ls 3 [(0, .ref (ad 6 c1)), (1, .int a1)] := hl
  rw [hne] at hcc
  refine lv_aload_n hx hb dX1_lastUpTo_0 rfl (lv_at hl 0 rfl) ?_
  refine x_get E hw 6 c1 (hci) hcc cl_1 ly_1 6 (by decide) tw_240 rfl dX1_lastUpTo_1 ?_
  refine lv_astore_n (lv' := [(2, .ref (ad 8 i0)), (0, .ref (ad 6 c1)), (1, .int a1)]) hx hb dX1_lastUpTo_4 rfl hl (by decide) rfl (fun ls hl => ?_)
  have lp5 : ∀ (n : Nat) (z : Nat) (i : Nat), (ix[z]? = some i) → (z + luN a1 ((ix.map dt).drop (z + 1)) = luN a1 ((ix.map dt).drop 1)) → (ix.length - z < n) → ∀ ls : Array Slot, lv_has ls 3 [(0, .ref (ad 6 c1)), (1, .int a1), (2, .ref (ad 8 i))] → W p l e (rmL 1 0 0) s m args below meth c s.heap [] 0 0 Q (F0 m 5 ls []) := by
    intro n
    induction n with
    | zero =>
      intro z i hz hlu hfu ls hl
      exact absurd hfu (by omega)
    | succ n ih5 =>
      intro z i hz hlu hfu ls hl
      obtain ⟨hil, hic⟩ := hch z i hz
      refine lv_aload_n hx hb dX1_lastUpTo_5 rfl (lv_at hl 2 rfl) ?_
      refine x_get E hw 8 i (hil) hic cl_5 ly_5 3 (by decide) tw_214 rfl dX1_lastUpTo_6 ?_
      rcases x_opt (ix[z + 1]?) with hn9 | ⟨k, hi9⟩
      · skip
        rw [hn9]
        refine lv_ifnullN (tgt := 31) hx hb dX1_lastUpTo_9 (by decide) ?_
        refine lv_aload_n hx hb dX1_lastUpTo_31 rfl (lv_at hl 2 rfl) ?_
        subst hQ
        exact x_aret E hr (Or.inl ⟨_, rfl⟩) hlk (by first | (rw [← hlu, drop_none hn9, luN, Nat.add_zero, hz]; rfl) | (rw [← hlu, drop_some hi9, luN, if_pos c_20, Nat.add_zero, hz]; rfl)) dX1_lastUpTo_32
      · skip
        rw [hi9]
        refine lv_ifnull hx hb dX1_lastUpTo_9 ?_
        rw [hi9] at hic
        obtain ⟨hkl, hkc⟩ := hch (z + 1) k hi9
        refine lv_aload_n hx hb dX1_lastUpTo_12 rfl (lv_at hl 2 rfl) ?_
        refine x_get E hw 8 i (hil) hic cl_5 ly_5 3 (by decide) tw_214 rfl dX1_lastUpTo_13 ?_
        refine x_get E hw 8 k (hkl) hkc cl_5 ly_5 1 (by decide) tw_210 rfl dX1_lastUpTo_16 ?_
        refine lv_iload_n hx hb dX1_lastUpTo_19 rfl (lv_at hl 1 rfl) ?_
        refine lv_icmp_gt (tgt := 31) hx hb dX1_lastUpTo_20 (by decide) (fun c_20 => ?_) (fun c_20 => ?_)
        · skip
          refine lv_aload_n hx hb dX1_lastUpTo_31 rfl (lv_at hl 2 rfl) ?_
          subst hQ
          exact x_aret E hr (Or.inl ⟨_, rfl⟩) hlk (by first | (rw [← hlu, drop_none hn9, luN, Nat.add_zero, hz]; rfl) | (rw [← hlu, drop_some hi9, luN, if_pos c_20, Nat.add_zero, hz]; rfl)) dX1_lastUpTo_32
        · skip
          refine lv_aload_n hx hb dX1_lastUpTo_23 rfl (lv_at hl 2 rfl) ?_
          refine x_get E hw 8 i (hil) hic cl_5 ly_5 3 (by decide) tw_214 rfl dX1_lastUpTo_24 ?_
          refine lv_astore_n (lv' := [(2, .ref (ad 8 k)), (0, .ref (ad 6 c1)), (1, .int a1)]) hx hb dX1_lastUpTo_27 rfl hl (by decide) rfl (fun ls hl => ?_)
          refine lv_goto (tgt := 5) hx hb dX1_lastUpTo_28 (by decide) ?_
          exact ih5 (z + 1) k (hi9) (by rw [← hlu, drop_some hi9, luN, if_neg c_20]; omega) (by have := len_some hi9; omega) ls (lv_sub hl [1, 2, 0] (rfl))
  exact lp5 (ix.length + 1) 0 i0 (hne) (Nat.zero_add _) (by omega) ls (lv_sub hl [1, 2, 0] (rfl))
set_option maxHeartbeats 4000000 in
set_option maxRecDepth 100000 in
theorem kX1_daysAt (l : Launch) (D : va_G) (ca : Nat → ClassId) (cnt : Nat → Nat) (ad : Nat → Nat → Nat) (ct : Nat → Nat → va_E) (c1 : Nat) (t0 : Int32) (t1 : Int32) (t2 : Int32) (t4 : Int32) (t5 : Int32) (t7 : Int32) (t8 : Int32) (t9 : Int32) (ix : List Nat) (dt : Nat → MV) (a1 : Int32) (a2 : Int32) (a3 : Int32) (a4 : Int32) (hci : c1 < cnt 6) (hcc : ct 6 c1 = .inr (1, [.int t0, .int t1, .int t2, .ref (ad 7 c1), .int t4, .int t5, va_rf (Option.map (ad 8) (ix[0]?)), .int t7, .int t8, .int t9])) (hch : chn cnt ad ct dt ix) : Met l yX1_daysAt (wz yX1_daysAt cX1_daysAt 10 (some .int)) (rmL 1 0 0) (va_Pc [.ref (ad 6 c1), .int a1, .int a2, .int a3, .int a4] (fun U => wq D cnt ad ct U.heap ∧ gK D ca U)) (QcRead (dysF a1 a2 a3 a4 (ix.map dt))) 0 0 (fun _ => False) := by
  refine x_met (by decide) (Nat.le_of_ble_eq_true rfl) ?_
  intro p e s m below meth c E hr hlk hnm hq ls hl
  generalize hav : ([.ref (ad 6 c1), .int a1, .int a2, .int a3, .int a4] : List Value).toArray = args at E ⊢
  have hx := E.1
  have hb := E.2.1
  have hown := E.2.2.2.1
  have hts := E.2.2.2.2.1
  have hw : wd D (wA cnt ad s.heap.size) s.heap cnt ad ct s.heap [] := wd.start hq
  generalize hQ : MQ below (QcRead (dysF a1 a2 a3 a4 (ix.map dt))) args s 0 0 (fun _ => False) = Q
  have hl : lv_has ls 10 [(0, .ref (ad 6 c1)), (1, .int a1), (2, .int a2), (3, .int a3), (4, .int a4)] := hl
  refine lv_iconst (v := 0) hx hb dX1_daysAt_0 (by decide) ?_
  refine lv_istore (lv' := [(5, .int 0), (0, .ref (ad 6 c1)), (1, .int a1), (2, .int a2), (3, .int a3), (4, .int a4)]) hx hb dX1_daysAt_1 hl (by decide) rfl (fun ls hl => ?_)
  refine lv_iconst (v := (-1)) hx hb dX1_daysAt_3 (by decide) ?_
  refine lv_istore (lv' := [(6, .int (-1)), (5, .int 0), (0, .ref (ad 6 c1)), (1, .int a1), (2, .int a2), (3, .int a3), (4, .int a4)]) hx hb dX1_daysAt_4 hl (by decide) rfl (fun ls hl => ?_)
  refine lv_iload_n hx hb dX1_daysAt_6 rfl (lv_at hl 4 rfl) ?_
  refine lv_istore (lv' := [(7, .int a2), (6, .int (-1)), (5, .int 0), (0, .ref (ad 6 c1)), (1, .int a1), (2, .int a2), (3, .int a3), (4, .int a4)]) hx hb dX1_daysAt_7 hl (by decide) rfl (fun ls hl => ?_)
  refine lv_aload_n hx hb dX1_daysAt_9 rfl (lv_at hl 3 rfl) ?_
  refine x_get E hw 6 c1 (hci) hcc cl_1 ly_1 6 (by decide) tw_240 rfl dX1_daysAt_10 ?_
  refine x_astoreQ (lv' := [(8, va_rf (Option.map (ad 8) (ix[0]?))), (7, .int a2), (6, .int (-1)), (5, .int 0), (0, .ref (ad 6 c1)), (1, .int a1), (2, .int a2), (3, .int a3), (4, .int a4)]) hx hb dX1_daysAt_13 hl (by decide) rfl (fun ls hl => ?_)
  have lp15 : ∀ (n : Nat) (z : Nat) (x5 : Int32) (x6 : Int32) (x7 : Int32), (dysE a1 a3 (dys a1 a2 a3 a4 ((ix.map dt).drop z) (x5, x6, x7)) = dysF a1 a2 a3 a4 (ix.map dt)) → (ix.length - z < n) → ∀ ls : Array Slot, lv_has ls 10 [(0, .ref (ad 6 c1)), (1, .int a1), (2, .int a2), (3, .int a3), (4, .int a4), (5, .int x5), (6, .int x6), (7, .int x7), (8, va_rf (Option.map (ad 8) (ix[z]?)))] → W p l e (rmL 1 0 0) s m args below meth c s.heap [] 0 0 Q (F0 m 15 ls []) := by
    intro n
    induction n with
    | zero =>
      intro z x5 x6 x7 hp hfu ls hl
      exact absurd hfu (by omega)
    | succ n ih15 =>
      intro z x5 x6 x7 hp hfu ls hl
      refine x_aloadQ hx hb dX1_daysAt_15 (lv_at hl 8 rfl) ?_
      rcases x_opt (ix[z]?) with hn17 | ⟨i, hi17⟩
      · skip
        rw [hn17]
        rw [hn17] at hl
        have hl : lv_has ls 10 [(0, .ref (ad 6 c1)), (1, .int a1), (2, .int a2), (3, .int a3), (4, .int a4), (5, .int x5), (6, .int x6), (7, .int x7), (8, .null)] := hl
        refine lv_ifnullN (tgt := 91) hx hb dX1_daysAt_17 (by decide) ?_
        refine lv_iload hx hb dX1_daysAt_91 (lv_at hl 6 rfl) ?_
        refine lv_iload_n hx hb dX1_daysAt_93 rfl (lv_at hl 1 rfl) ?_
        refine lv_icmp_ne (tgt := 113) hx hb dX1_daysAt_94 (by decide) (fun c_94 => ?_) (fun c_94 => ?_)
        · skip
          refine lv_iload hx hb dX1_daysAt_113 (lv_at hl 5 rfl) ?_
          subst hQ
          exact x_iret E hr hlk (by first | (rw [← hp, drop_none hn17]; simp [dys, dysE, hn17, c_94]; done) | (rw [← hp, drop_some hi17, dys]; simp [dysE, hn17, c_94])) dX1_daysAt_115
        · skip
          refine lv_iload hx hb dX1_daysAt_97 (lv_at hl 5 rfl) ?_
          refine lv_iload_n hx hb dX1_daysAt_99 rfl (lv_at hl 3 rfl) ?_
          refine lv_iconst (v := 1) hx hb dX1_daysAt_100 (by decide) ?_
          refine lv_iadd hx hb dX1_daysAt_101 ?_
          refine lv_iload hx hb dX1_daysAt_102 (lv_at hl 7 rfl) ?_
          refine lv_isub hx hb dX1_daysAt_104 ?_
          refine lv_iconst (v := 0) hx hb dX1_daysAt_105 (by decide) ?_
          refine va_mmax hx hb (E.2.2.1.trans hl.1.symm) hown (hts _ tw_362) (hts _ tw_363) (hts _ tw_12) (hts _ tw_364) (by decide) (Nat.le_of_ble_eq_true rfl) (Nat.zero_le _) (Nat.zero_le _) dX1_daysAt_106 ?_
          refine lv_iadd hx hb dX1_daysAt_109 ?_
          refine lv_goto (tgt := 115) hx hb dX1_daysAt_110 (by decide) ?_
          subst hQ
          exact x_iret E hr hlk (by first | (rw [← hp, drop_none hn17]; simp [dys, dysE, hn17, c_94]; done) | (rw [← hp, drop_some hi17, dys]; simp [dysE, hn17, c_94])) dX1_daysAt_115
      · skip
        rw [hi17]
        rw [hi17] at hl
        have hl : lv_has ls 10 [(0, .ref (ad 6 c1)), (1, .int a1), (2, .int a2), (3, .int a3), (4, .int a4), (5, .int x5), (6, .int x6), (7, .int x7), (8, .ref (ad 8 i))] := hl
        refine lv_ifnull hx hb dX1_daysAt_17 ?_
        obtain ⟨hil, hic⟩ := hch z i hi17
        refine lv_aload hx hb dX1_daysAt_20 (lv_at hl 8 rfl) ?_
        refine x_get E hw 8 i (hil) hic cl_5 ly_5 1 (by decide) tw_210 rfl dX1_daysAt_22 ?_
        refine lv_iload_n hx hb dX1_daysAt_25 rfl (lv_at hl 3 rfl) ?_
        refine lv_icmp_gt (tgt := 91) hx hb dX1_daysAt_26 (by decide) (fun c_26 => ?_) (fun c_26 => ?_)
        · skip
          refine lv_iload hx hb dX1_daysAt_91 (lv_at hl 6 rfl) ?_
          refine lv_iload_n hx hb dX1_daysAt_93 rfl (lv_at hl 1 rfl) ?_
          refine lv_icmp_ne (tgt := 113) hx hb dX1_daysAt_94 (by decide) (fun c_94 => ?_) (fun c_94 => ?_)
          · skip
            refine lv_iload hx hb dX1_daysAt_113 (lv_at hl 5 rfl) ?_
            subst hQ
            exact x_iret E hr hlk (by first | (rw [← hp, drop_none hn17]; simp [dys, dysE, hi17, c_26, c_94]; done) | (rw [← hp, drop_some hi17, dys]; simp [dysE, hi17, c_26, c_94])) dX1_daysAt_115
          · skip
            refine lv_iload hx hb dX1_daysAt_97 (lv_at hl 5 rfl) ?_
            refine lv_iload_n hx hb dX1_daysAt_99 rfl (lv_at hl 3 rfl) ?_
            refine lv_iconst (v := 1) hx hb dX1_daysAt_100 (by decide) ?_
            refine lv_iadd hx hb dX1_daysAt_101 ?_
            refine lv_iload hx hb dX1_daysAt_102 (lv_at hl 7 rfl) ?_
            refine lv_isub hx hb dX1_daysAt_104 ?_
            refine lv_iconst (v := 0) hx hb dX1_daysAt_105 (by decide) ?_
            refine va_mmax hx hb (E.2.2.1.trans hl.1.symm) hown (hts _ tw_362) (hts _ tw_363) (hts _ tw_12) (hts _ tw_364) (by decide) (Nat.le_of_ble_eq_true rfl) (Nat.zero_le _) (Nat.zero_le _) dX1_daysAt_106 ?_
            refine lv_iadd hx hb dX1_daysAt_109 ?_
            refine lv_goto (tgt := 115) hx hb dX1_daysAt_110 (by decide) ?_
            subst hQ
            exact x_iret E hr hlk (by first | (rw [← hp, drop_none hn17]; simp [dys, dysE, hi17, c_26, c_94]; done) | (rw [← hp, drop_some hi17, dys]; simp [dysE, hi17, c_26, c_94])) dX1_daysAt_115
        · skip
          refine lv_aload hx hb dX1_daysAt_29 (lv_at hl 8 rfl) ?_
          refine x_get E hw 8 i (hil) hic cl_5 ly_5 2 (by decide) tw_213 rfl dX1_daysAt_31 ?_
          refine lv_iload hx hb dX1_daysAt_34 (lv_at hl 4 rfl) ?_
          refine lv_icmp_gt (tgt := 81) hx hb dX1_daysAt_36 (by decide) (fun c_36 => ?_) (fun c_36 => ?_)
          · skip
            refine lv_aload hx hb dX1_daysAt_81 (lv_at hl 8 rfl) ?_
            refine x_get E hw 8 i (hil) hic cl_5 ly_5 3 (by decide) tw_214 rfl dX1_daysAt_83 ?_
            refine x_astoreQ (lv' := [(8, va_rf (Option.map (ad 8) (ix[z + 1]?))), (0, .ref (ad 6 c1)), (1, .int a1), (2, .int a2), (3, .int a3), (4, .int a4), (5, .int x5), (6, .int x6), (7, .int x7)]) hx hb dX1_daysAt_86 hl (by decide) rfl (fun ls hl => ?_)
            refine lv_goto (tgt := 15) hx hb dX1_daysAt_88 (by decide) ?_
            exact ih15 (z + 1) x5 x6 x7 (by rw [← hp, drop_some hi17, dys]; simp [hi17, c_26, c_36]) (by have := len_some hi17; omega) ls (lv_sub hl [1, 2, 3, 4, 5, 6, 7, 8, 0] (rfl))
          · skip
            refine lv_aload hx hb dX1_daysAt_39 (lv_at hl 8 rfl) ?_
            refine x_get E hw 8 i (hil) hic cl_5 ly_5 1 (by decide) tw_210 rfl dX1_daysAt_41 ?_
            refine lv_iload_n hx hb dX1_daysAt_44 rfl (lv_at hl 2 rfl) ?_
            refine va_mmax hx hb (E.2.2.1.trans hl.1.symm) hown (hts _ tw_362) (hts _ tw_363) (hts _ tw_12) (hts _ tw_364) (by decide) (Nat.le_of_ble_eq_true rfl) (Nat.zero_le _) (Nat.zero_le _) dX1_daysAt_45 ?_
            refine lv_istore (lv' := [(9, .int (if (dt i).2.1 < a2 then a2 else (dt i).2.1)), (0, .ref (ad 6 c1)), (1, .int a1), (2, .int a2), (3, .int a3), (4, .int a4), (5, .int x5), (6, .int x6), (7, .int x7), (8, .ref (ad 8 i))]) hx hb dX1_daysAt_48 hl (by decide) rfl (fun ls hl => ?_)
            refine lv_iload hx hb dX1_daysAt_50 (lv_at hl 6 rfl) ?_
            refine lv_iload hx hb dX1_daysAt_52 (lv_at hl 7 rfl) ?_
            refine lv_iload_n hx hb dX1_daysAt_54 rfl (lv_at hl 2 rfl) ?_
            refine lv_icmp_ne (tgt := 66) hx hb dX1_daysAt_55 (by decide) (fun c_55 => ?_) (fun c_55 => ?_)
            · skip
              refine lv_iconst (v := 0) hx hb dX1_daysAt_66 (by decide) ?_
              refine lv_iadd hx hb dX1_daysAt_67 ?_
              refine lv_istore (lv' := [(5, .int (x5 + 0)), (9, .int (if (dt i).2.1 < a2 then a2 else (dt i).2.1)), (0, .ref (ad 6 c1)), (1, .int a1), (2, .int a2), (3, .int a3), (4, .int a4), (6, .int x6), (7, .int x7), (8, .ref (ad 8 i))]) hx hb dX1_daysAt_68 hl (by decide) rfl (fun ls hl => ?_)
              refine lv_aload hx hb dX1_daysAt_70 (lv_at hl 9 rfl) ?_
              refine x_get E hw 8 i (hil) hic cl_5 ly_5 0 (by decide) tw_207 rfl dX1_daysAt_72 ?_
              refine lv_istore (lv' := [(6, .int ((dt i).1)), (5, .int (x5 + 0)), (9, .int (if (dt i).2.1 < a2 then a2 else (dt i).2.1)), (0, .ref (ad 6 c1)), (1, .int a1), (2, .int a2), (3, .int a3), (4, .int a4), (7, .int x7), (8, .ref (ad 8 i))]) hx hb dX1_daysAt_75 hl (by decide) rfl (fun ls hl => ?_)
              refine lv_iload hx hb dX1_daysAt_77 (lv_at hl 2 rfl) ?_
              refine lv_istore (lv' := [(7, .int (if (dt i).2.1 < a2 then a2 else (dt i).2.1)), (6, .int ((dt i).1)), (5, .int (x5 + 0)), (9, .int (if (dt i).2.1 < a2 then a2 else (dt i).2.1)), (0, .ref (ad 6 c1)), (1, .int a1), (2, .int a2), (3, .int a3), (4, .int a4), (8, .ref (ad 8 i))]) hx hb dX1_daysAt_79 hl (by decide) rfl (fun ls hl => ?_)
              refine lv_aload hx hb dX1_daysAt_81 (lv_at hl 9 rfl) ?_
              refine x_get E hw 8 i (hil) hic cl_5 ly_5 3 (by decide) tw_214 rfl dX1_daysAt_83 ?_
              refine x_astoreQ (lv' := [(8, va_rf (Option.map (ad 8) (ix[z + 1]?))), (7, .int (if (dt i).2.1 < a2 then a2 else (dt i).2.1)), (6, .int ((dt i).1)), (5, .int (x5 + 0)), (9, .int (if (dt i).2.1 < a2 then a2 else (dt i).2.1)), (0, .ref (ad 6 c1)), (1, .int a1), (2, .int a2), (3, .int a3), (4, .int a4)]) hx hb dX1_daysAt_86 hl (by decide) rfl (fun ls hl => ?_)
              refine lv_goto (tgt := 15) hx hb dX1_daysAt_88 (by decide) ?_
              exact ih15 (z + 1) (x5 + 0) ((dt i).1) (if (dt i).2.1 < a2 then a2 else (dt i).2.1) (by rw [← hp, drop_some hi17, dys]; simp [hi17, c_26, c_36, c_55]) (by have := len_some hi17; omega) ls (lv_sub hl [5, 6, 7, 8, 9, 3, 2, 1, 0] (rfl))
            · skip
              refine lv_iload hx hb dX1_daysAt_58 (lv_at hl 0 rfl) ?_
              refine lv_iload hx hb dX1_daysAt_60 (lv_at hl 8 rfl) ?_
              refine lv_isub hx hb dX1_daysAt_62 ?_
              refine lv_goto (tgt := 67) hx hb dX1_daysAt_63 (by decide) ?_
              refine lv_iadd hx hb dX1_daysAt_67 ?_
              refine lv_istore (lv' := [(5, .int (x5 + ((if (dt i).2.1 < a2 then a2 else (dt i).2.1) - x7))), (9, .int (if (dt i).2.1 < a2 then a2 else (dt i).2.1)), (0, .ref (ad 6 c1)), (1, .int a1), (2, .int a2), (3, .int a3), (4, .int a4), (6, .int x6), (7, .int x7), (8, .ref (ad 8 i))]) hx hb dX1_daysAt_68 hl (by decide) rfl (fun ls hl => ?_)
              refine lv_aload hx hb dX1_daysAt_70 (lv_at hl 9 rfl) ?_
              refine x_get E hw 8 i (hil) hic cl_5 ly_5 0 (by decide) tw_207 rfl dX1_daysAt_72 ?_
              refine lv_istore (lv' := [(6, .int ((dt i).1)), (5, .int (x5 + ((if (dt i).2.1 < a2 then a2 else (dt i).2.1) - x7))), (9, .int (if (dt i).2.1 < a2 then a2 else (dt i).2.1)), (0, .ref (ad 6 c1)), (1, .int a1), (2, .int a2), (3, .int a3), (4, .int a4), (7, .int x7), (8, .ref (ad 8 i))]) hx hb dX1_daysAt_75 hl (by decide) rfl (fun ls hl => ?_)
              refine lv_iload hx hb dX1_daysAt_77 (lv_at hl 2 rfl) ?_
              refine lv_istore (lv' := [(7, .int (if (dt i).2.1 < a2 then a2 else (dt i).2.1)), (6, .int ((dt i).1)), (5, .int (x5 + ((if (dt i).2.1 < a2 then a2 else (dt i).2.1) - x7))), (9, .int (if (dt i).2.1 < a2 then a2 else (dt i).2.1)), (0, .ref (ad 6 c1)), (1, .int a1), (2, .int a2), (3, .int a3), (4, .int a4), (8, .ref (ad 8 i))]) hx hb dX1_daysAt_79 hl (by decide) rfl (fun ls hl => ?_)
              refine lv_aload hx hb dX1_daysAt_81 (lv_at hl 9 rfl) ?_
              refine x_get E hw 8 i (hil) hic cl_5 ly_5 3 (by decide) tw_214 rfl dX1_daysAt_83 ?_
              refine x_astoreQ (lv' := [(8, va_rf (Option.map (ad 8) (ix[z + 1]?))), (7, .int (if (dt i).2.1 < a2 then a2 else (dt i).2.1)), (6, .int ((dt i).1)), (5, .int (x5 + ((if (dt i).2.1 < a2 then a2 else (dt i).2.1) - x7))), (9, .int (if (dt i).2.1 < a2 then a2 else (dt i).2.1)), (0, .ref (ad 6 c1)), (1, .int a1), (2, .int a2), (3, .int a3), (4, .int a4)]) hx hb dX1_daysAt_86 hl (by decide) rfl (fun ls hl => ?_)
              refine lv_goto (tgt := 15) hx hb dX1_daysAt_88 (by decide) ?_
              exact ih15 (z + 1) (x5 + ((if (dt i).2.1 < a2 then a2 else (dt i).2.1) - x7)) ((dt i).1) (if (dt i).2.1 < a2 then a2 else (dt i).2.1) (by rw [← hp, drop_some hi17, dys]; simp [hi17, c_26, c_36, c_55]) (by have := len_some hi17; omega) ls (lv_sub hl [5, 6, 7, 8, 9, 3, 2, 1, 0] (rfl))
  exact lp15 (ix.length + 1) 0 0 (-1) a2 (rfl) (by omega) ls (lv_sub hl [4, 5, 6, 7, 8, 3, 2, 1, 0] (rfl))
set_option maxHeartbeats 4000000 in
set_option maxRecDepth 100000 in
theorem kX9_isOver (l : Launch) (D : va_G) (ca : Nat → ClassId) (cnt : Nat → Nat) (ad : Nat → Nat → Nat) (ct : Nat → Nat → va_E) (v : Nat → Int32) (g : Nat → Nat → Int32) (nw : Nat) (nb : Nat) (nc : Nat) (nm : Nat) (a1 : Int32) (a2 : Int32) (f3 : Nat) (hC : cRep ca cnt ad ct v g nw nb nc nm) (ha1 : ¬ a1 = -1) : Met l yX9_isOver (wz yX9_isOver cX9_isOver 7 (some .boolean)) (rmL 3 0 0) (va_Pc [.ref (ad 0 0), .int a1, .int a2, .int (nI f3)] (fun U => wq D cnt ad ct U.heap ∧ gK D ca U)) (QcRead (bB (cOv g nw nc nm a1 f3 a2))) 0 0 (fun _ => False) := by
  refine x_met (by decide) (Nat.le_of_ble_eq_true rfl) ?_
  intro p e s m below meth c E hr hlk hnm hq ls hl
  generalize hav : ([.ref (ad 0 0), .int a1, .int a2, .int (nI f3)] : List Value).toArray = args at E ⊢
  have hx := E.1
  have hb := E.2.1
  have hown := E.2.2.2.1
  have hts := E.2.2.2.2.1
  have hw : wd D (wA cnt ad s.heap.size) s.heap cnt ad ct s.heap [] := wd.start hq
  generalize hQ : MQ below (QcRead (bB (cOv g nw nc nm a1 f3 a2))) args s 0 0 (fun _ => False) = Q
  have hl : lv_has ls 7 [(0, .ref (ad 0 0)), (1, .int a1), (2, .int a2), (3, .int (nI f3))] := hl
  obtain ⟨hO, hIv, tp, htp, hX, hT, hB, hCc, hN⟩ := id hC
  obtain ⟨hx0, hx1, hx2, hx3, fz0⟩ := id hX
  have hO5 := hO.2.2.2.2
  obtain ⟨hb4, hb5, fB, fz1, hBd⟩ := id hB
  obtain ⟨hc6, hc7, fC, dt, ow, ix, ak, fz2, hCd⟩ := id hCc
  obtain ⟨hn9, fN, lk, fz3, hNd⟩ := id hN
  obtain ⟨ht13, ht14, ht11, ht12, szq, nq, nrq, rtq, bq0, bq1, vsq, pq1, pq2, hsz, hsz2, hnq, hnr, hrt, fz11, fz11b, fz12, fz12b, fz13, fz14, hby, hrl⟩ := id hT
  refine lv_aload_n hx hb dX9_isOver_0 rfl (lv_at hl 0 rfl) ?_
  refine lv_iload_n hx hb dX9_isOver_1 rfl (lv_at hl 1 rfl) ?_
  refine lv_iload_n hx hb dX9_isOver_2 rfl (lv_at hl 3 rfl) ?_
  refine lv_aload_n hx hb dX9_isOver_3 rfl (lv_at hl 0 rfl) ?_
  refine x_get E hw 0 0 (hx0) fz0 cl_9 ly_9 0 (by decide) tw_80 rfl dX9_isOver_4 ?_
  refine x_read (x_runV (rest := []) E cbX9_childrenAt tw_280 (kX9_childrenAt l D ca cnt ad ct v g nw nb nc nm   a1 (nI f3) (nI nw) (hC) (ha1)) ⟨rfl, rfl, by decide, by decide⟩ (x_recv E hw cl_9 (hx0) fz0) (fun _ _ _ _ h => h) (fun U hU _ => by rw [hU]; exact hw.1) rfl hl.1 rfl (Nat.le_of_ble_eq_true rfl) dX9_isOver_7 ⟨by decide, by decide⟩) ?_
  refine lv_iload_n hx hb dX9_isOver_10 rfl (lv_at hl 2 rfl) ?_
  refine lv_icmp_le (tgt := 16) hx hb dX9_isOver_11 (by decide) (fun c_11 => ?_) (fun c_11 => ?_)
  · skip
    refine lv_iconst (v := 0) hx hb dX9_isOver_16 (by decide) ?_
    refine lv_istore (lv' := [(4, .int 0), (0, .ref (ad 0 0)), (1, .int a1), (2, .int a2), (3, .int (nI f3))]) hx hb dX9_isOver_17 hl (by decide) rfl (fun ls hl => ?_)
    have lp19 : ∀ (n : Nat) (i : Nat), (i ≤ nc) → (anyB (fun c => (mch g c nm).any (cOvM g nw nc nm a1 f3 a2)) i = false) → (nc - i < n) → ∀ ls : Array Slot, lv_has ls 7 [(0, .ref (ad 0 0)), (1, .int a1), (2, .int a2), (3, .int (nI f3)), (4, .int (nI i))] → W p l e (rmL 3 0 0) s m args below meth c s.heap [] 0 0 Q (F0 m 19 ls []) := by
      intro n
      induction n with
      | zero =>
        intro i hi hn hfu ls hl
        exact absurd hfu (by omega)
      | succ n ih19 =>
        intro i hi hn hfu ls hl
        refine lv_iload hx hb dX9_isOver_19 (lv_at hl 4 rfl) ?_
        refine lv_aload_n hx hb dX9_isOver_21 rfl (lv_at hl 0 rfl) ?_
        refine x_get E hw 0 0 (hx0) fz0 cl_9 ly_9 2 (by decide) tw_82 rfl dX9_isOver_22 ?_
        refine lv_icmp_ge (tgt := 111) hx hb dX9_isOver_25 (by decide) (fun c_25 => ?_) (fun c_25 => ?_)
        · skip
          have hge : i = nc := by have q9 := (nI_leI (a := nc) (b := i) (by omega) (by omega)).mp c_25; omega
          rw [hge] at hn
          refine lv_iconst (v := 0) hx hb dX9_isOver_111 (by decide) ?_
          subst hQ
          exact x_zret E hr hlk (by decide) (by rw [cOv, hn]; simp [bB, c_11]) dX9_isOver_112
        · skip
          have hlt : i < nc := by have q9 := mt (nI_leI (a := nc) (b := i) (by omega) (by omega)).mpr c_25; omega
          obtain ⟨hfc, hcc, hhc, hchn, hmc, hak, how, hnd⟩ := hCd i hlt
          refine lv_aload_n hx hb dX9_isOver_28 rfl (lv_at hl 0 rfl) ?_
          refine x_get E hw 0 0 (hx0) fz0 cl_9 ly_9 7 (by decide) tw_87 rfl dX9_isOver_29 ?_
          refine lv_iload hx hb dX9_isOver_32 (lv_at hl 4 rfl) ?_
          refine x_ald (v := .ref (ad 6 i)) E hw 4 rfl 2 0 (hx2) fz2 i (rfl) (by omega) (by decide) dX9_isOver_34 (by rw [(hCd i (by omega)).1]; rfl) ?_
          refine x_get E hw 6 i (by omega) hcc cl_1 ly_1 6 (by decide) tw_241 rfl dX9_isOver_35 ?_
          refine x_astoreQ (lv' := [(5, va_rf (Option.map (ad 8) ((ix i)[0]?))), (0, .ref (ad 0 0)), (1, .int a1), (2, .int a2), (3, .int (nI f3)), (4, .int (nI i))]) hx hb dX9_isOver_38 hl (by decide) rfl (fun ls hl => ?_)
          have lp40 : ∀ (n : Nat) (z : Nat), ((((ix i).map dt).drop z).any (cOvM g nw nc nm a1 f3 a2) = (mch g i nm).any (cOvM g nw nc nm a1 f3 a2)) → ((ix i).length - z < n) → ∀ ls : Array Slot, lv_has ls 7 [(0, .ref (ad 0 0)), (1, .int a1), (2, .int a2), (3, .int (nI f3)), (4, .int (nI i)), (5, va_rf (Option.map (ad 8) ((ix i)[z]?)))] → W p l e (rmL 3 0 0) s m args below meth c s.heap [] 0 0 Q (F0 m 40 ls []) := by
            intro n
            induction n with
            | zero =>
              intro z hz hfu ls hl
              exact absurd hfu (by omega)
            | succ n ih40 =>
              intro z hz hfu ls hl
              refine x_aloadQ hx hb dX9_isOver_40 (lv_at hl 5 rfl) ?_
              rcases x_opt ((ix i)[z]?) with hn42 | ⟨k, hi42⟩
              · skip
                rw [hn42]
                rw [hn42] at hl
                have hl : lv_has ls 7 [(0, .ref (ad 0 0)), (1, .int a1), (2, .int a2), (3, .int (nI f3)), (4, .int (nI i)), (5, .null)] := hl
                refine lv_ifnullN (tgt := 105) hx hb dX9_isOver_42 (by decide) ?_
                refine lv_iinc (v := (nI (i + 1))) (lv' := [(4, .int (nI (i + 1))), (0, .ref (ad 0 0)), (1, .int a1), (2, .int a2), (3, .int (nI f3)), (5, .null)]) hx hb dX9_isOver_105 hl (k := 4) rfl (nI_1 _) (by decide) rfl (fun ls hl => ?_)
                refine lv_goto (tgt := 19) hx hb dX9_isOver_108 (by decide) ?_
                exact ih19 (i + 1) (hlt) (by rw [anyB, hn, ← hz, drop_none hn42]; rfl) (by omega) ls (lv_sub hl [1, 2, 3, 4, 0] (rfl))
              · skip
                rw [hi42]
                rw [hi42] at hl
                have hl : lv_has ls 7 [(0, .ref (ad 0 0)), (1, .int a1), (2, .int a2), (3, .int (nI f3)), (4, .int (nI i)), (5, .ref (ad 8 k))] := hl
                refine lv_ifnull hx hb dX9_isOver_42 ?_
                obtain ⟨hil, hic⟩ := hchn z k hi42
                refine lv_aload hx hb dX9_isOver_45 (lv_at hl 5 rfl) ?_
                refine x_get E hw 8 k (hil) hic cl_5 ly_5 0 (by decide) tw_208 rfl dX9_isOver_47 ?_
                refine lv_iload_n hx hb dX9_isOver_50 rfl (lv_at hl 1 rfl) ?_
                refine lv_icmp_ne (tgt := 67) hx hb dX9_isOver_51 (by decide) (fun c_51 => ?_) (fun c_51 => ?_)
                · skip
                  refine lv_iconst (v := 0) hx hb dX9_isOver_67 (by decide) ?_
                  refine lv_istore (lv' := [(6, .int 0), (0, .ref (ad 0 0)), (1, .int a1), (2, .int a2), (3, .int (nI f3)), (4, .int (nI i)), (5, .ref (ad 8 k))]) hx hb dX9_isOver_68 hl (by decide) rfl (fun ls hl => ?_)
                  refine lv_iload hx hb dX9_isOver_70 (lv_at hl 0 rfl) ?_
                  refine lv_if_eq (tgt := 95) hx hb dX9_isOver_72 (by decide) (fun c_72 => ?_) (fun c_72 => ?_)
                  · skip
                    refine lv_aload hx hb dX9_isOver_95 (lv_at hl 6 rfl) ?_
                    refine x_get E hw 8 k (hil) hic cl_5 ly_5 3 (by decide) tw_215 rfl dX9_isOver_97 ?_
                    refine x_astoreQ (lv' := [(5, va_rf (Option.map (ad 8) ((ix i)[z + 1]?))), (6, .int 0), (0, .ref (ad 0 0)), (1, .int a1), (2, .int a2), (3, .int (nI f3)), (4, .int (nI i))]) hx hb dX9_isOver_100 hl (by decide) rfl (fun ls hl => ?_)
                    refine lv_goto (tgt := 40) hx hb dX9_isOver_102 (by decide) ?_
                    exact ih40 (z + 1) (by rw [← hz, drop_some hi42, List.any_cons, show cOvM g nw nc nm a1 f3 a2 (dt k) = false from (by first | (simp [cOvM, c_51]; done) | (simp [cOvM, Int32.not_lt.mpr c_60]; done) | (simp [cOvM, Int32.not_lt.mpr c_90]; done)), Bool.false_or]) (by have := len_some hi42; omega) ls (lv_sub hl [2, 3, 4, 5, 6, 0] (rfl))
                  · skip
                    exact absurd c_72 (by decide)
                · skip
                  refine lv_aload hx hb dX9_isOver_54 (lv_at hl 5 rfl) ?_
                  refine x_get E hw 8 k (hil) hic cl_5 ly_5 1 (by decide) tw_211 rfl dX9_isOver_56 ?_
                  refine lv_iload_n hx hb dX9_isOver_59 rfl (lv_at hl 3 rfl) ?_
                  refine lv_icmp_le (tgt := 67) hx hb dX9_isOver_60 (by decide) (fun c_60 => ?_) (fun c_60 => ?_)
                  · skip
                    refine lv_iconst (v := 0) hx hb dX9_isOver_67 (by decide) ?_
                    refine lv_istore (lv' := [(6, .int 0), (0, .ref (ad 0 0)), (1, .int a1), (2, .int a2), (3, .int (nI f3)), (4, .int (nI i)), (5, .ref (ad 8 k))]) hx hb dX9_isOver_68 hl (by decide) rfl (fun ls hl => ?_)
                    refine lv_iload hx hb dX9_isOver_70 (lv_at hl 0 rfl) ?_
                    refine lv_if_eq (tgt := 95) hx hb dX9_isOver_72 (by decide) (fun c_72 => ?_) (fun c_72 => ?_)
                    · skip
                      refine lv_aload hx hb dX9_isOver_95 (lv_at hl 6 rfl) ?_
                      refine x_get E hw 8 k (hil) hic cl_5 ly_5 3 (by decide) tw_215 rfl dX9_isOver_97 ?_
                      refine x_astoreQ (lv' := [(5, va_rf (Option.map (ad 8) ((ix i)[z + 1]?))), (6, .int 0), (0, .ref (ad 0 0)), (1, .int a1), (2, .int a2), (3, .int (nI f3)), (4, .int (nI i))]) hx hb dX9_isOver_100 hl (by decide) rfl (fun ls hl => ?_)
                      refine lv_goto (tgt := 40) hx hb dX9_isOver_102 (by decide) ?_
                      exact ih40 (z + 1) (by rw [← hz, drop_some hi42, List.any_cons, show cOvM g nw nc nm a1 f3 a2 (dt k) = false from (by first | (simp [cOvM, c_51]; done) | (simp [cOvM, Int32.not_lt.mpr c_60]; done) | (simp [cOvM, Int32.not_lt.mpr c_90]; done)), Bool.false_or]) (by have := len_some hi42; omega) ls (lv_sub hl [2, 3, 4, 5, 6, 0] (rfl))
                    · skip
                      exact absurd c_72 (by decide)
                  · skip
                    refine lv_iconst (v := 1) hx hb dX9_isOver_63 (by decide) ?_
                    refine lv_goto (tgt := 68) hx hb dX9_isOver_64 (by decide) ?_
                    refine lv_istore (lv' := [(6, .int 1), (0, .ref (ad 0 0)), (1, .int a1), (2, .int a2), (3, .int (nI f3)), (4, .int (nI i)), (5, .ref (ad 8 k))]) hx hb dX9_isOver_68 hl (by decide) rfl (fun ls hl => ?_)
                    refine lv_iload hx hb dX9_isOver_70 (lv_at hl 0 rfl) ?_
                    refine lv_if_eq (tgt := 95) hx hb dX9_isOver_72 (by decide) (fun c_72 => ?_) (fun c_72 => ?_)
                    · skip
                      exact absurd c_72 (by decide)
                    · skip
                      refine lv_aload_n hx hb dX9_isOver_75 rfl (lv_at hl 1 rfl) ?_
                      refine lv_iload_n hx hb dX9_isOver_76 rfl (lv_at hl 2 rfl) ?_
                      refine lv_aload hx hb dX9_isOver_77 (lv_at hl 6 rfl) ?_
                      refine x_get E hw 8 k (hil) hic cl_5 ly_5 1 (by decide) tw_211 rfl dX9_isOver_79 ?_
                      refine lv_aload_n hx hb dX9_isOver_82 rfl (lv_at hl 1 rfl) ?_
                      refine x_get E hw 0 0 (hx0) fz0 cl_9 ly_9 0 (by decide) tw_80 rfl dX9_isOver_83 ?_
                      refine x_read (x_runV (rest := []) E cbX9_childrenAt tw_280 (kX9_childrenAt l D ca cnt ad ct v g nw nb nc nm   a1 ((dt k).2.1) (nI nw) (hC) (ha1)) ⟨rfl, rfl, by decide, by decide⟩ (x_recv E hw cl_9 (hx0) fz0) (fun _ _ _ _ h => h) (fun U hU _ => by rw [hU]; exact hw.1) rfl hl.1 rfl (Nat.le_of_ble_eq_true rfl) dX9_isOver_86 ⟨by decide, by decide⟩) ?_
                      refine lv_iload_n hx hb dX9_isOver_89 rfl (lv_at hl 3 rfl) ?_
                      refine lv_icmp_le (tgt := 95) hx hb dX9_isOver_90 (by decide) (fun c_90 => ?_) (fun c_90 => ?_)
                      · skip
                        refine lv_aload hx hb dX9_isOver_95 (lv_at hl 6 rfl) ?_
                        refine x_get E hw 8 k (hil) hic cl_5 ly_5 3 (by decide) tw_215 rfl dX9_isOver_97 ?_
                        refine x_astoreQ (lv' := [(5, va_rf (Option.map (ad 8) ((ix i)[z + 1]?))), (6, .int 1), (0, .ref (ad 0 0)), (1, .int a1), (2, .int a2), (3, .int (nI f3)), (4, .int (nI i))]) hx hb dX9_isOver_100 hl (by decide) rfl (fun ls hl => ?_)
                        refine lv_goto (tgt := 40) hx hb dX9_isOver_102 (by decide) ?_
                        exact ih40 (z + 1) (by rw [← hz, drop_some hi42, List.any_cons, show cOvM g nw nc nm a1 f3 a2 (dt k) = false from (by first | (simp [cOvM, c_51]; done) | (simp [cOvM, Int32.not_lt.mpr c_60]; done) | (simp [cOvM, Int32.not_lt.mpr c_90]; done)), Bool.false_or]) (by have := len_some hi42; omega) ls (lv_sub hl [2, 3, 4, 5, 6, 0] (rfl))
                      · skip
                        refine lv_iconst (v := 1) hx hb dX9_isOver_93 (by decide) ?_
                        subst hQ
                        exact x_zret E hr hlk (by decide) (by have hx9 : (mch g i nm).any (cOvM g nw nc nm a1 f3 a2) = true := (by rw [← hz, drop_some hi42, List.any_cons]; simp [cOvM, Int32.not_le.mp c_60, Int32.not_le.mp c_90, c_51]); rw [cOv, Bool.or_comm, anyB_at hlt hx9]; rfl) dX9_isOver_94
          exact lp40 ((ix i).length + 1) 0 (by rw [hmc]; rfl) (by omega) ls (lv_sub hl [1, 2, 3, 4, 5, 0] (rfl))
    exact lp19 (nc + 1) 0 (Nat.zero_le _) (rfl) (by omega) ls (lv_sub hl [1, 2, 3, 4, 0] (rfl))
  · skip
    refine lv_iconst (v := 1) hx hb dX9_isOver_14 (by decide) ?_
    subst hQ
    exact x_zret E hr hlk (by decide) (by simp [bB, cOv, Int32.not_le.mp c_11]) dX9_isOver_15
set_option maxHeartbeats 4000000 in
set_option maxRecDepth 100000 in
theorem kX9_daysWith (l : Launch) (D : va_G) (ca : Nat → ClassId) (cnt : Nat → Nat) (ad : Nat → Nat → Nat) (ct : Nat → Nat → va_E) (v : Nat → Int32) (g : Nat → Nat → Int32) (nw : Nat) (nb : Nat) (nc : Nat) (nm : Nat) (a1 : Int32) (f2 : Nat) (l3 : Nat) (q4 : Nat) (hC : cRep ca cnt ad ct v g nw nb nc nm) (hf2 : f2 ≤ 300) (hl3 : l3 ≤ 300) (hq4 : q4 ≤ nw) : Met l yX9_daysWith (wz yX9_daysWith cX9_daysWith 9 (some .int)) (rmL 2 0 0) (va_Pc [.ref (ad 0 0), .int a1, .int (nI f2), .int (nI l3), .int (nI q4)] (fun U => wq D cnt ad ct U.heap ∧ gK D ca U)) (QcRead (cDw g nc nm a1 f2 l3 q4)) 0 0 (fun _ => False) := by
  refine x_met (by decide) (Nat.le_of_ble_eq_true rfl) ?_
  intro p e s m below meth c E hr hlk hnm hq ls hl
  generalize hav : ([.ref (ad 0 0), .int a1, .int (nI f2), .int (nI l3), .int (nI q4)] : List Value).toArray = args at E ⊢
  have hx := E.1
  have hb := E.2.1
  have hown := E.2.2.2.1
  have hts := E.2.2.2.2.1
  have hw : wd D (wA cnt ad s.heap.size) s.heap cnt ad ct s.heap [] := wd.start hq
  generalize hQ : MQ below (QcRead (cDw g nc nm a1 f2 l3 q4)) args s 0 0 (fun _ => False) = Q
  have hl : lv_has ls 9 [(0, .ref (ad 0 0)), (1, .int a1), (2, .int (nI f2)), (3, .int (nI l3)), (4, .int (nI q4))] := hl
  obtain ⟨hO, hIv, tp, htp, hX, hT, hB, hCc, hN⟩ := id hC
  obtain ⟨hx0, hx1, hx2, hx3, fz0⟩ := id hX
  have hO5 := hO.2.2.2.2
  obtain ⟨hb4, hb5, fB, fz1, hBd⟩ := id hB
  obtain ⟨hc6, hc7, fC, dt, ow, ix, ak, fz2, hCd⟩ := id hCc
  obtain ⟨hn9, fN, lk, fz3, hNd⟩ := id hN
  obtain ⟨ht13, ht14, ht11, ht12, szq, nq, nrq, rtq, bq0, bq1, vsq, pq1, pq2, hsz, hsz2, hnq, hnr, hrt, fz11, fz11b, fz12, fz12b, fz13, fz14, hby, hrl⟩ := id hT
  refine lv_bipush (v := 7) hx hb dX9_daysWith_0 (by decide) ?_
  refine lv_iload_n hx hb dX9_daysWith_2 rfl (lv_at hl 2 rfl) ?_
  refine lv_imul hx hb dX9_daysWith_3 ?_
  refine x_top (x := (7 * nI f2)) (y := (nI (7 * f2))) (pk_mul 7 _) ?_
  refine lv_istore (lv' := [(5, .int (nI (7 * f2))), (0, .ref (ad 0 0)), (1, .int a1), (2, .int (nI f2)), (3, .int (nI l3)), (4, .int (nI q4))]) hx hb dX9_daysWith_4 hl (by decide) rfl (fun ls hl => ?_)
  refine lv_bipush (v := 7) hx hb dX9_daysWith_6 (by decide) ?_
  refine lv_iload_n hx hb dX9_daysWith_8 rfl (lv_at hl 4 rfl) ?_
  refine lv_imul hx hb dX9_daysWith_9 ?_
  refine x_top (x := (7 * nI l3)) (y := (nI (7 * l3))) (pk_mul 7 _) ?_
  refine lv_bipush (v := 7) hx hb dX9_daysWith_10 (by decide) ?_
  refine lv_iadd hx hb dX9_daysWith_12 ?_
  refine x_top (x := (nI (7 * l3) + 7)) (y := (nI (7 * l3 + 6 + 1))) (nI_add _ 7) ?_
  refine lv_iconst (v := 1) hx hb dX9_daysWith_13 (by decide) ?_
  refine lv_isub hx hb dX9_daysWith_14 ?_
  refine x_top (x := (nI (7 * l3 + 6 + 1) - 1)) (y := (nI (7 * l3 + 6))) (nI_pred _) ?_
  refine lv_iload hx hb dX9_daysWith_15 (lv_at hl 5 rfl) ?_
  refine va_mmin hx hb (E.2.2.1.trans hl.1.symm) hown (hts _ tw_355) (hts _ tw_356) (hts _ tw_12) (hts _ tw_357) (by decide) (Nat.le_of_ble_eq_true rfl) (Nat.zero_le _) (Nat.zero_le _) dX9_daysWith_17 ?_
  refine x_top (x := (if nI q4 < nI (7 * l3 + 6) then nI q4 else nI (7 * l3 + 6))) (y := (nI (min (7 * l3 + 6) q4))) (x_min (by omega) (by omega)) ?_
  refine lv_istore (lv' := [(6, .int (nI (min (7 * l3 + 6) q4))), (5, .int (nI (7 * f2))), (0, .ref (ad 0 0)), (1, .int a1), (2, .int (nI f2)), (3, .int (nI l3)), (4, .int (nI q4))]) hx hb dX9_daysWith_20 hl (by decide) rfl (fun ls hl => ?_)
  refine lv_iconst (v := 0) hx hb dX9_daysWith_22 (by decide) ?_
  refine lv_istore (lv' := [(7, .int 0), (6, .int (nI (min (7 * l3 + 6) q4))), (5, .int (nI (7 * f2))), (0, .ref (ad 0 0)), (1, .int a1), (2, .int (nI f2)), (3, .int (nI l3)), (4, .int (nI q4))]) hx hb dX9_daysWith_23 hl (by decide) rfl (fun ls hl => ?_)
  refine lv_iconst (v := 0) hx hb dX9_daysWith_25 (by decide) ?_
  refine lv_istore (lv' := [(8, .int 0), (7, .int 0), (6, .int (nI (min (7 * l3 + 6) q4))), (5, .int (nI (7 * f2))), (0, .ref (ad 0 0)), (1, .int a1), (2, .int (nI f2)), (3, .int (nI l3)), (4, .int (nI q4))]) hx hb dX9_daysWith_26 hl (by decide) rfl (fun ls hl => ?_)
  have lp28 : ∀ (n : Nat) (i : Nat) (x7 : Int32), (i ≤ nc) → (x7 = cDwS g nm a1 (nI (7 * f2)) (nI (min (7 * l3 + 6) q4)) (nI q4) i) → (nc - i < n) → ∀ ls : Array Slot, lv_has ls 9 [(0, .ref (ad 0 0)), (1, .int a1), (4, .int (nI q4)), (5, .int (nI (7 * f2))), (6, .int (nI (min (7 * l3 + 6) q4))), (7, .int x7), (8, .int (nI i))] → W p l e (rmL 2 0 0) s m args below meth c s.heap [] 0 0 Q (F0 m 28 ls []) := by
    intro n
    induction n with
    | zero =>
      intro i x7 hi h7 hfu ls hl
      exact absurd hfu (by omega)
    | succ n ih28 =>
      intro i x7 hi h7 hfu ls hl
      refine lv_iload hx hb dX9_daysWith_28 (lv_at hl 6 rfl) ?_
      refine lv_aload_n hx hb dX9_daysWith_30 rfl (lv_at hl 0 rfl) ?_
      refine x_get E hw 0 0 (hx0) fz0 cl_9 ly_9 2 (by decide) tw_82 rfl dX9_daysWith_31 ?_
      refine lv_icmp_ge (tgt := 65) hx hb dX9_daysWith_34 (by decide) (fun c_34 => ?_) (fun c_34 => ?_)
      · skip
        have hge : i = nc := by have q9 := (nI_leI (a := nc) (b := i) (by omega) (by omega)).mp c_34; omega
        subst hge
        refine lv_iload hx hb dX9_daysWith_65 (lv_at hl 5 rfl) ?_
        subst hQ
        exact x_iret E hr hlk (h7) dX9_daysWith_67
      · skip
        have hlt : i < nc := by have q9 := mt (nI_leI (a := nc) (b := i) (by omega) (by omega)).mpr c_34; omega
        obtain ⟨hfc, hcc, hhc, hchn, hmc, hak, how, hnd⟩ := hCd i hlt
        refine lv_iload hx hb dX9_daysWith_37 (lv_at hl 5 rfl) ?_
        refine lv_aload_n hx hb dX9_daysWith_39 rfl (lv_at hl 0 rfl) ?_
        refine x_get E hw 0 0 (hx0) fz0 cl_9 ly_9 7 (by decide) tw_87 rfl dX9_daysWith_40 ?_
        refine lv_iload hx hb dX9_daysWith_43 (lv_at hl 6 rfl) ?_
        refine x_ald (v := .ref (ad 6 i)) E hw 4 rfl 2 0 (hx2) fz2 i (rfl) (by omega) (by decide) dX9_daysWith_45 (by rw [(hCd i (by omega)).1]; rfl) ?_
        refine lv_iload_n hx hb dX9_daysWith_46 rfl (lv_at hl 1 rfl) ?_
        refine lv_iload hx hb dX9_daysWith_47 (lv_at hl 3 rfl) ?_
        refine lv_iload hx hb dX9_daysWith_49 (lv_at hl 4 rfl) ?_
        refine lv_iload hx hb dX9_daysWith_51 (lv_at hl 2 rfl) ?_
        refine x_read (x_runV (rest := [.int x7]) E cbX1_daysAt tw_358 (kX1_daysAt l D ca cnt ad ct  i _ _ _ _ _ _ _ _ _ _  a1 (nI (7 * f2)) (nI (min (7 * l3 + 6) q4)) (nI q4) (by omega) (hcc) (hchn)) ⟨rfl, rfl, by decide, by decide⟩ (x_recv E hw cl_1 (by omega) hcc) (fun _ _ _ _ h => h) (fun U hU _ => by rw [hU]; exact hw.1) rfl hl.1 rfl (Nat.le_of_ble_eq_true rfl) dX9_daysWith_53 ⟨by decide, by decide⟩) ?_
        refine x_top (x := (dysF a1 (nI (7 * f2)) (nI (min (7 * l3 + 6) q4)) (nI q4) ((ix i).map dt))) (y := (dysF a1 (nI (7 * f2)) (nI (min (7 * l3 + 6) q4)) (nI q4) (mch g i nm))) (by rw [hmc]) ?_
        refine lv_iadd hx hb dX9_daysWith_56 ?_
        refine lv_istore (lv' := [(7, .int (x7 + dysF a1 (nI (7 * f2)) (nI (min (7 * l3 + 6) q4)) (nI q4) (mch g i nm))), (0, .ref (ad 0 0)), (1, .int a1), (4, .int (nI q4)), (5, .int (nI (7 * f2))), (6, .int (nI (min (7 * l3 + 6) q4))), (8, .int (nI i))]) hx hb dX9_daysWith_57 hl (by decide) rfl (fun ls hl => ?_)
        refine lv_iinc (v := (nI (i + 1))) (lv' := [(8, .int (nI (i + 1))), (7, .int (x7 + dysF a1 (nI (7 * f2)) (nI (min (7 * l3 + 6) q4)) (nI q4) (mch g i nm))), (0, .ref (ad 0 0)), (1, .int a1), (4, .int (nI q4)), (5, .int (nI (7 * f2))), (6, .int (nI (min (7 * l3 + 6) q4)))]) hx hb dX9_daysWith_59 hl (k := 6) rfl (nI_1 _) (by decide) rfl (fun ls hl => ?_)
        refine lv_goto (tgt := 28) hx hb dX9_daysWith_62 (by decide) ?_
        exact ih28 (i + 1) (x7 + dysF a1 (nI (7 * f2)) (nI (min (7 * l3 + 6) q4)) (nI q4) (mch g i nm)) (hlt) (by rw [h7]; rfl) (by omega) ls (lv_sub hl [2, 3, 4, 5, 6, 1, 0] (rfl))
  exact lp28 (nc + 1) 0 0 (Nat.zero_le _) (rfl) (by omega) ls (lv_sub hl [4, 5, 8, 3, 2, 1, 0] (rfl))
set_option maxHeartbeats 4000000 in
set_option maxRecDepth 100000 in
theorem kX9_seenDays_n (l : Launch) (D : va_G) (ca : Nat → ClassId) (cnt : Nat → Nat) (ad : Nat → Nat → Nat) (ct : Nat → Nat → va_E) (v : Nat → Int32) (g : Nat → Nat → Int32) (nw : Nat) (nb : Nat) (nc : Nat) (nm : Nat) (a1 : Int32) (f3 : Nat) (l4 : Nat) (q5 : Nat) (l0 : List Nat) (hC : cRep ca cnt ad ct v g nw nb nc nm) (hf3 : f3 ≤ 300) (hl4 : l4 ≤ 300) (hq5 : q5 ≤ nw) (hl0 : lks cnt ad ct none l0) (hd0 : dwn 2001 l0) : Met l yX9_seenDays (wz yX9_seenDays cX9_seenDays 11 (some .int)) (rmL 3 0 0) (va_Pc [.ref (ad 0 0), .int a1, .null, .int (nI f3), .int (nI l4), .int (nI q5)] (fun U => wq D cnt ad ct U.heap ∧ gK D ca U)) (QcRead (cSn g nc nm a1 f3 l4 q5 l0 0 none)) 0 0 (fun _ => False) := by
  refine x_met (by decide) (Nat.le_of_ble_eq_true rfl) ?_
  intro p e s m below meth c E hr hlk hnm hq ls hl
  generalize hav : ([.ref (ad 0 0), .int a1, .null, .int (nI f3), .int (nI l4), .int (nI q5)] : List Value).toArray = args at E ⊢
  have hx := E.1
  have hb := E.2.1
  have hown := E.2.2.2.1
  have hts := E.2.2.2.2.1
  have hw : wd D (wA cnt ad s.heap.size) s.heap cnt ad ct s.heap [] := wd.start hq
  generalize hQ : MQ below (QcRead (cSn g nc nm a1 f3 l4 q5 l0 0 none)) args s 0 0 (fun _ => False) = Q
  have hl : lv_has ls 11 [(0, .ref (ad 0 0)), (1, .int a1), (2, .null), (3, .int (nI f3)), (4, .int (nI l4)), (5, .int (nI q5))] := hl
  obtain ⟨hO, hIv, tp, htp, hX, hT, hB, hCc, hN⟩ := id hC
  obtain ⟨hx0, hx1, hx2, hx3, fz0⟩ := id hX
  have hO5 := hO.2.2.2.2
  obtain ⟨hb4, hb5, fB, fz1, hBd⟩ := id hB
  obtain ⟨hc6, hc7, fC, dt, ow, ix, ak, fz2, hCd⟩ := id hCc
  obtain ⟨hn9, fN, lk, fz3, hNd⟩ := id hN
  obtain ⟨ht13, ht14, ht11, ht12, szq, nq, nrq, rtq, bq0, bq1, vsq, pq1, pq2, hsz, hsz2, hnq, hnr, hrt, fz11, fz11b, fz12, fz12b, fz13, fz14, hby, hrl⟩ := id hT
  refine lv_iconst (v := 0) hx hb dX9_seenDays_0 (by decide) ?_
  refine lv_istore (lv' := [(6, .int 0), (0, .ref (ad 0 0)), (1, .int a1), (2, .null), (3, .int (nI f3)), (4, .int (nI l4)), (5, .int (nI q5))]) hx hb dX9_seenDays_1 hl (by decide) rfl (fun ls hl => ?_)
  refine lv_iconst (v := (-1)) hx hb dX9_seenDays_3 (by decide) ?_
  refine lv_istore (lv' := [(7, .int (-1)), (6, .int 0), (0, .ref (ad 0 0)), (1, .int a1), (2, .null), (3, .int (nI f3)), (4, .int (nI l4)), (5, .int (nI q5))]) hx hb dX9_seenDays_4 hl (by decide) rfl (fun ls hl => ?_)
  refine lv_aload_nN hx hb dX9_seenDays_6 rfl (lv_at hl 4 rfl) ?_
  refine lv_astoreN (lv' := [(8, .null), (7, .int (-1)), (6, .int 0), (0, .ref (ad 0 0)), (1, .int a1), (2, .null), (3, .int (nI f3)), (4, .int (nI l4)), (5, .int (nI q5))]) hx hb dX9_seenDays_7 hl (by decide) rfl (fun ls hl => ?_)
  have lp9 : ∀ (n : Nat) (o : Option Nat) (ll : List Nat) (x6 : Int32) (k : Option Nat), (lks cnt ad ct o ll) → (dwn 2001 ll) → (∀ z, k = some z → z < 1000000) → (cSn g nc nm a1 f3 l4 q5 ll x6 k = cSn g nc nm a1 f3 l4 q5 l0 0 none) → (ll.length < n) → ∀ ls : Array Slot, lv_has ls 11 [(0, .ref (ad 0 0)), (1, .int a1), (3, .int (nI f3)), (4, .int (nI l4)), (5, .int (nI q5)), (6, .int x6), (7, .int (wkI k)), (8, va_rf (Option.map (ad 10) o))] → W p l e (rmL 3 0 0) s m args below meth c s.heap [] 0 0 Q (F0 m 9 ls []) := by
    intro n
    induction n with
    | zero =>
      intro o ll x6 k hlq hdw hk hp hfu ls hl
      exact absurd hfu (by omega)
    | succ n ih9 =>
      intro o ll x6 k hlq hdw hk hp hfu ls hl
      refine x_aloadQ hx hb dX9_seenDays_9 (lv_at hl 7 rfl) ?_
      rcases x_opt (o) with hn11 | ⟨j, hi11⟩
      · skip
        rw [hn11]
        rw [hn11] at hl
        have hl : lv_has ls 11 [(0, .ref (ad 0 0)), (1, .int a1), (3, .int (nI f3)), (4, .int (nI l4)), (5, .int (nI q5)), (6, .int x6), (7, .int (wkI k)), (8, .null)] := hl
        refine lv_ifnullN (tgt := 94) hx hb dX9_seenDays_11 (by decide) ?_
        rw [hn11] at hlq
        have hle := lks_none hlq
        subst hle
        refine lv_iload hx hb dX9_seenDays_94 (lv_at hl 5 rfl) ?_
        subst hQ
        exact x_iret E hr hlk (by rw [← hp]; rfl) dX9_seenDays_96
      · skip
        rw [hi11]
        rw [hi11] at hl
        have hl : lv_has ls 11 [(0, .ref (ad 0 0)), (1, .int a1), (3, .int (nI f3)), (4, .int (nI l4)), (5, .int (nI q5)), (6, .int x6), (7, .int (wkI k)), (8, .ref (ad 10 j))] := hl
        refine lv_ifnull hx hb dX9_seenDays_11 ?_
        rw [hi11] at hlq
        obtain ⟨d2, r2, o2, rfl, hjl, hjc, hlr⟩ := lks_some hlq
        have hd2 : d2 < 2001 := hdw.1
        have hdr : dwn 2001 r2 := dwn_le (by omega) hdw.2
        refine lv_aload hx hb dX9_seenDays_14 (lv_at hl 7 rfl) ?_
        refine x_get E hw 10 j (hjl) hjc cl_4 ly_4 0 (by decide) tw_328 rfl dX9_seenDays_16 ?_
        refine lv_bipush (v := 7) hx hb dX9_seenDays_19 (by decide) ?_
        refine lv_idiv hx hb dX9_seenDays_21 (by decide) ?_
        refine x_top (x := (nI d2 / 7)) (y := (nI (d2 / 7))) (pk_div (by omega) (by decide) (by decide)) ?_
        refine lv_istore (lv' := [(9, .int (nI (d2 / 7))), (0, .ref (ad 0 0)), (1, .int a1), (3, .int (nI f3)), (4, .int (nI l4)), (5, .int (nI q5)), (6, .int x6), (7, .int (wkI k)), (8, .ref (ad 10 j))]) hx hb dX9_seenDays_22 hl (by decide) rfl (fun ls hl => ?_)
        refine lv_aload hx hb dX9_seenDays_24 (lv_at hl 8 rfl) ?_
        refine x_get E hw 10 j (hjl) hjc cl_4 ly_4 0 (by decide) tw_328 rfl dX9_seenDays_26 ?_
        refine lv_iload hx hb dX9_seenDays_29 (lv_at hl 5 rfl) ?_
        refine lv_icmp_gt (tgt := 49) hx hb dX9_seenDays_31 (by decide) (fun c_31 => ?_) (fun c_31 => ?_)
        · skip
          have hc_nq : ¬ d2 ≤ q5 := by have q9 := (nI_ltI (a := q5) (b := d2) (by omega) (by omega)).mp c_31; omega
          refine lv_iconst (v := 0) hx hb dX9_seenDays_49 (by decide) ?_
          refine lv_istore (lv' := [(10, .int 0), (9, .int (nI (d2 / 7))), (0, .ref (ad 0 0)), (1, .int a1), (3, .int (nI f3)), (4, .int (nI l4)), (5, .int (nI q5)), (6, .int x6), (7, .int (wkI k)), (8, .ref (ad 10 j))]) hx hb dX9_seenDays_50 hl (by decide) rfl (fun ls hl => ?_)
          refine lv_iload hx hb dX9_seenDays_52 (lv_at hl 0 rfl) ?_
          refine lv_if_eq (tgt := 84) hx hb dX9_seenDays_54 (by decide) (fun c_54 => ?_) (fun c_54 => ?_)
          · skip
            refine lv_aload hx hb dX9_seenDays_84 (lv_at hl 9 rfl) ?_
            refine x_get E hw 10 j (hjl) hjc cl_4 ly_4 1 (by decide) tw_330 rfl dX9_seenDays_86 ?_
            refine x_astoreQ (lv' := [(8, va_rf (Option.map (ad 10) o2)), (10, .int 0), (9, .int (nI (d2 / 7))), (0, .ref (ad 0 0)), (1, .int a1), (3, .int (nI f3)), (4, .int (nI l4)), (5, .int (nI q5)), (6, .int x6), (7, .int (wkI k))]) hx hb dX9_seenDays_89 hl (by decide) rfl (fun ls hl => ?_)
            refine lv_goto (tgt := 9) hx hb dX9_seenDays_91 (by decide) ?_
            exact ih9 o2 r2 x6 k (hlr) (hdr) (hk) (by rw [← hp, cSn, if_neg (fun q => hc_nq q.1)]) (by simp at hfu; omega) ls (lv_sub hl [3, 4, 5, 6, 7, 8, 9, 0] (rfl))
          · skip
            exact absurd c_54 (by decide)
        · skip
          have hc_q : d2 ≤ q5 := by have q9 := mt (nI_ltI (a := q5) (b := d2) (by omega) (by omega)).mpr c_31; omega
          refine lv_iload hx hb dX9_seenDays_34 (lv_at hl 0 rfl) ?_
          refine lv_iload_n hx hb dX9_seenDays_36 rfl (lv_at hl 3 rfl) ?_
          refine lv_iload hx hb dX9_seenDays_37 (lv_at hl 4 rfl) ?_
          refine x_read (x_runS (rest := []) E cbX9_within tw_121 (kX9_within l D ca (nI (d2 / 7)) (nI f3) (nI l4) ) ⟨rfl, rfl, by decide, by decide⟩ (fun _ _ _ _ h => h) (fun _ _ _ => trivial) rfl hl.1 rfl (Nat.le_of_ble_eq_true rfl) dX9_seenDays_39 ⟨by decide, by decide⟩) ?_
          refine lv_if_eq (tgt := 49) hx hb dX9_seenDays_42 (by decide) (fun c_42 => ?_) (fun c_42 => ?_)
          · skip
            have c_42 := bB_0.mp c_42
            have hc_nw : ¬ (f3 ≤ d2 / 7 ∧ d2 / 7 ≤ l4) := fun q => by rw [(isIn_nI (by omega) (by omega) (by omega)).mpr q] at c_42; cases c_42
            refine lv_iconst (v := 0) hx hb dX9_seenDays_49 (by decide) ?_
            refine lv_istore (lv' := [(10, .int 0), (9, .int (nI (d2 / 7))), (0, .ref (ad 0 0)), (1, .int a1), (3, .int (nI f3)), (4, .int (nI l4)), (5, .int (nI q5)), (6, .int x6), (7, .int (wkI k)), (8, .ref (ad 10 j))]) hx hb dX9_seenDays_50 hl (by decide) rfl (fun ls hl => ?_)
            refine lv_iload hx hb dX9_seenDays_52 (lv_at hl 0 rfl) ?_
            refine lv_if_eq (tgt := 84) hx hb dX9_seenDays_54 (by decide) (fun c_54 => ?_) (fun c_54 => ?_)
            · skip
              refine lv_aload hx hb dX9_seenDays_84 (lv_at hl 9 rfl) ?_
              refine x_get E hw 10 j (hjl) hjc cl_4 ly_4 1 (by decide) tw_330 rfl dX9_seenDays_86 ?_
              refine x_astoreQ (lv' := [(8, va_rf (Option.map (ad 10) o2)), (10, .int 0), (9, .int (nI (d2 / 7))), (0, .ref (ad 0 0)), (1, .int a1), (3, .int (nI f3)), (4, .int (nI l4)), (5, .int (nI q5)), (6, .int x6), (7, .int (wkI k))]) hx hb dX9_seenDays_89 hl (by decide) rfl (fun ls hl => ?_)
              refine lv_goto (tgt := 9) hx hb dX9_seenDays_91 (by decide) ?_
              exact ih9 o2 r2 x6 k (hlr) (hdr) (hk) (by rw [← hp, cSn, if_neg (fun q => hc_nw ⟨q.2.1, q.2.2.1⟩)]) (by simp at hfu; omega) ls (lv_sub hl [3, 4, 5, 6, 7, 8, 9, 0] (rfl))
            · skip
              exact absurd c_54 (by decide)
          · skip
            have c_42 := bB_n0.mp c_42
            have hc_w := (isIn_nI (by omega) (by omega) (by omega)).mp c_42
            refine lv_iconst (v := 1) hx hb dX9_seenDays_45 (by decide) ?_
            refine lv_goto (tgt := 50) hx hb dX9_seenDays_46 (by decide) ?_
            refine lv_istore (lv' := [(10, .int 1), (9, .int (nI (d2 / 7))), (0, .ref (ad 0 0)), (1, .int a1), (3, .int (nI f3)), (4, .int (nI l4)), (5, .int (nI q5)), (6, .int x6), (7, .int (wkI k)), (8, .ref (ad 10 j))]) hx hb dX9_seenDays_50 hl (by decide) rfl (fun ls hl => ?_)
            refine lv_iload hx hb dX9_seenDays_52 (lv_at hl 0 rfl) ?_
            refine lv_if_eq (tgt := 84) hx hb dX9_seenDays_54 (by decide) (fun c_54 => ?_) (fun c_54 => ?_)
            · skip
              exact absurd c_54 (by decide)
            · skip
              refine lv_iload hx hb dX9_seenDays_57 (lv_at hl 1 rfl) ?_
              refine lv_iload hx hb dX9_seenDays_59 (lv_at hl 8 rfl) ?_
              refine lv_icmp_eq (tgt := 84) hx hb dX9_seenDays_61 (by decide) (fun c_61 => ?_) (fun c_61 => ?_)
              · skip
                have hc_nk : k = some (d2 / 7) := (wkI_eq (by omega) hk).mp c_61
                refine lv_aload hx hb dX9_seenDays_84 (lv_at hl 9 rfl) ?_
                refine x_get E hw 10 j (hjl) hjc cl_4 ly_4 1 (by decide) tw_330 rfl dX9_seenDays_86 ?_
                refine x_astoreQ (lv' := [(8, va_rf (Option.map (ad 10) o2)), (10, .int 1), (9, .int (nI (d2 / 7))), (0, .ref (ad 0 0)), (1, .int a1), (3, .int (nI f3)), (4, .int (nI l4)), (5, .int (nI q5)), (6, .int x6), (7, .int (wkI k))]) hx hb dX9_seenDays_89 hl (by decide) rfl (fun ls hl => ?_)
                refine lv_goto (tgt := 9) hx hb dX9_seenDays_91 (by decide) ?_
                exact ih9 o2 r2 x6 k (hlr) (hdr) (hk) (by rw [← hp, cSn, if_neg (fun q => q.2.2.2 hc_nk)]) (by simp at hfu; omega) ls (lv_sub hl [3, 4, 5, 6, 7, 8, 9, 0] (rfl))
              · skip
                have hc_k : ¬ k = some (d2 / 7) := mt (wkI_eq (by omega) hk).mpr c_61
                refine lv_iload hx hb dX9_seenDays_64 (lv_at hl 7 rfl) ?_
                refine lv_aload_n hx hb dX9_seenDays_66 rfl (lv_at hl 2 rfl) ?_
                refine lv_iload_n hx hb dX9_seenDays_67 rfl (lv_at hl 3 rfl) ?_
                refine lv_iload hx hb dX9_seenDays_68 (lv_at hl 1 rfl) ?_
                refine lv_iload hx hb dX9_seenDays_70 (lv_at hl 1 rfl) ?_
                refine lv_iload hx hb dX9_seenDays_72 (lv_at hl 6 rfl) ?_
                refine x_read (x_runV (rest := [.int x6]) E cbX9_daysWith tw_351 (kX9_daysWith l D ca cnt ad ct v g nw nb nc nm   a1 (d2 / 7) (d2 / 7) q5 (hC) (by omega) (by omega) (hq5)) ⟨rfl, rfl, by decide, by decide⟩ (x_recv E hw cl_9 (hx0) fz0) (fun _ _ _ _ h => h) (fun U hU _ => by rw [hU]; exact hw.1) rfl hl.1 rfl (Nat.le_of_ble_eq_true rfl) dX9_seenDays_74 ⟨by decide, by decide⟩) ?_
                refine lv_iadd hx hb dX9_seenDays_77 ?_
                refine lv_istore (lv' := [(6, .int (x6 + cDw g nc nm a1 (d2 / 7) (d2 / 7) q5)), (10, .int 1), (9, .int (nI (d2 / 7))), (0, .ref (ad 0 0)), (1, .int a1), (3, .int (nI f3)), (4, .int (nI l4)), (5, .int (nI q5)), (7, .int (wkI k)), (8, .ref (ad 10 j))]) hx hb dX9_seenDays_78 hl (by decide) rfl (fun ls hl => ?_)
                refine lv_iload hx hb dX9_seenDays_80 (lv_at hl 2 rfl) ?_
                refine lv_istore (lv' := [(7, .int (nI (d2 / 7))), (6, .int (x6 + cDw g nc nm a1 (d2 / 7) (d2 / 7) q5)), (10, .int 1), (9, .int (nI (d2 / 7))), (0, .ref (ad 0 0)), (1, .int a1), (3, .int (nI f3)), (4, .int (nI l4)), (5, .int (nI q5)), (8, .ref (ad 10 j))]) hx hb dX9_seenDays_82 hl (by decide) rfl (fun ls hl => ?_)
                refine lv_aload hx hb dX9_seenDays_84 (lv_at hl 9 rfl) ?_
                refine x_get E hw 10 j (hjl) hjc cl_4 ly_4 1 (by decide) tw_330 rfl dX9_seenDays_86 ?_
                refine x_astoreQ (lv' := [(8, va_rf (Option.map (ad 10) o2)), (7, .int (nI (d2 / 7))), (6, .int (x6 + cDw g nc nm a1 (d2 / 7) (d2 / 7) q5)), (10, .int 1), (9, .int (nI (d2 / 7))), (0, .ref (ad 0 0)), (1, .int a1), (3, .int (nI f3)), (4, .int (nI l4)), (5, .int (nI q5))]) hx hb dX9_seenDays_89 hl (by decide) rfl (fun ls hl => ?_)
                refine lv_goto (tgt := 9) hx hb dX9_seenDays_91 (by decide) ?_
                exact ih9 o2 r2 (x6 + cDw g nc nm a1 (d2 / 7) (d2 / 7) q5) (some (d2 / 7)) (hlr) (hdr) (fun z h => by cases h; omega) (by rw [← hp, cSn, if_pos ⟨hc_q, hc_w.1, hc_w.2, hc_k⟩]) (by simp at hfu; omega) ls (lv_sub hl [5, 6, 7, 8, 9, 2, 1, 0] (rfl))
  exact lp9 (l0.length + 1) none l0 0 none (hl0) (hd0) (fun z h => by cases h) (rfl) (by omega) ls (lv_sub hl [3, 4, 6, 7, 8, 2, 1, 0] (rfl))
set_option maxHeartbeats 4000000 in
set_option maxRecDepth 100000 in
theorem kX9_seenDays_s (l : Launch) (D : va_G) (ca : Nat → ClassId) (cnt : Nat → Nat) (ad : Nat → Nat → Nat) (ct : Nat → Nat → va_E) (v : Nat → Int32) (g : Nat → Nat → Int32) (nw : Nat) (nb : Nat) (nc : Nat) (nm : Nat) (a1 : Int32) (j0 : Nat) (f3 : Nat) (l4 : Nat) (q5 : Nat) (l0 : List Nat) (hC : cRep ca cnt ad ct v g nw nb nc nm) (hf3 : f3 ≤ 300) (hl4 : l4 ≤ 300) (hq5 : q5 ≤ nw) (hl0 : lks cnt ad ct (some j0) l0) (hd0 : dwn 2001 l0) : Met l yX9_seenDays (wz yX9_seenDays cX9_seenDays 11 (some .int)) (rmL 3 0 0) (va_Pc [.ref (ad 0 0), .int a1, .ref (ad 10 j0), .int (nI f3), .int (nI l4), .int (nI q5)] (fun U => wq D cnt ad ct U.heap ∧ gK D ca U)) (QcRead (cSn g nc nm a1 f3 l4 q5 l0 0 none)) 0 0 (fun _ => False) := by
  refine x_met (by decide) (Nat.le_of_ble_eq_true rfl) ?_
  intro p e s m below meth c E hr hlk hnm hq ls hl
  generalize hav : ([.ref (ad 0 0), .int a1, .ref (ad 10 j0), .int (nI f3), .int (nI l4), .int (nI q5)] : List Value).toArray = args at E ⊢
  have hx := E.1
  have hb := E.2.1
  have hown := E.2.2.2.1
  have hts := E.2.2.2.2.1
  have hw : wd D (wA cnt ad s.heap.size) s.heap cnt ad ct s.heap [] := wd.start hq
  generalize hQ : MQ below (QcRead (cSn g nc nm a1 f3 l4 q5 l0 0 none)) args s 0 0 (fun _ => False) = Q
  have hl : lv_has ls 11 [(0, .ref (ad 0 0)), (1, .int a1), (2, .ref (ad 10 j0)), (3, .int (nI f3)), (4, .int (nI l4)), (5, .int (nI q5))] := hl
  obtain ⟨hO, hIv, tp, htp, hX, hT, hB, hCc, hN⟩ := id hC
  obtain ⟨hx0, hx1, hx2, hx3, fz0⟩ := id hX
  have hO5 := hO.2.2.2.2
  obtain ⟨hb4, hb5, fB, fz1, hBd⟩ := id hB
  obtain ⟨hc6, hc7, fC, dt, ow, ix, ak, fz2, hCd⟩ := id hCc
  obtain ⟨hn9, fN, lk, fz3, hNd⟩ := id hN
  obtain ⟨ht13, ht14, ht11, ht12, szq, nq, nrq, rtq, bq0, bq1, vsq, pq1, pq2, hsz, hsz2, hnq, hnr, hrt, fz11, fz11b, fz12, fz12b, fz13, fz14, hby, hrl⟩ := id hT
  refine lv_iconst (v := 0) hx hb dX9_seenDays_0 (by decide) ?_
  refine lv_istore (lv' := [(6, .int 0), (0, .ref (ad 0 0)), (1, .int a1), (2, .ref (ad 10 j0)), (3, .int (nI f3)), (4, .int (nI l4)), (5, .int (nI q5))]) hx hb dX9_seenDays_1 hl (by decide) rfl (fun ls hl => ?_)
  refine lv_iconst (v := (-1)) hx hb dX9_seenDays_3 (by decide) ?_
  refine lv_istore (lv' := [(7, .int (-1)), (6, .int 0), (0, .ref (ad 0 0)), (1, .int a1), (2, .ref (ad 10 j0)), (3, .int (nI f3)), (4, .int (nI l4)), (5, .int (nI q5))]) hx hb dX9_seenDays_4 hl (by decide) rfl (fun ls hl => ?_)
  refine lv_aload_n hx hb dX9_seenDays_6 rfl (lv_at hl 4 rfl) ?_
  refine lv_astore (lv' := [(8, .ref (ad 10 j0)), (7, .int (-1)), (6, .int 0), (0, .ref (ad 0 0)), (1, .int a1), (2, .ref (ad 10 j0)), (3, .int (nI f3)), (4, .int (nI l4)), (5, .int (nI q5))]) hx hb dX9_seenDays_7 hl (by decide) rfl (fun ls hl => ?_)
  have lp9 : ∀ (n : Nat) (o : Option Nat) (ll : List Nat) (x6 : Int32) (k : Option Nat), (lks cnt ad ct o ll) → (dwn 2001 ll) → (∀ z, k = some z → z < 1000000) → (cSn g nc nm a1 f3 l4 q5 ll x6 k = cSn g nc nm a1 f3 l4 q5 l0 0 none) → (ll.length < n) → ∀ ls : Array Slot, lv_has ls 11 [(0, .ref (ad 0 0)), (1, .int a1), (3, .int (nI f3)), (4, .int (nI l4)), (5, .int (nI q5)), (6, .int x6), (7, .int (wkI k)), (8, va_rf (Option.map (ad 10) o))] → W p l e (rmL 3 0 0) s m args below meth c s.heap [] 0 0 Q (F0 m 9 ls []) := by
    intro n
    induction n with
    | zero =>
      intro o ll x6 k hlq hdw hk hp hfu ls hl
      exact absurd hfu (by omega)
    | succ n ih9 =>
      intro o ll x6 k hlq hdw hk hp hfu ls hl
      refine x_aloadQ hx hb dX9_seenDays_9 (lv_at hl 7 rfl) ?_
      rcases x_opt (o) with hn11 | ⟨j, hi11⟩
      · skip
        rw [hn11]
        rw [hn11] at hl
        have hl : lv_has ls 11 [(0, .ref (ad 0 0)), (1, .int a1), (3, .int (nI f3)), (4, .int (nI l4)), (5, .int (nI q5)), (6, .int x6), (7, .int (wkI k)), (8, .null)] := hl
        refine lv_ifnullN (tgt := 94) hx hb dX9_seenDays_11 (by decide) ?_
        rw [hn11] at hlq
        have hle := lks_none hlq
        subst hle
        refine lv_iload hx hb dX9_seenDays_94 (lv_at hl 5 rfl) ?_
        subst hQ
        exact x_iret E hr hlk (by rw [← hp]; rfl) dX9_seenDays_96
      · skip
        rw [hi11]
        rw [hi11] at hl
        have hl : lv_has ls 11 [(0, .ref (ad 0 0)), (1, .int a1), (3, .int (nI f3)), (4, .int (nI l4)), (5, .int (nI q5)), (6, .int x6), (7, .int (wkI k)), (8, .ref (ad 10 j))] := hl
        refine lv_ifnull hx hb dX9_seenDays_11 ?_
        rw [hi11] at hlq
        obtain ⟨d2, r2, o2, rfl, hjl, hjc, hlr⟩ := lks_some hlq
        have hd2 : d2 < 2001 := hdw.1
        have hdr : dwn 2001 r2 := dwn_le (by omega) hdw.2
        refine lv_aload hx hb dX9_seenDays_14 (lv_at hl 7 rfl) ?_
        refine x_get E hw 10 j (hjl) hjc cl_4 ly_4 0 (by decide) tw_328 rfl dX9_seenDays_16 ?_
        refine lv_bipush (v := 7) hx hb dX9_seenDays_19 (by decide) ?_
        refine lv_idiv hx hb dX9_seenDays_21 (by decide) ?_
        refine x_top (x := (nI d2 / 7)) (y := (nI (d2 / 7))) (pk_div (by omega) (by decide) (by decide)) ?_
        refine lv_istore (lv' := [(9, .int (nI (d2 / 7))), (0, .ref (ad 0 0)), (1, .int a1), (3, .int (nI f3)), (4, .int (nI l4)), (5, .int (nI q5)), (6, .int x6), (7, .int (wkI k)), (8, .ref (ad 10 j))]) hx hb dX9_seenDays_22 hl (by decide) rfl (fun ls hl => ?_)
        refine lv_aload hx hb dX9_seenDays_24 (lv_at hl 8 rfl) ?_
        refine x_get E hw 10 j (hjl) hjc cl_4 ly_4 0 (by decide) tw_328 rfl dX9_seenDays_26 ?_
        refine lv_iload hx hb dX9_seenDays_29 (lv_at hl 5 rfl) ?_
        refine lv_icmp_gt (tgt := 49) hx hb dX9_seenDays_31 (by decide) (fun c_31 => ?_) (fun c_31 => ?_)
        · skip
          have hc_nq : ¬ d2 ≤ q5 := by have q9 := (nI_ltI (a := q5) (b := d2) (by omega) (by omega)).mp c_31; omega
          refine lv_iconst (v := 0) hx hb dX9_seenDays_49 (by decide) ?_
          refine lv_istore (lv' := [(10, .int 0), (9, .int (nI (d2 / 7))), (0, .ref (ad 0 0)), (1, .int a1), (3, .int (nI f3)), (4, .int (nI l4)), (5, .int (nI q5)), (6, .int x6), (7, .int (wkI k)), (8, .ref (ad 10 j))]) hx hb dX9_seenDays_50 hl (by decide) rfl (fun ls hl => ?_)
          refine lv_iload hx hb dX9_seenDays_52 (lv_at hl 0 rfl) ?_
          refine lv_if_eq (tgt := 84) hx hb dX9_seenDays_54 (by decide) (fun c_54 => ?_) (fun c_54 => ?_)
          · skip
            refine lv_aload hx hb dX9_seenDays_84 (lv_at hl 9 rfl) ?_
            refine x_get E hw 10 j (hjl) hjc cl_4 ly_4 1 (by decide) tw_330 rfl dX9_seenDays_86 ?_
            refine x_astoreQ (lv' := [(8, va_rf (Option.map (ad 10) o2)), (10, .int 0), (9, .int (nI (d2 / 7))), (0, .ref (ad 0 0)), (1, .int a1), (3, .int (nI f3)), (4, .int (nI l4)), (5, .int (nI q5)), (6, .int x6), (7, .int (wkI k))]) hx hb dX9_seenDays_89 hl (by decide) rfl (fun ls hl => ?_)
            refine lv_goto (tgt := 9) hx hb dX9_seenDays_91 (by decide) ?_
            exact ih9 o2 r2 x6 k (hlr) (hdr) (hk) (by rw [← hp, cSn, if_neg (fun q => hc_nq q.1)]) (by simp at hfu; omega) ls (lv_sub hl [3, 4, 5, 6, 7, 8, 9, 0] (rfl))
          · skip
            exact absurd c_54 (by decide)
        · skip
          have hc_q : d2 ≤ q5 := by have q9 := mt (nI_ltI (a := q5) (b := d2) (by omega) (by omega)).mpr c_31; omega
          refine lv_iload hx hb dX9_seenDays_34 (lv_at hl 0 rfl) ?_
          refine lv_iload_n hx hb dX9_seenDays_36 rfl (lv_at hl 3 rfl) ?_
          refine lv_iload hx hb dX9_seenDays_37 (lv_at hl 4 rfl) ?_
          refine x_read (x_runS (rest := []) E cbX9_within tw_121 (kX9_within l D ca (nI (d2 / 7)) (nI f3) (nI l4) ) ⟨rfl, rfl, by decide, by decide⟩ (fun _ _ _ _ h => h) (fun _ _ _ => trivial) rfl hl.1 rfl (Nat.le_of_ble_eq_true rfl) dX9_seenDays_39 ⟨by decide, by decide⟩) ?_
          refine lv_if_eq (tgt := 49) hx hb dX9_seenDays_42 (by decide) (fun c_42 => ?_) (fun c_42 => ?_)
          · skip
            have c_42 := bB_0.mp c_42
            have hc_nw : ¬ (f3 ≤ d2 / 7 ∧ d2 / 7 ≤ l4) := fun q => by rw [(isIn_nI (by omega) (by omega) (by omega)).mpr q] at c_42; cases c_42
            refine lv_iconst (v := 0) hx hb dX9_seenDays_49 (by decide) ?_
            refine lv_istore (lv' := [(10, .int 0), (9, .int (nI (d2 / 7))), (0, .ref (ad 0 0)), (1, .int a1), (3, .int (nI f3)), (4, .int (nI l4)), (5, .int (nI q5)), (6, .int x6), (7, .int (wkI k)), (8, .ref (ad 10 j))]) hx hb dX9_seenDays_50 hl (by decide) rfl (fun ls hl => ?_)
            refine lv_iload hx hb dX9_seenDays_52 (lv_at hl 0 rfl) ?_
            refine lv_if_eq (tgt := 84) hx hb dX9_seenDays_54 (by decide) (fun c_54 => ?_) (fun c_54 => ?_)
            · skip
              refine lv_aload hx hb dX9_seenDays_84 (lv_at hl 9 rfl) ?_
              refine x_get E hw 10 j (hjl) hjc cl_4 ly_4 1 (by decide) tw_330 rfl dX9_seenDays_86 ?_
              refine x_astoreQ (lv' := [(8, va_rf (Option.map (ad 10) o2)), (10, .int 0), (9, .int (nI (d2 / 7))), (0, .ref (ad 0 0)), (1, .int a1), (3, .int (nI f3)), (4, .int (nI l4)), (5, .int (nI q5)), (6, .int x6), (7, .int (wkI k))]) hx hb dX9_seenDays_89 hl (by decide) rfl (fun ls hl => ?_)
              refine lv_goto (tgt := 9) hx hb dX9_seenDays_91 (by decide) ?_
              exact ih9 o2 r2 x6 k (hlr) (hdr) (hk) (by rw [← hp, cSn, if_neg (fun q => hc_nw ⟨q.2.1, q.2.2.1⟩)]) (by simp at hfu; omega) ls (lv_sub hl [3, 4, 5, 6, 7, 8, 9, 0] (rfl))
            · skip
              exact absurd c_54 (by decide)
          · skip
            have c_42 := bB_n0.mp c_42
            have hc_w := (isIn_nI (by omega) (by omega) (by omega)).mp c_42
            refine lv_iconst (v := 1) hx hb dX9_seenDays_45 (by decide) ?_
            refine lv_goto (tgt := 50) hx hb dX9_seenDays_46 (by decide) ?_
            refine lv_istore (lv' := [(10, .int 1), (9, .int (nI (d2 / 7))), (0, .ref (ad 0 0)), (1, .int a1), (3, .int (nI f3)), (4, .int (nI l4)), (5, .int (nI q5)), (6, .int x6), (7, .int (wkI k)), (8, .ref (ad 10 j))]) hx hb dX9_seenDays_50 hl (by decide) rfl (fun ls hl => ?_)
            refine lv_iload hx hb dX9_seenDays_52 (lv_at hl 0 rfl) ?_
            refine lv_if_eq (tgt := 84) hx hb dX9_seenDays_54 (by decide) (fun c_54 => ?_) (fun c_54 => ?_)
            · skip
              exact absurd c_54 (by decide)
            · skip
              refine lv_iload hx hb dX9_seenDays_57 (lv_at hl 1 rfl) ?_
              refine lv_iload hx hb dX9_seenDays_59 (lv_at hl 8 rfl) ?_
              refine lv_icmp_eq (tgt := 84) hx hb dX9_seenDays_61 (by decide) (fun c_61 => ?_) (fun c_61 => ?_)
              · skip
                have hc_nk : k = some (d2 / 7) := (wkI_eq (by omega) hk).mp c_61
                refine lv_aload hx hb dX9_seenDays_84 (lv_at hl 9 rfl) ?_
                refine x_get E hw 10 j (hjl) hjc cl_4 ly_4 1 (by decide) tw_330 rfl dX9_seenDays_86 ?_
                refine x_astoreQ (lv' := [(8, va_rf (Option.map (ad 10) o2)), (10, .int 1), (9, .int (nI (d2 / 7))), (0, .ref (ad 0 0)), (1, .int a1), (3, .int (nI f3)), (4, .int (nI l4)), (5, .int (nI q5)), (6, .int x6), (7, .int (wkI k))]) hx hb dX9_seenDays_89 hl (by decide) rfl (fun ls hl => ?_)
                refine lv_goto (tgt := 9) hx hb dX9_seenDays_91 (by decide) ?_
                exact ih9 o2 r2 x6 k (hlr) (hdr) (hk) (by rw [← hp, cSn, if_neg (fun q => q.2.2.2 hc_nk)]) (by simp at hfu; omega) ls (lv_sub hl [3, 4, 5, 6, 7, 8, 9, 0] (rfl))
              · skip
                have hc_k : ¬ k = some (d2 / 7) := mt (wkI_eq (by omega) hk).mpr c_61
                refine lv_iload hx hb dX9_seenDays_64 (lv_at hl 7 rfl) ?_
                refine lv_aload_n hx hb dX9_seenDays_66 rfl (lv_at hl 2 rfl) ?_
                refine lv_iload_n hx hb dX9_seenDays_67 rfl (lv_at hl 3 rfl) ?_
                refine lv_iload hx hb dX9_seenDays_68 (lv_at hl 1 rfl) ?_
                refine lv_iload hx hb dX9_seenDays_70 (lv_at hl 1 rfl) ?_
                refine lv_iload hx hb dX9_seenDays_72 (lv_at hl 6 rfl) ?_
                refine x_read (x_runV (rest := [.int x6]) E cbX9_daysWith tw_351 (kX9_daysWith l D ca cnt ad ct v g nw nb nc nm   a1 (d2 / 7) (d2 / 7) q5 (hC) (by omega) (by omega) (hq5)) ⟨rfl, rfl, by decide, by decide⟩ (x_recv E hw cl_9 (hx0) fz0) (fun _ _ _ _ h => h) (fun U hU _ => by rw [hU]; exact hw.1) rfl hl.1 rfl (Nat.le_of_ble_eq_true rfl) dX9_seenDays_74 ⟨by decide, by decide⟩) ?_
                refine lv_iadd hx hb dX9_seenDays_77 ?_
                refine lv_istore (lv' := [(6, .int (x6 + cDw g nc nm a1 (d2 / 7) (d2 / 7) q5)), (10, .int 1), (9, .int (nI (d2 / 7))), (0, .ref (ad 0 0)), (1, .int a1), (3, .int (nI f3)), (4, .int (nI l4)), (5, .int (nI q5)), (7, .int (wkI k)), (8, .ref (ad 10 j))]) hx hb dX9_seenDays_78 hl (by decide) rfl (fun ls hl => ?_)
                refine lv_iload hx hb dX9_seenDays_80 (lv_at hl 2 rfl) ?_
                refine lv_istore (lv' := [(7, .int (nI (d2 / 7))), (6, .int (x6 + cDw g nc nm a1 (d2 / 7) (d2 / 7) q5)), (10, .int 1), (9, .int (nI (d2 / 7))), (0, .ref (ad 0 0)), (1, .int a1), (3, .int (nI f3)), (4, .int (nI l4)), (5, .int (nI q5)), (8, .ref (ad 10 j))]) hx hb dX9_seenDays_82 hl (by decide) rfl (fun ls hl => ?_)
                refine lv_aload hx hb dX9_seenDays_84 (lv_at hl 9 rfl) ?_
                refine x_get E hw 10 j (hjl) hjc cl_4 ly_4 1 (by decide) tw_330 rfl dX9_seenDays_86 ?_
                refine x_astoreQ (lv' := [(8, va_rf (Option.map (ad 10) o2)), (7, .int (nI (d2 / 7))), (6, .int (x6 + cDw g nc nm a1 (d2 / 7) (d2 / 7) q5)), (10, .int 1), (9, .int (nI (d2 / 7))), (0, .ref (ad 0 0)), (1, .int a1), (3, .int (nI f3)), (4, .int (nI l4)), (5, .int (nI q5))]) hx hb dX9_seenDays_89 hl (by decide) rfl (fun ls hl => ?_)
                refine lv_goto (tgt := 9) hx hb dX9_seenDays_91 (by decide) ?_
                exact ih9 o2 r2 (x6 + cDw g nc nm a1 (d2 / 7) (d2 / 7) q5) (some (d2 / 7)) (hlr) (hdr) (fun z h => by cases h; omega) (by rw [← hp, cSn, if_pos ⟨hc_q, hc_w.1, hc_w.2, hc_k⟩]) (by simp at hfu; omega) ls (lv_sub hl [5, 6, 7, 8, 9, 2, 1, 0] (rfl))
  exact lp9 (l0.length + 1) (some j0) l0 0 none (hl0) (hd0) (fun z h => by cases h) (rfl) (by omega) ls (lv_sub hl [3, 4, 6, 7, 8, 2, 1, 0] (rfl))
theorem kX9_seenDays (l : Launch) (D : va_G) (ca : Nat → ClassId) (cnt : Nat → Nat) (ad : Nat → Nat → Nat) (ct : Nat → Nat → va_E) (v : Nat → Int32) (g : Nat → Nat → Int32) (nw nb nc nm : Nat) (a1 : Int32) (o : Option Nat) (f3 l4 q5 : Nat) (l0 : List Nat) (hC : cRep ca cnt ad ct v g nw nb nc nm) (hf3 : f3 ≤ 300) (hl4 : l4 ≤ 300) (hq5 : q5 ≤ nw) (hl0 : lks cnt ad ct o l0) (hd0 : dwn 2001 l0) : Met l yX9_seenDays (wz yX9_seenDays cX9_seenDays 11 (some .int)) (rmL 3 0 0) (va_Pc [.ref (ad 0 0), .int a1, va_rf (Option.map (ad 10) o), .int (nI f3), .int (nI l4), .int (nI q5)] (fun U => wq D cnt ad ct U.heap ∧ gK D ca U)) (QcRead (cSn g nc nm a1 f3 l4 q5 l0 0 none)) 0 0 (fun _ => False) := by
  cases o with
  | none => exact kX9_seenDays_n l D ca cnt ad ct v g nw nb nc nm a1 f3 l4 q5 l0 hC hf3 hl4 hq5 hl0 hd0
  | some j0 => exact kX9_seenDays_s l D ca cnt ad ct v g nw nb nc nm a1 j0 f3 l4 q5 l0 hC hf3 hl4 hq5 hl0 hd0
