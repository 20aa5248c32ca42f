set_option maxHeartbeats 4000000 in
set_option maxRecDepth 100000 in
theorem kX10_claim (l : Launch) (D : va_G) (ca : Nat → ClassId) (ad : Nat → Nat → Nat) (z9 : Nat) (v : Nat → Int32) (g : Nat → Nat → Int32) (nw : Nat) (nb : Nat) (nc : Nat) (nm : Nat) (a1 : Int32) (a2 : Int32) (a3 : Int32) (a4 : Int32) (a5 : Int32) (a6 : Int32) (L : List Int32) (pl : Nat → Int32) (hO : mOK v nw nb nc nm) (hL : ¬ v 5 = 0 → cdOK g L) : Met l yX10_claim (wz yX10_claim cX10_claim 13 (some .int)) (rmL 4 0 0) (va_Pc [.ref (ad 33 0), .int a1, .int a2, .int a3, .int a4, .int a5, .int a6] (fun U => (U.heap.size = z9 ∧ mq D ca ad v (gr g 32 pl) U.heap) ∧ gK D ca U)) (QcW D (wA mcnt ad z9) (fun rv u => rv = some (.int (mClaim v g nw nc nm L a1 a2 a3 a4 a5 a6)) ∧ ∃ pl9, u = (mcnt, ad, mct ca ad v (gr g 32 pl9)))) 0 0 (wA mcnt ad z9) := by
  refine x_met (by decide) (Nat.le_of_ble_eq_true rfl) ?_
  intro p e s m below meth c E hr hlk hnm hq ls hl
  obtain ⟨hsz9, hq⟩ := hq
  subst hsz9
  generalize hav : ([.ref (ad 33 0), .int a1, .int a2, .int a3, .int a4, .int a5, .int a6] : List Value).toArray = args at E ⊢
  have hx := E.1
  have hb := E.2.1
  have hown := E.2.2.2.1
  have hts := E.2.2.2.2.1
  have hw : mw D (wA mcnt ad s.heap.size) s.heap ca ad v (gr g 32 pl) s.heap [] := wd.start hq
  generalize hQ : MQ below (QcW D (wA mcnt ad s.heap.size) (fun rv u => rv = some (.int (mClaim v g nw nc nm L a1 a2 a3 a4 a5 a6)) ∧ ∃ pl9, u = (mcnt, ad, mct ca ad v (gr g 32 pl9)))) args s 0 0 (wA mcnt ad s.heap.size) = Q
  generalize hA9 : wA mcnt ad s.heap.size = A at hw hQ
  have hl : lv_has ls 13 [(0, .ref (ad 33 0)), (1, .int a1), (2, .int a2), (3, .int a3), (4, .int a4), (5, .int a5), (6, .int a6)] := hl
  have hO5 := hO.2.2.2.2
  suffices hgo : ∀ (H : Heap) (locs : List Loc), mw D A s.heap ca ad v (gr g 32 pl) H locs → W p l e (rmL 4 0 0) s m args below meth c H locs 0 0 Q (F0 m 0 ls []) from hgo _ _ hw
  clear hw
  intro H locs hw
  refine lv_iload_n hx hb dX10_claim_0 rfl (lv_at hl 1 rfl) ?_
  refine lv_iconst (v := 0) hx hb dX10_claim_1 (by decide) ?_
  refine lv_ldc hx hb hown (hts _ tw_676) dX10_claim_2 ?_
  refine x_read (x_runS (rest := []) E cbX10_in tw_647 (kX10_in l D ca a1 0 16777215 ) ⟨rfl, rfl, by decide, by decide⟩ (fun _ _ _ _ h => h) (fun _ _ _ => trivial) rfl hl.1 rfl (Nat.le_of_ble_eq_true rfl) dX10_claim_4 ⟨by decide, by decide⟩) ?_
  refine lv_if_eq (tgt := 68) hx hb dX10_claim_7 (by decide) (fun c_7 => ?_) (fun c_7 => ?_)
  · skip
    have c_7 := bB_0.mp c_7
    refine lv_iconst (v := 0) hx hb dX10_claim_68 (by decide) ?_
    refine lv_istore (lv' := [(7, .int 0), (0, .ref (ad 33 0)), (1, .int a1), (2, .int a2), (3, .int a3), (4, .int a4), (5, .int a5), (6, .int a6)]) hx hb dX10_claim_69 hl (by decide) rfl (fun ls hl => ?_)
    refine lv_iload hx hb dX10_claim_71 (lv_at hl 0 rfl) ?_
    refine lv_if_ne (tgt := 79) hx hb dX10_claim_73 (by decide) (fun c_73 => ?_) (fun c_73 => ?_)
    · skip
      exact absurd c_73 (by decide)
    · skip
      refine lv_bipush (v := (-3)) hx hb dX10_claim_76 (by decide) ?_
      subst hQ
      exact x_iretW E hr hlk hw (by decide) (by decide) (⟨by simp [mClaim, mClOK, c_7], _, rfl⟩) dX10_claim_78
  · skip
    have c_7 := bB_n0.mp c_7
    refine lv_iload_n hx hb dX10_claim_10 rfl (lv_at hl 2 rfl) ?_
    refine lv_iconst (v := 0) hx hb dX10_claim_11 (by decide) ?_
    refine lv_ldc hx hb hown (hts _ tw_676) dX10_claim_12 ?_
    refine x_read (x_runS (rest := []) E cbX10_in tw_647 (kX10_in l D ca a2 0 16777215 ) ⟨rfl, rfl, by decide, by decide⟩ (fun _ _ _ _ h => h) (fun _ _ _ => trivial) rfl hl.1 rfl (Nat.le_of_ble_eq_true rfl) dX10_claim_14 ⟨by decide, by decide⟩) ?_
    refine lv_if_eq (tgt := 68) hx hb dX10_claim_17 (by decide) (fun c_17 => ?_) (fun c_17 => ?_)
    · skip
      have c_17 := bB_0.mp c_17
      refine lv_iconst (v := 0) hx hb dX10_claim_68 (by decide) ?_
      refine lv_istore (lv' := [(7, .int 0), (0, .ref (ad 33 0)), (1, .int a1), (2, .int a2), (3, .int a3), (4, .int a4), (5, .int a5), (6, .int a6)]) hx hb dX10_claim_69 hl (by decide) rfl (fun ls hl => ?_)
      refine lv_iload hx hb dX10_claim_71 (lv_at hl 0 rfl) ?_
      refine lv_if_ne (tgt := 79) hx hb dX10_claim_73 (by decide) (fun c_73 => ?_) (fun c_73 => ?_)
      · skip
        exact absurd c_73 (by decide)
      · skip
        refine lv_bipush (v := (-3)) hx hb dX10_claim_76 (by decide) ?_
        subst hQ
        exact x_iretW E hr hlk hw (by decide) (by decide) (⟨by simp [mClaim, mClOK, c_7, c_17], _, rfl⟩) dX10_claim_78
    · skip
      have c_17 := bB_n0.mp c_17
      refine lv_iload_n hx hb dX10_claim_20 rfl (lv_at hl 3 rfl) ?_
      refine lv_iconst (v := 0) hx hb dX10_claim_21 (by decide) ?_
      refine lv_sipush (v := 2000) hx hb dX10_claim_22 (by decide) ?_
      refine x_read (x_runS (rest := []) E cbX10_in tw_647 (kX10_in l D ca a3 0 2000 ) ⟨rfl, rfl, by decide, by decide⟩ (fun _ _ _ _ h => h) (fun _ _ _ => trivial) rfl hl.1 rfl (Nat.le_of_ble_eq_true rfl) dX10_claim_25 ⟨by decide, by decide⟩) ?_
      refine lv_if_eq (tgt := 68) hx hb dX10_claim_28 (by decide) (fun c_28 => ?_) (fun c_28 => ?_)
      · skip
        have c_28 := bB_0.mp c_28
        refine lv_iconst (v := 0) hx hb dX10_claim_68 (by decide) ?_
        refine lv_istore (lv' := [(7, .int 0), (0, .ref (ad 33 0)), (1, .int a1), (2, .int a2), (3, .int a3), (4, .int a4), (5, .int a5), (6, .int a6)]) hx hb dX10_claim_69 hl (by decide) rfl (fun ls hl => ?_)
        refine lv_iload hx hb dX10_claim_71 (lv_at hl 0 rfl) ?_
        refine lv_if_ne (tgt := 79) hx hb dX10_claim_73 (by decide) (fun c_73 => ?_) (fun c_73 => ?_)
        · skip
          exact absurd c_73 (by decide)
        · skip
          refine lv_bipush (v := (-3)) hx hb dX10_claim_76 (by decide) ?_
          subst hQ
          exact x_iretW E hr hlk hw (by decide) (by decide) (⟨by simp [mClaim, mClOK, c_7, c_17, c_28], _, rfl⟩) dX10_claim_78
      · skip
        have c_28 := bB_n0.mp c_28
        refine lv_iload hx hb dX10_claim_31 (lv_at hl 4 rfl) ?_
        refine lv_iload_n hx hb dX10_claim_33 rfl (lv_at hl 3 rfl) ?_
        refine lv_sipush (v := 2000) hx hb dX10_claim_34 (by decide) ?_
        refine x_read (x_runS (rest := []) E cbX10_in tw_647 (kX10_in l D ca a4 a3 2000 ) ⟨rfl, rfl, by decide, by decide⟩ (fun _ _ _ _ h => h) (fun _ _ _ => trivial) rfl hl.1 rfl (Nat.le_of_ble_eq_true rfl) dX10_claim_37 ⟨by decide, by decide⟩) ?_
        refine lv_if_eq (tgt := 68) hx hb dX10_claim_40 (by decide) (fun c_40 => ?_) (fun c_40 => ?_)
        · skip
          have c_40 := bB_0.mp c_40
          refine lv_iconst (v := 0) hx hb dX10_claim_68 (by decide) ?_
          refine lv_istore (lv' := [(7, .int 0), (0, .ref (ad 33 0)), (1, .int a1), (2, .int a2), (3, .int a3), (4, .int a4), (5, .int a5), (6, .int a6)]) hx hb dX10_claim_69 hl (by decide) rfl (fun ls hl => ?_)
          refine lv_iload hx hb dX10_claim_71 (lv_at hl 0 rfl) ?_
          refine lv_if_ne (tgt := 79) hx hb dX10_claim_73 (by decide) (fun c_73 => ?_) (fun c_73 => ?_)
          · skip
            exact absurd c_73 (by decide)
          · skip
            refine lv_bipush (v := (-3)) hx hb dX10_claim_76 (by decide) ?_
            subst hQ
            exact x_iretW E hr hlk hw (by decide) (by decide) (⟨by simp [mClaim, mClOK, c_7, c_17, c_28, c_40], _, rfl⟩) dX10_claim_78
        · skip
          have c_40 := bB_n0.mp c_40
          refine lv_iload hx hb dX10_claim_43 (lv_at hl 5 rfl) ?_
          refine lv_iconst (v := (-1)) hx hb dX10_claim_45 (by decide) ?_
          refine lv_iconst (v := 1) hx hb dX10_claim_46 (by decide) ?_
          refine x_read (x_runS (rest := []) E cbX10_in tw_647 (kX10_in l D ca a5 (-1) 1 ) ⟨rfl, rfl, by decide, by decide⟩ (fun _ _ _ _ h => h) (fun _ _ _ => trivial) rfl hl.1 rfl (Nat.le_of_ble_eq_true rfl) dX10_claim_47 ⟨by decide, by decide⟩) ?_
          refine lv_if_eq (tgt := 68) hx hb dX10_claim_50 (by decide) (fun c_50 => ?_) (fun c_50 => ?_)
          · skip
            have c_50 := bB_0.mp c_50
            refine lv_iconst (v := 0) hx hb dX10_claim_68 (by decide) ?_
            refine lv_istore (lv' := [(7, .int 0), (0, .ref (ad 33 0)), (1, .int a1), (2, .int a2), (3, .int a3), (4, .int a4), (5, .int a5), (6, .int a6)]) hx hb dX10_claim_69 hl (by decide) rfl (fun ls hl => ?_)
            refine lv_iload hx hb dX10_claim_71 (lv_at hl 0 rfl) ?_
            refine lv_if_ne (tgt := 79) hx hb dX10_claim_73 (by decide) (fun c_73 => ?_) (fun c_73 => ?_)
            · skip
              exact absurd c_73 (by decide)
            · skip
              refine lv_bipush (v := (-3)) hx hb dX10_claim_76 (by decide) ?_
              subst hQ
              exact x_iretW E hr hlk hw (by decide) (by decide) (⟨by simp [mClaim, mClOK, c_7, c_17, c_28, c_40, c_50], _, rfl⟩) dX10_claim_78
          · skip
            have c_50 := bB_n0.mp c_50
            refine lv_iload hx hb dX10_claim_53 (lv_at hl 6 rfl) ?_
            refine lv_iconst (v := (-1)) hx hb dX10_claim_55 (by decide) ?_
            refine lv_bipush (v := 9) hx hb dX10_claim_56 (by decide) ?_
            refine x_read (x_runS (rest := []) E cbX10_in tw_647 (kX10_in l D ca a6 (-1) 9 ) ⟨rfl, rfl, by decide, by decide⟩ (fun _ _ _ _ h => h) (fun _ _ _ => trivial) rfl hl.1 rfl (Nat.le_of_ble_eq_true rfl) dX10_claim_58 ⟨by decide, by decide⟩) ?_
            refine lv_if_eq (tgt := 68) hx hb dX10_claim_61 (by decide) (fun c_61 => ?_) (fun c_61 => ?_)
            · skip
              have c_61 := bB_0.mp c_61
              refine lv_iconst (v := 0) hx hb dX10_claim_68 (by decide) ?_
              refine lv_istore (lv' := [(7, .int 0), (0, .ref (ad 33 0)), (1, .int a1), (2, .int a2), (3, .int a3), (4, .int a4), (5, .int a5), (6, .int a6)]) hx hb dX10_claim_69 hl (by decide) rfl (fun ls hl => ?_)
              refine lv_iload hx hb dX10_claim_71 (lv_at hl 0 rfl) ?_
              refine lv_if_ne (tgt := 79) hx hb dX10_claim_73 (by decide) (fun c_73 => ?_) (fun c_73 => ?_)
              · skip
                exact absurd c_73 (by decide)
              · skip
                refine lv_bipush (v := (-3)) hx hb dX10_claim_76 (by decide) ?_
                subst hQ
                exact x_iretW E hr hlk hw (by decide) (by decide) (⟨by simp [mClaim, mClOK, c_7, c_17, c_28, c_40, c_50, c_61], _, rfl⟩) dX10_claim_78
            · skip
              have c_61 := bB_n0.mp c_61
              refine lv_iconst (v := 1) hx hb dX10_claim_64 (by decide) ?_
              refine lv_goto (tgt := 69) hx hb dX10_claim_65 (by decide) ?_
              refine lv_istore (lv' := [(7, .int 1), (0, .ref (ad 33 0)), (1, .int a1), (2, .int a2), (3, .int a3), (4, .int a4), (5, .int a5), (6, .int a6)]) hx hb dX10_claim_69 hl (by decide) rfl (fun ls hl => ?_)
              refine lv_iload hx hb dX10_claim_71 (lv_at hl 0 rfl) ?_
              refine lv_if_ne (tgt := 79) hx hb dX10_claim_73 (by decide) (fun c_73 => ?_) (fun c_73 => ?_)
              · skip
                have hok : mClOK a1 a2 a3 a4 a5 a6 = true := by simp [mClOK, c_7, c_17, c_28, c_40, c_50, c_61]
                refine lv_aload_n hx hb dX10_claim_79 rfl (lv_at hl 1 rfl) ?_
                refine m_geti (x := (v 5)) E hw 5 (by decide) rfl tw_547 (rfl) dX10_claim_80 ?_
                refine lv_if_ne (tgt := 88) hx hb dX10_claim_83 (by decide) (fun c_83 => ?_) (fun c_83 => ?_)
                · skip
                  have hc_v : ¬ v 5 = 0 := c_83
                  have lp113 : ∀ (H : Heap) (locs : List Loc), mw D A s.heap ca ad v (gr g 32 pl) H locs → ∀ ls : Array Slot, lv_has ls 13 [(0, .ref (ad 33 0)), (1, .int a1), (2, .int a2), (3, .int a3), (4, .int a4), (5, .int a5), (6, .int a6)] → W p l e (rmL 4 0 0) s m args below meth c H locs 0 0 Q (F0 m 113 ls [.int (mFct a5 a6)]) := by
                    intro   H locs hw ls hl
                    refine lv_istore (lv' := [(8, .int (mFct a5 a6)), (0, .ref (ad 33 0)), (1, .int a1), (2, .int a2), (3, .int a3), (4, .int a4), (5, .int a5), (6, .int a6)]) hx hb dX10_claim_113 hl (by decide) rfl (fun ls hl => ?_)
                    refine lv_iconst (v := 0) hx hb dX10_claim_115 (by decide) ?_
                    refine lv_istore (lv' := [(9, .int 0), (8, .int (mFct a5 a6)), (0, .ref (ad 33 0)), (1, .int a1), (2, .int a2), (3, .int a3), (4, .int a4), (5, .int a5), (6, .int a6)]) hx hb dX10_claim_116 hl (by decide) rfl (fun ls hl => ?_)
                    refine lv_iconst (v := 0) hx hb dX10_claim_118 (by decide) ?_
                    refine lv_istore (lv' := [(10, .int 0), (9, .int 0), (8, .int (mFct a5 a6)), (0, .ref (ad 33 0)), (1, .int a1), (2, .int a2), (3, .int a3), (4, .int a4), (5, .int a5), (6, .int a6)]) hx hb dX10_claim_119 hl (by decide) rfl (fun ls hl => ?_)
                    have lp121 : ∀ (n : Nat) (i : Nat) (x9 : Int32), (i ≤ nc) → (x9 = nI (mClr g nw nm a3 a4 a5 a6 i)) → (nc - i < n) → ∀ (H : Heap) (locs : List Loc), mw D A s.heap ca ad v (gr g 32 pl) H locs → ∀ ls : Array Slot, lv_has ls 13 [(0, .ref (ad 33 0)), (1, .int a1), (2, .int a2), (3, .int a3), (4, .int a4), (5, .int a5), (6, .int a6), (8, .int (mFct a5 a6)), (9, .int x9), (10, .int (nI i))] → W p l e (rmL 4 0 0) s m args below meth c H locs 0 0 Q (F0 m 121 ls []) := by
                      intro n
                      induction n with
                      | zero =>
                        intro i x9 hi h9 hfu H locs hw ls hl
                        exact absurd hfu (by omega)
                      | succ n ih121 =>
                        intro i x9 hi h9 hfu H locs hw ls hl
                        refine lv_iload hx hb dX10_claim_121 (lv_at hl 9 rfl) ?_
                        refine lv_aload_n hx hb dX10_claim_123 rfl (lv_at hl 0 rfl) ?_
                        refine m_geti (x := (nI nc)) E hw 2 (by decide) rfl tw_544 (hO.2.2.1) dX10_claim_124 ?_
                        refine lv_icmp_ge (tgt := 173) hx hb dX10_claim_127 (by decide) (fun c_127 => ?_) (fun c_127 => ?_)
                        · skip
                          have hge : i = nc := by have q9 := (nI_leI (a := nc) (b := i) (by omega) (by omega)).mp c_127; omega
                          have hx9 : x9 = nI (mClr g nw nm a3 a4 a5 a6 nc) := by rw [h9, hge]
                          subst hx9
                          refine lv_iconst (v := (-1)) hx hb dX10_claim_173 (by decide) ?_
                          refine lv_istore (lv' := [(10, .int (-1)), (0, .ref (ad 33 0)), (1, .int a1), (2, .int a2), (3, .int a3), (4, .int a4), (5, .int a5), (6, .int a6), (8, .int (mFct a5 a6)), (9, .int (nI (mClr g nw nm a3 a4 a5 a6 nc)))]) hx hb dX10_claim_174 hl (by decide) rfl (fun ls hl => ?_)
                          refine lv_iconst (v := 0) hx hb dX10_claim_176 (by decide) ?_
                          refine lv_istore (lv' := [(11, .int 0), (10, .int (-1)), (0, .ref (ad 33 0)), (1, .int a1), (2, .int a2), (3, .int a3), (4, .int a4), (5, .int a5), (6, .int a6), (8, .int (mFct a5 a6)), (9, .int (nI (mClr g nw nm a3 a4 a5 a6 nc)))]) hx hb dX10_claim_177 hl (by decide) rfl (fun ls hl => ?_)
                          have lp179 : ∀ (n : Nat) (i : Nat) (x10 : Int32) (pl : Nat → Int32), (i ≤ nc) → (x10 = mFnd g nw nm (mClr g nw nm a3 a4 a5 a6 nc) L a1 a2 a3 a4 a5 a6 i) → (nc - i < n) → ∀ (H : Heap) (locs : List Loc), mw D A s.heap ca ad v (gr g 32 pl) H locs → ∀ ls : Array Slot, lv_has ls 13 [(0, .ref (ad 33 0)), (1, .int a1), (2, .int a2), (3, .int a3), (4, .int a4), (5, .int a5), (6, .int a6), (8, .int (mFct a5 a6)), (9, .int (nI (mClr g nw nm a3 a4 a5 a6 nc))), (10, .int x10), (11, .int (nI i))] → W p l e (rmL 4 0 0) s m args below meth c H locs 0 0 Q (F0 m 179 ls []) := by
                            intro n
                            induction n with
                            | zero =>
                              intro i x10 pl hi h10 hfu H locs hw ls hl
                              exact absurd hfu (by omega)
                            | succ n ih179 =>
                              intro i x10 pl hi h10 hfu H locs hw ls hl
                              refine lv_iload hx hb dX10_claim_179 (lv_at hl 10 rfl) ?_
                              refine lv_aload_n hx hb dX10_claim_181 rfl (lv_at hl 0 rfl) ?_
                              refine m_geti (x := (nI nc)) E hw 2 (by decide) rfl tw_544 (hO.2.2.1) dX10_claim_182 ?_
                              refine lv_icmp_ge (tgt := 267) hx hb dX10_claim_185 (by decide) (fun c_185 => ?_) (fun c_185 => ?_)
                              · skip
                                have hge : i = nc := by have q9 := (nI_leI (a := nc) (b := i) (by omega) (by omega)).mp c_185; omega
                                refine lv_iload hx hb dX10_claim_267 (lv_at hl 9 rfl) ?_
                                subst hQ
                                exact x_iretW E hr hlk hw (by decide) (by decide) (⟨by rw [h10, hge]; simp [mClaim, hok, hc_v], _, rfl⟩) dX10_claim_269
                              · skip
                                have hlt : i < nc := by have q9 := mt (nI_leI (a := nc) (b := i) (by omega) (by omega)).mpr c_185; omega
                                refine lv_aload_n hx hb dX10_claim_188 rfl (lv_at hl 0 rfl) ?_
                                refine lv_iload hx hb dX10_claim_189 (lv_at hl 10 rfl) ?_
                                refine lv_iload_n hx hb dX10_claim_191 rfl (lv_at hl 3 rfl) ?_
                                refine lv_iload hx hb dX10_claim_192 (lv_at hl 4 rfl) ?_
                                refine lv_iload hx hb dX10_claim_194 (lv_at hl 5 rfl) ?_
                                refine lv_iload hx hb dX10_claim_196 (lv_at hl 6 rfl) ?_
                                refine x_read (x_runV (rest := []) E cbX10_agreeing tw_810 (kX10_agreeing l D ca ad v (gr g 32 pl)  i a3 a4 a5 a6 (by omega)) ⟨rfl, rfl, by decide, by decide⟩ (m_recv E hw) (fun _ _ _ _ h => h) (fun U hU _ => by rw [hU]; exact hw.1) rfl hl.1 rfl (Nat.le_of_ble_eq_true rfl) dX10_claim_198 ⟨by decide, by decide⟩) ?_
                                refine x_top (x := (mAgr (gr g 32 pl) i a3 a4 a5 a6)) (y := (mAgr g i a3 a4 a5 a6)) (rfl) ?_
                                refine lv_istore (lv' := [(12, .int (mAgr g i a3 a4 a5 a6)), (0, .ref (ad 33 0)), (1, .int a1), (2, .int a2), (3, .int a3), (4, .int a4), (5, .int a5), (6, .int a6), (8, .int (mFct a5 a6)), (9, .int (nI (mClr g nw nm a3 a4 a5 a6 nc))), (10, .int x10), (11, .int (nI i))]) hx hb dX10_claim_201 hl (by decide) rfl (fun ls hl => ?_)
                                refine lv_aload_n hx hb dX10_claim_203 rfl (lv_at hl 1 rfl) ?_
                                refine lv_iload hx hb dX10_claim_204 (lv_at hl 11 rfl) ?_
                                refine x_read (x_runV (rest := []) E cbX10_isOpen tw_806 (kX10_isOpen l D ca ad v (gr g 32 pl) nw nb nc nm (nI i) (hO)) ⟨rfl, rfl, by decide, by decide⟩ (m_recv E hw) (fun _ _ _ _ h => h) (fun U hU _ => by rw [hU]; exact hw.1) rfl hl.1 rfl (Nat.le_of_ble_eq_true rfl) dX10_claim_206 ⟨by decide, by decide⟩) ?_
                                refine x_top (x := (bB (mOpen (gr g 32 pl) nw nm (nI i)))) (y := (bB (mOpen g nw nm (nI i)))) (by rw [mOpen_gr]) ?_
                                refine lv_if_eq (tgt := 261) hx hb dX10_claim_209 (by decide) (fun c_209 => ?_) (fun c_209 => ?_)
                                · skip
                                  have c_209 := bB_0.mp c_209
                                  refine lv_iinc (v := (nI (i + 1))) (lv' := [(11, .int (nI (i + 1))), (12, .int (mAgr g i a3 a4 a5 a6)), (0, .ref (ad 33 0)), (1, .int a1), (2, .int a2), (3, .int a3), (4, .int a4), (5, .int a5), (6, .int a6), (8, .int (mFct a5 a6)), (9, .int (nI (mClr g nw nm a3 a4 a5 a6 nc))), (10, .int x10)]) hx hb dX10_claim_261 hl (k := 11) rfl (nI_1 _) (by decide) rfl (fun ls hl => ?_)
                                  refine lv_goto (tgt := 179) hx hb dX10_claim_264 (by decide) ?_
                                  exact ih179 (i + 1) x10 pl (hlt) (by rw [mFnd, ← h10]; simp [mVs, c_185, c_209]) (by omega) _ _ (hw) ls (lv_sub hl [2, 3, 4, 5, 6, 7, 8, 9, 10, 11, 0] (rfl))
                                · skip
                                  have c_209 := bB_n0.mp c_209
                                  refine lv_aload_n hx hb dX10_claim_212 rfl (lv_at hl 1 rfl) ?_
                                  refine lv_aload_n hx hb dX10_claim_213 rfl (lv_at hl 1 rfl) ?_
                                  refine lv_iload hx hb dX10_claim_214 (lv_at hl 11 rfl) ?_
                                  refine lv_iload_n hx hb dX10_claim_216 rfl (lv_at hl 2 rfl) ?_
                                  refine lv_iload_n hx hb dX10_claim_217 rfl (lv_at hl 3 rfl) ?_
                                  refine x_read (x_runV (rest := [.ref (ad 33 0)]) E cbX10_offOf tw_750 (kX10_offOf l D ca ad v (gr g 32 pl)  i a1 a2 (by omega)) ⟨rfl, rfl, by decide, by decide⟩ (m_recv E hw) (fun _ _ _ _ h => h) (fun U hU _ => by rw [hU]; exact hw.1) rfl hl.1 rfl (Nat.le_of_ble_eq_true rfl) dX10_claim_218 ⟨by decide, by decide⟩) ?_
                                  refine x_top (x := (nI (mOff (gr g 32 pl) i a1 a2))) (y := (nI (mOff g i a1 a2))) (by rw [mOff_gr]) ?_
                                  refine lv_iload hx hb dX10_claim_221 (lv_at hl 0 rfl) ?_
                                  refine lv_iload hx hb dX10_claim_223 (lv_at hl 8 rfl) ?_
                                  refine lv_iload hx hb dX10_claim_225 (lv_at hl 0 rfl) ?_
                                  refine lv_isub hx hb dX10_claim_227 ?_
                                  refine lv_iload hx hb dX10_claim_228 (lv_at hl 9 rfl) ?_
                                  refine lv_aload_n hx hb dX10_claim_230 rfl (lv_at hl 1 rfl) ?_
                                  refine m_geti (x := (nI nw)) E hw 0 (by decide) rfl tw_542 (hO.1) dX10_claim_231 ?_
                                  refine lv_aload_n hx hb dX10_claim_234 rfl (lv_at hl 1 rfl) ?_
                                  refine m_getr E hw 9 (by decide) rfl tw_551 dX10_claim_235 ?_
                                  refine lv_iload hx hb dX10_claim_238 (lv_at hl 11 rfl) ?_
                                  refine m_ild E hw 9 ⟨by decide, rfl, rfl⟩ i (rfl) (by show i < 60; omega) dX10_claim_240 ?_
                                  refine x_top (x := (gr g 32 pl) 9 i) (y := g 9 i) rfl ?_
                                  refine lv_isub hx hb dX10_claim_241 ?_
                                  refine x_wrote hw (x_runV (rest := []) E cbX10_holds tw_814 (kX10_holds l D ca ad H.size v g (nI (mOff g i a1 a2)) (mAgr g i a3 a4 a5 a6) (mFct a5 a6 - mAgr g i a3 a4 a5 a6) (nI (mClr g nw nm a3 a4 a5 a6 nc)) (nI nw - g 9 i) L pl (hL hc_v)) ⟨rfl, rfl, by decide, by decide⟩ (m_recv E hw) (fun _ _ _ _ h => h) (fun U hU _ => by rw [hU]; exact ⟨rfl, hw.1⟩) rfl hl.1 rfl (Nat.le_of_ble_eq_true rfl) dX10_claim_242 ⟨by decide, by decide⟩) (fun rv9 u9 H locs hp9 hw hz9 hk9 => ?_)
                                  obtain ⟨hrv9, pl9, hu9⟩ := hp9
                                  subst hrv9
                                  subst hu9
                                  have hw : mw D A s.heap ca ad v (gr g 32 pl9) H locs := hw
                                  refine lv_if_eq (tgt := 261) hx hb dX10_claim_245 (by decide) (fun c_245 => ?_) (fun c_245 => ?_)
                                  · skip
                                    have c_245 := bB_0.mp c_245
                                    refine lv_iinc (v := (nI (i + 1))) (lv' := [(11, .int (nI (i + 1))), (12, .int (mAgr g i a3 a4 a5 a6)), (0, .ref (ad 33 0)), (1, .int a1), (2, .int a2), (3, .int a3), (4, .int a4), (5, .int a5), (6, .int a6), (8, .int (mFct a5 a6)), (9, .int (nI (mClr g nw nm a3 a4 a5 a6 nc))), (10, .int x10)]) hx hb dX10_claim_261 hl (k := 11) rfl (nI_1 _) (by decide) rfl (fun ls hl => ?_)
                                    refine lv_goto (tgt := 179) hx hb dX10_claim_264 (by decide) ?_
                                    exact ih179 (i + 1) x10 pl9 (hlt) (by rw [mFnd, ← h10]; simp [mVs, c_185, c_209, c_245]) (by omega) _ _ (hw) ls (lv_sub hl [2, 3, 4, 5, 6, 7, 8, 9, 10, 11, 0] (rfl))
                                  · skip
                                    have c_245 := bB_n0.mp c_245
                                    refine lv_iload hx hb dX10_claim_248 (lv_at hl 10 rfl) ?_
                                    refine lv_iconst (v := (-1)) hx hb dX10_claim_250 (by decide) ?_
                                    refine lv_icmp_eq (tgt := 257) hx hb dX10_claim_251 (by decide) (fun c_251 => ?_) (fun c_251 => ?_)
                                    · skip
                                      refine lv_iload hx hb dX10_claim_257 (lv_at hl 11 rfl) ?_
                                      refine lv_istore (lv' := [(10, .int (nI i)), (12, .int (mAgr g i a3 a4 a5 a6)), (0, .ref (ad 33 0)), (1, .int a1), (2, .int a2), (3, .int a3), (4, .int a4), (5, .int a5), (6, .int a6), (8, .int (mFct a5 a6)), (9, .int (nI (mClr g nw nm a3 a4 a5 a6 nc))), (11, .int (nI i))]) hx hb dX10_claim_259 hl (by decide) rfl (fun ls hl => ?_)
                                      refine lv_iinc (v := (nI (i + 1))) (lv' := [(11, .int (nI (i + 1))), (10, .int (nI i)), (12, .int (mAgr g i a3 a4 a5 a6)), (0, .ref (ad 33 0)), (1, .int a1), (2, .int a2), (3, .int a3), (4, .int a4), (5, .int a5), (6, .int a6), (8, .int (mFct a5 a6)), (9, .int (nI (mClr g nw nm a3 a4 a5 a6 nc)))]) hx hb dX10_claim_261 hl (k := 11) rfl (nI_1 _) (by decide) rfl (fun ls hl => ?_)
                                      refine lv_goto (tgt := 179) hx hb dX10_claim_264 (by decide) ?_
                                      exact ih179 (i + 1) (nI i) pl9 (hlt) (by rw [mFnd, ← h10]; simp [mVs, c_185, c_209, c_245, c_251]) (by omega) _ _ (hw) ls (lv_sub hl [3, 4, 5, 6, 7, 8, 9, 10, 11, 1, 0] (rfl))
                                    · skip
                                      refine lv_bipush (v := (-2)) hx hb dX10_claim_254 (by decide) ?_
                                      subst hQ
                                      exact x_iretW E hr hlk hw (by decide) (by decide) (⟨by have q9 := mFnd_2 (g := g) (nw := nw) (nm := nm) (k := mClr g nw nm a3 a4 a5 a6 nc) (L := L) (a1 := a1) (a2 := a2) (a3 := a3) (a4 := a4) (a5 := a5) (a6 := a6) (i := i + 1) (by rw [mFnd, ← h10]; simp [mVs, c_185, c_209, c_245, c_251]) (nc - (i + 1)); rw [show i + 1 + (nc - (i + 1)) = nc by omega] at q9; simp [mClaim, hok, hc_v, q9], _, rfl⟩) dX10_claim_256
                          exact lp179 (nc + 1) 0 (-1) pl (Nat.zero_le _) (rfl) (by omega) _ _ (hw) ls (lv_sub hl [2, 3, 4, 5, 6, 7, 8, 9, 10, 1, 0] (rfl))
                        · skip
                          have hlt : i < nc := by have q9 := mt (nI_leI (a := nc) (b := i) (by omega) (by omega)).mpr c_127; omega
                          refine lv_iload hx hb dX10_claim_130 (lv_at hl 8 rfl) ?_
                          refine lv_aload_n hx hb dX10_claim_132 rfl (lv_at hl 0 rfl) ?_
                          refine lv_iload hx hb dX10_claim_133 (lv_at hl 9 rfl) ?_
                          refine x_read (x_runV (rest := [.int x9]) E cbX10_isOpen tw_806 (kX10_isOpen l D ca ad v (gr g 32 pl) nw nb nc nm (nI i) (hO)) ⟨rfl, rfl, by decide, by decide⟩ (m_recv E hw) (fun _ _ _ _ h => h) (fun U hU _ => by rw [hU]; exact hw.1) rfl hl.1 rfl (Nat.le_of_ble_eq_true rfl) dX10_claim_135 ⟨by decide, by decide⟩) ?_
                          refine x_top (x := (bB (mOpen (gr g 32 pl) nw nm (nI i)))) (y := (bB (mOpen g nw nm (nI i)))) (by rw [mOpen_gr]) ?_
                          refine lv_if_eq (tgt := 163) hx hb dX10_claim_138 (by decide) (fun c_138 => ?_) (fun c_138 => ?_)
                          · skip
                            have c_138 := bB_0.mp c_138
                            refine lv_iconst (v := 0) hx hb dX10_claim_163 (by decide) ?_
                            refine lv_iadd hx hb dX10_claim_164 ?_
                            refine lv_istore (lv' := [(9, .int (x9 + 0)), (0, .ref (ad 33 0)), (1, .int a1), (2, .int a2), (3, .int a3), (4, .int a4), (5, .int a5), (6, .int a6), (8, .int (mFct a5 a6)), (10, .int (nI i))]) hx hb dX10_claim_165 hl (by decide) rfl (fun ls hl => ?_)
                            refine lv_iinc (v := (nI (i + 1))) (lv' := [(10, .int (nI (i + 1))), (9, .int (x9 + 0)), (0, .ref (ad 33 0)), (1, .int a1), (2, .int a2), (3, .int a3), (4, .int a4), (5, .int a5), (6, .int a6), (8, .int (mFct a5 a6))]) hx hb dX10_claim_167 hl (k := 9) rfl (nI_1 _) (by decide) rfl (fun ls hl => ?_)
                            refine lv_goto (tgt := 121) hx hb dX10_claim_170 (by decide) ?_
                            exact ih121 (i + 1) (x9 + 0) (hlt) (by rw [h9]; simp [mClr, nI_1, c_127, c_138]) (by omega) _ _ (hw) ls (lv_sub hl [2, 3, 4, 5, 6, 7, 8, 9, 1, 0] (rfl))
                          · skip
                            have c_138 := bB_n0.mp c_138
                            refine lv_aload_n hx hb dX10_claim_141 rfl (lv_at hl 0 rfl) ?_
                            refine lv_iload hx hb dX10_claim_142 (lv_at hl 9 rfl) ?_
                            refine lv_iload_n hx hb dX10_claim_144 rfl (lv_at hl 3 rfl) ?_
                            refine lv_iload hx hb dX10_claim_145 (lv_at hl 4 rfl) ?_
                            refine lv_iload hx hb dX10_claim_147 (lv_at hl 5 rfl) ?_
                            refine lv_iload hx hb dX10_claim_149 (lv_at hl 6 rfl) ?_
                            refine x_read (x_runV (rest := [.int x9]) E cbX10_agreeing tw_810 (kX10_agreeing l D ca ad v (gr g 32 pl)  i a3 a4 a5 a6 (by omega)) ⟨rfl, rfl, by decide, by decide⟩ (m_recv E hw) (fun _ _ _ _ h => h) (fun U hU _ => by rw [hU]; exact hw.1) rfl hl.1 rfl (Nat.le_of_ble_eq_true rfl) dX10_claim_151 ⟨by decide, by decide⟩) ?_
                            refine x_top (x := (mAgr (gr g 32 pl) i a3 a4 a5 a6)) (y := (mAgr g i a3 a4 a5 a6)) (rfl) ?_
                            refine lv_iload hx hb dX10_claim_154 (lv_at hl 7 rfl) ?_
                            refine lv_icmp_ne (tgt := 163) hx hb dX10_claim_156 (by decide) (fun c_156 => ?_) (fun c_156 => ?_)
                            · skip
                              refine lv_iconst (v := 0) hx hb dX10_claim_163 (by decide) ?_
                              refine lv_iadd hx hb dX10_claim_164 ?_
                              refine lv_istore (lv' := [(9, .int (x9 + 0)), (0, .ref (ad 33 0)), (1, .int a1), (2, .int a2), (3, .int a3), (4, .int a4), (5, .int a5), (6, .int a6), (8, .int (mFct a5 a6)), (10, .int (nI i))]) hx hb dX10_claim_165 hl (by decide) rfl (fun ls hl => ?_)
                              refine lv_iinc (v := (nI (i + 1))) (lv' := [(10, .int (nI (i + 1))), (9, .int (x9 + 0)), (0, .ref (ad 33 0)), (1, .int a1), (2, .int a2), (3, .int a3), (4, .int a4), (5, .int a5), (6, .int a6), (8, .int (mFct a5 a6))]) hx hb dX10_claim_167 hl (k := 9) rfl (nI_1 _) (by decide) rfl (fun ls hl => ?_)
                              refine lv_goto (tgt := 121) hx hb dX10_claim_170 (by decide) ?_
                              exact ih121 (i + 1) (x9 + 0) (hlt) (by rw [h9]; simp [mClr, nI_1, c_127, c_138, c_156]) (by omega) _ _ (hw) ls (lv_sub hl [2, 3, 4, 5, 6, 7, 8, 9, 1, 0] (rfl))
                            · skip
                              refine lv_iconst (v := 1) hx hb dX10_claim_159 (by decide) ?_
                              refine lv_goto (tgt := 164) hx hb dX10_claim_160 (by decide) ?_
                              refine lv_iadd hx hb dX10_claim_164 ?_
                              refine lv_istore (lv' := [(9, .int (x9 + 1)), (0, .ref (ad 33 0)), (1, .int a1), (2, .int a2), (3, .int a3), (4, .int a4), (5, .int a5), (6, .int a6), (8, .int (mFct a5 a6)), (10, .int (nI i))]) hx hb dX10_claim_165 hl (by decide) rfl (fun ls hl => ?_)
                              refine lv_iinc (v := (nI (i + 1))) (lv' := [(10, .int (nI (i + 1))), (9, .int (x9 + 1)), (0, .ref (ad 33 0)), (1, .int a1), (2, .int a2), (3, .int a3), (4, .int a4), (5, .int a5), (6, .int a6), (8, .int (mFct a5 a6))]) hx hb dX10_claim_167 hl (k := 9) rfl (nI_1 _) (by decide) rfl (fun ls hl => ?_)
                              refine lv_goto (tgt := 121) hx hb dX10_claim_170 (by decide) ?_
                              exact ih121 (i + 1) (x9 + 1) (hlt) (by rw [h9]; simp [mClr, nI_1, c_127, c_138, c_156]) (by omega) _ _ (hw) ls (lv_sub hl [2, 3, 4, 5, 6, 7, 8, 9, 1, 0] (rfl))
                    exact lp121 (nc + 1) 0 0 (Nat.zero_le _) (rfl) (by omega) _ _ (hw) ls (lv_sub hl [3, 4, 5, 6, 7, 8, 9, 2, 1, 0] (rfl))
                  refine lv_iconst (v := 1) hx hb dX10_claim_88 (by decide) ?_
                  refine lv_iload hx hb dX10_claim_89 (lv_at hl 6 rfl) ?_
                  refine lv_iconst (v := (-1)) hx hb dX10_claim_91 (by decide) ?_
                  refine lv_icmp_ne (tgt := 99) hx hb dX10_claim_92 (by decide) (fun c_92 => ?_) (fun c_92 => ?_)
                  · skip
                    refine lv_iconst (v := 1) hx hb dX10_claim_99 (by decide) ?_
                    refine lv_iadd hx hb dX10_claim_100 ?_
                    refine lv_iload hx hb dX10_claim_101 (lv_at hl 7 rfl) ?_
                    refine lv_iconst (v := (-1)) hx hb dX10_claim_103 (by decide) ?_
                    refine lv_icmp_ne (tgt := 111) hx hb dX10_claim_104 (by decide) (fun c_104 => ?_) (fun c_104 => ?_)
                    · skip
                      refine lv_iconst (v := 1) hx hb dX10_claim_111 (by decide) ?_
                      refine lv_iadd hx hb dX10_claim_112 ?_
                      refine x_top (x := ((1 + 1) + 1)) (y := (mFct a5 a6)) (by simp [mFct, c_7, c_17, c_28, c_40, c_50, c_61, c_83, hc_v, c_92, c_104]) ?_
                      exact lp113    _ _ (hw) ls (lv_sub hl [1, 2, 3, 4, 5, 6, 7] (rfl))
                    · skip
                      refine lv_iconst (v := 0) hx hb dX10_claim_107 (by decide) ?_
                      refine lv_goto (tgt := 112) hx hb dX10_claim_108 (by decide) ?_
                      refine lv_iadd hx hb dX10_claim_112 ?_
                      refine x_top (x := ((1 + 1) + 0)) (y := (mFct a5 a6)) (by simp [mFct, c_7, c_17, c_28, c_40, c_50, c_61, c_83, hc_v, c_92, c_104]) ?_
                      exact lp113    _ _ (hw) ls (lv_sub hl [1, 2, 3, 4, 5, 6, 7] (rfl))
                  · skip
                    refine lv_iconst (v := 0) hx hb dX10_claim_95 (by decide) ?_
                    refine lv_goto (tgt := 100) hx hb dX10_claim_96 (by decide) ?_
                    refine lv_iadd hx hb dX10_claim_100 ?_
                    refine lv_iload hx hb dX10_claim_101 (lv_at hl 7 rfl) ?_
                    refine lv_iconst (v := (-1)) hx hb dX10_claim_103 (by decide) ?_
                    refine lv_icmp_ne (tgt := 111) hx hb dX10_claim_104 (by decide) (fun c_104 => ?_) (fun c_104 => ?_)
                    · skip
                      refine lv_iconst (v := 1) hx hb dX10_claim_111 (by decide) ?_
                      refine lv_iadd hx hb dX10_claim_112 ?_
                      refine x_top (x := ((1 + 0) + 1)) (y := (mFct a5 a6)) (by simp [mFct, c_7, c_17, c_28, c_40, c_50, c_61, c_83, hc_v, c_92, c_104]) ?_
                      exact lp113    _ _ (hw) ls (lv_sub hl [1, 2, 3, 4, 5, 6, 7] (rfl))
                    · skip
                      refine lv_iconst (v := 0) hx hb dX10_claim_107 (by decide) ?_
                      refine lv_goto (tgt := 112) hx hb dX10_claim_108 (by decide) ?_
                      refine lv_iadd hx hb dX10_claim_112 ?_
                      refine x_top (x := ((1 + 0) + 0)) (y := (mFct a5 a6)) (by simp [mFct, c_7, c_17, c_28, c_40, c_50, c_61, c_83, hc_v, c_92, c_104]) ?_
                      exact lp113    _ _ (hw) ls (lv_sub hl [1, 2, 3, 4, 5, 6, 7] (rfl))
                · skip
                  refine lv_iconst (v := (-1)) hx hb dX10_claim_86 (by decide) ?_
                  subst hQ
                  exact x_iretW E hr hlk hw (by decide) (by decide) (⟨by simp [mClaim, mClOK, c_7, c_17, c_28, c_40, c_50, c_61, c_83], _, rfl⟩) dX10_claim_87
              · skip
                exact absurd c_73 (by decide)
