set_option maxHeartbeats 4000000 in
set_option maxRecDepth 100000 in
theorem kX10_lineOf (l : Launch) (D : va_G) (ca : Nat → ClassId) (ad : Nat → Nat → Nat) (z9 : Nat) (v : Nat → Int32) (g : Nat → Nat → Int32) (n1 : Nat) (hn1 : n1 ≤ 20) : Met l yX10_lineOf (wz yX10_lineOf cX10_lineOf 3 (some (.array .int))) (rmL 1 0 0) (va_Pc [.ref (ad 33 0), .int (nI n1)] (fun U => (U.heap.size = z9 ∧ mq D ca ad v g U.heap) ∧ gK D ca U)) (QcM D ca ad (wA mcnt ad z9) (some (.ref (ad 8 0))) (v) (mLn g n1)) 0 0 (wA mcnt ad z9) := by
  refine x_met (by decide) (Nat.le_of_ble_eq_true rfl) ?_
  intro p e s m below meth c E hr hlk hnm hq ls hl
  obtain ⟨hsz9, hq⟩ := hq
  subst hsz9
  generalize hav : ([.ref (ad 33 0), .int (nI n1)] : List Value).toArray = args at E ⊢
  have hx := E.1
  have hb := E.2.1
  have hown := E.2.2.2.1
  have hts := E.2.2.2.2.1
  have hw : mw D (wA mcnt ad s.heap.size) s.heap ca ad v g s.heap [] := wd.start hq
  generalize hQ : MQ below (QcM D ca ad (wA mcnt ad s.heap.size) (some (.ref (ad 8 0))) (v) (mLn g n1)) args s 0 0 (wA mcnt ad s.heap.size) = Q
  generalize hA9 : wA mcnt ad s.heap.size = A at hw hQ
  have hl : lv_has ls 3 [(0, .ref (ad 33 0)), (1, .int (nI n1))] := hl
  suffices hgo : ∀ (H : Heap) (locs : List Loc), mw D A s.heap ca ad v g H locs → W p l e (rmL 1 0 0) s m args below meth c H locs 0 0 Q (F0 m 0 ls []) from hgo _ _ hw
  clear hw
  intro H locs hw
  refine lv_iconst (v := 0) hx hb dX10_lineOf_0 (by decide) ?_
  refine lv_istore_n (lv' := [(2, .int 0), (0, .ref (ad 33 0)), (1, .int (nI n1))]) hx hb dX10_lineOf_1 rfl hl (by decide) rfl (fun ls hl => ?_)
  have lp2 : ∀ (n : Nat) (i : Nat), (i ≤ n1) → (n1 - i < n) → ∀ (H : Heap) (locs : List Loc), mw D A s.heap ca ad v (mLn g i) H locs → ∀ ls : Array Slot, lv_has ls 3 [(0, .ref (ad 33 0)), (1, .int (nI n1)), (2, .int (nI i))] → W p l e (rmL 1 0 0) s m args below meth c H locs 0 0 Q (F0 m 2 ls []) := by
    intro n
    induction n with
    | zero =>
      intro i hi hfu H locs hw ls hl
      exact absurd hfu (by omega)
    | succ n ih2 =>
      intro i hi hfu H locs hw ls hl
      refine lv_iload_n hx hb dX10_lineOf_2 rfl (lv_at hl 2 rfl) ?_
      refine lv_iload_n hx hb dX10_lineOf_3 rfl (lv_at hl 1 rfl) ?_
      refine lv_icmp_ge (tgt := 20) hx hb dX10_lineOf_4 (by decide) (fun c_4 => ?_) (fun c_4 => ?_)
      · skip
        have hge : i = n1 := by have q9 := (nI_leI (a := n1) (b := i) (by omega) (by omega)).mp c_4; omega
        refine lv_aload_n hx hb dX10_lineOf_20 rfl (lv_at hl 0 rfl) ?_
        refine m_getr E hw 8 (by decide) rfl tw_550 dX10_lineOf_21 ?_
        subst hQ
        exact m_aret E hr (Or.inr ⟨_, rfl⟩) hlk hw (rfl) (by rw [hge]) dX10_lineOf_24
      · skip
        have hlt : i < n1 := by have q9 := mt (nI_leI (a := n1) (b := i) (by omega) (by omega)).mpr c_4; omega
        refine lv_aload_n hx hb dX10_lineOf_7 rfl (lv_at hl 0 rfl) ?_
        refine m_getr E hw 8 (by decide) rfl tw_550 dX10_lineOf_8 ?_
        refine lv_iload_n hx hb dX10_lineOf_11 rfl (lv_at hl 2 rfl) ?_
        refine lv_iload_n hx hb dX10_lineOf_12 rfl (lv_at hl 2 rfl) ?_
        refine m_ist E hw 8 ⟨by decide, rfl, rfl⟩ i (rfl) (by show i < 20; omega) dX10_lineOf_13 (fun H locs hw => ?_)
        refine lv_iinc (v := (nI (i + 1))) (lv' := [(2, .int (nI (i + 1))), (0, .ref (ad 33 0)), (1, .int (nI n1))]) hx hb dX10_lineOf_14 hl (k := 2) rfl (nI_1 _) (by decide) rfl (fun ls hl => ?_)
        refine lv_goto (tgt := 2) hx hb dX10_lineOf_17 (by decide) ?_
        exact ih2 (i + 1) (hlt) (by omega) _ _ (hw) ls (lv_sub hl [1, 2, 0] (rfl))
  exact lp2 (n1 + 1) 0 (Nat.zero_le _) (by omega) _ _ (hw) ls (lv_sub hl [1, 2, 0] (rfl))
set_option maxHeartbeats 4000000 in
set_option maxRecDepth 100000 in
theorem kX10_ballot (l : Launch) (D : va_G) (ca : Nat → ClassId) (ad : Nat → Nat → Nat) (z9 : Nat) (v : Nat → Int32) (g : Nat → Nat → Int32) (nw : Nat) (nb : Nat) (nc : Nat) (nm : Nat) (a1 : Int32) (a2 : Int32) (a3 : Int32) (x0 : Int64) (hO : mOK v nw nb nc nm) : Met l yX10_ballot (wz yX10_ballot cX10_ballot 13 (some .int)) (rmL 3 0 0) (va_Pc [.ref (ad 33 0), .int a1, .int a2, .int a3, .long x0] (fun U => (U.heap.size = z9 ∧ mq D ca ad v g U.heap) ∧ gK D ca U)) (QcM D ca ad (wA mcnt ad z9) (some (.int (mBallotW v g nb a1 a2 a3 x0).1)) ((mBallotW v g nb a1 a2 a3 x0).2.1) ((mBallotW v g nb a1 a2 a3 x0).2.2)) 0 0 (wA mcnt ad z9) := by
  refine x_met (by decide) (Nat.le_of_ble_eq_true rfl) ?_
  intro p e s m below meth c E hr hlk hnm hq ls hl
  obtain ⟨hsz9, hq⟩ := hq
  subst hsz9
  generalize hav : ([.ref (ad 33 0), .int a1, .int a2, .int a3, .long x0] : List Value).toArray = args at E ⊢
  have hx := E.1
  have hb := E.2.1
  have hown := E.2.2.2.1
  have hts := E.2.2.2.2.1
  have hw : mw D (wA mcnt ad s.heap.size) s.heap ca ad v g s.heap [] := wd.start hq
  generalize hQ : MQ below (QcM D ca ad (wA mcnt ad s.heap.size) (some (.int (mBallotW v g nb a1 a2 a3 x0).1)) ((mBallotW v g nb a1 a2 a3 x0).2.1) ((mBallotW v g nb a1 a2 a3 x0).2.2)) args s 0 0 (wA mcnt ad s.heap.size) = Q
  generalize hA9 : wA mcnt ad s.heap.size = A at hw hQ
  have hl : lv_has ls 13 [(0, .ref (ad 33 0)), (1, .int a1), (2, .int a2), (3, .int a3), (4, .long x0)] := hl
  have hO5 := hO.2.2.2.2
  suffices hgo : ∀ (H : Heap) (locs : List Loc), mw D A s.heap ca ad v g H locs → W p l e (rmL 3 0 0) s m args below meth c H locs 0 0 Q (F0 m 0 ls []) from hgo _ _ hw
  clear hw
  intro H locs hw
  refine lv_iload_n hx hb dX10_ballot_0 rfl (lv_at hl 1 rfl) ?_
  refine lv_iconst (v := 1) hx hb dX10_ballot_1 (by decide) ?_
  refine lv_bipush (v := 20) hx hb dX10_ballot_2 (by decide) ?_
  refine x_read (x_runS (rest := []) E cbX10_in tw_647 (kX10_in l D ca a1 1 20 ) ⟨rfl, rfl, by decide, by decide⟩ (fun _ _ _ _ h => h) (fun _ _ _ => trivial) rfl hl.1 rfl (Nat.le_of_ble_eq_true rfl) dX10_ballot_4 ⟨by decide, by decide⟩) ?_
  refine lv_if_eq (tgt := 39) hx hb dX10_ballot_7 (by decide) (fun c_7 => ?_) (fun c_7 => ?_)
  · skip
    have c_7 := bB_0.mp c_7
    refine lv_iconst (v := (-1)) hx hb dX10_ballot_39 (by decide) ?_
    subst hQ
    exact m_iretS E hr hlk hw (by simp [mBallotW, mBalOK, c_7]) dX10_ballot_40
  · skip
    have c_7 := bB_n0.mp c_7
    obtain ⟨n1, g1, g2, rfl⟩ := isIn_rng (lo := 1) (hi := 20) (by decide) (by decide) c_7
    refine lv_iload_n hx hb dX10_ballot_10 rfl (lv_at hl 2 rfl) ?_
    refine lv_iconst (v := 0) hx hb dX10_ballot_11 (by decide) ?_
    refine lv_iload_n hx hb dX10_ballot_12 rfl (lv_at hl 1 rfl) ?_
    refine x_read (x_runS (rest := []) E cbX10_in tw_647 (kX10_in l D ca a2 0 (nI n1) ) ⟨rfl, rfl, by decide, by decide⟩ (fun _ _ _ _ h => h) (fun _ _ _ => trivial) rfl hl.1 rfl (Nat.le_of_ble_eq_true rfl) dX10_ballot_13 ⟨by decide, by decide⟩) ?_
    refine lv_if_eq (tgt := 39) hx hb dX10_ballot_16 (by decide) (fun c_16 => ?_) (fun c_16 => ?_)
    · skip
      have c_16 := bB_0.mp c_16
      refine lv_iconst (v := (-1)) hx hb dX10_ballot_39 (by decide) ?_
      subst hQ
      exact m_iretS E hr hlk hw (by simp [mBallotW, mBalOK, c_7, c_16]) dX10_ballot_40
    · skip
      have c_16 := bB_n0.mp c_16
      obtain ⟨w2, g3, rfl⟩ := isIn_le (n := n1) (by omega) c_16
      refine lv_iload_n hx hb dX10_ballot_19 rfl (lv_at hl 3 rfl) ?_
      refine lv_iconst (v := 0) hx hb dX10_ballot_20 (by decide) ?_
      refine lv_iload_n hx hb dX10_ballot_21 rfl (lv_at hl 1 rfl) ?_
      refine lv_iload_n hx hb dX10_ballot_22 rfl (lv_at hl 2 rfl) ?_
      refine lv_isub hx hb dX10_ballot_23 ?_
      refine x_read (x_runS (rest := []) E cbX10_in tw_647 (kX10_in l D ca a3 0 (nI n1 - nI w2) ) ⟨rfl, rfl, by decide, by decide⟩ (fun _ _ _ _ h => h) (fun _ _ _ => trivial) rfl hl.1 rfl (Nat.le_of_ble_eq_true rfl) dX10_ballot_24 ⟨by decide, by decide⟩) ?_
      refine lv_if_eq (tgt := 39) hx hb dX10_ballot_27 (by decide) (fun c_27 => ?_) (fun c_27 => ?_)
      · skip
        have c_27 := bB_0.mp c_27
        refine lv_iconst (v := (-1)) hx hb dX10_ballot_39 (by decide) ?_
        subst hQ
        exact m_iretS E hr hlk hw (by simp [mBallotW, mBalOK, c_7, c_16, c_27]) dX10_ballot_40
      · skip
        have c_27 := bB_n0.mp c_27
        have q27 := c_27
        rw [pk_sub g3] at q27
        obtain ⟨r3, g4, rfl⟩ := isIn_le (n := n1 - w2) (by omega) q27
        refine lv_aload_n hx hb dX10_ballot_30 rfl (lv_at hl 0 rfl) ?_
        refine m_geti (x := (nI nb)) E hw 1 (by decide) rfl tw_543 (hO.2.1) dX10_ballot_31 ?_
        refine lv_bipush (v := 50) hx hb dX10_ballot_34 (by decide) ?_
        refine lv_icmp_ne (tgt := 41) hx hb dX10_ballot_36 (by decide) (fun c_36 => ?_) (fun c_36 => ?_)
        · skip
          have hc_50 : ¬ nb = 50 := fun q => c_36 (by rw [q]; rfl)
          refine lv_aload_n hx hb dX10_ballot_41 rfl (lv_at hl 0 rfl) ?_
          refine lv_iload_n hx hb dX10_ballot_42 rfl (lv_at hl 1 rfl) ?_
          refine m_wrote hw (x_runV (rest := []) E cbX10_lineOf tw_654 (kX10_lineOf l D ca ad H.size v g  n1 (by omega)) ⟨rfl, rfl, by decide, by decide⟩ (m_recv E hw) (fun _ _ _ _ h => h) (fun U hU _ => by rw [hU]; exact ⟨rfl, hw.1⟩) rfl hl.1 rfl (Nat.le_of_ble_eq_true rfl) dX10_ballot_43 ⟨by decide, by decide⟩) (fun H locs hw hz9 hk9 => ?_)
          refine lv_astore (lv' := [(6, .ref (ad 8 0)), (0, .ref (ad 33 0)), (1, .int (nI n1)), (2, .int (nI w2)), (3, .int (nI r3)), (4, .long x0)]) hx hb dX10_ballot_46 hl (by decide) rfl (fun ls hl => ?_)
          refine lv_lload hx hb dX10_ballot_48 (lv_at hl 5 rfl) ?_
          refine lv_lstore (lv' := [(7, .long x0), (6, .ref (ad 8 0)), (0, .ref (ad 33 0)), (1, .int (nI n1)), (2, .int (nI w2)), (3, .int (nI r3)), (4, .long x0)]) hx hb dX10_ballot_50 hl (by decide) rfl (fun ls hl => ?_)
          refine lv_iconst (v := 0) hx hb dX10_ballot_52 (by decide) ?_
          refine lv_istore (lv' := [(9, .int 0), (7, .long x0), (6, .ref (ad 8 0)), (0, .ref (ad 33 0)), (1, .int (nI n1)), (2, .int (nI w2)), (3, .int (nI r3)), (4, .long x0)]) hx hb dX10_ballot_53 hl (by decide) rfl (fun ls hl => ?_)
          have lp55 : ∀ (n : Nat) (w : Nat) (x7 : Int64), (w ≤ n1) → (x7 = (mBl g nb n1 w2 r3 x0 w).1) → (n1 - w < n) → ∀ (H : Heap) (locs : List Loc), mw D A s.heap ca ad v ((mBl g nb n1 w2 r3 x0 w).2) H locs → ∀ ls : Array Slot, lv_has ls 13 [(0, .ref (ad 33 0)), (1, .int (nI n1)), (2, .int (nI w2)), (3, .int (nI r3)), (6, .ref (ad 8 0)), (7, .long x7), (9, .int (nI w))] → W p l e (rmL 3 0 0) s m args below meth c H locs 0 0 Q (F0 m 55 ls []) := by
            intro n
            induction n with
            | zero =>
              intro w x7 hi h7 hfu H locs hw ls hl
              exact absurd hfu (by omega)
            | succ n ih55 =>
              intro w x7 hi h7 hfu H locs hw ls hl
              refine lv_iload hx hb dX10_ballot_55 (lv_at hl 6 rfl) ?_
              refine lv_iload_n hx hb dX10_ballot_57 rfl (lv_at hl 1 rfl) ?_
              refine lv_icmp_ge (tgt := 171) hx hb dX10_ballot_58 (by decide) (fun c_58 => ?_) (fun c_58 => ?_)
              · skip
                have hge : w = n1 := by have q9 := (nI_leI (a := n1) (b := w) (by omega) (by omega)).mp c_58; omega
                refine lv_aload_n hx hb dX10_ballot_171 rfl (lv_at hl 0 rfl) ?_
                refine m_getr E hw 6 (by decide) rfl tw_548 dX10_ballot_172 ?_
                refine lv_aload_n hx hb dX10_ballot_175 rfl (lv_at hl 0 rfl) ?_
                refine m_geti (x := (nI nb)) E hw 1 (by decide) rfl tw_543 (hO.2.1) dX10_ballot_176 ?_
                refine lv_iload_n hx hb dX10_ballot_179 rfl (lv_at hl 1 rfl) ?_
                refine m_ist E hw 6 ⟨by decide, rfl, rfl⟩ nb (rfl) (by show nb < 50; omega) dX10_ballot_180 (fun H locs hw => ?_)
                refine lv_aload_n hx hb dX10_ballot_181 rfl (lv_at hl 0 rfl) ?_
                refine lv_dup hx hb dX10_ballot_182 rfl ?_
                refine m_geti (x := (nI nb)) E hw 1 (by decide) rfl tw_543 (hO.2.1) dX10_ballot_183 ?_
                refine lv_iconst (v := 1) hx hb dX10_ballot_186 (by decide) ?_
                refine lv_iadd hx hb dX10_ballot_187 ?_
                refine x_top (x := (nI nb + 1)) (y := (nI (nb + 1))) (nI_1 _) ?_
                refine m_put E hw 1 (by decide) rfl tw_543 dX10_ballot_188 (fun H locs hw => ?_)
                refine lv_aload_n hx hb dX10_ballot_191 rfl (lv_at hl 0 rfl) ?_
                refine m_geti (x := (nI (nb + 1))) E hw 1 (by decide) rfl tw_543 (by simp [upd]) dX10_ballot_192 ?_
                refine lv_iconst (v := 1) hx hb dX10_ballot_195 (by decide) ?_
                refine lv_isub hx hb dX10_ballot_196 ?_
                refine x_top (x := ((nI (nb + 1)) - 1)) (y := (nI nb)) (nI_pred _) ?_
                subst hQ
                exact m_iretS E hr hlk hw (by rw [hge]; simp [mBallotW, mBalOK, nI_clamp (n := n1) (by omega), nI_clamp (n := w2) (by omega), nI_clamp (n := r3) (by omega), c_7, c_16, c_27, hc_50]) dX10_ballot_197
              · skip
                have hlt : w < n1 := by have q9 := mt (nI_leI (a := n1) (b := w) (by omega) (by omega)).mpr c_58; omega
                have h7n : mNx x7 = mNx (mBl g nb n1 w2 r3 x0 w).1 := by rw [h7]
                obtain ⟨G, hG⟩ : ∃ z, z = (mBl g nb n1 w2 r3 x0 w).2 := ⟨_, rfl⟩
                rw [← hG] at hw
                refine lv_lload hx hb dX10_ballot_61 (lv_at hl 5 rfl) ?_
                refine lv_ldc2 hx hb hown (hts _ tw_658) dX10_ballot_63 ?_
                refine lv_lmul hx hb dX10_ballot_66 ?_
                refine lv_ldc2 hx hb hown (hts _ tw_659) dX10_ballot_67 ?_
                refine lv_ladd hx hb dX10_ballot_70 ?_
                refine x_topL (x := ((x7 * 6364136223846793005) + 1442695040888963407)) (y := (mNx x7)) (mNx_eq x7) ?_
                refine lv_lstore (lv' := [(7, .long (mNx x7)), (0, .ref (ad 33 0)), (1, .int (nI n1)), (2, .int (nI w2)), (3, .int (nI r3)), (6, .ref (ad 8 0)), (9, .int (nI w))]) hx hb dX10_ballot_71 hl (by decide) rfl (fun ls hl => ?_)
                refine lv_lload hx hb dX10_ballot_73 (lv_at hl 0 rfl) ?_
                refine lv_bipush (v := 33) hx hb dX10_ballot_75 (by decide) ?_
                refine lv_lushr (v := (lN (mHi (mNx x7)))) hx hb dX10_ballot_77 (mHi_val _) ?_
                refine lv_iload_n hx hb dX10_ballot_78 rfl (lv_at hl 2 rfl) ?_
                refine lv_iload hx hb dX10_ballot_79 (lv_at hl 6 rfl) ?_
                refine lv_isub hx hb dX10_ballot_81 ?_
                refine x_top (x := (nI n1 - nI w)) (y := (nI (n1 - w))) (pk_sub (by omega)) ?_
                refine lv_i2l (v := (lN (n1 - w))) hx hb dX10_ballot_82 (nI_l (by omega)) ?_
                refine lv_lrem hx hb dX10_ballot_83 (lN_ne0 (by omega) (by omega)) ?_
                refine x_topL (x := (lN (mHi (mNx x7)) - lN (mHi (mNx x7)) / lN (n1 - w) * lN (n1 - w))) (y := (lN (mK (mNx x7) (n1 - w)))) (pk_lRem (Nat.lt_trans (mHi_lt _) (by decide)) (by omega) (by omega)) ?_
                refine lv_l2i (v := (nI (mK (mNx x7) (n1 - w)))) hx hb dX10_ballot_84 (lN_i _) ?_
                have hKl : mK (mNx x7) (n1 - w) < n1 - w := Nat.mod_lt _ (by omega)
                generalize hK : mK (mNx x7) (n1 - w) = K at hKl ⊢
                refine lv_istore (lv' := [(10, .int (nI K)), (7, .long (mNx x7)), (0, .ref (ad 33 0)), (1, .int (nI n1)), (2, .int (nI w2)), (3, .int (nI r3)), (6, .ref (ad 8 0)), (9, .int (nI w))]) hx hb dX10_ballot_85 hl (by decide) rfl (fun ls hl => ?_)
                refine lv_aload hx hb dX10_ballot_87 (lv_at hl 6 rfl) ?_
                refine lv_iload hx hb dX10_ballot_89 (lv_at hl 0 rfl) ?_
                refine m_ild E hw 8 ⟨by decide, rfl, rfl⟩ K (rfl) (by show K < 20; omega) dX10_ballot_91 ?_
                refine lv_istore (lv' := [(11, .int (G 8 K)), (10, .int (nI K)), (7, .long (mNx x7)), (0, .ref (ad 33 0)), (1, .int (nI n1)), (2, .int (nI w2)), (3, .int (nI r3)), (6, .ref (ad 8 0)), (9, .int (nI w))]) hx hb dX10_ballot_92 hl (by decide) rfl (fun ls hl => ?_)
                refine lv_iload hx hb dX10_ballot_94 (lv_at hl 1 rfl) ?_
                refine lv_istore (lv' := [(12, .int (nI K)), (11, .int (G 8 K)), (10, .int (nI K)), (7, .long (mNx x7)), (0, .ref (ad 33 0)), (1, .int (nI n1)), (2, .int (nI w2)), (3, .int (nI r3)), (6, .ref (ad 8 0)), (9, .int (nI w))]) hx hb dX10_ballot_96 hl (by decide) rfl (fun ls hl => ?_)
                have lp98 : ∀ (n : Nat) (i : Nat), (i ≤ n1 - w - 1 - K) → (n1 - w - 1 - K - i < n) → ∀ (H : Heap) (locs : List Loc), mw D A s.heap ca ad v (mShf G K i) H locs → ∀ ls : Array Slot, lv_has ls 13 [(0, .ref (ad 33 0)), (1, .int (nI n1)), (2, .int (nI w2)), (3, .int (nI r3)), (6, .ref (ad 8 0)), (7, .long (mNx x7)), (9, .int (nI w)), (11, .int (G 8 K)), (12, .int (nI (K + i)))] → W p l e (rmL 3 0 0) s m args below meth c H locs 0 0 Q (F0 m 98 ls []) := by
                  intro n
                  induction n with
                  | zero =>
                    intro i hj hfu H locs hw ls hl
                    exact absurd hfu (by omega)
                  | succ n ih98 =>
                    intro i hj hfu H locs hw ls hl
                    refine lv_iload hx hb dX10_ballot_98 (lv_at hl 8 rfl) ?_
                    refine lv_iload_n hx hb dX10_ballot_100 rfl (lv_at hl 1 rfl) ?_
                    refine lv_iload hx hb dX10_ballot_101 (lv_at hl 6 rfl) ?_
                    refine lv_isub hx hb dX10_ballot_103 ?_
                    refine x_top (x := (nI n1 - nI w)) (y := (nI (n1 - w))) (pk_sub (by omega)) ?_
                    refine lv_iconst (v := 1) hx hb dX10_ballot_104 (by decide) ?_
                    refine lv_isub hx hb dX10_ballot_105 ?_
                    refine x_top (x := (nI (n1 - w) - 1)) (y := (nI (n1 - w - 1))) (pk_sub (b := 1) (by omega)) ?_
                    refine lv_icmp_ge (tgt := 127) hx hb dX10_ballot_106 (by decide) (fun c_106 => ?_) (fun c_106 => ?_)
                    · skip
                      have hgej : i = n1 - w - 1 - K := by have q9 := (nI_leI (a := n1 - w - 1) (b := K + i) (by omega) (by omega)).mp c_106; omega
                      refine lv_aload_n hx hb dX10_ballot_127 rfl (lv_at hl 0 rfl) ?_
                      refine m_getr E hw 7 (by decide) rfl tw_549 dX10_ballot_128 ?_
                      refine lv_bipush (v := 20) hx hb dX10_ballot_131 (by decide) ?_
                      refine lv_aload_n hx hb dX10_ballot_133 rfl (lv_at hl 0 rfl) ?_
                      refine m_geti (x := (nI nb)) E hw 1 (by decide) rfl tw_543 (hO.2.1) dX10_ballot_134 ?_
                      refine lv_imul hx hb dX10_ballot_137 ?_
                      refine x_top (x := (20 * nI nb)) (y := (nI (20 * nb))) (pk_mul 20 _) ?_
                      refine lv_iload hx hb dX10_ballot_138 (lv_at hl 6 rfl) ?_
                      refine lv_iadd hx hb dX10_ballot_140 ?_
                      refine x_top (x := (nI (20 * nb) + nI w)) (y := (nI (20 * nb + w))) (nI_add _ _) ?_
                      refine lv_iload hx hb dX10_ballot_141 (lv_at hl 7 rfl) ?_
                      refine lv_iload_n hx hb dX10_ballot_143 rfl (lv_at hl 2 rfl) ?_
                      refine lv_icmp_ge (tgt := 151) hx hb dX10_ballot_144 (by decide) (fun c_144 => ?_) (fun c_144 => ?_)
                      · skip
                        refine lv_iload hx hb dX10_ballot_151 (lv_at hl 7 rfl) ?_
                        refine lv_iload_n hx hb dX10_ballot_153 rfl (lv_at hl 2 rfl) ?_
                        refine lv_iload_n hx hb dX10_ballot_154 rfl (lv_at hl 3 rfl) ?_
                        refine lv_iadd hx hb dX10_ballot_155 ?_
                        refine lv_icmp_ge (tgt := 163) hx hb dX10_ballot_156 (by decide) (fun c_156 => ?_) (fun c_156 => ?_)
                        · skip
                          refine lv_iconst (v := 2) hx hb dX10_ballot_163 (by decide) ?_
                          refine m_ist E hw 7 ⟨by decide, rfl, rfl⟩ (20 * nb + w) (rfl) (by show _ < 1000; omega) dX10_ballot_164 (fun H locs hw => ?_)
                          refine lv_iinc (v := (nI (w + 1))) (lv' := [(9, .int (nI (w + 1))), (0, .ref (ad 33 0)), (1, .int (nI n1)), (2, .int (nI w2)), (3, .int (nI r3)), (6, .ref (ad 8 0)), (7, .long (mNx x7)), (11, .int (G 8 K)), (12, .int (nI (K + i)))]) hx hb dX10_ballot_165 hl (k := 6) rfl (nI_1 _) (by decide) rfl (fun ls hl => ?_)
                          refine lv_goto (tgt := 55) hx hb dX10_ballot_168 (by decide) ?_
                          exact ih55 (w + 1) (mNx x7) (hlt) (by rw [h7n, mBl]) (by omega) _ _ (by simpa [mBl, ← hG, ← h7n, hK, hgej, mColr, c_106, c_144, c_156] using hw) ls (lv_sub hl [1, 2, 3, 4, 5, 6, 0] (rfl))
                        · skip
                          refine lv_iconst (v := 1) hx hb dX10_ballot_159 (by decide) ?_
                          refine lv_goto (tgt := 164) hx hb dX10_ballot_160 (by decide) ?_
                          refine m_ist E hw 7 ⟨by decide, rfl, rfl⟩ (20 * nb + w) (rfl) (by show _ < 1000; omega) dX10_ballot_164 (fun H locs hw => ?_)
                          refine lv_iinc (v := (nI (w + 1))) (lv' := [(9, .int (nI (w + 1))), (0, .ref (ad 33 0)), (1, .int (nI n1)), (2, .int (nI w2)), (3, .int (nI r3)), (6, .ref (ad 8 0)), (7, .long (mNx x7)), (11, .int (G 8 K)), (12, .int (nI (K + i)))]) hx hb dX10_ballot_165 hl (k := 6) rfl (nI_1 _) (by decide) rfl (fun ls hl => ?_)
                          refine lv_goto (tgt := 55) hx hb dX10_ballot_168 (by decide) ?_
                          exact ih55 (w + 1) (mNx x7) (hlt) (by rw [h7n, mBl]) (by omega) _ _ (by simpa [mBl, ← hG, ← h7n, hK, hgej, mColr, c_106, c_144, c_156] using hw) ls (lv_sub hl [1, 2, 3, 4, 5, 6, 0] (rfl))
                      · skip
                        refine lv_iconst (v := 0) hx hb dX10_ballot_147 (by decide) ?_
                        refine lv_goto (tgt := 164) hx hb dX10_ballot_148 (by decide) ?_
                        refine m_ist E hw 7 ⟨by decide, rfl, rfl⟩ (20 * nb + w) (rfl) (by show _ < 1000; omega) dX10_ballot_164 (fun H locs hw => ?_)
                        refine lv_iinc (v := (nI (w + 1))) (lv' := [(9, .int (nI (w + 1))), (0, .ref (ad 33 0)), (1, .int (nI n1)), (2, .int (nI w2)), (3, .int (nI r3)), (6, .ref (ad 8 0)), (7, .long (mNx x7)), (11, .int (G 8 K)), (12, .int (nI (K + i)))]) hx hb dX10_ballot_165 hl (k := 6) rfl (nI_1 _) (by decide) rfl (fun ls hl => ?_)
                        refine lv_goto (tgt := 55) hx hb dX10_ballot_168 (by decide) ?_
                        exact ih55 (w + 1) (mNx x7) (hlt) (by rw [h7n, mBl]) (by omega) _ _ (by simpa [mBl, ← hG, ← h7n, hK, hgej, mColr, c_106, c_144] using hw) ls (lv_sub hl [1, 2, 3, 4, 5, 6, 0] (rfl))
                    · skip
                      have hltj : K + i < n1 - w - 1 := by have q9 := mt (nI_leI (a := n1 - w - 1) (b := K + i) (by omega) (by omega)).mpr c_106; omega
                      refine lv_aload hx hb dX10_ballot_109 (lv_at hl 4 rfl) ?_
                      refine lv_iload hx hb dX10_ballot_111 (lv_at hl 8 rfl) ?_
                      refine lv_aload hx hb dX10_ballot_113 (lv_at hl 4 rfl) ?_
                      refine lv_iload hx hb dX10_ballot_115 (lv_at hl 8 rfl) ?_
                      refine lv_iconst (v := 1) hx hb dX10_ballot_117 (by decide) ?_
                      refine lv_iadd hx hb dX10_ballot_118 ?_
                      refine x_top (x := (nI (K + i) + 1)) (y := (nI (K + i + 1))) (nI_1 _) ?_
                      refine m_ild E hw 8 ⟨by decide, rfl, rfl⟩ (K + i + 1) (rfl) (by show _ < 20; omega) dX10_ballot_119 ?_
                      refine m_ist E hw 8 ⟨by decide, rfl, rfl⟩ (K + i) (rfl) (by show _ < 20; omega) dX10_ballot_120 (fun H locs hw => ?_)
                      refine lv_iinc (v := (nI ((K + i) + 1))) (lv' := [(12, .int (nI ((K + i) + 1))), (0, .ref (ad 33 0)), (1, .int (nI n1)), (2, .int (nI w2)), (3, .int (nI r3)), (6, .ref (ad 8 0)), (7, .long (mNx x7)), (9, .int (nI w)), (11, .int (G 8 K))]) hx hb dX10_ballot_121 hl (k := 8) rfl (nI_1 _) (by decide) rfl (fun ls hl => ?_)
                      refine lv_goto (tgt := 98) hx hb dX10_ballot_124 (by decide) ?_
                      exact ih98 (i + 1) (by omega) (by omega) _ _ (hw) ls (lv_sub hl [1, 2, 3, 4, 5, 6, 7, 8, 0] (rfl))
                exact lp98 (n1 + 1) 0 (Nat.zero_le _) (by omega) _ _ (by rw [mShf]; exact hw) ls (lv_sub hl [4, 5, 6, 7, 8, 3, 9, 1, 0] (by rw [Nat.add_zero]; rfl))
          exact lp55 (n1 + 1) 0 x0 (Nat.zero_le _) (rfl) (by omega) _ _ (hw) ls (lv_sub hl [3, 4, 5, 6, 2, 1, 0] (rfl))
        · skip
          have hc_50 : nb = 50 := (nI_eq (a := nb) (b := 50) (by omega) (by decide)).mp c_36
          refine lv_iconst (v := (-1)) hx hb dX10_ballot_39 (by decide) ?_
          subst hQ
          exact m_iretS E hr hlk hw (by simp [mBallotW, mBalOK, c_7, c_16, c_27, c_36, hc_50]) dX10_ballot_40
