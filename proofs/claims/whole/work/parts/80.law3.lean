/-! THE CLAIM OUT OF ONE WALK OF THE LAW'S BODY. Your part is whole_start (and what it stands on); all else here is the same for every law, but numbers. -/
def R_law : String := "ScrapHouseLaw"
def lw_P (b : Addr) (xs : List Int32) (args : Array Value) (s : State) : Prop := args = #[.ref b] ∧ s.IntsAt b xs ∧ xs.length ≤ 3584 ∧ (Jvm.Cond.and given_1 narrow_1).before args s = true
def lw_Q (_ : Array Value) (s : State) (o : Outcome) (t : State) : Prop := o = .returned (some (.int 1)) ∧ Framed s o t [] 600000 7302250
def lw_Z (below : List Frame) (a : Array Value) (s : State) : State → Prop := fun t => ∃ o, t.status = .running ∧ Ended t below o ∧ lw_Q a s o t
/-- the law's own end, with 1 on the stack, nothing written that was there before, its room as the claim has it -/
theorem lw_ret {p : Program} {l : Launch} {e : Env} {s : State} {m : MethodId} {below : List Frame} {meth : Method} {c : Code} {b : Nat} (hx : p.tables.exec = Jvm.exec) (hb : c.code = code) (hr : meth.sig.returnType = ret) (hlocks : meth.locks = false) {pc : Nat} {H : Heap} {ls : Array Slot} (hdg : decode code pc = .ok (.ireturn, 1)) : W p l e room_1 s m #[Value.ref b] below meth c H [] 600000 7302250 (lw_Z below #[Value.ref b] s) (F0 m pc ls [.int 1]) := by
  intro T hT X
  obtain ⟨fs, hret, hrun, hended, hW, hframe⟩ := X.leave (v := some (.int 1)) (hlocks := hlocks) (fun h => by rw [hr] at h; cases h)
  have hmeth' : T.vm.method? m = some meth := X.method'
  refine ⟨T.setFrames fs, ?_, .returned (some (.int 1)), hrun, hended, rfl, ⟨_, rfl⟩, hW, hframe⟩
  jvm_step X.here [X.here.top, hx, hb, hdg, hmeth', hr, ret, narrow_b1]
  (try refine ⟨rfl, ?_⟩); (try refine ⟨rfl, ?_⟩)
  first | (intro acts; rw [hret _ acts rfl rfl rfl]) | rw [hret _ _ rfl rfl rfl]
  exact Steps.refl _
/-- what holds at the law's entry: the machine, the code, the tables' words (any of lw_tbl by 'hts w (by decide +kernel)'), the script of L ints xs at the cell b, what the Statement gives of the start (any of its parts by flat_of_before) -/
def lw_At (p : Program) (s : State) (m : MethodId) (meth : Method) (c : Code) (b L : Nat) (xs : Nat → Int32) : Prop :=
  p.tables.exec = Jvm.exec ∧ c.code = code ∧ meth.sig.returnType = ret ∧ c.maxLocals = 4 ∧ s.vm.findClass R_law = some m.cls ∧ (∀ w ∈ lw_tbl, w.before #[Value.ref b] s = true) ∧ va_X b L xs s s.heap ∧ b < s.heap.size ∧ meth.locks = false ∧ (Jvm.Cond.and given_1 narrow_1).before #[Value.ref b] s = true
abbrev sA (s : State) : Nat → Prop := fun q => s.heap.size ≤ q
theorem lw_b7 {L x : Nat} (hL : L ≤ 3584) (hx : x ≤ 3584) (h : ¬ nI L - 7 < nI x) : x + 7 ≤ L := by
  have h1 := pk_sub_toInt (a := L) (b := 7) (by omega) (by omega)
  have h2 := nI_toInt (n := x) (by omega)
  rw [i32_nlt] at h
  have h3 : (nI L - 7).toInt = (L : Int) - 7 := h1
  omega
theorem x_sw24 (x : Int32) : x = 0 ∨ x = 1 ∨ x = 2 ∨ x = 3 ∨ x = 4 ∨ x = 5 ∨ x = 6 ∨ x = 7 ∨ x = 8 ∨ x = 9 ∨ x = 10 ∨ x = 11 ∨ x = 12 ∨ x = 13 ∨ x = 14 ∨ x = 15 ∨ x = 16 ∨ x = 17 ∨ x = 18 ∨ x = 19 ∨ x = 20 ∨ x = 21 ∨ x = 22 ∨ x = 23 ∨ ((x.toInt < 0 ∨ 23 < x.toInt) ∧ ¬ x = 0 ∧ ¬ x = 1 ∧ ¬ x = 2 ∧ ¬ x = 3 ∧ ¬ x = 4 ∧ ¬ x = 5 ∧ ¬ x = 6 ∧ ¬ x = 7 ∧ ¬ x = 8 ∧ ¬ x = 9 ∧ ¬ x = 10 ∧ ¬ x = 11 ∧ ¬ x = 12 ∧ ¬ x = 13 ∧ ¬ x = 14 ∧ ¬ x = 15 ∧ ¬ x = 16 ∧ ¬ x = 17 ∧ ¬ x = 18 ∧ ¬ x = 19 ∧ ¬ x = 20 ∧ ¬ x = 21 ∧ ¬ x = 22 ∧ ¬ x = 23) := by
  by_cases h : x.toInt < 0 ∨ 23 < x.toInt
  · iterate 24 refine Or.inr ?_
    exact ⟨h, x_ne 0 (z := 0) rfl (by omega), x_ne 1 (z := 1) rfl (by omega), x_ne 2 (z := 2) rfl (by omega), x_ne 3 (z := 3) rfl (by omega), x_ne 4 (z := 4) rfl (by omega), x_ne 5 (z := 5) rfl (by omega), x_ne 6 (z := 6) rfl (by omega), x_ne 7 (z := 7) rfl (by omega), x_ne 8 (z := 8) rfl (by omega), x_ne 9 (z := 9) rfl (by omega), x_ne 10 (z := 10) rfl (by omega), x_ne 11 (z := 11) rfl (by omega), x_ne 12 (z := 12) rfl (by omega), x_ne 13 (z := 13) rfl (by omega), x_ne 14 (z := 14) rfl (by omega), x_ne 15 (z := 15) rfl (by omega), x_ne 16 (z := 16) rfl (by omega), x_ne 17 (z := 17) rfl (by omega), x_ne 18 (z := 18) rfl (by omega), x_ne 19 (z := 19) rfl (by omega), x_ne 20 (z := 20) rfl (by omega), x_ne 21 (z := 21) rfl (by omega), x_ne 22 (z := 22) rfl (by omega), x_ne 23 (z := 23) rfl (by omega)⟩
  · have h3 : x.toInt = 0 ∨ x.toInt = 1 ∨ x.toInt = 2 ∨ x.toInt = 3 ∨ x.toInt = 4 ∨ x.toInt = 5 ∨ x.toInt = 6 ∨ x.toInt = 7 ∨ x.toInt = 8 ∨ x.toInt = 9 ∨ x.toInt = 10 ∨ x.toInt = 11 ∨ x.toInt = 12 ∨ x.toInt = 13 ∨ x.toInt = 14 ∨ x.toInt = 15 ∨ x.toInt = 16 ∨ x.toInt = 17 ∨ x.toInt = 18 ∨ x.toInt = 19 ∨ x.toInt = 20 ∨ x.toInt = 21 ∨ x.toInt = 22 ∨ x.toInt = 23 := by omega
    rcases h3 with h | h | h | h | h | h | h | h | h | h | h | h | h | h | h | h | h | h | h | h | h | h | h | h
    · exact Or.inl (x_key 0 rfl h)
    · exact Or.inr (Or.inl (x_key 1 rfl h))
    · exact Or.inr (Or.inr (Or.inl (x_key 2 rfl h)))
    · exact Or.inr (Or.inr (Or.inr (Or.inl (x_key 3 rfl h))))
    · exact Or.inr (Or.inr (Or.inr (Or.inr (Or.inl (x_key 4 rfl h)))))
    · exact Or.inr (Or.inr (Or.inr (Or.inr (Or.inr (Or.inl (x_key 5 rfl h))))))
    · exact Or.inr (Or.inr (Or.inr (Or.inr (Or.inr (Or.inr (Or.inl (x_key 6 rfl h)))))))
    · exact Or.inr (Or.inr (Or.inr (Or.inr (Or.inr (Or.inr (Or.inr (Or.inl (x_key 7 rfl h))))))))
    · exact Or.inr (Or.inr (Or.inr (Or.inr (Or.inr (Or.inr (Or.inr (Or.inr (Or.inl (x_key 8 rfl h)))))))))
    · exact Or.inr (Or.inr (Or.inr (Or.inr (Or.inr (Or.inr (Or.inr (Or.inr (Or.inr (Or.inl (x_key 9 rfl h))))))))))
    · exact Or.inr (Or.inr (Or.inr (Or.inr (Or.inr (Or.inr (Or.inr (Or.inr (Or.inr (Or.inr (Or.inl (x_key 10 rfl h)))))))))))
    · exact Or.inr (Or.inr (Or.inr (Or.inr (Or.inr (Or.inr (Or.inr (Or.inr (Or.inr (Or.inr (Or.inr (Or.inl (x_key 11 rfl h))))))))))))
    · exact Or.inr (Or.inr (Or.inr (Or.inr (Or.inr (Or.inr (Or.inr (Or.inr (Or.inr (Or.inr (Or.inr (Or.inr (Or.inl (x_key 12 rfl h)))))))))))))
    · exact Or.inr (Or.inr (Or.inr (Or.inr (Or.inr (Or.inr (Or.inr (Or.inr (Or.inr (Or.inr (Or.inr (Or.inr (Or.inr (Or.inl (x_key 13 rfl h))))))))))))))
    · exact Or.inr (Or.inr (Or.inr (Or.inr (Or.inr (Or.inr (Or.inr (Or.inr (Or.inr (Or.inr (Or.inr (Or.inr (Or.inr (Or.inr (Or.inl (x_key 14 rfl h)))))))))))))))
    · exact Or.inr (Or.inr (Or.inr (Or.inr (Or.inr (Or.inr (Or.inr (Or.inr (Or.inr (Or.inr (Or.inr (Or.inr (Or.inr (Or.inr (Or.inr (Or.inl (x_key 15 rfl h))))))))))))))))
    · exact Or.inr (Or.inr (Or.inr (Or.inr (Or.inr (Or.inr (Or.inr (Or.inr (Or.inr (Or.inr (Or.inr (Or.inr (Or.inr (Or.inr (Or.inr (Or.inr (Or.inl (x_key 16 rfl h)))))))))))))))))
    · exact Or.inr (Or.inr (Or.inr (Or.inr (Or.inr (Or.inr (Or.inr (Or.inr (Or.inr (Or.inr (Or.inr (Or.inr (Or.inr (Or.inr (Or.inr (Or.inr (Or.inr (Or.inl (x_key 17 rfl h))))))))))))))))))
    · exact Or.inr (Or.inr (Or.inr (Or.inr (Or.inr (Or.inr (Or.inr (Or.inr (Or.inr (Or.inr (Or.inr (Or.inr (Or.inr (Or.inr (Or.inr (Or.inr (Or.inr (Or.inr (Or.inl (x_key 18 rfl h)))))))))))))))))))
    · exact Or.inr (Or.inr (Or.inr (Or.inr (Or.inr (Or.inr (Or.inr (Or.inr (Or.inr (Or.inr (Or.inr (Or.inr (Or.inr (Or.inr (Or.inr (Or.inr (Or.inr (Or.inr (Or.inr (Or.inl (x_key 19 rfl h))))))))))))))))))))
    · exact Or.inr (Or.inr (Or.inr (Or.inr (Or.inr (Or.inr (Or.inr (Or.inr (Or.inr (Or.inr (Or.inr (Or.inr (Or.inr (Or.inr (Or.inr (Or.inr (Or.inr (Or.inr (Or.inr (Or.inr (Or.inl (x_key 20 rfl h)))))))))))))))))))))
    · exact Or.inr (Or.inr (Or.inr (Or.inr (Or.inr (Or.inr (Or.inr (Or.inr (Or.inr (Or.inr (Or.inr (Or.inr (Or.inr (Or.inr (Or.inr (Or.inr (Or.inr (Or.inr (Or.inr (Or.inr (Or.inr (Or.inl (x_key 21 rfl h))))))))))))))))))))))
    · exact Or.inr (Or.inr (Or.inr (Or.inr (Or.inr (Or.inr (Or.inr (Or.inr (Or.inr (Or.inr (Or.inr (Or.inr (Or.inr (Or.inr (Or.inr (Or.inr (Or.inr (Or.inr (Or.inr (Or.inr (Or.inr (Or.inr (Or.inl (x_key 22 rfl h)))))))))))))))))))))))
    · exact Or.inr (Or.inr (Or.inr (Or.inr (Or.inr (Or.inr (Or.inr (Or.inr (Or.inr (Or.inr (Or.inr (Or.inr (Or.inr (Or.inr (Or.inr (Or.inr (Or.inr (Or.inr (Or.inr (Or.inr (Or.inr (Or.inr (Or.inr (Or.inl (x_key 23 rfl h))))))))))))))))))))))))
set_option maxHeartbeats 40000000 in
set_option maxRecDepth 100000 in
/-- THE LAW'S LOOP: at its head, t calls done, both sides say the same numbers -/
theorem law_loop {p : Program} {e : Env} {s : State} {m : MethodId} {below : List Frame} {meth : Method} {c : Code} (l : Launch) {b L : Nat} {xs : Nat → Int32} {D : va_G} {ca : Nat → ClassId} (hL : L ≤ 3584) (E : cx p s m c #[Value.ref b] cL_law 4 "ScrapHouseLaw" D ca) (hr : meth.sig.returnType = ret) (hlk : meth.locks = false) (hX : va_X b L xs s s.heap) (hbl : b < s.heap.size) (hLt : lets (sA s) s) : ∀ (n t : Nat) (cnt : Nat → Nat) (ad : Nat → Nat → Nat) (ct : Nat → Nat → va_E) (ad2 : Nat → Nat → Nat) (v : Nat → Int32) (g : Nat → Nat → Int32) (nw nb nc nm : Nat), 7 * t ≤ L → L + 7 ≤ 7 * (t + n) → cRep ca cnt ad ct v g nw nb nc nm → PI v g t → ∀ (H : Heap) (locs : List Loc), TW D ca (sA s) s.heap cnt ad ct ad2 v g H locs → ∀ ls : Array Slot, lv_has ls 4 [(0, .ref b), (1, .ref (ad 0 0)), (2, .ref (ad2 33 0)), (3, .int (nI (7 * t)))] → W p l e room_1 s m #[Value.ref b] below meth c H locs (45 + 3 * t) (31081 + 41 * t) (lw_Z below #[Value.ref b] s) (F0 m 18 ls []) := by
  have hx := E.1
  have hb := E.2.1
  have hown := E.2.2.2.1
  have hts := E.2.2.2.2.1
  have hbA : ¬ sA s b := Nat.not_le.mpr hbl
  intro n
  induction n with
  | zero =>
    intro t cnt ad ct ad2 v g nw nb nc nm h1 h2
    exact absurd h2 (by omega)
  | succ n ih =>
    intro t cnt ad ct ad2 v g nw nb nc nm h1 h2 hC hPI H locs hT ls hl
    obtain ⟨hO, hIv, tp, htp, hX0, -⟩ := id hC
    have hWo := cRep_WO hC
    obtain ⟨tn, htn, h27⟩ := hPI.2.2.1
    obtain ⟨nr, hnr, h5⟩ := hPI.2.2.2
    have h5n : ¬ v 5 + 1 = 0 := fun q => by rw [h5, nI_1] at q; have := (nI_eq (a := nr + 1) (b := 0) (by omega) (by decide)).mp q; omega
    refine lv_iload_n hx hb dL_law_18 rfl (lv_at hl 3 rfl) ?_
    refine lv_aload_n hx hb dL_law_19 rfl (lv_at hl 0 rfl) ?_
    refine va_slen hx hb hX hbl hbA hT.1.2.2.1 dL_law_20 ?_
    refine x_top (x := Int32.ofNat L) (y := nI L) rfl ?_
    refine lv_bipush (v := 7) hx hb dL_law_21 (by decide) ?_
    refine lv_isub hx hb dL_law_23 ?_
    refine lv_icmp_gt (tgt := 1102) hx hb dL_law_24 (by decide) (fun c_24 => ?_) (fun c_24 => ?_)
    · skip
      refine lv_iconst (v := 1) hx hb dL_law_1102 (by decide) ?_
      refine va_forget (fun q hq => hT.1.2.2.1.2.2 q hq) ?_
      refine W.widen (k := 600000) (n := 7302250) (by omega) (by omega) ?_
      exact lw_ret hx hb hr hlk dL_law_1103
    · skip
      have hb7 : 7 * t + 7 ≤ L := lw_b7 hL (by omega) c_24
      refine lv_aload_n hx hb dL_law_27 rfl (lv_at hl 0 rfl) ?_
      refine lv_iload_n hx hb dL_law_28 rfl (lv_at hl 3 rfl) ?_
      refine va_sld hx hb hX hbl hbA hT.1.2.2.1 (vp_in_nI (n := (7 * t)) (by omega) (by omega)) dL_law_29 ?_
      refine x_top (x := xs (nI (7 * t)).toNatClampNeg) (y := xs (7 * t)) (by rw [nI_clamp (by omega)]) ?_
      refine lv_bipush (v := 31) hx hb dL_law_30 (by decide) ?_
      refine lv_iand hx hb dL_law_32 ?_
      rcases x_sw24 (xs (7 * t) &&& 31) with sw33 | sw33 | sw33 | sw33 | sw33 | sw33 | sw33 | sw33 | sw33 | sw33 | sw33 | sw33 | sw33 | sw33 | sw33 | sw33 | sw33 | sw33 | sw33 | sw33 | sw33 | sw33 | sw33 | sw33 | sw33
      · skip
        refine lv_tableIn (off := 111) (tgt := 144) hx hb dL_law_33 (by rw [sw33]; decide) (by rw [sw33]; decide) (by rw [sw33]; decide) (by decide) ?_
        refine lv_aload_n hx hb dL_law_144 rfl (lv_at hl 1 rfl) ?_
        refine lv_aload_n hx hb dL_law_145 rfl (lv_at hl 0 rfl) ?_
        refine lv_iload_n hx hb dL_law_146 rfl (lv_at hl 3 rfl) ?_
        refine lv_iconst (v := 1) hx hb dL_law_147 (by decide) ?_
        refine lv_iadd hx hb dL_law_148 ?_
        refine x_top (x := (nI (7 * t) + 1)) (y := nI (7 * t + 1)) (nI_add _ 1) ?_
        refine va_sld hx hb hX hbl hbA hT.1.2.2.1 (vp_in_nI (n := (7 * t + 1)) (by omega) (by omega)) dL_law_149 ?_
        refine x_top (x := xs (nI (7 * t + 1)).toNatClampNeg) (y := xs (7 * t + 1)) (by rw [nI_clamp (by omega)]) ?_
        refine tw_C hT (x_runV (rest := []) E cbX9_days tw_117 (kX9_days l D ca cnt ad ct H.size v g nw nb nc nm (xs (7 * t + 1)) hC ) ⟨rfl, rfl, by decide, by decide⟩ (x_recv E hT.1 cl_9 hX0.1 hX0.2.2.2.2) (fun _ _ _ _ h => h) (fun U hU _ => by rw [hU]; exact ⟨rfl, hT.1.1⟩) rfl hl.1 rfl (Nat.le_of_ble_eq_true rfl) dL_law_150 ⟨by show _ ≤ (600000 : Nat); omega, by show _ ≤ (7302250 : Nat); omega⟩) (fun rv9 u9 H locs hp9 hT => ?_)
        obtain ⟨cnt, ad, ct⟩ := u9
        have hT : TW D ca (sA s) s.heap cnt ad ct ad2 v g H locs := hT
        obtain ⟨hrv9, hC9, ha9⟩ := hp9
        subst hrv9
        have hC9 : cRepE ca cnt ad ct (mDaysW v g nw (xs (7 * t + 1))).2.1 (mDaysW v g nw (xs (7 * t + 1))).2.2 := hC9
        have ha9 : ad 0 0 = _ := ha9
        rw [← ha9] at hl
        have hl : lv_has ls 4 [(0, .ref b), (1, .ref (ad 0 0)), (2, .ref (ad2 33 0)), (3, .int (nI (7 * t)))] := hl
        refine W.eq (g2 := F0 m 153 ls [.int ((mDaysW v g nw (xs (7 * t + 1))).1)]) rfl ?_
        refine lv_aload_n hx hb dL_law_153 rfl (lv_at hl 2 rfl) ?_
        refine lv_aload_n hx hb dL_law_154 rfl (lv_at hl 0 rfl) ?_
        refine lv_iload_n hx hb dL_law_155 rfl (lv_at hl 3 rfl) ?_
        refine lv_iconst (v := 1) hx hb dL_law_156 (by decide) ?_
        refine lv_iadd hx hb dL_law_157 ?_
        refine x_top (x := (nI (7 * t) + 1)) (y := nI (7 * t + 1)) (nI_add _ 1) ?_
        refine va_sld hx hb hX hbl hbA hT.1.2.2.1 (vp_in_nI (n := (7 * t + 1)) (by omega) (by omega)) dL_law_158 ?_
        refine x_top (x := xs (nI (7 * t + 1)).toNatClampNeg) (y := xs (7 * t + 1)) (by rw [nI_clamp (by omega)]) ?_
        refine tw_M hT (x_runV (rest := [.int ((mDaysW v g nw (xs (7 * t + 1))).1)]) E cbX10_days tw_643 (kX10_days l D ca ad2 H.size v g nw nb nc nm (xs (7 * t + 1)) hO) ⟨rfl, rfl, by decide, by decide⟩ (m_recv E hT.m) (fun _ _ _ _ h => h) (fun U hU _ => by rw [hU]; exact ⟨rfl, hT.2.1⟩) rfl hl.1 rfl (Nat.le_of_ble_eq_true rfl) dL_law_159 ⟨by show _ ≤ (600000 : Nat); omega, by show _ ≤ (7302250 : Nat); omega⟩) (fun H locs hT => ?_)
        refine W.eq (g2 := F0 m 162 ls [.int ((mDaysW v g nw (xs (7 * t + 1))).1), .int ((mDaysW v g nw (xs (7 * t + 1))).1)]) rfl ?_
        refine lv_icmp_eq (tgt := 1096) hx hb dL_law_162 (by decide) (fun c_162 => ?_) (fun c_162 => ?_)
        · skip
          refine lv_iinc (v := (nI (7 * (t + 1)))) (lv' := [(3, .int (nI (7 * (t + 1)))), (0, .ref b), (1, .ref (ad 0 0)), (2, .ref (ad2 33 0))]) hx hb dL_law_1096 hl (k := 3) rfl (by rw [show 7 * (t + 1) = 7 * t + 7 by omega]; exact nI_add _ 7) (by decide) rfl (fun ls hl => ?_)
          refine lv_goto (tgt := 18) hx hb dL_law_1099 (by decide) ?_
          obtain ⟨nw9, nb9, nc9, nm9, hC9⟩ := hC9
          refine W.widen (k := 45 + 3 * (t + 1)) (n := 31081 + 41 * (t + 1)) (by omega) (by omega) ?_
          exact ih (t + 1) cnt ad ct ad2 ((mDaysW v g nw (xs (7 * t + 1))).2.1) ((mDaysW v g nw (xs (7 * t + 1))).2.2) nw9 nb9 nc9 nm9 (by omega) (by omega) hC9 (PI_days _ hPI) _ _ hT ls (lv_sub hl [1, 2, 3, 0] rfl)
        · skip
          exact absurd rfl c_162
      · skip
        refine lv_tableIn (off := 134) (tgt := 167) hx hb dL_law_33 (by rw [sw33]; decide) (by rw [sw33]; decide) (by rw [sw33]; decide) (by decide) ?_
        refine lv_aload_n hx hb dL_law_167 rfl (lv_at hl 1 rfl) ?_
        refine lv_aload_n hx hb dL_law_168 rfl (lv_at hl 0 rfl) ?_
        refine lv_iload_n hx hb dL_law_169 rfl (lv_at hl 3 rfl) ?_
        refine lv_iconst (v := 1) hx hb dL_law_170 (by decide) ?_
        refine lv_iadd hx hb dL_law_171 ?_
        refine x_top (x := (nI (7 * t) + 1)) (y := nI (7 * t + 1)) (nI_add _ 1) ?_
        refine va_sld hx hb hX hbl hbA hT.1.2.2.1 (vp_in_nI (n := (7 * t + 1)) (by omega) (by omega)) dL_law_172 ?_
        refine x_top (x := xs (nI (7 * t + 1)).toNatClampNeg) (y := xs (7 * t + 1)) (by rw [nI_clamp (by omega)]) ?_
        refine lv_aload_n hx hb dL_law_173 rfl (lv_at hl 0 rfl) ?_
        refine lv_iload_n hx hb dL_law_174 rfl (lv_at hl 3 rfl) ?_
        refine lv_iconst (v := 2) hx hb dL_law_175 (by decide) ?_
        refine lv_iadd hx hb dL_law_176 ?_
        refine x_top (x := (nI (7 * t) + 2)) (y := nI (7 * t + 2)) (nI_add _ 2) ?_
        refine va_sld hx hb hX hbl hbA hT.1.2.2.1 (vp_in_nI (n := (7 * t + 2)) (by omega) (by omega)) dL_law_177 ?_
        refine x_top (x := xs (nI (7 * t + 2)).toNatClampNeg) (y := xs (7 * t + 2)) (by rw [nI_clamp (by omega)]) ?_
        refine lv_aload_n hx hb dL_law_178 rfl (lv_at hl 0 rfl) ?_
        refine lv_iload_n hx hb dL_law_179 rfl (lv_at hl 3 rfl) ?_
        refine lv_iconst (v := 3) hx hb dL_law_180 (by decide) ?_
        refine lv_iadd hx hb dL_law_181 ?_
        refine x_top (x := (nI (7 * t) + 3)) (y := nI (7 * t + 3)) (nI_add _ 3) ?_
        refine va_sld hx hb hX hbl hbA hT.1.2.2.1 (vp_in_nI (n := (7 * t + 3)) (by omega) (by omega)) dL_law_182 ?_
        refine x_top (x := xs (nI (7 * t + 3)).toNatClampNeg) (y := xs (7 * t + 3)) (by rw [nI_clamp (by omega)]) ?_
        refine lv_aload_n hx hb dL_law_183 rfl (lv_at hl 0 rfl) ?_
        refine lv_iload_n hx hb dL_law_184 rfl (lv_at hl 3 rfl) ?_
        refine lv_iconst (v := 4) hx hb dL_law_185 (by decide) ?_
        refine lv_iadd hx hb dL_law_186 ?_
        refine x_top (x := (nI (7 * t) + 4)) (y := nI (7 * t + 4)) (nI_add _ 4) ?_
        refine va_sld hx hb hX hbl hbA hT.1.2.2.1 (vp_in_nI (n := (7 * t + 4)) (by omega) (by omega)) dL_law_187 ?_
        refine x_top (x := xs (nI (7 * t + 4)).toNatClampNeg) (y := xs (7 * t + 4)) (by rw [nI_clamp (by omega)]) ?_
        refine lv_i2l (v := ((xs (7 * t + 4)).toInt64)) hx hb dL_law_188 (rfl) ?_
        refine lv_bipush (v := 32) hx hb dL_law_189 (by decide) ?_
        refine lv_lshl (v := (((xs (7 * t + 4)).toInt64) <<< ((32 : Int32).toInt64 &&& 63))) hx hb dL_law_191 (rfl) ?_
        refine lv_aload_n hx hb dL_law_192 rfl (lv_at hl 0 rfl) ?_
        refine lv_iload_n hx hb dL_law_193 rfl (lv_at hl 3 rfl) ?_
        refine lv_iconst (v := 5) hx hb dL_law_194 (by decide) ?_
        refine lv_iadd hx hb dL_law_195 ?_
        refine x_top (x := (nI (7 * t) + 5)) (y := nI (7 * t + 5)) (nI_add _ 5) ?_
        refine va_sld hx hb hX hbl hbA hT.1.2.2.1 (vp_in_nI (n := (7 * t + 5)) (by omega) (by omega)) dL_law_196 ?_
        refine x_top (x := xs (nI (7 * t + 5)).toNatClampNeg) (y := xs (7 * t + 5)) (by rw [nI_clamp (by omega)]) ?_
        refine lv_i2l (v := ((xs (7 * t + 5)).toInt64)) hx hb dL_law_197 (rfl) ?_
        refine lv_ldc2 hx hb hown (hts _ tw_847) dL_law_198 ?_
        refine lv_land hx hb dL_law_201 ?_
        refine lv_lor hx hb dL_law_202 ?_
        refine tw_C hT (x_runV (rest := []) E cbX9_ballot tw_124 (kX9_ballot l D ca cnt ad ct H.size v g nw nb nc nm (xs (7 * t + 1)) (xs (7 * t + 2)) (xs (7 * t + 3)) ((((xs (7 * t + 4)).toInt64) <<< ((32 : Int32).toInt64 &&& 63)) ||| ((xs (7 * t + 5)).toInt64 &&& 4294967295)) hC ) ⟨rfl, rfl, by decide, by decide⟩ (x_recv E hT.1 cl_9 hX0.1 hX0.2.2.2.2) (fun _ _ _ _ h => h) (fun U hU _ => by rw [hU]; exact ⟨rfl, hT.1.1⟩) rfl hl.1 rfl (Nat.le_of_ble_eq_true rfl) dL_law_203 ⟨by show _ ≤ (600000 : Nat); omega, by show _ ≤ (7302250 : Nat); omega⟩) (fun rv9 u9 H locs hp9 hT => ?_)
        obtain ⟨cnt, ad, ct⟩ := u9
        have hT : TW D ca (sA s) s.heap cnt ad ct ad2 v g H locs := hT
        obtain ⟨hrv9, hC9, ha9⟩ := hp9
        subst hrv9
        have hC9 : cRepE ca cnt ad ct (mBallotW v g nb (xs (7 * t + 1)) (xs (7 * t + 2)) (xs (7 * t + 3)) ((((xs (7 * t + 4)).toInt64) <<< ((32 : Int32).toInt64 &&& 63)) ||| ((xs (7 * t + 5)).toInt64 &&& 4294967295))).2.1 (mBallotW v g nb (xs (7 * t + 1)) (xs (7 * t + 2)) (xs (7 * t + 3)) ((((xs (7 * t + 4)).toInt64) <<< ((32 : Int32).toInt64 &&& 63)) ||| ((xs (7 * t + 5)).toInt64 &&& 4294967295))).2.2 := hC9
        have ha9 : ad 0 0 = _ := ha9
        rw [← ha9] at hl
        have hl : lv_has ls 4 [(0, .ref b), (1, .ref (ad 0 0)), (2, .ref (ad2 33 0)), (3, .int (nI (7 * t)))] := hl
        refine W.eq (g2 := F0 m 206 ls [.int ((mBallotW v g nb (xs (7 * t + 1)) (xs (7 * t + 2)) (xs (7 * t + 3)) ((((xs (7 * t + 4)).toInt64) <<< ((32 : Int32).toInt64 &&& 63)) ||| ((xs (7 * t + 5)).toInt64 &&& 4294967295))).1)]) rfl ?_
        refine lv_aload_n hx hb dL_law_206 rfl (lv_at hl 2 rfl) ?_
        refine lv_aload_n hx hb dL_law_207 rfl (lv_at hl 0 rfl) ?_
        refine lv_iload_n hx hb dL_law_208 rfl (lv_at hl 3 rfl) ?_
        refine lv_iconst (v := 1) hx hb dL_law_209 (by decide) ?_
        refine lv_iadd hx hb dL_law_210 ?_
        refine x_top (x := (nI (7 * t) + 1)) (y := nI (7 * t + 1)) (nI_add _ 1) ?_
        refine va_sld hx hb hX hbl hbA hT.1.2.2.1 (vp_in_nI (n := (7 * t + 1)) (by omega) (by omega)) dL_law_211 ?_
        refine x_top (x := xs (nI (7 * t + 1)).toNatClampNeg) (y := xs (7 * t + 1)) (by rw [nI_clamp (by omega)]) ?_
        refine lv_aload_n hx hb dL_law_212 rfl (lv_at hl 0 rfl) ?_
        refine lv_iload_n hx hb dL_law_213 rfl (lv_at hl 3 rfl) ?_
        refine lv_iconst (v := 2) hx hb dL_law_214 (by decide) ?_
        refine lv_iadd hx hb dL_law_215 ?_
        refine x_top (x := (nI (7 * t) + 2)) (y := nI (7 * t + 2)) (nI_add _ 2) ?_
        refine va_sld hx hb hX hbl hbA hT.1.2.2.1 (vp_in_nI (n := (7 * t + 2)) (by omega) (by omega)) dL_law_216 ?_
        refine x_top (x := xs (nI (7 * t + 2)).toNatClampNeg) (y := xs (7 * t + 2)) (by rw [nI_clamp (by omega)]) ?_
        refine lv_aload_n hx hb dL_law_217 rfl (lv_at hl 0 rfl) ?_
        refine lv_iload_n hx hb dL_law_218 rfl (lv_at hl 3 rfl) ?_
        refine lv_iconst (v := 3) hx hb dL_law_219 (by decide) ?_
        refine lv_iadd hx hb dL_law_220 ?_
        refine x_top (x := (nI (7 * t) + 3)) (y := nI (7 * t + 3)) (nI_add _ 3) ?_
        refine va_sld hx hb hX hbl hbA hT.1.2.2.1 (vp_in_nI (n := (7 * t + 3)) (by omega) (by omega)) dL_law_221 ?_
        refine x_top (x := xs (nI (7 * t + 3)).toNatClampNeg) (y := xs (7 * t + 3)) (by rw [nI_clamp (by omega)]) ?_
        refine lv_aload_n hx hb dL_law_222 rfl (lv_at hl 0 rfl) ?_
        refine lv_iload_n hx hb dL_law_223 rfl (lv_at hl 3 rfl) ?_
        refine lv_iconst (v := 4) hx hb dL_law_224 (by decide) ?_
        refine lv_iadd hx hb dL_law_225 ?_
        refine x_top (x := (nI (7 * t) + 4)) (y := nI (7 * t + 4)) (nI_add _ 4) ?_
        refine va_sld hx hb hX hbl hbA hT.1.2.2.1 (vp_in_nI (n := (7 * t + 4)) (by omega) (by omega)) dL_law_226 ?_
        refine x_top (x := xs (nI (7 * t + 4)).toNatClampNeg) (y := xs (7 * t + 4)) (by rw [nI_clamp (by omega)]) ?_
        refine lv_i2l (v := ((xs (7 * t + 4)).toInt64)) hx hb dL_law_227 (rfl) ?_
        refine lv_bipush (v := 32) hx hb dL_law_228 (by decide) ?_
        refine lv_lshl (v := (((xs (7 * t + 4)).toInt64) <<< ((32 : Int32).toInt64 &&& 63))) hx hb dL_law_230 (rfl) ?_
        refine lv_aload_n hx hb dL_law_231 rfl (lv_at hl 0 rfl) ?_
        refine lv_iload_n hx hb dL_law_232 rfl (lv_at hl 3 rfl) ?_
        refine lv_iconst (v := 5) hx hb dL_law_233 (by decide) ?_
        refine lv_iadd hx hb dL_law_234 ?_
        refine x_top (x := (nI (7 * t) + 5)) (y := nI (7 * t + 5)) (nI_add _ 5) ?_
        refine va_sld hx hb hX hbl hbA hT.1.2.2.1 (vp_in_nI (n := (7 * t + 5)) (by omega) (by omega)) dL_law_235 ?_
        refine x_top (x := xs (nI (7 * t + 5)).toNatClampNeg) (y := xs (7 * t + 5)) (by rw [nI_clamp (by omega)]) ?_
        refine lv_i2l (v := ((xs (7 * t + 5)).toInt64)) hx hb dL_law_236 (rfl) ?_
        refine lv_ldc2 hx hb hown (hts _ tw_847) dL_law_237 ?_
        refine lv_land hx hb dL_law_240 ?_
        refine lv_lor hx hb dL_law_241 ?_
        refine tw_M hT (x_runV (rest := [.int ((mBallotW v g nb (xs (7 * t + 1)) (xs (7 * t + 2)) (xs (7 * t + 3)) ((((xs (7 * t + 4)).toInt64) <<< ((32 : Int32).toInt64 &&& 63)) ||| ((xs (7 * t + 5)).toInt64 &&& 4294967295))).1)]) E cbX10_ballot tw_650 (kX10_ballot l D ca ad2 H.size v g nw nb nc nm (xs (7 * t + 1)) (xs (7 * t + 2)) (xs (7 * t + 3)) ((((xs (7 * t + 4)).toInt64) <<< ((32 : Int32).toInt64 &&& 63)) ||| ((xs (7 * t + 5)).toInt64 &&& 4294967295)) hO) ⟨rfl, rfl, by decide, by decide⟩ (m_recv E hT.m) (fun _ _ _ _ h => h) (fun U hU _ => by rw [hU]; exact ⟨rfl, hT.2.1⟩) rfl hl.1 rfl (Nat.le_of_ble_eq_true rfl) dL_law_242 ⟨by show _ ≤ (600000 : Nat); omega, by show _ ≤ (7302250 : Nat); omega⟩) (fun H locs hT => ?_)
        refine W.eq (g2 := F0 m 245 ls [.int ((mBallotW v g nb (xs (7 * t + 1)) (xs (7 * t + 2)) (xs (7 * t + 3)) ((((xs (7 * t + 4)).toInt64) <<< ((32 : Int32).toInt64 &&& 63)) ||| ((xs (7 * t + 5)).toInt64 &&& 4294967295))).1), .int ((mBallotW v g nb (xs (7 * t + 1)) (xs (7 * t + 2)) (xs (7 * t + 3)) ((((xs (7 * t + 4)).toInt64) <<< ((32 : Int32).toInt64 &&& 63)) ||| ((xs (7 * t + 5)).toInt64 &&& 4294967295))).1)]) rfl ?_
        refine lv_icmp_eq (tgt := 1096) hx hb dL_law_245 (by decide) (fun c_245 => ?_) (fun c_245 => ?_)
        · skip
          refine lv_iinc (v := (nI (7 * (t + 1)))) (lv' := [(3, .int (nI (7 * (t + 1)))), (0, .ref b), (1, .ref (ad 0 0)), (2, .ref (ad2 33 0))]) hx hb dL_law_1096 hl (k := 3) rfl (by rw [show 7 * (t + 1) = 7 * t + 7 by omega]; exact nI_add _ 7) (by decide) rfl (fun ls hl => ?_)
          refine lv_goto (tgt := 18) hx hb dL_law_1099 (by decide) ?_
          obtain ⟨nw9, nb9, nc9, nm9, hC9⟩ := hC9
          refine W.widen (k := 45 + 3 * (t + 1)) (n := 31081 + 41 * (t + 1)) (by omega) (by omega) ?_
          exact ih (t + 1) cnt ad ct ad2 ((mBallotW v g nb (xs (7 * t + 1)) (xs (7 * t + 2)) (xs (7 * t + 3)) ((((xs (7 * t + 4)).toInt64) <<< ((32 : Int32).toInt64 &&& 63)) ||| ((xs (7 * t + 5)).toInt64 &&& 4294967295))).2.1) ((mBallotW v g nb (xs (7 * t + 1)) (xs (7 * t + 2)) (xs (7 * t + 3)) ((((xs (7 * t + 4)).toInt64) <<< ((32 : Int32).toInt64 &&& 63)) ||| ((xs (7 * t + 5)).toInt64 &&& 4294967295))).2.2) nw9 nb9 nc9 nm9 (by omega) (by omega) hC9 (PI_ballot _ _ _ _ hPI) _ _ hT ls (lv_sub hl [1, 2, 3, 0] rfl)
        · skip
          exact absurd rfl c_245
      · skip
        refine lv_tableIn (off := 217) (tgt := 250) hx hb dL_law_33 (by rw [sw33]; decide) (by rw [sw33]; decide) (by rw [sw33]; decide) (by decide) ?_
        refine lv_aload_n hx hb dL_law_250 rfl (lv_at hl 1 rfl) ?_
        refine lv_aload_n hx hb dL_law_251 rfl (lv_at hl 0 rfl) ?_
        refine lv_iload_n hx hb dL_law_252 rfl (lv_at hl 3 rfl) ?_
        refine lv_iconst (v := 1) hx hb dL_law_253 (by decide) ?_
        refine lv_iadd hx hb dL_law_254 ?_
        refine x_top (x := (nI (7 * t) + 1)) (y := nI (7 * t + 1)) (nI_add _ 1) ?_
        refine va_sld hx hb hX hbl hbA hT.1.2.2.1 (vp_in_nI (n := (7 * t + 1)) (by omega) (by omega)) dL_law_255 ?_
        refine x_top (x := xs (nI (7 * t + 1)).toNatClampNeg) (y := xs (7 * t + 1)) (by rw [nI_clamp (by omega)]) ?_
        refine lv_aload_n hx hb dL_law_256 rfl (lv_at hl 0 rfl) ?_
        refine lv_iload_n hx hb dL_law_257 rfl (lv_at hl 3 rfl) ?_
        refine lv_iconst (v := 2) hx hb dL_law_258 (by decide) ?_
        refine lv_iadd hx hb dL_law_259 ?_
        refine x_top (x := (nI (7 * t) + 2)) (y := nI (7 * t + 2)) (nI_add _ 2) ?_
        refine va_sld hx hb hX hbl hbA hT.1.2.2.1 (vp_in_nI (n := (7 * t + 2)) (by omega) (by omega)) dL_law_260 ?_
        refine x_top (x := xs (nI (7 * t + 2)).toNatClampNeg) (y := xs (7 * t + 2)) (by rw [nI_clamp (by omega)]) ?_
        refine x_read (x_runV (rest := []) E cbX9_ball tw_145 (kX9_ball l D ca cnt ad ct v g nw nb nc nm (xs (7 * t + 1)) (xs (7 * t + 2)) hC) ⟨rfl, rfl, by decide, by decide⟩ (x_recv E hT.1 cl_9 hX0.1 hX0.2.2.2.2) (fun _ _ _ _ h => h) (fun U hU _ => by rw [hU]; exact hT.1.1) rfl hl.1 rfl (Nat.le_of_ble_eq_true rfl) dL_law_261 ⟨by show _ ≤ (600000 : Nat); omega, by show _ ≤ (7302250 : Nat); omega⟩) ?_
        refine lv_aload_n hx hb dL_law_264 rfl (lv_at hl 2 rfl) ?_
        refine lv_aload_n hx hb dL_law_265 rfl (lv_at hl 0 rfl) ?_
        refine lv_iload_n hx hb dL_law_266 rfl (lv_at hl 3 rfl) ?_
        refine lv_iconst (v := 1) hx hb dL_law_267 (by decide) ?_
        refine lv_iadd hx hb dL_law_268 ?_
        refine x_top (x := (nI (7 * t) + 1)) (y := nI (7 * t + 1)) (nI_add _ 1) ?_
        refine va_sld hx hb hX hbl hbA hT.1.2.2.1 (vp_in_nI (n := (7 * t + 1)) (by omega) (by omega)) dL_law_269 ?_
        refine x_top (x := xs (nI (7 * t + 1)).toNatClampNeg) (y := xs (7 * t + 1)) (by rw [nI_clamp (by omega)]) ?_
        refine lv_aload_n hx hb dL_law_270 rfl (lv_at hl 0 rfl) ?_
        refine lv_iload_n hx hb dL_law_271 rfl (lv_at hl 3 rfl) ?_
        refine lv_iconst (v := 2) hx hb dL_law_272 (by decide) ?_
        refine lv_iadd hx hb dL_law_273 ?_
        refine x_top (x := (nI (7 * t) + 2)) (y := nI (7 * t + 2)) (nI_add _ 2) ?_
        refine va_sld hx hb hX hbl hbA hT.1.2.2.1 (vp_in_nI (n := (7 * t + 2)) (by omega) (by omega)) dL_law_274 ?_
        refine x_top (x := xs (nI (7 * t + 2)).toNatClampNeg) (y := xs (7 * t + 2)) (by rw [nI_clamp (by omega)]) ?_
        refine x_read (x_runV (rest := [.int (mBall g nb (xs (7 * t + 1)) (xs (7 * t + 2)))]) E cbX10_ball tw_660 (kX10_ball l D ca ad2 v g nw nb nc nm (xs (7 * t + 1)) (xs (7 * t + 2)) hO hWo) ⟨rfl, rfl, by decide, by decide⟩ (m_recv E hT.m) (fun _ _ _ _ h => h) (fun U hU _ => by rw [hU]; exact hT.2.1) rfl hl.1 rfl (Nat.le_of_ble_eq_true rfl) dL_law_275 ⟨by show _ ≤ (600000 : Nat); omega, by show _ ≤ (7302250 : Nat); omega⟩) ?_
        refine lv_icmp_eq (tgt := 1096) hx hb dL_law_278 (by decide) (fun c_278 => ?_) (fun c_278 => ?_)
        · skip
          refine lv_iinc (v := (nI (7 * (t + 1)))) (lv' := [(3, .int (nI (7 * (t + 1)))), (0, .ref b), (1, .ref (ad 0 0)), (2, .ref (ad2 33 0))]) hx hb dL_law_1096 hl (k := 3) rfl (by rw [show 7 * (t + 1) = 7 * t + 7 by omega]; exact nI_add _ 7) (by decide) rfl (fun ls hl => ?_)
          refine lv_goto (tgt := 18) hx hb dL_law_1099 (by decide) ?_
          have hC9 := hC
          refine W.widen (k := 45 + 3 * (t + 1)) (n := 31081 + 41 * (t + 1)) (by omega) (by omega) ?_
          exact ih (t + 1) cnt ad ct ad2 v g nw nb nc nm (by omega) (by omega) hC9 (PI_k hPI) _ _ hT ls (lv_sub hl [1, 2, 3, 0] rfl)
        · skip
          exact absurd rfl c_278
      · skip
        refine lv_tableIn (off := 250) (tgt := 283) hx hb dL_law_33 (by rw [sw33]; decide) (by rw [sw33]; decide) (by rw [sw33]; decide) (by decide) ?_
        refine lv_aload_n hx hb dL_law_283 rfl (lv_at hl 1 rfl) ?_
        refine lv_aload_n hx hb dL_law_284 rfl (lv_at hl 0 rfl) ?_
        refine lv_iload_n hx hb dL_law_285 rfl (lv_at hl 3 rfl) ?_
        refine lv_iconst (v := 1) hx hb dL_law_286 (by decide) ?_
        refine lv_iadd hx hb dL_law_287 ?_
        refine x_top (x := (nI (7 * t) + 1)) (y := nI (7 * t + 1)) (nI_add _ 1) ?_
        refine va_sld hx hb hX hbl hbA hT.1.2.2.1 (vp_in_nI (n := (7 * t + 1)) (by omega) (by omega)) dL_law_288 ?_
        refine x_top (x := xs (nI (7 * t + 1)).toNatClampNeg) (y := xs (7 * t + 1)) (by rw [nI_clamp (by omega)]) ?_
        refine lv_aload_n hx hb dL_law_289 rfl (lv_at hl 0 rfl) ?_
        refine lv_iload_n hx hb dL_law_290 rfl (lv_at hl 3 rfl) ?_
        refine lv_iconst (v := 2) hx hb dL_law_291 (by decide) ?_
        refine lv_iadd hx hb dL_law_292 ?_
        refine x_top (x := (nI (7 * t) + 2)) (y := nI (7 * t + 2)) (nI_add _ 2) ?_
        refine va_sld hx hb hX hbl hbA hT.1.2.2.1 (vp_in_nI (n := (7 * t + 2)) (by omega) (by omega)) dL_law_293 ?_
        refine x_top (x := xs (nI (7 * t + 2)).toNatClampNeg) (y := xs (7 * t + 2)) (by rw [nI_clamp (by omega)]) ?_
        refine tw_C hT (x_runV (rest := []) E cbX9_away tw_158 (kX9_away l D ca cnt ad ct H.size v g nw nb nc nm (xs (7 * t + 1)) (xs (7 * t + 2)) hC ) ⟨rfl, rfl, by decide, by decide⟩ (x_recv E hT.1 cl_9 hX0.1 hX0.2.2.2.2) (fun _ _ _ _ h => h) (fun U hU _ => by rw [hU]; exact ⟨rfl, hT.1.1⟩) rfl hl.1 rfl (Nat.le_of_ble_eq_true rfl) dL_law_294 ⟨by show _ ≤ (600000 : Nat); omega, by show _ ≤ (7302250 : Nat); omega⟩) (fun rv9 u9 H locs hp9 hT => ?_)
        obtain ⟨cnt, ad, ct⟩ := u9
        have hT : TW D ca (sA s) s.heap cnt ad ct ad2 v g H locs := hT
        obtain ⟨hrv9, hC9, ha9⟩ := hp9
        subst hrv9
        have hC9 : cRepE ca cnt ad ct (mAwayW v g nb (xs (7 * t + 1)) (xs (7 * t + 2))).2.1 (mAwayW v g nb (xs (7 * t + 1)) (xs (7 * t + 2))).2.2 := hC9
        have ha9 : ad 0 0 = _ := ha9
        rw [← ha9] at hl
        have hl : lv_has ls 4 [(0, .ref b), (1, .ref (ad 0 0)), (2, .ref (ad2 33 0)), (3, .int (nI (7 * t)))] := hl
        refine W.eq (g2 := F0 m 297 ls [.int ((mAwayW v g nb (xs (7 * t + 1)) (xs (7 * t + 2))).1)]) rfl ?_
        refine lv_aload_n hx hb dL_law_297 rfl (lv_at hl 2 rfl) ?_
        refine lv_aload_n hx hb dL_law_298 rfl (lv_at hl 0 rfl) ?_
        refine lv_iload_n hx hb dL_law_299 rfl (lv_at hl 3 rfl) ?_
        refine lv_iconst (v := 1) hx hb dL_law_300 (by decide) ?_
        refine lv_iadd hx hb dL_law_301 ?_
        refine x_top (x := (nI (7 * t) + 1)) (y := nI (7 * t + 1)) (nI_add _ 1) ?_
        refine va_sld hx hb hX hbl hbA hT.1.2.2.1 (vp_in_nI (n := (7 * t + 1)) (by omega) (by omega)) dL_law_302 ?_
        refine x_top (x := xs (nI (7 * t + 1)).toNatClampNeg) (y := xs (7 * t + 1)) (by rw [nI_clamp (by omega)]) ?_
        refine lv_aload_n hx hb dL_law_303 rfl (lv_at hl 0 rfl) ?_
        refine lv_iload_n hx hb dL_law_304 rfl (lv_at hl 3 rfl) ?_
        refine lv_iconst (v := 2) hx hb dL_law_305 (by decide) ?_
        refine lv_iadd hx hb dL_law_306 ?_
        refine x_top (x := (nI (7 * t) + 2)) (y := nI (7 * t + 2)) (nI_add _ 2) ?_
        refine va_sld hx hb hX hbl hbA hT.1.2.2.1 (vp_in_nI (n := (7 * t + 2)) (by omega) (by omega)) dL_law_307 ?_
        refine x_top (x := xs (nI (7 * t + 2)).toNatClampNeg) (y := xs (7 * t + 2)) (by rw [nI_clamp (by omega)]) ?_
        refine tw_M hT (x_runV (rest := [.int ((mAwayW v g nb (xs (7 * t + 1)) (xs (7 * t + 2))).1)]) E cbX10_away tw_668 (kX10_away l D ca ad2 H.size v g nw nb nc nm (xs (7 * t + 1)) (xs (7 * t + 2)) hO hWo) ⟨rfl, rfl, by decide, by decide⟩ (m_recv E hT.m) (fun _ _ _ _ h => h) (fun U hU _ => by rw [hU]; exact ⟨rfl, hT.2.1⟩) rfl hl.1 rfl (Nat.le_of_ble_eq_true rfl) dL_law_308 ⟨by show _ ≤ (600000 : Nat); omega, by show _ ≤ (7302250 : Nat); omega⟩) (fun H locs hT => ?_)
        refine W.eq (g2 := F0 m 311 ls [.int ((mAwayW v g nb (xs (7 * t + 1)) (xs (7 * t + 2))).1), .int ((mAwayW v g nb (xs (7 * t + 1)) (xs (7 * t + 2))).1)]) rfl ?_
        refine lv_icmp_eq (tgt := 1096) hx hb dL_law_311 (by decide) (fun c_311 => ?_) (fun c_311 => ?_)
        · skip
          refine lv_iinc (v := (nI (7 * (t + 1)))) (lv' := [(3, .int (nI (7 * (t + 1)))), (0, .ref b), (1, .ref (ad 0 0)), (2, .ref (ad2 33 0))]) hx hb dL_law_1096 hl (k := 3) rfl (by rw [show 7 * (t + 1) = 7 * t + 7 by omega]; exact nI_add _ 7) (by decide) rfl (fun ls hl => ?_)
          refine lv_goto (tgt := 18) hx hb dL_law_1099 (by decide) ?_
          obtain ⟨nw9, nb9, nc9, nm9, hC9⟩ := hC9
          refine W.widen (k := 45 + 3 * (t + 1)) (n := 31081 + 41 * (t + 1)) (by omega) (by omega) ?_
          exact ih (t + 1) cnt ad ct ad2 ((mAwayW v g nb (xs (7 * t + 1)) (xs (7 * t + 2))).2.1) ((mAwayW v g nb (xs (7 * t + 1)) (xs (7 * t + 2))).2.2) nw9 nb9 nc9 nm9 (by omega) (by omega) hC9 (PI_away _ _ hPI) _ _ hT ls (lv_sub hl [1, 2, 3, 0] rfl)
        · skip
          exact absurd rfl c_311
      · skip
        refine lv_tableIn (off := 283) (tgt := 316) hx hb dL_law_33 (by rw [sw33]; decide) (by rw [sw33]; decide) (by rw [sw33]; decide) (by decide) ?_
        refine lv_aload_n hx hb dL_law_316 rfl (lv_at hl 1 rfl) ?_
        refine lv_aload_n hx hb dL_law_317 rfl (lv_at hl 0 rfl) ?_
        refine lv_iload_n hx hb dL_law_318 rfl (lv_at hl 3 rfl) ?_
        refine lv_iconst (v := 1) hx hb dL_law_319 (by decide) ?_
        refine lv_iadd hx hb dL_law_320 ?_
        refine x_top (x := (nI (7 * t) + 1)) (y := nI (7 * t + 1)) (nI_add _ 1) ?_
        refine va_sld hx hb hX hbl hbA hT.1.2.2.1 (vp_in_nI (n := (7 * t + 1)) (by omega) (by omega)) dL_law_321 ?_
        refine x_top (x := xs (nI (7 * t + 1)).toNatClampNeg) (y := xs (7 * t + 1)) (by rw [nI_clamp (by omega)]) ?_
        refine lv_aload_n hx hb dL_law_322 rfl (lv_at hl 0 rfl) ?_
        refine lv_iload_n hx hb dL_law_323 rfl (lv_at hl 3 rfl) ?_
        refine lv_iconst (v := 2) hx hb dL_law_324 (by decide) ?_
        refine lv_iadd hx hb dL_law_325 ?_
        refine x_top (x := (nI (7 * t) + 2)) (y := nI (7 * t + 2)) (nI_add _ 2) ?_
        refine va_sld hx hb hX hbl hbA hT.1.2.2.1 (vp_in_nI (n := (7 * t + 2)) (by omega) (by omega)) dL_law_326 ?_
        refine x_top (x := xs (nI (7 * t + 2)).toNatClampNeg) (y := xs (7 * t + 2)) (by rw [nI_clamp (by omega)]) ?_
        refine lv_aload_n hx hb dL_law_327 rfl (lv_at hl 0 rfl) ?_
        refine lv_iload_n hx hb dL_law_328 rfl (lv_at hl 3 rfl) ?_
        refine lv_iconst (v := 3) hx hb dL_law_329 (by decide) ?_
        refine lv_iadd hx hb dL_law_330 ?_
        refine x_top (x := (nI (7 * t) + 3)) (y := nI (7 * t + 3)) (nI_add _ 3) ?_
        refine va_sld hx hb hX hbl hbA hT.1.2.2.1 (vp_in_nI (n := (7 * t + 3)) (by omega) (by omega)) dL_law_331 ?_
        refine x_top (x := xs (nI (7 * t + 3)).toNatClampNeg) (y := xs (7 * t + 3)) (by rw [nI_clamp (by omega)]) ?_
        refine lv_aload_n hx hb dL_law_332 rfl (lv_at hl 0 rfl) ?_
        refine lv_iload_n hx hb dL_law_333 rfl (lv_at hl 3 rfl) ?_
        refine lv_iconst (v := 4) hx hb dL_law_334 (by decide) ?_
        refine lv_iadd hx hb dL_law_335 ?_
        refine x_top (x := (nI (7 * t) + 4)) (y := nI (7 * t + 4)) (nI_add _ 4) ?_
        refine va_sld hx hb hX hbl hbA hT.1.2.2.1 (vp_in_nI (n := (7 * t + 4)) (by omega) (by omega)) dL_law_336 ?_
        refine x_top (x := xs (nI (7 * t + 4)).toNatClampNeg) (y := xs (7 * t + 4)) (by rw [nI_clamp (by omega)]) ?_
        refine lv_aload_n hx hb dL_law_337 rfl (lv_at hl 0 rfl) ?_
        refine lv_iload_n hx hb dL_law_338 rfl (lv_at hl 3 rfl) ?_
        refine lv_iconst (v := 5) hx hb dL_law_339 (by decide) ?_
        refine lv_iadd hx hb dL_law_340 ?_
        refine x_top (x := (nI (7 * t) + 5)) (y := nI (7 * t + 5)) (nI_add _ 5) ?_
        refine va_sld hx hb hX hbl hbA hT.1.2.2.1 (vp_in_nI (n := (7 * t + 5)) (by omega) (by omega)) dL_law_341 ?_
        refine x_top (x := xs (nI (7 * t + 5)).toNatClampNeg) (y := xs (7 * t + 5)) (by rw [nI_clamp (by omega)]) ?_
        refine lv_aload_n hx hb dL_law_342 rfl (lv_at hl 0 rfl) ?_
        refine lv_iload_n hx hb dL_law_343 rfl (lv_at hl 3 rfl) ?_
        refine lv_bipush (v := 6) hx hb dL_law_344 (by decide) ?_
        refine lv_iadd hx hb dL_law_346 ?_
        refine x_top (x := (nI (7 * t) + 6)) (y := nI (7 * t + 6)) (nI_add _ 6) ?_
        refine va_sld hx hb hX hbl hbA hT.1.2.2.1 (vp_in_nI (n := (7 * t + 6)) (by omega) (by omega)) dL_law_347 ?_
        refine x_top (x := xs (nI (7 * t + 6)).toNatClampNeg) (y := xs (7 * t + 6)) (by rw [nI_clamp (by omega)]) ?_
        refine tw_C hT (x_runV (rest := []) E cbX9_leave tw_170 (kX9_leave l D ca cnt ad ct H.size v g nw nb nc nm (xs (7 * t + 1)) (xs (7 * t + 2)) (xs (7 * t + 3)) (xs (7 * t + 4)) (xs (7 * t + 5)) (xs (7 * t + 6)) hC (hPI.2.1 nc hO.2.2.1 hO.2.2.2.2.2.2.1).1) ⟨rfl, rfl, by decide, by decide⟩ (x_recv E hT.1 cl_9 hX0.1 hX0.2.2.2.2) (fun _ _ _ _ h => h) (fun U hU _ => by rw [hU]; exact ⟨rfl, hT.1.1⟩) rfl hl.1 rfl (Nat.le_of_ble_eq_true rfl) dL_law_348 ⟨by show _ ≤ (600000 : Nat); omega, by show _ ≤ (7302250 : Nat); omega⟩) (fun rv9 u9 H locs hp9 hT => ?_)
        obtain ⟨cnt, ad, ct⟩ := u9
        have hT : TW D ca (sA s) s.heap cnt ad ct ad2 v g H locs := hT
        obtain ⟨hrv9, hC9, ha9⟩ := hp9
        subst hrv9
        have hC9 : cRepE ca cnt ad ct (mLeaveW v g nw nb nc (xs (7 * t + 1)) (xs (7 * t + 2)) (xs (7 * t + 3)) (xs (7 * t + 4)) (xs (7 * t + 5)) (xs (7 * t + 6))).2.1 (mLeaveW v g nw nb nc (xs (7 * t + 1)) (xs (7 * t + 2)) (xs (7 * t + 3)) (xs (7 * t + 4)) (xs (7 * t + 5)) (xs (7 * t + 6))).2.2 := hC9
        have ha9 : ad 0 0 = _ := ha9
        rw [← ha9] at hl
        have hl : lv_has ls 4 [(0, .ref b), (1, .ref (ad 0 0)), (2, .ref (ad2 33 0)), (3, .int (nI (7 * t)))] := hl
        refine W.eq (g2 := F0 m 351 ls [.int ((mLeaveW v g nw nb nc (xs (7 * t + 1)) (xs (7 * t + 2)) (xs (7 * t + 3)) (xs (7 * t + 4)) (xs (7 * t + 5)) (xs (7 * t + 6))).1)]) rfl ?_
        refine lv_aload_n hx hb dL_law_351 rfl (lv_at hl 2 rfl) ?_
        refine lv_aload_n hx hb dL_law_352 rfl (lv_at hl 0 rfl) ?_
        refine lv_iload_n hx hb dL_law_353 rfl (lv_at hl 3 rfl) ?_
        refine lv_iconst (v := 1) hx hb dL_law_354 (by decide) ?_
        refine lv_iadd hx hb dL_law_355 ?_
        refine x_top (x := (nI (7 * t) + 1)) (y := nI (7 * t + 1)) (nI_add _ 1) ?_
        refine va_sld hx hb hX hbl hbA hT.1.2.2.1 (vp_in_nI (n := (7 * t + 1)) (by omega) (by omega)) dL_law_356 ?_
        refine x_top (x := xs (nI (7 * t + 1)).toNatClampNeg) (y := xs (7 * t + 1)) (by rw [nI_clamp (by omega)]) ?_
        refine lv_aload_n hx hb dL_law_357 rfl (lv_at hl 0 rfl) ?_
        refine lv_iload_n hx hb dL_law_358 rfl (lv_at hl 3 rfl) ?_
        refine lv_iconst (v := 2) hx hb dL_law_359 (by decide) ?_
        refine lv_iadd hx hb dL_law_360 ?_
        refine x_top (x := (nI (7 * t) + 2)) (y := nI (7 * t + 2)) (nI_add _ 2) ?_
        refine va_sld hx hb hX hbl hbA hT.1.2.2.1 (vp_in_nI (n := (7 * t + 2)) (by omega) (by omega)) dL_law_361 ?_
        refine x_top (x := xs (nI (7 * t + 2)).toNatClampNeg) (y := xs (7 * t + 2)) (by rw [nI_clamp (by omega)]) ?_
        refine lv_aload_n hx hb dL_law_362 rfl (lv_at hl 0 rfl) ?_
        refine lv_iload_n hx hb dL_law_363 rfl (lv_at hl 3 rfl) ?_
        refine lv_iconst (v := 3) hx hb dL_law_364 (by decide) ?_
        refine lv_iadd hx hb dL_law_365 ?_
        refine x_top (x := (nI (7 * t) + 3)) (y := nI (7 * t + 3)) (nI_add _ 3) ?_
        refine va_sld hx hb hX hbl hbA hT.1.2.2.1 (vp_in_nI (n := (7 * t + 3)) (by omega) (by omega)) dL_law_366 ?_
        refine x_top (x := xs (nI (7 * t + 3)).toNatClampNeg) (y := xs (7 * t + 3)) (by rw [nI_clamp (by omega)]) ?_
        refine lv_aload_n hx hb dL_law_367 rfl (lv_at hl 0 rfl) ?_
        refine lv_iload_n hx hb dL_law_368 rfl (lv_at hl 3 rfl) ?_
        refine lv_iconst (v := 4) hx hb dL_law_369 (by decide) ?_
        refine lv_iadd hx hb dL_law_370 ?_
        refine x_top (x := (nI (7 * t) + 4)) (y := nI (7 * t + 4)) (nI_add _ 4) ?_
        refine va_sld hx hb hX hbl hbA hT.1.2.2.1 (vp_in_nI (n := (7 * t + 4)) (by omega) (by omega)) dL_law_371 ?_
        refine x_top (x := xs (nI (7 * t + 4)).toNatClampNeg) (y := xs (7 * t + 4)) (by rw [nI_clamp (by omega)]) ?_
        refine lv_aload_n hx hb dL_law_372 rfl (lv_at hl 0 rfl) ?_
        refine lv_iload_n hx hb dL_law_373 rfl (lv_at hl 3 rfl) ?_
        refine lv_iconst (v := 5) hx hb dL_law_374 (by decide) ?_
        refine lv_iadd hx hb dL_law_375 ?_
        refine x_top (x := (nI (7 * t) + 5)) (y := nI (7 * t + 5)) (nI_add _ 5) ?_
        refine va_sld hx hb hX hbl hbA hT.1.2.2.1 (vp_in_nI (n := (7 * t + 5)) (by omega) (by omega)) dL_law_376 ?_
        refine x_top (x := xs (nI (7 * t + 5)).toNatClampNeg) (y := xs (7 * t + 5)) (by rw [nI_clamp (by omega)]) ?_
        refine lv_aload_n hx hb dL_law_377 rfl (lv_at hl 0 rfl) ?_
        refine lv_iload_n hx hb dL_law_378 rfl (lv_at hl 3 rfl) ?_
        refine lv_bipush (v := 6) hx hb dL_law_379 (by decide) ?_
        refine lv_iadd hx hb dL_law_381 ?_
        refine x_top (x := (nI (7 * t) + 6)) (y := nI (7 * t + 6)) (nI_add _ 6) ?_
        refine va_sld hx hb hX hbl hbA hT.1.2.2.1 (vp_in_nI (n := (7 * t + 6)) (by omega) (by omega)) dL_law_382 ?_
        refine x_top (x := xs (nI (7 * t + 6)).toNatClampNeg) (y := xs (7 * t + 6)) (by rw [nI_clamp (by omega)]) ?_
        refine tw_M hT (x_runV (rest := [.int ((mLeaveW v g nw nb nc (xs (7 * t + 1)) (xs (7 * t + 2)) (xs (7 * t + 3)) (xs (7 * t + 4)) (xs (7 * t + 5)) (xs (7 * t + 6))).1)]) E cbX10_leave tw_672 (kX10_leave l D ca ad2 H.size v g nw nb nc nm (xs (7 * t + 1)) (xs (7 * t + 2)) (xs (7 * t + 3)) (xs (7 * t + 4)) (xs (7 * t + 5)) (xs (7 * t + 6)) hO hWo) ⟨rfl, rfl, by decide, by decide⟩ (m_recv E hT.m) (fun _ _ _ _ h => h) (fun U hU _ => by rw [hU]; exact ⟨rfl, hT.2.1⟩) rfl hl.1 rfl (Nat.le_of_ble_eq_true rfl) dL_law_383 ⟨by show _ ≤ (600000 : Nat); omega, by show _ ≤ (7302250 : Nat); omega⟩) (fun H locs hT => ?_)
        refine W.eq (g2 := F0 m 386 ls [.int ((mLeaveW v g nw nb nc (xs (7 * t + 1)) (xs (7 * t + 2)) (xs (7 * t + 3)) (xs (7 * t + 4)) (xs (7 * t + 5)) (xs (7 * t + 6))).1), .int ((mLeaveW v g nw nb nc (xs (7 * t + 1)) (xs (7 * t + 2)) (xs (7 * t + 3)) (xs (7 * t + 4)) (xs (7 * t + 5)) (xs (7 * t + 6))).1)]) rfl ?_
        refine lv_icmp_eq (tgt := 1096) hx hb dL_law_386 (by decide) (fun c_386 => ?_) (fun c_386 => ?_)
        · skip
          refine lv_iinc (v := (nI (7 * (t + 1)))) (lv' := [(3, .int (nI (7 * (t + 1)))), (0, .ref b), (1, .ref (ad 0 0)), (2, .ref (ad2 33 0))]) hx hb dL_law_1096 hl (k := 3) rfl (by rw [show 7 * (t + 1) = 7 * t + 7 by omega]; exact nI_add _ 7) (by decide) rfl (fun ls hl => ?_)
          refine lv_goto (tgt := 18) hx hb dL_law_1099 (by decide) ?_
          obtain ⟨nw9, nb9, nc9, nm9, hC9⟩ := hC9
          refine W.widen (k := 45 + 3 * (t + 1)) (n := 31081 + 41 * (t + 1)) (by omega) (by omega) ?_
          exact ih (t + 1) cnt ad ct ad2 ((mLeaveW v g nw nb nc (xs (7 * t + 1)) (xs (7 * t + 2)) (xs (7 * t + 3)) (xs (7 * t + 4)) (xs (7 * t + 5)) (xs (7 * t + 6))).2.1) ((mLeaveW v g nw nb nc (xs (7 * t + 1)) (xs (7 * t + 2)) (xs (7 * t + 3)) (xs (7 * t + 4)) (xs (7 * t + 5)) (xs (7 * t + 6))).2.2) nw9 nb9 nc9 nm9 (by omega) (by omega) hC9 (PI_leave _ _ _ _ _ _ hO hPI) _ _ hT ls (lv_sub hl [1, 2, 3, 0] rfl)
        · skip
          exact absurd rfl c_386
      · skip
        refine lv_tableIn (off := 358) (tgt := 391) hx hb dL_law_33 (by rw [sw33]; decide) (by rw [sw33]; decide) (by rw [sw33]; decide) (by decide) ?_
        refine lv_aload_n hx hb dL_law_391 rfl (lv_at hl 1 rfl) ?_
        refine lv_aload_n hx hb dL_law_392 rfl (lv_at hl 0 rfl) ?_
        refine lv_iload_n hx hb dL_law_393 rfl (lv_at hl 3 rfl) ?_
        refine lv_iconst (v := 1) hx hb dL_law_394 (by decide) ?_
        refine lv_iadd hx hb dL_law_395 ?_
        refine x_top (x := (nI (7 * t) + 1)) (y := nI (7 * t + 1)) (nI_add _ 1) ?_
        refine va_sld hx hb hX hbl hbA hT.1.2.2.1 (vp_in_nI (n := (7 * t + 1)) (by omega) (by omega)) dL_law_396 ?_
        refine x_top (x := xs (nI (7 * t + 1)).toNatClampNeg) (y := xs (7 * t + 1)) (by rw [nI_clamp (by omega)]) ?_
        refine lv_aload_n hx hb dL_law_397 rfl (lv_at hl 0 rfl) ?_
        refine lv_iload_n hx hb dL_law_398 rfl (lv_at hl 3 rfl) ?_
        refine lv_iconst (v := 2) hx hb dL_law_399 (by decide) ?_
        refine lv_iadd hx hb dL_law_400 ?_
        refine x_top (x := (nI (7 * t) + 2)) (y := nI (7 * t + 2)) (nI_add _ 2) ?_
        refine va_sld hx hb hX hbl hbA hT.1.2.2.1 (vp_in_nI (n := (7 * t + 2)) (by omega) (by omega)) dL_law_401 ?_
        refine x_top (x := xs (nI (7 * t + 2)).toNatClampNeg) (y := xs (7 * t + 2)) (by rw [nI_clamp (by omega)]) ?_
        refine tw_C hT (x_runV (rest := []) E cbX9_beds tw_268 (kX9_beds l D ca cnt ad ct H.size v g nw nb nc nm (xs (7 * t + 1)) (xs (7 * t + 2)) hC ) ⟨rfl, rfl, by decide, by decide⟩ (x_recv E hT.1 cl_9 hX0.1 hX0.2.2.2.2) (fun _ _ _ _ h => h) (fun U hU _ => by rw [hU]; exact ⟨rfl, hT.1.1⟩) rfl hl.1 rfl (Nat.le_of_ble_eq_true rfl) dL_law_402 ⟨by show _ ≤ (600000 : Nat); omega, by show _ ≤ (7302250 : Nat); omega⟩) (fun rv9 u9 H locs hp9 hT => ?_)
        obtain ⟨cnt, ad, ct⟩ := u9
        have hT : TW D ca (sA s) s.heap cnt ad ct ad2 v g H locs := hT
        obtain ⟨hrv9, hC9, ha9⟩ := hp9
        subst hrv9
        have hC9 : cRepE ca cnt ad ct (mBedsW v g nw nc nm (xs (7 * t + 1)) (xs (7 * t + 2))).2.1 (mBedsW v g nw nc nm (xs (7 * t + 1)) (xs (7 * t + 2))).2.2 := hC9
        have ha9 : ad 0 0 = _ := ha9
        rw [← ha9] at hl
        have hl : lv_has ls 4 [(0, .ref b), (1, .ref (ad 0 0)), (2, .ref (ad2 33 0)), (3, .int (nI (7 * t)))] := hl
        refine W.eq (g2 := F0 m 405 ls [.int ((mBedsW v g nw nc nm (xs (7 * t + 1)) (xs (7 * t + 2))).1)]) rfl ?_
        refine lv_aload_n hx hb dL_law_405 rfl (lv_at hl 2 rfl) ?_
        refine lv_aload_n hx hb dL_law_406 rfl (lv_at hl 0 rfl) ?_
        refine lv_iload_n hx hb dL_law_407 rfl (lv_at hl 3 rfl) ?_
        refine lv_iconst (v := 1) hx hb dL_law_408 (by decide) ?_
        refine lv_iadd hx hb dL_law_409 ?_
        refine x_top (x := (nI (7 * t) + 1)) (y := nI (7 * t + 1)) (nI_add _ 1) ?_
        refine va_sld hx hb hX hbl hbA hT.1.2.2.1 (vp_in_nI (n := (7 * t + 1)) (by omega) (by omega)) dL_law_410 ?_
        refine x_top (x := xs (nI (7 * t + 1)).toNatClampNeg) (y := xs (7 * t + 1)) (by rw [nI_clamp (by omega)]) ?_
        refine lv_aload_n hx hb dL_law_411 rfl (lv_at hl 0 rfl) ?_
        refine lv_iload_n hx hb dL_law_412 rfl (lv_at hl 3 rfl) ?_
        refine lv_iconst (v := 2) hx hb dL_law_413 (by decide) ?_
        refine lv_iadd hx hb dL_law_414 ?_
        refine x_top (x := (nI (7 * t) + 2)) (y := nI (7 * t + 2)) (nI_add _ 2) ?_
        refine va_sld hx hb hX hbl hbA hT.1.2.2.1 (vp_in_nI (n := (7 * t + 2)) (by omega) (by omega)) dL_law_415 ?_
        refine x_top (x := xs (nI (7 * t + 2)).toNatClampNeg) (y := xs (7 * t + 2)) (by rw [nI_clamp (by omega)]) ?_
        refine tw_M hT (x_runV (rest := [.int ((mBedsW v g nw nc nm (xs (7 * t + 1)) (xs (7 * t + 2))).1)]) E cbX10_beds tw_677 (kX10_beds l D ca ad2 H.size v g nw nb nc nm (xs (7 * t + 1)) (xs (7 * t + 2)) hO) ⟨rfl, rfl, by decide, by decide⟩ (m_recv E hT.m) (fun _ _ _ _ h => h) (fun U hU _ => by rw [hU]; exact ⟨rfl, hT.2.1⟩) rfl hl.1 rfl (Nat.le_of_ble_eq_true rfl) dL_law_416 ⟨by show _ ≤ (600000 : Nat); omega, by show _ ≤ (7302250 : Nat); omega⟩) (fun H locs hT => ?_)
        refine W.eq (g2 := F0 m 419 ls [.int ((mBedsW v g nw nc nm (xs (7 * t + 1)) (xs (7 * t + 2))).1), .int ((mBedsW v g nw nc nm (xs (7 * t + 1)) (xs (7 * t + 2))).1)]) rfl ?_
        refine lv_icmp_eq (tgt := 1096) hx hb dL_law_419 (by decide) (fun c_419 => ?_) (fun c_419 => ?_)
        · skip
          refine lv_iinc (v := (nI (7 * (t + 1)))) (lv' := [(3, .int (nI (7 * (t + 1)))), (0, .ref b), (1, .ref (ad 0 0)), (2, .ref (ad2 33 0))]) hx hb dL_law_1096 hl (k := 3) rfl (by rw [show 7 * (t + 1) = 7 * t + 7 by omega]; exact nI_add _ 7) (by decide) rfl (fun ls hl => ?_)
          refine lv_goto (tgt := 18) hx hb dL_law_1099 (by decide) ?_
          obtain ⟨nw9, nb9, nc9, nm9, hC9⟩ := hC9
          refine W.widen (k := 45 + 3 * (t + 1)) (n := 31081 + 41 * (t + 1)) (by omega) (by omega) ?_
          exact ih (t + 1) cnt ad ct ad2 ((mBedsW v g nw nc nm (xs (7 * t + 1)) (xs (7 * t + 2))).2.1) ((mBedsW v g nw nc nm (xs (7 * t + 1)) (xs (7 * t + 2))).2.2) nw9 nb9 nc9 nm9 (by omega) (by omega) hC9 (PI_beds _ _ hPI) _ _ hT ls (lv_sub hl [1, 2, 3, 0] rfl)
        · skip
          exact absurd rfl c_419
      · skip
        refine lv_tableIn (off := 391) (tgt := 424) hx hb dL_law_33 (by rw [sw33]; decide) (by rw [sw33]; decide) (by rw [sw33]; decide) (by decide) ?_
        refine lv_aload_n hx hb dL_law_424 rfl (lv_at hl 1 rfl) ?_
        refine lv_aload_n hx hb dL_law_425 rfl (lv_at hl 0 rfl) ?_
        refine lv_iload_n hx hb dL_law_426 rfl (lv_at hl 3 rfl) ?_
        refine lv_iconst (v := 1) hx hb dL_law_427 (by decide) ?_
        refine lv_iadd hx hb dL_law_428 ?_
        refine x_top (x := (nI (7 * t) + 1)) (y := nI (7 * t + 1)) (nI_add _ 1) ?_
        refine va_sld hx hb hX hbl hbA hT.1.2.2.1 (vp_in_nI (n := (7 * t + 1)) (by omega) (by omega)) dL_law_429 ?_
        refine x_top (x := xs (nI (7 * t + 1)).toNatClampNeg) (y := xs (7 * t + 1)) (by rw [nI_clamp (by omega)]) ?_
        refine lv_aload_n hx hb dL_law_430 rfl (lv_at hl 0 rfl) ?_
        refine lv_iload_n hx hb dL_law_431 rfl (lv_at hl 3 rfl) ?_
        refine lv_iconst (v := 2) hx hb dL_law_432 (by decide) ?_
        refine lv_iadd hx hb dL_law_433 ?_
        refine x_top (x := (nI (7 * t) + 2)) (y := nI (7 * t + 2)) (nI_add _ 2) ?_
        refine va_sld hx hb hX hbl hbA hT.1.2.2.1 (vp_in_nI (n := (7 * t + 2)) (by omega) (by omega)) dL_law_434 ?_
        refine x_top (x := xs (nI (7 * t + 2)).toNatClampNeg) (y := xs (7 * t + 2)) (by rw [nI_clamp (by omega)]) ?_
        refine lv_aload_n hx hb dL_law_435 rfl (lv_at hl 0 rfl) ?_
        refine lv_iload_n hx hb dL_law_436 rfl (lv_at hl 3 rfl) ?_
        refine lv_iconst (v := 3) hx hb dL_law_437 (by decide) ?_
        refine lv_iadd hx hb dL_law_438 ?_
        refine x_top (x := (nI (7 * t) + 3)) (y := nI (7 * t + 3)) (nI_add _ 3) ?_
        refine va_sld hx hb hX hbl hbA hT.1.2.2.1 (vp_in_nI (n := (7 * t + 3)) (by omega) (by omega)) dL_law_439 ?_
        refine x_top (x := xs (nI (7 * t + 3)).toNatClampNeg) (y := xs (7 * t + 3)) (by rw [nI_clamp (by omega)]) ?_
        refine tw_C hT (x_runV (rest := []) E cbX9_move tw_288 (kX9_move l D ca cnt ad ct H.size v g nw nb nc nm (xs (7 * t + 1)) (xs (7 * t + 2)) (xs (7 * t + 3)) hC ) ⟨rfl, rfl, by decide, by decide⟩ (x_recv E hT.1 cl_9 hX0.1 hX0.2.2.2.2) (fun _ _ _ _ h => h) (fun U hU _ => by rw [hU]; exact ⟨rfl, hT.1.1⟩) rfl hl.1 rfl (Nat.le_of_ble_eq_true rfl) dL_law_440 ⟨by show _ ≤ (600000 : Nat); omega, by show _ ≤ (7302250 : Nat); omega⟩) (fun rv9 u9 H locs hp9 hT => ?_)
        obtain ⟨cnt, ad, ct⟩ := u9
        have hT : TW D ca (sA s) s.heap cnt ad ct ad2 v g H locs := hT
        obtain ⟨hrv9, hC9, ha9⟩ := hp9
        subst hrv9
        have hC9 : cRepE ca cnt ad ct (mMoveW v g nw nc nm (xs (7 * t + 1)) (xs (7 * t + 2)) (xs (7 * t + 3))).2.1 (mMoveW v g nw nc nm (xs (7 * t + 1)) (xs (7 * t + 2)) (xs (7 * t + 3))).2.2 := hC9
        have ha9 : ad 0 0 = _ := ha9
        rw [← ha9] at hl
        have hl : lv_has ls 4 [(0, .ref b), (1, .ref (ad 0 0)), (2, .ref (ad2 33 0)), (3, .int (nI (7 * t)))] := hl
        refine W.eq (g2 := F0 m 443 ls [.int ((mMoveW v g nw nc nm (xs (7 * t + 1)) (xs (7 * t + 2)) (xs (7 * t + 3))).1)]) rfl ?_
        refine lv_aload_n hx hb dL_law_443 rfl (lv_at hl 2 rfl) ?_
        refine lv_aload_n hx hb dL_law_444 rfl (lv_at hl 0 rfl) ?_
        refine lv_iload_n hx hb dL_law_445 rfl (lv_at hl 3 rfl) ?_
        refine lv_iconst (v := 1) hx hb dL_law_446 (by decide) ?_
        refine lv_iadd hx hb dL_law_447 ?_
        refine x_top (x := (nI (7 * t) + 1)) (y := nI (7 * t + 1)) (nI_add _ 1) ?_
        refine va_sld hx hb hX hbl hbA hT.1.2.2.1 (vp_in_nI (n := (7 * t + 1)) (by omega) (by omega)) dL_law_448 ?_
        refine x_top (x := xs (nI (7 * t + 1)).toNatClampNeg) (y := xs (7 * t + 1)) (by rw [nI_clamp (by omega)]) ?_
        refine lv_aload_n hx hb dL_law_449 rfl (lv_at hl 0 rfl) ?_
        refine lv_iload_n hx hb dL_law_450 rfl (lv_at hl 3 rfl) ?_
        refine lv_iconst (v := 2) hx hb dL_law_451 (by decide) ?_
        refine lv_iadd hx hb dL_law_452 ?_
        refine x_top (x := (nI (7 * t) + 2)) (y := nI (7 * t + 2)) (nI_add _ 2) ?_
        refine va_sld hx hb hX hbl hbA hT.1.2.2.1 (vp_in_nI (n := (7 * t + 2)) (by omega) (by omega)) dL_law_453 ?_
        refine x_top (x := xs (nI (7 * t + 2)).toNatClampNeg) (y := xs (7 * t + 2)) (by rw [nI_clamp (by omega)]) ?_
        refine lv_aload_n hx hb dL_law_454 rfl (lv_at hl 0 rfl) ?_
        refine lv_iload_n hx hb dL_law_455 rfl (lv_at hl 3 rfl) ?_
        refine lv_iconst (v := 3) hx hb dL_law_456 (by decide) ?_
        refine lv_iadd hx hb dL_law_457 ?_
        refine x_top (x := (nI (7 * t) + 3)) (y := nI (7 * t + 3)) (nI_add _ 3) ?_
        refine va_sld hx hb hX hbl hbA hT.1.2.2.1 (vp_in_nI (n := (7 * t + 3)) (by omega) (by omega)) dL_law_458 ?_
        refine x_top (x := xs (nI (7 * t + 3)).toNatClampNeg) (y := xs (7 * t + 3)) (by rw [nI_clamp (by omega)]) ?_
        refine tw_M hT (x_runV (rest := [.int ((mMoveW v g nw nc nm (xs (7 * t + 1)) (xs (7 * t + 2)) (xs (7 * t + 3))).1)]) E cbX10_move tw_701 (kX10_move l D ca ad2 H.size v g nw nb nc nm (xs (7 * t + 1)) (xs (7 * t + 2)) (xs (7 * t + 3)) hO hIv.1) ⟨rfl, rfl, by decide, by decide⟩ (m_recv E hT.m) (fun _ _ _ _ h => h) (fun U hU _ => by rw [hU]; exact ⟨rfl, hT.2.1⟩) rfl hl.1 rfl (Nat.le_of_ble_eq_true rfl) dL_law_459 ⟨by show _ ≤ (600000 : Nat); omega, by show _ ≤ (7302250 : Nat); omega⟩) (fun H locs hT => ?_)
        refine W.eq (g2 := F0 m 462 ls [.int ((mMoveW v g nw nc nm (xs (7 * t + 1)) (xs (7 * t + 2)) (xs (7 * t + 3))).1), .int ((mMoveW v g nw nc nm (xs (7 * t + 1)) (xs (7 * t + 2)) (xs (7 * t + 3))).1)]) rfl ?_
        refine lv_icmp_eq (tgt := 1096) hx hb dL_law_462 (by decide) (fun c_462 => ?_) (fun c_462 => ?_)
        · skip
          refine lv_iinc (v := (nI (7 * (t + 1)))) (lv' := [(3, .int (nI (7 * (t + 1)))), (0, .ref b), (1, .ref (ad 0 0)), (2, .ref (ad2 33 0))]) hx hb dL_law_1096 hl (k := 3) rfl (by rw [show 7 * (t + 1) = 7 * t + 7 by omega]; exact nI_add _ 7) (by decide) rfl (fun ls hl => ?_)
          refine lv_goto (tgt := 18) hx hb dL_law_1099 (by decide) ?_
          obtain ⟨nw9, nb9, nc9, nm9, hC9⟩ := hC9
          refine W.widen (k := 45 + 3 * (t + 1)) (n := 31081 + 41 * (t + 1)) (by omega) (by omega) ?_
          exact ih (t + 1) cnt ad ct ad2 ((mMoveW v g nw nc nm (xs (7 * t + 1)) (xs (7 * t + 2)) (xs (7 * t + 3))).2.1) ((mMoveW v g nw nc nm (xs (7 * t + 1)) (xs (7 * t + 2)) (xs (7 * t + 3))).2.2) nw9 nb9 nc9 nm9 (by omega) (by omega) hC9 (PI_move _ _ _ hPI) _ _ hT ls (lv_sub hl [1, 2, 3, 0] rfl)
        · skip
          exact absurd rfl c_462
      · skip
        refine lv_tableIn (off := 434) (tgt := 467) hx hb dL_law_33 (by rw [sw33]; decide) (by rw [sw33]; decide) (by rw [sw33]; decide) (by decide) ?_
        refine lv_aload_n hx hb dL_law_467 rfl (lv_at hl 1 rfl) ?_
        refine lv_aload_n hx hb dL_law_468 rfl (lv_at hl 0 rfl) ?_
        refine lv_iload_n hx hb dL_law_469 rfl (lv_at hl 3 rfl) ?_
        refine lv_iconst (v := 1) hx hb dL_law_470 (by decide) ?_
        refine lv_iadd hx hb dL_law_471 ?_
        refine x_top (x := (nI (7 * t) + 1)) (y := nI (7 * t + 1)) (nI_add _ 1) ?_
        refine va_sld hx hb hX hbl hbA hT.1.2.2.1 (vp_in_nI (n := (7 * t + 1)) (by omega) (by omega)) dL_law_472 ?_
        refine x_top (x := xs (nI (7 * t + 1)).toNatClampNeg) (y := xs (7 * t + 1)) (by rw [nI_clamp (by omega)]) ?_
        refine lv_aload_n hx hb dL_law_473 rfl (lv_at hl 0 rfl) ?_
        refine lv_iload_n hx hb dL_law_474 rfl (lv_at hl 3 rfl) ?_
        refine lv_iconst (v := 2) hx hb dL_law_475 (by decide) ?_
        refine lv_iadd hx hb dL_law_476 ?_
        refine x_top (x := (nI (7 * t) + 2)) (y := nI (7 * t + 2)) (nI_add _ 2) ?_
        refine va_sld hx hb hX hbl hbA hT.1.2.2.1 (vp_in_nI (n := (7 * t + 2)) (by omega) (by omega)) dL_law_477 ?_
        refine x_top (x := xs (nI (7 * t + 2)).toNatClampNeg) (y := xs (7 * t + 2)) (by rw [nI_clamp (by omega)]) ?_
        refine lv_aload_n hx hb dL_law_478 rfl (lv_at hl 0 rfl) ?_
        refine lv_iload_n hx hb dL_law_479 rfl (lv_at hl 3 rfl) ?_
        refine lv_iconst (v := 3) hx hb dL_law_480 (by decide) ?_
        refine lv_iadd hx hb dL_law_481 ?_
        refine x_top (x := (nI (7 * t) + 3)) (y := nI (7 * t + 3)) (nI_add _ 3) ?_
        refine va_sld hx hb hX hbl hbA hT.1.2.2.1 (vp_in_nI (n := (7 * t + 3)) (by omega) (by omega)) dL_law_482 ?_
        refine x_top (x := xs (nI (7 * t + 3)).toNatClampNeg) (y := xs (7 * t + 3)) (by rw [nI_clamp (by omega)]) ?_
        refine x_read (x_runV (rest := []) E cbX9_place tw_309 (kX9_place l D ca cnt ad ct v g nw nb nc nm (xs (7 * t + 1)) (xs (7 * t + 2)) (xs (7 * t + 3)) hC) ⟨rfl, rfl, by decide, by decide⟩ (x_recv E hT.1 cl_9 hX0.1 hX0.2.2.2.2) (fun _ _ _ _ h => h) (fun U hU _ => by rw [hU]; exact hT.1.1) rfl hl.1 rfl (Nat.le_of_ble_eq_true rfl) dL_law_483 ⟨by show _ ≤ (600000 : Nat); omega, by show _ ≤ (7302250 : Nat); omega⟩) ?_
        refine lv_aload_n hx hb dL_law_486 rfl (lv_at hl 2 rfl) ?_
        refine lv_aload_n hx hb dL_law_487 rfl (lv_at hl 0 rfl) ?_
        refine lv_iload_n hx hb dL_law_488 rfl (lv_at hl 3 rfl) ?_
        refine lv_iconst (v := 1) hx hb dL_law_489 (by decide) ?_
        refine lv_iadd hx hb dL_law_490 ?_
        refine x_top (x := (nI (7 * t) + 1)) (y := nI (7 * t + 1)) (nI_add _ 1) ?_
        refine va_sld hx hb hX hbl hbA hT.1.2.2.1 (vp_in_nI (n := (7 * t + 1)) (by omega) (by omega)) dL_law_491 ?_
        refine x_top (x := xs (nI (7 * t + 1)).toNatClampNeg) (y := xs (7 * t + 1)) (by rw [nI_clamp (by omega)]) ?_
        refine lv_aload_n hx hb dL_law_492 rfl (lv_at hl 0 rfl) ?_
        refine lv_iload_n hx hb dL_law_493 rfl (lv_at hl 3 rfl) ?_
        refine lv_iconst (v := 2) hx hb dL_law_494 (by decide) ?_
        refine lv_iadd hx hb dL_law_495 ?_
        refine x_top (x := (nI (7 * t) + 2)) (y := nI (7 * t + 2)) (nI_add _ 2) ?_
        refine va_sld hx hb hX hbl hbA hT.1.2.2.1 (vp_in_nI (n := (7 * t + 2)) (by omega) (by omega)) dL_law_496 ?_
        refine x_top (x := xs (nI (7 * t + 2)).toNatClampNeg) (y := xs (7 * t + 2)) (by rw [nI_clamp (by omega)]) ?_
        refine lv_aload_n hx hb dL_law_497 rfl (lv_at hl 0 rfl) ?_
        refine lv_iload_n hx hb dL_law_498 rfl (lv_at hl 3 rfl) ?_
        refine lv_iconst (v := 3) hx hb dL_law_499 (by decide) ?_
        refine lv_iadd hx hb dL_law_500 ?_
        refine x_top (x := (nI (7 * t) + 3)) (y := nI (7 * t + 3)) (nI_add _ 3) ?_
        refine va_sld hx hb hX hbl hbA hT.1.2.2.1 (vp_in_nI (n := (7 * t + 3)) (by omega) (by omega)) dL_law_501 ?_
        refine x_top (x := xs (nI (7 * t + 3)).toNatClampNeg) (y := xs (7 * t + 3)) (by rw [nI_clamp (by omega)]) ?_
        refine x_read (x_runV (rest := [.int (mPlace g nw nc nm (xs (7 * t + 1)) (xs (7 * t + 2)) (xs (7 * t + 3)))]) E cbX10_place tw_709 (kX10_place l D ca ad2 v g nw nb nc nm (xs (7 * t + 1)) (xs (7 * t + 2)) (xs (7 * t + 3)) hO) ⟨rfl, rfl, by decide, by decide⟩ (m_recv E hT.m) (fun _ _ _ _ h => h) (fun U hU _ => by rw [hU]; exact hT.2.1) rfl hl.1 rfl (Nat.le_of_ble_eq_true rfl) dL_law_502 ⟨by show _ ≤ (600000 : Nat); omega, by show _ ≤ (7302250 : Nat); omega⟩) ?_
        refine lv_icmp_eq (tgt := 1096) hx hb dL_law_505 (by decide) (fun c_505 => ?_) (fun c_505 => ?_)
        · skip
          refine lv_iinc (v := (nI (7 * (t + 1)))) (lv' := [(3, .int (nI (7 * (t + 1)))), (0, .ref b), (1, .ref (ad 0 0)), (2, .ref (ad2 33 0))]) hx hb dL_law_1096 hl (k := 3) rfl (by rw [show 7 * (t + 1) = 7 * t + 7 by omega]; exact nI_add _ 7) (by decide) rfl (fun ls hl => ?_)
          refine lv_goto (tgt := 18) hx hb dL_law_1099 (by decide) ?_
          have hC9 := hC
          refine W.widen (k := 45 + 3 * (t + 1)) (n := 31081 + 41 * (t + 1)) (by omega) (by omega) ?_
          exact ih (t + 1) cnt ad ct ad2 v g nw nb nc nm (by omega) (by omega) hC9 (PI_k hPI) _ _ hT ls (lv_sub hl [1, 2, 3, 0] rfl)
        · skip
          exact absurd rfl c_505
      · skip
        refine lv_tableIn (off := 477) (tgt := 510) hx hb dL_law_33 (by rw [sw33]; decide) (by rw [sw33]; decide) (by rw [sw33]; decide) (by decide) ?_
        refine lv_aload_n hx hb dL_law_510 rfl (lv_at hl 1 rfl) ?_
        refine lv_aload_n hx hb dL_law_511 rfl (lv_at hl 0 rfl) ?_
        refine lv_iload_n hx hb dL_law_512 rfl (lv_at hl 3 rfl) ?_
        refine lv_iconst (v := 1) hx hb dL_law_513 (by decide) ?_
        refine lv_iadd hx hb dL_law_514 ?_
        refine x_top (x := (nI (7 * t) + 1)) (y := nI (7 * t + 1)) (nI_add _ 1) ?_
        refine va_sld hx hb hX hbl hbA hT.1.2.2.1 (vp_in_nI (n := (7 * t + 1)) (by omega) (by omega)) dL_law_515 ?_
        refine x_top (x := xs (nI (7 * t + 1)).toNatClampNeg) (y := xs (7 * t + 1)) (by rw [nI_clamp (by omega)]) ?_
        refine tw_C hT (x_runV (rest := []) E cbX9_look tw_317 (kX9_look l D ca cnt ad ct H.size v g nw nb nc nm (xs (7 * t + 1)) hC ) ⟨rfl, rfl, by decide, by decide⟩ (x_recv E hT.1 cl_9 hX0.1 hX0.2.2.2.2) (fun _ _ _ _ h => h) (fun U hU _ => by rw [hU]; exact ⟨rfl, hT.1.1⟩) rfl hl.1 rfl (Nat.le_of_ble_eq_true rfl) dL_law_516 ⟨by show _ ≤ (600000 : Nat); omega, by show _ ≤ (7302250 : Nat); omega⟩) (fun rv9 u9 H locs hp9 hT => ?_)
        obtain ⟨cnt, ad, ct⟩ := u9
        have hT : TW D ca (sA s) s.heap cnt ad ct ad2 v g H locs := hT
        obtain ⟨hrv9, hC9, ha9⟩ := hp9
        subst hrv9
        have hC9 : cRepE ca cnt ad ct (mLookW v g nw (xs (7 * t + 1))).2.1 (mLookW v g nw (xs (7 * t + 1))).2.2 := hC9
        have ha9 : ad 0 0 = _ := ha9
        rw [← ha9] at hl
        have hl : lv_has ls 4 [(0, .ref b), (1, .ref (ad 0 0)), (2, .ref (ad2 33 0)), (3, .int (nI (7 * t)))] := hl
        refine W.eq (g2 := F0 m 519 ls [.int ((mLookW v g nw (xs (7 * t + 1))).1)]) rfl ?_
        refine lv_aload_n hx hb dL_law_519 rfl (lv_at hl 2 rfl) ?_
        refine lv_aload_n hx hb dL_law_520 rfl (lv_at hl 0 rfl) ?_
        refine lv_iload_n hx hb dL_law_521 rfl (lv_at hl 3 rfl) ?_
        refine lv_iconst (v := 1) hx hb dL_law_522 (by decide) ?_
        refine lv_iadd hx hb dL_law_523 ?_
        refine x_top (x := (nI (7 * t) + 1)) (y := nI (7 * t + 1)) (nI_add _ 1) ?_
        refine va_sld hx hb hX hbl hbA hT.1.2.2.1 (vp_in_nI (n := (7 * t + 1)) (by omega) (by omega)) dL_law_524 ?_
        refine x_top (x := xs (nI (7 * t + 1)).toNatClampNeg) (y := xs (7 * t + 1)) (by rw [nI_clamp (by omega)]) ?_
        refine tw_M hT (x_runV (rest := [.int ((mLookW v g nw (xs (7 * t + 1))).1)]) E cbX10_look tw_721 (kX10_look l D ca ad2 H.size v g nw nb nc nm (xs (7 * t + 1)) hO) ⟨rfl, rfl, by decide, by decide⟩ (m_recv E hT.m) (fun _ _ _ _ h => h) (fun U hU _ => by rw [hU]; exact ⟨rfl, hT.2.1⟩) rfl hl.1 rfl (Nat.le_of_ble_eq_true rfl) dL_law_525 ⟨by show _ ≤ (600000 : Nat); omega, by show _ ≤ (7302250 : Nat); omega⟩) (fun H locs hT => ?_)
        refine W.eq (g2 := F0 m 528 ls [.int ((mLookW v g nw (xs (7 * t + 1))).1), .int ((mLookW v g nw (xs (7 * t + 1))).1)]) rfl ?_
        refine lv_icmp_eq (tgt := 1096) hx hb dL_law_528 (by decide) (fun c_528 => ?_) (fun c_528 => ?_)
        · skip
          refine lv_iinc (v := (nI (7 * (t + 1)))) (lv' := [(3, .int (nI (7 * (t + 1)))), (0, .ref b), (1, .ref (ad 0 0)), (2, .ref (ad2 33 0))]) hx hb dL_law_1096 hl (k := 3) rfl (by rw [show 7 * (t + 1) = 7 * t + 7 by omega]; exact nI_add _ 7) (by decide) rfl (fun ls hl => ?_)
          refine lv_goto (tgt := 18) hx hb dL_law_1099 (by decide) ?_
          obtain ⟨nw9, nb9, nc9, nm9, hC9⟩ := hC9
          refine W.widen (k := 45 + 3 * (t + 1)) (n := 31081 + 41 * (t + 1)) (by omega) (by omega) ?_
          exact ih (t + 1) cnt ad ct ad2 ((mLookW v g nw (xs (7 * t + 1))).2.1) ((mLookW v g nw (xs (7 * t + 1))).2.2) nw9 nb9 nc9 nm9 (by omega) (by omega) hC9 (PI_look _ hPI) _ _ hT ls (lv_sub hl [1, 2, 3, 0] rfl)
        · skip
          exact absurd rfl c_528
      · skip
        refine lv_tableIn (off := 500) (tgt := 533) hx hb dL_law_33 (by rw [sw33]; decide) (by rw [sw33]; decide) (by rw [sw33]; decide) (by decide) ?_
        refine lv_aload_n hx hb dL_law_533 rfl (lv_at hl 1 rfl) ?_
        refine lv_aload_n hx hb dL_law_534 rfl (lv_at hl 0 rfl) ?_
        refine lv_iload_n hx hb dL_law_535 rfl (lv_at hl 3 rfl) ?_
        refine lv_iconst (v := 1) hx hb dL_law_536 (by decide) ?_
        refine lv_iadd hx hb dL_law_537 ?_
        refine x_top (x := (nI (7 * t) + 1)) (y := nI (7 * t + 1)) (nI_add _ 1) ?_
        refine va_sld hx hb hX hbl hbA hT.1.2.2.1 (vp_in_nI (n := (7 * t + 1)) (by omega) (by omega)) dL_law_538 ?_
        refine x_top (x := xs (nI (7 * t + 1)).toNatClampNeg) (y := xs (7 * t + 1)) (by rw [nI_clamp (by omega)]) ?_
        refine lv_aload_n hx hb dL_law_539 rfl (lv_at hl 0 rfl) ?_
        refine lv_iload_n hx hb dL_law_540 rfl (lv_at hl 3 rfl) ?_
        refine lv_iconst (v := 2) hx hb dL_law_541 (by decide) ?_
        refine lv_iadd hx hb dL_law_542 ?_
        refine x_top (x := (nI (7 * t) + 2)) (y := nI (7 * t + 2)) (nI_add _ 2) ?_
        refine va_sld hx hb hX hbl hbA hT.1.2.2.1 (vp_in_nI (n := (7 * t + 2)) (by omega) (by omega)) dL_law_543 ?_
        refine x_top (x := xs (nI (7 * t + 2)).toNatClampNeg) (y := xs (7 * t + 2)) (by rw [nI_clamp (by omega)]) ?_
        refine lv_aload_n hx hb dL_law_544 rfl (lv_at hl 0 rfl) ?_
        refine lv_iload_n hx hb dL_law_545 rfl (lv_at hl 3 rfl) ?_
        refine lv_iconst (v := 3) hx hb dL_law_546 (by decide) ?_
        refine lv_iadd hx hb dL_law_547 ?_
        refine x_top (x := (nI (7 * t) + 3)) (y := nI (7 * t + 3)) (nI_add _ 3) ?_
        refine va_sld hx hb hX hbl hbA hT.1.2.2.1 (vp_in_nI (n := (7 * t + 3)) (by omega) (by omega)) dL_law_548 ?_
        refine x_top (x := xs (nI (7 * t + 3)).toNatClampNeg) (y := xs (7 * t + 3)) (by rw [nI_clamp (by omega)]) ?_
        refine x_read (x_runV (rest := []) E cbX9_many tw_336 (kX9_many l D ca cnt ad ct v g nw nb nc nm (xs (7 * t + 1)) (xs (7 * t + 2)) (xs (7 * t + 3)) hC) ⟨rfl, rfl, by decide, by decide⟩ (x_recv E hT.1 cl_9 hX0.1 hX0.2.2.2.2) (fun _ _ _ _ h => h) (fun U hU _ => by rw [hU]; exact hT.1.1) rfl hl.1 rfl (Nat.le_of_ble_eq_true rfl) dL_law_549 ⟨by show _ ≤ (600000 : Nat); omega, by show _ ≤ (7302250 : Nat); omega⟩) ?_
        refine lv_aload_n hx hb dL_law_552 rfl (lv_at hl 2 rfl) ?_
        refine lv_aload_n hx hb dL_law_553 rfl (lv_at hl 0 rfl) ?_
        refine lv_iload_n hx hb dL_law_554 rfl (lv_at hl 3 rfl) ?_
        refine lv_iconst (v := 1) hx hb dL_law_555 (by decide) ?_
        refine lv_iadd hx hb dL_law_556 ?_
        refine x_top (x := (nI (7 * t) + 1)) (y := nI (7 * t + 1)) (nI_add _ 1) ?_
        refine va_sld hx hb hX hbl hbA hT.1.2.2.1 (vp_in_nI (n := (7 * t + 1)) (by omega) (by omega)) dL_law_557 ?_
        refine x_top (x := xs (nI (7 * t + 1)).toNatClampNeg) (y := xs (7 * t + 1)) (by rw [nI_clamp (by omega)]) ?_
        refine lv_aload_n hx hb dL_law_558 rfl (lv_at hl 0 rfl) ?_
        refine lv_iload_n hx hb dL_law_559 rfl (lv_at hl 3 rfl) ?_
        refine lv_iconst (v := 2) hx hb dL_law_560 (by decide) ?_
        refine lv_iadd hx hb dL_law_561 ?_
        refine x_top (x := (nI (7 * t) + 2)) (y := nI (7 * t + 2)) (nI_add _ 2) ?_
        refine va_sld hx hb hX hbl hbA hT.1.2.2.1 (vp_in_nI (n := (7 * t + 2)) (by omega) (by omega)) dL_law_562 ?_
        refine x_top (x := xs (nI (7 * t + 2)).toNatClampNeg) (y := xs (7 * t + 2)) (by rw [nI_clamp (by omega)]) ?_
        refine lv_aload_n hx hb dL_law_563 rfl (lv_at hl 0 rfl) ?_
        refine lv_iload_n hx hb dL_law_564 rfl (lv_at hl 3 rfl) ?_
        refine lv_iconst (v := 3) hx hb dL_law_565 (by decide) ?_
        refine lv_iadd hx hb dL_law_566 ?_
        refine x_top (x := (nI (7 * t) + 3)) (y := nI (7 * t + 3)) (nI_add _ 3) ?_
        refine va_sld hx hb hX hbl hbA hT.1.2.2.1 (vp_in_nI (n := (7 * t + 3)) (by omega) (by omega)) dL_law_567 ?_
        refine x_top (x := xs (nI (7 * t + 3)).toNatClampNeg) (y := xs (7 * t + 3)) (by rw [nI_clamp (by omega)]) ?_
        refine x_read (x_runV (rest := [.int (if (isIn (xs (7 * t + 1)) 0 15 && (isIn (xs (7 * t + 2)) 0 (nI nw) && isIn (xs (7 * t + 3)) 0 (nI nw))) = true then nI (mMany g nm (xs (7 * t + 1)) (xs (7 * t + 2)) (xs (7 * t + 3)) nc) else -1)]) E cbX10_many tw_717 (kX10_many l D ca ad2 v g nw nb nc nm (xs (7 * t + 1)) (xs (7 * t + 2)) (xs (7 * t + 3)) hO) ⟨rfl, rfl, by decide, by decide⟩ (m_recv E hT.m) (fun _ _ _ _ h => h) (fun U hU _ => by rw [hU]; exact hT.2.1) rfl hl.1 rfl (Nat.le_of_ble_eq_true rfl) dL_law_568 ⟨by show _ ≤ (600000 : Nat); omega, by show _ ≤ (7302250 : Nat); omega⟩) ?_
        refine lv_icmp_eq (tgt := 1096) hx hb dL_law_571 (by decide) (fun c_571 => ?_) (fun c_571 => ?_)
        · skip
          refine lv_iinc (v := (nI (7 * (t + 1)))) (lv' := [(3, .int (nI (7 * (t + 1)))), (0, .ref b), (1, .ref (ad 0 0)), (2, .ref (ad2 33 0))]) hx hb dL_law_1096 hl (k := 3) rfl (by rw [show 7 * (t + 1) = 7 * t + 7 by omega]; exact nI_add _ 7) (by decide) rfl (fun ls hl => ?_)
          refine lv_goto (tgt := 18) hx hb dL_law_1099 (by decide) ?_
          have hC9 := hC
          refine W.widen (k := 45 + 3 * (t + 1)) (n := 31081 + 41 * (t + 1)) (by omega) (by omega) ?_
          exact ih (t + 1) cnt ad ct ad2 v g nw nb nc nm (by omega) (by omega) hC9 (PI_k hPI) _ _ hT ls (lv_sub hl [1, 2, 3, 0] rfl)
        · skip
          exact absurd rfl c_571
      · skip
        refine lv_tableIn (off := 543) (tgt := 576) hx hb dL_law_33 (by rw [sw33]; decide) (by rw [sw33]; decide) (by rw [sw33]; decide) (by decide) ?_
        refine lv_aload_n hx hb dL_law_576 rfl (lv_at hl 1 rfl) ?_
        refine lv_aload_n hx hb dL_law_577 rfl (lv_at hl 0 rfl) ?_
        refine lv_iload_n hx hb dL_law_578 rfl (lv_at hl 3 rfl) ?_
        refine lv_iconst (v := 1) hx hb dL_law_579 (by decide) ?_
        refine lv_iadd hx hb dL_law_580 ?_
        refine x_top (x := (nI (7 * t) + 1)) (y := nI (7 * t + 1)) (nI_add _ 1) ?_
        refine va_sld hx hb hX hbl hbA hT.1.2.2.1 (vp_in_nI (n := (7 * t + 1)) (by omega) (by omega)) dL_law_581 ?_
        refine x_top (x := xs (nI (7 * t + 1)).toNatClampNeg) (y := xs (7 * t + 1)) (by rw [nI_clamp (by omega)]) ?_
        refine lv_aload_n hx hb dL_law_582 rfl (lv_at hl 0 rfl) ?_
        refine lv_iload_n hx hb dL_law_583 rfl (lv_at hl 3 rfl) ?_
        refine lv_iconst (v := 2) hx hb dL_law_584 (by decide) ?_
        refine lv_iadd hx hb dL_law_585 ?_
        refine x_top (x := (nI (7 * t) + 2)) (y := nI (7 * t + 2)) (nI_add _ 2) ?_
        refine va_sld hx hb hX hbl hbA hT.1.2.2.1 (vp_in_nI (n := (7 * t + 2)) (by omega) (by omega)) dL_law_586 ?_
        refine x_top (x := xs (nI (7 * t + 2)).toNatClampNeg) (y := xs (7 * t + 2)) (by rw [nI_clamp (by omega)]) ?_
        refine lv_aload_n hx hb dL_law_587 rfl (lv_at hl 0 rfl) ?_
        refine lv_iload_n hx hb dL_law_588 rfl (lv_at hl 3 rfl) ?_
        refine lv_iconst (v := 3) hx hb dL_law_589 (by decide) ?_
        refine lv_iadd hx hb dL_law_590 ?_
        refine x_top (x := (nI (7 * t) + 3)) (y := nI (7 * t + 3)) (nI_add _ 3) ?_
        refine va_sld hx hb hX hbl hbA hT.1.2.2.1 (vp_in_nI (n := (7 * t + 3)) (by omega) (by omega)) dL_law_591 ?_
        refine x_top (x := xs (nI (7 * t + 3)).toNatClampNeg) (y := xs (7 * t + 3)) (by rw [nI_clamp (by omega)]) ?_
        refine lv_aload_n hx hb dL_law_592 rfl (lv_at hl 0 rfl) ?_
        refine lv_iload_n hx hb dL_law_593 rfl (lv_at hl 3 rfl) ?_
        refine lv_iconst (v := 4) hx hb dL_law_594 (by decide) ?_
        refine lv_iadd hx hb dL_law_595 ?_
        refine x_top (x := (nI (7 * t) + 4)) (y := nI (7 * t + 4)) (nI_add _ 4) ?_
        refine va_sld hx hb hX hbl hbA hT.1.2.2.1 (vp_in_nI (n := (7 * t + 4)) (by omega) (by omega)) dL_law_596 ?_
        refine x_top (x := xs (nI (7 * t + 4)).toNatClampNeg) (y := xs (7 * t + 4)) (by rw [nI_clamp (by omega)]) ?_
        refine x_read (x_runV (rest := []) E cbX9_pay tw_340 (kX9_pay l D ca cnt ad ct v g nw nb nc nm (xs (7 * t + 1)) (xs (7 * t + 2)) (xs (7 * t + 3)) (xs (7 * t + 4)) hC) ⟨rfl, rfl, by decide, by decide⟩ (x_recv E hT.1 cl_9 hX0.1 hX0.2.2.2.2) (fun _ _ _ _ h => h) (fun U hU _ => by rw [hU]; exact hT.1.1) rfl hl.1 rfl (Nat.le_of_ble_eq_true rfl) dL_law_597 ⟨by show _ ≤ (600000 : Nat); omega, by show _ ≤ (7302250 : Nat); omega⟩) ?_
        refine lv_aload_n hx hb dL_law_600 rfl (lv_at hl 2 rfl) ?_
        refine lv_aload_n hx hb dL_law_601 rfl (lv_at hl 0 rfl) ?_
        refine lv_iload_n hx hb dL_law_602 rfl (lv_at hl 3 rfl) ?_
        refine lv_iconst (v := 1) hx hb dL_law_603 (by decide) ?_
        refine lv_iadd hx hb dL_law_604 ?_
        refine x_top (x := (nI (7 * t) + 1)) (y := nI (7 * t + 1)) (nI_add _ 1) ?_
        refine va_sld hx hb hX hbl hbA hT.1.2.2.1 (vp_in_nI (n := (7 * t + 1)) (by omega) (by omega)) dL_law_605 ?_
        refine x_top (x := xs (nI (7 * t + 1)).toNatClampNeg) (y := xs (7 * t + 1)) (by rw [nI_clamp (by omega)]) ?_
        refine lv_aload_n hx hb dL_law_606 rfl (lv_at hl 0 rfl) ?_
        refine lv_iload_n hx hb dL_law_607 rfl (lv_at hl 3 rfl) ?_
        refine lv_iconst (v := 2) hx hb dL_law_608 (by decide) ?_
        refine lv_iadd hx hb dL_law_609 ?_
        refine x_top (x := (nI (7 * t) + 2)) (y := nI (7 * t + 2)) (nI_add _ 2) ?_
        refine va_sld hx hb hX hbl hbA hT.1.2.2.1 (vp_in_nI (n := (7 * t + 2)) (by omega) (by omega)) dL_law_610 ?_
        refine x_top (x := xs (nI (7 * t + 2)).toNatClampNeg) (y := xs (7 * t + 2)) (by rw [nI_clamp (by omega)]) ?_
        refine lv_aload_n hx hb dL_law_611 rfl (lv_at hl 0 rfl) ?_
        refine lv_iload_n hx hb dL_law_612 rfl (lv_at hl 3 rfl) ?_
        refine lv_iconst (v := 3) hx hb dL_law_613 (by decide) ?_
        refine lv_iadd hx hb dL_law_614 ?_
        refine x_top (x := (nI (7 * t) + 3)) (y := nI (7 * t + 3)) (nI_add _ 3) ?_
        refine va_sld hx hb hX hbl hbA hT.1.2.2.1 (vp_in_nI (n := (7 * t + 3)) (by omega) (by omega)) dL_law_615 ?_
        refine x_top (x := xs (nI (7 * t + 3)).toNatClampNeg) (y := xs (7 * t + 3)) (by rw [nI_clamp (by omega)]) ?_
        refine lv_aload_n hx hb dL_law_616 rfl (lv_at hl 0 rfl) ?_
        refine lv_iload_n hx hb dL_law_617 rfl (lv_at hl 3 rfl) ?_
        refine lv_iconst (v := 4) hx hb dL_law_618 (by decide) ?_
        refine lv_iadd hx hb dL_law_619 ?_
        refine x_top (x := (nI (7 * t) + 4)) (y := nI (7 * t + 4)) (nI_add _ 4) ?_
        refine va_sld hx hb hX hbl hbA hT.1.2.2.1 (vp_in_nI (n := (7 * t + 4)) (by omega) (by omega)) dL_law_620 ?_
        refine x_top (x := xs (nI (7 * t + 4)).toNatClampNeg) (y := xs (7 * t + 4)) (by rw [nI_clamp (by omega)]) ?_
        refine x_read (x_runV (rest := [.int (mPay g nw nc nm (xs (7 * t + 1)) (xs (7 * t + 2)) (xs (7 * t + 3)) (xs (7 * t + 4)))]) E cbX10_pay tw_725 (kX10_pay l D ca ad2 v g nw nb nc nm (xs (7 * t + 1)) (xs (7 * t + 2)) (xs (7 * t + 3)) (xs (7 * t + 4)) hO) ⟨rfl, rfl, by decide, by decide⟩ (m_recv E hT.m) (fun _ _ _ _ h => h) (fun U hU _ => by rw [hU]; exact hT.2.1) rfl hl.1 rfl (Nat.le_of_ble_eq_true rfl) dL_law_621 ⟨by show _ ≤ (600000 : Nat); omega, by show _ ≤ (7302250 : Nat); omega⟩) ?_
        refine lv_icmp_eq (tgt := 1096) hx hb dL_law_624 (by decide) (fun c_624 => ?_) (fun c_624 => ?_)
        · skip
          refine lv_iinc (v := (nI (7 * (t + 1)))) (lv' := [(3, .int (nI (7 * (t + 1)))), (0, .ref b), (1, .ref (ad 0 0)), (2, .ref (ad2 33 0))]) hx hb dL_law_1096 hl (k := 3) rfl (by rw [show 7 * (t + 1) = 7 * t + 7 by omega]; exact nI_add _ 7) (by decide) rfl (fun ls hl => ?_)
          refine lv_goto (tgt := 18) hx hb dL_law_1099 (by decide) ?_
          have hC9 := hC
          refine W.widen (k := 45 + 3 * (t + 1)) (n := 31081 + 41 * (t + 1)) (by omega) (by omega) ?_
          exact ih (t + 1) cnt ad ct ad2 v g nw nb nc nm (by omega) (by omega) hC9 (PI_k hPI) _ _ hT ls (lv_sub hl [1, 2, 3, 0] rfl)
        · skip
          exact absurd rfl c_624
      · skip
        refine lv_tableIn (off := 596) (tgt := 629) hx hb dL_law_33 (by rw [sw33]; decide) (by rw [sw33]; decide) (by rw [sw33]; decide) (by decide) ?_
        refine lv_aload_n hx hb dL_law_629 rfl (lv_at hl 1 rfl) ?_
        refine lv_aload_n hx hb dL_law_630 rfl (lv_at hl 0 rfl) ?_
        refine lv_iload_n hx hb dL_law_631 rfl (lv_at hl 3 rfl) ?_
        refine lv_iconst (v := 1) hx hb dL_law_632 (by decide) ?_
        refine lv_iadd hx hb dL_law_633 ?_
        refine x_top (x := (nI (7 * t) + 1)) (y := nI (7 * t + 1)) (nI_add _ 1) ?_
        refine va_sld hx hb hX hbl hbA hT.1.2.2.1 (vp_in_nI (n := (7 * t + 1)) (by omega) (by omega)) dL_law_634 ?_
        refine x_top (x := xs (nI (7 * t + 1)).toNatClampNeg) (y := xs (7 * t + 1)) (by rw [nI_clamp (by omega)]) ?_
        refine lv_aload_n hx hb dL_law_635 rfl (lv_at hl 0 rfl) ?_
        refine lv_iload_n hx hb dL_law_636 rfl (lv_at hl 3 rfl) ?_
        refine lv_iconst (v := 2) hx hb dL_law_637 (by decide) ?_
        refine lv_iadd hx hb dL_law_638 ?_
        refine x_top (x := (nI (7 * t) + 2)) (y := nI (7 * t + 2)) (nI_add _ 2) ?_
        refine va_sld hx hb hX hbl hbA hT.1.2.2.1 (vp_in_nI (n := (7 * t + 2)) (by omega) (by omega)) dL_law_639 ?_
        refine x_top (x := xs (nI (7 * t + 2)).toNatClampNeg) (y := xs (7 * t + 2)) (by rw [nI_clamp (by omega)]) ?_
        refine lv_aload_n hx hb dL_law_640 rfl (lv_at hl 0 rfl) ?_
        refine lv_iload_n hx hb dL_law_641 rfl (lv_at hl 3 rfl) ?_
        refine lv_iconst (v := 3) hx hb dL_law_642 (by decide) ?_
        refine lv_iadd hx hb dL_law_643 ?_
        refine x_top (x := (nI (7 * t) + 3)) (y := nI (7 * t + 3)) (nI_add _ 3) ?_
        refine va_sld hx hb hX hbl hbA hT.1.2.2.1 (vp_in_nI (n := (7 * t + 3)) (by omega) (by omega)) dL_law_644 ?_
        refine x_top (x := xs (nI (7 * t + 3)).toNatClampNeg) (y := xs (7 * t + 3)) (by rw [nI_clamp (by omega)]) ?_
        refine lv_aload_n hx hb dL_law_645 rfl (lv_at hl 0 rfl) ?_
        refine lv_iload_n hx hb dL_law_646 rfl (lv_at hl 3 rfl) ?_
        refine lv_iconst (v := 4) hx hb dL_law_647 (by decide) ?_
        refine lv_iadd hx hb dL_law_648 ?_
        refine x_top (x := (nI (7 * t) + 4)) (y := nI (7 * t + 4)) (nI_add _ 4) ?_
        refine va_sld hx hb hX hbl hbA hT.1.2.2.1 (vp_in_nI (n := (7 * t + 4)) (by omega) (by omega)) dL_law_649 ?_
        refine x_top (x := xs (nI (7 * t + 4)).toNatClampNeg) (y := xs (7 * t + 4)) (by rw [nI_clamp (by omega)]) ?_
        refine x_read (x_runV (rest := []) E cbX9_gap tw_365 (kX9_gap l D ca cnt ad ct v g nw nb nc nm (xs (7 * t + 1)) (xs (7 * t + 2)) (xs (7 * t + 3)) (xs (7 * t + 4)) hC) ⟨rfl, rfl, by decide, by decide⟩ (x_recv E hT.1 cl_9 hX0.1 hX0.2.2.2.2) (fun _ _ _ _ h => h) (fun U hU _ => by rw [hU]; exact hT.1.1) rfl hl.1 rfl (Nat.le_of_ble_eq_true rfl) dL_law_650 ⟨by show _ ≤ (600000 : Nat); omega, by show _ ≤ (7302250 : Nat); omega⟩) ?_
        refine lv_aload_n hx hb dL_law_653 rfl (lv_at hl 2 rfl) ?_
        refine lv_aload_n hx hb dL_law_654 rfl (lv_at hl 0 rfl) ?_
        refine lv_iload_n hx hb dL_law_655 rfl (lv_at hl 3 rfl) ?_
        refine lv_iconst (v := 1) hx hb dL_law_656 (by decide) ?_
        refine lv_iadd hx hb dL_law_657 ?_
        refine x_top (x := (nI (7 * t) + 1)) (y := nI (7 * t + 1)) (nI_add _ 1) ?_
        refine va_sld hx hb hX hbl hbA hT.1.2.2.1 (vp_in_nI (n := (7 * t + 1)) (by omega) (by omega)) dL_law_658 ?_
        refine x_top (x := xs (nI (7 * t + 1)).toNatClampNeg) (y := xs (7 * t + 1)) (by rw [nI_clamp (by omega)]) ?_
        refine lv_aload_n hx hb dL_law_659 rfl (lv_at hl 0 rfl) ?_
        refine lv_iload_n hx hb dL_law_660 rfl (lv_at hl 3 rfl) ?_
        refine lv_iconst (v := 2) hx hb dL_law_661 (by decide) ?_
        refine lv_iadd hx hb dL_law_662 ?_
        refine x_top (x := (nI (7 * t) + 2)) (y := nI (7 * t + 2)) (nI_add _ 2) ?_
        refine va_sld hx hb hX hbl hbA hT.1.2.2.1 (vp_in_nI (n := (7 * t + 2)) (by omega) (by omega)) dL_law_663 ?_
        refine x_top (x := xs (nI (7 * t + 2)).toNatClampNeg) (y := xs (7 * t + 2)) (by rw [nI_clamp (by omega)]) ?_
        refine lv_aload_n hx hb dL_law_664 rfl (lv_at hl 0 rfl) ?_
        refine lv_iload_n hx hb dL_law_665 rfl (lv_at hl 3 rfl) ?_
        refine lv_iconst (v := 3) hx hb dL_law_666 (by decide) ?_
        refine lv_iadd hx hb dL_law_667 ?_
        refine x_top (x := (nI (7 * t) + 3)) (y := nI (7 * t + 3)) (nI_add _ 3) ?_
        refine va_sld hx hb hX hbl hbA hT.1.2.2.1 (vp_in_nI (n := (7 * t + 3)) (by omega) (by omega)) dL_law_668 ?_
        refine x_top (x := xs (nI (7 * t + 3)).toNatClampNeg) (y := xs (7 * t + 3)) (by rw [nI_clamp (by omega)]) ?_
        refine lv_aload_n hx hb dL_law_669 rfl (lv_at hl 0 rfl) ?_
        refine lv_iload_n hx hb dL_law_670 rfl (lv_at hl 3 rfl) ?_
        refine lv_iconst (v := 4) hx hb dL_law_671 (by decide) ?_
        refine lv_iadd hx hb dL_law_672 ?_
        refine x_top (x := (nI (7 * t) + 4)) (y := nI (7 * t + 4)) (nI_add _ 4) ?_
        refine va_sld hx hb hX hbl hbA hT.1.2.2.1 (vp_in_nI (n := (7 * t + 4)) (by omega) (by omega)) dL_law_673 ?_
        refine x_top (x := xs (nI (7 * t + 4)).toNatClampNeg) (y := xs (7 * t + 4)) (by rw [nI_clamp (by omega)]) ?_
        refine x_read (x_runV (rest := [.int (mGap g nw nc nm (xs (7 * t + 1)) (xs (7 * t + 2)) (xs (7 * t + 3)) (xs (7 * t + 4)))]) E cbX10_gap tw_742 (kX10_gap l D ca ad2 v g nw nb nc nm (xs (7 * t + 1)) (xs (7 * t + 2)) (xs (7 * t + 3)) (xs (7 * t + 4)) hO) ⟨rfl, rfl, by decide, by decide⟩ (m_recv E hT.m) (fun _ _ _ _ h => h) (fun U hU _ => by rw [hU]; exact hT.2.1) rfl hl.1 rfl (Nat.le_of_ble_eq_true rfl) dL_law_674 ⟨by show _ ≤ (600000 : Nat); omega, by show _ ≤ (7302250 : Nat); omega⟩) ?_
        refine lv_icmp_eq (tgt := 1096) hx hb dL_law_677 (by decide) (fun c_677 => ?_) (fun c_677 => ?_)
        · skip
          refine lv_iinc (v := (nI (7 * (t + 1)))) (lv' := [(3, .int (nI (7 * (t + 1)))), (0, .ref b), (1, .ref (ad 0 0)), (2, .ref (ad2 33 0))]) hx hb dL_law_1096 hl (k := 3) rfl (by rw [show 7 * (t + 1) = 7 * t + 7 by omega]; exact nI_add _ 7) (by decide) rfl (fun ls hl => ?_)
          refine lv_goto (tgt := 18) hx hb dL_law_1099 (by decide) ?_
          have hC9 := hC
          refine W.widen (k := 45 + 3 * (t + 1)) (n := 31081 + 41 * (t + 1)) (by omega) (by omega) ?_
          exact ih (t + 1) cnt ad ct ad2 v g nw nb nc nm (by omega) (by omega) hC9 (PI_k hPI) _ _ hT ls (lv_sub hl [1, 2, 3, 0] rfl)
        · skip
          exact absurd rfl c_677
      · skip
        refine lv_tableIn (off := 649) (tgt := 682) hx hb dL_law_33 (by rw [sw33]; decide) (by rw [sw33]; decide) (by rw [sw33]; decide) (by decide) ?_
        refine lv_aload_n hx hb dL_law_682 rfl (lv_at hl 1 rfl) ?_
        refine lv_aload_n hx hb dL_law_683 rfl (lv_at hl 0 rfl) ?_
        refine lv_iload_n hx hb dL_law_684 rfl (lv_at hl 3 rfl) ?_
        refine lv_iconst (v := 1) hx hb dL_law_685 (by decide) ?_
        refine lv_iadd hx hb dL_law_686 ?_
        refine x_top (x := (nI (7 * t) + 1)) (y := nI (7 * t + 1)) (nI_add _ 1) ?_
        refine va_sld hx hb hX hbl hbA hT.1.2.2.1 (vp_in_nI (n := (7 * t + 1)) (by omega) (by omega)) dL_law_687 ?_
        refine x_top (x := xs (nI (7 * t + 1)).toNatClampNeg) (y := xs (7 * t + 1)) (by rw [nI_clamp (by omega)]) ?_
        refine lv_aload_n hx hb dL_law_688 rfl (lv_at hl 0 rfl) ?_
        refine lv_iload_n hx hb dL_law_689 rfl (lv_at hl 3 rfl) ?_
        refine lv_iconst (v := 2) hx hb dL_law_690 (by decide) ?_
        refine lv_iadd hx hb dL_law_691 ?_
        refine x_top (x := (nI (7 * t) + 2)) (y := nI (7 * t + 2)) (nI_add _ 2) ?_
        refine va_sld hx hb hX hbl hbA hT.1.2.2.1 (vp_in_nI (n := (7 * t + 2)) (by omega) (by omega)) dL_law_692 ?_
        refine x_top (x := xs (nI (7 * t + 2)).toNatClampNeg) (y := xs (7 * t + 2)) (by rw [nI_clamp (by omega)]) ?_
        refine lv_aload_n hx hb dL_law_693 rfl (lv_at hl 0 rfl) ?_
        refine lv_iload_n hx hb dL_law_694 rfl (lv_at hl 3 rfl) ?_
        refine lv_iconst (v := 3) hx hb dL_law_695 (by decide) ?_
        refine lv_iadd hx hb dL_law_696 ?_
        refine x_top (x := (nI (7 * t) + 3)) (y := nI (7 * t + 3)) (nI_add _ 3) ?_
        refine va_sld hx hb hX hbl hbA hT.1.2.2.1 (vp_in_nI (n := (7 * t + 3)) (by omega) (by omega)) dL_law_697 ?_
        refine x_top (x := xs (nI (7 * t + 3)).toNatClampNeg) (y := xs (7 * t + 3)) (by rw [nI_clamp (by omega)]) ?_
        refine tw_C hT (x_runV (rest := []) E cbX9_off tw_369 (kX9_off l D ca cnt ad ct H.size v g nw nb nc nm (xs (7 * t + 1)) (xs (7 * t + 2)) (xs (7 * t + 3)) hC ) ⟨rfl, rfl, by decide, by decide⟩ (x_recv E hT.1 cl_9 hX0.1 hX0.2.2.2.2) (fun _ _ _ _ h => h) (fun U hU _ => by rw [hU]; exact ⟨rfl, hT.1.1⟩) rfl hl.1 rfl (Nat.le_of_ble_eq_true rfl) dL_law_698 ⟨by show _ ≤ (600000 : Nat); omega, by show _ ≤ (7302250 : Nat); omega⟩) (fun rv9 u9 H locs hp9 hT => ?_)
        obtain ⟨cnt, ad, ct⟩ := u9
        have hT : TW D ca (sA s) s.heap cnt ad ct ad2 v g H locs := hT
        obtain ⟨hrv9, hC9, ha9⟩ := hp9
        subst hrv9
        have hC9 : cRepE ca cnt ad ct ((mOffP g nc (xs (7 * t + 1)) (xs (7 * t + 2)) (xs (7 * t + 3)), v, g)).2.1 ((mOffP g nc (xs (7 * t + 1)) (xs (7 * t + 2)) (xs (7 * t + 3)), v, g)).2.2 := hC9
        have ha9 : ad 0 0 = _ := ha9
        rw [← ha9] at hl
        have hl : lv_has ls 4 [(0, .ref b), (1, .ref (ad 0 0)), (2, .ref (ad2 33 0)), (3, .int (nI (7 * t)))] := hl
        refine W.eq (g2 := F0 m 701 ls [.int (((mOffP g nc (xs (7 * t + 1)) (xs (7 * t + 2)) (xs (7 * t + 3)), v, g)).1)]) rfl ?_
        refine lv_aload_n hx hb dL_law_701 rfl (lv_at hl 2 rfl) ?_
        refine lv_aload_n hx hb dL_law_702 rfl (lv_at hl 0 rfl) ?_
        refine lv_iload_n hx hb dL_law_703 rfl (lv_at hl 3 rfl) ?_
        refine lv_iconst (v := 1) hx hb dL_law_704 (by decide) ?_
        refine lv_iadd hx hb dL_law_705 ?_
        refine x_top (x := (nI (7 * t) + 1)) (y := nI (7 * t + 1)) (nI_add _ 1) ?_
        refine va_sld hx hb hX hbl hbA hT.1.2.2.1 (vp_in_nI (n := (7 * t + 1)) (by omega) (by omega)) dL_law_706 ?_
        refine x_top (x := xs (nI (7 * t + 1)).toNatClampNeg) (y := xs (7 * t + 1)) (by rw [nI_clamp (by omega)]) ?_
        refine lv_aload_n hx hb dL_law_707 rfl (lv_at hl 0 rfl) ?_
        refine lv_iload_n hx hb dL_law_708 rfl (lv_at hl 3 rfl) ?_
        refine lv_iconst (v := 2) hx hb dL_law_709 (by decide) ?_
        refine lv_iadd hx hb dL_law_710 ?_
        refine x_top (x := (nI (7 * t) + 2)) (y := nI (7 * t + 2)) (nI_add _ 2) ?_
        refine va_sld hx hb hX hbl hbA hT.1.2.2.1 (vp_in_nI (n := (7 * t + 2)) (by omega) (by omega)) dL_law_711 ?_
        refine x_top (x := xs (nI (7 * t + 2)).toNatClampNeg) (y := xs (7 * t + 2)) (by rw [nI_clamp (by omega)]) ?_
        refine lv_aload_n hx hb dL_law_712 rfl (lv_at hl 0 rfl) ?_
        refine lv_iload_n hx hb dL_law_713 rfl (lv_at hl 3 rfl) ?_
        refine lv_iconst (v := 3) hx hb dL_law_714 (by decide) ?_
        refine lv_iadd hx hb dL_law_715 ?_
        refine x_top (x := (nI (7 * t) + 3)) (y := nI (7 * t + 3)) (nI_add _ 3) ?_
        refine va_sld hx hb hX hbl hbA hT.1.2.2.1 (vp_in_nI (n := (7 * t + 3)) (by omega) (by omega)) dL_law_716 ?_
        refine x_top (x := xs (nI (7 * t + 3)).toNatClampNeg) (y := xs (7 * t + 3)) (by rw [nI_clamp (by omega)]) ?_
        refine x_read (x_runV (rest := [.int (((mOffP g nc (xs (7 * t + 1)) (xs (7 * t + 2)) (xs (7 * t + 3)), v, g)).1)]) E cbX10_off tw_746 (kX10_off l D ca ad2 v g nw nb nc nm (xs (7 * t + 1)) (xs (7 * t + 2)) (xs (7 * t + 3)) hO) ⟨rfl, rfl, by decide, by decide⟩ (m_recv E hT.m) (fun _ _ _ _ h => h) (fun U hU _ => by rw [hU]; exact hT.2.1) rfl hl.1 rfl (Nat.le_of_ble_eq_true rfl) dL_law_717 ⟨by show _ ≤ (600000 : Nat); omega, by show _ ≤ (7302250 : Nat); omega⟩) ?_
        refine lv_icmp_eq (tgt := 1096) hx hb dL_law_720 (by decide) (fun c_720 => ?_) (fun c_720 => ?_)
        · skip
          refine lv_iinc (v := (nI (7 * (t + 1)))) (lv' := [(3, .int (nI (7 * (t + 1)))), (0, .ref b), (1, .ref (ad 0 0)), (2, .ref (ad2 33 0))]) hx hb dL_law_1096 hl (k := 3) rfl (by rw [show 7 * (t + 1) = 7 * t + 7 by omega]; exact nI_add _ 7) (by decide) rfl (fun ls hl => ?_)
          refine lv_goto (tgt := 18) hx hb dL_law_1099 (by decide) ?_
          have hC9 : cRepE ca cnt ad ct v g := hC9
          obtain ⟨nw9, nb9, nc9, nm9, hC9⟩ := hC9
          refine W.widen (k := 45 + 3 * (t + 1)) (n := 31081 + 41 * (t + 1)) (by omega) (by omega) ?_
          exact ih (t + 1) cnt ad ct ad2 v g nw9 nb9 nc9 nm9 (by omega) (by omega) hC9 (PI_k hPI) _ _ hT ls (lv_sub hl [1, 2, 3, 0] rfl)
        · skip
          exact absurd rfl c_720
      · skip
        refine lv_tableIn (off := 692) (tgt := 725) hx hb dL_law_33 (by rw [sw33]; decide) (by rw [sw33]; decide) (by rw [sw33]; decide) (by decide) ?_
        refine lv_aload_n hx hb dL_law_725 rfl (lv_at hl 1 rfl) ?_
        refine lv_aload_n hx hb dL_law_726 rfl (lv_at hl 0 rfl) ?_
        refine lv_iload_n hx hb dL_law_727 rfl (lv_at hl 3 rfl) ?_
        refine lv_iconst (v := 1) hx hb dL_law_728 (by decide) ?_
        refine lv_iadd hx hb dL_law_729 ?_
        refine x_top (x := (nI (7 * t) + 1)) (y := nI (7 * t + 1)) (nI_add _ 1) ?_
        refine va_sld hx hb hX hbl hbA hT.1.2.2.1 (vp_in_nI (n := (7 * t + 1)) (by omega) (by omega)) dL_law_730 ?_
        refine x_top (x := xs (nI (7 * t + 1)).toNatClampNeg) (y := xs (7 * t + 1)) (by rw [nI_clamp (by omega)]) ?_
        refine tw_C hT (x_runV (rest := []) E cbX9_feed tw_388 (kX9_feed l D ca cnt ad ct H.size v g nw nb nc nm tn (xs (7 * t + 1)) hC htn h27) ⟨rfl, rfl, by decide, by decide⟩ (x_recv E hT.1 cl_9 hX0.1 hX0.2.2.2.2) (fun _ _ _ _ h => h) (fun U hU _ => by rw [hU]; exact ⟨rfl, hT.1.1⟩) rfl hl.1 rfl (Nat.le_of_ble_eq_true rfl) dL_law_731 ⟨by show _ ≤ (600000 : Nat); omega, by show _ ≤ (7302250 : Nat); omega⟩) (fun rv9 u9 H locs hp9 hT => ?_)
        obtain ⟨cnt, ad, ct⟩ := u9
        have hT : TW D ca (sA s) s.heap cnt ad ct ad2 v g H locs := hT
        obtain ⟨hrv9, hC9, ha9⟩ := hp9
        subst hrv9
        have hC9 : cRepE ca cnt ad ct (mFeedW v g tn (xs (7 * t + 1))).2.1 (mFeedW v g tn (xs (7 * t + 1))).2.2 := hC9
        have ha9 : ad 0 0 = _ := ha9
        rw [← ha9] at hl
        have hl : lv_has ls 4 [(0, .ref b), (1, .ref (ad 0 0)), (2, .ref (ad2 33 0)), (3, .int (nI (7 * t)))] := hl
        refine W.eq (g2 := F0 m 734 ls [.int ((mFeedW v g tn (xs (7 * t + 1))).1)]) rfl ?_
        refine lv_aload_n hx hb dL_law_734 rfl (lv_at hl 2 rfl) ?_
        refine lv_aload_n hx hb dL_law_735 rfl (lv_at hl 0 rfl) ?_
        refine lv_iload_n hx hb dL_law_736 rfl (lv_at hl 3 rfl) ?_
        refine lv_iconst (v := 1) hx hb dL_law_737 (by decide) ?_
        refine lv_iadd hx hb dL_law_738 ?_
        refine x_top (x := (nI (7 * t) + 1)) (y := nI (7 * t + 1)) (nI_add _ 1) ?_
        refine va_sld hx hb hX hbl hbA hT.1.2.2.1 (vp_in_nI (n := (7 * t + 1)) (by omega) (by omega)) dL_law_739 ?_
        refine x_top (x := xs (nI (7 * t + 1)).toNatClampNeg) (y := xs (7 * t + 1)) (by rw [nI_clamp (by omega)]) ?_
        refine tw_M hT (x_runV (rest := [.int ((mFeedW v g tn (xs (7 * t + 1))).1)]) E cbX10_feed tw_761 (kX10_feed l D ca ad2 H.size v g tn (xs (7 * t + 1)) h27 htn) ⟨rfl, rfl, by decide, by decide⟩ (m_recv E hT.m) (fun _ _ _ _ h => h) (fun U hU _ => by rw [hU]; exact ⟨rfl, hT.2.1⟩) rfl hl.1 rfl (Nat.le_of_ble_eq_true rfl) dL_law_740 ⟨by show _ ≤ (600000 : Nat); omega, by show _ ≤ (7302250 : Nat); omega⟩) (fun H locs hT => ?_)
        refine W.eq (g2 := F0 m 743 ls [.int ((mFeedW v g tn (xs (7 * t + 1))).1), .int ((mFeedW v g tn (xs (7 * t + 1))).1)]) rfl ?_
        refine lv_icmp_eq (tgt := 1096) hx hb dL_law_743 (by decide) (fun c_743 => ?_) (fun c_743 => ?_)
        · skip
          refine lv_iinc (v := (nI (7 * (t + 1)))) (lv' := [(3, .int (nI (7 * (t + 1)))), (0, .ref b), (1, .ref (ad 0 0)), (2, .ref (ad2 33 0))]) hx hb dL_law_1096 hl (k := 3) rfl (by rw [show 7 * (t + 1) = 7 * t + 7 by omega]; exact nI_add _ 7) (by decide) rfl (fun ls hl => ?_)
          refine lv_goto (tgt := 18) hx hb dL_law_1099 (by decide) ?_
          obtain ⟨nw9, nb9, nc9, nm9, hC9⟩ := hC9
          refine W.widen (k := 45 + 3 * (t + 1)) (n := 31081 + 41 * (t + 1)) (by omega) (by omega) ?_
          exact ih (t + 1) cnt ad ct ad2 ((mFeedW v g tn (xs (7 * t + 1))).2.1) ((mFeedW v g tn (xs (7 * t + 1))).2.2) nw9 nb9 nc9 nm9 (by omega) (by omega) hC9 (PI_feed _ hPI) _ _ hT ls (lv_sub hl [1, 2, 3, 0] rfl)
        · skip
          exact absurd rfl c_743
      · skip
        refine lv_tableIn (off := 715) (tgt := 748) hx hb dL_law_33 (by rw [sw33]; decide) (by rw [sw33]; decide) (by rw [sw33]; decide) (by decide) ?_
        refine lv_aload_n hx hb dL_law_748 rfl (lv_at hl 1 rfl) ?_
        refine lv_aload_n hx hb dL_law_749 rfl (lv_at hl 0 rfl) ?_
        refine lv_iload_n hx hb dL_law_750 rfl (lv_at hl 3 rfl) ?_
        refine lv_iconst (v := 1) hx hb dL_law_751 (by decide) ?_
        refine lv_iadd hx hb dL_law_752 ?_
        refine x_top (x := (nI (7 * t) + 1)) (y := nI (7 * t + 1)) (nI_add _ 1) ?_
        refine va_sld hx hb hX hbl hbA hT.1.2.2.1 (vp_in_nI (n := (7 * t + 1)) (by omega) (by omega)) dL_law_753 ?_
        refine x_top (x := xs (nI (7 * t + 1)).toNatClampNeg) (y := xs (7 * t + 1)) (by rw [nI_clamp (by omega)]) ?_
        refine tw_C hT (x_runV (rest := []) E cbX9_end tw_396 (kX9_end l D ca cnt ad ct H.size v g nw nb nc nm (xs (7 * t + 1)) hC ) ⟨rfl, rfl, by decide, by decide⟩ (x_recv E hT.1 cl_9 hX0.1 hX0.2.2.2.2) (fun _ _ _ _ h => h) (fun U hU _ => by rw [hU]; exact ⟨rfl, hT.1.1⟩) rfl hl.1 rfl (Nat.le_of_ble_eq_true rfl) dL_law_754 ⟨by show _ ≤ (600000 : Nat); omega, by show _ ≤ (7302250 : Nat); omega⟩) (fun rv9 u9 H locs hp9 hT => ?_)
        obtain ⟨cnt, ad, ct⟩ := u9
        have hT : TW D ca (sA s) s.heap cnt ad ct ad2 v g H locs := hT
        obtain ⟨hrv9, hC9, ha9⟩ := hp9
        subst hrv9
        have hC9 : cRepE ca cnt ad ct (mEndW v g (xs (7 * t + 1))).2.1 (mEndW v g (xs (7 * t + 1))).2.2 := hC9
        have ha9 : ad 0 0 = _ := ha9
        rw [← ha9] at hl
        have hl : lv_has ls 4 [(0, .ref b), (1, .ref (ad 0 0)), (2, .ref (ad2 33 0)), (3, .int (nI (7 * t)))] := hl
        refine W.eq (g2 := F0 m 757 ls [.int ((mEndW v g (xs (7 * t + 1))).1)]) rfl ?_
        refine lv_aload_n hx hb dL_law_757 rfl (lv_at hl 2 rfl) ?_
        refine lv_aload_n hx hb dL_law_758 rfl (lv_at hl 0 rfl) ?_
        refine lv_iload_n hx hb dL_law_759 rfl (lv_at hl 3 rfl) ?_
        refine lv_iconst (v := 1) hx hb dL_law_760 (by decide) ?_
        refine lv_iadd hx hb dL_law_761 ?_
        refine x_top (x := (nI (7 * t) + 1)) (y := nI (7 * t + 1)) (nI_add _ 1) ?_
        refine va_sld hx hb hX hbl hbA hT.1.2.2.1 (vp_in_nI (n := (7 * t + 1)) (by omega) (by omega)) dL_law_762 ?_
        refine x_top (x := xs (nI (7 * t + 1)).toNatClampNeg) (y := xs (7 * t + 1)) (by rw [nI_clamp (by omega)]) ?_
        refine tw_M hT (x_runV (rest := [.int ((mEndW v g (xs (7 * t + 1))).1)]) E cbX10_end tw_765 (kX10_end l D ca ad2 H.size v g (xs (7 * t + 1))) ⟨rfl, rfl, by decide, by decide⟩ (m_recv E hT.m) (fun _ _ _ _ h => h) (fun U hU _ => by rw [hU]; exact ⟨rfl, hT.2.1⟩) rfl hl.1 rfl (Nat.le_of_ble_eq_true rfl) dL_law_763 ⟨by show _ ≤ (600000 : Nat); omega, by show _ ≤ (7302250 : Nat); omega⟩) (fun H locs hT => ?_)
        refine W.eq (g2 := F0 m 766 ls [.int ((mEndW v g (xs (7 * t + 1))).1), .int ((mEndW v g (xs (7 * t + 1))).1)]) rfl ?_
        refine lv_icmp_eq (tgt := 1096) hx hb dL_law_766 (by decide) (fun c_766 => ?_) (fun c_766 => ?_)
        · skip
          refine lv_iinc (v := (nI (7 * (t + 1)))) (lv' := [(3, .int (nI (7 * (t + 1)))), (0, .ref b), (1, .ref (ad 0 0)), (2, .ref (ad2 33 0))]) hx hb dL_law_1096 hl (k := 3) rfl (by rw [show 7 * (t + 1) = 7 * t + 7 by omega]; exact nI_add _ 7) (by decide) rfl (fun ls hl => ?_)
          refine lv_goto (tgt := 18) hx hb dL_law_1099 (by decide) ?_
          obtain ⟨nw9, nb9, nc9, nm9, hC9⟩ := hC9
          refine W.widen (k := 45 + 3 * (t + 1)) (n := 31081 + 41 * (t + 1)) (by omega) (by omega) ?_
          exact ih (t + 1) cnt ad ct ad2 ((mEndW v g (xs (7 * t + 1))).2.1) ((mEndW v g (xs (7 * t + 1))).2.2) nw9 nb9 nc9 nm9 (by omega) (by omega) hC9 (PI_end _ hPI) _ _ hT ls (lv_sub hl [1, 2, 3, 0] rfl)
        · skip
          exact absurd rfl c_766
      · skip
        refine lv_tableIn (off := 738) (tgt := 771) hx hb dL_law_33 (by rw [sw33]; decide) (by rw [sw33]; decide) (by rw [sw33]; decide) (by decide) ?_
        refine lv_aload_n hx hb dL_law_771 rfl (lv_at hl 1 rfl) ?_
        refine tw_C hT (x_runV (rest := []) E cbX9_fault tw_400 (kX9_fault l D ca cnt ad ct H.size v g nw nb nc nm tn hC htn h27) ⟨rfl, rfl, by decide, by decide⟩ (x_recv E hT.1 cl_9 hX0.1 hX0.2.2.2.2) (fun U g9 mk9 a9 h => ⟨h.1, h.2.1, lets_blind h.2.2⟩) (fun U hU hW9 => ⟨by rw [hU], by rw [hU]; exact hT.1.1, lets_call hLt hT.1 hU hW9⟩) rfl hl.1 rfl (Nat.le_of_ble_eq_true rfl) dL_law_772 ⟨by show _ ≤ (600000 : Nat); omega, by show _ ≤ (7302250 : Nat); omega⟩) (fun rv9 u9 H locs hp9 hT => ?_)
        obtain ⟨cnt, ad, ct⟩ := u9
        have hT : TW D ca (sA s) s.heap cnt ad ct ad2 v g H locs := hT
        obtain ⟨hrv9, hC9, ha9⟩ := hp9
        subst hrv9
        have hC9 : cRep ca cnt ad ct v g nw nb nc nm := hC9
        have ha9 : ad 0 0 = _ := ha9
        rw [← ha9] at hl
        have hl : lv_has ls 4 [(0, .ref b), (1, .ref (ad 0 0)), (2, .ref (ad2 33 0)), (3, .int (nI (7 * t)))] := hl
        refine W.eq (g2 := F0 m 775 ls [.int (mFau g tn)]) rfl ?_
        refine lv_aload_n hx hb dL_law_775 rfl (lv_at hl 2 rfl) ?_
        refine tw_X hT (x_runV (rest := [.int (mFau g tn)]) E cbX10_fault tw_769 (kX10_fault l D ca ad2 H.size v g tn (v 28) (v 29) (v 30) (v 31) (g 26) htn h27) ⟨rfl, rfl, by decide, by decide⟩ (m_recv E hT.m) (fun _ _ _ _ h => h) (fun U hU _ => by rw [hU]; exact ⟨rfl, by rw [← vq_self, ← gr_self]; exact hT.2.1⟩) rfl hl.1 rfl (Nat.le_of_ble_eq_true rfl) dL_law_776 ⟨by show _ ≤ (600000 : Nat); omega, by show _ ≤ (7302250 : Nat); omega⟩) (fun rv9 u9 H locs hp9 hT9 => ?_)
        obtain ⟨y28, y29, y30, y31, sy9, hu9, hp9⟩ := hp9
        have hT := hT9 _ _ hu9
        rcases hp9 with ⟨e9, hR9, -, hrv9⟩ | ⟨a9, L9, hR9, hrv9, -, -, -⟩
        · skip
          subst hrv9
          refine W.eq (g2 := F0 m 779 ls [.int (nI e9), .int (mFau g tn)]) rfl ?_
          refine lv_icmp_eq (tgt := 1096) hx hb dL_law_779 (by decide) (fun c_779 => ?_) (fun c_779 => ?_)
          · skip
            refine lv_iinc (v := (nI (7 * (t + 1)))) (lv' := [(3, .int (nI (7 * (t + 1)))), (0, .ref b), (1, .ref (ad 0 0)), (2, .ref (ad2 33 0))]) hx hb dL_law_1096 hl (k := 3) rfl (by rw [show 7 * (t + 1) = 7 * t + 7 by omega]; exact nI_add _ 7) (by decide) rfl (fun ls hl => ?_)
            refine lv_goto (tgt := 18) hx hb dL_law_1099 (by decide) ?_
            have hC9 := cRep_scr (v' := vq v y28 y29 y30 y31) (g' := gr g 26 sy9) (fun k q1 q2 q3 q4 => vq_o ⟨q1, q2, q3, q4⟩) (fun k i q1 q2 => gr_o q1 i) hC9
            refine W.widen (k := 45 + 3 * (t + 1)) (n := 31081 + 41 * (t + 1)) (by omega) (by omega) ?_
            exact ih (t + 1) cnt ad ct ad2 (vq v y28 y29 y30 y31) (gr g 26 sy9) nw nb nc nm (by omega) (by omega) hC9 (PI_scr (fun k q1 q2 q3 q4 => vq_o ⟨q1, q2, q3, q4⟩) (fun k i q1 q2 => gr_o q1 i) hPI) _ _ hT ls (lv_sub hl [1, 2, 3, 0] rfl)
          · skip
            exact absurd (mFau_e hR9) c_779
        · skip
          subst hrv9
          refine W.eq (g2 := F0 m 779 ls [.int (-1), .int (mFau g tn)]) rfl ?_
          refine lv_icmp_eq (tgt := 1096) hx hb dL_law_779 (by decide) (fun c_779 => ?_) (fun c_779 => ?_)
          · skip
            refine lv_iinc (v := (nI (7 * (t + 1)))) (lv' := [(3, .int (nI (7 * (t + 1)))), (0, .ref b), (1, .ref (ad 0 0)), (2, .ref (ad2 33 0))]) hx hb dL_law_1096 hl (k := 3) rfl (by rw [show 7 * (t + 1) = 7 * t + 7 by omega]; exact nI_add _ 7) (by decide) rfl (fun ls hl => ?_)
            refine lv_goto (tgt := 18) hx hb dL_law_1099 (by decide) ?_
            have hC9 := cRep_scr (v' := vq v y28 y29 y30 y31) (g' := gr g 26 sy9) (fun k q1 q2 q3 q4 => vq_o ⟨q1, q2, q3, q4⟩) (fun k i q1 q2 => gr_o q1 i) hC9
            refine W.widen (k := 45 + 3 * (t + 1)) (n := 31081 + 41 * (t + 1)) (by omega) (by omega) ?_
            exact ih (t + 1) cnt ad ct ad2 (vq v y28 y29 y30 y31) (gr g 26 sy9) nw nb nc nm (by omega) (by omega) hC9 (PI_scr (fun k q1 q2 q3 q4 => vq_o ⟨q1, q2, q3, q4⟩) (fun k i q1 q2 => gr_o q1 i) hPI) _ _ hT ls (lv_sub hl [1, 2, 3, 0] rfl)
          · skip
            exact absurd (mFau_k hR9) c_779
      · skip
        refine lv_tableIn (off := 751) (tgt := 784) hx hb dL_law_33 (by rw [sw33]; decide) (by rw [sw33]; decide) (by rw [sw33]; decide) (by decide) ?_
        refine lv_aload_n hx hb dL_law_784 rfl (lv_at hl 1 rfl) ?_
        refine tw_C hT (x_runV (rest := []) E cbX9_rule tw_455 (kX9_rule l D ca cnt ad ct H.size v g nw nb nc nm tn hC htn h27 h5n) ⟨rfl, rfl, by decide, by decide⟩ (x_recv E hT.1 cl_9 hX0.1 hX0.2.2.2.2) (fun U g9 mk9 a9 h => ⟨h.1, h.2.1, lets_blind h.2.2⟩) (fun U hU hW9 => ⟨by rw [hU], by rw [hU]; exact hT.1.1, lets_call hLt hT.1 hU hW9⟩) rfl hl.1 rfl (Nat.le_of_ble_eq_true rfl) dL_law_785 ⟨by show _ ≤ (600000 : Nat); omega, by show _ ≤ (7302250 : Nat); omega⟩) (fun rv9 u9 H locs hp9 hT => ?_)
        obtain ⟨cnt, ad, ct⟩ := u9
        have hT : TW D ca (sA s) s.heap cnt ad ct ad2 v g H locs := hT
        obtain ⟨hp9, ha9⟩ := hp9
        rcases hp9 with ⟨e8, hR8, hrv9, hC8⟩ | ⟨a8, L8, hR8, hrv9, hC8⟩
        · skip
          subst hrv9
          have ha9 : ad 0 0 = _ := ha9
          rw [← ha9] at hl
          have hl : lv_has ls 4 [(0, .ref b), (1, .ref (ad 0 0)), (2, .ref (ad2 33 0)), (3, .int (nI (7 * t)))] := hl
          refine W.eq (g2 := F0 m 788 ls [.int 0]) rfl ?_
          refine lv_aload_n hx hb dL_law_788 rfl (lv_at hl 2 rfl) ?_
          refine tw_X hT (x_runV (rest := [.int 0]) E cbX10_rule tw_797 (kX10_rule l D ca ad2 H.size v g tn (v 28) (v 29) (v 30) (v 31) (g 26) htn h27) ⟨rfl, rfl, by decide, by decide⟩ (m_recv E hT.m) (fun _ _ _ _ h => h) (fun U hU _ => by rw [hU]; exact ⟨rfl, by rw [← vq_self, ← gr_self]; exact hT.2.1⟩) rfl hl.1 rfl (Nat.le_of_ble_eq_true rfl) dL_law_789 ⟨by show _ ≤ (600000 : Nat); omega, by show _ ≤ (7302250 : Nat); omega⟩) (fun rv9 u9 H locs hp9 hT9 => ?_)
          obtain ⟨y28, y29, y30, y31, sy9, hp9⟩ := hp9
          rcases hp9 with ⟨e9, hR9, hrv9, hu9⟩ | ⟨a9, L9, cd9, hR9, hrv9, hl9, hd9, h39, hu9⟩
          · skip
            subst hrv9
            have hT := hT9 _ _ hu9
            refine W.eq (g2 := F0 m 792 ls [.int 0, .int 0]) rfl ?_
            refine lv_icmp_eq (tgt := 1096) hx hb dL_law_792 (by decide) (fun c_792 => ?_) (fun c_792 => ?_)
            · skip
              refine lv_iinc (v := (nI (7 * (t + 1)))) (lv' := [(3, .int (nI (7 * (t + 1)))), (0, .ref b), (1, .ref (ad 0 0)), (2, .ref (ad2 33 0))]) hx hb dL_law_1096 hl (k := 3) rfl (by rw [show 7 * (t + 1) = 7 * t + 7 by omega]; exact nI_add _ 7) (by decide) rfl (fun ls hl => ?_)
              refine lv_goto (tgt := 18) hx hb dL_law_1099 (by decide) ?_
              have hC9 := cRep_scr (v' := vq v y28 y29 y30 y31) (g' := gr g 26 sy9) (fun k q1 q2 q3 q4 => vq_o ⟨q1, q2, q3, q4⟩) (fun k i q1 q2 => gr_o q1 i) hC8
              refine W.widen (k := 45 + 3 * (t + 1)) (n := 31081 + 41 * (t + 1)) (by omega) (by omega) ?_
              exact ih (t + 1) cnt ad ct ad2 (vq v y28 y29 y30 y31) (gr g 26 sy9) nw nb nc nm (by omega) (by omega) hC9 (PI_scr (fun k q1 q2 q3 q4 => vq_o ⟨q1, q2, q3, q4⟩) (fun k i q1 q2 => gr_o q1 i) hPI) _ _ hT ls (lv_sub hl [1, 2, 3, 0] rfl)
            · skip
              exact absurd c_792 (by decide)
          · skip
            rw [hR8] at hR9
            cases hR9
        · skip
          subst hrv9
          have ha9 : ad 0 0 = _ := ha9
          rw [← ha9] at hl
          have hl : lv_has ls 4 [(0, .ref b), (1, .ref (ad 0 0)), (2, .ref (ad2 33 0)), (3, .int (nI (7 * t)))] := hl
          refine W.eq (g2 := F0 m 788 ls [.int 1]) rfl ?_
          refine lv_aload_n hx hb dL_law_788 rfl (lv_at hl 2 rfl) ?_
          refine tw_X hT (x_runV (rest := [.int 1]) E cbX10_rule tw_797 (kX10_rule l D ca ad2 H.size v g tn (v 28) (v 29) (v 30) (v 31) (g 26) htn h27) ⟨rfl, rfl, by decide, by decide⟩ (m_recv E hT.m) (fun _ _ _ _ h => h) (fun U hU _ => by rw [hU]; exact ⟨rfl, by rw [← vq_self, ← gr_self]; exact hT.2.1⟩) rfl hl.1 rfl (Nat.le_of_ble_eq_true rfl) dL_law_789 ⟨by show _ ≤ (600000 : Nat); omega, by show _ ≤ (7302250 : Nat); omega⟩) (fun rv9 u9 H locs hp9 hT9 => ?_)
          obtain ⟨y28, y29, y30, y31, sy9, hp9⟩ := hp9
          rcases hp9 with ⟨e9, hR9, hrv9, hu9⟩ | ⟨a9, L9, cd9, hR9, hrv9, hl9, hd9, h39, hu9⟩
          · skip
            rw [hR8] at hR9
            cases hR9
          · skip
            subst hrv9
            have hT := hT9 _ _ hu9
            refine W.eq (g2 := F0 m 792 ls [.int 1, .int 1]) rfl ?_
            refine lv_icmp_eq (tgt := 1096) hx hb dL_law_792 (by decide) (fun c_792 => ?_) (fun c_792 => ?_)
            · skip
              refine lv_iinc (v := (nI (7 * (t + 1)))) (lv' := [(3, .int (nI (7 * (t + 1)))), (0, .ref b), (1, .ref (ad 0 0)), (2, .ref (ad2 33 0))]) hx hb dL_law_1096 hl (k := 3) rfl (by rw [show 7 * (t + 1) = 7 * t + 7 by omega]; exact nI_add _ 7) (by decide) rfl (fun ls hl => ?_)
              refine lv_goto (tgt := 18) hx hb dL_law_1099 (by decide) ?_
              rw [hR8] at hR9
              cases hR9
              have hG9 : ∀ k i, k ≠ 25 → k ≠ 26 → (gr (gr g 25 cd9) 26 sy9) k i = g k i := fun k i q1 q2 => by rw [gr_o q2, gr_o q1]
              have hcd9 : cdOK (gr (gr g 25 cd9) 26 sy9) L8 := ⟨fun i x hx9 => by rw [gr_o (by decide), gr_at]; exact hd9 i x hx9, by rw [gr_o (by decide), gr_at]; exact h39, hl9, pTop_wf hR8⟩
              have hC9 := cRep_scr (v' := vq (upd (upd v 5 (v 5 + 1)) 27 0) y28 y29 y30 y31) (g' := gr (gr g 25 cd9) 26 sy9) (fun k q1 q2 q3 q4 => vq_o ⟨q1, q2, q3, q4⟩) (fun _ _ _ _ => rfl) (hC8 _ hG9 hcd9)
              refine W.widen (k := 45 + 3 * (t + 1)) (n := 31081 + 41 * (t + 1)) (by omega) (by omega) ?_
              exact ih (t + 1) cnt ad ct ad2 (vq (upd (upd v 5 (v 5 + 1)) 27 0) y28 y29 y30 y31) (gr (gr g 25 cd9) 26 sy9) nw nb nc nm (by omega) (by omega) hC9 (PI_rule hPI hG9) _ _ hT ls (lv_sub hl [1, 2, 3, 0] rfl)
            · skip
              exact absurd c_792 (by decide)
      · skip
        refine lv_tableIn (off := 764) (tgt := 797) hx hb dL_law_33 (by rw [sw33]; decide) (by rw [sw33]; decide) (by rw [sw33]; decide) (by decide) ?_
        refine lv_aload_n hx hb dL_law_797 rfl (lv_at hl 1 rfl) ?_
        refine lv_aload_n hx hb dL_law_798 rfl (lv_at hl 0 rfl) ?_
        refine lv_iload_n hx hb dL_law_799 rfl (lv_at hl 3 rfl) ?_
        refine lv_iconst (v := 1) hx hb dL_law_800 (by decide) ?_
        refine lv_iadd hx hb dL_law_801 ?_
        refine x_top (x := (nI (7 * t) + 1)) (y := nI (7 * t + 1)) (nI_add _ 1) ?_
        refine va_sld hx hb hX hbl hbA hT.1.2.2.1 (vp_in_nI (n := (7 * t + 1)) (by omega) (by omega)) dL_law_802 ?_
        refine x_top (x := xs (nI (7 * t + 1)).toNatClampNeg) (y := xs (7 * t + 1)) (by rw [nI_clamp (by omega)]) ?_
        refine lv_aload_n hx hb dL_law_803 rfl (lv_at hl 0 rfl) ?_
        refine lv_iload_n hx hb dL_law_804 rfl (lv_at hl 3 rfl) ?_
        refine lv_iconst (v := 2) hx hb dL_law_805 (by decide) ?_
        refine lv_iadd hx hb dL_law_806 ?_
        refine x_top (x := (nI (7 * t) + 2)) (y := nI (7 * t + 2)) (nI_add _ 2) ?_
        refine va_sld hx hb hX hbl hbA hT.1.2.2.1 (vp_in_nI (n := (7 * t + 2)) (by omega) (by omega)) dL_law_807 ?_
        refine x_top (x := xs (nI (7 * t + 2)).toNatClampNeg) (y := xs (7 * t + 2)) (by rw [nI_clamp (by omega)]) ?_
        refine lv_aload_n hx hb dL_law_808 rfl (lv_at hl 0 rfl) ?_
        refine lv_iload_n hx hb dL_law_809 rfl (lv_at hl 3 rfl) ?_
        refine lv_iconst (v := 3) hx hb dL_law_810 (by decide) ?_
        refine lv_iadd hx hb dL_law_811 ?_
        refine x_top (x := (nI (7 * t) + 3)) (y := nI (7 * t + 3)) (nI_add _ 3) ?_
        refine va_sld hx hb hX hbl hbA hT.1.2.2.1 (vp_in_nI (n := (7 * t + 3)) (by omega) (by omega)) dL_law_812 ?_
        refine x_top (x := xs (nI (7 * t + 3)).toNatClampNeg) (y := xs (7 * t + 3)) (by rw [nI_clamp (by omega)]) ?_
        refine lv_aload_n hx hb dL_law_813 rfl (lv_at hl 0 rfl) ?_
        refine lv_iload_n hx hb dL_law_814 rfl (lv_at hl 3 rfl) ?_
        refine lv_iconst (v := 4) hx hb dL_law_815 (by decide) ?_
        refine lv_iadd hx hb dL_law_816 ?_
        refine x_top (x := (nI (7 * t) + 4)) (y := nI (7 * t + 4)) (nI_add _ 4) ?_
        refine va_sld hx hb hX hbl hbA hT.1.2.2.1 (vp_in_nI (n := (7 * t + 4)) (by omega) (by omega)) dL_law_817 ?_
        refine x_top (x := xs (nI (7 * t + 4)).toNatClampNeg) (y := xs (7 * t + 4)) (by rw [nI_clamp (by omega)]) ?_
        refine lv_aload_n hx hb dL_law_818 rfl (lv_at hl 0 rfl) ?_
        refine lv_iload_n hx hb dL_law_819 rfl (lv_at hl 3 rfl) ?_
        refine lv_iconst (v := 5) hx hb dL_law_820 (by decide) ?_
        refine lv_iadd hx hb dL_law_821 ?_
        refine x_top (x := (nI (7 * t) + 5)) (y := nI (7 * t + 5)) (nI_add _ 5) ?_
        refine va_sld hx hb hX hbl hbA hT.1.2.2.1 (vp_in_nI (n := (7 * t + 5)) (by omega) (by omega)) dL_law_822 ?_
        refine x_top (x := xs (nI (7 * t + 5)).toNatClampNeg) (y := xs (7 * t + 5)) (by rw [nI_clamp (by omega)]) ?_
        refine lv_aload_n hx hb dL_law_823 rfl (lv_at hl 0 rfl) ?_
        refine lv_iload_n hx hb dL_law_824 rfl (lv_at hl 3 rfl) ?_
        refine lv_bipush (v := 6) hx hb dL_law_825 (by decide) ?_
        refine lv_iadd hx hb dL_law_827 ?_
        refine x_top (x := (nI (7 * t) + 6)) (y := nI (7 * t + 6)) (nI_add _ 6) ?_
        refine va_sld hx hb hX hbl hbA hT.1.2.2.1 (vp_in_nI (n := (7 * t + 6)) (by omega) (by omega)) dL_law_828 ?_
        refine x_top (x := xs (nI (7 * t + 6)).toNatClampNeg) (y := xs (7 * t + 6)) (by rw [nI_clamp (by omega)]) ?_
        refine tw_C hT (x_runV (rest := []) E cbX9_claim tw_459 (kX9_claim l D ca cnt ad ct H.size v g nw nb nc nm (xs (7 * t + 1)) (xs (7 * t + 2)) (xs (7 * t + 3)) (xs (7 * t + 4)) (xs (7 * t + 5)) (xs (7 * t + 6)) hC (hPI.2.1 nc hO.2.2.1 hO.2.2.2.2.2.2.1).2) ⟨rfl, rfl, by decide, by decide⟩ (x_recv E hT.1 cl_9 hX0.1 hX0.2.2.2.2) (fun U g9 mk9 a9 h => ⟨h.1, h.2.1, lets_blind h.2.2⟩) (fun U hU hW9 => ⟨by rw [hU], by rw [hU]; exact hT.1.1, lets_call hLt hT.1 hU hW9⟩) rfl hl.1 rfl (Nat.le_of_ble_eq_true rfl) dL_law_829 ⟨by show _ ≤ (600000 : Nat); omega, by show _ ≤ (7302250 : Nat); omega⟩) (fun rv9 u9 H locs hp9 hT => ?_)
        obtain ⟨cnt, ad, ct⟩ := u9
        have hT : TW D ca (sA s) s.heap cnt ad ct ad2 v g H locs := hT
        obtain ⟨⟨L9, hL9, hrv9⟩, hC9, ha9⟩ := hp9
        subst hrv9
        have hC9 : cRep ca cnt ad ct v g nw nb nc nm := hC9
        have ha9 : ad 0 0 = _ := ha9
        rw [← ha9] at hl
        have hl : lv_has ls 4 [(0, .ref b), (1, .ref (ad 0 0)), (2, .ref (ad2 33 0)), (3, .int (nI (7 * t)))] := hl
        refine W.eq (g2 := F0 m 832 ls [.int (mClaim v g nw nc nm L9 (xs (7 * t + 1)) (xs (7 * t + 2)) (xs (7 * t + 3)) (xs (7 * t + 4)) (xs (7 * t + 5)) (xs (7 * t + 6)))]) rfl ?_
        refine lv_aload_n hx hb dL_law_832 rfl (lv_at hl 2 rfl) ?_
        refine lv_aload_n hx hb dL_law_833 rfl (lv_at hl 0 rfl) ?_
        refine lv_iload_n hx hb dL_law_834 rfl (lv_at hl 3 rfl) ?_
        refine lv_iconst (v := 1) hx hb dL_law_835 (by decide) ?_
        refine lv_iadd hx hb dL_law_836 ?_
        refine x_top (x := (nI (7 * t) + 1)) (y := nI (7 * t + 1)) (nI_add _ 1) ?_
        refine va_sld hx hb hX hbl hbA hT.1.2.2.1 (vp_in_nI (n := (7 * t + 1)) (by omega) (by omega)) dL_law_837 ?_
        refine x_top (x := xs (nI (7 * t + 1)).toNatClampNeg) (y := xs (7 * t + 1)) (by rw [nI_clamp (by omega)]) ?_
        refine lv_aload_n hx hb dL_law_838 rfl (lv_at hl 0 rfl) ?_
        refine lv_iload_n hx hb dL_law_839 rfl (lv_at hl 3 rfl) ?_
        refine lv_iconst (v := 2) hx hb dL_law_840 (by decide) ?_
        refine lv_iadd hx hb dL_law_841 ?_
        refine x_top (x := (nI (7 * t) + 2)) (y := nI (7 * t + 2)) (nI_add _ 2) ?_
        refine va_sld hx hb hX hbl hbA hT.1.2.2.1 (vp_in_nI (n := (7 * t + 2)) (by omega) (by omega)) dL_law_842 ?_
        refine x_top (x := xs (nI (7 * t + 2)).toNatClampNeg) (y := xs (7 * t + 2)) (by rw [nI_clamp (by omega)]) ?_
        refine lv_aload_n hx hb dL_law_843 rfl (lv_at hl 0 rfl) ?_
        refine lv_iload_n hx hb dL_law_844 rfl (lv_at hl 3 rfl) ?_
        refine lv_iconst (v := 3) hx hb dL_law_845 (by decide) ?_
        refine lv_iadd hx hb dL_law_846 ?_
        refine x_top (x := (nI (7 * t) + 3)) (y := nI (7 * t + 3)) (nI_add _ 3) ?_
        refine va_sld hx hb hX hbl hbA hT.1.2.2.1 (vp_in_nI (n := (7 * t + 3)) (by omega) (by omega)) dL_law_847 ?_
        refine x_top (x := xs (nI (7 * t + 3)).toNatClampNeg) (y := xs (7 * t + 3)) (by rw [nI_clamp (by omega)]) ?_
        refine lv_aload_n hx hb dL_law_848 rfl (lv_at hl 0 rfl) ?_
        refine lv_iload_n hx hb dL_law_849 rfl (lv_at hl 3 rfl) ?_
        refine lv_iconst (v := 4) hx hb dL_law_850 (by decide) ?_
        refine lv_iadd hx hb dL_law_851 ?_
        refine x_top (x := (nI (7 * t) + 4)) (y := nI (7 * t + 4)) (nI_add _ 4) ?_
        refine va_sld hx hb hX hbl hbA hT.1.2.2.1 (vp_in_nI (n := (7 * t + 4)) (by omega) (by omega)) dL_law_852 ?_
        refine x_top (x := xs (nI (7 * t + 4)).toNatClampNeg) (y := xs (7 * t + 4)) (by rw [nI_clamp (by omega)]) ?_
        refine lv_aload_n hx hb dL_law_853 rfl (lv_at hl 0 rfl) ?_
        refine lv_iload_n hx hb dL_law_854 rfl (lv_at hl 3 rfl) ?_
        refine lv_iconst (v := 5) hx hb dL_law_855 (by decide) ?_
        refine lv_iadd hx hb dL_law_856 ?_
        refine x_top (x := (nI (7 * t) + 5)) (y := nI (7 * t + 5)) (nI_add _ 5) ?_
        refine va_sld hx hb hX hbl hbA hT.1.2.2.1 (vp_in_nI (n := (7 * t + 5)) (by omega) (by omega)) dL_law_857 ?_
        refine x_top (x := xs (nI (7 * t + 5)).toNatClampNeg) (y := xs (7 * t + 5)) (by rw [nI_clamp (by omega)]) ?_
        refine lv_aload_n hx hb dL_law_858 rfl (lv_at hl 0 rfl) ?_
        refine lv_iload_n hx hb dL_law_859 rfl (lv_at hl 3 rfl) ?_
        refine lv_bipush (v := 6) hx hb dL_law_860 (by decide) ?_
        refine lv_iadd hx hb dL_law_862 ?_
        refine x_top (x := (nI (7 * t) + 6)) (y := nI (7 * t + 6)) (nI_add _ 6) ?_
        refine va_sld hx hb hX hbl hbA hT.1.2.2.1 (vp_in_nI (n := (7 * t + 6)) (by omega) (by omega)) dL_law_863 ?_
        refine x_top (x := xs (nI (7 * t + 6)).toNatClampNeg) (y := xs (7 * t + 6)) (by rw [nI_clamp (by omega)]) ?_
        refine tw_X hT (x_runV (rest := [.int (mClaim v g nw nc nm L9 (xs (7 * t + 1)) (xs (7 * t + 2)) (xs (7 * t + 3)) (xs (7 * t + 4)) (xs (7 * t + 5)) (xs (7 * t + 6)))]) E cbX10_claim tw_802 (kX10_claim l D ca ad2 H.size v g nw nb nc nm (xs (7 * t + 1)) (xs (7 * t + 2)) (xs (7 * t + 3)) (xs (7 * t + 4)) (xs (7 * t + 5)) (xs (7 * t + 6)) L9 (g 32) hO hL9) ⟨rfl, rfl, by decide, by decide⟩ (m_recv E hT.m) (fun _ _ _ _ h => h) (fun U hU _ => by rw [hU]; exact ⟨rfl, by rw [← gr_self]; exact hT.2.1⟩) rfl hl.1 rfl (Nat.le_of_ble_eq_true rfl) dL_law_864 ⟨by show _ ≤ (600000 : Nat); omega, by show _ ≤ (7302250 : Nat); omega⟩) (fun rv9 u9 H locs hp9 hT9 => ?_)
        obtain ⟨hrv9, pl9, hu9⟩ := hp9
        subst hrv9
        have hT := hT9 _ _ hu9
        refine W.eq (g2 := F0 m 867 ls [.int (mClaim v g nw nc nm L9 (xs (7 * t + 1)) (xs (7 * t + 2)) (xs (7 * t + 3)) (xs (7 * t + 4)) (xs (7 * t + 5)) (xs (7 * t + 6))), .int (mClaim v g nw nc nm L9 (xs (7 * t + 1)) (xs (7 * t + 2)) (xs (7 * t + 3)) (xs (7 * t + 4)) (xs (7 * t + 5)) (xs (7 * t + 6)))]) rfl ?_
        refine lv_icmp_eq (tgt := 1096) hx hb dL_law_867 (by decide) (fun c_867 => ?_) (fun c_867 => ?_)
        · skip
          refine lv_iinc (v := (nI (7 * (t + 1)))) (lv' := [(3, .int (nI (7 * (t + 1)))), (0, .ref b), (1, .ref (ad 0 0)), (2, .ref (ad2 33 0))]) hx hb dL_law_1096 hl (k := 3) rfl (by rw [show 7 * (t + 1) = 7 * t + 7 by omega]; exact nI_add _ 7) (by decide) rfl (fun ls hl => ?_)
          refine lv_goto (tgt := 18) hx hb dL_law_1099 (by decide) ?_
          have hC9 := cRep_scr (v' := v) (g' := gr g 32 pl9) (fun _ _ _ _ _ => rfl) (fun k i q1 q2 => gr_o q2 i) hC9
          refine W.widen (k := 45 + 3 * (t + 1)) (n := 31081 + 41 * (t + 1)) (by omega) (by omega) ?_
          exact ih (t + 1) cnt ad ct ad2 v (gr g 32 pl9) nw nb nc nm (by omega) (by omega) hC9 (PI_scr (fun _ _ _ _ _ => rfl) (fun k i q1 q2 => gr_o q2 i) hPI) _ _ hT ls (lv_sub hl [1, 2, 3, 0] rfl)
        · skip
          exact absurd rfl c_867
      · skip
        refine lv_tableIn (off := 839) (tgt := 872) hx hb dL_law_33 (by rw [sw33]; decide) (by rw [sw33]; decide) (by rw [sw33]; decide) (by decide) ?_
        refine lv_aload_n hx hb dL_law_872 rfl (lv_at hl 1 rfl) ?_
        refine lv_aload_n hx hb dL_law_873 rfl (lv_at hl 0 rfl) ?_
        refine lv_iload_n hx hb dL_law_874 rfl (lv_at hl 3 rfl) ?_
        refine lv_iconst (v := 1) hx hb dL_law_875 (by decide) ?_
        refine lv_iadd hx hb dL_law_876 ?_
        refine x_top (x := (nI (7 * t) + 1)) (y := nI (7 * t + 1)) (nI_add _ 1) ?_
        refine va_sld hx hb hX hbl hbA hT.1.2.2.1 (vp_in_nI (n := (7 * t + 1)) (by omega) (by omega)) dL_law_877 ?_
        refine x_top (x := xs (nI (7 * t + 1)).toNatClampNeg) (y := xs (7 * t + 1)) (by rw [nI_clamp (by omega)]) ?_
        refine lv_aload_n hx hb dL_law_878 rfl (lv_at hl 0 rfl) ?_
        refine lv_iload_n hx hb dL_law_879 rfl (lv_at hl 3 rfl) ?_
        refine lv_iconst (v := 2) hx hb dL_law_880 (by decide) ?_
        refine lv_iadd hx hb dL_law_881 ?_
        refine x_top (x := (nI (7 * t) + 2)) (y := nI (7 * t + 2)) (nI_add _ 2) ?_
        refine va_sld hx hb hX hbl hbA hT.1.2.2.1 (vp_in_nI (n := (7 * t + 2)) (by omega) (by omega)) dL_law_882 ?_
        refine x_top (x := xs (nI (7 * t + 2)).toNatClampNeg) (y := xs (7 * t + 2)) (by rw [nI_clamp (by omega)]) ?_
        refine tw_C hT (x_runV (rest := []) E cbX9_name tw_504 (kX9_name l D ca cnt ad ct H.size v g nw nb nc nm (xs (7 * t + 1)) (xs (7 * t + 2)) hC ) ⟨rfl, rfl, by decide, by decide⟩ (x_recv E hT.1 cl_9 hX0.1 hX0.2.2.2.2) (fun _ _ _ _ h => h) (fun U hU _ => by rw [hU]; exact ⟨rfl, hT.1.1⟩) rfl hl.1 rfl (Nat.le_of_ble_eq_true rfl) dL_law_883 ⟨by show _ ≤ (600000 : Nat); omega, by show _ ≤ (7302250 : Nat); omega⟩) (fun rv9 u9 H locs hp9 hT => ?_)
        obtain ⟨cnt, ad, ct⟩ := u9
        have hT : TW D ca (sA s) s.heap cnt ad ct ad2 v g H locs := hT
        obtain ⟨hrv9, hC9, ha9⟩ := hp9
        subst hrv9
        have hC9 : cRepE ca cnt ad ct (mNameW v g nc (xs (7 * t + 1)) (xs (7 * t + 2))).2.1 (mNameW v g nc (xs (7 * t + 1)) (xs (7 * t + 2))).2.2 := hC9
        have ha9 : ad 0 0 = _ := ha9
        rw [← ha9] at hl
        have hl : lv_has ls 4 [(0, .ref b), (1, .ref (ad 0 0)), (2, .ref (ad2 33 0)), (3, .int (nI (7 * t)))] := hl
        refine W.eq (g2 := F0 m 886 ls [.int ((mNameW v g nc (xs (7 * t + 1)) (xs (7 * t + 2))).1)]) rfl ?_
        refine lv_aload_n hx hb dL_law_886 rfl (lv_at hl 2 rfl) ?_
        refine lv_aload_n hx hb dL_law_887 rfl (lv_at hl 0 rfl) ?_
        refine lv_iload_n hx hb dL_law_888 rfl (lv_at hl 3 rfl) ?_
        refine lv_iconst (v := 1) hx hb dL_law_889 (by decide) ?_
        refine lv_iadd hx hb dL_law_890 ?_
        refine x_top (x := (nI (7 * t) + 1)) (y := nI (7 * t + 1)) (nI_add _ 1) ?_
        refine va_sld hx hb hX hbl hbA hT.1.2.2.1 (vp_in_nI (n := (7 * t + 1)) (by omega) (by omega)) dL_law_891 ?_
        refine x_top (x := xs (nI (7 * t + 1)).toNatClampNeg) (y := xs (7 * t + 1)) (by rw [nI_clamp (by omega)]) ?_
        refine lv_aload_n hx hb dL_law_892 rfl (lv_at hl 0 rfl) ?_
        refine lv_iload_n hx hb dL_law_893 rfl (lv_at hl 3 rfl) ?_
        refine lv_iconst (v := 2) hx hb dL_law_894 (by decide) ?_
        refine lv_iadd hx hb dL_law_895 ?_
        refine x_top (x := (nI (7 * t) + 2)) (y := nI (7 * t + 2)) (nI_add _ 2) ?_
        refine va_sld hx hb hX hbl hbA hT.1.2.2.1 (vp_in_nI (n := (7 * t + 2)) (by omega) (by omega)) dL_law_896 ?_
        refine x_top (x := xs (nI (7 * t + 2)).toNatClampNeg) (y := xs (7 * t + 2)) (by rw [nI_clamp (by omega)]) ?_
        refine tw_M hT (x_runV (rest := [.int ((mNameW v g nc (xs (7 * t + 1)) (xs (7 * t + 2))).1)]) E cbX10_name tw_818 (kX10_name l D ca ad2 H.size v g nw nb nc nm (xs (7 * t + 1)) (xs (7 * t + 2)) hO) ⟨rfl, rfl, by decide, by decide⟩ (m_recv E hT.m) (fun _ _ _ _ h => h) (fun U hU _ => by rw [hU]; exact ⟨rfl, hT.2.1⟩) rfl hl.1 rfl (Nat.le_of_ble_eq_true rfl) dL_law_897 ⟨by show _ ≤ (600000 : Nat); omega, by show _ ≤ (7302250 : Nat); omega⟩) (fun H locs hT => ?_)
        refine W.eq (g2 := F0 m 900 ls [.int ((mNameW v g nc (xs (7 * t + 1)) (xs (7 * t + 2))).1), .int ((mNameW v g nc (xs (7 * t + 1)) (xs (7 * t + 2))).1)]) rfl ?_
        refine lv_icmp_eq (tgt := 1096) hx hb dL_law_900 (by decide) (fun c_900 => ?_) (fun c_900 => ?_)
        · skip
          refine lv_iinc (v := (nI (7 * (t + 1)))) (lv' := [(3, .int (nI (7 * (t + 1)))), (0, .ref b), (1, .ref (ad 0 0)), (2, .ref (ad2 33 0))]) hx hb dL_law_1096 hl (k := 3) rfl (by rw [show 7 * (t + 1) = 7 * t + 7 by omega]; exact nI_add _ 7) (by decide) rfl (fun ls hl => ?_)
          refine lv_goto (tgt := 18) hx hb dL_law_1099 (by decide) ?_
          obtain ⟨nw9, nb9, nc9, nm9, hC9⟩ := hC9
          refine W.widen (k := 45 + 3 * (t + 1)) (n := 31081 + 41 * (t + 1)) (by omega) (by omega) ?_
          exact ih (t + 1) cnt ad ct ad2 ((mNameW v g nc (xs (7 * t + 1)) (xs (7 * t + 2))).2.1) ((mNameW v g nc (xs (7 * t + 1)) (xs (7 * t + 2))).2.2) nw9 nb9 nc9 nm9 (by omega) (by omega) hC9 (PI_name _ _ hO hPI) _ _ hT ls (lv_sub hl [1, 2, 3, 0] rfl)
        · skip
          exact absurd rfl c_900
      · skip
        refine lv_tableIn (off := 872) (tgt := 905) hx hb dL_law_33 (by rw [sw33]; decide) (by rw [sw33]; decide) (by rw [sw33]; decide) (by decide) ?_
        refine lv_aload_n hx hb dL_law_905 rfl (lv_at hl 1 rfl) ?_
        refine lv_aload_n hx hb dL_law_906 rfl (lv_at hl 0 rfl) ?_
        refine lv_iload_n hx hb dL_law_907 rfl (lv_at hl 3 rfl) ?_
        refine lv_iconst (v := 1) hx hb dL_law_908 (by decide) ?_
        refine lv_iadd hx hb dL_law_909 ?_
        refine x_top (x := (nI (7 * t) + 1)) (y := nI (7 * t + 1)) (nI_add _ 1) ?_
        refine va_sld hx hb hX hbl hbA hT.1.2.2.1 (vp_in_nI (n := (7 * t + 1)) (by omega) (by omega)) dL_law_910 ?_
        refine x_top (x := xs (nI (7 * t + 1)).toNatClampNeg) (y := xs (7 * t + 1)) (by rw [nI_clamp (by omega)]) ?_
        refine lv_aload_n hx hb dL_law_911 rfl (lv_at hl 0 rfl) ?_
        refine lv_iload_n hx hb dL_law_912 rfl (lv_at hl 3 rfl) ?_
        refine lv_iconst (v := 2) hx hb dL_law_913 (by decide) ?_
        refine lv_iadd hx hb dL_law_914 ?_
        refine x_top (x := (nI (7 * t) + 2)) (y := nI (7 * t + 2)) (nI_add _ 2) ?_
        refine va_sld hx hb hX hbl hbA hT.1.2.2.1 (vp_in_nI (n := (7 * t + 2)) (by omega) (by omega)) dL_law_915 ?_
        refine x_top (x := xs (nI (7 * t + 2)).toNatClampNeg) (y := xs (7 * t + 2)) (by rw [nI_clamp (by omega)]) ?_
        refine lv_aload_n hx hb dL_law_916 rfl (lv_at hl 0 rfl) ?_
        refine lv_iload_n hx hb dL_law_917 rfl (lv_at hl 3 rfl) ?_
        refine lv_iconst (v := 3) hx hb dL_law_918 (by decide) ?_
        refine lv_iadd hx hb dL_law_919 ?_
        refine x_top (x := (nI (7 * t) + 3)) (y := nI (7 * t + 3)) (nI_add _ 3) ?_
        refine va_sld hx hb hX hbl hbA hT.1.2.2.1 (vp_in_nI (n := (7 * t + 3)) (by omega) (by omega)) dL_law_920 ?_
        refine x_top (x := xs (nI (7 * t + 3)).toNatClampNeg) (y := xs (7 * t + 3)) (by rw [nI_clamp (by omega)]) ?_
        refine lv_if_eq (tgt := 928) hx hb dL_law_921 (by decide) (fun c_921 => ?_) (fun c_921 => ?_)
        · skip
          refine lv_iconst (v := 0) hx hb dL_law_928 (by decide) ?_
          refine tw_C hT (x_runV (rest := []) E cbX9_allow tw_509 (kX9_allow l D ca cnt ad ct H.size v g nw nb nc nm (xs (7 * t + 1)) (xs (7 * t + 2)) false hC (fun c _ w _ => hPI.1 _)) ⟨rfl, rfl, by decide, by decide⟩ (x_recv E hT.1 cl_9 hX0.1 hX0.2.2.2.2) (fun _ _ _ _ h => h) (fun U hU _ => by rw [hU]; exact ⟨rfl, hT.1.1⟩) rfl hl.1 rfl (Nat.le_of_ble_eq_true rfl) dL_law_929 ⟨by show _ ≤ (600000 : Nat); omega, by show _ ≤ (7302250 : Nat); omega⟩) (fun rv9 u9 H locs hp9 hT => ?_)
          obtain ⟨cnt, ad, ct⟩ := u9
          have hT : TW D ca (sA s) s.heap cnt ad ct ad2 v g H locs := hT
          obtain ⟨hrv9, hC9, ha9⟩ := hp9
          subst hrv9
          have hC9 : cRepE ca cnt ad ct (mAllowW v g nc (xs (7 * t + 1)) (xs (7 * t + 2)) false).2.1 (mAllowW v g nc (xs (7 * t + 1)) (xs (7 * t + 2)) false).2.2 := hC9
          have ha9 : ad 0 0 = _ := ha9
          rw [← ha9] at hl
          have hl : lv_has ls 4 [(0, .ref b), (1, .ref (ad 0 0)), (2, .ref (ad2 33 0)), (3, .int (nI (7 * t)))] := hl
          refine W.eq (g2 := F0 m 932 ls [.int ((mAllowW v g nc (xs (7 * t + 1)) (xs (7 * t + 2)) false).1)]) rfl ?_
          refine lv_aload_n hx hb dL_law_932 rfl (lv_at hl 2 rfl) ?_
          refine lv_aload_n hx hb dL_law_933 rfl (lv_at hl 0 rfl) ?_
          refine lv_iload_n hx hb dL_law_934 rfl (lv_at hl 3 rfl) ?_
          refine lv_iconst (v := 1) hx hb dL_law_935 (by decide) ?_
          refine lv_iadd hx hb dL_law_936 ?_
          refine x_top (x := (nI (7 * t) + 1)) (y := nI (7 * t + 1)) (nI_add _ 1) ?_
          refine va_sld hx hb hX hbl hbA hT.1.2.2.1 (vp_in_nI (n := (7 * t + 1)) (by omega) (by omega)) dL_law_937 ?_
          refine x_top (x := xs (nI (7 * t + 1)).toNatClampNeg) (y := xs (7 * t + 1)) (by rw [nI_clamp (by omega)]) ?_
          refine lv_aload_n hx hb dL_law_938 rfl (lv_at hl 0 rfl) ?_
          refine lv_iload_n hx hb dL_law_939 rfl (lv_at hl 3 rfl) ?_
          refine lv_iconst (v := 2) hx hb dL_law_940 (by decide) ?_
          refine lv_iadd hx hb dL_law_941 ?_
          refine x_top (x := (nI (7 * t) + 2)) (y := nI (7 * t + 2)) (nI_add _ 2) ?_
          refine va_sld hx hb hX hbl hbA hT.1.2.2.1 (vp_in_nI (n := (7 * t + 2)) (by omega) (by omega)) dL_law_942 ?_
          refine x_top (x := xs (nI (7 * t + 2)).toNatClampNeg) (y := xs (7 * t + 2)) (by rw [nI_clamp (by omega)]) ?_
          refine lv_aload_n hx hb dL_law_943 rfl (lv_at hl 0 rfl) ?_
          refine lv_iload_n hx hb dL_law_944 rfl (lv_at hl 3 rfl) ?_
          refine lv_iconst (v := 3) hx hb dL_law_945 (by decide) ?_
          refine lv_iadd hx hb dL_law_946 ?_
          refine x_top (x := (nI (7 * t) + 3)) (y := nI (7 * t + 3)) (nI_add _ 3) ?_
          refine va_sld hx hb hX hbl hbA hT.1.2.2.1 (vp_in_nI (n := (7 * t + 3)) (by omega) (by omega)) dL_law_947 ?_
          refine x_top (x := xs (nI (7 * t + 3)).toNatClampNeg) (y := xs (7 * t + 3)) (by rw [nI_clamp (by omega)]) ?_
          refine lv_if_eq (tgt := 955) hx hb dL_law_948 (by decide) (fun c_948 => ?_) (fun c_948 => ?_)
          · skip
            refine lv_iconst (v := 0) hx hb dL_law_955 (by decide) ?_
            refine tw_M hT (x_runV (rest := [.int ((mAllowW v g nc (xs (7 * t + 1)) (xs (7 * t + 2)) false).1)]) E cbX10_allow tw_823 (kX10_allow l D ca ad2 H.size v g nw nb nc nm (xs (7 * t + 1)) (xs (7 * t + 2)) false hO) ⟨rfl, rfl, by decide, by decide⟩ (m_recv E hT.m) (fun _ _ _ _ h => h) (fun U hU _ => by rw [hU]; exact ⟨rfl, hT.2.1⟩) rfl hl.1 rfl (Nat.le_of_ble_eq_true rfl) dL_law_956 ⟨by show _ ≤ (600000 : Nat); omega, by show _ ≤ (7302250 : Nat); omega⟩) (fun H locs hT => ?_)
            refine W.eq (g2 := F0 m 959 ls [.int ((mAllowW v g nc (xs (7 * t + 1)) (xs (7 * t + 2)) false).1), .int ((mAllowW v g nc (xs (7 * t + 1)) (xs (7 * t + 2)) false).1)]) rfl ?_
            refine lv_icmp_eq (tgt := 1096) hx hb dL_law_959 (by decide) (fun c_959 => ?_) (fun c_959 => ?_)
            · skip
              refine lv_iinc (v := (nI (7 * (t + 1)))) (lv' := [(3, .int (nI (7 * (t + 1)))), (0, .ref b), (1, .ref (ad 0 0)), (2, .ref (ad2 33 0))]) hx hb dL_law_1096 hl (k := 3) rfl (by rw [show 7 * (t + 1) = 7 * t + 7 by omega]; exact nI_add _ 7) (by decide) rfl (fun ls hl => ?_)
              refine lv_goto (tgt := 18) hx hb dL_law_1099 (by decide) ?_
              obtain ⟨nw9, nb9, nc9, nm9, hC9⟩ := hC9
              refine W.widen (k := 45 + 3 * (t + 1)) (n := 31081 + 41 * (t + 1)) (by omega) (by omega) ?_
              exact ih (t + 1) cnt ad ct ad2 ((mAllowW v g nc (xs (7 * t + 1)) (xs (7 * t + 2)) false).2.1) ((mAllowW v g nc (xs (7 * t + 1)) (xs (7 * t + 2)) false).2.2) nw9 nb9 nc9 nm9 (by omega) (by omega) hC9 (PI_allow _ _ _ hO hPI) _ _ hT ls (lv_sub hl [1, 2, 3, 0] rfl)
            · skip
              exact absurd rfl c_959
          · skip
            exact absurd c_921 c_948
        · skip
          refine lv_iconst (v := 1) hx hb dL_law_924 (by decide) ?_
          refine lv_goto (tgt := 929) hx hb dL_law_925 (by decide) ?_
          refine tw_C hT (x_runV (rest := []) E cbX9_allow tw_509 (kX9_allow l D ca cnt ad ct H.size v g nw nb nc nm (xs (7 * t + 1)) (xs (7 * t + 2)) true hC (fun c _ w _ => hPI.1 _)) ⟨rfl, rfl, by decide, by decide⟩ (x_recv E hT.1 cl_9 hX0.1 hX0.2.2.2.2) (fun _ _ _ _ h => h) (fun U hU _ => by rw [hU]; exact ⟨rfl, hT.1.1⟩) rfl hl.1 rfl (Nat.le_of_ble_eq_true rfl) dL_law_929 ⟨by show _ ≤ (600000 : Nat); omega, by show _ ≤ (7302250 : Nat); omega⟩) (fun rv9 u9 H locs hp9 hT => ?_)
          obtain ⟨cnt, ad, ct⟩ := u9
          have hT : TW D ca (sA s) s.heap cnt ad ct ad2 v g H locs := hT
          obtain ⟨hrv9, hC9, ha9⟩ := hp9
          subst hrv9
          have hC9 : cRepE ca cnt ad ct (mAllowW v g nc (xs (7 * t + 1)) (xs (7 * t + 2)) true).2.1 (mAllowW v g nc (xs (7 * t + 1)) (xs (7 * t + 2)) true).2.2 := hC9
          have ha9 : ad 0 0 = _ := ha9
          rw [← ha9] at hl
          have hl : lv_has ls 4 [(0, .ref b), (1, .ref (ad 0 0)), (2, .ref (ad2 33 0)), (3, .int (nI (7 * t)))] := hl
          refine W.eq (g2 := F0 m 932 ls [.int ((mAllowW v g nc (xs (7 * t + 1)) (xs (7 * t + 2)) true).1)]) rfl ?_
          refine lv_aload_n hx hb dL_law_932 rfl (lv_at hl 2 rfl) ?_
          refine lv_aload_n hx hb dL_law_933 rfl (lv_at hl 0 rfl) ?_
          refine lv_iload_n hx hb dL_law_934 rfl (lv_at hl 3 rfl) ?_
          refine lv_iconst (v := 1) hx hb dL_law_935 (by decide) ?_
          refine lv_iadd hx hb dL_law_936 ?_
          refine x_top (x := (nI (7 * t) + 1)) (y := nI (7 * t + 1)) (nI_add _ 1) ?_
          refine va_sld hx hb hX hbl hbA hT.1.2.2.1 (vp_in_nI (n := (7 * t + 1)) (by omega) (by omega)) dL_law_937 ?_
          refine x_top (x := xs (nI (7 * t + 1)).toNatClampNeg) (y := xs (7 * t + 1)) (by rw [nI_clamp (by omega)]) ?_
          refine lv_aload_n hx hb dL_law_938 rfl (lv_at hl 0 rfl) ?_
          refine lv_iload_n hx hb dL_law_939 rfl (lv_at hl 3 rfl) ?_
          refine lv_iconst (v := 2) hx hb dL_law_940 (by decide) ?_
          refine lv_iadd hx hb dL_law_941 ?_
          refine x_top (x := (nI (7 * t) + 2)) (y := nI (7 * t + 2)) (nI_add _ 2) ?_
          refine va_sld hx hb hX hbl hbA hT.1.2.2.1 (vp_in_nI (n := (7 * t + 2)) (by omega) (by omega)) dL_law_942 ?_
          refine x_top (x := xs (nI (7 * t + 2)).toNatClampNeg) (y := xs (7 * t + 2)) (by rw [nI_clamp (by omega)]) ?_
          refine lv_aload_n hx hb dL_law_943 rfl (lv_at hl 0 rfl) ?_
          refine lv_iload_n hx hb dL_law_944 rfl (lv_at hl 3 rfl) ?_
          refine lv_iconst (v := 3) hx hb dL_law_945 (by decide) ?_
          refine lv_iadd hx hb dL_law_946 ?_
          refine x_top (x := (nI (7 * t) + 3)) (y := nI (7 * t + 3)) (nI_add _ 3) ?_
          refine va_sld hx hb hX hbl hbA hT.1.2.2.1 (vp_in_nI (n := (7 * t + 3)) (by omega) (by omega)) dL_law_947 ?_
          refine x_top (x := xs (nI (7 * t + 3)).toNatClampNeg) (y := xs (7 * t + 3)) (by rw [nI_clamp (by omega)]) ?_
          refine lv_if_eq (tgt := 955) hx hb dL_law_948 (by decide) (fun c_948 => ?_) (fun c_948 => ?_)
          · skip
            exact absurd c_948 c_921
          · skip
            refine lv_iconst (v := 1) hx hb dL_law_951 (by decide) ?_
            refine lv_goto (tgt := 956) hx hb dL_law_952 (by decide) ?_
            refine tw_M hT (x_runV (rest := [.int ((mAllowW v g nc (xs (7 * t + 1)) (xs (7 * t + 2)) true).1)]) E cbX10_allow tw_823 (kX10_allow l D ca ad2 H.size v g nw nb nc nm (xs (7 * t + 1)) (xs (7 * t + 2)) true hO) ⟨rfl, rfl, by decide, by decide⟩ (m_recv E hT.m) (fun _ _ _ _ h => h) (fun U hU _ => by rw [hU]; exact ⟨rfl, hT.2.1⟩) rfl hl.1 rfl (Nat.le_of_ble_eq_true rfl) dL_law_956 ⟨by show _ ≤ (600000 : Nat); omega, by show _ ≤ (7302250 : Nat); omega⟩) (fun H locs hT => ?_)
            refine W.eq (g2 := F0 m 959 ls [.int ((mAllowW v g nc (xs (7 * t + 1)) (xs (7 * t + 2)) true).1), .int ((mAllowW v g nc (xs (7 * t + 1)) (xs (7 * t + 2)) true).1)]) rfl ?_
            refine lv_icmp_eq (tgt := 1096) hx hb dL_law_959 (by decide) (fun c_959 => ?_) (fun c_959 => ?_)
            · skip
              refine lv_iinc (v := (nI (7 * (t + 1)))) (lv' := [(3, .int (nI (7 * (t + 1)))), (0, .ref b), (1, .ref (ad 0 0)), (2, .ref (ad2 33 0))]) hx hb dL_law_1096 hl (k := 3) rfl (by rw [show 7 * (t + 1) = 7 * t + 7 by omega]; exact nI_add _ 7) (by decide) rfl (fun ls hl => ?_)
              refine lv_goto (tgt := 18) hx hb dL_law_1099 (by decide) ?_
              obtain ⟨nw9, nb9, nc9, nm9, hC9⟩ := hC9
              refine W.widen (k := 45 + 3 * (t + 1)) (n := 31081 + 41 * (t + 1)) (by omega) (by omega) ?_
              exact ih (t + 1) cnt ad ct ad2 ((mAllowW v g nc (xs (7 * t + 1)) (xs (7 * t + 2)) true).2.1) ((mAllowW v g nc (xs (7 * t + 1)) (xs (7 * t + 2)) true).2.2) nw9 nb9 nc9 nm9 (by omega) (by omega) hC9 (PI_allow _ _ _ hO hPI) _ _ hT ls (lv_sub hl [1, 2, 3, 0] rfl)
            · skip
              exact absurd rfl c_959
      · skip
        refine lv_tableIn (off := 931) (tgt := 964) hx hb dL_law_33 (by rw [sw33]; decide) (by rw [sw33]; decide) (by rw [sw33]; decide) (by decide) ?_
        refine lv_aload_n hx hb dL_law_964 rfl (lv_at hl 1 rfl) ?_
        refine lv_aload_n hx hb dL_law_965 rfl (lv_at hl 0 rfl) ?_
        refine lv_iload_n hx hb dL_law_966 rfl (lv_at hl 3 rfl) ?_
        refine lv_iconst (v := 1) hx hb dL_law_967 (by decide) ?_
        refine lv_iadd hx hb dL_law_968 ?_
        refine x_top (x := (nI (7 * t) + 1)) (y := nI (7 * t + 1)) (nI_add _ 1) ?_
        refine va_sld hx hb hX hbl hbA hT.1.2.2.1 (vp_in_nI (n := (7 * t + 1)) (by omega) (by omega)) dL_law_969 ?_
        refine x_top (x := xs (nI (7 * t + 1)).toNatClampNeg) (y := xs (7 * t + 1)) (by rw [nI_clamp (by omega)]) ?_
        refine lv_aload_n hx hb dL_law_970 rfl (lv_at hl 0 rfl) ?_
        refine lv_iload_n hx hb dL_law_971 rfl (lv_at hl 3 rfl) ?_
        refine lv_iconst (v := 2) hx hb dL_law_972 (by decide) ?_
        refine lv_iadd hx hb dL_law_973 ?_
        refine x_top (x := (nI (7 * t) + 2)) (y := nI (7 * t + 2)) (nI_add _ 2) ?_
        refine va_sld hx hb hX hbl hbA hT.1.2.2.1 (vp_in_nI (n := (7 * t + 2)) (by omega) (by omega)) dL_law_974 ?_
        refine x_top (x := xs (nI (7 * t + 2)).toNatClampNeg) (y := xs (7 * t + 2)) (by rw [nI_clamp (by omega)]) ?_
        refine x_read (x_runV (rest := []) E cbX9_ask tw_520 (kX9_ask l D ca cnt ad ct v g nw nb nc nm (xs (7 * t + 1)) (xs (7 * t + 2)) hC) ⟨rfl, rfl, by decide, by decide⟩ (x_recv E hT.1 cl_9 hX0.1 hX0.2.2.2.2) (fun _ _ _ _ h => h) (fun U hU _ => by rw [hU]; exact hT.1.1) rfl hl.1 rfl (Nat.le_of_ble_eq_true rfl) dL_law_975 ⟨by show _ ≤ (600000 : Nat); omega, by show _ ≤ (7302250 : Nat); omega⟩) ?_
        refine lv_aload_n hx hb dL_law_978 rfl (lv_at hl 2 rfl) ?_
        refine lv_aload_n hx hb dL_law_979 rfl (lv_at hl 0 rfl) ?_
        refine lv_iload_n hx hb dL_law_980 rfl (lv_at hl 3 rfl) ?_
        refine lv_iconst (v := 1) hx hb dL_law_981 (by decide) ?_
        refine lv_iadd hx hb dL_law_982 ?_
        refine x_top (x := (nI (7 * t) + 1)) (y := nI (7 * t + 1)) (nI_add _ 1) ?_
        refine va_sld hx hb hX hbl hbA hT.1.2.2.1 (vp_in_nI (n := (7 * t + 1)) (by omega) (by omega)) dL_law_983 ?_
        refine x_top (x := xs (nI (7 * t + 1)).toNatClampNeg) (y := xs (7 * t + 1)) (by rw [nI_clamp (by omega)]) ?_
        refine lv_aload_n hx hb dL_law_984 rfl (lv_at hl 0 rfl) ?_
        refine lv_iload_n hx hb dL_law_985 rfl (lv_at hl 3 rfl) ?_
        refine lv_iconst (v := 2) hx hb dL_law_986 (by decide) ?_
        refine lv_iadd hx hb dL_law_987 ?_
        refine x_top (x := (nI (7 * t) + 2)) (y := nI (7 * t + 2)) (nI_add _ 2) ?_
        refine va_sld hx hb hX hbl hbA hT.1.2.2.1 (vp_in_nI (n := (7 * t + 2)) (by omega) (by omega)) dL_law_988 ?_
        refine x_top (x := xs (nI (7 * t + 2)).toNatClampNeg) (y := xs (7 * t + 2)) (by rw [nI_clamp (by omega)]) ?_
        refine x_read (x_runV (rest := [.int (mAsk g nc (xs (7 * t + 1)) (xs (7 * t + 2)))]) E cbX10_ask tw_831 (kX10_ask l D ca ad2 v g nw nb nc nm (xs (7 * t + 1)) (xs (7 * t + 2)) hO) ⟨rfl, rfl, by decide, by decide⟩ (m_recv E hT.m) (fun _ _ _ _ h => h) (fun U hU _ => by rw [hU]; exact hT.2.1) rfl hl.1 rfl (Nat.le_of_ble_eq_true rfl) dL_law_989 ⟨by show _ ≤ (600000 : Nat); omega, by show _ ≤ (7302250 : Nat); omega⟩) ?_
        refine lv_icmp_eq (tgt := 1096) hx hb dL_law_992 (by decide) (fun c_992 => ?_) (fun c_992 => ?_)
        · skip
          refine lv_iinc (v := (nI (7 * (t + 1)))) (lv' := [(3, .int (nI (7 * (t + 1)))), (0, .ref b), (1, .ref (ad 0 0)), (2, .ref (ad2 33 0))]) hx hb dL_law_1096 hl (k := 3) rfl (by rw [show 7 * (t + 1) = 7 * t + 7 by omega]; exact nI_add _ 7) (by decide) rfl (fun ls hl => ?_)
          refine lv_goto (tgt := 18) hx hb dL_law_1099 (by decide) ?_
          have hC9 := hC
          refine W.widen (k := 45 + 3 * (t + 1)) (n := 31081 + 41 * (t + 1)) (by omega) (by omega) ?_
          exact ih (t + 1) cnt ad ct ad2 v g nw nb nc nm (by omega) (by omega) hC9 (PI_k hPI) _ _ hT ls (lv_sub hl [1, 2, 3, 0] rfl)
        · skip
          exact absurd rfl c_992
      · skip
        refine lv_tableIn (off := 964) (tgt := 997) hx hb dL_law_33 (by rw [sw33]; decide) (by rw [sw33]; decide) (by rw [sw33]; decide) (by decide) ?_
        refine lv_aload_n hx hb dL_law_997 rfl (lv_at hl 1 rfl) ?_
        refine lv_aload_n hx hb dL_law_998 rfl (lv_at hl 0 rfl) ?_
        refine lv_iload_n hx hb dL_law_999 rfl (lv_at hl 3 rfl) ?_
        refine lv_iconst (v := 1) hx hb dL_law_1000 (by decide) ?_
        refine lv_iadd hx hb dL_law_1001 ?_
        refine x_top (x := (nI (7 * t) + 1)) (y := nI (7 * t + 1)) (nI_add _ 1) ?_
        refine va_sld hx hb hX hbl hbA hT.1.2.2.1 (vp_in_nI (n := (7 * t + 1)) (by omega) (by omega)) dL_law_1002 ?_
        refine x_top (x := xs (nI (7 * t + 1)).toNatClampNeg) (y := xs (7 * t + 1)) (by rw [nI_clamp (by omega)]) ?_
        refine lv_aload_n hx hb dL_law_1003 rfl (lv_at hl 0 rfl) ?_
        refine lv_iload_n hx hb dL_law_1004 rfl (lv_at hl 3 rfl) ?_
        refine lv_iconst (v := 2) hx hb dL_law_1005 (by decide) ?_
        refine lv_iadd hx hb dL_law_1006 ?_
        refine x_top (x := (nI (7 * t) + 2)) (y := nI (7 * t + 2)) (nI_add _ 2) ?_
        refine va_sld hx hb hX hbl hbA hT.1.2.2.1 (vp_in_nI (n := (7 * t + 2)) (by omega) (by omega)) dL_law_1007 ?_
        refine x_top (x := xs (nI (7 * t + 2)).toNatClampNeg) (y := xs (7 * t + 2)) (by rw [nI_clamp (by omega)]) ?_
        refine lv_aload_n hx hb dL_law_1008 rfl (lv_at hl 0 rfl) ?_
        refine lv_iload_n hx hb dL_law_1009 rfl (lv_at hl 3 rfl) ?_
        refine lv_iconst (v := 3) hx hb dL_law_1010 (by decide) ?_
        refine lv_iadd hx hb dL_law_1011 ?_
        refine x_top (x := (nI (7 * t) + 3)) (y := nI (7 * t + 3)) (nI_add _ 3) ?_
        refine va_sld hx hb hX hbl hbA hT.1.2.2.1 (vp_in_nI (n := (7 * t + 3)) (by omega) (by omega)) dL_law_1012 ?_
        refine x_top (x := xs (nI (7 * t + 3)).toNatClampNeg) (y := xs (7 * t + 3)) (by rw [nI_clamp (by omega)]) ?_
        refine x_read (x_runV (rest := []) E cbX9_guess tw_524 (kX9_guess l D ca cnt ad ct v g nw nb nc nm (xs (7 * t + 1)) (xs (7 * t + 2)) (xs (7 * t + 3)) hC) ⟨rfl, rfl, by decide, by decide⟩ (x_recv E hT.1 cl_9 hX0.1 hX0.2.2.2.2) (fun _ _ _ _ h => h) (fun U hU _ => by rw [hU]; exact hT.1.1) rfl hl.1 rfl (Nat.le_of_ble_eq_true rfl) dL_law_1013 ⟨by show _ ≤ (600000 : Nat); omega, by show _ ≤ (7302250 : Nat); omega⟩) ?_
        refine lv_aload_n hx hb dL_law_1016 rfl (lv_at hl 2 rfl) ?_
        refine lv_aload_n hx hb dL_law_1017 rfl (lv_at hl 0 rfl) ?_
        refine lv_iload_n hx hb dL_law_1018 rfl (lv_at hl 3 rfl) ?_
        refine lv_iconst (v := 1) hx hb dL_law_1019 (by decide) ?_
        refine lv_iadd hx hb dL_law_1020 ?_
        refine x_top (x := (nI (7 * t) + 1)) (y := nI (7 * t + 1)) (nI_add _ 1) ?_
        refine va_sld hx hb hX hbl hbA hT.1.2.2.1 (vp_in_nI (n := (7 * t + 1)) (by omega) (by omega)) dL_law_1021 ?_
        refine x_top (x := xs (nI (7 * t + 1)).toNatClampNeg) (y := xs (7 * t + 1)) (by rw [nI_clamp (by omega)]) ?_
        refine lv_aload_n hx hb dL_law_1022 rfl (lv_at hl 0 rfl) ?_
        refine lv_iload_n hx hb dL_law_1023 rfl (lv_at hl 3 rfl) ?_
        refine lv_iconst (v := 2) hx hb dL_law_1024 (by decide) ?_
        refine lv_iadd hx hb dL_law_1025 ?_
        refine x_top (x := (nI (7 * t) + 2)) (y := nI (7 * t + 2)) (nI_add _ 2) ?_
        refine va_sld hx hb hX hbl hbA hT.1.2.2.1 (vp_in_nI (n := (7 * t + 2)) (by omega) (by omega)) dL_law_1026 ?_
        refine x_top (x := xs (nI (7 * t + 2)).toNatClampNeg) (y := xs (7 * t + 2)) (by rw [nI_clamp (by omega)]) ?_
        refine lv_aload_n hx hb dL_law_1027 rfl (lv_at hl 0 rfl) ?_
        refine lv_iload_n hx hb dL_law_1028 rfl (lv_at hl 3 rfl) ?_
        refine lv_iconst (v := 3) hx hb dL_law_1029 (by decide) ?_
        refine lv_iadd hx hb dL_law_1030 ?_
        refine x_top (x := (nI (7 * t) + 3)) (y := nI (7 * t + 3)) (nI_add _ 3) ?_
        refine va_sld hx hb hX hbl hbA hT.1.2.2.1 (vp_in_nI (n := (7 * t + 3)) (by omega) (by omega)) dL_law_1031 ?_
        refine x_top (x := xs (nI (7 * t + 3)).toNatClampNeg) (y := xs (7 * t + 3)) (by rw [nI_clamp (by omega)]) ?_
        refine x_read (x_runV (rest := [.int (mGuess g nc (xs (7 * t + 1)) (xs (7 * t + 2)) (xs (7 * t + 3)))]) E cbX10_guess tw_835 (kX10_guess l D ca ad2 v g nw nb nc nm (xs (7 * t + 1)) (xs (7 * t + 2)) (xs (7 * t + 3)) hO) ⟨rfl, rfl, by decide, by decide⟩ (m_recv E hT.m) (fun _ _ _ _ h => h) (fun U hU _ => by rw [hU]; exact hT.2.1) rfl hl.1 rfl (Nat.le_of_ble_eq_true rfl) dL_law_1032 ⟨by show _ ≤ (600000 : Nat); omega, by show _ ≤ (7302250 : Nat); omega⟩) ?_
        refine lv_icmp_eq (tgt := 1096) hx hb dL_law_1035 (by decide) (fun c_1035 => ?_) (fun c_1035 => ?_)
        · skip
          refine lv_iinc (v := (nI (7 * (t + 1)))) (lv' := [(3, .int (nI (7 * (t + 1)))), (0, .ref b), (1, .ref (ad 0 0)), (2, .ref (ad2 33 0))]) hx hb dL_law_1096 hl (k := 3) rfl (by rw [show 7 * (t + 1) = 7 * t + 7 by omega]; exact nI_add _ 7) (by decide) rfl (fun ls hl => ?_)
          refine lv_goto (tgt := 18) hx hb dL_law_1099 (by decide) ?_
          have hC9 := hC
          refine W.widen (k := 45 + 3 * (t + 1)) (n := 31081 + 41 * (t + 1)) (by omega) (by omega) ?_
          exact ih (t + 1) cnt ad ct ad2 v g nw nb nc nm (by omega) (by omega) hC9 (PI_k hPI) _ _ hT ls (lv_sub hl [1, 2, 3, 0] rfl)
        · skip
          exact absurd rfl c_1035
      · skip
        refine lv_tableIn (off := 1007) (tgt := 1040) hx hb dL_law_33 (by rw [sw33]; decide) (by rw [sw33]; decide) (by rw [sw33]; decide) (by decide) ?_
        refine lv_aload_n hx hb dL_law_1040 rfl (lv_at hl 1 rfl) ?_
        refine lv_aload_n hx hb dL_law_1041 rfl (lv_at hl 0 rfl) ?_
        refine lv_iload_n hx hb dL_law_1042 rfl (lv_at hl 3 rfl) ?_
        refine lv_iconst (v := 1) hx hb dL_law_1043 (by decide) ?_
        refine lv_iadd hx hb dL_law_1044 ?_
        refine x_top (x := (nI (7 * t) + 1)) (y := nI (7 * t + 1)) (nI_add _ 1) ?_
        refine va_sld hx hb hX hbl hbA hT.1.2.2.1 (vp_in_nI (n := (7 * t + 1)) (by omega) (by omega)) dL_law_1045 ?_
        refine x_top (x := xs (nI (7 * t + 1)).toNatClampNeg) (y := xs (7 * t + 1)) (by rw [nI_clamp (by omega)]) ?_
        refine lv_aload_n hx hb dL_law_1046 rfl (lv_at hl 0 rfl) ?_
        refine lv_iload_n hx hb dL_law_1047 rfl (lv_at hl 3 rfl) ?_
        refine lv_iconst (v := 2) hx hb dL_law_1048 (by decide) ?_
        refine lv_iadd hx hb dL_law_1049 ?_
        refine x_top (x := (nI (7 * t) + 2)) (y := nI (7 * t + 2)) (nI_add _ 2) ?_
        refine va_sld hx hb hX hbl hbA hT.1.2.2.1 (vp_in_nI (n := (7 * t + 2)) (by omega) (by omega)) dL_law_1050 ?_
        refine x_top (x := xs (nI (7 * t + 2)).toNatClampNeg) (y := xs (7 * t + 2)) (by rw [nI_clamp (by omega)]) ?_
        refine x_read (x_runV (rest := []) E cbX9_told tw_528 (kX9_told l D ca cnt ad ct v g nw nb nc nm (xs (7 * t + 1)) (xs (7 * t + 2)) hC) ⟨rfl, rfl, by decide, by decide⟩ (x_recv E hT.1 cl_9 hX0.1 hX0.2.2.2.2) (fun _ _ _ _ h => h) (fun U hU _ => by rw [hU]; exact hT.1.1) rfl hl.1 rfl (Nat.le_of_ble_eq_true rfl) dL_law_1051 ⟨by show _ ≤ (600000 : Nat); omega, by show _ ≤ (7302250 : Nat); omega⟩) ?_
        refine lv_aload_n hx hb dL_law_1054 rfl (lv_at hl 2 rfl) ?_
        refine lv_aload_n hx hb dL_law_1055 rfl (lv_at hl 0 rfl) ?_
        refine lv_iload_n hx hb dL_law_1056 rfl (lv_at hl 3 rfl) ?_
        refine lv_iconst (v := 1) hx hb dL_law_1057 (by decide) ?_
        refine lv_iadd hx hb dL_law_1058 ?_
        refine x_top (x := (nI (7 * t) + 1)) (y := nI (7 * t + 1)) (nI_add _ 1) ?_
        refine va_sld hx hb hX hbl hbA hT.1.2.2.1 (vp_in_nI (n := (7 * t + 1)) (by omega) (by omega)) dL_law_1059 ?_
        refine x_top (x := xs (nI (7 * t + 1)).toNatClampNeg) (y := xs (7 * t + 1)) (by rw [nI_clamp (by omega)]) ?_
        refine lv_aload_n hx hb dL_law_1060 rfl (lv_at hl 0 rfl) ?_
        refine lv_iload_n hx hb dL_law_1061 rfl (lv_at hl 3 rfl) ?_
        refine lv_iconst (v := 2) hx hb dL_law_1062 (by decide) ?_
        refine lv_iadd hx hb dL_law_1063 ?_
        refine x_top (x := (nI (7 * t) + 2)) (y := nI (7 * t + 2)) (nI_add _ 2) ?_
        refine va_sld hx hb hX hbl hbA hT.1.2.2.1 (vp_in_nI (n := (7 * t + 2)) (by omega) (by omega)) dL_law_1064 ?_
        refine x_top (x := xs (nI (7 * t + 2)).toNatClampNeg) (y := xs (7 * t + 2)) (by rw [nI_clamp (by omega)]) ?_
        refine x_read (x_runV (rest := [.int (mTold g nc nm (xs (7 * t + 1)) (xs (7 * t + 2)))]) E cbX10_told tw_839 (kX10_told l D ca ad2 v g nw nb nc nm (xs (7 * t + 1)) (xs (7 * t + 2)) hO) ⟨rfl, rfl, by decide, by decide⟩ (m_recv E hT.m) (fun _ _ _ _ h => h) (fun U hU _ => by rw [hU]; exact hT.2.1) rfl hl.1 rfl (Nat.le_of_ble_eq_true rfl) dL_law_1065 ⟨by show _ ≤ (600000 : Nat); omega, by show _ ≤ (7302250 : Nat); omega⟩) ?_
        refine lv_icmp_eq (tgt := 1096) hx hb dL_law_1068 (by decide) (fun c_1068 => ?_) (fun c_1068 => ?_)
        · skip
          refine lv_iinc (v := (nI (7 * (t + 1)))) (lv' := [(3, .int (nI (7 * (t + 1)))), (0, .ref b), (1, .ref (ad 0 0)), (2, .ref (ad2 33 0))]) hx hb dL_law_1096 hl (k := 3) rfl (by rw [show 7 * (t + 1) = 7 * t + 7 by omega]; exact nI_add _ 7) (by decide) rfl (fun ls hl => ?_)
          refine lv_goto (tgt := 18) hx hb dL_law_1099 (by decide) ?_
          have hC9 := hC
          refine W.widen (k := 45 + 3 * (t + 1)) (n := 31081 + 41 * (t + 1)) (by omega) (by omega) ?_
          exact ih (t + 1) cnt ad ct ad2 v g nw nb nc nm (by omega) (by omega) hC9 (PI_k hPI) _ _ hT ls (lv_sub hl [1, 2, 3, 0] rfl)
        · skip
          exact absurd rfl c_1068
      · skip
        refine lv_tableIn (off := 1040) (tgt := 1073) hx hb dL_law_33 (by rw [sw33]; decide) (by rw [sw33]; decide) (by rw [sw33]; decide) (by decide) ?_
        refine lv_aload_n hx hb dL_law_1073 rfl (lv_at hl 1 rfl) ?_
        refine lv_aload_n hx hb dL_law_1074 rfl (lv_at hl 0 rfl) ?_
        refine lv_iload_n hx hb dL_law_1075 rfl (lv_at hl 3 rfl) ?_
        refine lv_iconst (v := 1) hx hb dL_law_1076 (by decide) ?_
        refine lv_iadd hx hb dL_law_1077 ?_
        refine x_top (x := (nI (7 * t) + 1)) (y := nI (7 * t + 1)) (nI_add _ 1) ?_
        refine va_sld hx hb hX hbl hbA hT.1.2.2.1 (vp_in_nI (n := (7 * t + 1)) (by omega) (by omega)) dL_law_1078 ?_
        refine x_top (x := xs (nI (7 * t + 1)).toNatClampNeg) (y := xs (7 * t + 1)) (by rw [nI_clamp (by omega)]) ?_
        refine x_read (x_runV (rest := []) E cbX9_count tw_532 (kX9_count l D ca cnt ad ct v g nw nb nc nm (xs (7 * t + 1)) hC) ⟨rfl, rfl, by decide, by decide⟩ (x_recv E hT.1 cl_9 hX0.1 hX0.2.2.2.2) (fun _ _ _ _ h => h) (fun U hU _ => by rw [hU]; exact hT.1.1) rfl hl.1 rfl (Nat.le_of_ble_eq_true rfl) dL_law_1079 ⟨by show _ ≤ (600000 : Nat); omega, by show _ ≤ (7302250 : Nat); omega⟩) ?_
        refine lv_aload_n hx hb dL_law_1082 rfl (lv_at hl 2 rfl) ?_
        refine lv_aload_n hx hb dL_law_1083 rfl (lv_at hl 0 rfl) ?_
        refine lv_iload_n hx hb dL_law_1084 rfl (lv_at hl 3 rfl) ?_
        refine lv_iconst (v := 1) hx hb dL_law_1085 (by decide) ?_
        refine lv_iadd hx hb dL_law_1086 ?_
        refine x_top (x := (nI (7 * t) + 1)) (y := nI (7 * t + 1)) (nI_add _ 1) ?_
        refine va_sld hx hb hX hbl hbA hT.1.2.2.1 (vp_in_nI (n := (7 * t + 1)) (by omega) (by omega)) dL_law_1087 ?_
        refine x_top (x := xs (nI (7 * t + 1)).toNatClampNeg) (y := xs (7 * t + 1)) (by rw [nI_clamp (by omega)]) ?_
        refine x_read (x_runV (rest := [.int (mCount v g nw nb nc nm (xs (7 * t + 1)))]) E cbX10_count tw_843 (kX10_count l D ca ad2 v g nw nb nc nm (xs (7 * t + 1)) hO) ⟨rfl, rfl, by decide, by decide⟩ (m_recv E hT.m) (fun _ _ _ _ h => h) (fun U hU _ => by rw [hU]; exact hT.2.1) rfl hl.1 rfl (Nat.le_of_ble_eq_true rfl) dL_law_1088 ⟨by show _ ≤ (600000 : Nat); omega, by show _ ≤ (7302250 : Nat); omega⟩) ?_
        refine lv_icmp_eq (tgt := 1096) hx hb dL_law_1091 (by decide) (fun c_1091 => ?_) (fun c_1091 => ?_)
        · skip
          refine lv_iinc (v := (nI (7 * (t + 1)))) (lv' := [(3, .int (nI (7 * (t + 1)))), (0, .ref b), (1, .ref (ad 0 0)), (2, .ref (ad2 33 0))]) hx hb dL_law_1096 hl (k := 3) rfl (by rw [show 7 * (t + 1) = 7 * t + 7 by omega]; exact nI_add _ 7) (by decide) rfl (fun ls hl => ?_)
          refine lv_goto (tgt := 18) hx hb dL_law_1099 (by decide) ?_
          have hC9 := hC
          refine W.widen (k := 45 + 3 * (t + 1)) (n := 31081 + 41 * (t + 1)) (by omega) (by omega) ?_
          exact ih (t + 1) cnt ad ct ad2 v g nw nb nc nm (by omega) (by omega) hC9 (PI_k hPI) _ _ hT ls (lv_sub hl [1, 2, 3, 0] rfl)
        · skip
          exact absurd rfl c_1091
      · skip
        refine lv_tableOut (tgt := 1096) hx hb dL_law_33 sw33.1 (by decide) ?_
        replace sw33 := sw33.2
        refine lv_iinc (v := (nI (7 * (t + 1)))) (lv' := [(3, .int (nI (7 * (t + 1)))), (0, .ref b), (1, .ref (ad 0 0)), (2, .ref (ad2 33 0))]) hx hb dL_law_1096 hl (k := 3) rfl (by rw [show 7 * (t + 1) = 7 * t + 7 by omega]; exact nI_add _ 7) (by decide) rfl (fun ls hl => ?_)
        refine lv_goto (tgt := 18) hx hb dL_law_1099 (by decide) ?_
        have hC9 := hC
        refine W.widen (k := 45 + 3 * (t + 1)) (n := 31081 + 41 * (t + 1)) (by omega) (by omega) ?_
        exact ih (t + 1) cnt ad ct ad2 v g nw nb nc nm (by omega) (by omega) hC9 (PI_k hPI) _ _ hT ls (lv_sub hl [1, 2, 3, 0] rfl)
