/-! ===== the law: two worlds in one heap ===== -/
def TW (D : va_G) (ca : Nat → ClassId) (A : Nat → Prop) (H0 : Heap) (cnt : Nat → Nat) (ad : Nat → Nat → Nat) (ct : Nat → Nat → va_E) (ad2 : Nat → Nat → Nat) (v : Nat → Int32) (g : Nat → Nat → Int32) (H : Heap) (locs : List Loc) : Prop := wd D A H0 cnt ad ct H locs ∧ mq D ca ad2 v g H ∧ (∀ k i, i < mcnt k → A (ad2 k i)) ∧ ∀ k i k' i', i < cnt k → i' < mcnt k' → ad k i ≠ ad2 k' i'
theorem wq_lt {D : va_G} {cnt : Nat → Nat} {ad : Nat → Nat → Nat} {ct : Nat → Nat → va_E} {H : Heap} (h : wq D cnt ad ct H) {k i : Nat} (hi : i < cnt k) : ad k i < H.size := (h.1 k i hi).lt
theorem wq_kept {D : va_G} {cnt : Nat → Nat} {ad : Nat → Nat → Nat} {ct : Nat → Nat → va_E} {H H1 : Heap} (h : wq D cnt ad ct H) (hk : ∀ k i, i < cnt k → H1[ad k i]? = H[ad k i]?) : wq D cnt ad ct H1 := ⟨fun k i hi => (h.1 k i hi).kept (hk k i hi), h.2⟩
theorem TW.m {D : va_G} {ca : Nat → ClassId} {A : Nat → Prop} {H0 : Heap} {cnt : Nat → Nat} {ad : Nat → Nat → Nat} {ct : Nat → Nat → va_E} {ad2 : Nat → Nat → Nat} {v : Nat → Int32} {g : Nat → Nat → Int32} {H : Heap} {locs : List Loc} (h : TW D ca A H0 cnt ad ct ad2 v g H locs) : mw D A H0 ca ad2 v g H locs := ⟨h.2.1, h.2.2.1, h.1.2.2.1, h.1.2.2.2⟩
section TWR
variable {p : Program} {l : Launch} {e : Env} {R : Room} {s : State} {m : MethodId} {args : Array Value} {below : List Frame} {meth : Method} {c : Code} {H : Heap} {locs : List Loc} {cells slots : Nat} {Q : State → Prop}
variable {D : va_G} {ca : Nat → ClassId} {A : Nat → Prop} {H0 : Heap} {cnt cm : Nat → Nat} {ad am : Nat → Nat → Nat} {ct ctm : Nat → Nat → va_E} {ad2 : Nat → Nat → Nat} {v v' : Nat → Int32} {g g' : Nat → Nat → Int32} {pc mc ms : Nat} {ls : Array Slot} {rest st0 : List Value} {post : Option Value → WT → Prop} {a : Array Value}
/-- a call that changes one world, another beside it -/
theorem tw_I (hw : wd D A H0 cnt ad ct H locs) (h2 : wq D cm am ctm H) (h3 : ∀ k i, i < cm k → A (am k i)) (h4 : ∀ k i k' i', i < cnt k → i' < cm k' → ad k i ≠ am k' i') (hr : va_Run p l e R s m args below meth c H locs cells slots mc ms (F0 m pc ls st0) rest (QcW D (wA cm am H.size) post a) (wA cm am H.size))
    (kk : ∀ (rv : Option Value) (u : WT) (H1 : Heap) (locs1 : List Loc), post rv u → wd D A H0 cnt ad ct H1 locs1 → wq D u.1 u.2.1 u.2.2 H1 → (∀ k i, i < u.1 k → A (u.2.1 k i)) → (∀ k i k' i', i < cnt k → i' < u.1 k' → ad k i ≠ u.2.1 k' i') → W p l e R s m args below meth c H1 locs1 (cells + mc) (slots + ms) Q (F0 m (pc + 3) ls (rv.toList ++ rest))) : W p l e R s m args below meth c H locs cells slots Q (F0 m pc ls st0) := by
  refine x_wrote (post := fun rv u => post rv u ∧ ∀ k i, i < u.1 k → wA cm am H.size (u.2.1 k i)) (A := A) (H0 := H0) ⟨h2, h3, hw.2.2.1, hw.2.2.2⟩ (a := a) (rest := rest) (fun T hT X => ?_) (fun rv u H1 locs1 hp hw1 hz hk => kk rv u H1 locs1 hp.1 ⟨wq_kept hw.1 (fun k i hi => hk _ (wq_lt hw.1 hi) (fun z => ?_)), hw.2.1, hw1.2.2.1, hw.2.2.2⟩ hw1.1 hw1.2.1 (fun k i k' i' hi hi' q => ?_))
  · obtain ⟨v1, st₀, t, T', L, h0, X', hL, e1, e2, ⟨⟨v', u, hv, hp, hq, hA1⟩, hF⟩, st⟩ := hr T hT X
    exact ⟨v1, st₀, t, T', L, h0, X', hL, e1, e2, ⟨⟨v', u, hv, ⟨hp, hA1⟩, hq, hA1⟩, hF⟩, st⟩
  · rcases z with ⟨k', i', hi', q⟩ | z
    · exact h4 k i k' i' hi hi' q.symm
    · exact absurd (wq_lt hw.1 hi) (by omega)
  · rcases hp.2 k' i' hi' with ⟨k2, i2, hi2, e2⟩ | z
    · exact h4 k i k2 i2 hi hi2 (q.trans e2.symm)
    · exact absurd (wq_lt hw.1 hi) (by omega)
/-- the class's call -/
theorem tw_C (hT : TW D ca A H0 cnt ad ct ad2 v g H locs) (hr : va_Run p l e R s m args below meth c H locs cells slots mc ms (F0 m pc ls st0) rest (QcW D (wA cnt ad H.size) post a) (wA cnt ad H.size))
    (kk : ∀ (rv : Option Value) (u : WT) (H1 : Heap) (locs1 : List Loc), post rv u → TW D ca A H0 u.1 u.2.1 u.2.2 ad2 v g H1 locs1 → W p l e R s m args below meth c H1 locs1 (cells + mc) (slots + ms) Q (F0 m (pc + 3) ls (rv.toList ++ rest))) : W p l e R s m args below meth c H locs cells slots Q (F0 m pc ls st0) :=
  tw_I hT.m hT.1.1 hT.1.2.1 (fun k i k' i' hi hi' q => hT.2.2.2 k' i' k i hi' hi q.symm) hr (fun rv u H1 locs1 hp hw hq hA hd => kk rv u H1 locs1 hp ⟨⟨hq, hA, hw.2.2.1, hw.2.2.2⟩, hw.1, hw.2.1, fun k i k' i' hi hi' q => hd k' i' k i hi' hi q.symm⟩)
/-- the reference's call -/
theorem tw_X (hT : TW D ca A H0 cnt ad ct ad2 v g H locs) (hr : va_Run p l e R s m args below meth c H locs cells slots mc ms (F0 m pc ls st0) rest (QcW D (wA mcnt ad2 H.size) post a) (wA mcnt ad2 H.size))
    (kk : ∀ (rv : Option Value) (u : WT) (H1 : Heap) (locs1 : List Loc), post rv u → (∀ v' g', u = (mcnt, ad2, mct ca ad2 v' g') → TW D ca A H0 cnt ad ct ad2 v' g' H1 locs1) → W p l e R s m args below meth c H1 locs1 (cells + mc) (slots + ms) Q (F0 m (pc + 3) ls (rv.toList ++ rest))) : W p l e R s m args below meth c H locs cells slots Q (F0 m pc ls st0) :=
  tw_I hT.1 hT.2.1 hT.2.2.1 hT.2.2.2 hr (fun rv u H1 locs1 hp hw hq hA hd => kk rv u H1 locs1 hp (fun v' g' q => by subst q; exact ⟨hw, hq, hA, hd⟩))
theorem tw_M {r : Option Value} (hT : TW D ca A H0 cnt ad ct ad2 v g H locs) (hr : va_Run p l e R s m args below meth c H locs cells slots mc ms (F0 m pc ls st0) rest (QcM D ca ad2 (wA mcnt ad2 H.size) r v' g' a) (wA mcnt ad2 H.size))
    (kk : ∀ (H1 : Heap) (locs1 : List Loc), TW D ca A H0 cnt ad ct ad2 v' g' H1 locs1 → W p l e R s m args below meth c H1 locs1 (cells + mc) (slots + ms) Q (F0 m (pc + 3) ls (r.toList ++ rest))) : W p l e R s m args below meth c H locs cells slots Q (F0 m pc ls st0) := by
  refine tw_X (post := fun w u => w = r ∧ u = (mcnt, ad2, mct ca ad2 v' g')) (mc := mc) (ms := ms) (rest := rest) hT (a := a) (fun T hT X => ?_) (fun w u H1 locs1 hp hT1 => ?_)
  · obtain ⟨v1, st₀, t, T', L, h0, X', hL, e1, e2, ⟨⟨hv, hq⟩, hF⟩, st⟩ := hr T hT X
    cases hv
    exact ⟨r, st₀, t, T', L, h0, X', hL, e1, e2, ⟨⟨r, (mcnt, ad2, mct ca ad2 v' g'), rfl, ⟨rfl, rfl⟩, hq, fun k i hi => Or.inl ⟨k, i, hi, rfl⟩⟩, hF⟩, st⟩
  · obtain ⟨rfl, rfl⟩ := hp
    exact kk H1 locs1 (hT1 v' g' rfl)
end TWR
/-! the words that the tables hold besides -/
theorem lt_1 {w : Cond} (h : w ∈ tables_1_1) : w ∈ lw_tbl := List.mem_append_right _ (List.mem_append_left _ h)
theorem lt_2 {w : Cond} (h : w ∈ tables_1_2) : w ∈ lw_tbl := List.mem_append_right _ (List.mem_append_right _ (List.mem_append_left _ h))
theorem lt_3 {w : Cond} (h : w ∈ tables_1_3) : w ∈ lw_tbl := List.mem_append_right _ (List.mem_append_right _ (List.mem_append_right _ (List.mem_append_left _ h)))
theorem lw_gN {A : Array Value} {s : State} (hts : ∀ w ∈ lw_tbl, w.before A s = true) : gN s :=
  ⟨va_Nw.of rfl (hts _ (lt_1 (List.mem_of_getElem? (i := 30) (by decide +kernel)))), va_Nw.of rfl (hts _ (lt_1 (List.mem_of_getElem? (i := 68) (by decide +kernel)))), va_Nw.of rfl (hts _ (lt_1 (List.mem_of_getElem? (i := 157) (by decide +kernel)))), va_Nw.of rfl (hts _ (lt_1 (List.mem_of_getElem? (i := 178) (by decide +kernel)))), va_Nw.of rfl (hts _ (lt_3 (List.mem_of_getElem? (i := 14) (by decide +kernel)))), va_AO.of (hts _ (lt_1 (List.mem_of_getElem? (i := 23) (by decide +kernel)))), va_AO.of (hts _ (lt_1 (List.mem_of_getElem? (i := 25) (by decide +kernel)))), va_AO.of (hts _ (lt_1 (List.mem_of_getElem? (i := 27) (by decide +kernel))))⟩
theorem lw_ac {A : Array Value} {s : State} {ty : FieldType} (h : (Cond.arrayClass ty).before A s = true) (hty : ∀ U c, va_RA U c ty = (U.vm.findClass ("[" ++ ty.toString) = some c)) : ∃ c, ArrOfT s c ty ∧ va_RA s c ty := by
  obtain ⟨c, k, comp, h1, h2, h3⟩ := Cond.arrayClass_spec h
  exact ⟨c, fun n z => ⟨fun k h => (by cases h), k, h2, comp, h3⟩, by rw [hty]; exact h1⟩
theorem lw_ao {A : Array Value} {s : State} {C : String} (h : (Cond.arrayOver (.object C)).before A s = true) : ∃ c, ArrOfT s c (.object C) ∧ va_RA s c (.object C) := by
  obtain ⟨comp, c, k, h1, -, h2, h3, h4⟩ := Cond.arrayOver_spec h
  exact ⟨c, fun n z => ⟨fun k h => (by cases h), k, h2, comp, h3⟩, k, comp, h2, h3, h1, h4⟩
theorem lw_gw {A : Array Value} {s : State} (hts : ∀ w ∈ lw_tbl, w.before A s = true) : ∀ w ∈ gw, w.before A s = true := fun w h => hts w (List.mem_filter.mp h).1
theorem lw_gK {A : Array Value} {s : State} (hts : ∀ w ∈ lw_tbl, w.before A s = true) : ∃ (D : va_G) (ca : Nat → ClassId), gK D ca s := by
  have hg := lw_gw hts
  obtain ⟨c0, iS0, hK0⟩ := u_known (C := RX0) (T := TX0) (N := 1) (n := 1) hg ly_0 (hg _ tw_128)
  obtain ⟨c1, iS1, hK1⟩ := u_known (C := RX1) (T := TX1) (N := 10) (n := 10) hg ly_1 (hg _ tw_180)
  obtain ⟨c2, iS2, hK2⟩ := u_known (C := RX2) (T := TX2) (N := 5) (n := 5) hg ly_2 (hg _ tw_464)
  obtain ⟨c3, iS3, hK3⟩ := u_known (C := RX3) (T := TX3) (N := 2) (n := 2) hg ly_3 (hg _ tw_182)
  obtain ⟨c4, iS4, hK4⟩ := u_known (C := RX4) (T := TX4) (N := 2) (n := 2) hg ly_4 (hg _ tw_322)
  obtain ⟨c5, iS5, hK5⟩ := u_known (C := RX5) (T := TX5) (N := 4) (n := 4) hg ly_5 (hg _ tw_201)
  obtain ⟨c6, iS6, hK6⟩ := u_known (C := RX6) (T := TX6) (N := 2) (n := 2) hg ly_6 (hg _ tw_67)
  obtain ⟨c7, iS7, hK7⟩ := u_known (C := RX7) (T := TX7) (N := 4) (n := 4) hg ly_7 (hg _ tw_45)
  obtain ⟨c8, iS8, hK8⟩ := u_known (C := RX8) (T := TX8) (N := 2) (n := 2) hg ly_8 (hg _ tw_29)
  obtain ⟨c9, iS9, hK9⟩ := u_known (C := RX9) (T := TX9) (N := 12) (n := 12) hg ly_9 (hg _ tw_15)
  obtain ⟨c10, iS10, hK10⟩ := u_known (C := RX10) (T := TX10) (N := 33) (n := 33) hg ly_10 (hg _ tw_537)
  obtain ⟨a0, hA0⟩ := lw_ac (hg _ tw_43) (fun _ _ => rfl)
  obtain ⟨a1, hA1⟩ := lw_ac (hg _ tw_66) (fun _ _ => rfl)
  obtain ⟨a2, hA2⟩ := lw_ac (hg _ tw_642) (fun _ _ => rfl)
  obtain ⟨a3, hA3⟩ := lw_ao (C := "ScrapHouse$Ballot") (hts _ (lt_1 (List.mem_of_getElem? (i := 23) (by decide +kernel))))
  obtain ⟨a4, hA4⟩ := lw_ao (C := "ScrapHouse$Child") (hts _ (lt_1 (List.mem_of_getElem? (i := 25) (by decide +kernel))))
  obtain ⟨a5, hA5⟩ := lw_ao (C := "ScrapHouse$Nurse") (hts _ (lt_1 (List.mem_of_getElem? (i := 27) (by decide +kernel))))
  refine ⟨(fun k => if k = 0 then c0 else if k = 1 then c1 else if k = 2 then c2 else if k = 3 then c3 else if k = 4 then c4 else if k = 5 then c5 else if k = 6 then c6 else if k = 7 then c7 else if k = 8 then c8 else if k = 9 then c9 else c10, fun k => if k = 0 then iS0 else if k = 1 then iS1 else if k = 2 then iS2 else if k = 3 then iS3 else if k = 4 then iS4 else if k = 5 then iS5 else if k = 6 then iS6 else if k = 7 then iS7 else if k = 8 then iS8 else if k = 9 then iS9 else iS10), fun k => if k = 0 then a0 else if k = 1 then a1 else if k = 2 then a2 else if k = 3 then a3 else if k = 4 then a4 else a5, ⟨fun k q hq => ?_, fun k q hq => ?_⟩, lw_gN hts⟩
  · match k, hq with
    | 0, hq => cases hq; exact hK0
    | 1, hq => cases hq; exact hK1
    | 2, hq => cases hq; exact hK2
    | 3, hq => cases hq; exact hK3
    | 4, hq => cases hq; exact hK4
    | 5, hq => cases hq; exact hK5
    | 6, hq => cases hq; exact hK6
    | 7, hq => cases hq; exact hK7
    | 8, hq => cases hq; exact hK8
    | 9, hq => cases hq; exact hK9
    | 10, hq => cases hq; exact hK10
    | k + 11, hq => simp [vwCl] at hq
  · match k, hq with
    | 0, hq => cases hq; exact hA0
    | 1, hq => cases hq; exact hA1
    | 2, hq => cases hq; exact hA2
    | 3, hq => cases hq; exact hA3
    | 4, hq => cases hq; exact hA4
    | 5, hq => cases hq; exact hA5
    | k + 6, hq => simp [tysA] at hq
theorem lw_lets {b : Nat} {s : State} (hts : ∀ w ∈ lw_tbl, w.before #[Value.ref b] s = true) (hgv : (Jvm.Cond.and given_1 narrow_1).before #[Value.ref b] s = true) : lets (fun q => s.heap.size ≤ q) s := by
  have hs := flat_of_before _ hgv
  have hA : ∀ a : Nat, a < s.heap.size → ¬ (fun q : Nat => s.heap.size ≤ q) a := fun a h => Nat.not_le.mpr h
  obtain ⟨t, h1, h2⟩ := va_Tof (tm := .static "ScrapHouse$Reader" "LETTERS" "[C") (ty := .char) (N := 5) (f := fun j => .int (lF j)) (A := fun q => s.heap.size ≤ q) (by decide) (hs _ (by decide +kernel)) (va_eqt (z := 5) (hs _ (by decide +kernel))) (fun j hj => by
    match j, hj with
    | 0, _ => exact va_eqt (z := 111) (hs _ (by decide +kernel))
    | 1, _ => exact va_eqt (z := 102) (hs _ (by decide +kernel))
    | 2, _ => exact va_eqt (z := 119) (hs _ (by decide +kernel))
    | 3, _ => exact va_eqt (z := 99) (hs _ (by decide +kernel))
    | 4, _ => exact va_eqt (z := 100) (hs _ (by decide +kernel))
    | j + 5, hj => exact absurd hj (by omega)) hA
  exact ⟨t, va_Zof (hts _ (lt_1 (List.mem_of_getElem? (i := 51) (by decide +kernel)))) (lw_gw hts _ tw_3) h1 hA, h2⟩
