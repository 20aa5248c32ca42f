abbrev hsC (ad : Nat → Nat → Nat) : va_E := .inr (9, [.int 0, .int 0, .int 0, .int 0, .int 0, .int 0, .ref (ad 1 0), .ref (ad 2 0), .ref (ad 3 0), .ref (ad 11 0), .ref (ad 11 1), .ref (ad 13 0)])
/-- a new house, with so many nurses made -/
def wI (ca : Nat → ClassId) (cnt : Nat → Nat) (ad : Nat → Nat → Nat) (ct : Nat → Nat → va_E) (f : Nat → Option Nat) (z : Nat) : Prop :=
  (cnt 0 = 1 ∧ cnt 1 = 1 ∧ cnt 2 = 1 ∧ cnt 3 = 1 ∧ cnt 4 = 0 ∧ cnt 5 = 0 ∧ cnt 6 = 0 ∧ cnt 7 = 0 ∧ cnt 9 = z ∧ cnt 11 = 2 ∧ cnt 12 = 2 ∧ cnt 13 = 1 ∧ cnt 14 = 1) ∧ ct 0 0 = hsC ad ∧ ct 1 0 = .inl (ca 3, 50, aQ (fun _ => none)) ∧ ct 2 0 = .inl (ca 4, 60, aQ (fun _ => none)) ∧ ct 3 0 = .inl (ca 5, 13, aQ f) ∧ (∀ i, i < z → f (i + 1) = some (ad 9 i) ∧ ct 9 i = .inr (6, [.int 2, .null]))
  ∧ ct 11 0 = .inr (8, [.ref (ad 12 0), .int 0]) ∧ ct 11 1 = .inr (8, [.ref (ad 12 1), .int 0]) ∧ ct 12 0 = .inl (ca 0, 100, .inl (fun _ => 0)) ∧ ct 12 1 = .inl (ca 0, 100, .inl (fun _ => 0)) ∧ ct 13 0 = .inr (7, [.ref (ad 14 0), .ref (ad 11 1), .int 0, .int 0]) ∧ ct 14 0 = .inl (ca 1, 5, .inl (fun _ => 0))
theorem wI_step {ca : Nat → ClassId} {cnt cnt' : Nat → Nat} {ad ad' : Nat → Nat → Nat} {ct ct' : Nat → Nat → va_E} {f : Nat → Option Nat} {z : Nat} (h : wI ca cnt ad ct f z) (hc : ∀ k, k ≠ 9 → cnt' k = cnt k) (h9 : cnt' 9 = z + 1) (had : ∀ k i, i < cnt k → ad k i = ad' k i) (hct : ∀ k i, i < cnt k → k ≠ 3 → ct' k i = ct k i) (h3 : ct' 3 0 = .inl (ca 5, 13, aQ (va_up f (z + 1) (some (ad' 9 z))))) (hn : ct' 9 z = .inr (6, [.int 2, .null])) : wI ca cnt' ad' ct' (va_up f (z + 1) (some (ad' 9 z))) (z + 1) := by
  obtain ⟨⟨c0, c1, c2, c3, c4, c5, c6, c7, c9, c11, c12, c13, c14⟩, q0, q1, q2, q3, q9, q11, q11b, q12, q12b, q13, q14⟩ := h
  refine ⟨⟨by rw [hc 0 (by decide)]; exact c0, by rw [hc 1 (by decide)]; exact c1, by rw [hc 2 (by decide)]; exact c2, by rw [hc 3 (by decide)]; exact c3, by rw [hc 4 (by decide)]; exact c4, by rw [hc 5 (by decide)]; exact c5, by rw [hc 6 (by decide)]; exact c6, by rw [hc 7 (by decide)]; exact c7, h9, by rw [hc 11 (by decide)]; exact c11, by rw [hc 12 (by decide)]; exact c12, by rw [hc 13 (by decide)]; exact c13, by rw [hc 14 (by decide)]; exact c14⟩, ?_, ?_, ?_, h3, fun i hi => ?_, ?_, ?_, ?_, ?_, ?_, ?_⟩
  · rw [hct 0 0 (by omega) (by decide), q0, hsC, hsC, had 1 0 (by omega), had 2 0 (by omega), had 3 0 (by omega), had 11 0 (by omega), had 11 1 (by omega), had 13 0 (by omega)]
  · rw [hct 1 0 (by omega) (by decide)]; exact q1
  · rw [hct 2 0 (by omega) (by decide)]; exact q2
  · by_cases e : i = z
    · subst e; exact ⟨va_up_self _ _ _, hn⟩
    · obtain ⟨y1, y2⟩ := q9 i (by omega)
      exact ⟨by rw [va_up_ne _ _ (by omega), ← had 9 i (by omega)]; exact y1, by rw [hct 9 i (by omega) (by decide)]; exact y2⟩
  · rw [hct 11 0 (by omega) (by decide), q11, had 12 0 (by omega)]
  · rw [hct 11 1 (by omega) (by decide), q11b, had 12 1 (by omega)]
  · rw [hct 12 0 (by omega) (by decide)]; exact q12
  · rw [hct 12 1 (by omega) (by decide)]; exact q12b
  · rw [hct 13 0 (by omega) (by decide), q13, had 14 0 (by omega), had 11 1 (by omega)]
  · rw [hct 14 0 (by omega) (by decide)]; exact q14
def v0 : Nat → Int32 := fun _ => 0
def g0 : Nat → Nat → Int32 := fun k i => if k = 22 ∧ 1 ≤ i ∧ i < 13 then 2 else 0
theorem cRep_0 {ca : Nat → ClassId} {cnt : Nat → Nat} {ad : Nat → Nat → Nat} {ct : Nat → Nat → va_E} {f : Nat → Option Nat} (h : wI ca cnt ad ct f 12) : cRep ca cnt ad ct v0 g0 0 0 0 0 := by
  obtain ⟨⟨c0, c1, c2, c3, c4, c5, c6, c7, c9, c11, c12, c13, c14⟩, q0, q1, q2, q3, q9, q11, q11b, q12, q12b, q13, q14⟩ := h
  refine ⟨⟨rfl, rfl, rfl, rfl, by omega, by omega, by omega, by omega⟩, ⟨fun c hc => absurd hc (Nat.not_lt_zero _), fun m hm => absurd hm (Nat.not_lt_zero _)⟩, 0, by omega, ⟨by omega, by omega, by omega, by omega, q0⟩, ?_, ⟨c4, c5, _, q1, fun b hb => absurd hb (Nat.not_lt_zero _)⟩, ⟨c6, c7, _, fun _ => (0, 0, 0), fun _ => 0, fun _ => [], fun _ => 0, q2, fun c hc => absurd hc (Nat.not_lt_zero _)⟩, ⟨c9, f, fun _ => none, q3, fun i hi => ⟨(q9 i hi).1, ?_, [], rfl, trivial, fun d hd => ?_⟩⟩⟩
  · exact ⟨by omega, by omega, by omega, by omega, 0, 0, 0, 1, fun _ => 0, fun _ => 0, fun _ => 0, 0, 0, rfl, by omega, by omega, rfl, by omega, q11, q11b, q12, q12b, q13, q14, fun j hj => absurd hj (Nat.not_lt_zero _), ⟨fun _ => rfl, fun q => absurd rfl q⟩⟩
  · rw [(q9 i hi).2]
    have : g0 22 (i + 1) = 2 := if_pos ⟨rfl, by omega, by omega⟩
    rw [this]
    rfl
  · have : g0 23 (2001 * (i + 1) + d) = 0 := if_neg (fun q => by omega)
    simp [this]
