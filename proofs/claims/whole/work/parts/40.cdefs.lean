/-! ===== the class: what its cells say of the reference's numbers ===== -/
/-- a chain of moves: the cells of kind 8 that ix names, each leading on to the next -/
def chn (cnt : Nat → Nat) (ad : Nat → Nat → Nat) (ct : Nat → Nat → va_E) (dt : Nat → MV) (ix : List Nat) : Prop := ∀ p i, ix[p]? = some i → i < cnt 8 ∧ ct 8 i = .inr (5, [.int (dt i).1, .int (dt i).2.1, .int (dt i).2.2, va_rf (Option.map (ad 8) (ix[p + 1]?))])
theorem drop_some {dt : Nat → MV} {ix : List Nat} {p i : Nat} (h : ix[p]? = some i) : (ix.map dt).drop p = dt i :: (ix.map dt).drop (p + 1) := by
  have hl := (List.getElem?_eq_some_iff.mp h).1
  have he := (List.getElem?_eq_some_iff.mp h).2
  rw [List.drop_eq_getElem_cons (by simpa using hl)]
  simp [he]
theorem drop_none {dt : Nat → MV} {ix : List Nat} {p : Nat} (h : ix[p]? = none) : (ix.map dt).drop p = [] := by
  have := List.getElem?_eq_none_iff.mp h
  simp [this]
theorem len_some {ix : List Nat} {p i : Nat} (h : ix[p]? = some i) : p < ix.length := (List.getElem?_eq_some_iff.mp h).1
