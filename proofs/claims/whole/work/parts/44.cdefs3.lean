def luN (d : Int32) : List MV → Nat
  | [] => 0
  | b :: r => if d < b.2.1 then 0 else luN d r + 1
theorem isIn_nI {a b c : Nat} (ha : a < 2 ^ 31) (hb : b < 2 ^ 31) (hc : c < 2 ^ 31) : isIn (nI a) (nI b) (nI c) = true ↔ b ≤ a ∧ a ≤ c := by
  simp only [isIn, Bool.and_eq_true, Bool.not_eq_true', decide_eq_false_iff_not, nI_ltI ha hb, nI_ltI hc ha]
  omega

theorem dwn_le {a b : Nat} {l : List Nat} (h : a ≤ b) (hd : dwn a l) : dwn b l := by
  cases l with
  | nil => trivial
  | cons d r => exact ⟨Nat.lt_of_lt_of_le hd.1 h, hd.2⟩
