/-- the first n of a row of truths: is one of them so -/
def anyB (q : Nat → Bool) : Nat → Bool
  | 0 => false
  | n + 1 => anyB q n || q n
theorem anyB_iff {q : Nat → Bool} : ∀ {n : Nat}, anyB q n = true ↔ ∃ i, i < n ∧ q i = true
  | 0 => by simp [anyB]
  | n + 1 => by
    rw [anyB, Bool.or_eq_true, anyB_iff (n := n)]
    constructor
    · rintro (⟨i, h1, h2⟩ | h)
      · exact ⟨i, by omega, h2⟩
      · exact ⟨n, by omega, h⟩
    · rintro ⟨i, h1, h2⟩
      by_cases h : i = n
      · subst h; exact Or.inr h2
      · exact Or.inl ⟨i, by omega, h2⟩
/-- the reference's numbers: the day, ballots, children, moves -/
def mOK (v : Nat → Int32) (nw nb nc nm : Nat) : Prop := v 0 = nI nw ∧ v 1 = nI nb ∧ v 2 = nI nc ∧ v 3 = nI nm ∧ nw ≤ 2000 ∧ nb ≤ 50 ∧ nc ≤ 60 ∧ nm ≤ 300
/-- where: place and day of the best of the first n moves -/
def mWh (g : Nat → Nat → Int32) (c d q : Int32) : Nat → Int32 × Int32
  | 0 => (0, -1)
  | n + 1 => if g 18 n = c ∧ ¬ q < g 21 n ∧ ¬ d < g 20 n ∧ ¬ g 20 n < (mWh g c d q n).2 then (g 19 n, g 20 n) else mWh g c d q n
def mThere (g : Nat → Nat → Int32) (c : Nat) (d q : Int32) : Bool := !(decide (d < g 9 c)) && !(decide (q < g 9 c))
/-- how many of the first n children are at a place -/
def mMany (g : Nat → Nat → Int32) (nm : Nat) (pl d q : Int32) : Nat → Nat
  | 0 => 0
  | n + 1 => mMany g nm pl d q n + (if mThere g n d q = true ∧ (mWh g (nI n) d q nm).1 = pl then 1 else 0)
theorem mMany_le (g : Nat → Nat → Int32) (nm : Nat) (pl d q : Int32) : ∀ n, mMany g nm pl d q n ≤ n
  | 0 => Nat.le_refl _
  | n + 1 => by
    have := mMany_le g nm pl d q n
    unfold mMany
    split <;> omega
def mChg (g : Nat → Nat → Int32) (nc nm : Nat) (d : Int32) : Bool := anyB (fun m => decide (g 20 m = d)) nm || anyB (fun c => decide (g 9 c = d)) nc

theorem anyB_at {q : Nat → Bool} {i n : Nat} (h : i < n) (hq : q i = true) : anyB q n = true := anyB_iff.mpr ⟨i, h, hq⟩
/-- on day f + k, a day of change or the first: are more there than so many -/
def mOvK (g : Nat → Nat → Int32) (nw nc nm : Nat) (pl : Int32) (f : Nat) (many : Int32) (k : Nat) : Bool := (decide (k = 0) || mChg g nc nm (nI (f + k))) && decide (many < nI (mMany g nm pl (nI (f + k)) (nI nw) nc))
theorem mOvK_f {g : Nat → Nat → Int32} {nw nc nm : Nat} {pl : Int32} {f : Nat} {many : Int32} {k : Nat} (h : nI (mMany g nm pl (nI (f + k)) (nI nw) nc) ≤ many) : mOvK g nw nc nm pl f many k = false := by
  have : ¬ many < nI (mMany g nm pl (nI (f + k)) (nI nw) nc) := Int32.not_lt.mpr h
  simp [mOvK, this]
theorem mOvK_n {g : Nat → Nat → Int32} {nw nc nm : Nat} {pl : Int32} {f : Nat} {many : Int32} {k : Nat} (h0 : ¬ k = 0) (h : mChg g nc nm (nI (f + k)) = false) : mOvK g nw nc nm pl f many k = false := by simp [mOvK, h0, h]
theorem mOvK_t {g : Nat → Nat → Int32} {nw nc nm : Nat} {pl : Int32} {f : Nat} {many : Int32} {k : Nat} (h0 : k = 0 ∨ mChg g nc nm (nI (f + k)) = true) (h : ¬ nI (mMany g nm pl (nI (f + k)) (nI nw) nc) ≤ many) : mOvK g nw nc nm pl f many k = true := by
  have : many < nI (mMany g nm pl (nI (f + k)) (nI nw) nc) := Int32.not_le.mp h
  simp only [mOvK, Bool.and_eq_true, Bool.or_eq_true, decide_eq_true_eq]
  exact ⟨h0, this⟩
def mOver (g : Nat → Nat → Int32) (nw nc nm : Nat) (pl : Int32) (f : Nat) (many : Int32) : Bool := anyB (mOvK g nw nc nm pl f many) (nw + 1 - f)
def mPlace (g : Nat → Nat → Int32) (nw nc nm : Nat) (a d q : Int32) : Int32 := if (isIn a 0 (nI nc - 1) && (isIn d 0 (nI nw) && isIn q 0 (nI nw)) && mThere g a.toNatClampNeg d q) = true then (mWh g a d q nm).1 else -1
