theorem mWh_gr (g : Nat → Nat → Int32) (pl : Nat → Int32) (c d q : Int32) : ∀ n, mWh (gr g 32 pl) c d q n = mWh g c d q n
  | 0 => rfl
  | n + 1 => by
    unfold mWh
    rw [mWh_gr g pl c d q n]
    rfl
theorem mOpen_gr (g : Nat → Nat → Int32) (pl : Nat → Int32) (nw nm : Nat) (a : Int32) : mOpen (gr g 32 pl) nw nm a = mOpen g nw nm a := by
  unfold mOpen
  rw [mWh_gr]
theorem mOffB_gr (g : Nat → Nat → Int32) (pl : Nat → Int32) (c : Nat) (e t : Int32) (b : Bool) : ∀ n, mOffB (gr g 32 pl) c e t b n = mOffB g c e t b n
  | 0 => rfl
  | n + 1 => by
    unfold mOffB
    rw [mOffB_gr g pl c e t b n]
    rfl
theorem mOff_gr (g : Nat → Nat → Int32) (pl : Nat → Int32) (c : Nat) (e t : Int32) : mOff (gr g 32 pl) c e t = mOff g c e t := by
  unfold mOff
  rw [mOffB_gr, mOffB_gr]
def mFct (s m : Int32) : Int32 := 1 + (if s = -1 then 0 else 1) + (if m = -1 then 0 else 1)
def mClr (g : Nat → Nat → Int32) (nw nm : Nat) (a3 a4 a5 a6 : Int32) : Nat → Nat
  | 0 => 0
  | c + 1 => mClr g nw nm a3 a4 a5 a6 c + (if mOpen g nw nm (nI c) = true ∧ mAgr g c a3 a4 a5 a6 = mFct a5 a6 then 1 else 0)
theorem mClr_le (g : Nat → Nat → Int32) (nw nm : Nat) (a3 a4 a5 a6 : Int32) : ∀ n, mClr g nw nm a3 a4 a5 a6 n ≤ n
  | 0 => Nat.le_refl _
  | n + 1 => by
    have := mClr_le g nw nm a3 a4 a5 a6 n
    unfold mClr
    split <;> omega
def mVs (g : Nat → Nat → Int32) (nw k c : Nat) (a1 a2 a3 a4 a5 a6 : Int32) : Nat → Int32 := vF (nI (mOff g c a1 a2)) (mAgr g c a3 a4 a5 a6) (mFct a5 a6 - mAgr g c a3 a4 a5 a6) (nI k) (nI nw - g 9 c)
def mFnd (g : Nat → Nat → Int32) (nw nm k : Nat) (L : List Int32) (a1 a2 a3 a4 a5 a6 : Int32) : Nat → Int32
  | 0 => -1
  | c + 1 => if mOpen g nw nm (nI c) = true ∧ rB (mVs g nw k c a1 a2 a3 a4 a5 a6) L = true then (if mFnd g nw nm k L a1 a2 a3 a4 a5 a6 c = -1 then nI c else -2) else mFnd g nw nm k L a1 a2 a3 a4 a5 a6 c
theorem mFnd_2 {g : Nat → Nat → Int32} {nw nm k : Nat} {L : List Int32} {a1 a2 a3 a4 a5 a6 : Int32} {i : Nat} (h : mFnd g nw nm k L a1 a2 a3 a4 a5 a6 i = -2) : ∀ d, mFnd g nw nm k L a1 a2 a3 a4 a5 a6 (i + d) = -2
  | 0 => h
  | d + 1 => by
    rw [show i + (d + 1) = i + d + 1 by omega, mFnd, mFnd_2 h d]
    split
    · rfl
    · rfl
def mClOK (a1 a2 a3 a4 a5 a6 : Int32) : Bool := isIn a1 0 16777215 && isIn a2 0 16777215 && isIn a3 0 2000 && isIn a4 a3 2000 && isIn a5 (-1) 1 && isIn a6 (-1) 9
def mClaim (v : Nat → Int32) (g : Nat → Nat → Int32) (nw nc nm : Nat) (L : List Int32) (a1 a2 a3 a4 a5 a6 : Int32) : Int32 := if mClOK a1 a2 a3 a4 a5 a6 = true then (if v 5 = 0 then -1 else mFnd g nw nm (mClr g nw nm a3 a4 a5 a6 nc) L a1 a2 a3 a4 a5 a6 nc) else -3
