def mLn (g : Nat → Nat → Int32) : Nat → Nat → Nat → Int32
  | 0 => g
  | i + 1 => upd2 (mLn g i) 8 i (nI i)
/-- the high bits of a draw -/
def mHi (x : Int64) : Nat := x.toBitVec.toNat / 2 ^ 33
theorem mHi_lt (x : Int64) : mHi x < 2 ^ 31 := by
  have := x.toBitVec.isLt
  unfold mHi
  omega
theorem mHi_val (x : Int64) : (x.toUInt64 >>> ((33 : Int32).toInt64.toUInt64 &&& Int64.toUInt64 63)).toInt64 = lN (mHi x) := by
  have e : ((33 : Int32).toInt64.toUInt64 &&& Int64.toUInt64 63) = 33 := by decide
  rw [e]
  apply Int64.toBitVec_inj.mp
  have h1 : (x.toUInt64 >>> 33).toInt64.toBitVec = x.toBitVec >>> 33 := rfl
  have h2 : (lN (mHi x)).toBitVec = BitVec.ofNat 64 (mHi x) := rfl
  rw [h1, h2]
  apply BitVec.eq_of_toNat_eq
  have h3 := mHi_lt x
  rw [BitVec.toNat_ushiftRight, BitVec.toNat_ofNat, Nat.shiftRight_eq_div_pow, Nat.mod_eq_of_lt (by omega)]
  rfl
def mK (x : Int64) (m : Nat) : Nat := mHi x % m
def mNx (x : Int64) : Int64 := x * 6364136223846793005 + 1442695040888963407
theorem mNx_eq (x : Int64) : ((x * 6364136223846793005) + 1442695040888963407) = mNx x := rfl
def mShf (g : Nat → Nat → Int32) (k : Nat) : Nat → Nat → Nat → Int32
  | 0 => g
  | i + 1 => upd2 (mShf g k i) 8 (k + i) (mShf g k i 8 (k + i + 1))
def mColr (w r : Nat) (b : Int32) : Int32 := if nI w ≤ b then (if nI w + nI r ≤ b then 2 else 1) else 0
def mBl (g : Nat → Nat → Int32) (nb n w2 r3 : Nat) (x0 : Int64) : Nat → Int64 × (Nat → Nat → Int32)
  | 0 => (x0, mLn g n)
  | w + 1 => (mNx (mBl g nb n w2 r3 x0 w).1, upd2 (mShf (mBl g nb n w2 r3 x0 w).2 (mK (mNx (mBl g nb n w2 r3 x0 w).1) (n - w)) (n - w - 1 - mK (mNx (mBl g nb n w2 r3 x0 w).1) (n - w))) 7 (20 * nb + w) (mColr w2 r3 ((mBl g nb n w2 r3 x0 w).2 8 (mK (mNx (mBl g nb n w2 r3 x0 w).1) (n - w)))))
def mBalOK (nb : Nat) (a1 a2 a3 : Int32) : Bool := isIn a1 1 20 && isIn a2 0 a1 && isIn a3 0 (a1 - a2) && !(decide (nb = 50))
def mBallotW (v : Nat → Int32) (g : Nat → Nat → Int32) (nb : Nat) (a1 a2 a3 : Int32) (x0 : Int64) : MS := if mBalOK nb a1 a2 a3 = true then (nI nb, upd v 1 (nI (nb + 1)), upd2 (mBl g nb a1.toNatClampNeg a2.toNatClampNeg a3.toNatClampNeg x0 a1.toNatClampNeg).2 6 nb a1) else (-1, v, g)
theorem lN_ne0 {n : Nat} (h0 : 0 < n) (h : n < 2 ^ 31) : ¬ lN n = 0 := fun q => by
  have := (lN_eq (a := n) (b := 0) h (by decide)).mp q
  omega
