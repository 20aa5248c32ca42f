def mDaysW (v : Nat → Int32) (g : Nat → Nat → Int32) (nw : Nat) (a : Int32) : MS := if (isIn a 0 1000 && decide (nI nw + a ≤ 2000)) = true then (nI nw + a, upd v 0 (nI nw + a), g) else (-1, v, g)
def mAwayW (v : Nat → Int32) (g : Nat → Nat → Int32) (nb : Nat) (a i : Int32) : MS := if (mWom g nb a i && decide (g 7 (20 * a.toNatClampNeg + i.toNatClampNeg) = 0)) = true then
  (let g1 := upd2 g 7 (20 * a.toNatClampNeg + i.toNatClampNeg) 3
   let n := (g 6 a.toNatClampNeg).toNatClampNeg
   let f := firstB (fun k => decide (g1 7 (20 * a.toNatClampNeg + k) = 1)) n
   if f < n then (nI f, v, upd2 g1 7 (20 * a.toNatClampNeg + f) 0) else (-1, v, g1)) else (-2, v, g)
def mLeaveOK (g : Nat → Nat → Int32) (nb nc : Nat) (a i s m e t : Int32) : Bool := mWom g nb a i && decide (g 7 (20 * a.toNatClampNeg + i.toNatClampNeg) = 0) && isIn s 0 1 && isIn m 0 9 && isIn e 0 16777215 && isIn t 0 16777215 && !(decide (nc = 60))
def mLeaveW (v : Nat → Int32) (g : Nat → Nat → Int32) (nw nb nc : Nat) (a i s m e t : Int32) : MS := if mLeaveOK g nb nc a i s m e t = true then
  (nI nc, upd v 2 (nI (nc + 1)), upd2 (upd2 (upd2 (upd2 (upd2 (upd2 (upd2 (upd2 g 7 (20 * a.toNatClampNeg + i.toNatClampNeg) 4) 9 nc (nI nw)) 10 nc s) 11 nc m) 12 nc e) 13 nc t) 14 nc a) 15 nc i) else (-1, v, g)
def mBedsW (v : Nat → Int32) (g : Nat → Nat → Int32) (nw nc nm : Nat) (a b : Int32) : MS := if (isIn a 1 12 && isIn b 1 3 && !(mOver g nw nc nm a 0 b)) = true then (1, v, upd2 g 22 a.toNatClampNeg b) else (0, v, g)
def mMoveOK (g : Nat → Nat → Int32) (nw nc nm : Nat) (a pl fr : Int32) : Bool := isIn a 0 (nI nc - 1) && isIn pl 0 15 && isIn fr (g 9 a.toNatClampNeg) (nI nw) && !(decide (nm = 300)) && !(decide ((mWh g a fr (nI nw) nm).1 = 14)) && !(decide ((mWh g a fr (nI nw) nm).1 = 15))
def mMoveG (g : Nat → Nat → Int32) (nw nm : Nat) (a pl fr : Int32) : Nat → Nat → Int32 := upd2 (upd2 (upd2 (upd2 g 18 nm a) 19 nm pl) 20 nm fr) 21 nm (nI nw)
def mMoveW (v : Nat → Int32) (g : Nat → Nat → Int32) (nw nc nm : Nat) (a pl fr : Int32) : MS := if mMoveOK g nw nc nm a pl fr = true then
  (if (isIn pl 1 12 && mOver (mMoveG g nw nm a pl fr) nw nc (nm + 1) pl fr.toNatClampNeg (g 22 pl.toNatClampNeg)) = true then (0, v, mMoveG g nw nm a pl fr) else (1, upd v 3 (nI (nm + 1)), mMoveG g nw nm a pl fr)) else (0, v, g)
def mLookW (v : Nat → Int32) (g : Nat → Nat → Int32) (nw : Nat) (a : Int32) : MS := if (isIn a 1 12 && decide (g 23 (2001 * a.toNatClampNeg + nw) = 0)) = true then (1, upd v 4 (v 4 + 1), upd2 g 23 (2001 * a.toNatClampNeg + nw) 1) else (0, v, g)
def mByte (a : Int32) (k : Nat) : Int32 := (a >>> (8 * nI k &&& 31)) &&& 255
def mFc (a : Int32) : Nat → Nat
  | 0 => 0
  | k + 1 => mFc a k + (if mByte a k = 0 then 0 else 1)
def mFs (a : Int32) : Nat → Nat
  | 0 => 0
  | t + 1 => mFs a t + (if mByte a (3 - t) = 0 then 0 else 1)
theorem mFs_le (a : Int32) : ∀ t, mFs a t ≤ t
  | 0 => Nat.le_refl _
  | t + 1 => by
    have := mFs_le a t
    unfold mFs
    split <;> omega
theorem mFs_mono (a : Int32) {t : Nat} (h : t ≤ 4) : mFs a t ≤ mFs a 4 := by
  have h1 : mFs a 1 ≤ mFs a 2 := by rw [show mFs a 2 = mFs a 1 + (if mByte a (3 - 1) = 0 then 0 else 1) from rfl]; omega
  have h2 : mFs a 2 ≤ mFs a 3 := by rw [show mFs a 3 = mFs a 2 + (if mByte a (3 - 2) = 0 then 0 else 1) from rfl]; omega
  have h3 : mFs a 3 ≤ mFs a 4 := by rw [show mFs a 4 = mFs a 3 + (if mByte a (3 - 3) = 0 then 0 else 1) from rfl]; omega
  have h0 : mFs a 0 ≤ mFs a 1 := Nat.zero_le _
  rcases (show t = 0 ∨ t = 1 ∨ t = 2 ∨ t = 3 ∨ t = 4 by omega) with rfl | rfl | rfl | rfl | rfl <;> omega
theorem mFs_Fc (a : Int32) : mFs a 4 = mFc a 4 := by
  simp only [mFs, mFc, Nat.zero_add]
  simp only [show 3 - 0 = 3 from rfl, show 3 - 1 = 2 from rfl, show 3 - 2 = 1 from rfl, show 3 - 3 = 0 from rfl]
  omega
def mFg (g : Nat → Nat → Int32) (sz : Nat) (a : Int32) : Nat → Nat → Nat → Int32
  | 0 => g
  | t + 1 => if mByte a (3 - t) = 0 then mFg g sz a t else upd2 (mFg g sz a t) 24 (sz + mFs a t) (mByte a (3 - t))
def mFeedW (v : Nat → Int32) (g : Nat → Nat → Int32) (sz : Nat) (a : Int32) : MS := if sz + mFc a 4 ≤ 100 then (nI (sz + mFs a 4), upd v 27 (nI (sz + mFs a 4)), mFg g sz a 4) else (-1, v, g)
def fdn (t : Nat) : Int32 := if t < 4 then nI (3 - t) else -1
theorem fdn_lt {t : Nat} (h : t ≤ 4) (c : fdn t < 0) : t = 4 := by
  rcases (show t = 0 ∨ t = 1 ∨ t = 2 ∨ t = 3 ∨ t = 4 by omega) with rfl | rfl | rfl | rfl | rfl
  · exact absurd c (by decide)
  · exact absurd c (by decide)
  · exact absurd c (by decide)
  · exact absurd c (by decide)
  · rfl
theorem fdn_ge {t : Nat} (h : t ≤ 4) (c : ¬ fdn t < 0) : t < 4 ∧ fdn t = nI (3 - t) := by
  have : t ≠ 4 := fun e => c (by rw [e]; decide)
  have ht : t < 4 := by omega
  exact ⟨ht, by simp [fdn, ht]⟩
theorem fdn_next {t : Nat} (h : t < 4) : nI (3 - t) + (-1) = fdn (t + 1) := by
  rcases (show t = 0 ∨ t = 1 ∨ t = 2 ∨ t = 3 by omega) with rfl | rfl | rfl | rfl <;> decide
def mEndW (v : Nat → Int32) (g : Nat → Nat → Int32) (a : Int32) : MS := if isIn a 0 (v 27) = true then (1, upd v 27 a, g) else (0, v, g)
def mNameW (v : Nat → Int32) (g : Nat → Nat → Int32) (nc : Nat) (a b : Int32) : MS := if (isIn a 0 (nI nc - 1) && isIn b 1 1000000 && decide (g 16 a.toNatClampNeg = 0)) = true then (1, v, upd2 g 16 a.toNatClampNeg b) else (0, v, g)
def mAllowW (v : Nat → Int32) (g : Nat → Nat → Int32) (nc : Nat) (a1 a2 : Int32) (tb : Bool) : MS := if (mBoth nc a1 a2 && !(decide (g 17 (20 * a2.toNatClampNeg + a1.toNatClampNeg) = bB tb))) = true then (1, v, upd2 g 17 (20 * a2.toNatClampNeg + a1.toNatClampNeg) (bB tb)) else (0, v, g)
