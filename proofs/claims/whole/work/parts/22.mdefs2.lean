def mTop (w q : Nat) : Nat := min q (7 * w + 6) + 1 - 7 * w
def mSeen (g : Nat → Nat → Int32) (n w q : Nat) : Bool := anyB (fun k => !(decide (g 23 (2001 * n + (7 * w + k)) = 0))) (mTop w q)
def mSame (g : Nat → Nat → Int32) (nc nm n w q : Nat) : Nat → Nat
  | 0 => 0
  | j + 1 => if j = 0 ∨ mChg g nc nm (nI (7 * w + j)) = true then mMany g nm (nI n) (nI (7 * w + j)) (nI q) nc else mSame g nc nm n w q j
def mWk (g : Nat → Nat → Int32) (nc nm n w q : Nat) : Nat → Nat
  | 0 => 0
  | j + 1 => mWk g nc nm n w q j + mSame g nc nm n w q (j + 1)
def mDw (g : Nat → Nat → Int32) (nc nm n f q : Nat) (seen : Bool) : Nat → Nat
  | 0 => 0
  | k + 1 => mDw g nc nm n f q seen k + (if mSeen g n (f + k) q = seen then mWk g nc nm n (f + k) q (mTop (f + k) q) else 0)
def mDays (g : Nat → Nat → Int32) (nc nm n f l q : Nat) (seen : Bool) : Nat := mDw g nc nm n f q seen (min l (q / 7) + 1 - f)
def mPayOK (nw : Nat) (a1 a2 a3 a4 : Int32) : Bool := isIn a1 1 12 && isIn a2 0 300 && isIn a3 a2 300 && isIn a4 0 (nI nw)
def mPay (g : Nat → Nat → Int32) (nw nc nm : Nat) (a1 a2 a3 a4 : Int32) : Int32 := if mPayOK nw a1 a2 a3 a4 = true then 2 * nI (mDays g nc nm a1.toNatClampNeg a2.toNatClampNeg a3.toNatClampNeg a4.toNatClampNeg true) else -1
def mGap (g : Nat → Nat → Int32) (nw nc nm : Nat) (a1 a2 a3 a4 : Int32) : Int32 := if mPayOK nw a1 a2 a3 a4 = true then nI (mDays g nc nm a1.toNatClampNeg a2.toNatClampNeg a3.toNatClampNeg a4.toNatClampNeg false) else -1
theorem mPayOK_nat {nw : Nat} {a1 a2 a3 a4 : Int32} (hw : nw ≤ 2000) (h : mPayOK nw a1 a2 a3 a4 = true) : ∃ n f l q : Nat, 1 ≤ n ∧ n ≤ 12 ∧ f ≤ l ∧ l ≤ 300 ∧ q ≤ nw ∧ a1 = nI n ∧ a2 = nI f ∧ a3 = nI l ∧ a4 = nI q := by
  simp only [mPayOK, Bool.and_eq_true] at h
  obtain ⟨⟨⟨h1, h2⟩, h3⟩, h4⟩ := h
  obtain ⟨n, g1, g2, rfl⟩ := isIn_rng (lo := 1) (hi := 12) (by decide) (by decide) h1
  obtain ⟨f, g3, g4, rfl⟩ := isIn_rng (lo := 0) (hi := 300) (by decide) (by decide) h2
  obtain ⟨l, g5, g6, rfl⟩ := isIn_rng (lo := f) (hi := 300) (by omega) (by decide) h3
  obtain ⟨q, g7, rfl⟩ := isIn_le (by omega) h4
  exact ⟨n, f, l, q, g1, g2, g5, g6, g7, rfl, rfl, rfl, rfl⟩
def mTh (x k : Int32) : Int32 := (x >>> (3 * k &&& 31)) &&& 7
def mGood (g : Nat → Nat → Int32) (c : Nat) (e t : Int32) (tb : Bool) (k : Nat) : Bool := decide (mTh (g 12 c) (nI k) + mTh e (nI (if tb = true then 7 - k else k)) = 7) && decide (mTh (g 13 c) (nI k) = mTh t (nI (if tb = true then 7 - k else k)))
def mOffB (g : Nat → Nat → Int32) (c : Nat) (e t : Int32) (tb : Bool) : Nat → Nat
  | 0 => 0
  | k + 1 => mOffB g c e t tb k + (if mGood g c e t tb k = true then 0 else 1)
theorem mOffB_le (g : Nat → Nat → Int32) (c : Nat) (e t : Int32) (tb : Bool) : ∀ n, mOffB g c e t tb n ≤ n
  | 0 => Nat.le_refl _
  | n + 1 => by
    have := mOffB_le g c e t tb n
    unfold mOffB
    split <;> omega
def mOff (g : Nat → Nat → Int32) (c : Nat) (e t : Int32) : Nat := min (mOffB g c e t false 8) (mOffB g c e t true 8)
def mOffP (g : Nat → Nat → Int32) (nc : Nat) (a e t : Int32) : Int32 := if (isIn a 0 (nI nc - 1) && isIn e 0 16777215 && isIn t 0 16777215) = true then nI (mOff g a.toNatClampNeg e t) else -1
def mWom (g : Nat → Nat → Int32) (nb : Nat) (a i : Int32) : Bool := isIn a 0 (nI nb - 1) && isIn i 0 (g 6 a.toNatClampNeg - 1)
def mWO (g : Nat → Nat → Int32) (nb : Nat) : Prop := ∀ b, b < nb → ∃ n, n ≤ 20 ∧ g 6 b = nI n
theorem mWom_nat {g : Nat → Nat → Int32} {nb : Nat} {a i : Int32} (hb : nb ≤ 50) (hW : mWO g nb) (h : mWom g nb a i = true) : ∃ b j n : Nat, b < nb ∧ j < n ∧ n ≤ 20 ∧ g 6 b = nI n ∧ a = nI b ∧ i = nI j := by
  simp only [mWom, Bool.and_eq_true] at h
  obtain ⟨b, hb1, rfl⟩ := isIn_nat (by omega) h.1
  obtain ⟨n, hn, e⟩ := hW b hb1
  have h2 := h.2
  rw [nI_clamp (by omega), e] at h2
  obtain ⟨j, hj, rfl⟩ := isIn_nat (by omega) h2
  exact ⟨b, j, n, hb1, hj, hn, e, rfl, rfl⟩
def mBall (g : Nat → Nat → Int32) (nb : Nat) (a i : Int32) : Int32 := if mWom g nb a i = true then g 7 (20 * a.toNatClampNeg + i.toNatClampNeg) else -1
def mOpen (g : Nat → Nat → Int32) (nw nm : Nat) (c : Int32) : Bool := !(decide ((mWh g c (nI nw) (nI nw) nm).1 = 14)) && !(decide ((mWh g c (nI nw) (nI nw) nm).1 = 15))
def mAgr (g : Nat → Nat → Int32) (c : Nat) (a2 a3 a4 a5 : Int32) : Int32 := bB (isIn (g 9 c) a2 a3) + bB (decide (a4 = g 10 c)) + bB (decide (a5 = g 11 c))
def mBoth (nc : Nat) (a1 a2 : Int32) : Bool := isIn a1 0 19 && isIn a2 0 (nI nc - 1)
theorem mBoth_nat {nc : Nat} {a1 a2 : Int32} (hc : nc ≤ 60) (h : mBoth nc a1 a2 = true) : ∃ w j : Nat, w ≤ 19 ∧ j < nc ∧ a1 = nI w ∧ a2 = nI j := by
  simp only [mBoth, Bool.and_eq_true] at h
  obtain ⟨w, g3, g4, rfl⟩ := isIn_rng (lo := 0) (hi := 19) (by decide) (by decide) h.1
  obtain ⟨j, hj, rfl⟩ := isIn_nat (by omega) h.2
  exact ⟨w, j, g4, hj, rfl, rfl⟩
def mAsk (g : Nat → Nat → Int32) (nc : Nat) (a1 a2 : Int32) : Int32 := if mBoth nc a1 a2 = true then (if g 17 (20 * a2.toNatClampNeg + a1.toNatClampNeg) = 0 then 0 else g 16 a2.toNatClampNeg) else -1
def mGuess (g : Nat → Nat → Int32) (nc : Nat) (a1 a2 a3 : Int32) : Int32 := if (mBoth nc a1 a2 && isIn a3 1 1000000) = true then bB (!(decide (g 17 (20 * a2.toNatClampNeg + a1.toNatClampNeg) = 0)) && decide (g 16 a2.toNatClampNeg = a3)) else -1
def mCnt (g : Nat → Nat → Int32) (c : Int32) : Nat → Nat
  | 0 => 0
  | k + 1 => mCnt g c k + (if g 18 k = c then 1 else 0)
def mTold (g : Nat → Nat → Int32) (nc nm : Nat) (a w : Int32) : Int32 := if isIn a 0 (nI nc - 1) = true then (if w = 0 then g 9 a.toNatClampNeg else if w = 1 then g 10 a.toNatClampNeg else if w = 2 then g 11 a.toNatClampNeg else if w = 3 then g 12 a.toNatClampNeg else if w = 4 then g 13 a.toNatClampNeg else if w = 5 then g 14 a.toNatClampNeg else if w = 6 then g 15 a.toNatClampNeg else if w = 7 then nI (mCnt g a nm) else -1) else -1
def mCount (v : Nat → Int32) (g : Nat → Nat → Int32) (nw nb nc nm : Nat) (w : Int32) : Int32 := if w = 0 then nI nw else if w = 1 then nI nc else if w = 2 then nI nb else if w = 3 then nI nm else if w = 4 then v 4 else if w = 5 then v 27 else if w = 6 then v 5 else if w = 7 then nI (mMany g nm 0 (nI nw) (nI nw) nc) else -1
theorem x_sub7 {k : Nat} (h : k < 8) : (7 : Int32) - nI k = nI (7 - k) := pk_sub (a := 7) (b := k) (by omega)
theorem x_le7 {k : Nat} (h : k ≤ 8) (c : (8 : Int32) ≤ nI k) : k = 8 := by
  have := (nI_leI (a := 8) (b := k) (by decide) (by omega)).mp c
  omega
theorem x_lt8 {k : Nat} (h : k ≤ 8) (c : ¬ (8 : Int32) ≤ nI k) : k < 8 := by
  have := mt (nI_leI (a := 8) (b := k) (by decide) (by omega)).mpr c
  omega
