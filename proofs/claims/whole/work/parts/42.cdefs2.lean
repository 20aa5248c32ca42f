theorem cBall_eq {g : Nat → Nat → Int32} {nb n b : Nat} {f : Nat → Int32} {a : Int32} (hb : nb ≤ 50) (hb1 : b < nb) (hn : n ≤ 20) (hg : g 6 b = nI n) (hf : ∀ i, i < n → f i = g 7 (20 * b + i)) (hi : isIn (nI b) 0 (nI nb - 1) = true) : cBall n f a = mBall g nb (nI b) a := by
  unfold cBall mBall mWom
  rw [nI_clamp (n := b) (by omega), hg, hi, Bool.true_and]
  by_cases h : isIn a 0 (nI n - 1) = true
  · rw [if_pos h, if_pos h]
    obtain ⟨j, hj, rfl⟩ := isIn_nat (by omega) h
    rw [nI_clamp (by omega)]
    exact hf j hj
  · rw [if_neg h, if_neg h]
def mTn (a : Int32) : Nat → Int32
  | 0 => 0
  | k + 1 => (mTn a k <<< (3 &&& 31)) ||| mTh a (nI k)
def cUn (e t oe ot : Int32) : Nat → Nat
  | 0 => 0
  | k + 1 => cUn e t oe ot k + (if mTh e (nI k) + mTh oe (nI k) = 7 ∧ mTh t (nI k) = mTh ot (nI k) then 0 else 1)
theorem cUn_le (e t oe ot : Int32) : ∀ n, cUn e t oe ot n ≤ n
  | 0 => Nat.le_refl _
  | n + 1 => by
    have := cUn_le e t oe ot n
    unfold cUn
    split <;> omega
def cFar (e t oe ot : Int32) : Nat := min (cUn e t oe ot 8) (cUn e t (mTn oe 8) (mTn ot 8) 8)
def cAg (t0 t1 t2 f l s m : Int32) : Int32 := bB (isIn t0 f l) + bB (decide (t1 = s)) + bB (decide (t2 = m))
def cDg (t0 t1 t2 f l s m : Int32) : Int32 := bB (!(isIn t0 f l)) + bB (!(decide (s = -1)) && !(decide (t1 = s))) + bB (!(decide (m = -1)) && !(decide (t2 = m)))
def cBy (n : Nat) (b : Nat → Int32) (a : Int32) : Int32 := if isIn a 0 (nI n - 1) = true then b a.toNatClampNeg &&& 255 else -1
theorem by_ge {n : Nat} {a : Int32} (hn : n ≤ 100) (h : nI n ≤ a) : ¬ isIn a 0 (nI n - 1) = true := fun q => by
  obtain ⟨j, hj, rfl⟩ := isIn_nat (by omega) q
  have := (nI_leI (a := n) (b := j) (by omega) (by omega)).mp h
  omega
theorem by_in {n j : Nat} (hn : n ≤ 100) (hj : j < n) : isIn (nI j) 0 (nI n - 1) = true := by
  obtain ⟨z, rfl⟩ : ∃ z, n = z + 1 := ⟨n - 1, by omega⟩
  rw [nI_pred]
  have q1 := nI_pos (n := j) (by omega)
  have q2 := nI_nlt (a := z) (b := j) (by omega) (by omega)
  simp [isIn, q1, q2]
def dys (a fd ld q : Int32) : List MV → Int32 × Int32 × Int32 → Int32 × Int32 × Int32
  | [], s => s
  | m :: r, s => if ld < m.2.1 then s else if q < m.2.2 then dys a fd ld q r s else dys a fd ld q r (s.1 + (if s.2.1 = a then (if m.2.1 < fd then fd else m.2.1) - s.2.2 else 0), m.1, (if m.2.1 < fd then fd else m.2.1))
def dysE (a ld : Int32) (s : Int32 × Int32 × Int32) : Int32 := if s.2.1 = a then s.1 + (if ld + 1 - s.2.2 < 0 then 0 else ld + 1 - s.2.2) else s.1
def dysF (a fd ld q : Int32) (l : List MV) : Int32 := dysE a ld (dys a fd ld q l (0, -1, fd))
def cDwS (g : Nat → Nat → Int32) (nm : Nat) (a fd ld q : Int32) : Nat → Int32
  | 0 => 0
  | c + 1 => cDwS g nm a fd ld q c + dysF a fd ld q (mch g c nm)
def cDw (g : Nat → Nat → Int32) (nc nm : Nat) (a : Int32) (f l q : Nat) : Int32 := cDwS g nm a (nI (7 * f)) (nI (min (7 * l + 6) q)) (nI q) nc
def cSn (g : Nat → Nat → Int32) (nc nm : Nat) (a : Int32) (f l q : Nat) : List Nat → Int32 → Option Nat → Int32
  | [], dy, _ => dy
  | d :: r, dy, k => if d ≤ q ∧ f ≤ d / 7 ∧ d / 7 ≤ l ∧ ¬ k = some (d / 7) then cSn g nc nm a f l q r (dy + cDw g nc nm a (d / 7) (d / 7) q) (some (d / 7)) else cSn g nc nm a f l q r dy k
/-- a week that was counted, as an int; -1: none -/
def wkI : Option Nat → Int32
  | none => -1
  | some w => nI w
theorem wkI_eq {w : Nat} {o : Option Nat} (hw : w < 1000000) (ho : ∀ z, o = some z → z < 1000000) : nI w = wkI o ↔ o = some w := by
  cases o with
  | none =>
    simp only [wkI]
    constructor
    · intro h
      have h2 := congrArg Int32.toInt h
      rw [nI_toInt (by omega)] at h2
      have : (-1 : Int32).toInt = -1 := by decide
      omega
    · intro h; cases h
  | some z =>
    have := ho z rfl
    simp only [wkI, Option.some.injEq]
    rw [nI_eq (by omega) (by omega)]
    exact eq_comm
theorem lks_none {cnt : Nat → Nat} {ad : Nat → Nat → Nat} {ct : Nat → Nat → va_E} {l : List Nat} (h : lks cnt ad ct none l) : l = [] := by
  cases l with
  | nil => rfl
  | cons d r => obtain ⟨j, o, e, -⟩ := h; cases e
theorem lks_some {cnt : Nat → Nat} {ad : Nat → Nat → Nat} {ct : Nat → Nat → va_E} {l : List Nat} {j : Nat} (h : lks cnt ad ct (some j) l) : ∃ d r o, l = d :: r ∧ j < cnt 10 ∧ ct 10 j = .inr (4, [.int (nI d), va_rf (Option.map (ad 10) o)]) ∧ lks cnt ad ct o r := by
  cases l with
  | nil => cases h
  | cons d r => obtain ⟨j', o, e, h1, h2, h3⟩ := h; cases e; exact ⟨d, r, o, rfl, h1, h2, h3⟩
