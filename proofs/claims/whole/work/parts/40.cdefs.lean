/-! ===== the class: what its cells say of the reference's numbers ===== -/
/-- a chain of moves: the cells of kind 8 that ix names, each leading on to the next -/
def chn (cnt : Nat → Nat) (ad : Nat → Nat → Nat) (ct : Nat → Nat → va_E) (dt : Nat → MV) (ix : List Nat) : Prop := ∀ p i, ix[p]? = some i → i < cnt 8 ∧ ct 8 i = .inr (5, [.int (dt i).1, .int (dt i).2.1, .int (dt i).2.2, va_rf (Option.map (ad 8) (ix[p + 1]?))])
theorem drop_some {dt : Nat → MV} {ix : List Nat} {p i : Nat} (h : ix[p]? = some i) : (ix.map dt).drop p = dt i :: (ix.map dt).drop (p + 1) := by
  have hl := (List.getElem?_eq_some_iff.mp h).1
  have he := (List.getElem?_eq_some_iff.mp h).2
  rw [List.drop_eq_getElem_cons (by simpa using hl)]
  simp [he]
theorem drop_none {dt : Nat → MV} {ix : List Nat} {p : Nat} (h : ix[p]? = none) : (ix.map dt).drop p = [] := by
  have := List.getElem?_eq_none_iff.mp h
  simp [this]
/-- looks of a nurse, the latest first -/
def lks (cnt : Nat → Nat) (ad : Nat → Nat → Nat) (ct : Nat → Nat → va_E) : Option Nat → List Nat → Prop
  | o, [] => o = none
  | o, d :: r => ∃ j o', o = some j ∧ j < cnt 10 ∧ ct 10 j = .inr (4, [.int (nI d), va_rf (Option.map (ad 10) o')]) ∧ lks cnt ad ct o' r
/-- days that go down, from one at most n on -/
def dwn (n : Nat) : List Nat → Prop
  | [] => True
  | d :: r => d < n ∧ dwn d r
def lkOK (g : Nat → Nat → Int32) (nw n : Nat) (l : List Nat) : Prop := dwn (nw + 1) l ∧ ∀ d, d ≤ 2000 → (¬ g 23 (2001 * n + d) = 0 ↔ d ∈ l)
def akOK (g : Nat → Nat → Int32) (c : Nat) (ak : Int32) : Prop := ∀ w, w < 20 → (((ak >>> (nI w &&& 31)) &&& 1) = 0 ↔ g 17 (20 * c + w) = 0)
abbrev aQ (f : Nat → Option Nat) : (Nat → Int32) ⊕ (Nat → Int64) ⊕ (Nat → UInt32) ⊕ (Nat → UInt64) ⊕ (Nat → Option Nat) := .inr (.inr (.inr (.inr f)))
def cX (cnt : Nat → Nat) (ad : Nat → Nat → Nat) (ct : Nat → Nat → va_E) (v : Nat → Int32) (nw nb nc nm tp : Nat) : Prop := 0 < cnt 0 ∧ 0 < cnt 1 ∧ 0 < cnt 2 ∧ 0 < cnt 3 ∧ ct 0 0 = .inr (9, [.int (nI nw), .int (nI nb), .int (nI nc), .int (nI nm), .int (v 4), .int (v 5), .ref (ad 1 0), .ref (ad 2 0), .ref (ad 3 0), .ref (ad 11 tp), .ref (ad 11 (1 - tp)), .ref (ad 13 0)])
def cB (ca : Nat → ClassId) (cnt : Nat → Nat) (ad : Nat → Nat → Nat) (ct : Nat → Nat → va_E) (g : Nat → Nat → Int32) (nb : Nat) : Prop := cnt 4 = nb ∧ cnt 5 = nb ∧ ∃ fB, ct 1 0 = .inl (ca 3, 50, aQ fB) ∧ ∀ b, b < nb → fB b = some (ad 4 b) ∧ ct 4 b = .inr (0, [.ref (ad 5 b)]) ∧ ∃ (n : Nat) (f : Nat → Int32), n ≤ 20 ∧ g 6 b = nI n ∧ ct 5 b = .inl (ca 1, n, .inl f) ∧ ∀ i, i < n → f i = g 7 (20 * b + i)
/-- a child: its own cells, its chain, who may ask -/
def cCh (cnt : Nat → Nat) (ad : Nat → Nat → Nat) (ct : Nat → Nat → va_E) (g : Nat → Nat → Int32) (nm : Nat) (dt : Nat → MV) (ow : Nat → Nat) (ix : List Nat) (ak : Int32) (c : Nat) : Prop := ct 6 c = .inr (1, [.int (g 9 c), .int (g 10 c), .int (g 11 c), .ref (ad 7 c), .int (g 14 c), .int (g 15 c), va_rf (Option.map (ad 8) (ix[0]?)), .int (nI (mCnt g (nI c) nm)), .int (g 16 c), .int ak]) ∧ ct 7 c = .inr (3, [.int (g 12 c), .int (g 13 c)]) ∧ chn cnt ad ct dt ix ∧ ix.map dt = mch g c nm ∧ akOK g c ak ∧ (∀ i, i ∈ ix → ow i = c) ∧ ix.Nodup
def cC (ca : Nat → ClassId) (cnt : Nat → Nat) (ad : Nat → Nat → Nat) (ct : Nat → Nat → va_E) (g : Nat → Nat → Int32) (nc nm : Nat) : Prop := cnt 6 = nc ∧ cnt 7 = nc ∧ ∃ (fC : Nat → Option Nat) (dt : Nat → MV) (ow : Nat → Nat) (ix : Nat → List Nat) (ak : Nat → Int32), ct 2 0 = .inl (ca 4, 60, aQ fC) ∧ ∀ c, c < nc → fC c = some (ad 6 c) ∧ cCh cnt ad ct g nm dt ow (ix c) (ak c) c
def cN (ca : Nat → ClassId) (cnt : Nat → Nat) (ad : Nat → Nat → Nat) (ct : Nat → Nat → va_E) (g : Nat → Nat → Int32) (nw : Nat) : Prop := cnt 9 = 12 ∧ ∃ (fN : Nat → Option Nat) (lk : Nat → Option Nat), ct 3 0 = .inl (ca 5, 13, aQ fN) ∧ ∀ i, i < 12 → fN (i + 1) = some (ad 9 i) ∧ ct 9 i = .inr (6, [.int (g 22 (i + 1)), va_rf (Option.map (ad 10) (lk i))]) ∧ ∃ l, lks cnt ad ct (lk i) l ∧ lkOK g nw (i + 1) l
theorem len_some {ix : List Nat} {p i : Nat} (h : ix[p]? = some i) : p < ix.length := (List.getElem?_eq_some_iff.mp h).1

/-- the text in force says what the reference's codes say -/
def rlOK (tx : Nat → Int32) (n nr : Nat) (g : Nat → Nat → Int32) : Prop := (nI nr = 0 → n = 0) ∧ (¬ nI nr = 0 → ∃ a L, pTop (tC tx n) n = .inr (a, L) ∧ cdOK g L)
theorem rl_g {tx : Nat → Int32} {n nr : Nat} {g g' : Nat → Nat → Int32} (h25 : ∀ i, g' 25 i = g 25 i) (h : rlOK tx n nr g) : rlOK tx n nr g' := by
  refine ⟨h.1, fun q => ?_⟩
  obtain ⟨a, L, h1, h2, h3, h4, h5⟩ := h.2 q
  exact ⟨a, L, h1, fun i x hx => by rw [h25]; exact h2 i x hx, by rw [h25]; exact h3, h4, h5⟩
/-- the texts and the reader -/
def cT (ca : Nat → ClassId) (cnt : Nat → Nat) (ad : Nat → Nat → Nat) (ct : Nat → Nat → va_E) (v : Nat → Int32) (g : Nat → Nat → Int32) (tp : Nat) : Prop := 0 < cnt 13 ∧ 0 < cnt 14 ∧ 1 < cnt 11 ∧ 1 < cnt 12 ∧ ∃ (sz n nr rt : Nat) (b0 b1 vs : Nat → Int32) (p1 p2 : Int32), v 27 = nI sz ∧ sz ≤ 100 ∧ n ≤ 100 ∧ v 5 = nI nr ∧ rt < 2 ∧ ct 11 tp = .inr (8, [.ref (ad 12 tp), .int (nI sz)]) ∧ ct 11 (1 - tp) = .inr (8, [.ref (ad 12 (1 - tp)), .int (nI n)]) ∧ ct 12 tp = .inl (ca 0, 100, .inl b0) ∧ ct 12 (1 - tp) = .inl (ca 0, 100, .inl b1) ∧ ct 13 0 = .inr (7, [.ref (ad 14 0), .ref (ad 11 rt), .int p1, .int p2]) ∧ ct 14 0 = .inl (ca 1, 5, .inl vs) ∧ (∀ j, j < sz → b0 j &&& 255 = g 24 j) ∧ rlOK (fun j => b1 j &&& 255) n nr g
/-- the class's cells say what the reference's numbers say -/
def cRep (ca : Nat → ClassId) (cnt : Nat → Nat) (ad : Nat → Nat → Nat) (ct : Nat → Nat → va_E) (v : Nat → Int32) (g : Nat → Nat → Int32) (nw nb nc nm : Nat) : Prop := mOK v nw nb nc nm ∧ mIv g nw nc nm ∧ ∃ tp, tp < 2 ∧ cX cnt ad ct v nw nb nc nm tp ∧ cT ca cnt ad ct v g tp ∧ cB ca cnt ad ct g nb ∧ cC ca cnt ad ct g nc nm ∧ cN ca cnt ad ct g nw
def fdB (n : Nat) (a : Int32) : Option Nat := if isIn a 0 (nI n - 1) = true then some a.toNatClampNeg else none
def fdN (a : Int32) : Option Nat := if isIn a 1 12 = true then some (a.toNatClampNeg - 1) else none
theorem fdB_some {n : Nat} {a : Int32} {i : Nat} (hn : n < 1000000) (h : fdB n a = some i) : i < n ∧ a = nI i ∧ isIn a 0 (nI n - 1) = true := by
  unfold fdB at h
  split at h
  · rename_i e
    obtain ⟨j, hj, rfl⟩ := isIn_nat hn e
    rw [nI_clamp (by omega)] at h
    cases h
    exact ⟨hj, rfl, e⟩
  · cases h
theorem fdB_none {n : Nat} {a : Int32} (h : fdB n a = none) : isIn a 0 (nI n - 1) = false := by
  unfold fdB at h
  split at h
  · cases h
  · rename_i e; simpa using e
theorem fdN_some {a : Int32} {i : Nat} (h : fdN a = some i) : i < 12 ∧ a = nI (i + 1) ∧ isIn a 1 12 = true := by
  unfold fdN at h
  split at h
  · rename_i e
    obtain ⟨j, h1, h2, rfl⟩ := isIn_rng (lo := 1) (hi := 12) (by decide) (by decide) e
    rw [nI_clamp (by omega)] at h
    cases h
    exact ⟨by omega, by rw [show j - 1 + 1 = j by omega], e⟩
  · cases h
theorem fdN_none {a : Int32} (h : fdN a = none) : isIn a 1 12 = false := by
  unfold fdN at h
  split at h
  · cases h
  · rename_i e; simpa using e
theorem x_ite {b : Bool} {w a : Int32} (ha : ¬ a = -1) : ((if b = true then w else -1) = a) ↔ (b = true ∧ w = a) := by
  cases b
  · simp only [Bool.false_eq_true, if_false, false_and, iff_false]
    exact fun q => ha q.symm
  · simp
def cGone (g : Nat → Nat → Int32) (nw nm c : Nat) (d : Int32) : Bool := decide (plc d (nI nw) (mch g c nm) (-1) = 14) || decide (plc d (nI nw) (mch g c nm) (-1) = 15)
def cOvM (g : Nat → Nat → Int32) (nw nc nm : Nat) (a : Int32) (f : Nat) (many : Int32) (m : MV) : Bool := decide (m.1 = a) && decide (nI f < m.2.1) && decide (many < nI (mMany g nm a m.2.1 (nI nw) nc))
def cOv (g : Nat → Nat → Int32) (nw nc nm : Nat) (a : Int32) (f : Nat) (many : Int32) : Bool := decide (many < nI (mMany g nm a (nI f) (nI nw) nc)) || anyB (fun c => (mch g c nm).any (cOvM g nw nc nm a f many)) nc
def cBall (n : Nat) (f : Nat → Int32) (i : Int32) : Int32 := if isIn i 0 (nI n - 1) = true then f i.toNatClampNeg else -1
