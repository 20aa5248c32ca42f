/-! ===== rules: a text's reading, without any machine ===== -/
abbrev PR : Type := Nat ⊕ (Nat × List Int32)
/-- the byte at a place; -1 behind the end -/
def tC (tx : Nat → Int32) (n i : Nat) : Int32 := if i < n then tx i else -1
theorem tC_lt {tx : Nat → Int32} {n i : Nat} (h : i < n) : tC tx n i = tx i := if_pos h
theorem tC_ge {tx : Nat → Int32} {n i : Nat} (h : ¬ i < n) : tC tx n i = -1 := if_neg h
theorem tC_cg {tx ty : Nat → Int32} {n : Nat} (h : ∀ i, i < n → tx i = ty i) : tC tx n = tC ty n := by
  funext i
  unfold tC
  by_cases q : i < n
  · rw [if_pos q, if_pos q, h i q]
  · rw [if_neg q, if_neg q]
/-- behind the blanks -/
def pSk (c : Nat → Int32) (n a : Nat) : Nat := if a < n ∧ c a = 32 then pSk c n (a + 1) else a
termination_by n - a
theorem pSk_y {c : Nat → Int32} {n a : Nat} (h : a < n) (h2 : c a = 32) : pSk c n a = pSk c n (a + 1) := by rw [pSk, if_pos ⟨h, h2⟩]
theorem pSk_n {c : Nat → Int32} {n a : Nat} (h : ¬ (a < n ∧ c a = 32)) : pSk c n a = a := by rw [pSk, if_neg h]
theorem pSk_b (c : Nat → Int32) (n : Nat) : ∀ k a, n - a = k → a ≤ pSk c n a ∧ (a ≤ n → pSk c n a ≤ n) ∧ ¬ (pSk c n a < n ∧ c (pSk c n a) = 32)
  | 0, a, h => by
    rw [pSk_n (by omega)]
    exact ⟨Nat.le_refl _, fun h => h, by omega⟩
  | k + 1, a, h => by
    by_cases q : a < n ∧ c a = 32
    · rw [pSk_y q.1 q.2]
      obtain ⟨h1, h2, h3⟩ := pSk_b c n k (a + 1) (by omega)
      exact ⟨by omega, fun _ => h2 (by omega), h3⟩
    · rw [pSk_n q]
      exact ⟨Nat.le_refl _, fun h => h, q⟩
theorem pSk_ge (c : Nat → Int32) (n a : Nat) : a ≤ pSk c n a := (pSk_b c n _ a rfl).1
theorem pSk_le {c : Nat → Int32} {n a : Nat} (h : a ≤ n) : pSk c n a ≤ n := (pSk_b c n _ a rfl).2.1 h
theorem pSk_fix (c : Nat → Int32) (n a : Nat) : pSk c n (pSk c n a) = pSk c n a := pSk_n (pSk_b c n _ a rfl).2.2
def isD (x : Int32) : Bool := isIn x 48 57
def isL (x : Int32) : Bool := decide (x = 111) || decide (x = 102) || decide (x = 119) || decide (x = 99) || decide (x = 100)
def isS (x : Int32) : Bool := decide (x = 61) || decide (x = 60) || decide (x = 62)
/-- up to k digits -/
def pDg (c : Nat → Int32) : Nat → Nat → Int32 → Nat × Int32
  | 0, a, v => (a, v)
  | k + 1, a, v => if isD (c a) = true then pDg c k (a + 1) (10 * v + c a - 48) else (a, v)
/-- a test whose letter stands at a -/
def pTe (c : Nat → Int32) (n a : Nat) : PR := if isL (c a) = false then .inl a else if isS (c (pSk c n (a + 1))) = false then .inl (pSk c n (a + 1)) else if isD (c (pSk c n (pSk c n (a + 1) + 1))) = false then .inl (pSk c n (pSk c n (a + 1) + 1)) else if isD (c (pDg c 4 (pSk c n (pSk c n (a + 1) + 1)) 0).1) = true then .inl (pDg c 4 (pSk c n (pSk c n (a + 1) + 1)) 0).1 else .inr ((pDg c 4 (pSk c n (pSk c n (a + 1) + 1)) 0).1, [0, c a, c (pSk c n (a + 1)), (pDg c 4 (pSk c n (pSk c n (a + 1) + 1)) 0).2])
/-- behind one thing: a sign and another, as often as there are -/
def pLp (c : Nat → Int32) (n : Nat) (u : Nat → PR) (k j : Int32) : Nat → Nat → List Int32 → PR
  | 0, a, L => .inr (a, L)
  | f + 1, a, L => if c (pSk c n a) = k then (match u (pSk c n a + 1) with | .inl e => .inl e | .inr q => pLp c n u k j f q.1 (L ++ q.2 ++ [j])) else .inr (pSk c n a, L)
def pSeq (c : Nat → Int32) (n : Nat) (u : Nat → PR) (k j : Int32) (a : Nat) : PR := match u a with | .inl e => .inl e | .inr q => pLp c n u k j (n + 1) q.1 q.2
def pUn (c : Nat → Int32) (n : Nat) (t : Nat → PR) (a : Nat) : PR := if c (pSk c n a) = 40 then (match t (pSk c n a + 1) with | .inl e => .inl e | .inr q => if c (pSk c n q.1) = 41 then .inr (pSk c n q.1 + 1, q.2) else .inl (pSk c n q.1)) else pTe c n (pSk c n a)
def pT (c : Nat → Int32) (n : Nat) : Nat → Nat → PR
  | 0 => fun a => .inl (a - 1)
  | r + 1 => pSeq c n (pSeq c n (pUn c n (pT c n r)) 38 1) 124 2
abbrev pU (c : Nat → Int32) (n r : Nat) : Nat → PR := pUn c n (pT c n r)
abbrev pP (c : Nat → Int32) (n r : Nat) : Nat → PR := pSeq c n (pU c n r) 38 1
theorem pT_s (c : Nat → Int32) (n r : Nat) : pT c n (r + 1) = pSeq c n (pP c n r) 124 2 := rfl
/-- a whole text -/
def pTop (c : Nat → Int32) (n : Nat) : PR := match pT c n 9 0 with | .inl e => .inl e | .inr q => if c (pSk c n q.1) = -1 then .inr (pSk c n q.1, q.2) else .inl (pSk c n q.1)
/-! codes written one behind another -/
def sayL (sy : Nat → Int32) : Nat → List Int32 → Nat → Int32
  | _, [] => sy
  | d, x :: L => sayL (upd sy d x) (d + 1) L
theorem sayL_app (L' : List Int32) : ∀ (L : List Int32) (sy : Nat → Int32) (d : Nat), sayL sy d (L ++ L') = sayL (sayL sy d L) (d + L.length) L'
  | [], sy, d => rfl
  | x :: L, sy, d => by
    show sayL (upd sy d x) (d + 1) (L ++ L') = sayL (sayL (upd sy d x) (d + 1) L) _ _
    rw [sayL_app L' L, List.length_cons, show d + 1 + L.length = d + (L.length + 1) by omega]
theorem sayL_lt : ∀ (L : List Int32) (sy : Nat → Int32) (d i : Nat), i < d → sayL sy d L i = sy i
  | [], _, _, _, _ => rfl
  | x :: L, sy, d, i, h => by
    show sayL (upd sy d x) (d + 1) L i = _
    rw [sayL_lt L _ _ _ (by omega), upd_ne _ _ (by omega)]
theorem sayL_at : ∀ (L : List Int32) (sy : Nat → Int32) (d i : Nat) (x : Int32), L[i]? = some x → sayL sy d L (d + i) = x
  | [], _, _, _, _, h => by simp at h
  | y :: L, sy, d, 0, x, h => by
    show sayL (upd sy d y) (d + 1) L d = x
    rw [sayL_lt L _ _ _ (by omega), upd_at]
    simpa using h
  | y :: L, sy, d, i + 1, x, h => by
    show sayL (upd sy d y) (d + 1) L _ = x
    rw [show d + (i + 1) = d + 1 + i by omega]
    exact sayL_at L _ _ i x (by simpa using h)
/-! ===== the reader's numbers: at, wrong, deep, said; a row of the arrays in another's place ===== -/
def vq (v : Nat → Int32) (a w d s : Int32) : Nat → Int32 := fun k => if k = 28 then a else if k = 29 then w else if k = 30 then d else if k = 31 then s else v k
def gr (g : Nat → Nat → Int32) (k0 : Nat) (f : Nat → Int32) : Nat → Nat → Int32 := fun k i => if k = k0 then f i else g k i
theorem vq_self (v : Nat → Int32) : v = vq v (v 28) (v 29) (v 30) (v 31) := by
  funext k
  unfold vq
  by_cases h : k = 28
  · rw [if_pos h, h]
  by_cases h1 : k = 29
  · rw [if_neg h, if_pos h1, h1]
  by_cases h2 : k = 30
  · rw [if_neg h, if_neg h1, if_pos h2, h2]
  by_cases h3 : k = 31
  · rw [if_neg h, if_neg h1, if_neg h2, if_pos h3, h3]
  rw [if_neg h, if_neg h1, if_neg h2, if_neg h3]
theorem gr_self (g : Nat → Nat → Int32) (k0 : Nat) : g = gr g k0 (g k0) := by
  funext k i
  unfold gr
  by_cases h : k = k0
  · rw [if_pos h, h]
  · rw [if_neg h]
theorem vq_28 (v : Nat → Int32) (a w d s x : Int32) : upd (vq v a w d s) 28 x = vq v x w d s := by
  funext k
  unfold upd vq
  by_cases h : k = 28 <;> simp [h]
theorem vq_29 (v : Nat → Int32) (a w d s x : Int32) : upd (vq v a w d s) 29 x = vq v a x d s := by
  funext k
  unfold upd vq
  by_cases h : k = 29 <;> simp [h]
theorem vq_30 (v : Nat → Int32) (a w d s x : Int32) : upd (vq v a w d s) 30 x = vq v a w x s := by
  funext k
  unfold upd vq
  by_cases h : k = 30 <;> simp [h]
theorem vq_31 (v : Nat → Int32) (a w d s x : Int32) : upd (vq v a w d s) 31 x = vq v a w d x := by
  funext k
  unfold upd vq
  by_cases h : k = 31 <;> simp [h]
theorem vq_o {v : Nat → Int32} {a w d s : Int32} {k : Nat} (h : k ≠ 28 ∧ k ≠ 29 ∧ k ≠ 30 ∧ k ≠ 31) : vq v a w d s k = v k := by
  unfold vq
  rw [if_neg h.1, if_neg h.2.1, if_neg h.2.2.1, if_neg h.2.2.2]
theorem gr_o {g : Nat → Nat → Int32} {k0 k : Nat} {f : Nat → Int32} (h : k ≠ k0) (i : Nat) : gr g k0 f k i = g k i := if_neg h
theorem gr_at (g : Nat → Nat → Int32) (k0 : Nat) (f : Nat → Int32) (i : Nat) : gr g k0 f k0 i = f i := if_pos rfl
theorem gr_u (g : Nat → Nat → Int32) (k0 : Nat) (f : Nat → Int32) (i : Nat) (x : Int32) : upd2 (gr g k0 f) k0 i x = gr g k0 (upd f i x) := by
  funext a b
  unfold upd2 gr upd
  by_cases h : a = k0
  · by_cases h2 : b = i <;> simp [h, h2]
  · simp [h]
/-- what is left behind a piece's reading: it failed at e, or it went on to a' and wrote L -/
def uPo (n r a sd : Nat) (sy : Nat → Int32) (R : PR) (a' : Nat) (w' : Int32) (sd' : Nat) (sy' : Nat → Int32) : Prop :=
  (∃ e, R = .inl e ∧ w' = nI e ∧ e ≤ n ∧ a ≤ a' ∧ a' ≤ n + r ∧ sd' + 2 * a ≤ sd + 2 * a') ∨ (∃ L, R = .inr (a', L) ∧ w' = -1 ∧ a < a' ∧ a' ≤ n ∧ L.length + 2 * a ≤ 2 * a' ∧ sd' = sd + L.length ∧ sy' = sayL sy sd L)
theorem nI_nn {e : Nat} (h : e ≤ 1000) : ¬ nI e = -1 := fun q => by
  have h1 := nI_toInt (n := e) (by omega)
  rw [q] at h1
  have : (-1 : Int32).toInt = -1 := by decide
  omega

theorem tC_in {tx : Nat → Int32} {n i : Nat} {k : Int32} (h : tC tx n i = k) (hk : k ≠ -1) : i < n := by
  by_cases q : i < n
  · exact q
  · rw [tC_ge q] at h
    exact absurd h.symm hk
theorem isL_lt {tx : Nat → Int32} {n i : Nat} (h : isL (tC tx n i) = true) : i < n := by
  by_cases q : i < n
  · exact q
  · rw [tC_ge q] at h
    exact absurd h (by decide)
theorem isS_lt {tx : Nat → Int32} {n i : Nat} (h : isS (tC tx n i) = true) : i < n := by
  by_cases q : i < n
  · exact q
  · rw [tC_ge q] at h
    exact absurd h (by decide)
theorem isD_lt {tx : Nat → Int32} {n i : Nat} (h : isD (tC tx n i) = true) : i < n := by
  by_cases q : i < n
  · exact q
  · rw [tC_ge q] at h
    exact absurd h (by decide)
theorem pDg_n {c : Nat → Int32} {j b : Nat} {v : Int32} (h : isD (c b) = false) : pDg c j b v = (b, v) := by
  cases j with
  | zero => rfl
  | succ j => rw [pDg, if_neg (by rw [h]; decide)]
theorem say3 (sy : Nat → Int32) (d : Nat) (L M : List Int32) (x : Int32) : sayL sy d (L ++ M ++ [x]) = upd (sayL (sayL sy d L) (d + L.length) M) (d + L.length + M.length) x := by
  rw [sayL_app, sayL_app, List.length_append, Nat.add_assoc]
  rfl
theorem len3 (d : Nat) (L M : List Int32) (x : Int32) : d + (L ++ M ++ [x]).length = d + L.length + M.length + 1 := by
  simp only [List.length_append, List.length_cons, List.length_nil]
  omega

section PX
variable {c : Nat → Int32} {n : Nat} {t u : Nat → PR} {a k k2 k3 b b1 b2 e f : Nat} {L M : List Int32} {x kc j : Int32}
theorem pUn_e (hk : k = pSk c n a) (h40 : c k = 40) (h : t (k + 1) = .inl e) : pUn c n t a = .inl e := by
  subst hk; unfold pUn; rw [if_pos h40, h]
theorem pUn_c (hk : k = pSk c n a) (h40 : c k = 40) (h : t (k + 1) = .inr (b, L)) (hk2 : k2 = pSk c n b) (h41 : ¬ c k2 = 41) : pUn c n t a = .inl k2 := by
  subst hk; subst hk2; unfold pUn; rw [if_pos h40, h]; exact if_neg h41
theorem pUn_k (hk : k = pSk c n a) (h40 : c k = 40) (h : t (k + 1) = .inr (b, L)) (hk2 : k2 = pSk c n b) (h41 : c k2 = 41) : pUn c n t a = .inr (k2 + 1, L) := by
  subst hk; subst hk2; unfold pUn; rw [if_pos h40, h]; exact if_pos h41
theorem pUn_t (hk : k = pSk c n a) (h40 : ¬ c k = 40) : pUn c n t a = pTe c n k := by
  subst hk; unfold pUn; rw [if_neg h40]
theorem pTe_1 (h : isL (c k) = false) : pTe c n k = .inl k := by unfold pTe; rw [if_pos h]
theorem pTe_2 (hL : isL (c k) = true) (hk2 : k2 = pSk c n (k + 1)) (h : isS (c k2) = false) : pTe c n k = .inl k2 := by
  subst hk2; unfold pTe; rw [if_neg (by rw [hL]; decide), if_pos h]
theorem pTe_3 (hL : isL (c k) = true) (hk2 : k2 = pSk c n (k + 1)) (hS : isS (c k2) = true) (hk3 : k3 = pSk c n (k2 + 1)) (h : isD (c k3) = false) : pTe c n k = .inl k3 := by
  subst hk3; subst hk2; unfold pTe; rw [if_neg (by rw [hL]; decide), if_neg (by rw [hS]; decide), if_pos h]
theorem pTe_4 (hL : isL (c k) = true) (hk2 : k2 = pSk c n (k + 1)) (hS : isS (c k2) = true) (hk3 : k3 = pSk c n (k2 + 1)) (hD : isD (c k3) = true) (hd : pDg c 4 k3 0 = (b, x)) (h : isD (c b) = true) : pTe c n k = .inl b := by
  subst hk3; subst hk2; unfold pTe; rw [if_neg (by rw [hL]; decide), if_neg (by rw [hS]; decide), if_neg (by rw [hD]; decide), hd, if_pos h]
theorem pTe_5 (hL : isL (c k) = true) (hk2 : k2 = pSk c n (k + 1)) (hS : isS (c k2) = true) (hk3 : k3 = pSk c n (k2 + 1)) (hD : isD (c k3) = true) (hd : pDg c 4 k3 0 = (b, x)) (h : isD (c b) = false) : pTe c n k = .inr (b, [0, c k, c k2, x]) := by
  subst hk3; subst hk2; unfold pTe; rw [if_neg (by rw [hL]; decide), if_neg (by rw [hS]; decide), if_neg (by rw [hD]; decide), hd, if_neg (by rw [h]; decide)]
theorem pUn_0 (hk : k = pSk c n a) (h40 : c k = 40) : pUn c n (pT c n 0) a = pTe c n k := by
  rw [pUn_e (e := k) hk h40 rfl, pTe_1 (by rw [h40]; decide)]
theorem pSeq_e (h : u a = .inl e) : pSeq c n u kc j a = .inl e := by unfold pSeq; rw [h]
theorem pSeq_k (h : u a = .inr (b, L)) : pLp c n u kc j (n + 1) b L = pSeq c n u kc j a := by unfold pSeq; rw [h]
theorem pLp_n (hk : b1 = pSk c n b) (h : ¬ c b1 = kc) : pLp c n u kc j (f + 1) b L = .inr (b1, L) := by
  subst hk; unfold pLp; rw [if_neg h]
theorem pLp_e (hk : b1 = pSk c n b) (h : c b1 = kc) (hu : u (b1 + 1) = .inl e) : pLp c n u kc j (f + 1) b L = .inl e := by
  subst hk; rw [pLp, if_pos h, hu]
theorem pLp_s (hk : b1 = pSk c n b) (h : c b1 = kc) (hu : u (b1 + 1) = .inr (b2, M)) : pLp c n u kc j (f + 1) b L = pLp c n u kc j f b2 (L ++ M ++ [j]) := by
  subst hk; rw [pLp, if_pos h, hu]
end PX
/-- the contract of tests, so many levels above the deepest -/
def KT (l : Launch) (D : va_G) (ca : Nat → ClassId) (r : Nat) : Prop := ∀ (ad : Nat → Nat → Nat) (z9 : Nat) (v : Nat → Int32) (g : Nat → Nat → Int32) (tn a sd : Nat) (sy : Nat → Int32), tn ≤ 100 → v 27 = nI tn → a ≤ tn → r ≤ 8 → sd ≤ 2 * a → Met l yX10_tests (wz yX10_tests cX10_tests 1 none) (rmL (3 * r + 4) 0 0) (va_Pc [.ref (ad 33 0)] (fun U => (U.heap.size = z9 ∧ mq D ca ad (vq v (nI a) (-1) (nI (8 - r)) (nI sd)) (gr g 26 sy) U.heap) ∧ gK D ca U)) (QcW D (wA mcnt ad z9) (fun rv u => ∃ a9 w9 sd9 sy9, rv = none ∧ u = (mcnt, ad, mct ca ad (vq v (nI a9) w9 (nI (8 - r)) (nI sd9)) (gr g 26 sy9)) ∧ uPo tn r a sd sy (pT (tC (g 24) tn) tn (r + 1) a) a9 w9 sd9 sy9)) 0 0 (wA mcnt ad z9)

theorem vq_u {v : Nat → Int32} {a w d s x : Int32} {k : Nat} (h : k ≠ 28 ∧ k ≠ 29 ∧ k ≠ 30 ∧ k ≠ 31) : upd (vq v a w d s) k x = vq (upd v k x) a w d s := by
  funext i
  unfold upd vq
  by_cases q : i = k
  · subst q
    simp [h.1, h.2.1, h.2.2.1, h.2.2.2]
  · simp [q]
theorem gr_u2 (g : Nat → Nat → Int32) (k0 : Nat) (f : Nat → Int32) (i : Nat) (x : Int32) {k : Nat} (h : k ≠ k0) : upd2 (gr g k0 f) k i x = gr (upd2 g k i x) k0 f := by
  funext a b
  unfold upd2 gr
  by_cases q : a = k0
  · subst q
    simp [Ne.symm h]
  · simp [q]
theorem pTop_e {c : Nat → Int32} {n e : Nat} (h : pT c n 9 0 = .inl e) : pTop c n = .inl e := by unfold pTop; rw [h]
theorem pTop_f {c : Nat → Int32} {n b k : Nat} {L : List Int32} (h : pT c n 9 0 = .inr (b, L)) (hk : k = pSk c n b) (h1 : ¬ c k = -1) : pTop c n = .inl k := by
  subst hk; unfold pTop; rw [h]; exact if_neg h1
theorem pTop_k {c : Nat → Int32} {n b k : Nat} {L : List Int32} (h : pT c n 9 0 = .inr (b, L)) (hk : k = pSk c n b) (h1 : c k = -1) : pTop c n = .inr (k, L) := by
  subst hk; unfold pTop; rw [h]; exact if_pos h1
/-- the first k of one row before another -/
def cpF (f sy : Nat → Int32) (k : Nat) : Nat → Int32 := fun i => if i < k then sy i else f i
theorem cpF_0 (f sy : Nat → Int32) : cpF f sy 0 = f := by funext i; simp [cpF]
theorem cpF_s (f sy : Nat → Int32) (k : Nat) : upd (cpF f sy k) k (sy k) = cpF f sy (k + 1) := by
  funext i
  unfold upd cpF
  by_cases h : i = k
  · subst h; rw [if_pos rfl, if_pos (by omega)]
  · rw [if_neg h]
    by_cases h2 : i < k
    · rw [if_pos h2, if_pos (by omega)]
    · rw [if_neg h2, if_neg (by omega)]
/-! ===== codes, run over a pile ===== -/
def vL (vs : Nat → Int32) (l : Int32) : Int32 := if l = 111 then vs 0 else if l = 102 then vs 1 else if l = 119 then vs 2 else if l = 99 then vs 3 else vs 4
def rTs (vs : Nat → Int32) (l s x : Int32) : Bool := if s = 61 then decide (vL vs l = x) else if s = 60 then decide (vL vs l < x) else decide (x < vL vs l)
def rOp (c : Int32) (a b : Bool) : Bool := if c = 1 then a && b else a || b
def rRun (vs : Nat → Int32) : Nat → List Int32 → List Bool → Option (List Bool)
  | 0, _, _ => none
  | _ + 1, [], st => some st
  | f + 1, c :: r, st => if c = 0 then (match r with | l :: s :: x :: r' => rRun vs f r' (rTs vs l s x :: st) | _ => none) else if c = 1 ∨ c = 2 then (match st with | b :: a :: st' => rRun vs f r (rOp c a b :: st') | _ => none) else none
theorem rRun_0 {vs : Nat → Int32} {f : Nat} {c : Int32} {r : List Int32} {st q : List Bool} (h : rRun vs (f + 1) (c :: r) st = some q) (hc : c = 0) : ∃ l s x r', r = l :: s :: x :: r' ∧ rRun vs f r' (rTs vs l s x :: st) = some q := by
  rcases r with _ | ⟨l, r⟩
  · simp [rRun, hc] at h
  rcases r with _ | ⟨s, r⟩
  · simp [rRun, hc] at h
  rcases r with _ | ⟨x, r⟩
  · simp [rRun, hc] at h
  exact ⟨l, s, x, r, rfl, by simpa [rRun, hc] using h⟩
theorem rRun_1 {vs : Nat → Int32} {f : Nat} {c : Int32} {r : List Int32} {st q : List Bool} (h : rRun vs (f + 1) (c :: r) st = some q) (hc : ¬ c = 0) : (c = 1 ∨ c = 2) ∧ ∃ b a st', st = b :: a :: st' ∧ rRun vs f r (rOp c a b :: st') = some q := by
  by_cases h2 : c = 1 ∨ c = 2
  · rcases st with _ | ⟨b, st⟩
    · simp [rRun, hc, h2] at h
    rcases st with _ | ⟨a, st⟩
    · simp [rRun, hc, h2] at h
    exact ⟨h2, b, a, st, rfl, by simpa [rRun, hc, h2] using h⟩
  · simp [rRun, hc, h2] at h

/-- what a list of codes says of the values -/
def rB (vs : Nat → Int32) (L : List Int32) : Bool := match rRun vs (L.length + 1) L [] with | some [b] => b | _ => false
/-- a list of codes that leaves one truth -/
def wfL (L : List Int32) : Prop := ∃ n, n ≤ L.length ∧ ∀ (vs : Nat → Int32) (f : Nat) (R : List Int32) (st : List Bool), rRun vs (f + n) (L ++ R) st = rRun vs f R (rB vs L :: st)
theorem wf_mk {L : List Int32} {n : Nat} (hn : n ≤ L.length) (h : ∀ vs : Nat → Int32, ∃ b, ∀ (f : Nat) (R : List Int32) (st : List Bool), rRun vs (f + n) (L ++ R) st = rRun vs f R (b :: st)) : (∀ (vs : Nat → Int32) (b : Bool), (∀ (f : Nat) (R : List Int32) (st : List Bool), rRun vs (f + n) (L ++ R) st = rRun vs f R (b :: st)) → rB vs L = b) ∧ wfL L := by
  have key : ∀ (vs : Nat → Int32) (b : Bool), (∀ (f : Nat) (R : List Int32) (st : List Bool), rRun vs (f + n) (L ++ R) st = rRun vs f R (b :: st)) → rB vs L = b := by
    intro vs b hb
    have h1 := hb (L.length - n + 1) [] []
    rw [List.append_nil, show L.length - n + 1 + n = L.length + 1 by omega] at h1
    unfold rB
    rw [h1]
    rfl
  refine ⟨key, n, hn, fun vs f R st => ?_⟩
  obtain ⟨b, hb⟩ := h vs
  rw [key vs b hb]
  exact hb f R st
theorem wf_t (l s x : Int32) : wfL [0, l, s, x] ∧ ∀ vs, rB vs [0, l, s, x] = rTs vs l s x := by
  have h := wf_mk (L := [0, l, s, x]) (n := 1) (by show 1 ≤ 4; omega) (fun vs => ⟨rTs vs l s x, fun f R st => rfl⟩)
  exact ⟨h.2, fun vs => h.1 vs _ (fun f R st => rfl)⟩
theorem wf_op {L M : List Int32} {j : Int32} (hj : j = 1 ∨ j = 2) (hL : wfL L) (hM : wfL M) : wfL (L ++ M ++ [j]) ∧ ∀ vs, rB vs (L ++ M ++ [j]) = rOp j (rB vs L) (rB vs M) := by
  obtain ⟨n, hn, h1⟩ := hL
  obtain ⟨m, hm, h2⟩ := hM
  have hs : ∀ (vs : Nat → Int32) (f : Nat) (R : List Int32) (st : List Bool), rRun vs (f + (n + m + 1)) (L ++ M ++ [j] ++ R) st = rRun vs f R (rOp j (rB vs L) (rB vs M) :: st) := by
    intro vs f R st
    rw [List.append_assoc, List.append_assoc, show f + (n + m + 1) = f + 1 + m + n by omega, h1, h2]
    show rRun vs (f + 1) (j :: R) _ = _
    have h0 : ¬ j = 0 := by rcases hj with rfl | rfl <;> decide
    simp [rRun, h0, hj]
  have h := wf_mk (L := L ++ M ++ [j]) (n := n + m + 1) (by simp only [List.length_append, List.length_cons, List.length_nil]; omega) (fun vs => ⟨_, hs vs⟩)
  exact ⟨h.2, fun vs => h.1 vs _ (hs vs)⟩
theorem pLp_wf {c : Nat → Int32} {n : Nat} {u : Nat → PR} {k j : Int32} (hj : j = 1 ∨ j = 2) (hu : ∀ a b L, u a = .inr (b, L) → wfL L) : ∀ (f a : Nat) (L : List Int32) (b : Nat) (M : List Int32), wfL L → pLp c n u k j f a L = .inr (b, M) → wfL M
  | 0, a, L, b, M, hL, h => by
    rw [pLp] at h
    cases h
    exact hL
  | f + 1, a, L, b, M, hL, h => by
    by_cases hk : c (pSk c n a) = k
    · cases hq : u (pSk c n a + 1) with
      | inl e => rw [pLp_e rfl hk hq] at h; cases h
      | inr q => rw [pLp_s (b2 := q.1) (M := q.2) rfl hk hq] at h; exact pLp_wf hj hu f _ _ b M (wf_op hj hL (hu _ _ _ hq)).1 h
    · rw [pLp_n rfl hk] at h
      cases h
      exact hL
theorem pSeq_wf {c : Nat → Int32} {n : Nat} {u : Nat → PR} {k j : Int32} (hj : j = 1 ∨ j = 2) (hu : ∀ a b L, u a = .inr (b, L) → wfL L) (a b : Nat) (L : List Int32) (h : pSeq c n u k j a = .inr (b, L)) : wfL L := by
  cases hq : u a with
  | inl e => rw [pSeq_e hq] at h; cases h
  | inr q => rw [← pSeq_k (b := q.1) (L := q.2) hq] at h; exact pLp_wf hj hu _ _ _ _ _ (hu _ _ _ hq) h
theorem pTe_wf {c : Nat → Int32} {n a b : Nat} {L : List Int32} (h : pTe c n a = .inr (b, L)) : wfL L := by
  unfold pTe at h
  split at h
  · cases h
  split at h
  · cases h
  split at h
  · cases h
  split at h
  · cases h
  cases h
  exact (wf_t _ _ _).1
theorem pT_wf {c : Nat → Int32} {n : Nat} : ∀ (r a b : Nat) (L : List Int32), pT c n r a = .inr (b, L) → wfL L
  | 0, a, b, L, h => by cases h
  | r + 1, a, b, L, h => by
    refine pSeq_wf (Or.inr rfl) (fun a b L h => pSeq_wf (Or.inl rfl) (fun a b L h => ?_) a b L h) a b L h
    by_cases h40 : c (pSk c n a) = 40
    · cases hq : pT c n r (pSk c n a + 1) with
      | inl e => rw [pUn_e rfl h40 hq] at h; cases h
      | inr q =>
        by_cases h41 : c (pSk c n q.1) = 41
        · rw [pUn_k (b := q.1) (L := q.2) rfl h40 hq rfl h41] at h
          cases h
          exact pT_wf r _ _ _ hq
        · rw [pUn_c (b := q.1) (L := q.2) rfl h40 hq rfl h41] at h; cases h
    · rw [pUn_t rfl h40] at h
      exact pTe_wf h
theorem pTop_wf {c : Nat → Int32} {n b : Nat} {L : List Int32} (h : pTop c n = .inr (b, L)) : wfL L := by
  cases hq : pT c n 9 0 with
  | inl e => rw [pTop_e hq] at h; cases h
  | inr q =>
    by_cases h1 : c (pSk c n q.1) = -1
    · rw [pTop_k (b := q.1) (L := q.2) hq rfl h1] at h
      cases h
      exact pT_wf _ _ _ _ hq
    · rw [pTop_f (b := q.1) (L := q.2) hq rfl h1] at h; cases h
/-- codes that lie in the reference's row of codes -/
def cdOK (g : Nat → Nat → Int32) (L : List Int32) : Prop := (∀ (i : Nat) (x : Int32), L[i]? = some x → g 25 i = x) ∧ g 25 L.length = 3 ∧ L.length ≤ 200 ∧ wfL L
def vF (a b c d e : Int32) : Nat → Int32 := fun k => if k = 0 then a else if k = 1 then b else if k = 2 then c else if k = 3 then d else e
/-- a pile's truths, the lowest first -/
def plO (pl : Nat → Int32) (st : List Bool) : Prop := ∀ (j : Nat) (x : Bool), st.reverse[j]? = some x → pl j = bB x
theorem plO_c {pl : Nat → Int32} {y : Bool} {st : List Bool} (h : plO pl (y :: st)) : pl st.length = bB y ∧ plO pl st := by
  refine ⟨h _ y ?_, fun j x hx => h j x ?_⟩
  · rw [List.reverse_cons, List.getElem?_append_right (by simp)]
    simp
  · have hl := (List.getElem?_eq_some_iff.mp hx).1
    rw [List.reverse_cons, List.getElem?_append_left hl]
    exact hx
theorem plO_p {pl : Nat → Int32} {y : Bool} {z : Int32} {st : List Bool} (hz : z = bB y) (h : plO pl st) : plO (upd pl st.length z) (y :: st) := by
  intro j x hx
  rw [List.reverse_cons] at hx
  by_cases hj : j < st.length
  · rw [List.getElem?_append_left (by simpa using hj)] at hx
    rw [upd_ne _ _ (by omega)]
    exact h j x hx
  · have hl := (List.getElem?_eq_some_iff.mp hx).1
    simp only [List.length_append, List.length_reverse, List.length_cons, List.length_nil] at hl
    obtain rfl : j = st.length := by omega
    rw [List.getElem?_append_right (by simp)] at hx
    simp at hx
    rw [upd_at, hz, hx]
theorem nI_m1 (n : Nat) : nI (n + 1) + -1 = nI n := by
  have h := nI_pred n
  rw [Int32.sub_eq_add_neg] at h
  exact h
theorem cd_at {g : Nat → Nat → Int32} {L : List Int32} (h : cdOK g L) {k : Nat} (hk : k ≤ L.length) (h3 : ¬ g 25 k = 3) : k < L.length ∧ L.drop k = g 25 k :: L.drop (k + 1) := by
  have hl : k < L.length := by
    by_cases q : k = L.length
    · rw [q] at h3; exact absurd h.2.1 h3
    · omega
  refine ⟨hl, ?_⟩
  rw [List.drop_eq_getElem_cons hl, h.1 k _ (List.getElem?_eq_getElem hl)]
theorem cd_nx {g : Nat → Nat → Int32} {L : List Int32} (h : cdOK g L) {k : Nat} {x : Int32} {r : List Int32} (hd : L.drop k = x :: r) : k < L.length ∧ g 25 k = x ∧ L.drop (k + 1) = r := by
  have hl : k < L.length := by
    have := congrArg List.length hd
    simp only [List.length_drop, List.length_cons] at this
    omega
  rw [List.drop_eq_getElem_cons hl] at hd
  injection hd with h1 h2
  exact ⟨hl, h.1 k x (by rw [List.getElem?_eq_getElem hl, h1]), h2⟩
theorem cd_3 {g : Nat → Nat → Int32} {L : List Int32} (h : cdOK g L) {vs : Nat → Int32} {f k : Nat} {st q : List Bool} (hk : k ≤ L.length) (h3 : g 25 k = 3) (hr : rRun vs f (L.drop k) st = some q) : st = q := by
  by_cases e : k = L.length
  · rw [e, List.drop_length] at hr
    cases f with
    | zero => cases hr
    | succ f => rw [rRun] at hr; cases hr; rfl
  · have hl : k < L.length := by omega
    rw [List.drop_eq_getElem_cons hl, ← h.1 k _ (List.getElem?_eq_getElem hl), h3] at hr
    cases f with
    | zero => cases hr
    | succ f => simp [rRun] at hr
theorem run_s {vs : Nat → Int32} {f : Nat} {L : List Int32} {st q : List Bool} (h : rRun vs f L st = some q) : ∃ f', f = f' + 1 := by
  cases f with
  | zero => cases h
  | succ f => exact ⟨f, rfl⟩
