theorem isIn_ok {j n : Nat} (h : j < n) (hn : n < 1000000) : isIn (nI j) 0 (nI n - 1) = true := by
  cases n with
  | zero => omega
  | succ n =>
    rw [nI_pred]
    exact (isIn_nI (a := j) (b := 0) (c := n) (by omega) (by decide) (by omega)).mpr ⟨Nat.zero_le _, by omega⟩
def sAw (f : Nat → Int32) (n j : Nat) : Int32 × (Nat → Int32) := if firstB (fun k => decide (upd f j 3 k = 1)) n < n then (nI (firstB (fun k => decide (upd f j 3 k = 1)) n), upd (upd f j 3) (firstB (fun k => decide (upd f j 3 k = 1)) n) 0) else (-1, upd f j 3)
theorem cBall_0 {n : Nat} {f : Nat → Int32} {a : Int32} (hn : n ≤ 20) (h : cBall n f a = 0) : ∃ j, j < n ∧ a = nI j ∧ f j = 0 := by
  unfold cBall at h
  split at h
  · rename_i e
    obtain ⟨j, hj, rfl⟩ := isIn_nat (by omega) e
    rw [nI_clamp (by omega)] at h
    exact ⟨j, hj, rfl, h⟩
  · exact absurd h (by decide)
theorem cBall_n0 {n : Nat} {f : Nat → Int32} {a : Int32} (hn : n ≤ 20) (h : ¬ cBall n f a = 0) : isIn a 0 (nI n - 1) = false ∨ ∃ j, j < n ∧ a = nI j ∧ ¬ f j = 0 := by
  unfold cBall at h
  split at h
  · rename_i e
    obtain ⟨j, hj, rfl⟩ := isIn_nat (by omega) e
    rw [nI_clamp (by omega)] at h
    exact Or.inr ⟨j, hj, rfl, h⟩
  · rename_i e
    exact Or.inl (by simpa using e)
theorem firstB_cong {p q : Nat → Bool} : ∀ {n : Nat}, (∀ k, k < n → p k = q k) → firstB p n = firstB q n
  | 0, _ => rfl
  | n + 1, h => by
    unfold firstB
    rw [firstB_cong (fun k hk => h k (by omega)), h n (by omega)]
theorem mWom_ok {g : Nat → Nat → Int32} {nb n b j : Nat} (hb : nb ≤ 50) (hn : n ≤ 20) (hb1 : b < nb) (hj : j < n) (hg : g 6 b = nI n) : mWom g nb (nI b) (nI j) = true := by
  unfold mWom
  rw [nI_clamp (by omega), hg, isIn_ok hb1 (by omega), isIn_ok hj (by omega)]
  rfl
theorem away_eq {v : Nat → Int32} {g : Nat → Nat → Int32} {nb n b j : Nat} {f : Nat → Int32} (hb : nb ≤ 50) (hn : n ≤ 20) (hb1 : b < nb) (hj : j < n) (hg : g 6 b = nI n) (hf : ∀ i, i < n → f i = g 7 (20 * b + i)) (h0 : f j = 0) : mAwayW v g nb (nI b) (nI j) = ((sAw f n j).1, v, (mAwayW v g nb (nI b) (nI j)).2.2) ∧ (∀ i, i < n → (sAw f n j).2 i = (mAwayW v g nb (nI b) (nI j)).2.2 7 (20 * b + i)) ∧ (∀ q, (q < 20 * b ∨ 20 * b + 20 ≤ q) → (mAwayW v g nb (nI b) (nI j)).2.2 7 q = g 7 q) ∧ (∀ k, k ≠ 7 → ∀ i, (mAwayW v g nb (nI b) (nI j)).2.2 k i = g k i) := by
  have hc : (mWom g nb (nI b) (nI j) && decide (g 7 (20 * b + j) = 0)) = true := by
    rw [mWom_ok hb hn hb1 hj hg, ← hf j hj, h0]; rfl
  have hF : ∀ k, k < n → upd f j 3 k = upd2 g 7 (20 * b + j) 3 7 (20 * b + k) := by
    intro k hk
    by_cases e : k = j
    · subst e; rw [upd_at, upd2_at]
    · rw [upd_ne _ _ e, upd2_i _ _ _ (by omega), hf k hk]
  have e1 : firstB (fun k => decide (upd2 g 7 (20 * b + j) 3 7 (20 * b + k) = 1)) n = firstB (fun k => decide (upd f j 3 k = 1)) n := firstB_cong (fun k hk => by rw [hF k hk])
  have e2 : mAwayW v g nb (nI b) (nI j) = if firstB (fun k => decide (upd f j 3 k = 1)) n < n then (nI (firstB (fun k => decide (upd f j 3 k = 1)) n), v, upd2 (upd2 g 7 (20 * b + j) 3) 7 (20 * b + firstB (fun k => decide (upd f j 3 k = 1)) n) 0) else (-1, v, upd2 g 7 (20 * b + j) 3) := by
    unfold mAwayW
    rw [nI_clamp (n := b) (by omega), nI_clamp (n := j) (by omega), if_pos hc]
    dsimp only
    rw [hg, nI_clamp (n := n) (by omega), e1]
  rw [e2]
  unfold sAw
  generalize firstB (fun k => decide (upd f j 3 k = 1)) n = r
  by_cases hr : r < n
  · rw [if_pos hr, if_pos hr]
    refine ⟨rfl, fun i hi => ?_, fun q hq => ?_, fun k hk i => ?_⟩
    · by_cases e : i = r
      · subst e
        show upd (upd f j 3) i 0 i = upd2 _ 7 (20 * b + i) 0 7 (20 * b + i)
        rw [upd_at, upd2_at]
      · show upd (upd f j 3) r 0 i = upd2 _ 7 (20 * b + r) 0 7 (20 * b + i)
        rw [upd_ne _ _ e, upd2_i _ _ _ (by omega), hF i hi]
    · show upd2 _ 7 (20 * b + r) 0 7 q = _
      rw [upd2_i _ _ _ (by omega), upd2_i _ _ _ (by omega)]
    · show upd2 _ 7 (20 * b + r) 0 k i = _
      rw [upd2_k _ _ _ _ hk, upd2_k _ _ _ _ hk]
  · rw [if_neg hr, if_neg hr]
    refine ⟨rfl, fun i hi => hF i hi, fun q hq => ?_, fun k hk i => ?_⟩
    · show upd2 g 7 (20 * b + j) 3 7 q = _
      rw [upd2_i _ _ _ (by omega)]
    · show upd2 g 7 (20 * b + j) 3 k i = _
      rw [upd2_k _ _ _ _ hk]
section CB
variable {ca : Nat → ClassId} {cnt : Nat → Nat} {ad : Nat → Nat → Nat} {ct : Nat → Nat → va_E} {v : Nat → Int32} {g g' : Nat → Nat → Int32} {nw nb nc nm tp : Nat}
/-- ballot b's balls have changed -/
theorem cB_set {b n : Nat} {f' : Nat → Int32} {fB : Nat → Option Nat} (h4 : cnt 4 = nb) (h5 : cnt 5 = nb) (f1 : ct 1 0 = .inl (ca 3, 50, aQ fB)) (hBd : ∀ b, b < nb → fB b = some (ad 4 b) ∧ ct 4 b = .inr (0, [.ref (ad 5 b)]) ∧ ∃ (n : Nat) (f : Nat → Int32), n ≤ 20 ∧ g 6 b = nI n ∧ ct 5 b = .inl (ca 1, n, .inl f) ∧ ∀ i, i < n → f i = g 7 (20 * b + i)) (hn : n ≤ 20) (hgn : g 6 b = nI n) (hf : ∀ i, i < n → f' i = g' 7 (20 * b + i)) (hq : ∀ q, (q < 20 * b ∨ 20 * b + 20 ≤ q) → g' 7 q = g 7 q) (h6 : ∀ i, g' 6 i = g 6 i) : cB ca cnt ad (upd2 ct 5 b (.inl (ca 1, n, .inl f'))) g' nb := by
  refine ⟨h4, h5, fB, by rw [upd2_k _ _ _ _ (by decide)]; exact f1, fun c hc => ?_⟩
  obtain ⟨q1, q2, n', f, q3, q4, q5, q6⟩ := hBd c hc
  refine ⟨q1, by rw [upd2_k _ _ _ _ (by decide)]; exact q2, ?_⟩
  by_cases e : c = b
  · subst e
    exact ⟨n, f', hn, by rw [h6]; exact hgn, upd2_at _ _ _ _, hf⟩
  · refine ⟨n', f, q3, by rw [h6]; exact q4, by rw [upd2_i _ _ _ e]; exact q5, fun i hi => ?_⟩
    rw [hq _ (by omega)]
    exact q6 i hi
end CB
theorem cT_end {ca : Nat → ClassId} {cnt : Nat → Nat} {ad : Nat → Nat → Nat} {ct : Nat → Nat → va_E} {v : Nat → Int32} {g : Nat → Nat → Int32} {tp sz a : Nat} (htp : tp < 2) (hs : v 27 = nI sz) (hs2 : sz ≤ 100) (ha : a ≤ sz) (h : cT ca cnt ad ct v g tp) : cT ca cnt ad (upd2 ct 11 tp (.inr (8, [.ref (ad 12 tp), .int (nI a)]))) (upd v 27 (nI a)) g tp := by
  obtain ⟨t1, t2, t3, t4, sz', n, nr, rt, b0, b1, vs, p1, p2, a1, a2, a3, a4, a5, f1, f2, f3, f4, f5, f6, a6, a7⟩ := h
  have e : sz' = sz := (nI_eq (by omega) (by omega)).mp (a1.symm.trans hs)
  subst e
  refine ⟨t1, t2, t3, t4, a, n, nr, rt, b0, b1, vs, p1, p2, upd_at _ _ _, by omega, a3, by rw [upd_ne _ _ (by decide)]; exact a4, a5, upd2_at _ _ _ _, by rw [upd2_i _ _ _ (by omega)]; exact f2, by rw [upd2_k _ _ _ _ (by decide)]; exact f3, by rw [upd2_k _ _ _ _ (by decide)]; exact f4, by rw [upd2_k _ _ _ _ (by decide)]; exact f5, by rw [upd2_k _ _ _ _ (by decide)]; exact f6, fun j hj => a6 j (by omega), a7⟩
theorem cX_v {cnt : Nat → Nat} {ad : Nat → Nat → Nat} {ct : Nat → Nat → va_E} {v v' : Nat → Int32} {nw nb nc nm tp : Nat} (h4 : v' 4 = v 4) (h5 : v' 5 = v 5) (h : cX cnt ad ct v nw nb nc nm tp) : cX cnt ad ct v' nw nb nc nm tp := by
  obtain ⟨q1, q2, q3, q4, q5⟩ := h
  exact ⟨q1, q2, q3, q4, by rw [h4, h5]; exact q5⟩
