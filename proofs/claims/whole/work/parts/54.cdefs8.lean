section CG
variable {ca : Nat → ClassId} {cnt cnt' : Nat → Nat} {ad ad' : Nat → Nat → Nat} {ct ct' : Nat → Nat → va_E} {v v' : Nat → Int32} {g : Nat → Nat → Int32} {nw nb nc nm tp nw' nb' nc' nm' : Nat}
theorem agr_up {K i0 : Nat} {e : va_E} (hi : cnt K ≤ i0) (h : ∀ k i, i < cnt k → ct' k i = ct k i) : ∀ k i, i < cnt k → upd2 ct' K i0 e k i = ct k i := by
  intro k i q
  by_cases hk : k = K
  · subst hk
    rw [upd2_i _ _ _ (by omega)]
    exact h _ _ q
  · rw [upd2_k _ _ _ _ hk]
    exact h _ _ q
theorem cX_new (htp : tp < 2) (h11 : 1 < cnt 11) (h13 : 0 < cnt 13) (hle : ∀ k, cnt k ≤ cnt' k) (had : ∀ k i, i < cnt k → ad k i = ad' k i) (h : cX cnt ad ct v nw nb nc nm tp) (h0 : ct' 0 0 = .inr (9, [.int (nI nw'), .int (nI nb'), .int (nI nc'), .int (nI nm'), .int (v' 4), .int (v' 5), .ref (ad 1 0), .ref (ad 2 0), .ref (ad 3 0), .ref (ad 11 tp), .ref (ad 11 (1 - tp)), .ref (ad 13 0)])) : cX cnt' ad' ct' v' nw' nb' nc' nm' tp := by
  obtain ⟨q0, q1, q2, q3, q4⟩ := h
  exact ⟨Nat.lt_of_lt_of_le q0 (hle 0), Nat.lt_of_lt_of_le q1 (hle 1), Nat.lt_of_lt_of_le q2 (hle 2), Nat.lt_of_lt_of_le q3 (hle 3), by rw [h0, had 1 0 q1, had 2 0 q2, had 3 0 q3, had 11 tp (by omega), had 11 (1 - tp) (by omega), had 13 0 h13]⟩
theorem dwn_ne {n : Nat} {l : List Nat} (h : dwn (n + 1) l) (hn : n ∉ l) : dwn n l := by
  cases l with
  | nil => trivial
  | cons d r =>
    have h1 := h.1
    have : d ≠ n := fun e => hn (by rw [e]; simp)
    exact ⟨by omega, h.2⟩
theorem dwn_lt {n d : Nat} : ∀ {l : List Nat}, dwn n l → d ∈ l → d < n
  | [], _, h => by cases h
  | e :: r, h, hd => by
    rcases List.mem_cons.mp hd with q | q
    · rw [q]; exact h.1
    · exact Nat.lt_trans (dwn_lt h.2 q) h.1
theorem lk_no {n : Nat} {l : List Nat} (h : lkOK g nw n l) (hw : nw ≤ 2000) (hl : nw ∉ l) : g 23 (2001 * n + nw) = 0 := by
  have := h.2 nw hw
  by_cases e : g 23 (2001 * n + nw) = 0
  · exact e
  · exact absurd (this.mp e) hl
theorem lk_head {n d : Nat} {r : List Nat} (h : lkOK g nw n (d :: r)) (hd : d ≠ nw) : nw ∉ d :: r := by
  intro q
  rcases List.mem_cons.mp q with q | q
  · exact hd q.symm
  · have h1 := h.1.1
    have h2 := dwn_lt h.1.2 q
    omega
/-- nurse j has been looked at -/
theorem cN_look {j i1 : Nat} {fN lk : Nat → Option Nat} (e9 : cnt' 9 = cnt 9) (h3 : 0 < cnt 3) (hle : ∀ k, cnt k ≤ cnt' k) (had : ∀ k i, i < cnt k → ad k i = ad' k i) (hct : ∀ k i, i < cnt k → ct' k i = ct k i) (h9 : cnt 9 = 12) (f3 : ct 3 0 = .inl (ca 5, 13, aQ fN)) (hNd : ∀ i, i < 12 → fN (i + 1) = some (ad 9 i) ∧ ct 9 i = .inr (6, [.int (g 22 (i + 1)), va_rf (Option.map (ad 10) (lk i))]) ∧ ∃ l, lks cnt ad ct (lk i) l ∧ lkOK g nw (i + 1) l) (hj : j < 12) (hi1 : i1 < cnt' 10) (hc1 : ct' 10 i1 = .inr (4, [.int (nI nw), va_rf (Option.map (ad 10) (lk j))])) (hno : g 23 (2001 * (j + 1) + nw) = 0) (hw : nw ≤ 2000) : cN ca cnt' ad' (upd2 ct' 9 j (.inr (6, [.int (g 22 (j + 1)), .ref (ad' 10 i1)]))) (upd2 g 23 (2001 * (j + 1) + nw) 1) nw := by
  refine ⟨e9.trans h9, fN, fun n => if n = j then some i1 else lk n, by rw [upd2_k _ _ _ _ (by decide), hct 3 0 h3]; exact f3, fun i hi => ?_⟩
  obtain ⟨q1, q2, l, q3, q4, q5⟩ := hNd i hi
  obtain ⟨z1, z2⟩ := lks_ext hle had hct q3
  by_cases e : i = j
  · subst e
    have hnl : nw ∉ l := fun q => (q5 nw hw).mpr q hno
    refine ⟨by rw [← had 9 i (by omega)]; exact q1, by dsimp only; rw [upd2_at, upd2_k _ _ _ _ (by decide), if_pos rfl]; rfl, nw :: l, ⟨i1, lk i, by dsimp only; rw [if_pos rfl], hi1, by rw [upd2_k _ _ _ _ (by decide), hc1, map_ext (k := 10) had z2], lks_up (by decide) z1⟩, ⟨by omega, dwn_ne q4 hnl⟩, fun d hd => ?_⟩
    by_cases e2 : d = nw
    · subst e2
      rw [upd2_at]
      simp
    · rw [upd2_i _ _ _ (by omega), q5 d hd]
      simp [e2]
  · refine ⟨by rw [← had 9 i (by omega)]; exact q1, by dsimp only; rw [upd2_i _ _ _ e, hct 9 i (by omega), q2, map_ext (k := 10) had z2, upd2_k _ _ _ _ (by decide), if_neg e], l, by dsimp only; rw [if_neg e]; exact lks_up (by decide) z1, q4, fun d hd => ?_⟩
    rw [upd2_i _ _ _ (by omega)]
    exact q5 d hd
end CG
