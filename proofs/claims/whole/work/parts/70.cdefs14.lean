abbrev vsC (ca : Nat → ClassId) (ct : Nat → Nat → va_E) (vs : Nat → Int32) : Nat → Nat → va_E := upd2 ct 14 0 (.inl (ca 1, 5, .inl vs))
theorem rw_st {ca : Nat → ClassId} {ad : Nat → Nat → Nat} {ct : Nat → Nat → va_E} {vs vs' : Nat → Int32} {t : Nat} {a f : Int32} : upd2 (rq ad (vsC ca ct vs) t a f) 14 0 (.inl (ca 1, 5, .inl vs')) = rq ad (vsC ca ct vs') t a f := by
  unfold rq vsC
  rw [upd2_cm _ _ _ _ _ (show (14 : Nat) ≠ 13 by decide), upd2_2]
  first | exact upd2_cm _ _ _ _ _ (by decide) | exact (upd2_cm _ _ _ _ _ (by decide)).symm
theorem cRep_vs {ca : Nat → ClassId} {cnt : Nat → Nat} {ad : Nat → Nat → Nat} {ct : Nat → Nat → va_E} {v : Nat → Int32} {g : Nat → Nat → Int32} {nw nb nc nm t : Nat} {x y : Int32} {vs : Nat → Int32} (ht : t < 2) (h : cRep ca cnt ad ct v g nw nb nc nm) : cRep ca cnt ad (rq ad (vsC ca ct vs) t x y) v g nw nb nc nm := by
  obtain ⟨hO, hIv, tp, htp, hX, hT, hB, hC, hN⟩ := h
  refine cRep_rd ht ⟨hO, hIv, tp, htp, cX_up (by decide) hX, ?_, cB_up (by decide) hB, cC_up (by decide) hC, cN_up (by decide) hN⟩
  obtain ⟨t1, t2, t3, t4, sz, n, nr, rt, b0, b1, vs', p1, p2, a1, a2, a3, a4, a5, z1, z2, z3, z4, z5, z6, a6, a7⟩ := hT
  exact ⟨t1, t2, t3, t4, sz, n, nr, rt, b0, b1, vs, p1, p2, a1, a2, a3, a4, a5, (upd2_k _ _ _ _ (by decide)).trans z1, (upd2_k _ _ _ _ (by decide)).trans z2, (upd2_k _ _ _ _ (by decide)).trans z3, (upd2_k _ _ _ _ (by decide)).trans z4, (upd2_k _ _ _ _ (by decide)).trans z5, upd2_at _ _ _ _, a6, a7⟩
theorem gone_open {g : Nat → Nat → Int32} {nw nc nm c : Nat} (hw : nw ≤ 2000) (hcc : nc ≤ 60) (h : mIv g nw nc nm) (hc : c < nc) : cGone g nw nm c (nI nw) = !(mOpen g nw nm (nI c)) := by
  obtain ⟨d, hd, e⟩ := h.1 c hc
  have ht : mThere g c (nI nw) (nI nw) = true := by
    have := nI_nlt (a := nw) (b := d) hd (by omega)
    simp [mThere, e, this]
  unfold cGone mOpen
  rw [plc_mch hw hcc h hc, if_pos ht]
  simp
theorem cAg_eq (g : Nat → Nat → Int32) (c : Nat) (a b s m : Int32) : cAg (g 9 c) (g 10 c) (g 11 c) a b s m = mAgr g c a b s m := by
  unfold cAg mAgr
  rw [show decide (g 10 c = s) = decide (s = g 10 c) from decide_eq_decide.mpr eq_comm, show decide (g 11 c = m) = decide (m = g 11 c) from decide_eq_decide.mpr eq_comm]
theorem dg_num (p s1 s2 m1 m2 : Bool) (hs : (s1 && s2) = false) (hm : (m1 && m2) = false) : bB (!p) + bB (!s1 && !s2) + bB (!m1 && !m2) = (1 + bB (!s1) + bB (!m1)) - (bB p + bB s2 + bB m2) := by
  cases p <;> cases s1 <;> cases s2 <;> cases m1 <;> cases m2 <;> first | rfl | (exact absurd hs (by decide)) | (exact absurd hm (by decide))
theorem cDg_eq {g : Nat → Nat → Int32} {c : Nat} (h : ¬ g 10 c = -1 ∧ ¬ g 11 c = -1) (a b s m : Int32) : cDg (g 9 c) (g 10 c) (g 11 c) a b s m = mFct s m - mAgr g c a b s m := by
  have hs : (decide (s = -1) && decide (g 10 c = s)) = false := by
    by_cases q : s = -1
    · subst q; simp [h.1]
    · simp [q]
  have hm : (decide (m = -1) && decide (g 11 c = m)) = false := by
    by_cases q : m = -1
    · subst q; simp [h.2]
    · simp [q]
  have e := dg_num (isIn (g 9 c) a b) (decide (s = -1)) (decide (g 10 c = s)) (decide (m = -1)) (decide (g 11 c = m)) hs hm
  rw [← cAg_eq]
  unfold cDg cAg mFct
  rw [e]
  congr 2
  · congr 1
    by_cases q : s = -1 <;> simp [q, bB]
  · by_cases q : m = -1 <;> simp [q, bB]
theorem dg_0 (p s1 s2 m1 m2 : Bool) (hs : (s1 && s2) = false) (hm : (m1 && m2) = false) : (bB (!p) + bB (!s1 && !s2) + bB (!m1 && !m2) = 0) ↔ (bB p + bB s2 + bB m2 = 1 + bB (!s1) + bB (!m1)) := by
  cases p <;> cases s1 <;> cases s2 <;> cases m1 <;> cases m2 <;> first | decide | (exact absurd hs (by decide)) | (exact absurd hm (by decide))
theorem cDg_0 {g : Nat → Nat → Int32} {c : Nat} (h : ¬ g 10 c = -1 ∧ ¬ g 11 c = -1) (a b s m : Int32) : cDg (g 9 c) (g 10 c) (g 11 c) a b s m = 0 ↔ mAgr g c a b s m = mFct s m := by
  have hs : (decide (s = -1) && decide (g 10 c = s)) = false := by
    by_cases q : s = -1
    · subst q; simp [h.1]
    · simp [q]
  have hm : (decide (m = -1) && decide (g 11 c = m)) = false := by
    by_cases q : m = -1
    · subst q; simp [h.2]
    · simp [q]
  have e := dg_0 (isIn (g 9 c) a b) (decide (s = -1)) (decide (g 10 c = s)) (decide (m = -1)) (decide (g 11 c = m)) hs hm
  rw [← cAg_eq]
  unfold cDg cAg mFct
  rw [e, show bB (!decide (s = -1)) = (if s = -1 then 0 else 1) by by_cases q : s = -1 <;> simp [q, bB], show bB (!decide (m = -1)) = (if m = -1 then 0 else 1) by by_cases q : m = -1 <;> simp [q, bB]]
/-- what a text says of the values: nothing, if it fails -/
def hdR (R : PR) (vs : Nat → Int32) : Bool := match R with | .inl _ => false | .inr q => rB vs q.2
def cFnd (g : Nat → Nat → Int32) (nw nm k : Nat) (R : PR) (a1 a2 a3 a4 a5 a6 : Int32) : Nat → Int32
  | 0 => -1
  | c + 1 => if mOpen g nw nm (nI c) = true ∧ hdR R (mVs g nw k c a1 a2 a3 a4 a5 a6) = true then (if cFnd g nw nm k R a1 a2 a3 a4 a5 a6 c = -1 then nI c else -2) else cFnd g nw nm k R a1 a2 a3 a4 a5 a6 c
theorem cFnd_k {g : Nat → Nat → Int32} {nw nm k a : Nat} {L : List Int32} {R : PR} (h : R = .inr (a, L)) (a1 a2 a3 a4 a5 a6 : Int32) : ∀ n, cFnd g nw nm k R a1 a2 a3 a4 a5 a6 n = mFnd g nw nm k L a1 a2 a3 a4 a5 a6 n
  | 0 => rfl
  | n + 1 => by
    rw [cFnd, mFnd, cFnd_k h a1 a2 a3 a4 a5 a6 n, h]
    rfl
theorem cFnd_e {g : Nat → Nat → Int32} {nw nm k e : Nat} {R : PR} (h : R = .inl e) (a1 a2 a3 a4 a5 a6 : Int32) : ∀ n, cFnd g nw nm k R a1 a2 a3 a4 a5 a6 n = -1
  | 0 => rfl
  | n + 1 => by
    rw [cFnd, cFnd_e h a1 a2 a3 a4 a5 a6 n, h]
    simp [hdR]
theorem rRun_cg {vs vs' : Nat → Int32} (h : ∀ l, vL vs l = vL vs' l) : ∀ f L st, rRun vs f L st = rRun vs' f L st := by
  have ht : ∀ l s x, rTs vs l s x = rTs vs' l s x := fun l s x => by unfold rTs; rw [h]
  intro f
  induction f with
  | zero => intro L st; rfl
  | succ f ih =>
    intro L st
    rcases L with _ | ⟨c, r⟩
    · rfl
    · unfold rRun
      split
      · split
        · rw [ih, ht]
        · rfl
      · split
        · split
          · rw [ih]
          · rfl
        · rfl
theorem rB_cg {vs vs' : Nat → Int32} (h : ∀ k, k < 5 → vs k = vs' k) (L : List Int32) : rB vs L = rB vs' L := by
  unfold rB
  rw [rRun_cg (fun l => by unfold vL; rw [h 0 (by omega), h 1 (by omega), h 2 (by omega), h 3 (by omega), h 4 (by omega)])]
theorem vs5 {vs : Nat → Int32} (a b c d e : Int32) : ∀ k, k < 5 → upd (upd (upd (upd (upd vs 0 a) 1 b) 2 c) 3 d) 4 e k = vF a b c d e k := by
  intro k hk
  rcases (show k = 0 ∨ k = 1 ∨ k = 2 ∨ k = 3 ∨ k = 4 by omega) with rfl | rfl | rfl | rfl | rfl <;> rfl
theorem pTop_0 {c : Nat → Int32} (h : c 0 = -1) : pTop c 0 = .inl 0 := by
  have hs : pSk c 0 0 = 0 := pSk_n (by omega)
  have hu : ∀ r, pU c 0 r 0 = .inl 0 := fun r => (pUn_t hs.symm (by rw [h]; decide)).trans (pTe_1 (by rw [h]; decide))
  exact pTop_e (pSeq_e (pSeq_e (hu 8)))

theorem cl_ok {tx : Nat → Int32} {n nr : Nat} {v : Nat → Int32} {g : Nat → Nat → Int32} {nw nc nm : Nat} {a1 a2 a3 a4 a5 a6 : Int32} {rv : Option Value} (h : rlOK tx n nr g) (h5 : v 5 = nI nr) (hok : mClOK a1 a2 a3 a4 a5 a6 = true) (hr : rv = some (.int (cFnd g nw nm (mClr g nw nm a3 a4 a5 a6 nc) (pTop (tC tx n) n) a1 a2 a3 a4 a5 a6 nc))) : ∃ L, (¬ v 5 = 0 → cdOK g L) ∧ rv = some (.int (mClaim v g nw nc nm L a1 a2 a3 a4 a5 a6)) := by
  subst hr
  by_cases q : v 5 = 0
  · refine ⟨[], fun z => absurd q z, ?_⟩
    obtain rfl := h.1 (by rw [← h5]; exact q)
    rw [cFnd_e (pTop_0 (tC_ge (by omega)))]
    simp [mClaim, hok, q]
  · obtain ⟨a, L, h1, h2⟩ := h.2 (by rw [← h5]; exact q)
    refine ⟨L, fun _ => h2, ?_⟩
    rw [cFnd_k h1]
    simp [mClaim, hok, q]
theorem cl_no {tx : Nat → Int32} {n nr : Nat} {v : Nat → Int32} {g : Nat → Nat → Int32} {nw nc nm : Nat} {a1 a2 a3 a4 a5 a6 : Int32} {rv : Option Value} (h : rlOK tx n nr g) (h5 : v 5 = nI nr) (hok : mClOK a1 a2 a3 a4 a5 a6 = false) (hr : rv = some (.int (-3))) : ∃ L, (¬ v 5 = 0 → cdOK g L) ∧ rv = some (.int (mClaim v g nw nc nm L a1 a2 a3 a4 a5 a6)) := by
  subst hr
  by_cases q : v 5 = 0
  · exact ⟨[], fun z => absurd q z, by simp [mClaim, hok]⟩
  · obtain ⟨a, L, h1, h2⟩ := h.2 (by rw [← h5]; exact q)
    exact ⟨L, fun _ => h2, by simp [mClaim, hok]⟩
