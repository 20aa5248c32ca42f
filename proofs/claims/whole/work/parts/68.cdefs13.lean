/-- what fault answers -/
def mFau (g : Nat → Nat → Int32) (tn : Nat) : Int32 := match pTop (tC (g 24) tn) tn with | .inl e => nI e | .inr _ => -1
theorem mFau_e {g : Nat → Nat → Int32} {tn e : Nat} (h : pTop (tC (g 24) tn) tn = .inl e) : mFau g tn = nI e := by unfold mFau; rw [h]
theorem mFau_k {g : Nat → Nat → Int32} {tn : Nat} {q : Nat × List Int32} (h : pTop (tC (g 24) tn) tn = .inr q) : mFau g tn = -1 := by unfold mFau; rw [h]
theorem rq_same {ad : Nat → Nat → Nat} {ct : Nat → Nat → va_E} {t : Nat} {a f : Int32} (h : ct 13 0 = .inr (7, [.ref (ad 14 0), .ref (ad 11 t), .int a, .int f])) : rq ad ct t a f = ct := upd2_same h
section CRD
variable {ca : Nat → ClassId} {cnt : Nat → Nat} {ad : Nat → Nat → Nat} {ct : Nat → Nat → va_E} {v v' : Nat → Int32} {g g' : Nat → Nat → Int32} {nw nb nc nm tp t : Nat} {x y : Int32}
/-- the reader has read -/
theorem cT_rd (htp : tp < 2) (ht : t < 2) (h : cT ca cnt ad ct v g tp) : cT ca cnt ad (rq ad ct t x y) v g tp := by
  obtain ⟨t1, t2, t3, t4, sz, n, nr, rt, b0, b1, vs, p1, p2, a1, a2, a3, a4, a5, z1, z2, z3, z4, z5, z6, a6, a7⟩ := h
  exact ⟨t1, t2, t3, t4, sz, n, nr, t, b0, b1, vs, x, y, a1, a2, a3, a4, ht, (upd2_k _ _ _ _ (by decide)).trans z1, (upd2_k _ _ _ _ (by decide)).trans z2, (upd2_k _ _ _ _ (by decide)).trans z3, (upd2_k _ _ _ _ (by decide)).trans z4, upd2_at _ _ _ _, (upd2_k _ _ _ _ (by decide)).trans z6, a6, a7⟩
theorem cRep_rd (ht : t < 2) (h : cRep ca cnt ad ct v g nw nb nc nm) : cRep ca cnt ad (rq ad ct t x y) v g nw nb nc nm := by
  obtain ⟨hO, hIv, tp, htp, hX, hT, hB, hC, hN⟩ := h
  exact ⟨hO, hIv, tp, htp, cX_up (by decide) hX, cT_rd htp ht hT, cB_up (by decide) hB, cC_up (by decide) hC, cN_up (by decide) hN⟩
/-- the text on the tape comes into force -/
theorem cT_rule {sz a : Nat} {b0 : Nat → Int32} {L : List Int32} (htp : tp < 2) (h : cT ca cnt ad ct v g tp) (hsz : v 27 = nI sz) (hsz2 : sz ≤ 100) (h12 : ct 12 tp = .inl (ca 0, 100, .inl b0)) (hp : pTop (bC b0 sz) sz = .inr (a, L)) (h24 : ∀ i, g' 24 i = g 24 i) (hcd : cdOK g' L) (h5 : ¬ v 5 + 1 = 0) (h5' : v' 5 = v 5 + 1) (h27 : v' 27 = 0) (hx : ct 11 tp = .inr (8, [.ref (ad 12 tp), .int (nI sz)])) : cT ca cnt ad (upd2 ct 11 (1 - tp) (.inr (8, [.ref (ad 12 (1 - tp)), .int 0]))) v' g' (1 - tp) := by
  obtain ⟨t1, t2, t3, t4, sz', n, nr, rt, b0', b1, vs, p1, p2, a1, a2, a3, a4, a5, z1, z2, z3, z4, z5, z6, a6, a7⟩ := h
  have e1 : 1 - (1 - tp) = tp := by omega
  refine ⟨t1, t2, t3, t4, 0, sz, nr + 1, rt, b1, b0, vs, p1, p2, h27, by omega, hsz2, by rw [h5', a4, nI_1], a5, upd2_at _ _ _ _, ?_, ?_, ?_, ?_, ?_, fun j hj => absurd hj (Nat.not_lt_zero _), ⟨fun q => ?_, fun q => ⟨a, L, hp, hcd⟩⟩⟩
  · rw [e1, upd2_i _ _ _ (by omega)]; exact hx
  · rw [upd2_k _ _ _ _ (by decide)]; exact z4
  · rw [e1, upd2_k _ _ _ _ (by decide)]; exact h12
  · rw [upd2_k _ _ _ _ (by decide)]; exact z5
  · rw [upd2_k _ _ _ _ (by decide)]; exact z6
  · exact absurd (by rw [a4, nI_1]; exact q) h5
theorem cX_rule (htp : tp < 2) (h : cX cnt ad ct v nw nb nc nm tp) {ct' : Nat → Nat → va_E} (h0 : ct' 0 0 = .inr (9, [.int (nI nw), .int (nI nb), .int (nI nc), .int (nI nm), .int (v 4), .int (v 5 + 1), .ref (ad 1 0), .ref (ad 2 0), .ref (ad 3 0), .ref (ad 11 (1 - tp)), .ref (ad 11 tp), .ref (ad 13 0)])) (h4 : v' 4 = v 4) (h5 : v' 5 = v 5 + 1) : cX cnt ad ct' v' nw nb nc nm (1 - tp) := by
  obtain ⟨q1, q2, q3, q4, q5⟩ := h
  refine ⟨q1, q2, q3, q4, ?_⟩
  rw [show 1 - (1 - tp) = tp by omega, h4, h5]
  exact h0
end CRD

theorem l255 (i : Nat) : (255#32).getLsbD i = decide (i < 8) := by
  by_cases h : i < 8
  · have : i = 0 ∨ i = 1 ∨ i = 2 ∨ i = 3 ∨ i = 4 ∨ i = 5 ∨ i = 6 ∨ i = 7 := by omega
    rcases this with rfl | rfl | rfl | rfl | rfl | rfl | rfl | rfl <;> rfl
  · rw [decide_eq_false h]
    rw [BitVec.getLsbD_ofNat]
    have : Nat.testBit 255 i = false := Nat.testBit_lt_two_pow (Nat.lt_of_lt_of_le (by decide : 255 < 2 ^ 8) (Nat.pow_le_pow_right (by decide) (by omega)))
    simp [this]
theorem b8 (y : Int32) : (y.toInt8.toInt32) &&& 255 = y &&& 255 := by
  apply Int32.toBitVec_inj.mp
  apply BitVec.eq_of_getLsbD_eq
  intro i hi
  show ((y.toInt8.toInt32.toBitVec) &&& 255#32).getLsbD i = (y.toBitVec &&& 255#32).getLsbD i
  rw [BitVec.getLsbD_and, BitVec.getLsbD_and, l255]
  by_cases h : i < 8
  · have e : y.toInt8.toInt32.toBitVec.getLsbD i = y.toBitVec.getLsbD i := by
      show ((y.toBitVec.signExtend 8).signExtend 32).getLsbD i = _
      rw [BitVec.getLsbD_signExtend, BitVec.getLsbD_signExtend]
      simp [h, hi]
    rw [e]
  · simp [h]
theorem and255 (x : Int32) : (x &&& 255) &&& 255 = x &&& 255 := by
  apply Int32.toBitVec_inj.mp
  show (x.toBitVec &&& 255#32) &&& 255#32 = _
  rw [BitVec.and_assoc, BitVec.and_self]
  rfl
theorem shru (a : Int32) (k : Nat) (hk : k ≤ 24) : (⟨⟨a.toBitVec >>> k⟩⟩ : Int32) &&& 255 = (⟨⟨a.toBitVec.sshiftRight k⟩⟩ : Int32) &&& 255 := by
  apply Int32.toBitVec_inj.mp
  apply BitVec.eq_of_getLsbD_eq
  intro i hi
  show ((a.toBitVec >>> k) &&& 255#32).getLsbD i = ((a.toBitVec.sshiftRight k) &&& 255#32).getLsbD i
  rw [BitVec.getLsbD_and, BitVec.getLsbD_and, l255]
  by_cases h : i < 8
  · rw [BitVec.getLsbD_ushiftRight, BitVec.getLsbD_sshiftRight]
    have : k + i < 32 := by omega
    simp [this, show ¬ 32 ≤ i by omega]
    try omega
  · simp [h]
def sh8 (t : Nat) : Int32 := if t = 0 then 24 else if t = 1 then 16 else if t = 2 then 8 else if t = 3 then 0 else -8
def uB (a : Int32) (t : Nat) : Int32 := (a.toUInt32 >>> ((sh8 t).toUInt32 &&& Int32.toUInt32 31)).toInt32
theorem uB_eq (a : Int32) {t : Nat} (ht : t < 4) : uB a t &&& 255 = mByte a (3 - t) := by
  have h : t = 0 ∨ t = 1 ∨ t = 2 ∨ t = 3 := by omega
  rcases h with rfl | rfl | rfl | rfl
  · exact shru a 24 (by decide)
  · exact shru a 16 (by decide)
  · exact shru a 8 (by decide)
  · exact shru a 0 (by decide)

theorem sh8_4 {t : Nat} (ht : t ≤ 4) : (sh8 t < 0) ↔ t = 4 := by
  rcases (show t = 0 ∨ t = 1 ∨ t = 2 ∨ t = 3 ∨ t = 4 by omega) with rfl | rfl | rfl | rfl | rfl <;> decide
theorem sh8_s {t : Nat} (ht : t < 4) : sh8 t + -8 = sh8 (t + 1) := by
  rcases (show t = 0 ∨ t = 1 ∨ t = 2 ∨ t = 3 by omega) with rfl | rfl | rfl | rfl <;> decide
/-- the cells of a text behind one more byte -/
def adC (ca : Nat → ClassId) (ad : Nat → Nat → Nat) (ct : Nat → Nat → va_E) (i n : Nat) (b : Nat → Int32) (a : Int32) : Nat → Nat → va_E := if a = 0 then ct else upd2 (upd2 ct 12 i (.inl (ca 0, 100, .inl (upd b n (a.toInt8.toInt32.toInt8.toInt32))))) 11 i (.inr (8, [.ref (ad 12 i), .int (nI (n + 1))]))
def fB8 (b : Nat → Int32) (sz : Nat) (a : Int32) : Nat → Nat → Int32
  | 0 => b
  | t + 1 => if mByte a (3 - t) = 0 then fB8 b sz a t else upd (fB8 b sz a t) (sz + mFs a t) ((mByte a (3 - t)).toInt8.toInt32.toInt8.toInt32)
abbrev fdC (ca : Nat → ClassId) (ad : Nat → Nat → Nat) (ct : Nat → Nat → va_E) (tp sz : Nat) (b : Nat → Int32) (a : Int32) (t : Nat) : Nat → Nat → va_E := upd2 (upd2 ct 12 tp (.inl (ca 0, 100, .inl (fB8 b sz a t)))) 11 tp (.inr (8, [.ref (ad 12 tp), .int (nI (sz + mFs a t))]))
theorem fd_step {ca : Nat → ClassId} {ad : Nat → Nat → Nat} {ct : Nat → Nat → va_E} {tp sz : Nat} {b : Nat → Int32} {a : Int32} {t : Nat} : adC ca ad (fdC ca ad ct tp sz b a t) tp (sz + mFs a t) (fB8 b sz a t) (mByte a (3 - t)) = fdC ca ad ct tp sz b a (t + 1) := by
  unfold adC fdC
  rw [fB8, mFs]
  by_cases h : mByte a (3 - t) = 0
  · rw [if_pos h, if_pos h, if_pos h, Nat.add_zero]
  · rw [if_neg h, if_neg h, if_neg h, upd2_cm _ _ _ _ _ (show (11 : Nat) ≠ 12 by decide), upd2_2, upd2_2, Nat.add_assoc]
theorem fB8_eq {g : Nat → Nat → Int32} {b : Nat → Int32} {sz : Nat} {a : Int32} (h : ∀ j, j < sz → b j &&& 255 = g 24 j) : ∀ t j, j < sz + mFs a t → fB8 b sz a t j &&& 255 = mFg g sz a t 24 j
  | 0, j, hj => h j hj
  | t + 1, j, hj => by
    rw [fB8, mFg]
    rw [mFs] at hj
    by_cases q : mByte a (3 - t) = 0
    · rw [if_pos q, if_pos q]
      rw [if_pos q] at hj
      exact fB8_eq h t j hj
    · rw [if_neg q, if_neg q]
      rw [if_neg q] at hj
      by_cases e : j = sz + mFs a t
      · subst e
        rw [upd_at, upd2_at, b8, b8]
        exact and255 _
      · rw [upd_ne _ _ e, upd2_i _ _ _ e]
        exact fB8_eq h t j (by omega)
theorem mFg_o {g : Nat → Nat → Int32} {sz : Nat} {a : Int32} {k : Nat} (hk : k ≠ 24) : ∀ t i, mFg g sz a t k i = g k i
  | 0, i => rfl
  | t + 1, i => by
    rw [mFg]
    split
    · exact mFg_o hk t i
    · rw [upd2_k _ _ _ _ hk]; exact mFg_o hk t i
/-- the tape is longer -/
theorem cT_feed {ca : Nat → ClassId} {cnt : Nat → Nat} {ad : Nat → Nat → Nat} {ct : Nat → Nat → va_E} {v v' : Nat → Int32} {g g' : Nat → Nat → Int32} {tp sz' : Nat} {b' : Nat → Int32} (htp : tp < 2) (h : cT ca cnt ad ct v g tp) (h5 : v' 5 = v 5) (h27 : v' 27 = nI sz') (hs : sz' ≤ 100) (h24 : ∀ j, j < sz' → b' j &&& 255 = g' 24 j) (h25 : ∀ i, g' 25 i = g 25 i) : cT ca cnt ad (upd2 (upd2 ct 12 tp (.inl (ca 0, 100, .inl b'))) 11 tp (.inr (8, [.ref (ad 12 tp), .int (nI sz')]))) v' g' tp := by
  obtain ⟨t1, t2, t3, t4, sz, n, nr, rt, b0, b1, vs, p1, p2, a1, a2, a3, a4, a5, z1, z2, z3, z4, z5, z6, a6, a7⟩ := h
  refine ⟨t1, t2, t3, t4, sz', n, nr, rt, b', b1, vs, p1, p2, h27, hs, a3, by rw [h5]; exact a4, a5, upd2_at _ _ _ _, ?_, ?_, ?_, ?_, ?_, h24, rl_g h25 a7⟩
  · rw [upd2_i _ _ _ (by omega), upd2_k _ _ _ _ (by decide)]; exact z2
  · rw [upd2_k _ _ _ _ (by decide), upd2_at]
  · rw [upd2_k _ _ _ _ (by decide), upd2_i _ _ _ (by omega)]; exact z4
  · rw [upd2_k _ _ _ _ (by decide), upd2_k _ _ _ _ (by decide)]; exact z5
  · rw [upd2_k _ _ _ _ (by decide), upd2_k _ _ _ _ (by decide)]; exact z6
