theorem cOv_eq {g : Nat → Nat → Int32} {nw nc nm : Nat} (hw : nw ≤ 2000) (hcc : nc ≤ 60) (h : mIv g nw nc nm) {a : Int32} (ha : ¬ a = -1) {f : Nat} (hf : f ≤ nw) {many : Int32} : cOv g nw nc nm a f many = mOver g nw nc nm a f many := by
  rw [Bool.eq_iff_iff, mOver_iff hw hcc h ha hf]
  unfold cOv
  rw [Bool.or_eq_true, anyB_iff, decide_eq_true_eq]
  constructor
  · rintro (h1 | ⟨c, h1, h2⟩)
    · exact ⟨f, Nat.le_refl _, hf, h1⟩
    · rw [List.any_eq_true] at h2
      obtain ⟨m, m1, m2⟩ := h2
      simp only [cOvM, Bool.and_eq_true, decide_eq_true_eq] at m2
      obtain ⟨t, ht, et⟩ := (mch_told hw hcc h h1 m m1).2.2
      have h3 := m2.1.2
      rw [et, nI_ltI (by omega) (by omega)] at h3
      exact ⟨t, by omega, ht, by rw [← et]; exact m2.2⟩
  · rintro ⟨d, h1, h2, h3⟩
    have key : ∀ j, f + j ≤ nw → many < nI (mMany g nm a (nI (f + j)) (nI nw) nc) → (many < nI (mMany g nm a (nI f) (nI nw) nc)) ∨ ∃ c, c < nc ∧ (mch g c nm).any (cOvM g nw nc nm a f many) = true := by
      intro j
      induction j with
      | zero => intro q1 q2; exact Or.inl q2
      | succ j ih =>
        intro q1 q2
        by_cases hb : many < nI (mMany g nm a (nI (f + j)) (nI nw) nc)
        · exact ih (by omega) hb
        · right
          have l1 := mMany_le g nm a (nI (f + j)) (nI nw) nc
          have l2 := mMany_le g nm a (nI (f + (j + 1))) (nI nw) nc
          have hl : mMany g nm a (nI (f + j)) (nI nw) nc < mMany g nm a (nI (f + (j + 1))) (nI nw) nc := by
            rw [i32_nlt, nI_toInt (by omega)] at hb
            rw [i32_lt, nI_toInt (by omega)] at q2
            omega
          rw [← cMny_eq hw hcc h ha _ _ nc (Nat.le_refl _), ← cMny_eq hw hcc h ha _ _ nc (Nat.le_refl _)] at hl
          obtain ⟨c, m, c1, c2, c3, c4⟩ := cMny_more hw hcc h (a := a) (d := f + j) (by omega) nc (Nat.le_refl _) hl
          refine ⟨c, c1, List.any_eq_true.mpr ⟨m, c2, ?_⟩⟩
          have e4 : m.2.1 = nI (f + (j + 1)) := c4
          simp only [cOvM, Bool.and_eq_true, decide_eq_true_eq]
          rw [e4]
          exact ⟨⟨c3, nI_lt (by omega) (by omega)⟩, q2⟩
    exact key (d - f) (by omega) (by rw [show f + (d - f) = d by omega]; exact h3)
theorem bitc : ∀ w, w < 20 → ((nI w &&& 31).toBitVec.smod 32).toNat = w := by decide +kernel
theorem bit1 : ∀ w, w < 20 → ∀ i, i < 20 → ((1 : Int32) <<< (nI w &&& 31)).toBitVec.getLsbD i = decide (i = w) := by decide +kernel
theorem bit_and (y : Int32) : (y &&& 1) = 0 ↔ y.toBitVec.getLsbD 0 = false := by
  constructor
  · intro h
    have h2 := congrArg (fun z : Int32 => z.toBitVec.getLsbD 0) h
    simpa using h2
  · intro h
    apply Int32.toBitVec_inj.mp
    apply BitVec.eq_of_getLsbD_eq
    intro i hi
    rw [Int32.toBitVec_and, BitVec.getLsbD_and]
    by_cases h0 : i = 0
    · subst h0
      rw [h]
      rfl
    · have : (1 : Int32).toBitVec.getLsbD i = false := by
        have e : (1 : Int32).toBitVec = 1#32 := rfl
        rw [e, BitVec.getLsbD_one]
        simp [h0]
      rw [this, Bool.and_false]
      exact (BitVec.getLsbD_zero).symm
theorem bit_iff (x : Int32) {w : Nat} (hw : w < 20) : ((x >>> (nI w &&& 31)) &&& 1) = 0 ↔ x.toBitVec.getLsbD w = false := by
  rw [bit_and, Int32.toBitVec_shiftRight]
  have e := bitc w hw
  rw [show x.toBitVec.sshiftRight' ((nI w &&& 31).toBitVec.smod 32) = x.toBitVec.sshiftRight w by rw [BitVec.sshiftRight', e]]
  rw [BitVec.getLsbD_sshiftRight]
  simp [show w < 32 by omega]
theorem ak_flip {g : Nat → Nat → Int32} {c w : Nat} {a : Int32} {tb : Bool} (hw : w < 20) (h : akOK g c a) (hne : ¬ bB (!(decide (((a >>> (nI w &&& 31)) &&& 1) = 0))) = bB tb) : akOK (upd2 g 17 (20 * c + w) (bB tb)) c (a ^^^ ((1 : Int32) <<< (nI w &&& 31))) := by
  intro i hi
  rw [bit_iff _ hi, Int32.toBitVec_xor, BitVec.getLsbD_xor, bit1 w hw i hi]
  have hb := bit_iff a hw
  rw [bB_inj] at hne
  by_cases e : i = w
  · subst e
    rw [upd2_at, bB_0]
    cases hx : a.toBitVec.getLsbD i
    · rw [hx] at hb
      have := hb.mpr rfl
      cases tb <;> simp_all
    · have : ¬ ((a >>> (nI i &&& 31)) &&& 1) = 0 := fun z => by rw [hb.mp z] at hx; cases hx
      cases tb <;> simp_all
  · rw [upd2_i _ _ _ (by omega), ← h i hi, bit_iff a hi]
    simp [e]

theorem ak_t {x : Int32} {tb : Bool} (h : x = 0 ∨ x = 1) (c : ¬ bB (!(decide (x = 0))) = bB tb) : x = bB (!tb) := by
  rcases h with rfl | rfl <;> cases tb <;> simp_all [bB]
theorem ak_f {x : Int32} {tb : Bool} (h : x = 0 ∨ x = 1) (c : bB (!(decide (x = 0))) = bB tb) : x = bB tb := by
  rcases h with rfl | rfl <;> cases tb <;> simp_all [bB]

section CN
variable {ca : Nat → ClassId} {cnt : Nat → Nat} {ad : Nat → Nat → Nat} {ct : Nat → Nat → va_E} {v : Nat → Int32} {g g' : Nat → Nat → Int32} {nw nb nc nm tp : Nat}
/-- nurse j's beds have changed -/
theorem cN_bed {j : Nat} {fN lk : Nat → Option Nat} {b : Int32} (h9 : cnt 9 = 12) (f3 : ct 3 0 = .inl (ca 5, 13, aQ fN)) (hNd : ∀ i, i < 12 → fN (i + 1) = some (ad 9 i) ∧ ct 9 i = .inr (6, [.int (g 22 (i + 1)), va_rf (Option.map (ad 10) (lk i))]) ∧ ∃ l, lks cnt ad ct (lk i) l ∧ lkOK g nw (i + 1) l) : cN ca cnt ad (upd2 ct 9 j (.inr (6, [.int b, va_rf (Option.map (ad 10) (lk j))]))) (upd2 g 22 (j + 1) b) nw := by
  refine ⟨h9, fN, lk, by rw [upd2_k _ _ _ _ (by decide)]; exact f3, fun i hi => ?_⟩
  obtain ⟨q1, q2, l, q3, q4, q5⟩ := hNd i hi
  refine ⟨q1, ?_, l, lks_up (by decide) q3, q4, fun d hd => by rw [upd2_k _ _ _ _ (by decide)]; exact q5 d hd⟩
  by_cases h : i = j
  · subst h; rw [upd2_at, upd2_at]
  · rw [upd2_i _ _ _ h, upd2_i _ _ _ (by omega), q2]
end CN

theorem nI_n1 {n : Nat} (h : n < 2 ^ 31) : ¬ nI n = -1 := fun e => by
  have h2 := congrArg Int32.toInt e
  rw [nI_toInt h] at h2
  have : (-1 : Int32).toInt = -1 := by decide
  omega
