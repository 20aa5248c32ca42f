/-! ===== beds: what the class looks at is what the reference looks at ===== -/
theorem plc_val {d q : Int32} : ∀ (l : List MV) (x : Int32), plc d q l x = x ∨ ∃ m, m ∈ l ∧ ¬ d < m.2.1 ∧ m.1 = plc d q l x
  | [], x => Or.inl rfl
  | m :: r, x => by
    unfold plc
    by_cases h : d < m.2.1
    · simp [h]
    · rw [if_neg h]
      by_cases h2 : q < m.2.2
      · rw [if_pos h2]
        rcases plc_val r x with e | ⟨z, z1, z2, z3⟩
        · exact Or.inl e
        · exact Or.inr ⟨z, List.mem_cons_of_mem _ z1, z2, z3⟩
      · rw [if_neg h2]
        rcases plc_val r m.1 with e | ⟨z, z1, z2, z3⟩
        · exact Or.inr ⟨m, List.mem_cons_self, h, e.symm⟩
        · exact Or.inr ⟨z, List.mem_cons_of_mem _ z1, z2, z3⟩
theorem srt_mem {z : MV} : ∀ {l : List MV} {lo : Int32}, srt lo l → z ∈ l → ¬ z.2.1 < lo
  | m :: r, lo, hs, hz => by
    rcases List.mem_cons.mp hz with e | e
    · rw [e]; exact hs.1
    · have h1 := srt_mem hs.2 e
      have h2 := hs.1
      rw [i32_nlt] at *
      omega
/-- from one day to the next a chain changes only by a move from that day -/
theorem plc_step {d : Nat} {q : Int32} (hd : d < 1000000) : ∀ (l : List MV) (x : Int32) (lo : Int32), srt lo l → (∀ m ∈ l, ¬ q < m.2.2) → plc (nI (d + 1)) q l x = plc (nI d) q l x ∨ ∃ m, m ∈ l ∧ m.2.1 = nI (d + 1) ∧ m.1 = plc (nI (d + 1)) q l x
  | [], x, lo, _, _ => Or.inl rfl
  | m :: r, x, lo, hs, hq => by
    by_cases h0 : nI d < m.2.1
    · by_cases h1 : nI (d + 1) < m.2.1
      · left
        unfold plc
        rw [if_pos h0, if_pos h1]
      · right
        have em : m.2.1 = nI (d + 1) := by
          apply Int32.toInt_inj.mp
          rw [i32_lt, nI_toInt (by omega)] at h0
          rw [i32_nlt, nI_toInt (by omega)] at h1
          rw [nI_toInt (by omega)]
          omega
        have e1 : plc (nI (d + 1)) q (m :: r) x = plc (nI (d + 1)) q r m.1 := by rw [plc, if_neg h1, if_neg (hq m List.mem_cons_self)]
        rw [e1]
        rcases plc_val (d := nI (d + 1)) (q := q) r m.1 with e | ⟨z, z1, z2, z3⟩
        · exact ⟨m, List.mem_cons_self, em, e.symm⟩
        · refine ⟨z, List.mem_cons_of_mem _ z1, ?_, z3⟩
          have h3 := srt_mem hs.2 z1
          apply Int32.toInt_inj.mp
          rw [em, i32_nlt] at h3
          rw [i32_nlt] at z2
          omega
    · have h1 : ¬ nI (d + 1) < m.2.1 := by
        rw [i32_nlt, nI_toInt (by omega)] at *
        omega
      have ih := plc_step hd r m.1 m.2.1 hs.2 (fun z hz => hq z (List.mem_cons_of_mem _ hz))
      have e1 : plc (nI (d + 1)) q (m :: r) x = plc (nI (d + 1)) q r m.1 := by rw [plc, if_neg h1, if_neg (hq m List.mem_cons_self)]
      have e2 : plc (nI d) q (m :: r) x = plc (nI d) q r m.1 := by rw [plc, if_neg h0, if_neg (hq m List.mem_cons_self)]
      rw [e1, e2]
      rcases ih with e | ⟨z, z1, z2, z3⟩
      · exact Or.inl e
      · exact Or.inr ⟨z, List.mem_cons_of_mem _ z1, z2, z3⟩
theorem mOvX {b : Bool} {w a : Int32} (ha : ¬ a = -1) : ((if b = true then w else -1) = a) ↔ (b = true ∧ w = a) := by
  cases b
  · simp only [Bool.false_eq_true, if_false, false_and, iff_false]
    exact fun q => ha q.symm
  · simp
/-- how many of the first n children a chain puts at a place -/
def cMny (g : Nat → Nat → Int32) (nm : Nat) (a d q : Int32) : Nat → Nat
  | 0 => 0
  | n + 1 => cMny g nm a d q n + (if plc d q (mch g n nm) (-1) = a then 1 else 0)
theorem cMny_eq {g : Nat → Nat → Int32} {nw nc nm : Nat} (hw : nw ≤ 2000) (hcc : nc ≤ 60) (h : mIv g nw nc nm) {a : Int32} (ha : ¬ a = -1) (d q : Int32) : ∀ n, n ≤ nc → cMny g nm a d q n = mMany g nm a d q n
  | 0, _ => rfl
  | n + 1, hn => by
    unfold cMny mMany
    rw [cMny_eq hw hcc h ha d q n (by omega), plc_mch hw hcc h (by omega)]
    congr 1
    by_cases hh : (if mThere g n d q = true then (mWh g (nI n) d q nm).1 else -1) = a
    · rw [if_pos hh, if_pos (⟨(mOvX ha).mp hh |>.1, (mOvX ha).mp hh |>.2⟩)]
    · rw [if_neg hh, if_neg (fun z => hh ((mOvX ha).mpr z))]
theorem mch_told {g : Nat → Nat → Int32} {nw nc nm c : Nat} (hw : nw ≤ 2000) (hcc : nc ≤ 60) (h : mIv g nw nc nm) (hc : c < nc) : ∀ m ∈ mch g c nm, ¬ nI nw < m.2.2 ∧ (m.2.1 = g 9 c ∨ ∃ k, k < nm ∧ m.2.1 = g 20 k) ∧ (∃ f, f ≤ nw ∧ m.2.1 = nI f) := by
  intro m hm
  obtain ⟨d, hd, ed⟩ := h.1 c hc
  rcases mch_mem hm with e | ⟨k, k1, k2, e⟩
  · rw [e]
    dsimp only
    rw [ed]
    exact ⟨nI_nlt hd (by omega), Or.inl rfl, d, hd, rfl⟩
  · obtain ⟨c', d', f, t, q, h1, h2, h3, h4, h5, h6, h7, h8, h9, h10⟩ := h.2 k k1
    rw [e]
    dsimp only
    rw [h5]
    exact ⟨nI_nlt h9 (by omega), Or.inr ⟨k, k1, rfl⟩, f, by omega, h4⟩
theorem mch_srt {g : Nat → Nat → Int32} {nw nc nm c : Nat} (hw : nw ≤ 2000) (hcc : nc ≤ 60) (h : mIv g nw nc nm) (hc : c < nc) : srt (g 9 c) (mch g c nm) := by
  obtain ⟨r, h1, h2⟩ := mch_cons hw hcc h hc nm (Nat.le_refl _)
  rw [h1]
  exact ⟨by rw [i32_nlt]; exact Int.le_refl _, h2⟩
/-- no change, no other number -/
theorem cMny_same {g : Nat → Nat → Int32} {nw nc nm : Nat} (hw : nw ≤ 2000) (hcc : nc ≤ 60) (h : mIv g nw nc nm) {a : Int32} {d : Nat} (hd : d < 1000000) (hch : mChg g nc nm (nI (d + 1)) = false) : ∀ n, n ≤ nc → cMny g nm a (nI (d + 1)) (nI nw) n = cMny g nm a (nI d) (nI nw) n
  | 0, _ => rfl
  | n + 1, hn => by
    unfold cMny
    rw [cMny_same hw hcc h hd hch n (by omega)]
    congr 2
    rcases plc_step (q := nI nw) hd (mch g n nm) (-1) (g 9 n) (mch_srt hw hcc h (by omega)) (fun m hm => (mch_told hw hcc h (by omega) m hm).1) with e | ⟨m, m1, m2, m3⟩
    · rw [e]
    · exfalso
      have hk := hch
      simp only [mChg, Bool.or_eq_false_iff] at hk
      rcases (mch_told hw hcc h (show n < nc by omega) m m1).2.1 with e | ⟨k, k1, e⟩
      · have := anyB_at (q := fun c => decide (g 9 c = nI (d + 1))) (show n < nc by omega) (by simp [← e, m2])
        rw [this] at hk
        exact absurd hk.2 (by decide)
      · have := anyB_at (q := fun m => decide (g 20 m = nI (d + 1))) k1 (by simp [← e, m2])
        rw [this] at hk
        exact absurd hk.1 (by decide)
/-- more than the day before: somebody's move there is from this day -/
theorem cMny_more {g : Nat → Nat → Int32} {nw nc nm : Nat} (hw : nw ≤ 2000) (hcc : nc ≤ 60) (h : mIv g nw nc nm) {a : Int32} {d : Nat} (hd : d < 1000000) : ∀ n, n ≤ nc → cMny g nm a (nI d) (nI nw) n < cMny g nm a (nI (d + 1)) (nI nw) n → ∃ c m, c < n ∧ m ∈ mch g c nm ∧ m.1 = a ∧ m.2.1 = nI (d + 1)
  | 0, _, hl => absurd hl (Nat.lt_irrefl _)
  | n + 1, hn, hl => by
    unfold cMny at hl
    by_cases hi : cMny g nm a (nI d) (nI nw) n < cMny g nm a (nI (d + 1)) (nI nw) n
    · obtain ⟨c, m, h1, h2⟩ := cMny_more hw hcc h hd n (by omega) hi
      exact ⟨c, m, by omega, h2⟩
    · by_cases h1 : plc (nI (d + 1)) (nI nw) (mch g n nm) (-1) = a
      · by_cases h2 : plc (nI d) (nI nw) (mch g n nm) (-1) = a
        · rw [if_pos h1, if_pos h2] at hl
          omega
        · rcases plc_step (q := nI nw) hd (mch g n nm) (-1) (g 9 n) (mch_srt hw hcc h (by omega)) (fun m hm => (mch_told hw hcc h (by omega) m hm).1) with e | ⟨m, m1, m2, m3⟩
          · exact absurd (e ▸ h1) h2
          · exact ⟨n, m, by omega, m1, m3.trans h1, m2⟩
      · rw [if_neg h1] at hl
        omega
/-- over on some day from f on -/
theorem mOver_iff {g : Nat → Nat → Int32} {nw nc nm : Nat} (hw : nw ≤ 2000) (hcc : nc ≤ 60) (h : mIv g nw nc nm) {a : Int32} (ha : ¬ a = -1) {f : Nat} (hf : f ≤ nw) {many : Int32} : mOver g nw nc nm a f many = true ↔ ∃ d, f ≤ d ∧ d ≤ nw ∧ many < nI (mMany g nm a (nI d) (nI nw) nc) := by
  unfold mOver
  rw [anyB_iff]
  constructor
  · rintro ⟨k, h1, h2⟩
    simp only [mOvK, Bool.and_eq_true, decide_eq_true_eq] at h2
    exact ⟨f + k, by omega, by omega, h2.2⟩
  · rintro ⟨d, h1, h2, h3⟩
    -- the least such day
    have key : ∀ j, f + j ≤ nw → many < nI (mMany g nm a (nI (f + j)) (nI nw) nc) → ∃ k, k < nw + 1 - f ∧ mOvK g nw nc nm a f many k = true := by
      intro j
      induction j with
      | zero => intro q1 q2; exact ⟨0, by omega, by simp only [mOvK, Bool.and_eq_true, Bool.or_eq_true, decide_eq_true_eq]; exact ⟨Or.inl trivial, q2⟩⟩
      | succ j ih =>
        intro q1 q2
        by_cases hc : mChg g nc nm (nI (f + (j + 1))) = true
        · exact ⟨j + 1, by omega, by simp only [mOvK, Bool.and_eq_true, Bool.or_eq_true, decide_eq_true_eq]; exact ⟨Or.inr hc, q2⟩⟩
        · refine ih (by omega) ?_
          have e := cMny_same hw hcc h (a := a) (d := f + j) (by omega) (by have q := Bool.eq_false_iff.mpr hc; exact q) nc (Nat.le_refl _)
          rw [cMny_eq hw hcc h ha _ _ nc (Nat.le_refl _), cMny_eq hw hcc h ha _ _ nc (Nat.le_refl _)] at e
          rw [← e]
          exact q2
    have := key (d - f) (by omega) (by rw [show f + (d - f) = d by omega]; exact h3)
    exact this
