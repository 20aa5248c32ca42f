/-! ===== chains of moves: what placeOn reads off a chain is what 'where' finds ===== -/
abbrev MV : Type := Int32 × Int32 × Int32
def plc (d q : Int32) : List MV → Int32 → Int32
  | [], at_ => at_
  | m :: r, at_ => if d < m.2.1 then at_ else plc d q r (if q < m.2.2 then at_ else m.1)
def pl2 (d q : Int32) : List MV → Int32 × Int32 → Int32 × Int32
  | [], x => x
  | m :: r, x => if d < m.2.1 then x else pl2 d q r (if q < m.2.2 then x else (m.1, m.2.1))
theorem plc_pl2 (d q : Int32) : ∀ (l : List MV) (x : Int32 × Int32), plc d q l x.1 = (pl2 d q l x).1
  | [], x => rfl
  | m :: r, x => by
    unfold plc pl2
    split
    · rfl
    · rw [← plc_pl2 d q r]
      split <;> rfl
def insR (m : MV) : List MV → List MV
  | [] => [m]
  | b :: r => if m.2.1 < b.2.1 then m :: b :: r else b :: insR m r
def ins (m : MV) : List MV → List MV
  | [] => [m]
  | a :: r => a :: insR m r
/-- the chain of child c after n moves -/
def mch (g : Nat → Nat → Int32) (c : Nat) : Nat → List MV
  | 0 => [(0, g 9 c, g 9 c)]
  | n + 1 => if g 18 n = nI c then ins (g 19 n, g 20 n, g 21 n) (mch g c n) else mch g c n
def srt (lo : Int32) : List MV → Prop
  | [] => True
  | m :: r => ¬ m.2.1 < lo ∧ srt m.2.1 r
theorem i32_nlt {a b : Int32} : ¬ a < b ↔ b.toInt ≤ a.toInt := by rw [Int32.lt_iff_toInt_lt]; omega
theorem i32_lt {a b : Int32} : a < b ↔ a.toInt < b.toInt := Int32.lt_iff_toInt_lt
theorem srt_lo {lo lo' : Int32} {l : List MV} (h : ¬ lo < lo') (hs : srt lo l) : srt lo' l := by
  cases l with
  | nil => trivial
  | cons m r => exact ⟨by have := hs.1; rw [i32_nlt] at *; omega, hs.2⟩
theorem srt_insR {m : MV} : ∀ {l : List MV} {lo : Int32}, srt lo l → ¬ m.2.1 < lo → srt lo (insR m l)
  | [], lo, _, h => ⟨h, trivial⟩
  | b :: r, lo, hs, h => by
    unfold insR
    split
    · rename_i hb
      exact ⟨h, by rw [i32_nlt]; rw [i32_lt] at hb; omega, hs.2⟩
    · rename_i hb
      exact ⟨hs.1, srt_insR hs.2 hb⟩
/-- whatever the start: a chain either changes nothing or ends at one of its own -/
theorem pl2_two (d q : Int32) : ∀ (l : List MV) (lo : Int32), srt lo l → (∀ x, pl2 d q l x = x) ∨ ∃ z : Int32 × Int32, ¬ z.2 < lo ∧ ∀ x, pl2 d q l x = z
  | [], lo, _ => Or.inl fun _ => rfl
  | m :: r, lo, hs => by
    by_cases h1 : d < m.2.1
    · exact Or.inl fun x => by simp [pl2, h1]
    · rcases pl2_two d q r m.2.1 hs.2 with h | ⟨z, hz, h⟩
      · by_cases h2 : q < m.2.2
        · exact Or.inl fun x => by simp [pl2, h1, h2, h]
        · exact Or.inr ⟨(m.1, m.2.1), hs.1, fun x => by simp [pl2, h1, h2, h]⟩
      · refine Or.inr ⟨z, ?_, fun x => by simp [pl2, h1, h]⟩
        have := hs.1
        rw [i32_nlt] at *
        omega
theorem pl2_insR (d q : Int32) (m : MV) : ∀ (l : List MV) (x : Int32 × Int32), srt x.2 l → ¬ m.2.1 < x.2 → pl2 d q (insR m l) x = (if ¬ q < m.2.2 ∧ ¬ d < m.2.1 ∧ ¬ m.2.1 < (pl2 d q l x).2 then (m.1, m.2.1) else pl2 d q l x)
  | [], x, _, hx => by
    by_cases h1 : d < m.2.1 <;> by_cases h2 : q < m.2.2 <;> simp [insR, pl2, h1, h2, hx]
  | b :: r, x, hs, hx => by
    unfold insR
    split
    · rename_i hb
      have hsb : srt b.2.1 (b :: r) := ⟨by rw [i32_nlt]; omega, hs.2⟩
      by_cases h1 : d < m.2.1
      · have h3 : d < b.2.1 := by rw [i32_lt] at *; omega
        simp [pl2, h1, h3]
      · by_cases h2 : q < m.2.2
        · rw [show pl2 d q (m :: b :: r) x = pl2 d q (b :: r) x by rw [pl2, if_neg h1, if_pos h2]]
          simp [h2]
        · rw [show pl2 d q (m :: b :: r) x = pl2 d q (b :: r) (m.1, m.2.1) by rw [pl2, if_neg h1, if_neg h2]]
          rcases pl2_two d q (b :: r) b.2.1 hsb with h | ⟨z, hz, h⟩
          · rw [h, h]
            simp [h1, h2, hx]
          · rw [h, h]
            have : m.2.1 < z.2 := by rw [i32_nlt] at hz; rw [i32_lt] at *; omega
            simp [this]
    · rename_i hb
      by_cases h1 : d < b.2.1
      · have h3 : d < m.2.1 := by rw [i32_nlt] at hb; rw [i32_lt] at *; omega
        simp [pl2, h1, h3]
      · by_cases h2 : q < b.2.2
        · have ih := pl2_insR d q m r x (srt_lo hs.1 hs.2) hx
          rw [show pl2 d q (b :: insR m r) x = pl2 d q (insR m r) x by rw [pl2, if_neg h1, if_pos h2], show pl2 d q (b :: r) x = pl2 d q r x by rw [pl2, if_neg h1, if_pos h2]]
          exact ih
        · have ih := pl2_insR d q m r (b.1, b.2.1) hs.2 hb
          rw [show pl2 d q (b :: insR m r) x = pl2 d q (insR m r) (b.1, b.2.1) by rw [pl2, if_neg h1, if_neg h2], show pl2 d q (b :: r) x = pl2 d q r (b.1, b.2.1) by rw [pl2, if_neg h1, if_neg h2]]
          exact ih
/-- what stands fast of the reference's children and moves -/
def mIv (g : Nat → Nat → Int32) (nw nc nm : Nat) : Prop := (∀ c, c < nc → ∃ d, d ≤ nw ∧ g 9 c = nI d) ∧ (∀ m, m < nm → ∃ c d f t q : Nat, c < nc ∧ g 18 m = nI c ∧ g 9 c = nI d ∧ g 20 m = nI f ∧ g 21 m = nI t ∧ g 19 m = nI q ∧ d ≤ f ∧ f ≤ t ∧ t ≤ nw ∧ q ≤ 15)
theorem mIv_mv {g : Nat → Nat → Int32} {nw nc nm c n : Nat} (hw : nw ≤ 2000) (hcc : nc ≤ 60) (h : mIv g nw nc nm) (hn : n < nm) (hc : c < nc) (e : g 18 n = nI c) : ¬ g 20 n < g 9 c ∧ ¬ g 21 n < g 9 c ∧ ¬ g 21 n < g 20 n := by
  obtain ⟨c', d, f, t, q, h1, h2, h3, h4, h5, h6, h7, h8, h9, h10⟩ := h.2 n hn
  have : c = c' := (nI_eq (by omega) (by omega)).mp (e.symm.trans h2)
  subst this
  rw [h3, h4, h5]
  exact ⟨nI_nlt h7 (by omega), nI_nlt (by omega) (by omega), nI_nlt h8 (by omega)⟩
theorem mch_cons {g : Nat → Nat → Int32} {nw nc nm c : Nat} (hw : nw ≤ 2000) (hcc : nc ≤ 60) (h : mIv g nw nc nm) (hc : c < nc) : ∀ n, n ≤ nm → ∃ r, mch g c n = (0, g 9 c, g 9 c) :: r ∧ srt (g 9 c) r
  | 0, _ => ⟨[], rfl, trivial⟩
  | n + 1, hn => by
    obtain ⟨r, h1, h2⟩ := mch_cons hw hcc h hc n (by omega)
    unfold mch
    split
    · rename_i e
      refine ⟨insR (g 19 n, g 20 n, g 21 n) r, by rw [h1]; rfl, srt_insR h2 (mIv_mv hw hcc h (by omega) hc e).1⟩
    · exact ⟨r, h1, h2⟩
theorem mch_wh {g : Nat → Nat → Int32} {nw nc nm c : Nat} (hw : nw ≤ 2000) (hcc : nc ≤ 60) (h : mIv g nw nc nm) (hc : c < nc) (d q : Int32) (ht : mThere g c d q = true) : ∀ n, n ≤ nm → (pl2 d q (mch g c n) (-1, -1)).1 = (mWh g (nI c) d q n).1 ∧ ((pl2 d q (mch g c n) (-1, -1)).2 = (mWh g (nI c) d q n).2 ∨ ((mWh g (nI c) d q n).2 = -1 ∧ (pl2 d q (mch g c n) (-1, -1)).2 = g 9 c)) := by
  have ht2 : ¬ d < g 9 c ∧ ¬ q < g 9 c := by simpa [mThere] using ht
  obtain ⟨db, hdb, edb⟩ := h.1 c hc
  have hm1 : ¬ g 9 c < -1 := by
    rw [edb, i32_nlt, nI_toInt (by omega)]
    have : (-1 : Int32).toInt = -1 := by decide
    omega
  intro n
  induction n with
  | zero =>
    intro _
    simp [mch, pl2, mWh, ht2.1, ht2.2]
  | succ n ih =>
    intro hn
    obtain ⟨i1, i2⟩ := ih (by omega)
    unfold mch
    split
    · rename_i e
      obtain ⟨k1, k2, k3⟩ := mIv_mv hw hcc h (by omega) hc e
      obtain ⟨r, h1, h2⟩ := mch_cons hw hcc h hc n (by omega)
      rw [h1] at i1 i2 ⊢
      have e1 : ∀ l, pl2 d q ((0, g 9 c, g 9 c) :: l) (-1, -1) = pl2 d q l (0, g 9 c) := fun l => by rw [pl2, if_neg ht2.1, if_neg ht2.2]
      rw [ins, e1] at *
      have e2 := pl2_insR d q (g 19 n, g 20 n, g 21 n) r (0, g 9 c) h2 k1
      rw [e2]
      dsimp only
      have key : (¬ g 20 n < (pl2 d q r (0, g 9 c)).2) ↔ ¬ g 20 n < (mWh g (nI c) d q n).2 := by
        rcases i2 with q1 | ⟨q1, q2⟩
        · rw [q1]
        · rw [q1, q2]
          constructor
          · intro _
            rw [i32_nlt] at *
            omega
          · intro _; exact k1
      unfold mWh
      by_cases z1 : q < g 21 n
      · simp only [z1, not_true_eq_false, false_and, and_false, if_false]
        exact ⟨i1, i2⟩
      · by_cases z2 : d < g 20 n
        · simp only [z2, not_true_eq_false, false_and, and_false, if_false]
          exact ⟨i1, i2⟩
        · by_cases z3 : g 20 n < (mWh g (nI c) d q n).2
          · have z4 : ¬ ¬ g 20 n < (pl2 d q r (0, g 9 c)).2 := fun z => (key.mp z) z3
            rw [if_neg (fun z => z4 z.2.2), if_neg (fun z => z.2.2.2 z3)]
            exact ⟨i1, i2⟩
          · have z4 := key.mpr z3
            rw [if_pos ⟨z1, z2, z4⟩, if_pos ⟨e, z1, z2, z3⟩]
            exact ⟨rfl, Or.inl rfl⟩
    · rename_i e
      have e3 : mWh g (nI c) d q (n + 1) = mWh g (nI c) d q n := by
        rw [mWh, if_neg (fun z => e z.1)]
      rw [e3]
      exact ⟨i1, i2⟩
/-- no move of a child ahead of its coming is known -/
theorem plc_late {d q : Int32} : ∀ (l : List MV) (a : Int32), (∀ m ∈ l, q < m.2.2) → plc d q l a = a
  | [], a, _ => rfl
  | m :: r, a, h => by
    unfold plc
    split
    · rfl
    · rw [if_pos (h m List.mem_cons_self)]
      exact plc_late r a (fun z hz => h z (List.mem_cons_of_mem _ hz))
theorem insR_mem {m z : MV} : ∀ {l : List MV}, z ∈ insR m l → z = m ∨ z ∈ l
  | [], h => by simpa [insR] using h
  | b :: r, h => by
    unfold insR at h
    split at h
    · simpa using h
    · rcases List.mem_cons.mp h with e | e
      · exact Or.inr (by rw [e]; exact List.mem_cons_self)
      · rcases insR_mem e with e | e
        · exact Or.inl e
        · exact Or.inr (List.mem_cons_of_mem _ e)
theorem ins_mem {m z : MV} {l : List MV} (h : z ∈ ins m l) : z = m ∨ z ∈ l := by
  cases l with
  | nil => simpa [ins] using h
  | cons a r =>
    rcases List.mem_cons.mp h with e | e
    · exact Or.inr (by rw [e]; exact List.mem_cons_self)
    · rcases insR_mem e with e | e
      · exact Or.inl e
      · exact Or.inr (List.mem_cons_of_mem _ e)
theorem mch_mem {g : Nat → Nat → Int32} {c : Nat} {z : MV} : ∀ {n : Nat}, z ∈ mch g c n → z = (0, g 9 c, g 9 c) ∨ ∃ k, k < n ∧ g 18 k = nI c ∧ z = (g 19 k, g 20 k, g 21 k)
  | 0, h => by simpa [mch] using h
  | n + 1, h => by
    unfold mch at h
    split at h
    · rename_i e
      rcases ins_mem h with q | q
      · exact Or.inr ⟨n, by omega, e, q⟩
      · rcases mch_mem q with q | ⟨k, h1, h2⟩
        · exact Or.inl q
        · exact Or.inr ⟨k, by omega, h2⟩
    · rcases mch_mem h with q | ⟨k, h1, h2⟩
      · exact Or.inl q
      · exact Or.inr ⟨k, by omega, h2⟩
/-- placeOn over the chain: where the reference says, or -1 -/
theorem plc_mch {g : Nat → Nat → Int32} {nw nc nm c : Nat} (hw : nw ≤ 2000) (hcc : nc ≤ 60) (h : mIv g nw nc nm) (hc : c < nc) (d q : Int32) : plc d q (mch g c nm) (-1) = if mThere g c d q = true then (mWh g (nI c) d q nm).1 else -1 := by
  by_cases ht : mThere g c d q = true
  · rw [if_pos ht, ← (mch_wh hw hcc h hc d q ht nm (Nat.le_refl _)).1]
    exact plc_pl2 d q _ (-1, -1)
  · rw [if_neg ht]
    obtain ⟨r, h1, h2⟩ := mch_cons hw hcc h hc nm (Nat.le_refl _)
    by_cases hd : d < g 9 c
    · rw [h1, plc, if_pos hd]
    · have hq : q < g 9 c := by
        apply Decidable.byContradiction
        intro hq
        exact ht (by simp [mThere, hd, hq])
      refine plc_late _ _ (fun m hm => ?_)
      rcases mch_mem hm with e | ⟨k, k1, k2, e⟩
      · rw [e]; exact hq
      · rw [e]
        have := (mIv_mv hw hcc h k1 hc k2).2.1
        dsimp only
        rw [i32_nlt] at this
        rw [i32_lt] at *
        omega
