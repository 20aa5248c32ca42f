def mPos (k : Nat) : Nat := if k = 32 then 21 else k - 6
def mfj (ad : Nat → Nat → Nat) (j : Nat) : List Value := (List.range 33).map (fun k => if mInt k = true then .int 0 else if mPos k < j then .ref (ad k 0) else .null)
theorem mfj_len (ad : Nat → Nat → Nat) (j : Nat) : (mfj ad j).length = 33 := by simp [mfj]
/-- the reference, with so many of its arrays made -/
def mI (ca : Nat → ClassId) (cnt : Nat → Nat) (ad : Nat → Nat → Nat) (ct : Nat → Nat → va_E) (j : Nat) : Prop := (∀ k, cnt k = if k = 33 ∨ (k < 33 ∧ mInt k = false ∧ mPos k < j) then 1 else 0) ∧ ct 33 0 = .inr (10, mfj ad j) ∧ ∀ k, k < 33 → mInt k = false → mPos k < j → ct k 0 = .inl (ca (if mZ k then 2 else 1), mlen k, .inl (fun _ => 0))
theorem mI_0 {ca : Nat → ClassId} {cnt : Nat → Nat} {ad : Nat → Nat → Nat} {ct : Nat → Nat → va_E} {j : Nat} (h : mI ca cnt ad ct j) {k : Nat} (hk : k < 33) (hj : mPos k = j) : cnt k = 0 := by
  rw [h.1 k, if_neg (fun q => by rcases q with q | q <;> omega)]
theorem mI_lt {ca : Nat → ClassId} {cnt : Nat → Nat} {ad : Nat → Nat → Nat} {ct : Nat → Nat → va_E} {j : Nat} (h : mI ca cnt ad ct j) {k : Nat} (hk : k < 33) : 0 < va_up cnt k (cnt k + 1) 33 := by
  rw [va_up_ne _ _ (by omega), h.1 33, if_pos (Or.inl rfl)]
  exact Nat.one_pos
theorem mI_at {ca : Nat → ClassId} {cnt : Nat → Nat} {ad : Nat → Nat → Nat} {ct : Nat → Nat → va_E} {j : Nat} (h : mI ca cnt ad ct j) {k i : Nat} {e : va_E} (hk : k < 33) : upd2 ct k i e 33 0 = .inr (10, mfj ad j) := by
  rw [upd2_k _ _ _ _ (by omega)]
  exact h.2.1
theorem mPos_inj {a b : Nat} (ha : a < 33) (hb : b < 33) (h1 : mInt a = false) (h2 : mInt b = false) (h : mPos a = mPos b) : a = b := by
  have key : ∀ a, a < 33 → ∀ b, b < 33 → mInt a = false → mInt b = false → mPos a = mPos b → a = b := by decide
  exact key a ha b hb h1 h2 h
theorem mI_step {ca : Nat → ClassId} {cnt : Nat → Nat} {ad : Nat → Nat → Nat} {ct : Nat → Nat → va_E} {j : Nat} (h : mI ca cnt ad ct j) (k : Nat) (q : Nat) {cA : ClassId} {N : Nat} (hk : k < 33) (hi : mInt k = false) (hj : mPos k = j) (hc : cA = ca (if mZ k then 2 else 1)) (hN : N = mlen k) : mI ca (va_up cnt k (cnt k + 1)) (upd2 ad k (cnt k) q) (upd2 (upd2 ct k (cnt k) (.inl (cA, N, .inl (fun _ => 0)))) 33 0 (.inr (10, (mfj ad j).set k (.ref q)))) (j + 1) := by
  have h0 := mI_0 h hk hj
  rw [h0, hc, hN]
  refine ⟨fun k' => ?_, ?_, fun k' k1 k2 k3 => ?_⟩
  · by_cases e : k' = k
    · subst e
      rw [va_up_self, if_pos (Or.inr ⟨hk, hi, by omega⟩)]
    · rw [va_up_ne _ _ e, h.1 k']
      by_cases a : k' = 33 ∨ (k' < 33 ∧ mInt k' = false ∧ mPos k' < j)
      · rw [if_pos a, if_pos (by rcases a with a | a; exact Or.inl a; exact Or.inr ⟨a.1, a.2.1, by omega⟩)]
      · rw [if_neg a, if_neg (fun z => a (by
          rcases z with z | ⟨z1, z2, z3⟩
          · exact Or.inl z
          · by_cases b : mPos k' < j
            · exact Or.inr ⟨z1, z2, b⟩
            · exact absurd (mPos_inj z1 hk z2 hi (by omega)) e))]
  · rw [upd2_at]
    congr 2
    apply List.ext_getElem?
    intro i
    rw [List.getElem?_set]
    unfold mfj
    rw [List.length_map, List.length_range, List.getElem?_map, List.getElem?_map]
    by_cases e : k = i
    · subst e
      rw [if_pos rfl, if_pos hk, List.getElem?_range hk]
      show _ = some _
      dsimp only
      rw [if_neg (by rw [hi]; decide), if_pos (by omega), upd2_at]
    · rw [if_neg e]
      by_cases hi33 : i < 33
      · rw [List.getElem?_range hi33]
        show some _ = some _
        dsimp only
        by_cases b : mInt i = true
        · rw [if_pos b, if_pos b]
        · rw [if_neg b, if_neg b]
          by_cases a : mPos i < j
          · rw [if_pos a, if_pos (by omega), upd2_k _ _ _ _ (Ne.symm e)]
          · rw [if_neg a, if_neg (fun z => e (mPos_inj hk hi33 hi (by simpa using b) (by omega)))]
      · rw [List.getElem?_eq_none (by simp; omega)]
        rfl
  · rw [upd2_k _ _ _ _ (by omega)]
    by_cases e : k' = k
    · subst e; rw [upd2_at]
    · rw [upd2_k _ _ _ _ e]
      exact h.2.2 k' k1 k2 (by
        by_cases b : mPos k' < j
        · exact b
        · exact absurd (mPos_inj k1 hk k2 hi (by omega)) e)
def gz : Nat → Nat → Int32 := fun _ _ => 0
theorem mI_cnt {ca : Nat → ClassId} {cnt : Nat → Nat} {ad : Nat → Nat → Nat} {ct : Nat → Nat → va_E} (h : mI ca cnt ad ct 22) : cnt = mcnt := by
  have key : ∀ k, k < 33 → mInt k = false → mPos k < 22 := by decide
  funext k
  rw [h.1 k]
  unfold mcnt
  by_cases e : k = 33
  · rw [if_pos (Or.inl e), if_pos e]
  · rw [if_neg e]
    by_cases b : k < 33 ∧ mInt k = false
    · rw [if_pos (Or.inr ⟨b.1, b.2, key k b.1 b.2⟩), if_pos b]
    · rw [if_neg (fun z => b (by rcases z with z | z; exact absurd z e; exact ⟨z.1, z.2.1⟩)), if_neg b]
theorem mfj_22 (ad : Nat → Nat → Nat) : mfj ad 22 = mfl ad v0 := by
  have key : ∀ k, k < 33 → mInt k = false → mPos k < 22 := by decide
  unfold mfj mfl
  refine List.map_congr_left (fun k hk => ?_)
  have hk := List.mem_range.mp hk
  by_cases b : mInt k = true
  · simp [b, v0]
  · have b2 : mInt k = false := by simpa using b
    simp [b2, key k hk b2]
theorem mI_ct {ca : Nat → ClassId} {ad : Nat → Nat → Nat} {ct : Nat → Nat → va_E} (h : mI ca mcnt ad ct 22) : ∀ k i, i < mcnt k → ct k i = mct ca ad v0 gz k i := by
  have key : ∀ k, k < 33 → mInt k = false → mPos k < 22 := by decide
  intro k i hi
  have h0 : i = 0 := by
    unfold mcnt at hi
    split at hi
    · omega
    · split at hi <;> omega
  subst h0
  unfold mct
  by_cases e : k = 33
  · subst e
    rw [if_pos rfl, h.2.1, mfj_22]
  · rw [if_neg e]
    have hk : k < 33 ∧ mInt k = false := by
      unfold mcnt at hi
      rw [if_neg e] at hi
      by_cases b : k < 33 ∧ mInt k = false
      · exact b
      · rw [if_neg b] at hi; omega
    rw [h.2.2 k hk.1 hk.2 (key k hk.1 hk.2)]
    rfl
def bdG (z : Nat) : Nat → Nat → Int32 := fun k i => if k = 22 ∧ 1 ≤ i ∧ i < z + 1 then 2 else 0
theorem bdG_0 : bdG 0 = gz := by
  funext k i
  unfold bdG gz
  rw [if_neg (by omega)]
theorem bdG_s (z : Nat) : upd2 (bdG z) 22 (z + 1) 2 = bdG (z + 1) := by
  funext k i
  unfold upd2 bdG
  by_cases h : k = 22 ∧ i = z + 1
  · rw [if_pos h, if_pos (by omega)]
  · rw [if_neg h]
    by_cases h2 : k = 22 ∧ 1 ≤ i ∧ i < z + 1
    · rw [if_pos h2, if_pos (by omega)]
    · rw [if_neg h2, if_neg (by omega)]
