/-! ===== the class's reader ===== -/
/-- the letters of tests, in the order of the values -/
def lF (j : Nat) : Int32 := if j = 0 then 111 else if j = 1 then 102 else if j = 2 then 119 else if j = 3 then 99 else 100
def lets (A : Nat → Prop) (U : State) : Prop := ∃ t : Nat, va_Z "ScrapHouse$Reader" "LETTERS" "[C" (.ref t) A U U.heap ∧ va_T .char t 5 (fun j => .int (lF j)) A U U.heap
theorem lets_blind {A : Nat → Prop} {U : State} {g : JFrame} {mk : MethodId} {a : Array Value} (h : lets A U) : lets A (U.calling g mk a) := by
  obtain ⟨t, h1, h2⟩ := h
  exact ⟨t, va_Z.moved (u := U) (U := U.calling g mk a) (Vm.Alike.refl U.vm) h1, va_T.moved (u := U) (U := U.calling g mk a) (Vm.Alike.refl U.vm) h2⟩
theorem lets_call {A : Nat → Prop} {s U : State} {D : va_G} {cnt : Nat → Nat} {ad : Nat → Nat → Nat} {ct : Nat → Nat → va_E} {H : Heap} {locs : List Loc} (h : lets A s) (hw : wd D A s.heap cnt ad ct H locs) (hU : U.heap = H) (hW : s.WarmedH U.vm) : lets (wA cnt ad H.size) U := by
  obtain ⟨t, h1, h2⟩ := h
  obtain ⟨-, g3, g4, g5⟩ := hw
  have hA : ∀ q, wA cnt ad H.size q → A q := by
    intro q h
    rcases h with ⟨k, i, hi, rfl⟩ | h
    · exact g3 k i hi
    · exact g5 q (Nat.le_trans g4.1 h)
  refine ⟨t, va_Z.moved hW.alike ?_, va_T.moved hW.alike ?_⟩
  · rw [hU]; exact (h1.kept g4.2.1).narrow hA
  · rw [hU]; exact (h2.kept g4.2.1).narrow hA
abbrev rdC (ad : Nat → Nat → Nat) (t : Nat) (a f : Int32) : va_E := .inr (7, [.ref (ad 14 0), .ref (ad 11 t), .int a, .int f])
abbrev rq (ad : Nat → Nat → Nat) (ct : Nat → Nat → va_E) (t : Nat) (a f : Int32) : Nat → Nat → va_E := upd2 ct 13 0 (rdC ad t a f)
section RQ
variable {ad : Nat → Nat → Nat} {ct : Nat → Nat → va_E} {t t' : Nat} {a f x : Int32}
theorem rq_1 : upd2 (rq ad ct t a f) 13 0 (.inr (7, [.ref (ad 14 0), .ref (ad 11 t), .int a, .int f].set 1 (.ref (ad 11 t')))) = rq ad ct t' a f := upd2_2 _ _ _ _ _
theorem rq_2 : upd2 (rq ad ct t a f) 13 0 (.inr (7, [.ref (ad 14 0), .ref (ad 11 t), .int a, .int f].set 2 (.int x))) = rq ad ct t x f := upd2_2 _ _ _ _ _
theorem rq_3 : upd2 (rq ad ct t a f) 13 0 (.inr (7, [.ref (ad 14 0), .ref (ad 11 t), .int a, .int f].set 3 (.int x))) = rq ad ct t a x := upd2_2 _ _ _ _ _
end RQ
/-- a text and the values, as the reader finds them -/
def rdOK (ca : Nat → ClassId) (cnt : Nat → Nat) (ad : Nat → Nat → Nat) (ct : Nat → Nat → va_E) (t n1 : Nat) (b1 vs : Nat → Int32) : Prop := 0 < cnt 13 ∧ t < cnt 11 ∧ ct 11 t = .inr (8, [.ref (ad 12 t), .int (nI n1)]) ∧ t < cnt 12 ∧ ct 12 t = .inl (ca 0, 100, .inl b1) ∧ n1 ≤ 100 ∧ 0 < cnt 14 ∧ ct 14 0 = .inl (ca 1, 5, .inl vs)
abbrev bC (b1 : Nat → Int32) (n1 : Nat) : Nat → Int32 := tC (fun j => b1 j &&& 255) n1
theorem cBy_eq {n1 x : Nat} {b1 : Nat → Int32} (hn : n1 ≤ 100) (hx : x ≤ 1000) : cBy n1 b1 (nI x) = bC b1 n1 x := by
  unfold cBy bC tC
  by_cases h : x < n1
  · have : isIn (nI x) 0 (nI n1 - 1) = true := by
      obtain ⟨z, rfl⟩ : ∃ z, n1 = z + 1 := ⟨n1 - 1, by omega⟩
      rw [nI_pred]
      have q1 := nI_pos (n := x) (by omega)
      have q2 := nI_nlt (a := z) (b := x) (by omega) (by omega)
      simp [isIn, q1, q2]
    rw [if_pos this, if_pos h, nI_clamp (by omega)]
  · have : ¬ isIn (nI x) 0 (nI n1 - 1) = true := fun q => by
      obtain ⟨j, hj, e⟩ := isIn_nat (by omega) q
      have := (nI_eq (a := x) (b := j) (by omega) (by omega)).mp e
      omega
    rw [if_neg this, if_neg h]
/-- behind a fault: it is told, or what stands at its place is a digit, which nothing goes on from -/
def dmd (c : Nat → Int32) (n e x : Nat) (f : Int32) : Prop := x ≤ n ∧ (f = nI e ∨ (f = -1 ∧ x = e ∧ isD (c e) = true))

theorem dig_sk {c : Nat → Int32} {n e x : Nat} (h : isD (c e) = true) (hx : x = e) : pSk c n x = e := by
  rw [hx]
  exact pSk_n (fun q => by rw [q.2] at h; exact absurd h (by decide))
theorem dig_no {c : Nat → Int32} {n e x k : Nat} {w : Int32} {P : Prop} (h : isD (c e) = true) (hx : x = e) (hk : k = pSk c n x) (hw : c k = w) (hd : isD w = false) : P := by
  rw [hk, dig_sk h hx] at hw
  rw [hw, hd] at h
  cases h

theorem lF_L (i : Nat) : isL (lF i) = true := by
  unfold lF
  repeat' split
  all_goals decide
theorem lF_v (vs : Nat → Int32) {i : Nat} (h : i < 5) : vL vs (lF i) = vs i := by
  rcases (show i = 0 ∨ i = 1 ∨ i = 2 ∨ i = 3 ∨ i = 4 by omega) with rfl | rfl | rfl | rfl | rfl <;> rfl
theorem lF_no {x : Int32} (h : ∀ j, j < 5 → ¬ lF j = x) : isL x = false := by
  have h0 : ¬ x = 111 := fun q => h 0 (by omega) q.symm
  have h1 : ¬ x = 102 := fun q => h 1 (by omega) q.symm
  have h2 : ¬ x = 119 := fun q => h 2 (by omega) q.symm
  have h3 : ¬ x = 99 := fun q => h 3 (by omega) q.symm
  have h4 : ¬ x = 100 := fun q => h 4 (by omega) q.symm
  simp [isL, h0, h1, h2, h3, h4]

/-- what a piece's reading leaves -/
def cPo (c : Nat → Int32) (n a : Nat) (vs : Nat → Int32) (R : PR) (rv : Option Value) (x : Nat) (f : Int32) : Prop :=
  (∃ (e : Nat) (y : Int32), R = .inl e ∧ e ≤ n ∧ rv = some (.int y) ∧ (y = 0 ∨ y = 1) ∧ dmd c n e x f) ∨ (∃ L, R = .inr (x, L) ∧ a < x ∧ x ≤ n ∧ wfL L ∧ rv = some (.int (bB (rB vs L))) ∧ f = -1)
theorem rT_eq (vs : Nat → Int32) (l x : Int32) : rTs vs l 61 x = decide (vL vs l = x) := by simp [rTs]
theorem rT_lt (vs : Nat → Int32) (l x : Int32) : rTs vs l 60 x = decide (vL vs l < x) := by simp [rTs]
theorem rT_gt (vs : Nat → Int32) (l x : Int32) : rTs vs l 62 x = decide (x < vL vs l) := by simp [rTs]
/-- the contract of tests, so many levels above the deepest -/
def KC (l : Launch) (D : va_G) (ca : Nat → ClassId) (r : Nat) : Prop := ∀ (cnt : Nat → Nat) (ad : Nat → Nat → Nat) (ct : Nat → Nat → va_E) (z9 : Nat) (t n1 : Nat) (b1 vs : Nat → Int32) (a : Nat), rdOK ca cnt ad ct t n1 b1 vs → a ≤ n1 → r ≤ 8 → Met l yX7_tests (wz yX7_tests cX7_tests 5 (some .boolean)) (rmL (3 * r + 8) 0 0) (va_Pc [.ref (ad 13 0), .int (nI (8 - r))] (fun U => (U.heap.size = z9 ∧ wq D cnt ad (rq ad ct t (nI a) (-1)) U.heap ∧ lets (wA cnt ad z9) U) ∧ gK D ca U)) (QcW D (wA cnt ad z9) (fun rv u => ∃ x9 f9, u = (cnt, ad, rq ad ct t (nI x9) f9) ∧ cPo (bC b1 n1) n1 a vs (pT (bC b1 n1) n1 (r + 1) a) rv x9 f9)) 0 0 (wA cnt ad z9)
