theorem upd2_cm {α : Type} (f : Nat → Nat → α) {k k' : Nat} (i i' : Nat) (x y : α) (h : k ≠ k') : upd2 (upd2 f k i x) k' i' y = upd2 (upd2 f k' i' y) k i x := by
  funext a b
  unfold upd2
  by_cases h1 : a = k' ∧ b = i'
  · have : ¬ (a = k ∧ b = i) := fun q => h (q.1.symm.trans h1.1)
    rw [if_pos h1, if_neg this, if_pos h1]
  · rw [if_neg h1, if_neg h1]
section CH
variable {ca : Nat → ClassId} {c0 c1 c2 cnt cnt' : Nat → Nat} {a0 a1 a2 ad ad' : Nat → Nat → Nat} {t0 t1 t2 ct ct' : Nat → Nat → va_E} {v v' : Nat → Int32} {g g' : Nat → Nat → Int32} {nw nb nc nm tp : Nat}
theorem hle_tr (a : ∀ k, c0 k ≤ c1 k) (b : ∀ k, c1 k ≤ c2 k) : ∀ k, c0 k ≤ c2 k := fun k => Nat.le_trans (a k) (b k)
theorem hag_tr (hle : ∀ k, c0 k ≤ c1 k) (a : ∀ k i, i < c0 k → a0 k i = a1 k i) (b : ∀ k i, i < c1 k → a1 k i = a2 k i) : ∀ k i, i < c0 k → a0 k i = a2 k i := fun k i h => (a k i h).trans (b k i (Nat.lt_of_lt_of_le h (hle k)))
theorem hcg_tr (hle : ∀ k, c0 k ≤ c1 k) (a : ∀ k i, i < c0 k → t1 k i = t0 k i) (b : ∀ k i, i < c1 k → t2 k i = t1 k i) : ∀ k i, i < c0 k → t2 k i = t0 k i := fun k i h => (b k i (Nat.lt_of_lt_of_le h (hle k))).trans (a k i h)
theorem mch_new (hw : nw ≤ 2000) (hcc : nc ≤ 60) (h : mIv g nw nc nm) (h9 : ∀ n, n ≤ nm → ∀ m, m < n → g' 18 m = g 18 m) : ∀ n, n ≤ nm → mch g' nc n = [(0, g' 9 nc, g' 9 nc)] ∧ mCnt g' (nI nc) n = 0
  | 0, _ => ⟨rfl, rfl⟩
  | n + 1, hn => by
    obtain ⟨i1, i2⟩ := mch_new hw hcc h h9 n (by omega)
    obtain ⟨c, d, f, t, q, q1, q2, -⟩ := h.2 n (by omega)
    have : ¬ g' 18 n = nI nc := by
      rw [h9 (n + 1) hn n (by omega), q2, nI_eq (by omega) (by omega)]
      omega
    unfold mch mCnt
    rw [if_neg this, if_neg this, i1, i2]
    exact ⟨rfl, rfl⟩
theorem mch_gc {c : Nat} (h9 : g' 9 c = g 9 c) (h18 : ∀ i, g' 18 i = g 18 i) (h19 : ∀ i, g' 19 i = g 19 i) (h20 : ∀ i, g' 20 i = g 20 i) (h21 : ∀ i, g' 21 i = g 21 i) : ∀ n, mch g' c n = mch g c n
  | 0 => by unfold mch; rw [h9]
  | n + 1 => by unfold mch; rw [mch_gc h9 h18 h19 h20 h21 n, h18, h19, h20, h21]
theorem map_cong9 {α β : Type} {f h : α → β} : ∀ {l : List α}, (∀ x, x ∈ l → f x = h x) → l.map f = l.map h
  | [], _ => rfl
  | a :: r, q => by rw [List.map_cons, List.map_cons, q a (by simp), map_cong9 (fun x hx => q x (by simp [hx]))]
theorem chn_dt {dt dt' : Nat → MV} {ix : List Nat} (hd : ∀ i, i ∈ ix → dt' i = dt i) (h : chn cnt ad ct dt ix) : chn cnt ad ct dt' ix := fun p i hp => by
  rw [hd i (List.mem_of_getElem? hp)]
  exact h p i hp
theorem chn_lt {dt : Nat → MV} {ix : List Nat} (h : chn cnt ad ct dt ix) : ∀ i, i ∈ ix → i < cnt 8 := fun i hi => by
  obtain ⟨p, hp⟩ := List.mem_iff_getElem?.mp hi
  exact (h p i hp).1
theorem chn_ext8 {dt : Nat → MV} {ix : List Nat} (hle : ∀ k, cnt k ≤ cnt' k) (had : ∀ k i, i < cnt k → ad k i = ad' k i) (hct : ∀ i, i < cnt 8 → ct' 8 i = ct 8 i) (h : chn cnt ad ct dt ix) : chn cnt' ad' ct' dt ix := fun p i hp => by
  obtain ⟨h1, h2⟩ := h p i hp
  refine ⟨Nat.lt_of_lt_of_le h1 (hle 8), ?_⟩
  rw [hct i h1, h2, map_ext (k := 8) had (fun j hj => (h (p + 1) j hj).1)]
/-- a child has come -/
theorem cC_new {i6 i7 i8 : Nat} {s m e t a i : Int32} {fC : Nat → Option Nat} {dt : Nat → MV} {ow : Nat → Nat} {ix : Nat → List Nat} {ak : Nat → Int32} (hw : nw ≤ 2000) (hcc : nc ≤ 60) (hIv : mIv g nw nc nm) (h6 : cnt 6 = nc) (h7 : cnt 7 = nc) (hCd : ∀ c, c < nc → fC c = some (ad 6 c) ∧ cCh cnt ad ct g nm dt ow (ix c) (ak c) c)
    (e6 : i6 = nc) (e7 : i7 = nc) (e8 : cnt 8 ≤ i8) (l6 : cnt' 6 = nc + 1) (l7 : cnt' 7 = nc + 1) (l8 : i8 < cnt' 8) (hle : ∀ k, cnt k ≤ cnt' k) (had : ∀ k i, i < cnt k → ad k i = ad' k i) (hct : ∀ k i, (k = 6 ∨ k = 7 ∨ k = 8) → i < cnt k → ct' k i = ct k i)
    (f2 : ct' 2 0 = .inl (ca 4, 60, aQ (va_up fC nc (some (ad' 6 i6))))) (n6 : ct' 6 i6 = .inr (1, [.int (nI nw), .int s, .int m, .ref (ad' 7 i7), .int a, .int i, .ref (ad' 8 i8), .int 0, .int 0, .int 0])) (n7 : ct' 7 i7 = .inr (3, [.int e, .int t])) (n8 : ct' 8 i8 = .inr (5, [.int 0, .int (nI nw), .int (nI nw), .null]))
    (hg : ∀ k, 9 ≤ k → k ≤ 21 → ∀ i, (k ≤ 15 → i ≠ nc) → g' k i = g k i) (v9 : g' 9 nc = nI nw) (v10 : g' 10 nc = s) (v11 : g' 11 nc = m) (v12 : g' 12 nc = e) (v13 : g' 13 nc = t) (v14 : g' 14 nc = a) (v15 : g' 15 nc = i) (v16 : g 16 nc = 0) (v17 : ∀ w, w < 20 → g 17 (20 * nc + w) = 0) : cC ca cnt' ad' ct' g' (nc + 1) nm := by
  subst e6
  subst e7
  refine ⟨l6, l7, va_up fC i7 (some (ad' 6 i7)), fun q => if q = i8 then (0, nI nw, nI nw) else dt q, fun q => if q = i8 then i7 else ow q, fun c => if c = i7 then [i8] else ix c, fun c => if c = i7 then 0 else ak c, f2, fun c hc => ?_⟩
  have e18 := fun i => hg 18 (by omega) (by omega) i (by omega)
  by_cases e : c = i7
  · subst e
    obtain ⟨m1, m2⟩ := mch_new (g' := g') hw hcc hIv (fun _ _ m _ => e18 m) nm (Nat.le_refl _)
    refine ⟨va_up_self _ _ _, ?_⟩
    dsimp only
    rw [if_pos rfl, if_pos rfl]
    refine ⟨?_, by rw [v12, v13]; exact n7, ?_, by rw [m1, v9]; simp, fun w hw => ?_, fun i hi => by simp only [List.mem_singleton] at hi; subst hi; simp, by simp⟩
    · rw [v9, v10, v11, v14, v15, hg 16 (by omega) (by omega) _ (by omega), v16, m2]
      exact n6
    · intro p j hp
      cases p with
      | zero =>
        simp only [List.getElem?_cons_zero, Option.some.injEq] at hp
        subst hp
        exact ⟨l8, by rw [n8]; simp [va_rf]⟩
      | succ p => simp at hp
    · rw [hg 17 (by omega) (by omega) _ (by omega), v17 w hw]
      simp
  · have hc' : c < i7 := by omega
    obtain ⟨q0, a1, a2, a3, a4, a5, a6, a7⟩ := hCd c hc'
    have hlt := chn_lt a3
    have hne : ∀ q, q ∈ ix c → q ≠ i8 := fun q hq => by have := hlt q hq; omega
    refine ⟨by rw [va_up_ne _ _ e, ← had 6 c (by omega)]; exact q0, ?_⟩
    dsimp only
    rw [if_neg e, if_neg e]
    have e9 := fun k (h1 : 9 ≤ k) (h2 : k ≤ 21) => hg k h1 h2 c (fun _ => e)
    refine ⟨?_, by rw [hct 7 c (by omega) (by omega), e9 12 (by omega) (by omega), e9 13 (by omega) (by omega)]; exact a2, chn_dt (fun q hq => if_neg (hne q hq)) (chn_ext8 hle had (fun i hi => hct 8 i (by omega) hi) a3), ?_, fun w hw => by rw [hg 17 (by omega) (by omega) _ (by omega)]; exact a5 w hw, fun q hq => by dsimp only; rw [if_neg (hne q hq)]; exact a6 q hq, a7⟩
    · rw [hct 6 c (by omega) (by omega), a1, e9 9 (by omega) (by omega), e9 10 (by omega) (by omega), e9 11 (by omega) (by omega), e9 14 (by omega) (by omega), e9 15 (by omega) (by omega), e9 16 (by omega) (by omega), mCnt_g e18, ← had 7 c (by omega), map_ext (k := 8) had (fun j hj => (a3 0 j hj).1)]
    · rw [mch_gc (e9 9 (by omega) (by omega)) e18 (fun i => hg 19 (by omega) (by omega) i (by omega)) (fun i => hg 20 (by omega) (by omega) i (by omega)) (fun i => hg 21 (by omega) (by omega) i (by omega)), ← a4]
      exact map_cong9 (fun q hq => if_neg (hne q hq))
theorem mIv_new (h : mIv g nw nc nm) (hg : ∀ k, 9 ≤ k → k ≤ 21 → ∀ i, (k ≤ 15 → i ≠ nc) → g' k i = g k i) (v9 : g' 9 nc = nI nw) : mIv g' nw (nc + 1) nm := by
  refine ⟨fun c hc => ?_, fun m hm => ?_⟩
  · by_cases e : c = nc
    · subst e; exact ⟨nw, Nat.le_refl _, v9⟩
    · rw [hg 9 (by omega) (by omega) c (fun _ => e)]; exact h.1 c (by omega)
  · obtain ⟨c, d, f, t, q, q1, q2, q3, q4, q5, q6, r⟩ := h.2 m hm
    exact ⟨c, d, f, t, q, by omega, by rw [hg 18 (by omega) (by omega) _ (by omega)]; exact q2, by rw [hg 9 (by omega) (by omega) _ (by omega)]; exact q3, by rw [hg 20 (by omega) (by omega) _ (by omega)]; exact q4, by rw [hg 21 (by omega) (by omega) _ (by omega)]; exact q5, by rw [hg 19 (by omega) (by omega) _ (by omega)]; exact q6, r⟩
def lvG (g : Nat → Nat → Int32) (nw nc x : Nat) (s m e t a i : Int32) : Nat → Nat → Int32 := upd2 (upd2 (upd2 (upd2 (upd2 (upd2 (upd2 (upd2 g 7 x 4) 9 nc (nI nw)) 10 nc s) 11 nc m) 12 nc e) 13 nc t) 14 nc a) 15 nc i
theorem lvG_o {x : Nat} {s m e t a i : Int32} {k q : Nat} (h7 : k = 7 → q ≠ x) (h : 9 ≤ k → k ≤ 15 → q ≠ nc) : lvG g nw nc x s m e t a i k q = g k q := by
  unfold lvG upd2
  rw [if_neg (by omega), if_neg (by omega), if_neg (by omega), if_neg (by omega), if_neg (by omega), if_neg (by omega), if_neg (by omega), if_neg (by omega)]
end CH
