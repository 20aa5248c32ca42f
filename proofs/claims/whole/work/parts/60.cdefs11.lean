section XC
variable {p : Program} {l : Launch} {e : Env} {R : Room} {s : State} {m : MethodId} {args : Array Value} {below : List Frame} {meth : Method} {c : Code} {H : Heap} {locs : List Loc} {cells slots : Nat} {Q : State → Prop}
variable {cc : ByteArray} {pc : Nat} {ls : Array Slot} {rest : List Value} {D : va_G} {A : Nat → Prop} {ca : Nat → ClassId} {nL : Nat} {own : String} {H0 : Heap} {cnt : Nat → Nat} {ad : Nat → Nat → Nat} {ct : Nat → Nat → va_E}
/-- a stretch of an array of ints is moved within it -/
theorem x_copy (E : cx p s m c args cc nL own D ca) (hw : wd D A H0 cnt ad ct H locs) (k i : Nat) (hi : i < cnt k) {n : Nat} {f : Nat → Int32} (hc : ct k i = .inl (ca 1, n, .inl f)) {sp dp len index : Nat} (h1 : sp + len ≤ n) (h2 : dp + len ≤ n) (hn : n < 1000000) (hlink : Cond.methodLink own index arraycopyName ∈ gw) (hnat : Cond.native arraycopyName ∈ gw) (hstat : Cond.static arraycopyName ∈ gw) (hini : Cond.initialized "java/lang/System" ∈ gw) (hml : c.maxLocals = ls.size) (hframes : 1 ≤ R.frames) (hlocals : (rest.map fun v => v.category).sum + (nativeFrameWords "java/lang/System" "arraycopy" 5 + 11) ≤ R.locals) (hdg : decode cc pc = .ok (.invokestatic index, 3))
    (kk : ∀ (H1 : Heap) (locs1 : List Loc), wd D A H0 cnt ad (upd2 ct k i (.inl (ca 1, n, .inl (va_cpy f f sp dp len)))) H1 locs1 → W p l e R s m args below meth c H1 locs1 cells slots Q (F0 m (pc + 3) ls rest)) : W p l e R s m args below meth c H locs cells slots Q (F0 m pc ls (.int (nI len) :: .int (nI dp) :: .ref (ad k i) :: .int (nI sp) :: .ref (ad k i) :: rest)) := by
  have c1 : (nI sp).toNatClampNeg = sp := nI_clamp (by omega)
  have c2 : (nI dp).toNatClampNeg = dp := nI_clamp (by omega)
  have c3 : (nI len).toNatClampNeg = len := nI_clamp (by omega)
  have t1 : (nI sp).toInt = (sp : Int) := nI_toInt (by omega)
  have t2 : (nI dp).toInt = (dp : Int) := nI_toInt (by omega)
  have t3 : (nI len).toInt = (len : Int) := nI_toInt (by omega)
  intro T hT X
  have hcell : H[ad k i]? = some (vp_cell (ca 1) (n, .inl f)) := (hw.one hi hc) 0 _ rfl
  obtain ⟨-, kd, hk, cm, hkk⟩ := (E.2.2.2.2.2.1.2 1 _ rfl).1 n (fun j => .int (f j))
  obtain ⟨vm', X', step⟩ := X.arraycopy E.1 E.2.2.2.1 (E.2.2.2.2.1 _ hlink) (E.2.2.2.2.1 _ hnat) (E.2.2.2.2.1 _ hstat) (E.2.2.2.2.1 _ hini) (src := ad k i) (dst := ad k i) (cs := vp_cell (ca 1) (n, .inl f)) (cd := vp_cell (ca 1) (n, .inl f)) (srcPos := nI sp) (destPos := nI dp) (n := nI len) (by rw [hT]; exact hcell) (by rw [hT]; exact hcell)
    (fun _ h => by cases h) (fun _ h => by cases h) (fun h => by cases h) (fun h => by cases h) hk hk hkk hkk (by simp [refKind]) (nI_pos (by omega)) (nI_pos (by omega)) (nI_pos (by omega))
    (by rw [t1, t3]; show ¬ _ > ((arrV (ca 1) n (fun j => .int (f j))).slots.size : Int); rw [arrV_size]; omega)
    (by rw [t2, t3]; show ¬ _ > ((arrV (ca 1) n (fun j => .int (f j))).slots.size : Int); rw [arrV_size]; omega)
    (fun vm₁ _ j hj => by
      rw [c3] at hj
      have e : (vp_cell (ca 1) (n, .inl f)).slots.getD ((nI sp).toNatClampNeg + j) .null = .int (f ((nI sp).toNatClampNeg + j)) := by
        show (arrV (ca 1) n (fun j => .int (f j))).slots.getD _ _ = _
        rw [Array.getD_eq_getD_getElem?, arrV_read _ _ (by omega)]
        rfl
      rw [e]
      exact ⟨rfl, trivial⟩)
    (g := F0 m pc ls (.int (nI len) :: .int (nI dp) :: .ref (ad k i) :: .int (nI sp) :: .ref (ad k i) :: rest)) rfl (by rw [hml]) (rest := rest) rfl (by rw [E.2.1]; exact hdg) hframes (by show 2 * 0 + _ + _ ≤ _; omega)
  have e1 : copied (vp_cell (ca 1) (n, .inl f)) (vp_cell (ca 1) (n, .inl f)) (nI sp) (nI dp) (nI len) = vp_cell (ca 1) (n, .inl (va_cpy f f sp dp len)) := by
    have := va_copied (fun z => Value.int z) (ca 1) (ca 1) (n0 := n) (n1 := n) (sp := (nI sp).toNatClampNeg) (dp := (nI dp).toNatClampNeg) (n := (nI len).toNatClampNeg) f f (by omega)
    rw [c1, c2, c3] at this
    show (vp_cell (ca 1) (n, .inl f)).storeRun (nI dp).toNatClampNeg ((vp_cell (ca 1) (n, .inl f)).stretch (nI sp).toNatClampNeg (nI len).toNatClampNeg) = _
    rw [c1, c2, c3]
    exact this
  rw [e1] at X' step
  have hl : ad k i < H.size := (Array.getElem?_eq_some_iff.mp hcell).1
  generalize hcl : vp_cell (ca 1) (n, .inl (va_cpy f f sp dp len)) = nc at X' step
  have hheap : ((T.setVm vm').setCell (ad k i) nc).heap = H.setIfInBounds (ad k i) nc := by rw [← hT]; rfl
  have oq : ∀ q : Nat, q ≠ ad k i → (H.setIfInBounds (ad k i) nc)[q]? = H[q]? := fun q hq => by simp [Array.getElem?_setIfInBounds, Ne.symm hq]
  have hA := hw.2.1 k i hi
  obtain ⟨t, a1, b1⟩ := kk _ _ ⟨⟨fun k' i' hi' => by
      by_cases hk : k' = k ∧ i' = i
      · obtain ⟨rfl, rfl⟩ := hk
        rw [upd2_at]
        show (H.setIfInBounds (ad k' i') nc)[ad k' i']? = some (vp_cell _ _)
        rw [hcl]
        simp [Array.getElem?_setIfInBounds, hl]
      · rw [show upd2 ct k i (.inl (ca 1, n, .inl (va_cpy f f sp dp len))) k' i' = ct k' i' by simp [upd2, hk]]
        exact (hw.1.1 k' i' hi').kept (oq _ (fun q => hk (hw.1.2 k' i' k i hi' hi q))), hw.1.2⟩, hw.2.1, ⟨by simp; exact hw.2.2.1.1, fun q g1 g2 => by
      rw [oq q (fun e => g2 (by rw [e]; exact hA))]
      exact hw.2.2.1.2.1 q g1 g2, fun q hq => by
      rcases List.mem_append.mp hq with h | h
      · exact hw.2.2.1.2.2 q h
      · obtain ⟨z, -, hz⟩ := List.mem_map.mp h
        rw [← hz]
        exact hA⟩, hw.2.2.2⟩ _ hheap X'
  exact ⟨t, step t a1, b1⟩
end XC
def kdI (a b c : Int32) : Int32 := if a < b then 0 else if a < b + c then 1 else 2
theorem kd_eq (w r : Nat) (b : Int32) : kdI b (nI w) (nI r) = mColr w r b := by
  unfold kdI mColr
  by_cases h : b < nI w
  · rw [if_pos h, if_neg (Int32.not_le.mpr h)]
  · rw [if_neg h, if_pos (Int32.not_lt.mp h)]
    by_cases h2 : b < nI w + nI r
    · rw [if_pos h2, if_neg (Int32.not_le.mpr h2)]
    · rw [if_neg h2, if_pos (Int32.not_lt.mp h2)]
def lnF (w r i : Nat) : Nat → Int32 := fun k => if k < i then mColr w r (nI k) else 0
theorem lnF_0 (w r : Nat) : lnF w r 0 = fun _ => 0 := by funext k; simp [lnF]
theorem lnF_s (w r i : Nat) : upd (lnF w r i) i (mColr w r (nI i)) = lnF w r (i + 1) := by
  funext k
  unfold upd lnF
  by_cases h : k = i
  · subst h; rw [if_pos rfl, if_pos (by omega)]
  · rw [if_neg h]
    by_cases h2 : k < i
    · rw [if_pos h2, if_pos (by omega)]
    · rw [if_neg h2, if_neg (by omega)]
theorem upd2_same {α : Type} {f : Nat → Nat → α} {k i : Nat} {x : α} (h : f k i = x) : upd2 f k i x = f := by
  funext a b
  unfold upd2
  by_cases q : a = k ∧ b = i
  · rw [if_pos q, q.1, q.2, h]
  · rw [if_neg q]
def cBl (n w2 r3 : Nat) (x0 : Int64) : Nat → Int64 × (Nat → Int32) × (Nat → Int32)
  | 0 => (x0, lnF w2 r3 n, fun _ => 0)
  | w + 1 => (mNx (cBl n w2 r3 x0 w).1, va_cpy (cBl n w2 r3 x0 w).2.1 (cBl n w2 r3 x0 w).2.1 (mK (mNx (cBl n w2 r3 x0 w).1) (n - w) + 1) (mK (mNx (cBl n w2 r3 x0 w).1) (n - w)) (n - w - mK (mNx (cBl n w2 r3 x0 w).1) (n - w) - 1), upd (cBl n w2 r3 x0 w).2.2 w ((cBl n w2 r3 x0 w).2.1 (mK (mNx (cBl n w2 r3 x0 w).1) (n - w))))
theorem mLn_8 (g : Nat → Nat → Int32) : ∀ n k, k < n → mLn g n 8 k = nI k
  | n + 1, k, h => by
    unfold mLn
    by_cases e : k = n
    · subst e; rw [upd2_at]
    · rw [upd2_i _ _ _ e]; exact mLn_8 g n k (by omega)
theorem mLn_o (g : Nat → Nat → Int32) {k : Nat} (hk : k ≠ 8) (i : Nat) : ∀ n, mLn g n k i = g k i
  | 0 => rfl
  | n + 1 => by unfold mLn; rw [upd2_k _ _ _ _ hk]; exact mLn_o g hk i n
theorem mShf_8 (g : Nat → Nat → Int32) (K : Nat) : ∀ n q, mShf g K n 8 q = if K ≤ q ∧ q < K + n then g 8 (q + 1) else g 8 q
  | 0, q => by unfold mShf; rw [if_neg (by omega)]
  | n + 1, q => by
    unfold mShf
    by_cases e : q = K + n
    · subst e
      rw [upd2_at, mShf_8 g K n, if_neg (by omega), if_pos (by omega)]
    · rw [upd2_i _ _ _ e, mShf_8 g K n]
      by_cases h : K ≤ q ∧ q < K + n
      · rw [if_pos h, if_pos (by omega)]
      · rw [if_neg h, if_neg (by omega)]
theorem mShf_o (g : Nat → Nat → Int32) (K : Nat) {k : Nat} (hk : k ≠ 8) (i : Nat) : ∀ n, mShf g K n k i = g k i
  | 0 => rfl
  | n + 1 => by unfold mShf; rw [upd2_k _ _ _ _ hk]; exact mShf_o g K hk i n
theorem bl_eq (g : Nat → Nat → Int32) (nb n w2 r3 : Nat) (x0 : Int64) : ∀ w, w ≤ n → (cBl n w2 r3 x0 w).1 = (mBl g nb n w2 r3 x0 w).1 ∧ (∀ k, k < n - w → (cBl n w2 r3 x0 w).2.1 k = mColr w2 r3 ((mBl g nb n w2 r3 x0 w).2 8 k)) ∧ (∀ i, i < w → (cBl n w2 r3 x0 w).2.2 i = (mBl g nb n w2 r3 x0 w).2 7 (20 * nb + i)) ∧ (∀ q, (q < 20 * nb ∨ 20 * nb + w ≤ q) → (mBl g nb n w2 r3 x0 w).2 7 q = g 7 q) ∧ (∀ k, k ≠ 7 → k ≠ 8 → ∀ i, (mBl g nb n w2 r3 x0 w).2 k i = g k i)
  | 0, _ => by
    refine ⟨rfl, fun k hk => ?_, fun i hi => absurd hi (Nat.not_lt_zero _), fun q _ => mLn_o g (by decide) q n, fun k h7 h8 i => mLn_o g h8 i n⟩
    show lnF w2 r3 n k = mColr w2 r3 (mLn g n 8 k)
    rw [mLn_8 g n k (by omega)]
    unfold lnF
    rw [if_pos (by omega)]
  | w + 1, hw => by
    obtain ⟨i1, i2, i3, i4, i5⟩ := bl_eq g nb n w2 r3 x0 w (by omega)
    have hK : mK (mNx (mBl g nb n w2 r3 x0 w).1) (n - w) < n - w := Nat.mod_lt _ (by omega)
    unfold cBl mBl
    rw [i1]
    generalize mK (mNx (mBl g nb n w2 r3 x0 w).1) (n - w) = K at hK ⊢
    generalize cBl n w2 r3 x0 w = C at i2 i3 ⊢
    generalize mBl g nb n w2 r3 x0 w = B at i2 i3 i4 i5 ⊢
    refine ⟨rfl, fun k hk => ?_, fun i hi => ?_, fun q hq => ?_, fun k h7 h8 i => ?_⟩
    · show va_cpy C.2.1 C.2.1 (K + 1) K (n - w - K - 1) k = mColr w2 r3 (upd2 (mShf B.2 K (n - w - 1 - K)) 7 (20 * nb + w) (mColr w2 r3 (B.2 8 K)) 8 k)
      rw [upd2_k _ _ _ _ (by decide), mShf_8]
      by_cases h : K ≤ k
      · rw [pk_cpy_in h (by omega), if_pos (by omega), show K + 1 + (k - K) = k + 1 by omega]
        exact i2 _ (by omega)
      · rw [pk_cpy_out (by omega), if_neg (by omega)]
        exact i2 _ (by omega)
    · show upd C.2.2 w (C.2.1 K) i = upd2 (mShf B.2 K (n - w - 1 - K)) 7 (20 * nb + w) (mColr w2 r3 (B.2 8 K)) 7 (20 * nb + i)
      by_cases h : i = w
      · subst h; rw [upd_at, upd2_at]; exact i2 K hK
      · rw [upd_ne _ _ h, upd2_i _ _ _ (by omega), mShf_o _ _ (by decide)]
        exact i3 i (by omega)
    · show upd2 (mShf B.2 K (n - w - 1 - K)) 7 (20 * nb + w) (mColr w2 r3 (B.2 8 K)) 7 q = _
      rw [upd2_i _ _ _ (by omega), mShf_o _ _ (by decide)]
      exact i4 q (by omega)
    · show upd2 (mShf B.2 K (n - w - 1 - K)) 7 (20 * nb + w) (mColr w2 r3 (B.2 8 K)) k i = _
      rw [upd2_k _ _ _ _ h7, mShf_o _ _ h8]
      exact i5 k h7 h8 i
/-- a ballot has come -/
theorem cB_new {ca : Nat → ClassId} {cnt cnt' : Nat → Nat} {ad ad' : Nat → Nat → Nat} {ct ct' : Nat → Nat → va_E} {g g' : Nat → Nat → Int32} {nb i4 i5 n : Nat} {h : Nat → Int32} {fB : Nat → Option Nat} (h4 : cnt 4 = nb) (h5 : cnt 5 = nb) (hBd : ∀ b, b < nb → fB b = some (ad 4 b) ∧ ct 4 b = .inr (0, [.ref (ad 5 b)]) ∧ ∃ (n : Nat) (f : Nat → Int32), n ≤ 20 ∧ g 6 b = nI n ∧ ct 5 b = .inl (ca 1, n, .inl f) ∧ ∀ i, i < n → f i = g 7 (20 * b + i)) (e4 : i4 = nb) (e5 : i5 = nb) (l4 : cnt' 4 = nb + 1) (l5 : cnt' 5 = nb + 1) (had : ∀ k i, i < cnt k → ad k i = ad' k i) (hct : ∀ k i, (k = 4 ∨ k = 5) → i < cnt k → ct' k i = ct k i)
    (f1 : ct' 1 0 = .inl (ca 3, 50, aQ (va_up fB nb (some (ad' 4 i4))))) (n4 : ct' 4 i4 = .inr (0, [.ref (ad' 5 i5)])) (n5 : ct' 5 i5 = .inl (ca 1, n, .inl h)) (hn : n ≤ 20) (g6 : g' 6 nb = nI n) (g7 : ∀ i, i < n → h i = g' 7 (20 * nb + i)) (o6 : ∀ i, i ≠ nb → g' 6 i = g 6 i) (o7 : ∀ q, q < 20 * nb → g' 7 q = g 7 q) : cB ca cnt' ad' ct' g' (nb + 1) := by
  subst e4
  subst e5
  refine ⟨l4, l5, va_up fB i5 (some (ad' 4 i5)), f1, fun b hb => ?_⟩
  by_cases e : b = i5
  · subst e
    exact ⟨va_up_self _ _ _, n4, n, h, hn, g6, n5, g7⟩
  · obtain ⟨q1, q2, n', f, q3, q4, q5, q6⟩ := hBd b (by omega)
    exact ⟨by rw [va_up_ne _ _ e, ← had 4 b (by omega)]; exact q1, by rw [hct 4 b (by omega) (by omega), q2, had 5 b (by omega)], n', f, q3, by rw [o6 b e]; exact q4, by rw [hct 5 b (by omega) (by omega)]; exact q5, fun i hi => by rw [o7 _ (by omega)]; exact q6 i hi⟩
