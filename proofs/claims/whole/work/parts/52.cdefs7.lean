theorem fa_or (a b : Nat) : nI a ||| nI b = nI (a ||| b) := by
  apply Int32.toBitVec_inj.1
  show BitVec.ofNat 32 a ||| BitVec.ofNat 32 b = BitVec.ofNat 32 (a ||| b)
  apply BitVec.eq_of_getLsbD_eq
  intro i hi
  simp [hi]
theorem fa_or_sum {a k : Nat} (b : Nat) (h : a < 2 ^ k) : nI (2 ^ k * b) ||| nI a = nI (2 ^ k * b + a) := by rw [fa_or, Nat.two_pow_add_eq_or_of_lt h]
/-! halves of a scrap, turned round -/
theorem th_nat (x : Int32) (k : Nat) : ∃ t, t < 8 ∧ mTh x (nI k) = nI t := by
  obtain ⟨j, hj, e⟩ := pk_andE (x >>> (3 * nI k &&& 31)) (m := 7) 3 (by decide)
  exact ⟨j, by simpa using hj, e⟩
theorem tn_step {N a : Nat} (hN : N < 268435456) (ha : a < 8) : (nI N <<< ((3 : Int32) &&& 31)) ||| nI a = nI (8 * N + a) := by
  rw [pk_shlN ((3 : Int32) &&& 31) 3 (by decide) (by omega), Nat.mul_comm]
  exact fa_or_sum (k := 3) N (by simpa using ha)
theorem th_sh : ∀ k, k < 8 → (((3 : Int32) * nI k &&& 31).toBitVec.smod 32).toNat = 3 * k := by decide +kernel
theorem th_of {N k : Nat} (hN : N < 2 ^ 31) (hk : k < 8) : mTh (nI N) (nI k) = nI (N / 2 ^ (3 * k) % 8) := by
  unfold mTh
  rw [pk_shrN hN _ (3 * k) (th_sh k hk)]
  have : N / 2 ^ (3 * k) ≤ N := Nat.div_le_self _ _
  exact pk_andN (by omega) 3 (by decide)
theorem turn_th (x : Int32) {k : Nat} (hk : k < 8) : mTh (mTn x 8) (nI k) = mTh x (nI (7 - k)) := by
  obtain ⟨a0, h0, e0⟩ := th_nat x 0
  obtain ⟨a1, h1, e1⟩ := th_nat x 1
  obtain ⟨a2, h2, e2⟩ := th_nat x 2
  obtain ⟨a3, h3, e3⟩ := th_nat x 3
  obtain ⟨a4, h4, e4⟩ := th_nat x 4
  obtain ⟨a5, h5, e5⟩ := th_nat x 5
  obtain ⟨a6, h6, e6⟩ := th_nat x 6
  obtain ⟨a7, h7, e7⟩ := th_nat x 7
  have s0 : mTn x 1 = nI a0 := by
    rw [mTn, mTn, e0, show (0 : Int32) = nI 0 from rfl, tn_step (by omega) h0]
    simp
  have s1 : mTn x 2 = nI (8 * a0 + a1) := by rw [mTn, s0, e1, tn_step (by omega) h1]
  have s2 : mTn x 3 = nI (8 * (8 * a0 + a1) + a2) := by rw [mTn, s1, e2, tn_step (by omega) h2]
  have s3 : mTn x 4 = nI (8 * (8 * (8 * a0 + a1) + a2) + a3) := by rw [mTn, s2, e3, tn_step (by omega) h3]
  have s4 : mTn x 5 = nI (8 * (8 * (8 * (8 * a0 + a1) + a2) + a3) + a4) := by rw [mTn, s3, e4, tn_step (by omega) h4]
  have s5 : mTn x 6 = nI (8 * (8 * (8 * (8 * (8 * a0 + a1) + a2) + a3) + a4) + a5) := by rw [mTn, s4, e5, tn_step (by omega) h5]
  have s6 : mTn x 7 = nI (8 * (8 * (8 * (8 * (8 * (8 * a0 + a1) + a2) + a3) + a4) + a5) + a6) := by rw [mTn, s5, e6, tn_step (by omega) h6]
  have s7 : mTn x 8 = nI (8 * (8 * (8 * (8 * (8 * (8 * (8 * a0 + a1) + a2) + a3) + a4) + a5) + a6) + a7) := by rw [mTn, s6, e7, tn_step (by omega) h7]
  rw [s7, th_of (by omega) hk]
  rcases (show k = 0 ∨ k = 1 ∨ k = 2 ∨ k = 3 ∨ k = 4 ∨ k = 5 ∨ k = 6 ∨ k = 7 by omega) with rfl | rfl | rfl | rfl | rfl | rfl | rfl | rfl
  · rw [e7]; congr 1; omega
  · rw [e6]; congr 1; omega
  · rw [e5]; congr 1; omega
  · rw [e4]; congr 1; omega
  · rw [e3]; congr 1; omega
  · rw [e2]; congr 1; omega
  · rw [e1]; congr 1; omega
  · rw [e0]; congr 1; omega
theorem cUn_f (g : Nat → Nat → Int32) (c : Nat) (oe ot : Int32) : ∀ n, cUn (g 12 c) (g 13 c) oe ot n = mOffB g c oe ot false n
  | 0 => rfl
  | n + 1 => by
    unfold cUn mOffB
    rw [cUn_f g c oe ot n]
    congr 1
    simp [mGood]
theorem cUn_t (g : Nat → Nat → Int32) (c : Nat) (oe ot : Int32) : ∀ n, n ≤ 8 → cUn (g 12 c) (g 13 c) (mTn oe 8) (mTn ot 8) n = mOffB g c oe ot true n
  | 0, _ => rfl
  | n + 1, h => by
    unfold cUn mOffB
    rw [cUn_t g c oe ot n (by omega), turn_th oe (by omega), turn_th ot (by omega)]
    congr 1
    simp [mGood]
theorem cFar_eq (g : Nat → Nat → Int32) (c : Nat) (oe ot : Int32) : cFar (g 12 c) (g 13 c) oe ot = mOff g c oe ot := by
  unfold cFar mOff
  rw [cUn_f, cUn_t _ _ _ _ 8 (Nat.le_refl _)]
/-! cells that came: what was said of the old ones stands -/
section CE
variable {ca : Nat → ClassId} {cnt cnt' : Nat → Nat} {ad ad' : Nat → Nat → Nat} {ct ct' : Nat → Nat → va_E} {v : Nat → Int32} {g : Nat → Nat → Int32} {nw nb nc nm tp : Nat}
theorem map_ext {k : Nat} {o : Option Nat} (had : ∀ k i, i < cnt k → ad k i = ad' k i) (h : ∀ j, o = some j → j < cnt k) : Option.map (ad k) o = Option.map (ad' k) o := by
  cases o with
  | none => rfl
  | some j => simp only [Option.map_some]; rw [had k j (h j rfl)]
theorem chn_ext {dt : Nat → MV} {ix : List Nat} (hle : ∀ k, cnt k ≤ cnt' k) (had : ∀ k i, i < cnt k → ad k i = ad' k i) (hct : ∀ k i, i < cnt k → ct' k i = ct k i) (h : chn cnt ad ct dt ix) : chn cnt' ad' ct' dt ix := fun p i hp => by
  obtain ⟨h1, h2⟩ := h p i hp
  refine ⟨Nat.lt_of_lt_of_le h1 (hle 8), ?_⟩
  rw [hct 8 i h1, h2, map_ext (k := 8) had (fun j hj => (h (p + 1) j hj).1)]
theorem cCh_ext {dt : Nat → MV} {ow : Nat → Nat} {ix : List Nat} {ak : Int32} {c : Nat} (h6 : c < cnt 6) (h7 : c < cnt 7) (hle : ∀ k, cnt k ≤ cnt' k) (had : ∀ k i, i < cnt k → ad k i = ad' k i) (hct : ∀ k i, i < cnt k → ct' k i = ct k i) (h : cCh cnt ad ct g nm dt ow ix ak c) : cCh cnt' ad' ct' g nm dt ow ix ak c := by
  obtain ⟨a1, a2, a3, a4⟩ := h
  refine ⟨?_, by rw [hct 7 c h7]; exact a2, chn_ext hle had hct a3, a4⟩
  rw [hct 6 c h6, a1, had 7 c h7, map_ext (k := 8) had (fun j hj => (a3 0 j hj).1)]
theorem cC_ext (e6 : cnt' 6 = cnt 6) (e7 : cnt' 7 = cnt 7) (h2 : 0 < cnt 2) (hle : ∀ k, cnt k ≤ cnt' k) (had : ∀ k i, i < cnt k → ad k i = ad' k i) (hct : ∀ k i, i < cnt k → ct' k i = ct k i) (h : cC ca cnt ad ct g nc nm) : cC ca cnt' ad' ct' g nc nm := by
  obtain ⟨t1, t2, fC, dt, ow, ix, ak, f1, hd⟩ := h
  exact ⟨e6.trans t1, e7.trans t2, fC, dt, ow, ix, ak, by rw [hct 2 0 h2]; exact f1, fun c hc => ⟨by rw [← had 6 c (by omega)]; exact (hd c hc).1, cCh_ext (by omega) (by omega) hle had hct (hd c hc).2⟩⟩
theorem lks_ext (hle : ∀ k, cnt k ≤ cnt' k) (had : ∀ k i, i < cnt k → ad k i = ad' k i) (hct : ∀ k i, i < cnt k → ct' k i = ct k i) : ∀ {l : List Nat} {o : Option Nat}, lks cnt ad ct o l → lks cnt' ad' ct' o l ∧ ∀ j, o = some j → j < cnt 10
  | [], _, h => ⟨h, fun j hj => by rw [show _ = none from h] at hj; cases hj⟩
  | d :: r, _, ⟨j, o', h1, h2, h3, h4⟩ => by
    obtain ⟨i1, i2⟩ := lks_ext hle had hct h4
    exact ⟨⟨j, o', h1, Nat.lt_of_lt_of_le h2 (hle 10), by rw [hct 10 j h2, h3, map_ext (k := 10) had i2], i1⟩, fun q hq => by rw [h1] at hq; cases hq; exact h2⟩
theorem cN_ext (e9 : cnt' 9 = cnt 9) (h3 : 0 < cnt 3) (hle : ∀ k, cnt k ≤ cnt' k) (had : ∀ k i, i < cnt k → ad k i = ad' k i) (hct : ∀ k i, i < cnt k → ct' k i = ct k i) (h : cN ca cnt ad ct g nw) : cN ca cnt' ad' ct' g nw := by
  obtain ⟨t1, fN, lk, f1, hd⟩ := h
  refine ⟨e9.trans t1, fN, lk, by rw [hct 3 0 h3]; exact f1, fun i hi => ?_⟩
  obtain ⟨q1, q2, l, q3, q4⟩ := hd i hi
  obtain ⟨z1, z2⟩ := lks_ext hle had hct q3
  exact ⟨by rw [← had 9 i (by omega)]; exact q1, by rw [hct 9 i (by omega), q2, map_ext (k := 10) had z2], l, z1, q4⟩
theorem cB_ext (e4 : cnt' 4 = cnt 4) (e5 : cnt' 5 = cnt 5) (h1 : 0 < cnt 1) (had : ∀ k i, i < cnt k → ad k i = ad' k i) (hct : ∀ k i, i < cnt k → ct' k i = ct k i) (h : cB ca cnt ad ct g nb) : cB ca cnt' ad' ct' g nb := by
  obtain ⟨t1, t2, fB, f1, hd⟩ := h
  refine ⟨e4.trans t1, e5.trans t2, fB, by rw [hct 1 0 h1]; exact f1, fun b hb => ?_⟩
  obtain ⟨q1, q2, n, f, q3, q4, q5, q6⟩ := hd b hb
  exact ⟨by rw [← had 4 b (by omega)]; exact q1, by rw [hct 4 b (by omega), q2, had 5 b (by omega)], n, f, q3, q4, by rw [hct 5 b (by omega)]; exact q5, q6⟩
theorem cT_ext (htp : tp < 2) (hle : ∀ k, cnt k ≤ cnt' k) (had : ∀ k i, i < cnt k → ad k i = ad' k i) (hct : ∀ k i, i < cnt k → ct' k i = ct k i) (h : cT ca cnt ad ct v g tp) : cT ca cnt' ad' ct' v g tp := by
  obtain ⟨t1, t2, t3, t4, sz, n, nr, rt, b0, b1, vs, p1, p2, a1, a2, a3, a4, a5, f1, f2, f3, f4, f5, f6, a6, a7⟩ := h
  have l := hle 11
  have l2 := hle 12
  have l3 := hle 13
  have l4 := hle 14
  exact ⟨by omega, by omega, by omega, by omega, sz, n, nr, rt, b0, b1, vs, p1, p2, a1, a2, a3, a4, a5, by rw [hct 11 tp (by omega), f1, had 12 tp (by omega)], by rw [hct 11 (1 - tp) (by omega), f2, had 12 (1 - tp) (by omega)], by rw [hct 12 tp (by omega)]; exact f3, by rw [hct 12 (1 - tp) (by omega)]; exact f4, by rw [hct 13 0 t1, f5, had 14 0 t2, had 11 rt (by omega)], by rw [hct 14 0 t2]; exact f6, a6, a7⟩
theorem cX_ext (htp : tp < 2) (h11 : 1 < cnt 11) (h13 : 0 < cnt 13) (hle : ∀ k, cnt k ≤ cnt' k) (had : ∀ k i, i < cnt k → ad k i = ad' k i) (hct : ∀ k i, i < cnt k → ct' k i = ct k i) (h : cX cnt ad ct v nw nb nc nm tp) : cX cnt' ad' ct' v nw nb nc nm tp := by
  obtain ⟨q0, q1, q2, q3, q4⟩ := h
  exact ⟨Nat.lt_of_lt_of_le q0 (hle 0), Nat.lt_of_lt_of_le q1 (hle 1), Nat.lt_of_lt_of_le q2 (hle 2), Nat.lt_of_lt_of_le q3 (hle 3), by rw [hct 0 0 q0, q4, had 1 0 q1, had 2 0 q2, had 3 0 q3, had 11 tp (by omega), had 11 (1 - tp) (by omega), had 13 0 h13]⟩
theorem cRep_ext (e4 : cnt' 4 = cnt 4) (e5 : cnt' 5 = cnt 5) (e6 : cnt' 6 = cnt 6) (e7 : cnt' 7 = cnt 7) (e9 : cnt' 9 = cnt 9) (hle : ∀ k, cnt k ≤ cnt' k) (had : ∀ k i, i < cnt k → ad k i = ad' k i) (hct : ∀ k i, i < cnt k → ct' k i = ct k i) (h : cRep ca cnt ad ct v g nw nb nc nm) : cRep ca cnt' ad' ct' v g nw nb nc nm := by
  obtain ⟨hO, hIv, tp, htp, hX, hT, hB, hC, hN⟩ := h
  have q1 := hX.2.1
  have q2 := hX.2.2.1
  have q3 := hX.2.2.2.1
  exact ⟨hO, hIv, tp, htp, cX_ext htp hT.2.2.1 hT.1 hle had hct hX, cT_ext htp hle had hct hT, cB_ext e4 e5 q1 had hct hB, cC_ext e6 e7 q2 hle had hct hC, cN_ext e9 q3 hle had hct hN⟩
/-- a cell that the class's numbers don't speak of has changed -/
theorem cRep_up {k0 i0 : Nat} {e0 : va_E} (h0 : 15 ≤ k0) (h : cRep ca cnt ad ct v g nw nb nc nm) : cRep ca cnt ad (upd2 ct k0 i0 e0) v g nw nb nc nm := by
  obtain ⟨hO, hIv, tp, htp, hX, hT, hB, hC, hN⟩ := h
  exact ⟨hO, hIv, tp, htp, cX_up (by omega) hX, cT_up (by omega) hT, cB_up (by omega) hB, cC_up (by omega) hC, cN_up (by omega) hN⟩
end CE
