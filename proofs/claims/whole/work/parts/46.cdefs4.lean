def cRepE (ca : Nat → ClassId) (cnt : Nat → Nat) (ad : Nat → Nat → Nat) (ct : Nat → Nat → va_E) (v : Nat → Int32) (g : Nat → Nat → Int32) : Prop := ∃ nw nb nc nm, cRep ca cnt ad ct v g nw nb nc nm
theorem addA {P Q R : Prop} (h : R) (h2 : P ∧ Q) : P ∧ Q ∧ R := ⟨h2.1, h2.2, h⟩
theorem addO {P R : Prop} (h : R) (h2 : P) : P ∧ R := ⟨h2, h⟩
theorem cw_post {ca : Nat → ClassId} {cnt : Nat → Nat} {ad : Nat → Nat → Nat} {ct : Nat → Nat → va_E} {sp : MS} {x : Int32} {v' : Nat → Int32} {g' : Nat → Nat → Int32} (h : sp = (x, v', g')) (hr : cRepE ca cnt ad ct v' g') : some (Value.int x) = some (.int sp.1) ∧ cRepE ca cnt ad ct sp.2.1 sp.2.2 := by
  subst h
  exact ⟨rfl, hr⟩
section CU
variable {ca : Nat → ClassId} {cnt : Nat → Nat} {ad : Nat → Nat → Nat} {ct : Nat → Nat → va_E} {v : Nat → Int32} {g : Nat → Nat → Int32} {nw nb nc nm tp : Nat} {k0 i0 : Nat} {e0 : va_E}
theorem cX_up (h0 : k0 ≠ 0) (h : cX cnt ad ct v nw nb nc nm tp) : cX cnt ad (upd2 ct k0 i0 e0) v nw nb nc nm tp := by
  obtain ⟨h1, h2, h3, h4, h5⟩ := h
  exact ⟨h1, h2, h3, h4, by rw [upd2_k _ _ _ _ (Ne.symm h0)]; exact h5⟩
theorem cT_up (h0 : k0 ≠ 11 ∧ k0 ≠ 12 ∧ k0 ≠ 13 ∧ k0 ≠ 14) (h : cT ca cnt ad ct v g tp) : cT ca cnt ad (upd2 ct k0 i0 e0) v g tp := by
  obtain ⟨t1, t2, t3, t4, sz, n, nr, rt, b0, b1, vs, p1, p2, a1, a2, a3, a4, a5, f1, f2, f3, f4, f5, f6, a6, a7⟩ := h
  obtain ⟨z1, z2, z3, z4⟩ := h0
  exact ⟨t1, t2, t3, t4, sz, n, nr, rt, b0, b1, vs, p1, p2, a1, a2, a3, a4, a5, by rw [upd2_k _ _ _ _ (Ne.symm z1)]; exact f1, by rw [upd2_k _ _ _ _ (Ne.symm z1)]; exact f2, by rw [upd2_k _ _ _ _ (Ne.symm z2)]; exact f3, by rw [upd2_k _ _ _ _ (Ne.symm z2)]; exact f4, by rw [upd2_k _ _ _ _ (Ne.symm z3)]; exact f5, by rw [upd2_k _ _ _ _ (Ne.symm z4)]; exact f6, a6, a7⟩
theorem cB_up (h0 : k0 ≠ 1 ∧ k0 ≠ 4 ∧ k0 ≠ 5) (h : cB ca cnt ad ct g nb) : cB ca cnt ad (upd2 ct k0 i0 e0) g nb := by
  obtain ⟨t1, t2, fB, f1, h1⟩ := h
  obtain ⟨z1, z2, z3⟩ := h0
  refine ⟨t1, t2, fB, by rw [upd2_k _ _ _ _ (Ne.symm z1)]; exact f1, fun b hb => ?_⟩
  obtain ⟨q1, q2, n, f, q3, q4, q5, q6⟩ := h1 b hb
  exact ⟨q1, by rw [upd2_k _ _ _ _ (Ne.symm z2)]; exact q2, n, f, q3, q4, by rw [upd2_k _ _ _ _ (Ne.symm z3)]; exact q5, q6⟩
theorem chn_up {dt : Nat → MV} {ix : List Nat} (h0 : k0 ≠ 8) (h : chn cnt ad ct dt ix) : chn cnt ad (upd2 ct k0 i0 e0) dt ix := fun p i hp => ⟨(h p i hp).1, by rw [upd2_k _ _ _ _ (Ne.symm h0)]; exact (h p i hp).2⟩
theorem cCh_up {dt : Nat → MV} {ow : Nat → Nat} {ix : List Nat} {ak : Int32} {c : Nat} (h0 : k0 ≠ 6 ∧ k0 ≠ 7 ∧ k0 ≠ 8) (h : cCh cnt ad ct g nm dt ow ix ak c) : cCh cnt ad (upd2 ct k0 i0 e0) g nm dt ow ix ak c := by
  obtain ⟨h1, h2, h3, h4⟩ := h
  exact ⟨by rw [upd2_k _ _ _ _ (Ne.symm h0.1)]; exact h1, by rw [upd2_k _ _ _ _ (Ne.symm h0.2.1)]; exact h2, chn_up h0.2.2 h3, h4⟩
theorem cC_up (h0 : k0 ≠ 2 ∧ k0 ≠ 6 ∧ k0 ≠ 7 ∧ k0 ≠ 8) (h : cC ca cnt ad ct g nc nm) : cC ca cnt ad (upd2 ct k0 i0 e0) g nc nm := by
  obtain ⟨t1, t2, fC, dt, ow, ix, ak, f1, h1⟩ := h
  exact ⟨t1, t2, fC, dt, ow, ix, ak, by rw [upd2_k _ _ _ _ (Ne.symm h0.1)]; exact f1, fun c hc => ⟨(h1 c hc).1, cCh_up h0.2 (h1 c hc).2⟩⟩
theorem lks_up (h0 : k0 ≠ 10) : ∀ {l : List Nat} {o : Option Nat}, lks cnt ad ct o l → lks cnt ad (upd2 ct k0 i0 e0) o l
  | [], _, h => h
  | d :: r, _, ⟨j, o', h1, h2, h3, h4⟩ => ⟨j, o', h1, h2, by rw [upd2_k _ _ _ _ (Ne.symm h0)]; exact h3, lks_up h0 h4⟩
theorem cN_up (h0 : k0 ≠ 3 ∧ k0 ≠ 9 ∧ k0 ≠ 10) (h : cN ca cnt ad ct g nw) : cN ca cnt ad (upd2 ct k0 i0 e0) g nw := by
  obtain ⟨t1, fN, lk, f1, h1⟩ := h
  refine ⟨t1, fN, lk, by rw [upd2_k _ _ _ _ (Ne.symm h0.1)]; exact f1, fun i hi => ?_⟩
  obtain ⟨q1, q2, l, q3, q4⟩ := h1 i hi
  exact ⟨q1, by rw [upd2_k _ _ _ _ (Ne.symm h0.2.1)]; exact q2, l, lks_up h0.2.2 q3, q4⟩
theorem cT_v {v' : Nat → Int32} (h27 : v' 27 = v 27) (h5 : v' 5 = v 5) (h : cT ca cnt ad ct v g tp) : cT ca cnt ad ct v' g tp := by
  obtain ⟨t1, t2, t3, t4, sz, n, nr, rt, b0, b1, vs, p1, p2, a1, a2, a3, a4, a5, r⟩ := h
  exact ⟨t1, t2, t3, t4, sz, n, nr, rt, b0, b1, vs, p1, p2, by rw [h27]; exact a1, a2, a3, by rw [h5]; exact a4, a5, r⟩
end CU
theorem mIv_w {g : Nat → Nat → Int32} {nw nw' nc nm : Nat} (h : nw ≤ nw') (hi : mIv g nw nc nm) : mIv g nw' nc nm := by
  refine ⟨fun c hc => ?_, fun m hm => ?_⟩
  · obtain ⟨d, h1, h2⟩ := hi.1 c hc
    exact ⟨d, by omega, h2⟩
  · obtain ⟨c, d, f, t, q, h1, h2, h3, h4, h5, h6, h7, h8, h9, h10⟩ := hi.2 m hm
    exact ⟨c, d, f, t, q, h1, h2, h3, h4, h5, h6, h7, h8, by omega, h10⟩
theorem cN_w {ca : Nat → ClassId} {cnt : Nat → Nat} {ad : Nat → Nat → Nat} {ct : Nat → Nat → va_E} {g : Nat → Nat → Int32} {nw nw' : Nat} (h : nw ≤ nw') (hn : cN ca cnt ad ct g nw) : cN ca cnt ad ct g nw' := by
  obtain ⟨t1, fN, lk, f1, h1⟩ := hn
  refine ⟨t1, fN, lk, f1, fun i hi => ?_⟩
  obtain ⟨q1, q2, l, q3, q4, q5⟩ := h1 i hi
  exact ⟨q1, q2, l, q3, dwn_le (by omega) q4, q5⟩

theorem upd2_2 {α : Type} (f : Nat → Nat → α) (k i : Nat) (x y : α) : upd2 (upd2 f k i x) k i y = upd2 f k i y := by
  funext a b
  by_cases h : a = k ∧ b = i <;> simp [upd2, h]

section CV
variable {ca : Nat → ClassId} {cnt : Nat → Nat} {ad : Nat → Nat → Nat} {ct : Nat → Nat → va_E} {v : Nat → Int32} {g g' : Nat → Nat → Int32} {nw nb nc nm tp : Nat}
/-- the reference's arrays that a part of the world speaks of have stayed -/
theorem mWh_g (h18 : ∀ i, g' 18 i = g 18 i) (h19 : ∀ i, g' 19 i = g 19 i) (h20 : ∀ i, g' 20 i = g 20 i) (h21 : ∀ i, g' 21 i = g 21 i) (c d q : Int32) : ∀ n, mWh g' c d q n = mWh g c d q n
  | 0 => rfl
  | n + 1 => by unfold mWh; rw [mWh_g h18 h19 h20 h21 c d q n, h18, h19, h20, h21]
theorem mch_g (h9 : ∀ i, g' 9 i = g 9 i) (h18 : ∀ i, g' 18 i = g 18 i) (h19 : ∀ i, g' 19 i = g 19 i) (h20 : ∀ i, g' 20 i = g 20 i) (h21 : ∀ i, g' 21 i = g 21 i) (c : Nat) : ∀ n, mch g' c n = mch g c n
  | 0 => by unfold mch; rw [h9]
  | n + 1 => by unfold mch; rw [mch_g h9 h18 h19 h20 h21 c n, h18, h19, h20, h21]
theorem mCnt_g (h18 : ∀ i, g' 18 i = g 18 i) (c : Int32) : ∀ n, mCnt g' c n = mCnt g c n
  | 0 => rfl
  | n + 1 => by unfold mCnt; rw [mCnt_g h18 c n, h18]
theorem mIv_g (h9 : ∀ i, g' 9 i = g 9 i) (h18 : ∀ i, g' 18 i = g 18 i) (h19 : ∀ i, g' 19 i = g 19 i) (h20 : ∀ i, g' 20 i = g 20 i) (h21 : ∀ i, g' 21 i = g 21 i) (h : mIv g nw nc nm) : mIv g' nw nc nm := by
  refine ⟨fun c hc => by rw [h9]; exact h.1 c hc, fun m hm => ?_⟩
  obtain ⟨c, d, f, t, q, r⟩ := h.2 m hm
  exact ⟨c, d, f, t, q, by rw [h18, h9, h20, h21, h19]; exact r⟩
theorem cB_g (h6 : ∀ i, g' 6 i = g 6 i) (h7 : ∀ i, g' 7 i = g 7 i) (h : cB ca cnt ad ct g nb) : cB ca cnt ad ct g' nb := by
  obtain ⟨t1, t2, fB, f1, h1⟩ := h
  refine ⟨t1, t2, fB, f1, fun b hb => ?_⟩
  obtain ⟨q1, q2, n, f, q3, q4, q5, q6⟩ := h1 b hb
  exact ⟨q1, q2, n, f, q3, by rw [h6]; exact q4, q5, fun i hi => by rw [h7]; exact q6 i hi⟩
theorem cCh_g {dt : Nat → MV} {ow : Nat → Nat} {ix : List Nat} {ak : Int32} {c : Nat} (hk : ∀ k, k = 9 ∨ k = 10 ∨ k = 11 ∨ k = 12 ∨ k = 13 ∨ k = 14 ∨ k = 15 ∨ k = 16 ∨ k = 17 ∨ k = 18 ∨ k = 19 ∨ k = 20 ∨ k = 21 → ∀ i, g' k i = g k i) (h : cCh cnt ad ct g nm dt ow ix ak c) : cCh cnt ad ct g' nm dt ow ix ak c := by
  obtain ⟨h1, h2, h3, h4, h5, h6⟩ := h
  refine ⟨?_, ?_, h3, ?_, ?_, h6⟩
  · rw [hk 9 (by simp), hk 10 (by simp), hk 11 (by simp), hk 14 (by simp), hk 15 (by simp), hk 16 (by simp), mCnt_g (hk 18 (by simp))]; exact h1
  · rw [hk 12 (by simp), hk 13 (by simp)]; exact h2
  · rw [mch_g (hk 9 (by simp)) (hk 18 (by simp)) (hk 19 (by simp)) (hk 20 (by simp)) (hk 21 (by simp))]; exact h4
  · intro w hw; rw [hk 17 (by simp)]; exact h5 w hw
theorem cC_g (hk : ∀ k, k = 9 ∨ k = 10 ∨ k = 11 ∨ k = 12 ∨ k = 13 ∨ k = 14 ∨ k = 15 ∨ k = 16 ∨ k = 17 ∨ k = 18 ∨ k = 19 ∨ k = 20 ∨ k = 21 → ∀ i, g' k i = g k i) (h : cC ca cnt ad ct g nc nm) : cC ca cnt ad ct g' nc nm := by
  obtain ⟨t1, t2, fC, dt, ow, ix, ak, f1, h1⟩ := h
  exact ⟨t1, t2, fC, dt, ow, ix, ak, f1, fun c hc => ⟨(h1 c hc).1, cCh_g hk (h1 c hc).2⟩⟩
theorem cN_g (h22 : ∀ i, g' 22 i = g 22 i) (h23 : ∀ i, g' 23 i = g 23 i) (h : cN ca cnt ad ct g nw) : cN ca cnt ad ct g' nw := by
  obtain ⟨t1, fN, lk, f1, h1⟩ := h
  refine ⟨t1, fN, lk, f1, fun i hi => ?_⟩
  obtain ⟨q1, q2, l, q3, q4, q5⟩ := h1 i hi
  exact ⟨q1, by rw [h22]; exact q2, l, q3, q4, fun d hd => by rw [h23]; exact q5 d hd⟩
theorem cT_g (h24 : ∀ i, g' 24 i = g 24 i) (h25 : ∀ i, g' 25 i = g 25 i) (h : cT ca cnt ad ct v g tp) : cT ca cnt ad ct v g' tp := by
  obtain ⟨t1, t2, t3, t4, sz, n, nr, rt, b0, b1, vs, p1, p2, a1, a2, a3, a4, a5, f1, f2, f3, f4, f5, f6, a6, a7⟩ := h
  exact ⟨t1, t2, t3, t4, sz, n, nr, rt, b0, b1, vs, p1, p2, a1, a2, a3, a4, a5, f1, f2, f3, f4, f5, f6, fun j hj => by rw [h24]; exact a6 j hj, rl_g h25 a7⟩
/-- child j's own cell has changed: its mother, who may ask -/
theorem cC_set6 {j : Nat} {fC : Nat → Option Nat} {dt : Nat → MV} {ow : Nat → Nat} {ix : Nat → List Nat} {ak : Nat → Int32} {ak0 : Int32} (h6 : cnt 6 = nc) (h7 : cnt 7 = nc) (f2 : ct 2 0 = .inl (ca 4, 60, aQ fC)) (hCd : ∀ c, c < nc → fC c = some (ad 6 c) ∧ cCh cnt ad ct g nm dt ow (ix c) (ak c) c) (hj : j < nc)
    (hg : ∀ k, k = 9 ∨ k = 10 ∨ k = 11 ∨ k = 12 ∨ k = 13 ∨ k = 14 ∨ k = 15 ∨ k = 18 ∨ k = 19 ∨ k = 20 ∨ k = 21 → ∀ i, g' k i = g k i) (h16 : ∀ i, i ≠ j → g' 16 i = g 16 i) (h17 : ∀ i w, i ≠ j → w < 20 → g' 17 (20 * i + w) = g 17 (20 * i + w)) (hak : akOK g' j ak0) :
    cC ca cnt ad (upd2 ct 6 j (.inr (1, [.int (g 9 j), .int (g 10 j), .int (g 11 j), .ref (ad 7 j), .int (g 14 j), .int (g 15 j), va_rf (Option.map (ad 8) ((ix j)[0]?)), .int (nI (mCnt g (nI j) nm)), .int (g' 16 j), .int ak0]))) g' nc nm := by
  refine ⟨h6, h7, fC, dt, ow, ix, fun c => if c = j then ak0 else ak c, by rw [upd2_k _ _ _ _ (by decide)]; exact f2, fun c hc => ⟨(hCd c hc).1, ?_⟩⟩
  obtain ⟨a1, a2, a3, a4, a5, a6⟩ := (hCd c hc).2
  have e9 := hg 9 (by simp)
  have e18 := hg 18 (by simp)
  refine ⟨?_, by rw [upd2_k _ _ _ _ (by decide), hg 12 (by simp), hg 13 (by simp)]; exact a2, chn_up (by decide) a3, by rw [mch_g e9 e18 (hg 19 (by simp)) (hg 20 (by simp)) (hg 21 (by simp))]; exact a4, ?_, a6⟩
  · dsimp only
    rw [mCnt_g e18]
    by_cases h : c = j
    · subst h
      rw [upd2_at, e9, hg 10 (by simp), hg 11 (by simp), hg 14 (by simp), hg 15 (by simp), if_pos rfl]
    · rw [upd2_i _ _ _ h, a1, if_neg h, e9, hg 10 (by simp), hg 11 (by simp), hg 14 (by simp), hg 15 (by simp), h16 c h]
  · dsimp only
    by_cases h : c = j
    · subst h; rw [if_pos rfl]; exact hak
    · rw [if_neg h]
      intro w hw
      rw [h17 c w h hw]
      exact a5 w hw
end CV
