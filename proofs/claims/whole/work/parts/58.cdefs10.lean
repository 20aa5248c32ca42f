theorem lks_ext10 {cnt cnt' : Nat → Nat} {ad ad' : Nat → Nat → Nat} {ct ct' : Nat → Nat → va_E} (hle : ∀ k, cnt k ≤ cnt' k) (had : ∀ k i, i < cnt k → ad k i = ad' k i) (hct : ∀ i, i < cnt 10 → ct' 10 i = ct 10 i) : ∀ {l : List Nat} {o : Option Nat}, lks cnt ad ct o l → lks cnt' ad' ct' o l ∧ ∀ j, o = some j → j < cnt 10
  | [], _, h => ⟨h, fun j hj => by rw [show _ = none from h] at hj; cases hj⟩
  | d :: r, _, ⟨j, o', h1, h2, h3, h4⟩ => by
    obtain ⟨i1, i2⟩ := lks_ext10 hle had hct h4
    exact ⟨⟨j, o', h1, Nat.lt_of_lt_of_le h2 (hle 10), by rw [hct j h2, h3, map_ext (k := 10) had i2], i1⟩, fun q hq => by rw [h1] at hq; cases hq; exact h2⟩

/-! ===== a move comes into a chain ===== -/
theorem insR_idx (m : MV) : ∀ r : List MV, insR m r = r.insertIdx (luN m.2.1 r) m
  | [] => rfl
  | b :: r => by
    unfold insR luN
    split
    · rfl
    · rw [List.insertIdx_succ_cons, insR_idx m r]
theorem luN_le (d : Int32) : ∀ r : List MV, luN d r ≤ r.length
  | [] => Nat.le_refl _
  | b :: r => by
    unfold luN
    split
    · exact Nat.zero_le _
    · rw [List.length_cons]; have := luN_le d r; omega
theorem map_insIdx {α β : Type} (f : α → β) (x : α) : ∀ (l : List α) (i : Nat), (l.insertIdx i x).map f = (l.map f).insertIdx i (f x)
  | [], 0 => rfl
  | [], i + 1 => rfl
  | a :: l, 0 => rfl
  | a :: l, i + 1 => by rw [List.insertIdx_succ_cons, List.map_cons, List.map_cons, List.insertIdx_succ_cons, map_insIdx f x l i]
theorem nodup_insIdx {α : Type} {x : α} : ∀ {l : List α} {i : Nat}, x ∉ l → l.Nodup → (l.insertIdx i x).Nodup
  | [], 0, _, _ => by simp
  | [], i + 1, _, h => h
  | a :: l, 0, hx, h => by rw [List.insertIdx_zero]; exact List.nodup_cons.mpr ⟨hx, h⟩
  | a :: l, i + 1, hx, h => by
    rw [List.insertIdx_succ_cons]
    have h2 := List.nodup_cons.mp h
    refine List.nodup_cons.mpr ⟨fun q => ?_, nodup_insIdx (fun q => hx (List.mem_cons_of_mem _ q)) h2.2⟩
    by_cases hi : i ≤ l.length
    · rcases (List.mem_insertIdx hi).mp q with e | e
      · exact hx (by rw [e]; simp)
      · exact h2.1 e
    · rw [List.insertIdx_of_length_lt (by omega)] at q
      exact h2.1 q
section CM
variable {ca : Nat → ClassId} {cnt cnt' : Nat → Nat} {ad ad' : Nat → Nat → Nat} {ct ct' : Nat → Nat → va_E} {v v' : Nat → Int32} {g g' : Nat → Nat → Int32} {nw nb nc nm tp : Nat}
theorem mch_lt {c n : Nat} (h9 : g' 9 c = g 9 c) (h : ∀ k, 18 ≤ k → k ≤ 21 → ∀ m, m < n → g' k m = g k m) : mch g' c n = mch g c n := by
  induction n with
  | zero => unfold mch; rw [h9]
  | succ n ih => unfold mch; rw [ih (fun k h1 h2 m hm => h k h1 h2 m (by omega)), h 18 (by omega) (by omega) n (by omega), h 19 (by omega) (by omega) n (by omega), h 20 (by omega) (by omega) n (by omega), h 21 (by omega) (by omega) n (by omega)]
theorem mCnt_lt {c : Int32} {n : Nat} (h : ∀ m, m < n → g' 18 m = g 18 m) : mCnt g' c n = mCnt g c n := by
  induction n with
  | zero => rfl
  | succ n ih => unfold mCnt; rw [ih (fun m hm => h m (by omega)), h n (by omega)]
theorem mvG_o {a pl fr : Int32} {k q : Nat} (h : 18 ≤ k → k ≤ 21 → q ≠ nm) : mMoveG g nw nm a pl fr k q = g k q := by
  unfold mMoveG upd2
  rw [if_neg (by omega), if_neg (by omega), if_neg (by omega), if_neg (by omega)]
theorem mvG_18 {a pl fr : Int32} : mMoveG g nw nm a pl fr 18 nm = a := by simp [mMoveG, upd2]
theorem mvG_19 {a pl fr : Int32} : mMoveG g nw nm a pl fr 19 nm = pl := by simp [mMoveG, upd2]
theorem mvG_20 {a pl fr : Int32} : mMoveG g nw nm a pl fr 20 nm = fr := by simp [mMoveG, upd2]
theorem mvG_21 {a pl fr : Int32} : mMoveG g nw nm a pl fr 21 nm = nI nw := by simp [mMoveG, upd2]
theorem mch_mvo {j c : Nat} {pl fr : Int32} : mch (mMoveG g nw nm (nI j) pl fr) c nm = mch g c nm := mch_lt (mvG_o (by omega)) (fun k _ _ m hm => mvG_o (by omega))
theorem mch_mv {j c : Nat} {pl fr : Int32} (hj : j < 60) (hc : c < 60) : mch (mMoveG g nw nm (nI j) pl fr) c (nm + 1) = if c = j then ins (pl, fr, nI nw) (mch g c nm) else mch g c nm := by
  rw [mch, mch_mvo, mvG_18, mvG_19, mvG_20, mvG_21]
  by_cases e : c = j
  · subst e; rw [if_pos rfl, if_pos rfl]
  · rw [if_neg e, if_neg (fun q => e ((nI_eq (by omega) (by omega)).mp q.symm))]
theorem mCnt_mvo {j : Nat} {c pl fr : Int32} : mCnt (mMoveG g nw nm (nI j) pl fr) c nm = mCnt g c nm := mCnt_lt (fun m hm => mvG_o (by omega))
theorem mCnt_mv {j c : Nat} {pl fr : Int32} (hj : j < 60) (hc : c < 60) : mCnt (mMoveG g nw nm (nI j) pl fr) (nI c) (nm + 1) = if c = j then mCnt g (nI c) nm + 1 else mCnt g (nI c) nm := by
  rw [mCnt, mCnt_mvo, mvG_18]
  by_cases e : c = j
  · subst e; rw [if_pos rfl, if_pos rfl]
  · rw [if_neg e, if_neg (fun q => e ((nI_eq (by omega) (by omega)).mp q.symm))]
    try rfl
theorem mIv_mvo {a pl fr : Int32} (h : mIv g nw nc nm) : mIv (mMoveG g nw nm a pl fr) nw nc nm := by
  refine ⟨fun c hc => by rw [mvG_o (by omega)]; exact h.1 c hc, fun m hm => ?_⟩
  obtain ⟨c, d, f, t, q, r⟩ := h.2 m hm
  exact ⟨c, d, f, t, q, by rw [mvG_o (k := 18) (by omega), mvG_o (k := 9) (by omega), mvG_o (k := 20) (by omega), mvG_o (k := 21) (by omega), mvG_o (k := 19) (by omega)]; exact r⟩
theorem mIv_mv1 {j d f q : Nat} (h : mIv g nw nc nm) (hj : j < nc) (hd : g 9 j = nI d) (h1 : d ≤ f) (h2 : f ≤ nw) (h3 : q ≤ 15) : mIv (mMoveG g nw nm (nI j) (nI q) (nI f)) nw nc (nm + 1) := by
  have h0 := mIv_mvo (a := nI j) (pl := nI q) (fr := nI f) h
  refine ⟨h0.1, fun m hm => ?_⟩
  by_cases e : m = nm
  · subst e
    exact ⟨j, d, f, nw, q, hj, mvG_18, by rw [mvG_o (by omega)]; exact hd, mvG_20, mvG_21, mvG_19, h1, h2, Nat.le_refl _, h3⟩
  · exact h0.2 m (by omega)
/-- the last move up to a day: where it is in the chain -/
theorem lu_get {d : Int32} {ix : List Nat} {dt : Nat → MV} {a : MV} {r : List MV} (h : ix.map dt = a :: r) : (∃ i0, ix[0]? = some i0) ∧ ∃ z b, luN d ((ix.map dt).drop 1) = z ∧ z = luN d r ∧ z + 1 ≤ ix.length ∧ ix[z]? = some b := by
  have hl : ix.length = r.length + 1 := by have := congrArg List.length h; simpa using this
  have hz := luN_le d r
  refine ⟨⟨ix[0], List.getElem?_eq_getElem (by omega)⟩, luN d r, ix[luN d r], ?_, rfl, by omega, List.getElem?_eq_getElem (by omega)⟩
  rw [h]
  rfl
/-- the chains after a move has come -/
theorem mv_chain {j z b i1 : Nat} {pl fr : Int32} {fC : Nat → Option Nat} {dt : Nat → MV} {ow : Nat → Nat} {ix : Nat → List Nat} {ak : Nat → Int32} {a0 : MV} {r : List MV} (hcc : nc ≤ 60) (hCd : ∀ c, c < nc → fC c = some (ad 6 c) ∧ cCh cnt ad ct g nm dt ow (ix c) (ak c) c) (hj : j < nc)
    (hr : (ix j).map dt = a0 :: r) (hz : z = luN fr r) (hzl : z + 1 ≤ (ix j).length) (hb : (ix j)[z]? = some b) (e8 : cnt 8 ≤ i1) (l8 : i1 < cnt' 8) (hle : ∀ k, cnt k ≤ cnt' k) (had : ∀ k i, i < cnt k → ad k i = ad' k i) (hct : ∀ i, i < cnt 8 → i ≠ b → ct' 8 i = ct 8 i)
    (n1 : ct' 8 i1 = .inr (5, [.int pl, .int fr, .int (nI nw), va_rf (Option.map (ad 8) ((ix j)[z + 1]?))])) (nb : ct' 8 b = .inr (5, [.int (dt b).1, .int (dt b).2.1, .int (dt b).2.2, .ref (ad' 8 i1)])) : ∃ (dt' : Nat → MV) (ow' : Nat → Nat) (ix' : Nat → List Nat), ∀ c, c < nc → (ix' c)[0]? = (ix c)[0]? ∧ chn cnt' ad' ct' dt' (ix' c) ∧ (ix' c).map dt' = mch (mMoveG g nw nm (nI j) pl fr) c (nm + 1) ∧ (∀ i, i ∈ ix' c → ow' i = c) ∧ (ix' c).Nodup := by
  refine ⟨fun q => if q = i1 then (pl, fr, nI nw) else dt q, fun q => if q = i1 then j else ow q, fun c => if c = j then (ix j).insertIdx (z + 1) i1 else ix c, fun c hc => ?_⟩
  obtain ⟨-, -, -, a3, a4, -, a6, a7⟩ := hCd c hc
  have hlt := chn_lt a3
  have hne : ∀ q, q ∈ ix c → q ≠ i1 := fun q hq => by have := hlt q hq; omega
  rw [mch_mv (by omega) (by omega)]
  dsimp only
  by_cases e : c = j
  · subst e
    rw [if_pos rfl, if_pos rfl]
    refine ⟨by rw [List.getElem?_insertIdx, if_pos (by omega)], fun p i hp => ?_, ?_, fun i hi => ?_, nodup_insIdx (fun q => hne _ q rfl) a7⟩
    · rw [List.getElem?_insertIdx] at hp ⊢
      dsimp only
      have hz' : z < (ix c).length := by omega
      rcases Nat.lt_trichotomy p (z + 1) with q | q | q
      · rw [if_pos q] at hp
        obtain ⟨s1, s2⟩ := a3 p i hp
        have hi1 : i ≠ i1 := by omega
        rw [if_neg hi1]
        by_cases ep : p = z
        · subst ep
          rw [hb] at hp
          cases hp
          refine ⟨Nat.lt_of_lt_of_le s1 (hle 8), ?_⟩
          rw [nb, if_neg (by omega), if_pos rfl, if_pos (by omega)]
          rfl
        · have hib : i ≠ b := fun w => ep (by
            have := (List.getElem?_inj (l := ix c) (i := p) (j := z) (by omega) a7).mp (by rw [hp, hb, w])
            exact this)
          refine ⟨Nat.lt_of_lt_of_le s1 (hle 8), ?_⟩
          rw [hct i s1 hib, s2, if_pos (by omega), map_ext (k := 8) had (fun j hj => (a3 (p + 1) j hj).1)]
      · subst q
        rw [if_neg (by omega), if_pos rfl, if_pos (by omega)] at hp
        cases hp
        refine ⟨l8, ?_⟩
        rw [n1, if_pos rfl, if_neg (by omega), if_neg (by omega), map_ext (k := 8) had (fun j hj => (a3 (z + 1) j hj).1)]
        rfl
      · rw [if_neg (by omega), if_neg (by omega)] at hp
        obtain ⟨s1, s2⟩ := a3 (p - 1) i hp
        have hi1 : i ≠ i1 := by omega
        have hib : i ≠ b := fun w => by
          have hl : p - 1 < (ix c).length := len_some hp
          have := (List.getElem?_inj (l := ix c) (i := p - 1) (j := z) hl a7).mp (by rw [hp, hb, w])
          omega
        refine ⟨Nat.lt_of_lt_of_le s1 (hle 8), ?_⟩
        rw [if_neg hi1, hct i s1 hib, s2, if_neg (by omega), if_neg (by omega), show p + 1 - 1 = p - 1 + 1 by omega, map_ext (k := 8) had (fun j hj => (a3 (p - 1 + 1) j hj).1)]
    · rw [map_insIdx, if_pos rfl, map_cong9 (h := dt) (fun q hq => if_neg (hne q hq)), ← a4, hr, List.insertIdx_succ_cons, ins, insR_idx, hz]
    · rcases (List.mem_insertIdx (by omega)).mp hi with q | q
      · rw [if_pos q]
      · rw [if_neg (hne i q)]; exact a6 i q
  · rw [if_neg e, if_neg e]
    have hob : ∀ q, q ∈ ix c → q ≠ b := fun q hq w => by
      obtain ⟨-, -, -, -, -, -, b6, -⟩ := hCd j hj
      have h1 := b6 b (List.mem_of_getElem? hb)
      have h2 := a6 q hq
      rw [w, h1] at h2
      exact e h2.symm
    refine ⟨rfl, chn_dt (fun q hq => if_neg (hne q hq)) (fun p i hp => ?_), by rw [← a4]; exact map_cong9 (fun q hq => if_neg (hne q hq)), fun i hi => by rw [if_neg (hne i hi)]; exact a6 i hi, a7⟩
    obtain ⟨s1, s2⟩ := a3 p i hp
    refine ⟨Nat.lt_of_lt_of_le s1 (hle 8), ?_⟩
    rw [hct i s1 (hob i (List.mem_of_getElem? hp)), s2, map_ext (k := 8) had (fun j hj => (a3 (p + 1) j hj).1)]
/-- what childrenAt, isOver and findNurse need of the cells -/
def cRepG (ca : Nat → ClassId) (cnt : Nat → Nat) (ad : Nat → Nat → Nat) (ct : Nat → Nat → va_E) (g : Nat → Nat → Int32) (nw nc nm : Nat) : Prop := nw ≤ 2000 ∧ nc ≤ 60 ∧ mIv g nw nc nm ∧ 0 < cnt 0 ∧ 0 < cnt 2 ∧ 0 < cnt 3 ∧ (∃ (x1 x3 x4 x5 : Int32) (tp : Nat), ct 0 0 = .inr (9, [.int (nI nw), .int x1, .int (nI nc), .int x3, .int x4, .int x5, .ref (ad 1 0), .ref (ad 2 0), .ref (ad 3 0), .ref (ad 11 tp), .ref (ad 11 (1 - tp)), .ref (ad 13 0)])) ∧ nc ≤ cnt 6 ∧ (∃ (fC : Nat → Option Nat) (dt : Nat → MV) (ix : Nat → List Nat), ct 2 0 = .inl (ca 4, 60, aQ fC) ∧ ∀ c, c < nc → fC c = some (ad 6 c) ∧ ∃ t0 t1 t2 t4 t5 t7 t8 t9 : Int32, ct 6 c = .inr (1, [.int t0, .int t1, .int t2, .ref (ad 7 c), .int t4, .int t5, va_rf (Option.map (ad 8) ((ix c)[0]?)), .int t7, .int t8, .int t9]) ∧ chn cnt ad ct dt (ix c) ∧ (ix c).map dt = mch g c nm) ∧ cN ca cnt ad ct g nw
/-- the cells in the midst of a move -/
theorem cRepG_mv {j : Nat} {pl fr : Int32} {fC : Nat → Option Nat} {dt : Nat → MV} {ow : Nat → Nat} {ix : Nat → List Nat} {ak : Nat → Int32} (hw : nw ≤ 2000) (hcc : nc ≤ 60) (hIv' : mIv (mMoveG g nw nm (nI j) pl fr) nw nc (nm + 1)) (hX : cX cnt ad ct v nw nb nc nm tp) (htp : tp < 2) (h11 : 1 < cnt 11) (h13 : 0 < cnt 13) (h6 : cnt 6 = nc) (h7 : cnt 7 = nc) (f2 : ct 2 0 = .inl (ca 4, 60, aQ fC)) (hCd : ∀ c, c < nc → fC c = some (ad 6 c) ∧ cCh cnt ad ct g nm dt ow (ix c) (ak c) c) (hN : cN ca cnt ad ct g nw) (e9 : cnt' 9 = cnt 9)
    (hch : ∃ (dt' : Nat → MV) (ow' : Nat → Nat) (ix' : Nat → List Nat), ∀ c, c < nc → (ix' c)[0]? = (ix c)[0]? ∧ chn cnt' ad' ct' dt' (ix' c) ∧ (ix' c).map dt' = mch (mMoveG g nw nm (nI j) pl fr) c (nm + 1) ∧ (∀ i, i ∈ ix' c → ow' i = c) ∧ (ix' c).Nodup) (hle : ∀ k, cnt k ≤ cnt' k) (had : ∀ k i, i < cnt k → ad k i = ad' k i) (hct : ∀ k i, k ≠ 8 → i < cnt k → ct' k i = ct k i) : cRepG ca cnt' ad' ct' (mMoveG g nw nm (nI j) pl fr) nw nc (nm + 1) := by
  obtain ⟨q0, q1, q2, q3, q4⟩ := hX
  obtain ⟨dt', ow', ix', hch⟩ := hch
  refine ⟨hw, hcc, hIv', Nat.lt_of_lt_of_le q0 (hle 0), Nat.lt_of_lt_of_le q2 (hle 2), Nat.lt_of_lt_of_le q3 (hle 3), ⟨_, _, _, _, tp, by rw [hct 0 0 (by omega) q0, q4, had 1 0 q1, had 2 0 q2, had 3 0 q3, had 11 tp (by omega), had 11 (1 - tp) (by omega), had 13 0 h13]⟩, by rw [← h6]; exact hle 6, ⟨fC, dt', ix', by rw [hct 2 0 (by omega) q2]; exact f2, fun c hc => ?_⟩, ?_⟩
  · obtain ⟨s0, a1, a2, a3, -⟩ := hCd c hc
    obtain ⟨c0, c1, c2, -, -⟩ := hch c hc
    exact ⟨by rw [← had 6 c (by omega)]; exact s0, _, _, _, _, _, _, _, _, by rw [c0, hct 6 c (by omega) (by omega), a1, had 7 c (by omega), map_ext (k := 8) had (fun j hj => (a3 0 j hj).1)], c1, c2⟩
  · obtain ⟨t1, fN, lk, f1, hd⟩ := hN
    refine ⟨e9.trans t1, fN, lk, by rw [hct 3 0 (by omega) q3]; exact f1, fun i hi => ?_⟩
    obtain ⟨w1, w2, l, w3, w4, w5⟩ := hd i hi
    obtain ⟨z1, z2⟩ := lks_ext10 hle had (fun i hi => hct 10 i (by omega) hi) w3
    exact ⟨by rw [← had 9 i (by omega)]; exact w1, by rw [hct 9 i (by omega) (by omega), w2, map_ext (k := 10) had z2, mvG_o (by omega)], l, z1, w4, fun d hd => by rw [mvG_o (by omega)]; exact w5 d hd⟩
end CM

section CMB
variable {ca : Nat → ClassId} {cnt cnt' : Nat → Nat} {ad ad' : Nat → Nat → Nat} {ct ct' : Nat → Nat → va_E} {v v' : Nat → Int32} {g g' : Nat → Nat → Int32} {nw nb nc nm tp : Nat}
theorem gone_eq {j d f : Nat} (hw : nw ≤ 2000) (hcc : nc ≤ 60) (hIv : mIv g nw nc nm) (hj : j < nc) (hd : g 9 j = nI d) (h1 : d ≤ f) (h2 : f ≤ nw) : plc (nI f) (nI nw) (mch g j nm) (-1) = (mWh g (nI j) (nI f) (nI nw) nm).1 := by
  rw [plc_mch hw hcc hIv hj, if_pos]
  simp only [mThere, hd, Bool.and_eq_true, Bool.not_eq_true', decide_eq_false_iff_not]
  exact ⟨nI_nlt h1 (by omega), nI_nlt (by omega) (by omega)⟩
/-- a move has come: the children's cells -/
theorem cC_mv {j : Nat} {pl fr : Int32} {fC : Nat → Option Nat} {dt : Nat → MV} {ow : Nat → Nat} {ix : Nat → List Nat} {ak : Nat → Int32} (hcc : nc ≤ 60) (h2 : 0 < cnt 2) (h6 : cnt 6 = nc) (h7 : cnt 7 = nc) (e6 : cnt' 6 = cnt 6) (e7 : cnt' 7 = cnt 7) (f2 : ct 2 0 = .inl (ca 4, 60, aQ fC)) (hCd : ∀ c, c < nc → fC c = some (ad 6 c) ∧ cCh cnt ad ct g nm dt ow (ix c) (ak c) c) (hj : j < nc)
    (hch : ∃ (dt' : Nat → MV) (ow' : Nat → Nat) (ix' : Nat → List Nat), ∀ c, c < nc → (ix' c)[0]? = (ix c)[0]? ∧ chn cnt' ad' ct' dt' (ix' c) ∧ (ix' c).map dt' = mch (mMoveG g nw nm (nI j) pl fr) c (nm + 1) ∧ (∀ i, i ∈ ix' c → ow' i = c) ∧ (ix' c).Nodup) (had : ∀ k i, i < cnt k → ad k i = ad' k i) (hct : ∀ k i, k ≠ 8 → i < cnt k → ct' k i = ct k i) : cC ca cnt' ad' (upd2 ct' 6 j (.inr (1, [.int (g 9 j), .int (g 10 j), .int (g 11 j), .ref (ad 7 j), .int (g 14 j), .int (g 15 j), va_rf (Option.map (ad 8) ((ix j)[0]?)), .int (nI (mCnt g (nI j) nm + 1)), .int (g 16 j), .int (ak j)]))) (mMoveG g nw nm (nI j) pl fr) nc (nm + 1) := by
  obtain ⟨dt', ow', ix', hch⟩ := hch
  refine ⟨e6.trans h6, e7.trans h7, fC, dt', ow', ix', ak, by rw [upd2_k _ _ _ _ (by decide), hct 2 0 (by decide) h2]; exact f2, fun c hc => ?_⟩
  obtain ⟨q0, a1, a2, a3, a4, a5, a6, a7⟩ := hCd c hc
  obtain ⟨c0, c1, c2, c3, c4⟩ := hch c hc
  refine ⟨by rw [← had 6 c (by omega)]; exact q0, ?_, by rw [upd2_k _ _ _ _ (by decide), hct 7 c (by decide) (by omega), mvG_o (by omega), mvG_o (by omega)]; exact a2, chn_up (by decide) c1, c2, fun w hw => by rw [mvG_o (by omega)]; exact a5 w hw, c3, c4⟩
  rw [c0, mvG_o (k := 9) (by omega), mvG_o (k := 10) (by omega), mvG_o (k := 11) (by omega), mvG_o (k := 14) (by omega), mvG_o (k := 15) (by omega), mvG_o (k := 16) (by omega), mCnt_mv (by omega) (by omega), ← had 7 c (by omega), ← map_ext (k := 8) had (fun j hj => (a3 0 j hj).1)]
  by_cases e : c = j
  · subst e; rw [upd2_at, if_pos rfl]
  · rw [upd2_i _ _ _ e, hct 6 c (by decide) (by omega), a1, if_neg e]
/-- a move that was taken back: its numbers stay, behind the count -/
theorem cRep_mvo {j : Nat} {pl fr : Int32} (h : cRep ca cnt ad ct v g nw nb nc nm) : cRep ca cnt ad ct v (mMoveG g nw nm (nI j) pl fr) nw nb nc nm := by
  obtain ⟨hO, hIv, tp, htp, hX, hT, hB, hC, hN⟩ := h
  refine ⟨hO, mIv_mvo hIv, tp, htp, hX, cT_g (fun _ => mvG_o (by omega)) (fun _ => mvG_o (by omega)) hT, cB_g (fun _ => mvG_o (by omega)) (fun _ => mvG_o (by omega)) hB, ?_, cN_g (fun _ => mvG_o (by omega)) (fun _ => mvG_o (by omega)) hN⟩
  obtain ⟨t1, t2, fC, dt, ow, ix, ak, f1, h1⟩ := hC
  refine ⟨t1, t2, fC, dt, ow, ix, ak, f1, fun c hc => ⟨(h1 c hc).1, ?_⟩⟩
  obtain ⟨a1, a2, a3, a4, a5, a6⟩ := (h1 c hc).2
  exact ⟨by rw [mvG_o (k := 9) (by omega), mvG_o (k := 10) (by omega), mvG_o (k := 11) (by omega), mvG_o (k := 14) (by omega), mvG_o (k := 15) (by omega), mvG_o (k := 16) (by omega), mCnt_mvo]; exact a1, by rw [mvG_o (k := 12) (by omega), mvG_o (k := 13) (by omega)]; exact a2, a3, by rw [mch_mvo]; exact a4, fun w hw => by rw [mvG_o (by omega)]; exact a5 w hw, a6⟩
theorem agr_back {K i0 : Nat} {e : va_E} (he : ct K i0 = e) (h : ∀ k i, i < cnt k → ¬ (k = K ∧ i = i0) → ct' k i = ct k i) : ∀ k i, i < cnt k → upd2 ct' K i0 e k i = ct k i := by
  intro k i q
  by_cases hk : k = K ∧ i = i0
  · obtain ⟨rfl, rfl⟩ := hk; rw [upd2_at, he]
  · rw [show upd2 ct' K i0 e k i = ct' k i by simp [upd2, hk]]
    exact h k i q hk
end CMB
