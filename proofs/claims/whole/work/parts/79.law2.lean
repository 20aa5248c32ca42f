/-! ===== what holds of the numbers, call by call ===== -/
def PI (v : Nat → Int32) (g : Nat → Nat → Int32) (t : Nat) : Prop := (∀ i, g 17 i = 0 ∨ g 17 i = 1) ∧ (∀ nc, v 2 = nI nc → nc ≤ 60 → (∀ c, nc ≤ c → c < 60 → g 16 c = 0 ∧ ∀ w, w < 20 → g 17 (20 * c + w) = 0) ∧ ∀ c, c < nc → ¬ g 10 c = -1 ∧ ¬ g 11 c = -1) ∧ (∃ tn, tn ≤ 100 ∧ v 27 = nI tn) ∧ ∃ nr, nr ≤ t ∧ v 5 = nI nr
section PIs
variable {ca : Nat → ClassId} {cnt : Nat → Nat} {ad : Nat → Nat → Nat} {ct : Nat → Nat → va_E} {v v' : Nat → Int32} {g g' : Nat → Nat → Int32} {t nw nb nc nm : Nat}
theorem PI_s (h : PI v g t) (h2 : v' 2 = v 2) (h27 : v' 27 = v 27) (h5 : v' 5 = v 5) (hg : ∀ k, k = 10 ∨ k = 11 ∨ k = 16 ∨ k = 17 → ∀ i, g' k i = g k i) : PI v' g' (t + 1) := by
  obtain ⟨h17, hn, ⟨tn, ht, e27⟩, nr, hr, e5⟩ := h
  refine ⟨fun i => by rw [hg 17 (by omega)]; exact h17 i, fun nc e hc => ?_, ⟨tn, ht, by rw [h27]; exact e27⟩, nr, by omega, by rw [h5]; exact e5⟩
  obtain ⟨q1, q2⟩ := hn nc (by rw [← h2]; exact e) hc
  refine ⟨fun c c1 c2 => ⟨by rw [hg 16 (by omega)]; exact (q1 c c1 c2).1, fun w hw => by rw [hg 17 (by omega)]; exact (q1 c c1 c2).2 w hw⟩, fun c hc => ⟨by rw [hg 10 (by omega)]; exact (q2 c hc).1, by rw [hg 11 (by omega)]; exact (q2 c hc).2⟩⟩
theorem PI_0 : PI v0 g0 0 := by
  have hz : ∀ k i, k ≠ 22 → g0 k i = 0 := fun k i h => if_neg (fun q => h q.1)
  refine ⟨fun i => Or.inl (hz 17 i (by decide)), fun nc e hc => ?_, ⟨0, by omega, rfl⟩, 0, by omega, rfl⟩
  have e0 : nc = 0 := ((nI_eq (a := 0) (b := nc) (by omega) (by omega)).mp e).symm
  subst e0
  exact ⟨fun c _ _ => ⟨hz 16 c (by decide), fun w _ => hz 17 _ (by decide)⟩, fun c hc => absurd hc (Nat.not_lt_zero _)⟩
theorem PI_k (h : PI v g t) : PI v g (t + 1) := PI_s h rfl rfl rfl (fun _ _ _ => rfl)
theorem PI_days (a : Int32) (h : PI v g t) : PI (mDaysW v g nw a).2.1 (mDaysW v g nw a).2.2 (t + 1) := by
  unfold mDaysW
  split
  · exact PI_s h (by simp [upd]) (by simp [upd]) (by simp [upd]) (fun _ _ _ => rfl)
  · exact PI_k h
theorem PI_ballot (a b c : Int32) (x : Int64) (h : PI v g t) : PI (mBallotW v g nb a b c x).2.1 (mBallotW v g nb a b c x).2.2 (t + 1) := by
  unfold mBallotW
  split
  · exact PI_s h (by simp [upd]) (by simp [upd]) (by simp [upd]) (fun k hk i => by dsimp only; rw [upd2_k _ _ _ _ (by omega)]; exact (bl_eq g nb _ _ _ x _ (Nat.le_refl _)).2.2.2.2 k (by omega) (by omega) i)
  · exact PI_k h
theorem PI_away (a b : Int32) (h : PI v g t) : PI (mAwayW v g nb a b).2.1 (mAwayW v g nb a b).2.2 (t + 1) := by
  unfold mAwayW
  dsimp only
  split
  · split
    · exact PI_s h rfl rfl rfl (fun k hk i => by dsimp only; rw [upd2_k _ _ _ _ (by omega), upd2_k _ _ _ _ (by omega)])
    · exact PI_s h rfl rfl rfl (fun k hk i => by dsimp only; rw [upd2_k _ _ _ _ (by omega)])
  · exact PI_k h
theorem isIn_nn {a b : Int32} (h : isIn a 0 b = true) : ¬ a = -1 := fun q => by
  subst q
  simp only [isIn, Bool.and_eq_true] at h
  exact absurd h.1 (by decide)
theorem PI_leave (a i s m e x : Int32) (hO : mOK v nw nb nc nm) (h : PI v g t) : PI (mLeaveW v g nw nb nc a i s m e x).2.1 (mLeaveW v g nw nb nc a i s m e x).2.2 (t + 1) := by
  unfold mLeaveW
  split
  · rename_i ok
    simp only [mLeaveOK, Bool.and_eq_true, Bool.not_eq_true', decide_eq_false_iff_not] at ok
    obtain ⟨⟨⟨⟨⟨-, hs⟩, hm⟩, -⟩, -⟩, hn⟩ := ok
    have hc60 : nc ≤ 60 := hO.2.2.2.2.2.2.1
    obtain ⟨h17, hq, ⟨tn, ht, e27⟩, nr, hr, e5⟩ := h
    obtain ⟨q1, q2⟩ := hq nc hO.2.2.1 hc60
    dsimp only
    refine ⟨fun j => ?_, fun nc' e' hc' => ?_, ⟨tn, ht, by rw [upd_ne _ _ (by decide)]; exact e27⟩, nr, by omega, by rw [upd_ne _ _ (by decide)]; exact e5⟩
    · iterate 8 rw [upd2_k _ _ _ _ (by decide)]
      exact h17 j
    · rw [upd_at] at e'
      have en : nc' = nc + 1 := ((nI_eq (by omega) (by omega)).mp e').symm
      subst en
      refine ⟨fun c c1 c2 => ⟨?_, fun w hw => ?_⟩, fun c hc => ⟨?_, ?_⟩⟩
      · iterate 8 rw [upd2_k _ _ _ _ (by decide)]
        exact (q1 c (by omega) c2).1
      · iterate 8 rw [upd2_k _ _ _ _ (by decide)]
        exact (q1 c (by omega) c2).2 w hw
      · by_cases e1 : c = nc
        · subst e1
          iterate 5 rw [upd2_k _ _ _ _ (by decide)]
          rw [upd2_at]
          exact isIn_nn hs
        · iterate 5 rw [upd2_k _ _ _ _ (by decide)]
          rw [upd2_i _ _ _ e1]
          iterate 2 rw [upd2_k _ _ _ _ (by decide)]
          exact (q2 c (by omega)).1
      · by_cases e1 : c = nc
        · subst e1
          iterate 4 rw [upd2_k _ _ _ _ (by decide)]
          rw [upd2_at]
          exact isIn_nn hm
        · iterate 4 rw [upd2_k _ _ _ _ (by decide)]
          rw [upd2_i _ _ _ e1]
          iterate 3 rw [upd2_k _ _ _ _ (by decide)]
          exact (q2 c (by omega)).2
  · exact PI_k h
theorem PI_beds (a b : Int32) (h : PI v g t) : PI (mBedsW v g nw nc nm a b).2.1 (mBedsW v g nw nc nm a b).2.2 (t + 1) := by
  unfold mBedsW
  split
  · exact PI_s h rfl rfl rfl (fun k hk i => by dsimp only; rw [upd2_k _ _ _ _ (by omega)])
  · exact PI_k h
theorem PI_move (a b c : Int32) (h : PI v g t) : PI (mMoveW v g nw nc nm a b c).2.1 (mMoveW v g nw nc nm a b c).2.2 (t + 1) := by
  have hG : ∀ k, k = 10 ∨ k = 11 ∨ k = 16 ∨ k = 17 → ∀ i, mMoveG g nw nm a b c k i = g k i := fun k hk i => by
    unfold mMoveG
    rw [upd2_k _ _ _ _ (by omega), upd2_k _ _ _ _ (by omega), upd2_k _ _ _ _ (by omega), upd2_k _ _ _ _ (by omega)]
  unfold mMoveW
  split
  · split
    · exact PI_s h rfl rfl rfl hG
    · exact PI_s h (by simp [upd]) (by simp [upd]) (by simp [upd]) hG
  · exact PI_k h
theorem PI_look (a : Int32) (h : PI v g t) : PI (mLookW v g nw a).2.1 (mLookW v g nw a).2.2 (t + 1) := by
  unfold mLookW
  split
  · exact PI_s h (by simp [upd]) (by simp [upd]) (by simp [upd]) (fun k hk i => by dsimp only; rw [upd2_k _ _ _ _ (by omega)])
  · exact PI_k h
theorem PI_v27 {x : Nat} (hx : x ≤ 100) (h : PI v g t) (hg : ∀ k, k = 10 ∨ k = 11 ∨ k = 16 ∨ k = 17 → ∀ i, g' k i = g k i) : PI (upd v 27 (nI x)) g' (t + 1) := by
  obtain ⟨h17, hn, h27, nr, hr, e5⟩ := h
  refine ⟨fun i => by rw [hg 17 (by omega)]; exact h17 i, fun nc e hc => ?_, ⟨x, hx, upd_at _ _ _⟩, nr, by omega, by rw [upd_ne _ _ (by decide)]; exact e5⟩
  obtain ⟨q1, q2⟩ := hn nc (by rw [upd_ne _ _ (by decide)] at e; exact e) hc
  refine ⟨fun c c1 c2 => ⟨by rw [hg 16 (by omega)]; exact (q1 c c1 c2).1, fun w hw => by rw [hg 17 (by omega)]; exact (q1 c c1 c2).2 w hw⟩, fun c hc => ⟨by rw [hg 10 (by omega)]; exact (q2 c hc).1, by rw [hg 11 (by omega)]; exact (q2 c hc).2⟩⟩
theorem PI_feed {tn : Nat} (a : Int32) (h : PI v g t) : PI (mFeedW v g tn a).2.1 (mFeedW v g tn a).2.2 (t + 1) := by
  unfold mFeedW
  split
  · rename_i q
    rw [← mFs_Fc] at q
    exact PI_v27 q h (fun k hk i => mFg_o (by omega) 4 i)
  · exact PI_k h
theorem PI_end (a : Int32) (h : PI v g t) : PI (mEndW v g a).2.1 (mEndW v g a).2.2 (t + 1) := by
  unfold mEndW
  split
  · rename_i q
    obtain ⟨tn, ht, e⟩ := h.2.2.1
    rw [e] at q
    obtain ⟨j, hj, rfl⟩ := isIn_le (by omega) q
    exact PI_v27 (by omega) h (fun _ _ _ => rfl)
  · exact PI_k h
theorem PI_name (a b : Int32) (hO : mOK v nw nb nc nm) (h : PI v g t) : PI (mNameW v g nc a b).2.1 (mNameW v g nc a b).2.2 (t + 1) := by
  unfold mNameW
  split
  · rename_i ok
    simp only [Bool.and_eq_true] at ok
    have hc60 : nc ≤ 60 := hO.2.2.2.2.2.2.1
    obtain ⟨j, hj, rfl⟩ := isIn_nat (by omega) ok.1.1
    rw [nI_clamp (by omega)]
    obtain ⟨h17, hq, h27, nr, hr, e5⟩ := h
    refine ⟨fun i => by dsimp only; rw [upd2_k _ _ _ _ (by decide)]; exact h17 i, fun nc' e' hc' => ?_, h27, nr, by omega, e5⟩
    obtain ⟨q1, q2⟩ := hq nc' e' hc'
    have en : nc' = nc := (nI_eq (by omega) (by omega)).mp (e'.symm.trans hO.2.2.1)
    dsimp only
    refine ⟨fun c c1 c2 => ⟨by rw [upd2_i _ _ _ (by omega)]; exact (q1 c c1 c2).1, fun w hw => by rw [upd2_k _ _ _ _ (by decide)]; exact (q1 c c1 c2).2 w hw⟩, fun c hc => ⟨by rw [upd2_k _ _ _ _ (by decide)]; exact (q2 c hc).1, by rw [upd2_k _ _ _ _ (by decide)]; exact (q2 c hc).2⟩⟩
  · exact PI_k h
theorem PI_allow (a b : Int32) (tb : Bool) (hO : mOK v nw nb nc nm) (h : PI v g t) : PI (mAllowW v g nc a b tb).2.1 (mAllowW v g nc a b tb).2.2 (t + 1) := by
  unfold mAllowW
  split
  · rename_i ok
    simp only [Bool.and_eq_true] at ok
    have hc60 : nc ≤ 60 := hO.2.2.2.2.2.2.1
    obtain ⟨w0, j, hw0, hj, rfl, rfl⟩ := mBoth_nat hc60 ok.1
    rw [nI_clamp (n := w0) (by omega), nI_clamp (n := j) (by omega)]
    obtain ⟨h17, hq, h27, nr, hr, e5⟩ := h
    dsimp only
    refine ⟨fun i => ?_, fun nc' e' hc' => ?_, h27, nr, by omega, e5⟩
    · by_cases q : i = 20 * j + w0
      · subst q; rw [upd2_at]; exact bB_or _
      · rw [upd2_i _ _ _ q]; exact h17 i
    · obtain ⟨q1, q2⟩ := hq nc' e' hc'
      have en : nc' = nc := (nI_eq (by omega) (by omega)).mp (e'.symm.trans hO.2.2.1)
      refine ⟨fun c c1 c2 => ⟨by rw [upd2_k _ _ _ _ (by decide)]; exact (q1 c c1 c2).1, fun w hw => by rw [upd2_i _ _ _ (by omega)]; exact (q1 c c1 c2).2 w hw⟩, fun c hc => ⟨by rw [upd2_k _ _ _ _ (by decide)]; exact (q2 c hc).1, by rw [upd2_k _ _ _ _ (by decide)]; exact (q2 c hc).2⟩⟩
  · exact PI_k h
theorem PI_rule {a b c d : Int32} (h : PI v g t) (hg : ∀ k i, k ≠ 25 → k ≠ 26 → g' k i = g k i) : PI (vq (upd (upd v 5 (v 5 + 1)) 27 0) a b c d) g' (t + 1) := by
  obtain ⟨h17, hn, h27, nr, hr, e5⟩ := h
  refine ⟨fun i => by rw [hg 17 i (by decide) (by decide)]; exact h17 i, fun nc e hc => ?_, ⟨0, by omega, rfl⟩, nr + 1, by omega, ?_⟩
  · obtain ⟨q1, q2⟩ := hn nc (by rw [vq_o (by decide), upd_ne _ _ (by decide), upd_ne _ _ (by decide)] at e; exact e) hc
    refine ⟨fun c c1 c2 => ⟨by rw [hg 16 _ (by decide) (by decide)]; exact (q1 c c1 c2).1, fun w hw => by rw [hg 17 _ (by decide) (by decide)]; exact (q1 c c1 c2).2 w hw⟩, fun c hc => ⟨by rw [hg 10 _ (by decide) (by decide)]; exact (q2 c hc).1, by rw [hg 11 _ (by decide) (by decide)]; exact (q2 c hc).2⟩⟩
  · rw [vq_o (by decide), upd_ne _ _ (by decide), upd_at, e5, nI_1]
theorem PI_scr (hv : ∀ k, k ≠ 28 → k ≠ 29 → k ≠ 30 → k ≠ 31 → v' k = v k) (hg : ∀ k i, k ≠ 26 → k ≠ 32 → g' k i = g k i) (h : PI v g t) : PI v' g' (t + 1) := PI_s h (hv 2 (by decide) (by decide) (by decide) (by decide)) (hv 27 (by decide) (by decide) (by decide) (by decide)) (hv 5 (by decide) (by decide) (by decide) (by decide)) (fun k hk i => hg k i (by omega) (by omega))
theorem cRep_scr (hv : ∀ k, k ≠ 28 → k ≠ 29 → k ≠ 30 → k ≠ 31 → v' k = v k) (hg : ∀ k i, k ≠ 26 → k ≠ 32 → g' k i = g k i) (h : cRep ca cnt ad ct v g nw nb nc nm) : cRep ca cnt ad ct v' g' nw nb nc nm := by
  obtain ⟨hO, hIv, tp, htp, hX, hT, hB, hC, hN⟩ := h
  have hv' := fun k (q : k ≠ 28 ∧ k ≠ 29 ∧ k ≠ 30 ∧ k ≠ 31) => hv k q.1 q.2.1 q.2.2.1 q.2.2.2
  have hg' := fun k (q : k ≠ 26 ∧ k ≠ 32) i => hg k i q.1 q.2
  exact ⟨⟨by rw [hv' 0 (by decide)]; exact hO.1, by rw [hv' 1 (by decide)]; exact hO.2.1, by rw [hv' 2 (by decide)]; exact hO.2.2.1, by rw [hv' 3 (by decide)]; exact hO.2.2.2.1, hO.2.2.2.2⟩, mIv_g (hg' 9 (by decide)) (hg' 18 (by decide)) (hg' 19 (by decide)) (hg' 20 (by decide)) (hg' 21 (by decide)) hIv, tp, htp, cX_v (hv' 4 (by decide)) (hv' 5 (by decide)) hX, cT_v (hv' 27 (by decide)) (hv' 5 (by decide)) (cT_g (hg' 24 (by decide)) (hg' 25 (by decide)) hT), cB_g (hg' 6 (by decide)) (hg' 7 (by decide)) hB, cC_g (fun k hk => hg' k (by omega)) hC, cN_g (hg' 22 (by decide)) (hg' 23 (by decide)) hN⟩
theorem cRep_WO (h : cRep ca cnt ad ct v g nw nb nc nm) : mWO g nb := by
  obtain ⟨-, -, tp, -, -, -, ⟨-, -, fB, -, hB⟩, -, -⟩ := h
  intro b hb
  obtain ⟨-, -, n, f, h1, h2, -⟩ := hB b hb
  exact ⟨n, h1, h2⟩
end PIs
