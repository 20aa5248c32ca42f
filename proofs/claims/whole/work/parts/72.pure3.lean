/-! ===== days with a nurse: summed over chains, or day by day ===== -/
def sD (h : Nat → Nat) (f : Nat) : Nat → Nat
  | 0 => 0
  | n + 1 => sD h f n + h (f + n)
theorem sD_app (h : Nat → Nat) (f n : Nat) : ∀ m, sD h f (n + m) = sD h f n + sD h (f + n) m
  | 0 => rfl
  | m + 1 => by
    show sD h f (n + m) + h (f + (n + m)) = sD h f n + (sD h (f + n) m + h (f + n + m))
    rw [sD_app h f n m, Nat.add_assoc f n m]
    omega
theorem sD_cg {h h' : Nat → Nat} {f : Nat} : ∀ {n : Nat}, (∀ k, f ≤ k → k < f + n → h k = h' k) → sD h f n = sD h' f n
  | 0, _ => rfl
  | n + 1, e => by
    unfold sD
    rw [sD_cg (n := n) (fun k h1 h2 => e k h1 (by omega)), e (f + n) (by omega) (by omega)]
theorem sD_c (c f : Nat) : ∀ n, sD (fun _ => c) f n = n * c
  | 0 => by simp [sD]
  | n + 1 => by
    unfold sD
    rw [sD_c c f n, Nat.succ_mul]
theorem sD_add (h h' : Nat → Nat) (f : Nat) : ∀ n, sD (fun d => h d + h' d) f n = sD h f n + sD h' f n
  | 0 => rfl
  | n + 1 => by
    unfold sD
    rw [sD_add h h' f n]
    omega
theorem sD_one {h h' : Nat → Nat} {f w0 c : Nat} (h2 : h w0 = h' w0 + c) : ∀ {n : Nat}, f ≤ w0 → w0 < f + n → (∀ w, f ≤ w → w < f + n → w ≠ w0 → h w = h' w) → sD h f n = sD h' f n + c
  | 0, h0, h1, _ => absurd h1 (by omega)
  | n + 1, h0, h1, h3 => by
    unfold sD
    by_cases e : w0 = f + n
    · subst e
      rw [sD_cg (h := h) (h' := h') (fun k k1 k2 => h3 k k1 (by omega) (by omega)), h2]
      omega
    · rw [sD_one h2 (n := n) h0 (by omega) (fun w w1 w2 w3 => h3 w w1 (by omega) w3), h3 (f + n) (by omega) (by omega) (Ne.symm e)]
      omega
/-- is the child there on the day: by its chain -/
def pD (q : Nat) (a : Int32) (l : List MV) (x : Int32) (d : Nat) : Nat := if plc (nI d) (nI q) l x = a then 1 else 0
theorem plc_bef {d q lo : Int32} {l : List MV} (h : srt lo l) (hd : d < lo) (x : Int32) : plc d q l x = x := by
  cases l with
  | nil => rfl
  | cons m r =>
    have h1 := h.1
    rw [i32_nlt] at h1
    rw [plc, if_pos (by rw [i32_lt] at hd ⊢; omega)]
theorem lst_e {ld s : Nat} (h1 : ld < 100000) (h2 : s < 100000) : (if nI ld + 1 - nI s < 0 then (0 : Int32) else nI ld + 1 - nI s) = nI (ld + 1 - s) := by
  rw [nI_1]
  by_cases h : s ≤ ld + 1
  · rw [pk_sub h, if_neg (nI_pos (by omega))]
  · have := pk_sub_toInt (a := ld + 1) (b := s) (by omega) (by omega)
    rw [if_pos (by rw [i32_lt, this]; have : (0 : Int32).toInt = 0 := by decide
                   omega), show ld + 1 - s = 0 by omega]
    rfl
theorem dys_c {a x dy : Int32} {ld s q : Nat} {l : List MV} (h1 : ld < 100000) (h2 : s < 100000) (hc : ∀ d, s ≤ d → d < s + (ld + 1 - s) → plc (nI d) (nI q) l x = x) : dysE a (nI ld) (dy, x, nI s) = dy + nI (sD (pD q a l x) s (ld + 1 - s)) := by
  rw [sD_cg (h' := fun _ => if x = a then 1 else 0) (fun d d1 d2 => by unfold pD; rw [hc d d1 d2]), sD_c]
  unfold dysE
  dsimp only
  by_cases e : x = a
  · rw [if_pos e, if_pos e, lst_e h1 h2, Nat.mul_one]
  · rw [if_neg e, if_neg e, Nat.mul_zero]
    exact (Int32.add_zero dy).symm
theorem dys_eq {a : Int32} {fd ld q : Nat} (h1 : fd < 100000) (h2 : ld < 100000) (hq : q < 100000) : ∀ (l : List MV) (x dy : Int32) (b s : Nat), srt (nI b) l → (∀ m ∈ l, ∃ f t : Nat, f < 100000 ∧ t < 100000 ∧ m.2.1 = nI f ∧ m.2.2 = nI t) → b < 100000 → s = max b fd → dysE a (nI ld) (dys a (nI fd) (nI ld) (nI q) l (dy, x, nI s)) = dy + nI (sD (pD q a l x) s (ld + 1 - s))
  | [], x, dy, b, s, _, _, hb, hs => dys_c h2 (by omega) (fun d _ _ => rfl)
  | m :: r, x, dy, b, s, hst, hm, hb, hs => by
    obtain ⟨F, T, hF, hT, eF, eT⟩ := hm m List.mem_cons_self
    have hbF : b ≤ F := by
      have q9 := hst.1
      rw [eF] at q9
      have := mt (nI_ltI (a := F) (b := b) (by omega) (by omega)).mpr q9
      omega
    have hsr : srt (nI F) r := by have q9 := hst.2; rw [eF] at q9; exact q9
    have hm' := fun z (hz : z ∈ r) => hm z (List.mem_cons_of_mem _ hz)
    have hpl : ∀ d, plc (nI d) (nI q) (m :: r) x = if nI d < nI F then x else plc (nI d) (nI q) r (if nI q < nI T then x else m.1) := fun d => by rw [plc, eF, eT]
    unfold dys
    rw [eF, eT]
    by_cases c1 : ld < F
    · rw [if_pos (nI_lt c1 (by omega))]
      exact dys_c h2 (by omega) (fun d d1 d2 => by rw [hpl, if_pos (nI_lt (by omega) (by omega))])
    · rw [if_neg (nI_nlt (by omega) (by omega))]
      by_cases c2 : q < T
      · rw [if_pos (nI_lt c2 (by omega)), dys_eq h1 h2 hq r x dy b s (srt_lo (nI_nlt hbF (by omega)) hsr) hm' hb hs]
        rw [sD_cg (h := pD q a (m :: r) x) (h' := pD q a r x) (fun d d1 d2 => by
          unfold pD
          rw [hpl, if_pos (nI_lt c2 (by omega))]
          by_cases e : d < F
          · rw [if_pos (nI_lt e (by omega)), plc_bef hsr (nI_lt e (by omega))]
          · rw [if_neg (nI_nlt (by omega) (by omega))])]
      · rw [if_neg (nI_nlt (by omega) (by omega))]
        dsimp only
        have eL : (if nI F < nI fd then nI fd else nI F) = nI (max F fd) := by
          by_cases e : F < fd
          · rw [if_pos (nI_lt e (by omega)), Nat.max_eq_right (by omega)]
          · rw [if_neg (nI_nlt (by omega) (by omega)), Nat.max_eq_left (by omega)]
        rw [eL, dys_eq h1 h2 hq r m.1 _ F (max F fd) hsr hm' hF rfl]
        have hss : s ≤ max F fd := by omega
        by_cases c3 : max F fd ≤ ld + 1
        · have hsp := sD_app (pD q a (m :: r) x) s (max F fd - s) (ld + 1 - max F fd)
          rw [show max F fd - s + (ld + 1 - max F fd) = ld + 1 - s by omega, show s + (max F fd - s) = max F fd by omega] at hsp
          rw [hsp, sD_cg (h := pD q a (m :: r) x) (f := max F fd) (h' := pD q a r m.1) (fun d d1 d2 => by
            unfold pD
            rw [hpl, if_neg (nI_nlt (by omega) (by omega)), if_neg (nI_nlt (by omega) (by omega))]), sD_cg (h := pD q a (m :: r) x) (f := s) (h' := fun _ => if x = a then 1 else 0) (fun d d1 d2 => by
            unfold pD
            rw [hpl, if_pos (nI_lt (by omega) (by omega))]), sD_c, ← nI_add, ← Int32.add_assoc]
          congr 2
          by_cases e : x = a
          · rw [if_pos e, if_pos e, pk_sub hss, Nat.mul_one]
          · rw [if_neg e, if_neg e, Nat.mul_zero]
            rfl
        · have e1 : s = max F fd := by omega
          rw [← e1, show ld + 1 - s = 0 by omega]
          have e2 : (nI s - nI s) = 0 := by rw [pk_sub (Nat.le_refl _), Nat.sub_self]; rfl
          rw [e2]
          show dy + (if x = a then 0 else 0) + nI 0 = dy + nI 0
          rw [ite_self, Int32.add_zero]
theorem mch_nat {g : Nat → Nat → Int32} {nw nc nm c : Nat} (hw : nw ≤ 2000) (h : mIv g nw nc nm) (hc : c < nc) : ∀ m ∈ mch g c nm, ∃ f t : Nat, f < 100000 ∧ t < 100000 ∧ m.2.1 = nI f ∧ m.2.2 = nI t := by
  intro m hm
  obtain ⟨d, hd, ed⟩ := h.1 c hc
  rcases mch_mem hm with e | ⟨k, k1, k2, e⟩
  · rw [e]
    exact ⟨d, d, by omega, by omega, ed, ed⟩
  · obtain ⟨c', d', f, t, q, h1, h2, h3, h4, h5, h6, h7, h8, h9, h10⟩ := h.2 k k1
    rw [e]
    exact ⟨f, t, by omega, by omega, h4, h5⟩
theorem cDwS_eq {g : Nat → Nat → Int32} {nw nc nm fd ld q : Nat} {a : Int32} (hw : nw ≤ 2000) (hcc : nc ≤ 60) (h : mIv g nw nc nm) (h1 : fd < 100000) (h2 : ld < 100000) (hq : q < 100000) : ∀ n, n ≤ nc → cDwS g nm a (nI fd) (nI ld) (nI q) n = nI (sD (fun d => cMny g nm a (nI d) (nI q) n) fd (ld + 1 - fd))
  | 0, _ => by
    show (0 : Int32) = nI (sD (fun _ => 0) fd (ld + 1 - fd))
    rw [sD_c, Nat.mul_zero]
    rfl
  | n + 1, hn => by
    obtain ⟨d0, hd0, e0⟩ := h.1 n (by omega)
    have hs : srt (nI 0) (mch g n nm) := srt_lo (by rw [e0]; exact nI_nlt (Nat.zero_le _) (by omega)) (mch_srt hw hcc h (show n < nc by omega))
    rw [cDwS, cDwS_eq hw hcc h h1 h2 hq n (by omega), dysF, dys_eq h1 h2 hq (mch g n nm) (-1) 0 0 fd hs (mch_nat hw h (by omega)) (by omega) (by omega), Int32.zero_add, nI_add, ← sD_add]
    rfl
theorem plc_sameq {d : Nat} {q : Int32} (hd : d < 1000000) : ∀ (l : List MV) (x : Int32), (∀ m ∈ l, ∃ f : Nat, f < 100000 ∧ m.2.1 = nI f ∧ f ≠ d + 1) → plc (nI (d + 1)) q l x = plc (nI d) q l x
  | [], x, _ => rfl
  | m :: r, x, h => by
    obtain ⟨F, hF, eF, hne⟩ := h m List.mem_cons_self
    unfold plc
    rw [eF]
    by_cases c : d < F
    · rw [if_pos (nI_lt (show d + 1 < F by omega) (by omega)), if_pos (nI_lt c (by omega))]
    · rw [if_neg (nI_nlt (by omega) (by omega)), if_neg (nI_nlt (by omega) (by omega))]
      exact plc_sameq hd r _ (fun z hz => h z (List.mem_cons_of_mem _ hz))
theorem cMny_sq {g : Nat → Nat → Int32} {nw nc nm : Nat} (hw : nw ≤ 2000) (hcc : nc ≤ 60) (h : mIv g nw nc nm) {a q : Int32} {d : Nat} (hd : d < 1000000) (hch : mChg g nc nm (nI (d + 1)) = false) : ∀ n, n ≤ nc → cMny g nm a (nI (d + 1)) q n = cMny g nm a (nI d) q n
  | 0, _ => rfl
  | n + 1, hn => by
    unfold cMny
    rw [cMny_sq hw hcc h hd hch n (by omega), plc_sameq hd (mch g n nm) (-1) (fun m hm => ?_)]
    obtain ⟨-, h2, f, hf, ef⟩ := mch_told hw hcc h (show n < nc by omega) m hm
    refine ⟨f, by omega, ef, fun e => ?_⟩
    subst e
    have hk := hch
    simp only [mChg, Bool.or_eq_false_iff] at hk
    rcases h2 with e | ⟨k, k1, e⟩
    · have := anyB_at (q := fun c => decide (g 9 c = nI (d + 1))) (show n < nc by omega) (by simp [← e, ef])
      rw [this] at hk
      exact absurd hk.2 (by decide)
    · have := anyB_at (q := fun m => decide (g 20 m = nI (d + 1))) k1 (by simp [← e, ef])
      rw [this] at hk
      exact absurd hk.1 (by decide)
section WK
variable {g : Nat → Nat → Int32} {nw nc nm n q : Nat}
abbrev cDy (g : Nat → Nat → Int32) (nc nm n q : Nat) (d : Nat) : Nat := cMny g nm (nI n) (nI d) (nI q) nc
theorem mSame_eq (hw : nw ≤ 2000) (hcc : nc ≤ 60) (h : mIv g nw nc nm) (hn : n ≤ 12) {w : Nat} (hw2 : w ≤ 300) : ∀ j, j < 1000 → mSame g nc nm n w q (j + 1) = cDy g nc nm n q (7 * w + j)
  | 0, _ => by
    rw [mSame, if_pos (Or.inl rfl)]
    exact (cMny_eq hw hcc h (nI_nn (by omega)) _ _ nc (Nat.le_refl _)).symm
  | j + 1, hj => by
    rw [mSame]
    by_cases c : mChg g nc nm (nI (7 * w + (j + 1))) = true
    · rw [if_pos (Or.inr c)]
      exact (cMny_eq hw hcc h (nI_nn (by omega)) _ _ nc (Nat.le_refl _)).symm
    · rw [if_neg (by simp [c]), mSame_eq hw hcc h hn hw2 j (by omega)]
      exact (cMny_sq hw hcc h (d := 7 * w + j) (by omega) (by rw [show 7 * w + j + 1 = 7 * w + (j + 1) by omega]; exact Bool.eq_false_iff.mpr c) nc (Nat.le_refl _)).symm
theorem mWk_eq (hw : nw ≤ 2000) (hcc : nc ≤ 60) (h : mIv g nw nc nm) (hn : n ≤ 12) {w : Nat} (hw2 : w ≤ 300) : ∀ j, j < 1000 → mWk g nc nm n w q j = sD (cDy g nc nm n q) (7 * w) j
  | 0, _ => rfl
  | j + 1, hj => by
    rw [mWk, mWk_eq hw hcc h hn hw2 j (by omega), mSame_eq hw hcc h hn hw2 j (by omega)]
    rfl
/-- the days of one week -/
def wkD (g : Nat → Nat → Int32) (nc nm n q w : Nat) : Nat := sD (cDy g nc nm n q) (7 * w) (mTop w q)
theorem mTop_lt (w q : Nat) : mTop w q < 1000 := by unfold mTop; omega
theorem mDw_eq (hw : nw ≤ 2000) (hcc : nc ≤ 60) (h : mIv g nw nc nm) (hn : n ≤ 12) {f : Nat} {sb : Bool} : ∀ k, f + k ≤ 301 → mDw g nc nm n f q sb k = sD (fun w => if mSeen g n w q = sb then wkD g nc nm n q w else 0) f k
  | 0, _ => rfl
  | k + 1, hk => by
    rw [mDw, mDw_eq hw hcc h hn k (by omega), mWk_eq hw hcc h hn (show f + k ≤ 300 by omega) _ (mTop_lt _ _)]
    rfl
theorem both_eq (hw : nw ≤ 2000) (hcc : nc ≤ 60) (h : mIv g nw nc nm) (hn : n ≤ 12) {f l : Nat} (hl : l ≤ 300) (hfl : f ≤ l) : mDays g nc nm n f l q true + mDays g nc nm n f l q false = sD (wkD g nc nm n q) f (min l (q / 7) + 1 - f) := by
  unfold mDays
  rw [mDw_eq hw hcc h hn _ (by omega), mDw_eq hw hcc h hn _ (by omega), ← sD_add]
  exact sD_cg (fun w _ _ => by cases mSeen g n w q <;> simp)
theorem wks_eq {f : Nat} : ∀ k, (k = 0 ∨ 7 * (f + k - 1) ≤ q) → sD (wkD g nc nm n q) f k = sD (cDy g nc nm n q) (7 * f) (min (7 * (f + k)) (q + 1) - 7 * f)
  | 0, _ => by
    rw [show min (7 * (f + 0)) (q + 1) - 7 * f = 0 by omega]
    rfl
  | k + 1, hk => by
    have h1 : 7 * (f + k) ≤ q := by omega
    rw [sD, wks_eq k (by omega), show min (7 * (f + k)) (q + 1) - 7 * f = 7 * k by omega, wkD]
    have h2 := sD_app (cDy g nc nm n q) (7 * f) (7 * k) (mTop (f + k) q)
    rw [show 7 * f + 7 * k = 7 * (f + k) by omega] at h2
    rw [← h2]
    congr 1
    unfold mTop
    omega
theorem cDw_eq (hw : nw ≤ 2000) (hcc : nc ≤ 60) (h : mIv g nw nc nm) {f l : Nat} (hl : l ≤ 300) (hfl : f ≤ l) (hq : q ≤ 2000) : cDw g nc nm (nI n) f l q = nI (sD (wkD g nc nm n q) f (min l (q / 7) + 1 - f)) := by
  unfold cDw
  rw [cDwS_eq hw hcc h (by omega) (by omega) (by omega) nc (Nat.le_refl _), wks_eq _ (by omega)]
  congr 2
  omega
theorem cDw_w (hw : nw ≤ 2000) (hcc : nc ≤ 60) (h : mIv g nw nc nm) {w : Nat} (hl : w ≤ 300) (hq : q ≤ 2000) (hwq : 7 * w ≤ q) : cDw g nc nm (nI n) w w q = nI (wkD g nc nm n q w) := by
  rw [cDw_eq hw hcc h hl (Nat.le_refl _) hq, show min w (q / 7) + 1 - w = 1 by omega]
  show nI (0 + wkD g nc nm n q (w + 0)) = _
  rw [Nat.zero_add, Nat.add_zero]
theorem dwn_l2 : ∀ {l : List Nat} {t : Nat}, dwn t l → ∀ d ∈ l, d < t
  | [], _, _, _, hd => absurd hd (by simp)
  | e :: r, t, h, d, hd => by
    rcases List.mem_cons.mp hd with rfl | hd
    · exact h.1
    · exact Nat.lt_trans (dwn_l2 h.2 d hd) h.1
def seenL (q : Nat) (l : List Nat) (w : Nat) : Bool := l.any (fun d => decide (d ≤ q) && decide (d / 7 = w))
theorem seenL_iff {q w : Nat} {l : List Nat} : seenL q l w = true ↔ ∃ d, d ∈ l ∧ d ≤ q ∧ d / 7 = w := by
  simp [seenL, List.any_eq_true]
theorem cSn_eq (hw : nw ≤ 2000) (hcc : nc ≤ 60) (h : mIv g nw nc nm) {f l : Nat} (hl : l ≤ 300) (hq : q ≤ 2000) : ∀ (L : List Nat) (dy : Int32) (k : Option Nat) (t : Nat), dwn t L → (∀ w0, k = some w0 → ∀ d ∈ L, d / 7 ≤ w0) → cSn g nc nm (nI n) f l q L dy k = dy + nI (sD (fun w => if seenL q L w = true ∧ ¬ k = some w then wkD g nc nm n q w else 0) f (min l (q / 7) + 1 - f))
  | [], dy, k, t, _, _ => by
    rw [sD_cg (h' := fun _ => 0) (fun w _ _ => if_neg (by simp [seenL])), sD_c, Nat.mul_zero]
    exact (Int32.add_zero dy).symm
  | d :: r, dy, k, t, hd, hk => by
    have hlt := dwn_l2 hd.2
    rw [cSn]
    by_cases c : d ≤ q ∧ f ≤ d / 7 ∧ d / 7 ≤ l ∧ ¬ k = some (d / 7)
    · obtain ⟨c1, c2, c3, c4⟩ := c
      rw [if_pos ⟨c1, c2, c3, c4⟩, cSn_eq hw hcc h hl hq r _ _ d hd.2 (fun w0 e z hz => by cases e; have := hlt z hz; omega), cDw_w hw hcc h (by omega) hq (by omega), Int32.add_assoc, nI_add]
      congr 2
      rw [Nat.add_comm]
      refine (sD_one (w0 := d / 7) (c := wkD g nc nm n q (d / 7)) ?_ c2 (by omega) (fun w w1 w2 w3 => ?_)).symm
      · rw [if_pos ⟨seenL_iff.mpr ⟨d, List.mem_cons_self, c1, rfl⟩, c4⟩, if_neg (fun z => z.2 rfl), Nat.zero_add]
      · by_cases s : seenL q r w = true
        · obtain ⟨z, z1, z2, z3⟩ := seenL_iff.mp s
          have hz := hlt z z1
          rw [if_pos ⟨seenL_iff.mpr ⟨z, List.mem_cons_of_mem _ z1, z2, z3⟩, fun e => by have := hk w e d List.mem_cons_self; omega⟩, if_pos ⟨s, fun e => by cases e; exact w3 rfl⟩]
        · rw [if_neg (fun z => by
            obtain ⟨y, y1, y2, y3⟩ := seenL_iff.mp z.1
            rcases List.mem_cons.mp y1 with rfl | y1
            · exact w3 y3.symm
            · exact s (seenL_iff.mpr ⟨y, y1, y2, y3⟩)), if_neg (fun z => s z.1)]
    · rw [if_neg c, cSn_eq hw hcc h hl hq r dy k d hd.2 (fun w0 e z hz => hk w0 e z (List.mem_cons_of_mem _ hz))]
      congr 2
      refine sD_cg (fun w w1 w2 => ?_)
      by_cases s : seenL q r w = true ∧ ¬ k = some w
      · obtain ⟨z, z1, z2, z3⟩ := seenL_iff.mp s.1
        rw [if_pos s, if_pos ⟨seenL_iff.mpr ⟨z, List.mem_cons_of_mem _ z1, z2, z3⟩, s.2⟩]
      · rw [if_neg s, if_neg (fun z => by
          obtain ⟨y, y1, y2, y3⟩ := seenL_iff.mp z.1
          rcases List.mem_cons.mp y1 with rfl | y1
          · exact c ⟨y2, by omega, by omega, by rw [y3]; exact z.2⟩
          · exact s ⟨seenL_iff.mpr ⟨y, y1, y2, y3⟩, z.2⟩)]
theorem mSeen_eq {L : List Nat} (hL : lkOK g nw n L) (hq : q ≤ 2000) (w : Nat) : mSeen g n w q = seenL q L w := by
  rw [Bool.eq_iff_iff, seenL_iff]
  unfold mSeen
  rw [anyB_iff]
  constructor
  · rintro ⟨k, h1, h2⟩
    unfold mTop at h1
    exact ⟨7 * w + k, (hL.2 _ (by omega)).mp (by simpa using h2), by omega, by omega⟩
  · rintro ⟨d, h1, h2, h3⟩
    refine ⟨d - 7 * w, by unfold mTop; omega, ?_⟩
    rw [show 7 * w + (d - 7 * w) = d by omega]
    have := (hL.2 d (by omega)).mpr h1
    simpa using this
theorem seen_eq (hw : nw ≤ 2000) (hcc : nc ≤ 60) (h : mIv g nw nc nm) (hn : n ≤ 12) {f l : Nat} (hl : l ≤ 300) (hfl : f ≤ l) (hq : q ≤ 2000) {L : List Nat} (hL : lkOK g nw n L) : cSn g nc nm (nI n) f l q L 0 none = nI (mDays g nc nm n f l q true) := by
  rw [cSn_eq hw hcc h hl hq L 0 none _ hL.1 (fun w0 e => by cases e), Int32.zero_add]
  unfold mDays
  rw [mDw_eq hw hcc h hn _ (by omega)]
  congr 1
  exact sD_cg (fun w _ _ => by rw [mSeen_eq hL hq]; simp)
theorem gap_eq (hw : nw ≤ 2000) (hcc : nc ≤ 60) (h : mIv g nw nc nm) (hn : n ≤ 12) {f l : Nat} (hl : l ≤ 300) (hfl : f ≤ l) (hq : q ≤ 2000) {L : List Nat} (hL : lkOK g nw n L) : cDw g nc nm (nI n) f l q - cSn g nc nm (nI n) f l q L 0 none = nI (mDays g nc nm n f l q false) := by
  rw [seen_eq hw hcc h hn hl hfl hq hL, cDw_eq hw hcc h hl hfl hq, ← both_eq hw hcc h hn hl hfl, pk_sub (by omega)]
  congr 1
  omega
end WK
