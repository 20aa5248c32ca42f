abbrev cM : Nat → Nat := fun k => if k = 33 then 1 else 0
/-- the reference's own cell, taken out of the world that it came into -/
theorem lw_split {D : va_G} {A : Nat → Prop} {H0 : Heap} {cnt : Nat → Nat} {ad : Nat → Nat → Nat} {ct : Nat → Nat → va_E} {H : Heap} {locs : List Loc} {q : Nat} {e : va_E} (hw : wd D A H0 (va_up cnt 33 (cnt 33 + 1)) (upd2 ad 33 (cnt 33) q) (upd2 ct 33 (cnt 33) e) H locs) : wd D A H0 cnt ad ct H locs ∧ wq D cM (fun _ _ => q) (fun _ _ => e) H ∧ (∀ k i, i < cM k → A q) ∧ ∀ k i k' i', i < cnt k → i' < cM k' → ad k i ≠ q := by
  have hc : ∀ k i, i < cnt k → i < va_up cnt 33 (cnt 33 + 1) k := fun k i hi => by
    by_cases h : k = 33
    · subst h; rw [va_up_self]; omega
    · rw [va_up_ne _ _ h]; exact hi
  have h33 : cnt 33 < va_up cnt 33 (cnt 33 + 1) 33 := by rw [va_up_self]; omega
  have hne : ∀ k i, i < cnt k → ¬ (k = 33 ∧ i = cnt 33) := fun k i hi h => by obtain ⟨rfl, rfl⟩ := h; omega
  have ha : ∀ k i, i < cnt k → upd2 ad 33 (cnt 33) q k i = ad k i := fun k i hi => if_neg (hne k i hi)
  have ht : ∀ k i, i < cnt k → upd2 ct 33 (cnt 33) e k i = ct k i := fun k i hi => if_neg (hne k i hi)
  obtain ⟨⟨w1, w2⟩, w3, w4, w5⟩ := hw
  refine ⟨⟨⟨fun k i hi => ?_, fun k i k' i' hi hi' z => ?_⟩, fun k i hi => ?_, w4, w5⟩, ⟨fun k i hi => ?_, fun k i k' i' hi hi' _ => ?_⟩, fun k i hi => ?_, fun k i k' i' hi hi' z => ?_⟩
  · have := w1 k i (hc k i hi)
    rw [ha k i hi, ht k i hi] at this
    exact this
  · exact w2 k i k' i' (hc k i hi) (hc k' i' hi') (by rw [ha k i hi, ha k' i' hi']; exact z)
  · have := w3 k i (hc k i hi)
    rw [ha k i hi] at this
    exact this
  · have := w1 33 (cnt 33) h33
    rw [upd2_at, upd2_at] at this
    exact this
  · have e1 : k = 33 ∧ i = 0 := by
      unfold cM at hi
      by_cases h : k = 33
      · rw [if_pos h] at hi; exact ⟨h, by omega⟩
      · rw [if_neg h] at hi; omega
    have e2 : k' = 33 ∧ i' = 0 := by
      unfold cM at hi'
      by_cases h : k' = 33
      · rw [if_pos h] at hi'; exact ⟨h, by omega⟩
      · rw [if_neg h] at hi'; omega
    exact ⟨by omega, by omega⟩
  · have := w3 33 (cnt 33) h33
    rw [upd2_at] at this
    exact this
  · have := w2 k i 33 (cnt 33) (hc k i hi) h33 (by rw [ha k i hi, upd2_at]; exact z)
    exact hne k i hi this
theorem lw_mI {ca : Nat → ClassId} {q : Nat} : mI ca cM (fun _ _ => q) (fun _ _ => .inr (10, [.int 0, .int 0, .int 0, .int 0, .int 0, .int 0, .null, .null, .null, .null, .null, .null, .null, .null, .null, .null, .null, .null, .null, .null, .null, .null, .null, .null, .null, .null, .null, .int 0, .int 0, .int 0, .int 0, .int 0, .null])) 0 := by
  refine ⟨fun k => ?_, rfl, fun k _ _ h => absurd h (Nat.not_lt_zero _)⟩
  unfold cM
  by_cases h : k = 33
  · rw [if_pos h, if_pos (Or.inl h)]
  · rw [if_neg h, if_neg (fun z => by rcases z with z | z; exact h z; omega)]
set_option maxHeartbeats 4000000 in
set_option maxRecDepth 100000 in
/-- from the entry, for every script of at most 3584 ints, the law comes to its end with true -/
theorem whole_start {p : Program} {e : Env} {s : State} {m : MethodId} {below : List Frame} {meth : Method} {c : Code} (l : Launch) {b L : Nat} {xs : Nat → Int32} (hL : L ≤ 3584) (C0 : lw_At p s m meth c b L xs) : W p l e room_1 s m #[Value.ref b] below meth c s.heap [] 0 0 (lw_Z below #[Value.ref b] s) (entryFrame m ([Value.ref b] : List Value).toArray 4) := by
  obtain ⟨hx, hb, hr, hml, hown, hts0, hX, hbl, hlk, hgv⟩ := id C0
  obtain ⟨D, ca, hK⟩ := lw_gK hts0
  have hLt : lets (sA s) s := lw_lets hts0 hgv
  have E : cx p s m c #[Value.ref b] cL_law 4 "ScrapHouseLaw" D ca := ⟨hx, hb, hml, hown, lw_gw hts0, hK⟩
  have hl := lv_entry ([.ref b]) (n := 4) (Nat.le_of_ble_eq_true rfl)
  rw [lg_entry_eq]
  generalize (lg_sl ([.ref b]) ++ List.replicate (4 - (lg_sl ([.ref b])).length) Slot.unset).toArray = ls at hl ⊢
  have hl : lv_has ls 4 [(0, .ref b)] := hl
  have hw : wd D (sA s) s.heap (fun _ => 0) (fun _ _ => 0) (fun _ _ => .inr (0, [])) s.heap [] := ⟨⟨fun k i h => absurd h (Nat.not_lt_zero _), fun k i k' i' h => absurd h (Nat.not_lt_zero _)⟩, fun k i h => absurd h (Nat.not_lt_zero _), va_S.rf, fun _ h => h⟩
  refine x_new (fs := [.int 0, .int 0, .int 0, .int 0, .int 0, .int 0, .null, .null, .null, .null, .null, .null]) E hw 0 cl_9 ly_9 tyX9 tyX9_ok tw_14 tw_15 tw_1 df_9 (by decide) (by decide) dL_law_0 (fun q9 H hw8 => ?_)
  obtain ⟨cnt, ad, ct, hw, h0, hz, hkc, hq⟩ : ∃ (cnt : Nat → Nat) (ad : Nat → Nat → Nat) (ct : Nat → Nat → va_E), wd D (sA s) s.heap cnt ad ct H [] ∧ cnt 0 = 1 ∧ (∀ k, k ≠ 0 → cnt k = 0) ∧ ct 0 0 = .inr (9, [.int 0, .int 0, .int 0, .int 0, .int 0, .int 0, .null, .null, .null, .null, .null, .null]) ∧ ad 0 0 = q9 := ⟨_, _, _, hw8, va_up_self _ _ _, fun k hk => va_up_ne _ _ hk, upd2_at _ _ _ _, upd2_at _ _ _ _⟩
  clear hw8
  subst hq
  refine lv_dup hx hb dL_law_3 rfl ?_
  have hMet := kX9_init l D ca cnt ad ct H.size h0 hz hkc
  have hrun := x_runI (l := l) (e := e) (rest := [.ref (ad 0 0)]) (R := room_1) (below := below) (meth := meth) (locs := []) (H := H) (cells := 0 + 1) (slots := 0 + 12) (pc := 4) (ls := ls) (st0 := [.ref (ad 0 0), .ref (ad 0 0)]) E cbX9_init tw_16 hMet ⟨rfl, rfl, by decide, by decide⟩ (fun U g9 mk9 a9 h => ⟨h.1, h.2.1, lets_blind h.2.2⟩) (fun U hU hW9 => ⟨by rw [hU], by rw [hU]; exact hw.1, lets_call hLt hw hU hW9⟩) rfl hl.1 rfl (Nat.le_of_ble_eq_true rfl) dL_law_4 ⟨by decide, by decide⟩
  refine x_wrote hw hrun (fun rv9 u9 H locs hp9 hw hz9 hk9 => ?_)
  obtain ⟨cnt1, ad1, ct1⟩ := u9
  obtain ⟨hrv9, hC, ha⟩ := hp9
  subst hrv9
  have hw : wd D (sA s) s.heap cnt1 ad1 ct1 H locs := hw
  have hC : cRep ca cnt1 ad1 ct1 v0 g0 0 0 0 0 := hC
  have ha : ad1 0 0 = ad 0 0 := ha
  refine W.eq (g2 := F0 m 7 ls [.ref (ad1 0 0)]) (by rw [ha]; rfl) ?_
  refine lv_astore_n (lv' := [(1, .ref (ad1 0 0)), (0, .ref b)]) hx hb dL_law_7 rfl hl (by decide) rfl (fun ls hl => ?_)
  refine x_new (fs := [.int 0, .int 0, .int 0, .int 0, .int 0, .int 0, .null, .null, .null, .null, .null, .null, .null, .null, .null, .null, .null, .null, .null, .null, .null, .null, .null, .null, .null, .null, .null, .int 0, .int 0, .int 0, .int 0, .int 0, .null]) E hw 33 cl_10 ly_10 tyX10 tyX10_ok tw_536 tw_537 tw_5 df_10 (by decide) (by decide) dL_law_8 (fun q9 H hw => ?_)
  obtain ⟨hw, hM, hA, hd⟩ := lw_split hw
  refine lv_dup hx hb dL_law_11 rfl ?_
  have hMet := kX10_init l D ca cM (fun _ _ => q9) (fun _ _ => .inr (10, [.int 0, .int 0, .int 0, .int 0, .int 0, .int 0, .null, .null, .null, .null, .null, .null, .null, .null, .null, .null, .null, .null, .null, .null, .null, .null, .null, .null, .null, .null, .null, .int 0, .int 0, .int 0, .int 0, .int 0, .null])) H.size q9 lw_mI rfl
  have hrun := x_runI (l := l) (e := e) (rest := [.ref q9]) (R := room_1) (below := below) (meth := meth) (locs := locs) (H := H) (cells := 0 + 1 + 21 + 1) (slots := 0 + 12 + 360 + 33) (pc := 12) (ls := ls) (st0 := [.ref q9, .ref q9]) E cbX10_init tw_538 hMet ⟨rfl, rfl, by decide, by decide⟩ (fun _ _ _ _ h => h) (fun U hU _ => by rw [hU]; exact ⟨rfl, hM⟩) rfl hl.1 rfl (Nat.le_of_ble_eq_true rfl) dL_law_12 ⟨by decide, by decide⟩
  refine tw_I hw hM hA hd hrun (fun rv9 u9 H locs hp9 hw hq2 hA2 hd2 => ?_)
  obtain ⟨hrv9, ad2, h33, hu9⟩ := hp9
  subst hrv9
  subst hu9
  have hT : TW D ca (sA s) s.heap cnt1 ad1 ct1 ad2 v0 g0 H locs := ⟨hw, hq2, hA2, hd2⟩
  refine W.eq (g2 := F0 m 15 ls [.ref (ad2 33 0)]) (by rw [h33]; rfl) ?_
  refine lv_astore_n (lv' := [(2, .ref (ad2 33 0)), (1, .ref (ad1 0 0)), (0, .ref b)]) hx hb dL_law_15 rfl hl (by decide) rfl (fun ls hl => ?_)
  refine lv_iconst (v := 0) hx hb dL_law_16 (by decide) ?_
  refine lv_istore_n (lv' := [(3, .int 0), (2, .ref (ad2 33 0)), (1, .ref (ad1 0 0)), (0, .ref b)]) hx hb dL_law_17 rfl hl (by decide) rfl (fun ls hl => ?_)
  refine W.widen (k := 45 + 3 * 0) (n := 31081 + 41 * 0) (by decide) (by decide) ?_
  exact law_loop l hL E hr hlk hX hbl hLt (L + 8) 0 cnt1 ad1 ct1 ad2 v0 g0 0 0 0 0 (by omega) (by omega) hC PI_0 _ _ hT ls (lv_sub hl [3, 2, 1, 0] rfl)
set_option maxHeartbeats 4000000 in
theorem lw_walk (l : Launch) (b : Addr) (xs : List Int32) : MetFree l x (headSpec (Jvm.Cond.code x code maxLocals ret :: tables_1) room_1) (lw_P b xs) (fun _ _ _ _ _ => True) lw_Q := by
  refine MetFree.of_bodyS (code := code) (maxLocals := maxLocals) (ret := ret) (by decide) ?_ ?_
  · intro args s m h hn
    obtain ⟨meth, c, h1, h2, h3, h4, h5, h6, -, -⟩ := Cond.code_spec hn (atoms_spec (ws := Jvm.Cond.code x code maxLocals ret :: tables_1) h _ List.mem_cons_self)
    exact ⟨meth, c, h1, h2, h3, h4, h5, h6⟩
  · intro p e s m args below meth c s₁ B hml0 hP _
    obtain ⟨rfl, hx, hbd, hgv⟩ := hP
    obtain ⟨scr, harrAt, hlist, hof, hsmall⟩ := hx
    obtain ⟨hcb, hkn, -, -⟩ := State.arrayAt?_spec harrAt
    have hown : s.vm.findClass R_law = some m.cls := findClass_of_methodNamed B.named
    have hts0 : ∀ c ∈ (Jvm.Cond.code x code maxLocals ret :: tables_1), c.before #[Value.ref b] s = true := atoms_spec (ws := Jvm.Cond.code x code maxLocals ret :: tables_1) B.pre
    have hts : ∀ w ∈ lw_tbl, w.before #[Value.ref b] s = true := k2_hts_sels lw_privs (fun w hw => hts0 w (List.mem_cons_of_mem _ hw)) lw_privs_ok
    have hml : c.maxLocals = 4 := B.maxLocals_eq (hts0 _ List.mem_cons_self)
    have X₀ : Stand p l e room_1 s m #[Value.ref b] below meth c s₁ [] 0 0 := Stand.of_body B
    have hh0 : s₁.heap = s.heap := by rw [B.state]; rfl
    have hsz : scr.slots.size = xs.length := by rw [← Array.length_toList, hlist, List.length_map]
    have hval : ∀ j : Nat, j < xs.length → scr.slots[j]? = some (.int (xs.getD j 0)) := fun j hj => by
      rw [← Array.getElem?_toList, hlist]
      simp [hj]
    have hbl : b < s.heap.size := (Array.getElem?_eq_some_iff.mp hcb).1
    have hX : va_X b xs.length (fun j => xs.getD j 0) s s.heap := ⟨scr, hcb, hof, hkn, hsz, hval⟩
    have K : W p l e room_1 s m #[Value.ref b] below meth c s₁.heap [] 0 0 (lw_Z below #[Value.ref b] s) (entryFrame m ([Value.ref b] : List Value).toArray 4) := by
      rw [hh0]
      exact whole_start l hbd ⟨B.exec, B.bytes, B.returns, hml, hown, hts, hX, hbl, B.notSynchronized, hgv⟩
    obtain ⟨t, a1, o, b1, b2, b3⟩ := K s₁ rfl X₀
    exact ⟨t, o, a1, b1, b2, b3⟩
theorem lw_pre_spec {args : Array Value} {s : State} (h : (Jvm.Cond.and given_1 narrow_1).before args s = true) (hr : rest_1_c.before args s = true) : ∃ (b : Addr) (xs : List Int32), lw_P b xs args s := by
  have hs := flat_of_before _ h
  have hq := flat_of_before _ hr
  have hc : (Cond.count 1).before args s = true := hs _ (by decide +kernel)
  have harr : (Cond.arrayOf (.arg 0) .int).before args s = true := hs _ (by decide +kernel)
  have hle : (Cond.le (.length (.arg 0)) (.int 3584)).before args s = true := hs _ (by decide +kernel)
  have hlen : (Cond.isInt (.length (.arg 0))).before args s = true := hq _ (by decide +kernel)
  have hall : (Cond.all (.arg 0) (.isInt (.elem (.arg 0) (.index 0)))).before args s = true := hq _ (by decide +kernel)
  obtain ⟨b, xs, hb, hx⟩ := State.ints_of_pre rfl harr hlen hall
  have hsm : xs.length < 2 ^ 31 := hx.choose_spec.2.2.2
  have hev : (Term.length (.arg 0)).eval args s none [] s = some (.int xs.length.toInt32) := hx.length_eval hb
  have hv := Cond.le_ints hev (show (Term.int 3584).eval args s none [] s = some (.int 3584) from rfl)
  have hd : xs.length.toInt32 ≤ 3584 := by
    simpa [Cond.before, Cond.holds, hv] using hle
  have hN : xs.length ≤ 3584 := (Int32.ofNat_le_ofNat hsm (by decide)).mp (show Int32.ofNat xs.length ≤ Int32.ofNat 3584 from hd)
  exact ⟨b, xs, Cond.one_arg hc (show args[0]? = some (.ref b) from hb), hx, hN, h⟩
theorem lw_comes (l : Launch) : Comes l x (Jvm.Cond.code x code maxLocals ret :: tables_1) room_1 (fun tb e args s => Calls_1 tb e args s ∧ rest_1 tb e args s ∧ Pre_1 tb e args s)
    (fun _ _ args s o t => lw_Q args s o t) := by
  intro p e ha hc hk s m args below hf hfit hheap happ hpre
  obtain ⟨b, xs, hP⟩ := lw_pre_spec hpre.2.2 hpre.2.1
  obtain ⟨k, o, h1, h2, h3, hQ⟩ := lw_walk l b xs p e ha hc hk s m args below hf ((Spec.applies_iff_loose hf).mp happ).1 hP trivial
  exact ⟨k, o, h1, h2, h3, hQ⟩
theorem lw_frame {s t : State} {o : Outcome} {args : Array Value} (h : Framed s o t [] 600000 7302250) :
    Framed s o t (fieldLocs frame_1_writes args s ++ arrayLocs frame_1_arrays args s ++ staticLocs frame_1_statics s) 600000 7302250 := h
theorem lw_limb (L : Cond) (hL : ∀ (args : Array Value) (s t : State), L.after args s (.returned (some (.int 1))) t = true) :
    ArmFor flags0 classFile x code maxLocals ret World_1 tables_1 room_1 Calls_1 rest_1 Pre_1
      (fun tb e a s o t => postC L tb e a s o t ∧ Framed s o t (fieldLocs frame_1_writes a s ++ arrayLocs frame_1_arrays a s ++ staticLocs frame_1_statics s) 600000 7302250) := by
  intro l _ _ _ p e ha hc hk s m args below hf hfit hheap happ hpre
  obtain ⟨k, o, h1, h2, h3, rfl, hF⟩ := lw_comes l p e ha hc hk s m args below hf hfit hheap happ hpre
  exact ⟨k, _, h1, h2, h3, hL args s _, lw_frame hF⟩
theorem i_vc : Claimed_1_1 ∧ Claimed_1_2 := ⟨lw_limb limb_1_1 (fun args s t => by simp [limb_1_1, Cond.after, Cond.holds, Cond.value]), lw_limb limb_1_2 (fun args s t => Cond.after_iff.mpr (by
  first | (rw [show limb_1_2 = Cond.eq .result (.int 1) from rfl, Cond.eq_ints (x := 1) (y := 1) rfl rfl]; simp; done) | (simp [limb_1_2, Cond.value, Term.eval]; done)))⟩
