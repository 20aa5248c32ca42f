set_option maxHeartbeats 4000000 in
set_option maxRecDepth 100000 in
theorem kX9_fault (l : Launch) (D : va_G) (ca : Nat → ClassId) (cnt : Nat → Nat) (ad : Nat → Nat → Nat) (ct : Nat → Nat → va_E) (z9 : Nat) (v : Nat → Int32) (g : Nat → Nat → Int32) (nw : Nat) (nb : Nat) (nc : Nat) (nm : Nat) (tn : Nat) (hC : cRep ca cnt ad ct v g nw nb nc nm) (htn : tn ≤ 100) (h27 : v 27 = nI tn) : Met l yX9_fault (wz yX9_fault cX9_fault 1 (some .int)) (rmL 35 0 0) (va_Pc [.ref (ad 0 0)] (fun U => (U.heap.size = z9 ∧ wq D cnt ad ct U.heap ∧ lets (wA cnt ad z9) U) ∧ gK D ca U)) (QcW D (wA cnt ad z9) (fun rv u => rv = some (.int (mFau g tn)) ∧ cRep ca u.1 u.2.1 u.2.2 v g nw nb nc nm ∧ u.2.1 0 0 = ad 0 0)) 0 0 (wA cnt ad z9) := by
  refine x_met (by decide) (Nat.le_of_ble_eq_true rfl) ?_
  intro p e s m below meth c E hr hlk hnm hq ls hl
  obtain ⟨hsz9, hq, hLt⟩ := hq
  subst hsz9
  generalize hav : ([.ref (ad 0 0)] : List Value).toArray = args at E ⊢
  have hx := E.1
  have hb := E.2.1
  have hown := E.2.2.2.1
  have hts := E.2.2.2.2.1
  have hw : wd D (wA cnt ad s.heap.size) s.heap cnt ad ct s.heap [] := wd.start hq
  generalize hQ : MQ below (QcW D (wA cnt ad s.heap.size) (fun rv u => rv = some (.int (mFau g tn)) ∧ cRep ca u.1 u.2.1 u.2.2 v g nw nb nc nm ∧ u.2.1 0 0 = ad 0 0)) args s 0 0 (wA cnt ad s.heap.size) = Q
  generalize hA9 : wA cnt ad s.heap.size = A at hw hQ hLt
  have hl : lv_has ls 1 [(0, .ref (ad 0 0))] := hl
  obtain ⟨hO, hIv, tp, htp, hX, hT, hB, hCc, hN⟩ := id hC
  obtain ⟨hx0, hx1, hx2, hx3, fz0⟩ := id hX
  have hO5 := hO.2.2.2.2
  obtain ⟨hb4, hb5, fB, fz1, hBd⟩ := id hB
  obtain ⟨hc6, hc7, fC, dt, ow, ix, ak, fz2, hCd⟩ := id hCc
  obtain ⟨hn9, fN, lk, fz3, hNd⟩ := id hN
  obtain ⟨ht13, ht14, ht11, ht12, szq, nq, nrq, rtq, bq0, bq1, vsq, pq1, pq2, hsz, hsz2, hnq, hnr, hrt, fz11, fz11b, fz12, fz12b, fz13, fz14, hby, hrl⟩ := id hT
  obtain ⟨h13, h14, ht11, ht12, sz, n2, nr, rt, b0, b1, vs, p1, p2, hsz, hsz2, hn2, hnr, hrt, z1, z2, z3, z4, z5, z6, a6, a7⟩ := id hT
  have hst : sz = tn := (nI_eq (by omega) (by omega)).mp (hsz.symm.trans h27)
  subst hst
  have hR : rdOK ca cnt ad ct tp sz b0 vs := ⟨h13, by omega, z1, by omega, z3, hsz2, h14, z6⟩
  have hbc9 : bC b0 sz = tC (g 24) sz := tC_cg a6
  suffices hgo : ∀ (H : Heap) (locs : List Loc), wd D A s.heap cnt ad ct H locs → W p l e (rmL 35 0 0) s m args below meth c H locs 0 0 Q (F0 m 0 ls []) from hgo _ _ hw
  clear hw
  intro H locs hw
  refine lv_aload_n hx hb dX9_fault_0 rfl (lv_at hl 0 rfl) ?_
  refine x_get E hw 0 0 (hx0) fz0 cl_9 ly_9 11 (by decide) tw_91 rfl dX9_fault_1 ?_
  refine lv_aload_n hx hb dX9_fault_4 rfl (lv_at hl 0 rfl) ?_
  refine x_get E hw 0 0 (hx0) fz0 cl_9 ly_9 9 (by decide) tw_89 rfl dX9_fault_5 ?_
  have hw : wd D A s.heap cnt ad (rq ad ct rt p1 p2) H locs := by rw [rq_same (z5)]; exact hw
  refine x_wrote hw (x_runV (rest := []) E cbX7_faultOf tw_404 (kX7_faultOf l D ca cnt ad ct H.size tp sz b0 vs rt p1 p2 hR) ⟨rfl, rfl, by decide, by decide⟩ (x_recv E hw cl_7 (h13) (upd2_at _ _ _ _)) (fun U g9 mk9 a9 h => ⟨h.1, h.2.1, lets_blind h.2.2⟩) (fun U hU hW9 => ⟨by rw [hU], by rw [hU]; exact hw.1, lets_call hLt hw hU hW9⟩) rfl hl.1 rfl (Nat.le_of_ble_eq_true rfl) dX9_fault_8 ⟨by decide, by decide⟩) (fun rv9 u9 H locs hp9 hw hz9 hk9 => ?_)
  obtain ⟨x9, f9q, hu9, hp9⟩ := hp9
  subst hu9
  rw [hbc9] at hp9
  rcases hp9 with ⟨e9, hR9, he9, hrv9⟩ | ⟨a9, L9, hR9, hrv9⟩
  · skip
    subst hrv9
    have hw : wd D A s.heap cnt ad (rq ad ct tp x9 f9q) H locs := hw
    subst hQ
    exact x_iretW E hr hlk hw (by decide) (by decide) (addA (rfl) (⟨by rw [mFau_e hR9], cRep_rd htp hC⟩)) dX9_fault_11
  · skip
    subst hrv9
    have hw : wd D A s.heap cnt ad (rq ad ct tp x9 f9q) H locs := hw
    subst hQ
    exact x_iretW E hr hlk hw (by decide) (by decide) (addA (rfl) (⟨by rw [mFau_k hR9], cRep_rd htp hC⟩)) dX9_fault_11
set_option maxHeartbeats 4000000 in
set_option maxRecDepth 100000 in
theorem kX9_rule (l : Launch) (D : va_G) (ca : Nat → ClassId) (cnt : Nat → Nat) (ad : Nat → Nat → Nat) (ct : Nat → Nat → va_E) (z9 : Nat) (v : Nat → Int32) (g : Nat → Nat → Int32) (nw : Nat) (nb : Nat) (nc : Nat) (nm : Nat) (tn : Nat) (hC : cRep ca cnt ad ct v g nw nb nc nm) (htn : tn ≤ 100) (h27 : v 27 = nI tn) (h5 : ¬ v 5 + 1 = 0) : Met l yX9_rule (wz yX9_rule cX9_rule 2 (some .boolean)) (rmL 35 0 0) (va_Pc [.ref (ad 0 0)] (fun U => (U.heap.size = z9 ∧ wq D cnt ad ct U.heap ∧ lets (wA cnt ad z9) U) ∧ gK D ca U)) (QcW D (wA cnt ad z9) (fun rv u => ((∃ e, pTop (tC (g 24) tn) tn = .inl e ∧ rv = some (.int 0) ∧ cRep ca u.1 u.2.1 u.2.2 v g nw nb nc nm) ∨ ∃ a L, pTop (tC (g 24) tn) tn = .inr (a, L) ∧ rv = some (.int 1) ∧ ∀ g' : Nat → Nat → Int32, (∀ k i, k ≠ 25 → k ≠ 26 → g' k i = g k i) → cdOK g' L → cRep ca u.1 u.2.1 u.2.2 (upd (upd v 5 (v 5 + 1)) 27 0) g' nw nb nc nm) ∧ u.2.1 0 0 = ad 0 0)) 0 0 (wA cnt ad z9) := by
  refine x_met (by decide) (Nat.le_of_ble_eq_true rfl) ?_
  intro p e s m below meth c E hr hlk hnm hq ls hl
  obtain ⟨hsz9, hq, hLt⟩ := hq
  subst hsz9
  generalize hav : ([.ref (ad 0 0)] : List Value).toArray = args at E ⊢
  have hx := E.1
  have hb := E.2.1
  have hown := E.2.2.2.1
  have hts := E.2.2.2.2.1
  have hw : wd D (wA cnt ad s.heap.size) s.heap cnt ad ct s.heap [] := wd.start hq
  generalize hQ : MQ below (QcW D (wA cnt ad s.heap.size) (fun rv u => ((∃ e, pTop (tC (g 24) tn) tn = .inl e ∧ rv = some (.int 0) ∧ cRep ca u.1 u.2.1 u.2.2 v g nw nb nc nm) ∨ ∃ a L, pTop (tC (g 24) tn) tn = .inr (a, L) ∧ rv = some (.int 1) ∧ ∀ g' : Nat → Nat → Int32, (∀ k i, k ≠ 25 → k ≠ 26 → g' k i = g k i) → cdOK g' L → cRep ca u.1 u.2.1 u.2.2 (upd (upd v 5 (v 5 + 1)) 27 0) g' nw nb nc nm) ∧ u.2.1 0 0 = ad 0 0)) args s 0 0 (wA cnt ad s.heap.size) = Q
  generalize hA9 : wA cnt ad s.heap.size = A at hw hQ hLt
  have hl : lv_has ls 2 [(0, .ref (ad 0 0))] := hl
  obtain ⟨hO, hIv, tp, htp, hX, hT, hB, hCc, hN⟩ := id hC
  obtain ⟨hx0, hx1, hx2, hx3, fz0⟩ := id hX
  have hO5 := hO.2.2.2.2
  obtain ⟨hb4, hb5, fB, fz1, hBd⟩ := id hB
  obtain ⟨hc6, hc7, fC, dt, ow, ix, ak, fz2, hCd⟩ := id hCc
  obtain ⟨hn9, fN, lk, fz3, hNd⟩ := id hN
  obtain ⟨ht13, ht14, ht11, ht12, szq, nq, nrq, rtq, bq0, bq1, vsq, pq1, pq2, hsz, hsz2, hnq, hnr, hrt, fz11, fz11b, fz12, fz12b, fz13, fz14, hby, hrl⟩ := id hT
  obtain ⟨h13, h14, ht11, ht12, sz, n2, nr, rt, b0, b1, vs, p1, p2, hsz, hsz2, hn2, hnr, hrt, z1, z2, z3, z4, z5, z6, a6, a7⟩ := id hT
  have hst : sz = tn := (nI_eq (by omega) (by omega)).mp (hsz.symm.trans h27)
  subst hst
  have hR : rdOK ca cnt ad ct tp sz b0 vs := ⟨h13, by omega, z1, by omega, z3, hsz2, h14, z6⟩
  have hbc9 : bC b0 sz = tC (g 24) sz := tC_cg a6
  suffices hgo : ∀ (H : Heap) (locs : List Loc), wd D A s.heap cnt ad ct H locs → W p l e (rmL 35 0 0) s m args below meth c H locs 0 0 Q (F0 m 0 ls []) from hgo _ _ hw
  clear hw
  intro H locs hw
  refine lv_aload_n hx hb dX9_rule_0 rfl (lv_at hl 0 rfl) ?_
  refine x_get E hw 0 0 (hx0) fz0 cl_9 ly_9 11 (by decide) tw_91 rfl dX9_rule_1 ?_
  refine lv_aload_n hx hb dX9_rule_4 rfl (lv_at hl 0 rfl) ?_
  refine x_get E hw 0 0 (hx0) fz0 cl_9 ly_9 9 (by decide) tw_89 rfl dX9_rule_5 ?_
  have hw : wd D A s.heap cnt ad (rq ad ct rt p1 p2) H locs := by rw [rq_same (z5)]; exact hw
  refine x_wrote hw (x_runV (rest := []) E cbX7_faultOf tw_404 (kX7_faultOf l D ca cnt ad ct H.size tp sz b0 vs rt p1 p2 hR) ⟨rfl, rfl, by decide, by decide⟩ (x_recv E hw cl_7 (h13) (upd2_at _ _ _ _)) (fun U g9 mk9 a9 h => ⟨h.1, h.2.1, lets_blind h.2.2⟩) (fun U hU hW9 => ⟨by rw [hU], by rw [hU]; exact hw.1, lets_call hLt hw hU hW9⟩) rfl hl.1 rfl (Nat.le_of_ble_eq_true rfl) dX9_rule_8 ⟨by decide, by decide⟩) (fun rv9 u9 H locs hp9 hw hz9 hk9 => ?_)
  obtain ⟨x9, f9q, hu9, hp9⟩ := hp9
  subst hu9
  rw [hbc9] at hp9
  rcases hp9 with ⟨e9, hR9, he9, hrv9⟩ | ⟨a9, L9, hR9, hrv9⟩
  · skip
    subst hrv9
    have hw : wd D A s.heap cnt ad (rq ad ct tp x9 f9q) H locs := hw
    refine lv_iconst (v := (-1)) hx hb dX9_rule_11 (by decide) ?_
    refine lv_icmp_eq (tgt := 17) hx hb dX9_rule_12 (by decide) (fun c_12 => ?_) (fun c_12 => ?_)
    · skip
      exact absurd c_12 (nI_nn (by omega))
    · skip
      refine lv_iconst (v := 0) hx hb dX9_rule_15 (by decide) ?_
      subst hQ
      exact x_zretW E hr hlk (by decide) hw (by decide) (by decide) (addO (rfl) (Or.inl ⟨e9, hR9, rfl, cRep_rd htp hC⟩)) dX9_rule_16
  · skip
    subst hrv9
    have hw : wd D A s.heap cnt ad (rq ad ct tp x9 f9q) H locs := hw
    refine lv_iconst (v := (-1)) hx hb dX9_rule_11 (by decide) ?_
    refine lv_icmp_eq (tgt := 17) hx hb dX9_rule_12 (by decide) (fun c_12 => ?_) (fun c_12 => ?_)
    · skip
      refine lv_aload_n hx hb dX9_rule_17 rfl (lv_at hl 0 rfl) ?_
      refine x_get E hw 0 0 (hx0) ((upd2_k _ _ _ _ (by decide)).trans fz0) cl_9 ly_9 10 (by decide) tw_90 rfl dX9_rule_18 ?_
      refine lv_astore_n (lv' := [(1, .ref (ad 11 (1 - tp))), (0, .ref (ad 0 0))]) hx hb dX9_rule_21 rfl hl (by decide) rfl (fun ls hl => ?_)
      refine lv_aload_n hx hb dX9_rule_22 rfl (lv_at hl 1 rfl) ?_
      refine lv_aload_n hx hb dX9_rule_23 rfl (lv_at hl 1 rfl) ?_
      refine x_get E hw 0 0 (hx0) ((upd2_k _ _ _ _ (by decide)).trans fz0) cl_9 ly_9 9 (by decide) tw_89 rfl dX9_rule_24 ?_
      refine x_put E hw 0 0 (hx0) ((upd2_k _ _ _ _ (by decide)).trans fz0) cl_9 ly_9 tyX9 tyX9_ok nmX9 10 (by decide) tw_90 (Or.inl rfl) (by rfl) (by rfl) (Nat.le_of_ble_eq_true rfl) dX9_rule_27 (fun H locs hw => ?_)
      generalize hct1 : upd2 (rq ad ct tp x9 f9q) 0 0 (.inr (9, [.int (nI nw), .int (nI nb), .int (nI nc), .int (nI nm), .int (v 4), .int (v 5), .ref (ad 1 0), .ref (ad 2 0), .ref (ad 3 0), .ref (ad 11 tp), .ref (ad 11 (1 - tp)), .ref (ad 13 0)].set 10 (.ref (ad 11 tp)))) = ct1 at hw
      have fa1 : ct1 0 0 = .inr (9, [.int (nI nw), .int (nI nb), .int (nI nc), .int (nI nm), .int (v 4), .int (v 5), .ref (ad 1 0), .ref (ad 2 0), .ref (ad 3 0), .ref (ad 11 tp), .ref (ad 11 tp), .ref (ad 13 0)]) := by rw [← hct1, upd2_at]; try rfl
      have fa2 : ct1 1 0 = .inl (ca 3, 50, aQ fB) := by rw [← hct1, upd2_k _ _ _ _ (by decide)]; exact ((upd2_k _ _ _ _ (by decide)).trans fz1)
      have fa3 : ct1 2 0 = .inl (ca 4, 60, aQ fC) := by rw [← hct1, upd2_k _ _ _ _ (by decide)]; exact ((upd2_k _ _ _ _ (by decide)).trans fz2)
      have fa4 : ct1 3 0 = .inl (ca 5, 13, aQ fN) := by rw [← hct1, upd2_k _ _ _ _ (by decide)]; exact ((upd2_k _ _ _ _ (by decide)).trans fz3)
      have fa5 : ct1 11 tp = .inr (8, [.ref (ad 12 tp), .int (nI sz)]) := by rw [← hct1, upd2_k _ _ _ _ (by decide)]; exact ((upd2_k _ _ _ _ (by decide)).trans z1)
      have fa6 : ct1 11 (1 - tp) = .inr (8, [.ref (ad 12 (1 - tp)), .int (nI n2)]) := by rw [← hct1, upd2_k _ _ _ _ (by decide)]; exact ((upd2_k _ _ _ _ (by decide)).trans z2)
      have fa7 : ct1 12 tp = .inl (ca 0, 100, .inl b0) := by rw [← hct1, upd2_k _ _ _ _ (by decide)]; exact ((upd2_k _ _ _ _ (by decide)).trans z3)
      have fa8 : ct1 12 (1 - tp) = .inl (ca 0, 100, .inl b1) := by rw [← hct1, upd2_k _ _ _ _ (by decide)]; exact ((upd2_k _ _ _ _ (by decide)).trans z4)
      have fa9 : ct1 13 0 = .inr (7, [.ref (ad 14 0), .ref (ad 11 tp), .int x9, .int f9q]) := by rw [← hct1, upd2_k _ _ _ _ (by decide)]; exact (upd2_at _ _ _ _)
      have fa10 : ct1 14 0 = .inl (ca 1, 5, .inl vs) := by rw [← hct1, upd2_k _ _ _ _ (by decide)]; exact ((upd2_k _ _ _ _ (by decide)).trans z6)
      refine lv_aload_n hx hb dX9_rule_30 rfl (lv_at hl 1 rfl) ?_
      refine lv_aload_n hx hb dX9_rule_31 rfl (lv_at hl 0 rfl) ?_
      refine x_put E hw 0 0 (hx0) fa1 cl_9 ly_9 tyX9 tyX9_ok nmX9 9 (by decide) tw_89 (Or.inl rfl) (by rfl) (by rfl) (Nat.le_of_ble_eq_true rfl) dX9_rule_32 (fun H locs hw => ?_)
      generalize hct2 : upd2 ct1 0 0 (.inr (9, [.int (nI nw), .int (nI nb), .int (nI nc), .int (nI nm), .int (v 4), .int (v 5), .ref (ad 1 0), .ref (ad 2 0), .ref (ad 3 0), .ref (ad 11 tp), .ref (ad 11 tp), .ref (ad 13 0)].set 9 (.ref (ad 11 (1 - tp))))) = ct2 at hw
      have fa11 : ct2 0 0 = .inr (9, [.int (nI nw), .int (nI nb), .int (nI nc), .int (nI nm), .int (v 4), .int (v 5), .ref (ad 1 0), .ref (ad 2 0), .ref (ad 3 0), .ref (ad 11 (1 - tp)), .ref (ad 11 tp), .ref (ad 13 0)]) := by rw [← hct2, upd2_at]; try rfl
      have fa12 : ct2 1 0 = .inl (ca 3, 50, aQ fB) := by rw [← hct2, upd2_k _ _ _ _ (by decide)]; exact fa2
      have fa13 : ct2 2 0 = .inl (ca 4, 60, aQ fC) := by rw [← hct2, upd2_k _ _ _ _ (by decide)]; exact fa3
      have fa14 : ct2 3 0 = .inl (ca 5, 13, aQ fN) := by rw [← hct2, upd2_k _ _ _ _ (by decide)]; exact fa4
      have fa15 : ct2 11 tp = .inr (8, [.ref (ad 12 tp), .int (nI sz)]) := by rw [← hct2, upd2_k _ _ _ _ (by decide)]; exact fa5
      have fa16 : ct2 11 (1 - tp) = .inr (8, [.ref (ad 12 (1 - tp)), .int (nI n2)]) := by rw [← hct2, upd2_k _ _ _ _ (by decide)]; exact fa6
      have fa17 : ct2 12 tp = .inl (ca 0, 100, .inl b0) := by rw [← hct2, upd2_k _ _ _ _ (by decide)]; exact fa7
      have fa18 : ct2 12 (1 - tp) = .inl (ca 0, 100, .inl b1) := by rw [← hct2, upd2_k _ _ _ _ (by decide)]; exact fa8
      have fa19 : ct2 13 0 = .inr (7, [.ref (ad 14 0), .ref (ad 11 tp), .int x9, .int f9q]) := by rw [← hct2, upd2_k _ _ _ _ (by decide)]; exact fa9
      have fa20 : ct2 14 0 = .inl (ca 1, 5, .inl vs) := by rw [← hct2, upd2_k _ _ _ _ (by decide)]; exact fa10
      refine lv_aload_n hx hb dX9_rule_35 rfl (lv_at hl 1 rfl) ?_
      refine x_get E hw 0 0 (hx0) fa11 cl_9 ly_9 9 (by decide) tw_89 rfl dX9_rule_36 ?_
      refine lv_iconst (v := 0) hx hb dX9_rule_39 (by decide) ?_
      refine x_put E hw 11 (1 - tp) (by omega) fa16 cl_8 ly_8 tyX8 tyX8_ok nmX8 1 (by decide) tw_37 (Or.inl rfl) (by rfl) (by rfl) (Nat.le_of_ble_eq_true rfl) dX9_rule_40 (fun H locs hw => ?_)
      generalize hct3 : upd2 ct2 11 (1 - tp) (.inr (8, [.ref (ad 12 (1 - tp)), .int (nI n2)].set 1 (.int 0))) = ct3 at hw
      have fa21 : ct3 0 0 = .inr (9, [.int (nI nw), .int (nI nb), .int (nI nc), .int (nI nm), .int (v 4), .int (v 5), .ref (ad 1 0), .ref (ad 2 0), .ref (ad 3 0), .ref (ad 11 (1 - tp)), .ref (ad 11 tp), .ref (ad 13 0)]) := by rw [← hct3, upd2_k _ _ _ _ (by decide)]; exact fa11
      have fa22 : ct3 1 0 = .inl (ca 3, 50, aQ fB) := by rw [← hct3, upd2_k _ _ _ _ (by decide)]; exact fa12
      have fa23 : ct3 2 0 = .inl (ca 4, 60, aQ fC) := by rw [← hct3, upd2_k _ _ _ _ (by decide)]; exact fa13
      have fa24 : ct3 3 0 = .inl (ca 5, 13, aQ fN) := by rw [← hct3, upd2_k _ _ _ _ (by decide)]; exact fa14
      have fa25 : ct3 11 tp = .inr (8, [.ref (ad 12 tp), .int (nI sz)]) := by rw [← hct3, upd2_i _ _ _ (by omega)]; exact fa15
      have fa26 : ct3 11 (1 - tp) = .inr (8, [.ref (ad 12 (1 - tp)), .int 0]) := by rw [← hct3, upd2_at]; try rfl
      have fa27 : ct3 12 tp = .inl (ca 0, 100, .inl b0) := by rw [← hct3, upd2_k _ _ _ _ (by decide)]; exact fa17
      have fa28 : ct3 12 (1 - tp) = .inl (ca 0, 100, .inl b1) := by rw [← hct3, upd2_k _ _ _ _ (by decide)]; exact fa18
      have fa29 : ct3 13 0 = .inr (7, [.ref (ad 14 0), .ref (ad 11 tp), .int x9, .int f9q]) := by rw [← hct3, upd2_k _ _ _ _ (by decide)]; exact fa19
      have fa30 : ct3 14 0 = .inl (ca 1, 5, .inl vs) := by rw [← hct3, upd2_k _ _ _ _ (by decide)]; exact fa20
      refine lv_aload_n hx hb dX9_rule_43 rfl (lv_at hl 1 rfl) ?_
      refine lv_dup hx hb dX9_rule_44 rfl ?_
      refine x_get E hw 0 0 (hx0) fa21 cl_9 ly_9 5 (by decide) tw_85 rfl dX9_rule_45 ?_
      refine lv_iconst (v := 1) hx hb dX9_rule_48 (by decide) ?_
      refine lv_iadd hx hb dX9_rule_49 ?_
      refine x_put E hw 0 0 (hx0) fa21 cl_9 ly_9 tyX9 tyX9_ok nmX9 5 (by decide) tw_85 (Or.inl rfl) (by rfl) (by rfl) (Nat.le_of_ble_eq_true rfl) dX9_rule_50 (fun H locs hw => ?_)
      generalize hct4 : upd2 ct3 0 0 (.inr (9, [.int (nI nw), .int (nI nb), .int (nI nc), .int (nI nm), .int (v 4), .int (v 5), .ref (ad 1 0), .ref (ad 2 0), .ref (ad 3 0), .ref (ad 11 (1 - tp)), .ref (ad 11 tp), .ref (ad 13 0)].set 5 (.int (v 5 + 1)))) = ct4 at hw
      have fa31 : ct4 0 0 = .inr (9, [.int (nI nw), .int (nI nb), .int (nI nc), .int (nI nm), .int (v 4), .int (v 5 + 1), .ref (ad 1 0), .ref (ad 2 0), .ref (ad 3 0), .ref (ad 11 (1 - tp)), .ref (ad 11 tp), .ref (ad 13 0)]) := by rw [← hct4, upd2_at]; try rfl
      have fa32 : ct4 1 0 = .inl (ca 3, 50, aQ fB) := by rw [← hct4, upd2_k _ _ _ _ (by decide)]; exact fa22
      have fa33 : ct4 2 0 = .inl (ca 4, 60, aQ fC) := by rw [← hct4, upd2_k _ _ _ _ (by decide)]; exact fa23
      have fa34 : ct4 3 0 = .inl (ca 5, 13, aQ fN) := by rw [← hct4, upd2_k _ _ _ _ (by decide)]; exact fa24
      have fa35 : ct4 11 tp = .inr (8, [.ref (ad 12 tp), .int (nI sz)]) := by rw [← hct4, upd2_k _ _ _ _ (by decide)]; exact fa25
      have fa36 : ct4 11 (1 - tp) = .inr (8, [.ref (ad 12 (1 - tp)), .int 0]) := by rw [← hct4, upd2_k _ _ _ _ (by decide)]; exact fa26
      have fa37 : ct4 12 tp = .inl (ca 0, 100, .inl b0) := by rw [← hct4, upd2_k _ _ _ _ (by decide)]; exact fa27
      have fa38 : ct4 12 (1 - tp) = .inl (ca 0, 100, .inl b1) := by rw [← hct4, upd2_k _ _ _ _ (by decide)]; exact fa28
      have fa39 : ct4 13 0 = .inr (7, [.ref (ad 14 0), .ref (ad 11 tp), .int x9, .int f9q]) := by rw [← hct4, upd2_k _ _ _ _ (by decide)]; exact fa29
      have fa40 : ct4 14 0 = .inl (ca 1, 5, .inl vs) := by rw [← hct4, upd2_k _ _ _ _ (by decide)]; exact fa30
      refine lv_iconst (v := 1) hx hb dX9_rule_53 (by decide) ?_
      subst hQ
      exact x_zretW E hr hlk (by decide) hw (by decide) (by decide) (addO (rfl) (by dsimp only; exact Or.inr ⟨a9, L9, hR9, rfl, fun g' hg hcd => ⟨⟨by simp [upd]; exact hO.1, by simp [upd]; exact hO.2.1, by simp [upd]; exact hO.2.2.1, by simp [upd]; exact hO.2.2.2.1, hO5⟩, mIv_g (fun i => hg 9 i (by decide) (by decide)) (fun i => hg 18 i (by decide) (by decide)) (fun i => hg 19 i (by decide) (by decide)) (fun i => hg 20 i (by decide) (by decide)) (fun i => hg 21 i (by decide) (by decide)) hIv, 1 - tp, by omega, cX_rule htp hX fa31 (by simp [upd]) (by simp [upd]), (by rw [← hct4, ← hct3]; refine cT_up (by decide) ?_; exact (cT_rule (g := g) (v := v) (sz := sz) (b0 := b0) (a := a9) (L := L9) htp (by rw [← hct2, ← hct1]; exact cT_up (by decide) (cT_up (by decide) (cT_rd htp htp hT))) hsz hsz2 (by rw [← hct2, upd2_k _ _ _ _ (by decide), ← hct1, upd2_k _ _ _ _ (by decide)]; exact (upd2_k _ _ _ _ (by decide)).trans z3) (by rw [hbc9]; exact hR9) (fun i => hg 24 i (by decide) (by decide)) hcd h5 (by simp [upd]) (by simp [upd]) (by rw [← hct2, upd2_k _ _ _ _ (by decide), ← hct1, upd2_k _ _ _ _ (by decide)]; exact (upd2_k _ _ _ _ (by decide)).trans z1))), by rw [← hct4, ← hct3, ← hct2, ← hct1]; exact cB_up (by decide) (cB_up (by decide) (cB_up (by decide) (cB_up (by decide) (cB_up (by decide) (cB_g (fun i => hg 6 i (by decide) (by decide)) (fun i => hg 7 i (by decide) (by decide)) hB))))), by rw [← hct4, ← hct3, ← hct2, ← hct1]; exact cC_up (by decide) (cC_up (by decide) (cC_up (by decide) (cC_up (by decide) (cC_up (by decide) (cC_g (fun k hk i => hg k i (by omega) (by omega)) hCc))))), by rw [← hct4, ← hct3, ← hct2, ← hct1]; exact cN_up (by decide) (cN_up (by decide) (cN_up (by decide) (cN_up (by decide) (cN_up (by decide) (cN_g (fun i => hg 22 i (by decide) (by decide)) (fun i => hg 23 i (by decide) (by decide)) hN)))))⟩⟩)) dX9_rule_54
    · skip
      exact absurd c_12 (by decide)
set_option maxHeartbeats 4000000 in
set_option maxRecDepth 100000 in
theorem kX8_add (l : Launch) (D : va_G) (ca : Nat → ClassId) (cnt : Nat → Nat) (ad : Nat → Nat → Nat) (ct : Nat → Nat → va_E) (z9 : Nat) (i9 : Nat) (n1 : Nat) (b1 : Nat → Int32) (a1 : Int32) (hki : i9 < cnt 11) (hkc : ct 11 i9 = .inr (8, [.ref (ad 12 i9), .int (nI n1)])) (hbi : i9 < cnt 12) (hbc : ct 12 i9 = .inl (ca 0, 100, .inl b1)) (hrm : ¬ a1 = 0 → n1 < 100) : Met l yX8_add (wz yX8_add cX8_add 2 none) (rmL 1 0 0) (va_Pc [.ref (ad 11 i9), .int a1] (fun U => (U.heap.size = z9 ∧ wq D cnt ad ct U.heap) ∧ gK D ca U)) (QcW D (wA cnt ad z9) (fun rv u => rv = none ∧ u = (cnt, ad, adC ca ad ct i9 n1 b1 a1))) 0 0 (wA cnt ad z9) := by
  refine x_met (by decide) (Nat.le_of_ble_eq_true rfl) ?_
  intro p e s m below meth c E hr hlk hnm hq ls hl
  obtain ⟨hsz9, hq⟩ := hq
  subst hsz9
  generalize hav : ([.ref (ad 11 i9), .int a1] : List Value).toArray = args at E ⊢
  have hx := E.1
  have hb := E.2.1
  have hown := E.2.2.2.1
  have hts := E.2.2.2.2.1
  have hw : wd D (wA cnt ad s.heap.size) s.heap cnt ad ct s.heap [] := wd.start hq
  generalize hQ : MQ below (QcW D (wA cnt ad s.heap.size) (fun rv u => rv = none ∧ u = (cnt, ad, adC ca ad ct i9 n1 b1 a1))) args s 0 0 (wA cnt ad s.heap.size) = Q
  generalize hA9 : wA cnt ad s.heap.size = A at hw hQ
  have hl : lv_has ls 2 [(0, .ref (ad 11 i9)), (1, .int a1)] := hl
  suffices hgo : ∀ (H : Heap) (locs : List Loc), wd D A s.heap cnt ad ct H locs → W p l e (rmL 1 0 0) s m args below meth c H locs 0 0 Q (F0 m 0 ls []) from hgo _ _ hw
  clear hw
  intro H locs hw
  refine lv_iload_n hx hb dX8_add_0 rfl (lv_at hl 1 rfl) ?_
  refine lv_if_eq (tgt := 37) hx hb dX8_add_1 (by decide) (fun c_1 => ?_) (fun c_1 => ?_)
  · skip
    subst hQ
    exact x_vretW E hr hlk hw (by decide) (by decide) (⟨rfl, by rw [adC, if_pos c_1]⟩) dX8_add_37
  · skip
    refine lv_aload_n hx hb dX8_add_4 rfl (lv_at hl 0 rfl) ?_
    refine x_get E hw 11 i9 (hki) hkc cl_8 ly_8 1 (by decide) tw_35 rfl dX8_add_5 ?_
    refine lv_aload_n hx hb dX8_add_8 rfl (lv_at hl 0 rfl) ?_
    refine x_get E hw 11 i9 (hki) hkc cl_8 ly_8 0 (by decide) tw_34 rfl dX8_add_9 ?_
    refine x_len E hw 0 rfl 12 i9 (hbi) hbc dX8_add_12 ?_
    refine lv_icmp_ge (tgt := 37) hx hb dX8_add_13 (by decide) (fun c_13 => ?_) (fun c_13 => ?_)
    · skip
      exact absurd ((nI_leI (a := 100) (b := n1) (by omega) (by have := hrm c_1; omega)).mp c_13) (by have := hrm c_1; omega)
    · skip
      refine lv_aload_n hx hb dX8_add_16 rfl (lv_at hl 0 rfl) ?_
      refine x_get E hw 11 i9 (hki) hkc cl_8 ly_8 0 (by decide) tw_34 rfl dX8_add_17 ?_
      refine lv_aload_n hx hb dX8_add_20 rfl (lv_at hl 0 rfl) ?_
      refine x_get E hw 11 i9 (hki) hkc cl_8 ly_8 1 (by decide) tw_35 rfl dX8_add_21 ?_
      refine lv_iload_n hx hb dX8_add_24 rfl (lv_at hl 1 rfl) ?_
      refine lv_i2b (v := a1.toInt8.toInt32) hx hb dX8_add_25 (rfl) ?_
      refine x_bst E hw 12 i9 (hbi) hbc n1 (rfl) (hrm c_1) (by decide) dX8_add_26 (fun H locs hw => ?_)
      generalize hct1 : upd2 ct 12 i9 (.inl (ca 0, 100, .inl (upd b1 n1 a1.toInt8.toInt32.toInt8.toInt32))) = ct1 at hw
      have fa1 : ct1 11 i9 = .inr (8, [.ref (ad 12 i9), .int (nI n1)]) := by rw [← hct1, upd2_k _ _ _ _ (by decide)]; exact hkc
      have fa2 : ct1 12 i9 = .inl (ca 0, 100, .inl (upd b1 n1 a1.toInt8.toInt32.toInt8.toInt32)) := by rw [← hct1, upd2_at]; try rfl
      refine lv_aload_n hx hb dX8_add_27 rfl (lv_at hl 0 rfl) ?_
      refine lv_dup hx hb dX8_add_28 rfl ?_
      refine x_get E hw 11 i9 (hki) fa1 cl_8 ly_8 1 (by decide) tw_35 rfl dX8_add_29 ?_
      refine lv_iconst (v := 1) hx hb dX8_add_32 (by decide) ?_
      refine lv_iadd hx hb dX8_add_33 ?_
      refine x_top (x := (nI n1 + 1)) (y := (nI (n1 + 1))) (nI_1 _) ?_
      refine x_put E hw 11 i9 (hki) fa1 cl_8 ly_8 tyX8 tyX8_ok nmX8 1 (by decide) tw_35 (Or.inl rfl) (by rfl) (by rfl) (Nat.le_of_ble_eq_true rfl) dX8_add_34 (fun H locs hw => ?_)
      generalize hct2 : upd2 ct1 11 i9 (.inr (8, [.ref (ad 12 i9), .int (nI n1)].set 1 (.int (nI (n1 + 1))))) = ct2 at hw
      have fa3 : ct2 11 i9 = .inr (8, [.ref (ad 12 i9), .int (nI (n1 + 1))]) := by rw [← hct2, upd2_at]; try rfl
      have fa4 : ct2 12 i9 = .inl (ca 0, 100, .inl (upd b1 n1 a1.toInt8.toInt32.toInt8.toInt32)) := by rw [← hct2, upd2_k _ _ _ _ (by decide)]; exact fa2
      subst hQ
      exact x_vretW E hr hlk hw (by decide) (by decide) (⟨rfl, by rw [adC, if_neg c_1, ← hct2, ← hct1]; rfl⟩) dX8_add_37
set_option maxHeartbeats 4000000 in
set_option maxRecDepth 100000 in
theorem kX9_feed (l : Launch) (D : va_G) (ca : Nat → ClassId) (cnt : Nat → Nat) (ad : Nat → Nat → Nat) (ct : Nat → Nat → va_E) (z9 : Nat) (v : Nat → Int32) (g : Nat → Nat → Int32) (nw : Nat) (nb : Nat) (nc : Nat) (nm : Nat) (tn : Nat) (a1 : Int32) (hC : cRep ca cnt ad ct v g nw nb nc nm) (htn : tn ≤ 100) (h27 : v 27 = nI tn) : Met l yX9_feed (wz yX9_feed cX9_feed 4 (some .int)) (rmL 2 0 0) (va_Pc [.ref (ad 0 0), .int a1] (fun U => (U.heap.size = z9 ∧ wq D cnt ad ct U.heap) ∧ gK D ca U)) (QcW D (wA cnt ad z9) (fun rv u => rv = some (.int (mFeedW v g tn a1).1) ∧ cRepE ca u.1 u.2.1 u.2.2 (mFeedW v g tn a1).2.1 (mFeedW v g tn a1).2.2 ∧ u.2.1 0 0 = ad 0 0)) 0 0 (wA cnt ad z9) := by
  refine x_met (by decide) (Nat.le_of_ble_eq_true rfl) ?_
  intro p e s m below meth c E hr hlk hnm hq ls hl
  obtain ⟨hsz9, hq⟩ := hq
  subst hsz9
  generalize hav : ([.ref (ad 0 0), .int a1] : List Value).toArray = args at E ⊢
  have hx := E.1
  have hb := E.2.1
  have hown := E.2.2.2.1
  have hts := E.2.2.2.2.1
  have hw : wd D (wA cnt ad s.heap.size) s.heap cnt ad ct s.heap [] := wd.start hq
  generalize hQ : MQ below (QcW D (wA cnt ad s.heap.size) (fun rv u => rv = some (.int (mFeedW v g tn a1).1) ∧ cRepE ca u.1 u.2.1 u.2.2 (mFeedW v g tn a1).2.1 (mFeedW v g tn a1).2.2 ∧ u.2.1 0 0 = ad 0 0)) args s 0 0 (wA cnt ad s.heap.size) = Q
  generalize hA9 : wA cnt ad s.heap.size = A at hw hQ
  have hl : lv_has ls 4 [(0, .ref (ad 0 0)), (1, .int a1)] := hl
  obtain ⟨hO, hIv, tp, htp, hX, hT, hB, hCc, hN⟩ := id hC
  obtain ⟨hx0, hx1, hx2, hx3, fz0⟩ := id hX
  have hO5 := hO.2.2.2.2
  obtain ⟨hb4, hb5, fB, fz1, hBd⟩ := id hB
  obtain ⟨hc6, hc7, fC, dt, ow, ix, ak, fz2, hCd⟩ := id hCc
  obtain ⟨hn9, fN, lk, fz3, hNd⟩ := id hN
  obtain ⟨ht13, ht14, ht11, ht12, szq, nq, nrq, rtq, bq0, bq1, vsq, pq1, pq2, hsz, hsz2, hnq, hnr, hrt, fz11, fz11b, fz12, fz12b, fz13, fz14, hby, hrl⟩ := id hT
  obtain ⟨h13, h14, ht11, ht12, sz, n2, nr, rt, b0, b1, vs, p1, p2, hsz, hsz2, hn2, hnr, hrt, z1, z2, z3, z4, z5, z6, a6, a7⟩ := id hT
  have hst : sz = tn := (nI_eq (by omega) (by omega)).mp (hsz.symm.trans h27)
  subst hst
  have hR : rdOK ca cnt ad ct tp sz b0 vs := ⟨h13, by omega, z1, by omega, z3, hsz2, h14, z6⟩
  have hbc9 : bC b0 sz = tC (g 24) sz := tC_cg a6
  have hfs := mFs_le a1 4
  suffices hgo : ∀ (H : Heap) (locs : List Loc), wd D A s.heap cnt ad ct H locs → W p l e (rmL 2 0 0) s m args below meth c H locs 0 0 Q (F0 m 0 ls []) from hgo _ _ hw
  clear hw
  intro H locs hw
  refine lv_iconst (v := 0) hx hb dX9_feed_0 (by decide) ?_
  refine lv_istore_n (lv' := [(2, .int 0), (0, .ref (ad 0 0)), (1, .int a1)]) hx hb dX9_feed_1 rfl hl (by decide) rfl (fun ls hl => ?_)
  refine lv_bipush (v := 24) hx hb dX9_feed_2 (by decide) ?_
  refine lv_istore_n (lv' := [(3, .int 24), (2, .int 0), (0, .ref (ad 0 0)), (1, .int a1)]) hx hb dX9_feed_4 rfl hl (by decide) rfl (fun ls hl => ?_)
  have lp5 : ∀ (n : Nat) (z : Nat) (x2 : Int32) (x3 : Int32), (z ≤ 4) → (x2 = nI (mFs a1 z)) → (x3 = sh8 z) → (4 - z < n) → ∀ (H : Heap) (locs : List Loc), wd D A s.heap cnt ad ct H locs → ∀ ls : Array Slot, lv_has ls 4 [(0, .ref (ad 0 0)), (1, .int a1), (2, .int x2), (3, .int x3)] → W p l e (rmL 2 0 0) s m args below meth c H locs 0 0 Q (F0 m 5 ls []) := by
    intro n
    induction n with
    | zero =>
      intro z x2 x3 hz h2 h3 hfu H locs hw ls hl
      exact absurd hfu (by omega)
    | succ n ih5 =>
      intro z x2 x3 hz h2 h3 hfu H locs hw ls hl
      refine lv_iload_n hx hb dX9_feed_5 rfl (lv_at hl 3 rfl) ?_
      refine lv_if_lt (tgt := 28) hx hb dX9_feed_6 (by decide) (fun c_6 => ?_) (fun c_6 => ?_)
      · skip
        have hz4 : z = 4 := (sh8_4 hz).mp (by rw [← h3]; exact c_6)
        refine lv_aload_n hx hb dX9_feed_28 rfl (lv_at hl 0 rfl) ?_
        refine x_get E hw 0 0 (hx0) fz0 cl_9 ly_9 9 (by decide) tw_89 rfl dX9_feed_29 ?_
        refine x_get E hw 11 tp (by omega) z1 cl_8 ly_8 1 (by decide) tw_37 rfl dX9_feed_32 ?_
        refine lv_iload_n hx hb dX9_feed_35 rfl (lv_at hl 2 rfl) ?_
        refine lv_iadd hx hb dX9_feed_36 ?_
        refine x_top (x := (nI sz + x2)) (y := (nI (sz + mFs a1 4))) (by rw [h2, hz4, nI_add]) ?_
        refine lv_bipush (v := 100) hx hb dX9_feed_37 (by decide) ?_
        refine lv_icmp_le (tgt := 44) hx hb dX9_feed_39 (by decide) (fun c_39 => ?_) (fun c_39 => ?_)
        · skip
          have hle9 : sz + mFs a1 4 ≤ 100 := (nI_leI (a := sz + mFs a1 4) (b := 100) (by omega) (by decide)).mp c_39
          refine lv_bipush (v := 24) hx hb dX9_feed_44 (by decide) ?_
          refine lv_istore_n (lv' := [(3, .int 24), (0, .ref (ad 0 0)), (1, .int a1), (2, .int x2)]) hx hb dX9_feed_46 rfl hl (by decide) rfl (fun ls hl => ?_)
          have lp47 : ∀ (n : Nat) (z : Nat) (x3 : Int32), (z ≤ 4) → (x3 = sh8 z) → (4 - z < n) → ∀ (H : Heap) (locs : List Loc), wd D A s.heap cnt ad (fdC ca ad ct tp sz b0 a1 z) H locs → ∀ ls : Array Slot, lv_has ls 4 [(0, .ref (ad 0 0)), (1, .int a1), (3, .int x3)] → W p l e (rmL 2 0 0) s m args below meth c H locs 0 0 Q (F0 m 47 ls []) := by
            intro n
            induction n with
            | zero =>
              intro z x3 hz h3 hfu H locs hw ls hl
              exact absurd hfu (by omega)
            | succ n ih47 =>
              intro z x3 hz h3 hfu H locs hw ls hl
              refine lv_iload_n hx hb dX9_feed_47 rfl (lv_at hl 2 rfl) ?_
              refine lv_if_lt (tgt := 71) hx hb dX9_feed_48 (by decide) (fun c_48 => ?_) (fun c_48 => ?_)
              · skip
                have hz4 : z = 4 := (sh8_4 hz).mp (by rw [← h3]; exact c_48)
                refine lv_aload_n hx hb dX9_feed_71 rfl (lv_at hl 0 rfl) ?_
                refine x_get E hw 0 0 (hx0) ((upd2_k _ _ _ _ (by decide)).trans ((upd2_k _ _ _ _ (by decide)).trans fz0)) cl_9 ly_9 9 (by decide) tw_89 rfl dX9_feed_72 ?_
                refine x_get E hw 11 tp (by omega) (upd2_at _ _ _ _) cl_8 ly_8 1 (by decide) tw_37 rfl dX9_feed_75 ?_
                subst hQ
                exact x_iretW E hr hlk hw (by decide) (by decide) (addA (rfl) (by subst hz4; have hle8 := hle9; rw [mFs_Fc] at hle8; exact cw_post (v' := upd v 27 (nI (sz + mFs a1 4))) (g' := mFg g sz a1 4) (by simp [mFeedW, hle8]) ⟨nw, nb, nc, nm, ⟨by simp [upd]; exact hO.1, by simp [upd]; exact hO.2.1, by simp [upd]; exact hO.2.2.1, by simp [upd]; exact hO.2.2.2.1, hO5⟩, mIv_g (mFg_o (by decide) 4) (mFg_o (by decide) 4) (mFg_o (by decide) 4) (mFg_o (by decide) 4) (mFg_o (by decide) 4) hIv, tp, htp, cX_v (v := v) (by simp [upd]) (by simp [upd]) (cX_up (by decide) (cX_up (by decide) hX)), cT_feed htp hT (by simp [upd]) (upd_at _ _ _) hle9 (fB8_eq a6 4) (mFg_o (by decide) 4), cB_up (by decide) (cB_up (by decide) (cB_g (mFg_o (by decide) 4) (mFg_o (by decide) 4) hB)), cC_up (by decide) (cC_up (by decide) (cC_g (fun k hk i => mFg_o (by omega) 4 i) hCc)), cN_up (by decide) (cN_up (by decide) (cN_g (mFg_o (by decide) 4) (mFg_o (by decide) 4) hN))⟩)) dX9_feed_78
              · skip
                have hz4 : z < 4 := by have q9 := mt (sh8_4 hz).mpr (by rw [← h3]; exact c_48); omega
                refine lv_aload_n hx hb dX9_feed_51 rfl (lv_at hl 0 rfl) ?_
                refine x_get E hw 0 0 (hx0) ((upd2_k _ _ _ _ (by decide)).trans ((upd2_k _ _ _ _ (by decide)).trans fz0)) cl_9 ly_9 9 (by decide) tw_89 rfl dX9_feed_52 ?_
                refine lv_iload_n hx hb dX9_feed_55 rfl (lv_at hl 1 rfl) ?_
                refine lv_iload_n hx hb dX9_feed_56 rfl (lv_at hl 2 rfl) ?_
                refine lv_iushr (v := uB a1 z) hx hb dX9_feed_57 (by rw [h3]; rfl) ?_
                refine lv_sipush (v := 255) hx hb dX9_feed_58 (by decide) ?_
                refine lv_iand hx hb dX9_feed_61 ?_
                refine x_top (x := (uB a1 z &&& 255)) (y := (mByte a1 (3 - z))) (uB_eq a1 hz4) ?_
                refine x_wrote hw (x_runV (rest := []) E cbX8_add tw_392 (kX8_add l D ca cnt ad (fdC ca ad ct tp sz b0 a1 z) H.size  tp _ _ (mByte a1 (3 - z)) (by omega) ((upd2_at _ _ _ _)) (by omega) (((upd2_k _ _ _ _ (by decide)).trans (upd2_at _ _ _ _))) (fun q9 => by have h8 := mFs_mono a1 (t := z + 1) hz4; have h7 : mFs a1 (z + 1) = mFs a1 z + 1 := (by simp [mFs, q9]); omega)) ⟨rfl, rfl, by decide, by decide⟩ (x_recv E hw cl_8 (by omega) (upd2_at _ _ _ _)) (fun _ _ _ _ h => h) (fun U hU _ => by rw [hU]; exact ⟨rfl, hw.1⟩) rfl hl.1 rfl (Nat.le_of_ble_eq_true rfl) dX9_feed_62 ⟨by decide, by decide⟩) (fun rv9 u9 H locs hp9 hw hz9 hk9 => ?_)
                obtain ⟨hrv9, hu9⟩ := hp9
                subst hrv9
                subst hu9
                dsimp only [Option.toList, List.nil_append] at hw ⊢
                rw [fd_step] at hw
                refine lv_iinc (v := (sh8 (z + 1))) (lv' := [(3, .int (sh8 (z + 1))), (0, .ref (ad 0 0)), (1, .int a1)]) hx hb dX9_feed_65 hl (k := 2) rfl (by rw [h3]; exact sh8_s hz4) (by decide) rfl (fun ls hl => ?_)
                refine lv_goto (tgt := 47) hx hb dX9_feed_68 (by decide) ?_
                exact ih47 (z + 1) (sh8 (z + 1)) (hz4) (rfl) (by omega) _ _ (hw) ls (lv_sub hl [1, 2, 0] (rfl))
          exact lp47 5 0 24 (by omega) (rfl) (by omega) _ _ (by rw [show fdC ca ad ct tp sz b0 a1 0 = ct by unfold fdC; rw [show fB8 b0 sz a1 0 = b0 from rfl, show sz + mFs a1 0 = sz from rfl, upd2_same z3, upd2_same z1]]; exact hw) ls (lv_sub hl [1, 2, 0] (rfl))
        · skip
          have hle9 : ¬ sz + mFs a1 4 ≤ 100 := mt (nI_leI (a := sz + mFs a1 4) (b := 100) (by omega) (by decide)).mpr c_39
          refine lv_iconst (v := (-1)) hx hb dX9_feed_42 (by decide) ?_
          subst hQ
          exact x_iretW E hr hlk hw (by decide) (by decide) (addA (rfl) (cw_post (by rw [mFs_Fc] at hle9; simp [mFeedW, hle9]) ⟨nw, nb, nc, nm, hC⟩)) dX9_feed_43
      · skip
        have hz4 : z < 4 := by have q9 := mt (sh8_4 hz).mpr (by rw [← h3]; exact c_6); omega
        refine lv_iload_n hx hb dX9_feed_9 rfl (lv_at hl 1 rfl) ?_
        refine lv_iload_n hx hb dX9_feed_10 rfl (lv_at hl 3 rfl) ?_
        refine lv_iushr (v := uB a1 z) hx hb dX9_feed_11 (by rw [h3]; rfl) ?_
        refine lv_sipush (v := 255) hx hb dX9_feed_12 (by decide) ?_
        refine lv_iand hx hb dX9_feed_15 ?_
        refine x_top (x := (uB a1 z &&& 255)) (y := (mByte a1 (3 - z))) (uB_eq a1 hz4) ?_
        refine lv_if_eq (tgt := 22) hx hb dX9_feed_16 (by decide) (fun c_16 => ?_) (fun c_16 => ?_)
        · skip
          refine lv_iinc (v := (sh8 (z + 1))) (lv' := [(3, .int (sh8 (z + 1))), (0, .ref (ad 0 0)), (1, .int a1), (2, .int x2)]) hx hb dX9_feed_22 hl (k := 3) rfl (by rw [h3]; exact sh8_s hz4) (by decide) rfl (fun ls hl => ?_)
          refine lv_goto (tgt := 5) hx hb dX9_feed_25 (by decide) ?_
          exact ih5 (z + 1) x2 (sh8 (z + 1)) (hz4) (by rw [h2]; simp [mFs, nI_1, c_6, c_16]) (rfl) (by omega) _ _ (hw) ls (lv_sub hl [1, 2, 3, 0] (rfl))
        · skip
          refine lv_iinc (v := (x2 + 1)) (lv' := [(2, .int (x2 + 1)), (0, .ref (ad 0 0)), (1, .int a1), (3, .int x3)]) hx hb dX9_feed_19 hl (k := 2) rfl (rfl) (by decide) rfl (fun ls hl => ?_)
          refine lv_iinc (v := (sh8 (z + 1))) (lv' := [(3, .int (sh8 (z + 1))), (2, .int (x2 + 1)), (0, .ref (ad 0 0)), (1, .int a1)]) hx hb dX9_feed_22 hl (k := 3) rfl (by rw [h3]; exact sh8_s hz4) (by decide) rfl (fun ls hl => ?_)
          refine lv_goto (tgt := 5) hx hb dX9_feed_25 (by decide) ?_
          exact ih5 (z + 1) (x2 + 1) (sh8 (z + 1)) (hz4) (by rw [h2]; simp [mFs, nI_1, c_6, c_16]) (rfl) (by omega) _ _ (hw) ls (lv_sub hl [2, 3, 1, 0] (rfl))
  exact lp5 5 0 0 24 (by omega) (rfl) (rfl) (by omega) _ _ (hw) ls (lv_sub hl [2, 3, 1, 0] (rfl))
