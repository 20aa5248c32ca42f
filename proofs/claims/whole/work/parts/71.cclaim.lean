set_option maxHeartbeats 4000000 in
set_option maxRecDepth 100000 in
theorem kX9_setValues (l : Launch) (D : va_G) (ca : Nat → ClassId) (cnt : Nat → Nat) (ad : Nat → Nat → Nat) (ct : Nat → Nat → va_E) (z9 : Nat) (v : Nat → Int32) (g : Nat → Nat → Int32) (nw : Nat) (nb : Nat) (nc : Nat) (nm : Nat) (tp : Nat) (o1 : Nat) (h1 : Nat) (c1 : Nat) (k3 : Nat) (a1 : Int32) (a2 : Int32) (a3 : Int32) (a4 : Int32) (a5 : Int32) (a6 : Int32) (vs9 : Nat → Int32) (t9 : Nat) (x9 : Int32) (y9 : Int32) (hC : cRep ca cnt ad ct v g nw nb nc nm) (htp : tp < 2) (hX : cX cnt ad ct v nw nb nc nm tp) (h13 : 0 < cnt 13) (h14 : 0 < cnt 14) (hoi : o1 < cnt 16) (hoc : ct 16 o1 = .inr (2, [.ref (ad 15 h1), .int a3, .int a4, .int a5, .int a6])) (hhi : h1 < cnt 15) (hhc2 : ct 15 h1 = .inr (3, [.int a1, .int a2])) (hj : c1 < nc) (hSM : ¬ g 10 c1 = -1 ∧ ¬ g 11 c1 = -1) : Met l yX9_setValues (wz yX9_setValues cX9_setValues 4 none) (rmL 4 0 0) (va_Pc [.ref (ad 0 0), .ref (ad 6 c1), .ref (ad 16 o1), .int (nI k3)] (fun U => (U.heap.size = z9 ∧ wq D cnt ad (rq ad (vsC ca ct vs9) t9 x9 y9) U.heap) ∧ gK D ca U)) (QcW D (wA cnt ad z9) (fun rv u => rv = none ∧ ∃ vs8, (∀ k, k < 5 → vs8 k = mVs g nw k3 c1 a1 a2 a3 a4 a5 a6 k) ∧ u = (cnt, ad, rq ad (vsC ca ct vs8) t9 x9 y9))) 0 0 (wA cnt ad z9) := by
  refine x_met (by decide) (Nat.le_of_ble_eq_true rfl) ?_
  intro p e s m below meth c E hr hlk hnm hq ls hl
  obtain ⟨hsz9, hq⟩ := hq
  subst hsz9
  generalize hav : ([.ref (ad 0 0), .ref (ad 6 c1), .ref (ad 16 o1), .int (nI k3)] : List Value).toArray = args at E ⊢
  have hx := E.1
  have hb := E.2.1
  have hown := E.2.2.2.1
  have hts := E.2.2.2.2.1
  have hw : wd D (wA cnt ad s.heap.size) s.heap cnt ad (rq ad (vsC ca ct vs9) t9 x9 y9) s.heap [] := wd.start hq
  generalize hQ : MQ below (QcW D (wA cnt ad s.heap.size) (fun rv u => rv = none ∧ ∃ vs8, (∀ k, k < 5 → vs8 k = mVs g nw k3 c1 a1 a2 a3 a4 a5 a6 k) ∧ u = (cnt, ad, rq ad (vsC ca ct vs8) t9 x9 y9))) args s 0 0 (wA cnt ad s.heap.size) = Q
  generalize hA9 : wA cnt ad s.heap.size = A at hw hQ
  have hl : lv_has ls 4 [(0, .ref (ad 0 0)), (1, .ref (ad 6 c1)), (2, .ref (ad 16 o1)), (3, .int (nI k3))] := hl
  obtain ⟨hO, hIv, tpq, htpq, hXq, hT, hB, hCc, hN⟩ := id hC
  obtain ⟨hx0, hx1, hx2, hx3, fz0⟩ := id hX
  have hO5 := hO.2.2.2.2
  obtain ⟨hc6, hc7, fC, dt, ow, ix, ak, fz2, hCd⟩ := id hCc
  obtain ⟨hfc, hcc, hhc, hchn, hmc, hak, how, hnd⟩ := hCd c1 hj
  suffices hgo : ∀ (H : Heap) (locs : List Loc), wd D A s.heap cnt ad (rq ad (vsC ca ct vs9) t9 x9 y9) H locs → W p l e (rmL 4 0 0) s m args below meth c H locs 0 0 Q (F0 m 0 ls []) from hgo _ _ hw
  clear hw
  intro H locs hw
  refine lv_aload_n hx hb dX9_setValues_0 rfl (lv_at hl 0 rfl) ?_
  refine x_get E hw 0 0 (hx0) ((upd2_k _ _ _ _ (by decide)).trans ((upd2_k _ _ _ _ (by decide)).trans fz0)) cl_9 ly_9 11 (by decide) tw_91 rfl dX9_setValues_1 ?_
  refine x_get E hw 13 0 (h13) (upd2_at _ _ _ _) cl_7 ly_7 0 (by decide) tw_53 rfl dX9_setValues_4 ?_
  refine lv_iconst (v := 0) hx hb dX9_setValues_7 (by decide) ?_
  refine lv_aload_n hx hb dX9_setValues_8 rfl (lv_at hl 1 rfl) ?_
  refine x_get E hw 6 c1 (by omega) ((upd2_k _ _ _ _ (by decide)).trans ((upd2_k _ _ _ _ (by decide)).trans hcc)) cl_1 ly_1 3 (by decide) tw_235 rfl dX9_setValues_9 ?_
  refine lv_aload_n hx hb dX9_setValues_12 rfl (lv_at hl 2 rfl) ?_
  refine x_get E hw 16 o1 (hoi) ((upd2_k _ _ _ _ (by decide)).trans ((upd2_k _ _ _ _ (by decide)).trans hoc)) cl_2 ly_2 0 (by decide) tw_470 rfl dX9_setValues_13 ?_
  refine x_read (x_runV (rest := [.int 0, .ref (ad 14 0)]) E cbX3_farOff tw_373 (kX3_farOff l D ca cnt ad (rq ad (vsC ca ct vs9) t9 x9 y9)  c1 _ _ h1 _ _  (by omega) (((upd2_k _ _ _ _ (by decide)).trans ((upd2_k _ _ _ _ (by decide)).trans hhc))) (hhi) (((upd2_k _ _ _ _ (by decide)).trans ((upd2_k _ _ _ _ (by decide)).trans hhc2)))) ⟨rfl, rfl, by decide, by decide⟩ (x_recv E hw cl_3 (by omega) ((upd2_k _ _ _ _ (by decide)).trans ((upd2_k _ _ _ _ (by decide)).trans hhc))) (fun _ _ _ _ h => h) (fun U hU _ => by rw [hU]; exact hw.1) rfl hl.1 rfl (Nat.le_of_ble_eq_true rfl) dX9_setValues_16 ⟨by decide, by decide⟩) ?_
  refine x_top (x := (nI (cFar (g 12 c1) (g 13 c1) a1 a2))) (y := (nI (mOff g c1 a1 a2))) (by rw [cFar_eq]) ?_
  refine x_ist E hw 14 0 (h14) ((upd2_k _ _ _ _ (by decide)).trans (upd2_at _ _ _ _)) 0 (rfl) (by decide) (by omega) dX9_setValues_19 (fun H locs hw => ?_)
  rw [rw_st] at hw
  refine lv_aload_n hx hb dX9_setValues_20 rfl (lv_at hl 0 rfl) ?_
  refine x_get E hw 0 0 (hx0) ((upd2_k _ _ _ _ (by decide)).trans ((upd2_k _ _ _ _ (by decide)).trans fz0)) cl_9 ly_9 11 (by decide) tw_91 rfl dX9_setValues_21 ?_
  refine x_get E hw 13 0 (h13) (upd2_at _ _ _ _) cl_7 ly_7 0 (by decide) tw_53 rfl dX9_setValues_24 ?_
  refine lv_iconst (v := 1) hx hb dX9_setValues_27 (by decide) ?_
  refine lv_aload_n hx hb dX9_setValues_28 rfl (lv_at hl 2 rfl) ?_
  refine lv_aload_n hx hb dX9_setValues_29 rfl (lv_at hl 1 rfl) ?_
  refine x_read (x_runV (rest := [.int 1, .ref (ad 14 0)]) E cbX2_agreeing tw_499 (kX2_agreeing l D ca cnt ad (rq ad (vsC ca ct (upd vs9 0 (nI (mOff g c1 a1 a2)))) t9 x9 y9)  o1 h1 _ _ _ _ c1 _ _ _ _ _ _ _ _ (ix c1) dt  (hoi) (((upd2_k _ _ _ _ (by decide)).trans ((upd2_k _ _ _ _ (by decide)).trans hoc))) (by omega) (((upd2_k _ _ _ _ (by decide)).trans ((upd2_k _ _ _ _ (by decide)).trans hcc)))) ⟨rfl, rfl, by decide, by decide⟩ (x_recv E hw cl_2 (hoi) ((upd2_k _ _ _ _ (by decide)).trans ((upd2_k _ _ _ _ (by decide)).trans hoc))) (fun _ _ _ _ h => h) (fun U hU _ => by rw [hU]; exact hw.1) rfl hl.1 rfl (Nat.le_of_ble_eq_true rfl) dX9_setValues_30 ⟨by decide, by decide⟩) ?_
  refine x_top (x := (cAg (g 9 c1) (g 10 c1) (g 11 c1) a3 a4 a5 a6)) (y := (mAgr g c1 a3 a4 a5 a6)) (cAg_eq _ _ _ _ _ _) ?_
  refine x_ist E hw 14 0 (h14) ((upd2_k _ _ _ _ (by decide)).trans (upd2_at _ _ _ _)) 1 (rfl) (by decide) (by omega) dX9_setValues_33 (fun H locs hw => ?_)
  rw [rw_st] at hw
  refine lv_aload_n hx hb dX9_setValues_34 rfl (lv_at hl 0 rfl) ?_
  refine x_get E hw 0 0 (hx0) ((upd2_k _ _ _ _ (by decide)).trans ((upd2_k _ _ _ _ (by decide)).trans fz0)) cl_9 ly_9 11 (by decide) tw_91 rfl dX9_setValues_35 ?_
  refine x_get E hw 13 0 (h13) (upd2_at _ _ _ _) cl_7 ly_7 0 (by decide) tw_53 rfl dX9_setValues_38 ?_
  refine lv_iconst (v := 2) hx hb dX9_setValues_41 (by decide) ?_
  refine lv_aload_n hx hb dX9_setValues_42 rfl (lv_at hl 2 rfl) ?_
  refine lv_aload_n hx hb dX9_setValues_43 rfl (lv_at hl 1 rfl) ?_
  refine x_read (x_runV (rest := [.int 2, .ref (ad 14 0)]) E cbX2_disagreeing tw_490 (kX2_disagreeing l D ca cnt ad (rq ad (vsC ca ct (upd (upd vs9 0 (nI (mOff g c1 a1 a2))) 1 (mAgr g c1 a3 a4 a5 a6))) t9 x9 y9)  o1 h1 _ _ _ _ c1 _ _ _ _ _ _ _ _ (ix c1) dt  (hoi) (((upd2_k _ _ _ _ (by decide)).trans ((upd2_k _ _ _ _ (by decide)).trans hoc))) (by omega) (((upd2_k _ _ _ _ (by decide)).trans ((upd2_k _ _ _ _ (by decide)).trans hcc)))) ⟨rfl, rfl, by decide, by decide⟩ (x_recv E hw cl_2 (hoi) ((upd2_k _ _ _ _ (by decide)).trans ((upd2_k _ _ _ _ (by decide)).trans hoc))) (fun _ _ _ _ h => h) (fun U hU _ => by rw [hU]; exact hw.1) rfl hl.1 rfl (Nat.le_of_ble_eq_true rfl) dX9_setValues_44 ⟨by decide, by decide⟩) ?_
  refine x_top (x := (cDg (g 9 c1) (g 10 c1) (g 11 c1) a3 a4 a5 a6)) (y := (mFct a5 a6 - mAgr g c1 a3 a4 a5 a6)) (cDg_eq hSM _ _ _ _) ?_
  refine x_ist E hw 14 0 (h14) ((upd2_k _ _ _ _ (by decide)).trans (upd2_at _ _ _ _)) 2 (rfl) (by decide) (by omega) dX9_setValues_47 (fun H locs hw => ?_)
  rw [rw_st] at hw
  refine lv_aload_n hx hb dX9_setValues_48 rfl (lv_at hl 0 rfl) ?_
  refine x_get E hw 0 0 (hx0) ((upd2_k _ _ _ _ (by decide)).trans ((upd2_k _ _ _ _ (by decide)).trans fz0)) cl_9 ly_9 11 (by decide) tw_91 rfl dX9_setValues_49 ?_
  refine x_get E hw 13 0 (h13) (upd2_at _ _ _ _) cl_7 ly_7 0 (by decide) tw_53 rfl dX9_setValues_52 ?_
  refine lv_iconst (v := 3) hx hb dX9_setValues_55 (by decide) ?_
  refine lv_iload_n hx hb dX9_setValues_56 rfl (lv_at hl 3 rfl) ?_
  refine x_ist E hw 14 0 (h14) ((upd2_k _ _ _ _ (by decide)).trans (upd2_at _ _ _ _)) 3 (rfl) (by decide) (by omega) dX9_setValues_57 (fun H locs hw => ?_)
  rw [rw_st] at hw
  refine lv_aload_n hx hb dX9_setValues_58 rfl (lv_at hl 0 rfl) ?_
  refine x_get E hw 0 0 (hx0) ((upd2_k _ _ _ _ (by decide)).trans ((upd2_k _ _ _ _ (by decide)).trans fz0)) cl_9 ly_9 11 (by decide) tw_91 rfl dX9_setValues_59 ?_
  refine x_get E hw 13 0 (h13) (upd2_at _ _ _ _) cl_7 ly_7 0 (by decide) tw_53 rfl dX9_setValues_62 ?_
  refine lv_iconst (v := 4) hx hb dX9_setValues_65 (by decide) ?_
  refine lv_aload_n hx hb dX9_setValues_66 rfl (lv_at hl 0 rfl) ?_
  refine x_get E hw 0 0 (hx0) ((upd2_k _ _ _ _ (by decide)).trans ((upd2_k _ _ _ _ (by decide)).trans fz0)) cl_9 ly_9 0 (by decide) tw_80 rfl dX9_setValues_67 ?_
  refine lv_aload_n hx hb dX9_setValues_70 rfl (lv_at hl 1 rfl) ?_
  refine x_get E hw 6 c1 (by omega) ((upd2_k _ _ _ _ (by decide)).trans ((upd2_k _ _ _ _ (by decide)).trans hcc)) cl_1 ly_1 0 (by decide) tw_227 rfl dX9_setValues_71 ?_
  refine lv_isub hx hb dX9_setValues_74 ?_
  refine x_ist E hw 14 0 (h14) ((upd2_k _ _ _ _ (by decide)).trans (upd2_at _ _ _ _)) 4 (rfl) (by decide) (by omega) dX9_setValues_75 (fun H locs hw => ?_)
  rw [rw_st] at hw
  subst hQ
  exact x_vretW E hr hlk hw (by decide) (by decide) (⟨rfl, _, fun k hk => (vs5 _ _ _ _ _ k hk).trans rfl, rfl⟩) dX9_setValues_76
set_option maxHeartbeats 4000000 in
set_option maxRecDepth 100000 in
theorem kX9_childrenFitting (l : Launch) (D : va_G) (ca : Nat → ClassId) (cnt : Nat → Nat) (ad : Nat → Nat → Nat) (ct : Nat → Nat → va_E) (v : Nat → Int32) (g : Nat → Nat → Int32) (nw : Nat) (nb : Nat) (nc : Nat) (nm : Nat) (o1 : Nat) (h1 : Nat) (a3 : Int32) (a4 : Int32) (a5 : Int32) (a6 : Int32) (hC : cRep ca cnt ad ct v g nw nb nc nm) (hoi : o1 < cnt 16) (hoc : ct 16 o1 = .inr (2, [.ref (ad 15 h1), .int a3, .int a4, .int a5, .int a6])) (hSM : ∀ c, c < nc → ¬ g 10 c = -1 ∧ ¬ g 11 c = -1) : Met l yX9_childrenFitting (wz yX9_childrenFitting cX9_childrenFitting 4 (some .int)) (rmL 3 0 0) (va_Pc [.ref (ad 0 0), .ref (ad 16 o1)] (fun U => wq D cnt ad ct U.heap ∧ gK D ca U)) (QcRead (nI (mClr g nw nm a3 a4 a5 a6 nc))) 0 0 (fun _ => False) := by
  refine x_met (by decide) (Nat.le_of_ble_eq_true rfl) ?_
  intro p e s m below meth c E hr hlk hnm hq ls hl
  generalize hav : ([.ref (ad 0 0), .ref (ad 16 o1)] : List Value).toArray = args at E ⊢
  have hx := E.1
  have hb := E.2.1
  have hown := E.2.2.2.1
  have hts := E.2.2.2.2.1
  have hw : wd D (wA cnt ad s.heap.size) s.heap cnt ad ct s.heap [] := wd.start hq
  generalize hQ : MQ below (QcRead (nI (mClr g nw nm a3 a4 a5 a6 nc))) args s 0 0 (fun _ => False) = Q
  have hl : lv_has ls 4 [(0, .ref (ad 0 0)), (1, .ref (ad 16 o1))] := hl
  obtain ⟨hO, hIv, tp, htp, hX, hT, hB, hCc, hN⟩ := id hC
  obtain ⟨hx0, hx1, hx2, hx3, fz0⟩ := id hX
  have hO5 := hO.2.2.2.2
  obtain ⟨hb4, hb5, fB, fz1, hBd⟩ := id hB
  obtain ⟨hc6, hc7, fC, dt, ow, ix, ak, fz2, hCd⟩ := id hCc
  obtain ⟨hn9, fN, lk, fz3, hNd⟩ := id hN
  obtain ⟨ht13, ht14, ht11, ht12, szq, nq, nrq, rtq, bq0, bq1, vsq, pq1, pq2, hsz, hsz2, hnq, hnr, hrt, fz11, fz11b, fz12, fz12b, fz13, fz14, hby, hrl⟩ := id hT
  refine lv_iconst (v := 0) hx hb dX9_childrenFitting_0 (by decide) ?_
  refine lv_istore_n (lv' := [(2, .int 0), (0, .ref (ad 0 0)), (1, .ref (ad 16 o1))]) hx hb dX9_childrenFitting_1 rfl hl (by decide) rfl (fun ls hl => ?_)
  refine lv_iconst (v := 0) hx hb dX9_childrenFitting_2 (by decide) ?_
  refine lv_istore_n (lv' := [(3, .int 0), (2, .int 0), (0, .ref (ad 0 0)), (1, .ref (ad 16 o1))]) hx hb dX9_childrenFitting_3 rfl hl (by decide) rfl (fun ls hl => ?_)
  have lp4 : ∀ (n : Nat) (i : Nat) (x2 : Int32), (i ≤ nc) → (x2 = nI (mClr g nw nm a3 a4 a5 a6 i)) → (nc - i < n) → ∀ ls : Array Slot, lv_has ls 4 [(0, .ref (ad 0 0)), (1, .ref (ad 16 o1)), (2, .int x2), (3, .int (nI i))] → W p l e (rmL 3 0 0) s m args below meth c s.heap [] 0 0 Q (F0 m 4 ls []) := by
    intro n
    induction n with
    | zero =>
      intro i x2 hi h2 hfu ls hl
      exact absurd hfu (by omega)
    | succ n ih4 =>
      intro i x2 hi h2 hfu ls hl
      refine lv_iload_n hx hb dX9_childrenFitting_4 rfl (lv_at hl 3 rfl) ?_
      refine lv_aload_n hx hb dX9_childrenFitting_5 rfl (lv_at hl 0 rfl) ?_
      refine x_get E hw 0 0 (hx0) fz0 cl_9 ly_9 2 (by decide) tw_82 rfl dX9_childrenFitting_6 ?_
      refine lv_icmp_ge (tgt := 51) hx hb dX9_childrenFitting_9 (by decide) (fun c_9 => ?_) (fun c_9 => ?_)
      · skip
        have hge : i = nc := by have q9 := (nI_leI (a := nc) (b := i) (by omega) (by omega)).mp c_9; omega
        refine lv_iload_n hx hb dX9_childrenFitting_51 rfl (lv_at hl 2 rfl) ?_
        subst hQ
        exact x_iret E hr hlk (by rw [h2, hge]) dX9_childrenFitting_52
      · skip
        have hlt : i < nc := by have q9 := mt (nI_leI (a := nc) (b := i) (by omega) (by omega)).mpr c_9; omega
        obtain ⟨hfc, hcc, hhc, hchn, hmc, hak, how, hnd⟩ := hCd i hlt
        refine lv_aload_n hx hb dX9_childrenFitting_12 rfl (lv_at hl 0 rfl) ?_
        refine lv_aload_n hx hb dX9_childrenFitting_13 rfl (lv_at hl 0 rfl) ?_
        refine x_get E hw 0 0 (hx0) fz0 cl_9 ly_9 7 (by decide) tw_87 rfl dX9_childrenFitting_14 ?_
        refine lv_iload_n hx hb dX9_childrenFitting_17 rfl (lv_at hl 3 rfl) ?_
        refine x_ald (v := .ref (ad 6 i)) E hw 4 rfl 2 0 (hx2) fz2 i (rfl) (by omega) (by decide) dX9_childrenFitting_18 (by rw [(hCd i (by omega)).1]; rfl) ?_
        refine lv_aload_n hx hb dX9_childrenFitting_19 rfl (lv_at hl 0 rfl) ?_
        refine x_get E hw 0 0 (hx0) fz0 cl_9 ly_9 0 (by decide) tw_80 rfl dX9_childrenFitting_20 ?_
        refine x_read (x_runV (rest := []) E cbX9_isGone tw_299 (kX9_isGone l D ca cnt ad ct v g nw nb nc nm   i (nI nw) (hC) (hlt)) ⟨rfl, rfl, by decide, by decide⟩ (x_recv E hw cl_9 (hx0) fz0) (fun _ _ _ _ h => h) (fun U hU _ => by rw [hU]; exact hw.1) rfl hl.1 rfl (Nat.le_of_ble_eq_true rfl) dX9_childrenFitting_23 ⟨by decide, by decide⟩) ?_
        refine x_top (x := (bB (cGone g nw nm i (nI nw)))) (y := (bB (!(mOpen g nw nm (nI i))))) (by rw [gone_open hO5.1 hO5.2.2.1 hIv hlt]) ?_
        refine lv_if_ne (tgt := 45) hx hb dX9_childrenFitting_26 (by decide) (fun c_26 => ?_) (fun c_26 => ?_)
        · skip
          have c_26 := bB_n0.mp c_26
          have hc_o : mOpen g nw nm (nI i) = false := by simpa using c_26
          refine lv_iinc (v := (nI (i + 1))) (lv' := [(3, .int (nI (i + 1))), (0, .ref (ad 0 0)), (1, .ref (ad 16 o1)), (2, .int x2)]) hx hb dX9_childrenFitting_45 hl (k := 3) rfl (nI_1 _) (by decide) rfl (fun ls hl => ?_)
          refine lv_goto (tgt := 4) hx hb dX9_childrenFitting_48 (by decide) ?_
          exact ih4 (i + 1) x2 (hlt) (by rw [h2]; simp [mClr, nI_1, c_9, c_26, hc_o]) (by omega) ls (lv_sub hl [1, 2, 3, 0] (rfl))
        · skip
          have c_26 := bB_0.mp c_26
          have hc_o : mOpen g nw nm (nI i) = true := by simpa using c_26
          refine lv_aload_n hx hb dX9_childrenFitting_29 rfl (lv_at hl 1 rfl) ?_
          refine lv_aload_n hx hb dX9_childrenFitting_30 rfl (lv_at hl 0 rfl) ?_
          refine x_get E hw 0 0 (hx0) fz0 cl_9 ly_9 7 (by decide) tw_87 rfl dX9_childrenFitting_31 ?_
          refine lv_iload_n hx hb dX9_childrenFitting_34 rfl (lv_at hl 3 rfl) ?_
          refine x_ald (v := .ref (ad 6 i)) E hw 4 rfl 2 0 (hx2) fz2 i (rfl) (by omega) (by decide) dX9_childrenFitting_35 (by rw [(hCd i (by omega)).1]; rfl) ?_
          refine x_read (x_runV (rest := []) E cbX2_disagreeing tw_490 (kX2_disagreeing l D ca cnt ad ct  o1 h1 _ _ _ _ i _ _ _ _ _ _ _ _ (ix i) dt  (hoi) (hoc) (by omega) (hcc)) ⟨rfl, rfl, by decide, by decide⟩ (x_recv E hw cl_2 (hoi) hoc) (fun _ _ _ _ h => h) (fun U hU _ => by rw [hU]; exact hw.1) rfl hl.1 rfl (Nat.le_of_ble_eq_true rfl) dX9_childrenFitting_36 ⟨by decide, by decide⟩) ?_
          refine lv_if_ne (tgt := 45) hx hb dX9_childrenFitting_39 (by decide) (fun c_39 => ?_) (fun c_39 => ?_)
          · skip
            have hc_d : ¬ mAgr g i a3 a4 a5 a6 = mFct a5 a6 := mt (cDg_0 (hSM i hlt) _ _ _ _).mpr c_39
            refine lv_iinc (v := (nI (i + 1))) (lv' := [(3, .int (nI (i + 1))), (0, .ref (ad 0 0)), (1, .ref (ad 16 o1)), (2, .int x2)]) hx hb dX9_childrenFitting_45 hl (k := 3) rfl (nI_1 _) (by decide) rfl (fun ls hl => ?_)
            refine lv_goto (tgt := 4) hx hb dX9_childrenFitting_48 (by decide) ?_
            exact ih4 (i + 1) x2 (hlt) (by rw [h2]; simp [mClr, nI_1, c_9, c_26, hc_o, c_39, hc_d]) (by omega) ls (lv_sub hl [1, 2, 3, 0] (rfl))
          · skip
            have hc_d : mAgr g i a3 a4 a5 a6 = mFct a5 a6 := (cDg_0 (hSM i hlt) _ _ _ _).mp c_39
            refine lv_iinc (v := (x2 + 1)) (lv' := [(2, .int (x2 + 1)), (0, .ref (ad 0 0)), (1, .ref (ad 16 o1)), (3, .int (nI i))]) hx hb dX9_childrenFitting_42 hl (k := 2) rfl (rfl) (by decide) rfl (fun ls hl => ?_)
            refine lv_iinc (v := (nI (i + 1))) (lv' := [(3, .int (nI (i + 1))), (2, .int (x2 + 1)), (0, .ref (ad 0 0)), (1, .ref (ad 16 o1))]) hx hb dX9_childrenFitting_45 hl (k := 3) rfl (nI_1 _) (by decide) rfl (fun ls hl => ?_)
            refine lv_goto (tgt := 4) hx hb dX9_childrenFitting_48 (by decide) ?_
            exact ih4 (i + 1) (x2 + 1) (hlt) (by rw [h2]; simp [mClr, nI_1, c_9, c_26, hc_o, c_39, hc_d]) (by omega) ls (lv_sub hl [2, 3, 1, 0] (rfl))
  exact lp4 (nc + 1) 0 0 (Nat.zero_le _) (rfl) (by omega) ls (lv_sub hl [2, 3, 1, 0] (rfl))
set_option maxHeartbeats 4000000 in
set_option maxRecDepth 100000 in
theorem kX2_init (l : Launch) (D : va_G) (ca : Nat → ClassId) (cnt : Nat → Nat) (ad : Nat → Nat → Nat) (ct : Nat → Nat → va_E) (z9 : Nat) (i9 : Nat) (h1 : Nat) (a3 : Int32) (a4 : Int32) (a5 : Int32) (a6 : Int32) (hki : i9 < cnt 16) (hkc : ct 16 i9 = .inr (2, [.null, .int 0, .int 0, .int 0, .int 0])) : Met l yX2_init (wz yX2_init cX2_init 6 none) (rmL 2 0 0) (va_Pc [.ref (ad 16 i9), .ref (ad 15 h1), .int a3, .int a4, .int a5, .int a6] (fun U => (U.heap.size = z9 ∧ wq D cnt ad ct U.heap) ∧ gK D ca U)) (QcW D (wA cnt ad z9) (fun rv u => rv = none ∧ u = (cnt, ad, upd2 ct 16 i9 (.inr (2, [.ref (ad 15 h1), .int a3, .int a4, .int a5, .int a6]))))) 0 0 (wA cnt ad z9) := by
  refine x_met (by decide) (Nat.le_of_ble_eq_true rfl) ?_
  intro p e s m below meth c E hr hlk hnm hq ls hl
  obtain ⟨hsz9, hq⟩ := hq
  subst hsz9
  generalize hav : ([.ref (ad 16 i9), .ref (ad 15 h1), .int a3, .int a4, .int a5, .int a6] : List Value).toArray = args at E ⊢
  have hx := E.1
  have hb := E.2.1
  have hown := E.2.2.2.1
  have hts := E.2.2.2.2.1
  have hw : wd D (wA cnt ad s.heap.size) s.heap cnt ad ct s.heap [] := wd.start hq
  generalize hQ : MQ below (QcW D (wA cnt ad s.heap.size) (fun rv u => rv = none ∧ u = (cnt, ad, upd2 ct 16 i9 (.inr (2, [.ref (ad 15 h1), .int a3, .int a4, .int a5, .int a6]))))) args s 0 0 (wA cnt ad s.heap.size) = Q
  generalize hA9 : wA cnt ad s.heap.size = A at hw hQ
  have hl : lv_has ls 6 [(0, .ref (ad 16 i9)), (1, .ref (ad 15 h1)), (2, .int a3), (3, .int a4), (4, .int a5), (5, .int a6)] := hl
  suffices hgo : ∀ (H : Heap) (locs : List Loc), wd D A s.heap cnt ad ct H locs → W p l e (rmL 2 0 0) s m args below meth c H locs 0 0 Q (F0 m 0 ls []) from hgo _ _ hw
  clear hw
  intro H locs hw
  refine lv_aload_n hx hb dX2_init_0 rfl (lv_at hl 0 rfl) ?_
  refine W.objInit hx hb hown (hts _ tw_468) (hts _ tw_20) (hts _ tw_21) rfl (hl.1.trans E.2.2.1.symm) rfl dX2_init_1 (by decide) (Nat.le_of_ble_eq_true rfl) ?_
  refine W.eq (g2 := F0 m 4 ls []) rfl ?_
  refine lv_aload_n hx hb dX2_init_4 rfl (lv_at hl 0 rfl) ?_
  refine lv_aload_n hx hb dX2_init_5 rfl (lv_at hl 1 rfl) ?_
  refine x_put E hw 16 i9 (hki) hkc cl_2 ly_2 tyX2 tyX2_ok nmX2 0 (by decide) tw_469 (Or.inr ⟨rfl, hnm, rfl⟩) (by rfl) (by rfl) (Nat.le_of_ble_eq_true rfl) dX2_init_6 (fun H locs hw => ?_)
  generalize hct1 : upd2 ct 16 i9 (.inr (2, [.null, .int 0, .int 0, .int 0, .int 0].set 0 (.ref (ad 15 h1)))) = ct1 at hw
  have fa1 : ct1 16 i9 = .inr (2, [.ref (ad 15 h1), .int 0, .int 0, .int 0, .int 0]) := by rw [← hct1, upd2_at]; try rfl
  refine lv_aload_n hx hb dX2_init_9 rfl (lv_at hl 0 rfl) ?_
  refine lv_iload_n hx hb dX2_init_10 rfl (lv_at hl 2 rfl) ?_
  refine x_put E hw 16 i9 (hki) fa1 cl_2 ly_2 tyX2 tyX2_ok nmX2 1 (by decide) tw_471 (Or.inr ⟨rfl, hnm, rfl⟩) (by rfl) (by rfl) (Nat.le_of_ble_eq_true rfl) dX2_init_11 (fun H locs hw => ?_)
  generalize hct2 : upd2 ct1 16 i9 (.inr (2, [.ref (ad 15 h1), .int 0, .int 0, .int 0, .int 0].set 1 (.int a3))) = ct2 at hw
  have fa2 : ct2 16 i9 = .inr (2, [.ref (ad 15 h1), .int a3, .int 0, .int 0, .int 0]) := by rw [← hct2, upd2_at]; try rfl
  refine lv_aload_n hx hb dX2_init_14 rfl (lv_at hl 0 rfl) ?_
  refine lv_iload_n hx hb dX2_init_15 rfl (lv_at hl 3 rfl) ?_
  refine x_put E hw 16 i9 (hki) fa2 cl_2 ly_2 tyX2 tyX2_ok nmX2 2 (by decide) tw_472 (Or.inr ⟨rfl, hnm, rfl⟩) (by rfl) (by rfl) (Nat.le_of_ble_eq_true rfl) dX2_init_16 (fun H locs hw => ?_)
  generalize hct3 : upd2 ct2 16 i9 (.inr (2, [.ref (ad 15 h1), .int a3, .int 0, .int 0, .int 0].set 2 (.int a4))) = ct3 at hw
  have fa3 : ct3 16 i9 = .inr (2, [.ref (ad 15 h1), .int a3, .int a4, .int 0, .int 0]) := by rw [← hct3, upd2_at]; try rfl
  refine lv_aload_n hx hb dX2_init_19 rfl (lv_at hl 0 rfl) ?_
  refine lv_iload hx hb dX2_init_20 (lv_at hl 4 rfl) ?_
  refine x_put E hw 16 i9 (hki) fa3 cl_2 ly_2 tyX2 tyX2_ok nmX2 3 (by decide) tw_473 (Or.inr ⟨rfl, hnm, rfl⟩) (by rfl) (by rfl) (Nat.le_of_ble_eq_true rfl) dX2_init_22 (fun H locs hw => ?_)
  generalize hct4 : upd2 ct3 16 i9 (.inr (2, [.ref (ad 15 h1), .int a3, .int a4, .int 0, .int 0].set 3 (.int a5))) = ct4 at hw
  have fa4 : ct4 16 i9 = .inr (2, [.ref (ad 15 h1), .int a3, .int a4, .int a5, .int 0]) := by rw [← hct4, upd2_at]; try rfl
  refine lv_aload_n hx hb dX2_init_25 rfl (lv_at hl 0 rfl) ?_
  refine lv_iload hx hb dX2_init_26 (lv_at hl 5 rfl) ?_
  refine x_put E hw 16 i9 (hki) fa4 cl_2 ly_2 tyX2 tyX2_ok nmX2 4 (by decide) tw_474 (Or.inr ⟨rfl, hnm, rfl⟩) (by rfl) (by rfl) (Nat.le_of_ble_eq_true rfl) dX2_init_28 (fun H locs hw => ?_)
  generalize hct5 : upd2 ct4 16 i9 (.inr (2, [.ref (ad 15 h1), .int a3, .int a4, .int a5, .int 0].set 4 (.int a6))) = ct5 at hw
  have fa5 : ct5 16 i9 = .inr (2, [.ref (ad 15 h1), .int a3, .int a4, .int a5, .int a6]) := by rw [← hct5, upd2_at]; try rfl
  subst hQ
  exact x_vretW E hr hlk hw (by decide) (by decide) (⟨rfl, by rw [← hct5, ← hct4, ← hct3, ← hct2, ← hct1, upd2_2, upd2_2, upd2_2, upd2_2]; rfl⟩) dX2_init_31
set_option maxHeartbeats 4000000 in
set_option maxRecDepth 100000 in
theorem kX9_claim (l : Launch) (D : va_G) (ca : Nat → ClassId) (cnt : Nat → Nat) (ad : Nat → Nat → Nat) (ct : Nat → Nat → va_E) (z9 : Nat) (v : Nat → Int32) (g : Nat → Nat → Int32) (nw : Nat) (nb : Nat) (nc : Nat) (nm : Nat) (a1 : Int32) (a2 : Int32) (a3 : Int32) (a4 : Int32) (a5 : Int32) (a6 : Int32) (hC : cRep ca cnt ad ct v g nw nb nc nm) (hSM : ∀ c, c < nc → ¬ g 10 c = -1 ∧ ¬ g 11 c = -1) : Met l yX9_claim (wz yX9_claim cX9_claim 11 (some .int)) (rmL 36 2 7) (va_Pc [.ref (ad 0 0), .int a1, .int a2, .int a3, .int a4, .int a5, .int a6] (fun U => (U.heap.size = z9 ∧ wq D cnt ad ct U.heap ∧ lets (wA cnt ad z9) U) ∧ gK D ca U)) (QcW D (wA cnt ad z9) (fun rv u => (∃ L, (¬ v 5 = 0 → cdOK g L) ∧ rv = some (.int (mClaim v g nw nc nm L a1 a2 a3 a4 a5 a6))) ∧ cRep ca u.1 u.2.1 u.2.2 v g nw nb nc nm ∧ u.2.1 0 0 = ad 0 0)) 2 7 (wA cnt ad z9) := by
  refine x_met (by decide) (Nat.le_of_ble_eq_true rfl) ?_
  intro p e s m below meth c E hr hlk hnm hq ls hl
  obtain ⟨hsz9, hq, hLt⟩ := hq
  subst hsz9
  generalize hav : ([.ref (ad 0 0), .int a1, .int a2, .int a3, .int a4, .int a5, .int a6] : List Value).toArray = args at E ⊢
  have hx := E.1
  have hb := E.2.1
  have hown := E.2.2.2.1
  have hts := E.2.2.2.2.1
  have hw : wd D (wA cnt ad s.heap.size) s.heap cnt ad ct s.heap [] := wd.start hq
  generalize hQ : MQ below (QcW D (wA cnt ad s.heap.size) (fun rv u => (∃ L, (¬ v 5 = 0 → cdOK g L) ∧ rv = some (.int (mClaim v g nw nc nm L a1 a2 a3 a4 a5 a6))) ∧ cRep ca u.1 u.2.1 u.2.2 v g nw nb nc nm ∧ u.2.1 0 0 = ad 0 0)) args s 2 7 (wA cnt ad s.heap.size) = Q
  generalize hA9 : wA cnt ad s.heap.size = A at hw hQ hLt
  have hl : lv_has ls 11 [(0, .ref (ad 0 0)), (1, .int a1), (2, .int a2), (3, .int a3), (4, .int a4), (5, .int a5), (6, .int a6)] := hl
  obtain ⟨hO, hIv, tp, htp, hX, hT, hB, hCc, hN⟩ := id hC
  obtain ⟨hx0, hx1, hx2, hx3, fz0⟩ := id hX
  have hO5 := hO.2.2.2.2
  obtain ⟨hb4, hb5, fB, fz1, hBd⟩ := id hB
  obtain ⟨hc6, hc7, fC, dt, ow, ix, ak, fz2, hCd⟩ := id hCc
  obtain ⟨hn9, fN, lk, fz3, hNd⟩ := id hN
  obtain ⟨ht13, ht14, ht11, ht12, szq, nq, nrq, rtq, bq0, bq1, vsq, pq1, pq2, hsz, hsz2, hnq, hnr, hrt, fz11, fz11b, fz12, fz12b, fz13, fz14, hby, hrl⟩ := id hT
  obtain ⟨h13, h14, ht11, ht12, sz, n2, nr, rt, b0, b1, vs, p1, p2, hsz, hsz2, hn2, hnr, hrt, z1, z2, z3, z4, z5, z6, hb24, hrl⟩ := id hT
  suffices hgo : ∀ (H : Heap) (locs : List Loc), wd D A s.heap cnt ad ct H locs → W p l e (rmL 36 2 7) s m args below meth c H locs 0 0 Q (F0 m 0 ls []) from hgo _ _ hw
  clear hw
  intro H locs hw
  refine lv_iload_n hx hb dX9_claim_0 rfl (lv_at hl 1 rfl) ?_
  refine lv_iload_n hx hb dX9_claim_1 rfl (lv_at hl 2 rfl) ?_
  refine x_read (x_runS (rest := []) E cbX3_canBe tw_174 (kX3_canBe l D ca a1 a2 ) ⟨rfl, rfl, by decide, by decide⟩ (fun _ _ _ _ h => h) (fun _ _ _ => trivial) rfl hl.1 rfl (Nat.le_of_ble_eq_true rfl) dX9_claim_2 ⟨by decide, by decide⟩) ?_
  refine lv_if_eq (tgt := 31) hx hb dX9_claim_5 (by decide) (fun c_5 => ?_) (fun c_5 => ?_)
  · skip
    have c_5 := bB_0.mp c_5
    refine lv_bipush (v := (-3)) hx hb dX9_claim_31 (by decide) ?_
    subst hQ
    exact x_iretW E hr hlk hw (by decide) (by decide) (addA (rfl) (⟨cl_no hrl hnr (by unfold mClOK; rw [c_5]; rfl) rfl, hC⟩)) dX9_claim_33
  · skip
    have c_5 := bB_n0.mp c_5
    refine lv_iload_n hx hb dX9_claim_8 rfl (lv_at hl 3 rfl) ?_
    refine lv_iconst (v := 0) hx hb dX9_claim_9 (by decide) ?_
    refine lv_sipush (v := 2000) hx hb dX9_claim_10 (by decide) ?_
    refine x_read (x_runS (rest := []) E cbX9_within tw_121 (kX9_within l D ca a3 0 2000 ) ⟨rfl, rfl, by decide, by decide⟩ (fun _ _ _ _ h => h) (fun _ _ _ => trivial) rfl hl.1 rfl (Nat.le_of_ble_eq_true rfl) dX9_claim_13 ⟨by decide, by decide⟩) ?_
    refine lv_if_eq (tgt := 31) hx hb dX9_claim_16 (by decide) (fun c_16 => ?_) (fun c_16 => ?_)
    · skip
      have c_16 := bB_0.mp c_16
      refine lv_bipush (v := (-3)) hx hb dX9_claim_31 (by decide) ?_
      subst hQ
      exact x_iretW E hr hlk hw (by decide) (by decide) (addA (rfl) (⟨cl_no hrl hnr (by simp [mClOK, c_16]) rfl, hC⟩)) dX9_claim_33
    · skip
      have c_16 := bB_n0.mp c_16
      refine lv_iload hx hb dX9_claim_19 (lv_at hl 4 rfl) ?_
      refine lv_iload_n hx hb dX9_claim_21 rfl (lv_at hl 3 rfl) ?_
      refine lv_sipush (v := 2000) hx hb dX9_claim_22 (by decide) ?_
      refine x_read (x_runS (rest := []) E cbX9_within tw_121 (kX9_within l D ca a4 a3 2000 ) ⟨rfl, rfl, by decide, by decide⟩ (fun _ _ _ _ h => h) (fun _ _ _ => trivial) rfl hl.1 rfl (Nat.le_of_ble_eq_true rfl) dX9_claim_25 ⟨by decide, by decide⟩) ?_
      refine lv_if_ne (tgt := 34) hx hb dX9_claim_28 (by decide) (fun c_28 => ?_) (fun c_28 => ?_)
      · skip
        have c_28 := bB_n0.mp c_28
        refine lv_iload hx hb dX9_claim_34 (lv_at hl 5 rfl) ?_
        refine lv_iconst (v := (-1)) hx hb dX9_claim_36 (by decide) ?_
        refine lv_iconst (v := 1) hx hb dX9_claim_37 (by decide) ?_
        refine x_read (x_runS (rest := []) E cbX9_within tw_121 (kX9_within l D ca a5 (-1) 1 ) ⟨rfl, rfl, by decide, by decide⟩ (fun _ _ _ _ h => h) (fun _ _ _ => trivial) rfl hl.1 rfl (Nat.le_of_ble_eq_true rfl) dX9_claim_38 ⟨by decide, by decide⟩) ?_
        refine lv_if_eq (tgt := 55) hx hb dX9_claim_41 (by decide) (fun c_41 => ?_) (fun c_41 => ?_)
        · skip
          have c_41 := bB_0.mp c_41
          refine lv_bipush (v := (-3)) hx hb dX9_claim_55 (by decide) ?_
          subst hQ
          exact x_iretW E hr hlk hw (by decide) (by decide) (addA (rfl) (⟨cl_no hrl hnr (by simp [mClOK, c_41]) rfl, hC⟩)) dX9_claim_57
        · skip
          have c_41 := bB_n0.mp c_41
          refine lv_iload hx hb dX9_claim_44 (lv_at hl 6 rfl) ?_
          refine lv_iconst (v := (-1)) hx hb dX9_claim_46 (by decide) ?_
          refine lv_bipush (v := 9) hx hb dX9_claim_47 (by decide) ?_
          refine x_read (x_runS (rest := []) E cbX9_within tw_121 (kX9_within l D ca a6 (-1) 9 ) ⟨rfl, rfl, by decide, by decide⟩ (fun _ _ _ _ h => h) (fun _ _ _ => trivial) rfl hl.1 rfl (Nat.le_of_ble_eq_true rfl) dX9_claim_49 ⟨by decide, by decide⟩) ?_
          refine lv_if_ne (tgt := 58) hx hb dX9_claim_52 (by decide) (fun c_52 => ?_) (fun c_52 => ?_)
          · skip
            have c_52 := bB_n0.mp c_52
            refine x_new (fs := [.null, .int 0, .int 0, .int 0, .int 0]) E hw 16 cl_2 ly_2 tyX2 tyX2_ok tw_463 tw_464 tw_13 df_2 (by decide) (by decide) dX9_claim_58 (fun q9 H hw => ?_)
            generalize hix1 : cnt 16 = i1 at hw
            generalize hcn1 : va_up cnt 16 (i1 + 1) = cnt1 at hw
            generalize han1 : upd2 ad 16 i1 q9 = ad1 at hw
            generalize hct1 : upd2 ct 16 i1 (.inr (2, [.null, .int 0, .int 0, .int 0, .int 0])) = ct1 at hw
            have hqq1 : q9 = ad1 16 i1 := by rw [← han1, upd2_at]
            subst hqq1
            have hcn1_0 : cnt1 0 = cnt 0 := by rw [← hcn1, va_up_ne _ _ (by decide)]
            have hcn1_1 : cnt1 1 = cnt 1 := by rw [← hcn1, va_up_ne _ _ (by decide)]
            have hcn1_2 : cnt1 2 = cnt 2 := by rw [← hcn1, va_up_ne _ _ (by decide)]
            have hcn1_3 : cnt1 3 = cnt 3 := by rw [← hcn1, va_up_ne _ _ (by decide)]
            have hcn1_4 : cnt1 4 = cnt 4 := by rw [← hcn1, va_up_ne _ _ (by decide)]
            have hcn1_5 : cnt1 5 = cnt 5 := by rw [← hcn1, va_up_ne _ _ (by decide)]
            have hcn1_6 : cnt1 6 = cnt 6 := by rw [← hcn1, va_up_ne _ _ (by decide)]
            have hcn1_7 : cnt1 7 = cnt 7 := by rw [← hcn1, va_up_ne _ _ (by decide)]
            have hcn1_8 : cnt1 8 = cnt 8 := by rw [← hcn1, va_up_ne _ _ (by decide)]
            have hcn1_9 : cnt1 9 = cnt 9 := by rw [← hcn1, va_up_ne _ _ (by decide)]
            have hcn1_10 : cnt1 10 = cnt 10 := by rw [← hcn1, va_up_ne _ _ (by decide)]
            have hcn1_11 : cnt1 11 = cnt 11 := by rw [← hcn1, va_up_ne _ _ (by decide)]
            have hcn1_12 : cnt1 12 = cnt 12 := by rw [← hcn1, va_up_ne _ _ (by decide)]
            have hcn1_13 : cnt1 13 = cnt 13 := by rw [← hcn1, va_up_ne _ _ (by decide)]
            have hcn1_14 : cnt1 14 = cnt 14 := by rw [← hcn1, va_up_ne _ _ (by decide)]
            have hcn1_15 : cnt1 15 = cnt 15 := by rw [← hcn1, va_up_ne _ _ (by decide)]
            have hcn1_16 : cnt1 16 = cnt 16 + 1 := by rw [← hcn1, va_up_self, hix1]
            have hcn1_17 : cnt1 17 = cnt 17 := by rw [← hcn1, va_up_ne _ _ (by decide)]
            have hag1 : ∀ k i, i < cnt k → ad k i = ad1 k i := fun k i hi => by rw [← han1]; by_cases hk : k = 16; subst hk; exact (upd2_i _ _ _ (by omega)).symm; exact (upd2_k _ _ _ _ hk).symm
            have hcg1 : ∀ k i, i < cnt k → ct1 k i = ct k i := fun k i hi => by rw [← hct1]; by_cases hk : k = 16; subst hk; exact upd2_i _ _ _ (by omega); exact upd2_k _ _ _ _ hk
            have hle1 : ∀ k, cnt k ≤ cnt1 k := fun k => by rw [← hcn1]; by_cases hk : k = 16; subst hk; rw [va_up_self]; omega; rw [va_up_ne _ _ hk]; exact Nat.le_refl _
            have fa1 : ct1 0 0 = .inr (9, [.int (nI nw), .int (nI nb), .int (nI nc), .int (nI nm), .int (v 4), .int (v 5), .ref (ad 1 0), .ref (ad 2 0), .ref (ad 3 0), .ref (ad 11 tp), .ref (ad 11 (1 - tp)), .ref (ad 13 0)]) := by rw [hcg1 0 0 (hx0)]; exact fz0
            have fa2 : ct1 1 0 = .inl (ca 3, 50, aQ fB) := by rw [hcg1 1 0 (hx1)]; exact fz1
            have fa3 : ct1 2 0 = .inl (ca 4, 60, aQ fC) := by rw [hcg1 2 0 (hx2)]; exact fz2
            have fa4 : ct1 3 0 = .inl (ca 5, 13, aQ fN) := by rw [hcg1 3 0 (hx3)]; exact fz3
            have fa5 : ct1 11 tp = .inr (8, [.ref (ad 12 tp), .int (nI sz)]) := by rw [hcg1 11 tp (by omega)]; exact z1
            have fa6 : ct1 11 (1 - tp) = .inr (8, [.ref (ad 12 (1 - tp)), .int (nI n2)]) := by rw [hcg1 11 (1 - tp) (by omega)]; exact z2
            have fa7 : ct1 12 tp = .inl (ca 0, 100, .inl b0) := by rw [hcg1 12 tp (by omega)]; exact z3
            have fa8 : ct1 12 (1 - tp) = .inl (ca 0, 100, .inl b1) := by rw [hcg1 12 (1 - tp) (by omega)]; exact z4
            have fa9 : ct1 13 0 = .inr (7, [.ref (ad 14 0), .ref (ad 11 rt), .int p1, .int p2]) := by rw [hcg1 13 0 (h13)]; exact z5
            have fa10 : ct1 14 0 = .inl (ca 1, 5, .inl vs) := by rw [hcg1 14 0 (h14)]; exact z6
            have fa11 : ct1 16 i1 = .inr (2, [.null, .int 0, .int 0, .int 0, .int 0]) := by rw [← hct1, upd2_at]
            have hin1 : i1 < cnt1 16 := by omega
            refine lv_dup hx hb dX9_claim_61 rfl ?_
            refine x_new (fs := [.int 0, .int 0]) E hw 15 cl_3 ly_3 tyX3 tyX3_ok tw_181 tw_182 tw_8 df_3 (by decide) (by decide) dX9_claim_62 (fun q9 H hw => ?_)
            generalize hix2 : cnt1 15 = i2 at hw
            generalize hcn2 : va_up cnt1 15 (i2 + 1) = cnt2 at hw
            generalize han2 : upd2 ad1 15 i2 q9 = ad2 at hw
            generalize hct2 : upd2 ct1 15 i2 (.inr (3, [.int 0, .int 0])) = ct2 at hw
            have hqq2 : q9 = ad2 15 i2 := by rw [← han2, upd2_at]
            subst hqq2
            have hcn2_0 : cnt2 0 = cnt1 0 := by rw [← hcn2, va_up_ne _ _ (by decide)]
            have hcn2_1 : cnt2 1 = cnt1 1 := by rw [← hcn2, va_up_ne _ _ (by decide)]
            have hcn2_2 : cnt2 2 = cnt1 2 := by rw [← hcn2, va_up_ne _ _ (by decide)]
            have hcn2_3 : cnt2 3 = cnt1 3 := by rw [← hcn2, va_up_ne _ _ (by decide)]
            have hcn2_4 : cnt2 4 = cnt1 4 := by rw [← hcn2, va_up_ne _ _ (by decide)]
            have hcn2_5 : cnt2 5 = cnt1 5 := by rw [← hcn2, va_up_ne _ _ (by decide)]
            have hcn2_6 : cnt2 6 = cnt1 6 := by rw [← hcn2, va_up_ne _ _ (by decide)]
            have hcn2_7 : cnt2 7 = cnt1 7 := by rw [← hcn2, va_up_ne _ _ (by decide)]
            have hcn2_8 : cnt2 8 = cnt1 8 := by rw [← hcn2, va_up_ne _ _ (by decide)]
            have hcn2_9 : cnt2 9 = cnt1 9 := by rw [← hcn2, va_up_ne _ _ (by decide)]
            have hcn2_10 : cnt2 10 = cnt1 10 := by rw [← hcn2, va_up_ne _ _ (by decide)]
            have hcn2_11 : cnt2 11 = cnt1 11 := by rw [← hcn2, va_up_ne _ _ (by decide)]
            have hcn2_12 : cnt2 12 = cnt1 12 := by rw [← hcn2, va_up_ne _ _ (by decide)]
            have hcn2_13 : cnt2 13 = cnt1 13 := by rw [← hcn2, va_up_ne _ _ (by decide)]
            have hcn2_14 : cnt2 14 = cnt1 14 := by rw [← hcn2, va_up_ne _ _ (by decide)]
            have hcn2_15 : cnt2 15 = cnt1 15 + 1 := by rw [← hcn2, va_up_self, hix2]
            have hcn2_16 : cnt2 16 = cnt1 16 := by rw [← hcn2, va_up_ne _ _ (by decide)]
            have hcn2_17 : cnt2 17 = cnt1 17 := by rw [← hcn2, va_up_ne _ _ (by decide)]
            have hag2 : ∀ k i, i < cnt1 k → ad1 k i = ad2 k i := fun k i hi => by rw [← han2]; by_cases hk : k = 15; subst hk; exact (upd2_i _ _ _ (by omega)).symm; exact (upd2_k _ _ _ _ hk).symm
            have hcg2 : ∀ k i, i < cnt1 k → ct2 k i = ct1 k i := fun k i hi => by rw [← hct2]; by_cases hk : k = 15; subst hk; exact upd2_i _ _ _ (by omega); exact upd2_k _ _ _ _ hk
            have hle2 : ∀ k, cnt1 k ≤ cnt2 k := fun k => by rw [← hcn2]; by_cases hk : k = 15; subst hk; rw [va_up_self]; omega; rw [va_up_ne _ _ hk]; exact Nat.le_refl _
            have fa12 : ct2 0 0 = .inr (9, [.int (nI nw), .int (nI nb), .int (nI nc), .int (nI nm), .int (v 4), .int (v 5), .ref (ad 1 0), .ref (ad 2 0), .ref (ad 3 0), .ref (ad 11 tp), .ref (ad 11 (1 - tp)), .ref (ad 13 0)]) := by rw [hcg2 0 0 (Nat.lt_of_lt_of_le (hx0) (hle1 _))]; exact fa1
            have fa13 : ct2 1 0 = .inl (ca 3, 50, aQ fB) := by rw [hcg2 1 0 (Nat.lt_of_lt_of_le (hx1) (hle1 _))]; exact fa2
            have fa14 : ct2 2 0 = .inl (ca 4, 60, aQ fC) := by rw [hcg2 2 0 (Nat.lt_of_lt_of_le (hx2) (hle1 _))]; exact fa3
            have fa15 : ct2 3 0 = .inl (ca 5, 13, aQ fN) := by rw [hcg2 3 0 (Nat.lt_of_lt_of_le (hx3) (hle1 _))]; exact fa4
            have fa16 : ct2 11 tp = .inr (8, [.ref (ad 12 tp), .int (nI sz)]) := by rw [hcg2 11 tp (by omega)]; exact fa5
            have fa17 : ct2 11 (1 - tp) = .inr (8, [.ref (ad 12 (1 - tp)), .int (nI n2)]) := by rw [hcg2 11 (1 - tp) (by omega)]; exact fa6
            have fa18 : ct2 12 tp = .inl (ca 0, 100, .inl b0) := by rw [hcg2 12 tp (by omega)]; exact fa7
            have fa19 : ct2 12 (1 - tp) = .inl (ca 0, 100, .inl b1) := by rw [hcg2 12 (1 - tp) (by omega)]; exact fa8
            have fa20 : ct2 13 0 = .inr (7, [.ref (ad 14 0), .ref (ad 11 rt), .int p1, .int p2]) := by rw [hcg2 13 0 (Nat.lt_of_lt_of_le (h13) (hle1 _))]; exact fa9
            have fa21 : ct2 14 0 = .inl (ca 1, 5, .inl vs) := by rw [hcg2 14 0 (Nat.lt_of_lt_of_le (h14) (hle1 _))]; exact fa10
            have fa22 : ct2 16 i1 = .inr (2, [.null, .int 0, .int 0, .int 0, .int 0]) := by rw [hcg2 16 i1 (hin1)]; exact fa11
            have fa23 : ct2 15 i2 = .inr (3, [.int 0, .int 0]) := by rw [← hct2, upd2_at]
            have hin2 : i2 < cnt2 15 := by omega
            refine lv_dup hx hb dX9_claim_65 rfl ?_
            refine lv_iload_n hx hb dX9_claim_66 rfl (lv_at hl 1 rfl) ?_
            refine lv_iload_n hx hb dX9_claim_67 rfl (lv_at hl 2 rfl) ?_
            have ev68_0 : ad1 16 i1 = ad2 16 i1 := hag2 16 i1 (by omega)
            refine W.eq (g2 := F0 m 68 ls [.int a2, .int a1, .ref (ad2 15 i2), .ref (ad2 15 i2), .ref (ad2 16 i1), .ref (ad2 16 i1)]) (by rw [ev68_0]) ?_
            refine x_wrote hw (x_runI (rest := [.ref (ad2 15 i2), .ref (ad2 16 i1), .ref (ad2 16 i1)]) E cbX3_init tw_183 (kX3_init l D ca cnt2 ad2 ct2 H.size  15 i2  a1 a2 (hin2) (fa23)) ⟨rfl, rfl, by decide, by decide⟩ (fun _ _ _ _ h => h) (fun U hU _ => by rw [hU]; exact ⟨rfl, hw.1⟩) rfl hl.1 rfl (Nat.le_of_ble_eq_true rfl) dX9_claim_68 ⟨by decide, by decide⟩) (fun rv9 u9 H locs hp9 hw hz9 hk9 => ?_)
            obtain ⟨hrv9, hu9⟩ := hp9
            subst hrv9
            subst hu9
            dsimp only [Option.toList, List.nil_append] at hw ⊢
            generalize hct3 : upd2 ct2 15 i2 (.inr (3, [.int a1, .int a2])) = ct3 at hw
            have fa24 : ct3 0 0 = .inr (9, [.int (nI nw), .int (nI nb), .int (nI nc), .int (nI nm), .int (v 4), .int (v 5), .ref (ad 1 0), .ref (ad 2 0), .ref (ad 3 0), .ref (ad 11 tp), .ref (ad 11 (1 - tp)), .ref (ad 13 0)]) := by rw [← hct3, upd2_k _ _ _ _ (by decide)]; exact fa12
            have fa25 : ct3 1 0 = .inl (ca 3, 50, aQ fB) := by rw [← hct3, upd2_k _ _ _ _ (by decide)]; exact fa13
            have fa26 : ct3 2 0 = .inl (ca 4, 60, aQ fC) := by rw [← hct3, upd2_k _ _ _ _ (by decide)]; exact fa14
            have fa27 : ct3 3 0 = .inl (ca 5, 13, aQ fN) := by rw [← hct3, upd2_k _ _ _ _ (by decide)]; exact fa15
            have fa28 : ct3 11 tp = .inr (8, [.ref (ad 12 tp), .int (nI sz)]) := by rw [← hct3, upd2_k _ _ _ _ (by decide)]; exact fa16
            have fa29 : ct3 11 (1 - tp) = .inr (8, [.ref (ad 12 (1 - tp)), .int (nI n2)]) := by rw [← hct3, upd2_k _ _ _ _ (by decide)]; exact fa17
            have fa30 : ct3 12 tp = .inl (ca 0, 100, .inl b0) := by rw [← hct3, upd2_k _ _ _ _ (by decide)]; exact fa18
            have fa31 : ct3 12 (1 - tp) = .inl (ca 0, 100, .inl b1) := by rw [← hct3, upd2_k _ _ _ _ (by decide)]; exact fa19
            have fa32 : ct3 13 0 = .inr (7, [.ref (ad 14 0), .ref (ad 11 rt), .int p1, .int p2]) := by rw [← hct3, upd2_k _ _ _ _ (by decide)]; exact fa20
            have fa33 : ct3 14 0 = .inl (ca 1, 5, .inl vs) := by rw [← hct3, upd2_k _ _ _ _ (by decide)]; exact fa21
            have fa34 : ct3 16 i1 = .inr (2, [.null, .int 0, .int 0, .int 0, .int 0]) := by rw [← hct3, upd2_k _ _ _ _ (by decide)]; exact fa22
            have fa35 : ct3 15 i2 = .inr (3, [.int a1, .int a2]) := by rw [← hct3, upd2_at]; try rfl
            refine lv_iload_n hx hb dX9_claim_71 rfl (lv_at hl 3 rfl) ?_
            refine lv_iload hx hb dX9_claim_72 (lv_at hl 4 rfl) ?_
            refine lv_iload hx hb dX9_claim_74 (lv_at hl 5 rfl) ?_
            refine lv_iload hx hb dX9_claim_76 (lv_at hl 6 rfl) ?_
            refine x_wrote hw (x_runI (rest := [.ref (ad2 16 i1)]) E cbX2_init tw_465 (kX2_init l D ca cnt2 ad2 ct3 H.size  i1  i2 a3 a4 a5 a6 (Nat.lt_of_lt_of_le (hin1) (hle2 _)) (fa34)) ⟨rfl, rfl, by decide, by decide⟩ (fun _ _ _ _ h => h) (fun U hU _ => by rw [hU]; exact ⟨rfl, hw.1⟩) rfl hl.1 rfl (Nat.le_of_ble_eq_true rfl) dX9_claim_78 ⟨by decide, by decide⟩) (fun rv9 u9 H locs hp9 hw hz9 hk9 => ?_)
            obtain ⟨hrv9, hu9⟩ := hp9
            subst hrv9
            subst hu9
            dsimp only [Option.toList, List.nil_append] at hw ⊢
            generalize hct4 : upd2 ct3 16 i1 (.inr (2, [.ref (ad2 15 i2), .int a3, .int a4, .int a5, .int a6])) = ct4 at hw
            have fa36 : ct4 0 0 = .inr (9, [.int (nI nw), .int (nI nb), .int (nI nc), .int (nI nm), .int (v 4), .int (v 5), .ref (ad 1 0), .ref (ad 2 0), .ref (ad 3 0), .ref (ad 11 tp), .ref (ad 11 (1 - tp)), .ref (ad 13 0)]) := by rw [← hct4, upd2_k _ _ _ _ (by decide)]; exact fa24
            have fa37 : ct4 1 0 = .inl (ca 3, 50, aQ fB) := by rw [← hct4, upd2_k _ _ _ _ (by decide)]; exact fa25
            have fa38 : ct4 2 0 = .inl (ca 4, 60, aQ fC) := by rw [← hct4, upd2_k _ _ _ _ (by decide)]; exact fa26
            have fa39 : ct4 3 0 = .inl (ca 5, 13, aQ fN) := by rw [← hct4, upd2_k _ _ _ _ (by decide)]; exact fa27
            have fa40 : ct4 11 tp = .inr (8, [.ref (ad 12 tp), .int (nI sz)]) := by rw [← hct4, upd2_k _ _ _ _ (by decide)]; exact fa28
            have fa41 : ct4 11 (1 - tp) = .inr (8, [.ref (ad 12 (1 - tp)), .int (nI n2)]) := by rw [← hct4, upd2_k _ _ _ _ (by decide)]; exact fa29
            have fa42 : ct4 12 tp = .inl (ca 0, 100, .inl b0) := by rw [← hct4, upd2_k _ _ _ _ (by decide)]; exact fa30
            have fa43 : ct4 12 (1 - tp) = .inl (ca 0, 100, .inl b1) := by rw [← hct4, upd2_k _ _ _ _ (by decide)]; exact fa31
            have fa44 : ct4 13 0 = .inr (7, [.ref (ad 14 0), .ref (ad 11 rt), .int p1, .int p2]) := by rw [← hct4, upd2_k _ _ _ _ (by decide)]; exact fa32
            have fa45 : ct4 14 0 = .inl (ca 1, 5, .inl vs) := by rw [← hct4, upd2_k _ _ _ _ (by decide)]; exact fa33
            have fa46 : ct4 16 i1 = .inr (2, [.ref (ad2 15 i2), .int a3, .int a4, .int a5, .int a6]) := by rw [← hct4, upd2_at]; try rfl
            have fa47 : ct4 15 i2 = .inr (3, [.int a1, .int a2]) := by rw [← hct4, upd2_k _ _ _ _ (by decide)]; exact fa35
            have hC2 : cRep ca cnt2 ad2 ct4 v g nw nb nc nm := by rw [← hct4, ← hct3]; exact cRep_up (by decide) (cRep_up (by decide) (cRep_ext (by omega) (by omega) (by omega) (by omega) (by omega) (hle_tr hle1 hle2) (hag_tr hle1 hag1 hag2) (hcg_tr hle1 hcg1 hcg2) hC))
            have hA1 : ad 0 0 = ad2 0 0 := (hag1 0 0 (by omega)).trans (hag2 0 0 (by omega))
            obtain ⟨adO, hadO⟩ : ∃ z : Nat → Nat → Nat, z = ad := ⟨_, rfl⟩
            have lp81 : ∀ (cnt : Nat → Nat) (ad : Nat → Nat → Nat) (ct : Nat → Nat → va_E) (o1 : Nat) (h1 : Nat), (cRep ca cnt ad ct v g nw nb nc nm) → (ad 0 0 = adO 0 0) → (o1 < cnt 16) → (ct 16 o1 = .inr (2, [.ref (ad 15 h1), .int a3, .int a4, .int a5, .int a6])) → (h1 < cnt 15) → (ct 15 h1 = .inr (3, [.int a1, .int a2])) → ∀ (H : Heap) (locs : List Loc), wd D A s.heap cnt ad ct H locs → ∀ ls : Array Slot, lv_has ls 11 [(0, .ref (ad 0 0))] → W p l e (rmL 36 2 7) s m args below meth c H locs 2 7 Q (F0 m 81 ls [.ref (ad 16 o1)]) := by
              intro cnt ad ct o1 h1 hC hA0 hoi hoc hhi hhc2 H locs hw ls hl
              obtain ⟨hO, hIv, tp, htp, hX, hT, hB, hCc, hN⟩ := id hC
              obtain ⟨hx0, hx1, hx2, hx3, fz0⟩ := id hX
              have hO5 := hO.2.2.2.2
              obtain ⟨hc6, hc7, fC, dt, ow, ix, ak, fz2, hCd⟩ := id hCc
              obtain ⟨h13, h14, ht11, ht12, sz, n2, nr, rt, b0, b1, vs, p1, p2, hsz, hsz2, hn2, hnr, hrt, z1, z2, z3, z4, z5, z6, hb24, hrl⟩ := id hT
              have hw : wd D A s.heap cnt ad (rq ad (vsC ca ct vs) rt p1 p2) H locs := by rw [show vsC ca ct vs = ct from upd2_same z6, rq_same z5]; exact hw
              refine lv_astore (lv' := [(7, .ref (ad 16 o1)), (0, .ref (ad 0 0))]) hx hb dX9_claim_81 hl (by decide) rfl (fun ls hl => ?_)
              refine lv_aload_n hx hb dX9_claim_83 rfl (lv_at hl 1 rfl) ?_
              refine lv_aload hx hb dX9_claim_84 (lv_at hl 0 rfl) ?_
              refine x_read (x_runV (rest := []) E cbX9_childrenFitting tw_486 (kX9_childrenFitting l D ca cnt ad (rq ad (vsC ca ct vs) rt p1 p2) v g nw nb nc nm  o1 h1 a3 a4 a5 a6  (cRep_vs hrt hC) (hoi) (((upd2_k _ _ _ _ (by decide)).trans ((upd2_k _ _ _ _ (by decide)).trans hoc))) (hSM)) ⟨rfl, rfl, by decide, by decide⟩ (x_recv E hw cl_9 (hx0) ((upd2_k _ _ _ _ (by decide)).trans ((upd2_k _ _ _ _ (by decide)).trans fz0))) (fun _ _ _ _ h => h) (fun U hU _ => by rw [hU]; exact hw.1) rfl hl.1 rfl (Nat.le_of_ble_eq_true rfl) dX9_claim_86 ⟨by decide, by decide⟩) ?_
              refine lv_istore (lv' := [(8, .int (nI (mClr g nw nm a3 a4 a5 a6 nc))), (7, .ref (ad 16 o1)), (0, .ref (ad 0 0))]) hx hb dX9_claim_89 hl (by decide) rfl (fun ls hl => ?_)
              refine lv_iconst (v := (-1)) hx hb dX9_claim_91 (by decide) ?_
              refine lv_istore (lv' := [(9, .int (-1)), (8, .int (nI (mClr g nw nm a3 a4 a5 a6 nc))), (7, .ref (ad 16 o1)), (0, .ref (ad 0 0))]) hx hb dX9_claim_92 hl (by decide) rfl (fun ls hl => ?_)
              refine lv_iconst (v := 0) hx hb dX9_claim_94 (by decide) ?_
              refine lv_istore (lv' := [(10, .int 0), (9, .int (-1)), (8, .int (nI (mClr g nw nm a3 a4 a5 a6 nc))), (7, .ref (ad 16 o1)), (0, .ref (ad 0 0))]) hx hb dX9_claim_95 hl (by decide) rfl (fun ls hl => ?_)
              have lp97 : ∀ (n : Nat) (i : Nat) (x3 : Int32) (vs9 : Nat → Int32) (t9 : Nat) (x9 : Int32) (y9 : Int32), (i ≤ nc) → (x3 = cFnd g nw nm (mClr g nw nm a3 a4 a5 a6 nc) (pTop (bC b1 n2) n2) a1 a2 a3 a4 a5 a6 i) → (t9 < 2) → (nc - i < n) → ∀ (H : Heap) (locs : List Loc), wd D A s.heap cnt ad (rq ad (vsC ca ct vs9) t9 x9 y9) H locs → ∀ ls : Array Slot, lv_has ls 11 [(0, .ref (ad 0 0)), (7, .ref (ad 16 o1)), (8, .int (nI (mClr g nw nm a3 a4 a5 a6 nc))), (9, .int x3), (10, .int (nI i))] → W p l e (rmL 36 2 7) s m args below meth c H locs 2 7 Q (F0 m 97 ls []) := by
                intro n
                induction n with
                | zero =>
                  intro i x3 vs9 t9 x9 y9 hi h3 ht9 hfu H locs hw ls hl
                  exact absurd hfu (by omega)
                | succ n ih97 =>
                  intro i x3 vs9 t9 x9 y9 hi h3 ht9 hfu H locs hw ls hl
                  refine lv_iload hx hb dX9_claim_97 (lv_at hl 4 rfl) ?_
                  refine lv_aload_n hx hb dX9_claim_99 rfl (lv_at hl 0 rfl) ?_
                  refine x_get E hw 0 0 (hx0) ((upd2_k _ _ _ _ (by decide)).trans ((upd2_k _ _ _ _ (by decide)).trans fz0)) cl_9 ly_9 2 (by decide) tw_82 rfl dX9_claim_100 ?_
                  refine lv_icmp_ge (tgt := 174) hx hb dX9_claim_103 (by decide) (fun c_103 => ?_) (fun c_103 => ?_)
                  · skip
                    have hge : i = nc := by have q9 := (nI_leI (a := nc) (b := i) (by omega) (by omega)).mp c_103; omega
                    refine lv_iload hx hb dX9_claim_174 (lv_at hl 3 rfl) ?_
                    subst hQ
                    exact x_iretW E hr hlk hw (by decide) (by decide) (addA (hA0.trans (congrFun (congrFun hadO 0) 0)) (⟨cl_ok hrl hnr (by simp only [Bool.and_eq_true] at c_5; simp [mClOK, c_5.1, c_5.2, c_16, c_28, c_41, c_52]) (by rw [h3, hge]), cRep_vs ht9 hC⟩)) dX9_claim_176
                  · skip
                    have hlt : i < nc := by have q9 := mt (nI_leI (a := nc) (b := i) (by omega) (by omega)).mpr c_103; omega
                    obtain ⟨hfc, hcc, hhc, hchn, hmc, hak, how, hnd⟩ := hCd i hlt
                    refine lv_aload_n hx hb dX9_claim_106 rfl (lv_at hl 0 rfl) ?_
                    refine lv_aload_n hx hb dX9_claim_107 rfl (lv_at hl 0 rfl) ?_
                    refine x_get E hw 0 0 (hx0) ((upd2_k _ _ _ _ (by decide)).trans ((upd2_k _ _ _ _ (by decide)).trans fz0)) cl_9 ly_9 7 (by decide) tw_87 rfl dX9_claim_108 ?_
                    refine lv_iload hx hb dX9_claim_111 (lv_at hl 4 rfl) ?_
                    refine x_ald (v := .ref (ad 6 i)) E hw 4 rfl 2 0 (hx2) ((upd2_k _ _ _ _ (by decide)).trans ((upd2_k _ _ _ _ (by decide)).trans fz2)) i (rfl) (by omega) (by decide) dX9_claim_113 (by rw [(hCd i (by omega)).1]; rfl) ?_
                    refine lv_aload hx hb dX9_claim_114 (lv_at hl 1 rfl) ?_
                    refine lv_iload hx hb dX9_claim_116 (lv_at hl 2 rfl) ?_
                    refine x_wrote hw (x_runV (rest := []) E cbX9_setValues tw_495 (kX9_setValues l D ca cnt ad ct H.size v g nw nb nc nm tp o1 h1 i (mClr g nw nm a3 a4 a5 a6 nc) a1 a2 a3 a4 a5 a6 vs9 t9 x9 y9 hC htp hX h13 h14 hoi hoc hhi hhc2 hlt (hSM _ hlt)) ⟨rfl, rfl, by decide, by decide⟩ (x_recv E hw cl_9 (hx0) ((upd2_k _ _ _ _ (by decide)).trans ((upd2_k _ _ _ _ (by decide)).trans fz0))) (fun _ _ _ _ h => h) (fun U hU _ => by rw [hU]; exact ⟨rfl, hw.1⟩) rfl hl.1 rfl (Nat.le_of_ble_eq_true rfl) dX9_claim_118 ⟨by decide, by decide⟩) (fun rv9 u9 H locs hp9 hw hz9 hk9 => ?_)
                    obtain ⟨hrv9, vs8, hv8, hu9⟩ := hp9
                    subst hrv9
                    subst hu9
                    have hw : wd D A s.heap cnt ad (rq ad (vsC ca ct vs8) t9 x9 y9) H locs := hw
                    try dsimp only [Option.toList, List.nil_append]
                    refine lv_aload_n hx hb dX9_claim_121 rfl (lv_at hl 0 rfl) ?_
                    refine lv_aload_n hx hb dX9_claim_122 rfl (lv_at hl 0 rfl) ?_
                    refine x_get E hw 0 0 (hx0) ((upd2_k _ _ _ _ (by decide)).trans ((upd2_k _ _ _ _ (by decide)).trans fz0)) cl_9 ly_9 7 (by decide) tw_87 rfl dX9_claim_123 ?_
                    refine lv_iload hx hb dX9_claim_126 (lv_at hl 4 rfl) ?_
                    refine x_ald (v := .ref (ad 6 i)) E hw 4 rfl 2 0 (hx2) ((upd2_k _ _ _ _ (by decide)).trans ((upd2_k _ _ _ _ (by decide)).trans fz2)) i (rfl) (by omega) (by decide) dX9_claim_128 (by rw [(hCd i (by omega)).1]; rfl) ?_
                    refine lv_aload_n hx hb dX9_claim_129 rfl (lv_at hl 0 rfl) ?_
                    refine x_get E hw 0 0 (hx0) ((upd2_k _ _ _ _ (by decide)).trans ((upd2_k _ _ _ _ (by decide)).trans fz0)) cl_9 ly_9 0 (by decide) tw_80 rfl dX9_claim_130 ?_
                    refine x_read (x_runV (rest := []) E cbX9_isGone tw_299 (kX9_isGone l D ca cnt ad (rq ad (vsC ca ct vs8) t9 x9 y9) v g nw nb nc nm   i (nI nw) (cRep_vs ht9 hC) (hlt)) ⟨rfl, rfl, by decide, by decide⟩ (x_recv E hw cl_9 (hx0) ((upd2_k _ _ _ _ (by decide)).trans ((upd2_k _ _ _ _ (by decide)).trans fz0))) (fun _ _ _ _ h => h) (fun U hU _ => by rw [hU]; exact hw.1) rfl hl.1 rfl (Nat.le_of_ble_eq_true rfl) dX9_claim_133 ⟨by decide, by decide⟩) ?_
                    refine x_top (x := (bB (cGone g nw nm i (nI nw)))) (y := (bB (!(mOpen g nw nm (nI i))))) (by rw [gone_open hO5.1 hO5.2.2.1 hIv hlt]) ?_
                    refine lv_if_ne (tgt := 168) hx hb dX9_claim_136 (by decide) (fun c_136 => ?_) (fun c_136 => ?_)
                    · skip
                      have c_136 := bB_n0.mp c_136
                      have hc_o : mOpen g nw nm (nI i) = false := by simpa using c_136
                      refine lv_iinc (v := (nI (i + 1))) (lv' := [(10, .int (nI (i + 1))), (0, .ref (ad 0 0)), (7, .ref (ad 16 o1)), (8, .int (nI (mClr g nw nm a3 a4 a5 a6 nc))), (9, .int x3)]) hx hb dX9_claim_168 hl (k := 4) rfl (nI_1 _) (by decide) rfl (fun ls hl => ?_)
                      refine lv_goto (tgt := 97) hx hb dX9_claim_171 (by decide) ?_
                      exact ih97 (i + 1) x3 vs8 t9 x9 y9 (hlt) (by rw [cFnd, ← h3]; simp [c_103, c_136, hc_o]) (by omega) (by omega) _ _ (hw) ls (lv_sub hl [1, 2, 3, 4, 0] (rfl))
                    · skip
                      have c_136 := bB_0.mp c_136
                      have hc_o : mOpen g nw nm (nI i) = true := by simpa using c_136
                      refine lv_aload_n hx hb dX9_claim_139 rfl (lv_at hl 0 rfl) ?_
                      refine x_get E hw 0 0 (hx0) ((upd2_k _ _ _ _ (by decide)).trans ((upd2_k _ _ _ _ (by decide)).trans fz0)) cl_9 ly_9 11 (by decide) tw_91 rfl dX9_claim_140 ?_
                      refine lv_aload_n hx hb dX9_claim_143 rfl (lv_at hl 0 rfl) ?_
                      refine x_get E hw 0 0 (hx0) ((upd2_k _ _ _ _ (by decide)).trans ((upd2_k _ _ _ _ (by decide)).trans fz0)) cl_9 ly_9 10 (by decide) tw_90 rfl dX9_claim_144 ?_
                      refine x_wrote hw (x_runV (rest := []) E cbX7_holds tw_503 (kX7_holds l D ca cnt ad (vsC ca ct (vs8)) H.size (1 - tp) n2 b1 (vs8) t9 x9 y9 ⟨h13, by omega, (upd2_k _ _ _ _ (by decide)).trans z2, by omega, (upd2_k _ _ _ _ (by decide)).trans z4, hn2, h14, upd2_at _ _ _ _⟩) ⟨rfl, rfl, by decide, by decide⟩ (x_recv E hw cl_7 (h13) (upd2_at _ _ _ _)) (fun U g9 mk9 a9 h => ⟨h.1, h.2.1, lets_blind h.2.2⟩) (fun U hU hW9 => ⟨by rw [hU], by rw [hU]; exact hw.1, lets_call hLt hw hU hW9⟩) rfl hl.1 rfl (Nat.le_of_ble_eq_true rfl) dX9_claim_147 ⟨by decide, by decide⟩) (fun rv9 u9 H locs hp9 hw hz9 hk9 => ?_)
                      rcases hp9 with ⟨e9, hR9, he9, hrv9, x8, hu9⟩ | ⟨a9, L9, hR9, hwf9, hrv9, hu9⟩
                      · skip
                        subst hrv9
                        subst hu9
                        have hw : wd D A s.heap cnt ad (rq ad (vsC ca ct vs8) (1 - tp) x8 (nI e9)) H locs := hw
                        have hc_h : hdR (pTop (bC b1 n2) n2) (mVs g nw (mClr g nw nm a3 a4 a5 a6 nc) i a1 a2 a3 a4 a5 a6) = false := by rw [hR9]; rfl
                        refine lv_if_eq (tgt := 168) hx hb dX9_claim_150 (by decide) (fun c_150 => ?_) (fun c_150 => ?_)
                        · skip
                          refine lv_iinc (v := (nI (i + 1))) (lv' := [(10, .int (nI (i + 1))), (0, .ref (ad 0 0)), (7, .ref (ad 16 o1)), (8, .int (nI (mClr g nw nm a3 a4 a5 a6 nc))), (9, .int x3)]) hx hb dX9_claim_168 hl (k := 4) rfl (nI_1 _) (by decide) rfl (fun ls hl => ?_)
                          refine lv_goto (tgt := 97) hx hb dX9_claim_171 (by decide) ?_
                          exact ih97 (i + 1) x3 vs8 (1 - tp) x8 (nI e9) (hlt) (by rw [cFnd, ← h3]; simp [c_103, c_136, hc_o, hc_h]) (by omega) (by omega) _ _ (hw) ls (lv_sub hl [1, 2, 3, 4, 0] (rfl))
                        · skip
                          exact absurd c_150 (by decide)
                      · skip
                        subst hrv9
                        subst hu9
                        have hw : wd D A s.heap cnt ad (rq ad (vsC ca ct vs8) (1 - tp) (nI a9) (-1)) H locs := hw
                        have hc_h : hdR (pTop (bC b1 n2) n2) (mVs g nw (mClr g nw nm a3 a4 a5 a6 nc) i a1 a2 a3 a4 a5 a6) = rB vs8 L9 := by rw [hR9]; exact (rB_cg hv8 L9).symm
                        refine lv_if_eq (tgt := 168) hx hb dX9_claim_150 (by decide) (fun c_150 => ?_) (fun c_150 => ?_)
                        · skip
                          have c_150 := bB_0.mp c_150
                          refine lv_iinc (v := (nI (i + 1))) (lv' := [(10, .int (nI (i + 1))), (0, .ref (ad 0 0)), (7, .ref (ad 16 o1)), (8, .int (nI (mClr g nw nm a3 a4 a5 a6 nc))), (9, .int x3)]) hx hb dX9_claim_168 hl (k := 4) rfl (nI_1 _) (by decide) rfl (fun ls hl => ?_)
                          refine lv_goto (tgt := 97) hx hb dX9_claim_171 (by decide) ?_
                          exact ih97 (i + 1) x3 vs8 (1 - tp) (nI a9) (-1) (hlt) (by rw [cFnd, ← h3]; simp [c_103, c_136, hc_o, hc_h, c_150]) (by omega) (by omega) _ _ (hw) ls (lv_sub hl [1, 2, 3, 4, 0] (rfl))
                        · skip
                          have c_150 := bB_n0.mp c_150
                          refine lv_iload hx hb dX9_claim_153 (lv_at hl 3 rfl) ?_
                          refine lv_iconst (v := (-1)) hx hb dX9_claim_155 (by decide) ?_
                          refine lv_icmp_ne (tgt := 164) hx hb dX9_claim_156 (by decide) (fun c_156 => ?_) (fun c_156 => ?_)
                          · skip
                            refine lv_bipush (v := (-2)) hx hb dX9_claim_164 (by decide) ?_
                            refine lv_istore (lv' := [(9, .int (-2)), (0, .ref (ad 0 0)), (7, .ref (ad 16 o1)), (8, .int (nI (mClr g nw nm a3 a4 a5 a6 nc))), (10, .int (nI i))]) hx hb dX9_claim_166 hl (by decide) rfl (fun ls hl => ?_)
                            refine lv_iinc (v := (nI (i + 1))) (lv' := [(10, .int (nI (i + 1))), (9, .int (-2)), (0, .ref (ad 0 0)), (7, .ref (ad 16 o1)), (8, .int (nI (mClr g nw nm a3 a4 a5 a6 nc)))]) hx hb dX9_claim_168 hl (k := 4) rfl (nI_1 _) (by decide) rfl (fun ls hl => ?_)
                            refine lv_goto (tgt := 97) hx hb dX9_claim_171 (by decide) ?_
                            exact ih97 (i + 1) (-2) vs8 (1 - tp) (nI a9) (-1) (hlt) (by rw [cFnd, ← h3]; simp [c_103, c_136, hc_o, hc_h, c_150, c_156]) (by omega) (by omega) _ _ (hw) ls (lv_sub hl [2, 3, 4, 1, 0] (rfl))
                          · skip
                            refine lv_iload hx hb dX9_claim_159 (lv_at hl 4 rfl) ?_
                            refine lv_goto (tgt := 166) hx hb dX9_claim_161 (by decide) ?_
                            refine lv_istore (lv' := [(9, .int (nI i)), (0, .ref (ad 0 0)), (7, .ref (ad 16 o1)), (8, .int (nI (mClr g nw nm a3 a4 a5 a6 nc))), (10, .int (nI i))]) hx hb dX9_claim_166 hl (by decide) rfl (fun ls hl => ?_)
                            refine lv_iinc (v := (nI (i + 1))) (lv' := [(10, .int (nI (i + 1))), (9, .int (nI i)), (0, .ref (ad 0 0)), (7, .ref (ad 16 o1)), (8, .int (nI (mClr g nw nm a3 a4 a5 a6 nc)))]) hx hb dX9_claim_168 hl (k := 4) rfl (nI_1 _) (by decide) rfl (fun ls hl => ?_)
                            refine lv_goto (tgt := 97) hx hb dX9_claim_171 (by decide) ?_
                            exact ih97 (i + 1) (nI i) vs8 (1 - tp) (nI a9) (-1) (hlt) (by rw [cFnd, ← h3]; simp [c_103, c_136, hc_o, hc_h, c_150, c_156]) (by omega) (by omega) _ _ (hw) ls (lv_sub hl [2, 3, 4, 1, 0] (rfl))
              exact lp97 (nc + 1) 0 (-1) vs rt p1 p2 (Nat.zero_le _) (rfl) (hrt) (by omega) _ _ (hw) ls (lv_sub hl [4, 3, 2, 1, 0] (rfl))
            exact lp81 cnt2 ad2 ct4 i1 i2 (hC2) (by rw [hadO]; exact hA1.symm) (Nat.lt_of_lt_of_le (hin1) (hle2 _)) (fa46) (hin2) (fa47)  _ _ (hw) ls (lv_sub hl [0] (by rw [hA1]; rfl))
          · skip
            have c_52 := bB_0.mp c_52
            refine lv_bipush (v := (-3)) hx hb dX9_claim_55 (by decide) ?_
            subst hQ
            exact x_iretW E hr hlk hw (by decide) (by decide) (addA (rfl) (⟨cl_no hrl hnr (by simp [mClOK, c_52]) rfl, hC⟩)) dX9_claim_57
      · skip
        have c_28 := bB_0.mp c_28
        refine lv_bipush (v := (-3)) hx hb dX9_claim_31 (by decide) ?_
        subst hQ
        exact x_iretW E hr hlk hw (by decide) (by decide) (addA (rfl) (⟨cl_no hrl hnr (by simp [mClOK, c_28]) rfl, hC⟩)) dX9_claim_33
