set_option maxHeartbeats 4000000 in
set_option maxRecDepth 100000 in
theorem kX10_init (l : Launch) (D : va_G) (ca : Nat → ClassId) (cnt : Nat → Nat) (ad : Nat → Nat → Nat) (ct : Nat → Nat → va_E) (z9 : Nat) (ob : Nat) (hm : mI ca cnt ad ct 0) (hob : ad 33 0 = ob) : Met l yX10_init (wz yX10_init cX10_init 2 none) (rmL 2 22 30676) (va_Pc [.ref ob] (fun U => (U.heap.size = z9 ∧ wq D cnt ad ct U.heap) ∧ gK D ca U)) (QcW D (wA cnt ad z9) (fun rv u => rv = none ∧ ∃ ad9, ad9 33 0 = ob ∧ u = (mcnt, ad9, mct ca ad9 v0 g0))) 22 30676 (wA cnt ad z9) := by
  refine x_met (by decide) (Nat.le_of_ble_eq_true rfl) ?_
  intro p e s m below meth c E hr hlk hnm hq ls hl
  obtain ⟨hsz9, hq⟩ := hq
  subst hsz9
  generalize hav : ([.ref ob] : List Value).toArray = args at E ⊢
  have hx := E.1
  have hb := E.2.1
  have hown := E.2.2.2.1
  have hts := E.2.2.2.2.1
  have hw : wd D (wA cnt ad s.heap.size) s.heap cnt ad ct s.heap [] := wd.start hq
  generalize hQ : MQ below (QcW D (wA cnt ad s.heap.size) (fun rv u => rv = none ∧ ∃ ad9, ad9 33 0 = ob ∧ u = (mcnt, ad9, mct ca ad9 v0 g0))) args s 22 30676 (wA cnt ad s.heap.size) = Q
  generalize hA9 : wA cnt ad s.heap.size = A at hw hQ
  have hl : lv_has ls 2 [(0, .ref ob)] := hl
  suffices hgo : ∀ (H : Heap) (locs : List Loc), wd D A s.heap cnt ad ct H locs → W p l e (rmL 2 22 30676) s m args below meth c H locs 0 0 Q (F0 m 0 ls []) from hgo _ _ hw
  clear hw
  intro H locs hw
  refine lv_aload_n hx hb dX10_init_0 rfl (lv_at hl 0 rfl) ?_
  refine W.objInit hx hb hown (hts _ tw_541) (hts _ tw_20) (hts _ tw_21) rfl (hl.1.trans E.2.2.1.symm) rfl dX10_init_1 (by decide) (Nat.le_of_ble_eq_true rfl) ?_
  refine W.eq (g2 := F0 m 4 ls []) rfl ?_
  refine lv_aload_n hx hb dX10_init_4 rfl (lv_at hl 0 rfl) ?_
  refine lv_bipush (v := 50) hx hb dX10_init_5 (by decide) ?_
  refine x_newa (atype := .int) (N' := 50) E hw tw_66 6 1 rfl rfl rfl (by decide) (by decide) (by decide) (by decide) dX10_init_7 (fun q9 H hw => ?_)
  refine W.eq (g2 := F0 m 9 ls [.ref q9, .ref ((upd2 ad 6 (cnt 6) q9) 33 0)]) (by rw [upd2_k _ _ _ _ (by decide), hob]) ?_
  refine x_put E hw 33 0 (mI_lt hm (by decide)) (mI_at hm (by decide)) cl_10 ly_10 tyX10 tyX10_ok nmX10 6 (by decide) tw_548 (Or.inr ⟨rfl, hnm, rfl⟩) (by rfl) (by rfl) (by rw [mfj_len]; decide) dX10_init_9 (fun H locs hw => ?_)
  obtain ⟨cnt, ad, ct, hw, hm, hob⟩ : ∃ cnt9 ad9 ct9, wd D A s.heap cnt9 ad9 ct9 H locs ∧ mI ca cnt9 ad9 ct9 1 ∧ ad9 33 0 = ob := ⟨_, _, _, hw, mI_step hm 6 q9 (by decide) (by decide) (by decide) rfl rfl, by rw [upd2_k _ _ _ _ (by decide)]; exact hob⟩
  refine lv_aload_n hx hb dX10_init_12 rfl (lv_at hl 0 rfl) ?_
  refine lv_sipush (v := 1000) hx hb dX10_init_13 (by decide) ?_
  refine x_newa (atype := .int) (N' := 1000) E hw tw_66 7 1 rfl rfl rfl (by decide) (by decide) (by decide) (by decide) dX10_init_16 (fun q9 H hw => ?_)
  refine W.eq (g2 := F0 m 18 ls [.ref q9, .ref ((upd2 ad 7 (cnt 7) q9) 33 0)]) (by rw [upd2_k _ _ _ _ (by decide), hob]) ?_
  refine x_put E hw 33 0 (mI_lt hm (by decide)) (mI_at hm (by decide)) cl_10 ly_10 tyX10 tyX10_ok nmX10 7 (by decide) tw_549 (Or.inr ⟨rfl, hnm, rfl⟩) (by rfl) (by rfl) (by rw [mfj_len]; decide) dX10_init_18 (fun H locs hw => ?_)
  obtain ⟨cnt, ad, ct, hw, hm, hob⟩ : ∃ cnt9 ad9 ct9, wd D A s.heap cnt9 ad9 ct9 H locs ∧ mI ca cnt9 ad9 ct9 2 ∧ ad9 33 0 = ob := ⟨_, _, _, hw, mI_step hm 7 q9 (by decide) (by decide) (by decide) rfl rfl, by rw [upd2_k _ _ _ _ (by decide)]; exact hob⟩
  refine lv_aload_n hx hb dX10_init_21 rfl (lv_at hl 0 rfl) ?_
  refine lv_bipush (v := 20) hx hb dX10_init_22 (by decide) ?_
  refine x_newa (atype := .int) (N' := 20) E hw tw_66 8 1 rfl rfl rfl (by decide) (by decide) (by decide) (by decide) dX10_init_24 (fun q9 H hw => ?_)
  refine W.eq (g2 := F0 m 26 ls [.ref q9, .ref ((upd2 ad 8 (cnt 8) q9) 33 0)]) (by rw [upd2_k _ _ _ _ (by decide), hob]) ?_
  refine x_put E hw 33 0 (mI_lt hm (by decide)) (mI_at hm (by decide)) cl_10 ly_10 tyX10 tyX10_ok nmX10 8 (by decide) tw_550 (Or.inr ⟨rfl, hnm, rfl⟩) (by rfl) (by rfl) (by rw [mfj_len]; decide) dX10_init_26 (fun H locs hw => ?_)
  obtain ⟨cnt, ad, ct, hw, hm, hob⟩ : ∃ cnt9 ad9 ct9, wd D A s.heap cnt9 ad9 ct9 H locs ∧ mI ca cnt9 ad9 ct9 3 ∧ ad9 33 0 = ob := ⟨_, _, _, hw, mI_step hm 8 q9 (by decide) (by decide) (by decide) rfl rfl, by rw [upd2_k _ _ _ _ (by decide)]; exact hob⟩
  refine lv_aload_n hx hb dX10_init_29 rfl (lv_at hl 0 rfl) ?_
  refine lv_bipush (v := 60) hx hb dX10_init_30 (by decide) ?_
  refine x_newa (atype := .int) (N' := 60) E hw tw_66 9 1 rfl rfl rfl (by decide) (by decide) (by decide) (by decide) dX10_init_32 (fun q9 H hw => ?_)
  refine W.eq (g2 := F0 m 34 ls [.ref q9, .ref ((upd2 ad 9 (cnt 9) q9) 33 0)]) (by rw [upd2_k _ _ _ _ (by decide), hob]) ?_
  refine x_put E hw 33 0 (mI_lt hm (by decide)) (mI_at hm (by decide)) cl_10 ly_10 tyX10 tyX10_ok nmX10 9 (by decide) tw_551 (Or.inr ⟨rfl, hnm, rfl⟩) (by rfl) (by rfl) (by rw [mfj_len]; decide) dX10_init_34 (fun H locs hw => ?_)
  obtain ⟨cnt, ad, ct, hw, hm, hob⟩ : ∃ cnt9 ad9 ct9, wd D A s.heap cnt9 ad9 ct9 H locs ∧ mI ca cnt9 ad9 ct9 4 ∧ ad9 33 0 = ob := ⟨_, _, _, hw, mI_step hm 9 q9 (by decide) (by decide) (by decide) rfl rfl, by rw [upd2_k _ _ _ _ (by decide)]; exact hob⟩
  refine lv_aload_n hx hb dX10_init_37 rfl (lv_at hl 0 rfl) ?_
  refine lv_bipush (v := 60) hx hb dX10_init_38 (by decide) ?_
  refine x_newa (atype := .int) (N' := 60) E hw tw_66 10 1 rfl rfl rfl (by decide) (by decide) (by decide) (by decide) dX10_init_40 (fun q9 H hw => ?_)
  refine W.eq (g2 := F0 m 42 ls [.ref q9, .ref ((upd2 ad 10 (cnt 10) q9) 33 0)]) (by rw [upd2_k _ _ _ _ (by decide), hob]) ?_
  refine x_put E hw 33 0 (mI_lt hm (by decide)) (mI_at hm (by decide)) cl_10 ly_10 tyX10 tyX10_ok nmX10 10 (by decide) tw_552 (Or.inr ⟨rfl, hnm, rfl⟩) (by rfl) (by rfl) (by rw [mfj_len]; decide) dX10_init_42 (fun H locs hw => ?_)
  obtain ⟨cnt, ad, ct, hw, hm, hob⟩ : ∃ cnt9 ad9 ct9, wd D A s.heap cnt9 ad9 ct9 H locs ∧ mI ca cnt9 ad9 ct9 5 ∧ ad9 33 0 = ob := ⟨_, _, _, hw, mI_step hm 10 q9 (by decide) (by decide) (by decide) rfl rfl, by rw [upd2_k _ _ _ _ (by decide)]; exact hob⟩
  refine lv_aload_n hx hb dX10_init_45 rfl (lv_at hl 0 rfl) ?_
  refine lv_bipush (v := 60) hx hb dX10_init_46 (by decide) ?_
  refine x_newa (atype := .int) (N' := 60) E hw tw_66 11 1 rfl rfl rfl (by decide) (by decide) (by decide) (by decide) dX10_init_48 (fun q9 H hw => ?_)
  refine W.eq (g2 := F0 m 50 ls [.ref q9, .ref ((upd2 ad 11 (cnt 11) q9) 33 0)]) (by rw [upd2_k _ _ _ _ (by decide), hob]) ?_
  refine x_put E hw 33 0 (mI_lt hm (by decide)) (mI_at hm (by decide)) cl_10 ly_10 tyX10 tyX10_ok nmX10 11 (by decide) tw_553 (Or.inr ⟨rfl, hnm, rfl⟩) (by rfl) (by rfl) (by rw [mfj_len]; decide) dX10_init_50 (fun H locs hw => ?_)
  obtain ⟨cnt, ad, ct, hw, hm, hob⟩ : ∃ cnt9 ad9 ct9, wd D A s.heap cnt9 ad9 ct9 H locs ∧ mI ca cnt9 ad9 ct9 6 ∧ ad9 33 0 = ob := ⟨_, _, _, hw, mI_step hm 11 q9 (by decide) (by decide) (by decide) rfl rfl, by rw [upd2_k _ _ _ _ (by decide)]; exact hob⟩
  refine lv_aload_n hx hb dX10_init_53 rfl (lv_at hl 0 rfl) ?_
  refine lv_bipush (v := 60) hx hb dX10_init_54 (by decide) ?_
  refine x_newa (atype := .int) (N' := 60) E hw tw_66 12 1 rfl rfl rfl (by decide) (by decide) (by decide) (by decide) dX10_init_56 (fun q9 H hw => ?_)
  refine W.eq (g2 := F0 m 58 ls [.ref q9, .ref ((upd2 ad 12 (cnt 12) q9) 33 0)]) (by rw [upd2_k _ _ _ _ (by decide), hob]) ?_
  refine x_put E hw 33 0 (mI_lt hm (by decide)) (mI_at hm (by decide)) cl_10 ly_10 tyX10 tyX10_ok nmX10 12 (by decide) tw_554 (Or.inr ⟨rfl, hnm, rfl⟩) (by rfl) (by rfl) (by rw [mfj_len]; decide) dX10_init_58 (fun H locs hw => ?_)
  obtain ⟨cnt, ad, ct, hw, hm, hob⟩ : ∃ cnt9 ad9 ct9, wd D A s.heap cnt9 ad9 ct9 H locs ∧ mI ca cnt9 ad9 ct9 7 ∧ ad9 33 0 = ob := ⟨_, _, _, hw, mI_step hm 12 q9 (by decide) (by decide) (by decide) rfl rfl, by rw [upd2_k _ _ _ _ (by decide)]; exact hob⟩
  refine lv_aload_n hx hb dX10_init_61 rfl (lv_at hl 0 rfl) ?_
  refine lv_bipush (v := 60) hx hb dX10_init_62 (by decide) ?_
  refine x_newa (atype := .int) (N' := 60) E hw tw_66 13 1 rfl rfl rfl (by decide) (by decide) (by decide) (by decide) dX10_init_64 (fun q9 H hw => ?_)
  refine W.eq (g2 := F0 m 66 ls [.ref q9, .ref ((upd2 ad 13 (cnt 13) q9) 33 0)]) (by rw [upd2_k _ _ _ _ (by decide), hob]) ?_
  refine x_put E hw 33 0 (mI_lt hm (by decide)) (mI_at hm (by decide)) cl_10 ly_10 tyX10 tyX10_ok nmX10 13 (by decide) tw_555 (Or.inr ⟨rfl, hnm, rfl⟩) (by rfl) (by rfl) (by rw [mfj_len]; decide) dX10_init_66 (fun H locs hw => ?_)
  obtain ⟨cnt, ad, ct, hw, hm, hob⟩ : ∃ cnt9 ad9 ct9, wd D A s.heap cnt9 ad9 ct9 H locs ∧ mI ca cnt9 ad9 ct9 8 ∧ ad9 33 0 = ob := ⟨_, _, _, hw, mI_step hm 13 q9 (by decide) (by decide) (by decide) rfl rfl, by rw [upd2_k _ _ _ _ (by decide)]; exact hob⟩
  refine lv_aload_n hx hb dX10_init_69 rfl (lv_at hl 0 rfl) ?_
  refine lv_bipush (v := 60) hx hb dX10_init_70 (by decide) ?_
  refine x_newa (atype := .int) (N' := 60) E hw tw_66 14 1 rfl rfl rfl (by decide) (by decide) (by decide) (by decide) dX10_init_72 (fun q9 H hw => ?_)
  refine W.eq (g2 := F0 m 74 ls [.ref q9, .ref ((upd2 ad 14 (cnt 14) q9) 33 0)]) (by rw [upd2_k _ _ _ _ (by decide), hob]) ?_
  refine x_put E hw 33 0 (mI_lt hm (by decide)) (mI_at hm (by decide)) cl_10 ly_10 tyX10 tyX10_ok nmX10 14 (by decide) tw_556 (Or.inr ⟨rfl, hnm, rfl⟩) (by rfl) (by rfl) (by rw [mfj_len]; decide) dX10_init_74 (fun H locs hw => ?_)
  obtain ⟨cnt, ad, ct, hw, hm, hob⟩ : ∃ cnt9 ad9 ct9, wd D A s.heap cnt9 ad9 ct9 H locs ∧ mI ca cnt9 ad9 ct9 9 ∧ ad9 33 0 = ob := ⟨_, _, _, hw, mI_step hm 14 q9 (by decide) (by decide) (by decide) rfl rfl, by rw [upd2_k _ _ _ _ (by decide)]; exact hob⟩
  refine lv_aload_n hx hb dX10_init_77 rfl (lv_at hl 0 rfl) ?_
  refine lv_bipush (v := 60) hx hb dX10_init_78 (by decide) ?_
  refine x_newa (atype := .int) (N' := 60) E hw tw_66 15 1 rfl rfl rfl (by decide) (by decide) (by decide) (by decide) dX10_init_80 (fun q9 H hw => ?_)
  refine W.eq (g2 := F0 m 82 ls [.ref q9, .ref ((upd2 ad 15 (cnt 15) q9) 33 0)]) (by rw [upd2_k _ _ _ _ (by decide), hob]) ?_
  refine x_put E hw 33 0 (mI_lt hm (by decide)) (mI_at hm (by decide)) cl_10 ly_10 tyX10 tyX10_ok nmX10 15 (by decide) tw_557 (Or.inr ⟨rfl, hnm, rfl⟩) (by rfl) (by rfl) (by rw [mfj_len]; decide) dX10_init_82 (fun H locs hw => ?_)
  obtain ⟨cnt, ad, ct, hw, hm, hob⟩ : ∃ cnt9 ad9 ct9, wd D A s.heap cnt9 ad9 ct9 H locs ∧ mI ca cnt9 ad9 ct9 10 ∧ ad9 33 0 = ob := ⟨_, _, _, hw, mI_step hm 15 q9 (by decide) (by decide) (by decide) rfl rfl, by rw [upd2_k _ _ _ _ (by decide)]; exact hob⟩
  refine lv_aload_n hx hb dX10_init_85 rfl (lv_at hl 0 rfl) ?_
  refine lv_bipush (v := 60) hx hb dX10_init_86 (by decide) ?_
  refine x_newa (atype := .int) (N' := 60) E hw tw_66 16 1 rfl rfl rfl (by decide) (by decide) (by decide) (by decide) dX10_init_88 (fun q9 H hw => ?_)
  refine W.eq (g2 := F0 m 90 ls [.ref q9, .ref ((upd2 ad 16 (cnt 16) q9) 33 0)]) (by rw [upd2_k _ _ _ _ (by decide), hob]) ?_
  refine x_put E hw 33 0 (mI_lt hm (by decide)) (mI_at hm (by decide)) cl_10 ly_10 tyX10 tyX10_ok nmX10 16 (by decide) tw_558 (Or.inr ⟨rfl, hnm, rfl⟩) (by rfl) (by rfl) (by rw [mfj_len]; decide) dX10_init_90 (fun H locs hw => ?_)
  obtain ⟨cnt, ad, ct, hw, hm, hob⟩ : ∃ cnt9 ad9 ct9, wd D A s.heap cnt9 ad9 ct9 H locs ∧ mI ca cnt9 ad9 ct9 11 ∧ ad9 33 0 = ob := ⟨_, _, _, hw, mI_step hm 16 q9 (by decide) (by decide) (by decide) rfl rfl, by rw [upd2_k _ _ _ _ (by decide)]; exact hob⟩
  refine lv_aload_n hx hb dX10_init_93 rfl (lv_at hl 0 rfl) ?_
  refine lv_sipush (v := 1200) hx hb dX10_init_94 (by decide) ?_
  refine x_newa (atype := .boolean) (N' := 1200) E hw tw_642 17 2 rfl rfl rfl (by decide) (by decide) (by decide) (by decide) dX10_init_97 (fun q9 H hw => ?_)
  refine W.eq (g2 := F0 m 99 ls [.ref q9, .ref ((upd2 ad 17 (cnt 17) q9) 33 0)]) (by rw [upd2_k _ _ _ _ (by decide), hob]) ?_
  refine x_put E hw 33 0 (mI_lt hm (by decide)) (mI_at hm (by decide)) cl_10 ly_10 tyX10 tyX10_ok nmX10 17 (by decide) tw_559 (Or.inr ⟨rfl, hnm, rfl⟩) (by rfl) (by rfl) (by rw [mfj_len]; decide) dX10_init_99 (fun H locs hw => ?_)
  obtain ⟨cnt, ad, ct, hw, hm, hob⟩ : ∃ cnt9 ad9 ct9, wd D A s.heap cnt9 ad9 ct9 H locs ∧ mI ca cnt9 ad9 ct9 12 ∧ ad9 33 0 = ob := ⟨_, _, _, hw, mI_step hm 17 q9 (by decide) (by decide) (by decide) rfl rfl, by rw [upd2_k _ _ _ _ (by decide)]; exact hob⟩
  refine lv_aload_n hx hb dX10_init_102 rfl (lv_at hl 0 rfl) ?_
  refine lv_sipush (v := 300) hx hb dX10_init_103 (by decide) ?_
  refine x_newa (atype := .int) (N' := 300) E hw tw_66 18 1 rfl rfl rfl (by decide) (by decide) (by decide) (by decide) dX10_init_106 (fun q9 H hw => ?_)
  refine W.eq (g2 := F0 m 108 ls [.ref q9, .ref ((upd2 ad 18 (cnt 18) q9) 33 0)]) (by rw [upd2_k _ _ _ _ (by decide), hob]) ?_
  refine x_put E hw 33 0 (mI_lt hm (by decide)) (mI_at hm (by decide)) cl_10 ly_10 tyX10 tyX10_ok nmX10 18 (by decide) tw_560 (Or.inr ⟨rfl, hnm, rfl⟩) (by rfl) (by rfl) (by rw [mfj_len]; decide) dX10_init_108 (fun H locs hw => ?_)
  obtain ⟨cnt, ad, ct, hw, hm, hob⟩ : ∃ cnt9 ad9 ct9, wd D A s.heap cnt9 ad9 ct9 H locs ∧ mI ca cnt9 ad9 ct9 13 ∧ ad9 33 0 = ob := ⟨_, _, _, hw, mI_step hm 18 q9 (by decide) (by decide) (by decide) rfl rfl, by rw [upd2_k _ _ _ _ (by decide)]; exact hob⟩
  refine lv_aload_n hx hb dX10_init_111 rfl (lv_at hl 0 rfl) ?_
  refine lv_sipush (v := 300) hx hb dX10_init_112 (by decide) ?_
  refine x_newa (atype := .int) (N' := 300) E hw tw_66 19 1 rfl rfl rfl (by decide) (by decide) (by decide) (by decide) dX10_init_115 (fun q9 H hw => ?_)
  refine W.eq (g2 := F0 m 117 ls [.ref q9, .ref ((upd2 ad 19 (cnt 19) q9) 33 0)]) (by rw [upd2_k _ _ _ _ (by decide), hob]) ?_
  refine x_put E hw 33 0 (mI_lt hm (by decide)) (mI_at hm (by decide)) cl_10 ly_10 tyX10 tyX10_ok nmX10 19 (by decide) tw_561 (Or.inr ⟨rfl, hnm, rfl⟩) (by rfl) (by rfl) (by rw [mfj_len]; decide) dX10_init_117 (fun H locs hw => ?_)
  obtain ⟨cnt, ad, ct, hw, hm, hob⟩ : ∃ cnt9 ad9 ct9, wd D A s.heap cnt9 ad9 ct9 H locs ∧ mI ca cnt9 ad9 ct9 14 ∧ ad9 33 0 = ob := ⟨_, _, _, hw, mI_step hm 19 q9 (by decide) (by decide) (by decide) rfl rfl, by rw [upd2_k _ _ _ _ (by decide)]; exact hob⟩
  refine lv_aload_n hx hb dX10_init_120 rfl (lv_at hl 0 rfl) ?_
  refine lv_sipush (v := 300) hx hb dX10_init_121 (by decide) ?_
  refine x_newa (atype := .int) (N' := 300) E hw tw_66 20 1 rfl rfl rfl (by decide) (by decide) (by decide) (by decide) dX10_init_124 (fun q9 H hw => ?_)
  refine W.eq (g2 := F0 m 126 ls [.ref q9, .ref ((upd2 ad 20 (cnt 20) q9) 33 0)]) (by rw [upd2_k _ _ _ _ (by decide), hob]) ?_
  refine x_put E hw 33 0 (mI_lt hm (by decide)) (mI_at hm (by decide)) cl_10 ly_10 tyX10 tyX10_ok nmX10 20 (by decide) tw_562 (Or.inr ⟨rfl, hnm, rfl⟩) (by rfl) (by rfl) (by rw [mfj_len]; decide) dX10_init_126 (fun H locs hw => ?_)
  obtain ⟨cnt, ad, ct, hw, hm, hob⟩ : ∃ cnt9 ad9 ct9, wd D A s.heap cnt9 ad9 ct9 H locs ∧ mI ca cnt9 ad9 ct9 15 ∧ ad9 33 0 = ob := ⟨_, _, _, hw, mI_step hm 20 q9 (by decide) (by decide) (by decide) rfl rfl, by rw [upd2_k _ _ _ _ (by decide)]; exact hob⟩
  refine lv_aload_n hx hb dX10_init_129 rfl (lv_at hl 0 rfl) ?_
  refine lv_sipush (v := 300) hx hb dX10_init_130 (by decide) ?_
  refine x_newa (atype := .int) (N' := 300) E hw tw_66 21 1 rfl rfl rfl (by decide) (by decide) (by decide) (by decide) dX10_init_133 (fun q9 H hw => ?_)
  refine W.eq (g2 := F0 m 135 ls [.ref q9, .ref ((upd2 ad 21 (cnt 21) q9) 33 0)]) (by rw [upd2_k _ _ _ _ (by decide), hob]) ?_
  refine x_put E hw 33 0 (mI_lt hm (by decide)) (mI_at hm (by decide)) cl_10 ly_10 tyX10 tyX10_ok nmX10 21 (by decide) tw_563 (Or.inr ⟨rfl, hnm, rfl⟩) (by rfl) (by rfl) (by rw [mfj_len]; decide) dX10_init_135 (fun H locs hw => ?_)
  obtain ⟨cnt, ad, ct, hw, hm, hob⟩ : ∃ cnt9 ad9 ct9, wd D A s.heap cnt9 ad9 ct9 H locs ∧ mI ca cnt9 ad9 ct9 16 ∧ ad9 33 0 = ob := ⟨_, _, _, hw, mI_step hm 21 q9 (by decide) (by decide) (by decide) rfl rfl, by rw [upd2_k _ _ _ _ (by decide)]; exact hob⟩
  refine lv_aload_n hx hb dX10_init_138 rfl (lv_at hl 0 rfl) ?_
  refine lv_bipush (v := 13) hx hb dX10_init_139 (by decide) ?_
  refine x_newa (atype := .int) (N' := 13) E hw tw_66 22 1 rfl rfl rfl (by decide) (by decide) (by decide) (by decide) dX10_init_141 (fun q9 H hw => ?_)
  refine W.eq (g2 := F0 m 143 ls [.ref q9, .ref ((upd2 ad 22 (cnt 22) q9) 33 0)]) (by rw [upd2_k _ _ _ _ (by decide), hob]) ?_
  refine x_put E hw 33 0 (mI_lt hm (by decide)) (mI_at hm (by decide)) cl_10 ly_10 tyX10 tyX10_ok nmX10 22 (by decide) tw_564 (Or.inr ⟨rfl, hnm, rfl⟩) (by rfl) (by rfl) (by rw [mfj_len]; decide) dX10_init_143 (fun H locs hw => ?_)
  obtain ⟨cnt, ad, ct, hw, hm, hob⟩ : ∃ cnt9 ad9 ct9, wd D A s.heap cnt9 ad9 ct9 H locs ∧ mI ca cnt9 ad9 ct9 17 ∧ ad9 33 0 = ob := ⟨_, _, _, hw, mI_step hm 22 q9 (by decide) (by decide) (by decide) rfl rfl, by rw [upd2_k _ _ _ _ (by decide)]; exact hob⟩
  refine lv_aload_n hx hb dX10_init_146 rfl (lv_at hl 0 rfl) ?_
  refine lv_sipush (v := 26013) hx hb dX10_init_147 (by decide) ?_
  refine x_newa (atype := .boolean) (N' := 26013) E hw tw_642 23 2 rfl rfl rfl (by decide) (by decide) (by decide) (by decide) dX10_init_150 (fun q9 H hw => ?_)
  refine W.eq (g2 := F0 m 152 ls [.ref q9, .ref ((upd2 ad 23 (cnt 23) q9) 33 0)]) (by rw [upd2_k _ _ _ _ (by decide), hob]) ?_
  refine x_put E hw 33 0 (mI_lt hm (by decide)) (mI_at hm (by decide)) cl_10 ly_10 tyX10 tyX10_ok nmX10 23 (by decide) tw_565 (Or.inr ⟨rfl, hnm, rfl⟩) (by rfl) (by rfl) (by rw [mfj_len]; decide) dX10_init_152 (fun H locs hw => ?_)
  obtain ⟨cnt, ad, ct, hw, hm, hob⟩ : ∃ cnt9 ad9 ct9, wd D A s.heap cnt9 ad9 ct9 H locs ∧ mI ca cnt9 ad9 ct9 18 ∧ ad9 33 0 = ob := ⟨_, _, _, hw, mI_step hm 23 q9 (by decide) (by decide) (by decide) rfl rfl, by rw [upd2_k _ _ _ _ (by decide)]; exact hob⟩
  refine lv_aload_n hx hb dX10_init_155 rfl (lv_at hl 0 rfl) ?_
  refine lv_bipush (v := 100) hx hb dX10_init_156 (by decide) ?_
  refine x_newa (atype := .int) (N' := 100) E hw tw_66 24 1 rfl rfl rfl (by decide) (by decide) (by decide) (by decide) dX10_init_158 (fun q9 H hw => ?_)
  refine W.eq (g2 := F0 m 160 ls [.ref q9, .ref ((upd2 ad 24 (cnt 24) q9) 33 0)]) (by rw [upd2_k _ _ _ _ (by decide), hob]) ?_
  refine x_put E hw 33 0 (mI_lt hm (by decide)) (mI_at hm (by decide)) cl_10 ly_10 tyX10 tyX10_ok nmX10 24 (by decide) tw_566 (Or.inr ⟨rfl, hnm, rfl⟩) (by rfl) (by rfl) (by rw [mfj_len]; decide) dX10_init_160 (fun H locs hw => ?_)
  obtain ⟨cnt, ad, ct, hw, hm, hob⟩ : ∃ cnt9 ad9 ct9, wd D A s.heap cnt9 ad9 ct9 H locs ∧ mI ca cnt9 ad9 ct9 19 ∧ ad9 33 0 = ob := ⟨_, _, _, hw, mI_step hm 24 q9 (by decide) (by decide) (by decide) rfl rfl, by rw [upd2_k _ _ _ _ (by decide)]; exact hob⟩
  refine lv_aload_n hx hb dX10_init_163 rfl (lv_at hl 0 rfl) ?_
  refine lv_sipush (v := 240) hx hb dX10_init_164 (by decide) ?_
  refine x_newa (atype := .int) (N' := 240) E hw tw_66 25 1 rfl rfl rfl (by decide) (by decide) (by decide) (by decide) dX10_init_167 (fun q9 H hw => ?_)
  refine W.eq (g2 := F0 m 169 ls [.ref q9, .ref ((upd2 ad 25 (cnt 25) q9) 33 0)]) (by rw [upd2_k _ _ _ _ (by decide), hob]) ?_
  refine x_put E hw 33 0 (mI_lt hm (by decide)) (mI_at hm (by decide)) cl_10 ly_10 tyX10 tyX10_ok nmX10 25 (by decide) tw_567 (Or.inr ⟨rfl, hnm, rfl⟩) (by rfl) (by rfl) (by rw [mfj_len]; decide) dX10_init_169 (fun H locs hw => ?_)
  obtain ⟨cnt, ad, ct, hw, hm, hob⟩ : ∃ cnt9 ad9 ct9, wd D A s.heap cnt9 ad9 ct9 H locs ∧ mI ca cnt9 ad9 ct9 20 ∧ ad9 33 0 = ob := ⟨_, _, _, hw, mI_step hm 25 q9 (by decide) (by decide) (by decide) rfl rfl, by rw [upd2_k _ _ _ _ (by decide)]; exact hob⟩
  refine lv_aload_n hx hb dX10_init_172 rfl (lv_at hl 0 rfl) ?_
  refine lv_sipush (v := 240) hx hb dX10_init_173 (by decide) ?_
  refine x_newa (atype := .int) (N' := 240) E hw tw_66 26 1 rfl rfl rfl (by decide) (by decide) (by decide) (by decide) dX10_init_176 (fun q9 H hw => ?_)
  refine W.eq (g2 := F0 m 178 ls [.ref q9, .ref ((upd2 ad 26 (cnt 26) q9) 33 0)]) (by rw [upd2_k _ _ _ _ (by decide), hob]) ?_
  refine x_put E hw 33 0 (mI_lt hm (by decide)) (mI_at hm (by decide)) cl_10 ly_10 tyX10 tyX10_ok nmX10 26 (by decide) tw_568 (Or.inr ⟨rfl, hnm, rfl⟩) (by rfl) (by rfl) (by rw [mfj_len]; decide) dX10_init_178 (fun H locs hw => ?_)
  obtain ⟨cnt, ad, ct, hw, hm, hob⟩ : ∃ cnt9 ad9 ct9, wd D A s.heap cnt9 ad9 ct9 H locs ∧ mI ca cnt9 ad9 ct9 21 ∧ ad9 33 0 = ob := ⟨_, _, _, hw, mI_step hm 26 q9 (by decide) (by decide) (by decide) rfl rfl, by rw [upd2_k _ _ _ _ (by decide)]; exact hob⟩
  refine lv_aload_n hx hb dX10_init_181 rfl (lv_at hl 0 rfl) ?_
  refine lv_bipush (v := 120) hx hb dX10_init_182 (by decide) ?_
  refine x_newa (atype := .boolean) (N' := 120) E hw tw_642 32 2 rfl rfl rfl (by decide) (by decide) (by decide) (by decide) dX10_init_184 (fun q9 H hw => ?_)
  refine W.eq (g2 := F0 m 186 ls [.ref q9, .ref ((upd2 ad 32 (cnt 32) q9) 33 0)]) (by rw [upd2_k _ _ _ _ (by decide), hob]) ?_
  refine x_put E hw 33 0 (mI_lt hm (by decide)) (mI_at hm (by decide)) cl_10 ly_10 tyX10 tyX10_ok nmX10 32 (by decide) tw_574 (Or.inr ⟨rfl, hnm, rfl⟩) (by rfl) (by rfl) (by rw [mfj_len]; decide) dX10_init_186 (fun H locs hw => ?_)
  obtain ⟨cnt, ad, ct, hw, hm, hob⟩ : ∃ cnt9 ad9 ct9, wd D A s.heap cnt9 ad9 ct9 H locs ∧ mI ca cnt9 ad9 ct9 22 ∧ ad9 33 0 = ob := ⟨_, _, _, hw, mI_step hm 32 q9 (by decide) (by decide) (by decide) rfl rfl, by rw [upd2_k _ _ _ _ (by decide)]; exact hob⟩
  have hcm : cnt = mcnt := mI_cnt hm
  subst hcm
  have hw : mw D A s.heap ca ad v0 (bdG 0) H locs := by rw [bdG_0]; exact hw.ct (mI_ct hm)
  rw [← hob] at hl
  have hl : lv_has ls 2 [(0, .ref (ad 33 0))] := hl
  refine lv_iconst (v := 1) hx hb dX10_init_189 (by decide) ?_
  refine lv_istore_n (lv' := [(1, .int 1), (0, .ref (ad 33 0))]) hx hb dX10_init_190 rfl hl (by decide) rfl (fun ls hl => ?_)
  have lp191 : ∀ (n : Nat) (z : Nat), (z ≤ 12) → (12 - z < n) → ∀ (H : Heap) (locs : List Loc), mw D A s.heap ca ad v0 (bdG z) H locs → ∀ ls : Array Slot, lv_has ls 2 [(0, .ref (ad 33 0)), (1, .int (nI (z + 1)))] → W p l e (rmL 2 22 30676) s m args below meth c H locs 22 30676 Q (F0 m 191 ls []) := by
    intro n
    induction n with
    | zero =>
      intro z hz hfu H locs hw ls hl
      exact absurd hfu (by omega)
    | succ n ih191 =>
      intro z hz hfu H locs hw ls hl
      refine lv_iload_n hx hb dX10_init_191 rfl (lv_at hl 1 rfl) ?_
      refine lv_bipush (v := 13) hx hb dX10_init_192 (by decide) ?_
      refine lv_icmp_ge (tgt := 210) hx hb dX10_init_194 (by decide) (fun c_194 => ?_) (fun c_194 => ?_)
      · skip
        have hz12 : z = 12 := by have q9 := (nI_leI (a := 13) (b := z + 1) (by omega) (by omega)).mp c_194; omega
        subst hQ
        exact x_vretW E hr hlk hw (by decide) (by decide) (⟨rfl, ad, hob, by subst hz12; rfl⟩) dX10_init_210
      · skip
        have hz12 : z < 12 := by have q9 := mt (nI_leI (a := 13) (b := z + 1) (by omega) (by omega)).mpr c_194; omega
        refine lv_aload_n hx hb dX10_init_197 rfl (lv_at hl 0 rfl) ?_
        refine m_getr E hw 22 (by decide) rfl tw_564 dX10_init_198 ?_
        refine lv_iload_n hx hb dX10_init_201 rfl (lv_at hl 1 rfl) ?_
        refine lv_iconst (v := 2) hx hb dX10_init_202 (by decide) ?_
        refine m_ist E hw 22 ⟨by decide, rfl, rfl⟩ (z + 1) (rfl) (by show z + 1 < 13; omega) dX10_init_203 (fun H locs hw => ?_)
        refine lv_iinc (v := (nI ((z + 1) + 1))) (lv' := [(1, .int (nI ((z + 1) + 1))), (0, .ref (ad 33 0))]) hx hb dX10_init_204 hl (k := 1) rfl (nI_1 _) (by decide) rfl (fun ls hl => ?_)
        refine lv_goto (tgt := 191) hx hb dX10_init_207 (by decide) ?_
        exact ih191 (z + 1) (by omega) (by omega) _ _ (by rw [← bdG_s]; exact hw) ls (lv_sub hl [1, 0] (rfl))
  exact lp191 13 0 (Nat.zero_le _) (by omega) _ _ (hw) ls (lv_sub hl [1, 0] (rfl))
