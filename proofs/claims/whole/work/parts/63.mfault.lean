set_option maxHeartbeats 4000000 in
set_option maxRecDepth 100000 in
theorem kX10_peek (l : Launch) (D : va_G) (ca : Nat → ClassId) (ad : Nat → Nat → Nat) (z9 : Nat) (v : Nat → Int32) (g : Nat → Nat → Int32) (tn : Nat) (a : Nat) (x29 : Int32) (x30 : Int32) (x31 : Int32) (sy : Nat → Int32) (htn : tn ≤ 100) (h27 : v 27 = nI tn) (ha : a ≤ tn) : Met l yX10_peek (wz yX10_peek cX10_peek 1 (some .int)) (rmL 1 0 0) (va_Pc [.ref (ad 33 0)] (fun U => (U.heap.size = z9 ∧ mq D ca ad (vq v (nI a) x29 x30 x31) (gr g 26 sy) U.heap) ∧ gK D ca U)) (QcW D (wA mcnt ad z9) (fun rv u => rv = some (.int ((tC (g 24) tn) (pSk (tC (g 24) tn) tn a))) ∧ u = (mcnt, ad, mct ca ad (vq v (nI (pSk (tC (g 24) tn) tn a)) x29 x30 x31) (gr g 26 sy)))) 0 0 (wA mcnt ad z9) := by
  refine x_met (by decide) (Nat.le_of_ble_eq_true rfl) ?_
  intro p e s m below meth c E hr hlk hnm hq ls hl
  obtain ⟨hsz9, hq⟩ := hq
  subst hsz9
  generalize hav : ([.ref (ad 33 0)] : List Value).toArray = args at E ⊢
  have hx := E.1
  have hb := E.2.1
  have hown := E.2.2.2.1
  have hts := E.2.2.2.2.1
  have hw : mw D (wA mcnt ad s.heap.size) s.heap ca ad (vq v (nI a) x29 x30 x31) (gr g 26 sy) s.heap [] := wd.start hq
  generalize hQ : MQ below (QcW D (wA mcnt ad s.heap.size) (fun rv u => rv = some (.int ((tC (g 24) tn) (pSk (tC (g 24) tn) tn a))) ∧ u = (mcnt, ad, mct ca ad (vq v (nI (pSk (tC (g 24) tn) tn a)) x29 x30 x31) (gr g 26 sy)))) args s 0 0 (wA mcnt ad s.heap.size) = Q
  generalize hA9 : wA mcnt ad s.heap.size = A at hw hQ
  have hl : lv_has ls 1 [(0, .ref (ad 33 0))] := hl
  suffices hgo : ∀ (H : Heap) (locs : List Loc), mw D A s.heap ca ad (vq v (nI a) x29 x30 x31) (gr g 26 sy) H locs → W p l e (rmL 1 0 0) s m args below meth c H locs 0 0 Q (F0 m 0 ls []) from hgo _ _ hw
  clear hw
  intro H locs hw
  have lp0 : ∀ (n : Nat) (b : Nat), (b ≤ tn) → (pSk (tC (g 24) tn) tn b = pSk (tC (g 24) tn) tn a) → (tn - b < n) → ∀ (H : Heap) (locs : List Loc), mw D A s.heap ca ad (vq v (nI b) x29 x30 x31) (gr g 26 sy) H locs → ∀ ls : Array Slot, lv_has ls 1 [(0, .ref (ad 33 0))] → W p l e (rmL 1 0 0) s m args below meth c H locs 0 0 Q (F0 m 0 ls []) := by
    intro n
    induction n with
    | zero =>
      intro b hbt hk hfu H locs hw ls hl
      exact absurd hfu (by omega)
    | succ n ih0 =>
      intro b hbt hk hfu H locs hw ls hl
      refine lv_aload_n hx hb dX10_peek_0 rfl (lv_at hl 0 rfl) ?_
      refine m_geti (x := (nI b)) E hw 28 (by decide) rfl tw_570 (rfl) dX10_peek_1 ?_
      refine lv_aload_n hx hb dX10_peek_4 rfl (lv_at hl 0 rfl) ?_
      refine m_geti (x := (nI tn)) E hw 27 (by decide) rfl tw_569 (h27) dX10_peek_5 ?_
      refine lv_icmp_ge (tgt := 38) hx hb dX10_peek_8 (by decide) (fun c_8 => ?_) (fun c_8 => ?_)
      · skip
        have hbl : ¬ b < tn := by have q9 := (nI_leI (a := tn) (b := b) (by omega) (by omega)).mp c_8; omega
        have hbk : pSk (tC (g 24) tn) tn b = b := pSk_n (fun q => hbl q.1)
        refine lv_aload_n hx hb dX10_peek_38 rfl (lv_at hl 0 rfl) ?_
        refine m_geti (x := (nI b)) E hw 28 (by decide) rfl tw_570 (rfl) dX10_peek_39 ?_
        refine lv_aload_n hx hb dX10_peek_42 rfl (lv_at hl 0 rfl) ?_
        refine m_geti (x := (nI tn)) E hw 27 (by decide) rfl tw_569 (h27) dX10_peek_43 ?_
        refine lv_icmp_ge (tgt := 61) hx hb dX10_peek_46 (by decide) (fun c_46 => ?_) (fun c_46 => ?_)
        · skip
          have hc_x : ¬ b < tn := by have q9 := (nI_leI (a := tn) (b := b) (by omega) (by omega)).mp c_46; omega
          refine lv_iconst (v := (-1)) hx hb dX10_peek_61 (by decide) ?_
          subst hQ
          exact x_iretW E hr hlk hw (by decide) (by decide) (⟨by first | (rw [← hk, hbk, tC_ge hc_x]; done) | rw [← hk, hbk, tC_lt hc_x], by rw [← hk, hbk]⟩) dX10_peek_62
        · skip
          have hc_x : b < tn := by have q9 := mt (nI_leI (a := tn) (b := b) (by omega) (by omega)).mpr c_46; omega
          refine lv_aload_n hx hb dX10_peek_49 rfl (lv_at hl 0 rfl) ?_
          refine m_getr E hw 24 (by decide) rfl tw_566 dX10_peek_50 ?_
          refine lv_aload_n hx hb dX10_peek_53 rfl (lv_at hl 0 rfl) ?_
          refine m_geti (x := (nI b)) E hw 28 (by decide) rfl tw_570 (rfl) dX10_peek_54 ?_
          refine m_ild E hw 24 ⟨by decide, rfl, rfl⟩ b (rfl) (by show b < 100; omega) dX10_peek_57 ?_
          refine x_top (x := (gr g 26 sy) 24 b) (y := g 24 b) rfl ?_
          refine lv_goto (tgt := 62) hx hb dX10_peek_58 (by decide) ?_
          subst hQ
          exact x_iretW E hr hlk hw (by decide) (by decide) (⟨by first | (rw [← hk, hbk, tC_ge hc_x]; done) | rw [← hk, hbk, tC_lt hc_x], by rw [← hk, hbk]⟩) dX10_peek_62
      · skip
        have hbl : b < tn := by have q9 := mt (nI_leI (a := tn) (b := b) (by omega) (by omega)).mpr c_8; omega
        refine lv_aload_n hx hb dX10_peek_11 rfl (lv_at hl 0 rfl) ?_
        refine m_getr E hw 24 (by decide) rfl tw_566 dX10_peek_12 ?_
        refine lv_aload_n hx hb dX10_peek_15 rfl (lv_at hl 0 rfl) ?_
        refine m_geti (x := (nI b)) E hw 28 (by decide) rfl tw_570 (rfl) dX10_peek_16 ?_
        refine m_ild E hw 24 ⟨by decide, rfl, rfl⟩ b (rfl) (by show b < 100; omega) dX10_peek_19 ?_
        refine x_top (x := (gr g 26 sy) 24 b) (y := g 24 b) rfl ?_
        refine lv_bipush (v := 32) hx hb dX10_peek_20 (by decide) ?_
        refine lv_icmp_ne (tgt := 38) hx hb dX10_peek_22 (by decide) (fun c_22 => ?_) (fun c_22 => ?_)
        · skip
          have hbk : pSk (tC (g 24) tn) tn b = b := pSk_n (fun q => c_22 (by rw [← tC_lt (tx := g 24) hbl]; exact q.2))
          refine lv_aload_n hx hb dX10_peek_38 rfl (lv_at hl 0 rfl) ?_
          refine m_geti (x := (nI b)) E hw 28 (by decide) rfl tw_570 (rfl) dX10_peek_39 ?_
          refine lv_aload_n hx hb dX10_peek_42 rfl (lv_at hl 0 rfl) ?_
          refine m_geti (x := (nI tn)) E hw 27 (by decide) rfl tw_569 (h27) dX10_peek_43 ?_
          refine lv_icmp_ge (tgt := 61) hx hb dX10_peek_46 (by decide) (fun c_46 => ?_) (fun c_46 => ?_)
          · skip
            have hc_x : ¬ b < tn := by have q9 := (nI_leI (a := tn) (b := b) (by omega) (by omega)).mp c_46; omega
            refine lv_iconst (v := (-1)) hx hb dX10_peek_61 (by decide) ?_
            subst hQ
            exact x_iretW E hr hlk hw (by decide) (by decide) (⟨by first | (rw [← hk, hbk, tC_ge hc_x]; done) | rw [← hk, hbk, tC_lt hc_x], by rw [← hk, hbk]⟩) dX10_peek_62
          · skip
            have hc_x : b < tn := by have q9 := mt (nI_leI (a := tn) (b := b) (by omega) (by omega)).mpr c_46; omega
            refine lv_aload_n hx hb dX10_peek_49 rfl (lv_at hl 0 rfl) ?_
            refine m_getr E hw 24 (by decide) rfl tw_566 dX10_peek_50 ?_
            refine lv_aload_n hx hb dX10_peek_53 rfl (lv_at hl 0 rfl) ?_
            refine m_geti (x := (nI b)) E hw 28 (by decide) rfl tw_570 (rfl) dX10_peek_54 ?_
            refine m_ild E hw 24 ⟨by decide, rfl, rfl⟩ b (rfl) (by show b < 100; omega) dX10_peek_57 ?_
            refine x_top (x := (gr g 26 sy) 24 b) (y := g 24 b) rfl ?_
            refine lv_goto (tgt := 62) hx hb dX10_peek_58 (by decide) ?_
            subst hQ
            exact x_iretW E hr hlk hw (by decide) (by decide) (⟨by first | (rw [← hk, hbk, tC_ge hc_x]; done) | rw [← hk, hbk, tC_lt hc_x], by rw [← hk, hbk]⟩) dX10_peek_62
        · skip
          refine lv_aload_n hx hb dX10_peek_25 rfl (lv_at hl 0 rfl) ?_
          refine lv_dup hx hb dX10_peek_26 rfl ?_
          refine m_geti (x := (nI b)) E hw 28 (by decide) rfl tw_570 (rfl) dX10_peek_27 ?_
          refine lv_iconst (v := 1) hx hb dX10_peek_30 (by decide) ?_
          refine lv_iadd hx hb dX10_peek_31 ?_
          refine x_top (x := (nI b + 1)) (y := nI (b + 1)) (nI_1 _) ?_
          refine m_put E hw 28 (by decide) rfl tw_570 dX10_peek_32 (fun H locs hw => ?_)
          rw [vq_28] at hw
          refine lv_goto (tgt := 0) hx hb dX10_peek_35 (by decide) ?_
          exact ih0 (b + 1) (hbl) (by rw [← hk, pSk_y hbl (by rw [tC_lt hbl]; exact c_22)]) (by omega) _ _ (hw) ls (lv_sub hl [0] (rfl))
  exact lp0 (tn + 1) a (ha) (rfl) (by omega) _ _ (hw) ls (lv_sub hl [0] (rfl))
set_option maxHeartbeats 4000000 in
set_option maxRecDepth 100000 in
theorem kX10_fail (l : Launch) (D : va_G) (ca : Nat → ClassId) (ad : Nat → Nat → Nat) (z9 : Nat) (v : Nat → Int32) (g : Nat → Nat → Int32) (a : Nat) (x30 : Int32) (x31 : Int32) (sy : Nat → Int32)  : Met l yX10_fail (wz yX10_fail cX10_fail 1 none) (rmL 1 0 0) (va_Pc [.ref (ad 33 0)] (fun U => (U.heap.size = z9 ∧ mq D ca ad (vq v (nI a) (-1) x30 x31) (gr g 26 sy) U.heap) ∧ gK D ca U)) (QcW D (wA mcnt ad z9) (fun rv u => rv = none ∧ u = (mcnt, ad, mct ca ad (vq v (nI a) (nI a) x30 x31) (gr g 26 sy)))) 0 0 (wA mcnt ad z9) := by
  refine x_met (by decide) (Nat.le_of_ble_eq_true rfl) ?_
  intro p e s m below meth c E hr hlk hnm hq ls hl
  obtain ⟨hsz9, hq⟩ := hq
  subst hsz9
  generalize hav : ([.ref (ad 33 0)] : List Value).toArray = args at E ⊢
  have hx := E.1
  have hb := E.2.1
  have hown := E.2.2.2.1
  have hts := E.2.2.2.2.1
  have hw : mw D (wA mcnt ad s.heap.size) s.heap ca ad (vq v (nI a) (-1) x30 x31) (gr g 26 sy) s.heap [] := wd.start hq
  generalize hQ : MQ below (QcW D (wA mcnt ad s.heap.size) (fun rv u => rv = none ∧ u = (mcnt, ad, mct ca ad (vq v (nI a) (nI a) x30 x31) (gr g 26 sy)))) args s 0 0 (wA mcnt ad s.heap.size) = Q
  generalize hA9 : wA mcnt ad s.heap.size = A at hw hQ
  have hl : lv_has ls 1 [(0, .ref (ad 33 0))] := hl
  suffices hgo : ∀ (H : Heap) (locs : List Loc), mw D A s.heap ca ad (vq v (nI a) (-1) x30 x31) (gr g 26 sy) H locs → W p l e (rmL 1 0 0) s m args below meth c H locs 0 0 Q (F0 m 0 ls []) from hgo _ _ hw
  clear hw
  intro H locs hw
  refine lv_aload_n hx hb dX10_fail_0 rfl (lv_at hl 0 rfl) ?_
  refine lv_aload_n hx hb dX10_fail_1 rfl (lv_at hl 0 rfl) ?_
  refine m_geti (x := (-1)) E hw 29 (by decide) rfl tw_571 (rfl) dX10_fail_2 ?_
  refine lv_iconst (v := (-1)) hx hb dX10_fail_5 (by decide) ?_
  refine lv_icmp_ne (tgt := 16) hx hb dX10_fail_6 (by decide) (fun c_6 => ?_) (fun c_6 => ?_)
  · skip
    exact absurd c_6 (by decide)
  · skip
    refine lv_aload_n hx hb dX10_fail_9 rfl (lv_at hl 0 rfl) ?_
    refine m_geti (x := (nI a)) E hw 28 (by decide) rfl tw_570 (rfl) dX10_fail_10 ?_
    refine lv_goto (tgt := 20) hx hb dX10_fail_13 (by decide) ?_
    refine m_put E hw 29 (by decide) rfl tw_571 dX10_fail_20 (fun H locs hw => ?_)
    rw [vq_29] at hw
    subst hQ
    exact x_vretW E hr hlk hw (by decide) (by decide) (⟨rfl, rfl⟩) dX10_fail_23
set_option maxHeartbeats 4000000 in
set_option maxRecDepth 100000 in
theorem kX10_say (l : Launch) (D : va_G) (ca : Nat → ClassId) (ad : Nat → Nat → Nat) (z9 : Nat) (v : Nat → Int32) (g : Nat → Nat → Int32) (x8 : Int32) (x29 : Int32) (x30 : Int32) (sd : Nat) (sy : Nat → Int32) (a1 : Int32) (hsd : sd < 240) : Met l yX10_say (wz yX10_say cX10_say 2 none) (rmL 1 0 0) (va_Pc [.ref (ad 33 0), .int a1] (fun U => (U.heap.size = z9 ∧ mq D ca ad (vq v x8 x29 x30 (nI sd)) (gr g 26 sy) U.heap) ∧ gK D ca U)) (QcW D (wA mcnt ad z9) (fun rv u => rv = none ∧ u = (mcnt, ad, mct ca ad (vq v x8 x29 x30 (nI (sd + 1))) (gr g 26 (upd sy sd a1))))) 0 0 (wA mcnt ad z9) := by
  refine x_met (by decide) (Nat.le_of_ble_eq_true rfl) ?_
  intro p e s m below meth c E hr hlk hnm hq ls hl
  obtain ⟨hsz9, hq⟩ := hq
  subst hsz9
  generalize hav : ([.ref (ad 33 0), .int a1] : List Value).toArray = args at E ⊢
  have hx := E.1
  have hb := E.2.1
  have hown := E.2.2.2.1
  have hts := E.2.2.2.2.1
  have hw : mw D (wA mcnt ad s.heap.size) s.heap ca ad (vq v x8 x29 x30 (nI sd)) (gr g 26 sy) s.heap [] := wd.start hq
  generalize hQ : MQ below (QcW D (wA mcnt ad s.heap.size) (fun rv u => rv = none ∧ u = (mcnt, ad, mct ca ad (vq v x8 x29 x30 (nI (sd + 1))) (gr g 26 (upd sy sd a1))))) args s 0 0 (wA mcnt ad s.heap.size) = Q
  generalize hA9 : wA mcnt ad s.heap.size = A at hw hQ
  have hl : lv_has ls 2 [(0, .ref (ad 33 0)), (1, .int a1)] := hl
  suffices hgo : ∀ (H : Heap) (locs : List Loc), mw D A s.heap ca ad (vq v x8 x29 x30 (nI sd)) (gr g 26 sy) H locs → W p l e (rmL 1 0 0) s m args below meth c H locs 0 0 Q (F0 m 0 ls []) from hgo _ _ hw
  clear hw
  intro H locs hw
  refine lv_aload_n hx hb dX10_say_0 rfl (lv_at hl 0 rfl) ?_
  refine m_getr E hw 26 (by decide) rfl tw_568 dX10_say_1 ?_
  refine lv_aload_n hx hb dX10_say_4 rfl (lv_at hl 0 rfl) ?_
  refine m_geti (x := (nI sd)) E hw 31 (by decide) rfl tw_573 (rfl) dX10_say_5 ?_
  refine lv_iload_n hx hb dX10_say_8 rfl (lv_at hl 1 rfl) ?_
  refine m_ist E hw 26 ⟨by decide, rfl, rfl⟩ sd (rfl) (by show sd < 240; omega) dX10_say_9 (fun H locs hw => ?_)
  rw [gr_u] at hw
  refine lv_aload_n hx hb dX10_say_10 rfl (lv_at hl 0 rfl) ?_
  refine lv_dup hx hb dX10_say_11 rfl ?_
  refine m_geti (x := (nI sd)) E hw 31 (by decide) rfl tw_573 (rfl) dX10_say_12 ?_
  refine lv_iconst (v := 1) hx hb dX10_say_15 (by decide) ?_
  refine lv_iadd hx hb dX10_say_16 ?_
  refine x_top (x := (nI sd + 1)) (y := nI (sd + 1)) (nI_1 _) ?_
  refine m_put E hw 31 (by decide) rfl tw_573 dX10_say_17 (fun H locs hw => ?_)
  rw [vq_31] at hw
  subst hQ
  exact x_vretW E hr hlk hw (by decide) (by decide) (⟨rfl, rfl⟩) dX10_say_20
set_option maxHeartbeats 4000000 in
set_option maxRecDepth 100000 in
theorem kX10_unit (l : Launch) (D : va_G) (ca : Nat → ClassId) (ad : Nat → Nat → Nat) (z9 : Nat) (v : Nat → Int32) (g : Nat → Nat → Int32) (tn : Nat) (a : Nat) (r : Nat) (sd : Nat) (sy : Nat → Int32) (htn : tn ≤ 100) (h27 : v 27 = nI tn) (ha : a ≤ tn) (hr8 : r ≤ 8) (hsd : sd ≤ 2 * a) (ih : ∀ r1, r = r1 + 1 → KT l D ca r1) : Met l yX10_unit (wz yX10_unit cX10_unit 6 none) (rmL (3 * r + 2) 0 0) (va_Pc [.ref (ad 33 0)] (fun U => (U.heap.size = z9 ∧ mq D ca ad (vq v (nI a) (-1) (nI (8 - r)) (nI sd)) (gr g 26 sy) U.heap) ∧ gK D ca U)) (QcW D (wA mcnt ad z9) (fun rv u => ∃ a9 w9 sd9 sy9, rv = none ∧ u = (mcnt, ad, mct ca ad (vq v (nI a9) w9 (nI (8 - r)) (nI sd9)) (gr g 26 sy9)) ∧ uPo tn r a sd sy (pU (tC (g 24) tn) tn r a) a9 w9 sd9 sy9)) 0 0 (wA mcnt ad z9) := by
  refine x_met (by decide) (Nat.le_of_ble_eq_true rfl) ?_
  intro p e s m below meth c E hr hlk hnm hq ls hl
  obtain ⟨hsz9, hq⟩ := hq
  subst hsz9
  generalize hav : ([.ref (ad 33 0)] : List Value).toArray = args at E ⊢
  have hx := E.1
  have hb := E.2.1
  have hown := E.2.2.2.1
  have hts := E.2.2.2.2.1
  have hw : mw D (wA mcnt ad s.heap.size) s.heap ca ad (vq v (nI a) (-1) (nI (8 - r)) (nI sd)) (gr g 26 sy) s.heap [] := wd.start hq
  generalize hQ : MQ below (QcW D (wA mcnt ad s.heap.size) (fun rv u => ∃ a9 w9 sd9 sy9, rv = none ∧ u = (mcnt, ad, mct ca ad (vq v (nI a9) w9 (nI (8 - r)) (nI sd9)) (gr g 26 sy9)) ∧ uPo tn r a sd sy (pU (tC (g 24) tn) tn r a) a9 w9 sd9 sy9)) args s 0 0 (wA mcnt ad s.heap.size) = Q
  generalize hA9 : wA mcnt ad s.heap.size = A at hw hQ
  have hl : lv_has ls 6 [(0, .ref (ad 33 0))] := hl
  suffices hgo : ∀ (H : Heap) (locs : List Loc), mw D A s.heap ca ad (vq v (nI a) (-1) (nI (8 - r)) (nI sd)) (gr g 26 sy) H locs → W p l e (rmL (3 * r + 2) 0 0) s m args below meth c H locs 0 0 Q (F0 m 0 ls []) from hgo _ _ hw
  clear hw
  intro H locs hw
  refine lv_aload_n hx hb dX10_unit_0 rfl (lv_at hl 0 rfl) ?_
  refine x_wrote hw (x_runV (rest := []) E cbX10_peek tw_785 (kX10_peek l D ca ad H.size v g tn a (-1) (nI (8 - r)) (nI sd) sy htn h27 (by omega)) ⟨rfl, rfl, by dsimp only [rmL]; omega, by dsimp only [rmL]; omega⟩ (m_recv E hw) (fun _ _ _ _ h => h) (fun U hU _ => by rw [hU]; exact ⟨rfl, hw.1⟩) rfl hl.1 rfl (Nat.le_of_ble_eq_true rfl) dX10_unit_1 ⟨Nat.le_refl _, Nat.le_refl _⟩) (fun rv9 u9 H locs hp9 hw hz9 hk9 => ?_)
  obtain ⟨hrv9, hu9⟩ := hp9
  obtain ⟨k1, hk1⟩ : ∃ z, z = pSk (tC (g 24) tn) tn a := ⟨_, rfl⟩
  rw [← hk1] at hrv9 hu9
  have hkg1 : a ≤ k1 := by rw [hk1]; exact pSk_ge _ _ _
  have hkl1 : k1 ≤ tn := by rw [hk1]; exact pSk_le (by omega)
  subst hrv9
  subst hu9
  have hw : mw D A s.heap ca ad (vq v (nI k1) (-1) (nI (8 - r)) (nI sd)) (gr g 26 sy) H locs := hw
  refine lv_istore_n (lv' := [(1, .int ((tC (g 24) tn) k1)), (0, .ref (ad 33 0))]) hx hb dX10_unit_4 rfl hl (by decide) rfl (fun ls hl => ?_)
  have lp86 : (pU (tC (g 24) tn) tn r a = pTe (tC (g 24) tn) tn k1) → ∀ (H : Heap) (locs : List Loc), mw D A s.heap ca ad (vq v (nI k1) (-1) (nI (8 - r)) (nI sd)) (gr g 26 sy) H locs → ∀ ls : Array Slot, lv_has ls 6 [(0, .ref (ad 33 0)), (1, .int ((tC (g 24) tn) k1))] → W p l e (rmL (3 * r + 2) 0 0) s m args below meth c H locs 0 0 Q (F0 m 86 ls []) := by
    intro  h86 H locs hw ls hl
    have lp121 : (isL ((tC (g 24) tn) k1) = true) → ∀ (H : Heap) (locs : List Loc), mw D A s.heap ca ad (vq v (nI k1) (-1) (nI (8 - r)) (nI sd)) (gr g 26 sy) H locs → ∀ ls : Array Slot, lv_has ls 6 [(0, .ref (ad 33 0)), (1, .int ((tC (g 24) tn) k1))] → W p l e (rmL (3 * r + 2) 0 0) s m args below meth c H locs 0 0 Q (F0 m 121 ls []) := by
      intro  hL H locs hw ls hl
      have hk1t : k1 < tn := isL_lt hL
      refine lv_aload_n hx hb dX10_unit_121 rfl (lv_at hl 0 rfl) ?_
      refine lv_dup hx hb dX10_unit_122 rfl ?_
      refine m_geti (x := (nI k1)) E hw 28 (by decide) rfl tw_570 (rfl) dX10_unit_123 ?_
      refine lv_iconst (v := 1) hx hb dX10_unit_126 (by decide) ?_
      refine lv_iadd hx hb dX10_unit_127 ?_
      refine x_top (x := (nI k1 + 1)) (y := nI (k1 + 1)) (nI_1 _) ?_
      refine m_put E hw 28 (by decide) rfl tw_570 dX10_unit_128 (fun H locs hw => ?_)
      rw [vq_28] at hw
      refine lv_aload_n hx hb dX10_unit_131 rfl (lv_at hl 0 rfl) ?_
      refine x_wrote hw (x_runV (rest := []) E cbX10_peek tw_785 (kX10_peek l D ca ad H.size v g tn (k1 + 1) (-1) (nI (8 - r)) (nI sd) sy htn h27 (by omega)) ⟨rfl, rfl, by dsimp only [rmL]; omega, by dsimp only [rmL]; omega⟩ (m_recv E hw) (fun _ _ _ _ h => h) (fun U hU _ => by rw [hU]; exact ⟨rfl, hw.1⟩) rfl hl.1 rfl (Nat.le_of_ble_eq_true rfl) dX10_unit_132 ⟨Nat.le_refl _, Nat.le_refl _⟩) (fun rv9 u9 H locs hp9 hw hz9 hk9 => ?_)
      obtain ⟨hrv9, hu9⟩ := hp9
      obtain ⟨k132, hk132⟩ : ∃ z, z = pSk (tC (g 24) tn) tn (k1 + 1) := ⟨_, rfl⟩
      rw [← hk132] at hrv9 hu9
      have hkg132 : (k1 + 1) ≤ k132 := by rw [hk132]; exact pSk_ge _ _ _
      have hkl132 : k132 ≤ tn := by rw [hk132]; exact pSk_le (by omega)
      subst hrv9
      subst hu9
      have hw : mw D A s.heap ca ad (vq v (nI k132) (-1) (nI (8 - r)) (nI sd)) (gr g 26 sy) H locs := hw
      refine lv_istore_n (lv' := [(2, .int ((tC (g 24) tn) k132)), (0, .ref (ad 33 0)), (1, .int ((tC (g 24) tn) k1))]) hx hb dX10_unit_135 rfl hl (by decide) rfl (fun ls hl => ?_)
      have lp159 : (isS ((tC (g 24) tn) k132) = true) → ∀ (H : Heap) (locs : List Loc), mw D A s.heap ca ad (vq v (nI k132) (-1) (nI (8 - r)) (nI sd)) (gr g 26 sy) H locs → ∀ ls : Array Slot, lv_has ls 6 [(0, .ref (ad 33 0)), (1, .int ((tC (g 24) tn) k1)), (2, .int ((tC (g 24) tn) k132))] → W p l e (rmL (3 * r + 2) 0 0) s m args below meth c H locs 0 0 Q (F0 m 159 ls []) := by
        intro  hS H locs hw ls hl
        have hk132t : k132 < tn := isS_lt hS
        refine lv_aload_n hx hb dX10_unit_159 rfl (lv_at hl 0 rfl) ?_
        refine lv_dup hx hb dX10_unit_160 rfl ?_
        refine m_geti (x := (nI k132)) E hw 28 (by decide) rfl tw_570 (rfl) dX10_unit_161 ?_
        refine lv_iconst (v := 1) hx hb dX10_unit_164 (by decide) ?_
        refine lv_iadd hx hb dX10_unit_165 ?_
        refine x_top (x := (nI k132 + 1)) (y := nI (k132 + 1)) (nI_1 _) ?_
        refine m_put E hw 28 (by decide) rfl tw_570 dX10_unit_166 (fun H locs hw => ?_)
        rw [vq_28] at hw
        refine lv_aload_n hx hb dX10_unit_169 rfl (lv_at hl 0 rfl) ?_
        refine x_wrote hw (x_runV (rest := []) E cbX10_peek tw_785 (kX10_peek l D ca ad H.size v g tn (k132 + 1) (-1) (nI (8 - r)) (nI sd) sy htn h27 (by omega)) ⟨rfl, rfl, by dsimp only [rmL]; omega, by dsimp only [rmL]; omega⟩ (m_recv E hw) (fun _ _ _ _ h => h) (fun U hU _ => by rw [hU]; exact ⟨rfl, hw.1⟩) rfl hl.1 rfl (Nat.le_of_ble_eq_true rfl) dX10_unit_170 ⟨Nat.le_refl _, Nat.le_refl _⟩) (fun rv9 u9 H locs hp9 hw hz9 hk9 => ?_)
        obtain ⟨hrv9, hu9⟩ := hp9
        obtain ⟨k170, hk170⟩ : ∃ z, z = pSk (tC (g 24) tn) tn (k132 + 1) := ⟨_, rfl⟩
        rw [← hk170] at hrv9 hu9
        have hkg170 : (k132 + 1) ≤ k170 := by rw [hk170]; exact pSk_ge _ _ _
        have hkl170 : k170 ≤ tn := by rw [hk170]; exact pSk_le (by omega)
        subst hrv9
        subst hu9
        have hw : mw D A s.heap ca ad (vq v (nI k170) (-1) (nI (8 - r)) (nI sd)) (gr g 26 sy) H locs := hw
        refine lv_istore_n (lv' := [(3, .int ((tC (g 24) tn) k170)), (0, .ref (ad 33 0)), (1, .int ((tC (g 24) tn) k1)), (2, .int ((tC (g 24) tn) k132))]) hx hb dX10_unit_173 rfl hl (by decide) rfl (fun ls hl => ?_)
        refine lv_iload_n hx hb dX10_unit_174 rfl (lv_at hl 0 rfl) ?_
        refine lv_bipush (v := 48) hx hb dX10_unit_175 (by decide) ?_
        refine lv_icmp_lt (tgt := 186) hx hb dX10_unit_177 (by decide) (fun c_177 => ?_) (fun c_177 => ?_)
        · skip
          refine lv_aload_n hx hb dX10_unit_186 rfl (lv_at hl 1 rfl) ?_
          refine x_wrote hw (x_runV (rest := []) E cbX10_fail tw_789 (kX10_fail l D ca ad H.size v g k170 (nI (8 - r)) (nI sd) sy) ⟨rfl, rfl, by dsimp only [rmL]; omega, by dsimp only [rmL]; omega⟩ (m_recv E hw) (fun _ _ _ _ h => h) (fun U hU _ => by rw [hU]; exact ⟨rfl, hw.1⟩) rfl hl.1 rfl (Nat.le_of_ble_eq_true rfl) dX10_unit_187 ⟨Nat.le_refl _, Nat.le_refl _⟩) (fun rv9 u9 H locs hp9 hw hz9 hk9 => ?_)
          obtain ⟨hrv9, hu9⟩ := hp9
          subst hrv9
          subst hu9
          have hw : mw D A s.heap ca ad (vq v (nI k170) (nI k170) (nI (8 - r)) (nI sd)) (gr g 26 sy) H locs := hw
          subst hQ
          exact x_vretW E hr hlk hw (by decide) (by decide) (⟨_, _, _, _, rfl, rfl, Or.inl ⟨k170, by rw [h86]; exact pTe_3 hL hk132 hS hk170 (by simp [isD, isIn, c_177]), rfl, by omega, by omega, by omega, by omega⟩⟩) dX10_unit_190
        · skip
          refine lv_iload_n hx hb dX10_unit_180 rfl (lv_at hl 0 rfl) ?_
          refine lv_bipush (v := 57) hx hb dX10_unit_181 (by decide) ?_
          refine lv_icmp_le (tgt := 191) hx hb dX10_unit_183 (by decide) (fun c_183 => ?_) (fun c_183 => ?_)
          · skip
            have hD : isD ((tC (g 24) tn) k170) = true := by simp [isD, isIn, c_177, Int32.not_lt.mpr c_183]
            refine lv_iconst (v := 0) hx hb dX10_unit_191 (by decide) ?_
            refine lv_istore (lv' := [(4, .int 0), (3, .int ((tC (g 24) tn) k170)), (0, .ref (ad 33 0)), (1, .int ((tC (g 24) tn) k1)), (2, .int ((tC (g 24) tn) k132))]) hx hb dX10_unit_192 hl (by decide) rfl (fun ls hl => ?_)
            refine lv_iconst (v := 0) hx hb dX10_unit_194 (by decide) ?_
            refine lv_istore (lv' := [(5, .int 0), (4, .int 0), (3, .int ((tC (g 24) tn) k170)), (0, .ref (ad 33 0)), (1, .int ((tC (g 24) tn) k1)), (2, .int ((tC (g 24) tn) k132))]) hx hb dX10_unit_195 hl (by decide) rfl (fun ls hl => ?_)
            have lp197 : ∀ (n : Nat) (j : Nat) (b : Nat) (x4 : Int32), (j ≤ 4) → (b = k170 + (4 - j)) → (b ≤ tn) → (pDg (tC (g 24) tn) j b x4 = pDg (tC (g 24) tn) 4 k170 0) → (j < n) → ∀ (H : Heap) (locs : List Loc), mw D A s.heap ca ad (vq v (nI b) (-1) (nI (8 - r)) (nI sd)) (gr g 26 sy) H locs → ∀ ls : Array Slot, lv_has ls 6 [(0, .ref (ad 33 0)), (1, .int ((tC (g 24) tn) k1)), (2, .int ((tC (g 24) tn) k132)), (4, .int x4), (5, .int (nI (4 - j)))] → W p l e (rmL (3 * r + 2) 0 0) s m args below meth c H locs 0 0 Q (F0 m 197 ls []) := by
              intro n
              induction n with
              | zero =>
                intro j b x4 hj hbj hbt hdg hfu H locs hw ls hl
                exact absurd hfu (by omega)
              | succ n ih197 =>
                intro j b x4 hj hbj hbt hdg hfu H locs hw ls hl
                refine lv_aload_n hx hb dX10_unit_197 rfl (lv_at hl 0 rfl) ?_
                have lp283 : (isD ((tC (g 24) tn) b) = false) → ∀ (H : Heap) (locs : List Loc), mw D A s.heap ca ad (vq v (nI b) (-1) (nI (8 - r)) (nI sd)) (gr g 26 sy) H locs → ∀ ls : Array Slot, lv_has ls 6 [(0, .ref (ad 33 0)), (1, .int ((tC (g 24) tn) k1)), (2, .int ((tC (g 24) tn) k132)), (4, .int x4)] → W p l e (rmL (3 * r + 2) 0 0) s m args below meth c H locs 0 0 Q (F0 m 283 ls []) := by
                  intro  hN H locs hw ls hl
                  have hj4 : ¬ j = 4 := fun q => by rw [hbj, q] at hN; rw [show k170 + (4 - 4) = k170 by omega, hD] at hN; cases hN
                  refine lv_aload_n hx hb dX10_unit_283 rfl (lv_at hl 0 rfl) ?_
                  refine lv_iconst (v := 0) hx hb dX10_unit_284 (by decide) ?_
                  refine x_wrote hw (x_runV (rest := []) E cbX10_say tw_793 (kX10_say l D ca ad H.size v g (nI b) (-1) (nI (8 - r)) sd sy 0 (by omega)) ⟨rfl, rfl, by dsimp only [rmL]; omega, by dsimp only [rmL]; omega⟩ (m_recv E hw) (fun _ _ _ _ h => h) (fun U hU _ => by rw [hU]; exact ⟨rfl, hw.1⟩) rfl hl.1 rfl (Nat.le_of_ble_eq_true rfl) dX10_unit_285 ⟨Nat.le_refl _, Nat.le_refl _⟩) (fun rv9 u9 H locs hp9 hw hz9 hk9 => ?_)
                  obtain ⟨hrv9, hu9⟩ := hp9
                  subst hrv9
                  subst hu9
                  have hw : mw D A s.heap ca ad (vq v (nI b) (-1) (nI (8 - r)) (nI (sd + 1))) (gr g 26 (upd sy sd 0)) H locs := hw
                  refine lv_aload_n hx hb dX10_unit_288 rfl (lv_at hl 0 rfl) ?_
                  refine lv_iload_n hx hb dX10_unit_289 rfl (lv_at hl 1 rfl) ?_
                  refine x_wrote hw (x_runV (rest := []) E cbX10_say tw_793 (kX10_say l D ca ad H.size v g (nI b) (-1) (nI (8 - r)) (sd + 1) (upd sy sd 0) ((tC (g 24) tn) k1) (by omega)) ⟨rfl, rfl, by dsimp only [rmL]; omega, by dsimp only [rmL]; omega⟩ (m_recv E hw) (fun _ _ _ _ h => h) (fun U hU _ => by rw [hU]; exact ⟨rfl, hw.1⟩) rfl hl.1 rfl (Nat.le_of_ble_eq_true rfl) dX10_unit_290 ⟨Nat.le_refl _, Nat.le_refl _⟩) (fun rv9 u9 H locs hp9 hw hz9 hk9 => ?_)
                  obtain ⟨hrv9, hu9⟩ := hp9
                  subst hrv9
                  subst hu9
                  have hw : mw D A s.heap ca ad (vq v (nI b) (-1) (nI (8 - r)) (nI (sd + 1 + 1))) (gr g 26 (upd (upd sy sd 0) (sd + 1) ((tC (g 24) tn) k1))) H locs := hw
                  refine lv_aload_n hx hb dX10_unit_293 rfl (lv_at hl 0 rfl) ?_
                  refine lv_iload_n hx hb dX10_unit_294 rfl (lv_at hl 2 rfl) ?_
                  refine x_wrote hw (x_runV (rest := []) E cbX10_say tw_793 (kX10_say l D ca ad H.size v g (nI b) (-1) (nI (8 - r)) (sd + 1 + 1) (upd (upd sy sd 0) (sd + 1) ((tC (g 24) tn) k1)) ((tC (g 24) tn) k132) (by omega)) ⟨rfl, rfl, by dsimp only [rmL]; omega, by dsimp only [rmL]; omega⟩ (m_recv E hw) (fun _ _ _ _ h => h) (fun U hU _ => by rw [hU]; exact ⟨rfl, hw.1⟩) rfl hl.1 rfl (Nat.le_of_ble_eq_true rfl) dX10_unit_295 ⟨Nat.le_refl _, Nat.le_refl _⟩) (fun rv9 u9 H locs hp9 hw hz9 hk9 => ?_)
                  obtain ⟨hrv9, hu9⟩ := hp9
                  subst hrv9
                  subst hu9
                  have hw : mw D A s.heap ca ad (vq v (nI b) (-1) (nI (8 - r)) (nI (sd + 1 + 1 + 1))) (gr g 26 (upd (upd (upd sy sd 0) (sd + 1) ((tC (g 24) tn) k1)) (sd + 1 + 1) ((tC (g 24) tn) k132))) H locs := hw
                  refine lv_aload_n hx hb dX10_unit_298 rfl (lv_at hl 0 rfl) ?_
                  refine lv_iload hx hb dX10_unit_299 (lv_at hl 3 rfl) ?_
                  refine x_wrote hw (x_runV (rest := []) E cbX10_say tw_793 (kX10_say l D ca ad H.size v g (nI b) (-1) (nI (8 - r)) (sd + 1 + 1 + 1) (upd (upd (upd sy sd 0) (sd + 1) ((tC (g 24) tn) k1)) (sd + 1 + 1) ((tC (g 24) tn) k132)) x4 (by omega)) ⟨rfl, rfl, by dsimp only [rmL]; omega, by dsimp only [rmL]; omega⟩ (m_recv E hw) (fun _ _ _ _ h => h) (fun U hU _ => by rw [hU]; exact ⟨rfl, hw.1⟩) rfl hl.1 rfl (Nat.le_of_ble_eq_true rfl) dX10_unit_301 ⟨Nat.le_refl _, Nat.le_refl _⟩) (fun rv9 u9 H locs hp9 hw hz9 hk9 => ?_)
                  obtain ⟨hrv9, hu9⟩ := hp9
                  subst hrv9
                  subst hu9
                  have hw : mw D A s.heap ca ad (vq v (nI b) (-1) (nI (8 - r)) (nI (sd + 1 + 1 + 1 + 1))) (gr g 26 (upd (upd (upd (upd sy sd 0) (sd + 1) ((tC (g 24) tn) k1)) (sd + 1 + 1) ((tC (g 24) tn) k132)) (sd + 1 + 1 + 1) x4)) H locs := hw
                  subst hQ
                  exact x_vretW E hr hlk hw (by decide) (by decide) (⟨_, _, _, _, rfl, rfl, Or.inr ⟨[0, (tC (g 24) tn) k1, (tC (g 24) tn) k132, x4], by rw [h86]; exact pTe_5 hL hk132 hS hk170 hD (by rw [← hdg]; exact pDg_n hN) hN, rfl, by omega, by omega, by show 4 + 2 * a ≤ 2 * b; omega, rfl, rfl⟩⟩) dX10_unit_304
                refine m_geti (x := (nI b)) E hw 28 (by decide) rfl tw_570 (rfl) dX10_unit_198 ?_
                refine lv_aload_n hx hb dX10_unit_201 rfl (lv_at hl 0 rfl) ?_
                refine m_geti (x := (nI tn)) E hw 27 (by decide) rfl tw_569 (h27) dX10_unit_202 ?_
                refine lv_icmp_ge (tgt := 283) hx hb dX10_unit_205 (by decide) (fun c_205 => ?_) (fun c_205 => ?_)
                · skip
                  have hbl : ¬ b < tn := by have q9 := (nI_leI (a := tn) (b := b) (by omega) (by omega)).mp c_205; omega
                  exact lp283  (by rw [tC_ge hbl]; decide)  _ _ (hw) ls (lv_sub hl [0, 1, 2, 3] (rfl))
                · skip
                  have hbl : b < tn := by have q9 := mt (nI_leI (a := tn) (b := b) (by omega) (by omega)).mpr c_205; omega
                  refine lv_aload_n hx hb dX10_unit_208 rfl (lv_at hl 0 rfl) ?_
                  refine m_getr E hw 24 (by decide) rfl tw_566 dX10_unit_209 ?_
                  refine lv_aload_n hx hb dX10_unit_212 rfl (lv_at hl 0 rfl) ?_
                  refine m_geti (x := (nI b)) E hw 28 (by decide) rfl tw_570 (rfl) dX10_unit_213 ?_
                  refine m_ild E hw 24 ⟨by decide, rfl, rfl⟩ b (rfl) (by show b < 100; omega) dX10_unit_216 ?_
                  refine x_top (x := (gr g 26 sy) 24 b) (y := g 24 b) rfl ?_
                  refine lv_bipush (v := 48) hx hb dX10_unit_217 (by decide) ?_
                  refine lv_icmp_lt (tgt := 283) hx hb dX10_unit_219 (by decide) (fun c_219 => ?_) (fun c_219 => ?_)
                  · skip
                    exact lp283  (by rw [tC_lt hbl]; simp [isD, isIn, c_205, c_219])  _ _ (hw) ls (lv_sub hl [0, 1, 2, 3] (rfl))
                  · skip
                    refine lv_aload_n hx hb dX10_unit_222 rfl (lv_at hl 0 rfl) ?_
                    refine m_getr E hw 24 (by decide) rfl tw_566 dX10_unit_223 ?_
                    refine lv_aload_n hx hb dX10_unit_226 rfl (lv_at hl 0 rfl) ?_
                    refine m_geti (x := (nI b)) E hw 28 (by decide) rfl tw_570 (rfl) dX10_unit_227 ?_
                    refine m_ild E hw 24 ⟨by decide, rfl, rfl⟩ b (rfl) (by show b < 100; omega) dX10_unit_230 ?_
                    refine x_top (x := (gr g 26 sy) 24 b) (y := g 24 b) rfl ?_
                    refine lv_bipush (v := 57) hx hb dX10_unit_231 (by decide) ?_
                    refine lv_icmp_gt (tgt := 283) hx hb dX10_unit_233 (by decide) (fun c_233 => ?_) (fun c_233 => ?_)
                    · skip
                      exact lp283  (by rw [tC_lt hbl]; simp [isD, isIn, c_205, c_219, c_233])  _ _ (hw) ls (lv_sub hl [0, 1, 2, 3] (rfl))
                    · skip
                      have hDb : isD ((tC (g 24) tn) b) = true := by rw [tC_lt hbl]; simp [isD, isIn, c_219, c_233]
                      refine lv_iload hx hb dX10_unit_236 (lv_at hl 4 rfl) ?_
                      refine lv_iconst (v := 4) hx hb dX10_unit_238 (by decide) ?_
                      refine lv_icmp_ne (tgt := 247) hx hb dX10_unit_239 (by decide) (fun c_239 => ?_) (fun c_239 => ?_)
                      · skip
                        have hj0 : ¬ j = 0 := fun q => c_239 (by rw [q]; rfl)
                        refine lv_bipush (v := 10) hx hb dX10_unit_247 (by decide) ?_
                        refine lv_iload hx hb dX10_unit_249 (lv_at hl 3 rfl) ?_
                        refine lv_imul hx hb dX10_unit_251 ?_
                        refine lv_aload_n hx hb dX10_unit_252 rfl (lv_at hl 0 rfl) ?_
                        refine m_getr E hw 24 (by decide) rfl tw_566 dX10_unit_253 ?_
                        refine lv_aload_n hx hb dX10_unit_256 rfl (lv_at hl 0 rfl) ?_
                        refine m_geti (x := (nI b)) E hw 28 (by decide) rfl tw_570 (rfl) dX10_unit_257 ?_
                        refine m_ild E hw 24 ⟨by decide, rfl, rfl⟩ b (rfl) (by show b < 100; omega) dX10_unit_260 ?_
                        refine x_top (x := (gr g 26 sy) 24 b) (y := g 24 b) rfl ?_
                        refine lv_iadd hx hb dX10_unit_261 ?_
                        refine lv_bipush (v := 48) hx hb dX10_unit_262 (by decide) ?_
                        refine lv_isub hx hb dX10_unit_264 ?_
                        refine lv_istore (lv' := [(4, .int (((10 * x4) + g 24 b) - 48)), (0, .ref (ad 33 0)), (1, .int ((tC (g 24) tn) k1)), (2, .int ((tC (g 24) tn) k132)), (5, .int (nI (4 - j)))]) hx hb dX10_unit_265 hl (by decide) rfl (fun ls hl => ?_)
                        refine lv_iinc (v := (nI (4 - (j - 1)))) (lv' := [(5, .int (nI (4 - (j - 1)))), (4, .int (((10 * x4) + g 24 b) - 48)), (0, .ref (ad 33 0)), (1, .int ((tC (g 24) tn) k1)), (2, .int ((tC (g 24) tn) k132))]) hx hb dX10_unit_267 hl (k := 4) rfl (by show nI (4 - j) + 1 = _; rw [nI_1]; exact congrArg nI (by omega)) (by decide) rfl (fun ls hl => ?_)
                        refine lv_aload_n hx hb dX10_unit_270 rfl (lv_at hl 2 rfl) ?_
                        refine lv_dup hx hb dX10_unit_271 rfl ?_
                        refine m_geti (x := (nI b)) E hw 28 (by decide) rfl tw_570 (rfl) dX10_unit_272 ?_
                        refine lv_iconst (v := 1) hx hb dX10_unit_275 (by decide) ?_
                        refine lv_iadd hx hb dX10_unit_276 ?_
                        refine x_top (x := (nI b + 1)) (y := nI (b + 1)) (nI_1 _) ?_
                        refine m_put E hw 28 (by decide) rfl tw_570 dX10_unit_277 (fun H locs hw => ?_)
                        rw [vq_28] at hw
                        refine lv_goto (tgt := 197) hx hb dX10_unit_280 (by decide) ?_
                        exact ih197 (j - 1) (b + 1) (((10 * x4) + g 24 b) - 48) (by omega) (by omega) (by omega) (by rw [← hdg]; obtain ⟨j8, rfl⟩ : ∃ z, j = z + 1 := ⟨j - 1, by omega⟩; rw [pDg, if_pos hDb, tC_lt hbl]; rfl) (by omega) _ _ (hw) ls (lv_sub hl [2, 3, 4, 1, 0] (rfl))
                      · skip
                        have hj0 : j = 0 := by have q9 := (nI_eq (a := 4 - j) (b := 4) (by omega) (by omega)).mp c_239; omega
                        refine lv_aload_n hx hb dX10_unit_242 rfl (lv_at hl 0 rfl) ?_
                        refine x_wrote hw (x_runV (rest := []) E cbX10_fail tw_789 (kX10_fail l D ca ad H.size v g b (nI (8 - r)) (nI sd) sy) ⟨rfl, rfl, by dsimp only [rmL]; omega, by dsimp only [rmL]; omega⟩ (m_recv E hw) (fun _ _ _ _ h => h) (fun U hU _ => by rw [hU]; exact ⟨rfl, hw.1⟩) rfl hl.1 rfl (Nat.le_of_ble_eq_true rfl) dX10_unit_243 ⟨Nat.le_refl _, Nat.le_refl _⟩) (fun rv9 u9 H locs hp9 hw hz9 hk9 => ?_)
                        obtain ⟨hrv9, hu9⟩ := hp9
                        subst hrv9
                        subst hu9
                        have hw : mw D A s.heap ca ad (vq v (nI b) (nI b) (nI (8 - r)) (nI sd)) (gr g 26 sy) H locs := hw
                        subst hQ
                        exact x_vretW E hr hlk hw (by decide) (by decide) (⟨_, _, _, _, rfl, rfl, Or.inl ⟨b, by rw [h86]; exact pTe_4 hL hk132 hS hk170 hD (by rw [← hdg, hj0]; rfl) hDb, rfl, by omega, by omega, by omega, by omega⟩⟩) dX10_unit_246
            exact lp197 5 4 k170 0 (Nat.le_refl _) (by omega) (by omega) (rfl) (by omega) _ _ (hw) ls (lv_sub hl [3, 4, 5, 1, 0] (rfl))
          · skip
            refine lv_aload_n hx hb dX10_unit_186 rfl (lv_at hl 1 rfl) ?_
            refine x_wrote hw (x_runV (rest := []) E cbX10_fail tw_789 (kX10_fail l D ca ad H.size v g k170 (nI (8 - r)) (nI sd) sy) ⟨rfl, rfl, by dsimp only [rmL]; omega, by dsimp only [rmL]; omega⟩ (m_recv E hw) (fun _ _ _ _ h => h) (fun U hU _ => by rw [hU]; exact ⟨rfl, hw.1⟩) rfl hl.1 rfl (Nat.le_of_ble_eq_true rfl) dX10_unit_187 ⟨Nat.le_refl _, Nat.le_refl _⟩) (fun rv9 u9 H locs hp9 hw hz9 hk9 => ?_)
            obtain ⟨hrv9, hu9⟩ := hp9
            subst hrv9
            subst hu9
            have hw : mw D A s.heap ca ad (vq v (nI k170) (nI k170) (nI (8 - r)) (nI sd)) (gr g 26 sy) H locs := hw
            subst hQ
            exact x_vretW E hr hlk hw (by decide) (by decide) (⟨_, _, _, _, rfl, rfl, Or.inl ⟨k170, by rw [h86]; exact pTe_3 hL hk132 hS hk170 (by simp [isD, isIn, c_177, Int32.not_le.mp c_183]), rfl, by omega, by omega, by omega, by omega⟩⟩) dX10_unit_190
      refine lv_iload_n hx hb dX10_unit_136 rfl (lv_at hl 0 rfl) ?_
      refine lv_bipush (v := 61) hx hb dX10_unit_137 (by decide) ?_
      refine lv_icmp_eq (tgt := 159) hx hb dX10_unit_139 (by decide) (fun c_139 => ?_) (fun c_139 => ?_)
      · skip
        exact lp159  (by simp [isS, c_139])  _ _ (hw) ls (lv_sub hl [1, 2, 0] (rfl))
      · skip
        refine lv_iload_n hx hb dX10_unit_142 rfl (lv_at hl 0 rfl) ?_
        refine lv_bipush (v := 60) hx hb dX10_unit_143 (by decide) ?_
        refine lv_icmp_eq (tgt := 159) hx hb dX10_unit_145 (by decide) (fun c_145 => ?_) (fun c_145 => ?_)
        · skip
          exact lp159  (by simp [isS, c_139, c_145])  _ _ (hw) ls (lv_sub hl [1, 2, 0] (rfl))
        · skip
          refine lv_iload_n hx hb dX10_unit_148 rfl (lv_at hl 0 rfl) ?_
          refine lv_bipush (v := 62) hx hb dX10_unit_149 (by decide) ?_
          refine lv_icmp_eq (tgt := 159) hx hb dX10_unit_151 (by decide) (fun c_151 => ?_) (fun c_151 => ?_)
          · skip
            exact lp159  (by simp [isS, c_139, c_145, c_151])  _ _ (hw) ls (lv_sub hl [1, 2, 0] (rfl))
          · skip
            refine lv_aload_n hx hb dX10_unit_154 rfl (lv_at hl 1 rfl) ?_
            refine x_wrote hw (x_runV (rest := []) E cbX10_fail tw_789 (kX10_fail l D ca ad H.size v g k132 (nI (8 - r)) (nI sd) sy) ⟨rfl, rfl, by dsimp only [rmL]; omega, by dsimp only [rmL]; omega⟩ (m_recv E hw) (fun _ _ _ _ h => h) (fun U hU _ => by rw [hU]; exact ⟨rfl, hw.1⟩) rfl hl.1 rfl (Nat.le_of_ble_eq_true rfl) dX10_unit_155 ⟨Nat.le_refl _, Nat.le_refl _⟩) (fun rv9 u9 H locs hp9 hw hz9 hk9 => ?_)
            obtain ⟨hrv9, hu9⟩ := hp9
            subst hrv9
            subst hu9
            have hw : mw D A s.heap ca ad (vq v (nI k132) (nI k132) (nI (8 - r)) (nI sd)) (gr g 26 sy) H locs := hw
            subst hQ
            exact x_vretW E hr hlk hw (by decide) (by decide) (⟨_, _, _, _, rfl, rfl, Or.inl ⟨k132, by rw [h86]; exact pTe_2 hL hk132 (by simp [isS, c_139, c_145, c_151]), rfl, by omega, by omega, by omega, by omega⟩⟩) dX10_unit_158
    refine lv_iload_n hx hb dX10_unit_86 rfl (lv_at hl 1 rfl) ?_
    refine lv_bipush (v := 111) hx hb dX10_unit_87 (by decide) ?_
    refine lv_icmp_eq (tgt := 121) hx hb dX10_unit_89 (by decide) (fun c_89 => ?_) (fun c_89 => ?_)
    · skip
      exact lp121  (by simp [isL, c_89])  _ _ (hw) ls (lv_sub hl [0, 1] (rfl))
    · skip
      refine lv_iload_n hx hb dX10_unit_92 rfl (lv_at hl 1 rfl) ?_
      refine lv_bipush (v := 102) hx hb dX10_unit_93 (by decide) ?_
      refine lv_icmp_eq (tgt := 121) hx hb dX10_unit_95 (by decide) (fun c_95 => ?_) (fun c_95 => ?_)
      · skip
        exact lp121  (by simp [isL, c_89, c_95])  _ _ (hw) ls (lv_sub hl [0, 1] (rfl))
      · skip
        refine lv_iload_n hx hb dX10_unit_98 rfl (lv_at hl 1 rfl) ?_
        refine lv_bipush (v := 119) hx hb dX10_unit_99 (by decide) ?_
        refine lv_icmp_eq (tgt := 121) hx hb dX10_unit_101 (by decide) (fun c_101 => ?_) (fun c_101 => ?_)
        · skip
          exact lp121  (by simp [isL, c_89, c_95, c_101])  _ _ (hw) ls (lv_sub hl [0, 1] (rfl))
        · skip
          refine lv_iload_n hx hb dX10_unit_104 rfl (lv_at hl 1 rfl) ?_
          refine lv_bipush (v := 99) hx hb dX10_unit_105 (by decide) ?_
          refine lv_icmp_eq (tgt := 121) hx hb dX10_unit_107 (by decide) (fun c_107 => ?_) (fun c_107 => ?_)
          · skip
            exact lp121  (by simp [isL, c_89, c_95, c_101, c_107])  _ _ (hw) ls (lv_sub hl [0, 1] (rfl))
          · skip
            refine lv_iload_n hx hb dX10_unit_110 rfl (lv_at hl 1 rfl) ?_
            refine lv_bipush (v := 100) hx hb dX10_unit_111 (by decide) ?_
            refine lv_icmp_eq (tgt := 121) hx hb dX10_unit_113 (by decide) (fun c_113 => ?_) (fun c_113 => ?_)
            · skip
              exact lp121  (by simp [isL, c_89, c_95, c_101, c_107, c_113])  _ _ (hw) ls (lv_sub hl [0, 1] (rfl))
            · skip
              refine lv_aload_n hx hb dX10_unit_116 rfl (lv_at hl 0 rfl) ?_
              refine x_wrote hw (x_runV (rest := []) E cbX10_fail tw_789 (kX10_fail l D ca ad H.size v g k1 (nI (8 - r)) (nI sd) sy) ⟨rfl, rfl, by dsimp only [rmL]; omega, by dsimp only [rmL]; omega⟩ (m_recv E hw) (fun _ _ _ _ h => h) (fun U hU _ => by rw [hU]; exact ⟨rfl, hw.1⟩) rfl hl.1 rfl (Nat.le_of_ble_eq_true rfl) dX10_unit_117 ⟨Nat.le_refl _, Nat.le_refl _⟩) (fun rv9 u9 H locs hp9 hw hz9 hk9 => ?_)
              obtain ⟨hrv9, hu9⟩ := hp9
              subst hrv9
              subst hu9
              have hw : mw D A s.heap ca ad (vq v (nI k1) (nI k1) (nI (8 - r)) (nI sd)) (gr g 26 sy) H locs := hw
              subst hQ
              exact x_vretW E hr hlk hw (by decide) (by decide) (⟨_, _, _, _, rfl, rfl, Or.inl ⟨k1, by rw [h86]; exact pTe_1 (by simp [isL, c_89, c_95, c_101, c_107, c_113]), rfl, by omega, by omega, by omega, by omega⟩⟩) dX10_unit_120
  refine lv_iload_n hx hb dX10_unit_5 rfl (lv_at hl 0 rfl) ?_
  refine lv_bipush (v := 40) hx hb dX10_unit_6 (by decide) ?_
  refine lv_icmp_ne (tgt := 86) hx hb dX10_unit_8 (by decide) (fun c_8 => ?_) (fun c_8 => ?_)
  · skip
    exact lp86  (pUn_t hk1 c_8)  _ _ (hw) ls (lv_sub hl [1, 0] (rfl))
  · skip
    refine lv_aload_n hx hb dX10_unit_11 rfl (lv_at hl 1 rfl) ?_
    refine m_geti (x := (nI (8 - r))) E hw 30 (by decide) rfl tw_572 (rfl) dX10_unit_12 ?_
    refine lv_bipush (v := 8) hx hb dX10_unit_15 (by decide) ?_
    refine lv_icmp_ge (tgt := 86) hx hb dX10_unit_17 (by decide) (fun c_17 => ?_) (fun c_17 => ?_)
    · skip
      have hr0 : r = 0 := by have q9 := (nI_leI (a := 8) (b := 8 - r) (by omega) (by omega)).mp c_17; omega
      exact lp86  (by rw [hr0]; exact pUn_0 hk1 c_8)  _ _ (hw) ls (lv_sub hl [1, 0] (rfl))
    · skip
      have hr0 : ¬ r = 0 := by have q9 := mt (nI_leI (a := 8) (b := 8 - r) (by omega) (by omega)).mpr c_17; omega
      have hkt : k1 < tn := tC_in c_8 (by decide)
      refine lv_aload_n hx hb dX10_unit_20 rfl (lv_at hl 1 rfl) ?_
      refine lv_dup hx hb dX10_unit_21 rfl ?_
      refine m_geti (x := (nI (8 - r))) E hw 30 (by decide) rfl tw_572 (rfl) dX10_unit_22 ?_
      refine lv_iconst (v := 1) hx hb dX10_unit_25 (by decide) ?_
      refine lv_iadd hx hb dX10_unit_26 ?_
      refine x_top (x := (nI (8 - r) + 1)) (y := (nI (8 - (r - 1)))) (by rw [nI_1]; exact congrArg nI (by omega)) ?_
      refine m_put E hw 30 (by decide) rfl tw_572 dX10_unit_27 (fun H locs hw => ?_)
      rw [vq_30] at hw
      refine lv_aload_n hx hb dX10_unit_30 rfl (lv_at hl 1 rfl) ?_
      refine lv_dup hx hb dX10_unit_31 rfl ?_
      refine m_geti (x := (nI k1)) E hw 28 (by decide) rfl tw_570 (rfl) dX10_unit_32 ?_
      refine lv_iconst (v := 1) hx hb dX10_unit_35 (by decide) ?_
      refine lv_iadd hx hb dX10_unit_36 ?_
      refine x_top (x := (nI k1 + 1)) (y := nI (k1 + 1)) (nI_1 _) ?_
      refine m_put E hw 28 (by decide) rfl tw_570 dX10_unit_37 (fun H locs hw => ?_)
      rw [vq_28] at hw
      refine lv_aload_n hx hb dX10_unit_40 rfl (lv_at hl 1 rfl) ?_
      refine x_wrote hw (x_runV (rest := []) E cbX10_tests tw_773 (ih (r - 1) (by omega) ad H.size v g tn (k1 + 1) sd sy htn h27 (by omega) (by omega) (by omega)) ⟨rfl, rfl, by dsimp only [rmL]; omega, by dsimp only [rmL]; omega⟩ (m_recv E hw) (fun _ _ _ _ h => h) (fun U hU _ => by rw [hU]; exact ⟨rfl, hw.1⟩) rfl hl.1 rfl (Nat.le_of_ble_eq_true rfl) dX10_unit_41 ⟨Nat.le_refl _, Nat.le_refl _⟩) (fun rv9 u9 H locs hp9 hw hz9 hk9 => ?_)
      obtain ⟨a41, w41, sd41, sy41, hrv9, hu9, hp9⟩ := hp9
      subst hrv9
      subst hu9
      have hw : mw D A s.heap ca ad (vq v (nI a41) w41 (nI (8 - (r - 1))) (nI sd41)) (gr g 26 sy41) H locs := hw
      rcases hp9 with ⟨e41, hR41, hwe, he41, hf41, hg41, hh41⟩ | ⟨L41, hR41, hwe, hf41, hg41, hh41, hs9, hy9⟩
      · skip
        subst hwe
        rw [show r - 1 + 1 = r by omega] at hR41
        refine lv_aload_n hx hb dX10_unit_44 rfl (lv_at hl 1 rfl) ?_
        refine m_geti (x := (nI e41)) E hw 29 (by decide) rfl tw_571 (rfl) dX10_unit_45 ?_
        refine lv_iconst (v := (-1)) hx hb dX10_unit_48 (by decide) ?_
        refine lv_icmp_ne (tgt := 65) hx hb dX10_unit_49 (by decide) (fun c_49 => ?_) (fun c_49 => ?_)
        · skip
          refine lv_aload_n hx hb dX10_unit_65 rfl (lv_at hl 1 rfl) ?_
          refine lv_dup hx hb dX10_unit_66 rfl ?_
          refine m_geti (x := (nI a41)) E hw 28 (by decide) rfl tw_570 (rfl) dX10_unit_67 ?_
          refine lv_iconst (v := 1) hx hb dX10_unit_70 (by decide) ?_
          refine lv_iadd hx hb dX10_unit_71 ?_
          refine x_top (x := (nI a41 + 1)) (y := nI (a41 + 1)) (nI_1 _) ?_
          refine m_put E hw 28 (by decide) rfl tw_570 dX10_unit_72 (fun H locs hw => ?_)
          rw [vq_28] at hw
          refine lv_aload_n hx hb dX10_unit_75 rfl (lv_at hl 1 rfl) ?_
          refine lv_dup hx hb dX10_unit_76 rfl ?_
          refine m_geti (x := (nI (8 - (r - 1)))) E hw 30 (by decide) rfl tw_572 (rfl) dX10_unit_77 ?_
          refine lv_iconst (v := 1) hx hb dX10_unit_80 (by decide) ?_
          refine lv_isub hx hb dX10_unit_81 ?_
          refine x_top (x := (nI (8 - (r - 1)) - 1)) (y := (nI (8 - r))) (by rw [show 8 - (r - 1) = 8 - r + 1 by omega]; exact nI_pred _) ?_
          refine m_put E hw 30 (by decide) rfl tw_572 dX10_unit_82 (fun H locs hw => ?_)
          rw [vq_30] at hw
          subst hQ
          exact x_vretW E hr hlk hw (by decide) (by decide) (⟨_, _, _, _, rfl, rfl, Or.inl ⟨e41, pUn_e hk1 c_8 hR41, rfl, by omega, by omega, by omega, by omega⟩⟩) dX10_unit_85
        · skip
          exact absurd c_49 (nI_nn (by omega))
      · skip
        subst hwe
        subst hs9
        subst hy9
        rw [show r - 1 + 1 = r by omega] at hR41
        refine lv_aload_n hx hb dX10_unit_44 rfl (lv_at hl 1 rfl) ?_
        refine m_geti (x := (-1)) E hw 29 (by decide) rfl tw_571 (rfl) dX10_unit_45 ?_
        refine lv_iconst (v := (-1)) hx hb dX10_unit_48 (by decide) ?_
        refine lv_icmp_ne (tgt := 65) hx hb dX10_unit_49 (by decide) (fun c_49 => ?_) (fun c_49 => ?_)
        · skip
          exact absurd c_49 (by decide)
        · skip
          refine lv_aload_n hx hb dX10_unit_52 rfl (lv_at hl 1 rfl) ?_
          refine x_wrote hw (x_runV (rest := []) E cbX10_peek tw_785 (kX10_peek l D ca ad H.size v g tn a41 (-1) (nI (8 - (r - 1))) (nI (sd + L41.length)) (sayL sy sd L41) htn h27 (by omega)) ⟨rfl, rfl, by dsimp only [rmL]; omega, by dsimp only [rmL]; omega⟩ (m_recv E hw) (fun _ _ _ _ h => h) (fun U hU _ => by rw [hU]; exact ⟨rfl, hw.1⟩) rfl hl.1 rfl (Nat.le_of_ble_eq_true rfl) dX10_unit_53 ⟨Nat.le_refl _, Nat.le_refl _⟩) (fun rv9 u9 H locs hp9 hw hz9 hk9 => ?_)
          obtain ⟨hrv9, hu9⟩ := hp9
          obtain ⟨k53, hk53⟩ : ∃ z, z = pSk (tC (g 24) tn) tn a41 := ⟨_, rfl⟩
          rw [← hk53] at hrv9 hu9
          have hkg53 : a41 ≤ k53 := by rw [hk53]; exact pSk_ge _ _ _
          have hkl53 : k53 ≤ tn := by rw [hk53]; exact pSk_le (by omega)
          subst hrv9
          subst hu9
          have hw : mw D A s.heap ca ad (vq v (nI k53) (-1) (nI (8 - (r - 1))) (nI (sd + L41.length))) (gr g 26 (sayL sy sd L41)) H locs := hw
          refine lv_bipush (v := 41) hx hb dX10_unit_56 (by decide) ?_
          refine lv_icmp_eq (tgt := 65) hx hb dX10_unit_58 (by decide) (fun c_58 => ?_) (fun c_58 => ?_)
          · skip
            have hkt2 : k53 < tn := tC_in c_58 (by decide)
            refine lv_aload_n hx hb dX10_unit_65 rfl (lv_at hl 1 rfl) ?_
            refine lv_dup hx hb dX10_unit_66 rfl ?_
            refine m_geti (x := (nI k53)) E hw 28 (by decide) rfl tw_570 (rfl) dX10_unit_67 ?_
            refine lv_iconst (v := 1) hx hb dX10_unit_70 (by decide) ?_
            refine lv_iadd hx hb dX10_unit_71 ?_
            refine x_top (x := (nI k53 + 1)) (y := nI (k53 + 1)) (nI_1 _) ?_
            refine m_put E hw 28 (by decide) rfl tw_570 dX10_unit_72 (fun H locs hw => ?_)
            rw [vq_28] at hw
            refine lv_aload_n hx hb dX10_unit_75 rfl (lv_at hl 1 rfl) ?_
            refine lv_dup hx hb dX10_unit_76 rfl ?_
            refine m_geti (x := (nI (8 - (r - 1)))) E hw 30 (by decide) rfl tw_572 (rfl) dX10_unit_77 ?_
            refine lv_iconst (v := 1) hx hb dX10_unit_80 (by decide) ?_
            refine lv_isub hx hb dX10_unit_81 ?_
            refine x_top (x := (nI (8 - (r - 1)) - 1)) (y := (nI (8 - r))) (by rw [show 8 - (r - 1) = 8 - r + 1 by omega]; exact nI_pred _) ?_
            refine m_put E hw 30 (by decide) rfl tw_572 dX10_unit_82 (fun H locs hw => ?_)
            rw [vq_30] at hw
            subst hQ
            exact x_vretW E hr hlk hw (by decide) (by decide) (⟨_, _, _, _, rfl, rfl, Or.inr ⟨L41, pUn_k hk1 c_8 hR41 hk53 c_58, rfl, by omega, by omega, by omega, rfl, rfl⟩⟩) dX10_unit_85
          · skip
            refine lv_aload_n hx hb dX10_unit_61 rfl (lv_at hl 1 rfl) ?_
            refine x_wrote hw (x_runV (rest := []) E cbX10_fail tw_789 (kX10_fail l D ca ad H.size v g k53 (nI (8 - (r - 1))) (nI (sd + L41.length)) (sayL sy sd L41)) ⟨rfl, rfl, by dsimp only [rmL]; omega, by dsimp only [rmL]; omega⟩ (m_recv E hw) (fun _ _ _ _ h => h) (fun U hU _ => by rw [hU]; exact ⟨rfl, hw.1⟩) rfl hl.1 rfl (Nat.le_of_ble_eq_true rfl) dX10_unit_62 ⟨Nat.le_refl _, Nat.le_refl _⟩) (fun rv9 u9 H locs hp9 hw hz9 hk9 => ?_)
            obtain ⟨hrv9, hu9⟩ := hp9
            subst hrv9
            subst hu9
            have hw : mw D A s.heap ca ad (vq v (nI k53) (nI k53) (nI (8 - (r - 1))) (nI (sd + L41.length))) (gr g 26 (sayL sy sd L41)) H locs := hw
            refine lv_aload_n hx hb dX10_unit_65 rfl (lv_at hl 1 rfl) ?_
            refine lv_dup hx hb dX10_unit_66 rfl ?_
            refine m_geti (x := (nI k53)) E hw 28 (by decide) rfl tw_570 (rfl) dX10_unit_67 ?_
            refine lv_iconst (v := 1) hx hb dX10_unit_70 (by decide) ?_
            refine lv_iadd hx hb dX10_unit_71 ?_
            refine x_top (x := (nI k53 + 1)) (y := nI (k53 + 1)) (nI_1 _) ?_
            refine m_put E hw 28 (by decide) rfl tw_570 dX10_unit_72 (fun H locs hw => ?_)
            rw [vq_28] at hw
            refine lv_aload_n hx hb dX10_unit_75 rfl (lv_at hl 1 rfl) ?_
            refine lv_dup hx hb dX10_unit_76 rfl ?_
            refine m_geti (x := (nI (8 - (r - 1)))) E hw 30 (by decide) rfl tw_572 (rfl) dX10_unit_77 ?_
            refine lv_iconst (v := 1) hx hb dX10_unit_80 (by decide) ?_
            refine lv_isub hx hb dX10_unit_81 ?_
            refine x_top (x := (nI (8 - (r - 1)) - 1)) (y := (nI (8 - r))) (by rw [show 8 - (r - 1) = 8 - r + 1 by omega]; exact nI_pred _) ?_
            refine m_put E hw 30 (by decide) rfl tw_572 dX10_unit_82 (fun H locs hw => ?_)
            rw [vq_30] at hw
            subst hQ
            exact x_vretW E hr hlk hw (by decide) (by decide) (⟨_, _, _, _, rfl, rfl, Or.inl ⟨k53, pUn_c hk1 c_8 hR41 hk53 c_58, rfl, by omega, by omega, by omega, by omega⟩⟩) dX10_unit_85
set_option maxHeartbeats 4000000 in
set_option maxRecDepth 100000 in
theorem kX10_part (l : Launch) (D : va_G) (ca : Nat → ClassId) (ad : Nat → Nat → Nat) (z9 : Nat) (v : Nat → Int32) (g : Nat → Nat → Int32) (tn : Nat) (a : Nat) (r : Nat) (sd : Nat) (sy : Nat → Int32) (htn : tn ≤ 100) (h27 : v 27 = nI tn) (ha : a ≤ tn) (hr8 : r ≤ 8) (hsd : sd ≤ 2 * a) (ih : ∀ r1, r = r1 + 1 → KT l D ca r1) : Met l yX10_part (wz yX10_part cX10_part 1 none) (rmL (3 * r + 3) 0 0) (va_Pc [.ref (ad 33 0)] (fun U => (U.heap.size = z9 ∧ mq D ca ad (vq v (nI a) (-1) (nI (8 - r)) (nI sd)) (gr g 26 sy) U.heap) ∧ gK D ca U)) (QcW D (wA mcnt ad z9) (fun rv u => ∃ a9 w9 sd9 sy9, rv = none ∧ u = (mcnt, ad, mct ca ad (vq v (nI a9) w9 (nI (8 - r)) (nI sd9)) (gr g 26 sy9)) ∧ uPo tn r a sd sy (pP (tC (g 24) tn) tn r a) a9 w9 sd9 sy9)) 0 0 (wA mcnt ad z9) := by
  refine x_met (by decide) (Nat.le_of_ble_eq_true rfl) ?_
  intro p e s m below meth c E hr hlk hnm hq ls hl
  obtain ⟨hsz9, hq⟩ := hq
  subst hsz9
  generalize hav : ([.ref (ad 33 0)] : List Value).toArray = args at E ⊢
  have hx := E.1
  have hb := E.2.1
  have hown := E.2.2.2.1
  have hts := E.2.2.2.2.1
  have hw : mw D (wA mcnt ad s.heap.size) s.heap ca ad (vq v (nI a) (-1) (nI (8 - r)) (nI sd)) (gr g 26 sy) s.heap [] := wd.start hq
  generalize hQ : MQ below (QcW D (wA mcnt ad s.heap.size) (fun rv u => ∃ a9 w9 sd9 sy9, rv = none ∧ u = (mcnt, ad, mct ca ad (vq v (nI a9) w9 (nI (8 - r)) (nI sd9)) (gr g 26 sy9)) ∧ uPo tn r a sd sy (pP (tC (g 24) tn) tn r a) a9 w9 sd9 sy9)) args s 0 0 (wA mcnt ad s.heap.size) = Q
  generalize hA9 : wA mcnt ad s.heap.size = A at hw hQ
  have hl : lv_has ls 1 [(0, .ref (ad 33 0))] := hl
  suffices hgo : ∀ (H : Heap) (locs : List Loc), mw D A s.heap ca ad (vq v (nI a) (-1) (nI (8 - r)) (nI sd)) (gr g 26 sy) H locs → W p l e (rmL (3 * r + 3) 0 0) s m args below meth c H locs 0 0 Q (F0 m 0 ls []) from hgo _ _ hw
  clear hw
  intro H locs hw
  refine lv_aload_n hx hb dX10_part_0 rfl (lv_at hl 0 rfl) ?_
  refine x_wrote hw (x_runV (rest := []) E cbX10_unit tw_781 (kX10_unit l D ca ad H.size v g tn a r sd sy htn h27 (by omega) hr8 (by omega) ih) ⟨rfl, rfl, by dsimp only [rmL]; omega, by dsimp only [rmL]; omega⟩ (m_recv E hw) (fun _ _ _ _ h => h) (fun U hU _ => by rw [hU]; exact ⟨rfl, hw.1⟩) rfl hl.1 rfl (Nat.le_of_ble_eq_true rfl) dX10_part_1 ⟨Nat.le_refl _, Nat.le_refl _⟩) (fun rv9 u9 H locs hp9 hw hz9 hk9 => ?_)
  obtain ⟨a1, w1, sd1, sy1, hrv9, hu9, hp9⟩ := hp9
  subst hrv9
  subst hu9
  have hw : mw D A s.heap ca ad (vq v (nI a1) w1 (nI (8 - r)) (nI sd1)) (gr g 26 sy1) H locs := hw
  rcases hp9 with ⟨e1, hR1, hwe, he1, hf1, hg1, hh1⟩ | ⟨L1, hR1, hwe, hf1, hg1, hh1, hs9, hy9⟩
  · skip
    subst hwe
    refine lv_aload_n hx hb dX10_part_4 rfl (lv_at hl 0 rfl) ?_
    refine m_geti (x := (nI e1)) E hw 29 (by decide) rfl tw_571 (rfl) dX10_part_5 ?_
    refine lv_iconst (v := (-1)) hx hb dX10_part_8 (by decide) ?_
    refine lv_icmp_ne (tgt := 43) hx hb dX10_part_9 (by decide) (fun c_9 => ?_) (fun c_9 => ?_)
    · skip
      subst hQ
      exact x_vretW E hr hlk hw (by decide) (by decide) (⟨_, _, _, _, rfl, rfl, Or.inl ⟨e1, pSeq_e hR1, rfl, by omega, by omega, by omega, by omega⟩⟩) dX10_part_43
    · skip
      exact absurd c_9 (nI_nn (by omega))
  · skip
    subst hwe
    subst hs9
    subst hy9
    have lp4 : ∀ (n : Nat) (b : Nat) (L : List Int32), (a < b) → (b ≤ tn) → (L.length + 2 * a ≤ 2 * b) → (pLp (tC (g 24) tn) tn (pU (tC (g 24) tn) tn r) 38 1 n b L = pP (tC (g 24) tn) tn r a) → (tn - b < n) → ∀ (H : Heap) (locs : List Loc), mw D A s.heap ca ad (vq v (nI b) (-1) (nI (8 - r)) (nI (sd + L.length))) (gr g 26 (sayL sy sd L)) H locs → ∀ ls : Array Slot, lv_has ls 1 [(0, .ref (ad 33 0))] → W p l e (rmL (3 * r + 3) 0 0) s m args below meth c H locs 0 0 Q (F0 m 4 ls []) := by
      intro n
      induction n with
      | zero =>
        intro b L hab hbt hLl hlp hfu H locs hw ls hl
        exact absurd hfu (by omega)
      | succ n ih4 =>
        intro b L hab hbt hLl hlp hfu H locs hw ls hl
        refine lv_aload_n hx hb dX10_part_4 rfl (lv_at hl 0 rfl) ?_
        refine m_geti (x := (-1)) E hw 29 (by decide) rfl tw_571 (rfl) dX10_part_5 ?_
        refine lv_iconst (v := (-1)) hx hb dX10_part_8 (by decide) ?_
        refine lv_icmp_ne (tgt := 43) hx hb dX10_part_9 (by decide) (fun c_9 => ?_) (fun c_9 => ?_)
        · skip
          exact absurd c_9 (by decide)
        · skip
          refine lv_aload_n hx hb dX10_part_12 rfl (lv_at hl 0 rfl) ?_
          refine x_wrote hw (x_runV (rest := []) E cbX10_peek tw_785 (kX10_peek l D ca ad H.size v g tn b (-1) (nI (8 - r)) (nI (sd + L.length)) (sayL sy sd L) htn h27 (by omega)) ⟨rfl, rfl, by dsimp only [rmL]; omega, by dsimp only [rmL]; omega⟩ (m_recv E hw) (fun _ _ _ _ h => h) (fun U hU _ => by rw [hU]; exact ⟨rfl, hw.1⟩) rfl hl.1 rfl (Nat.le_of_ble_eq_true rfl) dX10_part_13 ⟨Nat.le_refl _, Nat.le_refl _⟩) (fun rv9 u9 H locs hp9 hw hz9 hk9 => ?_)
          obtain ⟨hrv9, hu9⟩ := hp9
          obtain ⟨k13, hk13⟩ : ∃ z, z = pSk (tC (g 24) tn) tn b := ⟨_, rfl⟩
          rw [← hk13] at hrv9 hu9
          have hkg13 : b ≤ k13 := by rw [hk13]; exact pSk_ge _ _ _
          have hkl13 : k13 ≤ tn := by rw [hk13]; exact pSk_le (by omega)
          subst hrv9
          subst hu9
          have hw : mw D A s.heap ca ad (vq v (nI k13) (-1) (nI (8 - r)) (nI (sd + L.length))) (gr g 26 (sayL sy sd L)) H locs := hw
          refine lv_bipush (v := 38) hx hb dX10_part_16 (by decide) ?_
          refine lv_icmp_ne (tgt := 43) hx hb dX10_part_18 (by decide) (fun c_18 => ?_) (fun c_18 => ?_)
          · skip
            subst hQ
            exact x_vretW E hr hlk hw (by decide) (by decide) (⟨_, _, _, _, rfl, rfl, Or.inr ⟨L, by rw [← hlp]; exact pLp_n hk13 c_18, rfl, by omega, by omega, by omega, rfl, rfl⟩⟩) dX10_part_43
          · skip
            have hkt : k13 < tn := tC_in c_18 (by decide)
            refine lv_aload_n hx hb dX10_part_21 rfl (lv_at hl 0 rfl) ?_
            refine lv_dup hx hb dX10_part_22 rfl ?_
            refine m_geti (x := (nI k13)) E hw 28 (by decide) rfl tw_570 (rfl) dX10_part_23 ?_
            refine lv_iconst (v := 1) hx hb dX10_part_26 (by decide) ?_
            refine lv_iadd hx hb dX10_part_27 ?_
            refine x_top (x := (nI k13 + 1)) (y := nI (k13 + 1)) (nI_1 _) ?_
            refine m_put E hw 28 (by decide) rfl tw_570 dX10_part_28 (fun H locs hw => ?_)
            rw [vq_28] at hw
            refine lv_aload_n hx hb dX10_part_31 rfl (lv_at hl 0 rfl) ?_
            refine x_wrote hw (x_runV (rest := []) E cbX10_unit tw_781 (kX10_unit l D ca ad H.size v g tn (k13 + 1) r (sd + L.length) (sayL sy sd L) htn h27 (by omega) hr8 (by omega) ih) ⟨rfl, rfl, by dsimp only [rmL]; omega, by dsimp only [rmL]; omega⟩ (m_recv E hw) (fun _ _ _ _ h => h) (fun U hU _ => by rw [hU]; exact ⟨rfl, hw.1⟩) rfl hl.1 rfl (Nat.le_of_ble_eq_true rfl) dX10_part_32 ⟨Nat.le_refl _, Nat.le_refl _⟩) (fun rv9 u9 H locs hp9 hw hz9 hk9 => ?_)
            obtain ⟨a32, w32, sd32, sy32, hrv9, hu9, hp9⟩ := hp9
            subst hrv9
            subst hu9
            have hw : mw D A s.heap ca ad (vq v (nI a32) w32 (nI (8 - r)) (nI sd32)) (gr g 26 sy32) H locs := hw
            rcases hp9 with ⟨e32, hR32, hwe, he32, hf32, hg32, hh32⟩ | ⟨L32, hR32, hwe, hf32, hg32, hh32, hs9, hy9⟩
            · skip
              subst hwe
              refine lv_aload_n hx hb dX10_part_35 rfl (lv_at hl 0 rfl) ?_
              refine lv_iconst (v := 1) hx hb dX10_part_36 (by decide) ?_
              refine x_wrote hw (x_runV (rest := []) E cbX10_say tw_793 (kX10_say l D ca ad H.size v g (nI a32) (nI e32) (nI (8 - r)) sd32 sy32 1 (by omega)) ⟨rfl, rfl, by dsimp only [rmL]; omega, by dsimp only [rmL]; omega⟩ (m_recv E hw) (fun _ _ _ _ h => h) (fun U hU _ => by rw [hU]; exact ⟨rfl, hw.1⟩) rfl hl.1 rfl (Nat.le_of_ble_eq_true rfl) dX10_part_37 ⟨Nat.le_refl _, Nat.le_refl _⟩) (fun rv9 u9 H locs hp9 hw hz9 hk9 => ?_)
              obtain ⟨hrv9, hu9⟩ := hp9
              subst hrv9
              subst hu9
              have hw : mw D A s.heap ca ad (vq v (nI a32) (nI e32) (nI (8 - r)) (nI (sd32 + 1))) (gr g 26 (upd sy32 sd32 1)) H locs := hw
              refine lv_goto (tgt := 4) hx hb dX10_part_40 (by decide) ?_
              refine lv_aload_n hx hb dX10_part_4 rfl (lv_at hl 0 rfl) ?_
              refine m_geti (x := (nI e32)) E hw 29 (by decide) rfl tw_571 (rfl) dX10_part_5 ?_
              refine lv_iconst (v := (-1)) hx hb dX10_part_8 (by decide) ?_
              refine lv_icmp_ne (tgt := 43) hx hb dX10_part_9 (by decide) (fun c_9 => ?_) (fun c_9 => ?_)
              · skip
                subst hQ
                exact x_vretW E hr hlk hw (by decide) (by decide) (⟨_, _, _, _, rfl, rfl, Or.inl ⟨e32, by rw [← hlp]; exact pLp_e hk13 c_18 hR32, rfl, by omega, by omega, by omega, by omega⟩⟩) dX10_part_43
              · skip
                exact absurd c_9 (nI_nn (by omega))
            · skip
              subst hwe
              subst hs9
              subst hy9
              refine lv_aload_n hx hb dX10_part_35 rfl (lv_at hl 0 rfl) ?_
              refine lv_iconst (v := 1) hx hb dX10_part_36 (by decide) ?_
              refine x_wrote hw (x_runV (rest := []) E cbX10_say tw_793 (kX10_say l D ca ad H.size v g (nI a32) (-1) (nI (8 - r)) (sd + L.length + L32.length) (sayL (sayL sy sd L) (sd + L.length) L32) 1 (by omega)) ⟨rfl, rfl, by dsimp only [rmL]; omega, by dsimp only [rmL]; omega⟩ (m_recv E hw) (fun _ _ _ _ h => h) (fun U hU _ => by rw [hU]; exact ⟨rfl, hw.1⟩) rfl hl.1 rfl (Nat.le_of_ble_eq_true rfl) dX10_part_37 ⟨Nat.le_refl _, Nat.le_refl _⟩) (fun rv9 u9 H locs hp9 hw hz9 hk9 => ?_)
              obtain ⟨hrv9, hu9⟩ := hp9
              subst hrv9
              subst hu9
              have hw : mw D A s.heap ca ad (vq v (nI a32) (-1) (nI (8 - r)) (nI (sd + L.length + L32.length + 1))) (gr g 26 (upd (sayL (sayL sy sd L) (sd + L.length) L32) (sd + L.length + L32.length) 1)) H locs := hw
              refine lv_goto (tgt := 4) hx hb dX10_part_40 (by decide) ?_
              exact ih4 a32 (L ++ L32 ++ [1]) (by omega) (hg32) (by have q9 := len3 0 L L32 1; omega) (by rw [← hlp]; exact (pLp_s hk13 c_18 hR32).symm) (by omega) _ _ (by rw [say3, len3]; exact hw) ls (lv_sub hl [0] (rfl))
    exact lp4 (tn + 1) a1 L1 (hf1) (hg1) (hh1) (pSeq_k hR1) (by omega) _ _ (hw) ls (lv_sub hl [0] (rfl))
set_option maxHeartbeats 4000000 in
set_option maxRecDepth 100000 in
theorem kX10_tests (l : Launch) (D : va_G) (ca : Nat → ClassId) (ad : Nat → Nat → Nat) (z9 : Nat) (v : Nat → Int32) (g : Nat → Nat → Int32) (tn : Nat) (a : Nat) (r : Nat) (sd : Nat) (sy : Nat → Int32) (htn : tn ≤ 100) (h27 : v 27 = nI tn) (ha : a ≤ tn) (hr8 : r ≤ 8) (hsd : sd ≤ 2 * a) (ih : ∀ r1, r = r1 + 1 → KT l D ca r1) : Met l yX10_tests (wz yX10_tests cX10_tests 1 none) (rmL (3 * r + 4) 0 0) (va_Pc [.ref (ad 33 0)] (fun U => (U.heap.size = z9 ∧ mq D ca ad (vq v (nI a) (-1) (nI (8 - r)) (nI sd)) (gr g 26 sy) U.heap) ∧ gK D ca U)) (QcW D (wA mcnt ad z9) (fun rv u => ∃ a9 w9 sd9 sy9, rv = none ∧ u = (mcnt, ad, mct ca ad (vq v (nI a9) w9 (nI (8 - r)) (nI sd9)) (gr g 26 sy9)) ∧ uPo tn r a sd sy (pT (tC (g 24) tn) tn (r + 1) a) a9 w9 sd9 sy9)) 0 0 (wA mcnt ad z9) := by
  refine x_met (by decide) (Nat.le_of_ble_eq_true rfl) ?_
  intro p e s m below meth c E hr hlk hnm hq ls hl
  obtain ⟨hsz9, hq⟩ := hq
  subst hsz9
  generalize hav : ([.ref (ad 33 0)] : List Value).toArray = args at E ⊢
  have hx := E.1
  have hb := E.2.1
  have hown := E.2.2.2.1
  have hts := E.2.2.2.2.1
  have hw : mw D (wA mcnt ad s.heap.size) s.heap ca ad (vq v (nI a) (-1) (nI (8 - r)) (nI sd)) (gr g 26 sy) s.heap [] := wd.start hq
  generalize hQ : MQ below (QcW D (wA mcnt ad s.heap.size) (fun rv u => ∃ a9 w9 sd9 sy9, rv = none ∧ u = (mcnt, ad, mct ca ad (vq v (nI a9) w9 (nI (8 - r)) (nI sd9)) (gr g 26 sy9)) ∧ uPo tn r a sd sy (pT (tC (g 24) tn) tn (r + 1) a) a9 w9 sd9 sy9)) args s 0 0 (wA mcnt ad s.heap.size) = Q
  generalize hA9 : wA mcnt ad s.heap.size = A at hw hQ
  have hl : lv_has ls 1 [(0, .ref (ad 33 0))] := hl
  suffices hgo : ∀ (H : Heap) (locs : List Loc), mw D A s.heap ca ad (vq v (nI a) (-1) (nI (8 - r)) (nI sd)) (gr g 26 sy) H locs → W p l e (rmL (3 * r + 4) 0 0) s m args below meth c H locs 0 0 Q (F0 m 0 ls []) from hgo _ _ hw
  clear hw
  intro H locs hw
  refine lv_aload_n hx hb dX10_tests_0 rfl (lv_at hl 0 rfl) ?_
  refine x_wrote hw (x_runV (rest := []) E cbX10_part tw_777 (kX10_part l D ca ad H.size v g tn a r sd sy htn h27 (by omega) hr8 (by omega) ih) ⟨rfl, rfl, by dsimp only [rmL]; omega, by dsimp only [rmL]; omega⟩ (m_recv E hw) (fun _ _ _ _ h => h) (fun U hU _ => by rw [hU]; exact ⟨rfl, hw.1⟩) rfl hl.1 rfl (Nat.le_of_ble_eq_true rfl) dX10_tests_1 ⟨Nat.le_refl _, Nat.le_refl _⟩) (fun rv9 u9 H locs hp9 hw hz9 hk9 => ?_)
  obtain ⟨a1, w1, sd1, sy1, hrv9, hu9, hp9⟩ := hp9
  subst hrv9
  subst hu9
  have hw : mw D A s.heap ca ad (vq v (nI a1) w1 (nI (8 - r)) (nI sd1)) (gr g 26 sy1) H locs := hw
  rcases hp9 with ⟨e1, hR1, hwe, he1, hf1, hg1, hh1⟩ | ⟨L1, hR1, hwe, hf1, hg1, hh1, hs9, hy9⟩
  · skip
    subst hwe
    refine lv_aload_n hx hb dX10_tests_4 rfl (lv_at hl 0 rfl) ?_
    refine m_geti (x := (nI e1)) E hw 29 (by decide) rfl tw_571 (rfl) dX10_tests_5 ?_
    refine lv_iconst (v := (-1)) hx hb dX10_tests_8 (by decide) ?_
    refine lv_icmp_ne (tgt := 43) hx hb dX10_tests_9 (by decide) (fun c_9 => ?_) (fun c_9 => ?_)
    · skip
      subst hQ
      exact x_vretW E hr hlk hw (by decide) (by decide) (⟨_, _, _, _, rfl, rfl, Or.inl ⟨e1, pSeq_e hR1, rfl, by omega, by omega, by omega, by omega⟩⟩) dX10_tests_43
    · skip
      exact absurd c_9 (nI_nn (by omega))
  · skip
    subst hwe
    subst hs9
    subst hy9
    have lp4 : ∀ (n : Nat) (b : Nat) (L : List Int32), (a < b) → (b ≤ tn) → (L.length + 2 * a ≤ 2 * b) → (pLp (tC (g 24) tn) tn (pP (tC (g 24) tn) tn r) 124 2 n b L = pT (tC (g 24) tn) tn (r + 1) a) → (tn - b < n) → ∀ (H : Heap) (locs : List Loc), mw D A s.heap ca ad (vq v (nI b) (-1) (nI (8 - r)) (nI (sd + L.length))) (gr g 26 (sayL sy sd L)) H locs → ∀ ls : Array Slot, lv_has ls 1 [(0, .ref (ad 33 0))] → W p l e (rmL (3 * r + 4) 0 0) s m args below meth c H locs 0 0 Q (F0 m 4 ls []) := by
      intro n
      induction n with
      | zero =>
        intro b L hab hbt hLl hlp hfu H locs hw ls hl
        exact absurd hfu (by omega)
      | succ n ih4 =>
        intro b L hab hbt hLl hlp hfu H locs hw ls hl
        refine lv_aload_n hx hb dX10_tests_4 rfl (lv_at hl 0 rfl) ?_
        refine m_geti (x := (-1)) E hw 29 (by decide) rfl tw_571 (rfl) dX10_tests_5 ?_
        refine lv_iconst (v := (-1)) hx hb dX10_tests_8 (by decide) ?_
        refine lv_icmp_ne (tgt := 43) hx hb dX10_tests_9 (by decide) (fun c_9 => ?_) (fun c_9 => ?_)
        · skip
          exact absurd c_9 (by decide)
        · skip
          refine lv_aload_n hx hb dX10_tests_12 rfl (lv_at hl 0 rfl) ?_
          refine x_wrote hw (x_runV (rest := []) E cbX10_peek tw_785 (kX10_peek l D ca ad H.size v g tn b (-1) (nI (8 - r)) (nI (sd + L.length)) (sayL sy sd L) htn h27 (by omega)) ⟨rfl, rfl, by dsimp only [rmL]; omega, by dsimp only [rmL]; omega⟩ (m_recv E hw) (fun _ _ _ _ h => h) (fun U hU _ => by rw [hU]; exact ⟨rfl, hw.1⟩) rfl hl.1 rfl (Nat.le_of_ble_eq_true rfl) dX10_tests_13 ⟨Nat.le_refl _, Nat.le_refl _⟩) (fun rv9 u9 H locs hp9 hw hz9 hk9 => ?_)
          obtain ⟨hrv9, hu9⟩ := hp9
          obtain ⟨k13, hk13⟩ : ∃ z, z = pSk (tC (g 24) tn) tn b := ⟨_, rfl⟩
          rw [← hk13] at hrv9 hu9
          have hkg13 : b ≤ k13 := by rw [hk13]; exact pSk_ge _ _ _
          have hkl13 : k13 ≤ tn := by rw [hk13]; exact pSk_le (by omega)
          subst hrv9
          subst hu9
          have hw : mw D A s.heap ca ad (vq v (nI k13) (-1) (nI (8 - r)) (nI (sd + L.length))) (gr g 26 (sayL sy sd L)) H locs := hw
          refine lv_bipush (v := 124) hx hb dX10_tests_16 (by decide) ?_
          refine lv_icmp_ne (tgt := 43) hx hb dX10_tests_18 (by decide) (fun c_18 => ?_) (fun c_18 => ?_)
          · skip
            subst hQ
            exact x_vretW E hr hlk hw (by decide) (by decide) (⟨_, _, _, _, rfl, rfl, Or.inr ⟨L, by rw [← hlp]; exact pLp_n hk13 c_18, rfl, by omega, by omega, by omega, rfl, rfl⟩⟩) dX10_tests_43
          · skip
            have hkt : k13 < tn := tC_in c_18 (by decide)
            refine lv_aload_n hx hb dX10_tests_21 rfl (lv_at hl 0 rfl) ?_
            refine lv_dup hx hb dX10_tests_22 rfl ?_
            refine m_geti (x := (nI k13)) E hw 28 (by decide) rfl tw_570 (rfl) dX10_tests_23 ?_
            refine lv_iconst (v := 1) hx hb dX10_tests_26 (by decide) ?_
            refine lv_iadd hx hb dX10_tests_27 ?_
            refine x_top (x := (nI k13 + 1)) (y := nI (k13 + 1)) (nI_1 _) ?_
            refine m_put E hw 28 (by decide) rfl tw_570 dX10_tests_28 (fun H locs hw => ?_)
            rw [vq_28] at hw
            refine lv_aload_n hx hb dX10_tests_31 rfl (lv_at hl 0 rfl) ?_
            refine x_wrote hw (x_runV (rest := []) E cbX10_part tw_777 (kX10_part l D ca ad H.size v g tn (k13 + 1) r (sd + L.length) (sayL sy sd L) htn h27 (by omega) hr8 (by omega) ih) ⟨rfl, rfl, by dsimp only [rmL]; omega, by dsimp only [rmL]; omega⟩ (m_recv E hw) (fun _ _ _ _ h => h) (fun U hU _ => by rw [hU]; exact ⟨rfl, hw.1⟩) rfl hl.1 rfl (Nat.le_of_ble_eq_true rfl) dX10_tests_32 ⟨Nat.le_refl _, Nat.le_refl _⟩) (fun rv9 u9 H locs hp9 hw hz9 hk9 => ?_)
            obtain ⟨a32, w32, sd32, sy32, hrv9, hu9, hp9⟩ := hp9
            subst hrv9
            subst hu9
            have hw : mw D A s.heap ca ad (vq v (nI a32) w32 (nI (8 - r)) (nI sd32)) (gr g 26 sy32) H locs := hw
            rcases hp9 with ⟨e32, hR32, hwe, he32, hf32, hg32, hh32⟩ | ⟨L32, hR32, hwe, hf32, hg32, hh32, hs9, hy9⟩
            · skip
              subst hwe
              refine lv_aload_n hx hb dX10_tests_35 rfl (lv_at hl 0 rfl) ?_
              refine lv_iconst (v := 2) hx hb dX10_tests_36 (by decide) ?_
              refine x_wrote hw (x_runV (rest := []) E cbX10_say tw_793 (kX10_say l D ca ad H.size v g (nI a32) (nI e32) (nI (8 - r)) sd32 sy32 2 (by omega)) ⟨rfl, rfl, by dsimp only [rmL]; omega, by dsimp only [rmL]; omega⟩ (m_recv E hw) (fun _ _ _ _ h => h) (fun U hU _ => by rw [hU]; exact ⟨rfl, hw.1⟩) rfl hl.1 rfl (Nat.le_of_ble_eq_true rfl) dX10_tests_37 ⟨Nat.le_refl _, Nat.le_refl _⟩) (fun rv9 u9 H locs hp9 hw hz9 hk9 => ?_)
              obtain ⟨hrv9, hu9⟩ := hp9
              subst hrv9
              subst hu9
              have hw : mw D A s.heap ca ad (vq v (nI a32) (nI e32) (nI (8 - r)) (nI (sd32 + 1))) (gr g 26 (upd sy32 sd32 2)) H locs := hw
              refine lv_goto (tgt := 4) hx hb dX10_tests_40 (by decide) ?_
              refine lv_aload_n hx hb dX10_tests_4 rfl (lv_at hl 0 rfl) ?_
              refine m_geti (x := (nI e32)) E hw 29 (by decide) rfl tw_571 (rfl) dX10_tests_5 ?_
              refine lv_iconst (v := (-1)) hx hb dX10_tests_8 (by decide) ?_
              refine lv_icmp_ne (tgt := 43) hx hb dX10_tests_9 (by decide) (fun c_9 => ?_) (fun c_9 => ?_)
              · skip
                subst hQ
                exact x_vretW E hr hlk hw (by decide) (by decide) (⟨_, _, _, _, rfl, rfl, Or.inl ⟨e32, by rw [← hlp]; exact pLp_e hk13 c_18 hR32, rfl, by omega, by omega, by omega, by omega⟩⟩) dX10_tests_43
              · skip
                exact absurd c_9 (nI_nn (by omega))
            · skip
              subst hwe
              subst hs9
              subst hy9
              refine lv_aload_n hx hb dX10_tests_35 rfl (lv_at hl 0 rfl) ?_
              refine lv_iconst (v := 2) hx hb dX10_tests_36 (by decide) ?_
              refine x_wrote hw (x_runV (rest := []) E cbX10_say tw_793 (kX10_say l D ca ad H.size v g (nI a32) (-1) (nI (8 - r)) (sd + L.length + L32.length) (sayL (sayL sy sd L) (sd + L.length) L32) 2 (by omega)) ⟨rfl, rfl, by dsimp only [rmL]; omega, by dsimp only [rmL]; omega⟩ (m_recv E hw) (fun _ _ _ _ h => h) (fun U hU _ => by rw [hU]; exact ⟨rfl, hw.1⟩) rfl hl.1 rfl (Nat.le_of_ble_eq_true rfl) dX10_tests_37 ⟨Nat.le_refl _, Nat.le_refl _⟩) (fun rv9 u9 H locs hp9 hw hz9 hk9 => ?_)
              obtain ⟨hrv9, hu9⟩ := hp9
              subst hrv9
              subst hu9
              have hw : mw D A s.heap ca ad (vq v (nI a32) (-1) (nI (8 - r)) (nI (sd + L.length + L32.length + 1))) (gr g 26 (upd (sayL (sayL sy sd L) (sd + L.length) L32) (sd + L.length + L32.length) 2)) H locs := hw
              refine lv_goto (tgt := 4) hx hb dX10_tests_40 (by decide) ?_
              exact ih4 a32 (L ++ L32 ++ [2]) (by omega) (hg32) (by have q9 := len3 0 L L32 2; omega) (by rw [← hlp]; exact (pLp_s hk13 c_18 hR32).symm) (by omega) _ _ (by rw [say3, len3]; exact hw) ls (lv_sub hl [0] (rfl))
    exact lp4 (tn + 1) a1 L1 (hf1) (hg1) (hh1) (pSeq_k hR1) (by omega) _ _ (hw) ls (lv_sub hl [0] (rfl))
theorem KT_all (l : Launch) (D : va_G) (ca : Nat → ClassId) : ∀ r, KT l D ca r
  | 0 => fun ad z9 v g tn a sd sy h1 h2 h3 h4 h5 => kX10_tests l D ca ad z9 v g tn a 0 sd sy h1 h2 h3 h4 h5 (fun r1 h => absurd h (by omega))
  | r + 1 => fun ad z9 v g tn a sd sy h1 h2 h3 h4 h5 => kX10_tests l D ca ad z9 v g tn a (r + 1) sd sy h1 h2 h3 h4 h5 (fun r1 h => Nat.succ.inj h ▸ KT_all l D ca r)
set_option maxHeartbeats 4000000 in
set_option maxRecDepth 100000 in
theorem kX10_fault (l : Launch) (D : va_G) (ca : Nat → ClassId) (ad : Nat → Nat → Nat) (z9 : Nat) (v : Nat → Int32) (g : Nat → Nat → Int32) (tn : Nat) (x28 : Int32) (x29 : Int32) (x30 : Int32) (x31 : Int32) (sy : Nat → Int32) (htn : tn ≤ 100) (h27 : v 27 = nI tn) : Met l yX10_fault (wz yX10_fault cX10_fault 1 (some .int)) (rmL 29 0 0) (va_Pc [.ref (ad 33 0)] (fun U => (U.heap.size = z9 ∧ mq D ca ad (vq v x28 x29 x30 x31) (gr g 26 sy) U.heap) ∧ gK D ca U)) (QcW D (wA mcnt ad z9) (fun rv u => ∃ y28 y29 y30 y31 sy9, u = (mcnt, ad, mct ca ad (vq v y28 y29 y30 y31) (gr g 26 sy9)) ∧ ((∃ e, pTop (tC (g 24) tn) tn = .inl e ∧ e ≤ tn ∧ rv = some (.int (nI e))) ∨ ∃ a2 L, pTop (tC (g 24) tn) tn = .inr (a2, L) ∧ rv = some (.int (-1)) ∧ y31 = nI L.length ∧ sy9 = sayL sy 0 L ∧ L.length ≤ 200))) 0 0 (wA mcnt ad z9) := by
  refine x_met (by decide) (Nat.le_of_ble_eq_true rfl) ?_
  intro p e s m below meth c E hr hlk hnm hq ls hl
  obtain ⟨hsz9, hq⟩ := hq
  subst hsz9
  generalize hav : ([.ref (ad 33 0)] : List Value).toArray = args at E ⊢
  have hx := E.1
  have hb := E.2.1
  have hown := E.2.2.2.1
  have hts := E.2.2.2.2.1
  have hw : mw D (wA mcnt ad s.heap.size) s.heap ca ad (vq v x28 x29 x30 x31) (gr g 26 sy) s.heap [] := wd.start hq
  generalize hQ : MQ below (QcW D (wA mcnt ad s.heap.size) (fun rv u => ∃ y28 y29 y30 y31 sy9, u = (mcnt, ad, mct ca ad (vq v y28 y29 y30 y31) (gr g 26 sy9)) ∧ ((∃ e, pTop (tC (g 24) tn) tn = .inl e ∧ e ≤ tn ∧ rv = some (.int (nI e))) ∨ ∃ a2 L, pTop (tC (g 24) tn) tn = .inr (a2, L) ∧ rv = some (.int (-1)) ∧ y31 = nI L.length ∧ sy9 = sayL sy 0 L ∧ L.length ≤ 200))) args s 0 0 (wA mcnt ad s.heap.size) = Q
  generalize hA9 : wA mcnt ad s.heap.size = A at hw hQ
  have hl : lv_has ls 1 [(0, .ref (ad 33 0))] := hl
  suffices hgo : ∀ (H : Heap) (locs : List Loc), mw D A s.heap ca ad (vq v x28 x29 x30 x31) (gr g 26 sy) H locs → W p l e (rmL 29 0 0) s m args below meth c H locs 0 0 Q (F0 m 0 ls []) from hgo _ _ hw
  clear hw
  intro H locs hw
  refine lv_aload_n hx hb dX10_fault_0 rfl (lv_at hl 0 rfl) ?_
  refine lv_iconst (v := 0) hx hb dX10_fault_1 (by decide) ?_
  refine m_put E hw 28 (by decide) rfl tw_570 dX10_fault_2 (fun H locs hw => ?_)
  rw [vq_28] at hw
  refine lv_aload_n hx hb dX10_fault_5 rfl (lv_at hl 0 rfl) ?_
  refine lv_iconst (v := (-1)) hx hb dX10_fault_6 (by decide) ?_
  refine m_put E hw 29 (by decide) rfl tw_571 dX10_fault_7 (fun H locs hw => ?_)
  rw [vq_29] at hw
  refine lv_aload_n hx hb dX10_fault_10 rfl (lv_at hl 0 rfl) ?_
  refine lv_iconst (v := 0) hx hb dX10_fault_11 (by decide) ?_
  refine m_put E hw 30 (by decide) rfl tw_572 dX10_fault_12 (fun H locs hw => ?_)
  rw [vq_30] at hw
  refine lv_aload_n hx hb dX10_fault_15 rfl (lv_at hl 0 rfl) ?_
  refine lv_iconst (v := 0) hx hb dX10_fault_16 (by decide) ?_
  refine m_put E hw 31 (by decide) rfl tw_573 dX10_fault_17 (fun H locs hw => ?_)
  rw [vq_31] at hw
  have hw : mw D A s.heap ca ad (vq v (nI 0) (-1) (nI (8 - 8)) (nI 0)) (gr g 26 sy) H locs := hw
  refine lv_aload_n hx hb dX10_fault_20 rfl (lv_at hl 0 rfl) ?_
  refine x_wrote hw (x_runV (rest := []) E cbX10_tests tw_773 (KT_all l D ca 8 ad H.size v g tn 0 0 sy htn h27 (Nat.zero_le _) (Nat.le_refl _) (Nat.le_refl _)) ⟨rfl, rfl, by decide, by decide⟩ (m_recv E hw) (fun _ _ _ _ h => h) (fun U hU _ => by rw [hU]; exact ⟨rfl, hw.1⟩) rfl hl.1 rfl (Nat.le_of_ble_eq_true rfl) dX10_fault_21 ⟨by decide, by decide⟩) (fun rv9 u9 H locs hp9 hw hz9 hk9 => ?_)
  obtain ⟨a21, w21, sd21, sy21, hrv9, hu9, hp9⟩ := hp9
  subst hrv9
  subst hu9
  have hw : mw D A s.heap ca ad (vq v (nI a21) w21 (nI (8 - 8)) (nI sd21)) (gr g 26 sy21) H locs := hw
  rcases hp9 with ⟨e21, hR21, hwe, he21, hf21, hg21, hh21⟩ | ⟨L21, hR21, hwe, hf21, hg21, hh21, hs9, hy9⟩
  · skip
    subst hwe
    refine lv_aload_n hx hb dX10_fault_24 rfl (lv_at hl 0 rfl) ?_
    refine m_geti (x := (nI e21)) E hw 29 (by decide) rfl tw_571 (rfl) dX10_fault_25 ?_
    refine lv_iconst (v := (-1)) hx hb dX10_fault_28 (by decide) ?_
    refine lv_icmp_ne (tgt := 44) hx hb dX10_fault_29 (by decide) (fun c_29 => ?_) (fun c_29 => ?_)
    · skip
      refine lv_aload_n hx hb dX10_fault_44 rfl (lv_at hl 0 rfl) ?_
      refine m_geti (x := (nI e21)) E hw 29 (by decide) rfl tw_571 (rfl) dX10_fault_45 ?_
      subst hQ
      exact x_iretW E hr hlk hw (by decide) (by decide) (⟨_, _, _, _, _, rfl, Or.inl ⟨e21, pTop_e hR21, by omega, rfl⟩⟩) dX10_fault_48
    · skip
      exact absurd c_29 (nI_nn (by omega))
  · skip
    subst hwe
    subst hs9
    subst hy9
    refine lv_aload_n hx hb dX10_fault_24 rfl (lv_at hl 0 rfl) ?_
    refine m_geti (x := (-1)) E hw 29 (by decide) rfl tw_571 (rfl) dX10_fault_25 ?_
    refine lv_iconst (v := (-1)) hx hb dX10_fault_28 (by decide) ?_
    refine lv_icmp_ne (tgt := 44) hx hb dX10_fault_29 (by decide) (fun c_29 => ?_) (fun c_29 => ?_)
    · skip
      exact absurd c_29 (by decide)
    · skip
      refine lv_aload_n hx hb dX10_fault_32 rfl (lv_at hl 0 rfl) ?_
      refine x_wrote hw (x_runV (rest := []) E cbX10_peek tw_785 (kX10_peek l D ca ad H.size v g tn a21 (-1) (nI (8 - 8)) (nI (0 + L21.length)) (sayL sy 0 L21) htn h27 (by omega)) ⟨rfl, rfl, by decide, by decide⟩ (m_recv E hw) (fun _ _ _ _ h => h) (fun U hU _ => by rw [hU]; exact ⟨rfl, hw.1⟩) rfl hl.1 rfl (Nat.le_of_ble_eq_true rfl) dX10_fault_33 ⟨by decide, by decide⟩) (fun rv9 u9 H locs hp9 hw hz9 hk9 => ?_)
      obtain ⟨hrv9, hu9⟩ := hp9
      obtain ⟨k33, hk33⟩ : ∃ z, z = pSk (tC (g 24) tn) tn a21 := ⟨_, rfl⟩
      rw [← hk33] at hrv9 hu9
      have hkg33 : a21 ≤ k33 := by rw [hk33]; exact pSk_ge _ _ _
      have hkl33 : k33 ≤ tn := by rw [hk33]; exact pSk_le (by omega)
      subst hrv9
      subst hu9
      have hw : mw D A s.heap ca ad (vq v (nI k33) (-1) (nI (8 - 8)) (nI (0 + L21.length))) (gr g 26 (sayL sy 0 L21)) H locs := hw
      refine lv_iconst (v := (-1)) hx hb dX10_fault_36 (by decide) ?_
      refine lv_icmp_eq (tgt := 44) hx hb dX10_fault_37 (by decide) (fun c_37 => ?_) (fun c_37 => ?_)
      · skip
        refine lv_aload_n hx hb dX10_fault_44 rfl (lv_at hl 0 rfl) ?_
        refine m_geti (x := (-1)) E hw 29 (by decide) rfl tw_571 (rfl) dX10_fault_45 ?_
        subst hQ
        exact x_iretW E hr hlk hw (by decide) (by decide) (⟨_, _, _, _, _, rfl, Or.inr ⟨k33, L21, pTop_k hR21 hk33 c_37, rfl, by rw [Nat.zero_add], rfl, by omega⟩⟩) dX10_fault_48
      · skip
        refine lv_aload_n hx hb dX10_fault_40 rfl (lv_at hl 0 rfl) ?_
        refine x_wrote hw (x_runV (rest := []) E cbX10_fail tw_789 (kX10_fail l D ca ad H.size v g k33 (nI (8 - 8)) (nI (0 + L21.length)) (sayL sy 0 L21)) ⟨rfl, rfl, by decide, by decide⟩ (m_recv E hw) (fun _ _ _ _ h => h) (fun U hU _ => by rw [hU]; exact ⟨rfl, hw.1⟩) rfl hl.1 rfl (Nat.le_of_ble_eq_true rfl) dX10_fault_41 ⟨by decide, by decide⟩) (fun rv9 u9 H locs hp9 hw hz9 hk9 => ?_)
        obtain ⟨hrv9, hu9⟩ := hp9
        subst hrv9
        subst hu9
        have hw : mw D A s.heap ca ad (vq v (nI k33) (nI k33) (nI (8 - 8)) (nI (0 + L21.length))) (gr g 26 (sayL sy 0 L21)) H locs := hw
        refine lv_aload_n hx hb dX10_fault_44 rfl (lv_at hl 0 rfl) ?_
        refine m_geti (x := (nI k33)) E hw 29 (by decide) rfl tw_571 (rfl) dX10_fault_45 ?_
        subst hQ
        exact x_iretW E hr hlk hw (by decide) (by decide) (⟨_, _, _, _, _, rfl, Or.inl ⟨k33, pTop_f hR21 hk33 c_37, hkl33, rfl⟩⟩) dX10_fault_48
set_option maxHeartbeats 4000000 in
set_option maxRecDepth 100000 in
theorem kX10_rule (l : Launch) (D : va_G) (ca : Nat → ClassId) (ad : Nat → Nat → Nat) (z9 : Nat) (v : Nat → Int32) (g : Nat → Nat → Int32) (tn : Nat) (x28 : Int32) (x29 : Int32) (x30 : Int32) (x31 : Int32) (sy : Nat → Int32) (htn : tn ≤ 100) (h27 : v 27 = nI tn) : Met l yX10_rule (wz yX10_rule cX10_rule 2 (some .boolean)) (rmL 30 0 0) (va_Pc [.ref (ad 33 0)] (fun U => (U.heap.size = z9 ∧ mq D ca ad (vq v x28 x29 x30 x31) (gr g 26 sy) U.heap) ∧ gK D ca U)) (QcW D (wA mcnt ad z9) (fun rv u => ∃ y28 y29 y30 y31 sy9, (∃ e, pTop (tC (g 24) tn) tn = .inl e ∧ rv = some (.int 0) ∧ u = (mcnt, ad, mct ca ad (vq v y28 y29 y30 y31) (gr g 26 sy9))) ∨ ∃ a2 L cd, pTop (tC (g 24) tn) tn = .inr (a2, L) ∧ rv = some (.int 1) ∧ L.length ≤ 200 ∧ (∀ (i : Nat) (x : Int32), L[i]? = some x → cd i = x) ∧ cd L.length = 3 ∧ u = (mcnt, ad, mct ca ad (vq (upd (upd v 5 (v 5 + 1)) 27 0) y28 y29 y30 y31) (gr (gr g 25 cd) 26 sy9)))) 0 0 (wA mcnt ad z9) := by
  refine x_met (by decide) (Nat.le_of_ble_eq_true rfl) ?_
  intro p e s m below meth c E hr hlk hnm hq ls hl
  obtain ⟨hsz9, hq⟩ := hq
  subst hsz9
  generalize hav : ([.ref (ad 33 0)] : List Value).toArray = args at E ⊢
  have hx := E.1
  have hb := E.2.1
  have hown := E.2.2.2.1
  have hts := E.2.2.2.2.1
  have hw : mw D (wA mcnt ad s.heap.size) s.heap ca ad (vq v x28 x29 x30 x31) (gr g 26 sy) s.heap [] := wd.start hq
  generalize hQ : MQ below (QcW D (wA mcnt ad s.heap.size) (fun rv u => ∃ y28 y29 y30 y31 sy9, (∃ e, pTop (tC (g 24) tn) tn = .inl e ∧ rv = some (.int 0) ∧ u = (mcnt, ad, mct ca ad (vq v y28 y29 y30 y31) (gr g 26 sy9))) ∨ ∃ a2 L cd, pTop (tC (g 24) tn) tn = .inr (a2, L) ∧ rv = some (.int 1) ∧ L.length ≤ 200 ∧ (∀ (i : Nat) (x : Int32), L[i]? = some x → cd i = x) ∧ cd L.length = 3 ∧ u = (mcnt, ad, mct ca ad (vq (upd (upd v 5 (v 5 + 1)) 27 0) y28 y29 y30 y31) (gr (gr g 25 cd) 26 sy9)))) args s 0 0 (wA mcnt ad s.heap.size) = Q
  generalize hA9 : wA mcnt ad s.heap.size = A at hw hQ
  have hl : lv_has ls 2 [(0, .ref (ad 33 0))] := hl
  suffices hgo : ∀ (H : Heap) (locs : List Loc), mw D A s.heap ca ad (vq v x28 x29 x30 x31) (gr g 26 sy) H locs → W p l e (rmL 30 0 0) s m args below meth c H locs 0 0 Q (F0 m 0 ls []) from hgo _ _ hw
  clear hw
  intro H locs hw
  refine lv_aload_n hx hb dX10_rule_0 rfl (lv_at hl 0 rfl) ?_
  refine x_wrote hw (x_runV (rest := []) E cbX10_fault tw_801 (kX10_fault l D ca ad H.size v g tn x28 x29 x30 x31 sy htn h27) ⟨rfl, rfl, by decide, by decide⟩ (m_recv E hw) (fun _ _ _ _ h => h) (fun U hU _ => by rw [hU]; exact ⟨rfl, hw.1⟩) rfl hl.1 rfl (Nat.le_of_ble_eq_true rfl) dX10_rule_1 ⟨by decide, by decide⟩) (fun rv9 u9 H locs hp9 hw hz9 hk9 => ?_)
  obtain ⟨y28, y29, y30, y31, sy9, hu9, hp9⟩ := hp9
  subst hu9
  have hw : mw D A s.heap ca ad (vq v y28 y29 y30 y31) (gr g 26 sy9) H locs := hw
  rcases hp9 with ⟨e9, hR9, he9, hrv9⟩ | ⟨a9, L9, hR9, hrv9, hs9, hy9, hl9⟩
  · skip
    subst hrv9
    refine lv_iconst (v := (-1)) hx hb dX10_rule_4 (by decide) ?_
    refine lv_icmp_eq (tgt := 10) hx hb dX10_rule_5 (by decide) (fun c_5 => ?_) (fun c_5 => ?_)
    · skip
      exact absurd c_5 (nI_nn (by omega))
    · skip
      refine lv_iconst (v := 0) hx hb dX10_rule_8 (by decide) ?_
      subst hQ
      exact x_zretW E hr hlk (by decide) hw (by decide) (by decide) (⟨_, _, _, _, _, Or.inl ⟨e9, hR9, rfl, rfl⟩⟩) dX10_rule_9
  · skip
    subst hrv9
    subst hs9
    subst hy9
    refine lv_iconst (v := (-1)) hx hb dX10_rule_4 (by decide) ?_
    refine lv_icmp_eq (tgt := 10) hx hb dX10_rule_5 (by decide) (fun c_5 => ?_) (fun c_5 => ?_)
    · skip
      refine lv_aload_n hx hb dX10_rule_10 rfl (lv_at hl 0 rfl) ?_
      refine lv_iconst (v := 3) hx hb dX10_rule_11 (by decide) ?_
      refine x_wrote hw (x_runV (rest := []) E cbX10_say tw_793 (kX10_say l D ca ad H.size v g y28 y29 y30 L9.length (sayL sy 0 L9) 3 (by omega)) ⟨rfl, rfl, by decide, by decide⟩ (m_recv E hw) (fun _ _ _ _ h => h) (fun U hU _ => by rw [hU]; exact ⟨rfl, hw.1⟩) rfl hl.1 rfl (Nat.le_of_ble_eq_true rfl) dX10_rule_12 ⟨by decide, by decide⟩) (fun rv9 u9 H locs hp9 hw hz9 hk9 => ?_)
      obtain ⟨hrv9, hu9⟩ := hp9
      subst hrv9
      subst hu9
      have hw : mw D A s.heap ca ad (vq v y28 y29 y30 (nI (L9.length + 1))) (gr g 26 (upd (sayL sy 0 L9) L9.length 3)) H locs := hw
      refine lv_iconst (v := 0) hx hb dX10_rule_15 (by decide) ?_
      refine lv_istore_n (lv' := [(1, .int 0), (0, .ref (ad 33 0))]) hx hb dX10_rule_16 rfl hl (by decide) rfl (fun ls hl => ?_)
      have lp17 : ∀ (n : Nat) (i : Nat), (i ≤ L9.length + 1) → (L9.length + 1 - i < n) → ∀ (H : Heap) (locs : List Loc), mw D A s.heap ca ad (vq v y28 y29 y30 (nI (L9.length + 1))) (gr (gr g 25 (cpF (g 25) (upd (sayL sy 0 L9) L9.length 3) i)) 26 (upd (sayL sy 0 L9) L9.length 3)) H locs → ∀ ls : Array Slot, lv_has ls 2 [(0, .ref (ad 33 0)), (1, .int (nI i))] → W p l e (rmL 30 0 0) s m args below meth c H locs 0 0 Q (F0 m 17 ls []) := by
        intro n
        induction n with
        | zero =>
          intro i hi hfu H locs hw ls hl
          exact absurd hfu (by omega)
        | succ n ih17 =>
          intro i hi hfu H locs hw ls hl
          refine lv_iload_n hx hb dX10_rule_17 rfl (lv_at hl 1 rfl) ?_
          refine lv_aload_n hx hb dX10_rule_18 rfl (lv_at hl 0 rfl) ?_
          refine m_geti (x := (nI (L9.length + 1))) E hw 31 (by decide) rfl tw_573 (rfl) dX10_rule_19 ?_
          refine lv_icmp_ge (tgt := 43) hx hb dX10_rule_22 (by decide) (fun c_22 => ?_) (fun c_22 => ?_)
          · skip
            have hge : i = L9.length + 1 := by have q9 := (nI_leI (a := L9.length + 1) (b := i) (by omega) (by omega)).mp c_22; omega
            refine lv_aload_n hx hb dX10_rule_43 rfl (lv_at hl 0 rfl) ?_
            refine lv_dup hx hb dX10_rule_44 rfl ?_
            refine m_geti (x := (v 5)) E hw 5 (by decide) rfl tw_547 (rfl) dX10_rule_45 ?_
            refine lv_iconst (v := 1) hx hb dX10_rule_48 (by decide) ?_
            refine lv_iadd hx hb dX10_rule_49 ?_
            refine m_put E hw 5 (by decide) rfl tw_547 dX10_rule_50 (fun H locs hw => ?_)
            rw [vq_u (by decide)] at hw
            refine lv_aload_n hx hb dX10_rule_53 rfl (lv_at hl 0 rfl) ?_
            refine lv_iconst (v := 0) hx hb dX10_rule_54 (by decide) ?_
            refine m_put E hw 27 (by decide) rfl tw_569 dX10_rule_55 (fun H locs hw => ?_)
            rw [vq_u (by decide)] at hw
            refine lv_iconst (v := 1) hx hb dX10_rule_58 (by decide) ?_
            subst hQ
            exact x_zretW E hr hlk (by decide) hw (by decide) (by decide) (⟨_, _, _, _, _, Or.inr ⟨a9, L9, _, hR9, rfl, hl9, fun i x hx9 => by have hx8 := (List.getElem?_eq_some_iff.mp hx9).1; rw [cpF, if_pos (by omega), upd_ne _ _ (by omega)]; have q9 := sayL_at L9 sy 0 i x hx9; rw [Nat.zero_add] at q9; exact q9, by rw [cpF, if_pos (by omega), upd_at], rfl⟩⟩) dX10_rule_59
          · skip
            have hlt : i < L9.length + 1 := by have q9 := mt (nI_leI (a := L9.length + 1) (b := i) (by omega) (by omega)).mpr c_22; omega
            refine lv_aload_n hx hb dX10_rule_25 rfl (lv_at hl 0 rfl) ?_
            refine m_getr E hw 25 (by decide) rfl tw_567 dX10_rule_26 ?_
            refine lv_iload_n hx hb dX10_rule_29 rfl (lv_at hl 1 rfl) ?_
            refine lv_aload_n hx hb dX10_rule_30 rfl (lv_at hl 0 rfl) ?_
            refine m_getr E hw 26 (by decide) rfl tw_568 dX10_rule_31 ?_
            refine lv_iload_n hx hb dX10_rule_34 rfl (lv_at hl 1 rfl) ?_
            refine m_ild E hw 26 ⟨by decide, rfl, rfl⟩ i (rfl) (by show i < 240; omega) dX10_rule_35 ?_
            refine x_top (x := (gr (gr g 25 (cpF (g 25) (upd (sayL sy 0 L9) L9.length 3) i)) 26 (upd (sayL sy 0 L9) L9.length 3)) 26 i) (y := (upd (sayL sy 0 L9) L9.length 3) i) rfl ?_
            refine m_ist E hw 25 ⟨by decide, rfl, rfl⟩ i (rfl) (by show i < 240; omega) dX10_rule_36 (fun H locs hw => ?_)
            rw [gr_u2 _ _ _ _ _ (by decide), gr_u] at hw
            refine lv_iinc (v := (nI (i + 1))) (lv' := [(1, .int (nI (i + 1))), (0, .ref (ad 33 0))]) hx hb dX10_rule_37 hl (k := 1) rfl (nI_1 _) (by decide) rfl (fun ls hl => ?_)
            refine lv_goto (tgt := 17) hx hb dX10_rule_40 (by decide) ?_
            exact ih17 (i + 1) (hlt) (by omega) _ _ (by rw [cpF_s] at hw; exact hw) ls (lv_sub hl [1, 0] (rfl))
      exact lp17 (L9.length + 2) 0 (Nat.zero_le _) (by omega) _ _ (by rw [cpF_0, ← gr_self]; exact hw) ls (lv_sub hl [1, 0] (rfl))
    · skip
      exact absurd c_5 (by decide)
set_option maxHeartbeats 4000000 in
set_option maxRecDepth 100000 in
theorem kX10_holds (l : Launch) (D : va_G) (ca : Nat → ClassId) (ad : Nat → Nat → Nat) (z9 : Nat) (v : Nat → Int32) (g : Nat → Nat → Int32) (a1 : Int32) (a2 : Int32) (a3 : Int32) (a4 : Int32) (a5 : Int32) (L : List Int32) (pl : Nat → Int32) (hcd : cdOK g L) : Met l yX10_holds (wz yX10_holds cX10_holds 11 (some .boolean)) (rmL 1 0 0) (va_Pc [.ref (ad 33 0), .int a1, .int a2, .int a3, .int a4, .int a5] (fun U => (U.heap.size = z9 ∧ mq D ca ad v (gr g 32 pl) U.heap) ∧ gK D ca U)) (QcW D (wA mcnt ad z9) (fun rv u => rv = some (.int (bB (rB (vF a1 a2 a3 a4 a5) L))) ∧ ∃ pl9, u = (mcnt, ad, mct ca ad v (gr g 32 pl9)))) 0 0 (wA mcnt ad z9) := by
  refine x_met (by decide) (Nat.le_of_ble_eq_true rfl) ?_
  intro p e s m below meth c E hr hlk hnm hq ls hl
  obtain ⟨hsz9, hq⟩ := hq
  subst hsz9
  generalize hav : ([.ref (ad 33 0), .int a1, .int a2, .int a3, .int a4, .int a5] : List Value).toArray = args at E ⊢
  have hx := E.1
  have hb := E.2.1
  have hown := E.2.2.2.1
  have hts := E.2.2.2.2.1
  have hw : mw D (wA mcnt ad s.heap.size) s.heap ca ad v (gr g 32 pl) s.heap [] := wd.start hq
  generalize hQ : MQ below (QcW D (wA mcnt ad s.heap.size) (fun rv u => rv = some (.int (bB (rB (vF a1 a2 a3 a4 a5) L))) ∧ ∃ pl9, u = (mcnt, ad, mct ca ad v (gr g 32 pl9)))) args s 0 0 (wA mcnt ad s.heap.size) = Q
  generalize hA9 : wA mcnt ad s.heap.size = A at hw hQ
  have hl : lv_has ls 11 [(0, .ref (ad 33 0)), (1, .int a1), (2, .int a2), (3, .int a3), (4, .int a4), (5, .int a5)] := hl
  obtain ⟨nn, hnn, hrun0⟩ := hcd.2.2.2
  have hrun1 : rRun (vF a1 a2 a3 a4 a5) (1 + nn) L [] = some [rB (vF a1 a2 a3 a4 a5) L] := by have q9 := hrun0 (vF a1 a2 a3 a4 a5) 1 [] []; rw [List.append_nil] at q9; exact q9
  have hl2 := hcd.2.2.1
  suffices hgo : ∀ (H : Heap) (locs : List Loc), mw D A s.heap ca ad v (gr g 32 pl) H locs → W p l e (rmL 1 0 0) s m args below meth c H locs 0 0 Q (F0 m 0 ls []) from hgo _ _ hw
  clear hw
  intro H locs hw
  refine lv_iconst (v := 0) hx hb dX10_holds_0 (by decide) ?_
  refine lv_istore (lv' := [(6, .int 0), (0, .ref (ad 33 0)), (1, .int a1), (2, .int a2), (3, .int a3), (4, .int a4), (5, .int a5)]) hx hb dX10_holds_1 hl (by decide) rfl (fun ls hl => ?_)
  refine lv_iconst (v := 0) hx hb dX10_holds_3 (by decide) ?_
  refine lv_istore (lv' := [(7, .int 0), (6, .int 0), (0, .ref (ad 33 0)), (1, .int a1), (2, .int a2), (3, .int a3), (4, .int a4), (5, .int a5)]) hx hb dX10_holds_4 hl (by decide) rfl (fun ls hl => ?_)
  have lp6 : ∀ (n : Nat) (k : Nat) (st9 : List Bool) (f9 : Nat) (pl : Nat → Int32), (k ≤ L.length) → (rRun (vF a1 a2 a3 a4 a5) f9 (L.drop k) st9 = some [rB (vF a1 a2 a3 a4 a5) L]) → (plO pl st9) → (4 * st9.length ≤ k) → (L.length - k < n) → ∀ (H : Heap) (locs : List Loc), mw D A s.heap ca ad v (gr g 32 pl) H locs → ∀ ls : Array Slot, lv_has ls 11 [(0, .ref (ad 33 0)), (1, .int a1), (2, .int a2), (3, .int a3), (4, .int a4), (5, .int a5), (6, .int (nI k)), (7, .int (nI st9.length))] → W p l e (rmL 1 0 0) s m args below meth c H locs 0 0 Q (F0 m 6 ls []) := by
    intro n
    induction n with
    | zero =>
      intro k st9 f9 pl hk9 hrn hpl h4k hfu H locs hw ls hl
      exact absurd hfu (by omega)
    | succ n ih6 =>
      intro k st9 f9 pl hk9 hrn hpl h4k hfu H locs hw ls hl
      refine lv_aload_n hx hb dX10_holds_6 rfl (lv_at hl 0 rfl) ?_
      refine m_getr E hw 25 (by decide) rfl tw_567 dX10_holds_7 ?_
      refine lv_iload hx hb dX10_holds_10 (lv_at hl 6 rfl) ?_
      refine m_ild E hw 25 ⟨by decide, rfl, rfl⟩ k (rfl) (by show k < 240; omega) dX10_holds_12 ?_
      refine x_top (x := (gr g 32 pl) 25 k) (y := g 25 k) rfl ?_
      refine lv_iconst (v := 3) hx hb dX10_holds_13 (by decide) ?_
      refine lv_icmp_eq (tgt := 270) hx hb dX10_holds_14 (by decide) (fun c_14 => ?_) (fun c_14 => ?_)
      · skip
        have hst9 := cd_3 hcd hk9 c_14 hrn
        refine lv_aload_n hx hb dX10_holds_270 rfl (lv_at hl 0 rfl) ?_
        refine m_getr E hw 32 (by decide) rfl tw_574 dX10_holds_271 ?_
        refine lv_iconst (v := 0) hx hb dX10_holds_274 (by decide) ?_
        refine m_zld E hw 32 ⟨by decide, rfl, rfl⟩ 0 (rfl) (by decide) dX10_holds_275 ?_
        refine x_top (x := (gr g 32 pl) 32 0) (y := pl 0) rfl ?_
        refine x_top (x := (pl 0)) (y := (bB (rB (vF a1 a2 a3 a4 a5) L))) (by rw [hst9] at hpl; exact (plO_c hpl).1) ?_
        subst hQ
        exact x_zretW E hr hlk (bB_or _) hw (by decide) (by decide) (⟨rfl, _, rfl⟩) dX10_holds_276
      · skip
        obtain ⟨hkl, hdr⟩ := cd_at hcd hk9 c_14
        obtain ⟨f8, rfl⟩ := run_s hrn
        rw [hdr] at hrn
        refine lv_aload_n hx hb dX10_holds_17 rfl (lv_at hl 0 rfl) ?_
        refine m_getr E hw 25 (by decide) rfl tw_567 dX10_holds_18 ?_
        refine lv_iload hx hb dX10_holds_21 (lv_at hl 6 rfl) ?_
        refine m_ild E hw 25 ⟨by decide, rfl, rfl⟩ k (rfl) (by show k < 240; omega) dX10_holds_23 ?_
        refine x_top (x := (gr g 32 pl) 25 k) (y := g 25 k) rfl ?_
        refine lv_if_ne (tgt := 184) hx hb dX10_holds_24 (by decide) (fun c_24 => ?_) (fun c_24 => ?_)
        · skip
          obtain ⟨hc12, y2, y1, st8, hst8, hrn8⟩ := rRun_1 hrn c_24
          have hpl9 := hpl
          rw [hst8] at hpl9
          obtain ⟨hy2, hpl9⟩ := plO_c hpl9
          obtain ⟨hy1, hpl8⟩ := plO_c hpl9
          have hl8 : st9.length = st8.length + 2 := by rw [hst8]; rfl
          refine lv_iinc (v := (nI (st8.length + 1))) (lv' := [(7, .int (nI (st8.length + 1))), (0, .ref (ad 33 0)), (1, .int a1), (2, .int a2), (3, .int a3), (4, .int a4), (5, .int a5), (6, .int (nI k))]) hx hb dX10_holds_184 hl (k := 7) rfl (by rw [hl8]; exact nI_m1 _) (by decide) rfl (fun ls hl => ?_)
          have lp263 : ∀ (z : Int32), (z = bB (rOp (g 25 k) y1 y2)) → ∀ (H : Heap) (locs : List Loc), mw D A s.heap ca ad v (gr g 32 pl) H locs → ∀ ls : Array Slot, lv_has ls 11 [(0, .ref (ad 33 0)), (1, .int a1), (2, .int a2), (3, .int a3), (4, .int a4), (5, .int a5), (6, .int (nI k)), (7, .int (nI (st8.length + 1)))] → W p l e (rmL 1 0 0) s m args below meth c H locs 0 0 Q (F0 m 263 ls [.int z, .int (nI st8.length), .ref (ad 32 0)]) := by
            intro z hz H locs hw ls hl
            refine m_zst E hw 32 ⟨by decide, rfl, rfl⟩ st8.length (rfl) (by show _ < 120; omega) (by rw [hz]; exact bB_or _) dX10_holds_263 (fun H locs hw => ?_)
            rw [gr_u] at hw
            refine lv_iinc (v := (nI (k + 1))) (lv' := [(6, .int (nI (k + 1))), (0, .ref (ad 33 0)), (1, .int a1), (2, .int a2), (3, .int a3), (4, .int a4), (5, .int a5), (7, .int (nI (st8.length + 1)))]) hx hb dX10_holds_264 hl (k := 6) rfl (nI_1 _) (by decide) rfl (fun ls hl => ?_)
            refine lv_goto (tgt := 6) hx hb dX10_holds_267 (by decide) ?_
            exact ih6 (k + 1) (rOp (g 25 k) y1 y2 :: st8) f8 (upd pl st8.length z) (by omega) (hrn8) (plO_p hz hpl8) (by show 4 * (st8.length + 1) ≤ k + 1; rw [hst8] at h4k; simp only [List.length_cons] at h4k; omega) (by omega) _ _ (hw) ls (lv_sub hl [1, 2, 3, 4, 5, 6, 0, 7] (rfl))
          refine lv_aload_n hx hb dX10_holds_187 rfl (lv_at hl 1 rfl) ?_
          refine m_getr E hw 32 (by decide) rfl tw_574 dX10_holds_188 ?_
          refine lv_iload hx hb dX10_holds_191 (lv_at hl 0 rfl) ?_
          refine lv_iconst (v := 1) hx hb dX10_holds_193 (by decide) ?_
          refine lv_isub hx hb dX10_holds_194 ?_
          refine x_top (x := (nI (st8.length + 1) - 1)) (y := (nI st8.length)) (nI_pred _) ?_
          refine lv_aload_n hx hb dX10_holds_195 rfl (lv_at hl 1 rfl) ?_
          refine m_getr E hw 25 (by decide) rfl tw_567 dX10_holds_196 ?_
          refine lv_iload hx hb dX10_holds_199 (lv_at hl 7 rfl) ?_
          refine m_ild E hw 25 ⟨by decide, rfl, rfl⟩ k (rfl) (by show k < 240; omega) dX10_holds_201 ?_
          refine x_top (x := (gr g 32 pl) 25 k) (y := g 25 k) rfl ?_
          refine lv_iconst (v := 1) hx hb dX10_holds_202 (by decide) ?_
          refine lv_icmp_ne (tgt := 236) hx hb dX10_holds_203 (by decide) (fun c_203 => ?_) (fun c_203 => ?_)
          · skip
            refine lv_aload_n hx hb dX10_holds_236 rfl (lv_at hl 1 rfl) ?_
            refine m_getr E hw 32 (by decide) rfl tw_574 dX10_holds_237 ?_
            refine lv_iload hx hb dX10_holds_240 (lv_at hl 0 rfl) ?_
            refine lv_iconst (v := 1) hx hb dX10_holds_242 (by decide) ?_
            refine lv_isub hx hb dX10_holds_243 ?_
            refine x_top (x := (nI (st8.length + 1) - 1)) (y := (nI st8.length)) (nI_pred _) ?_
            refine m_zld E hw 32 ⟨by decide, rfl, rfl⟩ st8.length (rfl) (by show _ < 120; omega) dX10_holds_244 ?_
            refine x_top (x := (gr g 32 pl) 32 st8.length) (y := pl st8.length) rfl ?_
            refine x_top (x := (pl st8.length)) (y := (bB (y1))) (hy1) ?_
            refine lv_if_ne (tgt := 258) hx hb dX10_holds_245 (by decide) (fun c_245 => ?_) (fun c_245 => ?_)
            · skip
              have c_245 := bB_n0.mp c_245
              refine lv_iconst (v := 1) hx hb dX10_holds_258 (by decide) ?_
              refine lv_goto (tgt := 263) hx hb dX10_holds_259 (by decide) ?_
              exact lp263 1 (by simp [rOp, bB, c_14, c_24, c_203, c_245])  _ _ (hw) ls (lv_sub hl [1, 2, 3, 4, 5, 6, 7, 0] (rfl))
            · skip
              have c_245 := bB_0.mp c_245
              refine lv_aload_n hx hb dX10_holds_248 rfl (lv_at hl 1 rfl) ?_
              refine m_getr E hw 32 (by decide) rfl tw_574 dX10_holds_249 ?_
              refine lv_iload hx hb dX10_holds_252 (lv_at hl 0 rfl) ?_
              refine m_zld E hw 32 ⟨by decide, rfl, rfl⟩ (st8.length + 1) (rfl) (by show _ < 120; omega) dX10_holds_254 ?_
              refine x_top (x := (gr g 32 pl) 32 (st8.length + 1)) (y := pl (st8.length + 1)) rfl ?_
              refine x_top (x := (pl (st8.length + 1))) (y := (bB (y2))) (hy2) ?_
              refine lv_if_eq (tgt := 262) hx hb dX10_holds_255 (by decide) (fun c_255 => ?_) (fun c_255 => ?_)
              · skip
                have c_255 := bB_0.mp c_255
                refine lv_iconst (v := 0) hx hb dX10_holds_262 (by decide) ?_
                exact lp263 0 (by simp [rOp, bB, c_14, c_24, c_203, c_245, c_255])  _ _ (hw) ls (lv_sub hl [1, 2, 3, 4, 5, 6, 7, 0] (rfl))
              · skip
                have c_255 := bB_n0.mp c_255
                refine lv_iconst (v := 1) hx hb dX10_holds_258 (by decide) ?_
                refine lv_goto (tgt := 263) hx hb dX10_holds_259 (by decide) ?_
                exact lp263 1 (by simp [rOp, bB, c_14, c_24, c_203, c_245, c_255])  _ _ (hw) ls (lv_sub hl [1, 2, 3, 4, 5, 6, 7, 0] (rfl))
          · skip
            refine lv_aload_n hx hb dX10_holds_206 rfl (lv_at hl 1 rfl) ?_
            refine m_getr E hw 32 (by decide) rfl tw_574 dX10_holds_207 ?_
            refine lv_iload hx hb dX10_holds_210 (lv_at hl 0 rfl) ?_
            refine lv_iconst (v := 1) hx hb dX10_holds_212 (by decide) ?_
            refine lv_isub hx hb dX10_holds_213 ?_
            refine x_top (x := (nI (st8.length + 1) - 1)) (y := (nI st8.length)) (nI_pred _) ?_
            refine m_zld E hw 32 ⟨by decide, rfl, rfl⟩ st8.length (rfl) (by show _ < 120; omega) dX10_holds_214 ?_
            refine x_top (x := (gr g 32 pl) 32 st8.length) (y := pl st8.length) rfl ?_
            refine x_top (x := (pl st8.length)) (y := (bB (y1))) (hy1) ?_
            refine lv_if_eq (tgt := 232) hx hb dX10_holds_215 (by decide) (fun c_215 => ?_) (fun c_215 => ?_)
            · skip
              have c_215 := bB_0.mp c_215
              refine lv_iconst (v := 0) hx hb dX10_holds_232 (by decide) ?_
              refine lv_goto (tgt := 263) hx hb dX10_holds_233 (by decide) ?_
              exact lp263 0 (by simp [rOp, bB, c_14, c_24, c_203, c_215])  _ _ (hw) ls (lv_sub hl [1, 2, 3, 4, 5, 6, 7, 0] (rfl))
            · skip
              have c_215 := bB_n0.mp c_215
              refine lv_aload_n hx hb dX10_holds_218 rfl (lv_at hl 1 rfl) ?_
              refine m_getr E hw 32 (by decide) rfl tw_574 dX10_holds_219 ?_
              refine lv_iload hx hb dX10_holds_222 (lv_at hl 0 rfl) ?_
              refine m_zld E hw 32 ⟨by decide, rfl, rfl⟩ (st8.length + 1) (rfl) (by show _ < 120; omega) dX10_holds_224 ?_
              refine x_top (x := (gr g 32 pl) 32 (st8.length + 1)) (y := pl (st8.length + 1)) rfl ?_
              refine x_top (x := (pl (st8.length + 1))) (y := (bB (y2))) (hy2) ?_
              refine lv_if_eq (tgt := 232) hx hb dX10_holds_225 (by decide) (fun c_225 => ?_) (fun c_225 => ?_)
              · skip
                have c_225 := bB_0.mp c_225
                refine lv_iconst (v := 0) hx hb dX10_holds_232 (by decide) ?_
                refine lv_goto (tgt := 263) hx hb dX10_holds_233 (by decide) ?_
                exact lp263 0 (by simp [rOp, bB, c_14, c_24, c_203, c_215, c_225])  _ _ (hw) ls (lv_sub hl [1, 2, 3, 4, 5, 6, 7, 0] (rfl))
              · skip
                have c_225 := bB_n0.mp c_225
                refine lv_iconst (v := 1) hx hb dX10_holds_228 (by decide) ?_
                refine lv_goto (tgt := 263) hx hb dX10_holds_229 (by decide) ?_
                exact lp263 1 (by simp [rOp, bB, c_14, c_24, c_203, c_215, c_225])  _ _ (hw) ls (lv_sub hl [1, 2, 3, 4, 5, 6, 7, 0] (rfl))
        · skip
          obtain ⟨l1, l2, l3, r8, hr8, hrn8⟩ := rRun_0 hrn c_24
          obtain ⟨hkl1, hg1, hd2⟩ := cd_nx hcd hr8
          obtain ⟨hkl2, hg2, hd3⟩ := cd_nx hcd hd2
          obtain ⟨hkl3, hg3, hd4⟩ := cd_nx hcd hd3
          refine lv_aload_n hx hb dX10_holds_27 rfl (lv_at hl 0 rfl) ?_
          refine m_getr E hw 25 (by decide) rfl tw_567 dX10_holds_28 ?_
          refine lv_iload hx hb dX10_holds_31 (lv_at hl 6 rfl) ?_
          refine lv_iconst (v := 1) hx hb dX10_holds_33 (by decide) ?_
          refine lv_iadd hx hb dX10_holds_34 ?_
          refine x_top (x := (nI k + 1)) (y := (nI (k + 1))) (nI_1 _) ?_
          refine m_ild E hw 25 ⟨by decide, rfl, rfl⟩ (k + 1) (rfl) (by show _ < 240; omega) dX10_holds_35 ?_
          refine x_top (x := (gr g 32 pl) 25 (k + 1)) (y := g 25 (k + 1)) rfl ?_
          refine lv_istore (lv' := [(8, .int (g 25 (k + 1))), (0, .ref (ad 33 0)), (1, .int a1), (2, .int a2), (3, .int a3), (4, .int a4), (5, .int a5), (6, .int (nI k)), (7, .int (nI st9.length))]) hx hb dX10_holds_36 hl (by decide) rfl (fun ls hl => ?_)
          have lp85 : ∀ (y : Int32), (y = vL (vF a1 a2 a3 a4 a5) (g 25 (k + 1))) → ∀ (H : Heap) (locs : List Loc), mw D A s.heap ca ad v (gr g 32 pl) H locs → ∀ ls : Array Slot, lv_has ls 11 [(0, .ref (ad 33 0)), (1, .int a1), (2, .int a2), (3, .int a3), (4, .int a4), (5, .int a5), (6, .int (nI k)), (7, .int (nI st9.length))] → W p l e (rmL 1 0 0) s m args below meth c H locs 0 0 Q (F0 m 85 ls [.int y]) := by
            intro y hy H locs hw ls hl
            refine lv_istore (lv' := [(9, .int y), (0, .ref (ad 33 0)), (1, .int a1), (2, .int a2), (3, .int a3), (4, .int a4), (5, .int a5), (6, .int (nI k)), (7, .int (nI st9.length))]) hx hb dX10_holds_85 hl (by decide) rfl (fun ls hl => ?_)
            refine lv_aload_n hx hb dX10_holds_87 rfl (lv_at hl 1 rfl) ?_
            refine m_getr E hw 25 (by decide) rfl tw_567 dX10_holds_88 ?_
            refine lv_iload hx hb dX10_holds_91 (lv_at hl 7 rfl) ?_
            refine lv_iconst (v := 3) hx hb dX10_holds_93 (by decide) ?_
            refine lv_iadd hx hb dX10_holds_94 ?_
            refine x_top (x := (nI k + 3)) (y := (nI (k + 3))) (nI_add k 3) ?_
            refine m_ild E hw 25 ⟨by decide, rfl, rfl⟩ (k + 3) (rfl) (by show _ < 240; omega) dX10_holds_95 ?_
            refine x_top (x := (gr g 32 pl) 25 (k + 3)) (y := g 25 (k + 3)) rfl ?_
            refine lv_istore (lv' := [(10, .int (g 25 (k + 3))), (9, .int y), (0, .ref (ad 33 0)), (1, .int a1), (2, .int a2), (3, .int a3), (4, .int a4), (5, .int a5), (6, .int (nI k)), (7, .int (nI st9.length))]) hx hb dX10_holds_96 hl (by decide) rfl (fun ls hl => ?_)
            have lp174 : ∀ (z : Int32), (z = bB (rTs (vF a1 a2 a3 a4 a5) l1 l2 l3)) → ∀ (H : Heap) (locs : List Loc), mw D A s.heap ca ad v (gr g 32 pl) H locs → ∀ ls : Array Slot, lv_has ls 11 [(0, .ref (ad 33 0)), (1, .int a1), (2, .int a2), (3, .int a3), (4, .int a4), (5, .int a5), (6, .int (nI k)), (7, .int (nI st9.length))] → W p l e (rmL 1 0 0) s m args below meth c H locs 0 0 Q (F0 m 174 ls [.int z, .int (nI st9.length), .ref (ad 32 0)]) := by
              intro z hz H locs hw ls hl
              refine m_zst E hw 32 ⟨by decide, rfl, rfl⟩ st9.length (rfl) (by show _ < 120; omega) (by rw [hz]; exact bB_or _) dX10_holds_174 (fun H locs hw => ?_)
              rw [gr_u] at hw
              refine lv_iinc (v := (nI (st9.length + 1))) (lv' := [(7, .int (nI (st9.length + 1))), (0, .ref (ad 33 0)), (1, .int a1), (2, .int a2), (3, .int a3), (4, .int a4), (5, .int a5), (6, .int (nI k))]) hx hb dX10_holds_175 hl (k := 7) rfl (nI_1 _) (by decide) rfl (fun ls hl => ?_)
              refine lv_iinc (v := (nI (k + 4))) (lv' := [(6, .int (nI (k + 4))), (7, .int (nI (st9.length + 1))), (0, .ref (ad 33 0)), (1, .int a1), (2, .int a2), (3, .int a3), (4, .int a4), (5, .int a5)]) hx hb dX10_holds_178 hl (k := 7) rfl (nI_add k 4) (by decide) rfl (fun ls hl => ?_)
              refine lv_goto (tgt := 6) hx hb dX10_holds_181 (by decide) ?_
              exact ih6 (k + 4) (rTs (vF a1 a2 a3 a4 a5) l1 l2 l3 :: st9) f8 (upd pl st9.length z) (by omega) (by rw [hd4]; exact hrn8) (plO_p hz hpl) (by show 4 * (st9.length + 1) ≤ k + 4; omega) (by omega) _ _ (hw) ls (lv_sub hl [2, 3, 4, 5, 6, 7, 0, 1] (rfl))
            refine lv_aload_n hx hb dX10_holds_98 rfl (lv_at hl 2 rfl) ?_
            refine m_getr E hw 32 (by decide) rfl tw_574 dX10_holds_99 ?_
            refine lv_iload hx hb dX10_holds_102 (lv_at hl 9 rfl) ?_
            refine lv_aload_n hx hb dX10_holds_104 rfl (lv_at hl 2 rfl) ?_
            refine m_getr E hw 25 (by decide) rfl tw_567 dX10_holds_105 ?_
            refine lv_iload hx hb dX10_holds_108 (lv_at hl 8 rfl) ?_
            refine lv_iconst (v := 2) hx hb dX10_holds_110 (by decide) ?_
            refine lv_iadd hx hb dX10_holds_111 ?_
            refine x_top (x := (nI k + 2)) (y := (nI (k + 2))) (nI_add k 2) ?_
            refine m_ild E hw 25 ⟨by decide, rfl, rfl⟩ (k + 2) (rfl) (by show _ < 240; omega) dX10_holds_112 ?_
            refine x_top (x := (gr g 32 pl) 25 (k + 2)) (y := g 25 (k + 2)) rfl ?_
            refine lv_bipush (v := 61) hx hb dX10_holds_113 (by decide) ?_
            refine lv_icmp_ne (tgt := 133) hx hb dX10_holds_115 (by decide) (fun c_115 => ?_) (fun c_115 => ?_)
            · skip
              refine lv_aload_n hx hb dX10_holds_133 rfl (lv_at hl 2 rfl) ?_
              refine m_getr E hw 25 (by decide) rfl tw_567 dX10_holds_134 ?_
              refine lv_iload hx hb dX10_holds_137 (lv_at hl 8 rfl) ?_
              refine lv_iconst (v := 2) hx hb dX10_holds_139 (by decide) ?_
              refine lv_iadd hx hb dX10_holds_140 ?_
              refine x_top (x := (nI k + 2)) (y := (nI (k + 2))) (nI_add k 2) ?_
              refine m_ild E hw 25 ⟨by decide, rfl, rfl⟩ (k + 2) (rfl) (by show _ < 240; omega) dX10_holds_141 ?_
              refine x_top (x := (gr g 32 pl) 25 (k + 2)) (y := g 25 (k + 2)) rfl ?_
              refine lv_bipush (v := 60) hx hb dX10_holds_142 (by decide) ?_
              refine lv_icmp_ne (tgt := 162) hx hb dX10_holds_144 (by decide) (fun c_144 => ?_) (fun c_144 => ?_)
              · skip
                refine lv_iload hx hb dX10_holds_162 (lv_at hl 1 rfl) ?_
                refine lv_iload hx hb dX10_holds_164 (lv_at hl 0 rfl) ?_
                refine lv_icmp_le (tgt := 173) hx hb dX10_holds_166 (by decide) (fun c_166 => ?_) (fun c_166 => ?_)
                · skip
                  refine lv_iconst (v := 0) hx hb dX10_holds_173 (by decide) ?_
                  exact lp174 0 (by rw [← hg1, ← hg2, ← hg3]; simp [rTs, bB, ← hy, c_115, c_144, c_166])  _ _ (hw) ls (lv_sub hl [2, 3, 4, 5, 6, 7, 8, 9] (rfl))
                · skip
                  refine lv_iconst (v := 1) hx hb dX10_holds_169 (by decide) ?_
                  refine lv_goto (tgt := 174) hx hb dX10_holds_170 (by decide) ?_
                  exact lp174 1 (by rw [← hg1, ← hg2, ← hg3]; simp [rTs, bB, ← hy, c_115, c_144, c_166])  _ _ (hw) ls (lv_sub hl [2, 3, 4, 5, 6, 7, 8, 9] (rfl))
              · skip
                refine lv_iload hx hb dX10_holds_147 (lv_at hl 1 rfl) ?_
                refine lv_iload hx hb dX10_holds_149 (lv_at hl 0 rfl) ?_
                refine lv_icmp_ge (tgt := 158) hx hb dX10_holds_151 (by decide) (fun c_151 => ?_) (fun c_151 => ?_)
                · skip
                  refine lv_iconst (v := 0) hx hb dX10_holds_158 (by decide) ?_
                  refine lv_goto (tgt := 174) hx hb dX10_holds_159 (by decide) ?_
                  exact lp174 0 (by rw [← hg1, ← hg2, ← hg3]; simp [rTs, bB, ← hy, c_115, c_144, c_151])  _ _ (hw) ls (lv_sub hl [2, 3, 4, 5, 6, 7, 8, 9] (rfl))
                · skip
                  refine lv_iconst (v := 1) hx hb dX10_holds_154 (by decide) ?_
                  refine lv_goto (tgt := 174) hx hb dX10_holds_155 (by decide) ?_
                  exact lp174 1 (by rw [← hg1, ← hg2, ← hg3]; simp [rTs, bB, ← hy, c_115, c_144, c_151])  _ _ (hw) ls (lv_sub hl [2, 3, 4, 5, 6, 7, 8, 9] (rfl))
            · skip
              refine lv_iload hx hb dX10_holds_118 (lv_at hl 1 rfl) ?_
              refine lv_iload hx hb dX10_holds_120 (lv_at hl 0 rfl) ?_
              refine lv_icmp_ne (tgt := 129) hx hb dX10_holds_122 (by decide) (fun c_122 => ?_) (fun c_122 => ?_)
              · skip
                refine lv_iconst (v := 0) hx hb dX10_holds_129 (by decide) ?_
                refine lv_goto (tgt := 174) hx hb dX10_holds_130 (by decide) ?_
                exact lp174 0 (by rw [← hg1, ← hg2, ← hg3]; simp [rTs, bB, ← hy, c_115, c_122])  _ _ (hw) ls (lv_sub hl [2, 3, 4, 5, 6, 7, 8, 9] (rfl))
              · skip
                refine lv_iconst (v := 1) hx hb dX10_holds_125 (by decide) ?_
                refine lv_goto (tgt := 174) hx hb dX10_holds_126 (by decide) ?_
                exact lp174 1 (by rw [← hg1, ← hg2, ← hg3]; simp [rTs, bB, ← hy, c_115, c_122])  _ _ (hw) ls (lv_sub hl [2, 3, 4, 5, 6, 7, 8, 9] (rfl))
          refine lv_iload hx hb dX10_holds_38 (lv_at hl 0 rfl) ?_
          refine lv_bipush (v := 111) hx hb dX10_holds_40 (by decide) ?_
          refine lv_icmp_ne (tgt := 49) hx hb dX10_holds_42 (by decide) (fun c_42 => ?_) (fun c_42 => ?_)
          · skip
            refine lv_iload hx hb dX10_holds_49 (lv_at hl 0 rfl) ?_
            refine lv_bipush (v := 102) hx hb dX10_holds_51 (by decide) ?_
            refine lv_icmp_ne (tgt := 60) hx hb dX10_holds_53 (by decide) (fun c_53 => ?_) (fun c_53 => ?_)
            · skip
              refine lv_iload hx hb dX10_holds_60 (lv_at hl 0 rfl) ?_
              refine lv_bipush (v := 119) hx hb dX10_holds_62 (by decide) ?_
              refine lv_icmp_ne (tgt := 71) hx hb dX10_holds_64 (by decide) (fun c_64 => ?_) (fun c_64 => ?_)
              · skip
                refine lv_iload hx hb dX10_holds_71 (lv_at hl 0 rfl) ?_
                refine lv_bipush (v := 99) hx hb dX10_holds_73 (by decide) ?_
                refine lv_icmp_ne (tgt := 83) hx hb dX10_holds_75 (by decide) (fun c_75 => ?_) (fun c_75 => ?_)
                · skip
                  refine lv_iload hx hb dX10_holds_83 (lv_at hl 6 rfl) ?_
                  exact lp85 a5 (by simp [vL, vF, c_14, c_24, c_42, c_53, c_64, c_75])  _ _ (hw) ls (lv_sub hl [1, 2, 3, 4, 5, 6, 7, 8] (rfl))
                · skip
                  refine lv_iload hx hb dX10_holds_78 (lv_at hl 5 rfl) ?_
                  refine lv_goto (tgt := 85) hx hb dX10_holds_80 (by decide) ?_
                  exact lp85 a4 (by simp [vL, vF, c_14, c_24, c_42, c_53, c_64, c_75])  _ _ (hw) ls (lv_sub hl [1, 2, 3, 4, 5, 6, 7, 8] (rfl))
              · skip
                refine lv_iload_n hx hb dX10_holds_67 rfl (lv_at hl 4 rfl) ?_
                refine lv_goto (tgt := 85) hx hb dX10_holds_68 (by decide) ?_
                exact lp85 a3 (by simp [vL, vF, c_14, c_24, c_42, c_53, c_64])  _ _ (hw) ls (lv_sub hl [1, 2, 3, 4, 5, 6, 7, 8] (rfl))
            · skip
              refine lv_iload_n hx hb dX10_holds_56 rfl (lv_at hl 3 rfl) ?_
              refine lv_goto (tgt := 85) hx hb dX10_holds_57 (by decide) ?_
              exact lp85 a2 (by simp [vL, vF, c_14, c_24, c_42, c_53])  _ _ (hw) ls (lv_sub hl [1, 2, 3, 4, 5, 6, 7, 8] (rfl))
          · skip
            refine lv_iload_n hx hb dX10_holds_45 rfl (lv_at hl 2 rfl) ?_
            refine lv_goto (tgt := 85) hx hb dX10_holds_46 (by decide) ?_
            exact lp85 a1 (by simp [vL, vF, c_14, c_24, c_42])  _ _ (hw) ls (lv_sub hl [1, 2, 3, 4, 5, 6, 7, 8] (rfl))
  exact lp6 (L.length + 1) 0 ([]) (1 + nn) pl (Nat.zero_le _) (hrun1) (fun j x hx9 => by simp at hx9) (Nat.zero_le _) (by omega) _ _ (hw) ls (lv_sub hl [2, 3, 4, 5, 6, 7, 1, 0] (rfl))
