/-! ===== the tables that every method knows, the world of a method, and a row for each instruction that touches it ===== -/
abbrev tysA (ca : Nat → ClassId) : List (ClassId × FieldType) := [(ca 0, .byte), (ca 1, .int), (ca 2, .boolean), (ca 3, .object "ScrapHouse$Ballot"), (ca 4, .object "ScrapHouse$Child"), (ca 5, .object "ScrapHouse$Nurse")]
abbrev nest (own : String) (i : Nat) (y : MethodName) : Cond := .methodLinkNest own i y "ScrapHouse"
def gN (U : State) : Prop := va_Nw (nest RX9 29 yX8_init) U ∧ va_Nw (nest RX9 46 yX6_init) U ∧ va_Nw (nest RX0 29 yX9_within) U ∧ va_Nw (nest RX3 17 yX9_within) U ∧ va_Nw (nest RX2 33 yX9_within) U ∧ va_AO "ScrapHouse$Ballot" U ∧ va_AO "ScrapHouse$Child" U ∧ va_AO "ScrapHouse$Nurse" U
def gK (D : va_G) (ca : Nat → ClassId) (U : State) : Prop := va_K D vwCl (tysA ca) U ∧ gN U
theorem gN.warm {s U : State} (hW : s.WarmedH U.vm) (h : gN s) : gN U := by
  obtain ⟨h1, h2, h3, h4, h5, h6, h7, h8⟩ := h
  exact ⟨va_Nw.warmM hW h1, va_Nw.warmM hW h2, va_Nw.warmM hW h3, va_Nw.warmM hW h4, va_Nw.warmM hW h5, va_AO.moved hW.alike h6, va_AO.moved hW.alike h7, va_AO.moved hW.alike h8⟩
theorem gN.same {u U : State} (e : u.vm = U.vm) (h : gN u) : gN U := by
  obtain ⟨h1, h2, h3, h4, h5, h6, h7, h8⟩ := h
  have ea : u.vm.Alike U.vm := by rw [e]; exact Vm.Alike.refl _
  exact ⟨va_Nw.same rfl e h1, va_Nw.same rfl e h2, va_Nw.same rfl e h3, va_Nw.same rfl e h4, va_Nw.same rfl e h5, va_AO.moved ea h6, va_AO.moved ea h7, va_AO.moved ea h8⟩
theorem gK.warm {D : va_G} {ca : Nat → ClassId} {s U : State} (hW : s.WarmedH U.vm) (h : gK D ca s) : gK D ca U := ⟨va_K.moved hW.alike h.1, h.2.warm hW⟩
theorem gK.blind {D : va_G} {ca : Nat → ClassId} {U : State} {g : JFrame} {mk : MethodId} {a : Array Value} (h : gK D ca U) : gK D ca (U.calling g mk a) := ⟨va_K.moved (u := U) (U := U.calling g mk a) (Vm.Alike.refl U.vm) h.1, h.2.same rfl⟩
/-- what stands fast in a method: the machine, its code, the words -/
def cx (p : Program) (s : State) (m : MethodId) (c : Code) (args : Array Value) (cc : ByteArray) (nL : Nat) (own : String) (D : va_G) (ca : Nat → ClassId) : Prop :=
  p.tables.exec = Jvm.exec ∧ c.code = cc ∧ c.maxLocals = nL ∧ s.vm.findClass own = some m.cls ∧ (∀ w ∈ gw, w.before args s = true) ∧ gK D ca s
abbrev wz (y : MethodName) (b : ByteArray) (n : Nat) (r : Option FieldType) : List Cond := .code y b n r :: gw
theorem wz_good {y y2 : MethodName} {b b2 : ByteArray} {n n2 : Nat} {r r2 : Option FieldType} (h : Cond.code y2 b2 n2 r2 ∈ gw) : ∀ w ∈ wz y2 b2 n2 r2, w ∈ gw ∧ ((w.onTables && w.keeps) = true ∨ ∃ ty, w = .arrayClass ty) := by
  have g : ∀ w ∈ gw, w ∈ gw ∧ ((w.onTables && w.keeps) = true ∨ ∃ ty, w = .arrayClass ty) := fun w hw => ⟨hw, good_of_word (List.mem_filter.mp hw).2⟩
  intro w hw
  rcases List.mem_cons.mp hw with e | e
  · rw [e]; exact g _ h
  · exact g w e
def upd2 {α : Type} (f : Nat → Nat → α) (k i : Nat) (x : α) : Nat → Nat → α := fun a b => if a = k ∧ b = i then x else f a b
theorem upd2_at {α : Type} (f : Nat → Nat → α) (k i : Nat) (x : α) : upd2 f k i x k i = x := by simp [upd2]
theorem upd2_k {α : Type} (f : Nat → Nat → α) {k k' : Nat} (i i' : Nat) (x : α) (h : k' ≠ k) : upd2 f k i x k' i' = f k' i' := by simp [upd2, h]
theorem upd2_i {α : Type} (f : Nat → Nat → α) (k : Nat) {i i' : Nat} (x : α) (h : i' ≠ i) : upd2 f k i x k i' = f k i' := by simp [upd2, h]
/-- the cells of the world, by kind and number: where each lies, what it holds -/
def wq (D : va_G) (cnt : Nat → Nat) (ad : Nat → Nat → Nat) (ct : Nat → Nat → va_E) (H : Heap) : Prop := (∀ k i, i < cnt k → va_at D vwCl (ad k i, ct k i) H) ∧ (∀ k i k' i', i < cnt k → i' < cnt k' → ad k i = ad k' i' → k = k' ∧ i = i')
def wA (cnt : Nat → Nat) (ad : Nat → Nat → Nat) (sz : Nat) : Nat → Prop := fun q => (∃ k i, i < cnt k ∧ ad k i = q) ∨ sz ≤ q
def wd (D : va_G) (A : Nat → Prop) (H0 : Heap) (cnt : Nat → Nat) (ad : Nat → Nat → Nat) (ct : Nat → Nat → va_E) (H : Heap) (locs : List Loc) : Prop := wq D cnt ad ct H ∧ (∀ k i, i < cnt k → A (ad k i)) ∧ va_S A H0 H locs ∧ (∀ q, H0.size ≤ q → A q)
theorem wd.start {D : va_G} {cnt : Nat → Nat} {ad : Nat → Nat → Nat} {ct : Nat → Nat → va_E} {H : Heap} (h : wq D cnt ad ct H) : wd D (wA cnt ad H.size) H cnt ad ct H [] := ⟨h, fun k i hi => Or.inl ⟨k, i, hi, rfl⟩, va_S.rf, fun _ h => Or.inr h⟩
theorem wd.put {D : va_G} {A : Nat → Prop} {H0 : Heap} {cnt : Nat → Nat} {ad : Nat → Nat → Nat} {ct : Nat → Nat → va_E} {H H1 : Heap} {locs : List Loc} (h : wd D A H0 cnt ad ct H locs) {k i : Nat} (hi : i < cnt k) {e : va_E} {z : Nat} (he : va_at D vwCl (ad k i, e) H1) (hz : H1.size = H.size) (oq : ∀ q : Nat, q ≠ ad k i → H1[q]? = H[q]?) : wd D A H0 cnt ad (upd2 ct k i e) H1 (locs ++ [⟨ad k i, z⟩]) := by
  obtain ⟨⟨h1, h2⟩, h3, h4, h5⟩ := h
  refine ⟨⟨fun k' i' hi' => ?_, h2⟩, h3, h4.put hz oq (h3 k i hi), h5⟩
  by_cases hk : k' = k ∧ i' = i
  · obtain ⟨rfl, rfl⟩ := hk
    rw [upd2_at]; exact he
  · have : upd2 ct k i e k' i' = ct k' i' := by simp [upd2, hk]
    rw [this]
    exact (h1 k' i' hi').kept (oq _ (fun q => hk (h2 k' i' k i hi' hi q)))
theorem wd.new {D : va_G} {A : Nat → Prop} {H0 : Heap} {cnt : Nat → Nat} {ad : Nat → Nat → Nat} {ct : Nat → Nat → va_E} {H H1 : Heap} {locs : List Loc} (h : wd D A H0 cnt ad ct H locs) (k : Nat) {e : va_E} (he : va_at D vwCl (H.size, e) H1) (hz : H1.size = H.size + 1) (oq : ∀ q : Nat, q < H.size → H1[q]? = H[q]?) : wd D A H0 (va_up cnt k (cnt k + 1)) (upd2 ad k (cnt k) H.size) (upd2 ct k (cnt k) e) H1 locs := by
  obtain ⟨⟨h1, h2⟩, h3, h4, h5⟩ := h
  have hl : ∀ k' i', i' < cnt k' → ad k' i' < H.size := fun k' i' hi' => (h1 k' i' hi').lt
  have hs : ∀ k' i', i' < va_up cnt k (cnt k + 1) k' → (k' = k ∧ i' = cnt k) ∨ (i' < cnt k' ∧ ¬ (k' = k ∧ i' = cnt k)) := by
    intro k' i' hi'
    by_cases hk : k' = k
    · subst hk
      rw [va_up_self] at hi'
      by_cases e : i' = cnt k'
      · exact Or.inl ⟨rfl, e⟩
      · exact Or.inr ⟨by omega, fun q => e q.2⟩
    · rw [va_up_ne _ _ hk] at hi'
      exact Or.inr ⟨hi', fun q => hk q.1⟩
  refine ⟨⟨fun k' i' hi' => ?_, fun k1 i1 k2 i2 g1 g2 => ?_⟩, fun k' i' hi' => ?_, ⟨by rw [hz]; exact Nat.le_trans h4.1 (Nat.le_succ _), fun q g1 g2 => (oq q (Nat.lt_of_lt_of_le g1 h4.1)).trans (h4.2.1 q g1 g2), h4.2.2⟩, h5⟩
  · rcases hs k' i' hi' with ⟨rfl, rfl⟩ | ⟨q1, q2⟩
    · rw [upd2_at, upd2_at]; exact he
    · have e1 : upd2 ct k (cnt k) e k' i' = ct k' i' := by simp [upd2, q2]
      have e2 : upd2 ad k (cnt k) H.size k' i' = ad k' i' := by simp [upd2, q2]
      rw [e1, e2]
      exact (h1 k' i' q1).kept (oq _ (hl k' i' q1))
  · rcases hs k1 i1 g1 with ⟨rfl, rfl⟩ | ⟨q1, q2⟩ <;> rcases hs k2 i2 g2 with ⟨r1, r2⟩ | ⟨r1, r2⟩
    · subst r1; subst r2; intro _; exact ⟨rfl, rfl⟩
    · have e2 : upd2 ad k1 (cnt k1) H.size k2 i2 = ad k2 i2 := by simp [upd2, r2]
      rw [upd2_at, e2]
      intro q
      have := hl k2 i2 r1
      omega
    · subst r1; subst r2
      have e2 : upd2 ad k2 (cnt k2) H.size k1 i1 = ad k1 i1 := by simp [upd2, q2]
      rw [upd2_at, e2]
      intro q
      have := hl k1 i1 q1
      omega
    · have e1 : upd2 ad k (cnt k) H.size k1 i1 = ad k1 i1 := by simp [upd2, q2]
      have e2 : upd2 ad k (cnt k) H.size k2 i2 = ad k2 i2 := by simp [upd2, r2]
      rw [e1, e2]
      exact h2 k1 i1 k2 i2 q1 r1
  · rcases hs k' i' hi' with ⟨rfl, rfl⟩ | ⟨q1, q2⟩
    · rw [upd2_at]; exact h5 _ h4.1
    · have e2 : upd2 ad k (cnt k) H.size k' i' = ad k' i' := by simp [upd2, q2]
      rw [e2]; exact h3 k' i' q1
section XR
variable {p : Program} {l : Launch} {e : Env} {R : Room} {s : State} {m : MethodId} {args : Array Value} {below : List Frame} {meth : Method} {c : Code} {H : Heap} {locs : List Loc} {cells slots : Nat} {Q : State → Prop}
variable {cc : ByteArray} {nL : Nat} {own : String} {D : va_G} {ca : Nat → ClassId} {A : Nat → Prop} {H0 : Heap} {cnt : Nat → Nat} {ad : Nat → Nat → Nat} {ct : Nat → Nat → va_E} {pc : Nat} {ls : Array Slot} {rest : List Value}
theorem wd.one (hw : wd D A H0 cnt ad ct H locs) {k i : Nat} (hi : i < cnt k) {e : va_E} (hc : ct k i = e) : va_P D vwCl [(ad k i, e)] H := by
  intro j q hq
  have hz : j < 1 := (List.getElem?_eq_some_iff.mp hq).1
  rw [show j = 0 by omega] at hq
  cases hq
  rw [← hc]
  exact hw.1.1 k i hi
theorem x_get (E : cx p s m c args cc nL own D ca) (hw : wd D A H0 cnt ad ct H locs) {ci index : Nat} {C : String} {T : u_T} {N : Nat} {fs : List Value} (k i : Nat) (hi : i < cnt k) (hc : ct k i = .inr (ci, fs)) (hcl : vwCl[ci]? = some (C, T, N)) (hly : ∀ w ∈ u_ws C T N, w ∈ gw) (j : Nat) (hj : j < N) (hlink : Cond.fieldLink own index (T j).1 (T j).2.1 (T j).2.2.1 ∈ gw) {v : Value} (hv : fs[j]? = some v) (hdg : decode cc pc = .ok (.getfield index, 3))
    (kk : W p l e R s m args below meth c H locs cells slots Q (F0 m (pc + 3) ls (v :: rest))) : W p l e R s m args below meth c H locs cells slots Q (F0 m pc ls (.ref (ad k i) :: rest)) :=
  va_get E.1 E.2.1 E.2.2.2.2.1 hly E.2.2.2.1 E.2.2.2.2.2.1 (hw.one hi hc) 0 rfl hcl j hj (E.2.2.2.2.1 _ hlink) (fun _ h => h) hv hdg kk
theorem x_put (E : cx p s m c args cc nL own D ca) (hw : wd D A H0 cnt ad ct H locs) {ci index : Nat} {C : String} {T : u_T} {N : Nat} {fs : List Value} (k i : Nat) (hi : i < cnt k) (hc : ct k i = .inr (ci, fs)) (hcl : vwCl[ci]? = some (C, T, N)) (hly : ∀ w ∈ u_ws C T N, w ∈ gw) (ty0 : Nat → FieldType) (hty : ∀ k, k < N → parseFieldDescriptor (T k).2.2.1 = some (ty0 k)) (hnm : ∀ a, a < N → ∀ b, b < N → a ≠ b → (T a).2.1 ≠ (T b).2.1) (j : Nat) (hj : j < N) (hlink : Cond.fieldLink own index (T j).1 (T j).2.1 (T j).2.2.1 ∈ gw) (hfin : (T j).2.2.2 = false ∨ ((T j).2.2.2 = true ∧ meth.name = "<init>" ∧ (T j).1 = own)) {v : Value} (hn : narrow (ty0 j) v = v) (hfit : fits (ty0 j) v = true) (hl : j < fs.length) (hdg : decode cc pc = .ok (.putfield index, 3))
    (kk : ∀ (H1 : Heap) (locs1 : List Loc), wd D A H0 cnt ad (upd2 ct k i (.inr (ci, fs.set j v))) H1 locs1 → W p l e R s m args below meth c H1 locs1 cells slots Q (F0 m (pc + 3) ls rest)) : W p l e R s m args below meth c H locs cells slots Q (F0 m pc ls (v :: .ref (ad k i) :: rest)) := by
  have hts := E.2.2.2.2.1
  have hK := E.2.2.2.2.2.1
  have hap := va_apart (own := own) hts hly ty0 hty hnm hK hcl
  obtain ⟨r, h1, cell, q1, q2, q3, q4⟩ := (hw.one hi hc) 0 _ rfl
  have hr : r = (C, T, N) := Option.some.inj (h1.symm.trans hcl)
  subst hr
  obtain ⟨hS, hfc, kC, hkC, hkind⟩ := hK.1 ci _ hcl
  obtain ⟨cf, kf, fi, f, hi0, hsl⟩ := hS j hj
  have hlay := hts _ (hly _ (u_in_lay hj))
  have hst := (u_facts hfc hkC (u_lays hts hly hj) hi0).1
  have fin : ∀ H' : Heap, H'[ad k i]? = some (cell.setSlot (D.2 ci j) v) → H'.size = H.size → (∀ q, q ≠ ad k i → H'[q]? = H[q]?) → W p l e R s m args below meth c H' (locs ++ [⟨ad k i, D.2 ci j⟩]) cells slots Q (F0 m (pc + 3) ls rest) := fun H' e1 e2 e3 =>
    kk H' _ (hw.put hi ⟨_, hcl, t_OB.to (V := updV (vp_V fs) j v) ⟨_, e1, q2, q3, t_set q4 hap hj v⟩ (fun j _ => vp_updV_set hl v j)⟩ e2 e3)
  rcases hfin with hfin | ⟨hfin, hin2, hdecl⟩
  · unfold u_lay at hlay
    rw [if_neg (by rw [hfin]; decide)] at hlay
    have h6 := u_store hfc hkC hkind hlay hi0 (hty j hj) hn hfit
    refine W.putK E.1 E.2.1 (f := f) ⟨E.2.2.2.1, hts _ hlink, ⟨_, _, _, hi0⟩, hst⟩ (by rw [q2]; exact h6) q1 q3 (by rw [hsl]; exact k2_hasslot (q4 j hj)) rfl rfl hdg fun H' e1 e2 e3 => ?_
    rw [hsl] at e1 ⊢
    exact fin H' e1 e2 e3
  · unfold u_lay at hlay
    rw [if_pos hfin] at hlay
    have hcf : m.cls = cf := by
      obtain ⟨_, _, c', _, _, _, -, -, hf', -, -, -, hown2, -⟩ := Cond.laysFinal_spec hlay
      have e1 : c' = cf := by have := hi0.symm.trans hf'; simp at this; exact this.1.symm
      rw [hdecl] at hown2
      rw [← e1]; exact Option.some.inj (E.2.2.2.1.symm.trans hown2)
    have h6 := u_fits hfc hkC hkind (Or.inr hlay) hi0 (hty j hj) hn hfit
    refine W.putFinK E.1 E.2.1 E.2.2.2.1 (hts _ hlink) hi0 hst hcf hin2 (by rw [q2]; exact h6) q1 q3 (by rw [hsl]; exact k2_hasslot (q4 j hj)) rfl rfl hdg fun H' e1 e2 e3 => ?_
    rw [hsl] at e1 ⊢
    exact fin H' e1 e2 e3
theorem x_new (E : cx p s m c args cc nL own D ca) (hw : wd D A H0 cnt ad ct H locs) {ci index : Nat} {C : String} {T : u_T} {N : Nat} {fs : List Value} (k : Nat) (hcl : vwCl[ci]? = some (C, T, N)) (hly : ∀ w ∈ u_ws C T N, w ∈ gw) (ty0 : Nat → FieldType) (hty : ∀ k, k < N → parseFieldDescriptor (T k).2.2.1 = some (ty0 k)) (hlink : Cond.classLink own index C ∈ gw) (hinst : Cond.instantiable C N ∈ gw) (hini : Cond.initialized C ∈ gw) (hfs : ∀ j, j < N → defaultValue (ty0 j) = vp_V fs j) (hcells : cells + 1 ≤ R.cells) (hslots : slots + N ≤ R.slots) (hdg : decode cc pc = .ok (.new index, 3))
    (kk : ∀ (q : Nat) (H1 : Heap), wd D A H0 (va_up cnt k (cnt k + 1)) (upd2 ad k (cnt k) q) (upd2 ct k (cnt k) (.inr (ci, fs))) H1 locs → W p l e R s m args below meth c H1 locs (cells + 1) (slots + N) Q (F0 m (pc + 3) ls (.ref q :: rest))) : W p l e R s m args below meth c H locs cells slots Q (F0 m pc ls rest) := by
  have hts := E.2.2.2.2.1
  have hKn := E.2.2.2.2.2.1.1 ci _ hcl
  refine W.newcK E.1 E.2.1 E.2.2.2.1 (hts _ hlink) (hts _ hinst) (hts _ hini) rfl hdg hcells hslots hKn.2.1 rfl fun H1 kC hkC e1 z1 o1 => ?_
  exact kk H.size H1 (hw.new k ⟨_, hcl, (u_born ty0 hts hly hKn hkC e1 hty).to hfs⟩ z1 o1)
theorem x_uniq {ty : FieldType} {c1 c2 : ClassId} (h1 : s.vm.findClass ("[" ++ ty.toString) = some c1) (h2 : va_RA s c2 ty) : c1 = c2 := by
  have h3 : s.vm.findClass ("[" ++ ty.toString) = some c2 := by
    cases ty with
    | object C => obtain ⟨kA, comp, g1, g2, g3, g4⟩ := h2; exact g4
    | _ => exact h2
  exact Option.some.inj (h1.symm.trans h3)
theorem x_newa (E : cx p s m c args cc nL own D ca) (hw : wd D A H0 cnt ad ct H locs) {atype : ArrayType} (harr : Cond.arrayClass (newarray.typeOf atype) ∈ gw) (k t0 : Nat) {cA : ClassId} (ht : (tysA ca)[t0]? = some (cA, newarray.typeOf atype)) {n : Int32} {N' : Nat} (hd : defaultValue (newarray.typeOf atype) = .int 0) (hn : n = nI N') (hN : N' < 1000000) (hbytes : N' * componentBytes (newarray.typeOf atype) ≤ 536870912) (hcells : cells + 1 ≤ R.cells) (hslots : slots + N' ≤ R.slots) (hdg : decode cc pc = .ok (.newarray atype, 2))
    (kk : ∀ (q : Nat) (H1 : Heap), wd D A H0 (va_up cnt k (cnt k + 1)) (upd2 ad k (cnt k) q) (upd2 ct k (cnt k) (.inl (cA, N', .inl (fun _ => 0)))) H1 locs → W p l e R s m args below meth c H1 locs (cells + 1) (slots + N') Q (F0 m (pc + 2) ls (.ref q :: rest))) : W p l e R s m args below meth c H locs cells slots Q (F0 m pc ls (.int n :: rest)) := by
  refine va_newaK E.1 E.2.1 (E.2.2.2.2.1 _ harr) rfl hdg rfl (by rw [hn]; exact nI_pos (by omega)) (by rw [hn]; exact nI_clamp (by omega)) hbytes hcells hslots rfl fun H1 cA' e1 z1 o1 hAr hNm => ?_
  have he : cA' = cA := x_uniq hNm (E.2.2.2.2.2.1.2 t0 _ ht).2
  subst he
  exact kk H.size H1 (hw.new k (show H1[H.size]? = some (vp_cell _ _) by rw [e1, vp_cell_i, hd]) z1 o1)
theorem x_newq (E : cx p s m c args cc nL own D ca) (hw : wd D A H0 cnt ad ct H locs) {index : Nat} {C : String} (hlink : Cond.classLink own index C ∈ gw) (hover : va_AO C s) (k t0 : Nat) {cA : ClassId} (ht : (tysA ca)[t0]? = some (cA, .object C)) {n : Int32} {N' : Nat} (hn : n = nI N') (hN : N' < 1000000) (hcells : cells + 1 ≤ R.cells) (hslots : slots + N' ≤ R.slots) (hdg : decode cc pc = .ok (.anewarray index, 3))
    (kk : ∀ (q : Nat) (H1 : Heap), wd D A H0 (va_up cnt k (cnt k + 1)) (upd2 ad k (cnt k) q) (upd2 ct k (cnt k) (.inl (cA, N', .inr (.inr (.inr (.inr (fun _ => none))))))) H1 locs → W p l e R s m args below meth c H1 locs (cells + 1) (slots + N') Q (F0 m (pc + 3) ls (.ref q :: rest))) : W p l e R s m args below meth c H locs cells slots Q (F0 m pc ls (.int n :: rest)) := by
  have hcl : n.toNatClampNeg = N' := by rw [hn]; exact nI_clamp (by omega)
  refine W.anew E.1 E.2.1 E.2.2.2.1 (E.2.2.2.2.1 _ hlink) (va_AO.use hover) rfl hdg rfl (by rw [hn]; exact nI_pos (by omega)) (by rw [hcl]; omega) hcells (by rw [hcl]; exact hslots) fun cA' kA comp f1 f2 f3 f4 => ?_
  rw [hcl]
  have he : cA' = cA := x_uniq f1 (E.2.2.2.2.2.1.2 t0 _ ht).2
  subst he
  refine kk H.size _ (hw.new k (show _ = some (vp_cell _ _) from ?_) ?_ ?_)
  · rw [Array.getElem?_push_size]; exact congrArg some (arrV_new _ _ _)
  · simp
  · intro q hq
    rw [Array.getElem?_push, if_neg (Nat.ne_of_lt hq)]
theorem x_ild (E : cx p s m c args cc nL own D ca) (hw : wd D A H0 cnt ad ct H locs) (k i : Nat) (hi : i < cnt k) {n : Nat} {f : Nat → Int32} (hc : ct k i = .inl (ca 1, n, .inl f)) {x : Int32} (j : Nat) (hx : x = nI j) (hj : j < n) (hn : n < 1000000) (hdg : decode cc pc = .ok (.iaload, 1))
    (kk : W p l e R s m args below meth c H locs cells slots Q (F0 m (pc + 1) ls (.int (f j) :: rest))) : W p l e R s m args below meth c H locs cells slots Q (F0 m pc ls (.int x :: .ref (ad k i) :: rest)) := by
  subst hx
  refine va_iald E.1 E.2.1 E.2.2.2.2.2.1 (hw.one hi hc) 0 1 rfl rfl (vp_in_nI hj (by omega)) hdg ?_
  rw [nI_clamp (by omega)]
  exact kk
theorem x_bld (E : cx p s m c args cc nL own D ca) (hw : wd D A H0 cnt ad ct H locs) (k i : Nat) (hi : i < cnt k) {n : Nat} {f : Nat → Int32} (hc : ct k i = .inl (ca 0, n, .inl f)) {x : Int32} (j : Nat) (hx : x = nI j) (hj : j < n) (hn : n < 1000000) (hdg : decode cc pc = .ok (.baload, 1))
    (kk : W p l e R s m args below meth c H locs cells slots Q (F0 m (pc + 1) ls (.int (f j) :: rest))) : W p l e R s m args below meth c H locs cells slots Q (F0 m pc ls (.int x :: .ref (ad k i) :: rest)) := by
  subst hx
  refine va_bald E.1 E.2.1 E.2.2.2.2.2.1 (hw.one hi hc) 0 0 rfl rfl (vp_in_nI hj (by omega)) hdg ?_
  rw [nI_clamp (by omega)]
  exact kk
theorem x_zld (E : cx p s m c args cc nL own D ca) (hw : wd D A H0 cnt ad ct H locs) (k i : Nat) (hi : i < cnt k) {n : Nat} {f : Nat → Int32} (hc : ct k i = .inl (ca 2, n, .inl f)) {x : Int32} (j : Nat) (hx : x = nI j) (hj : j < n) (hn : n < 1000000) (hdg : decode cc pc = .ok (.baload, 1))
    (kk : W p l e R s m args below meth c H locs cells slots Q (F0 m (pc + 1) ls (.int (f j) :: rest))) : W p l e R s m args below meth c H locs cells slots Q (F0 m pc ls (.int x :: .ref (ad k i) :: rest)) := by
  subst hx
  refine va_zald E.1 E.2.1 E.2.2.2.2.2.1 (hw.one hi hc) 0 2 rfl rfl (vp_in_nI hj (by omega)) hdg ?_
  rw [nI_clamp (by omega)]
  exact kk
theorem x_ald (E : cx p s m c args cc nL own D ca) (hw : wd D A H0 cnt ad ct H locs) (t0 : Nat) {cA : ClassId} {C : String} (ht : (tysA ca)[t0]? = some (cA, .object C)) (k i : Nat) (hi : i < cnt k) {n : Nat} {f : Nat → Option Nat} (hc : ct k i = .inl (cA, n, .inr (.inr (.inr (.inr f))))) {x : Int32} (j : Nat) (hx : x = nI j) (hj : j < n) (hn : n < 1000000) (hdg : decode cc pc = .ok (.aaload, 1)) {v : Value} (hv : va_rf (f j) = v)
    (kk : W p l e R s m args below meth c H locs cells slots Q (F0 m (pc + 1) ls (v :: rest))) : W p l e R s m args below meth c H locs cells slots Q (F0 m pc ls (.int x :: .ref (ad k i) :: rest)) := by
  subst hx
  refine va_aldq E.1 E.2.1 E.2.2.2.2.2.1 (hw.one hi hc) 0 t0 rfl ht (vp_in_nI hj (by omega)) hdg ?_
  rw [nI_clamp (by omega), hv]
  exact kk
theorem x_ist (E : cx p s m c args cc nL own D ca) (hw : wd D A H0 cnt ad ct H locs) (k i : Nat) (hi : i < cnt k) {n : Nat} {f : Nat → Int32} (hc : ct k i = .inl (ca 1, n, .inl f)) {x z : Int32} (j : Nat) (hx : x = nI j) (hj : j < n) (hn : n < 1000000) (hdg : decode cc pc = .ok (.iastore, 1))
    (kk : ∀ (H1 : Heap) (locs1 : List Loc), wd D A H0 cnt ad (upd2 ct k i (.inl (ca 1, n, .inl (upd f j z)))) H1 locs1 → W p l e R s m args below meth c H1 locs1 cells slots Q (F0 m (pc + 1) ls rest)) : W p l e R s m args below meth c H locs cells slots Q (F0 m pc ls (.int z :: .int x :: .ref (ad k i) :: rest)) := by
  subst hx
  have hin : vp_in (nI j) n := vp_in_nI hj (by omega)
  refine W.iast E.1 E.2.1 ((hw.one hi hc) 0 _ rfl) ((E.2.2.2.2.2.1.2 1 _ rfl).1 n (fun j => .int (f j))) (fun q => by cases q) (by show ¬ (nI j < 0 ∨ (arrV _ _ _).slots.size ≤ _); rw [arrV_size]; exact hin) rfl rfl hdg fun H1 e z1 oq => ?_
  rw [nI_clamp (by omega)] at e ⊢
  refine kk H1 _ (hw.put hi (show H1[ad k i]? = some (vp_cell _ _) from ?_) z1 oq)
  rw [e, vp_cell_i, vp_cell_i, arrV_store]
  congr 2
  funext q
  by_cases hq : q = j
  · subst hq
    simp [updV, upd]
  · simp [updV, upd, hq]
theorem x_bst (E : cx p s m c args cc nL own D ca) (hw : wd D A H0 cnt ad ct H locs) (k i : Nat) (hi : i < cnt k) {n : Nat} {f : Nat → Int32} (hc : ct k i = .inl (ca 0, n, .inl f)) {x z : Int32} (j : Nat) (hx : x = nI j) (hj : j < n) (hn : n < 1000000) (hdg : decode cc pc = .ok (.bastore, 1))
    (kk : ∀ (H1 : Heap) (locs1 : List Loc), wd D A H0 cnt ad (upd2 ct k i (.inl (ca 0, n, .inl (upd f j z.toInt8.toInt32)))) H1 locs1 → W p l e R s m args below meth c H1 locs1 cells slots Q (F0 m (pc + 1) ls rest)) : W p l e R s m args below meth c H locs cells slots Q (F0 m pc ls (.int z :: .int x :: .ref (ad k i) :: rest)) := by
  subst hx
  have hin : vp_in (nI j) n := vp_in_nI hj (by omega)
  refine W.bast E.1 E.2.1 ((hw.one hi hc) 0 _ rfl) ((E.2.2.2.2.2.1.2 0 _ rfl).1 n (fun j => .int (f j))) (fun q => by cases q) (by show ¬ (nI j < 0 ∨ (arrV _ _ _).slots.size ≤ _); rw [arrV_size]; exact hin) rfl rfl hdg fun H1 e z1 oq => ?_
  rw [nI_clamp (by omega)] at e ⊢
  refine kk H1 _ (hw.put hi (show H1[ad k i]? = some (vp_cell _ _) from ?_) z1 oq)
  rw [e, vp_cell_i, vp_cell_i, arrV_store, narrow_byte]
  congr 2
  funext q
  by_cases hq : q = j
  · subst hq
    simp [updV, upd]
  · simp [updV, upd, hq]
theorem x_zst (E : cx p s m c args cc nL own D ca) (hw : wd D A H0 cnt ad ct H locs) (k i : Nat) (hi : i < cnt k) {n : Nat} {f : Nat → Int32} (hc : ct k i = .inl (ca 2, n, .inl f)) {x z : Int32} (j : Nat) (hx : x = nI j) (hj : j < n) (hn : n < 1000000) (hz : narrow .boolean (.int z) = .int z) (hdg : decode cc pc = .ok (.bastore, 1))
    (kk : ∀ (H1 : Heap) (locs1 : List Loc), wd D A H0 cnt ad (upd2 ct k i (.inl (ca 2, n, .inl (upd f j z)))) H1 locs1 → W p l e R s m args below meth c H1 locs1 cells slots Q (F0 m (pc + 1) ls rest)) : W p l e R s m args below meth c H locs cells slots Q (F0 m pc ls (.int z :: .int x :: .ref (ad k i) :: rest)) := by
  subst hx
  have hin : vp_in (nI j) n := vp_in_nI hj (by omega)
  refine W.zast E.1 E.2.1 ((hw.one hi hc) 0 _ rfl) ((E.2.2.2.2.2.1.2 2 _ rfl).1 n (fun j => .int (f j))) (fun q => by cases q) (by show ¬ (nI j < 0 ∨ (arrV _ _ _).slots.size ≤ _); rw [arrV_size]; exact hin) rfl rfl hdg fun H1 e z1 oq => ?_
  rw [nI_clamp (by omega), hz] at e
  rw [nI_clamp (by omega)]
  refine kk H1 _ (hw.put hi (show H1[ad k i]? = some (vp_cell _ _) from ?_) z1 oq)
  rw [e, vp_cell_i, vp_cell_i, arrV_store]
  congr 2
  funext q
  by_cases hq : q = j
  · subst hq
    simp [updV, upd]
  · simp [updV, upd, hq]
theorem x_ast (E : cx p s m c args cc nL own D ca) (hw : wd D A H0 cnt ad ct H locs) (t0 : Nat) {cA : ClassId} {r : vw_C} {ci : Nat} (ht : (tysA ca)[t0]? = some (cA, .object r.1)) (hcl : vwCl[ci]? = some r) (k i : Nat) (hi : i < cnt k) {n : Nat} {f : Nat → Option Nat} (hc : ct k i = .inl (cA, n, .inr (.inr (.inr (.inr f))))) (k2 i2 : Nat) (hi2 : i2 < cnt k2) {fs : List Value} (hc2 : ct k2 i2 = .inr (ci, fs)) {x : Int32} (j : Nat) (hx : x = nI j) (hj : j < n) (hn : n < 1000000) (hdg : decode cc pc = .ok (.aastore, 1))
    (kk : ∀ (H1 : Heap) (locs1 : List Loc), wd D A H0 cnt ad (upd2 ct k i (.inl (cA, n, .inr (.inr (.inr (.inr (va_up f j (some (ad k2 i2))))))))) H1 locs1 → W p l e R s m args below meth c H1 locs1 cells slots Q (F0 m (pc + 1) ls rest)) : W p l e R s m args below meth c H locs cells slots Q (F0 m pc ls (.ref (ad k2 i2) :: .int x :: .ref (ad k i) :: rest)) := by
  subst hx
  have hK := E.2.2.2.2.2.1
  obtain ⟨r', hr', cellV, g1, g2, g3, -⟩ := (hw.one hi2 hc2) 0 _ rfl
  have hcls := (hK.1 ci r hcl).2
  obtain ⟨kA, comp, k1, k2', k3, -⟩ := (hK.2 t0 _ ht).2
  have hcomp : comp = D.1 ci := Option.some.inj (k3.symm.trans hcls.1)
  subst hcomp
  obtain ⟨kC, hkC, -⟩ := hcls.2
  refine W.aast E.1 E.2.1 ((hw.one hi hc) 0 _ rfl) (fun q h => by cases h) (fun h => by cases h) k1 k2' rfl hkC ⟨nI_pos (by omega), by show _ < (arrV _ _ _).slots.size; rw [arrV_size, nI_clamp (by omega)]; exact hj⟩ g1 (fun q h => by rw [g3] at h; cases h) (by rw [g2]; exact hkC) (by rw [g2]; exact va_assign hcls) rfl rfl hdg fun H1 e z1 oq => ?_
  rw [nI_clamp (by omega)] at e ⊢
  refine kk H1 _ (hw.put hi (show H1[ad k i]? = some (vp_cell _ _) from ?_) z1 oq)
  rw [e, vp_cell_q, vp_cell_q, arrV_store]
  congr 2
  funext q
  by_cases hq : q = j
  · subst hq
    simp [updV, va_up, va_rf]
  · simp [updV, va_up, hq]
theorem x_len (E : cx p s m c args cc nL own D ca) (hw : wd D A H0 cnt ad ct H locs) (t0 : Nat) {cA : ClassId} {ty : FieldType} (ht : (tysA ca)[t0]? = some (cA, ty)) (k i : Nat) (hi : i < cnt k) {x : vp_A} (hc : ct k i = .inl (cA, x)) (hdg : decode cc pc = .ok (.arraylength, 1))
    (kk : W p l e R s m args below meth c H locs cells slots Q (F0 m (pc + 1) ls (.int (nI x.1) :: rest))) : W p l e R s m args below meth c H locs cells slots Q (F0 m pc ls (.ref (ad k i) :: rest)) :=
  va_alen E.1 E.2.1 E.2.2.2.2.2.1 (hw.one hi hc) 0 t0 rfl ht rfl hdg kk
theorem x_recv (E : cx p s m c args cc nL own D ca) (hw : wd D A H0 cnt ad ct H locs) {ci : Nat} {r : vw_C} (hcl : vwCl[ci]? = some r) {k i : Nat} (hi : i < cnt k) {fs : List Value} (hc : ct k i = .inr (ci, fs)) : ∃ cell : Cell, H[ad k i]? = some cell ∧ cell.vm.isStatics = false ∧ s.vm.findClass r.1 = some cell.cls :=
  va_recv E.2.2.2.2.2.1 (hw.one hi hc) (q0 := 0) hcl rfl
end XR
