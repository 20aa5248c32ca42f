/-! ===== contracts: from a body's walk to the contract, from a contract to a call ===== -/
abbrev WT : Type := (Nat → Nat) × (Nat → Nat → Nat) × (Nat → Nat → va_E)
/-- a method that changes the world: what it answers, and the world behind it -/
def QcW (D : va_G) (A : Nat → Prop) (post : Option Value → WT → Prop) : Array Value → State → Outcome → State → Prop := fun _ st o t => (∃ (v : Option Value) (u : WT), o = .returned v ∧ post v u ∧ wq D u.1 u.2.1 u.2.2 t.heap ∧ ∀ k i, i < u.1 k → A (u.2.1 k i)) ∧ va_F A st t
theorem x_met {l : Launch} {y : MethodName} {cc : ByteArray} {nL : Nat} {ret : Option FieldType} {rm : Room} {avs : List Value} {P : State → Prop} {D : va_G} {ca : Nat → ClassId} {Qc : Array Value → State → Outcome → State → Prop} {mc ms : Nat} {free : Addr → Prop} (hy : plainName y.cls = true) (hn : (lg_sl avs).length ≤ nL)
    (body : ∀ (p : Program) (e : Env) (s : State) (m : MethodId) (below : List Frame) (meth : Method) (c : Code), cx p s m c avs.toArray cc nL y.cls D ca → meth.sig.returnType = ret → meth.locks = false → meth.name = y.name → P s → ∀ ls : Array Slot, lv_has ls nL (lv_args 0 avs) → W p l e rm s m avs.toArray below meth c s.heap [] 0 0 (MQ below Qc avs.toArray s mc ms free) (F0 m 0 ls [])) :
    Met l y (wz y cc nL ret) rm (va_Pc avs (fun U => P U ∧ gK D ca U)) Qc mc ms free := by
  refine Met.ofW (cc := cc) (maxL := nL) (ret := ret) hy rfl ?_
  intro p e s m args below meth c s₁ B hml hv
  obtain ⟨rfl, hP, hK⟩ := hv
  have hts := atoms_spec (ws := wz y cc nL ret) B.pre
  rw [lg_entry_eq]
  exact body p e s m below meth c ⟨B.exec, B.bytes, hml, findClass_of_methodNamed B.named, fun w h => hts w (List.mem_cons_of_mem _ h), hK⟩ B.returns B.notSynchronized (name_of_methodNamed B.named B.method).1 hP _ (lv_entry avs hn)
abbrev cbD (y : MethodName) (n : Nat) : Prop := y.cls ≠ "java/lang/invoke/MethodHandle" ∧ y.cls ≠ "java/lang/invoke/VarHandle" ∧ (parseMethodDescriptor y.desc).map (fun d => d.parameters.length) = some n
def cbV (y : MethodName) (b : ByteArray) (maxL : Nat) (ret : Option FieldType) (n : Nat) : Prop := Cond.code y b maxL ret ∈ gw ∧ Cond.initialized y.cls ∈ gw ∧ cbD y n ∧ Cond.instanceMethod y ∈ gw ∧ Cond.selects y.cls y y ∈ gw
def cbS (y : MethodName) (b : ByteArray) (maxL : Nat) (ret : Option FieldType) (n : Nat) : Prop := Cond.code y b maxL ret ∈ gw ∧ Cond.initialized y.cls ∈ gw ∧ cbD y n ∧ Cond.static y ∈ gw
def cbI (y : MethodName) (b : ByteArray) (maxL : Nat) (n : Nat) : Prop := Cond.code y b maxL none ∈ gw ∧ Cond.initialized y.cls ∈ gw ∧ cbD y n ∧ Cond.instanceMethod y ∈ gw ∧ y.name = "<init>"
section XC
variable {p : Program} {l : Launch} {e : Env} {R : Room} {s : State} {m : MethodId} {args : Array Value} {below : List Frame} {meth : Method} {c : Code} {H : Heap} {locs : List Loc} {cells slots : Nat} {Q : State → Prop}
variable {cc : ByteArray} {nL : Nat} {own : String} {D : va_G} {ca : Nat → ClassId} {A : Nat → Prop} {H0 : Heap} {cnt : Nat → Nat} {ad : Nat → Nat → Nat} {ct : Nat → Nat → va_E} {pc : Nat} {ls : Array Slot} {rest st0 : List Value}
variable {y : MethodName} {b : ByteArray} {maxL n index mc ms : Nat} {ret : Option FieldType} {rm : Room} {As : List Value} {bb : Addr} {P : State → Prop} {Qc : Array Value → State → Outcome → State → Prop} {free : Addr → Prop}
abbrev xR (rm R : Room) (maxL mc ms : Nat) : Prop := rm.cells = mc ∧ rm.slots = ms ∧ rm.frames + 1 ≤ R.frames ∧ 8 + (maxL + 11) + rm.locals ≤ R.locals
theorem x_sig (hd : cbD y n) : ∀ sig, parseMethodDescriptor y.desc = some sig → n = sig.parameters.length := fun sig h => by
  have h2 := hd.2.2
  rw [h] at h2
  exact (Option.some.inj h2).symm
theorem x_B (E : cx p s m c args cc nL own D ca) (hcode : Cond.code y b maxL ret ∈ gw) (hini : Cond.initialized y.cls ∈ gw) (hd : cbD y n) (hl : Cond.methodLink own index y ∈ gw) (hR : xR rm R maxL mc ms) : CallB R s args own index y b maxL ret (wz y b maxL ret) rm mc ms n :=
  ⟨hR.1, hR.2.1, hR.2.2.1, hR.2.2.2, pay_in (big := gw) E.2.2.2.2.1 (wz_good (y := y) (b := b) (n := maxL) (r := ret) hcode), List.mem_cons_self, E.2.2.2.2.1 _ hcode, E.2.2.2.2.1 _ hini, ⟨hd.1, hd.2.1⟩, x_sig hd, E.2.2.2.2.1 _ hl⟩
theorem x_N {host : String} (E : cx p s m c args cc nL own D ca) (hcode : Cond.code y b maxL ret ∈ gw) (hini : Cond.initialized y.cls ∈ gw) (hd : cbD y n) (hl : va_Nw (.methodLinkNest own index y host) s) (hR : xR rm R maxL mc ms) : va_CN R s args own index y host b maxL ret (wz y b maxL ret) rm mc ms n :=
  ⟨⟨hR.1, hR.2.1, hR.2.2.1, hR.2.2.2, pay_in (big := gw) E.2.2.2.2.1 (wz_good (y := y) (b := b) (n := maxL) (r := ret) hcode), List.mem_cons_self⟩, E.2.2.2.2.1 _ hcode, E.2.2.2.2.1 _ hini, ⟨hd.1, hd.2.1⟩, x_sig hd, va_Nw.use rfl hl⟩
theorem x_blind {av : List Value} (hPb : ∀ (U : State) (g : JFrame) (mk : MethodId) (a : Array Value), P U → P (U.calling g mk a)) : FrameBlind (va_Pc av (fun U => P U ∧ gK D ca U)) := fun a U g mk q => ⟨q.1, hPb U g mk a q.2.1, q.2.2.blind⟩
theorem x_pre {av : List Value} (E : cx p s m c args cc nL own D ca) (hPb : ∀ (U : State) (g : JFrame) (mk : MethodId) (a : Array Value), P U → P (U.calling g mk a)) (hP : ∀ U : State, U.heap = H → s.WarmedH U.vm → P U) : PreS s H (va_Pc av (fun U => P U ∧ gK D ca U)) av := ⟨x_blind hPb, fun U hU hW => ⟨rfl, hP U hU hW, E.2.2.2.2.2.warm hW⟩⟩
/-- the five kinds of call -/
theorem x_runV (E : cx p s m c args cc nL own D ca) (cb : cbV y b maxL ret n) (hl : Cond.methodLink own index y ∈ gw) (hM : Met l y (wz y b maxL ret) rm (va_Pc (.ref bb :: As) (fun U => P U ∧ gK D ca U)) Qc mc ms free) (hR : xR rm R maxL mc ms) (hrec : ∃ cell : Cell, H[bb]? = some cell ∧ cell.vm.isStatics = false ∧ s.vm.findClass y.cls = some cell.cls) (hPb : ∀ (U : State) (g : JFrame) (mk : MethodId) (a : Array Value), P U → P (U.calling g mk a)) (hP : ∀ U : State, U.heap = H → s.WarmedH U.vm → P U) (hn : As.length = n) (hsz : ls.size = nL) (hst : st0 = As.reverse ++ .ref bb :: rest) (hW : (rest.map fun v => v.category).sum ≤ 8) (hdg : decode cc pc = .ok (.invokevirtual index, 3)) (hf : cells + mc ≤ R.cells ∧ slots + ms ≤ R.slots) : va_Run p l e R s m args below meth c H locs cells slots mc ms (F0 m pc ls st0) rest (Qc (Value.ref bb :: As).toArray) free :=
  va_runV (Ts := gw) ⟨E.1, E.2.1, E.2.2.1, E.2.2.2.1, E.2.2.2.2.1⟩ hM ⟨x_B E cb.1 cb.2.1 cb.2.2.1 hl hR, E.2.2.2.2.1 _ cb.2.2.2.1, E.2.2.2.2.1 _ cb.2.2.2.2⟩ ⟨x_blind hPb, hrec, (x_pre E hPb hP).2⟩ rfl hn hsz hst (lv_room hW) hdg hf
theorem x_runS (E : cx p s m c args cc nL own D ca) (cb : cbS y b maxL ret n) (hl : Cond.methodLink own index y ∈ gw) (hM : Met l y (wz y b maxL ret) rm (va_Pc As (fun U => P U ∧ gK D ca U)) Qc mc ms free) (hR : xR rm R maxL mc ms) (hPb : ∀ (U : State) (g : JFrame) (mk : MethodId) (a : Array Value), P U → P (U.calling g mk a)) (hP : ∀ U : State, U.heap = H → s.WarmedH U.vm → P U) (hn : As.length = n) (hsz : ls.size = nL) (hst : st0 = As.reverse ++ rest) (hW : (rest.map fun v => v.category).sum ≤ 8) (hdg : decode cc pc = .ok (.invokestatic index, 3)) (hf : cells + mc ≤ R.cells ∧ slots + ms ≤ R.slots) : va_Run p l e R s m args below meth c H locs cells slots mc ms (F0 m pc ls st0) rest (Qc As.toArray) free :=
  va_runS (Ts := gw) ⟨E.1, E.2.1, E.2.2.1, E.2.2.2.1, E.2.2.2.2.1⟩ hM ⟨x_B E cb.1 cb.2.1 cb.2.2.1 hl hR, E.2.2.2.2.1 _ cb.2.2.2⟩ (x_pre E hPb hP) rfl hn hsz hst (lv_room hW) hdg hf
theorem x_runI (E : cx p s m c args cc nL own D ca) (cb : cbI y b maxL n) (hl : Cond.methodLink own index y ∈ gw) (hM : Met l y (wz y b maxL none) rm (va_Pc (.ref bb :: As) (fun U => P U ∧ gK D ca U)) Qc mc ms free) (hR : xR rm R maxL mc ms) (hPb : ∀ (U : State) (g : JFrame) (mk : MethodId) (a : Array Value), P U → P (U.calling g mk a)) (hP : ∀ U : State, U.heap = H → s.WarmedH U.vm → P U) (hn : As.length = n) (hsz : ls.size = nL) (hst : st0 = As.reverse ++ .ref bb :: rest) (hW : (rest.map fun v => v.category).sum ≤ 8) (hdg : decode cc pc = .ok (.invokespecial index, 3)) (hf : cells + mc ≤ R.cells ∧ slots + ms ≤ R.slots) : va_Run p l e R s m args below meth c H locs cells slots mc ms (F0 m pc ls st0) rest (Qc (Value.ref bb :: As).toArray) free :=
  va_runI (Ts := gw) ⟨E.1, E.2.1, E.2.2.1, E.2.2.2.1, E.2.2.2.2.1⟩ hM ⟨x_B E cb.1 cb.2.1 cb.2.2.1 hl hR, cb.2.2.2.2, E.2.2.2.2.1 _ cb.2.2.2.1⟩ (x_pre E hPb hP) rfl hn hsz hst (lv_room hW) hdg hf
theorem x_runSN {host : String} (E : cx p s m c args cc nL own D ca) (cb : cbS y b maxL ret n) (hl : va_Nw (.methodLinkNest own index y host) s) (hM : Met l y (wz y b maxL ret) rm (va_Pc As (fun U => P U ∧ gK D ca U)) Qc mc ms free) (hR : xR rm R maxL mc ms) (hPb : ∀ (U : State) (g : JFrame) (mk : MethodId) (a : Array Value), P U → P (U.calling g mk a)) (hP : ∀ U : State, U.heap = H → s.WarmedH U.vm → P U) (hn : As.length = n) (hsz : ls.size = nL) (hst : st0 = As.reverse ++ rest) (hW : (rest.map fun v => v.category).sum ≤ 8) (hdg : decode cc pc = .ok (.invokestatic index, 3)) (hf : cells + mc ≤ R.cells ∧ slots + ms ≤ R.slots) : va_Run p l e R s m args below meth c H locs cells slots mc ms (F0 m pc ls st0) rest (Qc As.toArray) free :=
  va_runSN (Ts := gw) ⟨E.1, E.2.1, E.2.2.1, E.2.2.2.1, E.2.2.2.2.1⟩ hM ⟨x_N E cb.1 cb.2.1 cb.2.2.1 hl hR, E.2.2.2.2.1 _ cb.2.2.2, trivial⟩ (x_pre E hPb hP) rfl hn hsz hst (lv_room hW) hdg hf
theorem x_runIN {host : String} (E : cx p s m c args cc nL own D ca) (cb : cbI y b maxL n) (hl : va_Nw (.methodLinkNest own index y host) s) (hM : Met l y (wz y b maxL none) rm (va_Pc (.ref bb :: As) (fun U => P U ∧ gK D ca U)) Qc mc ms free) (hR : xR rm R maxL mc ms) (hPb : ∀ (U : State) (g : JFrame) (mk : MethodId) (a : Array Value), P U → P (U.calling g mk a)) (hP : ∀ U : State, U.heap = H → s.WarmedH U.vm → P U) (hn : As.length = n) (hsz : ls.size = nL) (hst : st0 = As.reverse ++ .ref bb :: rest) (hW : (rest.map fun v => v.category).sum ≤ 8) (hdg : decode cc pc = .ok (.invokespecial index, 3)) (hf : cells + mc ≤ R.cells ∧ slots + ms ≤ R.slots) : va_Run p l e R s m args below meth c H locs cells slots mc ms (F0 m pc ls st0) rest (Qc (Value.ref bb :: As).toArray) free :=
  va_runIN (Ts := gw) ⟨E.1, E.2.1, E.2.2.1, E.2.2.2.1, E.2.2.2.2.1⟩ hM ⟨x_N E cb.1 cb.2.1 cb.2.2.1 hl hR, cb.2.2.2.2, E.2.2.2.2.1 _ cb.2.2.2.1⟩ (x_pre E hPb hP) rfl hn hsz hst (lv_room hW) hdg hf
/-- behind a call that only reads -/
theorem x_read {r : Int32} {a : Array Value} (hr : va_Run p l e R s m args below meth c H locs cells slots 0 0 (F0 m pc ls st0) rest (QcRead r a) (fun _ => False)) (kk : W p l e R s m args below meth c H locs cells slots Q (F0 m (pc + 3) ls (.int r :: rest))) : W p l e R s m args below meth c H locs cells slots Q (F0 m pc ls st0) := by
  intro T hT X
  obtain ⟨v, st₀, t, T', L, h0, X', hL, e1, -, ⟨hv, hh⟩, st⟩ := hr T hT X
  cases hv
  obtain ⟨t2, a1, b1⟩ := kk T' (by rw [e1, hh, h0]) (Stand.forget X' (fun q h => (hL q h).elim))
  exact ⟨t2, st t2 a1, b1⟩
/-- the same, of a reference -/
def QcRef (r : Option Nat) : Array Value → State → Outcome → State → Prop := fun _ st o t => o = .returned (some (va_rf r)) ∧ t.heap = st.heap
theorem x_readq {r : Option Nat} {a : Array Value} (hr : va_Run p l e R s m args below meth c H locs cells slots 0 0 (F0 m pc ls st0) rest (QcRef r a) (fun _ => False)) (kk : W p l e R s m args below meth c H locs cells slots Q (F0 m (pc + 3) ls (va_rf r :: rest))) : W p l e R s m args below meth c H locs cells slots Q (F0 m pc ls st0) := by
  intro T hT X
  obtain ⟨v, st₀, t, T', L, h0, X', hL, e1, -, ⟨hv, hh⟩, st⟩ := hr T hT X
  cases hv
  obtain ⟨t2, a1, b1⟩ := kk T' (by rw [e1, hh, h0]) (Stand.forget X' (fun q h => (hL q h).elim))
  exact ⟨t2, st t2 a1, b1⟩
/-- behind a call that changes the world -/
theorem x_wrote {post : Option Value → WT → Prop} {a : Array Value} (hw : wd D A H0 cnt ad ct H locs) (hr : va_Run p l e R s m args below meth c H locs cells slots mc ms (F0 m pc ls st0) rest (QcW D (wA cnt ad H.size) post a) (wA cnt ad H.size)) (kk : ∀ (v : Option Value) (u : WT) (H1 : Heap) (locs1 : List Loc), post v u → wd D A H0 u.1 u.2.1 u.2.2 H1 locs1 → H.size ≤ H1.size → (∀ q : Nat, q < H.size → ¬ wA cnt ad H.size q → H1[q]? = H[q]?) → W p l e R s m args below meth c H1 locs1 (cells + mc) (slots + ms) Q (F0 m (pc + 3) ls (v.toList ++ rest))) : W p l e R s m args below meth c H locs cells slots Q (F0 m pc ls st0) := by
  intro T hT X
  obtain ⟨v, st₀, t, T', L, h0, X', hL, e1, e2, ⟨⟨v', u, hv, hp, hq, hA1⟩, hz, hk⟩, st⟩ := hr T hT X
  cases hv
  rw [h0] at hz hk
  obtain ⟨⟨g1, g2⟩, g3, g4, g5⟩ := hw
  have hA : ∀ q, wA cnt ad H.size q → A q := by
    intro q h
    rcases h with ⟨k, i, hi, rfl⟩ | h
    · exact g3 k i hi
    · exact g5 q (Nat.le_trans g4.1 h)
  obtain ⟨t2, a1, b1⟩ := kk v u T'.heap (locs ++ L) hp ⟨by rw [e1]; exact hq, fun k i hi => hA _ (hA1 k i hi), ⟨Nat.le_trans g4.1 (by rw [e1]; exact hz), fun q h1 h2 => by rw [e1, hk q (Nat.lt_of_lt_of_le h1 g4.1) (fun z => h2 (hA q z))]; exact g4.2.1 q h1 h2, fun q hq => by
      rcases List.mem_append.mp hq with h | h
      · exact g4.2.2 q h
      · exact hA _ (hL q h)⟩, g5⟩ (by rw [e1]; exact hz) (fun q h1 h2 => by rw [e1]; exact hk q h1 h2) T' rfl X'
  exact ⟨t2, st t2 a1, b1⟩
/-- ends of methods that only read -/
theorem x_iret (E : cx p s m c args cc nL own D ca) (hr : meth.sig.returnType = some .int) (hlk : meth.locks = false) {r v : Int32} (hv : v = r) (hdg : decode cc pc = .ok (.ireturn, 1)) : W p l e R s m args below meth c s.heap [] 0 0 (MQ below (QcRead r) args s 0 0 (fun _ => False)) (F0 m pc ls [.int v]) := by
  subst hv
  exact W.iret E.1 E.2.1 hr (fun t ht _ => ⟨rfl, ht⟩) (fun q h => by cases h) hdg
theorem x_nar {v : Int32} (h : v = 0 ∨ v = 1) : narrow .boolean (.int v) = .int v := by
  rcases h with rfl | rfl <;> rfl
theorem x_zret (E : cx p s m c args cc nL own D ca) (hr : meth.sig.returnType = some .boolean) (hlk : meth.locks = false) {r v : Int32} (hn : v = 0 ∨ v = 1) (hv : v = r) (hdg : decode cc pc = .ok (.ireturn, 1)) : W p l e R s m args below meth c s.heap [] 0 0 (MQ below (QcRead r) args s 0 0 (fun _ => False)) (F0 m pc ls [.int v]) := by
  subst hv
  exact W.zret E.1 E.2.1 hr (x_nar hn) (fun t ht _ => ⟨rfl, ht⟩) (fun q h => by cases h) hdg
theorem x_aret (E : cx p s m c args cc nL own D ca) {rt : FieldType} (hr : meth.sig.returnType = some rt) (hrt : (∃ n, rt = .object n) ∨ ∃ t, rt = .array t) (hlk : meth.locks = false) {r : Option Nat} {v : Value} (hv : v = va_rf r) (hdg : decode cc pc = .ok (.areturn, 1)) : W p l e R s m args below meth c s.heap [] 0 0 (MQ below (QcRef r) args s 0 0 (fun _ => False)) (F0 m pc ls [v]) := by
  subst hv
  exact W.aret E.1 E.2.1 hr hrt (va_rf_or r) (fun t ht _ => ⟨rfl, ht⟩) (fun q h => by cases h) hdg
/-- ends of methods that change the world -/
theorem x_wq {post : Option Value → WT → Prop} {v : Option Value} (hw : wd D A s.heap cnt ad ct H locs) (hp : post v (cnt, ad, ct)) : ∀ t : State, t.heap = H → s.WarmedH t.vm → QcW D A post args s (.returned v) t := fun t ht _ => ⟨⟨v, (cnt, ad, ct), rfl, hp, by rw [ht]; exact hw.1, hw.2.1⟩, hw.2.2.1.F ht⟩
theorem x_vretW (E : cx p s m c args cc nL own D ca) (hr : meth.sig.returnType = none) (hlk : meth.locks = false) {post : Option Value → WT → Prop} (hw : wd D A s.heap cnt ad ct H locs) (h1 : cells ≤ mc) (h2 : slots ≤ ms) (hp : post none (cnt, ad, ct)) (hdg : decode cc pc = .ok (.return_, 1)) : W p l e R s m args below meth c H locs cells slots (MQ below (QcW D A post) args s mc ms A) (F0 m pc ls []) :=
  W.widen h1 h2 (W.vret E.1 E.2.1 hr (x_wq hw hp) hw.2.2.1.2.2 hdg)
theorem x_iretW (E : cx p s m c args cc nL own D ca) (hr : meth.sig.returnType = some .int) (hlk : meth.locks = false) {post : Option Value → WT → Prop} {v : Int32} (hw : wd D A s.heap cnt ad ct H locs) (h1 : cells ≤ mc) (h2 : slots ≤ ms) (hp : post (some (.int v)) (cnt, ad, ct)) (hdg : decode cc pc = .ok (.ireturn, 1)) : W p l e R s m args below meth c H locs cells slots (MQ below (QcW D A post) args s mc ms A) (F0 m pc ls [.int v]) :=
  W.widen h1 h2 (W.iret E.1 E.2.1 hr (x_wq hw hp) hw.2.2.1.2.2 hdg)
theorem x_zretW (E : cx p s m c args cc nL own D ca) (hr : meth.sig.returnType = some .boolean) (hlk : meth.locks = false) {post : Option Value → WT → Prop} {v : Int32} (hn : v = 0 ∨ v = 1) (hw : wd D A s.heap cnt ad ct H locs) (h1 : cells ≤ mc) (h2 : slots ≤ ms) (hp : post (some (.int v)) (cnt, ad, ct)) (hdg : decode cc pc = .ok (.ireturn, 1)) : W p l e R s m args below meth c H locs cells slots (MQ below (QcW D A post) args s mc ms A) (F0 m pc ls [.int v]) :=
  W.widen h1 h2 (W.zret E.1 E.2.1 hr (x_nar hn) (x_wq hw hp) hw.2.2.1.2.2 hdg)
end XC
/-! ===== the reference's world: one object, its ints v by field, its arrays g by field ===== -/
def mInt (j : Nat) : Bool := j < 6 || (27 ≤ j && j ≤ 31)
def mZ (k : Nat) : Bool := k == 17 || k == 23 || k == 32
def mlen (k : Nat) : Nat := if k = 6 then 50 else if k = 7 then 1000 else if k = 8 then 20 else if k < 17 then 60 else if k = 17 then 1200 else if k < 22 then 300 else if k = 22 then 13 else if k = 23 then 26013 else if k = 24 then 100 else if k < 27 then 240 else 120
def mcnt (k : Nat) : Nat := if k = 33 then 1 else if k < 33 ∧ mInt k = false then 1 else 0
def mfl (ad : Nat → Nat → Nat) (v : Nat → Int32) : List Value := (List.range 33).map (fun j => if mInt j then .int (v j) else .ref (ad j 0))
def mct (ca : Nat → ClassId) (ad : Nat → Nat → Nat) (v : Nat → Int32) (g : Nat → Nat → Int32) : Nat → Nat → va_E := fun k _ => if k = 33 then .inr (10, mfl ad v) else .inl (ca (if mZ k then 2 else 1), mlen k, .inl (g k))
theorem mlen_lt (k : Nat) : mlen k < 1000000 := by
  unfold mlen
  repeat (first | omega | split)
theorem mfl_len (ad : Nat → Nat → Nat) (v : Nat → Int32) : (mfl ad v).length = 33 := by simp [mfl]
theorem mfl_i {ad : Nat → Nat → Nat} {v : Nat → Int32} {j : Nat} (hj : j < 33) (h : mInt j = true) : (mfl ad v)[j]? = some (.int (v j)) := by simp [mfl, hj, h]
theorem mfl_r {ad : Nat → Nat → Nat} {v : Nat → Int32} {j : Nat} (hj : j < 33) (h : mInt j = false) : (mfl ad v)[j]? = some (.ref (ad j 0)) := by simp [mfl, hj, h]
theorem mfl_set {ad : Nat → Nat → Nat} {v : Nat → Int32} {j : Nat} (hj : j < 33) (h : mInt j = true) (x : Int32) : (mfl ad v).set j (.int x) = mfl ad (upd v j x) := by
  apply List.ext_getElem?
  intro i
  by_cases hi : i = j
  · subst hi
    rw [List.getElem?_set_self (by rw [mfl_len]; exact hj), mfl_i hj h]
    simp [upd]
  · rw [List.getElem?_set_ne (Ne.symm hi)]
    simp only [mfl, List.getElem?_map]
    cases hr : (List.range 33)[i]? with
    | none => rfl
    | some q =>
      have : q = i := by
        have := List.getElem?_eq_some_iff.mp hr
        obtain ⟨h1, h2⟩ := this
        simpa using h2.symm
      subst this
      simp [upd, hi]
theorem cl_10 : vwCl[10]? = some (RX10, TX10, 33) := rfl
theorem wd.ct {D : va_G} {A : Nat → Prop} {H0 : Heap} {cnt : Nat → Nat} {ad : Nat → Nat → Nat} {ct ct' : Nat → Nat → va_E} {H : Heap} {locs : List Loc} (h : wd D A H0 cnt ad ct H locs) (he : ∀ k i, i < cnt k → ct k i = ct' k i) : wd D A H0 cnt ad ct' H locs := ⟨⟨fun k i hi => by rw [← he k i hi]; exact h.1.1 k i hi, h.1.2⟩, h.2⟩
abbrev mw (D : va_G) (A : Nat → Prop) (H0 : Heap) (ca : Nat → ClassId) (ad : Nat → Nat → Nat) (v : Nat → Int32) (g : Nat → Nat → Int32) (H : Heap) (locs : List Loc) : Prop := wd D A H0 mcnt ad (mct ca ad v g) H locs
abbrev mq (D : va_G) (ca : Nat → ClassId) (ad : Nat → Nat → Nat) (v : Nat → Int32) (g : Nat → Nat → Int32) (H : Heap) : Prop := wq D mcnt ad (mct ca ad v g) H
theorem mcnt_33 : 0 < mcnt 33 := by decide
theorem mcnt_0 {k i : Nat} (h : i < mcnt k) : i = 0 := by
  unfold mcnt at h
  split at h
  · omega
  · split at h <;> omega
theorem ly_10 : ∀ w ∈ u_ws RX10 TX10 33, w ∈ gw := by
  have h : ∀ w ∈ u_ws RX10 TX10 33, w ∈ tables_1 := by decide +kernel
  have h2 : ∀ w ∈ u_ws RX10 TX10 33, goodWord w = true := by decide +kernel
  exact fun w hw => gw_in (h w hw) (h2 w hw)
theorem tyX10_int : ∀ j, j < 33 → mInt j = true → tyX10 j = .int := by decide +kernel
theorem TX10_fin : ∀ j, j < 33 → mInt j = true → (TX10 j).2.2.2 = false := by decide +kernel
/-- a method of the reference that changes it: its answer, its ints and arrays behind it -/
def QcM (D : va_G) (ca : Nat → ClassId) (ad : Nat → Nat → Nat) (A : Nat → Prop) (r : Option Value) (v : Nat → Int32) (g : Nat → Nat → Int32) : Array Value → State → Outcome → State → Prop := fun _ st o t => (o = .returned r ∧ mq D ca ad v g t.heap) ∧ va_F A st t
section XM
variable {p : Program} {l : Launch} {e : Env} {R : Room} {s : State} {m : MethodId} {args : Array Value} {below : List Frame} {meth : Method} {c : Code} {H : Heap} {locs : List Loc} {cells slots : Nat} {Q : State → Prop}
variable {cc : ByteArray} {nL : Nat} {own : String} {D : va_G} {ca : Nat → ClassId} {A : Nat → Prop} {H0 : Heap} {ad : Nat → Nat → Nat} {v : Nat → Int32} {g : Nat → Nat → Int32} {pc : Nat} {ls : Array Slot} {rest st0 : List Value}
theorem m_geti (E : cx p s m c args cc nL own D ca) (hw : mw D A H0 ca ad v g H locs) {index : Nat} (j : Nat) (hj : j < 33) (h : mInt j = true) (hlink : Cond.fieldLink own index (TX10 j).1 (TX10 j).2.1 (TX10 j).2.2.1 ∈ gw) {x : Int32} (hx : v j = x) (hdg : decode cc pc = .ok (.getfield index, 3))
    (kk : W p l e R s m args below meth c H locs cells slots Q (F0 m (pc + 3) ls (.int x :: rest))) : W p l e R s m args below meth c H locs cells slots Q (F0 m pc ls (.ref (ad 33 0) :: rest)) := by
  subst hx
  exact x_get E hw 33 0 mcnt_33 rfl cl_10 ly_10 j hj hlink (mfl_i hj h) hdg kk
theorem m_getr (E : cx p s m c args cc nL own D ca) (hw : mw D A H0 ca ad v g H locs) {index : Nat} (j : Nat) (hj : j < 33) (h : mInt j = false) (hlink : Cond.fieldLink own index (TX10 j).1 (TX10 j).2.1 (TX10 j).2.2.1 ∈ gw) (hdg : decode cc pc = .ok (.getfield index, 3))
    (kk : W p l e R s m args below meth c H locs cells slots Q (F0 m (pc + 3) ls (.ref (ad j 0) :: rest))) : W p l e R s m args below meth c H locs cells slots Q (F0 m pc ls (.ref (ad 33 0) :: rest)) :=
  x_get E hw 33 0 mcnt_33 rfl cl_10 ly_10 j hj hlink (mfl_r hj h) hdg kk
theorem m_put (E : cx p s m c args cc nL own D ca) (hw : mw D A H0 ca ad v g H locs) {index : Nat} (j : Nat) (hj : j < 33) (h : mInt j = true) (hlink : Cond.fieldLink own index (TX10 j).1 (TX10 j).2.1 (TX10 j).2.2.1 ∈ gw) {x : Int32} (hdg : decode cc pc = .ok (.putfield index, 3))
    (kk : ∀ (H1 : Heap) (locs1 : List Loc), mw D A H0 ca ad (upd v j x) g H1 locs1 → W p l e R s m args below meth c H1 locs1 cells slots Q (F0 m (pc + 3) ls rest)) : W p l e R s m args below meth c H locs cells slots Q (F0 m pc ls (.int x :: .ref (ad 33 0) :: rest)) := by
  refine x_put E hw 33 0 mcnt_33 rfl cl_10 ly_10 tyX10 tyX10_ok nmX10 j hj hlink (Or.inl (TX10_fin j hj h)) (by rw [tyX10_int j hj h]; rfl) (by rw [tyX10_int j hj h]; rfl) (by rw [mfl_len]; exact hj) hdg fun H1 locs1 hw1 => ?_
  refine kk H1 locs1 (hw1.ct fun k i hi => ?_)
  rw [mcnt_0 hi]
  by_cases hk : k = 33
  · subst hk
    rw [upd2_at, mfl_set hj h]; rfl
  · rw [upd2_k _ _ _ _ hk]
    simp [mct, hk]
theorem m_ild (E : cx p s m c args cc nL own D ca) (hw : mw D A H0 ca ad v g H locs) (k : Nat) (hk : k < 33 ∧ mInt k = false ∧ mZ k = false) {x : Int32} (j : Nat) (hx : x = nI j) (hj : j < mlen k) (hdg : decode cc pc = .ok (.iaload, 1))
    (kk : W p l e R s m args below meth c H locs cells slots Q (F0 m (pc + 1) ls (.int (g k j) :: rest))) : W p l e R s m args below meth c H locs cells slots Q (F0 m pc ls (.int x :: .ref (ad k 0) :: rest)) := by
  refine x_ild E hw k 0 (by have : k ≠ 33 := by omega
                            simp [mcnt, hk, this]) (by have : k ≠ 33 := by omega
                                                       simp only [mct, this, hk.2.2, if_false]; rfl) j hx hj (mlen_lt k) hdg kk
theorem m_zld (E : cx p s m c args cc nL own D ca) (hw : mw D A H0 ca ad v g H locs) (k : Nat) (hk : k < 33 ∧ mInt k = false ∧ mZ k = true) {x : Int32} (j : Nat) (hx : x = nI j) (hj : j < mlen k) (hdg : decode cc pc = .ok (.baload, 1))
    (kk : W p l e R s m args below meth c H locs cells slots Q (F0 m (pc + 1) ls (.int (g k j) :: rest))) : W p l e R s m args below meth c H locs cells slots Q (F0 m pc ls (.int x :: .ref (ad k 0) :: rest)) := by
  refine x_zld E hw k 0 (by have : k ≠ 33 := by omega
                            simp [mcnt, hk, this]) (by have : k ≠ 33 := by omega
                                                       simp only [mct, this, hk.2.2, if_false]; rfl) j hx hj (mlen_lt k) hdg kk
theorem m_stct {k : Nat} (hk : k < 33) (j : Nat) (z : Int32) : ∀ k' i, i < mcnt k' → upd2 (mct ca ad v g) k 0 (.inl (ca (if mZ k then 2 else 1), mlen k, .inl (upd (g k) j z))) k' i = mct ca ad v (upd2 g k j z) k' i := by
  intro k' i hi
  rw [mcnt_0 hi]
  by_cases h : k' = k
  · subst h
    have h3 : k' ≠ 33 := by omega
    rw [upd2_at]
    have e : upd (g k') j z = upd2 g k' j z k' := by
      funext b
      simp [upd, upd2]
    simp only [mct, h3, if_false, e]
  · rw [upd2_k _ _ _ _ h]
    have e : upd2 g k j z k' = g k' := by
      funext b
      simp [upd2, h]
    simp only [mct, e]
theorem m_ist (E : cx p s m c args cc nL own D ca) (hw : mw D A H0 ca ad v g H locs) (k : Nat) (hk : k < 33 ∧ mInt k = false ∧ mZ k = false) {x z : Int32} (j : Nat) (hx : x = nI j) (hj : j < mlen k) (hdg : decode cc pc = .ok (.iastore, 1))
    (kk : ∀ (H1 : Heap) (locs1 : List Loc), mw D A H0 ca ad v (upd2 g k j z) H1 locs1 → W p l e R s m args below meth c H1 locs1 cells slots Q (F0 m (pc + 1) ls rest)) : W p l e R s m args below meth c H locs cells slots Q (F0 m pc ls (.int z :: .int x :: .ref (ad k 0) :: rest)) := by
  have h33 : k ≠ 33 := by omega
  refine x_ist E hw k 0 (by simp [mcnt, hk, h33]) (by simp only [mct, h33, hk.2.2, if_false]; rfl) j hx hj (mlen_lt k) hdg fun H1 locs1 hw1 => kk H1 locs1 (hw1.ct ?_)
  have := m_stct (ca := ca) (ad := ad) (v := v) (g := g) hk.1 j z
  rw [hk.2.2] at this
  exact this
theorem m_zst (E : cx p s m c args cc nL own D ca) (hw : mw D A H0 ca ad v g H locs) (k : Nat) (hk : k < 33 ∧ mInt k = false ∧ mZ k = true) {x z : Int32} (j : Nat) (hx : x = nI j) (hj : j < mlen k) (hz : z = 0 ∨ z = 1) (hdg : decode cc pc = .ok (.bastore, 1))
    (kk : ∀ (H1 : Heap) (locs1 : List Loc), mw D A H0 ca ad v (upd2 g k j z) H1 locs1 → W p l e R s m args below meth c H1 locs1 cells slots Q (F0 m (pc + 1) ls rest)) : W p l e R s m args below meth c H locs cells slots Q (F0 m pc ls (.int z :: .int x :: .ref (ad k 0) :: rest)) := by
  have h33 : k ≠ 33 := by omega
  refine x_zst E hw k 0 (by simp [mcnt, hk, h33]) (by simp only [mct, h33, hk.2.2, if_true, if_false]; rfl) j hx hj (mlen_lt k) (x_nar hz) hdg fun H1 locs1 hw1 => kk H1 locs1 (hw1.ct ?_)
  have := m_stct (ca := ca) (ad := ad) (v := v) (g := g) hk.1 j z
  rw [hk.2.2] at this
  exact this
theorem m_recv (E : cx p s m c args cc nL own D ca) (hw : mw D A H0 ca ad v g H locs) : ∃ cell : Cell, H[ad 33 0]? = some cell ∧ cell.vm.isStatics = false ∧ s.vm.findClass "ScrapHouseModel" = some cell.cls := x_recv E hw cl_10 (k := 33) (i := 0) mcnt_33 rfl
/-- behind a call of the reference's own that changes it -/
theorem m_wrote {a : Array Value} {r : Option Value} {v' : Nat → Int32} {g' : Nat → Nat → Int32} {mc ms : Nat} (hw : mw D A H0 ca ad v g H locs) (hr : va_Run p l e R s m args below meth c H locs cells slots mc ms (F0 m pc ls st0) rest (QcM D ca ad (wA mcnt ad H.size) r v' g' a) (wA mcnt ad H.size)) (kk : ∀ (H1 : Heap) (locs1 : List Loc), mw D A H0 ca ad v' g' H1 locs1 → H.size ≤ H1.size → (∀ q : Nat, q < H.size → ¬ wA mcnt ad H.size q → H1[q]? = H[q]?) → W p l e R s m args below meth c H1 locs1 (cells + mc) (slots + ms) Q (F0 m (pc + 3) ls (r.toList ++ rest))) : W p l e R s m args below meth c H locs cells slots Q (F0 m pc ls st0) := by
  refine x_wrote (post := fun w u => w = r ∧ u = (mcnt, ad, mct ca ad v' g')) (mc := mc) (ms := ms) (rest := rest) hw (a := a) (fun T hT X => ?_) (fun w u H1 locs1 hp hw1 hz hk => ?_)
  · obtain ⟨v1, st₀, t, T', L, h0, X', hL, e1, e2, ⟨⟨hv, hq⟩, hF⟩, st⟩ := hr T hT X
    cases hv
    exact ⟨r, st₀, t, T', L, h0, X', hL, e1, e2, ⟨⟨r, (mcnt, ad, mct ca ad v' g'), rfl, ⟨rfl, rfl⟩, hq, fun k i hi => Or.inl ⟨k, i, hi, rfl⟩⟩, hF⟩, st⟩
  · obtain ⟨rfl, rfl⟩ := hp
    exact kk H1 locs1 hw1 hz hk
theorem m_vret (E : cx p s m c args cc nL own D ca) (hr : meth.sig.returnType = none) (hlk : meth.locks = false) {v' : Nat → Int32} {g' : Nat → Nat → Int32} (hw : mw D A s.heap ca ad v g H locs) (hv : v = v') (hg : g = g') (hdg : decode cc pc = .ok (.return_, 1)) : W p l e R s m args below meth c H locs cells slots (MQ below (QcM D ca ad A none v' g') args s cells slots A) (F0 m pc ls []) := by
  subst hv; subst hg
  exact W.vret E.1 E.2.1 hr (fun t ht _ => ⟨⟨rfl, by rw [ht]; exact hw.1⟩, hw.2.2.1.F ht⟩) hw.2.2.1.2.2 hdg
theorem m_iret (E : cx p s m c args cc nL own D ca) (hr : meth.sig.returnType = some .int) (hlk : meth.locks = false) {v' : Nat → Int32} {g' : Nat → Nat → Int32} {x : Int32} {r : Option Value} (hw : mw D A s.heap ca ad v g H locs) (hx : some (.int x) = r) (hv : v = v') (hg : g = g') (hdg : decode cc pc = .ok (.ireturn, 1)) : W p l e R s m args below meth c H locs cells slots (MQ below (QcM D ca ad A r v' g') args s cells slots A) (F0 m pc ls [.int x]) := by
  subst hv; subst hg; subst hx
  exact W.iret E.1 E.2.1 hr (fun t ht _ => ⟨⟨rfl, by rw [ht]; exact hw.1⟩, hw.2.2.1.F ht⟩) hw.2.2.1.2.2 hdg
theorem m_zret (E : cx p s m c args cc nL own D ca) (hr : meth.sig.returnType = some .boolean) (hlk : meth.locks = false) {v' : Nat → Int32} {g' : Nat → Nat → Int32} {x : Int32} {r : Option Value} (hn : x = 0 ∨ x = 1) (hw : mw D A s.heap ca ad v g H locs) (hx : some (.int x) = r) (hv : v = v') (hg : g = g') (hdg : decode cc pc = .ok (.ireturn, 1)) : W p l e R s m args below meth c H locs cells slots (MQ below (QcM D ca ad A r v' g') args s cells slots A) (F0 m pc ls [.int x]) := by
  subst hv; subst hg; subst hx
  exact W.zret E.1 E.2.1 hr (x_nar hn) (fun t ht _ => ⟨⟨rfl, by rw [ht]; exact hw.1⟩, hw.2.2.1.F ht⟩) hw.2.2.1.2.2 hdg
end XM
/-- a truth as an int -/
def bB (b : Bool) : Int32 := if b = true then 1 else 0
theorem bB_or (b : Bool) : bB b = 0 ∨ bB b = 1 := by cases b <;> simp [bB]
theorem bB_0 {b : Bool} : bB b = 0 ↔ b = false := by cases b <;> simp [bB]
theorem bB_n0 {b : Bool} : ¬ bB b = 0 ↔ b = true := by cases b <;> simp [bB]
theorem bB_1 {b : Bool} : bB b = 1 ↔ b = true := by cases b <;> simp [bB]
section XT
variable {p : Program} {l : Launch} {e : Env} {R : Room} {s : State} {m : MethodId} {args : Array Value} {below : List Frame} {meth : Method} {c : Code} {H : Heap} {locs : List Loc} {cells slots : Nat} {Q : State → Prop} {pc : Nat} {ls : Array Slot} {rest : List Value}
theorem x_top {x y : Int32} (h : x = y) (k : W p l e R s m args below meth c H locs cells slots Q (F0 m pc ls (.int y :: rest))) : W p l e R s m args below meth c H locs cells slots Q (F0 m pc ls (.int x :: rest)) := h ▸ k
theorem x_topL {x y : Int64} (h : x = y) (k : W p l e R s m args below meth c H locs cells slots Q (F0 m pc ls (.long y :: rest))) : W p l e R s m args below meth c H locs cells slots Q (F0 m pc ls (.long x :: rest)) := h ▸ k
end XT
/-- an int within bounds -/
def isIn (a lo hi : Int32) : Bool := !(decide (a < lo)) && !(decide (hi < a))
theorem isIn_nat {a : Int32} {n : Nat} (hn : n < 1000000) (h : isIn a 0 (nI n - 1) = true) : ∃ j, j < n ∧ a = nI j := by
  simp only [isIn, Bool.and_eq_true, Bool.not_eq_true', decide_eq_false_iff_not] at h
  obtain ⟨j, hj, rfl⟩ := nI_of h.1
  refine ⟨j, ?_, rfl⟩
  have h2 := h.2
  cases n with
  | zero => exact absurd (show nI 0 - 1 < nI j by
      rw [Int32.lt_iff_toInt_lt, nI_toInt hj]
      have : (nI 0 - 1).toInt = -1 := by decide
      omega) h2
  | succ n =>
    rw [nI_pred] at h2
    have := mt (nI_ltI (a := n) (b := j) (by omega) hj).mpr h2
    omega
theorem isIn_le {a : Int32} {n : Nat} (hn : n < 1000000) (h : isIn a 0 (nI n) = true) : ∃ j, j ≤ n ∧ a = nI j := by
  simp only [isIn, Bool.and_eq_true, Bool.not_eq_true', decide_eq_false_iff_not] at h
  obtain ⟨j, hj, rfl⟩ := nI_of h.1
  refine ⟨j, ?_, rfl⟩
  have := mt (nI_ltI (a := n) (b := j) (by omega) hj).mpr h.2
  omega
theorem x_key {x : Int32} (k : Int32) {z : Int} (hz : k.toInt = z) (h : x.toInt = z) : x = k := Int32.toInt_inj.mp (h.trans hz.symm)
theorem x_ne {x : Int32} (k : Int32) {z : Int} (hz : k.toInt = z) (h : ¬ x.toInt = z) : ¬ x = k := fun e => h (by rw [e]; exact hz)
theorem x_sw8 (x : Int32) : x = 0 ∨ x = 1 ∨ x = 2 ∨ x = 3 ∨ x = 4 ∨ x = 5 ∨ x = 6 ∨ x = 7 ∨ ((x.toInt < 0 ∨ 7 < x.toInt) ∧ ¬ x = 0 ∧ ¬ x = 1 ∧ ¬ x = 2 ∧ ¬ x = 3 ∧ ¬ x = 4 ∧ ¬ x = 5 ∧ ¬ x = 6 ∧ ¬ x = 7) := by
  by_cases h : x.toInt < 0 ∨ 7 < x.toInt
  · exact Or.inr (Or.inr (Or.inr (Or.inr (Or.inr (Or.inr (Or.inr (Or.inr ⟨h, x_ne 0 (z := 0) rfl (by omega), x_ne 1 (z := 1) rfl (by omega), x_ne 2 (z := 2) rfl (by omega), x_ne 3 (z := 3) rfl (by omega), x_ne 4 (z := 4) rfl (by omega), x_ne 5 (z := 5) rfl (by omega), x_ne 6 (z := 6) rfl (by omega), x_ne 7 (z := 7) rfl (by omega)⟩)))))))
  · have h3 : x.toInt = 0 ∨ x.toInt = 1 ∨ x.toInt = 2 ∨ x.toInt = 3 ∨ x.toInt = 4 ∨ x.toInt = 5 ∨ x.toInt = 6 ∨ x.toInt = 7 := by omega
    rcases h3 with h | h | h | h | h | h | h | h
    · exact Or.inl (x_key 0 rfl h)
    · exact Or.inr (Or.inl (x_key 1 rfl h))
    · exact Or.inr (Or.inr (Or.inl (x_key 2 rfl h)))
    · exact Or.inr (Or.inr (Or.inr (Or.inl (x_key 3 rfl h))))
    · exact Or.inr (Or.inr (Or.inr (Or.inr (Or.inl (x_key 4 rfl h)))))
    · exact Or.inr (Or.inr (Or.inr (Or.inr (Or.inr (Or.inl (x_key 5 rfl h))))))
    · exact Or.inr (Or.inr (Or.inr (Or.inr (Or.inr (Or.inr (Or.inl (x_key 6 rfl h)))))))
    · exact Or.inr (Or.inr (Or.inr (Or.inr (Or.inr (Or.inr (Or.inr (Or.inl (x_key 7 rfl h))))))))
theorem isIn_rng {a : Int32} {lo hi : Nat} (h1 : lo < 2 ^ 31) (h2 : hi < 2 ^ 31) (h : isIn a (nI lo) (nI hi) = true) : ∃ j, lo ≤ j ∧ j ≤ hi ∧ a = nI j := by
  simp only [isIn, Bool.and_eq_true, Bool.not_eq_true', decide_eq_false_iff_not] at h
  have h0 : ¬ a < 0 := fun q => h.1 (by
    rw [Int32.lt_iff_toInt_lt] at q ⊢
    rw [nI_toInt h1]
    have : (0 : Int32).toInt = 0 := by decide
    omega)
  obtain ⟨j, hj, rfl⟩ := nI_of h0
  refine ⟨j, ?_, ?_, rfl⟩
  · have := mt (nI_ltI hj h1).mpr h.1
    omega
  · have := mt (nI_ltI h2 hj).mpr h.2
    omega
theorem x_min {a b : Nat} (ha : a < 2 ^ 31) (hb : b < 2 ^ 31) : (if nI b < nI a then nI b else nI a) = nI (min a b) := by
  by_cases h : b < a
  · rw [if_pos (nI_lt h ha), Nat.min_eq_right (by omega)]
  · rw [if_neg (nI_nlt (by omega) hb), Nat.min_eq_left (by omega)]
theorem bB_inj {a b : Bool} : bB a = bB b ↔ a = b := by cases a <;> cases b <;> simp [bB]
section XS
variable {p : Program} {l : Launch} {e : Env} {R : Room} {s : State} {m : MethodId} {args : Array Value} {below : List Frame} {meth : Method} {c : Code} {H : Heap} {locs : List Loc} {cells slots : Nat} {Q : State → Prop}
variable {cc : ByteArray} {nL : Nat} {own : String} {D : va_G} {ca : Nat → ClassId} {A : Nat → Prop} {H0 : Heap} {ad : Nat → Nat → Nat} {v : Nat → Int32} {g : Nat → Nat → Int32} {pc : Nat} {ls : Array Slot} {rest st0 : List Value}
abbrev MS : Type := Int32 × (Nat → Int32) × (Nat → Nat → Int32)
theorem m_iretS (E : cx p s m c args cc nL own D ca) (hr : meth.sig.returnType = some .int) (hlk : meth.locks = false) {x : Int32} {sp : MS} (hw : mw D A s.heap ca ad v g H locs) (hp : (x, v, g) = sp) (hdg : decode cc pc = .ok (.ireturn, 1)) : W p l e R s m args below meth c H locs cells slots (MQ below (QcM D ca ad A (some (.int sp.1)) sp.2.1 sp.2.2) args s cells slots A) (F0 m pc ls [.int x]) := by
  subst hp
  exact m_iret E hr hlk hw rfl rfl rfl hdg
theorem m_zretS (E : cx p s m c args cc nL own D ca) (hr : meth.sig.returnType = some .boolean) (hlk : meth.locks = false) {x : Int32} {sp : MS} (hn : x = 0 ∨ x = 1) (hw : mw D A s.heap ca ad v g H locs) (hp : (x, v, g) = sp) (hdg : decode cc pc = .ok (.ireturn, 1)) : W p l e R s m args below meth c H locs cells slots (MQ below (QcM D ca ad A (some (.int sp.1)) sp.2.1 sp.2.2) args s cells slots A) (F0 m pc ls [.int x]) := by
  subst hp
  exact m_zret E hr hlk hn hw rfl rfl rfl hdg
theorem m_vretS (E : cx p s m c args cc nL own D ca) (hr : meth.sig.returnType = none) (hlk : meth.locks = false) {sp : (Nat → Int32) × (Nat → Nat → Int32)} (hw : mw D A s.heap ca ad v g H locs) (hp : (v, g) = sp) (hdg : decode cc pc = .ok (.return_, 1)) : W p l e R s m args below meth c H locs cells slots (MQ below (QcM D ca ad A none sp.1 sp.2) args s cells slots A) (F0 m pc ls []) := by
  subst hp
  exact m_vret E hr hlk hw rfl rfl hdg
theorem m_aret (E : cx p s m c args cc nL own D ca) {rt : FieldType} (hr : meth.sig.returnType = some rt) (hrt : (∃ n, rt = .object n) ∨ ∃ t, rt = .array t) (hlk : meth.locks = false) {v' : Nat → Int32} {g' : Nat → Nat → Int32} {a : Nat} (hw : mw D A s.heap ca ad v g H locs) (hv : v = v') (hg : g = g') (hdg : decode cc pc = .ok (.areturn, 1)) : W p l e R s m args below meth c H locs cells slots (MQ below (QcM D ca ad A (some (.ref a)) v' g') args s cells slots A) (F0 m pc ls [.ref a]) := by
  subst hv; subst hg
  exact W.aret E.1 E.2.1 hr hrt (Or.inr ⟨a, rfl⟩) (fun t ht _ => ⟨⟨rfl, by rw [ht]; exact hw.1⟩, hw.2.2.1.F ht⟩) hw.2.2.1.2.2 hdg
end XS
theorem upd_upd (f : Nat → Int32) (k : Nat) (x y : Int32) : upd (upd f k x) k y = upd f k y := by
  funext j
  by_cases h : j = k <;> simp [upd, h]
theorem upd_same {f : Nat → Int32} {k : Nat} {x : Int32} (h : f k = x) : upd f k x = f := by
  funext j
  by_cases hj : j = k
  · subst hj; simp [upd, h]
  · simp [upd, hj]
theorem upd_at (f : Nat → Int32) (k : Nat) (x : Int32) : upd f k x k = x := by simp [upd]
theorem upd_ne (f : Nat → Int32) {k j : Nat} (x : Int32) (h : j ≠ k) : upd f k x j = f j := by simp [upd, h]
/-- the first of n that is so; n, if none -/
def firstB (q : Nat → Bool) : Nat → Nat
  | 0 => 0
  | n + 1 => if firstB q n < n then firstB q n else if q n = true then n else n + 1
theorem firstB_le (q : Nat → Bool) : ∀ n, firstB q n ≤ n
  | 0 => Nat.le_refl _
  | n + 1 => by
    have := firstB_le q n
    unfold firstB
    split
    · omega
    · split <;> omega
theorem firstB_none {q : Nat → Bool} : ∀ {n : Nat}, (∀ i, i < n → q i = false) → firstB q n = n
  | 0, _ => rfl
  | n + 1, h => by
    have ih := firstB_none (q := q) (n := n) (fun i hi => h i (by omega))
    unfold firstB
    rw [ih, if_neg (by omega), h n (by omega)]
    simp
theorem firstB_at {q : Nat → Bool} {k : Nat} (h1 : ∀ i, i < k → q i = false) (h2 : q k = true) : ∀ {n : Nat}, k < n → firstB q n = k
  | 0, h => absurd h (Nat.not_lt_zero _)
  | n + 1, h => by
    unfold firstB
    by_cases hk : k = n
    · subst hk
      rw [firstB_none h1, if_neg (by omega), if_pos h2]
    · have ih := firstB_at h1 h2 (n := n) (by omega)
      rw [ih, if_pos (by omega)]
section XQ
variable {p : Program} {l : Launch} {e : Env} {R : Room} {s : State} {m : MethodId} {args : Array Value} {below : List Frame} {meth : Method} {c : Code} {H : Heap} {locs : List Loc} {cells slots : Nat} {Q : State → Prop} {cc : ByteArray} {pc : Nat} {ls : Array Slot} {rest : List Value}
theorem x_aload_nQ (hexec : p.tables.exec = Jvm.exec) (hb : c.code = cc) {k : Fin 4} {i : Nat} {r : Option Nat} (hdg : decode cc pc = .ok (.aload_n k, 1)) (hi : (k : Nat) = i) (hl : ls[i]? = some (.val (va_rf r)))
    (kk : W p l e R s m args below meth c H locs cells slots Q (F0 m (pc + 1) ls (va_rf r :: rest))) : W p l e R s m args below meth c H locs cells slots Q (F0 m pc ls rest) := by
  cases r with
  | none => exact lv_aload_nN hexec hb hdg hi hl kk
  | some a => exact lv_aload_n hexec hb hdg hi hl kk
theorem x_aloadQ (hexec : p.tables.exec = Jvm.exec) (hb : c.code = cc) {i : Nat} {r : Option Nat} (hdg : decode cc pc = .ok (.aload i, 2)) (hl : ls[i]? = some (.val (va_rf r)))
    (kk : W p l e R s m args below meth c H locs cells slots Q (F0 m (pc + 2) ls (va_rf r :: rest))) : W p l e R s m args below meth c H locs cells slots Q (F0 m pc ls rest) := by
  cases r with
  | none => exact lv_aloadN hexec hb hdg hl kk
  | some a => exact lv_aload hexec hb hdg hl kk
theorem x_astore_nQ (hexec : p.tables.exec = Jvm.exec) (hb : c.code = cc) {k : Fin 4} {i nL : Nat} {r : Option Nat} {lv lv' : List (Nat × Value)} (hdg : decode cc pc = .ok (.astore_n k, 1)) (hi : (k : Nat) = i) (h : lv_has ls nL lv) (hn : i < nL) (hl : (i, va_rf r) :: lv.filter (fun q => !(q.1 == i) && !(q.1 + 1 == i && q.2.category == 2)) = lv')
    (kk : ∀ ls' : Array Slot, lv_has ls' nL lv' → W p l e R s m args below meth c H locs cells slots Q (F0 m (pc + 1) ls' rest)) : W p l e R s m args below meth c H locs cells slots Q (F0 m pc ls (va_rf r :: rest)) := by
  cases r with
  | none => exact lv_astore_nN hexec hb hdg hi h hn hl kk
  | some a => exact lv_astore_n hexec hb hdg hi h hn hl kk
theorem x_astoreQ (hexec : p.tables.exec = Jvm.exec) (hb : c.code = cc) {i nL : Nat} {r : Option Nat} {lv lv' : List (Nat × Value)} (hdg : decode cc pc = .ok (.astore i, 2)) (h : lv_has ls nL lv) (hn : i < nL) (hl : (i, va_rf r) :: lv.filter (fun q => !(q.1 == i) && !(q.1 + 1 == i && q.2.category == 2)) = lv')
    (kk : ∀ ls' : Array Slot, lv_has ls' nL lv' → W p l e R s m args below meth c H locs cells slots Q (F0 m (pc + 2) ls' rest)) : W p l e R s m args below meth c H locs cells slots Q (F0 m pc ls (va_rf r :: rest)) := by
  cases r with
  | none => exact lv_astoreN hexec hb hdg h hn hl kk
  | some a => exact lv_astore hexec hb hdg h hn hl kk
end XQ
theorem x_opt (o : Option Nat) : o = none ∨ ∃ i, o = some i := by cases o <;> simp
theorem x_rfn {C : String} (r : Option Nat) : narrow (.object C) (va_rf r) = va_rf r := by cases r <;> rfl
theorem x_rff {C : String} (r : Option Nat) : fits (.object C) (va_rf r) = true := by cases r <;> rfl
