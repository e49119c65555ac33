/-! throws -/
def Xo (d : DD) (ws : va_W) (A : Nat → Prop) (E : String) : String → State → State → Prop := fun E' st t => E' = E ∧ va_P d.1 clz ws t.heap ∧ va_F A st t
def NoQ : Array Value → State → Outcome → State → Prop := fun _ _ _ _ => False
/-- a method that throws E and leaves its world as it was -/
def Ty (l : Launch) (y : MethodName) (cc : ByteArray) (maxL : Nat) (ret : Option FieldType) (fr lo : Nat) (d : DD) (ws : va_W) (av : List Value) (E : String) : Prop :=
  ∀ sz : Nat, vx_Met l y (.code y cc maxL ret :: tb) (Rm fr lo 1 6) (Cin d ws sz av) NoQ (Xo d ws (va_A ws sz) E) 1 6 (va_A ws sz)
abbrev xN : List String := ["java/lang/RuntimeException", "java/lang/Exception"]
theorem k_decl {y : MethodName} {bytes : ByteArray} {ml : Nat} {rt : Option FieldType} {args : Array Value} {s : State} (hi : (Cond.instanceMethod y).before args s = true) (hc : (Cond.code y bytes ml rt).before args s = true) : (Cond.declares y).before args s = true := by
  obtain ⟨m, meth, h1, h2, h3, -⟩ := Cond.instanceMethod_spec hi
  obtain ⟨meth', c, g1, -, -, -, -, -, -, g2⟩ := Cond.code_spec h1 hc
  cases Option.some.inj (h2.symm.trans g1)
  simp only [Cond.before, Cond.holds, Cond.value, h1, h2, Option.bind_some, Option.map_some, h3, g2, decide_true, Bool.not_false, Bool.and_self, beq_self_eq_true]
theorem xd_1 : Cond.instanceMethod (Bundle.initS "java/lang/RuntimeException") ∈ tb ∧ Cond.instanceMethod (Bundle.initS "java/lang/Exception") ∈ tb ∧ Cond.instanceMethod (Bundle.initS Bundle.tN) ∈ tb := by decide +kernel
theorem xd_2 : Cond.code (Bundle.initS "java/lang/RuntimeException") Bundle.six 2 none ∈ tb ∧ Cond.code (Bundle.initS "java/lang/Exception") Bundle.six 2 none ∈ tb ∧ Cond.code (Bundle.initS Bundle.tN) LibCode.Throwable.InitS.code 2 none ∈ tb := by decide +kernel
abbrev xB (E : String) : List Cond := [Cond.castable E E, Cond.declares (Bundle.initS "java/lang/RuntimeException"), Cond.declares (Bundle.initS "java/lang/Exception"), Cond.declares (Bundle.initS Bundle.tN)]
/-- the law's helper: it has a table of handlers -/
def Ch (d : DD) (ws : va_W) (sz : Nat) (av : List Value) : Array Value → State → Prop := fun v U => Cin d ws sz av v U ∧ va_Nc xS xA U
def Lh {S : Type} (l : Launch) (y : MethodName) (cc : ByteArray) (maxL : Nat) (ret : Option FieldType) (hh : List (Nat × Nat × Nat × Nat)) (fr lo mc ms : Nat) (d : DD) (ws : va_W) (av : List Value) (val : S → Option Value) (post : S → Prop) (wo : S → va_W) : Prop :=
  ∀ sz : Nat, Met l y (.codeWith y cc maxL ret hh :: tb) (Rm fr lo mc ms) (Ch d ws sz av) (Cout d (va_A ws sz) val post wo) mc ms (va_A ws sz)
def Mh (y : MethodName) (cc : ByteArray) (maxL : Nat) (ret : Option FieldType) (hh : List (Nat × Nat × Nat × Nat)) (n : Nat) : Prop := Cond.codeWith y cc maxL ret hh ∈ tb ∧ Cond.initialized y.cls ∈ tb ∧ Cond.static y ∈ tb ∧ (y.cls ≠ "java/lang/invoke/MethodHandle" ∧ y.cls ≠ "java/lang/invoke/VarHandle" ∧ (parseMethodDescriptor y.desc).map (fun d => d.parameters.length) = some n)
theorem Ch.blind {d : DD} {ws : va_W} {sz : Nat} {av : List Value} : FrameBlind (Ch d ws sz av) := by
  intro a U g mk q
  exact ⟨Cin.blind a U g mk q.1, va_Nc.moved (Vm.Alike.refl U.vm) q.2⟩
section KX
variable {p : Program} {l : Launch} {e : Env} {R : Room} {s : State} {m : MethodId} {args : Array Value} {below : List Frame} {meth : Method} {c : Code} {H : Heap} {locs : List Loc} {cells slots : Nat} {Q : State → Prop}
variable {own nm : String} {cc : ByteArray} {nL : Nat} {ret : Option FieldType} {d : DD} {A : Nat → Prop} {pc : Nat} {ls : Array Slot} {rest : List Value} {ws : va_W}
theorem Ty.of {y : MethodName} {fr lo : Nat} {av : List Value} {E : String} (hy : plainName y.cls = true) (hav : (lg_sl av).length ≤ nL)
    (body : ∀ (p : Program) (e : Env) (s : State) (m : MethodId) (below : List Frame) (meth : Method) (c : Code) (A : Nat → Prop) (ls : Array Slot), KC p s m av.toArray meth c y.cls y.name cc nL ret d A → (∀ x ∈ c.exceptionTable.toList, False) → va_P d.1 clz ws s.heap → va_D A ws → va_S A s.heap s.heap [] → lv_has ls nL (lv_args 0 av) →
      W p l e (Rm fr lo 1 6) s m av.toArray below meth c s.heap [] 0 0 (vx_MQ below NoQ (Xo d ws A E) av.toArray s 1 6 A) (F0 m 0 ls [])) : Ty l y cc nL ret fr lo d ws av E := by
  intro sz
  refine vx_ofW (cc := cc) (maxL := nL) (ret := ret) hy rfl ?_
  intro p e s m args below meth c s₁ B hml ht hv
  obtain ⟨rfl, hsz, hP, hD0, hE⟩ := hv
  subst hsz
  have hts := atoms_spec (ws := .code y cc nL ret :: tb) B.pre
  have hD := hD0.self (sz := s.heap.size)
  have hl := lv_entry av (n := nL) hav
  rw [lg_entry_eq]
  exact body p e s m below meth c _ _ ⟨B.exec, B.bytes, hml, B.returns, findClass_of_methodNamed B.named, fun w hw => hts w (List.mem_cons_of_mem _ hw), B.notSynchronized, hE, fun q h => Or.inr h, (name_of_methodNamed B.named B.method).1⟩ ht hP hD va_S.rf hl
theorem Lh.of {S : Type} {y : MethodName} {hh : List (Nat × Nat × Nat × Nat)} {fr lo mc ms : Nat} {av : List Value} {val : S → Option Value} {post : S → Prop} {wo : S → va_W} (hy : plainName y.cls = true) (hav : (lg_sl av).length ≤ nL)
    (body : ∀ (p : Program) (e : Env) (s : State) (m : MethodId) (below : List Frame) (meth : Method) (c : Code) (A : Nat → Prop) (ls : Array Slot), KC p s m av.toArray meth c y.cls y.name cc nL ret d A → c.exceptionTable.toList = tableOf hh → va_Nc xS xA s → va_P d.1 clz ws s.heap → va_D A ws → va_S A s.heap s.heap [] → lv_has ls nL (lv_args 0 av) →
      W p l e (Rm fr lo mc ms) s m av.toArray below meth c s.heap [] 0 0 (MQ below (Cout d A val post wo) av.toArray s mc ms A) (F0 m 0 ls [])) : Lh l y cc nL ret hh fr lo mc ms d ws av val post wo := by
  intro sz
  refine va_MetW (cc := cc) (maxL := nL) (ret := ret) (hh := hh) hy rfl ?_
  intro p e s m args below meth c s₁ B hml hv
  obtain ⟨⟨rfl, hsz, hP, hD0, hE⟩, hN⟩ := hv
  subst hsz
  have hts := atoms_spec (ws := .codeWith y cc nL ret hh :: tb) B.pre
  have hD := hD0.self (sz := s.heap.size)
  have hl := lv_entry av (n := nL) hav
  have htb := vx_table (x := y) B (hts _ List.mem_cons_self)
  rw [lg_entry_eq]
  exact body p e s m below meth c _ _ ⟨B.exec, B.bytes, hml, B.returns, findClass_of_methodNamed B.named, fun w hw => hts w (List.mem_cons_of_mem _ hw), B.notSynchronized, hE, fun q h => Or.inr h, (name_of_methodNamed B.named B.method).1⟩ htb hN hP hD va_S.rf hl
theorem k_thr {E text : String} {ik is ic : Nat} {wsx : va_W} {Qc : Array Value → State → Outcome → State → Prop} (C : KC p s m args meth c own nm cc nL ret d A) (ht : ∀ x ∈ c.exceptionTable.toList, False) (hst : l.stackTraces = false) (hP : va_P d.1 clz wsx H) (hS : va_S A s.heap H locs)
    (hE : Bundle.fit E = true) (hk : Cond.classLink own ik E ∈ tb) (hi : Cond.initialized E ∈ tb) (hstr : k_str own is text s) (hcast : va_Nw (.castable E E) s) (hat : ∀ w ∈ (vx_atS own ic E xN).filter goodWord, w ∈ tb) (hat2 : ∀ w ∈ (vx_atS own ic E xN).filter (fun w => !goodWord w), w ∈ xB E)
    (hgood : ∀ w ∈ Cond.classLink own ik E :: Cond.initialized E :: vx_atS own ic E xN, vx_ot w = true) (hsz : ls.size = nL)
    (d0 : decode cc pc = .ok (.new ik, 3)) (d3 : decode cc (pc + 3) = .ok (.dup, 1)) (d4 : decode cc (pc + 4) = .ok (.ldc is, 2)) (d6 : decode cc (pc + 6) = .ok (.invokespecial ic, 3)) (d9 : decode cc (pc + 9) = .ok (.athrow, 1))
    (hR1 : 5 < R.frames) (hR2 : (rest.map fun v => v.category).sum + 82 ≤ R.locals) (hR3 : cells + 1 ≤ R.cells) (hR4 : slots + 6 ≤ R.slots) (hc : cells + 1 ≤ 1) (hs : slots + 6 ≤ 6) :
    W p l e R s m args below meth c H locs cells slots (vx_MQ below Qc (Xo d wsx A E) args s 1 6 A) (F0 m pc ls rest) := by
  obtain ⟨sa, hstr⟩ := hstr
  refine vx_throwS (names := xN) C.x C.b hst C.o hE (by decide +kernel) (C.t _ hk) (C.t _ hi) hstr (vx_hat (fun w hw => C.t _ (hat w hw)) hat2 (vx_c (va_Nw.use rfl hcast) (vx_c (k_decl (C.t _ xd_1.1) (C.t _ xd_2.1)) (vx_c (k_decl (C.t _ xd_1.2.1) (C.t _ xd_2.2.1)) (vx_c (k_decl (C.t _ xd_1.2.2) (C.t _ xd_2.2.2)) vx_n))))) hgood C.en.2.2.2.2.2.2.1.1 C.en.2.2.2.2.2.2.1.2 hS (by rw [C.ml]; exact hsz) d0 d3 d4 d6 d9 (fun x hx => (ht x hx).elim) hR1 hR2 hR3 hR4 C.k ?_ hS.2.2 hc hs
  intro t _ h1 h2
  refine ⟨rfl, hP.kept (fun k q hk => h2 _ (hP k q hk).lt), Nat.le_trans hS.1 h1, fun q q1 q2 => ?_⟩
  rw [h2 q (Nat.lt_of_lt_of_le q1 hS.1)]
  exact hS.2.1 q q1 q2
theorem kx_join {wc wr : va_W} {E : String} {a : Array Value} {st0 : List Value} (C : KC p s m args meth c own nm cc nL ret d A)
    (hr : vx_Run p l e R s m args below meth c H locs cells slots 1 6 (F0 m pc ls st0) rest (NoQ a) (Xo d wc (va_A wc H.size) E) (va_A wc H.size))
    (hP : va_P d.1 clz ws H) (hD : va_D A ws) (hS : va_S A s.heap H locs) (isC isR : List Nat) (hC : isC.map (fun i => ws[i]?) = wc.map some) (hR : isR.map (fun i => ws[i]?) = wr.map some) (hCn : va_nd isC = true) (hn : va_nd isR = true) (hdis : ∀ i ∈ isR, i ∉ isC)
    (kk : ∀ (q : Addr) (ce : Cell) (H1 : Heap) (locs1 : List Loc), va_P d.1 clz (wr ++ wc) H1 → va_D A (wr ++ wc) → va_S A s.heap H1 locs1 → H1[q]? = some ce → ce.vm = .none → s.vm.findClass E = some ce.cls → vx_W p l e R s m args below meth c H1 locs1 (cells + 1) (slots + 6) Q (F0 m pc ls rest) q) :
    W p l e R s m args below meth c H locs cells slots Q (F0 m pc ls st0) := by
  have hF := va_free (wc := wc) hD hS C.a isC hC
  have hDc : va_D A wc := hD.sub isC hCn hC
  intro T hT X
  rcases hr T hT X with ⟨v, st₀, t, T', L, h0, X', hL, e1, e2, hq, st⟩ | ⟨q, st₀, t, T', L, E', ce, h0, X', hL, e1, e2, ⟨hE, hP1, hz, hk⟩, hce, hcv, hcl, st⟩
  · exact hq.elim
  · subst hE
    rw [h0] at hz hk
    rw [← e1] at hz hk hP1 hce
    obtain ⟨hP2, hD2⟩ := va_join hP hD isC isR hC hR hn hdis hk hF hP1 ((hDc.weaken (fun _ _ _ _ => trivial) : va_D (fun _ => True) wc).self (sz := H.size))
    obtain ⟨t2, a1, b1⟩ := kk q ce T'.heap (locs ++ L) hP2 hD2
      ⟨Nat.le_trans hS.1 hz, fun q h1 h2 => by rw [hk q (Nat.lt_of_lt_of_le h1 hS.1) (fun z => h2 (hF q z))]; exact hS.2.1 q h1 h2, fun q hq => by
        rcases List.mem_append.mp hq with h | h
        · exact hS.2.2 q h
        · exact hF _ (hL q h)⟩ hce hcv hcl T' rfl X'
    exact ⟨t2, st.trans a1, b1⟩
theorem k_callXV {y : MethodName} {bytes : ByteArray} {maxL : Nat} {rt : Option FieldType} {fr lo n index b ci : Nat} {fs : List Value} {qc : vw_C} {E : String} {wc wr : va_W} {As : List Value} (C : KC p s m args meth c own nm cc nL ret d A)
    (hM : Ty l y bytes maxL rt fr lo d wc (.ref b :: As) E) (hw : Mw y bytes maxL rt n) (hse : Cond.selects y.cls y y ∈ tb) (hlk : Cond.methodLink own index y ∈ tb) (hP : va_P d.1 clz ws H) (hD : va_D A ws) (hS : va_S A s.heap H locs)
    (isC isR : List Nat) (hC : isC.map (fun i => ws[i]?) = wc.map some) (hR : isR.map (fun i => ws[i]?) = wr.map some) (hCn : va_nd isC = true) (hn : va_nd isR = true) (hdis : ∀ i ∈ isR, i ∉ isC) (q0 : Nat) (he : ws[q0]? = some (b, .inr (ci, fs))) (hq : clz[ci]? = some qc) (hcl : qc.1 = y.cls) (hnn : As.length = n) (hsz : ls.size = nL)
    (hW : (rest.map fun v => v.category).sum ≤ 8) (hdg : decode cc pc = .ok (.invokevirtual index, 3)) (hR1 : fr + 1 ≤ R.frames ∧ 8 + (maxL + 11) + lo ≤ R.locals) (hR2 : cells + 1 ≤ R.cells ∧ slots + 6 ≤ R.slots)
    (kk : ∀ (q : Addr) (ce : Cell) (H1 : Heap) (locs1 : List Loc), va_P d.1 clz (wr ++ wc) H1 → va_D A (wr ++ wc) → va_S A s.heap H1 locs1 → H1[q]? = some ce → ce.vm = .none → s.vm.findClass E = some ce.cls → vx_W p l e R s m args below meth c H1 locs1 (cells + 1) (slots + 6) Q (F0 m pc ls rest) q) :
    W p l e R s m args below meth c H locs cells slots Q (F0 m pc ls (As.reverse ++ .ref b :: rest)) := by
  obtain ⟨hcd, hini, hin, hy⟩ := hw
  have hp := k_pre (As := .ref b :: As) C hP hD hS isC hC hCn
  refine kx_join (a := (Value.ref b :: As).toArray) C (vx_runV ⟨C.x, C.b, C.ml, C.o, C.t⟩ (hM H.size) ⟨callB_of n C.t (k_good hcd) rfl rfl rfl (C.t _ hini) (C.t _ hlk) hy hR1, C.t _ hin, C.t _ hse⟩ ⟨hp.1, ?_, hp.2⟩ rfl hnn hsz rfl (lv_room hW) hdg hR2) hP hD hS isC isR hC hR hCn hn hdis kk
  have hrv := va_recv (cl := clz) C.en.1 hP hq he
  rw [hcl] at hrv
  exact hrv
theorem k_callXS {y : MethodName} {bytes : ByteArray} {maxL : Nat} {rt : Option FieldType} {fr lo n index : Nat} {E : String} {wc wr : va_W} {As : List Value} (C : KC p s m args meth c own nm cc nL ret d A)
    (hM : Ty l y bytes maxL rt fr lo d wc As E) (hw : Msw y bytes maxL rt n) (hlk : Cond.methodLink own index y ∈ tb) (hP : va_P d.1 clz ws H) (hD : va_D A ws) (hS : va_S A s.heap H locs)
    (isC isR : List Nat) (hC : isC.map (fun i => ws[i]?) = wc.map some) (hR : isR.map (fun i => ws[i]?) = wr.map some) (hCn : va_nd isC = true) (hn : va_nd isR = true) (hdis : ∀ i ∈ isR, i ∉ isC) (hnn : As.length = n) (hsz : ls.size = nL)
    (hW : (rest.map fun v => v.category).sum ≤ 8) (hdg : decode cc pc = .ok (.invokestatic index, 3)) (hR1 : fr + 1 ≤ R.frames ∧ 8 + (maxL + 11) + lo ≤ R.locals) (hR2 : cells + 1 ≤ R.cells ∧ slots + 6 ≤ R.slots)
    (kk : ∀ (q : Addr) (ce : Cell) (H1 : Heap) (locs1 : List Loc), va_P d.1 clz (wr ++ wc) H1 → va_D A (wr ++ wc) → va_S A s.heap H1 locs1 → H1[q]? = some ce → ce.vm = .none → s.vm.findClass E = some ce.cls → vx_W p l e R s m args below meth c H1 locs1 (cells + 1) (slots + 6) Q (F0 m pc ls rest) q) :
    W p l e R s m args below meth c H locs cells slots Q (F0 m pc ls (As.reverse ++ rest)) := by
  obtain ⟨hcd, hini, hst, hy⟩ := hw
  have hp := k_pre (As := As) C hP hD hS isC hC hCn
  exact kx_join (a := As.toArray) C (vx_runS ⟨C.x, C.b, C.ml, C.o, C.t⟩ (hM H.size) ⟨callB_of n C.t (k_good hcd) rfl rfl rfl (C.t _ hini) (C.t _ hlk) hy hR1, C.t _ hst⟩ hp rfl hnn hsz rfl (lv_room hW) hdg hR2) hP hD hS isC isR hC hR hCn hn hdis kk
theorem k_outX {wsx : va_W} {E : String} {Qc : Array Value → State → Outcome → State → Prop} {q : Addr} {ce : Cell} (C : KC p s m args meth c own nm cc nL ret d A) (ht : ∀ x ∈ c.exceptionTable.toList, False) (hP : va_P d.1 clz wsx H) (hS : va_S A s.heap H locs) (hce : H[q]? = some ce) (hcv : ce.vm = .none) (hcl : s.vm.findClass E = some ce.cls) (hc : cells ≤ 1) (hs : slots ≤ 6) :
    vx_W p l e R s m args below meth c H locs cells slots (vx_MQ below Qc (Xo d wsx A E) args s 1 6 A) (F0 m pc ls rest) q :=
  vx_out (E := E) (fun x hx => (ht x hx).elim) C.k hce hcv hcl (fun t h1 _ => ⟨rfl, by rw [h1]; exact hP, hS.F h1⟩) hS.2.2 hc hs
theorem k_callH {S : Type} {y : MethodName} {bytes : ByteArray} {maxL : Nat} {rt : Option FieldType} {hh : List (Nat × Nat × Nat × Nat)} {fr lo mc ms n index : Nat} {val : S → Option Value} {post : S → Prop} {wo : S → va_W} {wc wr : va_W} {As : List Value} (C : KC p s m args meth c own nm cc nL ret d A) (hN : va_Nc xS xA s)
    (hM : Lh l y bytes maxL rt hh fr lo mc ms d wc As val post wo) (hw : Mh y bytes maxL rt hh n) (hlk : Cond.methodLink own index y ∈ tb) (hP : va_P d.1 clz ws H) (hD : va_D A ws) (hS : va_S A s.heap H locs)
    (isC isR : List Nat) (hC : isC.map (fun i => ws[i]?) = wc.map some) (hR : isR.map (fun i => ws[i]?) = wr.map some) (hCn : va_nd isC = true) (hn : va_nd isR = true) (hdis : ∀ i ∈ isR, i ∉ isC) (hnn : As.length = n) (hsz : ls.size = nL)
    (hW : (rest.map fun v => v.category).sum ≤ 8) (hdg : decode cc pc = .ok (.invokestatic index, 3)) (hR1 : fr + 1 ≤ R.frames ∧ 8 + (maxL + 11) + lo ≤ R.locals) (hR2 : cells + mc ≤ R.cells ∧ slots + ms ≤ R.slots)
    (kk : ∀ (u : S) (H1 : Heap) (locs1 : List Loc), post u → va_P d.1 clz (wr ++ wo u) H1 → va_D A (wr ++ wo u) → va_S A s.heap H1 locs1 → W p l e R s m args below meth c H1 locs1 (cells + mc) (slots + ms) Q (F0 m (pc + 3) ls ((val u).toList ++ rest))) :
    W p l e R s m args below meth c H locs cells slots Q (F0 m pc ls (As.reverse ++ rest)) := by
  obtain ⟨hcd, hini, hst, hy⟩ := hw
  have hp := k_pre (As := As) C hP hD hS isC hC hCn
  refine k_join (a := As.toArray) C (vx_runSW (hh := hh) (bytes := bytes) (maxL := maxL) (ret := rt) (n := n) ⟨C.x, C.b, C.ml, C.o, C.t⟩ (hM H.size) ⟨⟨rfl, rfl, hR1.1, hR1.2, pay_in C.t (k_goodc hcd), List.mem_cons_self⟩, C.t _ hcd, C.t _ hini, ⟨hy.1, hy.2.1⟩, ?_, C.t _ hlk, C.t _ hst⟩ ⟨Ch.blind, fun U hU hW => ⟨hp.2 U hU hW, va_Nc.moved hW.alike hN⟩⟩ rfl hnn hsz rfl (lv_room hW) hdg hR2) hP hD hS isC isR hC hR hn hdis kk
  intro sig h
  have h2 := hy.2.2
  rw [h] at h2
  exact (Option.some.inj h2).symm
theorem k_jald (C : KC p s m args meth c own nm cc nL ret d A) (hP : va_P d.1 clz ws H) (q0 : Nat) {a n : Nat} {f : Nat → Int64} (ha : ws[q0]? = some (a, aJ d n f)) {j : Nat} (hj : j < n) (hn : n < 2 ^ 31) (hdg : decode cc pc = .ok (.laload, 1))
    (kk : W p l e R s m args below meth c H locs cells slots Q (F0 m (pc + 1) ls (.long (f j) :: rest))) : W p l e R s m args below meth c H locs cells slots Q (F0 m pc ls (.int (nI j) :: .ref a :: rest)) := by
  refine va_lald (D := d.1) (cl := clz) (tys := tysD d) C.x C.b C.en.1 hP q0 2 ha rfl (vp_in_nI hj hn) hdg ?_
  rw [nI_clamp (by omega)]
  exact kk
theorem k_jast (C : KC p s m args meth c own nm cc nL ret d A) (hP : va_P d.1 clz ws H) (hD : va_D A ws) (hS : va_S A s.heap H locs) (q0 : Nat) {a n : Nat} {f : Nat → Int64} (ha : ws[q0]? = some (a, aJ d n f)) {j : Nat} {x : Int64} (hj : j < n) (hn : n < 2 ^ 31) (hdg : decode cc pc = .ok (.lastore, 1))
    (kk : ∀ (H1 : Heap) (locs1 : List Loc), va_P d.1 clz (ws.set q0 (a, aJ d n (vp_updL f j x))) H1 → va_D A (ws.set q0 (a, aJ d n (vp_updL f j x))) → va_S A s.heap H1 locs1 → W p l e R s m args below meth c H1 locs1 cells slots Q (F0 m (pc + 1) ls rest)) : W p l e R s m args below meth c H locs cells slots Q (F0 m pc ls (.long x :: .int (nI j) :: .ref a :: rest)) := by
  refine va_last (D := d.1) (cl := clz) (tys := tysD d) C.x C.b C.en.1 hP hD hS q0 2 ha rfl (vp_in_nI hj hn) hdg ?_
  rw [nI_clamp (by omega)]
  exact kk
theorem k_newJ {n : Nat} (C : KC p s m args meth c own nm cc nL ret d A) (hP : va_P d.1 clz ws H) (hD : va_D A ws) (hS : va_S A s.heap H locs) (hn : n < 100000) (hcells : cells + 1 ≤ R.cells) (hslots : slots + n ≤ R.slots) (hdg : decode cc pc = .ok (.newarray .long, 2))
    (kk : ∀ (q : Nat) (H1 : Heap), va_P d.1 clz (ws ++ [(q, aJ d n (fun _ => 0))]) H1 → va_D A (ws ++ [(q, aJ d n (fun _ => 0))]) → va_S A s.heap H1 locs → W p l e R s m args below meth c H1 locs (cells + 1) (slots + n) Q (F0 m (pc + 2) ls (.ref q :: rest))) : W p l e R s m args below meth c H locs cells slots Q (F0 m pc ls (.int (nI n) :: rest)) := by
  refine va_newaK (atype := .long) C.x C.b (C.t _ m_860) (g := F0 m pc ls (.int (nI n) :: rest)) rfl hdg (n := nI n) (N := n) (rest := rest) rfl (nI_pos (by omega)) (nI_clamp (by omega)) (by show n * 8 ≤ _; omega) hcells hslots (h := H.size) rfl ?_
  intro H' cA h1 h2 h3 h4 h5
  have e1 : cA = d.2.2.2 := Option.some.inj (h5.symm.trans C.en.2.1.2.2)
  subst e1
  have hP1 : va_P d.1 clz ws H' := hP.kept fun k q hk => h3 _ (hP k q hk).lt
  refine kk H.size H' (hP1.app ?_) (hD.push hP rfl (C.a _ hS.1)) ⟨by rw [h2]; exact Nat.le_succ_of_le hS.1, fun q q1 q2 => by rw [h3 q (Nat.lt_of_lt_of_le q1 hS.1)]; exact hS.2.1 q q1 q2, hS.2.2⟩
  intro k q hk
  cases k with
  | zero => cases hk; exact h1
  | succ k => simp at hk
theorem k_lcmp (C : KC p s m args meth c own nm cc nL ret d A) {x : Int64} (hdg : decode cc pc = .ok (.lcmp, 1))
    (k : W p l e R s m args below meth c H locs cells slots Q (F0 m (pc + 1) ls (.int (nI 0) :: rest))) : W p l e R s m args below meth c H locs cells slots Q (F0 m pc ls (.long x :: .long x :: rest)) := by
  have hexec := C.x
  have hb := C.b
  intro T hT X
  obtain ⟨t, a, b⟩ := k T hT X
  refine ⟨t, ?_, b⟩
  have hx : ¬ x < x := Int64.lt_irrefl
  jvm_step X.here [X.here.top, hexec, hb, hdg, hx]
  first | exact a | simpa using a
end KX
