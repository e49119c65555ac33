/-! the worlds of this claim: what every contract carries beside its own cells -/
abbrev DD : Type := va_G × ClassId × ClassId × ClassId
abbrev tysD (d : DD) : List (ClassId × FieldType) := [(d.2.1, .int), (d.2.2.1, .byte), (d.2.2.2, .long)]
abbrev aI (d : DD) (n : Nat) (f : Nat → Int32) : va_E := .inl (d.2.1, n, .inl f)
abbrev aB (d : DD) (n : Nat) (f : Nat → Int32) : va_E := .inl (d.2.2.1, n, .inl f)
abbrev aJ (d : DD) (n : Nat) (f : Nat → Int64) : va_E := .inl (d.2.2.2, n, .inr (.inl f))
abbrev ob (ci : Nat) (fs : List Value) : va_E := .inr (ci, fs)
def tS : List Int32 := [99, 124, 119, 123, 242, 107, 111, 197, 48, 1, 103, 43, 254, 215, 171, 118, 202, 130, 201, 125, 250, 89, 71, 240, 173, 212, 162, 175, 156, 164, 114, 192, 183, 253, 147, 38, 54, 63, 247, 204, 52, 165, 229, 241, 113, 216, 49, 21, 4, 199, 35, 195, 24, 150, 5, 154, 7, 18, 128, 226, 235, 39, 178, 117, 9, 131, 44, 26, 27, 110, 90, 160, 82, 59, 214, 179, 41, 227, 47, 132, 83, 209, 0, 237, 32, 252, 177, 91, 106, 203, 190, 57, 74, 76, 88, 207, 208, 239, 170, 251, 67, 77, 51, 133, 69, 249, 2, 127, 80, 60, 159, 168, 81, 163, 64, 143, 146, 157, 56, 245, 188, 182, 218, 33, 16, 255, 243, 210, 205, 12, 19, 236, 95, 151, 68, 23, 196, 167, 126, 61, 100, 93, 25, 115, 96, 129, 79, 220, 34, 42, 144, 136, 70, 238, 184, 20, 222, 94, 11, 219, 224, 50, 58, 10, 73, 6, 36, 92, 194, 211, 172, 98, 145, 149, 228, 121, 231, 200, 55, 109, 141, 213, 78, 169, 108, 86, 244, 234, 101, 122, 174, 8, 186, 120, 37, 46, 28, 166, 180, 198, 232, 221, 116, 31, 75, 189, 139, 138, 112, 62, 181, 102, 72, 3, 246, 14, 97, 53, 87, 185, 134, 193, 29, 158, 225, 248, 152, 17, 105, 217, 142, 148, 155, 30, 135, 233, 206, 85, 40, 223, 140, 161, 137, 13, 191, 230, 66, 104, 65, 153, 45, 15, 176, 84, 187, 22]
def tDS : List Int32 := [1779033703, (-1150833019), 1013904242, (-1521486534), 1359893119, (-1694144372), 528734635, 1541459225]
def tDR : List Int32 := [1116352408, 1899447441, (-1245643825), (-373957723), 961987163, 1508970993, (-1841331548), (-1424204075), (-670586216), 310598401, 607225278, 1426881987, 1925078388, (-2132889090), (-1680079193), (-1046744716), (-459576895), (-272742522), 264347078, 604807628, 770255983, 1249150122, 1555081692, 1996064986, (-1740746414), (-1473132947), (-1341970488), (-1084653625), (-958395405), (-710438585), 113926993, 338241895, 666307205, 773529912, 1294757372, 1396182291, 1695183700, 1986661051, (-2117940946), (-1838011259), (-1564481375), (-1474664885), (-1035236496), (-949202525), (-778901479), (-694614492), (-200395387), 275423344, 430227734, 506948616, 659060556, 883997877, 958139571, 1322822218, 1537002063, 1747873779, 1955562222, 2024104815, (-2067236844), (-1933114872), (-1866530822), (-1538233109), (-1090935817), (-965641998)]
def sbx (j : Nat) : Int32 := tS.getD j 0
def dgs (j : Nat) : Int32 := tDS.getD j 0
def dgr (j : Nat) : Int32 := tDR.getD j 0
/-- a static table of the program -/
def k_tab (n : String) (N : Nat) (f : Nat → Int32) (A : Nat → Prop) (U : State) (H : Heap) : Prop := ∃ t : Nat, va_Z R_PG n "[I" (.ref t) A U H ∧ va_T .int t N (fun j => .int (f j)) A U H
def k_str (own : String) (k : Nat) (tx : String) (U : State) : Prop := ∃ a : Nat, vk_R own k tx a U
def kn_M (U : State) : Prop := va_Nw (.methodLinkNest R_PG 9 y_KY_init R_PG) U ∧ va_Nw (.methodLinkNest R_PG 18 y_SD_init R_PG) U ∧ va_Nw (.methodLinkNest R_SD 9 y_KY_init R_PG) U ∧ va_Nw (.methodLinkNest R_PG 52 y_CC_init R_PG) U ∧ va_Nw (.methodLinkNest R_PG 59 y_SL_init R_PG) U ∧ va_Nw (.methodLinkNest R_SL 20 y_DG_init R_PG) U
def kn_F (U : State) : Prop := va_Nw (.fieldLinkNest R_CC 67 R_PG "S" "[I" R_PG) U ∧ va_Nw (.fieldLinkNest R_DG 35 R_PG "DIGEST_START" "[I" R_PG) U ∧ va_Nw (.fieldLinkNest R_DG 57 R_PG "DIGEST_ROUND" "[I" R_PG) U
abbrev xI : String := "java/lang/IndexOutOfBoundsException"
abbrev xA : String := "java/lang/IllegalArgumentException"
abbrev xS : String := "java/lang/IllegalStateException"
def kn_C (U : State) : Prop := va_Nw (.castable xI xI) U ∧ va_Nw (.castable xA xA) U ∧ va_Nw (.castable xS xS) U
def kn_T (U : State) : Prop := k_str R_KY 19 "no such word of the keys" U ∧ k_str R_BQ 45 "no such byte" U ∧ k_str R_PG 159 "no such side" U ∧ k_str R_PG 90 "a word gives one to four bytes" U ∧ k_str R_PG 101 "the payload would be too long" U ∧ k_str R_PG 165 "too much would be on the way" U ∧ k_str R_PG 121 "fewer than no bytes" U ∧ k_str R_PG 129 "the receiver would have too much" U
def kn_A (d : DD) (U : State) : Prop := U.vm.findClass "[I" = some d.2.1 ∧ U.vm.findClass "[B" = some d.2.2.1 ∧ U.vm.findClass "[J" = some d.2.2.2
def kn_Z (A : Nat → Prop) (U : State) (H : Heap) : Prop := vx_Zq Bundle.tN "UNASSIGNED_STACK" Bundle.steD A U H ∧ vx_Zq Bundle.tN "SUPPRESSED_SENTINEL" Bundle.listD A U H
def kn_S (A : Nat → Prop) (U : State) (H : Heap) : Prop := k_tab "S" 256 sbx A U H ∧ k_tab "DIGEST_START" 8 dgs A U H ∧ k_tab "DIGEST_ROUND" 64 dgr A U H
def En (d : DD) (A : Nat → Prop) (U : State) (H : Heap) : Prop := va_K d.1 clz (tysD d) U ∧ kn_A d U ∧ kn_M U ∧ kn_F U ∧ kn_C U ∧ kn_T U ∧ kn_Z A U H ∧ kn_S A U H
theorem k_str.warm {own : String} {k : Nat} {tx : String} {s U : State} (hW : s.WarmedH U.vm) (h : k_str own k tx s) : k_str own k tx U := by
  obtain ⟨a, h⟩ := h
  exact ⟨a, vk_R.warm hW h⟩
theorem k_cast_moved {E F : String} {s U : State} (hvm : s.vm.Alike U.vm) (h : va_Nw (.castable E F) s) : va_Nw (.castable E F) U := by
  unfold va_Nw at h ⊢
  simpa only [Cond.before, Cond.holds, Cond.value, hvm.findClass, hvm.assignable] using h
theorem k_tab.move {n : String} {N : Nat} {f : Nat → Int32} {A B : Nat → Prop} {s U : State} {H : Heap} (h : k_tab n N f A s s.heap) (hvm : s.vm.Alike U.vm) (hk : ∀ a : Nat, a < s.heap.size → ¬ A a → H[a]? = s.heap[a]?) (hn : ∀ q, B q → A q) : k_tab n N f B U H := by
  obtain ⟨t, h1, h2⟩ := h
  exact ⟨t, ((h1.moved hvm).kept hk).narrow hn, ((h2.moved hvm).kept hk).narrow hn⟩
theorem En.move {d : DD} {A B : Nat → Prop} {s U : State} {H : Heap} (h : En d A s s.heap) (hW : s.WarmedH U.vm) (hk : ∀ a : Nat, a < s.heap.size → ¬ A a → H[a]? = s.heap[a]?) (hn : ∀ q, B q → A q) : En d B U H := by
  obtain ⟨h1, ⟨a1, a2, a3⟩, ⟨m1, m2, m3, m4, m5, m6⟩, ⟨f1, f2, f3⟩, ⟨c1, c2, c3⟩, ⟨t1, t2, t3, t4, t5, t6, t7, t8⟩, ⟨z1, z2⟩, ⟨s1, s2, s3⟩⟩ := h
  have hv := hW.alike
  refine ⟨va_K.moved hv h1, ⟨by rw [hv.findClass]; exact a1, by rw [hv.findClass]; exact a2, by rw [hv.findClass]; exact a3⟩, ⟨va_Nw.warmM hW m1, va_Nw.warmM hW m2, va_Nw.warmM hW m3, va_Nw.warmM hW m4, va_Nw.warmM hW m5, va_Nw.warmM hW m6⟩, ⟨va_Nw.warmF hW f1, va_Nw.warmF hW f2, va_Nw.warmF hW f3⟩, ⟨k_cast_moved hv c1, k_cast_moved hv c2, k_cast_moved hv c3⟩, ⟨t1.warm hW, t2.warm hW, t3.warm hW, t4.warm hW, t5.warm hW, t6.warm hW, t7.warm hW, t8.warm hW⟩, ⟨((z1.moved hv).kept hk).narrow hn, ((z2.moved hv).kept hk).narrow hn⟩, ⟨s1.move hv hk hn, s2.move hv hk hn, s3.move hv hk hn⟩⟩
/-! contracts -/
def Cin (d : DD) (ws : va_W) (sz : Nat) (av : List Value) : Array Value → State → Prop := fun v U => v = av.toArray ∧ U.heap.size = sz ∧ va_P d.1 clz ws U.heap ∧ va_D (fun _ => True) ws ∧ En d (va_A ws sz) U U.heap
def Cout {S : Type} (d : DD) (A : Nat → Prop) (val : S → Option Value) (post : S → Prop) (wo : S → va_W) : Array Value → State → Outcome → State → Prop := fun _ st o t => (∃ u : S, o = .returned (val u) ∧ post u ∧ va_P d.1 clz (wo u) t.heap ∧ va_D A (wo u)) ∧ va_F A st t
abbrev Rm (fr lo mc ms : Nat) : Room := { frames := fr, cells := mc, slots := ms, locals := lo }
def Ct {S : Type} (l : Launch) (y : MethodName) (cc : ByteArray) (maxL : Nat) (ret : Option FieldType) (fr lo mc ms : Nat) (d : DD) (ws : va_W) (av : List Value) (val : S → Option Value) (post : S → Prop) (wo : S → va_W) : Prop :=
  ∀ sz : Nat, Met l y (.code y cc maxL ret :: tb) (Rm fr lo mc ms) (Cin d ws sz av) (Cout d (va_A ws sz) val post wo) mc ms (va_A ws sz)
def kx_C (E : String) : String → State → State → Prop := fun E' st t => E' = E ∧ st.heap.size ≤ t.heap.size ∧ ∀ q : Nat, q < st.heap.size → t.heap[q]? = st.heap[q]?
def Cx (l : Launch) (y : MethodName) (cc : ByteArray) (maxL : Nat) (ret : Option FieldType) (fr lo : Nat) (d : DD) (ws : va_W) (av : List Value) (E : String) : Prop :=
  ∀ sz : Nat, vx_Met l y (.code y cc maxL ret :: tb) (Rm fr lo 1 6) (Cin d ws sz av) (fun _ _ _ _ => False) (kx_C E) 1 6 (fun _ => False)
theorem Cin.blind {d : DD} {ws : va_W} {sz : Nat} {av : List Value} : FrameBlind (Cin d ws sz av) := by
  intro a U g mk q
  obtain ⟨q0, q1, q2, q3, q4⟩ := q
  exact ⟨q0, q1, q2, q3, q4.move (State.WarmedH.refl U) (fun _ _ _ => rfl) (fun _ h => h)⟩
/-- what stands still in a method's walk -/
def KC (p : Program) (s : State) (m : MethodId) (args : Array Value) (meth : Method) (c : Code) (own nm : String) (cc : ByteArray) (nL : Nat) (ret : Option FieldType) (d : DD) (A : Nat → Prop) : Prop :=
  p.tables.exec = Jvm.exec ∧ c.code = cc ∧ c.maxLocals = nL ∧ meth.sig.returnType = ret ∧ s.vm.findClass own = some m.cls ∧ (∀ w ∈ tb, w.before args s = true) ∧ meth.locks = false ∧ En d A s s.heap ∧ (∀ q : Nat, s.heap.size ≤ q → A q) ∧ meth.name = nm
section KB
variable {p : Program} {l : Launch} {e : Env} {R : Room} {s : State} {m : MethodId} {args : Array Value} {below : List Frame} {meth : Method} {c : Code} {H : Heap} {locs : List Loc} {cells slots : Nat} {Q : State → Prop}
variable {own nm : String} {cc : ByteArray} {nL : Nat} {ret : Option FieldType} {d : DD} {A : Nat → Prop} {pc : Nat} {ls : Array Slot} {rest : List Value} {ws : va_W}
theorem KC.x (C : KC p s m args meth c own nm cc nL ret d A) : p.tables.exec = Jvm.exec := C.1
theorem KC.b (C : KC p s m args meth c own nm cc nL ret d A) : c.code = cc := C.2.1
theorem KC.ml (C : KC p s m args meth c own nm cc nL ret d A) : c.maxLocals = nL := C.2.2.1
theorem KC.r (C : KC p s m args meth c own nm cc nL ret d A) : meth.sig.returnType = ret := C.2.2.2.1
theorem KC.o (C : KC p s m args meth c own nm cc nL ret d A) : s.vm.findClass own = some m.cls := C.2.2.2.2.1
theorem KC.t (C : KC p s m args meth c own nm cc nL ret d A) : ∀ w ∈ tb, w.before args s = true := C.2.2.2.2.2.1
theorem KC.k (C : KC p s m args meth c own nm cc nL ret d A) : meth.locks = false := C.2.2.2.2.2.2.1
theorem KC.en (C : KC p s m args meth c own nm cc nL ret d A) : En d A s s.heap := C.2.2.2.2.2.2.2.1
theorem KC.a (C : KC p s m args meth c own nm cc nL ret d A) : ∀ q : Nat, s.heap.size ≤ q → A q := C.2.2.2.2.2.2.2.2.1
theorem KC.n (C : KC p s m args meth c own nm cc nL ret d A) : meth.name = nm := C.2.2.2.2.2.2.2.2.2
theorem Met.ofP {y : MethodName} {ws ws' : List Cond} {rm : Room} {Pc : Array Value → State → Prop} {Qc : Array Value → State → Outcome → State → Prop} {mc ms : Nat} {free : Addr → Prop} {cc : ByteArray} {maxL : Nat} {ret : Option FieldType}
    (hy : plainFor y = true) (hw : ws = Cond.code y cc maxL ret :: ws')
    (body : ∀ p e s m args below meth c s₁, BodyLoose p l y (headSpec ws rm) cc maxL ret e s m args below meth c s₁ → c.maxLocals = maxL → Pc args s →
      W p l e (headSpec ws rm).room s m args below meth c s.heap [] 0 0 (MQ below Qc args s mc ms free) (entryFrame m args maxL)) : Met l y ws rm Pc Qc mc ms free := by
  refine MetFree.of_bodySF (code := cc) (maxLocals := maxL) (ret := ret) hy ?_ ?_
  · intro args s m h hn
    obtain ⟨meth, c, h1, h2, h3, h4, h5, h6, -, -⟩ := Cond.code_spec hn (atoms_spec (ws := ws) h _ (by rw [hw]; exact List.mem_cons_self))
    exact ⟨meth, c, h1, h2, h3, h4, h5, h6⟩
  · intro p e s m args below meth c s₁ B hml hP _
    have hh0 : s₁.heap = s.heap := by rw [B.state]; rfl
    obtain ⟨t, a1, o, b1, b2, b3⟩ := body p e s m args below meth c s₁ B hml hP s₁ hh0 (Stand.of_body B)
    exact ⟨t, o, a1, b1, b2, b3⟩
/-- a contract out of a walk -/
theorem Ct.of {S : Type} {y : MethodName} {fr lo mc ms : Nat} {av : List Value} {val : S → Option Value} {post : S → Prop} {wo : S → va_W} (hy : plainFor y = true) (hav : (lg_sl av).length ≤ nL)
    (body : ∀ (p : Program) (e : Env) (s : State) (m : MethodId) (below : List Frame) (meth : Method) (c : Code) (A : Nat → Prop) (ls : Array Slot), KC p s m av.toArray meth c y.cls y.name cc nL ret d A → va_P d.1 clz ws s.heap → va_D A ws → va_S A s.heap s.heap [] → lv_has ls nL (lv_args 0 av) →
      W p l e (Rm fr lo mc ms) s m av.toArray below meth c s.heap [] 0 0 (MQ below (Cout d A val post wo) av.toArray s mc ms A) (F0 m 0 ls [])) : Ct l y cc nL ret fr lo mc ms d ws av val post wo := by
  intro sz
  refine Met.ofP (cc := cc) (maxL := nL) (ret := ret) hy rfl ?_
  intro p e s m args below meth c s₁ B hml hv
  obtain ⟨rfl, hsz, hP, hD0, hE⟩ := hv
  subst hsz
  have hts := atoms_spec (ws := .code y cc nL ret :: tb) B.pre
  have hD := hD0.self (sz := s.heap.size)
  have hl := lv_entry av (n := nL) hav
  rw [lg_entry_eq]
  exact body p e s m below meth c _ _ ⟨B.exec, B.bytes, hml, B.returns, findClass_of_methodNamed B.named, fun w hw => hts w (List.mem_cons_of_mem _ hw), B.notSynchronized, hE, fun q h => Or.inr h, (name_of_methodNamed B.named B.method).1⟩ hP hD va_S.rf hl
theorem k_iret {S : Type} {mc ms : Nat} {val : S → Option Value} {post : S → Prop} {wo : S → va_W} {v : Int32} (C : KC p s m args meth c own nm cc nL (some .int) d A) (hS : va_S A s.heap H locs) (u : S) (hv : val u = some (.int v)) (hp : post u) (hP : va_P d.1 clz (wo u) H) (hD : va_D A (wo u)) (hdg : decode cc pc = .ok (.ireturn, 1)) (h1 : cells ≤ mc := by omega) (h2 : slots ≤ ms := by omega) :
    W p l e R s m args below meth c H locs cells slots (MQ below (Cout d A val post wo) args s mc ms A) (F0 m pc ls [.int v]) := by
  have hlocks := C.k
  refine W.widen h1 h2 ?_
  exact W.iret C.x C.b C.r (fun t ht _ => ⟨⟨u, by rw [hv], hp, by rw [ht]; exact hP, hD⟩, hS.F ht⟩) hS.2.2 hdg hlocks
theorem k_zret {S : Type} {mc ms : Nat} {val : S → Option Value} {post : S → Prop} {wo : S → va_W} {v : Int32} (C : KC p s m args meth c own nm cc nL (some .boolean) d A) (hn : v = 0 ∨ v = 1) (hS : va_S A s.heap H locs) (u : S) (hv : val u = some (.int v)) (hp : post u) (hP : va_P d.1 clz (wo u) H) (hD : va_D A (wo u)) (hdg : decode cc pc = .ok (.ireturn, 1)) (h1 : cells ≤ mc := by omega) (h2 : slots ≤ ms := by omega) :
    W p l e R s m args below meth c H locs cells slots (MQ below (Cout d A val post wo) args s mc ms A) (F0 m pc ls [.int v]) := by
  have hlocks := C.k
  refine W.widen h1 h2 ?_
  exact W.zret C.x C.b C.r (by rcases hn with rfl | rfl <;> rfl) (fun t ht _ => ⟨⟨u, by rw [hv], hp, by rw [ht]; exact hP, hD⟩, hS.F ht⟩) hS.2.2 hdg hlocks
theorem k_vret {S : Type} {mc ms : Nat} {val : S → Option Value} {post : S → Prop} {wo : S → va_W} (C : KC p s m args meth c own nm cc nL none d A) (hS : va_S A s.heap H locs) (u : S) (hv : val u = none) (hp : post u) (hP : va_P d.1 clz (wo u) H) (hD : va_D A (wo u)) (hdg : decode cc pc = .ok (.return_, 1)) (h1 : cells ≤ mc := by omega) (h2 : slots ≤ ms := by omega) :
    W p l e R s m args below meth c H locs cells slots (MQ below (Cout d A val post wo) args s mc ms A) (F0 m pc ls []) := by
  have hlocks := C.k
  refine W.widen h1 h2 ?_
  exact W.vret C.x C.b C.r (fun t ht _ => ⟨⟨u, by rw [hv], hp, by rw [ht]; exact hP, hD⟩, hS.F ht⟩) hS.2.2 hdg hlocks
theorem k_aret {S : Type} {mc ms : Nat} {val : S → Option Value} {post : S → Prop} {wo : S → va_W} {v : Nat} {rt : String} (C : KC p s m args meth c own nm cc nL (some (.object rt)) d A) (hS : va_S A s.heap H locs) (u : S) (hv : val u = some (.ref v)) (hp : post u) (hP : va_P d.1 clz (wo u) H) (hD : va_D A (wo u)) (hdg : decode cc pc = .ok (.areturn, 1)) (h1 : cells ≤ mc := by omega) (h2 : slots ≤ ms := by omega) :
    W p l e R s m args below meth c H locs cells slots (MQ below (Cout d A val post wo) args s mc ms A) (F0 m pc ls [.ref v]) := by
  have hlocks := C.k
  refine W.widen h1 h2 ?_
  exact W.aret C.x C.b C.r (Or.inl ⟨rt, rfl⟩) (Or.inr ⟨v, rfl⟩) (fun t ht _ => ⟨⟨u, by rw [hv], hp, by rw [ht]; exact hP, hD⟩, hS.F ht⟩) hS.2.2 hdg hlocks
/-! a number on top of the stack, by an equal one -/
theorem k_top {x y : Int32} (h : x = y) (k : W p l e R s m args below meth c H locs cells slots Q (F0 m pc ls (.int y :: rest))) : W p l e R s m args below meth c H locs cells slots Q (F0 m pc ls (.int x :: rest)) := h ▸ k
/-! fields -/
theorem k_get (C : KC p s m args meth c own nm cc nL ret d A) (hP : va_P d.1 clz ws H) (q0 : Nat) {a ci : Nat} {fs : List Value} (he : ws[q0]? = some (a, .inr (ci, fs))) {Cn : String} {T : u_T} {N index : Nat} (hc : clz[ci]? = some (Cn, T, N)) (hi : ∀ w ∈ u_ws Cn T N, w ∈ tb) (k : Nat) (hk : k < N) (hlk : Cond.fieldLink own index (T k).1 (T k).2.1 (T k).2.2.1 ∈ tb) {v : Value} (hv : fs[k]? = some v) (hdg : decode cc pc = .ok (.getfield index, 3))
    (kk : W p l e R s m args below meth c H locs cells slots Q (F0 m (pc + 3) ls (v :: rest))) : W p l e R s m args below meth c H locs cells slots Q (F0 m pc ls (.ref a :: rest)) :=
  va_get (D := d.1) (cl := clz) (tys := tysD d) C.x C.b C.t hi C.o C.en.1 hP q0 he hc k hk (C.t _ hlk) (fun _ h => h) hv hdg kk
theorem k_put (C : KC p s m args meth c own nm cc nL ret d A) (hP : va_P d.1 clz ws H) (hD : va_D A ws) (hS : va_S A s.heap H locs) (q0 : Nat) {a ci : Nat} {fs : List Value} (he : ws[q0]? = some (a, .inr (ci, fs))) {Cn : String} {T : u_T} {N index : Nat} (hc : clz[ci]? = some (Cn, T, N)) (hi : ∀ w ∈ u_ws Cn T N, w ∈ tb) {ty0 : Nat → FieldType} (hty : ∀ k, k < N → parseFieldDescriptor (T k).2.2.1 = some (ty0 k)) (hnm : ∀ a, a < N → ∀ b, b < N → a ≠ b → (T a).2.1 ≠ (T b).2.1) (k : Nat) (hk : k < N) (hlk : Cond.fieldLink own index (T k).1 (T k).2.1 (T k).2.2.1 ∈ tb) (hfin : (T k).2.2.2 = false) {v : Value} (hn : narrow (ty0 k) v = v) (hfit : fits (ty0 k) v = true) (hl : k < fs.length) (hdg : decode cc pc = .ok (.putfield index, 3))
    (kk : ∀ (H1 : Heap) (locs1 : List Loc), va_P d.1 clz (ws.set q0 (a, .inr (ci, fs.set k v))) H1 → va_D A (ws.set q0 (a, .inr (ci, fs.set k v))) → va_S A s.heap H1 locs1 → W p l e R s m args below meth c H1 locs1 cells slots Q (F0 m (pc + 3) ls rest)) : W p l e R s m args below meth c H locs cells slots Q (F0 m pc ls (v :: .ref a :: rest)) :=
  va_put (D := d.1) (cl := clz) (tys := tysD d) C.x C.b C.t hi ty0 hty hnm C.o C.en.1 hP hD hS q0 he hc k hk (C.t _ hlk) (fun _ h => h) hfin (hty k hk) hn hfit hl hdg kk
theorem k_putF (C : KC p s m args meth c own nm cc nL ret d A) (hnm9 : nm = "<init>") (hP : va_P d.1 clz ws H) (hD : va_D A ws) (hS : va_S A s.heap H locs) (q0 : Nat) {a ci : Nat} {fs : List Value} (he : ws[q0]? = some (a, .inr (ci, fs))) {Cn : String} {T : u_T} {N index : Nat} (hc : clz[ci]? = some (Cn, T, N)) (hi : ∀ w ∈ u_ws Cn T N, w ∈ tb) {ty0 : Nat → FieldType} (hty : ∀ k, k < N → parseFieldDescriptor (T k).2.2.1 = some (ty0 k)) (hnm : ∀ a, a < N → ∀ b, b < N → a ≠ b → (T a).2.1 ≠ (T b).2.1) (k : Nat) (hk : k < N) (hlk : Cond.fieldLink own index (T k).1 (T k).2.1 (T k).2.2.1 ∈ tb) (hfin : (T k).2.2.2 = true) (hdecl : (T k).1 = own) {v : Value} (hn : narrow (ty0 k) v = v) (hfit : fits (ty0 k) v = true) (hl : k < fs.length) (hdg : decode cc pc = .ok (.putfield index, 3))
    (kk : ∀ (H1 : Heap) (locs1 : List Loc), va_P d.1 clz (ws.set q0 (a, .inr (ci, fs.set k v))) H1 → va_D A (ws.set q0 (a, .inr (ci, fs.set k v))) → va_S A s.heap H1 locs1 → W p l e R s m args below meth c H1 locs1 cells slots Q (F0 m (pc + 3) ls rest)) : W p l e R s m args below meth c H locs cells slots Q (F0 m pc ls (v :: .ref a :: rest)) :=
  va_putF (D := d.1) (cl := clz) (tys := tysD d) C.x C.b C.t hi ty0 hty hnm C.o C.en.1 hP hD hS q0 he hc k hk (C.t _ hlk) (fun _ h => h) hfin (C.n.trans hnm9) hdecl (hty k hk) hn hfit hl hdg kk
/-! arrays, at a place that is a number -/
theorem k_iald (C : KC p s m args meth c own nm cc nL ret d A) (hP : va_P d.1 clz ws H) (q0 : Nat) {a n : Nat} {f : Nat → Int32} (ha : ws[q0]? = some (a, aI d n f)) {j : Nat} (hj : j < n) (hn : n < 2 ^ 31) (hdg : decode cc pc = .ok (.iaload, 1))
    (kk : W p l e R s m args below meth c H locs cells slots Q (F0 m (pc + 1) ls (.int (f j) :: rest))) : W p l e R s m args below meth c H locs cells slots Q (F0 m pc ls (.int (nI j) :: .ref a :: rest)) := by
  refine va_iald (D := d.1) (cl := clz) (tys := tysD d) C.x C.b C.en.1 hP q0 0 ha rfl (vp_in_nI hj hn) hdg ?_
  rw [nI_clamp (by omega)]
  exact kk
theorem k_bald (C : KC p s m args meth c own nm cc nL ret d A) (hP : va_P d.1 clz ws H) (q0 : Nat) {a n : Nat} {f : Nat → Int32} (ha : ws[q0]? = some (a, aB d n f)) {j : Nat} (hj : j < n) (hn : n < 2 ^ 31) (hdg : decode cc pc = .ok (.baload, 1))
    (kk : W p l e R s m args below meth c H locs cells slots Q (F0 m (pc + 1) ls (.int (f j) :: rest))) : W p l e R s m args below meth c H locs cells slots Q (F0 m pc ls (.int (nI j) :: .ref a :: rest)) := by
  refine va_bald (D := d.1) (cl := clz) (tys := tysD d) C.x C.b C.en.1 hP q0 1 ha rfl (vp_in_nI hj hn) hdg ?_
  rw [nI_clamp (by omega)]
  exact kk
theorem k_iast (C : KC p s m args meth c own nm cc nL ret d A) (hP : va_P d.1 clz ws H) (hD : va_D A ws) (hS : va_S A s.heap H locs) (q0 : Nat) {a n : Nat} {f : Nat → Int32} (ha : ws[q0]? = some (a, aI d n f)) {j : Nat} {x : Int32} (hj : j < n) (hn : n < 2 ^ 31) (hdg : decode cc pc = .ok (.iastore, 1))
    (kk : ∀ (H1 : Heap) (locs1 : List Loc), va_P d.1 clz (ws.set q0 (a, aI d n (upd f j x))) H1 → va_D A (ws.set q0 (a, aI d n (upd f j x))) → va_S A s.heap H1 locs1 → W p l e R s m args below meth c H1 locs1 cells slots Q (F0 m (pc + 1) ls rest)) : W p l e R s m args below meth c H locs cells slots Q (F0 m pc ls (.int x :: .int (nI j) :: .ref a :: rest)) := by
  refine va_iast (D := d.1) (cl := clz) (tys := tysD d) C.x C.b C.en.1 hP hD hS q0 0 ha rfl (vp_in_nI hj hn) hdg ?_
  rw [nI_clamp (by omega)]
  exact kk
theorem k_bast (C : KC p s m args meth c own nm cc nL ret d A) (hP : va_P d.1 clz ws H) (hD : va_D A ws) (hS : va_S A s.heap H locs) (q0 : Nat) {a n : Nat} {f : Nat → Int32} (ha : ws[q0]? = some (a, aB d n f)) {j : Nat} {x : Int32} (hj : j < n) (hn : n < 2 ^ 31) (hdg : decode cc pc = .ok (.bastore, 1))
    (kk : ∀ (H1 : Heap) (locs1 : List Loc), va_P d.1 clz (ws.set q0 (a, aB d n (upd f j x.toInt8.toInt32))) H1 → va_D A (ws.set q0 (a, aB d n (upd f j x.toInt8.toInt32))) → va_S A s.heap H1 locs1 → W p l e R s m args below meth c H1 locs1 cells slots Q (F0 m (pc + 1) ls rest)) : W p l e R s m args below meth c H locs cells slots Q (F0 m pc ls (.int x :: .int (nI j) :: .ref a :: rest)) := by
  refine va_bast (D := d.1) (cl := clz) (tys := tysD d) C.x C.b C.en.1 hP hD hS q0 1 ha rfl (vp_in_nI hj hn) hdg ?_
  rw [nI_clamp (by omega), vp_nar_byte]
  exact kk
theorem k_alenB (C : KC p s m args meth c own nm cc nL ret d A) (hP : va_P d.1 clz ws H) (q0 : Nat) {a n : Nat} {f : Nat → Int32} (ha : ws[q0]? = some (a, aB d n f)) (hdg : decode cc pc = .ok (.arraylength, 1))
    (kk : W p l e R s m args below meth c H locs cells slots Q (F0 m (pc + 1) ls (.int (nI n) :: rest))) : W p l e R s m args below meth c H locs cells slots Q (F0 m pc ls (.ref a :: rest)) :=
  va_alen (D := d.1) (cl := clz) (tys := tysD d) C.x C.b C.en.1 hP q0 1 ha rfl rfl hdg kk
/-! a method's words, and calls -/
def Mw (y : MethodName) (cc : ByteArray) (maxL : Nat) (ret : Option FieldType) (n : Nat) : Prop := Cond.code y cc maxL ret ∈ tb ∧ Cond.initialized y.cls ∈ tb ∧ Cond.instanceMethod y ∈ tb ∧ (y.cls ≠ "java/lang/invoke/MethodHandle" ∧ y.cls ≠ "java/lang/invoke/VarHandle" ∧ (parseMethodDescriptor y.desc).map (fun d => d.parameters.length) = some n)
def Msw (y : MethodName) (cc : ByteArray) (maxL : Nat) (ret : Option FieldType) (n : Nat) : Prop := Cond.code y cc maxL ret ∈ tb ∧ Cond.initialized y.cls ∈ tb ∧ Cond.static y ∈ tb ∧ (y.cls ≠ "java/lang/invoke/MethodHandle" ∧ y.cls ≠ "java/lang/invoke/VarHandle" ∧ (parseMethodDescriptor y.desc).map (fun d => d.parameters.length) = some n)
theorem k_good {y : MethodName} {cc : ByteArray} {maxL : Nat} {ret : Option FieldType} (h : Cond.code y cc maxL ret ∈ tb) : GoodIn tb (.code y cc maxL ret :: tb) := fun w hw => by
  rcases List.mem_cons.mp hw with e | h1
  · rw [e]; exact ⟨h, tb_good _ h⟩
  · exact ⟨h1, tb_good _ h1⟩
theorem k_goodc {y : MethodName} {cc : ByteArray} {maxL : Nat} {ret : Option FieldType} {hh : List (Nat × Nat × Nat × Nat)} (h : Cond.codeWith y cc maxL ret hh ∈ tb) : GoodIn tb (.codeWith y cc maxL ret hh :: tb) := fun w hw => by
  rcases List.mem_cons.mp hw with e | h1
  · rw [e]; exact ⟨h, tb_good _ h⟩
  · exact ⟨h1, tb_good _ h1⟩
/-- behind a call: the callee's world beside the rest -/
theorem k_join {S : Type} {mc ms : Nat} {val : S → Option Value} {post : S → Prop} {wo : S → va_W} {a : Array Value} {st0 : List Value} {wc wr : va_W} (C : KC p s m args meth c own nm cc nL ret d A)
    (hr : va_Run p l e R s m args below meth c H locs cells slots mc ms (F0 m pc ls st0) rest (Cout d (va_A wc H.size) val post wo a) (va_A wc H.size))
    (hP : va_P d.1 clz ws H) (hD : va_D A ws) (hS : va_S A s.heap H locs) (isC isR : List Nat) (hC : isC.map (fun i => ws[i]?) = wc.map some) (hR : isR.map (fun i => ws[i]?) = wr.map some) (hn : va_nd isR = true) (hdis : ∀ i ∈ isR, i ∉ isC)
    (kk : ∀ (u : S) (H1 : Heap) (locs1 : List Loc), post u → va_P d.1 clz (wr ++ wo u) H1 → va_D A (wr ++ wo u) → va_S A s.heap H1 locs1 → W p l e R s m args below meth c H1 locs1 (cells + mc) (slots + ms) Q (F0 m (pc + 3) ls ((val u).toList ++ rest))) :
    W p l e R s m args below meth c H locs cells slots Q (F0 m pc ls st0) := by
  have hF := va_free (wc := wc) hD hS C.a isC hC
  intro T hT X
  obtain ⟨v, st₀, t, T', L, h0, X', hL, e1, e2, ⟨⟨u, hv, hp, hP1, hD1⟩, hz, hk⟩, st⟩ := hr T hT X
  cases hv
  rw [h0] at hz hk
  rw [← e1] at hz hk hP1
  obtain ⟨hP2, hD2⟩ := va_join hP hD isC isR hC hR hn hdis hk hF hP1 hD1
  obtain ⟨t2, a1, b1⟩ := kk u T'.heap (locs ++ L) hp hP2 hD2
    ⟨Nat.le_trans hS.1 hz, fun q h1 h2 => by rw [hk q (Nat.lt_of_lt_of_le h1 hS.1) (fun z => h2 (hF q z))]; exact hS.2.1 q h1 h2, fun q hq => by
      rcases List.mem_append.mp hq with h | h
      · exact hS.2.2 q h
      · exact hF _ (hL q h)⟩ T' rfl X'
  exact ⟨t2, st t2 a1, b1⟩
theorem k_pre {wc : va_W} {As : List Value} (C : KC p s m args meth c own nm cc nL ret d A) (hP : va_P d.1 clz ws H) (hD : va_D A ws) (hS : va_S A s.heap H locs) (isC : List Nat) (hC : isC.map (fun i => ws[i]?) = wc.map some) (hCn : va_nd isC = true) :
    FrameBlind (Cin d wc H.size As) ∧ ∀ U : State, U.heap = H → s.WarmedH U.vm → Cin d wc H.size As As.toArray U := by
  have hF := va_free (wc := wc) hD hS C.a isC hC
  have hPc : va_P d.1 clz wc H := by
    intro k q hk
    have h1 : (isC.map (fun i => ws[i]?))[k]? = some (some q) := by rw [hC, List.getElem?_map, hk]; rfl
    rw [List.getElem?_map] at h1
    cases hi : isC[k]? with
    | none => rw [hi] at h1; cases h1
    | some i => rw [hi] at h1; exact hP i q (Option.some.inj h1)
  have hDc : va_D A wc := hD.sub isC hCn hC
  exact ⟨Cin.blind, fun U hU hW => ⟨rfl, by rw [hU], by rw [hU]; exact hPc, hDc.weaken (fun _ _ _ _ => trivial), by rw [hU]; exact C.en.move hW (fun a h1 h2 => hS.2.1 a h1 h2) hF⟩⟩
theorem k_callV {S : Type} {y : MethodName} {bytes : ByteArray} {maxL : Nat} {rt : Option FieldType} {fr lo mc ms n index b ci : Nat} {fs : List Value} {qc : vw_C} {val : S → Option Value} {post : S → Prop} {wo : S → va_W} {wc wr : va_W} {As : List Value} (C : KC p s m args meth c own nm cc nL ret d A)
    (hM : Ct l y bytes maxL rt fr lo mc ms d wc (.ref b :: As) val post wo) (hw : Mw y bytes maxL rt n) (hse : Cond.selects y.cls y y ∈ tb) (hlk : Cond.methodLink own index y ∈ tb) (hP : va_P d.1 clz ws H) (hD : va_D A ws) (hS : va_S A s.heap H locs)
    (isC isR : List Nat) (hC : isC.map (fun i => ws[i]?) = wc.map some) (hR : isR.map (fun i => ws[i]?) = wr.map some) (hCn : va_nd isC = true) (hn : va_nd isR = true) (hdis : ∀ i ∈ isR, i ∉ isC) (q0 : Nat) (he : ws[q0]? = some (b, .inr (ci, fs))) (hq : clz[ci]? = some qc) (hcl : qc.1 = y.cls) (hnn : As.length = n) (hsz : ls.size = nL)
    (hW : (rest.map fun v => v.category).sum ≤ 8) (hdg : decode cc pc = .ok (.invokevirtual index, 3)) (hR1 : fr + 1 ≤ R.frames ∧ 8 + (maxL + 11) + lo ≤ R.locals) (hR2 : cells + mc ≤ R.cells ∧ slots + ms ≤ R.slots)
    (kk : ∀ (u : S) (H1 : Heap) (locs1 : List Loc), post u → va_P d.1 clz (wr ++ wo u) H1 → va_D A (wr ++ wo u) → va_S A s.heap H1 locs1 → W p l e R s m args below meth c H1 locs1 (cells + mc) (slots + ms) Q (F0 m (pc + 3) ls ((val u).toList ++ rest))) :
    W p l e R s m args below meth c H locs cells slots Q (F0 m pc ls (As.reverse ++ .ref b :: rest)) := by
  obtain ⟨hcd, hini, hin, hy⟩ := hw
  have hp := k_pre (As := .ref b :: As) C hP hD hS isC hC hCn
  refine k_join (a := (Value.ref b :: As).toArray) C (va_runV ⟨C.x, C.b, C.ml, C.o, C.t⟩ (hM H.size) ⟨callB_of n C.t (k_good hcd) rfl rfl rfl (C.t _ hini) (C.t _ hlk) hy hR1, C.t _ hin, C.t _ hse⟩ ⟨hp.1, ?_, hp.2⟩ rfl hnn hsz rfl (lv_room hW) hdg hR2) hP hD hS isC isR hC hR hn hdis kk
  have hrv := va_recv (cl := clz) C.en.1 hP hq he
  rw [hcl] at hrv
  exact hrv
theorem k_callS {S : Type} {y : MethodName} {bytes : ByteArray} {maxL : Nat} {rt : Option FieldType} {fr lo mc ms n index : Nat} {val : S → Option Value} {post : S → Prop} {wo : S → va_W} {wc wr : va_W} {As : List Value} (C : KC p s m args meth c own nm cc nL ret d A)
    (hM : Ct l y bytes maxL rt fr lo mc ms d wc As val post wo) (hw : Msw y bytes maxL rt n) (hlk : Cond.methodLink own index y ∈ tb) (hP : va_P d.1 clz ws H) (hD : va_D A ws) (hS : va_S A s.heap H locs)
    (isC isR : List Nat) (hC : isC.map (fun i => ws[i]?) = wc.map some) (hR : isR.map (fun i => ws[i]?) = wr.map some) (hCn : va_nd isC = true) (hn : va_nd isR = true) (hdis : ∀ i ∈ isR, i ∉ isC) (hnn : As.length = n) (hsz : ls.size = nL)
    (hW : (rest.map fun v => v.category).sum ≤ 8) (hdg : decode cc pc = .ok (.invokestatic index, 3)) (hR1 : fr + 1 ≤ R.frames ∧ 8 + (maxL + 11) + lo ≤ R.locals) (hR2 : cells + mc ≤ R.cells ∧ slots + ms ≤ R.slots)
    (kk : ∀ (u : S) (H1 : Heap) (locs1 : List Loc), post u → va_P d.1 clz (wr ++ wo u) H1 → va_D A (wr ++ wo u) → va_S A s.heap H1 locs1 → W p l e R s m args below meth c H1 locs1 (cells + mc) (slots + ms) Q (F0 m (pc + 3) ls ((val u).toList ++ rest))) :
    W p l e R s m args below meth c H locs cells slots Q (F0 m pc ls (As.reverse ++ rest)) := by
  obtain ⟨hcd, hini, hst, hy⟩ := hw
  have hp := k_pre (As := As) C hP hD hS isC hC hCn
  exact k_join (a := As.toArray) C (va_runS ⟨C.x, C.b, C.ml, C.o, C.t⟩ (hM H.size) ⟨callB_of n C.t (k_good hcd) rfl rfl rfl (C.t _ hini) (C.t _ hlk) hy hR1, C.t _ hst⟩ hp rfl hnn hsz rfl (lv_room hW) hdg hR2) hP hD hS isC isR hC hR hn hdis kk
theorem k_callI {S : Type} {y : MethodName} {bytes : ByteArray} {maxL : Nat} {fr lo mc ms n index b : Nat} {val : S → Option Value} {post : S → Prop} {wo : S → va_W} {wc wr : va_W} {As : List Value} (C : KC p s m args meth c own nm cc nL ret d A)
    (hM : Ct l y bytes maxL none fr lo mc ms d wc (.ref b :: As) val post wo) (hw : Mw y bytes maxL none n) (hyn : y.name = "<init>") (hlk : Cond.methodLink own index y ∈ tb) (hP : va_P d.1 clz ws H) (hD : va_D A ws) (hS : va_S A s.heap H locs)
    (isC isR : List Nat) (hC : isC.map (fun i => ws[i]?) = wc.map some) (hR : isR.map (fun i => ws[i]?) = wr.map some) (hCn : va_nd isC = true) (hn : va_nd isR = true) (hdis : ∀ i ∈ isR, i ∉ isC) (hnn : As.length = n) (hsz : ls.size = nL)
    (hW : (rest.map fun v => v.category).sum ≤ 8) (hdg : decode cc pc = .ok (.invokespecial index, 3)) (hR1 : fr + 1 ≤ R.frames ∧ 8 + (maxL + 11) + lo ≤ R.locals) (hR2 : cells + mc ≤ R.cells ∧ slots + ms ≤ R.slots)
    (kk : ∀ (u : S) (H1 : Heap) (locs1 : List Loc), post u → va_P d.1 clz (wr ++ wo u) H1 → va_D A (wr ++ wo u) → va_S A s.heap H1 locs1 → W p l e R s m args below meth c H1 locs1 (cells + mc) (slots + ms) Q (F0 m (pc + 3) ls ((val u).toList ++ rest))) :
    W p l e R s m args below meth c H locs cells slots Q (F0 m pc ls (As.reverse ++ .ref b :: rest)) := by
  obtain ⟨hcd, hini, hin, hy⟩ := hw
  have hp := k_pre (As := .ref b :: As) C hP hD hS isC hC hCn
  exact k_join (a := (Value.ref b :: As).toArray) C (va_runI ⟨C.x, C.b, C.ml, C.o, C.t⟩ (hM H.size) ⟨callB_of n C.t (k_good hcd) rfl rfl rfl (C.t _ hini) (C.t _ hlk) hy hR1, hyn, C.t _ hin⟩ hp rfl hnn hsz rfl (lv_room hW) hdg hR2) hP hD hS isC isR hC hR hn hdis kk
theorem k_callIN {S : Type} {y : MethodName} {bytes : ByteArray} {maxL : Nat} {fr lo mc ms n index b : Nat} {host : String} {val : S → Option Value} {post : S → Prop} {wo : S → va_W} {wc wr : va_W} {As : List Value} (C : KC p s m args meth c own nm cc nL ret d A)
    (hM : Ct l y bytes maxL none fr lo mc ms d wc (.ref b :: As) val post wo) (hw : Mw y bytes maxL none n) (hyn : y.name = "<init>") (hlk : va_Nw (.methodLinkNest own index y host) s) (hP : va_P d.1 clz ws H) (hD : va_D A ws) (hS : va_S A s.heap H locs)
    (isC isR : List Nat) (hC : isC.map (fun i => ws[i]?) = wc.map some) (hR : isR.map (fun i => ws[i]?) = wr.map some) (hCn : va_nd isC = true) (hn : va_nd isR = true) (hdis : ∀ i ∈ isR, i ∉ isC) (hnn : As.length = n) (hsz : ls.size = nL)
    (hW : (rest.map fun v => v.category).sum ≤ 8) (hdg : decode cc pc = .ok (.invokespecial index, 3)) (hR1 : fr + 1 ≤ R.frames ∧ 8 + (maxL + 11) + lo ≤ R.locals) (hR2 : cells + mc ≤ R.cells ∧ slots + ms ≤ R.slots)
    (kk : ∀ (u : S) (H1 : Heap) (locs1 : List Loc), post u → va_P d.1 clz (wr ++ wo u) H1 → va_D A (wr ++ wo u) → va_S A s.heap H1 locs1 → W p l e R s m args below meth c H1 locs1 (cells + mc) (slots + ms) Q (F0 m (pc + 3) ls ((val u).toList ++ rest))) :
    W p l e R s m args below meth c H locs cells slots Q (F0 m pc ls (As.reverse ++ .ref b :: rest)) := by
  obtain ⟨hcd, hini, hin, hy⟩ := hw
  have hp := k_pre (As := .ref b :: As) C hP hD hS isC hC hCn
  exact k_join (a := (Value.ref b :: As).toArray) C (va_runIN ⟨C.x, C.b, C.ml, C.o, C.t⟩ (hM H.size) ⟨va_cnB n C.t (k_good hcd) rfl rfl rfl hlk (C.t _ hini) hy hR1, hyn, C.t _ hin⟩ hp rfl hnn hsz rfl (lv_room hW) hdg hR2) hP hD hS isC isR hC hR hn hdis kk
end KB
theorem k_inc (n k : Nat) : nI n + Int32.ofInt (k : Int) = nI (n + k) := by
  rw [← nI_add]; rfl
theorem k_dec {n k : Nat} (h : k ≤ n) : nI n + Int32.ofInt (-(k : Int)) = nI (n - k) := by
  apply Int32.toBitVec_inj.mp
  have h1 : n = (n - k) + k := by omega
  rw [h1]
  simp only [nI, Nat.add_sub_cancel, Int32.toBitVec_add, Int32.toBitVec_ofNat', Int32.toBitVec_ofInt, BitVec.ofNat_add, BitVec.ofInt_neg, BitVec.ofInt_natCast]
  rw [BitVec.add_assoc, BitVec.add_right_neg, BitVec.add_zero]
section KT
variable {p : Program} {l : Launch} {e : Env} {R : Room} {s : State} {m : MethodId} {args : Array Value} {below : List Frame} {meth : Method} {c : Code} {H : Heap} {locs : List Loc} {cells slots : Nat} {Q : State → Prop}
variable {own nm : String} {cc : ByteArray} {nL : Nat} {ret : Option FieldType} {d : DD} {A : Nat → Prop} {pc : Nat} {ls : Array Slot} {rest : List Value} {ws : va_W}
theorem k_ti {N t j : Nat} {f : Nat → Int32} (hT : va_T .int t N (fun j => .int (f j)) A s s.heap) (hS : va_S A s.heap H locs) (hj : j < N) (hN : N < 2 ^ 31) (C : KC p s m args meth c own nm cc nL ret d A) (hdg : decode cc pc = .ok (.iaload, 1))
    (kk : W p l e R s m args below meth c H locs cells slots Q (F0 m (pc + 1) ls (.int (f j) :: rest))) : W p l e R s m args below meth c H locs cells slots Q (F0 m pc ls (.int (nI j) :: .ref t :: rest)) := by
  refine va_ti C.x C.b hT hS (vp_in_nI hj hN) (v := .int (f j)) ?_ hdg kk
  rw [nI_clamp (by omega)]
theorem k_newI {n : Nat} (C : KC p s m args meth c own nm cc nL ret d A) (hP : va_P d.1 clz ws H) (hD : va_D A ws) (hS : va_S A s.heap H locs) (hn : n < 100000) (hcells : cells + 1 ≤ R.cells) (hslots : slots + n ≤ R.slots) (hdg : decode cc pc = .ok (.newarray .int, 2))
    (kk : ∀ (q : Nat) (H1 : Heap), va_P d.1 clz (ws ++ [(q, aI d n (fun _ => 0))]) H1 → va_D A (ws ++ [(q, aI d n (fun _ => 0))]) → va_S A s.heap H1 locs → W p l e R s m args below meth c H1 locs (cells + 1) (slots + n) Q (F0 m (pc + 2) ls (.ref q :: rest))) : W p l e R s m args below meth c H locs cells slots Q (F0 m pc ls (.int (nI n) :: rest)) := by
  refine va_newaK (atype := .int) C.x C.b (C.t _ m_34) (g := F0 m pc ls (.int (nI n) :: rest)) rfl hdg (n := nI n) (N := n) (rest := rest) rfl (nI_pos (by omega)) (nI_clamp (by omega)) (by show n * 4 ≤ _; omega) hcells hslots (h := H.size) rfl ?_
  intro H' cA h1 h2 h3 h4 h5
  have e1 : cA = d.2.1 := Option.some.inj (h5.symm.trans C.en.2.1.1)
  subst e1
  have hP1 : va_P d.1 clz ws H' := hP.kept fun k q hk => h3 _ (hP k q hk).lt
  refine kk H.size H' (hP1.app ?_) (hD.push hP rfl (C.a _ hS.1)) ⟨by rw [h2]; exact Nat.le_succ_of_le hS.1, fun q q1 q2 => by rw [h3 q (Nat.lt_of_lt_of_le q1 hS.1)]; exact hS.2.1 q q1 q2, hS.2.2⟩
  intro k q hk
  cases k with
  | zero => cases hk; exact h1
  | succ k => simp at hk
theorem k_newB {n : Nat} (C : KC p s m args meth c own nm cc nL ret d A) (hP : va_P d.1 clz ws H) (hD : va_D A ws) (hS : va_S A s.heap H locs) (hn : n < 100000) (hcells : cells + 1 ≤ R.cells) (hslots : slots + n ≤ R.slots) (hdg : decode cc pc = .ok (.newarray .byte, 2))
    (kk : ∀ (q : Nat) (H1 : Heap), va_P d.1 clz (ws ++ [(q, aB d n (fun _ => 0))]) H1 → va_D A (ws ++ [(q, aB d n (fun _ => 0))]) → va_S A s.heap H1 locs → W p l e R s m args below meth c H1 locs (cells + 1) (slots + n) Q (F0 m (pc + 2) ls (.ref q :: rest))) : W p l e R s m args below meth c H locs cells slots Q (F0 m pc ls (.int (nI n) :: rest)) := by
  refine va_newaK (atype := .byte) C.x C.b (C.t _ m_69) (g := F0 m pc ls (.int (nI n) :: rest)) rfl hdg (n := nI n) (N := n) (rest := rest) rfl (nI_pos (by omega)) (nI_clamp (by omega)) (by show n * 1 ≤ _; omega) hcells hslots (h := H.size) rfl ?_
  intro H' cA h1 h2 h3 h4 h5
  have e1 : cA = d.2.2.1 := Option.some.inj (h5.symm.trans C.en.2.1.2.1)
  subst e1
  have hP1 : va_P d.1 clz ws H' := hP.kept fun k q hk => h3 _ (hP k q hk).lt
  refine kk H.size H' (hP1.app ?_) (hD.push hP rfl (C.a _ hS.1)) ⟨by rw [h2]; exact Nat.le_succ_of_le hS.1, fun q q1 q2 => by rw [h3 q (Nat.lt_of_lt_of_le q1 hS.1)]; exact hS.2.1 q q1 q2, hS.2.2⟩
  intro k q hk
  cases k with
  | zero => cases hk; exact h1
  | succ k => simp at hk
end KT
