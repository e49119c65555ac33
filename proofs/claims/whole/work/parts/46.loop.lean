/-! THE CLAIM OUT OF ONE WALK OF THE LAW'S BODY. Your part is whole_start (and what it stands on); all else here is the same for every law, but numbers. -/
def R_law : String := "PacketGuardLaw"
def lw_P (b : Addr) (xs : List Int32) (args : Array Value) (s : State) : Prop := args = #[.ref b] ∧ s.IntsAt b xs ∧ xs.length ≤ 1536 ∧ (Jvm.Cond.and given_1 narrow_1).before args s = true
def lw_Q (_ : Array Value) (s : State) (o : Outcome) (t : State) : Prop := o = .returned (some (.int 1)) ∧ Framed s o t [] 601024 7293034
def lw_Z (below : List Frame) (a : Array Value) (s : State) : State → Prop := fun t => ∃ o, t.status = .running ∧ Ended t below o ∧ lw_Q a s o t
/-- the law's own end, with 1 on the stack, nothing written that was there before, its room as the claim has it -/
theorem lw_ret {p : Program} {l : Launch} {e : Env} {s : State} {m : MethodId} {below : List Frame} {meth : Method} {c : Code} {b : Nat} (hx : p.tables.exec = Jvm.exec) (hb : c.code = code) (hr : meth.sig.returnType = ret) (hlocks : meth.locks = false) {pc : Nat} {H : Heap} {ls : Array Slot} (hdg : decode code pc = .ok (.ireturn, 1)) : W p l e room_1 s m #[Value.ref b] below meth c H [] 601024 7293034 (lw_Z below #[Value.ref b] s) (F0 m pc ls [.int 1]) := by
  intro T hT X
  obtain ⟨fs, hret, hrun, hended, hW, hframe⟩ := X.leave (v := some (.int 1)) (hlocks := hlocks) (fun h => by rw [hr] at h; cases h)
  have hmeth' : T.vm.method? m = some meth := X.method'
  refine ⟨T.setFrames fs, ?_, .returned (some (.int 1)), hrun, hended, rfl, ⟨_, rfl⟩, hW, hframe⟩
  jvm_step X.here [X.here.top, hx, hb, hdg, hmeth', hr, ret, narrow_b1]
  (try refine ⟨rfl, ?_⟩); (try refine ⟨rfl, ?_⟩)
  first | (intro acts; rw [hret _ acts rfl rfl rfl]) | rw [hret _ _ rfl rfl rfl]
  exact Steps.refl _
/-- what holds at the law's entry: the machine, the code, the tables' words (any of lw_tbl by 'hts w (by decide +kernel)'), the script of L ints xs at the cell b, what the Statement gives of the start (any of its parts by flat_of_before) -/
def lw_At (p : Program) (s : State) (m : MethodId) (meth : Method) (c : Code) (b L : Nat) (xs : Nat → Int32) : Prop :=
  p.tables.exec = Jvm.exec ∧ c.code = code ∧ meth.sig.returnType = ret ∧ c.maxLocals = 7 ∧ s.vm.findClass R_law = some m.cls ∧ (∀ w ∈ lw_tbl, w.before #[Value.ref b] s = true) ∧ va_X b L xs s s.heap ∧ b < s.heap.size ∧ meth.locks = false ∧ (Jvm.Cond.and given_1 narrow_1).before #[Value.ref b] s = true
theorem lt3 {L t : Nat} (hL : L < 2 ^ 30) (ht : 3 * t ≤ L + 3) (h : ¬ nI L - nI 3 < nI (3 * t)) : 3 * t + 2 < L := by
  rcases Nat.lt_or_ge L 3 with q | q
  · have h0 : nI L - nI 3 < 0 := by
      rcases (show L = 0 ∨ L = 1 ∨ L = 2 by omega) with rfl | rfl | rfl <;> decide
    exact absurd (Int32.lt_of_lt_of_le h0 (nI_pos' (by omega))) h
  · rw [pk_sub q, nI_ltI (by omega) (by omega)] at h
    omega
set_option maxHeartbeats 4000000 in
set_option maxRecDepth 100000 in
theorem law_loop {p : Program} {l : Launch} {e : Env} {s : State} {m : MethodId} {below : List Frame} {meth : Method} {c : Code} {nm : String} {d : DD} {b L : Nat} {xs : Nat → Int32} {a : Ad} (hst : l.stackTraces = false) (C : KC p s m #[Value.ref b] meth c R_LW nm code 7 (some .boolean) d (fun q : Nat => s.heap.size ≤ q)) (hN : va_Nc xS xA s) (hX : va_X b L xs s s.heap) (hbl : b < s.heap.size) (hL : L ≤ 1536) (hg : a.ok) :
    ∀ (n t : Nat), L + 4 ≤ 3 * t + n → 3 * t ≤ L + 3 → Jn p l e s m #[Value.ref b] below meth c (lw_Z below #[Value.ref b] s) d (fun q : Nat => s.heap.size ≤ q) b a t (52 + t) (21594 + 6 * t) 23 := by
  have hbA : ¬ (fun q : Nat => s.heap.size ≤ q) b := Nat.not_le.mpr hbl
  intro n
  induction n with
  | zero => intro t h1 h2; omega
  | succ n ih =>
    intro t h1 h2 u hu H locs ls hP hD hS hl
    refine lv_iload C.x C.b d_LW_law_23 (lv_at hl 4 rfl) ?_
    refine lv_aload_n C.x C.b d_LW_law_25 rfl (lv_at hl 0 rfl) ?_
    refine va_slen C.x C.b hX hbl hbA hS d_LW_law_26 ?_
    refine lv_iconst (v := nI 3) C.x C.b d_LW_law_27 (by decide) ?_
    refine lv_isub C.x C.b d_LW_law_28 ?_
    refine lv_icmp_gt (tgt := 695) C.x C.b d_LW_law_29 (by decide) (fun c9 => ?_) (fun c9 => ?_)
    · refine lv_iconst (v := 1) C.x C.b d_LW_law_695 (by decide) ?_
      refine va_forget (fun q hq => hS.2.2 q hq) ?_
      refine W.widen (k := 601024) (n := 7293034) (by omega) (by omega) ?_
      exact lw_ret C.x C.b C.r C.k d_LW_law_696
    · have ht : 3 * t + 2 < L := lt3 (by omega) h2 c9
      have hL31 : L < 2 ^ 31 := by omega
      have hc9 : 52 + t + 1 ≤ 601024 := by omega
      have hs9 : 21594 + 6 * t + 6 ≤ 7293034 := by omega
      have J : Jn p l e s m #[Value.ref b] below meth c (lw_Z below #[Value.ref b] s) d (fun q : Nat => s.heap.size ≤ q) b a t (52 + t + 1) (21594 + 6 * t + 6) 689 := by
        intro u hu H locs ls hP hD hS hl
        refine lv_iinc (v := nI (3 * (t + 1))) (lv' := [(4, .int (nI (3 * (t + 1)))), (0, .ref b), (1, .ref a.g), (2, .ref a.Mh), (3, .ref a.aj)]) C.x C.b d_LW_law_689 hl (k := 4) rfl (k_inc (3 * t) 3) (by decide) rfl (fun ls hl => ?_)
        refine lv_goto (tgt := 23) C.x C.b d_LW_law_692 (by decide) ?_
        exact ih (t + 1) (by omega) (by omega) u hu H locs ls hP hD hS (lv_sub hl [1, 2, 3, 4, 0] rfl)
      refine lv_aload_n C.x C.b d_LW_law_32 rfl (lv_at hl 0 rfl) ?_
      refine lv_iload C.x C.b d_LW_law_33 (lv_at hl 4 rfl) ?_
      refine va_sld C.x C.b hX hbl hbA hS (vp_in_nI (n := 3 * t) (by omega) hL31) d_LW_law_35 ?_
      refine lv_bipush (v := nI 15) C.x C.b d_LW_law_36 (by decide) ?_
      refine lv_iand C.x C.b d_LW_law_38 ?_
      obtain ⟨k, hk, ek⟩ := pk_andE (xs (nI (3 * t)).toNatClampNeg) (m := nI 15) 4 (by decide)
      refine k_top ek ?_
      rcases (show k = 0 ∨ k = 1 ∨ k = 2 ∨ k = 3 ∨ k = 4 ∨ k = 5 ∨ k = 6 ∨ k = 7 ∨ k = 8 ∨ k = 9 ∨ k = 10 ∨ k = 11 ∨ k = 12 ∨ 13 ≤ k by omega) with rfl | rfl | rfl | rfl | rfl | rfl | rfl | rfl | rfl | rfl | rfl | rfl | rfl | hk13
      · refine lv_tableIn (off := 65) (tgt := 104) C.x C.b d_LW_law_39 (by decide) (by decide) rfl (by decide) ?_
        exact seg_key hst C hN hX hbl hbA hL31 hg ht hc9 hs9 J u hu H locs ls hP hD hS hl
      · refine lv_tableIn (off := 113) (tgt := 152) C.x C.b d_LW_law_39 (by decide) (by decide) rfl (by decide) ?_
        exact seg_turn hst C hN hX hbl hbA hL31 hg ht hc9 hs9 J u hu H locs ls hP hD hS hl
      · refine lv_tableIn (off := 149) (tgt := 188) C.x C.b d_LW_law_39 (by decide) (by decide) rfl (by decide) ?_
        exact seg_put hst C hN hX hbl hbA hL31 hg ht hc9 hs9 J u hu H locs ls hP hD hS hl
      · refine lv_tableIn (off := 217) (tgt := 256) C.x C.b d_LW_law_39 (by decide) (by decide) rfl (by decide) ?_
        exact seg_send hst C hN hX hbl hbA hL31 hg ht hc9 hs9 J u hu H locs ls hP hD hS hl
      · refine lv_tableIn (off := 273) (tgt := 312) C.x C.b d_LW_law_39 (by decide) (by decide) rfl (by decide) ?_
        exact seg_forge hst C hN hX hbl hbA hL31 hg ht hc9 hs9 J u hu H locs ls hP hD hS hl
      · refine lv_tableIn (off := 341) (tgt := 380) C.x C.b d_LW_law_39 (by decide) (by decide) rfl (by decide) ?_
        exact seg_onTheWay hst C hN hX hbl hbA hL31 hg ht hc9 hs9 J u hu H locs ls hP hD hS hl
      · refine lv_tableIn (off := 354) (tgt := 393) C.x C.b d_LW_law_39 (by decide) (by decide) rfl (by decide) ?_
        exact seg_octet hst C hN hX hbl hbA hL31 hg ht hc9 hs9 J u hu H locs ls hP hD hS hl
      · refine lv_tableIn (off := 410) (tgt := 449) C.x C.b d_LW_law_39 (by decide) (by decide) rfl (by decide) ?_
        exact seg_alter hst C hN hX hbl hbA hL31 hg ht hc9 hs9 J u hu H locs ls hP hD hS hl
      · refine lv_tableIn (off := 458) (tgt := 497) C.x C.b d_LW_law_39 (by decide) (by decide) rfl (by decide) ?_
        exact seg_link hst C hN hX hbl hbA hL31 hg ht hc9 hs9 J u hu H locs ls hP hD hS hl
      · refine lv_tableIn (off := 514) (tgt := 553) C.x C.b d_LW_law_39 (by decide) (by decide) rfl (by decide) ?_
        exact seg_take hst C hN hX hbl hbA hL31 hg ht hc9 hs9 J u hu H locs ls hP hD hS hl
      · refine lv_tableIn (off := 527) (tgt := 566) C.x C.b d_LW_law_39 (by decide) (by decide) rfl (by decide) ?_
        exact seg_got hst C hN hX hbl hbA hL31 hg ht hc9 hs9 J u hu H locs ls hP hD hS hl
      · refine lv_tableIn (off := 583) (tgt := 622) C.x C.b d_LW_law_39 (by decide) (by decide) rfl (by decide) ?_
        exact seg_number hst C hN hX hbl hbA hL31 hg ht hc9 hs9 J u hu H locs ls hP hD hS hl
      · refine lv_tableIn (off := 639) (tgt := 678) C.x C.b d_LW_law_39 (by decide) (by decide) rfl (by decide) ?_
        exact seg_begin hst C hN hX hbl hbA hL31 hg ht hc9 hs9 J u hu H locs ls hP hD hS hl
      · refine lv_tableOut (tgt := 689) C.x C.b d_LW_law_39 (Or.inr (by rw [nI_toInt (by omega)]; omega)) (by decide) ?_
        exact W.widen (k := 52 + t + 1) (n := 21594 + 6 * t + 6) (by omega) (by omega) (J u hu H locs ls hP hD hS hl)
