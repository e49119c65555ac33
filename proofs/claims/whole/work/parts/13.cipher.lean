/-- byte i of a word, 0 the highest -/
def byt (w : Int32) (i : Nat) : Int32 := ush w (24 - 8 * i) &&& nI 255
def bi (x : Int32) : Nat := x.toBitVec.toNat % 256
theorem bi_lt (x : Int32) : bi x < 256 := Nat.mod_lt _ (by decide)
theorem and_bi (x : Int32) : x &&& nI 255 = nI (bi x) := pk_and x 8 (by decide)
theorem bi_and (x : Int32) : bi (x &&& nI 255) = bi x := by
  rw [and_bi]; unfold bi
  rw [pk_tn (Nat.lt_of_lt_of_le (Nat.mod_lt _ (by decide)) (by decide)), Nat.mod_mod]
theorem byt_bi (w : Int32) (i : Nat) : byt w i = nI (bi (byt w i)) := by
  unfold byt; rw [bi_and, ← and_bi]
/-- twice, in the field -/
def xt (b : Int32) : Int32 := if b &&& nI 128 = 0 then b <<< (nI 1 &&& 31) else (b <<< (nI 1 &&& 31)) ^^^ nI 283
def subw (w : Int32) : Int32 := (((((((nI 0 <<< (nI 8 &&& 31)) ||| sbx (bi (byt w 0))) <<< (nI 8 &&& 31)) ||| sbx (bi (byt w 1))) <<< (nI 8 &&& 31)) ||| sbx (bi (byt w 2))) <<< (nI 8 &&& 31)) ||| sbx (bi (byt w 3))
def rotw (x : Int32) : Int32 := (x <<< (nI 8 &&& 31)) ||| ush x 24
def kstep (st : (Nat → Int32) × Int32) (i : Nat) : (Nat → Int32) × Int32 :=
  if i % 4 = 0 then (upd st.1 i (st.1 (i - 4) ^^^ (subw (rotw (st.1 (i - 1))) ^^^ (st.2 <<< (nI 24 &&& 31)))), xt st.2) else (upd st.1 i (st.1 (i - 4) ^^^ st.1 (i - 1)), st.2)
def kexp (k : Nat → Int32) : Nat → (Nat → Int32) × Int32
  | 0 => (k, nI 1)
  | n + 1 => kstep (kexp k n) (n + 4)
/-- the 44 words of a key -/
def ksch (k : Nat → Int32) (j : Nat) : Int32 := (kexp k 40).1 j
theorem kexp_old {k : Nat → Int32} {n j : Nat} (h : j < n + 4) : (kexp k (n + 1)).1 j = (kexp k n).1 j := by
  show (kstep (kexp k n) (n + 4)).1 j = _
  unfold kstep
  split
  · exact pk_un (by omega)
  · exact pk_un (by omega)
theorem kexp_new {k g : Nat → Int32} {n : Nat} {v p : Int32} (hg : ∀ j, j < n + 4 → g j = (kexp k n).1 j) (hv : (v, p) = ((kstep (g, (kexp k n).2) (n + 4)).1 (n + 4), (kstep (g, (kexp k n).2) (n + 4)).2)) : (∀ j, j < n + 1 + 4 → upd g (n + 4) v j = (kexp k (n + 1)).1 j) ∧ p = (kexp k (n + 1)).2 := by
  have e1 : v = (kstep (g, (kexp k n).2) (n + 4)).1 (n + 4) := congrArg Prod.fst hv
  have e2 : p = (kstep (g, (kexp k n).2) (n + 4)).2 := congrArg Prod.snd hv
  have h3 := hg (n + 4 - 1) (by omega)
  have h4 := hg (n + 4 - 4) (by omega)
  constructor
  · intro j hj
    by_cases e : j = n + 4
    · rw [e, pk_us, e1]
      show _ = (kstep (kexp k n) (n + 4)).1 (n + 4)
      unfold kstep
      split
      · simp only [pk_us, h3, h4]
      · simp only [pk_us, h3, h4]
    · rw [pk_un e, kexp_old (by omega)]; exact hg j (by omega)
  · rw [e2]
    show _ = (kstep (kexp k n) (n + 4)).2
    unfold kstep
    split <;> rfl
/-! one block -/
def ctb (k : Nat → Int32) (j : Nat) : Int32 := byt (k (4 + j / 4)) (j % 4)
def ark (w : Nat → Int32) (r : Nat) (b : Nat → Int32) (j : Nat) : Int32 := b j ^^^ byt (w (4 * r + j / 4)) (j % 4)
def ssh (b : Nat → Int32) (j : Nat) : Int32 := sbx (bi (b (4 * ((j / 4 + j % 4) % 4) + j % 4)))
def mxc (b : Nat → Int32) (j : Nat) : Int32 := (b j ^^^ (((b (4 * (j / 4)) ^^^ b (4 * (j / 4) + 1)) ^^^ b (4 * (j / 4) + 2)) ^^^ b (4 * (j / 4) + 3))) ^^^ xt (b j ^^^ b (4 * (j / 4) + (j % 4 + 1) % 4))
def rnd (w b : Nat → Int32) : Nat → (Nat → Int32)
  | 0 => ark w 0 b
  | r + 1 => ark w (r + 1) (if r + 1 < 10 then mxc (ssh (rnd w b r)) else ssh (rnd w b r))
def aes (w k : Nat → Int32) (j : Nat) : Int32 := rnd w (ctb k) 10 j
theorem ark_cg {w w' b b' : Nat → Int32} {r : Nat} (hr : r ≤ 10) (hw : ∀ j, j < 44 → w j = w' j) (hb : ∀ j, j < 16 → b j = b' j) : ∀ j, j < 16 → ark w r b j = ark w' r b' j := by
  intro j hj; unfold ark; rw [hb j hj, hw _ (by omega)]
theorem ssh_cg {b b' : Nat → Int32} (hb : ∀ j, j < 16 → b j = b' j) : ∀ j, j < 16 → ssh b j = ssh b' j := by
  intro j hj; unfold ssh; rw [hb _ (by omega)]
theorem mxc_cg {b b' : Nat → Int32} (hb : ∀ j, j < 16 → b j = b' j) : ∀ j, j < 16 → mxc b j = mxc b' j := by
  intro j hj; unfold mxc; rw [hb j hj, hb _ (by omega), hb (4 * (j / 4) + 1) (by omega), hb (4 * (j / 4) + 2) (by omega), hb (4 * (j / 4) + 3) (by omega), hb (4 * (j / 4) + (j % 4 + 1) % 4) (by omega)]
theorem rnd_cg {w w' b b' : Nat → Int32} (hw : ∀ j, j < 44 → w j = w' j) (hb : ∀ j, j < 16 → b j = b' j) : ∀ r, r ≤ 10 → ∀ j, j < 16 → rnd w b r j = rnd w' b' r j := by
  intro r
  induction r with
  | zero => intro _; exact ark_cg (by omega) hw hb
  | succ r ih =>
    intro hr
    have h1 := ih (by omega)
    show ∀ j, j < 16 → ark w (r + 1) _ j = ark w' (r + 1) _ j
    refine ark_cg hr hw ?_
    split
    · exact mxc_cg (ssh_cg h1)
    · exact ssh_cg h1
theorem mw_CC_byteOf : Msw y_CC_byteOf b_CC_byteOf 2 (some .int) 2 := ⟨m_266, m_6, m_265, by decide +kernel⟩
set_option maxHeartbeats 4000000 in
set_option maxRecDepth 100000 in
theorem c_CC_byteOf (l : Launch) (d : DD) (w : Int32) (i : Nat) (hi : i < 4) : Ct l y_CC_byteOf b_CC_byteOf 2 (some .int) 0 0 0 0 d [] [.int w, .int (nI i)] (fun (_ : Unit) => some (.int (byt w i))) (fun (_ : Unit) => True) (fun (_ : Unit) => []) := by
  refine Ct.of (by decide +kernel) (Nat.le_of_ble_eq_true rfl) ?_
  intro p e s m below meth c A ls C hP hD hS hl
  have hl : lv_has ls 2 [(0, .int w), (1, .int (nI i))] := hl
  have hsz9 := hS.1
  refine lv_iload_n C.x C.b d_CC_byteOf_0 rfl (lv_at hl 0 rfl) ?_
  refine lv_bipush (v := nI 24) C.x C.b d_CC_byteOf_1 (by decide) ?_
  refine lv_bipush (v := nI 8) C.x C.b d_CC_byteOf_3 (by decide) ?_
  refine lv_iload_n C.x C.b d_CC_byteOf_5 rfl (lv_at hl 1 rfl) ?_
  refine lv_imul C.x C.b d_CC_byteOf_6 ?_
  refine k_top (y := nI (8 * i)) (pk_mul _ _) ?_
  refine lv_isub C.x C.b d_CC_byteOf_7 ?_
  refine k_top (y := nI (24 - (8 * i))) (pk_sub (by omega)) ?_
  refine lv_iushr (v := (w.toUInt32 >>> ((nI (24 - (8 * i))).toUInt32 &&& Int32.toUInt32 31)).toInt32) C.x C.b d_CC_byteOf_8 rfl ?_
  refine lv_sipush (v := nI 255) C.x C.b d_CC_byteOf_9 (by decide) ?_
  refine lv_iand C.x C.b d_CC_byteOf_12 ?_
  have hP9 := hP.sub (ws' := []) [] rfl
  have hD9 := hD.sub (ws' := []) [] (by decide) rfl
  exact k_iret C hS () (rfl) (trivial) hP9 hD9 d_CC_byteOf_13
theorem mw_CC_twice : Msw y_CC_twice b_CC_twice 1 (some .int) 1 := ⟨m_269, m_6, m_268, by decide +kernel⟩
set_option maxHeartbeats 4000000 in
set_option maxRecDepth 100000 in
theorem c_CC_twice (l : Launch) (d : DD) (b : Int32) : Ct l y_CC_twice b_CC_twice 1 (some .int) 0 0 0 0 d [] [.int b] (fun (_ : Unit) => some (.int (xt b))) (fun (_ : Unit) => True) (fun (_ : Unit) => []) := by
  refine Ct.of (by decide +kernel) (Nat.le_of_ble_eq_true rfl) ?_
  intro p e s m below meth c A ls C hP hD hS hl
  have hl : lv_has ls 1 [(0, .int b)] := hl
  have hsz9 := hS.1
  refine lv_iload_n C.x C.b d_CC_twice_0 rfl (lv_at hl 0 rfl) ?_
  refine lv_sipush (v := nI 128) C.x C.b d_CC_twice_1 (by decide) ?_
  refine lv_iand C.x C.b d_CC_twice_4 ?_
  refine lv_if_ne (tgt := 14) C.x C.b d_CC_twice_5 (by decide) (fun h5 => ?_) (fun h5 => ?_)
  · refine lv_iload_n C.x C.b d_CC_twice_14 rfl (lv_at hl 0 rfl) ?_
    refine lv_iconst (v := nI 1) C.x C.b d_CC_twice_15 (by decide) ?_
    refine lv_ishl C.x C.b d_CC_twice_16 ?_
    refine lv_sipush (v := nI 283) C.x C.b d_CC_twice_17 (by decide) ?_
    refine lv_ixor C.x C.b d_CC_twice_20 ?_
    have hP9 := hP.sub (ws' := []) [] rfl
    have hD9 := hD.sub (ws' := []) [] (by decide) rfl
    exact k_iret C hS () (by show some (Value.int (xt b)) = _; unfold xt; first | rw [if_pos h5] | rw [if_neg h5]) (trivial) hP9 hD9 d_CC_twice_21
  · refine lv_iload_n C.x C.b d_CC_twice_8 rfl (lv_at hl 0 rfl) ?_
    refine lv_iconst (v := nI 1) C.x C.b d_CC_twice_9 (by decide) ?_
    refine lv_ishl C.x C.b d_CC_twice_10 ?_
    refine lv_goto (tgt := 21) C.x C.b d_CC_twice_11 (by decide) ?_
    have hP9 := hP.sub (ws' := []) [] rfl
    have hD9 := hD.sub (ws' := []) [] (by decide) rfl
    exact k_iret C hS () (by show some (Value.int (xt b)) = _; unfold xt; first | rw [if_pos h5] | rw [if_neg h5]) (trivial) hP9 hD9 d_CC_twice_21
theorem mw_CC_substituteWord : Msw y_CC_substituteWord b_CC_substituteWord 3 (some .int) 1 := ⟨m_261, m_6, m_260, by decide +kernel⟩
set_option maxHeartbeats 4000000 in
set_option maxRecDepth 100000 in
theorem c_CC_substituteWord (l : Launch) (d : DD) (w : Int32) : Ct l y_CC_substituteWord b_CC_substituteWord 3 (some .int) 1 21 0 0 d [] [.int w] (fun (_ : Unit) => some (.int (subw w))) (fun (_ : Unit) => True) (fun (_ : Unit) => []) := by
  refine Ct.of (by decide +kernel) (Nat.le_of_ble_eq_true rfl) ?_
  intro p e s m below meth c A ls C hP hD hS hl
  have hl : lv_has ls 3 [(0, .int w)] := hl
  have hsz9 := hS.1
  obtain ⟨tS, hSZ, hST⟩ := C.en.2.2.2.2.2.2.2.1
  have hSN := C.en.2.2.2.1.1
  refine lv_iconst (v := nI 0) C.x C.b d_CC_substituteWord_0 (by decide) ?_
  refine lv_istore_n (lv' := [(1, .int (nI 0)), (0, .int w)]) C.x C.b d_CC_substituteWord_1 rfl hl (by decide) rfl (fun ls hl => ?_)
  refine lv_iconst (v := nI 0) C.x C.b d_CC_substituteWord_2 (by decide) ?_
  refine lv_istore_n (lv' := [(2, .int (nI 0)), (1, .int (nI 0)), (0, .int w)]) C.x C.b d_CC_substituteWord_3 rfl hl (by decide) rfl (fun ls hl => ?_)
  refine lv_iload_n C.x C.b d_CC_substituteWord_4 rfl (lv_at hl 0 rfl) ?_
  refine lv_iconst (v := nI 4) C.x C.b d_CC_substituteWord_5 (by decide) ?_
  refine lv_icmp_ge (tgt := 30) C.x C.b d_CC_substituteWord_6 (by decide) (fun h9 => by first | exact absurd h9 (by decide) | exact absurd (by decide) h9) (fun _ => ?_)
  refine lv_iload_n C.x C.b d_CC_substituteWord_9 rfl (lv_at hl 1 rfl) ?_
  refine lv_bipush (v := nI 8) C.x C.b d_CC_substituteWord_10 (by decide) ?_
  refine lv_ishl C.x C.b d_CC_substituteWord_12 ?_
  refine va_getsN C.x C.b hSZ hS C.o (va_Nw.use rfl hSN) (fun _ h => h) d_CC_substituteWord_13 ?_
  refine lv_iload_n C.x C.b d_CC_substituteWord_16 rfl (lv_at hl 2 rfl) ?_
  refine lv_iload_n C.x C.b d_CC_substituteWord_17 rfl (lv_at hl 0 rfl) ?_
  refine k_callS (As := [.int w, .int (nI 0)]) (rest := [.ref tS, .int ((nI 0) <<< ((nI 8) &&& 31))]) (wc := []) (wr := []) C (c_CC_byteOf l d w 0 (by omega)) mw_CC_byteOf m_264 hP hD hS [] [] rfl rfl (by decide) (by decide) (by decide) rfl hl.1 (Nat.le_of_ble_eq_true rfl) d_CC_substituteWord_18 ⟨Nat.le_of_ble_eq_true rfl, Nat.le_of_ble_eq_true rfl⟩ ⟨by decide, by decide⟩ (fun _ H locs hw_1 hP hD hS => ?_)
  have hP : va_P d.1 clz [] H := hP
  have hD : va_D A [] := hD
  refine W.eq (g2 := F0 m 21 ls [.int (byt w 0), .ref tS, .int ((nI 0) <<< ((nI 8) &&& 31))]) rfl ?_
  refine k_top (y := nI (bi ((byt w 0)))) (byt_bi _ _) ?_
  refine k_ti (j := (bi ((byt w 0)))) hST hS (bi_lt _) (by decide) C d_CC_substituteWord_21 ?_
  refine lv_ior C.x C.b d_CC_substituteWord_22 ?_
  refine lv_istore_n (lv' := [(1, .int (((nI 0) <<< ((nI 8) &&& 31)) ||| (sbx (bi ((byt w 0)))))), (2, .int (nI 0)), (0, .int w)]) C.x C.b d_CC_substituteWord_23 rfl hl (by decide) rfl (fun ls hl => ?_)
  refine lv_iinc (v := nI 1) (lv' := [(2, .int (nI 1)), (1, .int (((nI 0) <<< ((nI 8) &&& 31)) ||| (sbx (bi ((byt w 0)))))), (0, .int w)]) C.x C.b d_CC_substituteWord_24 hl (k := 1) rfl (by decide) (by decide) rfl (fun ls hl => ?_)
  refine lv_goto (tgt := 4) C.x C.b d_CC_substituteWord_27 (by decide) ?_
  refine lv_iload_n C.x C.b d_CC_substituteWord_4 rfl (lv_at hl 0 rfl) ?_
  refine lv_iconst (v := nI 4) C.x C.b d_CC_substituteWord_5 (by decide) ?_
  refine lv_icmp_ge (tgt := 30) C.x C.b d_CC_substituteWord_6 (by decide) (fun h9 => by first | exact absurd h9 (by decide) | exact absurd (by decide) h9) (fun _ => ?_)
  refine lv_iload_n C.x C.b d_CC_substituteWord_9 rfl (lv_at hl 1 rfl) ?_
  refine lv_bipush (v := nI 8) C.x C.b d_CC_substituteWord_10 (by decide) ?_
  refine lv_ishl C.x C.b d_CC_substituteWord_12 ?_
  refine va_getsN C.x C.b hSZ hS C.o (va_Nw.use rfl hSN) (fun _ h => h) d_CC_substituteWord_13 ?_
  refine lv_iload_n C.x C.b d_CC_substituteWord_16 rfl (lv_at hl 2 rfl) ?_
  refine lv_iload_n C.x C.b d_CC_substituteWord_17 rfl (lv_at hl 0 rfl) ?_
  refine k_callS (As := [.int w, .int (nI 1)]) (rest := [.ref tS, .int ((((nI 0) <<< ((nI 8) &&& 31)) ||| (sbx (bi ((byt w 0))))) <<< ((nI 8) &&& 31))]) (wc := []) (wr := []) C (c_CC_byteOf l d w 1 (by omega)) mw_CC_byteOf m_264 hP hD hS [] [] rfl rfl (by decide) (by decide) (by decide) rfl hl.1 (Nat.le_of_ble_eq_true rfl) d_CC_substituteWord_18 ⟨Nat.le_of_ble_eq_true rfl, Nat.le_of_ble_eq_true rfl⟩ ⟨by decide, by decide⟩ (fun _ H locs hw_2 hP hD hS => ?_)
  have hP : va_P d.1 clz [] H := hP
  have hD : va_D A [] := hD
  refine W.eq (g2 := F0 m 21 ls [.int (byt w 1), .ref tS, .int ((((nI 0) <<< ((nI 8) &&& 31)) ||| (sbx (bi ((byt w 0))))) <<< ((nI 8) &&& 31))]) rfl ?_
  refine k_top (y := nI (bi ((byt w 1)))) (byt_bi _ _) ?_
  refine k_ti (j := (bi ((byt w 1)))) hST hS (bi_lt _) (by decide) C d_CC_substituteWord_21 ?_
  refine lv_ior C.x C.b d_CC_substituteWord_22 ?_
  refine lv_istore_n (lv' := [(1, .int (((((nI 0) <<< ((nI 8) &&& 31)) ||| (sbx (bi ((byt w 0))))) <<< ((nI 8) &&& 31)) ||| (sbx (bi ((byt w 1)))))), (2, .int (nI 1)), (0, .int w)]) C.x C.b d_CC_substituteWord_23 rfl hl (by decide) rfl (fun ls hl => ?_)
  refine lv_iinc (v := nI 2) (lv' := [(2, .int (nI 2)), (1, .int (((((nI 0) <<< ((nI 8) &&& 31)) ||| (sbx (bi ((byt w 0))))) <<< ((nI 8) &&& 31)) ||| (sbx (bi ((byt w 1)))))), (0, .int w)]) C.x C.b d_CC_substituteWord_24 hl (k := 1) rfl (by decide) (by decide) rfl (fun ls hl => ?_)
  refine lv_goto (tgt := 4) C.x C.b d_CC_substituteWord_27 (by decide) ?_
  refine lv_iload_n C.x C.b d_CC_substituteWord_4 rfl (lv_at hl 0 rfl) ?_
  refine lv_iconst (v := nI 4) C.x C.b d_CC_substituteWord_5 (by decide) ?_
  refine lv_icmp_ge (tgt := 30) C.x C.b d_CC_substituteWord_6 (by decide) (fun h9 => by first | exact absurd h9 (by decide) | exact absurd (by decide) h9) (fun _ => ?_)
  refine lv_iload_n C.x C.b d_CC_substituteWord_9 rfl (lv_at hl 1 rfl) ?_
  refine lv_bipush (v := nI 8) C.x C.b d_CC_substituteWord_10 (by decide) ?_
  refine lv_ishl C.x C.b d_CC_substituteWord_12 ?_
  refine va_getsN C.x C.b hSZ hS C.o (va_Nw.use rfl hSN) (fun _ h => h) d_CC_substituteWord_13 ?_
  refine lv_iload_n C.x C.b d_CC_substituteWord_16 rfl (lv_at hl 2 rfl) ?_
  refine lv_iload_n C.x C.b d_CC_substituteWord_17 rfl (lv_at hl 0 rfl) ?_
  refine k_callS (As := [.int w, .int (nI 2)]) (rest := [.ref tS, .int ((((((nI 0) <<< ((nI 8) &&& 31)) ||| (sbx (bi ((byt w 0))))) <<< ((nI 8) &&& 31)) ||| (sbx (bi ((byt w 1))))) <<< ((nI 8) &&& 31))]) (wc := []) (wr := []) C (c_CC_byteOf l d w 2 (by omega)) mw_CC_byteOf m_264 hP hD hS [] [] rfl rfl (by decide) (by decide) (by decide) rfl hl.1 (Nat.le_of_ble_eq_true rfl) d_CC_substituteWord_18 ⟨Nat.le_of_ble_eq_true rfl, Nat.le_of_ble_eq_true rfl⟩ ⟨by decide, by decide⟩ (fun _ H locs hw_3 hP hD hS => ?_)
  have hP : va_P d.1 clz [] H := hP
  have hD : va_D A [] := hD
  refine W.eq (g2 := F0 m 21 ls [.int (byt w 2), .ref tS, .int ((((((nI 0) <<< ((nI 8) &&& 31)) ||| (sbx (bi ((byt w 0))))) <<< ((nI 8) &&& 31)) ||| (sbx (bi ((byt w 1))))) <<< ((nI 8) &&& 31))]) rfl ?_
  refine k_top (y := nI (bi ((byt w 2)))) (byt_bi _ _) ?_
  refine k_ti (j := (bi ((byt w 2)))) hST hS (bi_lt _) (by decide) C d_CC_substituteWord_21 ?_
  refine lv_ior C.x C.b d_CC_substituteWord_22 ?_
  refine lv_istore_n (lv' := [(1, .int (((((((nI 0) <<< ((nI 8) &&& 31)) ||| (sbx (bi ((byt w 0))))) <<< ((nI 8) &&& 31)) ||| (sbx (bi ((byt w 1))))) <<< ((nI 8) &&& 31)) ||| (sbx (bi ((byt w 2)))))), (2, .int (nI 2)), (0, .int w)]) C.x C.b d_CC_substituteWord_23 rfl hl (by decide) rfl (fun ls hl => ?_)
  refine lv_iinc (v := nI 3) (lv' := [(2, .int (nI 3)), (1, .int (((((((nI 0) <<< ((nI 8) &&& 31)) ||| (sbx (bi ((byt w 0))))) <<< ((nI 8) &&& 31)) ||| (sbx (bi ((byt w 1))))) <<< ((nI 8) &&& 31)) ||| (sbx (bi ((byt w 2)))))), (0, .int w)]) C.x C.b d_CC_substituteWord_24 hl (k := 1) rfl (by decide) (by decide) rfl (fun ls hl => ?_)
  refine lv_goto (tgt := 4) C.x C.b d_CC_substituteWord_27 (by decide) ?_
  refine lv_iload_n C.x C.b d_CC_substituteWord_4 rfl (lv_at hl 0 rfl) ?_
  refine lv_iconst (v := nI 4) C.x C.b d_CC_substituteWord_5 (by decide) ?_
  refine lv_icmp_ge (tgt := 30) C.x C.b d_CC_substituteWord_6 (by decide) (fun h9 => by first | exact absurd h9 (by decide) | exact absurd (by decide) h9) (fun _ => ?_)
  refine lv_iload_n C.x C.b d_CC_substituteWord_9 rfl (lv_at hl 1 rfl) ?_
  refine lv_bipush (v := nI 8) C.x C.b d_CC_substituteWord_10 (by decide) ?_
  refine lv_ishl C.x C.b d_CC_substituteWord_12 ?_
  refine va_getsN C.x C.b hSZ hS C.o (va_Nw.use rfl hSN) (fun _ h => h) d_CC_substituteWord_13 ?_
  refine lv_iload_n C.x C.b d_CC_substituteWord_16 rfl (lv_at hl 2 rfl) ?_
  refine lv_iload_n C.x C.b d_CC_substituteWord_17 rfl (lv_at hl 0 rfl) ?_
  refine k_callS (As := [.int w, .int (nI 3)]) (rest := [.ref tS, .int ((((((((nI 0) <<< ((nI 8) &&& 31)) ||| (sbx (bi ((byt w 0))))) <<< ((nI 8) &&& 31)) ||| (sbx (bi ((byt w 1))))) <<< ((nI 8) &&& 31)) ||| (sbx (bi ((byt w 2))))) <<< ((nI 8) &&& 31))]) (wc := []) (wr := []) C (c_CC_byteOf l d w 3 (by omega)) mw_CC_byteOf m_264 hP hD hS [] [] rfl rfl (by decide) (by decide) (by decide) rfl hl.1 (Nat.le_of_ble_eq_true rfl) d_CC_substituteWord_18 ⟨Nat.le_of_ble_eq_true rfl, Nat.le_of_ble_eq_true rfl⟩ ⟨by decide, by decide⟩ (fun _ H locs hw_4 hP hD hS => ?_)
  have hP : va_P d.1 clz [] H := hP
  have hD : va_D A [] := hD
  refine W.eq (g2 := F0 m 21 ls [.int (byt w 3), .ref tS, .int ((((((((nI 0) <<< ((nI 8) &&& 31)) ||| (sbx (bi ((byt w 0))))) <<< ((nI 8) &&& 31)) ||| (sbx (bi ((byt w 1))))) <<< ((nI 8) &&& 31)) ||| (sbx (bi ((byt w 2))))) <<< ((nI 8) &&& 31))]) rfl ?_
  refine k_top (y := nI (bi ((byt w 3)))) (byt_bi _ _) ?_
  refine k_ti (j := (bi ((byt w 3)))) hST hS (bi_lt _) (by decide) C d_CC_substituteWord_21 ?_
  refine lv_ior C.x C.b d_CC_substituteWord_22 ?_
  refine lv_istore_n (lv' := [(1, .int (((((((((nI 0) <<< ((nI 8) &&& 31)) ||| (sbx (bi ((byt w 0))))) <<< ((nI 8) &&& 31)) ||| (sbx (bi ((byt w 1))))) <<< ((nI 8) &&& 31)) ||| (sbx (bi ((byt w 2))))) <<< ((nI 8) &&& 31)) ||| (sbx (bi ((byt w 3)))))), (2, .int (nI 3)), (0, .int w)]) C.x C.b d_CC_substituteWord_23 rfl hl (by decide) rfl (fun ls hl => ?_)
  refine lv_iinc (v := nI 4) (lv' := [(2, .int (nI 4)), (1, .int (((((((((nI 0) <<< ((nI 8) &&& 31)) ||| (sbx (bi ((byt w 0))))) <<< ((nI 8) &&& 31)) ||| (sbx (bi ((byt w 1))))) <<< ((nI 8) &&& 31)) ||| (sbx (bi ((byt w 2))))) <<< ((nI 8) &&& 31)) ||| (sbx (bi ((byt w 3)))))), (0, .int w)]) C.x C.b d_CC_substituteWord_24 hl (k := 1) rfl (by decide) (by decide) rfl (fun ls hl => ?_)
  refine lv_goto (tgt := 4) C.x C.b d_CC_substituteWord_27 (by decide) ?_
  refine lv_iload_n C.x C.b d_CC_substituteWord_4 rfl (lv_at hl 0 rfl) ?_
  refine lv_iconst (v := nI 4) C.x C.b d_CC_substituteWord_5 (by decide) ?_
  refine lv_icmp_ge (tgt := 30) C.x C.b d_CC_substituteWord_6 (by decide) (fun _ => ?_) (fun h9 => by first | exact absurd h9 (by decide) | exact absurd (by decide) h9)
  refine lv_iload_n C.x C.b d_CC_substituteWord_30 rfl (lv_at hl 1 rfl) ?_
  have hP9 := hP.sub (ws' := []) [] rfl
  have hD9 := hD.sub (ws' := []) [] (by decide) rfl
  exact k_iret C hS () (rfl) (trivial) hP9 hD9 d_CC_substituteWord_31
theorem mw_CC_blockByte : Mw y_CC_blockByte b_CC_blockByte 2 (some .int) 1 := ⟨m_304, m_6, m_302, by decide +kernel⟩
set_option maxHeartbeats 4000000 in
set_option maxRecDepth 100000 in
theorem c_CC_blockByte (l : Launch) (d : DD) (h : Nat) (aw : Nat) (ab : Nat) (am : Nat) (fb : Nat → Int32) (i : Nat) (hi : i < 16) : Ct l y_CC_blockByte b_CC_blockByte 2 (some .int) 0 0 0 0 d [(h, ob 3 [.ref aw, .ref ab, .ref am]), (ab, aI d 16 fb)] [.ref h, .int (nI i)] (fun (_ : Unit) => some (.int (fb i))) (fun (_ : Unit) => True) (fun (_ : Unit) => [(h, ob 3 [.ref aw, .ref ab, .ref am]), (ab, aI d 16 fb)]) := by
  refine Ct.of (by decide +kernel) (Nat.le_of_ble_eq_true rfl) ?_
  intro p e s m below meth c A ls C hP hD hS hl
  have hl : lv_has ls 2 [(0, .ref h), (1, .int (nI i))] := hl
  have hsz9 := hS.1
  refine lv_aload_n C.x C.b d_CC_blockByte_0 rfl (lv_at hl 0 rfl) ?_
  refine k_get C hP 0 rfl rfl i_CC 1 (by decide) m_77 rfl d_CC_blockByte_1 ?_
  refine lv_iload_n C.x C.b d_CC_blockByte_4 rfl (lv_at hl 1 rfl) ?_
  refine lv_bipush (v := nI 15) C.x C.b d_CC_blockByte_5 (by decide) ?_
  refine lv_iand C.x C.b d_CC_blockByte_7 ?_
  refine k_top (y := nI i) (by have := pk_andN (n := i) (by omega) (m := nI 15) 4 (by decide); rw [this, Nat.mod_eq_of_lt (by omega)]) ?_
  refine k_iald C hP 1 rfl (j := i) (by omega) (by omega) d_CC_blockByte_8 ?_
  have hP9 := hP.sub (ws' := [(h, ob 3 [.ref aw, .ref ab, .ref am]), (ab, aI d 16 fb)]) [0, 1] rfl
  have hD9 := hD.sub (ws' := [(h, ob 3 [.ref aw, .ref ab, .ref am]), (ab, aI d 16 fb)]) [0, 1] (by decide) rfl
  exact k_iret C hS () (rfl) (trivial) hP9 hD9 d_CC_blockByte_9
theorem mw_CC_spreadKey : Mw y_CC_spreadKey b_CC_spreadKey 5 none 1 := ⟨m_184, m_6, m_183, by decide +kernel⟩
set_option maxHeartbeats 4000000 in
set_option maxRecDepth 100000 in
theorem c_CC_spreadKey (l : Launch) (d : DD) (h : Nat) (aw : Nat) (ab : Nat) (am : Nat) (fw : Nat → Int32) (kh : Nat) (ka : Nat) (k : Nat → Int32) : Ct l y_CC_spreadKey b_CC_spreadKey 5 none 2 43 0 0 d [(h, ob 3 [.ref aw, .ref ab, .ref am]), (aw, aI d 44 fw), (kh, ob 5 [.ref ka]), (ka, aI d 16 k)] [.ref h, .ref kh] (fun (f2 : Nat → Int32) => none) (fun (f2 : Nat → Int32) => ∀ j, j < 44 → f2 j = ksch k j) (fun (f2 : Nat → Int32) => [(h, ob 3 [.ref aw, .ref ab, .ref am]), (aw, aI d 44 f2), (kh, ob 5 [.ref ka]), (ka, aI d 16 k)]) := by
  refine Ct.of (by decide +kernel) (Nat.le_of_ble_eq_true rfl) ?_
  intro p e s m below meth c A ls C hP hD hS hl
  have hl : lv_has ls 5 [(0, .ref h), (1, .ref kh)] := hl
  have hsz9 := hS.1
  have hk0 : ∀ j, j < 4 → upd (upd (upd (upd fw 0 (k 0)) 1 (k 1)) 2 (k 2)) 3 (k 3) j = k j := by intro j hj; rcases (show j = 0 ∨ j = 1 ∨ j = 2 ∨ j = 3 by omega) with rfl | rfl | rfl | rfl <;> rfl
  refine lv_iconst (v := nI 0) C.x C.b d_CC_spreadKey_0 (by decide) ?_
  refine lv_istore_n (lv' := [(2, .int (nI 0)), (0, .ref h), (1, .ref kh)]) C.x C.b d_CC_spreadKey_1 rfl hl (by decide) rfl (fun ls hl => ?_)
  refine lv_iload_n C.x C.b d_CC_spreadKey_2 rfl (lv_at hl 0 rfl) ?_
  refine lv_iconst (v := nI 4) C.x C.b d_CC_spreadKey_3 (by decide) ?_
  refine lv_icmp_ge (tgt := 24) C.x C.b d_CC_spreadKey_4 (by decide) (fun h9 => by first | exact absurd h9 (by decide) | exact absurd (by decide) h9) (fun _ => ?_)
  refine lv_aload_n C.x C.b d_CC_spreadKey_7 rfl (lv_at hl 1 rfl) ?_
  refine k_get C hP 0 rfl rfl i_CC 0 (by decide) m_76 rfl d_CC_spreadKey_8 ?_
  refine lv_iload_n C.x C.b d_CC_spreadKey_11 rfl (lv_at hl 0 rfl) ?_
  refine lv_aload_n C.x C.b d_CC_spreadKey_12 rfl (lv_at hl 2 rfl) ?_
  refine lv_iload_n C.x C.b d_CC_spreadKey_13 rfl (lv_at hl 0 rfl) ?_
  refine k_callV (As := [.int (nI 0)]) (rest := [.int (nI 0), .ref aw]) (wc := [(kh, ob 5 [.ref ka]), (ka, aI d 16 k)]) (wr := [(h, ob 3 [.ref aw, .ref ab, .ref am]), (aw, aI d 44 fw)]) C (c_KY_word l d kh ka k 0 (by omega)) mw_KY_word m_187 m_185 hP hD hS [2, 3] [0, 1] rfl rfl (by decide) (by decide) (by decide) 2 rfl rfl rfl rfl hl.1 (Nat.le_of_ble_eq_true rfl) d_CC_spreadKey_14 ⟨Nat.le_of_ble_eq_true rfl, Nat.le_of_ble_eq_true rfl⟩ ⟨by decide, by decide⟩ (fun _ H locs hw_1 hP hD hS => ?_)
  have hP : va_P d.1 clz [(h, ob 3 [.ref aw, .ref ab, .ref am]), (aw, aI d 44 fw), (kh, ob 5 [.ref ka]), (ka, aI d 16 k)] H := hP
  have hD : va_D A [(h, ob 3 [.ref aw, .ref ab, .ref am]), (aw, aI d 44 fw), (kh, ob 5 [.ref ka]), (ka, aI d 16 k)] := hD
  refine W.eq (g2 := F0 m 17 ls [.int (k 0), .int (nI 0), .ref aw]) rfl ?_
  refine k_iast C hP hD hS 1 rfl (j := 0) (by omega) (by omega) d_CC_spreadKey_17 (fun H locs hP hD hS => ?_)
  have hP : va_P d.1 clz [(h, ob 3 [.ref aw, .ref ab, .ref am]), (aw, aI d 44 (upd fw 0 (k 0))), (kh, ob 5 [.ref ka]), (ka, aI d 16 k)] H := hP
  have hD : va_D A [(h, ob 3 [.ref aw, .ref ab, .ref am]), (aw, aI d 44 (upd fw 0 (k 0))), (kh, ob 5 [.ref ka]), (ka, aI d 16 k)] := hD
  refine lv_iinc (v := nI 1) (lv' := [(2, .int (nI 1)), (0, .ref h), (1, .ref kh)]) C.x C.b d_CC_spreadKey_18 hl (k := 0) rfl (by decide) (by decide) rfl (fun ls hl => ?_)
  refine lv_goto (tgt := 2) C.x C.b d_CC_spreadKey_21 (by decide) ?_
  refine lv_iload_n C.x C.b d_CC_spreadKey_2 rfl (lv_at hl 0 rfl) ?_
  refine lv_iconst (v := nI 4) C.x C.b d_CC_spreadKey_3 (by decide) ?_
  refine lv_icmp_ge (tgt := 24) C.x C.b d_CC_spreadKey_4 (by decide) (fun h9 => by first | exact absurd h9 (by decide) | exact absurd (by decide) h9) (fun _ => ?_)
  refine lv_aload_n C.x C.b d_CC_spreadKey_7 rfl (lv_at hl 1 rfl) ?_
  refine k_get C hP 0 rfl rfl i_CC 0 (by decide) m_76 rfl d_CC_spreadKey_8 ?_
  refine lv_iload_n C.x C.b d_CC_spreadKey_11 rfl (lv_at hl 0 rfl) ?_
  refine lv_aload_n C.x C.b d_CC_spreadKey_12 rfl (lv_at hl 2 rfl) ?_
  refine lv_iload_n C.x C.b d_CC_spreadKey_13 rfl (lv_at hl 0 rfl) ?_
  refine k_callV (As := [.int (nI 1)]) (rest := [.int (nI 1), .ref aw]) (wc := [(kh, ob 5 [.ref ka]), (ka, aI d 16 k)]) (wr := [(h, ob 3 [.ref aw, .ref ab, .ref am]), (aw, aI d 44 (upd fw 0 (k 0)))]) C (c_KY_word l d kh ka k 1 (by omega)) mw_KY_word m_187 m_185 hP hD hS [2, 3] [0, 1] rfl rfl (by decide) (by decide) (by decide) 2 rfl rfl rfl rfl hl.1 (Nat.le_of_ble_eq_true rfl) d_CC_spreadKey_14 ⟨Nat.le_of_ble_eq_true rfl, Nat.le_of_ble_eq_true rfl⟩ ⟨by decide, by decide⟩ (fun _ H locs hw_2 hP hD hS => ?_)
  have hP : va_P d.1 clz [(h, ob 3 [.ref aw, .ref ab, .ref am]), (aw, aI d 44 (upd fw 0 (k 0))), (kh, ob 5 [.ref ka]), (ka, aI d 16 k)] H := hP
  have hD : va_D A [(h, ob 3 [.ref aw, .ref ab, .ref am]), (aw, aI d 44 (upd fw 0 (k 0))), (kh, ob 5 [.ref ka]), (ka, aI d 16 k)] := hD
  refine W.eq (g2 := F0 m 17 ls [.int (k 1), .int (nI 1), .ref aw]) rfl ?_
  refine k_iast C hP hD hS 1 rfl (j := 1) (by omega) (by omega) d_CC_spreadKey_17 (fun H locs hP hD hS => ?_)
  have hP : va_P d.1 clz [(h, ob 3 [.ref aw, .ref ab, .ref am]), (aw, aI d 44 (upd (upd fw 0 (k 0)) 1 (k 1))), (kh, ob 5 [.ref ka]), (ka, aI d 16 k)] H := hP
  have hD : va_D A [(h, ob 3 [.ref aw, .ref ab, .ref am]), (aw, aI d 44 (upd (upd fw 0 (k 0)) 1 (k 1))), (kh, ob 5 [.ref ka]), (ka, aI d 16 k)] := hD
  refine lv_iinc (v := nI 2) (lv' := [(2, .int (nI 2)), (0, .ref h), (1, .ref kh)]) C.x C.b d_CC_spreadKey_18 hl (k := 0) rfl (by decide) (by decide) rfl (fun ls hl => ?_)
  refine lv_goto (tgt := 2) C.x C.b d_CC_spreadKey_21 (by decide) ?_
  refine lv_iload_n C.x C.b d_CC_spreadKey_2 rfl (lv_at hl 0 rfl) ?_
  refine lv_iconst (v := nI 4) C.x C.b d_CC_spreadKey_3 (by decide) ?_
  refine lv_icmp_ge (tgt := 24) C.x C.b d_CC_spreadKey_4 (by decide) (fun h9 => by first | exact absurd h9 (by decide) | exact absurd (by decide) h9) (fun _ => ?_)
  refine lv_aload_n C.x C.b d_CC_spreadKey_7 rfl (lv_at hl 1 rfl) ?_
  refine k_get C hP 0 rfl rfl i_CC 0 (by decide) m_76 rfl d_CC_spreadKey_8 ?_
  refine lv_iload_n C.x C.b d_CC_spreadKey_11 rfl (lv_at hl 0 rfl) ?_
  refine lv_aload_n C.x C.b d_CC_spreadKey_12 rfl (lv_at hl 2 rfl) ?_
  refine lv_iload_n C.x C.b d_CC_spreadKey_13 rfl (lv_at hl 0 rfl) ?_
  refine k_callV (As := [.int (nI 2)]) (rest := [.int (nI 2), .ref aw]) (wc := [(kh, ob 5 [.ref ka]), (ka, aI d 16 k)]) (wr := [(h, ob 3 [.ref aw, .ref ab, .ref am]), (aw, aI d 44 (upd (upd fw 0 (k 0)) 1 (k 1)))]) C (c_KY_word l d kh ka k 2 (by omega)) mw_KY_word m_187 m_185 hP hD hS [2, 3] [0, 1] rfl rfl (by decide) (by decide) (by decide) 2 rfl rfl rfl rfl hl.1 (Nat.le_of_ble_eq_true rfl) d_CC_spreadKey_14 ⟨Nat.le_of_ble_eq_true rfl, Nat.le_of_ble_eq_true rfl⟩ ⟨by decide, by decide⟩ (fun _ H locs hw_3 hP hD hS => ?_)
  have hP : va_P d.1 clz [(h, ob 3 [.ref aw, .ref ab, .ref am]), (aw, aI d 44 (upd (upd fw 0 (k 0)) 1 (k 1))), (kh, ob 5 [.ref ka]), (ka, aI d 16 k)] H := hP
  have hD : va_D A [(h, ob 3 [.ref aw, .ref ab, .ref am]), (aw, aI d 44 (upd (upd fw 0 (k 0)) 1 (k 1))), (kh, ob 5 [.ref ka]), (ka, aI d 16 k)] := hD
  refine W.eq (g2 := F0 m 17 ls [.int (k 2), .int (nI 2), .ref aw]) rfl ?_
  refine k_iast C hP hD hS 1 rfl (j := 2) (by omega) (by omega) d_CC_spreadKey_17 (fun H locs hP hD hS => ?_)
  have hP : va_P d.1 clz [(h, ob 3 [.ref aw, .ref ab, .ref am]), (aw, aI d 44 (upd (upd (upd fw 0 (k 0)) 1 (k 1)) 2 (k 2))), (kh, ob 5 [.ref ka]), (ka, aI d 16 k)] H := hP
  have hD : va_D A [(h, ob 3 [.ref aw, .ref ab, .ref am]), (aw, aI d 44 (upd (upd (upd fw 0 (k 0)) 1 (k 1)) 2 (k 2))), (kh, ob 5 [.ref ka]), (ka, aI d 16 k)] := hD
  refine lv_iinc (v := nI 3) (lv' := [(2, .int (nI 3)), (0, .ref h), (1, .ref kh)]) C.x C.b d_CC_spreadKey_18 hl (k := 0) rfl (by decide) (by decide) rfl (fun ls hl => ?_)
  refine lv_goto (tgt := 2) C.x C.b d_CC_spreadKey_21 (by decide) ?_
  refine lv_iload_n C.x C.b d_CC_spreadKey_2 rfl (lv_at hl 0 rfl) ?_
  refine lv_iconst (v := nI 4) C.x C.b d_CC_spreadKey_3 (by decide) ?_
  refine lv_icmp_ge (tgt := 24) C.x C.b d_CC_spreadKey_4 (by decide) (fun h9 => by first | exact absurd h9 (by decide) | exact absurd (by decide) h9) (fun _ => ?_)
  refine lv_aload_n C.x C.b d_CC_spreadKey_7 rfl (lv_at hl 1 rfl) ?_
  refine k_get C hP 0 rfl rfl i_CC 0 (by decide) m_76 rfl d_CC_spreadKey_8 ?_
  refine lv_iload_n C.x C.b d_CC_spreadKey_11 rfl (lv_at hl 0 rfl) ?_
  refine lv_aload_n C.x C.b d_CC_spreadKey_12 rfl (lv_at hl 2 rfl) ?_
  refine lv_iload_n C.x C.b d_CC_spreadKey_13 rfl (lv_at hl 0 rfl) ?_
  refine k_callV (As := [.int (nI 3)]) (rest := [.int (nI 3), .ref aw]) (wc := [(kh, ob 5 [.ref ka]), (ka, aI d 16 k)]) (wr := [(h, ob 3 [.ref aw, .ref ab, .ref am]), (aw, aI d 44 (upd (upd (upd fw 0 (k 0)) 1 (k 1)) 2 (k 2)))]) C (c_KY_word l d kh ka k 3 (by omega)) mw_KY_word m_187 m_185 hP hD hS [2, 3] [0, 1] rfl rfl (by decide) (by decide) (by decide) 2 rfl rfl rfl rfl hl.1 (Nat.le_of_ble_eq_true rfl) d_CC_spreadKey_14 ⟨Nat.le_of_ble_eq_true rfl, Nat.le_of_ble_eq_true rfl⟩ ⟨by decide, by decide⟩ (fun _ H locs hw_4 hP hD hS => ?_)
  have hP : va_P d.1 clz [(h, ob 3 [.ref aw, .ref ab, .ref am]), (aw, aI d 44 (upd (upd (upd fw 0 (k 0)) 1 (k 1)) 2 (k 2))), (kh, ob 5 [.ref ka]), (ka, aI d 16 k)] H := hP
  have hD : va_D A [(h, ob 3 [.ref aw, .ref ab, .ref am]), (aw, aI d 44 (upd (upd (upd fw 0 (k 0)) 1 (k 1)) 2 (k 2))), (kh, ob 5 [.ref ka]), (ka, aI d 16 k)] := hD
  refine W.eq (g2 := F0 m 17 ls [.int (k 3), .int (nI 3), .ref aw]) rfl ?_
  refine k_iast C hP hD hS 1 rfl (j := 3) (by omega) (by omega) d_CC_spreadKey_17 (fun H locs hP hD hS => ?_)
  have hP : va_P d.1 clz [(h, ob 3 [.ref aw, .ref ab, .ref am]), (aw, aI d 44 (upd (upd (upd (upd fw 0 (k 0)) 1 (k 1)) 2 (k 2)) 3 (k 3))), (kh, ob 5 [.ref ka]), (ka, aI d 16 k)] H := hP
  have hD : va_D A [(h, ob 3 [.ref aw, .ref ab, .ref am]), (aw, aI d 44 (upd (upd (upd (upd fw 0 (k 0)) 1 (k 1)) 2 (k 2)) 3 (k 3))), (kh, ob 5 [.ref ka]), (ka, aI d 16 k)] := hD
  refine lv_iinc (v := nI 4) (lv' := [(2, .int (nI 4)), (0, .ref h), (1, .ref kh)]) C.x C.b d_CC_spreadKey_18 hl (k := 0) rfl (by decide) (by decide) rfl (fun ls hl => ?_)
  refine lv_goto (tgt := 2) C.x C.b d_CC_spreadKey_21 (by decide) ?_
  refine lv_iload_n C.x C.b d_CC_spreadKey_2 rfl (lv_at hl 0 rfl) ?_
  refine lv_iconst (v := nI 4) C.x C.b d_CC_spreadKey_3 (by decide) ?_
  refine lv_icmp_ge (tgt := 24) C.x C.b d_CC_spreadKey_4 (by decide) (fun _ => ?_) (fun h9 => by first | exact absurd h9 (by decide) | exact absurd (by decide) h9)
  refine lv_iconst (v := nI 1) C.x C.b d_CC_spreadKey_24 (by decide) ?_
  refine lv_istore_n (lv' := [(2, .int (nI 1)), (0, .ref h), (1, .ref kh)]) C.x C.b d_CC_spreadKey_25 rfl hl (by decide) rfl (fun ls hl => ?_)
  refine lv_iconst (v := nI 4) C.x C.b d_CC_spreadKey_26 (by decide) ?_
  refine lv_istore_n (lv' := [(3, .int (nI 4)), (2, .int (nI 1)), (0, .ref h), (1, .ref kh)]) C.x C.b d_CC_spreadKey_27 rfl hl (by decide) rfl (fun ls hl => ?_)
  have L28 : ∀ (fuel : Nat) (n : Nat) (g : Nat → Int32) (pw : Int32), 40 - n < fuel → (n ≤ 40) → (∀ j, j < n + 4 → g j = (kexp k n).1 j) → (pw = (kexp k n).2) → ∀ (H : Heap) (locs : List Loc) (ls : Array Slot), va_P d.1 clz [(h, ob 3 [.ref aw, .ref ab, .ref am]), (aw, aI d 44 g), (kh, ob 5 [.ref ka]), (ka, aI d 16 k)] H → va_D A [(h, ob 3 [.ref aw, .ref ab, .ref am]), (aw, aI d 44 g), (kh, ob 5 [.ref ka]), (ka, aI d 16 k)] → va_S A s.heap H locs → lv_has ls 5 [(0, .ref h), (1, .ref kh), (2, .int pw), (3, .int (nI (n + 4)))] → W p l e (Rm 2 43 0 0) s m ([.ref h, .ref kh] : List Value).toArray below meth c H locs 0 0 (MQ below (Cout d A (fun (f2 : Nat → Int32) => none) (fun (f2 : Nat → Int32) => ∀ j, j < 44 → f2 j = ksch k j) (fun (f2 : Nat → Int32) => [(h, ob 3 [.ref aw, .ref ab, .ref am]), (aw, aI d 44 f2), (kh, ob 5 [.ref ka]), (ka, aI d 16 k)])) ([.ref h, .ref kh] : List Value).toArray s 0 0 A) (F0 m 28 ls []) := by
    intro fuel
    induction fuel with
    | zero => intro n g pw h9; exact absurd h9 (Nat.not_lt_zero _)
    | succ fuel ih28 =>
      intro n g pw hfu28 hn hg hpw H locs ls hP hD hS hl
      refine lv_iload_n C.x C.b d_CC_spreadKey_28 rfl (lv_at hl 3 rfl) ?_
      refine lv_bipush (v := nI 44) C.x C.b d_CC_spreadKey_29 (by decide) ?_
      refine lv_icmp_ge (tgt := 99) C.x C.b d_CC_spreadKey_31 (by decide) (fun hc31 => ?_) (fun hc31 => ?_)
      · rw [nI_leI (by omega) (by omega)] at hc31
        have hP9 := hP.sub (ws' := [(h, ob 3 [.ref aw, .ref ab, .ref am]), (aw, aI d 44 g), (kh, ob 5 [.ref ka]), (ka, aI d 16 k)]) [0, 1, 2, 3] rfl
        have hD9 := hD.sub (ws' := [(h, ob 3 [.ref aw, .ref ab, .ref am]), (aw, aI d 44 g), (kh, ob 5 [.ref ka]), (ka, aI d 16 k)]) [0, 1, 2, 3] (by decide) rfl
        exact k_vret C hS g (rfl) (by intro j hj; rw [hg j (by omega), show n = 40 from by omega]; rfl) hP9 hD9 d_CC_spreadKey_99
      · rw [nI_leI (by omega) (by omega)] at hc31
        refine lv_aload_n C.x C.b d_CC_spreadKey_34 rfl (lv_at hl 0 rfl) ?_
        refine k_get C hP 0 rfl rfl i_CC 0 (by decide) m_76 rfl d_CC_spreadKey_35 ?_
        refine lv_iload_n C.x C.b d_CC_spreadKey_38 rfl (lv_at hl 3 rfl) ?_
        refine lv_iconst (v := nI 1) C.x C.b d_CC_spreadKey_39 (by decide) ?_
        refine lv_isub C.x C.b d_CC_spreadKey_40 ?_
        refine k_top (y := nI ((n + 4) - 1)) (pk_sub (by omega)) ?_
        refine k_iald C hP 1 rfl (j := ((n + 4) - 1)) (by omega) (by omega) d_CC_spreadKey_41 ?_
        refine lv_istore (lv' := [(4, .int (g ((n + 4) - 1))), (0, .ref h), (1, .ref kh), (2, .int pw), (3, .int (nI (n + 4)))]) C.x C.b d_CC_spreadKey_42 hl (by decide) rfl (fun ls hl => ?_)
        refine lv_iload_n C.x C.b d_CC_spreadKey_44 rfl (lv_at hl 4 rfl) ?_
        refine lv_iconst (v := nI 4) C.x C.b d_CC_spreadKey_45 (by decide) ?_
        refine lv_irem C.x C.b d_CC_spreadKey_46 (by decide) ?_
        refine k_top (y := nI ((n + 4) % 4)) (pk_rem (by omega) (by omega) (by omega)) ?_
        refine lv_if_ne (tgt := 76) C.x C.b d_CC_spreadKey_47 (by decide) (fun hc47 => ?_) (fun hc47 => ?_)
        · rw [← nI_0, nI_eq (by omega) (by omega)] at hc47
          refine lv_aload_n C.x C.b d_CC_spreadKey_76 rfl (lv_at hl 1 rfl) ?_
          refine k_get C hP 0 rfl rfl i_CC 0 (by decide) m_76 rfl d_CC_spreadKey_77 ?_
          refine lv_iload_n C.x C.b d_CC_spreadKey_80 rfl (lv_at hl 4 rfl) ?_
          refine lv_aload_n C.x C.b d_CC_spreadKey_81 rfl (lv_at hl 1 rfl) ?_
          refine k_get C hP 0 rfl rfl i_CC 0 (by decide) m_76 rfl d_CC_spreadKey_82 ?_
          refine lv_iload_n C.x C.b d_CC_spreadKey_85 rfl (lv_at hl 4 rfl) ?_
          refine lv_iconst (v := nI 4) C.x C.b d_CC_spreadKey_86 (by decide) ?_
          refine lv_isub C.x C.b d_CC_spreadKey_87 ?_
          refine k_top (y := nI ((n + 4) - 4)) (pk_sub (by omega)) ?_
          refine k_iald C hP 1 rfl (j := ((n + 4) - 4)) (by omega) (by omega) d_CC_spreadKey_88 ?_
          refine lv_iload C.x C.b d_CC_spreadKey_89 (lv_at hl 0 rfl) ?_
          refine lv_ixor C.x C.b d_CC_spreadKey_91 ?_
          refine k_iast C hP hD hS 1 rfl (j := (n + 4)) (by omega) (by omega) d_CC_spreadKey_92 (fun H locs hP hD hS => ?_)
          have hP : va_P d.1 clz [(h, ob 3 [.ref aw, .ref ab, .ref am]), (aw, aI d 44 (upd g (n + 4) ((g ((n + 4) - 4)) ^^^ (g ((n + 4) - 1))))), (kh, ob 5 [.ref ka]), (ka, aI d 16 k)] H := hP
          have hD : va_D A [(h, ob 3 [.ref aw, .ref ab, .ref am]), (aw, aI d 44 (upd g (n + 4) ((g ((n + 4) - 4)) ^^^ (g ((n + 4) - 1))))), (kh, ob 5 [.ref ka]), (ka, aI d 16 k)] := hD
          have hkk := kexp_new (k := k) (g := g) (n := n) (v := ((g ((n + 4) - 4)) ^^^ (g ((n + 4) - 1)))) (p := pw) hg (by rw [← hpw]; unfold kstep; simp only [hc47, if_true, if_false, pk_us])
          refine lv_iinc (v := nI (n + 4 + 1)) (lv' := [(3, .int (nI (n + 4 + 1))), (4, .int (g ((n + 4) - 1))), (0, .ref h), (1, .ref kh), (2, .int pw)]) C.x C.b d_CC_spreadKey_93 hl (k := 4) rfl (k_inc _ 1) (by decide) rfl (fun ls hl => ?_)
          refine lv_goto (tgt := 28) C.x C.b d_CC_spreadKey_96 (by decide) ?_
          exact ih28 (n + 1) (upd g (n + 4) ((g ((n + 4) - 4)) ^^^ (g ((n + 4) - 1)))) pw (by omega) (by omega) (hkk.1) (hkk.2) _ _ _ (hP.sub [0, 1, 2, 3] (rfl)) (hD.sub [0, 1, 2, 3] (by decide) (rfl)) hS (lv_sub hl [2, 3, 4, 0] (by rw [Nat.add_right_comm]; rfl))
        · rw [← nI_0, nI_eq (by omega) (by omega)] at hc47
          refine lv_iload C.x C.b d_CC_spreadKey_50 (lv_at hl 0 rfl) ?_
          refine lv_bipush (v := nI 8) C.x C.b d_CC_spreadKey_52 (by decide) ?_
          refine lv_ishl C.x C.b d_CC_spreadKey_54 ?_
          refine lv_iload C.x C.b d_CC_spreadKey_55 (lv_at hl 0 rfl) ?_
          refine lv_bipush (v := nI 24) C.x C.b d_CC_spreadKey_57 (by decide) ?_
          refine lv_iushr (v := ((g ((n + 4) - 1)).toUInt32 >>> ((nI 24).toUInt32 &&& Int32.toUInt32 31)).toInt32) C.x C.b d_CC_spreadKey_59 rfl ?_
          refine lv_ior C.x C.b d_CC_spreadKey_60 ?_
          refine k_top (y := rotw (g (n + 4 - 1))) (rfl) ?_
          refine k_callS (As := [.int (rotw (g (n + 4 - 1)))]) (rest := []) (wc := []) (wr := [(h, ob 3 [.ref aw, .ref ab, .ref am]), (aw, aI d 44 g), (kh, ob 5 [.ref ka]), (ka, aI d 16 k)]) C (c_CC_substituteWord l d (rotw (g (n + 4 - 1)))) mw_CC_substituteWord m_259 hP hD hS [] [0, 1, 2, 3] rfl rfl (by decide) (by decide) (by decide) rfl hl.1 (Nat.le_of_ble_eq_true rfl) d_CC_spreadKey_61 ⟨Nat.le_of_ble_eq_true rfl, Nat.le_of_ble_eq_true rfl⟩ ⟨by decide, by decide⟩ (fun _ H locs hw_7 hP hD hS => ?_)
          have hP : va_P d.1 clz [(h, ob 3 [.ref aw, .ref ab, .ref am]), (aw, aI d 44 g), (kh, ob 5 [.ref ka]), (ka, aI d 16 k)] H := hP
          have hD : va_D A [(h, ob 3 [.ref aw, .ref ab, .ref am]), (aw, aI d 44 g), (kh, ob 5 [.ref ka]), (ka, aI d 16 k)] := hD
          refine W.eq (g2 := F0 m 64 ls [.int (subw (rotw (g (n + 4 - 1))))]) rfl ?_
          refine lv_iload_n C.x C.b d_CC_spreadKey_64 rfl (lv_at hl 3 rfl) ?_
          refine lv_bipush (v := nI 24) C.x C.b d_CC_spreadKey_65 (by decide) ?_
          refine lv_ishl C.x C.b d_CC_spreadKey_67 ?_
          refine lv_ixor C.x C.b d_CC_spreadKey_68 ?_
          refine lv_istore (lv' := [(4, .int ((subw (rotw (g (n + 4 - 1)))) ^^^ (pw <<< ((nI 24) &&& 31)))), (0, .ref h), (1, .ref kh), (2, .int pw), (3, .int (nI (n + 4)))]) C.x C.b d_CC_spreadKey_69 hl (by decide) rfl (fun ls hl => ?_)
          refine lv_iload_n C.x C.b d_CC_spreadKey_71 rfl (lv_at hl 3 rfl) ?_
          refine k_callS (As := [.int pw]) (rest := []) (wc := []) (wr := [(h, ob 3 [.ref aw, .ref ab, .ref am]), (aw, aI d 44 g), (kh, ob 5 [.ref ka]), (ka, aI d 16 k)]) C (c_CC_twice l d pw) mw_CC_twice m_267 hP hD hS [] [0, 1, 2, 3] rfl rfl (by decide) (by decide) (by decide) rfl hl.1 (Nat.le_of_ble_eq_true rfl) d_CC_spreadKey_72 ⟨Nat.le_of_ble_eq_true rfl, Nat.le_of_ble_eq_true rfl⟩ ⟨by decide, by decide⟩ (fun _ H locs hw_8 hP hD hS => ?_)
          have hP : va_P d.1 clz [(h, ob 3 [.ref aw, .ref ab, .ref am]), (aw, aI d 44 g), (kh, ob 5 [.ref ka]), (ka, aI d 16 k)] H := hP
          have hD : va_D A [(h, ob 3 [.ref aw, .ref ab, .ref am]), (aw, aI d 44 g), (kh, ob 5 [.ref ka]), (ka, aI d 16 k)] := hD
          refine W.eq (g2 := F0 m 75 ls [.int (xt pw)]) rfl ?_
          refine lv_istore_n (lv' := [(2, .int (xt pw)), (4, .int ((subw (rotw (g (n + 4 - 1)))) ^^^ (pw <<< ((nI 24) &&& 31)))), (0, .ref h), (1, .ref kh), (3, .int (nI (n + 4)))]) C.x C.b d_CC_spreadKey_75 rfl hl (by decide) rfl (fun ls hl => ?_)
          refine lv_aload_n C.x C.b d_CC_spreadKey_76 rfl (lv_at hl 2 rfl) ?_
          refine k_get C hP 0 rfl rfl i_CC 0 (by decide) m_76 rfl d_CC_spreadKey_77 ?_
          refine lv_iload_n C.x C.b d_CC_spreadKey_80 rfl (lv_at hl 4 rfl) ?_
          refine lv_aload_n C.x C.b d_CC_spreadKey_81 rfl (lv_at hl 2 rfl) ?_
          refine k_get C hP 0 rfl rfl i_CC 0 (by decide) m_76 rfl d_CC_spreadKey_82 ?_
          refine lv_iload_n C.x C.b d_CC_spreadKey_85 rfl (lv_at hl 4 rfl) ?_
          refine lv_iconst (v := nI 4) C.x C.b d_CC_spreadKey_86 (by decide) ?_
          refine lv_isub C.x C.b d_CC_spreadKey_87 ?_
          refine k_top (y := nI ((n + 4) - 4)) (pk_sub (by omega)) ?_
          refine k_iald C hP 1 rfl (j := ((n + 4) - 4)) (by omega) (by omega) d_CC_spreadKey_88 ?_
          refine lv_iload C.x C.b d_CC_spreadKey_89 (lv_at hl 1 rfl) ?_
          refine lv_ixor C.x C.b d_CC_spreadKey_91 ?_
          refine k_iast C hP hD hS 1 rfl (j := (n + 4)) (by omega) (by omega) d_CC_spreadKey_92 (fun H locs hP hD hS => ?_)
          have hP : va_P d.1 clz [(h, ob 3 [.ref aw, .ref ab, .ref am]), (aw, aI d 44 (upd g (n + 4) ((g ((n + 4) - 4)) ^^^ ((subw (rotw (g (n + 4 - 1)))) ^^^ (pw <<< ((nI 24) &&& 31)))))), (kh, ob 5 [.ref ka]), (ka, aI d 16 k)] H := hP
          have hD : va_D A [(h, ob 3 [.ref aw, .ref ab, .ref am]), (aw, aI d 44 (upd g (n + 4) ((g ((n + 4) - 4)) ^^^ ((subw (rotw (g (n + 4 - 1)))) ^^^ (pw <<< ((nI 24) &&& 31)))))), (kh, ob 5 [.ref ka]), (ka, aI d 16 k)] := hD
          have hkk := kexp_new (k := k) (g := g) (n := n) (v := ((g ((n + 4) - 4)) ^^^ ((subw (rotw (g (n + 4 - 1)))) ^^^ (pw <<< ((nI 24) &&& 31))))) (p := (xt pw)) hg (by rw [← hpw]; unfold kstep; simp only [hc47, if_true, if_false, pk_us])
          refine lv_iinc (v := nI (n + 4 + 1)) (lv' := [(3, .int (nI (n + 4 + 1))), (2, .int (xt pw)), (4, .int ((subw (rotw (g (n + 4 - 1)))) ^^^ (pw <<< ((nI 24) &&& 31)))), (0, .ref h), (1, .ref kh)]) C.x C.b d_CC_spreadKey_93 hl (k := 4) rfl (k_inc _ 1) (by decide) rfl (fun ls hl => ?_)
          refine lv_goto (tgt := 28) C.x C.b d_CC_spreadKey_96 (by decide) ?_
          exact ih28 (n + 1) (upd g (n + 4) ((g ((n + 4) - 4)) ^^^ ((subw (rotw (g (n + 4 - 1)))) ^^^ (pw <<< ((nI 24) &&& 31))))) (xt pw) (by omega) (by omega) (hkk.1) (hkk.2) _ _ _ (hP.sub [0, 1, 2, 3] (rfl)) (hD.sub [0, 1, 2, 3] (by decide) (rfl)) hS (lv_sub hl [3, 4, 1, 0] (by rw [Nat.add_right_comm]; rfl))
  exact L28 ((40 - 0) + 1) 0 (upd (upd (upd (upd fw 0 (k 0)) 1 (k 1)) 2 (k 2)) 3 (k 3)) (nI 1) (Nat.lt_succ_self _) (by omega) (by intro j hj; exact hk0 j (by omega)) (rfl) _ _ _ (hP.sub [0, 1, 2, 3] (rfl)) (hD.sub [0, 1, 2, 3] (by decide) (rfl)) hS (lv_sub hl [2, 3, 1, 0] (rfl))
theorem mw_CC_addRoundKey : Mw y_CC_addRoundKey b_CC_addRoundKey 3 none 1 := ⟨m_277, m_6, m_276, by decide +kernel⟩
set_option maxHeartbeats 4000000 in
set_option maxRecDepth 100000 in
theorem c_CC_addRoundKey (l : Launch) (d : DD) (h : Nat) (aw : Nat) (ab : Nat) (am : Nat) (fw : Nat → Int32) (fb : Nat → Int32) (r : Nat) (hr : r ≤ 10) : Ct l y_CC_addRoundKey b_CC_addRoundKey 3 none 1 21 0 0 d [(h, ob 3 [.ref aw, .ref ab, .ref am]), (aw, aI d 44 fw), (ab, aI d 16 fb)] [.ref h, .int (nI r)] (fun (f2 : Nat → Int32) => none) (fun (f2 : Nat → Int32) => ∀ j, j < 16 → f2 j = ark fw r fb j) (fun (f2 : Nat → Int32) => [(h, ob 3 [.ref aw, .ref ab, .ref am]), (aw, aI d 44 fw), (ab, aI d 16 f2)]) := by
  refine Ct.of (by decide +kernel) (Nat.le_of_ble_eq_true rfl) ?_
  intro p e s m below meth c A ls C hP hD hS hl
  have hl : lv_has ls 3 [(0, .ref h), (1, .int (nI r))] := hl
  have hsz9 := hS.1
  refine lv_iconst (v := nI 0) C.x C.b d_CC_addRoundKey_0 (by decide) ?_
  refine lv_istore_n (lv' := [(2, .int (nI 0)), (0, .ref h), (1, .int (nI r))]) C.x C.b d_CC_addRoundKey_1 rfl hl (by decide) rfl (fun ls hl => ?_)
  have L2 : ∀ (fuel : Nat) (j : Nat) (g : Nat → Int32), 16 - j < fuel → (j ≤ 16) → (∀ i, i < j → g i = ark fw r fb i) → (∀ i, j ≤ i → g i = fb i) → ∀ (H : Heap) (locs : List Loc) (ls : Array Slot), va_P d.1 clz [(h, ob 3 [.ref aw, .ref ab, .ref am]), (aw, aI d 44 fw), (ab, aI d 16 g)] H → va_D A [(h, ob 3 [.ref aw, .ref ab, .ref am]), (aw, aI d 44 fw), (ab, aI d 16 g)] → va_S A s.heap H locs → lv_has ls 3 [(0, .ref h), (1, .int (nI r)), (2, .int (nI j))] → W p l e (Rm 1 21 0 0) s m ([.ref h, .int (nI r)] : List Value).toArray below meth c H locs 0 0 (MQ below (Cout d A (fun (f2 : Nat → Int32) => none) (fun (f2 : Nat → Int32) => ∀ j, j < 16 → f2 j = ark fw r fb j) (fun (f2 : Nat → Int32) => [(h, ob 3 [.ref aw, .ref ab, .ref am]), (aw, aI d 44 fw), (ab, aI d 16 f2)])) ([.ref h, .int (nI r)] : List Value).toArray s 0 0 A) (F0 m 2 ls []) := by
    intro fuel
    induction fuel with
    | zero => intro j g h9; exact absurd h9 (Nat.not_lt_zero _)
    | succ fuel ih2 =>
      intro j g hfu2 hj hg1 hg2 H locs ls hP hD hS hl
      refine lv_iload_n C.x C.b d_CC_addRoundKey_2 rfl (lv_at hl 2 rfl) ?_
      refine lv_bipush (v := nI 16) C.x C.b d_CC_addRoundKey_3 (by decide) ?_
      refine lv_icmp_ge (tgt := 41) C.x C.b d_CC_addRoundKey_5 (by decide) (fun hc5 => ?_) (fun hc5 => ?_)
      · rw [nI_leI (by omega) (by omega)] at hc5
        have hP9 := hP.sub (ws' := [(h, ob 3 [.ref aw, .ref ab, .ref am]), (aw, aI d 44 fw), (ab, aI d 16 g)]) [0, 1, 2] rfl
        have hD9 := hD.sub (ws' := [(h, ob 3 [.ref aw, .ref ab, .ref am]), (aw, aI d 44 fw), (ab, aI d 16 g)]) [0, 1, 2] (by decide) rfl
        exact k_vret C hS g (rfl) (by rw [show j = 16 from by omega] at hg1; exact hg1) hP9 hD9 d_CC_addRoundKey_41
      · rw [nI_leI (by omega) (by omega)] at hc5
        refine lv_aload_n C.x C.b d_CC_addRoundKey_8 rfl (lv_at hl 0 rfl) ?_
        refine k_get C hP 0 rfl rfl i_CC 1 (by decide) m_77 rfl d_CC_addRoundKey_9 ?_
        refine lv_iload_n C.x C.b d_CC_addRoundKey_12 rfl (lv_at hl 2 rfl) ?_
        refine lv_dup2_11 C.x C.b d_CC_addRoundKey_13 rfl rfl ?_
        refine k_iald C hP 2 rfl (j := j) (by omega) (by omega) d_CC_addRoundKey_14 ?_
        refine lv_aload_n C.x C.b d_CC_addRoundKey_15 rfl (lv_at hl 0 rfl) ?_
        refine k_get C hP 0 rfl rfl i_CC 0 (by decide) m_76 rfl d_CC_addRoundKey_16 ?_
        refine lv_iconst (v := nI 4) C.x C.b d_CC_addRoundKey_19 (by decide) ?_
        refine lv_iload_n C.x C.b d_CC_addRoundKey_20 rfl (lv_at hl 1 rfl) ?_
        refine lv_imul C.x C.b d_CC_addRoundKey_21 ?_
        refine k_top (y := nI (4 * r)) (pk_mul _ _) ?_
        refine lv_iload_n C.x C.b d_CC_addRoundKey_22 rfl (lv_at hl 2 rfl) ?_
        refine lv_iconst (v := nI 4) C.x C.b d_CC_addRoundKey_23 (by decide) ?_
        refine lv_idiv C.x C.b d_CC_addRoundKey_24 (by decide) ?_
        refine k_top (y := nI (j / 4)) (pk_div (by omega) (by omega) (by omega)) ?_
        refine lv_iadd C.x C.b d_CC_addRoundKey_25 ?_
        refine k_top (y := nI (4 * r + (j / 4))) (nI_add _ _) ?_
        refine k_iald C hP 1 rfl (j := (4 * r + (j / 4))) (by omega) (by omega) d_CC_addRoundKey_26 ?_
        refine lv_iload_n C.x C.b d_CC_addRoundKey_27 rfl (lv_at hl 2 rfl) ?_
        refine lv_iconst (v := nI 4) C.x C.b d_CC_addRoundKey_28 (by decide) ?_
        refine lv_irem C.x C.b d_CC_addRoundKey_29 (by decide) ?_
        refine k_top (y := nI (j % 4)) (pk_rem (by omega) (by omega) (by omega)) ?_
        refine k_callS (As := [.int (fw (4 * r + (j / 4))), .int (nI (j % 4))]) (rest := [.int (g j), .int (nI j), .ref ab]) (wc := []) (wr := [(h, ob 3 [.ref aw, .ref ab, .ref am]), (aw, aI d 44 fw), (ab, aI d 16 g)]) C (c_CC_byteOf l d (fw (4 * r + j / 4)) (j % 4) (by omega)) mw_CC_byteOf m_264 hP hD hS [] [0, 1, 2] rfl rfl (by decide) (by decide) (by decide) rfl hl.1 (Nat.le_of_ble_eq_true rfl) d_CC_addRoundKey_30 ⟨Nat.le_of_ble_eq_true rfl, Nat.le_of_ble_eq_true rfl⟩ ⟨by decide, by decide⟩ (fun _ H locs hw_2 hP hD hS => ?_)
        have hP : va_P d.1 clz [(h, ob 3 [.ref aw, .ref ab, .ref am]), (aw, aI d 44 fw), (ab, aI d 16 g)] H := hP
        have hD : va_D A [(h, ob 3 [.ref aw, .ref ab, .ref am]), (aw, aI d 44 fw), (ab, aI d 16 g)] := hD
        refine W.eq (g2 := F0 m 33 ls [.int (byt (fw (4 * r + j / 4)) (j % 4)), .int (g j), .int (nI j), .ref ab]) rfl ?_
        refine lv_ixor C.x C.b d_CC_addRoundKey_33 ?_
        refine k_iast C hP hD hS 2 rfl (j := j) (by omega) (by omega) d_CC_addRoundKey_34 (fun H locs hP hD hS => ?_)
        have hP : va_P d.1 clz [(h, ob 3 [.ref aw, .ref ab, .ref am]), (aw, aI d 44 fw), (ab, aI d 16 (upd g j ((g j) ^^^ (byt (fw (4 * r + j / 4)) (j % 4)))))] H := hP
        have hD : va_D A [(h, ob 3 [.ref aw, .ref ab, .ref am]), (aw, aI d 44 fw), (ab, aI d 16 (upd g j ((g j) ^^^ (byt (fw (4 * r + j / 4)) (j % 4)))))] := hD
        refine lv_iinc (v := nI (j + 1)) (lv' := [(2, .int (nI (j + 1))), (0, .ref h), (1, .int (nI r))]) C.x C.b d_CC_addRoundKey_35 hl (k := 2) rfl (k_inc _ 1) (by decide) rfl (fun ls hl => ?_)
        refine lv_goto (tgt := 2) C.x C.b d_CC_addRoundKey_38 (by decide) ?_
        exact ih2 (j + 1) (upd g j ((g j) ^^^ (byt (fw (4 * r + j / 4)) (j % 4)))) (by omega) (by omega) (upd_le (g := g) hg1 (by rw [hg2 j (Nat.le_refl _)]; rfl)) (fun i hi => by rw [pk_un (by omega)]; exact hg2 i (by omega)) _ _ _ (hP.sub [0, 1, 2] (rfl)) (hD.sub [0, 1, 2] (by decide) (rfl)) hS (lv_sub hl [1, 2, 0] (rfl))
  exact L2 ((16 - 0) + 1) 0 fb (Nat.lt_succ_self _) (by omega) (fun i hi => absurd hi (Nat.not_lt_zero _)) (fun _ _ => rfl) _ _ _ (hP.sub [0, 1, 2] (rfl)) (hD.sub [0, 1, 2] (by decide) (rfl)) hS (lv_sub hl [1, 2, 0] (rfl))
theorem mw_CC_substituteAndShift : Mw y_CC_substituteAndShift b_CC_substituteAndShift 3 none 0 := ⟨m_281, m_6, m_280, by decide +kernel⟩
set_option maxHeartbeats 4000000 in
set_option maxRecDepth 100000 in
theorem c_CC_substituteAndShift (l : Launch) (d : DD) (h : Nat) (aw : Nat) (ab : Nat) (am : Nat) (fb : Nat → Int32) (fm : Nat → Int32) : Ct l y_CC_substituteAndShift b_CC_substituteAndShift 3 none 0 0 0 0 d [(h, ob 3 [.ref aw, .ref ab, .ref am]), (ab, aI d 16 fb), (am, aI d 16 fm)] [.ref h] (fun (u : (Nat → Int32) × (Nat → Int32)) => match u with | (f2, f3) => none) (fun (u : (Nat → Int32) × (Nat → Int32)) => match u with | (f2, f3) => ∀ j, j < 16 → f2 j = ssh fb j) (fun (u : (Nat → Int32) × (Nat → Int32)) => match u with | (f2, f3) => [(h, ob 3 [.ref aw, .ref ab, .ref am]), (ab, aI d 16 f2), (am, aI d 16 f3)]) := by
  refine Ct.of (by decide +kernel) (Nat.le_of_ble_eq_true rfl) ?_
  intro p e s m below meth c A ls C hP hD hS hl
  have hl : lv_has ls 3 [(0, .ref h)] := hl
  have hsz9 := hS.1
  obtain ⟨tS, hSZ, hST⟩ := C.en.2.2.2.2.2.2.2.1
  have hSN := C.en.2.2.2.1.1
  refine lv_iconst (v := nI 0) C.x C.b d_CC_substituteAndShift_0 (by decide) ?_
  refine lv_istore_n (lv' := [(1, .int (nI 0)), (0, .ref h)]) C.x C.b d_CC_substituteAndShift_1 rfl hl (by decide) rfl (fun ls hl => ?_)
  have L2 : ∀ (fuel : Nat) (c9 : Nat) (g : Nat → Int32), 4 - c9 < fuel → (c9 ≤ 4) → (∀ i, i < 4 * c9 → g i = ssh fb i) → ∀ (H : Heap) (locs : List Loc) (ls : Array Slot), va_P d.1 clz [(h, ob 3 [.ref aw, .ref ab, .ref am]), (ab, aI d 16 fb), (am, aI d 16 g)] H → va_D A [(h, ob 3 [.ref aw, .ref ab, .ref am]), (ab, aI d 16 fb), (am, aI d 16 g)] → va_S A s.heap H locs → lv_has ls 3 [(0, .ref h), (1, .int (nI c9))] → W p l e (Rm 0 0 0 0) s m ([.ref h] : List Value).toArray below meth c H locs 0 0 (MQ below (Cout d A (fun (u : (Nat → Int32) × (Nat → Int32)) => match u with | (f2, f3) => none) (fun (u : (Nat → Int32) × (Nat → Int32)) => match u with | (f2, f3) => ∀ j, j < 16 → f2 j = ssh fb j) (fun (u : (Nat → Int32) × (Nat → Int32)) => match u with | (f2, f3) => [(h, ob 3 [.ref aw, .ref ab, .ref am]), (ab, aI d 16 f2), (am, aI d 16 f3)])) ([.ref h] : List Value).toArray s 0 0 A) (F0 m 2 ls []) := by
    intro fuel
    induction fuel with
    | zero => intro c9 g h9; exact absurd h9 (Nat.not_lt_zero _)
    | succ fuel ih2 =>
      intro c9 g hfu2 hc9 hg H locs ls hP hD hS hl
      refine lv_iload_n C.x C.b d_CC_substituteAndShift_2 rfl (lv_at hl 1 rfl) ?_
      refine lv_iconst (v := nI 4) C.x C.b d_CC_substituteAndShift_3 (by decide) ?_
      refine lv_icmp_ge (tgt := 58) C.x C.b d_CC_substituteAndShift_4 (by decide) (fun hc4 => ?_) (fun hc4 => ?_)
      · rw [nI_leI (by omega) (by omega)] at hc4
        refine lv_iconst (v := nI 0) C.x C.b d_CC_substituteAndShift_58 (by decide) ?_
        refine lv_istore_n (lv' := [(1, .int (nI 0)), (0, .ref h)]) C.x C.b d_CC_substituteAndShift_59 rfl hl (by decide) rfl (fun ls hl => ?_)
        have L60 : ∀ (fuel : Nat) (j : Nat) (g2 : Nat → Int32), 16 - j < fuel → (j ≤ 16) → (∀ i, i < j → g2 i = ssh fb i) → ∀ (H : Heap) (locs : List Loc) (ls : Array Slot), va_P d.1 clz [(h, ob 3 [.ref aw, .ref ab, .ref am]), (ab, aI d 16 g2), (am, aI d 16 g)] H → va_D A [(h, ob 3 [.ref aw, .ref ab, .ref am]), (ab, aI d 16 g2), (am, aI d 16 g)] → va_S A s.heap H locs → lv_has ls 3 [(0, .ref h), (1, .int (nI j))] → W p l e (Rm 0 0 0 0) s m ([.ref h] : List Value).toArray below meth c H locs 0 0 (MQ below (Cout d A (fun (u : (Nat → Int32) × (Nat → Int32)) => match u with | (f2, f3) => none) (fun (u : (Nat → Int32) × (Nat → Int32)) => match u with | (f2, f3) => ∀ j, j < 16 → f2 j = ssh fb j) (fun (u : (Nat → Int32) × (Nat → Int32)) => match u with | (f2, f3) => [(h, ob 3 [.ref aw, .ref ab, .ref am]), (ab, aI d 16 f2), (am, aI d 16 f3)])) ([.ref h] : List Value).toArray s 0 0 A) (F0 m 60 ls []) := by
          intro fuel
          induction fuel with
          | zero => intro j g2 h9; exact absurd h9 (Nat.not_lt_zero _)
          | succ fuel ih60 =>
            intro j g2 hfu60 hj hg2 H locs ls hP hD hS hl
            refine lv_iload_n C.x C.b d_CC_substituteAndShift_60 rfl (lv_at hl 1 rfl) ?_
            refine lv_bipush (v := nI 16) C.x C.b d_CC_substituteAndShift_61 (by decide) ?_
            refine lv_icmp_ge (tgt := 84) C.x C.b d_CC_substituteAndShift_63 (by decide) (fun hc63 => ?_) (fun hc63 => ?_)
            · rw [nI_leI (by omega) (by omega)] at hc63
              have hP9 := hP.sub (ws' := [(h, ob 3 [.ref aw, .ref ab, .ref am]), (ab, aI d 16 g2), (am, aI d 16 g)]) [0, 1, 2] rfl
              have hD9 := hD.sub (ws' := [(h, ob 3 [.ref aw, .ref ab, .ref am]), (ab, aI d 16 g2), (am, aI d 16 g)]) [0, 1, 2] (by decide) rfl
              exact k_vret C hS (g2, g) (rfl) (by rw [show j = 16 from by omega] at hg2; exact hg2) hP9 hD9 d_CC_substituteAndShift_84
            · rw [nI_leI (by omega) (by omega)] at hc63
              refine lv_aload_n C.x C.b d_CC_substituteAndShift_66 rfl (lv_at hl 0 rfl) ?_
              refine k_get C hP 0 rfl rfl i_CC 1 (by decide) m_77 rfl d_CC_substituteAndShift_67 ?_
              refine lv_iload_n C.x C.b d_CC_substituteAndShift_70 rfl (lv_at hl 1 rfl) ?_
              refine lv_aload_n C.x C.b d_CC_substituteAndShift_71 rfl (lv_at hl 0 rfl) ?_
              refine k_get C hP 0 rfl rfl i_CC 2 (by decide) m_78 rfl d_CC_substituteAndShift_72 ?_
              refine lv_iload_n C.x C.b d_CC_substituteAndShift_75 rfl (lv_at hl 1 rfl) ?_
              refine k_iald C hP 2 rfl (j := j) (by omega) (by omega) d_CC_substituteAndShift_76 ?_
              refine k_iast C hP hD hS 1 rfl (j := j) (by omega) (by omega) d_CC_substituteAndShift_77 (fun H locs hP hD hS => ?_)
              have hP : va_P d.1 clz [(h, ob 3 [.ref aw, .ref ab, .ref am]), (ab, aI d 16 (upd g2 j (g j))), (am, aI d 16 g)] H := hP
              have hD : va_D A [(h, ob 3 [.ref aw, .ref ab, .ref am]), (ab, aI d 16 (upd g2 j (g j))), (am, aI d 16 g)] := hD
              refine lv_iinc (v := nI (j + 1)) (lv' := [(1, .int (nI (j + 1))), (0, .ref h)]) C.x C.b d_CC_substituteAndShift_78 hl (k := 1) rfl (k_inc _ 1) (by decide) rfl (fun ls hl => ?_)
              refine lv_goto (tgt := 60) C.x C.b d_CC_substituteAndShift_81 (by decide) ?_
              exact ih60 (j + 1) (upd g2 j (g j)) (by omega) (by omega) (upd_le (g := g2) hg2 (hg j (by omega))) _ _ _ (hP.sub [0, 1, 2] (rfl)) (hD.sub [0, 1, 2] (by decide) (rfl)) hS (lv_sub hl [1, 0] (rfl))
        exact L60 ((16 - 0) + 1) 0 fb (Nat.lt_succ_self _) (by omega) (fun i hi => absurd hi (Nat.not_lt_zero _)) _ _ _ (hP.sub [0, 1, 2] (rfl)) (hD.sub [0, 1, 2] (by decide) (rfl)) hS (lv_sub hl [1, 0] (rfl))
      · rw [nI_leI (by omega) (by omega)] at hc4
        refine lv_iconst (v := nI 0) C.x C.b d_CC_substituteAndShift_7 (by decide) ?_
        refine lv_istore_n (lv' := [(2, .int (nI 0)), (0, .ref h), (1, .int (nI c9))]) C.x C.b d_CC_substituteAndShift_8 rfl hl (by decide) rfl (fun ls hl => ?_)
        have L9 : ∀ (fuel : Nat) (r9 : Nat) (g1 : Nat → Int32), 4 - r9 < fuel → (r9 ≤ 4) → (∀ i, i < 4 * c9 + r9 → g1 i = ssh fb i) → ∀ (H : Heap) (locs : List Loc) (ls : Array Slot), va_P d.1 clz [(h, ob 3 [.ref aw, .ref ab, .ref am]), (ab, aI d 16 fb), (am, aI d 16 g1)] H → va_D A [(h, ob 3 [.ref aw, .ref ab, .ref am]), (ab, aI d 16 fb), (am, aI d 16 g1)] → va_S A s.heap H locs → lv_has ls 3 [(0, .ref h), (1, .int (nI c9)), (2, .int (nI r9))] → W p l e (Rm 0 0 0 0) s m ([.ref h] : List Value).toArray below meth c H locs 0 0 (MQ below (Cout d A (fun (u : (Nat → Int32) × (Nat → Int32)) => match u with | (f2, f3) => none) (fun (u : (Nat → Int32) × (Nat → Int32)) => match u with | (f2, f3) => ∀ j, j < 16 → f2 j = ssh fb j) (fun (u : (Nat → Int32) × (Nat → Int32)) => match u with | (f2, f3) => [(h, ob 3 [.ref aw, .ref ab, .ref am]), (ab, aI d 16 f2), (am, aI d 16 f3)])) ([.ref h] : List Value).toArray s 0 0 A) (F0 m 9 ls []) := by
          intro fuel
          induction fuel with
          | zero => intro r9 g1 h9; exact absurd h9 (Nat.not_lt_zero _)
          | succ fuel ih9 =>
            intro r9 g1 hfu9 hr9 hg1 H locs ls hP hD hS hl
            refine lv_iload_n C.x C.b d_CC_substituteAndShift_9 rfl (lv_at hl 2 rfl) ?_
            refine lv_iconst (v := nI 4) C.x C.b d_CC_substituteAndShift_10 (by decide) ?_
            refine lv_icmp_ge (tgt := 52) C.x C.b d_CC_substituteAndShift_11 (by decide) (fun hc11 => ?_) (fun hc11 => ?_)
            · rw [nI_leI (by omega) (by omega)] at hc11
              refine lv_iinc (v := nI (c9 + 1)) (lv' := [(1, .int (nI (c9 + 1))), (0, .ref h), (2, .int (nI r9))]) C.x C.b d_CC_substituteAndShift_52 hl (k := 1) rfl (k_inc _ 1) (by decide) rfl (fun ls hl => ?_)
              refine lv_goto (tgt := 2) C.x C.b d_CC_substituteAndShift_55 (by decide) ?_
              exact ih2 (c9 + 1) g1 (by omega) (by omega) (fun i hi => hg1 i (by omega)) _ _ _ (hP.sub [0, 1, 2] (rfl)) (hD.sub [0, 1, 2] (by decide) (rfl)) hS (lv_sub hl [1, 0] (rfl))
            · rw [nI_leI (by omega) (by omega)] at hc11
              refine lv_aload_n C.x C.b d_CC_substituteAndShift_14 rfl (lv_at hl 0 rfl) ?_
              refine k_get C hP 0 rfl rfl i_CC 2 (by decide) m_78 rfl d_CC_substituteAndShift_15 ?_
              refine lv_iconst (v := nI 4) C.x C.b d_CC_substituteAndShift_18 (by decide) ?_
              refine lv_iload_n C.x C.b d_CC_substituteAndShift_19 rfl (lv_at hl 1 rfl) ?_
              refine lv_imul C.x C.b d_CC_substituteAndShift_20 ?_
              refine k_top (y := nI (4 * c9)) (pk_mul _ _) ?_
              refine lv_iload_n C.x C.b d_CC_substituteAndShift_21 rfl (lv_at hl 2 rfl) ?_
              refine lv_iadd C.x C.b d_CC_substituteAndShift_22 ?_
              refine k_top (y := nI (4 * c9 + r9)) (nI_add _ _) ?_
              refine va_getsN C.x C.b hSZ hS C.o (va_Nw.use rfl hSN) (fun _ h => h) d_CC_substituteAndShift_23 ?_
              refine lv_aload_n C.x C.b d_CC_substituteAndShift_26 rfl (lv_at hl 0 rfl) ?_
              refine k_get C hP 0 rfl rfl i_CC 1 (by decide) m_77 rfl d_CC_substituteAndShift_27 ?_
              refine lv_iconst (v := nI 4) C.x C.b d_CC_substituteAndShift_30 (by decide) ?_
              refine lv_iload_n C.x C.b d_CC_substituteAndShift_31 rfl (lv_at hl 1 rfl) ?_
              refine lv_iload_n C.x C.b d_CC_substituteAndShift_32 rfl (lv_at hl 2 rfl) ?_
              refine lv_iadd C.x C.b d_CC_substituteAndShift_33 ?_
              refine k_top (y := nI (c9 + r9)) (nI_add _ _) ?_
              refine lv_iconst (v := nI 4) C.x C.b d_CC_substituteAndShift_34 (by decide) ?_
              refine lv_irem C.x C.b d_CC_substituteAndShift_35 (by decide) ?_
              refine k_top (y := nI ((c9 + r9) % 4)) (pk_rem (by omega) (by omega) (by omega)) ?_
              refine lv_imul C.x C.b d_CC_substituteAndShift_36 ?_
              refine k_top (y := nI (4 * ((c9 + r9) % 4))) (pk_mul _ _) ?_
              refine lv_iload_n C.x C.b d_CC_substituteAndShift_37 rfl (lv_at hl 2 rfl) ?_
              refine lv_iadd C.x C.b d_CC_substituteAndShift_38 ?_
              refine k_top (y := nI ((4 * ((c9 + r9) % 4)) + r9)) (nI_add _ _) ?_
              refine k_iald C hP 1 rfl (j := ((4 * ((c9 + r9) % 4)) + r9)) (by omega) (by omega) d_CC_substituteAndShift_39 ?_
              refine lv_sipush (v := nI 255) C.x C.b d_CC_substituteAndShift_40 (by decide) ?_
              refine lv_iand C.x C.b d_CC_substituteAndShift_43 ?_
              refine k_top (y := nI (bi (fb (4 * ((c9 + r9) % 4) + r9)))) (and_bi _) ?_
              refine k_ti (j := (bi (fb (4 * ((c9 + r9) % 4) + r9)))) hST hS (bi_lt _) (by decide) C d_CC_substituteAndShift_44 ?_
              refine k_iast C hP hD hS 2 rfl (j := (4 * c9 + r9)) (by omega) (by omega) d_CC_substituteAndShift_45 (fun H locs hP hD hS => ?_)
              have hP : va_P d.1 clz [(h, ob 3 [.ref aw, .ref ab, .ref am]), (ab, aI d 16 fb), (am, aI d 16 (upd g1 (4 * c9 + r9) (sbx (bi (fb (4 * ((c9 + r9) % 4) + r9))))))] H := hP
              have hD : va_D A [(h, ob 3 [.ref aw, .ref ab, .ref am]), (ab, aI d 16 fb), (am, aI d 16 (upd g1 (4 * c9 + r9) (sbx (bi (fb (4 * ((c9 + r9) % 4) + r9))))))] := hD
              refine lv_iinc (v := nI (r9 + 1)) (lv' := [(2, .int (nI (r9 + 1))), (0, .ref h), (1, .int (nI c9))]) C.x C.b d_CC_substituteAndShift_46 hl (k := 2) rfl (k_inc _ 1) (by decide) rfl (fun ls hl => ?_)
              refine lv_goto (tgt := 9) C.x C.b d_CC_substituteAndShift_49 (by decide) ?_
              exact ih9 (r9 + 1) (upd g1 (4 * c9 + r9) (sbx (bi (fb (4 * ((c9 + r9) % 4) + r9))))) (by omega) (by omega) (upd_le (g := g1) (i := 4 * c9 + r9) hg1 (by unfold ssh; rw [show (4 * c9 + r9) / 4 = c9 from by omega, show (4 * c9 + r9) % 4 = r9 from by omega])) _ _ _ (hP.sub [0, 1, 2] (rfl)) (hD.sub [0, 1, 2] (by decide) (rfl)) hS (lv_sub hl [1, 2, 0] (rfl))
        exact L9 ((4 - 0) + 1) 0 g (Nat.lt_succ_self _) (by omega) (fun i hi => hg i (by omega)) _ _ _ (hP.sub [0, 1, 2] (rfl)) (hD.sub [0, 1, 2] (by decide) (rfl)) hS (lv_sub hl [1, 2, 0] (rfl))
  exact L2 ((4 - 0) + 1) 0 fm (Nat.lt_succ_self _) (by omega) (fun i hi => absurd hi (by omega)) _ _ _ (hP.sub [0, 1, 2] (rfl)) (hD.sub [0, 1, 2] (by decide) (rfl)) hS (lv_sub hl [1, 0] (rfl))
theorem mw_CC_mixColumns : Mw y_CC_mixColumns b_CC_mixColumns 7 none 0 := ⟨m_285, m_6, m_284, by decide +kernel⟩
set_option maxHeartbeats 4000000 in
set_option maxRecDepth 100000 in
theorem c_CC_mixColumns (l : Launch) (d : DD) (h : Nat) (aw : Nat) (ab : Nat) (am : Nat) (fb : Nat → Int32) : Ct l y_CC_mixColumns b_CC_mixColumns 7 none 1 20 0 0 d [(h, ob 3 [.ref aw, .ref ab, .ref am]), (ab, aI d 16 fb)] [.ref h] (fun (f2 : Nat → Int32) => none) (fun (f2 : Nat → Int32) => ∀ j, j < 16 → f2 j = mxc fb j) (fun (f2 : Nat → Int32) => [(h, ob 3 [.ref aw, .ref ab, .ref am]), (ab, aI d 16 f2)]) := by
  refine Ct.of (by decide +kernel) (Nat.le_of_ble_eq_true rfl) ?_
  intro p e s m below meth c A ls C hP hD hS hl
  have hl : lv_has ls 7 [(0, .ref h)] := hl
  have hsz9 := hS.1
  refine lv_iconst (v := nI 0) C.x C.b d_CC_mixColumns_0 (by decide) ?_
  refine lv_istore_n (lv' := [(1, .int (nI 0)), (0, .ref h)]) C.x C.b d_CC_mixColumns_1 rfl hl (by decide) rfl (fun ls hl => ?_)
  have L2 : ∀ (fuel : Nat) (t : Nat) (g : Nat → Int32), 4 - t < fuel → (t ≤ 4) → (∀ i, i < 4 * t → g i = mxc fb i) → (∀ i, 4 * t ≤ i → g i = fb i) → ∀ (H : Heap) (locs : List Loc) (ls : Array Slot), va_P d.1 clz [(h, ob 3 [.ref aw, .ref ab, .ref am]), (ab, aI d 16 g)] H → va_D A [(h, ob 3 [.ref aw, .ref ab, .ref am]), (ab, aI d 16 g)] → va_S A s.heap H locs → lv_has ls 7 [(0, .ref h), (1, .int (nI (4 * t)))] → W p l e (Rm 1 20 0 0) s m ([.ref h] : List Value).toArray below meth c H locs 0 0 (MQ below (Cout d A (fun (f2 : Nat → Int32) => none) (fun (f2 : Nat → Int32) => ∀ j, j < 16 → f2 j = mxc fb j) (fun (f2 : Nat → Int32) => [(h, ob 3 [.ref aw, .ref ab, .ref am]), (ab, aI d 16 f2)])) ([.ref h] : List Value).toArray s 0 0 A) (F0 m 2 ls []) := by
    intro fuel
    induction fuel with
    | zero => intro t g h9; exact absurd h9 (Nat.not_lt_zero _)
    | succ fuel ih2 =>
      intro t g hfu2 ht hg1 hg2 H locs ls hP hD hS hl
      refine lv_iload_n C.x C.b d_CC_mixColumns_2 rfl (lv_at hl 1 rfl) ?_
      refine lv_bipush (v := nI 16) C.x C.b d_CC_mixColumns_3 (by decide) ?_
      refine lv_icmp_ge (tgt := 141) C.x C.b d_CC_mixColumns_5 (by decide) (fun hc5 => ?_) (fun hc5 => ?_)
      · rw [nI_leI (by omega) (by omega)] at hc5
        have hP9 := hP.sub (ws' := [(h, ob 3 [.ref aw, .ref ab, .ref am]), (ab, aI d 16 g)]) [0, 1] rfl
        have hD9 := hD.sub (ws' := [(h, ob 3 [.ref aw, .ref ab, .ref am]), (ab, aI d 16 g)]) [0, 1] (by decide) rfl
        exact k_vret C hS g (rfl) (by rw [show t = 4 from by omega] at hg1; exact hg1) hP9 hD9 d_CC_mixColumns_141
      · rw [nI_leI (by omega) (by omega)] at hc5
        refine lv_aload_n C.x C.b d_CC_mixColumns_8 rfl (lv_at hl 0 rfl) ?_
        refine k_get C hP 0 rfl rfl i_CC 1 (by decide) m_77 rfl d_CC_mixColumns_9 ?_
        refine lv_iload_n C.x C.b d_CC_mixColumns_12 rfl (lv_at hl 1 rfl) ?_
        refine k_iald C hP 1 rfl (j := (4 * t)) (by omega) (by omega) d_CC_mixColumns_13 ?_
        refine lv_istore_n (lv' := [(2, .int (g (4 * t))), (0, .ref h), (1, .int (nI (4 * t)))]) C.x C.b d_CC_mixColumns_14 rfl hl (by decide) rfl (fun ls hl => ?_)
        refine lv_aload_n C.x C.b d_CC_mixColumns_15 rfl (lv_at hl 1 rfl) ?_
        refine k_get C hP 0 rfl rfl i_CC 1 (by decide) m_77 rfl d_CC_mixColumns_16 ?_
        refine lv_iload_n C.x C.b d_CC_mixColumns_19 rfl (lv_at hl 2 rfl) ?_
        refine lv_iconst (v := nI 1) C.x C.b d_CC_mixColumns_20 (by decide) ?_
        refine lv_iadd C.x C.b d_CC_mixColumns_21 ?_
        refine k_top (y := nI (4 * t + 1)) (nI_add _ _) ?_
        refine k_iald C hP 1 rfl (j := (4 * t + 1)) (by omega) (by omega) d_CC_mixColumns_22 ?_
        refine lv_istore_n (lv' := [(3, .int (g (4 * t + 1))), (2, .int (g (4 * t))), (0, .ref h), (1, .int (nI (4 * t)))]) C.x C.b d_CC_mixColumns_23 rfl hl (by decide) rfl (fun ls hl => ?_)
        refine lv_aload_n C.x C.b d_CC_mixColumns_24 rfl (lv_at hl 2 rfl) ?_
        refine k_get C hP 0 rfl rfl i_CC 1 (by decide) m_77 rfl d_CC_mixColumns_25 ?_
        refine lv_iload_n C.x C.b d_CC_mixColumns_28 rfl (lv_at hl 3 rfl) ?_
        refine lv_iconst (v := nI 2) C.x C.b d_CC_mixColumns_29 (by decide) ?_
        refine lv_iadd C.x C.b d_CC_mixColumns_30 ?_
        refine k_top (y := nI (4 * t + 2)) (nI_add _ _) ?_
        refine k_iald C hP 1 rfl (j := (4 * t + 2)) (by omega) (by omega) d_CC_mixColumns_31 ?_
        refine lv_istore (lv' := [(4, .int (g (4 * t + 2))), (3, .int (g (4 * t + 1))), (2, .int (g (4 * t))), (0, .ref h), (1, .int (nI (4 * t)))]) C.x C.b d_CC_mixColumns_32 hl (by decide) rfl (fun ls hl => ?_)
        refine lv_aload_n C.x C.b d_CC_mixColumns_34 rfl (lv_at hl 3 rfl) ?_
        refine k_get C hP 0 rfl rfl i_CC 1 (by decide) m_77 rfl d_CC_mixColumns_35 ?_
        refine lv_iload_n C.x C.b d_CC_mixColumns_38 rfl (lv_at hl 4 rfl) ?_
        refine lv_iconst (v := nI 3) C.x C.b d_CC_mixColumns_39 (by decide) ?_
        refine lv_iadd C.x C.b d_CC_mixColumns_40 ?_
        refine k_top (y := nI (4 * t + 3)) (nI_add _ _) ?_
        refine k_iald C hP 1 rfl (j := (4 * t + 3)) (by omega) (by omega) d_CC_mixColumns_41 ?_
        refine lv_istore (lv' := [(5, .int (g (4 * t + 3))), (4, .int (g (4 * t + 2))), (3, .int (g (4 * t + 1))), (2, .int (g (4 * t))), (0, .ref h), (1, .int (nI (4 * t)))]) C.x C.b d_CC_mixColumns_42 hl (by decide) rfl (fun ls hl => ?_)
        refine lv_iload_n C.x C.b d_CC_mixColumns_44 rfl (lv_at hl 3 rfl) ?_
        refine lv_iload_n C.x C.b d_CC_mixColumns_45 rfl (lv_at hl 2 rfl) ?_
        refine lv_ixor C.x C.b d_CC_mixColumns_46 ?_
        refine lv_iload C.x C.b d_CC_mixColumns_47 (lv_at hl 1 rfl) ?_
        refine lv_ixor C.x C.b d_CC_mixColumns_49 ?_
        refine lv_iload C.x C.b d_CC_mixColumns_50 (lv_at hl 0 rfl) ?_
        refine lv_ixor C.x C.b d_CC_mixColumns_52 ?_
        refine lv_istore (lv' := [(6, .int ((((g (4 * t)) ^^^ (g (4 * t + 1))) ^^^ (g (4 * t + 2))) ^^^ (g (4 * t + 3)))), (5, .int (g (4 * t + 3))), (4, .int (g (4 * t + 2))), (3, .int (g (4 * t + 1))), (2, .int (g (4 * t))), (0, .ref h), (1, .int (nI (4 * t)))]) C.x C.b d_CC_mixColumns_53 hl (by decide) rfl (fun ls hl => ?_)
        refine lv_aload_n C.x C.b d_CC_mixColumns_55 rfl (lv_at hl 5 rfl) ?_
        refine k_get C hP 0 rfl rfl i_CC 1 (by decide) m_77 rfl d_CC_mixColumns_56 ?_
        refine lv_iload_n C.x C.b d_CC_mixColumns_59 rfl (lv_at hl 6 rfl) ?_
        refine lv_iload_n C.x C.b d_CC_mixColumns_60 rfl (lv_at hl 4 rfl) ?_
        refine lv_iload C.x C.b d_CC_mixColumns_61 (lv_at hl 0 rfl) ?_
        refine lv_ixor C.x C.b d_CC_mixColumns_63 ?_
        refine lv_iload_n C.x C.b d_CC_mixColumns_64 rfl (lv_at hl 4 rfl) ?_
        refine lv_iload_n C.x C.b d_CC_mixColumns_65 rfl (lv_at hl 3 rfl) ?_
        refine lv_ixor C.x C.b d_CC_mixColumns_66 ?_
        refine k_callS (As := [.int ((g (4 * t)) ^^^ (g (4 * t + 1)))]) (rest := [.int ((g (4 * t)) ^^^ ((((g (4 * t)) ^^^ (g (4 * t + 1))) ^^^ (g (4 * t + 2))) ^^^ (g (4 * t + 3)))), .int (nI (4 * t)), .ref ab]) (wc := []) (wr := [(h, ob 3 [.ref aw, .ref ab, .ref am]), (ab, aI d 16 g)]) C (c_CC_twice l d ((g (4 * t)) ^^^ (g (4 * t + 1)))) mw_CC_twice m_267 hP hD hS [] [0, 1] rfl rfl (by decide) (by decide) (by decide) rfl hl.1 (Nat.le_of_ble_eq_true rfl) d_CC_mixColumns_67 ⟨Nat.le_of_ble_eq_true rfl, Nat.le_of_ble_eq_true rfl⟩ ⟨by decide, by decide⟩ (fun _ H locs hw_2 hP hD hS => ?_)
        have hP : va_P d.1 clz [(h, ob 3 [.ref aw, .ref ab, .ref am]), (ab, aI d 16 g)] H := hP
        have hD : va_D A [(h, ob 3 [.ref aw, .ref ab, .ref am]), (ab, aI d 16 g)] := hD
        refine W.eq (g2 := F0 m 70 ls [.int (xt ((g (4 * t)) ^^^ (g (4 * t + 1)))), .int ((g (4 * t)) ^^^ ((((g (4 * t)) ^^^ (g (4 * t + 1))) ^^^ (g (4 * t + 2))) ^^^ (g (4 * t + 3)))), .int (nI (4 * t)), .ref ab]) rfl ?_
        refine lv_ixor C.x C.b d_CC_mixColumns_70 ?_
        refine k_iast C hP hD hS 1 rfl (j := (4 * t)) (by omega) (by omega) d_CC_mixColumns_71 (fun H locs hP hD hS => ?_)
        have hP : va_P d.1 clz [(h, ob 3 [.ref aw, .ref ab, .ref am]), (ab, aI d 16 (upd g (4 * t) (((g (4 * t)) ^^^ ((((g (4 * t)) ^^^ (g (4 * t + 1))) ^^^ (g (4 * t + 2))) ^^^ (g (4 * t + 3)))) ^^^ (xt ((g (4 * t)) ^^^ (g (4 * t + 1)))))))] H := hP
        have hD : va_D A [(h, ob 3 [.ref aw, .ref ab, .ref am]), (ab, aI d 16 (upd g (4 * t) (((g (4 * t)) ^^^ ((((g (4 * t)) ^^^ (g (4 * t + 1))) ^^^ (g (4 * t + 2))) ^^^ (g (4 * t + 3)))) ^^^ (xt ((g (4 * t)) ^^^ (g (4 * t + 1)))))))] := hD
        refine lv_aload_n C.x C.b d_CC_mixColumns_72 rfl (lv_at hl 5 rfl) ?_
        refine k_get C hP 0 rfl rfl i_CC 1 (by decide) m_77 rfl d_CC_mixColumns_73 ?_
        refine lv_iload_n C.x C.b d_CC_mixColumns_76 rfl (lv_at hl 6 rfl) ?_
        refine lv_iconst (v := nI 1) C.x C.b d_CC_mixColumns_77 (by decide) ?_
        refine lv_iadd C.x C.b d_CC_mixColumns_78 ?_
        refine k_top (y := nI (4 * t + 1)) (nI_add _ _) ?_
        refine lv_iload_n C.x C.b d_CC_mixColumns_79 rfl (lv_at hl 3 rfl) ?_
        refine lv_iload C.x C.b d_CC_mixColumns_80 (lv_at hl 0 rfl) ?_
        refine lv_ixor C.x C.b d_CC_mixColumns_82 ?_
        refine lv_iload_n C.x C.b d_CC_mixColumns_83 rfl (lv_at hl 3 rfl) ?_
        refine lv_iload C.x C.b d_CC_mixColumns_84 (lv_at hl 2 rfl) ?_
        refine lv_ixor C.x C.b d_CC_mixColumns_86 ?_
        refine k_callS (As := [.int ((g (4 * t + 1)) ^^^ (g (4 * t + 2)))]) (rest := [.int ((g (4 * t + 1)) ^^^ ((((g (4 * t)) ^^^ (g (4 * t + 1))) ^^^ (g (4 * t + 2))) ^^^ (g (4 * t + 3)))), .int (nI (4 * t + 1)), .ref ab]) (wc := []) (wr := [(h, ob 3 [.ref aw, .ref ab, .ref am]), (ab, aI d 16 (upd g (4 * t) (((g (4 * t)) ^^^ ((((g (4 * t)) ^^^ (g (4 * t + 1))) ^^^ (g (4 * t + 2))) ^^^ (g (4 * t + 3)))) ^^^ (xt ((g (4 * t)) ^^^ (g (4 * t + 1)))))))]) C (c_CC_twice l d ((g (4 * t + 1)) ^^^ (g (4 * t + 2)))) mw_CC_twice m_267 hP hD hS [] [0, 1] rfl rfl (by decide) (by decide) (by decide) rfl hl.1 (Nat.le_of_ble_eq_true rfl) d_CC_mixColumns_87 ⟨Nat.le_of_ble_eq_true rfl, Nat.le_of_ble_eq_true rfl⟩ ⟨by decide, by decide⟩ (fun _ H locs hw_3 hP hD hS => ?_)
        have hP : va_P d.1 clz [(h, ob 3 [.ref aw, .ref ab, .ref am]), (ab, aI d 16 (upd g (4 * t) (((g (4 * t)) ^^^ ((((g (4 * t)) ^^^ (g (4 * t + 1))) ^^^ (g (4 * t + 2))) ^^^ (g (4 * t + 3)))) ^^^ (xt ((g (4 * t)) ^^^ (g (4 * t + 1)))))))] H := hP
        have hD : va_D A [(h, ob 3 [.ref aw, .ref ab, .ref am]), (ab, aI d 16 (upd g (4 * t) (((g (4 * t)) ^^^ ((((g (4 * t)) ^^^ (g (4 * t + 1))) ^^^ (g (4 * t + 2))) ^^^ (g (4 * t + 3)))) ^^^ (xt ((g (4 * t)) ^^^ (g (4 * t + 1)))))))] := hD
        refine W.eq (g2 := F0 m 90 ls [.int (xt ((g (4 * t + 1)) ^^^ (g (4 * t + 2)))), .int ((g (4 * t + 1)) ^^^ ((((g (4 * t)) ^^^ (g (4 * t + 1))) ^^^ (g (4 * t + 2))) ^^^ (g (4 * t + 3)))), .int (nI (4 * t + 1)), .ref ab]) rfl ?_
        refine lv_ixor C.x C.b d_CC_mixColumns_90 ?_
        refine k_iast C hP hD hS 1 rfl (j := (4 * t + 1)) (by omega) (by omega) d_CC_mixColumns_91 (fun H locs hP hD hS => ?_)
        have hP : va_P d.1 clz [(h, ob 3 [.ref aw, .ref ab, .ref am]), (ab, aI d 16 (upd (upd g (4 * t) (((g (4 * t)) ^^^ ((((g (4 * t)) ^^^ (g (4 * t + 1))) ^^^ (g (4 * t + 2))) ^^^ (g (4 * t + 3)))) ^^^ (xt ((g (4 * t)) ^^^ (g (4 * t + 1)))))) (4 * t + 1) (((g (4 * t + 1)) ^^^ ((((g (4 * t)) ^^^ (g (4 * t + 1))) ^^^ (g (4 * t + 2))) ^^^ (g (4 * t + 3)))) ^^^ (xt ((g (4 * t + 1)) ^^^ (g (4 * t + 2)))))))] H := hP
        have hD : va_D A [(h, ob 3 [.ref aw, .ref ab, .ref am]), (ab, aI d 16 (upd (upd g (4 * t) (((g (4 * t)) ^^^ ((((g (4 * t)) ^^^ (g (4 * t + 1))) ^^^ (g (4 * t + 2))) ^^^ (g (4 * t + 3)))) ^^^ (xt ((g (4 * t)) ^^^ (g (4 * t + 1)))))) (4 * t + 1) (((g (4 * t + 1)) ^^^ ((((g (4 * t)) ^^^ (g (4 * t + 1))) ^^^ (g (4 * t + 2))) ^^^ (g (4 * t + 3)))) ^^^ (xt ((g (4 * t + 1)) ^^^ (g (4 * t + 2)))))))] := hD
        refine lv_aload_n C.x C.b d_CC_mixColumns_92 rfl (lv_at hl 5 rfl) ?_
        refine k_get C hP 0 rfl rfl i_CC 1 (by decide) m_77 rfl d_CC_mixColumns_93 ?_
        refine lv_iload_n C.x C.b d_CC_mixColumns_96 rfl (lv_at hl 6 rfl) ?_
        refine lv_iconst (v := nI 2) C.x C.b d_CC_mixColumns_97 (by decide) ?_
        refine lv_iadd C.x C.b d_CC_mixColumns_98 ?_
        refine k_top (y := nI (4 * t + 2)) (nI_add _ _) ?_
        refine lv_iload C.x C.b d_CC_mixColumns_99 (lv_at hl 2 rfl) ?_
        refine lv_iload C.x C.b d_CC_mixColumns_101 (lv_at hl 0 rfl) ?_
        refine lv_ixor C.x C.b d_CC_mixColumns_103 ?_
        refine lv_iload C.x C.b d_CC_mixColumns_104 (lv_at hl 2 rfl) ?_
        refine lv_iload C.x C.b d_CC_mixColumns_106 (lv_at hl 1 rfl) ?_
        refine lv_ixor C.x C.b d_CC_mixColumns_108 ?_
        refine k_callS (As := [.int ((g (4 * t + 2)) ^^^ (g (4 * t + 3)))]) (rest := [.int ((g (4 * t + 2)) ^^^ ((((g (4 * t)) ^^^ (g (4 * t + 1))) ^^^ (g (4 * t + 2))) ^^^ (g (4 * t + 3)))), .int (nI (4 * t + 2)), .ref ab]) (wc := []) (wr := [(h, ob 3 [.ref aw, .ref ab, .ref am]), (ab, aI d 16 (upd (upd g (4 * t) (((g (4 * t)) ^^^ ((((g (4 * t)) ^^^ (g (4 * t + 1))) ^^^ (g (4 * t + 2))) ^^^ (g (4 * t + 3)))) ^^^ (xt ((g (4 * t)) ^^^ (g (4 * t + 1)))))) (4 * t + 1) (((g (4 * t + 1)) ^^^ ((((g (4 * t)) ^^^ (g (4 * t + 1))) ^^^ (g (4 * t + 2))) ^^^ (g (4 * t + 3)))) ^^^ (xt ((g (4 * t + 1)) ^^^ (g (4 * t + 2)))))))]) C (c_CC_twice l d ((g (4 * t + 2)) ^^^ (g (4 * t + 3)))) mw_CC_twice m_267 hP hD hS [] [0, 1] rfl rfl (by decide) (by decide) (by decide) rfl hl.1 (Nat.le_of_ble_eq_true rfl) d_CC_mixColumns_109 ⟨Nat.le_of_ble_eq_true rfl, Nat.le_of_ble_eq_true rfl⟩ ⟨by decide, by decide⟩ (fun _ H locs hw_4 hP hD hS => ?_)
        have hP : va_P d.1 clz [(h, ob 3 [.ref aw, .ref ab, .ref am]), (ab, aI d 16 (upd (upd g (4 * t) (((g (4 * t)) ^^^ ((((g (4 * t)) ^^^ (g (4 * t + 1))) ^^^ (g (4 * t + 2))) ^^^ (g (4 * t + 3)))) ^^^ (xt ((g (4 * t)) ^^^ (g (4 * t + 1)))))) (4 * t + 1) (((g (4 * t + 1)) ^^^ ((((g (4 * t)) ^^^ (g (4 * t + 1))) ^^^ (g (4 * t + 2))) ^^^ (g (4 * t + 3)))) ^^^ (xt ((g (4 * t + 1)) ^^^ (g (4 * t + 2)))))))] H := hP
        have hD : va_D A [(h, ob 3 [.ref aw, .ref ab, .ref am]), (ab, aI d 16 (upd (upd g (4 * t) (((g (4 * t)) ^^^ ((((g (4 * t)) ^^^ (g (4 * t + 1))) ^^^ (g (4 * t + 2))) ^^^ (g (4 * t + 3)))) ^^^ (xt ((g (4 * t)) ^^^ (g (4 * t + 1)))))) (4 * t + 1) (((g (4 * t + 1)) ^^^ ((((g (4 * t)) ^^^ (g (4 * t + 1))) ^^^ (g (4 * t + 2))) ^^^ (g (4 * t + 3)))) ^^^ (xt ((g (4 * t + 1)) ^^^ (g (4 * t + 2)))))))] := hD
        refine W.eq (g2 := F0 m 112 ls [.int (xt ((g (4 * t + 2)) ^^^ (g (4 * t + 3)))), .int ((g (4 * t + 2)) ^^^ ((((g (4 * t)) ^^^ (g (4 * t + 1))) ^^^ (g (4 * t + 2))) ^^^ (g (4 * t + 3)))), .int (nI (4 * t + 2)), .ref ab]) rfl ?_
        refine lv_ixor C.x C.b d_CC_mixColumns_112 ?_
        refine k_iast C hP hD hS 1 rfl (j := (4 * t + 2)) (by omega) (by omega) d_CC_mixColumns_113 (fun H locs hP hD hS => ?_)
        have hP : va_P d.1 clz [(h, ob 3 [.ref aw, .ref ab, .ref am]), (ab, aI d 16 (upd (upd (upd g (4 * t) (((g (4 * t)) ^^^ ((((g (4 * t)) ^^^ (g (4 * t + 1))) ^^^ (g (4 * t + 2))) ^^^ (g (4 * t + 3)))) ^^^ (xt ((g (4 * t)) ^^^ (g (4 * t + 1)))))) (4 * t + 1) (((g (4 * t + 1)) ^^^ ((((g (4 * t)) ^^^ (g (4 * t + 1))) ^^^ (g (4 * t + 2))) ^^^ (g (4 * t + 3)))) ^^^ (xt ((g (4 * t + 1)) ^^^ (g (4 * t + 2)))))) (4 * t + 2) (((g (4 * t + 2)) ^^^ ((((g (4 * t)) ^^^ (g (4 * t + 1))) ^^^ (g (4 * t + 2))) ^^^ (g (4 * t + 3)))) ^^^ (xt ((g (4 * t + 2)) ^^^ (g (4 * t + 3)))))))] H := hP
        have hD : va_D A [(h, ob 3 [.ref aw, .ref ab, .ref am]), (ab, aI d 16 (upd (upd (upd g (4 * t) (((g (4 * t)) ^^^ ((((g (4 * t)) ^^^ (g (4 * t + 1))) ^^^ (g (4 * t + 2))) ^^^ (g (4 * t + 3)))) ^^^ (xt ((g (4 * t)) ^^^ (g (4 * t + 1)))))) (4 * t + 1) (((g (4 * t + 1)) ^^^ ((((g (4 * t)) ^^^ (g (4 * t + 1))) ^^^ (g (4 * t + 2))) ^^^ (g (4 * t + 3)))) ^^^ (xt ((g (4 * t + 1)) ^^^ (g (4 * t + 2)))))) (4 * t + 2) (((g (4 * t + 2)) ^^^ ((((g (4 * t)) ^^^ (g (4 * t + 1))) ^^^ (g (4 * t + 2))) ^^^ (g (4 * t + 3)))) ^^^ (xt ((g (4 * t + 2)) ^^^ (g (4 * t + 3)))))))] := hD
        refine lv_aload_n C.x C.b d_CC_mixColumns_114 rfl (lv_at hl 5 rfl) ?_
        refine k_get C hP 0 rfl rfl i_CC 1 (by decide) m_77 rfl d_CC_mixColumns_115 ?_
        refine lv_iload_n C.x C.b d_CC_mixColumns_118 rfl (lv_at hl 6 rfl) ?_
        refine lv_iconst (v := nI 3) C.x C.b d_CC_mixColumns_119 (by decide) ?_
        refine lv_iadd C.x C.b d_CC_mixColumns_120 ?_
        refine k_top (y := nI (4 * t + 3)) (nI_add _ _) ?_
        refine lv_iload C.x C.b d_CC_mixColumns_121 (lv_at hl 1 rfl) ?_
        refine lv_iload C.x C.b d_CC_mixColumns_123 (lv_at hl 0 rfl) ?_
        refine lv_ixor C.x C.b d_CC_mixColumns_125 ?_
        refine lv_iload C.x C.b d_CC_mixColumns_126 (lv_at hl 1 rfl) ?_
        refine lv_iload_n C.x C.b d_CC_mixColumns_128 rfl (lv_at hl 4 rfl) ?_
        refine lv_ixor C.x C.b d_CC_mixColumns_129 ?_
        refine k_callS (As := [.int ((g (4 * t + 3)) ^^^ (g (4 * t)))]) (rest := [.int ((g (4 * t + 3)) ^^^ ((((g (4 * t)) ^^^ (g (4 * t + 1))) ^^^ (g (4 * t + 2))) ^^^ (g (4 * t + 3)))), .int (nI (4 * t + 3)), .ref ab]) (wc := []) (wr := [(h, ob 3 [.ref aw, .ref ab, .ref am]), (ab, aI d 16 (upd (upd (upd g (4 * t) (((g (4 * t)) ^^^ ((((g (4 * t)) ^^^ (g (4 * t + 1))) ^^^ (g (4 * t + 2))) ^^^ (g (4 * t + 3)))) ^^^ (xt ((g (4 * t)) ^^^ (g (4 * t + 1)))))) (4 * t + 1) (((g (4 * t + 1)) ^^^ ((((g (4 * t)) ^^^ (g (4 * t + 1))) ^^^ (g (4 * t + 2))) ^^^ (g (4 * t + 3)))) ^^^ (xt ((g (4 * t + 1)) ^^^ (g (4 * t + 2)))))) (4 * t + 2) (((g (4 * t + 2)) ^^^ ((((g (4 * t)) ^^^ (g (4 * t + 1))) ^^^ (g (4 * t + 2))) ^^^ (g (4 * t + 3)))) ^^^ (xt ((g (4 * t + 2)) ^^^ (g (4 * t + 3)))))))]) C (c_CC_twice l d ((g (4 * t + 3)) ^^^ (g (4 * t)))) mw_CC_twice m_267 hP hD hS [] [0, 1] rfl rfl (by decide) (by decide) (by decide) rfl hl.1 (Nat.le_of_ble_eq_true rfl) d_CC_mixColumns_130 ⟨Nat.le_of_ble_eq_true rfl, Nat.le_of_ble_eq_true rfl⟩ ⟨by decide, by decide⟩ (fun _ H locs hw_5 hP hD hS => ?_)
        have hP : va_P d.1 clz [(h, ob 3 [.ref aw, .ref ab, .ref am]), (ab, aI d 16 (upd (upd (upd g (4 * t) (((g (4 * t)) ^^^ ((((g (4 * t)) ^^^ (g (4 * t + 1))) ^^^ (g (4 * t + 2))) ^^^ (g (4 * t + 3)))) ^^^ (xt ((g (4 * t)) ^^^ (g (4 * t + 1)))))) (4 * t + 1) (((g (4 * t + 1)) ^^^ ((((g (4 * t)) ^^^ (g (4 * t + 1))) ^^^ (g (4 * t + 2))) ^^^ (g (4 * t + 3)))) ^^^ (xt ((g (4 * t + 1)) ^^^ (g (4 * t + 2)))))) (4 * t + 2) (((g (4 * t + 2)) ^^^ ((((g (4 * t)) ^^^ (g (4 * t + 1))) ^^^ (g (4 * t + 2))) ^^^ (g (4 * t + 3)))) ^^^ (xt ((g (4 * t + 2)) ^^^ (g (4 * t + 3)))))))] H := hP
        have hD : va_D A [(h, ob 3 [.ref aw, .ref ab, .ref am]), (ab, aI d 16 (upd (upd (upd g (4 * t) (((g (4 * t)) ^^^ ((((g (4 * t)) ^^^ (g (4 * t + 1))) ^^^ (g (4 * t + 2))) ^^^ (g (4 * t + 3)))) ^^^ (xt ((g (4 * t)) ^^^ (g (4 * t + 1)))))) (4 * t + 1) (((g (4 * t + 1)) ^^^ ((((g (4 * t)) ^^^ (g (4 * t + 1))) ^^^ (g (4 * t + 2))) ^^^ (g (4 * t + 3)))) ^^^ (xt ((g (4 * t + 1)) ^^^ (g (4 * t + 2)))))) (4 * t + 2) (((g (4 * t + 2)) ^^^ ((((g (4 * t)) ^^^ (g (4 * t + 1))) ^^^ (g (4 * t + 2))) ^^^ (g (4 * t + 3)))) ^^^ (xt ((g (4 * t + 2)) ^^^ (g (4 * t + 3)))))))] := hD
        refine W.eq (g2 := F0 m 133 ls [.int (xt ((g (4 * t + 3)) ^^^ (g (4 * t)))), .int ((g (4 * t + 3)) ^^^ ((((g (4 * t)) ^^^ (g (4 * t + 1))) ^^^ (g (4 * t + 2))) ^^^ (g (4 * t + 3)))), .int (nI (4 * t + 3)), .ref ab]) rfl ?_
        refine lv_ixor C.x C.b d_CC_mixColumns_133 ?_
        refine k_iast C hP hD hS 1 rfl (j := (4 * t + 3)) (by omega) (by omega) d_CC_mixColumns_134 (fun H locs hP hD hS => ?_)
        have hP : va_P d.1 clz [(h, ob 3 [.ref aw, .ref ab, .ref am]), (ab, aI d 16 (upd (upd (upd (upd g (4 * t) (((g (4 * t)) ^^^ ((((g (4 * t)) ^^^ (g (4 * t + 1))) ^^^ (g (4 * t + 2))) ^^^ (g (4 * t + 3)))) ^^^ (xt ((g (4 * t)) ^^^ (g (4 * t + 1)))))) (4 * t + 1) (((g (4 * t + 1)) ^^^ ((((g (4 * t)) ^^^ (g (4 * t + 1))) ^^^ (g (4 * t + 2))) ^^^ (g (4 * t + 3)))) ^^^ (xt ((g (4 * t + 1)) ^^^ (g (4 * t + 2)))))) (4 * t + 2) (((g (4 * t + 2)) ^^^ ((((g (4 * t)) ^^^ (g (4 * t + 1))) ^^^ (g (4 * t + 2))) ^^^ (g (4 * t + 3)))) ^^^ (xt ((g (4 * t + 2)) ^^^ (g (4 * t + 3)))))) (4 * t + 3) (((g (4 * t + 3)) ^^^ ((((g (4 * t)) ^^^ (g (4 * t + 1))) ^^^ (g (4 * t + 2))) ^^^ (g (4 * t + 3)))) ^^^ (xt ((g (4 * t + 3)) ^^^ (g (4 * t)))))))] H := hP
        have hD : va_D A [(h, ob 3 [.ref aw, .ref ab, .ref am]), (ab, aI d 16 (upd (upd (upd (upd g (4 * t) (((g (4 * t)) ^^^ ((((g (4 * t)) ^^^ (g (4 * t + 1))) ^^^ (g (4 * t + 2))) ^^^ (g (4 * t + 3)))) ^^^ (xt ((g (4 * t)) ^^^ (g (4 * t + 1)))))) (4 * t + 1) (((g (4 * t + 1)) ^^^ ((((g (4 * t)) ^^^ (g (4 * t + 1))) ^^^ (g (4 * t + 2))) ^^^ (g (4 * t + 3)))) ^^^ (xt ((g (4 * t + 1)) ^^^ (g (4 * t + 2)))))) (4 * t + 2) (((g (4 * t + 2)) ^^^ ((((g (4 * t)) ^^^ (g (4 * t + 1))) ^^^ (g (4 * t + 2))) ^^^ (g (4 * t + 3)))) ^^^ (xt ((g (4 * t + 2)) ^^^ (g (4 * t + 3)))))) (4 * t + 3) (((g (4 * t + 3)) ^^^ ((((g (4 * t)) ^^^ (g (4 * t + 1))) ^^^ (g (4 * t + 2))) ^^^ (g (4 * t + 3)))) ^^^ (xt ((g (4 * t + 3)) ^^^ (g (4 * t)))))))] := hD
        have q0 := hg2 (4 * t) (by omega)
        have q1 := hg2 (4 * t + 1) (by omega)
        have q2 := hg2 (4 * t + 2) (by omega)
        have q3 := hg2 (4 * t + 3) (by omega)
        have hm1 : ∀ i, i < 4 * (t + 1) → (upd (upd (upd (upd g (4 * t) (((g (4 * t)) ^^^ ((((g (4 * t)) ^^^ (g (4 * t + 1))) ^^^ (g (4 * t + 2))) ^^^ (g (4 * t + 3)))) ^^^ (xt ((g (4 * t)) ^^^ (g (4 * t + 1)))))) (4 * t + 1) (((g (4 * t + 1)) ^^^ ((((g (4 * t)) ^^^ (g (4 * t + 1))) ^^^ (g (4 * t + 2))) ^^^ (g (4 * t + 3)))) ^^^ (xt ((g (4 * t + 1)) ^^^ (g (4 * t + 2)))))) (4 * t + 2) (((g (4 * t + 2)) ^^^ ((((g (4 * t)) ^^^ (g (4 * t + 1))) ^^^ (g (4 * t + 2))) ^^^ (g (4 * t + 3)))) ^^^ (xt ((g (4 * t + 2)) ^^^ (g (4 * t + 3)))))) (4 * t + 3) (((g (4 * t + 3)) ^^^ ((((g (4 * t)) ^^^ (g (4 * t + 1))) ^^^ (g (4 * t + 2))) ^^^ (g (4 * t + 3)))) ^^^ (xt ((g (4 * t + 3)) ^^^ (g (4 * t)))))) i = mxc fb i := by
          intro i hi
          rcases (show i < 4 * t ∨ i = 4 * t ∨ i = 4 * t + 1 ∨ i = 4 * t + 2 ∨ i = 4 * t + 3 by omega) with e | e | e | e | e
          · rw [pk_un (by omega), pk_un (by omega), pk_un (by omega), pk_un (by omega)]; exact hg1 i e
          · rw [e, pk_un (by omega), pk_un (by omega), pk_un (by omega), pk_us]; unfold mxc; rw [show 4 * t / 4 = t from by omega, show (4 * t % 4 + 1) % 4 = 1 from by omega, q0, q1, q2, q3]
          · rw [e, pk_un (by omega), pk_un (by omega), pk_us]; unfold mxc; rw [show (4 * t + 1) / 4 = t from by omega, show ((4 * t + 1) % 4 + 1) % 4 = 2 from by omega, q0, q1, q2, q3]
          · rw [e, pk_un (by omega), pk_us]; unfold mxc; rw [show (4 * t + 2) / 4 = t from by omega, show ((4 * t + 2) % 4 + 1) % 4 = 3 from by omega, q0, q1, q2, q3]
          · rw [e, pk_us]; unfold mxc; rw [show (4 * t + 3) / 4 = t from by omega, show ((4 * t + 3) % 4 + 1) % 4 = 0 from by omega, q0, q1, q2, q3]; (try rfl)
        have hm2 : ∀ i, 4 * (t + 1) ≤ i → (upd (upd (upd (upd g (4 * t) (((g (4 * t)) ^^^ ((((g (4 * t)) ^^^ (g (4 * t + 1))) ^^^ (g (4 * t + 2))) ^^^ (g (4 * t + 3)))) ^^^ (xt ((g (4 * t)) ^^^ (g (4 * t + 1)))))) (4 * t + 1) (((g (4 * t + 1)) ^^^ ((((g (4 * t)) ^^^ (g (4 * t + 1))) ^^^ (g (4 * t + 2))) ^^^ (g (4 * t + 3)))) ^^^ (xt ((g (4 * t + 1)) ^^^ (g (4 * t + 2)))))) (4 * t + 2) (((g (4 * t + 2)) ^^^ ((((g (4 * t)) ^^^ (g (4 * t + 1))) ^^^ (g (4 * t + 2))) ^^^ (g (4 * t + 3)))) ^^^ (xt ((g (4 * t + 2)) ^^^ (g (4 * t + 3)))))) (4 * t + 3) (((g (4 * t + 3)) ^^^ ((((g (4 * t)) ^^^ (g (4 * t + 1))) ^^^ (g (4 * t + 2))) ^^^ (g (4 * t + 3)))) ^^^ (xt ((g (4 * t + 3)) ^^^ (g (4 * t)))))) i = fb i := by
          intro i hi
          rw [pk_un (by omega), pk_un (by omega), pk_un (by omega), pk_un (by omega)]; exact hg2 i (by omega)
        refine lv_iinc (v := nI (4 * t + 4)) (lv' := [(1, .int (nI (4 * t + 4))), (6, .int ((((g (4 * t)) ^^^ (g (4 * t + 1))) ^^^ (g (4 * t + 2))) ^^^ (g (4 * t + 3)))), (5, .int (g (4 * t + 3))), (4, .int (g (4 * t + 2))), (3, .int (g (4 * t + 1))), (2, .int (g (4 * t))), (0, .ref h)]) C.x C.b d_CC_mixColumns_135 hl (k := 6) rfl (k_inc _ 4) (by decide) rfl (fun ls hl => ?_)
        refine lv_goto (tgt := 2) C.x C.b d_CC_mixColumns_138 (by decide) ?_
        exact ih2 (t + 1) (upd (upd (upd (upd g (4 * t) (((g (4 * t)) ^^^ ((((g (4 * t)) ^^^ (g (4 * t + 1))) ^^^ (g (4 * t + 2))) ^^^ (g (4 * t + 3)))) ^^^ (xt ((g (4 * t)) ^^^ (g (4 * t + 1)))))) (4 * t + 1) (((g (4 * t + 1)) ^^^ ((((g (4 * t)) ^^^ (g (4 * t + 1))) ^^^ (g (4 * t + 2))) ^^^ (g (4 * t + 3)))) ^^^ (xt ((g (4 * t + 1)) ^^^ (g (4 * t + 2)))))) (4 * t + 2) (((g (4 * t + 2)) ^^^ ((((g (4 * t)) ^^^ (g (4 * t + 1))) ^^^ (g (4 * t + 2))) ^^^ (g (4 * t + 3)))) ^^^ (xt ((g (4 * t + 2)) ^^^ (g (4 * t + 3)))))) (4 * t + 3) (((g (4 * t + 3)) ^^^ ((((g (4 * t)) ^^^ (g (4 * t + 1))) ^^^ (g (4 * t + 2))) ^^^ (g (4 * t + 3)))) ^^^ (xt ((g (4 * t + 3)) ^^^ (g (4 * t)))))) (by omega) (by omega) (hm1) (hm2) _ _ _ (hP.sub [0, 1] (rfl)) (hD.sub [0, 1] (by decide) (rfl)) hS (lv_sub hl [6, 0] (by rw [Nat.mul_succ]; rfl))
  exact L2 ((4 - 0) + 1) 0 fb (Nat.lt_succ_self _) (by omega) (fun i hi => absurd hi (by omega)) (fun _ _ => rfl) _ _ _ (hP.sub [0, 1] (rfl)) (hD.sub [0, 1] (by decide) (rfl)) hS (lv_sub hl [1, 0] (rfl))
theorem mw_CC_encipherCounter : Mw y_CC_encipherCounter b_CC_encipherCounter 3 none 1 := ⟨m_273, m_6, m_272, by decide +kernel⟩
set_option maxHeartbeats 4000000 in
set_option maxRecDepth 100000 in
theorem c_CC_encipherCounter (l : Launch) (d : DD) (h : Nat) (aw : Nat) (ab : Nat) (am : Nat) (fw : Nat → Int32) (fb : Nat → Int32) (fm : Nat → Int32) (kh : Nat) (ka : Nat) (k : Nat → Int32) : Ct l y_CC_encipherCounter b_CC_encipherCounter 3 none 2 46 0 0 d [(h, ob 3 [.ref aw, .ref ab, .ref am]), (aw, aI d 44 fw), (ab, aI d 16 fb), (am, aI d 16 fm), (kh, ob 5 [.ref ka]), (ka, aI d 16 k)] [.ref h, .ref kh] (fun (u : (Nat → Int32) × (Nat → Int32)) => match u with | (f2, f3) => none) (fun (u : (Nat → Int32) × (Nat → Int32)) => match u with | (f2, f3) => ∀ j, j < 16 → f2 j = aes fw k j) (fun (u : (Nat → Int32) × (Nat → Int32)) => match u with | (f2, f3) => [(h, ob 3 [.ref aw, .ref ab, .ref am]), (aw, aI d 44 fw), (ab, aI d 16 f2), (am, aI d 16 f3), (kh, ob 5 [.ref ka]), (ka, aI d 16 k)]) := by
  refine Ct.of (by decide +kernel) (Nat.le_of_ble_eq_true rfl) ?_
  intro p e s m below meth c A ls C hP hD hS hl
  have hl : lv_has ls 3 [(0, .ref h), (1, .ref kh)] := hl
  have hsz9 := hS.1
  refine lv_iconst (v := nI 0) C.x C.b d_CC_encipherCounter_0 (by decide) ?_
  refine lv_istore_n (lv' := [(2, .int (nI 0)), (0, .ref h), (1, .ref kh)]) C.x C.b d_CC_encipherCounter_1 rfl hl (by decide) rfl (fun ls hl => ?_)
  have L2 : ∀ (fuel : Nat) (j : Nat) (g : Nat → Int32), 16 - j < fuel → (j ≤ 16) → (∀ i, i < j → g i = ctb k i) → ∀ (H : Heap) (locs : List Loc) (ls : Array Slot), va_P d.1 clz [(h, ob 3 [.ref aw, .ref ab, .ref am]), (aw, aI d 44 fw), (ab, aI d 16 g), (am, aI d 16 fm), (kh, ob 5 [.ref ka]), (ka, aI d 16 k)] H → va_D A [(h, ob 3 [.ref aw, .ref ab, .ref am]), (aw, aI d 44 fw), (ab, aI d 16 g), (am, aI d 16 fm), (kh, ob 5 [.ref ka]), (ka, aI d 16 k)] → va_S A s.heap H locs → lv_has ls 3 [(0, .ref h), (1, .ref kh), (2, .int (nI j))] → W p l e (Rm 2 46 0 0) s m ([.ref h, .ref kh] : List Value).toArray below meth c H locs 0 0 (MQ below (Cout d A (fun (u : (Nat → Int32) × (Nat → Int32)) => match u with | (f2, f3) => none) (fun (u : (Nat → Int32) × (Nat → Int32)) => match u with | (f2, f3) => ∀ j, j < 16 → f2 j = aes fw k j) (fun (u : (Nat → Int32) × (Nat → Int32)) => match u with | (f2, f3) => [(h, ob 3 [.ref aw, .ref ab, .ref am]), (aw, aI d 44 fw), (ab, aI d 16 f2), (am, aI d 16 f3), (kh, ob 5 [.ref ka]), (ka, aI d 16 k)])) ([.ref h, .ref kh] : List Value).toArray s 0 0 A) (F0 m 2 ls []) := by
    intro fuel
    induction fuel with
    | zero => intro j g h9; exact absurd h9 (Nat.not_lt_zero _)
    | succ fuel ih2 =>
      intro j g hfu2 hj hg H locs ls hP hD hS hl
      refine lv_iload_n C.x C.b d_CC_encipherCounter_2 rfl (lv_at hl 2 rfl) ?_
      refine lv_bipush (v := nI 16) C.x C.b d_CC_encipherCounter_3 (by decide) ?_
      refine lv_icmp_ge (tgt := 35) C.x C.b d_CC_encipherCounter_5 (by decide) (fun hc5 => ?_) (fun hc5 => ?_)
      · rw [nI_leI (by omega) (by omega)] at hc5
        refine lv_aload_n C.x C.b d_CC_encipherCounter_35 rfl (lv_at hl 0 rfl) ?_
        refine lv_iconst (v := nI 0) C.x C.b d_CC_encipherCounter_36 (by decide) ?_
        refine k_callV (As := [.int (nI 0)]) (rest := []) (wc := [(h, ob 3 [.ref aw, .ref ab, .ref am]), (aw, aI d 44 fw), (ab, aI d 16 g)]) (wr := [(am, aI d 16 fm), (kh, ob 5 [.ref ka]), (ka, aI d 16 k)]) C (c_CC_addRoundKey l d h aw ab am fw g 0 (by omega)) mw_CC_addRoundKey ms_4 m_274 hP hD hS [0, 1, 2] [3, 4, 5] rfl rfl (by decide) (by decide) (by decide) 0 rfl rfl rfl rfl hl.1 (Nat.le_of_ble_eq_true rfl) d_CC_encipherCounter_37 ⟨Nat.le_of_ble_eq_true rfl, Nat.le_of_ble_eq_true rfl⟩ ⟨by decide, by decide⟩ (fun gr H locs hgr hP hD hS => ?_)
        have hP : va_P d.1 clz [(am, aI d 16 fm), (kh, ob 5 [.ref ka]), (ka, aI d 16 k), (h, ob 3 [.ref aw, .ref ab, .ref am]), (aw, aI d 44 fw), (ab, aI d 16 gr)] H := hP
        have hD : va_D A [(am, aI d 16 fm), (kh, ob 5 [.ref ka]), (ka, aI d 16 k), (h, ob 3 [.ref aw, .ref ab, .ref am]), (aw, aI d 44 fw), (ab, aI d 16 gr)] := hD
        refine W.eq (g2 := F0 m 40 ls []) rfl ?_
        have hgr : ∀ j, j < 16 → gr j = ark fw 0 g j := hgr
        refine lv_iconst (v := nI 1) C.x C.b d_CC_encipherCounter_40 (by decide) ?_
        refine lv_istore_n (lv' := [(2, .int (nI 1)), (0, .ref h), (1, .ref kh)]) C.x C.b d_CC_encipherCounter_41 rfl hl (by decide) rfl (fun ls hl => ?_)
        have L42 : ∀ (fuel : Nat) (r : Nat) (b9 : Nat → Int32) (m9 : Nat → Int32), 10 - r < fuel → (r ≤ 10) → (∀ j, j < 16 → b9 j = rnd fw (ctb k) r j) → ∀ (H : Heap) (locs : List Loc) (ls : Array Slot), va_P d.1 clz [(h, ob 3 [.ref aw, .ref ab, .ref am]), (aw, aI d 44 fw), (ab, aI d 16 b9), (am, aI d 16 m9), (kh, ob 5 [.ref ka]), (ka, aI d 16 k)] H → va_D A [(h, ob 3 [.ref aw, .ref ab, .ref am]), (aw, aI d 44 fw), (ab, aI d 16 b9), (am, aI d 16 m9), (kh, ob 5 [.ref ka]), (ka, aI d 16 k)] → va_S A s.heap H locs → lv_has ls 3 [(0, .ref h), (1, .ref kh), (2, .int (nI (r + 1)))] → W p l e (Rm 2 46 0 0) s m ([.ref h, .ref kh] : List Value).toArray below meth c H locs 0 0 (MQ below (Cout d A (fun (u : (Nat → Int32) × (Nat → Int32)) => match u with | (f2, f3) => none) (fun (u : (Nat → Int32) × (Nat → Int32)) => match u with | (f2, f3) => ∀ j, j < 16 → f2 j = aes fw k j) (fun (u : (Nat → Int32) × (Nat → Int32)) => match u with | (f2, f3) => [(h, ob 3 [.ref aw, .ref ab, .ref am]), (aw, aI d 44 fw), (ab, aI d 16 f2), (am, aI d 16 f3), (kh, ob 5 [.ref ka]), (ka, aI d 16 k)])) ([.ref h, .ref kh] : List Value).toArray s 0 0 A) (F0 m 42 ls []) := by
          intro fuel
          induction fuel with
          | zero => intro r b9 m9 h9; exact absurd h9 (Nat.not_lt_zero _)
          | succ fuel ih42 =>
            intro r b9 m9 hfu42 hr hb9 H locs ls hP hD hS hl
            refine lv_iload_n C.x C.b d_CC_encipherCounter_42 rfl (lv_at hl 2 rfl) ?_
            refine lv_bipush (v := nI 10) C.x C.b d_CC_encipherCounter_43 (by decide) ?_
            refine lv_icmp_gt (tgt := 73) C.x C.b d_CC_encipherCounter_45 (by decide) (fun hc45 => ?_) (fun hc45 => ?_)
            · rw [nI_ltI (by omega) (by omega)] at hc45
              have hP9 := hP.sub (ws' := [(h, ob 3 [.ref aw, .ref ab, .ref am]), (aw, aI d 44 fw), (ab, aI d 16 b9), (am, aI d 16 m9), (kh, ob 5 [.ref ka]), (ka, aI d 16 k)]) [0, 1, 2, 3, 4, 5] rfl
              have hD9 := hD.sub (ws' := [(h, ob 3 [.ref aw, .ref ab, .ref am]), (aw, aI d 44 fw), (ab, aI d 16 b9), (am, aI d 16 m9), (kh, ob 5 [.ref ka]), (ka, aI d 16 k)]) [0, 1, 2, 3, 4, 5] (by decide) rfl
              exact k_vret C hS (b9, m9) (rfl) (by rw [show r = 10 from by omega] at hb9; exact hb9) hP9 hD9 d_CC_encipherCounter_73
            · rw [nI_ltI (by omega) (by omega)] at hc45
              refine lv_aload_n C.x C.b d_CC_encipherCounter_48 rfl (lv_at hl 0 rfl) ?_
              refine k_callV (As := []) (rest := []) (wc := [(h, ob 3 [.ref aw, .ref ab, .ref am]), (ab, aI d 16 b9), (am, aI d 16 m9)]) (wr := [(aw, aI d 44 fw), (kh, ob 5 [.ref ka]), (ka, aI d 16 k)]) C (c_CC_substituteAndShift l d h aw ab am b9 m9) mw_CC_substituteAndShift ms_5 m_278 hP hD hS [0, 2, 3] [1, 4, 5] rfl rfl (by decide) (by decide) (by decide) 0 rfl rfl rfl rfl hl.1 (Nat.le_of_ble_eq_true rfl) d_CC_encipherCounter_49 ⟨Nat.le_of_ble_eq_true rfl, Nat.le_of_ble_eq_true rfl⟩ ⟨by decide, by decide⟩ (fun u9 H locs hb2 hP hD hS => ?_)
              obtain ⟨b2, m2⟩ := u9
              have hP : va_P d.1 clz [(aw, aI d 44 fw), (kh, ob 5 [.ref ka]), (ka, aI d 16 k), (h, ob 3 [.ref aw, .ref ab, .ref am]), (ab, aI d 16 b2), (am, aI d 16 m2)] H := hP
              have hD : va_D A [(aw, aI d 44 fw), (kh, ob 5 [.ref ka]), (ka, aI d 16 k), (h, ob 3 [.ref aw, .ref ab, .ref am]), (ab, aI d 16 b2), (am, aI d 16 m2)] := hD
              refine W.eq (g2 := F0 m 52 ls []) rfl ?_
              have hb2 : ∀ j, j < 16 → b2 j = ssh b9 j := hb2
              refine lv_iload_n C.x C.b d_CC_encipherCounter_52 rfl (lv_at hl 2 rfl) ?_
              refine lv_bipush (v := nI 10) C.x C.b d_CC_encipherCounter_53 (by decide) ?_
              refine lv_icmp_ge (tgt := 62) C.x C.b d_CC_encipherCounter_55 (by decide) (fun hc55 => ?_) (fun hc55 => ?_)
              · rw [nI_leI (by omega) (by omega)] at hc55
                refine lv_aload_n C.x C.b d_CC_encipherCounter_62 rfl (lv_at hl 0 rfl) ?_
                refine lv_iload_n C.x C.b d_CC_encipherCounter_63 rfl (lv_at hl 2 rfl) ?_
                refine k_callV (As := [.int (nI (r + 1))]) (rest := []) (wc := [(h, ob 3 [.ref aw, .ref ab, .ref am]), (aw, aI d 44 fw), (ab, aI d 16 b2)]) (wr := [(kh, ob 5 [.ref ka]), (ka, aI d 16 k), (am, aI d 16 m2)]) C (c_CC_addRoundKey l d h aw ab am fw b2 (r + 1) (by omega)) mw_CC_addRoundKey ms_4 m_274 hP hD hS [3, 0, 4] [1, 2, 5] rfl rfl (by decide) (by decide) (by decide) 3 rfl rfl rfl rfl hl.1 (Nat.le_of_ble_eq_true rfl) d_CC_encipherCounter_64 ⟨Nat.le_of_ble_eq_true rfl, Nat.le_of_ble_eq_true rfl⟩ ⟨by decide, by decide⟩ (fun b4 H locs hb4 hP hD hS => ?_)
                have hP : va_P d.1 clz [(kh, ob 5 [.ref ka]), (ka, aI d 16 k), (am, aI d 16 m2), (h, ob 3 [.ref aw, .ref ab, .ref am]), (aw, aI d 44 fw), (ab, aI d 16 b4)] H := hP
                have hD : va_D A [(kh, ob 5 [.ref ka]), (ka, aI d 16 k), (am, aI d 16 m2), (h, ob 3 [.ref aw, .ref ab, .ref am]), (aw, aI d 44 fw), (ab, aI d 16 b4)] := hD
                refine W.eq (g2 := F0 m 67 ls []) rfl ?_
                have hb4 : ∀ j, j < 16 → b4 j = ark fw (r + 1) b2 j := hb4
                have hb5 : ∀ j, j < 16 → b4 j = rnd fw (ctb k) (r + 1) j := by
                  intro j hj
                  rw [hb4 j hj]
                  show _ = ark fw (r + 1) _ j
                  refine ark_cg (by omega) (fun _ _ => rfl) ?_ j hj
                  first | (rw [if_pos (show r + 1 < 10 from by omega)]; intro i hi; rw [hb3 i hi]; exact mxc_cg (fun i hi => by rw [hb2 i hi]; exact ssh_cg hb9 i hi) i hi) | (rw [if_neg (show ¬ r + 1 < 10 from by omega)]; intro i hi; rw [hb2 i hi]; exact ssh_cg hb9 i hi)
                refine lv_iinc (v := nI (r + 1 + 1)) (lv' := [(2, .int (nI (r + 1 + 1))), (0, .ref h), (1, .ref kh)]) C.x C.b d_CC_encipherCounter_67 hl (k := 2) rfl (k_inc _ 1) (by decide) rfl (fun ls hl => ?_)
                refine lv_goto (tgt := 42) C.x C.b d_CC_encipherCounter_70 (by decide) ?_
                exact ih42 (r + 1) b4 m2 (by omega) (by omega) (hb5) _ _ _ (hP.sub [3, 4, 5, 2, 0, 1] (rfl)) (hD.sub [3, 4, 5, 2, 0, 1] (by decide) (rfl)) hS (lv_sub hl [1, 2, 0] (rfl))
              · rw [nI_leI (by omega) (by omega)] at hc55
                refine lv_aload_n C.x C.b d_CC_encipherCounter_58 rfl (lv_at hl 0 rfl) ?_
                refine k_callV (As := []) (rest := []) (wc := [(h, ob 3 [.ref aw, .ref ab, .ref am]), (ab, aI d 16 b2)]) (wr := [(aw, aI d 44 fw), (kh, ob 5 [.ref ka]), (ka, aI d 16 k), (am, aI d 16 m2)]) C (c_CC_mixColumns l d h aw ab am b2) mw_CC_mixColumns ms_6 m_282 hP hD hS [3, 4] [0, 1, 2, 5] rfl rfl (by decide) (by decide) (by decide) 3 rfl rfl rfl rfl hl.1 (Nat.le_of_ble_eq_true rfl) d_CC_encipherCounter_59 ⟨Nat.le_of_ble_eq_true rfl, Nat.le_of_ble_eq_true rfl⟩ ⟨by decide, by decide⟩ (fun b3 H locs hb3 hP hD hS => ?_)
                have hP : va_P d.1 clz [(aw, aI d 44 fw), (kh, ob 5 [.ref ka]), (ka, aI d 16 k), (am, aI d 16 m2), (h, ob 3 [.ref aw, .ref ab, .ref am]), (ab, aI d 16 b3)] H := hP
                have hD : va_D A [(aw, aI d 44 fw), (kh, ob 5 [.ref ka]), (ka, aI d 16 k), (am, aI d 16 m2), (h, ob 3 [.ref aw, .ref ab, .ref am]), (ab, aI d 16 b3)] := hD
                refine W.eq (g2 := F0 m 62 ls []) rfl ?_
                have hb3 : ∀ j, j < 16 → b3 j = mxc b2 j := hb3
                refine lv_aload_n C.x C.b d_CC_encipherCounter_62 rfl (lv_at hl 0 rfl) ?_
                refine lv_iload_n C.x C.b d_CC_encipherCounter_63 rfl (lv_at hl 2 rfl) ?_
                refine k_callV (As := [.int (nI (r + 1))]) (rest := []) (wc := [(h, ob 3 [.ref aw, .ref ab, .ref am]), (aw, aI d 44 fw), (ab, aI d 16 b3)]) (wr := [(kh, ob 5 [.ref ka]), (ka, aI d 16 k), (am, aI d 16 m2)]) C (c_CC_addRoundKey l d h aw ab am fw b3 (r + 1) (by omega)) mw_CC_addRoundKey ms_4 m_274 hP hD hS [4, 0, 5] [1, 2, 3] rfl rfl (by decide) (by decide) (by decide) 4 rfl rfl rfl rfl hl.1 (Nat.le_of_ble_eq_true rfl) d_CC_encipherCounter_64 ⟨Nat.le_of_ble_eq_true rfl, Nat.le_of_ble_eq_true rfl⟩ ⟨by decide, by decide⟩ (fun b4 H locs hb4 hP hD hS => ?_)
                have hP : va_P d.1 clz [(kh, ob 5 [.ref ka]), (ka, aI d 16 k), (am, aI d 16 m2), (h, ob 3 [.ref aw, .ref ab, .ref am]), (aw, aI d 44 fw), (ab, aI d 16 b4)] H := hP
                have hD : va_D A [(kh, ob 5 [.ref ka]), (ka, aI d 16 k), (am, aI d 16 m2), (h, ob 3 [.ref aw, .ref ab, .ref am]), (aw, aI d 44 fw), (ab, aI d 16 b4)] := hD
                refine W.eq (g2 := F0 m 67 ls []) rfl ?_
                have hb4 : ∀ j, j < 16 → b4 j = ark fw (r + 1) b3 j := hb4
                have hb5 : ∀ j, j < 16 → b4 j = rnd fw (ctb k) (r + 1) j := by
                  intro j hj
                  rw [hb4 j hj]
                  show _ = ark fw (r + 1) _ j
                  refine ark_cg (by omega) (fun _ _ => rfl) ?_ j hj
                  first | (rw [if_pos (show r + 1 < 10 from by omega)]; intro i hi; rw [hb3 i hi]; exact mxc_cg (fun i hi => by rw [hb2 i hi]; exact ssh_cg hb9 i hi) i hi) | (rw [if_neg (show ¬ r + 1 < 10 from by omega)]; intro i hi; rw [hb2 i hi]; exact ssh_cg hb9 i hi)
                refine lv_iinc (v := nI (r + 1 + 1)) (lv' := [(2, .int (nI (r + 1 + 1))), (0, .ref h), (1, .ref kh)]) C.x C.b d_CC_encipherCounter_67 hl (k := 2) rfl (k_inc _ 1) (by decide) rfl (fun ls hl => ?_)
                refine lv_goto (tgt := 42) C.x C.b d_CC_encipherCounter_70 (by decide) ?_
                exact ih42 (r + 1) b4 m2 (by omega) (by omega) (hb5) _ _ _ (hP.sub [3, 4, 5, 2, 0, 1] (rfl)) (hD.sub [3, 4, 5, 2, 0, 1] (by decide) (rfl)) hS (lv_sub hl [1, 2, 0] (rfl))
        exact L42 ((10 - 0) + 1) 0 gr fm (Nat.lt_succ_self _) (by omega) (fun i hi => by rw [hgr i hi]; exact ark_cg (by omega) (fun _ _ => rfl) (fun q hq => hg q (by omega)) i hi) _ _ _ (hP.sub [3, 4, 5, 0, 1, 2] (rfl)) (hD.sub [3, 4, 5, 0, 1, 2] (by decide) (rfl)) hS (lv_sub hl [1, 2, 0] (rfl))
      · rw [nI_leI (by omega) (by omega)] at hc5
        refine lv_aload_n C.x C.b d_CC_encipherCounter_8 rfl (lv_at hl 0 rfl) ?_
        refine k_get C hP 0 rfl rfl i_CC 1 (by decide) m_77 rfl d_CC_encipherCounter_9 ?_
        refine lv_iload_n C.x C.b d_CC_encipherCounter_12 rfl (lv_at hl 2 rfl) ?_
        refine lv_aload_n C.x C.b d_CC_encipherCounter_13 rfl (lv_at hl 1 rfl) ?_
        refine lv_iconst (v := nI 4) C.x C.b d_CC_encipherCounter_14 (by decide) ?_
        refine lv_iload_n C.x C.b d_CC_encipherCounter_15 rfl (lv_at hl 2 rfl) ?_
        refine lv_iconst (v := nI 4) C.x C.b d_CC_encipherCounter_16 (by decide) ?_
        refine lv_idiv C.x C.b d_CC_encipherCounter_17 (by decide) ?_
        refine k_top (y := nI (j / 4)) (pk_div (by omega) (by omega) (by omega)) ?_
        refine lv_iadd C.x C.b d_CC_encipherCounter_18 ?_
        refine k_top (y := nI (4 + (j / 4))) (nI_add _ _) ?_
        refine k_callV (As := [.int (nI (4 + (j / 4)))]) (rest := [.int (nI j), .ref ab]) (wc := [(kh, ob 5 [.ref ka]), (ka, aI d 16 k)]) (wr := [(h, ob 3 [.ref aw, .ref ab, .ref am]), (aw, aI d 44 fw), (ab, aI d 16 g), (am, aI d 16 fm)]) C (c_KY_word l d kh ka k (4 + j / 4) (by omega)) mw_KY_word m_187 m_185 hP hD hS [4, 5] [0, 1, 2, 3] rfl rfl (by decide) (by decide) (by decide) 4 rfl rfl rfl rfl hl.1 (Nat.le_of_ble_eq_true rfl) d_CC_encipherCounter_19 ⟨Nat.le_of_ble_eq_true rfl, Nat.le_of_ble_eq_true rfl⟩ ⟨by decide, by decide⟩ (fun _ H locs hw_15 hP hD hS => ?_)
        have hP : va_P d.1 clz [(h, ob 3 [.ref aw, .ref ab, .ref am]), (aw, aI d 44 fw), (ab, aI d 16 g), (am, aI d 16 fm), (kh, ob 5 [.ref ka]), (ka, aI d 16 k)] H := hP
        have hD : va_D A [(h, ob 3 [.ref aw, .ref ab, .ref am]), (aw, aI d 44 fw), (ab, aI d 16 g), (am, aI d 16 fm), (kh, ob 5 [.ref ka]), (ka, aI d 16 k)] := hD
        refine W.eq (g2 := F0 m 22 ls [.int (k (4 + j / 4)), .int (nI j), .ref ab]) rfl ?_
        refine lv_iload_n C.x C.b d_CC_encipherCounter_22 rfl (lv_at hl 2 rfl) ?_
        refine lv_iconst (v := nI 4) C.x C.b d_CC_encipherCounter_23 (by decide) ?_
        refine lv_irem C.x C.b d_CC_encipherCounter_24 (by decide) ?_
        refine k_top (y := nI (j % 4)) (pk_rem (by omega) (by omega) (by omega)) ?_
        refine k_callS (As := [.int (k (4 + j / 4)), .int (nI (j % 4))]) (rest := [.int (nI j), .ref ab]) (wc := []) (wr := [(h, ob 3 [.ref aw, .ref ab, .ref am]), (aw, aI d 44 fw), (ab, aI d 16 g), (am, aI d 16 fm), (kh, ob 5 [.ref ka]), (ka, aI d 16 k)]) C (c_CC_byteOf l d (k (4 + j / 4)) (j % 4) (by omega)) mw_CC_byteOf m_264 hP hD hS [] [0, 1, 2, 3, 4, 5] rfl rfl (by decide) (by decide) (by decide) rfl hl.1 (Nat.le_of_ble_eq_true rfl) d_CC_encipherCounter_25 ⟨Nat.le_of_ble_eq_true rfl, Nat.le_of_ble_eq_true rfl⟩ ⟨by decide, by decide⟩ (fun _ H locs hw_16 hP hD hS => ?_)
        have hP : va_P d.1 clz [(h, ob 3 [.ref aw, .ref ab, .ref am]), (aw, aI d 44 fw), (ab, aI d 16 g), (am, aI d 16 fm), (kh, ob 5 [.ref ka]), (ka, aI d 16 k)] H := hP
        have hD : va_D A [(h, ob 3 [.ref aw, .ref ab, .ref am]), (aw, aI d 44 fw), (ab, aI d 16 g), (am, aI d 16 fm), (kh, ob 5 [.ref ka]), (ka, aI d 16 k)] := hD
        refine W.eq (g2 := F0 m 28 ls [.int (byt (k (4 + j / 4)) (j % 4)), .int (nI j), .ref ab]) rfl ?_
        refine k_iast C hP hD hS 2 rfl (j := j) (by omega) (by omega) d_CC_encipherCounter_28 (fun H locs hP hD hS => ?_)
        have hP : va_P d.1 clz [(h, ob 3 [.ref aw, .ref ab, .ref am]), (aw, aI d 44 fw), (ab, aI d 16 (upd g j (byt (k (4 + j / 4)) (j % 4)))), (am, aI d 16 fm), (kh, ob 5 [.ref ka]), (ka, aI d 16 k)] H := hP
        have hD : va_D A [(h, ob 3 [.ref aw, .ref ab, .ref am]), (aw, aI d 44 fw), (ab, aI d 16 (upd g j (byt (k (4 + j / 4)) (j % 4)))), (am, aI d 16 fm), (kh, ob 5 [.ref ka]), (ka, aI d 16 k)] := hD
        refine lv_iinc (v := nI (j + 1)) (lv' := [(2, .int (nI (j + 1))), (0, .ref h), (1, .ref kh)]) C.x C.b d_CC_encipherCounter_29 hl (k := 2) rfl (k_inc _ 1) (by decide) rfl (fun ls hl => ?_)
        refine lv_goto (tgt := 2) C.x C.b d_CC_encipherCounter_32 (by decide) ?_
        exact ih2 (j + 1) (upd g j (byt (k (4 + j / 4)) (j % 4))) (by omega) (by omega) (upd_le (g := g) hg rfl) _ _ _ (hP.sub [0, 1, 2, 3, 4, 5] (rfl)) (hD.sub [0, 1, 2, 3, 4, 5] (by decide) (rfl)) hS (lv_sub hl [1, 2, 0] (rfl))
  exact L2 ((16 - 0) + 1) 0 fb (Nat.lt_succ_self _) (by omega) (fun i hi => absurd hi (Nat.not_lt_zero _)) _ _ _ (hP.sub [0, 1, 2, 3, 4, 5] (rfl)) (hD.sub [0, 1, 2, 3, 4, 5] (by decide) (rfl)) hS (lv_sub hl [1, 2, 0] (rfl))
theorem mw_CC_firstBlock : Mw y_CC_firstBlock b_CC_firstBlock 2 none 1 := ⟨m_180, m_6, m_178, by decide +kernel⟩
set_option maxHeartbeats 4000000 in
set_option maxRecDepth 100000 in
theorem c_CC_firstBlock (l : Launch) (d : DD) (h : Nat) (aw : Nat) (ab : Nat) (am : Nat) (fw : Nat → Int32) (fb : Nat → Int32) (fm : Nat → Int32) (kh : Nat) (ka : Nat) (k : Nat → Int32) : Ct l y_CC_firstBlock b_CC_firstBlock 2 none 3 68 0 0 d [(h, ob 3 [.ref aw, .ref ab, .ref am]), (aw, aI d 44 fw), (ab, aI d 16 fb), (am, aI d 16 fm), (kh, ob 5 [.ref ka]), (ka, aI d 16 k)] [.ref h, .ref kh] (fun (u : (Nat → Int32) × (Nat → Int32) × (Nat → Int32)) => match u with | (f1, f2, f3) => none) (fun (u : (Nat → Int32) × (Nat → Int32) × (Nat → Int32)) => match u with | (f1, f2, f3) => ∀ j, j < 16 → f2 j = aes (ksch k) k j) (fun (u : (Nat → Int32) × (Nat → Int32) × (Nat → Int32)) => match u with | (f1, f2, f3) => [(h, ob 3 [.ref aw, .ref ab, .ref am]), (aw, aI d 44 f1), (ab, aI d 16 f2), (am, aI d 16 f3), (kh, ob 5 [.ref ka]), (ka, aI d 16 k)]) := by
  refine Ct.of (by decide +kernel) (Nat.le_of_ble_eq_true rfl) ?_
  intro p e s m below meth c A ls C hP hD hS hl
  have hl : lv_has ls 2 [(0, .ref h), (1, .ref kh)] := hl
  have hsz9 := hS.1
  refine lv_aload_n C.x C.b d_CC_firstBlock_0 rfl (lv_at hl 0 rfl) ?_
  refine lv_aload_n C.x C.b d_CC_firstBlock_1 rfl (lv_at hl 1 rfl) ?_
  refine k_callV (As := [.ref kh]) (rest := []) (wc := [(h, ob 3 [.ref aw, .ref ab, .ref am]), (aw, aI d 44 fw), (kh, ob 5 [.ref ka]), (ka, aI d 16 k)]) (wr := [(ab, aI d 16 fb), (am, aI d 16 fm)]) C (c_CC_spreadKey l d h aw ab am fw kh ka k) mw_CC_spreadKey ms_1 m_181 hP hD hS [0, 1, 4, 5] [2, 3] rfl rfl (by decide) (by decide) (by decide) 0 rfl rfl rfl rfl hl.1 (Nat.le_of_ble_eq_true rfl) d_CC_firstBlock_2 ⟨Nat.le_of_ble_eq_true rfl, Nat.le_of_ble_eq_true rfl⟩ ⟨by decide, by decide⟩ (fun f1 H locs hf1 hP hD hS => ?_)
  have hP : va_P d.1 clz [(ab, aI d 16 fb), (am, aI d 16 fm), (h, ob 3 [.ref aw, .ref ab, .ref am]), (aw, aI d 44 f1), (kh, ob 5 [.ref ka]), (ka, aI d 16 k)] H := hP
  have hD : va_D A [(ab, aI d 16 fb), (am, aI d 16 fm), (h, ob 3 [.ref aw, .ref ab, .ref am]), (aw, aI d 44 f1), (kh, ob 5 [.ref ka]), (ka, aI d 16 k)] := hD
  refine W.eq (g2 := F0 m 5 ls []) rfl ?_
  have hf1 : ∀ j, j < 44 → f1 j = ksch k j := hf1
  refine lv_aload_n C.x C.b d_CC_firstBlock_5 rfl (lv_at hl 0 rfl) ?_
  refine lv_aload_n C.x C.b d_CC_firstBlock_6 rfl (lv_at hl 1 rfl) ?_
  refine k_callV (As := [.ref kh]) (rest := []) (wc := [(h, ob 3 [.ref aw, .ref ab, .ref am]), (aw, aI d 44 f1), (ab, aI d 16 fb), (am, aI d 16 fm), (kh, ob 5 [.ref ka]), (ka, aI d 16 k)]) (wr := []) C (c_CC_encipherCounter l d h aw ab am f1 fb fm kh ka k) mw_CC_encipherCounter ms_3 m_270 hP hD hS [2, 3, 0, 1, 4, 5] [] rfl rfl (by decide) (by decide) (by decide) 2 rfl rfl rfl rfl hl.1 (Nat.le_of_ble_eq_true rfl) d_CC_firstBlock_7 ⟨Nat.le_of_ble_eq_true rfl, Nat.le_of_ble_eq_true rfl⟩ ⟨by decide, by decide⟩ (fun u9 H locs hf2 hP hD hS => ?_)
  obtain ⟨f2, f3⟩ := u9
  have hP : va_P d.1 clz [(h, ob 3 [.ref aw, .ref ab, .ref am]), (aw, aI d 44 f1), (ab, aI d 16 f2), (am, aI d 16 f3), (kh, ob 5 [.ref ka]), (ka, aI d 16 k)] H := hP
  have hD : va_D A [(h, ob 3 [.ref aw, .ref ab, .ref am]), (aw, aI d 44 f1), (ab, aI d 16 f2), (am, aI d 16 f3), (kh, ob 5 [.ref ka]), (ka, aI d 16 k)] := hD
  refine W.eq (g2 := F0 m 10 ls []) rfl ?_
  have hf2 : ∀ j, j < 16 → f2 j = aes f1 k j := hf2
  have hP9 := hP.sub (ws' := [(h, ob 3 [.ref aw, .ref ab, .ref am]), (aw, aI d 44 f1), (ab, aI d 16 f2), (am, aI d 16 f3), (kh, ob 5 [.ref ka]), (ka, aI d 16 k)]) [0, 1, 2, 3, 4, 5] rfl
  have hD9 := hD.sub (ws' := [(h, ob 3 [.ref aw, .ref ab, .ref am]), (aw, aI d 44 f1), (ab, aI d 16 f2), (am, aI d 16 f3), (kh, ob 5 [.ref ka]), (ka, aI d 16 k)]) [0, 1, 2, 3, 4, 5] (by decide) rfl
  exact k_vret C hS (f1, f2, f3) (rfl) (by intro j hj; rw [hf2 j hj]; exact rnd_cg hf1 (fun _ _ => rfl) 10 (by omega) j hj) hP9 hD9 d_CC_firstBlock_10
theorem mw_CC_init : Mw y_CC_init b_CC_init 1 none 0 := ⟨m_74, m_6, m_73, by decide +kernel⟩
set_option maxHeartbeats 4000000 in
set_option maxRecDepth 100000 in
theorem c_CC_init (l : Launch) (d : DD) (h : Nat) : Ct l y_CC_init b_CC_init 1 none 1 12 3 76 d [(h, ob 3 [.null, .null, .null])] [.ref h] (fun (u : (Nat) × (Nat) × (Nat)) => match u with | (aw, ab, am) => none) (fun (u : (Nat) × (Nat) × (Nat)) => match u with | (aw, ab, am) => True) (fun (u : (Nat) × (Nat) × (Nat)) => match u with | (aw, ab, am) => [(h, ob 3 [.ref aw, .ref ab, .ref am]), (aw, aI d 44 (fun _ => 0)), (ab, aI d 16 (fun _ => 0)), (am, aI d 16 (fun _ => 0))]) := by
  refine Ct.of (by decide +kernel) (Nat.le_of_ble_eq_true rfl) ?_
  intro p e s m below meth c A ls C hP hD hS hl
  have hl : lv_has ls 1 [(0, .ref h)] := hl
  have hsz9 := hS.1
  refine lv_aload_n C.x C.b d_CC_init_0 rfl (lv_at hl 0 rfl) ?_
  refine W.objInit C.x C.b C.o (C.t _ m_75) (C.t _ m_22) (C.t _ m_obj) rfl (by rw [C.ml]; exact hl.1) rfl d_CC_init_1 (Nat.le_of_ble_eq_true rfl) (Nat.le_of_ble_eq_true rfl) ?_
  refine W.eq (g2 := F0 m 4 ls []) rfl ?_
  refine lv_aload_n C.x C.b d_CC_init_4 rfl (lv_at hl 0 rfl) ?_
  refine lv_bipush (v := nI 44) C.x C.b d_CC_init_5 (by decide) ?_
  refine k_newI (n := 44) C hP hD hS (by omega) (by decide) (by decide) d_CC_init_7 (fun q_1 H hP hD hS => ?_)
  have hP : va_P d.1 clz [(h, ob 3 [.null, .null, .null]), (q_1, aI d 44 (fun _ => 0))] H := hP
  have hD : va_D A [(h, ob 3 [.null, .null, .null]), (q_1, aI d 44 (fun _ => 0))] := hD
  refine k_putF C rfl hP hD hS 0 rfl rfl i_CC tk_CC n_CC 0 (by decide) m_76 rfl rfl rfl rfl (Nat.le_of_ble_eq_true rfl) d_CC_init_9 (fun H locs hP hD hS => ?_)
  have hP : va_P d.1 clz [(h, ob 3 [.ref q_1, .null, .null]), (q_1, aI d 44 (fun _ => 0))] H := hP
  have hD : va_D A [(h, ob 3 [.ref q_1, .null, .null]), (q_1, aI d 44 (fun _ => 0))] := hD
  refine lv_aload_n C.x C.b d_CC_init_12 rfl (lv_at hl 0 rfl) ?_
  refine lv_bipush (v := nI 16) C.x C.b d_CC_init_13 (by decide) ?_
  refine k_newI (n := 16) C hP hD hS (by omega) (by decide) (by decide) d_CC_init_15 (fun q_2 H hP hD hS => ?_)
  have hP : va_P d.1 clz [(h, ob 3 [.ref q_1, .null, .null]), (q_1, aI d 44 (fun _ => 0)), (q_2, aI d 16 (fun _ => 0))] H := hP
  have hD : va_D A [(h, ob 3 [.ref q_1, .null, .null]), (q_1, aI d 44 (fun _ => 0)), (q_2, aI d 16 (fun _ => 0))] := hD
  refine k_putF C rfl hP hD hS 0 rfl rfl i_CC tk_CC n_CC 1 (by decide) m_77 rfl rfl rfl rfl (Nat.le_of_ble_eq_true rfl) d_CC_init_17 (fun H locs hP hD hS => ?_)
  have hP : va_P d.1 clz [(h, ob 3 [.ref q_1, .ref q_2, .null]), (q_1, aI d 44 (fun _ => 0)), (q_2, aI d 16 (fun _ => 0))] H := hP
  have hD : va_D A [(h, ob 3 [.ref q_1, .ref q_2, .null]), (q_1, aI d 44 (fun _ => 0)), (q_2, aI d 16 (fun _ => 0))] := hD
  refine lv_aload_n C.x C.b d_CC_init_20 rfl (lv_at hl 0 rfl) ?_
  refine lv_bipush (v := nI 16) C.x C.b d_CC_init_21 (by decide) ?_
  refine k_newI (n := 16) C hP hD hS (by omega) (by decide) (by decide) d_CC_init_23 (fun q_3 H hP hD hS => ?_)
  have hP : va_P d.1 clz [(h, ob 3 [.ref q_1, .ref q_2, .null]), (q_1, aI d 44 (fun _ => 0)), (q_2, aI d 16 (fun _ => 0)), (q_3, aI d 16 (fun _ => 0))] H := hP
  have hD : va_D A [(h, ob 3 [.ref q_1, .ref q_2, .null]), (q_1, aI d 44 (fun _ => 0)), (q_2, aI d 16 (fun _ => 0)), (q_3, aI d 16 (fun _ => 0))] := hD
  refine k_putF C rfl hP hD hS 0 rfl rfl i_CC tk_CC n_CC 2 (by decide) m_78 rfl rfl rfl rfl (Nat.le_of_ble_eq_true rfl) d_CC_init_25 (fun H locs hP hD hS => ?_)
  have hP : va_P d.1 clz [(h, ob 3 [.ref q_1, .ref q_2, .ref q_3]), (q_1, aI d 44 (fun _ => 0)), (q_2, aI d 16 (fun _ => 0)), (q_3, aI d 16 (fun _ => 0))] H := hP
  have hD : va_D A [(h, ob 3 [.ref q_1, .ref q_2, .ref q_3]), (q_1, aI d 44 (fun _ => 0)), (q_2, aI d 16 (fun _ => 0)), (q_3, aI d 16 (fun _ => 0))] := hD
  have hP9 := hP.sub (ws' := [(h, ob 3 [.ref q_1, .ref q_2, .ref q_3]), (q_1, aI d 44 (fun _ => 0)), (q_2, aI d 16 (fun _ => 0)), (q_3, aI d 16 (fun _ => 0))]) [0, 1, 2, 3] rfl
  have hD9 := hD.sub (ws' := [(h, ob 3 [.ref q_1, .ref q_2, .ref q_3]), (q_1, aI d 44 (fun _ => 0)), (q_2, aI d 16 (fun _ => 0)), (q_3, aI d 16 (fun _ => 0))]) [0, 1, 2, 3] (by decide) rfl
  exact k_vret C hS (q_1, q_2, q_3) (rfl) (trivial) hP9 hD9 d_CC_init_28
