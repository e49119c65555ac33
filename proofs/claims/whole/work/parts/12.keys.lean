/-- the counter, words 4 .. 7, goes up by one -/
def ctrUp (f : Nat → Int32) : Nat → Int32 :=
  if (upd f 7 (f 7 + nI 1)) 7 = 0 then
    if (upd (upd f 7 (f 7 + nI 1)) 6 ((upd f 7 (f 7 + nI 1)) 6 + nI 1)) 6 = 0 then
      if (upd (upd (upd f 7 (f 7 + nI 1)) 6 ((upd f 7 (f 7 + nI 1)) 6 + nI 1)) 5 ((upd (upd f 7 (f 7 + nI 1)) 6 ((upd f 7 (f 7 + nI 1)) 6 + nI 1)) 5 + nI 1)) 5 = 0 then
        upd (upd (upd (upd f 7 (f 7 + nI 1)) 6 ((upd f 7 (f 7 + nI 1)) 6 + nI 1)) 5 ((upd (upd f 7 (f 7 + nI 1)) 6 ((upd f 7 (f 7 + nI 1)) 6 + nI 1)) 5 + nI 1)) 4 ((upd (upd (upd f 7 (f 7 + nI 1)) 6 ((upd f 7 (f 7 + nI 1)) 6 + nI 1)) 5 ((upd (upd f 7 (f 7 + nI 1)) 6 ((upd f 7 (f 7 + nI 1)) 6 + nI 1)) 5 + nI 1)) 4 + nI 1)
      else upd (upd (upd f 7 (f 7 + nI 1)) 6 ((upd f 7 (f 7 + nI 1)) 6 + nI 1)) 5 ((upd (upd f 7 (f 7 + nI 1)) 6 ((upd f 7 (f 7 + nI 1)) 6 + nI 1)) 5 + nI 1)
    else upd (upd f 7 (f 7 + nI 1)) 6 ((upd f 7 (f 7 + nI 1)) 6 + nI 1)
  else upd f 7 (f 7 + nI 1)
theorem upd_le {f g : Nat → Int32} {i : Nat} {x : Int32} {p : Nat → Int32} (h : ∀ j, j < i → f j = p j) (hx : x = p i) : ∀ j, j < i + 1 → upd f i x j = p j := by
  intro j hj
  by_cases e : j = i
  · rw [e, pk_us, hx]
  · rw [pk_un e]; exact h j (by omega)
theorem mw_KY_checkIndex : Msw y_KY_checkIndex b_KY_checkIndex 1 none 1 := ⟨m_191, m_2, m_190, by decide +kernel⟩
set_option maxHeartbeats 4000000 in
set_option maxRecDepth 100000 in
theorem c_KY_checkIndex (l : Launch) (d : DD) (i : Nat) (hi : i < 16) : Ct l y_KY_checkIndex b_KY_checkIndex 1 none 0 0 0 0 d [] [.int (nI i)] (fun (_ : Unit) => none) (fun (_ : Unit) => True) (fun (_ : Unit) => []) := by
  refine Ct.of (by decide +kernel) (Nat.le_of_ble_eq_true rfl) ?_
  intro p e s m below meth c A ls C hP hD hS hl
  have hl : lv_has ls 1 [(0, .int (nI i))] := hl
  have hsz9 := hS.1
  refine lv_iload_n C.x C.b d_KY_checkIndex_0 rfl (lv_at hl 0 rfl) ?_
  refine lv_if_lt (tgt := 10) C.x C.b d_KY_checkIndex_1 (by decide) (fun h9 => False.elim (nI_pos (by omega) h9)) (fun hc_1 => ?_)
  rw [← nI_0, nI_ltI (by omega) (by omega)] at hc_1
  refine lv_iload_n C.x C.b d_KY_checkIndex_4 rfl (lv_at hl 0 rfl) ?_
  refine lv_bipush (v := nI 16) C.x C.b d_KY_checkIndex_5 (by decide) ?_
  refine lv_icmp_lt (tgt := 20) C.x C.b d_KY_checkIndex_7 (by decide) (fun hc_2 => ?_) (fun h9 => False.elim (h9 (nI_lt (by omega) (by omega))))
  rw [nI_ltI (by omega) (by omega)] at hc_2
  have hP9 := hP.sub (ws' := []) [] rfl
  have hD9 := hD.sub (ws' := []) [] (by decide) rfl
  exact k_vret C hS () (rfl) (trivial) hP9 hD9 d_KY_checkIndex_20
theorem mw_KY_word : Mw y_KY_word b_KY_word 2 (some .int) 1 := ⟨m_188, m_2, m_186, by decide +kernel⟩
set_option maxHeartbeats 4000000 in
set_option maxRecDepth 100000 in
theorem c_KY_word (l : Launch) (d : DD) (h : Nat) (a : Nat) (f : Nat → Int32) (i : Nat) (hi : i < 16) : Ct l y_KY_word b_KY_word 2 (some .int) 1 20 0 0 d [(h, ob 5 [.ref a]), (a, aI d 16 f)] [.ref h, .int (nI i)] (fun (_ : Unit) => some (.int (f i))) (fun (_ : Unit) => True) (fun (_ : Unit) => [(h, ob 5 [.ref a]), (a, aI d 16 f)]) := by
  refine Ct.of (by decide +kernel) (Nat.le_of_ble_eq_true rfl) ?_
  intro p e s m below meth c A ls C hP hD hS hl
  have hl : lv_has ls 2 [(0, .ref h), (1, .int (nI i))] := hl
  have hsz9 := hS.1
  refine lv_iload_n C.x C.b d_KY_word_0 rfl (lv_at hl 1 rfl) ?_
  refine k_callS (As := [.int (nI i)]) (rest := []) (wc := []) (wr := [(h, ob 5 [.ref a]), (a, aI d 16 f)]) C (c_KY_checkIndex l d i (hi)) mw_KY_checkIndex m_189 hP hD hS [] [0, 1] rfl rfl (by decide) (by decide) (by decide) rfl hl.1 (Nat.le_of_ble_eq_true rfl) d_KY_word_1 ⟨Nat.le_of_ble_eq_true rfl, Nat.le_of_ble_eq_true rfl⟩ ⟨by decide, by decide⟩ (fun _ H locs hw_1 hP hD hS => ?_)
  have hP : va_P d.1 clz [(h, ob 5 [.ref a]), (a, aI d 16 f)] H := hP
  have hD : va_D A [(h, ob 5 [.ref a]), (a, aI d 16 f)] := hD
  refine W.eq (g2 := F0 m 4 ls []) rfl ?_
  refine lv_aload_n C.x C.b d_KY_word_4 rfl (lv_at hl 0 rfl) ?_
  refine k_get C hP 0 rfl rfl i_KY 0 (by decide) m_30 rfl d_KY_word_5 ?_
  refine lv_iload_n C.x C.b d_KY_word_8 rfl (lv_at hl 1 rfl) ?_
  refine k_iald C hP 1 rfl (j := i) (by omega) (by omega) d_KY_word_9 ?_
  have hP9 := hP.sub (ws' := [(h, ob 5 [.ref a]), (a, aI d 16 f)]) [0, 1] rfl
  have hD9 := hD.sub (ws' := [(h, ob 5 [.ref a]), (a, aI d 16 f)]) [0, 1] (by decide) rfl
  exact k_iret C hS () (rfl) (trivial) hP9 hD9 d_KY_word_10
theorem mw_KY_change : Mw y_KY_change b_KY_change 3 none 2 := ⟨m_448, m_2, m_446, by decide +kernel⟩
set_option maxHeartbeats 4000000 in
set_option maxRecDepth 100000 in
theorem c_KY_change (l : Launch) (d : DD) (h : Nat) (a : Nat) (f : Nat → Int32) (i : Nat) (v : Int32) (hi : i < 16) : Ct l y_KY_change b_KY_change 3 none 1 20 0 0 d [(h, ob 5 [.ref a]), (a, aI d 16 f)] [.ref h, .int (nI i), .int v] (fun (_ : Unit) => none) (fun (_ : Unit) => True) (fun (_ : Unit) => [(h, ob 5 [.ref a]), (a, aI d 16 (upd f i v))]) := by
  refine Ct.of (by decide +kernel) (Nat.le_of_ble_eq_true rfl) ?_
  intro p e s m below meth c A ls C hP hD hS hl
  have hl : lv_has ls 3 [(0, .ref h), (1, .int (nI i)), (2, .int v)] := hl
  have hsz9 := hS.1
  refine lv_iload_n C.x C.b d_KY_change_0 rfl (lv_at hl 1 rfl) ?_
  refine k_callS (As := [.int (nI i)]) (rest := []) (wc := []) (wr := [(h, ob 5 [.ref a]), (a, aI d 16 f)]) C (c_KY_checkIndex l d i (hi)) mw_KY_checkIndex m_189 hP hD hS [] [0, 1] rfl rfl (by decide) (by decide) (by decide) rfl hl.1 (Nat.le_of_ble_eq_true rfl) d_KY_change_1 ⟨Nat.le_of_ble_eq_true rfl, Nat.le_of_ble_eq_true rfl⟩ ⟨by decide, by decide⟩ (fun _ H locs hw_1 hP hD hS => ?_)
  have hP : va_P d.1 clz [(h, ob 5 [.ref a]), (a, aI d 16 f)] H := hP
  have hD : va_D A [(h, ob 5 [.ref a]), (a, aI d 16 f)] := hD
  refine W.eq (g2 := F0 m 4 ls []) rfl ?_
  refine lv_aload_n C.x C.b d_KY_change_4 rfl (lv_at hl 0 rfl) ?_
  refine k_get C hP 0 rfl rfl i_KY 0 (by decide) m_30 rfl d_KY_change_5 ?_
  refine lv_iload_n C.x C.b d_KY_change_8 rfl (lv_at hl 1 rfl) ?_
  refine lv_iload_n C.x C.b d_KY_change_9 rfl (lv_at hl 2 rfl) ?_
  refine k_iast C hP hD hS 1 rfl (j := i) (by omega) (by omega) d_KY_change_10 (fun H locs hP hD hS => ?_)
  have hP : va_P d.1 clz [(h, ob 5 [.ref a]), (a, aI d 16 (upd f i v))] H := hP
  have hD : va_D A [(h, ob 5 [.ref a]), (a, aI d 16 (upd f i v))] := hD
  have hP9 := hP.sub (ws' := [(h, ob 5 [.ref a]), (a, aI d 16 (upd f i v))]) [0, 1] rfl
  have hD9 := hD.sub (ws' := [(h, ob 5 [.ref a]), (a, aI d 16 (upd f i v))]) [0, 1] (by decide) rfl
  exact k_vret C hS () (rfl) (trivial) hP9 hD9 d_KY_change_11
theorem mw_KY_copyFrom : Mw y_KY_copyFrom b_KY_copyFrom 3 none 1 := ⟨m_423, m_2, m_421, by decide +kernel⟩
set_option maxHeartbeats 4000000 in
set_option maxRecDepth 100000 in
theorem c_KY_copyFrom (l : Launch) (d : DD) (h : Nat) (a : Nat) (f : Nat → Int32) (h1 : Nat) (a1 : Nat) (f1 : Nat → Int32) : Ct l y_KY_copyFrom b_KY_copyFrom 3 none 0 0 0 0 d [(h, ob 5 [.ref a]), (a, aI d 16 f), (h1, ob 5 [.ref a1]), (a1, aI d 16 f1)] [.ref h, .ref h1] (fun (f2 : Nat → Int32) => none) (fun (f2 : Nat → Int32) => ∀ j, j < 16 → f2 j = f1 j) (fun (f2 : Nat → Int32) => [(h, ob 5 [.ref a]), (a, aI d 16 f2), (h1, ob 5 [.ref a1]), (a1, aI d 16 f1)]) := by
  refine Ct.of (by decide +kernel) (Nat.le_of_ble_eq_true rfl) ?_
  intro p e s m below meth c A ls C hP hD hS hl
  have hl : lv_has ls 3 [(0, .ref h), (1, .ref h1)] := hl
  have hsz9 := hS.1
  refine lv_iconst (v := nI 0) C.x C.b d_KY_copyFrom_0 (by decide) ?_
  refine lv_istore_n (lv' := [(2, .int (nI 0)), (0, .ref h), (1, .ref h1)]) C.x C.b d_KY_copyFrom_1 rfl hl (by decide) rfl (fun ls hl => ?_)
  have L2 : ∀ (fuel : Nat) (j : Nat) (g : Nat → Int32), 16 - j < fuel → (j ≤ 16) → (∀ i, i < j → g i = f1 i) → ∀ (H : Heap) (locs : List Loc) (ls : Array Slot), va_P d.1 clz [(h, ob 5 [.ref a]), (a, aI d 16 g), (h1, ob 5 [.ref a1]), (a1, aI d 16 f1)] H → va_D A [(h, ob 5 [.ref a]), (a, aI d 16 g), (h1, ob 5 [.ref a1]), (a1, aI d 16 f1)] → va_S A s.heap H locs → lv_has ls 3 [(0, .ref h), (1, .ref h1), (2, .int (nI j))] → W p l e (Rm 0 0 0 0) s m ([.ref h, .ref h1] : List Value).toArray below meth c H locs 0 0 (MQ below (Cout d A (fun (f2 : Nat → Int32) => none) (fun (f2 : Nat → Int32) => ∀ j, j < 16 → f2 j = f1 j) (fun (f2 : Nat → Int32) => [(h, ob 5 [.ref a]), (a, aI d 16 f2), (h1, ob 5 [.ref a1]), (a1, aI d 16 f1)])) ([.ref h, .ref h1] : List Value).toArray s 0 0 A) (F0 m 2 ls []) := by
    intro fuel
    induction fuel with
    | zero => intro j g h9; exact absurd h9 (Nat.not_lt_zero _)
    | succ fuel ih2 =>
      intro j g hfu2 hj hg H locs ls hP hD hS hl
      refine lv_iload_n C.x C.b d_KY_copyFrom_2 rfl (lv_at hl 2 rfl) ?_
      refine lv_bipush (v := nI 16) C.x C.b d_KY_copyFrom_3 (by decide) ?_
      refine lv_icmp_ge (tgt := 26) C.x C.b d_KY_copyFrom_5 (by decide) (fun hc5 => ?_) (fun hc5 => ?_)
      · rw [nI_leI (by omega) (by omega)] at hc5
        have hP9 := hP.sub (ws' := [(h, ob 5 [.ref a]), (a, aI d 16 g), (h1, ob 5 [.ref a1]), (a1, aI d 16 f1)]) [0, 1, 2, 3] rfl
        have hD9 := hD.sub (ws' := [(h, ob 5 [.ref a]), (a, aI d 16 g), (h1, ob 5 [.ref a1]), (a1, aI d 16 f1)]) [0, 1, 2, 3] (by decide) rfl
        exact k_vret C hS g (rfl) (by rw [show j = 16 from by omega] at hg; exact hg) hP9 hD9 d_KY_copyFrom_26
      · rw [nI_leI (by omega) (by omega)] at hc5
        refine lv_aload_n C.x C.b d_KY_copyFrom_8 rfl (lv_at hl 0 rfl) ?_
        refine k_get C hP 0 rfl rfl i_KY 0 (by decide) m_30 rfl d_KY_copyFrom_9 ?_
        refine lv_iload_n C.x C.b d_KY_copyFrom_12 rfl (lv_at hl 2 rfl) ?_
        refine lv_aload_n C.x C.b d_KY_copyFrom_13 rfl (lv_at hl 1 rfl) ?_
        refine k_get C hP 2 rfl rfl i_KY 0 (by decide) m_30 rfl d_KY_copyFrom_14 ?_
        refine lv_iload_n C.x C.b d_KY_copyFrom_17 rfl (lv_at hl 2 rfl) ?_
        refine k_iald C hP 3 rfl (j := j) (by omega) (by omega) d_KY_copyFrom_18 ?_
        refine k_iast C hP hD hS 1 rfl (j := j) (by omega) (by omega) d_KY_copyFrom_19 (fun H locs hP hD hS => ?_)
        have hP : va_P d.1 clz [(h, ob 5 [.ref a]), (a, aI d 16 (upd g j (f1 j))), (h1, ob 5 [.ref a1]), (a1, aI d 16 f1)] H := hP
        have hD : va_D A [(h, ob 5 [.ref a]), (a, aI d 16 (upd g j (f1 j))), (h1, ob 5 [.ref a1]), (a1, aI d 16 f1)] := hD
        refine lv_iinc (v := nI (j + 1)) (lv' := [(2, .int (nI (j + 1))), (0, .ref h), (1, .ref h1)]) C.x C.b d_KY_copyFrom_20 hl (k := 2) rfl (k_inc _ 1) (by decide) rfl (fun ls hl => ?_)
        refine lv_goto (tgt := 2) C.x C.b d_KY_copyFrom_23 (by decide) ?_
        exact ih2 (j + 1) (upd g j (f1 j)) (by omega) (by omega) (upd_le (g := g) hg rfl) _ _ _ (hP.sub [0, 1, 2, 3] (rfl)) (hD.sub [0, 1, 2, 3] (by decide) (rfl)) hS (lv_sub hl [1, 2, 0] (rfl))
  exact L2 ((16 - 0) + 1) 0 f (Nat.lt_succ_self _) (by omega) (fun i hi => absurd hi (Nat.not_lt_zero _)) _ _ _ (hP.sub [0, 1, 2, 3] (rfl)) (hD.sub [0, 1, 2, 3] (by decide) (rfl)) hS (lv_sub hl [1, 2, 0] (rfl))
theorem mw_KY_clear : Mw y_KY_clear b_KY_clear 2 none 0 := ⟨m_431, m_2, m_429, by decide +kernel⟩
set_option maxHeartbeats 4000000 in
set_option maxRecDepth 100000 in
theorem c_KY_clear (l : Launch) (d : DD) (h : Nat) (a : Nat) (f : Nat → Int32) : Ct l y_KY_clear b_KY_clear 2 none 0 0 0 0 d [(h, ob 5 [.ref a]), (a, aI d 16 f)] [.ref h] (fun (f2 : Nat → Int32) => none) (fun (f2 : Nat → Int32) => ∀ j, j < 16 → f2 j = 0) (fun (f2 : Nat → Int32) => [(h, ob 5 [.ref a]), (a, aI d 16 f2)]) := by
  refine Ct.of (by decide +kernel) (Nat.le_of_ble_eq_true rfl) ?_
  intro p e s m below meth c A ls C hP hD hS hl
  have hl : lv_has ls 2 [(0, .ref h)] := hl
  have hsz9 := hS.1
  refine lv_iconst (v := nI 0) C.x C.b d_KY_clear_0 (by decide) ?_
  refine lv_istore_n (lv' := [(1, .int (nI 0)), (0, .ref h)]) C.x C.b d_KY_clear_1 rfl hl (by decide) rfl (fun ls hl => ?_)
  have L2 : ∀ (fuel : Nat) (j : Nat) (g : Nat → Int32), 16 - j < fuel → (j ≤ 16) → (∀ i, i < j → g i = 0) → ∀ (H : Heap) (locs : List Loc) (ls : Array Slot), va_P d.1 clz [(h, ob 5 [.ref a]), (a, aI d 16 g)] H → va_D A [(h, ob 5 [.ref a]), (a, aI d 16 g)] → va_S A s.heap H locs → lv_has ls 2 [(0, .ref h), (1, .int (nI j))] → W p l e (Rm 0 0 0 0) s m ([.ref h] : List Value).toArray below meth c H locs 0 0 (MQ below (Cout d A (fun (f2 : Nat → Int32) => none) (fun (f2 : Nat → Int32) => ∀ j, j < 16 → f2 j = 0) (fun (f2 : Nat → Int32) => [(h, ob 5 [.ref a]), (a, aI d 16 f2)])) ([.ref h] : List Value).toArray s 0 0 A) (F0 m 2 ls []) := by
    intro fuel
    induction fuel with
    | zero => intro j g h9; exact absurd h9 (Nat.not_lt_zero _)
    | succ fuel ih2 =>
      intro j g hfu2 hj hg H locs ls hP hD hS hl
      refine lv_iload_n C.x C.b d_KY_clear_2 rfl (lv_at hl 1 rfl) ?_
      refine lv_bipush (v := nI 16) C.x C.b d_KY_clear_3 (by decide) ?_
      refine lv_icmp_ge (tgt := 21) C.x C.b d_KY_clear_5 (by decide) (fun hc5 => ?_) (fun hc5 => ?_)
      · rw [nI_leI (by omega) (by omega)] at hc5
        have hP9 := hP.sub (ws' := [(h, ob 5 [.ref a]), (a, aI d 16 g)]) [0, 1] rfl
        have hD9 := hD.sub (ws' := [(h, ob 5 [.ref a]), (a, aI d 16 g)]) [0, 1] (by decide) rfl
        exact k_vret C hS g (rfl) (by rw [show j = 16 from by omega] at hg; exact hg) hP9 hD9 d_KY_clear_21
      · rw [nI_leI (by omega) (by omega)] at hc5
        refine lv_aload_n C.x C.b d_KY_clear_8 rfl (lv_at hl 0 rfl) ?_
        refine k_get C hP 0 rfl rfl i_KY 0 (by decide) m_30 rfl d_KY_clear_9 ?_
        refine lv_iload_n C.x C.b d_KY_clear_12 rfl (lv_at hl 1 rfl) ?_
        refine lv_iconst (v := nI 0) C.x C.b d_KY_clear_13 (by decide) ?_
        refine k_iast C hP hD hS 1 rfl (j := j) (by omega) (by omega) d_KY_clear_14 (fun H locs hP hD hS => ?_)
        have hP : va_P d.1 clz [(h, ob 5 [.ref a]), (a, aI d 16 (upd g j (nI 0)))] H := hP
        have hD : va_D A [(h, ob 5 [.ref a]), (a, aI d 16 (upd g j (nI 0)))] := hD
        refine lv_iinc (v := nI (j + 1)) (lv' := [(1, .int (nI (j + 1))), (0, .ref h)]) C.x C.b d_KY_clear_15 hl (k := 1) rfl (k_inc _ 1) (by decide) rfl (fun ls hl => ?_)
        refine lv_goto (tgt := 2) C.x C.b d_KY_clear_18 (by decide) ?_
        exact ih2 (j + 1) (upd g j (nI 0)) (by omega) (by omega) (upd_le (g := g) (p := fun _ => 0) hg rfl) _ _ _ (hP.sub [0, 1] (rfl)) (hD.sub [0, 1] (by decide) (rfl)) hS (lv_sub hl [1, 0] (rfl))
  exact L2 ((16 - 0) + 1) 0 f (Nat.lt_succ_self _) (by omega) (fun i hi => absurd hi (Nat.not_lt_zero _)) _ _ _ (hP.sub [0, 1] (rfl)) (hD.sub [0, 1] (by decide) (rfl)) hS (lv_sub hl [1, 0] (rfl))
theorem mw_KY_countUp : Mw y_KY_countUp b_KY_countUp 2 none 0 := ⟨m_330, m_2, m_328, by decide +kernel⟩
set_option maxHeartbeats 4000000 in
set_option maxRecDepth 100000 in
theorem c_KY_countUp (l : Launch) (d : DD) (h : Nat) (a : Nat) (f : Nat → Int32) : Ct l y_KY_countUp b_KY_countUp 2 none 0 0 0 0 d [(h, ob 5 [.ref a]), (a, aI d 16 f)] [.ref h] (fun (f2 : Nat → Int32) => none) (fun (f2 : Nat → Int32) => f2 = ctrUp f) (fun (f2 : Nat → Int32) => [(h, ob 5 [.ref a]), (a, aI d 16 f2)]) := by
  refine Ct.of (by decide +kernel) (Nat.le_of_ble_eq_true rfl) ?_
  intro p e s m below meth c A ls C hP hD hS hl
  have hl : lv_has ls 2 [(0, .ref h)] := hl
  have hsz9 := hS.1
  refine lv_bipush (v := nI 7) C.x C.b d_KY_countUp_0 (by decide) ?_
  refine lv_istore_n (lv' := [(1, .int (nI 7)), (0, .ref h)]) C.x C.b d_KY_countUp_2 rfl hl (by decide) rfl (fun ls hl => ?_)
  refine lv_iload_n C.x C.b d_KY_countUp_3 rfl (lv_at hl 0 rfl) ?_
  refine lv_iconst (v := nI 4) C.x C.b d_KY_countUp_4 (by decide) ?_
  refine lv_icmp_lt (tgt := 34) C.x C.b d_KY_countUp_5 (by decide) (fun h9 => by first | exact absurd h9 (by decide) | exact absurd (by decide) h9) (fun _ => ?_)
  refine lv_aload_n C.x C.b d_KY_countUp_8 rfl (lv_at hl 1 rfl) ?_
  refine k_get C hP 0 rfl rfl i_KY 0 (by decide) m_30 rfl d_KY_countUp_9 ?_
  refine lv_iload_n C.x C.b d_KY_countUp_12 rfl (lv_at hl 0 rfl) ?_
  refine lv_dup2_11 C.x C.b d_KY_countUp_13 rfl rfl ?_
  refine k_iald C hP 1 rfl (j := 7) (by omega) (by omega) d_KY_countUp_14 ?_
  refine lv_iconst (v := nI 1) C.x C.b d_KY_countUp_15 (by decide) ?_
  refine lv_iadd C.x C.b d_KY_countUp_16 ?_
  refine k_iast C hP hD hS 1 rfl (j := 7) (by omega) (by omega) d_KY_countUp_17 (fun H locs hP hD hS => ?_)
  have hP : va_P d.1 clz [(h, ob 5 [.ref a]), (a, aI d 16 (upd f 7 ((f 7) + (nI 1))))] H := hP
  have hD : va_D A [(h, ob 5 [.ref a]), (a, aI d 16 (upd f 7 ((f 7) + (nI 1))))] := hD
  refine lv_aload_n C.x C.b d_KY_countUp_18 rfl (lv_at hl 1 rfl) ?_
  refine k_get C hP 0 rfl rfl i_KY 0 (by decide) m_30 rfl d_KY_countUp_19 ?_
  refine lv_iload_n C.x C.b d_KY_countUp_22 rfl (lv_at hl 0 rfl) ?_
  refine k_iald C hP 1 rfl (j := 7) (by omega) (by omega) d_KY_countUp_23 ?_
  refine k_top (y := ((f 7) + (nI 1))) rfl ?_
  refine lv_if_eq (tgt := 28) C.x C.b d_KY_countUp_24 (by decide) (fun hc_1 => ?_) (fun hc_1 => ?_)
  · refine lv_iinc (v := nI 6) (lv' := [(1, .int (nI 6)), (0, .ref h)]) C.x C.b d_KY_countUp_28 hl (k := 0) rfl (by decide) (by decide) rfl (fun ls hl => ?_)
    refine lv_goto (tgt := 3) C.x C.b d_KY_countUp_31 (by decide) ?_
    refine lv_iload_n C.x C.b d_KY_countUp_3 rfl (lv_at hl 0 rfl) ?_
    refine lv_iconst (v := nI 4) C.x C.b d_KY_countUp_4 (by decide) ?_
    refine lv_icmp_lt (tgt := 34) C.x C.b d_KY_countUp_5 (by decide) (fun h9 => by first | exact absurd h9 (by decide) | exact absurd (by decide) h9) (fun _ => ?_)
    refine lv_aload_n C.x C.b d_KY_countUp_8 rfl (lv_at hl 1 rfl) ?_
    refine k_get C hP 0 rfl rfl i_KY 0 (by decide) m_30 rfl d_KY_countUp_9 ?_
    refine lv_iload_n C.x C.b d_KY_countUp_12 rfl (lv_at hl 0 rfl) ?_
    refine lv_dup2_11 C.x C.b d_KY_countUp_13 rfl rfl ?_
    refine k_iald C hP 1 rfl (j := 6) (by omega) (by omega) d_KY_countUp_14 ?_
    refine k_top (y := (f 6)) rfl ?_
    refine lv_iconst (v := nI 1) C.x C.b d_KY_countUp_15 (by decide) ?_
    refine lv_iadd C.x C.b d_KY_countUp_16 ?_
    refine k_iast C hP hD hS 1 rfl (j := 6) (by omega) (by omega) d_KY_countUp_17 (fun H locs hP hD hS => ?_)
    have hP : va_P d.1 clz [(h, ob 5 [.ref a]), (a, aI d 16 (upd (upd f 7 ((f 7) + (nI 1))) 6 ((f 6) + (nI 1))))] H := hP
    have hD : va_D A [(h, ob 5 [.ref a]), (a, aI d 16 (upd (upd f 7 ((f 7) + (nI 1))) 6 ((f 6) + (nI 1))))] := hD
    refine lv_aload_n C.x C.b d_KY_countUp_18 rfl (lv_at hl 1 rfl) ?_
    refine k_get C hP 0 rfl rfl i_KY 0 (by decide) m_30 rfl d_KY_countUp_19 ?_
    refine lv_iload_n C.x C.b d_KY_countUp_22 rfl (lv_at hl 0 rfl) ?_
    refine k_iald C hP 1 rfl (j := 6) (by omega) (by omega) d_KY_countUp_23 ?_
    refine k_top (y := ((f 6) + (nI 1))) rfl ?_
    refine lv_if_eq (tgt := 28) C.x C.b d_KY_countUp_24 (by decide) (fun hc_2 => ?_) (fun hc_2 => ?_)
    · refine lv_iinc (v := nI 5) (lv' := [(1, .int (nI 5)), (0, .ref h)]) C.x C.b d_KY_countUp_28 hl (k := 0) rfl (by decide) (by decide) rfl (fun ls hl => ?_)
      refine lv_goto (tgt := 3) C.x C.b d_KY_countUp_31 (by decide) ?_
      refine lv_iload_n C.x C.b d_KY_countUp_3 rfl (lv_at hl 0 rfl) ?_
      refine lv_iconst (v := nI 4) C.x C.b d_KY_countUp_4 (by decide) ?_
      refine lv_icmp_lt (tgt := 34) C.x C.b d_KY_countUp_5 (by decide) (fun h9 => by first | exact absurd h9 (by decide) | exact absurd (by decide) h9) (fun _ => ?_)
      refine lv_aload_n C.x C.b d_KY_countUp_8 rfl (lv_at hl 1 rfl) ?_
      refine k_get C hP 0 rfl rfl i_KY 0 (by decide) m_30 rfl d_KY_countUp_9 ?_
      refine lv_iload_n C.x C.b d_KY_countUp_12 rfl (lv_at hl 0 rfl) ?_
      refine lv_dup2_11 C.x C.b d_KY_countUp_13 rfl rfl ?_
      refine k_iald C hP 1 rfl (j := 5) (by omega) (by omega) d_KY_countUp_14 ?_
      refine k_top (y := (f 5)) rfl ?_
      refine lv_iconst (v := nI 1) C.x C.b d_KY_countUp_15 (by decide) ?_
      refine lv_iadd C.x C.b d_KY_countUp_16 ?_
      refine k_iast C hP hD hS 1 rfl (j := 5) (by omega) (by omega) d_KY_countUp_17 (fun H locs hP hD hS => ?_)
      have hP : va_P d.1 clz [(h, ob 5 [.ref a]), (a, aI d 16 (upd (upd (upd f 7 ((f 7) + (nI 1))) 6 ((f 6) + (nI 1))) 5 ((f 5) + (nI 1))))] H := hP
      have hD : va_D A [(h, ob 5 [.ref a]), (a, aI d 16 (upd (upd (upd f 7 ((f 7) + (nI 1))) 6 ((f 6) + (nI 1))) 5 ((f 5) + (nI 1))))] := hD
      refine lv_aload_n C.x C.b d_KY_countUp_18 rfl (lv_at hl 1 rfl) ?_
      refine k_get C hP 0 rfl rfl i_KY 0 (by decide) m_30 rfl d_KY_countUp_19 ?_
      refine lv_iload_n C.x C.b d_KY_countUp_22 rfl (lv_at hl 0 rfl) ?_
      refine k_iald C hP 1 rfl (j := 5) (by omega) (by omega) d_KY_countUp_23 ?_
      refine k_top (y := ((f 5) + (nI 1))) rfl ?_
      refine lv_if_eq (tgt := 28) C.x C.b d_KY_countUp_24 (by decide) (fun hc_3 => ?_) (fun hc_3 => ?_)
      · refine lv_iinc (v := nI 4) (lv' := [(1, .int (nI 4)), (0, .ref h)]) C.x C.b d_KY_countUp_28 hl (k := 0) rfl (by decide) (by decide) rfl (fun ls hl => ?_)
        refine lv_goto (tgt := 3) C.x C.b d_KY_countUp_31 (by decide) ?_
        refine lv_iload_n C.x C.b d_KY_countUp_3 rfl (lv_at hl 0 rfl) ?_
        refine lv_iconst (v := nI 4) C.x C.b d_KY_countUp_4 (by decide) ?_
        refine lv_icmp_lt (tgt := 34) C.x C.b d_KY_countUp_5 (by decide) (fun h9 => by first | exact absurd h9 (by decide) | exact absurd (by decide) h9) (fun _ => ?_)
        refine lv_aload_n C.x C.b d_KY_countUp_8 rfl (lv_at hl 1 rfl) ?_
        refine k_get C hP 0 rfl rfl i_KY 0 (by decide) m_30 rfl d_KY_countUp_9 ?_
        refine lv_iload_n C.x C.b d_KY_countUp_12 rfl (lv_at hl 0 rfl) ?_
        refine lv_dup2_11 C.x C.b d_KY_countUp_13 rfl rfl ?_
        refine k_iald C hP 1 rfl (j := 4) (by omega) (by omega) d_KY_countUp_14 ?_
        refine k_top (y := (f 4)) rfl ?_
        refine lv_iconst (v := nI 1) C.x C.b d_KY_countUp_15 (by decide) ?_
        refine lv_iadd C.x C.b d_KY_countUp_16 ?_
        refine k_iast C hP hD hS 1 rfl (j := 4) (by omega) (by omega) d_KY_countUp_17 (fun H locs hP hD hS => ?_)
        have hP : va_P d.1 clz [(h, ob 5 [.ref a]), (a, aI d 16 (upd (upd (upd (upd f 7 ((f 7) + (nI 1))) 6 ((f 6) + (nI 1))) 5 ((f 5) + (nI 1))) 4 ((f 4) + (nI 1))))] H := hP
        have hD : va_D A [(h, ob 5 [.ref a]), (a, aI d 16 (upd (upd (upd (upd f 7 ((f 7) + (nI 1))) 6 ((f 6) + (nI 1))) 5 ((f 5) + (nI 1))) 4 ((f 4) + (nI 1))))] := hD
        refine lv_aload_n C.x C.b d_KY_countUp_18 rfl (lv_at hl 1 rfl) ?_
        refine k_get C hP 0 rfl rfl i_KY 0 (by decide) m_30 rfl d_KY_countUp_19 ?_
        refine lv_iload_n C.x C.b d_KY_countUp_22 rfl (lv_at hl 0 rfl) ?_
        refine k_iald C hP 1 rfl (j := 4) (by omega) (by omega) d_KY_countUp_23 ?_
        refine k_top (y := ((f 4) + (nI 1))) rfl ?_
        refine lv_if_eq (tgt := 28) C.x C.b d_KY_countUp_24 (by decide) (fun hc_4 => ?_) (fun hc_4 => ?_)
        · refine lv_iinc (v := nI 3) (lv' := [(1, .int (nI 3)), (0, .ref h)]) C.x C.b d_KY_countUp_28 hl (k := 0) rfl (by decide) (by decide) rfl (fun ls hl => ?_)
          refine lv_goto (tgt := 3) C.x C.b d_KY_countUp_31 (by decide) ?_
          refine lv_iload_n C.x C.b d_KY_countUp_3 rfl (lv_at hl 0 rfl) ?_
          refine lv_iconst (v := nI 4) C.x C.b d_KY_countUp_4 (by decide) ?_
          refine lv_icmp_lt (tgt := 34) C.x C.b d_KY_countUp_5 (by decide) (fun _ => ?_) (fun h9 => by first | exact absurd h9 (by decide) | exact absurd (by decide) h9)
          have hP9 := hP.sub (ws' := [(h, ob 5 [.ref a]), (a, aI d 16 (upd (upd (upd (upd f 7 ((f 7) + (nI 1))) 6 ((f 6) + (nI 1))) 5 ((f 5) + (nI 1))) 4 ((f 4) + (nI 1))))]) [0, 1] rfl
          have hD9 := hD.sub (ws' := [(h, ob 5 [.ref a]), (a, aI d 16 (upd (upd (upd (upd f 7 ((f 7) + (nI 1))) 6 ((f 6) + (nI 1))) 5 ((f 5) + (nI 1))) 4 ((f 4) + (nI 1))))]) [0, 1] (by decide) rfl
          exact k_vret C hS (upd (upd (upd (upd f 7 ((f 7) + (nI 1))) 6 ((f 6) + (nI 1))) 5 ((f 5) + (nI 1))) 4 ((f 4) + (nI 1))) (rfl) (by unfold ctrUp; repeat' (first | rfl | contradiction | split)) hP9 hD9 d_KY_countUp_34
        · have hP9 := hP.sub (ws' := [(h, ob 5 [.ref a]), (a, aI d 16 (upd (upd (upd (upd f 7 ((f 7) + (nI 1))) 6 ((f 6) + (nI 1))) 5 ((f 5) + (nI 1))) 4 ((f 4) + (nI 1))))]) [0, 1] rfl
          have hD9 := hD.sub (ws' := [(h, ob 5 [.ref a]), (a, aI d 16 (upd (upd (upd (upd f 7 ((f 7) + (nI 1))) 6 ((f 6) + (nI 1))) 5 ((f 5) + (nI 1))) 4 ((f 4) + (nI 1))))]) [0, 1] (by decide) rfl
          exact k_vret C hS (upd (upd (upd (upd f 7 ((f 7) + (nI 1))) 6 ((f 6) + (nI 1))) 5 ((f 5) + (nI 1))) 4 ((f 4) + (nI 1))) (rfl) (by unfold ctrUp; repeat' (first | rfl | contradiction | split)) hP9 hD9 d_KY_countUp_27
      · have hP9 := hP.sub (ws' := [(h, ob 5 [.ref a]), (a, aI d 16 (upd (upd (upd f 7 ((f 7) + (nI 1))) 6 ((f 6) + (nI 1))) 5 ((f 5) + (nI 1))))]) [0, 1] rfl
        have hD9 := hD.sub (ws' := [(h, ob 5 [.ref a]), (a, aI d 16 (upd (upd (upd f 7 ((f 7) + (nI 1))) 6 ((f 6) + (nI 1))) 5 ((f 5) + (nI 1))))]) [0, 1] (by decide) rfl
        exact k_vret C hS (upd (upd (upd f 7 ((f 7) + (nI 1))) 6 ((f 6) + (nI 1))) 5 ((f 5) + (nI 1))) (rfl) (by unfold ctrUp; repeat' (first | rfl | contradiction | split)) hP9 hD9 d_KY_countUp_27
    · have hP9 := hP.sub (ws' := [(h, ob 5 [.ref a]), (a, aI d 16 (upd (upd f 7 ((f 7) + (nI 1))) 6 ((f 6) + (nI 1))))]) [0, 1] rfl
      have hD9 := hD.sub (ws' := [(h, ob 5 [.ref a]), (a, aI d 16 (upd (upd f 7 ((f 7) + (nI 1))) 6 ((f 6) + (nI 1))))]) [0, 1] (by decide) rfl
      exact k_vret C hS (upd (upd f 7 ((f 7) + (nI 1))) 6 ((f 6) + (nI 1))) (rfl) (by unfold ctrUp; repeat' (first | rfl | contradiction | split)) hP9 hD9 d_KY_countUp_27
  · have hP9 := hP.sub (ws' := [(h, ob 5 [.ref a]), (a, aI d 16 (upd f 7 ((f 7) + (nI 1))))]) [0, 1] rfl
    have hD9 := hD.sub (ws' := [(h, ob 5 [.ref a]), (a, aI d 16 (upd f 7 ((f 7) + (nI 1))))]) [0, 1] (by decide) rfl
    exact k_vret C hS (upd f 7 ((f 7) + (nI 1))) (rfl) (by unfold ctrUp; repeat' (first | rfl | contradiction | split)) hP9 hD9 d_KY_countUp_27
theorem mw_KY_init : Mw y_KY_init b_KY_init 1 none 0 := ⟨m_28, m_2, m_27, by decide +kernel⟩
set_option maxHeartbeats 4000000 in
set_option maxRecDepth 100000 in
theorem c_KY_init (l : Launch) (d : DD) (h : Nat) : Ct l y_KY_init b_KY_init 1 none 1 12 1 16 d [(h, ob 5 [.null])] [.ref h] (fun (a : Nat) => none) (fun (a : Nat) => True) (fun (a : Nat) => [(h, ob 5 [.ref a]), (a, aI d 16 (fun _ => 0))]) := by
  refine Ct.of (by decide +kernel) (Nat.le_of_ble_eq_true rfl) ?_
  intro p e s m below meth c A ls C hP hD hS hl
  have hl : lv_has ls 1 [(0, .ref h)] := hl
  have hsz9 := hS.1
  refine lv_aload_n C.x C.b d_KY_init_0 rfl (lv_at hl 0 rfl) ?_
  refine W.objInit C.x C.b C.o (C.t _ m_29) (C.t _ m_22) (C.t _ m_obj) rfl (by rw [C.ml]; exact hl.1) rfl d_KY_init_1 (Nat.le_of_ble_eq_true rfl) (Nat.le_of_ble_eq_true rfl) ?_
  refine W.eq (g2 := F0 m 4 ls []) rfl ?_
  refine lv_aload_n C.x C.b d_KY_init_4 rfl (lv_at hl 0 rfl) ?_
  refine lv_bipush (v := nI 16) C.x C.b d_KY_init_5 (by decide) ?_
  refine k_newI (n := 16) C hP hD hS (by omega) (by decide) (by decide) d_KY_init_7 (fun q_1 H hP hD hS => ?_)
  have hP : va_P d.1 clz [(h, ob 5 [.null]), (q_1, aI d 16 (fun _ => 0))] H := hP
  have hD : va_D A [(h, ob 5 [.null]), (q_1, aI d 16 (fun _ => 0))] := hD
  refine k_putF C rfl hP hD hS 0 rfl rfl i_KY tk_KY n_KY 0 (by decide) m_30 rfl rfl rfl rfl (Nat.le_of_ble_eq_true rfl) d_KY_init_9 (fun H locs hP hD hS => ?_)
  have hP : va_P d.1 clz [(h, ob 5 [.ref q_1]), (q_1, aI d 16 (fun _ => 0))] H := hP
  have hD : va_D A [(h, ob 5 [.ref q_1]), (q_1, aI d 16 (fun _ => 0))] := hD
  have hP9 := hP.sub (ws' := [(h, ob 5 [.ref q_1]), (q_1, aI d 16 (fun _ => 0))]) [0, 1] rfl
  have hD9 := hD.sub (ws' := [(h, ob 5 [.ref q_1]), (q_1, aI d 16 (fun _ => 0))]) [0, 1] (by decide) rfl
  exact k_vret C hS q_1 (rfl) (trivial) hP9 hD9 d_KY_init_12
theorem mw_SD_keys : Mw y_SD_keys b_SD_keys 1 (some (.object "PacketGuard$Keys")) 0 := ⟨m_176, m_3, m_174, by decide +kernel⟩
set_option maxHeartbeats 4000000 in
set_option maxRecDepth 100000 in
theorem c_SD_keys (l : Launch) (d : DD) (h : Nat) (k : Nat) (nn : Int32) : Ct l y_SD_keys b_SD_keys 1 (some (.object "PacketGuard$Keys")) 0 0 0 0 d [(h, ob 7 [.ref k, .int nn])] [.ref h] (fun (_ : Unit) => some (.ref k)) (fun (_ : Unit) => True) (fun (_ : Unit) => [(h, ob 7 [.ref k, .int nn])]) := by
  refine Ct.of (by decide +kernel) (Nat.le_of_ble_eq_true rfl) ?_
  intro p e s m below meth c A ls C hP hD hS hl
  have hl : lv_has ls 1 [(0, .ref h)] := hl
  have hsz9 := hS.1
  refine lv_aload_n C.x C.b d_SD_keys_0 rfl (lv_at hl 0 rfl) ?_
  refine k_get C hP 0 rfl rfl i_SD 0 (by decide) m_43 rfl d_SD_keys_1 ?_
  have hP9 := hP.sub (ws' := [(h, ob 7 [.ref k, .int nn])]) [0] rfl
  have hD9 := hD.sub (ws' := [(h, ob 7 [.ref k, .int nn])]) [0] (by decide) rfl
  exact k_aret C hS () (rfl) (trivial) hP9 hD9 d_SD_keys_4
theorem mw_SD_nextNumber : Mw y_SD_nextNumber b_SD_nextNumber 1 (some .int) 0 := ⟨m_342, m_3, m_340, by decide +kernel⟩
set_option maxHeartbeats 4000000 in
set_option maxRecDepth 100000 in
theorem c_SD_nextNumber (l : Launch) (d : DD) (h : Nat) (k : Nat) (nn : Int32) : Ct l y_SD_nextNumber b_SD_nextNumber 1 (some .int) 0 0 0 0 d [(h, ob 7 [.ref k, .int nn])] [.ref h] (fun (_ : Unit) => some (.int nn)) (fun (_ : Unit) => True) (fun (_ : Unit) => [(h, ob 7 [.ref k, .int nn])]) := by
  refine Ct.of (by decide +kernel) (Nat.le_of_ble_eq_true rfl) ?_
  intro p e s m below meth c A ls C hP hD hS hl
  have hl : lv_has ls 1 [(0, .ref h)] := hl
  have hsz9 := hS.1
  refine lv_aload_n C.x C.b d_SD_nextNumber_0 rfl (lv_at hl 0 rfl) ?_
  refine k_get C hP 0 rfl rfl i_SD 1 (by decide) m_44 rfl d_SD_nextNumber_1 ?_
  have hP9 := hP.sub (ws' := [(h, ob 7 [.ref k, .int nn])]) [0] rfl
  have hD9 := hD.sub (ws' := [(h, ob 7 [.ref k, .int nn])]) [0] (by decide) rfl
  exact k_iret C hS () (rfl) (trivial) hP9 hD9 d_SD_nextNumber_4
theorem mw_SD_countPacket : Mw y_SD_countPacket b_SD_countPacket 1 none 0 := ⟨m_419, m_3, m_417, by decide +kernel⟩
set_option maxHeartbeats 4000000 in
set_option maxRecDepth 100000 in
theorem c_SD_countPacket (l : Launch) (d : DD) (h : Nat) (k : Nat) (nn : Int32) : Ct l y_SD_countPacket b_SD_countPacket 1 none 0 0 0 0 d [(h, ob 7 [.ref k, .int nn])] [.ref h] (fun (_ : Unit) => none) (fun (_ : Unit) => True) (fun (_ : Unit) => [(h, ob 7 [.ref k, .int (nn + nI 1)])]) := by
  refine Ct.of (by decide +kernel) (Nat.le_of_ble_eq_true rfl) ?_
  intro p e s m below meth c A ls C hP hD hS hl
  have hl : lv_has ls 1 [(0, .ref h)] := hl
  have hsz9 := hS.1
  refine lv_aload_n C.x C.b d_SD_countPacket_0 rfl (lv_at hl 0 rfl) ?_
  refine lv_dup C.x C.b d_SD_countPacket_1 rfl ?_
  refine k_get C hP 0 rfl rfl i_SD 1 (by decide) m_44 rfl d_SD_countPacket_2 ?_
  refine lv_iconst (v := nI 1) C.x C.b d_SD_countPacket_5 (by decide) ?_
  refine lv_iadd C.x C.b d_SD_countPacket_6 ?_
  refine k_put C hP hD hS 0 rfl rfl i_SD tk_SD n_SD 1 (by decide) m_44 rfl rfl rfl (Nat.le_of_ble_eq_true rfl) d_SD_countPacket_7 (fun H locs hP hD hS => ?_)
  have hP : va_P d.1 clz [(h, ob 7 [.ref k, .int (nn + (nI 1))])] H := hP
  have hD : va_D A [(h, ob 7 [.ref k, .int (nn + (nI 1))])] := hD
  have hP9 := hP.sub (ws' := [(h, ob 7 [.ref k, .int (nn + (nI 1))])]) [0] rfl
  have hD9 := hD.sub (ws' := [(h, ob 7 [.ref k, .int (nn + (nI 1))])]) [0] (by decide) rfl
  exact k_vret C hS () (rfl) (trivial) hP9 hD9 d_SD_countPacket_10
theorem mw_SD_clear : Mw y_SD_clear b_SD_clear 1 none 0 := ⟨m_435, m_3, m_433, by decide +kernel⟩
set_option maxHeartbeats 4000000 in
set_option maxRecDepth 100000 in
theorem c_SD_clear (l : Launch) (d : DD) (h : Nat) (k : Nat) (nn : Int32) (a : Nat) (f : Nat → Int32) : Ct l y_SD_clear b_SD_clear 1 none 1 21 0 0 d [(h, ob 7 [.ref k, .int nn]), (k, ob 5 [.ref a]), (a, aI d 16 f)] [.ref h] (fun (f2 : Nat → Int32) => none) (fun (f2 : Nat → Int32) => ∀ j, j < 16 → f2 j = 0) (fun (f2 : Nat → Int32) => [(h, ob 7 [.ref k, .int 0]), (k, ob 5 [.ref a]), (a, aI d 16 f2)]) := by
  refine Ct.of (by decide +kernel) (Nat.le_of_ble_eq_true rfl) ?_
  intro p e s m below meth c A ls C hP hD hS hl
  have hl : lv_has ls 1 [(0, .ref h)] := hl
  have hsz9 := hS.1
  refine lv_aload_n C.x C.b d_SD_clear_0 rfl (lv_at hl 0 rfl) ?_
  refine k_get C hP 0 rfl rfl i_SD 0 (by decide) m_43 rfl d_SD_clear_1 ?_
  refine k_callV (As := []) (rest := []) (wc := [(k, ob 5 [.ref a]), (a, aI d 16 f)]) (wr := [(h, ob 7 [.ref k, .int nn])]) C (c_KY_clear l d k a f) mw_KY_clear m_430 m_436 hP hD hS [1, 2] [0] rfl rfl (by decide) (by decide) (by decide) 1 rfl rfl rfl rfl hl.1 (Nat.le_of_ble_eq_true rfl) d_SD_clear_4 ⟨Nat.le_of_ble_eq_true rfl, Nat.le_of_ble_eq_true rfl⟩ ⟨by decide, by decide⟩ (fun f2 H locs hf2 hP hD hS => ?_)
  have hP : va_P d.1 clz [(h, ob 7 [.ref k, .int nn]), (k, ob 5 [.ref a]), (a, aI d 16 f2)] H := hP
  have hD : va_D A [(h, ob 7 [.ref k, .int nn]), (k, ob 5 [.ref a]), (a, aI d 16 f2)] := hD
  refine W.eq (g2 := F0 m 7 ls []) rfl ?_
  have hf2 : ∀ j, j < 16 → f2 j = 0 := hf2
  refine lv_aload_n C.x C.b d_SD_clear_7 rfl (lv_at hl 0 rfl) ?_
  refine lv_iconst (v := nI 0) C.x C.b d_SD_clear_8 (by decide) ?_
  refine k_put C hP hD hS 0 rfl rfl i_SD tk_SD n_SD 1 (by decide) m_44 rfl rfl rfl (Nat.le_of_ble_eq_true rfl) d_SD_clear_9 (fun H locs hP hD hS => ?_)
  have hP : va_P d.1 clz [(h, ob 7 [.ref k, .int (nI 0)]), (k, ob 5 [.ref a]), (a, aI d 16 f2)] H := hP
  have hD : va_D A [(h, ob 7 [.ref k, .int (nI 0)]), (k, ob 5 [.ref a]), (a, aI d 16 f2)] := hD
  have hP9 := hP.sub (ws' := [(h, ob 7 [.ref k, .int (nI 0)]), (k, ob 5 [.ref a]), (a, aI d 16 f2)]) [0, 1, 2] rfl
  have hD9 := hD.sub (ws' := [(h, ob 7 [.ref k, .int (nI 0)]), (k, ob 5 [.ref a]), (a, aI d 16 f2)]) [0, 1, 2] (by decide) rfl
  exact k_vret C hS f2 (rfl) (hf2) hP9 hD9 d_SD_clear_12
theorem mw_SD_init : Mw y_SD_init b_SD_init 1 none 0 := ⟨m_39, m_3, m_38, by decide +kernel⟩
set_option maxHeartbeats 4000000 in
set_option maxRecDepth 100000 in
theorem c_SD_init (l : Launch) (d : DD) (h : Nat) : Ct l y_SD_init b_SD_init 1 none 2 32 2 17 d [(h, ob 7 [.null, .int 0])] [.ref h] (fun (u : (Nat) × (Nat)) => match u with | (k, a) => none) (fun (u : (Nat) × (Nat)) => match u with | (k, a) => True) (fun (u : (Nat) × (Nat)) => match u with | (k, a) => [(h, ob 7 [.ref k, .int 0]), (k, ob 5 [.ref a]), (a, aI d 16 (fun _ => 0))]) := by
  refine Ct.of (by decide +kernel) (Nat.le_of_ble_eq_true rfl) ?_
  intro p e s m below meth c A ls C hP hD hS hl
  have hl : lv_has ls 1 [(0, .ref h)] := hl
  have hsz9 := hS.1
  refine lv_aload_n C.x C.b d_SD_init_0 rfl (lv_at hl 0 rfl) ?_
  refine W.objInit C.x C.b C.o (C.t _ m_40) (C.t _ m_22) (C.t _ m_obj) rfl (by rw [C.ml]; exact hl.1) rfl d_SD_init_1 (Nat.le_of_ble_eq_true rfl) (Nat.le_of_ble_eq_true rfl) ?_
  refine W.eq (g2 := F0 m 4 ls []) rfl ?_
  refine lv_aload_n C.x C.b d_SD_init_4 rfl (lv_at hl 0 rfl) ?_
  refine va_new (D := d.1) (cl := clz) (tys := tysD d) (ci := 5) (fs := [.null]) (C := R_KY) (T := F_KY) (N := 1) C.x C.b C.t i_KY t_KY tk_KY C.o (C.t _ m_41) (C.t _ m_25) (C.t _ m_2) C.en.1 hP hD hS C.a rfl (by decide) (by decide) (by decide) d_SD_init_5 (fun q_1 H hP hD hS => ?_)
  have hP : va_P d.1 clz [(h, ob 7 [.null, .int 0]), (q_1, ob 5 [.null])] H := hP
  have hD : va_D A [(h, ob 7 [.null, .int 0]), (q_1, ob 5 [.null])] := hD
  refine lv_dup C.x C.b d_SD_init_8 rfl ?_
  refine k_callIN (As := []) (rest := [.ref q_1, .ref h]) (wc := [(q_1, ob 5 [.null])]) (wr := [(h, ob 7 [.null, .int 0])]) C (c_KY_init l d q_1) mw_KY_init rfl C.en.2.2.1.2.2.1 hP hD hS [1] [0] rfl rfl (by decide) (by decide) (by decide) rfl hl.1 (Nat.le_of_ble_eq_true rfl) d_SD_init_9 ⟨Nat.le_of_ble_eq_true rfl, Nat.le_of_ble_eq_true rfl⟩ ⟨by decide, by decide⟩ (fun a_2 H locs hw_3 hP hD hS => ?_)
  have hP : va_P d.1 clz [(h, ob 7 [.null, .int 0]), (q_1, ob 5 [.ref a_2]), (a_2, aI d 16 (fun _ => 0))] H := hP
  have hD : va_D A [(h, ob 7 [.null, .int 0]), (q_1, ob 5 [.ref a_2]), (a_2, aI d 16 (fun _ => 0))] := hD
  refine W.eq (g2 := F0 m 12 ls [.ref q_1, .ref h]) rfl ?_
  refine k_putF C rfl hP hD hS 0 rfl rfl i_SD tk_SD n_SD 0 (by decide) m_43 rfl rfl rfl rfl (Nat.le_of_ble_eq_true rfl) d_SD_init_12 (fun H locs hP hD hS => ?_)
  have hP : va_P d.1 clz [(h, ob 7 [.ref q_1, .int 0]), (q_1, ob 5 [.ref a_2]), (a_2, aI d 16 (fun _ => 0))] H := hP
  have hD : va_D A [(h, ob 7 [.ref q_1, .int 0]), (q_1, ob 5 [.ref a_2]), (a_2, aI d 16 (fun _ => 0))] := hD
  have hP9 := hP.sub (ws' := [(h, ob 7 [.ref q_1, .int 0]), (q_1, ob 5 [.ref a_2]), (a_2, aI d 16 (fun _ => 0))]) [0, 1, 2] rfl
  have hD9 := hD.sub (ws' := [(h, ob 7 [.ref q_1, .int 0]), (q_1, ob 5 [.ref a_2]), (a_2, aI d 16 (fun _ => 0))]) [0, 1, 2] (by decide) rfl
  exact k_vret C hS (q_1, a_2) (rfl) (trivial) hP9 hD9 d_SD_init_15
