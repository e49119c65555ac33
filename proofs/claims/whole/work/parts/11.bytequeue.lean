/-- n bytes L in a ring of cap places, from place st on -/
def BQ (cap : Nat) (f : Nat → Int32) (st n : Nat) (L : List Int32) : Prop := cap < 2 ^ 30 ∧ st < cap ∧ L.length = n ∧ n ≤ cap ∧ (∀ i, i < n → f ((st + i) % cap) = (L.getD i 0).toInt8.toInt32) ∧ ∀ x ∈ L, x &&& nI 255 = x
def ush (x : Int32) (k : Nat) : Int32 := (x.toUInt32 >>> ((nI k).toUInt32 &&& Int32.toUInt32 31)).toInt32
/-- the four bytes of a word, the highest first -/
def wb (w : Int32) : List Int32 := [ush w 24 &&& nI 255, ush w 16 &&& nI 255, ush w 8 &&& nI 255, ush w 0 &&& nI 255]
theorem and255 (x : Int32) : (x &&& nI 255) &&& nI 255 = x &&& nI 255 := by
  apply b_ext; intro i _; simp only [b_and]; cases bt x i <;> cases bt (nI 255) i <;> rfl
theorem sx_and (x : Int32) : x.toInt8.toInt32 &&& nI 255 = x &&& nI 255 := bp_b x
theorem i8_and (x : Int32) : (x &&& nI 255).toInt8 = x.toInt8 := by
  apply Int8.toBitVec_inj.mp
  rw [Int32.toBitVec_toInt8, Int32.toBitVec_toInt8, Int32.toBitVec_and]
  apply BitVec.eq_of_getLsbD_eq
  intro i hi
  have hm : ∀ i < 8, (nI 255).toBitVec.getLsbD i = true := by decide
  rw [BitVec.getLsbD_signExtend, BitVec.getLsbD_signExtend, if_pos (by omega), if_pos (by omega), BitVec.getLsbD_and, hm i hi]
  simp
theorem sx_of_and (x : Int32) : (x &&& nI 255).toInt8.toInt32 = x.toInt8.toInt32 := by rw [i8_and]
theorem sx_sx (x : Int32) : x.toInt8.toInt32.toInt8.toInt32 = x.toInt8.toInt32 := by
  rw [Int8.toInt8_toInt32]
theorem sx_xor (x y : Int32) : (x.toInt8.toInt32 ^^^ y.toInt8.toInt32).toInt8.toInt32 = (x ^^^ y).toInt8.toInt32 := by
  rw [Int32.toInt8_xor, Int8.toInt8_toInt32, Int8.toInt8_toInt32, Int32.toInt8_xor]
theorem gd9 {L : List Int32} {i : Nat} (h : i < L.length) : L.getD i 0 = L[i] := by
  rw [List.getD_eq_getElem?_getD, List.getElem?_eq_getElem h]; rfl
theorem bq_mem {L : List Int32} {i : Nat} (h : i < L.length) : L.getD i 0 ∈ L := by
  rw [gd9 h]; exact List.getElem_mem h
theorem bq_at {cap st n : Nat} {f : Nat → Int32} {L : List Int32} (h : BQ cap f st n L) {i : Nat} (hi : i < n) : f ((st + i) % cap) &&& nI 255 = L.getD i 0 := by
  obtain ⟨h1, h2, h3, h4, h5, h6⟩ := h
  rw [h5 i hi, sx_and, h6 _ (bq_mem (by omega))]
theorem bq_ne {cap st i j : Nat} (hi : i < cap) (hj : j < cap) (h : i ≠ j) : (st + i) % cap ≠ (st + j) % cap := by
  intro e
  have h1 := Nat.div_add_mod (st + i) cap
  have h2 := Nat.div_add_mod (st + j) cap
  rw [e] at h1
  rcases Nat.lt_trichotomy ((st + i) / cap) ((st + j) / cap) with q | q | q
  · have h3 : cap * ((st + i) / cap) + cap ≤ cap * ((st + j) / cap) := by rw [← Nat.mul_succ]; exact Nat.mul_le_mul_left _ q
    omega
  · rw [q] at h1; omega
  · have h3 : cap * ((st + j) / cap) + cap ≤ cap * ((st + i) / cap) := by rw [← Nat.mul_succ]; exact Nat.mul_le_mul_left _ q
    omega
theorem bq_flip {cap st n : Nat} {f : Nat → Int32} {L : List Int32} (h : BQ cap f st n L) {i : Nat} (hi : i < n) (mk : Int32) : BQ cap (upd f ((st + i) % cap) (((f ((st + i) % cap) ^^^ mk.toInt8.toInt32).toInt8.toInt32).toInt8.toInt32)) st n (L.set i ((L.getD i 0 ^^^ mk) &&& nI 255)) := by
  obtain ⟨h1, h2, h3, h4, h5, h6⟩ := h
  refine ⟨h1, h2, by rw [List.length_set]; exact h3, h4, fun j hj => ?_, fun x hx => ?_⟩
  · by_cases e : j = i
    · subst e
      rw [pk_us, h5 j hj, sx_sx, sx_xor, gd9 (L := L.set j _) (by rw [List.length_set]; omega), List.getElem_set_self, sx_of_and]
    · rw [pk_un (bq_ne (by omega) (by omega) e), h5 j hj, gd9 (L := L) (by omega), gd9 (L := L.set i _) (by rw [List.length_set]; omega), List.getElem_set_ne (by omega)]
  · rcases List.mem_or_eq_of_mem_set hx with q | q
    · exact h6 x q
    · rw [q]; exact and255 _
theorem bq_add {cap st n : Nat} {f : Nat → Int32} {L : List Int32} (h : BQ cap f st n L) (hn : n < cap) (x : Int32) : BQ cap (upd f ((st + n) % cap) (x.toInt8.toInt32.toInt8.toInt32)) st (n + 1) (L ++ [x &&& nI 255]) := by
  obtain ⟨h1, h2, h3, h4, h5, h6⟩ := h
  refine ⟨h1, h2, by rw [List.length_append]; simp [h3], hn, fun j hj => ?_, fun y hy => ?_⟩
  · by_cases e : j = n
    · subst e
      rw [pk_us, sx_sx, gd9 (by simp [h3]), List.getElem_append_right (by omega), List.getElem_singleton, sx_of_and]
    · rw [pk_un (bq_ne (by omega) (by omega) e), h5 j (by omega), gd9 (by omega), gd9 (by simp; omega), List.getElem_append_left (by omega)]
  · rcases List.mem_append.mp hy with q | q
    · exact h6 y q
    · rw [List.mem_singleton.mp q]; exact and255 _
theorem bq_take {L : List Int32} {fr k : Nat} (h : fr + k < L.length) : (L.drop fr).take (k + 1) = (L.drop fr).take k ++ [L.getD (fr + k) 0] := by
  rw [List.take_add_one, List.getElem?_drop, List.getElem?_eq_getElem h, gd9 h]; rfl
theorem bq_drop {cap st n : Nat} {f : Nat → Int32} {L : List Int32} (h : BQ cap f st n L) {k : Nat} (hk : k < n) : BQ cap f ((st + k) % cap) (n - k) (L.drop k) := by
  obtain ⟨h1, h2, h3, h4, h5, h6⟩ := h
  refine ⟨h1, Nat.mod_lt _ (by omega), by rw [List.length_drop, h3], by omega, fun i hi => ?_, fun x hx => h6 x (List.mem_of_mem_drop hx)⟩
  rw [Nat.mod_add_mod, Nat.add_assoc, h5 (k + i) (by omega), gd9 (by omega), gd9 (by rw [List.length_drop]; omega), List.getElem_drop]
theorem bq_nil {cap : Nat} {f : Nat → Int32} (h1 : cap < 2 ^ 30) (h2 : 0 < cap) : BQ cap f 0 0 [] := ⟨h1, h2, rfl, Nat.zero_le _, fun i hi => absurd hi (Nat.not_lt_zero _), fun x hx => absurd hx List.not_mem_nil⟩
theorem bq_drop_all {cap st n : Nat} {f : Nat → Int32} {L : List Int32} (h : BQ cap f st n L) {k : Nat} (hk : k = n) : BQ cap f 0 (n - k) (L.drop k) := by
  obtain ⟨h1, h2, h3, h4, h5, h6⟩ := h
  rw [hk, Nat.sub_self, List.drop_eq_nil_of_le (by omega)]
  exact bq_nil h1 (by omega)
theorem mw_BQ_size : Mw y_BQ_size b_BQ_size 1 (some .int) 0 := ⟨m_164, m_4, m_162, by decide +kernel⟩
set_option maxHeartbeats 4000000 in
set_option maxRecDepth 100000 in
theorem c_BQ_size (l : Launch) (d : DD) (h : Nat) (a : Nat) (cap : Nat) (st : Nat) (n : Nat) (f : Nat → Int32) : Ct l y_BQ_size b_BQ_size 1 (some .int) 0 0 0 0 d [(h, ob 2 [.ref a, .int (nI st), .int (nI n)]), (a, aB d cap f)] [.ref h] (fun (_ : Unit) => some (.int (nI n))) (fun (_ : Unit) => True) (fun (_ : Unit) => [(h, ob 2 [.ref a, .int (nI st), .int (nI n)]), (a, aB d cap f)]) := by
  refine Ct.of (by decide +kernel) (Nat.le_of_ble_eq_true rfl) ?_
  intro p e s m below meth c A ls C hP hD hS hl
  have hl : lv_has ls 1 [(0, .ref h)] := hl
  have hsz9 := hS.1
  refine lv_aload_n C.x C.b d_BQ_size_0 rfl (lv_at hl 0 rfl) ?_
  refine k_get C hP 0 rfl rfl i_BQ 2 (by decide) m_61 rfl d_BQ_size_1 ?_
  have hP9 := hP.sub (ws' := [(h, ob 2 [.ref a, .int (nI st), .int (nI n)]), (a, aB d cap f)]) [0, 1] rfl
  have hD9 := hD.sub (ws' := [(h, ob 2 [.ref a, .int (nI st), .int (nI n)]), (a, aB d cap f)]) [0, 1] (by decide) rfl
  exact k_iret C hS () (rfl) (trivial) hP9 hD9 d_BQ_size_4
theorem mw_BQ_clear : Mw y_BQ_clear b_BQ_clear 1 none 0 := ⟨m_312, m_4, m_310, by decide +kernel⟩
set_option maxHeartbeats 4000000 in
set_option maxRecDepth 100000 in
theorem c_BQ_clear (l : Launch) (d : DD) (h : Nat) (a : Nat) (cap : Nat) (st : Nat) (n : Nat) (f : Nat → Int32) : Ct l y_BQ_clear b_BQ_clear 1 none 0 0 0 0 d [(h, ob 2 [.ref a, .int (nI st), .int (nI n)]), (a, aB d cap f)] [.ref h] (fun (_ : Unit) => none) (fun (_ : Unit) => True) (fun (_ : Unit) => [(h, ob 2 [.ref a, .int (nI 0), .int (nI 0)]), (a, aB d cap f)]) := by
  refine Ct.of (by decide +kernel) (Nat.le_of_ble_eq_true rfl) ?_
  intro p e s m below meth c A ls C hP hD hS hl
  have hl : lv_has ls 1 [(0, .ref h)] := hl
  have hsz9 := hS.1
  refine lv_aload_n C.x C.b d_BQ_clear_0 rfl (lv_at hl 0 rfl) ?_
  refine lv_iconst (v := nI 0) C.x C.b d_BQ_clear_1 (by decide) ?_
  refine k_put C hP hD hS 0 rfl rfl i_BQ tk_BQ n_BQ 1 (by decide) m_60 rfl rfl rfl (Nat.le_of_ble_eq_true rfl) d_BQ_clear_2 (fun H locs hP hD hS => ?_)
  have hP : va_P d.1 clz [(h, ob 2 [.ref a, .int (nI 0), .int (nI n)]), (a, aB d cap f)] H := hP
  have hD : va_D A [(h, ob 2 [.ref a, .int (nI 0), .int (nI n)]), (a, aB d cap f)] := hD
  refine lv_aload_n C.x C.b d_BQ_clear_5 rfl (lv_at hl 0 rfl) ?_
  refine lv_iconst (v := nI 0) C.x C.b d_BQ_clear_6 (by decide) ?_
  refine k_put C hP hD hS 0 rfl rfl i_BQ tk_BQ n_BQ 2 (by decide) m_61 rfl rfl rfl (Nat.le_of_ble_eq_true rfl) d_BQ_clear_7 (fun H locs hP hD hS => ?_)
  have hP : va_P d.1 clz [(h, ob 2 [.ref a, .int (nI 0), .int (nI 0)]), (a, aB d cap f)] H := hP
  have hD : va_D A [(h, ob 2 [.ref a, .int (nI 0), .int (nI 0)]), (a, aB d cap f)] := hD
  have hP9 := hP.sub (ws' := [(h, ob 2 [.ref a, .int (nI 0), .int (nI 0)]), (a, aB d cap f)]) [0, 1] rfl
  have hD9 := hD.sub (ws' := [(h, ob 2 [.ref a, .int (nI 0), .int (nI 0)]), (a, aB d cap f)]) [0, 1] (by decide) rfl
  exact k_vret C hS () (rfl) (trivial) hP9 hD9 d_BQ_clear_10
theorem mw_BQ_place : Mw y_BQ_place b_BQ_place 3 (some .int) 1 := ⟨m_300, m_4, m_299, by decide +kernel⟩
set_option maxHeartbeats 4000000 in
set_option maxRecDepth 100000 in
theorem c_BQ_place (l : Launch) (d : DD) (h : Nat) (a : Nat) (cap : Nat) (st : Nat) (n : Nat) (f : Nat → Int32) (i : Nat) (hcap : cap < 2 ^ 30) (hst : st < cap) (hi : i ≤ cap) : Ct l y_BQ_place b_BQ_place 3 (some .int) 0 0 0 0 d [(h, ob 2 [.ref a, .int (nI st), .int (nI n)]), (a, aB d cap f)] [.ref h, .int (nI i)] (fun (_ : Unit) => some (.int (nI ((st + i) % cap)))) (fun (_ : Unit) => True) (fun (_ : Unit) => [(h, ob 2 [.ref a, .int (nI st), .int (nI n)]), (a, aB d cap f)]) := by
  refine Ct.of (by decide +kernel) (Nat.le_of_ble_eq_true rfl) ?_
  intro p e s m below meth c A ls C hP hD hS hl
  have hl : lv_has ls 3 [(0, .ref h), (1, .int (nI i))] := hl
  have hsz9 := hS.1
  refine lv_aload_n C.x C.b d_BQ_place_0 rfl (lv_at hl 0 rfl) ?_
  refine k_get C hP 0 rfl rfl i_BQ 1 (by decide) m_60 rfl d_BQ_place_1 ?_
  refine lv_iload_n C.x C.b d_BQ_place_4 rfl (lv_at hl 1 rfl) ?_
  refine lv_iadd C.x C.b d_BQ_place_5 ?_
  refine k_top (y := nI (st + i)) (nI_add _ _) ?_
  refine lv_istore_n (lv' := [(2, .int (nI (st + i))), (0, .ref h), (1, .int (nI i))]) C.x C.b d_BQ_place_6 rfl hl (by decide) rfl (fun ls hl => ?_)
  refine lv_iload_n C.x C.b d_BQ_place_7 rfl (lv_at hl 0 rfl) ?_
  refine lv_aload_n C.x C.b d_BQ_place_8 rfl (lv_at hl 1 rfl) ?_
  refine k_get C hP 0 rfl rfl i_BQ 0 (by decide) m_59 rfl d_BQ_place_9 ?_
  refine k_alenB C hP 1 rfl d_BQ_place_12 ?_
  refine lv_icmp_ge (tgt := 20) C.x C.b d_BQ_place_13 (by decide) (fun hc_1 => ?_) (fun hc_1 => ?_)
  · rw [nI_leI (by omega) (by omega)] at hc_1
    refine lv_iload_n C.x C.b d_BQ_place_20 rfl (lv_at hl 0 rfl) ?_
    refine lv_aload_n C.x C.b d_BQ_place_21 rfl (lv_at hl 1 rfl) ?_
    refine k_get C hP 0 rfl rfl i_BQ 0 (by decide) m_59 rfl d_BQ_place_22 ?_
    refine k_alenB C hP 1 rfl d_BQ_place_25 ?_
    refine lv_isub C.x C.b d_BQ_place_26 ?_
    refine k_top (y := nI ((st + i) - cap)) (pk_sub (by omega)) ?_
    have hP9 := hP.sub (ws' := [(h, ob 2 [.ref a, .int (nI st), .int (nI n)]), (a, aB d cap f)]) [0, 1] rfl
    have hD9 := hD.sub (ws' := [(h, ob 2 [.ref a, .int (nI st), .int (nI n)]), (a, aB d cap f)]) [0, 1] (by decide) rfl
    exact k_iret C hS () (by show some (Value.int (nI ((st + i) % cap))) = _; rw [Nat.mod_eq_sub_mod (by omega), Nat.mod_eq_of_lt (by omega)]) (trivial) hP9 hD9 d_BQ_place_27
  · rw [nI_leI (by omega) (by omega)] at hc_1
    refine lv_iload_n C.x C.b d_BQ_place_16 rfl (lv_at hl 0 rfl) ?_
    refine lv_goto (tgt := 27) C.x C.b d_BQ_place_17 (by decide) ?_
    have hP9 := hP.sub (ws' := [(h, ob 2 [.ref a, .int (nI st), .int (nI n)]), (a, aB d cap f)]) [0, 1] rfl
    have hD9 := hD.sub (ws' := [(h, ob 2 [.ref a, .int (nI st), .int (nI n)]), (a, aB d cap f)]) [0, 1] (by decide) rfl
    exact k_iret C hS () (by show some (Value.int (nI ((st + i) % cap))) = _; rw [Nat.mod_eq_of_lt (by omega)]) (trivial) hP9 hD9 d_BQ_place_27
theorem mw_BQ_checkIndex : Mw y_BQ_checkIndex b_BQ_checkIndex 2 none 1 := ⟨m_293, m_4, m_292, by decide +kernel⟩
set_option maxHeartbeats 4000000 in
set_option maxRecDepth 100000 in
theorem c_BQ_checkIndex (l : Launch) (d : DD) (h : Nat) (a : Nat) (cap : Nat) (st : Nat) (n : Nat) (f : Nat → Int32) (i : Nat) (hi : i < n) (hn : n < 2 ^ 31) : Ct l y_BQ_checkIndex b_BQ_checkIndex 2 none 0 0 0 0 d [(h, ob 2 [.ref a, .int (nI st), .int (nI n)]), (a, aB d cap f)] [.ref h, .int (nI i)] (fun (_ : Unit) => none) (fun (_ : Unit) => True) (fun (_ : Unit) => [(h, ob 2 [.ref a, .int (nI st), .int (nI n)]), (a, aB d cap f)]) := by
  refine Ct.of (by decide +kernel) (Nat.le_of_ble_eq_true rfl) ?_
  intro p e s m below meth c A ls C hP hD hS hl
  have hl : lv_has ls 2 [(0, .ref h), (1, .int (nI i))] := hl
  have hsz9 := hS.1
  refine lv_iload_n C.x C.b d_BQ_checkIndex_0 rfl (lv_at hl 1 rfl) ?_
  refine lv_if_lt (tgt := 12) C.x C.b d_BQ_checkIndex_1 (by decide) (fun h9 => False.elim (nI_pos (by omega) h9)) (fun hc_1 => ?_)
  rw [← nI_0, nI_ltI (by omega) (by omega)] at hc_1
  refine lv_iload_n C.x C.b d_BQ_checkIndex_4 rfl (lv_at hl 1 rfl) ?_
  refine lv_aload_n C.x C.b d_BQ_checkIndex_5 rfl (lv_at hl 0 rfl) ?_
  refine k_get C hP 0 rfl rfl i_BQ 2 (by decide) m_61 rfl d_BQ_checkIndex_6 ?_
  refine lv_icmp_lt (tgt := 22) C.x C.b d_BQ_checkIndex_9 (by decide) (fun hc_2 => ?_) (fun h9 => False.elim (h9 (nI_lt (by omega) (by omega))))
  rw [nI_ltI (by omega) (by omega)] at hc_2
  have hP9 := hP.sub (ws' := [(h, ob 2 [.ref a, .int (nI st), .int (nI n)]), (a, aB d cap f)]) [0, 1] rfl
  have hD9 := hD.sub (ws' := [(h, ob 2 [.ref a, .int (nI st), .int (nI n)]), (a, aB d cap f)]) [0, 1] (by decide) rfl
  exact k_vret C hS () (rfl) (trivial) hP9 hD9 d_BQ_checkIndex_22
theorem mw_BQ_at : Mw y_BQ_at b_BQ_at 2 (some .int) 1 := ⟨m_289, m_4, m_287, by decide +kernel⟩
set_option maxHeartbeats 4000000 in
set_option maxRecDepth 100000 in
theorem c_BQ_at (l : Launch) (d : DD) (h : Nat) (a : Nat) (cap : Nat) (st : Nat) (n : Nat) (f : Nat → Int32) (L : List Int32) (i : Nat) (hB : BQ cap f st n L) (hi : i < n) : Ct l y_BQ_at b_BQ_at 2 (some .int) 1 22 0 0 d [(h, ob 2 [.ref a, .int (nI st), .int (nI n)]), (a, aB d cap f)] [.ref h, .int (nI i)] (fun (_ : Unit) => some (.int (L.getD i 0))) (fun (_ : Unit) => True) (fun (_ : Unit) => [(h, ob 2 [.ref a, .int (nI st), .int (nI n)]), (a, aB d cap f)]) := by
  refine Ct.of (by decide +kernel) (Nat.le_of_ble_eq_true rfl) ?_
  intro p e s m below meth c A ls C hP hD hS hl
  have hl : lv_has ls 2 [(0, .ref h), (1, .int (nI i))] := hl
  have hsz9 := hS.1
  obtain ⟨hq1, hq2, hq3, hq4, hq5, hq6⟩ := id hB
  refine lv_aload_n C.x C.b d_BQ_at_0 rfl (lv_at hl 0 rfl) ?_
  refine lv_iload_n C.x C.b d_BQ_at_1 rfl (lv_at hl 1 rfl) ?_
  refine k_callV (As := [.int (nI i)]) (rest := []) (wc := [(h, ob 2 [.ref a, .int (nI st), .int (nI n)]), (a, aB d cap f)]) (wr := []) C (c_BQ_checkIndex l d h a cap st n f i (hi) (by omega)) mw_BQ_checkIndex ms_7 m_290 hP hD hS [0, 1] [] rfl rfl (by decide) (by decide) (by decide) 0 rfl rfl rfl rfl hl.1 (Nat.le_of_ble_eq_true rfl) d_BQ_at_2 ⟨Nat.le_of_ble_eq_true rfl, Nat.le_of_ble_eq_true rfl⟩ ⟨by decide, by decide⟩ (fun _ H locs hw_1 hP hD hS => ?_)
  have hP : va_P d.1 clz [(h, ob 2 [.ref a, .int (nI st), .int (nI n)]), (a, aB d cap f)] H := hP
  have hD : va_D A [(h, ob 2 [.ref a, .int (nI st), .int (nI n)]), (a, aB d cap f)] := hD
  refine W.eq (g2 := F0 m 5 ls []) rfl ?_
  refine lv_aload_n C.x C.b d_BQ_at_5 rfl (lv_at hl 0 rfl) ?_
  refine k_get C hP 0 rfl rfl i_BQ 0 (by decide) m_59 rfl d_BQ_at_6 ?_
  refine lv_aload_n C.x C.b d_BQ_at_9 rfl (lv_at hl 0 rfl) ?_
  refine lv_iload_n C.x C.b d_BQ_at_10 rfl (lv_at hl 1 rfl) ?_
  refine k_callV (As := [.int (nI i)]) (rest := [.ref a]) (wc := [(h, ob 2 [.ref a, .int (nI st), .int (nI n)]), (a, aB d cap f)]) (wr := []) C (c_BQ_place l d h a cap st n f i (hq1) (hq2) (by omega)) mw_BQ_place ms_8 m_297 hP hD hS [0, 1] [] rfl rfl (by decide) (by decide) (by decide) 0 rfl rfl rfl rfl hl.1 (Nat.le_of_ble_eq_true rfl) d_BQ_at_11 ⟨Nat.le_of_ble_eq_true rfl, Nat.le_of_ble_eq_true rfl⟩ ⟨by decide, by decide⟩ (fun _ H locs hw_2 hP hD hS => ?_)
  have hP : va_P d.1 clz [(h, ob 2 [.ref a, .int (nI st), .int (nI n)]), (a, aB d cap f)] H := hP
  have hD : va_D A [(h, ob 2 [.ref a, .int (nI st), .int (nI n)]), (a, aB d cap f)] := hD
  refine W.eq (g2 := F0 m 14 ls [.int (nI ((st + i) % cap)), .ref a]) rfl ?_
  refine k_bald C hP 1 rfl (j := ((st + i) % cap)) (Nat.mod_lt _ (by omega)) (by omega) d_BQ_at_14 ?_
  refine lv_sipush (v := nI 255) C.x C.b d_BQ_at_15 (by decide) ?_
  refine lv_iand C.x C.b d_BQ_at_18 ?_
  have hP9 := hP.sub (ws' := [(h, ob 2 [.ref a, .int (nI st), .int (nI n)]), (a, aB d cap f)]) [0, 1] rfl
  have hD9 := hD.sub (ws' := [(h, ob 2 [.ref a, .int (nI st), .int (nI n)]), (a, aB d cap f)]) [0, 1] (by decide) rfl
  exact k_iret C hS () (by show some (Value.int (L.getD i 0)) = _; rw [bq_at hB hi]) (trivial) hP9 hD9 d_BQ_at_19
theorem mw_BQ_flip : Mw y_BQ_flip b_BQ_flip 3 none 2 := ⟨m_334, m_4, m_332, by decide +kernel⟩
set_option maxHeartbeats 4000000 in
set_option maxRecDepth 100000 in
theorem c_BQ_flip (l : Launch) (d : DD) (h : Nat) (a : Nat) (cap : Nat) (st : Nat) (n : Nat) (f : Nat → Int32) (L : List Int32) (i : Nat) (mk : Int32) (hB : BQ cap f st n L) (hi : i < n) : Ct l y_BQ_flip b_BQ_flip 3 none 1 22 0 0 d [(h, ob 2 [.ref a, .int (nI st), .int (nI n)]), (a, aB d cap f)] [.ref h, .int (nI i), .int mk] (fun (f2 : Nat → Int32) => none) (fun (f2 : Nat → Int32) => BQ cap f2 st n (L.set i ((L.getD i 0 ^^^ mk) &&& nI 255))) (fun (f2 : Nat → Int32) => [(h, ob 2 [.ref a, .int (nI st), .int (nI n)]), (a, aB d cap f2)]) := by
  refine Ct.of (by decide +kernel) (Nat.le_of_ble_eq_true rfl) ?_
  intro p e s m below meth c A ls C hP hD hS hl
  have hl : lv_has ls 3 [(0, .ref h), (1, .int (nI i)), (2, .int mk)] := hl
  have hsz9 := hS.1
  obtain ⟨hq1, hq2, hq3, hq4, hq5, hq6⟩ := id hB
  refine lv_aload_n C.x C.b d_BQ_flip_0 rfl (lv_at hl 0 rfl) ?_
  refine lv_iload_n C.x C.b d_BQ_flip_1 rfl (lv_at hl 1 rfl) ?_
  refine k_callV (As := [.int (nI i)]) (rest := []) (wc := [(h, ob 2 [.ref a, .int (nI st), .int (nI n)]), (a, aB d cap f)]) (wr := []) C (c_BQ_checkIndex l d h a cap st n f i (hi) (by omega)) mw_BQ_checkIndex ms_7 m_290 hP hD hS [0, 1] [] rfl rfl (by decide) (by decide) (by decide) 0 rfl rfl rfl rfl hl.1 (Nat.le_of_ble_eq_true rfl) d_BQ_flip_2 ⟨Nat.le_of_ble_eq_true rfl, Nat.le_of_ble_eq_true rfl⟩ ⟨by decide, by decide⟩ (fun _ H locs hw_1 hP hD hS => ?_)
  have hP : va_P d.1 clz [(h, ob 2 [.ref a, .int (nI st), .int (nI n)]), (a, aB d cap f)] H := hP
  have hD : va_D A [(h, ob 2 [.ref a, .int (nI st), .int (nI n)]), (a, aB d cap f)] := hD
  refine W.eq (g2 := F0 m 5 ls []) rfl ?_
  refine lv_aload_n C.x C.b d_BQ_flip_5 rfl (lv_at hl 0 rfl) ?_
  refine k_get C hP 0 rfl rfl i_BQ 0 (by decide) m_59 rfl d_BQ_flip_6 ?_
  refine lv_aload_n C.x C.b d_BQ_flip_9 rfl (lv_at hl 0 rfl) ?_
  refine lv_iload_n C.x C.b d_BQ_flip_10 rfl (lv_at hl 1 rfl) ?_
  refine k_callV (As := [.int (nI i)]) (rest := [.ref a]) (wc := [(h, ob 2 [.ref a, .int (nI st), .int (nI n)]), (a, aB d cap f)]) (wr := []) C (c_BQ_place l d h a cap st n f i (hq1) (hq2) (by omega)) mw_BQ_place ms_8 m_297 hP hD hS [0, 1] [] rfl rfl (by decide) (by decide) (by decide) 0 rfl rfl rfl rfl hl.1 (Nat.le_of_ble_eq_true rfl) d_BQ_flip_11 ⟨Nat.le_of_ble_eq_true rfl, Nat.le_of_ble_eq_true rfl⟩ ⟨by decide, by decide⟩ (fun _ H locs hw_2 hP hD hS => ?_)
  have hP : va_P d.1 clz [(h, ob 2 [.ref a, .int (nI st), .int (nI n)]), (a, aB d cap f)] H := hP
  have hD : va_D A [(h, ob 2 [.ref a, .int (nI st), .int (nI n)]), (a, aB d cap f)] := hD
  refine W.eq (g2 := F0 m 14 ls [.int (nI ((st + i) % cap)), .ref a]) rfl ?_
  refine lv_dup2_11 C.x C.b d_BQ_flip_14 rfl rfl ?_
  refine k_bald C hP 1 rfl (j := ((st + i) % cap)) (Nat.mod_lt _ (by omega)) (by omega) d_BQ_flip_15 ?_
  refine lv_iload_n C.x C.b d_BQ_flip_16 rfl (lv_at hl 2 rfl) ?_
  refine lv_i2b (v := mk.toInt8.toInt32) C.x C.b d_BQ_flip_17 rfl ?_
  refine lv_ixor C.x C.b d_BQ_flip_18 ?_
  refine lv_i2b (v := ((f ((st + i) % cap)) ^^^ mk.toInt8.toInt32).toInt8.toInt32) C.x C.b d_BQ_flip_19 rfl ?_
  refine k_bast C hP hD hS 1 rfl (j := ((st + i) % cap)) (Nat.mod_lt _ (by omega)) (by omega) d_BQ_flip_20 (fun H locs hP hD hS => ?_)
  have hP : va_P d.1 clz [(h, ob 2 [.ref a, .int (nI st), .int (nI n)]), (a, aB d cap (upd f ((st + i) % cap) ((((f ((st + i) % cap)) ^^^ mk.toInt8.toInt32).toInt8.toInt32).toInt8.toInt32)))] H := hP
  have hD : va_D A [(h, ob 2 [.ref a, .int (nI st), .int (nI n)]), (a, aB d cap (upd f ((st + i) % cap) ((((f ((st + i) % cap)) ^^^ mk.toInt8.toInt32).toInt8.toInt32).toInt8.toInt32)))] := hD
  have hP9 := hP.sub (ws' := [(h, ob 2 [.ref a, .int (nI st), .int (nI n)]), (a, aB d cap (upd f ((st + i) % cap) ((((f ((st + i) % cap)) ^^^ mk.toInt8.toInt32).toInt8.toInt32).toInt8.toInt32)))]) [0, 1] rfl
  have hD9 := hD.sub (ws' := [(h, ob 2 [.ref a, .int (nI st), .int (nI n)]), (a, aB d cap (upd f ((st + i) % cap) ((((f ((st + i) % cap)) ^^^ mk.toInt8.toInt32).toInt8.toInt32).toInt8.toInt32)))]) [0, 1] (by decide) rfl
  exact k_vret C hS (upd f ((st + i) % cap) ((((f ((st + i) % cap)) ^^^ mk.toInt8.toInt32).toInt8.toInt32).toInt8.toInt32)) (rfl) (bq_flip hB hi mk) hP9 hD9 d_BQ_flip_21
theorem mw_BQ_add : Mw y_BQ_add b_BQ_add 2 none 1 := ⟨m_321, m_4, m_319, by decide +kernel⟩
set_option maxHeartbeats 4000000 in
set_option maxRecDepth 100000 in
theorem c_BQ_add (l : Launch) (d : DD) (h : Nat) (a : Nat) (cap : Nat) (st : Nat) (n : Nat) (f : Nat → Int32) (L : List Int32) (x : Int32) (hB : BQ cap f st n L) (hn : n < cap) : Ct l y_BQ_add b_BQ_add 2 none 1 22 0 0 d [(h, ob 2 [.ref a, .int (nI st), .int (nI n)]), (a, aB d cap f)] [.ref h, .int x] (fun (f2 : Nat → Int32) => none) (fun (f2 : Nat → Int32) => BQ cap f2 st (n + 1) (L ++ [x &&& nI 255])) (fun (f2 : Nat → Int32) => [(h, ob 2 [.ref a, .int (nI st), .int (nI (n + 1))]), (a, aB d cap f2)]) := by
  refine Ct.of (by decide +kernel) (Nat.le_of_ble_eq_true rfl) ?_
  intro p e s m below meth c A ls C hP hD hS hl
  have hl : lv_has ls 2 [(0, .ref h), (1, .int x)] := hl
  have hsz9 := hS.1
  obtain ⟨hq1, hq2, hq3, hq4, hq5, hq6⟩ := id hB
  refine lv_aload_n C.x C.b d_BQ_add_0 rfl (lv_at hl 0 rfl) ?_
  refine k_get C hP 0 rfl rfl i_BQ 2 (by decide) m_61 rfl d_BQ_add_1 ?_
  refine lv_aload_n C.x C.b d_BQ_add_4 rfl (lv_at hl 0 rfl) ?_
  refine k_get C hP 0 rfl rfl i_BQ 0 (by decide) m_59 rfl d_BQ_add_5 ?_
  refine k_alenB C hP 1 rfl d_BQ_add_8 ?_
  refine lv_icmp_ge (tgt := 37) C.x C.b d_BQ_add_9 (by decide) (fun h9 => False.elim (absurd h9 (nI_ge (by omega) (by omega)))) (fun hc_1 => ?_)
  rw [nI_leI (by omega) (by omega)] at hc_1
  refine lv_aload_n C.x C.b d_BQ_add_12 rfl (lv_at hl 0 rfl) ?_
  refine k_get C hP 0 rfl rfl i_BQ 0 (by decide) m_59 rfl d_BQ_add_13 ?_
  refine lv_aload_n C.x C.b d_BQ_add_16 rfl (lv_at hl 0 rfl) ?_
  refine lv_aload_n C.x C.b d_BQ_add_17 rfl (lv_at hl 0 rfl) ?_
  refine k_get C hP 0 rfl rfl i_BQ 2 (by decide) m_61 rfl d_BQ_add_18 ?_
  refine k_callV (As := [.int (nI n)]) (rest := [.ref a]) (wc := [(h, ob 2 [.ref a, .int (nI st), .int (nI n)]), (a, aB d cap f)]) (wr := []) C (c_BQ_place l d h a cap st n f n (hq1) (hq2) (by omega)) mw_BQ_place ms_8 m_297 hP hD hS [0, 1] [] rfl rfl (by decide) (by decide) (by decide) 0 rfl rfl rfl rfl hl.1 (Nat.le_of_ble_eq_true rfl) d_BQ_add_21 ⟨Nat.le_of_ble_eq_true rfl, Nat.le_of_ble_eq_true rfl⟩ ⟨by decide, by decide⟩ (fun _ H locs hw_2 hP hD hS => ?_)
  have hP : va_P d.1 clz [(h, ob 2 [.ref a, .int (nI st), .int (nI n)]), (a, aB d cap f)] H := hP
  have hD : va_D A [(h, ob 2 [.ref a, .int (nI st), .int (nI n)]), (a, aB d cap f)] := hD
  refine W.eq (g2 := F0 m 24 ls [.int (nI ((st + n) % cap)), .ref a]) rfl ?_
  refine lv_iload_n C.x C.b d_BQ_add_24 rfl (lv_at hl 1 rfl) ?_
  refine lv_i2b (v := x.toInt8.toInt32) C.x C.b d_BQ_add_25 rfl ?_
  refine k_bast C hP hD hS 1 rfl (j := ((st + n) % cap)) (Nat.mod_lt _ (by omega)) (by omega) d_BQ_add_26 (fun H locs hP hD hS => ?_)
  have hP : va_P d.1 clz [(h, ob 2 [.ref a, .int (nI st), .int (nI n)]), (a, aB d cap (upd f ((st + n) % cap) x.toInt8.toInt32.toInt8.toInt32))] H := hP
  have hD : va_D A [(h, ob 2 [.ref a, .int (nI st), .int (nI n)]), (a, aB d cap (upd f ((st + n) % cap) x.toInt8.toInt32.toInt8.toInt32))] := hD
  refine lv_aload_n C.x C.b d_BQ_add_27 rfl (lv_at hl 0 rfl) ?_
  refine lv_dup C.x C.b d_BQ_add_28 rfl ?_
  refine k_get C hP 0 rfl rfl i_BQ 2 (by decide) m_61 rfl d_BQ_add_29 ?_
  refine lv_iconst (v := nI 1) C.x C.b d_BQ_add_32 (by decide) ?_
  refine lv_iadd C.x C.b d_BQ_add_33 ?_
  refine k_top (y := nI (n + 1)) (nI_add _ _) ?_
  refine k_put C hP hD hS 0 rfl rfl i_BQ tk_BQ n_BQ 2 (by decide) m_61 rfl rfl rfl (Nat.le_of_ble_eq_true rfl) d_BQ_add_34 (fun H locs hP hD hS => ?_)
  have hP : va_P d.1 clz [(h, ob 2 [.ref a, .int (nI st), .int (nI (n + 1))]), (a, aB d cap (upd f ((st + n) % cap) x.toInt8.toInt32.toInt8.toInt32))] H := hP
  have hD : va_D A [(h, ob 2 [.ref a, .int (nI st), .int (nI (n + 1))]), (a, aB d cap (upd f ((st + n) % cap) x.toInt8.toInt32.toInt8.toInt32))] := hD
  have hP9 := hP.sub (ws' := [(h, ob 2 [.ref a, .int (nI st), .int (nI (n + 1))]), (a, aB d cap (upd f ((st + n) % cap) x.toInt8.toInt32.toInt8.toInt32))]) [0, 1] rfl
  have hD9 := hD.sub (ws' := [(h, ob 2 [.ref a, .int (nI st), .int (nI (n + 1))]), (a, aB d cap (upd f ((st + n) % cap) x.toInt8.toInt32.toInt8.toInt32))]) [0, 1] (by decide) rfl
  exact k_vret C hS (upd f ((st + n) % cap) x.toInt8.toInt32.toInt8.toInt32) (rfl) (bq_add hB hn x) hP9 hD9 d_BQ_add_37
theorem mw_BQ_addWord : Mw y_BQ_addWord b_BQ_addWord 3 none 1 := ⟨m_357, m_4, m_355, by decide +kernel⟩
set_option maxHeartbeats 4000000 in
set_option maxRecDepth 100000 in
theorem c_BQ_addWord (l : Launch) (d : DD) (h : Nat) (a : Nat) (cap : Nat) (st : Nat) (n : Nat) (f : Nat → Int32) (L : List Int32) (w : Int32) (hB : BQ cap f st n L) (hn : n + 4 ≤ cap) : Ct l y_BQ_addWord b_BQ_addWord 3 none 2 43 0 0 d [(h, ob 2 [.ref a, .int (nI st), .int (nI n)]), (a, aB d cap f)] [.ref h, .int w] (fun (f2 : Nat → Int32) => none) (fun (f2 : Nat → Int32) => BQ cap f2 st (n + 4) (L ++ wb w)) (fun (f2 : Nat → Int32) => [(h, ob 2 [.ref a, .int (nI st), .int (nI (n + 4))]), (a, aB d cap f2)]) := by
  refine Ct.of (by decide +kernel) (Nat.le_of_ble_eq_true rfl) ?_
  intro p e s m below meth c A ls C hP hD hS hl
  have hl : lv_has ls 3 [(0, .ref h), (1, .int w)] := hl
  have hsz9 := hS.1
  obtain ⟨hq1, hq2, hq3, hq4, hq5, hq6⟩ := id hB
  refine lv_bipush (v := nI 24) C.x C.b d_BQ_addWord_0 (by decide) ?_
  refine lv_istore_n (lv' := [(2, .int (nI 24)), (0, .ref h), (1, .int w)]) C.x C.b d_BQ_addWord_2 rfl hl (by decide) rfl (fun ls hl => ?_)
  refine lv_iload_n C.x C.b d_BQ_addWord_3 rfl (lv_at hl 0 rfl) ?_
  refine lv_if_lt (tgt := 20) C.x C.b d_BQ_addWord_4 (by decide) (fun h9 => by first | exact absurd h9 (by decide) | exact absurd (by decide) h9) (fun _ => ?_)
  refine lv_aload_n C.x C.b d_BQ_addWord_7 rfl (lv_at hl 1 rfl) ?_
  refine lv_iload_n C.x C.b d_BQ_addWord_8 rfl (lv_at hl 2 rfl) ?_
  refine lv_iload_n C.x C.b d_BQ_addWord_9 rfl (lv_at hl 0 rfl) ?_
  refine lv_iushr (v := (w.toUInt32 >>> ((nI 24).toUInt32 &&& Int32.toUInt32 31)).toInt32) C.x C.b d_BQ_addWord_10 rfl ?_
  refine k_callV (As := [.int ((w.toUInt32 >>> ((nI 24).toUInt32 &&& Int32.toUInt32 31)).toInt32)]) (rest := []) (wc := [(h, ob 2 [.ref a, .int (nI st), .int (nI n)]), (a, aB d cap f)]) (wr := []) C (c_BQ_add l d h a cap st n f L ((w.toUInt32 >>> ((nI 24).toUInt32 &&& Int32.toUInt32 31)).toInt32) (hB) (by omega)) mw_BQ_add m_320 m_318 hP hD hS [0, 1] [] rfl rfl (by decide) (by decide) (by decide) 0 rfl rfl rfl rfl hl.1 (Nat.le_of_ble_eq_true rfl) d_BQ_addWord_11 ⟨Nat.le_of_ble_eq_true rfl, Nat.le_of_ble_eq_true rfl⟩ ⟨by decide, by decide⟩ (fun f2_1 H locs hw1 hP hD hS => ?_)
  have hP : va_P d.1 clz [(h, ob 2 [.ref a, .int (nI st), .int (nI (n + 1))]), (a, aB d cap f2_1)] H := hP
  have hD : va_D A [(h, ob 2 [.ref a, .int (nI st), .int (nI (n + 1))]), (a, aB d cap f2_1)] := hD
  refine W.eq (g2 := F0 m 14 ls []) rfl ?_
  have hw1 : BQ cap f2_1 st (n + 1) (L ++ [((w.toUInt32 >>> ((nI 24).toUInt32 &&& Int32.toUInt32 31)).toInt32) &&& nI 255]) := hw1
  refine lv_iinc (v := nI 16) (lv' := [(2, .int (nI 16)), (0, .ref h), (1, .int w)]) C.x C.b d_BQ_addWord_14 hl (k := 0) rfl (by decide) (by decide) rfl (fun ls hl => ?_)
  refine lv_goto (tgt := 3) C.x C.b d_BQ_addWord_17 (by decide) ?_
  refine lv_iload_n C.x C.b d_BQ_addWord_3 rfl (lv_at hl 0 rfl) ?_
  refine lv_if_lt (tgt := 20) C.x C.b d_BQ_addWord_4 (by decide) (fun h9 => by first | exact absurd h9 (by decide) | exact absurd (by decide) h9) (fun _ => ?_)
  refine lv_aload_n C.x C.b d_BQ_addWord_7 rfl (lv_at hl 1 rfl) ?_
  refine lv_iload_n C.x C.b d_BQ_addWord_8 rfl (lv_at hl 2 rfl) ?_
  refine lv_iload_n C.x C.b d_BQ_addWord_9 rfl (lv_at hl 0 rfl) ?_
  refine lv_iushr (v := (w.toUInt32 >>> ((nI 16).toUInt32 &&& Int32.toUInt32 31)).toInt32) C.x C.b d_BQ_addWord_10 rfl ?_
  refine k_callV (As := [.int ((w.toUInt32 >>> ((nI 16).toUInt32 &&& Int32.toUInt32 31)).toInt32)]) (rest := []) (wc := [(h, ob 2 [.ref a, .int (nI st), .int (nI (n + 1))]), (a, aB d cap f2_1)]) (wr := []) C (c_BQ_add l d h a cap st (n + 1) f2_1 (L ++ [((w.toUInt32 >>> ((nI 24).toUInt32 &&& Int32.toUInt32 31)).toInt32) &&& nI 255]) ((w.toUInt32 >>> ((nI 16).toUInt32 &&& Int32.toUInt32 31)).toInt32) (hw1) (by omega)) mw_BQ_add m_320 m_318 hP hD hS [0, 1] [] rfl rfl (by decide) (by decide) (by decide) 0 rfl rfl rfl rfl hl.1 (Nat.le_of_ble_eq_true rfl) d_BQ_addWord_11 ⟨Nat.le_of_ble_eq_true rfl, Nat.le_of_ble_eq_true rfl⟩ ⟨by decide, by decide⟩ (fun f2_2 H locs hw2 hP hD hS => ?_)
  have hP : va_P d.1 clz [(h, ob 2 [.ref a, .int (nI st), .int (nI (n + 1 + 1))]), (a, aB d cap f2_2)] H := hP
  have hD : va_D A [(h, ob 2 [.ref a, .int (nI st), .int (nI (n + 1 + 1))]), (a, aB d cap f2_2)] := hD
  refine W.eq (g2 := F0 m 14 ls []) rfl ?_
  have hw2 : BQ cap f2_2 st (n + 1 + 1) (L ++ [((w.toUInt32 >>> ((nI 24).toUInt32 &&& Int32.toUInt32 31)).toInt32) &&& nI 255] ++ [((w.toUInt32 >>> ((nI 16).toUInt32 &&& Int32.toUInt32 31)).toInt32) &&& nI 255]) := hw2
  refine lv_iinc (v := nI 8) (lv' := [(2, .int (nI 8)), (0, .ref h), (1, .int w)]) C.x C.b d_BQ_addWord_14 hl (k := 0) rfl (by decide) (by decide) rfl (fun ls hl => ?_)
  refine lv_goto (tgt := 3) C.x C.b d_BQ_addWord_17 (by decide) ?_
  refine lv_iload_n C.x C.b d_BQ_addWord_3 rfl (lv_at hl 0 rfl) ?_
  refine lv_if_lt (tgt := 20) C.x C.b d_BQ_addWord_4 (by decide) (fun h9 => by first | exact absurd h9 (by decide) | exact absurd (by decide) h9) (fun _ => ?_)
  refine lv_aload_n C.x C.b d_BQ_addWord_7 rfl (lv_at hl 1 rfl) ?_
  refine lv_iload_n C.x C.b d_BQ_addWord_8 rfl (lv_at hl 2 rfl) ?_
  refine lv_iload_n C.x C.b d_BQ_addWord_9 rfl (lv_at hl 0 rfl) ?_
  refine lv_iushr (v := (w.toUInt32 >>> ((nI 8).toUInt32 &&& Int32.toUInt32 31)).toInt32) C.x C.b d_BQ_addWord_10 rfl ?_
  refine k_callV (As := [.int ((w.toUInt32 >>> ((nI 8).toUInt32 &&& Int32.toUInt32 31)).toInt32)]) (rest := []) (wc := [(h, ob 2 [.ref a, .int (nI st), .int (nI (n + 1 + 1))]), (a, aB d cap f2_2)]) (wr := []) C (c_BQ_add l d h a cap st (n + 1 + 1) f2_2 (L ++ [((w.toUInt32 >>> ((nI 24).toUInt32 &&& Int32.toUInt32 31)).toInt32) &&& nI 255] ++ [((w.toUInt32 >>> ((nI 16).toUInt32 &&& Int32.toUInt32 31)).toInt32) &&& nI 255]) ((w.toUInt32 >>> ((nI 8).toUInt32 &&& Int32.toUInt32 31)).toInt32) (hw2) (by omega)) mw_BQ_add m_320 m_318 hP hD hS [0, 1] [] rfl rfl (by decide) (by decide) (by decide) 0 rfl rfl rfl rfl hl.1 (Nat.le_of_ble_eq_true rfl) d_BQ_addWord_11 ⟨Nat.le_of_ble_eq_true rfl, Nat.le_of_ble_eq_true rfl⟩ ⟨by decide, by decide⟩ (fun f2_3 H locs hw3 hP hD hS => ?_)
  have hP : va_P d.1 clz [(h, ob 2 [.ref a, .int (nI st), .int (nI (n + 1 + 1 + 1))]), (a, aB d cap f2_3)] H := hP
  have hD : va_D A [(h, ob 2 [.ref a, .int (nI st), .int (nI (n + 1 + 1 + 1))]), (a, aB d cap f2_3)] := hD
  refine W.eq (g2 := F0 m 14 ls []) rfl ?_
  have hw3 : BQ cap f2_3 st (n + 1 + 1 + 1) (L ++ [((w.toUInt32 >>> ((nI 24).toUInt32 &&& Int32.toUInt32 31)).toInt32) &&& nI 255] ++ [((w.toUInt32 >>> ((nI 16).toUInt32 &&& Int32.toUInt32 31)).toInt32) &&& nI 255] ++ [((w.toUInt32 >>> ((nI 8).toUInt32 &&& Int32.toUInt32 31)).toInt32) &&& nI 255]) := hw3
  refine lv_iinc (v := nI 0) (lv' := [(2, .int (nI 0)), (0, .ref h), (1, .int w)]) C.x C.b d_BQ_addWord_14 hl (k := 0) rfl (by decide) (by decide) rfl (fun ls hl => ?_)
  refine lv_goto (tgt := 3) C.x C.b d_BQ_addWord_17 (by decide) ?_
  refine lv_iload_n C.x C.b d_BQ_addWord_3 rfl (lv_at hl 0 rfl) ?_
  refine lv_if_lt (tgt := 20) C.x C.b d_BQ_addWord_4 (by decide) (fun h9 => by first | exact absurd h9 (by decide) | exact absurd (by decide) h9) (fun _ => ?_)
  refine lv_aload_n C.x C.b d_BQ_addWord_7 rfl (lv_at hl 1 rfl) ?_
  refine lv_iload_n C.x C.b d_BQ_addWord_8 rfl (lv_at hl 2 rfl) ?_
  refine lv_iload_n C.x C.b d_BQ_addWord_9 rfl (lv_at hl 0 rfl) ?_
  refine lv_iushr (v := (w.toUInt32 >>> ((nI 0).toUInt32 &&& Int32.toUInt32 31)).toInt32) C.x C.b d_BQ_addWord_10 rfl ?_
  refine k_callV (As := [.int ((w.toUInt32 >>> ((nI 0).toUInt32 &&& Int32.toUInt32 31)).toInt32)]) (rest := []) (wc := [(h, ob 2 [.ref a, .int (nI st), .int (nI (n + 1 + 1 + 1))]), (a, aB d cap f2_3)]) (wr := []) C (c_BQ_add l d h a cap st (n + 1 + 1 + 1) f2_3 (L ++ [((w.toUInt32 >>> ((nI 24).toUInt32 &&& Int32.toUInt32 31)).toInt32) &&& nI 255] ++ [((w.toUInt32 >>> ((nI 16).toUInt32 &&& Int32.toUInt32 31)).toInt32) &&& nI 255] ++ [((w.toUInt32 >>> ((nI 8).toUInt32 &&& Int32.toUInt32 31)).toInt32) &&& nI 255]) ((w.toUInt32 >>> ((nI 0).toUInt32 &&& Int32.toUInt32 31)).toInt32) (hw3) (by omega)) mw_BQ_add m_320 m_318 hP hD hS [0, 1] [] rfl rfl (by decide) (by decide) (by decide) 0 rfl rfl rfl rfl hl.1 (Nat.le_of_ble_eq_true rfl) d_BQ_addWord_11 ⟨Nat.le_of_ble_eq_true rfl, Nat.le_of_ble_eq_true rfl⟩ ⟨by decide, by decide⟩ (fun f2_4 H locs hw4 hP hD hS => ?_)
  have hP : va_P d.1 clz [(h, ob 2 [.ref a, .int (nI st), .int (nI (n + 1 + 1 + 1 + 1))]), (a, aB d cap f2_4)] H := hP
  have hD : va_D A [(h, ob 2 [.ref a, .int (nI st), .int (nI (n + 1 + 1 + 1 + 1))]), (a, aB d cap f2_4)] := hD
  refine W.eq (g2 := F0 m 14 ls []) rfl ?_
  have hw4 : BQ cap f2_4 st (n + 1 + 1 + 1 + 1) (L ++ [((w.toUInt32 >>> ((nI 24).toUInt32 &&& Int32.toUInt32 31)).toInt32) &&& nI 255] ++ [((w.toUInt32 >>> ((nI 16).toUInt32 &&& Int32.toUInt32 31)).toInt32) &&& nI 255] ++ [((w.toUInt32 >>> ((nI 8).toUInt32 &&& Int32.toUInt32 31)).toInt32) &&& nI 255] ++ [((w.toUInt32 >>> ((nI 0).toUInt32 &&& Int32.toUInt32 31)).toInt32) &&& nI 255]) := hw4
  refine lv_iinc (v := (-8)) (lv' := [(2, .int (-8)), (0, .ref h), (1, .int w)]) C.x C.b d_BQ_addWord_14 hl (k := 0) rfl (by decide) (by decide) rfl (fun ls hl => ?_)
  refine lv_goto (tgt := 3) C.x C.b d_BQ_addWord_17 (by decide) ?_
  refine lv_iload_n C.x C.b d_BQ_addWord_3 rfl (lv_at hl 0 rfl) ?_
  refine lv_if_lt (tgt := 20) C.x C.b d_BQ_addWord_4 (by decide) (fun _ => ?_) (fun h9 => by first | exact absurd h9 (by decide) | exact absurd (by decide) h9)
  have hP9 := hP.sub (ws' := [(h, ob 2 [.ref a, .int (nI st), .int (nI (n + 1 + 1 + 1 + 1))]), (a, aB d cap f2_4)]) [0, 1] rfl
  have hD9 := hD.sub (ws' := [(h, ob 2 [.ref a, .int (nI st), .int (nI (n + 1 + 1 + 1 + 1))]), (a, aB d cap f2_4)]) [0, 1] (by decide) rfl
  exact k_vret C hS f2_4 (rfl) (by simpa [wb, ush, List.append_assoc] using hw4) hP9 hD9 d_BQ_addWord_20
theorem mw_BQ_addFrom : Mw y_BQ_addFrom b_BQ_addFrom 5 none 3 := ⟨m_316, m_4, m_314, by decide +kernel⟩
set_option maxHeartbeats 4000000 in
set_option maxRecDepth 100000 in
theorem c_BQ_addFrom (l : Launch) (d : DD) (h : Nat) (a : Nat) (cap : Nat) (st : Nat) (n : Nat) (f : Nat → Int32) (L : List Int32) (h1 : Nat) (a1 : Nat) (cap1 : Nat) (st1 : Nat) (n1 : Nat) (f1 : Nat → Int32) (L1 : List Int32) (fr : Nat) (en : Nat) (hB : BQ cap f st n L) (hB1 : BQ cap1 f1 st1 n1 L1) (h1e : fr ≤ en) (h2e : en ≤ n1) (h3e : n + (en - fr) ≤ cap) : Ct l y_BQ_addFrom b_BQ_addFrom 5 none 2 43 0 0 d [(h, ob 2 [.ref a, .int (nI st), .int (nI n)]), (a, aB d cap f), (h1, ob 2 [.ref a1, .int (nI st1), .int (nI n1)]), (a1, aB d cap1 f1)] [.ref h, .ref h1, .int (nI fr), .int (nI en)] (fun (f2 : Nat → Int32) => none) (fun (f2 : Nat → Int32) => BQ cap f2 st (n + (en - fr)) (L ++ (L1.drop fr).take (en - fr))) (fun (f2 : Nat → Int32) => [(h, ob 2 [.ref a, .int (nI st), .int (nI (n + (en - fr)))]), (a, aB d cap f2), (h1, ob 2 [.ref a1, .int (nI st1), .int (nI n1)]), (a1, aB d cap1 f1)]) := by
  refine Ct.of (by decide +kernel) (Nat.le_of_ble_eq_true rfl) ?_
  intro p e s m below meth c A ls C hP hD hS hl
  have hl : lv_has ls 5 [(0, .ref h), (1, .ref h1), (2, .int (nI fr)), (3, .int (nI en))] := hl
  have hsz9 := hS.1
  obtain ⟨hq1, hq2, hq3, hq4, hq5, hq6⟩ := id hB
  obtain ⟨hr1, hr2, hr3, hr4, hr5, hr6⟩ := id hB1
  refine lv_iload_n C.x C.b d_BQ_addFrom_0 rfl (lv_at hl 2 rfl) ?_
  refine lv_istore (lv' := [(4, .int (nI fr)), (0, .ref h), (1, .ref h1), (2, .int (nI fr)), (3, .int (nI en))]) C.x C.b d_BQ_addFrom_1 hl (by decide) rfl (fun ls hl => ?_)
  have L3 : ∀ (fuel : Nat) (j : Nat) (g : Nat → Int32), en - j < fuel → (fr ≤ j) → (j ≤ en) → (BQ cap g st (n + (j - fr)) (L ++ (L1.drop fr).take (j - fr))) → ∀ (H : Heap) (locs : List Loc) (ls : Array Slot), va_P d.1 clz [(h, ob 2 [.ref a, .int (nI st), .int (nI (n + (j - fr)))]), (a, aB d cap g), (h1, ob 2 [.ref a1, .int (nI st1), .int (nI n1)]), (a1, aB d cap1 f1)] H → va_D A [(h, ob 2 [.ref a, .int (nI st), .int (nI (n + (j - fr)))]), (a, aB d cap g), (h1, ob 2 [.ref a1, .int (nI st1), .int (nI n1)]), (a1, aB d cap1 f1)] → va_S A s.heap H locs → lv_has ls 5 [(0, .ref h), (1, .ref h1), (2, .int (nI fr)), (3, .int (nI en)), (4, .int (nI j))] → W p l e (Rm 2 43 0 0) s m ([.ref h, .ref h1, .int (nI fr), .int (nI en)] : List Value).toArray below meth c H locs 0 0 (MQ below (Cout d A (fun (f2 : Nat → Int32) => none) (fun (f2 : Nat → Int32) => BQ cap f2 st (n + (en - fr)) (L ++ (L1.drop fr).take (en - fr))) (fun (f2 : Nat → Int32) => [(h, ob 2 [.ref a, .int (nI st), .int (nI (n + (en - fr)))]), (a, aB d cap f2), (h1, ob 2 [.ref a1, .int (nI st1), .int (nI n1)]), (a1, aB d cap1 f1)])) ([.ref h, .ref h1, .int (nI fr), .int (nI en)] : List Value).toArray s 0 0 A) (F0 m 3 ls []) := by
    intro fuel
    induction fuel with
    | zero => intro j g h9; exact absurd h9 (Nat.not_lt_zero _)
    | succ fuel ih3 =>
      intro j g hfu3 hj1 hj2 hjB H locs ls hP hD hS hl
      refine lv_iload C.x C.b d_BQ_addFrom_3 (lv_at hl 4 rfl) ?_
      refine lv_iload_n C.x C.b d_BQ_addFrom_5 rfl (lv_at hl 3 rfl) ?_
      refine lv_icmp_ge (tgt := 25) C.x C.b d_BQ_addFrom_6 (by decide) (fun hc6 => ?_) (fun hc6 => ?_)
      · rw [nI_leI (by omega) (by omega)] at hc6
        have hP9 := hP.sub (ws' := [(h, ob 2 [.ref a, .int (nI st), .int (nI (n + (j - fr)))]), (a, aB d cap g), (h1, ob 2 [.ref a1, .int (nI st1), .int (nI n1)]), (a1, aB d cap1 f1)]) [0, 1, 2, 3] rfl
        have hD9 := hD.sub (ws' := [(h, ob 2 [.ref a, .int (nI st), .int (nI (n + (j - fr)))]), (a, aB d cap g), (h1, ob 2 [.ref a1, .int (nI st1), .int (nI n1)]), (a1, aB d cap1 f1)]) [0, 1, 2, 3] (by decide) rfl
        rw [show n + (j - fr) = n + (en - fr) from by omega] at hP9 hD9
        exact k_vret C hS g (rfl) (by rw [show j = en from by omega] at hjB; exact hjB) hP9 hD9 d_BQ_addFrom_25
      · rw [nI_leI (by omega) (by omega)] at hc6
        refine lv_aload_n C.x C.b d_BQ_addFrom_9 rfl (lv_at hl 0 rfl) ?_
        refine lv_aload_n C.x C.b d_BQ_addFrom_10 rfl (lv_at hl 1 rfl) ?_
        refine lv_iload C.x C.b d_BQ_addFrom_11 (lv_at hl 4 rfl) ?_
        refine k_callV (As := [.int (nI j)]) (rest := [.ref h]) (wc := [(h1, ob 2 [.ref a1, .int (nI st1), .int (nI n1)]), (a1, aB d cap1 f1)]) (wr := [(h, ob 2 [.ref a, .int (nI st), .int (nI (n + (j - fr)))]), (a, aB d cap g)]) C (c_BQ_at l d h1 a1 cap1 st1 n1 f1 L1 j (hB1) (by omega)) mw_BQ_at m_288 m_317 hP hD hS [2, 3] [0, 1] rfl rfl (by decide) (by decide) (by decide) 2 rfl rfl rfl rfl hl.1 (Nat.le_of_ble_eq_true rfl) d_BQ_addFrom_13 ⟨Nat.le_of_ble_eq_true rfl, Nat.le_of_ble_eq_true rfl⟩ ⟨by decide, by decide⟩ (fun _ H locs hw_2 hP hD hS => ?_)
        have hP : va_P d.1 clz [(h, ob 2 [.ref a, .int (nI st), .int (nI (n + (j - fr)))]), (a, aB d cap g), (h1, ob 2 [.ref a1, .int (nI st1), .int (nI n1)]), (a1, aB d cap1 f1)] H := hP
        have hD : va_D A [(h, ob 2 [.ref a, .int (nI st), .int (nI (n + (j - fr)))]), (a, aB d cap g), (h1, ob 2 [.ref a1, .int (nI st1), .int (nI n1)]), (a1, aB d cap1 f1)] := hD
        refine W.eq (g2 := F0 m 16 ls [.int (L1.getD j 0), .ref h]) rfl ?_
        refine k_callV (As := [.int (L1.getD j 0)]) (rest := []) (wc := [(h, ob 2 [.ref a, .int (nI st), .int (nI (n + (j - fr)))]), (a, aB d cap g)]) (wr := [(h1, ob 2 [.ref a1, .int (nI st1), .int (nI n1)]), (a1, aB d cap1 f1)]) C (c_BQ_add l d h a cap st (n + (j - fr)) g (L ++ (L1.drop fr).take (j - fr)) (L1.getD j 0) (hjB) (by omega)) mw_BQ_add m_320 m_318 hP hD hS [0, 1] [2, 3] rfl rfl (by decide) (by decide) (by decide) 0 rfl rfl rfl rfl hl.1 (Nat.le_of_ble_eq_true rfl) d_BQ_addFrom_16 ⟨Nat.le_of_ble_eq_true rfl, Nat.le_of_ble_eq_true rfl⟩ ⟨by decide, by decide⟩ (fun g2 H locs hg2 hP hD hS => ?_)
        have hP : va_P d.1 clz [(h1, ob 2 [.ref a1, .int (nI st1), .int (nI n1)]), (a1, aB d cap1 f1), (h, ob 2 [.ref a, .int (nI st), .int (nI (n + (j - fr) + 1))]), (a, aB d cap g2)] H := hP
        have hD : va_D A [(h1, ob 2 [.ref a1, .int (nI st1), .int (nI n1)]), (a1, aB d cap1 f1), (h, ob 2 [.ref a, .int (nI st), .int (nI (n + (j - fr) + 1))]), (a, aB d cap g2)] := hD
        refine W.eq (g2 := F0 m 19 ls []) rfl ?_
        have hg2 : BQ cap g2 st (n + (j - fr) + 1) (L ++ (L1.drop fr).take (j - fr) ++ [(L1.getD j 0) &&& nI 255]) := hg2
        have e9 : j + 1 - fr = (j - fr) + 1 := by omega
        have hg3 : BQ cap g2 st (n + (j + 1 - fr)) (L ++ (L1.drop fr).take (j + 1 - fr)) := by
          rw [e9, bq_take (by omega), ← List.append_assoc, ← Nat.add_assoc, show fr + (j - fr) = j from by omega]
          rw [hr6 _ (bq_mem (by omega))] at hg2
          exact hg2
        rw [show n + (j - fr) + 1 = n + (j + 1 - fr) from by omega] at hP hD
        refine lv_iinc (v := nI (j + 1)) (lv' := [(4, .int (nI (j + 1))), (0, .ref h), (1, .ref h1), (2, .int (nI fr)), (3, .int (nI en))]) C.x C.b d_BQ_addFrom_19 hl (k := 4) rfl (k_inc _ 1) (by decide) rfl (fun ls hl => ?_)
        refine lv_goto (tgt := 3) C.x C.b d_BQ_addFrom_22 (by decide) ?_
        exact ih3 (j + 1) g2 (by omega) (by omega) (by omega) (hg3) _ _ _ (hP.sub [2, 3, 0, 1] (rfl)) (hD.sub [2, 3, 0, 1] (by decide) (rfl)) hS (lv_sub hl [1, 2, 3, 4, 0] (rfl))
  exact L3 ((en - fr) + 1) fr f (Nat.lt_succ_self _) (Nat.le_refl _) (h1e) (by rw [Nat.sub_self, List.take_zero, List.append_nil]; exact hB) _ _ _ (hP.sub [0, 1, 2, 3] (by rw [Nat.sub_self]; rfl)) (hD.sub [0, 1, 2, 3] (by decide) (by rw [Nat.sub_self]; rfl)) hS (lv_sub hl [1, 2, 3, 4, 0] (rfl))
theorem mw_BQ_dropFirst : Mw y_BQ_dropFirst b_BQ_dropFirst 3 none 1 := ⟨m_412, m_4, m_410, by decide +kernel⟩
set_option maxHeartbeats 4000000 in
set_option maxRecDepth 100000 in
theorem c_BQ_dropFirst (l : Launch) (d : DD) (h : Nat) (a : Nat) (cap : Nat) (st : Nat) (n : Nat) (f : Nat → Int32) (L : List Int32) (k : Nat) (hB : BQ cap f st n L) (hk : k ≤ n) : Ct l y_BQ_dropFirst b_BQ_dropFirst 3 none 1 22 0 0 d [(h, ob 2 [.ref a, .int (nI st), .int (nI n)]), (a, aB d cap f)] [.ref h, .int (nI k)] (fun (st2 : Nat) => none) (fun (st2 : Nat) => BQ cap f st2 (n - k) (L.drop k)) (fun (st2 : Nat) => [(h, ob 2 [.ref a, .int (nI st2), .int (nI (n - k))]), (a, aB d cap f)]) := by
  refine Ct.of (by decide +kernel) (Nat.le_of_ble_eq_true rfl) ?_
  intro p e s m below meth c A ls C hP hD hS hl
  have hl : lv_has ls 3 [(0, .ref h), (1, .int (nI k))] := hl
  have hsz9 := hS.1
  obtain ⟨hq1, hq2, hq3, hq4, hq5, hq6⟩ := id hB
  refine lv_iconst (v := nI 0) C.x C.b d_BQ_dropFirst_0 (by decide) ?_
  refine lv_iload_n C.x C.b d_BQ_dropFirst_1 rfl (lv_at hl 1 rfl) ?_
  refine lv_aload_n C.x C.b d_BQ_dropFirst_2 rfl (lv_at hl 0 rfl) ?_
  refine k_get C hP 0 rfl rfl i_BQ 2 (by decide) m_61 rfl d_BQ_dropFirst_3 ?_
  refine k_callS (As := [.int (nI k), .int (nI n)]) (rest := [.int (nI 0)]) (wc := []) (wr := [(h, ob 2 [.ref a, .int (nI st), .int (nI n)]), (a, aB d cap f)]) C (c_JM_min l d k n (by omega) (by omega)) mw_JM_min m_413 hP hD hS [] [0, 1] rfl rfl (by decide) (by decide) (by decide) rfl hl.1 (Nat.le_of_ble_eq_true rfl) d_BQ_dropFirst_6 ⟨Nat.le_of_ble_eq_true rfl, Nat.le_of_ble_eq_true rfl⟩ ⟨by decide, by decide⟩ (fun _ H locs hw_1 hP hD hS => ?_)
  have hP : va_P d.1 clz [(h, ob 2 [.ref a, .int (nI st), .int (nI n)]), (a, aB d cap f)] H := hP
  have hD : va_D A [(h, ob 2 [.ref a, .int (nI st), .int (nI n)]), (a, aB d cap f)] := hD
  refine W.eq (g2 := F0 m 9 ls [.int (nI (min k n)), .int (nI 0)]) rfl ?_
  refine k_top (y := nI k) (by rw [Nat.min_eq_left hk]) ?_
  refine k_callS (As := [.int (nI 0), .int (nI k)]) (rest := []) (wc := []) (wr := [(h, ob 2 [.ref a, .int (nI st), .int (nI n)]), (a, aB d cap f)]) C (c_JM_max l d 0 k (by omega) (by omega)) mw_JM_max m_56 hP hD hS [] [0, 1] rfl rfl (by decide) (by decide) (by decide) rfl hl.1 (Nat.le_of_ble_eq_true rfl) d_BQ_dropFirst_9 ⟨Nat.le_of_ble_eq_true rfl, Nat.le_of_ble_eq_true rfl⟩ ⟨by decide, by decide⟩ (fun _ H locs hw_2 hP hD hS => ?_)
  have hP : va_P d.1 clz [(h, ob 2 [.ref a, .int (nI st), .int (nI n)]), (a, aB d cap f)] H := hP
  have hD : va_D A [(h, ob 2 [.ref a, .int (nI st), .int (nI n)]), (a, aB d cap f)] := hD
  refine W.eq (g2 := F0 m 12 ls [.int (nI (max 0 k))]) rfl ?_
  refine k_top (y := nI k) (by rw [Nat.max_eq_right (Nat.zero_le _)]) ?_
  refine lv_istore_n (lv' := [(2, .int (nI k)), (0, .ref h), (1, .int (nI k))]) C.x C.b d_BQ_dropFirst_12 rfl hl (by decide) rfl (fun ls hl => ?_)
  refine lv_aload_n C.x C.b d_BQ_dropFirst_13 rfl (lv_at hl 1 rfl) ?_
  refine lv_dup C.x C.b d_BQ_dropFirst_14 rfl ?_
  refine k_get C hP 0 rfl rfl i_BQ 2 (by decide) m_61 rfl d_BQ_dropFirst_15 ?_
  refine lv_iload_n C.x C.b d_BQ_dropFirst_18 rfl (lv_at hl 0 rfl) ?_
  refine lv_isub C.x C.b d_BQ_dropFirst_19 ?_
  refine k_top (y := nI (n - k)) (pk_sub (by omega)) ?_
  refine k_put C hP hD hS 0 rfl rfl i_BQ tk_BQ n_BQ 2 (by decide) m_61 rfl rfl rfl (Nat.le_of_ble_eq_true rfl) d_BQ_dropFirst_20 (fun H locs hP hD hS => ?_)
  have hP : va_P d.1 clz [(h, ob 2 [.ref a, .int (nI st), .int (nI (n - k))]), (a, aB d cap f)] H := hP
  have hD : va_D A [(h, ob 2 [.ref a, .int (nI st), .int (nI (n - k))]), (a, aB d cap f)] := hD
  refine lv_aload_n C.x C.b d_BQ_dropFirst_23 rfl (lv_at hl 1 rfl) ?_
  refine lv_aload_n C.x C.b d_BQ_dropFirst_24 rfl (lv_at hl 1 rfl) ?_
  refine k_get C hP 0 rfl rfl i_BQ 2 (by decide) m_61 rfl d_BQ_dropFirst_25 ?_
  refine lv_if_ne (tgt := 35) C.x C.b d_BQ_dropFirst_28 (by decide) (fun hc28 => ?_) (fun hc28 => ?_)
  · rw [← nI_0, nI_eq (by omega) (by omega)] at hc28
    refine lv_aload_n C.x C.b d_BQ_dropFirst_35 rfl (lv_at hl 1 rfl) ?_
    refine lv_iload_n C.x C.b d_BQ_dropFirst_36 rfl (lv_at hl 0 rfl) ?_
    refine k_callV (As := [.int (nI k)]) (rest := [.ref h]) (wc := [(h, ob 2 [.ref a, .int (nI st), .int (nI (n - k))]), (a, aB d cap f)]) (wr := []) C (c_BQ_place l d h a cap st (n - k) f k (hq1) (hq2) (by omega)) mw_BQ_place ms_8 m_297 hP hD hS [0, 1] [] rfl rfl (by decide) (by decide) (by decide) 0 rfl rfl rfl rfl hl.1 (Nat.le_of_ble_eq_true rfl) d_BQ_dropFirst_37 ⟨Nat.le_of_ble_eq_true rfl, Nat.le_of_ble_eq_true rfl⟩ ⟨by decide, by decide⟩ (fun _ H locs hw_4 hP hD hS => ?_)
    have hP : va_P d.1 clz [(h, ob 2 [.ref a, .int (nI st), .int (nI (n - k))]), (a, aB d cap f)] H := hP
    have hD : va_D A [(h, ob 2 [.ref a, .int (nI st), .int (nI (n - k))]), (a, aB d cap f)] := hD
    refine W.eq (g2 := F0 m 40 ls [.int (nI ((st + k) % cap)), .ref h]) rfl ?_
    refine k_put C hP hD hS 0 rfl rfl i_BQ tk_BQ n_BQ 1 (by decide) m_60 rfl rfl rfl (Nat.le_of_ble_eq_true rfl) d_BQ_dropFirst_40 (fun H locs hP hD hS => ?_)
    have hP : va_P d.1 clz [(h, ob 2 [.ref a, .int (nI ((st + k) % cap)), .int (nI (n - k))]), (a, aB d cap f)] H := hP
    have hD : va_D A [(h, ob 2 [.ref a, .int (nI ((st + k) % cap)), .int (nI (n - k))]), (a, aB d cap f)] := hD
    have hP9 := hP.sub (ws' := [(h, ob 2 [.ref a, .int (nI ((st + k) % cap)), .int (nI (n - k))]), (a, aB d cap f)]) [0, 1] rfl
    have hD9 := hD.sub (ws' := [(h, ob 2 [.ref a, .int (nI ((st + k) % cap)), .int (nI (n - k))]), (a, aB d cap f)]) [0, 1] (by decide) rfl
    exact k_vret C hS ((st + k) % cap) (rfl) (bq_drop hB (by omega)) hP9 hD9 d_BQ_dropFirst_43
  · rw [← nI_0, nI_eq (by omega) (by omega)] at hc28
    refine lv_iconst (v := nI 0) C.x C.b d_BQ_dropFirst_31 (by decide) ?_
    refine lv_goto (tgt := 40) C.x C.b d_BQ_dropFirst_32 (by decide) ?_
    refine k_put C hP hD hS 0 rfl rfl i_BQ tk_BQ n_BQ 1 (by decide) m_60 rfl rfl rfl (Nat.le_of_ble_eq_true rfl) d_BQ_dropFirst_40 (fun H locs hP hD hS => ?_)
    have hP : va_P d.1 clz [(h, ob 2 [.ref a, .int (nI 0), .int (nI (n - k))]), (a, aB d cap f)] H := hP
    have hD : va_D A [(h, ob 2 [.ref a, .int (nI 0), .int (nI (n - k))]), (a, aB d cap f)] := hD
    have hP9 := hP.sub (ws' := [(h, ob 2 [.ref a, .int (nI 0), .int (nI (n - k))]), (a, aB d cap f)]) [0, 1] rfl
    have hD9 := hD.sub (ws' := [(h, ob 2 [.ref a, .int (nI 0), .int (nI (n - k))]), (a, aB d cap f)]) [0, 1] (by decide) rfl
    exact k_vret C hS 0 (rfl) (bq_drop_all hB (by omega)) hP9 hD9 d_BQ_dropFirst_43
theorem mw_BQ_init : Mw y_BQ_init b_BQ_init 2 none 1 := ⟨m_54, m_4, m_53, by decide +kernel⟩
set_option maxHeartbeats 4000000 in
set_option maxRecDepth 100000 in
theorem c_BQ_init (l : Launch) (d : DD) (h : Nat) (cap : Nat) (hc : 1 ≤ cap) (hc2 : cap < 100000) : Ct l y_BQ_init b_BQ_init 2 none 1 21 1 cap d [(h, ob 2 [.null, .int 0, .int 0])] [.ref h, .int (nI cap)] (fun (a : Nat) => none) (fun (a : Nat) => True) (fun (a : Nat) => [(h, ob 2 [.ref a, .int 0, .int 0]), (a, aB d cap (fun _ => 0))]) := by
  refine Ct.of (by decide +kernel) (Nat.le_of_ble_eq_true rfl) ?_
  intro p e s m below meth c A ls C hP hD hS hl
  have hl : lv_has ls 2 [(0, .ref h), (1, .int (nI cap))] := hl
  have hsz9 := hS.1
  refine lv_aload_n C.x C.b d_BQ_init_0 rfl (lv_at hl 0 rfl) ?_
  refine W.objInit C.x C.b C.o (C.t _ m_55) (C.t _ m_22) (C.t _ m_obj) rfl (by rw [C.ml]; exact hl.1) rfl d_BQ_init_1 (Nat.le_of_ble_eq_true rfl) (Nat.le_of_ble_eq_true rfl) ?_
  refine W.eq (g2 := F0 m 4 ls []) rfl ?_
  refine lv_aload_n C.x C.b d_BQ_init_4 rfl (lv_at hl 0 rfl) ?_
  refine lv_iload_n C.x C.b d_BQ_init_5 rfl (lv_at hl 1 rfl) ?_
  refine lv_iconst (v := nI 1) C.x C.b d_BQ_init_6 (by decide) ?_
  refine k_callS (As := [.int (nI cap), .int (nI 1)]) (rest := [.ref h]) (wc := []) (wr := [(h, ob 2 [.null, .int 0, .int 0])]) C (c_JM_max l d cap 1 (by omega) (by omega)) mw_JM_max m_56 hP hD hS [] [0] rfl rfl (by decide) (by decide) (by decide) rfl hl.1 (Nat.le_of_ble_eq_true rfl) d_BQ_init_7 ⟨Nat.le_of_ble_eq_true rfl, Nat.le_of_ble_eq_true rfl⟩ ⟨by dsimp only [Rm]; omega, by dsimp only [Rm]; omega⟩ (fun _ H locs hw_1 hP hD hS => ?_)
  have hP : va_P d.1 clz [(h, ob 2 [.null, .int 0, .int 0])] H := hP
  have hD : va_D A [(h, ob 2 [.null, .int 0, .int 0])] := hD
  refine W.eq (g2 := F0 m 10 ls [.int (nI (max cap 1)), .ref h]) rfl ?_
  refine k_top (y := nI cap) (by rw [Nat.max_eq_left hc]) ?_
  refine k_newB (n := cap) C hP hD hS (by omega) (by dsimp only [Rm]; omega) (by dsimp only [Rm]; omega) d_BQ_init_10 (fun q_2 H hP hD hS => ?_)
  have hP : va_P d.1 clz [(h, ob 2 [.null, .int 0, .int 0]), (q_2, aB d cap (fun _ => 0))] H := hP
  have hD : va_D A [(h, ob 2 [.null, .int 0, .int 0]), (q_2, aB d cap (fun _ => 0))] := hD
  refine k_putF C rfl hP hD hS 0 rfl rfl i_BQ tk_BQ n_BQ 0 (by decide) m_59 rfl rfl rfl rfl (Nat.le_of_ble_eq_true rfl) d_BQ_init_12 (fun H locs hP hD hS => ?_)
  have hP : va_P d.1 clz [(h, ob 2 [.ref q_2, .int 0, .int 0]), (q_2, aB d cap (fun _ => 0))] H := hP
  have hD : va_D A [(h, ob 2 [.ref q_2, .int 0, .int 0]), (q_2, aB d cap (fun _ => 0))] := hD
  have hP9 := hP.sub (ws' := [(h, ob 2 [.ref q_2, .int 0, .int 0]), (q_2, aB d cap (fun _ => 0))]) [0, 1] rfl
  have hD9 := hD.sub (ws' := [(h, ob 2 [.ref q_2, .int 0, .int 0]), (q_2, aB d cap (fun _ => 0))]) [0, 1] (by decide) rfl
  exact k_vret C hS q_2 (rfl) (trivial) hP9 hD9 d_BQ_init_15
