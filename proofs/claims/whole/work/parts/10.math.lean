theorem fm_rem {x : Int32} {k : Nat} (hk2 : k < 2 ^ 30) : (x - x / nI k * nI k).toInt = x.toInt.tmod k := by
  rw [rem_toInt, nI_toInt (by omega)]
theorem fm_sgn {z : Int32} {k : Nat} (hk2 : k < 2 ^ 30) : 0 ≤ z ^^^ nI k ↔ 0 ≤ z := by
  have e : ∀ w : Int32, 0 ≤ w ↔ w.toBitVec.msb = false := by
    intro w
    rw [Int32.le_iff_toInt_le, Int32.toInt_zero, ← Int32.toInt_toBitVec, BitVec.msb_eq_toInt, decide_eq_false_iff_not, Int.not_lt]
  have h2 : (nI k).toBitVec.msb = false := (e _).mp (nI_pos' (by omega))
  rw [e, e, Int32.toBitVec_xor, BitVec.msb_xor, h2, Bool.xor_false]
theorem fm_pos {x : Int32} {k r : Nat} (hk : 0 < k) (hk2 : k < 2 ^ 30) (hx : x.toInt % (k : Int) = (r : Int)) {z : Int32} (ez : z = x - x / nI k * nI k) (h : 0 ≤ z) : z = nI r := by
  apply Int32.toInt_inj.mp
  have h1 := fm_rem (x := x) hk2
  rw [← ez] at h1
  rw [Int32.le_iff_toInt_le, Int32.toInt_zero] at h
  have hk' : (0 : Int) < (k : Int) := by omega
  have hr : r < k := by have := Int.emod_lt_of_pos x.toInt hk'; omega
  rw [nI_toInt (by omega), ← hx, h1]
  rw [h1] at h
  have h3 := Int.tmod_add_mul_tdiv x.toInt k
  have h4 := Int.tmod_lt_of_pos x.toInt hk'
  rw [← Int.emod_eq_of_lt h h4]
  conv => rhs; rw [← h3]
  rw [Int.add_mul_emod_self_left]
theorem fm_nn {x z : Int32} {k : Nat} (hk2 : k < 2 ^ 30) (ez : z = x - x / nI k * nI k) (h : 0 ≤ x) : 0 ≤ z := by
  have h1 := fm_rem (x := x) hk2
  rw [← ez] at h1
  rw [Int32.le_iff_toInt_le, Int32.toInt_zero] at h ⊢
  rw [h1]
  exact Int.tmod_nonneg _ h
theorem fm_np {x z : Int32} {k : Nat} (hk2 : k < 2 ^ 30) (ez : z = x - x / nI k * nI k) (h : ¬ 0 ≤ x) (hz : ¬ z = 0) : ¬ 0 ≤ z := by
  intro q
  have h1 := fm_rem (x := x) hk2
  rw [← ez] at h1
  apply hz
  apply Int32.toInt_inj.mp
  rw [Int32.le_iff_toInt_le, Int32.toInt_zero] at h q
  rw [Int32.toInt_zero]
  have h2 := Int.tmod_nonneg (a := -x.toInt) (k : Int) (by omega)
  rw [Int.neg_tmod] at h2
  omega
theorem fm_neg {x : Int32} {k r : Nat} (hk : 0 < k) (hk2 : k < 2 ^ 30) (hx : x.toInt % (k : Int) = (r : Int)) {z : Int32} (ez : z = x - x / nI k * nI k) (h : ¬ 0 ≤ z) : z + nI k = nI r := by
  have h1 := fm_rem (x := x) hk2
  rw [← ez] at h1
  rw [Int32.le_iff_toInt_le, Int32.toInt_zero] at h
  have hk' : (0 : Int) < (k : Int) := by omega
  have hr : r < k := by have := Int.emod_lt_of_pos x.toInt hk'; omega
  have h3 := Int.tmod_add_mul_tdiv x.toInt k
  have h4 := Int.lt_tmod_of_pos x.toInt hk'
  have h5 : x.toInt.tmod k + k = (r : Int) := by
    rw [← hx, ← Int.emod_eq_of_lt (a := x.toInt.tmod k + k) (b := k) (by omega) (by omega)]
    conv => rhs; rw [← h3]
    rw [Int.add_mul_emod_self_left, Int.add_emod_right]
  have h6 : (z + nI k).toInt = (r : Int) := by
    rw [Int32.toInt_add, nI_toInt (by omega), h1, h5, Int.bmod_eq_of_le (by omega) (by omega)]
  apply Int32.toInt_inj.mp
  rw [h6, nI_toInt (by omega)]
theorem mw_JM_max : Msw y_JM_max b_JM_max 2 (some .int) 2 := ⟨m_58, m_5, m_57, by decide +kernel⟩
set_option maxHeartbeats 4000000 in
set_option maxRecDepth 100000 in
theorem c_JM_max (l : Launch) (d : DD) (a : Nat) (b : Nat) (ha : a < 2 ^ 31) (hb : b < 2 ^ 31) : Ct l y_JM_max b_JM_max 2 (some .int) 0 0 0 0 d [] [.int (nI a), .int (nI b)] (fun (_ : Unit) => some (.int (nI (max a b)))) (fun (_ : Unit) => True) (fun (_ : Unit) => []) := by
  refine Ct.of (by decide +kernel) (Nat.le_of_ble_eq_true rfl) ?_
  intro p e s m below meth c A ls C hP hD hS hl
  have hl : lv_has ls 2 [(0, .int (nI a)), (1, .int (nI b))] := hl
  have hsz9 := hS.1
  refine lv_iload_n C.x C.b d_JM_max_0 rfl (lv_at hl 0 rfl) ?_
  refine lv_iload_n C.x C.b d_JM_max_1 rfl (lv_at hl 1 rfl) ?_
  refine lv_icmp_lt (tgt := 9) C.x C.b d_JM_max_2 (by decide) (fun hc_1 => ?_) (fun hc_1 => ?_)
  · rw [nI_ltI (by omega) (by omega)] at hc_1
    refine lv_iload_n C.x C.b d_JM_max_9 rfl (lv_at hl 1 rfl) ?_
    have hP9 := hP.sub (ws' := []) [] rfl
    have hD9 := hD.sub (ws' := []) [] (by decide) rfl
    exact k_iret C hS () (by show some (Value.int (nI (max a b))) = _; rw [Nat.max_eq_right (by omega)]) (trivial) hP9 hD9 d_JM_max_10
  · rw [nI_ltI (by omega) (by omega)] at hc_1
    refine lv_iload_n C.x C.b d_JM_max_5 rfl (lv_at hl 0 rfl) ?_
    refine lv_goto (tgt := 10) C.x C.b d_JM_max_6 (by decide) ?_
    have hP9 := hP.sub (ws' := []) [] rfl
    have hD9 := hD.sub (ws' := []) [] (by decide) rfl
    exact k_iret C hS () (by show some (Value.int (nI (max a b))) = _; rw [Nat.max_eq_left (by omega)]) (trivial) hP9 hD9 d_JM_max_10
theorem mw_JM_min : Msw y_JM_min b_JM_min 2 (some .int) 2 := ⟨m_415, m_5, m_414, by decide +kernel⟩
set_option maxHeartbeats 4000000 in
set_option maxRecDepth 100000 in
theorem c_JM_min (l : Launch) (d : DD) (a : Nat) (b : Nat) (ha : a < 2 ^ 31) (hb : b < 2 ^ 31) : Ct l y_JM_min b_JM_min 2 (some .int) 0 0 0 0 d [] [.int (nI a), .int (nI b)] (fun (_ : Unit) => some (.int (nI (min a b)))) (fun (_ : Unit) => True) (fun (_ : Unit) => []) := by
  refine Ct.of (by decide +kernel) (Nat.le_of_ble_eq_true rfl) ?_
  intro p e s m below meth c A ls C hP hD hS hl
  have hl : lv_has ls 2 [(0, .int (nI a)), (1, .int (nI b))] := hl
  have hsz9 := hS.1
  refine lv_iload_n C.x C.b d_JM_min_0 rfl (lv_at hl 0 rfl) ?_
  refine lv_iload_n C.x C.b d_JM_min_1 rfl (lv_at hl 1 rfl) ?_
  refine lv_icmp_gt (tgt := 9) C.x C.b d_JM_min_2 (by decide) (fun hc_1 => ?_) (fun hc_1 => ?_)
  · rw [nI_ltI (by omega) (by omega)] at hc_1
    refine lv_iload_n C.x C.b d_JM_min_9 rfl (lv_at hl 1 rfl) ?_
    have hP9 := hP.sub (ws' := []) [] rfl
    have hD9 := hD.sub (ws' := []) [] (by decide) rfl
    exact k_iret C hS () (by show some (Value.int (nI (min a b))) = _; rw [Nat.min_eq_right (by omega)]) (trivial) hP9 hD9 d_JM_min_10
  · rw [nI_ltI (by omega) (by omega)] at hc_1
    refine lv_iload_n C.x C.b d_JM_min_5 rfl (lv_at hl 0 rfl) ?_
    refine lv_goto (tgt := 10) C.x C.b d_JM_min_6 (by decide) ?_
    have hP9 := hP.sub (ws' := []) [] rfl
    have hD9 := hD.sub (ws' := []) [] (by decide) rfl
    exact k_iret C hS () (by show some (Value.int (nI (min a b))) = _; rw [Nat.min_eq_left (by omega)]) (trivial) hP9 hD9 d_JM_min_10
theorem mw_JM_floorMod : Msw y_JM_floorMod b_JM_floorMod 3 (some .int) 2 := ⟨m_368, m_5, m_367, by decide +kernel⟩
set_option maxHeartbeats 4000000 in
set_option maxRecDepth 100000 in
theorem c_JM_floorMod (l : Launch) (d : DD) (x : Int32) (k : Nat) (r : Nat) (hk : 0 < k) (hk2 : k < 2 ^ 30) (hx : x.toInt % (k : Int) = (r : Int)) : Ct l y_JM_floorMod b_JM_floorMod 3 (some .int) 0 0 0 0 d [] [.int x, .int (nI k)] (fun (_ : Unit) => some (.int (nI r))) (fun (_ : Unit) => True) (fun (_ : Unit) => []) := by
  refine Ct.of (by decide +kernel) (Nat.le_of_ble_eq_true rfl) ?_
  intro p e s m below meth c A ls C hP hD hS hl
  have hl : lv_has ls 3 [(0, .int x), (1, .int (nI k))] := hl
  have hsz9 := hS.1
  refine lv_iload_n C.x C.b d_JM_floorMod_0 rfl (lv_at hl 0 rfl) ?_
  refine lv_iload_n C.x C.b d_JM_floorMod_1 rfl (lv_at hl 1 rfl) ?_
  refine lv_irem C.x C.b d_JM_floorMod_2 (nI_ne0 (by omega) (by omega)) ?_
  refine lv_topi (fun z e_z => ?_)
  refine lv_istore_n (lv' := [(2, .int z), (0, .int x), (1, .int (nI k))]) C.x C.b d_JM_floorMod_3 rfl hl (by decide) rfl (fun ls hl => ?_)
  refine lv_iload_n C.x C.b d_JM_floorMod_4 rfl (lv_at hl 1 rfl) ?_
  refine lv_iload_n C.x C.b d_JM_floorMod_5 rfl (lv_at hl 2 rfl) ?_
  refine lv_ixor C.x C.b d_JM_floorMod_6 ?_
  refine lv_if_ge (tgt := 18) C.x C.b d_JM_floorMod_7 (by decide) (fun h7 => ?_) (fun h7 => ?_)
  · have e9 := fm_pos hk hk2 hx e_z (fm_nn hk2 e_z ((fm_sgn hk2).mp h7))
    refine lv_iload_n C.x C.b d_JM_floorMod_18 rfl (lv_at hl 0 rfl) ?_
    have hP9 := hP.sub (ws' := []) [] rfl
    have hD9 := hD.sub (ws' := []) [] (by decide) rfl
    exact k_iret C hS () (by show some (Value.int (nI r)) = _; rw [e9]) (trivial) hP9 hD9 d_JM_floorMod_19
  · refine lv_iload_n C.x C.b d_JM_floorMod_10 rfl (lv_at hl 0 rfl) ?_
    refine lv_if_eq (tgt := 18) C.x C.b d_JM_floorMod_11 (by decide) (fun h11 => ?_) (fun h11 => ?_)
    · have e9 := fm_pos hk hk2 hx e_z (by rw [h11]; exact Int32.le_refl 0)
      refine lv_iload_n C.x C.b d_JM_floorMod_18 rfl (lv_at hl 0 rfl) ?_
      have hP9 := hP.sub (ws' := []) [] rfl
      have hD9 := hD.sub (ws' := []) [] (by decide) rfl
      exact k_iret C hS () (by show some (Value.int (nI r)) = _; rw [e9]) (trivial) hP9 hD9 d_JM_floorMod_19
    · have e9 := fm_neg hk hk2 hx e_z (fm_np hk2 e_z (fun q => h7 ((fm_sgn hk2).mpr q)) h11)
      refine lv_iload_n C.x C.b d_JM_floorMod_14 rfl (lv_at hl 0 rfl) ?_
      refine lv_iload_n C.x C.b d_JM_floorMod_15 rfl (lv_at hl 2 rfl) ?_
      refine lv_iadd C.x C.b d_JM_floorMod_16 ?_
      have hP9 := hP.sub (ws' := []) [] rfl
      have hD9 := hD.sub (ws' := []) [] (by decide) rfl
      exact k_iret C hS () (by show some (Value.int (nI r)) = _; rw [e9]) (trivial) hP9 hD9 d_JM_floorMod_17
