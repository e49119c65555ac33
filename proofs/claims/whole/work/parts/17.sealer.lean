/-- the words from a on, i of them, as bytes -/
def wbs (f : Nat → Int32) (i : Nat) : List Int32 := (List.range i).flatMap (fun j => wb (f j))
theorem wbs_succ (f : Nat → Int32) (i : Nat) : wbs f (i + 1) = wbs f i ++ wb (f i) := by
  unfold wbs; rw [List.range_succ, List.flatMap_append]; simp
theorem wbs_len (f : Nat → Int32) (i : Nat) : (wbs f i).length = 4 * i := by
  induction i with
  | zero => rfl
  | succ i ih => rw [wbs_succ, List.length_append, ih, wb_len]; omega
theorem wbs_cg {f g : Nat → Int32} {i : Nat} (h : ∀ j, j < i → f j = g j) : wbs f i = wbs g i := by
  induction i with
  | zero => rfl
  | succ i ih => rw [wbs_succ, wbs_succ, ih (fun j hj => h j (by omega)), h i (by omega)]
def iMk : Int32 := (909522486)
def oMk : Int32 := (1549556828)
/-- the key for seals under a mask, brought to 64 bytes -/
def kmk (k : Nat → Int32) (mk : Int32) : List Int32 := wbs (fun i => k (8 + i) ^^^ mk) 8 ++ wbs (fun _ => mk) 8
/-- the seal of a number and bytes, as eight words -/
def sealw (k : Nat → Int32) (num : Int32) (L : List Int32) (j : Nat) : Int32 := dig (kmk k oMk ++ wbs (dig (kmk k iMk ++ wb num ++ L)) 8) j
theorem mw_SL_sealByte : Mw y_SL_sealByte b_SL_sealByte 2 (some .int) 1 := ⟨m_404, m_7, m_402, by decide +kernel⟩
set_option maxHeartbeats 4000000 in
set_option maxRecDepth 100000 in
theorem c_SL_sealByte (l : Launch) (d : DD) (h : Nat) (th : Nat) (dh : Nat) (das : Nat) (daw : Nat) (fs : Nat → Int32) (fw : Nat → Int32) (i : Nat) (hi : i < 32) : Ct l y_SL_sealByte b_SL_sealByte 2 (some .int) 1 21 0 0 d [(h, ob 6 [.ref th, .ref dh]), (dh, ob 4 [.ref das, .ref daw]), (das, aI d 8 fs), (daw, aI d 64 fw)] [.ref h, .int (nI i)] (fun (_ : Unit) => some (.int (byt (fs (i / 4)) (i % 4)))) (fun (_ : Unit) => True) (fun (_ : Unit) => [(h, ob 6 [.ref th, .ref dh]), (dh, ob 4 [.ref das, .ref daw]), (das, aI d 8 fs), (daw, aI d 64 fw)]) := by
  refine Ct.of (by decide +kernel) (Nat.le_of_ble_eq_true rfl) ?_
  intro p e s m below meth c A ls C hP hD hS hl
  have hl : lv_has ls 2 [(0, .ref h), (1, .int (nI i))] := hl
  have hsz9 := hS.1
  refine lv_aload_n C.x C.b d_SL_sealByte_0 rfl (lv_at hl 0 rfl) ?_
  refine k_get C hP 0 rfl rfl i_SL 1 (by decide) m_108 rfl d_SL_sealByte_1 ?_
  refine lv_iload_n C.x C.b d_SL_sealByte_4 rfl (lv_at hl 1 rfl) ?_
  refine lv_iconst (v := nI 4) C.x C.b d_SL_sealByte_5 (by decide) ?_
  refine lv_idiv C.x C.b d_SL_sealByte_6 (by decide) ?_
  refine k_top (y := nI (i / 4)) (pk_div (by omega) (by omega) (by omega)) ?_
  refine k_callV (As := [.int (nI (i / 4))]) (rest := []) (wc := [(dh, ob 4 [.ref das, .ref daw]), (das, aI d 8 fs)]) (wr := [(h, ob 6 [.ref th, .ref dh]), (daw, aI d 64 fw)]) C (c_DG_stateWord l d dh das daw fs (i / 4) (by omega)) mw_DG_stateWord m_399 m_397 hP hD hS [1, 2] [0, 3] rfl rfl (by decide) (by decide) (by decide) 1 rfl rfl rfl rfl hl.1 (Nat.le_of_ble_eq_true rfl) d_SL_sealByte_7 ⟨Nat.le_of_ble_eq_true rfl, Nat.le_of_ble_eq_true rfl⟩ ⟨by decide, by decide⟩ (fun _ H locs hw_1 hP hD hS => ?_)
  have hP : va_P d.1 clz [(h, ob 6 [.ref th, .ref dh]), (daw, aI d 64 fw), (dh, ob 4 [.ref das, .ref daw]), (das, aI d 8 fs)] H := hP
  have hD : va_D A [(h, ob 6 [.ref th, .ref dh]), (daw, aI d 64 fw), (dh, ob 4 [.ref das, .ref daw]), (das, aI d 8 fs)] := hD
  refine W.eq (g2 := F0 m 10 ls [.int (fs (i / 4))]) rfl ?_
  refine lv_bipush (v := nI 24) C.x C.b d_SL_sealByte_10 (by decide) ?_
  refine lv_bipush (v := nI 8) C.x C.b d_SL_sealByte_12 (by decide) ?_
  refine lv_iload_n C.x C.b d_SL_sealByte_14 rfl (lv_at hl 1 rfl) ?_
  refine lv_iconst (v := nI 4) C.x C.b d_SL_sealByte_15 (by decide) ?_
  refine lv_irem C.x C.b d_SL_sealByte_16 (by decide) ?_
  refine k_top (y := nI (i % 4)) (pk_rem (by omega) (by omega) (by omega)) ?_
  refine lv_imul C.x C.b d_SL_sealByte_17 ?_
  refine k_top (y := nI (8 * (i % 4))) (pk_mul _ _) ?_
  refine lv_isub C.x C.b d_SL_sealByte_18 ?_
  refine k_top (y := nI (24 - (8 * (i % 4)))) (pk_sub (by omega)) ?_
  refine lv_iushr (v := ((fs (i / 4)).toUInt32 >>> ((nI (24 - (8 * (i % 4)))).toUInt32 &&& Int32.toUInt32 31)).toInt32) C.x C.b d_SL_sealByte_19 rfl ?_
  refine lv_sipush (v := nI 255) C.x C.b d_SL_sealByte_20 (by decide) ?_
  refine lv_iand C.x C.b d_SL_sealByte_23 ?_
  have hP9 := hP.sub (ws' := [(h, ob 6 [.ref th, .ref dh]), (dh, ob 4 [.ref das, .ref daw]), (das, aI d 8 fs), (daw, aI d 64 fw)]) [0, 2, 3, 1] rfl
  have hD9 := hD.sub (ws' := [(h, ob 6 [.ref th, .ref dh]), (dh, ob 4 [.ref das, .ref daw]), (das, aI d 8 fs), (daw, aI d 64 fw)]) [0, 2, 3, 1] (by decide) rfl
  exact k_iret C hS () (rfl) (trivial) hP9 hD9 d_SL_sealByte_24
theorem mw_SL_startText : Mw y_SL_startText b_SL_startText 4 none 2 := ⟨m_351, m_7, m_350, by decide +kernel⟩
set_option maxHeartbeats 4000000 in
set_option maxRecDepth 100000 in
theorem c_SL_startText (l : Launch) (d : DD) (h : Nat) (th : Nat) (dh : Nat) (ta : Nat) (ts : Nat) (tn : Nat) (tf : Nat → Int32) (T : List Int32) (kh : Nat) (ka : Nat) (k : Nat → Int32) (mk : Int32) (hT : BQ 640 tf ts tn T) : Ct l y_SL_startText b_SL_startText 4 none 3 65 0 0 d [(h, ob 6 [.ref th, .ref dh]), (th, ob 2 [.ref ta, .int (nI ts), .int (nI tn)]), (ta, aB d 640 tf), (kh, ob 5 [.ref ka]), (ka, aI d 16 k)] [.ref h, .ref kh, .int mk] (fun (g2 : Nat → Int32) => none) (fun (g2 : Nat → Int32) => BQ 640 g2 0 64 (kmk k mk)) (fun (g2 : Nat → Int32) => [(h, ob 6 [.ref th, .ref dh]), (th, ob 2 [.ref ta, .int (nI 0), .int (nI 64)]), (ta, aB d 640 g2), (kh, ob 5 [.ref ka]), (ka, aI d 16 k)]) := by
  refine Ct.of (by decide +kernel) (Nat.le_of_ble_eq_true rfl) ?_
  intro p e s m below meth c A ls C hP hD hS hl
  have hl : lv_has ls 4 [(0, .ref h), (1, .ref kh), (2, .int mk)] := hl
  have hsz9 := hS.1
  obtain ⟨hq1, hq2, hq3, hq4, hq5, hq6⟩ := id hT
  refine lv_aload_n C.x C.b d_SL_startText_0 rfl (lv_at hl 0 rfl) ?_
  refine k_get C hP 0 rfl rfl i_SL 0 (by decide) m_107 rfl d_SL_startText_1 ?_
  refine k_callV (As := []) (rest := []) (wc := [(th, ob 2 [.ref ta, .int (nI ts), .int (nI tn)]), (ta, aB d 640 tf)]) (wr := [(h, ob 6 [.ref th, .ref dh]), (kh, ob 5 [.ref ka]), (ka, aI d 16 k)]) C (c_BQ_clear l d th ta 640 ts tn tf) mw_BQ_clear m_311 m_352 hP hD hS [1, 2] [0, 3, 4] rfl rfl (by decide) (by decide) (by decide) 1 rfl rfl rfl rfl hl.1 (Nat.le_of_ble_eq_true rfl) d_SL_startText_4 ⟨Nat.le_of_ble_eq_true rfl, Nat.le_of_ble_eq_true rfl⟩ ⟨by decide, by decide⟩ (fun _ H locs hw_1 hP hD hS => ?_)
  have hP : va_P d.1 clz [(h, ob 6 [.ref th, .ref dh]), (kh, ob 5 [.ref ka]), (ka, aI d 16 k), (th, ob 2 [.ref ta, .int (nI 0), .int (nI 0)]), (ta, aB d 640 tf)] H := hP
  have hD : va_D A [(h, ob 6 [.ref th, .ref dh]), (kh, ob 5 [.ref ka]), (ka, aI d 16 k), (th, ob 2 [.ref ta, .int (nI 0), .int (nI 0)]), (ta, aB d 640 tf)] := hD
  refine W.eq (g2 := F0 m 7 ls []) rfl ?_
  refine lv_iconst (v := nI 0) C.x C.b d_SL_startText_7 (by decide) ?_
  refine lv_istore_n (lv' := [(3, .int (nI 0)), (0, .ref h), (1, .ref kh), (2, .int mk)]) C.x C.b d_SL_startText_8 rfl hl (by decide) rfl (fun ls hl => ?_)
  have L9 : ∀ (fuel : Nat) (i : Nat) (g9 : Nat → Int32), 8 - i < fuel → (i ≤ 8) → (BQ 640 g9 0 (4 * i) (wbs (fun i => k (8 + i) ^^^ mk) i)) → ∀ (H : Heap) (locs : List Loc) (ls : Array Slot), va_P d.1 clz [(h, ob 6 [.ref th, .ref dh]), (th, ob 2 [.ref ta, .int (nI 0), .int (nI (4 * i))]), (ta, aB d 640 g9), (kh, ob 5 [.ref ka]), (ka, aI d 16 k)] H → va_D A [(h, ob 6 [.ref th, .ref dh]), (th, ob 2 [.ref ta, .int (nI 0), .int (nI (4 * i))]), (ta, aB d 640 g9), (kh, ob 5 [.ref ka]), (ka, aI d 16 k)] → va_S A s.heap H locs → lv_has ls 4 [(0, .ref h), (1, .ref kh), (2, .int mk), (3, .int (nI i))] → W p l e (Rm 3 65 0 0) s m ([.ref h, .ref kh, .int mk] : List Value).toArray below meth c H locs 0 0 (MQ below (Cout d A (fun (g2 : Nat → Int32) => none) (fun (g2 : Nat → Int32) => BQ 640 g2 0 64 (kmk k mk)) (fun (g2 : Nat → Int32) => [(h, ob 6 [.ref th, .ref dh]), (th, ob 2 [.ref ta, .int (nI 0), .int (nI 64)]), (ta, aB d 640 g2), (kh, ob 5 [.ref ka]), (ka, aI d 16 k)])) ([.ref h, .ref kh, .int mk] : List Value).toArray s 0 0 A) (F0 m 9 ls []) := by
    intro fuel
    induction fuel with
    | zero => intro i g9 h9; exact absurd h9 (Nat.not_lt_zero _)
    | succ fuel ih9 =>
      intro i g9 hfu9 hi hg9 H locs ls hP hD hS hl
      refine lv_iload_n C.x C.b d_SL_startText_9 rfl (lv_at hl 3 rfl) ?_
      refine lv_bipush (v := nI 8) C.x C.b d_SL_startText_10 (by decide) ?_
      refine lv_icmp_ge (tgt := 38) C.x C.b d_SL_startText_12 (by decide) (fun hc12 => ?_) (fun hc12 => ?_)
      · rw [nI_leI (by omega) (by omega)] at hc12
        refine lv_bipush (v := nI 8) C.x C.b d_SL_startText_38 (by decide) ?_
        refine lv_istore_n (lv' := [(3, .int (nI 8)), (0, .ref h), (1, .ref kh), (2, .int mk)]) C.x C.b d_SL_startText_40 rfl hl (by decide) rfl (fun ls hl => ?_)
        have L41 : ∀ (fuel : Nat) (i : Nat) (g9 : Nat → Int32), 8 - i < fuel → (i ≤ 8) → (BQ 640 g9 0 (4 * (8 + i)) (wbs (fun i => k (8 + i) ^^^ mk) 8 ++ wbs (fun _ => mk) i)) → ∀ (H : Heap) (locs : List Loc) (ls : Array Slot), va_P d.1 clz [(h, ob 6 [.ref th, .ref dh]), (th, ob 2 [.ref ta, .int (nI 0), .int (nI (4 * (8 + i)))]), (ta, aB d 640 g9), (kh, ob 5 [.ref ka]), (ka, aI d 16 k)] H → va_D A [(h, ob 6 [.ref th, .ref dh]), (th, ob 2 [.ref ta, .int (nI 0), .int (nI (4 * (8 + i)))]), (ta, aB d 640 g9), (kh, ob 5 [.ref ka]), (ka, aI d 16 k)] → va_S A s.heap H locs → lv_has ls 4 [(0, .ref h), (1, .ref kh), (2, .int mk), (3, .int (nI (8 + i)))] → W p l e (Rm 3 65 0 0) s m ([.ref h, .ref kh, .int mk] : List Value).toArray below meth c H locs 0 0 (MQ below (Cout d A (fun (g2 : Nat → Int32) => none) (fun (g2 : Nat → Int32) => BQ 640 g2 0 64 (kmk k mk)) (fun (g2 : Nat → Int32) => [(h, ob 6 [.ref th, .ref dh]), (th, ob 2 [.ref ta, .int (nI 0), .int (nI 64)]), (ta, aB d 640 g2), (kh, ob 5 [.ref ka]), (ka, aI d 16 k)])) ([.ref h, .ref kh, .int mk] : List Value).toArray s 0 0 A) (F0 m 41 ls []) := by
          intro fuel
          induction fuel with
          | zero => intro i g9 h9; exact absurd h9 (Nat.not_lt_zero _)
          | succ fuel ih41 =>
            intro i g9 hfu41 hi hg9 H locs ls hP hD hS hl
            refine lv_iload_n C.x C.b d_SL_startText_41 rfl (lv_at hl 3 rfl) ?_
            refine lv_bipush (v := nI 16) C.x C.b d_SL_startText_42 (by decide) ?_
            refine lv_icmp_ge (tgt := 61) C.x C.b d_SL_startText_44 (by decide) (fun hc44 => ?_) (fun hc44 => ?_)
            · rw [nI_leI (by omega) (by omega)] at hc44
              have hP9 := hP.sub (ws' := [(h, ob 6 [.ref th, .ref dh]), (th, ob 2 [.ref ta, .int (nI 0), .int (nI (4 * (8 + i)))]), (ta, aB d 640 g9), (kh, ob 5 [.ref ka]), (ka, aI d 16 k)]) [0, 1, 2, 3, 4] rfl
              have hD9 := hD.sub (ws' := [(h, ob 6 [.ref th, .ref dh]), (th, ob 2 [.ref ta, .int (nI 0), .int (nI (4 * (8 + i)))]), (ta, aB d 640 g9), (kh, ob 5 [.ref ka]), (ka, aI d 16 k)]) [0, 1, 2, 3, 4] (by decide) rfl
              rw [show 4 * (8 + i) = 64 from by omega] at hP9 hD9
              exact k_vret C hS g9 (rfl) (by rw [show i = 8 from by omega] at hg9; exact hg9) hP9 hD9 d_SL_startText_61
            · rw [nI_leI (by omega) (by omega)] at hc44
              refine lv_aload_n C.x C.b d_SL_startText_47 rfl (lv_at hl 0 rfl) ?_
              refine k_get C hP 0 rfl rfl i_SL 0 (by decide) m_107 rfl d_SL_startText_48 ?_
              refine lv_iload_n C.x C.b d_SL_startText_51 rfl (lv_at hl 2 rfl) ?_
              refine k_callV (As := [.int mk]) (rest := []) (wc := [(th, ob 2 [.ref ta, .int (nI 0), .int (nI (4 * (8 + i)))]), (ta, aB d 640 g9)]) (wr := [(h, ob 6 [.ref th, .ref dh]), (kh, ob 5 [.ref ka]), (ka, aI d 16 k)]) C (c_BQ_addWord l d th ta 640 0 (4 * (8 + i)) g9 (wbs (fun i => k (8 + i) ^^^ mk) 8 ++ wbs (fun _ => mk) i) mk (hg9) (by omega)) mw_BQ_addWord m_356 m_354 hP hD hS [1, 2] [0, 3, 4] rfl rfl (by decide) (by decide) (by decide) 1 rfl rfl rfl rfl hl.1 (Nat.le_of_ble_eq_true rfl) d_SL_startText_52 ⟨Nat.le_of_ble_eq_true rfl, Nat.le_of_ble_eq_true rfl⟩ ⟨by decide, by decide⟩ (fun g10 H locs hg10 hP hD hS => ?_)
              have hP : va_P d.1 clz [(h, ob 6 [.ref th, .ref dh]), (kh, ob 5 [.ref ka]), (ka, aI d 16 k), (th, ob 2 [.ref ta, .int (nI 0), .int (nI (4 * (8 + i) + 4))]), (ta, aB d 640 g10)] H := hP
              have hD : va_D A [(h, ob 6 [.ref th, .ref dh]), (kh, ob 5 [.ref ka]), (ka, aI d 16 k), (th, ob 2 [.ref ta, .int (nI 0), .int (nI (4 * (8 + i) + 4))]), (ta, aB d 640 g10)] := hD
              refine W.eq (g2 := F0 m 55 ls []) rfl ?_
              have hg10 : BQ 640 g10 0 (4 * (8 + i) + 4) (wbs (fun i => k (8 + i) ^^^ mk) 8 ++ wbs (fun _ => mk) i ++ wb mk) := hg10
              have hg10 : BQ 640 g10 0 (4 * (8 + (i + 1))) (wbs (fun i => k (8 + i) ^^^ mk) 8 ++ wbs (fun _ => mk) (i + 1)) := by rw [wbs_succ (fun _ => mk) i, ← List.append_assoc]; exact hg10
              refine lv_iinc (v := nI (8 + i + 1)) (lv' := [(3, .int (nI (8 + i + 1))), (0, .ref h), (1, .ref kh), (2, .int mk)]) C.x C.b d_SL_startText_55 hl (k := 3) rfl (k_inc _ 1) (by decide) rfl (fun ls hl => ?_)
              refine lv_goto (tgt := 41) C.x C.b d_SL_startText_58 (by decide) ?_
              exact ih41 (i + 1) g10 (by omega) (by omega) (hg10) _ _ _ (hP.sub [0, 3, 4, 1, 2] (rfl)) (hD.sub [0, 3, 4, 1, 2] (by decide) (rfl)) hS (lv_sub hl [1, 2, 3, 0] (rfl))
        exact L41 ((8 - 0) + 1) 0 g9 (Nat.lt_succ_self _) (by omega) (by rw [show i = 8 from by omega] at hg9; rw [show wbs (fun _ => mk) 0 = [] from rfl, List.append_nil]; exact hg9) _ _ _ (hP.sub [0, 1, 2, 3, 4] (by rw [show i = 8 from by omega]; rfl)) (hD.sub [0, 1, 2, 3, 4] (by decide) (by rw [show i = 8 from by omega]; rfl)) hS (lv_sub hl [1, 2, 3, 0] (rfl))
      · rw [nI_leI (by omega) (by omega)] at hc12
        refine lv_aload_n C.x C.b d_SL_startText_15 rfl (lv_at hl 0 rfl) ?_
        refine k_get C hP 0 rfl rfl i_SL 0 (by decide) m_107 rfl d_SL_startText_16 ?_
        refine lv_aload_n C.x C.b d_SL_startText_19 rfl (lv_at hl 1 rfl) ?_
        refine lv_bipush (v := nI 8) C.x C.b d_SL_startText_20 (by decide) ?_
        refine lv_iload_n C.x C.b d_SL_startText_22 rfl (lv_at hl 3 rfl) ?_
        refine lv_iadd C.x C.b d_SL_startText_23 ?_
        refine k_top (y := nI (8 + i)) (nI_add _ _) ?_
        refine k_callV (As := [.int (nI (8 + i))]) (rest := [.ref th]) (wc := [(kh, ob 5 [.ref ka]), (ka, aI d 16 k)]) (wr := [(h, ob 6 [.ref th, .ref dh]), (th, ob 2 [.ref ta, .int (nI 0), .int (nI (4 * i))]), (ta, aB d 640 g9)]) C (c_KY_word l d kh ka k (8 + i) (by omega)) mw_KY_word m_187 m_353 hP hD hS [3, 4] [0, 1, 2] rfl rfl (by decide) (by decide) (by decide) 3 rfl rfl rfl rfl hl.1 (Nat.le_of_ble_eq_true rfl) d_SL_startText_24 ⟨Nat.le_of_ble_eq_true rfl, Nat.le_of_ble_eq_true rfl⟩ ⟨by decide, by decide⟩ (fun _ H locs hw_6 hP hD hS => ?_)
        have hP : va_P d.1 clz [(h, ob 6 [.ref th, .ref dh]), (th, ob 2 [.ref ta, .int (nI 0), .int (nI (4 * i))]), (ta, aB d 640 g9), (kh, ob 5 [.ref ka]), (ka, aI d 16 k)] H := hP
        have hD : va_D A [(h, ob 6 [.ref th, .ref dh]), (th, ob 2 [.ref ta, .int (nI 0), .int (nI (4 * i))]), (ta, aB d 640 g9), (kh, ob 5 [.ref ka]), (ka, aI d 16 k)] := hD
        refine W.eq (g2 := F0 m 27 ls [.int (k (8 + i)), .ref th]) rfl ?_
        refine lv_iload_n C.x C.b d_SL_startText_27 rfl (lv_at hl 2 rfl) ?_
        refine lv_ixor C.x C.b d_SL_startText_28 ?_
        refine k_callV (As := [.int ((k (8 + i)) ^^^ mk)]) (rest := []) (wc := [(th, ob 2 [.ref ta, .int (nI 0), .int (nI (4 * i))]), (ta, aB d 640 g9)]) (wr := [(h, ob 6 [.ref th, .ref dh]), (kh, ob 5 [.ref ka]), (ka, aI d 16 k)]) C (c_BQ_addWord l d th ta 640 0 (4 * i) g9 (wbs (fun i => k (8 + i) ^^^ mk) i) (k (8 + i) ^^^ mk) (hg9) (by omega)) mw_BQ_addWord m_356 m_354 hP hD hS [1, 2] [0, 3, 4] rfl rfl (by decide) (by decide) (by decide) 1 rfl rfl rfl rfl hl.1 (Nat.le_of_ble_eq_true rfl) d_SL_startText_29 ⟨Nat.le_of_ble_eq_true rfl, Nat.le_of_ble_eq_true rfl⟩ ⟨by decide, by decide⟩ (fun g10 H locs hg10 hP hD hS => ?_)
        have hP : va_P d.1 clz [(h, ob 6 [.ref th, .ref dh]), (kh, ob 5 [.ref ka]), (ka, aI d 16 k), (th, ob 2 [.ref ta, .int (nI 0), .int (nI (4 * i + 4))]), (ta, aB d 640 g10)] H := hP
        have hD : va_D A [(h, ob 6 [.ref th, .ref dh]), (kh, ob 5 [.ref ka]), (ka, aI d 16 k), (th, ob 2 [.ref ta, .int (nI 0), .int (nI (4 * i + 4))]), (ta, aB d 640 g10)] := hD
        refine W.eq (g2 := F0 m 32 ls []) rfl ?_
        have hg10 : BQ 640 g10 0 (4 * i + 4) (wbs (fun i => k (8 + i) ^^^ mk) i ++ wb (k (8 + i) ^^^ mk)) := hg10
        have hg10 : BQ 640 g10 0 (4 * (i + 1)) (wbs (fun i => k (8 + i) ^^^ mk) (i + 1)) := by rw [wbs_succ]; exact hg10
        refine lv_iinc (v := nI (i + 1)) (lv' := [(3, .int (nI (i + 1))), (0, .ref h), (1, .ref kh), (2, .int mk)]) C.x C.b d_SL_startText_32 hl (k := 3) rfl (k_inc _ 1) (by decide) rfl (fun ls hl => ?_)
        refine lv_goto (tgt := 9) C.x C.b d_SL_startText_35 (by decide) ?_
        exact ih9 (i + 1) g10 (by omega) (by omega) (hg10) _ _ _ (hP.sub [0, 3, 4, 1, 2] (rfl)) (hD.sub [0, 3, 4, 1, 2] (by decide) (rfl)) hS (lv_sub hl [1, 2, 3, 0] (rfl))
  exact L9 ((8 - 0) + 1) 0 tf (Nat.lt_succ_self _) (by omega) (bq_nil (by decide) (by decide)) _ _ _ (hP.sub [0, 3, 4, 1, 2] (rfl)) (hD.sub [0, 3, 4, 1, 2] (by decide) (rfl)) hS (lv_sub hl [1, 2, 3, 0] (rfl))
theorem mw_SL_seal : Mw y_SL_seal b_SL_seal 5 none 3 := ⟨m_346, m_7, m_344, by decide +kernel⟩
set_option maxHeartbeats 4000000 in
set_option maxRecDepth 100000 in
theorem c_SL_seal (l : Launch) (d : DD) (h : Nat) (th : Nat) (dh : Nat) (ta : Nat) (ts : Nat) (tn : Nat) (tf : Nat → Int32) (T : List Int32) (das : Nat) (daw : Nat) (fs : Nat → Int32) (fw : Nat → Int32) (kh : Nat) (ka : Nat) (k : Nat → Int32) (num : Int32) (qh : Nat) (qa : Nat) (cap : Nat) (st : Nat) (n : Nat) (fq : Nat → Int32) (L : List Int32) (hT : BQ 640 tf ts tn T) (hB : BQ cap fq st n L) (hn : n ≤ 500 + 44) : Ct l y_SL_seal b_SL_seal 5 none 4 97 0 0 d [(h, ob 6 [.ref th, .ref dh]), (th, ob 2 [.ref ta, .int (nI ts), .int (nI tn)]), (ta, aB d 640 tf), (dh, ob 4 [.ref das, .ref daw]), (das, aI d 8 fs), (daw, aI d 64 fw), (kh, ob 5 [.ref ka]), (ka, aI d 16 k), (qh, ob 2 [.ref qa, .int (nI st), .int (nI n)]), (qa, aB d cap fq)] [.ref h, .ref kh, .int num, .ref qh] (fun (u : (Nat → Int32) × (Nat) × (List Int32) × (Nat → Int32) × (Nat → Int32)) => match u with | (g2, n2, T2, s2, w2) => none) (fun (u : (Nat → Int32) × (Nat) × (List Int32) × (Nat → Int32) × (Nat → Int32)) => match u with | (g2, n2, T2, s2, w2) => BQ 640 g2 0 n2 T2 ∧ ∀ j, j < 8 → s2 j = sealw k num L j) (fun (u : (Nat → Int32) × (Nat) × (List Int32) × (Nat → Int32) × (Nat → Int32)) => match u with | (g2, n2, T2, s2, w2) => [(h, ob 6 [.ref th, .ref dh]), (th, ob 2 [.ref ta, .int (nI 0), .int (nI n2)]), (ta, aB d 640 g2), (dh, ob 4 [.ref das, .ref daw]), (das, aI d 8 s2), (daw, aI d 64 w2), (kh, ob 5 [.ref ka]), (ka, aI d 16 k), (qh, ob 2 [.ref qa, .int (nI st), .int (nI n)]), (qa, aB d cap fq)]) := by
  refine Ct.of (by decide +kernel) (Nat.le_of_ble_eq_true rfl) ?_
  intro p e s m below meth c A ls C hP hD hS hl
  have hl : lv_has ls 5 [(0, .ref h), (1, .ref kh), (2, .int num), (3, .ref qh)] := hl
  have hsz9 := hS.1
  obtain ⟨hq1, hq2, hq3, hq4, hq5, hq6⟩ := id hT
  obtain ⟨hr1, hr2, hr3, hr4, hr5, hr6⟩ := id hB
  have hz1 := zer_le (64 + 4 + n)
  have hz2 := zer_le 96
  obtain ⟨rw1, hrw1⟩ := zer_div 96
  refine lv_aload_n C.x C.b d_SL_seal_0 rfl (lv_at hl 0 rfl) ?_
  refine lv_aload_n C.x C.b d_SL_seal_1 rfl (lv_at hl 1 rfl) ?_
  refine lv_ldc (v := (909522486)) C.x C.b C.o (C.t _ m_347) d_SL_seal_2 ?_
  refine k_top (y := iMk) (rfl) ?_
  refine k_callV (As := [.ref kh, .int iMk]) (rest := []) (wc := [(h, ob 6 [.ref th, .ref dh]), (th, ob 2 [.ref ta, .int (nI ts), .int (nI tn)]), (ta, aB d 640 tf), (kh, ob 5 [.ref ka]), (ka, aI d 16 k)]) (wr := [(dh, ob 4 [.ref das, .ref daw]), (das, aI d 8 fs), (daw, aI d 64 fw), (qh, ob 2 [.ref qa, .int (nI st), .int (nI n)]), (qa, aB d cap fq)]) C (c_SL_startText l d h th dh ta ts tn tf T kh ka k iMk (hT)) mw_SL_startText ms_11 m_348 hP hD hS [0, 1, 2, 6, 7] [3, 4, 5, 8, 9] rfl rfl (by decide) (by decide) (by decide) 0 rfl rfl rfl rfl hl.1 (Nat.le_of_ble_eq_true rfl) d_SL_seal_4 ⟨Nat.le_of_ble_eq_true rfl, Nat.le_of_ble_eq_true rfl⟩ ⟨by decide, by decide⟩ (fun g1 H locs hg1 hP hD hS => ?_)
  have hP : va_P d.1 clz [(dh, ob 4 [.ref das, .ref daw]), (das, aI d 8 fs), (daw, aI d 64 fw), (qh, ob 2 [.ref qa, .int (nI st), .int (nI n)]), (qa, aB d cap fq), (h, ob 6 [.ref th, .ref dh]), (th, ob 2 [.ref ta, .int (nI 0), .int (nI 64)]), (ta, aB d 640 g1), (kh, ob 5 [.ref ka]), (ka, aI d 16 k)] H := hP
  have hD : va_D A [(dh, ob 4 [.ref das, .ref daw]), (das, aI d 8 fs), (daw, aI d 64 fw), (qh, ob 2 [.ref qa, .int (nI st), .int (nI n)]), (qa, aB d cap fq), (h, ob 6 [.ref th, .ref dh]), (th, ob 2 [.ref ta, .int (nI 0), .int (nI 64)]), (ta, aB d 640 g1), (kh, ob 5 [.ref ka]), (ka, aI d 16 k)] := hD
  refine W.eq (g2 := F0 m 7 ls []) rfl ?_
  have hg1 : BQ 640 g1 0 64 (kmk k iMk) := hg1
  refine lv_aload_n C.x C.b d_SL_seal_7 rfl (lv_at hl 0 rfl) ?_
  refine k_get C hP 5 rfl rfl i_SL 0 (by decide) m_107 rfl d_SL_seal_8 ?_
  refine lv_iload_n C.x C.b d_SL_seal_11 rfl (lv_at hl 2 rfl) ?_
  refine k_callV (As := [.int num]) (rest := []) (wc := [(th, ob 2 [.ref ta, .int (nI 0), .int (nI 64)]), (ta, aB d 640 g1)]) (wr := [(dh, ob 4 [.ref das, .ref daw]), (das, aI d 8 fs), (daw, aI d 64 fw), (qh, ob 2 [.ref qa, .int (nI st), .int (nI n)]), (qa, aB d cap fq), (h, ob 6 [.ref th, .ref dh]), (kh, ob 5 [.ref ka]), (ka, aI d 16 k)]) C (c_BQ_addWord l d th ta 640 0 64 g1 (kmk k iMk) num (hg1) (by omega)) mw_BQ_addWord m_356 m_354 hP hD hS [6, 7] [0, 1, 2, 3, 4, 5, 8, 9] rfl rfl (by decide) (by decide) (by decide) 6 rfl rfl rfl rfl hl.1 (Nat.le_of_ble_eq_true rfl) d_SL_seal_12 ⟨Nat.le_of_ble_eq_true rfl, Nat.le_of_ble_eq_true rfl⟩ ⟨by decide, by decide⟩ (fun g3 H locs hg3 hP hD hS => ?_)
  have hP : va_P d.1 clz [(dh, ob 4 [.ref das, .ref daw]), (das, aI d 8 fs), (daw, aI d 64 fw), (qh, ob 2 [.ref qa, .int (nI st), .int (nI n)]), (qa, aB d cap fq), (h, ob 6 [.ref th, .ref dh]), (kh, ob 5 [.ref ka]), (ka, aI d 16 k), (th, ob 2 [.ref ta, .int (nI 0), .int (nI (64 + 4))]), (ta, aB d 640 g3)] H := hP
  have hD : va_D A [(dh, ob 4 [.ref das, .ref daw]), (das, aI d 8 fs), (daw, aI d 64 fw), (qh, ob 2 [.ref qa, .int (nI st), .int (nI n)]), (qa, aB d cap fq), (h, ob 6 [.ref th, .ref dh]), (kh, ob 5 [.ref ka]), (ka, aI d 16 k), (th, ob 2 [.ref ta, .int (nI 0), .int (nI (64 + 4))]), (ta, aB d 640 g3)] := hD
  refine W.eq (g2 := F0 m 15 ls []) rfl ?_
  have hg3 : BQ 640 g3 0 (64 + 4) (kmk k iMk ++ wb num) := hg3
  refine lv_aload_n C.x C.b d_SL_seal_15 rfl (lv_at hl 0 rfl) ?_
  refine k_get C hP 5 rfl rfl i_SL 0 (by decide) m_107 rfl d_SL_seal_16 ?_
  refine lv_aload_n C.x C.b d_SL_seal_19 rfl (lv_at hl 3 rfl) ?_
  refine lv_iconst (v := nI 0) C.x C.b d_SL_seal_20 (by decide) ?_
  refine lv_aload_n C.x C.b d_SL_seal_21 rfl (lv_at hl 3 rfl) ?_
  refine k_callV (As := []) (rest := [.int (nI 0), .ref qh, .ref th]) (wc := [(qh, ob 2 [.ref qa, .int (nI st), .int (nI n)]), (qa, aB d cap fq)]) (wr := [(dh, ob 4 [.ref das, .ref daw]), (das, aI d 8 fs), (daw, aI d 64 fw), (h, ob 6 [.ref th, .ref dh]), (kh, ob 5 [.ref ka]), (ka, aI d 16 k), (th, ob 2 [.ref ta, .int (nI 0), .int (nI (64 + 4))]), (ta, aB d 640 g3)]) C (c_BQ_size l d qh qa cap st n fq) mw_BQ_size m_163 m_358 hP hD hS [3, 4] [0, 1, 2, 5, 6, 7, 8, 9] rfl rfl (by decide) (by decide) (by decide) 3 rfl rfl rfl rfl hl.1 (Nat.le_of_ble_eq_true rfl) d_SL_seal_22 ⟨Nat.le_of_ble_eq_true rfl, Nat.le_of_ble_eq_true rfl⟩ ⟨by decide, by decide⟩ (fun _ H locs hw_5 hP hD hS => ?_)
  have hP : va_P d.1 clz [(dh, ob 4 [.ref das, .ref daw]), (das, aI d 8 fs), (daw, aI d 64 fw), (h, ob 6 [.ref th, .ref dh]), (kh, ob 5 [.ref ka]), (ka, aI d 16 k), (th, ob 2 [.ref ta, .int (nI 0), .int (nI (64 + 4))]), (ta, aB d 640 g3), (qh, ob 2 [.ref qa, .int (nI st), .int (nI n)]), (qa, aB d cap fq)] H := hP
  have hD : va_D A [(dh, ob 4 [.ref das, .ref daw]), (das, aI d 8 fs), (daw, aI d 64 fw), (h, ob 6 [.ref th, .ref dh]), (kh, ob 5 [.ref ka]), (ka, aI d 16 k), (th, ob 2 [.ref ta, .int (nI 0), .int (nI (64 + 4))]), (ta, aB d 640 g3), (qh, ob 2 [.ref qa, .int (nI st), .int (nI n)]), (qa, aB d cap fq)] := hD
  refine W.eq (g2 := F0 m 25 ls [.int (nI n), .int (nI 0), .ref qh, .ref th]) rfl ?_
  refine k_callV (As := [.ref qh, .int (nI 0), .int (nI n)]) (rest := []) (wc := [(th, ob 2 [.ref ta, .int (nI 0), .int (nI (64 + 4))]), (ta, aB d 640 g3), (qh, ob 2 [.ref qa, .int (nI st), .int (nI n)]), (qa, aB d cap fq)]) (wr := [(dh, ob 4 [.ref das, .ref daw]), (das, aI d 8 fs), (daw, aI d 64 fw), (h, ob 6 [.ref th, .ref dh]), (kh, ob 5 [.ref ka]), (ka, aI d 16 k)]) C (c_BQ_addFrom l d th ta 640 0 (64 + 4) g3 (kmk k iMk ++ wb num) qh qa cap st n fq L 0 n (hg3) (hB) (by omega) (by omega) (by omega)) mw_BQ_addFrom m_315 m_359 hP hD hS [6, 7, 8, 9] [0, 1, 2, 3, 4, 5] rfl rfl (by decide) (by decide) (by decide) 6 rfl rfl rfl rfl hl.1 (Nat.le_of_ble_eq_true rfl) d_SL_seal_25 ⟨Nat.le_of_ble_eq_true rfl, Nat.le_of_ble_eq_true rfl⟩ ⟨by decide, by decide⟩ (fun g4 H locs hg4 hP hD hS => ?_)
  have hP : va_P d.1 clz [(dh, ob 4 [.ref das, .ref daw]), (das, aI d 8 fs), (daw, aI d 64 fw), (h, ob 6 [.ref th, .ref dh]), (kh, ob 5 [.ref ka]), (ka, aI d 16 k), (th, ob 2 [.ref ta, .int (nI 0), .int (nI (64 + 4 + (n - 0)))]), (ta, aB d 640 g4), (qh, ob 2 [.ref qa, .int (nI st), .int (nI n)]), (qa, aB d cap fq)] H := hP
  have hD : va_D A [(dh, ob 4 [.ref das, .ref daw]), (das, aI d 8 fs), (daw, aI d 64 fw), (h, ob 6 [.ref th, .ref dh]), (kh, ob 5 [.ref ka]), (ka, aI d 16 k), (th, ob 2 [.ref ta, .int (nI 0), .int (nI (64 + 4 + (n - 0)))]), (ta, aB d 640 g4), (qh, ob 2 [.ref qa, .int (nI st), .int (nI n)]), (qa, aB d cap fq)] := hD
  refine W.eq (g2 := F0 m 28 ls []) rfl ?_
  have hg4 : BQ 640 g4 0 (64 + 4 + (n - 0)) (kmk k iMk ++ wb num ++ (L.drop 0).take (n - 0)) := hg4
  have hg5 : BQ 640 g4 0 (64 + 4 + n) (kmk k iMk ++ wb num ++ L) := by rw [Nat.sub_zero, List.drop_zero, List.take_of_length_le (by omega)] at hg4; exact hg4
  rw [Nat.sub_zero] at hP hD
  refine lv_aload_n C.x C.b d_SL_seal_28 rfl (lv_at hl 0 rfl) ?_
  refine k_get C hP 3 rfl rfl i_SL 1 (by decide) m_108 rfl d_SL_seal_29 ?_
  refine lv_aload_n C.x C.b d_SL_seal_32 rfl (lv_at hl 0 rfl) ?_
  refine k_get C hP 3 rfl rfl i_SL 0 (by decide) m_107 rfl d_SL_seal_33 ?_
  refine k_callV (As := [.ref th]) (rest := []) (wc := [(dh, ob 4 [.ref das, .ref daw]), (das, aI d 8 fs), (daw, aI d 64 fw), (th, ob 2 [.ref ta, .int (nI 0), .int (nI (64 + 4 + n))]), (ta, aB d 640 g4)]) (wr := [(h, ob 6 [.ref th, .ref dh]), (kh, ob 5 [.ref ka]), (ka, aI d 16 k), (qh, ob 2 [.ref qa, .int (nI st), .int (nI n)]), (qa, aB d cap fq)]) C (c_DG_digest l d dh das daw fs fw th ta 640 0 (64 + 4 + n) g4 (kmk k iMk ++ wb num ++ L) (hg5) (zer_640 (by omega)) (by omega)) mw_DG_digest m_362 m_360 hP hD hS [0, 1, 2, 6, 7] [3, 4, 5, 8, 9] rfl rfl (by decide) (by decide) (by decide) 0 rfl rfl rfl rfl hl.1 (Nat.le_of_ble_eq_true rfl) d_SL_seal_36 ⟨Nat.le_of_ble_eq_true rfl, Nat.le_of_ble_eq_true rfl⟩ ⟨by decide, by decide⟩ (fun u9 H locs hs1 hP hD hS => ?_)
  obtain ⟨s1, w1, g6⟩ := u9
  have hP : va_P d.1 clz [(h, ob 6 [.ref th, .ref dh]), (kh, ob 5 [.ref ka]), (ka, aI d 16 k), (qh, ob 2 [.ref qa, .int (nI st), .int (nI n)]), (qa, aB d cap fq), (dh, ob 4 [.ref das, .ref daw]), (das, aI d 8 s1), (daw, aI d 64 w1), (th, ob 2 [.ref ta, .int (nI 0), .int (nI (64 + 4 + n + 9 + zer (64 + 4 + n)))]), (ta, aB d 640 g6)] H := hP
  have hD : va_D A [(h, ob 6 [.ref th, .ref dh]), (kh, ob 5 [.ref ka]), (ka, aI d 16 k), (qh, ob 2 [.ref qa, .int (nI st), .int (nI n)]), (qa, aB d cap fq), (dh, ob 4 [.ref das, .ref daw]), (das, aI d 8 s1), (daw, aI d 64 w1), (th, ob 2 [.ref ta, .int (nI 0), .int (nI (64 + 4 + n + 9 + zer (64 + 4 + n)))]), (ta, aB d 640 g6)] := hD
  refine W.eq (g2 := F0 m 39 ls []) rfl ?_
  have hs1 : (∀ j, j < 8 → s1 j = dig (kmk k iMk ++ wb num ++ L) j) ∧ BQ 640 g6 0 (64 + 4 + n + 9 + zer (64 + 4 + n)) (pad (kmk k iMk ++ wb num ++ L)) := hs1
  refine lv_aload_n C.x C.b d_SL_seal_39 rfl (lv_at hl 0 rfl) ?_
  refine lv_aload_n C.x C.b d_SL_seal_40 rfl (lv_at hl 1 rfl) ?_
  refine lv_ldc (v := (1549556828)) C.x C.b C.o (C.t _ m_396) d_SL_seal_41 ?_
  refine k_top (y := oMk) (rfl) ?_
  refine k_callV (As := [.ref kh, .int oMk]) (rest := []) (wc := [(h, ob 6 [.ref th, .ref dh]), (th, ob 2 [.ref ta, .int (nI 0), .int (nI (64 + 4 + n + 9 + zer (64 + 4 + n)))]), (ta, aB d 640 g6), (kh, ob 5 [.ref ka]), (ka, aI d 16 k)]) (wr := [(qh, ob 2 [.ref qa, .int (nI st), .int (nI n)]), (qa, aB d cap fq), (dh, ob 4 [.ref das, .ref daw]), (das, aI d 8 s1), (daw, aI d 64 w1)]) C (c_SL_startText l d h th dh ta 0 (64 + 4 + n + 9 + zer (64 + 4 + n)) g6 (pad (kmk k iMk ++ wb num ++ L)) kh ka k oMk (hs1.2)) mw_SL_startText ms_11 m_348 hP hD hS [0, 8, 9, 1, 2] [3, 4, 5, 6, 7] rfl rfl (by decide) (by decide) (by decide) 0 rfl rfl rfl rfl hl.1 (Nat.le_of_ble_eq_true rfl) d_SL_seal_43 ⟨Nat.le_of_ble_eq_true rfl, Nat.le_of_ble_eq_true rfl⟩ ⟨by decide, by decide⟩ (fun g7 H locs hg7 hP hD hS => ?_)
  have hP : va_P d.1 clz [(qh, ob 2 [.ref qa, .int (nI st), .int (nI n)]), (qa, aB d cap fq), (dh, ob 4 [.ref das, .ref daw]), (das, aI d 8 s1), (daw, aI d 64 w1), (h, ob 6 [.ref th, .ref dh]), (th, ob 2 [.ref ta, .int (nI 0), .int (nI 64)]), (ta, aB d 640 g7), (kh, ob 5 [.ref ka]), (ka, aI d 16 k)] H := hP
  have hD : va_D A [(qh, ob 2 [.ref qa, .int (nI st), .int (nI n)]), (qa, aB d cap fq), (dh, ob 4 [.ref das, .ref daw]), (das, aI d 8 s1), (daw, aI d 64 w1), (h, ob 6 [.ref th, .ref dh]), (th, ob 2 [.ref ta, .int (nI 0), .int (nI 64)]), (ta, aB d 640 g7), (kh, ob 5 [.ref ka]), (ka, aI d 16 k)] := hD
  refine W.eq (g2 := F0 m 46 ls []) rfl ?_
  have hg7 : BQ 640 g7 0 64 (kmk k oMk) := hg7
  refine lv_iconst (v := nI 0) C.x C.b d_SL_seal_46 (by decide) ?_
  refine lv_istore (lv' := [(4, .int (nI 0)), (0, .ref h), (1, .ref kh), (2, .int num), (3, .ref qh)]) C.x C.b d_SL_seal_47 hl (by decide) rfl (fun ls hl => ?_)
  have L49 : ∀ (fuel : Nat) (i : Nat) (g9 : Nat → Int32), 8 - i < fuel → (i ≤ 8) → (BQ 640 g9 0 (64 + 4 * i) (kmk k oMk ++ wbs s1 i)) → ∀ (H : Heap) (locs : List Loc) (ls : Array Slot), va_P d.1 clz [(h, ob 6 [.ref th, .ref dh]), (th, ob 2 [.ref ta, .int (nI 0), .int (nI (64 + 4 * i))]), (ta, aB d 640 g9), (dh, ob 4 [.ref das, .ref daw]), (das, aI d 8 s1), (daw, aI d 64 w1), (kh, ob 5 [.ref ka]), (ka, aI d 16 k), (qh, ob 2 [.ref qa, .int (nI st), .int (nI n)]), (qa, aB d cap fq)] H → va_D A [(h, ob 6 [.ref th, .ref dh]), (th, ob 2 [.ref ta, .int (nI 0), .int (nI (64 + 4 * i))]), (ta, aB d 640 g9), (dh, ob 4 [.ref das, .ref daw]), (das, aI d 8 s1), (daw, aI d 64 w1), (kh, ob 5 [.ref ka]), (ka, aI d 16 k), (qh, ob 2 [.ref qa, .int (nI st), .int (nI n)]), (qa, aB d cap fq)] → va_S A s.heap H locs → lv_has ls 5 [(0, .ref h), (1, .ref kh), (4, .int (nI i))] → W p l e (Rm 4 97 0 0) s m ([.ref h, .ref kh, .int num, .ref qh] : List Value).toArray below meth c H locs 0 0 (MQ below (Cout d A (fun (u : (Nat → Int32) × (Nat) × (List Int32) × (Nat → Int32) × (Nat → Int32)) => match u with | (g2, n2, T2, s2, w2) => none) (fun (u : (Nat → Int32) × (Nat) × (List Int32) × (Nat → Int32) × (Nat → Int32)) => match u with | (g2, n2, T2, s2, w2) => BQ 640 g2 0 n2 T2 ∧ ∀ j, j < 8 → s2 j = sealw k num L j) (fun (u : (Nat → Int32) × (Nat) × (List Int32) × (Nat → Int32) × (Nat → Int32)) => match u with | (g2, n2, T2, s2, w2) => [(h, ob 6 [.ref th, .ref dh]), (th, ob 2 [.ref ta, .int (nI 0), .int (nI n2)]), (ta, aB d 640 g2), (dh, ob 4 [.ref das, .ref daw]), (das, aI d 8 s2), (daw, aI d 64 w2), (kh, ob 5 [.ref ka]), (ka, aI d 16 k), (qh, ob 2 [.ref qa, .int (nI st), .int (nI n)]), (qa, aB d cap fq)])) ([.ref h, .ref kh, .int num, .ref qh] : List Value).toArray s 0 0 A) (F0 m 49 ls []) := by
    intro fuel
    induction fuel with
    | zero => intro i g9 h9; exact absurd h9 (Nat.not_lt_zero _)
    | succ fuel ih49 =>
      intro i g9 hfu49 hi hg9 H locs ls hP hD hS hl
      refine lv_iload C.x C.b d_SL_seal_49 (lv_at hl 2 rfl) ?_
      refine lv_bipush (v := nI 8) C.x C.b d_SL_seal_51 (by decide) ?_
      refine lv_icmp_ge (tgt := 78) C.x C.b d_SL_seal_53 (by decide) (fun hc53 => ?_) (fun hc53 => ?_)
      · rw [nI_leI (by omega) (by omega)] at hc53
        have hg11 : BQ 640 g9 0 96 (kmk k oMk ++ wbs s1 8) := by rw [show i = 8 from by omega] at hg9; exact hg9
        rw [show 64 + 4 * i = 96 from by omega] at hP hD
        refine lv_aload_n C.x C.b d_SL_seal_78 rfl (lv_at hl 0 rfl) ?_
        refine k_get C hP 0 rfl rfl i_SL 1 (by decide) m_108 rfl d_SL_seal_79 ?_
        refine lv_aload_n C.x C.b d_SL_seal_82 rfl (lv_at hl 0 rfl) ?_
        refine k_get C hP 0 rfl rfl i_SL 0 (by decide) m_107 rfl d_SL_seal_83 ?_
        refine k_callV (As := [.ref th]) (rest := []) (wc := [(dh, ob 4 [.ref das, .ref daw]), (das, aI d 8 s1), (daw, aI d 64 w1), (th, ob 2 [.ref ta, .int (nI 0), .int (nI 96)]), (ta, aB d 640 g9)]) (wr := [(h, ob 6 [.ref th, .ref dh]), (kh, ob 5 [.ref ka]), (ka, aI d 16 k), (qh, ob 2 [.ref qa, .int (nI st), .int (nI n)]), (qa, aB d cap fq)]) C (c_DG_digest l d dh das daw s1 w1 th ta 640 0 96 g9 (kmk k oMk ++ wbs s1 8) (hg11) (zer_640 (by omega)) (by omega)) mw_DG_digest m_362 m_360 hP hD hS [3, 4, 5, 1, 2] [0, 6, 7, 8, 9] rfl rfl (by decide) (by decide) (by decide) 3 rfl rfl rfl rfl hl.1 (Nat.le_of_ble_eq_true rfl) d_SL_seal_86 ⟨Nat.le_of_ble_eq_true rfl, Nat.le_of_ble_eq_true rfl⟩ ⟨by decide, by decide⟩ (fun u9 H locs hs3 hP hD hS => ?_)
        obtain ⟨s3, w3, g12⟩ := u9
        have hP : va_P d.1 clz [(h, ob 6 [.ref th, .ref dh]), (kh, ob 5 [.ref ka]), (ka, aI d 16 k), (qh, ob 2 [.ref qa, .int (nI st), .int (nI n)]), (qa, aB d cap fq), (dh, ob 4 [.ref das, .ref daw]), (das, aI d 8 s3), (daw, aI d 64 w3), (th, ob 2 [.ref ta, .int (nI 0), .int (nI (96 + 9 + zer 96))]), (ta, aB d 640 g12)] H := hP
        have hD : va_D A [(h, ob 6 [.ref th, .ref dh]), (kh, ob 5 [.ref ka]), (ka, aI d 16 k), (qh, ob 2 [.ref qa, .int (nI st), .int (nI n)]), (qa, aB d cap fq), (dh, ob 4 [.ref das, .ref daw]), (das, aI d 8 s3), (daw, aI d 64 w3), (th, ob 2 [.ref ta, .int (nI 0), .int (nI (96 + 9 + zer 96))]), (ta, aB d 640 g12)] := hD
        refine W.eq (g2 := F0 m 89 ls []) rfl ?_
        have hs3 : (∀ j, j < 8 → s3 j = dig (kmk k oMk ++ wbs s1 8) j) ∧ BQ 640 g12 0 (96 + 9 + zer 96) (pad (kmk k oMk ++ wbs s1 8)) := hs3
        have hP9 := hP.sub (ws' := [(h, ob 6 [.ref th, .ref dh]), (th, ob 2 [.ref ta, .int (nI 0), .int (nI (96 + 9 + zer 96))]), (ta, aB d 640 g12), (dh, ob 4 [.ref das, .ref daw]), (das, aI d 8 s3), (daw, aI d 64 w3), (kh, ob 5 [.ref ka]), (ka, aI d 16 k), (qh, ob 2 [.ref qa, .int (nI st), .int (nI n)]), (qa, aB d cap fq)]) [0, 8, 9, 5, 6, 7, 1, 2, 3, 4] rfl
        have hD9 := hD.sub (ws' := [(h, ob 6 [.ref th, .ref dh]), (th, ob 2 [.ref ta, .int (nI 0), .int (nI (96 + 9 + zer 96))]), (ta, aB d 640 g12), (dh, ob 4 [.ref das, .ref daw]), (das, aI d 8 s3), (daw, aI d 64 w3), (kh, ob 5 [.ref ka]), (ka, aI d 16 k), (qh, ob 2 [.ref qa, .int (nI st), .int (nI n)]), (qa, aB d cap fq)]) [0, 8, 9, 5, 6, 7, 1, 2, 3, 4] (by decide) rfl
        exact k_vret C hS (g12, 96 + 9 + zer 96, pad (kmk k oMk ++ wbs s1 8), s3, w3) (rfl) (⟨hs3.2, fun j hj => by rw [hs3.1 j hj]; unfold sealw; rw [wbs_cg (fun q hq => (hs1.1 q hq).symm)]⟩) hP9 hD9 d_SL_seal_89
      · rw [nI_leI (by omega) (by omega)] at hc53
        refine lv_aload_n C.x C.b d_SL_seal_56 rfl (lv_at hl 0 rfl) ?_
        refine k_get C hP 0 rfl rfl i_SL 0 (by decide) m_107 rfl d_SL_seal_57 ?_
        refine lv_aload_n C.x C.b d_SL_seal_60 rfl (lv_at hl 0 rfl) ?_
        refine k_get C hP 0 rfl rfl i_SL 1 (by decide) m_108 rfl d_SL_seal_61 ?_
        refine lv_iload C.x C.b d_SL_seal_64 (lv_at hl 2 rfl) ?_
        refine k_callV (As := [.int (nI i)]) (rest := [.ref th]) (wc := [(dh, ob 4 [.ref das, .ref daw]), (das, aI d 8 s1)]) (wr := [(h, ob 6 [.ref th, .ref dh]), (th, ob 2 [.ref ta, .int (nI 0), .int (nI (64 + 4 * i))]), (ta, aB d 640 g9), (daw, aI d 64 w1), (kh, ob 5 [.ref ka]), (ka, aI d 16 k), (qh, ob 2 [.ref qa, .int (nI st), .int (nI n)]), (qa, aB d cap fq)]) C (c_DG_stateWord l d dh das daw s1 i (by omega)) mw_DG_stateWord m_399 m_397 hP hD hS [3, 4] [0, 1, 2, 5, 6, 7, 8, 9] rfl rfl (by decide) (by decide) (by decide) 3 rfl rfl rfl rfl hl.1 (Nat.le_of_ble_eq_true rfl) d_SL_seal_66 ⟨Nat.le_of_ble_eq_true rfl, Nat.le_of_ble_eq_true rfl⟩ ⟨by decide, by decide⟩ (fun _ H locs hw_19 hP hD hS => ?_)
        have hP : va_P d.1 clz [(h, ob 6 [.ref th, .ref dh]), (th, ob 2 [.ref ta, .int (nI 0), .int (nI (64 + 4 * i))]), (ta, aB d 640 g9), (daw, aI d 64 w1), (kh, ob 5 [.ref ka]), (ka, aI d 16 k), (qh, ob 2 [.ref qa, .int (nI st), .int (nI n)]), (qa, aB d cap fq), (dh, ob 4 [.ref das, .ref daw]), (das, aI d 8 s1)] H := hP
        have hD : va_D A [(h, ob 6 [.ref th, .ref dh]), (th, ob 2 [.ref ta, .int (nI 0), .int (nI (64 + 4 * i))]), (ta, aB d 640 g9), (daw, aI d 64 w1), (kh, ob 5 [.ref ka]), (ka, aI d 16 k), (qh, ob 2 [.ref qa, .int (nI st), .int (nI n)]), (qa, aB d cap fq), (dh, ob 4 [.ref das, .ref daw]), (das, aI d 8 s1)] := hD
        refine W.eq (g2 := F0 m 69 ls [.int (s1 i), .ref th]) rfl ?_
        refine k_callV (As := [.int (s1 i)]) (rest := []) (wc := [(th, ob 2 [.ref ta, .int (nI 0), .int (nI (64 + 4 * i))]), (ta, aB d 640 g9)]) (wr := [(h, ob 6 [.ref th, .ref dh]), (daw, aI d 64 w1), (kh, ob 5 [.ref ka]), (ka, aI d 16 k), (qh, ob 2 [.ref qa, .int (nI st), .int (nI n)]), (qa, aB d cap fq), (dh, ob 4 [.ref das, .ref daw]), (das, aI d 8 s1)]) C (c_BQ_addWord l d th ta 640 0 (64 + 4 * i) g9 (kmk k oMk ++ wbs s1 i) (s1 i) (hg9) (by omega)) mw_BQ_addWord m_356 m_354 hP hD hS [1, 2] [0, 3, 4, 5, 6, 7, 8, 9] rfl rfl (by decide) (by decide) (by decide) 1 rfl rfl rfl rfl hl.1 (Nat.le_of_ble_eq_true rfl) d_SL_seal_69 ⟨Nat.le_of_ble_eq_true rfl, Nat.le_of_ble_eq_true rfl⟩ ⟨by decide, by decide⟩ (fun g10 H locs hg10 hP hD hS => ?_)
        have hP : va_P d.1 clz [(h, ob 6 [.ref th, .ref dh]), (daw, aI d 64 w1), (kh, ob 5 [.ref ka]), (ka, aI d 16 k), (qh, ob 2 [.ref qa, .int (nI st), .int (nI n)]), (qa, aB d cap fq), (dh, ob 4 [.ref das, .ref daw]), (das, aI d 8 s1), (th, ob 2 [.ref ta, .int (nI 0), .int (nI (64 + 4 * i + 4))]), (ta, aB d 640 g10)] H := hP
        have hD : va_D A [(h, ob 6 [.ref th, .ref dh]), (daw, aI d 64 w1), (kh, ob 5 [.ref ka]), (ka, aI d 16 k), (qh, ob 2 [.ref qa, .int (nI st), .int (nI n)]), (qa, aB d cap fq), (dh, ob 4 [.ref das, .ref daw]), (das, aI d 8 s1), (th, ob 2 [.ref ta, .int (nI 0), .int (nI (64 + 4 * i + 4))]), (ta, aB d 640 g10)] := hD
        refine W.eq (g2 := F0 m 72 ls []) rfl ?_
        have hg10 : BQ 640 g10 0 (64 + 4 * i + 4) (kmk k oMk ++ wbs s1 i ++ wb (s1 i)) := hg10
        have hg10 : BQ 640 g10 0 (64 + 4 * (i + 1)) (kmk k oMk ++ wbs s1 (i + 1)) := by rw [wbs_succ s1 i, ← List.append_assoc]; exact hg10
        refine lv_iinc (v := nI (i + 1)) (lv' := [(4, .int (nI (i + 1))), (0, .ref h), (1, .ref kh)]) C.x C.b d_SL_seal_72 hl (k := 2) rfl (k_inc _ 1) (by decide) rfl (fun ls hl => ?_)
        refine lv_goto (tgt := 49) C.x C.b d_SL_seal_75 (by decide) ?_
        exact ih49 (i + 1) g10 (by omega) (by omega) (hg10) _ _ _ (hP.sub [0, 8, 9, 6, 7, 1, 2, 3, 4, 5] (rfl)) (hD.sub [0, 8, 9, 6, 7, 1, 2, 3, 4, 5] (by decide) (rfl)) hS (lv_sub hl [1, 2, 0] (rfl))
  exact L49 ((8 - 0) + 1) 0 g7 (Nat.lt_succ_self _) (by omega) (by rw [show wbs s1 0 = [] from rfl, List.append_nil]; exact hg7) _ _ _ (hP.sub [5, 6, 7, 2, 3, 4, 8, 9, 0, 1] (rfl)) (hD.sub [5, 6, 7, 2, 3, 4, 8, 9, 0, 1] (by decide) (rfl)) hS (lv_sub hl [1, 2, 0] (rfl))
theorem mw_SL_init : Mw y_SL_init b_SL_init 1 none 0 := ⟨m_90, m_7, m_89, by decide +kernel⟩
set_option maxHeartbeats 4000000 in
set_option maxRecDepth 100000 in
theorem c_SL_init (l : Launch) (d : DD) (h : Nat) : Ct l y_SL_init b_SL_init 1 none 2 42 5 717 d [(h, ob 6 [.null, .null])] [.ref h] (fun (u : (Nat) × (Nat) × (Nat) × (Nat) × (Nat)) => match u with | (th, dh, ta, das, daw) => none) (fun (u : (Nat) × (Nat) × (Nat) × (Nat) × (Nat)) => match u with | (th, dh, ta, das, daw) => True) (fun (u : (Nat) × (Nat) × (Nat) × (Nat) × (Nat)) => match u with | (th, dh, ta, das, daw) => [(h, ob 6 [.ref th, .ref dh]), (th, ob 2 [.ref ta, .int 0, .int 0]), (ta, aB d 640 (fun _ => 0)), (dh, ob 4 [.ref das, .ref daw]), (das, aI d 8 (fun _ => 0)), (daw, aI d 64 (fun _ => 0))]) := by
  refine Ct.of (by decide +kernel) (Nat.le_of_ble_eq_true rfl) ?_
  intro p e s m below meth c A ls C hP hD hS hl
  have hl : lv_has ls 1 [(0, .ref h)] := hl
  have hsz9 := hS.1
  refine lv_aload_n C.x C.b d_SL_init_0 rfl (lv_at hl 0 rfl) ?_
  refine W.objInit C.x C.b C.o (C.t _ m_91) (C.t _ m_22) (C.t _ m_obj) rfl (by rw [C.ml]; exact hl.1) rfl d_SL_init_1 (Nat.le_of_ble_eq_true rfl) (Nat.le_of_ble_eq_true rfl) ?_
  refine W.eq (g2 := F0 m 4 ls []) rfl ?_
  refine lv_aload_n C.x C.b d_SL_init_4 rfl (lv_at hl 0 rfl) ?_
  refine va_new (D := d.1) (cl := clz) (tys := tysD d) (ci := 2) (fs := [.null, .int 0, .int 0]) (C := R_BQ) (T := F_BQ) (N := 3) C.x C.b C.t i_BQ t_BQ tk_BQ C.o (C.t _ m_92) (C.t _ m_51) (C.t _ m_4) C.en.1 hP hD hS C.a rfl (by decide) (by decide) (by decide) d_SL_init_5 (fun q_1 H hP hD hS => ?_)
  have hP : va_P d.1 clz [(h, ob 6 [.null, .null]), (q_1, ob 2 [.null, .int 0, .int 0])] H := hP
  have hD : va_D A [(h, ob 6 [.null, .null]), (q_1, ob 2 [.null, .int 0, .int 0])] := hD
  refine lv_dup C.x C.b d_SL_init_8 rfl ?_
  refine lv_sipush (v := nI 640) C.x C.b d_SL_init_9 (by decide) ?_
  refine k_callI (As := [.int (nI 640)]) (rest := [.ref q_1, .ref h]) (wc := [(q_1, ob 2 [.null, .int 0, .int 0])]) (wr := [(h, ob 6 [.null, .null])]) C (c_BQ_init l d q_1 640 (by omega) (by omega)) mw_BQ_init rfl m_93 hP hD hS [1] [0] rfl rfl (by decide) (by decide) (by decide) rfl hl.1 (Nat.le_of_ble_eq_true rfl) d_SL_init_12 ⟨Nat.le_of_ble_eq_true rfl, Nat.le_of_ble_eq_true rfl⟩ ⟨by decide, by decide⟩ (fun a_2 H locs hw_3 hP hD hS => ?_)
  have hP : va_P d.1 clz [(h, ob 6 [.null, .null]), (q_1, ob 2 [.ref a_2, .int 0, .int 0]), (a_2, aB d 640 (fun _ => 0))] H := hP
  have hD : va_D A [(h, ob 6 [.null, .null]), (q_1, ob 2 [.ref a_2, .int 0, .int 0]), (a_2, aB d 640 (fun _ => 0))] := hD
  refine W.eq (g2 := F0 m 15 ls [.ref q_1, .ref h]) rfl ?_
  refine k_putF C rfl hP hD hS 0 rfl rfl i_SL tk_SL n_SL 0 (by decide) m_107 rfl rfl rfl rfl (Nat.le_of_ble_eq_true rfl) d_SL_init_15 (fun H locs hP hD hS => ?_)
  have hP : va_P d.1 clz [(h, ob 6 [.ref q_1, .null]), (q_1, ob 2 [.ref a_2, .int 0, .int 0]), (a_2, aB d 640 (fun _ => 0))] H := hP
  have hD : va_D A [(h, ob 6 [.ref q_1, .null]), (q_1, ob 2 [.ref a_2, .int 0, .int 0]), (a_2, aB d 640 (fun _ => 0))] := hD
  refine lv_aload_n C.x C.b d_SL_init_18 rfl (lv_at hl 0 rfl) ?_
  refine va_new (D := d.1) (cl := clz) (tys := tysD d) (ci := 4) (fs := [.null, .null]) (C := R_DG) (T := F_DG) (N := 2) C.x C.b C.t i_DG t_DG tk_DG C.o (C.t _ m_94) (C.t _ m_95) (C.t _ m_8) C.en.1 hP hD hS C.a rfl (by decide) (by decide) (by decide) d_SL_init_19 (fun q_4 H hP hD hS => ?_)
  have hP : va_P d.1 clz [(h, ob 6 [.ref q_1, .null]), (q_1, ob 2 [.ref a_2, .int 0, .int 0]), (a_2, aB d 640 (fun _ => 0)), (q_4, ob 4 [.null, .null])] H := hP
  have hD : va_D A [(h, ob 6 [.ref q_1, .null]), (q_1, ob 2 [.ref a_2, .int 0, .int 0]), (a_2, aB d 640 (fun _ => 0)), (q_4, ob 4 [.null, .null])] := hD
  refine lv_dup C.x C.b d_SL_init_22 rfl ?_
  refine k_callIN (As := []) (rest := [.ref q_4, .ref h]) (wc := [(q_4, ob 4 [.null, .null])]) (wr := [(h, ob 6 [.ref q_1, .null]), (q_1, ob 2 [.ref a_2, .int 0, .int 0]), (a_2, aB d 640 (fun _ => 0))]) C (c_DG_init l d q_4) mw_DG_init rfl C.en.2.2.1.2.2.2.2.2 hP hD hS [3] [0, 1, 2] rfl rfl (by decide) (by decide) (by decide) rfl hl.1 (Nat.le_of_ble_eq_true rfl) d_SL_init_23 ⟨Nat.le_of_ble_eq_true rfl, Nat.le_of_ble_eq_true rfl⟩ ⟨by decide, by decide⟩ (fun u9 H locs hw_7 hP hD hS => ?_)
  obtain ⟨as_5, aw_6⟩ := u9
  have hP : va_P d.1 clz [(h, ob 6 [.ref q_1, .null]), (q_1, ob 2 [.ref a_2, .int 0, .int 0]), (a_2, aB d 640 (fun _ => 0)), (q_4, ob 4 [.ref as_5, .ref aw_6]), (as_5, aI d 8 (fun _ => 0)), (aw_6, aI d 64 (fun _ => 0))] H := hP
  have hD : va_D A [(h, ob 6 [.ref q_1, .null]), (q_1, ob 2 [.ref a_2, .int 0, .int 0]), (a_2, aB d 640 (fun _ => 0)), (q_4, ob 4 [.ref as_5, .ref aw_6]), (as_5, aI d 8 (fun _ => 0)), (aw_6, aI d 64 (fun _ => 0))] := hD
  refine W.eq (g2 := F0 m 26 ls [.ref q_4, .ref h]) rfl ?_
  refine k_putF C rfl hP hD hS 0 rfl rfl i_SL tk_SL n_SL 1 (by decide) m_108 rfl rfl rfl rfl (Nat.le_of_ble_eq_true rfl) d_SL_init_26 (fun H locs hP hD hS => ?_)
  have hP : va_P d.1 clz [(h, ob 6 [.ref q_1, .ref q_4]), (q_1, ob 2 [.ref a_2, .int 0, .int 0]), (a_2, aB d 640 (fun _ => 0)), (q_4, ob 4 [.ref as_5, .ref aw_6]), (as_5, aI d 8 (fun _ => 0)), (aw_6, aI d 64 (fun _ => 0))] H := hP
  have hD : va_D A [(h, ob 6 [.ref q_1, .ref q_4]), (q_1, ob 2 [.ref a_2, .int 0, .int 0]), (a_2, aB d 640 (fun _ => 0)), (q_4, ob 4 [.ref as_5, .ref aw_6]), (as_5, aI d 8 (fun _ => 0)), (aw_6, aI d 64 (fun _ => 0))] := hD
  have hP9 := hP.sub (ws' := [(h, ob 6 [.ref q_1, .ref q_4]), (q_1, ob 2 [.ref a_2, .int 0, .int 0]), (a_2, aB d 640 (fun _ => 0)), (q_4, ob 4 [.ref as_5, .ref aw_6]), (as_5, aI d 8 (fun _ => 0)), (aw_6, aI d 64 (fun _ => 0))]) [0, 1, 2, 3, 4, 5] rfl
  have hD9 := hD.sub (ws' := [(h, ob 6 [.ref q_1, .ref q_4]), (q_1, ob 2 [.ref a_2, .int 0, .int 0]), (a_2, aB d 640 (fun _ => 0)), (q_4, ob 4 [.ref as_5, .ref aw_6]), (as_5, aI d 8 (fun _ => 0)), (aw_6, aI d 64 (fun _ => 0))]) [0, 1, 2, 3, 4, 5] (by decide) rfl
  exact k_vret C hS (q_1, q_4, a_2, as_5, aw_6) (rfl) (trivial) hP9 hD9 d_SL_init_29
