def ctrN (k : Nat → Int32) : Nat → (Nat → Int32)
  | 0 => k
  | n + 1 => ctrUp (ctrN k n)
/-- byte i of what the counter's blocks give -/
def strm (k : Nat → Int32) (i : Nat) : Int32 := aes (ksch k) (ctrN k (i / 16)) (i % 16)
/-- bytes enciphered -/
def enc (k : Nat → Int32) (L : List Int32) : List Int32 := (List.range L.length).map (fun i => (L.getD i 0 ^^^ strm k i) &&& nI 255)
theorem gd_map {f : Nat → Int32} {n j : Nat} (h : j < n) : ((List.range n).map f).getD j 0 = f j := by
  rw [gd9 (by simp [h])]; simp
theorem enc_len (k : Nat → Int32) (L : List Int32) : (enc k L).length = L.length := by unfold enc; simp
theorem enc_get {k : Nat → Int32} {L : List Int32} {i : Nat} (h : i < L.length) : (enc k L).getD i 0 = (L.getD i 0 ^^^ strm k i) &&& nI 255 := gd_map h
theorem ext9 {L M : List Int32} (h1 : L.length = M.length) (h2 : ∀ i, i < L.length → L.getD i 0 = M.getD i 0) : L = M := by
  apply List.ext_getElem h1
  intro i a b
  have := h2 i a
  rwa [gd9 a, gd9 b] at this
theorem gd_set {L : List Int32} {i j : Nat} {x : Int32} (hj : j < L.length) : (L.set i x).getD j 0 = if j = i then x else L.getD j 0 := by
  rw [gd9 (by rw [List.length_set]; exact hj), gd9 hj, List.getElem_set]
  by_cases e : i = j
  · rw [if_pos e, if_pos e.symm]
  · rw [if_neg e, if_neg (fun q => e q.symm)]
theorem enc_step {k : Nat → Int32} {L M : List Int32} {i : Nat} {b : Int32} (hlen : M.length = L.length) (hi : i < L.length) (hM : ∀ j, j < L.length → M.getD j 0 = if j < i then (enc k L).getD j 0 else L.getD j 0) (hb : b = strm k i) :
    ∀ j, j < L.length → (M.set i ((M.getD i 0 ^^^ b) &&& nI 255)).getD j 0 = if j < i + 1 then (enc k L).getD j 0 else L.getD j 0 := by
  intro j hj
  rw [gd_set (by omega)]
  by_cases e : j = i
  · rw [if_pos e, if_pos (by omega), hM i hi, if_neg (by omega), e, enc_get hi, hb]
  · rw [if_neg e, hM j hj]
    by_cases q : j < i
    · rw [if_pos q, if_pos (by omega)]
    · rw [if_neg q, if_neg (by omega)]
theorem mw_CC_apply : Mw y_CC_apply b_CC_apply 6 none 2 := ⟨m_325, m_6, m_323, by decide +kernel⟩
set_option maxHeartbeats 4000000 in
set_option maxRecDepth 100000 in
theorem c_CC_apply (l : Launch) (d : DD) (h : Nat) (aw : Nat) (ab : Nat) (am : Nat) (fw : Nat → Int32) (fb : Nat → Int32) (fm : Nat → Int32) (kh : Nat) (ka : Nat) (k : Nat → Int32) (qh : Nat) (qa : Nat) (cap : Nat) (st : Nat) (n : Nat) (fq : Nat → Int32) (L : List Int32) (hB : BQ cap fq st n L) : Ct l y_CC_apply b_CC_apply 6 none 3 68 0 0 d [(h, ob 3 [.ref aw, .ref ab, .ref am]), (aw, aI d 44 fw), (ab, aI d 16 fb), (am, aI d 16 fm), (kh, ob 5 [.ref ka]), (ka, aI d 16 k), (qh, ob 2 [.ref qa, .int (nI st), .int (nI n)]), (qa, aB d cap fq)] [.ref h, .ref kh, .ref qh] (fun (u : (Nat → Int32) × (Nat → Int32) × (Nat → Int32) × (Nat → Int32)) => match u with | (f1, f2, f3, g2) => none) (fun (u : (Nat → Int32) × (Nat → Int32) × (Nat → Int32) × (Nat → Int32)) => match u with | (f1, f2, f3, g2) => BQ cap g2 st n (enc k L)) (fun (u : (Nat → Int32) × (Nat → Int32) × (Nat → Int32) × (Nat → Int32)) => match u with | (f1, f2, f3, g2) => [(h, ob 3 [.ref aw, .ref ab, .ref am]), (aw, aI d 44 f1), (ab, aI d 16 f2), (am, aI d 16 f3), (kh, ob 5 [.ref ka]), (ka, aI d 16 (ctrN k ((n + 15) / 16))), (qh, ob 2 [.ref qa, .int (nI st), .int (nI n)]), (qa, aB d cap g2)]) := by
  refine Ct.of (by decide +kernel) (Nat.le_of_ble_eq_true rfl) ?_
  intro p e s m below meth c A ls C hP hD hS hl
  have hl : lv_has ls 6 [(0, .ref h), (1, .ref kh), (2, .ref qh)] := hl
  have hsz9 := hS.1
  obtain ⟨hq1, hq2, hq3, hq4, hq5, hq6⟩ := id hB
  refine lv_aload_n C.x C.b d_CC_apply_0 rfl (lv_at hl 0 rfl) ?_
  refine lv_aload_n C.x C.b d_CC_apply_1 rfl (lv_at hl 1 rfl) ?_
  refine k_callV (As := [.ref kh]) (rest := []) (wc := [(h, ob 3 [.ref aw, .ref ab, .ref am]), (aw, aI d 44 fw), (kh, ob 5 [.ref ka]), (ka, aI d 16 k)]) (wr := [(ab, aI d 16 fb), (am, aI d 16 fm), (qh, ob 2 [.ref qa, .int (nI st), .int (nI n)]), (qa, aB d cap fq)]) C (c_CC_spreadKey l d h aw ab am fw kh ka k) mw_CC_spreadKey ms_1 m_181 hP hD hS [0, 1, 4, 5] [2, 3, 6, 7] rfl rfl (by decide) (by decide) (by decide) 0 rfl rfl rfl rfl hl.1 (Nat.le_of_ble_eq_true rfl) d_CC_apply_2 ⟨Nat.le_of_ble_eq_true rfl, Nat.le_of_ble_eq_true rfl⟩ ⟨by decide, by decide⟩ (fun f1 H locs hf1 hP hD hS => ?_)
  have hP : va_P d.1 clz [(ab, aI d 16 fb), (am, aI d 16 fm), (qh, ob 2 [.ref qa, .int (nI st), .int (nI n)]), (qa, aB d cap fq), (h, ob 3 [.ref aw, .ref ab, .ref am]), (aw, aI d 44 f1), (kh, ob 5 [.ref ka]), (ka, aI d 16 k)] H := hP
  have hD : va_D A [(ab, aI d 16 fb), (am, aI d 16 fm), (qh, ob 2 [.ref qa, .int (nI st), .int (nI n)]), (qa, aB d cap fq), (h, ob 3 [.ref aw, .ref ab, .ref am]), (aw, aI d 44 f1), (kh, ob 5 [.ref ka]), (ka, aI d 16 k)] := hD
  refine W.eq (g2 := F0 m 5 ls []) rfl ?_
  have hf1 : ∀ j, j < 44 → f1 j = ksch k j := hf1
  refine lv_aload_n C.x C.b d_CC_apply_5 rfl (lv_at hl 2 rfl) ?_
  refine k_callV (As := []) (rest := []) (wc := [(qh, ob 2 [.ref qa, .int (nI st), .int (nI n)]), (qa, aB d cap fq)]) (wr := [(ab, aI d 16 fb), (am, aI d 16 fm), (h, ob 3 [.ref aw, .ref ab, .ref am]), (aw, aI d 44 f1), (kh, ob 5 [.ref ka]), (ka, aI d 16 k)]) C (c_BQ_size l d qh qa cap st n fq) mw_BQ_size m_163 m_326 hP hD hS [2, 3] [0, 1, 4, 5, 6, 7] rfl rfl (by decide) (by decide) (by decide) 2 rfl rfl rfl rfl hl.1 (Nat.le_of_ble_eq_true rfl) d_CC_apply_6 ⟨Nat.le_of_ble_eq_true rfl, Nat.le_of_ble_eq_true rfl⟩ ⟨by decide, by decide⟩ (fun _ H locs hw_3 hP hD hS => ?_)
  have hP : va_P d.1 clz [(ab, aI d 16 fb), (am, aI d 16 fm), (h, ob 3 [.ref aw, .ref ab, .ref am]), (aw, aI d 44 f1), (kh, ob 5 [.ref ka]), (ka, aI d 16 k), (qh, ob 2 [.ref qa, .int (nI st), .int (nI n)]), (qa, aB d cap fq)] H := hP
  have hD : va_D A [(ab, aI d 16 fb), (am, aI d 16 fm), (h, ob 3 [.ref aw, .ref ab, .ref am]), (aw, aI d 44 f1), (kh, ob 5 [.ref ka]), (ka, aI d 16 k), (qh, ob 2 [.ref qa, .int (nI st), .int (nI n)]), (qa, aB d cap fq)] := hD
  refine W.eq (g2 := F0 m 9 ls [.int (nI n)]) rfl ?_
  refine lv_istore_n (lv' := [(3, .int (nI n)), (0, .ref h), (1, .ref kh), (2, .ref qh)]) C.x C.b d_CC_apply_9 rfl hl (by decide) rfl (fun ls hl => ?_)
  refine lv_iconst (v := nI 0) C.x C.b d_CC_apply_10 (by decide) ?_
  refine lv_istore (lv' := [(4, .int (nI 0)), (3, .int (nI n)), (0, .ref h), (1, .ref kh), (2, .ref qh)]) C.x C.b d_CC_apply_11 hl (by decide) rfl (fun ls hl => ?_)
  have L13 : ∀ (fuel : Nat) (i : Nat) (b9 : Nat → Int32) (m9 : Nat → Int32) (gq : Nat → Int32) (M : List Int32), n - i < fuel → (i ≤ n) → (BQ cap gq st n M) → (∀ j, j < L.length → M.getD j 0 = if j < i then (enc k L).getD j 0 else L.getD j 0) → (i % 16 ≠ 0 → ∀ j, j < 16 → b9 j = aes (ksch k) (ctrN k (i / 16)) j) → ∀ (H : Heap) (locs : List Loc) (ls : Array Slot), va_P d.1 clz [(h, ob 3 [.ref aw, .ref ab, .ref am]), (aw, aI d 44 f1), (ab, aI d 16 b9), (am, aI d 16 m9), (kh, ob 5 [.ref ka]), (ka, aI d 16 (ctrN k ((i + 15) / 16))), (qh, ob 2 [.ref qa, .int (nI st), .int (nI n)]), (qa, aB d cap gq)] H → va_D A [(h, ob 3 [.ref aw, .ref ab, .ref am]), (aw, aI d 44 f1), (ab, aI d 16 b9), (am, aI d 16 m9), (kh, ob 5 [.ref ka]), (ka, aI d 16 (ctrN k ((i + 15) / 16))), (qh, ob 2 [.ref qa, .int (nI st), .int (nI n)]), (qa, aB d cap gq)] → va_S A s.heap H locs → lv_has ls 6 [(0, .ref h), (1, .ref kh), (2, .ref qh), (3, .int (nI n)), (4, .int (nI i))] → W p l e (Rm 3 68 0 0) s m ([.ref h, .ref kh, .ref qh] : List Value).toArray below meth c H locs 0 0 (MQ below (Cout d A (fun (u : (Nat → Int32) × (Nat → Int32) × (Nat → Int32) × (Nat → Int32)) => match u with | (f1, f2, f3, g2) => none) (fun (u : (Nat → Int32) × (Nat → Int32) × (Nat → Int32) × (Nat → Int32)) => match u with | (f1, f2, f3, g2) => BQ cap g2 st n (enc k L)) (fun (u : (Nat → Int32) × (Nat → Int32) × (Nat → Int32) × (Nat → Int32)) => match u with | (f1, f2, f3, g2) => [(h, ob 3 [.ref aw, .ref ab, .ref am]), (aw, aI d 44 f1), (ab, aI d 16 f2), (am, aI d 16 f3), (kh, ob 5 [.ref ka]), (ka, aI d 16 (ctrN k ((n + 15) / 16))), (qh, ob 2 [.ref qa, .int (nI st), .int (nI n)]), (qa, aB d cap g2)])) ([.ref h, .ref kh, .ref qh] : List Value).toArray s 0 0 A) (F0 m 13 ls []) := by
    intro fuel
    induction fuel with
    | zero => intro i b9 m9 gq M h9; exact absurd h9 (Nat.not_lt_zero _)
    | succ fuel ih13 =>
      intro i b9 m9 gq M hfu13 hi hBM hM hb9 H locs ls hP hD hS hl
      refine lv_iload C.x C.b d_CC_apply_13 (lv_at hl 4 rfl) ?_
      refine lv_iload_n C.x C.b d_CC_apply_15 rfl (lv_at hl 3 rfl) ?_
      refine lv_icmp_ge (tgt := 59) C.x C.b d_CC_apply_16 (by decide) (fun hc16 => ?_) (fun hc16 => ?_)
      · rw [nI_leI (by omega) (by omega)] at hc16
        have hP9 := hP.sub (ws' := [(h, ob 3 [.ref aw, .ref ab, .ref am]), (aw, aI d 44 f1), (ab, aI d 16 b9), (am, aI d 16 m9), (kh, ob 5 [.ref ka]), (ka, aI d 16 (ctrN k ((i + 15) / 16))), (qh, ob 2 [.ref qa, .int (nI st), .int (nI n)]), (qa, aB d cap gq)]) [0, 1, 2, 3, 4, 5, 6, 7] rfl
        have hD9 := hD.sub (ws' := [(h, ob 3 [.ref aw, .ref ab, .ref am]), (aw, aI d 44 f1), (ab, aI d 16 b9), (am, aI d 16 m9), (kh, ob 5 [.ref ka]), (ka, aI d 16 (ctrN k ((i + 15) / 16))), (qh, ob 2 [.ref qa, .int (nI st), .int (nI n)]), (qa, aB d cap gq)]) [0, 1, 2, 3, 4, 5, 6, 7] (by decide) rfl
        rw [show (i + 15) / 16 = (n + 15) / 16 from by rw [show i = n from by omega]] at hP9 hD9
        exact k_vret C hS (f1, b9, m9, gq) (rfl) (by have e9 : M = enc k L := ext9 (by rw [enc_len, hBM.2.2.1, hq3]) (fun j hj => by rw [hM j (by rw [hBM.2.2.1] at hj; omega), if_pos (by rw [hBM.2.2.1] at hj; omega)]); rw [← e9]; exact hBM) hP9 hD9 d_CC_apply_59
      · rw [nI_leI (by omega) (by omega)] at hc16
        refine lv_iload C.x C.b d_CC_apply_19 (lv_at hl 4 rfl) ?_
        refine lv_bipush (v := nI 16) C.x C.b d_CC_apply_21 (by decide) ?_
        refine lv_irem C.x C.b d_CC_apply_23 (by decide) ?_
        refine k_top (y := nI (i % 16)) (pk_rem (by omega) (by omega) (by omega)) ?_
        refine lv_istore (lv' := [(5, .int (nI (i % 16))), (0, .ref h), (1, .ref kh), (2, .ref qh), (3, .int (nI n)), (4, .int (nI i))]) C.x C.b d_CC_apply_24 hl (by decide) rfl (fun ls hl => ?_)
        refine lv_iload C.x C.b d_CC_apply_26 (lv_at hl 0 rfl) ?_
        refine lv_if_ne (tgt := 40) C.x C.b d_CC_apply_28 (by decide) (fun hc28 => ?_) (fun hc28 => ?_)
        · rw [← nI_0, nI_eq (by omega) (by omega)] at hc28
          refine lv_aload_n C.x C.b d_CC_apply_40 rfl (lv_at hl 3 rfl) ?_
          refine lv_iload C.x C.b d_CC_apply_41 (lv_at hl 5 rfl) ?_
          refine lv_aload_n C.x C.b d_CC_apply_43 rfl (lv_at hl 1 rfl) ?_
          refine k_get C hP 0 rfl rfl i_CC 1 (by decide) m_77 rfl d_CC_apply_44 ?_
          refine lv_iload C.x C.b d_CC_apply_47 (lv_at hl 0 rfl) ?_
          refine k_iald C hP 2 rfl (j := (i % 16)) (by omega) (by omega) d_CC_apply_49 ?_
          refine k_callV (As := [.int (nI i), .int (b9 (i % 16))]) (rest := []) (wc := [(qh, ob 2 [.ref qa, .int (nI st), .int (nI n)]), (qa, aB d cap gq)]) (wr := [(h, ob 3 [.ref aw, .ref ab, .ref am]), (aw, aI d 44 f1), (ab, aI d 16 b9), (am, aI d 16 m9), (kh, ob 5 [.ref ka]), (ka, aI d 16 (ctrN k ((i + 15) / 16)))]) C (c_BQ_flip l d qh qa cap st n gq M i (b9 (i % 16)) (hBM) (by omega)) mw_BQ_flip m_333 m_331 hP hD hS [6, 7] [0, 1, 2, 3, 4, 5] rfl rfl (by decide) (by decide) (by decide) 6 rfl rfl rfl rfl hl.1 (Nat.le_of_ble_eq_true rfl) d_CC_apply_50 ⟨Nat.le_of_ble_eq_true rfl, Nat.le_of_ble_eq_true rfl⟩ ⟨by decide, by decide⟩ (fun gq2 H locs hgq2 hP hD hS => ?_)
          have hP : va_P d.1 clz [(h, ob 3 [.ref aw, .ref ab, .ref am]), (aw, aI d 44 f1), (ab, aI d 16 b9), (am, aI d 16 m9), (kh, ob 5 [.ref ka]), (ka, aI d 16 (ctrN k ((i + 15) / 16))), (qh, ob 2 [.ref qa, .int (nI st), .int (nI n)]), (qa, aB d cap gq2)] H := hP
          have hD : va_D A [(h, ob 3 [.ref aw, .ref ab, .ref am]), (aw, aI d 44 f1), (ab, aI d 16 b9), (am, aI d 16 m9), (kh, ob 5 [.ref ka]), (ka, aI d 16 (ctrN k ((i + 15) / 16))), (qh, ob 2 [.ref qa, .int (nI st), .int (nI n)]), (qa, aB d cap gq2)] := hD
          refine W.eq (g2 := F0 m 53 ls []) rfl ?_
          have hgq2 : BQ cap gq2 st n (M.set i ((M.getD i 0 ^^^ (b9 (i % 16))) &&& nI 255)) := hgq2
          rw [show (i + 15) / 16 = (i + 1 + 15) / 16 from by omega] at hP hD
          have hbk := hb9 (by omega)
          refine lv_iinc (v := nI (i + 1)) (lv' := [(4, .int (nI (i + 1))), (5, .int (nI (i % 16))), (0, .ref h), (1, .ref kh), (2, .ref qh), (3, .int (nI n))]) C.x C.b d_CC_apply_53 hl (k := 5) rfl (k_inc _ 1) (by decide) rfl (fun ls hl => ?_)
          refine lv_goto (tgt := 13) C.x C.b d_CC_apply_56 (by decide) ?_
          exact ih13 (i + 1) b9 m9 gq2 (M.set i ((M.getD i 0 ^^^ b9 (i % 16)) &&& nI 255)) (by omega) (by omega) (hgq2) (enc_step (by have := hBM.2.2.1; omega) (by omega) hM (hbk (i % 16) (by omega))) (fun q j hj => by rw [show (i + 1) / 16 = i / 16 from by omega]; exact hbk j hj) _ _ _ (hP.sub [0, 1, 2, 3, 4, 5, 6, 7] (rfl)) (hD.sub [0, 1, 2, 3, 4, 5, 6, 7] (by decide) (rfl)) hS (lv_sub hl [2, 3, 4, 5, 0] (rfl))
        · rw [← nI_0, nI_eq (by omega) (by omega)] at hc28
          refine lv_aload_n C.x C.b d_CC_apply_31 rfl (lv_at hl 1 rfl) ?_
          refine lv_aload_n C.x C.b d_CC_apply_32 rfl (lv_at hl 2 rfl) ?_
          refine k_callV (As := [.ref kh]) (rest := []) (wc := [(h, ob 3 [.ref aw, .ref ab, .ref am]), (aw, aI d 44 f1), (ab, aI d 16 b9), (am, aI d 16 m9), (kh, ob 5 [.ref ka]), (ka, aI d 16 (ctrN k ((i + 15) / 16)))]) (wr := [(qh, ob 2 [.ref qa, .int (nI st), .int (nI n)]), (qa, aB d cap gq)]) C (c_CC_encipherCounter l d h aw ab am f1 b9 m9 kh ka (ctrN k ((i + 15) / 16))) mw_CC_encipherCounter ms_3 m_270 hP hD hS [0, 1, 2, 3, 4, 5] [6, 7] rfl rfl (by decide) (by decide) (by decide) 0 rfl rfl rfl rfl hl.1 (Nat.le_of_ble_eq_true rfl) d_CC_apply_33 ⟨Nat.le_of_ble_eq_true rfl, Nat.le_of_ble_eq_true rfl⟩ ⟨by decide, by decide⟩ (fun u9 H locs hb2 hP hD hS => ?_)
          obtain ⟨b2, m2⟩ := u9
          have hP : va_P d.1 clz [(qh, ob 2 [.ref qa, .int (nI st), .int (nI n)]), (qa, aB d cap gq), (h, ob 3 [.ref aw, .ref ab, .ref am]), (aw, aI d 44 f1), (ab, aI d 16 b2), (am, aI d 16 m2), (kh, ob 5 [.ref ka]), (ka, aI d 16 (ctrN k ((i + 15) / 16)))] H := hP
          have hD : va_D A [(qh, ob 2 [.ref qa, .int (nI st), .int (nI n)]), (qa, aB d cap gq), (h, ob 3 [.ref aw, .ref ab, .ref am]), (aw, aI d 44 f1), (ab, aI d 16 b2), (am, aI d 16 m2), (kh, ob 5 [.ref ka]), (ka, aI d 16 (ctrN k ((i + 15) / 16)))] := hD
          refine W.eq (g2 := F0 m 36 ls []) rfl ?_
          have hb2 : ∀ j, j < 16 → b2 j = aes f1 (ctrN k ((i + 15) / 16)) j := hb2
          refine lv_aload_n C.x C.b d_CC_apply_36 rfl (lv_at hl 2 rfl) ?_
          refine k_callV (As := []) (rest := []) (wc := [(kh, ob 5 [.ref ka]), (ka, aI d 16 (ctrN k ((i + 15) / 16)))]) (wr := [(qh, ob 2 [.ref qa, .int (nI st), .int (nI n)]), (qa, aB d cap gq), (h, ob 3 [.ref aw, .ref ab, .ref am]), (aw, aI d 44 f1), (ab, aI d 16 b2), (am, aI d 16 m2)]) C (c_KY_countUp l d kh ka (ctrN k ((i + 15) / 16))) mw_KY_countUp m_329 m_327 hP hD hS [6, 7] [0, 1, 2, 3, 4, 5] rfl rfl (by decide) (by decide) (by decide) 6 rfl rfl rfl rfl hl.1 (Nat.le_of_ble_eq_true rfl) d_CC_apply_37 ⟨Nat.le_of_ble_eq_true rfl, Nat.le_of_ble_eq_true rfl⟩ ⟨by decide, by decide⟩ (fun kc H locs hkc hP hD hS => ?_)
          have hP : va_P d.1 clz [(qh, ob 2 [.ref qa, .int (nI st), .int (nI n)]), (qa, aB d cap gq), (h, ob 3 [.ref aw, .ref ab, .ref am]), (aw, aI d 44 f1), (ab, aI d 16 b2), (am, aI d 16 m2), (kh, ob 5 [.ref ka]), (ka, aI d 16 kc)] H := hP
          have hD : va_D A [(qh, ob 2 [.ref qa, .int (nI st), .int (nI n)]), (qa, aB d cap gq), (h, ob 3 [.ref aw, .ref ab, .ref am]), (aw, aI d 44 f1), (ab, aI d 16 b2), (am, aI d 16 m2), (kh, ob 5 [.ref ka]), (ka, aI d 16 kc)] := hD
          refine W.eq (g2 := F0 m 40 ls []) rfl ?_
          have hkc : kc = ctrUp (ctrN k ((i + 15) / 16)) := hkc
          refine lv_aload_n C.x C.b d_CC_apply_40 rfl (lv_at hl 3 rfl) ?_
          refine lv_iload C.x C.b d_CC_apply_41 (lv_at hl 5 rfl) ?_
          refine lv_aload_n C.x C.b d_CC_apply_43 rfl (lv_at hl 1 rfl) ?_
          refine k_get C hP 2 rfl rfl i_CC 1 (by decide) m_77 rfl d_CC_apply_44 ?_
          refine lv_iload C.x C.b d_CC_apply_47 (lv_at hl 0 rfl) ?_
          refine k_iald C hP 4 rfl (j := (i % 16)) (by omega) (by omega) d_CC_apply_49 ?_
          refine k_callV (As := [.int (nI i), .int (b2 (i % 16))]) (rest := []) (wc := [(qh, ob 2 [.ref qa, .int (nI st), .int (nI n)]), (qa, aB d cap gq)]) (wr := [(h, ob 3 [.ref aw, .ref ab, .ref am]), (aw, aI d 44 f1), (ab, aI d 16 b2), (am, aI d 16 m2), (kh, ob 5 [.ref ka]), (ka, aI d 16 kc)]) C (c_BQ_flip l d qh qa cap st n gq M i (b2 (i % 16)) (hBM) (by omega)) mw_BQ_flip m_333 m_331 hP hD hS [0, 1] [2, 3, 4, 5, 6, 7] rfl rfl (by decide) (by decide) (by decide) 0 rfl rfl rfl rfl hl.1 (Nat.le_of_ble_eq_true rfl) d_CC_apply_50 ⟨Nat.le_of_ble_eq_true rfl, Nat.le_of_ble_eq_true rfl⟩ ⟨by decide, by decide⟩ (fun gq2 H locs hgq2 hP hD hS => ?_)
          have hP : va_P d.1 clz [(h, ob 3 [.ref aw, .ref ab, .ref am]), (aw, aI d 44 f1), (ab, aI d 16 b2), (am, aI d 16 m2), (kh, ob 5 [.ref ka]), (ka, aI d 16 kc), (qh, ob 2 [.ref qa, .int (nI st), .int (nI n)]), (qa, aB d cap gq2)] H := hP
          have hD : va_D A [(h, ob 3 [.ref aw, .ref ab, .ref am]), (aw, aI d 44 f1), (ab, aI d 16 b2), (am, aI d 16 m2), (kh, ob 5 [.ref ka]), (ka, aI d 16 kc), (qh, ob 2 [.ref qa, .int (nI st), .int (nI n)]), (qa, aB d cap gq2)] := hD
          refine W.eq (g2 := F0 m 53 ls []) rfl ?_
          have hgq2 : BQ cap gq2 st n (M.set i ((M.getD i 0 ^^^ (b2 (i % 16))) &&& nI 255)) := hgq2
          rw [hkc, show ctrUp (ctrN k ((i + 15) / 16)) = ctrN k ((i + 1 + 15) / 16) from by rw [show (i + 1 + 15) / 16 = (i + 15) / 16 + 1 from by omega]; rfl] at hP hD
          have hbk : ∀ j, j < 16 → b2 j = aes (ksch k) (ctrN k (i / 16)) j := by intro j hj; rw [hb2 j hj, show (i + 15) / 16 = i / 16 from by omega]; exact rnd_cg hf1 (fun _ _ => rfl) 10 (by omega) j hj
          refine lv_iinc (v := nI (i + 1)) (lv' := [(4, .int (nI (i + 1))), (5, .int (nI (i % 16))), (0, .ref h), (1, .ref kh), (2, .ref qh), (3, .int (nI n))]) C.x C.b d_CC_apply_53 hl (k := 5) rfl (k_inc _ 1) (by decide) rfl (fun ls hl => ?_)
          refine lv_goto (tgt := 13) C.x C.b d_CC_apply_56 (by decide) ?_
          exact ih13 (i + 1) b2 m2 gq2 (M.set i ((M.getD i 0 ^^^ b2 (i % 16)) &&& nI 255)) (by omega) (by omega) (hgq2) (enc_step (by have := hBM.2.2.1; omega) (by omega) hM (hbk (i % 16) (by omega))) (fun q j hj => by rw [show (i + 1) / 16 = i / 16 from by omega]; exact hbk j hj) _ _ _ (hP.sub [0, 1, 2, 3, 4, 5, 6, 7] (rfl)) (hD.sub [0, 1, 2, 3, 4, 5, 6, 7] (by decide) (rfl)) hS (lv_sub hl [2, 3, 4, 5, 0] (rfl))
  exact L13 ((n - 0) + 1) 0 fb fm fq L (Nat.lt_succ_self _) (by omega) (hB) (fun j hj => by rw [if_neg (Nat.not_lt_zero _)]) (fun q => absurd rfl q) _ _ _ (hP.sub [2, 3, 0, 1, 4, 5, 6, 7] (rfl)) (hD.sub [2, 3, 0, 1, 4, 5, 6, 7] (by decide) (rfl)) hS (lv_sub hl [2, 3, 4, 1, 0] (rfl))
