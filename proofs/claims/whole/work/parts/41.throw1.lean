theorem th_BQ_47a : ∀ w ∈ (vx_atS R_BQ 47 xI xN).filter goodWord, w ∈ tb := by decide +kernel
theorem th_BQ_47b : ∀ w ∈ (vx_atS R_BQ 47 xI xN).filter (fun w => !goodWord w), w ∈ xB xI := by decide +kernel
theorem th_BQ_47c : ∀ w ∈ Cond.classLink R_BQ 43 xI :: Cond.initialized xI :: vx_atS R_BQ 47 xI xN, vx_ot w = true := by decide +kernel
theorem th_KY_21a : ∀ w ∈ (vx_atS R_KY 21 xI xN).filter goodWord, w ∈ tb := by decide +kernel
theorem th_KY_21b : ∀ w ∈ (vx_atS R_KY 21 xI xN).filter (fun w => !goodWord w), w ∈ xB xI := by decide +kernel
theorem th_KY_21c : ∀ w ∈ Cond.classLink R_KY 17 xI :: Cond.initialized xI :: vx_atS R_KY 21 xI xN, vx_ot w = true := by decide +kernel
theorem th_PG_92a : ∀ w ∈ (vx_atS R_PG 92 xA xN).filter goodWord, w ∈ tb := by decide +kernel
theorem th_PG_92b : ∀ w ∈ (vx_atS R_PG 92 xA xN).filter (fun w => !goodWord w), w ∈ xB xA := by decide +kernel
theorem th_PG_92c : ∀ w ∈ Cond.classLink R_PG 88 xA :: Cond.initialized xA :: vx_atS R_PG 92 xA xN, vx_ot w = true := by decide +kernel
theorem th_PG_103a : ∀ w ∈ (vx_atS R_PG 103 xS xN).filter goodWord, w ∈ tb := by decide +kernel
theorem th_PG_103b : ∀ w ∈ (vx_atS R_PG 103 xS xN).filter (fun w => !goodWord w), w ∈ xB xS := by decide +kernel
theorem th_PG_103c : ∀ w ∈ Cond.classLink R_PG 99 xS :: Cond.initialized xS :: vx_atS R_PG 103 xS xN, vx_ot w = true := by decide +kernel
theorem th_PG_161a : ∀ w ∈ (vx_atS R_PG 161 xI xN).filter goodWord, w ∈ tb := by decide +kernel
theorem th_PG_161b : ∀ w ∈ (vx_atS R_PG 161 xI xN).filter (fun w => !goodWord w), w ∈ xB xI := by decide +kernel
theorem th_PG_161c : ∀ w ∈ Cond.classLink R_PG 157 xI :: Cond.initialized xI :: vx_atS R_PG 161 xI xN, vx_ot w = true := by decide +kernel
set_option maxHeartbeats 4000000 in
set_option maxRecDepth 100000 in
theorem x_KY_checkIndex (l : Launch) (hst : l.stackTraces = false) (d : DD) (i : Int32) (hbad : i < 0 ∨ nI 16 ≤ i) : Ty l y_KY_checkIndex b_KY_checkIndex 1 none 6 82 d [] [.int i] xI := by
  refine Ty.of (by decide +kernel) (Nat.le_of_ble_eq_true rfl) ?_
  intro p e s m below meth c A ls C ht hP hD hS hl
  have hl : lv_has ls 1 [(0, .int i)] := hl
  have hsz9 := hS.1
  refine lv_iload_n C.x C.b d_KY_checkIndex_0 rfl (lv_at hl 0 rfl) ?_
  refine lv_if_lt (tgt := 10) C.x C.b d_KY_checkIndex_1 (by decide) (fun hca => ?_) (fun hca => ?_)
  · have hP9 := hP.sub (ws' := []) [] rfl
    exact k_thr (E := xI) (ik := 17) (is := 19) (ic := 21) C ht hst hP9 hS (by decide +kernel) m_192 m_13 C.en.2.2.2.2.2.1.1 C.en.2.2.2.2.1.1 th_KY_21a th_KY_21b th_KY_21c hl.1 d_KY_checkIndex_10 d_KY_checkIndex_13 d_KY_checkIndex_14 d_KY_checkIndex_16 d_KY_checkIndex_19 (Nat.le_of_ble_eq_true rfl) (Nat.le_of_ble_eq_true rfl) (by decide) (by decide) (by decide) (by decide)
  · refine lv_iload_n C.x C.b d_KY_checkIndex_4 rfl (lv_at hl 0 rfl) ?_
    refine lv_bipush (v := nI 16) C.x C.b d_KY_checkIndex_5 (by decide) ?_
    refine lv_icmp_lt (tgt := 20) C.x C.b d_KY_checkIndex_7 (by decide) (fun h9 => False.elim (hbad.elim hca (fun q => Int32.not_le.mpr h9 q))) (fun hc_2 => ?_)
    have hP9 := hP.sub (ws' := []) [] rfl
    exact k_thr (E := xI) (ik := 17) (is := 19) (ic := 21) C ht hst hP9 hS (by decide +kernel) m_192 m_13 C.en.2.2.2.2.2.1.1 C.en.2.2.2.2.1.1 th_KY_21a th_KY_21b th_KY_21c hl.1 d_KY_checkIndex_10 d_KY_checkIndex_13 d_KY_checkIndex_14 d_KY_checkIndex_16 d_KY_checkIndex_19 (Nat.le_of_ble_eq_true rfl) (Nat.le_of_ble_eq_true rfl) (by decide) (by decide) (by decide) (by decide)
set_option maxHeartbeats 4000000 in
set_option maxRecDepth 100000 in
theorem x_KY_change (l : Launch) (hst : l.stackTraces = false) (d : DD) (h : Nat) (a : Nat) (f : Nat → Int32) (i : Int32) (v : Int32) (hbad : i < 0 ∨ nI 16 ≤ i) : Ty l y_KY_change b_KY_change 3 none 7 102 d [(h, ob 5 [.ref a]), (a, aI d 16 f)] [.ref h, .int i, .int v] xI := by
  refine Ty.of (by decide +kernel) (Nat.le_of_ble_eq_true rfl) ?_
  intro p e s m below meth c A ls C ht hP hD hS hl
  have hl : lv_has ls 3 [(0, .ref h), (1, .int i), (2, .int v)] := hl
  have hsz9 := hS.1
  refine lv_iload_n C.x C.b d_KY_change_0 rfl (lv_at hl 1 rfl) ?_
  refine k_callXS (As := [.int i]) (rest := []) (wc := []) (wr := [(h, ob 5 [.ref a]), (a, aI d 16 f)]) C (x_KY_checkIndex l hst d i (hbad)) mw_KY_checkIndex m_189 hP hD hS [] [0, 1] rfl rfl (by decide) (by decide) (by decide) rfl hl.1 (Nat.le_of_ble_eq_true rfl) d_KY_change_1 ⟨Nat.le_of_ble_eq_true rfl, Nat.le_of_ble_eq_true rfl⟩ ⟨by decide, by decide⟩ (fun q_2 ce H locs hP hD hS hce hcv hcl => ?_)
  have hP : va_P d.1 clz [(h, ob 5 [.ref a]), (a, aI d 16 f)] H := hP
  have hD : va_D A [(h, ob 5 [.ref a]), (a, aI d 16 f)] := hD
  have hP9 := hP.sub (ws' := [(h, ob 5 [.ref a]), (a, aI d 16 f)]) [0, 1] rfl
  exact k_outX C ht hP9 hS hce hcv hcl (by decide) (by decide)
set_option maxHeartbeats 4000000 in
set_option maxRecDepth 100000 in
theorem x_BQ_checkIndex (l : Launch) (hst : l.stackTraces = false) (d : DD) (h : Nat) (a : Nat) (cap : Nat) (st : Nat) (n : Nat) (f : Nat → Int32) (i : Int32) (hbad : i < 0 ∨ nI n ≤ i) : Ty l y_BQ_checkIndex b_BQ_checkIndex 2 none 6 82 d [(h, ob 2 [.ref a, .int (nI st), .int (nI n)]), (a, aB d cap f)] [.ref h, .int i] xI := by
  refine Ty.of (by decide +kernel) (Nat.le_of_ble_eq_true rfl) ?_
  intro p e s m below meth c A ls C ht hP hD hS hl
  have hl : lv_has ls 2 [(0, .ref h), (1, .int i)] := hl
  have hsz9 := hS.1
  refine lv_iload_n C.x C.b d_BQ_checkIndex_0 rfl (lv_at hl 1 rfl) ?_
  refine lv_if_lt (tgt := 12) C.x C.b d_BQ_checkIndex_1 (by decide) (fun hca => ?_) (fun hca => ?_)
  · have hP9 := hP.sub (ws' := [(h, ob 2 [.ref a, .int (nI st), .int (nI n)]), (a, aB d cap f)]) [0, 1] rfl
    exact k_thr (E := xI) (ik := 43) (is := 45) (ic := 47) C ht hst hP9 hS (by decide +kernel) m_294 m_13 C.en.2.2.2.2.2.1.2.1 C.en.2.2.2.2.1.1 th_BQ_47a th_BQ_47b th_BQ_47c hl.1 d_BQ_checkIndex_12 d_BQ_checkIndex_15 d_BQ_checkIndex_16 d_BQ_checkIndex_18 d_BQ_checkIndex_21 (Nat.le_of_ble_eq_true rfl) (Nat.le_of_ble_eq_true rfl) (by decide) (by decide) (by decide) (by decide)
  · refine lv_iload_n C.x C.b d_BQ_checkIndex_4 rfl (lv_at hl 1 rfl) ?_
    refine lv_aload_n C.x C.b d_BQ_checkIndex_5 rfl (lv_at hl 0 rfl) ?_
    refine k_get C hP 0 rfl rfl i_BQ 2 (by decide) m_61 rfl d_BQ_checkIndex_6 ?_
    refine lv_icmp_lt (tgt := 22) C.x C.b d_BQ_checkIndex_9 (by decide) (fun h9 => False.elim (hbad.elim hca (fun q => Int32.not_le.mpr h9 q))) (fun hc_2 => ?_)
    have hP9 := hP.sub (ws' := [(h, ob 2 [.ref a, .int (nI st), .int (nI n)]), (a, aB d cap f)]) [0, 1] rfl
    exact k_thr (E := xI) (ik := 43) (is := 45) (ic := 47) C ht hst hP9 hS (by decide +kernel) m_294 m_13 C.en.2.2.2.2.2.1.2.1 C.en.2.2.2.2.1.1 th_BQ_47a th_BQ_47b th_BQ_47c hl.1 d_BQ_checkIndex_12 d_BQ_checkIndex_15 d_BQ_checkIndex_16 d_BQ_checkIndex_18 d_BQ_checkIndex_21 (Nat.le_of_ble_eq_true rfl) (Nat.le_of_ble_eq_true rfl) (by decide) (by decide) (by decide) (by decide)
set_option maxHeartbeats 4000000 in
set_option maxRecDepth 100000 in
theorem x_BQ_at (l : Launch) (hst : l.stackTraces = false) (d : DD) (h : Nat) (a : Nat) (cap : Nat) (st : Nat) (n : Nat) (f : Nat → Int32) (i : Int32) (hbad : i < 0 ∨ nI n ≤ i) : Ty l y_BQ_at b_BQ_at 2 (some .int) 7 103 d [(h, ob 2 [.ref a, .int (nI st), .int (nI n)]), (a, aB d cap f)] [.ref h, .int i] xI := by
  refine Ty.of (by decide +kernel) (Nat.le_of_ble_eq_true rfl) ?_
  intro p e s m below meth c A ls C ht hP hD hS hl
  have hl : lv_has ls 2 [(0, .ref h), (1, .int i)] := hl
  have hsz9 := hS.1
  refine lv_aload_n C.x C.b d_BQ_at_0 rfl (lv_at hl 0 rfl) ?_
  refine lv_iload_n C.x C.b d_BQ_at_1 rfl (lv_at hl 1 rfl) ?_
  refine k_callXV (As := [.int i]) (rest := []) (wc := [(h, ob 2 [.ref a, .int (nI st), .int (nI n)]), (a, aB d cap f)]) (wr := []) C (x_BQ_checkIndex l hst d h a cap st n f i (hbad)) mw_BQ_checkIndex ms_7 m_290 hP hD hS [0, 1] [] rfl rfl (by decide) (by decide) (by decide) 0 rfl rfl rfl rfl hl.1 (Nat.le_of_ble_eq_true rfl) d_BQ_at_2 ⟨Nat.le_of_ble_eq_true rfl, Nat.le_of_ble_eq_true rfl⟩ ⟨by decide, by decide⟩ (fun q_2 ce H locs hP hD hS hce hcv hcl => ?_)
  have hP : va_P d.1 clz [(h, ob 2 [.ref a, .int (nI st), .int (nI n)]), (a, aB d cap f)] H := hP
  have hD : va_D A [(h, ob 2 [.ref a, .int (nI st), .int (nI n)]), (a, aB d cap f)] := hD
  have hP9 := hP.sub (ws' := [(h, ob 2 [.ref a, .int (nI st), .int (nI n)]), (a, aB d cap f)]) [0, 1] rfl
  exact k_outX C ht hP9 hS hce hcv hcl (by decide) (by decide)
set_option maxHeartbeats 4000000 in
set_option maxRecDepth 100000 in
theorem x_BQ_flip (l : Launch) (hst : l.stackTraces = false) (d : DD) (h : Nat) (a : Nat) (cap : Nat) (st : Nat) (n : Nat) (f : Nat → Int32) (i : Int32) (mk : Int32) (hbad : i < 0 ∨ nI n ≤ i) : Ty l y_BQ_flip b_BQ_flip 3 none 7 103 d [(h, ob 2 [.ref a, .int (nI st), .int (nI n)]), (a, aB d cap f)] [.ref h, .int i, .int mk] xI := by
  refine Ty.of (by decide +kernel) (Nat.le_of_ble_eq_true rfl) ?_
  intro p e s m below meth c A ls C ht hP hD hS hl
  have hl : lv_has ls 3 [(0, .ref h), (1, .int i), (2, .int mk)] := hl
  have hsz9 := hS.1
  refine lv_aload_n C.x C.b d_BQ_flip_0 rfl (lv_at hl 0 rfl) ?_
  refine lv_iload_n C.x C.b d_BQ_flip_1 rfl (lv_at hl 1 rfl) ?_
  refine k_callXV (As := [.int i]) (rest := []) (wc := [(h, ob 2 [.ref a, .int (nI st), .int (nI n)]), (a, aB d cap f)]) (wr := []) C (x_BQ_checkIndex l hst d h a cap st n f i (hbad)) mw_BQ_checkIndex ms_7 m_290 hP hD hS [0, 1] [] rfl rfl (by decide) (by decide) (by decide) 0 rfl rfl rfl rfl hl.1 (Nat.le_of_ble_eq_true rfl) d_BQ_flip_2 ⟨Nat.le_of_ble_eq_true rfl, Nat.le_of_ble_eq_true rfl⟩ ⟨by decide, by decide⟩ (fun q_2 ce H locs hP hD hS hce hcv hcl => ?_)
  have hP : va_P d.1 clz [(h, ob 2 [.ref a, .int (nI st), .int (nI n)]), (a, aB d cap f)] H := hP
  have hD : va_D A [(h, ob 2 [.ref a, .int (nI st), .int (nI n)]), (a, aB d cap f)] := hD
  have hP9 := hP.sub (ws' := [(h, ob 2 [.ref a, .int (nI st), .int (nI n)]), (a, aB d cap f)]) [0, 1] rfl
  exact k_outX C ht hP9 hS hce hcv hcl (by decide) (by decide)
set_option maxHeartbeats 4000000 in
set_option maxRecDepth 100000 in
theorem x_PG_key (l : Launch) (hst : l.stackTraces = false) (d : DD) (g : Nat) (nk : Nat) (sd : Nat) (rc : Nat) (wk : Nat) (ph : Nat) (wh : Nat) (ch : Nat) (oh : Nat) (qh : Nat) (cc : Nat) (sl : Nat) (kwt : Int32) (kl : Int32) (ft : Int32) (nka : Nat) (fnk : Nat → Int32) (i : Int32) (v : Int32) (hbad : i < 0 ∨ nI 16 ≤ i) : Ty l y_PG_key b_PG_key 3 none 8 124 d [(g, ob 0 [.ref nk, .ref sd, .ref rc, .ref wk, .int kwt, .ref ph, .ref wh, .ref ch, .ref oh, .ref qh, .ref cc, .ref sl, .int kl, .int ft]), (nk, ob 5 [.ref nka]), (nka, aI d 16 fnk)] [.ref g, .int i, .int v] xI := by
  refine Ty.of (by decide +kernel) (Nat.le_of_ble_eq_true rfl) ?_
  intro p e s m below meth c A ls C ht hP hD hS hl
  have hl : lv_has ls 3 [(0, .ref g), (1, .int i), (2, .int v)] := hl
  have hsz9 := hS.1
  refine lv_aload_n C.x C.b d_PG_key_0 rfl (lv_at hl 0 rfl) ?_
  refine k_get C hP 0 rfl rfl i_PG 0 (by decide) m_114 rfl d_PG_key_1 ?_
  refine lv_iload_n C.x C.b d_PG_key_4 rfl (lv_at hl 1 rfl) ?_
  refine lv_iload_n C.x C.b d_PG_key_5 rfl (lv_at hl 2 rfl) ?_
  refine k_callXV (As := [.int i, .int v]) (rest := []) (wc := [(nk, ob 5 [.ref nka]), (nka, aI d 16 fnk)]) (wr := [(g, ob 0 [.ref nk, .ref sd, .ref rc, .ref wk, .int kwt, .ref ph, .ref wh, .ref ch, .ref oh, .ref qh, .ref cc, .ref sl, .int kl, .int ft])]) C (x_KY_change l hst d nk nka fnk i v (hbad)) mw_KY_change m_447 m_445 hP hD hS [1, 2] [0] rfl rfl (by decide) (by decide) (by decide) 1 rfl rfl rfl rfl hl.1 (Nat.le_of_ble_eq_true rfl) d_PG_key_6 ⟨Nat.le_of_ble_eq_true rfl, Nat.le_of_ble_eq_true rfl⟩ ⟨by decide, by decide⟩ (fun q_2 ce H locs hP hD hS hce hcv hcl => ?_)
  have hP : va_P d.1 clz [(g, ob 0 [.ref nk, .ref sd, .ref rc, .ref wk, .int kwt, .ref ph, .ref wh, .ref ch, .ref oh, .ref qh, .ref cc, .ref sl, .int kl, .int ft]), (nk, ob 5 [.ref nka]), (nka, aI d 16 fnk)] H := hP
  have hD : va_D A [(g, ob 0 [.ref nk, .ref sd, .ref rc, .ref wk, .int kwt, .ref ph, .ref wh, .ref ch, .ref oh, .ref qh, .ref cc, .ref sl, .int kl, .int ft]), (nk, ob 5 [.ref nka]), (nka, aI d 16 fnk)] := hD
  have hP9 := hP.sub (ws' := [(g, ob 0 [.ref nk, .ref sd, .ref rc, .ref wk, .int kwt, .ref ph, .ref wh, .ref ch, .ref oh, .ref qh, .ref cc, .ref sl, .int kl, .int ft]), (nk, ob 5 [.ref nka]), (nka, aI d 16 fnk)]) [0, 1, 2] rfl
  exact k_outX C ht hP9 hS hce hcv hcl (by decide) (by decide)
set_option maxHeartbeats 4000000 in
set_option maxRecDepth 100000 in
theorem x_PG_sideOf (l : Launch) (hst : l.stackTraces = false) (d : DD) (g : Nat) (nk : Nat) (sd : Nat) (rc : Nat) (wk : Nat) (ph : Nat) (wh : Nat) (ch : Nat) (oh : Nat) (qh : Nat) (cc : Nat) (sl : Nat) (kwt : Int32) (kl : Int32) (ft : Int32) (i : Int32) (hbad : ¬ i = nI 0 ∧ ¬ i = nI 1) : Ty l y_PG_sideOf b_PG_sideOf 2 (some (.object "PacketGuard$Side")) 6 82 d [(g, ob 0 [.ref nk, .ref sd, .ref rc, .ref wk, .int kwt, .ref ph, .ref wh, .ref ch, .ref oh, .ref qh, .ref cc, .ref sl, .int kl, .int ft])] [.ref g, .int i] xI := by
  refine Ty.of (by decide +kernel) (Nat.le_of_ble_eq_true rfl) ?_
  intro p e s m below meth c A ls C ht hP hD hS hl
  have hl : lv_has ls 2 [(0, .ref g), (1, .int i)] := hl
  have hsz9 := hS.1
  refine lv_iload_n C.x C.b d_PG_sideOf_0 rfl (lv_at hl 1 rfl) ?_
  refine lv_if_eq (tgt := 19) C.x C.b d_PG_sideOf_1 (by decide) (fun h9 => False.elim (hbad.1 h9)) (fun hc_1 => ?_)
  refine lv_iload_n C.x C.b d_PG_sideOf_4 rfl (lv_at hl 1 rfl) ?_
  refine lv_iconst (v := nI 1) C.x C.b d_PG_sideOf_5 (by decide) ?_
  refine lv_icmp_eq (tgt := 19) C.x C.b d_PG_sideOf_6 (by decide) (fun h9 => False.elim (hbad.2 h9)) (fun hc_2 => ?_)
  have hP9 := hP.sub (ws' := [(g, ob 0 [.ref nk, .ref sd, .ref rc, .ref wk, .int kwt, .ref ph, .ref wh, .ref ch, .ref oh, .ref qh, .ref cc, .ref sl, .int kl, .int ft])]) [0] rfl
  exact k_thr (E := xI) (ik := 157) (is := 159) (ic := 161) C ht hst hP9 hS (by decide +kernel) m_460 m_13 C.en.2.2.2.2.2.1.2.2.1 C.en.2.2.2.2.1.1 th_PG_161a th_PG_161b th_PG_161c hl.1 d_PG_sideOf_9 d_PG_sideOf_12 d_PG_sideOf_13 d_PG_sideOf_15 d_PG_sideOf_18 (Nat.le_of_ble_eq_true rfl) (Nat.le_of_ble_eq_true rfl) (by decide) (by decide) (by decide) (by decide)
set_option maxHeartbeats 4000000 in
set_option maxRecDepth 100000 in
theorem x_PG_turn (l : Launch) (hst : l.stackTraces = false) (d : DD) (g : Nat) (nk : Nat) (sd : Nat) (rc : Nat) (wk : Nat) (ph : Nat) (wh : Nat) (ch : Nat) (oh : Nat) (qh : Nat) (cc : Nat) (sl : Nat) (kwt : Int32) (kl : Int32) (ft : Int32) (i : Int32) (hbad : ¬ i = nI 0 ∧ ¬ i = nI 1) : Ty l y_PG_turn b_PG_turn 3 none 7 103 d [(g, ob 0 [.ref nk, .ref sd, .ref rc, .ref wk, .int kwt, .ref ph, .ref wh, .ref ch, .ref oh, .ref qh, .ref cc, .ref sl, .int kl, .int ft])] [.ref g, .int i] xI := by
  refine Ty.of (by decide +kernel) (Nat.le_of_ble_eq_true rfl) ?_
  intro p e s m below meth c A ls C ht hP hD hS hl
  have hl : lv_has ls 3 [(0, .ref g), (1, .int i)] := hl
  have hsz9 := hS.1
  refine lv_aload_n C.x C.b d_PG_turn_0 rfl (lv_at hl 0 rfl) ?_
  refine lv_iload_n C.x C.b d_PG_turn_1 rfl (lv_at hl 1 rfl) ?_
  refine k_callXV (As := [.int i]) (rest := []) (wc := [(g, ob 0 [.ref nk, .ref sd, .ref rc, .ref wk, .int kwt, .ref ph, .ref wh, .ref ch, .ref oh, .ref qh, .ref cc, .ref sl, .int kl, .int ft])]) (wr := []) C (x_PG_sideOf l hst d g nk sd rc wk ph wh ch oh qh cc sl kwt kl ft i (hbad)) mw_PG_sideOf ms_16 m_456 hP hD hS [0] [] rfl rfl (by decide) (by decide) (by decide) 0 rfl rfl rfl rfl hl.1 (Nat.le_of_ble_eq_true rfl) d_PG_turn_2 ⟨Nat.le_of_ble_eq_true rfl, Nat.le_of_ble_eq_true rfl⟩ ⟨by decide, by decide⟩ (fun q_2 ce H locs hP hD hS hce hcv hcl => ?_)
  have hP : va_P d.1 clz [(g, ob 0 [.ref nk, .ref sd, .ref rc, .ref wk, .int kwt, .ref ph, .ref wh, .ref ch, .ref oh, .ref qh, .ref cc, .ref sl, .int kl, .int ft])] H := hP
  have hD : va_D A [(g, ob 0 [.ref nk, .ref sd, .ref rc, .ref wk, .int kwt, .ref ph, .ref wh, .ref ch, .ref oh, .ref qh, .ref cc, .ref sl, .int kl, .int ft])] := hD
  have hP9 := hP.sub (ws' := [(g, ob 0 [.ref nk, .ref sd, .ref rc, .ref wk, .int kwt, .ref ph, .ref wh, .ref ch, .ref oh, .ref qh, .ref cc, .ref sl, .int kl, .int ft])]) [0] rfl
  exact k_outX C ht hP9 hS hce hcv hcl (by decide) (by decide)
set_option maxHeartbeats 4000000 in
set_option maxRecDepth 100000 in
theorem x_PG_number (l : Launch) (hst : l.stackTraces = false) (d : DD) (g : Nat) (nk : Nat) (sd : Nat) (rc : Nat) (wk : Nat) (ph : Nat) (wh : Nat) (ch : Nat) (oh : Nat) (qh : Nat) (cc : Nat) (sl : Nat) (kwt : Int32) (kl : Int32) (ft : Int32) (i : Int32) (hbad : ¬ i = nI 0 ∧ ¬ i = nI 1) : Ty l y_PG_number b_PG_number 2 (some .int) 7 103 d [(g, ob 0 [.ref nk, .ref sd, .ref rc, .ref wk, .int kwt, .ref ph, .ref wh, .ref ch, .ref oh, .ref qh, .ref cc, .ref sl, .int kl, .int ft])] [.ref g, .int i] xI := by
  refine Ty.of (by decide +kernel) (Nat.le_of_ble_eq_true rfl) ?_
  intro p e s m below meth c A ls C ht hP hD hS hl
  have hl : lv_has ls 2 [(0, .ref g), (1, .int i)] := hl
  have hsz9 := hS.1
  refine lv_aload_n C.x C.b d_PG_number_0 rfl (lv_at hl 0 rfl) ?_
  refine lv_iload_n C.x C.b d_PG_number_1 rfl (lv_at hl 1 rfl) ?_
  refine k_callXV (As := [.int i]) (rest := []) (wc := [(g, ob 0 [.ref nk, .ref sd, .ref rc, .ref wk, .int kwt, .ref ph, .ref wh, .ref ch, .ref oh, .ref qh, .ref cc, .ref sl, .int kl, .int ft])]) (wr := []) C (x_PG_sideOf l hst d g nk sd rc wk ph wh ch oh qh cc sl kwt kl ft i (hbad)) mw_PG_sideOf ms_16 m_456 hP hD hS [0] [] rfl rfl (by decide) (by decide) (by decide) 0 rfl rfl rfl rfl hl.1 (Nat.le_of_ble_eq_true rfl) d_PG_number_2 ⟨Nat.le_of_ble_eq_true rfl, Nat.le_of_ble_eq_true rfl⟩ ⟨by decide, by decide⟩ (fun q_2 ce H locs hP hD hS hce hcv hcl => ?_)
  have hP : va_P d.1 clz [(g, ob 0 [.ref nk, .ref sd, .ref rc, .ref wk, .int kwt, .ref ph, .ref wh, .ref ch, .ref oh, .ref qh, .ref cc, .ref sl, .int kl, .int ft])] H := hP
  have hD : va_D A [(g, ob 0 [.ref nk, .ref sd, .ref rc, .ref wk, .int kwt, .ref ph, .ref wh, .ref ch, .ref oh, .ref qh, .ref cc, .ref sl, .int kl, .int ft])] := hD
  have hP9 := hP.sub (ws' := [(g, ob 0 [.ref nk, .ref sd, .ref rc, .ref wk, .int kwt, .ref ph, .ref wh, .ref ch, .ref oh, .ref qh, .ref cc, .ref sl, .int kl, .int ft])]) [0] rfl
  exact k_outX C ht hP9 hS hce hcv hcl (by decide) (by decide)
set_option maxHeartbeats 4000000 in
set_option maxRecDepth 100000 in
theorem x_PG_put1 (l : Launch) (hst : l.stackTraces = false) (d : DD) (g : Nat) (nk : Nat) (sd : Nat) (rc : Nat) (wk : Nat) (ph : Nat) (wh : Nat) (ch : Nat) (oh : Nat) (qh : Nat) (cc : Nat) (sl : Nat) (kwt : Int32) (kl : Int32) (ft : Int32) (v : Int32) (n : Int32) (hbad : n < nI 1 ∨ nI 4 < n) : Ty l y_PG_put b_PG_put 4 (some .int) 6 82 d [(g, ob 0 [.ref nk, .ref sd, .ref rc, .ref wk, .int kwt, .ref ph, .ref wh, .ref ch, .ref oh, .ref qh, .ref cc, .ref sl, .int kl, .int ft])] [.ref g, .int v, .int n] xA := by
  refine Ty.of (by decide +kernel) (Nat.le_of_ble_eq_true rfl) ?_
  intro p e s m below meth c A ls C ht hP hD hS hl
  have hl : lv_has ls 4 [(0, .ref g), (1, .int v), (2, .int n)] := hl
  have hsz9 := hS.1
  refine lv_iload_n C.x C.b d_PG_put_0 rfl (lv_at hl 2 rfl) ?_
  refine lv_iconst (v := nI 1) C.x C.b d_PG_put_1 (by decide) ?_
  refine lv_icmp_lt (tgt := 10) C.x C.b d_PG_put_2 (by decide) (fun hca => ?_) (fun hca => ?_)
  · have hP9 := hP.sub (ws' := [(g, ob 0 [.ref nk, .ref sd, .ref rc, .ref wk, .int kwt, .ref ph, .ref wh, .ref ch, .ref oh, .ref qh, .ref cc, .ref sl, .int kl, .int ft])]) [0] rfl
    exact k_thr (E := xA) (ik := 88) (is := 90) (ic := 92) C ht hst hP9 hS (by decide +kernel) m_472 m_14 C.en.2.2.2.2.2.1.2.2.2.1 C.en.2.2.2.2.1.2.1 th_PG_92a th_PG_92b th_PG_92c hl.1 d_PG_put_10 d_PG_put_13 d_PG_put_14 d_PG_put_16 d_PG_put_19 (Nat.le_of_ble_eq_true rfl) (Nat.le_of_ble_eq_true rfl) (by decide) (by decide) (by decide) (by decide)
  · refine lv_iload_n C.x C.b d_PG_put_5 rfl (lv_at hl 2 rfl) ?_
    refine lv_iconst (v := nI 4) C.x C.b d_PG_put_6 (by decide) ?_
    refine lv_icmp_le (tgt := 20) C.x C.b d_PG_put_7 (by decide) (fun h9 => False.elim (hbad.elim hca (fun q => Int32.not_le.mpr q h9))) (fun hc_2 => ?_)
    have hP9 := hP.sub (ws' := [(g, ob 0 [.ref nk, .ref sd, .ref rc, .ref wk, .int kwt, .ref ph, .ref wh, .ref ch, .ref oh, .ref qh, .ref cc, .ref sl, .int kl, .int ft])]) [0] rfl
    exact k_thr (E := xA) (ik := 88) (is := 90) (ic := 92) C ht hst hP9 hS (by decide +kernel) m_472 m_14 C.en.2.2.2.2.2.1.2.2.2.1 C.en.2.2.2.2.1.2.1 th_PG_92a th_PG_92b th_PG_92c hl.1 d_PG_put_10 d_PG_put_13 d_PG_put_14 d_PG_put_16 d_PG_put_19 (Nat.le_of_ble_eq_true rfl) (Nat.le_of_ble_eq_true rfl) (by decide) (by decide) (by decide) (by decide)
set_option maxHeartbeats 4000000 in
set_option maxRecDepth 100000 in
theorem x_PG_put2 (l : Launch) (hst : l.stackTraces = false) (d : DD) (g : Nat) (nk : Nat) (sd : Nat) (rc : Nat) (wk : Nat) (ph : Nat) (wh : Nat) (ch : Nat) (oh : Nat) (qh : Nat) (cc : Nat) (sl : Nat) (kwt : Int32) (kl : Int32) (ft : Int32) (pa : Nat) (ps : Nat) (pn : Nat) (pf : Nat → Int32) (pL : List Int32) (v : Int32) (n : Nat) (hn1 : 1 ≤ n) (hn4 : n ≤ 4) (hpn : pn ≤ 500) (hr : 500 < pn + n) : Ty l y_PG_put b_PG_put 4 (some .int) 6 82 d [(g, ob 0 [.ref nk, .ref sd, .ref rc, .ref wk, .int kwt, .ref ph, .ref wh, .ref ch, .ref oh, .ref qh, .ref cc, .ref sl, .int kl, .int ft]), (ph, ob 2 [.ref pa, .int (nI ps), .int (nI pn)]), (pa, aB d 500 pf)] [.ref g, .int v, .int (nI n)] xS := by
  refine Ty.of (by decide +kernel) (Nat.le_of_ble_eq_true rfl) ?_
  intro p e s m below meth c A ls C ht hP hD hS hl
  have hl : lv_has ls 4 [(0, .ref g), (1, .int v), (2, .int (nI n))] := hl
  have hsz9 := hS.1
  refine lv_iload_n C.x C.b d_PG_put_0 rfl (lv_at hl 2 rfl) ?_
  refine lv_iconst (v := nI 1) C.x C.b d_PG_put_1 (by decide) ?_
  refine lv_icmp_lt (tgt := 10) C.x C.b d_PG_put_2 (by decide) (fun h9 => False.elim (nI_nlt (by omega) (by omega) h9)) (fun hc_1 => ?_)
  rw [nI_ltI (by omega) (by omega)] at hc_1
  refine lv_iload_n C.x C.b d_PG_put_5 rfl (lv_at hl 2 rfl) ?_
  refine lv_iconst (v := nI 4) C.x C.b d_PG_put_6 (by decide) ?_
  refine lv_icmp_le (tgt := 20) C.x C.b d_PG_put_7 (by decide) (fun hc_2 => ?_) (fun h9 => False.elim (h9 (nI_le (by omega) (by omega))))
  rw [nI_leI (by omega) (by omega)] at hc_2
  refine lv_aload_n C.x C.b d_PG_put_20 rfl (lv_at hl 0 rfl) ?_
  refine k_get C hP 0 rfl rfl i_PG 5 (by decide) m_119 rfl d_PG_put_21 ?_
  refine k_callV (As := []) (rest := []) (wc := [(ph, ob 2 [.ref pa, .int (nI ps), .int (nI pn)]), (pa, aB d 500 pf)]) (wr := [(g, ob 0 [.ref nk, .ref sd, .ref rc, .ref wk, .int kwt, .ref ph, .ref wh, .ref ch, .ref oh, .ref qh, .ref cc, .ref sl, .int kl, .int ft])]) C (c_BQ_size l d ph pa 500 ps pn pf) mw_BQ_size m_163 m_161 hP hD hS [1, 2] [0] rfl rfl (by decide) (by decide) (by decide) 1 rfl rfl rfl rfl hl.1 (Nat.le_of_ble_eq_true rfl) d_PG_put_24 ⟨Nat.le_of_ble_eq_true rfl, Nat.le_of_ble_eq_true rfl⟩ ⟨by decide, by decide⟩ (fun _ H locs hw_3 hP hD hS => ?_)
  have hP : va_P d.1 clz [(g, ob 0 [.ref nk, .ref sd, .ref rc, .ref wk, .int kwt, .ref ph, .ref wh, .ref ch, .ref oh, .ref qh, .ref cc, .ref sl, .int kl, .int ft]), (ph, ob 2 [.ref pa, .int (nI ps), .int (nI pn)]), (pa, aB d 500 pf)] H := hP
  have hD : va_D A [(g, ob 0 [.ref nk, .ref sd, .ref rc, .ref wk, .int kwt, .ref ph, .ref wh, .ref ch, .ref oh, .ref qh, .ref cc, .ref sl, .int kl, .int ft]), (ph, ob 2 [.ref pa, .int (nI ps), .int (nI pn)]), (pa, aB d 500 pf)] := hD
  refine W.eq (g2 := F0 m 27 ls [.int (nI pn)]) rfl ?_
  refine lv_iload_n C.x C.b d_PG_put_27 rfl (lv_at hl 2 rfl) ?_
  refine lv_iadd C.x C.b d_PG_put_28 ?_
  refine k_top (y := nI (pn + n)) (nI_add _ _) ?_
  refine lv_sipush (v := nI 500) C.x C.b d_PG_put_29 (by decide) ?_
  refine lv_icmp_le (tgt := 45) C.x C.b d_PG_put_32 (by decide) (fun h9 => False.elim (nI_ge (by omega) (by omega) h9)) (fun hc_4 => ?_)
  rw [nI_leI (by omega) (by omega)] at hc_4
  have hP9 := hP.sub (ws' := [(g, ob 0 [.ref nk, .ref sd, .ref rc, .ref wk, .int kwt, .ref ph, .ref wh, .ref ch, .ref oh, .ref qh, .ref cc, .ref sl, .int kl, .int ft]), (ph, ob 2 [.ref pa, .int (nI ps), .int (nI pn)]), (pa, aB d 500 pf)]) [0, 1, 2] rfl
  exact k_thr (E := xS) (ik := 99) (is := 101) (ic := 103) C ht hst hP9 hS (by decide +kernel) m_488 m_15 C.en.2.2.2.2.2.1.2.2.2.2.1 C.en.2.2.2.2.1.2.2 th_PG_103a th_PG_103b th_PG_103c hl.1 d_PG_put_35 d_PG_put_38 d_PG_put_39 d_PG_put_41 d_PG_put_44 (Nat.le_of_ble_eq_true rfl) (Nat.le_of_ble_eq_true rfl) (by decide) (by decide) (by decide) (by decide)
set_option maxHeartbeats 4000000 in
set_option maxRecDepth 100000 in
theorem x_PG_link1 (l : Launch) (hst : l.stackTraces = false) (d : DD) (g : Nat) (nk : Nat) (sd : Nat) (rc : Nat) (wk : Nat) (ph : Nat) (wh : Nat) (ch : Nat) (oh : Nat) (qh : Nat) (cc : Nat) (sl : Nat) (kwt : Int32) (kl : Int32) (ft : Int32) (n : Int32) (hbad : n < 0) : Ty l y_PG_link b_PG_link 4 (some .int) 6 82 d [(g, ob 0 [.ref nk, .ref sd, .ref rc, .ref wk, .int kwt, .ref ph, .ref wh, .ref ch, .ref oh, .ref qh, .ref cc, .ref sl, .int kl, .int ft])] [.ref g, .int n] xA := by
  refine Ty.of (by decide +kernel) (Nat.le_of_ble_eq_true rfl) ?_
  intro p e s m below meth c A ls C ht hP hD hS hl
  have hl : lv_has ls 4 [(0, .ref g), (1, .int n)] := hl
  have hsz9 := hS.1
  refine lv_iload_n C.x C.b d_PG_link_0 rfl (lv_at hl 1 rfl) ?_
  refine lv_if_ge (tgt := 14) C.x C.b d_PG_link_1 (by decide) (fun h9 => False.elim (Int32.not_le.mpr hbad h9)) (fun hc_1 => ?_)
  have hP9 := hP.sub (ws' := [(g, ob 0 [.ref nk, .ref sd, .ref rc, .ref wk, .int kwt, .ref ph, .ref wh, .ref ch, .ref oh, .ref qh, .ref cc, .ref sl, .int kl, .int ft])]) [0] rfl
  exact k_thr (E := xA) (ik := 88) (is := 121) (ic := 92) C ht hst hP9 hS (by decide +kernel) m_472 m_14 C.en.2.2.2.2.2.1.2.2.2.2.2.2.1 C.en.2.2.2.2.1.2.1 th_PG_92a th_PG_92b th_PG_92c hl.1 d_PG_link_4 d_PG_link_7 d_PG_link_8 d_PG_link_10 d_PG_link_13 (Nat.le_of_ble_eq_true rfl) (Nat.le_of_ble_eq_true rfl) (by decide) (by decide) (by decide) (by decide)
set_option maxHeartbeats 4000000 in
set_option maxRecDepth 100000 in
theorem x_PG_link2 (l : Launch) (hst : l.stackTraces = false) (d : DD) (g : Nat) (nk : Nat) (sd : Nat) (rc : Nat) (wk : Nat) (ph : Nat) (wh : Nat) (ch : Nat) (oh : Nat) (qh : Nat) (cc : Nat) (sl : Nat) (kwt : Int32) (kl : Int32) (ft : Int32) (wa : Nat) (ws : Nat) (wn : Nat) (wf : Nat → Int32) (wL : List Int32) (ca : Nat) (cs : Nat) (cn : Nat) (cf : Nat → Int32) (cL : List Int32) (n : Nat) (hwn : wn ≤ 6000) (hcn : cn ≤ 2000) (hn : n < 2 ^ 31) (hr : 2000 < cn + min n wn) : Ty l y_PG_link b_PG_link 4 (some .int) 6 82 d [(g, ob 0 [.ref nk, .ref sd, .ref rc, .ref wk, .int kwt, .ref ph, .ref wh, .ref ch, .ref oh, .ref qh, .ref cc, .ref sl, .int kl, .int ft]), (wh, ob 2 [.ref wa, .int (nI ws), .int (nI wn)]), (wa, aB d 6000 wf), (ch, ob 2 [.ref ca, .int (nI cs), .int (nI cn)]), (ca, aB d 2000 cf)] [.ref g, .int (nI n)] xS := by
  refine Ty.of (by decide +kernel) (Nat.le_of_ble_eq_true rfl) ?_
  intro p e s m below meth c A ls C ht hP hD hS hl
  have hl : lv_has ls 4 [(0, .ref g), (1, .int (nI n))] := hl
  have hsz9 := hS.1
  have hmn : min n wn ≤ wn := Nat.min_le_right _ _
  refine lv_iload_n C.x C.b d_PG_link_0 rfl (lv_at hl 1 rfl) ?_
  refine lv_if_ge (tgt := 14) C.x C.b d_PG_link_1 (by decide) (fun hc_1 => ?_) (fun h9 => False.elim (h9 (nI_pos' (by omega))))
  refine lv_iload_n C.x C.b d_PG_link_14 rfl (lv_at hl 1 rfl) ?_
  refine lv_aload_n C.x C.b d_PG_link_15 rfl (lv_at hl 0 rfl) ?_
  refine k_get C hP 0 rfl rfl i_PG 6 (by decide) m_120 rfl d_PG_link_16 ?_
  refine k_callV (As := []) (rest := [.int (nI n)]) (wc := [(wh, ob 2 [.ref wa, .int (nI ws), .int (nI wn)]), (wa, aB d 6000 wf)]) (wr := [(g, ob 0 [.ref nk, .ref sd, .ref rc, .ref wk, .int kwt, .ref ph, .ref wh, .ref ch, .ref oh, .ref qh, .ref cc, .ref sl, .int kl, .int ft]), (ch, ob 2 [.ref ca, .int (nI cs), .int (nI cn)]), (ca, aB d 2000 cf)]) C (c_BQ_size l d wh wa 6000 ws wn wf) mw_BQ_size m_163 m_161 hP hD hS [1, 2] [0, 3, 4] rfl rfl (by decide) (by decide) (by decide) 1 rfl rfl rfl rfl hl.1 (Nat.le_of_ble_eq_true rfl) d_PG_link_19 ⟨Nat.le_of_ble_eq_true rfl, Nat.le_of_ble_eq_true rfl⟩ ⟨by decide, by decide⟩ (fun _ H locs hw_2 hP hD hS => ?_)
  have hP : va_P d.1 clz [(g, ob 0 [.ref nk, .ref sd, .ref rc, .ref wk, .int kwt, .ref ph, .ref wh, .ref ch, .ref oh, .ref qh, .ref cc, .ref sl, .int kl, .int ft]), (ch, ob 2 [.ref ca, .int (nI cs), .int (nI cn)]), (ca, aB d 2000 cf), (wh, ob 2 [.ref wa, .int (nI ws), .int (nI wn)]), (wa, aB d 6000 wf)] H := hP
  have hD : va_D A [(g, ob 0 [.ref nk, .ref sd, .ref rc, .ref wk, .int kwt, .ref ph, .ref wh, .ref ch, .ref oh, .ref qh, .ref cc, .ref sl, .int kl, .int ft]), (ch, ob 2 [.ref ca, .int (nI cs), .int (nI cn)]), (ca, aB d 2000 cf), (wh, ob 2 [.ref wa, .int (nI ws), .int (nI wn)]), (wa, aB d 6000 wf)] := hD
  refine W.eq (g2 := F0 m 22 ls [.int (nI wn), .int (nI n)]) rfl ?_
  refine k_callS (As := [.int (nI n), .int (nI wn)]) (rest := []) (wc := []) (wr := [(g, ob 0 [.ref nk, .ref sd, .ref rc, .ref wk, .int kwt, .ref ph, .ref wh, .ref ch, .ref oh, .ref qh, .ref cc, .ref sl, .int kl, .int ft]), (ch, ob 2 [.ref ca, .int (nI cs), .int (nI cn)]), (ca, aB d 2000 cf), (wh, ob 2 [.ref wa, .int (nI ws), .int (nI wn)]), (wa, aB d 6000 wf)]) C (c_JM_min l d n wn (by omega) (by omega)) mw_JM_min m_552 hP hD hS [] [0, 1, 2, 3, 4] rfl rfl (by decide) (by decide) (by decide) rfl hl.1 (Nat.le_of_ble_eq_true rfl) d_PG_link_22 ⟨Nat.le_of_ble_eq_true rfl, Nat.le_of_ble_eq_true rfl⟩ ⟨by decide, by decide⟩ (fun _ H locs hw_3 hP hD hS => ?_)
  have hP : va_P d.1 clz [(g, ob 0 [.ref nk, .ref sd, .ref rc, .ref wk, .int kwt, .ref ph, .ref wh, .ref ch, .ref oh, .ref qh, .ref cc, .ref sl, .int kl, .int ft]), (ch, ob 2 [.ref ca, .int (nI cs), .int (nI cn)]), (ca, aB d 2000 cf), (wh, ob 2 [.ref wa, .int (nI ws), .int (nI wn)]), (wa, aB d 6000 wf)] H := hP
  have hD : va_D A [(g, ob 0 [.ref nk, .ref sd, .ref rc, .ref wk, .int kwt, .ref ph, .ref wh, .ref ch, .ref oh, .ref qh, .ref cc, .ref sl, .int kl, .int ft]), (ch, ob 2 [.ref ca, .int (nI cs), .int (nI cn)]), (ca, aB d 2000 cf), (wh, ob 2 [.ref wa, .int (nI ws), .int (nI wn)]), (wa, aB d 6000 wf)] := hD
  refine W.eq (g2 := F0 m 25 ls [.int (nI (min n wn))]) rfl ?_
  refine lv_istore_n (lv' := [(2, .int (nI (min n wn))), (0, .ref g), (1, .int (nI n))]) C.x C.b d_PG_link_25 rfl hl (by decide) rfl (fun ls hl => ?_)
  refine lv_aload_n C.x C.b d_PG_link_26 rfl (lv_at hl 1 rfl) ?_
  refine k_get C hP 0 rfl rfl i_PG 7 (by decide) m_121 rfl d_PG_link_27 ?_
  refine k_callV (As := []) (rest := []) (wc := [(ch, ob 2 [.ref ca, .int (nI cs), .int (nI cn)]), (ca, aB d 2000 cf)]) (wr := [(g, ob 0 [.ref nk, .ref sd, .ref rc, .ref wk, .int kwt, .ref ph, .ref wh, .ref ch, .ref oh, .ref qh, .ref cc, .ref sl, .int kl, .int ft]), (wh, ob 2 [.ref wa, .int (nI ws), .int (nI wn)]), (wa, aB d 6000 wf)]) C (c_BQ_size l d ch ca 2000 cs cn cf) mw_BQ_size m_163 m_161 hP hD hS [1, 2] [0, 3, 4] rfl rfl (by decide) (by decide) (by decide) 1 rfl rfl rfl rfl hl.1 (Nat.le_of_ble_eq_true rfl) d_PG_link_30 ⟨Nat.le_of_ble_eq_true rfl, Nat.le_of_ble_eq_true rfl⟩ ⟨by decide, by decide⟩ (fun _ H locs hw_4 hP hD hS => ?_)
  have hP : va_P d.1 clz [(g, ob 0 [.ref nk, .ref sd, .ref rc, .ref wk, .int kwt, .ref ph, .ref wh, .ref ch, .ref oh, .ref qh, .ref cc, .ref sl, .int kl, .int ft]), (wh, ob 2 [.ref wa, .int (nI ws), .int (nI wn)]), (wa, aB d 6000 wf), (ch, ob 2 [.ref ca, .int (nI cs), .int (nI cn)]), (ca, aB d 2000 cf)] H := hP
  have hD : va_D A [(g, ob 0 [.ref nk, .ref sd, .ref rc, .ref wk, .int kwt, .ref ph, .ref wh, .ref ch, .ref oh, .ref qh, .ref cc, .ref sl, .int kl, .int ft]), (wh, ob 2 [.ref wa, .int (nI ws), .int (nI wn)]), (wa, aB d 6000 wf), (ch, ob 2 [.ref ca, .int (nI cs), .int (nI cn)]), (ca, aB d 2000 cf)] := hD
  refine W.eq (g2 := F0 m 33 ls [.int (nI cn)]) rfl ?_
  refine lv_iload_n C.x C.b d_PG_link_33 rfl (lv_at hl 0 rfl) ?_
  refine lv_iadd C.x C.b d_PG_link_34 ?_
  refine k_top (y := nI (cn + (min n wn))) (nI_add _ _) ?_
  refine lv_sipush (v := nI 2000) C.x C.b d_PG_link_35 (by decide) ?_
  refine lv_icmp_le (tgt := 51) C.x C.b d_PG_link_38 (by decide) (fun h9 => False.elim (nI_ge (by omega) (by omega) h9)) (fun hc_5 => ?_)
  rw [nI_leI (by omega) (by omega)] at hc_5
  have hP9 := hP.sub (ws' := [(g, ob 0 [.ref nk, .ref sd, .ref rc, .ref wk, .int kwt, .ref ph, .ref wh, .ref ch, .ref oh, .ref qh, .ref cc, .ref sl, .int kl, .int ft]), (wh, ob 2 [.ref wa, .int (nI ws), .int (nI wn)]), (wa, aB d 6000 wf), (ch, ob 2 [.ref ca, .int (nI cs), .int (nI cn)]), (ca, aB d 2000 cf)]) [0, 1, 2, 3, 4] rfl
  exact k_thr (E := xS) (ik := 99) (is := 129) (ic := 103) C ht hst hP9 hS (by decide +kernel) m_488 m_15 C.en.2.2.2.2.2.1.2.2.2.2.2.2.2 C.en.2.2.2.2.1.2.2 th_PG_103a th_PG_103b th_PG_103c hl.1 d_PG_link_41 d_PG_link_44 d_PG_link_45 d_PG_link_47 d_PG_link_50 (Nat.le_of_ble_eq_true rfl) (Nat.le_of_ble_eq_true rfl) (by decide) (by decide) (by decide) (by decide)
set_option maxHeartbeats 4000000 in
set_option maxRecDepth 100000 in
theorem x_PG_ship (l : Launch) (hst : l.stackTraces = false) (d : DD) (g : Nat) (nk : Nat) (sd : Nat) (rc : Nat) (wk : Nat) (ph : Nat) (wh : Nat) (ch : Nat) (oh : Nat) (qh : Nat) (cc : Nat) (sl : Nat) (kwt : Int32) (kl : Int32) (ft : Int32) (pa : Nat) (ps : Nat) (pn : Nat) (pf : Nat → Int32) (pL : List Int32) (wa : Nat) (ws : Nat) (wn : Nat) (wf : Nat → Int32) (wL : List Int32) (told : Int32) (pads : Int32) (fp : Int32) (hpn : pn ≤ 500) (hwn : wn ≤ 6000) (hr : 6000 < wn + (5 + pn + padn pn + 32)) : Ty l y_PG_ship b_PG_ship 7 (some .int) 6 82 d [(g, ob 0 [.ref nk, .ref sd, .ref rc, .ref wk, .int kwt, .ref ph, .ref wh, .ref ch, .ref oh, .ref qh, .ref cc, .ref sl, .int kl, .int ft]), (ph, ob 2 [.ref pa, .int (nI ps), .int (nI pn)]), (pa, aB d 500 pf), (wh, ob 2 [.ref wa, .int (nI ws), .int (nI wn)]), (wa, aB d 6000 wf)] [.ref g, .int told, .int pads, .int fp] xS := by
  refine Ty.of (by decide +kernel) (Nat.le_of_ble_eq_true rfl) ?_
  intro p e s m below meth c A ls C ht hP hD hS hl
  have hl : lv_has ls 7 [(0, .ref g), (1, .int told), (2, .int pads), (3, .int fp)] := hl
  have hsz9 := hS.1
  have hpl9 := padn_le pn
  refine lv_aload_n C.x C.b d_PG_ship_0 rfl (lv_at hl 0 rfl) ?_
  refine k_get C hP 0 rfl rfl i_PG 5 (by decide) m_119 rfl d_PG_ship_1 ?_
  refine k_callV (As := []) (rest := []) (wc := [(ph, ob 2 [.ref pa, .int (nI ps), .int (nI pn)]), (pa, aB d 500 pf)]) (wr := [(g, ob 0 [.ref nk, .ref sd, .ref rc, .ref wk, .int kwt, .ref ph, .ref wh, .ref ch, .ref oh, .ref qh, .ref cc, .ref sl, .int kl, .int ft]), (wh, ob 2 [.ref wa, .int (nI ws), .int (nI wn)]), (wa, aB d 6000 wf)]) C (c_BQ_size l d ph pa 500 ps pn pf) mw_BQ_size m_163 m_161 hP hD hS [1, 2] [0, 3, 4] rfl rfl (by decide) (by decide) (by decide) 1 rfl rfl rfl rfl hl.1 (Nat.le_of_ble_eq_true rfl) d_PG_ship_4 ⟨Nat.le_of_ble_eq_true rfl, Nat.le_of_ble_eq_true rfl⟩ ⟨by decide, by decide⟩ (fun _ H locs hw_1 hP hD hS => ?_)
  have hP : va_P d.1 clz [(g, ob 0 [.ref nk, .ref sd, .ref rc, .ref wk, .int kwt, .ref ph, .ref wh, .ref ch, .ref oh, .ref qh, .ref cc, .ref sl, .int kl, .int ft]), (wh, ob 2 [.ref wa, .int (nI ws), .int (nI wn)]), (wa, aB d 6000 wf), (ph, ob 2 [.ref pa, .int (nI ps), .int (nI pn)]), (pa, aB d 500 pf)] H := hP
  have hD : va_D A [(g, ob 0 [.ref nk, .ref sd, .ref rc, .ref wk, .int kwt, .ref ph, .ref wh, .ref ch, .ref oh, .ref qh, .ref cc, .ref sl, .int kl, .int ft]), (wh, ob 2 [.ref wa, .int (nI ws), .int (nI wn)]), (wa, aB d 6000 wf), (ph, ob 2 [.ref pa, .int (nI ps), .int (nI pn)]), (pa, aB d 500 pf)] := hD
  refine W.eq (g2 := F0 m 7 ls [.int (nI pn)]) rfl ?_
  refine k_callS (As := [.int (nI pn)]) (rest := []) (wc := []) (wr := [(g, ob 0 [.ref nk, .ref sd, .ref rc, .ref wk, .int kwt, .ref ph, .ref wh, .ref ch, .ref oh, .ref qh, .ref cc, .ref sl, .int kl, .int ft]), (wh, ob 2 [.ref wa, .int (nI ws), .int (nI wn)]), (wa, aB d 6000 wf), (ph, ob 2 [.ref pa, .int (nI ps), .int (nI pn)]), (pa, aB d 500 pf)]) C (c_PG_paddingFor l d pn (by omega)) mw_PG_paddingFor m_512 hP hD hS [] [0, 1, 2, 3, 4] rfl rfl (by decide) (by decide) (by decide) rfl hl.1 (Nat.le_of_ble_eq_true rfl) d_PG_ship_7 ⟨Nat.le_of_ble_eq_true rfl, Nat.le_of_ble_eq_true rfl⟩ ⟨by decide, by decide⟩ (fun _ H locs hw_2 hP hD hS => ?_)
  have hP : va_P d.1 clz [(g, ob 0 [.ref nk, .ref sd, .ref rc, .ref wk, .int kwt, .ref ph, .ref wh, .ref ch, .ref oh, .ref qh, .ref cc, .ref sl, .int kl, .int ft]), (wh, ob 2 [.ref wa, .int (nI ws), .int (nI wn)]), (wa, aB d 6000 wf), (ph, ob 2 [.ref pa, .int (nI ps), .int (nI pn)]), (pa, aB d 500 pf)] H := hP
  have hD : va_D A [(g, ob 0 [.ref nk, .ref sd, .ref rc, .ref wk, .int kwt, .ref ph, .ref wh, .ref ch, .ref oh, .ref qh, .ref cc, .ref sl, .int kl, .int ft]), (wh, ob 2 [.ref wa, .int (nI ws), .int (nI wn)]), (wa, aB d 6000 wf), (ph, ob 2 [.ref pa, .int (nI ps), .int (nI pn)]), (pa, aB d 500 pf)] := hD
  refine W.eq (g2 := F0 m 10 ls [.int (nI (padn pn))]) rfl ?_
  refine lv_istore (lv' := [(4, .int (nI (padn pn))), (0, .ref g), (1, .int told), (2, .int pads), (3, .int fp)]) C.x C.b d_PG_ship_10 hl (by decide) rfl (fun ls hl => ?_)
  refine lv_iconst (v := nI 5) C.x C.b d_PG_ship_12 (by decide) ?_
  refine lv_aload_n C.x C.b d_PG_ship_13 rfl (lv_at hl 1 rfl) ?_
  refine k_get C hP 0 rfl rfl i_PG 5 (by decide) m_119 rfl d_PG_ship_14 ?_
  refine k_callV (As := []) (rest := [.int (nI 5)]) (wc := [(ph, ob 2 [.ref pa, .int (nI ps), .int (nI pn)]), (pa, aB d 500 pf)]) (wr := [(g, ob 0 [.ref nk, .ref sd, .ref rc, .ref wk, .int kwt, .ref ph, .ref wh, .ref ch, .ref oh, .ref qh, .ref cc, .ref sl, .int kl, .int ft]), (wh, ob 2 [.ref wa, .int (nI ws), .int (nI wn)]), (wa, aB d 6000 wf)]) C (c_BQ_size l d ph pa 500 ps pn pf) mw_BQ_size m_163 m_161 hP hD hS [3, 4] [0, 1, 2] rfl rfl (by decide) (by decide) (by decide) 3 rfl rfl rfl rfl hl.1 (Nat.le_of_ble_eq_true rfl) d_PG_ship_17 ⟨Nat.le_of_ble_eq_true rfl, Nat.le_of_ble_eq_true rfl⟩ ⟨by decide, by decide⟩ (fun _ H locs hw_3 hP hD hS => ?_)
  have hP : va_P d.1 clz [(g, ob 0 [.ref nk, .ref sd, .ref rc, .ref wk, .int kwt, .ref ph, .ref wh, .ref ch, .ref oh, .ref qh, .ref cc, .ref sl, .int kl, .int ft]), (wh, ob 2 [.ref wa, .int (nI ws), .int (nI wn)]), (wa, aB d 6000 wf), (ph, ob 2 [.ref pa, .int (nI ps), .int (nI pn)]), (pa, aB d 500 pf)] H := hP
  have hD : va_D A [(g, ob 0 [.ref nk, .ref sd, .ref rc, .ref wk, .int kwt, .ref ph, .ref wh, .ref ch, .ref oh, .ref qh, .ref cc, .ref sl, .int kl, .int ft]), (wh, ob 2 [.ref wa, .int (nI ws), .int (nI wn)]), (wa, aB d 6000 wf), (ph, ob 2 [.ref pa, .int (nI ps), .int (nI pn)]), (pa, aB d 500 pf)] := hD
  refine W.eq (g2 := F0 m 20 ls [.int (nI pn), .int (nI 5)]) rfl ?_
  refine lv_iadd C.x C.b d_PG_ship_20 ?_
  refine k_top (y := nI (5 + pn)) (nI_add _ _) ?_
  refine lv_iload C.x C.b d_PG_ship_21 (lv_at hl 0 rfl) ?_
  refine lv_iadd C.x C.b d_PG_ship_23 ?_
  refine k_top (y := nI (5 + pn + (padn pn))) (nI_add _ _) ?_
  refine lv_bipush (v := nI 32) C.x C.b d_PG_ship_24 (by decide) ?_
  refine lv_iadd C.x C.b d_PG_ship_26 ?_
  refine k_top (y := nI (5 + pn + (padn pn) + 32)) (nI_add _ _) ?_
  refine lv_istore (lv' := [(5, .int (nI (5 + pn + (padn pn) + 32))), (4, .int (nI (padn pn))), (0, .ref g), (1, .int told), (2, .int pads), (3, .int fp)]) C.x C.b d_PG_ship_27 hl (by decide) rfl (fun ls hl => ?_)
  refine lv_aload_n C.x C.b d_PG_ship_29 rfl (lv_at hl 2 rfl) ?_
  refine k_get C hP 0 rfl rfl i_PG 6 (by decide) m_120 rfl d_PG_ship_30 ?_
  refine k_callV (As := []) (rest := []) (wc := [(wh, ob 2 [.ref wa, .int (nI ws), .int (nI wn)]), (wa, aB d 6000 wf)]) (wr := [(g, ob 0 [.ref nk, .ref sd, .ref rc, .ref wk, .int kwt, .ref ph, .ref wh, .ref ch, .ref oh, .ref qh, .ref cc, .ref sl, .int kl, .int ft]), (ph, ob 2 [.ref pa, .int (nI ps), .int (nI pn)]), (pa, aB d 500 pf)]) C (c_BQ_size l d wh wa 6000 ws wn wf) mw_BQ_size m_163 m_161 hP hD hS [1, 2] [0, 3, 4] rfl rfl (by decide) (by decide) (by decide) 1 rfl rfl rfl rfl hl.1 (Nat.le_of_ble_eq_true rfl) d_PG_ship_33 ⟨Nat.le_of_ble_eq_true rfl, Nat.le_of_ble_eq_true rfl⟩ ⟨by decide, by decide⟩ (fun _ H locs hw_4 hP hD hS => ?_)
  have hP : va_P d.1 clz [(g, ob 0 [.ref nk, .ref sd, .ref rc, .ref wk, .int kwt, .ref ph, .ref wh, .ref ch, .ref oh, .ref qh, .ref cc, .ref sl, .int kl, .int ft]), (ph, ob 2 [.ref pa, .int (nI ps), .int (nI pn)]), (pa, aB d 500 pf), (wh, ob 2 [.ref wa, .int (nI ws), .int (nI wn)]), (wa, aB d 6000 wf)] H := hP
  have hD : va_D A [(g, ob 0 [.ref nk, .ref sd, .ref rc, .ref wk, .int kwt, .ref ph, .ref wh, .ref ch, .ref oh, .ref qh, .ref cc, .ref sl, .int kl, .int ft]), (ph, ob 2 [.ref pa, .int (nI ps), .int (nI pn)]), (pa, aB d 500 pf), (wh, ob 2 [.ref wa, .int (nI ws), .int (nI wn)]), (wa, aB d 6000 wf)] := hD
  refine W.eq (g2 := F0 m 36 ls [.int (nI wn)]) rfl ?_
  refine lv_iload C.x C.b d_PG_ship_36 (lv_at hl 0 rfl) ?_
  refine lv_iadd C.x C.b d_PG_ship_38 ?_
  refine k_top (y := nI (wn + (5 + pn + (padn pn) + 32))) (nI_add _ _) ?_
  refine lv_sipush (v := nI 6000) C.x C.b d_PG_ship_39 (by decide) ?_
  refine lv_icmp_le (tgt := 55) C.x C.b d_PG_ship_42 (by decide) (fun h9 => False.elim (nI_ge (by omega) (by omega) h9)) (fun hc_5 => ?_)
  rw [nI_leI (by omega) (by omega)] at hc_5
  have hP9 := hP.sub (ws' := [(g, ob 0 [.ref nk, .ref sd, .ref rc, .ref wk, .int kwt, .ref ph, .ref wh, .ref ch, .ref oh, .ref qh, .ref cc, .ref sl, .int kl, .int ft]), (ph, ob 2 [.ref pa, .int (nI ps), .int (nI pn)]), (pa, aB d 500 pf), (wh, ob 2 [.ref wa, .int (nI ws), .int (nI wn)]), (wa, aB d 6000 wf)]) [0, 1, 2, 3, 4] rfl
  exact k_thr (E := xS) (ik := 99) (is := 165) (ic := 103) C ht hst hP9 hS (by decide +kernel) m_488 m_15 C.en.2.2.2.2.2.1.2.2.2.2.2.1 C.en.2.2.2.2.1.2.2 th_PG_103a th_PG_103b th_PG_103c hl.1 d_PG_ship_45 d_PG_ship_48 d_PG_ship_49 d_PG_ship_51 d_PG_ship_54 (Nat.le_of_ble_eq_true rfl) (Nat.le_of_ble_eq_true rfl) (by decide) (by decide) (by decide) (by decide)
set_option maxHeartbeats 4000000 in
set_option maxRecDepth 100000 in
theorem x_PG_send (l : Launch) (hst : l.stackTraces = false) (d : DD) (g : Nat) (nk : Nat) (sd : Nat) (rc : Nat) (wk : Nat) (ph : Nat) (wh : Nat) (ch : Nat) (oh : Nat) (qh : Nat) (cc : Nat) (sl : Nat) (kwt : Int32) (kl : Int32) (ft : Int32) (pa : Nat) (ps : Nat) (pn : Nat) (pf : Nat → Int32) (pL : List Int32) (wa : Nat) (ws : Nat) (wn : Nat) (wf : Nat → Int32) (wL : List Int32) (fp : Int32) (hpn : pn ≤ 500) (hwn : wn ≤ 6000) (hr : 6000 < wn + (5 + pn + padn pn + 32)) : Ty l y_PG_send b_PG_send 3 (some .int) 7 108 d [(g, ob 0 [.ref nk, .ref sd, .ref rc, .ref wk, .int kwt, .ref ph, .ref wh, .ref ch, .ref oh, .ref qh, .ref cc, .ref sl, .int kl, .int ft]), (ph, ob 2 [.ref pa, .int (nI ps), .int (nI pn)]), (pa, aB d 500 pf), (wh, ob 2 [.ref wa, .int (nI ws), .int (nI wn)]), (wa, aB d 6000 wf)] [.ref g, .int fp] xS := by
  refine Ty.of (by decide +kernel) (Nat.le_of_ble_eq_true rfl) ?_
  intro p e s m below meth c A ls C ht hP hD hS hl
  have hl : lv_has ls 3 [(0, .ref g), (1, .int fp)] := hl
  have hsz9 := hS.1
  refine lv_aload_n C.x C.b d_PG_send_0 rfl (lv_at hl 0 rfl) ?_
  refine k_get C hP 0 rfl rfl i_PG 5 (by decide) m_119 rfl d_PG_send_1 ?_
  refine k_callV (As := []) (rest := []) (wc := [(ph, ob 2 [.ref pa, .int (nI ps), .int (nI pn)]), (pa, aB d 500 pf)]) (wr := [(g, ob 0 [.ref nk, .ref sd, .ref rc, .ref wk, .int kwt, .ref ph, .ref wh, .ref ch, .ref oh, .ref qh, .ref cc, .ref sl, .int kl, .int ft]), (wh, ob 2 [.ref wa, .int (nI ws), .int (nI wn)]), (wa, aB d 6000 wf)]) C (c_BQ_size l d ph pa 500 ps pn pf) mw_BQ_size m_163 m_161 hP hD hS [1, 2] [0, 3, 4] rfl rfl (by decide) (by decide) (by decide) 1 rfl rfl rfl rfl hl.1 (Nat.le_of_ble_eq_true rfl) d_PG_send_4 ⟨Nat.le_of_ble_eq_true rfl, Nat.le_of_ble_eq_true rfl⟩ ⟨by decide, by decide⟩ (fun _ H locs hw_1 hP hD hS => ?_)
  have hP : va_P d.1 clz [(g, ob 0 [.ref nk, .ref sd, .ref rc, .ref wk, .int kwt, .ref ph, .ref wh, .ref ch, .ref oh, .ref qh, .ref cc, .ref sl, .int kl, .int ft]), (wh, ob 2 [.ref wa, .int (nI ws), .int (nI wn)]), (wa, aB d 6000 wf), (ph, ob 2 [.ref pa, .int (nI ps), .int (nI pn)]), (pa, aB d 500 pf)] H := hP
  have hD : va_D A [(g, ob 0 [.ref nk, .ref sd, .ref rc, .ref wk, .int kwt, .ref ph, .ref wh, .ref ch, .ref oh, .ref qh, .ref cc, .ref sl, .int kl, .int ft]), (wh, ob 2 [.ref wa, .int (nI ws), .int (nI wn)]), (wa, aB d 6000 wf), (ph, ob 2 [.ref pa, .int (nI ps), .int (nI pn)]), (pa, aB d 500 pf)] := hD
  refine W.eq (g2 := F0 m 7 ls [.int (nI pn)]) rfl ?_
  refine k_callS (As := [.int (nI pn)]) (rest := []) (wc := []) (wr := [(g, ob 0 [.ref nk, .ref sd, .ref rc, .ref wk, .int kwt, .ref ph, .ref wh, .ref ch, .ref oh, .ref qh, .ref cc, .ref sl, .int kl, .int ft]), (wh, ob 2 [.ref wa, .int (nI ws), .int (nI wn)]), (wa, aB d 6000 wf), (ph, ob 2 [.ref pa, .int (nI ps), .int (nI pn)]), (pa, aB d 500 pf)]) C (c_PG_paddingFor l d pn (by omega)) mw_PG_paddingFor m_512 hP hD hS [] [0, 1, 2, 3, 4] rfl rfl (by decide) (by decide) (by decide) rfl hl.1 (Nat.le_of_ble_eq_true rfl) d_PG_send_7 ⟨Nat.le_of_ble_eq_true rfl, Nat.le_of_ble_eq_true rfl⟩ ⟨by decide, by decide⟩ (fun _ H locs hw_2 hP hD hS => ?_)
  have hP : va_P d.1 clz [(g, ob 0 [.ref nk, .ref sd, .ref rc, .ref wk, .int kwt, .ref ph, .ref wh, .ref ch, .ref oh, .ref qh, .ref cc, .ref sl, .int kl, .int ft]), (wh, ob 2 [.ref wa, .int (nI ws), .int (nI wn)]), (wa, aB d 6000 wf), (ph, ob 2 [.ref pa, .int (nI ps), .int (nI pn)]), (pa, aB d 500 pf)] H := hP
  have hD : va_D A [(g, ob 0 [.ref nk, .ref sd, .ref rc, .ref wk, .int kwt, .ref ph, .ref wh, .ref ch, .ref oh, .ref qh, .ref cc, .ref sl, .int kl, .int ft]), (wh, ob 2 [.ref wa, .int (nI ws), .int (nI wn)]), (wa, aB d 6000 wf), (ph, ob 2 [.ref pa, .int (nI ps), .int (nI pn)]), (pa, aB d 500 pf)] := hD
  refine W.eq (g2 := F0 m 10 ls [.int (nI (padn pn))]) rfl ?_
  refine lv_istore_n (lv' := [(2, .int (nI (padn pn))), (0, .ref g), (1, .int fp)]) C.x C.b d_PG_send_10 rfl hl (by decide) rfl (fun ls hl => ?_)
  refine lv_aload_n C.x C.b d_PG_send_11 rfl (lv_at hl 1 rfl) ?_
  refine lv_iconst (v := nI 1) C.x C.b d_PG_send_12 (by decide) ?_
  refine lv_aload_n C.x C.b d_PG_send_13 rfl (lv_at hl 1 rfl) ?_
  refine k_get C hP 0 rfl rfl i_PG 5 (by decide) m_119 rfl d_PG_send_14 ?_
  refine k_callV (As := []) (rest := [.int (nI 1), .ref g]) (wc := [(ph, ob 2 [.ref pa, .int (nI ps), .int (nI pn)]), (pa, aB d 500 pf)]) (wr := [(g, ob 0 [.ref nk, .ref sd, .ref rc, .ref wk, .int kwt, .ref ph, .ref wh, .ref ch, .ref oh, .ref qh, .ref cc, .ref sl, .int kl, .int ft]), (wh, ob 2 [.ref wa, .int (nI ws), .int (nI wn)]), (wa, aB d 6000 wf)]) C (c_BQ_size l d ph pa 500 ps pn pf) mw_BQ_size m_163 m_161 hP hD hS [3, 4] [0, 1, 2] rfl rfl (by decide) (by decide) (by decide) 3 rfl rfl rfl rfl hl.1 (Nat.le_of_ble_eq_true rfl) d_PG_send_17 ⟨Nat.le_of_ble_eq_true rfl, Nat.le_of_ble_eq_true rfl⟩ ⟨by decide, by decide⟩ (fun _ H locs hw_3 hP hD hS => ?_)
  have hP : va_P d.1 clz [(g, ob 0 [.ref nk, .ref sd, .ref rc, .ref wk, .int kwt, .ref ph, .ref wh, .ref ch, .ref oh, .ref qh, .ref cc, .ref sl, .int kl, .int ft]), (wh, ob 2 [.ref wa, .int (nI ws), .int (nI wn)]), (wa, aB d 6000 wf), (ph, ob 2 [.ref pa, .int (nI ps), .int (nI pn)]), (pa, aB d 500 pf)] H := hP
  have hD : va_D A [(g, ob 0 [.ref nk, .ref sd, .ref rc, .ref wk, .int kwt, .ref ph, .ref wh, .ref ch, .ref oh, .ref qh, .ref cc, .ref sl, .int kl, .int ft]), (wh, ob 2 [.ref wa, .int (nI ws), .int (nI wn)]), (wa, aB d 6000 wf), (ph, ob 2 [.ref pa, .int (nI ps), .int (nI pn)]), (pa, aB d 500 pf)] := hD
  refine W.eq (g2 := F0 m 20 ls [.int (nI pn), .int (nI 1), .ref g]) rfl ?_
  refine lv_iadd C.x C.b d_PG_send_20 ?_
  refine k_top (y := nI (1 + pn)) (nI_add _ _) ?_
  refine lv_iload_n C.x C.b d_PG_send_21 rfl (lv_at hl 0 rfl) ?_
  refine lv_iadd C.x C.b d_PG_send_22 ?_
  refine k_top (y := nI (1 + pn + (padn pn))) (nI_add _ _) ?_
  refine lv_iload_n C.x C.b d_PG_send_23 rfl (lv_at hl 0 rfl) ?_
  refine lv_iload_n C.x C.b d_PG_send_24 rfl (lv_at hl 2 rfl) ?_
  refine k_callXV (As := [.int (nI (1 + pn + (padn pn))), .int (nI (padn pn)), .int fp]) (rest := []) (wc := [(g, ob 0 [.ref nk, .ref sd, .ref rc, .ref wk, .int kwt, .ref ph, .ref wh, .ref ch, .ref oh, .ref qh, .ref cc, .ref sl, .int kl, .int ft]), (ph, ob 2 [.ref pa, .int (nI ps), .int (nI pn)]), (pa, aB d 500 pf), (wh, ob 2 [.ref wa, .int (nI ws), .int (nI wn)]), (wa, aB d 6000 wf)]) (wr := []) C (x_PG_ship l hst d g nk sd rc wk ph wh ch oh qh cc sl kwt kl ft pa ps pn pf pL wa ws wn wf wL (nI (1 + pn + padn pn)) (nI (padn pn)) fp (hpn) (hwn) (hr)) mw_PG_ship ms_17 m_516 hP hD hS [0, 3, 4, 1, 2] [] rfl rfl (by decide) (by decide) (by decide) 0 rfl rfl rfl rfl hl.1 (Nat.le_of_ble_eq_true rfl) d_PG_send_25 ⟨Nat.le_of_ble_eq_true rfl, Nat.le_of_ble_eq_true rfl⟩ ⟨by decide, by decide⟩ (fun q_5 ce H locs hP hD hS hce hcv hcl => ?_)
  have hP : va_P d.1 clz [(g, ob 0 [.ref nk, .ref sd, .ref rc, .ref wk, .int kwt, .ref ph, .ref wh, .ref ch, .ref oh, .ref qh, .ref cc, .ref sl, .int kl, .int ft]), (ph, ob 2 [.ref pa, .int (nI ps), .int (nI pn)]), (pa, aB d 500 pf), (wh, ob 2 [.ref wa, .int (nI ws), .int (nI wn)]), (wa, aB d 6000 wf)] H := hP
  have hD : va_D A [(g, ob 0 [.ref nk, .ref sd, .ref rc, .ref wk, .int kwt, .ref ph, .ref wh, .ref ch, .ref oh, .ref qh, .ref cc, .ref sl, .int kl, .int ft]), (ph, ob 2 [.ref pa, .int (nI ps), .int (nI pn)]), (pa, aB d 500 pf), (wh, ob 2 [.ref wa, .int (nI ws), .int (nI wn)]), (wa, aB d 6000 wf)] := hD
  have hP9 := hP.sub (ws' := [(g, ob 0 [.ref nk, .ref sd, .ref rc, .ref wk, .int kwt, .ref ph, .ref wh, .ref ch, .ref oh, .ref qh, .ref cc, .ref sl, .int kl, .int ft]), (ph, ob 2 [.ref pa, .int (nI ps), .int (nI pn)]), (pa, aB d 500 pf), (wh, ob 2 [.ref wa, .int (nI ws), .int (nI wn)]), (wa, aB d 6000 wf)]) [0, 1, 2, 3, 4] rfl
  exact k_outX C ht hP9 hS hce hcv hcl (by decide) (by decide)
set_option maxHeartbeats 4000000 in
set_option maxRecDepth 100000 in
theorem x_PG_forge (l : Launch) (hst : l.stackTraces = false) (d : DD) (g : Nat) (nk : Nat) (sd : Nat) (rc : Nat) (wk : Nat) (ph : Nat) (wh : Nat) (ch : Nat) (oh : Nat) (qh : Nat) (cc : Nat) (sl : Nat) (kwt : Int32) (kl : Int32) (ft : Int32) (pa : Nat) (ps : Nat) (pn : Nat) (pf : Nat → Int32) (pL : List Int32) (wa : Nat) (ws : Nat) (wn : Nat) (wf : Nat → Int32) (wL : List Int32) (told : Int32) (pads : Int32) (hpn : pn ≤ 500) (hwn : wn ≤ 6000) (hr : 6000 < wn + (5 + pn + padn pn + 32)) : Ty l y_PG_forge b_PG_forge 3 (some .int) 7 108 d [(g, ob 0 [.ref nk, .ref sd, .ref rc, .ref wk, .int kwt, .ref ph, .ref wh, .ref ch, .ref oh, .ref qh, .ref cc, .ref sl, .int kl, .int ft]), (ph, ob 2 [.ref pa, .int (nI ps), .int (nI pn)]), (pa, aB d 500 pf), (wh, ob 2 [.ref wa, .int (nI ws), .int (nI wn)]), (wa, aB d 6000 wf)] [.ref g, .int told, .int pads] xS := by
  refine Ty.of (by decide +kernel) (Nat.le_of_ble_eq_true rfl) ?_
  intro p e s m below meth c A ls C ht hP hD hS hl
  have hl : lv_has ls 3 [(0, .ref g), (1, .int told), (2, .int pads)] := hl
  have hsz9 := hS.1
  refine lv_aload_n C.x C.b d_PG_forge_0 rfl (lv_at hl 0 rfl) ?_
  refine lv_iload_n C.x C.b d_PG_forge_1 rfl (lv_at hl 1 rfl) ?_
  refine lv_iload_n C.x C.b d_PG_forge_2 rfl (lv_at hl 2 rfl) ?_
  refine lv_iconst (v := nI 0) C.x C.b d_PG_forge_3 (by decide) ?_
  refine k_callXV (As := [.int told, .int pads, .int (nI 0)]) (rest := []) (wc := [(g, ob 0 [.ref nk, .ref sd, .ref rc, .ref wk, .int kwt, .ref ph, .ref wh, .ref ch, .ref oh, .ref qh, .ref cc, .ref sl, .int kl, .int ft]), (ph, ob 2 [.ref pa, .int (nI ps), .int (nI pn)]), (pa, aB d 500 pf), (wh, ob 2 [.ref wa, .int (nI ws), .int (nI wn)]), (wa, aB d 6000 wf)]) (wr := []) C (x_PG_ship l hst d g nk sd rc wk ph wh ch oh qh cc sl kwt kl ft pa ps pn pf pL wa ws wn wf wL told pads (nI 0) (hpn) (hwn) (hr)) mw_PG_ship ms_17 m_516 hP hD hS [0, 1, 2, 3, 4] [] rfl rfl (by decide) (by decide) (by decide) 0 rfl rfl rfl rfl hl.1 (Nat.le_of_ble_eq_true rfl) d_PG_forge_4 ⟨Nat.le_of_ble_eq_true rfl, Nat.le_of_ble_eq_true rfl⟩ ⟨by decide, by decide⟩ (fun q_2 ce H locs hP hD hS hce hcv hcl => ?_)
  have hP : va_P d.1 clz [(g, ob 0 [.ref nk, .ref sd, .ref rc, .ref wk, .int kwt, .ref ph, .ref wh, .ref ch, .ref oh, .ref qh, .ref cc, .ref sl, .int kl, .int ft]), (ph, ob 2 [.ref pa, .int (nI ps), .int (nI pn)]), (pa, aB d 500 pf), (wh, ob 2 [.ref wa, .int (nI ws), .int (nI wn)]), (wa, aB d 6000 wf)] H := hP
  have hD : va_D A [(g, ob 0 [.ref nk, .ref sd, .ref rc, .ref wk, .int kwt, .ref ph, .ref wh, .ref ch, .ref oh, .ref qh, .ref cc, .ref sl, .int kl, .int ft]), (ph, ob 2 [.ref pa, .int (nI ps), .int (nI pn)]), (pa, aB d 500 pf), (wh, ob 2 [.ref wa, .int (nI ws), .int (nI wn)]), (wa, aB d 6000 wf)] := hD
  have hP9 := hP.sub (ws' := [(g, ob 0 [.ref nk, .ref sd, .ref rc, .ref wk, .int kwt, .ref ph, .ref wh, .ref ch, .ref oh, .ref qh, .ref cc, .ref sl, .int kl, .int ft]), (ph, ob 2 [.ref pa, .int (nI ps), .int (nI pn)]), (pa, aB d 500 pf), (wh, ob 2 [.ref wa, .int (nI ws), .int (nI wn)]), (wa, aB d 6000 wf)]) [0, 1, 2, 3, 4] rfl
  exact k_outX C ht hP9 hS hce hcv hcl (by decide) (by decide)
set_option maxHeartbeats 4000000 in
set_option maxRecDepth 100000 in
theorem x_PG_octet (l : Launch) (hst : l.stackTraces = false) (d : DD) (g : Nat) (nk : Nat) (sd : Nat) (rc : Nat) (wk : Nat) (ph : Nat) (wh : Nat) (ch : Nat) (oh : Nat) (qh : Nat) (cc : Nat) (sl : Nat) (kwt : Int32) (kl : Int32) (ft : Int32) (wa : Nat) (ws : Nat) (wn : Nat) (wf : Nat → Int32) (wL : List Int32) (i : Int32) (hbad : i < 0 ∨ nI wn ≤ i) : Ty l y_PG_octet b_PG_octet 2 (some .int) 8 124 d [(g, ob 0 [.ref nk, .ref sd, .ref rc, .ref wk, .int kwt, .ref ph, .ref wh, .ref ch, .ref oh, .ref qh, .ref cc, .ref sl, .int kl, .int ft]), (wh, ob 2 [.ref wa, .int (nI ws), .int (nI wn)]), (wa, aB d 6000 wf)] [.ref g, .int i] xI := by
  refine Ty.of (by decide +kernel) (Nat.le_of_ble_eq_true rfl) ?_
  intro p e s m below meth c A ls C ht hP hD hS hl
  have hl : lv_has ls 2 [(0, .ref g), (1, .int i)] := hl
  have hsz9 := hS.1
  refine lv_aload_n C.x C.b d_PG_octet_0 rfl (lv_at hl 0 rfl) ?_
  refine k_get C hP 0 rfl rfl i_PG 6 (by decide) m_120 rfl d_PG_octet_1 ?_
  refine lv_iload_n C.x C.b d_PG_octet_4 rfl (lv_at hl 1 rfl) ?_
  refine k_callXV (As := [.int i]) (rest := []) (wc := [(wh, ob 2 [.ref wa, .int (nI ws), .int (nI wn)]), (wa, aB d 6000 wf)]) (wr := [(g, ob 0 [.ref nk, .ref sd, .ref rc, .ref wk, .int kwt, .ref ph, .ref wh, .ref ch, .ref oh, .ref qh, .ref cc, .ref sl, .int kl, .int ft])]) C (x_BQ_at l hst d wh wa 6000 ws wn wf i (hbad)) mw_BQ_at m_288 m_286 hP hD hS [1, 2] [0] rfl rfl (by decide) (by decide) (by decide) 1 rfl rfl rfl rfl hl.1 (Nat.le_of_ble_eq_true rfl) d_PG_octet_5 ⟨Nat.le_of_ble_eq_true rfl, Nat.le_of_ble_eq_true rfl⟩ ⟨by decide, by decide⟩ (fun q_2 ce H locs hP hD hS hce hcv hcl => ?_)
  have hP : va_P d.1 clz [(g, ob 0 [.ref nk, .ref sd, .ref rc, .ref wk, .int kwt, .ref ph, .ref wh, .ref ch, .ref oh, .ref qh, .ref cc, .ref sl, .int kl, .int ft]), (wh, ob 2 [.ref wa, .int (nI ws), .int (nI wn)]), (wa, aB d 6000 wf)] H := hP
  have hD : va_D A [(g, ob 0 [.ref nk, .ref sd, .ref rc, .ref wk, .int kwt, .ref ph, .ref wh, .ref ch, .ref oh, .ref qh, .ref cc, .ref sl, .int kl, .int ft]), (wh, ob 2 [.ref wa, .int (nI ws), .int (nI wn)]), (wa, aB d 6000 wf)] := hD
  have hP9 := hP.sub (ws' := [(g, ob 0 [.ref nk, .ref sd, .ref rc, .ref wk, .int kwt, .ref ph, .ref wh, .ref ch, .ref oh, .ref qh, .ref cc, .ref sl, .int kl, .int ft]), (wh, ob 2 [.ref wa, .int (nI ws), .int (nI wn)]), (wa, aB d 6000 wf)]) [0, 1, 2] rfl
  exact k_outX C ht hP9 hS hce hcv hcl (by decide) (by decide)
set_option maxHeartbeats 4000000 in
set_option maxRecDepth 100000 in
theorem x_PG_got (l : Launch) (hst : l.stackTraces = false) (d : DD) (g : Nat) (nk : Nat) (sd : Nat) (rc : Nat) (wk : Nat) (ph : Nat) (wh : Nat) (ch : Nat) (oh : Nat) (qh : Nat) (cc : Nat) (sl : Nat) (kwt : Int32) (kl : Int32) (ft : Int32) (oa : Nat) (os : Nat) (on : Nat) (of : Nat → Int32) (oL : List Int32) (i : Int32) (hbad : i < 0 ∨ nI on ≤ i) : Ty l y_PG_got b_PG_got 2 (some .int) 8 124 d [(g, ob 0 [.ref nk, .ref sd, .ref rc, .ref wk, .int kwt, .ref ph, .ref wh, .ref ch, .ref oh, .ref qh, .ref cc, .ref sl, .int kl, .int ft]), (oh, ob 2 [.ref oa, .int (nI os), .int (nI on)]), (oa, aB d 540 of)] [.ref g, .int i] xI := by
  refine Ty.of (by decide +kernel) (Nat.le_of_ble_eq_true rfl) ?_
  intro p e s m below meth c A ls C ht hP hD hS hl
  have hl : lv_has ls 2 [(0, .ref g), (1, .int i)] := hl
  have hsz9 := hS.1
  refine lv_aload_n C.x C.b d_PG_got_0 rfl (lv_at hl 0 rfl) ?_
  refine k_get C hP 0 rfl rfl i_PG 8 (by decide) m_122 rfl d_PG_got_1 ?_
  refine lv_iload_n C.x C.b d_PG_got_4 rfl (lv_at hl 1 rfl) ?_
  refine k_callXV (As := [.int i]) (rest := []) (wc := [(oh, ob 2 [.ref oa, .int (nI os), .int (nI on)]), (oa, aB d 540 of)]) (wr := [(g, ob 0 [.ref nk, .ref sd, .ref rc, .ref wk, .int kwt, .ref ph, .ref wh, .ref ch, .ref oh, .ref qh, .ref cc, .ref sl, .int kl, .int ft])]) C (x_BQ_at l hst d oh oa 540 os on of i (hbad)) mw_BQ_at m_288 m_286 hP hD hS [1, 2] [0] rfl rfl (by decide) (by decide) (by decide) 1 rfl rfl rfl rfl hl.1 (Nat.le_of_ble_eq_true rfl) d_PG_got_5 ⟨Nat.le_of_ble_eq_true rfl, Nat.le_of_ble_eq_true rfl⟩ ⟨by decide, by decide⟩ (fun q_2 ce H locs hP hD hS hce hcv hcl => ?_)
  have hP : va_P d.1 clz [(g, ob 0 [.ref nk, .ref sd, .ref rc, .ref wk, .int kwt, .ref ph, .ref wh, .ref ch, .ref oh, .ref qh, .ref cc, .ref sl, .int kl, .int ft]), (oh, ob 2 [.ref oa, .int (nI os), .int (nI on)]), (oa, aB d 540 of)] H := hP
  have hD : va_D A [(g, ob 0 [.ref nk, .ref sd, .ref rc, .ref wk, .int kwt, .ref ph, .ref wh, .ref ch, .ref oh, .ref qh, .ref cc, .ref sl, .int kl, .int ft]), (oh, ob 2 [.ref oa, .int (nI os), .int (nI on)]), (oa, aB d 540 of)] := hD
  have hP9 := hP.sub (ws' := [(g, ob 0 [.ref nk, .ref sd, .ref rc, .ref wk, .int kwt, .ref ph, .ref wh, .ref ch, .ref oh, .ref qh, .ref cc, .ref sl, .int kl, .int ft]), (oh, ob 2 [.ref oa, .int (nI os), .int (nI on)]), (oa, aB d 540 of)]) [0, 1, 2] rfl
  exact k_outX C ht hP9 hS hce hcv hcl (by decide) (by decide)
set_option maxHeartbeats 4000000 in
set_option maxRecDepth 100000 in
theorem x_PG_alter (l : Launch) (hst : l.stackTraces = false) (d : DD) (g : Nat) (nk : Nat) (sd : Nat) (rc : Nat) (wk : Nat) (ph : Nat) (wh : Nat) (ch : Nat) (oh : Nat) (qh : Nat) (cc : Nat) (sl : Nat) (kwt : Int32) (kl : Int32) (ft : Int32) (wa : Nat) (ws : Nat) (wn : Nat) (wf : Nat → Int32) (wL : List Int32) (i : Int32) (mk : Int32) (hbad : i < 0 ∨ nI wn ≤ i) : Ty l y_PG_alter b_PG_alter 3 none 8 125 d [(g, ob 0 [.ref nk, .ref sd, .ref rc, .ref wk, .int kwt, .ref ph, .ref wh, .ref ch, .ref oh, .ref qh, .ref cc, .ref sl, .int kl, .int ft]), (wh, ob 2 [.ref wa, .int (nI ws), .int (nI wn)]), (wa, aB d 6000 wf)] [.ref g, .int i, .int mk] xI := by
  refine Ty.of (by decide +kernel) (Nat.le_of_ble_eq_true rfl) ?_
  intro p e s m below meth c A ls C ht hP hD hS hl
  have hl : lv_has ls 3 [(0, .ref g), (1, .int i), (2, .int mk)] := hl
  have hsz9 := hS.1
  refine lv_aload_n C.x C.b d_PG_alter_0 rfl (lv_at hl 0 rfl) ?_
  refine k_get C hP 0 rfl rfl i_PG 6 (by decide) m_120 rfl d_PG_alter_1 ?_
  refine lv_iload_n C.x C.b d_PG_alter_4 rfl (lv_at hl 1 rfl) ?_
  refine lv_iload_n C.x C.b d_PG_alter_5 rfl (lv_at hl 2 rfl) ?_
  refine k_callXV (As := [.int i, .int mk]) (rest := []) (wc := [(wh, ob 2 [.ref wa, .int (nI ws), .int (nI wn)]), (wa, aB d 6000 wf)]) (wr := [(g, ob 0 [.ref nk, .ref sd, .ref rc, .ref wk, .int kwt, .ref ph, .ref wh, .ref ch, .ref oh, .ref qh, .ref cc, .ref sl, .int kl, .int ft])]) C (x_BQ_flip l hst d wh wa 6000 ws wn wf i mk (hbad)) mw_BQ_flip m_333 m_543 hP hD hS [1, 2] [0] rfl rfl (by decide) (by decide) (by decide) 1 rfl rfl rfl rfl hl.1 (Nat.le_of_ble_eq_true rfl) d_PG_alter_6 ⟨Nat.le_of_ble_eq_true rfl, Nat.le_of_ble_eq_true rfl⟩ ⟨by decide, by decide⟩ (fun q_2 ce H locs hP hD hS hce hcv hcl => ?_)
  have hP : va_P d.1 clz [(g, ob 0 [.ref nk, .ref sd, .ref rc, .ref wk, .int kwt, .ref ph, .ref wh, .ref ch, .ref oh, .ref qh, .ref cc, .ref sl, .int kl, .int ft]), (wh, ob 2 [.ref wa, .int (nI ws), .int (nI wn)]), (wa, aB d 6000 wf)] H := hP
  have hD : va_D A [(g, ob 0 [.ref nk, .ref sd, .ref rc, .ref wk, .int kwt, .ref ph, .ref wh, .ref ch, .ref oh, .ref qh, .ref cc, .ref sl, .int kl, .int ft]), (wh, ob 2 [.ref wa, .int (nI ws), .int (nI wn)]), (wa, aB d 6000 wf)] := hD
  have hP9 := hP.sub (ws' := [(g, ob 0 [.ref nk, .ref sd, .ref rc, .ref wk, .int kwt, .ref ph, .ref wh, .ref ch, .ref oh, .ref qh, .ref cc, .ref sl, .int kl, .int ft]), (wh, ob 2 [.ref wa, .int (nI ws), .int (nI wn)]), (wa, aB d 6000 wf)]) [0, 1, 2] rfl
  exact k_outX C ht hP9 hS hce hcv hcl (by decide) (by decide)
