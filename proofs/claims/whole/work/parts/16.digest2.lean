theorem rep_succ (i : Nat) : List.replicate (i + 1) (0 : Int32) = List.replicate i 0 ++ [0] := List.replicate_succ'
theorem dig_row {L : List Int32} {s w : Nat → Int32} {r : Nat} {a f : Nat → Int32} (hs : ∀ j, j < 8 → s j = hrows (pad L) r j) (hf : ∀ t, t < 16 → f t = roww (pad L) (64 * r) t) (hw : ∀ j, j < 64 → w j = wsc f j) (ha : ∀ j, j < 8 → a j = hmix s w j) : ∀ j, j < 8 → a j = hrows (pad L) (r + 1) j := by
  intro j hj
  rw [ha j hj]
  exact hmix_cg hs (fun i hi => by rw [hw i hi]; exact wsc_cg hf i hi) j hj
theorem mw_DG_digest : Mw y_DG_digest b_DG_digest 6 none 1 := ⟨m_363, m_8, m_361, by decide +kernel⟩
set_option maxHeartbeats 4000000 in
set_option maxRecDepth 100000 in
theorem c_DG_digest (l : Launch) (d : DD) (h : Nat) (as : Nat) (aw : Nat) (fs : Nat → Int32) (fw : Nat → Int32) (qh : Nat) (qa : Nat) (cap : Nat) (st : Nat) (n : Nat) (fq : Nat → Int32) (L : List Int32) (hB : BQ cap fq st n L) (hcap : n + 9 + zer n ≤ cap) (hcp2 : cap < 10000) : Ct l y_DG_digest b_DG_digest 6 none 3 72 0 0 d [(h, ob 4 [.ref as, .ref aw]), (as, aI d 8 fs), (aw, aI d 64 fw), (qh, ob 2 [.ref qa, .int (nI st), .int (nI n)]), (qa, aB d cap fq)] [.ref h, .ref qh] (fun (u : (Nat → Int32) × (Nat → Int32) × (Nat → Int32)) => match u with | (f2, w2, g2) => none) (fun (u : (Nat → Int32) × (Nat → Int32) × (Nat → Int32)) => match u with | (f2, w2, g2) => (∀ j, j < 8 → f2 j = dig L j) ∧ BQ cap g2 st (n + 9 + zer n) (pad L)) (fun (u : (Nat → Int32) × (Nat → Int32) × (Nat → Int32)) => match u with | (f2, w2, g2) => [(h, ob 4 [.ref as, .ref aw]), (as, aI d 8 f2), (aw, aI d 64 w2), (qh, ob 2 [.ref qa, .int (nI st), .int (nI (n + 9 + zer n))]), (qa, aB d cap g2)]) := by
  refine Ct.of (by decide +kernel) (Nat.le_of_ble_eq_true rfl) ?_
  intro p e s m below meth c A ls C hP hD hS hl
  have hl : lv_has ls 6 [(0, .ref h), (1, .ref qh)] := hl
  have hsz9 := hS.1
  obtain ⟨hq1, hq2, hq3, hq4, hq5, hq6⟩ := id hB
  obtain ⟨tD, hDZ, hDT⟩ := C.en.2.2.2.2.2.2.2.2.1
  have hDN := C.en.2.2.2.1.2.1
  have hz9 := zer_le n
  obtain ⟨rows, hrw⟩ := zer_div n
  refine lv_bipush (v := nI 8) C.x C.b d_DG_digest_0 (by decide) ?_
  refine lv_aload_n C.x C.b d_DG_digest_2 rfl (lv_at hl 1 rfl) ?_
  refine k_callV (As := []) (rest := [.int (nI 8)]) (wc := [(qh, ob 2 [.ref qa, .int (nI st), .int (nI n)]), (qa, aB d cap fq)]) (wr := [(h, ob 4 [.ref as, .ref aw]), (as, aI d 8 fs), (aw, aI d 64 fw)]) C (c_BQ_size l d qh qa cap st n fq) mw_BQ_size m_163 m_364 hP hD hS [3, 4] [0, 1, 2] rfl rfl (by decide) (by decide) (by decide) 3 rfl rfl rfl rfl hl.1 (Nat.le_of_ble_eq_true rfl) d_DG_digest_3 ⟨Nat.le_of_ble_eq_true rfl, Nat.le_of_ble_eq_true rfl⟩ ⟨by decide, by decide⟩ (fun _ H locs hw_1 hP hD hS => ?_)
  have hP : va_P d.1 clz [(h, ob 4 [.ref as, .ref aw]), (as, aI d 8 fs), (aw, aI d 64 fw), (qh, ob 2 [.ref qa, .int (nI st), .int (nI n)]), (qa, aB d cap fq)] H := hP
  have hD : va_D A [(h, ob 4 [.ref as, .ref aw]), (as, aI d 8 fs), (aw, aI d 64 fw), (qh, ob 2 [.ref qa, .int (nI st), .int (nI n)]), (qa, aB d cap fq)] := hD
  refine W.eq (g2 := F0 m 6 ls [.int (nI n), .int (nI 8)]) rfl ?_
  refine lv_imul C.x C.b d_DG_digest_6 ?_
  refine k_top (y := nI (8 * n)) (pk_mul _ _) ?_
  refine lv_istore_n (lv' := [(2, .int (nI (8 * n))), (0, .ref h), (1, .ref qh)]) C.x C.b d_DG_digest_7 rfl hl (by decide) rfl (fun ls hl => ?_)
  refine lv_aload_n C.x C.b d_DG_digest_8 rfl (lv_at hl 2 rfl) ?_
  refine lv_sipush (v := nI 128) C.x C.b d_DG_digest_9 (by decide) ?_
  refine k_callV (As := [.int (nI 128)]) (rest := []) (wc := [(qh, ob 2 [.ref qa, .int (nI st), .int (nI n)]), (qa, aB d cap fq)]) (wr := [(h, ob 4 [.ref as, .ref aw]), (as, aI d 8 fs), (aw, aI d 64 fw)]) C (c_BQ_add l d qh qa cap st n fq L (nI 128) (hB) (by omega)) mw_BQ_add m_320 m_365 hP hD hS [3, 4] [0, 1, 2] rfl rfl (by decide) (by decide) (by decide) 3 rfl rfl rfl rfl hl.1 (Nat.le_of_ble_eq_true rfl) d_DG_digest_12 ⟨Nat.le_of_ble_eq_true rfl, Nat.le_of_ble_eq_true rfl⟩ ⟨by decide, by decide⟩ (fun g1 H locs hg1 hP hD hS => ?_)
  have hP : va_P d.1 clz [(h, ob 4 [.ref as, .ref aw]), (as, aI d 8 fs), (aw, aI d 64 fw), (qh, ob 2 [.ref qa, .int (nI st), .int (nI (n + 1))]), (qa, aB d cap g1)] H := hP
  have hD : va_D A [(h, ob 4 [.ref as, .ref aw]), (as, aI d 8 fs), (aw, aI d 64 fw), (qh, ob 2 [.ref qa, .int (nI st), .int (nI (n + 1))]), (qa, aB d cap g1)] := hD
  refine W.eq (g2 := F0 m 15 ls []) rfl ?_
  have hg1 : BQ cap g1 st (n + 1) (L ++ [(nI 128) &&& nI 255]) := hg1
  have hg1 : BQ cap g1 st (n + 1) (L ++ [nI 128]) := hg1
  refine lv_bipush (v := nI 56) C.x C.b d_DG_digest_15 (by decide) ?_
  refine lv_aload_n C.x C.b d_DG_digest_17 rfl (lv_at hl 2 rfl) ?_
  refine k_callV (As := []) (rest := [.int (nI 56)]) (wc := [(qh, ob 2 [.ref qa, .int (nI st), .int (nI (n + 1))]), (qa, aB d cap g1)]) (wr := [(h, ob 4 [.ref as, .ref aw]), (as, aI d 8 fs), (aw, aI d 64 fw)]) C (c_BQ_size l d qh qa cap st (n + 1) g1) mw_BQ_size m_163 m_364 hP hD hS [3, 4] [0, 1, 2] rfl rfl (by decide) (by decide) (by decide) 3 rfl rfl rfl rfl hl.1 (Nat.le_of_ble_eq_true rfl) d_DG_digest_18 ⟨Nat.le_of_ble_eq_true rfl, Nat.le_of_ble_eq_true rfl⟩ ⟨by decide, by decide⟩ (fun _ H locs hw_4 hP hD hS => ?_)
  have hP : va_P d.1 clz [(h, ob 4 [.ref as, .ref aw]), (as, aI d 8 fs), (aw, aI d 64 fw), (qh, ob 2 [.ref qa, .int (nI st), .int (nI (n + 1))]), (qa, aB d cap g1)] H := hP
  have hD : va_D A [(h, ob 4 [.ref as, .ref aw]), (as, aI d 8 fs), (aw, aI d 64 fw), (qh, ob 2 [.ref qa, .int (nI st), .int (nI (n + 1))]), (qa, aB d cap g1)] := hD
  refine W.eq (g2 := F0 m 21 ls [.int (nI (n + 1)), .int (nI 56)]) rfl ?_
  refine lv_isub C.x C.b d_DG_digest_21 ?_
  refine lv_bipush (v := nI 64) C.x C.b d_DG_digest_22 (by decide) ?_
  refine k_callS (As := [.int ((nI 56) - (nI (n + 1))), .int (nI 64)]) (rest := []) (wc := []) (wr := [(h, ob 4 [.ref as, .ref aw]), (as, aI d 8 fs), (aw, aI d 64 fw), (qh, ob 2 [.ref qa, .int (nI st), .int (nI (n + 1))]), (qa, aB d cap g1)]) C (c_JM_floorMod l d (nI 56 - nI (n + 1)) 64 (zer n) (by omega) (by omega) (fm_zer (by omega))) mw_JM_floorMod m_366 hP hD hS [] [0, 1, 2, 3, 4] rfl rfl (by decide) (by decide) (by decide) rfl hl.1 (Nat.le_of_ble_eq_true rfl) d_DG_digest_24 ⟨Nat.le_of_ble_eq_true rfl, Nat.le_of_ble_eq_true rfl⟩ ⟨by decide, by decide⟩ (fun _ H locs hw_5 hP hD hS => ?_)
  have hP : va_P d.1 clz [(h, ob 4 [.ref as, .ref aw]), (as, aI d 8 fs), (aw, aI d 64 fw), (qh, ob 2 [.ref qa, .int (nI st), .int (nI (n + 1))]), (qa, aB d cap g1)] H := hP
  have hD : va_D A [(h, ob 4 [.ref as, .ref aw]), (as, aI d 8 fs), (aw, aI d 64 fw), (qh, ob 2 [.ref qa, .int (nI st), .int (nI (n + 1))]), (qa, aB d cap g1)] := hD
  refine W.eq (g2 := F0 m 27 ls [.int (nI (zer n))]) rfl ?_
  refine lv_istore_n (lv' := [(3, .int (nI (zer n))), (2, .int (nI (8 * n))), (0, .ref h), (1, .ref qh)]) C.x C.b d_DG_digest_27 rfl hl (by decide) rfl (fun ls hl => ?_)
  refine lv_iconst (v := nI 0) C.x C.b d_DG_digest_28 (by decide) ?_
  refine lv_istore (lv' := [(4, .int (nI 0)), (3, .int (nI (zer n))), (2, .int (nI (8 * n))), (0, .ref h), (1, .ref qh)]) C.x C.b d_DG_digest_29 hl (by decide) rfl (fun ls hl => ?_)
  have L31 : ∀ (fuel : Nat) (i : Nat) (g9 : Nat → Int32), zer n - i < fuel → (i ≤ zer n) → (BQ cap g9 st (n + 1 + i) (L ++ [nI 128] ++ List.replicate i 0)) → ∀ (H : Heap) (locs : List Loc) (ls : Array Slot), va_P d.1 clz [(h, ob 4 [.ref as, .ref aw]), (as, aI d 8 fs), (aw, aI d 64 fw), (qh, ob 2 [.ref qa, .int (nI st), .int (nI (n + 1 + i))]), (qa, aB d cap g9)] H → va_D A [(h, ob 4 [.ref as, .ref aw]), (as, aI d 8 fs), (aw, aI d 64 fw), (qh, ob 2 [.ref qa, .int (nI st), .int (nI (n + 1 + i))]), (qa, aB d cap g9)] → va_S A s.heap H locs → lv_has ls 6 [(0, .ref h), (1, .ref qh), (2, .int (nI (8 * n))), (3, .int (nI (zer n))), (4, .int (nI i))] → W p l e (Rm 3 72 0 0) s m ([.ref h, .ref qh] : List Value).toArray below meth c H locs 0 0 (MQ below (Cout d A (fun (u : (Nat → Int32) × (Nat → Int32) × (Nat → Int32)) => match u with | (f2, w2, g2) => none) (fun (u : (Nat → Int32) × (Nat → Int32) × (Nat → Int32)) => match u with | (f2, w2, g2) => (∀ j, j < 8 → f2 j = dig L j) ∧ BQ cap g2 st (n + 9 + zer n) (pad L)) (fun (u : (Nat → Int32) × (Nat → Int32) × (Nat → Int32)) => match u with | (f2, w2, g2) => [(h, ob 4 [.ref as, .ref aw]), (as, aI d 8 f2), (aw, aI d 64 w2), (qh, ob 2 [.ref qa, .int (nI st), .int (nI (n + 9 + zer n))]), (qa, aB d cap g2)])) ([.ref h, .ref qh] : List Value).toArray s 0 0 A) (F0 m 31 ls []) := by
    intro fuel
    induction fuel with
    | zero => intro i g9 h9; exact absurd h9 (Nat.not_lt_zero _)
    | succ fuel ih31 =>
      intro i g9 hfu31 hi hg9 H locs ls hP hD hS hl
      refine lv_iload C.x C.b d_DG_digest_31 (lv_at hl 4 rfl) ?_
      refine lv_iload_n C.x C.b d_DG_digest_33 rfl (lv_at hl 3 rfl) ?_
      refine lv_icmp_ge (tgt := 48) C.x C.b d_DG_digest_34 (by decide) (fun hc34 => ?_) (fun hc34 => ?_)
      · rw [nI_leI (by omega) (by omega)] at hc34
        have ei : i = zer n := by omega
        rw [ei] at hg9 hP hD
        refine lv_aload_n C.x C.b d_DG_digest_48 rfl (lv_at hl 1 rfl) ?_
        refine lv_iconst (v := nI 0) C.x C.b d_DG_digest_49 (by decide) ?_
        refine k_callV (As := [.int (nI 0)]) (rest := []) (wc := [(qh, ob 2 [.ref qa, .int (nI st), .int (nI (n + 1 + zer n))]), (qa, aB d cap g9)]) (wr := [(h, ob 4 [.ref as, .ref aw]), (as, aI d 8 fs), (aw, aI d 64 fw)]) C (c_BQ_addWord l d qh qa cap st (n + 1 + zer n) g9 (L ++ [nI 128] ++ List.replicate (zer n) 0) (nI 0) (hg9) (by omega)) mw_BQ_addWord m_356 m_369 hP hD hS [3, 4] [0, 1, 2] rfl rfl (by decide) (by decide) (by decide) 3 rfl rfl rfl rfl hl.1 (Nat.le_of_ble_eq_true rfl) d_DG_digest_50 ⟨Nat.le_of_ble_eq_true rfl, Nat.le_of_ble_eq_true rfl⟩ ⟨by decide, by decide⟩ (fun g11 H locs hg11 hP hD hS => ?_)
        have hP : va_P d.1 clz [(h, ob 4 [.ref as, .ref aw]), (as, aI d 8 fs), (aw, aI d 64 fw), (qh, ob 2 [.ref qa, .int (nI st), .int (nI (n + 1 + zer n + 4))]), (qa, aB d cap g11)] H := hP
        have hD : va_D A [(h, ob 4 [.ref as, .ref aw]), (as, aI d 8 fs), (aw, aI d 64 fw), (qh, ob 2 [.ref qa, .int (nI st), .int (nI (n + 1 + zer n + 4))]), (qa, aB d cap g11)] := hD
        refine W.eq (g2 := F0 m 53 ls []) rfl ?_
        have hg11 : BQ cap g11 st (n + 1 + zer n + 4) (L ++ [nI 128] ++ List.replicate (zer n) 0 ++ wb (nI 0)) := hg11
        refine lv_aload_n C.x C.b d_DG_digest_53 rfl (lv_at hl 1 rfl) ?_
        refine lv_iload_n C.x C.b d_DG_digest_54 rfl (lv_at hl 2 rfl) ?_
        refine k_callV (As := [.int (nI (8 * n))]) (rest := []) (wc := [(qh, ob 2 [.ref qa, .int (nI st), .int (nI (n + 1 + zer n + 4))]), (qa, aB d cap g11)]) (wr := [(h, ob 4 [.ref as, .ref aw]), (as, aI d 8 fs), (aw, aI d 64 fw)]) C (c_BQ_addWord l d qh qa cap st (n + 1 + zer n + 4) g11 (L ++ [nI 128] ++ List.replicate (zer n) 0 ++ wb (nI 0)) (nI (8 * n)) (hg11) (by omega)) mw_BQ_addWord m_356 m_369 hP hD hS [3, 4] [0, 1, 2] rfl rfl (by decide) (by decide) (by decide) 3 rfl rfl rfl rfl hl.1 (Nat.le_of_ble_eq_true rfl) d_DG_digest_55 ⟨Nat.le_of_ble_eq_true rfl, Nat.le_of_ble_eq_true rfl⟩ ⟨by decide, by decide⟩ (fun g12 H locs hg12 hP hD hS => ?_)
        have hP : va_P d.1 clz [(h, ob 4 [.ref as, .ref aw]), (as, aI d 8 fs), (aw, aI d 64 fw), (qh, ob 2 [.ref qa, .int (nI st), .int (nI (n + 1 + zer n + 4 + 4))]), (qa, aB d cap g12)] H := hP
        have hD : va_D A [(h, ob 4 [.ref as, .ref aw]), (as, aI d 8 fs), (aw, aI d 64 fw), (qh, ob 2 [.ref qa, .int (nI st), .int (nI (n + 1 + zer n + 4 + 4))]), (qa, aB d cap g12)] := hD
        refine W.eq (g2 := F0 m 58 ls []) rfl ?_
        have hg12 : BQ cap g12 st (n + 1 + zer n + 4 + 4) (L ++ [nI 128] ++ List.replicate (zer n) 0 ++ wb (nI 0) ++ wb (nI (8 * n))) := hg12
        have hg13 : BQ cap g12 st (n + 9 + zer n) (pad L) := by rw [show n + 9 + zer n = n + 1 + zer n + 4 + 4 from by omega]; unfold pad; rw [hq3]; exact hg12
        rw [show n + 1 + zer n + 4 + 4 = n + 9 + zer n from by omega] at hP hD
        refine lv_iconst (v := nI 0) C.x C.b d_DG_digest_58 (by decide) ?_
        refine lv_istore (lv' := [(4, .int (nI 0)), (0, .ref h), (1, .ref qh), (2, .int (nI (8 * n))), (3, .int (nI (zer n)))]) C.x C.b d_DG_digest_59 hl (by decide) rfl (fun ls hl => ?_)
        have L61 : ∀ (fuel : Nat) (j : Nat) (s9 : Nat → Int32), 8 - j < fuel → (j ≤ 8) → (∀ i, i < j → s9 i = dgs i) → ∀ (H : Heap) (locs : List Loc) (ls : Array Slot), va_P d.1 clz [(h, ob 4 [.ref as, .ref aw]), (as, aI d 8 s9), (aw, aI d 64 fw), (qh, ob 2 [.ref qa, .int (nI st), .int (nI (n + 9 + zer n))]), (qa, aB d cap g12)] H → va_D A [(h, ob 4 [.ref as, .ref aw]), (as, aI d 8 s9), (aw, aI d 64 fw), (qh, ob 2 [.ref qa, .int (nI st), .int (nI (n + 9 + zer n))]), (qa, aB d cap g12)] → va_S A s.heap H locs → lv_has ls 6 [(0, .ref h), (1, .ref qh), (4, .int (nI j))] → W p l e (Rm 3 72 0 0) s m ([.ref h, .ref qh] : List Value).toArray below meth c H locs 0 0 (MQ below (Cout d A (fun (u : (Nat → Int32) × (Nat → Int32) × (Nat → Int32)) => match u with | (f2, w2, g2) => none) (fun (u : (Nat → Int32) × (Nat → Int32) × (Nat → Int32)) => match u with | (f2, w2, g2) => (∀ j, j < 8 → f2 j = dig L j) ∧ BQ cap g2 st (n + 9 + zer n) (pad L)) (fun (u : (Nat → Int32) × (Nat → Int32) × (Nat → Int32)) => match u with | (f2, w2, g2) => [(h, ob 4 [.ref as, .ref aw]), (as, aI d 8 f2), (aw, aI d 64 w2), (qh, ob 2 [.ref qa, .int (nI st), .int (nI (n + 9 + zer n))]), (qa, aB d cap g2)])) ([.ref h, .ref qh] : List Value).toArray s 0 0 A) (F0 m 61 ls []) := by
          intro fuel
          induction fuel with
          | zero => intro j s9 h9; exact absurd h9 (Nat.not_lt_zero _)
          | succ fuel ih61 =>
            intro j s9 hfu61 hj hs9 H locs ls hP hD hS hl
            refine lv_iload C.x C.b d_DG_digest_61 (lv_at hl 2 rfl) ?_
            refine lv_bipush (v := nI 8) C.x C.b d_DG_digest_63 (by decide) ?_
            refine lv_icmp_ge (tgt := 87) C.x C.b d_DG_digest_65 (by decide) (fun hc65 => ?_) (fun hc65 => ?_)
            · rw [nI_leI (by omega) (by omega)] at hc65
              refine lv_aload_n C.x C.b d_DG_digest_87 rfl (lv_at hl 1 rfl) ?_
              refine k_callV (As := []) (rest := []) (wc := [(qh, ob 2 [.ref qa, .int (nI st), .int (nI (n + 9 + zer n))]), (qa, aB d cap g12)]) (wr := [(h, ob 4 [.ref as, .ref aw]), (as, aI d 8 s9), (aw, aI d 64 fw)]) C (c_BQ_size l d qh qa cap st (n + 9 + zer n) g12) mw_BQ_size m_163 m_364 hP hD hS [3, 4] [0, 1, 2] rfl rfl (by decide) (by decide) (by decide) 3 rfl rfl rfl rfl hl.1 (Nat.le_of_ble_eq_true rfl) d_DG_digest_88 ⟨Nat.le_of_ble_eq_true rfl, Nat.le_of_ble_eq_true rfl⟩ ⟨by decide, by decide⟩ (fun _ H locs hw_12 hP hD hS => ?_)
              have hP : va_P d.1 clz [(h, ob 4 [.ref as, .ref aw]), (as, aI d 8 s9), (aw, aI d 64 fw), (qh, ob 2 [.ref qa, .int (nI st), .int (nI (n + 9 + zer n))]), (qa, aB d cap g12)] H := hP
              have hD : va_D A [(h, ob 4 [.ref as, .ref aw]), (as, aI d 8 s9), (aw, aI d 64 fw), (qh, ob 2 [.ref qa, .int (nI st), .int (nI (n + 9 + zer n))]), (qa, aB d cap g12)] := hD
              refine W.eq (g2 := F0 m 91 ls [.int (nI (n + 9 + zer n))]) rfl ?_
              refine lv_bipush (v := nI 64) C.x C.b d_DG_digest_91 (by decide) ?_
              refine lv_isub C.x C.b d_DG_digest_93 ?_
              refine k_top (y := nI ((n + 9 + zer n) - 64)) (pk_sub (by omega)) ?_
              refine lv_istore (lv' := [(4, .int (nI ((n + 9 + zer n) - 64))), (0, .ref h), (1, .ref qh)]) C.x C.b d_DG_digest_94 hl (by decide) rfl (fun ls hl => ?_)
              refine lv_iconst (v := nI 0) C.x C.b d_DG_digest_96 (by decide) ?_
              refine lv_istore (lv' := [(5, .int (nI 0)), (4, .int (nI ((n + 9 + zer n) - 64))), (0, .ref h), (1, .ref qh)]) C.x C.b d_DG_digest_97 hl (by decide) rfl (fun ls hl => ?_)
              have L99 : ∀ (fuel : Nat) (r : Nat) (s9 : Nat → Int32) (w9 : Nat → Int32), rows + 1 - r < fuel → (r ≤ rows + 1) → (∀ j, j < 8 → s9 j = hrows (pad L) r j) → ∀ (H : Heap) (locs : List Loc) (ls : Array Slot), va_P d.1 clz [(h, ob 4 [.ref as, .ref aw]), (as, aI d 8 s9), (aw, aI d 64 w9), (qh, ob 2 [.ref qa, .int (nI st), .int (nI (n + 9 + zer n))]), (qa, aB d cap g12)] H → va_D A [(h, ob 4 [.ref as, .ref aw]), (as, aI d 8 s9), (aw, aI d 64 w9), (qh, ob 2 [.ref qa, .int (nI st), .int (nI (n + 9 + zer n))]), (qa, aB d cap g12)] → va_S A s.heap H locs → lv_has ls 6 [(0, .ref h), (1, .ref qh), (4, .int (nI ((n + 9 + zer n) - 64))), (5, .int (nI (64 * r)))] → W p l e (Rm 3 72 0 0) s m ([.ref h, .ref qh] : List Value).toArray below meth c H locs 0 0 (MQ below (Cout d A (fun (u : (Nat → Int32) × (Nat → Int32) × (Nat → Int32)) => match u with | (f2, w2, g2) => none) (fun (u : (Nat → Int32) × (Nat → Int32) × (Nat → Int32)) => match u with | (f2, w2, g2) => (∀ j, j < 8 → f2 j = dig L j) ∧ BQ cap g2 st (n + 9 + zer n) (pad L)) (fun (u : (Nat → Int32) × (Nat → Int32) × (Nat → Int32)) => match u with | (f2, w2, g2) => [(h, ob 4 [.ref as, .ref aw]), (as, aI d 8 f2), (aw, aI d 64 w2), (qh, ob 2 [.ref qa, .int (nI st), .int (nI (n + 9 + zer n))]), (qa, aB d cap g2)])) ([.ref h, .ref qh] : List Value).toArray s 0 0 A) (F0 m 99 ls []) := by
                intro fuel
                induction fuel with
                | zero => intro r s9 w9 h9; exact absurd h9 (Nat.not_lt_zero _)
                | succ fuel ih99 =>
                  intro r s9 w9 hfu99 hr hs H locs ls hP hD hS hl
                  refine lv_iload C.x C.b d_DG_digest_99 (lv_at hl 3 rfl) ?_
                  refine lv_iload C.x C.b d_DG_digest_101 (lv_at hl 2 rfl) ?_
                  refine lv_icmp_gt (tgt := 127) C.x C.b d_DG_digest_103 (by decide) (fun hc103 => ?_) (fun hc103 => ?_)
                  · rw [nI_ltI (by omega) (by omega)] at hc103
                    have hP9 := hP.sub (ws' := [(h, ob 4 [.ref as, .ref aw]), (as, aI d 8 s9), (aw, aI d 64 w9), (qh, ob 2 [.ref qa, .int (nI st), .int (nI (n + 9 + zer n))]), (qa, aB d cap g12)]) [0, 1, 2, 3, 4] rfl
                    have hD9 := hD.sub (ws' := [(h, ob 4 [.ref as, .ref aw]), (as, aI d 8 s9), (aw, aI d 64 w9), (qh, ob 2 [.ref qa, .int (nI st), .int (nI (n + 9 + zer n))]), (qa, aB d cap g12)]) [0, 1, 2, 3, 4] (by decide) rfl
                    exact k_vret C hS (s9, w9, g12) (rfl) (⟨fun j hj => by rw [hs j hj]; unfold dig; rw [pad_len, hq3, show (n + 9 + zer n) / 64 = r from by omega], hg13⟩) hP9 hD9 d_DG_digest_127
                  · rw [nI_ltI (by omega) (by omega)] at hc103
                    refine lv_aload_n C.x C.b d_DG_digest_106 rfl (lv_at hl 0 rfl) ?_
                    refine lv_aload_n C.x C.b d_DG_digest_107 rfl (lv_at hl 1 rfl) ?_
                    refine lv_iload C.x C.b d_DG_digest_108 (lv_at hl 3 rfl) ?_
                    refine k_callV (As := [.ref qh, .int (nI (64 * r))]) (rest := []) (wc := [(h, ob 4 [.ref as, .ref aw]), (aw, aI d 64 w9), (qh, ob 2 [.ref qa, .int (nI st), .int (nI (n + 9 + zer n))]), (qa, aB d cap g12)]) (wr := [(as, aI d 8 s9)]) C (c_DG_readRow l d h as aw w9 qh qa cap st (n + 9 + zer n) g12 (pad L) (64 * r) (hg13) (by omega)) mw_DG_readRow ms_12 m_372 hP hD hS [0, 2, 3, 4] [1] rfl rfl (by decide) (by decide) (by decide) 0 rfl rfl rfl rfl hl.1 (Nat.le_of_ble_eq_true rfl) d_DG_digest_110 ⟨Nat.le_of_ble_eq_true rfl, Nat.le_of_ble_eq_true rfl⟩ ⟨by decide, by decide⟩ (fun w3 H locs hw3 hP hD hS => ?_)
                    have hP : va_P d.1 clz [(as, aI d 8 s9), (h, ob 4 [.ref as, .ref aw]), (aw, aI d 64 w3), (qh, ob 2 [.ref qa, .int (nI st), .int (nI (n + 9 + zer n))]), (qa, aB d cap g12)] H := hP
                    have hD : va_D A [(as, aI d 8 s9), (h, ob 4 [.ref as, .ref aw]), (aw, aI d 64 w3), (qh, ob 2 [.ref qa, .int (nI st), .int (nI (n + 9 + zer n))]), (qa, aB d cap g12)] := hD
                    refine W.eq (g2 := F0 m 113 ls []) rfl ?_
                    have hw3 : ∀ t, t < 16 → w3 t = roww (pad L) (64 * r) t := hw3
                    refine lv_aload_n C.x C.b d_DG_digest_113 rfl (lv_at hl 0 rfl) ?_
                    refine k_callV (As := []) (rest := []) (wc := [(h, ob 4 [.ref as, .ref aw]), (aw, aI d 64 w3)]) (wr := [(as, aI d 8 s9), (qh, ob 2 [.ref qa, .int (nI st), .int (nI (n + 9 + zer n))]), (qa, aB d cap g12)]) C (c_DG_spreadRow l d h as aw w3) mw_DG_spreadRow ms_13 m_377 hP hD hS [1, 2] [0, 3, 4] rfl rfl (by decide) (by decide) (by decide) 1 rfl rfl rfl rfl hl.1 (Nat.le_of_ble_eq_true rfl) d_DG_digest_114 ⟨Nat.le_of_ble_eq_true rfl, Nat.le_of_ble_eq_true rfl⟩ ⟨by decide, by decide⟩ (fun w4 H locs hw4 hP hD hS => ?_)
                    have hP : va_P d.1 clz [(as, aI d 8 s9), (qh, ob 2 [.ref qa, .int (nI st), .int (nI (n + 9 + zer n))]), (qa, aB d cap g12), (h, ob 4 [.ref as, .ref aw]), (aw, aI d 64 w4)] H := hP
                    have hD : va_D A [(as, aI d 8 s9), (qh, ob 2 [.ref qa, .int (nI st), .int (nI (n + 9 + zer n))]), (qa, aB d cap g12), (h, ob 4 [.ref as, .ref aw]), (aw, aI d 64 w4)] := hD
                    refine W.eq (g2 := F0 m 117 ls []) rfl ?_
                    have hw4 : ∀ j, j < 64 → w4 j = wsc w3 j := hw4
                    refine lv_aload_n C.x C.b d_DG_digest_117 rfl (lv_at hl 0 rfl) ?_
                    refine k_callV (As := []) (rest := []) (wc := [(h, ob 4 [.ref as, .ref aw]), (as, aI d 8 s9), (aw, aI d 64 w4)]) (wr := [(qh, ob 2 [.ref qa, .int (nI st), .int (nI (n + 9 + zer n))]), (qa, aB d cap g12)]) C (c_DG_mixRow l d h as aw s9 w4) mw_DG_mixRow ms_14 m_384 hP hD hS [3, 0, 4] [1, 2] rfl rfl (by decide) (by decide) (by decide) 3 rfl rfl rfl rfl hl.1 (Nat.le_of_ble_eq_true rfl) d_DG_digest_118 ⟨Nat.le_of_ble_eq_true rfl, Nat.le_of_ble_eq_true rfl⟩ ⟨by decide, by decide⟩ (fun s4 H locs hs4 hP hD hS => ?_)
                    have hP : va_P d.1 clz [(qh, ob 2 [.ref qa, .int (nI st), .int (nI (n + 9 + zer n))]), (qa, aB d cap g12), (h, ob 4 [.ref as, .ref aw]), (as, aI d 8 s4), (aw, aI d 64 w4)] H := hP
                    have hD : va_D A [(qh, ob 2 [.ref qa, .int (nI st), .int (nI (n + 9 + zer n))]), (qa, aB d cap g12), (h, ob 4 [.ref as, .ref aw]), (as, aI d 8 s4), (aw, aI d 64 w4)] := hD
                    refine W.eq (g2 := F0 m 121 ls []) rfl ?_
                    have hs4 : ∀ j, j < 8 → s4 j = hmix s9 w4 j := hs4
                    refine lv_iinc (v := nI (64 * r + 64)) (lv' := [(5, .int (nI (64 * r + 64))), (0, .ref h), (1, .ref qh), (4, .int (nI ((n + 9 + zer n) - 64)))]) C.x C.b d_DG_digest_121 hl (k := 3) rfl (k_inc _ 64) (by decide) rfl (fun ls hl => ?_)
                    refine lv_goto (tgt := 99) C.x C.b d_DG_digest_124 (by decide) ?_
                    exact ih99 (r + 1) s4 w4 (by omega) (by omega) (dig_row hs hw3 hw4 hs4) _ _ _ (hP.sub [2, 3, 4, 0, 1] (rfl)) (hD.sub [2, 3, 4, 0, 1] (by decide) (rfl)) hS (lv_sub hl [1, 2, 3, 0] (by rw [Nat.mul_succ]; rfl))
              exact L99 ((rows + 1 - 0) + 1) 0 s9 fw (Nat.lt_succ_self _) (by omega) (fun i hi => hs9 i (by omega)) _ _ _ (hP.sub [0, 1, 2, 3, 4] (rfl)) (hD.sub [0, 1, 2, 3, 4] (by decide) (rfl)) hS (lv_sub hl [2, 3, 1, 0] (rfl))
            · rw [nI_leI (by omega) (by omega)] at hc65
              refine lv_aload_n C.x C.b d_DG_digest_68 rfl (lv_at hl 0 rfl) ?_
              refine k_get C hP 0 rfl rfl i_DG 0 (by decide) m_100 rfl d_DG_digest_69 ?_
              refine lv_iload C.x C.b d_DG_digest_72 (lv_at hl 2 rfl) ?_
              refine va_getsN C.x C.b hDZ hS C.o (va_Nw.use rfl hDN) (fun _ h => h) d_DG_digest_74 ?_
              refine lv_iload C.x C.b d_DG_digest_77 (lv_at hl 2 rfl) ?_
              refine k_ti (j := j) hDT hS (by omega) (by decide) C d_DG_digest_79 ?_
              refine k_iast C hP hD hS 1 rfl (j := j) (by omega) (by omega) d_DG_digest_80 (fun H locs hP hD hS => ?_)
              have hP : va_P d.1 clz [(h, ob 4 [.ref as, .ref aw]), (as, aI d 8 (upd s9 j (dgs j))), (aw, aI d 64 fw), (qh, ob 2 [.ref qa, .int (nI st), .int (nI (n + 9 + zer n))]), (qa, aB d cap g12)] H := hP
              have hD : va_D A [(h, ob 4 [.ref as, .ref aw]), (as, aI d 8 (upd s9 j (dgs j))), (aw, aI d 64 fw), (qh, ob 2 [.ref qa, .int (nI st), .int (nI (n + 9 + zer n))]), (qa, aB d cap g12)] := hD
              refine lv_iinc (v := nI (j + 1)) (lv' := [(4, .int (nI (j + 1))), (0, .ref h), (1, .ref qh)]) C.x C.b d_DG_digest_81 hl (k := 2) rfl (k_inc _ 1) (by decide) rfl (fun ls hl => ?_)
              refine lv_goto (tgt := 61) C.x C.b d_DG_digest_84 (by decide) ?_
              exact ih61 (j + 1) (upd s9 j (dgs j)) (by omega) (by omega) (upd_le (g := s9) hs9 rfl) _ _ _ (hP.sub [0, 1, 2, 3, 4] (rfl)) (hD.sub [0, 1, 2, 3, 4] (by decide) (rfl)) hS (lv_sub hl [1, 2, 0] (rfl))
        exact L61 ((8 - 0) + 1) 0 fs (Nat.lt_succ_self _) (by omega) (fun i hi => absurd hi (Nat.not_lt_zero _)) _ _ _ (hP.sub [0, 1, 2, 3, 4] (rfl)) (hD.sub [0, 1, 2, 3, 4] (by decide) (rfl)) hS (lv_sub hl [1, 2, 0] (rfl))
      · rw [nI_leI (by omega) (by omega)] at hc34
        refine lv_aload_n C.x C.b d_DG_digest_37 rfl (lv_at hl 1 rfl) ?_
        refine lv_iconst (v := nI 0) C.x C.b d_DG_digest_38 (by decide) ?_
        refine k_callV (As := [.int (nI 0)]) (rest := []) (wc := [(qh, ob 2 [.ref qa, .int (nI st), .int (nI (n + 1 + i))]), (qa, aB d cap g9)]) (wr := [(h, ob 4 [.ref as, .ref aw]), (as, aI d 8 fs), (aw, aI d 64 fw)]) C (c_BQ_add l d qh qa cap st (n + 1 + i) g9 (L ++ [nI 128] ++ List.replicate i 0) (nI 0) (hg9) (by omega)) mw_BQ_add m_320 m_365 hP hD hS [3, 4] [0, 1, 2] rfl rfl (by decide) (by decide) (by decide) 3 rfl rfl rfl rfl hl.1 (Nat.le_of_ble_eq_true rfl) d_DG_digest_39 ⟨Nat.le_of_ble_eq_true rfl, Nat.le_of_ble_eq_true rfl⟩ ⟨by decide, by decide⟩ (fun g10 H locs hg10 hP hD hS => ?_)
        have hP : va_P d.1 clz [(h, ob 4 [.ref as, .ref aw]), (as, aI d 8 fs), (aw, aI d 64 fw), (qh, ob 2 [.ref qa, .int (nI st), .int (nI (n + 1 + i + 1))]), (qa, aB d cap g10)] H := hP
        have hD : va_D A [(h, ob 4 [.ref as, .ref aw]), (as, aI d 8 fs), (aw, aI d 64 fw), (qh, ob 2 [.ref qa, .int (nI st), .int (nI (n + 1 + i + 1))]), (qa, aB d cap g10)] := hD
        refine W.eq (g2 := F0 m 42 ls []) rfl ?_
        have hg10 : BQ cap g10 st (n + 1 + i + 1) (L ++ [nI 128] ++ List.replicate i 0 ++ [(nI 0) &&& nI 255]) := hg10
        have hg10 : BQ cap g10 st (n + 1 + (i + 1)) (L ++ [nI 128] ++ List.replicate (i + 1) 0) := by rw [rep_succ, ← List.append_assoc]; exact hg10
        refine lv_iinc (v := nI (i + 1)) (lv' := [(4, .int (nI (i + 1))), (0, .ref h), (1, .ref qh), (2, .int (nI (8 * n))), (3, .int (nI (zer n)))]) C.x C.b d_DG_digest_42 hl (k := 4) rfl (k_inc _ 1) (by decide) rfl (fun ls hl => ?_)
        refine lv_goto (tgt := 31) C.x C.b d_DG_digest_45 (by decide) ?_
        exact ih31 (i + 1) g10 (by omega) (by omega) (hg10) _ _ _ (hP.sub [0, 1, 2, 3, 4] (rfl)) (hD.sub [0, 1, 2, 3, 4] (by decide) (rfl)) hS (lv_sub hl [1, 2, 3, 4, 0] (rfl))
  exact L31 ((zer n - 0) + 1) 0 g1 (Nat.lt_succ_self _) (by omega) (by rw [List.replicate_zero, List.append_nil]; exact hg1) _ _ _ (hP.sub [0, 1, 2, 3, 4] (rfl)) (hD.sub [0, 1, 2, 3, 4] (by decide) (rfl)) hS (lv_sub hl [3, 4, 2, 1, 0] (rfl))
theorem mw_DG_init : Mw y_DG_init b_DG_init 1 none 0 := ⟨m_98, m_8, m_97, by decide +kernel⟩
set_option maxHeartbeats 4000000 in
set_option maxRecDepth 100000 in
theorem c_DG_init (l : Launch) (d : DD) (h : Nat) : Ct l y_DG_init b_DG_init 1 none 1 12 2 72 d [(h, ob 4 [.null, .null])] [.ref h] (fun (u : (Nat) × (Nat)) => match u with | (as, aw) => none) (fun (u : (Nat) × (Nat)) => match u with | (as, aw) => True) (fun (u : (Nat) × (Nat)) => match u with | (as, aw) => [(h, ob 4 [.ref as, .ref aw]), (as, aI d 8 (fun _ => 0)), (aw, aI d 64 (fun _ => 0))]) := by
  refine Ct.of (by decide +kernel) (Nat.le_of_ble_eq_true rfl) ?_
  intro p e s m below meth c A ls C hP hD hS hl
  have hl : lv_has ls 1 [(0, .ref h)] := hl
  have hsz9 := hS.1
  refine lv_aload_n C.x C.b d_DG_init_0 rfl (lv_at hl 0 rfl) ?_
  refine W.objInit C.x C.b C.o (C.t _ m_99) (C.t _ m_22) (C.t _ m_obj) rfl (by rw [C.ml]; exact hl.1) rfl d_DG_init_1 (Nat.le_of_ble_eq_true rfl) (Nat.le_of_ble_eq_true rfl) ?_
  refine W.eq (g2 := F0 m 4 ls []) rfl ?_
  refine lv_aload_n C.x C.b d_DG_init_4 rfl (lv_at hl 0 rfl) ?_
  refine lv_bipush (v := nI 8) C.x C.b d_DG_init_5 (by decide) ?_
  refine k_newI (n := 8) C hP hD hS (by omega) (by decide) (by decide) d_DG_init_7 (fun q_1 H hP hD hS => ?_)
  have hP : va_P d.1 clz [(h, ob 4 [.null, .null]), (q_1, aI d 8 (fun _ => 0))] H := hP
  have hD : va_D A [(h, ob 4 [.null, .null]), (q_1, aI d 8 (fun _ => 0))] := hD
  refine k_putF C rfl hP hD hS 0 rfl rfl i_DG tk_DG n_DG 0 (by decide) m_100 rfl rfl rfl rfl (Nat.le_of_ble_eq_true rfl) d_DG_init_9 (fun H locs hP hD hS => ?_)
  have hP : va_P d.1 clz [(h, ob 4 [.ref q_1, .null]), (q_1, aI d 8 (fun _ => 0))] H := hP
  have hD : va_D A [(h, ob 4 [.ref q_1, .null]), (q_1, aI d 8 (fun _ => 0))] := hD
  refine lv_aload_n C.x C.b d_DG_init_12 rfl (lv_at hl 0 rfl) ?_
  refine lv_bipush (v := nI 64) C.x C.b d_DG_init_13 (by decide) ?_
  refine k_newI (n := 64) C hP hD hS (by omega) (by decide) (by decide) d_DG_init_15 (fun q_2 H hP hD hS => ?_)
  have hP : va_P d.1 clz [(h, ob 4 [.ref q_1, .null]), (q_1, aI d 8 (fun _ => 0)), (q_2, aI d 64 (fun _ => 0))] H := hP
  have hD : va_D A [(h, ob 4 [.ref q_1, .null]), (q_1, aI d 8 (fun _ => 0)), (q_2, aI d 64 (fun _ => 0))] := hD
  refine k_putF C rfl hP hD hS 0 rfl rfl i_DG tk_DG n_DG 1 (by decide) m_101 rfl rfl rfl rfl (Nat.le_of_ble_eq_true rfl) d_DG_init_17 (fun H locs hP hD hS => ?_)
  have hP : va_P d.1 clz [(h, ob 4 [.ref q_1, .ref q_2]), (q_1, aI d 8 (fun _ => 0)), (q_2, aI d 64 (fun _ => 0))] H := hP
  have hD : va_D A [(h, ob 4 [.ref q_1, .ref q_2]), (q_1, aI d 8 (fun _ => 0)), (q_2, aI d 64 (fun _ => 0))] := hD
  have hP9 := hP.sub (ws' := [(h, ob 4 [.ref q_1, .ref q_2]), (q_1, aI d 8 (fun _ => 0)), (q_2, aI d 64 (fun _ => 0))]) [0, 1, 2] rfl
  have hD9 := hD.sub (ws' := [(h, ob 4 [.ref q_1, .ref q_2]), (q_1, aI d 8 (fun _ => 0)), (q_2, aI d 64 (fun _ => 0))]) [0, 1, 2] (by decide) rfl
  exact k_vret C hS (q_1, q_2) (rfl) (trivial) hP9 hD9 d_DG_init_20
