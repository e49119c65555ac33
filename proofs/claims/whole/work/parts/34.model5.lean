theorem dr_get {L : List Int32} {m i : Nat} (h : m + i < L.length) : (L.drop m).getD i 0 = L.getD (i + m) 0 := by
  rw [gd9 (by rw [List.length_drop]; omega), gd9 (by omega), List.getElem_drop]
  congr 1; omega
theorem isb_drop {L : List Int32} {m : Nat} (h : ∀ x ∈ L, x &&& nI 255 = x) : ∀ x ∈ L.drop m, x &&& nI 255 = x := fun x hx => h x (List.mem_of_mem_drop hx)
/-- shifting down in place -/
theorem sh_step {f g : Nat → Int32} {m k : Nat} (h1 : ∀ i, i < k → g i = f (i + m)) (h2 : ∀ i, k ≤ i → g i = f i) {v : Int32} (hv : v = f (k + m)) : (∀ i, i < k + 1 → upd g k v i = f (i + m)) ∧ ∀ i, k + 1 ≤ i → upd g k v i = f i := by
  constructor
  · intro i hi
    by_cases e : i = k
    · rw [e, pk_us, hv]
    · rw [pk_un e]; exact h1 i (by omega)
  · intro i hi
    rw [pk_un (by omega)]; exact h2 i (by omega)
theorem ba_drop {f g : Nat → Int32} {L : List Int32} {m k : Nat} (h : BA f L) (hk : L.length ≤ m + k) (h1 : ∀ i, i < k → g i = f (i + m)) : BA g (L.drop m) := by
  refine ⟨?_, isb_drop h.2⟩
  intro i hi
  rw [List.length_drop] at hi
  rw [h1 i (by omega), h.1 _ (by omega), dr_get (by omega)]
theorem mw_MD_send : Mw y_MD_send b_MD_send 2 (some .int) 1 := ⟨m_764, m_9, m_762, by decide +kernel⟩
set_option maxHeartbeats 4000000 in
set_option maxRecDepth 100000 in
theorem c_MD_send (l : Launch) (d : DD) (h : Nat) (an : Nat) (ak : Nat) (au : Nat) (ap : Nat) (aw : Nat) (ac : Nat) (ag : Nat) (ax : Nat) (ao : Nat) (al : Nat) (av : Nat) (ae : Nat) (ar : Nat) (ad : Nat) (aW : Nat) (aS : Nat) (aN : Nat) (aR : Nat) (aG : Nat) (th : Int32) (lt : Int32) (se : Int32) (ln : Int32) (ft : Int32) (pn : Nat) (wn : Nat) (cn : Nat) (on : Nat) (fk : Nat → Int32) (fu : Nat → Int32) (fe : Nat → Int32) (fp : Nat → Int32) (fw : Nat → Int32) (fx : Nat → Int32) (fo : Nat → Int32) (fl : Nat → Int32) (fv : Nat → Int32) (fr9 : Nat → Int32) (fd : Nat → Int32) (fW : Nat → Int32) (fS : Nat → Int32) (fN : Nat → Int32) (fR : Nat → Int32) (fG : Nat → Int32) (pL : List Int32) (wL : List Int32) (fq : Int32) (hbx : ∀ j, j < 256 → fx j = sbx j) (hR : ∀ t, t < 64 → fR t = dgr t) (hG : ∀ j, j < 8 → fG j = dgs j) (hp : BA fp pL) (hpl : pL.length = pn) (hw : BA fw wL) (hwl : wL.length = wn) (hpn : pn ≤ 500) (hr : wn + (5 + pn + padn pn + 32) ≤ 6000) : Ct l y_MD_send b_MD_send 2 (some .int) 5 120 0 0 d [(h, ob 1 [.int th, .ref an, .ref ak, .int lt, .int se, .ref au, .int (nI pn), .ref ap, .int (nI wn), .ref aw, .int (nI cn), .ref ac, .int ln, .int ft, .int (nI on), .ref ag, .ref ax, .ref ao, .ref al, .ref av, .ref ae, .ref ar, .ref ad, .ref aW, .ref aS, .ref aN, .ref aR, .ref aG]), (ak, aI d 48 fk), (au, aI d 2 fu), (ae, aB d 600 fe), (ap, aB d 500 fp), (aw, aB d 6000 fw), (ax, aI d 256 fx), (ao, aI d 44 fo), (al, aI d 16 fl), (av, aI d 16 fv), (ar, aB d 800 fr9), (ad, aB d 32 fd), (aW, aI d 64 fW), (aS, aI d 8 fS), (aN, aI d 8 fN), (aR, aI d 64 fR), (aG, aI d 8 fG)] [.ref h, .int fq] (fun (u : (Nat → Int32) × (Nat → Int32) × (Nat → Int32) × (Nat → Int32) × (Nat → Int32) × (Nat → Int32) × (Nat → Int32) × (Nat → Int32) × (Nat → Int32) × (Nat → Int32) × (Nat → Int32)) => match u with | (k2, e2, w2, o2, l2, v2, r2, d2, W2, S2, N2) => some (.int (nI (5 + pn + padn pn + 32)))) (fun (u : (Nat → Int32) × (Nat → Int32) × (Nat → Int32) × (Nat → Int32) × (Nat → Int32) × (Nat → Int32) × (Nat → Int32) × (Nat → Int32) × (Nat → Int32) × (Nat → Int32) × (Nat → Int32)) => match u with | (k2, e2, w2, o2, l2, v2, r2, d2, W2, S2, N2) => BA w2 (wL ++ shp (shf 0 fk) (fu 0) (nI (1 + pn + padn pn)) (nI (padn pn)) pL fq) ∧ shf 0 k2 = ctrN (shf 0 fk) ((5 + pn + padn pn) / 16) ∧ ∀ j, 16 ≤ j → k2 j = fk j) (fun (u : (Nat → Int32) × (Nat → Int32) × (Nat → Int32) × (Nat → Int32) × (Nat → Int32) × (Nat → Int32) × (Nat → Int32) × (Nat → Int32) × (Nat → Int32) × (Nat → Int32) × (Nat → Int32)) => match u with | (k2, e2, w2, o2, l2, v2, r2, d2, W2, S2, N2) => [(h, ob 1 [.int (nI 0), .ref an, .ref ak, .int lt, .int se, .ref au, .int (nI 0), .ref ap, .int (nI (wn + (5 + pn + padn pn + 32))), .ref aw, .int (nI cn), .ref ac, .int ln, .int ft, .int (nI on), .ref ag, .ref ax, .ref ao, .ref al, .ref av, .ref ae, .ref ar, .ref ad, .ref aW, .ref aS, .ref aN, .ref aR, .ref aG]), (ak, aI d 48 k2), (au, aI d 2 (upd fu 0 (fu 0 + nI 1))), (ae, aB d 600 e2), (ap, aB d 500 fp), (aw, aB d 6000 w2), (ax, aI d 256 fx), (ao, aI d 44 o2), (al, aI d 16 l2), (av, aI d 16 v2), (ar, aB d 800 r2), (ad, aB d 32 d2), (aW, aI d 64 W2), (aS, aI d 8 S2), (aN, aI d 8 N2), (aR, aI d 64 fR), (aG, aI d 8 fG)]) := by
  refine Ct.of (by decide +kernel) (Nat.le_of_ble_eq_true rfl) ?_
  intro p e s m below meth c A ls C hP hD hS hl
  have hl : lv_has ls 2 [(0, .ref h), (1, .int fq)] := hl
  have hsz9 := hS.1
  have hpl9 := padn_le pn
  have hpg9 := padn_ge pn
  have h16 := padn_16 pn
  refine lv_aload_n C.x C.b d_MD_send_0 rfl (lv_at hl 0 rfl) ?_
  refine lv_aload_n C.x C.b d_MD_send_1 rfl (lv_at hl 0 rfl) ?_
  refine k_get C hP 0 rfl rfl i_MD 8 (by decide) m_660 rfl d_MD_send_2 ?_
  refine lv_aload_n C.x C.b d_MD_send_5 rfl (lv_at hl 0 rfl) ?_
  refine k_callV (As := []) (rest := [.int (nI wn), .ref h]) (wc := [(h, ob 1 [.int th, .ref an, .ref ak, .int lt, .int se, .ref au, .int (nI pn), .ref ap, .int (nI wn), .ref aw, .int (nI cn), .ref ac, .int ln, .int ft, .int (nI on), .ref ag, .ref ax, .ref ao, .ref al, .ref av, .ref ae, .ref ar, .ref ad, .ref aW, .ref aS, .ref aN, .ref aR, .ref aG])]) (wr := [(ak, aI d 48 fk), (au, aI d 2 fu), (ae, aB d 600 fe), (ap, aB d 500 fp), (aw, aB d 6000 fw), (ax, aI d 256 fx), (ao, aI d 44 fo), (al, aI d 16 fl), (av, aI d 16 fv), (ar, aB d 800 fr9), (ad, aB d 32 fd), (aW, aI d 64 fW), (aS, aI d 8 fS), (aN, aI d 8 fN), (aR, aI d 64 fR), (aG, aI d 8 fG)]) C (c_MD_whole l d h an ak au ap aw ac ag ax ao al av ae ar ad aW aS aN aR aG th lt se ln ft pn wn cn on (hpn)) mw_MD_whole ms_20 m_765 hP hD hS [0] [1, 2, 3, 4, 5, 6, 7, 8, 9, 10, 11, 12, 13, 14, 15, 16] rfl rfl (by decide) (by decide) (by decide) 0 rfl rfl rfl rfl hl.1 (Nat.le_of_ble_eq_true rfl) d_MD_send_6 ⟨Nat.le_of_ble_eq_true rfl, Nat.le_of_ble_eq_true rfl⟩ ⟨by decide, by decide⟩ (fun _ H locs hw_1 hP hD hS => ?_)
  have hP : va_P d.1 clz [(ak, aI d 48 fk), (au, aI d 2 fu), (ae, aB d 600 fe), (ap, aB d 500 fp), (aw, aB d 6000 fw), (ax, aI d 256 fx), (ao, aI d 44 fo), (al, aI d 16 fl), (av, aI d 16 fv), (ar, aB d 800 fr9), (ad, aB d 32 fd), (aW, aI d 64 fW), (aS, aI d 8 fS), (aN, aI d 8 fN), (aR, aI d 64 fR), (aG, aI d 8 fG), (h, ob 1 [.int th, .ref an, .ref ak, .int lt, .int se, .ref au, .int (nI pn), .ref ap, .int (nI wn), .ref aw, .int (nI cn), .ref ac, .int ln, .int ft, .int (nI on), .ref ag, .ref ax, .ref ao, .ref al, .ref av, .ref ae, .ref ar, .ref ad, .ref aW, .ref aS, .ref aN, .ref aR, .ref aG])] H := hP
  have hD : va_D A [(ak, aI d 48 fk), (au, aI d 2 fu), (ae, aB d 600 fe), (ap, aB d 500 fp), (aw, aB d 6000 fw), (ax, aI d 256 fx), (ao, aI d 44 fo), (al, aI d 16 fl), (av, aI d 16 fv), (ar, aB d 800 fr9), (ad, aB d 32 fd), (aW, aI d 64 fW), (aS, aI d 8 fS), (aN, aI d 8 fN), (aR, aI d 64 fR), (aG, aI d 8 fG), (h, ob 1 [.int th, .ref an, .ref ak, .int lt, .int se, .ref au, .int (nI pn), .ref ap, .int (nI wn), .ref aw, .int (nI cn), .ref ac, .int ln, .int ft, .int (nI on), .ref ag, .ref ax, .ref ao, .ref al, .ref av, .ref ae, .ref ar, .ref ad, .ref aW, .ref aS, .ref aN, .ref aR, .ref aG])] := hD
  refine W.eq (g2 := F0 m 9 ls [.int (nI (5 + pn + padn pn)), .int (nI wn), .ref h]) rfl ?_
  refine lv_iadd C.x C.b d_MD_send_9 ?_
  refine k_top (y := nI (wn + (5 + pn + padn pn))) (nI_add _ _) ?_
  refine lv_bipush (v := nI 32) C.x C.b d_MD_send_10 (by decide) ?_
  refine lv_iadd C.x C.b d_MD_send_12 ?_
  refine k_top (y := nI (wn + (5 + pn + padn pn) + 32)) (nI_add _ _) ?_
  refine lv_sipush (v := nI 6000) C.x C.b d_MD_send_13 (by decide) ?_
  refine lv_icmp_le (tgt := 23) C.x C.b d_MD_send_16 (by decide) (fun hc_2 => ?_) (fun h9 => False.elim (h9 (nI_le (by omega) (by omega))))
  rw [nI_leI (by omega) (by omega)] at hc_2
  refine lv_iconst (v := nI 0) C.x C.b d_MD_send_23 (by decide) ?_
  refine lv_iconst (v := nI 0) C.x C.b d_MD_send_24 (by decide) ?_
  refine k_callV (As := [.int (nI 0), .int (nI 0)]) (rest := []) (wc := [(h, ob 1 [.int th, .ref an, .ref ak, .int lt, .int se, .ref au, .int (nI pn), .ref ap, .int (nI wn), .ref aw, .int (nI cn), .ref ac, .int ln, .int ft, .int (nI on), .ref ag, .ref ax, .ref ao, .ref al, .ref av, .ref ae, .ref ar, .ref ad, .ref aW, .ref aS, .ref aN, .ref aR, .ref aG])]) (wr := [(ak, aI d 48 fk), (au, aI d 2 fu), (ae, aB d 600 fe), (ap, aB d 500 fp), (aw, aB d 6000 fw), (ax, aI d 256 fx), (ao, aI d 44 fo), (al, aI d 16 fl), (av, aI d 16 fv), (ar, aB d 800 fr9), (ad, aB d 32 fd), (aW, aI d 64 fW), (aS, aI d 8 fS), (aN, aI d 8 fN), (aR, aI d 64 fR), (aG, aI d 8 fG)]) C (c_MD_refused0 l d h an ak au ap aw ac ag ax ao al av ae ar ad aW aS aN aR aG th lt se (nI pn) (nI wn) (nI cn) ln ft (nI on)) mw_MD_refused ms_18 m_745 hP hD hS [16] [0, 1, 2, 3, 4, 5, 6, 7, 8, 9, 10, 11, 12, 13, 14, 15] rfl rfl (by decide) (by decide) (by decide) 16 rfl rfl rfl rfl hl.1 (Nat.le_of_ble_eq_true rfl) d_MD_send_25 ⟨Nat.le_of_ble_eq_true rfl, Nat.le_of_ble_eq_true rfl⟩ ⟨by decide, by decide⟩ (fun _ H locs hw_3 hP hD hS => ?_)
  have hP : va_P d.1 clz [(ak, aI d 48 fk), (au, aI d 2 fu), (ae, aB d 600 fe), (ap, aB d 500 fp), (aw, aB d 6000 fw), (ax, aI d 256 fx), (ao, aI d 44 fo), (al, aI d 16 fl), (av, aI d 16 fv), (ar, aB d 800 fr9), (ad, aB d 32 fd), (aW, aI d 64 fW), (aS, aI d 8 fS), (aN, aI d 8 fN), (aR, aI d 64 fR), (aG, aI d 8 fG), (h, ob 1 [.int (nI 0), .ref an, .ref ak, .int lt, .int se, .ref au, .int (nI pn), .ref ap, .int (nI wn), .ref aw, .int (nI cn), .ref ac, .int ln, .int ft, .int (nI on), .ref ag, .ref ax, .ref ao, .ref al, .ref av, .ref ae, .ref ar, .ref ad, .ref aW, .ref aS, .ref aN, .ref aR, .ref aG])] H := hP
  have hD : va_D A [(ak, aI d 48 fk), (au, aI d 2 fu), (ae, aB d 600 fe), (ap, aB d 500 fp), (aw, aB d 6000 fw), (ax, aI d 256 fx), (ao, aI d 44 fo), (al, aI d 16 fl), (av, aI d 16 fv), (ar, aB d 800 fr9), (ad, aB d 32 fd), (aW, aI d 64 fW), (aS, aI d 8 fS), (aN, aI d 8 fN), (aR, aI d 64 fR), (aG, aI d 8 fG), (h, ob 1 [.int (nI 0), .ref an, .ref ak, .int lt, .int se, .ref au, .int (nI pn), .ref ap, .int (nI wn), .ref aw, .int (nI cn), .ref ac, .int ln, .int ft, .int (nI on), .ref ag, .ref ax, .ref ao, .ref al, .ref av, .ref ae, .ref ar, .ref ad, .ref aW, .ref aS, .ref aN, .ref aR, .ref aG])] := hD
  refine W.eq (g2 := F0 m 28 ls [.int (nI 0)]) rfl ?_
  refine lv_if_eq (tgt := 33) C.x C.b d_MD_send_28 (by decide) (fun _ => ?_) (fun h9 => by first | exact absurd h9 (by decide) | exact absurd (by decide) h9)
  refine lv_aload_n C.x C.b d_MD_send_33 rfl (lv_at hl 0 rfl) ?_
  refine lv_aload_n C.x C.b d_MD_send_34 rfl (lv_at hl 0 rfl) ?_
  refine k_callV (As := []) (rest := [.ref h]) (wc := [(h, ob 1 [.int (nI 0), .ref an, .ref ak, .int lt, .int se, .ref au, .int (nI pn), .ref ap, .int (nI wn), .ref aw, .int (nI cn), .ref ac, .int ln, .int ft, .int (nI on), .ref ag, .ref ax, .ref ao, .ref al, .ref av, .ref ae, .ref ar, .ref ad, .ref aW, .ref aS, .ref aN, .ref aR, .ref aG])]) (wr := [(ak, aI d 48 fk), (au, aI d 2 fu), (ae, aB d 600 fe), (ap, aB d 500 fp), (aw, aB d 6000 fw), (ax, aI d 256 fx), (ao, aI d 44 fo), (al, aI d 16 fl), (av, aI d 16 fv), (ar, aB d 800 fr9), (ad, aB d 32 fd), (aW, aI d 64 fW), (aS, aI d 8 fS), (aN, aI d 8 fN), (aR, aI d 64 fR), (aG, aI d 8 fG)]) C (c_MD_whole l d h an ak au ap aw ac ag ax ao al av ae ar ad aW aS aN aR aG (nI 0) lt se ln ft pn wn cn on (hpn)) mw_MD_whole ms_20 m_765 hP hD hS [16] [0, 1, 2, 3, 4, 5, 6, 7, 8, 9, 10, 11, 12, 13, 14, 15] rfl rfl (by decide) (by decide) (by decide) 16 rfl rfl rfl rfl hl.1 (Nat.le_of_ble_eq_true rfl) d_MD_send_35 ⟨Nat.le_of_ble_eq_true rfl, Nat.le_of_ble_eq_true rfl⟩ ⟨by decide, by decide⟩ (fun _ H locs hw_4 hP hD hS => ?_)
  have hP : va_P d.1 clz [(ak, aI d 48 fk), (au, aI d 2 fu), (ae, aB d 600 fe), (ap, aB d 500 fp), (aw, aB d 6000 fw), (ax, aI d 256 fx), (ao, aI d 44 fo), (al, aI d 16 fl), (av, aI d 16 fv), (ar, aB d 800 fr9), (ad, aB d 32 fd), (aW, aI d 64 fW), (aS, aI d 8 fS), (aN, aI d 8 fN), (aR, aI d 64 fR), (aG, aI d 8 fG), (h, ob 1 [.int (nI 0), .ref an, .ref ak, .int lt, .int se, .ref au, .int (nI pn), .ref ap, .int (nI wn), .ref aw, .int (nI cn), .ref ac, .int ln, .int ft, .int (nI on), .ref ag, .ref ax, .ref ao, .ref al, .ref av, .ref ae, .ref ar, .ref ad, .ref aW, .ref aS, .ref aN, .ref aR, .ref aG])] H := hP
  have hD : va_D A [(ak, aI d 48 fk), (au, aI d 2 fu), (ae, aB d 600 fe), (ap, aB d 500 fp), (aw, aB d 6000 fw), (ax, aI d 256 fx), (ao, aI d 44 fo), (al, aI d 16 fl), (av, aI d 16 fv), (ar, aB d 800 fr9), (ad, aB d 32 fd), (aW, aI d 64 fW), (aS, aI d 8 fS), (aN, aI d 8 fN), (aR, aI d 64 fR), (aG, aI d 8 fG), (h, ob 1 [.int (nI 0), .ref an, .ref ak, .int lt, .int se, .ref au, .int (nI pn), .ref ap, .int (nI wn), .ref aw, .int (nI cn), .ref ac, .int ln, .int ft, .int (nI on), .ref ag, .ref ax, .ref ao, .ref al, .ref av, .ref ae, .ref ar, .ref ad, .ref aW, .ref aS, .ref aN, .ref aR, .ref aG])] := hD
  refine W.eq (g2 := F0 m 38 ls [.int (nI (5 + pn + padn pn)), .ref h]) rfl ?_
  refine lv_iconst (v := nI 4) C.x C.b d_MD_send_38 (by decide) ?_
  refine lv_isub C.x C.b d_MD_send_39 ?_
  refine k_top (y := nI ((5 + pn + padn pn) - 4)) (pk_sub (by omega)) ?_
  refine k_top (y := nI (1 + pn + padn pn)) (by rw [show (5 + pn + padn pn) - 4 = 1 + pn + padn pn from by omega]) ?_
  refine lv_aload_n C.x C.b d_MD_send_40 rfl (lv_at hl 0 rfl) ?_
  refine k_callV (As := []) (rest := [.int (nI (1 + pn + padn pn)), .ref h]) (wc := [(h, ob 1 [.int (nI 0), .ref an, .ref ak, .int lt, .int se, .ref au, .int (nI pn), .ref ap, .int (nI wn), .ref aw, .int (nI cn), .ref ac, .int ln, .int ft, .int (nI on), .ref ag, .ref ax, .ref ao, .ref al, .ref av, .ref ae, .ref ar, .ref ad, .ref aW, .ref aS, .ref aN, .ref aR, .ref aG])]) (wr := [(ak, aI d 48 fk), (au, aI d 2 fu), (ae, aB d 600 fe), (ap, aB d 500 fp), (aw, aB d 6000 fw), (ax, aI d 256 fx), (ao, aI d 44 fo), (al, aI d 16 fl), (av, aI d 16 fv), (ar, aB d 800 fr9), (ad, aB d 32 fd), (aW, aI d 64 fW), (aS, aI d 8 fS), (aN, aI d 8 fN), (aR, aI d 64 fR), (aG, aI d 8 fG)]) C (c_MD_whole l d h an ak au ap aw ac ag ax ao al av ae ar ad aW aS aN aR aG (nI 0) lt se ln ft pn wn cn on (hpn)) mw_MD_whole ms_20 m_765 hP hD hS [16] [0, 1, 2, 3, 4, 5, 6, 7, 8, 9, 10, 11, 12, 13, 14, 15] rfl rfl (by decide) (by decide) (by decide) 16 rfl rfl rfl rfl hl.1 (Nat.le_of_ble_eq_true rfl) d_MD_send_41 ⟨Nat.le_of_ble_eq_true rfl, Nat.le_of_ble_eq_true rfl⟩ ⟨by decide, by decide⟩ (fun _ H locs hw_5 hP hD hS => ?_)
  have hP : va_P d.1 clz [(ak, aI d 48 fk), (au, aI d 2 fu), (ae, aB d 600 fe), (ap, aB d 500 fp), (aw, aB d 6000 fw), (ax, aI d 256 fx), (ao, aI d 44 fo), (al, aI d 16 fl), (av, aI d 16 fv), (ar, aB d 800 fr9), (ad, aB d 32 fd), (aW, aI d 64 fW), (aS, aI d 8 fS), (aN, aI d 8 fN), (aR, aI d 64 fR), (aG, aI d 8 fG), (h, ob 1 [.int (nI 0), .ref an, .ref ak, .int lt, .int se, .ref au, .int (nI pn), .ref ap, .int (nI wn), .ref aw, .int (nI cn), .ref ac, .int ln, .int ft, .int (nI on), .ref ag, .ref ax, .ref ao, .ref al, .ref av, .ref ae, .ref ar, .ref ad, .ref aW, .ref aS, .ref aN, .ref aR, .ref aG])] H := hP
  have hD : va_D A [(ak, aI d 48 fk), (au, aI d 2 fu), (ae, aB d 600 fe), (ap, aB d 500 fp), (aw, aB d 6000 fw), (ax, aI d 256 fx), (ao, aI d 44 fo), (al, aI d 16 fl), (av, aI d 16 fv), (ar, aB d 800 fr9), (ad, aB d 32 fd), (aW, aI d 64 fW), (aS, aI d 8 fS), (aN, aI d 8 fN), (aR, aI d 64 fR), (aG, aI d 8 fG), (h, ob 1 [.int (nI 0), .ref an, .ref ak, .int lt, .int se, .ref au, .int (nI pn), .ref ap, .int (nI wn), .ref aw, .int (nI cn), .ref ac, .int ln, .int ft, .int (nI on), .ref ag, .ref ax, .ref ao, .ref al, .ref av, .ref ae, .ref ar, .ref ad, .ref aW, .ref aS, .ref aN, .ref aR, .ref aG])] := hD
  refine W.eq (g2 := F0 m 44 ls [.int (nI (5 + pn + padn pn)), .int (nI (1 + pn + padn pn)), .ref h]) rfl ?_
  refine lv_iconst (v := nI 5) C.x C.b d_MD_send_44 (by decide) ?_
  refine lv_isub C.x C.b d_MD_send_45 ?_
  refine k_top (y := nI ((5 + pn + padn pn) - 5)) (pk_sub (by omega)) ?_
  refine lv_aload_n C.x C.b d_MD_send_46 rfl (lv_at hl 0 rfl) ?_
  refine k_get C hP 16 rfl rfl i_MD 6 (by decide) m_658 rfl d_MD_send_47 ?_
  refine lv_isub C.x C.b d_MD_send_50 ?_
  refine k_top (y := nI (((5 + pn + padn pn) - 5) - pn)) (pk_sub (by omega)) ?_
  refine k_top (y := nI (padn pn)) (by rw [show ((5 + pn + padn pn) - 5) - pn = padn pn from by omega]) ?_
  refine lv_iload_n C.x C.b d_MD_send_51 rfl (lv_at hl 1 rfl) ?_
  refine k_callV (As := [.int (nI (1 + pn + padn pn)), .int (nI (padn pn)), .int fq]) (rest := []) (wc := [(h, ob 1 [.int (nI 0), .ref an, .ref ak, .int lt, .int se, .ref au, .int (nI pn), .ref ap, .int (nI wn), .ref aw, .int (nI cn), .ref ac, .int ln, .int ft, .int (nI on), .ref ag, .ref ax, .ref ao, .ref al, .ref av, .ref ae, .ref ar, .ref ad, .ref aW, .ref aS, .ref aN, .ref aR, .ref aG]), (ak, aI d 48 fk), (au, aI d 2 fu), (ae, aB d 600 fe), (ap, aB d 500 fp), (aw, aB d 6000 fw), (ax, aI d 256 fx), (ao, aI d 44 fo), (al, aI d 16 fl), (av, aI d 16 fv), (ar, aB d 800 fr9), (ad, aB d 32 fd), (aW, aI d 64 fW), (aS, aI d 8 fS), (aN, aI d 8 fN), (aR, aI d 64 fR), (aG, aI d 8 fG)]) (wr := []) C (c_MD_pack l d h an ak au ap aw ac ag ax ao al av ae ar ad aW aS aN aR aG (nI 0) lt se ln ft pn wn cn on fk fu fe fp fw fx fo fl fv fr9 fd fW fS fN fR fG pL wL (nI (1 + pn + padn pn)) (nI (padn pn)) fq (hbx) (hR) (hG) (hp) (hpl) (hw) (hwl) (hpn) (hr)) mw_MD_pack ms_21 m_769 hP hD hS [16, 0, 1, 2, 3, 4, 5, 6, 7, 8, 9, 10, 11, 12, 13, 14, 15] [] rfl rfl (by decide) (by decide) (by decide) 16 rfl rfl rfl rfl hl.1 (Nat.le_of_ble_eq_true rfl) d_MD_send_52 ⟨Nat.le_of_ble_eq_true rfl, Nat.le_of_ble_eq_true rfl⟩ ⟨by decide, by decide⟩ (fun u9 H locs hpk hP hD hS => ?_)
  obtain ⟨k2, e2, w2, o2, l2, v2, r2, d2, W2, S2, N2⟩ := u9
  have hP : va_P d.1 clz [(h, ob 1 [.int (nI 0), .ref an, .ref ak, .int lt, .int se, .ref au, .int (nI 0), .ref ap, .int (nI (wn + (5 + pn + padn pn + 32))), .ref aw, .int (nI cn), .ref ac, .int ln, .int ft, .int (nI on), .ref ag, .ref ax, .ref ao, .ref al, .ref av, .ref ae, .ref ar, .ref ad, .ref aW, .ref aS, .ref aN, .ref aR, .ref aG]), (ak, aI d 48 k2), (au, aI d 2 (upd fu 0 (fu 0 + nI 1))), (ae, aB d 600 e2), (ap, aB d 500 fp), (aw, aB d 6000 w2), (ax, aI d 256 fx), (ao, aI d 44 o2), (al, aI d 16 l2), (av, aI d 16 v2), (ar, aB d 800 r2), (ad, aB d 32 d2), (aW, aI d 64 W2), (aS, aI d 8 S2), (aN, aI d 8 N2), (aR, aI d 64 fR), (aG, aI d 8 fG)] H := hP
  have hD : va_D A [(h, ob 1 [.int (nI 0), .ref an, .ref ak, .int lt, .int se, .ref au, .int (nI 0), .ref ap, .int (nI (wn + (5 + pn + padn pn + 32))), .ref aw, .int (nI cn), .ref ac, .int ln, .int ft, .int (nI on), .ref ag, .ref ax, .ref ao, .ref al, .ref av, .ref ae, .ref ar, .ref ad, .ref aW, .ref aS, .ref aN, .ref aR, .ref aG]), (ak, aI d 48 k2), (au, aI d 2 (upd fu 0 (fu 0 + nI 1))), (ae, aB d 600 e2), (ap, aB d 500 fp), (aw, aB d 6000 w2), (ax, aI d 256 fx), (ao, aI d 44 o2), (al, aI d 16 l2), (av, aI d 16 v2), (ar, aB d 800 r2), (ad, aB d 32 d2), (aW, aI d 64 W2), (aS, aI d 8 S2), (aN, aI d 8 N2), (aR, aI d 64 fR), (aG, aI d 8 fG)] := hD
  refine W.eq (g2 := F0 m 55 ls [.int (nI (5 + pn + padn pn + 32))]) rfl ?_
  have hpk : BA w2 (wL ++ shp (shf 0 fk) (fu 0) (nI (1 + pn + padn pn)) (nI (padn pn)) pL fq) ∧ shf 0 k2 = ctrN (shf 0 fk) ((5 + pn + padn pn) / 16) ∧ ∀ j, 16 ≤ j → k2 j = fk j := hpk
  have hP9 := hP.sub (ws' := [(h, ob 1 [.int (nI 0), .ref an, .ref ak, .int lt, .int se, .ref au, .int (nI 0), .ref ap, .int (nI (wn + (5 + pn + padn pn + 32))), .ref aw, .int (nI cn), .ref ac, .int ln, .int ft, .int (nI on), .ref ag, .ref ax, .ref ao, .ref al, .ref av, .ref ae, .ref ar, .ref ad, .ref aW, .ref aS, .ref aN, .ref aR, .ref aG]), (ak, aI d 48 k2), (au, aI d 2 (upd fu 0 (fu 0 + nI 1))), (ae, aB d 600 e2), (ap, aB d 500 fp), (aw, aB d 6000 w2), (ax, aI d 256 fx), (ao, aI d 44 o2), (al, aI d 16 l2), (av, aI d 16 v2), (ar, aB d 800 r2), (ad, aB d 32 d2), (aW, aI d 64 W2), (aS, aI d 8 S2), (aN, aI d 8 N2), (aR, aI d 64 fR), (aG, aI d 8 fG)]) [0, 1, 2, 3, 4, 5, 6, 7, 8, 9, 10, 11, 12, 13, 14, 15, 16] rfl
  have hD9 := hD.sub (ws' := [(h, ob 1 [.int (nI 0), .ref an, .ref ak, .int lt, .int se, .ref au, .int (nI 0), .ref ap, .int (nI (wn + (5 + pn + padn pn + 32))), .ref aw, .int (nI cn), .ref ac, .int ln, .int ft, .int (nI on), .ref ag, .ref ax, .ref ao, .ref al, .ref av, .ref ae, .ref ar, .ref ad, .ref aW, .ref aS, .ref aN, .ref aR, .ref aG]), (ak, aI d 48 k2), (au, aI d 2 (upd fu 0 (fu 0 + nI 1))), (ae, aB d 600 e2), (ap, aB d 500 fp), (aw, aB d 6000 w2), (ax, aI d 256 fx), (ao, aI d 44 o2), (al, aI d 16 l2), (av, aI d 16 v2), (ar, aB d 800 r2), (ad, aB d 32 d2), (aW, aI d 64 W2), (aS, aI d 8 S2), (aN, aI d 8 N2), (aR, aI d 64 fR), (aG, aI d 8 fG)]) [0, 1, 2, 3, 4, 5, 6, 7, 8, 9, 10, 11, 12, 13, 14, 15, 16] (by decide) rfl
  exact k_iret C hS (k2, e2, w2, o2, l2, v2, r2, d2, W2, S2, N2) (rfl) (hpk) hP9 hD9 d_MD_send_55
theorem mw_MD_forge : Mw y_MD_forge b_MD_forge 3 (some .int) 2 := ⟨m_819, m_9, m_817, by decide +kernel⟩
set_option maxHeartbeats 4000000 in
set_option maxRecDepth 100000 in
theorem c_MD_forge (l : Launch) (d : DD) (h : Nat) (an : Nat) (ak : Nat) (au : Nat) (ap : Nat) (aw : Nat) (ac : Nat) (ag : Nat) (ax : Nat) (ao : Nat) (al : Nat) (av : Nat) (ae : Nat) (ar : Nat) (ad : Nat) (aW : Nat) (aS : Nat) (aN : Nat) (aR : Nat) (aG : Nat) (th : Int32) (lt : Int32) (se : Int32) (ln : Int32) (ft : Int32) (pn : Nat) (wn : Nat) (cn : Nat) (on : Nat) (fk : Nat → Int32) (fu : Nat → Int32) (fe : Nat → Int32) (fp : Nat → Int32) (fw : Nat → Int32) (fx : Nat → Int32) (fo : Nat → Int32) (fl : Nat → Int32) (fv : Nat → Int32) (fr9 : Nat → Int32) (fd : Nat → Int32) (fW : Nat → Int32) (fS : Nat → Int32) (fN : Nat → Int32) (fR : Nat → Int32) (fG : Nat → Int32) (pL : List Int32) (wL : List Int32) (told : Int32) (pads : Int32) (hbx : ∀ j, j < 256 → fx j = sbx j) (hR : ∀ t, t < 64 → fR t = dgr t) (hG : ∀ j, j < 8 → fG j = dgs j) (hp : BA fp pL) (hpl : pL.length = pn) (hw : BA fw wL) (hwl : wL.length = wn) (hpn : pn ≤ 500) (hr : wn + (5 + pn + padn pn + 32) ≤ 6000) : Ct l y_MD_forge b_MD_forge 3 (some .int) 5 120 0 0 d [(h, ob 1 [.int th, .ref an, .ref ak, .int lt, .int se, .ref au, .int (nI pn), .ref ap, .int (nI wn), .ref aw, .int (nI cn), .ref ac, .int ln, .int ft, .int (nI on), .ref ag, .ref ax, .ref ao, .ref al, .ref av, .ref ae, .ref ar, .ref ad, .ref aW, .ref aS, .ref aN, .ref aR, .ref aG]), (ak, aI d 48 fk), (au, aI d 2 fu), (ae, aB d 600 fe), (ap, aB d 500 fp), (aw, aB d 6000 fw), (ax, aI d 256 fx), (ao, aI d 44 fo), (al, aI d 16 fl), (av, aI d 16 fv), (ar, aB d 800 fr9), (ad, aB d 32 fd), (aW, aI d 64 fW), (aS, aI d 8 fS), (aN, aI d 8 fN), (aR, aI d 64 fR), (aG, aI d 8 fG)] [.ref h, .int told, .int pads] (fun (u : (Nat → Int32) × (Nat → Int32) × (Nat → Int32) × (Nat → Int32) × (Nat → Int32) × (Nat → Int32) × (Nat → Int32) × (Nat → Int32) × (Nat → Int32) × (Nat → Int32) × (Nat → Int32)) => match u with | (k2, e2, w2, o2, l2, v2, r2, d2, W2, S2, N2) => some (.int (nI (5 + pn + padn pn + 32)))) (fun (u : (Nat → Int32) × (Nat → Int32) × (Nat → Int32) × (Nat → Int32) × (Nat → Int32) × (Nat → Int32) × (Nat → Int32) × (Nat → Int32) × (Nat → Int32) × (Nat → Int32) × (Nat → Int32)) => match u with | (k2, e2, w2, o2, l2, v2, r2, d2, W2, S2, N2) => BA w2 (wL ++ shp (shf 0 fk) (fu 0) told pads pL (nI 0)) ∧ shf 0 k2 = ctrN (shf 0 fk) ((5 + pn + padn pn) / 16) ∧ ∀ j, 16 ≤ j → k2 j = fk j) (fun (u : (Nat → Int32) × (Nat → Int32) × (Nat → Int32) × (Nat → Int32) × (Nat → Int32) × (Nat → Int32) × (Nat → Int32) × (Nat → Int32) × (Nat → Int32) × (Nat → Int32) × (Nat → Int32)) => match u with | (k2, e2, w2, o2, l2, v2, r2, d2, W2, S2, N2) => [(h, ob 1 [.int (nI 0), .ref an, .ref ak, .int lt, .int se, .ref au, .int (nI 0), .ref ap, .int (nI (wn + (5 + pn + padn pn + 32))), .ref aw, .int (nI cn), .ref ac, .int ln, .int ft, .int (nI on), .ref ag, .ref ax, .ref ao, .ref al, .ref av, .ref ae, .ref ar, .ref ad, .ref aW, .ref aS, .ref aN, .ref aR, .ref aG]), (ak, aI d 48 k2), (au, aI d 2 (upd fu 0 (fu 0 + nI 1))), (ae, aB d 600 e2), (ap, aB d 500 fp), (aw, aB d 6000 w2), (ax, aI d 256 fx), (ao, aI d 44 o2), (al, aI d 16 l2), (av, aI d 16 v2), (ar, aB d 800 r2), (ad, aB d 32 d2), (aW, aI d 64 W2), (aS, aI d 8 S2), (aN, aI d 8 N2), (aR, aI d 64 fR), (aG, aI d 8 fG)]) := by
  refine Ct.of (by decide +kernel) (Nat.le_of_ble_eq_true rfl) ?_
  intro p e s m below meth c A ls C hP hD hS hl
  have hl : lv_has ls 3 [(0, .ref h), (1, .int told), (2, .int pads)] := hl
  have hsz9 := hS.1
  have hpl9 := padn_le pn
  have hpg9 := padn_ge pn
  have h16 := padn_16 pn
  refine lv_aload_n C.x C.b d_MD_forge_0 rfl (lv_at hl 0 rfl) ?_
  refine lv_aload_n C.x C.b d_MD_forge_1 rfl (lv_at hl 0 rfl) ?_
  refine k_get C hP 0 rfl rfl i_MD 8 (by decide) m_660 rfl d_MD_forge_2 ?_
  refine lv_aload_n C.x C.b d_MD_forge_5 rfl (lv_at hl 0 rfl) ?_
  refine k_callV (As := []) (rest := [.int (nI wn), .ref h]) (wc := [(h, ob 1 [.int th, .ref an, .ref ak, .int lt, .int se, .ref au, .int (nI pn), .ref ap, .int (nI wn), .ref aw, .int (nI cn), .ref ac, .int ln, .int ft, .int (nI on), .ref ag, .ref ax, .ref ao, .ref al, .ref av, .ref ae, .ref ar, .ref ad, .ref aW, .ref aS, .ref aN, .ref aR, .ref aG])]) (wr := [(ak, aI d 48 fk), (au, aI d 2 fu), (ae, aB d 600 fe), (ap, aB d 500 fp), (aw, aB d 6000 fw), (ax, aI d 256 fx), (ao, aI d 44 fo), (al, aI d 16 fl), (av, aI d 16 fv), (ar, aB d 800 fr9), (ad, aB d 32 fd), (aW, aI d 64 fW), (aS, aI d 8 fS), (aN, aI d 8 fN), (aR, aI d 64 fR), (aG, aI d 8 fG)]) C (c_MD_whole l d h an ak au ap aw ac ag ax ao al av ae ar ad aW aS aN aR aG th lt se ln ft pn wn cn on (hpn)) mw_MD_whole ms_20 m_765 hP hD hS [0] [1, 2, 3, 4, 5, 6, 7, 8, 9, 10, 11, 12, 13, 14, 15, 16] rfl rfl (by decide) (by decide) (by decide) 0 rfl rfl rfl rfl hl.1 (Nat.le_of_ble_eq_true rfl) d_MD_forge_6 ⟨Nat.le_of_ble_eq_true rfl, Nat.le_of_ble_eq_true rfl⟩ ⟨by decide, by decide⟩ (fun _ H locs hw_1 hP hD hS => ?_)
  have hP : va_P d.1 clz [(ak, aI d 48 fk), (au, aI d 2 fu), (ae, aB d 600 fe), (ap, aB d 500 fp), (aw, aB d 6000 fw), (ax, aI d 256 fx), (ao, aI d 44 fo), (al, aI d 16 fl), (av, aI d 16 fv), (ar, aB d 800 fr9), (ad, aB d 32 fd), (aW, aI d 64 fW), (aS, aI d 8 fS), (aN, aI d 8 fN), (aR, aI d 64 fR), (aG, aI d 8 fG), (h, ob 1 [.int th, .ref an, .ref ak, .int lt, .int se, .ref au, .int (nI pn), .ref ap, .int (nI wn), .ref aw, .int (nI cn), .ref ac, .int ln, .int ft, .int (nI on), .ref ag, .ref ax, .ref ao, .ref al, .ref av, .ref ae, .ref ar, .ref ad, .ref aW, .ref aS, .ref aN, .ref aR, .ref aG])] H := hP
  have hD : va_D A [(ak, aI d 48 fk), (au, aI d 2 fu), (ae, aB d 600 fe), (ap, aB d 500 fp), (aw, aB d 6000 fw), (ax, aI d 256 fx), (ao, aI d 44 fo), (al, aI d 16 fl), (av, aI d 16 fv), (ar, aB d 800 fr9), (ad, aB d 32 fd), (aW, aI d 64 fW), (aS, aI d 8 fS), (aN, aI d 8 fN), (aR, aI d 64 fR), (aG, aI d 8 fG), (h, ob 1 [.int th, .ref an, .ref ak, .int lt, .int se, .ref au, .int (nI pn), .ref ap, .int (nI wn), .ref aw, .int (nI cn), .ref ac, .int ln, .int ft, .int (nI on), .ref ag, .ref ax, .ref ao, .ref al, .ref av, .ref ae, .ref ar, .ref ad, .ref aW, .ref aS, .ref aN, .ref aR, .ref aG])] := hD
  refine W.eq (g2 := F0 m 9 ls [.int (nI (5 + pn + padn pn)), .int (nI wn), .ref h]) rfl ?_
  refine lv_iadd C.x C.b d_MD_forge_9 ?_
  refine k_top (y := nI (wn + (5 + pn + padn pn))) (nI_add _ _) ?_
  refine lv_bipush (v := nI 32) C.x C.b d_MD_forge_10 (by decide) ?_
  refine lv_iadd C.x C.b d_MD_forge_12 ?_
  refine k_top (y := nI (wn + (5 + pn + padn pn) + 32)) (nI_add _ _) ?_
  refine lv_sipush (v := nI 6000) C.x C.b d_MD_forge_13 (by decide) ?_
  refine lv_icmp_le (tgt := 23) C.x C.b d_MD_forge_16 (by decide) (fun hc_2 => ?_) (fun h9 => False.elim (h9 (nI_le (by omega) (by omega))))
  rw [nI_leI (by omega) (by omega)] at hc_2
  refine lv_iconst (v := nI 0) C.x C.b d_MD_forge_23 (by decide) ?_
  refine lv_iconst (v := nI 0) C.x C.b d_MD_forge_24 (by decide) ?_
  refine k_callV (As := [.int (nI 0), .int (nI 0)]) (rest := []) (wc := [(h, ob 1 [.int th, .ref an, .ref ak, .int lt, .int se, .ref au, .int (nI pn), .ref ap, .int (nI wn), .ref aw, .int (nI cn), .ref ac, .int ln, .int ft, .int (nI on), .ref ag, .ref ax, .ref ao, .ref al, .ref av, .ref ae, .ref ar, .ref ad, .ref aW, .ref aS, .ref aN, .ref aR, .ref aG])]) (wr := [(ak, aI d 48 fk), (au, aI d 2 fu), (ae, aB d 600 fe), (ap, aB d 500 fp), (aw, aB d 6000 fw), (ax, aI d 256 fx), (ao, aI d 44 fo), (al, aI d 16 fl), (av, aI d 16 fv), (ar, aB d 800 fr9), (ad, aB d 32 fd), (aW, aI d 64 fW), (aS, aI d 8 fS), (aN, aI d 8 fN), (aR, aI d 64 fR), (aG, aI d 8 fG)]) C (c_MD_refused0 l d h an ak au ap aw ac ag ax ao al av ae ar ad aW aS aN aR aG th lt se (nI pn) (nI wn) (nI cn) ln ft (nI on)) mw_MD_refused ms_18 m_745 hP hD hS [16] [0, 1, 2, 3, 4, 5, 6, 7, 8, 9, 10, 11, 12, 13, 14, 15] rfl rfl (by decide) (by decide) (by decide) 16 rfl rfl rfl rfl hl.1 (Nat.le_of_ble_eq_true rfl) d_MD_forge_25 ⟨Nat.le_of_ble_eq_true rfl, Nat.le_of_ble_eq_true rfl⟩ ⟨by decide, by decide⟩ (fun _ H locs hw_3 hP hD hS => ?_)
  have hP : va_P d.1 clz [(ak, aI d 48 fk), (au, aI d 2 fu), (ae, aB d 600 fe), (ap, aB d 500 fp), (aw, aB d 6000 fw), (ax, aI d 256 fx), (ao, aI d 44 fo), (al, aI d 16 fl), (av, aI d 16 fv), (ar, aB d 800 fr9), (ad, aB d 32 fd), (aW, aI d 64 fW), (aS, aI d 8 fS), (aN, aI d 8 fN), (aR, aI d 64 fR), (aG, aI d 8 fG), (h, ob 1 [.int (nI 0), .ref an, .ref ak, .int lt, .int se, .ref au, .int (nI pn), .ref ap, .int (nI wn), .ref aw, .int (nI cn), .ref ac, .int ln, .int ft, .int (nI on), .ref ag, .ref ax, .ref ao, .ref al, .ref av, .ref ae, .ref ar, .ref ad, .ref aW, .ref aS, .ref aN, .ref aR, .ref aG])] H := hP
  have hD : va_D A [(ak, aI d 48 fk), (au, aI d 2 fu), (ae, aB d 600 fe), (ap, aB d 500 fp), (aw, aB d 6000 fw), (ax, aI d 256 fx), (ao, aI d 44 fo), (al, aI d 16 fl), (av, aI d 16 fv), (ar, aB d 800 fr9), (ad, aB d 32 fd), (aW, aI d 64 fW), (aS, aI d 8 fS), (aN, aI d 8 fN), (aR, aI d 64 fR), (aG, aI d 8 fG), (h, ob 1 [.int (nI 0), .ref an, .ref ak, .int lt, .int se, .ref au, .int (nI pn), .ref ap, .int (nI wn), .ref aw, .int (nI cn), .ref ac, .int ln, .int ft, .int (nI on), .ref ag, .ref ax, .ref ao, .ref al, .ref av, .ref ae, .ref ar, .ref ad, .ref aW, .ref aS, .ref aN, .ref aR, .ref aG])] := hD
  refine W.eq (g2 := F0 m 28 ls [.int (nI 0)]) rfl ?_
  refine lv_if_eq (tgt := 33) C.x C.b d_MD_forge_28 (by decide) (fun _ => ?_) (fun h9 => by first | exact absurd h9 (by decide) | exact absurd (by decide) h9)
  refine lv_aload_n C.x C.b d_MD_forge_33 rfl (lv_at hl 0 rfl) ?_
  refine lv_iload_n C.x C.b d_MD_forge_34 rfl (lv_at hl 1 rfl) ?_
  refine lv_iload_n C.x C.b d_MD_forge_35 rfl (lv_at hl 2 rfl) ?_
  refine lv_iconst (v := nI 0) C.x C.b d_MD_forge_36 (by decide) ?_
  refine k_callV (As := [.int told, .int pads, .int (nI 0)]) (rest := []) (wc := [(h, ob 1 [.int (nI 0), .ref an, .ref ak, .int lt, .int se, .ref au, .int (nI pn), .ref ap, .int (nI wn), .ref aw, .int (nI cn), .ref ac, .int ln, .int ft, .int (nI on), .ref ag, .ref ax, .ref ao, .ref al, .ref av, .ref ae, .ref ar, .ref ad, .ref aW, .ref aS, .ref aN, .ref aR, .ref aG]), (ak, aI d 48 fk), (au, aI d 2 fu), (ae, aB d 600 fe), (ap, aB d 500 fp), (aw, aB d 6000 fw), (ax, aI d 256 fx), (ao, aI d 44 fo), (al, aI d 16 fl), (av, aI d 16 fv), (ar, aB d 800 fr9), (ad, aB d 32 fd), (aW, aI d 64 fW), (aS, aI d 8 fS), (aN, aI d 8 fN), (aR, aI d 64 fR), (aG, aI d 8 fG)]) (wr := []) C (c_MD_pack l d h an ak au ap aw ac ag ax ao al av ae ar ad aW aS aN aR aG (nI 0) lt se ln ft pn wn cn on fk fu fe fp fw fx fo fl fv fr9 fd fW fS fN fR fG pL wL told pads (nI 0) (hbx) (hR) (hG) (hp) (hpl) (hw) (hwl) (hpn) (hr)) mw_MD_pack ms_21 m_769 hP hD hS [16, 0, 1, 2, 3, 4, 5, 6, 7, 8, 9, 10, 11, 12, 13, 14, 15] [] rfl rfl (by decide) (by decide) (by decide) 16 rfl rfl rfl rfl hl.1 (Nat.le_of_ble_eq_true rfl) d_MD_forge_37 ⟨Nat.le_of_ble_eq_true rfl, Nat.le_of_ble_eq_true rfl⟩ ⟨by decide, by decide⟩ (fun u9 H locs hpk hP hD hS => ?_)
  obtain ⟨k2, e2, w2, o2, l2, v2, r2, d2, W2, S2, N2⟩ := u9
  have hP : va_P d.1 clz [(h, ob 1 [.int (nI 0), .ref an, .ref ak, .int lt, .int se, .ref au, .int (nI 0), .ref ap, .int (nI (wn + (5 + pn + padn pn + 32))), .ref aw, .int (nI cn), .ref ac, .int ln, .int ft, .int (nI on), .ref ag, .ref ax, .ref ao, .ref al, .ref av, .ref ae, .ref ar, .ref ad, .ref aW, .ref aS, .ref aN, .ref aR, .ref aG]), (ak, aI d 48 k2), (au, aI d 2 (upd fu 0 (fu 0 + nI 1))), (ae, aB d 600 e2), (ap, aB d 500 fp), (aw, aB d 6000 w2), (ax, aI d 256 fx), (ao, aI d 44 o2), (al, aI d 16 l2), (av, aI d 16 v2), (ar, aB d 800 r2), (ad, aB d 32 d2), (aW, aI d 64 W2), (aS, aI d 8 S2), (aN, aI d 8 N2), (aR, aI d 64 fR), (aG, aI d 8 fG)] H := hP
  have hD : va_D A [(h, ob 1 [.int (nI 0), .ref an, .ref ak, .int lt, .int se, .ref au, .int (nI 0), .ref ap, .int (nI (wn + (5 + pn + padn pn + 32))), .ref aw, .int (nI cn), .ref ac, .int ln, .int ft, .int (nI on), .ref ag, .ref ax, .ref ao, .ref al, .ref av, .ref ae, .ref ar, .ref ad, .ref aW, .ref aS, .ref aN, .ref aR, .ref aG]), (ak, aI d 48 k2), (au, aI d 2 (upd fu 0 (fu 0 + nI 1))), (ae, aB d 600 e2), (ap, aB d 500 fp), (aw, aB d 6000 w2), (ax, aI d 256 fx), (ao, aI d 44 o2), (al, aI d 16 l2), (av, aI d 16 v2), (ar, aB d 800 r2), (ad, aB d 32 d2), (aW, aI d 64 W2), (aS, aI d 8 S2), (aN, aI d 8 N2), (aR, aI d 64 fR), (aG, aI d 8 fG)] := hD
  refine W.eq (g2 := F0 m 40 ls [.int (nI (5 + pn + padn pn + 32))]) rfl ?_
  have hpk : BA w2 (wL ++ shp (shf 0 fk) (fu 0) told pads pL (nI 0)) ∧ shf 0 k2 = ctrN (shf 0 fk) ((5 + pn + padn pn) / 16) ∧ ∀ j, 16 ≤ j → k2 j = fk j := hpk
  have hP9 := hP.sub (ws' := [(h, ob 1 [.int (nI 0), .ref an, .ref ak, .int lt, .int se, .ref au, .int (nI 0), .ref ap, .int (nI (wn + (5 + pn + padn pn + 32))), .ref aw, .int (nI cn), .ref ac, .int ln, .int ft, .int (nI on), .ref ag, .ref ax, .ref ao, .ref al, .ref av, .ref ae, .ref ar, .ref ad, .ref aW, .ref aS, .ref aN, .ref aR, .ref aG]), (ak, aI d 48 k2), (au, aI d 2 (upd fu 0 (fu 0 + nI 1))), (ae, aB d 600 e2), (ap, aB d 500 fp), (aw, aB d 6000 w2), (ax, aI d 256 fx), (ao, aI d 44 o2), (al, aI d 16 l2), (av, aI d 16 v2), (ar, aB d 800 r2), (ad, aB d 32 d2), (aW, aI d 64 W2), (aS, aI d 8 S2), (aN, aI d 8 N2), (aR, aI d 64 fR), (aG, aI d 8 fG)]) [0, 1, 2, 3, 4, 5, 6, 7, 8, 9, 10, 11, 12, 13, 14, 15, 16] rfl
  have hD9 := hD.sub (ws' := [(h, ob 1 [.int (nI 0), .ref an, .ref ak, .int lt, .int se, .ref au, .int (nI 0), .ref ap, .int (nI (wn + (5 + pn + padn pn + 32))), .ref aw, .int (nI cn), .ref ac, .int ln, .int ft, .int (nI on), .ref ag, .ref ax, .ref ao, .ref al, .ref av, .ref ae, .ref ar, .ref ad, .ref aW, .ref aS, .ref aN, .ref aR, .ref aG]), (ak, aI d 48 k2), (au, aI d 2 (upd fu 0 (fu 0 + nI 1))), (ae, aB d 600 e2), (ap, aB d 500 fp), (aw, aB d 6000 w2), (ax, aI d 256 fx), (ao, aI d 44 o2), (al, aI d 16 l2), (av, aI d 16 v2), (ar, aB d 800 r2), (ad, aB d 32 d2), (aW, aI d 64 W2), (aS, aI d 8 S2), (aN, aI d 8 N2), (aR, aI d 64 fR), (aG, aI d 8 fG)]) [0, 1, 2, 3, 4, 5, 6, 7, 8, 9, 10, 11, 12, 13, 14, 15, 16] (by decide) rfl
  exact k_iret C hS (k2, e2, w2, o2, l2, v2, r2, d2, W2, S2, N2) (rfl) (hpk) hP9 hD9 d_MD_forge_40
set_option maxHeartbeats 4000000 in
set_option maxRecDepth 100000 in
theorem c_MD_sendX (l : Launch) (d : DD) (h : Nat) (an : Nat) (ak : Nat) (au : Nat) (ap : Nat) (aw : Nat) (ac : Nat) (ag : Nat) (ax : Nat) (ao : Nat) (al : Nat) (av : Nat) (ae : Nat) (ar : Nat) (ad : Nat) (aW : Nat) (aS : Nat) (aN : Nat) (aR : Nat) (aG : Nat) (th : Int32) (lt : Int32) (se : Int32) (ln : Int32) (ft : Int32) (pn : Nat) (wn : Nat) (cn : Nat) (on : Nat) (fq : Int32) (hpn : pn ≤ 500) (hwn : wn ≤ 6000) (hr : 6000 < wn + (5 + pn + padn pn + 32)) : Ct l y_MD_send b_MD_send 2 (some .int) 1 22 0 0 d [(h, ob 1 [.int th, .ref an, .ref ak, .int lt, .int se, .ref au, .int (nI pn), .ref ap, .int (nI wn), .ref aw, .int (nI cn), .ref ac, .int ln, .int ft, .int (nI on), .ref ag, .ref ax, .ref ao, .ref al, .ref av, .ref ae, .ref ar, .ref ad, .ref aW, .ref aS, .ref aN, .ref aR, .ref aG])] [.ref h, .int fq] (fun (_ : Unit) => some (.int (nI 0))) (fun (_ : Unit) => True) (fun (_ : Unit) => [(h, ob 1 [.int (nI 1), .ref an, .ref ak, .int lt, .int se, .ref au, .int (nI pn), .ref ap, .int (nI wn), .ref aw, .int (nI cn), .ref ac, .int ln, .int ft, .int (nI on), .ref ag, .ref ax, .ref ao, .ref al, .ref av, .ref ae, .ref ar, .ref ad, .ref aW, .ref aS, .ref aN, .ref aR, .ref aG])]) := by
  refine Ct.of (by decide +kernel) (Nat.le_of_ble_eq_true rfl) ?_
  intro p e s m below meth c A ls C hP hD hS hl
  have hl : lv_has ls 2 [(0, .ref h), (1, .int fq)] := hl
  have hsz9 := hS.1
  have hpl9 := padn_le pn
  have hpg9 := padn_ge pn
  have h16 := padn_16 pn
  refine lv_aload_n C.x C.b d_MD_send_0 rfl (lv_at hl 0 rfl) ?_
  refine lv_aload_n C.x C.b d_MD_send_1 rfl (lv_at hl 0 rfl) ?_
  refine k_get C hP 0 rfl rfl i_MD 8 (by decide) m_660 rfl d_MD_send_2 ?_
  refine lv_aload_n C.x C.b d_MD_send_5 rfl (lv_at hl 0 rfl) ?_
  refine k_callV (As := []) (rest := [.int (nI wn), .ref h]) (wc := [(h, ob 1 [.int th, .ref an, .ref ak, .int lt, .int se, .ref au, .int (nI pn), .ref ap, .int (nI wn), .ref aw, .int (nI cn), .ref ac, .int ln, .int ft, .int (nI on), .ref ag, .ref ax, .ref ao, .ref al, .ref av, .ref ae, .ref ar, .ref ad, .ref aW, .ref aS, .ref aN, .ref aR, .ref aG])]) (wr := []) C (c_MD_whole l d h an ak au ap aw ac ag ax ao al av ae ar ad aW aS aN aR aG th lt se ln ft pn wn cn on (hpn)) mw_MD_whole ms_20 m_765 hP hD hS [0] [] rfl rfl (by decide) (by decide) (by decide) 0 rfl rfl rfl rfl hl.1 (Nat.le_of_ble_eq_true rfl) d_MD_send_6 ⟨Nat.le_of_ble_eq_true rfl, Nat.le_of_ble_eq_true rfl⟩ ⟨by decide, by decide⟩ (fun _ H locs hw_1 hP hD hS => ?_)
  have hP : va_P d.1 clz [(h, ob 1 [.int th, .ref an, .ref ak, .int lt, .int se, .ref au, .int (nI pn), .ref ap, .int (nI wn), .ref aw, .int (nI cn), .ref ac, .int ln, .int ft, .int (nI on), .ref ag, .ref ax, .ref ao, .ref al, .ref av, .ref ae, .ref ar, .ref ad, .ref aW, .ref aS, .ref aN, .ref aR, .ref aG])] H := hP
  have hD : va_D A [(h, ob 1 [.int th, .ref an, .ref ak, .int lt, .int se, .ref au, .int (nI pn), .ref ap, .int (nI wn), .ref aw, .int (nI cn), .ref ac, .int ln, .int ft, .int (nI on), .ref ag, .ref ax, .ref ao, .ref al, .ref av, .ref ae, .ref ar, .ref ad, .ref aW, .ref aS, .ref aN, .ref aR, .ref aG])] := hD
  refine W.eq (g2 := F0 m 9 ls [.int (nI (5 + pn + padn pn)), .int (nI wn), .ref h]) rfl ?_
  refine lv_iadd C.x C.b d_MD_send_9 ?_
  refine k_top (y := nI (wn + (5 + pn + padn pn))) (nI_add _ _) ?_
  refine lv_bipush (v := nI 32) C.x C.b d_MD_send_10 (by decide) ?_
  refine lv_iadd C.x C.b d_MD_send_12 ?_
  refine k_top (y := nI (wn + (5 + pn + padn pn) + 32)) (nI_add _ _) ?_
  refine lv_sipush (v := nI 6000) C.x C.b d_MD_send_13 (by decide) ?_
  refine lv_icmp_le (tgt := 23) C.x C.b d_MD_send_16 (by decide) (fun h9 => False.elim (nI_ge (by omega) (by omega) h9)) (fun hc_2 => ?_)
  rw [nI_leI (by omega) (by omega)] at hc_2
  refine lv_iconst (v := nI 1) C.x C.b d_MD_send_19 (by decide) ?_
  refine lv_goto (tgt := 24) C.x C.b d_MD_send_20 (by decide) ?_
  refine lv_iconst (v := nI 0) C.x C.b d_MD_send_24 (by decide) ?_
  refine k_callV (As := [.int (nI 1), .int (nI 0)]) (rest := []) (wc := [(h, ob 1 [.int th, .ref an, .ref ak, .int lt, .int se, .ref au, .int (nI pn), .ref ap, .int (nI wn), .ref aw, .int (nI cn), .ref ac, .int ln, .int ft, .int (nI on), .ref ag, .ref ax, .ref ao, .ref al, .ref av, .ref ae, .ref ar, .ref ad, .ref aW, .ref aS, .ref aN, .ref aR, .ref aG])]) (wr := []) C (c_MD_refused1 l d h an ak au ap aw ac ag ax ao al av ae ar ad aW aS aN aR aG th lt se (nI pn) (nI wn) (nI cn) ln ft (nI on) (nI 0)) mw_MD_refused ms_18 m_745 hP hD hS [0] [] rfl rfl (by decide) (by decide) (by decide) 0 rfl rfl rfl rfl hl.1 (Nat.le_of_ble_eq_true rfl) d_MD_send_25 ⟨Nat.le_of_ble_eq_true rfl, Nat.le_of_ble_eq_true rfl⟩ ⟨by decide, by decide⟩ (fun _ H locs hw_3 hP hD hS => ?_)
  have hP : va_P d.1 clz [(h, ob 1 [.int (nI 1), .ref an, .ref ak, .int lt, .int se, .ref au, .int (nI pn), .ref ap, .int (nI wn), .ref aw, .int (nI cn), .ref ac, .int ln, .int ft, .int (nI on), .ref ag, .ref ax, .ref ao, .ref al, .ref av, .ref ae, .ref ar, .ref ad, .ref aW, .ref aS, .ref aN, .ref aR, .ref aG])] H := hP
  have hD : va_D A [(h, ob 1 [.int (nI 1), .ref an, .ref ak, .int lt, .int se, .ref au, .int (nI pn), .ref ap, .int (nI wn), .ref aw, .int (nI cn), .ref ac, .int ln, .int ft, .int (nI on), .ref ag, .ref ax, .ref ao, .ref al, .ref av, .ref ae, .ref ar, .ref ad, .ref aW, .ref aS, .ref aN, .ref aR, .ref aG])] := hD
  refine W.eq (g2 := F0 m 28 ls [.int (nI 1)]) rfl ?_
  refine lv_if_eq (tgt := 33) C.x C.b d_MD_send_28 (by decide) (fun h9 => by first | exact absurd h9 (by decide) | exact absurd (by decide) h9) (fun _ => ?_)
  refine lv_iconst (v := nI 0) C.x C.b d_MD_send_31 (by decide) ?_
  have hP9 := hP.sub (ws' := [(h, ob 1 [.int (nI 1), .ref an, .ref ak, .int lt, .int se, .ref au, .int (nI pn), .ref ap, .int (nI wn), .ref aw, .int (nI cn), .ref ac, .int ln, .int ft, .int (nI on), .ref ag, .ref ax, .ref ao, .ref al, .ref av, .ref ae, .ref ar, .ref ad, .ref aW, .ref aS, .ref aN, .ref aR, .ref aG])]) [0] rfl
  have hD9 := hD.sub (ws' := [(h, ob 1 [.int (nI 1), .ref an, .ref ak, .int lt, .int se, .ref au, .int (nI pn), .ref ap, .int (nI wn), .ref aw, .int (nI cn), .ref ac, .int ln, .int ft, .int (nI on), .ref ag, .ref ax, .ref ao, .ref al, .ref av, .ref ae, .ref ar, .ref ad, .ref aW, .ref aS, .ref aN, .ref aR, .ref aG])]) [0] (by decide) rfl
  exact k_iret C hS () (rfl) (trivial) hP9 hD9 d_MD_send_32
set_option maxHeartbeats 4000000 in
set_option maxRecDepth 100000 in
theorem c_MD_forgeX (l : Launch) (d : DD) (h : Nat) (an : Nat) (ak : Nat) (au : Nat) (ap : Nat) (aw : Nat) (ac : Nat) (ag : Nat) (ax : Nat) (ao : Nat) (al : Nat) (av : Nat) (ae : Nat) (ar : Nat) (ad : Nat) (aW : Nat) (aS : Nat) (aN : Nat) (aR : Nat) (aG : Nat) (th : Int32) (lt : Int32) (se : Int32) (ln : Int32) (ft : Int32) (pn : Nat) (wn : Nat) (cn : Nat) (on : Nat) (told : Int32) (pads : Int32) (hpn : pn ≤ 500) (hwn : wn ≤ 6000) (hr : 6000 < wn + (5 + pn + padn pn + 32)) : Ct l y_MD_forge b_MD_forge 3 (some .int) 1 22 0 0 d [(h, ob 1 [.int th, .ref an, .ref ak, .int lt, .int se, .ref au, .int (nI pn), .ref ap, .int (nI wn), .ref aw, .int (nI cn), .ref ac, .int ln, .int ft, .int (nI on), .ref ag, .ref ax, .ref ao, .ref al, .ref av, .ref ae, .ref ar, .ref ad, .ref aW, .ref aS, .ref aN, .ref aR, .ref aG])] [.ref h, .int told, .int pads] (fun (_ : Unit) => some (.int (nI 0))) (fun (_ : Unit) => True) (fun (_ : Unit) => [(h, ob 1 [.int (nI 1), .ref an, .ref ak, .int lt, .int se, .ref au, .int (nI pn), .ref ap, .int (nI wn), .ref aw, .int (nI cn), .ref ac, .int ln, .int ft, .int (nI on), .ref ag, .ref ax, .ref ao, .ref al, .ref av, .ref ae, .ref ar, .ref ad, .ref aW, .ref aS, .ref aN, .ref aR, .ref aG])]) := by
  refine Ct.of (by decide +kernel) (Nat.le_of_ble_eq_true rfl) ?_
  intro p e s m below meth c A ls C hP hD hS hl
  have hl : lv_has ls 3 [(0, .ref h), (1, .int told), (2, .int pads)] := hl
  have hsz9 := hS.1
  have hpl9 := padn_le pn
  have hpg9 := padn_ge pn
  have h16 := padn_16 pn
  refine lv_aload_n C.x C.b d_MD_forge_0 rfl (lv_at hl 0 rfl) ?_
  refine lv_aload_n C.x C.b d_MD_forge_1 rfl (lv_at hl 0 rfl) ?_
  refine k_get C hP 0 rfl rfl i_MD 8 (by decide) m_660 rfl d_MD_forge_2 ?_
  refine lv_aload_n C.x C.b d_MD_forge_5 rfl (lv_at hl 0 rfl) ?_
  refine k_callV (As := []) (rest := [.int (nI wn), .ref h]) (wc := [(h, ob 1 [.int th, .ref an, .ref ak, .int lt, .int se, .ref au, .int (nI pn), .ref ap, .int (nI wn), .ref aw, .int (nI cn), .ref ac, .int ln, .int ft, .int (nI on), .ref ag, .ref ax, .ref ao, .ref al, .ref av, .ref ae, .ref ar, .ref ad, .ref aW, .ref aS, .ref aN, .ref aR, .ref aG])]) (wr := []) C (c_MD_whole l d h an ak au ap aw ac ag ax ao al av ae ar ad aW aS aN aR aG th lt se ln ft pn wn cn on (hpn)) mw_MD_whole ms_20 m_765 hP hD hS [0] [] rfl rfl (by decide) (by decide) (by decide) 0 rfl rfl rfl rfl hl.1 (Nat.le_of_ble_eq_true rfl) d_MD_forge_6 ⟨Nat.le_of_ble_eq_true rfl, Nat.le_of_ble_eq_true rfl⟩ ⟨by decide, by decide⟩ (fun _ H locs hw_1 hP hD hS => ?_)
  have hP : va_P d.1 clz [(h, ob 1 [.int th, .ref an, .ref ak, .int lt, .int se, .ref au, .int (nI pn), .ref ap, .int (nI wn), .ref aw, .int (nI cn), .ref ac, .int ln, .int ft, .int (nI on), .ref ag, .ref ax, .ref ao, .ref al, .ref av, .ref ae, .ref ar, .ref ad, .ref aW, .ref aS, .ref aN, .ref aR, .ref aG])] H := hP
  have hD : va_D A [(h, ob 1 [.int th, .ref an, .ref ak, .int lt, .int se, .ref au, .int (nI pn), .ref ap, .int (nI wn), .ref aw, .int (nI cn), .ref ac, .int ln, .int ft, .int (nI on), .ref ag, .ref ax, .ref ao, .ref al, .ref av, .ref ae, .ref ar, .ref ad, .ref aW, .ref aS, .ref aN, .ref aR, .ref aG])] := hD
  refine W.eq (g2 := F0 m 9 ls [.int (nI (5 + pn + padn pn)), .int (nI wn), .ref h]) rfl ?_
  refine lv_iadd C.x C.b d_MD_forge_9 ?_
  refine k_top (y := nI (wn + (5 + pn + padn pn))) (nI_add _ _) ?_
  refine lv_bipush (v := nI 32) C.x C.b d_MD_forge_10 (by decide) ?_
  refine lv_iadd C.x C.b d_MD_forge_12 ?_
  refine k_top (y := nI (wn + (5 + pn + padn pn) + 32)) (nI_add _ _) ?_
  refine lv_sipush (v := nI 6000) C.x C.b d_MD_forge_13 (by decide) ?_
  refine lv_icmp_le (tgt := 23) C.x C.b d_MD_forge_16 (by decide) (fun h9 => False.elim (nI_ge (by omega) (by omega) h9)) (fun hc_2 => ?_)
  rw [nI_leI (by omega) (by omega)] at hc_2
  refine lv_iconst (v := nI 1) C.x C.b d_MD_forge_19 (by decide) ?_
  refine lv_goto (tgt := 24) C.x C.b d_MD_forge_20 (by decide) ?_
  refine lv_iconst (v := nI 0) C.x C.b d_MD_forge_24 (by decide) ?_
  refine k_callV (As := [.int (nI 1), .int (nI 0)]) (rest := []) (wc := [(h, ob 1 [.int th, .ref an, .ref ak, .int lt, .int se, .ref au, .int (nI pn), .ref ap, .int (nI wn), .ref aw, .int (nI cn), .ref ac, .int ln, .int ft, .int (nI on), .ref ag, .ref ax, .ref ao, .ref al, .ref av, .ref ae, .ref ar, .ref ad, .ref aW, .ref aS, .ref aN, .ref aR, .ref aG])]) (wr := []) C (c_MD_refused1 l d h an ak au ap aw ac ag ax ao al av ae ar ad aW aS aN aR aG th lt se (nI pn) (nI wn) (nI cn) ln ft (nI on) (nI 0)) mw_MD_refused ms_18 m_745 hP hD hS [0] [] rfl rfl (by decide) (by decide) (by decide) 0 rfl rfl rfl rfl hl.1 (Nat.le_of_ble_eq_true rfl) d_MD_forge_25 ⟨Nat.le_of_ble_eq_true rfl, Nat.le_of_ble_eq_true rfl⟩ ⟨by decide, by decide⟩ (fun _ H locs hw_3 hP hD hS => ?_)
  have hP : va_P d.1 clz [(h, ob 1 [.int (nI 1), .ref an, .ref ak, .int lt, .int se, .ref au, .int (nI pn), .ref ap, .int (nI wn), .ref aw, .int (nI cn), .ref ac, .int ln, .int ft, .int (nI on), .ref ag, .ref ax, .ref ao, .ref al, .ref av, .ref ae, .ref ar, .ref ad, .ref aW, .ref aS, .ref aN, .ref aR, .ref aG])] H := hP
  have hD : va_D A [(h, ob 1 [.int (nI 1), .ref an, .ref ak, .int lt, .int se, .ref au, .int (nI pn), .ref ap, .int (nI wn), .ref aw, .int (nI cn), .ref ac, .int ln, .int ft, .int (nI on), .ref ag, .ref ax, .ref ao, .ref al, .ref av, .ref ae, .ref ar, .ref ad, .ref aW, .ref aS, .ref aN, .ref aR, .ref aG])] := hD
  refine W.eq (g2 := F0 m 28 ls [.int (nI 1)]) rfl ?_
  refine lv_if_eq (tgt := 33) C.x C.b d_MD_forge_28 (by decide) (fun h9 => by first | exact absurd h9 (by decide) | exact absurd (by decide) h9) (fun _ => ?_)
  refine lv_iconst (v := nI 0) C.x C.b d_MD_forge_31 (by decide) ?_
  have hP9 := hP.sub (ws' := [(h, ob 1 [.int (nI 1), .ref an, .ref ak, .int lt, .int se, .ref au, .int (nI pn), .ref ap, .int (nI wn), .ref aw, .int (nI cn), .ref ac, .int ln, .int ft, .int (nI on), .ref ag, .ref ax, .ref ao, .ref al, .ref av, .ref ae, .ref ar, .ref ad, .ref aW, .ref aS, .ref aN, .ref aR, .ref aG])]) [0] rfl
  have hD9 := hD.sub (ws' := [(h, ob 1 [.int (nI 1), .ref an, .ref ak, .int lt, .int se, .ref au, .int (nI pn), .ref ap, .int (nI wn), .ref aw, .int (nI cn), .ref ac, .int ln, .int ft, .int (nI on), .ref ag, .ref ax, .ref ao, .ref al, .ref av, .ref ae, .ref ar, .ref ad, .ref aW, .ref aS, .ref aN, .ref aR, .ref aG])]) [0] (by decide) rfl
  exact k_iret C hS () (rfl) (trivial) hP9 hD9 d_MD_forge_32
theorem mw_MD_onTheWay : Mw y_MD_onTheWay b_MD_onTheWay 1 (some .int) 0 := ⟨m_823, m_9, m_821, by decide +kernel⟩
set_option maxHeartbeats 4000000 in
set_option maxRecDepth 100000 in
theorem c_MD_onTheWay (l : Launch) (d : DD) (h : Nat) (an : Nat) (ak : Nat) (au : Nat) (ap : Nat) (aw : Nat) (ac : Nat) (ag : Nat) (ax : Nat) (ao : Nat) (al : Nat) (av : Nat) (ae : Nat) (ar : Nat) (ad : Nat) (aW : Nat) (aS : Nat) (aN : Nat) (aR : Nat) (aG : Nat) (th : Int32) (lt : Int32) (se : Int32) (ln : Int32) (ft : Int32) (pn : Nat) (wn : Nat) (cn : Nat) (on : Nat) : Ct l y_MD_onTheWay b_MD_onTheWay 1 (some .int) 0 0 0 0 d [(h, ob 1 [.int th, .ref an, .ref ak, .int lt, .int se, .ref au, .int (nI pn), .ref ap, .int (nI wn), .ref aw, .int (nI cn), .ref ac, .int ln, .int ft, .int (nI on), .ref ag, .ref ax, .ref ao, .ref al, .ref av, .ref ae, .ref ar, .ref ad, .ref aW, .ref aS, .ref aN, .ref aR, .ref aG])] [.ref h] (fun (_ : Unit) => some (.int (nI wn))) (fun (_ : Unit) => True) (fun (_ : Unit) => [(h, ob 1 [.int (nI 0), .ref an, .ref ak, .int lt, .int se, .ref au, .int (nI pn), .ref ap, .int (nI wn), .ref aw, .int (nI cn), .ref ac, .int ln, .int ft, .int (nI on), .ref ag, .ref ax, .ref ao, .ref al, .ref av, .ref ae, .ref ar, .ref ad, .ref aW, .ref aS, .ref aN, .ref aR, .ref aG])]) := by
  refine Ct.of (by decide +kernel) (Nat.le_of_ble_eq_true rfl) ?_
  intro p e s m below meth c A ls C hP hD hS hl
  have hl : lv_has ls 1 [(0, .ref h)] := hl
  have hsz9 := hS.1
  refine lv_aload_n C.x C.b d_MD_onTheWay_0 rfl (lv_at hl 0 rfl) ?_
  refine lv_iconst (v := nI 0) C.x C.b d_MD_onTheWay_1 (by decide) ?_
  refine k_put C hP hD hS 0 rfl rfl i_MD tk_MD n_MD 0 (by decide) m_652 rfl rfl rfl (Nat.le_of_ble_eq_true rfl) d_MD_onTheWay_2 (fun H locs hP hD hS => ?_)
  have hP : va_P d.1 clz [(h, ob 1 [.int (nI 0), .ref an, .ref ak, .int lt, .int se, .ref au, .int (nI pn), .ref ap, .int (nI wn), .ref aw, .int (nI cn), .ref ac, .int ln, .int ft, .int (nI on), .ref ag, .ref ax, .ref ao, .ref al, .ref av, .ref ae, .ref ar, .ref ad, .ref aW, .ref aS, .ref aN, .ref aR, .ref aG])] H := hP
  have hD : va_D A [(h, ob 1 [.int (nI 0), .ref an, .ref ak, .int lt, .int se, .ref au, .int (nI pn), .ref ap, .int (nI wn), .ref aw, .int (nI cn), .ref ac, .int ln, .int ft, .int (nI on), .ref ag, .ref ax, .ref ao, .ref al, .ref av, .ref ae, .ref ar, .ref ad, .ref aW, .ref aS, .ref aN, .ref aR, .ref aG])] := hD
  refine lv_aload_n C.x C.b d_MD_onTheWay_5 rfl (lv_at hl 0 rfl) ?_
  refine k_get C hP 0 rfl rfl i_MD 8 (by decide) m_660 rfl d_MD_onTheWay_6 ?_
  have hP9 := hP.sub (ws' := [(h, ob 1 [.int (nI 0), .ref an, .ref ak, .int lt, .int se, .ref au, .int (nI pn), .ref ap, .int (nI wn), .ref aw, .int (nI cn), .ref ac, .int ln, .int ft, .int (nI on), .ref ag, .ref ax, .ref ao, .ref al, .ref av, .ref ae, .ref ar, .ref ad, .ref aW, .ref aS, .ref aN, .ref aR, .ref aG])]) [0] rfl
  have hD9 := hD.sub (ws' := [(h, ob 1 [.int (nI 0), .ref an, .ref ak, .int lt, .int se, .ref au, .int (nI pn), .ref ap, .int (nI wn), .ref aw, .int (nI cn), .ref ac, .int ln, .int ft, .int (nI on), .ref ag, .ref ax, .ref ao, .ref al, .ref av, .ref ae, .ref ar, .ref ad, .ref aW, .ref aS, .ref aN, .ref aR, .ref aG])]) [0] (by decide) rfl
  exact k_iret C hS () (rfl) (trivial) hP9 hD9 d_MD_onTheWay_9
theorem mw_MD_octet : Mw y_MD_octet b_MD_octet 2 (some .int) 1 := ⟨m_827, m_9, m_825, by decide +kernel⟩
set_option maxHeartbeats 4000000 in
set_option maxRecDepth 100000 in
theorem c_MD_octet (l : Launch) (d : DD) (h : Nat) (an : Nat) (ak : Nat) (au : Nat) (ap : Nat) (aw : Nat) (ac : Nat) (ag : Nat) (ax : Nat) (ao : Nat) (al : Nat) (av : Nat) (ae : Nat) (ar : Nat) (ad : Nat) (aW : Nat) (aS : Nat) (aN : Nat) (aR : Nat) (aG : Nat) (th : Int32) (lt : Int32) (se : Int32) (ln : Int32) (ft : Int32) (pn : Nat) (wn : Nat) (cn : Nat) (on : Nat) (fw : Nat → Int32) (i : Nat) (wL : List Int32) (hw : BA fw wL) (hwl : wL.length = wn) (hwn : wn ≤ 6000) (hi : i < wn) : Ct l y_MD_octet b_MD_octet 2 (some .int) 1 22 0 0 d [(h, ob 1 [.int th, .ref an, .ref ak, .int lt, .int se, .ref au, .int (nI pn), .ref ap, .int (nI wn), .ref aw, .int (nI cn), .ref ac, .int ln, .int ft, .int (nI on), .ref ag, .ref ax, .ref ao, .ref al, .ref av, .ref ae, .ref ar, .ref ad, .ref aW, .ref aS, .ref aN, .ref aR, .ref aG]), (aw, aB d 6000 fw)] [.ref h, .int (nI i)] (fun (_ : Unit) => some (.int (wL.getD i 0))) (fun (_ : Unit) => True) (fun (_ : Unit) => [(h, ob 1 [.int (nI 0), .ref an, .ref ak, .int lt, .int se, .ref au, .int (nI pn), .ref ap, .int (nI wn), .ref aw, .int (nI cn), .ref ac, .int ln, .int ft, .int (nI on), .ref ag, .ref ax, .ref ao, .ref al, .ref av, .ref ae, .ref ar, .ref ad, .ref aW, .ref aS, .ref aN, .ref aR, .ref aG]), (aw, aB d 6000 fw)]) := by
  refine Ct.of (by decide +kernel) (Nat.le_of_ble_eq_true rfl) ?_
  intro p e s m below meth c A ls C hP hD hS hl
  have hl : lv_has ls 2 [(0, .ref h), (1, .int (nI i))] := hl
  have hsz9 := hS.1
  refine lv_aload_n C.x C.b d_MD_octet_0 rfl (lv_at hl 0 rfl) ?_
  refine lv_iload_n C.x C.b d_MD_octet_1 rfl (lv_at hl 1 rfl) ?_
  refine lv_if_lt (tgt := 13) C.x C.b d_MD_octet_2 (by decide) (fun h9 => False.elim (nI_pos (by omega) h9)) (fun hc_1 => ?_)
  rw [← nI_0, nI_ltI (by omega) (by omega)] at hc_1
  refine lv_iload_n C.x C.b d_MD_octet_5 rfl (lv_at hl 1 rfl) ?_
  refine lv_aload_n C.x C.b d_MD_octet_6 rfl (lv_at hl 0 rfl) ?_
  refine k_get C hP 0 rfl rfl i_MD 8 (by decide) m_660 rfl d_MD_octet_7 ?_
  refine lv_icmp_lt (tgt := 17) C.x C.b d_MD_octet_10 (by decide) (fun hc_2 => ?_) (fun h9 => False.elim (h9 (nI_lt (by omega) (by omega))))
  rw [nI_ltI (by omega) (by omega)] at hc_2
  refine lv_iconst (v := nI 0) C.x C.b d_MD_octet_17 (by decide) ?_
  refine lv_iconst (v := nI 0) C.x C.b d_MD_octet_18 (by decide) ?_
  refine k_callV (As := [.int (nI 0), .int (nI 0)]) (rest := []) (wc := [(h, ob 1 [.int th, .ref an, .ref ak, .int lt, .int se, .ref au, .int (nI pn), .ref ap, .int (nI wn), .ref aw, .int (nI cn), .ref ac, .int ln, .int ft, .int (nI on), .ref ag, .ref ax, .ref ao, .ref al, .ref av, .ref ae, .ref ar, .ref ad, .ref aW, .ref aS, .ref aN, .ref aR, .ref aG])]) (wr := [(aw, aB d 6000 fw)]) C (c_MD_refused0 l d h an ak au ap aw ac ag ax ao al av ae ar ad aW aS aN aR aG th lt se (nI pn) (nI wn) (nI cn) ln ft (nI on)) mw_MD_refused ms_18 m_745 hP hD hS [0] [1] rfl rfl (by decide) (by decide) (by decide) 0 rfl rfl rfl rfl hl.1 (Nat.le_of_ble_eq_true rfl) d_MD_octet_19 ⟨Nat.le_of_ble_eq_true rfl, Nat.le_of_ble_eq_true rfl⟩ ⟨by decide, by decide⟩ (fun _ H locs hw_3 hP hD hS => ?_)
  have hP : va_P d.1 clz [(aw, aB d 6000 fw), (h, ob 1 [.int (nI 0), .ref an, .ref ak, .int lt, .int se, .ref au, .int (nI pn), .ref ap, .int (nI wn), .ref aw, .int (nI cn), .ref ac, .int ln, .int ft, .int (nI on), .ref ag, .ref ax, .ref ao, .ref al, .ref av, .ref ae, .ref ar, .ref ad, .ref aW, .ref aS, .ref aN, .ref aR, .ref aG])] H := hP
  have hD : va_D A [(aw, aB d 6000 fw), (h, ob 1 [.int (nI 0), .ref an, .ref ak, .int lt, .int se, .ref au, .int (nI pn), .ref ap, .int (nI wn), .ref aw, .int (nI cn), .ref ac, .int ln, .int ft, .int (nI on), .ref ag, .ref ax, .ref ao, .ref al, .ref av, .ref ae, .ref ar, .ref ad, .ref aW, .ref aS, .ref aN, .ref aR, .ref aG])] := hD
  refine W.eq (g2 := F0 m 22 ls [.int (nI 0)]) rfl ?_
  refine lv_if_eq (tgt := 29) C.x C.b d_MD_octet_22 (by decide) (fun _ => ?_) (fun h9 => by first | exact absurd h9 (by decide) | exact absurd (by decide) h9)
  refine lv_aload_n C.x C.b d_MD_octet_29 rfl (lv_at hl 0 rfl) ?_
  refine k_get C hP 1 rfl rfl i_MD 9 (by decide) m_661 rfl d_MD_octet_30 ?_
  refine lv_iload_n C.x C.b d_MD_octet_33 rfl (lv_at hl 1 rfl) ?_
  refine k_bald C hP 0 rfl (j := i) (by omega) (by omega) d_MD_octet_34 ?_
  refine lv_sipush (v := nI 255) C.x C.b d_MD_octet_35 (by decide) ?_
  refine lv_iand C.x C.b d_MD_octet_38 ?_
  have hP9 := hP.sub (ws' := [(h, ob 1 [.int (nI 0), .ref an, .ref ak, .int lt, .int se, .ref au, .int (nI pn), .ref ap, .int (nI wn), .ref aw, .int (nI cn), .ref ac, .int ln, .int ft, .int (nI on), .ref ag, .ref ax, .ref ao, .ref al, .ref av, .ref ae, .ref ar, .ref ad, .ref aW, .ref aS, .ref aN, .ref aR, .ref aG]), (aw, aB d 6000 fw)]) [1, 0] rfl
  have hD9 := hD.sub (ws' := [(h, ob 1 [.int (nI 0), .ref an, .ref ak, .int lt, .int se, .ref au, .int (nI pn), .ref ap, .int (nI wn), .ref aw, .int (nI cn), .ref ac, .int ln, .int ft, .int (nI on), .ref ag, .ref ax, .ref ao, .ref al, .ref av, .ref ae, .ref ar, .ref ad, .ref aW, .ref aS, .ref aN, .ref aR, .ref aG]), (aw, aB d 6000 fw)]) [1, 0] (by decide) rfl
  exact k_iret C hS () (by show some (Value.int (wL.getD i 0)) = _; rw [ba_and hw (by omega)]) (trivial) hP9 hD9 d_MD_octet_39
theorem mw_MD_got : Mw y_MD_got b_MD_got 2 (some .int) 1 := ⟨m_851, m_9, m_849, by decide +kernel⟩
set_option maxHeartbeats 4000000 in
set_option maxRecDepth 100000 in
theorem c_MD_got (l : Launch) (d : DD) (h : Nat) (an : Nat) (ak : Nat) (au : Nat) (ap : Nat) (aw : Nat) (ac : Nat) (ag : Nat) (ax : Nat) (ao : Nat) (al : Nat) (av : Nat) (ae : Nat) (ar : Nat) (ad : Nat) (aW : Nat) (aS : Nat) (aN : Nat) (aR : Nat) (aG : Nat) (th : Int32) (lt : Int32) (se : Int32) (ln : Int32) (ft : Int32) (pn : Nat) (wn : Nat) (cn : Nat) (on : Nat) (fg : Nat → Int32) (i : Nat) (oL : List Int32) (hw : BA fg oL) (hwl : oL.length = on) (hwn : on ≤ 600) (hi : i < on) : Ct l y_MD_got b_MD_got 2 (some .int) 1 22 0 0 d [(h, ob 1 [.int th, .ref an, .ref ak, .int lt, .int se, .ref au, .int (nI pn), .ref ap, .int (nI wn), .ref aw, .int (nI cn), .ref ac, .int ln, .int ft, .int (nI on), .ref ag, .ref ax, .ref ao, .ref al, .ref av, .ref ae, .ref ar, .ref ad, .ref aW, .ref aS, .ref aN, .ref aR, .ref aG]), (ag, aB d 600 fg)] [.ref h, .int (nI i)] (fun (_ : Unit) => some (.int (oL.getD i 0))) (fun (_ : Unit) => True) (fun (_ : Unit) => [(h, ob 1 [.int (nI 0), .ref an, .ref ak, .int lt, .int se, .ref au, .int (nI pn), .ref ap, .int (nI wn), .ref aw, .int (nI cn), .ref ac, .int ln, .int ft, .int (nI on), .ref ag, .ref ax, .ref ao, .ref al, .ref av, .ref ae, .ref ar, .ref ad, .ref aW, .ref aS, .ref aN, .ref aR, .ref aG]), (ag, aB d 600 fg)]) := by
  refine Ct.of (by decide +kernel) (Nat.le_of_ble_eq_true rfl) ?_
  intro p e s m below meth c A ls C hP hD hS hl
  have hl : lv_has ls 2 [(0, .ref h), (1, .int (nI i))] := hl
  have hsz9 := hS.1
  refine lv_aload_n C.x C.b d_MD_got_0 rfl (lv_at hl 0 rfl) ?_
  refine lv_iload_n C.x C.b d_MD_got_1 rfl (lv_at hl 1 rfl) ?_
  refine lv_if_lt (tgt := 13) C.x C.b d_MD_got_2 (by decide) (fun h9 => False.elim (nI_pos (by omega) h9)) (fun hc_1 => ?_)
  rw [← nI_0, nI_ltI (by omega) (by omega)] at hc_1
  refine lv_iload_n C.x C.b d_MD_got_5 rfl (lv_at hl 1 rfl) ?_
  refine lv_aload_n C.x C.b d_MD_got_6 rfl (lv_at hl 0 rfl) ?_
  refine k_get C hP 0 rfl rfl i_MD 14 (by decide) m_666 rfl d_MD_got_7 ?_
  refine lv_icmp_lt (tgt := 17) C.x C.b d_MD_got_10 (by decide) (fun hc_2 => ?_) (fun h9 => False.elim (h9 (nI_lt (by omega) (by omega))))
  rw [nI_ltI (by omega) (by omega)] at hc_2
  refine lv_iconst (v := nI 0) C.x C.b d_MD_got_17 (by decide) ?_
  refine lv_iconst (v := nI 0) C.x C.b d_MD_got_18 (by decide) ?_
  refine k_callV (As := [.int (nI 0), .int (nI 0)]) (rest := []) (wc := [(h, ob 1 [.int th, .ref an, .ref ak, .int lt, .int se, .ref au, .int (nI pn), .ref ap, .int (nI wn), .ref aw, .int (nI cn), .ref ac, .int ln, .int ft, .int (nI on), .ref ag, .ref ax, .ref ao, .ref al, .ref av, .ref ae, .ref ar, .ref ad, .ref aW, .ref aS, .ref aN, .ref aR, .ref aG])]) (wr := [(ag, aB d 600 fg)]) C (c_MD_refused0 l d h an ak au ap aw ac ag ax ao al av ae ar ad aW aS aN aR aG th lt se (nI pn) (nI wn) (nI cn) ln ft (nI on)) mw_MD_refused ms_18 m_745 hP hD hS [0] [1] rfl rfl (by decide) (by decide) (by decide) 0 rfl rfl rfl rfl hl.1 (Nat.le_of_ble_eq_true rfl) d_MD_got_19 ⟨Nat.le_of_ble_eq_true rfl, Nat.le_of_ble_eq_true rfl⟩ ⟨by decide, by decide⟩ (fun _ H locs hw_3 hP hD hS => ?_)
  have hP : va_P d.1 clz [(ag, aB d 600 fg), (h, ob 1 [.int (nI 0), .ref an, .ref ak, .int lt, .int se, .ref au, .int (nI pn), .ref ap, .int (nI wn), .ref aw, .int (nI cn), .ref ac, .int ln, .int ft, .int (nI on), .ref ag, .ref ax, .ref ao, .ref al, .ref av, .ref ae, .ref ar, .ref ad, .ref aW, .ref aS, .ref aN, .ref aR, .ref aG])] H := hP
  have hD : va_D A [(ag, aB d 600 fg), (h, ob 1 [.int (nI 0), .ref an, .ref ak, .int lt, .int se, .ref au, .int (nI pn), .ref ap, .int (nI wn), .ref aw, .int (nI cn), .ref ac, .int ln, .int ft, .int (nI on), .ref ag, .ref ax, .ref ao, .ref al, .ref av, .ref ae, .ref ar, .ref ad, .ref aW, .ref aS, .ref aN, .ref aR, .ref aG])] := hD
  refine W.eq (g2 := F0 m 22 ls [.int (nI 0)]) rfl ?_
  refine lv_if_eq (tgt := 29) C.x C.b d_MD_got_22 (by decide) (fun _ => ?_) (fun h9 => by first | exact absurd h9 (by decide) | exact absurd (by decide) h9)
  refine lv_aload_n C.x C.b d_MD_got_29 rfl (lv_at hl 0 rfl) ?_
  refine k_get C hP 1 rfl rfl i_MD 15 (by decide) m_667 rfl d_MD_got_30 ?_
  refine lv_iload_n C.x C.b d_MD_got_33 rfl (lv_at hl 1 rfl) ?_
  refine k_bald C hP 0 rfl (j := i) (by omega) (by omega) d_MD_got_34 ?_
  refine lv_sipush (v := nI 255) C.x C.b d_MD_got_35 (by decide) ?_
  refine lv_iand C.x C.b d_MD_got_38 ?_
  have hP9 := hP.sub (ws' := [(h, ob 1 [.int (nI 0), .ref an, .ref ak, .int lt, .int se, .ref au, .int (nI pn), .ref ap, .int (nI wn), .ref aw, .int (nI cn), .ref ac, .int ln, .int ft, .int (nI on), .ref ag, .ref ax, .ref ao, .ref al, .ref av, .ref ae, .ref ar, .ref ad, .ref aW, .ref aS, .ref aN, .ref aR, .ref aG]), (ag, aB d 600 fg)]) [1, 0] rfl
  have hD9 := hD.sub (ws' := [(h, ob 1 [.int (nI 0), .ref an, .ref ak, .int lt, .int se, .ref au, .int (nI pn), .ref ap, .int (nI wn), .ref aw, .int (nI cn), .ref ac, .int ln, .int ft, .int (nI on), .ref ag, .ref ax, .ref ao, .ref al, .ref av, .ref ae, .ref ar, .ref ad, .ref aW, .ref aS, .ref aN, .ref aR, .ref aG]), (ag, aB d 600 fg)]) [1, 0] (by decide) rfl
  exact k_iret C hS () (by show some (Value.int (oL.getD i 0)) = _; rw [ba_and hw (by omega)]) (trivial) hP9 hD9 d_MD_got_39
set_option maxHeartbeats 4000000 in
set_option maxRecDepth 100000 in
theorem c_MD_octetX (l : Launch) (d : DD) (h : Nat) (an : Nat) (ak : Nat) (au : Nat) (ap : Nat) (aw : Nat) (ac : Nat) (ag : Nat) (ax : Nat) (ao : Nat) (al : Nat) (av : Nat) (ae : Nat) (ar : Nat) (ad : Nat) (aW : Nat) (aS : Nat) (aN : Nat) (aR : Nat) (aG : Nat) (th : Int32) (lt : Int32) (se : Int32) (zs : Int32) (mn : Int32) (cz : Int32) (ln : Int32) (ft : Int32) (gz : Int32) (i : Int32) (hbad : i < 0 ∨ mn ≤ i) : Ct l y_MD_octet b_MD_octet 2 (some .int) 1 22 0 0 d [(h, ob 1 [.int th, .ref an, .ref ak, .int lt, .int se, .ref au, .int zs, .ref ap, .int mn, .ref aw, .int cz, .ref ac, .int ln, .int ft, .int gz, .ref ag, .ref ax, .ref ao, .ref al, .ref av, .ref ae, .ref ar, .ref ad, .ref aW, .ref aS, .ref aN, .ref aR, .ref aG])] [.ref h, .int i] (fun (_ : Unit) => some (.int (nI 0))) (fun (_ : Unit) => True) (fun (_ : Unit) => [(h, ob 1 [.int (nI 1), .ref an, .ref ak, .int lt, .int se, .ref au, .int zs, .ref ap, .int mn, .ref aw, .int cz, .ref ac, .int ln, .int ft, .int gz, .ref ag, .ref ax, .ref ao, .ref al, .ref av, .ref ae, .ref ar, .ref ad, .ref aW, .ref aS, .ref aN, .ref aR, .ref aG])]) := by
  refine Ct.of (by decide +kernel) (Nat.le_of_ble_eq_true rfl) ?_
  intro p e s m below meth c A ls C hP hD hS hl
  have hl : lv_has ls 2 [(0, .ref h), (1, .int i)] := hl
  have hsz9 := hS.1
  refine lv_aload_n C.x C.b d_MD_octet_0 rfl (lv_at hl 0 rfl) ?_
  refine lv_iload_n C.x C.b d_MD_octet_1 rfl (lv_at hl 1 rfl) ?_
  refine lv_if_lt (tgt := 13) C.x C.b d_MD_octet_2 (by decide) (fun hca => ?_) (fun hca => ?_)
  · refine lv_iconst (v := nI 1) C.x C.b d_MD_octet_13 (by decide) ?_
    refine lv_goto (tgt := 18) C.x C.b d_MD_octet_14 (by decide) ?_
    refine lv_iconst (v := nI 0) C.x C.b d_MD_octet_18 (by decide) ?_
    refine k_callV (As := [.int (nI 1), .int (nI 0)]) (rest := []) (wc := [(h, ob 1 [.int th, .ref an, .ref ak, .int lt, .int se, .ref au, .int zs, .ref ap, .int mn, .ref aw, .int cz, .ref ac, .int ln, .int ft, .int gz, .ref ag, .ref ax, .ref ao, .ref al, .ref av, .ref ae, .ref ar, .ref ad, .ref aW, .ref aS, .ref aN, .ref aR, .ref aG])]) (wr := []) C (c_MD_refused1 l d h an ak au ap aw ac ag ax ao al av ae ar ad aW aS aN aR aG th lt se zs mn cz ln ft gz (nI 0)) mw_MD_refused ms_18 m_745 hP hD hS [0] [] rfl rfl (by decide) (by decide) (by decide) 0 rfl rfl rfl rfl hl.1 (Nat.le_of_ble_eq_true rfl) d_MD_octet_19 ⟨Nat.le_of_ble_eq_true rfl, Nat.le_of_ble_eq_true rfl⟩ ⟨by decide, by decide⟩ (fun _ H locs hw_2 hP hD hS => ?_)
    have hP : va_P d.1 clz [(h, ob 1 [.int (nI 1), .ref an, .ref ak, .int lt, .int se, .ref au, .int zs, .ref ap, .int mn, .ref aw, .int cz, .ref ac, .int ln, .int ft, .int gz, .ref ag, .ref ax, .ref ao, .ref al, .ref av, .ref ae, .ref ar, .ref ad, .ref aW, .ref aS, .ref aN, .ref aR, .ref aG])] H := hP
    have hD : va_D A [(h, ob 1 [.int (nI 1), .ref an, .ref ak, .int lt, .int se, .ref au, .int zs, .ref ap, .int mn, .ref aw, .int cz, .ref ac, .int ln, .int ft, .int gz, .ref ag, .ref ax, .ref ao, .ref al, .ref av, .ref ae, .ref ar, .ref ad, .ref aW, .ref aS, .ref aN, .ref aR, .ref aG])] := hD
    refine W.eq (g2 := F0 m 22 ls [.int (nI 1)]) rfl ?_
    refine lv_if_eq (tgt := 29) C.x C.b d_MD_octet_22 (by decide) (fun h9 => by first | exact absurd h9 (by decide) | exact absurd (by decide) h9) (fun _ => ?_)
    refine lv_iconst (v := nI 0) C.x C.b d_MD_octet_25 (by decide) ?_
    refine lv_goto (tgt := 39) C.x C.b d_MD_octet_26 (by decide) ?_
    have hP9 := hP.sub (ws' := [(h, ob 1 [.int (nI 1), .ref an, .ref ak, .int lt, .int se, .ref au, .int zs, .ref ap, .int mn, .ref aw, .int cz, .ref ac, .int ln, .int ft, .int gz, .ref ag, .ref ax, .ref ao, .ref al, .ref av, .ref ae, .ref ar, .ref ad, .ref aW, .ref aS, .ref aN, .ref aR, .ref aG])]) [0] rfl
    have hD9 := hD.sub (ws' := [(h, ob 1 [.int (nI 1), .ref an, .ref ak, .int lt, .int se, .ref au, .int zs, .ref ap, .int mn, .ref aw, .int cz, .ref ac, .int ln, .int ft, .int gz, .ref ag, .ref ax, .ref ao, .ref al, .ref av, .ref ae, .ref ar, .ref ad, .ref aW, .ref aS, .ref aN, .ref aR, .ref aG])]) [0] (by decide) rfl
    exact k_iret C hS () (rfl) (trivial) hP9 hD9 d_MD_octet_39
  · refine lv_iload_n C.x C.b d_MD_octet_5 rfl (lv_at hl 1 rfl) ?_
    refine lv_aload_n C.x C.b d_MD_octet_6 rfl (lv_at hl 0 rfl) ?_
    refine k_get C hP 0 rfl rfl i_MD 8 (by decide) m_660 rfl d_MD_octet_7 ?_
    refine lv_icmp_lt (tgt := 17) C.x C.b d_MD_octet_10 (by decide) (fun h9 => False.elim (hbad.elim hca (fun q => Int32.not_le.mpr h9 q))) (fun hc_3 => ?_)
    refine lv_iconst (v := nI 1) C.x C.b d_MD_octet_13 (by decide) ?_
    refine lv_goto (tgt := 18) C.x C.b d_MD_octet_14 (by decide) ?_
    refine lv_iconst (v := nI 0) C.x C.b d_MD_octet_18 (by decide) ?_
    refine k_callV (As := [.int (nI 1), .int (nI 0)]) (rest := []) (wc := [(h, ob 1 [.int th, .ref an, .ref ak, .int lt, .int se, .ref au, .int zs, .ref ap, .int mn, .ref aw, .int cz, .ref ac, .int ln, .int ft, .int gz, .ref ag, .ref ax, .ref ao, .ref al, .ref av, .ref ae, .ref ar, .ref ad, .ref aW, .ref aS, .ref aN, .ref aR, .ref aG])]) (wr := []) C (c_MD_refused1 l d h an ak au ap aw ac ag ax ao al av ae ar ad aW aS aN aR aG th lt se zs mn cz ln ft gz (nI 0)) mw_MD_refused ms_18 m_745 hP hD hS [0] [] rfl rfl (by decide) (by decide) (by decide) 0 rfl rfl rfl rfl hl.1 (Nat.le_of_ble_eq_true rfl) d_MD_octet_19 ⟨Nat.le_of_ble_eq_true rfl, Nat.le_of_ble_eq_true rfl⟩ ⟨by decide, by decide⟩ (fun _ H locs hw_4 hP hD hS => ?_)
    have hP : va_P d.1 clz [(h, ob 1 [.int (nI 1), .ref an, .ref ak, .int lt, .int se, .ref au, .int zs, .ref ap, .int mn, .ref aw, .int cz, .ref ac, .int ln, .int ft, .int gz, .ref ag, .ref ax, .ref ao, .ref al, .ref av, .ref ae, .ref ar, .ref ad, .ref aW, .ref aS, .ref aN, .ref aR, .ref aG])] H := hP
    have hD : va_D A [(h, ob 1 [.int (nI 1), .ref an, .ref ak, .int lt, .int se, .ref au, .int zs, .ref ap, .int mn, .ref aw, .int cz, .ref ac, .int ln, .int ft, .int gz, .ref ag, .ref ax, .ref ao, .ref al, .ref av, .ref ae, .ref ar, .ref ad, .ref aW, .ref aS, .ref aN, .ref aR, .ref aG])] := hD
    refine W.eq (g2 := F0 m 22 ls [.int (nI 1)]) rfl ?_
    refine lv_if_eq (tgt := 29) C.x C.b d_MD_octet_22 (by decide) (fun h9 => by first | exact absurd h9 (by decide) | exact absurd (by decide) h9) (fun _ => ?_)
    refine lv_iconst (v := nI 0) C.x C.b d_MD_octet_25 (by decide) ?_
    refine lv_goto (tgt := 39) C.x C.b d_MD_octet_26 (by decide) ?_
    have hP9 := hP.sub (ws' := [(h, ob 1 [.int (nI 1), .ref an, .ref ak, .int lt, .int se, .ref au, .int zs, .ref ap, .int mn, .ref aw, .int cz, .ref ac, .int ln, .int ft, .int gz, .ref ag, .ref ax, .ref ao, .ref al, .ref av, .ref ae, .ref ar, .ref ad, .ref aW, .ref aS, .ref aN, .ref aR, .ref aG])]) [0] rfl
    have hD9 := hD.sub (ws' := [(h, ob 1 [.int (nI 1), .ref an, .ref ak, .int lt, .int se, .ref au, .int zs, .ref ap, .int mn, .ref aw, .int cz, .ref ac, .int ln, .int ft, .int gz, .ref ag, .ref ax, .ref ao, .ref al, .ref av, .ref ae, .ref ar, .ref ad, .ref aW, .ref aS, .ref aN, .ref aR, .ref aG])]) [0] (by decide) rfl
    exact k_iret C hS () (rfl) (trivial) hP9 hD9 d_MD_octet_39
set_option maxHeartbeats 4000000 in
set_option maxRecDepth 100000 in
theorem c_MD_gotX (l : Launch) (d : DD) (h : Nat) (an : Nat) (ak : Nat) (au : Nat) (ap : Nat) (aw : Nat) (ac : Nat) (ag : Nat) (ax : Nat) (ao : Nat) (al : Nat) (av : Nat) (ae : Nat) (ar : Nat) (ad : Nat) (aW : Nat) (aS : Nat) (aN : Nat) (aR : Nat) (aG : Nat) (th : Int32) (lt : Int32) (se : Int32) (zs : Int32) (mn : Int32) (cz : Int32) (ln : Int32) (ft : Int32) (gz : Int32) (i : Int32) (hbad : i < 0 ∨ gz ≤ i) : Ct l y_MD_got b_MD_got 2 (some .int) 1 22 0 0 d [(h, ob 1 [.int th, .ref an, .ref ak, .int lt, .int se, .ref au, .int zs, .ref ap, .int mn, .ref aw, .int cz, .ref ac, .int ln, .int ft, .int gz, .ref ag, .ref ax, .ref ao, .ref al, .ref av, .ref ae, .ref ar, .ref ad, .ref aW, .ref aS, .ref aN, .ref aR, .ref aG])] [.ref h, .int i] (fun (_ : Unit) => some (.int (nI 0))) (fun (_ : Unit) => True) (fun (_ : Unit) => [(h, ob 1 [.int (nI 1), .ref an, .ref ak, .int lt, .int se, .ref au, .int zs, .ref ap, .int mn, .ref aw, .int cz, .ref ac, .int ln, .int ft, .int gz, .ref ag, .ref ax, .ref ao, .ref al, .ref av, .ref ae, .ref ar, .ref ad, .ref aW, .ref aS, .ref aN, .ref aR, .ref aG])]) := by
  refine Ct.of (by decide +kernel) (Nat.le_of_ble_eq_true rfl) ?_
  intro p e s m below meth c A ls C hP hD hS hl
  have hl : lv_has ls 2 [(0, .ref h), (1, .int i)] := hl
  have hsz9 := hS.1
  refine lv_aload_n C.x C.b d_MD_got_0 rfl (lv_at hl 0 rfl) ?_
  refine lv_iload_n C.x C.b d_MD_got_1 rfl (lv_at hl 1 rfl) ?_
  refine lv_if_lt (tgt := 13) C.x C.b d_MD_got_2 (by decide) (fun hca => ?_) (fun hca => ?_)
  · refine lv_iconst (v := nI 1) C.x C.b d_MD_got_13 (by decide) ?_
    refine lv_goto (tgt := 18) C.x C.b d_MD_got_14 (by decide) ?_
    refine lv_iconst (v := nI 0) C.x C.b d_MD_got_18 (by decide) ?_
    refine k_callV (As := [.int (nI 1), .int (nI 0)]) (rest := []) (wc := [(h, ob 1 [.int th, .ref an, .ref ak, .int lt, .int se, .ref au, .int zs, .ref ap, .int mn, .ref aw, .int cz, .ref ac, .int ln, .int ft, .int gz, .ref ag, .ref ax, .ref ao, .ref al, .ref av, .ref ae, .ref ar, .ref ad, .ref aW, .ref aS, .ref aN, .ref aR, .ref aG])]) (wr := []) C (c_MD_refused1 l d h an ak au ap aw ac ag ax ao al av ae ar ad aW aS aN aR aG th lt se zs mn cz ln ft gz (nI 0)) mw_MD_refused ms_18 m_745 hP hD hS [0] [] rfl rfl (by decide) (by decide) (by decide) 0 rfl rfl rfl rfl hl.1 (Nat.le_of_ble_eq_true rfl) d_MD_got_19 ⟨Nat.le_of_ble_eq_true rfl, Nat.le_of_ble_eq_true rfl⟩ ⟨by decide, by decide⟩ (fun _ H locs hw_2 hP hD hS => ?_)
    have hP : va_P d.1 clz [(h, ob 1 [.int (nI 1), .ref an, .ref ak, .int lt, .int se, .ref au, .int zs, .ref ap, .int mn, .ref aw, .int cz, .ref ac, .int ln, .int ft, .int gz, .ref ag, .ref ax, .ref ao, .ref al, .ref av, .ref ae, .ref ar, .ref ad, .ref aW, .ref aS, .ref aN, .ref aR, .ref aG])] H := hP
    have hD : va_D A [(h, ob 1 [.int (nI 1), .ref an, .ref ak, .int lt, .int se, .ref au, .int zs, .ref ap, .int mn, .ref aw, .int cz, .ref ac, .int ln, .int ft, .int gz, .ref ag, .ref ax, .ref ao, .ref al, .ref av, .ref ae, .ref ar, .ref ad, .ref aW, .ref aS, .ref aN, .ref aR, .ref aG])] := hD
    refine W.eq (g2 := F0 m 22 ls [.int (nI 1)]) rfl ?_
    refine lv_if_eq (tgt := 29) C.x C.b d_MD_got_22 (by decide) (fun h9 => by first | exact absurd h9 (by decide) | exact absurd (by decide) h9) (fun _ => ?_)
    refine lv_iconst (v := nI 0) C.x C.b d_MD_got_25 (by decide) ?_
    refine lv_goto (tgt := 39) C.x C.b d_MD_got_26 (by decide) ?_
    have hP9 := hP.sub (ws' := [(h, ob 1 [.int (nI 1), .ref an, .ref ak, .int lt, .int se, .ref au, .int zs, .ref ap, .int mn, .ref aw, .int cz, .ref ac, .int ln, .int ft, .int gz, .ref ag, .ref ax, .ref ao, .ref al, .ref av, .ref ae, .ref ar, .ref ad, .ref aW, .ref aS, .ref aN, .ref aR, .ref aG])]) [0] rfl
    have hD9 := hD.sub (ws' := [(h, ob 1 [.int (nI 1), .ref an, .ref ak, .int lt, .int se, .ref au, .int zs, .ref ap, .int mn, .ref aw, .int cz, .ref ac, .int ln, .int ft, .int gz, .ref ag, .ref ax, .ref ao, .ref al, .ref av, .ref ae, .ref ar, .ref ad, .ref aW, .ref aS, .ref aN, .ref aR, .ref aG])]) [0] (by decide) rfl
    exact k_iret C hS () (rfl) (trivial) hP9 hD9 d_MD_got_39
  · refine lv_iload_n C.x C.b d_MD_got_5 rfl (lv_at hl 1 rfl) ?_
    refine lv_aload_n C.x C.b d_MD_got_6 rfl (lv_at hl 0 rfl) ?_
    refine k_get C hP 0 rfl rfl i_MD 14 (by decide) m_666 rfl d_MD_got_7 ?_
    refine lv_icmp_lt (tgt := 17) C.x C.b d_MD_got_10 (by decide) (fun h9 => False.elim (hbad.elim hca (fun q => Int32.not_le.mpr h9 q))) (fun hc_3 => ?_)
    refine lv_iconst (v := nI 1) C.x C.b d_MD_got_13 (by decide) ?_
    refine lv_goto (tgt := 18) C.x C.b d_MD_got_14 (by decide) ?_
    refine lv_iconst (v := nI 0) C.x C.b d_MD_got_18 (by decide) ?_
    refine k_callV (As := [.int (nI 1), .int (nI 0)]) (rest := []) (wc := [(h, ob 1 [.int th, .ref an, .ref ak, .int lt, .int se, .ref au, .int zs, .ref ap, .int mn, .ref aw, .int cz, .ref ac, .int ln, .int ft, .int gz, .ref ag, .ref ax, .ref ao, .ref al, .ref av, .ref ae, .ref ar, .ref ad, .ref aW, .ref aS, .ref aN, .ref aR, .ref aG])]) (wr := []) C (c_MD_refused1 l d h an ak au ap aw ac ag ax ao al av ae ar ad aW aS aN aR aG th lt se zs mn cz ln ft gz (nI 0)) mw_MD_refused ms_18 m_745 hP hD hS [0] [] rfl rfl (by decide) (by decide) (by decide) 0 rfl rfl rfl rfl hl.1 (Nat.le_of_ble_eq_true rfl) d_MD_got_19 ⟨Nat.le_of_ble_eq_true rfl, Nat.le_of_ble_eq_true rfl⟩ ⟨by decide, by decide⟩ (fun _ H locs hw_4 hP hD hS => ?_)
    have hP : va_P d.1 clz [(h, ob 1 [.int (nI 1), .ref an, .ref ak, .int lt, .int se, .ref au, .int zs, .ref ap, .int mn, .ref aw, .int cz, .ref ac, .int ln, .int ft, .int gz, .ref ag, .ref ax, .ref ao, .ref al, .ref av, .ref ae, .ref ar, .ref ad, .ref aW, .ref aS, .ref aN, .ref aR, .ref aG])] H := hP
    have hD : va_D A [(h, ob 1 [.int (nI 1), .ref an, .ref ak, .int lt, .int se, .ref au, .int zs, .ref ap, .int mn, .ref aw, .int cz, .ref ac, .int ln, .int ft, .int gz, .ref ag, .ref ax, .ref ao, .ref al, .ref av, .ref ae, .ref ar, .ref ad, .ref aW, .ref aS, .ref aN, .ref aR, .ref aG])] := hD
    refine W.eq (g2 := F0 m 22 ls [.int (nI 1)]) rfl ?_
    refine lv_if_eq (tgt := 29) C.x C.b d_MD_got_22 (by decide) (fun h9 => by first | exact absurd h9 (by decide) | exact absurd (by decide) h9) (fun _ => ?_)
    refine lv_iconst (v := nI 0) C.x C.b d_MD_got_25 (by decide) ?_
    refine lv_goto (tgt := 39) C.x C.b d_MD_got_26 (by decide) ?_
    have hP9 := hP.sub (ws' := [(h, ob 1 [.int (nI 1), .ref an, .ref ak, .int lt, .int se, .ref au, .int zs, .ref ap, .int mn, .ref aw, .int cz, .ref ac, .int ln, .int ft, .int gz, .ref ag, .ref ax, .ref ao, .ref al, .ref av, .ref ae, .ref ar, .ref ad, .ref aW, .ref aS, .ref aN, .ref aR, .ref aG])]) [0] rfl
    have hD9 := hD.sub (ws' := [(h, ob 1 [.int (nI 1), .ref an, .ref ak, .int lt, .int se, .ref au, .int zs, .ref ap, .int mn, .ref aw, .int cz, .ref ac, .int ln, .int ft, .int gz, .ref ag, .ref ax, .ref ao, .ref al, .ref av, .ref ae, .ref ar, .ref ad, .ref aW, .ref aS, .ref aN, .ref aR, .ref aG])]) [0] (by decide) rfl
    exact k_iret C hS () (rfl) (trivial) hP9 hD9 d_MD_got_39
theorem mw_MD_alter : Mw y_MD_alter b_MD_alter 3 none 2 := ⟨m_831, m_9, m_829, by decide +kernel⟩
set_option maxHeartbeats 4000000 in
set_option maxRecDepth 100000 in
theorem c_MD_alterX (l : Launch) (d : DD) (h : Nat) (an : Nat) (ak : Nat) (au : Nat) (ap : Nat) (aw : Nat) (ac : Nat) (ag : Nat) (ax : Nat) (ao : Nat) (al : Nat) (av : Nat) (ae : Nat) (ar : Nat) (ad : Nat) (aW : Nat) (aS : Nat) (aN : Nat) (aR : Nat) (aG : Nat) (th : Int32) (lt : Int32) (se : Int32) (zs : Int32) (mn : Int32) (cz : Int32) (ln : Int32) (ft : Int32) (gz : Int32) (i : Int32) (mk : Int32) (hbad : i < 0 ∨ mn ≤ i) : Ct l y_MD_alter b_MD_alter 3 none 1 22 0 0 d [(h, ob 1 [.int th, .ref an, .ref ak, .int lt, .int se, .ref au, .int zs, .ref ap, .int mn, .ref aw, .int cz, .ref ac, .int ln, .int ft, .int gz, .ref ag, .ref ax, .ref ao, .ref al, .ref av, .ref ae, .ref ar, .ref ad, .ref aW, .ref aS, .ref aN, .ref aR, .ref aG])] [.ref h, .int i, .int mk] (fun (_ : Unit) => none) (fun (_ : Unit) => True) (fun (_ : Unit) => [(h, ob 1 [.int (nI 1), .ref an, .ref ak, .int lt, .int se, .ref au, .int zs, .ref ap, .int mn, .ref aw, .int cz, .ref ac, .int ln, .int ft, .int gz, .ref ag, .ref ax, .ref ao, .ref al, .ref av, .ref ae, .ref ar, .ref ad, .ref aW, .ref aS, .ref aN, .ref aR, .ref aG])]) := by
  refine Ct.of (by decide +kernel) (Nat.le_of_ble_eq_true rfl) ?_
  intro p e s m below meth c A ls C hP hD hS hl
  have hl : lv_has ls 3 [(0, .ref h), (1, .int i), (2, .int mk)] := hl
  have hsz9 := hS.1
  refine lv_aload_n C.x C.b d_MD_alter_0 rfl (lv_at hl 0 rfl) ?_
  refine lv_iload_n C.x C.b d_MD_alter_1 rfl (lv_at hl 1 rfl) ?_
  refine lv_if_lt (tgt := 13) C.x C.b d_MD_alter_2 (by decide) (fun hca => ?_) (fun hca => ?_)
  · refine lv_iconst (v := nI 1) C.x C.b d_MD_alter_13 (by decide) ?_
    refine lv_goto (tgt := 18) C.x C.b d_MD_alter_14 (by decide) ?_
    refine lv_iconst (v := nI 0) C.x C.b d_MD_alter_18 (by decide) ?_
    refine k_callV (As := [.int (nI 1), .int (nI 0)]) (rest := []) (wc := [(h, ob 1 [.int th, .ref an, .ref ak, .int lt, .int se, .ref au, .int zs, .ref ap, .int mn, .ref aw, .int cz, .ref ac, .int ln, .int ft, .int gz, .ref ag, .ref ax, .ref ao, .ref al, .ref av, .ref ae, .ref ar, .ref ad, .ref aW, .ref aS, .ref aN, .ref aR, .ref aG])]) (wr := []) C (c_MD_refused1 l d h an ak au ap aw ac ag ax ao al av ae ar ad aW aS aN aR aG th lt se zs mn cz ln ft gz (nI 0)) mw_MD_refused ms_18 m_745 hP hD hS [0] [] rfl rfl (by decide) (by decide) (by decide) 0 rfl rfl rfl rfl hl.1 (Nat.le_of_ble_eq_true rfl) d_MD_alter_19 ⟨Nat.le_of_ble_eq_true rfl, Nat.le_of_ble_eq_true rfl⟩ ⟨by decide, by decide⟩ (fun _ H locs hw_2 hP hD hS => ?_)
    have hP : va_P d.1 clz [(h, ob 1 [.int (nI 1), .ref an, .ref ak, .int lt, .int se, .ref au, .int zs, .ref ap, .int mn, .ref aw, .int cz, .ref ac, .int ln, .int ft, .int gz, .ref ag, .ref ax, .ref ao, .ref al, .ref av, .ref ae, .ref ar, .ref ad, .ref aW, .ref aS, .ref aN, .ref aR, .ref aG])] H := hP
    have hD : va_D A [(h, ob 1 [.int (nI 1), .ref an, .ref ak, .int lt, .int se, .ref au, .int zs, .ref ap, .int mn, .ref aw, .int cz, .ref ac, .int ln, .int ft, .int gz, .ref ag, .ref ax, .ref ao, .ref al, .ref av, .ref ae, .ref ar, .ref ad, .ref aW, .ref aS, .ref aN, .ref aR, .ref aG])] := hD
    refine W.eq (g2 := F0 m 22 ls [.int (nI 1)]) rfl ?_
    refine lv_if_ne (tgt := 40) C.x C.b d_MD_alter_22 (by decide) (fun _ => ?_) (fun h9 => by first | exact absurd h9 (by decide) | exact absurd (by decide) h9)
    have hP9 := hP.sub (ws' := [(h, ob 1 [.int (nI 1), .ref an, .ref ak, .int lt, .int se, .ref au, .int zs, .ref ap, .int mn, .ref aw, .int cz, .ref ac, .int ln, .int ft, .int gz, .ref ag, .ref ax, .ref ao, .ref al, .ref av, .ref ae, .ref ar, .ref ad, .ref aW, .ref aS, .ref aN, .ref aR, .ref aG])]) [0] rfl
    have hD9 := hD.sub (ws' := [(h, ob 1 [.int (nI 1), .ref an, .ref ak, .int lt, .int se, .ref au, .int zs, .ref ap, .int mn, .ref aw, .int cz, .ref ac, .int ln, .int ft, .int gz, .ref ag, .ref ax, .ref ao, .ref al, .ref av, .ref ae, .ref ar, .ref ad, .ref aW, .ref aS, .ref aN, .ref aR, .ref aG])]) [0] (by decide) rfl
    exact k_vret C hS () (rfl) (trivial) hP9 hD9 d_MD_alter_40
  · refine lv_iload_n C.x C.b d_MD_alter_5 rfl (lv_at hl 1 rfl) ?_
    refine lv_aload_n C.x C.b d_MD_alter_6 rfl (lv_at hl 0 rfl) ?_
    refine k_get C hP 0 rfl rfl i_MD 8 (by decide) m_660 rfl d_MD_alter_7 ?_
    refine lv_icmp_lt (tgt := 17) C.x C.b d_MD_alter_10 (by decide) (fun h9 => False.elim (hbad.elim hca (fun q => Int32.not_le.mpr h9 q))) (fun hc_3 => ?_)
    refine lv_iconst (v := nI 1) C.x C.b d_MD_alter_13 (by decide) ?_
    refine lv_goto (tgt := 18) C.x C.b d_MD_alter_14 (by decide) ?_
    refine lv_iconst (v := nI 0) C.x C.b d_MD_alter_18 (by decide) ?_
    refine k_callV (As := [.int (nI 1), .int (nI 0)]) (rest := []) (wc := [(h, ob 1 [.int th, .ref an, .ref ak, .int lt, .int se, .ref au, .int zs, .ref ap, .int mn, .ref aw, .int cz, .ref ac, .int ln, .int ft, .int gz, .ref ag, .ref ax, .ref ao, .ref al, .ref av, .ref ae, .ref ar, .ref ad, .ref aW, .ref aS, .ref aN, .ref aR, .ref aG])]) (wr := []) C (c_MD_refused1 l d h an ak au ap aw ac ag ax ao al av ae ar ad aW aS aN aR aG th lt se zs mn cz ln ft gz (nI 0)) mw_MD_refused ms_18 m_745 hP hD hS [0] [] rfl rfl (by decide) (by decide) (by decide) 0 rfl rfl rfl rfl hl.1 (Nat.le_of_ble_eq_true rfl) d_MD_alter_19 ⟨Nat.le_of_ble_eq_true rfl, Nat.le_of_ble_eq_true rfl⟩ ⟨by decide, by decide⟩ (fun _ H locs hw_4 hP hD hS => ?_)
    have hP : va_P d.1 clz [(h, ob 1 [.int (nI 1), .ref an, .ref ak, .int lt, .int se, .ref au, .int zs, .ref ap, .int mn, .ref aw, .int cz, .ref ac, .int ln, .int ft, .int gz, .ref ag, .ref ax, .ref ao, .ref al, .ref av, .ref ae, .ref ar, .ref ad, .ref aW, .ref aS, .ref aN, .ref aR, .ref aG])] H := hP
    have hD : va_D A [(h, ob 1 [.int (nI 1), .ref an, .ref ak, .int lt, .int se, .ref au, .int zs, .ref ap, .int mn, .ref aw, .int cz, .ref ac, .int ln, .int ft, .int gz, .ref ag, .ref ax, .ref ao, .ref al, .ref av, .ref ae, .ref ar, .ref ad, .ref aW, .ref aS, .ref aN, .ref aR, .ref aG])] := hD
    refine W.eq (g2 := F0 m 22 ls [.int (nI 1)]) rfl ?_
    refine lv_if_ne (tgt := 40) C.x C.b d_MD_alter_22 (by decide) (fun _ => ?_) (fun h9 => by first | exact absurd h9 (by decide) | exact absurd (by decide) h9)
    have hP9 := hP.sub (ws' := [(h, ob 1 [.int (nI 1), .ref an, .ref ak, .int lt, .int se, .ref au, .int zs, .ref ap, .int mn, .ref aw, .int cz, .ref ac, .int ln, .int ft, .int gz, .ref ag, .ref ax, .ref ao, .ref al, .ref av, .ref ae, .ref ar, .ref ad, .ref aW, .ref aS, .ref aN, .ref aR, .ref aG])]) [0] rfl
    have hD9 := hD.sub (ws' := [(h, ob 1 [.int (nI 1), .ref an, .ref ak, .int lt, .int se, .ref au, .int zs, .ref ap, .int mn, .ref aw, .int cz, .ref ac, .int ln, .int ft, .int gz, .ref ag, .ref ax, .ref ao, .ref al, .ref av, .ref ae, .ref ar, .ref ad, .ref aW, .ref aS, .ref aN, .ref aR, .ref aG])]) [0] (by decide) rfl
    exact k_vret C hS () (rfl) (trivial) hP9 hD9 d_MD_alter_40
set_option maxHeartbeats 4000000 in
set_option maxRecDepth 100000 in
theorem c_MD_alter (l : Launch) (d : DD) (h : Nat) (an : Nat) (ak : Nat) (au : Nat) (ap : Nat) (aw : Nat) (ac : Nat) (ag : Nat) (ax : Nat) (ao : Nat) (al : Nat) (av : Nat) (ae : Nat) (ar : Nat) (ad : Nat) (aW : Nat) (aS : Nat) (aN : Nat) (aR : Nat) (aG : Nat) (th : Int32) (lt : Int32) (se : Int32) (ln : Int32) (ft : Int32) (pn : Nat) (wn : Nat) (cn : Nat) (on : Nat) (fw : Nat → Int32) (i : Nat) (mk : Int32) (wL : List Int32) (hw : BA fw wL) (hwl : wL.length = wn) (hwn : wn ≤ 6000) (hi : i < wn) : Ct l y_MD_alter b_MD_alter 3 none 1 22 0 0 d [(h, ob 1 [.int th, .ref an, .ref ak, .int lt, .int se, .ref au, .int (nI pn), .ref ap, .int (nI wn), .ref aw, .int (nI cn), .ref ac, .int ln, .int ft, .int (nI on), .ref ag, .ref ax, .ref ao, .ref al, .ref av, .ref ae, .ref ar, .ref ad, .ref aW, .ref aS, .ref aN, .ref aR, .ref aG]), (aw, aB d 6000 fw)] [.ref h, .int (nI i), .int mk] (fun (w2 : Nat → Int32) => none) (fun (w2 : Nat → Int32) => BA w2 (wL.set i ((wL.getD i 0 ^^^ mk) &&& nI 255))) (fun (w2 : Nat → Int32) => [(h, ob 1 [.int (nI 0), .ref an, .ref ak, .int lt, .int se, .ref au, .int (nI pn), .ref ap, .int (nI wn), .ref aw, .int (nI cn), .ref ac, .int ln, .int ft, .int (nI on), .ref ag, .ref ax, .ref ao, .ref al, .ref av, .ref ae, .ref ar, .ref ad, .ref aW, .ref aS, .ref aN, .ref aR, .ref aG]), (aw, aB d 6000 w2)]) := by
  refine Ct.of (by decide +kernel) (Nat.le_of_ble_eq_true rfl) ?_
  intro p e s m below meth c A ls C hP hD hS hl
  have hl : lv_has ls 3 [(0, .ref h), (1, .int (nI i)), (2, .int mk)] := hl
  have hsz9 := hS.1
  refine lv_aload_n C.x C.b d_MD_alter_0 rfl (lv_at hl 0 rfl) ?_
  refine lv_iload_n C.x C.b d_MD_alter_1 rfl (lv_at hl 1 rfl) ?_
  refine lv_if_lt (tgt := 13) C.x C.b d_MD_alter_2 (by decide) (fun h9 => False.elim (nI_pos (by omega) h9)) (fun hc_1 => ?_)
  rw [← nI_0, nI_ltI (by omega) (by omega)] at hc_1
  refine lv_iload_n C.x C.b d_MD_alter_5 rfl (lv_at hl 1 rfl) ?_
  refine lv_aload_n C.x C.b d_MD_alter_6 rfl (lv_at hl 0 rfl) ?_
  refine k_get C hP 0 rfl rfl i_MD 8 (by decide) m_660 rfl d_MD_alter_7 ?_
  refine lv_icmp_lt (tgt := 17) C.x C.b d_MD_alter_10 (by decide) (fun hc_2 => ?_) (fun h9 => False.elim (h9 (nI_lt (by omega) (by omega))))
  rw [nI_ltI (by omega) (by omega)] at hc_2
  refine lv_iconst (v := nI 0) C.x C.b d_MD_alter_17 (by decide) ?_
  refine lv_iconst (v := nI 0) C.x C.b d_MD_alter_18 (by decide) ?_
  refine k_callV (As := [.int (nI 0), .int (nI 0)]) (rest := []) (wc := [(h, ob 1 [.int th, .ref an, .ref ak, .int lt, .int se, .ref au, .int (nI pn), .ref ap, .int (nI wn), .ref aw, .int (nI cn), .ref ac, .int ln, .int ft, .int (nI on), .ref ag, .ref ax, .ref ao, .ref al, .ref av, .ref ae, .ref ar, .ref ad, .ref aW, .ref aS, .ref aN, .ref aR, .ref aG])]) (wr := [(aw, aB d 6000 fw)]) C (c_MD_refused0 l d h an ak au ap aw ac ag ax ao al av ae ar ad aW aS aN aR aG th lt se (nI pn) (nI wn) (nI cn) ln ft (nI on)) mw_MD_refused ms_18 m_745 hP hD hS [0] [1] rfl rfl (by decide) (by decide) (by decide) 0 rfl rfl rfl rfl hl.1 (Nat.le_of_ble_eq_true rfl) d_MD_alter_19 ⟨Nat.le_of_ble_eq_true rfl, Nat.le_of_ble_eq_true rfl⟩ ⟨by decide, by decide⟩ (fun _ H locs hw_3 hP hD hS => ?_)
  have hP : va_P d.1 clz [(aw, aB d 6000 fw), (h, ob 1 [.int (nI 0), .ref an, .ref ak, .int lt, .int se, .ref au, .int (nI pn), .ref ap, .int (nI wn), .ref aw, .int (nI cn), .ref ac, .int ln, .int ft, .int (nI on), .ref ag, .ref ax, .ref ao, .ref al, .ref av, .ref ae, .ref ar, .ref ad, .ref aW, .ref aS, .ref aN, .ref aR, .ref aG])] H := hP
  have hD : va_D A [(aw, aB d 6000 fw), (h, ob 1 [.int (nI 0), .ref an, .ref ak, .int lt, .int se, .ref au, .int (nI pn), .ref ap, .int (nI wn), .ref aw, .int (nI cn), .ref ac, .int ln, .int ft, .int (nI on), .ref ag, .ref ax, .ref ao, .ref al, .ref av, .ref ae, .ref ar, .ref ad, .ref aW, .ref aS, .ref aN, .ref aR, .ref aG])] := hD
  refine W.eq (g2 := F0 m 22 ls [.int (nI 0)]) rfl ?_
  refine lv_if_ne (tgt := 40) C.x C.b d_MD_alter_22 (by decide) (fun h9 => by first | exact absurd h9 (by decide) | exact absurd (by decide) h9) (fun _ => ?_)
  refine lv_aload_n C.x C.b d_MD_alter_25 rfl (lv_at hl 0 rfl) ?_
  refine k_get C hP 1 rfl rfl i_MD 9 (by decide) m_661 rfl d_MD_alter_26 ?_
  refine lv_iload_n C.x C.b d_MD_alter_29 rfl (lv_at hl 1 rfl) ?_
  refine lv_aload_n C.x C.b d_MD_alter_30 rfl (lv_at hl 0 rfl) ?_
  refine k_get C hP 1 rfl rfl i_MD 9 (by decide) m_661 rfl d_MD_alter_31 ?_
  refine lv_iload_n C.x C.b d_MD_alter_34 rfl (lv_at hl 1 rfl) ?_
  refine k_bald C hP 0 rfl (j := i) (by omega) (by omega) d_MD_alter_35 ?_
  refine lv_iload_n C.x C.b d_MD_alter_36 rfl (lv_at hl 2 rfl) ?_
  refine lv_ixor C.x C.b d_MD_alter_37 ?_
  refine lv_i2b (v := ((fw i) ^^^ mk).toInt8.toInt32) C.x C.b d_MD_alter_38 rfl ?_
  refine k_bast C hP hD hS 0 rfl (j := i) (by omega) (by omega) d_MD_alter_39 (fun H locs hP hD hS => ?_)
  have hP : va_P d.1 clz [(aw, aB d 6000 (upd fw i ((((fw i) ^^^ mk).toInt8.toInt32).toInt8.toInt32))), (h, ob 1 [.int (nI 0), .ref an, .ref ak, .int lt, .int se, .ref au, .int (nI pn), .ref ap, .int (nI wn), .ref aw, .int (nI cn), .ref ac, .int ln, .int ft, .int (nI on), .ref ag, .ref ax, .ref ao, .ref al, .ref av, .ref ae, .ref ar, .ref ad, .ref aW, .ref aS, .ref aN, .ref aR, .ref aG])] H := hP
  have hD : va_D A [(aw, aB d 6000 (upd fw i ((((fw i) ^^^ mk).toInt8.toInt32).toInt8.toInt32))), (h, ob 1 [.int (nI 0), .ref an, .ref ak, .int lt, .int se, .ref au, .int (nI pn), .ref ap, .int (nI wn), .ref aw, .int (nI cn), .ref ac, .int ln, .int ft, .int (nI on), .ref ag, .ref ax, .ref ao, .ref al, .ref av, .ref ae, .ref ar, .ref ad, .ref aW, .ref aS, .ref aN, .ref aR, .ref aG])] := hD
  have hP9 := hP.sub (ws' := [(h, ob 1 [.int (nI 0), .ref an, .ref ak, .int lt, .int se, .ref au, .int (nI pn), .ref ap, .int (nI wn), .ref aw, .int (nI cn), .ref ac, .int ln, .int ft, .int (nI on), .ref ag, .ref ax, .ref ao, .ref al, .ref av, .ref ae, .ref ar, .ref ad, .ref aW, .ref aS, .ref aN, .ref aR, .ref aG]), (aw, aB d 6000 (upd fw i ((((fw i) ^^^ mk).toInt8.toInt32).toInt8.toInt32)))]) [1, 0] rfl
  have hD9 := hD.sub (ws' := [(h, ob 1 [.int (nI 0), .ref an, .ref ak, .int lt, .int se, .ref au, .int (nI pn), .ref ap, .int (nI wn), .ref aw, .int (nI cn), .ref ac, .int ln, .int ft, .int (nI on), .ref ag, .ref ax, .ref ao, .ref al, .ref av, .ref ae, .ref ar, .ref ad, .ref aW, .ref aS, .ref aN, .ref aR, .ref aG]), (aw, aB d 6000 (upd fw i ((((fw i) ^^^ mk).toInt8.toInt32).toInt8.toInt32)))]) [1, 0] (by decide) rfl
  exact k_vret C hS (upd fw i ((((fw i) ^^^ mk).toInt8.toInt32).toInt8.toInt32)) (rfl) (ba_set hw (by omega) (by rw [sx_sx, sx_of_and, (ba_get hw (i := i) (by omega)).1, Int32.toInt8_xor, Int8.toInt8_toInt32, Int32.toInt8_xor]) (and255 _)) hP9 hD9 d_MD_alter_40
theorem mw_MD_link : Mw y_MD_link b_MD_link 4 (some .int) 1 := ⟨m_835, m_9, m_833, by decide +kernel⟩
set_option maxHeartbeats 4000000 in
set_option maxRecDepth 100000 in
theorem c_MD_link (l : Launch) (d : DD) (h : Nat) (an : Nat) (ak : Nat) (au : Nat) (ap : Nat) (aw : Nat) (ac : Nat) (ag : Nat) (ax : Nat) (ao : Nat) (al : Nat) (av : Nat) (ae : Nat) (ar : Nat) (ad : Nat) (aW : Nat) (aS : Nat) (aN : Nat) (aR : Nat) (aG : Nat) (th : Int32) (lt : Int32) (se : Int32) (ln : Int32) (ft : Int32) (pn : Nat) (wn : Nat) (cn : Nat) (on : Nat) (fw : Nat → Int32) (fc : Nat → Int32) (n : Nat) (wL : List Int32) (cL : List Int32) (hw : BA fw wL) (hwl : wL.length = wn) (hwn : wn ≤ 6000) (hc : BA fc cL) (hcl : cL.length = cn) (hn : n < 2 ^ 31) (hr : cn + min n wn ≤ 2000) : Ct l y_MD_link b_MD_link 4 (some .int) 1 22 0 0 d [(h, ob 1 [.int th, .ref an, .ref ak, .int lt, .int se, .ref au, .int (nI pn), .ref ap, .int (nI wn), .ref aw, .int (nI cn), .ref ac, .int ln, .int ft, .int (nI on), .ref ag, .ref ax, .ref ao, .ref al, .ref av, .ref ae, .ref ar, .ref ad, .ref aW, .ref aS, .ref aN, .ref aR, .ref aG]), (aw, aB d 6000 fw), (ac, aB d 2000 fc)] [.ref h, .int (nI n)] (fun (u : (Nat → Int32) × (Nat → Int32)) => match u with | (w2, c2) => some (.int (nI (min n wn)))) (fun (u : (Nat → Int32) × (Nat → Int32)) => match u with | (w2, c2) => BA w2 (wL.drop (min n wn)) ∧ BA c2 (cL ++ wL.take (min n wn))) (fun (u : (Nat → Int32) × (Nat → Int32)) => match u with | (w2, c2) => [(h, ob 1 [.int (nI 0), .ref an, .ref ak, .int lt, .int se, .ref au, .int (nI pn), .ref ap, .int (nI (wn - min n wn)), .ref aw, .int (nI (cn + min n wn)), .ref ac, .int ln, .int ft, .int (nI on), .ref ag, .ref ax, .ref ao, .ref al, .ref av, .ref ae, .ref ar, .ref ad, .ref aW, .ref aS, .ref aN, .ref aR, .ref aG]), (aw, aB d 6000 w2), (ac, aB d 2000 c2)]) := by
  refine Ct.of (by decide +kernel) (Nat.le_of_ble_eq_true rfl) ?_
  intro p e s m below meth c A ls C hP hD hS hl
  have hl : lv_has ls 4 [(0, .ref h), (1, .int (nI n))] := hl
  have hsz9 := hS.1
  have hmn : min n wn ≤ wn := Nat.min_le_right _ _
  refine lv_iload_n C.x C.b d_MD_link_0 rfl (lv_at hl 1 rfl) ?_
  refine lv_aload_n C.x C.b d_MD_link_1 rfl (lv_at hl 0 rfl) ?_
  refine k_get C hP 0 rfl rfl i_MD 8 (by decide) m_660 rfl d_MD_link_2 ?_
  refine lv_icmp_ge (tgt := 12) C.x C.b d_MD_link_5 (by decide) (fun hc5 => ?_) (fun hc5 => ?_)
  · rw [nI_leI (by omega) (by omega)] at hc5
    refine lv_aload_n C.x C.b d_MD_link_12 rfl (lv_at hl 0 rfl) ?_
    refine k_get C hP 0 rfl rfl i_MD 8 (by decide) m_660 rfl d_MD_link_13 ?_
    refine k_top (y := nI (min n wn)) (by rw [Nat.min_eq_right (by omega)]) ?_
    refine lv_istore_n (lv' := [(2, .int (nI (min n wn))), (0, .ref h), (1, .int (nI n))]) C.x C.b d_MD_link_16 rfl hl (by decide) rfl (fun ls hl => ?_)
    refine lv_aload_n C.x C.b d_MD_link_17 rfl (lv_at hl 1 rfl) ?_
    refine lv_iload_n C.x C.b d_MD_link_18 rfl (lv_at hl 2 rfl) ?_
    refine lv_if_ge (tgt := 26) C.x C.b d_MD_link_19 (by decide) (fun hc_2 => ?_) (fun h9 => False.elim (h9 (nI_pos' (by omega))))
    refine lv_iconst (v := nI 0) C.x C.b d_MD_link_26 (by decide) ?_
    refine lv_aload_n C.x C.b d_MD_link_27 rfl (lv_at hl 1 rfl) ?_
    refine k_get C hP 0 rfl rfl i_MD 10 (by decide) m_662 rfl d_MD_link_28 ?_
    refine lv_iload_n C.x C.b d_MD_link_31 rfl (lv_at hl 0 rfl) ?_
    refine lv_iadd C.x C.b d_MD_link_32 ?_
    refine k_top (y := nI (cn + (min n wn))) (nI_add _ _) ?_
    refine lv_sipush (v := nI 2000) C.x C.b d_MD_link_33 (by decide) ?_
    refine lv_icmp_le (tgt := 43) C.x C.b d_MD_link_36 (by decide) (fun hc_3 => ?_) (fun h9 => False.elim (h9 (nI_le (by omega) (by omega))))
    rw [nI_leI (by omega) (by omega)] at hc_3
    refine lv_iconst (v := nI 0) C.x C.b d_MD_link_43 (by decide) ?_
    refine k_callV (As := [.int (nI 0), .int (nI 0)]) (rest := []) (wc := [(h, ob 1 [.int th, .ref an, .ref ak, .int lt, .int se, .ref au, .int (nI pn), .ref ap, .int (nI wn), .ref aw, .int (nI cn), .ref ac, .int ln, .int ft, .int (nI on), .ref ag, .ref ax, .ref ao, .ref al, .ref av, .ref ae, .ref ar, .ref ad, .ref aW, .ref aS, .ref aN, .ref aR, .ref aG])]) (wr := [(aw, aB d 6000 fw), (ac, aB d 2000 fc)]) C (c_MD_refused0 l d h an ak au ap aw ac ag ax ao al av ae ar ad aW aS aN aR aG th lt se (nI pn) (nI wn) (nI cn) ln ft (nI on)) mw_MD_refused ms_18 m_745 hP hD hS [0] [1, 2] rfl rfl (by decide) (by decide) (by decide) 0 rfl rfl rfl rfl hl.1 (Nat.le_of_ble_eq_true rfl) d_MD_link_44 ⟨Nat.le_of_ble_eq_true rfl, Nat.le_of_ble_eq_true rfl⟩ ⟨by decide, by decide⟩ (fun _ H locs hw_4 hP hD hS => ?_)
    have hP : va_P d.1 clz [(aw, aB d 6000 fw), (ac, aB d 2000 fc), (h, ob 1 [.int (nI 0), .ref an, .ref ak, .int lt, .int se, .ref au, .int (nI pn), .ref ap, .int (nI wn), .ref aw, .int (nI cn), .ref ac, .int ln, .int ft, .int (nI on), .ref ag, .ref ax, .ref ao, .ref al, .ref av, .ref ae, .ref ar, .ref ad, .ref aW, .ref aS, .ref aN, .ref aR, .ref aG])] H := hP
    have hD : va_D A [(aw, aB d 6000 fw), (ac, aB d 2000 fc), (h, ob 1 [.int (nI 0), .ref an, .ref ak, .int lt, .int se, .ref au, .int (nI pn), .ref ap, .int (nI wn), .ref aw, .int (nI cn), .ref ac, .int ln, .int ft, .int (nI on), .ref ag, .ref ax, .ref ao, .ref al, .ref av, .ref ae, .ref ar, .ref ad, .ref aW, .ref aS, .ref aN, .ref aR, .ref aG])] := hD
    refine W.eq (g2 := F0 m 47 ls [.int (nI 0)]) rfl ?_
    refine lv_if_eq (tgt := 52) C.x C.b d_MD_link_47 (by decide) (fun _ => ?_) (fun h9 => by first | exact absurd h9 (by decide) | exact absurd (by decide) h9)
    refine lv_iconst (v := nI 0) C.x C.b d_MD_link_52 (by decide) ?_
    refine lv_istore_n (lv' := [(3, .int (nI 0)), (2, .int (nI (min n wn))), (0, .ref h), (1, .int (nI n))]) C.x C.b d_MD_link_53 rfl hl (by decide) rfl (fun ls hl => ?_)
    have L54 : ∀ (fuel : Nat) (j : Nat) (g9 : Nat → Int32), min n wn - j < fuel → (j ≤ min n wn) → (BA g9 (cL ++ wL.take j)) → ∀ (H : Heap) (locs : List Loc) (ls : Array Slot), va_P d.1 clz [(h, ob 1 [.int (nI 0), .ref an, .ref ak, .int lt, .int se, .ref au, .int (nI pn), .ref ap, .int (nI wn), .ref aw, .int (nI cn), .ref ac, .int ln, .int ft, .int (nI on), .ref ag, .ref ax, .ref ao, .ref al, .ref av, .ref ae, .ref ar, .ref ad, .ref aW, .ref aS, .ref aN, .ref aR, .ref aG]), (aw, aB d 6000 fw), (ac, aB d 2000 g9)] H → va_D A [(h, ob 1 [.int (nI 0), .ref an, .ref ak, .int lt, .int se, .ref au, .int (nI pn), .ref ap, .int (nI wn), .ref aw, .int (nI cn), .ref ac, .int ln, .int ft, .int (nI on), .ref ag, .ref ax, .ref ao, .ref al, .ref av, .ref ae, .ref ar, .ref ad, .ref aW, .ref aS, .ref aN, .ref aR, .ref aG]), (aw, aB d 6000 fw), (ac, aB d 2000 g9)] → va_S A s.heap H locs → lv_has ls 4 [(0, .ref h), (2, .int (nI (min n wn))), (3, .int (nI j))] → W p l e (Rm 1 22 0 0) s m ([.ref h, .int (nI n)] : List Value).toArray below meth c H locs 0 0 (MQ below (Cout d A (fun (u : (Nat → Int32) × (Nat → Int32)) => match u with | (w2, c2) => some (.int (nI (min n wn)))) (fun (u : (Nat → Int32) × (Nat → Int32)) => match u with | (w2, c2) => BA w2 (wL.drop (min n wn)) ∧ BA c2 (cL ++ wL.take (min n wn))) (fun (u : (Nat → Int32) × (Nat → Int32)) => match u with | (w2, c2) => [(h, ob 1 [.int (nI 0), .ref an, .ref ak, .int lt, .int se, .ref au, .int (nI pn), .ref ap, .int (nI (wn - min n wn)), .ref aw, .int (nI (cn + min n wn)), .ref ac, .int ln, .int ft, .int (nI on), .ref ag, .ref ax, .ref ao, .ref al, .ref av, .ref ae, .ref ar, .ref ad, .ref aW, .ref aS, .ref aN, .ref aR, .ref aG]), (aw, aB d 6000 w2), (ac, aB d 2000 c2)])) ([.ref h, .int (nI n)] : List Value).toArray s 0 0 A) (F0 m 54 ls []) := by
      intro fuel
      induction fuel with
      | zero => intro j g9 h9; exact absurd h9 (Nat.not_lt_zero _)
      | succ fuel ih54 =>
        intro j g9 hfu54 hj hg9 H locs ls hP hD hS hl
        refine lv_iload_n C.x C.b d_MD_link_54 rfl (lv_at hl 2 rfl) ?_
        refine lv_iload_n C.x C.b d_MD_link_55 rfl (lv_at hl 1 rfl) ?_
        refine lv_icmp_ge (tgt := 82) C.x C.b d_MD_link_56 (by decide) (fun hc56 => ?_) (fun hc56 => ?_)
        · rw [nI_leI (by omega) (by omega)] at hc56
          refine lv_aload_n C.x C.b d_MD_link_82 rfl (lv_at hl 0 rfl) ?_
          refine lv_aload_n C.x C.b d_MD_link_83 rfl (lv_at hl 0 rfl) ?_
          refine k_get C hP 0 rfl rfl i_MD 10 (by decide) m_662 rfl d_MD_link_84 ?_
          refine lv_iload_n C.x C.b d_MD_link_87 rfl (lv_at hl 1 rfl) ?_
          refine lv_iadd C.x C.b d_MD_link_88 ?_
          refine k_top (y := nI (cn + (min n wn))) (nI_add _ _) ?_
          refine k_put C hP hD hS 0 rfl rfl i_MD tk_MD n_MD 10 (by decide) m_662 rfl rfl rfl (Nat.le_of_ble_eq_true rfl) d_MD_link_89 (fun H locs hP hD hS => ?_)
          have hP : va_P d.1 clz [(h, ob 1 [.int (nI 0), .ref an, .ref ak, .int lt, .int se, .ref au, .int (nI pn), .ref ap, .int (nI wn), .ref aw, .int (nI (cn + (min n wn))), .ref ac, .int ln, .int ft, .int (nI on), .ref ag, .ref ax, .ref ao, .ref al, .ref av, .ref ae, .ref ar, .ref ad, .ref aW, .ref aS, .ref aN, .ref aR, .ref aG]), (aw, aB d 6000 fw), (ac, aB d 2000 g9)] H := hP
          have hD : va_D A [(h, ob 1 [.int (nI 0), .ref an, .ref ak, .int lt, .int se, .ref au, .int (nI pn), .ref ap, .int (nI wn), .ref aw, .int (nI (cn + (min n wn))), .ref ac, .int ln, .int ft, .int (nI on), .ref ag, .ref ax, .ref ao, .ref al, .ref av, .ref ae, .ref ar, .ref ad, .ref aW, .ref aS, .ref aN, .ref aR, .ref aG]), (aw, aB d 6000 fw), (ac, aB d 2000 g9)] := hD
          refine lv_aload_n C.x C.b d_MD_link_92 rfl (lv_at hl 0 rfl) ?_
          refine lv_aload_n C.x C.b d_MD_link_93 rfl (lv_at hl 0 rfl) ?_
          refine k_get C hP 0 rfl rfl i_MD 8 (by decide) m_660 rfl d_MD_link_94 ?_
          refine lv_iload_n C.x C.b d_MD_link_97 rfl (lv_at hl 1 rfl) ?_
          refine lv_isub C.x C.b d_MD_link_98 ?_
          refine k_top (y := nI (wn - (min n wn))) (pk_sub (by omega)) ?_
          refine k_put C hP hD hS 0 rfl rfl i_MD tk_MD n_MD 8 (by decide) m_660 rfl rfl rfl (Nat.le_of_ble_eq_true rfl) d_MD_link_99 (fun H locs hP hD hS => ?_)
          have hP : va_P d.1 clz [(h, ob 1 [.int (nI 0), .ref an, .ref ak, .int lt, .int se, .ref au, .int (nI pn), .ref ap, .int (nI (wn - (min n wn))), .ref aw, .int (nI (cn + (min n wn))), .ref ac, .int ln, .int ft, .int (nI on), .ref ag, .ref ax, .ref ao, .ref al, .ref av, .ref ae, .ref ar, .ref ad, .ref aW, .ref aS, .ref aN, .ref aR, .ref aG]), (aw, aB d 6000 fw), (ac, aB d 2000 g9)] H := hP
          have hD : va_D A [(h, ob 1 [.int (nI 0), .ref an, .ref ak, .int lt, .int se, .ref au, .int (nI pn), .ref ap, .int (nI (wn - (min n wn))), .ref aw, .int (nI (cn + (min n wn))), .ref ac, .int ln, .int ft, .int (nI on), .ref ag, .ref ax, .ref ao, .ref al, .ref av, .ref ae, .ref ar, .ref ad, .ref aW, .ref aS, .ref aN, .ref aR, .ref aG]), (aw, aB d 6000 fw), (ac, aB d 2000 g9)] := hD
          refine lv_iconst (v := nI 0) C.x C.b d_MD_link_102 (by decide) ?_
          refine lv_istore_n (lv' := [(3, .int (nI 0)), (0, .ref h), (2, .int (nI (min n wn)))]) C.x C.b d_MD_link_103 rfl hl (by decide) rfl (fun ls hl => ?_)
          have L104 : ∀ (fuel : Nat) (k9 : Nat) (gw : Nat → Int32), wn - min n wn - k9 < fuel → (k9 ≤ wn - min n wn) → (∀ i, i < k9 → gw i = fw (i + min n wn)) → (∀ i, k9 ≤ i → gw i = fw i) → ∀ (H : Heap) (locs : List Loc) (ls : Array Slot), va_P d.1 clz [(h, ob 1 [.int (nI 0), .ref an, .ref ak, .int lt, .int se, .ref au, .int (nI pn), .ref ap, .int (nI (wn - (min n wn))), .ref aw, .int (nI (cn + (min n wn))), .ref ac, .int ln, .int ft, .int (nI on), .ref ag, .ref ax, .ref ao, .ref al, .ref av, .ref ae, .ref ar, .ref ad, .ref aW, .ref aS, .ref aN, .ref aR, .ref aG]), (aw, aB d 6000 gw), (ac, aB d 2000 g9)] H → va_D A [(h, ob 1 [.int (nI 0), .ref an, .ref ak, .int lt, .int se, .ref au, .int (nI pn), .ref ap, .int (nI (wn - (min n wn))), .ref aw, .int (nI (cn + (min n wn))), .ref ac, .int ln, .int ft, .int (nI on), .ref ag, .ref ax, .ref ao, .ref al, .ref av, .ref ae, .ref ar, .ref ad, .ref aW, .ref aS, .ref aN, .ref aR, .ref aG]), (aw, aB d 6000 gw), (ac, aB d 2000 g9)] → va_S A s.heap H locs → lv_has ls 4 [(0, .ref h), (2, .int (nI (min n wn))), (3, .int (nI k9))] → W p l e (Rm 1 22 0 0) s m ([.ref h, .int (nI n)] : List Value).toArray below meth c H locs 0 0 (MQ below (Cout d A (fun (u : (Nat → Int32) × (Nat → Int32)) => match u with | (w2, c2) => some (.int (nI (min n wn)))) (fun (u : (Nat → Int32) × (Nat → Int32)) => match u with | (w2, c2) => BA w2 (wL.drop (min n wn)) ∧ BA c2 (cL ++ wL.take (min n wn))) (fun (u : (Nat → Int32) × (Nat → Int32)) => match u with | (w2, c2) => [(h, ob 1 [.int (nI 0), .ref an, .ref ak, .int lt, .int se, .ref au, .int (nI pn), .ref ap, .int (nI (wn - min n wn)), .ref aw, .int (nI (cn + min n wn)), .ref ac, .int ln, .int ft, .int (nI on), .ref ag, .ref ax, .ref ao, .ref al, .ref av, .ref ae, .ref ar, .ref ad, .ref aW, .ref aS, .ref aN, .ref aR, .ref aG]), (aw, aB d 6000 w2), (ac, aB d 2000 c2)])) ([.ref h, .int (nI n)] : List Value).toArray s 0 0 A) (F0 m 104 ls []) := by
            intro fuel
            induction fuel with
            | zero => intro k9 gw h9; exact absurd h9 (Nat.not_lt_zero _)
            | succ fuel ih104 =>
              intro k9 gw hfu104 hk9 hw1 hw2 H locs ls hP hD hS hl
              refine lv_iload_n C.x C.b d_MD_link_104 rfl (lv_at hl 2 rfl) ?_
              refine lv_aload_n C.x C.b d_MD_link_105 rfl (lv_at hl 0 rfl) ?_
              refine k_get C hP 0 rfl rfl i_MD 8 (by decide) m_660 rfl d_MD_link_106 ?_
              refine lv_icmp_ge (tgt := 132) C.x C.b d_MD_link_109 (by decide) (fun hc109 => ?_) (fun hc109 => ?_)
              · rw [nI_leI (by omega) (by omega)] at hc109
                refine lv_iload_n C.x C.b d_MD_link_132 rfl (lv_at hl 1 rfl) ?_
                have hP9 := hP.sub (ws' := [(h, ob 1 [.int (nI 0), .ref an, .ref ak, .int lt, .int se, .ref au, .int (nI pn), .ref ap, .int (nI (wn - (min n wn))), .ref aw, .int (nI (cn + (min n wn))), .ref ac, .int ln, .int ft, .int (nI on), .ref ag, .ref ax, .ref ao, .ref al, .ref av, .ref ae, .ref ar, .ref ad, .ref aW, .ref aS, .ref aN, .ref aR, .ref aG]), (aw, aB d 6000 gw), (ac, aB d 2000 g9)]) [0, 1, 2] rfl
                have hD9 := hD.sub (ws' := [(h, ob 1 [.int (nI 0), .ref an, .ref ak, .int lt, .int se, .ref au, .int (nI pn), .ref ap, .int (nI (wn - (min n wn))), .ref aw, .int (nI (cn + (min n wn))), .ref ac, .int ln, .int ft, .int (nI on), .ref ag, .ref ax, .ref ao, .ref al, .ref av, .ref ae, .ref ar, .ref ad, .ref aW, .ref aS, .ref aN, .ref aR, .ref aG]), (aw, aB d 6000 gw), (ac, aB d 2000 g9)]) [0, 1, 2] (by decide) rfl
                exact k_iret C hS (gw, g9) (rfl) (⟨ba_drop hw (by omega) hw1, by rw [show j = min n wn from by omega] at hg9; exact hg9⟩) hP9 hD9 d_MD_link_133
              · rw [nI_leI (by omega) (by omega)] at hc109
                refine lv_aload_n C.x C.b d_MD_link_112 rfl (lv_at hl 0 rfl) ?_
                refine k_get C hP 0 rfl rfl i_MD 9 (by decide) m_661 rfl d_MD_link_113 ?_
                refine lv_iload_n C.x C.b d_MD_link_116 rfl (lv_at hl 2 rfl) ?_
                refine lv_aload_n C.x C.b d_MD_link_117 rfl (lv_at hl 0 rfl) ?_
                refine k_get C hP 0 rfl rfl i_MD 9 (by decide) m_661 rfl d_MD_link_118 ?_
                refine lv_iload_n C.x C.b d_MD_link_121 rfl (lv_at hl 2 rfl) ?_
                refine lv_iload_n C.x C.b d_MD_link_122 rfl (lv_at hl 1 rfl) ?_
                refine lv_iadd C.x C.b d_MD_link_123 ?_
                refine k_top (y := nI (k9 + (min n wn))) (nI_add _ _) ?_
                refine k_bald C hP 1 rfl (j := (k9 + (min n wn))) (by omega) (by omega) d_MD_link_124 ?_
                refine k_bast C hP hD hS 1 rfl (j := k9) (by omega) (by omega) d_MD_link_125 (fun H locs hP hD hS => ?_)
                have hP : va_P d.1 clz [(h, ob 1 [.int (nI 0), .ref an, .ref ak, .int lt, .int se, .ref au, .int (nI pn), .ref ap, .int (nI (wn - (min n wn))), .ref aw, .int (nI (cn + (min n wn))), .ref ac, .int ln, .int ft, .int (nI on), .ref ag, .ref ax, .ref ao, .ref al, .ref av, .ref ae, .ref ar, .ref ad, .ref aW, .ref aS, .ref aN, .ref aR, .ref aG]), (aw, aB d 6000 (upd gw k9 ((gw (k9 + (min n wn))).toInt8.toInt32))), (ac, aB d 2000 g9)] H := hP
                have hD : va_D A [(h, ob 1 [.int (nI 0), .ref an, .ref ak, .int lt, .int se, .ref au, .int (nI pn), .ref ap, .int (nI (wn - (min n wn))), .ref aw, .int (nI (cn + (min n wn))), .ref ac, .int ln, .int ft, .int (nI on), .ref ag, .ref ax, .ref ao, .ref al, .ref av, .ref ae, .ref ar, .ref ad, .ref aW, .ref aS, .ref aN, .ref aR, .ref aG]), (aw, aB d 6000 (upd gw k9 ((gw (k9 + (min n wn))).toInt8.toInt32))), (ac, aB d 2000 g9)] := hD
                refine lv_iinc (v := nI (k9 + 1)) (lv' := [(3, .int (nI (k9 + 1))), (0, .ref h), (2, .int (nI (min n wn)))]) C.x C.b d_MD_link_126 hl (k := 2) rfl (k_inc _ 1) (by decide) rfl (fun ls hl => ?_)
                refine lv_goto (tgt := 104) C.x C.b d_MD_link_129 (by decide) ?_
                exact ih104 (k9 + 1) (upd gw k9 ((gw (k9 + (min n wn))).toInt8.toInt32)) (by omega) (by omega) ((sh_step hw1 hw2 (by rw [hw2 _ (by omega), (ba_get hw (i := k9 + min n wn) (by omega)).1, sx_sx])).1) ((sh_step hw1 hw2 (by rw [hw2 _ (by omega), (ba_get hw (i := k9 + min n wn) (by omega)).1, sx_sx])).2) _ _ _ (hP.sub [0, 1, 2] (rfl)) (hD.sub [0, 1, 2] (by decide) (rfl)) hS (lv_sub hl [1, 2, 0] (rfl))
          exact L104 ((wn - min n wn - 0) + 1) 0 fw (Nat.lt_succ_self _) (by omega) (fun i hi => absurd hi (Nat.not_lt_zero _)) (fun _ _ => rfl) _ _ _ (hP.sub [0, 1, 2] (rfl)) (hD.sub [0, 1, 2] (by decide) (rfl)) hS (lv_sub hl [1, 2, 0] (rfl))
        · rw [nI_leI (by omega) (by omega)] at hc56
          refine lv_aload_n C.x C.b d_MD_link_59 rfl (lv_at hl 0 rfl) ?_
          refine k_get C hP 0 rfl rfl i_MD 11 (by decide) m_663 rfl d_MD_link_60 ?_
          refine lv_aload_n C.x C.b d_MD_link_63 rfl (lv_at hl 0 rfl) ?_
          refine k_get C hP 0 rfl rfl i_MD 10 (by decide) m_662 rfl d_MD_link_64 ?_
          refine lv_iload_n C.x C.b d_MD_link_67 rfl (lv_at hl 2 rfl) ?_
          refine lv_iadd C.x C.b d_MD_link_68 ?_
          refine k_top (y := nI (cn + j)) (nI_add _ _) ?_
          refine lv_aload_n C.x C.b d_MD_link_69 rfl (lv_at hl 0 rfl) ?_
          refine k_get C hP 0 rfl rfl i_MD 9 (by decide) m_661 rfl d_MD_link_70 ?_
          refine lv_iload_n C.x C.b d_MD_link_73 rfl (lv_at hl 2 rfl) ?_
          refine k_bald C hP 1 rfl (j := j) (by omega) (by omega) d_MD_link_74 ?_
          refine k_bast C hP hD hS 2 rfl (j := (cn + j)) (by omega) (by omega) d_MD_link_75 (fun H locs hP hD hS => ?_)
          have hP : va_P d.1 clz [(h, ob 1 [.int (nI 0), .ref an, .ref ak, .int lt, .int se, .ref au, .int (nI pn), .ref ap, .int (nI wn), .ref aw, .int (nI cn), .ref ac, .int ln, .int ft, .int (nI on), .ref ag, .ref ax, .ref ao, .ref al, .ref av, .ref ae, .ref ar, .ref ad, .ref aW, .ref aS, .ref aN, .ref aR, .ref aG]), (aw, aB d 6000 fw), (ac, aB d 2000 (upd g9 (cn + j) ((fw j).toInt8.toInt32)))] H := hP
          have hD : va_D A [(h, ob 1 [.int (nI 0), .ref an, .ref ak, .int lt, .int se, .ref au, .int (nI pn), .ref ap, .int (nI wn), .ref aw, .int (nI cn), .ref ac, .int ln, .int ft, .int (nI on), .ref ag, .ref ax, .ref ao, .ref al, .ref av, .ref ae, .ref ar, .ref ad, .ref aW, .ref aS, .ref aN, .ref aR, .ref aG]), (aw, aB d 6000 fw), (ac, aB d 2000 (upd g9 (cn + j) ((fw j).toInt8.toInt32)))] := hD
          refine lv_iinc (v := nI (j + 1)) (lv' := [(3, .int (nI (j + 1))), (0, .ref h), (2, .int (nI (min n wn)))]) C.x C.b d_MD_link_76 hl (k := 2) rfl (k_inc _ 1) (by decide) rfl (fun ls hl => ?_)
          refine lv_goto (tgt := 54) C.x C.b d_MD_link_79 (by decide) ?_
          exact ih54 (j + 1) (upd g9 (cn + j) ((fw j).toInt8.toInt32)) (by omega) (by omega) (by rw [tk_succ (by omega), ← List.append_assoc]; exact ba_push hg9 (by rw [List.length_append, List.length_take, hcl, Nat.min_eq_left (by omega)]) (by rw [(ba_get hw (i := j) (by omega)).1, sx_sx]) (ba_get hw (by omega)).2) _ _ _ (hP.sub [0, 1, 2] (rfl)) (hD.sub [0, 1, 2] (by decide) (rfl)) hS (lv_sub hl [1, 2, 0] (rfl))
    exact L54 ((min n wn - 0) + 1) 0 fc (Nat.lt_succ_self _) (by omega) (by rw [List.take_zero, List.append_nil]; exact hc) _ _ _ (hP.sub [2, 0, 1] (rfl)) (hD.sub [2, 0, 1] (by decide) (rfl)) hS (lv_sub hl [2, 1, 0] (rfl))
  · rw [nI_leI (by omega) (by omega)] at hc5
    refine lv_iload_n C.x C.b d_MD_link_8 rfl (lv_at hl 1 rfl) ?_
    refine k_top (y := nI (min n wn)) (by rw [Nat.min_eq_left (by omega)]) ?_
    refine lv_goto (tgt := 16) C.x C.b d_MD_link_9 (by decide) ?_
    refine lv_istore_n (lv' := [(2, .int (nI (min n wn))), (0, .ref h), (1, .int (nI n))]) C.x C.b d_MD_link_16 rfl hl (by decide) rfl (fun ls hl => ?_)
    refine lv_aload_n C.x C.b d_MD_link_17 rfl (lv_at hl 1 rfl) ?_
    refine lv_iload_n C.x C.b d_MD_link_18 rfl (lv_at hl 2 rfl) ?_
    refine lv_if_ge (tgt := 26) C.x C.b d_MD_link_19 (by decide) (fun hc_7 => ?_) (fun h9 => False.elim (h9 (nI_pos' (by omega))))
    refine lv_iconst (v := nI 0) C.x C.b d_MD_link_26 (by decide) ?_
    refine lv_aload_n C.x C.b d_MD_link_27 rfl (lv_at hl 1 rfl) ?_
    refine k_get C hP 0 rfl rfl i_MD 10 (by decide) m_662 rfl d_MD_link_28 ?_
    refine lv_iload_n C.x C.b d_MD_link_31 rfl (lv_at hl 0 rfl) ?_
    refine lv_iadd C.x C.b d_MD_link_32 ?_
    refine k_top (y := nI (cn + (min n wn))) (nI_add _ _) ?_
    refine lv_sipush (v := nI 2000) C.x C.b d_MD_link_33 (by decide) ?_
    refine lv_icmp_le (tgt := 43) C.x C.b d_MD_link_36 (by decide) (fun hc_8 => ?_) (fun h9 => False.elim (h9 (nI_le (by omega) (by omega))))
    rw [nI_leI (by omega) (by omega)] at hc_8
    refine lv_iconst (v := nI 0) C.x C.b d_MD_link_43 (by decide) ?_
    refine k_callV (As := [.int (nI 0), .int (nI 0)]) (rest := []) (wc := [(h, ob 1 [.int th, .ref an, .ref ak, .int lt, .int se, .ref au, .int (nI pn), .ref ap, .int (nI wn), .ref aw, .int (nI cn), .ref ac, .int ln, .int ft, .int (nI on), .ref ag, .ref ax, .ref ao, .ref al, .ref av, .ref ae, .ref ar, .ref ad, .ref aW, .ref aS, .ref aN, .ref aR, .ref aG])]) (wr := [(aw, aB d 6000 fw), (ac, aB d 2000 fc)]) C (c_MD_refused0 l d h an ak au ap aw ac ag ax ao al av ae ar ad aW aS aN aR aG th lt se (nI pn) (nI wn) (nI cn) ln ft (nI on)) mw_MD_refused ms_18 m_745 hP hD hS [0] [1, 2] rfl rfl (by decide) (by decide) (by decide) 0 rfl rfl rfl rfl hl.1 (Nat.le_of_ble_eq_true rfl) d_MD_link_44 ⟨Nat.le_of_ble_eq_true rfl, Nat.le_of_ble_eq_true rfl⟩ ⟨by decide, by decide⟩ (fun _ H locs hw_9 hP hD hS => ?_)
    have hP : va_P d.1 clz [(aw, aB d 6000 fw), (ac, aB d 2000 fc), (h, ob 1 [.int (nI 0), .ref an, .ref ak, .int lt, .int se, .ref au, .int (nI pn), .ref ap, .int (nI wn), .ref aw, .int (nI cn), .ref ac, .int ln, .int ft, .int (nI on), .ref ag, .ref ax, .ref ao, .ref al, .ref av, .ref ae, .ref ar, .ref ad, .ref aW, .ref aS, .ref aN, .ref aR, .ref aG])] H := hP
    have hD : va_D A [(aw, aB d 6000 fw), (ac, aB d 2000 fc), (h, ob 1 [.int (nI 0), .ref an, .ref ak, .int lt, .int se, .ref au, .int (nI pn), .ref ap, .int (nI wn), .ref aw, .int (nI cn), .ref ac, .int ln, .int ft, .int (nI on), .ref ag, .ref ax, .ref ao, .ref al, .ref av, .ref ae, .ref ar, .ref ad, .ref aW, .ref aS, .ref aN, .ref aR, .ref aG])] := hD
    refine W.eq (g2 := F0 m 47 ls [.int (nI 0)]) rfl ?_
    refine lv_if_eq (tgt := 52) C.x C.b d_MD_link_47 (by decide) (fun _ => ?_) (fun h9 => by first | exact absurd h9 (by decide) | exact absurd (by decide) h9)
    refine lv_iconst (v := nI 0) C.x C.b d_MD_link_52 (by decide) ?_
    refine lv_istore_n (lv' := [(3, .int (nI 0)), (2, .int (nI (min n wn))), (0, .ref h), (1, .int (nI n))]) C.x C.b d_MD_link_53 rfl hl (by decide) rfl (fun ls hl => ?_)
    have L54 : ∀ (fuel : Nat) (j : Nat) (g9 : Nat → Int32), min n wn - j < fuel → (j ≤ min n wn) → (BA g9 (cL ++ wL.take j)) → ∀ (H : Heap) (locs : List Loc) (ls : Array Slot), va_P d.1 clz [(h, ob 1 [.int (nI 0), .ref an, .ref ak, .int lt, .int se, .ref au, .int (nI pn), .ref ap, .int (nI wn), .ref aw, .int (nI cn), .ref ac, .int ln, .int ft, .int (nI on), .ref ag, .ref ax, .ref ao, .ref al, .ref av, .ref ae, .ref ar, .ref ad, .ref aW, .ref aS, .ref aN, .ref aR, .ref aG]), (aw, aB d 6000 fw), (ac, aB d 2000 g9)] H → va_D A [(h, ob 1 [.int (nI 0), .ref an, .ref ak, .int lt, .int se, .ref au, .int (nI pn), .ref ap, .int (nI wn), .ref aw, .int (nI cn), .ref ac, .int ln, .int ft, .int (nI on), .ref ag, .ref ax, .ref ao, .ref al, .ref av, .ref ae, .ref ar, .ref ad, .ref aW, .ref aS, .ref aN, .ref aR, .ref aG]), (aw, aB d 6000 fw), (ac, aB d 2000 g9)] → va_S A s.heap H locs → lv_has ls 4 [(0, .ref h), (2, .int (nI (min n wn))), (3, .int (nI j))] → W p l e (Rm 1 22 0 0) s m ([.ref h, .int (nI n)] : List Value).toArray below meth c H locs 0 0 (MQ below (Cout d A (fun (u : (Nat → Int32) × (Nat → Int32)) => match u with | (w2, c2) => some (.int (nI (min n wn)))) (fun (u : (Nat → Int32) × (Nat → Int32)) => match u with | (w2, c2) => BA w2 (wL.drop (min n wn)) ∧ BA c2 (cL ++ wL.take (min n wn))) (fun (u : (Nat → Int32) × (Nat → Int32)) => match u with | (w2, c2) => [(h, ob 1 [.int (nI 0), .ref an, .ref ak, .int lt, .int se, .ref au, .int (nI pn), .ref ap, .int (nI (wn - min n wn)), .ref aw, .int (nI (cn + min n wn)), .ref ac, .int ln, .int ft, .int (nI on), .ref ag, .ref ax, .ref ao, .ref al, .ref av, .ref ae, .ref ar, .ref ad, .ref aW, .ref aS, .ref aN, .ref aR, .ref aG]), (aw, aB d 6000 w2), (ac, aB d 2000 c2)])) ([.ref h, .int (nI n)] : List Value).toArray s 0 0 A) (F0 m 54 ls []) := by
      intro fuel
      induction fuel with
      | zero => intro j g9 h9; exact absurd h9 (Nat.not_lt_zero _)
      | succ fuel ih54 =>
        intro j g9 hfu54 hj hg9 H locs ls hP hD hS hl
        refine lv_iload_n C.x C.b d_MD_link_54 rfl (lv_at hl 2 rfl) ?_
        refine lv_iload_n C.x C.b d_MD_link_55 rfl (lv_at hl 1 rfl) ?_
        refine lv_icmp_ge (tgt := 82) C.x C.b d_MD_link_56 (by decide) (fun hc56 => ?_) (fun hc56 => ?_)
        · rw [nI_leI (by omega) (by omega)] at hc56
          refine lv_aload_n C.x C.b d_MD_link_82 rfl (lv_at hl 0 rfl) ?_
          refine lv_aload_n C.x C.b d_MD_link_83 rfl (lv_at hl 0 rfl) ?_
          refine k_get C hP 0 rfl rfl i_MD 10 (by decide) m_662 rfl d_MD_link_84 ?_
          refine lv_iload_n C.x C.b d_MD_link_87 rfl (lv_at hl 1 rfl) ?_
          refine lv_iadd C.x C.b d_MD_link_88 ?_
          refine k_top (y := nI (cn + (min n wn))) (nI_add _ _) ?_
          refine k_put C hP hD hS 0 rfl rfl i_MD tk_MD n_MD 10 (by decide) m_662 rfl rfl rfl (Nat.le_of_ble_eq_true rfl) d_MD_link_89 (fun H locs hP hD hS => ?_)
          have hP : va_P d.1 clz [(h, ob 1 [.int (nI 0), .ref an, .ref ak, .int lt, .int se, .ref au, .int (nI pn), .ref ap, .int (nI wn), .ref aw, .int (nI (cn + (min n wn))), .ref ac, .int ln, .int ft, .int (nI on), .ref ag, .ref ax, .ref ao, .ref al, .ref av, .ref ae, .ref ar, .ref ad, .ref aW, .ref aS, .ref aN, .ref aR, .ref aG]), (aw, aB d 6000 fw), (ac, aB d 2000 g9)] H := hP
          have hD : va_D A [(h, ob 1 [.int (nI 0), .ref an, .ref ak, .int lt, .int se, .ref au, .int (nI pn), .ref ap, .int (nI wn), .ref aw, .int (nI (cn + (min n wn))), .ref ac, .int ln, .int ft, .int (nI on), .ref ag, .ref ax, .ref ao, .ref al, .ref av, .ref ae, .ref ar, .ref ad, .ref aW, .ref aS, .ref aN, .ref aR, .ref aG]), (aw, aB d 6000 fw), (ac, aB d 2000 g9)] := hD
          refine lv_aload_n C.x C.b d_MD_link_92 rfl (lv_at hl 0 rfl) ?_
          refine lv_aload_n C.x C.b d_MD_link_93 rfl (lv_at hl 0 rfl) ?_
          refine k_get C hP 0 rfl rfl i_MD 8 (by decide) m_660 rfl d_MD_link_94 ?_
          refine lv_iload_n C.x C.b d_MD_link_97 rfl (lv_at hl 1 rfl) ?_
          refine lv_isub C.x C.b d_MD_link_98 ?_
          refine k_top (y := nI (wn - (min n wn))) (pk_sub (by omega)) ?_
          refine k_put C hP hD hS 0 rfl rfl i_MD tk_MD n_MD 8 (by decide) m_660 rfl rfl rfl (Nat.le_of_ble_eq_true rfl) d_MD_link_99 (fun H locs hP hD hS => ?_)
          have hP : va_P d.1 clz [(h, ob 1 [.int (nI 0), .ref an, .ref ak, .int lt, .int se, .ref au, .int (nI pn), .ref ap, .int (nI (wn - (min n wn))), .ref aw, .int (nI (cn + (min n wn))), .ref ac, .int ln, .int ft, .int (nI on), .ref ag, .ref ax, .ref ao, .ref al, .ref av, .ref ae, .ref ar, .ref ad, .ref aW, .ref aS, .ref aN, .ref aR, .ref aG]), (aw, aB d 6000 fw), (ac, aB d 2000 g9)] H := hP
          have hD : va_D A [(h, ob 1 [.int (nI 0), .ref an, .ref ak, .int lt, .int se, .ref au, .int (nI pn), .ref ap, .int (nI (wn - (min n wn))), .ref aw, .int (nI (cn + (min n wn))), .ref ac, .int ln, .int ft, .int (nI on), .ref ag, .ref ax, .ref ao, .ref al, .ref av, .ref ae, .ref ar, .ref ad, .ref aW, .ref aS, .ref aN, .ref aR, .ref aG]), (aw, aB d 6000 fw), (ac, aB d 2000 g9)] := hD
          refine lv_iconst (v := nI 0) C.x C.b d_MD_link_102 (by decide) ?_
          refine lv_istore_n (lv' := [(3, .int (nI 0)), (0, .ref h), (2, .int (nI (min n wn)))]) C.x C.b d_MD_link_103 rfl hl (by decide) rfl (fun ls hl => ?_)
          have L104 : ∀ (fuel : Nat) (k9 : Nat) (gw : Nat → Int32), wn - min n wn - k9 < fuel → (k9 ≤ wn - min n wn) → (∀ i, i < k9 → gw i = fw (i + min n wn)) → (∀ i, k9 ≤ i → gw i = fw i) → ∀ (H : Heap) (locs : List Loc) (ls : Array Slot), va_P d.1 clz [(h, ob 1 [.int (nI 0), .ref an, .ref ak, .int lt, .int se, .ref au, .int (nI pn), .ref ap, .int (nI (wn - (min n wn))), .ref aw, .int (nI (cn + (min n wn))), .ref ac, .int ln, .int ft, .int (nI on), .ref ag, .ref ax, .ref ao, .ref al, .ref av, .ref ae, .ref ar, .ref ad, .ref aW, .ref aS, .ref aN, .ref aR, .ref aG]), (aw, aB d 6000 gw), (ac, aB d 2000 g9)] H → va_D A [(h, ob 1 [.int (nI 0), .ref an, .ref ak, .int lt, .int se, .ref au, .int (nI pn), .ref ap, .int (nI (wn - (min n wn))), .ref aw, .int (nI (cn + (min n wn))), .ref ac, .int ln, .int ft, .int (nI on), .ref ag, .ref ax, .ref ao, .ref al, .ref av, .ref ae, .ref ar, .ref ad, .ref aW, .ref aS, .ref aN, .ref aR, .ref aG]), (aw, aB d 6000 gw), (ac, aB d 2000 g9)] → va_S A s.heap H locs → lv_has ls 4 [(0, .ref h), (2, .int (nI (min n wn))), (3, .int (nI k9))] → W p l e (Rm 1 22 0 0) s m ([.ref h, .int (nI n)] : List Value).toArray below meth c H locs 0 0 (MQ below (Cout d A (fun (u : (Nat → Int32) × (Nat → Int32)) => match u with | (w2, c2) => some (.int (nI (min n wn)))) (fun (u : (Nat → Int32) × (Nat → Int32)) => match u with | (w2, c2) => BA w2 (wL.drop (min n wn)) ∧ BA c2 (cL ++ wL.take (min n wn))) (fun (u : (Nat → Int32) × (Nat → Int32)) => match u with | (w2, c2) => [(h, ob 1 [.int (nI 0), .ref an, .ref ak, .int lt, .int se, .ref au, .int (nI pn), .ref ap, .int (nI (wn - min n wn)), .ref aw, .int (nI (cn + min n wn)), .ref ac, .int ln, .int ft, .int (nI on), .ref ag, .ref ax, .ref ao, .ref al, .ref av, .ref ae, .ref ar, .ref ad, .ref aW, .ref aS, .ref aN, .ref aR, .ref aG]), (aw, aB d 6000 w2), (ac, aB d 2000 c2)])) ([.ref h, .int (nI n)] : List Value).toArray s 0 0 A) (F0 m 104 ls []) := by
            intro fuel
            induction fuel with
            | zero => intro k9 gw h9; exact absurd h9 (Nat.not_lt_zero _)
            | succ fuel ih104 =>
              intro k9 gw hfu104 hk9 hw1 hw2 H locs ls hP hD hS hl
              refine lv_iload_n C.x C.b d_MD_link_104 rfl (lv_at hl 2 rfl) ?_
              refine lv_aload_n C.x C.b d_MD_link_105 rfl (lv_at hl 0 rfl) ?_
              refine k_get C hP 0 rfl rfl i_MD 8 (by decide) m_660 rfl d_MD_link_106 ?_
              refine lv_icmp_ge (tgt := 132) C.x C.b d_MD_link_109 (by decide) (fun hc109 => ?_) (fun hc109 => ?_)
              · rw [nI_leI (by omega) (by omega)] at hc109
                refine lv_iload_n C.x C.b d_MD_link_132 rfl (lv_at hl 1 rfl) ?_
                have hP9 := hP.sub (ws' := [(h, ob 1 [.int (nI 0), .ref an, .ref ak, .int lt, .int se, .ref au, .int (nI pn), .ref ap, .int (nI (wn - (min n wn))), .ref aw, .int (nI (cn + (min n wn))), .ref ac, .int ln, .int ft, .int (nI on), .ref ag, .ref ax, .ref ao, .ref al, .ref av, .ref ae, .ref ar, .ref ad, .ref aW, .ref aS, .ref aN, .ref aR, .ref aG]), (aw, aB d 6000 gw), (ac, aB d 2000 g9)]) [0, 1, 2] rfl
                have hD9 := hD.sub (ws' := [(h, ob 1 [.int (nI 0), .ref an, .ref ak, .int lt, .int se, .ref au, .int (nI pn), .ref ap, .int (nI (wn - (min n wn))), .ref aw, .int (nI (cn + (min n wn))), .ref ac, .int ln, .int ft, .int (nI on), .ref ag, .ref ax, .ref ao, .ref al, .ref av, .ref ae, .ref ar, .ref ad, .ref aW, .ref aS, .ref aN, .ref aR, .ref aG]), (aw, aB d 6000 gw), (ac, aB d 2000 g9)]) [0, 1, 2] (by decide) rfl
                exact k_iret C hS (gw, g9) (rfl) (⟨ba_drop hw (by omega) hw1, by rw [show j = min n wn from by omega] at hg9; exact hg9⟩) hP9 hD9 d_MD_link_133
              · rw [nI_leI (by omega) (by omega)] at hc109
                refine lv_aload_n C.x C.b d_MD_link_112 rfl (lv_at hl 0 rfl) ?_
                refine k_get C hP 0 rfl rfl i_MD 9 (by decide) m_661 rfl d_MD_link_113 ?_
                refine lv_iload_n C.x C.b d_MD_link_116 rfl (lv_at hl 2 rfl) ?_
                refine lv_aload_n C.x C.b d_MD_link_117 rfl (lv_at hl 0 rfl) ?_
                refine k_get C hP 0 rfl rfl i_MD 9 (by decide) m_661 rfl d_MD_link_118 ?_
                refine lv_iload_n C.x C.b d_MD_link_121 rfl (lv_at hl 2 rfl) ?_
                refine lv_iload_n C.x C.b d_MD_link_122 rfl (lv_at hl 1 rfl) ?_
                refine lv_iadd C.x C.b d_MD_link_123 ?_
                refine k_top (y := nI (k9 + (min n wn))) (nI_add _ _) ?_
                refine k_bald C hP 1 rfl (j := (k9 + (min n wn))) (by omega) (by omega) d_MD_link_124 ?_
                refine k_bast C hP hD hS 1 rfl (j := k9) (by omega) (by omega) d_MD_link_125 (fun H locs hP hD hS => ?_)
                have hP : va_P d.1 clz [(h, ob 1 [.int (nI 0), .ref an, .ref ak, .int lt, .int se, .ref au, .int (nI pn), .ref ap, .int (nI (wn - (min n wn))), .ref aw, .int (nI (cn + (min n wn))), .ref ac, .int ln, .int ft, .int (nI on), .ref ag, .ref ax, .ref ao, .ref al, .ref av, .ref ae, .ref ar, .ref ad, .ref aW, .ref aS, .ref aN, .ref aR, .ref aG]), (aw, aB d 6000 (upd gw k9 ((gw (k9 + (min n wn))).toInt8.toInt32))), (ac, aB d 2000 g9)] H := hP
                have hD : va_D A [(h, ob 1 [.int (nI 0), .ref an, .ref ak, .int lt, .int se, .ref au, .int (nI pn), .ref ap, .int (nI (wn - (min n wn))), .ref aw, .int (nI (cn + (min n wn))), .ref ac, .int ln, .int ft, .int (nI on), .ref ag, .ref ax, .ref ao, .ref al, .ref av, .ref ae, .ref ar, .ref ad, .ref aW, .ref aS, .ref aN, .ref aR, .ref aG]), (aw, aB d 6000 (upd gw k9 ((gw (k9 + (min n wn))).toInt8.toInt32))), (ac, aB d 2000 g9)] := hD
                refine lv_iinc (v := nI (k9 + 1)) (lv' := [(3, .int (nI (k9 + 1))), (0, .ref h), (2, .int (nI (min n wn)))]) C.x C.b d_MD_link_126 hl (k := 2) rfl (k_inc _ 1) (by decide) rfl (fun ls hl => ?_)
                refine lv_goto (tgt := 104) C.x C.b d_MD_link_129 (by decide) ?_
                exact ih104 (k9 + 1) (upd gw k9 ((gw (k9 + (min n wn))).toInt8.toInt32)) (by omega) (by omega) ((sh_step hw1 hw2 (by rw [hw2 _ (by omega), (ba_get hw (i := k9 + min n wn) (by omega)).1, sx_sx])).1) ((sh_step hw1 hw2 (by rw [hw2 _ (by omega), (ba_get hw (i := k9 + min n wn) (by omega)).1, sx_sx])).2) _ _ _ (hP.sub [0, 1, 2] (rfl)) (hD.sub [0, 1, 2] (by decide) (rfl)) hS (lv_sub hl [1, 2, 0] (rfl))
          exact L104 ((wn - min n wn - 0) + 1) 0 fw (Nat.lt_succ_self _) (by omega) (fun i hi => absurd hi (Nat.not_lt_zero _)) (fun _ _ => rfl) _ _ _ (hP.sub [0, 1, 2] (rfl)) (hD.sub [0, 1, 2] (by decide) (rfl)) hS (lv_sub hl [1, 2, 0] (rfl))
        · rw [nI_leI (by omega) (by omega)] at hc56
          refine lv_aload_n C.x C.b d_MD_link_59 rfl (lv_at hl 0 rfl) ?_
          refine k_get C hP 0 rfl rfl i_MD 11 (by decide) m_663 rfl d_MD_link_60 ?_
          refine lv_aload_n C.x C.b d_MD_link_63 rfl (lv_at hl 0 rfl) ?_
          refine k_get C hP 0 rfl rfl i_MD 10 (by decide) m_662 rfl d_MD_link_64 ?_
          refine lv_iload_n C.x C.b d_MD_link_67 rfl (lv_at hl 2 rfl) ?_
          refine lv_iadd C.x C.b d_MD_link_68 ?_
          refine k_top (y := nI (cn + j)) (nI_add _ _) ?_
          refine lv_aload_n C.x C.b d_MD_link_69 rfl (lv_at hl 0 rfl) ?_
          refine k_get C hP 0 rfl rfl i_MD 9 (by decide) m_661 rfl d_MD_link_70 ?_
          refine lv_iload_n C.x C.b d_MD_link_73 rfl (lv_at hl 2 rfl) ?_
          refine k_bald C hP 1 rfl (j := j) (by omega) (by omega) d_MD_link_74 ?_
          refine k_bast C hP hD hS 2 rfl (j := (cn + j)) (by omega) (by omega) d_MD_link_75 (fun H locs hP hD hS => ?_)
          have hP : va_P d.1 clz [(h, ob 1 [.int (nI 0), .ref an, .ref ak, .int lt, .int se, .ref au, .int (nI pn), .ref ap, .int (nI wn), .ref aw, .int (nI cn), .ref ac, .int ln, .int ft, .int (nI on), .ref ag, .ref ax, .ref ao, .ref al, .ref av, .ref ae, .ref ar, .ref ad, .ref aW, .ref aS, .ref aN, .ref aR, .ref aG]), (aw, aB d 6000 fw), (ac, aB d 2000 (upd g9 (cn + j) ((fw j).toInt8.toInt32)))] H := hP
          have hD : va_D A [(h, ob 1 [.int (nI 0), .ref an, .ref ak, .int lt, .int se, .ref au, .int (nI pn), .ref ap, .int (nI wn), .ref aw, .int (nI cn), .ref ac, .int ln, .int ft, .int (nI on), .ref ag, .ref ax, .ref ao, .ref al, .ref av, .ref ae, .ref ar, .ref ad, .ref aW, .ref aS, .ref aN, .ref aR, .ref aG]), (aw, aB d 6000 fw), (ac, aB d 2000 (upd g9 (cn + j) ((fw j).toInt8.toInt32)))] := hD
          refine lv_iinc (v := nI (j + 1)) (lv' := [(3, .int (nI (j + 1))), (0, .ref h), (2, .int (nI (min n wn)))]) C.x C.b d_MD_link_76 hl (k := 2) rfl (k_inc _ 1) (by decide) rfl (fun ls hl => ?_)
          refine lv_goto (tgt := 54) C.x C.b d_MD_link_79 (by decide) ?_
          exact ih54 (j + 1) (upd g9 (cn + j) ((fw j).toInt8.toInt32)) (by omega) (by omega) (by rw [tk_succ (by omega), ← List.append_assoc]; exact ba_push hg9 (by rw [List.length_append, List.length_take, hcl, Nat.min_eq_left (by omega)]) (by rw [(ba_get hw (i := j) (by omega)).1, sx_sx]) (ba_get hw (by omega)).2) _ _ _ (hP.sub [0, 1, 2] (rfl)) (hD.sub [0, 1, 2] (by decide) (rfl)) hS (lv_sub hl [1, 2, 0] (rfl))
    exact L54 ((min n wn - 0) + 1) 0 fc (Nat.lt_succ_self _) (by omega) (by rw [List.take_zero, List.append_nil]; exact hc) _ _ _ (hP.sub [2, 0, 1] (rfl)) (hD.sub [2, 0, 1] (by decide) (rfl)) hS (lv_sub hl [2, 1, 0] (rfl))
set_option maxHeartbeats 4000000 in
set_option maxRecDepth 100000 in
theorem c_MD_linkX (l : Launch) (d : DD) (h : Nat) (an : Nat) (ak : Nat) (au : Nat) (ap : Nat) (aw : Nat) (ac : Nat) (ag : Nat) (ax : Nat) (ao : Nat) (al : Nat) (av : Nat) (ae : Nat) (ar : Nat) (ad : Nat) (aW : Nat) (aS : Nat) (aN : Nat) (aR : Nat) (aG : Nat) (th : Int32) (lt : Int32) (se : Int32) (zs : Int32) (mn : Int32) (cz : Int32) (ln : Int32) (ft : Int32) (gz : Int32) (n : Int32) (hbad : n < 0) : Ct l y_MD_link b_MD_link 4 (some .int) 1 22 0 0 d [(h, ob 1 [.int th, .ref an, .ref ak, .int lt, .int se, .ref au, .int zs, .ref ap, .int mn, .ref aw, .int cz, .ref ac, .int ln, .int ft, .int gz, .ref ag, .ref ax, .ref ao, .ref al, .ref av, .ref ae, .ref ar, .ref ad, .ref aW, .ref aS, .ref aN, .ref aR, .ref aG])] [.ref h, .int n] (fun (_ : Unit) => some (.int (nI 0))) (fun (_ : Unit) => True) (fun (_ : Unit) => [(h, ob 1 [.int (nI 1), .ref an, .ref ak, .int lt, .int se, .ref au, .int zs, .ref ap, .int mn, .ref aw, .int cz, .ref ac, .int ln, .int ft, .int gz, .ref ag, .ref ax, .ref ao, .ref al, .ref av, .ref ae, .ref ar, .ref ad, .ref aW, .ref aS, .ref aN, .ref aR, .ref aG])]) := by
  refine Ct.of (by decide +kernel) (Nat.le_of_ble_eq_true rfl) ?_
  intro p e s m below meth c A ls C hP hD hS hl
  have hl : lv_has ls 4 [(0, .ref h), (1, .int n)] := hl
  have hsz9 := hS.1
  refine lv_iload_n C.x C.b d_MD_link_0 rfl (lv_at hl 1 rfl) ?_
  refine lv_aload_n C.x C.b d_MD_link_1 rfl (lv_at hl 0 rfl) ?_
  refine k_get C hP 0 rfl rfl i_MD 8 (by decide) m_660 rfl d_MD_link_2 ?_
  refine lv_icmp_ge (tgt := 12) C.x C.b d_MD_link_5 (by decide) (fun hc_1 => ?_) (fun hc_1 => ?_)
  · refine lv_aload_n C.x C.b d_MD_link_12 rfl (lv_at hl 0 rfl) ?_
    refine k_get C hP 0 rfl rfl i_MD 8 (by decide) m_660 rfl d_MD_link_13 ?_
    refine lv_istore_n (lv' := [(2, .int mn), (0, .ref h), (1, .int n)]) C.x C.b d_MD_link_16 rfl hl (by decide) rfl (fun ls hl => ?_)
    refine lv_aload_n C.x C.b d_MD_link_17 rfl (lv_at hl 1 rfl) ?_
    refine lv_iload_n C.x C.b d_MD_link_18 rfl (lv_at hl 2 rfl) ?_
    refine lv_if_ge (tgt := 26) C.x C.b d_MD_link_19 (by decide) (fun h9 => False.elim (Int32.not_le.mpr hbad h9)) (fun hc_2 => ?_)
    refine lv_iconst (v := nI 1) C.x C.b d_MD_link_22 (by decide) ?_
    refine lv_goto (tgt := 27) C.x C.b d_MD_link_23 (by decide) ?_
    refine lv_aload_n C.x C.b d_MD_link_27 rfl (lv_at hl 1 rfl) ?_
    refine k_get C hP 0 rfl rfl i_MD 10 (by decide) m_662 rfl d_MD_link_28 ?_
    refine lv_iload_n C.x C.b d_MD_link_31 rfl (lv_at hl 0 rfl) ?_
    refine lv_iadd C.x C.b d_MD_link_32 ?_
    refine lv_sipush (v := nI 2000) C.x C.b d_MD_link_33 (by decide) ?_
    refine lv_icmp_le (tgt := 43) C.x C.b d_MD_link_36 (by decide) (fun hc_3 => ?_) (fun hc_3 => ?_)
    · refine lv_iconst (v := nI 0) C.x C.b d_MD_link_43 (by decide) ?_
      refine k_callV (As := [.int (nI 1), .int (nI 0)]) (rest := []) (wc := [(h, ob 1 [.int th, .ref an, .ref ak, .int lt, .int se, .ref au, .int zs, .ref ap, .int mn, .ref aw, .int cz, .ref ac, .int ln, .int ft, .int gz, .ref ag, .ref ax, .ref ao, .ref al, .ref av, .ref ae, .ref ar, .ref ad, .ref aW, .ref aS, .ref aN, .ref aR, .ref aG])]) (wr := []) C (c_MD_refused1 l d h an ak au ap aw ac ag ax ao al av ae ar ad aW aS aN aR aG th lt se zs mn cz ln ft gz (nI 0)) mw_MD_refused ms_18 m_745 hP hD hS [0] [] rfl rfl (by decide) (by decide) (by decide) 0 rfl rfl rfl rfl hl.1 (Nat.le_of_ble_eq_true rfl) d_MD_link_44 ⟨Nat.le_of_ble_eq_true rfl, Nat.le_of_ble_eq_true rfl⟩ ⟨by decide, by decide⟩ (fun _ H locs hw_4 hP hD hS => ?_)
      have hP : va_P d.1 clz [(h, ob 1 [.int (nI 1), .ref an, .ref ak, .int lt, .int se, .ref au, .int zs, .ref ap, .int mn, .ref aw, .int cz, .ref ac, .int ln, .int ft, .int gz, .ref ag, .ref ax, .ref ao, .ref al, .ref av, .ref ae, .ref ar, .ref ad, .ref aW, .ref aS, .ref aN, .ref aR, .ref aG])] H := hP
      have hD : va_D A [(h, ob 1 [.int (nI 1), .ref an, .ref ak, .int lt, .int se, .ref au, .int zs, .ref ap, .int mn, .ref aw, .int cz, .ref ac, .int ln, .int ft, .int gz, .ref ag, .ref ax, .ref ao, .ref al, .ref av, .ref ae, .ref ar, .ref ad, .ref aW, .ref aS, .ref aN, .ref aR, .ref aG])] := hD
      refine W.eq (g2 := F0 m 47 ls [.int (nI 1)]) rfl ?_
      refine lv_if_eq (tgt := 52) C.x C.b d_MD_link_47 (by decide) (fun h9 => by first | exact absurd h9 (by decide) | exact absurd (by decide) h9) (fun _ => ?_)
      refine lv_iconst (v := nI 0) C.x C.b d_MD_link_50 (by decide) ?_
      have hP9 := hP.sub (ws' := [(h, ob 1 [.int (nI 1), .ref an, .ref ak, .int lt, .int se, .ref au, .int zs, .ref ap, .int mn, .ref aw, .int cz, .ref ac, .int ln, .int ft, .int gz, .ref ag, .ref ax, .ref ao, .ref al, .ref av, .ref ae, .ref ar, .ref ad, .ref aW, .ref aS, .ref aN, .ref aR, .ref aG])]) [0] rfl
      have hD9 := hD.sub (ws' := [(h, ob 1 [.int (nI 1), .ref an, .ref ak, .int lt, .int se, .ref au, .int zs, .ref ap, .int mn, .ref aw, .int cz, .ref ac, .int ln, .int ft, .int gz, .ref ag, .ref ax, .ref ao, .ref al, .ref av, .ref ae, .ref ar, .ref ad, .ref aW, .ref aS, .ref aN, .ref aR, .ref aG])]) [0] (by decide) rfl
      exact k_iret C hS () (rfl) (trivial) hP9 hD9 d_MD_link_51
    · refine lv_iconst (v := nI 1) C.x C.b d_MD_link_39 (by decide) ?_
      refine lv_goto (tgt := 44) C.x C.b d_MD_link_40 (by decide) ?_
      refine k_callV (As := [.int (nI 1), .int (nI 1)]) (rest := []) (wc := [(h, ob 1 [.int th, .ref an, .ref ak, .int lt, .int se, .ref au, .int zs, .ref ap, .int mn, .ref aw, .int cz, .ref ac, .int ln, .int ft, .int gz, .ref ag, .ref ax, .ref ao, .ref al, .ref av, .ref ae, .ref ar, .ref ad, .ref aW, .ref aS, .ref aN, .ref aR, .ref aG])]) (wr := []) C (c_MD_refused1 l d h an ak au ap aw ac ag ax ao al av ae ar ad aW aS aN aR aG th lt se zs mn cz ln ft gz (nI 1)) mw_MD_refused ms_18 m_745 hP hD hS [0] [] rfl rfl (by decide) (by decide) (by decide) 0 rfl rfl rfl rfl hl.1 (Nat.le_of_ble_eq_true rfl) d_MD_link_44 ⟨Nat.le_of_ble_eq_true rfl, Nat.le_of_ble_eq_true rfl⟩ ⟨by decide, by decide⟩ (fun _ H locs hw_5 hP hD hS => ?_)
      have hP : va_P d.1 clz [(h, ob 1 [.int (nI 1), .ref an, .ref ak, .int lt, .int se, .ref au, .int zs, .ref ap, .int mn, .ref aw, .int cz, .ref ac, .int ln, .int ft, .int gz, .ref ag, .ref ax, .ref ao, .ref al, .ref av, .ref ae, .ref ar, .ref ad, .ref aW, .ref aS, .ref aN, .ref aR, .ref aG])] H := hP
      have hD : va_D A [(h, ob 1 [.int (nI 1), .ref an, .ref ak, .int lt, .int se, .ref au, .int zs, .ref ap, .int mn, .ref aw, .int cz, .ref ac, .int ln, .int ft, .int gz, .ref ag, .ref ax, .ref ao, .ref al, .ref av, .ref ae, .ref ar, .ref ad, .ref aW, .ref aS, .ref aN, .ref aR, .ref aG])] := hD
      refine W.eq (g2 := F0 m 47 ls [.int (nI 1)]) rfl ?_
      refine lv_if_eq (tgt := 52) C.x C.b d_MD_link_47 (by decide) (fun h9 => by first | exact absurd h9 (by decide) | exact absurd (by decide) h9) (fun _ => ?_)
      refine lv_iconst (v := nI 0) C.x C.b d_MD_link_50 (by decide) ?_
      have hP9 := hP.sub (ws' := [(h, ob 1 [.int (nI 1), .ref an, .ref ak, .int lt, .int se, .ref au, .int zs, .ref ap, .int mn, .ref aw, .int cz, .ref ac, .int ln, .int ft, .int gz, .ref ag, .ref ax, .ref ao, .ref al, .ref av, .ref ae, .ref ar, .ref ad, .ref aW, .ref aS, .ref aN, .ref aR, .ref aG])]) [0] rfl
      have hD9 := hD.sub (ws' := [(h, ob 1 [.int (nI 1), .ref an, .ref ak, .int lt, .int se, .ref au, .int zs, .ref ap, .int mn, .ref aw, .int cz, .ref ac, .int ln, .int ft, .int gz, .ref ag, .ref ax, .ref ao, .ref al, .ref av, .ref ae, .ref ar, .ref ad, .ref aW, .ref aS, .ref aN, .ref aR, .ref aG])]) [0] (by decide) rfl
      exact k_iret C hS () (rfl) (trivial) hP9 hD9 d_MD_link_51
  · refine lv_iload_n C.x C.b d_MD_link_8 rfl (lv_at hl 1 rfl) ?_
    refine lv_goto (tgt := 16) C.x C.b d_MD_link_9 (by decide) ?_
    refine lv_istore_n (lv' := [(2, .int n), (0, .ref h), (1, .int n)]) C.x C.b d_MD_link_16 rfl hl (by decide) rfl (fun ls hl => ?_)
    refine lv_aload_n C.x C.b d_MD_link_17 rfl (lv_at hl 1 rfl) ?_
    refine lv_iload_n C.x C.b d_MD_link_18 rfl (lv_at hl 2 rfl) ?_
    refine lv_if_ge (tgt := 26) C.x C.b d_MD_link_19 (by decide) (fun h9 => False.elim (Int32.not_le.mpr hbad h9)) (fun hc_6 => ?_)
    refine lv_iconst (v := nI 1) C.x C.b d_MD_link_22 (by decide) ?_
    refine lv_goto (tgt := 27) C.x C.b d_MD_link_23 (by decide) ?_
    refine lv_aload_n C.x C.b d_MD_link_27 rfl (lv_at hl 1 rfl) ?_
    refine k_get C hP 0 rfl rfl i_MD 10 (by decide) m_662 rfl d_MD_link_28 ?_
    refine lv_iload_n C.x C.b d_MD_link_31 rfl (lv_at hl 0 rfl) ?_
    refine lv_iadd C.x C.b d_MD_link_32 ?_
    refine lv_sipush (v := nI 2000) C.x C.b d_MD_link_33 (by decide) ?_
    refine lv_icmp_le (tgt := 43) C.x C.b d_MD_link_36 (by decide) (fun hc_7 => ?_) (fun hc_7 => ?_)
    · refine lv_iconst (v := nI 0) C.x C.b d_MD_link_43 (by decide) ?_
      refine k_callV (As := [.int (nI 1), .int (nI 0)]) (rest := []) (wc := [(h, ob 1 [.int th, .ref an, .ref ak, .int lt, .int se, .ref au, .int zs, .ref ap, .int mn, .ref aw, .int cz, .ref ac, .int ln, .int ft, .int gz, .ref ag, .ref ax, .ref ao, .ref al, .ref av, .ref ae, .ref ar, .ref ad, .ref aW, .ref aS, .ref aN, .ref aR, .ref aG])]) (wr := []) C (c_MD_refused1 l d h an ak au ap aw ac ag ax ao al av ae ar ad aW aS aN aR aG th lt se zs mn cz ln ft gz (nI 0)) mw_MD_refused ms_18 m_745 hP hD hS [0] [] rfl rfl (by decide) (by decide) (by decide) 0 rfl rfl rfl rfl hl.1 (Nat.le_of_ble_eq_true rfl) d_MD_link_44 ⟨Nat.le_of_ble_eq_true rfl, Nat.le_of_ble_eq_true rfl⟩ ⟨by decide, by decide⟩ (fun _ H locs hw_8 hP hD hS => ?_)
      have hP : va_P d.1 clz [(h, ob 1 [.int (nI 1), .ref an, .ref ak, .int lt, .int se, .ref au, .int zs, .ref ap, .int mn, .ref aw, .int cz, .ref ac, .int ln, .int ft, .int gz, .ref ag, .ref ax, .ref ao, .ref al, .ref av, .ref ae, .ref ar, .ref ad, .ref aW, .ref aS, .ref aN, .ref aR, .ref aG])] H := hP
      have hD : va_D A [(h, ob 1 [.int (nI 1), .ref an, .ref ak, .int lt, .int se, .ref au, .int zs, .ref ap, .int mn, .ref aw, .int cz, .ref ac, .int ln, .int ft, .int gz, .ref ag, .ref ax, .ref ao, .ref al, .ref av, .ref ae, .ref ar, .ref ad, .ref aW, .ref aS, .ref aN, .ref aR, .ref aG])] := hD
      refine W.eq (g2 := F0 m 47 ls [.int (nI 1)]) rfl ?_
      refine lv_if_eq (tgt := 52) C.x C.b d_MD_link_47 (by decide) (fun h9 => by first | exact absurd h9 (by decide) | exact absurd (by decide) h9) (fun _ => ?_)
      refine lv_iconst (v := nI 0) C.x C.b d_MD_link_50 (by decide) ?_
      have hP9 := hP.sub (ws' := [(h, ob 1 [.int (nI 1), .ref an, .ref ak, .int lt, .int se, .ref au, .int zs, .ref ap, .int mn, .ref aw, .int cz, .ref ac, .int ln, .int ft, .int gz, .ref ag, .ref ax, .ref ao, .ref al, .ref av, .ref ae, .ref ar, .ref ad, .ref aW, .ref aS, .ref aN, .ref aR, .ref aG])]) [0] rfl
      have hD9 := hD.sub (ws' := [(h, ob 1 [.int (nI 1), .ref an, .ref ak, .int lt, .int se, .ref au, .int zs, .ref ap, .int mn, .ref aw, .int cz, .ref ac, .int ln, .int ft, .int gz, .ref ag, .ref ax, .ref ao, .ref al, .ref av, .ref ae, .ref ar, .ref ad, .ref aW, .ref aS, .ref aN, .ref aR, .ref aG])]) [0] (by decide) rfl
      exact k_iret C hS () (rfl) (trivial) hP9 hD9 d_MD_link_51
    · refine lv_iconst (v := nI 1) C.x C.b d_MD_link_39 (by decide) ?_
      refine lv_goto (tgt := 44) C.x C.b d_MD_link_40 (by decide) ?_
      refine k_callV (As := [.int (nI 1), .int (nI 1)]) (rest := []) (wc := [(h, ob 1 [.int th, .ref an, .ref ak, .int lt, .int se, .ref au, .int zs, .ref ap, .int mn, .ref aw, .int cz, .ref ac, .int ln, .int ft, .int gz, .ref ag, .ref ax, .ref ao, .ref al, .ref av, .ref ae, .ref ar, .ref ad, .ref aW, .ref aS, .ref aN, .ref aR, .ref aG])]) (wr := []) C (c_MD_refused1 l d h an ak au ap aw ac ag ax ao al av ae ar ad aW aS aN aR aG th lt se zs mn cz ln ft gz (nI 1)) mw_MD_refused ms_18 m_745 hP hD hS [0] [] rfl rfl (by decide) (by decide) (by decide) 0 rfl rfl rfl rfl hl.1 (Nat.le_of_ble_eq_true rfl) d_MD_link_44 ⟨Nat.le_of_ble_eq_true rfl, Nat.le_of_ble_eq_true rfl⟩ ⟨by decide, by decide⟩ (fun _ H locs hw_9 hP hD hS => ?_)
      have hP : va_P d.1 clz [(h, ob 1 [.int (nI 1), .ref an, .ref ak, .int lt, .int se, .ref au, .int zs, .ref ap, .int mn, .ref aw, .int cz, .ref ac, .int ln, .int ft, .int gz, .ref ag, .ref ax, .ref ao, .ref al, .ref av, .ref ae, .ref ar, .ref ad, .ref aW, .ref aS, .ref aN, .ref aR, .ref aG])] H := hP
      have hD : va_D A [(h, ob 1 [.int (nI 1), .ref an, .ref ak, .int lt, .int se, .ref au, .int zs, .ref ap, .int mn, .ref aw, .int cz, .ref ac, .int ln, .int ft, .int gz, .ref ag, .ref ax, .ref ao, .ref al, .ref av, .ref ae, .ref ar, .ref ad, .ref aW, .ref aS, .ref aN, .ref aR, .ref aG])] := hD
      refine W.eq (g2 := F0 m 47 ls [.int (nI 1)]) rfl ?_
      refine lv_if_eq (tgt := 52) C.x C.b d_MD_link_47 (by decide) (fun h9 => by first | exact absurd h9 (by decide) | exact absurd (by decide) h9) (fun _ => ?_)
      refine lv_iconst (v := nI 0) C.x C.b d_MD_link_50 (by decide) ?_
      have hP9 := hP.sub (ws' := [(h, ob 1 [.int (nI 1), .ref an, .ref ak, .int lt, .int se, .ref au, .int zs, .ref ap, .int mn, .ref aw, .int cz, .ref ac, .int ln, .int ft, .int gz, .ref ag, .ref ax, .ref ao, .ref al, .ref av, .ref ae, .ref ar, .ref ad, .ref aW, .ref aS, .ref aN, .ref aR, .ref aG])]) [0] rfl
      have hD9 := hD.sub (ws' := [(h, ob 1 [.int (nI 1), .ref an, .ref ak, .int lt, .int se, .ref au, .int zs, .ref ap, .int mn, .ref aw, .int cz, .ref ac, .int ln, .int ft, .int gz, .ref ag, .ref ax, .ref ao, .ref al, .ref av, .ref ae, .ref ar, .ref ad, .ref aW, .ref aS, .ref aN, .ref aR, .ref aG])]) [0] (by decide) rfl
      exact k_iret C hS () (rfl) (trivial) hP9 hD9 d_MD_link_51
set_option maxHeartbeats 4000000 in
set_option maxRecDepth 100000 in
theorem c_MD_linkY (l : Launch) (d : DD) (h : Nat) (an : Nat) (ak : Nat) (au : Nat) (ap : Nat) (aw : Nat) (ac : Nat) (ag : Nat) (ax : Nat) (ao : Nat) (al : Nat) (av : Nat) (ae : Nat) (ar : Nat) (ad : Nat) (aW : Nat) (aS : Nat) (aN : Nat) (aR : Nat) (aG : Nat) (th : Int32) (lt : Int32) (se : Int32) (ln : Int32) (ft : Int32) (pn : Nat) (wn : Nat) (cn : Nat) (on : Nat) (n : Nat) (hwn : wn ≤ 6000) (hn : n < 2 ^ 31) (hcn : cn ≤ 2000) (hr : 2000 < cn + min n wn) : Ct l y_MD_link b_MD_link 4 (some .int) 1 22 0 0 d [(h, ob 1 [.int th, .ref an, .ref ak, .int lt, .int se, .ref au, .int (nI pn), .ref ap, .int (nI wn), .ref aw, .int (nI cn), .ref ac, .int ln, .int ft, .int (nI on), .ref ag, .ref ax, .ref ao, .ref al, .ref av, .ref ae, .ref ar, .ref ad, .ref aW, .ref aS, .ref aN, .ref aR, .ref aG])] [.ref h, .int (nI n)] (fun (_ : Unit) => some (.int (nI 0))) (fun (_ : Unit) => True) (fun (_ : Unit) => [(h, ob 1 [.int (nI 2), .ref an, .ref ak, .int lt, .int se, .ref au, .int (nI pn), .ref ap, .int (nI wn), .ref aw, .int (nI cn), .ref ac, .int ln, .int ft, .int (nI on), .ref ag, .ref ax, .ref ao, .ref al, .ref av, .ref ae, .ref ar, .ref ad, .ref aW, .ref aS, .ref aN, .ref aR, .ref aG])]) := by
  refine Ct.of (by decide +kernel) (Nat.le_of_ble_eq_true rfl) ?_
  intro p e s m below meth c A ls C hP hD hS hl
  have hl : lv_has ls 4 [(0, .ref h), (1, .int (nI n))] := hl
  have hsz9 := hS.1
  have hmn : min n wn ≤ wn := Nat.min_le_right _ _
  refine lv_iload_n C.x C.b d_MD_link_0 rfl (lv_at hl 1 rfl) ?_
  refine lv_aload_n C.x C.b d_MD_link_1 rfl (lv_at hl 0 rfl) ?_
  refine k_get C hP 0 rfl rfl i_MD 8 (by decide) m_660 rfl d_MD_link_2 ?_
  refine lv_icmp_ge (tgt := 12) C.x C.b d_MD_link_5 (by decide) (fun hc_1 => ?_) (fun hc_1 => ?_)
  · rw [nI_leI (by omega) (by omega)] at hc_1
    refine lv_aload_n C.x C.b d_MD_link_12 rfl (lv_at hl 0 rfl) ?_
    refine k_get C hP 0 rfl rfl i_MD 8 (by decide) m_660 rfl d_MD_link_13 ?_
    refine k_top (y := nI (min n wn)) (by rw [Nat.min_eq_right (by omega)]) ?_
    refine lv_istore_n (lv' := [(2, .int (nI (min n wn))), (0, .ref h), (1, .int (nI n))]) C.x C.b d_MD_link_16 rfl hl (by decide) rfl (fun ls hl => ?_)
    refine lv_aload_n C.x C.b d_MD_link_17 rfl (lv_at hl 1 rfl) ?_
    refine lv_iload_n C.x C.b d_MD_link_18 rfl (lv_at hl 2 rfl) ?_
    refine lv_if_ge (tgt := 26) C.x C.b d_MD_link_19 (by decide) (fun hc_2 => ?_) (fun h9 => False.elim (h9 (nI_pos' (by omega))))
    refine lv_iconst (v := nI 0) C.x C.b d_MD_link_26 (by decide) ?_
    refine lv_aload_n C.x C.b d_MD_link_27 rfl (lv_at hl 1 rfl) ?_
    refine k_get C hP 0 rfl rfl i_MD 10 (by decide) m_662 rfl d_MD_link_28 ?_
    refine lv_iload_n C.x C.b d_MD_link_31 rfl (lv_at hl 0 rfl) ?_
    refine lv_iadd C.x C.b d_MD_link_32 ?_
    refine k_top (y := nI (cn + (min n wn))) (nI_add _ _) ?_
    refine lv_sipush (v := nI 2000) C.x C.b d_MD_link_33 (by decide) ?_
    refine lv_icmp_le (tgt := 43) C.x C.b d_MD_link_36 (by decide) (fun h9 => False.elim (nI_ge (by omega) (by omega) h9)) (fun hc_3 => ?_)
    rw [nI_leI (by omega) (by omega)] at hc_3
    refine lv_iconst (v := nI 1) C.x C.b d_MD_link_39 (by decide) ?_
    refine lv_goto (tgt := 44) C.x C.b d_MD_link_40 (by decide) ?_
    refine k_callV (As := [.int (nI 0), .int (nI 1)]) (rest := []) (wc := [(h, ob 1 [.int th, .ref an, .ref ak, .int lt, .int se, .ref au, .int (nI pn), .ref ap, .int (nI wn), .ref aw, .int (nI cn), .ref ac, .int ln, .int ft, .int (nI on), .ref ag, .ref ax, .ref ao, .ref al, .ref av, .ref ae, .ref ar, .ref ad, .ref aW, .ref aS, .ref aN, .ref aR, .ref aG])]) (wr := []) C (c_MD_refused2 l d h an ak au ap aw ac ag ax ao al av ae ar ad aW aS aN aR aG th lt se (nI pn) (nI wn) (nI cn) ln ft (nI on)) mw_MD_refused ms_18 m_745 hP hD hS [0] [] rfl rfl (by decide) (by decide) (by decide) 0 rfl rfl rfl rfl hl.1 (Nat.le_of_ble_eq_true rfl) d_MD_link_44 ⟨Nat.le_of_ble_eq_true rfl, Nat.le_of_ble_eq_true rfl⟩ ⟨by decide, by decide⟩ (fun _ H locs hw_4 hP hD hS => ?_)
    have hP : va_P d.1 clz [(h, ob 1 [.int (nI 2), .ref an, .ref ak, .int lt, .int se, .ref au, .int (nI pn), .ref ap, .int (nI wn), .ref aw, .int (nI cn), .ref ac, .int ln, .int ft, .int (nI on), .ref ag, .ref ax, .ref ao, .ref al, .ref av, .ref ae, .ref ar, .ref ad, .ref aW, .ref aS, .ref aN, .ref aR, .ref aG])] H := hP
    have hD : va_D A [(h, ob 1 [.int (nI 2), .ref an, .ref ak, .int lt, .int se, .ref au, .int (nI pn), .ref ap, .int (nI wn), .ref aw, .int (nI cn), .ref ac, .int ln, .int ft, .int (nI on), .ref ag, .ref ax, .ref ao, .ref al, .ref av, .ref ae, .ref ar, .ref ad, .ref aW, .ref aS, .ref aN, .ref aR, .ref aG])] := hD
    refine W.eq (g2 := F0 m 47 ls [.int (nI 1)]) rfl ?_
    refine lv_if_eq (tgt := 52) C.x C.b d_MD_link_47 (by decide) (fun h9 => by first | exact absurd h9 (by decide) | exact absurd (by decide) h9) (fun _ => ?_)
    refine lv_iconst (v := nI 0) C.x C.b d_MD_link_50 (by decide) ?_
    have hP9 := hP.sub (ws' := [(h, ob 1 [.int (nI 2), .ref an, .ref ak, .int lt, .int se, .ref au, .int (nI pn), .ref ap, .int (nI wn), .ref aw, .int (nI cn), .ref ac, .int ln, .int ft, .int (nI on), .ref ag, .ref ax, .ref ao, .ref al, .ref av, .ref ae, .ref ar, .ref ad, .ref aW, .ref aS, .ref aN, .ref aR, .ref aG])]) [0] rfl
    have hD9 := hD.sub (ws' := [(h, ob 1 [.int (nI 2), .ref an, .ref ak, .int lt, .int se, .ref au, .int (nI pn), .ref ap, .int (nI wn), .ref aw, .int (nI cn), .ref ac, .int ln, .int ft, .int (nI on), .ref ag, .ref ax, .ref ao, .ref al, .ref av, .ref ae, .ref ar, .ref ad, .ref aW, .ref aS, .ref aN, .ref aR, .ref aG])]) [0] (by decide) rfl
    exact k_iret C hS () (rfl) (trivial) hP9 hD9 d_MD_link_51
  · rw [nI_leI (by omega) (by omega)] at hc_1
    refine lv_iload_n C.x C.b d_MD_link_8 rfl (lv_at hl 1 rfl) ?_
    refine k_top (y := nI (min n wn)) (by rw [Nat.min_eq_left (by omega)]) ?_
    refine lv_goto (tgt := 16) C.x C.b d_MD_link_9 (by decide) ?_
    refine lv_istore_n (lv' := [(2, .int (nI (min n wn))), (0, .ref h), (1, .int (nI n))]) C.x C.b d_MD_link_16 rfl hl (by decide) rfl (fun ls hl => ?_)
    refine lv_aload_n C.x C.b d_MD_link_17 rfl (lv_at hl 1 rfl) ?_
    refine lv_iload_n C.x C.b d_MD_link_18 rfl (lv_at hl 2 rfl) ?_
    refine lv_if_ge (tgt := 26) C.x C.b d_MD_link_19 (by decide) (fun hc_5 => ?_) (fun h9 => False.elim (h9 (nI_pos' (by omega))))
    refine lv_iconst (v := nI 0) C.x C.b d_MD_link_26 (by decide) ?_
    refine lv_aload_n C.x C.b d_MD_link_27 rfl (lv_at hl 1 rfl) ?_
    refine k_get C hP 0 rfl rfl i_MD 10 (by decide) m_662 rfl d_MD_link_28 ?_
    refine lv_iload_n C.x C.b d_MD_link_31 rfl (lv_at hl 0 rfl) ?_
    refine lv_iadd C.x C.b d_MD_link_32 ?_
    refine k_top (y := nI (cn + (min n wn))) (nI_add _ _) ?_
    refine lv_sipush (v := nI 2000) C.x C.b d_MD_link_33 (by decide) ?_
    refine lv_icmp_le (tgt := 43) C.x C.b d_MD_link_36 (by decide) (fun h9 => False.elim (nI_ge (by omega) (by omega) h9)) (fun hc_6 => ?_)
    rw [nI_leI (by omega) (by omega)] at hc_6
    refine lv_iconst (v := nI 1) C.x C.b d_MD_link_39 (by decide) ?_
    refine lv_goto (tgt := 44) C.x C.b d_MD_link_40 (by decide) ?_
    refine k_callV (As := [.int (nI 0), .int (nI 1)]) (rest := []) (wc := [(h, ob 1 [.int th, .ref an, .ref ak, .int lt, .int se, .ref au, .int (nI pn), .ref ap, .int (nI wn), .ref aw, .int (nI cn), .ref ac, .int ln, .int ft, .int (nI on), .ref ag, .ref ax, .ref ao, .ref al, .ref av, .ref ae, .ref ar, .ref ad, .ref aW, .ref aS, .ref aN, .ref aR, .ref aG])]) (wr := []) C (c_MD_refused2 l d h an ak au ap aw ac ag ax ao al av ae ar ad aW aS aN aR aG th lt se (nI pn) (nI wn) (nI cn) ln ft (nI on)) mw_MD_refused ms_18 m_745 hP hD hS [0] [] rfl rfl (by decide) (by decide) (by decide) 0 rfl rfl rfl rfl hl.1 (Nat.le_of_ble_eq_true rfl) d_MD_link_44 ⟨Nat.le_of_ble_eq_true rfl, Nat.le_of_ble_eq_true rfl⟩ ⟨by decide, by decide⟩ (fun _ H locs hw_7 hP hD hS => ?_)
    have hP : va_P d.1 clz [(h, ob 1 [.int (nI 2), .ref an, .ref ak, .int lt, .int se, .ref au, .int (nI pn), .ref ap, .int (nI wn), .ref aw, .int (nI cn), .ref ac, .int ln, .int ft, .int (nI on), .ref ag, .ref ax, .ref ao, .ref al, .ref av, .ref ae, .ref ar, .ref ad, .ref aW, .ref aS, .ref aN, .ref aR, .ref aG])] H := hP
    have hD : va_D A [(h, ob 1 [.int (nI 2), .ref an, .ref ak, .int lt, .int se, .ref au, .int (nI pn), .ref ap, .int (nI wn), .ref aw, .int (nI cn), .ref ac, .int ln, .int ft, .int (nI on), .ref ag, .ref ax, .ref ao, .ref al, .ref av, .ref ae, .ref ar, .ref ad, .ref aW, .ref aS, .ref aN, .ref aR, .ref aG])] := hD
    refine W.eq (g2 := F0 m 47 ls [.int (nI 1)]) rfl ?_
    refine lv_if_eq (tgt := 52) C.x C.b d_MD_link_47 (by decide) (fun h9 => by first | exact absurd h9 (by decide) | exact absurd (by decide) h9) (fun _ => ?_)
    refine lv_iconst (v := nI 0) C.x C.b d_MD_link_50 (by decide) ?_
    have hP9 := hP.sub (ws' := [(h, ob 1 [.int (nI 2), .ref an, .ref ak, .int lt, .int se, .ref au, .int (nI pn), .ref ap, .int (nI wn), .ref aw, .int (nI cn), .ref ac, .int ln, .int ft, .int (nI on), .ref ag, .ref ax, .ref ao, .ref al, .ref av, .ref ae, .ref ar, .ref ad, .ref aW, .ref aS, .ref aN, .ref aR, .ref aG])]) [0] rfl
    have hD9 := hD.sub (ws' := [(h, ob 1 [.int (nI 2), .ref an, .ref ak, .int lt, .int se, .ref au, .int (nI pn), .ref ap, .int (nI wn), .ref aw, .int (nI cn), .ref ac, .int ln, .int ft, .int (nI on), .ref ag, .ref ax, .ref ao, .ref al, .ref av, .ref ae, .ref ar, .ref ad, .ref aW, .ref aS, .ref aN, .ref aR, .ref aG])]) [0] (by decide) rfl
    exact k_iret C hS () (rfl) (trivial) hP9 hD9 d_MD_link_51
theorem mw_MD_fail : Mw y_MD_fail b_MD_fail 2 (some .int) 1 := ⟨m_843, m_9, m_842, by decide +kernel⟩
set_option maxHeartbeats 4000000 in
set_option maxRecDepth 100000 in
theorem c_MD_fail (l : Launch) (d : DD) (h : Nat) (an : Nat) (ak : Nat) (au : Nat) (ap : Nat) (aw : Nat) (ac : Nat) (ag : Nat) (ax : Nat) (ao : Nat) (al : Nat) (av : Nat) (ae : Nat) (ar : Nat) (ad : Nat) (aW : Nat) (aS : Nat) (aN : Nat) (aR : Nat) (aG : Nat) (th : Int32) (lt : Int32) (se : Int32) (zs : Int32) (mn : Int32) (cz : Int32) (ln : Int32) (ft : Int32) (gz : Int32) (cd : Int32) : Ct l y_MD_fail b_MD_fail 2 (some .int) 0 0 0 0 d [(h, ob 1 [.int th, .ref an, .ref ak, .int lt, .int se, .ref au, .int zs, .ref ap, .int mn, .ref aw, .int cz, .ref ac, .int ln, .int ft, .int gz, .ref ag, .ref ax, .ref ao, .ref al, .ref av, .ref ae, .ref ar, .ref ad, .ref aW, .ref aS, .ref aN, .ref aR, .ref aG])] [.ref h, .int cd] (fun (_ : Unit) => some (.int (-cd))) (fun (_ : Unit) => True) (fun (_ : Unit) => [(h, ob 1 [.int th, .ref an, .ref ak, .int lt, .int se, .ref au, .int zs, .ref ap, .int mn, .ref aw, .int cz, .ref ac, .int ln, .int cd, .int gz, .ref ag, .ref ax, .ref ao, .ref al, .ref av, .ref ae, .ref ar, .ref ad, .ref aW, .ref aS, .ref aN, .ref aR, .ref aG])]) := by
  refine Ct.of (by decide +kernel) (Nat.le_of_ble_eq_true rfl) ?_
  intro p e s m below meth c A ls C hP hD hS hl
  have hl : lv_has ls 2 [(0, .ref h), (1, .int cd)] := hl
  have hsz9 := hS.1
  refine lv_aload_n C.x C.b d_MD_fail_0 rfl (lv_at hl 0 rfl) ?_
  refine lv_iload_n C.x C.b d_MD_fail_1 rfl (lv_at hl 1 rfl) ?_
  refine k_put C hP hD hS 0 rfl rfl i_MD tk_MD n_MD 13 (by decide) m_665 rfl rfl rfl (Nat.le_of_ble_eq_true rfl) d_MD_fail_2 (fun H locs hP hD hS => ?_)
  have hP : va_P d.1 clz [(h, ob 1 [.int th, .ref an, .ref ak, .int lt, .int se, .ref au, .int zs, .ref ap, .int mn, .ref aw, .int cz, .ref ac, .int ln, .int cd, .int gz, .ref ag, .ref ax, .ref ao, .ref al, .ref av, .ref ae, .ref ar, .ref ad, .ref aW, .ref aS, .ref aN, .ref aR, .ref aG])] H := hP
  have hD : va_D A [(h, ob 1 [.int th, .ref an, .ref ak, .int lt, .int se, .ref au, .int zs, .ref ap, .int mn, .ref aw, .int cz, .ref ac, .int ln, .int cd, .int gz, .ref ag, .ref ax, .ref ao, .ref al, .ref av, .ref ae, .ref ar, .ref ad, .ref aW, .ref aS, .ref aN, .ref aR, .ref aG])] := hD
  refine lv_iload_n C.x C.b d_MD_fail_5 rfl (lv_at hl 1 rfl) ?_
  refine lv_ineg C.x C.b d_MD_fail_6 ?_
  have hP9 := hP.sub (ws' := [(h, ob 1 [.int th, .ref an, .ref ak, .int lt, .int se, .ref au, .int zs, .ref ap, .int mn, .ref aw, .int cz, .ref ac, .int ln, .int cd, .int gz, .ref ag, .ref ax, .ref ao, .ref al, .ref av, .ref ae, .ref ar, .ref ad, .ref aW, .ref aS, .ref aN, .ref aR, .ref aG])]) [0] rfl
  have hD9 := hD.sub (ws' := [(h, ob 1 [.int th, .ref an, .ref ak, .int lt, .int se, .ref au, .int zs, .ref ap, .int mn, .ref aw, .int cz, .ref ac, .int ln, .int cd, .int gz, .ref ag, .ref ax, .ref ao, .ref al, .ref av, .ref ae, .ref ar, .ref ad, .ref aW, .ref aS, .ref aN, .ref aR, .ref aG])]) [0] (by decide) rfl
  exact k_iret C hS () (rfl) (trivial) hP9 hD9 d_MD_fail_7
theorem mw_MD_number : Mw y_MD_number b_MD_number 2 (some .int) 1 := ⟨m_855, m_9, m_853, by decide +kernel⟩
set_option maxHeartbeats 4000000 in
set_option maxRecDepth 100000 in
theorem c_MD_number (l : Launch) (d : DD) (h : Nat) (an : Nat) (ak : Nat) (au : Nat) (ap : Nat) (aw : Nat) (ac : Nat) (ag : Nat) (ax : Nat) (ao : Nat) (al : Nat) (av : Nat) (ae : Nat) (ar : Nat) (ad : Nat) (aW : Nat) (aS : Nat) (aN : Nat) (aR : Nat) (aG : Nat) (th : Int32) (lt : Int32) (se : Int32) (zs : Int32) (mn : Int32) (cz : Int32) (ln : Int32) (ft : Int32) (gz : Int32) (fu : Nat → Int32) (i : Nat) (hi : i < 2) : Ct l y_MD_number b_MD_number 2 (some .int) 1 22 0 0 d [(h, ob 1 [.int th, .ref an, .ref ak, .int lt, .int se, .ref au, .int zs, .ref ap, .int mn, .ref aw, .int cz, .ref ac, .int ln, .int ft, .int gz, .ref ag, .ref ax, .ref ao, .ref al, .ref av, .ref ae, .ref ar, .ref ad, .ref aW, .ref aS, .ref aN, .ref aR, .ref aG]), (au, aI d 2 fu)] [.ref h, .int (nI i)] (fun (_ : Unit) => some (.int (fu i))) (fun (_ : Unit) => True) (fun (_ : Unit) => [(h, ob 1 [.int (nI 0), .ref an, .ref ak, .int lt, .int se, .ref au, .int zs, .ref ap, .int mn, .ref aw, .int cz, .ref ac, .int ln, .int ft, .int gz, .ref ag, .ref ax, .ref ao, .ref al, .ref av, .ref ae, .ref ar, .ref ad, .ref aW, .ref aS, .ref aN, .ref aR, .ref aG]), (au, aI d 2 fu)]) := by
  refine Ct.of (by decide +kernel) (Nat.le_of_ble_eq_true rfl) ?_
  intro p e s m below meth c A ls C hP hD hS hl
  have hl : lv_has ls 2 [(0, .ref h), (1, .int (nI i))] := hl
  have hsz9 := hS.1
  refine lv_aload_n C.x C.b d_MD_number_0 rfl (lv_at hl 0 rfl) ?_
  refine lv_iload_n C.x C.b d_MD_number_1 rfl (lv_at hl 1 rfl) ?_
  refine lv_if_lt (tgt := 10) C.x C.b d_MD_number_2 (by decide) (fun h9 => False.elim (nI_pos (by omega) h9)) (fun hc_1 => ?_)
  rw [← nI_0, nI_ltI (by omega) (by omega)] at hc_1
  refine lv_iload_n C.x C.b d_MD_number_5 rfl (lv_at hl 1 rfl) ?_
  refine lv_iconst (v := nI 1) C.x C.b d_MD_number_6 (by decide) ?_
  refine lv_icmp_le (tgt := 14) C.x C.b d_MD_number_7 (by decide) (fun hc_2 => ?_) (fun h9 => False.elim (h9 (nI_le (by omega) (by omega))))
  rw [nI_leI (by omega) (by omega)] at hc_2
  refine lv_iconst (v := nI 0) C.x C.b d_MD_number_14 (by decide) ?_
  refine lv_iconst (v := nI 0) C.x C.b d_MD_number_15 (by decide) ?_
  refine k_callV (As := [.int (nI 0), .int (nI 0)]) (rest := []) (wc := [(h, ob 1 [.int th, .ref an, .ref ak, .int lt, .int se, .ref au, .int zs, .ref ap, .int mn, .ref aw, .int cz, .ref ac, .int ln, .int ft, .int gz, .ref ag, .ref ax, .ref ao, .ref al, .ref av, .ref ae, .ref ar, .ref ad, .ref aW, .ref aS, .ref aN, .ref aR, .ref aG])]) (wr := [(au, aI d 2 fu)]) C (c_MD_refused0 l d h an ak au ap aw ac ag ax ao al av ae ar ad aW aS aN aR aG th lt se zs mn cz ln ft gz) mw_MD_refused ms_18 m_745 hP hD hS [0] [1] rfl rfl (by decide) (by decide) (by decide) 0 rfl rfl rfl rfl hl.1 (Nat.le_of_ble_eq_true rfl) d_MD_number_16 ⟨Nat.le_of_ble_eq_true rfl, Nat.le_of_ble_eq_true rfl⟩ ⟨by decide, by decide⟩ (fun _ H locs hw_3 hP hD hS => ?_)
  have hP : va_P d.1 clz [(au, aI d 2 fu), (h, ob 1 [.int (nI 0), .ref an, .ref ak, .int lt, .int se, .ref au, .int zs, .ref ap, .int mn, .ref aw, .int cz, .ref ac, .int ln, .int ft, .int gz, .ref ag, .ref ax, .ref ao, .ref al, .ref av, .ref ae, .ref ar, .ref ad, .ref aW, .ref aS, .ref aN, .ref aR, .ref aG])] H := hP
  have hD : va_D A [(au, aI d 2 fu), (h, ob 1 [.int (nI 0), .ref an, .ref ak, .int lt, .int se, .ref au, .int zs, .ref ap, .int mn, .ref aw, .int cz, .ref ac, .int ln, .int ft, .int gz, .ref ag, .ref ax, .ref ao, .ref al, .ref av, .ref ae, .ref ar, .ref ad, .ref aW, .ref aS, .ref aN, .ref aR, .ref aG])] := hD
  refine W.eq (g2 := F0 m 19 ls [.int (nI 0)]) rfl ?_
  refine lv_if_eq (tgt := 26) C.x C.b d_MD_number_19 (by decide) (fun _ => ?_) (fun h9 => by first | exact absurd h9 (by decide) | exact absurd (by decide) h9)
  refine lv_aload_n C.x C.b d_MD_number_26 rfl (lv_at hl 0 rfl) ?_
  refine k_get C hP 1 rfl rfl i_MD 5 (by decide) m_657 rfl d_MD_number_27 ?_
  refine lv_iload_n C.x C.b d_MD_number_30 rfl (lv_at hl 1 rfl) ?_
  refine k_iald C hP 0 rfl (j := i) (by omega) (by omega) d_MD_number_31 ?_
  have hP9 := hP.sub (ws' := [(h, ob 1 [.int (nI 0), .ref an, .ref ak, .int lt, .int se, .ref au, .int zs, .ref ap, .int mn, .ref aw, .int cz, .ref ac, .int ln, .int ft, .int gz, .ref ag, .ref ax, .ref ao, .ref al, .ref av, .ref ae, .ref ar, .ref ad, .ref aW, .ref aS, .ref aN, .ref aR, .ref aG]), (au, aI d 2 fu)]) [1, 0] rfl
  have hD9 := hD.sub (ws' := [(h, ob 1 [.int (nI 0), .ref an, .ref ak, .int lt, .int se, .ref au, .int zs, .ref ap, .int mn, .ref aw, .int cz, .ref ac, .int ln, .int ft, .int gz, .ref ag, .ref ax, .ref ao, .ref al, .ref av, .ref ae, .ref ar, .ref ad, .ref aW, .ref aS, .ref aN, .ref aR, .ref aG]), (au, aI d 2 fu)]) [1, 0] (by decide) rfl
  exact k_iret C hS () (rfl) (trivial) hP9 hD9 d_MD_number_32
set_option maxHeartbeats 4000000 in
set_option maxRecDepth 100000 in
theorem c_MD_numberX (l : Launch) (d : DD) (h : Nat) (an : Nat) (ak : Nat) (au : Nat) (ap : Nat) (aw : Nat) (ac : Nat) (ag : Nat) (ax : Nat) (ao : Nat) (al : Nat) (av : Nat) (ae : Nat) (ar : Nat) (ad : Nat) (aW : Nat) (aS : Nat) (aN : Nat) (aR : Nat) (aG : Nat) (th : Int32) (lt : Int32) (se : Int32) (zs : Int32) (mn : Int32) (cz : Int32) (ln : Int32) (ft : Int32) (gz : Int32) (i : Int32) (hbad : i < 0 ∨ nI 1 < i) : Ct l y_MD_number b_MD_number 2 (some .int) 1 22 0 0 d [(h, ob 1 [.int th, .ref an, .ref ak, .int lt, .int se, .ref au, .int zs, .ref ap, .int mn, .ref aw, .int cz, .ref ac, .int ln, .int ft, .int gz, .ref ag, .ref ax, .ref ao, .ref al, .ref av, .ref ae, .ref ar, .ref ad, .ref aW, .ref aS, .ref aN, .ref aR, .ref aG])] [.ref h, .int i] (fun (_ : Unit) => some (.int (nI 0))) (fun (_ : Unit) => True) (fun (_ : Unit) => [(h, ob 1 [.int (nI 1), .ref an, .ref ak, .int lt, .int se, .ref au, .int zs, .ref ap, .int mn, .ref aw, .int cz, .ref ac, .int ln, .int ft, .int gz, .ref ag, .ref ax, .ref ao, .ref al, .ref av, .ref ae, .ref ar, .ref ad, .ref aW, .ref aS, .ref aN, .ref aR, .ref aG])]) := by
  refine Ct.of (by decide +kernel) (Nat.le_of_ble_eq_true rfl) ?_
  intro p e s m below meth c A ls C hP hD hS hl
  have hl : lv_has ls 2 [(0, .ref h), (1, .int i)] := hl
  have hsz9 := hS.1
  refine lv_aload_n C.x C.b d_MD_number_0 rfl (lv_at hl 0 rfl) ?_
  refine lv_iload_n C.x C.b d_MD_number_1 rfl (lv_at hl 1 rfl) ?_
  refine lv_if_lt (tgt := 10) C.x C.b d_MD_number_2 (by decide) (fun hca => ?_) (fun hca => ?_)
  · refine lv_iconst (v := nI 1) C.x C.b d_MD_number_10 (by decide) ?_
    refine lv_goto (tgt := 15) C.x C.b d_MD_number_11 (by decide) ?_
    refine lv_iconst (v := nI 0) C.x C.b d_MD_number_15 (by decide) ?_
    refine k_callV (As := [.int (nI 1), .int (nI 0)]) (rest := []) (wc := [(h, ob 1 [.int th, .ref an, .ref ak, .int lt, .int se, .ref au, .int zs, .ref ap, .int mn, .ref aw, .int cz, .ref ac, .int ln, .int ft, .int gz, .ref ag, .ref ax, .ref ao, .ref al, .ref av, .ref ae, .ref ar, .ref ad, .ref aW, .ref aS, .ref aN, .ref aR, .ref aG])]) (wr := []) C (c_MD_refused1 l d h an ak au ap aw ac ag ax ao al av ae ar ad aW aS aN aR aG th lt se zs mn cz ln ft gz (nI 0)) mw_MD_refused ms_18 m_745 hP hD hS [0] [] rfl rfl (by decide) (by decide) (by decide) 0 rfl rfl rfl rfl hl.1 (Nat.le_of_ble_eq_true rfl) d_MD_number_16 ⟨Nat.le_of_ble_eq_true rfl, Nat.le_of_ble_eq_true rfl⟩ ⟨by decide, by decide⟩ (fun _ H locs hw_2 hP hD hS => ?_)
    have hP : va_P d.1 clz [(h, ob 1 [.int (nI 1), .ref an, .ref ak, .int lt, .int se, .ref au, .int zs, .ref ap, .int mn, .ref aw, .int cz, .ref ac, .int ln, .int ft, .int gz, .ref ag, .ref ax, .ref ao, .ref al, .ref av, .ref ae, .ref ar, .ref ad, .ref aW, .ref aS, .ref aN, .ref aR, .ref aG])] H := hP
    have hD : va_D A [(h, ob 1 [.int (nI 1), .ref an, .ref ak, .int lt, .int se, .ref au, .int zs, .ref ap, .int mn, .ref aw, .int cz, .ref ac, .int ln, .int ft, .int gz, .ref ag, .ref ax, .ref ao, .ref al, .ref av, .ref ae, .ref ar, .ref ad, .ref aW, .ref aS, .ref aN, .ref aR, .ref aG])] := hD
    refine W.eq (g2 := F0 m 19 ls [.int (nI 1)]) rfl ?_
    refine lv_if_eq (tgt := 26) C.x C.b d_MD_number_19 (by decide) (fun h9 => by first | exact absurd h9 (by decide) | exact absurd (by decide) h9) (fun _ => ?_)
    refine lv_iconst (v := nI 0) C.x C.b d_MD_number_22 (by decide) ?_
    refine lv_goto (tgt := 32) C.x C.b d_MD_number_23 (by decide) ?_
    have hP9 := hP.sub (ws' := [(h, ob 1 [.int (nI 1), .ref an, .ref ak, .int lt, .int se, .ref au, .int zs, .ref ap, .int mn, .ref aw, .int cz, .ref ac, .int ln, .int ft, .int gz, .ref ag, .ref ax, .ref ao, .ref al, .ref av, .ref ae, .ref ar, .ref ad, .ref aW, .ref aS, .ref aN, .ref aR, .ref aG])]) [0] rfl
    have hD9 := hD.sub (ws' := [(h, ob 1 [.int (nI 1), .ref an, .ref ak, .int lt, .int se, .ref au, .int zs, .ref ap, .int mn, .ref aw, .int cz, .ref ac, .int ln, .int ft, .int gz, .ref ag, .ref ax, .ref ao, .ref al, .ref av, .ref ae, .ref ar, .ref ad, .ref aW, .ref aS, .ref aN, .ref aR, .ref aG])]) [0] (by decide) rfl
    exact k_iret C hS () (rfl) (trivial) hP9 hD9 d_MD_number_32
  · refine lv_iload_n C.x C.b d_MD_number_5 rfl (lv_at hl 1 rfl) ?_
    refine lv_iconst (v := nI 1) C.x C.b d_MD_number_6 (by decide) ?_
    refine lv_icmp_le (tgt := 14) C.x C.b d_MD_number_7 (by decide) (fun h9 => False.elim (hbad.elim hca (fun q => Int32.not_le.mpr q h9))) (fun hc_3 => ?_)
    refine lv_iconst (v := nI 1) C.x C.b d_MD_number_10 (by decide) ?_
    refine lv_goto (tgt := 15) C.x C.b d_MD_number_11 (by decide) ?_
    refine lv_iconst (v := nI 0) C.x C.b d_MD_number_15 (by decide) ?_
    refine k_callV (As := [.int (nI 1), .int (nI 0)]) (rest := []) (wc := [(h, ob 1 [.int th, .ref an, .ref ak, .int lt, .int se, .ref au, .int zs, .ref ap, .int mn, .ref aw, .int cz, .ref ac, .int ln, .int ft, .int gz, .ref ag, .ref ax, .ref ao, .ref al, .ref av, .ref ae, .ref ar, .ref ad, .ref aW, .ref aS, .ref aN, .ref aR, .ref aG])]) (wr := []) C (c_MD_refused1 l d h an ak au ap aw ac ag ax ao al av ae ar ad aW aS aN aR aG th lt se zs mn cz ln ft gz (nI 0)) mw_MD_refused ms_18 m_745 hP hD hS [0] [] rfl rfl (by decide) (by decide) (by decide) 0 rfl rfl rfl rfl hl.1 (Nat.le_of_ble_eq_true rfl) d_MD_number_16 ⟨Nat.le_of_ble_eq_true rfl, Nat.le_of_ble_eq_true rfl⟩ ⟨by decide, by decide⟩ (fun _ H locs hw_4 hP hD hS => ?_)
    have hP : va_P d.1 clz [(h, ob 1 [.int (nI 1), .ref an, .ref ak, .int lt, .int se, .ref au, .int zs, .ref ap, .int mn, .ref aw, .int cz, .ref ac, .int ln, .int ft, .int gz, .ref ag, .ref ax, .ref ao, .ref al, .ref av, .ref ae, .ref ar, .ref ad, .ref aW, .ref aS, .ref aN, .ref aR, .ref aG])] H := hP
    have hD : va_D A [(h, ob 1 [.int (nI 1), .ref an, .ref ak, .int lt, .int se, .ref au, .int zs, .ref ap, .int mn, .ref aw, .int cz, .ref ac, .int ln, .int ft, .int gz, .ref ag, .ref ax, .ref ao, .ref al, .ref av, .ref ae, .ref ar, .ref ad, .ref aW, .ref aS, .ref aN, .ref aR, .ref aG])] := hD
    refine W.eq (g2 := F0 m 19 ls [.int (nI 1)]) rfl ?_
    refine lv_if_eq (tgt := 26) C.x C.b d_MD_number_19 (by decide) (fun h9 => by first | exact absurd h9 (by decide) | exact absurd (by decide) h9) (fun _ => ?_)
    refine lv_iconst (v := nI 0) C.x C.b d_MD_number_22 (by decide) ?_
    refine lv_goto (tgt := 32) C.x C.b d_MD_number_23 (by decide) ?_
    have hP9 := hP.sub (ws' := [(h, ob 1 [.int (nI 1), .ref an, .ref ak, .int lt, .int se, .ref au, .int zs, .ref ap, .int mn, .ref aw, .int cz, .ref ac, .int ln, .int ft, .int gz, .ref ag, .ref ax, .ref ao, .ref al, .ref av, .ref ae, .ref ar, .ref ad, .ref aW, .ref aS, .ref aN, .ref aR, .ref aG])]) [0] rfl
    have hD9 := hD.sub (ws' := [(h, ob 1 [.int (nI 1), .ref an, .ref ak, .int lt, .int se, .ref au, .int zs, .ref ap, .int mn, .ref aw, .int cz, .ref ac, .int ln, .int ft, .int gz, .ref ag, .ref ax, .ref ao, .ref al, .ref av, .ref ae, .ref ar, .ref ad, .ref aW, .ref aS, .ref aN, .ref aR, .ref aG])]) [0] (by decide) rfl
    exact k_iret C hS () (rfl) (trivial) hP9 hD9 d_MD_number_32
theorem mw_MD_begin : Mw y_MD_begin b_MD_begin 2 none 0 := ⟨m_859, m_9, m_857, by decide +kernel⟩
set_option maxHeartbeats 4000000 in
set_option maxRecDepth 100000 in
theorem c_MD_begin (l : Launch) (d : DD) (h : Nat) (an : Nat) (ak : Nat) (au : Nat) (ap : Nat) (aw : Nat) (ac : Nat) (ag : Nat) (ax : Nat) (ao : Nat) (al : Nat) (av : Nat) (ae : Nat) (ar : Nat) (ad : Nat) (aW : Nat) (aS : Nat) (aN : Nat) (aR : Nat) (aG : Nat) (th : Int32) (lt : Int32) (se : Int32) (zs : Int32) (mn : Int32) (cz : Int32) (ln : Int32) (ft : Int32) (gz : Int32) (fn : Nat → Int32) (fk : Nat → Int32) (fu : Nat → Int32) : Ct l y_MD_begin b_MD_begin 2 none 0 0 0 0 d [(h, ob 1 [.int th, .ref an, .ref ak, .int lt, .int se, .ref au, .int zs, .ref ap, .int mn, .ref aw, .int cz, .ref ac, .int ln, .int ft, .int gz, .ref ag, .ref ax, .ref ao, .ref al, .ref av, .ref ae, .ref ar, .ref ad, .ref aW, .ref aS, .ref aN, .ref aR, .ref aG]), (an, aI d 16 fn), (ak, aI d 48 fk), (au, aI d 2 fu)] [.ref h] (fun (u : (Nat → Int32) × (Nat → Int32)) => match u with | (n2, k2) => none) (fun (u : (Nat → Int32) × (Nat → Int32)) => match u with | (n2, k2) => (∀ j, j < 16 → n2 j = 0) ∧ ∀ j, j < 32 → k2 j = 0) (fun (u : (Nat → Int32) × (Nat → Int32)) => match u with | (n2, k2) => [(h, ob 1 [.int (nI 0), .ref an, .ref ak, .int (nI 0), .int (nI 0), .ref au, .int (nI 0), .ref ap, .int (nI 0), .ref aw, .int (nI 0), .ref ac, .int ln, .int (nI 0), .int (nI 0), .ref ag, .ref ax, .ref ao, .ref al, .ref av, .ref ae, .ref ar, .ref ad, .ref aW, .ref aS, .ref aN, .ref aR, .ref aG]), (an, aI d 16 n2), (ak, aI d 48 k2), (au, aI d 2 (upd (upd fu 0 (nI 0)) 1 (nI 0)))]) := by
  refine Ct.of (by decide +kernel) (Nat.le_of_ble_eq_true rfl) ?_
  intro p e s m below meth c A ls C hP hD hS hl
  have hl : lv_has ls 2 [(0, .ref h)] := hl
  have hsz9 := hS.1
  refine lv_aload_n C.x C.b d_MD_begin_0 rfl (lv_at hl 0 rfl) ?_
  refine lv_iconst (v := nI 0) C.x C.b d_MD_begin_1 (by decide) ?_
  refine k_put C hP hD hS 0 rfl rfl i_MD tk_MD n_MD 0 (by decide) m_652 rfl rfl rfl (Nat.le_of_ble_eq_true rfl) d_MD_begin_2 (fun H locs hP hD hS => ?_)
  have hP : va_P d.1 clz [(h, ob 1 [.int (nI 0), .ref an, .ref ak, .int lt, .int se, .ref au, .int zs, .ref ap, .int mn, .ref aw, .int cz, .ref ac, .int ln, .int ft, .int gz, .ref ag, .ref ax, .ref ao, .ref al, .ref av, .ref ae, .ref ar, .ref ad, .ref aW, .ref aS, .ref aN, .ref aR, .ref aG]), (an, aI d 16 fn), (ak, aI d 48 fk), (au, aI d 2 fu)] H := hP
  have hD : va_D A [(h, ob 1 [.int (nI 0), .ref an, .ref ak, .int lt, .int se, .ref au, .int zs, .ref ap, .int mn, .ref aw, .int cz, .ref ac, .int ln, .int ft, .int gz, .ref ag, .ref ax, .ref ao, .ref al, .ref av, .ref ae, .ref ar, .ref ad, .ref aW, .ref aS, .ref aN, .ref aR, .ref aG]), (an, aI d 16 fn), (ak, aI d 48 fk), (au, aI d 2 fu)] := hD
  refine lv_iconst (v := nI 0) C.x C.b d_MD_begin_5 (by decide) ?_
  refine lv_istore_n (lv' := [(1, .int (nI 0)), (0, .ref h)]) C.x C.b d_MD_begin_6 rfl hl (by decide) rfl (fun ls hl => ?_)
  have L7 : ∀ (fuel : Nat) (j : Nat) (gn : Nat → Int32) (gk : Nat → Int32), 16 - j < fuel → (j ≤ 16) → (∀ i, i < j → gn i = 0) → (∀ i, i < j → gk i = 0 ∧ gk (16 + i) = 0) → ∀ (H : Heap) (locs : List Loc) (ls : Array Slot), va_P d.1 clz [(h, ob 1 [.int (nI 0), .ref an, .ref ak, .int lt, .int se, .ref au, .int zs, .ref ap, .int mn, .ref aw, .int cz, .ref ac, .int ln, .int ft, .int gz, .ref ag, .ref ax, .ref ao, .ref al, .ref av, .ref ae, .ref ar, .ref ad, .ref aW, .ref aS, .ref aN, .ref aR, .ref aG]), (an, aI d 16 gn), (ak, aI d 48 gk), (au, aI d 2 fu)] H → va_D A [(h, ob 1 [.int (nI 0), .ref an, .ref ak, .int lt, .int se, .ref au, .int zs, .ref ap, .int mn, .ref aw, .int cz, .ref ac, .int ln, .int ft, .int gz, .ref ag, .ref ax, .ref ao, .ref al, .ref av, .ref ae, .ref ar, .ref ad, .ref aW, .ref aS, .ref aN, .ref aR, .ref aG]), (an, aI d 16 gn), (ak, aI d 48 gk), (au, aI d 2 fu)] → va_S A s.heap H locs → lv_has ls 2 [(0, .ref h), (1, .int (nI j))] → W p l e (Rm 0 0 0 0) s m ([.ref h] : List Value).toArray below meth c H locs 0 0 (MQ below (Cout d A (fun (u : (Nat → Int32) × (Nat → Int32)) => match u with | (n2, k2) => none) (fun (u : (Nat → Int32) × (Nat → Int32)) => match u with | (n2, k2) => (∀ j, j < 16 → n2 j = 0) ∧ ∀ j, j < 32 → k2 j = 0) (fun (u : (Nat → Int32) × (Nat → Int32)) => match u with | (n2, k2) => [(h, ob 1 [.int (nI 0), .ref an, .ref ak, .int (nI 0), .int (nI 0), .ref au, .int (nI 0), .ref ap, .int (nI 0), .ref aw, .int (nI 0), .ref ac, .int ln, .int (nI 0), .int (nI 0), .ref ag, .ref ax, .ref ao, .ref al, .ref av, .ref ae, .ref ar, .ref ad, .ref aW, .ref aS, .ref aN, .ref aR, .ref aG]), (an, aI d 16 n2), (ak, aI d 48 k2), (au, aI d 2 (upd (upd fu 0 (nI 0)) 1 (nI 0)))])) ([.ref h] : List Value).toArray s 0 0 A) (F0 m 7 ls []) := by
    intro fuel
    induction fuel with
    | zero => intro j gn gk h9; exact absurd h9 (Nat.not_lt_zero _)
    | succ fuel ih7 =>
      intro j gn gk hfu7 hj hgn hgk H locs ls hP hD hS hl
      refine lv_iload_n C.x C.b d_MD_begin_7 rfl (lv_at hl 1 rfl) ?_
      refine lv_bipush (v := nI 16) C.x C.b d_MD_begin_8 (by decide) ?_
      refine lv_icmp_ge (tgt := 43) C.x C.b d_MD_begin_10 (by decide) (fun hc10 => ?_) (fun hc10 => ?_)
      · rw [nI_leI (by omega) (by omega)] at hc10
        refine lv_aload_n C.x C.b d_MD_begin_43 rfl (lv_at hl 0 rfl) ?_
        refine lv_iconst (v := nI 0) C.x C.b d_MD_begin_44 (by decide) ?_
        refine k_put C hP hD hS 0 rfl rfl i_MD tk_MD n_MD 3 (by decide) m_655 rfl rfl rfl (Nat.le_of_ble_eq_true rfl) d_MD_begin_45 (fun H locs hP hD hS => ?_)
        have hP : va_P d.1 clz [(h, ob 1 [.int (nI 0), .ref an, .ref ak, .int (nI 0), .int se, .ref au, .int zs, .ref ap, .int mn, .ref aw, .int cz, .ref ac, .int ln, .int ft, .int gz, .ref ag, .ref ax, .ref ao, .ref al, .ref av, .ref ae, .ref ar, .ref ad, .ref aW, .ref aS, .ref aN, .ref aR, .ref aG]), (an, aI d 16 gn), (ak, aI d 48 gk), (au, aI d 2 fu)] H := hP
        have hD : va_D A [(h, ob 1 [.int (nI 0), .ref an, .ref ak, .int (nI 0), .int se, .ref au, .int zs, .ref ap, .int mn, .ref aw, .int cz, .ref ac, .int ln, .int ft, .int gz, .ref ag, .ref ax, .ref ao, .ref al, .ref av, .ref ae, .ref ar, .ref ad, .ref aW, .ref aS, .ref aN, .ref aR, .ref aG]), (an, aI d 16 gn), (ak, aI d 48 gk), (au, aI d 2 fu)] := hD
        refine lv_aload_n C.x C.b d_MD_begin_48 rfl (lv_at hl 0 rfl) ?_
        refine lv_iconst (v := nI 0) C.x C.b d_MD_begin_49 (by decide) ?_
        refine k_put C hP hD hS 0 rfl rfl i_MD tk_MD n_MD 4 (by decide) m_656 rfl rfl rfl (Nat.le_of_ble_eq_true rfl) d_MD_begin_50 (fun H locs hP hD hS => ?_)
        have hP : va_P d.1 clz [(h, ob 1 [.int (nI 0), .ref an, .ref ak, .int (nI 0), .int (nI 0), .ref au, .int zs, .ref ap, .int mn, .ref aw, .int cz, .ref ac, .int ln, .int ft, .int gz, .ref ag, .ref ax, .ref ao, .ref al, .ref av, .ref ae, .ref ar, .ref ad, .ref aW, .ref aS, .ref aN, .ref aR, .ref aG]), (an, aI d 16 gn), (ak, aI d 48 gk), (au, aI d 2 fu)] H := hP
        have hD : va_D A [(h, ob 1 [.int (nI 0), .ref an, .ref ak, .int (nI 0), .int (nI 0), .ref au, .int zs, .ref ap, .int mn, .ref aw, .int cz, .ref ac, .int ln, .int ft, .int gz, .ref ag, .ref ax, .ref ao, .ref al, .ref av, .ref ae, .ref ar, .ref ad, .ref aW, .ref aS, .ref aN, .ref aR, .ref aG]), (an, aI d 16 gn), (ak, aI d 48 gk), (au, aI d 2 fu)] := hD
        refine lv_aload_n C.x C.b d_MD_begin_53 rfl (lv_at hl 0 rfl) ?_
        refine k_get C hP 0 rfl rfl i_MD 5 (by decide) m_657 rfl d_MD_begin_54 ?_
        refine lv_iconst (v := nI 0) C.x C.b d_MD_begin_57 (by decide) ?_
        refine lv_iconst (v := nI 0) C.x C.b d_MD_begin_58 (by decide) ?_
        refine k_iast C hP hD hS 3 rfl (j := 0) (by omega) (by omega) d_MD_begin_59 (fun H locs hP hD hS => ?_)
        have hP : va_P d.1 clz [(h, ob 1 [.int (nI 0), .ref an, .ref ak, .int (nI 0), .int (nI 0), .ref au, .int zs, .ref ap, .int mn, .ref aw, .int cz, .ref ac, .int ln, .int ft, .int gz, .ref ag, .ref ax, .ref ao, .ref al, .ref av, .ref ae, .ref ar, .ref ad, .ref aW, .ref aS, .ref aN, .ref aR, .ref aG]), (an, aI d 16 gn), (ak, aI d 48 gk), (au, aI d 2 (upd fu 0 (nI 0)))] H := hP
        have hD : va_D A [(h, ob 1 [.int (nI 0), .ref an, .ref ak, .int (nI 0), .int (nI 0), .ref au, .int zs, .ref ap, .int mn, .ref aw, .int cz, .ref ac, .int ln, .int ft, .int gz, .ref ag, .ref ax, .ref ao, .ref al, .ref av, .ref ae, .ref ar, .ref ad, .ref aW, .ref aS, .ref aN, .ref aR, .ref aG]), (an, aI d 16 gn), (ak, aI d 48 gk), (au, aI d 2 (upd fu 0 (nI 0)))] := hD
        refine lv_aload_n C.x C.b d_MD_begin_60 rfl (lv_at hl 0 rfl) ?_
        refine k_get C hP 0 rfl rfl i_MD 5 (by decide) m_657 rfl d_MD_begin_61 ?_
        refine lv_iconst (v := nI 1) C.x C.b d_MD_begin_64 (by decide) ?_
        refine lv_iconst (v := nI 0) C.x C.b d_MD_begin_65 (by decide) ?_
        refine k_iast C hP hD hS 3 rfl (j := 1) (by omega) (by omega) d_MD_begin_66 (fun H locs hP hD hS => ?_)
        have hP : va_P d.1 clz [(h, ob 1 [.int (nI 0), .ref an, .ref ak, .int (nI 0), .int (nI 0), .ref au, .int zs, .ref ap, .int mn, .ref aw, .int cz, .ref ac, .int ln, .int ft, .int gz, .ref ag, .ref ax, .ref ao, .ref al, .ref av, .ref ae, .ref ar, .ref ad, .ref aW, .ref aS, .ref aN, .ref aR, .ref aG]), (an, aI d 16 gn), (ak, aI d 48 gk), (au, aI d 2 (upd (upd fu 0 (nI 0)) 1 (nI 0)))] H := hP
        have hD : va_D A [(h, ob 1 [.int (nI 0), .ref an, .ref ak, .int (nI 0), .int (nI 0), .ref au, .int zs, .ref ap, .int mn, .ref aw, .int cz, .ref ac, .int ln, .int ft, .int gz, .ref ag, .ref ax, .ref ao, .ref al, .ref av, .ref ae, .ref ar, .ref ad, .ref aW, .ref aS, .ref aN, .ref aR, .ref aG]), (an, aI d 16 gn), (ak, aI d 48 gk), (au, aI d 2 (upd (upd fu 0 (nI 0)) 1 (nI 0)))] := hD
        refine lv_aload_n C.x C.b d_MD_begin_67 rfl (lv_at hl 0 rfl) ?_
        refine lv_iconst (v := nI 0) C.x C.b d_MD_begin_68 (by decide) ?_
        refine k_put C hP hD hS 0 rfl rfl i_MD tk_MD n_MD 6 (by decide) m_658 rfl rfl rfl (Nat.le_of_ble_eq_true rfl) d_MD_begin_69 (fun H locs hP hD hS => ?_)
        have hP : va_P d.1 clz [(h, ob 1 [.int (nI 0), .ref an, .ref ak, .int (nI 0), .int (nI 0), .ref au, .int (nI 0), .ref ap, .int mn, .ref aw, .int cz, .ref ac, .int ln, .int ft, .int gz, .ref ag, .ref ax, .ref ao, .ref al, .ref av, .ref ae, .ref ar, .ref ad, .ref aW, .ref aS, .ref aN, .ref aR, .ref aG]), (an, aI d 16 gn), (ak, aI d 48 gk), (au, aI d 2 (upd (upd fu 0 (nI 0)) 1 (nI 0)))] H := hP
        have hD : va_D A [(h, ob 1 [.int (nI 0), .ref an, .ref ak, .int (nI 0), .int (nI 0), .ref au, .int (nI 0), .ref ap, .int mn, .ref aw, .int cz, .ref ac, .int ln, .int ft, .int gz, .ref ag, .ref ax, .ref ao, .ref al, .ref av, .ref ae, .ref ar, .ref ad, .ref aW, .ref aS, .ref aN, .ref aR, .ref aG]), (an, aI d 16 gn), (ak, aI d 48 gk), (au, aI d 2 (upd (upd fu 0 (nI 0)) 1 (nI 0)))] := hD
        refine lv_aload_n C.x C.b d_MD_begin_72 rfl (lv_at hl 0 rfl) ?_
        refine lv_iconst (v := nI 0) C.x C.b d_MD_begin_73 (by decide) ?_
        refine k_put C hP hD hS 0 rfl rfl i_MD tk_MD n_MD 8 (by decide) m_660 rfl rfl rfl (Nat.le_of_ble_eq_true rfl) d_MD_begin_74 (fun H locs hP hD hS => ?_)
        have hP : va_P d.1 clz [(h, ob 1 [.int (nI 0), .ref an, .ref ak, .int (nI 0), .int (nI 0), .ref au, .int (nI 0), .ref ap, .int (nI 0), .ref aw, .int cz, .ref ac, .int ln, .int ft, .int gz, .ref ag, .ref ax, .ref ao, .ref al, .ref av, .ref ae, .ref ar, .ref ad, .ref aW, .ref aS, .ref aN, .ref aR, .ref aG]), (an, aI d 16 gn), (ak, aI d 48 gk), (au, aI d 2 (upd (upd fu 0 (nI 0)) 1 (nI 0)))] H := hP
        have hD : va_D A [(h, ob 1 [.int (nI 0), .ref an, .ref ak, .int (nI 0), .int (nI 0), .ref au, .int (nI 0), .ref ap, .int (nI 0), .ref aw, .int cz, .ref ac, .int ln, .int ft, .int gz, .ref ag, .ref ax, .ref ao, .ref al, .ref av, .ref ae, .ref ar, .ref ad, .ref aW, .ref aS, .ref aN, .ref aR, .ref aG]), (an, aI d 16 gn), (ak, aI d 48 gk), (au, aI d 2 (upd (upd fu 0 (nI 0)) 1 (nI 0)))] := hD
        refine lv_aload_n C.x C.b d_MD_begin_77 rfl (lv_at hl 0 rfl) ?_
        refine lv_iconst (v := nI 0) C.x C.b d_MD_begin_78 (by decide) ?_
        refine k_put C hP hD hS 0 rfl rfl i_MD tk_MD n_MD 10 (by decide) m_662 rfl rfl rfl (Nat.le_of_ble_eq_true rfl) d_MD_begin_79 (fun H locs hP hD hS => ?_)
        have hP : va_P d.1 clz [(h, ob 1 [.int (nI 0), .ref an, .ref ak, .int (nI 0), .int (nI 0), .ref au, .int (nI 0), .ref ap, .int (nI 0), .ref aw, .int (nI 0), .ref ac, .int ln, .int ft, .int gz, .ref ag, .ref ax, .ref ao, .ref al, .ref av, .ref ae, .ref ar, .ref ad, .ref aW, .ref aS, .ref aN, .ref aR, .ref aG]), (an, aI d 16 gn), (ak, aI d 48 gk), (au, aI d 2 (upd (upd fu 0 (nI 0)) 1 (nI 0)))] H := hP
        have hD : va_D A [(h, ob 1 [.int (nI 0), .ref an, .ref ak, .int (nI 0), .int (nI 0), .ref au, .int (nI 0), .ref ap, .int (nI 0), .ref aw, .int (nI 0), .ref ac, .int ln, .int ft, .int gz, .ref ag, .ref ax, .ref ao, .ref al, .ref av, .ref ae, .ref ar, .ref ad, .ref aW, .ref aS, .ref aN, .ref aR, .ref aG]), (an, aI d 16 gn), (ak, aI d 48 gk), (au, aI d 2 (upd (upd fu 0 (nI 0)) 1 (nI 0)))] := hD
        refine lv_aload_n C.x C.b d_MD_begin_82 rfl (lv_at hl 0 rfl) ?_
        refine lv_iconst (v := nI 0) C.x C.b d_MD_begin_83 (by decide) ?_
        refine k_put C hP hD hS 0 rfl rfl i_MD tk_MD n_MD 13 (by decide) m_665 rfl rfl rfl (Nat.le_of_ble_eq_true rfl) d_MD_begin_84 (fun H locs hP hD hS => ?_)
        have hP : va_P d.1 clz [(h, ob 1 [.int (nI 0), .ref an, .ref ak, .int (nI 0), .int (nI 0), .ref au, .int (nI 0), .ref ap, .int (nI 0), .ref aw, .int (nI 0), .ref ac, .int ln, .int (nI 0), .int gz, .ref ag, .ref ax, .ref ao, .ref al, .ref av, .ref ae, .ref ar, .ref ad, .ref aW, .ref aS, .ref aN, .ref aR, .ref aG]), (an, aI d 16 gn), (ak, aI d 48 gk), (au, aI d 2 (upd (upd fu 0 (nI 0)) 1 (nI 0)))] H := hP
        have hD : va_D A [(h, ob 1 [.int (nI 0), .ref an, .ref ak, .int (nI 0), .int (nI 0), .ref au, .int (nI 0), .ref ap, .int (nI 0), .ref aw, .int (nI 0), .ref ac, .int ln, .int (nI 0), .int gz, .ref ag, .ref ax, .ref ao, .ref al, .ref av, .ref ae, .ref ar, .ref ad, .ref aW, .ref aS, .ref aN, .ref aR, .ref aG]), (an, aI d 16 gn), (ak, aI d 48 gk), (au, aI d 2 (upd (upd fu 0 (nI 0)) 1 (nI 0)))] := hD
        refine lv_aload_n C.x C.b d_MD_begin_87 rfl (lv_at hl 0 rfl) ?_
        refine lv_iconst (v := nI 0) C.x C.b d_MD_begin_88 (by decide) ?_
        refine k_put C hP hD hS 0 rfl rfl i_MD tk_MD n_MD 14 (by decide) m_666 rfl rfl rfl (Nat.le_of_ble_eq_true rfl) d_MD_begin_89 (fun H locs hP hD hS => ?_)
        have hP : va_P d.1 clz [(h, ob 1 [.int (nI 0), .ref an, .ref ak, .int (nI 0), .int (nI 0), .ref au, .int (nI 0), .ref ap, .int (nI 0), .ref aw, .int (nI 0), .ref ac, .int ln, .int (nI 0), .int (nI 0), .ref ag, .ref ax, .ref ao, .ref al, .ref av, .ref ae, .ref ar, .ref ad, .ref aW, .ref aS, .ref aN, .ref aR, .ref aG]), (an, aI d 16 gn), (ak, aI d 48 gk), (au, aI d 2 (upd (upd fu 0 (nI 0)) 1 (nI 0)))] H := hP
        have hD : va_D A [(h, ob 1 [.int (nI 0), .ref an, .ref ak, .int (nI 0), .int (nI 0), .ref au, .int (nI 0), .ref ap, .int (nI 0), .ref aw, .int (nI 0), .ref ac, .int ln, .int (nI 0), .int (nI 0), .ref ag, .ref ax, .ref ao, .ref al, .ref av, .ref ae, .ref ar, .ref ad, .ref aW, .ref aS, .ref aN, .ref aR, .ref aG]), (an, aI d 16 gn), (ak, aI d 48 gk), (au, aI d 2 (upd (upd fu 0 (nI 0)) 1 (nI 0)))] := hD
        have hP9 := hP.sub (ws' := [(h, ob 1 [.int (nI 0), .ref an, .ref ak, .int (nI 0), .int (nI 0), .ref au, .int (nI 0), .ref ap, .int (nI 0), .ref aw, .int (nI 0), .ref ac, .int ln, .int (nI 0), .int (nI 0), .ref ag, .ref ax, .ref ao, .ref al, .ref av, .ref ae, .ref ar, .ref ad, .ref aW, .ref aS, .ref aN, .ref aR, .ref aG]), (an, aI d 16 gn), (ak, aI d 48 gk), (au, aI d 2 (upd (upd fu 0 (nI 0)) 1 (nI 0)))]) [0, 1, 2, 3] rfl
        have hD9 := hD.sub (ws' := [(h, ob 1 [.int (nI 0), .ref an, .ref ak, .int (nI 0), .int (nI 0), .ref au, .int (nI 0), .ref ap, .int (nI 0), .ref aw, .int (nI 0), .ref ac, .int ln, .int (nI 0), .int (nI 0), .ref ag, .ref ax, .ref ao, .ref al, .ref av, .ref ae, .ref ar, .ref ad, .ref aW, .ref aS, .ref aN, .ref aR, .ref aG]), (an, aI d 16 gn), (ak, aI d 48 gk), (au, aI d 2 (upd (upd fu 0 (nI 0)) 1 (nI 0)))]) [0, 1, 2, 3] (by decide) rfl
        exact k_vret C hS (gn, gk) (rfl) (⟨by rw [show j = 16 from by omega] at hgn; exact hgn, fun i hi => by rcases Nat.lt_or_ge i 16 with z | z; exact (hgk i (by omega)).1; rw [show i = 16 + (i - 16) from by omega]; exact (hgk (i - 16) (by omega)).2⟩) hP9 hD9 d_MD_begin_92
      · rw [nI_leI (by omega) (by omega)] at hc10
        refine lv_aload_n C.x C.b d_MD_begin_13 rfl (lv_at hl 0 rfl) ?_
        refine k_get C hP 0 rfl rfl i_MD 1 (by decide) m_653 rfl d_MD_begin_14 ?_
        refine lv_iload_n C.x C.b d_MD_begin_17 rfl (lv_at hl 1 rfl) ?_
        refine lv_iconst (v := nI 0) C.x C.b d_MD_begin_18 (by decide) ?_
        refine k_iast C hP hD hS 1 rfl (j := j) (by omega) (by omega) d_MD_begin_19 (fun H locs hP hD hS => ?_)
        have hP : va_P d.1 clz [(h, ob 1 [.int (nI 0), .ref an, .ref ak, .int lt, .int se, .ref au, .int zs, .ref ap, .int mn, .ref aw, .int cz, .ref ac, .int ln, .int ft, .int gz, .ref ag, .ref ax, .ref ao, .ref al, .ref av, .ref ae, .ref ar, .ref ad, .ref aW, .ref aS, .ref aN, .ref aR, .ref aG]), (an, aI d 16 (upd gn j (nI 0))), (ak, aI d 48 gk), (au, aI d 2 fu)] H := hP
        have hD : va_D A [(h, ob 1 [.int (nI 0), .ref an, .ref ak, .int lt, .int se, .ref au, .int zs, .ref ap, .int mn, .ref aw, .int cz, .ref ac, .int ln, .int ft, .int gz, .ref ag, .ref ax, .ref ao, .ref al, .ref av, .ref ae, .ref ar, .ref ad, .ref aW, .ref aS, .ref aN, .ref aR, .ref aG]), (an, aI d 16 (upd gn j (nI 0))), (ak, aI d 48 gk), (au, aI d 2 fu)] := hD
        refine lv_aload_n C.x C.b d_MD_begin_20 rfl (lv_at hl 0 rfl) ?_
        refine k_get C hP 0 rfl rfl i_MD 2 (by decide) m_654 rfl d_MD_begin_21 ?_
        refine lv_iload_n C.x C.b d_MD_begin_24 rfl (lv_at hl 1 rfl) ?_
        refine lv_iconst (v := nI 0) C.x C.b d_MD_begin_25 (by decide) ?_
        refine k_iast C hP hD hS 2 rfl (j := j) (by omega) (by omega) d_MD_begin_26 (fun H locs hP hD hS => ?_)
        have hP : va_P d.1 clz [(h, ob 1 [.int (nI 0), .ref an, .ref ak, .int lt, .int se, .ref au, .int zs, .ref ap, .int mn, .ref aw, .int cz, .ref ac, .int ln, .int ft, .int gz, .ref ag, .ref ax, .ref ao, .ref al, .ref av, .ref ae, .ref ar, .ref ad, .ref aW, .ref aS, .ref aN, .ref aR, .ref aG]), (an, aI d 16 (upd gn j (nI 0))), (ak, aI d 48 (upd gk j (nI 0))), (au, aI d 2 fu)] H := hP
        have hD : va_D A [(h, ob 1 [.int (nI 0), .ref an, .ref ak, .int lt, .int se, .ref au, .int zs, .ref ap, .int mn, .ref aw, .int cz, .ref ac, .int ln, .int ft, .int gz, .ref ag, .ref ax, .ref ao, .ref al, .ref av, .ref ae, .ref ar, .ref ad, .ref aW, .ref aS, .ref aN, .ref aR, .ref aG]), (an, aI d 16 (upd gn j (nI 0))), (ak, aI d 48 (upd gk j (nI 0))), (au, aI d 2 fu)] := hD
        refine lv_aload_n C.x C.b d_MD_begin_27 rfl (lv_at hl 0 rfl) ?_
        refine k_get C hP 0 rfl rfl i_MD 2 (by decide) m_654 rfl d_MD_begin_28 ?_
        refine lv_bipush (v := nI 16) C.x C.b d_MD_begin_31 (by decide) ?_
        refine lv_iload_n C.x C.b d_MD_begin_33 rfl (lv_at hl 1 rfl) ?_
        refine lv_iadd C.x C.b d_MD_begin_34 ?_
        refine k_top (y := nI (16 + j)) (nI_add _ _) ?_
        refine lv_iconst (v := nI 0) C.x C.b d_MD_begin_35 (by decide) ?_
        refine k_iast C hP hD hS 2 rfl (j := (16 + j)) (by omega) (by omega) d_MD_begin_36 (fun H locs hP hD hS => ?_)
        have hP : va_P d.1 clz [(h, ob 1 [.int (nI 0), .ref an, .ref ak, .int lt, .int se, .ref au, .int zs, .ref ap, .int mn, .ref aw, .int cz, .ref ac, .int ln, .int ft, .int gz, .ref ag, .ref ax, .ref ao, .ref al, .ref av, .ref ae, .ref ar, .ref ad, .ref aW, .ref aS, .ref aN, .ref aR, .ref aG]), (an, aI d 16 (upd gn j (nI 0))), (ak, aI d 48 (upd (upd gk j (nI 0)) (16 + j) (nI 0))), (au, aI d 2 fu)] H := hP
        have hD : va_D A [(h, ob 1 [.int (nI 0), .ref an, .ref ak, .int lt, .int se, .ref au, .int zs, .ref ap, .int mn, .ref aw, .int cz, .ref ac, .int ln, .int ft, .int gz, .ref ag, .ref ax, .ref ao, .ref al, .ref av, .ref ae, .ref ar, .ref ad, .ref aW, .ref aS, .ref aN, .ref aR, .ref aG]), (an, aI d 16 (upd gn j (nI 0))), (ak, aI d 48 (upd (upd gk j (nI 0)) (16 + j) (nI 0))), (au, aI d 2 fu)] := hD
        refine lv_iinc (v := nI (j + 1)) (lv' := [(1, .int (nI (j + 1))), (0, .ref h)]) C.x C.b d_MD_begin_37 hl (k := 1) rfl (k_inc _ 1) (by decide) rfl (fun ls hl => ?_)
        refine lv_goto (tgt := 7) C.x C.b d_MD_begin_40 (by decide) ?_
        exact ih7 (j + 1) (upd gn j (nI 0)) (upd (upd gk j (nI 0)) (16 + j) (nI 0)) (by omega) (by omega) (upd_le (g := gn) (p := fun _ => 0) hgn rfl) (fun i hi => by rcases (show i < j ∨ i = j by omega) with z | z; exact ⟨by rw [pk_un (by omega), pk_un (by omega)]; exact (hgk i z).1, by rw [pk_un (by omega), pk_un (by omega)]; exact (hgk i z).2⟩; rw [z]; exact ⟨by rw [pk_un (by omega), pk_us]; rfl, by rw [pk_us]; rfl⟩) _ _ _ (hP.sub [0, 1, 2, 3] (rfl)) (hD.sub [0, 1, 2, 3] (by decide) (rfl)) hS (lv_sub hl [1, 0] (rfl))
  exact L7 ((16 - 0) + 1) 0 fn fk (Nat.lt_succ_self _) (by omega) (fun i hi => absurd hi (Nat.not_lt_zero _)) (fun i hi => absurd hi (Nat.not_lt_zero _)) _ _ _ (hP.sub [0, 1, 2, 3] (rfl)) (hD.sub [0, 1, 2, 3] (by decide) (rfl)) hS (lv_sub hl [1, 0] (rfl))
