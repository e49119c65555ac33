theorem ba_push {f : Nat → Int32} {L : List Int32} {n : Nat} {v x : Int32} (h : BA f L) (hn : L.length = n) (hv : v = x.toInt8.toInt32) (hx : x &&& nI 255 = x) : BA (upd f n v) (L ++ [x]) := by
  refine ⟨?_, isb_app h.2 (fun y hy => by rw [List.mem_singleton.mp hy]; exact hx)⟩
  intro i hi
  rw [List.length_append] at hi
  have hi2 : i < L.length + 1 := hi
  rcases Nat.lt_or_ge i L.length with q | q
  · rw [pk_un (by omega), ga_l q]; exact h.1 i q
  · have e : i = n := by omega
    rw [e, pk_us, hv, ← hn]
    have := ga_r (A := L) (B := [x]) (i := 0) (Nat.lt_succ_self 0)
    rw [Nat.add_zero] at this
    rw [this]; rfl
theorem ba_set {f : Nat → Int32} {L : List Int32} {i : Nat} {v x : Int32} (h : BA f L) (hi : i < L.length) (hv : v = x.toInt8.toInt32) (hx : x &&& nI 255 = x) : BA (upd f i v) (L.set i x) := by
  refine ⟨?_, fun y hy => (List.mem_or_eq_of_mem_set hy).elim (h.2 y) (fun q => by rw [q]; exact hx)⟩
  intro j hj
  rw [List.length_set] at hj
  rw [gd_set hj]
  by_cases e : j = i
  · rw [e, pk_us, if_pos rfl, hv]
  · rw [pk_un e, if_neg e]; exact h.1 j hj
theorem ba_cg {f g : Nat → Int32} {L : List Int32} (h : BA f L) (hg : ∀ i, i < L.length → g i = f i) : BA g L := ⟨fun i hi => by rw [hg i hi]; exact h.1 i hi, h.2⟩
theorem ba_get {f : Nat → Int32} {L : List Int32} (h : BA f L) {i : Nat} (hi : i < L.length) : f i = (L.getD i 0).toInt8.toInt32 ∧ L.getD i 0 &&& nI 255 = L.getD i 0 := ⟨h.1 i hi, h.2 _ (bq_mem hi)⟩
theorem whole_eq (n : Nat) : (5 + n + 4 + 15) / 16 * 16 = 5 + n + padn n := by unfold padn pz; omega
theorem pby_len (v : Int32) (n i : Nat) : (pby v n i).length = i := by unfold pby; simp
theorem pdb_len (fp : Int32) (i : Nat) : (pdb fp i).length = i := by unfold pdb; simp
theorem cph_enc {K f : Nat → Int32} {L : List Int32} {n : Nat} (h : BA f L) (hn : L.length = n) {g : Nat → Int32} (hg : ∀ i, g i = cph K 0 n f i) : BA g (enc K L) := by
  refine ⟨?_, ?_⟩
  · intro i hi
    rw [enc_len] at hi
    rw [hg i, enc_get hi]
    unfold cph
    rw [if_pos ⟨Nat.zero_le _, by omega⟩, Nat.sub_zero, h.1 i hi, sx_of_and, Int32.toInt8_xor, Int8.toInt8_toInt32, Int32.toInt8_xor]
  · intro x hx
    unfold enc at hx
    obtain ⟨j, _, rfl⟩ := List.mem_map.mp hx
    exact and255 _
theorem shp_hi {k : Nat → Int32} {num told pads fq : Int32} {L : List Int32} {n i : Nat} (hn : (enc k (pkt told pads L fq)).length = n) (h1 : n ≤ i) (h2 : i < n + 32) : (shp k num told pads L fq).getD i 0 = (slb (sealw k num (pkt told pads L fq)) 32).getD (i - n) 0 := by
  unfold shp
  obtain ⟨j, rfl⟩ : ∃ j, i = (enc k (pkt told pads L fq)).length + j := ⟨i - n, by omega⟩
  rw [ga_r (by rw [slb_len]; omega), hn, Nat.add_sub_cancel_left]
theorem sxa (x : Int32) : x.toInt8.toInt32.toInt8.toInt32 = (x &&& nI 255).toInt8.toInt32 := by rw [sx_sx, sx_of_and]
theorem pk_hd {f : Nat → Int32} {told pads : Int32} : BA (upd (upd (upd (upd (upd f 0 (told >>> (nI 24 &&& 31)).toInt8.toInt32.toInt8.toInt32) 1 (told >>> (nI 16 &&& 31)).toInt8.toInt32.toInt8.toInt32) 2 (told >>> (nI 8 &&& 31)).toInt8.toInt32.toInt8.toInt32) 3 (told >>> (nI 0 &&& 31)).toInt8.toInt32.toInt8.toInt32) 4 pads.toInt8.toInt32.toInt8.toInt32) (wb told ++ [pads &&& nI 255]) := by
  refine ⟨?_, isb_app isb_wb (fun y hy => by rw [List.mem_singleton.mp hy]; exact and255 _)⟩
  intro i hi
  have hi2 : i < 5 := hi
  rcases (show i = 0 ∨ i = 1 ∨ i = 2 ∨ i = 3 ∨ i = 4 by omega) with rfl | rfl | rfl | rfl | rfl
  · exact (sx_sx _).trans (shb8 (k := 24) (by decide) told)
  · exact (sx_sx _).trans (shb8 (k := 16) (by decide) told)
  · exact (sx_sx _).trans (shb8 (k := 8) (by decide) told)
  · exact (sx_sx _).trans (shb8 (k := 0) (by decide) told)
  · exact sxa pads
theorem mw_MD_thrown : Mw y_MD_thrown b_MD_thrown 1 (some .int) 0 := ⟨m_740, m_9, m_738, by decide +kernel⟩
set_option maxHeartbeats 4000000 in
set_option maxRecDepth 100000 in
theorem c_MD_thrown (l : Launch) (d : DD) (h : Nat) (an : Nat) (ak : Nat) (au : Nat) (ap : Nat) (aw : Nat) (ac : Nat) (ag : Nat) (ax : Nat) (ao : Nat) (al : Nat) (av : Nat) (ae : Nat) (ar : Nat) (ad : Nat) (aW : Nat) (aS : Nat) (aN : Nat) (aR : Nat) (aG : Nat) (th : Int32) (lt : Int32) (se : Int32) (zs : Int32) (mn : Int32) (cz : Int32) (ln : Int32) (ft : Int32) (gz : Int32) : Ct l y_MD_thrown b_MD_thrown 1 (some .int) 0 0 0 0 d [(h, ob 1 [.int th, .ref an, .ref ak, .int lt, .int se, .ref au, .int zs, .ref ap, .int mn, .ref aw, .int cz, .ref ac, .int ln, .int ft, .int gz, .ref ag, .ref ax, .ref ao, .ref al, .ref av, .ref ae, .ref ar, .ref ad, .ref aW, .ref aS, .ref aN, .ref aR, .ref aG])] [.ref h] (fun (_ : Unit) => some (.int th)) (fun (_ : Unit) => True) (fun (_ : Unit) => [(h, ob 1 [.int th, .ref an, .ref ak, .int lt, .int se, .ref au, .int zs, .ref ap, .int mn, .ref aw, .int cz, .ref ac, .int ln, .int ft, .int gz, .ref ag, .ref ax, .ref ao, .ref al, .ref av, .ref ae, .ref ar, .ref ad, .ref aW, .ref aS, .ref aN, .ref aR, .ref aG])]) := by
  refine Ct.of (by decide +kernel) (Nat.le_of_ble_eq_true rfl) ?_
  intro p e s m below meth c A ls C hP hD hS hl
  have hl : lv_has ls 1 [(0, .ref h)] := hl
  have hsz9 := hS.1
  refine lv_aload_n C.x C.b d_MD_thrown_0 rfl (lv_at hl 0 rfl) ?_
  refine k_get C hP 0 rfl rfl i_MD 0 (by decide) m_652 rfl d_MD_thrown_1 ?_
  have hP9 := hP.sub (ws' := [(h, ob 1 [.int th, .ref an, .ref ak, .int lt, .int se, .ref au, .int zs, .ref ap, .int mn, .ref aw, .int cz, .ref ac, .int ln, .int ft, .int gz, .ref ag, .ref ax, .ref ao, .ref al, .ref av, .ref ae, .ref ar, .ref ad, .ref aW, .ref aS, .ref aN, .ref aR, .ref aG])]) [0] rfl
  have hD9 := hD.sub (ws' := [(h, ob 1 [.int th, .ref an, .ref ak, .int lt, .int se, .ref au, .int zs, .ref ap, .int mn, .ref aw, .int cz, .ref ac, .int ln, .int ft, .int gz, .ref ag, .ref ax, .ref ao, .ref al, .ref av, .ref ae, .ref ar, .ref ad, .ref aW, .ref aS, .ref aN, .ref aR, .ref aG])]) [0] (by decide) rfl
  exact k_iret C hS () (rfl) (trivial) hP9 hD9 d_MD_thrown_4
theorem mw_MD_refused : Mw y_MD_refused b_MD_refused 3 (some .boolean) 2 := ⟨m_748, m_9, m_747, by decide +kernel⟩
set_option maxHeartbeats 4000000 in
set_option maxRecDepth 100000 in
theorem c_MD_refused1 (l : Launch) (d : DD) (h : Nat) (an : Nat) (ak : Nat) (au : Nat) (ap : Nat) (aw : Nat) (ac : Nat) (ag : Nat) (ax : Nat) (ao : Nat) (al : Nat) (av : Nat) (ae : Nat) (ar : Nat) (ad : Nat) (aW : Nat) (aS : Nat) (aN : Nat) (aR : Nat) (aG : Nat) (th : Int32) (lt : Int32) (se : Int32) (zs : Int32) (mn : Int32) (cz : Int32) (ln : Int32) (ft : Int32) (gz : Int32) (x2 : Int32) : Ct l y_MD_refused b_MD_refused 3 (some .boolean) 0 0 0 0 d [(h, ob 1 [.int th, .ref an, .ref ak, .int lt, .int se, .ref au, .int zs, .ref ap, .int mn, .ref aw, .int cz, .ref ac, .int ln, .int ft, .int gz, .ref ag, .ref ax, .ref ao, .ref al, .ref av, .ref ae, .ref ar, .ref ad, .ref aW, .ref aS, .ref aN, .ref aR, .ref aG])] [.ref h, .int (nI 1), .int x2] (fun (_ : Unit) => some (.int (nI 1))) (fun (_ : Unit) => True) (fun (_ : Unit) => [(h, ob 1 [.int (nI 1), .ref an, .ref ak, .int lt, .int se, .ref au, .int zs, .ref ap, .int mn, .ref aw, .int cz, .ref ac, .int ln, .int ft, .int gz, .ref ag, .ref ax, .ref ao, .ref al, .ref av, .ref ae, .ref ar, .ref ad, .ref aW, .ref aS, .ref aN, .ref aR, .ref aG])]) := by
  refine Ct.of (by decide +kernel) (Nat.le_of_ble_eq_true rfl) ?_
  intro p e s m below meth c A ls C hP hD hS hl
  have hl : lv_has ls 3 [(0, .ref h), (1, .int (nI 1)), (2, .int x2)] := hl
  have hsz9 := hS.1
  refine lv_aload_n C.x C.b d_MD_refused_0 rfl (lv_at hl 0 rfl) ?_
  refine lv_iload_n C.x C.b d_MD_refused_1 rfl (lv_at hl 1 rfl) ?_
  refine lv_if_eq (tgt := 9) C.x C.b d_MD_refused_2 (by decide) (fun h9 => by first | exact absurd h9 (by decide) | exact absurd (by decide) h9) (fun _ => ?_)
  refine lv_iconst (v := nI 1) C.x C.b d_MD_refused_5 (by decide) ?_
  refine lv_goto (tgt := 18) C.x C.b d_MD_refused_6 (by decide) ?_
  refine k_put C hP hD hS 0 rfl rfl i_MD tk_MD n_MD 0 (by decide) m_652 rfl rfl rfl (Nat.le_of_ble_eq_true rfl) d_MD_refused_18 (fun H locs hP hD hS => ?_)
  have hP : va_P d.1 clz [(h, ob 1 [.int (nI 1), .ref an, .ref ak, .int lt, .int se, .ref au, .int zs, .ref ap, .int mn, .ref aw, .int cz, .ref ac, .int ln, .int ft, .int gz, .ref ag, .ref ax, .ref ao, .ref al, .ref av, .ref ae, .ref ar, .ref ad, .ref aW, .ref aS, .ref aN, .ref aR, .ref aG])] H := hP
  have hD : va_D A [(h, ob 1 [.int (nI 1), .ref an, .ref ak, .int lt, .int se, .ref au, .int zs, .ref ap, .int mn, .ref aw, .int cz, .ref ac, .int ln, .int ft, .int gz, .ref ag, .ref ax, .ref ao, .ref al, .ref av, .ref ae, .ref ar, .ref ad, .ref aW, .ref aS, .ref aN, .ref aR, .ref aG])] := hD
  refine lv_aload_n C.x C.b d_MD_refused_21 rfl (lv_at hl 0 rfl) ?_
  refine k_get C hP 0 rfl rfl i_MD 0 (by decide) m_652 rfl d_MD_refused_22 ?_
  refine lv_if_le (tgt := 32) C.x C.b d_MD_refused_25 (by decide) (fun h9 => by first | exact absurd h9 (by decide) | exact absurd (by decide) h9) (fun _ => ?_)
  refine lv_iconst (v := nI 1) C.x C.b d_MD_refused_28 (by decide) ?_
  refine lv_goto (tgt := 33) C.x C.b d_MD_refused_29 (by decide) ?_
  have hP9 := hP.sub (ws' := [(h, ob 1 [.int (nI 1), .ref an, .ref ak, .int lt, .int se, .ref au, .int zs, .ref ap, .int mn, .ref aw, .int cz, .ref ac, .int ln, .int ft, .int gz, .ref ag, .ref ax, .ref ao, .ref al, .ref av, .ref ae, .ref ar, .ref ad, .ref aW, .ref aS, .ref aN, .ref aR, .ref aG])]) [0] rfl
  have hD9 := hD.sub (ws' := [(h, ob 1 [.int (nI 1), .ref an, .ref ak, .int lt, .int se, .ref au, .int zs, .ref ap, .int mn, .ref aw, .int cz, .ref ac, .int ln, .int ft, .int gz, .ref ag, .ref ax, .ref ao, .ref al, .ref av, .ref ae, .ref ar, .ref ad, .ref aW, .ref aS, .ref aN, .ref aR, .ref aG])]) [0] (by decide) rfl
  exact k_zret C (by decide) hS () (rfl) (trivial) hP9 hD9 d_MD_refused_33
set_option maxHeartbeats 4000000 in
set_option maxRecDepth 100000 in
theorem c_MD_refused2 (l : Launch) (d : DD) (h : Nat) (an : Nat) (ak : Nat) (au : Nat) (ap : Nat) (aw : Nat) (ac : Nat) (ag : Nat) (ax : Nat) (ao : Nat) (al : Nat) (av : Nat) (ae : Nat) (ar : Nat) (ad : Nat) (aW : Nat) (aS : Nat) (aN : Nat) (aR : Nat) (aG : Nat) (th : Int32) (lt : Int32) (se : Int32) (zs : Int32) (mn : Int32) (cz : Int32) (ln : Int32) (ft : Int32) (gz : Int32) : Ct l y_MD_refused b_MD_refused 3 (some .boolean) 0 0 0 0 d [(h, ob 1 [.int th, .ref an, .ref ak, .int lt, .int se, .ref au, .int zs, .ref ap, .int mn, .ref aw, .int cz, .ref ac, .int ln, .int ft, .int gz, .ref ag, .ref ax, .ref ao, .ref al, .ref av, .ref ae, .ref ar, .ref ad, .ref aW, .ref aS, .ref aN, .ref aR, .ref aG])] [.ref h, .int (nI 0), .int (nI 1)] (fun (_ : Unit) => some (.int (nI 1))) (fun (_ : Unit) => True) (fun (_ : Unit) => [(h, ob 1 [.int (nI 2), .ref an, .ref ak, .int lt, .int se, .ref au, .int zs, .ref ap, .int mn, .ref aw, .int cz, .ref ac, .int ln, .int ft, .int gz, .ref ag, .ref ax, .ref ao, .ref al, .ref av, .ref ae, .ref ar, .ref ad, .ref aW, .ref aS, .ref aN, .ref aR, .ref aG])]) := by
  refine Ct.of (by decide +kernel) (Nat.le_of_ble_eq_true rfl) ?_
  intro p e s m below meth c A ls C hP hD hS hl
  have hl : lv_has ls 3 [(0, .ref h), (1, .int (nI 0)), (2, .int (nI 1))] := hl
  have hsz9 := hS.1
  refine lv_aload_n C.x C.b d_MD_refused_0 rfl (lv_at hl 0 rfl) ?_
  refine lv_iload_n C.x C.b d_MD_refused_1 rfl (lv_at hl 1 rfl) ?_
  refine lv_if_eq (tgt := 9) C.x C.b d_MD_refused_2 (by decide) (fun _ => ?_) (fun h9 => by first | exact absurd h9 (by decide) | exact absurd (by decide) h9)
  refine lv_iload_n C.x C.b d_MD_refused_9 rfl (lv_at hl 2 rfl) ?_
  refine lv_if_eq (tgt := 17) C.x C.b d_MD_refused_10 (by decide) (fun h9 => by first | exact absurd h9 (by decide) | exact absurd (by decide) h9) (fun _ => ?_)
  refine lv_iconst (v := nI 2) C.x C.b d_MD_refused_13 (by decide) ?_
  refine lv_goto (tgt := 18) C.x C.b d_MD_refused_14 (by decide) ?_
  refine k_put C hP hD hS 0 rfl rfl i_MD tk_MD n_MD 0 (by decide) m_652 rfl rfl rfl (Nat.le_of_ble_eq_true rfl) d_MD_refused_18 (fun H locs hP hD hS => ?_)
  have hP : va_P d.1 clz [(h, ob 1 [.int (nI 2), .ref an, .ref ak, .int lt, .int se, .ref au, .int zs, .ref ap, .int mn, .ref aw, .int cz, .ref ac, .int ln, .int ft, .int gz, .ref ag, .ref ax, .ref ao, .ref al, .ref av, .ref ae, .ref ar, .ref ad, .ref aW, .ref aS, .ref aN, .ref aR, .ref aG])] H := hP
  have hD : va_D A [(h, ob 1 [.int (nI 2), .ref an, .ref ak, .int lt, .int se, .ref au, .int zs, .ref ap, .int mn, .ref aw, .int cz, .ref ac, .int ln, .int ft, .int gz, .ref ag, .ref ax, .ref ao, .ref al, .ref av, .ref ae, .ref ar, .ref ad, .ref aW, .ref aS, .ref aN, .ref aR, .ref aG])] := hD
  refine lv_aload_n C.x C.b d_MD_refused_21 rfl (lv_at hl 0 rfl) ?_
  refine k_get C hP 0 rfl rfl i_MD 0 (by decide) m_652 rfl d_MD_refused_22 ?_
  refine lv_if_le (tgt := 32) C.x C.b d_MD_refused_25 (by decide) (fun h9 => by first | exact absurd h9 (by decide) | exact absurd (by decide) h9) (fun _ => ?_)
  refine lv_iconst (v := nI 1) C.x C.b d_MD_refused_28 (by decide) ?_
  refine lv_goto (tgt := 33) C.x C.b d_MD_refused_29 (by decide) ?_
  have hP9 := hP.sub (ws' := [(h, ob 1 [.int (nI 2), .ref an, .ref ak, .int lt, .int se, .ref au, .int zs, .ref ap, .int mn, .ref aw, .int cz, .ref ac, .int ln, .int ft, .int gz, .ref ag, .ref ax, .ref ao, .ref al, .ref av, .ref ae, .ref ar, .ref ad, .ref aW, .ref aS, .ref aN, .ref aR, .ref aG])]) [0] rfl
  have hD9 := hD.sub (ws' := [(h, ob 1 [.int (nI 2), .ref an, .ref ak, .int lt, .int se, .ref au, .int zs, .ref ap, .int mn, .ref aw, .int cz, .ref ac, .int ln, .int ft, .int gz, .ref ag, .ref ax, .ref ao, .ref al, .ref av, .ref ae, .ref ar, .ref ad, .ref aW, .ref aS, .ref aN, .ref aR, .ref aG])]) [0] (by decide) rfl
  exact k_zret C (by decide) hS () (rfl) (trivial) hP9 hD9 d_MD_refused_33
set_option maxHeartbeats 4000000 in
set_option maxRecDepth 100000 in
theorem c_MD_refused0 (l : Launch) (d : DD) (h : Nat) (an : Nat) (ak : Nat) (au : Nat) (ap : Nat) (aw : Nat) (ac : Nat) (ag : Nat) (ax : Nat) (ao : Nat) (al : Nat) (av : Nat) (ae : Nat) (ar : Nat) (ad : Nat) (aW : Nat) (aS : Nat) (aN : Nat) (aR : Nat) (aG : Nat) (th : Int32) (lt : Int32) (se : Int32) (zs : Int32) (mn : Int32) (cz : Int32) (ln : Int32) (ft : Int32) (gz : Int32) : Ct l y_MD_refused b_MD_refused 3 (some .boolean) 0 0 0 0 d [(h, ob 1 [.int th, .ref an, .ref ak, .int lt, .int se, .ref au, .int zs, .ref ap, .int mn, .ref aw, .int cz, .ref ac, .int ln, .int ft, .int gz, .ref ag, .ref ax, .ref ao, .ref al, .ref av, .ref ae, .ref ar, .ref ad, .ref aW, .ref aS, .ref aN, .ref aR, .ref aG])] [.ref h, .int (nI 0), .int (nI 0)] (fun (_ : Unit) => some (.int (nI 0))) (fun (_ : Unit) => True) (fun (_ : Unit) => [(h, ob 1 [.int (nI 0), .ref an, .ref ak, .int lt, .int se, .ref au, .int zs, .ref ap, .int mn, .ref aw, .int cz, .ref ac, .int ln, .int ft, .int gz, .ref ag, .ref ax, .ref ao, .ref al, .ref av, .ref ae, .ref ar, .ref ad, .ref aW, .ref aS, .ref aN, .ref aR, .ref aG])]) := by
  refine Ct.of (by decide +kernel) (Nat.le_of_ble_eq_true rfl) ?_
  intro p e s m below meth c A ls C hP hD hS hl
  have hl : lv_has ls 3 [(0, .ref h), (1, .int (nI 0)), (2, .int (nI 0))] := hl
  have hsz9 := hS.1
  refine lv_aload_n C.x C.b d_MD_refused_0 rfl (lv_at hl 0 rfl) ?_
  refine lv_iload_n C.x C.b d_MD_refused_1 rfl (lv_at hl 1 rfl) ?_
  refine lv_if_eq (tgt := 9) C.x C.b d_MD_refused_2 (by decide) (fun _ => ?_) (fun h9 => by first | exact absurd h9 (by decide) | exact absurd (by decide) h9)
  refine lv_iload_n C.x C.b d_MD_refused_9 rfl (lv_at hl 2 rfl) ?_
  refine lv_if_eq (tgt := 17) C.x C.b d_MD_refused_10 (by decide) (fun _ => ?_) (fun h9 => by first | exact absurd h9 (by decide) | exact absurd (by decide) h9)
  refine lv_iconst (v := nI 0) C.x C.b d_MD_refused_17 (by decide) ?_
  refine k_put C hP hD hS 0 rfl rfl i_MD tk_MD n_MD 0 (by decide) m_652 rfl rfl rfl (Nat.le_of_ble_eq_true rfl) d_MD_refused_18 (fun H locs hP hD hS => ?_)
  have hP : va_P d.1 clz [(h, ob 1 [.int (nI 0), .ref an, .ref ak, .int lt, .int se, .ref au, .int zs, .ref ap, .int mn, .ref aw, .int cz, .ref ac, .int ln, .int ft, .int gz, .ref ag, .ref ax, .ref ao, .ref al, .ref av, .ref ae, .ref ar, .ref ad, .ref aW, .ref aS, .ref aN, .ref aR, .ref aG])] H := hP
  have hD : va_D A [(h, ob 1 [.int (nI 0), .ref an, .ref ak, .int lt, .int se, .ref au, .int zs, .ref ap, .int mn, .ref aw, .int cz, .ref ac, .int ln, .int ft, .int gz, .ref ag, .ref ax, .ref ao, .ref al, .ref av, .ref ae, .ref ar, .ref ad, .ref aW, .ref aS, .ref aN, .ref aR, .ref aG])] := hD
  refine lv_aload_n C.x C.b d_MD_refused_21 rfl (lv_at hl 0 rfl) ?_
  refine k_get C hP 0 rfl rfl i_MD 0 (by decide) m_652 rfl d_MD_refused_22 ?_
  refine lv_if_le (tgt := 32) C.x C.b d_MD_refused_25 (by decide) (fun _ => ?_) (fun h9 => by first | exact absurd h9 (by decide) | exact absurd (by decide) h9)
  refine lv_iconst (v := nI 0) C.x C.b d_MD_refused_32 (by decide) ?_
  have hP9 := hP.sub (ws' := [(h, ob 1 [.int (nI 0), .ref an, .ref ak, .int lt, .int se, .ref au, .int zs, .ref ap, .int mn, .ref aw, .int cz, .ref ac, .int ln, .int ft, .int gz, .ref ag, .ref ax, .ref ao, .ref al, .ref av, .ref ae, .ref ar, .ref ad, .ref aW, .ref aS, .ref aN, .ref aR, .ref aG])]) [0] rfl
  have hD9 := hD.sub (ws' := [(h, ob 1 [.int (nI 0), .ref an, .ref ak, .int lt, .int se, .ref au, .int zs, .ref ap, .int mn, .ref aw, .int cz, .ref ac, .int ln, .int ft, .int gz, .ref ag, .ref ax, .ref ao, .ref al, .ref av, .ref ae, .ref ar, .ref ad, .ref aW, .ref aS, .ref aN, .ref aR, .ref aG])]) [0] (by decide) rfl
  exact k_zret C (by decide) hS () (rfl) (trivial) hP9 hD9 d_MD_refused_33
theorem mw_MD_key : Mw y_MD_key b_MD_key 3 none 2 := ⟨m_744, m_9, m_742, by decide +kernel⟩
set_option maxHeartbeats 4000000 in
set_option maxRecDepth 100000 in
theorem c_MD_key (l : Launch) (d : DD) (h : Nat) (an : Nat) (ak : Nat) (au : Nat) (ap : Nat) (aw : Nat) (ac : Nat) (ag : Nat) (ax : Nat) (ao : Nat) (al : Nat) (av : Nat) (ae : Nat) (ar : Nat) (ad : Nat) (aW : Nat) (aS : Nat) (aN : Nat) (aR : Nat) (aG : Nat) (th : Int32) (lt : Int32) (se : Int32) (zs : Int32) (mn : Int32) (cz : Int32) (ln : Int32) (ft : Int32) (gz : Int32) (fn : Nat → Int32) (i : Nat) (v : Int32) (hi : i < 16) : Ct l y_MD_key b_MD_key 3 none 1 22 0 0 d [(h, ob 1 [.int th, .ref an, .ref ak, .int lt, .int se, .ref au, .int zs, .ref ap, .int mn, .ref aw, .int cz, .ref ac, .int ln, .int ft, .int gz, .ref ag, .ref ax, .ref ao, .ref al, .ref av, .ref ae, .ref ar, .ref ad, .ref aW, .ref aS, .ref aN, .ref aR, .ref aG]), (an, aI d 16 fn)] [.ref h, .int (nI i), .int v] (fun (_ : Unit) => none) (fun (_ : Unit) => True) (fun (_ : Unit) => [(h, ob 1 [.int (nI 0), .ref an, .ref ak, .int lt, .int se, .ref au, .int zs, .ref ap, .int mn, .ref aw, .int cz, .ref ac, .int ln, .int ft, .int gz, .ref ag, .ref ax, .ref ao, .ref al, .ref av, .ref ae, .ref ar, .ref ad, .ref aW, .ref aS, .ref aN, .ref aR, .ref aG]), (an, aI d 16 (upd fn i v))]) := by
  refine Ct.of (by decide +kernel) (Nat.le_of_ble_eq_true rfl) ?_
  intro p e s m below meth c A ls C hP hD hS hl
  have hl : lv_has ls 3 [(0, .ref h), (1, .int (nI i)), (2, .int v)] := hl
  have hsz9 := hS.1
  refine lv_aload_n C.x C.b d_MD_key_0 rfl (lv_at hl 0 rfl) ?_
  refine lv_iload_n C.x C.b d_MD_key_1 rfl (lv_at hl 1 rfl) ?_
  refine lv_if_lt (tgt := 11) C.x C.b d_MD_key_2 (by decide) (fun h9 => False.elim (nI_pos (by omega) h9)) (fun hc_1 => ?_)
  rw [← nI_0, nI_ltI (by omega) (by omega)] at hc_1
  refine lv_iload_n C.x C.b d_MD_key_5 rfl (lv_at hl 1 rfl) ?_
  refine lv_bipush (v := nI 15) C.x C.b d_MD_key_6 (by decide) ?_
  refine lv_icmp_le (tgt := 15) C.x C.b d_MD_key_8 (by decide) (fun hc_2 => ?_) (fun h9 => False.elim (h9 (nI_le (by omega) (by omega))))
  rw [nI_leI (by omega) (by omega)] at hc_2
  refine lv_iconst (v := nI 0) C.x C.b d_MD_key_15 (by decide) ?_
  refine lv_iconst (v := nI 0) C.x C.b d_MD_key_16 (by decide) ?_
  refine k_callV (As := [.int (nI 0), .int (nI 0)]) (rest := []) (wc := [(h, ob 1 [.int th, .ref an, .ref ak, .int lt, .int se, .ref au, .int zs, .ref ap, .int mn, .ref aw, .int cz, .ref ac, .int ln, .int ft, .int gz, .ref ag, .ref ax, .ref ao, .ref al, .ref av, .ref ae, .ref ar, .ref ad, .ref aW, .ref aS, .ref aN, .ref aR, .ref aG])]) (wr := [(an, aI d 16 fn)]) C (c_MD_refused0 l d h an ak au ap aw ac ag ax ao al av ae ar ad aW aS aN aR aG th lt se zs mn cz ln ft gz) mw_MD_refused ms_18 m_745 hP hD hS [0] [1] rfl rfl (by decide) (by decide) (by decide) 0 rfl rfl rfl rfl hl.1 (Nat.le_of_ble_eq_true rfl) d_MD_key_17 ⟨Nat.le_of_ble_eq_true rfl, Nat.le_of_ble_eq_true rfl⟩ ⟨by decide, by decide⟩ (fun _ H locs hw_3 hP hD hS => ?_)
  have hP : va_P d.1 clz [(an, aI d 16 fn), (h, ob 1 [.int (nI 0), .ref an, .ref ak, .int lt, .int se, .ref au, .int zs, .ref ap, .int mn, .ref aw, .int cz, .ref ac, .int ln, .int ft, .int gz, .ref ag, .ref ax, .ref ao, .ref al, .ref av, .ref ae, .ref ar, .ref ad, .ref aW, .ref aS, .ref aN, .ref aR, .ref aG])] H := hP
  have hD : va_D A [(an, aI d 16 fn), (h, ob 1 [.int (nI 0), .ref an, .ref ak, .int lt, .int se, .ref au, .int zs, .ref ap, .int mn, .ref aw, .int cz, .ref ac, .int ln, .int ft, .int gz, .ref ag, .ref ax, .ref ao, .ref al, .ref av, .ref ae, .ref ar, .ref ad, .ref aW, .ref aS, .ref aN, .ref aR, .ref aG])] := hD
  refine W.eq (g2 := F0 m 20 ls [.int (nI 0)]) rfl ?_
  refine lv_if_ne (tgt := 30) C.x C.b d_MD_key_20 (by decide) (fun h9 => by first | exact absurd h9 (by decide) | exact absurd (by decide) h9) (fun _ => ?_)
  refine lv_aload_n C.x C.b d_MD_key_23 rfl (lv_at hl 0 rfl) ?_
  refine k_get C hP 1 rfl rfl i_MD 1 (by decide) m_653 rfl d_MD_key_24 ?_
  refine lv_iload_n C.x C.b d_MD_key_27 rfl (lv_at hl 1 rfl) ?_
  refine lv_iload_n C.x C.b d_MD_key_28 rfl (lv_at hl 2 rfl) ?_
  refine k_iast C hP hD hS 0 rfl (j := i) (by omega) (by omega) d_MD_key_29 (fun H locs hP hD hS => ?_)
  have hP : va_P d.1 clz [(an, aI d 16 (upd fn i v)), (h, ob 1 [.int (nI 0), .ref an, .ref ak, .int lt, .int se, .ref au, .int zs, .ref ap, .int mn, .ref aw, .int cz, .ref ac, .int ln, .int ft, .int gz, .ref ag, .ref ax, .ref ao, .ref al, .ref av, .ref ae, .ref ar, .ref ad, .ref aW, .ref aS, .ref aN, .ref aR, .ref aG])] H := hP
  have hD : va_D A [(an, aI d 16 (upd fn i v)), (h, ob 1 [.int (nI 0), .ref an, .ref ak, .int lt, .int se, .ref au, .int zs, .ref ap, .int mn, .ref aw, .int cz, .ref ac, .int ln, .int ft, .int gz, .ref ag, .ref ax, .ref ao, .ref al, .ref av, .ref ae, .ref ar, .ref ad, .ref aW, .ref aS, .ref aN, .ref aR, .ref aG])] := hD
  have hP9 := hP.sub (ws' := [(h, ob 1 [.int (nI 0), .ref an, .ref ak, .int lt, .int se, .ref au, .int zs, .ref ap, .int mn, .ref aw, .int cz, .ref ac, .int ln, .int ft, .int gz, .ref ag, .ref ax, .ref ao, .ref al, .ref av, .ref ae, .ref ar, .ref ad, .ref aW, .ref aS, .ref aN, .ref aR, .ref aG]), (an, aI d 16 (upd fn i v))]) [1, 0] rfl
  have hD9 := hD.sub (ws' := [(h, ob 1 [.int (nI 0), .ref an, .ref ak, .int lt, .int se, .ref au, .int zs, .ref ap, .int mn, .ref aw, .int cz, .ref ac, .int ln, .int ft, .int gz, .ref ag, .ref ax, .ref ao, .ref al, .ref av, .ref ae, .ref ar, .ref ad, .ref aW, .ref aS, .ref aN, .ref aR, .ref aG]), (an, aI d 16 (upd fn i v))]) [1, 0] (by decide) rfl
  exact k_vret C hS () (rfl) (trivial) hP9 hD9 d_MD_key_30
set_option maxHeartbeats 4000000 in
set_option maxRecDepth 100000 in
theorem c_MD_keyX (l : Launch) (d : DD) (h : Nat) (an : Nat) (ak : Nat) (au : Nat) (ap : Nat) (aw : Nat) (ac : Nat) (ag : Nat) (ax : Nat) (ao : Nat) (al : Nat) (av : Nat) (ae : Nat) (ar : Nat) (ad : Nat) (aW : Nat) (aS : Nat) (aN : Nat) (aR : Nat) (aG : Nat) (th : Int32) (lt : Int32) (se : Int32) (zs : Int32) (mn : Int32) (cz : Int32) (ln : Int32) (ft : Int32) (gz : Int32) (i : Int32) (v : Int32) (hbad : i < 0 ∨ nI 15 < i) : Ct l y_MD_key b_MD_key 3 none 1 22 0 0 d [(h, ob 1 [.int th, .ref an, .ref ak, .int lt, .int se, .ref au, .int zs, .ref ap, .int mn, .ref aw, .int cz, .ref ac, .int ln, .int ft, .int gz, .ref ag, .ref ax, .ref ao, .ref al, .ref av, .ref ae, .ref ar, .ref ad, .ref aW, .ref aS, .ref aN, .ref aR, .ref aG])] [.ref h, .int i, .int v] (fun (_ : Unit) => none) (fun (_ : Unit) => True) (fun (_ : Unit) => [(h, ob 1 [.int (nI 1), .ref an, .ref ak, .int lt, .int se, .ref au, .int zs, .ref ap, .int mn, .ref aw, .int cz, .ref ac, .int ln, .int ft, .int gz, .ref ag, .ref ax, .ref ao, .ref al, .ref av, .ref ae, .ref ar, .ref ad, .ref aW, .ref aS, .ref aN, .ref aR, .ref aG])]) := by
  refine Ct.of (by decide +kernel) (Nat.le_of_ble_eq_true rfl) ?_
  intro p e s m below meth c A ls C hP hD hS hl
  have hl : lv_has ls 3 [(0, .ref h), (1, .int i), (2, .int v)] := hl
  have hsz9 := hS.1
  refine lv_aload_n C.x C.b d_MD_key_0 rfl (lv_at hl 0 rfl) ?_
  refine lv_iload_n C.x C.b d_MD_key_1 rfl (lv_at hl 1 rfl) ?_
  refine lv_if_lt (tgt := 11) C.x C.b d_MD_key_2 (by decide) (fun hca => ?_) (fun hca => ?_)
  · refine lv_iconst (v := nI 1) C.x C.b d_MD_key_11 (by decide) ?_
    refine lv_goto (tgt := 16) C.x C.b d_MD_key_12 (by decide) ?_
    refine lv_iconst (v := nI 0) C.x C.b d_MD_key_16 (by decide) ?_
    refine k_callV (As := [.int (nI 1), .int (nI 0)]) (rest := []) (wc := [(h, ob 1 [.int th, .ref an, .ref ak, .int lt, .int se, .ref au, .int zs, .ref ap, .int mn, .ref aw, .int cz, .ref ac, .int ln, .int ft, .int gz, .ref ag, .ref ax, .ref ao, .ref al, .ref av, .ref ae, .ref ar, .ref ad, .ref aW, .ref aS, .ref aN, .ref aR, .ref aG])]) (wr := []) C (c_MD_refused1 l d h an ak au ap aw ac ag ax ao al av ae ar ad aW aS aN aR aG th lt se zs mn cz ln ft gz (nI 0)) mw_MD_refused ms_18 m_745 hP hD hS [0] [] rfl rfl (by decide) (by decide) (by decide) 0 rfl rfl rfl rfl hl.1 (Nat.le_of_ble_eq_true rfl) d_MD_key_17 ⟨Nat.le_of_ble_eq_true rfl, Nat.le_of_ble_eq_true rfl⟩ ⟨by decide, by decide⟩ (fun _ H locs hw_2 hP hD hS => ?_)
    have hP : va_P d.1 clz [(h, ob 1 [.int (nI 1), .ref an, .ref ak, .int lt, .int se, .ref au, .int zs, .ref ap, .int mn, .ref aw, .int cz, .ref ac, .int ln, .int ft, .int gz, .ref ag, .ref ax, .ref ao, .ref al, .ref av, .ref ae, .ref ar, .ref ad, .ref aW, .ref aS, .ref aN, .ref aR, .ref aG])] H := hP
    have hD : va_D A [(h, ob 1 [.int (nI 1), .ref an, .ref ak, .int lt, .int se, .ref au, .int zs, .ref ap, .int mn, .ref aw, .int cz, .ref ac, .int ln, .int ft, .int gz, .ref ag, .ref ax, .ref ao, .ref al, .ref av, .ref ae, .ref ar, .ref ad, .ref aW, .ref aS, .ref aN, .ref aR, .ref aG])] := hD
    refine W.eq (g2 := F0 m 20 ls [.int (nI 1)]) rfl ?_
    refine lv_if_ne (tgt := 30) C.x C.b d_MD_key_20 (by decide) (fun _ => ?_) (fun h9 => by first | exact absurd h9 (by decide) | exact absurd (by decide) h9)
    have hP9 := hP.sub (ws' := [(h, ob 1 [.int (nI 1), .ref an, .ref ak, .int lt, .int se, .ref au, .int zs, .ref ap, .int mn, .ref aw, .int cz, .ref ac, .int ln, .int ft, .int gz, .ref ag, .ref ax, .ref ao, .ref al, .ref av, .ref ae, .ref ar, .ref ad, .ref aW, .ref aS, .ref aN, .ref aR, .ref aG])]) [0] rfl
    have hD9 := hD.sub (ws' := [(h, ob 1 [.int (nI 1), .ref an, .ref ak, .int lt, .int se, .ref au, .int zs, .ref ap, .int mn, .ref aw, .int cz, .ref ac, .int ln, .int ft, .int gz, .ref ag, .ref ax, .ref ao, .ref al, .ref av, .ref ae, .ref ar, .ref ad, .ref aW, .ref aS, .ref aN, .ref aR, .ref aG])]) [0] (by decide) rfl
    exact k_vret C hS () (rfl) (trivial) hP9 hD9 d_MD_key_30
  · refine lv_iload_n C.x C.b d_MD_key_5 rfl (lv_at hl 1 rfl) ?_
    refine lv_bipush (v := nI 15) C.x C.b d_MD_key_6 (by decide) ?_
    refine lv_icmp_le (tgt := 15) C.x C.b d_MD_key_8 (by decide) (fun h9 => False.elim (hbad.elim hca (fun q => Int32.not_le.mpr q h9))) (fun hc_3 => ?_)
    refine lv_iconst (v := nI 1) C.x C.b d_MD_key_11 (by decide) ?_
    refine lv_goto (tgt := 16) C.x C.b d_MD_key_12 (by decide) ?_
    refine lv_iconst (v := nI 0) C.x C.b d_MD_key_16 (by decide) ?_
    refine k_callV (As := [.int (nI 1), .int (nI 0)]) (rest := []) (wc := [(h, ob 1 [.int th, .ref an, .ref ak, .int lt, .int se, .ref au, .int zs, .ref ap, .int mn, .ref aw, .int cz, .ref ac, .int ln, .int ft, .int gz, .ref ag, .ref ax, .ref ao, .ref al, .ref av, .ref ae, .ref ar, .ref ad, .ref aW, .ref aS, .ref aN, .ref aR, .ref aG])]) (wr := []) C (c_MD_refused1 l d h an ak au ap aw ac ag ax ao al av ae ar ad aW aS aN aR aG th lt se zs mn cz ln ft gz (nI 0)) mw_MD_refused ms_18 m_745 hP hD hS [0] [] rfl rfl (by decide) (by decide) (by decide) 0 rfl rfl rfl rfl hl.1 (Nat.le_of_ble_eq_true rfl) d_MD_key_17 ⟨Nat.le_of_ble_eq_true rfl, Nat.le_of_ble_eq_true rfl⟩ ⟨by decide, by decide⟩ (fun _ H locs hw_4 hP hD hS => ?_)
    have hP : va_P d.1 clz [(h, ob 1 [.int (nI 1), .ref an, .ref ak, .int lt, .int se, .ref au, .int zs, .ref ap, .int mn, .ref aw, .int cz, .ref ac, .int ln, .int ft, .int gz, .ref ag, .ref ax, .ref ao, .ref al, .ref av, .ref ae, .ref ar, .ref ad, .ref aW, .ref aS, .ref aN, .ref aR, .ref aG])] H := hP
    have hD : va_D A [(h, ob 1 [.int (nI 1), .ref an, .ref ak, .int lt, .int se, .ref au, .int zs, .ref ap, .int mn, .ref aw, .int cz, .ref ac, .int ln, .int ft, .int gz, .ref ag, .ref ax, .ref ao, .ref al, .ref av, .ref ae, .ref ar, .ref ad, .ref aW, .ref aS, .ref aN, .ref aR, .ref aG])] := hD
    refine W.eq (g2 := F0 m 20 ls [.int (nI 1)]) rfl ?_
    refine lv_if_ne (tgt := 30) C.x C.b d_MD_key_20 (by decide) (fun _ => ?_) (fun h9 => by first | exact absurd h9 (by decide) | exact absurd (by decide) h9)
    have hP9 := hP.sub (ws' := [(h, ob 1 [.int (nI 1), .ref an, .ref ak, .int lt, .int se, .ref au, .int zs, .ref ap, .int mn, .ref aw, .int cz, .ref ac, .int ln, .int ft, .int gz, .ref ag, .ref ax, .ref ao, .ref al, .ref av, .ref ae, .ref ar, .ref ad, .ref aW, .ref aS, .ref aN, .ref aR, .ref aG])]) [0] rfl
    have hD9 := hD.sub (ws' := [(h, ob 1 [.int (nI 1), .ref an, .ref ak, .int lt, .int se, .ref au, .int zs, .ref ap, .int mn, .ref aw, .int cz, .ref ac, .int ln, .int ft, .int gz, .ref ag, .ref ax, .ref ao, .ref al, .ref av, .ref ae, .ref ar, .ref ad, .ref aW, .ref aS, .ref aN, .ref aR, .ref aG])]) [0] (by decide) rfl
    exact k_vret C hS () (rfl) (trivial) hP9 hD9 d_MD_key_30
theorem mw_MD_copyNext : Mw y_MD_copyNext b_MD_copyNext 3 none 1 := ⟨m_756, m_9, m_755, by decide +kernel⟩
set_option maxHeartbeats 4000000 in
set_option maxRecDepth 100000 in
theorem c_MD_copyNext (l : Launch) (d : DD) (h : Nat) (an : Nat) (ak : Nat) (au : Nat) (ap : Nat) (aw : Nat) (ac : Nat) (ag : Nat) (ax : Nat) (ao : Nat) (al : Nat) (av : Nat) (ae : Nat) (ar : Nat) (ad : Nat) (aW : Nat) (aS : Nat) (aN : Nat) (aR : Nat) (aG : Nat) (th : Int32) (lt : Int32) (se : Int32) (zs : Int32) (mn : Int32) (cz : Int32) (ln : Int32) (ft : Int32) (gz : Int32) (fn : Nat → Int32) (fk : Nat → Int32) (to : Nat) (hto : to + 16 ≤ 48) : Ct l y_MD_copyNext b_MD_copyNext 3 none 0 0 0 0 d [(h, ob 1 [.int th, .ref an, .ref ak, .int lt, .int se, .ref au, .int zs, .ref ap, .int mn, .ref aw, .int cz, .ref ac, .int ln, .int ft, .int gz, .ref ag, .ref ax, .ref ao, .ref al, .ref av, .ref ae, .ref ar, .ref ad, .ref aW, .ref aS, .ref aN, .ref aR, .ref aG]), (an, aI d 16 fn), (ak, aI d 48 fk)] [.ref h, .int (nI to)] (fun (k2 : Nat → Int32) => none) (fun (k2 : Nat → Int32) => (∀ j, j < 16 → k2 (to + j) = fn j) ∧ ∀ j, (j < to ∨ to + 16 ≤ j) → k2 j = fk j) (fun (k2 : Nat → Int32) => [(h, ob 1 [.int th, .ref an, .ref ak, .int lt, .int se, .ref au, .int zs, .ref ap, .int mn, .ref aw, .int cz, .ref ac, .int ln, .int ft, .int gz, .ref ag, .ref ax, .ref ao, .ref al, .ref av, .ref ae, .ref ar, .ref ad, .ref aW, .ref aS, .ref aN, .ref aR, .ref aG]), (an, aI d 16 fn), (ak, aI d 48 k2)]) := by
  refine Ct.of (by decide +kernel) (Nat.le_of_ble_eq_true rfl) ?_
  intro p e s m below meth c A ls C hP hD hS hl
  have hl : lv_has ls 3 [(0, .ref h), (1, .int (nI to))] := hl
  have hsz9 := hS.1
  refine lv_iconst (v := nI 0) C.x C.b d_MD_copyNext_0 (by decide) ?_
  refine lv_istore_n (lv' := [(2, .int (nI 0)), (0, .ref h), (1, .int (nI to))]) C.x C.b d_MD_copyNext_1 rfl hl (by decide) rfl (fun ls hl => ?_)
  have L2 : ∀ (fuel : Nat) (j : Nat) (g : Nat → Int32), 16 - j < fuel → (j ≤ 16) → (∀ i, i < j → g (to + i) = fn i) → (∀ i, (i < to ∨ to + 16 ≤ i) → g i = fk i) → ∀ (H : Heap) (locs : List Loc) (ls : Array Slot), va_P d.1 clz [(h, ob 1 [.int th, .ref an, .ref ak, .int lt, .int se, .ref au, .int zs, .ref ap, .int mn, .ref aw, .int cz, .ref ac, .int ln, .int ft, .int gz, .ref ag, .ref ax, .ref ao, .ref al, .ref av, .ref ae, .ref ar, .ref ad, .ref aW, .ref aS, .ref aN, .ref aR, .ref aG]), (an, aI d 16 fn), (ak, aI d 48 g)] H → va_D A [(h, ob 1 [.int th, .ref an, .ref ak, .int lt, .int se, .ref au, .int zs, .ref ap, .int mn, .ref aw, .int cz, .ref ac, .int ln, .int ft, .int gz, .ref ag, .ref ax, .ref ao, .ref al, .ref av, .ref ae, .ref ar, .ref ad, .ref aW, .ref aS, .ref aN, .ref aR, .ref aG]), (an, aI d 16 fn), (ak, aI d 48 g)] → va_S A s.heap H locs → lv_has ls 3 [(0, .ref h), (1, .int (nI to)), (2, .int (nI j))] → W p l e (Rm 0 0 0 0) s m ([.ref h, .int (nI to)] : List Value).toArray below meth c H locs 0 0 (MQ below (Cout d A (fun (k2 : Nat → Int32) => none) (fun (k2 : Nat → Int32) => (∀ j, j < 16 → k2 (to + j) = fn j) ∧ ∀ j, (j < to ∨ to + 16 ≤ j) → k2 j = fk j) (fun (k2 : Nat → Int32) => [(h, ob 1 [.int th, .ref an, .ref ak, .int lt, .int se, .ref au, .int zs, .ref ap, .int mn, .ref aw, .int cz, .ref ac, .int ln, .int ft, .int gz, .ref ag, .ref ax, .ref ao, .ref al, .ref av, .ref ae, .ref ar, .ref ad, .ref aW, .ref aS, .ref aN, .ref aR, .ref aG]), (an, aI d 16 fn), (ak, aI d 48 k2)])) ([.ref h, .int (nI to)] : List Value).toArray s 0 0 A) (F0 m 2 ls []) := by
    intro fuel
    induction fuel with
    | zero => intro j g h9; exact absurd h9 (Nat.not_lt_zero _)
    | succ fuel ih2 =>
      intro j g hfu2 hj hg1 hg2 H locs ls hP hD hS hl
      refine lv_iload_n C.x C.b d_MD_copyNext_2 rfl (lv_at hl 2 rfl) ?_
      refine lv_bipush (v := nI 16) C.x C.b d_MD_copyNext_3 (by decide) ?_
      refine lv_icmp_ge (tgt := 28) C.x C.b d_MD_copyNext_5 (by decide) (fun hc5 => ?_) (fun hc5 => ?_)
      · rw [nI_leI (by omega) (by omega)] at hc5
        have hP9 := hP.sub (ws' := [(h, ob 1 [.int th, .ref an, .ref ak, .int lt, .int se, .ref au, .int zs, .ref ap, .int mn, .ref aw, .int cz, .ref ac, .int ln, .int ft, .int gz, .ref ag, .ref ax, .ref ao, .ref al, .ref av, .ref ae, .ref ar, .ref ad, .ref aW, .ref aS, .ref aN, .ref aR, .ref aG]), (an, aI d 16 fn), (ak, aI d 48 g)]) [0, 1, 2] rfl
        have hD9 := hD.sub (ws' := [(h, ob 1 [.int th, .ref an, .ref ak, .int lt, .int se, .ref au, .int zs, .ref ap, .int mn, .ref aw, .int cz, .ref ac, .int ln, .int ft, .int gz, .ref ag, .ref ax, .ref ao, .ref al, .ref av, .ref ae, .ref ar, .ref ad, .ref aW, .ref aS, .ref aN, .ref aR, .ref aG]), (an, aI d 16 fn), (ak, aI d 48 g)]) [0, 1, 2] (by decide) rfl
        exact k_vret C hS g (rfl) (⟨by rw [show j = 16 from by omega] at hg1; exact hg1, hg2⟩) hP9 hD9 d_MD_copyNext_28
      · rw [nI_leI (by omega) (by omega)] at hc5
        refine lv_aload_n C.x C.b d_MD_copyNext_8 rfl (lv_at hl 0 rfl) ?_
        refine k_get C hP 0 rfl rfl i_MD 2 (by decide) m_654 rfl d_MD_copyNext_9 ?_
        refine lv_iload_n C.x C.b d_MD_copyNext_12 rfl (lv_at hl 1 rfl) ?_
        refine lv_iload_n C.x C.b d_MD_copyNext_13 rfl (lv_at hl 2 rfl) ?_
        refine lv_iadd C.x C.b d_MD_copyNext_14 ?_
        refine k_top (y := nI (to + j)) (nI_add _ _) ?_
        refine lv_aload_n C.x C.b d_MD_copyNext_15 rfl (lv_at hl 0 rfl) ?_
        refine k_get C hP 0 rfl rfl i_MD 1 (by decide) m_653 rfl d_MD_copyNext_16 ?_
        refine lv_iload_n C.x C.b d_MD_copyNext_19 rfl (lv_at hl 2 rfl) ?_
        refine k_iald C hP 1 rfl (j := j) (by omega) (by omega) d_MD_copyNext_20 ?_
        refine k_iast C hP hD hS 2 rfl (j := (to + j)) (by omega) (by omega) d_MD_copyNext_21 (fun H locs hP hD hS => ?_)
        have hP : va_P d.1 clz [(h, ob 1 [.int th, .ref an, .ref ak, .int lt, .int se, .ref au, .int zs, .ref ap, .int mn, .ref aw, .int cz, .ref ac, .int ln, .int ft, .int gz, .ref ag, .ref ax, .ref ao, .ref al, .ref av, .ref ae, .ref ar, .ref ad, .ref aW, .ref aS, .ref aN, .ref aR, .ref aG]), (an, aI d 16 fn), (ak, aI d 48 (upd g (to + j) (fn j)))] H := hP
        have hD : va_D A [(h, ob 1 [.int th, .ref an, .ref ak, .int lt, .int se, .ref au, .int zs, .ref ap, .int mn, .ref aw, .int cz, .ref ac, .int ln, .int ft, .int gz, .ref ag, .ref ax, .ref ao, .ref al, .ref av, .ref ae, .ref ar, .ref ad, .ref aW, .ref aS, .ref aN, .ref aR, .ref aG]), (an, aI d 16 fn), (ak, aI d 48 (upd g (to + j) (fn j)))] := hD
        refine lv_iinc (v := nI (j + 1)) (lv' := [(2, .int (nI (j + 1))), (0, .ref h), (1, .int (nI to))]) C.x C.b d_MD_copyNext_22 hl (k := 2) rfl (k_inc _ 1) (by decide) rfl (fun ls hl => ?_)
        refine lv_goto (tgt := 2) C.x C.b d_MD_copyNext_25 (by decide) ?_
        exact ih2 (j + 1) (upd g (to + j) (fn j)) (by omega) (by omega) (fun i hi => by rcases (show i < j ∨ i = j by omega) with z | z; rw [pk_un (by omega)]; exact hg1 i z; rw [z, pk_us]) (fun i hi => by rw [pk_un (by omega)]; exact hg2 i hi) _ _ _ (hP.sub [0, 1, 2] (rfl)) (hD.sub [0, 1, 2] (by decide) (rfl)) hS (lv_sub hl [1, 2, 0] (rfl))
  exact L2 ((16 - 0) + 1) 0 fk (Nat.lt_succ_self _) (by omega) (fun i hi => absurd hi (Nat.not_lt_zero _)) (fun _ _ => rfl) _ _ _ (hP.sub [0, 1, 2] (rfl)) (hD.sub [0, 1, 2] (by decide) (rfl)) hS (lv_sub hl [1, 2, 0] (rfl))
theorem mw_MD_turn2 : Mw y_MD_turn2 b_MD_turn2 2 none 1 := ⟨m_752, m_9, m_750, by decide +kernel⟩
set_option maxHeartbeats 4000000 in
set_option maxRecDepth 100000 in
theorem c_MD_turn20 (l : Launch) (d : DD) (h : Nat) (an : Nat) (ak : Nat) (au : Nat) (ap : Nat) (aw : Nat) (ac : Nat) (ag : Nat) (ax : Nat) (ao : Nat) (al : Nat) (av : Nat) (ae : Nat) (ar : Nat) (ad : Nat) (aW : Nat) (aS : Nat) (aN : Nat) (aR : Nat) (aG : Nat) (th : Int32) (lt : Int32) (se : Int32) (zs : Int32) (mn : Int32) (cz : Int32) (ln : Int32) (ft : Int32) (gz : Int32) (fn : Nat → Int32) (fk : Nat → Int32) (hlt : lt = nI 0 ∨ lt = nI 1) : Ct l y_MD_turn2 b_MD_turn2 2 none 1 22 0 0 d [(h, ob 1 [.int th, .ref an, .ref ak, .int lt, .int se, .ref au, .int zs, .ref ap, .int mn, .ref aw, .int cz, .ref ac, .int ln, .int ft, .int gz, .ref ag, .ref ax, .ref ao, .ref al, .ref av, .ref ae, .ref ar, .ref ad, .ref aW, .ref aS, .ref aN, .ref aR, .ref aG]), (an, aI d 16 fn), (ak, aI d 48 fk)] [.ref h, .int (nI 0)] (fun (u : (Nat → Int32) × (Int32)) => match u with | (k2, lt2) => none) (fun (u : (Nat → Int32) × (Int32)) => match u with | (k2, lt2) => lt2 = lt ∧ (∀ j, j < 16 → k2 (0 + j) = fn j) ∧ ∀ j, (j < 0 ∨ 0 + 16 ≤ j) → k2 j = fk j) (fun (u : (Nat → Int32) × (Int32)) => match u with | (k2, lt2) => [(h, ob 1 [.int (nI 0), .ref an, .ref ak, .int lt2, .int se, .ref au, .int zs, .ref ap, .int mn, .ref aw, .int cz, .ref ac, .int ln, .int ft, .int gz, .ref ag, .ref ax, .ref ao, .ref al, .ref av, .ref ae, .ref ar, .ref ad, .ref aW, .ref aS, .ref aN, .ref aR, .ref aG]), (an, aI d 16 fn), (ak, aI d 48 k2)]) := by
  refine Ct.of (by decide +kernel) (Nat.le_of_ble_eq_true rfl) ?_
  intro p e s m below meth c A ls C hP hD hS hl
  have hl : lv_has ls 2 [(0, .ref h), (1, .int (nI 0))] := hl
  have hsz9 := hS.1
  refine lv_aload_n C.x C.b d_MD_turn2_0 rfl (lv_at hl 0 rfl) ?_
  refine lv_iload_n C.x C.b d_MD_turn2_1 rfl (lv_at hl 1 rfl) ?_
  refine lv_if_lt (tgt := 10) C.x C.b d_MD_turn2_2 (by decide) (fun h9 => by first | exact absurd h9 (by decide) | exact absurd (by decide) h9) (fun _ => ?_)
  refine lv_iload_n C.x C.b d_MD_turn2_5 rfl (lv_at hl 1 rfl) ?_
  refine lv_iconst (v := nI 1) C.x C.b d_MD_turn2_6 (by decide) ?_
  refine lv_icmp_le (tgt := 14) C.x C.b d_MD_turn2_7 (by decide) (fun _ => ?_) (fun h9 => by first | exact absurd h9 (by decide) | exact absurd (by decide) h9)
  refine lv_iconst (v := nI 0) C.x C.b d_MD_turn2_14 (by decide) ?_
  refine lv_iconst (v := nI 0) C.x C.b d_MD_turn2_15 (by decide) ?_
  refine k_callV (As := [.int (nI 0), .int (nI 0)]) (rest := []) (wc := [(h, ob 1 [.int th, .ref an, .ref ak, .int lt, .int se, .ref au, .int zs, .ref ap, .int mn, .ref aw, .int cz, .ref ac, .int ln, .int ft, .int gz, .ref ag, .ref ax, .ref ao, .ref al, .ref av, .ref ae, .ref ar, .ref ad, .ref aW, .ref aS, .ref aN, .ref aR, .ref aG])]) (wr := [(an, aI d 16 fn), (ak, aI d 48 fk)]) C (c_MD_refused0 l d h an ak au ap aw ac ag ax ao al av ae ar ad aW aS aN aR aG th lt se zs mn cz ln ft gz) mw_MD_refused ms_18 m_745 hP hD hS [0] [1, 2] rfl rfl (by decide) (by decide) (by decide) 0 rfl rfl rfl rfl hl.1 (Nat.le_of_ble_eq_true rfl) d_MD_turn2_16 ⟨Nat.le_of_ble_eq_true rfl, Nat.le_of_ble_eq_true rfl⟩ ⟨by decide, by decide⟩ (fun _ H locs hw_1 hP hD hS => ?_)
  have hP : va_P d.1 clz [(an, aI d 16 fn), (ak, aI d 48 fk), (h, ob 1 [.int (nI 0), .ref an, .ref ak, .int lt, .int se, .ref au, .int zs, .ref ap, .int mn, .ref aw, .int cz, .ref ac, .int ln, .int ft, .int gz, .ref ag, .ref ax, .ref ao, .ref al, .ref av, .ref ae, .ref ar, .ref ad, .ref aW, .ref aS, .ref aN, .ref aR, .ref aG])] H := hP
  have hD : va_D A [(an, aI d 16 fn), (ak, aI d 48 fk), (h, ob 1 [.int (nI 0), .ref an, .ref ak, .int lt, .int se, .ref au, .int zs, .ref ap, .int mn, .ref aw, .int cz, .ref ac, .int ln, .int ft, .int gz, .ref ag, .ref ax, .ref ao, .ref al, .ref av, .ref ae, .ref ar, .ref ad, .ref aW, .ref aS, .ref aN, .ref aR, .ref aG])] := hD
  refine W.eq (g2 := F0 m 19 ls [.int (nI 0)]) rfl ?_
  refine lv_if_ne (tgt := 80) C.x C.b d_MD_turn2_19 (by decide) (fun h9 => by first | exact absurd h9 (by decide) | exact absurd (by decide) h9) (fun _ => ?_)
  refine lv_aload_n C.x C.b d_MD_turn2_22 rfl (lv_at hl 0 rfl) ?_
  refine lv_iload_n C.x C.b d_MD_turn2_23 rfl (lv_at hl 1 rfl) ?_
  refine lv_iconst (v := nI 1) C.x C.b d_MD_turn2_24 (by decide) ?_
  refine lv_icmp_ne (tgt := 35) C.x C.b d_MD_turn2_25 (by decide) (fun _ => ?_) (fun h9 => by first | exact absurd h9 (by decide) | exact absurd (by decide) h9)
  refine lv_aload_n C.x C.b d_MD_turn2_35 rfl (lv_at hl 0 rfl) ?_
  refine k_get C hP 2 rfl rfl i_MD 3 (by decide) m_655 rfl d_MD_turn2_36 ?_
  refine lv_if_eq (tgt := 50) C.x C.b d_MD_turn2_39 (by decide) (fun hc39 => ?_) (fun hc39 => ?_)
  · refine lv_iconst (v := nI 0) C.x C.b d_MD_turn2_50 (by decide) ?_
    refine k_put C hP hD hS 2 rfl rfl i_MD tk_MD n_MD 3 (by decide) m_655 rfl rfl rfl (Nat.le_of_ble_eq_true rfl) d_MD_turn2_51 (fun H locs hP hD hS => ?_)
    have hP : va_P d.1 clz [(an, aI d 16 fn), (ak, aI d 48 fk), (h, ob 1 [.int (nI 0), .ref an, .ref ak, .int (nI 0), .int se, .ref au, .int zs, .ref ap, .int mn, .ref aw, .int cz, .ref ac, .int ln, .int ft, .int gz, .ref ag, .ref ax, .ref ao, .ref al, .ref av, .ref ae, .ref ar, .ref ad, .ref aW, .ref aS, .ref aN, .ref aR, .ref aG])] H := hP
    have hD : va_D A [(an, aI d 16 fn), (ak, aI d 48 fk), (h, ob 1 [.int (nI 0), .ref an, .ref ak, .int (nI 0), .int se, .ref au, .int zs, .ref ap, .int mn, .ref aw, .int cz, .ref ac, .int ln, .int ft, .int gz, .ref ag, .ref ax, .ref ao, .ref al, .ref av, .ref ae, .ref ar, .ref ad, .ref aW, .ref aS, .ref aN, .ref aR, .ref aG])] := hD
    refine lv_aload_n C.x C.b d_MD_turn2_54 rfl (lv_at hl 0 rfl) ?_
    refine lv_iload_n C.x C.b d_MD_turn2_55 rfl (lv_at hl 1 rfl) ?_
    refine lv_if_ne (tgt := 63) C.x C.b d_MD_turn2_56 (by decide) (fun h9 => by first | exact absurd h9 (by decide) | exact absurd (by decide) h9) (fun _ => ?_)
    refine lv_iconst (v := nI 0) C.x C.b d_MD_turn2_59 (by decide) ?_
    refine lv_goto (tgt := 77) C.x C.b d_MD_turn2_60 (by decide) ?_
    refine k_callV (As := [.int (nI 0)]) (rest := []) (wc := [(h, ob 1 [.int (nI 0), .ref an, .ref ak, .int (nI 0), .int se, .ref au, .int zs, .ref ap, .int mn, .ref aw, .int cz, .ref ac, .int ln, .int ft, .int gz, .ref ag, .ref ax, .ref ao, .ref al, .ref av, .ref ae, .ref ar, .ref ad, .ref aW, .ref aS, .ref aN, .ref aR, .ref aG]), (an, aI d 16 fn), (ak, aI d 48 fk)]) (wr := []) C (c_MD_copyNext l d h an ak au ap aw ac ag ax ao al av ae ar ad aW aS aN aR aG (nI 0) (nI 0) se zs mn cz ln ft gz fn fk 0 (by omega)) mw_MD_copyNext ms_19 m_753 hP hD hS [2, 0, 1] [] rfl rfl (by decide) (by decide) (by decide) 2 rfl rfl rfl rfl hl.1 (Nat.le_of_ble_eq_true rfl) d_MD_turn2_77 ⟨Nat.le_of_ble_eq_true rfl, Nat.le_of_ble_eq_true rfl⟩ ⟨by decide, by decide⟩ (fun k2 H locs hk2 hP hD hS => ?_)
    have hP : va_P d.1 clz [(h, ob 1 [.int (nI 0), .ref an, .ref ak, .int (nI 0), .int se, .ref au, .int zs, .ref ap, .int mn, .ref aw, .int cz, .ref ac, .int ln, .int ft, .int gz, .ref ag, .ref ax, .ref ao, .ref al, .ref av, .ref ae, .ref ar, .ref ad, .ref aW, .ref aS, .ref aN, .ref aR, .ref aG]), (an, aI d 16 fn), (ak, aI d 48 k2)] H := hP
    have hD : va_D A [(h, ob 1 [.int (nI 0), .ref an, .ref ak, .int (nI 0), .int se, .ref au, .int zs, .ref ap, .int mn, .ref aw, .int cz, .ref ac, .int ln, .int ft, .int gz, .ref ag, .ref ax, .ref ao, .ref al, .ref av, .ref ae, .ref ar, .ref ad, .ref aW, .ref aS, .ref aN, .ref aR, .ref aG]), (an, aI d 16 fn), (ak, aI d 48 k2)] := hD
    refine W.eq (g2 := F0 m 80 ls []) rfl ?_
    have hk2 : (∀ j, j < 16 → k2 (0 + j) = fn j) ∧ ∀ j, (j < 0 ∨ 0 + 16 ≤ j) → k2 j = fk j := hk2
    have hP9 := hP.sub (ws' := [(h, ob 1 [.int (nI 0), .ref an, .ref ak, .int (nI 0), .int se, .ref au, .int zs, .ref ap, .int mn, .ref aw, .int cz, .ref ac, .int ln, .int ft, .int gz, .ref ag, .ref ax, .ref ao, .ref al, .ref av, .ref ae, .ref ar, .ref ad, .ref aW, .ref aS, .ref aN, .ref aR, .ref aG]), (an, aI d 16 fn), (ak, aI d 48 k2)]) [0, 1, 2] rfl
    have hD9 := hD.sub (ws' := [(h, ob 1 [.int (nI 0), .ref an, .ref ak, .int (nI 0), .int se, .ref au, .int zs, .ref ap, .int mn, .ref aw, .int cz, .ref ac, .int ln, .int ft, .int gz, .ref ag, .ref ax, .ref ao, .ref al, .ref av, .ref ae, .ref ar, .ref ad, .ref aW, .ref aS, .ref aN, .ref aR, .ref aG]), (an, aI d 16 fn), (ak, aI d 48 k2)]) [0, 1, 2] (by decide) rfl
    exact k_vret C hS (k2, nI 0) (rfl) (⟨by first | exact hc39.symm | (rcases hlt with q | q; exact absurd q hc39; exact q.symm), hk2⟩) hP9 hD9 d_MD_turn2_80
  · refine lv_iload_n C.x C.b d_MD_turn2_42 rfl (lv_at hl 1 rfl) ?_
    refine lv_if_ne (tgt := 50) C.x C.b d_MD_turn2_43 (by decide) (fun h9 => by first | exact absurd h9 (by decide) | exact absurd (by decide) h9) (fun _ => ?_)
    refine lv_iconst (v := nI 1) C.x C.b d_MD_turn2_46 (by decide) ?_
    refine lv_goto (tgt := 51) C.x C.b d_MD_turn2_47 (by decide) ?_
    refine k_put C hP hD hS 2 rfl rfl i_MD tk_MD n_MD 3 (by decide) m_655 rfl rfl rfl (Nat.le_of_ble_eq_true rfl) d_MD_turn2_51 (fun H locs hP hD hS => ?_)
    have hP : va_P d.1 clz [(an, aI d 16 fn), (ak, aI d 48 fk), (h, ob 1 [.int (nI 0), .ref an, .ref ak, .int (nI 1), .int se, .ref au, .int zs, .ref ap, .int mn, .ref aw, .int cz, .ref ac, .int ln, .int ft, .int gz, .ref ag, .ref ax, .ref ao, .ref al, .ref av, .ref ae, .ref ar, .ref ad, .ref aW, .ref aS, .ref aN, .ref aR, .ref aG])] H := hP
    have hD : va_D A [(an, aI d 16 fn), (ak, aI d 48 fk), (h, ob 1 [.int (nI 0), .ref an, .ref ak, .int (nI 1), .int se, .ref au, .int zs, .ref ap, .int mn, .ref aw, .int cz, .ref ac, .int ln, .int ft, .int gz, .ref ag, .ref ax, .ref ao, .ref al, .ref av, .ref ae, .ref ar, .ref ad, .ref aW, .ref aS, .ref aN, .ref aR, .ref aG])] := hD
    refine lv_aload_n C.x C.b d_MD_turn2_54 rfl (lv_at hl 0 rfl) ?_
    refine lv_iload_n C.x C.b d_MD_turn2_55 rfl (lv_at hl 1 rfl) ?_
    refine lv_if_ne (tgt := 63) C.x C.b d_MD_turn2_56 (by decide) (fun h9 => by first | exact absurd h9 (by decide) | exact absurd (by decide) h9) (fun _ => ?_)
    refine lv_iconst (v := nI 0) C.x C.b d_MD_turn2_59 (by decide) ?_
    refine lv_goto (tgt := 77) C.x C.b d_MD_turn2_60 (by decide) ?_
    refine k_callV (As := [.int (nI 0)]) (rest := []) (wc := [(h, ob 1 [.int (nI 0), .ref an, .ref ak, .int (nI 1), .int se, .ref au, .int zs, .ref ap, .int mn, .ref aw, .int cz, .ref ac, .int ln, .int ft, .int gz, .ref ag, .ref ax, .ref ao, .ref al, .ref av, .ref ae, .ref ar, .ref ad, .ref aW, .ref aS, .ref aN, .ref aR, .ref aG]), (an, aI d 16 fn), (ak, aI d 48 fk)]) (wr := []) C (c_MD_copyNext l d h an ak au ap aw ac ag ax ao al av ae ar ad aW aS aN aR aG (nI 0) (nI 1) se zs mn cz ln ft gz fn fk 0 (by omega)) mw_MD_copyNext ms_19 m_753 hP hD hS [2, 0, 1] [] rfl rfl (by decide) (by decide) (by decide) 2 rfl rfl rfl rfl hl.1 (Nat.le_of_ble_eq_true rfl) d_MD_turn2_77 ⟨Nat.le_of_ble_eq_true rfl, Nat.le_of_ble_eq_true rfl⟩ ⟨by decide, by decide⟩ (fun k2 H locs hk2 hP hD hS => ?_)
    have hP : va_P d.1 clz [(h, ob 1 [.int (nI 0), .ref an, .ref ak, .int (nI 1), .int se, .ref au, .int zs, .ref ap, .int mn, .ref aw, .int cz, .ref ac, .int ln, .int ft, .int gz, .ref ag, .ref ax, .ref ao, .ref al, .ref av, .ref ae, .ref ar, .ref ad, .ref aW, .ref aS, .ref aN, .ref aR, .ref aG]), (an, aI d 16 fn), (ak, aI d 48 k2)] H := hP
    have hD : va_D A [(h, ob 1 [.int (nI 0), .ref an, .ref ak, .int (nI 1), .int se, .ref au, .int zs, .ref ap, .int mn, .ref aw, .int cz, .ref ac, .int ln, .int ft, .int gz, .ref ag, .ref ax, .ref ao, .ref al, .ref av, .ref ae, .ref ar, .ref ad, .ref aW, .ref aS, .ref aN, .ref aR, .ref aG]), (an, aI d 16 fn), (ak, aI d 48 k2)] := hD
    refine W.eq (g2 := F0 m 80 ls []) rfl ?_
    have hk2 : (∀ j, j < 16 → k2 (0 + j) = fn j) ∧ ∀ j, (j < 0 ∨ 0 + 16 ≤ j) → k2 j = fk j := hk2
    have hP9 := hP.sub (ws' := [(h, ob 1 [.int (nI 0), .ref an, .ref ak, .int (nI 1), .int se, .ref au, .int zs, .ref ap, .int mn, .ref aw, .int cz, .ref ac, .int ln, .int ft, .int gz, .ref ag, .ref ax, .ref ao, .ref al, .ref av, .ref ae, .ref ar, .ref ad, .ref aW, .ref aS, .ref aN, .ref aR, .ref aG]), (an, aI d 16 fn), (ak, aI d 48 k2)]) [0, 1, 2] rfl
    have hD9 := hD.sub (ws' := [(h, ob 1 [.int (nI 0), .ref an, .ref ak, .int (nI 1), .int se, .ref au, .int zs, .ref ap, .int mn, .ref aw, .int cz, .ref ac, .int ln, .int ft, .int gz, .ref ag, .ref ax, .ref ao, .ref al, .ref av, .ref ae, .ref ar, .ref ad, .ref aW, .ref aS, .ref aN, .ref aR, .ref aG]), (an, aI d 16 fn), (ak, aI d 48 k2)]) [0, 1, 2] (by decide) rfl
    exact k_vret C hS (k2, nI 1) (rfl) (⟨by first | exact hc39.symm | (rcases hlt with q | q; exact absurd q hc39; exact q.symm), hk2⟩) hP9 hD9 d_MD_turn2_80
set_option maxHeartbeats 4000000 in
set_option maxRecDepth 100000 in
theorem c_MD_turn21 (l : Launch) (d : DD) (h : Nat) (an : Nat) (ak : Nat) (au : Nat) (ap : Nat) (aw : Nat) (ac : Nat) (ag : Nat) (ax : Nat) (ao : Nat) (al : Nat) (av : Nat) (ae : Nat) (ar : Nat) (ad : Nat) (aW : Nat) (aS : Nat) (aN : Nat) (aR : Nat) (aG : Nat) (th : Int32) (lt : Int32) (se : Int32) (zs : Int32) (mn : Int32) (cz : Int32) (ln : Int32) (ft : Int32) (gz : Int32) (fn : Nat → Int32) (fk : Nat → Int32) (hse : se = 0) : Ct l y_MD_turn2 b_MD_turn2 2 none 1 22 0 0 d [(h, ob 1 [.int th, .ref an, .ref ak, .int lt, .int se, .ref au, .int zs, .ref ap, .int mn, .ref aw, .int cz, .ref ac, .int ln, .int ft, .int gz, .ref ag, .ref ax, .ref ao, .ref al, .ref av, .ref ae, .ref ar, .ref ad, .ref aW, .ref aS, .ref aN, .ref aR, .ref aG]), (an, aI d 16 fn), (ak, aI d 48 fk)] [.ref h, .int (nI 1)] (fun (k2 : Nat → Int32) => none) (fun (k2 : Nat → Int32) => (∀ j, j < 16 → k2 (16 + j) = fn j) ∧ ∀ j, (j < 16 ∨ 16 + 16 ≤ j) → k2 j = fk j) (fun (k2 : Nat → Int32) => [(h, ob 1 [.int (nI 0), .ref an, .ref ak, .int (nI 0), .int se, .ref au, .int zs, .ref ap, .int mn, .ref aw, .int cz, .ref ac, .int ln, .int ft, .int gz, .ref ag, .ref ax, .ref ao, .ref al, .ref av, .ref ae, .ref ar, .ref ad, .ref aW, .ref aS, .ref aN, .ref aR, .ref aG]), (an, aI d 16 fn), (ak, aI d 48 k2)]) := by
  refine Ct.of (by decide +kernel) (Nat.le_of_ble_eq_true rfl) ?_
  intro p e s m below meth c A ls C hP hD hS hl
  have hl : lv_has ls 2 [(0, .ref h), (1, .int (nI 1))] := hl
  have hsz9 := hS.1
  refine lv_aload_n C.x C.b d_MD_turn2_0 rfl (lv_at hl 0 rfl) ?_
  refine lv_iload_n C.x C.b d_MD_turn2_1 rfl (lv_at hl 1 rfl) ?_
  refine lv_if_lt (tgt := 10) C.x C.b d_MD_turn2_2 (by decide) (fun h9 => by first | exact absurd h9 (by decide) | exact absurd (by decide) h9) (fun _ => ?_)
  refine lv_iload_n C.x C.b d_MD_turn2_5 rfl (lv_at hl 1 rfl) ?_
  refine lv_iconst (v := nI 1) C.x C.b d_MD_turn2_6 (by decide) ?_
  refine lv_icmp_le (tgt := 14) C.x C.b d_MD_turn2_7 (by decide) (fun _ => ?_) (fun h9 => by first | exact absurd h9 (by decide) | exact absurd (by decide) h9)
  refine lv_iconst (v := nI 0) C.x C.b d_MD_turn2_14 (by decide) ?_
  refine lv_iconst (v := nI 0) C.x C.b d_MD_turn2_15 (by decide) ?_
  refine k_callV (As := [.int (nI 0), .int (nI 0)]) (rest := []) (wc := [(h, ob 1 [.int th, .ref an, .ref ak, .int lt, .int se, .ref au, .int zs, .ref ap, .int mn, .ref aw, .int cz, .ref ac, .int ln, .int ft, .int gz, .ref ag, .ref ax, .ref ao, .ref al, .ref av, .ref ae, .ref ar, .ref ad, .ref aW, .ref aS, .ref aN, .ref aR, .ref aG])]) (wr := [(an, aI d 16 fn), (ak, aI d 48 fk)]) C (c_MD_refused0 l d h an ak au ap aw ac ag ax ao al av ae ar ad aW aS aN aR aG th lt se zs mn cz ln ft gz) mw_MD_refused ms_18 m_745 hP hD hS [0] [1, 2] rfl rfl (by decide) (by decide) (by decide) 0 rfl rfl rfl rfl hl.1 (Nat.le_of_ble_eq_true rfl) d_MD_turn2_16 ⟨Nat.le_of_ble_eq_true rfl, Nat.le_of_ble_eq_true rfl⟩ ⟨by decide, by decide⟩ (fun _ H locs hw_1 hP hD hS => ?_)
  have hP : va_P d.1 clz [(an, aI d 16 fn), (ak, aI d 48 fk), (h, ob 1 [.int (nI 0), .ref an, .ref ak, .int lt, .int se, .ref au, .int zs, .ref ap, .int mn, .ref aw, .int cz, .ref ac, .int ln, .int ft, .int gz, .ref ag, .ref ax, .ref ao, .ref al, .ref av, .ref ae, .ref ar, .ref ad, .ref aW, .ref aS, .ref aN, .ref aR, .ref aG])] H := hP
  have hD : va_D A [(an, aI d 16 fn), (ak, aI d 48 fk), (h, ob 1 [.int (nI 0), .ref an, .ref ak, .int lt, .int se, .ref au, .int zs, .ref ap, .int mn, .ref aw, .int cz, .ref ac, .int ln, .int ft, .int gz, .ref ag, .ref ax, .ref ao, .ref al, .ref av, .ref ae, .ref ar, .ref ad, .ref aW, .ref aS, .ref aN, .ref aR, .ref aG])] := hD
  refine W.eq (g2 := F0 m 19 ls [.int (nI 0)]) rfl ?_
  refine lv_if_ne (tgt := 80) C.x C.b d_MD_turn2_19 (by decide) (fun h9 => by first | exact absurd h9 (by decide) | exact absurd (by decide) h9) (fun _ => ?_)
  refine lv_aload_n C.x C.b d_MD_turn2_22 rfl (lv_at hl 0 rfl) ?_
  refine lv_iload_n C.x C.b d_MD_turn2_23 rfl (lv_at hl 1 rfl) ?_
  refine lv_iconst (v := nI 1) C.x C.b d_MD_turn2_24 (by decide) ?_
  refine lv_icmp_ne (tgt := 35) C.x C.b d_MD_turn2_25 (by decide) (fun h9 => by first | exact absurd h9 (by decide) | exact absurd (by decide) h9) (fun _ => ?_)
  refine lv_aload_n C.x C.b d_MD_turn2_28 rfl (lv_at hl 0 rfl) ?_
  refine k_get C hP 2 rfl rfl i_MD 4 (by decide) m_656 rfl d_MD_turn2_29 ?_
  refine lv_if_ne (tgt := 46) C.x C.b d_MD_turn2_32 (by decide) (fun h9 => False.elim (h9 hse)) (fun hc_2 => ?_)
  refine lv_aload_n C.x C.b d_MD_turn2_35 rfl (lv_at hl 0 rfl) ?_
  refine k_get C hP 2 rfl rfl i_MD 3 (by decide) m_655 rfl d_MD_turn2_36 ?_
  refine lv_if_eq (tgt := 50) C.x C.b d_MD_turn2_39 (by decide) (fun hc_3 => ?_) (fun hc_3 => ?_)
  · refine lv_iconst (v := nI 0) C.x C.b d_MD_turn2_50 (by decide) ?_
    refine k_put C hP hD hS 2 rfl rfl i_MD tk_MD n_MD 3 (by decide) m_655 rfl rfl rfl (Nat.le_of_ble_eq_true rfl) d_MD_turn2_51 (fun H locs hP hD hS => ?_)
    have hP : va_P d.1 clz [(an, aI d 16 fn), (ak, aI d 48 fk), (h, ob 1 [.int (nI 0), .ref an, .ref ak, .int (nI 0), .int se, .ref au, .int zs, .ref ap, .int mn, .ref aw, .int cz, .ref ac, .int ln, .int ft, .int gz, .ref ag, .ref ax, .ref ao, .ref al, .ref av, .ref ae, .ref ar, .ref ad, .ref aW, .ref aS, .ref aN, .ref aR, .ref aG])] H := hP
    have hD : va_D A [(an, aI d 16 fn), (ak, aI d 48 fk), (h, ob 1 [.int (nI 0), .ref an, .ref ak, .int (nI 0), .int se, .ref au, .int zs, .ref ap, .int mn, .ref aw, .int cz, .ref ac, .int ln, .int ft, .int gz, .ref ag, .ref ax, .ref ao, .ref al, .ref av, .ref ae, .ref ar, .ref ad, .ref aW, .ref aS, .ref aN, .ref aR, .ref aG])] := hD
    refine lv_aload_n C.x C.b d_MD_turn2_54 rfl (lv_at hl 0 rfl) ?_
    refine lv_iload_n C.x C.b d_MD_turn2_55 rfl (lv_at hl 1 rfl) ?_
    refine lv_if_ne (tgt := 63) C.x C.b d_MD_turn2_56 (by decide) (fun _ => ?_) (fun h9 => by first | exact absurd h9 (by decide) | exact absurd (by decide) h9)
    refine lv_aload_n C.x C.b d_MD_turn2_63 rfl (lv_at hl 0 rfl) ?_
    refine k_get C hP 2 rfl rfl i_MD 4 (by decide) m_656 rfl d_MD_turn2_64 ?_
    refine lv_if_eq (tgt := 75) C.x C.b d_MD_turn2_67 (by decide) (fun hc_4 => ?_) (fun h9 => False.elim (h9 hse))
    refine lv_bipush (v := nI 16) C.x C.b d_MD_turn2_75 (by decide) ?_
    refine k_callV (As := [.int (nI 16)]) (rest := []) (wc := [(h, ob 1 [.int (nI 0), .ref an, .ref ak, .int (nI 0), .int se, .ref au, .int zs, .ref ap, .int mn, .ref aw, .int cz, .ref ac, .int ln, .int ft, .int gz, .ref ag, .ref ax, .ref ao, .ref al, .ref av, .ref ae, .ref ar, .ref ad, .ref aW, .ref aS, .ref aN, .ref aR, .ref aG]), (an, aI d 16 fn), (ak, aI d 48 fk)]) (wr := []) C (c_MD_copyNext l d h an ak au ap aw ac ag ax ao al av ae ar ad aW aS aN aR aG (nI 0) (nI 0) se zs mn cz ln ft gz fn fk 16 (by omega)) mw_MD_copyNext ms_19 m_753 hP hD hS [2, 0, 1] [] rfl rfl (by decide) (by decide) (by decide) 2 rfl rfl rfl rfl hl.1 (Nat.le_of_ble_eq_true rfl) d_MD_turn2_77 ⟨Nat.le_of_ble_eq_true rfl, Nat.le_of_ble_eq_true rfl⟩ ⟨by decide, by decide⟩ (fun k2 H locs hk2 hP hD hS => ?_)
    have hP : va_P d.1 clz [(h, ob 1 [.int (nI 0), .ref an, .ref ak, .int (nI 0), .int se, .ref au, .int zs, .ref ap, .int mn, .ref aw, .int cz, .ref ac, .int ln, .int ft, .int gz, .ref ag, .ref ax, .ref ao, .ref al, .ref av, .ref ae, .ref ar, .ref ad, .ref aW, .ref aS, .ref aN, .ref aR, .ref aG]), (an, aI d 16 fn), (ak, aI d 48 k2)] H := hP
    have hD : va_D A [(h, ob 1 [.int (nI 0), .ref an, .ref ak, .int (nI 0), .int se, .ref au, .int zs, .ref ap, .int mn, .ref aw, .int cz, .ref ac, .int ln, .int ft, .int gz, .ref ag, .ref ax, .ref ao, .ref al, .ref av, .ref ae, .ref ar, .ref ad, .ref aW, .ref aS, .ref aN, .ref aR, .ref aG]), (an, aI d 16 fn), (ak, aI d 48 k2)] := hD
    refine W.eq (g2 := F0 m 80 ls []) rfl ?_
    have hk2 : (∀ j, j < 16 → k2 (16 + j) = fn j) ∧ ∀ j, (j < 16 ∨ 16 + 16 ≤ j) → k2 j = fk j := hk2
    have hP9 := hP.sub (ws' := [(h, ob 1 [.int (nI 0), .ref an, .ref ak, .int (nI 0), .int se, .ref au, .int zs, .ref ap, .int mn, .ref aw, .int cz, .ref ac, .int ln, .int ft, .int gz, .ref ag, .ref ax, .ref ao, .ref al, .ref av, .ref ae, .ref ar, .ref ad, .ref aW, .ref aS, .ref aN, .ref aR, .ref aG]), (an, aI d 16 fn), (ak, aI d 48 k2)]) [0, 1, 2] rfl
    have hD9 := hD.sub (ws' := [(h, ob 1 [.int (nI 0), .ref an, .ref ak, .int (nI 0), .int se, .ref au, .int zs, .ref ap, .int mn, .ref aw, .int cz, .ref ac, .int ln, .int ft, .int gz, .ref ag, .ref ax, .ref ao, .ref al, .ref av, .ref ae, .ref ar, .ref ad, .ref aW, .ref aS, .ref aN, .ref aR, .ref aG]), (an, aI d 16 fn), (ak, aI d 48 k2)]) [0, 1, 2] (by decide) rfl
    exact k_vret C hS k2 (rfl) (hk2) hP9 hD9 d_MD_turn2_80
  · refine lv_iload_n C.x C.b d_MD_turn2_42 rfl (lv_at hl 1 rfl) ?_
    refine lv_if_ne (tgt := 50) C.x C.b d_MD_turn2_43 (by decide) (fun _ => ?_) (fun h9 => by first | exact absurd h9 (by decide) | exact absurd (by decide) h9)
    refine lv_iconst (v := nI 0) C.x C.b d_MD_turn2_50 (by decide) ?_
    refine k_put C hP hD hS 2 rfl rfl i_MD tk_MD n_MD 3 (by decide) m_655 rfl rfl rfl (Nat.le_of_ble_eq_true rfl) d_MD_turn2_51 (fun H locs hP hD hS => ?_)
    have hP : va_P d.1 clz [(an, aI d 16 fn), (ak, aI d 48 fk), (h, ob 1 [.int (nI 0), .ref an, .ref ak, .int (nI 0), .int se, .ref au, .int zs, .ref ap, .int mn, .ref aw, .int cz, .ref ac, .int ln, .int ft, .int gz, .ref ag, .ref ax, .ref ao, .ref al, .ref av, .ref ae, .ref ar, .ref ad, .ref aW, .ref aS, .ref aN, .ref aR, .ref aG])] H := hP
    have hD : va_D A [(an, aI d 16 fn), (ak, aI d 48 fk), (h, ob 1 [.int (nI 0), .ref an, .ref ak, .int (nI 0), .int se, .ref au, .int zs, .ref ap, .int mn, .ref aw, .int cz, .ref ac, .int ln, .int ft, .int gz, .ref ag, .ref ax, .ref ao, .ref al, .ref av, .ref ae, .ref ar, .ref ad, .ref aW, .ref aS, .ref aN, .ref aR, .ref aG])] := hD
    refine lv_aload_n C.x C.b d_MD_turn2_54 rfl (lv_at hl 0 rfl) ?_
    refine lv_iload_n C.x C.b d_MD_turn2_55 rfl (lv_at hl 1 rfl) ?_
    refine lv_if_ne (tgt := 63) C.x C.b d_MD_turn2_56 (by decide) (fun _ => ?_) (fun h9 => by first | exact absurd h9 (by decide) | exact absurd (by decide) h9)
    refine lv_aload_n C.x C.b d_MD_turn2_63 rfl (lv_at hl 0 rfl) ?_
    refine k_get C hP 2 rfl rfl i_MD 4 (by decide) m_656 rfl d_MD_turn2_64 ?_
    refine lv_if_eq (tgt := 75) C.x C.b d_MD_turn2_67 (by decide) (fun hc_7 => ?_) (fun h9 => False.elim (h9 hse))
    refine lv_bipush (v := nI 16) C.x C.b d_MD_turn2_75 (by decide) ?_
    refine k_callV (As := [.int (nI 16)]) (rest := []) (wc := [(h, ob 1 [.int (nI 0), .ref an, .ref ak, .int (nI 0), .int se, .ref au, .int zs, .ref ap, .int mn, .ref aw, .int cz, .ref ac, .int ln, .int ft, .int gz, .ref ag, .ref ax, .ref ao, .ref al, .ref av, .ref ae, .ref ar, .ref ad, .ref aW, .ref aS, .ref aN, .ref aR, .ref aG]), (an, aI d 16 fn), (ak, aI d 48 fk)]) (wr := []) C (c_MD_copyNext l d h an ak au ap aw ac ag ax ao al av ae ar ad aW aS aN aR aG (nI 0) (nI 0) se zs mn cz ln ft gz fn fk 16 (by omega)) mw_MD_copyNext ms_19 m_753 hP hD hS [2, 0, 1] [] rfl rfl (by decide) (by decide) (by decide) 2 rfl rfl rfl rfl hl.1 (Nat.le_of_ble_eq_true rfl) d_MD_turn2_77 ⟨Nat.le_of_ble_eq_true rfl, Nat.le_of_ble_eq_true rfl⟩ ⟨by decide, by decide⟩ (fun k2 H locs hk2 hP hD hS => ?_)
    have hP : va_P d.1 clz [(h, ob 1 [.int (nI 0), .ref an, .ref ak, .int (nI 0), .int se, .ref au, .int zs, .ref ap, .int mn, .ref aw, .int cz, .ref ac, .int ln, .int ft, .int gz, .ref ag, .ref ax, .ref ao, .ref al, .ref av, .ref ae, .ref ar, .ref ad, .ref aW, .ref aS, .ref aN, .ref aR, .ref aG]), (an, aI d 16 fn), (ak, aI d 48 k2)] H := hP
    have hD : va_D A [(h, ob 1 [.int (nI 0), .ref an, .ref ak, .int (nI 0), .int se, .ref au, .int zs, .ref ap, .int mn, .ref aw, .int cz, .ref ac, .int ln, .int ft, .int gz, .ref ag, .ref ax, .ref ao, .ref al, .ref av, .ref ae, .ref ar, .ref ad, .ref aW, .ref aS, .ref aN, .ref aR, .ref aG]), (an, aI d 16 fn), (ak, aI d 48 k2)] := hD
    refine W.eq (g2 := F0 m 80 ls []) rfl ?_
    have hk2 : (∀ j, j < 16 → k2 (16 + j) = fn j) ∧ ∀ j, (j < 16 ∨ 16 + 16 ≤ j) → k2 j = fk j := hk2
    have hP9 := hP.sub (ws' := [(h, ob 1 [.int (nI 0), .ref an, .ref ak, .int (nI 0), .int se, .ref au, .int zs, .ref ap, .int mn, .ref aw, .int cz, .ref ac, .int ln, .int ft, .int gz, .ref ag, .ref ax, .ref ao, .ref al, .ref av, .ref ae, .ref ar, .ref ad, .ref aW, .ref aS, .ref aN, .ref aR, .ref aG]), (an, aI d 16 fn), (ak, aI d 48 k2)]) [0, 1, 2] rfl
    have hD9 := hD.sub (ws' := [(h, ob 1 [.int (nI 0), .ref an, .ref ak, .int (nI 0), .int se, .ref au, .int zs, .ref ap, .int mn, .ref aw, .int cz, .ref ac, .int ln, .int ft, .int gz, .ref ag, .ref ax, .ref ao, .ref al, .ref av, .ref ae, .ref ar, .ref ad, .ref aW, .ref aS, .ref aN, .ref aR, .ref aG]), (an, aI d 16 fn), (ak, aI d 48 k2)]) [0, 1, 2] (by decide) rfl
    exact k_vret C hS k2 (rfl) (hk2) hP9 hD9 d_MD_turn2_80
set_option maxHeartbeats 4000000 in
set_option maxRecDepth 100000 in
theorem c_MD_turn22 (l : Launch) (d : DD) (h : Nat) (an : Nat) (ak : Nat) (au : Nat) (ap : Nat) (aw : Nat) (ac : Nat) (ag : Nat) (ax : Nat) (ao : Nat) (al : Nat) (av : Nat) (ae : Nat) (ar : Nat) (ad : Nat) (aW : Nat) (aS : Nat) (aN : Nat) (aR : Nat) (aG : Nat) (th : Int32) (lt : Int32) (se : Int32) (zs : Int32) (mn : Int32) (cz : Int32) (ln : Int32) (ft : Int32) (gz : Int32) (fn : Nat → Int32) (fk : Nat → Int32) (hse : ¬ se = 0) : Ct l y_MD_turn2 b_MD_turn2 2 none 1 22 0 0 d [(h, ob 1 [.int th, .ref an, .ref ak, .int lt, .int se, .ref au, .int zs, .ref ap, .int mn, .ref aw, .int cz, .ref ac, .int ln, .int ft, .int gz, .ref ag, .ref ax, .ref ao, .ref al, .ref av, .ref ae, .ref ar, .ref ad, .ref aW, .ref aS, .ref aN, .ref aR, .ref aG]), (an, aI d 16 fn), (ak, aI d 48 fk)] [.ref h, .int (nI 1)] (fun (k2 : Nat → Int32) => none) (fun (k2 : Nat → Int32) => (∀ j, j < 16 → k2 (32 + j) = fn j) ∧ ∀ j, (j < 32 ∨ 32 + 16 ≤ j) → k2 j = fk j) (fun (k2 : Nat → Int32) => [(h, ob 1 [.int (nI 0), .ref an, .ref ak, .int (nI 1), .int se, .ref au, .int zs, .ref ap, .int mn, .ref aw, .int cz, .ref ac, .int ln, .int ft, .int gz, .ref ag, .ref ax, .ref ao, .ref al, .ref av, .ref ae, .ref ar, .ref ad, .ref aW, .ref aS, .ref aN, .ref aR, .ref aG]), (an, aI d 16 fn), (ak, aI d 48 k2)]) := by
  refine Ct.of (by decide +kernel) (Nat.le_of_ble_eq_true rfl) ?_
  intro p e s m below meth c A ls C hP hD hS hl
  have hl : lv_has ls 2 [(0, .ref h), (1, .int (nI 1))] := hl
  have hsz9 := hS.1
  refine lv_aload_n C.x C.b d_MD_turn2_0 rfl (lv_at hl 0 rfl) ?_
  refine lv_iload_n C.x C.b d_MD_turn2_1 rfl (lv_at hl 1 rfl) ?_
  refine lv_if_lt (tgt := 10) C.x C.b d_MD_turn2_2 (by decide) (fun h9 => by first | exact absurd h9 (by decide) | exact absurd (by decide) h9) (fun _ => ?_)
  refine lv_iload_n C.x C.b d_MD_turn2_5 rfl (lv_at hl 1 rfl) ?_
  refine lv_iconst (v := nI 1) C.x C.b d_MD_turn2_6 (by decide) ?_
  refine lv_icmp_le (tgt := 14) C.x C.b d_MD_turn2_7 (by decide) (fun _ => ?_) (fun h9 => by first | exact absurd h9 (by decide) | exact absurd (by decide) h9)
  refine lv_iconst (v := nI 0) C.x C.b d_MD_turn2_14 (by decide) ?_
  refine lv_iconst (v := nI 0) C.x C.b d_MD_turn2_15 (by decide) ?_
  refine k_callV (As := [.int (nI 0), .int (nI 0)]) (rest := []) (wc := [(h, ob 1 [.int th, .ref an, .ref ak, .int lt, .int se, .ref au, .int zs, .ref ap, .int mn, .ref aw, .int cz, .ref ac, .int ln, .int ft, .int gz, .ref ag, .ref ax, .ref ao, .ref al, .ref av, .ref ae, .ref ar, .ref ad, .ref aW, .ref aS, .ref aN, .ref aR, .ref aG])]) (wr := [(an, aI d 16 fn), (ak, aI d 48 fk)]) C (c_MD_refused0 l d h an ak au ap aw ac ag ax ao al av ae ar ad aW aS aN aR aG th lt se zs mn cz ln ft gz) mw_MD_refused ms_18 m_745 hP hD hS [0] [1, 2] rfl rfl (by decide) (by decide) (by decide) 0 rfl rfl rfl rfl hl.1 (Nat.le_of_ble_eq_true rfl) d_MD_turn2_16 ⟨Nat.le_of_ble_eq_true rfl, Nat.le_of_ble_eq_true rfl⟩ ⟨by decide, by decide⟩ (fun _ H locs hw_1 hP hD hS => ?_)
  have hP : va_P d.1 clz [(an, aI d 16 fn), (ak, aI d 48 fk), (h, ob 1 [.int (nI 0), .ref an, .ref ak, .int lt, .int se, .ref au, .int zs, .ref ap, .int mn, .ref aw, .int cz, .ref ac, .int ln, .int ft, .int gz, .ref ag, .ref ax, .ref ao, .ref al, .ref av, .ref ae, .ref ar, .ref ad, .ref aW, .ref aS, .ref aN, .ref aR, .ref aG])] H := hP
  have hD : va_D A [(an, aI d 16 fn), (ak, aI d 48 fk), (h, ob 1 [.int (nI 0), .ref an, .ref ak, .int lt, .int se, .ref au, .int zs, .ref ap, .int mn, .ref aw, .int cz, .ref ac, .int ln, .int ft, .int gz, .ref ag, .ref ax, .ref ao, .ref al, .ref av, .ref ae, .ref ar, .ref ad, .ref aW, .ref aS, .ref aN, .ref aR, .ref aG])] := hD
  refine W.eq (g2 := F0 m 19 ls [.int (nI 0)]) rfl ?_
  refine lv_if_ne (tgt := 80) C.x C.b d_MD_turn2_19 (by decide) (fun h9 => by first | exact absurd h9 (by decide) | exact absurd (by decide) h9) (fun _ => ?_)
  refine lv_aload_n C.x C.b d_MD_turn2_22 rfl (lv_at hl 0 rfl) ?_
  refine lv_iload_n C.x C.b d_MD_turn2_23 rfl (lv_at hl 1 rfl) ?_
  refine lv_iconst (v := nI 1) C.x C.b d_MD_turn2_24 (by decide) ?_
  refine lv_icmp_ne (tgt := 35) C.x C.b d_MD_turn2_25 (by decide) (fun h9 => by first | exact absurd h9 (by decide) | exact absurd (by decide) h9) (fun _ => ?_)
  refine lv_aload_n C.x C.b d_MD_turn2_28 rfl (lv_at hl 0 rfl) ?_
  refine k_get C hP 2 rfl rfl i_MD 4 (by decide) m_656 rfl d_MD_turn2_29 ?_
  refine lv_if_ne (tgt := 46) C.x C.b d_MD_turn2_32 (by decide) (fun hc_2 => ?_) (fun h9 => False.elim (hse h9))
  refine lv_iconst (v := nI 1) C.x C.b d_MD_turn2_46 (by decide) ?_
  refine lv_goto (tgt := 51) C.x C.b d_MD_turn2_47 (by decide) ?_
  refine k_put C hP hD hS 2 rfl rfl i_MD tk_MD n_MD 3 (by decide) m_655 rfl rfl rfl (Nat.le_of_ble_eq_true rfl) d_MD_turn2_51 (fun H locs hP hD hS => ?_)
  have hP : va_P d.1 clz [(an, aI d 16 fn), (ak, aI d 48 fk), (h, ob 1 [.int (nI 0), .ref an, .ref ak, .int (nI 1), .int se, .ref au, .int zs, .ref ap, .int mn, .ref aw, .int cz, .ref ac, .int ln, .int ft, .int gz, .ref ag, .ref ax, .ref ao, .ref al, .ref av, .ref ae, .ref ar, .ref ad, .ref aW, .ref aS, .ref aN, .ref aR, .ref aG])] H := hP
  have hD : va_D A [(an, aI d 16 fn), (ak, aI d 48 fk), (h, ob 1 [.int (nI 0), .ref an, .ref ak, .int (nI 1), .int se, .ref au, .int zs, .ref ap, .int mn, .ref aw, .int cz, .ref ac, .int ln, .int ft, .int gz, .ref ag, .ref ax, .ref ao, .ref al, .ref av, .ref ae, .ref ar, .ref ad, .ref aW, .ref aS, .ref aN, .ref aR, .ref aG])] := hD
  refine lv_aload_n C.x C.b d_MD_turn2_54 rfl (lv_at hl 0 rfl) ?_
  refine lv_iload_n C.x C.b d_MD_turn2_55 rfl (lv_at hl 1 rfl) ?_
  refine lv_if_ne (tgt := 63) C.x C.b d_MD_turn2_56 (by decide) (fun _ => ?_) (fun h9 => by first | exact absurd h9 (by decide) | exact absurd (by decide) h9)
  refine lv_aload_n C.x C.b d_MD_turn2_63 rfl (lv_at hl 0 rfl) ?_
  refine k_get C hP 2 rfl rfl i_MD 4 (by decide) m_656 rfl d_MD_turn2_64 ?_
  refine lv_if_eq (tgt := 75) C.x C.b d_MD_turn2_67 (by decide) (fun h9 => False.elim (hse h9)) (fun hc_3 => ?_)
  refine lv_bipush (v := nI 32) C.x C.b d_MD_turn2_70 (by decide) ?_
  refine lv_goto (tgt := 77) C.x C.b d_MD_turn2_72 (by decide) ?_
  refine k_callV (As := [.int (nI 32)]) (rest := []) (wc := [(h, ob 1 [.int (nI 0), .ref an, .ref ak, .int (nI 1), .int se, .ref au, .int zs, .ref ap, .int mn, .ref aw, .int cz, .ref ac, .int ln, .int ft, .int gz, .ref ag, .ref ax, .ref ao, .ref al, .ref av, .ref ae, .ref ar, .ref ad, .ref aW, .ref aS, .ref aN, .ref aR, .ref aG]), (an, aI d 16 fn), (ak, aI d 48 fk)]) (wr := []) C (c_MD_copyNext l d h an ak au ap aw ac ag ax ao al av ae ar ad aW aS aN aR aG (nI 0) (nI 1) se zs mn cz ln ft gz fn fk 32 (by omega)) mw_MD_copyNext ms_19 m_753 hP hD hS [2, 0, 1] [] rfl rfl (by decide) (by decide) (by decide) 2 rfl rfl rfl rfl hl.1 (Nat.le_of_ble_eq_true rfl) d_MD_turn2_77 ⟨Nat.le_of_ble_eq_true rfl, Nat.le_of_ble_eq_true rfl⟩ ⟨by decide, by decide⟩ (fun k2 H locs hk2 hP hD hS => ?_)
  have hP : va_P d.1 clz [(h, ob 1 [.int (nI 0), .ref an, .ref ak, .int (nI 1), .int se, .ref au, .int zs, .ref ap, .int mn, .ref aw, .int cz, .ref ac, .int ln, .int ft, .int gz, .ref ag, .ref ax, .ref ao, .ref al, .ref av, .ref ae, .ref ar, .ref ad, .ref aW, .ref aS, .ref aN, .ref aR, .ref aG]), (an, aI d 16 fn), (ak, aI d 48 k2)] H := hP
  have hD : va_D A [(h, ob 1 [.int (nI 0), .ref an, .ref ak, .int (nI 1), .int se, .ref au, .int zs, .ref ap, .int mn, .ref aw, .int cz, .ref ac, .int ln, .int ft, .int gz, .ref ag, .ref ax, .ref ao, .ref al, .ref av, .ref ae, .ref ar, .ref ad, .ref aW, .ref aS, .ref aN, .ref aR, .ref aG]), (an, aI d 16 fn), (ak, aI d 48 k2)] := hD
  refine W.eq (g2 := F0 m 80 ls []) rfl ?_
  have hk2 : (∀ j, j < 16 → k2 (32 + j) = fn j) ∧ ∀ j, (j < 32 ∨ 32 + 16 ≤ j) → k2 j = fk j := hk2
  have hP9 := hP.sub (ws' := [(h, ob 1 [.int (nI 0), .ref an, .ref ak, .int (nI 1), .int se, .ref au, .int zs, .ref ap, .int mn, .ref aw, .int cz, .ref ac, .int ln, .int ft, .int gz, .ref ag, .ref ax, .ref ao, .ref al, .ref av, .ref ae, .ref ar, .ref ad, .ref aW, .ref aS, .ref aN, .ref aR, .ref aG]), (an, aI d 16 fn), (ak, aI d 48 k2)]) [0, 1, 2] rfl
  have hD9 := hD.sub (ws' := [(h, ob 1 [.int (nI 0), .ref an, .ref ak, .int (nI 1), .int se, .ref au, .int zs, .ref ap, .int mn, .ref aw, .int cz, .ref ac, .int ln, .int ft, .int gz, .ref ag, .ref ax, .ref ao, .ref al, .ref av, .ref ae, .ref ar, .ref ad, .ref aW, .ref aS, .ref aN, .ref aR, .ref aG]), (an, aI d 16 fn), (ak, aI d 48 k2)]) [0, 1, 2] (by decide) rfl
  exact k_vret C hS k2 (rfl) (hk2) hP9 hD9 d_MD_turn2_80
set_option maxHeartbeats 4000000 in
set_option maxRecDepth 100000 in
theorem c_MD_turn2X (l : Launch) (d : DD) (h : Nat) (an : Nat) (ak : Nat) (au : Nat) (ap : Nat) (aw : Nat) (ac : Nat) (ag : Nat) (ax : Nat) (ao : Nat) (al : Nat) (av : Nat) (ae : Nat) (ar : Nat) (ad : Nat) (aW : Nat) (aS : Nat) (aN : Nat) (aR : Nat) (aG : Nat) (th : Int32) (lt : Int32) (se : Int32) (zs : Int32) (mn : Int32) (cz : Int32) (ln : Int32) (ft : Int32) (gz : Int32) (i : Int32) (hbad : i < 0 ∨ nI 1 < i) : Ct l y_MD_turn2 b_MD_turn2 2 none 1 22 0 0 d [(h, ob 1 [.int th, .ref an, .ref ak, .int lt, .int se, .ref au, .int zs, .ref ap, .int mn, .ref aw, .int cz, .ref ac, .int ln, .int ft, .int gz, .ref ag, .ref ax, .ref ao, .ref al, .ref av, .ref ae, .ref ar, .ref ad, .ref aW, .ref aS, .ref aN, .ref aR, .ref aG])] [.ref h, .int i] (fun (_ : Unit) => none) (fun (_ : Unit) => True) (fun (_ : Unit) => [(h, ob 1 [.int (nI 1), .ref an, .ref ak, .int lt, .int se, .ref au, .int zs, .ref ap, .int mn, .ref aw, .int cz, .ref ac, .int ln, .int ft, .int gz, .ref ag, .ref ax, .ref ao, .ref al, .ref av, .ref ae, .ref ar, .ref ad, .ref aW, .ref aS, .ref aN, .ref aR, .ref aG])]) := by
  refine Ct.of (by decide +kernel) (Nat.le_of_ble_eq_true rfl) ?_
  intro p e s m below meth c A ls C hP hD hS hl
  have hl : lv_has ls 2 [(0, .ref h), (1, .int i)] := hl
  have hsz9 := hS.1
  refine lv_aload_n C.x C.b d_MD_turn2_0 rfl (lv_at hl 0 rfl) ?_
  refine lv_iload_n C.x C.b d_MD_turn2_1 rfl (lv_at hl 1 rfl) ?_
  refine lv_if_lt (tgt := 10) C.x C.b d_MD_turn2_2 (by decide) (fun hca => ?_) (fun hca => ?_)
  · refine lv_iconst (v := nI 1) C.x C.b d_MD_turn2_10 (by decide) ?_
    refine lv_goto (tgt := 15) C.x C.b d_MD_turn2_11 (by decide) ?_
    refine lv_iconst (v := nI 0) C.x C.b d_MD_turn2_15 (by decide) ?_
    refine k_callV (As := [.int (nI 1), .int (nI 0)]) (rest := []) (wc := [(h, ob 1 [.int th, .ref an, .ref ak, .int lt, .int se, .ref au, .int zs, .ref ap, .int mn, .ref aw, .int cz, .ref ac, .int ln, .int ft, .int gz, .ref ag, .ref ax, .ref ao, .ref al, .ref av, .ref ae, .ref ar, .ref ad, .ref aW, .ref aS, .ref aN, .ref aR, .ref aG])]) (wr := []) C (c_MD_refused1 l d h an ak au ap aw ac ag ax ao al av ae ar ad aW aS aN aR aG th lt se zs mn cz ln ft gz (nI 0)) mw_MD_refused ms_18 m_745 hP hD hS [0] [] rfl rfl (by decide) (by decide) (by decide) 0 rfl rfl rfl rfl hl.1 (Nat.le_of_ble_eq_true rfl) d_MD_turn2_16 ⟨Nat.le_of_ble_eq_true rfl, Nat.le_of_ble_eq_true rfl⟩ ⟨by decide, by decide⟩ (fun _ H locs hw_2 hP hD hS => ?_)
    have hP : va_P d.1 clz [(h, ob 1 [.int (nI 1), .ref an, .ref ak, .int lt, .int se, .ref au, .int zs, .ref ap, .int mn, .ref aw, .int cz, .ref ac, .int ln, .int ft, .int gz, .ref ag, .ref ax, .ref ao, .ref al, .ref av, .ref ae, .ref ar, .ref ad, .ref aW, .ref aS, .ref aN, .ref aR, .ref aG])] H := hP
    have hD : va_D A [(h, ob 1 [.int (nI 1), .ref an, .ref ak, .int lt, .int se, .ref au, .int zs, .ref ap, .int mn, .ref aw, .int cz, .ref ac, .int ln, .int ft, .int gz, .ref ag, .ref ax, .ref ao, .ref al, .ref av, .ref ae, .ref ar, .ref ad, .ref aW, .ref aS, .ref aN, .ref aR, .ref aG])] := hD
    refine W.eq (g2 := F0 m 19 ls [.int (nI 1)]) rfl ?_
    refine lv_if_ne (tgt := 80) C.x C.b d_MD_turn2_19 (by decide) (fun _ => ?_) (fun h9 => by first | exact absurd h9 (by decide) | exact absurd (by decide) h9)
    have hP9 := hP.sub (ws' := [(h, ob 1 [.int (nI 1), .ref an, .ref ak, .int lt, .int se, .ref au, .int zs, .ref ap, .int mn, .ref aw, .int cz, .ref ac, .int ln, .int ft, .int gz, .ref ag, .ref ax, .ref ao, .ref al, .ref av, .ref ae, .ref ar, .ref ad, .ref aW, .ref aS, .ref aN, .ref aR, .ref aG])]) [0] rfl
    have hD9 := hD.sub (ws' := [(h, ob 1 [.int (nI 1), .ref an, .ref ak, .int lt, .int se, .ref au, .int zs, .ref ap, .int mn, .ref aw, .int cz, .ref ac, .int ln, .int ft, .int gz, .ref ag, .ref ax, .ref ao, .ref al, .ref av, .ref ae, .ref ar, .ref ad, .ref aW, .ref aS, .ref aN, .ref aR, .ref aG])]) [0] (by decide) rfl
    exact k_vret C hS () (rfl) (trivial) hP9 hD9 d_MD_turn2_80
  · refine lv_iload_n C.x C.b d_MD_turn2_5 rfl (lv_at hl 1 rfl) ?_
    refine lv_iconst (v := nI 1) C.x C.b d_MD_turn2_6 (by decide) ?_
    refine lv_icmp_le (tgt := 14) C.x C.b d_MD_turn2_7 (by decide) (fun h9 => False.elim (hbad.elim hca (fun q => Int32.not_le.mpr q h9))) (fun hc_3 => ?_)
    refine lv_iconst (v := nI 1) C.x C.b d_MD_turn2_10 (by decide) ?_
    refine lv_goto (tgt := 15) C.x C.b d_MD_turn2_11 (by decide) ?_
    refine lv_iconst (v := nI 0) C.x C.b d_MD_turn2_15 (by decide) ?_
    refine k_callV (As := [.int (nI 1), .int (nI 0)]) (rest := []) (wc := [(h, ob 1 [.int th, .ref an, .ref ak, .int lt, .int se, .ref au, .int zs, .ref ap, .int mn, .ref aw, .int cz, .ref ac, .int ln, .int ft, .int gz, .ref ag, .ref ax, .ref ao, .ref al, .ref av, .ref ae, .ref ar, .ref ad, .ref aW, .ref aS, .ref aN, .ref aR, .ref aG])]) (wr := []) C (c_MD_refused1 l d h an ak au ap aw ac ag ax ao al av ae ar ad aW aS aN aR aG th lt se zs mn cz ln ft gz (nI 0)) mw_MD_refused ms_18 m_745 hP hD hS [0] [] rfl rfl (by decide) (by decide) (by decide) 0 rfl rfl rfl rfl hl.1 (Nat.le_of_ble_eq_true rfl) d_MD_turn2_16 ⟨Nat.le_of_ble_eq_true rfl, Nat.le_of_ble_eq_true rfl⟩ ⟨by decide, by decide⟩ (fun _ H locs hw_4 hP hD hS => ?_)
    have hP : va_P d.1 clz [(h, ob 1 [.int (nI 1), .ref an, .ref ak, .int lt, .int se, .ref au, .int zs, .ref ap, .int mn, .ref aw, .int cz, .ref ac, .int ln, .int ft, .int gz, .ref ag, .ref ax, .ref ao, .ref al, .ref av, .ref ae, .ref ar, .ref ad, .ref aW, .ref aS, .ref aN, .ref aR, .ref aG])] H := hP
    have hD : va_D A [(h, ob 1 [.int (nI 1), .ref an, .ref ak, .int lt, .int se, .ref au, .int zs, .ref ap, .int mn, .ref aw, .int cz, .ref ac, .int ln, .int ft, .int gz, .ref ag, .ref ax, .ref ao, .ref al, .ref av, .ref ae, .ref ar, .ref ad, .ref aW, .ref aS, .ref aN, .ref aR, .ref aG])] := hD
    refine W.eq (g2 := F0 m 19 ls [.int (nI 1)]) rfl ?_
    refine lv_if_ne (tgt := 80) C.x C.b d_MD_turn2_19 (by decide) (fun _ => ?_) (fun h9 => by first | exact absurd h9 (by decide) | exact absurd (by decide) h9)
    have hP9 := hP.sub (ws' := [(h, ob 1 [.int (nI 1), .ref an, .ref ak, .int lt, .int se, .ref au, .int zs, .ref ap, .int mn, .ref aw, .int cz, .ref ac, .int ln, .int ft, .int gz, .ref ag, .ref ax, .ref ao, .ref al, .ref av, .ref ae, .ref ar, .ref ad, .ref aW, .ref aS, .ref aN, .ref aR, .ref aG])]) [0] rfl
    have hD9 := hD.sub (ws' := [(h, ob 1 [.int (nI 1), .ref an, .ref ak, .int lt, .int se, .ref au, .int zs, .ref ap, .int mn, .ref aw, .int cz, .ref ac, .int ln, .int ft, .int gz, .ref ag, .ref ax, .ref ao, .ref al, .ref av, .ref ae, .ref ar, .ref ad, .ref aW, .ref aS, .ref aN, .ref aR, .ref aG])]) [0] (by decide) rfl
    exact k_vret C hS () (rfl) (trivial) hP9 hD9 d_MD_turn2_80
theorem mw_MD_put : Mw y_MD_put b_MD_put 5 (some .int) 2 := ⟨m_760, m_9, m_758, by decide +kernel⟩
set_option maxHeartbeats 4000000 in
set_option maxRecDepth 100000 in
theorem c_MD_put (l : Launch) (d : DD) (h : Nat) (an : Nat) (ak : Nat) (au : Nat) (ap : Nat) (aw : Nat) (ac : Nat) (ag : Nat) (ax : Nat) (ao : Nat) (al : Nat) (av : Nat) (ae : Nat) (ar : Nat) (ad : Nat) (aW : Nat) (aS : Nat) (aN : Nat) (aR : Nat) (aG : Nat) (th : Int32) (lt : Int32) (se : Int32) (ln : Int32) (ft : Int32) (pn : Nat) (wn : Nat) (cn : Nat) (on : Nat) (fp : Nat → Int32) (v : Int32) (n : Nat) (pL : List Int32) (hp : BA fp pL) (hpl : pL.length = pn) (hn1 : 1 ≤ n) (hn4 : n ≤ 4) (hr : pn + n ≤ 500) : Ct l y_MD_put b_MD_put 5 (some .int) 1 22 0 0 d [(h, ob 1 [.int th, .ref an, .ref ak, .int lt, .int se, .ref au, .int (nI pn), .ref ap, .int (nI wn), .ref aw, .int (nI cn), .ref ac, .int ln, .int ft, .int (nI on), .ref ag, .ref ax, .ref ao, .ref al, .ref av, .ref ae, .ref ar, .ref ad, .ref aW, .ref aS, .ref aN, .ref aR, .ref aG]), (ap, aB d 500 fp)] [.ref h, .int v, .int (nI n)] (fun (p2 : Nat → Int32) => some (.int (nI (pn + n)))) (fun (p2 : Nat → Int32) => BA p2 (pL ++ pby v n n)) (fun (p2 : Nat → Int32) => [(h, ob 1 [.int (nI 0), .ref an, .ref ak, .int lt, .int se, .ref au, .int (nI (pn + n)), .ref ap, .int (nI wn), .ref aw, .int (nI cn), .ref ac, .int ln, .int ft, .int (nI on), .ref ag, .ref ax, .ref ao, .ref al, .ref av, .ref ae, .ref ar, .ref ad, .ref aW, .ref aS, .ref aN, .ref aR, .ref aG]), (ap, aB d 500 p2)]) := by
  refine Ct.of (by decide +kernel) (Nat.le_of_ble_eq_true rfl) ?_
  intro p e s m below meth c A ls C hP hD hS hl
  have hl : lv_has ls 5 [(0, .ref h), (1, .int v), (2, .int (nI n))] := hl
  have hsz9 := hS.1
  refine lv_iload_n C.x C.b d_MD_put_0 rfl (lv_at hl 2 rfl) ?_
  refine lv_iconst (v := nI 1) C.x C.b d_MD_put_1 (by decide) ?_
  refine lv_icmp_lt (tgt := 10) C.x C.b d_MD_put_2 (by decide) (fun h9 => False.elim (nI_nlt (by omega) (by omega) h9)) (fun hc_1 => ?_)
  rw [nI_ltI (by omega) (by omega)] at hc_1
  refine lv_iload_n C.x C.b d_MD_put_5 rfl (lv_at hl 2 rfl) ?_
  refine lv_iconst (v := nI 4) C.x C.b d_MD_put_6 (by decide) ?_
  refine lv_icmp_le (tgt := 14) C.x C.b d_MD_put_7 (by decide) (fun hc_2 => ?_) (fun h9 => False.elim (h9 (nI_le (by omega) (by omega))))
  rw [nI_leI (by omega) (by omega)] at hc_2
  refine lv_iconst (v := nI 0) C.x C.b d_MD_put_14 (by decide) ?_
  refine lv_istore_n (lv' := [(3, .int (nI 0)), (0, .ref h), (1, .int v), (2, .int (nI n))]) C.x C.b d_MD_put_15 rfl hl (by decide) rfl (fun ls hl => ?_)
  refine lv_aload_n C.x C.b d_MD_put_16 rfl (lv_at hl 1 rfl) ?_
  refine lv_iload_n C.x C.b d_MD_put_17 rfl (lv_at hl 0 rfl) ?_
  refine lv_iload_n C.x C.b d_MD_put_18 rfl (lv_at hl 0 rfl) ?_
  refine lv_if_ne (tgt := 38) C.x C.b d_MD_put_19 (by decide) (fun h9 => by first | exact absurd h9 (by decide) | exact absurd (by decide) h9) (fun _ => ?_)
  refine lv_aload_n C.x C.b d_MD_put_22 rfl (lv_at hl 1 rfl) ?_
  refine k_get C hP 0 rfl rfl i_MD 6 (by decide) m_658 rfl d_MD_put_23 ?_
  refine lv_iload_n C.x C.b d_MD_put_26 rfl (lv_at hl 3 rfl) ?_
  refine lv_iadd C.x C.b d_MD_put_27 ?_
  refine k_top (y := nI (pn + n)) (nI_add _ _) ?_
  refine lv_sipush (v := nI 500) C.x C.b d_MD_put_28 (by decide) ?_
  refine lv_icmp_le (tgt := 38) C.x C.b d_MD_put_31 (by decide) (fun hc_3 => ?_) (fun h9 => False.elim (h9 (nI_le (by omega) (by omega))))
  rw [nI_leI (by omega) (by omega)] at hc_3
  refine lv_iconst (v := nI 0) C.x C.b d_MD_put_38 (by decide) ?_
  refine k_callV (As := [.int (nI 0), .int (nI 0)]) (rest := []) (wc := [(h, ob 1 [.int th, .ref an, .ref ak, .int lt, .int se, .ref au, .int (nI pn), .ref ap, .int (nI wn), .ref aw, .int (nI cn), .ref ac, .int ln, .int ft, .int (nI on), .ref ag, .ref ax, .ref ao, .ref al, .ref av, .ref ae, .ref ar, .ref ad, .ref aW, .ref aS, .ref aN, .ref aR, .ref aG])]) (wr := [(ap, aB d 500 fp)]) C (c_MD_refused0 l d h an ak au ap aw ac ag ax ao al av ae ar ad aW aS aN aR aG th lt se (nI pn) (nI wn) (nI cn) ln ft (nI on)) mw_MD_refused ms_18 m_745 hP hD hS [0] [1] rfl rfl (by decide) (by decide) (by decide) 0 rfl rfl rfl rfl hl.1 (Nat.le_of_ble_eq_true rfl) d_MD_put_39 ⟨Nat.le_of_ble_eq_true rfl, Nat.le_of_ble_eq_true rfl⟩ ⟨by decide, by decide⟩ (fun _ H locs hw_4 hP hD hS => ?_)
  have hP : va_P d.1 clz [(ap, aB d 500 fp), (h, ob 1 [.int (nI 0), .ref an, .ref ak, .int lt, .int se, .ref au, .int (nI pn), .ref ap, .int (nI wn), .ref aw, .int (nI cn), .ref ac, .int ln, .int ft, .int (nI on), .ref ag, .ref ax, .ref ao, .ref al, .ref av, .ref ae, .ref ar, .ref ad, .ref aW, .ref aS, .ref aN, .ref aR, .ref aG])] H := hP
  have hD : va_D A [(ap, aB d 500 fp), (h, ob 1 [.int (nI 0), .ref an, .ref ak, .int lt, .int se, .ref au, .int (nI pn), .ref ap, .int (nI wn), .ref aw, .int (nI cn), .ref ac, .int ln, .int ft, .int (nI on), .ref ag, .ref ax, .ref ao, .ref al, .ref av, .ref ae, .ref ar, .ref ad, .ref aW, .ref aS, .ref aN, .ref aR, .ref aG])] := hD
  refine W.eq (g2 := F0 m 42 ls [.int (nI 0)]) rfl ?_
  refine lv_if_eq (tgt := 47) C.x C.b d_MD_put_42 (by decide) (fun _ => ?_) (fun h9 => by first | exact absurd h9 (by decide) | exact absurd (by decide) h9)
  refine lv_iload_n C.x C.b d_MD_put_47 rfl (lv_at hl 3 rfl) ?_
  refine lv_iconst (v := nI 1) C.x C.b d_MD_put_48 (by decide) ?_
  refine lv_isub C.x C.b d_MD_put_49 ?_
  refine k_top (y := nI (n - 1)) (pk_sub (by omega)) ?_
  refine lv_istore (lv' := [(4, .int (nI (n - 1))), (3, .int (nI 0)), (0, .ref h), (1, .int v), (2, .int (nI n))]) C.x C.b d_MD_put_50 hl (by decide) rfl (fun ls hl => ?_)
  have L52 : ∀ (fuel : Nat) (j : Nat) (x9 : Int32) (g9 : Nat → Int32), n - j < fuel → (j ≤ n) → ((j < n → x9 = nI (n - 1 - j)) ∧ (j = n → x9 = -1)) → (BA g9 (pL ++ pby v n j)) → ∀ (H : Heap) (locs : List Loc) (ls : Array Slot), va_P d.1 clz [(h, ob 1 [.int (nI 0), .ref an, .ref ak, .int lt, .int se, .ref au, .int (nI (pn + j)), .ref ap, .int (nI wn), .ref aw, .int (nI cn), .ref ac, .int ln, .int ft, .int (nI on), .ref ag, .ref ax, .ref ao, .ref al, .ref av, .ref ae, .ref ar, .ref ad, .ref aW, .ref aS, .ref aN, .ref aR, .ref aG]), (ap, aB d 500 g9)] H → va_D A [(h, ob 1 [.int (nI 0), .ref an, .ref ak, .int lt, .int se, .ref au, .int (nI (pn + j)), .ref ap, .int (nI wn), .ref aw, .int (nI cn), .ref ac, .int ln, .int ft, .int (nI on), .ref ag, .ref ax, .ref ao, .ref al, .ref av, .ref ae, .ref ar, .ref ad, .ref aW, .ref aS, .ref aN, .ref aR, .ref aG]), (ap, aB d 500 g9)] → va_S A s.heap H locs → lv_has ls 5 [(0, .ref h), (1, .int v), (4, .int x9)] → W p l e (Rm 1 22 0 0) s m ([.ref h, .int v, .int (nI n)] : List Value).toArray below meth c H locs 0 0 (MQ below (Cout d A (fun (p2 : Nat → Int32) => some (.int (nI (pn + n)))) (fun (p2 : Nat → Int32) => BA p2 (pL ++ pby v n n)) (fun (p2 : Nat → Int32) => [(h, ob 1 [.int (nI 0), .ref an, .ref ak, .int lt, .int se, .ref au, .int (nI (pn + n)), .ref ap, .int (nI wn), .ref aw, .int (nI cn), .ref ac, .int ln, .int ft, .int (nI on), .ref ag, .ref ax, .ref ao, .ref al, .ref av, .ref ae, .ref ar, .ref ad, .ref aW, .ref aS, .ref aN, .ref aR, .ref aG]), (ap, aB d 500 p2)])) ([.ref h, .int v, .int (nI n)] : List Value).toArray s 0 0 A) (F0 m 52 ls []) := by
    intro fuel
    induction fuel with
    | zero => intro j x9 g9 h9; exact absurd h9 (Nat.not_lt_zero _)
    | succ fuel ih52 =>
      intro j x9 g9 hfu52 hj hx9 hg9 H locs ls hP hD hS hl
      refine lv_iload C.x C.b d_MD_put_52 (lv_at hl 2 rfl) ?_
      refine lv_if_lt (tgt := 90) C.x C.b d_MD_put_54 (by decide) (fun hc54 => ?_) (fun hc54 => ?_)
      · have ej : j = n := by rcases Nat.lt_or_ge j n with q | q; exact absurd (by rw [hx9.1 q] at hc54; exact hc54) (nI_pos (by omega)); omega
        refine lv_aload_n C.x C.b d_MD_put_90 rfl (lv_at hl 0 rfl) ?_
        refine k_get C hP 0 rfl rfl i_MD 6 (by decide) m_658 rfl d_MD_put_91 ?_
        have hP9 := hP.sub (ws' := [(h, ob 1 [.int (nI 0), .ref an, .ref ak, .int lt, .int se, .ref au, .int (nI (pn + j)), .ref ap, .int (nI wn), .ref aw, .int (nI cn), .ref ac, .int ln, .int ft, .int (nI on), .ref ag, .ref ax, .ref ao, .ref al, .ref av, .ref ae, .ref ar, .ref ad, .ref aW, .ref aS, .ref aN, .ref aR, .ref aG]), (ap, aB d 500 g9)]) [0, 1] rfl
        have hD9 := hD.sub (ws' := [(h, ob 1 [.int (nI 0), .ref an, .ref ak, .int lt, .int se, .ref au, .int (nI (pn + j)), .ref ap, .int (nI wn), .ref aw, .int (nI cn), .ref ac, .int ln, .int ft, .int (nI on), .ref ag, .ref ax, .ref ao, .ref al, .ref av, .ref ae, .ref ar, .ref ad, .ref aW, .ref aS, .ref aN, .ref aR, .ref aG]), (ap, aB d 500 g9)]) [0, 1] (by decide) rfl
        rw [ej] at hP9 hD9
        exact k_iret C hS g9 (by show some (Value.int (nI (pn + n))) = _; rw [ej]) (by rw [ej] at hg9; exact hg9) hP9 hD9 d_MD_put_94
      · have ej : j < n := by rcases Nat.lt_or_ge j n with q | q; exact q; exact absurd (show x9 < 0 by rw [hx9.2 (by omega)]; decide) hc54
        have ex := hx9.1 ej
        refine lv_aload_n C.x C.b d_MD_put_57 rfl (lv_at hl 0 rfl) ?_
        refine k_get C hP 0 rfl rfl i_MD 7 (by decide) m_659 rfl d_MD_put_58 ?_
        refine lv_aload_n C.x C.b d_MD_put_61 rfl (lv_at hl 0 rfl) ?_
        refine k_get C hP 0 rfl rfl i_MD 6 (by decide) m_658 rfl d_MD_put_62 ?_
        refine lv_iload_n C.x C.b d_MD_put_65 rfl (lv_at hl 1 rfl) ?_
        refine lv_bipush (v := nI 8) C.x C.b d_MD_put_66 (by decide) ?_
        refine lv_iload C.x C.b d_MD_put_68 (lv_at hl 2 rfl) ?_
        refine lv_imul C.x C.b d_MD_put_70 ?_
        refine k_top (y := nI (8 * (n - 1 - j))) (by rw [ex, pk_mul]) ?_
        refine lv_ishr C.x C.b d_MD_put_71 ?_
        refine lv_i2b (v := (v >>> ((nI (8 * (n - 1 - j))) &&& 31)).toInt8.toInt32) C.x C.b d_MD_put_72 rfl ?_
        refine k_bast C hP hD hS 1 rfl (j := (pn + j)) (by omega) (by omega) d_MD_put_73 (fun H locs hP hD hS => ?_)
        have hP : va_P d.1 clz [(h, ob 1 [.int (nI 0), .ref an, .ref ak, .int lt, .int se, .ref au, .int (nI (pn + j)), .ref ap, .int (nI wn), .ref aw, .int (nI cn), .ref ac, .int ln, .int ft, .int (nI on), .ref ag, .ref ax, .ref ao, .ref al, .ref av, .ref ae, .ref ar, .ref ad, .ref aW, .ref aS, .ref aN, .ref aR, .ref aG]), (ap, aB d 500 (upd g9 (pn + j) (((v >>> ((nI (8 * (n - 1 - j))) &&& 31)).toInt8.toInt32).toInt8.toInt32)))] H := hP
        have hD : va_D A [(h, ob 1 [.int (nI 0), .ref an, .ref ak, .int lt, .int se, .ref au, .int (nI (pn + j)), .ref ap, .int (nI wn), .ref aw, .int (nI cn), .ref ac, .int ln, .int ft, .int (nI on), .ref ag, .ref ax, .ref ao, .ref al, .ref av, .ref ae, .ref ar, .ref ad, .ref aW, .ref aS, .ref aN, .ref aR, .ref aG]), (ap, aB d 500 (upd g9 (pn + j) (((v >>> ((nI (8 * (n - 1 - j))) &&& 31)).toInt8.toInt32).toInt8.toInt32)))] := hD
        refine lv_aload_n C.x C.b d_MD_put_74 rfl (lv_at hl 0 rfl) ?_
        refine lv_dup C.x C.b d_MD_put_75 rfl ?_
        refine k_get C hP 0 rfl rfl i_MD 6 (by decide) m_658 rfl d_MD_put_76 ?_
        refine lv_iconst (v := nI 1) C.x C.b d_MD_put_79 (by decide) ?_
        refine lv_iadd C.x C.b d_MD_put_80 ?_
        refine k_top (y := nI (pn + j + 1)) (nI_add _ _) ?_
        refine k_put C hP hD hS 0 rfl rfl i_MD tk_MD n_MD 6 (by decide) m_658 rfl rfl rfl (Nat.le_of_ble_eq_true rfl) d_MD_put_81 (fun H locs hP hD hS => ?_)
        have hP : va_P d.1 clz [(h, ob 1 [.int (nI 0), .ref an, .ref ak, .int lt, .int se, .ref au, .int (nI (pn + j + 1)), .ref ap, .int (nI wn), .ref aw, .int (nI cn), .ref ac, .int ln, .int ft, .int (nI on), .ref ag, .ref ax, .ref ao, .ref al, .ref av, .ref ae, .ref ar, .ref ad, .ref aW, .ref aS, .ref aN, .ref aR, .ref aG]), (ap, aB d 500 (upd g9 (pn + j) (((v >>> ((nI (8 * (n - 1 - j))) &&& 31)).toInt8.toInt32).toInt8.toInt32)))] H := hP
        have hD : va_D A [(h, ob 1 [.int (nI 0), .ref an, .ref ak, .int lt, .int se, .ref au, .int (nI (pn + j + 1)), .ref ap, .int (nI wn), .ref aw, .int (nI cn), .ref ac, .int ln, .int ft, .int (nI on), .ref ag, .ref ax, .ref ao, .ref al, .ref av, .ref ae, .ref ar, .ref ad, .ref aW, .ref aS, .ref aN, .ref aR, .ref aG]), (ap, aB d 500 (upd g9 (pn + j) (((v >>> ((nI (8 * (n - 1 - j))) &&& 31)).toInt8.toInt32).toInt8.toInt32)))] := hD
        refine lv_iinc (v := (x9 + Int32.ofInt (-1))) (lv' := [(4, .int (x9 + Int32.ofInt (-1))), (0, .ref h), (1, .int v)]) C.x C.b d_MD_put_84 hl (k := 2) rfl (rfl) (by decide) rfl (fun ls hl => ?_)
        refine lv_goto (tgt := 52) C.x C.b d_MD_put_87 (by decide) ?_
        exact ih52 (j + 1) (x9 + Int32.ofInt (-1)) (upd g9 (pn + j) (((v >>> ((nI (8 * (n - 1 - j))) &&& 31)).toInt8.toInt32).toInt8.toInt32)) (by omega) (by omega) (⟨fun q => by rw [hx9.1 (by omega)]; exact (k_dec (n := n - 1 - j) (k := 1) (by omega)).trans (by rw [Nat.sub_sub (n - 1) j 1]), fun q => by rw [hx9.1 (by omega), show n - 1 - j = 0 from by omega]; decide⟩) (by rw [pby_succ, ← List.append_assoc]; exact ba_push hg9 (by rw [List.length_append, hpl, pby_len]) (by rw [sx_sx]; exact shb8 (by omega) v) (and255 _)) _ _ _ (hP.sub [0, 1] (rfl)) (hD.sub [0, 1] (by decide) (rfl)) hS (lv_sub hl [1, 2, 0] (rfl))
  exact L52 ((n - 0) + 1) 0 (nI (n - 1)) fp (Nat.lt_succ_self _) (by omega) (⟨fun _ => rfl, fun q => absurd q (by omega)⟩) (by rw [show pby v n 0 = [] from rfl, List.append_nil]; exact hp) _ _ _ (hP.sub [1, 0] (rfl)) (hD.sub [1, 0] (by decide) (rfl)) hS (lv_sub hl [2, 3, 0] (rfl))
set_option maxHeartbeats 4000000 in
set_option maxRecDepth 100000 in
theorem c_MD_putX (l : Launch) (d : DD) (h : Nat) (an : Nat) (ak : Nat) (au : Nat) (ap : Nat) (aw : Nat) (ac : Nat) (ag : Nat) (ax : Nat) (ao : Nat) (al : Nat) (av : Nat) (ae : Nat) (ar : Nat) (ad : Nat) (aW : Nat) (aS : Nat) (aN : Nat) (aR : Nat) (aG : Nat) (th : Int32) (lt : Int32) (se : Int32) (zs : Int32) (mn : Int32) (cz : Int32) (ln : Int32) (ft : Int32) (gz : Int32) (v : Int32) (n : Int32) (hbad : n < nI 1 ∨ nI 4 < n) : Ct l y_MD_put b_MD_put 5 (some .int) 1 22 0 0 d [(h, ob 1 [.int th, .ref an, .ref ak, .int lt, .int se, .ref au, .int zs, .ref ap, .int mn, .ref aw, .int cz, .ref ac, .int ln, .int ft, .int gz, .ref ag, .ref ax, .ref ao, .ref al, .ref av, .ref ae, .ref ar, .ref ad, .ref aW, .ref aS, .ref aN, .ref aR, .ref aG])] [.ref h, .int v, .int n] (fun (_ : Unit) => some (.int (nI 0))) (fun (_ : Unit) => True) (fun (_ : Unit) => [(h, ob 1 [.int (nI 1), .ref an, .ref ak, .int lt, .int se, .ref au, .int zs, .ref ap, .int mn, .ref aw, .int cz, .ref ac, .int ln, .int ft, .int gz, .ref ag, .ref ax, .ref ao, .ref al, .ref av, .ref ae, .ref ar, .ref ad, .ref aW, .ref aS, .ref aN, .ref aR, .ref aG])]) := by
  refine Ct.of (by decide +kernel) (Nat.le_of_ble_eq_true rfl) ?_
  intro p e s m below meth c A ls C hP hD hS hl
  have hl : lv_has ls 5 [(0, .ref h), (1, .int v), (2, .int n)] := hl
  have hsz9 := hS.1
  refine lv_iload_n C.x C.b d_MD_put_0 rfl (lv_at hl 2 rfl) ?_
  refine lv_iconst (v := nI 1) C.x C.b d_MD_put_1 (by decide) ?_
  refine lv_icmp_lt (tgt := 10) C.x C.b d_MD_put_2 (by decide) (fun hca => ?_) (fun hca => ?_)
  · refine lv_iconst (v := nI 1) C.x C.b d_MD_put_10 (by decide) ?_
    refine lv_goto (tgt := 15) C.x C.b d_MD_put_11 (by decide) ?_
    refine lv_istore_n (lv' := [(3, .int (nI 1)), (0, .ref h), (1, .int v), (2, .int n)]) C.x C.b d_MD_put_15 rfl hl (by decide) rfl (fun ls hl => ?_)
    refine lv_aload_n C.x C.b d_MD_put_16 rfl (lv_at hl 1 rfl) ?_
    refine lv_iload_n C.x C.b d_MD_put_17 rfl (lv_at hl 0 rfl) ?_
    refine lv_iload_n C.x C.b d_MD_put_18 rfl (lv_at hl 0 rfl) ?_
    refine lv_if_ne (tgt := 38) C.x C.b d_MD_put_19 (by decide) (fun _ => ?_) (fun h9 => by first | exact absurd h9 (by decide) | exact absurd (by decide) h9)
    refine lv_iconst (v := nI 0) C.x C.b d_MD_put_38 (by decide) ?_
    refine k_callV (As := [.int (nI 1), .int (nI 0)]) (rest := []) (wc := [(h, ob 1 [.int th, .ref an, .ref ak, .int lt, .int se, .ref au, .int zs, .ref ap, .int mn, .ref aw, .int cz, .ref ac, .int ln, .int ft, .int gz, .ref ag, .ref ax, .ref ao, .ref al, .ref av, .ref ae, .ref ar, .ref ad, .ref aW, .ref aS, .ref aN, .ref aR, .ref aG])]) (wr := []) C (c_MD_refused1 l d h an ak au ap aw ac ag ax ao al av ae ar ad aW aS aN aR aG th lt se zs mn cz ln ft gz (nI 0)) mw_MD_refused ms_18 m_745 hP hD hS [0] [] rfl rfl (by decide) (by decide) (by decide) 0 rfl rfl rfl rfl hl.1 (Nat.le_of_ble_eq_true rfl) d_MD_put_39 ⟨Nat.le_of_ble_eq_true rfl, Nat.le_of_ble_eq_true rfl⟩ ⟨by decide, by decide⟩ (fun _ H locs hw_2 hP hD hS => ?_)
    have hP : va_P d.1 clz [(h, ob 1 [.int (nI 1), .ref an, .ref ak, .int lt, .int se, .ref au, .int zs, .ref ap, .int mn, .ref aw, .int cz, .ref ac, .int ln, .int ft, .int gz, .ref ag, .ref ax, .ref ao, .ref al, .ref av, .ref ae, .ref ar, .ref ad, .ref aW, .ref aS, .ref aN, .ref aR, .ref aG])] H := hP
    have hD : va_D A [(h, ob 1 [.int (nI 1), .ref an, .ref ak, .int lt, .int se, .ref au, .int zs, .ref ap, .int mn, .ref aw, .int cz, .ref ac, .int ln, .int ft, .int gz, .ref ag, .ref ax, .ref ao, .ref al, .ref av, .ref ae, .ref ar, .ref ad, .ref aW, .ref aS, .ref aN, .ref aR, .ref aG])] := hD
    refine W.eq (g2 := F0 m 42 ls [.int (nI 1)]) rfl ?_
    refine lv_if_eq (tgt := 47) C.x C.b d_MD_put_42 (by decide) (fun h9 => by first | exact absurd h9 (by decide) | exact absurd (by decide) h9) (fun _ => ?_)
    refine lv_iconst (v := nI 0) C.x C.b d_MD_put_45 (by decide) ?_
    have hP9 := hP.sub (ws' := [(h, ob 1 [.int (nI 1), .ref an, .ref ak, .int lt, .int se, .ref au, .int zs, .ref ap, .int mn, .ref aw, .int cz, .ref ac, .int ln, .int ft, .int gz, .ref ag, .ref ax, .ref ao, .ref al, .ref av, .ref ae, .ref ar, .ref ad, .ref aW, .ref aS, .ref aN, .ref aR, .ref aG])]) [0] rfl
    have hD9 := hD.sub (ws' := [(h, ob 1 [.int (nI 1), .ref an, .ref ak, .int lt, .int se, .ref au, .int zs, .ref ap, .int mn, .ref aw, .int cz, .ref ac, .int ln, .int ft, .int gz, .ref ag, .ref ax, .ref ao, .ref al, .ref av, .ref ae, .ref ar, .ref ad, .ref aW, .ref aS, .ref aN, .ref aR, .ref aG])]) [0] (by decide) rfl
    exact k_iret C hS () (rfl) (trivial) hP9 hD9 d_MD_put_46
  · refine lv_iload_n C.x C.b d_MD_put_5 rfl (lv_at hl 2 rfl) ?_
    refine lv_iconst (v := nI 4) C.x C.b d_MD_put_6 (by decide) ?_
    refine lv_icmp_le (tgt := 14) C.x C.b d_MD_put_7 (by decide) (fun h9 => False.elim (hbad.elim hca (fun q => Int32.not_le.mpr q h9))) (fun hc_3 => ?_)
    refine lv_iconst (v := nI 1) C.x C.b d_MD_put_10 (by decide) ?_
    refine lv_goto (tgt := 15) C.x C.b d_MD_put_11 (by decide) ?_
    refine lv_istore_n (lv' := [(3, .int (nI 1)), (0, .ref h), (1, .int v), (2, .int n)]) C.x C.b d_MD_put_15 rfl hl (by decide) rfl (fun ls hl => ?_)
    refine lv_aload_n C.x C.b d_MD_put_16 rfl (lv_at hl 1 rfl) ?_
    refine lv_iload_n C.x C.b d_MD_put_17 rfl (lv_at hl 0 rfl) ?_
    refine lv_iload_n C.x C.b d_MD_put_18 rfl (lv_at hl 0 rfl) ?_
    refine lv_if_ne (tgt := 38) C.x C.b d_MD_put_19 (by decide) (fun _ => ?_) (fun h9 => by first | exact absurd h9 (by decide) | exact absurd (by decide) h9)
    refine lv_iconst (v := nI 0) C.x C.b d_MD_put_38 (by decide) ?_
    refine k_callV (As := [.int (nI 1), .int (nI 0)]) (rest := []) (wc := [(h, ob 1 [.int th, .ref an, .ref ak, .int lt, .int se, .ref au, .int zs, .ref ap, .int mn, .ref aw, .int cz, .ref ac, .int ln, .int ft, .int gz, .ref ag, .ref ax, .ref ao, .ref al, .ref av, .ref ae, .ref ar, .ref ad, .ref aW, .ref aS, .ref aN, .ref aR, .ref aG])]) (wr := []) C (c_MD_refused1 l d h an ak au ap aw ac ag ax ao al av ae ar ad aW aS aN aR aG th lt se zs mn cz ln ft gz (nI 0)) mw_MD_refused ms_18 m_745 hP hD hS [0] [] rfl rfl (by decide) (by decide) (by decide) 0 rfl rfl rfl rfl hl.1 (Nat.le_of_ble_eq_true rfl) d_MD_put_39 ⟨Nat.le_of_ble_eq_true rfl, Nat.le_of_ble_eq_true rfl⟩ ⟨by decide, by decide⟩ (fun _ H locs hw_4 hP hD hS => ?_)
    have hP : va_P d.1 clz [(h, ob 1 [.int (nI 1), .ref an, .ref ak, .int lt, .int se, .ref au, .int zs, .ref ap, .int mn, .ref aw, .int cz, .ref ac, .int ln, .int ft, .int gz, .ref ag, .ref ax, .ref ao, .ref al, .ref av, .ref ae, .ref ar, .ref ad, .ref aW, .ref aS, .ref aN, .ref aR, .ref aG])] H := hP
    have hD : va_D A [(h, ob 1 [.int (nI 1), .ref an, .ref ak, .int lt, .int se, .ref au, .int zs, .ref ap, .int mn, .ref aw, .int cz, .ref ac, .int ln, .int ft, .int gz, .ref ag, .ref ax, .ref ao, .ref al, .ref av, .ref ae, .ref ar, .ref ad, .ref aW, .ref aS, .ref aN, .ref aR, .ref aG])] := hD
    refine W.eq (g2 := F0 m 42 ls [.int (nI 1)]) rfl ?_
    refine lv_if_eq (tgt := 47) C.x C.b d_MD_put_42 (by decide) (fun h9 => by first | exact absurd h9 (by decide) | exact absurd (by decide) h9) (fun _ => ?_)
    refine lv_iconst (v := nI 0) C.x C.b d_MD_put_45 (by decide) ?_
    have hP9 := hP.sub (ws' := [(h, ob 1 [.int (nI 1), .ref an, .ref ak, .int lt, .int se, .ref au, .int zs, .ref ap, .int mn, .ref aw, .int cz, .ref ac, .int ln, .int ft, .int gz, .ref ag, .ref ax, .ref ao, .ref al, .ref av, .ref ae, .ref ar, .ref ad, .ref aW, .ref aS, .ref aN, .ref aR, .ref aG])]) [0] rfl
    have hD9 := hD.sub (ws' := [(h, ob 1 [.int (nI 1), .ref an, .ref ak, .int lt, .int se, .ref au, .int zs, .ref ap, .int mn, .ref aw, .int cz, .ref ac, .int ln, .int ft, .int gz, .ref ag, .ref ax, .ref ao, .ref al, .ref av, .ref ae, .ref ar, .ref ad, .ref aW, .ref aS, .ref aN, .ref aR, .ref aG])]) [0] (by decide) rfl
    exact k_iret C hS () (rfl) (trivial) hP9 hD9 d_MD_put_46
set_option maxHeartbeats 4000000 in
set_option maxRecDepth 100000 in
theorem c_MD_putY (l : Launch) (d : DD) (h : Nat) (an : Nat) (ak : Nat) (au : Nat) (ap : Nat) (aw : Nat) (ac : Nat) (ag : Nat) (ax : Nat) (ao : Nat) (al : Nat) (av : Nat) (ae : Nat) (ar : Nat) (ad : Nat) (aW : Nat) (aS : Nat) (aN : Nat) (aR : Nat) (aG : Nat) (th : Int32) (lt : Int32) (se : Int32) (ln : Int32) (ft : Int32) (pn : Nat) (wn : Nat) (cn : Nat) (on : Nat) (v : Int32) (n : Nat) (hn1 : 1 ≤ n) (hn4 : n ≤ 4) (hpn : pn ≤ 500) (hr : 500 < pn + n) : Ct l y_MD_put b_MD_put 5 (some .int) 1 22 0 0 d [(h, ob 1 [.int th, .ref an, .ref ak, .int lt, .int se, .ref au, .int (nI pn), .ref ap, .int (nI wn), .ref aw, .int (nI cn), .ref ac, .int ln, .int ft, .int (nI on), .ref ag, .ref ax, .ref ao, .ref al, .ref av, .ref ae, .ref ar, .ref ad, .ref aW, .ref aS, .ref aN, .ref aR, .ref aG])] [.ref h, .int v, .int (nI n)] (fun (_ : Unit) => some (.int (nI 0))) (fun (_ : Unit) => True) (fun (_ : Unit) => [(h, ob 1 [.int (nI 2), .ref an, .ref ak, .int lt, .int se, .ref au, .int (nI pn), .ref ap, .int (nI wn), .ref aw, .int (nI cn), .ref ac, .int ln, .int ft, .int (nI on), .ref ag, .ref ax, .ref ao, .ref al, .ref av, .ref ae, .ref ar, .ref ad, .ref aW, .ref aS, .ref aN, .ref aR, .ref aG])]) := by
  refine Ct.of (by decide +kernel) (Nat.le_of_ble_eq_true rfl) ?_
  intro p e s m below meth c A ls C hP hD hS hl
  have hl : lv_has ls 5 [(0, .ref h), (1, .int v), (2, .int (nI n))] := hl
  have hsz9 := hS.1
  refine lv_iload_n C.x C.b d_MD_put_0 rfl (lv_at hl 2 rfl) ?_
  refine lv_iconst (v := nI 1) C.x C.b d_MD_put_1 (by decide) ?_
  refine lv_icmp_lt (tgt := 10) C.x C.b d_MD_put_2 (by decide) (fun h9 => False.elim (nI_nlt (by omega) (by omega) h9)) (fun hc_1 => ?_)
  rw [nI_ltI (by omega) (by omega)] at hc_1
  refine lv_iload_n C.x C.b d_MD_put_5 rfl (lv_at hl 2 rfl) ?_
  refine lv_iconst (v := nI 4) C.x C.b d_MD_put_6 (by decide) ?_
  refine lv_icmp_le (tgt := 14) C.x C.b d_MD_put_7 (by decide) (fun hc_2 => ?_) (fun h9 => False.elim (h9 (nI_le (by omega) (by omega))))
  rw [nI_leI (by omega) (by omega)] at hc_2
  refine lv_iconst (v := nI 0) C.x C.b d_MD_put_14 (by decide) ?_
  refine lv_istore_n (lv' := [(3, .int (nI 0)), (0, .ref h), (1, .int v), (2, .int (nI n))]) C.x C.b d_MD_put_15 rfl hl (by decide) rfl (fun ls hl => ?_)
  refine lv_aload_n C.x C.b d_MD_put_16 rfl (lv_at hl 1 rfl) ?_
  refine lv_iload_n C.x C.b d_MD_put_17 rfl (lv_at hl 0 rfl) ?_
  refine lv_iload_n C.x C.b d_MD_put_18 rfl (lv_at hl 0 rfl) ?_
  refine lv_if_ne (tgt := 38) C.x C.b d_MD_put_19 (by decide) (fun h9 => by first | exact absurd h9 (by decide) | exact absurd (by decide) h9) (fun _ => ?_)
  refine lv_aload_n C.x C.b d_MD_put_22 rfl (lv_at hl 1 rfl) ?_
  refine k_get C hP 0 rfl rfl i_MD 6 (by decide) m_658 rfl d_MD_put_23 ?_
  refine lv_iload_n C.x C.b d_MD_put_26 rfl (lv_at hl 3 rfl) ?_
  refine lv_iadd C.x C.b d_MD_put_27 ?_
  refine k_top (y := nI (pn + n)) (nI_add _ _) ?_
  refine lv_sipush (v := nI 500) C.x C.b d_MD_put_28 (by decide) ?_
  refine lv_icmp_le (tgt := 38) C.x C.b d_MD_put_31 (by decide) (fun h9 => False.elim (nI_ge (by omega) (by omega) h9)) (fun hc_3 => ?_)
  rw [nI_leI (by omega) (by omega)] at hc_3
  refine lv_iconst (v := nI 1) C.x C.b d_MD_put_34 (by decide) ?_
  refine lv_goto (tgt := 39) C.x C.b d_MD_put_35 (by decide) ?_
  refine k_callV (As := [.int (nI 0), .int (nI 1)]) (rest := []) (wc := [(h, ob 1 [.int th, .ref an, .ref ak, .int lt, .int se, .ref au, .int (nI pn), .ref ap, .int (nI wn), .ref aw, .int (nI cn), .ref ac, .int ln, .int ft, .int (nI on), .ref ag, .ref ax, .ref ao, .ref al, .ref av, .ref ae, .ref ar, .ref ad, .ref aW, .ref aS, .ref aN, .ref aR, .ref aG])]) (wr := []) C (c_MD_refused2 l d h an ak au ap aw ac ag ax ao al av ae ar ad aW aS aN aR aG th lt se (nI pn) (nI wn) (nI cn) ln ft (nI on)) mw_MD_refused ms_18 m_745 hP hD hS [0] [] rfl rfl (by decide) (by decide) (by decide) 0 rfl rfl rfl rfl hl.1 (Nat.le_of_ble_eq_true rfl) d_MD_put_39 ⟨Nat.le_of_ble_eq_true rfl, Nat.le_of_ble_eq_true rfl⟩ ⟨by decide, by decide⟩ (fun _ H locs hw_4 hP hD hS => ?_)
  have hP : va_P d.1 clz [(h, ob 1 [.int (nI 2), .ref an, .ref ak, .int lt, .int se, .ref au, .int (nI pn), .ref ap, .int (nI wn), .ref aw, .int (nI cn), .ref ac, .int ln, .int ft, .int (nI on), .ref ag, .ref ax, .ref ao, .ref al, .ref av, .ref ae, .ref ar, .ref ad, .ref aW, .ref aS, .ref aN, .ref aR, .ref aG])] H := hP
  have hD : va_D A [(h, ob 1 [.int (nI 2), .ref an, .ref ak, .int lt, .int se, .ref au, .int (nI pn), .ref ap, .int (nI wn), .ref aw, .int (nI cn), .ref ac, .int ln, .int ft, .int (nI on), .ref ag, .ref ax, .ref ao, .ref al, .ref av, .ref ae, .ref ar, .ref ad, .ref aW, .ref aS, .ref aN, .ref aR, .ref aG])] := hD
  refine W.eq (g2 := F0 m 42 ls [.int (nI 1)]) rfl ?_
  refine lv_if_eq (tgt := 47) C.x C.b d_MD_put_42 (by decide) (fun h9 => by first | exact absurd h9 (by decide) | exact absurd (by decide) h9) (fun _ => ?_)
  refine lv_iconst (v := nI 0) C.x C.b d_MD_put_45 (by decide) ?_
  have hP9 := hP.sub (ws' := [(h, ob 1 [.int (nI 2), .ref an, .ref ak, .int lt, .int se, .ref au, .int (nI pn), .ref ap, .int (nI wn), .ref aw, .int (nI cn), .ref ac, .int ln, .int ft, .int (nI on), .ref ag, .ref ax, .ref ao, .ref al, .ref av, .ref ae, .ref ar, .ref ad, .ref aW, .ref aS, .ref aN, .ref aR, .ref aG])]) [0] rfl
  have hD9 := hD.sub (ws' := [(h, ob 1 [.int (nI 2), .ref an, .ref ak, .int lt, .int se, .ref au, .int (nI pn), .ref ap, .int (nI wn), .ref aw, .int (nI cn), .ref ac, .int ln, .int ft, .int (nI on), .ref ag, .ref ax, .ref ao, .ref al, .ref av, .ref ae, .ref ar, .ref ad, .ref aW, .ref aS, .ref aN, .ref aR, .ref aG])]) [0] (by decide) rfl
  exact k_iret C hS () (rfl) (trivial) hP9 hD9 d_MD_put_46
theorem mw_MD_whole : Mw y_MD_whole b_MD_whole 1 (some .int) 0 := ⟨m_768, m_9, m_767, by decide +kernel⟩
set_option maxHeartbeats 4000000 in
set_option maxRecDepth 100000 in
theorem c_MD_whole (l : Launch) (d : DD) (h : Nat) (an : Nat) (ak : Nat) (au : Nat) (ap : Nat) (aw : Nat) (ac : Nat) (ag : Nat) (ax : Nat) (ao : Nat) (al : Nat) (av : Nat) (ae : Nat) (ar : Nat) (ad : Nat) (aW : Nat) (aS : Nat) (aN : Nat) (aR : Nat) (aG : Nat) (th : Int32) (lt : Int32) (se : Int32) (ln : Int32) (ft : Int32) (pn : Nat) (wn : Nat) (cn : Nat) (on : Nat) (hpn : pn ≤ 500) : Ct l y_MD_whole b_MD_whole 1 (some .int) 0 0 0 0 d [(h, ob 1 [.int th, .ref an, .ref ak, .int lt, .int se, .ref au, .int (nI pn), .ref ap, .int (nI wn), .ref aw, .int (nI cn), .ref ac, .int ln, .int ft, .int (nI on), .ref ag, .ref ax, .ref ao, .ref al, .ref av, .ref ae, .ref ar, .ref ad, .ref aW, .ref aS, .ref aN, .ref aR, .ref aG])] [.ref h] (fun (_ : Unit) => some (.int (nI (5 + pn + padn pn)))) (fun (_ : Unit) => True) (fun (_ : Unit) => [(h, ob 1 [.int th, .ref an, .ref ak, .int lt, .int se, .ref au, .int (nI pn), .ref ap, .int (nI wn), .ref aw, .int (nI cn), .ref ac, .int ln, .int ft, .int (nI on), .ref ag, .ref ax, .ref ao, .ref al, .ref av, .ref ae, .ref ar, .ref ad, .ref aW, .ref aS, .ref aN, .ref aR, .ref aG])]) := by
  refine Ct.of (by decide +kernel) (Nat.le_of_ble_eq_true rfl) ?_
  intro p e s m below meth c A ls C hP hD hS hl
  have hl : lv_has ls 1 [(0, .ref h)] := hl
  have hsz9 := hS.1
  refine lv_iconst (v := nI 5) C.x C.b d_MD_whole_0 (by decide) ?_
  refine lv_aload_n C.x C.b d_MD_whole_1 rfl (lv_at hl 0 rfl) ?_
  refine k_get C hP 0 rfl rfl i_MD 6 (by decide) m_658 rfl d_MD_whole_2 ?_
  refine lv_iadd C.x C.b d_MD_whole_5 ?_
  refine k_top (y := nI (5 + pn)) (nI_add _ _) ?_
  refine lv_iconst (v := nI 4) C.x C.b d_MD_whole_6 (by decide) ?_
  refine lv_iadd C.x C.b d_MD_whole_7 ?_
  refine k_top (y := nI (5 + pn + 4)) (nI_add _ _) ?_
  refine lv_bipush (v := nI 15) C.x C.b d_MD_whole_8 (by decide) ?_
  refine lv_iadd C.x C.b d_MD_whole_10 ?_
  refine k_top (y := nI (5 + pn + 4 + 15)) (nI_add _ _) ?_
  refine lv_bipush (v := nI 16) C.x C.b d_MD_whole_11 (by decide) ?_
  refine lv_idiv C.x C.b d_MD_whole_13 (by decide) ?_
  refine k_top (y := nI ((5 + pn + 4 + 15) / 16)) (pk_div (by omega) (by omega) (by omega)) ?_
  refine lv_bipush (v := nI 16) C.x C.b d_MD_whole_14 (by decide) ?_
  refine lv_imul C.x C.b d_MD_whole_16 ?_
  refine k_top (y := nI (((5 + pn + 4 + 15) / 16) * 16)) (pk_mul _ _) ?_
  have hP9 := hP.sub (ws' := [(h, ob 1 [.int th, .ref an, .ref ak, .int lt, .int se, .ref au, .int (nI pn), .ref ap, .int (nI wn), .ref aw, .int (nI cn), .ref ac, .int ln, .int ft, .int (nI on), .ref ag, .ref ax, .ref ao, .ref al, .ref av, .ref ae, .ref ar, .ref ad, .ref aW, .ref aS, .ref aN, .ref aR, .ref aG])]) [0] rfl
  have hD9 := hD.sub (ws' := [(h, ob 1 [.int th, .ref an, .ref ak, .int lt, .int se, .ref au, .int (nI pn), .ref ap, .int (nI wn), .ref aw, .int (nI cn), .ref ac, .int ln, .int ft, .int (nI on), .ref ag, .ref ax, .ref ao, .ref al, .ref av, .ref ae, .ref ar, .ref ad, .ref aW, .ref aS, .ref aN, .ref aR, .ref aG])]) [0] (by decide) rfl
  exact k_iret C hS () (by show some (Value.int (nI (5 + pn + padn pn))) = _; rw [← whole_eq]) (trivial) hP9 hD9 d_MD_whole_17
theorem mw_MD_pack : Mw y_MD_pack b_MD_pack 6 (some .int) 3 := ⟨m_772, m_9, m_771, by decide +kernel⟩
set_option maxHeartbeats 4000000 in
set_option maxRecDepth 100000 in
theorem c_MD_pack (l : Launch) (d : DD) (h : Nat) (an : Nat) (ak : Nat) (au : Nat) (ap : Nat) (aw : Nat) (ac : Nat) (ag : Nat) (ax : Nat) (ao : Nat) (al : Nat) (av : Nat) (ae : Nat) (ar : Nat) (ad : Nat) (aW : Nat) (aS : Nat) (aN : Nat) (aR : Nat) (aG : Nat) (th : Int32) (lt : Int32) (se : Int32) (ln : Int32) (ft : Int32) (pn : Nat) (wn : Nat) (cn : Nat) (on : Nat) (fk : Nat → Int32) (fu : Nat → Int32) (fe : Nat → Int32) (fp : Nat → Int32) (fw : Nat → Int32) (fx : Nat → Int32) (fo : Nat → Int32) (fl : Nat → Int32) (fv : Nat → Int32) (fr9 : Nat → Int32) (fd : Nat → Int32) (fW : Nat → Int32) (fS : Nat → Int32) (fN : Nat → Int32) (fR : Nat → Int32) (fG : Nat → Int32) (pL : List Int32) (wL : List Int32) (told : Int32) (pads : Int32) (fq : Int32) (hbx : ∀ j, j < 256 → fx j = sbx j) (hR : ∀ t, t < 64 → fR t = dgr t) (hG : ∀ j, j < 8 → fG j = dgs j) (hp : BA fp pL) (hpl : pL.length = pn) (hw : BA fw wL) (hwl : wL.length = wn) (hpn : pn ≤ 500) (hr : wn + (5 + pn + padn pn + 32) ≤ 6000) : Ct l y_MD_pack b_MD_pack 6 (some .int) 4 95 0 0 d [(h, ob 1 [.int th, .ref an, .ref ak, .int lt, .int se, .ref au, .int (nI pn), .ref ap, .int (nI wn), .ref aw, .int (nI cn), .ref ac, .int ln, .int ft, .int (nI on), .ref ag, .ref ax, .ref ao, .ref al, .ref av, .ref ae, .ref ar, .ref ad, .ref aW, .ref aS, .ref aN, .ref aR, .ref aG]), (ak, aI d 48 fk), (au, aI d 2 fu), (ae, aB d 600 fe), (ap, aB d 500 fp), (aw, aB d 6000 fw), (ax, aI d 256 fx), (ao, aI d 44 fo), (al, aI d 16 fl), (av, aI d 16 fv), (ar, aB d 800 fr9), (ad, aB d 32 fd), (aW, aI d 64 fW), (aS, aI d 8 fS), (aN, aI d 8 fN), (aR, aI d 64 fR), (aG, aI d 8 fG)] [.ref h, .int told, .int pads, .int fq] (fun (u : (Nat → Int32) × (Nat → Int32) × (Nat → Int32) × (Nat → Int32) × (Nat → Int32) × (Nat → Int32) × (Nat → Int32) × (Nat → Int32) × (Nat → Int32) × (Nat → Int32) × (Nat → Int32)) => match u with | (k2, e2, w2, o2, l2, v2, r2, d2, W2, S2, N2) => some (.int (nI (5 + pn + padn pn + 32)))) (fun (u : (Nat → Int32) × (Nat → Int32) × (Nat → Int32) × (Nat → Int32) × (Nat → Int32) × (Nat → Int32) × (Nat → Int32) × (Nat → Int32) × (Nat → Int32) × (Nat → Int32) × (Nat → Int32)) => match u with | (k2, e2, w2, o2, l2, v2, r2, d2, W2, S2, N2) => BA w2 (wL ++ shp (shf 0 fk) (fu 0) told pads pL fq) ∧ shf 0 k2 = ctrN (shf 0 fk) ((5 + pn + padn pn) / 16) ∧ ∀ j, 16 ≤ j → k2 j = fk j) (fun (u : (Nat → Int32) × (Nat → Int32) × (Nat → Int32) × (Nat → Int32) × (Nat → Int32) × (Nat → Int32) × (Nat → Int32) × (Nat → Int32) × (Nat → Int32) × (Nat → Int32) × (Nat → Int32)) => match u with | (k2, e2, w2, o2, l2, v2, r2, d2, W2, S2, N2) => [(h, ob 1 [.int th, .ref an, .ref ak, .int lt, .int se, .ref au, .int (nI 0), .ref ap, .int (nI (wn + (5 + pn + padn pn + 32))), .ref aw, .int (nI cn), .ref ac, .int ln, .int ft, .int (nI on), .ref ag, .ref ax, .ref ao, .ref al, .ref av, .ref ae, .ref ar, .ref ad, .ref aW, .ref aS, .ref aN, .ref aR, .ref aG]), (ak, aI d 48 k2), (au, aI d 2 (upd fu 0 (fu 0 + nI 1))), (ae, aB d 600 e2), (ap, aB d 500 fp), (aw, aB d 6000 w2), (ax, aI d 256 fx), (ao, aI d 44 o2), (al, aI d 16 l2), (av, aI d 16 v2), (ar, aB d 800 r2), (ad, aB d 32 d2), (aW, aI d 64 W2), (aS, aI d 8 S2), (aN, aI d 8 N2), (aR, aI d 64 fR), (aG, aI d 8 fG)]) := by
  refine Ct.of (by decide +kernel) (Nat.le_of_ble_eq_true rfl) ?_
  intro p e s m below meth c A ls C hP hD hS hl
  have hl : lv_has ls 6 [(0, .ref h), (1, .int told), (2, .int pads), (3, .int fq)] := hl
  have hsz9 := hS.1
  have hpl9 := padn_le pn
  have hpg9 := padn_ge pn
  have h16 := padn_16 pn
  refine lv_aload_n C.x C.b d_MD_pack_0 rfl (lv_at hl 0 rfl) ?_
  refine k_callV (As := []) (rest := []) (wc := [(h, ob 1 [.int th, .ref an, .ref ak, .int lt, .int se, .ref au, .int (nI pn), .ref ap, .int (nI wn), .ref aw, .int (nI cn), .ref ac, .int ln, .int ft, .int (nI on), .ref ag, .ref ax, .ref ao, .ref al, .ref av, .ref ae, .ref ar, .ref ad, .ref aW, .ref aS, .ref aN, .ref aR, .ref aG])]) (wr := [(ak, aI d 48 fk), (au, aI d 2 fu), (ae, aB d 600 fe), (ap, aB d 500 fp), (aw, aB d 6000 fw), (ax, aI d 256 fx), (ao, aI d 44 fo), (al, aI d 16 fl), (av, aI d 16 fv), (ar, aB d 800 fr9), (ad, aB d 32 fd), (aW, aI d 64 fW), (aS, aI d 8 fS), (aN, aI d 8 fN), (aR, aI d 64 fR), (aG, aI d 8 fG)]) C (c_MD_whole l d h an ak au ap aw ac ag ax ao al av ae ar ad aW aS aN aR aG th lt se ln ft pn wn cn on (hpn)) mw_MD_whole ms_20 m_765 hP hD hS [0] [1, 2, 3, 4, 5, 6, 7, 8, 9, 10, 11, 12, 13, 14, 15, 16] rfl rfl (by decide) (by decide) (by decide) 0 rfl rfl rfl rfl hl.1 (Nat.le_of_ble_eq_true rfl) d_MD_pack_1 ⟨Nat.le_of_ble_eq_true rfl, Nat.le_of_ble_eq_true rfl⟩ ⟨by decide, by decide⟩ (fun _ H locs hw_1 hP hD hS => ?_)
  have hP : va_P d.1 clz [(ak, aI d 48 fk), (au, aI d 2 fu), (ae, aB d 600 fe), (ap, aB d 500 fp), (aw, aB d 6000 fw), (ax, aI d 256 fx), (ao, aI d 44 fo), (al, aI d 16 fl), (av, aI d 16 fv), (ar, aB d 800 fr9), (ad, aB d 32 fd), (aW, aI d 64 fW), (aS, aI d 8 fS), (aN, aI d 8 fN), (aR, aI d 64 fR), (aG, aI d 8 fG), (h, ob 1 [.int th, .ref an, .ref ak, .int lt, .int se, .ref au, .int (nI pn), .ref ap, .int (nI wn), .ref aw, .int (nI cn), .ref ac, .int ln, .int ft, .int (nI on), .ref ag, .ref ax, .ref ao, .ref al, .ref av, .ref ae, .ref ar, .ref ad, .ref aW, .ref aS, .ref aN, .ref aR, .ref aG])] H := hP
  have hD : va_D A [(ak, aI d 48 fk), (au, aI d 2 fu), (ae, aB d 600 fe), (ap, aB d 500 fp), (aw, aB d 6000 fw), (ax, aI d 256 fx), (ao, aI d 44 fo), (al, aI d 16 fl), (av, aI d 16 fv), (ar, aB d 800 fr9), (ad, aB d 32 fd), (aW, aI d 64 fW), (aS, aI d 8 fS), (aN, aI d 8 fN), (aR, aI d 64 fR), (aG, aI d 8 fG), (h, ob 1 [.int th, .ref an, .ref ak, .int lt, .int se, .ref au, .int (nI pn), .ref ap, .int (nI wn), .ref aw, .int (nI cn), .ref ac, .int ln, .int ft, .int (nI on), .ref ag, .ref ax, .ref ao, .ref al, .ref av, .ref ae, .ref ar, .ref ad, .ref aW, .ref aS, .ref aN, .ref aR, .ref aG])] := hD
  refine W.eq (g2 := F0 m 4 ls [.int (nI (5 + pn + padn pn))]) rfl ?_
  refine lv_istore (lv' := [(4, .int (nI (5 + pn + padn pn))), (0, .ref h), (1, .int told), (2, .int pads), (3, .int fq)]) C.x C.b d_MD_pack_4 hl (by decide) rfl (fun ls hl => ?_)
  refine lv_iconst (v := nI 0) C.x C.b d_MD_pack_6 (by decide) ?_
  refine lv_istore (lv' := [(5, .int (nI 0)), (4, .int (nI (5 + pn + padn pn))), (0, .ref h), (1, .int told), (2, .int pads), (3, .int fq)]) C.x C.b d_MD_pack_7 hl (by decide) rfl (fun ls hl => ?_)
  refine lv_iload C.x C.b d_MD_pack_9 (lv_at hl 0 rfl) ?_
  refine lv_iconst (v := nI 4) C.x C.b d_MD_pack_11 (by decide) ?_
  refine lv_icmp_ge (tgt := 39) C.x C.b d_MD_pack_12 (by decide) (fun h9 => by first | exact absurd h9 (by decide) | exact absurd (by decide) h9) (fun _ => ?_)
  refine lv_aload_n C.x C.b d_MD_pack_15 rfl (lv_at hl 2 rfl) ?_
  refine k_get C hP 16 rfl rfl i_MD 20 (by decide) m_672 rfl d_MD_pack_16 ?_
  refine lv_iload C.x C.b d_MD_pack_19 (lv_at hl 0 rfl) ?_
  refine lv_iload_n C.x C.b d_MD_pack_21 rfl (lv_at hl 3 rfl) ?_
  refine lv_bipush (v := nI 24) C.x C.b d_MD_pack_22 (by decide) ?_
  refine lv_bipush (v := nI 8) C.x C.b d_MD_pack_24 (by decide) ?_
  refine lv_iload C.x C.b d_MD_pack_26 (lv_at hl 0 rfl) ?_
  refine lv_imul C.x C.b d_MD_pack_28 ?_
  refine k_top (y := nI 0) (pk_mul _ _) ?_
  refine lv_isub C.x C.b d_MD_pack_29 ?_
  refine k_top (y := nI (24 - 0)) (pk_sub (by omega)) ?_
  refine lv_ishr C.x C.b d_MD_pack_30 ?_
  refine lv_i2b (v := (told >>> ((nI (24 - 0)) &&& 31)).toInt8.toInt32) C.x C.b d_MD_pack_31 rfl ?_
  refine k_bast C hP hD hS 2 rfl (j := 0) (by omega) (by omega) d_MD_pack_32 (fun H locs hP hD hS => ?_)
  have hP : va_P d.1 clz [(ak, aI d 48 fk), (au, aI d 2 fu), (ae, aB d 600 (upd fe 0 (((told >>> ((nI (24 - 0)) &&& 31)).toInt8.toInt32).toInt8.toInt32))), (ap, aB d 500 fp), (aw, aB d 6000 fw), (ax, aI d 256 fx), (ao, aI d 44 fo), (al, aI d 16 fl), (av, aI d 16 fv), (ar, aB d 800 fr9), (ad, aB d 32 fd), (aW, aI d 64 fW), (aS, aI d 8 fS), (aN, aI d 8 fN), (aR, aI d 64 fR), (aG, aI d 8 fG), (h, ob 1 [.int th, .ref an, .ref ak, .int lt, .int se, .ref au, .int (nI pn), .ref ap, .int (nI wn), .ref aw, .int (nI cn), .ref ac, .int ln, .int ft, .int (nI on), .ref ag, .ref ax, .ref ao, .ref al, .ref av, .ref ae, .ref ar, .ref ad, .ref aW, .ref aS, .ref aN, .ref aR, .ref aG])] H := hP
  have hD : va_D A [(ak, aI d 48 fk), (au, aI d 2 fu), (ae, aB d 600 (upd fe 0 (((told >>> ((nI (24 - 0)) &&& 31)).toInt8.toInt32).toInt8.toInt32))), (ap, aB d 500 fp), (aw, aB d 6000 fw), (ax, aI d 256 fx), (ao, aI d 44 fo), (al, aI d 16 fl), (av, aI d 16 fv), (ar, aB d 800 fr9), (ad, aB d 32 fd), (aW, aI d 64 fW), (aS, aI d 8 fS), (aN, aI d 8 fN), (aR, aI d 64 fR), (aG, aI d 8 fG), (h, ob 1 [.int th, .ref an, .ref ak, .int lt, .int se, .ref au, .int (nI pn), .ref ap, .int (nI wn), .ref aw, .int (nI cn), .ref ac, .int ln, .int ft, .int (nI on), .ref ag, .ref ax, .ref ao, .ref al, .ref av, .ref ae, .ref ar, .ref ad, .ref aW, .ref aS, .ref aN, .ref aR, .ref aG])] := hD
  refine lv_iinc (v := nI 1) (lv' := [(5, .int (nI 1)), (4, .int (nI (5 + pn + padn pn))), (0, .ref h), (1, .int told), (2, .int pads), (3, .int fq)]) C.x C.b d_MD_pack_33 hl (k := 0) rfl (by decide) (by decide) rfl (fun ls hl => ?_)
  refine lv_goto (tgt := 9) C.x C.b d_MD_pack_36 (by decide) ?_
  refine lv_iload C.x C.b d_MD_pack_9 (lv_at hl 0 rfl) ?_
  refine lv_iconst (v := nI 4) C.x C.b d_MD_pack_11 (by decide) ?_
  refine lv_icmp_ge (tgt := 39) C.x C.b d_MD_pack_12 (by decide) (fun h9 => by first | exact absurd h9 (by decide) | exact absurd (by decide) h9) (fun _ => ?_)
  refine lv_aload_n C.x C.b d_MD_pack_15 rfl (lv_at hl 2 rfl) ?_
  refine k_get C hP 16 rfl rfl i_MD 20 (by decide) m_672 rfl d_MD_pack_16 ?_
  refine lv_iload C.x C.b d_MD_pack_19 (lv_at hl 0 rfl) ?_
  refine lv_iload_n C.x C.b d_MD_pack_21 rfl (lv_at hl 3 rfl) ?_
  refine lv_bipush (v := nI 24) C.x C.b d_MD_pack_22 (by decide) ?_
  refine lv_bipush (v := nI 8) C.x C.b d_MD_pack_24 (by decide) ?_
  refine lv_iload C.x C.b d_MD_pack_26 (lv_at hl 0 rfl) ?_
  refine lv_imul C.x C.b d_MD_pack_28 ?_
  refine k_top (y := nI 8) (pk_mul _ _) ?_
  refine lv_isub C.x C.b d_MD_pack_29 ?_
  refine k_top (y := nI 16) (by decide) ?_
  refine lv_ishr C.x C.b d_MD_pack_30 ?_
  refine lv_i2b (v := (told >>> ((nI 16) &&& 31)).toInt8.toInt32) C.x C.b d_MD_pack_31 rfl ?_
  refine k_bast C hP hD hS 2 rfl (j := 1) (by omega) (by omega) d_MD_pack_32 (fun H locs hP hD hS => ?_)
  have hP : va_P d.1 clz [(ak, aI d 48 fk), (au, aI d 2 fu), (ae, aB d 600 (upd (upd fe 0 (((told >>> ((nI (24 - 0)) &&& 31)).toInt8.toInt32).toInt8.toInt32)) 1 (((told >>> ((nI 16) &&& 31)).toInt8.toInt32).toInt8.toInt32))), (ap, aB d 500 fp), (aw, aB d 6000 fw), (ax, aI d 256 fx), (ao, aI d 44 fo), (al, aI d 16 fl), (av, aI d 16 fv), (ar, aB d 800 fr9), (ad, aB d 32 fd), (aW, aI d 64 fW), (aS, aI d 8 fS), (aN, aI d 8 fN), (aR, aI d 64 fR), (aG, aI d 8 fG), (h, ob 1 [.int th, .ref an, .ref ak, .int lt, .int se, .ref au, .int (nI pn), .ref ap, .int (nI wn), .ref aw, .int (nI cn), .ref ac, .int ln, .int ft, .int (nI on), .ref ag, .ref ax, .ref ao, .ref al, .ref av, .ref ae, .ref ar, .ref ad, .ref aW, .ref aS, .ref aN, .ref aR, .ref aG])] H := hP
  have hD : va_D A [(ak, aI d 48 fk), (au, aI d 2 fu), (ae, aB d 600 (upd (upd fe 0 (((told >>> ((nI (24 - 0)) &&& 31)).toInt8.toInt32).toInt8.toInt32)) 1 (((told >>> ((nI 16) &&& 31)).toInt8.toInt32).toInt8.toInt32))), (ap, aB d 500 fp), (aw, aB d 6000 fw), (ax, aI d 256 fx), (ao, aI d 44 fo), (al, aI d 16 fl), (av, aI d 16 fv), (ar, aB d 800 fr9), (ad, aB d 32 fd), (aW, aI d 64 fW), (aS, aI d 8 fS), (aN, aI d 8 fN), (aR, aI d 64 fR), (aG, aI d 8 fG), (h, ob 1 [.int th, .ref an, .ref ak, .int lt, .int se, .ref au, .int (nI pn), .ref ap, .int (nI wn), .ref aw, .int (nI cn), .ref ac, .int ln, .int ft, .int (nI on), .ref ag, .ref ax, .ref ao, .ref al, .ref av, .ref ae, .ref ar, .ref ad, .ref aW, .ref aS, .ref aN, .ref aR, .ref aG])] := hD
  refine lv_iinc (v := nI 2) (lv' := [(5, .int (nI 2)), (4, .int (nI (5 + pn + padn pn))), (0, .ref h), (1, .int told), (2, .int pads), (3, .int fq)]) C.x C.b d_MD_pack_33 hl (k := 0) rfl (by decide) (by decide) rfl (fun ls hl => ?_)
  refine lv_goto (tgt := 9) C.x C.b d_MD_pack_36 (by decide) ?_
  refine lv_iload C.x C.b d_MD_pack_9 (lv_at hl 0 rfl) ?_
  refine lv_iconst (v := nI 4) C.x C.b d_MD_pack_11 (by decide) ?_
  refine lv_icmp_ge (tgt := 39) C.x C.b d_MD_pack_12 (by decide) (fun h9 => by first | exact absurd h9 (by decide) | exact absurd (by decide) h9) (fun _ => ?_)
  refine lv_aload_n C.x C.b d_MD_pack_15 rfl (lv_at hl 2 rfl) ?_
  refine k_get C hP 16 rfl rfl i_MD 20 (by decide) m_672 rfl d_MD_pack_16 ?_
  refine lv_iload C.x C.b d_MD_pack_19 (lv_at hl 0 rfl) ?_
  refine lv_iload_n C.x C.b d_MD_pack_21 rfl (lv_at hl 3 rfl) ?_
  refine lv_bipush (v := nI 24) C.x C.b d_MD_pack_22 (by decide) ?_
  refine lv_bipush (v := nI 8) C.x C.b d_MD_pack_24 (by decide) ?_
  refine lv_iload C.x C.b d_MD_pack_26 (lv_at hl 0 rfl) ?_
  refine lv_imul C.x C.b d_MD_pack_28 ?_
  refine k_top (y := nI 16) (pk_mul _ _) ?_
  refine lv_isub C.x C.b d_MD_pack_29 ?_
  refine k_top (y := nI 8) (by decide) ?_
  refine lv_ishr C.x C.b d_MD_pack_30 ?_
  refine lv_i2b (v := (told >>> ((nI 8) &&& 31)).toInt8.toInt32) C.x C.b d_MD_pack_31 rfl ?_
  refine k_bast C hP hD hS 2 rfl (j := 2) (by omega) (by omega) d_MD_pack_32 (fun H locs hP hD hS => ?_)
  have hP : va_P d.1 clz [(ak, aI d 48 fk), (au, aI d 2 fu), (ae, aB d 600 (upd (upd (upd fe 0 (((told >>> ((nI (24 - 0)) &&& 31)).toInt8.toInt32).toInt8.toInt32)) 1 (((told >>> ((nI 16) &&& 31)).toInt8.toInt32).toInt8.toInt32)) 2 (((told >>> ((nI 8) &&& 31)).toInt8.toInt32).toInt8.toInt32))), (ap, aB d 500 fp), (aw, aB d 6000 fw), (ax, aI d 256 fx), (ao, aI d 44 fo), (al, aI d 16 fl), (av, aI d 16 fv), (ar, aB d 800 fr9), (ad, aB d 32 fd), (aW, aI d 64 fW), (aS, aI d 8 fS), (aN, aI d 8 fN), (aR, aI d 64 fR), (aG, aI d 8 fG), (h, ob 1 [.int th, .ref an, .ref ak, .int lt, .int se, .ref au, .int (nI pn), .ref ap, .int (nI wn), .ref aw, .int (nI cn), .ref ac, .int ln, .int ft, .int (nI on), .ref ag, .ref ax, .ref ao, .ref al, .ref av, .ref ae, .ref ar, .ref ad, .ref aW, .ref aS, .ref aN, .ref aR, .ref aG])] H := hP
  have hD : va_D A [(ak, aI d 48 fk), (au, aI d 2 fu), (ae, aB d 600 (upd (upd (upd fe 0 (((told >>> ((nI (24 - 0)) &&& 31)).toInt8.toInt32).toInt8.toInt32)) 1 (((told >>> ((nI 16) &&& 31)).toInt8.toInt32).toInt8.toInt32)) 2 (((told >>> ((nI 8) &&& 31)).toInt8.toInt32).toInt8.toInt32))), (ap, aB d 500 fp), (aw, aB d 6000 fw), (ax, aI d 256 fx), (ao, aI d 44 fo), (al, aI d 16 fl), (av, aI d 16 fv), (ar, aB d 800 fr9), (ad, aB d 32 fd), (aW, aI d 64 fW), (aS, aI d 8 fS), (aN, aI d 8 fN), (aR, aI d 64 fR), (aG, aI d 8 fG), (h, ob 1 [.int th, .ref an, .ref ak, .int lt, .int se, .ref au, .int (nI pn), .ref ap, .int (nI wn), .ref aw, .int (nI cn), .ref ac, .int ln, .int ft, .int (nI on), .ref ag, .ref ax, .ref ao, .ref al, .ref av, .ref ae, .ref ar, .ref ad, .ref aW, .ref aS, .ref aN, .ref aR, .ref aG])] := hD
  refine lv_iinc (v := nI 3) (lv' := [(5, .int (nI 3)), (4, .int (nI (5 + pn + padn pn))), (0, .ref h), (1, .int told), (2, .int pads), (3, .int fq)]) C.x C.b d_MD_pack_33 hl (k := 0) rfl (by decide) (by decide) rfl (fun ls hl => ?_)
  refine lv_goto (tgt := 9) C.x C.b d_MD_pack_36 (by decide) ?_
  refine lv_iload C.x C.b d_MD_pack_9 (lv_at hl 0 rfl) ?_
  refine lv_iconst (v := nI 4) C.x C.b d_MD_pack_11 (by decide) ?_
  refine lv_icmp_ge (tgt := 39) C.x C.b d_MD_pack_12 (by decide) (fun h9 => by first | exact absurd h9 (by decide) | exact absurd (by decide) h9) (fun _ => ?_)
  refine lv_aload_n C.x C.b d_MD_pack_15 rfl (lv_at hl 2 rfl) ?_
  refine k_get C hP 16 rfl rfl i_MD 20 (by decide) m_672 rfl d_MD_pack_16 ?_
  refine lv_iload C.x C.b d_MD_pack_19 (lv_at hl 0 rfl) ?_
  refine lv_iload_n C.x C.b d_MD_pack_21 rfl (lv_at hl 3 rfl) ?_
  refine lv_bipush (v := nI 24) C.x C.b d_MD_pack_22 (by decide) ?_
  refine lv_bipush (v := nI 8) C.x C.b d_MD_pack_24 (by decide) ?_
  refine lv_iload C.x C.b d_MD_pack_26 (lv_at hl 0 rfl) ?_
  refine lv_imul C.x C.b d_MD_pack_28 ?_
  refine k_top (y := nI 24) (pk_mul _ _) ?_
  refine lv_isub C.x C.b d_MD_pack_29 ?_
  refine k_top (y := nI 0) (by decide) ?_
  refine lv_ishr C.x C.b d_MD_pack_30 ?_
  refine lv_i2b (v := (told >>> ((nI 0) &&& 31)).toInt8.toInt32) C.x C.b d_MD_pack_31 rfl ?_
  refine k_bast C hP hD hS 2 rfl (j := 3) (by omega) (by omega) d_MD_pack_32 (fun H locs hP hD hS => ?_)
  have hP : va_P d.1 clz [(ak, aI d 48 fk), (au, aI d 2 fu), (ae, aB d 600 (upd (upd (upd (upd fe 0 (((told >>> ((nI (24 - 0)) &&& 31)).toInt8.toInt32).toInt8.toInt32)) 1 (((told >>> ((nI 16) &&& 31)).toInt8.toInt32).toInt8.toInt32)) 2 (((told >>> ((nI 8) &&& 31)).toInt8.toInt32).toInt8.toInt32)) 3 (((told >>> ((nI 0) &&& 31)).toInt8.toInt32).toInt8.toInt32))), (ap, aB d 500 fp), (aw, aB d 6000 fw), (ax, aI d 256 fx), (ao, aI d 44 fo), (al, aI d 16 fl), (av, aI d 16 fv), (ar, aB d 800 fr9), (ad, aB d 32 fd), (aW, aI d 64 fW), (aS, aI d 8 fS), (aN, aI d 8 fN), (aR, aI d 64 fR), (aG, aI d 8 fG), (h, ob 1 [.int th, .ref an, .ref ak, .int lt, .int se, .ref au, .int (nI pn), .ref ap, .int (nI wn), .ref aw, .int (nI cn), .ref ac, .int ln, .int ft, .int (nI on), .ref ag, .ref ax, .ref ao, .ref al, .ref av, .ref ae, .ref ar, .ref ad, .ref aW, .ref aS, .ref aN, .ref aR, .ref aG])] H := hP
  have hD : va_D A [(ak, aI d 48 fk), (au, aI d 2 fu), (ae, aB d 600 (upd (upd (upd (upd fe 0 (((told >>> ((nI (24 - 0)) &&& 31)).toInt8.toInt32).toInt8.toInt32)) 1 (((told >>> ((nI 16) &&& 31)).toInt8.toInt32).toInt8.toInt32)) 2 (((told >>> ((nI 8) &&& 31)).toInt8.toInt32).toInt8.toInt32)) 3 (((told >>> ((nI 0) &&& 31)).toInt8.toInt32).toInt8.toInt32))), (ap, aB d 500 fp), (aw, aB d 6000 fw), (ax, aI d 256 fx), (ao, aI d 44 fo), (al, aI d 16 fl), (av, aI d 16 fv), (ar, aB d 800 fr9), (ad, aB d 32 fd), (aW, aI d 64 fW), (aS, aI d 8 fS), (aN, aI d 8 fN), (aR, aI d 64 fR), (aG, aI d 8 fG), (h, ob 1 [.int th, .ref an, .ref ak, .int lt, .int se, .ref au, .int (nI pn), .ref ap, .int (nI wn), .ref aw, .int (nI cn), .ref ac, .int ln, .int ft, .int (nI on), .ref ag, .ref ax, .ref ao, .ref al, .ref av, .ref ae, .ref ar, .ref ad, .ref aW, .ref aS, .ref aN, .ref aR, .ref aG])] := hD
  refine lv_iinc (v := nI 4) (lv' := [(5, .int (nI 4)), (4, .int (nI (5 + pn + padn pn))), (0, .ref h), (1, .int told), (2, .int pads), (3, .int fq)]) C.x C.b d_MD_pack_33 hl (k := 0) rfl (by decide) (by decide) rfl (fun ls hl => ?_)
  refine lv_goto (tgt := 9) C.x C.b d_MD_pack_36 (by decide) ?_
  refine lv_iload C.x C.b d_MD_pack_9 (lv_at hl 0 rfl) ?_
  refine lv_iconst (v := nI 4) C.x C.b d_MD_pack_11 (by decide) ?_
  refine lv_icmp_ge (tgt := 39) C.x C.b d_MD_pack_12 (by decide) (fun _ => ?_) (fun h9 => by first | exact absurd h9 (by decide) | exact absurd (by decide) h9)
  refine lv_aload_n C.x C.b d_MD_pack_39 rfl (lv_at hl 2 rfl) ?_
  refine k_get C hP 16 rfl rfl i_MD 20 (by decide) m_672 rfl d_MD_pack_40 ?_
  refine lv_iconst (v := nI 4) C.x C.b d_MD_pack_43 (by decide) ?_
  refine lv_iload_n C.x C.b d_MD_pack_44 rfl (lv_at hl 4 rfl) ?_
  refine lv_i2b (v := pads.toInt8.toInt32) C.x C.b d_MD_pack_45 rfl ?_
  refine k_bast C hP hD hS 2 rfl (j := 4) (by omega) (by omega) d_MD_pack_46 (fun H locs hP hD hS => ?_)
  have hP : va_P d.1 clz [(ak, aI d 48 fk), (au, aI d 2 fu), (ae, aB d 600 (upd (upd (upd (upd (upd fe 0 (((told >>> ((nI (24 - 0)) &&& 31)).toInt8.toInt32).toInt8.toInt32)) 1 (((told >>> ((nI 16) &&& 31)).toInt8.toInt32).toInt8.toInt32)) 2 (((told >>> ((nI 8) &&& 31)).toInt8.toInt32).toInt8.toInt32)) 3 (((told >>> ((nI 0) &&& 31)).toInt8.toInt32).toInt8.toInt32)) 4 pads.toInt8.toInt32.toInt8.toInt32)), (ap, aB d 500 fp), (aw, aB d 6000 fw), (ax, aI d 256 fx), (ao, aI d 44 fo), (al, aI d 16 fl), (av, aI d 16 fv), (ar, aB d 800 fr9), (ad, aB d 32 fd), (aW, aI d 64 fW), (aS, aI d 8 fS), (aN, aI d 8 fN), (aR, aI d 64 fR), (aG, aI d 8 fG), (h, ob 1 [.int th, .ref an, .ref ak, .int lt, .int se, .ref au, .int (nI pn), .ref ap, .int (nI wn), .ref aw, .int (nI cn), .ref ac, .int ln, .int ft, .int (nI on), .ref ag, .ref ax, .ref ao, .ref al, .ref av, .ref ae, .ref ar, .ref ad, .ref aW, .ref aS, .ref aN, .ref aR, .ref aG])] H := hP
  have hD : va_D A [(ak, aI d 48 fk), (au, aI d 2 fu), (ae, aB d 600 (upd (upd (upd (upd (upd fe 0 (((told >>> ((nI (24 - 0)) &&& 31)).toInt8.toInt32).toInt8.toInt32)) 1 (((told >>> ((nI 16) &&& 31)).toInt8.toInt32).toInt8.toInt32)) 2 (((told >>> ((nI 8) &&& 31)).toInt8.toInt32).toInt8.toInt32)) 3 (((told >>> ((nI 0) &&& 31)).toInt8.toInt32).toInt8.toInt32)) 4 pads.toInt8.toInt32.toInt8.toInt32)), (ap, aB d 500 fp), (aw, aB d 6000 fw), (ax, aI d 256 fx), (ao, aI d 44 fo), (al, aI d 16 fl), (av, aI d 16 fv), (ar, aB d 800 fr9), (ad, aB d 32 fd), (aW, aI d 64 fW), (aS, aI d 8 fS), (aN, aI d 8 fN), (aR, aI d 64 fR), (aG, aI d 8 fG), (h, ob 1 [.int th, .ref an, .ref ak, .int lt, .int se, .ref au, .int (nI pn), .ref ap, .int (nI wn), .ref aw, .int (nI cn), .ref ac, .int ln, .int ft, .int (nI on), .ref ag, .ref ax, .ref ao, .ref al, .ref av, .ref ae, .ref ar, .ref ad, .ref aW, .ref aS, .ref aN, .ref aR, .ref aG])] := hD
  refine lv_iconst (v := nI 0) C.x C.b d_MD_pack_47 (by decide) ?_
  refine lv_istore (lv' := [(5, .int (nI 0)), (4, .int (nI (5 + pn + padn pn))), (0, .ref h), (1, .int told), (2, .int pads), (3, .int fq)]) C.x C.b d_MD_pack_48 hl (by decide) rfl (fun ls hl => ?_)
  have L50 : ∀ (fuel : Nat) (k9 : Nat) (g8 : Nat → Int32), pn - k9 < fuel → (k9 ≤ pn) → (BA g8 (wb told ++ [pads &&& nI 255] ++ pL.take k9)) → ∀ (H : Heap) (locs : List Loc) (ls : Array Slot), va_P d.1 clz [(h, ob 1 [.int th, .ref an, .ref ak, .int lt, .int se, .ref au, .int (nI pn), .ref ap, .int (nI wn), .ref aw, .int (nI cn), .ref ac, .int ln, .int ft, .int (nI on), .ref ag, .ref ax, .ref ao, .ref al, .ref av, .ref ae, .ref ar, .ref ad, .ref aW, .ref aS, .ref aN, .ref aR, .ref aG]), (ak, aI d 48 fk), (au, aI d 2 fu), (ae, aB d 600 g8), (ap, aB d 500 fp), (aw, aB d 6000 fw), (ax, aI d 256 fx), (ao, aI d 44 fo), (al, aI d 16 fl), (av, aI d 16 fv), (ar, aB d 800 fr9), (ad, aB d 32 fd), (aW, aI d 64 fW), (aS, aI d 8 fS), (aN, aI d 8 fN), (aR, aI d 64 fR), (aG, aI d 8 fG)] H → va_D A [(h, ob 1 [.int th, .ref an, .ref ak, .int lt, .int se, .ref au, .int (nI pn), .ref ap, .int (nI wn), .ref aw, .int (nI cn), .ref ac, .int ln, .int ft, .int (nI on), .ref ag, .ref ax, .ref ao, .ref al, .ref av, .ref ae, .ref ar, .ref ad, .ref aW, .ref aS, .ref aN, .ref aR, .ref aG]), (ak, aI d 48 fk), (au, aI d 2 fu), (ae, aB d 600 g8), (ap, aB d 500 fp), (aw, aB d 6000 fw), (ax, aI d 256 fx), (ao, aI d 44 fo), (al, aI d 16 fl), (av, aI d 16 fv), (ar, aB d 800 fr9), (ad, aB d 32 fd), (aW, aI d 64 fW), (aS, aI d 8 fS), (aN, aI d 8 fN), (aR, aI d 64 fR), (aG, aI d 8 fG)] → va_S A s.heap H locs → lv_has ls 6 [(0, .ref h), (1, .int told), (2, .int pads), (3, .int fq), (4, .int (nI (5 + pn + padn pn))), (5, .int (nI k9))] → W p l e (Rm 4 95 0 0) s m ([.ref h, .int told, .int pads, .int fq] : List Value).toArray below meth c H locs 0 0 (MQ below (Cout d A (fun (u : (Nat → Int32) × (Nat → Int32) × (Nat → Int32) × (Nat → Int32) × (Nat → Int32) × (Nat → Int32) × (Nat → Int32) × (Nat → Int32) × (Nat → Int32) × (Nat → Int32) × (Nat → Int32)) => match u with | (k2, e2, w2, o2, l2, v2, r2, d2, W2, S2, N2) => some (.int (nI (5 + pn + padn pn + 32)))) (fun (u : (Nat → Int32) × (Nat → Int32) × (Nat → Int32) × (Nat → Int32) × (Nat → Int32) × (Nat → Int32) × (Nat → Int32) × (Nat → Int32) × (Nat → Int32) × (Nat → Int32) × (Nat → Int32)) => match u with | (k2, e2, w2, o2, l2, v2, r2, d2, W2, S2, N2) => BA w2 (wL ++ shp (shf 0 fk) (fu 0) told pads pL fq) ∧ shf 0 k2 = ctrN (shf 0 fk) ((5 + pn + padn pn) / 16) ∧ ∀ j, 16 ≤ j → k2 j = fk j) (fun (u : (Nat → Int32) × (Nat → Int32) × (Nat → Int32) × (Nat → Int32) × (Nat → Int32) × (Nat → Int32) × (Nat → Int32) × (Nat → Int32) × (Nat → Int32) × (Nat → Int32) × (Nat → Int32)) => match u with | (k2, e2, w2, o2, l2, v2, r2, d2, W2, S2, N2) => [(h, ob 1 [.int th, .ref an, .ref ak, .int lt, .int se, .ref au, .int (nI 0), .ref ap, .int (nI (wn + (5 + pn + padn pn + 32))), .ref aw, .int (nI cn), .ref ac, .int ln, .int ft, .int (nI on), .ref ag, .ref ax, .ref ao, .ref al, .ref av, .ref ae, .ref ar, .ref ad, .ref aW, .ref aS, .ref aN, .ref aR, .ref aG]), (ak, aI d 48 k2), (au, aI d 2 (upd fu 0 (fu 0 + nI 1))), (ae, aB d 600 e2), (ap, aB d 500 fp), (aw, aB d 6000 w2), (ax, aI d 256 fx), (ao, aI d 44 o2), (al, aI d 16 l2), (av, aI d 16 v2), (ar, aB d 800 r2), (ad, aB d 32 d2), (aW, aI d 64 W2), (aS, aI d 8 S2), (aN, aI d 8 N2), (aR, aI d 64 fR), (aG, aI d 8 fG)])) ([.ref h, .int told, .int pads, .int fq] : List Value).toArray s 0 0 A) (F0 m 50 ls []) := by
    intro fuel
    induction fuel with
    | zero => intro k9 g8 h9; exact absurd h9 (Nat.not_lt_zero _)
    | succ fuel ih50 =>
      intro k9 g8 hfu50 hk9 hg8 H locs ls hP hD hS hl
      refine lv_iload C.x C.b d_MD_pack_50 (lv_at hl 5 rfl) ?_
      refine lv_aload_n C.x C.b d_MD_pack_52 rfl (lv_at hl 0 rfl) ?_
      refine k_get C hP 0 rfl rfl i_MD 6 (by decide) m_658 rfl d_MD_pack_53 ?_
      refine lv_icmp_ge (tgt := 81) C.x C.b d_MD_pack_56 (by decide) (fun hc56 => ?_) (fun hc56 => ?_)
      · rw [nI_leI (by omega) (by omega)] at hc56
        refine lv_iconst (v := nI 5) C.x C.b d_MD_pack_81 (by decide) ?_
        refine lv_aload_n C.x C.b d_MD_pack_82 rfl (lv_at hl 0 rfl) ?_
        refine k_get C hP 0 rfl rfl i_MD 6 (by decide) m_658 rfl d_MD_pack_83 ?_
        refine lv_iadd C.x C.b d_MD_pack_86 ?_
        refine k_top (y := nI (5 + pn)) (nI_add _ _) ?_
        refine lv_istore (lv' := [(5, .int (nI (5 + pn))), (0, .ref h), (1, .int told), (2, .int pads), (3, .int fq), (4, .int (nI (5 + pn + padn pn)))]) C.x C.b d_MD_pack_87 hl (by decide) rfl (fun ls hl => ?_)
        have L89 : ∀ (fuel : Nat) (i : Nat) (g8 : Nat → Int32), padn pn - i < fuel → (i ≤ padn pn) → (BA g8 (wb told ++ [pads &&& nI 255] ++ pL ++ pdb fq i)) → ∀ (H : Heap) (locs : List Loc) (ls : Array Slot), va_P d.1 clz [(h, ob 1 [.int th, .ref an, .ref ak, .int lt, .int se, .ref au, .int (nI pn), .ref ap, .int (nI wn), .ref aw, .int (nI cn), .ref ac, .int ln, .int ft, .int (nI on), .ref ag, .ref ax, .ref ao, .ref al, .ref av, .ref ae, .ref ar, .ref ad, .ref aW, .ref aS, .ref aN, .ref aR, .ref aG]), (ak, aI d 48 fk), (au, aI d 2 fu), (ae, aB d 600 g8), (ap, aB d 500 fp), (aw, aB d 6000 fw), (ax, aI d 256 fx), (ao, aI d 44 fo), (al, aI d 16 fl), (av, aI d 16 fv), (ar, aB d 800 fr9), (ad, aB d 32 fd), (aW, aI d 64 fW), (aS, aI d 8 fS), (aN, aI d 8 fN), (aR, aI d 64 fR), (aG, aI d 8 fG)] H → va_D A [(h, ob 1 [.int th, .ref an, .ref ak, .int lt, .int se, .ref au, .int (nI pn), .ref ap, .int (nI wn), .ref aw, .int (nI cn), .ref ac, .int ln, .int ft, .int (nI on), .ref ag, .ref ax, .ref ao, .ref al, .ref av, .ref ae, .ref ar, .ref ad, .ref aW, .ref aS, .ref aN, .ref aR, .ref aG]), (ak, aI d 48 fk), (au, aI d 2 fu), (ae, aB d 600 g8), (ap, aB d 500 fp), (aw, aB d 6000 fw), (ax, aI d 256 fx), (ao, aI d 44 fo), (al, aI d 16 fl), (av, aI d 16 fv), (ar, aB d 800 fr9), (ad, aB d 32 fd), (aW, aI d 64 fW), (aS, aI d 8 fS), (aN, aI d 8 fN), (aR, aI d 64 fR), (aG, aI d 8 fG)] → va_S A s.heap H locs → lv_has ls 6 [(0, .ref h), (1, .int told), (2, .int pads), (3, .int fq), (4, .int (nI (5 + pn + padn pn))), (5, .int (nI (5 + pn + i)))] → W p l e (Rm 4 95 0 0) s m ([.ref h, .int told, .int pads, .int fq] : List Value).toArray below meth c H locs 0 0 (MQ below (Cout d A (fun (u : (Nat → Int32) × (Nat → Int32) × (Nat → Int32) × (Nat → Int32) × (Nat → Int32) × (Nat → Int32) × (Nat → Int32) × (Nat → Int32) × (Nat → Int32) × (Nat → Int32) × (Nat → Int32)) => match u with | (k2, e2, w2, o2, l2, v2, r2, d2, W2, S2, N2) => some (.int (nI (5 + pn + padn pn + 32)))) (fun (u : (Nat → Int32) × (Nat → Int32) × (Nat → Int32) × (Nat → Int32) × (Nat → Int32) × (Nat → Int32) × (Nat → Int32) × (Nat → Int32) × (Nat → Int32) × (Nat → Int32) × (Nat → Int32)) => match u with | (k2, e2, w2, o2, l2, v2, r2, d2, W2, S2, N2) => BA w2 (wL ++ shp (shf 0 fk) (fu 0) told pads pL fq) ∧ shf 0 k2 = ctrN (shf 0 fk) ((5 + pn + padn pn) / 16) ∧ ∀ j, 16 ≤ j → k2 j = fk j) (fun (u : (Nat → Int32) × (Nat → Int32) × (Nat → Int32) × (Nat → Int32) × (Nat → Int32) × (Nat → Int32) × (Nat → Int32) × (Nat → Int32) × (Nat → Int32) × (Nat → Int32) × (Nat → Int32)) => match u with | (k2, e2, w2, o2, l2, v2, r2, d2, W2, S2, N2) => [(h, ob 1 [.int th, .ref an, .ref ak, .int lt, .int se, .ref au, .int (nI 0), .ref ap, .int (nI (wn + (5 + pn + padn pn + 32))), .ref aw, .int (nI cn), .ref ac, .int ln, .int ft, .int (nI on), .ref ag, .ref ax, .ref ao, .ref al, .ref av, .ref ae, .ref ar, .ref ad, .ref aW, .ref aS, .ref aN, .ref aR, .ref aG]), (ak, aI d 48 k2), (au, aI d 2 (upd fu 0 (fu 0 + nI 1))), (ae, aB d 600 e2), (ap, aB d 500 fp), (aw, aB d 6000 w2), (ax, aI d 256 fx), (ao, aI d 44 o2), (al, aI d 16 l2), (av, aI d 16 v2), (ar, aB d 800 r2), (ad, aB d 32 d2), (aW, aI d 64 W2), (aS, aI d 8 S2), (aN, aI d 8 N2), (aR, aI d 64 fR), (aG, aI d 8 fG)])) ([.ref h, .int told, .int pads, .int fq] : List Value).toArray s 0 0 A) (F0 m 89 ls []) := by
          intro fuel
          induction fuel with
          | zero => intro i g8 h9; exact absurd h9 (Nat.not_lt_zero _)
          | succ fuel ih89 =>
            intro i g8 hfu89 hi hg8 H locs ls hP hD hS hl
            refine lv_iload C.x C.b d_MD_pack_89 (lv_at hl 5 rfl) ?_
            refine lv_iload C.x C.b d_MD_pack_91 (lv_at hl 4 rfl) ?_
            refine lv_icmp_ge (tgt := 124) C.x C.b d_MD_pack_93 (by decide) (fun hc93 => ?_) (fun hc93 => ?_)
            · rw [nI_leI (by omega) (by omega)] at hc93
              have ei : i = padn pn := by omega
              have hPk : BA g8 (pkt told pads pL fq) := by unfold pkt; rw [hpl, ← ei]; exact hg8
              have hPl : (pkt told pads pL fq).length = 5 + pn + padn pn := by rw [pkt_len, hpl]
              refine lv_aload_n C.x C.b d_MD_pack_124 rfl (lv_at hl 0 rfl) ?_
              refine lv_iconst (v := nI 0) C.x C.b d_MD_pack_125 (by decide) ?_
              refine lv_iload C.x C.b d_MD_pack_126 (lv_at hl 4 rfl) ?_
              refine k_callV (As := [.int (nI 0), .int (nI (5 + pn + padn pn))]) (rest := []) (wc := [(h, ob 1 [.int th, .ref an, .ref ak, .int lt, .int se, .ref au, .int (nI pn), .ref ap, .int (nI wn), .ref aw, .int (nI cn), .ref ac, .int ln, .int ft, .int (nI on), .ref ag, .ref ax, .ref ao, .ref al, .ref av, .ref ae, .ref ar, .ref ad, .ref aW, .ref aS, .ref aN, .ref aR, .ref aG]), (ak, aI d 48 fk), (au, aI d 2 fu), (ae, aB d 600 g8), (ar, aB d 800 fr9), (ad, aB d 32 fd), (aW, aI d 64 fW), (aS, aI d 8 fS), (aN, aI d 8 fN), (aR, aI d 64 fR), (aG, aI d 8 fG)]) (wr := [(ap, aB d 500 fp), (aw, aB d 6000 fw), (ax, aI d 256 fx), (ao, aI d 44 fo), (al, aI d 16 fl), (av, aI d 16 fv)]) C (c_MD_seal l d h an ak au ap aw ac ag ax ao al av ae ar ad aW aS aN aR aG th lt se (nI pn) (nI wn) (nI cn) ln ft (nI on) fk fu g8 fr9 fd fW fS fN fR fG 0 (5 + pn + padn pn) (pkt told pads pL fq) (hR) (hG) (hPk) (hPl) (by omega) (by omega)) mw_MD_seal ms_22 m_773 hP hD hS [0, 1, 2, 3, 10, 11, 12, 13, 14, 15, 16] [4, 5, 6, 7, 8, 9] rfl rfl (by decide) (by decide) (by decide) 0 rfl rfl rfl rfl hl.1 (Nat.le_of_ble_eq_true rfl) d_MD_pack_128 ⟨Nat.le_of_ble_eq_true rfl, Nat.le_of_ble_eq_true rfl⟩ ⟨by decide, by decide⟩ (fun u9 H locs hd2 hP hD hS => ?_)
              obtain ⟨r2, d2, W2, S2, N2⟩ := u9
              have hP : va_P d.1 clz [(ap, aB d 500 fp), (aw, aB d 6000 fw), (ax, aI d 256 fx), (ao, aI d 44 fo), (al, aI d 16 fl), (av, aI d 16 fv), (h, ob 1 [.int th, .ref an, .ref ak, .int lt, .int se, .ref au, .int (nI pn), .ref ap, .int (nI wn), .ref aw, .int (nI cn), .ref ac, .int ln, .int ft, .int (nI on), .ref ag, .ref ax, .ref ao, .ref al, .ref av, .ref ae, .ref ar, .ref ad, .ref aW, .ref aS, .ref aN, .ref aR, .ref aG]), (ak, aI d 48 fk), (au, aI d 2 fu), (ae, aB d 600 g8), (ar, aB d 800 r2), (ad, aB d 32 d2), (aW, aI d 64 W2), (aS, aI d 8 S2), (aN, aI d 8 N2), (aR, aI d 64 fR), (aG, aI d 8 fG)] H := hP
              have hD : va_D A [(ap, aB d 500 fp), (aw, aB d 6000 fw), (ax, aI d 256 fx), (ao, aI d 44 fo), (al, aI d 16 fl), (av, aI d 16 fv), (h, ob 1 [.int th, .ref an, .ref ak, .int lt, .int se, .ref au, .int (nI pn), .ref ap, .int (nI wn), .ref aw, .int (nI cn), .ref ac, .int ln, .int ft, .int (nI on), .ref ag, .ref ax, .ref ao, .ref al, .ref av, .ref ae, .ref ar, .ref ad, .ref aW, .ref aS, .ref aN, .ref aR, .ref aG]), (ak, aI d 48 fk), (au, aI d 2 fu), (ae, aB d 600 g8), (ar, aB d 800 r2), (ad, aB d 32 d2), (aW, aI d 64 W2), (aS, aI d 8 S2), (aN, aI d 8 N2), (aR, aI d 64 fR), (aG, aI d 8 fG)] := hD
              refine W.eq (g2 := F0 m 131 ls []) rfl ?_
              have hd2 : BA d2 (slb (sealw (shf (16 * 0) fk) (fu 0) (pkt told pads pL fq)) 32) := hd2
              refine lv_aload_n C.x C.b d_MD_pack_131 rfl (lv_at hl 0 rfl) ?_
              refine lv_iconst (v := nI 0) C.x C.b d_MD_pack_132 (by decide) ?_
              refine lv_iconst (v := nI 0) C.x C.b d_MD_pack_133 (by decide) ?_
              refine lv_iload C.x C.b d_MD_pack_134 (lv_at hl 4 rfl) ?_
              refine k_callV (As := [.int (nI 0), .int (nI 0), .int (nI (5 + pn + padn pn))]) (rest := []) (wc := [(h, ob 1 [.int th, .ref an, .ref ak, .int lt, .int se, .ref au, .int (nI pn), .ref ap, .int (nI wn), .ref aw, .int (nI cn), .ref ac, .int ln, .int ft, .int (nI on), .ref ag, .ref ax, .ref ao, .ref al, .ref av, .ref ae, .ref ar, .ref ad, .ref aW, .ref aS, .ref aN, .ref aR, .ref aG]), (ak, aI d 48 fk), (ax, aI d 256 fx), (ao, aI d 44 fo), (al, aI d 16 fl), (av, aI d 16 fv), (ae, aB d 600 g8)]) (wr := [(ap, aB d 500 fp), (aw, aB d 6000 fw), (au, aI d 2 fu), (ar, aB d 800 r2), (ad, aB d 32 d2), (aW, aI d 64 W2), (aS, aI d 8 S2), (aN, aI d 8 N2), (aR, aI d 64 fR), (aG, aI d 8 fG)]) C (c_MD_cipher l d h an ak au ap aw ac ag ax ao al av ae ar ad aW aS aN aR aG th lt se (nI pn) (nI wn) (nI cn) ln ft (nI on) fk fx fo fl fv g8 0 0 (5 + pn + padn pn) (hbx) (by omega) (⟨(5 + pn + padn pn) / 16, by omega⟩) (by omega)) mw_MD_cipher ms_26 m_792 hP hD hS [6, 7, 2, 3, 4, 5, 9] [0, 1, 8, 10, 11, 12, 13, 14, 15, 16] rfl rfl (by decide) (by decide) (by decide) 6 rfl rfl rfl rfl hl.1 (Nat.le_of_ble_eq_true rfl) d_MD_pack_136 ⟨Nat.le_of_ble_eq_true rfl, Nat.le_of_ble_eq_true rfl⟩ ⟨by decide, by decide⟩ (fun u9 H locs hk2 hP hD hS => ?_)
              obtain ⟨k2, o2, l2, v2, e2⟩ := u9
              have hP : va_P d.1 clz [(ap, aB d 500 fp), (aw, aB d 6000 fw), (au, aI d 2 fu), (ar, aB d 800 r2), (ad, aB d 32 d2), (aW, aI d 64 W2), (aS, aI d 8 S2), (aN, aI d 8 N2), (aR, aI d 64 fR), (aG, aI d 8 fG), (h, ob 1 [.int th, .ref an, .ref ak, .int lt, .int se, .ref au, .int (nI pn), .ref ap, .int (nI wn), .ref aw, .int (nI cn), .ref ac, .int ln, .int ft, .int (nI on), .ref ag, .ref ax, .ref ao, .ref al, .ref av, .ref ae, .ref ar, .ref ad, .ref aW, .ref aS, .ref aN, .ref aR, .ref aG]), (ak, aI d 48 k2), (ax, aI d 256 fx), (ao, aI d 44 o2), (al, aI d 16 l2), (av, aI d 16 v2), (ae, aB d 600 e2)] H := hP
              have hD : va_D A [(ap, aB d 500 fp), (aw, aB d 6000 fw), (au, aI d 2 fu), (ar, aB d 800 r2), (ad, aB d 32 d2), (aW, aI d 64 W2), (aS, aI d 8 S2), (aN, aI d 8 N2), (aR, aI d 64 fR), (aG, aI d 8 fG), (h, ob 1 [.int th, .ref an, .ref ak, .int lt, .int se, .ref au, .int (nI pn), .ref ap, .int (nI wn), .ref aw, .int (nI cn), .ref ac, .int ln, .int ft, .int (nI on), .ref ag, .ref ax, .ref ao, .ref al, .ref av, .ref ae, .ref ar, .ref ad, .ref aW, .ref aS, .ref aN, .ref aR, .ref aG]), (ak, aI d 48 k2), (ax, aI d 256 fx), (ao, aI d 44 o2), (al, aI d 16 l2), (av, aI d 16 v2), (ae, aB d 600 e2)] := hD
              refine W.eq (g2 := F0 m 139 ls []) rfl ?_
              have hk2 : shf 0 k2 = ctrN (shf 0 fk) ((5 + pn + padn pn - 0) / 16) ∧ (∀ j, (j < 0 ∨ 0 + 16 ≤ j) → k2 j = fk j) ∧ ∀ i, e2 i = cph (shf 0 fk) 0 (5 + pn + padn pn) g8 i := hk2
              have hEn : BA e2 (enc (shf 0 fk) (pkt told pads pL fq)) := cph_enc hPk hPl hk2.2.2
              have hEl : (enc (shf 0 fk) (pkt told pads pL fq)).length = 5 + pn + padn pn := by rw [enc_len, hPl]
              have hSl : (shp (shf 0 fk) (fu 0) told pads pL fq).length = 5 + pn + padn pn + 32 := by unfold shp; rw [List.length_append, hEl, slb_len]
              refine lv_iconst (v := nI 0) C.x C.b d_MD_pack_139 (by decide) ?_
              refine lv_istore (lv' := [(5, .int (nI 0)), (0, .ref h), (1, .int told), (2, .int pads), (3, .int fq), (4, .int (nI (5 + pn + padn pn)))]) C.x C.b d_MD_pack_140 hl (by decide) rfl (fun ls hl => ?_)
              have L142 : ∀ (fuel : Nat) (k8 : Nat) (gw : Nat → Int32), 5 + pn + padn pn + 32 - k8 < fuel → (k8 ≤ 5 + pn + padn pn + 32) → (BA gw (wL ++ (shp (shf 0 fk) (fu 0) told pads pL fq).take k8)) → ∀ (H : Heap) (locs : List Loc) (ls : Array Slot), va_P d.1 clz [(h, ob 1 [.int th, .ref an, .ref ak, .int lt, .int se, .ref au, .int (nI pn), .ref ap, .int (nI wn), .ref aw, .int (nI cn), .ref ac, .int ln, .int ft, .int (nI on), .ref ag, .ref ax, .ref ao, .ref al, .ref av, .ref ae, .ref ar, .ref ad, .ref aW, .ref aS, .ref aN, .ref aR, .ref aG]), (ak, aI d 48 k2), (au, aI d 2 fu), (ae, aB d 600 e2), (ap, aB d 500 fp), (aw, aB d 6000 gw), (ax, aI d 256 fx), (ao, aI d 44 o2), (al, aI d 16 l2), (av, aI d 16 v2), (ar, aB d 800 r2), (ad, aB d 32 d2), (aW, aI d 64 W2), (aS, aI d 8 S2), (aN, aI d 8 N2), (aR, aI d 64 fR), (aG, aI d 8 fG)] H → va_D A [(h, ob 1 [.int th, .ref an, .ref ak, .int lt, .int se, .ref au, .int (nI pn), .ref ap, .int (nI wn), .ref aw, .int (nI cn), .ref ac, .int ln, .int ft, .int (nI on), .ref ag, .ref ax, .ref ao, .ref al, .ref av, .ref ae, .ref ar, .ref ad, .ref aW, .ref aS, .ref aN, .ref aR, .ref aG]), (ak, aI d 48 k2), (au, aI d 2 fu), (ae, aB d 600 e2), (ap, aB d 500 fp), (aw, aB d 6000 gw), (ax, aI d 256 fx), (ao, aI d 44 o2), (al, aI d 16 l2), (av, aI d 16 v2), (ar, aB d 800 r2), (ad, aB d 32 d2), (aW, aI d 64 W2), (aS, aI d 8 S2), (aN, aI d 8 N2), (aR, aI d 64 fR), (aG, aI d 8 fG)] → va_S A s.heap H locs → lv_has ls 6 [(0, .ref h), (4, .int (nI (5 + pn + padn pn))), (5, .int (nI k8))] → W p l e (Rm 4 95 0 0) s m ([.ref h, .int told, .int pads, .int fq] : List Value).toArray below meth c H locs 0 0 (MQ below (Cout d A (fun (u : (Nat → Int32) × (Nat → Int32) × (Nat → Int32) × (Nat → Int32) × (Nat → Int32) × (Nat → Int32) × (Nat → Int32) × (Nat → Int32) × (Nat → Int32) × (Nat → Int32) × (Nat → Int32)) => match u with | (k2, e2, w2, o2, l2, v2, r2, d2, W2, S2, N2) => some (.int (nI (5 + pn + padn pn + 32)))) (fun (u : (Nat → Int32) × (Nat → Int32) × (Nat → Int32) × (Nat → Int32) × (Nat → Int32) × (Nat → Int32) × (Nat → Int32) × (Nat → Int32) × (Nat → Int32) × (Nat → Int32) × (Nat → Int32)) => match u with | (k2, e2, w2, o2, l2, v2, r2, d2, W2, S2, N2) => BA w2 (wL ++ shp (shf 0 fk) (fu 0) told pads pL fq) ∧ shf 0 k2 = ctrN (shf 0 fk) ((5 + pn + padn pn) / 16) ∧ ∀ j, 16 ≤ j → k2 j = fk j) (fun (u : (Nat → Int32) × (Nat → Int32) × (Nat → Int32) × (Nat → Int32) × (Nat → Int32) × (Nat → Int32) × (Nat → Int32) × (Nat → Int32) × (Nat → Int32) × (Nat → Int32) × (Nat → Int32)) => match u with | (k2, e2, w2, o2, l2, v2, r2, d2, W2, S2, N2) => [(h, ob 1 [.int th, .ref an, .ref ak, .int lt, .int se, .ref au, .int (nI 0), .ref ap, .int (nI (wn + (5 + pn + padn pn + 32))), .ref aw, .int (nI cn), .ref ac, .int ln, .int ft, .int (nI on), .ref ag, .ref ax, .ref ao, .ref al, .ref av, .ref ae, .ref ar, .ref ad, .ref aW, .ref aS, .ref aN, .ref aR, .ref aG]), (ak, aI d 48 k2), (au, aI d 2 (upd fu 0 (fu 0 + nI 1))), (ae, aB d 600 e2), (ap, aB d 500 fp), (aw, aB d 6000 w2), (ax, aI d 256 fx), (ao, aI d 44 o2), (al, aI d 16 l2), (av, aI d 16 v2), (ar, aB d 800 r2), (ad, aB d 32 d2), (aW, aI d 64 W2), (aS, aI d 8 S2), (aN, aI d 8 N2), (aR, aI d 64 fR), (aG, aI d 8 fG)])) ([.ref h, .int told, .int pads, .int fq] : List Value).toArray s 0 0 A) (F0 m 142 ls []) := by
                intro fuel
                induction fuel with
                | zero => intro k8 gw h9; exact absurd h9 (Nat.not_lt_zero _)
                | succ fuel ih142 =>
                  intro k8 gw hfu142 hk8 hgw H locs ls hP hD hS hl
                  refine lv_iload C.x C.b d_MD_pack_142 (lv_at hl 2 rfl) ?_
                  refine lv_iload C.x C.b d_MD_pack_144 (lv_at hl 1 rfl) ?_
                  refine lv_bipush (v := nI 32) C.x C.b d_MD_pack_146 (by decide) ?_
                  refine lv_iadd C.x C.b d_MD_pack_148 ?_
                  refine k_top (y := nI (5 + pn + padn pn + 32)) (nI_add _ _) ?_
                  refine lv_icmp_ge (tgt := 197) C.x C.b d_MD_pack_149 (by decide) (fun hc149 => ?_) (fun hc149 => ?_)
                  · rw [nI_leI (by omega) (by omega)] at hc149
                    refine lv_aload_n C.x C.b d_MD_pack_197 rfl (lv_at hl 0 rfl) ?_
                    refine lv_aload_n C.x C.b d_MD_pack_198 rfl (lv_at hl 0 rfl) ?_
                    refine k_get C hP 0 rfl rfl i_MD 8 (by decide) m_660 rfl d_MD_pack_199 ?_
                    refine lv_iload C.x C.b d_MD_pack_202 (lv_at hl 1 rfl) ?_
                    refine lv_iadd C.x C.b d_MD_pack_204 ?_
                    refine k_top (y := nI (wn + (5 + pn + padn pn))) (nI_add _ _) ?_
                    refine lv_bipush (v := nI 32) C.x C.b d_MD_pack_205 (by decide) ?_
                    refine lv_iadd C.x C.b d_MD_pack_207 ?_
                    refine k_top (y := nI (wn + (5 + pn + padn pn) + 32)) (nI_add _ _) ?_
                    refine k_put C hP hD hS 0 rfl rfl i_MD tk_MD n_MD 8 (by decide) m_660 rfl rfl rfl (Nat.le_of_ble_eq_true rfl) d_MD_pack_208 (fun H locs hP hD hS => ?_)
                    have hP : va_P d.1 clz [(h, ob 1 [.int th, .ref an, .ref ak, .int lt, .int se, .ref au, .int (nI pn), .ref ap, .int (nI (wn + (5 + pn + padn pn) + 32)), .ref aw, .int (nI cn), .ref ac, .int ln, .int ft, .int (nI on), .ref ag, .ref ax, .ref ao, .ref al, .ref av, .ref ae, .ref ar, .ref ad, .ref aW, .ref aS, .ref aN, .ref aR, .ref aG]), (ak, aI d 48 k2), (au, aI d 2 fu), (ae, aB d 600 e2), (ap, aB d 500 fp), (aw, aB d 6000 gw), (ax, aI d 256 fx), (ao, aI d 44 o2), (al, aI d 16 l2), (av, aI d 16 v2), (ar, aB d 800 r2), (ad, aB d 32 d2), (aW, aI d 64 W2), (aS, aI d 8 S2), (aN, aI d 8 N2), (aR, aI d 64 fR), (aG, aI d 8 fG)] H := hP
                    have hD : va_D A [(h, ob 1 [.int th, .ref an, .ref ak, .int lt, .int se, .ref au, .int (nI pn), .ref ap, .int (nI (wn + (5 + pn + padn pn) + 32)), .ref aw, .int (nI cn), .ref ac, .int ln, .int ft, .int (nI on), .ref ag, .ref ax, .ref ao, .ref al, .ref av, .ref ae, .ref ar, .ref ad, .ref aW, .ref aS, .ref aN, .ref aR, .ref aG]), (ak, aI d 48 k2), (au, aI d 2 fu), (ae, aB d 600 e2), (ap, aB d 500 fp), (aw, aB d 6000 gw), (ax, aI d 256 fx), (ao, aI d 44 o2), (al, aI d 16 l2), (av, aI d 16 v2), (ar, aB d 800 r2), (ad, aB d 32 d2), (aW, aI d 64 W2), (aS, aI d 8 S2), (aN, aI d 8 N2), (aR, aI d 64 fR), (aG, aI d 8 fG)] := hD
                    refine lv_aload_n C.x C.b d_MD_pack_211 rfl (lv_at hl 0 rfl) ?_
                    refine k_get C hP 0 rfl rfl i_MD 5 (by decide) m_657 rfl d_MD_pack_212 ?_
                    refine lv_iconst (v := nI 0) C.x C.b d_MD_pack_215 (by decide) ?_
                    refine lv_dup2_11 C.x C.b d_MD_pack_216 rfl rfl ?_
                    refine k_iald C hP 2 rfl (j := 0) (by omega) (by omega) d_MD_pack_217 ?_
                    refine lv_iconst (v := nI 1) C.x C.b d_MD_pack_218 (by decide) ?_
                    refine lv_iadd C.x C.b d_MD_pack_219 ?_
                    refine k_iast C hP hD hS 2 rfl (j := 0) (by omega) (by omega) d_MD_pack_220 (fun H locs hP hD hS => ?_)
                    have hP : va_P d.1 clz [(h, ob 1 [.int th, .ref an, .ref ak, .int lt, .int se, .ref au, .int (nI pn), .ref ap, .int (nI (wn + (5 + pn + padn pn) + 32)), .ref aw, .int (nI cn), .ref ac, .int ln, .int ft, .int (nI on), .ref ag, .ref ax, .ref ao, .ref al, .ref av, .ref ae, .ref ar, .ref ad, .ref aW, .ref aS, .ref aN, .ref aR, .ref aG]), (ak, aI d 48 k2), (au, aI d 2 (upd fu 0 ((fu 0) + (nI 1)))), (ae, aB d 600 e2), (ap, aB d 500 fp), (aw, aB d 6000 gw), (ax, aI d 256 fx), (ao, aI d 44 o2), (al, aI d 16 l2), (av, aI d 16 v2), (ar, aB d 800 r2), (ad, aB d 32 d2), (aW, aI d 64 W2), (aS, aI d 8 S2), (aN, aI d 8 N2), (aR, aI d 64 fR), (aG, aI d 8 fG)] H := hP
                    have hD : va_D A [(h, ob 1 [.int th, .ref an, .ref ak, .int lt, .int se, .ref au, .int (nI pn), .ref ap, .int (nI (wn + (5 + pn + padn pn) + 32)), .ref aw, .int (nI cn), .ref ac, .int ln, .int ft, .int (nI on), .ref ag, .ref ax, .ref ao, .ref al, .ref av, .ref ae, .ref ar, .ref ad, .ref aW, .ref aS, .ref aN, .ref aR, .ref aG]), (ak, aI d 48 k2), (au, aI d 2 (upd fu 0 ((fu 0) + (nI 1)))), (ae, aB d 600 e2), (ap, aB d 500 fp), (aw, aB d 6000 gw), (ax, aI d 256 fx), (ao, aI d 44 o2), (al, aI d 16 l2), (av, aI d 16 v2), (ar, aB d 800 r2), (ad, aB d 32 d2), (aW, aI d 64 W2), (aS, aI d 8 S2), (aN, aI d 8 N2), (aR, aI d 64 fR), (aG, aI d 8 fG)] := hD
                    refine lv_aload_n C.x C.b d_MD_pack_221 rfl (lv_at hl 0 rfl) ?_
                    refine lv_iconst (v := nI 0) C.x C.b d_MD_pack_222 (by decide) ?_
                    refine k_put C hP hD hS 0 rfl rfl i_MD tk_MD n_MD 6 (by decide) m_658 rfl rfl rfl (Nat.le_of_ble_eq_true rfl) d_MD_pack_223 (fun H locs hP hD hS => ?_)
                    have hP : va_P d.1 clz [(h, ob 1 [.int th, .ref an, .ref ak, .int lt, .int se, .ref au, .int (nI 0), .ref ap, .int (nI (wn + (5 + pn + padn pn) + 32)), .ref aw, .int (nI cn), .ref ac, .int ln, .int ft, .int (nI on), .ref ag, .ref ax, .ref ao, .ref al, .ref av, .ref ae, .ref ar, .ref ad, .ref aW, .ref aS, .ref aN, .ref aR, .ref aG]), (ak, aI d 48 k2), (au, aI d 2 (upd fu 0 ((fu 0) + (nI 1)))), (ae, aB d 600 e2), (ap, aB d 500 fp), (aw, aB d 6000 gw), (ax, aI d 256 fx), (ao, aI d 44 o2), (al, aI d 16 l2), (av, aI d 16 v2), (ar, aB d 800 r2), (ad, aB d 32 d2), (aW, aI d 64 W2), (aS, aI d 8 S2), (aN, aI d 8 N2), (aR, aI d 64 fR), (aG, aI d 8 fG)] H := hP
                    have hD : va_D A [(h, ob 1 [.int th, .ref an, .ref ak, .int lt, .int se, .ref au, .int (nI 0), .ref ap, .int (nI (wn + (5 + pn + padn pn) + 32)), .ref aw, .int (nI cn), .ref ac, .int ln, .int ft, .int (nI on), .ref ag, .ref ax, .ref ao, .ref al, .ref av, .ref ae, .ref ar, .ref ad, .ref aW, .ref aS, .ref aN, .ref aR, .ref aG]), (ak, aI d 48 k2), (au, aI d 2 (upd fu 0 ((fu 0) + (nI 1)))), (ae, aB d 600 e2), (ap, aB d 500 fp), (aw, aB d 6000 gw), (ax, aI d 256 fx), (ao, aI d 44 o2), (al, aI d 16 l2), (av, aI d 16 v2), (ar, aB d 800 r2), (ad, aB d 32 d2), (aW, aI d 64 W2), (aS, aI d 8 S2), (aN, aI d 8 N2), (aR, aI d 64 fR), (aG, aI d 8 fG)] := hD
                    refine lv_iload C.x C.b d_MD_pack_226 (lv_at hl 1 rfl) ?_
                    refine lv_bipush (v := nI 32) C.x C.b d_MD_pack_228 (by decide) ?_
                    refine lv_iadd C.x C.b d_MD_pack_230 ?_
                    refine k_top (y := nI (5 + pn + padn pn + 32)) (nI_add _ _) ?_
                    have hP9 := hP.sub (ws' := [(h, ob 1 [.int th, .ref an, .ref ak, .int lt, .int se, .ref au, .int (nI 0), .ref ap, .int (nI (wn + (5 + pn + padn pn) + 32)), .ref aw, .int (nI cn), .ref ac, .int ln, .int ft, .int (nI on), .ref ag, .ref ax, .ref ao, .ref al, .ref av, .ref ae, .ref ar, .ref ad, .ref aW, .ref aS, .ref aN, .ref aR, .ref aG]), (ak, aI d 48 k2), (au, aI d 2 (upd fu 0 ((fu 0) + (nI 1)))), (ae, aB d 600 e2), (ap, aB d 500 fp), (aw, aB d 6000 gw), (ax, aI d 256 fx), (ao, aI d 44 o2), (al, aI d 16 l2), (av, aI d 16 v2), (ar, aB d 800 r2), (ad, aB d 32 d2), (aW, aI d 64 W2), (aS, aI d 8 S2), (aN, aI d 8 N2), (aR, aI d 64 fR), (aG, aI d 8 fG)]) [0, 1, 2, 3, 4, 5, 6, 7, 8, 9, 10, 11, 12, 13, 14, 15, 16] rfl
                    have hD9 := hD.sub (ws' := [(h, ob 1 [.int th, .ref an, .ref ak, .int lt, .int se, .ref au, .int (nI 0), .ref ap, .int (nI (wn + (5 + pn + padn pn) + 32)), .ref aw, .int (nI cn), .ref ac, .int ln, .int ft, .int (nI on), .ref ag, .ref ax, .ref ao, .ref al, .ref av, .ref ae, .ref ar, .ref ad, .ref aW, .ref aS, .ref aN, .ref aR, .ref aG]), (ak, aI d 48 k2), (au, aI d 2 (upd fu 0 ((fu 0) + (nI 1)))), (ae, aB d 600 e2), (ap, aB d 500 fp), (aw, aB d 6000 gw), (ax, aI d 256 fx), (ao, aI d 44 o2), (al, aI d 16 l2), (av, aI d 16 v2), (ar, aB d 800 r2), (ad, aB d 32 d2), (aW, aI d 64 W2), (aS, aI d 8 S2), (aN, aI d 8 N2), (aR, aI d 64 fR), (aG, aI d 8 fG)]) [0, 1, 2, 3, 4, 5, 6, 7, 8, 9, 10, 11, 12, 13, 14, 15, 16] (by decide) rfl
                    rw [show wn + (5 + pn + padn pn) + 32 = wn + (5 + pn + padn pn + 32) from by omega] at hP9 hD9
                    exact k_iret C hS (k2, e2, gw, o2, l2, v2, r2, d2, W2, S2, N2) (rfl) (⟨by rw [List.take_of_length_le (by omega)] at hgw; exact hgw, by rw [hk2.1, Nat.sub_zero], fun j hj => hk2.2.1 j (Or.inr (by omega))⟩) hP9 hD9 d_MD_pack_231
                  · rw [nI_leI (by omega) (by omega)] at hc149
                    refine lv_aload_n C.x C.b d_MD_pack_152 rfl (lv_at hl 0 rfl) ?_
                    refine k_get C hP 0 rfl rfl i_MD 9 (by decide) m_661 rfl d_MD_pack_153 ?_
                    refine lv_aload_n C.x C.b d_MD_pack_156 rfl (lv_at hl 0 rfl) ?_
                    refine k_get C hP 0 rfl rfl i_MD 8 (by decide) m_660 rfl d_MD_pack_157 ?_
                    refine lv_iload C.x C.b d_MD_pack_160 (lv_at hl 2 rfl) ?_
                    refine lv_iadd C.x C.b d_MD_pack_162 ?_
                    refine k_top (y := nI (wn + k8)) (nI_add _ _) ?_
                    refine lv_iload C.x C.b d_MD_pack_163 (lv_at hl 2 rfl) ?_
                    refine lv_iload C.x C.b d_MD_pack_165 (lv_at hl 1 rfl) ?_
                    refine lv_icmp_ge (tgt := 180) C.x C.b d_MD_pack_167 (by decide) (fun hc167 => ?_) (fun hc167 => ?_)
                    · rw [nI_leI (by omega) (by omega)] at hc167
                      refine lv_aload_n C.x C.b d_MD_pack_180 rfl (lv_at hl 0 rfl) ?_
                      refine k_get C hP 0 rfl rfl i_MD 22 (by decide) m_674 rfl d_MD_pack_181 ?_
                      refine lv_iload C.x C.b d_MD_pack_184 (lv_at hl 2 rfl) ?_
                      refine lv_iload C.x C.b d_MD_pack_186 (lv_at hl 1 rfl) ?_
                      refine lv_isub C.x C.b d_MD_pack_188 ?_
                      refine k_top (y := nI (k8 - (5 + pn + padn pn))) (pk_sub (by omega)) ?_
                      refine k_bald C hP 11 rfl (j := (k8 - (5 + pn + padn pn))) (by omega) (by omega) d_MD_pack_189 ?_
                      refine k_bast C hP hD hS 5 rfl (j := (wn + k8)) (by omega) (by omega) d_MD_pack_190 (fun H locs hP hD hS => ?_)
                      have hP : va_P d.1 clz [(h, ob 1 [.int th, .ref an, .ref ak, .int lt, .int se, .ref au, .int (nI pn), .ref ap, .int (nI wn), .ref aw, .int (nI cn), .ref ac, .int ln, .int ft, .int (nI on), .ref ag, .ref ax, .ref ao, .ref al, .ref av, .ref ae, .ref ar, .ref ad, .ref aW, .ref aS, .ref aN, .ref aR, .ref aG]), (ak, aI d 48 k2), (au, aI d 2 fu), (ae, aB d 600 e2), (ap, aB d 500 fp), (aw, aB d 6000 (upd gw (wn + k8) ((d2 (k8 - (5 + pn + padn pn))).toInt8.toInt32))), (ax, aI d 256 fx), (ao, aI d 44 o2), (al, aI d 16 l2), (av, aI d 16 v2), (ar, aB d 800 r2), (ad, aB d 32 d2), (aW, aI d 64 W2), (aS, aI d 8 S2), (aN, aI d 8 N2), (aR, aI d 64 fR), (aG, aI d 8 fG)] H := hP
                      have hD : va_D A [(h, ob 1 [.int th, .ref an, .ref ak, .int lt, .int se, .ref au, .int (nI pn), .ref ap, .int (nI wn), .ref aw, .int (nI cn), .ref ac, .int ln, .int ft, .int (nI on), .ref ag, .ref ax, .ref ao, .ref al, .ref av, .ref ae, .ref ar, .ref ad, .ref aW, .ref aS, .ref aN, .ref aR, .ref aG]), (ak, aI d 48 k2), (au, aI d 2 fu), (ae, aB d 600 e2), (ap, aB d 500 fp), (aw, aB d 6000 (upd gw (wn + k8) ((d2 (k8 - (5 + pn + padn pn))).toInt8.toInt32))), (ax, aI d 256 fx), (ao, aI d 44 o2), (al, aI d 16 l2), (av, aI d 16 v2), (ar, aB d 800 r2), (ad, aB d 32 d2), (aW, aI d 64 W2), (aS, aI d 8 S2), (aN, aI d 8 N2), (aR, aI d 64 fR), (aG, aI d 8 fG)] := hD
                      refine lv_iinc (v := nI (k8 + 1)) (lv' := [(5, .int (nI (k8 + 1))), (0, .ref h), (4, .int (nI (5 + pn + padn pn)))]) C.x C.b d_MD_pack_191 hl (k := 2) rfl (k_inc _ 1) (by decide) rfl (fun ls hl => ?_)
                      refine lv_goto (tgt := 142) C.x C.b d_MD_pack_194 (by decide) ?_
                      exact ih142 (k8 + 1) (upd gw (wn + k8) ((d2 (k8 - (5 + pn + padn pn))).toInt8.toInt32)) (by omega) (by omega) (by rw [tk_succ (by omega), ← List.append_assoc]; exact ba_push hgw (by rw [List.length_append, List.length_take, hwl, Nat.min_eq_left (by omega)]) (by rw [shp_hi hEl (by omega) (by omega), hd2.1 _ (by rw [slb_len]; omega), sx_sx]) (by rw [shp_hi hEl (by omega) (by omega)]; exact isb_slb _ (bq_mem (by rw [slb_len]; omega)))) _ _ _ (hP.sub [0, 1, 2, 3, 4, 5, 6, 7, 8, 9, 10, 11, 12, 13, 14, 15, 16] (rfl)) (hD.sub [0, 1, 2, 3, 4, 5, 6, 7, 8, 9, 10, 11, 12, 13, 14, 15, 16] (by decide) (rfl)) hS (lv_sub hl [1, 2, 0] (rfl))
                    · rw [nI_leI (by omega) (by omega)] at hc167
                      refine lv_aload_n C.x C.b d_MD_pack_170 rfl (lv_at hl 0 rfl) ?_
                      refine k_get C hP 0 rfl rfl i_MD 20 (by decide) m_672 rfl d_MD_pack_171 ?_
                      refine lv_iload C.x C.b d_MD_pack_174 (lv_at hl 2 rfl) ?_
                      refine k_bald C hP 3 rfl (j := k8) (by omega) (by omega) d_MD_pack_176 ?_
                      refine lv_goto (tgt := 190) C.x C.b d_MD_pack_177 (by decide) ?_
                      refine k_bast C hP hD hS 5 rfl (j := (wn + k8)) (by omega) (by omega) d_MD_pack_190 (fun H locs hP hD hS => ?_)
                      have hP : va_P d.1 clz [(h, ob 1 [.int th, .ref an, .ref ak, .int lt, .int se, .ref au, .int (nI pn), .ref ap, .int (nI wn), .ref aw, .int (nI cn), .ref ac, .int ln, .int ft, .int (nI on), .ref ag, .ref ax, .ref ao, .ref al, .ref av, .ref ae, .ref ar, .ref ad, .ref aW, .ref aS, .ref aN, .ref aR, .ref aG]), (ak, aI d 48 k2), (au, aI d 2 fu), (ae, aB d 600 e2), (ap, aB d 500 fp), (aw, aB d 6000 (upd gw (wn + k8) ((e2 k8).toInt8.toInt32))), (ax, aI d 256 fx), (ao, aI d 44 o2), (al, aI d 16 l2), (av, aI d 16 v2), (ar, aB d 800 r2), (ad, aB d 32 d2), (aW, aI d 64 W2), (aS, aI d 8 S2), (aN, aI d 8 N2), (aR, aI d 64 fR), (aG, aI d 8 fG)] H := hP
                      have hD : va_D A [(h, ob 1 [.int th, .ref an, .ref ak, .int lt, .int se, .ref au, .int (nI pn), .ref ap, .int (nI wn), .ref aw, .int (nI cn), .ref ac, .int ln, .int ft, .int (nI on), .ref ag, .ref ax, .ref ao, .ref al, .ref av, .ref ae, .ref ar, .ref ad, .ref aW, .ref aS, .ref aN, .ref aR, .ref aG]), (ak, aI d 48 k2), (au, aI d 2 fu), (ae, aB d 600 e2), (ap, aB d 500 fp), (aw, aB d 6000 (upd gw (wn + k8) ((e2 k8).toInt8.toInt32))), (ax, aI d 256 fx), (ao, aI d 44 o2), (al, aI d 16 l2), (av, aI d 16 v2), (ar, aB d 800 r2), (ad, aB d 32 d2), (aW, aI d 64 W2), (aS, aI d 8 S2), (aN, aI d 8 N2), (aR, aI d 64 fR), (aG, aI d 8 fG)] := hD
                      refine lv_iinc (v := nI (k8 + 1)) (lv' := [(5, .int (nI (k8 + 1))), (0, .ref h), (4, .int (nI (5 + pn + padn pn)))]) C.x C.b d_MD_pack_191 hl (k := 2) rfl (k_inc _ 1) (by decide) rfl (fun ls hl => ?_)
                      refine lv_goto (tgt := 142) C.x C.b d_MD_pack_194 (by decide) ?_
                      exact ih142 (k8 + 1) (upd gw (wn + k8) ((e2 k8).toInt8.toInt32)) (by omega) (by omega) (by rw [tk_succ (by omega), ← List.append_assoc]; exact ba_push hgw (by rw [List.length_append, List.length_take, hwl, Nat.min_eq_left (by omega)]) (by unfold shp; rw [ga_l (by omega), hEn.1 k8 (by omega), sx_sx]) (by unfold shp; rw [ga_l (by omega)]; exact (ba_get hEn (by omega)).2)) _ _ _ (hP.sub [0, 1, 2, 3, 4, 5, 6, 7, 8, 9, 10, 11, 12, 13, 14, 15, 16] (rfl)) (hD.sub [0, 1, 2, 3, 4, 5, 6, 7, 8, 9, 10, 11, 12, 13, 14, 15, 16] (by decide) (rfl)) hS (lv_sub hl [1, 2, 0] (rfl))
              exact L142 ((5 + pn + padn pn + 32 - 0) + 1) 0 fw (Nat.lt_succ_self _) (by omega) (by rw [List.take_zero, List.append_nil]; exact hw) _ _ _ (hP.sub [10, 11, 2, 16, 0, 1, 12, 13, 14, 15, 3, 4, 5, 6, 7, 8, 9] (rfl)) (hD.sub [10, 11, 2, 16, 0, 1, 12, 13, 14, 15, 3, 4, 5, 6, 7, 8, 9] (by decide) (rfl)) hS (lv_sub hl [1, 5, 0] (rfl))
            · rw [nI_leI (by omega) (by omega)] at hc93
              refine lv_aload_n C.x C.b d_MD_pack_96 rfl (lv_at hl 0 rfl) ?_
              refine k_get C hP 0 rfl rfl i_MD 20 (by decide) m_672 rfl d_MD_pack_97 ?_
              refine lv_iload C.x C.b d_MD_pack_100 (lv_at hl 5 rfl) ?_
              refine lv_iload_n C.x C.b d_MD_pack_102 rfl (lv_at hl 3 rfl) ?_
              refine lv_bipush (v := nI 37) C.x C.b d_MD_pack_103 (by decide) ?_
              refine lv_iload C.x C.b d_MD_pack_105 (lv_at hl 5 rfl) ?_
              refine lv_iconst (v := nI 5) C.x C.b d_MD_pack_107 (by decide) ?_
              refine lv_isub C.x C.b d_MD_pack_108 ?_
              refine k_top (y := nI ((5 + pn + i) - 5)) (pk_sub (by omega)) ?_
              refine lv_aload_n C.x C.b d_MD_pack_109 rfl (lv_at hl 0 rfl) ?_
              refine k_get C hP 0 rfl rfl i_MD 6 (by decide) m_658 rfl d_MD_pack_110 ?_
              refine lv_isub C.x C.b d_MD_pack_113 ?_
              refine k_top (y := nI (((5 + pn + i) - 5) - pn)) (pk_sub (by omega)) ?_
              refine k_top (y := nI i) (by rw [show ((5 + pn + i) - 5) - pn = i from by omega]) ?_
              refine lv_imul C.x C.b d_MD_pack_114 ?_
              refine k_top (y := nI (37 * i)) (pk_mul _ _) ?_
              refine lv_iadd C.x C.b d_MD_pack_115 ?_
              refine lv_i2b (v := (fq + (nI (37 * i))).toInt8.toInt32) C.x C.b d_MD_pack_116 rfl ?_
              refine k_bast C hP hD hS 3 rfl (j := (5 + pn + i)) (by omega) (by omega) d_MD_pack_117 (fun H locs hP hD hS => ?_)
              have hP : va_P d.1 clz [(h, ob 1 [.int th, .ref an, .ref ak, .int lt, .int se, .ref au, .int (nI pn), .ref ap, .int (nI wn), .ref aw, .int (nI cn), .ref ac, .int ln, .int ft, .int (nI on), .ref ag, .ref ax, .ref ao, .ref al, .ref av, .ref ae, .ref ar, .ref ad, .ref aW, .ref aS, .ref aN, .ref aR, .ref aG]), (ak, aI d 48 fk), (au, aI d 2 fu), (ae, aB d 600 (upd g8 (5 + pn + i) (((fq + (nI (37 * i))).toInt8.toInt32).toInt8.toInt32))), (ap, aB d 500 fp), (aw, aB d 6000 fw), (ax, aI d 256 fx), (ao, aI d 44 fo), (al, aI d 16 fl), (av, aI d 16 fv), (ar, aB d 800 fr9), (ad, aB d 32 fd), (aW, aI d 64 fW), (aS, aI d 8 fS), (aN, aI d 8 fN), (aR, aI d 64 fR), (aG, aI d 8 fG)] H := hP
              have hD : va_D A [(h, ob 1 [.int th, .ref an, .ref ak, .int lt, .int se, .ref au, .int (nI pn), .ref ap, .int (nI wn), .ref aw, .int (nI cn), .ref ac, .int ln, .int ft, .int (nI on), .ref ag, .ref ax, .ref ao, .ref al, .ref av, .ref ae, .ref ar, .ref ad, .ref aW, .ref aS, .ref aN, .ref aR, .ref aG]), (ak, aI d 48 fk), (au, aI d 2 fu), (ae, aB d 600 (upd g8 (5 + pn + i) (((fq + (nI (37 * i))).toInt8.toInt32).toInt8.toInt32))), (ap, aB d 500 fp), (aw, aB d 6000 fw), (ax, aI d 256 fx), (ao, aI d 44 fo), (al, aI d 16 fl), (av, aI d 16 fv), (ar, aB d 800 fr9), (ad, aB d 32 fd), (aW, aI d 64 fW), (aS, aI d 8 fS), (aN, aI d 8 fN), (aR, aI d 64 fR), (aG, aI d 8 fG)] := hD
              refine lv_iinc (v := nI (5 + pn + i + 1)) (lv' := [(5, .int (nI (5 + pn + i + 1))), (0, .ref h), (1, .int told), (2, .int pads), (3, .int fq), (4, .int (nI (5 + pn + padn pn)))]) C.x C.b d_MD_pack_118 hl (k := 5) rfl (k_inc _ 1) (by decide) rfl (fun ls hl => ?_)
              refine lv_goto (tgt := 89) C.x C.b d_MD_pack_121 (by decide) ?_
              exact ih89 (i + 1) (upd g8 (5 + pn + i) (((fq + (nI (37 * i))).toInt8.toInt32).toInt8.toInt32)) (by omega) (by omega) (by rw [pdb_succ, ← List.append_assoc]; exact ba_push hg8 (by rw [List.length_append, List.length_append, List.length_append, wb_len, pdb_len, hpl]; rfl) (sxa _) (and255 _)) _ _ _ (hP.sub [0, 1, 2, 3, 4, 5, 6, 7, 8, 9, 10, 11, 12, 13, 14, 15, 16] (rfl)) (hD.sub [0, 1, 2, 3, 4, 5, 6, 7, 8, 9, 10, 11, 12, 13, 14, 15, 16] (by decide) (rfl)) hS (lv_sub hl [1, 2, 3, 4, 5, 0] (rfl))
        exact L89 ((padn pn - 0) + 1) 0 g8 (Nat.lt_succ_self _) (by omega) (by rw [show k9 = pn from by omega, List.take_of_length_le (by omega)] at hg8; rw [show pdb fq 0 = [] from rfl, List.append_nil]; exact hg8) _ _ _ (hP.sub [0, 1, 2, 3, 4, 5, 6, 7, 8, 9, 10, 11, 12, 13, 14, 15, 16] (rfl)) (hD.sub [0, 1, 2, 3, 4, 5, 6, 7, 8, 9, 10, 11, 12, 13, 14, 15, 16] (by decide) (rfl)) hS (lv_sub hl [1, 2, 3, 4, 5, 0] (rfl))
      · rw [nI_leI (by omega) (by omega)] at hc56
        refine lv_aload_n C.x C.b d_MD_pack_59 rfl (lv_at hl 0 rfl) ?_
        refine k_get C hP 0 rfl rfl i_MD 20 (by decide) m_672 rfl d_MD_pack_60 ?_
        refine lv_iconst (v := nI 5) C.x C.b d_MD_pack_63 (by decide) ?_
        refine lv_iload C.x C.b d_MD_pack_64 (lv_at hl 5 rfl) ?_
        refine lv_iadd C.x C.b d_MD_pack_66 ?_
        refine k_top (y := nI (5 + k9)) (nI_add _ _) ?_
        refine lv_aload_n C.x C.b d_MD_pack_67 rfl (lv_at hl 0 rfl) ?_
        refine k_get C hP 0 rfl rfl i_MD 7 (by decide) m_659 rfl d_MD_pack_68 ?_
        refine lv_iload C.x C.b d_MD_pack_71 (lv_at hl 5 rfl) ?_
        refine k_bald C hP 4 rfl (j := k9) (by omega) (by omega) d_MD_pack_73 ?_
        refine k_bast C hP hD hS 3 rfl (j := (5 + k9)) (by omega) (by omega) d_MD_pack_74 (fun H locs hP hD hS => ?_)
        have hP : va_P d.1 clz [(h, ob 1 [.int th, .ref an, .ref ak, .int lt, .int se, .ref au, .int (nI pn), .ref ap, .int (nI wn), .ref aw, .int (nI cn), .ref ac, .int ln, .int ft, .int (nI on), .ref ag, .ref ax, .ref ao, .ref al, .ref av, .ref ae, .ref ar, .ref ad, .ref aW, .ref aS, .ref aN, .ref aR, .ref aG]), (ak, aI d 48 fk), (au, aI d 2 fu), (ae, aB d 600 (upd g8 (5 + k9) ((fp k9).toInt8.toInt32))), (ap, aB d 500 fp), (aw, aB d 6000 fw), (ax, aI d 256 fx), (ao, aI d 44 fo), (al, aI d 16 fl), (av, aI d 16 fv), (ar, aB d 800 fr9), (ad, aB d 32 fd), (aW, aI d 64 fW), (aS, aI d 8 fS), (aN, aI d 8 fN), (aR, aI d 64 fR), (aG, aI d 8 fG)] H := hP
        have hD : va_D A [(h, ob 1 [.int th, .ref an, .ref ak, .int lt, .int se, .ref au, .int (nI pn), .ref ap, .int (nI wn), .ref aw, .int (nI cn), .ref ac, .int ln, .int ft, .int (nI on), .ref ag, .ref ax, .ref ao, .ref al, .ref av, .ref ae, .ref ar, .ref ad, .ref aW, .ref aS, .ref aN, .ref aR, .ref aG]), (ak, aI d 48 fk), (au, aI d 2 fu), (ae, aB d 600 (upd g8 (5 + k9) ((fp k9).toInt8.toInt32))), (ap, aB d 500 fp), (aw, aB d 6000 fw), (ax, aI d 256 fx), (ao, aI d 44 fo), (al, aI d 16 fl), (av, aI d 16 fv), (ar, aB d 800 fr9), (ad, aB d 32 fd), (aW, aI d 64 fW), (aS, aI d 8 fS), (aN, aI d 8 fN), (aR, aI d 64 fR), (aG, aI d 8 fG)] := hD
        refine lv_iinc (v := nI (k9 + 1)) (lv' := [(5, .int (nI (k9 + 1))), (0, .ref h), (1, .int told), (2, .int pads), (3, .int fq), (4, .int (nI (5 + pn + padn pn)))]) C.x C.b d_MD_pack_75 hl (k := 5) rfl (k_inc _ 1) (by decide) rfl (fun ls hl => ?_)
        refine lv_goto (tgt := 50) C.x C.b d_MD_pack_78 (by decide) ?_
        exact ih50 (k9 + 1) (upd g8 (5 + k9) ((fp k9).toInt8.toInt32)) (by omega) (by omega) (by rw [tk_succ (by omega), ← List.append_assoc]; exact ba_push hg8 (by rw [List.length_append, List.length_append, wb_len, List.length_take, hpl, Nat.min_eq_left (by omega)]; rfl) (by rw [(ba_get hp (i := k9) (by omega)).1, sx_sx]) (ba_get hp (by omega)).2) _ _ _ (hP.sub [0, 1, 2, 3, 4, 5, 6, 7, 8, 9, 10, 11, 12, 13, 14, 15, 16] (rfl)) (hD.sub [0, 1, 2, 3, 4, 5, 6, 7, 8, 9, 10, 11, 12, 13, 14, 15, 16] (by decide) (rfl)) hS (lv_sub hl [1, 2, 3, 4, 5, 0] (rfl))
  exact L50 ((pn - 0) + 1) 0 (upd (upd (upd (upd (upd fe 0 (((told >>> ((nI (24 - 0)) &&& 31)).toInt8.toInt32).toInt8.toInt32)) 1 (((told >>> ((nI 16) &&& 31)).toInt8.toInt32).toInt8.toInt32)) 2 (((told >>> ((nI 8) &&& 31)).toInt8.toInt32).toInt8.toInt32)) 3 (((told >>> ((nI 0) &&& 31)).toInt8.toInt32).toInt8.toInt32)) 4 pads.toInt8.toInt32.toInt8.toInt32) (Nat.lt_succ_self _) (by omega) (by rw [List.take_zero, List.append_nil]; exact pk_hd) _ _ _ (hP.sub [16, 0, 1, 2, 3, 4, 5, 6, 7, 8, 9, 10, 11, 12, 13, 14, 15] (rfl)) (hD.sub [16, 0, 1, 2, 3, 4, 5, 6, 7, 8, 9, 10, 11, 12, 13, 14, 15] (by decide) (rfl)) hS (lv_sub hl [2, 3, 4, 5, 1, 0] (rfl))
