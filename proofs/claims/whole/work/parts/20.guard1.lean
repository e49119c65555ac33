def pz (n : Nat) : Nat := (16 - (9 + n) % 16) % 16
def padn (n : Nat) : Nat := 4 + pz n
theorem pz_fm {n : Nat} (h : n < 10000) : (-(nI (5 + n + 4))).toInt % ((16 : Nat) : Int) = (pz n : Int) := by
  rw [sb_negT (by omega)]; unfold pz; omega
theorem padn_le (n : Nat) : padn n ≤ 19 := by unfold padn pz; omega
theorem padn_ge (n : Nat) : 4 ≤ padn n := by unfold padn; omega
theorem padn_16 (n : Nat) : (5 + n + padn n) % 16 = 0 := by unfold padn pz; omega
/-- the first i of the lowest n bytes of v, the highest first -/
def pby (v : Int32) (n i : Nat) : List Int32 := (List.range i).map (fun j => ush v (8 * (n - 1 - j)) &&& nI 255)
theorem pby_succ (v : Int32) (n i : Nat) : pby v n (i + 1) = pby v n i ++ [ush v (8 * (n - 1 - i)) &&& nI 255] := by
  unfold pby; rw [List.range_succ, List.map_append]; rfl
def pdb (fp : Int32) (i : Nat) : List Int32 := (List.range i).map (fun j => (fp + nI (37 * j)) &&& nI 255)
theorem pdb_succ (fp : Int32) (i : Nat) : pdb fp (i + 1) = pdb fp i ++ [(fp + nI (37 * i)) &&& nI 255] := by
  unfold pdb; rw [List.range_succ, List.map_append]; rfl
/-- a packet before it is enciphered -/
def pkt (told pads : Int32) (L : List Int32) (fp : Int32) : List Int32 := wb told ++ [pads &&& nI 255] ++ L ++ pdb fp (padn L.length)
def slb (f : Nat → Int32) (i : Nat) : List Int32 := (List.range i).map (fun j => byt (f (j / 4)) (j % 4))
theorem slb_succ (f : Nat → Int32) (i : Nat) : slb f (i + 1) = slb f i ++ [byt (f (i / 4)) (i % 4)] := by
  unfold slb; rw [List.range_succ, List.map_append]; rfl
theorem slb_cg {f g : Nat → Int32} (h : ∀ j, j < 8 → f j = g j) : slb f 32 = slb g 32 := by
  unfold slb
  apply List.map_congr_left
  intro j hj
  rw [h _ (by have := List.mem_range.mp hj; omega)]
/-- what a packet puts on the way -/
def shp (k : Nat → Int32) (num told pads : Int32) (L : List Int32) (fp : Int32) : List Int32 := enc k (pkt told pads L fp) ++ slb (sealw k num (pkt told pads L fp)) 32
theorem pkt_len (told pads : Int32) (L : List Int32) (fp : Int32) : (pkt told pads L fp).length = 5 + L.length + padn L.length := by
  unfold pkt pdb; simp only [List.length_append, wb_len, List.length_map, List.length_range, List.length_cons, List.length_nil]; (try omega)
theorem byt_255 (w : Int32) (i : Nat) : byt w i &&& nI 255 = byt w i := and255 _
theorem mw_PG_key : Mw y_PG_key b_PG_key 3 none 2 := ⟨m_444, m_1, m_442, by decide +kernel⟩
set_option maxHeartbeats 4000000 in
set_option maxRecDepth 100000 in
theorem c_PG_key (l : Launch) (d : DD) (g : Nat) (nk : Nat) (sd : Nat) (rc : Nat) (wk : Nat) (ph : Nat) (wh : Nat) (ch : Nat) (oh : Nat) (qh : Nat) (cc : Nat) (sl : Nat) (kwt : Int32) (kl : Int32) (ft : Int32) (nka : Nat) (fnk : Nat → Int32) (i : Nat) (v : Int32) (hi : i < 16) : Ct l y_PG_key b_PG_key 3 none 2 42 0 0 d [(g, ob 0 [.ref nk, .ref sd, .ref rc, .ref wk, .int kwt, .ref ph, .ref wh, .ref ch, .ref oh, .ref qh, .ref cc, .ref sl, .int kl, .int ft]), (nk, ob 5 [.ref nka]), (nka, aI d 16 fnk)] [.ref g, .int (nI i), .int v] (fun (_ : Unit) => none) (fun (_ : Unit) => True) (fun (_ : Unit) => [(g, ob 0 [.ref nk, .ref sd, .ref rc, .ref wk, .int kwt, .ref ph, .ref wh, .ref ch, .ref oh, .ref qh, .ref cc, .ref sl, .int kl, .int ft]), (nk, ob 5 [.ref nka]), (nka, aI d 16 (upd fnk i v))]) := by
  refine Ct.of (by decide +kernel) (Nat.le_of_ble_eq_true rfl) ?_
  intro p e s m below meth c A ls C hP hD hS hl
  have hl : lv_has ls 3 [(0, .ref g), (1, .int (nI i)), (2, .int v)] := hl
  have hsz9 := hS.1
  refine lv_aload_n C.x C.b d_PG_key_0 rfl (lv_at hl 0 rfl) ?_
  refine k_get C hP 0 rfl rfl i_PG 0 (by decide) m_114 rfl d_PG_key_1 ?_
  refine lv_iload_n C.x C.b d_PG_key_4 rfl (lv_at hl 1 rfl) ?_
  refine lv_iload_n C.x C.b d_PG_key_5 rfl (lv_at hl 2 rfl) ?_
  refine k_callV (As := [.int (nI i), .int v]) (rest := []) (wc := [(nk, ob 5 [.ref nka]), (nka, aI d 16 fnk)]) (wr := [(g, ob 0 [.ref nk, .ref sd, .ref rc, .ref wk, .int kwt, .ref ph, .ref wh, .ref ch, .ref oh, .ref qh, .ref cc, .ref sl, .int kl, .int ft])]) C (c_KY_change l d nk nka fnk i v (hi)) mw_KY_change m_447 m_445 hP hD hS [1, 2] [0] rfl rfl (by decide) (by decide) (by decide) 1 rfl rfl rfl rfl hl.1 (Nat.le_of_ble_eq_true rfl) d_PG_key_6 ⟨Nat.le_of_ble_eq_true rfl, Nat.le_of_ble_eq_true rfl⟩ ⟨by decide, by decide⟩ (fun _ H locs hw_1 hP hD hS => ?_)
  have hP : va_P d.1 clz [(g, ob 0 [.ref nk, .ref sd, .ref rc, .ref wk, .int kwt, .ref ph, .ref wh, .ref ch, .ref oh, .ref qh, .ref cc, .ref sl, .int kl, .int ft]), (nk, ob 5 [.ref nka]), (nka, aI d 16 (upd fnk i v))] H := hP
  have hD : va_D A [(g, ob 0 [.ref nk, .ref sd, .ref rc, .ref wk, .int kwt, .ref ph, .ref wh, .ref ch, .ref oh, .ref qh, .ref cc, .ref sl, .int kl, .int ft]), (nk, ob 5 [.ref nka]), (nka, aI d 16 (upd fnk i v))] := hD
  refine W.eq (g2 := F0 m 9 ls []) rfl ?_
  have hP9 := hP.sub (ws' := [(g, ob 0 [.ref nk, .ref sd, .ref rc, .ref wk, .int kwt, .ref ph, .ref wh, .ref ch, .ref oh, .ref qh, .ref cc, .ref sl, .int kl, .int ft]), (nk, ob 5 [.ref nka]), (nka, aI d 16 (upd fnk i v))]) [0, 1, 2] rfl
  have hD9 := hD.sub (ws' := [(g, ob 0 [.ref nk, .ref sd, .ref rc, .ref wk, .int kwt, .ref ph, .ref wh, .ref ch, .ref oh, .ref qh, .ref cc, .ref sl, .int kl, .int ft]), (nk, ob 5 [.ref nka]), (nka, aI d 16 (upd fnk i v))]) [0, 1, 2] (by decide) rfl
  exact k_vret C hS () (rfl) (trivial) hP9 hD9 d_PG_key_9
theorem mw_PG_sideOf : Mw y_PG_sideOf b_PG_sideOf 2 (some (.object "PacketGuard$Side")) 1 := ⟨m_459, m_1, m_458, by decide +kernel⟩
set_option maxHeartbeats 4000000 in
set_option maxRecDepth 100000 in
theorem c_PG_sideOf0 (l : Launch) (d : DD) (g : Nat) (nk : Nat) (sd : Nat) (rc : Nat) (wk : Nat) (ph : Nat) (wh : Nat) (ch : Nat) (oh : Nat) (qh : Nat) (cc : Nat) (sl : Nat) (kwt : Int32) (kl : Int32) (ft : Int32) : Ct l y_PG_sideOf b_PG_sideOf 2 (some (.object "PacketGuard$Side")) 0 0 0 0 d [(g, ob 0 [.ref nk, .ref sd, .ref rc, .ref wk, .int kwt, .ref ph, .ref wh, .ref ch, .ref oh, .ref qh, .ref cc, .ref sl, .int kl, .int ft])] [.ref g, .int (nI 0)] (fun (_ : Unit) => some (.ref sd)) (fun (_ : Unit) => True) (fun (_ : Unit) => [(g, ob 0 [.ref nk, .ref sd, .ref rc, .ref wk, .int kwt, .ref ph, .ref wh, .ref ch, .ref oh, .ref qh, .ref cc, .ref sl, .int kl, .int ft])]) := by
  refine Ct.of (by decide +kernel) (Nat.le_of_ble_eq_true rfl) ?_
  intro p e s m below meth c A ls C hP hD hS hl
  have hl : lv_has ls 2 [(0, .ref g), (1, .int (nI 0))] := hl
  have hsz9 := hS.1
  refine lv_iload_n C.x C.b d_PG_sideOf_0 rfl (lv_at hl 1 rfl) ?_
  refine lv_if_eq (tgt := 19) C.x C.b d_PG_sideOf_1 (by decide) (fun _ => ?_) (fun h9 => by first | exact absurd h9 (by decide) | exact absurd (by decide) h9)
  refine lv_iload_n C.x C.b d_PG_sideOf_19 rfl (lv_at hl 1 rfl) ?_
  refine lv_if_ne (tgt := 30) C.x C.b d_PG_sideOf_20 (by decide) (fun h9 => by first | exact absurd h9 (by decide) | exact absurd (by decide) h9) (fun _ => ?_)
  refine lv_aload_n C.x C.b d_PG_sideOf_23 rfl (lv_at hl 0 rfl) ?_
  refine k_get C hP 0 rfl rfl i_PG 1 (by decide) m_115 rfl d_PG_sideOf_24 ?_
  refine lv_goto (tgt := 34) C.x C.b d_PG_sideOf_27 (by decide) ?_
  have hP9 := hP.sub (ws' := [(g, ob 0 [.ref nk, .ref sd, .ref rc, .ref wk, .int kwt, .ref ph, .ref wh, .ref ch, .ref oh, .ref qh, .ref cc, .ref sl, .int kl, .int ft])]) [0] rfl
  have hD9 := hD.sub (ws' := [(g, ob 0 [.ref nk, .ref sd, .ref rc, .ref wk, .int kwt, .ref ph, .ref wh, .ref ch, .ref oh, .ref qh, .ref cc, .ref sl, .int kl, .int ft])]) [0] (by decide) rfl
  exact k_aret C hS () (rfl) (trivial) hP9 hD9 d_PG_sideOf_34
set_option maxHeartbeats 4000000 in
set_option maxRecDepth 100000 in
theorem c_PG_sideOf1 (l : Launch) (d : DD) (g : Nat) (nk : Nat) (sd : Nat) (rc : Nat) (wk : Nat) (ph : Nat) (wh : Nat) (ch : Nat) (oh : Nat) (qh : Nat) (cc : Nat) (sl : Nat) (kwt : Int32) (kl : Int32) (ft : Int32) : Ct l y_PG_sideOf b_PG_sideOf 2 (some (.object "PacketGuard$Side")) 0 0 0 0 d [(g, ob 0 [.ref nk, .ref sd, .ref rc, .ref wk, .int kwt, .ref ph, .ref wh, .ref ch, .ref oh, .ref qh, .ref cc, .ref sl, .int kl, .int ft])] [.ref g, .int (nI 1)] (fun (_ : Unit) => some (.ref rc)) (fun (_ : Unit) => True) (fun (_ : Unit) => [(g, ob 0 [.ref nk, .ref sd, .ref rc, .ref wk, .int kwt, .ref ph, .ref wh, .ref ch, .ref oh, .ref qh, .ref cc, .ref sl, .int kl, .int ft])]) := by
  refine Ct.of (by decide +kernel) (Nat.le_of_ble_eq_true rfl) ?_
  intro p e s m below meth c A ls C hP hD hS hl
  have hl : lv_has ls 2 [(0, .ref g), (1, .int (nI 1))] := hl
  have hsz9 := hS.1
  refine lv_iload_n C.x C.b d_PG_sideOf_0 rfl (lv_at hl 1 rfl) ?_
  refine lv_if_eq (tgt := 19) C.x C.b d_PG_sideOf_1 (by decide) (fun h9 => by first | exact absurd h9 (by decide) | exact absurd (by decide) h9) (fun _ => ?_)
  refine lv_iload_n C.x C.b d_PG_sideOf_4 rfl (lv_at hl 1 rfl) ?_
  refine lv_iconst (v := nI 1) C.x C.b d_PG_sideOf_5 (by decide) ?_
  refine lv_icmp_eq (tgt := 19) C.x C.b d_PG_sideOf_6 (by decide) (fun _ => ?_) (fun h9 => by first | exact absurd h9 (by decide) | exact absurd (by decide) h9)
  refine lv_iload_n C.x C.b d_PG_sideOf_19 rfl (lv_at hl 1 rfl) ?_
  refine lv_if_ne (tgt := 30) C.x C.b d_PG_sideOf_20 (by decide) (fun _ => ?_) (fun h9 => by first | exact absurd h9 (by decide) | exact absurd (by decide) h9)
  refine lv_aload_n C.x C.b d_PG_sideOf_30 rfl (lv_at hl 0 rfl) ?_
  refine k_get C hP 0 rfl rfl i_PG 2 (by decide) m_116 rfl d_PG_sideOf_31 ?_
  have hP9 := hP.sub (ws' := [(g, ob 0 [.ref nk, .ref sd, .ref rc, .ref wk, .int kwt, .ref ph, .ref wh, .ref ch, .ref oh, .ref qh, .ref cc, .ref sl, .int kl, .int ft])]) [0] rfl
  have hD9 := hD.sub (ws' := [(g, ob 0 [.ref nk, .ref sd, .ref rc, .ref wk, .int kwt, .ref ph, .ref wh, .ref ch, .ref oh, .ref qh, .ref cc, .ref sl, .int kl, .int ft])]) [0] (by decide) rfl
  exact k_aret C hS () (rfl) (trivial) hP9 hD9 d_PG_sideOf_34
theorem mw_PG_turn : Mw y_PG_turn b_PG_turn 3 none 1 := ⟨m_455, m_1, m_453, by decide +kernel⟩
set_option maxHeartbeats 4000000 in
set_option maxRecDepth 100000 in
theorem c_PG_turn0 (l : Launch) (d : DD) (g : Nat) (nk : Nat) (sd : Nat) (rc : Nat) (wk : Nat) (ph : Nat) (wh : Nat) (ch : Nat) (oh : Nat) (qh : Nat) (cc : Nat) (sl : Nat) (kwt : Int32) (kl : Int32) (ft : Int32) (nka : Nat) (fnk : Nat → Int32) (sk : Nat) (ska : Nat) (fsk : Nat → Int32) (sn : Int32) : Ct l y_PG_turn b_PG_turn 3 none 1 22 0 0 d [(g, ob 0 [.ref nk, .ref sd, .ref rc, .ref wk, .int kwt, .ref ph, .ref wh, .ref ch, .ref oh, .ref qh, .ref cc, .ref sl, .int kl, .int ft]), (nk, ob 5 [.ref nka]), (nka, aI d 16 fnk), (sd, ob 7 [.ref sk, .int sn]), (sk, ob 5 [.ref ska]), (ska, aI d 16 fsk)] [.ref g, .int (nI 0)] (fun (f2 : Nat → Int32) => none) (fun (f2 : Nat → Int32) => ∀ j, j < 16 → f2 j = fnk j) (fun (f2 : Nat → Int32) => [(g, ob 0 [.ref nk, .ref sd, .ref rc, .ref wk, .int kwt, .ref ph, .ref wh, .ref ch, .ref oh, .ref qh, .ref cc, .ref sl, .int kl, .int ft]), (nk, ob 5 [.ref nka]), (nka, aI d 16 fnk), (sd, ob 7 [.ref sk, .int sn]), (sk, ob 5 [.ref ska]), (ska, aI d 16 f2)]) := by
  refine Ct.of (by decide +kernel) (Nat.le_of_ble_eq_true rfl) ?_
  intro p e s m below meth c A ls C hP hD hS hl
  have hl : lv_has ls 3 [(0, .ref g), (1, .int (nI 0))] := hl
  have hsz9 := hS.1
  refine lv_aload_n C.x C.b d_PG_turn_0 rfl (lv_at hl 0 rfl) ?_
  refine lv_iload_n C.x C.b d_PG_turn_1 rfl (lv_at hl 1 rfl) ?_
  refine k_callV (As := [.int (nI 0)]) (rest := []) (wc := [(g, ob 0 [.ref nk, .ref sd, .ref rc, .ref wk, .int kwt, .ref ph, .ref wh, .ref ch, .ref oh, .ref qh, .ref cc, .ref sl, .int kl, .int ft])]) (wr := [(nk, ob 5 [.ref nka]), (nka, aI d 16 fnk), (sd, ob 7 [.ref sk, .int sn]), (sk, ob 5 [.ref ska]), (ska, aI d 16 fsk)]) C (c_PG_sideOf0 l d g nk sd rc wk ph wh ch oh qh cc sl kwt kl ft) mw_PG_sideOf ms_16 m_456 hP hD hS [0] [1, 2, 3, 4, 5] rfl rfl (by decide) (by decide) (by decide) 0 rfl rfl rfl rfl hl.1 (Nat.le_of_ble_eq_true rfl) d_PG_turn_2 ⟨Nat.le_of_ble_eq_true rfl, Nat.le_of_ble_eq_true rfl⟩ ⟨by decide, by decide⟩ (fun _ H locs hw_1 hP hD hS => ?_)
  have hP : va_P d.1 clz [(nk, ob 5 [.ref nka]), (nka, aI d 16 fnk), (sd, ob 7 [.ref sk, .int sn]), (sk, ob 5 [.ref ska]), (ska, aI d 16 fsk), (g, ob 0 [.ref nk, .ref sd, .ref rc, .ref wk, .int kwt, .ref ph, .ref wh, .ref ch, .ref oh, .ref qh, .ref cc, .ref sl, .int kl, .int ft])] H := hP
  have hD : va_D A [(nk, ob 5 [.ref nka]), (nka, aI d 16 fnk), (sd, ob 7 [.ref sk, .int sn]), (sk, ob 5 [.ref ska]), (ska, aI d 16 fsk), (g, ob 0 [.ref nk, .ref sd, .ref rc, .ref wk, .int kwt, .ref ph, .ref wh, .ref ch, .ref oh, .ref qh, .ref cc, .ref sl, .int kl, .int ft])] := hD
  refine W.eq (g2 := F0 m 5 ls [.ref sd]) rfl ?_
  refine lv_astore_n (lv' := [(2, .ref sd), (0, .ref g), (1, .int (nI 0))]) C.x C.b d_PG_turn_5 rfl hl (by decide) rfl (fun ls hl => ?_)
  refine lv_iload_n C.x C.b d_PG_turn_6 rfl (lv_at hl 2 rfl) ?_
  refine lv_iconst (v := nI 1) C.x C.b d_PG_turn_7 (by decide) ?_
  refine lv_icmp_ne (tgt := 37) C.x C.b d_PG_turn_8 (by decide) (fun _ => ?_) (fun h9 => by first | exact absurd h9 (by decide) | exact absurd (by decide) h9)
  refine lv_aload_n C.x C.b d_PG_turn_37 rfl (lv_at hl 0 rfl) ?_
  refine k_callV (As := []) (rest := []) (wc := [(sd, ob 7 [.ref sk, .int sn])]) (wr := [(nk, ob 5 [.ref nka]), (nka, aI d 16 fnk), (sk, ob 5 [.ref ska]), (ska, aI d 16 fsk), (g, ob 0 [.ref nk, .ref sd, .ref rc, .ref wk, .int kwt, .ref ph, .ref wh, .ref ch, .ref oh, .ref qh, .ref cc, .ref sl, .int kl, .int ft])]) C (c_SD_keys l d sd sk sn) mw_SD_keys m_175 m_173 hP hD hS [2] [0, 1, 3, 4, 5] rfl rfl (by decide) (by decide) (by decide) 2 rfl rfl rfl rfl hl.1 (Nat.le_of_ble_eq_true rfl) d_PG_turn_38 ⟨Nat.le_of_ble_eq_true rfl, Nat.le_of_ble_eq_true rfl⟩ ⟨by decide, by decide⟩ (fun _ H locs hw_2 hP hD hS => ?_)
  have hP : va_P d.1 clz [(nk, ob 5 [.ref nka]), (nka, aI d 16 fnk), (sk, ob 5 [.ref ska]), (ska, aI d 16 fsk), (g, ob 0 [.ref nk, .ref sd, .ref rc, .ref wk, .int kwt, .ref ph, .ref wh, .ref ch, .ref oh, .ref qh, .ref cc, .ref sl, .int kl, .int ft]), (sd, ob 7 [.ref sk, .int sn])] H := hP
  have hD : va_D A [(nk, ob 5 [.ref nka]), (nka, aI d 16 fnk), (sk, ob 5 [.ref ska]), (ska, aI d 16 fsk), (g, ob 0 [.ref nk, .ref sd, .ref rc, .ref wk, .int kwt, .ref ph, .ref wh, .ref ch, .ref oh, .ref qh, .ref cc, .ref sl, .int kl, .int ft]), (sd, ob 7 [.ref sk, .int sn])] := hD
  refine W.eq (g2 := F0 m 41 ls [.ref sk]) rfl ?_
  refine lv_aload_n C.x C.b d_PG_turn_41 rfl (lv_at hl 1 rfl) ?_
  refine k_get C hP 4 rfl rfl i_PG 0 (by decide) m_114 rfl d_PG_turn_42 ?_
  refine k_callV (As := [.ref nk]) (rest := []) (wc := [(sk, ob 5 [.ref ska]), (ska, aI d 16 fsk), (nk, ob 5 [.ref nka]), (nka, aI d 16 fnk)]) (wr := [(g, ob 0 [.ref nk, .ref sd, .ref rc, .ref wk, .int kwt, .ref ph, .ref wh, .ref ch, .ref oh, .ref qh, .ref cc, .ref sl, .int kl, .int ft]), (sd, ob 7 [.ref sk, .int sn])]) C (c_KY_copyFrom l d sk ska fsk nk nka fnk) mw_KY_copyFrom m_422 m_420 hP hD hS [2, 3, 0, 1] [4, 5] rfl rfl (by decide) (by decide) (by decide) 2 rfl rfl rfl rfl hl.1 (Nat.le_of_ble_eq_true rfl) d_PG_turn_45 ⟨Nat.le_of_ble_eq_true rfl, Nat.le_of_ble_eq_true rfl⟩ ⟨by decide, by decide⟩ (fun f2 H locs hf2 hP hD hS => ?_)
  have hP : va_P d.1 clz [(g, ob 0 [.ref nk, .ref sd, .ref rc, .ref wk, .int kwt, .ref ph, .ref wh, .ref ch, .ref oh, .ref qh, .ref cc, .ref sl, .int kl, .int ft]), (sd, ob 7 [.ref sk, .int sn]), (sk, ob 5 [.ref ska]), (ska, aI d 16 f2), (nk, ob 5 [.ref nka]), (nka, aI d 16 fnk)] H := hP
  have hD : va_D A [(g, ob 0 [.ref nk, .ref sd, .ref rc, .ref wk, .int kwt, .ref ph, .ref wh, .ref ch, .ref oh, .ref qh, .ref cc, .ref sl, .int kl, .int ft]), (sd, ob 7 [.ref sk, .int sn]), (sk, ob 5 [.ref ska]), (ska, aI d 16 f2), (nk, ob 5 [.ref nka]), (nka, aI d 16 fnk)] := hD
  refine W.eq (g2 := F0 m 48 ls []) rfl ?_
  have hf2 : ∀ j, j < 16 → f2 j = fnk j := hf2
  have hP9 := hP.sub (ws' := [(g, ob 0 [.ref nk, .ref sd, .ref rc, .ref wk, .int kwt, .ref ph, .ref wh, .ref ch, .ref oh, .ref qh, .ref cc, .ref sl, .int kl, .int ft]), (nk, ob 5 [.ref nka]), (nka, aI d 16 fnk), (sd, ob 7 [.ref sk, .int sn]), (sk, ob 5 [.ref ska]), (ska, aI d 16 f2)]) [0, 4, 5, 1, 2, 3] rfl
  have hD9 := hD.sub (ws' := [(g, ob 0 [.ref nk, .ref sd, .ref rc, .ref wk, .int kwt, .ref ph, .ref wh, .ref ch, .ref oh, .ref qh, .ref cc, .ref sl, .int kl, .int ft]), (nk, ob 5 [.ref nka]), (nka, aI d 16 fnk), (sd, ob 7 [.ref sk, .int sn]), (sk, ob 5 [.ref ska]), (ska, aI d 16 f2)]) [0, 4, 5, 1, 2, 3] (by decide) rfl
  exact k_vret C hS f2 (rfl) (hf2) hP9 hD9 d_PG_turn_48
set_option maxHeartbeats 4000000 in
set_option maxRecDepth 100000 in
theorem c_PG_turn1 (l : Launch) (d : DD) (g : Nat) (nk : Nat) (sd : Nat) (rc : Nat) (wk : Nat) (ph : Nat) (wh : Nat) (ch : Nat) (oh : Nat) (qh : Nat) (cc : Nat) (sl : Nat) (kwt : Int32) (kl : Int32) (ft : Int32) (nka : Nat) (fnk : Nat → Int32) (rk : Nat) (rka : Nat) (frk : Nat → Int32) (rn : Int32) (hkl : kl = 0) : Ct l y_PG_turn b_PG_turn 3 none 1 22 0 0 d [(g, ob 0 [.ref nk, .ref sd, .ref rc, .ref wk, .int kwt, .ref ph, .ref wh, .ref ch, .ref oh, .ref qh, .ref cc, .ref sl, .int kl, .int ft]), (nk, ob 5 [.ref nka]), (nka, aI d 16 fnk), (rc, ob 7 [.ref rk, .int rn]), (rk, ob 5 [.ref rka]), (rka, aI d 16 frk)] [.ref g, .int (nI 1)] (fun (f2 : Nat → Int32) => none) (fun (f2 : Nat → Int32) => ∀ j, j < 16 → f2 j = fnk j) (fun (f2 : Nat → Int32) => [(g, ob 0 [.ref nk, .ref sd, .ref rc, .ref wk, .int kwt, .ref ph, .ref wh, .ref ch, .ref oh, .ref qh, .ref cc, .ref sl, .int kl, .int ft]), (nk, ob 5 [.ref nka]), (nka, aI d 16 fnk), (rc, ob 7 [.ref rk, .int rn]), (rk, ob 5 [.ref rka]), (rka, aI d 16 f2)]) := by
  refine Ct.of (by decide +kernel) (Nat.le_of_ble_eq_true rfl) ?_
  intro p e s m below meth c A ls C hP hD hS hl
  have hl : lv_has ls 3 [(0, .ref g), (1, .int (nI 1))] := hl
  have hsz9 := hS.1
  refine lv_aload_n C.x C.b d_PG_turn_0 rfl (lv_at hl 0 rfl) ?_
  refine lv_iload_n C.x C.b d_PG_turn_1 rfl (lv_at hl 1 rfl) ?_
  refine k_callV (As := [.int (nI 1)]) (rest := []) (wc := [(g, ob 0 [.ref nk, .ref sd, .ref rc, .ref wk, .int kwt, .ref ph, .ref wh, .ref ch, .ref oh, .ref qh, .ref cc, .ref sl, .int kl, .int ft])]) (wr := [(nk, ob 5 [.ref nka]), (nka, aI d 16 fnk), (rc, ob 7 [.ref rk, .int rn]), (rk, ob 5 [.ref rka]), (rka, aI d 16 frk)]) C (c_PG_sideOf1 l d g nk sd rc wk ph wh ch oh qh cc sl kwt kl ft) mw_PG_sideOf ms_16 m_456 hP hD hS [0] [1, 2, 3, 4, 5] rfl rfl (by decide) (by decide) (by decide) 0 rfl rfl rfl rfl hl.1 (Nat.le_of_ble_eq_true rfl) d_PG_turn_2 ⟨Nat.le_of_ble_eq_true rfl, Nat.le_of_ble_eq_true rfl⟩ ⟨by decide, by decide⟩ (fun _ H locs hw_1 hP hD hS => ?_)
  have hP : va_P d.1 clz [(nk, ob 5 [.ref nka]), (nka, aI d 16 fnk), (rc, ob 7 [.ref rk, .int rn]), (rk, ob 5 [.ref rka]), (rka, aI d 16 frk), (g, ob 0 [.ref nk, .ref sd, .ref rc, .ref wk, .int kwt, .ref ph, .ref wh, .ref ch, .ref oh, .ref qh, .ref cc, .ref sl, .int kl, .int ft])] H := hP
  have hD : va_D A [(nk, ob 5 [.ref nka]), (nka, aI d 16 fnk), (rc, ob 7 [.ref rk, .int rn]), (rk, ob 5 [.ref rka]), (rka, aI d 16 frk), (g, ob 0 [.ref nk, .ref sd, .ref rc, .ref wk, .int kwt, .ref ph, .ref wh, .ref ch, .ref oh, .ref qh, .ref cc, .ref sl, .int kl, .int ft])] := hD
  refine W.eq (g2 := F0 m 5 ls [.ref rc]) rfl ?_
  refine lv_astore_n (lv' := [(2, .ref rc), (0, .ref g), (1, .int (nI 1))]) C.x C.b d_PG_turn_5 rfl hl (by decide) rfl (fun ls hl => ?_)
  refine lv_iload_n C.x C.b d_PG_turn_6 rfl (lv_at hl 2 rfl) ?_
  refine lv_iconst (v := nI 1) C.x C.b d_PG_turn_7 (by decide) ?_
  refine lv_icmp_ne (tgt := 37) C.x C.b d_PG_turn_8 (by decide) (fun h9 => by first | exact absurd h9 (by decide) | exact absurd (by decide) h9) (fun _ => ?_)
  refine lv_aload_n C.x C.b d_PG_turn_11 rfl (lv_at hl 1 rfl) ?_
  refine k_get C hP 5 rfl rfl i_PG 12 (by decide) m_126 rfl d_PG_turn_12 ?_
  refine lv_if_eq (tgt := 37) C.x C.b d_PG_turn_15 (by decide) (fun hc_2 => ?_) (fun h9 => False.elim (h9 hkl))
  refine lv_aload_n C.x C.b d_PG_turn_37 rfl (lv_at hl 0 rfl) ?_
  refine k_callV (As := []) (rest := []) (wc := [(rc, ob 7 [.ref rk, .int rn])]) (wr := [(nk, ob 5 [.ref nka]), (nka, aI d 16 fnk), (rk, ob 5 [.ref rka]), (rka, aI d 16 frk), (g, ob 0 [.ref nk, .ref sd, .ref rc, .ref wk, .int kwt, .ref ph, .ref wh, .ref ch, .ref oh, .ref qh, .ref cc, .ref sl, .int kl, .int ft])]) C (c_SD_keys l d rc rk rn) mw_SD_keys m_175 m_173 hP hD hS [2] [0, 1, 3, 4, 5] rfl rfl (by decide) (by decide) (by decide) 2 rfl rfl rfl rfl hl.1 (Nat.le_of_ble_eq_true rfl) d_PG_turn_38 ⟨Nat.le_of_ble_eq_true rfl, Nat.le_of_ble_eq_true rfl⟩ ⟨by decide, by decide⟩ (fun _ H locs hw_3 hP hD hS => ?_)
  have hP : va_P d.1 clz [(nk, ob 5 [.ref nka]), (nka, aI d 16 fnk), (rk, ob 5 [.ref rka]), (rka, aI d 16 frk), (g, ob 0 [.ref nk, .ref sd, .ref rc, .ref wk, .int kwt, .ref ph, .ref wh, .ref ch, .ref oh, .ref qh, .ref cc, .ref sl, .int kl, .int ft]), (rc, ob 7 [.ref rk, .int rn])] H := hP
  have hD : va_D A [(nk, ob 5 [.ref nka]), (nka, aI d 16 fnk), (rk, ob 5 [.ref rka]), (rka, aI d 16 frk), (g, ob 0 [.ref nk, .ref sd, .ref rc, .ref wk, .int kwt, .ref ph, .ref wh, .ref ch, .ref oh, .ref qh, .ref cc, .ref sl, .int kl, .int ft]), (rc, ob 7 [.ref rk, .int rn])] := hD
  refine W.eq (g2 := F0 m 41 ls [.ref rk]) rfl ?_
  refine lv_aload_n C.x C.b d_PG_turn_41 rfl (lv_at hl 1 rfl) ?_
  refine k_get C hP 4 rfl rfl i_PG 0 (by decide) m_114 rfl d_PG_turn_42 ?_
  refine k_callV (As := [.ref nk]) (rest := []) (wc := [(rk, ob 5 [.ref rka]), (rka, aI d 16 frk), (nk, ob 5 [.ref nka]), (nka, aI d 16 fnk)]) (wr := [(g, ob 0 [.ref nk, .ref sd, .ref rc, .ref wk, .int kwt, .ref ph, .ref wh, .ref ch, .ref oh, .ref qh, .ref cc, .ref sl, .int kl, .int ft]), (rc, ob 7 [.ref rk, .int rn])]) C (c_KY_copyFrom l d rk rka frk nk nka fnk) mw_KY_copyFrom m_422 m_420 hP hD hS [2, 3, 0, 1] [4, 5] rfl rfl (by decide) (by decide) (by decide) 2 rfl rfl rfl rfl hl.1 (Nat.le_of_ble_eq_true rfl) d_PG_turn_45 ⟨Nat.le_of_ble_eq_true rfl, Nat.le_of_ble_eq_true rfl⟩ ⟨by decide, by decide⟩ (fun f2 H locs hf2 hP hD hS => ?_)
  have hP : va_P d.1 clz [(g, ob 0 [.ref nk, .ref sd, .ref rc, .ref wk, .int kwt, .ref ph, .ref wh, .ref ch, .ref oh, .ref qh, .ref cc, .ref sl, .int kl, .int ft]), (rc, ob 7 [.ref rk, .int rn]), (rk, ob 5 [.ref rka]), (rka, aI d 16 f2), (nk, ob 5 [.ref nka]), (nka, aI d 16 fnk)] H := hP
  have hD : va_D A [(g, ob 0 [.ref nk, .ref sd, .ref rc, .ref wk, .int kwt, .ref ph, .ref wh, .ref ch, .ref oh, .ref qh, .ref cc, .ref sl, .int kl, .int ft]), (rc, ob 7 [.ref rk, .int rn]), (rk, ob 5 [.ref rka]), (rka, aI d 16 f2), (nk, ob 5 [.ref nka]), (nka, aI d 16 fnk)] := hD
  refine W.eq (g2 := F0 m 48 ls []) rfl ?_
  have hf2 : ∀ j, j < 16 → f2 j = fnk j := hf2
  have hP9 := hP.sub (ws' := [(g, ob 0 [.ref nk, .ref sd, .ref rc, .ref wk, .int kwt, .ref ph, .ref wh, .ref ch, .ref oh, .ref qh, .ref cc, .ref sl, .int kl, .int ft]), (nk, ob 5 [.ref nka]), (nka, aI d 16 fnk), (rc, ob 7 [.ref rk, .int rn]), (rk, ob 5 [.ref rka]), (rka, aI d 16 f2)]) [0, 4, 5, 1, 2, 3] rfl
  have hD9 := hD.sub (ws' := [(g, ob 0 [.ref nk, .ref sd, .ref rc, .ref wk, .int kwt, .ref ph, .ref wh, .ref ch, .ref oh, .ref qh, .ref cc, .ref sl, .int kl, .int ft]), (nk, ob 5 [.ref nka]), (nka, aI d 16 fnk), (rc, ob 7 [.ref rk, .int rn]), (rk, ob 5 [.ref rka]), (rka, aI d 16 f2)]) [0, 4, 5, 1, 2, 3] (by decide) rfl
  exact k_vret C hS f2 (rfl) (hf2) hP9 hD9 d_PG_turn_48
set_option maxHeartbeats 4000000 in
set_option maxRecDepth 100000 in
theorem c_PG_turn2 (l : Launch) (d : DD) (g : Nat) (nk : Nat) (sd : Nat) (rc : Nat) (wk : Nat) (ph : Nat) (wh : Nat) (ch : Nat) (oh : Nat) (qh : Nat) (cc : Nat) (sl : Nat) (kwt : Int32) (kl : Int32) (ft : Int32) (nka : Nat) (fnk : Nat → Int32) (wka : Nat) (fwk : Nat → Int32) (hkl : ¬ kl = 0) : Ct l y_PG_turn b_PG_turn 3 none 1 22 0 0 d [(g, ob 0 [.ref nk, .ref sd, .ref rc, .ref wk, .int kwt, .ref ph, .ref wh, .ref ch, .ref oh, .ref qh, .ref cc, .ref sl, .int kl, .int ft]), (nk, ob 5 [.ref nka]), (nka, aI d 16 fnk), (wk, ob 5 [.ref wka]), (wka, aI d 16 fwk)] [.ref g, .int (nI 1)] (fun (f2 : Nat → Int32) => none) (fun (f2 : Nat → Int32) => ∀ j, j < 16 → f2 j = fnk j) (fun (f2 : Nat → Int32) => [(g, ob 0 [.ref nk, .ref sd, .ref rc, .ref wk, .int (nI 1), .ref ph, .ref wh, .ref ch, .ref oh, .ref qh, .ref cc, .ref sl, .int kl, .int ft]), (nk, ob 5 [.ref nka]), (nka, aI d 16 fnk), (wk, ob 5 [.ref wka]), (wka, aI d 16 f2)]) := by
  refine Ct.of (by decide +kernel) (Nat.le_of_ble_eq_true rfl) ?_
  intro p e s m below meth c A ls C hP hD hS hl
  have hl : lv_has ls 3 [(0, .ref g), (1, .int (nI 1))] := hl
  have hsz9 := hS.1
  refine lv_aload_n C.x C.b d_PG_turn_0 rfl (lv_at hl 0 rfl) ?_
  refine lv_iload_n C.x C.b d_PG_turn_1 rfl (lv_at hl 1 rfl) ?_
  refine k_callV (As := [.int (nI 1)]) (rest := []) (wc := [(g, ob 0 [.ref nk, .ref sd, .ref rc, .ref wk, .int kwt, .ref ph, .ref wh, .ref ch, .ref oh, .ref qh, .ref cc, .ref sl, .int kl, .int ft])]) (wr := [(nk, ob 5 [.ref nka]), (nka, aI d 16 fnk), (wk, ob 5 [.ref wka]), (wka, aI d 16 fwk)]) C (c_PG_sideOf1 l d g nk sd rc wk ph wh ch oh qh cc sl kwt kl ft) mw_PG_sideOf ms_16 m_456 hP hD hS [0] [1, 2, 3, 4] rfl rfl (by decide) (by decide) (by decide) 0 rfl rfl rfl rfl hl.1 (Nat.le_of_ble_eq_true rfl) d_PG_turn_2 ⟨Nat.le_of_ble_eq_true rfl, Nat.le_of_ble_eq_true rfl⟩ ⟨by decide, by decide⟩ (fun _ H locs hw_1 hP hD hS => ?_)
  have hP : va_P d.1 clz [(nk, ob 5 [.ref nka]), (nka, aI d 16 fnk), (wk, ob 5 [.ref wka]), (wka, aI d 16 fwk), (g, ob 0 [.ref nk, .ref sd, .ref rc, .ref wk, .int kwt, .ref ph, .ref wh, .ref ch, .ref oh, .ref qh, .ref cc, .ref sl, .int kl, .int ft])] H := hP
  have hD : va_D A [(nk, ob 5 [.ref nka]), (nka, aI d 16 fnk), (wk, ob 5 [.ref wka]), (wka, aI d 16 fwk), (g, ob 0 [.ref nk, .ref sd, .ref rc, .ref wk, .int kwt, .ref ph, .ref wh, .ref ch, .ref oh, .ref qh, .ref cc, .ref sl, .int kl, .int ft])] := hD
  refine W.eq (g2 := F0 m 5 ls [.ref rc]) rfl ?_
  refine lv_astore_n (lv' := [(2, .ref rc), (0, .ref g), (1, .int (nI 1))]) C.x C.b d_PG_turn_5 rfl hl (by decide) rfl (fun ls hl => ?_)
  refine lv_iload_n C.x C.b d_PG_turn_6 rfl (lv_at hl 2 rfl) ?_
  refine lv_iconst (v := nI 1) C.x C.b d_PG_turn_7 (by decide) ?_
  refine lv_icmp_ne (tgt := 37) C.x C.b d_PG_turn_8 (by decide) (fun h9 => by first | exact absurd h9 (by decide) | exact absurd (by decide) h9) (fun _ => ?_)
  refine lv_aload_n C.x C.b d_PG_turn_11 rfl (lv_at hl 1 rfl) ?_
  refine k_get C hP 4 rfl rfl i_PG 12 (by decide) m_126 rfl d_PG_turn_12 ?_
  refine lv_if_eq (tgt := 37) C.x C.b d_PG_turn_15 (by decide) (fun h9 => False.elim (hkl h9)) (fun hc_2 => ?_)
  refine lv_aload_n C.x C.b d_PG_turn_18 rfl (lv_at hl 1 rfl) ?_
  refine k_get C hP 4 rfl rfl i_PG 3 (by decide) m_117 rfl d_PG_turn_19 ?_
  refine lv_aload_n C.x C.b d_PG_turn_22 rfl (lv_at hl 1 rfl) ?_
  refine k_get C hP 4 rfl rfl i_PG 0 (by decide) m_114 rfl d_PG_turn_23 ?_
  refine k_callV (As := [.ref nk]) (rest := []) (wc := [(wk, ob 5 [.ref wka]), (wka, aI d 16 fwk), (nk, ob 5 [.ref nka]), (nka, aI d 16 fnk)]) (wr := [(g, ob 0 [.ref nk, .ref sd, .ref rc, .ref wk, .int kwt, .ref ph, .ref wh, .ref ch, .ref oh, .ref qh, .ref cc, .ref sl, .int kl, .int ft])]) C (c_KY_copyFrom l d wk wka fwk nk nka fnk) mw_KY_copyFrom m_422 m_420 hP hD hS [2, 3, 0, 1] [4] rfl rfl (by decide) (by decide) (by decide) 2 rfl rfl rfl rfl hl.1 (Nat.le_of_ble_eq_true rfl) d_PG_turn_26 ⟨Nat.le_of_ble_eq_true rfl, Nat.le_of_ble_eq_true rfl⟩ ⟨by decide, by decide⟩ (fun f2 H locs hf2 hP hD hS => ?_)
  have hP : va_P d.1 clz [(g, ob 0 [.ref nk, .ref sd, .ref rc, .ref wk, .int kwt, .ref ph, .ref wh, .ref ch, .ref oh, .ref qh, .ref cc, .ref sl, .int kl, .int ft]), (wk, ob 5 [.ref wka]), (wka, aI d 16 f2), (nk, ob 5 [.ref nka]), (nka, aI d 16 fnk)] H := hP
  have hD : va_D A [(g, ob 0 [.ref nk, .ref sd, .ref rc, .ref wk, .int kwt, .ref ph, .ref wh, .ref ch, .ref oh, .ref qh, .ref cc, .ref sl, .int kl, .int ft]), (wk, ob 5 [.ref wka]), (wka, aI d 16 f2), (nk, ob 5 [.ref nka]), (nka, aI d 16 fnk)] := hD
  refine W.eq (g2 := F0 m 29 ls []) rfl ?_
  have hf2 : ∀ j, j < 16 → f2 j = fnk j := hf2
  refine lv_aload_n C.x C.b d_PG_turn_29 rfl (lv_at hl 1 rfl) ?_
  refine lv_iconst (v := nI 1) C.x C.b d_PG_turn_30 (by decide) ?_
  refine k_put C hP hD hS 0 rfl rfl i_PG tk_PG n_PG 4 (by decide) m_118 rfl rfl rfl (Nat.le_of_ble_eq_true rfl) d_PG_turn_31 (fun H locs hP hD hS => ?_)
  have hP : va_P d.1 clz [(g, ob 0 [.ref nk, .ref sd, .ref rc, .ref wk, .int (nI 1), .ref ph, .ref wh, .ref ch, .ref oh, .ref qh, .ref cc, .ref sl, .int kl, .int ft]), (wk, ob 5 [.ref wka]), (wka, aI d 16 f2), (nk, ob 5 [.ref nka]), (nka, aI d 16 fnk)] H := hP
  have hD : va_D A [(g, ob 0 [.ref nk, .ref sd, .ref rc, .ref wk, .int (nI 1), .ref ph, .ref wh, .ref ch, .ref oh, .ref qh, .ref cc, .ref sl, .int kl, .int ft]), (wk, ob 5 [.ref wka]), (wka, aI d 16 f2), (nk, ob 5 [.ref nka]), (nka, aI d 16 fnk)] := hD
  refine lv_goto (tgt := 48) C.x C.b d_PG_turn_34 (by decide) ?_
  have hP9 := hP.sub (ws' := [(g, ob 0 [.ref nk, .ref sd, .ref rc, .ref wk, .int (nI 1), .ref ph, .ref wh, .ref ch, .ref oh, .ref qh, .ref cc, .ref sl, .int kl, .int ft]), (nk, ob 5 [.ref nka]), (nka, aI d 16 fnk), (wk, ob 5 [.ref wka]), (wka, aI d 16 f2)]) [0, 3, 4, 1, 2] rfl
  have hD9 := hD.sub (ws' := [(g, ob 0 [.ref nk, .ref sd, .ref rc, .ref wk, .int (nI 1), .ref ph, .ref wh, .ref ch, .ref oh, .ref qh, .ref cc, .ref sl, .int kl, .int ft]), (nk, ob 5 [.ref nka]), (nka, aI d 16 fnk), (wk, ob 5 [.ref wka]), (wka, aI d 16 f2)]) [0, 3, 4, 1, 2] (by decide) rfl
  exact k_vret C hS f2 (rfl) (hf2) hP9 hD9 d_PG_turn_48
theorem mw_PG_put : Mw y_PG_put b_PG_put 4 (some .int) 2 := ⟨m_471, m_1, m_469, by decide +kernel⟩
set_option maxHeartbeats 4000000 in
set_option maxRecDepth 100000 in
theorem c_PG_put (l : Launch) (d : DD) (g : Nat) (nk : Nat) (sd : Nat) (rc : Nat) (wk : Nat) (ph : Nat) (wh : Nat) (ch : Nat) (oh : Nat) (qh : Nat) (cc : Nat) (sl : Nat) (kwt : Int32) (kl : Int32) (ft : Int32) (pa : Nat) (ps : Nat) (pn : Nat) (pf : Nat → Int32) (pL : List Int32) (v : Int32) (n : Nat) (hBp : BQ 500 pf ps pn pL) (hn1 : 1 ≤ n) (hn4 : n ≤ 4) (hr : pn + n ≤ 500) : Ct l y_PG_put b_PG_put 4 (some .int) 2 43 0 0 d [(g, ob 0 [.ref nk, .ref sd, .ref rc, .ref wk, .int kwt, .ref ph, .ref wh, .ref ch, .ref oh, .ref qh, .ref cc, .ref sl, .int kl, .int ft]), (ph, ob 2 [.ref pa, .int (nI ps), .int (nI pn)]), (pa, aB d 500 pf)] [.ref g, .int v, .int (nI n)] (fun (f2 : Nat → Int32) => some (.int (nI (pn + n)))) (fun (f2 : Nat → Int32) => BQ 500 f2 ps (pn + n) (pL ++ pby v n n)) (fun (f2 : Nat → Int32) => [(g, ob 0 [.ref nk, .ref sd, .ref rc, .ref wk, .int kwt, .ref ph, .ref wh, .ref ch, .ref oh, .ref qh, .ref cc, .ref sl, .int kl, .int ft]), (ph, ob 2 [.ref pa, .int (nI ps), .int (nI (pn + n))]), (pa, aB d 500 f2)]) := by
  refine Ct.of (by decide +kernel) (Nat.le_of_ble_eq_true rfl) ?_
  intro p e s m below meth c A ls C hP hD hS hl
  have hl : lv_has ls 4 [(0, .ref g), (1, .int v), (2, .int (nI n))] := hl
  have hsz9 := hS.1
  obtain ⟨hq1, hq2, hq3, hq4, hq5, hq6⟩ := id hBp
  refine lv_iload_n C.x C.b d_PG_put_0 rfl (lv_at hl 2 rfl) ?_
  refine lv_iconst (v := nI 1) C.x C.b d_PG_put_1 (by decide) ?_
  refine lv_icmp_lt (tgt := 10) C.x C.b d_PG_put_2 (by decide) (fun h9 => False.elim (nI_nlt (by omega) (by omega) h9)) (fun hc_1 => ?_)
  rw [nI_ltI (by omega) (by omega)] at hc_1
  refine lv_iload_n C.x C.b d_PG_put_5 rfl (lv_at hl 2 rfl) ?_
  refine lv_iconst (v := nI 4) C.x C.b d_PG_put_6 (by decide) ?_
  refine lv_icmp_le (tgt := 20) C.x C.b d_PG_put_7 (by decide) (fun hc_2 => ?_) (fun h9 => False.elim (h9 (nI_le (by omega) (by omega))))
  rw [nI_leI (by omega) (by omega)] at hc_2
  refine lv_aload_n C.x C.b d_PG_put_20 rfl (lv_at hl 0 rfl) ?_
  refine k_get C hP 0 rfl rfl i_PG 5 (by decide) m_119 rfl d_PG_put_21 ?_
  refine k_callV (As := []) (rest := []) (wc := [(ph, ob 2 [.ref pa, .int (nI ps), .int (nI pn)]), (pa, aB d 500 pf)]) (wr := [(g, ob 0 [.ref nk, .ref sd, .ref rc, .ref wk, .int kwt, .ref ph, .ref wh, .ref ch, .ref oh, .ref qh, .ref cc, .ref sl, .int kl, .int ft])]) C (c_BQ_size l d ph pa 500 ps pn pf) mw_BQ_size m_163 m_161 hP hD hS [1, 2] [0] rfl rfl (by decide) (by decide) (by decide) 1 rfl rfl rfl rfl hl.1 (Nat.le_of_ble_eq_true rfl) d_PG_put_24 ⟨Nat.le_of_ble_eq_true rfl, Nat.le_of_ble_eq_true rfl⟩ ⟨by decide, by decide⟩ (fun _ H locs hw_3 hP hD hS => ?_)
  have hP : va_P d.1 clz [(g, ob 0 [.ref nk, .ref sd, .ref rc, .ref wk, .int kwt, .ref ph, .ref wh, .ref ch, .ref oh, .ref qh, .ref cc, .ref sl, .int kl, .int ft]), (ph, ob 2 [.ref pa, .int (nI ps), .int (nI pn)]), (pa, aB d 500 pf)] H := hP
  have hD : va_D A [(g, ob 0 [.ref nk, .ref sd, .ref rc, .ref wk, .int kwt, .ref ph, .ref wh, .ref ch, .ref oh, .ref qh, .ref cc, .ref sl, .int kl, .int ft]), (ph, ob 2 [.ref pa, .int (nI ps), .int (nI pn)]), (pa, aB d 500 pf)] := hD
  refine W.eq (g2 := F0 m 27 ls [.int (nI pn)]) rfl ?_
  refine lv_iload_n C.x C.b d_PG_put_27 rfl (lv_at hl 2 rfl) ?_
  refine lv_iadd C.x C.b d_PG_put_28 ?_
  refine k_top (y := nI (pn + n)) (nI_add _ _) ?_
  refine lv_sipush (v := nI 500) C.x C.b d_PG_put_29 (by decide) ?_
  refine lv_icmp_le (tgt := 45) C.x C.b d_PG_put_32 (by decide) (fun hc_4 => ?_) (fun h9 => False.elim (h9 (nI_le (by omega) (by omega))))
  rw [nI_leI (by omega) (by omega)] at hc_4
  refine lv_iload_n C.x C.b d_PG_put_45 rfl (lv_at hl 2 rfl) ?_
  refine lv_iconst (v := nI 1) C.x C.b d_PG_put_46 (by decide) ?_
  refine lv_isub C.x C.b d_PG_put_47 ?_
  refine k_top (y := nI (n - 1)) (pk_sub (by omega)) ?_
  refine lv_istore_n (lv' := [(3, .int (nI (n - 1))), (0, .ref g), (1, .int v), (2, .int (nI n))]) C.x C.b d_PG_put_48 rfl hl (by decide) rfl (fun ls hl => ?_)
  have L49 : ∀ (fuel : Nat) (j : Nat) (x9 : Int32) (g9 : Nat → Int32), n - j < fuel → (j ≤ n) → ((j < n → x9 = nI (n - 1 - j)) ∧ (j = n → x9 = -1)) → (BQ 500 g9 ps (pn + j) (pL ++ pby v n j)) → ∀ (H : Heap) (locs : List Loc) (ls : Array Slot), va_P d.1 clz [(g, ob 0 [.ref nk, .ref sd, .ref rc, .ref wk, .int kwt, .ref ph, .ref wh, .ref ch, .ref oh, .ref qh, .ref cc, .ref sl, .int kl, .int ft]), (ph, ob 2 [.ref pa, .int (nI ps), .int (nI (pn + j))]), (pa, aB d 500 g9)] H → va_D A [(g, ob 0 [.ref nk, .ref sd, .ref rc, .ref wk, .int kwt, .ref ph, .ref wh, .ref ch, .ref oh, .ref qh, .ref cc, .ref sl, .int kl, .int ft]), (ph, ob 2 [.ref pa, .int (nI ps), .int (nI (pn + j))]), (pa, aB d 500 g9)] → va_S A s.heap H locs → lv_has ls 4 [(0, .ref g), (1, .int v), (3, .int x9)] → W p l e (Rm 2 43 0 0) s m ([.ref g, .int v, .int (nI n)] : List Value).toArray below meth c H locs 0 0 (MQ below (Cout d A (fun (f2 : Nat → Int32) => some (.int (nI (pn + n)))) (fun (f2 : Nat → Int32) => BQ 500 f2 ps (pn + n) (pL ++ pby v n n)) (fun (f2 : Nat → Int32) => [(g, ob 0 [.ref nk, .ref sd, .ref rc, .ref wk, .int kwt, .ref ph, .ref wh, .ref ch, .ref oh, .ref qh, .ref cc, .ref sl, .int kl, .int ft]), (ph, ob 2 [.ref pa, .int (nI ps), .int (nI (pn + n))]), (pa, aB d 500 f2)])) ([.ref g, .int v, .int (nI n)] : List Value).toArray s 0 0 A) (F0 m 49 ls []) := by
    intro fuel
    induction fuel with
    | zero => intro j x9 g9 h9; exact absurd h9 (Nat.not_lt_zero _)
    | succ fuel ih49 =>
      intro j x9 g9 hfu49 hj hx9 hg9 H locs ls hP hD hS hl
      refine lv_iload_n C.x C.b d_PG_put_49 rfl (lv_at hl 2 rfl) ?_
      refine lv_if_lt (tgt := 72) C.x C.b d_PG_put_50 (by decide) (fun hc50 => ?_) (fun hc50 => ?_)
      · have ej : j = n := by rcases Nat.lt_or_ge j n with q | q; exact absurd (by rw [hx9.1 q] at hc50; exact hc50) (nI_pos (by omega)); omega
        refine lv_aload_n C.x C.b d_PG_put_72 rfl (lv_at hl 0 rfl) ?_
        refine k_get C hP 0 rfl rfl i_PG 5 (by decide) m_119 rfl d_PG_put_73 ?_
        refine k_callV (As := []) (rest := []) (wc := [(ph, ob 2 [.ref pa, .int (nI ps), .int (nI (pn + j))]), (pa, aB d 500 g9)]) (wr := [(g, ob 0 [.ref nk, .ref sd, .ref rc, .ref wk, .int kwt, .ref ph, .ref wh, .ref ch, .ref oh, .ref qh, .ref cc, .ref sl, .int kl, .int ft])]) C (c_BQ_size l d ph pa 500 ps (pn + j) g9) mw_BQ_size m_163 m_161 hP hD hS [1, 2] [0] rfl rfl (by decide) (by decide) (by decide) 1 rfl rfl rfl rfl hl.1 (Nat.le_of_ble_eq_true rfl) d_PG_put_76 ⟨Nat.le_of_ble_eq_true rfl, Nat.le_of_ble_eq_true rfl⟩ ⟨by decide, by decide⟩ (fun _ H locs hw_6 hP hD hS => ?_)
        have hP : va_P d.1 clz [(g, ob 0 [.ref nk, .ref sd, .ref rc, .ref wk, .int kwt, .ref ph, .ref wh, .ref ch, .ref oh, .ref qh, .ref cc, .ref sl, .int kl, .int ft]), (ph, ob 2 [.ref pa, .int (nI ps), .int (nI (pn + j))]), (pa, aB d 500 g9)] H := hP
        have hD : va_D A [(g, ob 0 [.ref nk, .ref sd, .ref rc, .ref wk, .int kwt, .ref ph, .ref wh, .ref ch, .ref oh, .ref qh, .ref cc, .ref sl, .int kl, .int ft]), (ph, ob 2 [.ref pa, .int (nI ps), .int (nI (pn + j))]), (pa, aB d 500 g9)] := hD
        refine W.eq (g2 := F0 m 79 ls [.int (nI (pn + j))]) rfl ?_
        have hP9 := hP.sub (ws' := [(g, ob 0 [.ref nk, .ref sd, .ref rc, .ref wk, .int kwt, .ref ph, .ref wh, .ref ch, .ref oh, .ref qh, .ref cc, .ref sl, .int kl, .int ft]), (ph, ob 2 [.ref pa, .int (nI ps), .int (nI (pn + j))]), (pa, aB d 500 g9)]) [0, 1, 2] rfl
        have hD9 := hD.sub (ws' := [(g, ob 0 [.ref nk, .ref sd, .ref rc, .ref wk, .int kwt, .ref ph, .ref wh, .ref ch, .ref oh, .ref qh, .ref cc, .ref sl, .int kl, .int ft]), (ph, ob 2 [.ref pa, .int (nI ps), .int (nI (pn + j))]), (pa, aB d 500 g9)]) [0, 1, 2] (by decide) rfl
        rw [ej] at hP9 hD9 hg9
        exact k_iret C hS g9 (by show some (Value.int (nI (pn + n))) = _; rw [ej]) (by rw [← ej] at hg9 ⊢; exact hg9) hP9 hD9 d_PG_put_79
      · have ej : j < n := by rcases Nat.lt_or_ge j n with q | q; exact q; exact absurd (show x9 < 0 by rw [hx9.2 (by omega)]; decide) hc50
        have ex := hx9.1 ej
        refine lv_aload_n C.x C.b d_PG_put_53 rfl (lv_at hl 0 rfl) ?_
        refine k_get C hP 0 rfl rfl i_PG 5 (by decide) m_119 rfl d_PG_put_54 ?_
        refine lv_iload_n C.x C.b d_PG_put_57 rfl (lv_at hl 1 rfl) ?_
        refine lv_bipush (v := nI 8) C.x C.b d_PG_put_58 (by decide) ?_
        refine lv_iload_n C.x C.b d_PG_put_60 rfl (lv_at hl 2 rfl) ?_
        refine lv_imul C.x C.b d_PG_put_61 ?_
        refine lv_iushr (v := (v.toUInt32 >>> (((nI 8) * x9).toUInt32 &&& Int32.toUInt32 31)).toInt32) C.x C.b d_PG_put_62 rfl ?_
        refine k_top (y := ush v (8 * (n - 1 - j))) (by rw [ex, pk_mul]; rfl) ?_
        refine k_callV (As := [.int (ush v (8 * (n - 1 - j)))]) (rest := []) (wc := [(ph, ob 2 [.ref pa, .int (nI ps), .int (nI (pn + j))]), (pa, aB d 500 g9)]) (wr := [(g, ob 0 [.ref nk, .ref sd, .ref rc, .ref wk, .int kwt, .ref ph, .ref wh, .ref ch, .ref oh, .ref qh, .ref cc, .ref sl, .int kl, .int ft])]) C (c_BQ_add l d ph pa 500 ps (pn + j) g9 (pL ++ pby v n j) (ush v (8 * (n - 1 - j))) (hg9) (by omega)) mw_BQ_add m_320 m_504 hP hD hS [1, 2] [0] rfl rfl (by decide) (by decide) (by decide) 1 rfl rfl rfl rfl hl.1 (Nat.le_of_ble_eq_true rfl) d_PG_put_63 ⟨Nat.le_of_ble_eq_true rfl, Nat.le_of_ble_eq_true rfl⟩ ⟨by decide, by decide⟩ (fun g10 H locs hg10 hP hD hS => ?_)
        have hP : va_P d.1 clz [(g, ob 0 [.ref nk, .ref sd, .ref rc, .ref wk, .int kwt, .ref ph, .ref wh, .ref ch, .ref oh, .ref qh, .ref cc, .ref sl, .int kl, .int ft]), (ph, ob 2 [.ref pa, .int (nI ps), .int (nI (pn + j + 1))]), (pa, aB d 500 g10)] H := hP
        have hD : va_D A [(g, ob 0 [.ref nk, .ref sd, .ref rc, .ref wk, .int kwt, .ref ph, .ref wh, .ref ch, .ref oh, .ref qh, .ref cc, .ref sl, .int kl, .int ft]), (ph, ob 2 [.ref pa, .int (nI ps), .int (nI (pn + j + 1))]), (pa, aB d 500 g10)] := hD
        refine W.eq (g2 := F0 m 66 ls []) rfl ?_
        have hg10 : BQ 500 g10 ps (pn + j + 1) (pL ++ pby v n j ++ [(ush v (8 * (n - 1 - j))) &&& nI 255]) := hg10
        have hg10 : BQ 500 g10 ps (pn + (j + 1)) (pL ++ pby v n (j + 1)) := by rw [pby_succ, ← List.append_assoc]; exact hg10
        refine lv_iinc (v := (x9 + Int32.ofInt (-1))) (lv' := [(3, .int (x9 + Int32.ofInt (-1))), (0, .ref g), (1, .int v)]) C.x C.b d_PG_put_66 hl (k := 2) rfl (rfl) (by decide) rfl (fun ls hl => ?_)
        refine lv_goto (tgt := 49) C.x C.b d_PG_put_69 (by decide) ?_
        exact ih49 (j + 1) (x9 + Int32.ofInt (-1)) g10 (by omega) (by omega) (⟨fun q => by rw [hx9.1 (by omega)]; exact (k_dec (n := n - 1 - j) (k := 1) (by omega)).trans (by rw [Nat.sub_sub (n - 1) j 1]), fun q => by rw [hx9.1 (by omega), show n - 1 - j = 0 from by omega]; decide⟩) (hg10) _ _ _ (hP.sub [0, 1, 2] (rfl)) (hD.sub [0, 1, 2] (by decide) (rfl)) hS (lv_sub hl [1, 2, 0] (rfl))
  exact L49 ((n - 0) + 1) 0 (nI (n - 1)) pf (Nat.lt_succ_self _) (by omega) (⟨fun _ => rfl, fun q => absurd q (by omega)⟩) (by rw [show pby v n 0 = [] from rfl, List.append_nil]; exact hBp) _ _ _ (hP.sub [0, 1, 2] (rfl)) (hD.sub [0, 1, 2] (by decide) (rfl)) hS (lv_sub hl [1, 2, 0] (rfl))
theorem mw_PG_paddingFor : Msw y_PG_paddingFor b_PG_paddingFor 2 (some .int) 1 := ⟨m_514, m_1, m_513, by decide +kernel⟩
set_option maxHeartbeats 4000000 in
set_option maxRecDepth 100000 in
theorem c_PG_paddingFor (l : Launch) (d : DD) (n : Nat) (hn : n < 10000) : Ct l y_PG_paddingFor b_PG_paddingFor 2 (some .int) 1 22 0 0 d [] [.int (nI n)] (fun (_ : Unit) => some (.int (nI (padn n)))) (fun (_ : Unit) => True) (fun (_ : Unit) => []) := by
  refine Ct.of (by decide +kernel) (Nat.le_of_ble_eq_true rfl) ?_
  intro p e s m below meth c A ls C hP hD hS hl
  have hl : lv_has ls 2 [(0, .int (nI n))] := hl
  have hsz9 := hS.1
  refine lv_iconst (v := nI 5) C.x C.b d_PG_paddingFor_0 (by decide) ?_
  refine lv_iload_n C.x C.b d_PG_paddingFor_1 rfl (lv_at hl 0 rfl) ?_
  refine lv_iadd C.x C.b d_PG_paddingFor_2 ?_
  refine k_top (y := nI (5 + n)) (nI_add _ _) ?_
  refine lv_iconst (v := nI 4) C.x C.b d_PG_paddingFor_3 (by decide) ?_
  refine lv_iadd C.x C.b d_PG_paddingFor_4 ?_
  refine k_top (y := nI (5 + n + 4)) (nI_add _ _) ?_
  refine lv_istore_n (lv' := [(1, .int (nI (5 + n + 4))), (0, .int (nI n))]) C.x C.b d_PG_paddingFor_5 rfl hl (by decide) rfl (fun ls hl => ?_)
  refine lv_iconst (v := nI 4) C.x C.b d_PG_paddingFor_6 (by decide) ?_
  refine lv_iload_n C.x C.b d_PG_paddingFor_7 rfl (lv_at hl 0 rfl) ?_
  refine lv_ineg C.x C.b d_PG_paddingFor_8 ?_
  refine lv_bipush (v := nI 16) C.x C.b d_PG_paddingFor_9 (by decide) ?_
  refine k_callS (As := [.int (-(nI (5 + n + 4))), .int (nI 16)]) (rest := [.int (nI 4)]) (wc := []) (wr := []) C (c_JM_floorMod l d (-(nI (5 + n + 4))) 16 (pz n) (by omega) (by omega) (pz_fm hn)) mw_JM_floorMod m_515 hP hD hS [] [] rfl rfl (by decide) (by decide) (by decide) rfl hl.1 (Nat.le_of_ble_eq_true rfl) d_PG_paddingFor_11 ⟨Nat.le_of_ble_eq_true rfl, Nat.le_of_ble_eq_true rfl⟩ ⟨by decide, by decide⟩ (fun _ H locs hw_1 hP hD hS => ?_)
  have hP : va_P d.1 clz [] H := hP
  have hD : va_D A [] := hD
  refine W.eq (g2 := F0 m 14 ls [.int (nI (pz n)), .int (nI 4)]) rfl ?_
  refine lv_iadd C.x C.b d_PG_paddingFor_14 ?_
  refine k_top (y := nI (4 + (pz n))) (nI_add _ _) ?_
  have hP9 := hP.sub (ws' := []) [] rfl
  have hD9 := hD.sub (ws' := []) [] (by decide) rfl
  exact k_iret C hS () (rfl) (trivial) hP9 hD9 d_PG_paddingFor_15
theorem mw_PG_onTheWay : Mw y_PG_onTheWay b_PG_onTheWay 1 (some .int) 0 := ⟨m_160, m_1, m_158, by decide +kernel⟩
set_option maxHeartbeats 4000000 in
set_option maxRecDepth 100000 in
theorem c_PG_onTheWay (l : Launch) (d : DD) (g : Nat) (nk : Nat) (sd : Nat) (rc : Nat) (wk : Nat) (ph : Nat) (wh : Nat) (ch : Nat) (oh : Nat) (qh : Nat) (cc : Nat) (sl : Nat) (kwt : Int32) (kl : Int32) (ft : Int32) (wa : Nat) (ws : Nat) (wn : Nat) (wf : Nat → Int32) (wL : List Int32) : Ct l y_PG_onTheWay b_PG_onTheWay 1 (some .int) 1 20 0 0 d [(g, ob 0 [.ref nk, .ref sd, .ref rc, .ref wk, .int kwt, .ref ph, .ref wh, .ref ch, .ref oh, .ref qh, .ref cc, .ref sl, .int kl, .int ft]), (wh, ob 2 [.ref wa, .int (nI ws), .int (nI wn)]), (wa, aB d 6000 wf)] [.ref g] (fun (_ : Unit) => some (.int (nI wn))) (fun (_ : Unit) => True) (fun (_ : Unit) => [(g, ob 0 [.ref nk, .ref sd, .ref rc, .ref wk, .int kwt, .ref ph, .ref wh, .ref ch, .ref oh, .ref qh, .ref cc, .ref sl, .int kl, .int ft]), (wh, ob 2 [.ref wa, .int (nI ws), .int (nI wn)]), (wa, aB d 6000 wf)]) := by
  refine Ct.of (by decide +kernel) (Nat.le_of_ble_eq_true rfl) ?_
  intro p e s m below meth c A ls C hP hD hS hl
  have hl : lv_has ls 1 [(0, .ref g)] := hl
  have hsz9 := hS.1
  refine lv_aload_n C.x C.b d_PG_onTheWay_0 rfl (lv_at hl 0 rfl) ?_
  refine k_get C hP 0 rfl rfl i_PG 6 (by decide) m_120 rfl d_PG_onTheWay_1 ?_
  refine k_callV (As := []) (rest := []) (wc := [(wh, ob 2 [.ref wa, .int (nI ws), .int (nI wn)]), (wa, aB d 6000 wf)]) (wr := [(g, ob 0 [.ref nk, .ref sd, .ref rc, .ref wk, .int kwt, .ref ph, .ref wh, .ref ch, .ref oh, .ref qh, .ref cc, .ref sl, .int kl, .int ft])]) C (c_BQ_size l d wh wa 6000 ws wn wf) mw_BQ_size m_163 m_161 hP hD hS [1, 2] [0] rfl rfl (by decide) (by decide) (by decide) 1 rfl rfl rfl rfl hl.1 (Nat.le_of_ble_eq_true rfl) d_PG_onTheWay_4 ⟨Nat.le_of_ble_eq_true rfl, Nat.le_of_ble_eq_true rfl⟩ ⟨by decide, by decide⟩ (fun _ H locs hw_1 hP hD hS => ?_)
  have hP : va_P d.1 clz [(g, ob 0 [.ref nk, .ref sd, .ref rc, .ref wk, .int kwt, .ref ph, .ref wh, .ref ch, .ref oh, .ref qh, .ref cc, .ref sl, .int kl, .int ft]), (wh, ob 2 [.ref wa, .int (nI ws), .int (nI wn)]), (wa, aB d 6000 wf)] H := hP
  have hD : va_D A [(g, ob 0 [.ref nk, .ref sd, .ref rc, .ref wk, .int kwt, .ref ph, .ref wh, .ref ch, .ref oh, .ref qh, .ref cc, .ref sl, .int kl, .int ft]), (wh, ob 2 [.ref wa, .int (nI ws), .int (nI wn)]), (wa, aB d 6000 wf)] := hD
  refine W.eq (g2 := F0 m 7 ls [.int (nI wn)]) rfl ?_
  have hP9 := hP.sub (ws' := [(g, ob 0 [.ref nk, .ref sd, .ref rc, .ref wk, .int kwt, .ref ph, .ref wh, .ref ch, .ref oh, .ref qh, .ref cc, .ref sl, .int kl, .int ft]), (wh, ob 2 [.ref wa, .int (nI ws), .int (nI wn)]), (wa, aB d 6000 wf)]) [0, 1, 2] rfl
  have hD9 := hD.sub (ws' := [(g, ob 0 [.ref nk, .ref sd, .ref rc, .ref wk, .int kwt, .ref ph, .ref wh, .ref ch, .ref oh, .ref qh, .ref cc, .ref sl, .int kl, .int ft]), (wh, ob 2 [.ref wa, .int (nI ws), .int (nI wn)]), (wa, aB d 6000 wf)]) [0, 1, 2] (by decide) rfl
  exact k_iret C hS () (rfl) (trivial) hP9 hD9 d_PG_onTheWay_7
theorem mw_PG_octet : Mw y_PG_octet b_PG_octet 2 (some .int) 1 := ⟨m_535, m_1, m_533, by decide +kernel⟩
set_option maxHeartbeats 4000000 in
set_option maxRecDepth 100000 in
theorem c_PG_octet (l : Launch) (d : DD) (g : Nat) (nk : Nat) (sd : Nat) (rc : Nat) (wk : Nat) (ph : Nat) (wh : Nat) (ch : Nat) (oh : Nat) (qh : Nat) (cc : Nat) (sl : Nat) (kwt : Int32) (kl : Int32) (ft : Int32) (wa : Nat) (ws : Nat) (wn : Nat) (wf : Nat → Int32) (wL : List Int32) (i : Nat) (hBw : BQ 6000 wf ws wn wL) (hi : i < wn) : Ct l y_PG_octet b_PG_octet 2 (some .int) 2 43 0 0 d [(g, ob 0 [.ref nk, .ref sd, .ref rc, .ref wk, .int kwt, .ref ph, .ref wh, .ref ch, .ref oh, .ref qh, .ref cc, .ref sl, .int kl, .int ft]), (wh, ob 2 [.ref wa, .int (nI ws), .int (nI wn)]), (wa, aB d 6000 wf)] [.ref g, .int (nI i)] (fun (_ : Unit) => some (.int (wL.getD i 0))) (fun (_ : Unit) => True) (fun (_ : Unit) => [(g, ob 0 [.ref nk, .ref sd, .ref rc, .ref wk, .int kwt, .ref ph, .ref wh, .ref ch, .ref oh, .ref qh, .ref cc, .ref sl, .int kl, .int ft]), (wh, ob 2 [.ref wa, .int (nI ws), .int (nI wn)]), (wa, aB d 6000 wf)]) := by
  refine Ct.of (by decide +kernel) (Nat.le_of_ble_eq_true rfl) ?_
  intro p e s m below meth c A ls C hP hD hS hl
  have hl : lv_has ls 2 [(0, .ref g), (1, .int (nI i))] := hl
  have hsz9 := hS.1
  refine lv_aload_n C.x C.b d_PG_octet_0 rfl (lv_at hl 0 rfl) ?_
  refine k_get C hP 0 rfl rfl i_PG 6 (by decide) m_120 rfl d_PG_octet_1 ?_
  refine lv_iload_n C.x C.b d_PG_octet_4 rfl (lv_at hl 1 rfl) ?_
  refine k_callV (As := [.int (nI i)]) (rest := []) (wc := [(wh, ob 2 [.ref wa, .int (nI ws), .int (nI wn)]), (wa, aB d 6000 wf)]) (wr := [(g, ob 0 [.ref nk, .ref sd, .ref rc, .ref wk, .int kwt, .ref ph, .ref wh, .ref ch, .ref oh, .ref qh, .ref cc, .ref sl, .int kl, .int ft])]) C (c_BQ_at l d wh wa 6000 ws wn wf wL i (hBw) (hi)) mw_BQ_at m_288 m_286 hP hD hS [1, 2] [0] rfl rfl (by decide) (by decide) (by decide) 1 rfl rfl rfl rfl hl.1 (Nat.le_of_ble_eq_true rfl) d_PG_octet_5 ⟨Nat.le_of_ble_eq_true rfl, Nat.le_of_ble_eq_true rfl⟩ ⟨by decide, by decide⟩ (fun _ H locs hw_1 hP hD hS => ?_)
  have hP : va_P d.1 clz [(g, ob 0 [.ref nk, .ref sd, .ref rc, .ref wk, .int kwt, .ref ph, .ref wh, .ref ch, .ref oh, .ref qh, .ref cc, .ref sl, .int kl, .int ft]), (wh, ob 2 [.ref wa, .int (nI ws), .int (nI wn)]), (wa, aB d 6000 wf)] H := hP
  have hD : va_D A [(g, ob 0 [.ref nk, .ref sd, .ref rc, .ref wk, .int kwt, .ref ph, .ref wh, .ref ch, .ref oh, .ref qh, .ref cc, .ref sl, .int kl, .int ft]), (wh, ob 2 [.ref wa, .int (nI ws), .int (nI wn)]), (wa, aB d 6000 wf)] := hD
  refine W.eq (g2 := F0 m 8 ls [.int (wL.getD i 0)]) rfl ?_
  have hP9 := hP.sub (ws' := [(g, ob 0 [.ref nk, .ref sd, .ref rc, .ref wk, .int kwt, .ref ph, .ref wh, .ref ch, .ref oh, .ref qh, .ref cc, .ref sl, .int kl, .int ft]), (wh, ob 2 [.ref wa, .int (nI ws), .int (nI wn)]), (wa, aB d 6000 wf)]) [0, 1, 2] rfl
  have hD9 := hD.sub (ws' := [(g, ob 0 [.ref nk, .ref sd, .ref rc, .ref wk, .int kwt, .ref ph, .ref wh, .ref ch, .ref oh, .ref qh, .ref cc, .ref sl, .int kl, .int ft]), (wh, ob 2 [.ref wa, .int (nI ws), .int (nI wn)]), (wa, aB d 6000 wf)]) [0, 1, 2] (by decide) rfl
  exact k_iret C hS () (rfl) (trivial) hP9 hD9 d_PG_octet_8
theorem mw_PG_got : Mw y_PG_got b_PG_got 2 (some .int) 1 := ⟨m_560, m_1, m_558, by decide +kernel⟩
set_option maxHeartbeats 4000000 in
set_option maxRecDepth 100000 in
theorem c_PG_got (l : Launch) (d : DD) (g : Nat) (nk : Nat) (sd : Nat) (rc : Nat) (wk : Nat) (ph : Nat) (wh : Nat) (ch : Nat) (oh : Nat) (qh : Nat) (cc : Nat) (sl : Nat) (kwt : Int32) (kl : Int32) (ft : Int32) (oa : Nat) (os : Nat) (on : Nat) (of : Nat → Int32) (oL : List Int32) (i : Nat) (hBo : BQ 540 of os on oL) (hi : i < on) : Ct l y_PG_got b_PG_got 2 (some .int) 2 43 0 0 d [(g, ob 0 [.ref nk, .ref sd, .ref rc, .ref wk, .int kwt, .ref ph, .ref wh, .ref ch, .ref oh, .ref qh, .ref cc, .ref sl, .int kl, .int ft]), (oh, ob 2 [.ref oa, .int (nI os), .int (nI on)]), (oa, aB d 540 of)] [.ref g, .int (nI i)] (fun (_ : Unit) => some (.int (oL.getD i 0))) (fun (_ : Unit) => True) (fun (_ : Unit) => [(g, ob 0 [.ref nk, .ref sd, .ref rc, .ref wk, .int kwt, .ref ph, .ref wh, .ref ch, .ref oh, .ref qh, .ref cc, .ref sl, .int kl, .int ft]), (oh, ob 2 [.ref oa, .int (nI os), .int (nI on)]), (oa, aB d 540 of)]) := by
  refine Ct.of (by decide +kernel) (Nat.le_of_ble_eq_true rfl) ?_
  intro p e s m below meth c A ls C hP hD hS hl
  have hl : lv_has ls 2 [(0, .ref g), (1, .int (nI i))] := hl
  have hsz9 := hS.1
  refine lv_aload_n C.x C.b d_PG_got_0 rfl (lv_at hl 0 rfl) ?_
  refine k_get C hP 0 rfl rfl i_PG 8 (by decide) m_122 rfl d_PG_got_1 ?_
  refine lv_iload_n C.x C.b d_PG_got_4 rfl (lv_at hl 1 rfl) ?_
  refine k_callV (As := [.int (nI i)]) (rest := []) (wc := [(oh, ob 2 [.ref oa, .int (nI os), .int (nI on)]), (oa, aB d 540 of)]) (wr := [(g, ob 0 [.ref nk, .ref sd, .ref rc, .ref wk, .int kwt, .ref ph, .ref wh, .ref ch, .ref oh, .ref qh, .ref cc, .ref sl, .int kl, .int ft])]) C (c_BQ_at l d oh oa 540 os on of oL i (hBo) (hi)) mw_BQ_at m_288 m_286 hP hD hS [1, 2] [0] rfl rfl (by decide) (by decide) (by decide) 1 rfl rfl rfl rfl hl.1 (Nat.le_of_ble_eq_true rfl) d_PG_got_5 ⟨Nat.le_of_ble_eq_true rfl, Nat.le_of_ble_eq_true rfl⟩ ⟨by decide, by decide⟩ (fun _ H locs hw_1 hP hD hS => ?_)
  have hP : va_P d.1 clz [(g, ob 0 [.ref nk, .ref sd, .ref rc, .ref wk, .int kwt, .ref ph, .ref wh, .ref ch, .ref oh, .ref qh, .ref cc, .ref sl, .int kl, .int ft]), (oh, ob 2 [.ref oa, .int (nI os), .int (nI on)]), (oa, aB d 540 of)] H := hP
  have hD : va_D A [(g, ob 0 [.ref nk, .ref sd, .ref rc, .ref wk, .int kwt, .ref ph, .ref wh, .ref ch, .ref oh, .ref qh, .ref cc, .ref sl, .int kl, .int ft]), (oh, ob 2 [.ref oa, .int (nI os), .int (nI on)]), (oa, aB d 540 of)] := hD
  refine W.eq (g2 := F0 m 8 ls [.int (oL.getD i 0)]) rfl ?_
  have hP9 := hP.sub (ws' := [(g, ob 0 [.ref nk, .ref sd, .ref rc, .ref wk, .int kwt, .ref ph, .ref wh, .ref ch, .ref oh, .ref qh, .ref cc, .ref sl, .int kl, .int ft]), (oh, ob 2 [.ref oa, .int (nI os), .int (nI on)]), (oa, aB d 540 of)]) [0, 1, 2] rfl
  have hD9 := hD.sub (ws' := [(g, ob 0 [.ref nk, .ref sd, .ref rc, .ref wk, .int kwt, .ref ph, .ref wh, .ref ch, .ref oh, .ref qh, .ref cc, .ref sl, .int kl, .int ft]), (oh, ob 2 [.ref oa, .int (nI os), .int (nI on)]), (oa, aB d 540 of)]) [0, 1, 2] (by decide) rfl
  exact k_iret C hS () (rfl) (trivial) hP9 hD9 d_PG_got_8
theorem mw_PG_alter : Mw y_PG_alter b_PG_alter 3 none 2 := ⟨m_542, m_1, m_540, by decide +kernel⟩
set_option maxHeartbeats 4000000 in
set_option maxRecDepth 100000 in
theorem c_PG_alter (l : Launch) (d : DD) (g : Nat) (nk : Nat) (sd : Nat) (rc : Nat) (wk : Nat) (ph : Nat) (wh : Nat) (ch : Nat) (oh : Nat) (qh : Nat) (cc : Nat) (sl : Nat) (kwt : Int32) (kl : Int32) (ft : Int32) (wa : Nat) (ws : Nat) (wn : Nat) (wf : Nat → Int32) (wL : List Int32) (i : Nat) (mk : Int32) (hBw : BQ 6000 wf ws wn wL) (hi : i < wn) : Ct l y_PG_alter b_PG_alter 3 none 2 44 0 0 d [(g, ob 0 [.ref nk, .ref sd, .ref rc, .ref wk, .int kwt, .ref ph, .ref wh, .ref ch, .ref oh, .ref qh, .ref cc, .ref sl, .int kl, .int ft]), (wh, ob 2 [.ref wa, .int (nI ws), .int (nI wn)]), (wa, aB d 6000 wf)] [.ref g, .int (nI i), .int mk] (fun (f2 : Nat → Int32) => none) (fun (f2 : Nat → Int32) => BQ 6000 f2 ws wn (wL.set i ((wL.getD i 0 ^^^ mk) &&& nI 255))) (fun (f2 : Nat → Int32) => [(g, ob 0 [.ref nk, .ref sd, .ref rc, .ref wk, .int kwt, .ref ph, .ref wh, .ref ch, .ref oh, .ref qh, .ref cc, .ref sl, .int kl, .int ft]), (wh, ob 2 [.ref wa, .int (nI ws), .int (nI wn)]), (wa, aB d 6000 f2)]) := by
  refine Ct.of (by decide +kernel) (Nat.le_of_ble_eq_true rfl) ?_
  intro p e s m below meth c A ls C hP hD hS hl
  have hl : lv_has ls 3 [(0, .ref g), (1, .int (nI i)), (2, .int mk)] := hl
  have hsz9 := hS.1
  refine lv_aload_n C.x C.b d_PG_alter_0 rfl (lv_at hl 0 rfl) ?_
  refine k_get C hP 0 rfl rfl i_PG 6 (by decide) m_120 rfl d_PG_alter_1 ?_
  refine lv_iload_n C.x C.b d_PG_alter_4 rfl (lv_at hl 1 rfl) ?_
  refine lv_iload_n C.x C.b d_PG_alter_5 rfl (lv_at hl 2 rfl) ?_
  refine k_callV (As := [.int (nI i), .int mk]) (rest := []) (wc := [(wh, ob 2 [.ref wa, .int (nI ws), .int (nI wn)]), (wa, aB d 6000 wf)]) (wr := [(g, ob 0 [.ref nk, .ref sd, .ref rc, .ref wk, .int kwt, .ref ph, .ref wh, .ref ch, .ref oh, .ref qh, .ref cc, .ref sl, .int kl, .int ft])]) C (c_BQ_flip l d wh wa 6000 ws wn wf wL i mk (hBw) (hi)) mw_BQ_flip m_333 m_543 hP hD hS [1, 2] [0] rfl rfl (by decide) (by decide) (by decide) 1 rfl rfl rfl rfl hl.1 (Nat.le_of_ble_eq_true rfl) d_PG_alter_6 ⟨Nat.le_of_ble_eq_true rfl, Nat.le_of_ble_eq_true rfl⟩ ⟨by decide, by decide⟩ (fun f2 H locs hf2 hP hD hS => ?_)
  have hP : va_P d.1 clz [(g, ob 0 [.ref nk, .ref sd, .ref rc, .ref wk, .int kwt, .ref ph, .ref wh, .ref ch, .ref oh, .ref qh, .ref cc, .ref sl, .int kl, .int ft]), (wh, ob 2 [.ref wa, .int (nI ws), .int (nI wn)]), (wa, aB d 6000 f2)] H := hP
  have hD : va_D A [(g, ob 0 [.ref nk, .ref sd, .ref rc, .ref wk, .int kwt, .ref ph, .ref wh, .ref ch, .ref oh, .ref qh, .ref cc, .ref sl, .int kl, .int ft]), (wh, ob 2 [.ref wa, .int (nI ws), .int (nI wn)]), (wa, aB d 6000 f2)] := hD
  refine W.eq (g2 := F0 m 9 ls []) rfl ?_
  have hf2 : BQ 6000 f2 ws wn (wL.set i ((wL.getD i 0 ^^^ mk) &&& nI 255)) := hf2
  have hP9 := hP.sub (ws' := [(g, ob 0 [.ref nk, .ref sd, .ref rc, .ref wk, .int kwt, .ref ph, .ref wh, .ref ch, .ref oh, .ref qh, .ref cc, .ref sl, .int kl, .int ft]), (wh, ob 2 [.ref wa, .int (nI ws), .int (nI wn)]), (wa, aB d 6000 f2)]) [0, 1, 2] rfl
  have hD9 := hD.sub (ws' := [(g, ob 0 [.ref nk, .ref sd, .ref rc, .ref wk, .int kwt, .ref ph, .ref wh, .ref ch, .ref oh, .ref qh, .ref cc, .ref sl, .int kl, .int ft]), (wh, ob 2 [.ref wa, .int (nI ws), .int (nI wn)]), (wa, aB d 6000 f2)]) [0, 1, 2] (by decide) rfl
  exact k_vret C hS f2 (rfl) (hf2) hP9 hD9 d_PG_alter_9
theorem mw_PG_number : Mw y_PG_number b_PG_number 2 (some .int) 1 := ⟨m_567, m_1, m_565, by decide +kernel⟩
set_option maxHeartbeats 4000000 in
set_option maxRecDepth 100000 in
theorem c_PG_number0 (l : Launch) (d : DD) (g : Nat) (nk : Nat) (sd : Nat) (rc : Nat) (wk : Nat) (ph : Nat) (wh : Nat) (ch : Nat) (oh : Nat) (qh : Nat) (cc : Nat) (sl : Nat) (kwt : Int32) (kl : Int32) (ft : Int32) (sk : Nat) (ska : Nat) (fsk : Nat → Int32) (sn : Int32) : Ct l y_PG_number b_PG_number 2 (some .int) 1 21 0 0 d [(g, ob 0 [.ref nk, .ref sd, .ref rc, .ref wk, .int kwt, .ref ph, .ref wh, .ref ch, .ref oh, .ref qh, .ref cc, .ref sl, .int kl, .int ft]), (sd, ob 7 [.ref sk, .int sn])] [.ref g, .int (nI 0)] (fun (_ : Unit) => some (.int sn)) (fun (_ : Unit) => True) (fun (_ : Unit) => [(g, ob 0 [.ref nk, .ref sd, .ref rc, .ref wk, .int kwt, .ref ph, .ref wh, .ref ch, .ref oh, .ref qh, .ref cc, .ref sl, .int kl, .int ft]), (sd, ob 7 [.ref sk, .int sn])]) := by
  refine Ct.of (by decide +kernel) (Nat.le_of_ble_eq_true rfl) ?_
  intro p e s m below meth c A ls C hP hD hS hl
  have hl : lv_has ls 2 [(0, .ref g), (1, .int (nI 0))] := hl
  have hsz9 := hS.1
  refine lv_aload_n C.x C.b d_PG_number_0 rfl (lv_at hl 0 rfl) ?_
  refine lv_iload_n C.x C.b d_PG_number_1 rfl (lv_at hl 1 rfl) ?_
  refine k_callV (As := [.int (nI 0)]) (rest := []) (wc := [(g, ob 0 [.ref nk, .ref sd, .ref rc, .ref wk, .int kwt, .ref ph, .ref wh, .ref ch, .ref oh, .ref qh, .ref cc, .ref sl, .int kl, .int ft])]) (wr := [(sd, ob 7 [.ref sk, .int sn])]) C (c_PG_sideOf0 l d g nk sd rc wk ph wh ch oh qh cc sl kwt kl ft) mw_PG_sideOf ms_16 m_456 hP hD hS [0] [1] rfl rfl (by decide) (by decide) (by decide) 0 rfl rfl rfl rfl hl.1 (Nat.le_of_ble_eq_true rfl) d_PG_number_2 ⟨Nat.le_of_ble_eq_true rfl, Nat.le_of_ble_eq_true rfl⟩ ⟨by decide, by decide⟩ (fun _ H locs hw_1 hP hD hS => ?_)
  have hP : va_P d.1 clz [(sd, ob 7 [.ref sk, .int sn]), (g, ob 0 [.ref nk, .ref sd, .ref rc, .ref wk, .int kwt, .ref ph, .ref wh, .ref ch, .ref oh, .ref qh, .ref cc, .ref sl, .int kl, .int ft])] H := hP
  have hD : va_D A [(sd, ob 7 [.ref sk, .int sn]), (g, ob 0 [.ref nk, .ref sd, .ref rc, .ref wk, .int kwt, .ref ph, .ref wh, .ref ch, .ref oh, .ref qh, .ref cc, .ref sl, .int kl, .int ft])] := hD
  refine W.eq (g2 := F0 m 5 ls [.ref sd]) rfl ?_
  refine k_callV (As := []) (rest := []) (wc := [(sd, ob 7 [.ref sk, .int sn])]) (wr := [(g, ob 0 [.ref nk, .ref sd, .ref rc, .ref wk, .int kwt, .ref ph, .ref wh, .ref ch, .ref oh, .ref qh, .ref cc, .ref sl, .int kl, .int ft])]) C (c_SD_nextNumber l d sd sk sn) mw_SD_nextNumber m_341 m_339 hP hD hS [0] [1] rfl rfl (by decide) (by decide) (by decide) 0 rfl rfl rfl rfl hl.1 (Nat.le_of_ble_eq_true rfl) d_PG_number_5 ⟨Nat.le_of_ble_eq_true rfl, Nat.le_of_ble_eq_true rfl⟩ ⟨by decide, by decide⟩ (fun _ H locs hw_2 hP hD hS => ?_)
  have hP : va_P d.1 clz [(g, ob 0 [.ref nk, .ref sd, .ref rc, .ref wk, .int kwt, .ref ph, .ref wh, .ref ch, .ref oh, .ref qh, .ref cc, .ref sl, .int kl, .int ft]), (sd, ob 7 [.ref sk, .int sn])] H := hP
  have hD : va_D A [(g, ob 0 [.ref nk, .ref sd, .ref rc, .ref wk, .int kwt, .ref ph, .ref wh, .ref ch, .ref oh, .ref qh, .ref cc, .ref sl, .int kl, .int ft]), (sd, ob 7 [.ref sk, .int sn])] := hD
  refine W.eq (g2 := F0 m 8 ls [.int sn]) rfl ?_
  have hP9 := hP.sub (ws' := [(g, ob 0 [.ref nk, .ref sd, .ref rc, .ref wk, .int kwt, .ref ph, .ref wh, .ref ch, .ref oh, .ref qh, .ref cc, .ref sl, .int kl, .int ft]), (sd, ob 7 [.ref sk, .int sn])]) [0, 1] rfl
  have hD9 := hD.sub (ws' := [(g, ob 0 [.ref nk, .ref sd, .ref rc, .ref wk, .int kwt, .ref ph, .ref wh, .ref ch, .ref oh, .ref qh, .ref cc, .ref sl, .int kl, .int ft]), (sd, ob 7 [.ref sk, .int sn])]) [0, 1] (by decide) rfl
  exact k_iret C hS () (rfl) (trivial) hP9 hD9 d_PG_number_8
set_option maxHeartbeats 4000000 in
set_option maxRecDepth 100000 in
theorem c_PG_number1 (l : Launch) (d : DD) (g : Nat) (nk : Nat) (sd : Nat) (rc : Nat) (wk : Nat) (ph : Nat) (wh : Nat) (ch : Nat) (oh : Nat) (qh : Nat) (cc : Nat) (sl : Nat) (kwt : Int32) (kl : Int32) (ft : Int32) (rk : Nat) (rka : Nat) (frk : Nat → Int32) (rn : Int32) : Ct l y_PG_number b_PG_number 2 (some .int) 1 21 0 0 d [(g, ob 0 [.ref nk, .ref sd, .ref rc, .ref wk, .int kwt, .ref ph, .ref wh, .ref ch, .ref oh, .ref qh, .ref cc, .ref sl, .int kl, .int ft]), (rc, ob 7 [.ref rk, .int rn])] [.ref g, .int (nI 1)] (fun (_ : Unit) => some (.int rn)) (fun (_ : Unit) => True) (fun (_ : Unit) => [(g, ob 0 [.ref nk, .ref sd, .ref rc, .ref wk, .int kwt, .ref ph, .ref wh, .ref ch, .ref oh, .ref qh, .ref cc, .ref sl, .int kl, .int ft]), (rc, ob 7 [.ref rk, .int rn])]) := by
  refine Ct.of (by decide +kernel) (Nat.le_of_ble_eq_true rfl) ?_
  intro p e s m below meth c A ls C hP hD hS hl
  have hl : lv_has ls 2 [(0, .ref g), (1, .int (nI 1))] := hl
  have hsz9 := hS.1
  refine lv_aload_n C.x C.b d_PG_number_0 rfl (lv_at hl 0 rfl) ?_
  refine lv_iload_n C.x C.b d_PG_number_1 rfl (lv_at hl 1 rfl) ?_
  refine k_callV (As := [.int (nI 1)]) (rest := []) (wc := [(g, ob 0 [.ref nk, .ref sd, .ref rc, .ref wk, .int kwt, .ref ph, .ref wh, .ref ch, .ref oh, .ref qh, .ref cc, .ref sl, .int kl, .int ft])]) (wr := [(rc, ob 7 [.ref rk, .int rn])]) C (c_PG_sideOf1 l d g nk sd rc wk ph wh ch oh qh cc sl kwt kl ft) mw_PG_sideOf ms_16 m_456 hP hD hS [0] [1] rfl rfl (by decide) (by decide) (by decide) 0 rfl rfl rfl rfl hl.1 (Nat.le_of_ble_eq_true rfl) d_PG_number_2 ⟨Nat.le_of_ble_eq_true rfl, Nat.le_of_ble_eq_true rfl⟩ ⟨by decide, by decide⟩ (fun _ H locs hw_1 hP hD hS => ?_)
  have hP : va_P d.1 clz [(rc, ob 7 [.ref rk, .int rn]), (g, ob 0 [.ref nk, .ref sd, .ref rc, .ref wk, .int kwt, .ref ph, .ref wh, .ref ch, .ref oh, .ref qh, .ref cc, .ref sl, .int kl, .int ft])] H := hP
  have hD : va_D A [(rc, ob 7 [.ref rk, .int rn]), (g, ob 0 [.ref nk, .ref sd, .ref rc, .ref wk, .int kwt, .ref ph, .ref wh, .ref ch, .ref oh, .ref qh, .ref cc, .ref sl, .int kl, .int ft])] := hD
  refine W.eq (g2 := F0 m 5 ls [.ref rc]) rfl ?_
  refine k_callV (As := []) (rest := []) (wc := [(rc, ob 7 [.ref rk, .int rn])]) (wr := [(g, ob 0 [.ref nk, .ref sd, .ref rc, .ref wk, .int kwt, .ref ph, .ref wh, .ref ch, .ref oh, .ref qh, .ref cc, .ref sl, .int kl, .int ft])]) C (c_SD_nextNumber l d rc rk rn) mw_SD_nextNumber m_341 m_339 hP hD hS [0] [1] rfl rfl (by decide) (by decide) (by decide) 0 rfl rfl rfl rfl hl.1 (Nat.le_of_ble_eq_true rfl) d_PG_number_5 ⟨Nat.le_of_ble_eq_true rfl, Nat.le_of_ble_eq_true rfl⟩ ⟨by decide, by decide⟩ (fun _ H locs hw_2 hP hD hS => ?_)
  have hP : va_P d.1 clz [(g, ob 0 [.ref nk, .ref sd, .ref rc, .ref wk, .int kwt, .ref ph, .ref wh, .ref ch, .ref oh, .ref qh, .ref cc, .ref sl, .int kl, .int ft]), (rc, ob 7 [.ref rk, .int rn])] H := hP
  have hD : va_D A [(g, ob 0 [.ref nk, .ref sd, .ref rc, .ref wk, .int kwt, .ref ph, .ref wh, .ref ch, .ref oh, .ref qh, .ref cc, .ref sl, .int kl, .int ft]), (rc, ob 7 [.ref rk, .int rn])] := hD
  refine W.eq (g2 := F0 m 8 ls [.int rn]) rfl ?_
  have hP9 := hP.sub (ws' := [(g, ob 0 [.ref nk, .ref sd, .ref rc, .ref wk, .int kwt, .ref ph, .ref wh, .ref ch, .ref oh, .ref qh, .ref cc, .ref sl, .int kl, .int ft]), (rc, ob 7 [.ref rk, .int rn])]) [0, 1] rfl
  have hD9 := hD.sub (ws' := [(g, ob 0 [.ref nk, .ref sd, .ref rc, .ref wk, .int kwt, .ref ph, .ref wh, .ref ch, .ref oh, .ref qh, .ref cc, .ref sl, .int kl, .int ft]), (rc, ob 7 [.ref rk, .int rn])]) [0, 1] (by decide) rfl
  exact k_iret C hS () (rfl) (trivial) hP9 hD9 d_PG_number_8
