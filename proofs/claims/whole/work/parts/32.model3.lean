theorem mix_step {g q : Nat → Int32} {k w u v : Int32} (hg : ∀ j, j < 8 → g j = q j) (hu : u = (((g 7 + tuE (g 4)) + ((g 4 &&& g 5) ^^^ ((g 4 ^^^ (-1)) &&& g 6))) + k) + w) (hv : v = tuA (g 0) + (((g 0 &&& g 1) ^^^ (g 0 &&& g 2)) ^^^ (g 1 &&& g 2))) : ∀ j, j < 8 → (upd (upd (upd (upd (upd (upd (upd (upd (upd g 7 (g 6)) 6 (g 5)) 5 (g 4)) 4 (g 3)) 3 (g 2)) 2 (g 1)) 1 (g 0)) 4 (g 3 + u)) 0 (u + v)) j = hrd q k w j := by
  intro j hj
  rw [← hrd_cg hg k w j hj, hu, hv]
  rcases (show j = 0 ∨ j = 1 ∨ j = 2 ∨ j = 3 ∨ j = 4 ∨ j = 5 ∨ j = 6 ∨ j = 7 by omega) with rfl | rfl | rfl | rfl | rfl | rfl | rfl | rfl <;> rfl
theorem mix_end {fS fW g g2 gN : Nat → Int32} {t i : Nat} (ht : t = 64) (hi : i < 8) (h2 : ∀ j, j < 8 → g2 j = rst fS g t j) (hN : ∀ j, j < 8 → gN j = fS j) (hw : ∀ j, j < 64 → g j = wsc fW j) : g2 i + gN i = hmix fS (wsc fW) i := by
  unfold hmix
  rw [h2 i hi, hN i hi, ht, rst_cg (fun _ _ => rfl) hw 64 (by omega) i hi, Int32.add_comm]
/-- the first bytes of an array of bytes -/
def BA (f : Nat → Int32) (L : List Int32) : Prop := (∀ i, i < L.length → f i = (L.getD i 0).toInt8.toInt32) ∧ ∀ x ∈ L, x &&& nI 255 = x
theorem ba_and {f : Nat → Int32} {L : List Int32} (h : BA f L) {i : Nat} (hi : i < L.length) : f i &&& nI 255 = L.getD i 0 := by
  rw [h.1 i hi, sx_and, h.2 _ (bq_mem hi)]
theorem ga_l {A B : List Int32} {i : Nat} (h : i < A.length) : (A ++ B).getD i 0 = A.getD i 0 := by
  rw [gd9 (by rw [List.length_append]; omega), gd9 h, List.getElem_append_left h]
theorem ga_r {A B : List Int32} {i : Nat} (h : i < B.length) : (A ++ B).getD (A.length + i) 0 = B.getD i 0 := by
  rw [gd9 (by rw [List.length_append]; omega), gd9 h, List.getElem_append_right (by omega)]
  congr 1; omega
theorem ba_app {f : Nat → Int32} {A B : List Int32} (h1 : ∀ i, i < A.length → f i = (A.getD i 0).toInt8.toInt32) (h2 : ∀ i, i < B.length → f (A.length + i) = (B.getD i 0).toInt8.toInt32) : ∀ i, i < (A ++ B).length → f i = ((A ++ B).getD i 0).toInt8.toInt32 := by
  intro i hi
  rw [List.length_append] at hi
  rcases Nat.lt_or_ge i A.length with q | q
  · rw [ga_l q]; exact h1 i q
  · obtain ⟨j, rfl⟩ : ∃ j, i = A.length + j := ⟨i - A.length, by omega⟩
    rw [ga_r (by omega)]; exact h2 j (by omega)
theorem wb_get {w : Int32} {j : Nat} (h : j < 4) : (wb w).getD j 0 = byt w j := by
  rcases (show j = 0 ∨ j = 1 ∨ j = 2 ∨ j = 3 by omega) with rfl | rfl | rfl | rfl <;> rfl
theorem wbs_get {f : Nat → Int32} : ∀ {n i : Nat}, i < 4 * n → (wbs f n).getD i 0 = byt (f (i / 4)) (i % 4) := by
  intro n
  induction n with
  | zero => intro i hi; omega
  | succ n ih =>
    intro i hi
    rw [wbs_succ]
    rcases Nat.lt_or_ge i (4 * n) with q | q
    · rw [ga_l (by rw [wbs_len]; exact q), ih q]
    · obtain ⟨j, rfl⟩ : ∃ j, i = (wbs f n).length + j := ⟨i - 4 * n, by rw [wbs_len]; omega⟩
      rw [wbs_len] at hi
      rw [ga_r (by rw [wb_len]; omega), wb_get (by omega), wbs_len, show (4 * n + j) / 4 = n from by omega, show (4 * n + j) % 4 = j from by omega]
theorem wbs_slb (f : Nat → Int32) : wbs f 8 = slb f 32 := by
  apply ext9
  · rw [wbs_len, slb_len]
  · intro i hi
    rw [wbs_len] at hi
    rw [wbs_get hi, slb_get (by omega)]
theorem isb_wbs {f : Nat → Int32} {n : Nat} : ∀ x ∈ wbs f n, x &&& nI 255 = x := by
  intro x hx
  unfold wbs at hx
  obtain ⟨j, _, hj⟩ := List.mem_flatMap.mp hx
  unfold wb at hj
  simp only [List.mem_cons, List.not_mem_nil, or_false] at hj
  rcases hj with rfl | rfl | rfl | rfl <;> exact and255 _
theorem isb_wb {w : Int32} : ∀ x ∈ wb w, x &&& nI 255 = x := by
  intro x hj
  unfold wb at hj
  simp only [List.mem_cons, List.not_mem_nil, or_false] at hj
  rcases hj with rfl | rfl | rfl | rfl <;> exact and255 _
theorem isb_slb {f : Nat → Int32} {n : Nat} : ∀ x ∈ slb f n, x &&& nI 255 = x := by
  intro x hx
  unfold slb at hx
  obtain ⟨j, _, rfl⟩ := List.mem_map.mp hx
  exact byt_255 _ _
theorem isb_app {A B : List Int32} (h1 : ∀ x ∈ A, x &&& nI 255 = x) (h2 : ∀ x ∈ B, x &&& nI 255 = x) : ∀ x ∈ A ++ B, x &&& nI 255 = x := by
  intro x hx
  rcases List.mem_append.mp hx with q | q
  · exact h1 x q
  · exact h2 x q
theorem kmk_len (k : Nat → Int32) (mk : Int32) : (kmk k mk).length = 64 := by
  unfold kmk; rw [List.length_append, wbs_len, wbs_len]
theorem isb_kmk {k : Nat → Int32} {mk : Int32} : ∀ x ∈ kmk k mk, x &&& nI 255 = x := isb_app isb_wbs isb_wbs
theorem kmk_lo {k : Nat → Int32} {mk : Int32} {i : Nat} (h : i < 32) : (kmk k mk).getD i 0 = byt (k (8 + i / 4) ^^^ mk) (i % 4) := by
  unfold kmk; rw [ga_l (by rw [wbs_len]; omega), wbs_get (by omega)]
theorem kmk_hi {k : Nat → Int32} {mk : Int32} {i : Nat} (h : 32 ≤ i) (h2 : i < 64) : (kmk k mk).getD i 0 = byt mk (i % 4) := by
  unfold kmk
  obtain ⟨j, rfl⟩ : ∃ j, i = (wbs (fun i => k (8 + i) ^^^ mk) 8).length + j := ⟨i - 32, by rw [wbs_len]; omega⟩
  rw [wbs_len] at h h2
  rw [ga_r (by rw [wbs_len]; omega), wbs_get (by omega), wbs_len, show (4 * 8 + j) % 4 = j % 4 from by omega]
theorem byt_xor (x y : Int32) (i : Nat) (hi : i < 4) : byt (x ^^^ y) i = byt x i ^^^ byt y i := by
  apply b_ext; intro j _
  unfold byt ush
  rw [b_xor, b_and, b_and, b_and, b_ushr _ (by omega), b_ushr _ (by omega), b_ushr _ (by omega), b_xor]
  cases bt x (24 - 8 * i + j) <;> cases bt y (24 - 8 * i + j) <;> cases bt (nI 255) j <;> rfl
theorem pdk_lo {x mk : Int32} {wi i : Nat} (hi : i < 4) (hmk : ∀ i, i < 4 → byt mk i = nI wi) : ((x >>> (nI (24 - 8 * i) &&& 31)) ^^^ nI wi).toInt8.toInt32 = (byt (x ^^^ mk) i).toInt8.toInt32 := by
  rw [byt_xor x mk i hi, hmk i hi, Int32.toInt8_xor, Int32.toInt8_xor, ← shbyt hi x, i8_and]
theorem all_eq (n : Nat) : (n + 9 + 63) / 64 * 64 = n + 9 + zer n := by unfold zer; omega
theorem pad_lo {L : List Int32} {i : Nat} (h : i < L.length) : (pad L).getD i 0 = L.getD i 0 := by
  unfold pad
  rw [List.append_assoc, List.append_assoc, List.append_assoc, ga_l h]
theorem pad_hi {L : List Int32} {i : Nat} (h : i < 9 + zer L.length) : (pad L).getD (L.length + i) 0 = ([nI 128] ++ (List.replicate (zer L.length) 0 ++ (wb 0 ++ wb (nI (8 * L.length))))).getD i 0 := by
  unfold pad
  rw [List.append_assoc, List.append_assoc, List.append_assoc, ga_r]
  simp only [List.length_append, List.length_replicate, wb_len, List.length_cons, List.length_nil]
  omega
theorem pad_a {L : List Int32} : (pad L).getD L.length 0 = nI 128 := by
  have := pad_hi (L := L) (i := 0) (by omega)
  rw [Nat.add_zero] at this
  rw [this]; rfl
theorem pad_z {L : List Int32} {k : Nat} (h1 : L.length < k) (h2 : k < L.length + 9 + zer L.length - 4) : (pad L).getD k 0 = nI 0 := by
  obtain ⟨i, rfl⟩ : ∃ i, k = L.length + (1 + i) := ⟨k - L.length - 1, by omega⟩
  rw [pad_hi (by omega)]
  have e := ga_r (A := [nI 128]) (B := List.replicate (zer L.length) 0 ++ (wb 0 ++ wb (nI (8 * L.length)))) (i := i) (by simp only [List.length_append, List.length_replicate, wb_len]; omega)
  rw [show ([nI 128] : List Int32).length + i = 1 + i from rfl] at e
  rw [e]
  rcases Nat.lt_or_ge i (zer L.length) with q | q
  · rw [ga_l (by rw [List.length_replicate]; exact q), gd9 (by rw [List.length_replicate]; exact q), List.getElem_replicate]; rfl
  · obtain ⟨j, rfl⟩ : ∃ j, i = (List.replicate (zer L.length) (0 : Int32)).length + j := ⟨i - zer L.length, by rw [List.length_replicate]; omega⟩
    rw [List.length_replicate] at h2
    rw [ga_r (by simp only [List.length_append, wb_len]; omega), ga_l (by rw [wb_len]; omega)]
    rcases (show j = 0 ∨ j = 1 ∨ j = 2 ∨ j = 3 by omega) with rfl | rfl | rfl | rfl <;> decide
theorem pad_w {L : List Int32} {k : Nat} (h1 : L.length + 9 + zer L.length - 4 ≤ k) (h2 : k < L.length + 9 + zer L.length) : (pad L).getD k 0 = ush (nI (8 * L.length)) (8 * (L.length + 9 + zer L.length - 1 - k)) &&& nI 255 := by
  unfold pad
  obtain ⟨j, hj⟩ : ∃ j, k = (L ++ [nI 128] ++ List.replicate (zer L.length) 0 ++ wb 0).length + j := ⟨k - (L.length + 5 + zer L.length), by simp only [List.length_append, List.length_replicate, wb_len, List.length_cons, List.length_nil]; omega⟩
  have hl : (L ++ [nI 128] ++ List.replicate (zer L.length) 0 ++ wb 0).length = L.length + 5 + zer L.length := by simp only [List.length_append, List.length_replicate, wb_len, List.length_cons, List.length_nil]; omega
  rw [hj, ga_r (by rw [wb_len]; omega), wb_get (by omega), hl]
  unfold byt
  rw [show 24 - 8 * j = 8 * (L.length + 9 + zer L.length - 1 - (L.length + 5 + zer L.length + j)) from by omega]
theorem isb_pad {L : List Int32} (h : ∀ x ∈ L, x &&& nI 255 = x) : ∀ x ∈ pad L, x &&& nI 255 = x := by
  unfold pad
  refine isb_app (isb_app (isb_app (isb_app h ?_) ?_) isb_wb) isb_wb
  · intro x hx; rw [List.mem_singleton.mp hx]; decide
  · intro x hx; rw [List.eq_of_mem_replicate hx]; decide
theorem rr5 {g p : Nat → Int32} {t : Nat} {y x z v a : Int32} (hg : ∀ i, i < t → g i = p i) (hx : v = p t) : ∀ i, i < t + 1 → upd (upd (upd (upd (upd g t a) t x) t y) t z) t v i = p i := by
  intro i hi
  by_cases e : i = t
  · rw [e, pk_us]; exact hx
  · rw [pk_un e, pk_un e, pk_un e, pk_un e, pk_un e]; exact hg i (by omega)
theorem rek_row {L : List Int32} {r : Nat} {s g a : Nat → Int32} (hs : ∀ j, j < 8 → s j = hrows (pad L) r j) (hf : ∀ t, t < 16 → g t = roww (pad L) (64 * r) t) (ha : ∀ j, j < 8 → a j = hmix s (wsc g) j) : ∀ j, j < 8 → a j = hrows (pad L) (r + 1) j := by
  intro j hj
  rw [ha j hj]
  exact hmix_cg hs (wsc_cg hf) j hj
theorem seal_num {r1 : Nat → Int32} {num : Int32} {A : List Int32} (hA : A.length = 64) (hr : ∀ i, i < 64 → r1 i = (A.getD i 0).toInt8.toInt32) : ∀ i, i < 68 → upd (upd (upd (upd r1 64 (num >>> (nI 24 &&& 31)).toInt8.toInt32.toInt8.toInt32) 65 (num >>> (nI 16 &&& 31)).toInt8.toInt32.toInt8.toInt32) 66 (num >>> (nI 8 &&& 31)).toInt8.toInt32.toInt8.toInt32) 67 (num >>> (nI 0 &&& 31)).toInt8.toInt32.toInt8.toInt32 i = ((A ++ wb num).getD i 0).toInt8.toInt32 := by
  intro i hi
  rcases Nat.lt_or_ge i 64 with q | q
  · rw [pk_un (by omega), pk_un (by omega), pk_un (by omega), pk_un (by omega), ga_l (by omega)]; exact hr i q
  · obtain ⟨j, rfl⟩ : ∃ j, i = A.length + j := ⟨i - 64, by omega⟩
    rw [ga_r (by rw [wb_len]; omega), hA, wb_get (by omega)]
    rcases (show j = 0 ∨ j = 1 ∨ j = 2 ∨ j = 3 by omega) with rfl | rfl | rfl | rfl
    · exact (sx_sx _).trans (shb8 (k := 24) (by decide) num)
    · exact (sx_sx _).trans (shb8 (k := 16) (by decide) num)
    · exact (sx_sx _).trans (shb8 (k := 8) (by decide) num)
    · exact (sx_sx _).trans (shb8 (k := 0) (by decide) num)
theorem byt_iMk : ∀ i, i < 4 → byt iMk i = nI 54 := by decide +kernel
theorem byt_oMk : ∀ i, i < 4 → byt oMk i = nI 92 := by decide +kernel
theorem mw_MD_turn : Msw y_MD_turn b_MD_turn 2 (some .int) 2 := ⟨m_791, m_9, m_790, by decide +kernel⟩
set_option maxHeartbeats 4000000 in
set_option maxRecDepth 100000 in
theorem c_MD_turn (l : Launch) (d : DD) (x : Int32) (n : Nat) (hn : n < 32) : Ct l y_MD_turn b_MD_turn 2 (some .int) 0 0 0 0 d [] [.int x, .int (nI n)] (fun (_ : Unit) => some (.int (rr x n))) (fun (_ : Unit) => True) (fun (_ : Unit) => []) := by
  refine Ct.of (by decide +kernel) (Nat.le_of_ble_eq_true rfl) ?_
  intro p e s m below meth c A ls C hP hD hS hl
  have hl : lv_has ls 2 [(0, .int x), (1, .int (nI n))] := hl
  have hsz9 := hS.1
  refine lv_iload_n C.x C.b d_MD_turn_0 rfl (lv_at hl 0 rfl) ?_
  refine lv_iload_n C.x C.b d_MD_turn_1 rfl (lv_at hl 1 rfl) ?_
  refine lv_iushr (v := (x.toUInt32 >>> ((nI n).toUInt32 &&& Int32.toUInt32 31)).toInt32) C.x C.b d_MD_turn_2 rfl ?_
  refine lv_iload_n C.x C.b d_MD_turn_3 rfl (lv_at hl 0 rfl) ?_
  refine lv_bipush (v := nI 32) C.x C.b d_MD_turn_4 (by decide) ?_
  refine lv_iload_n C.x C.b d_MD_turn_6 rfl (lv_at hl 1 rfl) ?_
  refine lv_isub C.x C.b d_MD_turn_7 ?_
  refine k_top (y := nI (32 - n)) (pk_sub (by omega)) ?_
  refine lv_ishl C.x C.b d_MD_turn_8 ?_
  refine lv_ior C.x C.b d_MD_turn_9 ?_
  have hP9 := hP.sub (ws' := []) [] rfl
  have hD9 := hD.sub (ws' := []) [] (by decide) rfl
  exact k_iret C hS () (rfl) (trivial) hP9 hD9 d_MD_turn_10
theorem mw_MD_mix : Mw y_MD_mix b_MD_mix 7 none 0 := ⟨m_788, m_9, m_787, by decide +kernel⟩
set_option maxHeartbeats 4000000 in
set_option maxRecDepth 100000 in
theorem c_MD_mix (l : Launch) (d : DD) (h : Nat) (an : Nat) (ak : Nat) (au : Nat) (ap : Nat) (aw : Nat) (ac : Nat) (ag : Nat) (ax : Nat) (ao : Nat) (al : Nat) (av : Nat) (ae : Nat) (ar : Nat) (ad : Nat) (aW : Nat) (aS : Nat) (aN : Nat) (aR : Nat) (aG : Nat) (th : Int32) (lt : Int32) (se : Int32) (zs : Int32) (mn : Int32) (cz : Int32) (ln : Int32) (ft : Int32) (gz : Int32) (fW : Nat → Int32) (fS : Nat → Int32) (fN : Nat → Int32) (fR : Nat → Int32) (hR : ∀ t, t < 64 → fR t = dgr t) : Ct l y_MD_mix b_MD_mix 7 none 1 21 0 0 d [(h, ob 1 [.int th, .ref an, .ref ak, .int lt, .int se, .ref au, .int zs, .ref ap, .int mn, .ref aw, .int cz, .ref ac, .int ln, .int ft, .int gz, .ref ag, .ref ax, .ref ao, .ref al, .ref av, .ref ae, .ref ar, .ref ad, .ref aW, .ref aS, .ref aN, .ref aR, .ref aG]), (aW, aI d 64 fW), (aS, aI d 8 fS), (aN, aI d 8 fN), (aR, aI d 64 fR)] [.ref h] (fun (u : (Nat → Int32) × (Nat → Int32) × (Nat → Int32)) => match u with | (W2, S2, N2) => none) (fun (u : (Nat → Int32) × (Nat → Int32) × (Nat → Int32)) => match u with | (W2, S2, N2) => ∀ j, j < 8 → S2 j = hmix fS (wsc fW) j) (fun (u : (Nat → Int32) × (Nat → Int32) × (Nat → Int32)) => match u with | (W2, S2, N2) => [(h, ob 1 [.int th, .ref an, .ref ak, .int lt, .int se, .ref au, .int zs, .ref ap, .int mn, .ref aw, .int cz, .ref ac, .int ln, .int ft, .int gz, .ref ag, .ref ax, .ref ao, .ref al, .ref av, .ref ae, .ref ar, .ref ad, .ref aW, .ref aS, .ref aN, .ref aR, .ref aG]), (aW, aI d 64 W2), (aS, aI d 8 S2), (aN, aI d 8 N2), (aR, aI d 64 fR)]) := by
  refine Ct.of (by decide +kernel) (Nat.le_of_ble_eq_true rfl) ?_
  intro p e s m below meth c A ls C hP hD hS hl
  have hl : lv_has ls 7 [(0, .ref h)] := hl
  have hsz9 := hS.1
  refine lv_iconst (v := nI 0) C.x C.b d_MD_mix_0 (by decide) ?_
  refine lv_istore_n (lv' := [(1, .int (nI 0)), (0, .ref h)]) C.x C.b d_MD_mix_1 rfl hl (by decide) rfl (fun ls hl => ?_)
  have L2 : ∀ (fuel : Nat) (j : Nat) (gN : Nat → Int32), 8 - j < fuel → (j ≤ 8) → (∀ i, i < j → gN i = fS i) → ∀ (H : Heap) (locs : List Loc) (ls : Array Slot), va_P d.1 clz [(h, ob 1 [.int th, .ref an, .ref ak, .int lt, .int se, .ref au, .int zs, .ref ap, .int mn, .ref aw, .int cz, .ref ac, .int ln, .int ft, .int gz, .ref ag, .ref ax, .ref ao, .ref al, .ref av, .ref ae, .ref ar, .ref ad, .ref aW, .ref aS, .ref aN, .ref aR, .ref aG]), (aW, aI d 64 fW), (aS, aI d 8 fS), (aN, aI d 8 gN), (aR, aI d 64 fR)] H → va_D A [(h, ob 1 [.int th, .ref an, .ref ak, .int lt, .int se, .ref au, .int zs, .ref ap, .int mn, .ref aw, .int cz, .ref ac, .int ln, .int ft, .int gz, .ref ag, .ref ax, .ref ao, .ref al, .ref av, .ref ae, .ref ar, .ref ad, .ref aW, .ref aS, .ref aN, .ref aR, .ref aG]), (aW, aI d 64 fW), (aS, aI d 8 fS), (aN, aI d 8 gN), (aR, aI d 64 fR)] → va_S A s.heap H locs → lv_has ls 7 [(0, .ref h), (1, .int (nI j))] → W p l e (Rm 1 21 0 0) s m ([.ref h] : List Value).toArray below meth c H locs 0 0 (MQ below (Cout d A (fun (u : (Nat → Int32) × (Nat → Int32) × (Nat → Int32)) => match u with | (W2, S2, N2) => none) (fun (u : (Nat → Int32) × (Nat → Int32) × (Nat → Int32)) => match u with | (W2, S2, N2) => ∀ j, j < 8 → S2 j = hmix fS (wsc fW) j) (fun (u : (Nat → Int32) × (Nat → Int32) × (Nat → Int32)) => match u with | (W2, S2, N2) => [(h, ob 1 [.int th, .ref an, .ref ak, .int lt, .int se, .ref au, .int zs, .ref ap, .int mn, .ref aw, .int cz, .ref ac, .int ln, .int ft, .int gz, .ref ag, .ref ax, .ref ao, .ref al, .ref av, .ref ae, .ref ar, .ref ad, .ref aW, .ref aS, .ref aN, .ref aR, .ref aG]), (aW, aI d 64 W2), (aS, aI d 8 S2), (aN, aI d 8 N2), (aR, aI d 64 fR)])) ([.ref h] : List Value).toArray s 0 0 A) (F0 m 2 ls []) := by
    intro fuel
    induction fuel with
    | zero => intro j gN h9; exact absurd h9 (Nat.not_lt_zero _)
    | succ fuel ih2 =>
      intro j gN hfu2 hj hgN H locs ls hP hD hS hl
      refine lv_iload_n C.x C.b d_MD_mix_2 rfl (lv_at hl 1 rfl) ?_
      refine lv_bipush (v := nI 8) C.x C.b d_MD_mix_3 (by decide) ?_
      refine lv_icmp_ge (tgt := 26) C.x C.b d_MD_mix_5 (by decide) (fun hc5 => ?_) (fun hc5 => ?_)
      · rw [nI_leI (by omega) (by omega)] at hc5
        refine lv_bipush (v := nI 16) C.x C.b d_MD_mix_26 (by decide) ?_
        refine lv_istore_n (lv' := [(1, .int (nI 16)), (0, .ref h)]) C.x C.b d_MD_mix_28 rfl hl (by decide) rfl (fun ls hl => ?_)
        have L29 : ∀ (fuel : Nat) (n : Nat) (g : Nat → Int32), 48 - n < fuel → (n ≤ 48) → (∀ j, j < n + 16 → g j = wexp fW n j) → ∀ (H : Heap) (locs : List Loc) (ls : Array Slot), va_P d.1 clz [(h, ob 1 [.int th, .ref an, .ref ak, .int lt, .int se, .ref au, .int zs, .ref ap, .int mn, .ref aw, .int cz, .ref ac, .int ln, .int ft, .int gz, .ref ag, .ref ax, .ref ao, .ref al, .ref av, .ref ae, .ref ar, .ref ad, .ref aW, .ref aS, .ref aN, .ref aR, .ref aG]), (aW, aI d 64 g), (aS, aI d 8 fS), (aN, aI d 8 gN), (aR, aI d 64 fR)] H → va_D A [(h, ob 1 [.int th, .ref an, .ref ak, .int lt, .int se, .ref au, .int zs, .ref ap, .int mn, .ref aw, .int cz, .ref ac, .int ln, .int ft, .int gz, .ref ag, .ref ax, .ref ao, .ref al, .ref av, .ref ae, .ref ar, .ref ad, .ref aW, .ref aS, .ref aN, .ref aR, .ref aG]), (aW, aI d 64 g), (aS, aI d 8 fS), (aN, aI d 8 gN), (aR, aI d 64 fR)] → va_S A s.heap H locs → lv_has ls 7 [(0, .ref h), (1, .int (nI (n + 16)))] → W p l e (Rm 1 21 0 0) s m ([.ref h] : List Value).toArray below meth c H locs 0 0 (MQ below (Cout d A (fun (u : (Nat → Int32) × (Nat → Int32) × (Nat → Int32)) => match u with | (W2, S2, N2) => none) (fun (u : (Nat → Int32) × (Nat → Int32) × (Nat → Int32)) => match u with | (W2, S2, N2) => ∀ j, j < 8 → S2 j = hmix fS (wsc fW) j) (fun (u : (Nat → Int32) × (Nat → Int32) × (Nat → Int32)) => match u with | (W2, S2, N2) => [(h, ob 1 [.int th, .ref an, .ref ak, .int lt, .int se, .ref au, .int zs, .ref ap, .int mn, .ref aw, .int cz, .ref ac, .int ln, .int ft, .int gz, .ref ag, .ref ax, .ref ao, .ref al, .ref av, .ref ae, .ref ar, .ref ad, .ref aW, .ref aS, .ref aN, .ref aR, .ref aG]), (aW, aI d 64 W2), (aS, aI d 8 S2), (aN, aI d 8 N2), (aR, aI d 64 fR)])) ([.ref h] : List Value).toArray s 0 0 A) (F0 m 29 ls []) := by
          intro fuel
          induction fuel with
          | zero => intro n g h9; exact absurd h9 (Nat.not_lt_zero _)
          | succ fuel ih29 =>
            intro n g hfu29 hn hg H locs ls hP hD hS hl
            refine lv_iload_n C.x C.b d_MD_mix_29 rfl (lv_at hl 1 rfl) ?_
            refine lv_bipush (v := nI 64) C.x C.b d_MD_mix_30 (by decide) ?_
            refine lv_icmp_ge (tgt := 122) C.x C.b d_MD_mix_32 (by decide) (fun hc32 => ?_) (fun hc32 => ?_)
            · rw [nI_leI (by omega) (by omega)] at hc32
              refine lv_iconst (v := nI 0) C.x C.b d_MD_mix_122 (by decide) ?_
              refine lv_istore_n (lv' := [(1, .int (nI 0)), (0, .ref h)]) C.x C.b d_MD_mix_123 rfl hl (by decide) rfl (fun ls hl => ?_)
              have L124 : ∀ (fuel : Nat) (t : Nat) (g2 : Nat → Int32), 64 - t < fuel → (t ≤ 64) → (∀ j, j < 8 → g2 j = rst fS g t j) → ∀ (H : Heap) (locs : List Loc) (ls : Array Slot), va_P d.1 clz [(h, ob 1 [.int th, .ref an, .ref ak, .int lt, .int se, .ref au, .int zs, .ref ap, .int mn, .ref aw, .int cz, .ref ac, .int ln, .int ft, .int gz, .ref ag, .ref ax, .ref ao, .ref al, .ref av, .ref ae, .ref ar, .ref ad, .ref aW, .ref aS, .ref aN, .ref aR, .ref aG]), (aW, aI d 64 g), (aS, aI d 8 g2), (aN, aI d 8 gN), (aR, aI d 64 fR)] H → va_D A [(h, ob 1 [.int th, .ref an, .ref ak, .int lt, .int se, .ref au, .int zs, .ref ap, .int mn, .ref aw, .int cz, .ref ac, .int ln, .int ft, .int gz, .ref ag, .ref ax, .ref ao, .ref al, .ref av, .ref ae, .ref ar, .ref ad, .ref aW, .ref aS, .ref aN, .ref aR, .ref aG]), (aW, aI d 64 g), (aS, aI d 8 g2), (aN, aI d 8 gN), (aR, aI d 64 fR)] → va_S A s.heap H locs → lv_has ls 7 [(0, .ref h), (1, .int (nI t))] → W p l e (Rm 1 21 0 0) s m ([.ref h] : List Value).toArray below meth c H locs 0 0 (MQ below (Cout d A (fun (u : (Nat → Int32) × (Nat → Int32) × (Nat → Int32)) => match u with | (W2, S2, N2) => none) (fun (u : (Nat → Int32) × (Nat → Int32) × (Nat → Int32)) => match u with | (W2, S2, N2) => ∀ j, j < 8 → S2 j = hmix fS (wsc fW) j) (fun (u : (Nat → Int32) × (Nat → Int32) × (Nat → Int32)) => match u with | (W2, S2, N2) => [(h, ob 1 [.int th, .ref an, .ref ak, .int lt, .int se, .ref au, .int zs, .ref ap, .int mn, .ref aw, .int cz, .ref ac, .int ln, .int ft, .int gz, .ref ag, .ref ax, .ref ao, .ref al, .ref av, .ref ae, .ref ar, .ref ad, .ref aW, .ref aS, .ref aN, .ref aR, .ref aG]), (aW, aI d 64 W2), (aS, aI d 8 S2), (aN, aI d 8 N2), (aR, aI d 64 fR)])) ([.ref h] : List Value).toArray s 0 0 A) (F0 m 124 ls []) := by
                intro fuel
                induction fuel with
                | zero => intro t g2 h9; exact absurd h9 (Nat.not_lt_zero _)
                | succ fuel ih124 =>
                  intro t g2 hfu124 ht hg2 H locs ls hP hD hS hl
                  refine lv_iload_n C.x C.b d_MD_mix_124 rfl (lv_at hl 1 rfl) ?_
                  refine lv_bipush (v := nI 64) C.x C.b d_MD_mix_125 (by decide) ?_
                  refine lv_icmp_ge (tgt := 325) C.x C.b d_MD_mix_127 (by decide) (fun hc127 => ?_) (fun hc127 => ?_)
                  · rw [nI_leI (by omega) (by omega)] at hc127
                    refine lv_iconst (v := nI 0) C.x C.b d_MD_mix_325 (by decide) ?_
                    refine lv_istore_n (lv' := [(1, .int (nI 0)), (0, .ref h)]) C.x C.b d_MD_mix_326 rfl hl (by decide) rfl (fun ls hl => ?_)
                    refine lv_iload_n C.x C.b d_MD_mix_327 rfl (lv_at hl 0 rfl) ?_
                    refine lv_bipush (v := nI 8) C.x C.b d_MD_mix_328 (by decide) ?_
                    refine lv_icmp_ge (tgt := 358) C.x C.b d_MD_mix_330 (by decide) (fun h9 => by first | exact absurd h9 (by decide) | exact absurd (by decide) h9) (fun _ => ?_)
                    refine lv_aload_n C.x C.b d_MD_mix_333 rfl (lv_at hl 1 rfl) ?_
                    refine k_get C hP 0 rfl rfl i_MD 24 (by decide) m_676 rfl d_MD_mix_334 ?_
                    refine lv_iload_n C.x C.b d_MD_mix_337 rfl (lv_at hl 0 rfl) ?_
                    refine lv_aload_n C.x C.b d_MD_mix_338 rfl (lv_at hl 1 rfl) ?_
                    refine k_get C hP 0 rfl rfl i_MD 24 (by decide) m_676 rfl d_MD_mix_339 ?_
                    refine lv_iload_n C.x C.b d_MD_mix_342 rfl (lv_at hl 0 rfl) ?_
                    refine k_iald C hP 2 rfl (j := 0) (by omega) (by omega) d_MD_mix_343 ?_
                    refine lv_aload_n C.x C.b d_MD_mix_344 rfl (lv_at hl 1 rfl) ?_
                    refine k_get C hP 0 rfl rfl i_MD 25 (by decide) m_677 rfl d_MD_mix_345 ?_
                    refine lv_iload_n C.x C.b d_MD_mix_348 rfl (lv_at hl 0 rfl) ?_
                    refine k_iald C hP 3 rfl (j := 0) (by omega) (by omega) d_MD_mix_349 ?_
                    refine lv_iadd C.x C.b d_MD_mix_350 ?_
                    refine k_iast C hP hD hS 2 rfl (j := 0) (by omega) (by omega) d_MD_mix_351 (fun H locs hP hD hS => ?_)
                    have hP : va_P d.1 clz [(h, ob 1 [.int th, .ref an, .ref ak, .int lt, .int se, .ref au, .int zs, .ref ap, .int mn, .ref aw, .int cz, .ref ac, .int ln, .int ft, .int gz, .ref ag, .ref ax, .ref ao, .ref al, .ref av, .ref ae, .ref ar, .ref ad, .ref aW, .ref aS, .ref aN, .ref aR, .ref aG]), (aW, aI d 64 g), (aS, aI d 8 (upd g2 0 ((g2 0) + (gN 0)))), (aN, aI d 8 gN), (aR, aI d 64 fR)] H := hP
                    have hD : va_D A [(h, ob 1 [.int th, .ref an, .ref ak, .int lt, .int se, .ref au, .int zs, .ref ap, .int mn, .ref aw, .int cz, .ref ac, .int ln, .int ft, .int gz, .ref ag, .ref ax, .ref ao, .ref al, .ref av, .ref ae, .ref ar, .ref ad, .ref aW, .ref aS, .ref aN, .ref aR, .ref aG]), (aW, aI d 64 g), (aS, aI d 8 (upd g2 0 ((g2 0) + (gN 0)))), (aN, aI d 8 gN), (aR, aI d 64 fR)] := hD
                    refine lv_iinc (v := nI 1) (lv' := [(1, .int (nI 1)), (0, .ref h)]) C.x C.b d_MD_mix_352 hl (k := 0) rfl (by decide) (by decide) rfl (fun ls hl => ?_)
                    refine lv_goto (tgt := 327) C.x C.b d_MD_mix_355 (by decide) ?_
                    refine lv_iload_n C.x C.b d_MD_mix_327 rfl (lv_at hl 0 rfl) ?_
                    refine lv_bipush (v := nI 8) C.x C.b d_MD_mix_328 (by decide) ?_
                    refine lv_icmp_ge (tgt := 358) C.x C.b d_MD_mix_330 (by decide) (fun h9 => by first | exact absurd h9 (by decide) | exact absurd (by decide) h9) (fun _ => ?_)
                    refine lv_aload_n C.x C.b d_MD_mix_333 rfl (lv_at hl 1 rfl) ?_
                    refine k_get C hP 0 rfl rfl i_MD 24 (by decide) m_676 rfl d_MD_mix_334 ?_
                    refine lv_iload_n C.x C.b d_MD_mix_337 rfl (lv_at hl 0 rfl) ?_
                    refine lv_aload_n C.x C.b d_MD_mix_338 rfl (lv_at hl 1 rfl) ?_
                    refine k_get C hP 0 rfl rfl i_MD 24 (by decide) m_676 rfl d_MD_mix_339 ?_
                    refine lv_iload_n C.x C.b d_MD_mix_342 rfl (lv_at hl 0 rfl) ?_
                    refine k_iald C hP 2 rfl (j := 1) (by omega) (by omega) d_MD_mix_343 ?_
                    refine k_top (y := (g2 1)) rfl ?_
                    refine lv_aload_n C.x C.b d_MD_mix_344 rfl (lv_at hl 1 rfl) ?_
                    refine k_get C hP 0 rfl rfl i_MD 25 (by decide) m_677 rfl d_MD_mix_345 ?_
                    refine lv_iload_n C.x C.b d_MD_mix_348 rfl (lv_at hl 0 rfl) ?_
                    refine k_iald C hP 3 rfl (j := 1) (by omega) (by omega) d_MD_mix_349 ?_
                    refine lv_iadd C.x C.b d_MD_mix_350 ?_
                    refine k_iast C hP hD hS 2 rfl (j := 1) (by omega) (by omega) d_MD_mix_351 (fun H locs hP hD hS => ?_)
                    have hP : va_P d.1 clz [(h, ob 1 [.int th, .ref an, .ref ak, .int lt, .int se, .ref au, .int zs, .ref ap, .int mn, .ref aw, .int cz, .ref ac, .int ln, .int ft, .int gz, .ref ag, .ref ax, .ref ao, .ref al, .ref av, .ref ae, .ref ar, .ref ad, .ref aW, .ref aS, .ref aN, .ref aR, .ref aG]), (aW, aI d 64 g), (aS, aI d 8 (upd (upd g2 0 ((g2 0) + (gN 0))) 1 ((g2 1) + (gN 1)))), (aN, aI d 8 gN), (aR, aI d 64 fR)] H := hP
                    have hD : va_D A [(h, ob 1 [.int th, .ref an, .ref ak, .int lt, .int se, .ref au, .int zs, .ref ap, .int mn, .ref aw, .int cz, .ref ac, .int ln, .int ft, .int gz, .ref ag, .ref ax, .ref ao, .ref al, .ref av, .ref ae, .ref ar, .ref ad, .ref aW, .ref aS, .ref aN, .ref aR, .ref aG]), (aW, aI d 64 g), (aS, aI d 8 (upd (upd g2 0 ((g2 0) + (gN 0))) 1 ((g2 1) + (gN 1)))), (aN, aI d 8 gN), (aR, aI d 64 fR)] := hD
                    refine lv_iinc (v := nI 2) (lv' := [(1, .int (nI 2)), (0, .ref h)]) C.x C.b d_MD_mix_352 hl (k := 0) rfl (by decide) (by decide) rfl (fun ls hl => ?_)
                    refine lv_goto (tgt := 327) C.x C.b d_MD_mix_355 (by decide) ?_
                    refine lv_iload_n C.x C.b d_MD_mix_327 rfl (lv_at hl 0 rfl) ?_
                    refine lv_bipush (v := nI 8) C.x C.b d_MD_mix_328 (by decide) ?_
                    refine lv_icmp_ge (tgt := 358) C.x C.b d_MD_mix_330 (by decide) (fun h9 => by first | exact absurd h9 (by decide) | exact absurd (by decide) h9) (fun _ => ?_)
                    refine lv_aload_n C.x C.b d_MD_mix_333 rfl (lv_at hl 1 rfl) ?_
                    refine k_get C hP 0 rfl rfl i_MD 24 (by decide) m_676 rfl d_MD_mix_334 ?_
                    refine lv_iload_n C.x C.b d_MD_mix_337 rfl (lv_at hl 0 rfl) ?_
                    refine lv_aload_n C.x C.b d_MD_mix_338 rfl (lv_at hl 1 rfl) ?_
                    refine k_get C hP 0 rfl rfl i_MD 24 (by decide) m_676 rfl d_MD_mix_339 ?_
                    refine lv_iload_n C.x C.b d_MD_mix_342 rfl (lv_at hl 0 rfl) ?_
                    refine k_iald C hP 2 rfl (j := 2) (by omega) (by omega) d_MD_mix_343 ?_
                    refine k_top (y := (g2 2)) rfl ?_
                    refine lv_aload_n C.x C.b d_MD_mix_344 rfl (lv_at hl 1 rfl) ?_
                    refine k_get C hP 0 rfl rfl i_MD 25 (by decide) m_677 rfl d_MD_mix_345 ?_
                    refine lv_iload_n C.x C.b d_MD_mix_348 rfl (lv_at hl 0 rfl) ?_
                    refine k_iald C hP 3 rfl (j := 2) (by omega) (by omega) d_MD_mix_349 ?_
                    refine lv_iadd C.x C.b d_MD_mix_350 ?_
                    refine k_iast C hP hD hS 2 rfl (j := 2) (by omega) (by omega) d_MD_mix_351 (fun H locs hP hD hS => ?_)
                    have hP : va_P d.1 clz [(h, ob 1 [.int th, .ref an, .ref ak, .int lt, .int se, .ref au, .int zs, .ref ap, .int mn, .ref aw, .int cz, .ref ac, .int ln, .int ft, .int gz, .ref ag, .ref ax, .ref ao, .ref al, .ref av, .ref ae, .ref ar, .ref ad, .ref aW, .ref aS, .ref aN, .ref aR, .ref aG]), (aW, aI d 64 g), (aS, aI d 8 (upd (upd (upd g2 0 ((g2 0) + (gN 0))) 1 ((g2 1) + (gN 1))) 2 ((g2 2) + (gN 2)))), (aN, aI d 8 gN), (aR, aI d 64 fR)] H := hP
                    have hD : va_D A [(h, ob 1 [.int th, .ref an, .ref ak, .int lt, .int se, .ref au, .int zs, .ref ap, .int mn, .ref aw, .int cz, .ref ac, .int ln, .int ft, .int gz, .ref ag, .ref ax, .ref ao, .ref al, .ref av, .ref ae, .ref ar, .ref ad, .ref aW, .ref aS, .ref aN, .ref aR, .ref aG]), (aW, aI d 64 g), (aS, aI d 8 (upd (upd (upd g2 0 ((g2 0) + (gN 0))) 1 ((g2 1) + (gN 1))) 2 ((g2 2) + (gN 2)))), (aN, aI d 8 gN), (aR, aI d 64 fR)] := hD
                    refine lv_iinc (v := nI 3) (lv' := [(1, .int (nI 3)), (0, .ref h)]) C.x C.b d_MD_mix_352 hl (k := 0) rfl (by decide) (by decide) rfl (fun ls hl => ?_)
                    refine lv_goto (tgt := 327) C.x C.b d_MD_mix_355 (by decide) ?_
                    refine lv_iload_n C.x C.b d_MD_mix_327 rfl (lv_at hl 0 rfl) ?_
                    refine lv_bipush (v := nI 8) C.x C.b d_MD_mix_328 (by decide) ?_
                    refine lv_icmp_ge (tgt := 358) C.x C.b d_MD_mix_330 (by decide) (fun h9 => by first | exact absurd h9 (by decide) | exact absurd (by decide) h9) (fun _ => ?_)
                    refine lv_aload_n C.x C.b d_MD_mix_333 rfl (lv_at hl 1 rfl) ?_
                    refine k_get C hP 0 rfl rfl i_MD 24 (by decide) m_676 rfl d_MD_mix_334 ?_
                    refine lv_iload_n C.x C.b d_MD_mix_337 rfl (lv_at hl 0 rfl) ?_
                    refine lv_aload_n C.x C.b d_MD_mix_338 rfl (lv_at hl 1 rfl) ?_
                    refine k_get C hP 0 rfl rfl i_MD 24 (by decide) m_676 rfl d_MD_mix_339 ?_
                    refine lv_iload_n C.x C.b d_MD_mix_342 rfl (lv_at hl 0 rfl) ?_
                    refine k_iald C hP 2 rfl (j := 3) (by omega) (by omega) d_MD_mix_343 ?_
                    refine k_top (y := (g2 3)) rfl ?_
                    refine lv_aload_n C.x C.b d_MD_mix_344 rfl (lv_at hl 1 rfl) ?_
                    refine k_get C hP 0 rfl rfl i_MD 25 (by decide) m_677 rfl d_MD_mix_345 ?_
                    refine lv_iload_n C.x C.b d_MD_mix_348 rfl (lv_at hl 0 rfl) ?_
                    refine k_iald C hP 3 rfl (j := 3) (by omega) (by omega) d_MD_mix_349 ?_
                    refine lv_iadd C.x C.b d_MD_mix_350 ?_
                    refine k_iast C hP hD hS 2 rfl (j := 3) (by omega) (by omega) d_MD_mix_351 (fun H locs hP hD hS => ?_)
                    have hP : va_P d.1 clz [(h, ob 1 [.int th, .ref an, .ref ak, .int lt, .int se, .ref au, .int zs, .ref ap, .int mn, .ref aw, .int cz, .ref ac, .int ln, .int ft, .int gz, .ref ag, .ref ax, .ref ao, .ref al, .ref av, .ref ae, .ref ar, .ref ad, .ref aW, .ref aS, .ref aN, .ref aR, .ref aG]), (aW, aI d 64 g), (aS, aI d 8 (upd (upd (upd (upd g2 0 ((g2 0) + (gN 0))) 1 ((g2 1) + (gN 1))) 2 ((g2 2) + (gN 2))) 3 ((g2 3) + (gN 3)))), (aN, aI d 8 gN), (aR, aI d 64 fR)] H := hP
                    have hD : va_D A [(h, ob 1 [.int th, .ref an, .ref ak, .int lt, .int se, .ref au, .int zs, .ref ap, .int mn, .ref aw, .int cz, .ref ac, .int ln, .int ft, .int gz, .ref ag, .ref ax, .ref ao, .ref al, .ref av, .ref ae, .ref ar, .ref ad, .ref aW, .ref aS, .ref aN, .ref aR, .ref aG]), (aW, aI d 64 g), (aS, aI d 8 (upd (upd (upd (upd g2 0 ((g2 0) + (gN 0))) 1 ((g2 1) + (gN 1))) 2 ((g2 2) + (gN 2))) 3 ((g2 3) + (gN 3)))), (aN, aI d 8 gN), (aR, aI d 64 fR)] := hD
                    refine lv_iinc (v := nI 4) (lv' := [(1, .int (nI 4)), (0, .ref h)]) C.x C.b d_MD_mix_352 hl (k := 0) rfl (by decide) (by decide) rfl (fun ls hl => ?_)
                    refine lv_goto (tgt := 327) C.x C.b d_MD_mix_355 (by decide) ?_
                    refine lv_iload_n C.x C.b d_MD_mix_327 rfl (lv_at hl 0 rfl) ?_
                    refine lv_bipush (v := nI 8) C.x C.b d_MD_mix_328 (by decide) ?_
                    refine lv_icmp_ge (tgt := 358) C.x C.b d_MD_mix_330 (by decide) (fun h9 => by first | exact absurd h9 (by decide) | exact absurd (by decide) h9) (fun _ => ?_)
                    refine lv_aload_n C.x C.b d_MD_mix_333 rfl (lv_at hl 1 rfl) ?_
                    refine k_get C hP 0 rfl rfl i_MD 24 (by decide) m_676 rfl d_MD_mix_334 ?_
                    refine lv_iload_n C.x C.b d_MD_mix_337 rfl (lv_at hl 0 rfl) ?_
                    refine lv_aload_n C.x C.b d_MD_mix_338 rfl (lv_at hl 1 rfl) ?_
                    refine k_get C hP 0 rfl rfl i_MD 24 (by decide) m_676 rfl d_MD_mix_339 ?_
                    refine lv_iload_n C.x C.b d_MD_mix_342 rfl (lv_at hl 0 rfl) ?_
                    refine k_iald C hP 2 rfl (j := 4) (by omega) (by omega) d_MD_mix_343 ?_
                    refine k_top (y := (g2 4)) rfl ?_
                    refine lv_aload_n C.x C.b d_MD_mix_344 rfl (lv_at hl 1 rfl) ?_
                    refine k_get C hP 0 rfl rfl i_MD 25 (by decide) m_677 rfl d_MD_mix_345 ?_
                    refine lv_iload_n C.x C.b d_MD_mix_348 rfl (lv_at hl 0 rfl) ?_
                    refine k_iald C hP 3 rfl (j := 4) (by omega) (by omega) d_MD_mix_349 ?_
                    refine lv_iadd C.x C.b d_MD_mix_350 ?_
                    refine k_iast C hP hD hS 2 rfl (j := 4) (by omega) (by omega) d_MD_mix_351 (fun H locs hP hD hS => ?_)
                    have hP : va_P d.1 clz [(h, ob 1 [.int th, .ref an, .ref ak, .int lt, .int se, .ref au, .int zs, .ref ap, .int mn, .ref aw, .int cz, .ref ac, .int ln, .int ft, .int gz, .ref ag, .ref ax, .ref ao, .ref al, .ref av, .ref ae, .ref ar, .ref ad, .ref aW, .ref aS, .ref aN, .ref aR, .ref aG]), (aW, aI d 64 g), (aS, aI d 8 (upd (upd (upd (upd (upd g2 0 ((g2 0) + (gN 0))) 1 ((g2 1) + (gN 1))) 2 ((g2 2) + (gN 2))) 3 ((g2 3) + (gN 3))) 4 ((g2 4) + (gN 4)))), (aN, aI d 8 gN), (aR, aI d 64 fR)] H := hP
                    have hD : va_D A [(h, ob 1 [.int th, .ref an, .ref ak, .int lt, .int se, .ref au, .int zs, .ref ap, .int mn, .ref aw, .int cz, .ref ac, .int ln, .int ft, .int gz, .ref ag, .ref ax, .ref ao, .ref al, .ref av, .ref ae, .ref ar, .ref ad, .ref aW, .ref aS, .ref aN, .ref aR, .ref aG]), (aW, aI d 64 g), (aS, aI d 8 (upd (upd (upd (upd (upd g2 0 ((g2 0) + (gN 0))) 1 ((g2 1) + (gN 1))) 2 ((g2 2) + (gN 2))) 3 ((g2 3) + (gN 3))) 4 ((g2 4) + (gN 4)))), (aN, aI d 8 gN), (aR, aI d 64 fR)] := hD
                    refine lv_iinc (v := nI 5) (lv' := [(1, .int (nI 5)), (0, .ref h)]) C.x C.b d_MD_mix_352 hl (k := 0) rfl (by decide) (by decide) rfl (fun ls hl => ?_)
                    refine lv_goto (tgt := 327) C.x C.b d_MD_mix_355 (by decide) ?_
                    refine lv_iload_n C.x C.b d_MD_mix_327 rfl (lv_at hl 0 rfl) ?_
                    refine lv_bipush (v := nI 8) C.x C.b d_MD_mix_328 (by decide) ?_
                    refine lv_icmp_ge (tgt := 358) C.x C.b d_MD_mix_330 (by decide) (fun h9 => by first | exact absurd h9 (by decide) | exact absurd (by decide) h9) (fun _ => ?_)
                    refine lv_aload_n C.x C.b d_MD_mix_333 rfl (lv_at hl 1 rfl) ?_
                    refine k_get C hP 0 rfl rfl i_MD 24 (by decide) m_676 rfl d_MD_mix_334 ?_
                    refine lv_iload_n C.x C.b d_MD_mix_337 rfl (lv_at hl 0 rfl) ?_
                    refine lv_aload_n C.x C.b d_MD_mix_338 rfl (lv_at hl 1 rfl) ?_
                    refine k_get C hP 0 rfl rfl i_MD 24 (by decide) m_676 rfl d_MD_mix_339 ?_
                    refine lv_iload_n C.x C.b d_MD_mix_342 rfl (lv_at hl 0 rfl) ?_
                    refine k_iald C hP 2 rfl (j := 5) (by omega) (by omega) d_MD_mix_343 ?_
                    refine k_top (y := (g2 5)) rfl ?_
                    refine lv_aload_n C.x C.b d_MD_mix_344 rfl (lv_at hl 1 rfl) ?_
                    refine k_get C hP 0 rfl rfl i_MD 25 (by decide) m_677 rfl d_MD_mix_345 ?_
                    refine lv_iload_n C.x C.b d_MD_mix_348 rfl (lv_at hl 0 rfl) ?_
                    refine k_iald C hP 3 rfl (j := 5) (by omega) (by omega) d_MD_mix_349 ?_
                    refine lv_iadd C.x C.b d_MD_mix_350 ?_
                    refine k_iast C hP hD hS 2 rfl (j := 5) (by omega) (by omega) d_MD_mix_351 (fun H locs hP hD hS => ?_)
                    have hP : va_P d.1 clz [(h, ob 1 [.int th, .ref an, .ref ak, .int lt, .int se, .ref au, .int zs, .ref ap, .int mn, .ref aw, .int cz, .ref ac, .int ln, .int ft, .int gz, .ref ag, .ref ax, .ref ao, .ref al, .ref av, .ref ae, .ref ar, .ref ad, .ref aW, .ref aS, .ref aN, .ref aR, .ref aG]), (aW, aI d 64 g), (aS, aI d 8 (upd (upd (upd (upd (upd (upd g2 0 ((g2 0) + (gN 0))) 1 ((g2 1) + (gN 1))) 2 ((g2 2) + (gN 2))) 3 ((g2 3) + (gN 3))) 4 ((g2 4) + (gN 4))) 5 ((g2 5) + (gN 5)))), (aN, aI d 8 gN), (aR, aI d 64 fR)] H := hP
                    have hD : va_D A [(h, ob 1 [.int th, .ref an, .ref ak, .int lt, .int se, .ref au, .int zs, .ref ap, .int mn, .ref aw, .int cz, .ref ac, .int ln, .int ft, .int gz, .ref ag, .ref ax, .ref ao, .ref al, .ref av, .ref ae, .ref ar, .ref ad, .ref aW, .ref aS, .ref aN, .ref aR, .ref aG]), (aW, aI d 64 g), (aS, aI d 8 (upd (upd (upd (upd (upd (upd g2 0 ((g2 0) + (gN 0))) 1 ((g2 1) + (gN 1))) 2 ((g2 2) + (gN 2))) 3 ((g2 3) + (gN 3))) 4 ((g2 4) + (gN 4))) 5 ((g2 5) + (gN 5)))), (aN, aI d 8 gN), (aR, aI d 64 fR)] := hD
                    refine lv_iinc (v := nI 6) (lv' := [(1, .int (nI 6)), (0, .ref h)]) C.x C.b d_MD_mix_352 hl (k := 0) rfl (by decide) (by decide) rfl (fun ls hl => ?_)
                    refine lv_goto (tgt := 327) C.x C.b d_MD_mix_355 (by decide) ?_
                    refine lv_iload_n C.x C.b d_MD_mix_327 rfl (lv_at hl 0 rfl) ?_
                    refine lv_bipush (v := nI 8) C.x C.b d_MD_mix_328 (by decide) ?_
                    refine lv_icmp_ge (tgt := 358) C.x C.b d_MD_mix_330 (by decide) (fun h9 => by first | exact absurd h9 (by decide) | exact absurd (by decide) h9) (fun _ => ?_)
                    refine lv_aload_n C.x C.b d_MD_mix_333 rfl (lv_at hl 1 rfl) ?_
                    refine k_get C hP 0 rfl rfl i_MD 24 (by decide) m_676 rfl d_MD_mix_334 ?_
                    refine lv_iload_n C.x C.b d_MD_mix_337 rfl (lv_at hl 0 rfl) ?_
                    refine lv_aload_n C.x C.b d_MD_mix_338 rfl (lv_at hl 1 rfl) ?_
                    refine k_get C hP 0 rfl rfl i_MD 24 (by decide) m_676 rfl d_MD_mix_339 ?_
                    refine lv_iload_n C.x C.b d_MD_mix_342 rfl (lv_at hl 0 rfl) ?_
                    refine k_iald C hP 2 rfl (j := 6) (by omega) (by omega) d_MD_mix_343 ?_
                    refine k_top (y := (g2 6)) rfl ?_
                    refine lv_aload_n C.x C.b d_MD_mix_344 rfl (lv_at hl 1 rfl) ?_
                    refine k_get C hP 0 rfl rfl i_MD 25 (by decide) m_677 rfl d_MD_mix_345 ?_
                    refine lv_iload_n C.x C.b d_MD_mix_348 rfl (lv_at hl 0 rfl) ?_
                    refine k_iald C hP 3 rfl (j := 6) (by omega) (by omega) d_MD_mix_349 ?_
                    refine lv_iadd C.x C.b d_MD_mix_350 ?_
                    refine k_iast C hP hD hS 2 rfl (j := 6) (by omega) (by omega) d_MD_mix_351 (fun H locs hP hD hS => ?_)
                    have hP : va_P d.1 clz [(h, ob 1 [.int th, .ref an, .ref ak, .int lt, .int se, .ref au, .int zs, .ref ap, .int mn, .ref aw, .int cz, .ref ac, .int ln, .int ft, .int gz, .ref ag, .ref ax, .ref ao, .ref al, .ref av, .ref ae, .ref ar, .ref ad, .ref aW, .ref aS, .ref aN, .ref aR, .ref aG]), (aW, aI d 64 g), (aS, aI d 8 (upd (upd (upd (upd (upd (upd (upd g2 0 ((g2 0) + (gN 0))) 1 ((g2 1) + (gN 1))) 2 ((g2 2) + (gN 2))) 3 ((g2 3) + (gN 3))) 4 ((g2 4) + (gN 4))) 5 ((g2 5) + (gN 5))) 6 ((g2 6) + (gN 6)))), (aN, aI d 8 gN), (aR, aI d 64 fR)] H := hP
                    have hD : va_D A [(h, ob 1 [.int th, .ref an, .ref ak, .int lt, .int se, .ref au, .int zs, .ref ap, .int mn, .ref aw, .int cz, .ref ac, .int ln, .int ft, .int gz, .ref ag, .ref ax, .ref ao, .ref al, .ref av, .ref ae, .ref ar, .ref ad, .ref aW, .ref aS, .ref aN, .ref aR, .ref aG]), (aW, aI d 64 g), (aS, aI d 8 (upd (upd (upd (upd (upd (upd (upd g2 0 ((g2 0) + (gN 0))) 1 ((g2 1) + (gN 1))) 2 ((g2 2) + (gN 2))) 3 ((g2 3) + (gN 3))) 4 ((g2 4) + (gN 4))) 5 ((g2 5) + (gN 5))) 6 ((g2 6) + (gN 6)))), (aN, aI d 8 gN), (aR, aI d 64 fR)] := hD
                    refine lv_iinc (v := nI 7) (lv' := [(1, .int (nI 7)), (0, .ref h)]) C.x C.b d_MD_mix_352 hl (k := 0) rfl (by decide) (by decide) rfl (fun ls hl => ?_)
                    refine lv_goto (tgt := 327) C.x C.b d_MD_mix_355 (by decide) ?_
                    refine lv_iload_n C.x C.b d_MD_mix_327 rfl (lv_at hl 0 rfl) ?_
                    refine lv_bipush (v := nI 8) C.x C.b d_MD_mix_328 (by decide) ?_
                    refine lv_icmp_ge (tgt := 358) C.x C.b d_MD_mix_330 (by decide) (fun h9 => by first | exact absurd h9 (by decide) | exact absurd (by decide) h9) (fun _ => ?_)
                    refine lv_aload_n C.x C.b d_MD_mix_333 rfl (lv_at hl 1 rfl) ?_
                    refine k_get C hP 0 rfl rfl i_MD 24 (by decide) m_676 rfl d_MD_mix_334 ?_
                    refine lv_iload_n C.x C.b d_MD_mix_337 rfl (lv_at hl 0 rfl) ?_
                    refine lv_aload_n C.x C.b d_MD_mix_338 rfl (lv_at hl 1 rfl) ?_
                    refine k_get C hP 0 rfl rfl i_MD 24 (by decide) m_676 rfl d_MD_mix_339 ?_
                    refine lv_iload_n C.x C.b d_MD_mix_342 rfl (lv_at hl 0 rfl) ?_
                    refine k_iald C hP 2 rfl (j := 7) (by omega) (by omega) d_MD_mix_343 ?_
                    refine k_top (y := (g2 7)) rfl ?_
                    refine lv_aload_n C.x C.b d_MD_mix_344 rfl (lv_at hl 1 rfl) ?_
                    refine k_get C hP 0 rfl rfl i_MD 25 (by decide) m_677 rfl d_MD_mix_345 ?_
                    refine lv_iload_n C.x C.b d_MD_mix_348 rfl (lv_at hl 0 rfl) ?_
                    refine k_iald C hP 3 rfl (j := 7) (by omega) (by omega) d_MD_mix_349 ?_
                    refine lv_iadd C.x C.b d_MD_mix_350 ?_
                    refine k_iast C hP hD hS 2 rfl (j := 7) (by omega) (by omega) d_MD_mix_351 (fun H locs hP hD hS => ?_)
                    have hP : va_P d.1 clz [(h, ob 1 [.int th, .ref an, .ref ak, .int lt, .int se, .ref au, .int zs, .ref ap, .int mn, .ref aw, .int cz, .ref ac, .int ln, .int ft, .int gz, .ref ag, .ref ax, .ref ao, .ref al, .ref av, .ref ae, .ref ar, .ref ad, .ref aW, .ref aS, .ref aN, .ref aR, .ref aG]), (aW, aI d 64 g), (aS, aI d 8 (upd (upd (upd (upd (upd (upd (upd (upd g2 0 ((g2 0) + (gN 0))) 1 ((g2 1) + (gN 1))) 2 ((g2 2) + (gN 2))) 3 ((g2 3) + (gN 3))) 4 ((g2 4) + (gN 4))) 5 ((g2 5) + (gN 5))) 6 ((g2 6) + (gN 6))) 7 ((g2 7) + (gN 7)))), (aN, aI d 8 gN), (aR, aI d 64 fR)] H := hP
                    have hD : va_D A [(h, ob 1 [.int th, .ref an, .ref ak, .int lt, .int se, .ref au, .int zs, .ref ap, .int mn, .ref aw, .int cz, .ref ac, .int ln, .int ft, .int gz, .ref ag, .ref ax, .ref ao, .ref al, .ref av, .ref ae, .ref ar, .ref ad, .ref aW, .ref aS, .ref aN, .ref aR, .ref aG]), (aW, aI d 64 g), (aS, aI d 8 (upd (upd (upd (upd (upd (upd (upd (upd g2 0 ((g2 0) + (gN 0))) 1 ((g2 1) + (gN 1))) 2 ((g2 2) + (gN 2))) 3 ((g2 3) + (gN 3))) 4 ((g2 4) + (gN 4))) 5 ((g2 5) + (gN 5))) 6 ((g2 6) + (gN 6))) 7 ((g2 7) + (gN 7)))), (aN, aI d 8 gN), (aR, aI d 64 fR)] := hD
                    refine lv_iinc (v := nI 8) (lv' := [(1, .int (nI 8)), (0, .ref h)]) C.x C.b d_MD_mix_352 hl (k := 0) rfl (by decide) (by decide) rfl (fun ls hl => ?_)
                    refine lv_goto (tgt := 327) C.x C.b d_MD_mix_355 (by decide) ?_
                    refine lv_iload_n C.x C.b d_MD_mix_327 rfl (lv_at hl 0 rfl) ?_
                    refine lv_bipush (v := nI 8) C.x C.b d_MD_mix_328 (by decide) ?_
                    refine lv_icmp_ge (tgt := 358) C.x C.b d_MD_mix_330 (by decide) (fun _ => ?_) (fun h9 => by first | exact absurd h9 (by decide) | exact absurd (by decide) h9)
                    have hP9 := hP.sub (ws' := [(h, ob 1 [.int th, .ref an, .ref ak, .int lt, .int se, .ref au, .int zs, .ref ap, .int mn, .ref aw, .int cz, .ref ac, .int ln, .int ft, .int gz, .ref ag, .ref ax, .ref ao, .ref al, .ref av, .ref ae, .ref ar, .ref ad, .ref aW, .ref aS, .ref aN, .ref aR, .ref aG]), (aW, aI d 64 g), (aS, aI d 8 (upd (upd (upd (upd (upd (upd (upd (upd g2 0 ((g2 0) + (gN 0))) 1 ((g2 1) + (gN 1))) 2 ((g2 2) + (gN 2))) 3 ((g2 3) + (gN 3))) 4 ((g2 4) + (gN 4))) 5 ((g2 5) + (gN 5))) 6 ((g2 6) + (gN 6))) 7 ((g2 7) + (gN 7)))), (aN, aI d 8 gN), (aR, aI d 64 fR)]) [0, 1, 2, 3, 4] rfl
                    have hD9 := hD.sub (ws' := [(h, ob 1 [.int th, .ref an, .ref ak, .int lt, .int se, .ref au, .int zs, .ref ap, .int mn, .ref aw, .int cz, .ref ac, .int ln, .int ft, .int gz, .ref ag, .ref ax, .ref ao, .ref al, .ref av, .ref ae, .ref ar, .ref ad, .ref aW, .ref aS, .ref aN, .ref aR, .ref aG]), (aW, aI d 64 g), (aS, aI d 8 (upd (upd (upd (upd (upd (upd (upd (upd g2 0 ((g2 0) + (gN 0))) 1 ((g2 1) + (gN 1))) 2 ((g2 2) + (gN 2))) 3 ((g2 3) + (gN 3))) 4 ((g2 4) + (gN 4))) 5 ((g2 5) + (gN 5))) 6 ((g2 6) + (gN 6))) 7 ((g2 7) + (gN 7)))), (aN, aI d 8 gN), (aR, aI d 64 fR)]) [0, 1, 2, 3, 4] (by decide) rfl
                    have hwq : ∀ j, j < 64 → g j = wsc fW j := fun j hj => by rw [hg j (by omega), show n = 48 from by omega]; rfl
                    exact k_vret C hS (g, upd (upd (upd (upd (upd (upd (upd (upd g2 0 ((g2 0) + (gN 0))) 1 ((g2 1) + (gN 1))) 2 ((g2 2) + (gN 2))) 3 ((g2 3) + (gN 3))) 4 ((g2 4) + (gN 4))) 5 ((g2 5) + (gN 5))) 6 ((g2 6) + (gN 6))) 7 ((g2 7) + (gN 7)), gN) (rfl) (upd8 (mix_end (by omega) (by decide) hg2 (fun i hi => hgN i (by omega)) hwq) (mix_end (by omega) (by decide) hg2 (fun i hi => hgN i (by omega)) hwq) (mix_end (by omega) (by decide) hg2 (fun i hi => hgN i (by omega)) hwq) (mix_end (by omega) (by decide) hg2 (fun i hi => hgN i (by omega)) hwq) (mix_end (by omega) (by decide) hg2 (fun i hi => hgN i (by omega)) hwq) (mix_end (by omega) (by decide) hg2 (fun i hi => hgN i (by omega)) hwq) (mix_end (by omega) (by decide) hg2 (fun i hi => hgN i (by omega)) hwq) (mix_end (by omega) (by decide) hg2 (fun i hi => hgN i (by omega)) hwq)) hP9 hD9 d_MD_mix_358
                  · rw [nI_leI (by omega) (by omega)] at hc127
                    refine lv_aload_n C.x C.b d_MD_mix_130 rfl (lv_at hl 0 rfl) ?_
                    refine k_get C hP 0 rfl rfl i_MD 24 (by decide) m_676 rfl d_MD_mix_131 ?_
                    refine lv_iconst (v := nI 4) C.x C.b d_MD_mix_134 (by decide) ?_
                    refine k_iald C hP 2 rfl (j := 4) (by omega) (by omega) d_MD_mix_135 ?_
                    refine lv_istore_n (lv' := [(2, .int (g2 4)), (0, .ref h), (1, .int (nI t))]) C.x C.b d_MD_mix_136 rfl hl (by decide) rfl (fun ls hl => ?_)
                    refine lv_aload_n C.x C.b d_MD_mix_137 rfl (lv_at hl 1 rfl) ?_
                    refine k_get C hP 0 rfl rfl i_MD 24 (by decide) m_676 rfl d_MD_mix_138 ?_
                    refine lv_iconst (v := nI 0) C.x C.b d_MD_mix_141 (by decide) ?_
                    refine k_iald C hP 2 rfl (j := 0) (by omega) (by omega) d_MD_mix_142 ?_
                    refine lv_istore_n (lv' := [(3, .int (g2 0)), (2, .int (g2 4)), (0, .ref h), (1, .int (nI t))]) C.x C.b d_MD_mix_143 rfl hl (by decide) rfl (fun ls hl => ?_)
                    refine lv_aload_n C.x C.b d_MD_mix_144 rfl (lv_at hl 2 rfl) ?_
                    refine k_get C hP 0 rfl rfl i_MD 24 (by decide) m_676 rfl d_MD_mix_145 ?_
                    refine lv_bipush (v := nI 7) C.x C.b d_MD_mix_148 (by decide) ?_
                    refine k_iald C hP 2 rfl (j := 7) (by omega) (by omega) d_MD_mix_150 ?_
                    refine lv_iload_n C.x C.b d_MD_mix_151 rfl (lv_at hl 1 rfl) ?_
                    refine lv_bipush (v := nI 6) C.x C.b d_MD_mix_152 (by decide) ?_
                    refine k_callS (As := [.int (g2 4), .int (nI 6)]) (rest := [.int (g2 7)]) (wc := []) (wr := [(h, ob 1 [.int th, .ref an, .ref ak, .int lt, .int se, .ref au, .int zs, .ref ap, .int mn, .ref aw, .int cz, .ref ac, .int ln, .int ft, .int gz, .ref ag, .ref ax, .ref ao, .ref al, .ref av, .ref ae, .ref ar, .ref ad, .ref aW, .ref aS, .ref aN, .ref aR, .ref aG]), (aW, aI d 64 g), (aS, aI d 8 g2), (aN, aI d 8 gN), (aR, aI d 64 fR)]) C (c_MD_turn l d (g2 4) 6 (by decide)) mw_MD_turn m_789 hP hD hS [] [0, 1, 2, 3, 4] rfl rfl (by decide) (by decide) (by decide) rfl hl.1 (Nat.le_of_ble_eq_true rfl) d_MD_mix_154 ⟨Nat.le_of_ble_eq_true rfl, Nat.le_of_ble_eq_true rfl⟩ ⟨by decide, by decide⟩ (fun _ H locs hw_4 hP hD hS => ?_)
                    have hP : va_P d.1 clz [(h, ob 1 [.int th, .ref an, .ref ak, .int lt, .int se, .ref au, .int zs, .ref ap, .int mn, .ref aw, .int cz, .ref ac, .int ln, .int ft, .int gz, .ref ag, .ref ax, .ref ao, .ref al, .ref av, .ref ae, .ref ar, .ref ad, .ref aW, .ref aS, .ref aN, .ref aR, .ref aG]), (aW, aI d 64 g), (aS, aI d 8 g2), (aN, aI d 8 gN), (aR, aI d 64 fR)] H := hP
                    have hD : va_D A [(h, ob 1 [.int th, .ref an, .ref ak, .int lt, .int se, .ref au, .int zs, .ref ap, .int mn, .ref aw, .int cz, .ref ac, .int ln, .int ft, .int gz, .ref ag, .ref ax, .ref ao, .ref al, .ref av, .ref ae, .ref ar, .ref ad, .ref aW, .ref aS, .ref aN, .ref aR, .ref aG]), (aW, aI d 64 g), (aS, aI d 8 g2), (aN, aI d 8 gN), (aR, aI d 64 fR)] := hD
                    refine W.eq (g2 := F0 m 157 ls [.int (rr (g2 4) 6), .int (g2 7)]) rfl ?_
                    refine lv_iload_n C.x C.b d_MD_mix_157 rfl (lv_at hl 1 rfl) ?_
                    refine lv_bipush (v := nI 11) C.x C.b d_MD_mix_158 (by decide) ?_
                    refine k_callS (As := [.int (g2 4), .int (nI 11)]) (rest := [.int (rr (g2 4) 6), .int (g2 7)]) (wc := []) (wr := [(h, ob 1 [.int th, .ref an, .ref ak, .int lt, .int se, .ref au, .int zs, .ref ap, .int mn, .ref aw, .int cz, .ref ac, .int ln, .int ft, .int gz, .ref ag, .ref ax, .ref ao, .ref al, .ref av, .ref ae, .ref ar, .ref ad, .ref aW, .ref aS, .ref aN, .ref aR, .ref aG]), (aW, aI d 64 g), (aS, aI d 8 g2), (aN, aI d 8 gN), (aR, aI d 64 fR)]) C (c_MD_turn l d (g2 4) 11 (by decide)) mw_MD_turn m_789 hP hD hS [] [0, 1, 2, 3, 4] rfl rfl (by decide) (by decide) (by decide) rfl hl.1 (Nat.le_of_ble_eq_true rfl) d_MD_mix_160 ⟨Nat.le_of_ble_eq_true rfl, Nat.le_of_ble_eq_true rfl⟩ ⟨by decide, by decide⟩ (fun _ H locs hw_5 hP hD hS => ?_)
                    have hP : va_P d.1 clz [(h, ob 1 [.int th, .ref an, .ref ak, .int lt, .int se, .ref au, .int zs, .ref ap, .int mn, .ref aw, .int cz, .ref ac, .int ln, .int ft, .int gz, .ref ag, .ref ax, .ref ao, .ref al, .ref av, .ref ae, .ref ar, .ref ad, .ref aW, .ref aS, .ref aN, .ref aR, .ref aG]), (aW, aI d 64 g), (aS, aI d 8 g2), (aN, aI d 8 gN), (aR, aI d 64 fR)] H := hP
                    have hD : va_D A [(h, ob 1 [.int th, .ref an, .ref ak, .int lt, .int se, .ref au, .int zs, .ref ap, .int mn, .ref aw, .int cz, .ref ac, .int ln, .int ft, .int gz, .ref ag, .ref ax, .ref ao, .ref al, .ref av, .ref ae, .ref ar, .ref ad, .ref aW, .ref aS, .ref aN, .ref aR, .ref aG]), (aW, aI d 64 g), (aS, aI d 8 g2), (aN, aI d 8 gN), (aR, aI d 64 fR)] := hD
                    refine W.eq (g2 := F0 m 163 ls [.int (rr (g2 4) 11), .int (rr (g2 4) 6), .int (g2 7)]) rfl ?_
                    refine lv_ixor C.x C.b d_MD_mix_163 ?_
                    refine lv_iload_n C.x C.b d_MD_mix_164 rfl (lv_at hl 1 rfl) ?_
                    refine lv_bipush (v := nI 25) C.x C.b d_MD_mix_165 (by decide) ?_
                    refine k_callS (As := [.int (g2 4), .int (nI 25)]) (rest := [.int ((rr (g2 4) 6) ^^^ (rr (g2 4) 11)), .int (g2 7)]) (wc := []) (wr := [(h, ob 1 [.int th, .ref an, .ref ak, .int lt, .int se, .ref au, .int zs, .ref ap, .int mn, .ref aw, .int cz, .ref ac, .int ln, .int ft, .int gz, .ref ag, .ref ax, .ref ao, .ref al, .ref av, .ref ae, .ref ar, .ref ad, .ref aW, .ref aS, .ref aN, .ref aR, .ref aG]), (aW, aI d 64 g), (aS, aI d 8 g2), (aN, aI d 8 gN), (aR, aI d 64 fR)]) C (c_MD_turn l d (g2 4) 25 (by decide)) mw_MD_turn m_789 hP hD hS [] [0, 1, 2, 3, 4] rfl rfl (by decide) (by decide) (by decide) rfl hl.1 (Nat.le_of_ble_eq_true rfl) d_MD_mix_167 ⟨Nat.le_of_ble_eq_true rfl, Nat.le_of_ble_eq_true rfl⟩ ⟨by decide, by decide⟩ (fun _ H locs hw_6 hP hD hS => ?_)
                    have hP : va_P d.1 clz [(h, ob 1 [.int th, .ref an, .ref ak, .int lt, .int se, .ref au, .int zs, .ref ap, .int mn, .ref aw, .int cz, .ref ac, .int ln, .int ft, .int gz, .ref ag, .ref ax, .ref ao, .ref al, .ref av, .ref ae, .ref ar, .ref ad, .ref aW, .ref aS, .ref aN, .ref aR, .ref aG]), (aW, aI d 64 g), (aS, aI d 8 g2), (aN, aI d 8 gN), (aR, aI d 64 fR)] H := hP
                    have hD : va_D A [(h, ob 1 [.int th, .ref an, .ref ak, .int lt, .int se, .ref au, .int zs, .ref ap, .int mn, .ref aw, .int cz, .ref ac, .int ln, .int ft, .int gz, .ref ag, .ref ax, .ref ao, .ref al, .ref av, .ref ae, .ref ar, .ref ad, .ref aW, .ref aS, .ref aN, .ref aR, .ref aG]), (aW, aI d 64 g), (aS, aI d 8 g2), (aN, aI d 8 gN), (aR, aI d 64 fR)] := hD
                    refine W.eq (g2 := F0 m 170 ls [.int (rr (g2 4) 25), .int ((rr (g2 4) 6) ^^^ (rr (g2 4) 11)), .int (g2 7)]) rfl ?_
                    refine lv_ixor C.x C.b d_MD_mix_170 ?_
                    refine lv_iadd C.x C.b d_MD_mix_171 ?_
                    refine lv_iload_n C.x C.b d_MD_mix_172 rfl (lv_at hl 1 rfl) ?_
                    refine lv_aload_n C.x C.b d_MD_mix_173 rfl (lv_at hl 2 rfl) ?_
                    refine k_get C hP 0 rfl rfl i_MD 24 (by decide) m_676 rfl d_MD_mix_174 ?_
                    refine lv_iconst (v := nI 5) C.x C.b d_MD_mix_177 (by decide) ?_
                    refine k_iald C hP 2 rfl (j := 5) (by omega) (by omega) d_MD_mix_178 ?_
                    refine lv_iand C.x C.b d_MD_mix_179 ?_
                    refine lv_iload_n C.x C.b d_MD_mix_180 rfl (lv_at hl 1 rfl) ?_
                    refine lv_iconst (v := (-1)) C.x C.b d_MD_mix_181 (by decide) ?_
                    refine lv_ixor C.x C.b d_MD_mix_182 ?_
                    refine lv_aload_n C.x C.b d_MD_mix_183 rfl (lv_at hl 2 rfl) ?_
                    refine k_get C hP 0 rfl rfl i_MD 24 (by decide) m_676 rfl d_MD_mix_184 ?_
                    refine lv_bipush (v := nI 6) C.x C.b d_MD_mix_187 (by decide) ?_
                    refine k_iald C hP 2 rfl (j := 6) (by omega) (by omega) d_MD_mix_189 ?_
                    refine lv_iand C.x C.b d_MD_mix_190 ?_
                    refine lv_ixor C.x C.b d_MD_mix_191 ?_
                    refine lv_iadd C.x C.b d_MD_mix_192 ?_
                    refine lv_aload_n C.x C.b d_MD_mix_193 rfl (lv_at hl 2 rfl) ?_
                    refine k_get C hP 0 rfl rfl i_MD 26 (by decide) m_678 rfl d_MD_mix_194 ?_
                    refine lv_iload_n C.x C.b d_MD_mix_197 rfl (lv_at hl 3 rfl) ?_
                    refine k_iald C hP 4 rfl (j := t) (by omega) (by omega) d_MD_mix_198 ?_
                    refine lv_iadd C.x C.b d_MD_mix_199 ?_
                    refine lv_aload_n C.x C.b d_MD_mix_200 rfl (lv_at hl 2 rfl) ?_
                    refine k_get C hP 0 rfl rfl i_MD 23 (by decide) m_675 rfl d_MD_mix_201 ?_
                    refine lv_iload_n C.x C.b d_MD_mix_204 rfl (lv_at hl 3 rfl) ?_
                    refine k_iald C hP 1 rfl (j := t) (by omega) (by omega) d_MD_mix_205 ?_
                    refine lv_iadd C.x C.b d_MD_mix_206 ?_
                    refine lv_topi (fun u8 e_u8 => ?_)
                    refine lv_istore (lv' := [(4, .int u8), (3, .int (g2 0)), (2, .int (g2 4)), (0, .ref h), (1, .int (nI t))]) C.x C.b d_MD_mix_207 hl (by decide) rfl (fun ls hl => ?_)
                    refine lv_iload_n C.x C.b d_MD_mix_209 rfl (lv_at hl 1 rfl) ?_
                    refine lv_iconst (v := nI 2) C.x C.b d_MD_mix_210 (by decide) ?_
                    refine k_callS (As := [.int (g2 0), .int (nI 2)]) (rest := []) (wc := []) (wr := [(h, ob 1 [.int th, .ref an, .ref ak, .int lt, .int se, .ref au, .int zs, .ref ap, .int mn, .ref aw, .int cz, .ref ac, .int ln, .int ft, .int gz, .ref ag, .ref ax, .ref ao, .ref al, .ref av, .ref ae, .ref ar, .ref ad, .ref aW, .ref aS, .ref aN, .ref aR, .ref aG]), (aW, aI d 64 g), (aS, aI d 8 g2), (aN, aI d 8 gN), (aR, aI d 64 fR)]) C (c_MD_turn l d (g2 0) 2 (by decide)) mw_MD_turn m_789 hP hD hS [] [0, 1, 2, 3, 4] rfl rfl (by decide) (by decide) (by decide) rfl hl.1 (Nat.le_of_ble_eq_true rfl) d_MD_mix_211 ⟨Nat.le_of_ble_eq_true rfl, Nat.le_of_ble_eq_true rfl⟩ ⟨by decide, by decide⟩ (fun _ H locs hw_7 hP hD hS => ?_)
                    have hP : va_P d.1 clz [(h, ob 1 [.int th, .ref an, .ref ak, .int lt, .int se, .ref au, .int zs, .ref ap, .int mn, .ref aw, .int cz, .ref ac, .int ln, .int ft, .int gz, .ref ag, .ref ax, .ref ao, .ref al, .ref av, .ref ae, .ref ar, .ref ad, .ref aW, .ref aS, .ref aN, .ref aR, .ref aG]), (aW, aI d 64 g), (aS, aI d 8 g2), (aN, aI d 8 gN), (aR, aI d 64 fR)] H := hP
                    have hD : va_D A [(h, ob 1 [.int th, .ref an, .ref ak, .int lt, .int se, .ref au, .int zs, .ref ap, .int mn, .ref aw, .int cz, .ref ac, .int ln, .int ft, .int gz, .ref ag, .ref ax, .ref ao, .ref al, .ref av, .ref ae, .ref ar, .ref ad, .ref aW, .ref aS, .ref aN, .ref aR, .ref aG]), (aW, aI d 64 g), (aS, aI d 8 g2), (aN, aI d 8 gN), (aR, aI d 64 fR)] := hD
                    refine W.eq (g2 := F0 m 214 ls [.int (rr (g2 0) 2)]) rfl ?_
                    refine lv_iload_n C.x C.b d_MD_mix_214 rfl (lv_at hl 1 rfl) ?_
                    refine lv_bipush (v := nI 13) C.x C.b d_MD_mix_215 (by decide) ?_
                    refine k_callS (As := [.int (g2 0), .int (nI 13)]) (rest := [.int (rr (g2 0) 2)]) (wc := []) (wr := [(h, ob 1 [.int th, .ref an, .ref ak, .int lt, .int se, .ref au, .int zs, .ref ap, .int mn, .ref aw, .int cz, .ref ac, .int ln, .int ft, .int gz, .ref ag, .ref ax, .ref ao, .ref al, .ref av, .ref ae, .ref ar, .ref ad, .ref aW, .ref aS, .ref aN, .ref aR, .ref aG]), (aW, aI d 64 g), (aS, aI d 8 g2), (aN, aI d 8 gN), (aR, aI d 64 fR)]) C (c_MD_turn l d (g2 0) 13 (by decide)) mw_MD_turn m_789 hP hD hS [] [0, 1, 2, 3, 4] rfl rfl (by decide) (by decide) (by decide) rfl hl.1 (Nat.le_of_ble_eq_true rfl) d_MD_mix_217 ⟨Nat.le_of_ble_eq_true rfl, Nat.le_of_ble_eq_true rfl⟩ ⟨by decide, by decide⟩ (fun _ H locs hw_8 hP hD hS => ?_)
                    have hP : va_P d.1 clz [(h, ob 1 [.int th, .ref an, .ref ak, .int lt, .int se, .ref au, .int zs, .ref ap, .int mn, .ref aw, .int cz, .ref ac, .int ln, .int ft, .int gz, .ref ag, .ref ax, .ref ao, .ref al, .ref av, .ref ae, .ref ar, .ref ad, .ref aW, .ref aS, .ref aN, .ref aR, .ref aG]), (aW, aI d 64 g), (aS, aI d 8 g2), (aN, aI d 8 gN), (aR, aI d 64 fR)] H := hP
                    have hD : va_D A [(h, ob 1 [.int th, .ref an, .ref ak, .int lt, .int se, .ref au, .int zs, .ref ap, .int mn, .ref aw, .int cz, .ref ac, .int ln, .int ft, .int gz, .ref ag, .ref ax, .ref ao, .ref al, .ref av, .ref ae, .ref ar, .ref ad, .ref aW, .ref aS, .ref aN, .ref aR, .ref aG]), (aW, aI d 64 g), (aS, aI d 8 g2), (aN, aI d 8 gN), (aR, aI d 64 fR)] := hD
                    refine W.eq (g2 := F0 m 220 ls [.int (rr (g2 0) 13), .int (rr (g2 0) 2)]) rfl ?_
                    refine lv_ixor C.x C.b d_MD_mix_220 ?_
                    refine lv_iload_n C.x C.b d_MD_mix_221 rfl (lv_at hl 1 rfl) ?_
                    refine lv_bipush (v := nI 22) C.x C.b d_MD_mix_222 (by decide) ?_
                    refine k_callS (As := [.int (g2 0), .int (nI 22)]) (rest := [.int ((rr (g2 0) 2) ^^^ (rr (g2 0) 13))]) (wc := []) (wr := [(h, ob 1 [.int th, .ref an, .ref ak, .int lt, .int se, .ref au, .int zs, .ref ap, .int mn, .ref aw, .int cz, .ref ac, .int ln, .int ft, .int gz, .ref ag, .ref ax, .ref ao, .ref al, .ref av, .ref ae, .ref ar, .ref ad, .ref aW, .ref aS, .ref aN, .ref aR, .ref aG]), (aW, aI d 64 g), (aS, aI d 8 g2), (aN, aI d 8 gN), (aR, aI d 64 fR)]) C (c_MD_turn l d (g2 0) 22 (by decide)) mw_MD_turn m_789 hP hD hS [] [0, 1, 2, 3, 4] rfl rfl (by decide) (by decide) (by decide) rfl hl.1 (Nat.le_of_ble_eq_true rfl) d_MD_mix_224 ⟨Nat.le_of_ble_eq_true rfl, Nat.le_of_ble_eq_true rfl⟩ ⟨by decide, by decide⟩ (fun _ H locs hw_9 hP hD hS => ?_)
                    have hP : va_P d.1 clz [(h, ob 1 [.int th, .ref an, .ref ak, .int lt, .int se, .ref au, .int zs, .ref ap, .int mn, .ref aw, .int cz, .ref ac, .int ln, .int ft, .int gz, .ref ag, .ref ax, .ref ao, .ref al, .ref av, .ref ae, .ref ar, .ref ad, .ref aW, .ref aS, .ref aN, .ref aR, .ref aG]), (aW, aI d 64 g), (aS, aI d 8 g2), (aN, aI d 8 gN), (aR, aI d 64 fR)] H := hP
                    have hD : va_D A [(h, ob 1 [.int th, .ref an, .ref ak, .int lt, .int se, .ref au, .int zs, .ref ap, .int mn, .ref aw, .int cz, .ref ac, .int ln, .int ft, .int gz, .ref ag, .ref ax, .ref ao, .ref al, .ref av, .ref ae, .ref ar, .ref ad, .ref aW, .ref aS, .ref aN, .ref aR, .ref aG]), (aW, aI d 64 g), (aS, aI d 8 g2), (aN, aI d 8 gN), (aR, aI d 64 fR)] := hD
                    refine W.eq (g2 := F0 m 227 ls [.int (rr (g2 0) 22), .int ((rr (g2 0) 2) ^^^ (rr (g2 0) 13))]) rfl ?_
                    refine lv_ixor C.x C.b d_MD_mix_227 ?_
                    refine lv_iload_n C.x C.b d_MD_mix_228 rfl (lv_at hl 1 rfl) ?_
                    refine lv_aload_n C.x C.b d_MD_mix_229 rfl (lv_at hl 3 rfl) ?_
                    refine k_get C hP 0 rfl rfl i_MD 24 (by decide) m_676 rfl d_MD_mix_230 ?_
                    refine lv_iconst (v := nI 1) C.x C.b d_MD_mix_233 (by decide) ?_
                    refine k_iald C hP 2 rfl (j := 1) (by omega) (by omega) d_MD_mix_234 ?_
                    refine lv_iand C.x C.b d_MD_mix_235 ?_
                    refine lv_iload_n C.x C.b d_MD_mix_236 rfl (lv_at hl 1 rfl) ?_
                    refine lv_aload_n C.x C.b d_MD_mix_237 rfl (lv_at hl 3 rfl) ?_
                    refine k_get C hP 0 rfl rfl i_MD 24 (by decide) m_676 rfl d_MD_mix_238 ?_
                    refine lv_iconst (v := nI 2) C.x C.b d_MD_mix_241 (by decide) ?_
                    refine k_iald C hP 2 rfl (j := 2) (by omega) (by omega) d_MD_mix_242 ?_
                    refine lv_iand C.x C.b d_MD_mix_243 ?_
                    refine lv_ixor C.x C.b d_MD_mix_244 ?_
                    refine lv_aload_n C.x C.b d_MD_mix_245 rfl (lv_at hl 3 rfl) ?_
                    refine k_get C hP 0 rfl rfl i_MD 24 (by decide) m_676 rfl d_MD_mix_246 ?_
                    refine lv_iconst (v := nI 1) C.x C.b d_MD_mix_249 (by decide) ?_
                    refine k_iald C hP 2 rfl (j := 1) (by omega) (by omega) d_MD_mix_250 ?_
                    refine lv_aload_n C.x C.b d_MD_mix_251 rfl (lv_at hl 3 rfl) ?_
                    refine k_get C hP 0 rfl rfl i_MD 24 (by decide) m_676 rfl d_MD_mix_252 ?_
                    refine lv_iconst (v := nI 2) C.x C.b d_MD_mix_255 (by decide) ?_
                    refine k_iald C hP 2 rfl (j := 2) (by omega) (by omega) d_MD_mix_256 ?_
                    refine lv_iand C.x C.b d_MD_mix_257 ?_
                    refine lv_ixor C.x C.b d_MD_mix_258 ?_
                    refine lv_iadd C.x C.b d_MD_mix_259 ?_
                    refine lv_topi (fun v8 e_v8 => ?_)
                    refine lv_istore (lv' := [(5, .int v8), (4, .int u8), (3, .int (g2 0)), (2, .int (g2 4)), (0, .ref h), (1, .int (nI t))]) C.x C.b d_MD_mix_260 hl (by decide) rfl (fun ls hl => ?_)
                    refine lv_bipush (v := nI 7) C.x C.b d_MD_mix_262 (by decide) ?_
                    refine lv_istore (lv' := [(6, .int (nI 7)), (5, .int v8), (4, .int u8), (3, .int (g2 0)), (2, .int (g2 4)), (0, .ref h), (1, .int (nI t))]) C.x C.b d_MD_mix_264 hl (by decide) rfl (fun ls hl => ?_)
                    refine lv_iload C.x C.b d_MD_mix_266 (lv_at hl 0 rfl) ?_
                    refine lv_if_le (tgt := 293) C.x C.b d_MD_mix_268 (by decide) (fun h9 => by first | exact absurd h9 (by decide) | exact absurd (by decide) h9) (fun _ => ?_)
                    refine lv_aload_n C.x C.b d_MD_mix_271 rfl (lv_at hl 5 rfl) ?_
                    refine k_get C hP 0 rfl rfl i_MD 24 (by decide) m_676 rfl d_MD_mix_272 ?_
                    refine lv_iload C.x C.b d_MD_mix_275 (lv_at hl 0 rfl) ?_
                    refine lv_aload_n C.x C.b d_MD_mix_277 rfl (lv_at hl 5 rfl) ?_
                    refine k_get C hP 0 rfl rfl i_MD 24 (by decide) m_676 rfl d_MD_mix_278 ?_
                    refine lv_iload C.x C.b d_MD_mix_281 (lv_at hl 0 rfl) ?_
                    refine lv_iconst (v := nI 1) C.x C.b d_MD_mix_283 (by decide) ?_
                    refine lv_isub C.x C.b d_MD_mix_284 ?_
                    refine k_top (y := nI 6) (by decide) ?_
                    refine k_iald C hP 2 rfl (j := 6) (by omega) (by omega) d_MD_mix_285 ?_
                    refine k_iast C hP hD hS 2 rfl (j := 7) (by omega) (by omega) d_MD_mix_286 (fun H locs hP hD hS => ?_)
                    have hP : va_P d.1 clz [(h, ob 1 [.int th, .ref an, .ref ak, .int lt, .int se, .ref au, .int zs, .ref ap, .int mn, .ref aw, .int cz, .ref ac, .int ln, .int ft, .int gz, .ref ag, .ref ax, .ref ao, .ref al, .ref av, .ref ae, .ref ar, .ref ad, .ref aW, .ref aS, .ref aN, .ref aR, .ref aG]), (aW, aI d 64 g), (aS, aI d 8 (upd g2 7 (g2 6))), (aN, aI d 8 gN), (aR, aI d 64 fR)] H := hP
                    have hD : va_D A [(h, ob 1 [.int th, .ref an, .ref ak, .int lt, .int se, .ref au, .int zs, .ref ap, .int mn, .ref aw, .int cz, .ref ac, .int ln, .int ft, .int gz, .ref ag, .ref ax, .ref ao, .ref al, .ref av, .ref ae, .ref ar, .ref ad, .ref aW, .ref aS, .ref aN, .ref aR, .ref aG]), (aW, aI d 64 g), (aS, aI d 8 (upd g2 7 (g2 6))), (aN, aI d 8 gN), (aR, aI d 64 fR)] := hD
                    refine lv_iinc (v := nI 6) (lv' := [(6, .int (nI 6)), (5, .int v8), (4, .int u8), (3, .int (g2 0)), (2, .int (g2 4)), (0, .ref h), (1, .int (nI t))]) C.x C.b d_MD_mix_287 hl (k := 0) rfl (by decide) (by decide) rfl (fun ls hl => ?_)
                    refine lv_goto (tgt := 266) C.x C.b d_MD_mix_290 (by decide) ?_
                    refine lv_iload C.x C.b d_MD_mix_266 (lv_at hl 0 rfl) ?_
                    refine lv_if_le (tgt := 293) C.x C.b d_MD_mix_268 (by decide) (fun h9 => by first | exact absurd h9 (by decide) | exact absurd (by decide) h9) (fun _ => ?_)
                    refine lv_aload_n C.x C.b d_MD_mix_271 rfl (lv_at hl 5 rfl) ?_
                    refine k_get C hP 0 rfl rfl i_MD 24 (by decide) m_676 rfl d_MD_mix_272 ?_
                    refine lv_iload C.x C.b d_MD_mix_275 (lv_at hl 0 rfl) ?_
                    refine lv_aload_n C.x C.b d_MD_mix_277 rfl (lv_at hl 5 rfl) ?_
                    refine k_get C hP 0 rfl rfl i_MD 24 (by decide) m_676 rfl d_MD_mix_278 ?_
                    refine lv_iload C.x C.b d_MD_mix_281 (lv_at hl 0 rfl) ?_
                    refine lv_iconst (v := nI 1) C.x C.b d_MD_mix_283 (by decide) ?_
                    refine lv_isub C.x C.b d_MD_mix_284 ?_
                    refine k_top (y := nI 5) (by decide) ?_
                    refine k_iald C hP 2 rfl (j := 5) (by omega) (by omega) d_MD_mix_285 ?_
                    refine k_top (y := (g2 5)) rfl ?_
                    refine k_iast C hP hD hS 2 rfl (j := 6) (by omega) (by omega) d_MD_mix_286 (fun H locs hP hD hS => ?_)
                    have hP : va_P d.1 clz [(h, ob 1 [.int th, .ref an, .ref ak, .int lt, .int se, .ref au, .int zs, .ref ap, .int mn, .ref aw, .int cz, .ref ac, .int ln, .int ft, .int gz, .ref ag, .ref ax, .ref ao, .ref al, .ref av, .ref ae, .ref ar, .ref ad, .ref aW, .ref aS, .ref aN, .ref aR, .ref aG]), (aW, aI d 64 g), (aS, aI d 8 (upd (upd g2 7 (g2 6)) 6 (g2 5))), (aN, aI d 8 gN), (aR, aI d 64 fR)] H := hP
                    have hD : va_D A [(h, ob 1 [.int th, .ref an, .ref ak, .int lt, .int se, .ref au, .int zs, .ref ap, .int mn, .ref aw, .int cz, .ref ac, .int ln, .int ft, .int gz, .ref ag, .ref ax, .ref ao, .ref al, .ref av, .ref ae, .ref ar, .ref ad, .ref aW, .ref aS, .ref aN, .ref aR, .ref aG]), (aW, aI d 64 g), (aS, aI d 8 (upd (upd g2 7 (g2 6)) 6 (g2 5))), (aN, aI d 8 gN), (aR, aI d 64 fR)] := hD
                    refine lv_iinc (v := nI 5) (lv' := [(6, .int (nI 5)), (5, .int v8), (4, .int u8), (3, .int (g2 0)), (2, .int (g2 4)), (0, .ref h), (1, .int (nI t))]) C.x C.b d_MD_mix_287 hl (k := 0) rfl (by decide) (by decide) rfl (fun ls hl => ?_)
                    refine lv_goto (tgt := 266) C.x C.b d_MD_mix_290 (by decide) ?_
                    refine lv_iload C.x C.b d_MD_mix_266 (lv_at hl 0 rfl) ?_
                    refine lv_if_le (tgt := 293) C.x C.b d_MD_mix_268 (by decide) (fun h9 => by first | exact absurd h9 (by decide) | exact absurd (by decide) h9) (fun _ => ?_)
                    refine lv_aload_n C.x C.b d_MD_mix_271 rfl (lv_at hl 5 rfl) ?_
                    refine k_get C hP 0 rfl rfl i_MD 24 (by decide) m_676 rfl d_MD_mix_272 ?_
                    refine lv_iload C.x C.b d_MD_mix_275 (lv_at hl 0 rfl) ?_
                    refine lv_aload_n C.x C.b d_MD_mix_277 rfl (lv_at hl 5 rfl) ?_
                    refine k_get C hP 0 rfl rfl i_MD 24 (by decide) m_676 rfl d_MD_mix_278 ?_
                    refine lv_iload C.x C.b d_MD_mix_281 (lv_at hl 0 rfl) ?_
                    refine lv_iconst (v := nI 1) C.x C.b d_MD_mix_283 (by decide) ?_
                    refine lv_isub C.x C.b d_MD_mix_284 ?_
                    refine k_top (y := nI 4) (by decide) ?_
                    refine k_iald C hP 2 rfl (j := 4) (by omega) (by omega) d_MD_mix_285 ?_
                    refine k_top (y := (g2 4)) rfl ?_
                    refine k_iast C hP hD hS 2 rfl (j := 5) (by omega) (by omega) d_MD_mix_286 (fun H locs hP hD hS => ?_)
                    have hP : va_P d.1 clz [(h, ob 1 [.int th, .ref an, .ref ak, .int lt, .int se, .ref au, .int zs, .ref ap, .int mn, .ref aw, .int cz, .ref ac, .int ln, .int ft, .int gz, .ref ag, .ref ax, .ref ao, .ref al, .ref av, .ref ae, .ref ar, .ref ad, .ref aW, .ref aS, .ref aN, .ref aR, .ref aG]), (aW, aI d 64 g), (aS, aI d 8 (upd (upd (upd g2 7 (g2 6)) 6 (g2 5)) 5 (g2 4))), (aN, aI d 8 gN), (aR, aI d 64 fR)] H := hP
                    have hD : va_D A [(h, ob 1 [.int th, .ref an, .ref ak, .int lt, .int se, .ref au, .int zs, .ref ap, .int mn, .ref aw, .int cz, .ref ac, .int ln, .int ft, .int gz, .ref ag, .ref ax, .ref ao, .ref al, .ref av, .ref ae, .ref ar, .ref ad, .ref aW, .ref aS, .ref aN, .ref aR, .ref aG]), (aW, aI d 64 g), (aS, aI d 8 (upd (upd (upd g2 7 (g2 6)) 6 (g2 5)) 5 (g2 4))), (aN, aI d 8 gN), (aR, aI d 64 fR)] := hD
                    refine lv_iinc (v := nI 4) (lv' := [(6, .int (nI 4)), (5, .int v8), (4, .int u8), (3, .int (g2 0)), (2, .int (g2 4)), (0, .ref h), (1, .int (nI t))]) C.x C.b d_MD_mix_287 hl (k := 0) rfl (by decide) (by decide) rfl (fun ls hl => ?_)
                    refine lv_goto (tgt := 266) C.x C.b d_MD_mix_290 (by decide) ?_
                    refine lv_iload C.x C.b d_MD_mix_266 (lv_at hl 0 rfl) ?_
                    refine lv_if_le (tgt := 293) C.x C.b d_MD_mix_268 (by decide) (fun h9 => by first | exact absurd h9 (by decide) | exact absurd (by decide) h9) (fun _ => ?_)
                    refine lv_aload_n C.x C.b d_MD_mix_271 rfl (lv_at hl 5 rfl) ?_
                    refine k_get C hP 0 rfl rfl i_MD 24 (by decide) m_676 rfl d_MD_mix_272 ?_
                    refine lv_iload C.x C.b d_MD_mix_275 (lv_at hl 0 rfl) ?_
                    refine lv_aload_n C.x C.b d_MD_mix_277 rfl (lv_at hl 5 rfl) ?_
                    refine k_get C hP 0 rfl rfl i_MD 24 (by decide) m_676 rfl d_MD_mix_278 ?_
                    refine lv_iload C.x C.b d_MD_mix_281 (lv_at hl 0 rfl) ?_
                    refine lv_iconst (v := nI 1) C.x C.b d_MD_mix_283 (by decide) ?_
                    refine lv_isub C.x C.b d_MD_mix_284 ?_
                    refine k_top (y := nI 3) (by decide) ?_
                    refine k_iald C hP 2 rfl (j := 3) (by omega) (by omega) d_MD_mix_285 ?_
                    refine k_top (y := (g2 3)) rfl ?_
                    refine k_iast C hP hD hS 2 rfl (j := 4) (by omega) (by omega) d_MD_mix_286 (fun H locs hP hD hS => ?_)
                    have hP : va_P d.1 clz [(h, ob 1 [.int th, .ref an, .ref ak, .int lt, .int se, .ref au, .int zs, .ref ap, .int mn, .ref aw, .int cz, .ref ac, .int ln, .int ft, .int gz, .ref ag, .ref ax, .ref ao, .ref al, .ref av, .ref ae, .ref ar, .ref ad, .ref aW, .ref aS, .ref aN, .ref aR, .ref aG]), (aW, aI d 64 g), (aS, aI d 8 (upd (upd (upd (upd g2 7 (g2 6)) 6 (g2 5)) 5 (g2 4)) 4 (g2 3))), (aN, aI d 8 gN), (aR, aI d 64 fR)] H := hP
                    have hD : va_D A [(h, ob 1 [.int th, .ref an, .ref ak, .int lt, .int se, .ref au, .int zs, .ref ap, .int mn, .ref aw, .int cz, .ref ac, .int ln, .int ft, .int gz, .ref ag, .ref ax, .ref ao, .ref al, .ref av, .ref ae, .ref ar, .ref ad, .ref aW, .ref aS, .ref aN, .ref aR, .ref aG]), (aW, aI d 64 g), (aS, aI d 8 (upd (upd (upd (upd g2 7 (g2 6)) 6 (g2 5)) 5 (g2 4)) 4 (g2 3))), (aN, aI d 8 gN), (aR, aI d 64 fR)] := hD
                    refine lv_iinc (v := nI 3) (lv' := [(6, .int (nI 3)), (5, .int v8), (4, .int u8), (3, .int (g2 0)), (2, .int (g2 4)), (0, .ref h), (1, .int (nI t))]) C.x C.b d_MD_mix_287 hl (k := 0) rfl (by decide) (by decide) rfl (fun ls hl => ?_)
                    refine lv_goto (tgt := 266) C.x C.b d_MD_mix_290 (by decide) ?_
                    refine lv_iload C.x C.b d_MD_mix_266 (lv_at hl 0 rfl) ?_
                    refine lv_if_le (tgt := 293) C.x C.b d_MD_mix_268 (by decide) (fun h9 => by first | exact absurd h9 (by decide) | exact absurd (by decide) h9) (fun _ => ?_)
                    refine lv_aload_n C.x C.b d_MD_mix_271 rfl (lv_at hl 5 rfl) ?_
                    refine k_get C hP 0 rfl rfl i_MD 24 (by decide) m_676 rfl d_MD_mix_272 ?_
                    refine lv_iload C.x C.b d_MD_mix_275 (lv_at hl 0 rfl) ?_
                    refine lv_aload_n C.x C.b d_MD_mix_277 rfl (lv_at hl 5 rfl) ?_
                    refine k_get C hP 0 rfl rfl i_MD 24 (by decide) m_676 rfl d_MD_mix_278 ?_
                    refine lv_iload C.x C.b d_MD_mix_281 (lv_at hl 0 rfl) ?_
                    refine lv_iconst (v := nI 1) C.x C.b d_MD_mix_283 (by decide) ?_
                    refine lv_isub C.x C.b d_MD_mix_284 ?_
                    refine k_top (y := nI 2) (by decide) ?_
                    refine k_iald C hP 2 rfl (j := 2) (by omega) (by omega) d_MD_mix_285 ?_
                    refine k_top (y := (g2 2)) rfl ?_
                    refine k_iast C hP hD hS 2 rfl (j := 3) (by omega) (by omega) d_MD_mix_286 (fun H locs hP hD hS => ?_)
                    have hP : va_P d.1 clz [(h, ob 1 [.int th, .ref an, .ref ak, .int lt, .int se, .ref au, .int zs, .ref ap, .int mn, .ref aw, .int cz, .ref ac, .int ln, .int ft, .int gz, .ref ag, .ref ax, .ref ao, .ref al, .ref av, .ref ae, .ref ar, .ref ad, .ref aW, .ref aS, .ref aN, .ref aR, .ref aG]), (aW, aI d 64 g), (aS, aI d 8 (upd (upd (upd (upd (upd g2 7 (g2 6)) 6 (g2 5)) 5 (g2 4)) 4 (g2 3)) 3 (g2 2))), (aN, aI d 8 gN), (aR, aI d 64 fR)] H := hP
                    have hD : va_D A [(h, ob 1 [.int th, .ref an, .ref ak, .int lt, .int se, .ref au, .int zs, .ref ap, .int mn, .ref aw, .int cz, .ref ac, .int ln, .int ft, .int gz, .ref ag, .ref ax, .ref ao, .ref al, .ref av, .ref ae, .ref ar, .ref ad, .ref aW, .ref aS, .ref aN, .ref aR, .ref aG]), (aW, aI d 64 g), (aS, aI d 8 (upd (upd (upd (upd (upd g2 7 (g2 6)) 6 (g2 5)) 5 (g2 4)) 4 (g2 3)) 3 (g2 2))), (aN, aI d 8 gN), (aR, aI d 64 fR)] := hD
                    refine lv_iinc (v := nI 2) (lv' := [(6, .int (nI 2)), (5, .int v8), (4, .int u8), (3, .int (g2 0)), (2, .int (g2 4)), (0, .ref h), (1, .int (nI t))]) C.x C.b d_MD_mix_287 hl (k := 0) rfl (by decide) (by decide) rfl (fun ls hl => ?_)
                    refine lv_goto (tgt := 266) C.x C.b d_MD_mix_290 (by decide) ?_
                    refine lv_iload C.x C.b d_MD_mix_266 (lv_at hl 0 rfl) ?_
                    refine lv_if_le (tgt := 293) C.x C.b d_MD_mix_268 (by decide) (fun h9 => by first | exact absurd h9 (by decide) | exact absurd (by decide) h9) (fun _ => ?_)
                    refine lv_aload_n C.x C.b d_MD_mix_271 rfl (lv_at hl 5 rfl) ?_
                    refine k_get C hP 0 rfl rfl i_MD 24 (by decide) m_676 rfl d_MD_mix_272 ?_
                    refine lv_iload C.x C.b d_MD_mix_275 (lv_at hl 0 rfl) ?_
                    refine lv_aload_n C.x C.b d_MD_mix_277 rfl (lv_at hl 5 rfl) ?_
                    refine k_get C hP 0 rfl rfl i_MD 24 (by decide) m_676 rfl d_MD_mix_278 ?_
                    refine lv_iload C.x C.b d_MD_mix_281 (lv_at hl 0 rfl) ?_
                    refine lv_iconst (v := nI 1) C.x C.b d_MD_mix_283 (by decide) ?_
                    refine lv_isub C.x C.b d_MD_mix_284 ?_
                    refine k_top (y := nI 1) (by decide) ?_
                    refine k_iald C hP 2 rfl (j := 1) (by omega) (by omega) d_MD_mix_285 ?_
                    refine k_top (y := (g2 1)) rfl ?_
                    refine k_iast C hP hD hS 2 rfl (j := 2) (by omega) (by omega) d_MD_mix_286 (fun H locs hP hD hS => ?_)
                    have hP : va_P d.1 clz [(h, ob 1 [.int th, .ref an, .ref ak, .int lt, .int se, .ref au, .int zs, .ref ap, .int mn, .ref aw, .int cz, .ref ac, .int ln, .int ft, .int gz, .ref ag, .ref ax, .ref ao, .ref al, .ref av, .ref ae, .ref ar, .ref ad, .ref aW, .ref aS, .ref aN, .ref aR, .ref aG]), (aW, aI d 64 g), (aS, aI d 8 (upd (upd (upd (upd (upd (upd g2 7 (g2 6)) 6 (g2 5)) 5 (g2 4)) 4 (g2 3)) 3 (g2 2)) 2 (g2 1))), (aN, aI d 8 gN), (aR, aI d 64 fR)] H := hP
                    have hD : va_D A [(h, ob 1 [.int th, .ref an, .ref ak, .int lt, .int se, .ref au, .int zs, .ref ap, .int mn, .ref aw, .int cz, .ref ac, .int ln, .int ft, .int gz, .ref ag, .ref ax, .ref ao, .ref al, .ref av, .ref ae, .ref ar, .ref ad, .ref aW, .ref aS, .ref aN, .ref aR, .ref aG]), (aW, aI d 64 g), (aS, aI d 8 (upd (upd (upd (upd (upd (upd g2 7 (g2 6)) 6 (g2 5)) 5 (g2 4)) 4 (g2 3)) 3 (g2 2)) 2 (g2 1))), (aN, aI d 8 gN), (aR, aI d 64 fR)] := hD
                    refine lv_iinc (v := nI 1) (lv' := [(6, .int (nI 1)), (5, .int v8), (4, .int u8), (3, .int (g2 0)), (2, .int (g2 4)), (0, .ref h), (1, .int (nI t))]) C.x C.b d_MD_mix_287 hl (k := 0) rfl (by decide) (by decide) rfl (fun ls hl => ?_)
                    refine lv_goto (tgt := 266) C.x C.b d_MD_mix_290 (by decide) ?_
                    refine lv_iload C.x C.b d_MD_mix_266 (lv_at hl 0 rfl) ?_
                    refine lv_if_le (tgt := 293) C.x C.b d_MD_mix_268 (by decide) (fun h9 => by first | exact absurd h9 (by decide) | exact absurd (by decide) h9) (fun _ => ?_)
                    refine lv_aload_n C.x C.b d_MD_mix_271 rfl (lv_at hl 5 rfl) ?_
                    refine k_get C hP 0 rfl rfl i_MD 24 (by decide) m_676 rfl d_MD_mix_272 ?_
                    refine lv_iload C.x C.b d_MD_mix_275 (lv_at hl 0 rfl) ?_
                    refine lv_aload_n C.x C.b d_MD_mix_277 rfl (lv_at hl 5 rfl) ?_
                    refine k_get C hP 0 rfl rfl i_MD 24 (by decide) m_676 rfl d_MD_mix_278 ?_
                    refine lv_iload C.x C.b d_MD_mix_281 (lv_at hl 0 rfl) ?_
                    refine lv_iconst (v := nI 1) C.x C.b d_MD_mix_283 (by decide) ?_
                    refine lv_isub C.x C.b d_MD_mix_284 ?_
                    refine k_top (y := nI 0) (by decide) ?_
                    refine k_iald C hP 2 rfl (j := 0) (by omega) (by omega) d_MD_mix_285 ?_
                    refine k_top (y := (g2 0)) rfl ?_
                    refine k_iast C hP hD hS 2 rfl (j := 1) (by omega) (by omega) d_MD_mix_286 (fun H locs hP hD hS => ?_)
                    have hP : va_P d.1 clz [(h, ob 1 [.int th, .ref an, .ref ak, .int lt, .int se, .ref au, .int zs, .ref ap, .int mn, .ref aw, .int cz, .ref ac, .int ln, .int ft, .int gz, .ref ag, .ref ax, .ref ao, .ref al, .ref av, .ref ae, .ref ar, .ref ad, .ref aW, .ref aS, .ref aN, .ref aR, .ref aG]), (aW, aI d 64 g), (aS, aI d 8 (upd (upd (upd (upd (upd (upd (upd g2 7 (g2 6)) 6 (g2 5)) 5 (g2 4)) 4 (g2 3)) 3 (g2 2)) 2 (g2 1)) 1 (g2 0))), (aN, aI d 8 gN), (aR, aI d 64 fR)] H := hP
                    have hD : va_D A [(h, ob 1 [.int th, .ref an, .ref ak, .int lt, .int se, .ref au, .int zs, .ref ap, .int mn, .ref aw, .int cz, .ref ac, .int ln, .int ft, .int gz, .ref ag, .ref ax, .ref ao, .ref al, .ref av, .ref ae, .ref ar, .ref ad, .ref aW, .ref aS, .ref aN, .ref aR, .ref aG]), (aW, aI d 64 g), (aS, aI d 8 (upd (upd (upd (upd (upd (upd (upd g2 7 (g2 6)) 6 (g2 5)) 5 (g2 4)) 4 (g2 3)) 3 (g2 2)) 2 (g2 1)) 1 (g2 0))), (aN, aI d 8 gN), (aR, aI d 64 fR)] := hD
                    refine lv_iinc (v := nI 0) (lv' := [(6, .int (nI 0)), (5, .int v8), (4, .int u8), (3, .int (g2 0)), (2, .int (g2 4)), (0, .ref h), (1, .int (nI t))]) C.x C.b d_MD_mix_287 hl (k := 0) rfl (by decide) (by decide) rfl (fun ls hl => ?_)
                    refine lv_goto (tgt := 266) C.x C.b d_MD_mix_290 (by decide) ?_
                    refine lv_iload C.x C.b d_MD_mix_266 (lv_at hl 0 rfl) ?_
                    refine lv_if_le (tgt := 293) C.x C.b d_MD_mix_268 (by decide) (fun _ => ?_) (fun h9 => by first | exact absurd h9 (by decide) | exact absurd (by decide) h9)
                    refine lv_aload_n C.x C.b d_MD_mix_293 rfl (lv_at hl 5 rfl) ?_
                    refine k_get C hP 0 rfl rfl i_MD 24 (by decide) m_676 rfl d_MD_mix_294 ?_
                    refine lv_iconst (v := nI 4) C.x C.b d_MD_mix_297 (by decide) ?_
                    refine lv_aload_n C.x C.b d_MD_mix_298 rfl (lv_at hl 5 rfl) ?_
                    refine k_get C hP 0 rfl rfl i_MD 24 (by decide) m_676 rfl d_MD_mix_299 ?_
                    refine lv_iconst (v := nI 4) C.x C.b d_MD_mix_302 (by decide) ?_
                    refine k_iald C hP 2 rfl (j := 4) (by omega) (by omega) d_MD_mix_303 ?_
                    refine k_top (y := (g2 3)) rfl ?_
                    refine lv_iload C.x C.b d_MD_mix_304 (lv_at hl 2 rfl) ?_
                    refine lv_iadd C.x C.b d_MD_mix_306 ?_
                    refine k_iast C hP hD hS 2 rfl (j := 4) (by omega) (by omega) d_MD_mix_307 (fun H locs hP hD hS => ?_)
                    have hP : va_P d.1 clz [(h, ob 1 [.int th, .ref an, .ref ak, .int lt, .int se, .ref au, .int zs, .ref ap, .int mn, .ref aw, .int cz, .ref ac, .int ln, .int ft, .int gz, .ref ag, .ref ax, .ref ao, .ref al, .ref av, .ref ae, .ref ar, .ref ad, .ref aW, .ref aS, .ref aN, .ref aR, .ref aG]), (aW, aI d 64 g), (aS, aI d 8 (upd (upd (upd (upd (upd (upd (upd (upd g2 7 (g2 6)) 6 (g2 5)) 5 (g2 4)) 4 (g2 3)) 3 (g2 2)) 2 (g2 1)) 1 (g2 0)) 4 ((g2 3) + u8))), (aN, aI d 8 gN), (aR, aI d 64 fR)] H := hP
                    have hD : va_D A [(h, ob 1 [.int th, .ref an, .ref ak, .int lt, .int se, .ref au, .int zs, .ref ap, .int mn, .ref aw, .int cz, .ref ac, .int ln, .int ft, .int gz, .ref ag, .ref ax, .ref ao, .ref al, .ref av, .ref ae, .ref ar, .ref ad, .ref aW, .ref aS, .ref aN, .ref aR, .ref aG]), (aW, aI d 64 g), (aS, aI d 8 (upd (upd (upd (upd (upd (upd (upd (upd g2 7 (g2 6)) 6 (g2 5)) 5 (g2 4)) 4 (g2 3)) 3 (g2 2)) 2 (g2 1)) 1 (g2 0)) 4 ((g2 3) + u8))), (aN, aI d 8 gN), (aR, aI d 64 fR)] := hD
                    refine lv_aload_n C.x C.b d_MD_mix_308 rfl (lv_at hl 5 rfl) ?_
                    refine k_get C hP 0 rfl rfl i_MD 24 (by decide) m_676 rfl d_MD_mix_309 ?_
                    refine lv_iconst (v := nI 0) C.x C.b d_MD_mix_312 (by decide) ?_
                    refine lv_iload C.x C.b d_MD_mix_313 (lv_at hl 2 rfl) ?_
                    refine lv_iload C.x C.b d_MD_mix_315 (lv_at hl 1 rfl) ?_
                    refine lv_iadd C.x C.b d_MD_mix_317 ?_
                    refine k_iast C hP hD hS 2 rfl (j := 0) (by omega) (by omega) d_MD_mix_318 (fun H locs hP hD hS => ?_)
                    have hP : va_P d.1 clz [(h, ob 1 [.int th, .ref an, .ref ak, .int lt, .int se, .ref au, .int zs, .ref ap, .int mn, .ref aw, .int cz, .ref ac, .int ln, .int ft, .int gz, .ref ag, .ref ax, .ref ao, .ref al, .ref av, .ref ae, .ref ar, .ref ad, .ref aW, .ref aS, .ref aN, .ref aR, .ref aG]), (aW, aI d 64 g), (aS, aI d 8 (upd (upd (upd (upd (upd (upd (upd (upd (upd g2 7 (g2 6)) 6 (g2 5)) 5 (g2 4)) 4 (g2 3)) 3 (g2 2)) 2 (g2 1)) 1 (g2 0)) 4 ((g2 3) + u8)) 0 (u8 + v8))), (aN, aI d 8 gN), (aR, aI d 64 fR)] H := hP
                    have hD : va_D A [(h, ob 1 [.int th, .ref an, .ref ak, .int lt, .int se, .ref au, .int zs, .ref ap, .int mn, .ref aw, .int cz, .ref ac, .int ln, .int ft, .int gz, .ref ag, .ref ax, .ref ao, .ref al, .ref av, .ref ae, .ref ar, .ref ad, .ref aW, .ref aS, .ref aN, .ref aR, .ref aG]), (aW, aI d 64 g), (aS, aI d 8 (upd (upd (upd (upd (upd (upd (upd (upd (upd g2 7 (g2 6)) 6 (g2 5)) 5 (g2 4)) 4 (g2 3)) 3 (g2 2)) 2 (g2 1)) 1 (g2 0)) 4 ((g2 3) + u8)) 0 (u8 + v8))), (aN, aI d 8 gN), (aR, aI d 64 fR)] := hD
                    refine lv_iinc (v := nI (t + 1)) (lv' := [(1, .int (nI (t + 1))), (6, .int (nI 0)), (5, .int v8), (4, .int u8), (3, .int (g2 0)), (2, .int (g2 4)), (0, .ref h)]) C.x C.b d_MD_mix_319 hl (k := 6) rfl (k_inc _ 1) (by decide) rfl (fun ls hl => ?_)
                    refine lv_goto (tgt := 124) C.x C.b d_MD_mix_322 (by decide) ?_
                    exact ih124 (t + 1) (upd (upd (upd (upd (upd (upd (upd (upd (upd g2 7 (g2 6)) 6 (g2 5)) 5 (g2 4)) 4 (g2 3)) 3 (g2 2)) 2 (g2 1)) 1 (g2 0)) 4 ((g2 3) + u8)) 0 (u8 + v8)) (by omega) (by omega) (mix_step (k := dgr t) (w := g t) hg2 (e_u8.trans (by rw [hR t (by omega)]; rfl)) e_v8) _ _ _ (hP.sub [0, 1, 2, 3, 4] (rfl)) (hD.sub [0, 1, 2, 3, 4] (by decide) (rfl)) hS (lv_sub hl [6, 0] (rfl))
              exact L124 ((64 - 0) + 1) 0 fS (Nat.lt_succ_self _) (by omega) (fun _ _ => rfl) _ _ _ (hP.sub [0, 1, 2, 3, 4] (rfl)) (hD.sub [0, 1, 2, 3, 4] (by decide) (rfl)) hS (lv_sub hl [1, 0] (rfl))
            · rw [nI_leI (by omega) (by omega)] at hc32
              refine lv_aload_n C.x C.b d_MD_mix_35 rfl (lv_at hl 0 rfl) ?_
              refine k_get C hP 0 rfl rfl i_MD 23 (by decide) m_675 rfl d_MD_mix_36 ?_
              refine lv_iload_n C.x C.b d_MD_mix_39 rfl (lv_at hl 1 rfl) ?_
              refine lv_bipush (v := nI 15) C.x C.b d_MD_mix_40 (by decide) ?_
              refine lv_isub C.x C.b d_MD_mix_42 ?_
              refine k_top (y := nI ((n + 16) - 15)) (pk_sub (by omega)) ?_
              refine k_iald C hP 1 rfl (j := ((n + 16) - 15)) (by omega) (by omega) d_MD_mix_43 ?_
              refine lv_istore_n (lv' := [(2, .int (g ((n + 16) - 15))), (0, .ref h), (1, .int (nI (n + 16)))]) C.x C.b d_MD_mix_44 rfl hl (by decide) rfl (fun ls hl => ?_)
              refine lv_aload_n C.x C.b d_MD_mix_45 rfl (lv_at hl 1 rfl) ?_
              refine k_get C hP 0 rfl rfl i_MD 23 (by decide) m_675 rfl d_MD_mix_46 ?_
              refine lv_iload_n C.x C.b d_MD_mix_49 rfl (lv_at hl 2 rfl) ?_
              refine lv_iconst (v := nI 2) C.x C.b d_MD_mix_50 (by decide) ?_
              refine lv_isub C.x C.b d_MD_mix_51 ?_
              refine k_top (y := nI ((n + 16) - 2)) (pk_sub (by omega)) ?_
              refine k_iald C hP 1 rfl (j := ((n + 16) - 2)) (by omega) (by omega) d_MD_mix_52 ?_
              refine lv_istore_n (lv' := [(3, .int (g ((n + 16) - 2))), (2, .int (g ((n + 16) - 15))), (0, .ref h), (1, .int (nI (n + 16)))]) C.x C.b d_MD_mix_53 rfl hl (by decide) rfl (fun ls hl => ?_)
              refine lv_aload_n C.x C.b d_MD_mix_54 rfl (lv_at hl 2 rfl) ?_
              refine k_get C hP 0 rfl rfl i_MD 23 (by decide) m_675 rfl d_MD_mix_55 ?_
              refine lv_iload_n C.x C.b d_MD_mix_58 rfl (lv_at hl 3 rfl) ?_
              refine lv_aload_n C.x C.b d_MD_mix_59 rfl (lv_at hl 2 rfl) ?_
              refine k_get C hP 0 rfl rfl i_MD 23 (by decide) m_675 rfl d_MD_mix_60 ?_
              refine lv_iload_n C.x C.b d_MD_mix_63 rfl (lv_at hl 3 rfl) ?_
              refine lv_bipush (v := nI 16) C.x C.b d_MD_mix_64 (by decide) ?_
              refine lv_isub C.x C.b d_MD_mix_66 ?_
              refine k_top (y := nI ((n + 16) - 16)) (pk_sub (by omega)) ?_
              refine k_iald C hP 1 rfl (j := ((n + 16) - 16)) (by omega) (by omega) d_MD_mix_67 ?_
              refine lv_iload_n C.x C.b d_MD_mix_68 rfl (lv_at hl 1 rfl) ?_
              refine lv_bipush (v := nI 7) C.x C.b d_MD_mix_69 (by decide) ?_
              refine k_callS (As := [.int (g ((n + 16) - 15)), .int (nI 7)]) (rest := [.int (g ((n + 16) - 16)), .int (nI (n + 16)), .ref aW]) (wc := []) (wr := [(h, ob 1 [.int th, .ref an, .ref ak, .int lt, .int se, .ref au, .int zs, .ref ap, .int mn, .ref aw, .int cz, .ref ac, .int ln, .int ft, .int gz, .ref ag, .ref ax, .ref ao, .ref al, .ref av, .ref ae, .ref ar, .ref ad, .ref aW, .ref aS, .ref aN, .ref aR, .ref aG]), (aW, aI d 64 g), (aS, aI d 8 fS), (aN, aI d 8 gN), (aR, aI d 64 fR)]) C (c_MD_turn l d (g ((n + 16) - 15)) 7 (by decide)) mw_MD_turn m_789 hP hD hS [] [0, 1, 2, 3, 4] rfl rfl (by decide) (by decide) (by decide) rfl hl.1 (Nat.le_of_ble_eq_true rfl) d_MD_mix_71 ⟨Nat.le_of_ble_eq_true rfl, Nat.le_of_ble_eq_true rfl⟩ ⟨by decide, by decide⟩ (fun _ H locs hw_10 hP hD hS => ?_)
              have hP : va_P d.1 clz [(h, ob 1 [.int th, .ref an, .ref ak, .int lt, .int se, .ref au, .int zs, .ref ap, .int mn, .ref aw, .int cz, .ref ac, .int ln, .int ft, .int gz, .ref ag, .ref ax, .ref ao, .ref al, .ref av, .ref ae, .ref ar, .ref ad, .ref aW, .ref aS, .ref aN, .ref aR, .ref aG]), (aW, aI d 64 g), (aS, aI d 8 fS), (aN, aI d 8 gN), (aR, aI d 64 fR)] H := hP
              have hD : va_D A [(h, ob 1 [.int th, .ref an, .ref ak, .int lt, .int se, .ref au, .int zs, .ref ap, .int mn, .ref aw, .int cz, .ref ac, .int ln, .int ft, .int gz, .ref ag, .ref ax, .ref ao, .ref al, .ref av, .ref ae, .ref ar, .ref ad, .ref aW, .ref aS, .ref aN, .ref aR, .ref aG]), (aW, aI d 64 g), (aS, aI d 8 fS), (aN, aI d 8 gN), (aR, aI d 64 fR)] := hD
              refine W.eq (g2 := F0 m 74 ls [.int (rr (g ((n + 16) - 15)) 7), .int (g ((n + 16) - 16)), .int (nI (n + 16)), .ref aW]) rfl ?_
              refine lv_iload_n C.x C.b d_MD_mix_74 rfl (lv_at hl 1 rfl) ?_
              refine lv_bipush (v := nI 18) C.x C.b d_MD_mix_75 (by decide) ?_
              refine k_callS (As := [.int (g ((n + 16) - 15)), .int (nI 18)]) (rest := [.int (rr (g ((n + 16) - 15)) 7), .int (g ((n + 16) - 16)), .int (nI (n + 16)), .ref aW]) (wc := []) (wr := [(h, ob 1 [.int th, .ref an, .ref ak, .int lt, .int se, .ref au, .int zs, .ref ap, .int mn, .ref aw, .int cz, .ref ac, .int ln, .int ft, .int gz, .ref ag, .ref ax, .ref ao, .ref al, .ref av, .ref ae, .ref ar, .ref ad, .ref aW, .ref aS, .ref aN, .ref aR, .ref aG]), (aW, aI d 64 g), (aS, aI d 8 fS), (aN, aI d 8 gN), (aR, aI d 64 fR)]) C (c_MD_turn l d (g ((n + 16) - 15)) 18 (by decide)) mw_MD_turn m_789 hP hD hS [] [0, 1, 2, 3, 4] rfl rfl (by decide) (by decide) (by decide) rfl hl.1 (Nat.le_of_ble_eq_true rfl) d_MD_mix_77 ⟨Nat.le_of_ble_eq_true rfl, Nat.le_of_ble_eq_true rfl⟩ ⟨by decide, by decide⟩ (fun _ H locs hw_11 hP hD hS => ?_)
              have hP : va_P d.1 clz [(h, ob 1 [.int th, .ref an, .ref ak, .int lt, .int se, .ref au, .int zs, .ref ap, .int mn, .ref aw, .int cz, .ref ac, .int ln, .int ft, .int gz, .ref ag, .ref ax, .ref ao, .ref al, .ref av, .ref ae, .ref ar, .ref ad, .ref aW, .ref aS, .ref aN, .ref aR, .ref aG]), (aW, aI d 64 g), (aS, aI d 8 fS), (aN, aI d 8 gN), (aR, aI d 64 fR)] H := hP
              have hD : va_D A [(h, ob 1 [.int th, .ref an, .ref ak, .int lt, .int se, .ref au, .int zs, .ref ap, .int mn, .ref aw, .int cz, .ref ac, .int ln, .int ft, .int gz, .ref ag, .ref ax, .ref ao, .ref al, .ref av, .ref ae, .ref ar, .ref ad, .ref aW, .ref aS, .ref aN, .ref aR, .ref aG]), (aW, aI d 64 g), (aS, aI d 8 fS), (aN, aI d 8 gN), (aR, aI d 64 fR)] := hD
              refine W.eq (g2 := F0 m 80 ls [.int (rr (g ((n + 16) - 15)) 18), .int (rr (g ((n + 16) - 15)) 7), .int (g ((n + 16) - 16)), .int (nI (n + 16)), .ref aW]) rfl ?_
              refine lv_ixor C.x C.b d_MD_mix_80 ?_
              refine lv_iload_n C.x C.b d_MD_mix_81 rfl (lv_at hl 1 rfl) ?_
              refine lv_iconst (v := nI 3) C.x C.b d_MD_mix_82 (by decide) ?_
              refine lv_iushr (v := ((g ((n + 16) - 15)).toUInt32 >>> ((nI 3).toUInt32 &&& Int32.toUInt32 31)).toInt32) C.x C.b d_MD_mix_83 rfl ?_
              refine lv_ixor C.x C.b d_MD_mix_84 ?_
              refine lv_iadd C.x C.b d_MD_mix_85 ?_
              refine lv_aload_n C.x C.b d_MD_mix_86 rfl (lv_at hl 2 rfl) ?_
              refine k_get C hP 0 rfl rfl i_MD 23 (by decide) m_675 rfl d_MD_mix_87 ?_
              refine lv_iload_n C.x C.b d_MD_mix_90 rfl (lv_at hl 3 rfl) ?_
              refine lv_bipush (v := nI 7) C.x C.b d_MD_mix_91 (by decide) ?_
              refine lv_isub C.x C.b d_MD_mix_93 ?_
              refine k_top (y := nI ((n + 16) - 7)) (pk_sub (by omega)) ?_
              refine k_iald C hP 1 rfl (j := ((n + 16) - 7)) (by omega) (by omega) d_MD_mix_94 ?_
              refine lv_iadd C.x C.b d_MD_mix_95 ?_
              refine lv_iload_n C.x C.b d_MD_mix_96 rfl (lv_at hl 0 rfl) ?_
              refine lv_bipush (v := nI 17) C.x C.b d_MD_mix_97 (by decide) ?_
              refine k_callS (As := [.int (g ((n + 16) - 2)), .int (nI 17)]) (rest := [.int (((g ((n + 16) - 16)) + (((rr (g ((n + 16) - 15)) 7) ^^^ (rr (g ((n + 16) - 15)) 18)) ^^^ (((g ((n + 16) - 15)).toUInt32 >>> ((nI 3).toUInt32 &&& Int32.toUInt32 31)).toInt32))) + (g ((n + 16) - 7))), .int (nI (n + 16)), .ref aW]) (wc := []) (wr := [(h, ob 1 [.int th, .ref an, .ref ak, .int lt, .int se, .ref au, .int zs, .ref ap, .int mn, .ref aw, .int cz, .ref ac, .int ln, .int ft, .int gz, .ref ag, .ref ax, .ref ao, .ref al, .ref av, .ref ae, .ref ar, .ref ad, .ref aW, .ref aS, .ref aN, .ref aR, .ref aG]), (aW, aI d 64 g), (aS, aI d 8 fS), (aN, aI d 8 gN), (aR, aI d 64 fR)]) C (c_MD_turn l d (g ((n + 16) - 2)) 17 (by decide)) mw_MD_turn m_789 hP hD hS [] [0, 1, 2, 3, 4] rfl rfl (by decide) (by decide) (by decide) rfl hl.1 (Nat.le_of_ble_eq_true rfl) d_MD_mix_99 ⟨Nat.le_of_ble_eq_true rfl, Nat.le_of_ble_eq_true rfl⟩ ⟨by decide, by decide⟩ (fun _ H locs hw_12 hP hD hS => ?_)
              have hP : va_P d.1 clz [(h, ob 1 [.int th, .ref an, .ref ak, .int lt, .int se, .ref au, .int zs, .ref ap, .int mn, .ref aw, .int cz, .ref ac, .int ln, .int ft, .int gz, .ref ag, .ref ax, .ref ao, .ref al, .ref av, .ref ae, .ref ar, .ref ad, .ref aW, .ref aS, .ref aN, .ref aR, .ref aG]), (aW, aI d 64 g), (aS, aI d 8 fS), (aN, aI d 8 gN), (aR, aI d 64 fR)] H := hP
              have hD : va_D A [(h, ob 1 [.int th, .ref an, .ref ak, .int lt, .int se, .ref au, .int zs, .ref ap, .int mn, .ref aw, .int cz, .ref ac, .int ln, .int ft, .int gz, .ref ag, .ref ax, .ref ao, .ref al, .ref av, .ref ae, .ref ar, .ref ad, .ref aW, .ref aS, .ref aN, .ref aR, .ref aG]), (aW, aI d 64 g), (aS, aI d 8 fS), (aN, aI d 8 gN), (aR, aI d 64 fR)] := hD
              refine W.eq (g2 := F0 m 102 ls [.int (rr (g ((n + 16) - 2)) 17), .int (((g ((n + 16) - 16)) + (((rr (g ((n + 16) - 15)) 7) ^^^ (rr (g ((n + 16) - 15)) 18)) ^^^ (((g ((n + 16) - 15)).toUInt32 >>> ((nI 3).toUInt32 &&& Int32.toUInt32 31)).toInt32))) + (g ((n + 16) - 7))), .int (nI (n + 16)), .ref aW]) rfl ?_
              refine lv_iload_n C.x C.b d_MD_mix_102 rfl (lv_at hl 0 rfl) ?_
              refine lv_bipush (v := nI 19) C.x C.b d_MD_mix_103 (by decide) ?_
              refine k_callS (As := [.int (g ((n + 16) - 2)), .int (nI 19)]) (rest := [.int (rr (g ((n + 16) - 2)) 17), .int (((g ((n + 16) - 16)) + (((rr (g ((n + 16) - 15)) 7) ^^^ (rr (g ((n + 16) - 15)) 18)) ^^^ (((g ((n + 16) - 15)).toUInt32 >>> ((nI 3).toUInt32 &&& Int32.toUInt32 31)).toInt32))) + (g ((n + 16) - 7))), .int (nI (n + 16)), .ref aW]) (wc := []) (wr := [(h, ob 1 [.int th, .ref an, .ref ak, .int lt, .int se, .ref au, .int zs, .ref ap, .int mn, .ref aw, .int cz, .ref ac, .int ln, .int ft, .int gz, .ref ag, .ref ax, .ref ao, .ref al, .ref av, .ref ae, .ref ar, .ref ad, .ref aW, .ref aS, .ref aN, .ref aR, .ref aG]), (aW, aI d 64 g), (aS, aI d 8 fS), (aN, aI d 8 gN), (aR, aI d 64 fR)]) C (c_MD_turn l d (g ((n + 16) - 2)) 19 (by decide)) mw_MD_turn m_789 hP hD hS [] [0, 1, 2, 3, 4] rfl rfl (by decide) (by decide) (by decide) rfl hl.1 (Nat.le_of_ble_eq_true rfl) d_MD_mix_105 ⟨Nat.le_of_ble_eq_true rfl, Nat.le_of_ble_eq_true rfl⟩ ⟨by decide, by decide⟩ (fun _ H locs hw_13 hP hD hS => ?_)
              have hP : va_P d.1 clz [(h, ob 1 [.int th, .ref an, .ref ak, .int lt, .int se, .ref au, .int zs, .ref ap, .int mn, .ref aw, .int cz, .ref ac, .int ln, .int ft, .int gz, .ref ag, .ref ax, .ref ao, .ref al, .ref av, .ref ae, .ref ar, .ref ad, .ref aW, .ref aS, .ref aN, .ref aR, .ref aG]), (aW, aI d 64 g), (aS, aI d 8 fS), (aN, aI d 8 gN), (aR, aI d 64 fR)] H := hP
              have hD : va_D A [(h, ob 1 [.int th, .ref an, .ref ak, .int lt, .int se, .ref au, .int zs, .ref ap, .int mn, .ref aw, .int cz, .ref ac, .int ln, .int ft, .int gz, .ref ag, .ref ax, .ref ao, .ref al, .ref av, .ref ae, .ref ar, .ref ad, .ref aW, .ref aS, .ref aN, .ref aR, .ref aG]), (aW, aI d 64 g), (aS, aI d 8 fS), (aN, aI d 8 gN), (aR, aI d 64 fR)] := hD
              refine W.eq (g2 := F0 m 108 ls [.int (rr (g ((n + 16) - 2)) 19), .int (rr (g ((n + 16) - 2)) 17), .int (((g ((n + 16) - 16)) + (((rr (g ((n + 16) - 15)) 7) ^^^ (rr (g ((n + 16) - 15)) 18)) ^^^ (((g ((n + 16) - 15)).toUInt32 >>> ((nI 3).toUInt32 &&& Int32.toUInt32 31)).toInt32))) + (g ((n + 16) - 7))), .int (nI (n + 16)), .ref aW]) rfl ?_
              refine lv_ixor C.x C.b d_MD_mix_108 ?_
              refine lv_iload_n C.x C.b d_MD_mix_109 rfl (lv_at hl 0 rfl) ?_
              refine lv_bipush (v := nI 10) C.x C.b d_MD_mix_110 (by decide) ?_
              refine lv_iushr (v := ((g ((n + 16) - 2)).toUInt32 >>> ((nI 10).toUInt32 &&& Int32.toUInt32 31)).toInt32) C.x C.b d_MD_mix_112 rfl ?_
              refine lv_ixor C.x C.b d_MD_mix_113 ?_
              refine lv_iadd C.x C.b d_MD_mix_114 ?_
              refine k_iast C hP hD hS 1 rfl (j := (n + 16)) (by omega) (by omega) d_MD_mix_115 (fun H locs hP hD hS => ?_)
              have hP : va_P d.1 clz [(h, ob 1 [.int th, .ref an, .ref ak, .int lt, .int se, .ref au, .int zs, .ref ap, .int mn, .ref aw, .int cz, .ref ac, .int ln, .int ft, .int gz, .ref ag, .ref ax, .ref ao, .ref al, .ref av, .ref ae, .ref ar, .ref ad, .ref aW, .ref aS, .ref aN, .ref aR, .ref aG]), (aW, aI d 64 (upd g (n + 16) ((((g ((n + 16) - 16)) + (((rr (g ((n + 16) - 15)) 7) ^^^ (rr (g ((n + 16) - 15)) 18)) ^^^ (((g ((n + 16) - 15)).toUInt32 >>> ((nI 3).toUInt32 &&& Int32.toUInt32 31)).toInt32))) + (g ((n + 16) - 7))) + (((rr (g ((n + 16) - 2)) 17) ^^^ (rr (g ((n + 16) - 2)) 19)) ^^^ (((g ((n + 16) - 2)).toUInt32 >>> ((nI 10).toUInt32 &&& Int32.toUInt32 31)).toInt32))))), (aS, aI d 8 fS), (aN, aI d 8 gN), (aR, aI d 64 fR)] H := hP
              have hD : va_D A [(h, ob 1 [.int th, .ref an, .ref ak, .int lt, .int se, .ref au, .int zs, .ref ap, .int mn, .ref aw, .int cz, .ref ac, .int ln, .int ft, .int gz, .ref ag, .ref ax, .ref ao, .ref al, .ref av, .ref ae, .ref ar, .ref ad, .ref aW, .ref aS, .ref aN, .ref aR, .ref aG]), (aW, aI d 64 (upd g (n + 16) ((((g ((n + 16) - 16)) + (((rr (g ((n + 16) - 15)) 7) ^^^ (rr (g ((n + 16) - 15)) 18)) ^^^ (((g ((n + 16) - 15)).toUInt32 >>> ((nI 3).toUInt32 &&& Int32.toUInt32 31)).toInt32))) + (g ((n + 16) - 7))) + (((rr (g ((n + 16) - 2)) 17) ^^^ (rr (g ((n + 16) - 2)) 19)) ^^^ (((g ((n + 16) - 2)).toUInt32 >>> ((nI 10).toUInt32 &&& Int32.toUInt32 31)).toInt32))))), (aS, aI d 8 fS), (aN, aI d 8 gN), (aR, aI d 64 fR)] := hD
              refine lv_iinc (v := nI (n + 16 + 1)) (lv' := [(1, .int (nI (n + 16 + 1))), (3, .int (g ((n + 16) - 2))), (2, .int (g ((n + 16) - 15))), (0, .ref h)]) C.x C.b d_MD_mix_116 hl (k := 3) rfl (k_inc _ 1) (by decide) rfl (fun ls hl => ?_)
              refine lv_goto (tgt := 29) C.x C.b d_MD_mix_119 (by decide) ?_
              exact ih29 (n + 1) (upd g (n + 16) ((((g ((n + 16) - 16)) + (((rr (g ((n + 16) - 15)) 7) ^^^ (rr (g ((n + 16) - 15)) 18)) ^^^ (((g ((n + 16) - 15)).toUInt32 >>> ((nI 3).toUInt32 &&& Int32.toUInt32 31)).toInt32))) + (g ((n + 16) - 7))) + (((rr (g ((n + 16) - 2)) 17) ^^^ (rr (g ((n + 16) - 2)) 19)) ^^^ (((g ((n + 16) - 2)).toUInt32 >>> ((nI 10).toUInt32 &&& Int32.toUInt32 31)).toInt32)))) (by omega) (by omega) (wexp_new hg) _ _ _ (hP.sub [0, 1, 2, 3, 4] (rfl)) (hD.sub [0, 1, 2, 3, 4] (by decide) (rfl)) hS (lv_sub hl [3, 0] (by rw [Nat.add_right_comm]; rfl))
        exact L29 ((48 - 0) + 1) 0 fW (Nat.lt_succ_self _) (by omega) (fun _ _ => rfl) _ _ _ (hP.sub [0, 1, 2, 3, 4] (rfl)) (hD.sub [0, 1, 2, 3, 4] (by decide) (rfl)) hS (lv_sub hl [1, 0] (rfl))
      · rw [nI_leI (by omega) (by omega)] at hc5
        refine lv_aload_n C.x C.b d_MD_mix_8 rfl (lv_at hl 0 rfl) ?_
        refine k_get C hP 0 rfl rfl i_MD 25 (by decide) m_677 rfl d_MD_mix_9 ?_
        refine lv_iload_n C.x C.b d_MD_mix_12 rfl (lv_at hl 1 rfl) ?_
        refine lv_aload_n C.x C.b d_MD_mix_13 rfl (lv_at hl 0 rfl) ?_
        refine k_get C hP 0 rfl rfl i_MD 24 (by decide) m_676 rfl d_MD_mix_14 ?_
        refine lv_iload_n C.x C.b d_MD_mix_17 rfl (lv_at hl 1 rfl) ?_
        refine k_iald C hP 2 rfl (j := j) (by omega) (by omega) d_MD_mix_18 ?_
        refine k_iast C hP hD hS 3 rfl (j := j) (by omega) (by omega) d_MD_mix_19 (fun H locs hP hD hS => ?_)
        have hP : va_P d.1 clz [(h, ob 1 [.int th, .ref an, .ref ak, .int lt, .int se, .ref au, .int zs, .ref ap, .int mn, .ref aw, .int cz, .ref ac, .int ln, .int ft, .int gz, .ref ag, .ref ax, .ref ao, .ref al, .ref av, .ref ae, .ref ar, .ref ad, .ref aW, .ref aS, .ref aN, .ref aR, .ref aG]), (aW, aI d 64 fW), (aS, aI d 8 fS), (aN, aI d 8 (upd gN j (fS j))), (aR, aI d 64 fR)] H := hP
        have hD : va_D A [(h, ob 1 [.int th, .ref an, .ref ak, .int lt, .int se, .ref au, .int zs, .ref ap, .int mn, .ref aw, .int cz, .ref ac, .int ln, .int ft, .int gz, .ref ag, .ref ax, .ref ao, .ref al, .ref av, .ref ae, .ref ar, .ref ad, .ref aW, .ref aS, .ref aN, .ref aR, .ref aG]), (aW, aI d 64 fW), (aS, aI d 8 fS), (aN, aI d 8 (upd gN j (fS j))), (aR, aI d 64 fR)] := hD
        refine lv_iinc (v := nI (j + 1)) (lv' := [(1, .int (nI (j + 1))), (0, .ref h)]) C.x C.b d_MD_mix_20 hl (k := 1) rfl (k_inc _ 1) (by decide) rfl (fun ls hl => ?_)
        refine lv_goto (tgt := 2) C.x C.b d_MD_mix_23 (by decide) ?_
        exact ih2 (j + 1) (upd gN j (fS j)) (by omega) (by omega) (upd_le (g := gN) hgN rfl) _ _ _ (hP.sub [0, 1, 2, 3, 4] (rfl)) (hD.sub [0, 1, 2, 3, 4] (by decide) (rfl)) hS (lv_sub hl [1, 0] (rfl))
  exact L2 ((8 - 0) + 1) 0 fN (Nat.lt_succ_self _) (by omega) (fun i hi => absurd hi (Nat.not_lt_zero _)) _ _ _ (hP.sub [0, 1, 2, 3, 4] (rfl)) (hD.sub [0, 1, 2, 3, 4] (by decide) (rfl)) hS (lv_sub hl [1, 0] (rfl))
theorem mw_MD_reckon : Mw y_MD_reckon b_MD_reckon 6 none 1 := ⟨m_784, m_9, m_783, by decide +kernel⟩
set_option maxHeartbeats 4000000 in
set_option maxRecDepth 100000 in
theorem c_MD_reckon (l : Launch) (d : DD) (h : Nat) (an : Nat) (ak : Nat) (au : Nat) (ap : Nat) (aw : Nat) (ac : Nat) (ag : Nat) (ax : Nat) (ao : Nat) (al : Nat) (av : Nat) (ae : Nat) (ar : Nat) (ad : Nat) (aW : Nat) (aS : Nat) (aN : Nat) (aR : Nat) (aG : Nat) (th : Int32) (lt : Int32) (se : Int32) (zs : Int32) (mn : Int32) (cz : Int32) (ln : Int32) (ft : Int32) (gz : Int32) (fr9 : Nat → Int32) (fd : Nat → Int32) (fW : Nat → Int32) (fS : Nat → Int32) (fN : Nat → Int32) (fR : Nat → Int32) (fG : Nat → Int32) (nn : Nat) (L : List Int32) (hR : ∀ t, t < 64 → fR t = dgr t) (hG : ∀ j, j < 8 → fG j = dgs j) (hL : BA fr9 L) (hnn : L.length = nn) (hn6 : nn ≤ 631) : Ct l y_MD_reckon b_MD_reckon 6 none 2 47 0 0 d [(h, ob 1 [.int th, .ref an, .ref ak, .int lt, .int se, .ref au, .int zs, .ref ap, .int mn, .ref aw, .int cz, .ref ac, .int ln, .int ft, .int gz, .ref ag, .ref ax, .ref ao, .ref al, .ref av, .ref ae, .ref ar, .ref ad, .ref aW, .ref aS, .ref aN, .ref aR, .ref aG]), (ar, aB d 800 fr9), (ad, aB d 32 fd), (aW, aI d 64 fW), (aS, aI d 8 fS), (aN, aI d 8 fN), (aR, aI d 64 fR), (aG, aI d 8 fG)] [.ref h, .int (nI nn)] (fun (u : (Nat → Int32) × (Nat → Int32) × (Nat → Int32) × (Nat → Int32) × (Nat → Int32)) => match u with | (r2, d2, W2, S2, N2) => none) (fun (u : (Nat → Int32) × (Nat → Int32) × (Nat → Int32) × (Nat → Int32) × (Nat → Int32)) => match u with | (r2, d2, W2, S2, N2) => BA d2 (slb (dig L) 32)) (fun (u : (Nat → Int32) × (Nat → Int32) × (Nat → Int32) × (Nat → Int32) × (Nat → Int32)) => match u with | (r2, d2, W2, S2, N2) => [(h, ob 1 [.int th, .ref an, .ref ak, .int lt, .int se, .ref au, .int zs, .ref ap, .int mn, .ref aw, .int cz, .ref ac, .int ln, .int ft, .int gz, .ref ag, .ref ax, .ref ao, .ref al, .ref av, .ref ae, .ref ar, .ref ad, .ref aW, .ref aS, .ref aN, .ref aR, .ref aG]), (ar, aB d 800 r2), (ad, aB d 32 d2), (aW, aI d 64 W2), (aS, aI d 8 S2), (aN, aI d 8 N2), (aR, aI d 64 fR), (aG, aI d 8 fG)]) := by
  refine Ct.of (by decide +kernel) (Nat.le_of_ble_eq_true rfl) ?_
  intro p e s m below meth c A ls C hP hD hS hl
  have hl : lv_has ls 6 [(0, .ref h), (1, .int (nI nn))] := hl
  have hsz9 := hS.1
  obtain ⟨rows, hrw⟩ := zer_div nn
  have hz9 := zer_le nn
  have hpl : (pad L).length = nn + 9 + zer nn := by rw [pad_len, hnn]
  have hpb := isb_pad hL.2
  have hz6 := zer_640 hn6
  refine lv_iconst (v := nI 0) C.x C.b d_MD_reckon_0 (by decide) ?_
  refine lv_istore_n (lv' := [(2, .int (nI 0)), (0, .ref h), (1, .int (nI nn))]) C.x C.b d_MD_reckon_1 rfl hl (by decide) rfl (fun ls hl => ?_)
  have L2 : ∀ (fuel : Nat) (j : Nat) (g : Nat → Int32), 8 - j < fuel → (j ≤ 8) → (∀ i, i < j → g i = dgs i) → ∀ (H : Heap) (locs : List Loc) (ls : Array Slot), va_P d.1 clz [(h, ob 1 [.int th, .ref an, .ref ak, .int lt, .int se, .ref au, .int zs, .ref ap, .int mn, .ref aw, .int cz, .ref ac, .int ln, .int ft, .int gz, .ref ag, .ref ax, .ref ao, .ref al, .ref av, .ref ae, .ref ar, .ref ad, .ref aW, .ref aS, .ref aN, .ref aR, .ref aG]), (ar, aB d 800 fr9), (ad, aB d 32 fd), (aW, aI d 64 fW), (aS, aI d 8 g), (aN, aI d 8 fN), (aR, aI d 64 fR), (aG, aI d 8 fG)] H → va_D A [(h, ob 1 [.int th, .ref an, .ref ak, .int lt, .int se, .ref au, .int zs, .ref ap, .int mn, .ref aw, .int cz, .ref ac, .int ln, .int ft, .int gz, .ref ag, .ref ax, .ref ao, .ref al, .ref av, .ref ae, .ref ar, .ref ad, .ref aW, .ref aS, .ref aN, .ref aR, .ref aG]), (ar, aB d 800 fr9), (ad, aB d 32 fd), (aW, aI d 64 fW), (aS, aI d 8 g), (aN, aI d 8 fN), (aR, aI d 64 fR), (aG, aI d 8 fG)] → va_S A s.heap H locs → lv_has ls 6 [(0, .ref h), (1, .int (nI nn)), (2, .int (nI j))] → W p l e (Rm 2 47 0 0) s m ([.ref h, .int (nI nn)] : List Value).toArray below meth c H locs 0 0 (MQ below (Cout d A (fun (u : (Nat → Int32) × (Nat → Int32) × (Nat → Int32) × (Nat → Int32) × (Nat → Int32)) => match u with | (r2, d2, W2, S2, N2) => none) (fun (u : (Nat → Int32) × (Nat → Int32) × (Nat → Int32) × (Nat → Int32) × (Nat → Int32)) => match u with | (r2, d2, W2, S2, N2) => BA d2 (slb (dig L) 32)) (fun (u : (Nat → Int32) × (Nat → Int32) × (Nat → Int32) × (Nat → Int32) × (Nat → Int32)) => match u with | (r2, d2, W2, S2, N2) => [(h, ob 1 [.int th, .ref an, .ref ak, .int lt, .int se, .ref au, .int zs, .ref ap, .int mn, .ref aw, .int cz, .ref ac, .int ln, .int ft, .int gz, .ref ag, .ref ax, .ref ao, .ref al, .ref av, .ref ae, .ref ar, .ref ad, .ref aW, .ref aS, .ref aN, .ref aR, .ref aG]), (ar, aB d 800 r2), (ad, aB d 32 d2), (aW, aI d 64 W2), (aS, aI d 8 S2), (aN, aI d 8 N2), (aR, aI d 64 fR), (aG, aI d 8 fG)])) ([.ref h, .int (nI nn)] : List Value).toArray s 0 0 A) (F0 m 2 ls []) := by
    intro fuel
    induction fuel with
    | zero => intro j g h9; exact absurd h9 (Nat.not_lt_zero _)
    | succ fuel ih2 =>
      intro j g hfu2 hj hg H locs ls hP hD hS hl
      refine lv_iload_n C.x C.b d_MD_reckon_2 rfl (lv_at hl 2 rfl) ?_
      refine lv_bipush (v := nI 8) C.x C.b d_MD_reckon_3 (by decide) ?_
      refine lv_icmp_ge (tgt := 26) C.x C.b d_MD_reckon_5 (by decide) (fun hc5 => ?_) (fun hc5 => ?_)
      · rw [nI_leI (by omega) (by omega)] at hc5
        refine lv_iload_n C.x C.b d_MD_reckon_26 rfl (lv_at hl 1 rfl) ?_
        refine lv_bipush (v := nI 9) C.x C.b d_MD_reckon_27 (by decide) ?_
        refine lv_iadd C.x C.b d_MD_reckon_29 ?_
        refine k_top (y := nI (nn + 9)) (nI_add _ _) ?_
        refine lv_bipush (v := nI 63) C.x C.b d_MD_reckon_30 (by decide) ?_
        refine lv_iadd C.x C.b d_MD_reckon_32 ?_
        refine k_top (y := nI (nn + 9 + 63)) (nI_add _ _) ?_
        refine lv_bipush (v := nI 64) C.x C.b d_MD_reckon_33 (by decide) ?_
        refine lv_idiv C.x C.b d_MD_reckon_35 (by decide) ?_
        refine k_top (y := nI ((nn + 9 + 63) / 64)) (pk_div (by omega) (by omega) (by omega)) ?_
        refine lv_bipush (v := nI 64) C.x C.b d_MD_reckon_36 (by decide) ?_
        refine lv_imul C.x C.b d_MD_reckon_38 ?_
        refine k_top (y := nI (((nn + 9 + 63) / 64) * 64)) (pk_mul _ _) ?_
        refine k_top (y := nI (nn + 9 + zer nn)) (by rw [all_eq]) ?_
        refine lv_istore_n (lv' := [(2, .int (nI (nn + 9 + zer nn))), (0, .ref h), (1, .int (nI nn))]) C.x C.b d_MD_reckon_39 rfl hl (by decide) rfl (fun ls hl => ?_)
        refine lv_iload_n C.x C.b d_MD_reckon_40 rfl (lv_at hl 2 rfl) ?_
        refine lv_istore_n (lv' := [(3, .int (nI nn)), (2, .int (nI (nn + 9 + zer nn))), (0, .ref h), (1, .int (nI nn))]) C.x C.b d_MD_reckon_41 rfl hl (by decide) rfl (fun ls hl => ?_)
        have L42 : ∀ (fuel : Nat) (k9 : Nat) (gr : Nat → Int32), nn + 9 + zer nn - k9 < fuel → (nn ≤ k9) → (k9 ≤ nn + 9 + zer nn) → (∀ i, i < k9 → gr i = ((pad L).getD i 0).toInt8.toInt32) → ∀ (H : Heap) (locs : List Loc) (ls : Array Slot), va_P d.1 clz [(h, ob 1 [.int th, .ref an, .ref ak, .int lt, .int se, .ref au, .int zs, .ref ap, .int mn, .ref aw, .int cz, .ref ac, .int ln, .int ft, .int gz, .ref ag, .ref ax, .ref ao, .ref al, .ref av, .ref ae, .ref ar, .ref ad, .ref aW, .ref aS, .ref aN, .ref aR, .ref aG]), (ar, aB d 800 gr), (ad, aB d 32 fd), (aW, aI d 64 fW), (aS, aI d 8 g), (aN, aI d 8 fN), (aR, aI d 64 fR), (aG, aI d 8 fG)] H → va_D A [(h, ob 1 [.int th, .ref an, .ref ak, .int lt, .int se, .ref au, .int zs, .ref ap, .int mn, .ref aw, .int cz, .ref ac, .int ln, .int ft, .int gz, .ref ag, .ref ax, .ref ao, .ref al, .ref av, .ref ae, .ref ar, .ref ad, .ref aW, .ref aS, .ref aN, .ref aR, .ref aG]), (ar, aB d 800 gr), (ad, aB d 32 fd), (aW, aI d 64 fW), (aS, aI d 8 g), (aN, aI d 8 fN), (aR, aI d 64 fR), (aG, aI d 8 fG)] → va_S A s.heap H locs → lv_has ls 6 [(0, .ref h), (1, .int (nI nn)), (2, .int (nI (nn + 9 + zer nn))), (3, .int (nI k9))] → W p l e (Rm 2 47 0 0) s m ([.ref h, .int (nI nn)] : List Value).toArray below meth c H locs 0 0 (MQ below (Cout d A (fun (u : (Nat → Int32) × (Nat → Int32) × (Nat → Int32) × (Nat → Int32) × (Nat → Int32)) => match u with | (r2, d2, W2, S2, N2) => none) (fun (u : (Nat → Int32) × (Nat → Int32) × (Nat → Int32) × (Nat → Int32) × (Nat → Int32)) => match u with | (r2, d2, W2, S2, N2) => BA d2 (slb (dig L) 32)) (fun (u : (Nat → Int32) × (Nat → Int32) × (Nat → Int32) × (Nat → Int32) × (Nat → Int32)) => match u with | (r2, d2, W2, S2, N2) => [(h, ob 1 [.int th, .ref an, .ref ak, .int lt, .int se, .ref au, .int zs, .ref ap, .int mn, .ref aw, .int cz, .ref ac, .int ln, .int ft, .int gz, .ref ag, .ref ax, .ref ao, .ref al, .ref av, .ref ae, .ref ar, .ref ad, .ref aW, .ref aS, .ref aN, .ref aR, .ref aG]), (ar, aB d 800 r2), (ad, aB d 32 d2), (aW, aI d 64 W2), (aS, aI d 8 S2), (aN, aI d 8 N2), (aR, aI d 64 fR), (aG, aI d 8 fG)])) ([.ref h, .int (nI nn)] : List Value).toArray s 0 0 A) (F0 m 42 ls []) := by
          intro fuel
          induction fuel with
          | zero => intro k9 gr h9; exact absurd h9 (Nat.not_lt_zero _)
          | succ fuel ih42 =>
            intro k9 gr hfu42 hk1 hk2 hgr H locs ls hP hD hS hl
            refine lv_iload_n C.x C.b d_MD_reckon_42 rfl (lv_at hl 3 rfl) ?_
            refine lv_iload_n C.x C.b d_MD_reckon_43 rfl (lv_at hl 2 rfl) ?_
            refine lv_icmp_ge (tgt := 95) C.x C.b d_MD_reckon_44 (by decide) (fun hc44 => ?_) (fun hc44 => ?_)
            · rw [nI_leI (by omega) (by omega)] at hc44
              refine lv_iconst (v := nI 0) C.x C.b d_MD_reckon_95 (by decide) ?_
              refine lv_istore_n (lv' := [(3, .int (nI 0)), (0, .ref h), (1, .int (nI nn)), (2, .int (nI (nn + 9 + zer nn)))]) C.x C.b d_MD_reckon_96 rfl hl (by decide) rfl (fun ls hl => ?_)
              have L97 : ∀ (fuel : Nat) (r : Nat) (s9 : Nat → Int32) (w9 : Nat → Int32) (N9 : Nat → Int32), rows + 1 - r < fuel → (r ≤ rows + 1) → (∀ j, j < 8 → s9 j = hrows (pad L) r j) → ∀ (H : Heap) (locs : List Loc) (ls : Array Slot), va_P d.1 clz [(h, ob 1 [.int th, .ref an, .ref ak, .int lt, .int se, .ref au, .int zs, .ref ap, .int mn, .ref aw, .int cz, .ref ac, .int ln, .int ft, .int gz, .ref ag, .ref ax, .ref ao, .ref al, .ref av, .ref ae, .ref ar, .ref ad, .ref aW, .ref aS, .ref aN, .ref aR, .ref aG]), (ar, aB d 800 gr), (ad, aB d 32 fd), (aW, aI d 64 w9), (aS, aI d 8 s9), (aN, aI d 8 N9), (aR, aI d 64 fR), (aG, aI d 8 fG)] H → va_D A [(h, ob 1 [.int th, .ref an, .ref ak, .int lt, .int se, .ref au, .int zs, .ref ap, .int mn, .ref aw, .int cz, .ref ac, .int ln, .int ft, .int gz, .ref ag, .ref ax, .ref ao, .ref al, .ref av, .ref ae, .ref ar, .ref ad, .ref aW, .ref aS, .ref aN, .ref aR, .ref aG]), (ar, aB d 800 gr), (ad, aB d 32 fd), (aW, aI d 64 w9), (aS, aI d 8 s9), (aN, aI d 8 N9), (aR, aI d 64 fR), (aG, aI d 8 fG)] → va_S A s.heap H locs → lv_has ls 6 [(0, .ref h), (1, .int (nI nn)), (2, .int (nI (nn + 9 + zer nn))), (3, .int (nI (64 * r)))] → W p l e (Rm 2 47 0 0) s m ([.ref h, .int (nI nn)] : List Value).toArray below meth c H locs 0 0 (MQ below (Cout d A (fun (u : (Nat → Int32) × (Nat → Int32) × (Nat → Int32) × (Nat → Int32) × (Nat → Int32)) => match u with | (r2, d2, W2, S2, N2) => none) (fun (u : (Nat → Int32) × (Nat → Int32) × (Nat → Int32) × (Nat → Int32) × (Nat → Int32)) => match u with | (r2, d2, W2, S2, N2) => BA d2 (slb (dig L) 32)) (fun (u : (Nat → Int32) × (Nat → Int32) × (Nat → Int32) × (Nat → Int32) × (Nat → Int32)) => match u with | (r2, d2, W2, S2, N2) => [(h, ob 1 [.int th, .ref an, .ref ak, .int lt, .int se, .ref au, .int zs, .ref ap, .int mn, .ref aw, .int cz, .ref ac, .int ln, .int ft, .int gz, .ref ag, .ref ax, .ref ao, .ref al, .ref av, .ref ae, .ref ar, .ref ad, .ref aW, .ref aS, .ref aN, .ref aR, .ref aG]), (ar, aB d 800 r2), (ad, aB d 32 d2), (aW, aI d 64 W2), (aS, aI d 8 S2), (aN, aI d 8 N2), (aR, aI d 64 fR), (aG, aI d 8 fG)])) ([.ref h, .int (nI nn)] : List Value).toArray s 0 0 A) (F0 m 97 ls []) := by
                intro fuel
                induction fuel with
                | zero => intro r s9 w9 N9 h9; exact absurd h9 (Nat.not_lt_zero _)
                | succ fuel ih97 =>
                  intro r s9 w9 N9 hfu97 hr hs H locs ls hP hD hS hl
                  have hrow : ∀ i, i < (pad L).length → gr i = ((pad L).getD i 0).toInt8.toInt32 := fun i hi => hgr i (by omega)
                  refine lv_iload_n C.x C.b d_MD_reckon_97 rfl (lv_at hl 3 rfl) ?_
                  refine lv_iload_n C.x C.b d_MD_reckon_98 rfl (lv_at hl 2 rfl) ?_
                  refine lv_icmp_ge (tgt := 187) C.x C.b d_MD_reckon_99 (by decide) (fun hc99 => ?_) (fun hc99 => ?_)
                  · rw [nI_leI (by omega) (by omega)] at hc99
                    refine lv_iconst (v := nI 0) C.x C.b d_MD_reckon_187 (by decide) ?_
                    refine lv_istore_n (lv' := [(3, .int (nI 0)), (0, .ref h), (1, .int (nI nn)), (2, .int (nI (nn + 9 + zer nn)))]) C.x C.b d_MD_reckon_188 rfl hl (by decide) rfl (fun ls hl => ?_)
                    have L189 : ∀ (fuel : Nat) (k8 : Nat) (gd : Nat → Int32), 32 - k8 < fuel → (k8 ≤ 32) → (∀ i, i < k8 → gd i = (byt (s9 (i / 4)) (i % 4)).toInt8.toInt32) → ∀ (H : Heap) (locs : List Loc) (ls : Array Slot), va_P d.1 clz [(h, ob 1 [.int th, .ref an, .ref ak, .int lt, .int se, .ref au, .int zs, .ref ap, .int mn, .ref aw, .int cz, .ref ac, .int ln, .int ft, .int gz, .ref ag, .ref ax, .ref ao, .ref al, .ref av, .ref ae, .ref ar, .ref ad, .ref aW, .ref aS, .ref aN, .ref aR, .ref aG]), (ar, aB d 800 gr), (ad, aB d 32 gd), (aW, aI d 64 w9), (aS, aI d 8 s9), (aN, aI d 8 N9), (aR, aI d 64 fR), (aG, aI d 8 fG)] H → va_D A [(h, ob 1 [.int th, .ref an, .ref ak, .int lt, .int se, .ref au, .int zs, .ref ap, .int mn, .ref aw, .int cz, .ref ac, .int ln, .int ft, .int gz, .ref ag, .ref ax, .ref ao, .ref al, .ref av, .ref ae, .ref ar, .ref ad, .ref aW, .ref aS, .ref aN, .ref aR, .ref aG]), (ar, aB d 800 gr), (ad, aB d 32 gd), (aW, aI d 64 w9), (aS, aI d 8 s9), (aN, aI d 8 N9), (aR, aI d 64 fR), (aG, aI d 8 fG)] → va_S A s.heap H locs → lv_has ls 6 [(0, .ref h), (3, .int (nI k8))] → W p l e (Rm 2 47 0 0) s m ([.ref h, .int (nI nn)] : List Value).toArray below meth c H locs 0 0 (MQ below (Cout d A (fun (u : (Nat → Int32) × (Nat → Int32) × (Nat → Int32) × (Nat → Int32) × (Nat → Int32)) => match u with | (r2, d2, W2, S2, N2) => none) (fun (u : (Nat → Int32) × (Nat → Int32) × (Nat → Int32) × (Nat → Int32) × (Nat → Int32)) => match u with | (r2, d2, W2, S2, N2) => BA d2 (slb (dig L) 32)) (fun (u : (Nat → Int32) × (Nat → Int32) × (Nat → Int32) × (Nat → Int32) × (Nat → Int32)) => match u with | (r2, d2, W2, S2, N2) => [(h, ob 1 [.int th, .ref an, .ref ak, .int lt, .int se, .ref au, .int zs, .ref ap, .int mn, .ref aw, .int cz, .ref ac, .int ln, .int ft, .int gz, .ref ag, .ref ax, .ref ao, .ref al, .ref av, .ref ae, .ref ar, .ref ad, .ref aW, .ref aS, .ref aN, .ref aR, .ref aG]), (ar, aB d 800 r2), (ad, aB d 32 d2), (aW, aI d 64 W2), (aS, aI d 8 S2), (aN, aI d 8 N2), (aR, aI d 64 fR), (aG, aI d 8 fG)])) ([.ref h, .int (nI nn)] : List Value).toArray s 0 0 A) (F0 m 189 ls []) := by
                      intro fuel
                      induction fuel with
                      | zero => intro k8 gd h9; exact absurd h9 (Nat.not_lt_zero _)
                      | succ fuel ih189 =>
                        intro k8 gd hfu189 hk8 hgd H locs ls hP hD hS hl
                        refine lv_iload_n C.x C.b d_MD_reckon_189 rfl (lv_at hl 1 rfl) ?_
                        refine lv_bipush (v := nI 32) C.x C.b d_MD_reckon_190 (by decide) ?_
                        refine lv_icmp_ge (tgt := 226) C.x C.b d_MD_reckon_192 (by decide) (fun hc192 => ?_) (fun hc192 => ?_)
                        · rw [nI_leI (by omega) (by omega)] at hc192
                          have hP9 := hP.sub (ws' := [(h, ob 1 [.int th, .ref an, .ref ak, .int lt, .int se, .ref au, .int zs, .ref ap, .int mn, .ref aw, .int cz, .ref ac, .int ln, .int ft, .int gz, .ref ag, .ref ax, .ref ao, .ref al, .ref av, .ref ae, .ref ar, .ref ad, .ref aW, .ref aS, .ref aN, .ref aR, .ref aG]), (ar, aB d 800 gr), (ad, aB d 32 gd), (aW, aI d 64 w9), (aS, aI d 8 s9), (aN, aI d 8 N9), (aR, aI d 64 fR), (aG, aI d 8 fG)]) [0, 1, 2, 3, 4, 5, 6, 7] rfl
                          have hD9 := hD.sub (ws' := [(h, ob 1 [.int th, .ref an, .ref ak, .int lt, .int se, .ref au, .int zs, .ref ap, .int mn, .ref aw, .int cz, .ref ac, .int ln, .int ft, .int gz, .ref ag, .ref ax, .ref ao, .ref al, .ref av, .ref ae, .ref ar, .ref ad, .ref aW, .ref aS, .ref aN, .ref aR, .ref aG]), (ar, aB d 800 gr), (ad, aB d 32 gd), (aW, aI d 64 w9), (aS, aI d 8 s9), (aN, aI d 8 N9), (aR, aI d 64 fR), (aG, aI d 8 fG)]) [0, 1, 2, 3, 4, 5, 6, 7] (by decide) rfl
                          exact k_vret C hS (gr, gd, w9, s9, N9) (rfl) (⟨fun i hi => by rw [slb_len] at hi; rw [hgd i (by omega), slb_get hi, hs _ (by omega)]; unfold dig; rw [hpl, show (nn + 9 + zer nn) / 64 = r from by omega], isb_slb⟩) hP9 hD9 d_MD_reckon_226
                        · rw [nI_leI (by omega) (by omega)] at hc192
                          refine lv_aload_n C.x C.b d_MD_reckon_195 rfl (lv_at hl 0 rfl) ?_
                          refine k_get C hP 0 rfl rfl i_MD 22 (by decide) m_674 rfl d_MD_reckon_196 ?_
                          refine lv_iload_n C.x C.b d_MD_reckon_199 rfl (lv_at hl 1 rfl) ?_
                          refine lv_aload_n C.x C.b d_MD_reckon_200 rfl (lv_at hl 0 rfl) ?_
                          refine k_get C hP 0 rfl rfl i_MD 24 (by decide) m_676 rfl d_MD_reckon_201 ?_
                          refine lv_iload_n C.x C.b d_MD_reckon_204 rfl (lv_at hl 1 rfl) ?_
                          refine lv_iconst (v := nI 4) C.x C.b d_MD_reckon_205 (by decide) ?_
                          refine lv_idiv C.x C.b d_MD_reckon_206 (by decide) ?_
                          refine k_top (y := nI (k8 / 4)) (pk_div (by omega) (by omega) (by omega)) ?_
                          refine k_iald C hP 4 rfl (j := (k8 / 4)) (by omega) (by omega) d_MD_reckon_207 ?_
                          refine lv_bipush (v := nI 24) C.x C.b d_MD_reckon_208 (by decide) ?_
                          refine lv_bipush (v := nI 8) C.x C.b d_MD_reckon_210 (by decide) ?_
                          refine lv_iload_n C.x C.b d_MD_reckon_212 rfl (lv_at hl 1 rfl) ?_
                          refine lv_iconst (v := nI 4) C.x C.b d_MD_reckon_213 (by decide) ?_
                          refine lv_irem C.x C.b d_MD_reckon_214 (by decide) ?_
                          refine k_top (y := nI (k8 % 4)) (pk_rem (by omega) (by omega) (by omega)) ?_
                          refine lv_imul C.x C.b d_MD_reckon_215 ?_
                          refine k_top (y := nI (8 * (k8 % 4))) (pk_mul _ _) ?_
                          refine lv_isub C.x C.b d_MD_reckon_216 ?_
                          refine k_top (y := nI (24 - (8 * (k8 % 4)))) (pk_sub (by omega)) ?_
                          refine lv_ishr C.x C.b d_MD_reckon_217 ?_
                          refine lv_i2b (v := ((s9 (k8 / 4)) >>> ((nI (24 - (8 * (k8 % 4)))) &&& 31)).toInt8.toInt32) C.x C.b d_MD_reckon_218 rfl ?_
                          refine k_bast C hP hD hS 2 rfl (j := k8) (by omega) (by omega) d_MD_reckon_219 (fun H locs hP hD hS => ?_)
                          have hP : va_P d.1 clz [(h, ob 1 [.int th, .ref an, .ref ak, .int lt, .int se, .ref au, .int zs, .ref ap, .int mn, .ref aw, .int cz, .ref ac, .int ln, .int ft, .int gz, .ref ag, .ref ax, .ref ao, .ref al, .ref av, .ref ae, .ref ar, .ref ad, .ref aW, .ref aS, .ref aN, .ref aR, .ref aG]), (ar, aB d 800 gr), (ad, aB d 32 (upd gd k8 ((((s9 (k8 / 4)) >>> ((nI (24 - (8 * (k8 % 4)))) &&& 31)).toInt8.toInt32).toInt8.toInt32))), (aW, aI d 64 w9), (aS, aI d 8 s9), (aN, aI d 8 N9), (aR, aI d 64 fR), (aG, aI d 8 fG)] H := hP
                          have hD : va_D A [(h, ob 1 [.int th, .ref an, .ref ak, .int lt, .int se, .ref au, .int zs, .ref ap, .int mn, .ref aw, .int cz, .ref ac, .int ln, .int ft, .int gz, .ref ag, .ref ax, .ref ao, .ref al, .ref av, .ref ae, .ref ar, .ref ad, .ref aW, .ref aS, .ref aN, .ref aR, .ref aG]), (ar, aB d 800 gr), (ad, aB d 32 (upd gd k8 ((((s9 (k8 / 4)) >>> ((nI (24 - (8 * (k8 % 4)))) &&& 31)).toInt8.toInt32).toInt8.toInt32))), (aW, aI d 64 w9), (aS, aI d 8 s9), (aN, aI d 8 N9), (aR, aI d 64 fR), (aG, aI d 8 fG)] := hD
                          refine lv_iinc (v := nI (k8 + 1)) (lv' := [(3, .int (nI (k8 + 1))), (0, .ref h)]) C.x C.b d_MD_reckon_220 hl (k := 1) rfl (k_inc _ 1) (by decide) rfl (fun ls hl => ?_)
                          refine lv_goto (tgt := 189) C.x C.b d_MD_reckon_223 (by decide) ?_
                          exact ih189 (k8 + 1) (upd gd k8 ((((s9 (k8 / 4)) >>> ((nI (24 - (8 * (k8 % 4)))) &&& 31)).toInt8.toInt32).toInt8.toInt32)) (by omega) (by omega) (upd_le (g := gd) hgd (by rw [sx_sx]; exact shb8 (by omega) _)) _ _ _ (hP.sub [0, 1, 2, 3, 4, 5, 6, 7] (rfl)) (hD.sub [0, 1, 2, 3, 4, 5, 6, 7] (by decide) (rfl)) hS (lv_sub hl [1, 0] (rfl))
                    exact L189 ((32 - 0) + 1) 0 fd (Nat.lt_succ_self _) (by omega) (fun i hi => absurd hi (Nat.not_lt_zero _)) _ _ _ (hP.sub [0, 1, 2, 3, 4, 5, 6, 7] (rfl)) (hD.sub [0, 1, 2, 3, 4, 5, 6, 7] (by decide) (rfl)) hS (lv_sub hl [1, 0] (rfl))
                  · rw [nI_leI (by omega) (by omega)] at hc99
                    refine lv_iconst (v := nI 0) C.x C.b d_MD_reckon_102 (by decide) ?_
                    refine lv_istore (lv' := [(4, .int (nI 0)), (0, .ref h), (1, .int (nI nn)), (2, .int (nI (nn + 9 + zer nn))), (3, .int (nI (64 * r)))]) C.x C.b d_MD_reckon_103 hl (by decide) rfl (fun ls hl => ?_)
                    have L105 : ∀ (fuel : Nat) (t : Nat) (g : Nat → Int32), 16 - t < fuel → (t ≤ 16) → (∀ i, i < t → g i = roww (pad L) (64 * r) i) → ∀ (H : Heap) (locs : List Loc) (ls : Array Slot), va_P d.1 clz [(h, ob 1 [.int th, .ref an, .ref ak, .int lt, .int se, .ref au, .int zs, .ref ap, .int mn, .ref aw, .int cz, .ref ac, .int ln, .int ft, .int gz, .ref ag, .ref ax, .ref ao, .ref al, .ref av, .ref ae, .ref ar, .ref ad, .ref aW, .ref aS, .ref aN, .ref aR, .ref aG]), (ar, aB d 800 gr), (ad, aB d 32 fd), (aW, aI d 64 g), (aS, aI d 8 s9), (aN, aI d 8 N9), (aR, aI d 64 fR), (aG, aI d 8 fG)] H → va_D A [(h, ob 1 [.int th, .ref an, .ref ak, .int lt, .int se, .ref au, .int zs, .ref ap, .int mn, .ref aw, .int cz, .ref ac, .int ln, .int ft, .int gz, .ref ag, .ref ax, .ref ao, .ref al, .ref av, .ref ae, .ref ar, .ref ad, .ref aW, .ref aS, .ref aN, .ref aR, .ref aG]), (ar, aB d 800 gr), (ad, aB d 32 fd), (aW, aI d 64 g), (aS, aI d 8 s9), (aN, aI d 8 N9), (aR, aI d 64 fR), (aG, aI d 8 fG)] → va_S A s.heap H locs → lv_has ls 6 [(0, .ref h), (1, .int (nI nn)), (2, .int (nI (nn + 9 + zer nn))), (3, .int (nI (64 * r))), (4, .int (nI t))] → W p l e (Rm 2 47 0 0) s m ([.ref h, .int (nI nn)] : List Value).toArray below meth c H locs 0 0 (MQ below (Cout d A (fun (u : (Nat → Int32) × (Nat → Int32) × (Nat → Int32) × (Nat → Int32) × (Nat → Int32)) => match u with | (r2, d2, W2, S2, N2) => none) (fun (u : (Nat → Int32) × (Nat → Int32) × (Nat → Int32) × (Nat → Int32) × (Nat → Int32)) => match u with | (r2, d2, W2, S2, N2) => BA d2 (slb (dig L) 32)) (fun (u : (Nat → Int32) × (Nat → Int32) × (Nat → Int32) × (Nat → Int32) × (Nat → Int32)) => match u with | (r2, d2, W2, S2, N2) => [(h, ob 1 [.int th, .ref an, .ref ak, .int lt, .int se, .ref au, .int zs, .ref ap, .int mn, .ref aw, .int cz, .ref ac, .int ln, .int ft, .int gz, .ref ag, .ref ax, .ref ao, .ref al, .ref av, .ref ae, .ref ar, .ref ad, .ref aW, .ref aS, .ref aN, .ref aR, .ref aG]), (ar, aB d 800 r2), (ad, aB d 32 d2), (aW, aI d 64 W2), (aS, aI d 8 S2), (aN, aI d 8 N2), (aR, aI d 64 fR), (aG, aI d 8 fG)])) ([.ref h, .int (nI nn)] : List Value).toArray s 0 0 A) (F0 m 105 ls []) := by
                      intro fuel
                      induction fuel with
                      | zero => intro t g h9; exact absurd h9 (Nat.not_lt_zero _)
                      | succ fuel ih105 =>
                        intro t g hfu105 ht hgt H locs ls hP hD hS hl
                        refine lv_iload C.x C.b d_MD_reckon_105 (lv_at hl 4 rfl) ?_
                        refine lv_bipush (v := nI 16) C.x C.b d_MD_reckon_107 (by decide) ?_
                        refine lv_icmp_ge (tgt := 177) C.x C.b d_MD_reckon_109 (by decide) (fun hc109 => ?_) (fun hc109 => ?_)
                        · rw [nI_leI (by omega) (by omega)] at hc109
                          refine lv_aload_n C.x C.b d_MD_reckon_177 rfl (lv_at hl 0 rfl) ?_
                          refine k_callV (As := []) (rest := []) (wc := [(h, ob 1 [.int th, .ref an, .ref ak, .int lt, .int se, .ref au, .int zs, .ref ap, .int mn, .ref aw, .int cz, .ref ac, .int ln, .int ft, .int gz, .ref ag, .ref ax, .ref ao, .ref al, .ref av, .ref ae, .ref ar, .ref ad, .ref aW, .ref aS, .ref aN, .ref aR, .ref aG]), (aW, aI d 64 g), (aS, aI d 8 s9), (aN, aI d 8 N9), (aR, aI d 64 fR)]) (wr := [(ar, aB d 800 gr), (ad, aB d 32 fd), (aG, aI d 8 fG)]) C (c_MD_mix l d h an ak au ap aw ac ag ax ao al av ae ar ad aW aS aN aR aG th lt se zs mn cz ln ft gz g s9 N9 fR (hR)) mw_MD_mix ms_25 m_785 hP hD hS [0, 3, 4, 5, 6] [1, 2, 7] rfl rfl (by decide) (by decide) (by decide) 0 rfl rfl rfl rfl hl.1 (Nat.le_of_ble_eq_true rfl) d_MD_reckon_178 ⟨Nat.le_of_ble_eq_true rfl, Nat.le_of_ble_eq_true rfl⟩ ⟨by decide, by decide⟩ (fun u9 H locs hs4 hP hD hS => ?_)
                          obtain ⟨W4, s4, N4⟩ := u9
                          have hP : va_P d.1 clz [(ar, aB d 800 gr), (ad, aB d 32 fd), (aG, aI d 8 fG), (h, ob 1 [.int th, .ref an, .ref ak, .int lt, .int se, .ref au, .int zs, .ref ap, .int mn, .ref aw, .int cz, .ref ac, .int ln, .int ft, .int gz, .ref ag, .ref ax, .ref ao, .ref al, .ref av, .ref ae, .ref ar, .ref ad, .ref aW, .ref aS, .ref aN, .ref aR, .ref aG]), (aW, aI d 64 W4), (aS, aI d 8 s4), (aN, aI d 8 N4), (aR, aI d 64 fR)] H := hP
                          have hD : va_D A [(ar, aB d 800 gr), (ad, aB d 32 fd), (aG, aI d 8 fG), (h, ob 1 [.int th, .ref an, .ref ak, .int lt, .int se, .ref au, .int zs, .ref ap, .int mn, .ref aw, .int cz, .ref ac, .int ln, .int ft, .int gz, .ref ag, .ref ax, .ref ao, .ref al, .ref av, .ref ae, .ref ar, .ref ad, .ref aW, .ref aS, .ref aN, .ref aR, .ref aG]), (aW, aI d 64 W4), (aS, aI d 8 s4), (aN, aI d 8 N4), (aR, aI d 64 fR)] := hD
                          refine W.eq (g2 := F0 m 181 ls []) rfl ?_
                          have hs4 : ∀ j, j < 8 → s4 j = hmix s9 (wsc g) j := hs4
                          refine lv_iinc (v := nI (64 * r + 64)) (lv' := [(3, .int (nI (64 * r + 64))), (0, .ref h), (1, .int (nI nn)), (2, .int (nI (nn + 9 + zer nn))), (4, .int (nI t))]) C.x C.b d_MD_reckon_181 hl (k := 3) rfl (k_inc _ 64) (by decide) rfl (fun ls hl => ?_)
                          refine lv_goto (tgt := 97) C.x C.b d_MD_reckon_184 (by decide) ?_
                          exact ih97 (r + 1) s4 W4 N4 (by omega) (by omega) (rek_row hs (fun t ht => hgt t (by omega)) hs4) _ _ _ (hP.sub [3, 0, 1, 4, 5, 6, 7, 2] (rfl)) (hD.sub [3, 0, 1, 4, 5, 6, 7, 2] (by decide) (rfl)) hS (lv_sub hl [1, 2, 3, 0] (by rw [Nat.mul_succ]; rfl))
                        · rw [nI_leI (by omega) (by omega)] at hc109
                          refine lv_aload_n C.x C.b d_MD_reckon_112 rfl (lv_at hl 0 rfl) ?_
                          refine k_get C hP 0 rfl rfl i_MD 23 (by decide) m_675 rfl d_MD_reckon_113 ?_
                          refine lv_iload C.x C.b d_MD_reckon_116 (lv_at hl 4 rfl) ?_
                          refine lv_iconst (v := nI 0) C.x C.b d_MD_reckon_118 (by decide) ?_
                          refine k_iast C hP hD hS 3 rfl (j := t) (by omega) (by omega) d_MD_reckon_119 (fun H locs hP hD hS => ?_)
                          have hP : va_P d.1 clz [(h, ob 1 [.int th, .ref an, .ref ak, .int lt, .int se, .ref au, .int zs, .ref ap, .int mn, .ref aw, .int cz, .ref ac, .int ln, .int ft, .int gz, .ref ag, .ref ax, .ref ao, .ref al, .ref av, .ref ae, .ref ar, .ref ad, .ref aW, .ref aS, .ref aN, .ref aR, .ref aG]), (ar, aB d 800 gr), (ad, aB d 32 fd), (aW, aI d 64 (upd g t (nI 0))), (aS, aI d 8 s9), (aN, aI d 8 N9), (aR, aI d 64 fR), (aG, aI d 8 fG)] H := hP
                          have hD : va_D A [(h, ob 1 [.int th, .ref an, .ref ak, .int lt, .int se, .ref au, .int zs, .ref ap, .int mn, .ref aw, .int cz, .ref ac, .int ln, .int ft, .int gz, .ref ag, .ref ax, .ref ao, .ref al, .ref av, .ref ae, .ref ar, .ref ad, .ref aW, .ref aS, .ref aN, .ref aR, .ref aG]), (ar, aB d 800 gr), (ad, aB d 32 fd), (aW, aI d 64 (upd g t (nI 0))), (aS, aI d 8 s9), (aN, aI d 8 N9), (aR, aI d 64 fR), (aG, aI d 8 fG)] := hD
                          refine lv_iconst (v := nI 0) C.x C.b d_MD_reckon_120 (by decide) ?_
                          refine lv_istore (lv' := [(5, .int (nI 0)), (0, .ref h), (1, .int (nI nn)), (2, .int (nI (nn + 9 + zer nn))), (3, .int (nI (64 * r))), (4, .int (nI t))]) C.x C.b d_MD_reckon_121 hl (by decide) rfl (fun ls hl => ?_)
                          refine lv_iload C.x C.b d_MD_reckon_123 (lv_at hl 0 rfl) ?_
                          refine lv_iconst (v := nI 4) C.x C.b d_MD_reckon_125 (by decide) ?_
                          refine lv_icmp_ge (tgt := 171) C.x C.b d_MD_reckon_126 (by decide) (fun h9 => by first | exact absurd h9 (by decide) | exact absurd (by decide) h9) (fun _ => ?_)
                          refine lv_aload_n C.x C.b d_MD_reckon_129 rfl (lv_at hl 1 rfl) ?_
                          refine k_get C hP 0 rfl rfl i_MD 23 (by decide) m_675 rfl d_MD_reckon_130 ?_
                          refine lv_iload C.x C.b d_MD_reckon_133 (lv_at hl 5 rfl) ?_
                          refine lv_aload_n C.x C.b d_MD_reckon_135 rfl (lv_at hl 1 rfl) ?_
                          refine k_get C hP 0 rfl rfl i_MD 23 (by decide) m_675 rfl d_MD_reckon_136 ?_
                          refine lv_iload C.x C.b d_MD_reckon_139 (lv_at hl 5 rfl) ?_
                          refine k_iald C hP 3 rfl (j := t) (by omega) (by omega) d_MD_reckon_141 ?_
                          refine k_top (y := (nI 0)) pk_us ?_
                          refine lv_bipush (v := nI 8) C.x C.b d_MD_reckon_142 (by decide) ?_
                          refine lv_ishl C.x C.b d_MD_reckon_144 ?_
                          refine lv_aload_n C.x C.b d_MD_reckon_145 rfl (lv_at hl 1 rfl) ?_
                          refine k_get C hP 0 rfl rfl i_MD 21 (by decide) m_673 rfl d_MD_reckon_146 ?_
                          refine lv_iload_n C.x C.b d_MD_reckon_149 rfl (lv_at hl 4 rfl) ?_
                          refine lv_iconst (v := nI 4) C.x C.b d_MD_reckon_150 (by decide) ?_
                          refine lv_iload C.x C.b d_MD_reckon_151 (lv_at hl 5 rfl) ?_
                          refine lv_imul C.x C.b d_MD_reckon_153 ?_
                          refine k_top (y := nI (4 * t)) (pk_mul _ _) ?_
                          refine lv_iadd C.x C.b d_MD_reckon_154 ?_
                          refine k_top (y := nI (64 * r + (4 * t))) (nI_add _ _) ?_
                          refine lv_iload C.x C.b d_MD_reckon_155 (lv_at hl 0 rfl) ?_
                          refine lv_iadd C.x C.b d_MD_reckon_157 ?_
                          refine k_top (y := nI (64 * r + (4 * t) + 0)) (nI_add _ _) ?_
                          refine k_bald C hP 1 rfl (j := (64 * r + (4 * t) + 0)) (by omega) (by omega) d_MD_reckon_158 ?_
                          refine lv_sipush (v := nI 255) C.x C.b d_MD_reckon_159 (by decide) ?_
                          refine lv_iand C.x C.b d_MD_reckon_162 ?_
                          refine k_top (y := (pad L).getD (64 * r + (4 * t + 0)) 0) (by rw [hrow _ (by omega), sx_and, hpb _ (bq_mem (by omega)), Nat.add_assoc]) ?_
                          refine lv_ior C.x C.b d_MD_reckon_163 ?_
                          refine k_iast C hP hD hS 3 rfl (j := t) (by omega) (by omega) d_MD_reckon_164 (fun H locs hP hD hS => ?_)
                          have hP : va_P d.1 clz [(h, ob 1 [.int th, .ref an, .ref ak, .int lt, .int se, .ref au, .int zs, .ref ap, .int mn, .ref aw, .int cz, .ref ac, .int ln, .int ft, .int gz, .ref ag, .ref ax, .ref ao, .ref al, .ref av, .ref ae, .ref ar, .ref ad, .ref aW, .ref aS, .ref aN, .ref aR, .ref aG]), (ar, aB d 800 gr), (ad, aB d 32 fd), (aW, aI d 64 (upd (upd g t (nI 0)) t (((nI 0) <<< ((nI 8) &&& 31)) ||| ((pad L).getD (64 * r + (4 * t + 0)) 0)))), (aS, aI d 8 s9), (aN, aI d 8 N9), (aR, aI d 64 fR), (aG, aI d 8 fG)] H := hP
                          have hD : va_D A [(h, ob 1 [.int th, .ref an, .ref ak, .int lt, .int se, .ref au, .int zs, .ref ap, .int mn, .ref aw, .int cz, .ref ac, .int ln, .int ft, .int gz, .ref ag, .ref ax, .ref ao, .ref al, .ref av, .ref ae, .ref ar, .ref ad, .ref aW, .ref aS, .ref aN, .ref aR, .ref aG]), (ar, aB d 800 gr), (ad, aB d 32 fd), (aW, aI d 64 (upd (upd g t (nI 0)) t (((nI 0) <<< ((nI 8) &&& 31)) ||| ((pad L).getD (64 * r + (4 * t + 0)) 0)))), (aS, aI d 8 s9), (aN, aI d 8 N9), (aR, aI d 64 fR), (aG, aI d 8 fG)] := hD
                          refine lv_iinc (v := nI 1) (lv' := [(5, .int (nI 1)), (0, .ref h), (1, .int (nI nn)), (2, .int (nI (nn + 9 + zer nn))), (3, .int (nI (64 * r))), (4, .int (nI t))]) C.x C.b d_MD_reckon_165 hl (k := 0) rfl (by decide) (by decide) rfl (fun ls hl => ?_)
                          refine lv_goto (tgt := 123) C.x C.b d_MD_reckon_168 (by decide) ?_
                          refine lv_iload C.x C.b d_MD_reckon_123 (lv_at hl 0 rfl) ?_
                          refine lv_iconst (v := nI 4) C.x C.b d_MD_reckon_125 (by decide) ?_
                          refine lv_icmp_ge (tgt := 171) C.x C.b d_MD_reckon_126 (by decide) (fun h9 => by first | exact absurd h9 (by decide) | exact absurd (by decide) h9) (fun _ => ?_)
                          refine lv_aload_n C.x C.b d_MD_reckon_129 rfl (lv_at hl 1 rfl) ?_
                          refine k_get C hP 0 rfl rfl i_MD 23 (by decide) m_675 rfl d_MD_reckon_130 ?_
                          refine lv_iload C.x C.b d_MD_reckon_133 (lv_at hl 5 rfl) ?_
                          refine lv_aload_n C.x C.b d_MD_reckon_135 rfl (lv_at hl 1 rfl) ?_
                          refine k_get C hP 0 rfl rfl i_MD 23 (by decide) m_675 rfl d_MD_reckon_136 ?_
                          refine lv_iload C.x C.b d_MD_reckon_139 (lv_at hl 5 rfl) ?_
                          refine k_iald C hP 3 rfl (j := t) (by omega) (by omega) d_MD_reckon_141 ?_
                          refine k_top (y := (((nI 0) <<< ((nI 8) &&& 31)) ||| ((pad L).getD (64 * r + (4 * t + 0)) 0))) pk_us ?_
                          refine lv_bipush (v := nI 8) C.x C.b d_MD_reckon_142 (by decide) ?_
                          refine lv_ishl C.x C.b d_MD_reckon_144 ?_
                          refine lv_aload_n C.x C.b d_MD_reckon_145 rfl (lv_at hl 1 rfl) ?_
                          refine k_get C hP 0 rfl rfl i_MD 21 (by decide) m_673 rfl d_MD_reckon_146 ?_
                          refine lv_iload_n C.x C.b d_MD_reckon_149 rfl (lv_at hl 4 rfl) ?_
                          refine lv_iconst (v := nI 4) C.x C.b d_MD_reckon_150 (by decide) ?_
                          refine lv_iload C.x C.b d_MD_reckon_151 (lv_at hl 5 rfl) ?_
                          refine lv_imul C.x C.b d_MD_reckon_153 ?_
                          refine k_top (y := nI (4 * t)) (pk_mul _ _) ?_
                          refine lv_iadd C.x C.b d_MD_reckon_154 ?_
                          refine k_top (y := nI (64 * r + (4 * t))) (nI_add _ _) ?_
                          refine lv_iload C.x C.b d_MD_reckon_155 (lv_at hl 0 rfl) ?_
                          refine lv_iadd C.x C.b d_MD_reckon_157 ?_
                          refine k_top (y := nI (64 * r + (4 * t) + 1)) (nI_add _ _) ?_
                          refine k_bald C hP 1 rfl (j := (64 * r + (4 * t) + 1)) (by omega) (by omega) d_MD_reckon_158 ?_
                          refine lv_sipush (v := nI 255) C.x C.b d_MD_reckon_159 (by decide) ?_
                          refine lv_iand C.x C.b d_MD_reckon_162 ?_
                          refine k_top (y := (pad L).getD (64 * r + (4 * t + 1)) 0) (by rw [hrow _ (by omega), sx_and, hpb _ (bq_mem (by omega)), Nat.add_assoc]) ?_
                          refine lv_ior C.x C.b d_MD_reckon_163 ?_
                          refine k_iast C hP hD hS 3 rfl (j := t) (by omega) (by omega) d_MD_reckon_164 (fun H locs hP hD hS => ?_)
                          have hP : va_P d.1 clz [(h, ob 1 [.int th, .ref an, .ref ak, .int lt, .int se, .ref au, .int zs, .ref ap, .int mn, .ref aw, .int cz, .ref ac, .int ln, .int ft, .int gz, .ref ag, .ref ax, .ref ao, .ref al, .ref av, .ref ae, .ref ar, .ref ad, .ref aW, .ref aS, .ref aN, .ref aR, .ref aG]), (ar, aB d 800 gr), (ad, aB d 32 fd), (aW, aI d 64 (upd (upd (upd g t (nI 0)) t (((nI 0) <<< ((nI 8) &&& 31)) ||| ((pad L).getD (64 * r + (4 * t + 0)) 0))) t (((((nI 0) <<< ((nI 8) &&& 31)) ||| ((pad L).getD (64 * r + (4 * t + 0)) 0)) <<< ((nI 8) &&& 31)) ||| ((pad L).getD (64 * r + (4 * t + 1)) 0)))), (aS, aI d 8 s9), (aN, aI d 8 N9), (aR, aI d 64 fR), (aG, aI d 8 fG)] H := hP
                          have hD : va_D A [(h, ob 1 [.int th, .ref an, .ref ak, .int lt, .int se, .ref au, .int zs, .ref ap, .int mn, .ref aw, .int cz, .ref ac, .int ln, .int ft, .int gz, .ref ag, .ref ax, .ref ao, .ref al, .ref av, .ref ae, .ref ar, .ref ad, .ref aW, .ref aS, .ref aN, .ref aR, .ref aG]), (ar, aB d 800 gr), (ad, aB d 32 fd), (aW, aI d 64 (upd (upd (upd g t (nI 0)) t (((nI 0) <<< ((nI 8) &&& 31)) ||| ((pad L).getD (64 * r + (4 * t + 0)) 0))) t (((((nI 0) <<< ((nI 8) &&& 31)) ||| ((pad L).getD (64 * r + (4 * t + 0)) 0)) <<< ((nI 8) &&& 31)) ||| ((pad L).getD (64 * r + (4 * t + 1)) 0)))), (aS, aI d 8 s9), (aN, aI d 8 N9), (aR, aI d 64 fR), (aG, aI d 8 fG)] := hD
                          refine lv_iinc (v := nI 2) (lv' := [(5, .int (nI 2)), (0, .ref h), (1, .int (nI nn)), (2, .int (nI (nn + 9 + zer nn))), (3, .int (nI (64 * r))), (4, .int (nI t))]) C.x C.b d_MD_reckon_165 hl (k := 0) rfl (by decide) (by decide) rfl (fun ls hl => ?_)
                          refine lv_goto (tgt := 123) C.x C.b d_MD_reckon_168 (by decide) ?_
                          refine lv_iload C.x C.b d_MD_reckon_123 (lv_at hl 0 rfl) ?_
                          refine lv_iconst (v := nI 4) C.x C.b d_MD_reckon_125 (by decide) ?_
                          refine lv_icmp_ge (tgt := 171) C.x C.b d_MD_reckon_126 (by decide) (fun h9 => by first | exact absurd h9 (by decide) | exact absurd (by decide) h9) (fun _ => ?_)
                          refine lv_aload_n C.x C.b d_MD_reckon_129 rfl (lv_at hl 1 rfl) ?_
                          refine k_get C hP 0 rfl rfl i_MD 23 (by decide) m_675 rfl d_MD_reckon_130 ?_
                          refine lv_iload C.x C.b d_MD_reckon_133 (lv_at hl 5 rfl) ?_
                          refine lv_aload_n C.x C.b d_MD_reckon_135 rfl (lv_at hl 1 rfl) ?_
                          refine k_get C hP 0 rfl rfl i_MD 23 (by decide) m_675 rfl d_MD_reckon_136 ?_
                          refine lv_iload C.x C.b d_MD_reckon_139 (lv_at hl 5 rfl) ?_
                          refine k_iald C hP 3 rfl (j := t) (by omega) (by omega) d_MD_reckon_141 ?_
                          refine k_top (y := (((((nI 0) <<< ((nI 8) &&& 31)) ||| ((pad L).getD (64 * r + (4 * t + 0)) 0)) <<< ((nI 8) &&& 31)) ||| ((pad L).getD (64 * r + (4 * t + 1)) 0))) pk_us ?_
                          refine lv_bipush (v := nI 8) C.x C.b d_MD_reckon_142 (by decide) ?_
                          refine lv_ishl C.x C.b d_MD_reckon_144 ?_
                          refine lv_aload_n C.x C.b d_MD_reckon_145 rfl (lv_at hl 1 rfl) ?_
                          refine k_get C hP 0 rfl rfl i_MD 21 (by decide) m_673 rfl d_MD_reckon_146 ?_
                          refine lv_iload_n C.x C.b d_MD_reckon_149 rfl (lv_at hl 4 rfl) ?_
                          refine lv_iconst (v := nI 4) C.x C.b d_MD_reckon_150 (by decide) ?_
                          refine lv_iload C.x C.b d_MD_reckon_151 (lv_at hl 5 rfl) ?_
                          refine lv_imul C.x C.b d_MD_reckon_153 ?_
                          refine k_top (y := nI (4 * t)) (pk_mul _ _) ?_
                          refine lv_iadd C.x C.b d_MD_reckon_154 ?_
                          refine k_top (y := nI (64 * r + (4 * t))) (nI_add _ _) ?_
                          refine lv_iload C.x C.b d_MD_reckon_155 (lv_at hl 0 rfl) ?_
                          refine lv_iadd C.x C.b d_MD_reckon_157 ?_
                          refine k_top (y := nI (64 * r + (4 * t) + 2)) (nI_add _ _) ?_
                          refine k_bald C hP 1 rfl (j := (64 * r + (4 * t) + 2)) (by omega) (by omega) d_MD_reckon_158 ?_
                          refine lv_sipush (v := nI 255) C.x C.b d_MD_reckon_159 (by decide) ?_
                          refine lv_iand C.x C.b d_MD_reckon_162 ?_
                          refine k_top (y := (pad L).getD (64 * r + (4 * t + 2)) 0) (by rw [hrow _ (by omega), sx_and, hpb _ (bq_mem (by omega)), Nat.add_assoc]) ?_
                          refine lv_ior C.x C.b d_MD_reckon_163 ?_
                          refine k_iast C hP hD hS 3 rfl (j := t) (by omega) (by omega) d_MD_reckon_164 (fun H locs hP hD hS => ?_)
                          have hP : va_P d.1 clz [(h, ob 1 [.int th, .ref an, .ref ak, .int lt, .int se, .ref au, .int zs, .ref ap, .int mn, .ref aw, .int cz, .ref ac, .int ln, .int ft, .int gz, .ref ag, .ref ax, .ref ao, .ref al, .ref av, .ref ae, .ref ar, .ref ad, .ref aW, .ref aS, .ref aN, .ref aR, .ref aG]), (ar, aB d 800 gr), (ad, aB d 32 fd), (aW, aI d 64 (upd (upd (upd (upd g t (nI 0)) t (((nI 0) <<< ((nI 8) &&& 31)) ||| ((pad L).getD (64 * r + (4 * t + 0)) 0))) t (((((nI 0) <<< ((nI 8) &&& 31)) ||| ((pad L).getD (64 * r + (4 * t + 0)) 0)) <<< ((nI 8) &&& 31)) ||| ((pad L).getD (64 * r + (4 * t + 1)) 0))) t (((((((nI 0) <<< ((nI 8) &&& 31)) ||| ((pad L).getD (64 * r + (4 * t + 0)) 0)) <<< ((nI 8) &&& 31)) ||| ((pad L).getD (64 * r + (4 * t + 1)) 0)) <<< ((nI 8) &&& 31)) ||| ((pad L).getD (64 * r + (4 * t + 2)) 0)))), (aS, aI d 8 s9), (aN, aI d 8 N9), (aR, aI d 64 fR), (aG, aI d 8 fG)] H := hP
                          have hD : va_D A [(h, ob 1 [.int th, .ref an, .ref ak, .int lt, .int se, .ref au, .int zs, .ref ap, .int mn, .ref aw, .int cz, .ref ac, .int ln, .int ft, .int gz, .ref ag, .ref ax, .ref ao, .ref al, .ref av, .ref ae, .ref ar, .ref ad, .ref aW, .ref aS, .ref aN, .ref aR, .ref aG]), (ar, aB d 800 gr), (ad, aB d 32 fd), (aW, aI d 64 (upd (upd (upd (upd g t (nI 0)) t (((nI 0) <<< ((nI 8) &&& 31)) ||| ((pad L).getD (64 * r + (4 * t + 0)) 0))) t (((((nI 0) <<< ((nI 8) &&& 31)) ||| ((pad L).getD (64 * r + (4 * t + 0)) 0)) <<< ((nI 8) &&& 31)) ||| ((pad L).getD (64 * r + (4 * t + 1)) 0))) t (((((((nI 0) <<< ((nI 8) &&& 31)) ||| ((pad L).getD (64 * r + (4 * t + 0)) 0)) <<< ((nI 8) &&& 31)) ||| ((pad L).getD (64 * r + (4 * t + 1)) 0)) <<< ((nI 8) &&& 31)) ||| ((pad L).getD (64 * r + (4 * t + 2)) 0)))), (aS, aI d 8 s9), (aN, aI d 8 N9), (aR, aI d 64 fR), (aG, aI d 8 fG)] := hD
                          refine lv_iinc (v := nI 3) (lv' := [(5, .int (nI 3)), (0, .ref h), (1, .int (nI nn)), (2, .int (nI (nn + 9 + zer nn))), (3, .int (nI (64 * r))), (4, .int (nI t))]) C.x C.b d_MD_reckon_165 hl (k := 0) rfl (by decide) (by decide) rfl (fun ls hl => ?_)
                          refine lv_goto (tgt := 123) C.x C.b d_MD_reckon_168 (by decide) ?_
                          refine lv_iload C.x C.b d_MD_reckon_123 (lv_at hl 0 rfl) ?_
                          refine lv_iconst (v := nI 4) C.x C.b d_MD_reckon_125 (by decide) ?_
                          refine lv_icmp_ge (tgt := 171) C.x C.b d_MD_reckon_126 (by decide) (fun h9 => by first | exact absurd h9 (by decide) | exact absurd (by decide) h9) (fun _ => ?_)
                          refine lv_aload_n C.x C.b d_MD_reckon_129 rfl (lv_at hl 1 rfl) ?_
                          refine k_get C hP 0 rfl rfl i_MD 23 (by decide) m_675 rfl d_MD_reckon_130 ?_
                          refine lv_iload C.x C.b d_MD_reckon_133 (lv_at hl 5 rfl) ?_
                          refine lv_aload_n C.x C.b d_MD_reckon_135 rfl (lv_at hl 1 rfl) ?_
                          refine k_get C hP 0 rfl rfl i_MD 23 (by decide) m_675 rfl d_MD_reckon_136 ?_
                          refine lv_iload C.x C.b d_MD_reckon_139 (lv_at hl 5 rfl) ?_
                          refine k_iald C hP 3 rfl (j := t) (by omega) (by omega) d_MD_reckon_141 ?_
                          refine k_top (y := (((((((nI 0) <<< ((nI 8) &&& 31)) ||| ((pad L).getD (64 * r + (4 * t + 0)) 0)) <<< ((nI 8) &&& 31)) ||| ((pad L).getD (64 * r + (4 * t + 1)) 0)) <<< ((nI 8) &&& 31)) ||| ((pad L).getD (64 * r + (4 * t + 2)) 0))) pk_us ?_
                          refine lv_bipush (v := nI 8) C.x C.b d_MD_reckon_142 (by decide) ?_
                          refine lv_ishl C.x C.b d_MD_reckon_144 ?_
                          refine lv_aload_n C.x C.b d_MD_reckon_145 rfl (lv_at hl 1 rfl) ?_
                          refine k_get C hP 0 rfl rfl i_MD 21 (by decide) m_673 rfl d_MD_reckon_146 ?_
                          refine lv_iload_n C.x C.b d_MD_reckon_149 rfl (lv_at hl 4 rfl) ?_
                          refine lv_iconst (v := nI 4) C.x C.b d_MD_reckon_150 (by decide) ?_
                          refine lv_iload C.x C.b d_MD_reckon_151 (lv_at hl 5 rfl) ?_
                          refine lv_imul C.x C.b d_MD_reckon_153 ?_
                          refine k_top (y := nI (4 * t)) (pk_mul _ _) ?_
                          refine lv_iadd C.x C.b d_MD_reckon_154 ?_
                          refine k_top (y := nI (64 * r + (4 * t))) (nI_add _ _) ?_
                          refine lv_iload C.x C.b d_MD_reckon_155 (lv_at hl 0 rfl) ?_
                          refine lv_iadd C.x C.b d_MD_reckon_157 ?_
                          refine k_top (y := nI (64 * r + (4 * t) + 3)) (nI_add _ _) ?_
                          refine k_bald C hP 1 rfl (j := (64 * r + (4 * t) + 3)) (by omega) (by omega) d_MD_reckon_158 ?_
                          refine lv_sipush (v := nI 255) C.x C.b d_MD_reckon_159 (by decide) ?_
                          refine lv_iand C.x C.b d_MD_reckon_162 ?_
                          refine k_top (y := (pad L).getD (64 * r + (4 * t + 3)) 0) (by rw [hrow _ (by omega), sx_and, hpb _ (bq_mem (by omega)), Nat.add_assoc]) ?_
                          refine lv_ior C.x C.b d_MD_reckon_163 ?_
                          refine k_iast C hP hD hS 3 rfl (j := t) (by omega) (by omega) d_MD_reckon_164 (fun H locs hP hD hS => ?_)
                          have hP : va_P d.1 clz [(h, ob 1 [.int th, .ref an, .ref ak, .int lt, .int se, .ref au, .int zs, .ref ap, .int mn, .ref aw, .int cz, .ref ac, .int ln, .int ft, .int gz, .ref ag, .ref ax, .ref ao, .ref al, .ref av, .ref ae, .ref ar, .ref ad, .ref aW, .ref aS, .ref aN, .ref aR, .ref aG]), (ar, aB d 800 gr), (ad, aB d 32 fd), (aW, aI d 64 (upd (upd (upd (upd (upd g t (nI 0)) t (((nI 0) <<< ((nI 8) &&& 31)) ||| ((pad L).getD (64 * r + (4 * t + 0)) 0))) t (((((nI 0) <<< ((nI 8) &&& 31)) ||| ((pad L).getD (64 * r + (4 * t + 0)) 0)) <<< ((nI 8) &&& 31)) ||| ((pad L).getD (64 * r + (4 * t + 1)) 0))) t (((((((nI 0) <<< ((nI 8) &&& 31)) ||| ((pad L).getD (64 * r + (4 * t + 0)) 0)) <<< ((nI 8) &&& 31)) ||| ((pad L).getD (64 * r + (4 * t + 1)) 0)) <<< ((nI 8) &&& 31)) ||| ((pad L).getD (64 * r + (4 * t + 2)) 0))) t (((((((((nI 0) <<< ((nI 8) &&& 31)) ||| ((pad L).getD (64 * r + (4 * t + 0)) 0)) <<< ((nI 8) &&& 31)) ||| ((pad L).getD (64 * r + (4 * t + 1)) 0)) <<< ((nI 8) &&& 31)) ||| ((pad L).getD (64 * r + (4 * t + 2)) 0)) <<< ((nI 8) &&& 31)) ||| ((pad L).getD (64 * r + (4 * t + 3)) 0)))), (aS, aI d 8 s9), (aN, aI d 8 N9), (aR, aI d 64 fR), (aG, aI d 8 fG)] H := hP
                          have hD : va_D A [(h, ob 1 [.int th, .ref an, .ref ak, .int lt, .int se, .ref au, .int zs, .ref ap, .int mn, .ref aw, .int cz, .ref ac, .int ln, .int ft, .int gz, .ref ag, .ref ax, .ref ao, .ref al, .ref av, .ref ae, .ref ar, .ref ad, .ref aW, .ref aS, .ref aN, .ref aR, .ref aG]), (ar, aB d 800 gr), (ad, aB d 32 fd), (aW, aI d 64 (upd (upd (upd (upd (upd g t (nI 0)) t (((nI 0) <<< ((nI 8) &&& 31)) ||| ((pad L).getD (64 * r + (4 * t + 0)) 0))) t (((((nI 0) <<< ((nI 8) &&& 31)) ||| ((pad L).getD (64 * r + (4 * t + 0)) 0)) <<< ((nI 8) &&& 31)) ||| ((pad L).getD (64 * r + (4 * t + 1)) 0))) t (((((((nI 0) <<< ((nI 8) &&& 31)) ||| ((pad L).getD (64 * r + (4 * t + 0)) 0)) <<< ((nI 8) &&& 31)) ||| ((pad L).getD (64 * r + (4 * t + 1)) 0)) <<< ((nI 8) &&& 31)) ||| ((pad L).getD (64 * r + (4 * t + 2)) 0))) t (((((((((nI 0) <<< ((nI 8) &&& 31)) ||| ((pad L).getD (64 * r + (4 * t + 0)) 0)) <<< ((nI 8) &&& 31)) ||| ((pad L).getD (64 * r + (4 * t + 1)) 0)) <<< ((nI 8) &&& 31)) ||| ((pad L).getD (64 * r + (4 * t + 2)) 0)) <<< ((nI 8) &&& 31)) ||| ((pad L).getD (64 * r + (4 * t + 3)) 0)))), (aS, aI d 8 s9), (aN, aI d 8 N9), (aR, aI d 64 fR), (aG, aI d 8 fG)] := hD
                          refine lv_iinc (v := nI 4) (lv' := [(5, .int (nI 4)), (0, .ref h), (1, .int (nI nn)), (2, .int (nI (nn + 9 + zer nn))), (3, .int (nI (64 * r))), (4, .int (nI t))]) C.x C.b d_MD_reckon_165 hl (k := 0) rfl (by decide) (by decide) rfl (fun ls hl => ?_)
                          refine lv_goto (tgt := 123) C.x C.b d_MD_reckon_168 (by decide) ?_
                          refine lv_iload C.x C.b d_MD_reckon_123 (lv_at hl 0 rfl) ?_
                          refine lv_iconst (v := nI 4) C.x C.b d_MD_reckon_125 (by decide) ?_
                          refine lv_icmp_ge (tgt := 171) C.x C.b d_MD_reckon_126 (by decide) (fun _ => ?_) (fun h9 => by first | exact absurd h9 (by decide) | exact absurd (by decide) h9)
                          refine lv_iinc (v := nI (t + 1)) (lv' := [(4, .int (nI (t + 1))), (5, .int (nI 4)), (0, .ref h), (1, .int (nI nn)), (2, .int (nI (nn + 9 + zer nn))), (3, .int (nI (64 * r)))]) C.x C.b d_MD_reckon_171 hl (k := 5) rfl (k_inc _ 1) (by decide) rfl (fun ls hl => ?_)
                          refine lv_goto (tgt := 105) C.x C.b d_MD_reckon_174 (by decide) ?_
                          exact ih105 (t + 1) (upd (upd (upd (upd (upd g t (nI 0)) t (((nI 0) <<< ((nI 8) &&& 31)) ||| ((pad L).getD (64 * r + (4 * t + 0)) 0))) t (((((nI 0) <<< ((nI 8) &&& 31)) ||| ((pad L).getD (64 * r + (4 * t + 0)) 0)) <<< ((nI 8) &&& 31)) ||| ((pad L).getD (64 * r + (4 * t + 1)) 0))) t (((((((nI 0) <<< ((nI 8) &&& 31)) ||| ((pad L).getD (64 * r + (4 * t + 0)) 0)) <<< ((nI 8) &&& 31)) ||| ((pad L).getD (64 * r + (4 * t + 1)) 0)) <<< ((nI 8) &&& 31)) ||| ((pad L).getD (64 * r + (4 * t + 2)) 0))) t (((((((((nI 0) <<< ((nI 8) &&& 31)) ||| ((pad L).getD (64 * r + (4 * t + 0)) 0)) <<< ((nI 8) &&& 31)) ||| ((pad L).getD (64 * r + (4 * t + 1)) 0)) <<< ((nI 8) &&& 31)) ||| ((pad L).getD (64 * r + (4 * t + 2)) 0)) <<< ((nI 8) &&& 31)) ||| ((pad L).getD (64 * r + (4 * t + 3)) 0))) (by omega) (by omega) (rr5 hgt rfl) _ _ _ (hP.sub [0, 1, 2, 3, 4, 5, 6, 7] (rfl)) (hD.sub [0, 1, 2, 3, 4, 5, 6, 7] (by decide) (rfl)) hS (lv_sub hl [2, 3, 4, 5, 0] (rfl))
                    exact L105 ((16 - 0) + 1) 0 w9 (Nat.lt_succ_self _) (by omega) (fun i hi => absurd hi (Nat.not_lt_zero _)) _ _ _ (hP.sub [0, 1, 2, 3, 4, 5, 6, 7] (rfl)) (hD.sub [0, 1, 2, 3, 4, 5, 6, 7] (by decide) (rfl)) hS (lv_sub hl [1, 2, 3, 4, 0] (rfl))
              exact L97 ((rows + 1 - 0) + 1) 0 g fW fN (Nat.lt_succ_self _) (by omega) (fun i hi => hg i (by omega)) _ _ _ (hP.sub [0, 1, 2, 3, 4, 5, 6, 7] (rfl)) (hD.sub [0, 1, 2, 3, 4, 5, 6, 7] (by decide) (rfl)) hS (lv_sub hl [1, 2, 3, 0] (rfl))
            · rw [nI_leI (by omega) (by omega)] at hc44
              refine lv_aload_n C.x C.b d_MD_reckon_47 rfl (lv_at hl 0 rfl) ?_
              refine k_get C hP 0 rfl rfl i_MD 21 (by decide) m_673 rfl d_MD_reckon_48 ?_
              refine lv_iload_n C.x C.b d_MD_reckon_51 rfl (lv_at hl 3 rfl) ?_
              refine lv_iload_n C.x C.b d_MD_reckon_52 rfl (lv_at hl 3 rfl) ?_
              refine lv_iload_n C.x C.b d_MD_reckon_53 rfl (lv_at hl 1 rfl) ?_
              refine lv_icmp_ne (tgt := 63) C.x C.b d_MD_reckon_54 (by decide) (fun hc54 => ?_) (fun hc54 => ?_)
              · rw [nI_eq (by omega) (by omega)] at hc54
                refine lv_iload_n C.x C.b d_MD_reckon_63 rfl (lv_at hl 3 rfl) ?_
                refine lv_iload_n C.x C.b d_MD_reckon_64 rfl (lv_at hl 2 rfl) ?_
                refine lv_iconst (v := nI 4) C.x C.b d_MD_reckon_65 (by decide) ?_
                refine lv_isub C.x C.b d_MD_reckon_66 ?_
                refine k_top (y := nI ((nn + 9 + zer nn) - 4)) (pk_sub (by omega)) ?_
                refine lv_icmp_ge (tgt := 74) C.x C.b d_MD_reckon_67 (by decide) (fun hc67 => ?_) (fun hc67 => ?_)
                · rw [nI_leI (by omega) (by omega)] at hc67
                  refine lv_bipush (v := nI 8) C.x C.b d_MD_reckon_74 (by decide) ?_
                  refine lv_iload_n C.x C.b d_MD_reckon_76 rfl (lv_at hl 1 rfl) ?_
                  refine lv_imul C.x C.b d_MD_reckon_77 ?_
                  refine k_top (y := nI (8 * nn)) (pk_mul _ _) ?_
                  refine lv_bipush (v := nI 8) C.x C.b d_MD_reckon_78 (by decide) ?_
                  refine lv_iload_n C.x C.b d_MD_reckon_80 rfl (lv_at hl 2 rfl) ?_
                  refine lv_iconst (v := nI 1) C.x C.b d_MD_reckon_81 (by decide) ?_
                  refine lv_isub C.x C.b d_MD_reckon_82 ?_
                  refine k_top (y := nI ((nn + 9 + zer nn) - 1)) (pk_sub (by omega)) ?_
                  refine lv_iload_n C.x C.b d_MD_reckon_83 rfl (lv_at hl 3 rfl) ?_
                  refine lv_isub C.x C.b d_MD_reckon_84 ?_
                  refine k_top (y := nI (((nn + 9 + zer nn) - 1) - k9)) (pk_sub (by omega)) ?_
                  refine lv_imul C.x C.b d_MD_reckon_85 ?_
                  refine k_top (y := nI (8 * (((nn + 9 + zer nn) - 1) - k9))) (pk_mul _ _) ?_
                  refine lv_ishr C.x C.b d_MD_reckon_86 ?_
                  refine lv_i2b (v := ((nI (8 * nn)) >>> ((nI (8 * (((nn + 9 + zer nn) - 1) - k9))) &&& 31)).toInt8.toInt32) C.x C.b d_MD_reckon_87 rfl ?_
                  refine k_bast C hP hD hS 1 rfl (j := k9) (by omega) (by omega) d_MD_reckon_88 (fun H locs hP hD hS => ?_)
                  have hP : va_P d.1 clz [(h, ob 1 [.int th, .ref an, .ref ak, .int lt, .int se, .ref au, .int zs, .ref ap, .int mn, .ref aw, .int cz, .ref ac, .int ln, .int ft, .int gz, .ref ag, .ref ax, .ref ao, .ref al, .ref av, .ref ae, .ref ar, .ref ad, .ref aW, .ref aS, .ref aN, .ref aR, .ref aG]), (ar, aB d 800 (upd gr k9 ((((nI (8 * nn)) >>> ((nI (8 * (((nn + 9 + zer nn) - 1) - k9))) &&& 31)).toInt8.toInt32).toInt8.toInt32))), (ad, aB d 32 fd), (aW, aI d 64 fW), (aS, aI d 8 g), (aN, aI d 8 fN), (aR, aI d 64 fR), (aG, aI d 8 fG)] H := hP
                  have hD : va_D A [(h, ob 1 [.int th, .ref an, .ref ak, .int lt, .int se, .ref au, .int zs, .ref ap, .int mn, .ref aw, .int cz, .ref ac, .int ln, .int ft, .int gz, .ref ag, .ref ax, .ref ao, .ref al, .ref av, .ref ae, .ref ar, .ref ad, .ref aW, .ref aS, .ref aN, .ref aR, .ref aG]), (ar, aB d 800 (upd gr k9 ((((nI (8 * nn)) >>> ((nI (8 * (((nn + 9 + zer nn) - 1) - k9))) &&& 31)).toInt8.toInt32).toInt8.toInt32))), (ad, aB d 32 fd), (aW, aI d 64 fW), (aS, aI d 8 g), (aN, aI d 8 fN), (aR, aI d 64 fR), (aG, aI d 8 fG)] := hD
                  refine lv_iinc (v := nI (k9 + 1)) (lv' := [(3, .int (nI (k9 + 1))), (0, .ref h), (1, .int (nI nn)), (2, .int (nI (nn + 9 + zer nn)))]) C.x C.b d_MD_reckon_89 hl (k := 3) rfl (k_inc _ 1) (by decide) rfl (fun ls hl => ?_)
                  refine lv_goto (tgt := 42) C.x C.b d_MD_reckon_92 (by decide) ?_
                  exact ih42 (k9 + 1) (upd gr k9 ((((nI (8 * nn)) >>> ((nI (8 * (((nn + 9 + zer nn) - 1) - k9))) &&& 31)).toInt8.toInt32).toInt8.toInt32)) (by omega) (by omega) (by omega) (upd_le (g := gr) hgr (by rw [sx_sx, pad_w (by rw [hnn]; omega) (by rw [hnn]; omega), hnn]; exact shb8 (by omega) _)) _ _ _ (hP.sub [0, 1, 2, 3, 4, 5, 6, 7] (rfl)) (hD.sub [0, 1, 2, 3, 4, 5, 6, 7] (by decide) (rfl)) hS (lv_sub hl [1, 2, 3, 0] (rfl))
                · rw [nI_leI (by omega) (by omega)] at hc67
                  refine lv_iconst (v := nI 0) C.x C.b d_MD_reckon_70 (by decide) ?_
                  refine lv_goto (tgt := 87) C.x C.b d_MD_reckon_71 (by decide) ?_
                  refine lv_i2b (v := (nI 0).toInt8.toInt32) C.x C.b d_MD_reckon_87 rfl ?_
                  refine k_bast C hP hD hS 1 rfl (j := k9) (by omega) (by omega) d_MD_reckon_88 (fun H locs hP hD hS => ?_)
                  have hP : va_P d.1 clz [(h, ob 1 [.int th, .ref an, .ref ak, .int lt, .int se, .ref au, .int zs, .ref ap, .int mn, .ref aw, .int cz, .ref ac, .int ln, .int ft, .int gz, .ref ag, .ref ax, .ref ao, .ref al, .ref av, .ref ae, .ref ar, .ref ad, .ref aW, .ref aS, .ref aN, .ref aR, .ref aG]), (ar, aB d 800 (upd gr k9 (((nI 0).toInt8.toInt32).toInt8.toInt32))), (ad, aB d 32 fd), (aW, aI d 64 fW), (aS, aI d 8 g), (aN, aI d 8 fN), (aR, aI d 64 fR), (aG, aI d 8 fG)] H := hP
                  have hD : va_D A [(h, ob 1 [.int th, .ref an, .ref ak, .int lt, .int se, .ref au, .int zs, .ref ap, .int mn, .ref aw, .int cz, .ref ac, .int ln, .int ft, .int gz, .ref ag, .ref ax, .ref ao, .ref al, .ref av, .ref ae, .ref ar, .ref ad, .ref aW, .ref aS, .ref aN, .ref aR, .ref aG]), (ar, aB d 800 (upd gr k9 (((nI 0).toInt8.toInt32).toInt8.toInt32))), (ad, aB d 32 fd), (aW, aI d 64 fW), (aS, aI d 8 g), (aN, aI d 8 fN), (aR, aI d 64 fR), (aG, aI d 8 fG)] := hD
                  refine lv_iinc (v := nI (k9 + 1)) (lv' := [(3, .int (nI (k9 + 1))), (0, .ref h), (1, .int (nI nn)), (2, .int (nI (nn + 9 + zer nn)))]) C.x C.b d_MD_reckon_89 hl (k := 3) rfl (k_inc _ 1) (by decide) rfl (fun ls hl => ?_)
                  refine lv_goto (tgt := 42) C.x C.b d_MD_reckon_92 (by decide) ?_
                  exact ih42 (k9 + 1) (upd gr k9 (((nI 0).toInt8.toInt32).toInt8.toInt32)) (by omega) (by omega) (by omega) (upd_le (g := gr) hgr (by rw [sx_sx, pad_z (by omega) (by rw [hnn]; omega)])) _ _ _ (hP.sub [0, 1, 2, 3, 4, 5, 6, 7] (rfl)) (hD.sub [0, 1, 2, 3, 4, 5, 6, 7] (by decide) (rfl)) hS (lv_sub hl [1, 2, 3, 0] (rfl))
              · rw [nI_eq (by omega) (by omega)] at hc54
                refine lv_sipush (v := nI 128) C.x C.b d_MD_reckon_57 (by decide) ?_
                refine lv_goto (tgt := 87) C.x C.b d_MD_reckon_60 (by decide) ?_
                refine lv_i2b (v := (nI 128).toInt8.toInt32) C.x C.b d_MD_reckon_87 rfl ?_
                refine k_bast C hP hD hS 1 rfl (j := k9) (by omega) (by omega) d_MD_reckon_88 (fun H locs hP hD hS => ?_)
                have hP : va_P d.1 clz [(h, ob 1 [.int th, .ref an, .ref ak, .int lt, .int se, .ref au, .int zs, .ref ap, .int mn, .ref aw, .int cz, .ref ac, .int ln, .int ft, .int gz, .ref ag, .ref ax, .ref ao, .ref al, .ref av, .ref ae, .ref ar, .ref ad, .ref aW, .ref aS, .ref aN, .ref aR, .ref aG]), (ar, aB d 800 (upd gr k9 (((nI 128).toInt8.toInt32).toInt8.toInt32))), (ad, aB d 32 fd), (aW, aI d 64 fW), (aS, aI d 8 g), (aN, aI d 8 fN), (aR, aI d 64 fR), (aG, aI d 8 fG)] H := hP
                have hD : va_D A [(h, ob 1 [.int th, .ref an, .ref ak, .int lt, .int se, .ref au, .int zs, .ref ap, .int mn, .ref aw, .int cz, .ref ac, .int ln, .int ft, .int gz, .ref ag, .ref ax, .ref ao, .ref al, .ref av, .ref ae, .ref ar, .ref ad, .ref aW, .ref aS, .ref aN, .ref aR, .ref aG]), (ar, aB d 800 (upd gr k9 (((nI 128).toInt8.toInt32).toInt8.toInt32))), (ad, aB d 32 fd), (aW, aI d 64 fW), (aS, aI d 8 g), (aN, aI d 8 fN), (aR, aI d 64 fR), (aG, aI d 8 fG)] := hD
                refine lv_iinc (v := nI (k9 + 1)) (lv' := [(3, .int (nI (k9 + 1))), (0, .ref h), (1, .int (nI nn)), (2, .int (nI (nn + 9 + zer nn)))]) C.x C.b d_MD_reckon_89 hl (k := 3) rfl (k_inc _ 1) (by decide) rfl (fun ls hl => ?_)
                refine lv_goto (tgt := 42) C.x C.b d_MD_reckon_92 (by decide) ?_
                exact ih42 (k9 + 1) (upd gr k9 (((nI 128).toInt8.toInt32).toInt8.toInt32)) (by omega) (by omega) (by omega) (upd_le (g := gr) hgr (by rw [sx_sx, hc54, ← hnn, pad_a])) _ _ _ (hP.sub [0, 1, 2, 3, 4, 5, 6, 7] (rfl)) (hD.sub [0, 1, 2, 3, 4, 5, 6, 7] (by decide) (rfl)) hS (lv_sub hl [1, 2, 3, 0] (rfl))
        exact L42 ((nn + 9 + zer nn - nn) + 1) nn fr9 (Nat.lt_succ_self _) (Nat.le_refl _) (by omega) (fun i hi => by rw [pad_lo (by omega)]; exact hL.1 i (by omega)) _ _ _ (hP.sub [0, 1, 2, 3, 4, 5, 6, 7] (rfl)) (hD.sub [0, 1, 2, 3, 4, 5, 6, 7] (by decide) (rfl)) hS (lv_sub hl [2, 3, 1, 0] (rfl))
      · rw [nI_leI (by omega) (by omega)] at hc5
        refine lv_aload_n C.x C.b d_MD_reckon_8 rfl (lv_at hl 0 rfl) ?_
        refine k_get C hP 0 rfl rfl i_MD 24 (by decide) m_676 rfl d_MD_reckon_9 ?_
        refine lv_iload_n C.x C.b d_MD_reckon_12 rfl (lv_at hl 2 rfl) ?_
        refine lv_aload_n C.x C.b d_MD_reckon_13 rfl (lv_at hl 0 rfl) ?_
        refine k_get C hP 0 rfl rfl i_MD 27 (by decide) m_679 rfl d_MD_reckon_14 ?_
        refine lv_iload_n C.x C.b d_MD_reckon_17 rfl (lv_at hl 2 rfl) ?_
        refine k_iald C hP 7 rfl (j := j) (by omega) (by omega) d_MD_reckon_18 ?_
        refine k_iast C hP hD hS 4 rfl (j := j) (by omega) (by omega) d_MD_reckon_19 (fun H locs hP hD hS => ?_)
        have hP : va_P d.1 clz [(h, ob 1 [.int th, .ref an, .ref ak, .int lt, .int se, .ref au, .int zs, .ref ap, .int mn, .ref aw, .int cz, .ref ac, .int ln, .int ft, .int gz, .ref ag, .ref ax, .ref ao, .ref al, .ref av, .ref ae, .ref ar, .ref ad, .ref aW, .ref aS, .ref aN, .ref aR, .ref aG]), (ar, aB d 800 fr9), (ad, aB d 32 fd), (aW, aI d 64 fW), (aS, aI d 8 (upd g j (fG j))), (aN, aI d 8 fN), (aR, aI d 64 fR), (aG, aI d 8 fG)] H := hP
        have hD : va_D A [(h, ob 1 [.int th, .ref an, .ref ak, .int lt, .int se, .ref au, .int zs, .ref ap, .int mn, .ref aw, .int cz, .ref ac, .int ln, .int ft, .int gz, .ref ag, .ref ax, .ref ao, .ref al, .ref av, .ref ae, .ref ar, .ref ad, .ref aW, .ref aS, .ref aN, .ref aR, .ref aG]), (ar, aB d 800 fr9), (ad, aB d 32 fd), (aW, aI d 64 fW), (aS, aI d 8 (upd g j (fG j))), (aN, aI d 8 fN), (aR, aI d 64 fR), (aG, aI d 8 fG)] := hD
        refine lv_iinc (v := nI (j + 1)) (lv' := [(2, .int (nI (j + 1))), (0, .ref h), (1, .int (nI nn))]) C.x C.b d_MD_reckon_20 hl (k := 2) rfl (k_inc _ 1) (by decide) rfl (fun ls hl => ?_)
        refine lv_goto (tgt := 2) C.x C.b d_MD_reckon_23 (by decide) ?_
        exact ih2 (j + 1) (upd g j (fG j)) (by omega) (by omega) (upd_le (g := g) hg (hG j (by omega))) _ _ _ (hP.sub [0, 1, 2, 3, 4, 5, 6, 7] (rfl)) (hD.sub [0, 1, 2, 3, 4, 5, 6, 7] (by decide) (rfl)) hS (lv_sub hl [1, 2, 0] (rfl))
  exact L2 ((8 - 0) + 1) 0 fS (Nat.lt_succ_self _) (by omega) (fun i hi => absurd hi (Nat.not_lt_zero _)) _ _ _ (hP.sub [0, 1, 2, 3, 4, 5, 6, 7] (rfl)) (hD.sub [0, 1, 2, 3, 4, 5, 6, 7] (by decide) (rfl)) hS (lv_sub hl [1, 2, 0] (rfl))
theorem mw_MD_padKey : Mw y_MD_padKey b_MD_padKey 5 none 2 := ⟨m_780, m_9, m_779, by decide +kernel⟩
set_option maxHeartbeats 4000000 in
set_option maxRecDepth 100000 in
theorem c_MD_padKey (l : Launch) (d : DD) (h : Nat) (an : Nat) (ak : Nat) (au : Nat) (ap : Nat) (aw : Nat) (ac : Nat) (ag : Nat) (ax : Nat) (ao : Nat) (al : Nat) (av : Nat) (ae : Nat) (ar : Nat) (ad : Nat) (aW : Nat) (aS : Nat) (aN : Nat) (aR : Nat) (aG : Nat) (th : Int32) (lt : Int32) (se : Int32) (zs : Int32) (mn : Int32) (cz : Int32) (ln : Int32) (ft : Int32) (gz : Int32) (fk : Nat → Int32) (fr9 : Nat → Int32) (fr : Nat) (wi : Nat) (mk : Int32) (hfr : fr + 16 ≤ 48) (hmk : ∀ i, i < 4 → byt mk i = nI wi) : Ct l y_MD_padKey b_MD_padKey 5 none 0 0 0 0 d [(h, ob 1 [.int th, .ref an, .ref ak, .int lt, .int se, .ref au, .int zs, .ref ap, .int mn, .ref aw, .int cz, .ref ac, .int ln, .int ft, .int gz, .ref ag, .ref ax, .ref ao, .ref al, .ref av, .ref ae, .ref ar, .ref ad, .ref aW, .ref aS, .ref aN, .ref aR, .ref aG]), (ak, aI d 48 fk), (ar, aB d 800 fr9)] [.ref h, .int (nI fr), .int (nI wi)] (fun (r2 : Nat → Int32) => none) (fun (r2 : Nat → Int32) => ∀ i, i < 64 → r2 i = ((kmk (shf fr fk) mk).getD i 0).toInt8.toInt32) (fun (r2 : Nat → Int32) => [(h, ob 1 [.int th, .ref an, .ref ak, .int lt, .int se, .ref au, .int zs, .ref ap, .int mn, .ref aw, .int cz, .ref ac, .int ln, .int ft, .int gz, .ref ag, .ref ax, .ref ao, .ref al, .ref av, .ref ae, .ref ar, .ref ad, .ref aW, .ref aS, .ref aN, .ref aR, .ref aG]), (ak, aI d 48 fk), (ar, aB d 800 r2)]) := by
  refine Ct.of (by decide +kernel) (Nat.le_of_ble_eq_true rfl) ?_
  intro p e s m below meth c A ls C hP hD hS hl
  have hl : lv_has ls 5 [(0, .ref h), (1, .int (nI fr)), (2, .int (nI wi))] := hl
  have hsz9 := hS.1
  refine lv_iconst (v := nI 0) C.x C.b d_MD_padKey_0 (by decide) ?_
  refine lv_istore_n (lv' := [(3, .int (nI 0)), (0, .ref h), (1, .int (nI fr)), (2, .int (nI wi))]) C.x C.b d_MD_padKey_1 rfl hl (by decide) rfl (fun ls hl => ?_)
  have L2 : ∀ (fuel : Nat) (j : Nat) (g : Nat → Int32), 64 - j < fuel → (j ≤ 64) → (∀ i, i < j → g i = ((kmk (shf fr fk) mk).getD i 0).toInt8.toInt32) → ∀ (H : Heap) (locs : List Loc) (ls : Array Slot), va_P d.1 clz [(h, ob 1 [.int th, .ref an, .ref ak, .int lt, .int se, .ref au, .int zs, .ref ap, .int mn, .ref aw, .int cz, .ref ac, .int ln, .int ft, .int gz, .ref ag, .ref ax, .ref ao, .ref al, .ref av, .ref ae, .ref ar, .ref ad, .ref aW, .ref aS, .ref aN, .ref aR, .ref aG]), (ak, aI d 48 fk), (ar, aB d 800 g)] H → va_D A [(h, ob 1 [.int th, .ref an, .ref ak, .int lt, .int se, .ref au, .int zs, .ref ap, .int mn, .ref aw, .int cz, .ref ac, .int ln, .int ft, .int gz, .ref ag, .ref ax, .ref ao, .ref al, .ref av, .ref ae, .ref ar, .ref ad, .ref aW, .ref aS, .ref aN, .ref aR, .ref aG]), (ak, aI d 48 fk), (ar, aB d 800 g)] → va_S A s.heap H locs → lv_has ls 5 [(0, .ref h), (1, .int (nI fr)), (2, .int (nI wi)), (3, .int (nI j))] → W p l e (Rm 0 0 0 0) s m ([.ref h, .int (nI fr), .int (nI wi)] : List Value).toArray below meth c H locs 0 0 (MQ below (Cout d A (fun (r2 : Nat → Int32) => none) (fun (r2 : Nat → Int32) => ∀ i, i < 64 → r2 i = ((kmk (shf fr fk) mk).getD i 0).toInt8.toInt32) (fun (r2 : Nat → Int32) => [(h, ob 1 [.int th, .ref an, .ref ak, .int lt, .int se, .ref au, .int zs, .ref ap, .int mn, .ref aw, .int cz, .ref ac, .int ln, .int ft, .int gz, .ref ag, .ref ax, .ref ao, .ref al, .ref av, .ref ae, .ref ar, .ref ad, .ref aW, .ref aS, .ref aN, .ref aR, .ref aG]), (ak, aI d 48 fk), (ar, aB d 800 r2)])) ([.ref h, .int (nI fr), .int (nI wi)] : List Value).toArray s 0 0 A) (F0 m 2 ls []) := by
    intro fuel
    induction fuel with
    | zero => intro j g h9; exact absurd h9 (Nat.not_lt_zero _)
    | succ fuel ih2 =>
      intro j g hfu2 hj hg H locs ls hP hD hS hl
      refine lv_iload_n C.x C.b d_MD_padKey_2 rfl (lv_at hl 3 rfl) ?_
      refine lv_bipush (v := nI 64) C.x C.b d_MD_padKey_3 (by decide) ?_
      refine lv_icmp_ge (tgt := 60) C.x C.b d_MD_padKey_5 (by decide) (fun hc5 => ?_) (fun hc5 => ?_)
      · rw [nI_leI (by omega) (by omega)] at hc5
        have hP9 := hP.sub (ws' := [(h, ob 1 [.int th, .ref an, .ref ak, .int lt, .int se, .ref au, .int zs, .ref ap, .int mn, .ref aw, .int cz, .ref ac, .int ln, .int ft, .int gz, .ref ag, .ref ax, .ref ao, .ref al, .ref av, .ref ae, .ref ar, .ref ad, .ref aW, .ref aS, .ref aN, .ref aR, .ref aG]), (ak, aI d 48 fk), (ar, aB d 800 g)]) [0, 1, 2] rfl
        have hD9 := hD.sub (ws' := [(h, ob 1 [.int th, .ref an, .ref ak, .int lt, .int se, .ref au, .int zs, .ref ap, .int mn, .ref aw, .int cz, .ref ac, .int ln, .int ft, .int gz, .ref ag, .ref ax, .ref ao, .ref al, .ref av, .ref ae, .ref ar, .ref ad, .ref aW, .ref aS, .ref aN, .ref aR, .ref aG]), (ak, aI d 48 fk), (ar, aB d 800 g)]) [0, 1, 2] (by decide) rfl
        exact k_vret C hS g (rfl) (by rw [show j = 64 from by omega] at hg; exact hg) hP9 hD9 d_MD_padKey_60
      · rw [nI_leI (by omega) (by omega)] at hc5
        refine lv_iload_n C.x C.b d_MD_padKey_8 rfl (lv_at hl 3 rfl) ?_
        refine lv_bipush (v := nI 32) C.x C.b d_MD_padKey_9 (by decide) ?_
        refine lv_icmp_ge (tgt := 40) C.x C.b d_MD_padKey_11 (by decide) (fun hc11 => ?_) (fun hc11 => ?_)
        · rw [nI_leI (by omega) (by omega)] at hc11
          refine lv_iconst (v := nI 0) C.x C.b d_MD_padKey_40 (by decide) ?_
          refine lv_istore (lv' := [(4, .int (nI 0)), (0, .ref h), (1, .int (nI fr)), (2, .int (nI wi)), (3, .int (nI j))]) C.x C.b d_MD_padKey_41 hl (by decide) rfl (fun ls hl => ?_)
          refine lv_aload_n C.x C.b d_MD_padKey_43 rfl (lv_at hl 1 rfl) ?_
          refine k_get C hP 0 rfl rfl i_MD 21 (by decide) m_673 rfl d_MD_padKey_44 ?_
          refine lv_iload_n C.x C.b d_MD_padKey_47 rfl (lv_at hl 4 rfl) ?_
          refine lv_iload C.x C.b d_MD_padKey_48 (lv_at hl 0 rfl) ?_
          refine lv_iload_n C.x C.b d_MD_padKey_50 rfl (lv_at hl 3 rfl) ?_
          refine lv_ixor C.x C.b d_MD_padKey_51 ?_
          refine lv_i2b (v := ((nI 0) ^^^ (nI wi)).toInt8.toInt32) C.x C.b d_MD_padKey_52 rfl ?_
          refine k_bast C hP hD hS 2 rfl (j := j) (by omega) (by omega) d_MD_padKey_53 (fun H locs hP hD hS => ?_)
          have hP : va_P d.1 clz [(h, ob 1 [.int th, .ref an, .ref ak, .int lt, .int se, .ref au, .int zs, .ref ap, .int mn, .ref aw, .int cz, .ref ac, .int ln, .int ft, .int gz, .ref ag, .ref ax, .ref ao, .ref al, .ref av, .ref ae, .ref ar, .ref ad, .ref aW, .ref aS, .ref aN, .ref aR, .ref aG]), (ak, aI d 48 fk), (ar, aB d 800 (upd g j ((((nI 0) ^^^ (nI wi)).toInt8.toInt32).toInt8.toInt32)))] H := hP
          have hD : va_D A [(h, ob 1 [.int th, .ref an, .ref ak, .int lt, .int se, .ref au, .int zs, .ref ap, .int mn, .ref aw, .int cz, .ref ac, .int ln, .int ft, .int gz, .ref ag, .ref ax, .ref ao, .ref al, .ref av, .ref ae, .ref ar, .ref ad, .ref aW, .ref aS, .ref aN, .ref aR, .ref aG]), (ak, aI d 48 fk), (ar, aB d 800 (upd g j ((((nI 0) ^^^ (nI wi)).toInt8.toInt32).toInt8.toInt32)))] := hD
          refine lv_iinc (v := nI (j + 1)) (lv' := [(3, .int (nI (j + 1))), (4, .int (nI 0)), (0, .ref h), (1, .int (nI fr)), (2, .int (nI wi))]) C.x C.b d_MD_padKey_54 hl (k := 4) rfl (k_inc _ 1) (by decide) rfl (fun ls hl => ?_)
          refine lv_goto (tgt := 2) C.x C.b d_MD_padKey_57 (by decide) ?_
          exact ih2 (j + 1) (upd g j ((((nI 0) ^^^ (nI wi)).toInt8.toInt32).toInt8.toInt32)) (by omega) (by omega) (upd_le (g := g) hg (by rw [sx_sx, kmk_hi (by omega) (by omega), hmk _ (by omega), show nI 0 ^^^ nI wi = nI wi from Int32.zero_xor])) _ _ _ (hP.sub [0, 1, 2] (rfl)) (hD.sub [0, 1, 2] (by decide) (rfl)) hS (lv_sub hl [2, 3, 4, 0] (rfl))
        · rw [nI_leI (by omega) (by omega)] at hc11
          refine lv_aload_n C.x C.b d_MD_padKey_14 rfl (lv_at hl 0 rfl) ?_
          refine k_get C hP 0 rfl rfl i_MD 2 (by decide) m_654 rfl d_MD_padKey_15 ?_
          refine lv_iload_n C.x C.b d_MD_padKey_18 rfl (lv_at hl 1 rfl) ?_
          refine lv_bipush (v := nI 8) C.x C.b d_MD_padKey_19 (by decide) ?_
          refine lv_iadd C.x C.b d_MD_padKey_21 ?_
          refine k_top (y := nI (fr + 8)) (nI_add _ _) ?_
          refine lv_iload_n C.x C.b d_MD_padKey_22 rfl (lv_at hl 3 rfl) ?_
          refine lv_iconst (v := nI 4) C.x C.b d_MD_padKey_23 (by decide) ?_
          refine lv_idiv C.x C.b d_MD_padKey_24 (by decide) ?_
          refine k_top (y := nI (j / 4)) (pk_div (by omega) (by omega) (by omega)) ?_
          refine lv_iadd C.x C.b d_MD_padKey_25 ?_
          refine k_top (y := nI (fr + 8 + (j / 4))) (nI_add _ _) ?_
          refine k_iald C hP 1 rfl (j := (fr + 8 + (j / 4))) (by omega) (by omega) d_MD_padKey_26 ?_
          refine lv_bipush (v := nI 24) C.x C.b d_MD_padKey_27 (by decide) ?_
          refine lv_bipush (v := nI 8) C.x C.b d_MD_padKey_29 (by decide) ?_
          refine lv_iload_n C.x C.b d_MD_padKey_31 rfl (lv_at hl 3 rfl) ?_
          refine lv_iconst (v := nI 4) C.x C.b d_MD_padKey_32 (by decide) ?_
          refine lv_irem C.x C.b d_MD_padKey_33 (by decide) ?_
          refine k_top (y := nI (j % 4)) (pk_rem (by omega) (by omega) (by omega)) ?_
          refine lv_imul C.x C.b d_MD_padKey_34 ?_
          refine k_top (y := nI (8 * (j % 4))) (pk_mul _ _) ?_
          refine lv_isub C.x C.b d_MD_padKey_35 ?_
          refine k_top (y := nI (24 - (8 * (j % 4)))) (pk_sub (by omega)) ?_
          refine lv_ishr C.x C.b d_MD_padKey_36 ?_
          refine lv_goto (tgt := 41) C.x C.b d_MD_padKey_37 (by decide) ?_
          refine lv_istore (lv' := [(4, .int ((fk (fr + 8 + (j / 4))) >>> ((nI (24 - (8 * (j % 4)))) &&& 31))), (0, .ref h), (1, .int (nI fr)), (2, .int (nI wi)), (3, .int (nI j))]) C.x C.b d_MD_padKey_41 hl (by decide) rfl (fun ls hl => ?_)
          refine lv_aload_n C.x C.b d_MD_padKey_43 rfl (lv_at hl 1 rfl) ?_
          refine k_get C hP 0 rfl rfl i_MD 21 (by decide) m_673 rfl d_MD_padKey_44 ?_
          refine lv_iload_n C.x C.b d_MD_padKey_47 rfl (lv_at hl 4 rfl) ?_
          refine lv_iload C.x C.b d_MD_padKey_48 (lv_at hl 0 rfl) ?_
          refine lv_iload_n C.x C.b d_MD_padKey_50 rfl (lv_at hl 3 rfl) ?_
          refine lv_ixor C.x C.b d_MD_padKey_51 ?_
          refine lv_i2b (v := (((fk (fr + 8 + (j / 4))) >>> ((nI (24 - (8 * (j % 4)))) &&& 31)) ^^^ (nI wi)).toInt8.toInt32) C.x C.b d_MD_padKey_52 rfl ?_
          refine k_bast C hP hD hS 2 rfl (j := j) (by omega) (by omega) d_MD_padKey_53 (fun H locs hP hD hS => ?_)
          have hP : va_P d.1 clz [(h, ob 1 [.int th, .ref an, .ref ak, .int lt, .int se, .ref au, .int zs, .ref ap, .int mn, .ref aw, .int cz, .ref ac, .int ln, .int ft, .int gz, .ref ag, .ref ax, .ref ao, .ref al, .ref av, .ref ae, .ref ar, .ref ad, .ref aW, .ref aS, .ref aN, .ref aR, .ref aG]), (ak, aI d 48 fk), (ar, aB d 800 (upd g j (((((fk (fr + 8 + (j / 4))) >>> ((nI (24 - (8 * (j % 4)))) &&& 31)) ^^^ (nI wi)).toInt8.toInt32).toInt8.toInt32)))] H := hP
          have hD : va_D A [(h, ob 1 [.int th, .ref an, .ref ak, .int lt, .int se, .ref au, .int zs, .ref ap, .int mn, .ref aw, .int cz, .ref ac, .int ln, .int ft, .int gz, .ref ag, .ref ax, .ref ao, .ref al, .ref av, .ref ae, .ref ar, .ref ad, .ref aW, .ref aS, .ref aN, .ref aR, .ref aG]), (ak, aI d 48 fk), (ar, aB d 800 (upd g j (((((fk (fr + 8 + (j / 4))) >>> ((nI (24 - (8 * (j % 4)))) &&& 31)) ^^^ (nI wi)).toInt8.toInt32).toInt8.toInt32)))] := hD
          refine lv_iinc (v := nI (j + 1)) (lv' := [(3, .int (nI (j + 1))), (4, .int ((fk (fr + 8 + (j / 4))) >>> ((nI (24 - (8 * (j % 4)))) &&& 31))), (0, .ref h), (1, .int (nI fr)), (2, .int (nI wi))]) C.x C.b d_MD_padKey_54 hl (k := 4) rfl (k_inc _ 1) (by decide) rfl (fun ls hl => ?_)
          refine lv_goto (tgt := 2) C.x C.b d_MD_padKey_57 (by decide) ?_
          exact ih2 (j + 1) (upd g j (((((fk (fr + 8 + (j / 4))) >>> ((nI (24 - (8 * (j % 4)))) &&& 31)) ^^^ (nI wi)).toInt8.toInt32).toInt8.toInt32)) (by omega) (by omega) (upd_le (g := g) hg (by rw [sx_sx, kmk_lo (by omega), pdk_lo (by omega) hmk]; unfold shf; rw [Nat.add_assoc])) _ _ _ (hP.sub [0, 1, 2] (rfl)) (hD.sub [0, 1, 2] (by decide) (rfl)) hS (lv_sub hl [2, 3, 4, 0] (rfl))
  exact L2 ((64 - 0) + 1) 0 fr9 (Nat.lt_succ_self _) (by omega) (fun i hi => absurd hi (Nat.not_lt_zero _)) _ _ _ (hP.sub [0, 1, 2] (rfl)) (hD.sub [0, 1, 2] (by decide) (rfl)) hS (lv_sub hl [1, 2, 3, 0] (rfl))
theorem mw_MD_seal : Mw y_MD_seal b_MD_seal 4 none 2 := ⟨m_776, m_9, m_775, by decide +kernel⟩
set_option maxHeartbeats 4000000 in
set_option maxRecDepth 100000 in
theorem c_MD_seal (l : Launch) (d : DD) (h : Nat) (an : Nat) (ak : Nat) (au : Nat) (ap : Nat) (aw : Nat) (ac : Nat) (ag : Nat) (ax : Nat) (ao : Nat) (al : Nat) (av : Nat) (ae : Nat) (ar : Nat) (ad : Nat) (aW : Nat) (aS : Nat) (aN : Nat) (aR : Nat) (aG : Nat) (th : Int32) (lt : Int32) (se : Int32) (zs : Int32) (mn : Int32) (cz : Int32) (ln : Int32) (ft : Int32) (gz : Int32) (fk : Nat → Int32) (fu : Nat → Int32) (fe : Nat → Int32) (fr9 : Nat → Int32) (fd : Nat → Int32) (fW : Nat → Int32) (fS : Nat → Int32) (fN : Nat → Int32) (fR : Nat → Int32) (fG : Nat → Int32) (si : Nat) (nn : Nat) (L : List Int32) (hR : ∀ t, t < 64 → fR t = dgr t) (hG : ∀ j, j < 8 → fG j = dgs j) (hL : BA fe L) (hnn : L.length = nn) (hn5 : nn ≤ 544) (hsi : si < 2) : Ct l y_MD_seal b_MD_seal 4 none 3 72 0 0 d [(h, ob 1 [.int th, .ref an, .ref ak, .int lt, .int se, .ref au, .int zs, .ref ap, .int mn, .ref aw, .int cz, .ref ac, .int ln, .int ft, .int gz, .ref ag, .ref ax, .ref ao, .ref al, .ref av, .ref ae, .ref ar, .ref ad, .ref aW, .ref aS, .ref aN, .ref aR, .ref aG]), (ak, aI d 48 fk), (au, aI d 2 fu), (ae, aB d 600 fe), (ar, aB d 800 fr9), (ad, aB d 32 fd), (aW, aI d 64 fW), (aS, aI d 8 fS), (aN, aI d 8 fN), (aR, aI d 64 fR), (aG, aI d 8 fG)] [.ref h, .int (nI si), .int (nI nn)] (fun (u : (Nat → Int32) × (Nat → Int32) × (Nat → Int32) × (Nat → Int32) × (Nat → Int32)) => match u with | (r2, d2, W2, S2, N2) => none) (fun (u : (Nat → Int32) × (Nat → Int32) × (Nat → Int32) × (Nat → Int32) × (Nat → Int32)) => match u with | (r2, d2, W2, S2, N2) => BA d2 (slb (sealw (shf (16 * si) fk) (fu si) L) 32)) (fun (u : (Nat → Int32) × (Nat → Int32) × (Nat → Int32) × (Nat → Int32) × (Nat → Int32)) => match u with | (r2, d2, W2, S2, N2) => [(h, ob 1 [.int th, .ref an, .ref ak, .int lt, .int se, .ref au, .int zs, .ref ap, .int mn, .ref aw, .int cz, .ref ac, .int ln, .int ft, .int gz, .ref ag, .ref ax, .ref ao, .ref al, .ref av, .ref ae, .ref ar, .ref ad, .ref aW, .ref aS, .ref aN, .ref aR, .ref aG]), (ak, aI d 48 fk), (au, aI d 2 fu), (ae, aB d 600 fe), (ar, aB d 800 r2), (ad, aB d 32 d2), (aW, aI d 64 W2), (aS, aI d 8 S2), (aN, aI d 8 N2), (aR, aI d 64 fR), (aG, aI d 8 fG)]) := by
  refine Ct.of (by decide +kernel) (Nat.le_of_ble_eq_true rfl) ?_
  intro p e s m below meth c A ls C hP hD hS hl
  have hl : lv_has ls 4 [(0, .ref h), (1, .int (nI si)), (2, .int (nI nn))] := hl
  have hsz9 := hS.1
  refine lv_aload_n C.x C.b d_MD_seal_0 rfl (lv_at hl 0 rfl) ?_
  refine lv_bipush (v := nI 16) C.x C.b d_MD_seal_1 (by decide) ?_
  refine lv_iload_n C.x C.b d_MD_seal_3 rfl (lv_at hl 1 rfl) ?_
  refine lv_imul C.x C.b d_MD_seal_4 ?_
  refine k_top (y := nI (16 * si)) (pk_mul _ _) ?_
  refine lv_bipush (v := nI 54) C.x C.b d_MD_seal_5 (by decide) ?_
  refine k_callV (As := [.int (nI (16 * si)), .int (nI 54)]) (rest := []) (wc := [(h, ob 1 [.int th, .ref an, .ref ak, .int lt, .int se, .ref au, .int zs, .ref ap, .int mn, .ref aw, .int cz, .ref ac, .int ln, .int ft, .int gz, .ref ag, .ref ax, .ref ao, .ref al, .ref av, .ref ae, .ref ar, .ref ad, .ref aW, .ref aS, .ref aN, .ref aR, .ref aG]), (ak, aI d 48 fk), (ar, aB d 800 fr9)]) (wr := [(au, aI d 2 fu), (ae, aB d 600 fe), (ad, aB d 32 fd), (aW, aI d 64 fW), (aS, aI d 8 fS), (aN, aI d 8 fN), (aR, aI d 64 fR), (aG, aI d 8 fG)]) C (c_MD_padKey l d h an ak au ap aw ac ag ax ao al av ae ar ad aW aS aN aR aG th lt se zs mn cz ln ft gz fk fr9 (16 * si) 54 iMk (by omega) (byt_iMk)) mw_MD_padKey ms_23 m_777 hP hD hS [0, 1, 4] [2, 3, 5, 6, 7, 8, 9, 10] rfl rfl (by decide) (by decide) (by decide) 0 rfl rfl rfl rfl hl.1 (Nat.le_of_ble_eq_true rfl) d_MD_seal_7 ⟨Nat.le_of_ble_eq_true rfl, Nat.le_of_ble_eq_true rfl⟩ ⟨by decide, by decide⟩ (fun r1 H locs hr1 hP hD hS => ?_)
  have hP : va_P d.1 clz [(au, aI d 2 fu), (ae, aB d 600 fe), (ad, aB d 32 fd), (aW, aI d 64 fW), (aS, aI d 8 fS), (aN, aI d 8 fN), (aR, aI d 64 fR), (aG, aI d 8 fG), (h, ob 1 [.int th, .ref an, .ref ak, .int lt, .int se, .ref au, .int zs, .ref ap, .int mn, .ref aw, .int cz, .ref ac, .int ln, .int ft, .int gz, .ref ag, .ref ax, .ref ao, .ref al, .ref av, .ref ae, .ref ar, .ref ad, .ref aW, .ref aS, .ref aN, .ref aR, .ref aG]), (ak, aI d 48 fk), (ar, aB d 800 r1)] H := hP
  have hD : va_D A [(au, aI d 2 fu), (ae, aB d 600 fe), (ad, aB d 32 fd), (aW, aI d 64 fW), (aS, aI d 8 fS), (aN, aI d 8 fN), (aR, aI d 64 fR), (aG, aI d 8 fG), (h, ob 1 [.int th, .ref an, .ref ak, .int lt, .int se, .ref au, .int zs, .ref ap, .int mn, .ref aw, .int cz, .ref ac, .int ln, .int ft, .int gz, .ref ag, .ref ax, .ref ao, .ref al, .ref av, .ref ae, .ref ar, .ref ad, .ref aW, .ref aS, .ref aN, .ref aR, .ref aG]), (ak, aI d 48 fk), (ar, aB d 800 r1)] := hD
  refine W.eq (g2 := F0 m 10 ls []) rfl ?_
  have hr1 : ∀ i, i < 64 → r1 i = ((kmk (shf (16 * si) fk) iMk).getD i 0).toInt8.toInt32 := hr1
  refine lv_iconst (v := nI 0) C.x C.b d_MD_seal_10 (by decide) ?_
  refine lv_istore_n (lv' := [(3, .int (nI 0)), (0, .ref h), (1, .int (nI si)), (2, .int (nI nn))]) C.x C.b d_MD_seal_11 rfl hl (by decide) rfl (fun ls hl => ?_)
  refine lv_iload_n C.x C.b d_MD_seal_12 rfl (lv_at hl 0 rfl) ?_
  refine lv_iconst (v := nI 4) C.x C.b d_MD_seal_13 (by decide) ?_
  refine lv_icmp_ge (tgt := 47) C.x C.b d_MD_seal_14 (by decide) (fun h9 => by first | exact absurd h9 (by decide) | exact absurd (by decide) h9) (fun _ => ?_)
  refine lv_aload_n C.x C.b d_MD_seal_17 rfl (lv_at hl 1 rfl) ?_
  refine k_get C hP 8 rfl rfl i_MD 21 (by decide) m_673 rfl d_MD_seal_18 ?_
  refine lv_bipush (v := nI 64) C.x C.b d_MD_seal_21 (by decide) ?_
  refine lv_iload_n C.x C.b d_MD_seal_23 rfl (lv_at hl 0 rfl) ?_
  refine lv_iadd C.x C.b d_MD_seal_24 ?_
  refine k_top (y := nI 64) (nI_add _ _) ?_
  refine lv_aload_n C.x C.b d_MD_seal_25 rfl (lv_at hl 1 rfl) ?_
  refine k_get C hP 8 rfl rfl i_MD 5 (by decide) m_657 rfl d_MD_seal_26 ?_
  refine lv_iload_n C.x C.b d_MD_seal_29 rfl (lv_at hl 2 rfl) ?_
  refine k_iald C hP 0 rfl (j := si) (by omega) (by omega) d_MD_seal_30 ?_
  refine lv_bipush (v := nI 24) C.x C.b d_MD_seal_31 (by decide) ?_
  refine lv_bipush (v := nI 8) C.x C.b d_MD_seal_33 (by decide) ?_
  refine lv_iload_n C.x C.b d_MD_seal_35 rfl (lv_at hl 0 rfl) ?_
  refine lv_imul C.x C.b d_MD_seal_36 ?_
  refine k_top (y := nI 0) (pk_mul _ _) ?_
  refine lv_isub C.x C.b d_MD_seal_37 ?_
  refine k_top (y := nI (24 - 0)) (pk_sub (by omega)) ?_
  refine lv_ishr C.x C.b d_MD_seal_38 ?_
  refine lv_i2b (v := ((fu si) >>> ((nI (24 - 0)) &&& 31)).toInt8.toInt32) C.x C.b d_MD_seal_39 rfl ?_
  refine k_bast C hP hD hS 10 rfl (j := 64) (by omega) (by omega) d_MD_seal_40 (fun H locs hP hD hS => ?_)
  have hP : va_P d.1 clz [(au, aI d 2 fu), (ae, aB d 600 fe), (ad, aB d 32 fd), (aW, aI d 64 fW), (aS, aI d 8 fS), (aN, aI d 8 fN), (aR, aI d 64 fR), (aG, aI d 8 fG), (h, ob 1 [.int th, .ref an, .ref ak, .int lt, .int se, .ref au, .int zs, .ref ap, .int mn, .ref aw, .int cz, .ref ac, .int ln, .int ft, .int gz, .ref ag, .ref ax, .ref ao, .ref al, .ref av, .ref ae, .ref ar, .ref ad, .ref aW, .ref aS, .ref aN, .ref aR, .ref aG]), (ak, aI d 48 fk), (ar, aB d 800 (upd r1 64 ((((fu si) >>> ((nI (24 - 0)) &&& 31)).toInt8.toInt32).toInt8.toInt32)))] H := hP
  have hD : va_D A [(au, aI d 2 fu), (ae, aB d 600 fe), (ad, aB d 32 fd), (aW, aI d 64 fW), (aS, aI d 8 fS), (aN, aI d 8 fN), (aR, aI d 64 fR), (aG, aI d 8 fG), (h, ob 1 [.int th, .ref an, .ref ak, .int lt, .int se, .ref au, .int zs, .ref ap, .int mn, .ref aw, .int cz, .ref ac, .int ln, .int ft, .int gz, .ref ag, .ref ax, .ref ao, .ref al, .ref av, .ref ae, .ref ar, .ref ad, .ref aW, .ref aS, .ref aN, .ref aR, .ref aG]), (ak, aI d 48 fk), (ar, aB d 800 (upd r1 64 ((((fu si) >>> ((nI (24 - 0)) &&& 31)).toInt8.toInt32).toInt8.toInt32)))] := hD
  refine lv_iinc (v := nI 1) (lv' := [(3, .int (nI 1)), (0, .ref h), (1, .int (nI si)), (2, .int (nI nn))]) C.x C.b d_MD_seal_41 hl (k := 0) rfl (by decide) (by decide) rfl (fun ls hl => ?_)
  refine lv_goto (tgt := 12) C.x C.b d_MD_seal_44 (by decide) ?_
  refine lv_iload_n C.x C.b d_MD_seal_12 rfl (lv_at hl 0 rfl) ?_
  refine lv_iconst (v := nI 4) C.x C.b d_MD_seal_13 (by decide) ?_
  refine lv_icmp_ge (tgt := 47) C.x C.b d_MD_seal_14 (by decide) (fun h9 => by first | exact absurd h9 (by decide) | exact absurd (by decide) h9) (fun _ => ?_)
  refine lv_aload_n C.x C.b d_MD_seal_17 rfl (lv_at hl 1 rfl) ?_
  refine k_get C hP 8 rfl rfl i_MD 21 (by decide) m_673 rfl d_MD_seal_18 ?_
  refine lv_bipush (v := nI 64) C.x C.b d_MD_seal_21 (by decide) ?_
  refine lv_iload_n C.x C.b d_MD_seal_23 rfl (lv_at hl 0 rfl) ?_
  refine lv_iadd C.x C.b d_MD_seal_24 ?_
  refine k_top (y := nI 65) (nI_add _ _) ?_
  refine lv_aload_n C.x C.b d_MD_seal_25 rfl (lv_at hl 1 rfl) ?_
  refine k_get C hP 8 rfl rfl i_MD 5 (by decide) m_657 rfl d_MD_seal_26 ?_
  refine lv_iload_n C.x C.b d_MD_seal_29 rfl (lv_at hl 2 rfl) ?_
  refine k_iald C hP 0 rfl (j := si) (by omega) (by omega) d_MD_seal_30 ?_
  refine lv_bipush (v := nI 24) C.x C.b d_MD_seal_31 (by decide) ?_
  refine lv_bipush (v := nI 8) C.x C.b d_MD_seal_33 (by decide) ?_
  refine lv_iload_n C.x C.b d_MD_seal_35 rfl (lv_at hl 0 rfl) ?_
  refine lv_imul C.x C.b d_MD_seal_36 ?_
  refine k_top (y := nI 8) (pk_mul _ _) ?_
  refine lv_isub C.x C.b d_MD_seal_37 ?_
  refine k_top (y := nI 16) (by decide) ?_
  refine lv_ishr C.x C.b d_MD_seal_38 ?_
  refine lv_i2b (v := ((fu si) >>> ((nI 16) &&& 31)).toInt8.toInt32) C.x C.b d_MD_seal_39 rfl ?_
  refine k_bast C hP hD hS 10 rfl (j := 65) (by omega) (by omega) d_MD_seal_40 (fun H locs hP hD hS => ?_)
  have hP : va_P d.1 clz [(au, aI d 2 fu), (ae, aB d 600 fe), (ad, aB d 32 fd), (aW, aI d 64 fW), (aS, aI d 8 fS), (aN, aI d 8 fN), (aR, aI d 64 fR), (aG, aI d 8 fG), (h, ob 1 [.int th, .ref an, .ref ak, .int lt, .int se, .ref au, .int zs, .ref ap, .int mn, .ref aw, .int cz, .ref ac, .int ln, .int ft, .int gz, .ref ag, .ref ax, .ref ao, .ref al, .ref av, .ref ae, .ref ar, .ref ad, .ref aW, .ref aS, .ref aN, .ref aR, .ref aG]), (ak, aI d 48 fk), (ar, aB d 800 (upd (upd r1 64 ((((fu si) >>> ((nI (24 - 0)) &&& 31)).toInt8.toInt32).toInt8.toInt32)) 65 ((((fu si) >>> ((nI 16) &&& 31)).toInt8.toInt32).toInt8.toInt32)))] H := hP
  have hD : va_D A [(au, aI d 2 fu), (ae, aB d 600 fe), (ad, aB d 32 fd), (aW, aI d 64 fW), (aS, aI d 8 fS), (aN, aI d 8 fN), (aR, aI d 64 fR), (aG, aI d 8 fG), (h, ob 1 [.int th, .ref an, .ref ak, .int lt, .int se, .ref au, .int zs, .ref ap, .int mn, .ref aw, .int cz, .ref ac, .int ln, .int ft, .int gz, .ref ag, .ref ax, .ref ao, .ref al, .ref av, .ref ae, .ref ar, .ref ad, .ref aW, .ref aS, .ref aN, .ref aR, .ref aG]), (ak, aI d 48 fk), (ar, aB d 800 (upd (upd r1 64 ((((fu si) >>> ((nI (24 - 0)) &&& 31)).toInt8.toInt32).toInt8.toInt32)) 65 ((((fu si) >>> ((nI 16) &&& 31)).toInt8.toInt32).toInt8.toInt32)))] := hD
  refine lv_iinc (v := nI 2) (lv' := [(3, .int (nI 2)), (0, .ref h), (1, .int (nI si)), (2, .int (nI nn))]) C.x C.b d_MD_seal_41 hl (k := 0) rfl (by decide) (by decide) rfl (fun ls hl => ?_)
  refine lv_goto (tgt := 12) C.x C.b d_MD_seal_44 (by decide) ?_
  refine lv_iload_n C.x C.b d_MD_seal_12 rfl (lv_at hl 0 rfl) ?_
  refine lv_iconst (v := nI 4) C.x C.b d_MD_seal_13 (by decide) ?_
  refine lv_icmp_ge (tgt := 47) C.x C.b d_MD_seal_14 (by decide) (fun h9 => by first | exact absurd h9 (by decide) | exact absurd (by decide) h9) (fun _ => ?_)
  refine lv_aload_n C.x C.b d_MD_seal_17 rfl (lv_at hl 1 rfl) ?_
  refine k_get C hP 8 rfl rfl i_MD 21 (by decide) m_673 rfl d_MD_seal_18 ?_
  refine lv_bipush (v := nI 64) C.x C.b d_MD_seal_21 (by decide) ?_
  refine lv_iload_n C.x C.b d_MD_seal_23 rfl (lv_at hl 0 rfl) ?_
  refine lv_iadd C.x C.b d_MD_seal_24 ?_
  refine k_top (y := nI 66) (nI_add _ _) ?_
  refine lv_aload_n C.x C.b d_MD_seal_25 rfl (lv_at hl 1 rfl) ?_
  refine k_get C hP 8 rfl rfl i_MD 5 (by decide) m_657 rfl d_MD_seal_26 ?_
  refine lv_iload_n C.x C.b d_MD_seal_29 rfl (lv_at hl 2 rfl) ?_
  refine k_iald C hP 0 rfl (j := si) (by omega) (by omega) d_MD_seal_30 ?_
  refine lv_bipush (v := nI 24) C.x C.b d_MD_seal_31 (by decide) ?_
  refine lv_bipush (v := nI 8) C.x C.b d_MD_seal_33 (by decide) ?_
  refine lv_iload_n C.x C.b d_MD_seal_35 rfl (lv_at hl 0 rfl) ?_
  refine lv_imul C.x C.b d_MD_seal_36 ?_
  refine k_top (y := nI 16) (pk_mul _ _) ?_
  refine lv_isub C.x C.b d_MD_seal_37 ?_
  refine k_top (y := nI 8) (by decide) ?_
  refine lv_ishr C.x C.b d_MD_seal_38 ?_
  refine lv_i2b (v := ((fu si) >>> ((nI 8) &&& 31)).toInt8.toInt32) C.x C.b d_MD_seal_39 rfl ?_
  refine k_bast C hP hD hS 10 rfl (j := 66) (by omega) (by omega) d_MD_seal_40 (fun H locs hP hD hS => ?_)
  have hP : va_P d.1 clz [(au, aI d 2 fu), (ae, aB d 600 fe), (ad, aB d 32 fd), (aW, aI d 64 fW), (aS, aI d 8 fS), (aN, aI d 8 fN), (aR, aI d 64 fR), (aG, aI d 8 fG), (h, ob 1 [.int th, .ref an, .ref ak, .int lt, .int se, .ref au, .int zs, .ref ap, .int mn, .ref aw, .int cz, .ref ac, .int ln, .int ft, .int gz, .ref ag, .ref ax, .ref ao, .ref al, .ref av, .ref ae, .ref ar, .ref ad, .ref aW, .ref aS, .ref aN, .ref aR, .ref aG]), (ak, aI d 48 fk), (ar, aB d 800 (upd (upd (upd r1 64 ((((fu si) >>> ((nI (24 - 0)) &&& 31)).toInt8.toInt32).toInt8.toInt32)) 65 ((((fu si) >>> ((nI 16) &&& 31)).toInt8.toInt32).toInt8.toInt32)) 66 ((((fu si) >>> ((nI 8) &&& 31)).toInt8.toInt32).toInt8.toInt32)))] H := hP
  have hD : va_D A [(au, aI d 2 fu), (ae, aB d 600 fe), (ad, aB d 32 fd), (aW, aI d 64 fW), (aS, aI d 8 fS), (aN, aI d 8 fN), (aR, aI d 64 fR), (aG, aI d 8 fG), (h, ob 1 [.int th, .ref an, .ref ak, .int lt, .int se, .ref au, .int zs, .ref ap, .int mn, .ref aw, .int cz, .ref ac, .int ln, .int ft, .int gz, .ref ag, .ref ax, .ref ao, .ref al, .ref av, .ref ae, .ref ar, .ref ad, .ref aW, .ref aS, .ref aN, .ref aR, .ref aG]), (ak, aI d 48 fk), (ar, aB d 800 (upd (upd (upd r1 64 ((((fu si) >>> ((nI (24 - 0)) &&& 31)).toInt8.toInt32).toInt8.toInt32)) 65 ((((fu si) >>> ((nI 16) &&& 31)).toInt8.toInt32).toInt8.toInt32)) 66 ((((fu si) >>> ((nI 8) &&& 31)).toInt8.toInt32).toInt8.toInt32)))] := hD
  refine lv_iinc (v := nI 3) (lv' := [(3, .int (nI 3)), (0, .ref h), (1, .int (nI si)), (2, .int (nI nn))]) C.x C.b d_MD_seal_41 hl (k := 0) rfl (by decide) (by decide) rfl (fun ls hl => ?_)
  refine lv_goto (tgt := 12) C.x C.b d_MD_seal_44 (by decide) ?_
  refine lv_iload_n C.x C.b d_MD_seal_12 rfl (lv_at hl 0 rfl) ?_
  refine lv_iconst (v := nI 4) C.x C.b d_MD_seal_13 (by decide) ?_
  refine lv_icmp_ge (tgt := 47) C.x C.b d_MD_seal_14 (by decide) (fun h9 => by first | exact absurd h9 (by decide) | exact absurd (by decide) h9) (fun _ => ?_)
  refine lv_aload_n C.x C.b d_MD_seal_17 rfl (lv_at hl 1 rfl) ?_
  refine k_get C hP 8 rfl rfl i_MD 21 (by decide) m_673 rfl d_MD_seal_18 ?_
  refine lv_bipush (v := nI 64) C.x C.b d_MD_seal_21 (by decide) ?_
  refine lv_iload_n C.x C.b d_MD_seal_23 rfl (lv_at hl 0 rfl) ?_
  refine lv_iadd C.x C.b d_MD_seal_24 ?_
  refine k_top (y := nI 67) (nI_add _ _) ?_
  refine lv_aload_n C.x C.b d_MD_seal_25 rfl (lv_at hl 1 rfl) ?_
  refine k_get C hP 8 rfl rfl i_MD 5 (by decide) m_657 rfl d_MD_seal_26 ?_
  refine lv_iload_n C.x C.b d_MD_seal_29 rfl (lv_at hl 2 rfl) ?_
  refine k_iald C hP 0 rfl (j := si) (by omega) (by omega) d_MD_seal_30 ?_
  refine lv_bipush (v := nI 24) C.x C.b d_MD_seal_31 (by decide) ?_
  refine lv_bipush (v := nI 8) C.x C.b d_MD_seal_33 (by decide) ?_
  refine lv_iload_n C.x C.b d_MD_seal_35 rfl (lv_at hl 0 rfl) ?_
  refine lv_imul C.x C.b d_MD_seal_36 ?_
  refine k_top (y := nI 24) (pk_mul _ _) ?_
  refine lv_isub C.x C.b d_MD_seal_37 ?_
  refine k_top (y := nI 0) (by decide) ?_
  refine lv_ishr C.x C.b d_MD_seal_38 ?_
  refine lv_i2b (v := ((fu si) >>> ((nI 0) &&& 31)).toInt8.toInt32) C.x C.b d_MD_seal_39 rfl ?_
  refine k_bast C hP hD hS 10 rfl (j := 67) (by omega) (by omega) d_MD_seal_40 (fun H locs hP hD hS => ?_)
  have hP : va_P d.1 clz [(au, aI d 2 fu), (ae, aB d 600 fe), (ad, aB d 32 fd), (aW, aI d 64 fW), (aS, aI d 8 fS), (aN, aI d 8 fN), (aR, aI d 64 fR), (aG, aI d 8 fG), (h, ob 1 [.int th, .ref an, .ref ak, .int lt, .int se, .ref au, .int zs, .ref ap, .int mn, .ref aw, .int cz, .ref ac, .int ln, .int ft, .int gz, .ref ag, .ref ax, .ref ao, .ref al, .ref av, .ref ae, .ref ar, .ref ad, .ref aW, .ref aS, .ref aN, .ref aR, .ref aG]), (ak, aI d 48 fk), (ar, aB d 800 (upd (upd (upd (upd r1 64 ((((fu si) >>> ((nI (24 - 0)) &&& 31)).toInt8.toInt32).toInt8.toInt32)) 65 ((((fu si) >>> ((nI 16) &&& 31)).toInt8.toInt32).toInt8.toInt32)) 66 ((((fu si) >>> ((nI 8) &&& 31)).toInt8.toInt32).toInt8.toInt32)) 67 ((((fu si) >>> ((nI 0) &&& 31)).toInt8.toInt32).toInt8.toInt32)))] H := hP
  have hD : va_D A [(au, aI d 2 fu), (ae, aB d 600 fe), (ad, aB d 32 fd), (aW, aI d 64 fW), (aS, aI d 8 fS), (aN, aI d 8 fN), (aR, aI d 64 fR), (aG, aI d 8 fG), (h, ob 1 [.int th, .ref an, .ref ak, .int lt, .int se, .ref au, .int zs, .ref ap, .int mn, .ref aw, .int cz, .ref ac, .int ln, .int ft, .int gz, .ref ag, .ref ax, .ref ao, .ref al, .ref av, .ref ae, .ref ar, .ref ad, .ref aW, .ref aS, .ref aN, .ref aR, .ref aG]), (ak, aI d 48 fk), (ar, aB d 800 (upd (upd (upd (upd r1 64 ((((fu si) >>> ((nI (24 - 0)) &&& 31)).toInt8.toInt32).toInt8.toInt32)) 65 ((((fu si) >>> ((nI 16) &&& 31)).toInt8.toInt32).toInt8.toInt32)) 66 ((((fu si) >>> ((nI 8) &&& 31)).toInt8.toInt32).toInt8.toInt32)) 67 ((((fu si) >>> ((nI 0) &&& 31)).toInt8.toInt32).toInt8.toInt32)))] := hD
  refine lv_iinc (v := nI 4) (lv' := [(3, .int (nI 4)), (0, .ref h), (1, .int (nI si)), (2, .int (nI nn))]) C.x C.b d_MD_seal_41 hl (k := 0) rfl (by decide) (by decide) rfl (fun ls hl => ?_)
  refine lv_goto (tgt := 12) C.x C.b d_MD_seal_44 (by decide) ?_
  refine lv_iload_n C.x C.b d_MD_seal_12 rfl (lv_at hl 0 rfl) ?_
  refine lv_iconst (v := nI 4) C.x C.b d_MD_seal_13 (by decide) ?_
  refine lv_icmp_ge (tgt := 47) C.x C.b d_MD_seal_14 (by decide) (fun _ => ?_) (fun h9 => by first | exact absurd h9 (by decide) | exact absurd (by decide) h9)
  refine lv_iconst (v := nI 0) C.x C.b d_MD_seal_47 (by decide) ?_
  refine lv_istore_n (lv' := [(3, .int (nI 0)), (0, .ref h), (1, .int (nI si)), (2, .int (nI nn))]) C.x C.b d_MD_seal_48 rfl hl (by decide) rfl (fun ls hl => ?_)
  have L49 : ∀ (fuel : Nat) (k9 : Nat) (g : Nat → Int32), nn - k9 < fuel → (k9 ≤ nn) → (∀ i, i < 68 → g i = ((kmk (shf (16 * si) fk) iMk ++ wb (fu si)).getD i 0).toInt8.toInt32) → (∀ i, i < k9 → g (68 + i) = (L.getD i 0).toInt8.toInt32) → ∀ (H : Heap) (locs : List Loc) (ls : Array Slot), va_P d.1 clz [(h, ob 1 [.int th, .ref an, .ref ak, .int lt, .int se, .ref au, .int zs, .ref ap, .int mn, .ref aw, .int cz, .ref ac, .int ln, .int ft, .int gz, .ref ag, .ref ax, .ref ao, .ref al, .ref av, .ref ae, .ref ar, .ref ad, .ref aW, .ref aS, .ref aN, .ref aR, .ref aG]), (ak, aI d 48 fk), (au, aI d 2 fu), (ae, aB d 600 fe), (ar, aB d 800 g), (ad, aB d 32 fd), (aW, aI d 64 fW), (aS, aI d 8 fS), (aN, aI d 8 fN), (aR, aI d 64 fR), (aG, aI d 8 fG)] H → va_D A [(h, ob 1 [.int th, .ref an, .ref ak, .int lt, .int se, .ref au, .int zs, .ref ap, .int mn, .ref aw, .int cz, .ref ac, .int ln, .int ft, .int gz, .ref ag, .ref ax, .ref ao, .ref al, .ref av, .ref ae, .ref ar, .ref ad, .ref aW, .ref aS, .ref aN, .ref aR, .ref aG]), (ak, aI d 48 fk), (au, aI d 2 fu), (ae, aB d 600 fe), (ar, aB d 800 g), (ad, aB d 32 fd), (aW, aI d 64 fW), (aS, aI d 8 fS), (aN, aI d 8 fN), (aR, aI d 64 fR), (aG, aI d 8 fG)] → va_S A s.heap H locs → lv_has ls 4 [(0, .ref h), (1, .int (nI si)), (2, .int (nI nn)), (3, .int (nI k9))] → W p l e (Rm 3 72 0 0) s m ([.ref h, .int (nI si), .int (nI nn)] : List Value).toArray below meth c H locs 0 0 (MQ below (Cout d A (fun (u : (Nat → Int32) × (Nat → Int32) × (Nat → Int32) × (Nat → Int32) × (Nat → Int32)) => match u with | (r2, d2, W2, S2, N2) => none) (fun (u : (Nat → Int32) × (Nat → Int32) × (Nat → Int32) × (Nat → Int32) × (Nat → Int32)) => match u with | (r2, d2, W2, S2, N2) => BA d2 (slb (sealw (shf (16 * si) fk) (fu si) L) 32)) (fun (u : (Nat → Int32) × (Nat → Int32) × (Nat → Int32) × (Nat → Int32) × (Nat → Int32)) => match u with | (r2, d2, W2, S2, N2) => [(h, ob 1 [.int th, .ref an, .ref ak, .int lt, .int se, .ref au, .int zs, .ref ap, .int mn, .ref aw, .int cz, .ref ac, .int ln, .int ft, .int gz, .ref ag, .ref ax, .ref ao, .ref al, .ref av, .ref ae, .ref ar, .ref ad, .ref aW, .ref aS, .ref aN, .ref aR, .ref aG]), (ak, aI d 48 fk), (au, aI d 2 fu), (ae, aB d 600 fe), (ar, aB d 800 r2), (ad, aB d 32 d2), (aW, aI d 64 W2), (aS, aI d 8 S2), (aN, aI d 8 N2), (aR, aI d 64 fR), (aG, aI d 8 fG)])) ([.ref h, .int (nI si), .int (nI nn)] : List Value).toArray s 0 0 A) (F0 m 49 ls []) := by
    intro fuel
    induction fuel with
    | zero => intro k9 g h9; exact absurd h9 (Nat.not_lt_zero _)
    | succ fuel ih49 =>
      intro k9 g hfu49 hk9 hg1 hg2 H locs ls hP hD hS hl
      refine lv_iload_n C.x C.b d_MD_seal_49 rfl (lv_at hl 3 rfl) ?_
      refine lv_iload_n C.x C.b d_MD_seal_50 rfl (lv_at hl 2 rfl) ?_
      refine lv_icmp_ge (tgt := 75) C.x C.b d_MD_seal_51 (by decide) (fun hc51 => ?_) (fun hc51 => ?_)
      · rw [nI_leI (by omega) (by omega)] at hc51
        have hTl : (kmk (shf (16 * si) fk) iMk ++ wb (fu si) ++ L).length = 68 + nn := by rw [List.length_append, List.length_append, kmk_len, wb_len, hnn]
        have h68 : (kmk (shf (16 * si) fk) iMk ++ wb (fu si)).length = 68 := by rw [List.length_append, kmk_len, wb_len]
        have hT1 : BA g (kmk (shf (16 * si) fk) iMk ++ wb (fu si) ++ L) := ⟨ba_app (fun i hi => hg1 i (by omega)) (fun i hi => by rw [h68]; exact hg2 i (by omega)), isb_app (isb_app isb_kmk isb_wb) hL.2⟩
        refine lv_aload_n C.x C.b d_MD_seal_75 rfl (lv_at hl 0 rfl) ?_
        refine lv_bipush (v := nI 68) C.x C.b d_MD_seal_76 (by decide) ?_
        refine lv_iload_n C.x C.b d_MD_seal_78 rfl (lv_at hl 2 rfl) ?_
        refine lv_iadd C.x C.b d_MD_seal_79 ?_
        refine k_top (y := nI (68 + nn)) (nI_add _ _) ?_
        refine k_callV (As := [.int (nI (68 + nn))]) (rest := []) (wc := [(h, ob 1 [.int th, .ref an, .ref ak, .int lt, .int se, .ref au, .int zs, .ref ap, .int mn, .ref aw, .int cz, .ref ac, .int ln, .int ft, .int gz, .ref ag, .ref ax, .ref ao, .ref al, .ref av, .ref ae, .ref ar, .ref ad, .ref aW, .ref aS, .ref aN, .ref aR, .ref aG]), (ar, aB d 800 g), (ad, aB d 32 fd), (aW, aI d 64 fW), (aS, aI d 8 fS), (aN, aI d 8 fN), (aR, aI d 64 fR), (aG, aI d 8 fG)]) (wr := [(ak, aI d 48 fk), (au, aI d 2 fu), (ae, aB d 600 fe)]) C (c_MD_reckon l d h an ak au ap aw ac ag ax ao al av ae ar ad aW aS aN aR aG th lt se zs mn cz ln ft gz g fd fW fS fN fR fG (68 + nn) (kmk (shf (16 * si) fk) iMk ++ wb (fu si) ++ L) (hR) (hG) (hT1) (hTl) (by omega)) mw_MD_reckon ms_24 m_781 hP hD hS [0, 4, 5, 6, 7, 8, 9, 10] [1, 2, 3] rfl rfl (by decide) (by decide) (by decide) 0 rfl rfl rfl rfl hl.1 (Nat.le_of_ble_eq_true rfl) d_MD_seal_80 ⟨Nat.le_of_ble_eq_true rfl, Nat.le_of_ble_eq_true rfl⟩ ⟨by decide, by decide⟩ (fun u9 H locs hd3 hP hD hS => ?_)
        obtain ⟨r3, d3, W3, S3, N3⟩ := u9
        have hP : va_P d.1 clz [(ak, aI d 48 fk), (au, aI d 2 fu), (ae, aB d 600 fe), (h, ob 1 [.int th, .ref an, .ref ak, .int lt, .int se, .ref au, .int zs, .ref ap, .int mn, .ref aw, .int cz, .ref ac, .int ln, .int ft, .int gz, .ref ag, .ref ax, .ref ao, .ref al, .ref av, .ref ae, .ref ar, .ref ad, .ref aW, .ref aS, .ref aN, .ref aR, .ref aG]), (ar, aB d 800 r3), (ad, aB d 32 d3), (aW, aI d 64 W3), (aS, aI d 8 S3), (aN, aI d 8 N3), (aR, aI d 64 fR), (aG, aI d 8 fG)] H := hP
        have hD : va_D A [(ak, aI d 48 fk), (au, aI d 2 fu), (ae, aB d 600 fe), (h, ob 1 [.int th, .ref an, .ref ak, .int lt, .int se, .ref au, .int zs, .ref ap, .int mn, .ref aw, .int cz, .ref ac, .int ln, .int ft, .int gz, .ref ag, .ref ax, .ref ao, .ref al, .ref av, .ref ae, .ref ar, .ref ad, .ref aW, .ref aS, .ref aN, .ref aR, .ref aG]), (ar, aB d 800 r3), (ad, aB d 32 d3), (aW, aI d 64 W3), (aS, aI d 8 S3), (aN, aI d 8 N3), (aR, aI d 64 fR), (aG, aI d 8 fG)] := hD
        refine W.eq (g2 := F0 m 83 ls []) rfl ?_
        have hd3 : BA d3 (slb (dig (kmk (shf (16 * si) fk) iMk ++ wb (fu si) ++ L)) 32) := hd3
        refine lv_aload_n C.x C.b d_MD_seal_83 rfl (lv_at hl 0 rfl) ?_
        refine lv_bipush (v := nI 16) C.x C.b d_MD_seal_84 (by decide) ?_
        refine lv_iload_n C.x C.b d_MD_seal_86 rfl (lv_at hl 1 rfl) ?_
        refine lv_imul C.x C.b d_MD_seal_87 ?_
        refine k_top (y := nI (16 * si)) (pk_mul _ _) ?_
        refine lv_bipush (v := nI 92) C.x C.b d_MD_seal_88 (by decide) ?_
        refine k_callV (As := [.int (nI (16 * si)), .int (nI 92)]) (rest := []) (wc := [(h, ob 1 [.int th, .ref an, .ref ak, .int lt, .int se, .ref au, .int zs, .ref ap, .int mn, .ref aw, .int cz, .ref ac, .int ln, .int ft, .int gz, .ref ag, .ref ax, .ref ao, .ref al, .ref av, .ref ae, .ref ar, .ref ad, .ref aW, .ref aS, .ref aN, .ref aR, .ref aG]), (ak, aI d 48 fk), (ar, aB d 800 r3)]) (wr := [(au, aI d 2 fu), (ae, aB d 600 fe), (ad, aB d 32 d3), (aW, aI d 64 W3), (aS, aI d 8 S3), (aN, aI d 8 N3), (aR, aI d 64 fR), (aG, aI d 8 fG)]) C (c_MD_padKey l d h an ak au ap aw ac ag ax ao al av ae ar ad aW aS aN aR aG th lt se zs mn cz ln ft gz fk r3 (16 * si) 92 oMk (by omega) (byt_oMk)) mw_MD_padKey ms_23 m_777 hP hD hS [3, 0, 4] [1, 2, 5, 6, 7, 8, 9, 10] rfl rfl (by decide) (by decide) (by decide) 3 rfl rfl rfl rfl hl.1 (Nat.le_of_ble_eq_true rfl) d_MD_seal_90 ⟨Nat.le_of_ble_eq_true rfl, Nat.le_of_ble_eq_true rfl⟩ ⟨by decide, by decide⟩ (fun r4 H locs hr4 hP hD hS => ?_)
        have hP : va_P d.1 clz [(au, aI d 2 fu), (ae, aB d 600 fe), (ad, aB d 32 d3), (aW, aI d 64 W3), (aS, aI d 8 S3), (aN, aI d 8 N3), (aR, aI d 64 fR), (aG, aI d 8 fG), (h, ob 1 [.int th, .ref an, .ref ak, .int lt, .int se, .ref au, .int zs, .ref ap, .int mn, .ref aw, .int cz, .ref ac, .int ln, .int ft, .int gz, .ref ag, .ref ax, .ref ao, .ref al, .ref av, .ref ae, .ref ar, .ref ad, .ref aW, .ref aS, .ref aN, .ref aR, .ref aG]), (ak, aI d 48 fk), (ar, aB d 800 r4)] H := hP
        have hD : va_D A [(au, aI d 2 fu), (ae, aB d 600 fe), (ad, aB d 32 d3), (aW, aI d 64 W3), (aS, aI d 8 S3), (aN, aI d 8 N3), (aR, aI d 64 fR), (aG, aI d 8 fG), (h, ob 1 [.int th, .ref an, .ref ak, .int lt, .int se, .ref au, .int zs, .ref ap, .int mn, .ref aw, .int cz, .ref ac, .int ln, .int ft, .int gz, .ref ag, .ref ax, .ref ao, .ref al, .ref av, .ref ae, .ref ar, .ref ad, .ref aW, .ref aS, .ref aN, .ref aR, .ref aG]), (ak, aI d 48 fk), (ar, aB d 800 r4)] := hD
        refine W.eq (g2 := F0 m 93 ls []) rfl ?_
        have hr4 : ∀ i, i < 64 → r4 i = ((kmk (shf (16 * si) fk) oMk).getD i 0).toInt8.toInt32 := hr4
        refine lv_iconst (v := nI 0) C.x C.b d_MD_seal_93 (by decide) ?_
        refine lv_istore_n (lv' := [(3, .int (nI 0)), (0, .ref h), (1, .int (nI si)), (2, .int (nI nn))]) C.x C.b d_MD_seal_94 rfl hl (by decide) rfl (fun ls hl => ?_)
        have L95 : ∀ (fuel : Nat) (k8 : Nat) (g5 : Nat → Int32), 32 - k8 < fuel → (k8 ≤ 32) → (∀ i, i < 64 → g5 i = ((kmk (shf (16 * si) fk) oMk).getD i 0).toInt8.toInt32) → (∀ i, i < k8 → g5 (64 + i) = ((slb (dig (kmk (shf (16 * si) fk) iMk ++ wb (fu si) ++ L)) 32).getD i 0).toInt8.toInt32) → ∀ (H : Heap) (locs : List Loc) (ls : Array Slot), va_P d.1 clz [(h, ob 1 [.int th, .ref an, .ref ak, .int lt, .int se, .ref au, .int zs, .ref ap, .int mn, .ref aw, .int cz, .ref ac, .int ln, .int ft, .int gz, .ref ag, .ref ax, .ref ao, .ref al, .ref av, .ref ae, .ref ar, .ref ad, .ref aW, .ref aS, .ref aN, .ref aR, .ref aG]), (ak, aI d 48 fk), (au, aI d 2 fu), (ae, aB d 600 fe), (ar, aB d 800 g5), (ad, aB d 32 d3), (aW, aI d 64 W3), (aS, aI d 8 S3), (aN, aI d 8 N3), (aR, aI d 64 fR), (aG, aI d 8 fG)] H → va_D A [(h, ob 1 [.int th, .ref an, .ref ak, .int lt, .int se, .ref au, .int zs, .ref ap, .int mn, .ref aw, .int cz, .ref ac, .int ln, .int ft, .int gz, .ref ag, .ref ax, .ref ao, .ref al, .ref av, .ref ae, .ref ar, .ref ad, .ref aW, .ref aS, .ref aN, .ref aR, .ref aG]), (ak, aI d 48 fk), (au, aI d 2 fu), (ae, aB d 600 fe), (ar, aB d 800 g5), (ad, aB d 32 d3), (aW, aI d 64 W3), (aS, aI d 8 S3), (aN, aI d 8 N3), (aR, aI d 64 fR), (aG, aI d 8 fG)] → va_S A s.heap H locs → lv_has ls 4 [(0, .ref h), (3, .int (nI k8))] → W p l e (Rm 3 72 0 0) s m ([.ref h, .int (nI si), .int (nI nn)] : List Value).toArray below meth c H locs 0 0 (MQ below (Cout d A (fun (u : (Nat → Int32) × (Nat → Int32) × (Nat → Int32) × (Nat → Int32) × (Nat → Int32)) => match u with | (r2, d2, W2, S2, N2) => none) (fun (u : (Nat → Int32) × (Nat → Int32) × (Nat → Int32) × (Nat → Int32) × (Nat → Int32)) => match u with | (r2, d2, W2, S2, N2) => BA d2 (slb (sealw (shf (16 * si) fk) (fu si) L) 32)) (fun (u : (Nat → Int32) × (Nat → Int32) × (Nat → Int32) × (Nat → Int32) × (Nat → Int32)) => match u with | (r2, d2, W2, S2, N2) => [(h, ob 1 [.int th, .ref an, .ref ak, .int lt, .int se, .ref au, .int zs, .ref ap, .int mn, .ref aw, .int cz, .ref ac, .int ln, .int ft, .int gz, .ref ag, .ref ax, .ref ao, .ref al, .ref av, .ref ae, .ref ar, .ref ad, .ref aW, .ref aS, .ref aN, .ref aR, .ref aG]), (ak, aI d 48 fk), (au, aI d 2 fu), (ae, aB d 600 fe), (ar, aB d 800 r2), (ad, aB d 32 d2), (aW, aI d 64 W2), (aS, aI d 8 S2), (aN, aI d 8 N2), (aR, aI d 64 fR), (aG, aI d 8 fG)])) ([.ref h, .int (nI si), .int (nI nn)] : List Value).toArray s 0 0 A) (F0 m 95 ls []) := by
          intro fuel
          induction fuel with
          | zero => intro k8 g5 h9; exact absurd h9 (Nat.not_lt_zero _)
          | succ fuel ih95 =>
            intro k8 g5 hfu95 hk8 hg5 hg6 H locs ls hP hD hS hl
            refine lv_iload_n C.x C.b d_MD_seal_95 rfl (lv_at hl 1 rfl) ?_
            refine lv_bipush (v := nI 32) C.x C.b d_MD_seal_96 (by decide) ?_
            refine lv_icmp_ge (tgt := 122) C.x C.b d_MD_seal_98 (by decide) (fun hc98 => ?_) (fun hc98 => ?_)
            · rw [nI_leI (by omega) (by omega)] at hc98
              have hT2 : BA g5 (kmk (shf (16 * si) fk) oMk ++ slb (dig (kmk (shf (16 * si) fk) iMk ++ wb (fu si) ++ L)) 32) := ⟨ba_app (fun i hi => hg5 i (by rw [kmk_len] at hi; exact hi)) (fun i hi => by rw [kmk_len]; rw [slb_len] at hi; exact hg6 i (by omega)), isb_app isb_kmk isb_slb⟩
              refine lv_aload_n C.x C.b d_MD_seal_122 rfl (lv_at hl 0 rfl) ?_
              refine lv_bipush (v := nI 96) C.x C.b d_MD_seal_123 (by decide) ?_
              refine k_callV (As := [.int (nI 96)]) (rest := []) (wc := [(h, ob 1 [.int th, .ref an, .ref ak, .int lt, .int se, .ref au, .int zs, .ref ap, .int mn, .ref aw, .int cz, .ref ac, .int ln, .int ft, .int gz, .ref ag, .ref ax, .ref ao, .ref al, .ref av, .ref ae, .ref ar, .ref ad, .ref aW, .ref aS, .ref aN, .ref aR, .ref aG]), (ar, aB d 800 g5), (ad, aB d 32 d3), (aW, aI d 64 W3), (aS, aI d 8 S3), (aN, aI d 8 N3), (aR, aI d 64 fR), (aG, aI d 8 fG)]) (wr := [(ak, aI d 48 fk), (au, aI d 2 fu), (ae, aB d 600 fe)]) C (c_MD_reckon l d h an ak au ap aw ac ag ax ao al av ae ar ad aW aS aN aR aG th lt se zs mn cz ln ft gz g5 d3 W3 S3 N3 fR fG 96 (kmk (shf (16 * si) fk) oMk ++ slb (dig (kmk (shf (16 * si) fk) iMk ++ wb (fu si) ++ L)) 32) (hR) (hG) (hT2) (by rw [List.length_append, kmk_len, slb_len]) (by omega)) mw_MD_reckon ms_24 m_781 hP hD hS [0, 4, 5, 6, 7, 8, 9, 10] [1, 2, 3] rfl rfl (by decide) (by decide) (by decide) 0 rfl rfl rfl rfl hl.1 (Nat.le_of_ble_eq_true rfl) d_MD_seal_125 ⟨Nat.le_of_ble_eq_true rfl, Nat.le_of_ble_eq_true rfl⟩ ⟨by decide, by decide⟩ (fun u9 H locs hd6 hP hD hS => ?_)
              obtain ⟨r6, d6, W6, S6, N6⟩ := u9
              have hP : va_P d.1 clz [(ak, aI d 48 fk), (au, aI d 2 fu), (ae, aB d 600 fe), (h, ob 1 [.int th, .ref an, .ref ak, .int lt, .int se, .ref au, .int zs, .ref ap, .int mn, .ref aw, .int cz, .ref ac, .int ln, .int ft, .int gz, .ref ag, .ref ax, .ref ao, .ref al, .ref av, .ref ae, .ref ar, .ref ad, .ref aW, .ref aS, .ref aN, .ref aR, .ref aG]), (ar, aB d 800 r6), (ad, aB d 32 d6), (aW, aI d 64 W6), (aS, aI d 8 S6), (aN, aI d 8 N6), (aR, aI d 64 fR), (aG, aI d 8 fG)] H := hP
              have hD : va_D A [(ak, aI d 48 fk), (au, aI d 2 fu), (ae, aB d 600 fe), (h, ob 1 [.int th, .ref an, .ref ak, .int lt, .int se, .ref au, .int zs, .ref ap, .int mn, .ref aw, .int cz, .ref ac, .int ln, .int ft, .int gz, .ref ag, .ref ax, .ref ao, .ref al, .ref av, .ref ae, .ref ar, .ref ad, .ref aW, .ref aS, .ref aN, .ref aR, .ref aG]), (ar, aB d 800 r6), (ad, aB d 32 d6), (aW, aI d 64 W6), (aS, aI d 8 S6), (aN, aI d 8 N6), (aR, aI d 64 fR), (aG, aI d 8 fG)] := hD
              refine W.eq (g2 := F0 m 128 ls []) rfl ?_
              have hd6 : BA d6 (slb (dig (kmk (shf (16 * si) fk) oMk ++ slb (dig (kmk (shf (16 * si) fk) iMk ++ wb (fu si) ++ L)) 32)) 32) := hd6
              have hP9 := hP.sub (ws' := [(h, ob 1 [.int th, .ref an, .ref ak, .int lt, .int se, .ref au, .int zs, .ref ap, .int mn, .ref aw, .int cz, .ref ac, .int ln, .int ft, .int gz, .ref ag, .ref ax, .ref ao, .ref al, .ref av, .ref ae, .ref ar, .ref ad, .ref aW, .ref aS, .ref aN, .ref aR, .ref aG]), (ak, aI d 48 fk), (au, aI d 2 fu), (ae, aB d 600 fe), (ar, aB d 800 r6), (ad, aB d 32 d6), (aW, aI d 64 W6), (aS, aI d 8 S6), (aN, aI d 8 N6), (aR, aI d 64 fR), (aG, aI d 8 fG)]) [3, 0, 1, 2, 4, 5, 6, 7, 8, 9, 10] rfl
              have hD9 := hD.sub (ws' := [(h, ob 1 [.int th, .ref an, .ref ak, .int lt, .int se, .ref au, .int zs, .ref ap, .int mn, .ref aw, .int cz, .ref ac, .int ln, .int ft, .int gz, .ref ag, .ref ax, .ref ao, .ref al, .ref av, .ref ae, .ref ar, .ref ad, .ref aW, .ref aS, .ref aN, .ref aR, .ref aG]), (ak, aI d 48 fk), (au, aI d 2 fu), (ae, aB d 600 fe), (ar, aB d 800 r6), (ad, aB d 32 d6), (aW, aI d 64 W6), (aS, aI d 8 S6), (aN, aI d 8 N6), (aR, aI d 64 fR), (aG, aI d 8 fG)]) [3, 0, 1, 2, 4, 5, 6, 7, 8, 9, 10] (by decide) rfl
              exact k_vret C hS (r6, d6, W6, S6, N6) (rfl) (by unfold sealw; rw [wbs_slb]; exact hd6) hP9 hD9 d_MD_seal_128
            · rw [nI_leI (by omega) (by omega)] at hc98
              refine lv_aload_n C.x C.b d_MD_seal_101 rfl (lv_at hl 0 rfl) ?_
              refine k_get C hP 0 rfl rfl i_MD 21 (by decide) m_673 rfl d_MD_seal_102 ?_
              refine lv_bipush (v := nI 64) C.x C.b d_MD_seal_105 (by decide) ?_
              refine lv_iload_n C.x C.b d_MD_seal_107 rfl (lv_at hl 1 rfl) ?_
              refine lv_iadd C.x C.b d_MD_seal_108 ?_
              refine k_top (y := nI (64 + k8)) (nI_add _ _) ?_
              refine lv_aload_n C.x C.b d_MD_seal_109 rfl (lv_at hl 0 rfl) ?_
              refine k_get C hP 0 rfl rfl i_MD 22 (by decide) m_674 rfl d_MD_seal_110 ?_
              refine lv_iload_n C.x C.b d_MD_seal_113 rfl (lv_at hl 1 rfl) ?_
              refine k_bald C hP 5 rfl (j := k8) (by omega) (by omega) d_MD_seal_114 ?_
              refine k_bast C hP hD hS 4 rfl (j := (64 + k8)) (by omega) (by omega) d_MD_seal_115 (fun H locs hP hD hS => ?_)
              have hP : va_P d.1 clz [(h, ob 1 [.int th, .ref an, .ref ak, .int lt, .int se, .ref au, .int zs, .ref ap, .int mn, .ref aw, .int cz, .ref ac, .int ln, .int ft, .int gz, .ref ag, .ref ax, .ref ao, .ref al, .ref av, .ref ae, .ref ar, .ref ad, .ref aW, .ref aS, .ref aN, .ref aR, .ref aG]), (ak, aI d 48 fk), (au, aI d 2 fu), (ae, aB d 600 fe), (ar, aB d 800 (upd g5 (64 + k8) ((d3 k8).toInt8.toInt32))), (ad, aB d 32 d3), (aW, aI d 64 W3), (aS, aI d 8 S3), (aN, aI d 8 N3), (aR, aI d 64 fR), (aG, aI d 8 fG)] H := hP
              have hD : va_D A [(h, ob 1 [.int th, .ref an, .ref ak, .int lt, .int se, .ref au, .int zs, .ref ap, .int mn, .ref aw, .int cz, .ref ac, .int ln, .int ft, .int gz, .ref ag, .ref ax, .ref ao, .ref al, .ref av, .ref ae, .ref ar, .ref ad, .ref aW, .ref aS, .ref aN, .ref aR, .ref aG]), (ak, aI d 48 fk), (au, aI d 2 fu), (ae, aB d 600 fe), (ar, aB d 800 (upd g5 (64 + k8) ((d3 k8).toInt8.toInt32))), (ad, aB d 32 d3), (aW, aI d 64 W3), (aS, aI d 8 S3), (aN, aI d 8 N3), (aR, aI d 64 fR), (aG, aI d 8 fG)] := hD
              refine lv_iinc (v := nI (k8 + 1)) (lv' := [(3, .int (nI (k8 + 1))), (0, .ref h)]) C.x C.b d_MD_seal_116 hl (k := 1) rfl (k_inc _ 1) (by decide) rfl (fun ls hl => ?_)
              refine lv_goto (tgt := 95) C.x C.b d_MD_seal_119 (by decide) ?_
              exact ih95 (k8 + 1) (upd g5 (64 + k8) ((d3 k8).toInt8.toInt32)) (by omega) (by omega) (fun i hi => by rw [pk_un (by omega)]; exact hg5 i hi) (fun i hi => by rcases (show i < k8 ∨ i = k8 by omega) with z | z; rw [pk_un (by omega)]; exact hg6 i z; rw [z, pk_us, hd3.1 k8 (by rw [slb_len]; omega), sx_sx]) _ _ _ (hP.sub [0, 1, 2, 3, 4, 5, 6, 7, 8, 9, 10] (rfl)) (hD.sub [0, 1, 2, 3, 4, 5, 6, 7, 8, 9, 10] (by decide) (rfl)) hS (lv_sub hl [1, 0] (rfl))
        exact L95 ((32 - 0) + 1) 0 r4 (Nat.lt_succ_self _) (by omega) (hr4) (fun i hi => absurd hi (Nat.not_lt_zero _)) _ _ _ (hP.sub [8, 9, 0, 1, 10, 2, 3, 4, 5, 6, 7] (rfl)) (hD.sub [8, 9, 0, 1, 10, 2, 3, 4, 5, 6, 7] (by decide) (rfl)) hS (lv_sub hl [1, 0] (rfl))
      · rw [nI_leI (by omega) (by omega)] at hc51
        refine lv_aload_n C.x C.b d_MD_seal_54 rfl (lv_at hl 0 rfl) ?_
        refine k_get C hP 0 rfl rfl i_MD 21 (by decide) m_673 rfl d_MD_seal_55 ?_
        refine lv_bipush (v := nI 68) C.x C.b d_MD_seal_58 (by decide) ?_
        refine lv_iload_n C.x C.b d_MD_seal_60 rfl (lv_at hl 3 rfl) ?_
        refine lv_iadd C.x C.b d_MD_seal_61 ?_
        refine k_top (y := nI (68 + k9)) (nI_add _ _) ?_
        refine lv_aload_n C.x C.b d_MD_seal_62 rfl (lv_at hl 0 rfl) ?_
        refine k_get C hP 0 rfl rfl i_MD 20 (by decide) m_672 rfl d_MD_seal_63 ?_
        refine lv_iload_n C.x C.b d_MD_seal_66 rfl (lv_at hl 3 rfl) ?_
        refine k_bald C hP 3 rfl (j := k9) (by omega) (by omega) d_MD_seal_67 ?_
        refine k_bast C hP hD hS 4 rfl (j := (68 + k9)) (by omega) (by omega) d_MD_seal_68 (fun H locs hP hD hS => ?_)
        have hP : va_P d.1 clz [(h, ob 1 [.int th, .ref an, .ref ak, .int lt, .int se, .ref au, .int zs, .ref ap, .int mn, .ref aw, .int cz, .ref ac, .int ln, .int ft, .int gz, .ref ag, .ref ax, .ref ao, .ref al, .ref av, .ref ae, .ref ar, .ref ad, .ref aW, .ref aS, .ref aN, .ref aR, .ref aG]), (ak, aI d 48 fk), (au, aI d 2 fu), (ae, aB d 600 fe), (ar, aB d 800 (upd g (68 + k9) ((fe k9).toInt8.toInt32))), (ad, aB d 32 fd), (aW, aI d 64 fW), (aS, aI d 8 fS), (aN, aI d 8 fN), (aR, aI d 64 fR), (aG, aI d 8 fG)] H := hP
        have hD : va_D A [(h, ob 1 [.int th, .ref an, .ref ak, .int lt, .int se, .ref au, .int zs, .ref ap, .int mn, .ref aw, .int cz, .ref ac, .int ln, .int ft, .int gz, .ref ag, .ref ax, .ref ao, .ref al, .ref av, .ref ae, .ref ar, .ref ad, .ref aW, .ref aS, .ref aN, .ref aR, .ref aG]), (ak, aI d 48 fk), (au, aI d 2 fu), (ae, aB d 600 fe), (ar, aB d 800 (upd g (68 + k9) ((fe k9).toInt8.toInt32))), (ad, aB d 32 fd), (aW, aI d 64 fW), (aS, aI d 8 fS), (aN, aI d 8 fN), (aR, aI d 64 fR), (aG, aI d 8 fG)] := hD
        refine lv_iinc (v := nI (k9 + 1)) (lv' := [(3, .int (nI (k9 + 1))), (0, .ref h), (1, .int (nI si)), (2, .int (nI nn))]) C.x C.b d_MD_seal_69 hl (k := 3) rfl (k_inc _ 1) (by decide) rfl (fun ls hl => ?_)
        refine lv_goto (tgt := 49) C.x C.b d_MD_seal_72 (by decide) ?_
        exact ih49 (k9 + 1) (upd g (68 + k9) ((fe k9).toInt8.toInt32)) (by omega) (by omega) (fun i hi => by rw [pk_un (by omega)]; exact hg1 i hi) (fun i hi => by rcases (show i < k9 ∨ i = k9 by omega) with z | z; rw [pk_un (by omega)]; exact hg2 i z; rw [z, pk_us, hL.1 k9 (by omega), sx_sx]) _ _ _ (hP.sub [0, 1, 2, 3, 4, 5, 6, 7, 8, 9, 10] (rfl)) (hD.sub [0, 1, 2, 3, 4, 5, 6, 7, 8, 9, 10] (by decide) (rfl)) hS (lv_sub hl [1, 2, 3, 0] (rfl))
  exact L49 ((nn - 0) + 1) 0 (upd (upd (upd (upd r1 64 ((((fu si) >>> ((nI (24 - 0)) &&& 31)).toInt8.toInt32).toInt8.toInt32)) 65 ((((fu si) >>> ((nI 16) &&& 31)).toInt8.toInt32).toInt8.toInt32)) 66 ((((fu si) >>> ((nI 8) &&& 31)).toInt8.toInt32).toInt8.toInt32)) 67 ((((fu si) >>> ((nI 0) &&& 31)).toInt8.toInt32).toInt8.toInt32)) (Nat.lt_succ_self _) (by omega) (seal_num (kmk_len _ _) hr1) (fun i hi => absurd hi (Nat.not_lt_zero _)) _ _ _ (hP.sub [8, 9, 0, 1, 10, 2, 3, 4, 5, 6, 7] (rfl)) (hD.sub [8, 9, 0, 1, 10, 2, 3, 4, 5, 6, 7] (by decide) (rfl)) hS (lv_sub hl [1, 2, 3, 0] (rfl))
