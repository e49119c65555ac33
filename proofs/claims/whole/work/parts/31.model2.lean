theorem ctr_shf (fr : Nat) (fk : Nat → Int32) : ctrUp (shf fr fk) = if fk (fr + 7) + nI 1 = 0 then if upd fk (fr + 7) (fk (fr + 7) + nI 1) (fr + 6) + nI 1 = 0 then if upd (upd fk (fr + 7) (fk (fr + 7) + nI 1)) (fr + 6) (upd fk (fr + 7) (fk (fr + 7) + nI 1) (fr + 6) + nI 1) (fr + 5) + nI 1 = 0 then shf fr (upd (upd (upd (upd fk (fr + 7) (fk (fr + 7) + nI 1)) (fr + 6) (upd fk (fr + 7) (fk (fr + 7) + nI 1) (fr + 6) + nI 1)) (fr + 5) (upd (upd fk (fr + 7) (fk (fr + 7) + nI 1)) (fr + 6) (upd fk (fr + 7) (fk (fr + 7) + nI 1) (fr + 6) + nI 1) (fr + 5) + nI 1)) (fr + 4) (upd (upd (upd fk (fr + 7) (fk (fr + 7) + nI 1)) (fr + 6) (upd fk (fr + 7) (fk (fr + 7) + nI 1) (fr + 6) + nI 1)) (fr + 5) (upd (upd fk (fr + 7) (fk (fr + 7) + nI 1)) (fr + 6) (upd fk (fr + 7) (fk (fr + 7) + nI 1) (fr + 6) + nI 1) (fr + 5) + nI 1) (fr + 4) + nI 1)) else shf fr (upd (upd (upd fk (fr + 7) (fk (fr + 7) + nI 1)) (fr + 6) (upd fk (fr + 7) (fk (fr + 7) + nI 1) (fr + 6) + nI 1)) (fr + 5) (upd (upd fk (fr + 7) (fk (fr + 7) + nI 1)) (fr + 6) (upd fk (fr + 7) (fk (fr + 7) + nI 1) (fr + 6) + nI 1) (fr + 5) + nI 1)) else shf fr (upd (upd fk (fr + 7) (fk (fr + 7) + nI 1)) (fr + 6) (upd fk (fr + 7) (fk (fr + 7) + nI 1) (fr + 6) + nI 1)) else shf fr (upd fk (fr + 7) (fk (fr + 7) + nI 1)) := by
  have u : ∀ (f : Nat → Int32) (x : Int32) (a b : Nat), b ≠ a → upd f (fr + a) x (fr + b) = f (fr + b) := fun f x a b h => pk_un (by omega)
  have v : ∀ (f : Nat → Int32) (x : Int32) (a b : Nat), b ≠ a → upd f a x b = f b := fun f x a b h => pk_un h
  simp only [shf_upd, u _ _ 7 6 (by decide), u _ _ 7 5 (by decide), u _ _ 7 4 (by decide), u _ _ 6 5 (by decide), u _ _ 6 4 (by decide), u _ _ 5 4 (by decide)]
  unfold ctrUp
  simp only [pk_us, v _ _ 7 6 (by decide), v _ _ 7 5 (by decide), v _ _ 7 4 (by decide), v _ _ 6 5 (by decide), v _ _ 6 4 (by decide), v _ _ 5 4 (by decide)]
  rfl
theorem mx_step {r : Nat} {g : Nat → Int32} {j : Nat} (h : r + 1 < 10) (hj : j < 16) : ((xt (g j) ^^^ (g (j / 4 * 4 + (j % 4 + 1) % 4) ^^^ xt (g (j / 4 * 4 + (j % 4 + 1) % 4)))) ^^^ g (j / 4 * 4 + (j % 4 + 2) % 4)) ^^^ g (j / 4 * 4 + (j % 4 + 3) % 4) = (if r + 1 < 10 then mxc g else g) j := by
  rw [if_pos h]; exact mx_eq g hj
theorem ctr_ksch {k k' : Nat → Int32} (h : ∀ j, j < 4 → k j = k' j) : ∀ n j, j < n + 4 → (kexp k n).1 j = (kexp k' n).1 j := by
  intro n
  induction n with
  | zero => intro j hj; exact h j (by omega)
  | succ n ih =>
    have := kexp_new (k := k') (g := (kexp k n).1) (n := n) (v := (kstep ((kexp k n).1, (kexp k' n).2) (n + 4)).1 (n + 4)) (p := (kstep ((kexp k n).1, (kexp k' n).2) (n + 4)).2) ih rfl
    intro j hj
    rw [← this.1 j (by omega)]
    by_cases e : j = n + 4
    · rw [e, pk_us]
      show (kstep (kexp k n) (n + 4)).1 (n + 4) = _
      unfold kstep
      rw [show (kexp k' n).2 = (kexp k n).2 from by rw [kexp_pw, kexp_pw]]
    · rw [pk_un e]; exact kexp_old (by omega)
theorem ksch_cg {k k' : Nat → Int32} (h : ∀ j, j < 4 → k j = k' j) : ∀ j, j < 44 → ksch k j = ksch k' j := fun j hj => ctr_ksch h 40 j (by omega)
theorem ctrN_lo {k : Nat → Int32} {j : Nat} (hj : j < 4) : ∀ n, ctrN k n j = k j := by
  intro n
  induction n with
  | zero => rfl
  | succ n ih => show ctrUp (ctrN k n) j = _; rw [ctr_lo hj, ih]
theorem ctrN_add (k : Nat → Int32) (a : Nat) : ∀ b, ctrN (ctrN k a) b = ctrN k (a + b) := by
  intro b
  induction b with
  | zero => rfl
  | succ b ih => show ctrUp _ = ctrUp (ctrN k (a + b)); rw [ih]
/-- the stream of a key that has gone up by n blocks -/
theorem strm_up (k : Nat → Int32) (n i : Nat) : strm (ctrN k n) i = strm k (16 * n + i) := by
  unfold strm
  rw [ctrN_add, show (16 * n + i) / 16 = n + i / 16 from by omega, show (16 * n + i) % 16 = i % 16 from by omega]
  exact rnd_cg (ksch_cg (fun j hj => ctrN_lo hj n)) (fun _ _ => rfl) 10 (by omega) _ (Nat.mod_lt _ (by decide))
theorem cph_step {K f g : Nat → Int32} {fi bh q k : Nat} {x : Int32} (hk : k < 16) (hq : fi + 16 * q + 16 ≤ bh) (hg1 : ∀ i, i < fi + 16 * q + k → g i = cph K fi bh f i) (hg2 : ∀ i, fi + 16 * q + k ≤ i → g i = f i) (hx : x = strm K (16 * q + k)) : (∀ i, i < fi + 16 * q + (k + 1) → upd g (fi + 16 * q + k) (g (fi + 16 * q + k) ^^^ x).toInt8.toInt32.toInt8.toInt32 i = cph K fi bh f i) ∧ ∀ i, fi + 16 * q + (k + 1) ≤ i → upd g (fi + 16 * q + k) (g (fi + 16 * q + k) ^^^ x).toInt8.toInt32.toInt8.toInt32 i = f i := by
  constructor
  · intro i hi
    by_cases e : i = fi + 16 * q + k
    · rw [e, pk_us, sx_sx, hg2 _ (Nat.le_refl _), hx]
      unfold cph
      rw [if_pos ⟨by omega, by omega⟩, show fi + 16 * q + k - fi = 16 * q + k from by omega]
    · rw [pk_un e]; exact hg1 i (by omega)
  · intro i hi
    rw [pk_un (by omega)]; exact hg2 i (by omega)
theorem mw_MD_encipher : Mw y_MD_encipher b_MD_encipher 6 none 1 := ⟨m_807, m_9, m_806, by decide +kernel⟩
set_option maxHeartbeats 4000000 in
set_option maxRecDepth 100000 in
theorem c_MD_encipher (l : Launch) (d : DD) (h : Nat) (an : Nat) (ak : Nat) (au : Nat) (ap : Nat) (aw : Nat) (ac : Nat) (ag : Nat) (ax : Nat) (ao : Nat) (al : Nat) (av : Nat) (ae : Nat) (ar : Nat) (ad : Nat) (aW : Nat) (aS : Nat) (aN : Nat) (aR : Nat) (aG : Nat) (th : Int32) (lt : Int32) (se : Int32) (zs : Int32) (mn : Int32) (cz : Int32) (ln : Int32) (ft : Int32) (gz : Int32) (fk : Nat → Int32) (fx : Nat → Int32) (fo : Nat → Int32) (fl : Nat → Int32) (fv : Nat → Int32) (fr : Nat) (hbx : ∀ j, j < 256 → fx j = sbx j) (hfr : fr + 16 ≤ 48) : Ct l y_MD_encipher b_MD_encipher 6 none 1 24 0 0 d [(h, ob 1 [.int th, .ref an, .ref ak, .int lt, .int se, .ref au, .int zs, .ref ap, .int mn, .ref aw, .int cz, .ref ac, .int ln, .int ft, .int gz, .ref ag, .ref ax, .ref ao, .ref al, .ref av, .ref ae, .ref ar, .ref ad, .ref aW, .ref aS, .ref aN, .ref aR, .ref aG]), (ak, aI d 48 fk), (ax, aI d 256 fx), (ao, aI d 44 fo), (al, aI d 16 fl), (av, aI d 16 fv)] [.ref h, .int (nI fr)] (fun (u : (Nat → Int32) × (Nat → Int32)) => match u with | (f2, f3) => none) (fun (u : (Nat → Int32) × (Nat → Int32)) => match u with | (f2, f3) => ∀ j, j < 16 → f2 j = aes fo (shf fr fk) j) (fun (u : (Nat → Int32) × (Nat → Int32)) => match u with | (f2, f3) => [(h, ob 1 [.int th, .ref an, .ref ak, .int lt, .int se, .ref au, .int zs, .ref ap, .int mn, .ref aw, .int cz, .ref ac, .int ln, .int ft, .int gz, .ref ag, .ref ax, .ref ao, .ref al, .ref av, .ref ae, .ref ar, .ref ad, .ref aW, .ref aS, .ref aN, .ref aR, .ref aG]), (ak, aI d 48 fk), (ax, aI d 256 fx), (ao, aI d 44 fo), (al, aI d 16 f2), (av, aI d 16 f3)]) := by
  refine Ct.of (by decide +kernel) (Nat.le_of_ble_eq_true rfl) ?_
  intro p e s m below meth c A ls C hP hD hS hl
  have hl : lv_has ls 6 [(0, .ref h), (1, .int (nI fr))] := hl
  have hsz9 := hS.1
  refine lv_iconst (v := nI 0) C.x C.b d_MD_encipher_0 (by decide) ?_
  refine lv_istore_n (lv' := [(2, .int (nI 0)), (0, .ref h), (1, .int (nI fr))]) C.x C.b d_MD_encipher_1 rfl hl (by decide) rfl (fun ls hl => ?_)
  have L2 : ∀ (fuel : Nat) (j : Nat) (g : Nat → Int32), 16 - j < fuel → (j ≤ 16) → (∀ i, i < j → g i = ctb (shf fr fk) i) → ∀ (H : Heap) (locs : List Loc) (ls : Array Slot), va_P d.1 clz [(h, ob 1 [.int th, .ref an, .ref ak, .int lt, .int se, .ref au, .int zs, .ref ap, .int mn, .ref aw, .int cz, .ref ac, .int ln, .int ft, .int gz, .ref ag, .ref ax, .ref ao, .ref al, .ref av, .ref ae, .ref ar, .ref ad, .ref aW, .ref aS, .ref aN, .ref aR, .ref aG]), (ak, aI d 48 fk), (ax, aI d 256 fx), (ao, aI d 44 fo), (al, aI d 16 g), (av, aI d 16 fv)] H → va_D A [(h, ob 1 [.int th, .ref an, .ref ak, .int lt, .int se, .ref au, .int zs, .ref ap, .int mn, .ref aw, .int cz, .ref ac, .int ln, .int ft, .int gz, .ref ag, .ref ax, .ref ao, .ref al, .ref av, .ref ae, .ref ar, .ref ad, .ref aW, .ref aS, .ref aN, .ref aR, .ref aG]), (ak, aI d 48 fk), (ax, aI d 256 fx), (ao, aI d 44 fo), (al, aI d 16 g), (av, aI d 16 fv)] → va_S A s.heap H locs → lv_has ls 6 [(0, .ref h), (1, .int (nI fr)), (2, .int (nI j))] → W p l e (Rm 1 24 0 0) s m ([.ref h, .int (nI fr)] : List Value).toArray below meth c H locs 0 0 (MQ below (Cout d A (fun (u : (Nat → Int32) × (Nat → Int32)) => match u with | (f2, f3) => none) (fun (u : (Nat → Int32) × (Nat → Int32)) => match u with | (f2, f3) => ∀ j, j < 16 → f2 j = aes fo (shf fr fk) j) (fun (u : (Nat → Int32) × (Nat → Int32)) => match u with | (f2, f3) => [(h, ob 1 [.int th, .ref an, .ref ak, .int lt, .int se, .ref au, .int zs, .ref ap, .int mn, .ref aw, .int cz, .ref ac, .int ln, .int ft, .int gz, .ref ag, .ref ax, .ref ao, .ref al, .ref av, .ref ae, .ref ar, .ref ad, .ref aW, .ref aS, .ref aN, .ref aR, .ref aG]), (ak, aI d 48 fk), (ax, aI d 256 fx), (ao, aI d 44 fo), (al, aI d 16 f2), (av, aI d 16 f3)])) ([.ref h, .int (nI fr)] : List Value).toArray s 0 0 A) (F0 m 2 ls []) := by
    intro fuel
    induction fuel with
    | zero => intro j g h9; exact absurd h9 (Nat.not_lt_zero _)
    | succ fuel ih2 =>
      intro j g hfu2 hj hg H locs ls hP hD hS hl
      refine lv_iload_n C.x C.b d_MD_encipher_2 rfl (lv_at hl 2 rfl) ?_
      refine lv_bipush (v := nI 16) C.x C.b d_MD_encipher_3 (by decide) ?_
      refine lv_icmp_ge (tgt := 46) C.x C.b d_MD_encipher_5 (by decide) (fun hc5 => ?_) (fun hc5 => ?_)
      · rw [nI_leI (by omega) (by omega)] at hc5
        refine lv_aload_n C.x C.b d_MD_encipher_46 rfl (lv_at hl 0 rfl) ?_
        refine lv_iconst (v := nI 0) C.x C.b d_MD_encipher_47 (by decide) ?_
        refine k_callV (As := [.int (nI 0)]) (rest := []) (wc := [(h, ob 1 [.int th, .ref an, .ref ak, .int lt, .int se, .ref au, .int zs, .ref ap, .int mn, .ref aw, .int cz, .ref ac, .int ln, .int ft, .int gz, .ref ag, .ref ax, .ref ao, .ref al, .ref av, .ref ae, .ref ar, .ref ad, .ref aW, .ref aS, .ref aN, .ref aR, .ref aG]), (ao, aI d 44 fo), (al, aI d 16 g)]) (wr := [(ak, aI d 48 fk), (ax, aI d 256 fx), (av, aI d 16 fv)]) C (c_MD_addWords l d h an ak au ap aw ac ag ax ao al av ae ar ad aW aS aN aR aG th lt se zs mn cz ln ft gz fo g 0 (by omega)) mw_MD_addWords ms_30 m_808 hP hD hS [0, 3, 4] [1, 2, 5] rfl rfl (by decide) (by decide) (by decide) 0 rfl rfl rfl rfl hl.1 (Nat.le_of_ble_eq_true rfl) d_MD_encipher_48 ⟨Nat.le_of_ble_eq_true rfl, Nat.le_of_ble_eq_true rfl⟩ ⟨by decide, by decide⟩ (fun gr H locs hgr hP hD hS => ?_)
        have hP : va_P d.1 clz [(ak, aI d 48 fk), (ax, aI d 256 fx), (av, aI d 16 fv), (h, ob 1 [.int th, .ref an, .ref ak, .int lt, .int se, .ref au, .int zs, .ref ap, .int mn, .ref aw, .int cz, .ref ac, .int ln, .int ft, .int gz, .ref ag, .ref ax, .ref ao, .ref al, .ref av, .ref ae, .ref ar, .ref ad, .ref aW, .ref aS, .ref aN, .ref aR, .ref aG]), (ao, aI d 44 fo), (al, aI d 16 gr)] H := hP
        have hD : va_D A [(ak, aI d 48 fk), (ax, aI d 256 fx), (av, aI d 16 fv), (h, ob 1 [.int th, .ref an, .ref ak, .int lt, .int se, .ref au, .int zs, .ref ap, .int mn, .ref aw, .int cz, .ref ac, .int ln, .int ft, .int gz, .ref ag, .ref ax, .ref ao, .ref al, .ref av, .ref ae, .ref ar, .ref ad, .ref aW, .ref aS, .ref aN, .ref aR, .ref aG]), (ao, aI d 44 fo), (al, aI d 16 gr)] := hD
        refine W.eq (g2 := F0 m 51 ls []) rfl ?_
        have hgr : ∀ j, j < 16 → gr j = ark fo 0 g j := hgr
        refine lv_iconst (v := nI 1) C.x C.b d_MD_encipher_51 (by decide) ?_
        refine lv_istore_n (lv' := [(2, .int (nI 1)), (0, .ref h), (1, .int (nI fr))]) C.x C.b d_MD_encipher_52 rfl hl (by decide) rfl (fun ls hl => ?_)
        have L53 : ∀ (fuel : Nat) (r : Nat) (b9 : Nat → Int32) (m9 : Nat → Int32), 10 - r < fuel → (r ≤ 10) → (∀ j, j < 16 → b9 j = rnd fo (ctb (shf fr fk)) r j) → ∀ (H : Heap) (locs : List Loc) (ls : Array Slot), va_P d.1 clz [(h, ob 1 [.int th, .ref an, .ref ak, .int lt, .int se, .ref au, .int zs, .ref ap, .int mn, .ref aw, .int cz, .ref ac, .int ln, .int ft, .int gz, .ref ag, .ref ax, .ref ao, .ref al, .ref av, .ref ae, .ref ar, .ref ad, .ref aW, .ref aS, .ref aN, .ref aR, .ref aG]), (ak, aI d 48 fk), (ax, aI d 256 fx), (ao, aI d 44 fo), (al, aI d 16 b9), (av, aI d 16 m9)] H → va_D A [(h, ob 1 [.int th, .ref an, .ref ak, .int lt, .int se, .ref au, .int zs, .ref ap, .int mn, .ref aw, .int cz, .ref ac, .int ln, .int ft, .int gz, .ref ag, .ref ax, .ref ao, .ref al, .ref av, .ref ae, .ref ar, .ref ad, .ref aW, .ref aS, .ref aN, .ref aR, .ref aG]), (ak, aI d 48 fk), (ax, aI d 256 fx), (ao, aI d 44 fo), (al, aI d 16 b9), (av, aI d 16 m9)] → va_S A s.heap H locs → lv_has ls 6 [(0, .ref h), (1, .int (nI fr)), (2, .int (nI (r + 1)))] → W p l e (Rm 1 24 0 0) s m ([.ref h, .int (nI fr)] : List Value).toArray below meth c H locs 0 0 (MQ below (Cout d A (fun (u : (Nat → Int32) × (Nat → Int32)) => match u with | (f2, f3) => none) (fun (u : (Nat → Int32) × (Nat → Int32)) => match u with | (f2, f3) => ∀ j, j < 16 → f2 j = aes fo (shf fr fk) j) (fun (u : (Nat → Int32) × (Nat → Int32)) => match u with | (f2, f3) => [(h, ob 1 [.int th, .ref an, .ref ak, .int lt, .int se, .ref au, .int zs, .ref ap, .int mn, .ref aw, .int cz, .ref ac, .int ln, .int ft, .int gz, .ref ag, .ref ax, .ref ao, .ref al, .ref av, .ref ae, .ref ar, .ref ad, .ref aW, .ref aS, .ref aN, .ref aR, .ref aG]), (ak, aI d 48 fk), (ax, aI d 256 fx), (ao, aI d 44 fo), (al, aI d 16 f2), (av, aI d 16 f3)])) ([.ref h, .int (nI fr)] : List Value).toArray s 0 0 A) (F0 m 53 ls []) := by
          intro fuel
          induction fuel with
          | zero => intro r b9 m9 h9; exact absurd h9 (Nat.not_lt_zero _)
          | succ fuel ih53 =>
            intro r b9 m9 hfu53 hr hb9 H locs ls hP hD hS hl
            have hbb : ∀ j, j < 16 → isb (b9 j) := fun j hj => by rw [hb9 j hj]; exact isb_rnd (fun _ _ => isb_byt _ _) _ j hj
            refine lv_iload_n C.x C.b d_MD_encipher_53 rfl (lv_at hl 2 rfl) ?_
            refine lv_bipush (v := nI 11) C.x C.b d_MD_encipher_54 (by decide) ?_
            refine lv_icmp_ge (tgt := 238) C.x C.b d_MD_encipher_56 (by decide) (fun hc56 => ?_) (fun hc56 => ?_)
            · rw [nI_leI (by omega) (by omega)] at hc56
              have hP9 := hP.sub (ws' := [(h, ob 1 [.int th, .ref an, .ref ak, .int lt, .int se, .ref au, .int zs, .ref ap, .int mn, .ref aw, .int cz, .ref ac, .int ln, .int ft, .int gz, .ref ag, .ref ax, .ref ao, .ref al, .ref av, .ref ae, .ref ar, .ref ad, .ref aW, .ref aS, .ref aN, .ref aR, .ref aG]), (ak, aI d 48 fk), (ax, aI d 256 fx), (ao, aI d 44 fo), (al, aI d 16 b9), (av, aI d 16 m9)]) [0, 1, 2, 3, 4, 5] rfl
              have hD9 := hD.sub (ws' := [(h, ob 1 [.int th, .ref an, .ref ak, .int lt, .int se, .ref au, .int zs, .ref ap, .int mn, .ref aw, .int cz, .ref ac, .int ln, .int ft, .int gz, .ref ag, .ref ax, .ref ao, .ref al, .ref av, .ref ae, .ref ar, .ref ad, .ref aW, .ref aS, .ref aN, .ref aR, .ref aG]), (ak, aI d 48 fk), (ax, aI d 256 fx), (ao, aI d 44 fo), (al, aI d 16 b9), (av, aI d 16 m9)]) [0, 1, 2, 3, 4, 5] (by decide) rfl
              exact k_vret C hS (b9, m9) (rfl) (by rw [show r = 10 from by omega] at hb9; exact hb9) hP9 hD9 d_MD_encipher_238
            · rw [nI_leI (by omega) (by omega)] at hc56
              refine lv_iconst (v := nI 0) C.x C.b d_MD_encipher_59 (by decide) ?_
              refine lv_istore_n (lv' := [(3, .int (nI 0)), (0, .ref h), (1, .int (nI fr)), (2, .int (nI (r + 1)))]) C.x C.b d_MD_encipher_60 rfl hl (by decide) rfl (fun ls hl => ?_)
              have L61 : ∀ (fuel : Nat) (c9 : Nat) (g : Nat → Int32), 4 - c9 < fuel → (c9 ≤ 4) → (∀ i, i < 4 * c9 → g i = ssh b9 i) → ∀ (H : Heap) (locs : List Loc) (ls : Array Slot), va_P d.1 clz [(h, ob 1 [.int th, .ref an, .ref ak, .int lt, .int se, .ref au, .int zs, .ref ap, .int mn, .ref aw, .int cz, .ref ac, .int ln, .int ft, .int gz, .ref ag, .ref ax, .ref ao, .ref al, .ref av, .ref ae, .ref ar, .ref ad, .ref aW, .ref aS, .ref aN, .ref aR, .ref aG]), (ak, aI d 48 fk), (ax, aI d 256 fx), (ao, aI d 44 fo), (al, aI d 16 b9), (av, aI d 16 g)] H → va_D A [(h, ob 1 [.int th, .ref an, .ref ak, .int lt, .int se, .ref au, .int zs, .ref ap, .int mn, .ref aw, .int cz, .ref ac, .int ln, .int ft, .int gz, .ref ag, .ref ax, .ref ao, .ref al, .ref av, .ref ae, .ref ar, .ref ad, .ref aW, .ref aS, .ref aN, .ref aR, .ref aG]), (ak, aI d 48 fk), (ax, aI d 256 fx), (ao, aI d 44 fo), (al, aI d 16 b9), (av, aI d 16 g)] → va_S A s.heap H locs → lv_has ls 6 [(0, .ref h), (1, .int (nI fr)), (2, .int (nI (r + 1))), (3, .int (nI c9))] → W p l e (Rm 1 24 0 0) s m ([.ref h, .int (nI fr)] : List Value).toArray below meth c H locs 0 0 (MQ below (Cout d A (fun (u : (Nat → Int32) × (Nat → Int32)) => match u with | (f2, f3) => none) (fun (u : (Nat → Int32) × (Nat → Int32)) => match u with | (f2, f3) => ∀ j, j < 16 → f2 j = aes fo (shf fr fk) j) (fun (u : (Nat → Int32) × (Nat → Int32)) => match u with | (f2, f3) => [(h, ob 1 [.int th, .ref an, .ref ak, .int lt, .int se, .ref au, .int zs, .ref ap, .int mn, .ref aw, .int cz, .ref ac, .int ln, .int ft, .int gz, .ref ag, .ref ax, .ref ao, .ref al, .ref av, .ref ae, .ref ar, .ref ad, .ref aW, .ref aS, .ref aN, .ref aR, .ref aG]), (ak, aI d 48 fk), (ax, aI d 256 fx), (ao, aI d 44 fo), (al, aI d 16 f2), (av, aI d 16 f3)])) ([.ref h, .int (nI fr)] : List Value).toArray s 0 0 A) (F0 m 61 ls []) := by
                intro fuel
                induction fuel with
                | zero => intro c9 g h9; exact absurd h9 (Nat.not_lt_zero _)
                | succ fuel ih61 =>
                  intro c9 g hfu61 hc9 hg H locs ls hP hD hS hl
                  refine lv_iload_n C.x C.b d_MD_encipher_61 rfl (lv_at hl 3 rfl) ?_
                  refine lv_iconst (v := nI 4) C.x C.b d_MD_encipher_62 (by decide) ?_
                  refine lv_icmp_ge (tgt := 119) C.x C.b d_MD_encipher_63 (by decide) (fun hc63 => ?_) (fun hc63 => ?_)
                  · rw [nI_leI (by omega) (by omega)] at hc63
                    refine lv_iconst (v := nI 0) C.x C.b d_MD_encipher_119 (by decide) ?_
                    refine lv_istore_n (lv' := [(3, .int (nI 0)), (0, .ref h), (1, .int (nI fr)), (2, .int (nI (r + 1)))]) C.x C.b d_MD_encipher_120 rfl hl (by decide) rfl (fun ls hl => ?_)
                    have L121 : ∀ (fuel : Nat) (k9 : Nat) (g1 : Nat → Int32) (b2 : Nat → Int32), 16 - k9 < fuel → (k9 ≤ 16) → (∀ i, i < 16 → g1 i = ssh b9 i) → (∀ i, i < k9 → b2 i = (if r + 1 < 10 then mxc g1 else g1) i) → ∀ (H : Heap) (locs : List Loc) (ls : Array Slot), va_P d.1 clz [(h, ob 1 [.int th, .ref an, .ref ak, .int lt, .int se, .ref au, .int zs, .ref ap, .int mn, .ref aw, .int cz, .ref ac, .int ln, .int ft, .int gz, .ref ag, .ref ax, .ref ao, .ref al, .ref av, .ref ae, .ref ar, .ref ad, .ref aW, .ref aS, .ref aN, .ref aR, .ref aG]), (ak, aI d 48 fk), (ax, aI d 256 fx), (ao, aI d 44 fo), (al, aI d 16 b2), (av, aI d 16 g1)] H → va_D A [(h, ob 1 [.int th, .ref an, .ref ak, .int lt, .int se, .ref au, .int zs, .ref ap, .int mn, .ref aw, .int cz, .ref ac, .int ln, .int ft, .int gz, .ref ag, .ref ax, .ref ao, .ref al, .ref av, .ref ae, .ref ar, .ref ad, .ref aW, .ref aS, .ref aN, .ref aR, .ref aG]), (ak, aI d 48 fk), (ax, aI d 256 fx), (ao, aI d 44 fo), (al, aI d 16 b2), (av, aI d 16 g1)] → va_S A s.heap H locs → lv_has ls 6 [(0, .ref h), (1, .int (nI fr)), (2, .int (nI (r + 1))), (3, .int (nI k9))] → W p l e (Rm 1 24 0 0) s m ([.ref h, .int (nI fr)] : List Value).toArray below meth c H locs 0 0 (MQ below (Cout d A (fun (u : (Nat → Int32) × (Nat → Int32)) => match u with | (f2, f3) => none) (fun (u : (Nat → Int32) × (Nat → Int32)) => match u with | (f2, f3) => ∀ j, j < 16 → f2 j = aes fo (shf fr fk) j) (fun (u : (Nat → Int32) × (Nat → Int32)) => match u with | (f2, f3) => [(h, ob 1 [.int th, .ref an, .ref ak, .int lt, .int se, .ref au, .int zs, .ref ap, .int mn, .ref aw, .int cz, .ref ac, .int ln, .int ft, .int gz, .ref ag, .ref ax, .ref ao, .ref al, .ref av, .ref ae, .ref ar, .ref ad, .ref aW, .ref aS, .ref aN, .ref aR, .ref aG]), (ak, aI d 48 fk), (ax, aI d 256 fx), (ao, aI d 44 fo), (al, aI d 16 f2), (av, aI d 16 f3)])) ([.ref h, .int (nI fr)] : List Value).toArray s 0 0 A) (F0 m 121 ls []) := by
                      intro fuel
                      induction fuel with
                      | zero => intro k9 g1 b2 h9; exact absurd h9 (Nat.not_lt_zero _)
                      | succ fuel ih121 =>
                        intro k9 g1 b2 hfu121 hk9 hg1 hb2 H locs ls hP hD hS hl
                        refine lv_iload_n C.x C.b d_MD_encipher_121 rfl (lv_at hl 3 rfl) ?_
                        refine lv_bipush (v := nI 16) C.x C.b d_MD_encipher_122 (by decide) ?_
                        refine lv_icmp_ge (tgt := 225) C.x C.b d_MD_encipher_124 (by decide) (fun hc124 => ?_) (fun hc124 => ?_)
                        · rw [nI_leI (by omega) (by omega)] at hc124
                          have hk16 : k9 = 16 := by omega
                          refine lv_aload_n C.x C.b d_MD_encipher_225 rfl (lv_at hl 0 rfl) ?_
                          refine lv_iconst (v := nI 4) C.x C.b d_MD_encipher_226 (by decide) ?_
                          refine lv_iload_n C.x C.b d_MD_encipher_227 rfl (lv_at hl 2 rfl) ?_
                          refine lv_imul C.x C.b d_MD_encipher_228 ?_
                          refine k_top (y := nI (4 * (r + 1))) (pk_mul _ _) ?_
                          refine k_callV (As := [.int (nI (4 * (r + 1)))]) (rest := []) (wc := [(h, ob 1 [.int th, .ref an, .ref ak, .int lt, .int se, .ref au, .int zs, .ref ap, .int mn, .ref aw, .int cz, .ref ac, .int ln, .int ft, .int gz, .ref ag, .ref ax, .ref ao, .ref al, .ref av, .ref ae, .ref ar, .ref ad, .ref aW, .ref aS, .ref aN, .ref aR, .ref aG]), (ao, aI d 44 fo), (al, aI d 16 b2)]) (wr := [(ak, aI d 48 fk), (ax, aI d 256 fx), (av, aI d 16 g1)]) C (c_MD_addWords l d h an ak au ap aw ac ag ax ao al av ae ar ad aW aS aN aR aG th lt se zs mn cz ln ft gz fo b2 (r + 1) (by omega)) mw_MD_addWords ms_30 m_808 hP hD hS [0, 3, 4] [1, 2, 5] rfl rfl (by decide) (by decide) (by decide) 0 rfl rfl rfl rfl hl.1 (Nat.le_of_ble_eq_true rfl) d_MD_encipher_229 ⟨Nat.le_of_ble_eq_true rfl, Nat.le_of_ble_eq_true rfl⟩ ⟨by decide, by decide⟩ (fun b4 H locs hb4 hP hD hS => ?_)
                          have hP : va_P d.1 clz [(ak, aI d 48 fk), (ax, aI d 256 fx), (av, aI d 16 g1), (h, ob 1 [.int th, .ref an, .ref ak, .int lt, .int se, .ref au, .int zs, .ref ap, .int mn, .ref aw, .int cz, .ref ac, .int ln, .int ft, .int gz, .ref ag, .ref ax, .ref ao, .ref al, .ref av, .ref ae, .ref ar, .ref ad, .ref aW, .ref aS, .ref aN, .ref aR, .ref aG]), (ao, aI d 44 fo), (al, aI d 16 b4)] H := hP
                          have hD : va_D A [(ak, aI d 48 fk), (ax, aI d 256 fx), (av, aI d 16 g1), (h, ob 1 [.int th, .ref an, .ref ak, .int lt, .int se, .ref au, .int zs, .ref ap, .int mn, .ref aw, .int cz, .ref ac, .int ln, .int ft, .int gz, .ref ag, .ref ax, .ref ao, .ref al, .ref av, .ref ae, .ref ar, .ref ad, .ref aW, .ref aS, .ref aN, .ref aR, .ref aG]), (ao, aI d 44 fo), (al, aI d 16 b4)] := hD
                          refine W.eq (g2 := F0 m 232 ls []) rfl ?_
                          have hb4 : ∀ j, j < 16 → b4 j = ark fo (r + 1) b2 j := hb4
                          have hb5 : ∀ j, j < 16 → b4 j = rnd fo (ctb (shf fr fk)) (r + 1) j := by
                            intro j hj
                            rw [hb4 j hj]
                            show _ = ark fo (r + 1) _ j
                            refine ark_cg (by omega) (fun _ _ => rfl) ?_ j hj
                            intro i hi
                            rw [hb2 i (by omega)]
                            have hs9 : ∀ q, q < 16 → g1 q = ssh (rnd fo (ctb (shf fr fk)) r) q := fun q hq => by rw [hg1 q (by omega)]; exact ssh_cg hb9 q hq
                            split
                            · exact mxc_cg hs9 i hi
                            · exact hs9 i hi
                          refine lv_iinc (v := nI (r + 1 + 1)) (lv' := [(2, .int (nI (r + 1 + 1))), (0, .ref h), (1, .int (nI fr)), (3, .int (nI k9))]) C.x C.b d_MD_encipher_232 hl (k := 2) rfl (k_inc _ 1) (by decide) rfl (fun ls hl => ?_)
                          refine lv_goto (tgt := 53) C.x C.b d_MD_encipher_235 (by decide) ?_
                          exact ih53 (r + 1) b4 g1 (by omega) (by omega) (hb5) _ _ _ (hP.sub [3, 0, 1, 4, 5, 2] (rfl)) (hD.sub [3, 0, 1, 4, 5, 2] (by decide) (rfl)) hS (lv_sub hl [1, 2, 0] (rfl))
                        · rw [nI_leI (by omega) (by omega)] at hc124
                          refine lv_iload_n C.x C.b d_MD_encipher_127 rfl (lv_at hl 3 rfl) ?_
                          refine lv_iconst (v := nI 4) C.x C.b d_MD_encipher_128 (by decide) ?_
                          refine lv_idiv C.x C.b d_MD_encipher_129 (by decide) ?_
                          refine k_top (y := nI (k9 / 4)) (pk_div (by omega) (by omega) (by omega)) ?_
                          refine lv_iconst (v := nI 4) C.x C.b d_MD_encipher_130 (by decide) ?_
                          refine lv_imul C.x C.b d_MD_encipher_131 ?_
                          refine k_top (y := nI ((k9 / 4) * 4)) (pk_mul _ _) ?_
                          refine lv_istore (lv' := [(4, .int (nI ((k9 / 4) * 4))), (0, .ref h), (1, .int (nI fr)), (2, .int (nI (r + 1))), (3, .int (nI k9))]) C.x C.b d_MD_encipher_132 hl (by decide) rfl (fun ls hl => ?_)
                          refine lv_iload_n C.x C.b d_MD_encipher_134 rfl (lv_at hl 4 rfl) ?_
                          refine lv_iconst (v := nI 4) C.x C.b d_MD_encipher_135 (by decide) ?_
                          refine lv_irem C.x C.b d_MD_encipher_136 (by decide) ?_
                          refine k_top (y := nI (k9 % 4)) (pk_rem (by omega) (by omega) (by omega)) ?_
                          refine lv_istore (lv' := [(5, .int (nI (k9 % 4))), (4, .int (nI ((k9 / 4) * 4))), (0, .ref h), (1, .int (nI fr)), (2, .int (nI (r + 1))), (3, .int (nI k9))]) C.x C.b d_MD_encipher_137 hl (by decide) rfl (fun ls hl => ?_)
                          refine lv_aload_n C.x C.b d_MD_encipher_139 rfl (lv_at hl 2 rfl) ?_
                          refine k_get C hP 0 rfl rfl i_MD 18 (by decide) m_670 rfl d_MD_encipher_140 ?_
                          refine lv_iload_n C.x C.b d_MD_encipher_143 rfl (lv_at hl 5 rfl) ?_
                          refine lv_iload_n C.x C.b d_MD_encipher_144 rfl (lv_at hl 4 rfl) ?_
                          refine lv_bipush (v := nI 10) C.x C.b d_MD_encipher_145 (by decide) ?_
                          refine lv_icmp_ne (tgt := 159) C.x C.b d_MD_encipher_147 (by decide) (fun hc147 => ?_) (fun hc147 => ?_)
                          · rw [nI_eq (by omega) (by omega)] at hc147
                            refine lv_iconst (v := nI 2) C.x C.b d_MD_encipher_159 (by decide) ?_
                            refine lv_aload_n C.x C.b d_MD_encipher_160 rfl (lv_at hl 2 rfl) ?_
                            refine k_get C hP 0 rfl rfl i_MD 19 (by decide) m_671 rfl d_MD_encipher_161 ?_
                            refine lv_iload_n C.x C.b d_MD_encipher_164 rfl (lv_at hl 5 rfl) ?_
                            refine k_iald C hP 5 rfl (j := k9) (by omega) (by omega) d_MD_encipher_165 ?_
                            refine k_callS (As := [.int (nI 2), .int (g1 k9)]) (rest := [.int (nI k9), .ref al]) (wc := []) (wr := [(h, ob 1 [.int th, .ref an, .ref ak, .int lt, .int se, .ref au, .int zs, .ref ap, .int mn, .ref aw, .int cz, .ref ac, .int ln, .int ft, .int gz, .ref ag, .ref ax, .ref ao, .ref al, .ref av, .ref ae, .ref ar, .ref ad, .ref aW, .ref aS, .ref aN, .ref aR, .ref aG]), (ak, aI d 48 fk), (ax, aI d 256 fx), (ao, aI d 44 fo), (al, aI d 16 b2), (av, aI d 16 g1)]) C (c_MD_times l d (nI 2) (g1 k9)) mw_MD_times m_649 hP hD hS [] [0, 1, 2, 3, 4, 5] rfl rfl (by decide) (by decide) (by decide) rfl hl.1 (Nat.le_of_ble_eq_true rfl) d_MD_encipher_166 ⟨Nat.le_of_ble_eq_true rfl, Nat.le_of_ble_eq_true rfl⟩ ⟨by decide, by decide⟩ (fun _ H locs hw_10 hP hD hS => ?_)
                            have hP : va_P d.1 clz [(h, ob 1 [.int th, .ref an, .ref ak, .int lt, .int se, .ref au, .int zs, .ref ap, .int mn, .ref aw, .int cz, .ref ac, .int ln, .int ft, .int gz, .ref ag, .ref ax, .ref ao, .ref al, .ref av, .ref ae, .ref ar, .ref ad, .ref aW, .ref aS, .ref aN, .ref aR, .ref aG]), (ak, aI d 48 fk), (ax, aI d 256 fx), (ao, aI d 44 fo), (al, aI d 16 b2), (av, aI d 16 g1)] H := hP
                            have hD : va_D A [(h, ob 1 [.int th, .ref an, .ref ak, .int lt, .int se, .ref au, .int zs, .ref ap, .int mn, .ref aw, .int cz, .ref ac, .int ln, .int ft, .int gz, .ref ag, .ref ax, .ref ao, .ref al, .ref av, .ref ae, .ref ar, .ref ad, .ref aW, .ref aS, .ref aN, .ref aR, .ref aG]), (ak, aI d 48 fk), (ax, aI d 256 fx), (ao, aI d 44 fo), (al, aI d 16 b2), (av, aI d 16 g1)] := hD
                            refine W.eq (g2 := F0 m 169 ls [.int (tim (nI 2) (g1 k9)), .int (nI k9), .ref al]) rfl ?_
                            refine k_top (y := xt (g1 k9)) ((xt_sp (by rw [hg1 k9 (by omega)]; exact isb_ssh)).2.1) ?_
                            refine lv_iconst (v := nI 3) C.x C.b d_MD_encipher_169 (by decide) ?_
                            refine lv_aload_n C.x C.b d_MD_encipher_170 rfl (lv_at hl 2 rfl) ?_
                            refine k_get C hP 0 rfl rfl i_MD 19 (by decide) m_671 rfl d_MD_encipher_171 ?_
                            refine lv_iload C.x C.b d_MD_encipher_174 (lv_at hl 1 rfl) ?_
                            refine lv_iload C.x C.b d_MD_encipher_176 (lv_at hl 0 rfl) ?_
                            refine lv_iconst (v := nI 1) C.x C.b d_MD_encipher_178 (by decide) ?_
                            refine lv_iadd C.x C.b d_MD_encipher_179 ?_
                            refine k_top (y := nI ((k9 % 4) + 1)) (nI_add _ _) ?_
                            refine lv_iconst (v := nI 4) C.x C.b d_MD_encipher_180 (by decide) ?_
                            refine lv_irem C.x C.b d_MD_encipher_181 (by decide) ?_
                            refine k_top (y := nI (((k9 % 4) + 1) % 4)) (pk_rem (by omega) (by omega) (by omega)) ?_
                            refine lv_iadd C.x C.b d_MD_encipher_182 ?_
                            refine k_top (y := nI (((k9 / 4) * 4) + (((k9 % 4) + 1) % 4))) (nI_add _ _) ?_
                            refine k_iald C hP 5 rfl (j := (((k9 / 4) * 4) + (((k9 % 4) + 1) % 4))) (by omega) (by omega) d_MD_encipher_183 ?_
                            refine k_callS (As := [.int (nI 3), .int (g1 (((k9 / 4) * 4) + (((k9 % 4) + 1) % 4)))]) (rest := [.int (xt (g1 k9)), .int (nI k9), .ref al]) (wc := []) (wr := [(h, ob 1 [.int th, .ref an, .ref ak, .int lt, .int se, .ref au, .int zs, .ref ap, .int mn, .ref aw, .int cz, .ref ac, .int ln, .int ft, .int gz, .ref ag, .ref ax, .ref ao, .ref al, .ref av, .ref ae, .ref ar, .ref ad, .ref aW, .ref aS, .ref aN, .ref aR, .ref aG]), (ak, aI d 48 fk), (ax, aI d 256 fx), (ao, aI d 44 fo), (al, aI d 16 b2), (av, aI d 16 g1)]) C (c_MD_times l d (nI 3) (g1 (k9 / 4 * 4 + (k9 % 4 + 1) % 4))) mw_MD_times m_649 hP hD hS [] [0, 1, 2, 3, 4, 5] rfl rfl (by decide) (by decide) (by decide) rfl hl.1 (Nat.le_of_ble_eq_true rfl) d_MD_encipher_184 ⟨Nat.le_of_ble_eq_true rfl, Nat.le_of_ble_eq_true rfl⟩ ⟨by decide, by decide⟩ (fun _ H locs hw_11 hP hD hS => ?_)
                            have hP : va_P d.1 clz [(h, ob 1 [.int th, .ref an, .ref ak, .int lt, .int se, .ref au, .int zs, .ref ap, .int mn, .ref aw, .int cz, .ref ac, .int ln, .int ft, .int gz, .ref ag, .ref ax, .ref ao, .ref al, .ref av, .ref ae, .ref ar, .ref ad, .ref aW, .ref aS, .ref aN, .ref aR, .ref aG]), (ak, aI d 48 fk), (ax, aI d 256 fx), (ao, aI d 44 fo), (al, aI d 16 b2), (av, aI d 16 g1)] H := hP
                            have hD : va_D A [(h, ob 1 [.int th, .ref an, .ref ak, .int lt, .int se, .ref au, .int zs, .ref ap, .int mn, .ref aw, .int cz, .ref ac, .int ln, .int ft, .int gz, .ref ag, .ref ax, .ref ao, .ref al, .ref av, .ref ae, .ref ar, .ref ad, .ref aW, .ref aS, .ref aN, .ref aR, .ref aG]), (ak, aI d 48 fk), (ax, aI d 256 fx), (ao, aI d 44 fo), (al, aI d 16 b2), (av, aI d 16 g1)] := hD
                            refine W.eq (g2 := F0 m 187 ls [.int (tim (nI 3) (g1 (k9 / 4 * 4 + (k9 % 4 + 1) % 4))), .int (xt (g1 k9)), .int (nI k9), .ref al]) rfl ?_
                            refine k_top (y := g1 (k9 / 4 * 4 + (k9 % 4 + 1) % 4) ^^^ xt (g1 (k9 / 4 * 4 + (k9 % 4 + 1) % 4))) ((xt_sp (by rw [hg1 _ (by omega)]; exact isb_ssh)).2.2.1) ?_
                            refine lv_ixor C.x C.b d_MD_encipher_187 ?_
                            refine lv_aload_n C.x C.b d_MD_encipher_188 rfl (lv_at hl 2 rfl) ?_
                            refine k_get C hP 0 rfl rfl i_MD 19 (by decide) m_671 rfl d_MD_encipher_189 ?_
                            refine lv_iload C.x C.b d_MD_encipher_192 (lv_at hl 1 rfl) ?_
                            refine lv_iload C.x C.b d_MD_encipher_194 (lv_at hl 0 rfl) ?_
                            refine lv_iconst (v := nI 2) C.x C.b d_MD_encipher_196 (by decide) ?_
                            refine lv_iadd C.x C.b d_MD_encipher_197 ?_
                            refine k_top (y := nI ((k9 % 4) + 2)) (nI_add _ _) ?_
                            refine lv_iconst (v := nI 4) C.x C.b d_MD_encipher_198 (by decide) ?_
                            refine lv_irem C.x C.b d_MD_encipher_199 (by decide) ?_
                            refine k_top (y := nI (((k9 % 4) + 2) % 4)) (pk_rem (by omega) (by omega) (by omega)) ?_
                            refine lv_iadd C.x C.b d_MD_encipher_200 ?_
                            refine k_top (y := nI (((k9 / 4) * 4) + (((k9 % 4) + 2) % 4))) (nI_add _ _) ?_
                            refine k_iald C hP 5 rfl (j := (((k9 / 4) * 4) + (((k9 % 4) + 2) % 4))) (by omega) (by omega) d_MD_encipher_201 ?_
                            refine lv_ixor C.x C.b d_MD_encipher_202 ?_
                            refine lv_aload_n C.x C.b d_MD_encipher_203 rfl (lv_at hl 2 rfl) ?_
                            refine k_get C hP 0 rfl rfl i_MD 19 (by decide) m_671 rfl d_MD_encipher_204 ?_
                            refine lv_iload C.x C.b d_MD_encipher_207 (lv_at hl 1 rfl) ?_
                            refine lv_iload C.x C.b d_MD_encipher_209 (lv_at hl 0 rfl) ?_
                            refine lv_iconst (v := nI 3) C.x C.b d_MD_encipher_211 (by decide) ?_
                            refine lv_iadd C.x C.b d_MD_encipher_212 ?_
                            refine k_top (y := nI ((k9 % 4) + 3)) (nI_add _ _) ?_
                            refine lv_iconst (v := nI 4) C.x C.b d_MD_encipher_213 (by decide) ?_
                            refine lv_irem C.x C.b d_MD_encipher_214 (by decide) ?_
                            refine k_top (y := nI (((k9 % 4) + 3) % 4)) (pk_rem (by omega) (by omega) (by omega)) ?_
                            refine lv_iadd C.x C.b d_MD_encipher_215 ?_
                            refine k_top (y := nI (((k9 / 4) * 4) + (((k9 % 4) + 3) % 4))) (nI_add _ _) ?_
                            refine k_iald C hP 5 rfl (j := (((k9 / 4) * 4) + (((k9 % 4) + 3) % 4))) (by omega) (by omega) d_MD_encipher_216 ?_
                            refine lv_ixor C.x C.b d_MD_encipher_217 ?_
                            refine k_iast C hP hD hS 4 rfl (j := k9) (by omega) (by omega) d_MD_encipher_218 (fun H locs hP hD hS => ?_)
                            have hP : va_P d.1 clz [(h, ob 1 [.int th, .ref an, .ref ak, .int lt, .int se, .ref au, .int zs, .ref ap, .int mn, .ref aw, .int cz, .ref ac, .int ln, .int ft, .int gz, .ref ag, .ref ax, .ref ao, .ref al, .ref av, .ref ae, .ref ar, .ref ad, .ref aW, .ref aS, .ref aN, .ref aR, .ref aG]), (ak, aI d 48 fk), (ax, aI d 256 fx), (ao, aI d 44 fo), (al, aI d 16 (upd b2 k9 ((((xt (g1 k9)) ^^^ (g1 (k9 / 4 * 4 + (k9 % 4 + 1) % 4) ^^^ xt (g1 (k9 / 4 * 4 + (k9 % 4 + 1) % 4)))) ^^^ (g1 (((k9 / 4) * 4) + (((k9 % 4) + 2) % 4)))) ^^^ (g1 (((k9 / 4) * 4) + (((k9 % 4) + 3) % 4)))))), (av, aI d 16 g1)] H := hP
                            have hD : va_D A [(h, ob 1 [.int th, .ref an, .ref ak, .int lt, .int se, .ref au, .int zs, .ref ap, .int mn, .ref aw, .int cz, .ref ac, .int ln, .int ft, .int gz, .ref ag, .ref ax, .ref ao, .ref al, .ref av, .ref ae, .ref ar, .ref ad, .ref aW, .ref aS, .ref aN, .ref aR, .ref aG]), (ak, aI d 48 fk), (ax, aI d 256 fx), (ao, aI d 44 fo), (al, aI d 16 (upd b2 k9 ((((xt (g1 k9)) ^^^ (g1 (k9 / 4 * 4 + (k9 % 4 + 1) % 4) ^^^ xt (g1 (k9 / 4 * 4 + (k9 % 4 + 1) % 4)))) ^^^ (g1 (((k9 / 4) * 4) + (((k9 % 4) + 2) % 4)))) ^^^ (g1 (((k9 / 4) * 4) + (((k9 % 4) + 3) % 4)))))), (av, aI d 16 g1)] := hD
                            refine lv_iinc (v := nI (k9 + 1)) (lv' := [(3, .int (nI (k9 + 1))), (5, .int (nI (k9 % 4))), (4, .int (nI ((k9 / 4) * 4))), (0, .ref h), (1, .int (nI fr)), (2, .int (nI (r + 1)))]) C.x C.b d_MD_encipher_219 hl (k := 5) rfl (k_inc _ 1) (by decide) rfl (fun ls hl => ?_)
                            refine lv_goto (tgt := 121) C.x C.b d_MD_encipher_222 (by decide) ?_
                            exact ih121 (k9 + 1) g1 (upd b2 k9 ((((xt (g1 k9)) ^^^ (g1 (k9 / 4 * 4 + (k9 % 4 + 1) % 4) ^^^ xt (g1 (k9 / 4 * 4 + (k9 % 4 + 1) % 4)))) ^^^ (g1 (((k9 / 4) * 4) + (((k9 % 4) + 2) % 4)))) ^^^ (g1 (((k9 / 4) * 4) + (((k9 % 4) + 3) % 4))))) (by omega) (by omega) (hg1) (upd_le (g := b2) hb2 (mx_step (by omega) (by omega))) _ _ _ (hP.sub [0, 1, 2, 3, 4, 5] (rfl)) (hD.sub [0, 1, 2, 3, 4, 5] (by decide) (rfl)) hS (lv_sub hl [3, 4, 5, 0] (rfl))
                          · rw [nI_eq (by omega) (by omega)] at hc147
                            refine lv_aload_n C.x C.b d_MD_encipher_150 rfl (lv_at hl 2 rfl) ?_
                            refine k_get C hP 0 rfl rfl i_MD 19 (by decide) m_671 rfl d_MD_encipher_151 ?_
                            refine lv_iload_n C.x C.b d_MD_encipher_154 rfl (lv_at hl 5 rfl) ?_
                            refine k_iald C hP 5 rfl (j := k9) (by omega) (by omega) d_MD_encipher_155 ?_
                            refine lv_goto (tgt := 218) C.x C.b d_MD_encipher_156 (by decide) ?_
                            refine k_iast C hP hD hS 4 rfl (j := k9) (by omega) (by omega) d_MD_encipher_218 (fun H locs hP hD hS => ?_)
                            have hP : va_P d.1 clz [(h, ob 1 [.int th, .ref an, .ref ak, .int lt, .int se, .ref au, .int zs, .ref ap, .int mn, .ref aw, .int cz, .ref ac, .int ln, .int ft, .int gz, .ref ag, .ref ax, .ref ao, .ref al, .ref av, .ref ae, .ref ar, .ref ad, .ref aW, .ref aS, .ref aN, .ref aR, .ref aG]), (ak, aI d 48 fk), (ax, aI d 256 fx), (ao, aI d 44 fo), (al, aI d 16 (upd b2 k9 (g1 k9))), (av, aI d 16 g1)] H := hP
                            have hD : va_D A [(h, ob 1 [.int th, .ref an, .ref ak, .int lt, .int se, .ref au, .int zs, .ref ap, .int mn, .ref aw, .int cz, .ref ac, .int ln, .int ft, .int gz, .ref ag, .ref ax, .ref ao, .ref al, .ref av, .ref ae, .ref ar, .ref ad, .ref aW, .ref aS, .ref aN, .ref aR, .ref aG]), (ak, aI d 48 fk), (ax, aI d 256 fx), (ao, aI d 44 fo), (al, aI d 16 (upd b2 k9 (g1 k9))), (av, aI d 16 g1)] := hD
                            refine lv_iinc (v := nI (k9 + 1)) (lv' := [(3, .int (nI (k9 + 1))), (5, .int (nI (k9 % 4))), (4, .int (nI ((k9 / 4) * 4))), (0, .ref h), (1, .int (nI fr)), (2, .int (nI (r + 1)))]) C.x C.b d_MD_encipher_219 hl (k := 5) rfl (k_inc _ 1) (by decide) rfl (fun ls hl => ?_)
                            refine lv_goto (tgt := 121) C.x C.b d_MD_encipher_222 (by decide) ?_
                            exact ih121 (k9 + 1) g1 (upd b2 k9 (g1 k9)) (by omega) (by omega) (hg1) (upd_le (g := b2) hb2 (by rw [if_neg (show ¬ r + 1 < 10 from by omega)])) _ _ _ (hP.sub [0, 1, 2, 3, 4, 5] (rfl)) (hD.sub [0, 1, 2, 3, 4, 5] (by decide) (rfl)) hS (lv_sub hl [3, 4, 5, 0] (rfl))
                    exact L121 ((16 - 0) + 1) 0 g b9 (Nat.lt_succ_self _) (by omega) (fun i hi => hg i (by omega)) (fun i hi => absurd hi (Nat.not_lt_zero _)) _ _ _ (hP.sub [0, 1, 2, 3, 4, 5] (rfl)) (hD.sub [0, 1, 2, 3, 4, 5] (by decide) (rfl)) hS (lv_sub hl [1, 2, 3, 0] (rfl))
                  · rw [nI_leI (by omega) (by omega)] at hc63
                    refine lv_iconst (v := nI 0) C.x C.b d_MD_encipher_66 (by decide) ?_
                    refine lv_istore (lv' := [(4, .int (nI 0)), (0, .ref h), (1, .int (nI fr)), (2, .int (nI (r + 1))), (3, .int (nI c9))]) C.x C.b d_MD_encipher_67 hl (by decide) rfl (fun ls hl => ?_)
                    have L69 : ∀ (fuel : Nat) (r9 : Nat) (g0 : Nat → Int32), 4 - r9 < fuel → (r9 ≤ 4) → (∀ i, i < 4 * c9 + r9 → g0 i = ssh b9 i) → ∀ (H : Heap) (locs : List Loc) (ls : Array Slot), va_P d.1 clz [(h, ob 1 [.int th, .ref an, .ref ak, .int lt, .int se, .ref au, .int zs, .ref ap, .int mn, .ref aw, .int cz, .ref ac, .int ln, .int ft, .int gz, .ref ag, .ref ax, .ref ao, .ref al, .ref av, .ref ae, .ref ar, .ref ad, .ref aW, .ref aS, .ref aN, .ref aR, .ref aG]), (ak, aI d 48 fk), (ax, aI d 256 fx), (ao, aI d 44 fo), (al, aI d 16 b9), (av, aI d 16 g0)] H → va_D A [(h, ob 1 [.int th, .ref an, .ref ak, .int lt, .int se, .ref au, .int zs, .ref ap, .int mn, .ref aw, .int cz, .ref ac, .int ln, .int ft, .int gz, .ref ag, .ref ax, .ref ao, .ref al, .ref av, .ref ae, .ref ar, .ref ad, .ref aW, .ref aS, .ref aN, .ref aR, .ref aG]), (ak, aI d 48 fk), (ax, aI d 256 fx), (ao, aI d 44 fo), (al, aI d 16 b9), (av, aI d 16 g0)] → va_S A s.heap H locs → lv_has ls 6 [(0, .ref h), (1, .int (nI fr)), (2, .int (nI (r + 1))), (3, .int (nI c9)), (4, .int (nI r9))] → W p l e (Rm 1 24 0 0) s m ([.ref h, .int (nI fr)] : List Value).toArray below meth c H locs 0 0 (MQ below (Cout d A (fun (u : (Nat → Int32) × (Nat → Int32)) => match u with | (f2, f3) => none) (fun (u : (Nat → Int32) × (Nat → Int32)) => match u with | (f2, f3) => ∀ j, j < 16 → f2 j = aes fo (shf fr fk) j) (fun (u : (Nat → Int32) × (Nat → Int32)) => match u with | (f2, f3) => [(h, ob 1 [.int th, .ref an, .ref ak, .int lt, .int se, .ref au, .int zs, .ref ap, .int mn, .ref aw, .int cz, .ref ac, .int ln, .int ft, .int gz, .ref ag, .ref ax, .ref ao, .ref al, .ref av, .ref ae, .ref ar, .ref ad, .ref aW, .ref aS, .ref aN, .ref aR, .ref aG]), (ak, aI d 48 fk), (ax, aI d 256 fx), (ao, aI d 44 fo), (al, aI d 16 f2), (av, aI d 16 f3)])) ([.ref h, .int (nI fr)] : List Value).toArray s 0 0 A) (F0 m 69 ls []) := by
                      intro fuel
                      induction fuel with
                      | zero => intro r9 g0 h9; exact absurd h9 (Nat.not_lt_zero _)
                      | succ fuel ih69 =>
                        intro r9 g0 hfu69 hr9 hg0 H locs ls hP hD hS hl
                        refine lv_iload C.x C.b d_MD_encipher_69 (lv_at hl 4 rfl) ?_
                        refine lv_iconst (v := nI 4) C.x C.b d_MD_encipher_71 (by decide) ?_
                        refine lv_icmp_ge (tgt := 113) C.x C.b d_MD_encipher_72 (by decide) (fun hc72 => ?_) (fun hc72 => ?_)
                        · rw [nI_leI (by omega) (by omega)] at hc72
                          refine lv_iinc (v := nI (c9 + 1)) (lv' := [(3, .int (nI (c9 + 1))), (0, .ref h), (1, .int (nI fr)), (2, .int (nI (r + 1))), (4, .int (nI r9))]) C.x C.b d_MD_encipher_113 hl (k := 3) rfl (k_inc _ 1) (by decide) rfl (fun ls hl => ?_)
                          refine lv_goto (tgt := 61) C.x C.b d_MD_encipher_116 (by decide) ?_
                          exact ih61 (c9 + 1) g0 (by omega) (by omega) (fun i hi => hg0 i (by omega)) _ _ _ (hP.sub [0, 1, 2, 3, 4, 5] (rfl)) (hD.sub [0, 1, 2, 3, 4, 5] (by decide) (rfl)) hS (lv_sub hl [1, 2, 3, 0] (rfl))
                        · rw [nI_leI (by omega) (by omega)] at hc72
                          refine lv_aload_n C.x C.b d_MD_encipher_75 rfl (lv_at hl 0 rfl) ?_
                          refine k_get C hP 0 rfl rfl i_MD 19 (by decide) m_671 rfl d_MD_encipher_76 ?_
                          refine lv_iconst (v := nI 4) C.x C.b d_MD_encipher_79 (by decide) ?_
                          refine lv_iload_n C.x C.b d_MD_encipher_80 rfl (lv_at hl 3 rfl) ?_
                          refine lv_imul C.x C.b d_MD_encipher_81 ?_
                          refine k_top (y := nI (4 * c9)) (pk_mul _ _) ?_
                          refine lv_iload C.x C.b d_MD_encipher_82 (lv_at hl 4 rfl) ?_
                          refine lv_iadd C.x C.b d_MD_encipher_84 ?_
                          refine k_top (y := nI (4 * c9 + r9)) (nI_add _ _) ?_
                          refine lv_aload_n C.x C.b d_MD_encipher_85 rfl (lv_at hl 0 rfl) ?_
                          refine k_get C hP 0 rfl rfl i_MD 16 (by decide) m_668 rfl d_MD_encipher_86 ?_
                          refine lv_aload_n C.x C.b d_MD_encipher_89 rfl (lv_at hl 0 rfl) ?_
                          refine k_get C hP 0 rfl rfl i_MD 18 (by decide) m_670 rfl d_MD_encipher_90 ?_
                          refine lv_iconst (v := nI 4) C.x C.b d_MD_encipher_93 (by decide) ?_
                          refine lv_iload_n C.x C.b d_MD_encipher_94 rfl (lv_at hl 3 rfl) ?_
                          refine lv_iload C.x C.b d_MD_encipher_95 (lv_at hl 4 rfl) ?_
                          refine lv_iadd C.x C.b d_MD_encipher_97 ?_
                          refine k_top (y := nI (c9 + r9)) (nI_add _ _) ?_
                          refine lv_iconst (v := nI 4) C.x C.b d_MD_encipher_98 (by decide) ?_
                          refine lv_irem C.x C.b d_MD_encipher_99 (by decide) ?_
                          refine k_top (y := nI ((c9 + r9) % 4)) (pk_rem (by omega) (by omega) (by omega)) ?_
                          refine lv_imul C.x C.b d_MD_encipher_100 ?_
                          refine k_top (y := nI (4 * ((c9 + r9) % 4))) (pk_mul _ _) ?_
                          refine lv_iload C.x C.b d_MD_encipher_101 (lv_at hl 4 rfl) ?_
                          refine lv_iadd C.x C.b d_MD_encipher_103 ?_
                          refine k_top (y := nI ((4 * ((c9 + r9) % 4)) + r9)) (nI_add _ _) ?_
                          refine k_iald C hP 4 rfl (j := ((4 * ((c9 + r9) % 4)) + r9)) (by omega) (by omega) d_MD_encipher_104 ?_
                          refine k_top (y := nI (bi (b9 (4 * ((c9 + r9) % 4) + r9)))) (isb_bi (hbb _ (by omega))) ?_
                          refine k_iald C hP 2 rfl (j := (bi (b9 (4 * ((c9 + r9) % 4) + r9)))) (bi_lt _) (by omega) d_MD_encipher_105 ?_
                          refine k_top (y := sbx (bi (b9 (4 * ((c9 + r9) % 4) + r9)))) (hbx _ (bi_lt _)) ?_
                          refine k_iast C hP hD hS 5 rfl (j := (4 * c9 + r9)) (by omega) (by omega) d_MD_encipher_106 (fun H locs hP hD hS => ?_)
                          have hP : va_P d.1 clz [(h, ob 1 [.int th, .ref an, .ref ak, .int lt, .int se, .ref au, .int zs, .ref ap, .int mn, .ref aw, .int cz, .ref ac, .int ln, .int ft, .int gz, .ref ag, .ref ax, .ref ao, .ref al, .ref av, .ref ae, .ref ar, .ref ad, .ref aW, .ref aS, .ref aN, .ref aR, .ref aG]), (ak, aI d 48 fk), (ax, aI d 256 fx), (ao, aI d 44 fo), (al, aI d 16 b9), (av, aI d 16 (upd g0 (4 * c9 + r9) (sbx (bi (b9 (4 * ((c9 + r9) % 4) + r9))))))] H := hP
                          have hD : va_D A [(h, ob 1 [.int th, .ref an, .ref ak, .int lt, .int se, .ref au, .int zs, .ref ap, .int mn, .ref aw, .int cz, .ref ac, .int ln, .int ft, .int gz, .ref ag, .ref ax, .ref ao, .ref al, .ref av, .ref ae, .ref ar, .ref ad, .ref aW, .ref aS, .ref aN, .ref aR, .ref aG]), (ak, aI d 48 fk), (ax, aI d 256 fx), (ao, aI d 44 fo), (al, aI d 16 b9), (av, aI d 16 (upd g0 (4 * c9 + r9) (sbx (bi (b9 (4 * ((c9 + r9) % 4) + r9))))))] := hD
                          refine lv_iinc (v := nI (r9 + 1)) (lv' := [(4, .int (nI (r9 + 1))), (0, .ref h), (1, .int (nI fr)), (2, .int (nI (r + 1))), (3, .int (nI c9))]) C.x C.b d_MD_encipher_107 hl (k := 4) rfl (k_inc _ 1) (by decide) rfl (fun ls hl => ?_)
                          refine lv_goto (tgt := 69) C.x C.b d_MD_encipher_110 (by decide) ?_
                          exact ih69 (r9 + 1) (upd g0 (4 * c9 + r9) (sbx (bi (b9 (4 * ((c9 + r9) % 4) + r9))))) (by omega) (by omega) (upd_le (g := g0) (i := 4 * c9 + r9) hg0 (by unfold ssh; rw [show (4 * c9 + r9) / 4 = c9 from by omega, show (4 * c9 + r9) % 4 = r9 from by omega])) _ _ _ (hP.sub [0, 1, 2, 3, 4, 5] (rfl)) (hD.sub [0, 1, 2, 3, 4, 5] (by decide) (rfl)) hS (lv_sub hl [1, 2, 3, 4, 0] (rfl))
                    exact L69 ((4 - 0) + 1) 0 g (Nat.lt_succ_self _) (by omega) (fun i hi => hg i (by omega)) _ _ _ (hP.sub [0, 1, 2, 3, 4, 5] (rfl)) (hD.sub [0, 1, 2, 3, 4, 5] (by decide) (rfl)) hS (lv_sub hl [1, 2, 3, 4, 0] (rfl))
              exact L61 ((4 - 0) + 1) 0 m9 (Nat.lt_succ_self _) (by omega) (fun i hi => absurd hi (by omega)) _ _ _ (hP.sub [0, 1, 2, 3, 4, 5] (rfl)) (hD.sub [0, 1, 2, 3, 4, 5] (by decide) (rfl)) hS (lv_sub hl [1, 2, 3, 0] (rfl))
        exact L53 ((10 - 0) + 1) 0 gr fv (Nat.lt_succ_self _) (by omega) (fun i hi => by rw [hgr i hi]; exact ark_cg (by omega) (fun _ _ => rfl) (fun q hq => hg q (by omega)) i hi) _ _ _ (hP.sub [3, 0, 1, 4, 5, 2] (rfl)) (hD.sub [3, 0, 1, 4, 5, 2] (by decide) (rfl)) hS (lv_sub hl [1, 2, 0] (rfl))
      · rw [nI_leI (by omega) (by omega)] at hc5
        refine lv_aload_n C.x C.b d_MD_encipher_8 rfl (lv_at hl 0 rfl) ?_
        refine k_get C hP 0 rfl rfl i_MD 18 (by decide) m_670 rfl d_MD_encipher_9 ?_
        refine lv_iload_n C.x C.b d_MD_encipher_12 rfl (lv_at hl 2 rfl) ?_
        refine lv_aload_n C.x C.b d_MD_encipher_13 rfl (lv_at hl 0 rfl) ?_
        refine k_get C hP 0 rfl rfl i_MD 2 (by decide) m_654 rfl d_MD_encipher_14 ?_
        refine lv_iload_n C.x C.b d_MD_encipher_17 rfl (lv_at hl 1 rfl) ?_
        refine lv_iconst (v := nI 4) C.x C.b d_MD_encipher_18 (by decide) ?_
        refine lv_iadd C.x C.b d_MD_encipher_19 ?_
        refine k_top (y := nI (fr + 4)) (nI_add _ _) ?_
        refine lv_iload_n C.x C.b d_MD_encipher_20 rfl (lv_at hl 2 rfl) ?_
        refine lv_iconst (v := nI 4) C.x C.b d_MD_encipher_21 (by decide) ?_
        refine lv_idiv C.x C.b d_MD_encipher_22 (by decide) ?_
        refine k_top (y := nI (j / 4)) (pk_div (by omega) (by omega) (by omega)) ?_
        refine lv_iadd C.x C.b d_MD_encipher_23 ?_
        refine k_top (y := nI (fr + 4 + (j / 4))) (nI_add _ _) ?_
        refine k_iald C hP 1 rfl (j := (fr + 4 + (j / 4))) (by omega) (by omega) d_MD_encipher_24 ?_
        refine lv_bipush (v := nI 24) C.x C.b d_MD_encipher_25 (by decide) ?_
        refine lv_bipush (v := nI 8) C.x C.b d_MD_encipher_27 (by decide) ?_
        refine lv_iload_n C.x C.b d_MD_encipher_29 rfl (lv_at hl 2 rfl) ?_
        refine lv_iconst (v := nI 4) C.x C.b d_MD_encipher_30 (by decide) ?_
        refine lv_irem C.x C.b d_MD_encipher_31 (by decide) ?_
        refine k_top (y := nI (j % 4)) (pk_rem (by omega) (by omega) (by omega)) ?_
        refine lv_imul C.x C.b d_MD_encipher_32 ?_
        refine k_top (y := nI (8 * (j % 4))) (pk_mul _ _) ?_
        refine lv_isub C.x C.b d_MD_encipher_33 ?_
        refine k_top (y := nI (24 - (8 * (j % 4)))) (pk_sub (by omega)) ?_
        refine lv_ishr C.x C.b d_MD_encipher_34 ?_
        refine lv_sipush (v := nI 255) C.x C.b d_MD_encipher_35 (by decide) ?_
        refine lv_iand C.x C.b d_MD_encipher_38 ?_
        refine k_top (y := byt (fk (fr + 4 + j / 4)) (j % 4)) (shbyt (by omega) _) ?_
        refine k_iast C hP hD hS 4 rfl (j := j) (by omega) (by omega) d_MD_encipher_39 (fun H locs hP hD hS => ?_)
        have hP : va_P d.1 clz [(h, ob 1 [.int th, .ref an, .ref ak, .int lt, .int se, .ref au, .int zs, .ref ap, .int mn, .ref aw, .int cz, .ref ac, .int ln, .int ft, .int gz, .ref ag, .ref ax, .ref ao, .ref al, .ref av, .ref ae, .ref ar, .ref ad, .ref aW, .ref aS, .ref aN, .ref aR, .ref aG]), (ak, aI d 48 fk), (ax, aI d 256 fx), (ao, aI d 44 fo), (al, aI d 16 (upd g j (byt (fk (fr + 4 + j / 4)) (j % 4)))), (av, aI d 16 fv)] H := hP
        have hD : va_D A [(h, ob 1 [.int th, .ref an, .ref ak, .int lt, .int se, .ref au, .int zs, .ref ap, .int mn, .ref aw, .int cz, .ref ac, .int ln, .int ft, .int gz, .ref ag, .ref ax, .ref ao, .ref al, .ref av, .ref ae, .ref ar, .ref ad, .ref aW, .ref aS, .ref aN, .ref aR, .ref aG]), (ak, aI d 48 fk), (ax, aI d 256 fx), (ao, aI d 44 fo), (al, aI d 16 (upd g j (byt (fk (fr + 4 + j / 4)) (j % 4)))), (av, aI d 16 fv)] := hD
        refine lv_iinc (v := nI (j + 1)) (lv' := [(2, .int (nI (j + 1))), (0, .ref h), (1, .int (nI fr))]) C.x C.b d_MD_encipher_40 hl (k := 2) rfl (k_inc _ 1) (by decide) rfl (fun ls hl => ?_)
        refine lv_goto (tgt := 2) C.x C.b d_MD_encipher_43 (by decide) ?_
        exact ih2 (j + 1) (upd g j (byt (fk (fr + 4 + j / 4)) (j % 4))) (by omega) (by omega) (upd_le (g := g) hg (by unfold ctb shf; rw [Nat.add_assoc])) _ _ _ (hP.sub [0, 1, 2, 3, 4, 5] (rfl)) (hD.sub [0, 1, 2, 3, 4, 5] (by decide) (rfl)) hS (lv_sub hl [1, 2, 0] (rfl))
  exact L2 ((16 - 0) + 1) 0 fl (Nat.lt_succ_self _) (by omega) (fun i hi => absurd hi (Nat.not_lt_zero _)) _ _ _ (hP.sub [0, 1, 2, 3, 4, 5] (rfl)) (hD.sub [0, 1, 2, 3, 4, 5] (by decide) (rfl)) hS (lv_sub hl [1, 2, 0] (rfl))
theorem mw_MD_count : Mw y_MD_count b_MD_count 3 none 1 := ⟨m_815, m_9, m_814, by decide +kernel⟩
set_option maxHeartbeats 4000000 in
set_option maxRecDepth 100000 in
theorem c_MD_count (l : Launch) (d : DD) (h : Nat) (an : Nat) (ak : Nat) (au : Nat) (ap : Nat) (aw : Nat) (ac : Nat) (ag : Nat) (ax : Nat) (ao : Nat) (al : Nat) (av : Nat) (ae : Nat) (ar : Nat) (ad : Nat) (aW : Nat) (aS : Nat) (aN : Nat) (aR : Nat) (aG : Nat) (th : Int32) (lt : Int32) (se : Int32) (zs : Int32) (mn : Int32) (cz : Int32) (ln : Int32) (ft : Int32) (gz : Int32) (fk : Nat → Int32) (fr : Nat) (hfr : fr + 16 ≤ 48) : Ct l y_MD_count b_MD_count 3 none 0 0 0 0 d [(h, ob 1 [.int th, .ref an, .ref ak, .int lt, .int se, .ref au, .int zs, .ref ap, .int mn, .ref aw, .int cz, .ref ac, .int ln, .int ft, .int gz, .ref ag, .ref ax, .ref ao, .ref al, .ref av, .ref ae, .ref ar, .ref ad, .ref aW, .ref aS, .ref aN, .ref aR, .ref aG]), (ak, aI d 48 fk)] [.ref h, .int (nI fr)] (fun (f2 : Nat → Int32) => none) (fun (f2 : Nat → Int32) => shf fr f2 = ctrUp (shf fr fk) ∧ ∀ j, (j < fr ∨ fr + 16 ≤ j) → f2 j = fk j) (fun (f2 : Nat → Int32) => [(h, ob 1 [.int th, .ref an, .ref ak, .int lt, .int se, .ref au, .int zs, .ref ap, .int mn, .ref aw, .int cz, .ref ac, .int ln, .int ft, .int gz, .ref ag, .ref ax, .ref ao, .ref al, .ref av, .ref ae, .ref ar, .ref ad, .ref aW, .ref aS, .ref aN, .ref aR, .ref aG]), (ak, aI d 48 f2)]) := by
  refine Ct.of (by decide +kernel) (Nat.le_of_ble_eq_true rfl) ?_
  intro p e s m below meth c A ls C hP hD hS hl
  have hl : lv_has ls 3 [(0, .ref h), (1, .int (nI fr))] := hl
  have hsz9 := hS.1
  refine lv_bipush (v := nI 7) C.x C.b d_MD_count_0 (by decide) ?_
  refine lv_istore_n (lv' := [(2, .int (nI 7)), (0, .ref h), (1, .int (nI fr))]) C.x C.b d_MD_count_2 rfl hl (by decide) rfl (fun ls hl => ?_)
  refine lv_aload_n C.x C.b d_MD_count_3 rfl (lv_at hl 1 rfl) ?_
  refine k_get C hP 0 rfl rfl i_MD 2 (by decide) m_654 rfl d_MD_count_4 ?_
  refine lv_iload_n C.x C.b d_MD_count_7 rfl (lv_at hl 2 rfl) ?_
  refine lv_iload_n C.x C.b d_MD_count_8 rfl (lv_at hl 0 rfl) ?_
  refine lv_iadd C.x C.b d_MD_count_9 ?_
  refine k_top (y := nI (fr + 7)) (nI_add _ _) ?_
  refine lv_dup2_11 C.x C.b d_MD_count_10 rfl rfl ?_
  refine k_iald C hP 1 rfl (j := (fr + 7)) (by omega) (by omega) d_MD_count_11 ?_
  refine lv_iconst (v := nI 1) C.x C.b d_MD_count_12 (by decide) ?_
  refine lv_iadd C.x C.b d_MD_count_13 ?_
  refine k_iast C hP hD hS 1 rfl (j := (fr + 7)) (by omega) (by omega) d_MD_count_14 (fun H locs hP hD hS => ?_)
  have hP : va_P d.1 clz [(h, ob 1 [.int th, .ref an, .ref ak, .int lt, .int se, .ref au, .int zs, .ref ap, .int mn, .ref aw, .int cz, .ref ac, .int ln, .int ft, .int gz, .ref ag, .ref ax, .ref ao, .ref al, .ref av, .ref ae, .ref ar, .ref ad, .ref aW, .ref aS, .ref aN, .ref aR, .ref aG]), (ak, aI d 48 (upd fk (fr + 7) ((fk (fr + 7)) + (nI 1))))] H := hP
  have hD : va_D A [(h, ob 1 [.int th, .ref an, .ref ak, .int lt, .int se, .ref au, .int zs, .ref ap, .int mn, .ref aw, .int cz, .ref ac, .int ln, .int ft, .int gz, .ref ag, .ref ax, .ref ao, .ref al, .ref av, .ref ae, .ref ar, .ref ad, .ref aW, .ref aS, .ref aN, .ref aR, .ref aG]), (ak, aI d 48 (upd fk (fr + 7) ((fk (fr + 7)) + (nI 1))))] := hD
  refine lv_iload_n C.x C.b d_MD_count_15 rfl (lv_at hl 0 rfl) ?_
  refine lv_iconst (v := nI 4) C.x C.b d_MD_count_16 (by decide) ?_
  refine lv_icmp_le (tgt := 49) C.x C.b d_MD_count_17 (by decide) (fun h9 => by first | exact absurd h9 (by decide) | exact absurd (by decide) h9) (fun _ => ?_)
  refine lv_aload_n C.x C.b d_MD_count_20 rfl (lv_at hl 1 rfl) ?_
  refine k_get C hP 0 rfl rfl i_MD 2 (by decide) m_654 rfl d_MD_count_21 ?_
  refine lv_iload_n C.x C.b d_MD_count_24 rfl (lv_at hl 2 rfl) ?_
  refine lv_iload_n C.x C.b d_MD_count_25 rfl (lv_at hl 0 rfl) ?_
  refine lv_iadd C.x C.b d_MD_count_26 ?_
  refine k_top (y := nI (fr + 7)) (nI_add _ _) ?_
  refine k_iald C hP 1 rfl (j := (fr + 7)) (by omega) (by omega) d_MD_count_27 ?_
  refine k_top (y := ((fk (fr + 7)) + (nI 1))) pk_us ?_
  refine lv_if_ne (tgt := 49) C.x C.b d_MD_count_28 (by decide) (fun hc_1 => ?_) (fun hc_1 => ?_)
  · have hP9 := hP.sub (ws' := [(h, ob 1 [.int th, .ref an, .ref ak, .int lt, .int se, .ref au, .int zs, .ref ap, .int mn, .ref aw, .int cz, .ref ac, .int ln, .int ft, .int gz, .ref ag, .ref ax, .ref ao, .ref al, .ref av, .ref ae, .ref ar, .ref ad, .ref aW, .ref aS, .ref aN, .ref aR, .ref aG]), (ak, aI d 48 (upd fk (fr + 7) ((fk (fr + 7)) + (nI 1))))]) [0, 1] rfl
    have hD9 := hD.sub (ws' := [(h, ob 1 [.int th, .ref an, .ref ak, .int lt, .int se, .ref au, .int zs, .ref ap, .int mn, .ref aw, .int cz, .ref ac, .int ln, .int ft, .int gz, .ref ag, .ref ax, .ref ao, .ref al, .ref av, .ref ae, .ref ar, .ref ad, .ref aW, .ref aS, .ref aN, .ref aR, .ref aG]), (ak, aI d 48 (upd fk (fr + 7) ((fk (fr + 7)) + (nI 1))))]) [0, 1] (by decide) rfl
    exact k_vret C hS (upd fk (fr + 7) ((fk (fr + 7)) + (nI 1))) (rfl) (⟨by rw [ctr_shf]; repeat' (first | rfl | contradiction | split), fun j hj => by simp only [pk_un (show j ≠ fr + 7 from by omega), pk_un (show j ≠ fr + 6 from by omega), pk_un (show j ≠ fr + 5 from by omega), pk_un (show j ≠ fr + 4 from by omega)]⟩) hP9 hD9 d_MD_count_49
  · refine lv_iinc (v := nI 6) (lv' := [(2, .int (nI 6)), (0, .ref h), (1, .int (nI fr))]) C.x C.b d_MD_count_31 hl (k := 0) rfl (by decide) (by decide) rfl (fun ls hl => ?_)
    refine lv_aload_n C.x C.b d_MD_count_34 rfl (lv_at hl 1 rfl) ?_
    refine k_get C hP 0 rfl rfl i_MD 2 (by decide) m_654 rfl d_MD_count_35 ?_
    refine lv_iload_n C.x C.b d_MD_count_38 rfl (lv_at hl 2 rfl) ?_
    refine lv_iload_n C.x C.b d_MD_count_39 rfl (lv_at hl 0 rfl) ?_
    refine lv_iadd C.x C.b d_MD_count_40 ?_
    refine k_top (y := nI (fr + 6)) (nI_add _ _) ?_
    refine lv_dup2_11 C.x C.b d_MD_count_41 rfl rfl ?_
    refine k_iald C hP 1 rfl (j := (fr + 6)) (by omega) (by omega) d_MD_count_42 ?_
    refine lv_iconst (v := nI 1) C.x C.b d_MD_count_43 (by decide) ?_
    refine lv_iadd C.x C.b d_MD_count_44 ?_
    refine k_iast C hP hD hS 1 rfl (j := (fr + 6)) (by omega) (by omega) d_MD_count_45 (fun H locs hP hD hS => ?_)
    have hP : va_P d.1 clz [(h, ob 1 [.int th, .ref an, .ref ak, .int lt, .int se, .ref au, .int zs, .ref ap, .int mn, .ref aw, .int cz, .ref ac, .int ln, .int ft, .int gz, .ref ag, .ref ax, .ref ao, .ref al, .ref av, .ref ae, .ref ar, .ref ad, .ref aW, .ref aS, .ref aN, .ref aR, .ref aG]), (ak, aI d 48 (upd (upd fk (fr + 7) ((fk (fr + 7)) + (nI 1))) (fr + 6) (((upd fk (fr + 7) ((fk (fr + 7)) + (nI 1))) (fr + 6)) + (nI 1))))] H := hP
    have hD : va_D A [(h, ob 1 [.int th, .ref an, .ref ak, .int lt, .int se, .ref au, .int zs, .ref ap, .int mn, .ref aw, .int cz, .ref ac, .int ln, .int ft, .int gz, .ref ag, .ref ax, .ref ao, .ref al, .ref av, .ref ae, .ref ar, .ref ad, .ref aW, .ref aS, .ref aN, .ref aR, .ref aG]), (ak, aI d 48 (upd (upd fk (fr + 7) ((fk (fr + 7)) + (nI 1))) (fr + 6) (((upd fk (fr + 7) ((fk (fr + 7)) + (nI 1))) (fr + 6)) + (nI 1))))] := hD
    refine lv_goto (tgt := 15) C.x C.b d_MD_count_46 (by decide) ?_
    refine lv_iload_n C.x C.b d_MD_count_15 rfl (lv_at hl 0 rfl) ?_
    refine lv_iconst (v := nI 4) C.x C.b d_MD_count_16 (by decide) ?_
    refine lv_icmp_le (tgt := 49) C.x C.b d_MD_count_17 (by decide) (fun h9 => by first | exact absurd h9 (by decide) | exact absurd (by decide) h9) (fun _ => ?_)
    refine lv_aload_n C.x C.b d_MD_count_20 rfl (lv_at hl 1 rfl) ?_
    refine k_get C hP 0 rfl rfl i_MD 2 (by decide) m_654 rfl d_MD_count_21 ?_
    refine lv_iload_n C.x C.b d_MD_count_24 rfl (lv_at hl 2 rfl) ?_
    refine lv_iload_n C.x C.b d_MD_count_25 rfl (lv_at hl 0 rfl) ?_
    refine lv_iadd C.x C.b d_MD_count_26 ?_
    refine k_top (y := nI (fr + 6)) (nI_add _ _) ?_
    refine k_iald C hP 1 rfl (j := (fr + 6)) (by omega) (by omega) d_MD_count_27 ?_
    refine k_top (y := (((upd fk (fr + 7) ((fk (fr + 7)) + (nI 1))) (fr + 6)) + (nI 1))) pk_us ?_
    refine lv_if_ne (tgt := 49) C.x C.b d_MD_count_28 (by decide) (fun hc_2 => ?_) (fun hc_2 => ?_)
    · have hP9 := hP.sub (ws' := [(h, ob 1 [.int th, .ref an, .ref ak, .int lt, .int se, .ref au, .int zs, .ref ap, .int mn, .ref aw, .int cz, .ref ac, .int ln, .int ft, .int gz, .ref ag, .ref ax, .ref ao, .ref al, .ref av, .ref ae, .ref ar, .ref ad, .ref aW, .ref aS, .ref aN, .ref aR, .ref aG]), (ak, aI d 48 (upd (upd fk (fr + 7) ((fk (fr + 7)) + (nI 1))) (fr + 6) (((upd fk (fr + 7) ((fk (fr + 7)) + (nI 1))) (fr + 6)) + (nI 1))))]) [0, 1] rfl
      have hD9 := hD.sub (ws' := [(h, ob 1 [.int th, .ref an, .ref ak, .int lt, .int se, .ref au, .int zs, .ref ap, .int mn, .ref aw, .int cz, .ref ac, .int ln, .int ft, .int gz, .ref ag, .ref ax, .ref ao, .ref al, .ref av, .ref ae, .ref ar, .ref ad, .ref aW, .ref aS, .ref aN, .ref aR, .ref aG]), (ak, aI d 48 (upd (upd fk (fr + 7) ((fk (fr + 7)) + (nI 1))) (fr + 6) (((upd fk (fr + 7) ((fk (fr + 7)) + (nI 1))) (fr + 6)) + (nI 1))))]) [0, 1] (by decide) rfl
      exact k_vret C hS (upd (upd fk (fr + 7) ((fk (fr + 7)) + (nI 1))) (fr + 6) (((upd fk (fr + 7) ((fk (fr + 7)) + (nI 1))) (fr + 6)) + (nI 1))) (rfl) (⟨by rw [ctr_shf]; repeat' (first | rfl | contradiction | split), fun j hj => by simp only [pk_un (show j ≠ fr + 7 from by omega), pk_un (show j ≠ fr + 6 from by omega), pk_un (show j ≠ fr + 5 from by omega), pk_un (show j ≠ fr + 4 from by omega)]⟩) hP9 hD9 d_MD_count_49
    · refine lv_iinc (v := nI 5) (lv' := [(2, .int (nI 5)), (0, .ref h), (1, .int (nI fr))]) C.x C.b d_MD_count_31 hl (k := 0) rfl (by decide) (by decide) rfl (fun ls hl => ?_)
      refine lv_aload_n C.x C.b d_MD_count_34 rfl (lv_at hl 1 rfl) ?_
      refine k_get C hP 0 rfl rfl i_MD 2 (by decide) m_654 rfl d_MD_count_35 ?_
      refine lv_iload_n C.x C.b d_MD_count_38 rfl (lv_at hl 2 rfl) ?_
      refine lv_iload_n C.x C.b d_MD_count_39 rfl (lv_at hl 0 rfl) ?_
      refine lv_iadd C.x C.b d_MD_count_40 ?_
      refine k_top (y := nI (fr + 5)) (nI_add _ _) ?_
      refine lv_dup2_11 C.x C.b d_MD_count_41 rfl rfl ?_
      refine k_iald C hP 1 rfl (j := (fr + 5)) (by omega) (by omega) d_MD_count_42 ?_
      refine lv_iconst (v := nI 1) C.x C.b d_MD_count_43 (by decide) ?_
      refine lv_iadd C.x C.b d_MD_count_44 ?_
      refine k_iast C hP hD hS 1 rfl (j := (fr + 5)) (by omega) (by omega) d_MD_count_45 (fun H locs hP hD hS => ?_)
      have hP : va_P d.1 clz [(h, ob 1 [.int th, .ref an, .ref ak, .int lt, .int se, .ref au, .int zs, .ref ap, .int mn, .ref aw, .int cz, .ref ac, .int ln, .int ft, .int gz, .ref ag, .ref ax, .ref ao, .ref al, .ref av, .ref ae, .ref ar, .ref ad, .ref aW, .ref aS, .ref aN, .ref aR, .ref aG]), (ak, aI d 48 (upd (upd (upd fk (fr + 7) ((fk (fr + 7)) + (nI 1))) (fr + 6) (((upd fk (fr + 7) ((fk (fr + 7)) + (nI 1))) (fr + 6)) + (nI 1))) (fr + 5) (((upd (upd fk (fr + 7) ((fk (fr + 7)) + (nI 1))) (fr + 6) (((upd fk (fr + 7) ((fk (fr + 7)) + (nI 1))) (fr + 6)) + (nI 1))) (fr + 5)) + (nI 1))))] H := hP
      have hD : va_D A [(h, ob 1 [.int th, .ref an, .ref ak, .int lt, .int se, .ref au, .int zs, .ref ap, .int mn, .ref aw, .int cz, .ref ac, .int ln, .int ft, .int gz, .ref ag, .ref ax, .ref ao, .ref al, .ref av, .ref ae, .ref ar, .ref ad, .ref aW, .ref aS, .ref aN, .ref aR, .ref aG]), (ak, aI d 48 (upd (upd (upd fk (fr + 7) ((fk (fr + 7)) + (nI 1))) (fr + 6) (((upd fk (fr + 7) ((fk (fr + 7)) + (nI 1))) (fr + 6)) + (nI 1))) (fr + 5) (((upd (upd fk (fr + 7) ((fk (fr + 7)) + (nI 1))) (fr + 6) (((upd fk (fr + 7) ((fk (fr + 7)) + (nI 1))) (fr + 6)) + (nI 1))) (fr + 5)) + (nI 1))))] := hD
      refine lv_goto (tgt := 15) C.x C.b d_MD_count_46 (by decide) ?_
      refine lv_iload_n C.x C.b d_MD_count_15 rfl (lv_at hl 0 rfl) ?_
      refine lv_iconst (v := nI 4) C.x C.b d_MD_count_16 (by decide) ?_
      refine lv_icmp_le (tgt := 49) C.x C.b d_MD_count_17 (by decide) (fun h9 => by first | exact absurd h9 (by decide) | exact absurd (by decide) h9) (fun _ => ?_)
      refine lv_aload_n C.x C.b d_MD_count_20 rfl (lv_at hl 1 rfl) ?_
      refine k_get C hP 0 rfl rfl i_MD 2 (by decide) m_654 rfl d_MD_count_21 ?_
      refine lv_iload_n C.x C.b d_MD_count_24 rfl (lv_at hl 2 rfl) ?_
      refine lv_iload_n C.x C.b d_MD_count_25 rfl (lv_at hl 0 rfl) ?_
      refine lv_iadd C.x C.b d_MD_count_26 ?_
      refine k_top (y := nI (fr + 5)) (nI_add _ _) ?_
      refine k_iald C hP 1 rfl (j := (fr + 5)) (by omega) (by omega) d_MD_count_27 ?_
      refine k_top (y := (((upd (upd fk (fr + 7) ((fk (fr + 7)) + (nI 1))) (fr + 6) (((upd fk (fr + 7) ((fk (fr + 7)) + (nI 1))) (fr + 6)) + (nI 1))) (fr + 5)) + (nI 1))) pk_us ?_
      refine lv_if_ne (tgt := 49) C.x C.b d_MD_count_28 (by decide) (fun hc_3 => ?_) (fun hc_3 => ?_)
      · have hP9 := hP.sub (ws' := [(h, ob 1 [.int th, .ref an, .ref ak, .int lt, .int se, .ref au, .int zs, .ref ap, .int mn, .ref aw, .int cz, .ref ac, .int ln, .int ft, .int gz, .ref ag, .ref ax, .ref ao, .ref al, .ref av, .ref ae, .ref ar, .ref ad, .ref aW, .ref aS, .ref aN, .ref aR, .ref aG]), (ak, aI d 48 (upd (upd (upd fk (fr + 7) ((fk (fr + 7)) + (nI 1))) (fr + 6) (((upd fk (fr + 7) ((fk (fr + 7)) + (nI 1))) (fr + 6)) + (nI 1))) (fr + 5) (((upd (upd fk (fr + 7) ((fk (fr + 7)) + (nI 1))) (fr + 6) (((upd fk (fr + 7) ((fk (fr + 7)) + (nI 1))) (fr + 6)) + (nI 1))) (fr + 5)) + (nI 1))))]) [0, 1] rfl
        have hD9 := hD.sub (ws' := [(h, ob 1 [.int th, .ref an, .ref ak, .int lt, .int se, .ref au, .int zs, .ref ap, .int mn, .ref aw, .int cz, .ref ac, .int ln, .int ft, .int gz, .ref ag, .ref ax, .ref ao, .ref al, .ref av, .ref ae, .ref ar, .ref ad, .ref aW, .ref aS, .ref aN, .ref aR, .ref aG]), (ak, aI d 48 (upd (upd (upd fk (fr + 7) ((fk (fr + 7)) + (nI 1))) (fr + 6) (((upd fk (fr + 7) ((fk (fr + 7)) + (nI 1))) (fr + 6)) + (nI 1))) (fr + 5) (((upd (upd fk (fr + 7) ((fk (fr + 7)) + (nI 1))) (fr + 6) (((upd fk (fr + 7) ((fk (fr + 7)) + (nI 1))) (fr + 6)) + (nI 1))) (fr + 5)) + (nI 1))))]) [0, 1] (by decide) rfl
        exact k_vret C hS (upd (upd (upd fk (fr + 7) ((fk (fr + 7)) + (nI 1))) (fr + 6) (((upd fk (fr + 7) ((fk (fr + 7)) + (nI 1))) (fr + 6)) + (nI 1))) (fr + 5) (((upd (upd fk (fr + 7) ((fk (fr + 7)) + (nI 1))) (fr + 6) (((upd fk (fr + 7) ((fk (fr + 7)) + (nI 1))) (fr + 6)) + (nI 1))) (fr + 5)) + (nI 1))) (rfl) (⟨by rw [ctr_shf]; repeat' (first | rfl | contradiction | split), fun j hj => by simp only [pk_un (show j ≠ fr + 7 from by omega), pk_un (show j ≠ fr + 6 from by omega), pk_un (show j ≠ fr + 5 from by omega), pk_un (show j ≠ fr + 4 from by omega)]⟩) hP9 hD9 d_MD_count_49
      · refine lv_iinc (v := nI 4) (lv' := [(2, .int (nI 4)), (0, .ref h), (1, .int (nI fr))]) C.x C.b d_MD_count_31 hl (k := 0) rfl (by decide) (by decide) rfl (fun ls hl => ?_)
        refine lv_aload_n C.x C.b d_MD_count_34 rfl (lv_at hl 1 rfl) ?_
        refine k_get C hP 0 rfl rfl i_MD 2 (by decide) m_654 rfl d_MD_count_35 ?_
        refine lv_iload_n C.x C.b d_MD_count_38 rfl (lv_at hl 2 rfl) ?_
        refine lv_iload_n C.x C.b d_MD_count_39 rfl (lv_at hl 0 rfl) ?_
        refine lv_iadd C.x C.b d_MD_count_40 ?_
        refine k_top (y := nI (fr + 4)) (nI_add _ _) ?_
        refine lv_dup2_11 C.x C.b d_MD_count_41 rfl rfl ?_
        refine k_iald C hP 1 rfl (j := (fr + 4)) (by omega) (by omega) d_MD_count_42 ?_
        refine lv_iconst (v := nI 1) C.x C.b d_MD_count_43 (by decide) ?_
        refine lv_iadd C.x C.b d_MD_count_44 ?_
        refine k_iast C hP hD hS 1 rfl (j := (fr + 4)) (by omega) (by omega) d_MD_count_45 (fun H locs hP hD hS => ?_)
        have hP : va_P d.1 clz [(h, ob 1 [.int th, .ref an, .ref ak, .int lt, .int se, .ref au, .int zs, .ref ap, .int mn, .ref aw, .int cz, .ref ac, .int ln, .int ft, .int gz, .ref ag, .ref ax, .ref ao, .ref al, .ref av, .ref ae, .ref ar, .ref ad, .ref aW, .ref aS, .ref aN, .ref aR, .ref aG]), (ak, aI d 48 (upd (upd (upd (upd fk (fr + 7) ((fk (fr + 7)) + (nI 1))) (fr + 6) (((upd fk (fr + 7) ((fk (fr + 7)) + (nI 1))) (fr + 6)) + (nI 1))) (fr + 5) (((upd (upd fk (fr + 7) ((fk (fr + 7)) + (nI 1))) (fr + 6) (((upd fk (fr + 7) ((fk (fr + 7)) + (nI 1))) (fr + 6)) + (nI 1))) (fr + 5)) + (nI 1))) (fr + 4) (((upd (upd (upd fk (fr + 7) ((fk (fr + 7)) + (nI 1))) (fr + 6) (((upd fk (fr + 7) ((fk (fr + 7)) + (nI 1))) (fr + 6)) + (nI 1))) (fr + 5) (((upd (upd fk (fr + 7) ((fk (fr + 7)) + (nI 1))) (fr + 6) (((upd fk (fr + 7) ((fk (fr + 7)) + (nI 1))) (fr + 6)) + (nI 1))) (fr + 5)) + (nI 1))) (fr + 4)) + (nI 1))))] H := hP
        have hD : va_D A [(h, ob 1 [.int th, .ref an, .ref ak, .int lt, .int se, .ref au, .int zs, .ref ap, .int mn, .ref aw, .int cz, .ref ac, .int ln, .int ft, .int gz, .ref ag, .ref ax, .ref ao, .ref al, .ref av, .ref ae, .ref ar, .ref ad, .ref aW, .ref aS, .ref aN, .ref aR, .ref aG]), (ak, aI d 48 (upd (upd (upd (upd fk (fr + 7) ((fk (fr + 7)) + (nI 1))) (fr + 6) (((upd fk (fr + 7) ((fk (fr + 7)) + (nI 1))) (fr + 6)) + (nI 1))) (fr + 5) (((upd (upd fk (fr + 7) ((fk (fr + 7)) + (nI 1))) (fr + 6) (((upd fk (fr + 7) ((fk (fr + 7)) + (nI 1))) (fr + 6)) + (nI 1))) (fr + 5)) + (nI 1))) (fr + 4) (((upd (upd (upd fk (fr + 7) ((fk (fr + 7)) + (nI 1))) (fr + 6) (((upd fk (fr + 7) ((fk (fr + 7)) + (nI 1))) (fr + 6)) + (nI 1))) (fr + 5) (((upd (upd fk (fr + 7) ((fk (fr + 7)) + (nI 1))) (fr + 6) (((upd fk (fr + 7) ((fk (fr + 7)) + (nI 1))) (fr + 6)) + (nI 1))) (fr + 5)) + (nI 1))) (fr + 4)) + (nI 1))))] := hD
        refine lv_goto (tgt := 15) C.x C.b d_MD_count_46 (by decide) ?_
        refine lv_iload_n C.x C.b d_MD_count_15 rfl (lv_at hl 0 rfl) ?_
        refine lv_iconst (v := nI 4) C.x C.b d_MD_count_16 (by decide) ?_
        refine lv_icmp_le (tgt := 49) C.x C.b d_MD_count_17 (by decide) (fun _ => ?_) (fun h9 => by first | exact absurd h9 (by decide) | exact absurd (by decide) h9)
        have hP9 := hP.sub (ws' := [(h, ob 1 [.int th, .ref an, .ref ak, .int lt, .int se, .ref au, .int zs, .ref ap, .int mn, .ref aw, .int cz, .ref ac, .int ln, .int ft, .int gz, .ref ag, .ref ax, .ref ao, .ref al, .ref av, .ref ae, .ref ar, .ref ad, .ref aW, .ref aS, .ref aN, .ref aR, .ref aG]), (ak, aI d 48 (upd (upd (upd (upd fk (fr + 7) ((fk (fr + 7)) + (nI 1))) (fr + 6) (((upd fk (fr + 7) ((fk (fr + 7)) + (nI 1))) (fr + 6)) + (nI 1))) (fr + 5) (((upd (upd fk (fr + 7) ((fk (fr + 7)) + (nI 1))) (fr + 6) (((upd fk (fr + 7) ((fk (fr + 7)) + (nI 1))) (fr + 6)) + (nI 1))) (fr + 5)) + (nI 1))) (fr + 4) (((upd (upd (upd fk (fr + 7) ((fk (fr + 7)) + (nI 1))) (fr + 6) (((upd fk (fr + 7) ((fk (fr + 7)) + (nI 1))) (fr + 6)) + (nI 1))) (fr + 5) (((upd (upd fk (fr + 7) ((fk (fr + 7)) + (nI 1))) (fr + 6) (((upd fk (fr + 7) ((fk (fr + 7)) + (nI 1))) (fr + 6)) + (nI 1))) (fr + 5)) + (nI 1))) (fr + 4)) + (nI 1))))]) [0, 1] rfl
        have hD9 := hD.sub (ws' := [(h, ob 1 [.int th, .ref an, .ref ak, .int lt, .int se, .ref au, .int zs, .ref ap, .int mn, .ref aw, .int cz, .ref ac, .int ln, .int ft, .int gz, .ref ag, .ref ax, .ref ao, .ref al, .ref av, .ref ae, .ref ar, .ref ad, .ref aW, .ref aS, .ref aN, .ref aR, .ref aG]), (ak, aI d 48 (upd (upd (upd (upd fk (fr + 7) ((fk (fr + 7)) + (nI 1))) (fr + 6) (((upd fk (fr + 7) ((fk (fr + 7)) + (nI 1))) (fr + 6)) + (nI 1))) (fr + 5) (((upd (upd fk (fr + 7) ((fk (fr + 7)) + (nI 1))) (fr + 6) (((upd fk (fr + 7) ((fk (fr + 7)) + (nI 1))) (fr + 6)) + (nI 1))) (fr + 5)) + (nI 1))) (fr + 4) (((upd (upd (upd fk (fr + 7) ((fk (fr + 7)) + (nI 1))) (fr + 6) (((upd fk (fr + 7) ((fk (fr + 7)) + (nI 1))) (fr + 6)) + (nI 1))) (fr + 5) (((upd (upd fk (fr + 7) ((fk (fr + 7)) + (nI 1))) (fr + 6) (((upd fk (fr + 7) ((fk (fr + 7)) + (nI 1))) (fr + 6)) + (nI 1))) (fr + 5)) + (nI 1))) (fr + 4)) + (nI 1))))]) [0, 1] (by decide) rfl
        exact k_vret C hS (upd (upd (upd (upd fk (fr + 7) ((fk (fr + 7)) + (nI 1))) (fr + 6) (((upd fk (fr + 7) ((fk (fr + 7)) + (nI 1))) (fr + 6)) + (nI 1))) (fr + 5) (((upd (upd fk (fr + 7) ((fk (fr + 7)) + (nI 1))) (fr + 6) (((upd fk (fr + 7) ((fk (fr + 7)) + (nI 1))) (fr + 6)) + (nI 1))) (fr + 5)) + (nI 1))) (fr + 4) (((upd (upd (upd fk (fr + 7) ((fk (fr + 7)) + (nI 1))) (fr + 6) (((upd fk (fr + 7) ((fk (fr + 7)) + (nI 1))) (fr + 6)) + (nI 1))) (fr + 5) (((upd (upd fk (fr + 7) ((fk (fr + 7)) + (nI 1))) (fr + 6) (((upd fk (fr + 7) ((fk (fr + 7)) + (nI 1))) (fr + 6)) + (nI 1))) (fr + 5)) + (nI 1))) (fr + 4)) + (nI 1))) (rfl) (⟨by rw [ctr_shf]; repeat' (first | rfl | contradiction | split), fun j hj => by simp only [pk_un (show j ≠ fr + 7 from by omega), pk_un (show j ≠ fr + 6 from by omega), pk_un (show j ≠ fr + 5 from by omega), pk_un (show j ≠ fr + 4 from by omega)]⟩) hP9 hD9 d_MD_count_49
theorem mw_MD_cipher : Mw y_MD_cipher b_MD_cipher 6 none 3 := ⟨m_795, m_9, m_794, by decide +kernel⟩
set_option maxHeartbeats 4000000 in
set_option maxRecDepth 100000 in
theorem c_MD_cipher (l : Launch) (d : DD) (h : Nat) (an : Nat) (ak : Nat) (au : Nat) (ap : Nat) (aw : Nat) (ac : Nat) (ag : Nat) (ax : Nat) (ao : Nat) (al : Nat) (av : Nat) (ae : Nat) (ar : Nat) (ad : Nat) (aW : Nat) (aS : Nat) (aN : Nat) (aR : Nat) (aG : Nat) (th : Int32) (lt : Int32) (se : Int32) (zs : Int32) (mn : Int32) (cz : Int32) (ln : Int32) (ft : Int32) (gz : Int32) (fk : Nat → Int32) (fx : Nat → Int32) (fo : Nat → Int32) (fl : Nat → Int32) (fv : Nat → Int32) (fe : Nat → Int32) (fr : Nat) (fi : Nat) (bh : Nat) (hbx : ∀ j, j < 256 → fx j = sbx j) (hfr : fr + 16 ≤ 48) (hb16 : ∃ q, bh = fi + 16 * q) (hbh : bh ≤ 600) : Ct l y_MD_cipher b_MD_cipher 6 none 2 49 0 0 d [(h, ob 1 [.int th, .ref an, .ref ak, .int lt, .int se, .ref au, .int zs, .ref ap, .int mn, .ref aw, .int cz, .ref ac, .int ln, .int ft, .int gz, .ref ag, .ref ax, .ref ao, .ref al, .ref av, .ref ae, .ref ar, .ref ad, .ref aW, .ref aS, .ref aN, .ref aR, .ref aG]), (ak, aI d 48 fk), (ax, aI d 256 fx), (ao, aI d 44 fo), (al, aI d 16 fl), (av, aI d 16 fv), (ae, aB d 600 fe)] [.ref h, .int (nI fr), .int (nI fi), .int (nI bh)] (fun (u : (Nat → Int32) × (Nat → Int32) × (Nat → Int32) × (Nat → Int32) × (Nat → Int32)) => match u with | (k2, o2, l2, v2, e2) => none) (fun (u : (Nat → Int32) × (Nat → Int32) × (Nat → Int32) × (Nat → Int32) × (Nat → Int32)) => match u with | (k2, o2, l2, v2, e2) => shf fr k2 = ctrN (shf fr fk) ((bh - fi) / 16) ∧ (∀ j, (j < fr ∨ fr + 16 ≤ j) → k2 j = fk j) ∧ ∀ i, e2 i = cph (shf fr fk) fi bh fe i) (fun (u : (Nat → Int32) × (Nat → Int32) × (Nat → Int32) × (Nat → Int32) × (Nat → Int32)) => match u with | (k2, o2, l2, v2, e2) => [(h, ob 1 [.int th, .ref an, .ref ak, .int lt, .int se, .ref au, .int zs, .ref ap, .int mn, .ref aw, .int cz, .ref ac, .int ln, .int ft, .int gz, .ref ag, .ref ax, .ref ao, .ref al, .ref av, .ref ae, .ref ar, .ref ad, .ref aW, .ref aS, .ref aN, .ref aR, .ref aG]), (ak, aI d 48 k2), (ax, aI d 256 fx), (ao, aI d 44 o2), (al, aI d 16 l2), (av, aI d 16 v2), (ae, aB d 600 e2)]) := by
  refine Ct.of (by decide +kernel) (Nat.le_of_ble_eq_true rfl) ?_
  intro p e s m below meth c A ls C hP hD hS hl
  have hl : lv_has ls 6 [(0, .ref h), (1, .int (nI fr)), (2, .int (nI fi)), (3, .int (nI bh))] := hl
  have hsz9 := hS.1
  obtain ⟨nq, hnq⟩ := hb16
  refine lv_aload_n C.x C.b d_MD_cipher_0 rfl (lv_at hl 0 rfl) ?_
  refine lv_iload_n C.x C.b d_MD_cipher_1 rfl (lv_at hl 1 rfl) ?_
  refine k_callV (As := [.int (nI fr)]) (rest := []) (wc := [(h, ob 1 [.int th, .ref an, .ref ak, .int lt, .int se, .ref au, .int zs, .ref ap, .int mn, .ref aw, .int cz, .ref ac, .int ln, .int ft, .int gz, .ref ag, .ref ax, .ref ao, .ref al, .ref av, .ref ae, .ref ar, .ref ad, .ref aW, .ref aS, .ref aN, .ref aR, .ref aG]), (ak, aI d 48 fk), (ax, aI d 256 fx), (ao, aI d 44 fo)]) (wr := [(al, aI d 16 fl), (av, aI d 16 fv), (ae, aB d 600 fe)]) C (c_MD_expand l d h an ak au ap aw ac ag ax ao al av ae ar ad aW aS aN aR aG th lt se zs mn cz ln ft gz fk fx fo fr (hbx) (hfr)) mw_MD_expand ms_27 m_796 hP hD hS [0, 1, 2, 3] [4, 5, 6] rfl rfl (by decide) (by decide) (by decide) 0 rfl rfl rfl rfl hl.1 (Nat.le_of_ble_eq_true rfl) d_MD_cipher_2 ⟨Nat.le_of_ble_eq_true rfl, Nat.le_of_ble_eq_true rfl⟩ ⟨by decide, by decide⟩ (fun o2 H locs ho2 hP hD hS => ?_)
  have hP : va_P d.1 clz [(al, aI d 16 fl), (av, aI d 16 fv), (ae, aB d 600 fe), (h, ob 1 [.int th, .ref an, .ref ak, .int lt, .int se, .ref au, .int zs, .ref ap, .int mn, .ref aw, .int cz, .ref ac, .int ln, .int ft, .int gz, .ref ag, .ref ax, .ref ao, .ref al, .ref av, .ref ae, .ref ar, .ref ad, .ref aW, .ref aS, .ref aN, .ref aR, .ref aG]), (ak, aI d 48 fk), (ax, aI d 256 fx), (ao, aI d 44 o2)] H := hP
  have hD : va_D A [(al, aI d 16 fl), (av, aI d 16 fv), (ae, aB d 600 fe), (h, ob 1 [.int th, .ref an, .ref ak, .int lt, .int se, .ref au, .int zs, .ref ap, .int mn, .ref aw, .int cz, .ref ac, .int ln, .int ft, .int gz, .ref ag, .ref ax, .ref ao, .ref al, .ref av, .ref ae, .ref ar, .ref ad, .ref aW, .ref aS, .ref aN, .ref aR, .ref aG]), (ak, aI d 48 fk), (ax, aI d 256 fx), (ao, aI d 44 o2)] := hD
  refine W.eq (g2 := F0 m 5 ls []) rfl ?_
  have ho2 : ∀ j, j < 44 → o2 j = ksch (shf fr fk) j := ho2
  refine lv_iload_n C.x C.b d_MD_cipher_5 rfl (lv_at hl 2 rfl) ?_
  refine lv_istore (lv' := [(4, .int (nI fi)), (0, .ref h), (1, .int (nI fr)), (2, .int (nI fi)), (3, .int (nI bh))]) C.x C.b d_MD_cipher_6 hl (by decide) rfl (fun ls hl => ?_)
  have L8 : ∀ (fuel : Nat) (q : Nat) (kk : Nat → Int32) (l9 : Nat → Int32) (v9 : Nat → Int32) (ge : Nat → Int32), nq - q < fuel → (q ≤ nq) → (shf fr kk = ctrN (shf fr fk) q) → (∀ j, (j < fr ∨ fr + 16 ≤ j) → kk j = fk j) → (∀ i, i < fi + 16 * q → ge i = cph (shf fr fk) fi bh fe i) → (∀ i, fi + 16 * q ≤ i → ge i = fe i) → ∀ (H : Heap) (locs : List Loc) (ls : Array Slot), va_P d.1 clz [(h, ob 1 [.int th, .ref an, .ref ak, .int lt, .int se, .ref au, .int zs, .ref ap, .int mn, .ref aw, .int cz, .ref ac, .int ln, .int ft, .int gz, .ref ag, .ref ax, .ref ao, .ref al, .ref av, .ref ae, .ref ar, .ref ad, .ref aW, .ref aS, .ref aN, .ref aR, .ref aG]), (ak, aI d 48 kk), (ax, aI d 256 fx), (ao, aI d 44 o2), (al, aI d 16 l9), (av, aI d 16 v9), (ae, aB d 600 ge)] H → va_D A [(h, ob 1 [.int th, .ref an, .ref ak, .int lt, .int se, .ref au, .int zs, .ref ap, .int mn, .ref aw, .int cz, .ref ac, .int ln, .int ft, .int gz, .ref ag, .ref ax, .ref ao, .ref al, .ref av, .ref ae, .ref ar, .ref ad, .ref aW, .ref aS, .ref aN, .ref aR, .ref aG]), (ak, aI d 48 kk), (ax, aI d 256 fx), (ao, aI d 44 o2), (al, aI d 16 l9), (av, aI d 16 v9), (ae, aB d 600 ge)] → va_S A s.heap H locs → lv_has ls 6 [(0, .ref h), (1, .int (nI fr)), (2, .int (nI fi)), (3, .int (nI bh)), (4, .int (nI (fi + 16 * q)))] → W p l e (Rm 2 49 0 0) s m ([.ref h, .int (nI fr), .int (nI fi), .int (nI bh)] : List Value).toArray below meth c H locs 0 0 (MQ below (Cout d A (fun (u : (Nat → Int32) × (Nat → Int32) × (Nat → Int32) × (Nat → Int32) × (Nat → Int32)) => match u with | (k2, o2, l2, v2, e2) => none) (fun (u : (Nat → Int32) × (Nat → Int32) × (Nat → Int32) × (Nat → Int32) × (Nat → Int32)) => match u with | (k2, o2, l2, v2, e2) => shf fr k2 = ctrN (shf fr fk) ((bh - fi) / 16) ∧ (∀ j, (j < fr ∨ fr + 16 ≤ j) → k2 j = fk j) ∧ ∀ i, e2 i = cph (shf fr fk) fi bh fe i) (fun (u : (Nat → Int32) × (Nat → Int32) × (Nat → Int32) × (Nat → Int32) × (Nat → Int32)) => match u with | (k2, o2, l2, v2, e2) => [(h, ob 1 [.int th, .ref an, .ref ak, .int lt, .int se, .ref au, .int zs, .ref ap, .int mn, .ref aw, .int cz, .ref ac, .int ln, .int ft, .int gz, .ref ag, .ref ax, .ref ao, .ref al, .ref av, .ref ae, .ref ar, .ref ad, .ref aW, .ref aS, .ref aN, .ref aR, .ref aG]), (ak, aI d 48 k2), (ax, aI d 256 fx), (ao, aI d 44 o2), (al, aI d 16 l2), (av, aI d 16 v2), (ae, aB d 600 e2)])) ([.ref h, .int (nI fr), .int (nI fi), .int (nI bh)] : List Value).toArray s 0 0 A) (F0 m 8 ls []) := by
    intro fuel
    induction fuel with
    | zero => intro q kk l9 v9 ge h9; exact absurd h9 (Nat.not_lt_zero _)
    | succ fuel ih8 =>
      intro q kk l9 v9 ge hfu8 hq hkk hko hg1 hg2 H locs ls hP hD hS hl
      refine lv_iload C.x C.b d_MD_cipher_8 (lv_at hl 4 rfl) ?_
      refine lv_iload_n C.x C.b d_MD_cipher_10 rfl (lv_at hl 3 rfl) ?_
      refine lv_icmp_ge (tgt := 75) C.x C.b d_MD_cipher_11 (by decide) (fun hc11 => ?_) (fun hc11 => ?_)
      · rw [nI_leI (by omega) (by omega)] at hc11
        have hP9 := hP.sub (ws' := [(h, ob 1 [.int th, .ref an, .ref ak, .int lt, .int se, .ref au, .int zs, .ref ap, .int mn, .ref aw, .int cz, .ref ac, .int ln, .int ft, .int gz, .ref ag, .ref ax, .ref ao, .ref al, .ref av, .ref ae, .ref ar, .ref ad, .ref aW, .ref aS, .ref aN, .ref aR, .ref aG]), (ak, aI d 48 kk), (ax, aI d 256 fx), (ao, aI d 44 o2), (al, aI d 16 l9), (av, aI d 16 v9), (ae, aB d 600 ge)]) [0, 1, 2, 3, 4, 5, 6] rfl
        have hD9 := hD.sub (ws' := [(h, ob 1 [.int th, .ref an, .ref ak, .int lt, .int se, .ref au, .int zs, .ref ap, .int mn, .ref aw, .int cz, .ref ac, .int ln, .int ft, .int gz, .ref ag, .ref ax, .ref ao, .ref al, .ref av, .ref ae, .ref ar, .ref ad, .ref aW, .ref aS, .ref aN, .ref aR, .ref aG]), (ak, aI d 48 kk), (ax, aI d 256 fx), (ao, aI d 44 o2), (al, aI d 16 l9), (av, aI d 16 v9), (ae, aB d 600 ge)]) [0, 1, 2, 3, 4, 5, 6] (by decide) rfl
        exact k_vret C hS (kk, o2, l9, v9, ge) (rfl) (⟨by rw [hkk, show (bh - fi) / 16 = q from by omega], hko, fun i => by rcases Nat.lt_or_ge i (fi + 16 * q) with z | z; exact hg1 i z; rw [hg2 i z]; unfold cph; rw [if_neg (by omega)]⟩) hP9 hD9 d_MD_cipher_75
      · rw [nI_leI (by omega) (by omega)] at hc11
        refine lv_aload_n C.x C.b d_MD_cipher_14 rfl (lv_at hl 0 rfl) ?_
        refine lv_iload_n C.x C.b d_MD_cipher_15 rfl (lv_at hl 1 rfl) ?_
        refine k_callV (As := [.int (nI fr)]) (rest := []) (wc := [(h, ob 1 [.int th, .ref an, .ref ak, .int lt, .int se, .ref au, .int zs, .ref ap, .int mn, .ref aw, .int cz, .ref ac, .int ln, .int ft, .int gz, .ref ag, .ref ax, .ref ao, .ref al, .ref av, .ref ae, .ref ar, .ref ad, .ref aW, .ref aS, .ref aN, .ref aR, .ref aG]), (ak, aI d 48 kk), (ax, aI d 256 fx), (ao, aI d 44 o2), (al, aI d 16 l9), (av, aI d 16 v9)]) (wr := [(ae, aB d 600 ge)]) C (c_MD_encipher l d h an ak au ap aw ac ag ax ao al av ae ar ad aW aS aN aR aG th lt se zs mn cz ln ft gz kk fx o2 l9 v9 fr (hbx) (hfr)) mw_MD_encipher ms_29 m_804 hP hD hS [0, 1, 2, 3, 4, 5] [6] rfl rfl (by decide) (by decide) (by decide) 0 rfl rfl rfl rfl hl.1 (Nat.le_of_ble_eq_true rfl) d_MD_cipher_16 ⟨Nat.le_of_ble_eq_true rfl, Nat.le_of_ble_eq_true rfl⟩ ⟨by decide, by decide⟩ (fun u9 H locs hl2 hP hD hS => ?_)
        obtain ⟨l2, v2⟩ := u9
        have hP : va_P d.1 clz [(ae, aB d 600 ge), (h, ob 1 [.int th, .ref an, .ref ak, .int lt, .int se, .ref au, .int zs, .ref ap, .int mn, .ref aw, .int cz, .ref ac, .int ln, .int ft, .int gz, .ref ag, .ref ax, .ref ao, .ref al, .ref av, .ref ae, .ref ar, .ref ad, .ref aW, .ref aS, .ref aN, .ref aR, .ref aG]), (ak, aI d 48 kk), (ax, aI d 256 fx), (ao, aI d 44 o2), (al, aI d 16 l2), (av, aI d 16 v2)] H := hP
        have hD : va_D A [(ae, aB d 600 ge), (h, ob 1 [.int th, .ref an, .ref ak, .int lt, .int se, .ref au, .int zs, .ref ap, .int mn, .ref aw, .int cz, .ref ac, .int ln, .int ft, .int gz, .ref ag, .ref ax, .ref ao, .ref al, .ref av, .ref ae, .ref ar, .ref ad, .ref aW, .ref aS, .ref aN, .ref aR, .ref aG]), (ak, aI d 48 kk), (ax, aI d 256 fx), (ao, aI d 44 o2), (al, aI d 16 l2), (av, aI d 16 v2)] := hD
        refine W.eq (g2 := F0 m 19 ls []) rfl ?_
        have hl2 : ∀ j, j < 16 → l2 j = aes o2 (shf fr kk) j := hl2
        have hl3 : ∀ j, j < 16 → l2 j = strm (shf fr fk) (16 * q + j) := by
          intro j hj
          rw [hl2 j hj, hkk]
          unfold strm
          rw [show (16 * q + j) / 16 = q from by omega, show (16 * q + j) % 16 = j from by omega]
          exact rnd_cg ho2 (fun _ _ => rfl) 10 (by omega) j hj
        refine lv_aload_n C.x C.b d_MD_cipher_19 rfl (lv_at hl 0 rfl) ?_
        refine lv_iload_n C.x C.b d_MD_cipher_20 rfl (lv_at hl 1 rfl) ?_
        refine k_callV (As := [.int (nI fr)]) (rest := []) (wc := [(h, ob 1 [.int th, .ref an, .ref ak, .int lt, .int se, .ref au, .int zs, .ref ap, .int mn, .ref aw, .int cz, .ref ac, .int ln, .int ft, .int gz, .ref ag, .ref ax, .ref ao, .ref al, .ref av, .ref ae, .ref ar, .ref ad, .ref aW, .ref aS, .ref aN, .ref aR, .ref aG]), (ak, aI d 48 kk)]) (wr := [(ae, aB d 600 ge), (ax, aI d 256 fx), (ao, aI d 44 o2), (al, aI d 16 l2), (av, aI d 16 v2)]) C (c_MD_count l d h an ak au ap aw ac ag ax ao al av ae ar ad aW aS aN aR aG th lt se zs mn cz ln ft gz kk fr (hfr)) mw_MD_count ms_31 m_812 hP hD hS [1, 2] [0, 3, 4, 5, 6] rfl rfl (by decide) (by decide) (by decide) 1 rfl rfl rfl rfl hl.1 (Nat.le_of_ble_eq_true rfl) d_MD_cipher_21 ⟨Nat.le_of_ble_eq_true rfl, Nat.le_of_ble_eq_true rfl⟩ ⟨by decide, by decide⟩ (fun k2 H locs hk2 hP hD hS => ?_)
        have hP : va_P d.1 clz [(ae, aB d 600 ge), (ax, aI d 256 fx), (ao, aI d 44 o2), (al, aI d 16 l2), (av, aI d 16 v2), (h, ob 1 [.int th, .ref an, .ref ak, .int lt, .int se, .ref au, .int zs, .ref ap, .int mn, .ref aw, .int cz, .ref ac, .int ln, .int ft, .int gz, .ref ag, .ref ax, .ref ao, .ref al, .ref av, .ref ae, .ref ar, .ref ad, .ref aW, .ref aS, .ref aN, .ref aR, .ref aG]), (ak, aI d 48 k2)] H := hP
        have hD : va_D A [(ae, aB d 600 ge), (ax, aI d 256 fx), (ao, aI d 44 o2), (al, aI d 16 l2), (av, aI d 16 v2), (h, ob 1 [.int th, .ref an, .ref ak, .int lt, .int se, .ref au, .int zs, .ref ap, .int mn, .ref aw, .int cz, .ref ac, .int ln, .int ft, .int gz, .ref ag, .ref ax, .ref ao, .ref al, .ref av, .ref ae, .ref ar, .ref ad, .ref aW, .ref aS, .ref aN, .ref aR, .ref aG]), (ak, aI d 48 k2)] := hD
        refine W.eq (g2 := F0 m 24 ls []) rfl ?_
        have hk2 : shf fr k2 = ctrUp (shf fr kk) ∧ ∀ j, (j < fr ∨ fr + 16 ≤ j) → k2 j = kk j := hk2
        have hk3 : shf fr k2 = ctrN (shf fr fk) (q + 1) := by rw [hk2.1, hkk]; rfl
        have hk4 : ∀ j, (j < fr ∨ fr + 16 ≤ j) → k2 j = fk j := fun j hj => by rw [hk2.2 j hj, hko j hj]
        refine lv_iconst (v := nI 0) C.x C.b d_MD_cipher_24 (by decide) ?_
        refine lv_istore (lv' := [(5, .int (nI 0)), (0, .ref h), (1, .int (nI fr)), (2, .int (nI fi)), (3, .int (nI bh)), (4, .int (nI (fi + 16 * q)))]) C.x C.b d_MD_cipher_25 hl (by decide) rfl (fun ls hl => ?_)
        have L27 : ∀ (fuel : Nat) (k9 : Nat) (g3 : Nat → Int32), 16 - k9 < fuel → (k9 ≤ 16) → (∀ i, i < fi + 16 * q + k9 → g3 i = cph (shf fr fk) fi bh fe i) → (∀ i, fi + 16 * q + k9 ≤ i → g3 i = fe i) → ∀ (H : Heap) (locs : List Loc) (ls : Array Slot), va_P d.1 clz [(h, ob 1 [.int th, .ref an, .ref ak, .int lt, .int se, .ref au, .int zs, .ref ap, .int mn, .ref aw, .int cz, .ref ac, .int ln, .int ft, .int gz, .ref ag, .ref ax, .ref ao, .ref al, .ref av, .ref ae, .ref ar, .ref ad, .ref aW, .ref aS, .ref aN, .ref aR, .ref aG]), (ak, aI d 48 k2), (ax, aI d 256 fx), (ao, aI d 44 o2), (al, aI d 16 l2), (av, aI d 16 v2), (ae, aB d 600 g3)] H → va_D A [(h, ob 1 [.int th, .ref an, .ref ak, .int lt, .int se, .ref au, .int zs, .ref ap, .int mn, .ref aw, .int cz, .ref ac, .int ln, .int ft, .int gz, .ref ag, .ref ax, .ref ao, .ref al, .ref av, .ref ae, .ref ar, .ref ad, .ref aW, .ref aS, .ref aN, .ref aR, .ref aG]), (ak, aI d 48 k2), (ax, aI d 256 fx), (ao, aI d 44 o2), (al, aI d 16 l2), (av, aI d 16 v2), (ae, aB d 600 g3)] → va_S A s.heap H locs → lv_has ls 6 [(0, .ref h), (1, .int (nI fr)), (2, .int (nI fi)), (3, .int (nI bh)), (4, .int (nI (fi + 16 * q))), (5, .int (nI k9))] → W p l e (Rm 2 49 0 0) s m ([.ref h, .int (nI fr), .int (nI fi), .int (nI bh)] : List Value).toArray below meth c H locs 0 0 (MQ below (Cout d A (fun (u : (Nat → Int32) × (Nat → Int32) × (Nat → Int32) × (Nat → Int32) × (Nat → Int32)) => match u with | (k2, o2, l2, v2, e2) => none) (fun (u : (Nat → Int32) × (Nat → Int32) × (Nat → Int32) × (Nat → Int32) × (Nat → Int32)) => match u with | (k2, o2, l2, v2, e2) => shf fr k2 = ctrN (shf fr fk) ((bh - fi) / 16) ∧ (∀ j, (j < fr ∨ fr + 16 ≤ j) → k2 j = fk j) ∧ ∀ i, e2 i = cph (shf fr fk) fi bh fe i) (fun (u : (Nat → Int32) × (Nat → Int32) × (Nat → Int32) × (Nat → Int32) × (Nat → Int32)) => match u with | (k2, o2, l2, v2, e2) => [(h, ob 1 [.int th, .ref an, .ref ak, .int lt, .int se, .ref au, .int zs, .ref ap, .int mn, .ref aw, .int cz, .ref ac, .int ln, .int ft, .int gz, .ref ag, .ref ax, .ref ao, .ref al, .ref av, .ref ae, .ref ar, .ref ad, .ref aW, .ref aS, .ref aN, .ref aR, .ref aG]), (ak, aI d 48 k2), (ax, aI d 256 fx), (ao, aI d 44 o2), (al, aI d 16 l2), (av, aI d 16 v2), (ae, aB d 600 e2)])) ([.ref h, .int (nI fr), .int (nI fi), .int (nI bh)] : List Value).toArray s 0 0 A) (F0 m 27 ls []) := by
          intro fuel
          induction fuel with
          | zero => intro k9 g3 h9; exact absurd h9 (Nat.not_lt_zero _)
          | succ fuel ih27 =>
            intro k9 g3 hfu27 hk9 hg3 hg4 H locs ls hP hD hS hl
            refine lv_iload C.x C.b d_MD_cipher_27 (lv_at hl 5 rfl) ?_
            refine lv_bipush (v := nI 16) C.x C.b d_MD_cipher_29 (by decide) ?_
            refine lv_icmp_ge (tgt := 69) C.x C.b d_MD_cipher_31 (by decide) (fun hc31 => ?_) (fun hc31 => ?_)
            · rw [nI_leI (by omega) (by omega)] at hc31
              refine lv_iinc (v := nI (fi + 16 * q + 16)) (lv' := [(4, .int (nI (fi + 16 * q + 16))), (0, .ref h), (1, .int (nI fr)), (2, .int (nI fi)), (3, .int (nI bh)), (5, .int (nI k9))]) C.x C.b d_MD_cipher_69 hl (k := 4) rfl (k_inc _ 16) (by decide) rfl (fun ls hl => ?_)
              refine lv_goto (tgt := 8) C.x C.b d_MD_cipher_72 (by decide) ?_
              exact ih8 (q + 1) k2 l2 v2 g3 (by omega) (by omega) (hk3) (hk4) (fun i hi => hg3 i (by omega)) (fun i hi => hg4 i (by omega)) _ _ _ (hP.sub [0, 1, 2, 3, 4, 5, 6] (rfl)) (hD.sub [0, 1, 2, 3, 4, 5, 6] (by decide) (rfl)) hS (lv_sub hl [1, 2, 3, 4, 0] (by rw [Nat.mul_succ, ← Nat.add_assoc]; rfl))
            · rw [nI_leI (by omega) (by omega)] at hc31
              refine lv_aload_n C.x C.b d_MD_cipher_34 rfl (lv_at hl 0 rfl) ?_
              refine k_get C hP 0 rfl rfl i_MD 20 (by decide) m_672 rfl d_MD_cipher_35 ?_
              refine lv_iload C.x C.b d_MD_cipher_38 (lv_at hl 4 rfl) ?_
              refine lv_iload C.x C.b d_MD_cipher_40 (lv_at hl 5 rfl) ?_
              refine lv_iadd C.x C.b d_MD_cipher_42 ?_
              refine k_top (y := nI (fi + 16 * q + k9)) (nI_add _ _) ?_
              refine lv_aload_n C.x C.b d_MD_cipher_43 rfl (lv_at hl 0 rfl) ?_
              refine k_get C hP 0 rfl rfl i_MD 20 (by decide) m_672 rfl d_MD_cipher_44 ?_
              refine lv_iload C.x C.b d_MD_cipher_47 (lv_at hl 4 rfl) ?_
              refine lv_iload C.x C.b d_MD_cipher_49 (lv_at hl 5 rfl) ?_
              refine lv_iadd C.x C.b d_MD_cipher_51 ?_
              refine k_top (y := nI (fi + 16 * q + k9)) (nI_add _ _) ?_
              refine k_bald C hP 6 rfl (j := (fi + 16 * q + k9)) (by omega) (by omega) d_MD_cipher_52 ?_
              refine lv_aload_n C.x C.b d_MD_cipher_53 rfl (lv_at hl 0 rfl) ?_
              refine k_get C hP 0 rfl rfl i_MD 18 (by decide) m_670 rfl d_MD_cipher_54 ?_
              refine lv_iload C.x C.b d_MD_cipher_57 (lv_at hl 5 rfl) ?_
              refine k_iald C hP 4 rfl (j := k9) (by omega) (by omega) d_MD_cipher_59 ?_
              refine lv_ixor C.x C.b d_MD_cipher_60 ?_
              refine lv_i2b (v := ((g3 (fi + 16 * q + k9)) ^^^ (l2 k9)).toInt8.toInt32) C.x C.b d_MD_cipher_61 rfl ?_
              refine k_bast C hP hD hS 6 rfl (j := (fi + 16 * q + k9)) (by omega) (by omega) d_MD_cipher_62 (fun H locs hP hD hS => ?_)
              have hP : va_P d.1 clz [(h, ob 1 [.int th, .ref an, .ref ak, .int lt, .int se, .ref au, .int zs, .ref ap, .int mn, .ref aw, .int cz, .ref ac, .int ln, .int ft, .int gz, .ref ag, .ref ax, .ref ao, .ref al, .ref av, .ref ae, .ref ar, .ref ad, .ref aW, .ref aS, .ref aN, .ref aR, .ref aG]), (ak, aI d 48 k2), (ax, aI d 256 fx), (ao, aI d 44 o2), (al, aI d 16 l2), (av, aI d 16 v2), (ae, aB d 600 (upd g3 (fi + 16 * q + k9) ((((g3 (fi + 16 * q + k9)) ^^^ (l2 k9)).toInt8.toInt32).toInt8.toInt32)))] H := hP
              have hD : va_D A [(h, ob 1 [.int th, .ref an, .ref ak, .int lt, .int se, .ref au, .int zs, .ref ap, .int mn, .ref aw, .int cz, .ref ac, .int ln, .int ft, .int gz, .ref ag, .ref ax, .ref ao, .ref al, .ref av, .ref ae, .ref ar, .ref ad, .ref aW, .ref aS, .ref aN, .ref aR, .ref aG]), (ak, aI d 48 k2), (ax, aI d 256 fx), (ao, aI d 44 o2), (al, aI d 16 l2), (av, aI d 16 v2), (ae, aB d 600 (upd g3 (fi + 16 * q + k9) ((((g3 (fi + 16 * q + k9)) ^^^ (l2 k9)).toInt8.toInt32).toInt8.toInt32)))] := hD
              refine lv_iinc (v := nI (k9 + 1)) (lv' := [(5, .int (nI (k9 + 1))), (0, .ref h), (1, .int (nI fr)), (2, .int (nI fi)), (3, .int (nI bh)), (4, .int (nI (fi + 16 * q)))]) C.x C.b d_MD_cipher_63 hl (k := 5) rfl (k_inc _ 1) (by decide) rfl (fun ls hl => ?_)
              refine lv_goto (tgt := 27) C.x C.b d_MD_cipher_66 (by decide) ?_
              exact ih27 (k9 + 1) (upd g3 (fi + 16 * q + k9) ((((g3 (fi + 16 * q + k9)) ^^^ (l2 k9)).toInt8.toInt32).toInt8.toInt32)) (by omega) (by omega) ((cph_step (by omega) (by omega) hg3 hg4 (hl3 k9 (by omega))).1) ((cph_step (by omega) (by omega) hg3 hg4 (hl3 k9 (by omega))).2) _ _ _ (hP.sub [0, 1, 2, 3, 4, 5, 6] (rfl)) (hD.sub [0, 1, 2, 3, 4, 5, 6] (by decide) (rfl)) hS (lv_sub hl [1, 2, 3, 4, 5, 0] (rfl))
        exact L27 ((16 - 0) + 1) 0 ge (Nat.lt_succ_self _) (by omega) (hg1) (hg2) _ _ _ (hP.sub [5, 6, 1, 2, 3, 4, 0] (rfl)) (hD.sub [5, 6, 1, 2, 3, 4, 0] (by decide) (rfl)) hS (lv_sub hl [1, 2, 3, 4, 5, 0] (rfl))
  exact L8 ((nq - 0) + 1) 0 fk fl fv fe (Nat.lt_succ_self _) (by omega) (rfl) (fun _ _ => rfl) (fun i hi => by unfold cph; rw [if_neg (by omega)]) (fun _ _ => rfl) _ _ _ (hP.sub [3, 4, 5, 6, 0, 1, 2] (rfl)) (hD.sub [3, 4, 5, 6, 0, 1, 2] (by decide) (rfl)) hS (lv_sub hl [1, 2, 3, 4, 0] (rfl))
