/-! the keys' first sixteen words are all that counts -/
abbrev K16 (k k' : Nat → Int32) : Prop := ∀ j, j < 16 → k j = k' j
theorem inc_cg {f g : Nat → Int32} (h : K16 f g) {i : Nat} (hi : i < 16) : K16 (upd f i (f i + nI 1)) (upd g i (g i + nI 1)) := by
  intro j hj
  by_cases e : j = i
  · rw [e, pk_us, pk_us, h i hi]
  · rw [pk_un e, pk_un e]; exact h j hj
theorem ctrUp_cg {k k' : Nat → Int32} (h : K16 k k') : K16 (ctrUp k) (ctrUp k') := by
  have h7 := inc_cg h (i := 7) (by decide)
  have h6 := inc_cg h7 (i := 6) (by decide)
  have h5 := inc_cg h6 (i := 5) (by decide)
  have h4 := inc_cg h5 (i := 4) (by decide)
  intro j hj
  unfold ctrUp
  rw [h7 7 (by decide), h6 6 (by decide), h5 5 (by decide)]
  split
  · split
    · split
      · exact h4 j hj
      · exact h5 j hj
    · exact h6 j hj
  · exact h7 j hj
theorem ctrN_cg {k k' : Nat → Int32} (h : K16 k k') : ∀ n, K16 (ctrN k n) (ctrN k' n) := by
  intro n
  induction n with
  | zero => exact h
  | succ n ih => exact ctrUp_cg ih
theorem aes_cg {k k' q q' : Nat → Int32} (h : K16 k k') (hq : K16 q q') {i : Nat} (hi : i < 16) : aes (ksch k) q i = aes (ksch k') q' i :=
  rnd_cg (ksch_cg (fun j hj => h j (by omega))) (fun j hj => by unfold ctb; rw [hq _ (by omega)]) 10 (by omega) i hi
theorem strm_cg {k k' : Nat → Int32} (h : K16 k k') (i : Nat) : strm k i = strm k' i := by
  unfold strm
  exact aes_cg h (ctrN_cg h _) (Nat.mod_lt _ (by decide))
theorem enc_cg {k k' : Nat → Int32} (h : K16 k k') (L : List Int32) : enc k L = enc k' L := by
  unfold enc
  apply List.map_congr_left
  intro i _
  rw [strm_cg h i]
theorem kmk_cg {k k' : Nat → Int32} (h : K16 k k') (mk : Int32) : kmk k mk = kmk k' mk := by
  unfold kmk
  rw [wbs_cg (f := fun i => k (8 + i) ^^^ mk) (g := fun i => k' (8 + i) ^^^ mk) (fun j hj => by rw [h _ (by omega)])]
theorem sealw_cg {k k' : Nat → Int32} (h : K16 k k') (num : Int32) (L : List Int32) : sealw k num L = sealw k' num L := by
  funext j
  unfold sealw
  rw [kmk_cg h, kmk_cg h]
theorem shp_cg {k k' : Nat → Int32} (h : K16 k k') (num told pads : Int32) (L : List Int32) (fp : Int32) : shp k num told pads L fp = shp k' num told pads L fp := by
  unfold shp
  rw [enc_cg h, sealw_cg h]
theorem lnv_cg {k k' : Nat → Int32} (h : K16 k k') (C : List Int32) : lnv k C = lnv k' C := by
  unfold lnv
  rw [aes_cg h h (i := 0) (by decide), aes_cg h h (i := 1) (by decide), aes_cg h h (i := 2) (by decide), aes_cg h h (i := 3) (by decide)]
theorem shf0 (f : Nat → Int32) : K16 (shf 0 f) f := fun j _ => by unfold shf; rw [Nat.zero_add]
/-- the received bytes of the model: the first block is open already -/
theorem cm_take {E D : List Int32} (h : E.length = 16) : (E ++ D).take 16 = E := by rw [← h, List.take_left]
theorem cm_drop {E D : List Int32} (h : E.length = 16) : (E ++ D).drop 16 = D := by rw [← h, List.drop_left]
theorem cm_dropN {E L : List Int32} (h : E.length = 16) (n : Nat) : (E ++ L.drop 16).drop (16 + n) = L.drop (16 + n) := by
  rw [show (E ++ L.drop 16).drop (16 + n) = ((E ++ L.drop 16).drop 16).drop n from by rw [List.drop_drop], cm_drop h, List.drop_drop]
theorem opq_opn {frk k1 : Nat → Int32} {cL C1 : List Int32} {m : Nat} (hm : 12 ≤ m) (h16 : 16 ≤ cL.length) (hl : 4 + m ≤ cL.length) (hC : C1 = enc frk (cL.take 16) ++ cL.drop 16) (hk : K16 (shf 16 k1) (ctrN frk 1)) : opq (shf 16 k1) C1 m = opn frk cL m := by
  have hE : (enc frk (cL.take 16)).length = 16 := by rw [enc_len, List.length_take]; omega
  unfold opq opn
  rw [hC, cm_take hE, cm_drop hE, enc_cg hk]
  have hl2 : (enc (ctrN frk 1) ((cL.drop 16).take (4 + m - 16))).length = 4 + m - 16 := by rw [enc_len, List.length_take, List.length_drop]; omega
  apply ext9
  · rw [List.length_append, hE, hl2, enc_len, List.length_take]; omega
  · intro i hi
    rw [List.length_append, hE, hl2] at hi
    rcases Nat.lt_or_ge i 16 with q | q
    · rw [ga_l (by omega), enc_get (by rw [List.length_take]; omega), enc_get (by rw [List.length_take]; omega), tk_get (by omega) (by omega), tk_get (by omega) (by omega)]
    · obtain ⟨j, rfl⟩ : ∃ j, i = (enc frk (cL.take 16)).length + j := ⟨i - 16, by omega⟩
      rw [ga_r (by omega)]
      rw [hE] at hi ⊢
      rw [enc_get (by rw [List.length_take, List.length_drop]; omega), enc_get (by rw [List.length_take]; omega), tk_get (by omega) (by rw [List.length_drop]; omega), dr_get (by omega), tk_get (by omega) (by omega), strm_up, Nat.mul_one, Nat.add_comm j 16]
theorem fpq_fpk {frk k1 : Nat → Int32} {cL C1 : List Int32} {m : Nat} {rn : Int32} (hm : okm m) (h16 : 16 ≤ cL.length) (hl : 4 + m ≤ cL.length) (hC : C1 = enc frk (cL.take 16) ++ cL.drop 16) (hk : K16 (shf 16 k1) (ctrN frk 1)) : fpq (shf 16 k1) rn C1 m = fpk frk rn cL m := by
  obtain ⟨h1, h2, h3⟩ := hm
  have hE : (enc frk (cL.take 16)).length = 16 := by rw [enc_len, List.length_take]; omega
  have hq : K16 (ctrN (shf 16 k1) ((4 + m - 16) / 16)) (ctrN frk ((4 + m + 15) / 16)) := by
    have := ctrN_cg hk ((4 + m - 16) / 16)
    rw [ctrN_add, show 1 + (4 + m - 16) / 16 = (4 + m + 15) / 16 from by omega] at this
    exact this
  unfold fpq fpk
  rw [opq_opn h1 h16 hl hC hk]
  unfold fop
  rw [sealw_cg hq, hC, show 4 + m = 16 + (4 + m - 16) from by omega, cm_dropN hE]
/-- what class and model know of the next packet, while no fault stands -/
def RK (frk fwk fk : Nat → Int32) (cL CM : List Int32) (mk : Nat) (se kwt lt ln : Int32) : Prop :=
  (se = 0 ∧ mk = 0 ∧ kwt = 0 ∧ lt = 0 ∧ CM = cL ∧ K16 (shf 16 fk) frk) ∨ (¬ se = 0 ∧ okm mk ∧ ln = nI mk ∧ 16 ≤ cL.length ∧ CM = enc frk (cL.take 16) ++ cL.drop 16 ∧ K16 (shf 16 fk) (ctrN frk 1) ∧ (lt = 0 ↔ kwt = 0) ∧ (¬ kwt = 0 → ∀ j, j < 16 → fk (32 + j) = fwk j))
def FT (ft : Int32) : Prop := ft = 0 ∨ ft = nI 2 ∨ ft = nI 3 ∨ ft = nI 4
theorem FT.pos {ft : Int32} (h : FT ft) : ft ≤ 0 → ft = 0 := by
  intro q
  rcases h with h | h | h | h
  · exact h
  · rw [h] at q; exact absurd q (by decide)
  · rw [h] at q; exact absurd q (by decide)
  · rw [h] at q; exact absurd q (by decide)
theorem fpk_FT (k : Nat → Int32) (rn : Int32) (C : List Int32) (m : Nat) : FT (fpk k rn C m) := by
  unfold fpk fop
  split
  · split
    · exact Or.inr (Or.inr (Or.inr rfl))
    · exact Or.inl (by decide)
  · exact Or.inr (Or.inr (Or.inl rfl))
theorem nI_inj {a b : Nat} (ha : a < 2 ^ 31) (hb : b < 2 ^ 31) (h : nI a = nI b) : a = b := (nI_eq ha hb).mp h
theorem okm_0 {m : Nat} (h : okm m) : ¬ m = 0 := fun q => by have := h.1; omega
theorem mk_le {m : Nat} (h : m = 0 ∨ okm m) : m ≤ 540 := h.elim (fun q => by omega) (fun q => q.2.1)
/-- what take leaves of both -/
def TKR (rP rM ft2 ftM : Int32) (m2 : Nat) (fr2 fwk fk k2 fu u2 : Nat → Int32) (cL2 C2 oL2 O2 : List Int32) (se2 kw2 lt2 ln2 rn2 : Int32) : Prop :=
  rP = rM ∧ ftM = ft2 ∧ FT ft2 ∧ (m2 = 0 ∨ okm m2) ∧ (ft2 = 0 → RK fr2 fwk k2 cL2 C2 m2 se2 kw2 lt2 ln2) ∧ u2 0 = fu 0 ∧ u2 1 = rn2 ∧ O2 = oL2 ∧ C2.length = cL2.length
theorem take_tail {frk fwk fk k1 fu k2 u2 fr2 : Nat → Int32} {rn lt kwt r rM ft2 kw2 rn2 ftM se2 lt2 ln2 : Int32} {m m2 : Nat} {cL C1 oL cL2 oL2 C2 O2 : List Int32}
    (hok : okm m) (h16 : 16 ≤ cL.length) (hC : C1 = enc frk (cL.take 16) ++ cL.drop 16) (hk : K16 (shf 16 k1) (ctrN frk 1)) (hlk : lt = 0 ↔ kwt = 0) (hw : ¬ kwt = 0 → ∀ j, j < 16 → k1 (32 + j) = fwk j) (hrn : fu 1 = rn)
    (hP : ((m = 0 ∨ cL.length < 4 + m + 32) ∧ r = -1 ∧ m2 = m ∧ ft2 = 0 ∧ kw2 = kwt ∧ fr2 = frk ∧ rn2 = rn ∧ cL2 = cL ∧ oL2 = oL)
   ∨ (4 + m + 32 ≤ cL.length ∧ ¬ fpk frk rn cL m = 0 ∧ r = -(fpk frk rn cL m) ∧ m2 = m ∧ ft2 = fpk frk rn cL m ∧ kw2 = kwt ∧ rn2 = rn ∧ cL2 = cL ∧ oL2 = oL)
   ∨ (4 + m + 32 ≤ cL.length ∧ fpk frk rn cL m = 0 ∧ ∃ pd, (opn frk cL m).getD 4 0 = nI pd ∧ 4 ≤ pd ∧ pd + 1 ≤ m ∧ r = nI (4 + m - pd - 5) ∧ m2 = 0 ∧ ft2 = 0 ∧ kw2 = 0 ∧ (∀ j, j < 16 → fr2 j = if kwt = 0 then ctrN frk ((4 + m + 15) / 16) j else fwk j) ∧ rn2 = rn + nI 1 ∧ cL2 = cL.drop (4 + m + 32) ∧ oL2 = ((opn frk cL m).drop 5).take (4 + m - pd - 5)))
    (hM : (C1.length < 4 + m + 32 ∧ rM = -1 ∧ ftM = 0 ∧ ¬ se2 = 0 ∧ lt2 = lt ∧ ln2 = nI m ∧ k2 = k1 ∧ C2 = C1 ∧ O2 = oL ∧ u2 = fu)
      ∨ (4 + m + 32 ≤ C1.length ∧ opP k1 fu C1 oL m lt 0 rM ftM se2 lt2 k2 u2 C2 O2)) : TKR r rM ft2 ftM m2 fr2 fwk fk k2 fu u2 cL2 C2 oL2 O2 se2 kw2 lt2 ln2 rn2 := by
  have hE : (enc frk (cL.take 16)).length = 16 := by rw [enc_len, List.length_take]; omega
  have hl : C1.length = cL.length := by rw [hC, List.length_append, hE, List.length_drop]; omega
  have hm12 := hok.1
  have hm54 := hok.2.1
  rcases hM with ⟨g1, g2, g3, g4, g5, g6, g7, g8, g9, g10⟩ | ⟨g1, -, -, hM⟩
  · rcases hP with ⟨p1, p2, p3, p4, p5, p6, p7, p8, p9⟩ | ⟨p1, -⟩ | ⟨p1, -⟩
    · subst p3 p5 p6 p7 p8 p9 g7 g8 g9 g10 g5
      refine ⟨by rw [p2, g2], by rw [g3, p4], Or.inl p4, Or.inr hok, fun _ => Or.inr ⟨g4, hok, g6, h16, hC, hk, hlk, hw⟩, rfl, hrn, rfl, hl⟩
    · omega
    · omega
  · have hf := fpq_fpk (rn := rn) hok h16 (by omega) hC hk
    have ho := opq_opn hm12 h16 (by omega) hC hk
    rw [hrn, hf, ho] at hM
    rcases hP with ⟨p1, -⟩ | ⟨p1, p2, p3, p4, p5, p6, p7, p8, p9⟩ | ⟨p1, p2, pd, p3, p4, p5, p6, p7, p8, p9, p10, p11, p12, p13⟩
    · omega
    · rcases hM with ⟨m1, m2', m3, m4, m5, m6⟩ | ⟨m1, -⟩
      · subst p4 p6 p7 p8 p9 m4 m5 m6
        refine ⟨by rw [p3, m2'], by rw [m3, p5], by rw [p5]; exact fpk_FT _ _ _ _, Or.inr hok, fun q => absurd (p5.symm.trans q) p2, rfl, hrn, rfl, hl⟩
      · exact absurd m1 p2
    · rcases hM with ⟨m1, -⟩ | ⟨-, pd', m3, m4, m5, m6, m7, m8, m9', m10, m11, m12, m13⟩
      · exact absurd p2 m1
      · have e : pd' = pd := nI_inj (by omega) (by omega) (m3.symm.trans p3)
        subst e p7 p9 p11 p12 p13 m11 m12 m13
        refine ⟨by rw [p6, m6], by rw [m7, p8], Or.inl p8, Or.inl rfl, fun _ => Or.inl ⟨m8.trans nI_0, rfl, rfl, m9'.trans nI_0, ?_, ?_⟩, ?_, ?_, rfl, ?_⟩
        · rw [hC, show 4 + m + 32 = 16 + (4 + m + 16) from by omega, cm_dropN hE]
        · intro j hj
          show k2 (16 + j) = _
          rw [m10 j hj, p10 j hj]
          by_cases z : kwt = 0
          · rw [if_pos z, if_pos (hlk.mpr z), ctrN_cg hk _ j hj, ctrN_add, show 1 + (4 + m - 16) / 16 = (4 + m + 15) / 16 from by have := hok.2.2; omega]
          · rw [if_neg z, if_neg (fun q => z (hlk.mp q)), hw z j hj]
        · exact pk_un (by decide)
        · exact pk_us
        · rw [List.length_drop, List.length_drop, hl]
theorem take_eq {frk fwk fk fu k2 u2 fr2 : Nat → Int32} {rn lt kwt se ft ln r rM ft2 kw2 rn2 ftM se2 lt2 ln2 : Int32} {mk m2 : Nat} {cL CM oL cL2 oL2 C2 O2 : List Int32}
    (hF : FT ft) (hmk : mk = 0 ∨ okm mk) (hR : ft = 0 → RK frk fwk fk cL CM mk se kwt lt ln) (hl : CM.length = cL.length) (hrn : fu 1 = rn)
    (hP : tkP frk fwk rn mk ft kwt cL oL r m2 ft2 kw2 fr2 rn2 cL2 oL2) (hM : tkM fk fu CM oL mk se lt ft rM ftM se2 lt2 ln2 k2 u2 C2 O2) : TKR r rM ft2 ftM m2 fr2 fwk fk k2 fu u2 cL2 C2 oL2 O2 se2 kw2 lt2 ln2 rn2 := by
  obtain ⟨m1, ft1, h0, hm1, hP⟩ := hP
  obtain ⟨-, -, hM⟩ := hM
  have hb1 := mk_le hm1
  have hbk := mk_le hmk
  by_cases hz : ft = 0
  · have hle : ft ≤ 0 := by rw [hz]; decide
    rcases hR hz with ⟨r1, r2, r3, r4, r5, r6⟩ | ⟨r1, r2, r3, r4, r5, r6, r7, r8⟩
    · rcases hM with ⟨g1, -⟩ | ⟨-, -, g1, g2, g3, g4, g5, g6, g7, g8, g9⟩ | ⟨-, -, g1, g2, g3, g4, g5, g6, g7⟩ | ⟨-, k1, C1, m, ⟨-, hok, hLR⟩, hM⟩
      · exact absurd hle g1
      · rw [lrn0_no (fun q => by have := q.2.2; rw [← hl] at this; omega)] at h0
        have e1 : m1 = mk := nI_inj (by omega) (by omega) (congrArg Prod.fst h0)
        have e2 : ft1 = ft := congrArg Prod.snd h0
        rw [e2] at hP
        rcases hP with ⟨p1, -⟩ | ⟨-, p1, p2, p3, p4, p5, p6, p7, p8, p9⟩ | ⟨-, p1, -⟩ | ⟨-, p1, -⟩
        · exact absurd hz p1
        · subst p5 p6 p7 p8 p9 g6 g7 g8 g9 g5
          refine ⟨by rw [p2, g2], by rw [g3, hz, p4], Or.inl p4, by rw [p3, e1]; exact hmk, fun _ => Or.inl ⟨by rw [g4]; exact r1, by rw [p3, e1]; exact r2, r3, r4, r5, r6⟩, rfl, hrn, rfl, hl⟩
        · exact absurd (e1.trans r2) (okm_0 p1)
        · exact absurd (e1.trans r2) (okm_0 p1)
      · rw [lrn0_yes ⟨hz, r2, by omega⟩, lrn_bad (by rw [r5, lnv_cg r6] at g2; exact g2)] at h0
        have e1 : m1 = mk := nI_inj (by omega) (by omega) (congrArg Prod.fst h0)
        have e2 : ft1 = nI 2 := congrArg Prod.snd h0
        rw [e2] at hP
        rcases hP with ⟨-, p2, p3, p4, p5, p6, p7, p8, p9⟩ | ⟨p1, -⟩ | ⟨p1, -⟩ | ⟨p1, -⟩
        · subst p5 p6 p7 p8 p9 g6 g7
          refine ⟨by rw [p2, g3], by rw [g4, p4], Or.inr (Or.inl p4), by rw [p3, e1]; exact hmk, fun q => absurd (p4.symm.trans q) (by decide), rfl, hrn, rfl, by rw [g5, hl]⟩
        · exact absurd p1 (by decide)
        · exact absurd p1 (by decide)
        · exact absurd p1 (by decide)
      · rcases hLR with ⟨-, q2, q3, q4, q5, q6⟩ | ⟨q1, -⟩
        · rw [r5, lnv_cg r6] at q3 q4
          rw [lrn0_yes ⟨hz, r2, by omega⟩, lrn_ok q3] at h0
          have hm54 := hok.2.1
          have e1 : m1 = m := nI_inj (by omega) (by omega) ((congrArg Prod.fst h0).trans q4.symm)
          have e2 : ft1 = ft := congrArg Prod.snd h0
          rw [e2, e1] at hP
          rw [hz] at hM hP
          have h16 : 16 ≤ cL.length := by omega
          have hk1 : K16 (shf 16 k1) (ctrN frk 1) := by rw [q5]; exact ctrN_cg r6 1
          have hC1 : C1 = enc frk (cL.take 16) ++ cL.drop 16 := by rw [q6, r5, enc_cg r6]
          refine take_tail hok h16 hC1 hk1 (by rw [r3, r4]) (fun q => absurd r3 q) hrn ?_ hM
          rcases hP with ⟨p1, -⟩ | ⟨-, p⟩ | ⟨-, -, p⟩ | ⟨-, -, p⟩
          · exact absurd rfl p1
          · exact Or.inl p
          · exact Or.inr (Or.inl p)
          · exact Or.inr (Or.inr p)
        · exact absurd r1 q1
    · rcases hM with ⟨g1, -⟩ | ⟨-, g1, -⟩ | ⟨-, g1, -⟩ | ⟨-, k1, C1, m, ⟨-, hok, hLR⟩, hM⟩
      · exact absurd hle g1
      · exact absurd g1 r1
      · exact absurd g1 r1
      · rcases hLR with ⟨q1, -⟩ | ⟨-, q2, q3, q4⟩
        · exact absurd q1 r1
        · rw [lrn0_no (fun q => okm_0 r2 q.2.1)] at h0
          have e1 : m1 = mk := nI_inj (by omega) (by omega) (congrArg Prod.fst h0)
          have e2 : ft1 = ft := congrArg Prod.snd h0
          rw [e2, e1] at hP
          rw [q2, q3, q4] at hM
          rw [hz] at hM hP
          refine take_tail r2 r4 r5 r6 r7 r8 hrn ?_ hM
          rcases hP with ⟨p1, -⟩ | ⟨-, p⟩ | ⟨-, -, p⟩ | ⟨-, -, p⟩
          · exact absurd rfl p1
          · exact Or.inl p
          · exact Or.inr (Or.inl p)
          · exact Or.inr (Or.inr p)
  · rw [lrn0_no (fun q => hz q.1)] at h0
    have e1 : m1 = mk := nI_inj (by omega) (by omega) (congrArg Prod.fst h0)
    have e2 : ft1 = ft := congrArg Prod.snd h0
    rw [e2, e1] at hP
    rcases hP with ⟨p1, p2, p3, p4, p5, p6, p7, p8, p9⟩ | ⟨p1, -⟩ | ⟨p1, -⟩ | ⟨p1, -⟩
    · rcases hM with ⟨g1, g2, g3, g4, g5, g6⟩ | ⟨g1, -⟩ | ⟨g1, -⟩ | ⟨g1, -⟩
      · subst p5 p6 p7 p8 p9 g4 g5 g6
        refine ⟨by rw [p2, g2], by rw [g3, p4], by rw [p4]; exact hF, by rw [p3]; exact hmk, fun q => absurd (p4.symm.trans q) hz, rfl, hrn, rfl, hl⟩
      · exact absurd (hF.pos g1) hz
      · exact absurd (hF.pos g1) hz
      · exact absurd (hF.pos g1) hz
    · exact absurd p1 hz
    · exact absurd p1 hz
    · exact absurd p1 hz
