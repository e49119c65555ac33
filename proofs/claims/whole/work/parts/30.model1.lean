def tmr (a b : Int32) : Nat → Int32 × Int32
  | 0 => (nI 0, a)
  | k + 1 => ((if (b >>> (nI k &&& 31)) &&& nI 1 = nI 1 then (tmr a b k).1 ^^^ (tmr a b k).2 else (tmr a b k).1), (if (tmr a b k).2 < nI 128 then nI 2 * (tmr a b k).2 else ((nI 2 * (tmr a b k).2) ^^^ nI 283) &&& nI 255))
/-- the product in the field, bit for bit -/
def tim (a b : Int32) : Int32 := (tmr a b 8).1
def dbl (x : Nat) : Nat := bif Nat.blt x 128 then 2 * x else ((2 * x) ^^^ 283) &&& 255
def tml : Nat → Nat → Nat → Nat → Nat
  | 0, _, _, s => s
  | n + 1, b, x, s => tml n (b / 2) (dbl x) (bif Nat.beq (b % 2) 1 then s ^^^ x else s)
def tmN (a b : Nat) : Nat := tml 8 b a 0
theorem dbl_lt {x : Nat} (h : x < 256) : dbl x < 256 := by
  unfold dbl
  rcases Nat.lt_or_ge x 128 with q | q
  · rw [show Nat.blt x 128 = true from Nat.ble_eq_true_of_le q]; show 2 * x < 256; omega
  · rw [show Nat.blt x 128 = false from by rw [Bool.eq_false_iff]; intro z; have := Nat.le_of_ble_eq_true z; omega]
    exact Nat.lt_of_le_of_lt Nat.and_le_right (by decide)
theorem dbl_I {x : Nat} (h : x < 256) : (if nI x < nI 128 then nI 2 * nI x else ((nI 2 * nI x) ^^^ nI 283) &&& nI 255) = nI (dbl x) := by
  unfold dbl
  rw [pk_mul, nx_xor, nx_and]
  rcases Nat.lt_or_ge x 128 with q | q
  · rw [if_pos (nI_lt q (by omega)), show Nat.blt x 128 = true from Nat.ble_eq_true_of_le q]; rfl
  · rw [if_neg (by rw [nI_ltI (by omega) (by omega)]; omega), show Nat.blt x 128 = false from by rw [Bool.eq_false_iff]; intro z; have := Nat.le_of_ble_eq_true z; omega]; rfl
theorem bit_I {b k : Nat} (hb : b < 256) (hk : k < 8) : ((nI b >>> (nI k &&& 31)) &&& nI 1 = nI 1) ↔ Nat.beq ((b / 2 ^ k) % 2) 1 = true := by
  have hs : ((nI k &&& 31).toBitVec.smod 32).toNat = k := s_l k (by omega)
  rw [pk_shrN (by omega) _ k hs, nx_and, Nat.and_one_is_mod, nI_eq (by omega) (by omega), Nat.beq_eq]
theorem tmr_N {a b : Nat} (hb : b < 256) : ∀ n k x s, k + n = 8 → x < 256 → tmr (nI a) (nI b) k = (nI s, nI x) → tim (nI a) (nI b) = nI (tml n (b / 2 ^ k) x s) := by
  intro n
  induction n with
  | zero => intro k x s hk _ h; unfold tim; rw [show 8 = k from by omega, h]; rfl
  | succ n ih =>
    intro k x s hk hx h
    have h1 : tmr (nI a) (nI b) (k + 1) = (nI (bif Nat.beq ((b / 2 ^ k) % 2) 1 then s ^^^ x else s), nI (dbl x)) := by
      show ((if _ then _ else _), (if _ then _ else _)) = _
      rw [h]
      show ((if _ then nI s ^^^ nI x else nI s), (if nI x < nI 128 then nI 2 * nI x else ((nI 2 * nI x) ^^^ nI 283) &&& nI 255)) = _
      rw [dbl_I hx]
      congr 1
      have hbt := bit_I hb (k := k) (by omega)
      cases hq : Nat.beq ((b / 2 ^ k) % 2) 1 with
      | true => rw [if_pos (hbt.mpr hq), nx_xor]; rfl
      | false => rw [if_neg (fun z => by rw [hbt.mp z] at hq; cases hq)]; rfl
    have h2 := ih (k + 1) (dbl x) _ (by omega) (dbl_lt hx) h1
    rw [h2]
    show _ = nI (tml n (b / 2 ^ k / 2) (dbl x) _)
    rw [Nat.div_div_eq_div_mul, ← Nat.pow_succ]
theorem tim_N {a b : Nat} (ha : a < 256) (hb : b < 256) : tim (nI a) (nI b) = nI (tmN a b) := by
  have := tmr_N (a := a) hb 8 0 a 0 rfl ha rfl
  rwa [Nat.pow_zero, Nat.div_one] at this
theorem tml_lt : ∀ n b x s, x < 256 → s < 256 → tml n b x s < 256 := by
  intro n
  induction n with
  | zero => intro b x s _ h; exact h
  | succ n ih =>
    intro b x s hx hs
    refine ih _ _ _ (dbl_lt hx) ?_
    cases Nat.beq (b % 2) 1 with
    | true => exact Nat.xor_lt_two_pow (n := 8) hs hx
    | false => exact hs
def allB (P : Nat → Bool) : Nat → Bool
  | 0 => true
  | n + 1 => P n && allB P n
theorem allB_sp {P : Nat → Bool} : ∀ {n}, allB P n = true → ∀ b, b < n → P b = true := by
  intro n
  induction n with
  | zero => intro _ b hb; exact absurd hb (Nat.not_lt_zero _)
  | succ n ih =>
    intro h b hb
    have h2 : (P n && allB P n) = true := h
    rw [Bool.and_eq_true] at h2
    rcases (show b = n ∨ b < n by omega) with e | e
    · rw [e]; exact h2.1
    · exact ih h2.2 b e
/-- the last k up to n whose product with b is 1 -/
def one (b : Nat) : Nat → Nat
  | 0 => 0
  | k + 1 => bif Nat.beq (tmN b (k + 1)) 1 then k + 1 else one b k
def bxI (c : Int32) : Int32 := ((((((((nI 0 ||| ((((((((c >>> (nI 0 &&& 31)) ^^^ (c >>> (nI 4 &&& 31))) ^^^ (c >>> (nI 5 &&& 31))) ^^^ (c >>> (nI 6 &&& 31))) ^^^ (c >>> (nI 7 &&& 31))) ^^^ (nI 99 >>> (nI 0 &&& 31))) &&& nI 1) <<< (nI 0 &&& 31))) ||| ((((((((c >>> (nI 1 &&& 31)) ^^^ (c >>> (nI 5 &&& 31))) ^^^ (c >>> (nI 6 &&& 31))) ^^^ (c >>> (nI 7 &&& 31))) ^^^ (c >>> (nI 0 &&& 31))) ^^^ (nI 99 >>> (nI 1 &&& 31))) &&& nI 1) <<< (nI 1 &&& 31))) ||| ((((((((c >>> (nI 2 &&& 31)) ^^^ (c >>> (nI 6 &&& 31))) ^^^ (c >>> (nI 7 &&& 31))) ^^^ (c >>> (nI 0 &&& 31))) ^^^ (c >>> (nI 1 &&& 31))) ^^^ (nI 99 >>> (nI 2 &&& 31))) &&& nI 1) <<< (nI 2 &&& 31))) ||| ((((((((c >>> (nI 3 &&& 31)) ^^^ (c >>> (nI 7 &&& 31))) ^^^ (c >>> (nI 0 &&& 31))) ^^^ (c >>> (nI 1 &&& 31))) ^^^ (c >>> (nI 2 &&& 31))) ^^^ (nI 99 >>> (nI 3 &&& 31))) &&& nI 1) <<< (nI 3 &&& 31))) ||| ((((((((c >>> (nI 4 &&& 31)) ^^^ (c >>> (nI 0 &&& 31))) ^^^ (c >>> (nI 1 &&& 31))) ^^^ (c >>> (nI 2 &&& 31))) ^^^ (c >>> (nI 3 &&& 31))) ^^^ (nI 99 >>> (nI 4 &&& 31))) &&& nI 1) <<< (nI 4 &&& 31))) ||| ((((((((c >>> (nI 5 &&& 31)) ^^^ (c >>> (nI 1 &&& 31))) ^^^ (c >>> (nI 2 &&& 31))) ^^^ (c >>> (nI 3 &&& 31))) ^^^ (c >>> (nI 4 &&& 31))) ^^^ (nI 99 >>> (nI 5 &&& 31))) &&& nI 1) <<< (nI 5 &&& 31))) ||| ((((((((c >>> (nI 6 &&& 31)) ^^^ (c >>> (nI 2 &&& 31))) ^^^ (c >>> (nI 3 &&& 31))) ^^^ (c >>> (nI 4 &&& 31))) ^^^ (c >>> (nI 5 &&& 31))) ^^^ (nI 99 >>> (nI 6 &&& 31))) &&& nI 1) <<< (nI 6 &&& 31))) ||| ((((((((c >>> (nI 7 &&& 31)) ^^^ (c >>> (nI 3 &&& 31))) ^^^ (c >>> (nI 4 &&& 31))) ^^^ (c >>> (nI 5 &&& 31))) ^^^ (c >>> (nI 6 &&& 31))) ^^^ (nI 99 >>> (nI 7 &&& 31))) &&& nI 1) <<< (nI 7 &&& 31)))
set_option maxRecDepth 100000 in
theorem box_all : allB (fun b => decide (bxI (nI (one b 255)) = sbx b)) 256 = true := by decide +kernel
theorem box_ok {b : Nat} (h : b < 256) : bxI (nI (one b 255)) = sbx b := of_decide_eq_true (allB_sp box_all b h)
theorem one_step {b n : Nat} (hb : b < 256) (hn : n + 1 < 256) {c v : Int32} (hc : c = nI (one b n)) (hv : v = if tim (nI b) (nI (n + 1)) = nI 1 then nI (n + 1) else c) : v = nI (one b (n + 1)) := by
  rw [tim_N hb hn] at hv
  have hl : tmN b (n + 1) < 256 := tml_lt _ _ _ _ hb (by decide)
  show _ = nI (bif Nat.beq (tmN b (n + 1)) 1 then n + 1 else one b n)
  rw [hv, hc]
  cases hq : Nat.beq (tmN b (n + 1)) 1 with
  | true => rw [if_pos (by rw [Nat.eq_of_beq_eq_true hq])]; rfl
  | false => rw [if_neg (fun z => by rw [nI_eq (by omega) (by omega)] at z; rw [z] at hq; cases hq)]; rfl
theorem shl_or (n : Nat) (hn : n < 32) (x y : Int32) : (x ||| y) <<< (nI n &&& 31) = (x <<< (nI n &&& 31)) ||| (y <<< (nI n &&& 31)) := by
  apply b_ext; intro i hi; rw [b_or, b_shl n hn _ hi, b_shl n hn _ hi, b_shl n hn _ hi, b_or, Bool.and_or_distrib_left]
theorem shl_xor (n : Nat) (hn : n < 32) (x y : Int32) : (x ^^^ y) <<< (nI n &&& 31) = (x <<< (nI n &&& 31)) ^^^ (y <<< (nI n &&& 31)) := by
  apply b_ext; intro i hi; rw [b_xor, b_shl n hn _ hi, b_shl n hn _ hi, b_shl n hn _ hi, b_xor]
  cases decide (n ≤ i) <;> rfl
theorem shl_shl (n k : Nat) (hn : n + k < 32) (x : Int32) : (x <<< (nI n &&& 31)) <<< (nI k &&& 31) = x <<< (nI (n + k) &&& 31) := by
  apply b_ext; intro i hi
  rw [b_shl k (by omega) _ hi, b_shl (n + k) hn _ hi, b_shl n (by omega) _ (by omega), ← Bool.and_assoc]
  have e : (decide (k ≤ i) && decide (n ≤ i - k)) = decide (n + k ≤ i) := by
    rw [← Bool.decide_and, decide_eq_decide]; omega
  rw [e, show i - k - n = i - (n + k) from by omega]
theorem pk4_or (a b c d : Int32) : pk4 (nI 0) a b c d = (((a <<< (nI 24 &&& 31)) ||| (b <<< (nI 16 &&& 31))) ||| (c <<< (nI 8 &&& 31))) ||| d := by
  unfold pk4
  rw [show nI 0 <<< (nI 8 &&& 31) = 0 from by decide, Int32.zero_or, shl_or 8 (by decide), shl_or 8 (by decide), shl_or 8 (by decide), shl_shl 8 8 (by decide), shl_shl 8 8 (by decide), shl_shl 8 (8 + 8) (by decide)]
  try rfl
theorem nb255 (i : Nat) : bt (nI 255) i = decide (i < 8) := b_255 i
theorem shb {k : Nat} (hk : k ≤ 24) (v : Int32) : (v >>> (nI k &&& 31)) &&& nI 255 = ush v k &&& nI 255 := by
  apply b_ext; intro i hi
  unfold ush
  rw [b_and, b_and, nb255, b_ushr k (by omega), b_sshr k (by omega) _ hi]
  by_cases h : i < 8
  · rw [if_pos (by omega)]
  · rw [decide_eq_false h, Bool.and_false, Bool.and_false]
theorem shb8 {k : Nat} (hk : k ≤ 24) (v : Int32) : (v >>> (nI k &&& 31)).toInt8.toInt32 = (ush v k &&& nI 255).toInt8.toInt32 := by
  rw [← shb hk, i8_and]
theorem shbyt {i : Nat} (hi : i < 4) (v : Int32) : (v >>> (nI (24 - 8 * i) &&& 31)) &&& nI 255 = byt v i := shb (by omega) v
theorem u24 (v : Int32) : ush v 24 = byt v 0 := by
  apply b_ext; intro i hi
  unfold byt
  rw [b_and, nb255]
  unfold ush
  rw [b_ushr 24 (by decide)]
  by_cases h : i < 8
  · rw [decide_eq_true h, Bool.and_true]
  · rw [decide_eq_false h, Bool.and_false, b_big (by omega)]
theorem u0 (v : Int32) : ush v 0 = v := by
  apply b_ext; intro i hi; unfold ush; rw [b_ushr 0 (by decide), Nat.zero_add]
theorem b3 (v : Int32) : v &&& nI 255 = byt v 3 := by
  unfold byt; rw [show 24 - 8 * 3 = 0 from rfl, u0]
/-! bytes -/
def isb (x : Int32) : Prop := x &&& nI 255 = x
theorem isb_xor {x y : Int32} (hx : isb x) (hy : isb y) : isb (x ^^^ y) := by
  unfold isb at *
  have e : (x ^^^ y) &&& nI 255 = (x &&& nI 255) ^^^ (y &&& nI 255) := by
    apply b_ext; intro i _; simp only [b_and, b_xor]; cases bt x i <;> cases bt y i <;> cases bt (nI 255) i <;> rfl
  rw [e, hx, hy]
theorem isb_bi {x : Int32} (h : isb x) : x = nI (bi x) := by
  rw [← and_bi]; exact h.symm
theorem isb_nI {n : Nat} (h : n < 256) : isb (nI n) := by
  unfold isb; rw [pk_andN (by omega) 8 (by decide), Nat.mod_eq_of_lt h]
theorem isb_byt (w : Int32) (i : Nat) : isb (byt w i) := byt_255 w i
theorem sbx_all : allB (fun j => decide (sbx j &&& nI 255 = sbx j)) 256 = true := by decide +kernel
theorem isb_sbx {j : Nat} (h : j < 256) : isb (sbx j) := show sbx j &&& nI 255 = sbx j from of_decide_eq_true (allB_sp sbx_all j h)
theorem xt_all : allB (fun n => decide (xt (nI n) &&& nI 255 = xt (nI n)) && (decide (nI (tmN 2 n) = xt (nI n)) && (decide (nI (tmN 3 n) = nI n ^^^ xt (nI n)) && decide (nI (tmN n 2) = xt (nI n))))) 256 = true := by decide +kernel
theorem xt_sp {x : Int32} (h : isb x) : isb (xt x) ∧ tim (nI 2) x = xt x ∧ tim (nI 3) x = x ^^^ xt x ∧ tim x (nI 2) = xt x := by
  have hl := bi_lt x
  have hA := allB_sp xt_all (bi x) hl
  rw [← isb_bi h] at hA
  rw [Bool.and_eq_true, Bool.and_eq_true, Bool.and_eq_true, decide_eq_true_eq, decide_eq_true_eq, decide_eq_true_eq, decide_eq_true_eq] at hA
  obtain ⟨q1, q2, q3, q4⟩ := hA
  refine ⟨q1, ?_, ?_, ?_⟩
  · conv => lhs; rw [isb_bi h]
    rw [tim_N (by decide) hl, q2]
  · conv => lhs; rw [isb_bi h]
    rw [tim_N (by decide) hl, q3]
  · conv => lhs; rw [isb_bi h]
    rw [tim_N hl (by decide), q4]
theorem b128 : ∀ i, i < 32 → bt (nI 128) i = decide (i = 7) := by decide +kernel
theorem and128 (x : Int32) : (x &&& nI 128 = 0) ↔ bt x 7 = false := by
  constructor
  · intro h
    have h1 := b_and x (nI 128) 7
    rw [h, b_0, b128 7 (by decide)] at h1
    simpa using h1.symm
  · intro h
    apply b_ext; intro i hi
    rw [b_and, b_0, b128 i hi]
    by_cases e : i = 7
    · rw [e, h]; rfl
    · rw [decide_eq_false e, Bool.and_false]
theorem xt_xor (a b : Int32) : xt (a ^^^ b) = xt a ^^^ xt b := by
  have hx : bt (a ^^^ b) 7 = (bt a 7 ^^ bt b 7) := b_xor a b 7
  have e : ∀ z : Int32, xt z = if bt z 7 = false then z <<< (nI 1 &&& 31) else (z <<< (nI 1 &&& 31)) ^^^ nI 283 := by
    intro z; unfold xt
    by_cases q : bt z 7 = false
    · rw [if_pos q, if_pos ((and128 z).mpr q)]
    · rw [if_neg q, if_neg (fun w => q ((and128 z).mp w))]
  rw [e, e, e, hx, shl_xor 1 (by decide)]
  generalize a <<< (nI 1 &&& 31) = a'
  generalize b <<< (nI 1 &&& 31) = b'
  have hbb : ∀ x y w : Int32, (x ^^^ y) ^^^ w = x ^^^ (y ^^^ w) ∧ (x ^^^ y) ^^^ w = (x ^^^ w) ^^^ y ∧ x ^^^ y = (x ^^^ w) ^^^ (y ^^^ w) := by
    intro x y w
    refine ⟨?_, ?_, ?_⟩ <;> (apply b_ext; intro i _; simp only [b_xor]; cases bt x i <;> cases bt y i <;> cases bt w i <;> rfl)
  cases bt a 7 <;> cases bt b 7
  · rfl
  · exact (hbb a' b' (nI 283)).1
  · exact (hbb a' b' (nI 283)).2.1
  · exact (hbb a' b' (nI 283)).2.2
theorem mx_eq (g : Nat → Int32) {j : Nat} (hj : j < 16) : ((xt (g j) ^^^ (g (j / 4 * 4 + (j % 4 + 1) % 4) ^^^ xt (g (j / 4 * 4 + (j % 4 + 1) % 4)))) ^^^ g (j / 4 * 4 + (j % 4 + 2) % 4)) ^^^ g (j / 4 * 4 + (j % 4 + 3) % 4) = mxc g j := by
  unfold mxc
  rw [xt_xor, Nat.mul_comm (j / 4) 4]
  obtain ⟨q, r, hr, rfl⟩ : ∃ q r, r < 4 ∧ j = 4 * q + r := ⟨j / 4, j % 4, Nat.mod_lt _ (by decide), (Nat.div_add_mod j 4).symm⟩
  rw [show (4 * q + r) / 4 = q from by omega, show (4 * q + r) % 4 = r from by omega]
  have hx : ∀ a b c d u v : Int32, ((u ^^^ (b ^^^ v)) ^^^ c) ^^^ d = (a ^^^ (((a ^^^ b) ^^^ c) ^^^ d)) ^^^ (u ^^^ v) ∧ ((u ^^^ (b ^^^ v)) ^^^ c) ^^^ d = (a ^^^ (((d ^^^ a) ^^^ b) ^^^ c)) ^^^ (u ^^^ v) ∧ ((u ^^^ (b ^^^ v)) ^^^ c) ^^^ d = (a ^^^ (((c ^^^ d) ^^^ a) ^^^ b)) ^^^ (u ^^^ v) ∧ ((u ^^^ (b ^^^ v)) ^^^ c) ^^^ d = (a ^^^ (((b ^^^ c) ^^^ d) ^^^ a)) ^^^ (u ^^^ v) := by
    intro a b c d u v
    refine ⟨?_, ?_, ?_, ?_⟩ <;> (apply b_ext; intro i _; simp only [b_xor]; cases bt a i <;> cases bt b i <;> cases bt c i <;> cases bt d i <;> cases bt u i <;> cases bt v i <;> rfl)
  rcases (show r = 0 ∨ r = 1 ∨ r = 2 ∨ r = 3 by omega) with rfl | rfl | rfl | rfl
  · exact (hx _ _ _ _ _ _).1
  · exact (hx _ _ _ _ _ _).2.1
  · exact (hx _ _ _ _ _ _).2.2.1
  · exact (hx _ _ _ _ _ _).2.2.2
theorem isb_ssh {b : Nat → Int32} {j : Nat} : isb (ssh b j) := isb_sbx (bi_lt _)
theorem isb_mxc {b : Nat → Int32} (hb : ∀ j, j < 16 → isb (b j)) {j : Nat} (hj : j < 16) : isb (mxc b j) := by
  unfold mxc
  exact isb_xor (isb_xor (hb j hj) (isb_xor (isb_xor (isb_xor (hb _ (by omega)) (hb _ (by omega))) (hb _ (by omega))) (hb _ (by omega)))) (xt_sp (isb_xor (hb j hj) (hb _ (by omega)))).1
theorem isb_rnd {w b : Nat → Int32} (hb : ∀ j, j < 16 → isb (b j)) : ∀ r j, j < 16 → isb (rnd w b r j) := by
  intro r
  induction r with
  | zero => intro j hj; exact isb_xor (hb j hj) (isb_byt _ _)
  | succ r ih =>
    intro j hj
    show isb (ark w (r + 1) _ j)
    refine isb_xor ?_ (isb_byt _ _)
    split
    · exact isb_mxc (fun _ _ => isb_ssh) hj
    · exact isb_ssh
def pws : Nat → Int32
  | 0 => nI 1
  | n + 1 => if (n + 4) % 4 = 0 then xt (pws n) else pws n
theorem kexp_pw (k : Nat → Int32) : ∀ n, (kexp k n).2 = pws n := by
  intro n
  induction n with
  | zero => rfl
  | succ n ih =>
    show (kstep (kexp k n) (n + 4)).2 = if (n + 4) % 4 = 0 then xt (pws n) else pws n
    unfold kstep
    split
    · show xt (kexp k n).2 = _; rw [ih]
    · exact ih
theorem isb_pws : ∀ n, isb (pws n) := by
  intro n
  induction n with
  | zero => exact isb_nI (by decide)
  | succ n ih =>
    show isb (if (n + 4) % 4 = 0 then xt (pws n) else pws n)
    split
    · exact (xt_sp ih).1
    · exact ih
theorem kexp_new' {k g : Nat → Int32} {i : Nat} {v p : Int32} (hi : 4 ≤ i) (hg : ∀ j, j < i → g j = (kexp k (i - 4)).1 j) (hv : (v, p) = ((kstep (g, (kexp k (i - 4)).2) i).1 i, (kstep (g, (kexp k (i - 4)).2) i).2)) : (∀ j, j < i + 1 → upd g i v j = (kexp k (i + 1 - 4)).1 j) ∧ p = (kexp k (i + 1 - 4)).2 := by
  obtain ⟨n, rfl⟩ : ∃ n, i = n + 4 := ⟨i - 4, by omega⟩
  rw [show n + 4 + 1 - 4 = n + 1 from by omega, show n + 4 + 1 = n + 1 + 4 from by omega]
  rw [show n + 4 - 4 = n from by omega] at hg hv
  exact kexp_new hg hv
def shf (fr : Nat) (f : Nat → Int32) : Nat → Int32 := fun i => f (fr + i)
theorem shf_upd (fr k : Nat) (f : Nat → Int32) (x : Int32) : shf fr (upd f (fr + k) x) = upd (shf fr f) k x := by
  funext i
  unfold shf
  by_cases e : i = k
  · rw [e, pk_us, pk_us]
  · rw [pk_un (by omega), pk_un e]
/-- bytes from fi to bh under the stream -/
def cph (k : Nat → Int32) (fi bh : Nat) (f : Nat → Int32) (i : Nat) : Int32 := if fi ≤ i ∧ i < bh then (f i ^^^ strm k (i - fi)).toInt8.toInt32 else f i
theorem ctr_lo {k : Nat → Int32} {j : Nat} (hj : j < 4) : ctrUp k j = k j := by
  unfold ctrUp
  split
  · split
    · split
      · rw [pk_un (by omega), pk_un (by omega), pk_un (by omega), pk_un (by omega)]
      · rw [pk_un (by omega), pk_un (by omega), pk_un (by omega)]
    · rw [pk_un (by omega), pk_un (by omega)]
  · rw [pk_un (by omega)]
theorem mw_MD_times : Msw y_MD_times b_MD_times 5 (some .int) 2 := ⟨m_651, m_9, m_650, by decide +kernel⟩
set_option maxHeartbeats 4000000 in
set_option maxRecDepth 100000 in
theorem c_MD_times (l : Launch) (d : DD) (ta : Int32) (tb9 : Int32) : Ct l y_MD_times b_MD_times 5 (some .int) 0 0 0 0 d [] [.int ta, .int tb9] (fun (_ : Unit) => some (.int (tim ta tb9))) (fun (_ : Unit) => True) (fun (_ : Unit) => []) := by
  refine Ct.of (by decide +kernel) (Nat.le_of_ble_eq_true rfl) ?_
  intro p e s m below meth c A ls C hP hD hS hl
  have hl : lv_has ls 5 [(0, .int ta), (1, .int tb9)] := hl
  have hsz9 := hS.1
  refine lv_iconst (v := nI 0) C.x C.b d_MD_times_0 (by decide) ?_
  refine lv_istore_n (lv' := [(2, .int (nI 0)), (0, .int ta), (1, .int tb9)]) C.x C.b d_MD_times_1 rfl hl (by decide) rfl (fun ls hl => ?_)
  refine lv_iload_n C.x C.b d_MD_times_2 rfl (lv_at hl 1 rfl) ?_
  refine lv_istore_n (lv' := [(3, .int ta), (2, .int (nI 0)), (0, .int ta), (1, .int tb9)]) C.x C.b d_MD_times_3 rfl hl (by decide) rfl (fun ls hl => ?_)
  refine lv_iconst (v := nI 0) C.x C.b d_MD_times_4 (by decide) ?_
  refine lv_istore (lv' := [(4, .int (nI 0)), (3, .int ta), (2, .int (nI 0)), (0, .int ta), (1, .int tb9)]) C.x C.b d_MD_times_5 hl (by decide) rfl (fun ls hl => ?_)
  have L7 : ∀ (fuel : Nat) (k9 : Nat) (sm : Int32) (x9 : Int32), 8 - k9 < fuel → (k9 ≤ 8) → ((sm, x9) = tmr ta tb9 k9) → ∀ (H : Heap) (locs : List Loc) (ls : Array Slot), va_P d.1 clz [] H → va_D A [] → va_S A s.heap H locs → lv_has ls 5 [(0, .int ta), (1, .int tb9), (2, .int sm), (3, .int x9), (4, .int (nI k9))] → W p l e (Rm 0 0 0 0) s m ([.int ta, .int tb9] : List Value).toArray below meth c H locs 0 0 (MQ below (Cout d A (fun (_ : Unit) => some (.int (tim ta tb9))) (fun (_ : Unit) => True) (fun (_ : Unit) => [])) ([.int ta, .int tb9] : List Value).toArray s 0 0 A) (F0 m 7 ls []) := by
    intro fuel
    induction fuel with
    | zero => intro k9 sm x9 h9; exact absurd h9 (Nat.not_lt_zero _)
    | succ fuel ih7 =>
      intro k9 sm x9 hfu7 hk9 hst H locs ls hP hD hS hl
      refine lv_iload C.x C.b d_MD_times_7 (lv_at hl 4 rfl) ?_
      refine lv_bipush (v := nI 8) C.x C.b d_MD_times_9 (by decide) ?_
      refine lv_icmp_ge (tgt := 63) C.x C.b d_MD_times_11 (by decide) (fun hc11 => ?_) (fun hc11 => ?_)
      · rw [nI_leI (by omega) (by omega)] at hc11
        refine lv_iload_n C.x C.b d_MD_times_63 rfl (lv_at hl 2 rfl) ?_
        have hP9 := hP.sub (ws' := []) [] rfl
        have hD9 := hD.sub (ws' := []) [] (by decide) rfl
        exact k_iret C hS () (by show some (Value.int (tmr ta tb9 8).1) = _; rw [show 8 = k9 from by omega, ← hst]) (trivial) hP9 hD9 d_MD_times_64
      · rw [nI_leI (by omega) (by omega)] at hc11
        refine lv_iload_n C.x C.b d_MD_times_14 rfl (lv_at hl 1 rfl) ?_
        refine lv_iload C.x C.b d_MD_times_15 (lv_at hl 4 rfl) ?_
        refine lv_ishr C.x C.b d_MD_times_17 ?_
        refine lv_iconst (v := nI 1) C.x C.b d_MD_times_18 (by decide) ?_
        refine lv_iand C.x C.b d_MD_times_19 ?_
        refine lv_iconst (v := nI 1) C.x C.b d_MD_times_20 (by decide) ?_
        refine lv_icmp_ne (tgt := 30) C.x C.b d_MD_times_21 (by decide) (fun hc21 => ?_) (fun hc21 => ?_)
        · refine lv_iload_n C.x C.b d_MD_times_30 rfl (lv_at hl 2 rfl) ?_
          refine lv_istore_n (lv' := [(2, .int sm), (0, .int ta), (1, .int tb9), (3, .int x9), (4, .int (nI k9))]) C.x C.b d_MD_times_31 rfl hl (by decide) rfl (fun ls hl => ?_)
          refine lv_iload_n C.x C.b d_MD_times_32 rfl (lv_at hl 3 rfl) ?_
          refine lv_sipush (v := nI 128) C.x C.b d_MD_times_33 (by decide) ?_
          refine lv_icmp_ge (tgt := 45) C.x C.b d_MD_times_36 (by decide) (fun hc36 => ?_) (fun hc36 => ?_)
          · have hc36 : ¬ x9 < nI 128 := Int32.not_lt.mpr hc36
            refine lv_iconst (v := nI 2) C.x C.b d_MD_times_45 (by decide) ?_
            refine lv_iload_n C.x C.b d_MD_times_46 rfl (lv_at hl 3 rfl) ?_
            refine lv_imul C.x C.b d_MD_times_47 ?_
            refine lv_sipush (v := nI 283) C.x C.b d_MD_times_48 (by decide) ?_
            refine lv_ixor C.x C.b d_MD_times_51 ?_
            refine lv_sipush (v := nI 255) C.x C.b d_MD_times_52 (by decide) ?_
            refine lv_iand C.x C.b d_MD_times_55 ?_
            refine lv_istore_n (lv' := [(3, .int ((((nI 2) * x9) ^^^ (nI 283)) &&& (nI 255))), (2, .int sm), (0, .int ta), (1, .int tb9), (4, .int (nI k9))]) C.x C.b d_MD_times_56 rfl hl (by decide) rfl (fun ls hl => ?_)
            refine lv_iinc (v := nI (k9 + 1)) (lv' := [(4, .int (nI (k9 + 1))), (3, .int ((((nI 2) * x9) ^^^ (nI 283)) &&& (nI 255))), (2, .int sm), (0, .int ta), (1, .int tb9)]) C.x C.b d_MD_times_57 hl (k := 4) rfl (k_inc _ 1) (by decide) rfl (fun ls hl => ?_)
            refine lv_goto (tgt := 7) C.x C.b d_MD_times_60 (by decide) ?_
            exact ih7 (k9 + 1) sm ((((nI 2) * x9) ^^^ (nI 283)) &&& (nI 255)) (by omega) (by omega) (by show _ = ((if _ then _ else _), (if _ then _ else _)); rw [← hst]; simp only [hc21, hc36, if_true, if_false]) _ _ _ (hP.sub [] (rfl)) (hD.sub [] (by decide) (rfl)) hS (lv_sub hl [3, 4, 2, 1, 0] (rfl))
          · have hc36 : x9 < nI 128 := Int32.not_le.mp hc36
            refine lv_iconst (v := nI 2) C.x C.b d_MD_times_39 (by decide) ?_
            refine lv_iload_n C.x C.b d_MD_times_40 rfl (lv_at hl 3 rfl) ?_
            refine lv_imul C.x C.b d_MD_times_41 ?_
            refine lv_goto (tgt := 56) C.x C.b d_MD_times_42 (by decide) ?_
            refine lv_istore_n (lv' := [(3, .int ((nI 2) * x9)), (2, .int sm), (0, .int ta), (1, .int tb9), (4, .int (nI k9))]) C.x C.b d_MD_times_56 rfl hl (by decide) rfl (fun ls hl => ?_)
            refine lv_iinc (v := nI (k9 + 1)) (lv' := [(4, .int (nI (k9 + 1))), (3, .int ((nI 2) * x9)), (2, .int sm), (0, .int ta), (1, .int tb9)]) C.x C.b d_MD_times_57 hl (k := 4) rfl (k_inc _ 1) (by decide) rfl (fun ls hl => ?_)
            refine lv_goto (tgt := 7) C.x C.b d_MD_times_60 (by decide) ?_
            exact ih7 (k9 + 1) sm ((nI 2) * x9) (by omega) (by omega) (by show _ = ((if _ then _ else _), (if _ then _ else _)); rw [← hst]; simp only [hc21, hc36, if_true, if_false]) _ _ _ (hP.sub [] (rfl)) (hD.sub [] (by decide) (rfl)) hS (lv_sub hl [3, 4, 2, 1, 0] (rfl))
        · refine lv_iload_n C.x C.b d_MD_times_24 rfl (lv_at hl 2 rfl) ?_
          refine lv_iload_n C.x C.b d_MD_times_25 rfl (lv_at hl 3 rfl) ?_
          refine lv_ixor C.x C.b d_MD_times_26 ?_
          refine lv_goto (tgt := 31) C.x C.b d_MD_times_27 (by decide) ?_
          refine lv_istore_n (lv' := [(2, .int (sm ^^^ x9)), (0, .int ta), (1, .int tb9), (3, .int x9), (4, .int (nI k9))]) C.x C.b d_MD_times_31 rfl hl (by decide) rfl (fun ls hl => ?_)
          refine lv_iload_n C.x C.b d_MD_times_32 rfl (lv_at hl 3 rfl) ?_
          refine lv_sipush (v := nI 128) C.x C.b d_MD_times_33 (by decide) ?_
          refine lv_icmp_ge (tgt := 45) C.x C.b d_MD_times_36 (by decide) (fun hc36 => ?_) (fun hc36 => ?_)
          · have hc36 : ¬ x9 < nI 128 := Int32.not_lt.mpr hc36
            refine lv_iconst (v := nI 2) C.x C.b d_MD_times_45 (by decide) ?_
            refine lv_iload_n C.x C.b d_MD_times_46 rfl (lv_at hl 3 rfl) ?_
            refine lv_imul C.x C.b d_MD_times_47 ?_
            refine lv_sipush (v := nI 283) C.x C.b d_MD_times_48 (by decide) ?_
            refine lv_ixor C.x C.b d_MD_times_51 ?_
            refine lv_sipush (v := nI 255) C.x C.b d_MD_times_52 (by decide) ?_
            refine lv_iand C.x C.b d_MD_times_55 ?_
            refine lv_istore_n (lv' := [(3, .int ((((nI 2) * x9) ^^^ (nI 283)) &&& (nI 255))), (2, .int (sm ^^^ x9)), (0, .int ta), (1, .int tb9), (4, .int (nI k9))]) C.x C.b d_MD_times_56 rfl hl (by decide) rfl (fun ls hl => ?_)
            refine lv_iinc (v := nI (k9 + 1)) (lv' := [(4, .int (nI (k9 + 1))), (3, .int ((((nI 2) * x9) ^^^ (nI 283)) &&& (nI 255))), (2, .int (sm ^^^ x9)), (0, .int ta), (1, .int tb9)]) C.x C.b d_MD_times_57 hl (k := 4) rfl (k_inc _ 1) (by decide) rfl (fun ls hl => ?_)
            refine lv_goto (tgt := 7) C.x C.b d_MD_times_60 (by decide) ?_
            exact ih7 (k9 + 1) (sm ^^^ x9) ((((nI 2) * x9) ^^^ (nI 283)) &&& (nI 255)) (by omega) (by omega) (by show _ = ((if _ then _ else _), (if _ then _ else _)); rw [← hst]; simp only [hc21, hc36, if_true, if_false]) _ _ _ (hP.sub [] (rfl)) (hD.sub [] (by decide) (rfl)) hS (lv_sub hl [3, 4, 2, 1, 0] (rfl))
          · have hc36 : x9 < nI 128 := Int32.not_le.mp hc36
            refine lv_iconst (v := nI 2) C.x C.b d_MD_times_39 (by decide) ?_
            refine lv_iload_n C.x C.b d_MD_times_40 rfl (lv_at hl 3 rfl) ?_
            refine lv_imul C.x C.b d_MD_times_41 ?_
            refine lv_goto (tgt := 56) C.x C.b d_MD_times_42 (by decide) ?_
            refine lv_istore_n (lv' := [(3, .int ((nI 2) * x9)), (2, .int (sm ^^^ x9)), (0, .int ta), (1, .int tb9), (4, .int (nI k9))]) C.x C.b d_MD_times_56 rfl hl (by decide) rfl (fun ls hl => ?_)
            refine lv_iinc (v := nI (k9 + 1)) (lv' := [(4, .int (nI (k9 + 1))), (3, .int ((nI 2) * x9)), (2, .int (sm ^^^ x9)), (0, .int ta), (1, .int tb9)]) C.x C.b d_MD_times_57 hl (k := 4) rfl (k_inc _ 1) (by decide) rfl (fun ls hl => ?_)
            refine lv_goto (tgt := 7) C.x C.b d_MD_times_60 (by decide) ?_
            exact ih7 (k9 + 1) (sm ^^^ x9) ((nI 2) * x9) (by omega) (by omega) (by show _ = ((if _ then _ else _), (if _ then _ else _)); rw [← hst]; simp only [hc21, hc36, if_true, if_false]) _ _ _ (hP.sub [] (rfl)) (hD.sub [] (by decide) (rfl)) hS (lv_sub hl [3, 4, 2, 1, 0] (rfl))
  exact L7 ((8 - 0) + 1) 0 (nI 0) ta (Nat.lt_succ_self _) (by omega) (rfl) _ _ _ (hP.sub [] (rfl)) (hD.sub [] (by decide) (rfl)) hS (lv_sub hl [3, 4, 2, 1, 0] (rfl))
theorem mw_MD_boxOf : Msw y_MD_boxOf b_MD_boxOf 5 (some .int) 1 := ⟨m_648, m_9, m_647, by decide +kernel⟩
set_option maxHeartbeats 4000000 in
set_option maxRecDepth 100000 in
theorem c_MD_boxOf (l : Launch) (d : DD) (bb : Nat) (hb : bb < 256) : Ct l y_MD_boxOf b_MD_boxOf 5 (some .int) 1 24 0 0 d [] [.int (nI bb)] (fun (_ : Unit) => some (.int (sbx bb))) (fun (_ : Unit) => True) (fun (_ : Unit) => []) := by
  refine Ct.of (by decide +kernel) (Nat.le_of_ble_eq_true rfl) ?_
  intro p e s m below meth c A ls C hP hD hS hl
  have hl : lv_has ls 5 [(0, .int (nI bb))] := hl
  have hsz9 := hS.1
  refine lv_iconst (v := nI 0) C.x C.b d_MD_boxOf_0 (by decide) ?_
  refine lv_istore_n (lv' := [(1, .int (nI 0)), (0, .int (nI bb))]) C.x C.b d_MD_boxOf_1 rfl hl (by decide) rfl (fun ls hl => ?_)
  refine lv_iconst (v := nI 1) C.x C.b d_MD_boxOf_2 (by decide) ?_
  refine lv_istore_n (lv' := [(2, .int (nI 1)), (1, .int (nI 0)), (0, .int (nI bb))]) C.x C.b d_MD_boxOf_3 rfl hl (by decide) rfl (fun ls hl => ?_)
  have L4 : ∀ (fuel : Nat) (n : Nat) (c9 : Int32), 255 - n < fuel → (n ≤ 255) → (c9 = nI (one bb n)) → ∀ (H : Heap) (locs : List Loc) (ls : Array Slot), va_P d.1 clz [] H → va_D A [] → va_S A s.heap H locs → lv_has ls 5 [(0, .int (nI bb)), (1, .int c9), (2, .int (nI (n + 1)))] → W p l e (Rm 1 24 0 0) s m ([.int (nI bb)] : List Value).toArray below meth c H locs 0 0 (MQ below (Cout d A (fun (_ : Unit) => some (.int (sbx bb))) (fun (_ : Unit) => True) (fun (_ : Unit) => [])) ([.int (nI bb)] : List Value).toArray s 0 0 A) (F0 m 4 ls []) := by
    intro fuel
    induction fuel with
    | zero => intro n c9 h9; exact absurd h9 (Nat.not_lt_zero _)
    | succ fuel ih4 =>
      intro n c9 hfu4 hn hc9 H locs ls hP hD hS hl
      refine lv_iload_n C.x C.b d_MD_boxOf_4 rfl (lv_at hl 2 rfl) ?_
      refine lv_sipush (v := nI 256) C.x C.b d_MD_boxOf_5 (by decide) ?_
      refine lv_icmp_ge (tgt := 32) C.x C.b d_MD_boxOf_8 (by decide) (fun hc8 => ?_) (fun hc8 => ?_)
      · rw [nI_leI (by omega) (by omega)] at hc8
        refine lv_iconst (v := nI 0) C.x C.b d_MD_boxOf_32 (by decide) ?_
        refine lv_istore_n (lv' := [(2, .int (nI 0)), (0, .int (nI bb)), (1, .int c9)]) C.x C.b d_MD_boxOf_33 rfl hl (by decide) rfl (fun ls hl => ?_)
        refine lv_iconst (v := nI 0) C.x C.b d_MD_boxOf_34 (by decide) ?_
        refine lv_istore_n (lv' := [(3, .int (nI 0)), (2, .int (nI 0)), (0, .int (nI bb)), (1, .int c9)]) C.x C.b d_MD_boxOf_35 rfl hl (by decide) rfl (fun ls hl => ?_)
        refine lv_iload_n C.x C.b d_MD_boxOf_36 rfl (lv_at hl 0 rfl) ?_
        refine lv_bipush (v := nI 8) C.x C.b d_MD_boxOf_37 (by decide) ?_
        refine lv_icmp_ge (tgt := 105) C.x C.b d_MD_boxOf_39 (by decide) (fun h9 => by first | exact absurd h9 (by decide) | exact absurd (by decide) h9) (fun _ => ?_)
        refine lv_iload_n C.x C.b d_MD_boxOf_42 rfl (lv_at hl 3 rfl) ?_
        refine lv_iload_n C.x C.b d_MD_boxOf_43 rfl (lv_at hl 0 rfl) ?_
        refine lv_ishr C.x C.b d_MD_boxOf_44 ?_
        refine lv_iload_n C.x C.b d_MD_boxOf_45 rfl (lv_at hl 3 rfl) ?_
        refine lv_iload_n C.x C.b d_MD_boxOf_46 rfl (lv_at hl 0 rfl) ?_
        refine lv_iconst (v := nI 4) C.x C.b d_MD_boxOf_47 (by decide) ?_
        refine lv_iadd C.x C.b d_MD_boxOf_48 ?_
        refine k_top (y := nI 4) (nI_add _ _) ?_
        refine lv_bipush (v := nI 8) C.x C.b d_MD_boxOf_49 (by decide) ?_
        refine lv_irem C.x C.b d_MD_boxOf_51 (by decide) ?_
        refine k_top (y := nI 4) (by decide) ?_
        refine lv_ishr C.x C.b d_MD_boxOf_52 ?_
        refine lv_ixor C.x C.b d_MD_boxOf_53 ?_
        refine lv_iload_n C.x C.b d_MD_boxOf_54 rfl (lv_at hl 3 rfl) ?_
        refine lv_iload_n C.x C.b d_MD_boxOf_55 rfl (lv_at hl 0 rfl) ?_
        refine lv_iconst (v := nI 5) C.x C.b d_MD_boxOf_56 (by decide) ?_
        refine lv_iadd C.x C.b d_MD_boxOf_57 ?_
        refine k_top (y := nI 5) (nI_add _ _) ?_
        refine lv_bipush (v := nI 8) C.x C.b d_MD_boxOf_58 (by decide) ?_
        refine lv_irem C.x C.b d_MD_boxOf_60 (by decide) ?_
        refine k_top (y := nI 5) (by decide) ?_
        refine lv_ishr C.x C.b d_MD_boxOf_61 ?_
        refine lv_ixor C.x C.b d_MD_boxOf_62 ?_
        refine lv_iload_n C.x C.b d_MD_boxOf_63 rfl (lv_at hl 3 rfl) ?_
        refine lv_iload_n C.x C.b d_MD_boxOf_64 rfl (lv_at hl 0 rfl) ?_
        refine lv_bipush (v := nI 6) C.x C.b d_MD_boxOf_65 (by decide) ?_
        refine lv_iadd C.x C.b d_MD_boxOf_67 ?_
        refine k_top (y := nI 6) (nI_add _ _) ?_
        refine lv_bipush (v := nI 8) C.x C.b d_MD_boxOf_68 (by decide) ?_
        refine lv_irem C.x C.b d_MD_boxOf_70 (by decide) ?_
        refine k_top (y := nI 6) (by decide) ?_
        refine lv_ishr C.x C.b d_MD_boxOf_71 ?_
        refine lv_ixor C.x C.b d_MD_boxOf_72 ?_
        refine lv_iload_n C.x C.b d_MD_boxOf_73 rfl (lv_at hl 3 rfl) ?_
        refine lv_iload_n C.x C.b d_MD_boxOf_74 rfl (lv_at hl 0 rfl) ?_
        refine lv_bipush (v := nI 7) C.x C.b d_MD_boxOf_75 (by decide) ?_
        refine lv_iadd C.x C.b d_MD_boxOf_77 ?_
        refine k_top (y := nI 7) (nI_add _ _) ?_
        refine lv_bipush (v := nI 8) C.x C.b d_MD_boxOf_78 (by decide) ?_
        refine lv_irem C.x C.b d_MD_boxOf_80 (by decide) ?_
        refine k_top (y := nI 7) (by decide) ?_
        refine lv_ishr C.x C.b d_MD_boxOf_81 ?_
        refine lv_ixor C.x C.b d_MD_boxOf_82 ?_
        refine lv_bipush (v := nI 99) C.x C.b d_MD_boxOf_83 (by decide) ?_
        refine lv_iload_n C.x C.b d_MD_boxOf_85 rfl (lv_at hl 0 rfl) ?_
        refine lv_ishr C.x C.b d_MD_boxOf_86 ?_
        refine lv_ixor C.x C.b d_MD_boxOf_87 ?_
        refine lv_istore (lv' := [(4, .int ((((((c9 >>> ((nI 0) &&& 31)) ^^^ (c9 >>> ((nI 4) &&& 31))) ^^^ (c9 >>> ((nI 5) &&& 31))) ^^^ (c9 >>> ((nI 6) &&& 31))) ^^^ (c9 >>> ((nI 7) &&& 31))) ^^^ ((nI 99) >>> ((nI 0) &&& 31)))), (3, .int (nI 0)), (2, .int (nI 0)), (0, .int (nI bb)), (1, .int c9)]) C.x C.b d_MD_boxOf_88 hl (by decide) rfl (fun ls hl => ?_)
        refine lv_iload_n C.x C.b d_MD_boxOf_90 rfl (lv_at hl 2 rfl) ?_
        refine lv_iload C.x C.b d_MD_boxOf_91 (lv_at hl 0 rfl) ?_
        refine lv_iconst (v := nI 1) C.x C.b d_MD_boxOf_93 (by decide) ?_
        refine lv_iand C.x C.b d_MD_boxOf_94 ?_
        refine lv_iload_n C.x C.b d_MD_boxOf_95 rfl (lv_at hl 1 rfl) ?_
        refine lv_ishl C.x C.b d_MD_boxOf_96 ?_
        refine lv_ior C.x C.b d_MD_boxOf_97 ?_
        refine lv_istore_n (lv' := [(2, .int ((nI 0) ||| ((((((((c9 >>> ((nI 0) &&& 31)) ^^^ (c9 >>> ((nI 4) &&& 31))) ^^^ (c9 >>> ((nI 5) &&& 31))) ^^^ (c9 >>> ((nI 6) &&& 31))) ^^^ (c9 >>> ((nI 7) &&& 31))) ^^^ ((nI 99) >>> ((nI 0) &&& 31))) &&& (nI 1)) <<< ((nI 0) &&& 31)))), (4, .int ((((((c9 >>> ((nI 0) &&& 31)) ^^^ (c9 >>> ((nI 4) &&& 31))) ^^^ (c9 >>> ((nI 5) &&& 31))) ^^^ (c9 >>> ((nI 6) &&& 31))) ^^^ (c9 >>> ((nI 7) &&& 31))) ^^^ ((nI 99) >>> ((nI 0) &&& 31)))), (3, .int (nI 0)), (0, .int (nI bb)), (1, .int c9)]) C.x C.b d_MD_boxOf_98 rfl hl (by decide) rfl (fun ls hl => ?_)
        refine lv_iinc (v := nI 1) (lv' := [(3, .int (nI 1)), (2, .int ((nI 0) ||| ((((((((c9 >>> ((nI 0) &&& 31)) ^^^ (c9 >>> ((nI 4) &&& 31))) ^^^ (c9 >>> ((nI 5) &&& 31))) ^^^ (c9 >>> ((nI 6) &&& 31))) ^^^ (c9 >>> ((nI 7) &&& 31))) ^^^ ((nI 99) >>> ((nI 0) &&& 31))) &&& (nI 1)) <<< ((nI 0) &&& 31)))), (4, .int ((((((c9 >>> ((nI 0) &&& 31)) ^^^ (c9 >>> ((nI 4) &&& 31))) ^^^ (c9 >>> ((nI 5) &&& 31))) ^^^ (c9 >>> ((nI 6) &&& 31))) ^^^ (c9 >>> ((nI 7) &&& 31))) ^^^ ((nI 99) >>> ((nI 0) &&& 31)))), (0, .int (nI bb)), (1, .int c9)]) C.x C.b d_MD_boxOf_99 hl (k := 2) rfl (by decide) (by decide) rfl (fun ls hl => ?_)
        refine lv_goto (tgt := 36) C.x C.b d_MD_boxOf_102 (by decide) ?_
        refine lv_iload_n C.x C.b d_MD_boxOf_36 rfl (lv_at hl 0 rfl) ?_
        refine lv_bipush (v := nI 8) C.x C.b d_MD_boxOf_37 (by decide) ?_
        refine lv_icmp_ge (tgt := 105) C.x C.b d_MD_boxOf_39 (by decide) (fun h9 => by first | exact absurd h9 (by decide) | exact absurd (by decide) h9) (fun _ => ?_)
        refine lv_iload_n C.x C.b d_MD_boxOf_42 rfl (lv_at hl 4 rfl) ?_
        refine lv_iload_n C.x C.b d_MD_boxOf_43 rfl (lv_at hl 0 rfl) ?_
        refine lv_ishr C.x C.b d_MD_boxOf_44 ?_
        refine lv_iload_n C.x C.b d_MD_boxOf_45 rfl (lv_at hl 4 rfl) ?_
        refine lv_iload_n C.x C.b d_MD_boxOf_46 rfl (lv_at hl 0 rfl) ?_
        refine lv_iconst (v := nI 4) C.x C.b d_MD_boxOf_47 (by decide) ?_
        refine lv_iadd C.x C.b d_MD_boxOf_48 ?_
        refine k_top (y := nI 5) (nI_add _ _) ?_
        refine lv_bipush (v := nI 8) C.x C.b d_MD_boxOf_49 (by decide) ?_
        refine lv_irem C.x C.b d_MD_boxOf_51 (by decide) ?_
        refine k_top (y := nI 5) (by decide) ?_
        refine lv_ishr C.x C.b d_MD_boxOf_52 ?_
        refine lv_ixor C.x C.b d_MD_boxOf_53 ?_
        refine lv_iload_n C.x C.b d_MD_boxOf_54 rfl (lv_at hl 4 rfl) ?_
        refine lv_iload_n C.x C.b d_MD_boxOf_55 rfl (lv_at hl 0 rfl) ?_
        refine lv_iconst (v := nI 5) C.x C.b d_MD_boxOf_56 (by decide) ?_
        refine lv_iadd C.x C.b d_MD_boxOf_57 ?_
        refine k_top (y := nI 6) (nI_add _ _) ?_
        refine lv_bipush (v := nI 8) C.x C.b d_MD_boxOf_58 (by decide) ?_
        refine lv_irem C.x C.b d_MD_boxOf_60 (by decide) ?_
        refine k_top (y := nI 6) (by decide) ?_
        refine lv_ishr C.x C.b d_MD_boxOf_61 ?_
        refine lv_ixor C.x C.b d_MD_boxOf_62 ?_
        refine lv_iload_n C.x C.b d_MD_boxOf_63 rfl (lv_at hl 4 rfl) ?_
        refine lv_iload_n C.x C.b d_MD_boxOf_64 rfl (lv_at hl 0 rfl) ?_
        refine lv_bipush (v := nI 6) C.x C.b d_MD_boxOf_65 (by decide) ?_
        refine lv_iadd C.x C.b d_MD_boxOf_67 ?_
        refine k_top (y := nI 7) (nI_add _ _) ?_
        refine lv_bipush (v := nI 8) C.x C.b d_MD_boxOf_68 (by decide) ?_
        refine lv_irem C.x C.b d_MD_boxOf_70 (by decide) ?_
        refine k_top (y := nI 7) (by decide) ?_
        refine lv_ishr C.x C.b d_MD_boxOf_71 ?_
        refine lv_ixor C.x C.b d_MD_boxOf_72 ?_
        refine lv_iload_n C.x C.b d_MD_boxOf_73 rfl (lv_at hl 4 rfl) ?_
        refine lv_iload_n C.x C.b d_MD_boxOf_74 rfl (lv_at hl 0 rfl) ?_
        refine lv_bipush (v := nI 7) C.x C.b d_MD_boxOf_75 (by decide) ?_
        refine lv_iadd C.x C.b d_MD_boxOf_77 ?_
        refine k_top (y := nI 8) (nI_add _ _) ?_
        refine lv_bipush (v := nI 8) C.x C.b d_MD_boxOf_78 (by decide) ?_
        refine lv_irem C.x C.b d_MD_boxOf_80 (by decide) ?_
        refine k_top (y := nI 0) (by decide) ?_
        refine lv_ishr C.x C.b d_MD_boxOf_81 ?_
        refine lv_ixor C.x C.b d_MD_boxOf_82 ?_
        refine lv_bipush (v := nI 99) C.x C.b d_MD_boxOf_83 (by decide) ?_
        refine lv_iload_n C.x C.b d_MD_boxOf_85 rfl (lv_at hl 0 rfl) ?_
        refine lv_ishr C.x C.b d_MD_boxOf_86 ?_
        refine lv_ixor C.x C.b d_MD_boxOf_87 ?_
        refine lv_istore (lv' := [(4, .int ((((((c9 >>> ((nI 1) &&& 31)) ^^^ (c9 >>> ((nI 5) &&& 31))) ^^^ (c9 >>> ((nI 6) &&& 31))) ^^^ (c9 >>> ((nI 7) &&& 31))) ^^^ (c9 >>> ((nI 0) &&& 31))) ^^^ ((nI 99) >>> ((nI 1) &&& 31)))), (3, .int (nI 1)), (2, .int ((nI 0) ||| ((((((((c9 >>> ((nI 0) &&& 31)) ^^^ (c9 >>> ((nI 4) &&& 31))) ^^^ (c9 >>> ((nI 5) &&& 31))) ^^^ (c9 >>> ((nI 6) &&& 31))) ^^^ (c9 >>> ((nI 7) &&& 31))) ^^^ ((nI 99) >>> ((nI 0) &&& 31))) &&& (nI 1)) <<< ((nI 0) &&& 31)))), (0, .int (nI bb)), (1, .int c9)]) C.x C.b d_MD_boxOf_88 hl (by decide) rfl (fun ls hl => ?_)
        refine lv_iload_n C.x C.b d_MD_boxOf_90 rfl (lv_at hl 2 rfl) ?_
        refine lv_iload C.x C.b d_MD_boxOf_91 (lv_at hl 0 rfl) ?_
        refine lv_iconst (v := nI 1) C.x C.b d_MD_boxOf_93 (by decide) ?_
        refine lv_iand C.x C.b d_MD_boxOf_94 ?_
        refine lv_iload_n C.x C.b d_MD_boxOf_95 rfl (lv_at hl 1 rfl) ?_
        refine lv_ishl C.x C.b d_MD_boxOf_96 ?_
        refine lv_ior C.x C.b d_MD_boxOf_97 ?_
        refine lv_istore_n (lv' := [(2, .int (((nI 0) ||| ((((((((c9 >>> ((nI 0) &&& 31)) ^^^ (c9 >>> ((nI 4) &&& 31))) ^^^ (c9 >>> ((nI 5) &&& 31))) ^^^ (c9 >>> ((nI 6) &&& 31))) ^^^ (c9 >>> ((nI 7) &&& 31))) ^^^ ((nI 99) >>> ((nI 0) &&& 31))) &&& (nI 1)) <<< ((nI 0) &&& 31))) ||| ((((((((c9 >>> ((nI 1) &&& 31)) ^^^ (c9 >>> ((nI 5) &&& 31))) ^^^ (c9 >>> ((nI 6) &&& 31))) ^^^ (c9 >>> ((nI 7) &&& 31))) ^^^ (c9 >>> ((nI 0) &&& 31))) ^^^ ((nI 99) >>> ((nI 1) &&& 31))) &&& (nI 1)) <<< ((nI 1) &&& 31)))), (4, .int ((((((c9 >>> ((nI 1) &&& 31)) ^^^ (c9 >>> ((nI 5) &&& 31))) ^^^ (c9 >>> ((nI 6) &&& 31))) ^^^ (c9 >>> ((nI 7) &&& 31))) ^^^ (c9 >>> ((nI 0) &&& 31))) ^^^ ((nI 99) >>> ((nI 1) &&& 31)))), (3, .int (nI 1)), (0, .int (nI bb)), (1, .int c9)]) C.x C.b d_MD_boxOf_98 rfl hl (by decide) rfl (fun ls hl => ?_)
        refine lv_iinc (v := nI 2) (lv' := [(3, .int (nI 2)), (2, .int (((nI 0) ||| ((((((((c9 >>> ((nI 0) &&& 31)) ^^^ (c9 >>> ((nI 4) &&& 31))) ^^^ (c9 >>> ((nI 5) &&& 31))) ^^^ (c9 >>> ((nI 6) &&& 31))) ^^^ (c9 >>> ((nI 7) &&& 31))) ^^^ ((nI 99) >>> ((nI 0) &&& 31))) &&& (nI 1)) <<< ((nI 0) &&& 31))) ||| ((((((((c9 >>> ((nI 1) &&& 31)) ^^^ (c9 >>> ((nI 5) &&& 31))) ^^^ (c9 >>> ((nI 6) &&& 31))) ^^^ (c9 >>> ((nI 7) &&& 31))) ^^^ (c9 >>> ((nI 0) &&& 31))) ^^^ ((nI 99) >>> ((nI 1) &&& 31))) &&& (nI 1)) <<< ((nI 1) &&& 31)))), (4, .int ((((((c9 >>> ((nI 1) &&& 31)) ^^^ (c9 >>> ((nI 5) &&& 31))) ^^^ (c9 >>> ((nI 6) &&& 31))) ^^^ (c9 >>> ((nI 7) &&& 31))) ^^^ (c9 >>> ((nI 0) &&& 31))) ^^^ ((nI 99) >>> ((nI 1) &&& 31)))), (0, .int (nI bb)), (1, .int c9)]) C.x C.b d_MD_boxOf_99 hl (k := 2) rfl (by decide) (by decide) rfl (fun ls hl => ?_)
        refine lv_goto (tgt := 36) C.x C.b d_MD_boxOf_102 (by decide) ?_
        refine lv_iload_n C.x C.b d_MD_boxOf_36 rfl (lv_at hl 0 rfl) ?_
        refine lv_bipush (v := nI 8) C.x C.b d_MD_boxOf_37 (by decide) ?_
        refine lv_icmp_ge (tgt := 105) C.x C.b d_MD_boxOf_39 (by decide) (fun h9 => by first | exact absurd h9 (by decide) | exact absurd (by decide) h9) (fun _ => ?_)
        refine lv_iload_n C.x C.b d_MD_boxOf_42 rfl (lv_at hl 4 rfl) ?_
        refine lv_iload_n C.x C.b d_MD_boxOf_43 rfl (lv_at hl 0 rfl) ?_
        refine lv_ishr C.x C.b d_MD_boxOf_44 ?_
        refine lv_iload_n C.x C.b d_MD_boxOf_45 rfl (lv_at hl 4 rfl) ?_
        refine lv_iload_n C.x C.b d_MD_boxOf_46 rfl (lv_at hl 0 rfl) ?_
        refine lv_iconst (v := nI 4) C.x C.b d_MD_boxOf_47 (by decide) ?_
        refine lv_iadd C.x C.b d_MD_boxOf_48 ?_
        refine k_top (y := nI 6) (nI_add _ _) ?_
        refine lv_bipush (v := nI 8) C.x C.b d_MD_boxOf_49 (by decide) ?_
        refine lv_irem C.x C.b d_MD_boxOf_51 (by decide) ?_
        refine k_top (y := nI 6) (by decide) ?_
        refine lv_ishr C.x C.b d_MD_boxOf_52 ?_
        refine lv_ixor C.x C.b d_MD_boxOf_53 ?_
        refine lv_iload_n C.x C.b d_MD_boxOf_54 rfl (lv_at hl 4 rfl) ?_
        refine lv_iload_n C.x C.b d_MD_boxOf_55 rfl (lv_at hl 0 rfl) ?_
        refine lv_iconst (v := nI 5) C.x C.b d_MD_boxOf_56 (by decide) ?_
        refine lv_iadd C.x C.b d_MD_boxOf_57 ?_
        refine k_top (y := nI 7) (nI_add _ _) ?_
        refine lv_bipush (v := nI 8) C.x C.b d_MD_boxOf_58 (by decide) ?_
        refine lv_irem C.x C.b d_MD_boxOf_60 (by decide) ?_
        refine k_top (y := nI 7) (by decide) ?_
        refine lv_ishr C.x C.b d_MD_boxOf_61 ?_
        refine lv_ixor C.x C.b d_MD_boxOf_62 ?_
        refine lv_iload_n C.x C.b d_MD_boxOf_63 rfl (lv_at hl 4 rfl) ?_
        refine lv_iload_n C.x C.b d_MD_boxOf_64 rfl (lv_at hl 0 rfl) ?_
        refine lv_bipush (v := nI 6) C.x C.b d_MD_boxOf_65 (by decide) ?_
        refine lv_iadd C.x C.b d_MD_boxOf_67 ?_
        refine k_top (y := nI 8) (nI_add _ _) ?_
        refine lv_bipush (v := nI 8) C.x C.b d_MD_boxOf_68 (by decide) ?_
        refine lv_irem C.x C.b d_MD_boxOf_70 (by decide) ?_
        refine k_top (y := nI 0) (by decide) ?_
        refine lv_ishr C.x C.b d_MD_boxOf_71 ?_
        refine lv_ixor C.x C.b d_MD_boxOf_72 ?_
        refine lv_iload_n C.x C.b d_MD_boxOf_73 rfl (lv_at hl 4 rfl) ?_
        refine lv_iload_n C.x C.b d_MD_boxOf_74 rfl (lv_at hl 0 rfl) ?_
        refine lv_bipush (v := nI 7) C.x C.b d_MD_boxOf_75 (by decide) ?_
        refine lv_iadd C.x C.b d_MD_boxOf_77 ?_
        refine k_top (y := nI 9) (nI_add _ _) ?_
        refine lv_bipush (v := nI 8) C.x C.b d_MD_boxOf_78 (by decide) ?_
        refine lv_irem C.x C.b d_MD_boxOf_80 (by decide) ?_
        refine k_top (y := nI 1) (by decide) ?_
        refine lv_ishr C.x C.b d_MD_boxOf_81 ?_
        refine lv_ixor C.x C.b d_MD_boxOf_82 ?_
        refine lv_bipush (v := nI 99) C.x C.b d_MD_boxOf_83 (by decide) ?_
        refine lv_iload_n C.x C.b d_MD_boxOf_85 rfl (lv_at hl 0 rfl) ?_
        refine lv_ishr C.x C.b d_MD_boxOf_86 ?_
        refine lv_ixor C.x C.b d_MD_boxOf_87 ?_
        refine lv_istore (lv' := [(4, .int ((((((c9 >>> ((nI 2) &&& 31)) ^^^ (c9 >>> ((nI 6) &&& 31))) ^^^ (c9 >>> ((nI 7) &&& 31))) ^^^ (c9 >>> ((nI 0) &&& 31))) ^^^ (c9 >>> ((nI 1) &&& 31))) ^^^ ((nI 99) >>> ((nI 2) &&& 31)))), (3, .int (nI 2)), (2, .int (((nI 0) ||| ((((((((c9 >>> ((nI 0) &&& 31)) ^^^ (c9 >>> ((nI 4) &&& 31))) ^^^ (c9 >>> ((nI 5) &&& 31))) ^^^ (c9 >>> ((nI 6) &&& 31))) ^^^ (c9 >>> ((nI 7) &&& 31))) ^^^ ((nI 99) >>> ((nI 0) &&& 31))) &&& (nI 1)) <<< ((nI 0) &&& 31))) ||| ((((((((c9 >>> ((nI 1) &&& 31)) ^^^ (c9 >>> ((nI 5) &&& 31))) ^^^ (c9 >>> ((nI 6) &&& 31))) ^^^ (c9 >>> ((nI 7) &&& 31))) ^^^ (c9 >>> ((nI 0) &&& 31))) ^^^ ((nI 99) >>> ((nI 1) &&& 31))) &&& (nI 1)) <<< ((nI 1) &&& 31)))), (0, .int (nI bb)), (1, .int c9)]) C.x C.b d_MD_boxOf_88 hl (by decide) rfl (fun ls hl => ?_)
        refine lv_iload_n C.x C.b d_MD_boxOf_90 rfl (lv_at hl 2 rfl) ?_
        refine lv_iload C.x C.b d_MD_boxOf_91 (lv_at hl 0 rfl) ?_
        refine lv_iconst (v := nI 1) C.x C.b d_MD_boxOf_93 (by decide) ?_
        refine lv_iand C.x C.b d_MD_boxOf_94 ?_
        refine lv_iload_n C.x C.b d_MD_boxOf_95 rfl (lv_at hl 1 rfl) ?_
        refine lv_ishl C.x C.b d_MD_boxOf_96 ?_
        refine lv_ior C.x C.b d_MD_boxOf_97 ?_
        refine lv_istore_n (lv' := [(2, .int ((((nI 0) ||| ((((((((c9 >>> ((nI 0) &&& 31)) ^^^ (c9 >>> ((nI 4) &&& 31))) ^^^ (c9 >>> ((nI 5) &&& 31))) ^^^ (c9 >>> ((nI 6) &&& 31))) ^^^ (c9 >>> ((nI 7) &&& 31))) ^^^ ((nI 99) >>> ((nI 0) &&& 31))) &&& (nI 1)) <<< ((nI 0) &&& 31))) ||| ((((((((c9 >>> ((nI 1) &&& 31)) ^^^ (c9 >>> ((nI 5) &&& 31))) ^^^ (c9 >>> ((nI 6) &&& 31))) ^^^ (c9 >>> ((nI 7) &&& 31))) ^^^ (c9 >>> ((nI 0) &&& 31))) ^^^ ((nI 99) >>> ((nI 1) &&& 31))) &&& (nI 1)) <<< ((nI 1) &&& 31))) ||| ((((((((c9 >>> ((nI 2) &&& 31)) ^^^ (c9 >>> ((nI 6) &&& 31))) ^^^ (c9 >>> ((nI 7) &&& 31))) ^^^ (c9 >>> ((nI 0) &&& 31))) ^^^ (c9 >>> ((nI 1) &&& 31))) ^^^ ((nI 99) >>> ((nI 2) &&& 31))) &&& (nI 1)) <<< ((nI 2) &&& 31)))), (4, .int ((((((c9 >>> ((nI 2) &&& 31)) ^^^ (c9 >>> ((nI 6) &&& 31))) ^^^ (c9 >>> ((nI 7) &&& 31))) ^^^ (c9 >>> ((nI 0) &&& 31))) ^^^ (c9 >>> ((nI 1) &&& 31))) ^^^ ((nI 99) >>> ((nI 2) &&& 31)))), (3, .int (nI 2)), (0, .int (nI bb)), (1, .int c9)]) C.x C.b d_MD_boxOf_98 rfl hl (by decide) rfl (fun ls hl => ?_)
        refine lv_iinc (v := nI 3) (lv' := [(3, .int (nI 3)), (2, .int ((((nI 0) ||| ((((((((c9 >>> ((nI 0) &&& 31)) ^^^ (c9 >>> ((nI 4) &&& 31))) ^^^ (c9 >>> ((nI 5) &&& 31))) ^^^ (c9 >>> ((nI 6) &&& 31))) ^^^ (c9 >>> ((nI 7) &&& 31))) ^^^ ((nI 99) >>> ((nI 0) &&& 31))) &&& (nI 1)) <<< ((nI 0) &&& 31))) ||| ((((((((c9 >>> ((nI 1) &&& 31)) ^^^ (c9 >>> ((nI 5) &&& 31))) ^^^ (c9 >>> ((nI 6) &&& 31))) ^^^ (c9 >>> ((nI 7) &&& 31))) ^^^ (c9 >>> ((nI 0) &&& 31))) ^^^ ((nI 99) >>> ((nI 1) &&& 31))) &&& (nI 1)) <<< ((nI 1) &&& 31))) ||| ((((((((c9 >>> ((nI 2) &&& 31)) ^^^ (c9 >>> ((nI 6) &&& 31))) ^^^ (c9 >>> ((nI 7) &&& 31))) ^^^ (c9 >>> ((nI 0) &&& 31))) ^^^ (c9 >>> ((nI 1) &&& 31))) ^^^ ((nI 99) >>> ((nI 2) &&& 31))) &&& (nI 1)) <<< ((nI 2) &&& 31)))), (4, .int ((((((c9 >>> ((nI 2) &&& 31)) ^^^ (c9 >>> ((nI 6) &&& 31))) ^^^ (c9 >>> ((nI 7) &&& 31))) ^^^ (c9 >>> ((nI 0) &&& 31))) ^^^ (c9 >>> ((nI 1) &&& 31))) ^^^ ((nI 99) >>> ((nI 2) &&& 31)))), (0, .int (nI bb)), (1, .int c9)]) C.x C.b d_MD_boxOf_99 hl (k := 2) rfl (by decide) (by decide) rfl (fun ls hl => ?_)
        refine lv_goto (tgt := 36) C.x C.b d_MD_boxOf_102 (by decide) ?_
        refine lv_iload_n C.x C.b d_MD_boxOf_36 rfl (lv_at hl 0 rfl) ?_
        refine lv_bipush (v := nI 8) C.x C.b d_MD_boxOf_37 (by decide) ?_
        refine lv_icmp_ge (tgt := 105) C.x C.b d_MD_boxOf_39 (by decide) (fun h9 => by first | exact absurd h9 (by decide) | exact absurd (by decide) h9) (fun _ => ?_)
        refine lv_iload_n C.x C.b d_MD_boxOf_42 rfl (lv_at hl 4 rfl) ?_
        refine lv_iload_n C.x C.b d_MD_boxOf_43 rfl (lv_at hl 0 rfl) ?_
        refine lv_ishr C.x C.b d_MD_boxOf_44 ?_
        refine lv_iload_n C.x C.b d_MD_boxOf_45 rfl (lv_at hl 4 rfl) ?_
        refine lv_iload_n C.x C.b d_MD_boxOf_46 rfl (lv_at hl 0 rfl) ?_
        refine lv_iconst (v := nI 4) C.x C.b d_MD_boxOf_47 (by decide) ?_
        refine lv_iadd C.x C.b d_MD_boxOf_48 ?_
        refine k_top (y := nI 7) (nI_add _ _) ?_
        refine lv_bipush (v := nI 8) C.x C.b d_MD_boxOf_49 (by decide) ?_
        refine lv_irem C.x C.b d_MD_boxOf_51 (by decide) ?_
        refine k_top (y := nI 7) (by decide) ?_
        refine lv_ishr C.x C.b d_MD_boxOf_52 ?_
        refine lv_ixor C.x C.b d_MD_boxOf_53 ?_
        refine lv_iload_n C.x C.b d_MD_boxOf_54 rfl (lv_at hl 4 rfl) ?_
        refine lv_iload_n C.x C.b d_MD_boxOf_55 rfl (lv_at hl 0 rfl) ?_
        refine lv_iconst (v := nI 5) C.x C.b d_MD_boxOf_56 (by decide) ?_
        refine lv_iadd C.x C.b d_MD_boxOf_57 ?_
        refine k_top (y := nI 8) (nI_add _ _) ?_
        refine lv_bipush (v := nI 8) C.x C.b d_MD_boxOf_58 (by decide) ?_
        refine lv_irem C.x C.b d_MD_boxOf_60 (by decide) ?_
        refine k_top (y := nI 0) (by decide) ?_
        refine lv_ishr C.x C.b d_MD_boxOf_61 ?_
        refine lv_ixor C.x C.b d_MD_boxOf_62 ?_
        refine lv_iload_n C.x C.b d_MD_boxOf_63 rfl (lv_at hl 4 rfl) ?_
        refine lv_iload_n C.x C.b d_MD_boxOf_64 rfl (lv_at hl 0 rfl) ?_
        refine lv_bipush (v := nI 6) C.x C.b d_MD_boxOf_65 (by decide) ?_
        refine lv_iadd C.x C.b d_MD_boxOf_67 ?_
        refine k_top (y := nI 9) (nI_add _ _) ?_
        refine lv_bipush (v := nI 8) C.x C.b d_MD_boxOf_68 (by decide) ?_
        refine lv_irem C.x C.b d_MD_boxOf_70 (by decide) ?_
        refine k_top (y := nI 1) (by decide) ?_
        refine lv_ishr C.x C.b d_MD_boxOf_71 ?_
        refine lv_ixor C.x C.b d_MD_boxOf_72 ?_
        refine lv_iload_n C.x C.b d_MD_boxOf_73 rfl (lv_at hl 4 rfl) ?_
        refine lv_iload_n C.x C.b d_MD_boxOf_74 rfl (lv_at hl 0 rfl) ?_
        refine lv_bipush (v := nI 7) C.x C.b d_MD_boxOf_75 (by decide) ?_
        refine lv_iadd C.x C.b d_MD_boxOf_77 ?_
        refine k_top (y := nI 10) (nI_add _ _) ?_
        refine lv_bipush (v := nI 8) C.x C.b d_MD_boxOf_78 (by decide) ?_
        refine lv_irem C.x C.b d_MD_boxOf_80 (by decide) ?_
        refine k_top (y := nI 2) (by decide) ?_
        refine lv_ishr C.x C.b d_MD_boxOf_81 ?_
        refine lv_ixor C.x C.b d_MD_boxOf_82 ?_
        refine lv_bipush (v := nI 99) C.x C.b d_MD_boxOf_83 (by decide) ?_
        refine lv_iload_n C.x C.b d_MD_boxOf_85 rfl (lv_at hl 0 rfl) ?_
        refine lv_ishr C.x C.b d_MD_boxOf_86 ?_
        refine lv_ixor C.x C.b d_MD_boxOf_87 ?_
        refine lv_istore (lv' := [(4, .int ((((((c9 >>> ((nI 3) &&& 31)) ^^^ (c9 >>> ((nI 7) &&& 31))) ^^^ (c9 >>> ((nI 0) &&& 31))) ^^^ (c9 >>> ((nI 1) &&& 31))) ^^^ (c9 >>> ((nI 2) &&& 31))) ^^^ ((nI 99) >>> ((nI 3) &&& 31)))), (3, .int (nI 3)), (2, .int ((((nI 0) ||| ((((((((c9 >>> ((nI 0) &&& 31)) ^^^ (c9 >>> ((nI 4) &&& 31))) ^^^ (c9 >>> ((nI 5) &&& 31))) ^^^ (c9 >>> ((nI 6) &&& 31))) ^^^ (c9 >>> ((nI 7) &&& 31))) ^^^ ((nI 99) >>> ((nI 0) &&& 31))) &&& (nI 1)) <<< ((nI 0) &&& 31))) ||| ((((((((c9 >>> ((nI 1) &&& 31)) ^^^ (c9 >>> ((nI 5) &&& 31))) ^^^ (c9 >>> ((nI 6) &&& 31))) ^^^ (c9 >>> ((nI 7) &&& 31))) ^^^ (c9 >>> ((nI 0) &&& 31))) ^^^ ((nI 99) >>> ((nI 1) &&& 31))) &&& (nI 1)) <<< ((nI 1) &&& 31))) ||| ((((((((c9 >>> ((nI 2) &&& 31)) ^^^ (c9 >>> ((nI 6) &&& 31))) ^^^ (c9 >>> ((nI 7) &&& 31))) ^^^ (c9 >>> ((nI 0) &&& 31))) ^^^ (c9 >>> ((nI 1) &&& 31))) ^^^ ((nI 99) >>> ((nI 2) &&& 31))) &&& (nI 1)) <<< ((nI 2) &&& 31)))), (0, .int (nI bb)), (1, .int c9)]) C.x C.b d_MD_boxOf_88 hl (by decide) rfl (fun ls hl => ?_)
        refine lv_iload_n C.x C.b d_MD_boxOf_90 rfl (lv_at hl 2 rfl) ?_
        refine lv_iload C.x C.b d_MD_boxOf_91 (lv_at hl 0 rfl) ?_
        refine lv_iconst (v := nI 1) C.x C.b d_MD_boxOf_93 (by decide) ?_
        refine lv_iand C.x C.b d_MD_boxOf_94 ?_
        refine lv_iload_n C.x C.b d_MD_boxOf_95 rfl (lv_at hl 1 rfl) ?_
        refine lv_ishl C.x C.b d_MD_boxOf_96 ?_
        refine lv_ior C.x C.b d_MD_boxOf_97 ?_
        refine lv_istore_n (lv' := [(2, .int (((((nI 0) ||| ((((((((c9 >>> ((nI 0) &&& 31)) ^^^ (c9 >>> ((nI 4) &&& 31))) ^^^ (c9 >>> ((nI 5) &&& 31))) ^^^ (c9 >>> ((nI 6) &&& 31))) ^^^ (c9 >>> ((nI 7) &&& 31))) ^^^ ((nI 99) >>> ((nI 0) &&& 31))) &&& (nI 1)) <<< ((nI 0) &&& 31))) ||| ((((((((c9 >>> ((nI 1) &&& 31)) ^^^ (c9 >>> ((nI 5) &&& 31))) ^^^ (c9 >>> ((nI 6) &&& 31))) ^^^ (c9 >>> ((nI 7) &&& 31))) ^^^ (c9 >>> ((nI 0) &&& 31))) ^^^ ((nI 99) >>> ((nI 1) &&& 31))) &&& (nI 1)) <<< ((nI 1) &&& 31))) ||| ((((((((c9 >>> ((nI 2) &&& 31)) ^^^ (c9 >>> ((nI 6) &&& 31))) ^^^ (c9 >>> ((nI 7) &&& 31))) ^^^ (c9 >>> ((nI 0) &&& 31))) ^^^ (c9 >>> ((nI 1) &&& 31))) ^^^ ((nI 99) >>> ((nI 2) &&& 31))) &&& (nI 1)) <<< ((nI 2) &&& 31))) ||| ((((((((c9 >>> ((nI 3) &&& 31)) ^^^ (c9 >>> ((nI 7) &&& 31))) ^^^ (c9 >>> ((nI 0) &&& 31))) ^^^ (c9 >>> ((nI 1) &&& 31))) ^^^ (c9 >>> ((nI 2) &&& 31))) ^^^ ((nI 99) >>> ((nI 3) &&& 31))) &&& (nI 1)) <<< ((nI 3) &&& 31)))), (4, .int ((((((c9 >>> ((nI 3) &&& 31)) ^^^ (c9 >>> ((nI 7) &&& 31))) ^^^ (c9 >>> ((nI 0) &&& 31))) ^^^ (c9 >>> ((nI 1) &&& 31))) ^^^ (c9 >>> ((nI 2) &&& 31))) ^^^ ((nI 99) >>> ((nI 3) &&& 31)))), (3, .int (nI 3)), (0, .int (nI bb)), (1, .int c9)]) C.x C.b d_MD_boxOf_98 rfl hl (by decide) rfl (fun ls hl => ?_)
        refine lv_iinc (v := nI 4) (lv' := [(3, .int (nI 4)), (2, .int (((((nI 0) ||| ((((((((c9 >>> ((nI 0) &&& 31)) ^^^ (c9 >>> ((nI 4) &&& 31))) ^^^ (c9 >>> ((nI 5) &&& 31))) ^^^ (c9 >>> ((nI 6) &&& 31))) ^^^ (c9 >>> ((nI 7) &&& 31))) ^^^ ((nI 99) >>> ((nI 0) &&& 31))) &&& (nI 1)) <<< ((nI 0) &&& 31))) ||| ((((((((c9 >>> ((nI 1) &&& 31)) ^^^ (c9 >>> ((nI 5) &&& 31))) ^^^ (c9 >>> ((nI 6) &&& 31))) ^^^ (c9 >>> ((nI 7) &&& 31))) ^^^ (c9 >>> ((nI 0) &&& 31))) ^^^ ((nI 99) >>> ((nI 1) &&& 31))) &&& (nI 1)) <<< ((nI 1) &&& 31))) ||| ((((((((c9 >>> ((nI 2) &&& 31)) ^^^ (c9 >>> ((nI 6) &&& 31))) ^^^ (c9 >>> ((nI 7) &&& 31))) ^^^ (c9 >>> ((nI 0) &&& 31))) ^^^ (c9 >>> ((nI 1) &&& 31))) ^^^ ((nI 99) >>> ((nI 2) &&& 31))) &&& (nI 1)) <<< ((nI 2) &&& 31))) ||| ((((((((c9 >>> ((nI 3) &&& 31)) ^^^ (c9 >>> ((nI 7) &&& 31))) ^^^ (c9 >>> ((nI 0) &&& 31))) ^^^ (c9 >>> ((nI 1) &&& 31))) ^^^ (c9 >>> ((nI 2) &&& 31))) ^^^ ((nI 99) >>> ((nI 3) &&& 31))) &&& (nI 1)) <<< ((nI 3) &&& 31)))), (4, .int ((((((c9 >>> ((nI 3) &&& 31)) ^^^ (c9 >>> ((nI 7) &&& 31))) ^^^ (c9 >>> ((nI 0) &&& 31))) ^^^ (c9 >>> ((nI 1) &&& 31))) ^^^ (c9 >>> ((nI 2) &&& 31))) ^^^ ((nI 99) >>> ((nI 3) &&& 31)))), (0, .int (nI bb)), (1, .int c9)]) C.x C.b d_MD_boxOf_99 hl (k := 2) rfl (by decide) (by decide) rfl (fun ls hl => ?_)
        refine lv_goto (tgt := 36) C.x C.b d_MD_boxOf_102 (by decide) ?_
        refine lv_iload_n C.x C.b d_MD_boxOf_36 rfl (lv_at hl 0 rfl) ?_
        refine lv_bipush (v := nI 8) C.x C.b d_MD_boxOf_37 (by decide) ?_
        refine lv_icmp_ge (tgt := 105) C.x C.b d_MD_boxOf_39 (by decide) (fun h9 => by first | exact absurd h9 (by decide) | exact absurd (by decide) h9) (fun _ => ?_)
        refine lv_iload_n C.x C.b d_MD_boxOf_42 rfl (lv_at hl 4 rfl) ?_
        refine lv_iload_n C.x C.b d_MD_boxOf_43 rfl (lv_at hl 0 rfl) ?_
        refine lv_ishr C.x C.b d_MD_boxOf_44 ?_
        refine lv_iload_n C.x C.b d_MD_boxOf_45 rfl (lv_at hl 4 rfl) ?_
        refine lv_iload_n C.x C.b d_MD_boxOf_46 rfl (lv_at hl 0 rfl) ?_
        refine lv_iconst (v := nI 4) C.x C.b d_MD_boxOf_47 (by decide) ?_
        refine lv_iadd C.x C.b d_MD_boxOf_48 ?_
        refine k_top (y := nI 8) (nI_add _ _) ?_
        refine lv_bipush (v := nI 8) C.x C.b d_MD_boxOf_49 (by decide) ?_
        refine lv_irem C.x C.b d_MD_boxOf_51 (by decide) ?_
        refine k_top (y := nI 0) (by decide) ?_
        refine lv_ishr C.x C.b d_MD_boxOf_52 ?_
        refine lv_ixor C.x C.b d_MD_boxOf_53 ?_
        refine lv_iload_n C.x C.b d_MD_boxOf_54 rfl (lv_at hl 4 rfl) ?_
        refine lv_iload_n C.x C.b d_MD_boxOf_55 rfl (lv_at hl 0 rfl) ?_
        refine lv_iconst (v := nI 5) C.x C.b d_MD_boxOf_56 (by decide) ?_
        refine lv_iadd C.x C.b d_MD_boxOf_57 ?_
        refine k_top (y := nI 9) (nI_add _ _) ?_
        refine lv_bipush (v := nI 8) C.x C.b d_MD_boxOf_58 (by decide) ?_
        refine lv_irem C.x C.b d_MD_boxOf_60 (by decide) ?_
        refine k_top (y := nI 1) (by decide) ?_
        refine lv_ishr C.x C.b d_MD_boxOf_61 ?_
        refine lv_ixor C.x C.b d_MD_boxOf_62 ?_
        refine lv_iload_n C.x C.b d_MD_boxOf_63 rfl (lv_at hl 4 rfl) ?_
        refine lv_iload_n C.x C.b d_MD_boxOf_64 rfl (lv_at hl 0 rfl) ?_
        refine lv_bipush (v := nI 6) C.x C.b d_MD_boxOf_65 (by decide) ?_
        refine lv_iadd C.x C.b d_MD_boxOf_67 ?_
        refine k_top (y := nI 10) (nI_add _ _) ?_
        refine lv_bipush (v := nI 8) C.x C.b d_MD_boxOf_68 (by decide) ?_
        refine lv_irem C.x C.b d_MD_boxOf_70 (by decide) ?_
        refine k_top (y := nI 2) (by decide) ?_
        refine lv_ishr C.x C.b d_MD_boxOf_71 ?_
        refine lv_ixor C.x C.b d_MD_boxOf_72 ?_
        refine lv_iload_n C.x C.b d_MD_boxOf_73 rfl (lv_at hl 4 rfl) ?_
        refine lv_iload_n C.x C.b d_MD_boxOf_74 rfl (lv_at hl 0 rfl) ?_
        refine lv_bipush (v := nI 7) C.x C.b d_MD_boxOf_75 (by decide) ?_
        refine lv_iadd C.x C.b d_MD_boxOf_77 ?_
        refine k_top (y := nI 11) (nI_add _ _) ?_
        refine lv_bipush (v := nI 8) C.x C.b d_MD_boxOf_78 (by decide) ?_
        refine lv_irem C.x C.b d_MD_boxOf_80 (by decide) ?_
        refine k_top (y := nI 3) (by decide) ?_
        refine lv_ishr C.x C.b d_MD_boxOf_81 ?_
        refine lv_ixor C.x C.b d_MD_boxOf_82 ?_
        refine lv_bipush (v := nI 99) C.x C.b d_MD_boxOf_83 (by decide) ?_
        refine lv_iload_n C.x C.b d_MD_boxOf_85 rfl (lv_at hl 0 rfl) ?_
        refine lv_ishr C.x C.b d_MD_boxOf_86 ?_
        refine lv_ixor C.x C.b d_MD_boxOf_87 ?_
        refine lv_istore (lv' := [(4, .int ((((((c9 >>> ((nI 4) &&& 31)) ^^^ (c9 >>> ((nI 0) &&& 31))) ^^^ (c9 >>> ((nI 1) &&& 31))) ^^^ (c9 >>> ((nI 2) &&& 31))) ^^^ (c9 >>> ((nI 3) &&& 31))) ^^^ ((nI 99) >>> ((nI 4) &&& 31)))), (3, .int (nI 4)), (2, .int (((((nI 0) ||| ((((((((c9 >>> ((nI 0) &&& 31)) ^^^ (c9 >>> ((nI 4) &&& 31))) ^^^ (c9 >>> ((nI 5) &&& 31))) ^^^ (c9 >>> ((nI 6) &&& 31))) ^^^ (c9 >>> ((nI 7) &&& 31))) ^^^ ((nI 99) >>> ((nI 0) &&& 31))) &&& (nI 1)) <<< ((nI 0) &&& 31))) ||| ((((((((c9 >>> ((nI 1) &&& 31)) ^^^ (c9 >>> ((nI 5) &&& 31))) ^^^ (c9 >>> ((nI 6) &&& 31))) ^^^ (c9 >>> ((nI 7) &&& 31))) ^^^ (c9 >>> ((nI 0) &&& 31))) ^^^ ((nI 99) >>> ((nI 1) &&& 31))) &&& (nI 1)) <<< ((nI 1) &&& 31))) ||| ((((((((c9 >>> ((nI 2) &&& 31)) ^^^ (c9 >>> ((nI 6) &&& 31))) ^^^ (c9 >>> ((nI 7) &&& 31))) ^^^ (c9 >>> ((nI 0) &&& 31))) ^^^ (c9 >>> ((nI 1) &&& 31))) ^^^ ((nI 99) >>> ((nI 2) &&& 31))) &&& (nI 1)) <<< ((nI 2) &&& 31))) ||| ((((((((c9 >>> ((nI 3) &&& 31)) ^^^ (c9 >>> ((nI 7) &&& 31))) ^^^ (c9 >>> ((nI 0) &&& 31))) ^^^ (c9 >>> ((nI 1) &&& 31))) ^^^ (c9 >>> ((nI 2) &&& 31))) ^^^ ((nI 99) >>> ((nI 3) &&& 31))) &&& (nI 1)) <<< ((nI 3) &&& 31)))), (0, .int (nI bb)), (1, .int c9)]) C.x C.b d_MD_boxOf_88 hl (by decide) rfl (fun ls hl => ?_)
        refine lv_iload_n C.x C.b d_MD_boxOf_90 rfl (lv_at hl 2 rfl) ?_
        refine lv_iload C.x C.b d_MD_boxOf_91 (lv_at hl 0 rfl) ?_
        refine lv_iconst (v := nI 1) C.x C.b d_MD_boxOf_93 (by decide) ?_
        refine lv_iand C.x C.b d_MD_boxOf_94 ?_
        refine lv_iload_n C.x C.b d_MD_boxOf_95 rfl (lv_at hl 1 rfl) ?_
        refine lv_ishl C.x C.b d_MD_boxOf_96 ?_
        refine lv_ior C.x C.b d_MD_boxOf_97 ?_
        refine lv_istore_n (lv' := [(2, .int ((((((nI 0) ||| ((((((((c9 >>> ((nI 0) &&& 31)) ^^^ (c9 >>> ((nI 4) &&& 31))) ^^^ (c9 >>> ((nI 5) &&& 31))) ^^^ (c9 >>> ((nI 6) &&& 31))) ^^^ (c9 >>> ((nI 7) &&& 31))) ^^^ ((nI 99) >>> ((nI 0) &&& 31))) &&& (nI 1)) <<< ((nI 0) &&& 31))) ||| ((((((((c9 >>> ((nI 1) &&& 31)) ^^^ (c9 >>> ((nI 5) &&& 31))) ^^^ (c9 >>> ((nI 6) &&& 31))) ^^^ (c9 >>> ((nI 7) &&& 31))) ^^^ (c9 >>> ((nI 0) &&& 31))) ^^^ ((nI 99) >>> ((nI 1) &&& 31))) &&& (nI 1)) <<< ((nI 1) &&& 31))) ||| ((((((((c9 >>> ((nI 2) &&& 31)) ^^^ (c9 >>> ((nI 6) &&& 31))) ^^^ (c9 >>> ((nI 7) &&& 31))) ^^^ (c9 >>> ((nI 0) &&& 31))) ^^^ (c9 >>> ((nI 1) &&& 31))) ^^^ ((nI 99) >>> ((nI 2) &&& 31))) &&& (nI 1)) <<< ((nI 2) &&& 31))) ||| ((((((((c9 >>> ((nI 3) &&& 31)) ^^^ (c9 >>> ((nI 7) &&& 31))) ^^^ (c9 >>> ((nI 0) &&& 31))) ^^^ (c9 >>> ((nI 1) &&& 31))) ^^^ (c9 >>> ((nI 2) &&& 31))) ^^^ ((nI 99) >>> ((nI 3) &&& 31))) &&& (nI 1)) <<< ((nI 3) &&& 31))) ||| ((((((((c9 >>> ((nI 4) &&& 31)) ^^^ (c9 >>> ((nI 0) &&& 31))) ^^^ (c9 >>> ((nI 1) &&& 31))) ^^^ (c9 >>> ((nI 2) &&& 31))) ^^^ (c9 >>> ((nI 3) &&& 31))) ^^^ ((nI 99) >>> ((nI 4) &&& 31))) &&& (nI 1)) <<< ((nI 4) &&& 31)))), (4, .int ((((((c9 >>> ((nI 4) &&& 31)) ^^^ (c9 >>> ((nI 0) &&& 31))) ^^^ (c9 >>> ((nI 1) &&& 31))) ^^^ (c9 >>> ((nI 2) &&& 31))) ^^^ (c9 >>> ((nI 3) &&& 31))) ^^^ ((nI 99) >>> ((nI 4) &&& 31)))), (3, .int (nI 4)), (0, .int (nI bb)), (1, .int c9)]) C.x C.b d_MD_boxOf_98 rfl hl (by decide) rfl (fun ls hl => ?_)
        refine lv_iinc (v := nI 5) (lv' := [(3, .int (nI 5)), (2, .int ((((((nI 0) ||| ((((((((c9 >>> ((nI 0) &&& 31)) ^^^ (c9 >>> ((nI 4) &&& 31))) ^^^ (c9 >>> ((nI 5) &&& 31))) ^^^ (c9 >>> ((nI 6) &&& 31))) ^^^ (c9 >>> ((nI 7) &&& 31))) ^^^ ((nI 99) >>> ((nI 0) &&& 31))) &&& (nI 1)) <<< ((nI 0) &&& 31))) ||| ((((((((c9 >>> ((nI 1) &&& 31)) ^^^ (c9 >>> ((nI 5) &&& 31))) ^^^ (c9 >>> ((nI 6) &&& 31))) ^^^ (c9 >>> ((nI 7) &&& 31))) ^^^ (c9 >>> ((nI 0) &&& 31))) ^^^ ((nI 99) >>> ((nI 1) &&& 31))) &&& (nI 1)) <<< ((nI 1) &&& 31))) ||| ((((((((c9 >>> ((nI 2) &&& 31)) ^^^ (c9 >>> ((nI 6) &&& 31))) ^^^ (c9 >>> ((nI 7) &&& 31))) ^^^ (c9 >>> ((nI 0) &&& 31))) ^^^ (c9 >>> ((nI 1) &&& 31))) ^^^ ((nI 99) >>> ((nI 2) &&& 31))) &&& (nI 1)) <<< ((nI 2) &&& 31))) ||| ((((((((c9 >>> ((nI 3) &&& 31)) ^^^ (c9 >>> ((nI 7) &&& 31))) ^^^ (c9 >>> ((nI 0) &&& 31))) ^^^ (c9 >>> ((nI 1) &&& 31))) ^^^ (c9 >>> ((nI 2) &&& 31))) ^^^ ((nI 99) >>> ((nI 3) &&& 31))) &&& (nI 1)) <<< ((nI 3) &&& 31))) ||| ((((((((c9 >>> ((nI 4) &&& 31)) ^^^ (c9 >>> ((nI 0) &&& 31))) ^^^ (c9 >>> ((nI 1) &&& 31))) ^^^ (c9 >>> ((nI 2) &&& 31))) ^^^ (c9 >>> ((nI 3) &&& 31))) ^^^ ((nI 99) >>> ((nI 4) &&& 31))) &&& (nI 1)) <<< ((nI 4) &&& 31)))), (4, .int ((((((c9 >>> ((nI 4) &&& 31)) ^^^ (c9 >>> ((nI 0) &&& 31))) ^^^ (c9 >>> ((nI 1) &&& 31))) ^^^ (c9 >>> ((nI 2) &&& 31))) ^^^ (c9 >>> ((nI 3) &&& 31))) ^^^ ((nI 99) >>> ((nI 4) &&& 31)))), (0, .int (nI bb)), (1, .int c9)]) C.x C.b d_MD_boxOf_99 hl (k := 2) rfl (by decide) (by decide) rfl (fun ls hl => ?_)
        refine lv_goto (tgt := 36) C.x C.b d_MD_boxOf_102 (by decide) ?_
        refine lv_iload_n C.x C.b d_MD_boxOf_36 rfl (lv_at hl 0 rfl) ?_
        refine lv_bipush (v := nI 8) C.x C.b d_MD_boxOf_37 (by decide) ?_
        refine lv_icmp_ge (tgt := 105) C.x C.b d_MD_boxOf_39 (by decide) (fun h9 => by first | exact absurd h9 (by decide) | exact absurd (by decide) h9) (fun _ => ?_)
        refine lv_iload_n C.x C.b d_MD_boxOf_42 rfl (lv_at hl 4 rfl) ?_
        refine lv_iload_n C.x C.b d_MD_boxOf_43 rfl (lv_at hl 0 rfl) ?_
        refine lv_ishr C.x C.b d_MD_boxOf_44 ?_
        refine lv_iload_n C.x C.b d_MD_boxOf_45 rfl (lv_at hl 4 rfl) ?_
        refine lv_iload_n C.x C.b d_MD_boxOf_46 rfl (lv_at hl 0 rfl) ?_
        refine lv_iconst (v := nI 4) C.x C.b d_MD_boxOf_47 (by decide) ?_
        refine lv_iadd C.x C.b d_MD_boxOf_48 ?_
        refine k_top (y := nI 9) (nI_add _ _) ?_
        refine lv_bipush (v := nI 8) C.x C.b d_MD_boxOf_49 (by decide) ?_
        refine lv_irem C.x C.b d_MD_boxOf_51 (by decide) ?_
        refine k_top (y := nI 1) (by decide) ?_
        refine lv_ishr C.x C.b d_MD_boxOf_52 ?_
        refine lv_ixor C.x C.b d_MD_boxOf_53 ?_
        refine lv_iload_n C.x C.b d_MD_boxOf_54 rfl (lv_at hl 4 rfl) ?_
        refine lv_iload_n C.x C.b d_MD_boxOf_55 rfl (lv_at hl 0 rfl) ?_
        refine lv_iconst (v := nI 5) C.x C.b d_MD_boxOf_56 (by decide) ?_
        refine lv_iadd C.x C.b d_MD_boxOf_57 ?_
        refine k_top (y := nI 10) (nI_add _ _) ?_
        refine lv_bipush (v := nI 8) C.x C.b d_MD_boxOf_58 (by decide) ?_
        refine lv_irem C.x C.b d_MD_boxOf_60 (by decide) ?_
        refine k_top (y := nI 2) (by decide) ?_
        refine lv_ishr C.x C.b d_MD_boxOf_61 ?_
        refine lv_ixor C.x C.b d_MD_boxOf_62 ?_
        refine lv_iload_n C.x C.b d_MD_boxOf_63 rfl (lv_at hl 4 rfl) ?_
        refine lv_iload_n C.x C.b d_MD_boxOf_64 rfl (lv_at hl 0 rfl) ?_
        refine lv_bipush (v := nI 6) C.x C.b d_MD_boxOf_65 (by decide) ?_
        refine lv_iadd C.x C.b d_MD_boxOf_67 ?_
        refine k_top (y := nI 11) (nI_add _ _) ?_
        refine lv_bipush (v := nI 8) C.x C.b d_MD_boxOf_68 (by decide) ?_
        refine lv_irem C.x C.b d_MD_boxOf_70 (by decide) ?_
        refine k_top (y := nI 3) (by decide) ?_
        refine lv_ishr C.x C.b d_MD_boxOf_71 ?_
        refine lv_ixor C.x C.b d_MD_boxOf_72 ?_
        refine lv_iload_n C.x C.b d_MD_boxOf_73 rfl (lv_at hl 4 rfl) ?_
        refine lv_iload_n C.x C.b d_MD_boxOf_74 rfl (lv_at hl 0 rfl) ?_
        refine lv_bipush (v := nI 7) C.x C.b d_MD_boxOf_75 (by decide) ?_
        refine lv_iadd C.x C.b d_MD_boxOf_77 ?_
        refine k_top (y := nI 12) (nI_add _ _) ?_
        refine lv_bipush (v := nI 8) C.x C.b d_MD_boxOf_78 (by decide) ?_
        refine lv_irem C.x C.b d_MD_boxOf_80 (by decide) ?_
        refine k_top (y := nI 4) (by decide) ?_
        refine lv_ishr C.x C.b d_MD_boxOf_81 ?_
        refine lv_ixor C.x C.b d_MD_boxOf_82 ?_
        refine lv_bipush (v := nI 99) C.x C.b d_MD_boxOf_83 (by decide) ?_
        refine lv_iload_n C.x C.b d_MD_boxOf_85 rfl (lv_at hl 0 rfl) ?_
        refine lv_ishr C.x C.b d_MD_boxOf_86 ?_
        refine lv_ixor C.x C.b d_MD_boxOf_87 ?_
        refine lv_istore (lv' := [(4, .int ((((((c9 >>> ((nI 5) &&& 31)) ^^^ (c9 >>> ((nI 1) &&& 31))) ^^^ (c9 >>> ((nI 2) &&& 31))) ^^^ (c9 >>> ((nI 3) &&& 31))) ^^^ (c9 >>> ((nI 4) &&& 31))) ^^^ ((nI 99) >>> ((nI 5) &&& 31)))), (3, .int (nI 5)), (2, .int ((((((nI 0) ||| ((((((((c9 >>> ((nI 0) &&& 31)) ^^^ (c9 >>> ((nI 4) &&& 31))) ^^^ (c9 >>> ((nI 5) &&& 31))) ^^^ (c9 >>> ((nI 6) &&& 31))) ^^^ (c9 >>> ((nI 7) &&& 31))) ^^^ ((nI 99) >>> ((nI 0) &&& 31))) &&& (nI 1)) <<< ((nI 0) &&& 31))) ||| ((((((((c9 >>> ((nI 1) &&& 31)) ^^^ (c9 >>> ((nI 5) &&& 31))) ^^^ (c9 >>> ((nI 6) &&& 31))) ^^^ (c9 >>> ((nI 7) &&& 31))) ^^^ (c9 >>> ((nI 0) &&& 31))) ^^^ ((nI 99) >>> ((nI 1) &&& 31))) &&& (nI 1)) <<< ((nI 1) &&& 31))) ||| ((((((((c9 >>> ((nI 2) &&& 31)) ^^^ (c9 >>> ((nI 6) &&& 31))) ^^^ (c9 >>> ((nI 7) &&& 31))) ^^^ (c9 >>> ((nI 0) &&& 31))) ^^^ (c9 >>> ((nI 1) &&& 31))) ^^^ ((nI 99) >>> ((nI 2) &&& 31))) &&& (nI 1)) <<< ((nI 2) &&& 31))) ||| ((((((((c9 >>> ((nI 3) &&& 31)) ^^^ (c9 >>> ((nI 7) &&& 31))) ^^^ (c9 >>> ((nI 0) &&& 31))) ^^^ (c9 >>> ((nI 1) &&& 31))) ^^^ (c9 >>> ((nI 2) &&& 31))) ^^^ ((nI 99) >>> ((nI 3) &&& 31))) &&& (nI 1)) <<< ((nI 3) &&& 31))) ||| ((((((((c9 >>> ((nI 4) &&& 31)) ^^^ (c9 >>> ((nI 0) &&& 31))) ^^^ (c9 >>> ((nI 1) &&& 31))) ^^^ (c9 >>> ((nI 2) &&& 31))) ^^^ (c9 >>> ((nI 3) &&& 31))) ^^^ ((nI 99) >>> ((nI 4) &&& 31))) &&& (nI 1)) <<< ((nI 4) &&& 31)))), (0, .int (nI bb)), (1, .int c9)]) C.x C.b d_MD_boxOf_88 hl (by decide) rfl (fun ls hl => ?_)
        refine lv_iload_n C.x C.b d_MD_boxOf_90 rfl (lv_at hl 2 rfl) ?_
        refine lv_iload C.x C.b d_MD_boxOf_91 (lv_at hl 0 rfl) ?_
        refine lv_iconst (v := nI 1) C.x C.b d_MD_boxOf_93 (by decide) ?_
        refine lv_iand C.x C.b d_MD_boxOf_94 ?_
        refine lv_iload_n C.x C.b d_MD_boxOf_95 rfl (lv_at hl 1 rfl) ?_
        refine lv_ishl C.x C.b d_MD_boxOf_96 ?_
        refine lv_ior C.x C.b d_MD_boxOf_97 ?_
        refine lv_istore_n (lv' := [(2, .int (((((((nI 0) ||| ((((((((c9 >>> ((nI 0) &&& 31)) ^^^ (c9 >>> ((nI 4) &&& 31))) ^^^ (c9 >>> ((nI 5) &&& 31))) ^^^ (c9 >>> ((nI 6) &&& 31))) ^^^ (c9 >>> ((nI 7) &&& 31))) ^^^ ((nI 99) >>> ((nI 0) &&& 31))) &&& (nI 1)) <<< ((nI 0) &&& 31))) ||| ((((((((c9 >>> ((nI 1) &&& 31)) ^^^ (c9 >>> ((nI 5) &&& 31))) ^^^ (c9 >>> ((nI 6) &&& 31))) ^^^ (c9 >>> ((nI 7) &&& 31))) ^^^ (c9 >>> ((nI 0) &&& 31))) ^^^ ((nI 99) >>> ((nI 1) &&& 31))) &&& (nI 1)) <<< ((nI 1) &&& 31))) ||| ((((((((c9 >>> ((nI 2) &&& 31)) ^^^ (c9 >>> ((nI 6) &&& 31))) ^^^ (c9 >>> ((nI 7) &&& 31))) ^^^ (c9 >>> ((nI 0) &&& 31))) ^^^ (c9 >>> ((nI 1) &&& 31))) ^^^ ((nI 99) >>> ((nI 2) &&& 31))) &&& (nI 1)) <<< ((nI 2) &&& 31))) ||| ((((((((c9 >>> ((nI 3) &&& 31)) ^^^ (c9 >>> ((nI 7) &&& 31))) ^^^ (c9 >>> ((nI 0) &&& 31))) ^^^ (c9 >>> ((nI 1) &&& 31))) ^^^ (c9 >>> ((nI 2) &&& 31))) ^^^ ((nI 99) >>> ((nI 3) &&& 31))) &&& (nI 1)) <<< ((nI 3) &&& 31))) ||| ((((((((c9 >>> ((nI 4) &&& 31)) ^^^ (c9 >>> ((nI 0) &&& 31))) ^^^ (c9 >>> ((nI 1) &&& 31))) ^^^ (c9 >>> ((nI 2) &&& 31))) ^^^ (c9 >>> ((nI 3) &&& 31))) ^^^ ((nI 99) >>> ((nI 4) &&& 31))) &&& (nI 1)) <<< ((nI 4) &&& 31))) ||| ((((((((c9 >>> ((nI 5) &&& 31)) ^^^ (c9 >>> ((nI 1) &&& 31))) ^^^ (c9 >>> ((nI 2) &&& 31))) ^^^ (c9 >>> ((nI 3) &&& 31))) ^^^ (c9 >>> ((nI 4) &&& 31))) ^^^ ((nI 99) >>> ((nI 5) &&& 31))) &&& (nI 1)) <<< ((nI 5) &&& 31)))), (4, .int ((((((c9 >>> ((nI 5) &&& 31)) ^^^ (c9 >>> ((nI 1) &&& 31))) ^^^ (c9 >>> ((nI 2) &&& 31))) ^^^ (c9 >>> ((nI 3) &&& 31))) ^^^ (c9 >>> ((nI 4) &&& 31))) ^^^ ((nI 99) >>> ((nI 5) &&& 31)))), (3, .int (nI 5)), (0, .int (nI bb)), (1, .int c9)]) C.x C.b d_MD_boxOf_98 rfl hl (by decide) rfl (fun ls hl => ?_)
        refine lv_iinc (v := nI 6) (lv' := [(3, .int (nI 6)), (2, .int (((((((nI 0) ||| ((((((((c9 >>> ((nI 0) &&& 31)) ^^^ (c9 >>> ((nI 4) &&& 31))) ^^^ (c9 >>> ((nI 5) &&& 31))) ^^^ (c9 >>> ((nI 6) &&& 31))) ^^^ (c9 >>> ((nI 7) &&& 31))) ^^^ ((nI 99) >>> ((nI 0) &&& 31))) &&& (nI 1)) <<< ((nI 0) &&& 31))) ||| ((((((((c9 >>> ((nI 1) &&& 31)) ^^^ (c9 >>> ((nI 5) &&& 31))) ^^^ (c9 >>> ((nI 6) &&& 31))) ^^^ (c9 >>> ((nI 7) &&& 31))) ^^^ (c9 >>> ((nI 0) &&& 31))) ^^^ ((nI 99) >>> ((nI 1) &&& 31))) &&& (nI 1)) <<< ((nI 1) &&& 31))) ||| ((((((((c9 >>> ((nI 2) &&& 31)) ^^^ (c9 >>> ((nI 6) &&& 31))) ^^^ (c9 >>> ((nI 7) &&& 31))) ^^^ (c9 >>> ((nI 0) &&& 31))) ^^^ (c9 >>> ((nI 1) &&& 31))) ^^^ ((nI 99) >>> ((nI 2) &&& 31))) &&& (nI 1)) <<< ((nI 2) &&& 31))) ||| ((((((((c9 >>> ((nI 3) &&& 31)) ^^^ (c9 >>> ((nI 7) &&& 31))) ^^^ (c9 >>> ((nI 0) &&& 31))) ^^^ (c9 >>> ((nI 1) &&& 31))) ^^^ (c9 >>> ((nI 2) &&& 31))) ^^^ ((nI 99) >>> ((nI 3) &&& 31))) &&& (nI 1)) <<< ((nI 3) &&& 31))) ||| ((((((((c9 >>> ((nI 4) &&& 31)) ^^^ (c9 >>> ((nI 0) &&& 31))) ^^^ (c9 >>> ((nI 1) &&& 31))) ^^^ (c9 >>> ((nI 2) &&& 31))) ^^^ (c9 >>> ((nI 3) &&& 31))) ^^^ ((nI 99) >>> ((nI 4) &&& 31))) &&& (nI 1)) <<< ((nI 4) &&& 31))) ||| ((((((((c9 >>> ((nI 5) &&& 31)) ^^^ (c9 >>> ((nI 1) &&& 31))) ^^^ (c9 >>> ((nI 2) &&& 31))) ^^^ (c9 >>> ((nI 3) &&& 31))) ^^^ (c9 >>> ((nI 4) &&& 31))) ^^^ ((nI 99) >>> ((nI 5) &&& 31))) &&& (nI 1)) <<< ((nI 5) &&& 31)))), (4, .int ((((((c9 >>> ((nI 5) &&& 31)) ^^^ (c9 >>> ((nI 1) &&& 31))) ^^^ (c9 >>> ((nI 2) &&& 31))) ^^^ (c9 >>> ((nI 3) &&& 31))) ^^^ (c9 >>> ((nI 4) &&& 31))) ^^^ ((nI 99) >>> ((nI 5) &&& 31)))), (0, .int (nI bb)), (1, .int c9)]) C.x C.b d_MD_boxOf_99 hl (k := 2) rfl (by decide) (by decide) rfl (fun ls hl => ?_)
        refine lv_goto (tgt := 36) C.x C.b d_MD_boxOf_102 (by decide) ?_
        refine lv_iload_n C.x C.b d_MD_boxOf_36 rfl (lv_at hl 0 rfl) ?_
        refine lv_bipush (v := nI 8) C.x C.b d_MD_boxOf_37 (by decide) ?_
        refine lv_icmp_ge (tgt := 105) C.x C.b d_MD_boxOf_39 (by decide) (fun h9 => by first | exact absurd h9 (by decide) | exact absurd (by decide) h9) (fun _ => ?_)
        refine lv_iload_n C.x C.b d_MD_boxOf_42 rfl (lv_at hl 4 rfl) ?_
        refine lv_iload_n C.x C.b d_MD_boxOf_43 rfl (lv_at hl 0 rfl) ?_
        refine lv_ishr C.x C.b d_MD_boxOf_44 ?_
        refine lv_iload_n C.x C.b d_MD_boxOf_45 rfl (lv_at hl 4 rfl) ?_
        refine lv_iload_n C.x C.b d_MD_boxOf_46 rfl (lv_at hl 0 rfl) ?_
        refine lv_iconst (v := nI 4) C.x C.b d_MD_boxOf_47 (by decide) ?_
        refine lv_iadd C.x C.b d_MD_boxOf_48 ?_
        refine k_top (y := nI 10) (nI_add _ _) ?_
        refine lv_bipush (v := nI 8) C.x C.b d_MD_boxOf_49 (by decide) ?_
        refine lv_irem C.x C.b d_MD_boxOf_51 (by decide) ?_
        refine k_top (y := nI 2) (by decide) ?_
        refine lv_ishr C.x C.b d_MD_boxOf_52 ?_
        refine lv_ixor C.x C.b d_MD_boxOf_53 ?_
        refine lv_iload_n C.x C.b d_MD_boxOf_54 rfl (lv_at hl 4 rfl) ?_
        refine lv_iload_n C.x C.b d_MD_boxOf_55 rfl (lv_at hl 0 rfl) ?_
        refine lv_iconst (v := nI 5) C.x C.b d_MD_boxOf_56 (by decide) ?_
        refine lv_iadd C.x C.b d_MD_boxOf_57 ?_
        refine k_top (y := nI 11) (nI_add _ _) ?_
        refine lv_bipush (v := nI 8) C.x C.b d_MD_boxOf_58 (by decide) ?_
        refine lv_irem C.x C.b d_MD_boxOf_60 (by decide) ?_
        refine k_top (y := nI 3) (by decide) ?_
        refine lv_ishr C.x C.b d_MD_boxOf_61 ?_
        refine lv_ixor C.x C.b d_MD_boxOf_62 ?_
        refine lv_iload_n C.x C.b d_MD_boxOf_63 rfl (lv_at hl 4 rfl) ?_
        refine lv_iload_n C.x C.b d_MD_boxOf_64 rfl (lv_at hl 0 rfl) ?_
        refine lv_bipush (v := nI 6) C.x C.b d_MD_boxOf_65 (by decide) ?_
        refine lv_iadd C.x C.b d_MD_boxOf_67 ?_
        refine k_top (y := nI 12) (nI_add _ _) ?_
        refine lv_bipush (v := nI 8) C.x C.b d_MD_boxOf_68 (by decide) ?_
        refine lv_irem C.x C.b d_MD_boxOf_70 (by decide) ?_
        refine k_top (y := nI 4) (by decide) ?_
        refine lv_ishr C.x C.b d_MD_boxOf_71 ?_
        refine lv_ixor C.x C.b d_MD_boxOf_72 ?_
        refine lv_iload_n C.x C.b d_MD_boxOf_73 rfl (lv_at hl 4 rfl) ?_
        refine lv_iload_n C.x C.b d_MD_boxOf_74 rfl (lv_at hl 0 rfl) ?_
        refine lv_bipush (v := nI 7) C.x C.b d_MD_boxOf_75 (by decide) ?_
        refine lv_iadd C.x C.b d_MD_boxOf_77 ?_
        refine k_top (y := nI 13) (nI_add _ _) ?_
        refine lv_bipush (v := nI 8) C.x C.b d_MD_boxOf_78 (by decide) ?_
        refine lv_irem C.x C.b d_MD_boxOf_80 (by decide) ?_
        refine k_top (y := nI 5) (by decide) ?_
        refine lv_ishr C.x C.b d_MD_boxOf_81 ?_
        refine lv_ixor C.x C.b d_MD_boxOf_82 ?_
        refine lv_bipush (v := nI 99) C.x C.b d_MD_boxOf_83 (by decide) ?_
        refine lv_iload_n C.x C.b d_MD_boxOf_85 rfl (lv_at hl 0 rfl) ?_
        refine lv_ishr C.x C.b d_MD_boxOf_86 ?_
        refine lv_ixor C.x C.b d_MD_boxOf_87 ?_
        refine lv_istore (lv' := [(4, .int ((((((c9 >>> ((nI 6) &&& 31)) ^^^ (c9 >>> ((nI 2) &&& 31))) ^^^ (c9 >>> ((nI 3) &&& 31))) ^^^ (c9 >>> ((nI 4) &&& 31))) ^^^ (c9 >>> ((nI 5) &&& 31))) ^^^ ((nI 99) >>> ((nI 6) &&& 31)))), (3, .int (nI 6)), (2, .int (((((((nI 0) ||| ((((((((c9 >>> ((nI 0) &&& 31)) ^^^ (c9 >>> ((nI 4) &&& 31))) ^^^ (c9 >>> ((nI 5) &&& 31))) ^^^ (c9 >>> ((nI 6) &&& 31))) ^^^ (c9 >>> ((nI 7) &&& 31))) ^^^ ((nI 99) >>> ((nI 0) &&& 31))) &&& (nI 1)) <<< ((nI 0) &&& 31))) ||| ((((((((c9 >>> ((nI 1) &&& 31)) ^^^ (c9 >>> ((nI 5) &&& 31))) ^^^ (c9 >>> ((nI 6) &&& 31))) ^^^ (c9 >>> ((nI 7) &&& 31))) ^^^ (c9 >>> ((nI 0) &&& 31))) ^^^ ((nI 99) >>> ((nI 1) &&& 31))) &&& (nI 1)) <<< ((nI 1) &&& 31))) ||| ((((((((c9 >>> ((nI 2) &&& 31)) ^^^ (c9 >>> ((nI 6) &&& 31))) ^^^ (c9 >>> ((nI 7) &&& 31))) ^^^ (c9 >>> ((nI 0) &&& 31))) ^^^ (c9 >>> ((nI 1) &&& 31))) ^^^ ((nI 99) >>> ((nI 2) &&& 31))) &&& (nI 1)) <<< ((nI 2) &&& 31))) ||| ((((((((c9 >>> ((nI 3) &&& 31)) ^^^ (c9 >>> ((nI 7) &&& 31))) ^^^ (c9 >>> ((nI 0) &&& 31))) ^^^ (c9 >>> ((nI 1) &&& 31))) ^^^ (c9 >>> ((nI 2) &&& 31))) ^^^ ((nI 99) >>> ((nI 3) &&& 31))) &&& (nI 1)) <<< ((nI 3) &&& 31))) ||| ((((((((c9 >>> ((nI 4) &&& 31)) ^^^ (c9 >>> ((nI 0) &&& 31))) ^^^ (c9 >>> ((nI 1) &&& 31))) ^^^ (c9 >>> ((nI 2) &&& 31))) ^^^ (c9 >>> ((nI 3) &&& 31))) ^^^ ((nI 99) >>> ((nI 4) &&& 31))) &&& (nI 1)) <<< ((nI 4) &&& 31))) ||| ((((((((c9 >>> ((nI 5) &&& 31)) ^^^ (c9 >>> ((nI 1) &&& 31))) ^^^ (c9 >>> ((nI 2) &&& 31))) ^^^ (c9 >>> ((nI 3) &&& 31))) ^^^ (c9 >>> ((nI 4) &&& 31))) ^^^ ((nI 99) >>> ((nI 5) &&& 31))) &&& (nI 1)) <<< ((nI 5) &&& 31)))), (0, .int (nI bb)), (1, .int c9)]) C.x C.b d_MD_boxOf_88 hl (by decide) rfl (fun ls hl => ?_)
        refine lv_iload_n C.x C.b d_MD_boxOf_90 rfl (lv_at hl 2 rfl) ?_
        refine lv_iload C.x C.b d_MD_boxOf_91 (lv_at hl 0 rfl) ?_
        refine lv_iconst (v := nI 1) C.x C.b d_MD_boxOf_93 (by decide) ?_
        refine lv_iand C.x C.b d_MD_boxOf_94 ?_
        refine lv_iload_n C.x C.b d_MD_boxOf_95 rfl (lv_at hl 1 rfl) ?_
        refine lv_ishl C.x C.b d_MD_boxOf_96 ?_
        refine lv_ior C.x C.b d_MD_boxOf_97 ?_
        refine lv_istore_n (lv' := [(2, .int ((((((((nI 0) ||| ((((((((c9 >>> ((nI 0) &&& 31)) ^^^ (c9 >>> ((nI 4) &&& 31))) ^^^ (c9 >>> ((nI 5) &&& 31))) ^^^ (c9 >>> ((nI 6) &&& 31))) ^^^ (c9 >>> ((nI 7) &&& 31))) ^^^ ((nI 99) >>> ((nI 0) &&& 31))) &&& (nI 1)) <<< ((nI 0) &&& 31))) ||| ((((((((c9 >>> ((nI 1) &&& 31)) ^^^ (c9 >>> ((nI 5) &&& 31))) ^^^ (c9 >>> ((nI 6) &&& 31))) ^^^ (c9 >>> ((nI 7) &&& 31))) ^^^ (c9 >>> ((nI 0) &&& 31))) ^^^ ((nI 99) >>> ((nI 1) &&& 31))) &&& (nI 1)) <<< ((nI 1) &&& 31))) ||| ((((((((c9 >>> ((nI 2) &&& 31)) ^^^ (c9 >>> ((nI 6) &&& 31))) ^^^ (c9 >>> ((nI 7) &&& 31))) ^^^ (c9 >>> ((nI 0) &&& 31))) ^^^ (c9 >>> ((nI 1) &&& 31))) ^^^ ((nI 99) >>> ((nI 2) &&& 31))) &&& (nI 1)) <<< ((nI 2) &&& 31))) ||| ((((((((c9 >>> ((nI 3) &&& 31)) ^^^ (c9 >>> ((nI 7) &&& 31))) ^^^ (c9 >>> ((nI 0) &&& 31))) ^^^ (c9 >>> ((nI 1) &&& 31))) ^^^ (c9 >>> ((nI 2) &&& 31))) ^^^ ((nI 99) >>> ((nI 3) &&& 31))) &&& (nI 1)) <<< ((nI 3) &&& 31))) ||| ((((((((c9 >>> ((nI 4) &&& 31)) ^^^ (c9 >>> ((nI 0) &&& 31))) ^^^ (c9 >>> ((nI 1) &&& 31))) ^^^ (c9 >>> ((nI 2) &&& 31))) ^^^ (c9 >>> ((nI 3) &&& 31))) ^^^ ((nI 99) >>> ((nI 4) &&& 31))) &&& (nI 1)) <<< ((nI 4) &&& 31))) ||| ((((((((c9 >>> ((nI 5) &&& 31)) ^^^ (c9 >>> ((nI 1) &&& 31))) ^^^ (c9 >>> ((nI 2) &&& 31))) ^^^ (c9 >>> ((nI 3) &&& 31))) ^^^ (c9 >>> ((nI 4) &&& 31))) ^^^ ((nI 99) >>> ((nI 5) &&& 31))) &&& (nI 1)) <<< ((nI 5) &&& 31))) ||| ((((((((c9 >>> ((nI 6) &&& 31)) ^^^ (c9 >>> ((nI 2) &&& 31))) ^^^ (c9 >>> ((nI 3) &&& 31))) ^^^ (c9 >>> ((nI 4) &&& 31))) ^^^ (c9 >>> ((nI 5) &&& 31))) ^^^ ((nI 99) >>> ((nI 6) &&& 31))) &&& (nI 1)) <<< ((nI 6) &&& 31)))), (4, .int ((((((c9 >>> ((nI 6) &&& 31)) ^^^ (c9 >>> ((nI 2) &&& 31))) ^^^ (c9 >>> ((nI 3) &&& 31))) ^^^ (c9 >>> ((nI 4) &&& 31))) ^^^ (c9 >>> ((nI 5) &&& 31))) ^^^ ((nI 99) >>> ((nI 6) &&& 31)))), (3, .int (nI 6)), (0, .int (nI bb)), (1, .int c9)]) C.x C.b d_MD_boxOf_98 rfl hl (by decide) rfl (fun ls hl => ?_)
        refine lv_iinc (v := nI 7) (lv' := [(3, .int (nI 7)), (2, .int ((((((((nI 0) ||| ((((((((c9 >>> ((nI 0) &&& 31)) ^^^ (c9 >>> ((nI 4) &&& 31))) ^^^ (c9 >>> ((nI 5) &&& 31))) ^^^ (c9 >>> ((nI 6) &&& 31))) ^^^ (c9 >>> ((nI 7) &&& 31))) ^^^ ((nI 99) >>> ((nI 0) &&& 31))) &&& (nI 1)) <<< ((nI 0) &&& 31))) ||| ((((((((c9 >>> ((nI 1) &&& 31)) ^^^ (c9 >>> ((nI 5) &&& 31))) ^^^ (c9 >>> ((nI 6) &&& 31))) ^^^ (c9 >>> ((nI 7) &&& 31))) ^^^ (c9 >>> ((nI 0) &&& 31))) ^^^ ((nI 99) >>> ((nI 1) &&& 31))) &&& (nI 1)) <<< ((nI 1) &&& 31))) ||| ((((((((c9 >>> ((nI 2) &&& 31)) ^^^ (c9 >>> ((nI 6) &&& 31))) ^^^ (c9 >>> ((nI 7) &&& 31))) ^^^ (c9 >>> ((nI 0) &&& 31))) ^^^ (c9 >>> ((nI 1) &&& 31))) ^^^ ((nI 99) >>> ((nI 2) &&& 31))) &&& (nI 1)) <<< ((nI 2) &&& 31))) ||| ((((((((c9 >>> ((nI 3) &&& 31)) ^^^ (c9 >>> ((nI 7) &&& 31))) ^^^ (c9 >>> ((nI 0) &&& 31))) ^^^ (c9 >>> ((nI 1) &&& 31))) ^^^ (c9 >>> ((nI 2) &&& 31))) ^^^ ((nI 99) >>> ((nI 3) &&& 31))) &&& (nI 1)) <<< ((nI 3) &&& 31))) ||| ((((((((c9 >>> ((nI 4) &&& 31)) ^^^ (c9 >>> ((nI 0) &&& 31))) ^^^ (c9 >>> ((nI 1) &&& 31))) ^^^ (c9 >>> ((nI 2) &&& 31))) ^^^ (c9 >>> ((nI 3) &&& 31))) ^^^ ((nI 99) >>> ((nI 4) &&& 31))) &&& (nI 1)) <<< ((nI 4) &&& 31))) ||| ((((((((c9 >>> ((nI 5) &&& 31)) ^^^ (c9 >>> ((nI 1) &&& 31))) ^^^ (c9 >>> ((nI 2) &&& 31))) ^^^ (c9 >>> ((nI 3) &&& 31))) ^^^ (c9 >>> ((nI 4) &&& 31))) ^^^ ((nI 99) >>> ((nI 5) &&& 31))) &&& (nI 1)) <<< ((nI 5) &&& 31))) ||| ((((((((c9 >>> ((nI 6) &&& 31)) ^^^ (c9 >>> ((nI 2) &&& 31))) ^^^ (c9 >>> ((nI 3) &&& 31))) ^^^ (c9 >>> ((nI 4) &&& 31))) ^^^ (c9 >>> ((nI 5) &&& 31))) ^^^ ((nI 99) >>> ((nI 6) &&& 31))) &&& (nI 1)) <<< ((nI 6) &&& 31)))), (4, .int ((((((c9 >>> ((nI 6) &&& 31)) ^^^ (c9 >>> ((nI 2) &&& 31))) ^^^ (c9 >>> ((nI 3) &&& 31))) ^^^ (c9 >>> ((nI 4) &&& 31))) ^^^ (c9 >>> ((nI 5) &&& 31))) ^^^ ((nI 99) >>> ((nI 6) &&& 31)))), (0, .int (nI bb)), (1, .int c9)]) C.x C.b d_MD_boxOf_99 hl (k := 2) rfl (by decide) (by decide) rfl (fun ls hl => ?_)
        refine lv_goto (tgt := 36) C.x C.b d_MD_boxOf_102 (by decide) ?_
        refine lv_iload_n C.x C.b d_MD_boxOf_36 rfl (lv_at hl 0 rfl) ?_
        refine lv_bipush (v := nI 8) C.x C.b d_MD_boxOf_37 (by decide) ?_
        refine lv_icmp_ge (tgt := 105) C.x C.b d_MD_boxOf_39 (by decide) (fun h9 => by first | exact absurd h9 (by decide) | exact absurd (by decide) h9) (fun _ => ?_)
        refine lv_iload_n C.x C.b d_MD_boxOf_42 rfl (lv_at hl 4 rfl) ?_
        refine lv_iload_n C.x C.b d_MD_boxOf_43 rfl (lv_at hl 0 rfl) ?_
        refine lv_ishr C.x C.b d_MD_boxOf_44 ?_
        refine lv_iload_n C.x C.b d_MD_boxOf_45 rfl (lv_at hl 4 rfl) ?_
        refine lv_iload_n C.x C.b d_MD_boxOf_46 rfl (lv_at hl 0 rfl) ?_
        refine lv_iconst (v := nI 4) C.x C.b d_MD_boxOf_47 (by decide) ?_
        refine lv_iadd C.x C.b d_MD_boxOf_48 ?_
        refine k_top (y := nI 11) (nI_add _ _) ?_
        refine lv_bipush (v := nI 8) C.x C.b d_MD_boxOf_49 (by decide) ?_
        refine lv_irem C.x C.b d_MD_boxOf_51 (by decide) ?_
        refine k_top (y := nI 3) (by decide) ?_
        refine lv_ishr C.x C.b d_MD_boxOf_52 ?_
        refine lv_ixor C.x C.b d_MD_boxOf_53 ?_
        refine lv_iload_n C.x C.b d_MD_boxOf_54 rfl (lv_at hl 4 rfl) ?_
        refine lv_iload_n C.x C.b d_MD_boxOf_55 rfl (lv_at hl 0 rfl) ?_
        refine lv_iconst (v := nI 5) C.x C.b d_MD_boxOf_56 (by decide) ?_
        refine lv_iadd C.x C.b d_MD_boxOf_57 ?_
        refine k_top (y := nI 12) (nI_add _ _) ?_
        refine lv_bipush (v := nI 8) C.x C.b d_MD_boxOf_58 (by decide) ?_
        refine lv_irem C.x C.b d_MD_boxOf_60 (by decide) ?_
        refine k_top (y := nI 4) (by decide) ?_
        refine lv_ishr C.x C.b d_MD_boxOf_61 ?_
        refine lv_ixor C.x C.b d_MD_boxOf_62 ?_
        refine lv_iload_n C.x C.b d_MD_boxOf_63 rfl (lv_at hl 4 rfl) ?_
        refine lv_iload_n C.x C.b d_MD_boxOf_64 rfl (lv_at hl 0 rfl) ?_
        refine lv_bipush (v := nI 6) C.x C.b d_MD_boxOf_65 (by decide) ?_
        refine lv_iadd C.x C.b d_MD_boxOf_67 ?_
        refine k_top (y := nI 13) (nI_add _ _) ?_
        refine lv_bipush (v := nI 8) C.x C.b d_MD_boxOf_68 (by decide) ?_
        refine lv_irem C.x C.b d_MD_boxOf_70 (by decide) ?_
        refine k_top (y := nI 5) (by decide) ?_
        refine lv_ishr C.x C.b d_MD_boxOf_71 ?_
        refine lv_ixor C.x C.b d_MD_boxOf_72 ?_
        refine lv_iload_n C.x C.b d_MD_boxOf_73 rfl (lv_at hl 4 rfl) ?_
        refine lv_iload_n C.x C.b d_MD_boxOf_74 rfl (lv_at hl 0 rfl) ?_
        refine lv_bipush (v := nI 7) C.x C.b d_MD_boxOf_75 (by decide) ?_
        refine lv_iadd C.x C.b d_MD_boxOf_77 ?_
        refine k_top (y := nI 14) (nI_add _ _) ?_
        refine lv_bipush (v := nI 8) C.x C.b d_MD_boxOf_78 (by decide) ?_
        refine lv_irem C.x C.b d_MD_boxOf_80 (by decide) ?_
        refine k_top (y := nI 6) (by decide) ?_
        refine lv_ishr C.x C.b d_MD_boxOf_81 ?_
        refine lv_ixor C.x C.b d_MD_boxOf_82 ?_
        refine lv_bipush (v := nI 99) C.x C.b d_MD_boxOf_83 (by decide) ?_
        refine lv_iload_n C.x C.b d_MD_boxOf_85 rfl (lv_at hl 0 rfl) ?_
        refine lv_ishr C.x C.b d_MD_boxOf_86 ?_
        refine lv_ixor C.x C.b d_MD_boxOf_87 ?_
        refine lv_istore (lv' := [(4, .int ((((((c9 >>> ((nI 7) &&& 31)) ^^^ (c9 >>> ((nI 3) &&& 31))) ^^^ (c9 >>> ((nI 4) &&& 31))) ^^^ (c9 >>> ((nI 5) &&& 31))) ^^^ (c9 >>> ((nI 6) &&& 31))) ^^^ ((nI 99) >>> ((nI 7) &&& 31)))), (3, .int (nI 7)), (2, .int ((((((((nI 0) ||| ((((((((c9 >>> ((nI 0) &&& 31)) ^^^ (c9 >>> ((nI 4) &&& 31))) ^^^ (c9 >>> ((nI 5) &&& 31))) ^^^ (c9 >>> ((nI 6) &&& 31))) ^^^ (c9 >>> ((nI 7) &&& 31))) ^^^ ((nI 99) >>> ((nI 0) &&& 31))) &&& (nI 1)) <<< ((nI 0) &&& 31))) ||| ((((((((c9 >>> ((nI 1) &&& 31)) ^^^ (c9 >>> ((nI 5) &&& 31))) ^^^ (c9 >>> ((nI 6) &&& 31))) ^^^ (c9 >>> ((nI 7) &&& 31))) ^^^ (c9 >>> ((nI 0) &&& 31))) ^^^ ((nI 99) >>> ((nI 1) &&& 31))) &&& (nI 1)) <<< ((nI 1) &&& 31))) ||| ((((((((c9 >>> ((nI 2) &&& 31)) ^^^ (c9 >>> ((nI 6) &&& 31))) ^^^ (c9 >>> ((nI 7) &&& 31))) ^^^ (c9 >>> ((nI 0) &&& 31))) ^^^ (c9 >>> ((nI 1) &&& 31))) ^^^ ((nI 99) >>> ((nI 2) &&& 31))) &&& (nI 1)) <<< ((nI 2) &&& 31))) ||| ((((((((c9 >>> ((nI 3) &&& 31)) ^^^ (c9 >>> ((nI 7) &&& 31))) ^^^ (c9 >>> ((nI 0) &&& 31))) ^^^ (c9 >>> ((nI 1) &&& 31))) ^^^ (c9 >>> ((nI 2) &&& 31))) ^^^ ((nI 99) >>> ((nI 3) &&& 31))) &&& (nI 1)) <<< ((nI 3) &&& 31))) ||| ((((((((c9 >>> ((nI 4) &&& 31)) ^^^ (c9 >>> ((nI 0) &&& 31))) ^^^ (c9 >>> ((nI 1) &&& 31))) ^^^ (c9 >>> ((nI 2) &&& 31))) ^^^ (c9 >>> ((nI 3) &&& 31))) ^^^ ((nI 99) >>> ((nI 4) &&& 31))) &&& (nI 1)) <<< ((nI 4) &&& 31))) ||| ((((((((c9 >>> ((nI 5) &&& 31)) ^^^ (c9 >>> ((nI 1) &&& 31))) ^^^ (c9 >>> ((nI 2) &&& 31))) ^^^ (c9 >>> ((nI 3) &&& 31))) ^^^ (c9 >>> ((nI 4) &&& 31))) ^^^ ((nI 99) >>> ((nI 5) &&& 31))) &&& (nI 1)) <<< ((nI 5) &&& 31))) ||| ((((((((c9 >>> ((nI 6) &&& 31)) ^^^ (c9 >>> ((nI 2) &&& 31))) ^^^ (c9 >>> ((nI 3) &&& 31))) ^^^ (c9 >>> ((nI 4) &&& 31))) ^^^ (c9 >>> ((nI 5) &&& 31))) ^^^ ((nI 99) >>> ((nI 6) &&& 31))) &&& (nI 1)) <<< ((nI 6) &&& 31)))), (0, .int (nI bb)), (1, .int c9)]) C.x C.b d_MD_boxOf_88 hl (by decide) rfl (fun ls hl => ?_)
        refine lv_iload_n C.x C.b d_MD_boxOf_90 rfl (lv_at hl 2 rfl) ?_
        refine lv_iload C.x C.b d_MD_boxOf_91 (lv_at hl 0 rfl) ?_
        refine lv_iconst (v := nI 1) C.x C.b d_MD_boxOf_93 (by decide) ?_
        refine lv_iand C.x C.b d_MD_boxOf_94 ?_
        refine lv_iload_n C.x C.b d_MD_boxOf_95 rfl (lv_at hl 1 rfl) ?_
        refine lv_ishl C.x C.b d_MD_boxOf_96 ?_
        refine lv_ior C.x C.b d_MD_boxOf_97 ?_
        refine lv_istore_n (lv' := [(2, .int (((((((((nI 0) ||| ((((((((c9 >>> ((nI 0) &&& 31)) ^^^ (c9 >>> ((nI 4) &&& 31))) ^^^ (c9 >>> ((nI 5) &&& 31))) ^^^ (c9 >>> ((nI 6) &&& 31))) ^^^ (c9 >>> ((nI 7) &&& 31))) ^^^ ((nI 99) >>> ((nI 0) &&& 31))) &&& (nI 1)) <<< ((nI 0) &&& 31))) ||| ((((((((c9 >>> ((nI 1) &&& 31)) ^^^ (c9 >>> ((nI 5) &&& 31))) ^^^ (c9 >>> ((nI 6) &&& 31))) ^^^ (c9 >>> ((nI 7) &&& 31))) ^^^ (c9 >>> ((nI 0) &&& 31))) ^^^ ((nI 99) >>> ((nI 1) &&& 31))) &&& (nI 1)) <<< ((nI 1) &&& 31))) ||| ((((((((c9 >>> ((nI 2) &&& 31)) ^^^ (c9 >>> ((nI 6) &&& 31))) ^^^ (c9 >>> ((nI 7) &&& 31))) ^^^ (c9 >>> ((nI 0) &&& 31))) ^^^ (c9 >>> ((nI 1) &&& 31))) ^^^ ((nI 99) >>> ((nI 2) &&& 31))) &&& (nI 1)) <<< ((nI 2) &&& 31))) ||| ((((((((c9 >>> ((nI 3) &&& 31)) ^^^ (c9 >>> ((nI 7) &&& 31))) ^^^ (c9 >>> ((nI 0) &&& 31))) ^^^ (c9 >>> ((nI 1) &&& 31))) ^^^ (c9 >>> ((nI 2) &&& 31))) ^^^ ((nI 99) >>> ((nI 3) &&& 31))) &&& (nI 1)) <<< ((nI 3) &&& 31))) ||| ((((((((c9 >>> ((nI 4) &&& 31)) ^^^ (c9 >>> ((nI 0) &&& 31))) ^^^ (c9 >>> ((nI 1) &&& 31))) ^^^ (c9 >>> ((nI 2) &&& 31))) ^^^ (c9 >>> ((nI 3) &&& 31))) ^^^ ((nI 99) >>> ((nI 4) &&& 31))) &&& (nI 1)) <<< ((nI 4) &&& 31))) ||| ((((((((c9 >>> ((nI 5) &&& 31)) ^^^ (c9 >>> ((nI 1) &&& 31))) ^^^ (c9 >>> ((nI 2) &&& 31))) ^^^ (c9 >>> ((nI 3) &&& 31))) ^^^ (c9 >>> ((nI 4) &&& 31))) ^^^ ((nI 99) >>> ((nI 5) &&& 31))) &&& (nI 1)) <<< ((nI 5) &&& 31))) ||| ((((((((c9 >>> ((nI 6) &&& 31)) ^^^ (c9 >>> ((nI 2) &&& 31))) ^^^ (c9 >>> ((nI 3) &&& 31))) ^^^ (c9 >>> ((nI 4) &&& 31))) ^^^ (c9 >>> ((nI 5) &&& 31))) ^^^ ((nI 99) >>> ((nI 6) &&& 31))) &&& (nI 1)) <<< ((nI 6) &&& 31))) ||| ((((((((c9 >>> ((nI 7) &&& 31)) ^^^ (c9 >>> ((nI 3) &&& 31))) ^^^ (c9 >>> ((nI 4) &&& 31))) ^^^ (c9 >>> ((nI 5) &&& 31))) ^^^ (c9 >>> ((nI 6) &&& 31))) ^^^ ((nI 99) >>> ((nI 7) &&& 31))) &&& (nI 1)) <<< ((nI 7) &&& 31)))), (4, .int ((((((c9 >>> ((nI 7) &&& 31)) ^^^ (c9 >>> ((nI 3) &&& 31))) ^^^ (c9 >>> ((nI 4) &&& 31))) ^^^ (c9 >>> ((nI 5) &&& 31))) ^^^ (c9 >>> ((nI 6) &&& 31))) ^^^ ((nI 99) >>> ((nI 7) &&& 31)))), (3, .int (nI 7)), (0, .int (nI bb)), (1, .int c9)]) C.x C.b d_MD_boxOf_98 rfl hl (by decide) rfl (fun ls hl => ?_)
        refine lv_iinc (v := nI 8) (lv' := [(3, .int (nI 8)), (2, .int (((((((((nI 0) ||| ((((((((c9 >>> ((nI 0) &&& 31)) ^^^ (c9 >>> ((nI 4) &&& 31))) ^^^ (c9 >>> ((nI 5) &&& 31))) ^^^ (c9 >>> ((nI 6) &&& 31))) ^^^ (c9 >>> ((nI 7) &&& 31))) ^^^ ((nI 99) >>> ((nI 0) &&& 31))) &&& (nI 1)) <<< ((nI 0) &&& 31))) ||| ((((((((c9 >>> ((nI 1) &&& 31)) ^^^ (c9 >>> ((nI 5) &&& 31))) ^^^ (c9 >>> ((nI 6) &&& 31))) ^^^ (c9 >>> ((nI 7) &&& 31))) ^^^ (c9 >>> ((nI 0) &&& 31))) ^^^ ((nI 99) >>> ((nI 1) &&& 31))) &&& (nI 1)) <<< ((nI 1) &&& 31))) ||| ((((((((c9 >>> ((nI 2) &&& 31)) ^^^ (c9 >>> ((nI 6) &&& 31))) ^^^ (c9 >>> ((nI 7) &&& 31))) ^^^ (c9 >>> ((nI 0) &&& 31))) ^^^ (c9 >>> ((nI 1) &&& 31))) ^^^ ((nI 99) >>> ((nI 2) &&& 31))) &&& (nI 1)) <<< ((nI 2) &&& 31))) ||| ((((((((c9 >>> ((nI 3) &&& 31)) ^^^ (c9 >>> ((nI 7) &&& 31))) ^^^ (c9 >>> ((nI 0) &&& 31))) ^^^ (c9 >>> ((nI 1) &&& 31))) ^^^ (c9 >>> ((nI 2) &&& 31))) ^^^ ((nI 99) >>> ((nI 3) &&& 31))) &&& (nI 1)) <<< ((nI 3) &&& 31))) ||| ((((((((c9 >>> ((nI 4) &&& 31)) ^^^ (c9 >>> ((nI 0) &&& 31))) ^^^ (c9 >>> ((nI 1) &&& 31))) ^^^ (c9 >>> ((nI 2) &&& 31))) ^^^ (c9 >>> ((nI 3) &&& 31))) ^^^ ((nI 99) >>> ((nI 4) &&& 31))) &&& (nI 1)) <<< ((nI 4) &&& 31))) ||| ((((((((c9 >>> ((nI 5) &&& 31)) ^^^ (c9 >>> ((nI 1) &&& 31))) ^^^ (c9 >>> ((nI 2) &&& 31))) ^^^ (c9 >>> ((nI 3) &&& 31))) ^^^ (c9 >>> ((nI 4) &&& 31))) ^^^ ((nI 99) >>> ((nI 5) &&& 31))) &&& (nI 1)) <<< ((nI 5) &&& 31))) ||| ((((((((c9 >>> ((nI 6) &&& 31)) ^^^ (c9 >>> ((nI 2) &&& 31))) ^^^ (c9 >>> ((nI 3) &&& 31))) ^^^ (c9 >>> ((nI 4) &&& 31))) ^^^ (c9 >>> ((nI 5) &&& 31))) ^^^ ((nI 99) >>> ((nI 6) &&& 31))) &&& (nI 1)) <<< ((nI 6) &&& 31))) ||| ((((((((c9 >>> ((nI 7) &&& 31)) ^^^ (c9 >>> ((nI 3) &&& 31))) ^^^ (c9 >>> ((nI 4) &&& 31))) ^^^ (c9 >>> ((nI 5) &&& 31))) ^^^ (c9 >>> ((nI 6) &&& 31))) ^^^ ((nI 99) >>> ((nI 7) &&& 31))) &&& (nI 1)) <<< ((nI 7) &&& 31)))), (4, .int ((((((c9 >>> ((nI 7) &&& 31)) ^^^ (c9 >>> ((nI 3) &&& 31))) ^^^ (c9 >>> ((nI 4) &&& 31))) ^^^ (c9 >>> ((nI 5) &&& 31))) ^^^ (c9 >>> ((nI 6) &&& 31))) ^^^ ((nI 99) >>> ((nI 7) &&& 31)))), (0, .int (nI bb)), (1, .int c9)]) C.x C.b d_MD_boxOf_99 hl (k := 2) rfl (by decide) (by decide) rfl (fun ls hl => ?_)
        refine lv_goto (tgt := 36) C.x C.b d_MD_boxOf_102 (by decide) ?_
        refine lv_iload_n C.x C.b d_MD_boxOf_36 rfl (lv_at hl 0 rfl) ?_
        refine lv_bipush (v := nI 8) C.x C.b d_MD_boxOf_37 (by decide) ?_
        refine lv_icmp_ge (tgt := 105) C.x C.b d_MD_boxOf_39 (by decide) (fun _ => ?_) (fun h9 => by first | exact absurd h9 (by decide) | exact absurd (by decide) h9)
        refine lv_iload_n C.x C.b d_MD_boxOf_105 rfl (lv_at hl 1 rfl) ?_
        have hP9 := hP.sub (ws' := []) [] rfl
        have hD9 := hD.sub (ws' := []) [] (by decide) rfl
        exact k_iret C hS () (by show some (Value.int (sbx bb)) = some (Value.int (bxI c9)); rw [hc9, show n = 255 from by omega, box_ok hb]) (trivial) hP9 hD9 d_MD_boxOf_106
      · rw [nI_leI (by omega) (by omega)] at hc8
        refine lv_iload_n C.x C.b d_MD_boxOf_11 rfl (lv_at hl 0 rfl) ?_
        refine lv_iload_n C.x C.b d_MD_boxOf_12 rfl (lv_at hl 2 rfl) ?_
        refine k_callS (As := [.int (nI bb), .int (nI (n + 1))]) (rest := []) (wc := []) (wr := []) C (c_MD_times l d (nI bb) (nI (n + 1))) mw_MD_times m_649 hP hD hS [] [] rfl rfl (by decide) (by decide) (by decide) rfl hl.1 (Nat.le_of_ble_eq_true rfl) d_MD_boxOf_13 ⟨Nat.le_of_ble_eq_true rfl, Nat.le_of_ble_eq_true rfl⟩ ⟨by decide, by decide⟩ (fun _ H locs hw_2 hP hD hS => ?_)
        have hP : va_P d.1 clz [] H := hP
        have hD : va_D A [] := hD
        refine W.eq (g2 := F0 m 16 ls [.int (tim (nI bb) (nI (n + 1)))]) rfl ?_
        refine lv_iconst (v := nI 1) C.x C.b d_MD_boxOf_16 (by decide) ?_
        refine lv_icmp_ne (tgt := 24) C.x C.b d_MD_boxOf_17 (by decide) (fun hc17 => ?_) (fun hc17 => ?_)
        · refine lv_iload_n C.x C.b d_MD_boxOf_24 rfl (lv_at hl 1 rfl) ?_
          refine lv_istore_n (lv' := [(1, .int c9), (0, .int (nI bb)), (2, .int (nI (n + 1)))]) C.x C.b d_MD_boxOf_25 rfl hl (by decide) rfl (fun ls hl => ?_)
          refine lv_iinc (v := nI (n + 1 + 1)) (lv' := [(2, .int (nI (n + 1 + 1))), (1, .int c9), (0, .int (nI bb))]) C.x C.b d_MD_boxOf_26 hl (k := 2) rfl (k_inc _ 1) (by decide) rfl (fun ls hl => ?_)
          refine lv_goto (tgt := 4) C.x C.b d_MD_boxOf_29 (by decide) ?_
          exact ih4 (n + 1) c9 (by omega) (by omega) (one_step hb (by omega) hc9 (by simp only [hc17, if_true, if_false])) _ _ _ (hP.sub [] (rfl)) (hD.sub [] (by decide) (rfl)) hS (lv_sub hl [2, 1, 0] (rfl))
        · refine lv_iload_n C.x C.b d_MD_boxOf_20 rfl (lv_at hl 2 rfl) ?_
          refine lv_goto (tgt := 25) C.x C.b d_MD_boxOf_21 (by decide) ?_
          refine lv_istore_n (lv' := [(1, .int (nI (n + 1))), (0, .int (nI bb)), (2, .int (nI (n + 1)))]) C.x C.b d_MD_boxOf_25 rfl hl (by decide) rfl (fun ls hl => ?_)
          refine lv_iinc (v := nI (n + 1 + 1)) (lv' := [(2, .int (nI (n + 1 + 1))), (1, .int (nI (n + 1))), (0, .int (nI bb))]) C.x C.b d_MD_boxOf_26 hl (k := 2) rfl (k_inc _ 1) (by decide) rfl (fun ls hl => ?_)
          refine lv_goto (tgt := 4) C.x C.b d_MD_boxOf_29 (by decide) ?_
          exact ih4 (n + 1) (nI (n + 1)) (by omega) (by omega) (one_step hb (by omega) hc9 (by simp only [hc17, if_true, if_false])) _ _ _ (hP.sub [] (rfl)) (hD.sub [] (by decide) (rfl)) hS (lv_sub hl [2, 1, 0] (rfl))
  exact L4 ((255 - 0) + 1) 0 (nI 0) (Nat.lt_succ_self _) (by omega) (rfl) _ _ _ (hP.sub [] (rfl)) (hD.sub [] (by decide) (rfl)) hS (lv_sub hl [2, 1, 0] (rfl))
theorem mw_MD_boxWord : Mw y_MD_boxWord b_MD_boxWord 2 (some .int) 1 := ⟨m_803, m_9, m_802, by decide +kernel⟩
set_option maxHeartbeats 4000000 in
set_option maxRecDepth 100000 in
theorem c_MD_boxWord (l : Launch) (d : DD) (h : Nat) (an : Nat) (ak : Nat) (au : Nat) (ap : Nat) (aw : Nat) (ac : Nat) (ag : Nat) (ax : Nat) (ao : Nat) (al : Nat) (av : Nat) (ae : Nat) (ar : Nat) (ad : Nat) (aW : Nat) (aS : Nat) (aN : Nat) (aR : Nat) (aG : Nat) (th : Int32) (lt : Int32) (se : Int32) (zs : Int32) (mn : Int32) (cz : Int32) (ln : Int32) (ft : Int32) (gz : Int32) (fx : Nat → Int32) (v : Int32) (hbx : ∀ j, j < 256 → fx j = sbx j) : Ct l y_MD_boxWord b_MD_boxWord 2 (some .int) 0 0 0 0 d [(h, ob 1 [.int th, .ref an, .ref ak, .int lt, .int se, .ref au, .int zs, .ref ap, .int mn, .ref aw, .int cz, .ref ac, .int ln, .int ft, .int gz, .ref ag, .ref ax, .ref ao, .ref al, .ref av, .ref ae, .ref ar, .ref ad, .ref aW, .ref aS, .ref aN, .ref aR, .ref aG]), (ax, aI d 256 fx)] [.ref h, .int v] (fun (_ : Unit) => some (.int (subw v))) (fun (_ : Unit) => True) (fun (_ : Unit) => [(h, ob 1 [.int th, .ref an, .ref ak, .int lt, .int se, .ref au, .int zs, .ref ap, .int mn, .ref aw, .int cz, .ref ac, .int ln, .int ft, .int gz, .ref ag, .ref ax, .ref ao, .ref al, .ref av, .ref ae, .ref ar, .ref ad, .ref aW, .ref aS, .ref aN, .ref aR, .ref aG]), (ax, aI d 256 fx)]) := by
  refine Ct.of (by decide +kernel) (Nat.le_of_ble_eq_true rfl) ?_
  intro p e s m below meth c A ls C hP hD hS hl
  have hl : lv_has ls 2 [(0, .ref h), (1, .int v)] := hl
  have hsz9 := hS.1
  refine lv_aload_n C.x C.b d_MD_boxWord_0 rfl (lv_at hl 0 rfl) ?_
  refine k_get C hP 0 rfl rfl i_MD 16 (by decide) m_668 rfl d_MD_boxWord_1 ?_
  refine lv_iload_n C.x C.b d_MD_boxWord_4 rfl (lv_at hl 1 rfl) ?_
  refine lv_bipush (v := nI 24) C.x C.b d_MD_boxWord_5 (by decide) ?_
  refine lv_iushr (v := (v.toUInt32 >>> ((nI 24).toUInt32 &&& Int32.toUInt32 31)).toInt32) C.x C.b d_MD_boxWord_7 rfl ?_
  refine k_top (y := nI (bi (byt v 0))) ((u24 v).trans (byt_bi v 0)) ?_
  refine k_iald C hP 1 rfl (j := (bi (byt v 0))) (bi_lt _) (by omega) d_MD_boxWord_8 ?_
  refine k_top (y := sbx (bi (byt v 0))) (hbx _ (bi_lt _)) ?_
  refine lv_bipush (v := nI 24) C.x C.b d_MD_boxWord_9 (by decide) ?_
  refine lv_ishl C.x C.b d_MD_boxWord_11 ?_
  refine lv_aload_n C.x C.b d_MD_boxWord_12 rfl (lv_at hl 0 rfl) ?_
  refine k_get C hP 0 rfl rfl i_MD 16 (by decide) m_668 rfl d_MD_boxWord_13 ?_
  refine lv_iload_n C.x C.b d_MD_boxWord_16 rfl (lv_at hl 1 rfl) ?_
  refine lv_bipush (v := nI 16) C.x C.b d_MD_boxWord_17 (by decide) ?_
  refine lv_ishr C.x C.b d_MD_boxWord_19 ?_
  refine lv_sipush (v := nI 255) C.x C.b d_MD_boxWord_20 (by decide) ?_
  refine lv_iand C.x C.b d_MD_boxWord_23 ?_
  refine k_top (y := nI (bi (byt v 1))) ((shbyt (i := 1) (by decide) v).trans (byt_bi v 1)) ?_
  refine k_iald C hP 1 rfl (j := (bi (byt v 1))) (bi_lt _) (by omega) d_MD_boxWord_24 ?_
  refine k_top (y := sbx (bi (byt v 1))) (hbx _ (bi_lt _)) ?_
  refine lv_bipush (v := nI 16) C.x C.b d_MD_boxWord_25 (by decide) ?_
  refine lv_ishl C.x C.b d_MD_boxWord_27 ?_
  refine lv_ior C.x C.b d_MD_boxWord_28 ?_
  refine lv_aload_n C.x C.b d_MD_boxWord_29 rfl (lv_at hl 0 rfl) ?_
  refine k_get C hP 0 rfl rfl i_MD 16 (by decide) m_668 rfl d_MD_boxWord_30 ?_
  refine lv_iload_n C.x C.b d_MD_boxWord_33 rfl (lv_at hl 1 rfl) ?_
  refine lv_bipush (v := nI 8) C.x C.b d_MD_boxWord_34 (by decide) ?_
  refine lv_ishr C.x C.b d_MD_boxWord_36 ?_
  refine lv_sipush (v := nI 255) C.x C.b d_MD_boxWord_37 (by decide) ?_
  refine lv_iand C.x C.b d_MD_boxWord_40 ?_
  refine k_top (y := nI (bi (byt v 2))) ((shbyt (i := 2) (by decide) v).trans (byt_bi v 2)) ?_
  refine k_iald C hP 1 rfl (j := (bi (byt v 2))) (bi_lt _) (by omega) d_MD_boxWord_41 ?_
  refine k_top (y := sbx (bi (byt v 2))) (hbx _ (bi_lt _)) ?_
  refine lv_bipush (v := nI 8) C.x C.b d_MD_boxWord_42 (by decide) ?_
  refine lv_ishl C.x C.b d_MD_boxWord_44 ?_
  refine lv_ior C.x C.b d_MD_boxWord_45 ?_
  refine lv_aload_n C.x C.b d_MD_boxWord_46 rfl (lv_at hl 0 rfl) ?_
  refine k_get C hP 0 rfl rfl i_MD 16 (by decide) m_668 rfl d_MD_boxWord_47 ?_
  refine lv_iload_n C.x C.b d_MD_boxWord_50 rfl (lv_at hl 1 rfl) ?_
  refine lv_sipush (v := nI 255) C.x C.b d_MD_boxWord_51 (by decide) ?_
  refine lv_iand C.x C.b d_MD_boxWord_54 ?_
  refine k_top (y := nI (bi (byt v 3))) ((b3 v).trans (byt_bi v 3)) ?_
  refine k_iald C hP 1 rfl (j := (bi (byt v 3))) (bi_lt _) (by omega) d_MD_boxWord_55 ?_
  refine k_top (y := sbx (bi (byt v 3))) (hbx _ (bi_lt _)) ?_
  refine lv_ior C.x C.b d_MD_boxWord_56 ?_
  have hP9 := hP.sub (ws' := [(h, ob 1 [.int th, .ref an, .ref ak, .int lt, .int se, .ref au, .int zs, .ref ap, .int mn, .ref aw, .int cz, .ref ac, .int ln, .int ft, .int gz, .ref ag, .ref ax, .ref ao, .ref al, .ref av, .ref ae, .ref ar, .ref ad, .ref aW, .ref aS, .ref aN, .ref aR, .ref aG]), (ax, aI d 256 fx)]) [0, 1] rfl
  have hD9 := hD.sub (ws' := [(h, ob 1 [.int th, .ref an, .ref ak, .int lt, .int se, .ref au, .int zs, .ref ap, .int mn, .ref aw, .int cz, .ref ac, .int ln, .int ft, .int gz, .ref ag, .ref ax, .ref ao, .ref al, .ref av, .ref ae, .ref ar, .ref ad, .ref aW, .ref aS, .ref aN, .ref aR, .ref aG]), (ax, aI d 256 fx)]) [0, 1] (by decide) rfl
  exact k_iret C hS () (by show some (Value.int (subw v)) = _; exact congrArg (fun z => some (Value.int z)) (pk4_or _ _ _ _)) (trivial) hP9 hD9 d_MD_boxWord_57
theorem mw_MD_expand : Mw y_MD_expand b_MD_expand 5 none 1 := ⟨m_799, m_9, m_798, by decide +kernel⟩
set_option maxHeartbeats 4000000 in
set_option maxRecDepth 100000 in
theorem c_MD_expand (l : Launch) (d : DD) (h : Nat) (an : Nat) (ak : Nat) (au : Nat) (ap : Nat) (aw : Nat) (ac : Nat) (ag : Nat) (ax : Nat) (ao : Nat) (al : Nat) (av : Nat) (ae : Nat) (ar : Nat) (ad : Nat) (aW : Nat) (aS : Nat) (aN : Nat) (aR : Nat) (aG : Nat) (th : Int32) (lt : Int32) (se : Int32) (zs : Int32) (mn : Int32) (cz : Int32) (ln : Int32) (ft : Int32) (gz : Int32) (fk : Nat → Int32) (fx : Nat → Int32) (fo : Nat → Int32) (fr : Nat) (hbx : ∀ j, j < 256 → fx j = sbx j) (hfr : fr + 16 ≤ 48) : Ct l y_MD_expand b_MD_expand 5 none 1 24 0 0 d [(h, ob 1 [.int th, .ref an, .ref ak, .int lt, .int se, .ref au, .int zs, .ref ap, .int mn, .ref aw, .int cz, .ref ac, .int ln, .int ft, .int gz, .ref ag, .ref ax, .ref ao, .ref al, .ref av, .ref ae, .ref ar, .ref ad, .ref aW, .ref aS, .ref aN, .ref aR, .ref aG]), (ak, aI d 48 fk), (ax, aI d 256 fx), (ao, aI d 44 fo)] [.ref h, .int (nI fr)] (fun (f2 : Nat → Int32) => none) (fun (f2 : Nat → Int32) => ∀ j, j < 44 → f2 j = ksch (shf fr fk) j) (fun (f2 : Nat → Int32) => [(h, ob 1 [.int th, .ref an, .ref ak, .int lt, .int se, .ref au, .int zs, .ref ap, .int mn, .ref aw, .int cz, .ref ac, .int ln, .int ft, .int gz, .ref ag, .ref ax, .ref ao, .ref al, .ref av, .ref ae, .ref ar, .ref ad, .ref aW, .ref aS, .ref aN, .ref aR, .ref aG]), (ak, aI d 48 fk), (ax, aI d 256 fx), (ao, aI d 44 f2)]) := by
  refine Ct.of (by decide +kernel) (Nat.le_of_ble_eq_true rfl) ?_
  intro p e s m below meth c A ls C hP hD hS hl
  have hl : lv_has ls 5 [(0, .ref h), (1, .int (nI fr))] := hl
  have hsz9 := hS.1
  refine lv_iconst (v := nI 1) C.x C.b d_MD_expand_0 (by decide) ?_
  refine lv_istore_n (lv' := [(2, .int (nI 1)), (0, .ref h), (1, .int (nI fr))]) C.x C.b d_MD_expand_1 rfl hl (by decide) rfl (fun ls hl => ?_)
  refine lv_iconst (v := nI 0) C.x C.b d_MD_expand_2 (by decide) ?_
  refine lv_istore_n (lv' := [(3, .int (nI 0)), (2, .int (nI 1)), (0, .ref h), (1, .int (nI fr))]) C.x C.b d_MD_expand_3 rfl hl (by decide) rfl (fun ls hl => ?_)
  have L4 : ∀ (fuel : Nat) (i : Nat) (g : Nat → Int32) (pw : Int32), 44 - i < fuel → (i ≤ 44) → (∀ j, j < i → g j = (kexp (shf fr fk) (i - 4)).1 j) → (pw = (kexp (shf fr fk) (i - 4)).2) → ∀ (H : Heap) (locs : List Loc) (ls : Array Slot), va_P d.1 clz [(h, ob 1 [.int th, .ref an, .ref ak, .int lt, .int se, .ref au, .int zs, .ref ap, .int mn, .ref aw, .int cz, .ref ac, .int ln, .int ft, .int gz, .ref ag, .ref ax, .ref ao, .ref al, .ref av, .ref ae, .ref ar, .ref ad, .ref aW, .ref aS, .ref aN, .ref aR, .ref aG]), (ak, aI d 48 fk), (ax, aI d 256 fx), (ao, aI d 44 g)] H → va_D A [(h, ob 1 [.int th, .ref an, .ref ak, .int lt, .int se, .ref au, .int zs, .ref ap, .int mn, .ref aw, .int cz, .ref ac, .int ln, .int ft, .int gz, .ref ag, .ref ax, .ref ao, .ref al, .ref av, .ref ae, .ref ar, .ref ad, .ref aW, .ref aS, .ref aN, .ref aR, .ref aG]), (ak, aI d 48 fk), (ax, aI d 256 fx), (ao, aI d 44 g)] → va_S A s.heap H locs → lv_has ls 5 [(0, .ref h), (1, .int (nI fr)), (2, .int pw), (3, .int (nI i))] → W p l e (Rm 1 24 0 0) s m ([.ref h, .int (nI fr)] : List Value).toArray below meth c H locs 0 0 (MQ below (Cout d A (fun (f2 : Nat → Int32) => none) (fun (f2 : Nat → Int32) => ∀ j, j < 44 → f2 j = ksch (shf fr fk) j) (fun (f2 : Nat → Int32) => [(h, ob 1 [.int th, .ref an, .ref ak, .int lt, .int se, .ref au, .int zs, .ref ap, .int mn, .ref aw, .int cz, .ref ac, .int ln, .int ft, .int gz, .ref ag, .ref ax, .ref ao, .ref al, .ref av, .ref ae, .ref ar, .ref ad, .ref aW, .ref aS, .ref aN, .ref aR, .ref aG]), (ak, aI d 48 fk), (ax, aI d 256 fx), (ao, aI d 44 f2)])) ([.ref h, .int (nI fr)] : List Value).toArray s 0 0 A) (F0 m 4 ls []) := by
    intro fuel
    induction fuel with
    | zero => intro i g pw h9; exact absurd h9 (Nat.not_lt_zero _)
    | succ fuel ih4 =>
      intro i g pw hfu4 hi hg hpw H locs ls hP hD hS hl
      refine lv_iload_n C.x C.b d_MD_expand_4 rfl (lv_at hl 3 rfl) ?_
      refine lv_bipush (v := nI 44) C.x C.b d_MD_expand_5 (by decide) ?_
      refine lv_icmp_ge (tgt := 99) C.x C.b d_MD_expand_7 (by decide) (fun hc7 => ?_) (fun hc7 => ?_)
      · rw [nI_leI (by omega) (by omega)] at hc7
        have hP9 := hP.sub (ws' := [(h, ob 1 [.int th, .ref an, .ref ak, .int lt, .int se, .ref au, .int zs, .ref ap, .int mn, .ref aw, .int cz, .ref ac, .int ln, .int ft, .int gz, .ref ag, .ref ax, .ref ao, .ref al, .ref av, .ref ae, .ref ar, .ref ad, .ref aW, .ref aS, .ref aN, .ref aR, .ref aG]), (ak, aI d 48 fk), (ax, aI d 256 fx), (ao, aI d 44 g)]) [0, 1, 2, 3] rfl
        have hD9 := hD.sub (ws' := [(h, ob 1 [.int th, .ref an, .ref ak, .int lt, .int se, .ref au, .int zs, .ref ap, .int mn, .ref aw, .int cz, .ref ac, .int ln, .int ft, .int gz, .ref ag, .ref ax, .ref ao, .ref al, .ref av, .ref ae, .ref ar, .ref ad, .ref aW, .ref aS, .ref aN, .ref aR, .ref aG]), (ak, aI d 48 fk), (ax, aI d 256 fx), (ao, aI d 44 g)]) [0, 1, 2, 3] (by decide) rfl
        exact k_vret C hS g (rfl) (by intro j hj; rw [hg j (by omega), show i = 44 from by omega]; rfl) hP9 hD9 d_MD_expand_99
      · rw [nI_leI (by omega) (by omega)] at hc7
        refine lv_iload_n C.x C.b d_MD_expand_10 rfl (lv_at hl 3 rfl) ?_
        refine lv_iconst (v := nI 4) C.x C.b d_MD_expand_11 (by decide) ?_
        refine lv_icmp_ge (tgt := 32) C.x C.b d_MD_expand_12 (by decide) (fun hc12 => ?_) (fun hc12 => ?_)
        · rw [nI_leI (by omega) (by omega)] at hc12
          refine lv_aload_n C.x C.b d_MD_expand_32 rfl (lv_at hl 0 rfl) ?_
          refine k_get C hP 0 rfl rfl i_MD 17 (by decide) m_669 rfl d_MD_expand_33 ?_
          refine lv_iload_n C.x C.b d_MD_expand_36 rfl (lv_at hl 3 rfl) ?_
          refine lv_iconst (v := nI 1) C.x C.b d_MD_expand_37 (by decide) ?_
          refine lv_isub C.x C.b d_MD_expand_38 ?_
          refine k_top (y := nI (i - 1)) (pk_sub (by omega)) ?_
          refine k_iald C hP 3 rfl (j := (i - 1)) (by omega) (by omega) d_MD_expand_39 ?_
          refine lv_istore (lv' := [(4, .int (g (i - 1))), (0, .ref h), (1, .int (nI fr)), (2, .int pw), (3, .int (nI i))]) C.x C.b d_MD_expand_40 hl (by decide) rfl (fun ls hl => ?_)
          refine lv_iload_n C.x C.b d_MD_expand_42 rfl (lv_at hl 4 rfl) ?_
          refine lv_iconst (v := nI 4) C.x C.b d_MD_expand_43 (by decide) ?_
          refine lv_irem C.x C.b d_MD_expand_44 (by decide) ?_
          refine k_top (y := nI (i % 4)) (pk_rem (by omega) (by omega) (by omega)) ?_
          refine lv_if_ne (tgt := 76) C.x C.b d_MD_expand_45 (by decide) (fun hc45 => ?_) (fun hc45 => ?_)
          · rw [← nI_0, nI_eq (by omega) (by omega)] at hc45
            refine lv_aload_n C.x C.b d_MD_expand_76 rfl (lv_at hl 1 rfl) ?_
            refine k_get C hP 0 rfl rfl i_MD 17 (by decide) m_669 rfl d_MD_expand_77 ?_
            refine lv_iload_n C.x C.b d_MD_expand_80 rfl (lv_at hl 4 rfl) ?_
            refine lv_aload_n C.x C.b d_MD_expand_81 rfl (lv_at hl 1 rfl) ?_
            refine k_get C hP 0 rfl rfl i_MD 17 (by decide) m_669 rfl d_MD_expand_82 ?_
            refine lv_iload_n C.x C.b d_MD_expand_85 rfl (lv_at hl 4 rfl) ?_
            refine lv_iconst (v := nI 4) C.x C.b d_MD_expand_86 (by decide) ?_
            refine lv_isub C.x C.b d_MD_expand_87 ?_
            refine k_top (y := nI (i - 4)) (pk_sub (by omega)) ?_
            refine k_iald C hP 3 rfl (j := (i - 4)) (by omega) (by omega) d_MD_expand_88 ?_
            refine lv_iload C.x C.b d_MD_expand_89 (lv_at hl 0 rfl) ?_
            refine lv_ixor C.x C.b d_MD_expand_91 ?_
            refine k_iast C hP hD hS 3 rfl (j := i) (by omega) (by omega) d_MD_expand_92 (fun H locs hP hD hS => ?_)
            have hP : va_P d.1 clz [(h, ob 1 [.int th, .ref an, .ref ak, .int lt, .int se, .ref au, .int zs, .ref ap, .int mn, .ref aw, .int cz, .ref ac, .int ln, .int ft, .int gz, .ref ag, .ref ax, .ref ao, .ref al, .ref av, .ref ae, .ref ar, .ref ad, .ref aW, .ref aS, .ref aN, .ref aR, .ref aG]), (ak, aI d 48 fk), (ax, aI d 256 fx), (ao, aI d 44 (upd g i ((g (i - 4)) ^^^ (g (i - 1)))))] H := hP
            have hD : va_D A [(h, ob 1 [.int th, .ref an, .ref ak, .int lt, .int se, .ref au, .int zs, .ref ap, .int mn, .ref aw, .int cz, .ref ac, .int ln, .int ft, .int gz, .ref ag, .ref ax, .ref ao, .ref al, .ref av, .ref ae, .ref ar, .ref ad, .ref aW, .ref aS, .ref aN, .ref aR, .ref aG]), (ak, aI d 48 fk), (ax, aI d 256 fx), (ao, aI d 44 (upd g i ((g (i - 4)) ^^^ (g (i - 1)))))] := hD
            have hkk := kexp_new' (k := (shf fr fk)) (g := g) (i := i) (v := ((g (i - 4)) ^^^ (g (i - 1)))) (p := pw) (by omega) hg (by rw [← hpw]; unfold kstep; simp only [hc45, if_true, if_false, pk_us])
            refine lv_iinc (v := nI (i + 1)) (lv' := [(3, .int (nI (i + 1))), (4, .int (g (i - 1))), (0, .ref h), (1, .int (nI fr)), (2, .int pw)]) C.x C.b d_MD_expand_93 hl (k := 4) rfl (k_inc _ 1) (by decide) rfl (fun ls hl => ?_)
            refine lv_goto (tgt := 4) C.x C.b d_MD_expand_96 (by decide) ?_
            exact ih4 (i + 1) (upd g i ((g (i - 4)) ^^^ (g (i - 1)))) pw (by omega) (by omega) (hkk.1) (hkk.2) _ _ _ (hP.sub [0, 1, 2, 3] (rfl)) (hD.sub [0, 1, 2, 3] (by decide) (rfl)) hS (lv_sub hl [2, 3, 4, 0] (rfl))
          · rw [← nI_0, nI_eq (by omega) (by omega)] at hc45
            refine lv_aload_n C.x C.b d_MD_expand_48 rfl (lv_at hl 1 rfl) ?_
            refine lv_iload C.x C.b d_MD_expand_49 (lv_at hl 0 rfl) ?_
            refine lv_bipush (v := nI 8) C.x C.b d_MD_expand_51 (by decide) ?_
            refine lv_ishl C.x C.b d_MD_expand_53 ?_
            refine lv_iload C.x C.b d_MD_expand_54 (lv_at hl 0 rfl) ?_
            refine lv_bipush (v := nI 24) C.x C.b d_MD_expand_56 (by decide) ?_
            refine lv_iushr (v := ((g (i - 1)).toUInt32 >>> ((nI 24).toUInt32 &&& Int32.toUInt32 31)).toInt32) C.x C.b d_MD_expand_58 rfl ?_
            refine lv_ior C.x C.b d_MD_expand_59 ?_
            refine k_top (y := rotw (g (i - 1))) (rfl) ?_
            refine k_callV (As := [.int (rotw (g (i - 1)))]) (rest := []) (wc := [(h, ob 1 [.int th, .ref an, .ref ak, .int lt, .int se, .ref au, .int zs, .ref ap, .int mn, .ref aw, .int cz, .ref ac, .int ln, .int ft, .int gz, .ref ag, .ref ax, .ref ao, .ref al, .ref av, .ref ae, .ref ar, .ref ad, .ref aW, .ref aS, .ref aN, .ref aR, .ref aG]), (ax, aI d 256 fx)]) (wr := [(ak, aI d 48 fk), (ao, aI d 44 g)]) C (c_MD_boxWord l d h an ak au ap aw ac ag ax ao al av ae ar ad aW aS aN aR aG th lt se zs mn cz ln ft gz fx (rotw (g (i - 1))) (hbx)) mw_MD_boxWord ms_28 m_800 hP hD hS [0, 2] [1, 3] rfl rfl (by decide) (by decide) (by decide) 0 rfl rfl rfl rfl hl.1 (Nat.le_of_ble_eq_true rfl) d_MD_expand_60 ⟨Nat.le_of_ble_eq_true rfl, Nat.le_of_ble_eq_true rfl⟩ ⟨by decide, by decide⟩ (fun _ H locs hw_4 hP hD hS => ?_)
            have hP : va_P d.1 clz [(ak, aI d 48 fk), (ao, aI d 44 g), (h, ob 1 [.int th, .ref an, .ref ak, .int lt, .int se, .ref au, .int zs, .ref ap, .int mn, .ref aw, .int cz, .ref ac, .int ln, .int ft, .int gz, .ref ag, .ref ax, .ref ao, .ref al, .ref av, .ref ae, .ref ar, .ref ad, .ref aW, .ref aS, .ref aN, .ref aR, .ref aG]), (ax, aI d 256 fx)] H := hP
            have hD : va_D A [(ak, aI d 48 fk), (ao, aI d 44 g), (h, ob 1 [.int th, .ref an, .ref ak, .int lt, .int se, .ref au, .int zs, .ref ap, .int mn, .ref aw, .int cz, .ref ac, .int ln, .int ft, .int gz, .ref ag, .ref ax, .ref ao, .ref al, .ref av, .ref ae, .ref ar, .ref ad, .ref aW, .ref aS, .ref aN, .ref aR, .ref aG]), (ax, aI d 256 fx)] := hD
            refine W.eq (g2 := F0 m 63 ls [.int (subw (rotw (g (i - 1))))]) rfl ?_
            refine lv_iload_n C.x C.b d_MD_expand_63 rfl (lv_at hl 3 rfl) ?_
            refine lv_bipush (v := nI 24) C.x C.b d_MD_expand_64 (by decide) ?_
            refine lv_ishl C.x C.b d_MD_expand_66 ?_
            refine lv_ixor C.x C.b d_MD_expand_67 ?_
            refine lv_istore (lv' := [(4, .int ((subw (rotw (g (i - 1)))) ^^^ (pw <<< ((nI 24) &&& 31)))), (0, .ref h), (1, .int (nI fr)), (2, .int pw), (3, .int (nI i))]) C.x C.b d_MD_expand_68 hl (by decide) rfl (fun ls hl => ?_)
            refine lv_iload_n C.x C.b d_MD_expand_70 rfl (lv_at hl 3 rfl) ?_
            refine lv_iconst (v := nI 2) C.x C.b d_MD_expand_71 (by decide) ?_
            refine k_callS (As := [.int pw, .int (nI 2)]) (rest := []) (wc := []) (wr := [(ak, aI d 48 fk), (ao, aI d 44 g), (h, ob 1 [.int th, .ref an, .ref ak, .int lt, .int se, .ref au, .int zs, .ref ap, .int mn, .ref aw, .int cz, .ref ac, .int ln, .int ft, .int gz, .ref ag, .ref ax, .ref ao, .ref al, .ref av, .ref ae, .ref ar, .ref ad, .ref aW, .ref aS, .ref aN, .ref aR, .ref aG]), (ax, aI d 256 fx)]) C (c_MD_times l d pw (nI 2)) mw_MD_times m_649 hP hD hS [] [0, 1, 2, 3] rfl rfl (by decide) (by decide) (by decide) rfl hl.1 (Nat.le_of_ble_eq_true rfl) d_MD_expand_72 ⟨Nat.le_of_ble_eq_true rfl, Nat.le_of_ble_eq_true rfl⟩ ⟨by decide, by decide⟩ (fun _ H locs hw_5 hP hD hS => ?_)
            have hP : va_P d.1 clz [(ak, aI d 48 fk), (ao, aI d 44 g), (h, ob 1 [.int th, .ref an, .ref ak, .int lt, .int se, .ref au, .int zs, .ref ap, .int mn, .ref aw, .int cz, .ref ac, .int ln, .int ft, .int gz, .ref ag, .ref ax, .ref ao, .ref al, .ref av, .ref ae, .ref ar, .ref ad, .ref aW, .ref aS, .ref aN, .ref aR, .ref aG]), (ax, aI d 256 fx)] H := hP
            have hD : va_D A [(ak, aI d 48 fk), (ao, aI d 44 g), (h, ob 1 [.int th, .ref an, .ref ak, .int lt, .int se, .ref au, .int zs, .ref ap, .int mn, .ref aw, .int cz, .ref ac, .int ln, .int ft, .int gz, .ref ag, .ref ax, .ref ao, .ref al, .ref av, .ref ae, .ref ar, .ref ad, .ref aW, .ref aS, .ref aN, .ref aR, .ref aG]), (ax, aI d 256 fx)] := hD
            refine W.eq (g2 := F0 m 75 ls [.int (tim pw (nI 2))]) rfl ?_
            refine k_top (y := xt pw) ((xt_sp (by rw [hpw, kexp_pw]; exact isb_pws _)).2.2.2) ?_
            refine lv_istore_n (lv' := [(2, .int (xt pw)), (4, .int ((subw (rotw (g (i - 1)))) ^^^ (pw <<< ((nI 24) &&& 31)))), (0, .ref h), (1, .int (nI fr)), (3, .int (nI i))]) C.x C.b d_MD_expand_75 rfl hl (by decide) rfl (fun ls hl => ?_)
            refine lv_aload_n C.x C.b d_MD_expand_76 rfl (lv_at hl 2 rfl) ?_
            refine k_get C hP 2 rfl rfl i_MD 17 (by decide) m_669 rfl d_MD_expand_77 ?_
            refine lv_iload_n C.x C.b d_MD_expand_80 rfl (lv_at hl 4 rfl) ?_
            refine lv_aload_n C.x C.b d_MD_expand_81 rfl (lv_at hl 2 rfl) ?_
            refine k_get C hP 2 rfl rfl i_MD 17 (by decide) m_669 rfl d_MD_expand_82 ?_
            refine lv_iload_n C.x C.b d_MD_expand_85 rfl (lv_at hl 4 rfl) ?_
            refine lv_iconst (v := nI 4) C.x C.b d_MD_expand_86 (by decide) ?_
            refine lv_isub C.x C.b d_MD_expand_87 ?_
            refine k_top (y := nI (i - 4)) (pk_sub (by omega)) ?_
            refine k_iald C hP 1 rfl (j := (i - 4)) (by omega) (by omega) d_MD_expand_88 ?_
            refine lv_iload C.x C.b d_MD_expand_89 (lv_at hl 1 rfl) ?_
            refine lv_ixor C.x C.b d_MD_expand_91 ?_
            refine k_iast C hP hD hS 1 rfl (j := i) (by omega) (by omega) d_MD_expand_92 (fun H locs hP hD hS => ?_)
            have hP : va_P d.1 clz [(ak, aI d 48 fk), (ao, aI d 44 (upd g i ((g (i - 4)) ^^^ ((subw (rotw (g (i - 1)))) ^^^ (pw <<< ((nI 24) &&& 31)))))), (h, ob 1 [.int th, .ref an, .ref ak, .int lt, .int se, .ref au, .int zs, .ref ap, .int mn, .ref aw, .int cz, .ref ac, .int ln, .int ft, .int gz, .ref ag, .ref ax, .ref ao, .ref al, .ref av, .ref ae, .ref ar, .ref ad, .ref aW, .ref aS, .ref aN, .ref aR, .ref aG]), (ax, aI d 256 fx)] H := hP
            have hD : va_D A [(ak, aI d 48 fk), (ao, aI d 44 (upd g i ((g (i - 4)) ^^^ ((subw (rotw (g (i - 1)))) ^^^ (pw <<< ((nI 24) &&& 31)))))), (h, ob 1 [.int th, .ref an, .ref ak, .int lt, .int se, .ref au, .int zs, .ref ap, .int mn, .ref aw, .int cz, .ref ac, .int ln, .int ft, .int gz, .ref ag, .ref ax, .ref ao, .ref al, .ref av, .ref ae, .ref ar, .ref ad, .ref aW, .ref aS, .ref aN, .ref aR, .ref aG]), (ax, aI d 256 fx)] := hD
            have hkk := kexp_new' (k := (shf fr fk)) (g := g) (i := i) (v := ((g (i - 4)) ^^^ ((subw (rotw (g (i - 1)))) ^^^ (pw <<< ((nI 24) &&& 31))))) (p := (xt pw)) (by omega) hg (by rw [← hpw]; unfold kstep; simp only [hc45, if_true, if_false, pk_us])
            refine lv_iinc (v := nI (i + 1)) (lv' := [(3, .int (nI (i + 1))), (2, .int (xt pw)), (4, .int ((subw (rotw (g (i - 1)))) ^^^ (pw <<< ((nI 24) &&& 31)))), (0, .ref h), (1, .int (nI fr))]) C.x C.b d_MD_expand_93 hl (k := 4) rfl (k_inc _ 1) (by decide) rfl (fun ls hl => ?_)
            refine lv_goto (tgt := 4) C.x C.b d_MD_expand_96 (by decide) ?_
            exact ih4 (i + 1) (upd g i ((g (i - 4)) ^^^ ((subw (rotw (g (i - 1)))) ^^^ (pw <<< ((nI 24) &&& 31))))) (xt pw) (by omega) (by omega) (hkk.1) (hkk.2) _ _ _ (hP.sub [2, 0, 3, 1] (rfl)) (hD.sub [2, 0, 3, 1] (by decide) (rfl)) hS (lv_sub hl [3, 4, 1, 0] (rfl))
        · rw [nI_leI (by omega) (by omega)] at hc12
          refine lv_aload_n C.x C.b d_MD_expand_15 rfl (lv_at hl 0 rfl) ?_
          refine k_get C hP 0 rfl rfl i_MD 17 (by decide) m_669 rfl d_MD_expand_16 ?_
          refine lv_iload_n C.x C.b d_MD_expand_19 rfl (lv_at hl 3 rfl) ?_
          refine lv_aload_n C.x C.b d_MD_expand_20 rfl (lv_at hl 0 rfl) ?_
          refine k_get C hP 0 rfl rfl i_MD 2 (by decide) m_654 rfl d_MD_expand_21 ?_
          refine lv_iload_n C.x C.b d_MD_expand_24 rfl (lv_at hl 1 rfl) ?_
          refine lv_iload_n C.x C.b d_MD_expand_25 rfl (lv_at hl 3 rfl) ?_
          refine lv_iadd C.x C.b d_MD_expand_26 ?_
          refine k_top (y := nI (fr + i)) (nI_add _ _) ?_
          refine k_iald C hP 1 rfl (j := (fr + i)) (by omega) (by omega) d_MD_expand_27 ?_
          refine k_iast C hP hD hS 3 rfl (j := i) (by omega) (by omega) d_MD_expand_28 (fun H locs hP hD hS => ?_)
          have hP : va_P d.1 clz [(h, ob 1 [.int th, .ref an, .ref ak, .int lt, .int se, .ref au, .int zs, .ref ap, .int mn, .ref aw, .int cz, .ref ac, .int ln, .int ft, .int gz, .ref ag, .ref ax, .ref ao, .ref al, .ref av, .ref ae, .ref ar, .ref ad, .ref aW, .ref aS, .ref aN, .ref aR, .ref aG]), (ak, aI d 48 fk), (ax, aI d 256 fx), (ao, aI d 44 (upd g i (fk (fr + i))))] H := hP
          have hD : va_D A [(h, ob 1 [.int th, .ref an, .ref ak, .int lt, .int se, .ref au, .int zs, .ref ap, .int mn, .ref aw, .int cz, .ref ac, .int ln, .int ft, .int gz, .ref ag, .ref ax, .ref ao, .ref al, .ref av, .ref ae, .ref ar, .ref ad, .ref aW, .ref aS, .ref aN, .ref aR, .ref aG]), (ak, aI d 48 fk), (ax, aI d 256 fx), (ao, aI d 44 (upd g i (fk (fr + i))))] := hD
          refine lv_goto (tgt := 93) C.x C.b d_MD_expand_29 (by decide) ?_
          have hkk : (∀ j, j < i + 1 → upd g i (fk (fr + i)) j = (kexp (shf fr fk) (i + 1 - 4)).1 j) ∧ pw = (kexp (shf fr fk) (i + 1 - 4)).2 := by rw [show i - 4 = 0 from by omega] at hg hpw; rw [show i + 1 - 4 = 0 from by omega]; exact ⟨upd_le (g := g) hg rfl, hpw⟩
          refine lv_iinc (v := nI (i + 1)) (lv' := [(3, .int (nI (i + 1))), (0, .ref h), (1, .int (nI fr)), (2, .int pw)]) C.x C.b d_MD_expand_93 hl (k := 3) rfl (k_inc _ 1) (by decide) rfl (fun ls hl => ?_)
          refine lv_goto (tgt := 4) C.x C.b d_MD_expand_96 (by decide) ?_
          exact ih4 (i + 1) (upd g i (fk (fr + i))) pw (by omega) (by omega) (hkk.1) (hkk.2) _ _ _ (hP.sub [0, 1, 2, 3] (rfl)) (hD.sub [0, 1, 2, 3] (by decide) (rfl)) hS (lv_sub hl [1, 2, 3, 0] (rfl))
  exact L4 ((44 - 0) + 1) 0 fo (nI 1) (Nat.lt_succ_self _) (by omega) (fun j hj => absurd hj (Nat.not_lt_zero _)) (rfl) _ _ _ (hP.sub [0, 1, 2, 3] (rfl)) (hD.sub [0, 1, 2, 3] (by decide) (rfl)) hS (lv_sub hl [2, 3, 1, 0] (rfl))
theorem mw_MD_addWords : Mw y_MD_addWords b_MD_addWords 3 none 1 := ⟨m_811, m_9, m_810, by decide +kernel⟩
set_option maxHeartbeats 4000000 in
set_option maxRecDepth 100000 in
theorem c_MD_addWords (l : Launch) (d : DD) (h : Nat) (an : Nat) (ak : Nat) (au : Nat) (ap : Nat) (aw : Nat) (ac : Nat) (ag : Nat) (ax : Nat) (ao : Nat) (al : Nat) (av : Nat) (ae : Nat) (ar : Nat) (ad : Nat) (aW : Nat) (aS : Nat) (aN : Nat) (aR : Nat) (aG : Nat) (th : Int32) (lt : Int32) (se : Int32) (zs : Int32) (mn : Int32) (cz : Int32) (ln : Int32) (ft : Int32) (gz : Int32) (fo : Nat → Int32) (fl : Nat → Int32) (rn : Nat) (hrn : rn ≤ 10) : Ct l y_MD_addWords b_MD_addWords 3 none 0 0 0 0 d [(h, ob 1 [.int th, .ref an, .ref ak, .int lt, .int se, .ref au, .int zs, .ref ap, .int mn, .ref aw, .int cz, .ref ac, .int ln, .int ft, .int gz, .ref ag, .ref ax, .ref ao, .ref al, .ref av, .ref ae, .ref ar, .ref ad, .ref aW, .ref aS, .ref aN, .ref aR, .ref aG]), (ao, aI d 44 fo), (al, aI d 16 fl)] [.ref h, .int (nI (4 * rn))] (fun (f2 : Nat → Int32) => none) (fun (f2 : Nat → Int32) => ∀ j, j < 16 → f2 j = ark fo rn fl j) (fun (f2 : Nat → Int32) => [(h, ob 1 [.int th, .ref an, .ref ak, .int lt, .int se, .ref au, .int zs, .ref ap, .int mn, .ref aw, .int cz, .ref ac, .int ln, .int ft, .int gz, .ref ag, .ref ax, .ref ao, .ref al, .ref av, .ref ae, .ref ar, .ref ad, .ref aW, .ref aS, .ref aN, .ref aR, .ref aG]), (ao, aI d 44 fo), (al, aI d 16 f2)]) := by
  refine Ct.of (by decide +kernel) (Nat.le_of_ble_eq_true rfl) ?_
  intro p e s m below meth c A ls C hP hD hS hl
  have hl : lv_has ls 3 [(0, .ref h), (1, .int (nI (4 * rn)))] := hl
  have hsz9 := hS.1
  refine lv_iconst (v := nI 0) C.x C.b d_MD_addWords_0 (by decide) ?_
  refine lv_istore_n (lv' := [(2, .int (nI 0)), (0, .ref h), (1, .int (nI (4 * rn)))]) C.x C.b d_MD_addWords_1 rfl hl (by decide) rfl (fun ls hl => ?_)
  have L2 : ∀ (fuel : Nat) (j : Nat) (g : Nat → Int32), 16 - j < fuel → (j ≤ 16) → (∀ i, i < j → g i = ark fo rn fl i) → (∀ i, j ≤ i → g i = fl i) → ∀ (H : Heap) (locs : List Loc) (ls : Array Slot), va_P d.1 clz [(h, ob 1 [.int th, .ref an, .ref ak, .int lt, .int se, .ref au, .int zs, .ref ap, .int mn, .ref aw, .int cz, .ref ac, .int ln, .int ft, .int gz, .ref ag, .ref ax, .ref ao, .ref al, .ref av, .ref ae, .ref ar, .ref ad, .ref aW, .ref aS, .ref aN, .ref aR, .ref aG]), (ao, aI d 44 fo), (al, aI d 16 g)] H → va_D A [(h, ob 1 [.int th, .ref an, .ref ak, .int lt, .int se, .ref au, .int zs, .ref ap, .int mn, .ref aw, .int cz, .ref ac, .int ln, .int ft, .int gz, .ref ag, .ref ax, .ref ao, .ref al, .ref av, .ref ae, .ref ar, .ref ad, .ref aW, .ref aS, .ref aN, .ref aR, .ref aG]), (ao, aI d 44 fo), (al, aI d 16 g)] → va_S A s.heap H locs → lv_has ls 3 [(0, .ref h), (1, .int (nI (4 * rn))), (2, .int (nI j))] → W p l e (Rm 0 0 0 0) s m ([.ref h, .int (nI (4 * rn))] : List Value).toArray below meth c H locs 0 0 (MQ below (Cout d A (fun (f2 : Nat → Int32) => none) (fun (f2 : Nat → Int32) => ∀ j, j < 16 → f2 j = ark fo rn fl j) (fun (f2 : Nat → Int32) => [(h, ob 1 [.int th, .ref an, .ref ak, .int lt, .int se, .ref au, .int zs, .ref ap, .int mn, .ref aw, .int cz, .ref ac, .int ln, .int ft, .int gz, .ref ag, .ref ax, .ref ao, .ref al, .ref av, .ref ae, .ref ar, .ref ad, .ref aW, .ref aS, .ref aN, .ref aR, .ref aG]), (ao, aI d 44 fo), (al, aI d 16 f2)])) ([.ref h, .int (nI (4 * rn))] : List Value).toArray s 0 0 A) (F0 m 2 ls []) := by
    intro fuel
    induction fuel with
    | zero => intro j g h9; exact absurd h9 (Nat.not_lt_zero _)
    | succ fuel ih2 =>
      intro j g hfu2 hj hg1 hg2 H locs ls hP hD hS hl
      refine lv_iload_n C.x C.b d_MD_addWords_2 rfl (lv_at hl 2 rfl) ?_
      refine lv_bipush (v := nI 16) C.x C.b d_MD_addWords_3 (by decide) ?_
      refine lv_icmp_ge (tgt := 51) C.x C.b d_MD_addWords_5 (by decide) (fun hc5 => ?_) (fun hc5 => ?_)
      · rw [nI_leI (by omega) (by omega)] at hc5
        have hP9 := hP.sub (ws' := [(h, ob 1 [.int th, .ref an, .ref ak, .int lt, .int se, .ref au, .int zs, .ref ap, .int mn, .ref aw, .int cz, .ref ac, .int ln, .int ft, .int gz, .ref ag, .ref ax, .ref ao, .ref al, .ref av, .ref ae, .ref ar, .ref ad, .ref aW, .ref aS, .ref aN, .ref aR, .ref aG]), (ao, aI d 44 fo), (al, aI d 16 g)]) [0, 1, 2] rfl
        have hD9 := hD.sub (ws' := [(h, ob 1 [.int th, .ref an, .ref ak, .int lt, .int se, .ref au, .int zs, .ref ap, .int mn, .ref aw, .int cz, .ref ac, .int ln, .int ft, .int gz, .ref ag, .ref ax, .ref ao, .ref al, .ref av, .ref ae, .ref ar, .ref ad, .ref aW, .ref aS, .ref aN, .ref aR, .ref aG]), (ao, aI d 44 fo), (al, aI d 16 g)]) [0, 1, 2] (by decide) rfl
        exact k_vret C hS g (rfl) (by rw [show j = 16 from by omega] at hg1; exact hg1) hP9 hD9 d_MD_addWords_51
      · rw [nI_leI (by omega) (by omega)] at hc5
        refine lv_aload_n C.x C.b d_MD_addWords_8 rfl (lv_at hl 0 rfl) ?_
        refine k_get C hP 0 rfl rfl i_MD 18 (by decide) m_670 rfl d_MD_addWords_9 ?_
        refine lv_iload_n C.x C.b d_MD_addWords_12 rfl (lv_at hl 2 rfl) ?_
        refine lv_aload_n C.x C.b d_MD_addWords_13 rfl (lv_at hl 0 rfl) ?_
        refine k_get C hP 0 rfl rfl i_MD 18 (by decide) m_670 rfl d_MD_addWords_14 ?_
        refine lv_iload_n C.x C.b d_MD_addWords_17 rfl (lv_at hl 2 rfl) ?_
        refine k_iald C hP 2 rfl (j := j) (by omega) (by omega) d_MD_addWords_18 ?_
        refine lv_aload_n C.x C.b d_MD_addWords_19 rfl (lv_at hl 0 rfl) ?_
        refine k_get C hP 0 rfl rfl i_MD 17 (by decide) m_669 rfl d_MD_addWords_20 ?_
        refine lv_iload_n C.x C.b d_MD_addWords_23 rfl (lv_at hl 1 rfl) ?_
        refine lv_iload_n C.x C.b d_MD_addWords_24 rfl (lv_at hl 2 rfl) ?_
        refine lv_iconst (v := nI 4) C.x C.b d_MD_addWords_25 (by decide) ?_
        refine lv_idiv C.x C.b d_MD_addWords_26 (by decide) ?_
        refine k_top (y := nI (j / 4)) (pk_div (by omega) (by omega) (by omega)) ?_
        refine lv_iadd C.x C.b d_MD_addWords_27 ?_
        refine k_top (y := nI (4 * rn + (j / 4))) (nI_add _ _) ?_
        refine k_iald C hP 1 rfl (j := (4 * rn + (j / 4))) (by omega) (by omega) d_MD_addWords_28 ?_
        refine lv_bipush (v := nI 24) C.x C.b d_MD_addWords_29 (by decide) ?_
        refine lv_bipush (v := nI 8) C.x C.b d_MD_addWords_31 (by decide) ?_
        refine lv_iload_n C.x C.b d_MD_addWords_33 rfl (lv_at hl 2 rfl) ?_
        refine lv_iconst (v := nI 4) C.x C.b d_MD_addWords_34 (by decide) ?_
        refine lv_irem C.x C.b d_MD_addWords_35 (by decide) ?_
        refine k_top (y := nI (j % 4)) (pk_rem (by omega) (by omega) (by omega)) ?_
        refine lv_imul C.x C.b d_MD_addWords_36 ?_
        refine k_top (y := nI (8 * (j % 4))) (pk_mul _ _) ?_
        refine lv_isub C.x C.b d_MD_addWords_37 ?_
        refine k_top (y := nI (24 - (8 * (j % 4)))) (pk_sub (by omega)) ?_
        refine lv_ishr C.x C.b d_MD_addWords_38 ?_
        refine lv_sipush (v := nI 255) C.x C.b d_MD_addWords_39 (by decide) ?_
        refine lv_iand C.x C.b d_MD_addWords_42 ?_
        refine k_top (y := byt (fo (4 * rn + j / 4)) (j % 4)) (shbyt (by omega) _) ?_
        refine lv_ixor C.x C.b d_MD_addWords_43 ?_
        refine k_iast C hP hD hS 2 rfl (j := j) (by omega) (by omega) d_MD_addWords_44 (fun H locs hP hD hS => ?_)
        have hP : va_P d.1 clz [(h, ob 1 [.int th, .ref an, .ref ak, .int lt, .int se, .ref au, .int zs, .ref ap, .int mn, .ref aw, .int cz, .ref ac, .int ln, .int ft, .int gz, .ref ag, .ref ax, .ref ao, .ref al, .ref av, .ref ae, .ref ar, .ref ad, .ref aW, .ref aS, .ref aN, .ref aR, .ref aG]), (ao, aI d 44 fo), (al, aI d 16 (upd g j ((g j) ^^^ (byt (fo (4 * rn + j / 4)) (j % 4)))))] H := hP
        have hD : va_D A [(h, ob 1 [.int th, .ref an, .ref ak, .int lt, .int se, .ref au, .int zs, .ref ap, .int mn, .ref aw, .int cz, .ref ac, .int ln, .int ft, .int gz, .ref ag, .ref ax, .ref ao, .ref al, .ref av, .ref ae, .ref ar, .ref ad, .ref aW, .ref aS, .ref aN, .ref aR, .ref aG]), (ao, aI d 44 fo), (al, aI d 16 (upd g j ((g j) ^^^ (byt (fo (4 * rn + j / 4)) (j % 4)))))] := hD
        refine lv_iinc (v := nI (j + 1)) (lv' := [(2, .int (nI (j + 1))), (0, .ref h), (1, .int (nI (4 * rn)))]) C.x C.b d_MD_addWords_45 hl (k := 2) rfl (k_inc _ 1) (by decide) rfl (fun ls hl => ?_)
        refine lv_goto (tgt := 2) C.x C.b d_MD_addWords_48 (by decide) ?_
        exact ih2 (j + 1) (upd g j ((g j) ^^^ (byt (fo (4 * rn + j / 4)) (j % 4)))) (by omega) (by omega) (upd_le (g := g) hg1 (by rw [hg2 j (Nat.le_refl _)]; rfl)) (fun i hi => by rw [pk_un (by omega)]; exact hg2 i (by omega)) _ _ _ (hP.sub [0, 1, 2] (rfl)) (hD.sub [0, 1, 2] (by decide) (rfl)) hS (lv_sub hl [1, 2, 0] (rfl))
  exact L2 ((16 - 0) + 1) 0 fl (Nat.lt_succ_self _) (by omega) (fun i hi => absurd hi (Nat.not_lt_zero _)) (fun _ _ => rfl) _ _ _ (hP.sub [0, 1, 2] (rfl)) (hD.sub [0, 1, 2] (by decide) (rfl)) hS (lv_sub hl [1, 2, 0] (rfl))
