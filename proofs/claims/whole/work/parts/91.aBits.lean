section C91a
variable {g : pm_G} {d : Nat} {Q : pm_Po} {S : pm_SS} {I : pm_MI} {J : pm_ML}
/-! ===== bits of a long ===== -/
def tb (x : Int64) (e : Nat) : Bool := x.toBitVec.getLsbD e
theorem tb_ext {x y : Int64} (h : ∀ e, e < 64 → tb x e = tb y e) : x = y := Int64.toBitVec_inj.1 (BitVec.eq_of_getLsbD_eq (fun i hi => h i hi))
theorem tb_ge {x : Int64} {e : Nat} (h : 64 ≤ e) : tb x e = false := BitVec.getLsbD_of_ge _ _ h
theorem tb_lt {x : Int64} {e : Nat} (h : tb x e = true) : e < 64 := by
  rcases Nat.lt_or_ge e 64 with q | q
  · exact q
  · rw [tb_ge q] at h; cases h
theorem tb_or {x y : Int64} {e : Nat} : tb (x ||| y) e = (tb x e || tb y e) := by unfold tb; rw [Int64.toBitVec_or, BitVec.getLsbD_or]
theorem tb_and {x y : Int64} {e : Nat} : tb (x &&& y) e = (tb x e && tb y e) := by unfold tb; rw [Int64.toBitVec_and, BitVec.getLsbD_and]
theorem tb_xor {x y : Int64} {e : Nat} : tb (x ^^^ y) e = (tb x e ^^ tb y e) := by unfold tb; rw [Int64.toBitVec_xor, BitVec.getLsbD_xor]
theorem tb_0 {e : Nat} : tb 0 e = false := by simp [tb]
theorem tb_m1 {e : Nat} : tb (-1) e = decide (e < 64) := by
  have h : (-1 : Int64).toBitVec = BitVec.allOnes 64 := by decide
  unfold tb
  rw [h, BitVec.getLsbD_allOnes]
theorem tb_not {x : Int64} {e : Nat} (h : e < 64) : tb (x ^^^ -1) e = !tb x e := by
  rw [tb_xor, tb_m1, decide_eq_true h]; simp
theorem tb_low {x : Int64} {e : Nat} : tb (x &&& -x) e = true ↔ tb x e = true ∧ ∀ j, j < e → tb x j = false := by
  rw [tb_and]
  have h : tb (-x) e = (tb x e ^^ decide (e < 64) && decide (∃ j < e, tb x j = true)) := by
    unfold tb
    rw [Int64.toBitVec_neg, BitVec.getLsbD_neg]
  rw [h]
  cases hx : tb x e with
  | false => simp
  | true =>
    have he := tb_lt hx
    simp [he]
theorem tb_z {x : Int64} : x = 0 ↔ ∀ e, tb x e = false := by
  constructor
  · intro h e; rw [h, tb_0]
  · intro h; exact tb_ext (fun e _ => by rw [h e, tb_0])
theorem tb_nz {x : Int64} : ¬ x = 0 ↔ ∃ e, tb x e = true := by
  constructor
  · intro h
    refine Classical.byContradiction fun q => h (tb_z.mpr fun e => ?_)
    cases hx : tb x e with
    | false => rfl
    | true => exact absurd ⟨e, hx⟩ q
  · rintro ⟨e, h⟩ q
    rw [q, tb_0] at h
    cases h
/-- the lowest bit: there is one -/
theorem low_ex {x : Int64} (h : ¬ x = 0) : ∃ e, tb (x &&& -x) e = true := by
  obtain ⟨e, he⟩ := tb_nz.mp h
  have key : ∀ n e, e ≤ n → tb x e = true → ∃ e, tb (x &&& -x) e = true := by
    intro n
    induction n with
    | zero =>
      intro e h1 h2
      exact ⟨e, tb_low.mpr ⟨h2, fun j hj => by omega⟩⟩
    | succ n ih =>
      intro e h1 h2
      by_cases q : ∃ j, j < e ∧ tb x j = true
      · obtain ⟨j, hj, h3⟩ := q
        exact ih j (by omega) h3
      · refine ⟨e, tb_low.mpr ⟨h2, fun j hj => ?_⟩⟩
        cases hx : tb x j with
        | false => rfl
        | true => exact absurd ⟨j, hj, hx⟩ q
  exact key e e (Nat.le_refl e) he
theorem low_one {x : Int64} {e f : Nat} (h1 : tb (x &&& -x) e = true) (h2 : tb (x &&& -x) f = true) : e = f := by
  rw [tb_low] at h1 h2
  rcases Nat.lt_trichotomy e f with q | q | q
  · have := h2.2 e q; rw [h1.1] at this; cases this
  · exact q
  · have := h1.2 f q; rw [h2.1] at this; cases this
def bitL (k : Nat) : Int64 := 1 <<< ((nI k).toInt64 &&& 63)
theorem bitL_e {k : Nat} (h : k < 64) : (bitL k).toBitVec = BitVec.twoPow 64 k := by
  have key : ∀ k : Fin 64, (bitL k.val).toBitVec = BitVec.twoPow 64 k.val := by decide +kernel
  exact key ⟨k, h⟩
theorem tb_bit {k e : Nat} (h : k < 64) : tb (bitL k) e = decide (k = e) := by
  unfold tb
  rw [bitL_e h, BitVec.getLsbD_twoPow, decide_eq_true h]
  simp
theorem sh_e {k : Nat} (h : k < 64) : (((nI k).toInt64 &&& 63).toBitVec.smod 64).toNat = k := by
  have key : ∀ k : Fin 64, (((nI k.val).toInt64 &&& 63).toBitVec.smod 64).toNat = k.val := by decide +kernel
  exact key ⟨k, h⟩
theorem tb_shr {x : Int64} {k e : Nat} (h : k + e < 64) : tb (x >>> ((nI k).toInt64 &&& 63)) e = tb x (k + e) := by
  unfold tb
  rw [Int64.toBitVec_shiftRight, BitVec.getLsbD_sshiftRight', sh_e (by omega), if_pos h]
  have : ¬ 64 ≤ e := by omega
  simp [this]
theorem shr_1 {x : Int64} {k : Nat} (h : k < 64) : (x >>> ((nI k).toInt64 &&& 63)) &&& 1 = if tb x k = true then 1 else 0 := by
  have h1 : ∀ e, tb 1 e = decide (0 = e) := by
    intro e
    have := tb_bit (k := 0) (e := e) (by omega)
    have e2 : bitL 0 = 1 := by decide
    rw [e2] at this
    exact this
  refine tb_ext (fun e he => ?_)
  rw [tb_and, h1]
  by_cases q : 0 = e
  · subst q
    rw [tb_shr (by omega)]
    by_cases z : tb x k = true
    · rw [if_pos z, h1]; simp [z]
    · rw [if_neg z, tb_0]; simp [z]
  · rw [decide_eq_false q, Bool.and_false]
    by_cases z : tb x k = true
    · rw [if_pos z, h1, decide_eq_false q]
    · rw [if_neg z, tb_0]
def us (x : Int64) (k : Int32) : Int64 := (x.toUInt64 >>> (k.toInt64.toUInt64 &&& Int64.toUInt64 63)).toInt64
theorem us_e {k : Nat} (h : k < 64) : (((nI k).toInt64.toUInt64 &&& Int64.toUInt64 63).toBitVec % 64).toNat = k := by
  have key : ∀ k : Fin 64, (((nI k.val).toInt64.toUInt64 &&& Int64.toUInt64 63).toBitVec % 64).toNat = k.val := by decide +kernel
  exact key ⟨k, h⟩
theorem us_bv {x : Int64} {k : Nat} (h : k < 64) : (us x (nI k)).toBitVec = x.toBitVec >>> k := by
  unfold us
  rw [UInt64.toBitVec_toInt64, UInt64.toBitVec_shiftRight, BitVec.ushiftRight_eq', us_e h, Int64.toBitVec_toUInt64]
theorem tb_us {x : Int64} {k e : Nat} (h : k < 64) : tb (us x (nI k)) e = tb x (k + e) := by
  unfold tb
  rw [us_bv h, BitVec.getLsbD_ushiftRight]
/-! ===== counts ===== -/
def bct (p : Nat → Bool) : Nat → Nat
  | 0 => 0
  | n + 1 => bct p n + (p n).toNat
theorem bct_cong {p q : Nat → Bool} : ∀ {n : Nat}, (∀ k, k < n → p k = q k) → bct p n = bct q n
  | 0, _ => rfl
  | n + 1, h => by rw [bct, bct, bct_cong (fun k hk => h k (by omega)), h n (by omega)]
theorem bct_sub {p q : Nat → Bool} : ∀ {n : Nat}, (∀ k, k < n → p k = true → q k = true) → bct p n ≤ bct q n
  | 0, _ => Nat.le_refl _
  | n + 1, h => by
    have ih := bct_sub (n := n) (fun k hk => h k (by omega))
    have h1 := h n (by omega)
    rw [bct, bct]
    cases hp : p n with
    | false => simp only [Bool.toNat_false]; omega
    | true => rw [h1 hp]; omega
theorem bct_le {p : Nat → Bool} : ∀ {n : Nat}, bct p n ≤ n
  | 0 => Nat.le_refl _
  | n + 1 => by
    have ih := bct_le (p := p) (n := n)
    have := Bool.toNat_le (p n)
    rw [bct]; omega
theorem bct_tail {p : Nat → Bool} {m : Nat} : ∀ {n : Nat}, m ≤ n → (∀ k, m ≤ k → k < n → p k = false) → bct p n = bct p m
  | 0, h, _ => by rw [show m = 0 by omega]
  | n + 1, h, hz => by
    rcases Nat.lt_or_ge n m with q | q
    · rw [show m = n + 1 by omega]
    · rw [bct, hz n q (by omega), bct_tail q (fun k a b => hz k a (by omega))]; rfl
def pc (x : Int64) : Nat := bct (tb x) 64
theorem pc_le {x : Int64} : pc x ≤ 64 := bct_le
theorem pc_sub {x y : Int64} (h : ∀ e, tb x e = true → tb y e = true) : pc x ≤ pc y := bct_sub (fun k _ => h k)
/-! ===== digits ===== -/
def dg (w : Nat) (f : Nat → Nat) : Nat → Nat
  | 0 => 0
  | n + 1 => 2 ^ w * dg w (fun k => f (k + 1)) n + f 0
theorem dg_cong {w : Nat} : ∀ {n : Nat} {f h : Nat → Nat}, (∀ k, k < n → f k = h k) → dg w f n = dg w h n
  | 0, _, _, _ => rfl
  | n + 1, f, h, e => by rw [dg, dg, e 0 (by omega), dg_cong (fun k hk => e (k + 1) (by omega))]
theorem dg_lt {w : Nat} : ∀ {n : Nat} {f : Nat → Nat}, (∀ k, k < n → f k < 2 ^ w) → dg w f n < 2 ^ (w * n)
  | 0, _, _ => by simp [dg]
  | n + 1, f, e => by
    have ih := dg_lt (w := w) (n := n) (f := fun k => f (k + 1)) (fun k hk => e (k + 1) (by omega))
    have h0 := e 0 (by omega)
    rw [dg, Nat.mul_succ, Nat.pow_add]
    have h1 : 2 ^ w * (dg w (fun k => f (k + 1)) n + 1) ≤ 2 ^ w * 2 ^ (w * n) := Nat.mul_le_mul_left _ ih
    rw [Nat.mul_add, Nat.mul_one] at h1
    rw [Nat.mul_comm (2 ^ (w * n))]
    omega
theorem dg_add {w : Nat} : ∀ {n : Nat} {f h : Nat → Nat}, dg w f n + dg w h n = dg w (fun k => f k + h k) n
  | 0, _, _ => rfl
  | n + 1, f, h => by
    have ih := dg_add (w := w) (n := n) (f := fun k => f (k + 1)) (h := fun k => h (k + 1))
    rw [dg, dg, dg, ← ih, Nat.mul_add]
    omega
theorem and_mix {w a b A B : Nat} (ha : a < 2 ^ w) (hb : b < 2 ^ w) : (2 ^ w * A + a) &&& (2 ^ w * B + b) = 2 ^ w * (A &&& B) + (a &&& b) := by
  refine Nat.eq_of_testBit_eq (fun j => ?_)
  have hab : a &&& b < 2 ^ w := Nat.and_lt_two_pow _ hb
  rw [Nat.testBit_and, Nat.testBit_two_pow_mul_add _ ha, Nat.testBit_two_pow_mul_add _ hb, Nat.testBit_two_pow_mul_add _ hab]
  by_cases q : j < w
  · rw [if_pos q, if_pos q, if_pos q, Nat.testBit_and]
  · rw [if_neg q, if_neg q, if_neg q, Nat.testBit_and]
theorem dg_and {w : Nat} : ∀ {n : Nat} {f h : Nat → Nat}, (∀ k, k < n → f k < 2 ^ w) → (∀ k, k < n → h k < 2 ^ w) → dg w f n &&& dg w h n = dg w (fun k => f k &&& h k) n
  | 0, _, _, _, _ => by simp [dg]
  | n + 1, f, h, e1, e2 => by
    have ih := dg_and (w := w) (n := n) (f := fun k => f (k + 1)) (h := fun k => h (k + 1)) (fun k hk => e1 (k + 1) (by omega)) (fun k hk => e2 (k + 1) (by omega))
    rw [dg, dg, dg, ← ih, and_mix (e1 0 (by omega)) (e2 0 (by omega))]
theorem dg_last {w : Nat} : ∀ {n : Nat} {f : Nat → Nat}, f n = 0 → dg w f (n + 1) = dg w f n
  | 0, f, e => by simp [dg, e]
  | n + 1, f, e => by
    have ih := dg_last (w := w) (n := n) (f := fun k => f (k + 1)) e
    rw [dg, ih]
    rfl
theorem dg_shift {w : Nat} : ∀ {n : Nat} {f : Nat → Nat}, (∀ k, k < n → f k < 2 ^ w) → f n = 0 → dg w f n / 2 ^ w = dg w (fun k => f (k + 1)) n
  | 0, _, _, _ => by simp [dg]
  | n + 1, f, e1, e2 => by
    rw [dg_last (f := fun k => f (k + 1)) e2]
    rw [dg, Nat.mul_add_div (Nat.two_pow_pos w), Nat.div_eq_of_lt (e1 0 (by omega)), Nat.add_zero]
theorem dg_two {w : Nat} : ∀ {n : Nat} {f : Nat → Nat}, dg w f (2 * n) = dg (2 * w) (fun k => f (2 * k) + 2 ^ w * f (2 * k + 1)) n
  | 0, _ => rfl
  | n + 1, f => by
    have ih := dg_two (w := w) (n := n) (f := fun k => f (k + 1 + 1))
    rw [show 2 * (n + 1) = 2 * n + 1 + 1 by omega, dg, dg, dg, ih, Nat.two_mul w, Nat.pow_add]
    simp only [Nat.mul_add, Nat.mul_assoc, Nat.mul_zero, Nat.zero_add]
    have e : (fun k => f (2 * k + 1 + 1) + 2 ^ w * f (2 * k + 1 + 1 + 1)) = (fun k => f (2 * k + 2 * 1) + 2 ^ w * f (2 * k + 2 * 1 + 1)) := rfl
    rw [← e]
    generalize 2 ^ w * (2 ^ w * dg (w + w) (fun k => f (2 * k + 1 + 1) + 2 ^ w * f (2 * k + 1 + 1 + 1)) n) = Z
    generalize 2 ^ w * f 1 = Y
    omega
theorem dg_bits : ∀ {n x : Nat}, x < 2 ^ n → dg 1 (fun k => (x.testBit k).toNat) n = x
  | 0, x, h => by simp at h; simp [dg, h]
  | n + 1, x, h => by
    have h2 : x / 2 < 2 ^ n := by rw [Nat.pow_succ] at h; omega
    have ih := dg_bits h2
    have e : (fun k => (x.testBit (k + 1)).toNat) = (fun k => ((x / 2).testBit k).toNat) := by
      funext k; rw [Nat.testBit_succ]
    rw [dg, e, ih]
    have e0 : (x.testBit 0).toNat = x % 2 := by
      rw [Nat.testBit_zero]
      rcases Nat.mod_two_eq_zero_or_one x with q | q <;> simp [q]
    rw [e0]
    omega
/-! ===== Long.bitCount ===== -/
def bl1 (x : Int64) : Int64 := x - (us x 1 &&& 6148914691236517205)
def bl2 (y : Int64) : Int64 := (y &&& 3689348814741910323) + (us y 2 &&& 3689348814741910323)
def bl3 (y : Int64) : Int64 := (y + us y 4) &&& 1085102592571150095
def blF (x : Int64) : Int32 :=
  (let a := bl3 (bl2 (bl1 x)); let b := a + us a 8; let c := b + us b 16; c + us c 32).toInt32 &&& 127
theorem lN_and {a b : Nat} : lN a &&& lN b = lN (a &&& b) := by
  apply Int64.toBitVec_inj.1
  rw [Int64.toBitVec_and]
  show BitVec.ofNat 64 a &&& BitVec.ofNat 64 b = BitVec.ofNat 64 (a &&& b)
  rw [BitVec.ofNat_and]
theorem us_lN {a k : Nat} (ha : a < 2 ^ 64) (hk : k < 64) : us (lN a) (nI k) = lN (a / 2 ^ k) := by
  apply Int64.toBitVec_inj.1
  rw [us_bv hk]
  show BitVec.ofNat 64 a >>> k = BitVec.ofNat 64 (a / 2 ^ k)
  apply BitVec.eq_of_toNat_eq
  have h2 : a / 2 ^ k < 2 ^ 64 := Nat.lt_of_le_of_lt (Nat.div_le_self _ _) ha
  rw [BitVec.toNat_ushiftRight, BitVec.toNat_ofNat, BitVec.toNat_ofNat, Nat.mod_eq_of_lt ha, Nat.mod_eq_of_lt h2, Nat.shiftRight_eq_div_pow]
theorem nI_and127 {a : Nat} (h : a < 2 ^ 64) : nI a &&& 127 = nI (a % 128) := by
  apply Int32.toBitVec_inj.1
  rw [Int32.toBitVec_and]
  show BitVec.ofNat 32 a &&& BitVec.ofNat 32 127 = BitVec.ofNat 32 (a % 128)
  rw [← BitVec.ofNat_and, show (127 : Nat) = 2 ^ 7 - 1 from rfl, Nat.and_two_pow_sub_one_eq_mod]
theorem bl_eq (x : Int64) : blF x = nI (pc x) := by
  obtain ⟨n, hn, rfl⟩ : ∃ n, n < 2 ^ 64 ∧ x = lN n := ⟨x.toBitVec.toNat, x.toBitVec.isLt, by
    apply Int64.toBitVec_inj.1
    show x.toBitVec = BitVec.ofNat 64 x.toBitVec.toNat
    rw [BitVec.ofNat_toNat, BitVec.setWidth_eq]⟩
  have htb : ∀ k, tb (lN n) k = n.testBit k := by
    intro k
    show (BitVec.ofNat 64 n).getLsbD k = n.testBit k
    unfold BitVec.getLsbD
    rw [BitVec.toNat_ofNat, Nat.mod_eq_of_lt hn]
  have hpc : pc (lN n) = bct (fun k => n.testBit k) 64 := bct_cong (fun k _ => htb k)
  rw [hpc]
  have hf1 : ∀ k, (n.testBit k).toNat < 2 := fun k => by have := Bool.toNat_le (n.testBit k); omega
  have hf0 : ∀ k, 64 ≤ k → (n.testBit k).toNat = 0 := fun k hk => by
    rw [Nat.testBit_lt_two_pow (Nat.lt_of_lt_of_le hn (Nat.pow_le_pow_right (by omega) hk))]; rfl
  have hbc : bct (fun k => n.testBit k) 64 = (fun f : Nat → Nat => ((f 0 + f 1 + (f 2 + f 3)) + (f 4 + f 5 + (f 6 + f 7)) + ((f 8 + f 9 + (f 10 + f 11)) + (f 12 + f 13 + (f 14 + f 15)))) + ((f 16 + f 17 + (f 18 + f 19)) + (f 20 + f 21 + (f 22 + f 23)) + ((f 24 + f 25 + (f 26 + f 27)) + (f 28 + f 29 + (f 30 + f 31)))) + (((f 32 + f 33 + (f 34 + f 35)) + (f 36 + f 37 + (f 38 + f 39)) + ((f 40 + f 41 + (f 42 + f 43)) + (f 44 + f 45 + (f 46 + f 47)))) + ((f 48 + f 49 + (f 50 + f 51)) + (f 52 + f 53 + (f 54 + f 55)) + ((f 56 + f 57 + (f 58 + f 59)) + (f 60 + f 61 + (f 62 + f 63)))))) (fun k => (n.testBit k).toNat) := by
    simp only [bct]
    omega
  rw [hbc]
  have hx1 : dg 1 (fun k => (n.testBit k).toNat) 64 = n := dg_bits hn
  clear htb hpc hbc
  obtain ⟨f, hf⟩ : ∃ f : Nat → Nat, ∀ k, (n.testBit k).toNat = f k := ⟨_, fun _ => rfl⟩
  simp only [hf] at hf1 hf0 hx1 ⊢
  clear hf
  have s1 : n / 2 ^ 1 = dg 2 (fun k => f (2 * k + 1) + 2 * f (2 * k + 2)) 32 := by
    have := dg_shift (w := 1) (n := 64) (f := f) (fun k _ => hf1 k) (hf0 64 (by omega))
    rw [hx1] at this
    rw [this, show (64 : Nat) = 2 * 32 from rfl, dg_two]
  have m1 : (6148914691236517205 : Nat) = dg 2 (fun _ => 1) 32 := by decide +kernel
  have a1 : n / 2 ^ 1 &&& 6148914691236517205 = dg 2 (fun k => f (2 * k + 1)) 32 := by
    rw [s1, m1, dg_and (fun k _ => by have := hf1 (2 * k + 1); have := hf1 (2 * k + 2); omega) (fun k _ => by omega)]
    refine dg_cong (fun k _ => ?_)
    rw [Nat.and_one_is_mod]
    have := hf1 (2 * k + 1)
    omega
  have x2 : n = dg 2 (fun k => f (2 * k) + f (2 * k + 1)) 32 + dg 2 (fun k => f (2 * k + 1)) 32 := by
    rw [dg_add, ← hx1, show (64 : Nat) = 2 * 32 from rfl, dg_two]
    refine dg_cong (fun k _ => ?_)
    omega
  have y1 : bl1 (lN n) = lN (dg 2 (fun k => f (2 * k) + f (2 * k + 1)) 32) := by
    unfold bl1
    rw [show us (lN n) 1 = lN (n / 2 ^ 1) from us_lN (k := 1) hn (by omega), show (6148914691236517205 : Int64) = lN 6148914691236517205 from rfl, lN_and, a1, lN_sub (by omega)]
    congr 1
    omega
  clear x2 a1 s1 hx1 hn
  have hc : ∀ k, f (2 * k) + f (2 * k + 1) ≤ 2 := fun k => by have := hf1 (2 * k); have := hf1 (2 * k + 1); omega
  have hc0 : ∀ k, 32 ≤ k → f (2 * k) + f (2 * k + 1) = 0 := fun k hk => by rw [hf0 _ (by omega), hf0 _ (by omega)]
  rw [show blF (lN n) = (let a := bl3 (bl2 (bl1 (lN n))); let b := a + us a 8; let c := b + us b 16; c + us c 32).toInt32 &&& 127 from rfl, y1]
  clear y1
  have fin1 : ∀ f : Nat → Nat, f 0 + f 1 = f (2 * 0) + f (2 * 0 + 1) := fun f => rfl
  show (let a := bl3 (bl2 (lN (dg 2 (fun k => f (2 * k) + f (2 * k + 1)) 32))); let b := a + us a 8; let c := b + us b 16; c + us c 32).toInt32 &&& 127 = nI (((((f (2 * 0) + f (2 * 0 + 1)) + (f (2 * 1) + f (2 * 1 + 1))) + ((f (2 * 2) + f (2 * 2 + 1)) + (f (2 * 3) + f (2 * 3 + 1)))) + (((f (2 * 4) + f (2 * 4 + 1)) + (f (2 * 5) + f (2 * 5 + 1))) + ((f (2 * 6) + f (2 * 6 + 1)) + (f (2 * 7) + f (2 * 7 + 1))))) + ((((f (2 * 8) + f (2 * 8 + 1)) + (f (2 * 9) + f (2 * 9 + 1))) + ((f (2 * 10) + f (2 * 10 + 1)) + (f (2 * 11) + f (2 * 11 + 1)))) + (((f (2 * 12) + f (2 * 12 + 1)) + (f (2 * 13) + f (2 * 13 + 1))) + ((f (2 * 14) + f (2 * 14 + 1)) + (f (2 * 15) + f (2 * 15 + 1))))) + (((((f (2 * 16) + f (2 * 16 + 1)) + (f (2 * 17) + f (2 * 17 + 1))) + ((f (2 * 18) + f (2 * 18 + 1)) + (f (2 * 19) + f (2 * 19 + 1)))) + (((f (2 * 20) + f (2 * 20 + 1)) + (f (2 * 21) + f (2 * 21 + 1))) + ((f (2 * 22) + f (2 * 22 + 1)) + (f (2 * 23) + f (2 * 23 + 1))))) + ((((f (2 * 24) + f (2 * 24 + 1)) + (f (2 * 25) + f (2 * 25 + 1))) + ((f (2 * 26) + f (2 * 26 + 1)) + (f (2 * 27) + f (2 * 27 + 1)))) + (((f (2 * 28) + f (2 * 28 + 1)) + (f (2 * 29) + f (2 * 29 + 1))) + ((f (2 * 30) + f (2 * 30 + 1)) + (f (2 * 31) + f (2 * 31 + 1)))))))
  generalize hcc : (fun k => f (2 * k) + f (2 * k + 1)) = c
  have hck : ∀ k, f (2 * k) + f (2 * k + 1) = c k := fun k => by rw [← hcc]
  simp only [hck] at hc hc0 ⊢
  clear hck hcc hf1 hf0 fin1 m1
  have l2 : dg 2 c 32 < 2 ^ 64 := dg_lt (fun k _ => by have := hc k; omega)
  have m3 : (3689348814741910323 : Nat) = dg 4 (fun _ => 3) 16 := by decide +kernel
  have b1 : dg 2 c 32 &&& 3689348814741910323 = dg 4 (fun k => c (2 * k)) 16 := by
    rw [show (32 : Nat) = 2 * 16 from rfl, dg_two, m3]
    show dg 4 _ 16 &&& _ = _
    rw [dg_and (fun k _ => by have := hc (2 * k); have := hc (2 * k + 1); omega) (fun k _ => by omega)]
    refine dg_cong (fun k _ => ?_)
    rw [show (3 : Nat) = 2 ^ 2 - 1 from rfl, Nat.and_two_pow_sub_one_eq_mod]
    have := hc (2 * k)
    omega
  have b2 : dg 2 c 32 / 2 ^ 2 &&& 3689348814741910323 = dg 4 (fun k => c (2 * k + 1)) 16 := by
    rw [dg_shift (fun k _ => by have := hc k; omega) (hc0 32 (by omega)), show (32 : Nat) = 2 * 16 from rfl, dg_two, m3]
    show dg 4 _ 16 &&& _ = _
    rw [dg_and (fun k _ => by have := hc (2 * k + 1); have := hc (2 * k + 1 + 1); omega) (fun k _ => by omega)]
    refine dg_cong (fun k _ => ?_)
    rw [show (3 : Nat) = 2 ^ 2 - 1 from rfl, Nat.and_two_pow_sub_one_eq_mod]
    have := hc (2 * k + 1)
    omega
  have y2 : bl2 (lN (dg 2 c 32)) = lN (dg 4 (fun k => c (2 * k) + c (2 * k + 1)) 16) := by
    unfold bl2
    rw [show us (lN (dg 2 c 32)) 2 = lN (dg 2 c 32 / 2 ^ 2) from us_lN (k := 2) l2 (by omega), show (3689348814741910323 : Int64) = lN 3689348814741910323 from rfl, lN_and, lN_and, b1, b2, lN_add, dg_add]
  rw [y2]
  clear y2 b1 b2 l2 m3
  have he : ∀ k, c (2 * k) + c (2 * k + 1) ≤ 4 := fun k => by have := hc (2 * k); have := hc (2 * k + 1); omega
  have he0 : ∀ k, 16 ≤ k → c (2 * k) + c (2 * k + 1) = 0 := fun k hk => by rw [hc0 _ (by omega), hc0 _ (by omega)]
  show (let a := bl3 (lN (dg 4 (fun k => c (2 * k) + c (2 * k + 1)) 16)); let b := a + us a 8; let c := b + us b 16; c + us c 32).toInt32 &&& 127 = nI ((((c (2 * 0) + c (2 * 0 + 1)) + (c (2 * 1) + c (2 * 1 + 1))) + ((c (2 * 2) + c (2 * 2 + 1)) + (c (2 * 3) + c (2 * 3 + 1)))) + (((c (2 * 4) + c (2 * 4 + 1)) + (c (2 * 5) + c (2 * 5 + 1))) + ((c (2 * 6) + c (2 * 6 + 1)) + (c (2 * 7) + c (2 * 7 + 1)))) + ((((c (2 * 8) + c (2 * 8 + 1)) + (c (2 * 9) + c (2 * 9 + 1))) + ((c (2 * 10) + c (2 * 10 + 1)) + (c (2 * 11) + c (2 * 11 + 1)))) + (((c (2 * 12) + c (2 * 12 + 1)) + (c (2 * 13) + c (2 * 13 + 1))) + ((c (2 * 14) + c (2 * 14 + 1)) + (c (2 * 15) + c (2 * 15 + 1))))))
  generalize hcc : (fun k => c (2 * k) + c (2 * k + 1)) = e
  have hck : ∀ k, c (2 * k) + c (2 * k + 1) = e k := fun k => by rw [← hcc]
  simp only [hck] at he he0 ⊢
  clear hck hcc hc hc0
  have l3 : dg 4 e 16 < 2 ^ 64 := dg_lt (fun k _ => by have := he k; omega)
  have m5 : (1085102592571150095 : Nat) = dg 8 (fun _ => 15) 8 := by decide +kernel
  have y3 : bl3 (lN (dg 4 e 16)) = lN (dg 8 (fun k => e (2 * k) + e (2 * k + 1)) 8) := by
    unfold bl3
    rw [show us (lN (dg 4 e 16)) 4 = lN (dg 4 e 16 / 2 ^ 4) from us_lN (k := 4) l3 (by omega), dg_shift (fun k _ => by have := he k; omega) (he0 16 (by omega)), lN_add, dg_add, show (1085102592571150095 : Int64) = lN 1085102592571150095 from rfl, lN_and, show (16 : Nat) = 2 * 8 from rfl, dg_two, m5]
    congr 1
    show dg 8 _ 8 &&& _ = _
    rw [dg_and (fun k _ => by have := he (2 * k); have := he (2 * k + 1); have := he (2 * k + 1 + 1); omega) (fun k _ => by omega)]
    refine dg_cong (fun k _ => ?_)
    rw [show (15 : Nat) = 2 ^ 4 - 1 from rfl, Nat.and_two_pow_sub_one_eq_mod]
    have := he (2 * k)
    have := he (2 * k + 1)
    omega
  rw [y3]
  clear y3 l3 m5
  have hh : ∀ k, e (2 * k) + e (2 * k + 1) ≤ 8 := fun k => by have := he (2 * k); have := he (2 * k + 1); omega
  have hh0 : ∀ k, 8 ≤ k → e (2 * k) + e (2 * k + 1) = 0 := fun k hk => by rw [he0 _ (by omega), he0 _ (by omega)]
  show (let a := lN (dg 8 (fun k => e (2 * k) + e (2 * k + 1)) 8); let b := a + us a 8; let c := b + us b 16; c + us c 32).toInt32 &&& 127 = nI ((((e (2 * 0) + e (2 * 0 + 1)) + (e (2 * 1) + e (2 * 1 + 1))) + ((e (2 * 2) + e (2 * 2 + 1)) + (e (2 * 3) + e (2 * 3 + 1)))) + (((e (2 * 4) + e (2 * 4 + 1)) + (e (2 * 5) + e (2 * 5 + 1))) + ((e (2 * 6) + e (2 * 6 + 1)) + (e (2 * 7) + e (2 * 7 + 1)))))
  generalize hcc : (fun k => e (2 * k) + e (2 * k + 1)) = h
  have hck : ∀ k, e (2 * k) + e (2 * k + 1) = h k := fun k => by rw [← hcc]
  simp only [hck] at hh hh0 ⊢
  clear hck hcc he he0
  have dv : ∀ (u : Nat → Nat) (m : Nat), (∀ k, u k < 2 ^ 8) → (∀ k, 8 ≤ k → u k = 0) → dg 8 u 8 / 2 ^ (8 * m) = dg 8 (fun k => u (k + m)) 8 := by
    intro u m
    induction m with
    | zero => intro _ _; simp
    | succ m ih =>
      intro h1 h2
      rw [Nat.mul_succ, Nat.pow_add, ← Nat.div_div_eq_div_mul, ih h1 h2, dg_shift (fun k _ => h1 _) (h2 _ (by omega))]
      refine dg_cong (fun k _ => ?_)
      rw [Nat.add_right_comm]
      rfl
  have step : ∀ (u : Nat → Nat) (m B : Nat) (k : Int32), k = nI (8 * m) → m < 8 → B ≤ 100 → (∀ k, u k ≤ B) → (∀ k, 8 ≤ k → u k = 0) → lN (dg 8 u 8) + us (lN (dg 8 u 8)) k = lN (dg 8 (fun k => u k + u (k + m)) 8) := by
    intro u m B k hk hm hB h1 h2
    rw [hk, us_lN (dg_lt (n := 8) (fun k _ => by have := h1 k; omega)) (by omega), dv u m (fun k => by have := h1 k; omega) h2, lN_add, dg_add]
  show (lN (dg 8 h 8) + us (lN (dg 8 h 8)) 8 + us (lN (dg 8 h 8) + us (lN (dg 8 h 8)) 8) 16 + us (lN (dg 8 h 8) + us (lN (dg 8 h 8)) 8 + us (lN (dg 8 h 8) + us (lN (dg 8 h 8)) 8) 16) 32).toInt32 &&& 127 = _
  rw [step h 1 8 8 rfl (by omega) (by omega) hh hh0]
  rw [step (fun k => h k + h (k + 1)) 2 16 16 rfl (by omega) (by omega) (fun k => by have := hh k; have := hh (k + 1); omega) (fun k hk => by rw [hh0 _ hk, hh0 _ (by omega)])]
  rw [step (fun k => h k + h (k + 1) + (h (k + 2) + h (k + 2 + 1))) 4 32 32 rfl (by omega) (by omega) (fun k => by have := hh k; have := hh (k + 1); have := hh (k + 2); have := hh (k + 2 + 1); omega) (fun k hk => by rw [hh0 _ hk, hh0 _ (by omega), hh0 _ (by omega), hh0 _ (by omega)])]
  rw [lN_i, nI_and127 (dg_lt (n := 8) (w := 8) (fun k _ => by have := hh k; have := hh (k + 1); have := hh (k + 2); have := hh (k + 2 + 1); have := hh (k + 4); have := hh (k + 4 + 1); have := hh (k + 4 + 2); have := hh (k + 4 + 2 + 1); omega))]
  congr 1
  rw [dg]
  generalize dg 8 _ 7 = Z
  have := hh 0; have := hh 1; have := hh 2; have := hh 3; have := hh 4; have := hh 5; have := hh 6; have := hh 7
  show (2 ^ 8 * Z + (h 0 + h 1 + (h 2 + h 3) + (h 4 + h 5 + (h 6 + h 7)))) % 128 = _
  omega
theorem c_bitL {x : Int64} (hd : 1 ≤ d) (hQ : Q (some (.int (nI (pc x)))) S I J) : pm_C g d 296 [.long x] Q S I J := by
  rw [← bl_eq] at hQ
  refine eJ13_bitCount_95d88 (by omega) ?_
  refine bJ13_bitCount_95d88_0 ?_
  simp (disch := first | omega | decide) only [w_nl0, w_nli, w_nlr, ↓w_ts1, ↓w_ts0, w_rcv, w_rfv, w_cs, true_and, and_true, List.length_nil, List.length_cons, Nat.reduceAdd, Nat.reduceLeDiff, Nat.zero_le, Nat.reduceLT, ↓w_nil, ix_nI, nI_leP, nI_ltP, nI_eqP, nI_1, ↓i_inN, i_inN, l_le, l_lt, l_eq, r_le, r_lt, r_eq, ↓w_lload_0, ↓w_iconst, ↓w_lushr, ↓w_ldc2_0, ↓w_land, ↓w_lsub, ↓w_lstore_0, ↓w_ldc2_1, ↓w_ladd, ↓w_ldc2_2, ↓w_bipush, ↓w_l2i, ↓w_iand, ↓w_ret]
  exact hQ
end C91a
