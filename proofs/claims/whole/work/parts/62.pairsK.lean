section C62
variable {g : pm_G} {d : Nat} {Q : pm_Po} {S : pm_SS} {I : pm_MI} {J : pm_ML}
/-! the common divisor -/
def euS (p : Int64 × Int64) : Int64 × Int64 := (p.2, p.1 - p.1 / p.2 * p.2)
def euI : Nat → Int64 × Int64 → Int64 × Int64
  | 0, p => p
  | n + 1, p => if p.2 = 0 then p else euI n (euS p)
def euN : Nat → Nat → Nat → Nat × Nat
  | 0, a, b => (a, b)
  | n + 1, a, b => if b = 0 then (a, b) else euN n b (a % b)
theorem eu_end : ∀ j n a b, b < 2 ^ j → 2 * j + 1 ≤ n → (euN n a b).2 = 0 := by
  intro j
  induction j with
  | zero =>
    intro n a b hb hn
    obtain ⟨m, rfl⟩ : ∃ m, n = m + 1 := ⟨n - 1, by omega⟩
    have : b = 0 := by omega
    simp [euN, this]
  | succ j ih =>
    intro n a b hb hn
    obtain ⟨m, rfl⟩ : ∃ m, n = m + 1 + 1 := ⟨n - 2, by omega⟩
    by_cases h : b = 0
    · simp [euN, h]
    · simp only [euN, if_neg h]
      by_cases h2 : a % b = 0
      · simp [h2]
      · rw [if_neg h2]
        refine ih m _ _ ?_ (by omega)
        have h3 : a % b < b := Nat.mod_lt _ (by omega)
        have h4 : b % (a % b) < a % b := Nat.mod_lt _ (by omega)
        have h5 : b % (a % b) ≤ b - a % b := by
          rw [Nat.mod_eq_sub_mod (by omega)]
          exact Nat.mod_le _ _
        have : 2 ^ (j + 1) = 2 * 2 ^ j := by rw [Nat.pow_succ]; omega
        omega
theorem eu_pos : ∀ n a b, 0 < a ∨ 0 < b → (euN n a b).2 = 0 → 0 < (euN n a b).1 := by
  intro n
  induction n with
  | zero =>
    intro a b h h0
    simp only [euN] at h0 ⊢
    omega
  | succ n ih =>
    intro a b h h0
    by_cases hb : b = 0
    · simp only [euN, if_pos hb] at h0 ⊢
      omega
    · simp only [euN, if_neg hb] at h0 ⊢
      exact ih _ _ (Or.inl (by omega)) h0
theorem eu_le : ∀ n a b c, a ≤ c → b ≤ c → (euN n a b).1 ≤ c := by
  intro n
  induction n with
  | zero => intro a b c ha hb; exact ha
  | succ n ih =>
    intro a b c ha hb
    simp only [euN]
    split
    · exact ha
    · exact ih _ _ _ hb (Nat.le_trans (Nat.mod_le _ _) ha)
theorem j_eq {a b : Nat} (ha : a < 1000000000) (hb : b < 1000000000) : (Int64.ofNat a = Int64.ofNat b) ↔ a = b := by
  constructor
  · intro h
    have h2 := congrArg Int64.toInt h
    rw [Int64.toInt_ofNat_of_lt (by omega), Int64.toInt_ofNat_of_lt (by omega)] at h2
    omega
  · intro h
    rw [h]
theorem eu_N : ∀ n a b, a < 1000000000 → b < 1000000000 → euI n (Int64.ofNat a, Int64.ofNat b) = (Int64.ofNat (euN n a b).1, Int64.ofNat (euN n a b).2) := by
  intro n
  induction n with
  | zero => intro a b _ _; rfl
  | succ n ih =>
    intro a b ha hb
    have hz : (Int64.ofNat b = 0) ↔ b = 0 := j_eq (b := 0) hb (by omega)
    by_cases h : b = 0
    · simp only [euI, euN, if_pos h, if_pos (hz.2 h)]
    · have hm : a % b < b := Nat.mod_lt _ (by omega)
      have hq : a / b * b ≤ a := Nat.div_mul_le_self a b
      have e : euS (Int64.ofNat a, Int64.ofNat b) = (Int64.ofNat b, Int64.ofNat (a % b)) := by
        simp only [euS]
        rw [← Int64.ofNat_div (by omega) (by omega), ← Int64.ofNat_mul, ← Int64.ofNat_sub _ _ hq]
        have hh : a - a / b * b = a % b := by
          have := Nat.div_add_mod a b
          rw [Nat.mul_comm] at this
          omega
        rw [hh]
      simp only [euI, euN, if_neg h, if_neg (fun z => h (hz.1 z))]
      rw [e]
      exact ih _ _ hb (by omega)
theorem c_commonDivisor {a b : Int64} (hd : 1 ≤ d) (hQ : Q (some (.long (euI 200 (a, b)).1)) S I J) : pm_C g d 121 [.long a, .long b] Q S I J := by
  generalize hE : euI 200 (a, b) = E at hQ
  have key : ∀ j k (p : Int64 × Int64), j + k = 200 → euI j p = E → ∀ x, UU g (d - 1) 121 kX10_commonDivisor (pm_rm d 121) Q 1 [some (.long p.1), none, some (.long p.2), none, some (.int (nI k)), x, none] [] S I J (0, 0) := by
    intro j
    induction j with
    | zero =>
      intro k p hk he x
      have hk2 : k = 200 := by omega
      subst hk2
      rw [← he] at hQ
      simp only [euI] at hQ
      refine bX10_commonDivisor_1 ?_
      simp (disch := first | omega | decide) only [w_nl0, w_nli, w_nlr, ↓w_ts1, ↓w_ts0, w_rcv, w_rfv, w_cs, true_and, and_true, List.length_nil, List.length_cons, Nat.reduceAdd, Nat.reduceLeDiff, Nat.zero_le, Nat.reduceLT, ↓w_nil, ix_nI, nI_leP, nI_ltP, nI_eqP, nI_1, ↓i_inN, i_inN, l_le, l_lt, l_eq, r_le, r_lt, r_eq, sh1, ↓w_iload_4, ↓w_sipush, ↓w_icge, ↓w_lload_2, ↓w_lconst0, ↓w_lcmp, ↓w_ifeq, ↓w_lload_0, ↓w_lrem, ↓w_lstore_5, ↓w_lstore_0, ↓w_lload_5, ↓w_lstore_2, ↓w_iinc_4, ↓w_goto, lg_eq0]
      repeat' (first
        | (apply And.intro)
        | (with_reducible refine bX10_commonDivisor_2 ?_; simp (disch := first | omega | decide) only [w_nl0, w_nli, w_nlr, ↓w_ts1, ↓w_ts0, w_rcv, w_rfv, w_cs, true_and, and_true, List.length_nil, List.length_cons, Nat.reduceAdd, Nat.reduceLeDiff, Nat.zero_le, Nat.reduceLT, ↓w_nil, ix_nI, nI_leP, nI_ltP, nI_eqP, nI_1, ↓i_inN, i_inN, l_le, l_lt, l_eq, r_le, r_lt, r_eq, sh1, ↓w_iconst, ↓w_istore_4, ↓w_iload_4, ↓w_sipush, ↓w_icge, ↓w_lload_2, ↓w_lconst0, ↓w_lcmp, ↓w_ifeq, ↓w_lload_0, ↓w_lrem, ↓w_lstore_5, ↓w_lstore_0, ↓w_lload_5, ↓w_lstore_2, ↓w_iinc_4, ↓w_goto, ↓w_lret, lg_eq0])
        | (simp only [w_in])
        | (intro _))
      all_goals grind
    | succ j ih =>
      intro k p hk he x
      have ih2 := ih (k + 1) (euS p) (by omega)
      simp only [euI] at he
      rw [← he] at hQ ih2
      clear ih he
      by_cases hp : p.2 = 0
      · simp only [hp, if_true] at hQ
        clear ih2
        refine bX10_commonDivisor_1 ?_
        simp (disch := first | omega | decide) only [w_nl0, w_nli, w_nlr, ↓w_ts1, ↓w_ts0, w_rcv, w_rfv, w_cs, true_and, and_true, List.length_nil, List.length_cons, Nat.reduceAdd, Nat.reduceLeDiff, Nat.zero_le, Nat.reduceLT, ↓w_nil, ix_nI, nI_leP, nI_ltP, nI_eqP, nI_1, ↓i_inN, i_inN, l_le, l_lt, l_eq, r_le, r_lt, r_eq, sh1, ↓w_iload_4, ↓w_sipush, ↓w_icge, ↓w_lload_2, ↓w_lconst0, ↓w_lcmp, ↓w_ifeq, ↓w_lload_0, ↓w_lrem, ↓w_lstore_5, ↓w_lstore_0, ↓w_lload_5, ↓w_lstore_2, ↓w_iinc_4, ↓w_goto, lg_eq0]
        repeat' (first
          | (apply And.intro)
          | (with_reducible refine bX10_commonDivisor_2 ?_; simp (disch := first | omega | decide) only [w_nl0, w_nli, w_nlr, ↓w_ts1, ↓w_ts0, w_rcv, w_rfv, w_cs, true_and, and_true, List.length_nil, List.length_cons, Nat.reduceAdd, Nat.reduceLeDiff, Nat.zero_le, Nat.reduceLT, ↓w_nil, ix_nI, nI_leP, nI_ltP, nI_eqP, nI_1, ↓i_inN, i_inN, l_le, l_lt, l_eq, r_le, r_lt, r_eq, sh1, ↓w_iconst, ↓w_istore_4, ↓w_iload_4, ↓w_sipush, ↓w_icge, ↓w_lload_2, ↓w_lconst0, ↓w_lcmp, ↓w_ifeq, ↓w_lload_0, ↓w_lrem, ↓w_lstore_5, ↓w_lstore_0, ↓w_lload_5, ↓w_lstore_2, ↓w_iinc_4, ↓w_goto, ↓w_lret, lg_eq0])
          | (simp only [w_in])
          | (intro _))
        all_goals grind
      · simp only [hp, if_false] at hQ ih2
        simp only [euS, forall_const] at ih2
        refine bX10_commonDivisor_1 ?_
        simp (disch := first | omega | decide) only [w_nl0, w_nli, w_nlr, ↓w_ts1, ↓w_ts0, w_rcv, w_rfv, w_cs, true_and, and_true, List.length_nil, List.length_cons, Nat.reduceAdd, Nat.reduceLeDiff, Nat.zero_le, Nat.reduceLT, ↓w_nil, ix_nI, nI_leP, nI_ltP, nI_eqP, nI_1, ↓i_inN, i_inN, l_le, l_lt, l_eq, r_le, r_lt, r_eq, sh1, ↓w_iload_4, ↓w_sipush, ↓w_icge, ↓w_lload_2, ↓w_lconst0, ↓w_lcmp, ↓w_ifeq, ↓w_lload_0, ↓w_lrem, ↓w_lstore_5, ↓w_lstore_0, ↓w_lload_5, ↓w_lstore_2, ↓w_iinc_4, ↓w_goto, lg_eq0]
        repeat' (first
          | (apply And.intro)
          | (simp only [w_in])
          | (intro _))
        all_goals first | exact ih2 _ | grind
  refine eX10_commonDivisor (by omega) ?_
  refine bX10_commonDivisor_0 ?_
  simp (disch := first | omega | decide) only [w_nl0, w_nli, w_nlr, ↓w_ts1, ↓w_ts0, w_rcv, w_rfv, w_cs, true_and, and_true, List.length_nil, List.length_cons, Nat.reduceAdd, Nat.reduceLeDiff, Nat.zero_le, Nat.reduceLT, ↓w_nil, ix_nI, nI_leP, nI_ltP, nI_eqP, nI_1, ↓i_inN, i_inN, l_le, l_lt, l_eq, r_le, r_lt, r_eq, sh1, ↓w_iconst, ↓w_istore_4]
  exact key 200 0 (a, b) (by omega) hE none
theorem m_fraction {u l : Int64} {a : Int32} {n : Nat} (hd : 1 ≤ d) (h0 : (euI n (u, l)).2 = 0) (h1 : ¬ (euI n (u, l)).1 = 0) (hQ : Q (some (.int a)) SH I (pm_upL (pm_upL J 68 3 (u / (euI n (u, l)).1)) 68 4 (l / (euI n (u, l)).1))) : pm_C g d 194 [.ref 68, .long u, .long l, .int a] Q SH I J := by
  generalize hE : euI n (u, l) = E at h0 h1 hQ
  have key : ∀ j (p : Int64 × Int64), euI j p = E → ∀ x, UU g (d - 1) 194 kX12_fraction (pm_rm d 194) Q 1 [some (.ref 68), some (.long u), none, some (.long l), none, some (.int a), some (.long p.1), none, some (.long p.2), none, x, none] [] SH I J (0, 0) := by
    intro j
    induction j with
    | zero =>
      intro p he x
      rw [← he] at hQ h0 h1
      simp only [euI] at hQ h0 h1
      refine bX12_fraction_1 ?_
      simp (disch := first | omega | decide) only [w_nl0, w_nli, w_nlr, ↓w_ts1, ↓w_ts0, w_rcv, w_rfv, w_cs, true_and, and_true, List.length_nil, List.length_cons, Nat.reduceAdd, Nat.reduceLeDiff, Nat.zero_le, Nat.reduceLT, ↓w_nil, ix_nI, nI_leP, nI_ltP, nI_eqP, nI_1, ↓i_inN, i_inN, l_le, l_lt, l_eq, r_le, r_lt, r_eq, sh68_0, sh68_1, sh68_2, sh68_3, sh68_4, ↓w_lload_8, ↓w_lconst0, ↓w_lcmp, ↓w_ifeq, ↓w_lload_6, ↓w_lrem, ↓w_lstore_10, ↓w_lstore_6, ↓w_lload_10, ↓w_lstore_8, ↓w_goto, lg_eq0]
      repeat' (first
        | (apply And.intro)
        | (with_reducible refine bX12_fraction_2 ?_; simp (disch := first | omega | decide) only [w_nl0, w_nli, w_nlr, ↓w_ts1, ↓w_ts0, w_rcv, w_rfv, w_cs, true_and, and_true, List.length_nil, List.length_cons, Nat.reduceAdd, Nat.reduceLeDiff, Nat.zero_le, Nat.reduceLT, ↓w_nil, ix_nI, nI_leP, nI_ltP, nI_eqP, nI_1, ↓i_inN, i_inN, l_le, l_lt, l_eq, r_le, r_lt, r_eq, sh68_0, sh68_1, sh68_2, sh68_3, sh68_4, ↓w_lload_1, ↓w_lstore_6, ↓w_lload_3, ↓w_lstore_8, ↓w_lload_8, ↓w_lconst0, ↓w_lcmp, ↓w_ifeq, ↓w_lload_6, ↓w_lrem, ↓w_lstore_10, ↓w_lload_10, ↓w_goto, ↓w_aload_0, ↓w_ldiv, ↓w_pf1, ↓w_iload_5, ↓w_ret, lg_eq0])
        | (simp only [w_in])
        | (intro _))
      all_goals grind
    | succ j ih =>
      intro p he x
      have ih2 := ih (euS p)
      simp only [euI] at he
      rw [← he] at hQ h0 h1 ih2
      clear ih he
      by_cases hp : p.2 = 0
      · simp only [hp, if_true] at hQ h0 h1
        clear ih2
        refine bX12_fraction_1 ?_
        simp (disch := first | omega | decide) only [w_nl0, w_nli, w_nlr, ↓w_ts1, ↓w_ts0, w_rcv, w_rfv, w_cs, true_and, and_true, List.length_nil, List.length_cons, Nat.reduceAdd, Nat.reduceLeDiff, Nat.zero_le, Nat.reduceLT, ↓w_nil, ix_nI, nI_leP, nI_ltP, nI_eqP, nI_1, ↓i_inN, i_inN, l_le, l_lt, l_eq, r_le, r_lt, r_eq, sh68_0, sh68_1, sh68_2, sh68_3, sh68_4, ↓w_lload_8, ↓w_lconst0, ↓w_lcmp, ↓w_ifeq, ↓w_lload_6, ↓w_lrem, ↓w_lstore_10, ↓w_lstore_6, ↓w_lload_10, ↓w_lstore_8, ↓w_goto, lg_eq0]
        repeat' (first
          | (apply And.intro)
          | (with_reducible refine bX12_fraction_2 ?_; simp (disch := first | omega | decide) only [w_nl0, w_nli, w_nlr, ↓w_ts1, ↓w_ts0, w_rcv, w_rfv, w_cs, true_and, and_true, List.length_nil, List.length_cons, Nat.reduceAdd, Nat.reduceLeDiff, Nat.zero_le, Nat.reduceLT, ↓w_nil, ix_nI, nI_leP, nI_ltP, nI_eqP, nI_1, ↓i_inN, i_inN, l_le, l_lt, l_eq, r_le, r_lt, r_eq, sh68_0, sh68_1, sh68_2, sh68_3, sh68_4, ↓w_lload_1, ↓w_lstore_6, ↓w_lload_3, ↓w_lstore_8, ↓w_lload_8, ↓w_lconst0, ↓w_lcmp, ↓w_ifeq, ↓w_lload_6, ↓w_lrem, ↓w_lstore_10, ↓w_lload_10, ↓w_goto, ↓w_aload_0, ↓w_ldiv, ↓w_pf1, ↓w_iload_5, ↓w_ret, lg_eq0])
          | (simp only [w_in])
          | (intro _))
        all_goals grind
      · simp only [hp, if_false] at hQ h0 h1 ih2
        simp only [euS, forall_const] at ih2
        refine bX12_fraction_1 ?_
        simp (disch := first | omega | decide) only [w_nl0, w_nli, w_nlr, ↓w_ts1, ↓w_ts0, w_rcv, w_rfv, w_cs, true_and, and_true, List.length_nil, List.length_cons, Nat.reduceAdd, Nat.reduceLeDiff, Nat.zero_le, Nat.reduceLT, ↓w_nil, ix_nI, nI_leP, nI_ltP, nI_eqP, nI_1, ↓i_inN, i_inN, l_le, l_lt, l_eq, r_le, r_lt, r_eq, sh68_0, sh68_1, sh68_2, sh68_3, sh68_4, ↓w_lload_8, ↓w_lconst0, ↓w_lcmp, ↓w_ifeq, ↓w_lload_6, ↓w_lrem, ↓w_lstore_10, ↓w_lstore_6, ↓w_lload_10, ↓w_lstore_8, ↓w_goto, lg_eq0]
        repeat' (first
          | (apply And.intro)
          | (simp only [w_in])
          | (intro _))
        all_goals first | exact ih2 _ | grind
  refine eX12_fraction (by omega) ?_
  refine bX12_fraction_0 ?_
  simp (disch := first | omega | decide) only [w_nl0, w_nli, w_nlr, ↓w_ts1, ↓w_ts0, w_rcv, w_rfv, w_cs, true_and, and_true, List.length_nil, List.length_cons, Nat.reduceAdd, Nat.reduceLeDiff, Nat.zero_le, Nat.reduceLT, ↓w_nil, ix_nI, nI_leP, nI_ltP, nI_eqP, nI_1, ↓i_inN, i_inN, l_le, l_lt, l_eq, r_le, r_lt, r_eq, sh68_0, sh68_1, sh68_2, sh68_3, sh68_4, ↓w_lload_1, ↓w_lstore_6, ↓w_lload_3, ↓w_lstore_8]
  exact key n (u, l) hE none
theorem c_fraction {u l : Int64} (hd : 3 ≤ d) (h1 : 0 < (euI 200 (u, l)).1) (hQ : Q none SH I (pm_upL (pm_upL J 1 3 (u / (euI 200 (u, l)).1)) 1 4 (l / (euI 200 (u, l)).1))) : pm_C g d 120 [.ref 1, .long u, .long l] Q SH I J := by
  have h2 : ¬ (euI 200 (u, l)).1 = 0 := by grind
  generalize hE : (euI 200 (u, l)).1 = e at h1 hQ h2
  refine eX10_fraction (by omega) ?_
  repeat' (first
    | (apply And.intro)
    | (with_reducible refine bX10_fraction_0 ?_; simp (disch := first | omega | decide) only [w_nl0, w_nli, w_nlr, ↓w_ts1, ↓w_ts0, w_rcv, w_rfv, w_cs, true_and, and_true, List.length_nil, List.length_cons, Nat.reduceAdd, Nat.reduceLeDiff, Nat.zero_le, Nat.reduceLT, ↓w_nil, ix_nI, nI_leP, nI_ltP, nI_eqP, nI_1, ↓i_inN, i_inN, l_le, l_lt, l_eq, r_le, r_lt, r_eq, sh1, ↓w_lload_1, ↓w_lload_3, ↓w_is, ↓pm_cl1_2, ↓w_lstore_5, ↓w_lload_5, ↓w_lconst0, ↓w_lcmp, ↓w_ifgt, ↓w_vret, ↓w_aload_0, ↓w_ldiv, ↓w_pf1, lg_gt0, hE])
    | (with_reducible refine bX10_fraction_1 ?_; simp (disch := first | omega | decide) only [w_nl0, w_nli, w_nlr, ↓w_ts1, ↓w_ts0, w_rcv, w_rfv, w_cs, true_and, and_true, List.length_nil, List.length_cons, Nat.reduceAdd, Nat.reduceLeDiff, Nat.zero_le, Nat.reduceLT, ↓w_nil, ix_nI, nI_leP, nI_ltP, nI_eqP, nI_1, ↓i_inN, i_inN, l_le, l_lt, l_eq, r_le, r_lt, r_eq, sh1, ↓w_lload_1, ↓w_lload_3, ↓w_is, ↓pm_cl1_2, ↓w_lstore_5, ↓w_lload_5, ↓w_lconst0, ↓w_lcmp, ↓w_ifgt, ↓w_vret, ↓w_aload_0, ↓w_ldiv, ↓w_pf1, lg_gt0, hE])
    | (with_reducible refine c_commonDivisor (by omega) ?_ ; simp (disch := first | omega | decide) only [w_nl0, w_nli, w_nlr, ↓w_ts1, ↓w_ts0, w_rcv, w_rfv, w_cs, true_and, and_true, List.length_nil, List.length_cons, Nat.reduceAdd, Nat.reduceLeDiff, Nat.zero_le, Nat.reduceLT, ↓w_nil, ix_nI, nI_leP, nI_ltP, nI_eqP, nI_1, ↓i_inN, i_inN, l_le, l_lt, l_eq, r_le, r_lt, r_eq, sh1, ↓w_lload_1, ↓w_lload_3, ↓w_is, ↓pm_cl1_2, ↓w_lstore_5, ↓w_lload_5, ↓w_lconst0, ↓w_lcmp, ↓w_ifgt, ↓w_vret, ↓w_aload_0, ↓w_ldiv, ↓w_pf1, lg_gt0, hE])
    | (simp only [w_in])
    | (intro _))
  all_goals grind
end C62
