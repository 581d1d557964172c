section C23
variable {g : pm_G} {d : Nat} {Q : pm_Po} {S : pm_SS} {I : pm_MI} {J : pm_ML}
theorem nI_m2 (a : Nat) : nI a * 2 = nI (2 * a) := by rw [Nat.mul_comm 2 a, ← pk_mul]; rfl
theorem nI_2m (a : Nat) : 2 * nI a = nI (2 * a) := by rw [← pk_mul]; rfl
theorem hasM_nI {m n : Nat} (hn : I 9 9 = nI n) (hm : m < n) (hn40 : n ≤ 40) : hasM I (nI m) := by
  unfold hasM
  rw [hn]
  simp (disch := first | omega | decide) only [l_le, nI_ltP, r_lt]
  omega
-- metals, the rest
def dpt (I : pm_MI) : Nat → Int32 → Int32
  | 0, _ => 0
  | q + 1, m => if hasM I m then dpt I q (I 12 m.toNatClampNeg) + 1 else 0
theorem c_depth {m : Int32} (hd : 3 ≤ d) (hQ : Q (some (.int (dpt I 40 (if hasM I m then I 12 m.toNatClampNeg else -9)))) SH I J) : pm_C g d 17 [.ref 9, .int m] Q SH I J := by
  refine eX0_depth (by omega) ?_
  repeat' (first
    | (apply And.intro)
    | (with_reducible refine bX0_depth_0 ?_; simp (disch := first | omega | decide) only [w_nl0, w_nli, w_nlr, ↓w_ts1, ↓w_ts0, w_rcv, w_rfv, w_cs, true_and, and_true, List.length_nil, List.length_cons, Nat.reduceAdd, Nat.reduceLeDiff, Nat.zero_le, Nat.reduceLT, ↓w_nil, ix_nI, nI_leP, nI_ltP, nI_eqP, nI_1, ↓i_inN, i_inN, l_le, l_lt, l_eq, r_le, r_lt, r_eq, sh9, ↓w_iconst, ↓w_istore_2, ↓w_aload_0, ↓w_iload_1, ↓w_iv, ↓pm_cl2_2, ↓w_istore_3, ↓w_iload_3, ↓w_ifeq, ↓w_iload_2, ↓w_bipush, ↓w_icge, ↓w_iinc_2, ↓w_gf3, ↓w_iaload, ↓w_goto, ↓w_ret])
    | (with_reducible refine c_fatherOf (by omega) ?_; simp (disch := first | omega | decide) only [w_nl0, w_nli, w_nlr, ↓w_ts1, ↓w_ts0, w_rcv, w_rfv, w_cs, true_and, and_true, List.length_nil, List.length_cons, Nat.reduceAdd, Nat.reduceLeDiff, Nat.zero_le, Nat.reduceLT, ↓w_nil, ix_nI, nI_leP, nI_ltP, nI_eqP, nI_1, ↓i_inN, i_inN, l_le, l_lt, l_eq, r_le, r_lt, r_eq, sh9, ↓w_iconst, ↓w_istore_2, ↓w_aload_0, ↓w_iload_1, ↓w_iv, ↓pm_cl2_2, ↓w_istore_3, ↓w_iload_3, ↓w_ifeq, ↓w_iload_2, ↓w_bipush, ↓w_icge, ↓w_iinc_2, ↓w_gf3, ↓w_iaload, ↓w_goto, ↓w_ret])
    | (simp only [w_in])
    | (intro _))
  refine pm_rec (U := fun k (a : Int32) => UU g (d - 1) 17 kX0_depth (pm_rm d 17) Q 1 [some (.ref 9), some (.int m), some (.int (nI k)), some (.int a)] [] SH I J (0, 0)) (P := fun q a => Q (some (.int (nI (40 - q) + dpt I q a))) SH I J) 40 (fun k a q hk hq hP w => ?_) (fun a hP => ?_) (a := (if hasM I m then I 12 m.toNatClampNeg else -9)) (by rw [show nI (40 - 40) = 0 from rfl, Int32.zero_add]; exact hQ)
  · have w' := w (I 12 a.toNatClampNeg)
    clear w
    have e : 40 - q = k + 1 := by omega
    have e2 : 40 - (q + 1) = k := by omega
    rw [e] at w'
    rw [e2] at hP
    rw [← nI_1] at w'
    simp only [dpt] at hP
    refine bX0_depth_1 ?_
    simp (disch := first | omega | decide) only [w_nl0, w_nli, w_nlr, ↓w_ts1, ↓w_ts0, w_rcv, w_rfv, w_cs, true_and, and_true, List.length_nil, List.length_cons, Nat.reduceAdd, Nat.reduceLeDiff, Nat.zero_le, Nat.reduceLT, ↓w_nil, ix_nI, nI_leP, nI_ltP, nI_eqP, nI_1, ↓i_inN, i_inN, l_le, l_lt, l_eq, r_le, r_lt, r_eq, sh9, ↓w_aload_0, ↓w_iload_3, ↓w_iv, ↓pm_cl2_2, ↓w_ifeq, ↓w_iload_2, ↓w_bipush, ↓w_icge, ↓w_iinc_2, ↓w_gf3, ↓w_iaload, ↓w_istore_3, ↓w_goto, -nI_1]
    repeat' (first
      | (apply And.intro)
      | (with_reducible refine bX0_depth_2 ?_; simp (disch := first | omega | decide) only [w_nl0, w_nli, w_nlr, ↓w_ts1, ↓w_ts0, w_rcv, w_rfv, w_cs, true_and, and_true, List.length_nil, List.length_cons, Nat.reduceAdd, Nat.reduceLeDiff, Nat.zero_le, Nat.reduceLT, ↓w_nil, ix_nI, nI_leP, nI_ltP, nI_eqP, nI_1, ↓i_inN, i_inN, l_le, l_lt, l_eq, r_le, r_lt, r_eq, sh9, ↓w_iconst, ↓w_istore_2, ↓w_aload_0, ↓w_iload_1, ↓w_iv, ↓pm_cl2_2, ↓w_istore_3, ↓w_iload_3, ↓w_ifeq, ↓w_iload_2, ↓w_bipush, ↓w_icge, ↓w_iinc_2, ↓w_gf3, ↓w_iaload, ↓w_goto, ↓w_ret, -nI_1])
      | (with_reducible refine c_M_has (by omega) ?_; simp (disch := first | omega | decide) only [w_nl0, w_nli, w_nlr, ↓w_ts1, ↓w_ts0, w_rcv, w_rfv, w_cs, true_and, and_true, List.length_nil, List.length_cons, Nat.reduceAdd, Nat.reduceLeDiff, Nat.zero_le, Nat.reduceLT, ↓w_nil, ix_nI, nI_leP, nI_ltP, nI_eqP, nI_1, ↓i_inN, i_inN, l_le, l_lt, l_eq, r_le, r_lt, r_eq, sh9, ↓w_iconst, ↓w_istore_2, ↓w_aload_0, ↓w_iload_1, ↓w_iv, ↓pm_cl2_2, ↓w_istore_3, ↓w_iload_3, ↓w_ifeq, ↓w_iload_2, ↓w_bipush, ↓w_icge, ↓w_iinc_2, ↓w_gf3, ↓w_iaload, ↓w_goto, ↓w_ret, -nI_1])
      | (simp only [w_in])
      | (intro _))
    all_goals grind
  · simp only [dpt, Nat.sub_zero, Int32.add_zero] at hP
    refine bX0_depth_1 ?_
    simp (disch := first | omega | decide) only [w_nl0, w_nli, w_nlr, ↓w_ts1, ↓w_ts0, w_rcv, w_rfv, w_cs, true_and, and_true, List.length_nil, List.length_cons, Nat.reduceAdd, Nat.reduceLeDiff, Nat.zero_le, Nat.reduceLT, ↓w_nil, ix_nI, nI_leP, nI_ltP, nI_eqP, nI_1, ↓i_inN, i_inN, l_le, l_lt, l_eq, r_le, r_lt, r_eq, sh9, ↓w_aload_0, ↓w_iload_3, ↓w_iv, ↓pm_cl2_2, ↓w_ifeq, ↓w_iload_2, ↓w_bipush, ↓w_icge, ↓w_iinc_2, ↓w_gf3, ↓w_iaload, ↓w_istore_3, ↓w_goto]
    repeat' (first
      | (apply And.intro)
      | (with_reducible refine bX0_depth_2 ?_; simp (disch := first | omega | decide) only [w_nl0, w_nli, w_nlr, ↓w_ts1, ↓w_ts0, w_rcv, w_rfv, w_cs, true_and, and_true, List.length_nil, List.length_cons, Nat.reduceAdd, Nat.reduceLeDiff, Nat.zero_le, Nat.reduceLT, ↓w_nil, ix_nI, nI_leP, nI_ltP, nI_eqP, nI_1, ↓i_inN, i_inN, l_le, l_lt, l_eq, r_le, r_lt, r_eq, sh9, ↓w_iconst, ↓w_istore_2, ↓w_aload_0, ↓w_iload_1, ↓w_iv, ↓pm_cl2_2, ↓w_istore_3, ↓w_iload_3, ↓w_ifeq, ↓w_iload_2, ↓w_bipush, ↓w_icge, ↓w_iinc_2, ↓w_gf3, ↓w_iaload, ↓w_goto, ↓w_ret])
      | (with_reducible refine c_M_has (by omega) ?_; simp (disch := first | omega | decide) only [w_nl0, w_nli, w_nlr, ↓w_ts1, ↓w_ts0, w_rcv, w_rfv, w_cs, true_and, and_true, List.length_nil, List.length_cons, Nat.reduceAdd, Nat.reduceLeDiff, Nat.zero_le, Nat.reduceLT, ↓w_nil, ix_nI, nI_leP, nI_ltP, nI_eqP, nI_1, ↓i_inN, i_inN, l_le, l_lt, l_eq, r_le, r_lt, r_eq, sh9, ↓w_iconst, ↓w_istore_2, ↓w_aload_0, ↓w_iload_1, ↓w_iv, ↓pm_cl2_2, ↓w_istore_3, ↓w_iload_3, ↓w_ifeq, ↓w_iload_2, ↓w_bipush, ↓w_icge, ↓w_iinc_2, ↓w_gf3, ↓w_iaload, ↓w_goto, ↓w_ret])
      | (simp only [w_in])
      | (intro _))
    all_goals grind
def fab (I : pm_MI) : Nat → Int32 → Int32
  | 0, m => m
  | q + 1, m => if hasM I (if hasM I m then I 12 m.toNatClampNeg else -9) then fab I q (if hasM I m then I 12 m.toNatClampNeg else -9) else m
theorem c_firstAbove {m : Int32} (hd : 3 ≤ d) (hQ : Q (some (.int (fab I 40 m))) SH I J) : pm_C g d 18 [.ref 9, .int m] Q SH I J := by
  refine eX0_firstAbove (by omega) ?_
  refine bX0_firstAbove_0 ?_
  simp (disch := first | omega | decide) only [w_nl0, w_nli, w_nlr, ↓w_ts1, ↓w_ts0, w_rcv, w_rfv, w_cs, true_and, and_true, List.length_nil, List.length_cons, Nat.reduceAdd, Nat.reduceLeDiff, Nat.zero_le, Nat.reduceLT, ↓w_nil, ix_nI, nI_leP, nI_ltP, nI_eqP, nI_1, ↓i_inN, i_inN, l_le, l_lt, l_eq, r_le, r_lt, r_eq, sh9, ↓w_iload_1, ↓w_istore_2, ↓w_iconst, ↓w_istore_3]
  refine pm_rec (U := fun k (a : Int32) => UU g (d - 1) 18 kX0_firstAbove (pm_rm d 18) Q 1 [some (.ref 9), some (.int m), some (.int a), some (.int (nI k))] [] SH I J (0, 0)) (P := fun q a => Q (some (.int (fab I q a))) SH I J) 40 (fun k a q hk hq hP w => ?_) (fun a hP => ?_) (a := m) hQ
  · have w' := w (if hasM I a then I 12 a.toNatClampNeg else -9)
    clear w
    simp only [fab] at hP
    refine bX0_firstAbove_1 ?_
    simp (disch := first | omega | decide) only [w_nl0, w_nli, w_nlr, ↓w_ts1, ↓w_ts0, w_rcv, w_rfv, w_cs, true_and, and_true, List.length_nil, List.length_cons, Nat.reduceAdd, Nat.reduceLeDiff, Nat.zero_le, Nat.reduceLT, ↓w_nil, ix_nI, nI_leP, nI_ltP, nI_eqP, nI_1, ↓i_inN, i_inN, l_le, l_lt, l_eq, r_le, r_lt, r_eq, sh9, ↓w_iload_3, ↓w_bipush, ↓w_icge, ↓w_aload_0, ↓w_iload_2, ↓w_iv, ↓pm_cl2_2, ↓w_ifeq, ↓w_istore_2, ↓w_iinc_3, ↓w_goto]
    repeat' (first
      | (apply And.intro)
      | (with_reducible refine bX0_firstAbove_2 ?_; simp (disch := first | omega | decide) only [w_nl0, w_nli, w_nlr, ↓w_ts1, ↓w_ts0, w_rcv, w_rfv, w_cs, true_and, and_true, List.length_nil, List.length_cons, Nat.reduceAdd, Nat.reduceLeDiff, Nat.zero_le, Nat.reduceLT, ↓w_nil, ix_nI, nI_leP, nI_ltP, nI_eqP, nI_1, ↓i_inN, i_inN, l_le, l_lt, l_eq, r_le, r_lt, r_eq, sh9, ↓w_iload_1, ↓w_istore_2, ↓w_iconst, ↓w_istore_3, ↓w_iload_3, ↓w_bipush, ↓w_icge, ↓w_aload_0, ↓w_iload_2, ↓w_iv, ↓pm_cl2_2, ↓w_ifeq, ↓w_iinc_3, ↓w_goto, ↓w_ret])
      | (with_reducible refine c_M_has (by omega) ?_; simp (disch := first | omega | decide) only [w_nl0, w_nli, w_nlr, ↓w_ts1, ↓w_ts0, w_rcv, w_rfv, w_cs, true_and, and_true, List.length_nil, List.length_cons, Nat.reduceAdd, Nat.reduceLeDiff, Nat.zero_le, Nat.reduceLT, ↓w_nil, ix_nI, nI_leP, nI_ltP, nI_eqP, nI_1, ↓i_inN, i_inN, l_le, l_lt, l_eq, r_le, r_lt, r_eq, sh9, ↓w_iload_1, ↓w_istore_2, ↓w_iconst, ↓w_istore_3, ↓w_iload_3, ↓w_bipush, ↓w_icge, ↓w_aload_0, ↓w_iload_2, ↓w_iv, ↓pm_cl2_2, ↓w_ifeq, ↓w_iinc_3, ↓w_goto, ↓w_ret])
      | (with_reducible refine c_fatherOf (by omega) ?_; simp (disch := first | omega | decide) only [w_nl0, w_nli, w_nlr, ↓w_ts1, ↓w_ts0, w_rcv, w_rfv, w_cs, true_and, and_true, List.length_nil, List.length_cons, Nat.reduceAdd, Nat.reduceLeDiff, Nat.zero_le, Nat.reduceLT, ↓w_nil, ix_nI, nI_leP, nI_ltP, nI_eqP, nI_1, ↓i_inN, i_inN, l_le, l_lt, l_eq, r_le, r_lt, r_eq, sh9, ↓w_iload_1, ↓w_istore_2, ↓w_iconst, ↓w_istore_3, ↓w_iload_3, ↓w_bipush, ↓w_icge, ↓w_aload_0, ↓w_iload_2, ↓w_iv, ↓pm_cl2_2, ↓w_ifeq, ↓w_iinc_3, ↓w_goto, ↓w_ret])
      | (simp only [w_in])
      | (intro _))
    all_goals grind
  · simp only [fab] at hP
    refine bX0_firstAbove_1 ?_
    simp (disch := first | omega | decide) only [w_nl0, w_nli, w_nlr, ↓w_ts1, ↓w_ts0, w_rcv, w_rfv, w_cs, true_and, and_true, List.length_nil, List.length_cons, Nat.reduceAdd, Nat.reduceLeDiff, Nat.zero_le, Nat.reduceLT, ↓w_nil, ix_nI, nI_leP, nI_ltP, nI_eqP, nI_1, ↓i_inN, i_inN, l_le, l_lt, l_eq, r_le, r_lt, r_eq, sh9, ↓w_iload_3, ↓w_bipush, ↓w_icge, ↓w_aload_0, ↓w_iload_2, ↓w_iv, ↓pm_cl2_2, ↓w_ifeq, ↓w_istore_2, ↓w_iinc_3, ↓w_goto]
    repeat' (first
      | (apply And.intro)
      | (with_reducible refine bX0_firstAbove_2 ?_; simp (disch := first | omega | decide) only [w_nl0, w_nli, w_nlr, ↓w_ts1, ↓w_ts0, w_rcv, w_rfv, w_cs, true_and, and_true, List.length_nil, List.length_cons, Nat.reduceAdd, Nat.reduceLeDiff, Nat.zero_le, Nat.reduceLT, ↓w_nil, ix_nI, nI_leP, nI_ltP, nI_eqP, nI_1, ↓i_inN, i_inN, l_le, l_lt, l_eq, r_le, r_lt, r_eq, sh9, ↓w_iload_1, ↓w_istore_2, ↓w_iconst, ↓w_istore_3, ↓w_iload_3, ↓w_bipush, ↓w_icge, ↓w_aload_0, ↓w_iload_2, ↓w_iv, ↓pm_cl2_2, ↓w_ifeq, ↓w_iinc_3, ↓w_goto, ↓w_ret])
      | (with_reducible refine c_M_has (by omega) ?_; simp (disch := first | omega | decide) only [w_nl0, w_nli, w_nlr, ↓w_ts1, ↓w_ts0, w_rcv, w_rfv, w_cs, true_and, and_true, List.length_nil, List.length_cons, Nat.reduceAdd, Nat.reduceLeDiff, Nat.zero_le, Nat.reduceLT, ↓w_nil, ix_nI, nI_leP, nI_ltP, nI_eqP, nI_1, ↓i_inN, i_inN, l_le, l_lt, l_eq, r_le, r_lt, r_eq, sh9, ↓w_iload_1, ↓w_istore_2, ↓w_iconst, ↓w_istore_3, ↓w_iload_3, ↓w_bipush, ↓w_icge, ↓w_aload_0, ↓w_iload_2, ↓w_iv, ↓pm_cl2_2, ↓w_ifeq, ↓w_iinc_3, ↓w_goto, ↓w_ret])
      | (with_reducible refine c_fatherOf (by omega) ?_; simp (disch := first | omega | decide) only [w_nl0, w_nli, w_nlr, ↓w_ts1, ↓w_ts0, w_rcv, w_rfv, w_cs, true_and, and_true, List.length_nil, List.length_cons, Nat.reduceAdd, Nat.reduceLeDiff, Nat.zero_le, Nat.reduceLT, ↓w_nil, ix_nI, nI_leP, nI_ltP, nI_eqP, nI_1, ↓i_inN, i_inN, l_le, l_lt, l_eq, r_le, r_lt, r_eq, sh9, ↓w_iload_1, ↓w_istore_2, ↓w_iconst, ↓w_istore_3, ↓w_iload_3, ↓w_bipush, ↓w_icge, ↓w_aload_0, ↓w_iload_2, ↓w_iv, ↓pm_cl2_2, ↓w_ifeq, ↓w_iinc_3, ↓w_goto, ↓w_ret])
      | (simp only [w_in])
      | (intro _))
    all_goals grind
def factV (I : pm_MI) (m n : Nat) (w : Int32) : Int32 := if w = 0 then I 10 m else if w = 1 then I 11 m else if w = 2 then I 12 m else if w = 3 then I 13 m else if w = 4 then I 14 m else if w = 5 then I 15 m else itr (fun k a => if I 12 k = nI m then a + 1 else a) 0 n
theorem c_fact {m n : Nat} {w : Int32} (hd : 2 ≤ d) (hn : I 9 9 = nI n) (hn40 : n ≤ 40) (hm : m < n) (hQ : Q (some (.int (factV I m n w))) SH I J) : pm_C g d 19 [.ref 9, .int (nI m), .int w] Q SH I J := by
  have h1 := hasM_nI hn hm hn40
  unfold factV at hQ
  refine eX0_fact (by omega) ?_
  repeat' (first
    | (apply And.intro)
    | (with_reducible refine bX0_fact_0 ?_; simp (disch := first | omega | decide) only [w_nl0, w_nli, w_nlr, ↓w_ts1, ↓w_ts0, w_rcv, w_rfv, w_cs, true_and, and_true, List.length_nil, List.length_cons, Nat.reduceAdd, Nat.reduceLeDiff, Nat.zero_le, Nat.reduceLT, ↓w_nil, ix_nI, nI_leP, nI_ltP, nI_eqP, nI_1, ↓i_inN, i_inN, l_le, l_lt, l_eq, r_le, r_lt, r_eq, sh9, ↓w_aload_0, ↓w_iload_1, ↓w_iv, ↓pm_cl2_2, ↓w_ifne, ↓w_bipush, ↓w_ret, ↓w_iload_2, ↓w_sw_X0_fact_12, ↓w_gf3, ↓w_iaload])
    | (with_reducible refine bX0_fact_1 ?_; simp (disch := first | omega | decide) only [w_nl0, w_nli, w_nlr, ↓w_ts1, ↓w_ts0, w_rcv, w_rfv, w_cs, true_and, and_true, List.length_nil, List.length_cons, Nat.reduceAdd, Nat.reduceLeDiff, Nat.zero_le, Nat.reduceLT, ↓w_nil, ix_nI, nI_leP, nI_ltP, nI_eqP, nI_1, ↓i_inN, i_inN, l_le, l_lt, l_eq, r_le, r_lt, r_eq, sh9, ↓w_aload_0, ↓w_iload_1, ↓w_iv, ↓pm_cl2_2, ↓w_ifne, ↓w_bipush, ↓w_ret, ↓w_iload_2, ↓w_sw_X0_fact_12, ↓w_gf3, ↓w_iaload])
    | (with_reducible refine bX0_fact_2 ?_; simp (disch := first | omega | decide) only [w_nl0, w_nli, w_nlr, ↓w_ts1, ↓w_ts0, w_rcv, w_rfv, w_cs, true_and, and_true, List.length_nil, List.length_cons, Nat.reduceAdd, Nat.reduceLeDiff, Nat.zero_le, Nat.reduceLT, ↓w_nil, ix_nI, nI_leP, nI_ltP, nI_eqP, nI_1, ↓i_inN, i_inN, l_le, l_lt, l_eq, r_le, r_lt, r_eq, sh9, ↓w_aload_0, ↓w_iload_1, ↓w_iv, ↓pm_cl2_2, ↓w_ifne, ↓w_bipush, ↓w_ret, ↓w_iload_2, ↓w_sw_X0_fact_12, ↓w_gf3, ↓w_iaload])
    | (with_reducible refine bX0_fact_3 ?_; simp (disch := first | omega | decide) only [w_nl0, w_nli, w_nlr, ↓w_ts1, ↓w_ts0, w_rcv, w_rfv, w_cs, true_and, and_true, List.length_nil, List.length_cons, Nat.reduceAdd, Nat.reduceLeDiff, Nat.zero_le, Nat.reduceLT, ↓w_nil, ix_nI, nI_leP, nI_ltP, nI_eqP, nI_1, ↓i_inN, i_inN, l_le, l_lt, l_eq, r_le, r_lt, r_eq, sh9, ↓w_aload_0, ↓w_iload_1, ↓w_iv, ↓pm_cl2_2, ↓w_ifne, ↓w_bipush, ↓w_ret, ↓w_iload_2, ↓w_sw_X0_fact_12, ↓w_gf3, ↓w_iaload])
    | (with_reducible refine bX0_fact_4 ?_; simp (disch := first | omega | decide) only [w_nl0, w_nli, w_nlr, ↓w_ts1, ↓w_ts0, w_rcv, w_rfv, w_cs, true_and, and_true, List.length_nil, List.length_cons, Nat.reduceAdd, Nat.reduceLeDiff, Nat.zero_le, Nat.reduceLT, ↓w_nil, ix_nI, nI_leP, nI_ltP, nI_eqP, nI_1, ↓i_inN, i_inN, l_le, l_lt, l_eq, r_le, r_lt, r_eq, sh9, ↓w_aload_0, ↓w_iload_1, ↓w_iv, ↓pm_cl2_2, ↓w_ifne, ↓w_bipush, ↓w_ret, ↓w_iload_2, ↓w_sw_X0_fact_12, ↓w_gf3, ↓w_iaload])
    | (with_reducible refine bX0_fact_5 ?_; simp (disch := first | omega | decide) only [w_nl0, w_nli, w_nlr, ↓w_ts1, ↓w_ts0, w_rcv, w_rfv, w_cs, true_and, and_true, List.length_nil, List.length_cons, Nat.reduceAdd, Nat.reduceLeDiff, Nat.zero_le, Nat.reduceLT, ↓w_nil, ix_nI, nI_leP, nI_ltP, nI_eqP, nI_1, ↓i_inN, i_inN, l_le, l_lt, l_eq, r_le, r_lt, r_eq, sh9, ↓w_aload_0, ↓w_iload_1, ↓w_iv, ↓pm_cl2_2, ↓w_ifne, ↓w_bipush, ↓w_ret, ↓w_iload_2, ↓w_sw_X0_fact_12, ↓w_gf3, ↓w_iaload])
    | (with_reducible refine bX0_fact_6 ?_; simp (disch := first | omega | decide) only [w_nl0, w_nli, w_nlr, ↓w_ts1, ↓w_ts0, w_rcv, w_rfv, w_cs, true_and, and_true, List.length_nil, List.length_cons, Nat.reduceAdd, Nat.reduceLeDiff, Nat.zero_le, Nat.reduceLT, ↓w_nil, ix_nI, nI_leP, nI_ltP, nI_eqP, nI_1, ↓i_inN, i_inN, l_le, l_lt, l_eq, r_le, r_lt, r_eq, sh9, ↓w_aload_0, ↓w_iload_1, ↓w_iv, ↓pm_cl2_2, ↓w_ifne, ↓w_bipush, ↓w_ret, ↓w_iload_2, ↓w_sw_X0_fact_12, ↓w_gf3, ↓w_iaload])
    | (with_reducible refine bX0_fact_7 ?_; simp (disch := first | omega | decide) only [w_nl0, w_nli, w_nlr, ↓w_ts1, ↓w_ts0, w_rcv, w_rfv, w_cs, true_and, and_true, List.length_nil, List.length_cons, Nat.reduceAdd, Nat.reduceLeDiff, Nat.zero_le, Nat.reduceLT, ↓w_nil, ix_nI, nI_leP, nI_ltP, nI_eqP, nI_1, ↓i_inN, i_inN, l_le, l_lt, l_eq, r_le, r_lt, r_eq, sh9, ↓w_aload_0, ↓w_iload_1, ↓w_iv, ↓pm_cl2_2, ↓w_ifne, ↓w_bipush, ↓w_ret, ↓w_iload_2, ↓w_sw_X0_fact_12, ↓w_gf3, ↓w_iaload])
    | (with_reducible refine bX0_fact_8 ?_; simp (disch := first | omega | decide) only [w_nl0, w_nli, w_nlr, ↓w_ts1, ↓w_ts0, w_rcv, w_rfv, w_cs, true_and, and_true, List.length_nil, List.length_cons, Nat.reduceAdd, Nat.reduceLeDiff, Nat.zero_le, Nat.reduceLT, ↓w_nil, ix_nI, nI_leP, nI_ltP, nI_eqP, nI_1, ↓i_inN, i_inN, l_le, l_lt, l_eq, r_le, r_lt, r_eq, sh9, ↓w_aload_0, ↓w_iload_1, ↓w_iv, ↓pm_cl2_2, ↓w_ifne, ↓w_bipush, ↓w_ret, ↓w_iload_2, ↓w_sw_X0_fact_12, ↓w_gf3, ↓w_iaload])
    | (with_reducible refine c_M_has (by omega) ?_; simp (disch := first | omega | decide) only [w_nl0, w_nli, w_nlr, ↓w_ts1, ↓w_ts0, w_rcv, w_rfv, w_cs, true_and, and_true, List.length_nil, List.length_cons, Nat.reduceAdd, Nat.reduceLeDiff, Nat.zero_le, Nat.reduceLT, ↓w_nil, ix_nI, nI_leP, nI_ltP, nI_eqP, nI_1, ↓i_inN, i_inN, l_le, l_lt, l_eq, r_le, r_lt, r_eq, sh9, ↓w_aload_0, ↓w_iload_1, ↓w_iv, ↓pm_cl2_2, ↓w_ifne, ↓w_bipush, ↓w_ret, ↓w_iload_2, ↓w_sw_X0_fact_12, ↓w_gf3, ↓w_iaload])
    | (with_reducible refine c_grown (by omega) hn hn40 ?_; simp (disch := first | omega | decide) only [w_nl0, w_nli, w_nlr, ↓w_ts1, ↓w_ts0, w_rcv, w_rfv, w_cs, true_and, and_true, List.length_nil, List.length_cons, Nat.reduceAdd, Nat.reduceLeDiff, Nat.zero_le, Nat.reduceLT, ↓w_nil, ix_nI, nI_leP, nI_ltP, nI_eqP, nI_1, ↓i_inN, i_inN, l_le, l_lt, l_eq, r_le, r_lt, r_eq, sh9, ↓w_aload_0, ↓w_iload_1, ↓w_iv, ↓pm_cl2_2, ↓w_ifne, ↓w_bipush, ↓w_ret, ↓w_iload_2, ↓w_sw_X0_fact_12, ↓w_gf3, ↓w_iaload])
    | (simp only [w_in])
    | (intro _))
  all_goals grind
theorem c_turnOn {m t : Int32} (hd : 3 ≤ d) (hQ : Q (some (.int (if (if hasM I m then I 10 m.toNatClampNeg else -9) = 1 ∨ (if hasM I m then I 10 m.toNatClampNeg else -9) = 3 then 999 - t else t))) SH I J) : pm_C g d 20 [.ref 9, .int m, .int t] Q SH I J := by
  refine eX0_turnOn (by omega) ?_
  repeat' (first
    | (apply And.intro)
    | (with_reducible refine bX0_turnOn_0 ?_; simp (disch := first | omega | decide) only [w_nl0, w_nli, w_nlr, ↓w_ts1, ↓w_ts0, w_rcv, w_rfv, w_cs, true_and, and_true, List.length_nil, List.length_cons, Nat.reduceAdd, Nat.reduceLeDiff, Nat.zero_le, Nat.reduceLT, ↓w_nil, ix_nI, nI_leP, nI_ltP, nI_eqP, nI_1, ↓i_inN, i_inN, l_le, l_lt, l_eq, r_le, r_lt, r_eq, sh9, ↓w_aload_0, ↓w_iload_1, ↓w_iv, ↓pm_cl2_2, ↓w_istore_3, ↓w_iload_3, ↓w_iconst, ↓w_iceq, ↓w_icne, ↓w_sipush, ↓w_iload_2, ↓w_isub, ↓w_goto, ↓w_ret])
    | (with_reducible refine bX0_turnOn_1 ?_; simp (disch := first | omega | decide) only [w_nl0, w_nli, w_nlr, ↓w_ts1, ↓w_ts0, w_rcv, w_rfv, w_cs, true_and, and_true, List.length_nil, List.length_cons, Nat.reduceAdd, Nat.reduceLeDiff, Nat.zero_le, Nat.reduceLT, ↓w_nil, ix_nI, nI_leP, nI_ltP, nI_eqP, nI_1, ↓i_inN, i_inN, l_le, l_lt, l_eq, r_le, r_lt, r_eq, sh9, ↓w_aload_0, ↓w_iload_1, ↓w_iv, ↓pm_cl2_2, ↓w_istore_3, ↓w_iload_3, ↓w_iconst, ↓w_iceq, ↓w_icne, ↓w_sipush, ↓w_iload_2, ↓w_isub, ↓w_goto, ↓w_ret])
    | (with_reducible refine bX0_turnOn_2 ?_; simp (disch := first | omega | decide) only [w_nl0, w_nli, w_nlr, ↓w_ts1, ↓w_ts0, w_rcv, w_rfv, w_cs, true_and, and_true, List.length_nil, List.length_cons, Nat.reduceAdd, Nat.reduceLeDiff, Nat.zero_le, Nat.reduceLT, ↓w_nil, ix_nI, nI_leP, nI_ltP, nI_eqP, nI_1, ↓i_inN, i_inN, l_le, l_lt, l_eq, r_le, r_lt, r_eq, sh9, ↓w_aload_0, ↓w_iload_1, ↓w_iv, ↓pm_cl2_2, ↓w_istore_3, ↓w_iload_3, ↓w_iconst, ↓w_iceq, ↓w_icne, ↓w_sipush, ↓w_iload_2, ↓w_isub, ↓w_goto, ↓w_ret])
    | (with_reducible refine bX0_turnOn_3 ?_; simp (disch := first | omega | decide) only [w_nl0, w_nli, w_nlr, ↓w_ts1, ↓w_ts0, w_rcv, w_rfv, w_cs, true_and, and_true, List.length_nil, List.length_cons, Nat.reduceAdd, Nat.reduceLeDiff, Nat.zero_le, Nat.reduceLT, ↓w_nil, ix_nI, nI_leP, nI_ltP, nI_eqP, nI_1, ↓i_inN, i_inN, l_le, l_lt, l_eq, r_le, r_lt, r_eq, sh9, ↓w_aload_0, ↓w_iload_1, ↓w_iv, ↓pm_cl2_2, ↓w_istore_3, ↓w_iload_3, ↓w_iconst, ↓w_iceq, ↓w_icne, ↓w_sipush, ↓w_iload_2, ↓w_isub, ↓w_goto, ↓w_ret])
    | (with_reducible refine c_kindOf (by omega) ?_; simp (disch := first | omega | decide) only [w_nl0, w_nli, w_nlr, ↓w_ts1, ↓w_ts0, w_rcv, w_rfv, w_cs, true_and, and_true, List.length_nil, List.length_cons, Nat.reduceAdd, Nat.reduceLeDiff, Nat.zero_le, Nat.reduceLT, ↓w_nil, ix_nI, nI_leP, nI_ltP, nI_eqP, nI_1, ↓i_inN, i_inN, l_le, l_lt, l_eq, r_le, r_lt, r_eq, sh9, ↓w_aload_0, ↓w_iload_1, ↓w_iv, ↓pm_cl2_2, ↓w_istore_3, ↓w_iload_3, ↓w_iconst, ↓w_iceq, ↓w_icne, ↓w_sipush, ↓w_iload_2, ↓w_isub, ↓w_goto, ↓w_ret])
    | (simp only [w_in])
    | (intro _))
  all_goals grind
theorem c_M_mix {h : Int64} {n : Nat} (hd : 3 ≤ d) (hn : I 9 9 = nI n) (hn40 : n ≤ 40) (hQ : Q (some (.long (itr (fun m h => itr (fun w h => 31 * h + (factV I m n (nI w)).toInt64) h 7) h n))) SH I J) : pm_C g d 21 [.ref 9, .long h] Q SH I J := by
  refine eX0_mix (by omega) ?_
  refine bX0_mix_0 ?_
  simp (disch := first | omega | decide) only [w_nl0, w_nli, w_nlr, ↓w_ts1, ↓w_ts0, w_rcv, w_rfv, w_cs, true_and, and_true, List.length_nil, List.length_cons, Nat.reduceAdd, Nat.reduceLeDiff, Nat.zero_le, Nat.reduceLT, ↓w_nil, ix_nI, nI_leP, nI_ltP, nI_eqP, nI_1, ↓i_inN, i_inN, l_le, l_lt, l_eq, r_le, r_lt, r_eq, sh9, ↓w_iconst, ↓w_istore_3]
  refine pm_for (f := fun m h => itr (fun w h => 31 * h + (factV I m n (nI w)).toInt64) h 7) (U := fun k a => UU g (d - 1) 21 kX0_mix (pm_rm d 21) Q 1 [some (.ref 9), some (.long a), none, some (.int (nI k)), none] [] SH I J (0, 0)) n (fun k b hk hb w => ?_) ?_
  · refine bX0_mix_1 ?_
    simp (disch := first | omega | decide) only [w_nl0, w_nli, w_nlr, ↓w_ts1, ↓w_ts0, w_rcv, w_rfv, w_cs, true_and, and_true, List.length_nil, List.length_cons, Nat.reduceAdd, Nat.reduceLeDiff, Nat.zero_le, Nat.reduceLT, ↓w_nil, ix_nI, nI_leP, nI_ltP, nI_eqP, nI_1, ↓i_inN, i_inN, l_le, l_lt, l_eq, r_le, r_lt, r_eq, sh9, ↓w_iload_3, ↓w_aload_0, ↓w_gf0, ↓w_icge, ↓w_iconst, ↓w_istore_4, hn]
    repeat' (first
      | (apply And.intro)
      | (simp only [w_in])
      | (intro _))
    all_goals try grind
    refine pm_for (f := fun w h => 31 * h + (factV I k n (nI w)).toInt64) (U := fun j (a : Int64) => UU g (d - 1) 21 kX0_mix (pm_rm d 21) Q 2 [some (.ref 9), some (.long a), none, some (.int (nI k)), some (.int (nI j))] [] SH I J (0, 0)) 7 (fun j b2 hj hb2 w2 => ?_) ?_
    · refine bX0_mix_2 ?_
      simp (disch := first | omega | decide) only [w_nl0, w_nli, w_nlr, ↓w_ts1, ↓w_ts0, w_rcv, w_rfv, w_cs, true_and, and_true, List.length_nil, List.length_cons, Nat.reduceAdd, Nat.reduceLeDiff, Nat.zero_le, Nat.reduceLT, ↓w_nil, ix_nI, nI_leP, nI_ltP, nI_eqP, nI_1, ↓i_inN, i_inN, l_le, l_lt, l_eq, r_le, r_lt, r_eq, sh9, ↓w_iload_4, ↓w_bipush, ↓w_icgt, ↓w_ldc2_10, ↓w_lload_1, ↓w_lmul, ↓w_aload_0, ↓w_iload_3, ↓w_iv, ↓pm_cl2_3, ↓w_i2l, ↓w_ladd, ↓w_lstore_1, ↓w_iinc_4, ↓w_goto]
      repeat' (first
        | (apply And.intro)
        | (with_reducible refine c_fact (by omega) hn hn40 hk ?_; simp (disch := first | omega | decide) only [w_nl0, w_nli, w_nlr, ↓w_ts1, ↓w_ts0, w_rcv, w_rfv, w_cs, true_and, and_true, List.length_nil, List.length_cons, Nat.reduceAdd, Nat.reduceLeDiff, Nat.zero_le, Nat.reduceLT, ↓w_nil, ix_nI, nI_leP, nI_ltP, nI_eqP, nI_1, ↓i_inN, i_inN, l_le, l_lt, l_eq, r_le, r_lt, r_eq, sh9, ↓w_iconst, ↓w_istore_3, ↓w_iload_3, ↓w_aload_0, ↓w_gf0, ↓w_icge, ↓w_istore_4, ↓w_iload_4, ↓w_bipush, ↓w_icgt, ↓w_ldc2_10, ↓w_lload_1, ↓w_lmul, ↓w_iv, ↓pm_cl2_3, ↓w_i2l, ↓w_ladd, ↓w_lstore_1, ↓w_iinc_4, ↓w_goto, ↓w_iinc_3, ↓w_lret])
        | (simp only [w_in])
        | (intro _))
      all_goals grind
    · refine bX0_mix_2 ?_
      simp (disch := first | omega | decide) only [w_nl0, w_nli, w_nlr, ↓w_ts1, ↓w_ts0, w_rcv, w_rfv, w_cs, true_and, and_true, List.length_nil, List.length_cons, Nat.reduceAdd, Nat.reduceLeDiff, Nat.zero_le, Nat.reduceLT, ↓w_nil, ix_nI, nI_leP, nI_ltP, nI_eqP, nI_1, ↓i_inN, i_inN, l_le, l_lt, l_eq, r_le, r_lt, r_eq, sh9, ↓w_iload_4, ↓w_bipush, ↓w_icgt, ↓w_ldc2_10, ↓w_lload_1, ↓w_lmul, ↓w_aload_0, ↓w_iload_3, ↓w_iv, ↓pm_cl2_3, ↓w_i2l, ↓w_ladd, ↓w_lstore_1, ↓w_iinc_4, ↓w_goto]
      repeat' (first
        | (apply And.intro)
        | (with_reducible refine bX0_mix_3 ?_; simp (disch := first | omega | decide) only [w_nl0, w_nli, w_nlr, ↓w_ts1, ↓w_ts0, w_rcv, w_rfv, w_cs, true_and, and_true, List.length_nil, List.length_cons, Nat.reduceAdd, Nat.reduceLeDiff, Nat.zero_le, Nat.reduceLT, ↓w_nil, ix_nI, nI_leP, nI_ltP, nI_eqP, nI_1, ↓i_inN, i_inN, l_le, l_lt, l_eq, r_le, r_lt, r_eq, sh9, ↓w_iconst, ↓w_istore_3, ↓w_iload_3, ↓w_aload_0, ↓w_gf0, ↓w_icge, ↓w_istore_4, ↓w_iload_4, ↓w_bipush, ↓w_icgt, ↓w_ldc2_10, ↓w_lload_1, ↓w_lmul, ↓w_iv, ↓pm_cl2_3, ↓w_i2l, ↓w_ladd, ↓w_lstore_1, ↓w_iinc_4, ↓w_goto, ↓w_iinc_3, ↓w_lret])
        | (simp only [w_in])
        | (intro _))
      all_goals first | exact u_less [some (.ref 9), some (.long _), none, some (.int (nI (k + 1))), none] (by simp [pm_le]) w | grind
  · refine bX0_mix_1 ?_
    simp (disch := first | omega | decide) only [w_nl0, w_nli, w_nlr, ↓w_ts1, ↓w_ts0, w_rcv, w_rfv, w_cs, true_and, and_true, List.length_nil, List.length_cons, Nat.reduceAdd, Nat.reduceLeDiff, Nat.zero_le, Nat.reduceLT, ↓w_nil, ix_nI, nI_leP, nI_ltP, nI_eqP, nI_1, ↓i_inN, i_inN, l_le, l_lt, l_eq, r_le, r_lt, r_eq, sh9, ↓w_iload_3, ↓w_aload_0, ↓w_gf0, ↓w_icge, ↓w_iconst, ↓w_istore_4, hn]
    repeat' (first
      | (apply And.intro)
      | (with_reducible refine bX0_mix_4 ?_; simp (disch := first | omega | decide) only [w_nl0, w_nli, w_nlr, ↓w_ts1, ↓w_ts0, w_rcv, w_rfv, w_cs, true_and, and_true, List.length_nil, List.length_cons, Nat.reduceAdd, Nat.reduceLeDiff, Nat.zero_le, Nat.reduceLT, ↓w_nil, ix_nI, nI_leP, nI_ltP, nI_eqP, nI_1, ↓i_inN, i_inN, l_le, l_lt, l_eq, r_le, r_lt, r_eq, sh9, ↓w_iconst, ↓w_istore_3, ↓w_iload_3, ↓w_aload_0, ↓w_gf0, ↓w_icge, ↓w_istore_4, ↓w_iload_4, ↓w_bipush, ↓w_icgt, ↓w_ldc2_10, ↓w_lload_1, ↓w_lmul, ↓w_iv, ↓pm_cl2_3, ↓w_i2l, ↓w_ladd, ↓w_lstore_1, ↓w_iinc_4, ↓w_goto, ↓w_iinc_3, ↓w_lret])
      | (simp only [w_in])
      | (intro _))
    all_goals grind
-- presses
theorem c_P_stamper {p f : Nat} (hd : 2 ≤ d) (hp : p < 6) (hf : f < 2) (hQ : Q (some (.int (I 20 (2 * p + f)))) SH I J) : pm_C g d 41 [.ref 19, .int (nI p), .int (nI f)] Q SH I J := by
  refine eX3_stamper (by omega) ?_
  repeat' (first
    | (apply And.intro)
    | (with_reducible refine bX3_stamper_0 ?_; simp (disch := first | omega | decide) only [w_nl0, w_nli, w_nlr, ↓w_ts1, ↓w_ts0, w_rcv, w_rfv, w_cs, true_and, and_true, List.length_nil, List.length_cons, Nat.reduceAdd, Nat.reduceLeDiff, Nat.zero_le, Nat.reduceLT, ↓w_nil, ix_nI, nI_leP, nI_ltP, nI_eqP, nI_1, ↓i_inN, i_inN, l_le, l_lt, l_eq, r_le, r_lt, r_eq, sh19, ↓w_iload_1, ↓w_bipush, ↓w_is, ↓pm_cl1_2, ↓w_ifeq, ↓w_iload_2, ↓w_iconst, ↓w_ifne, ↓w_ret, ↓w_aload_0, ↓w_gf3, ↓w_imul, ↓w_iadd, ↓w_iaload, nI_m2, nI_add])
    | (with_reducible refine bX3_stamper_1 ?_; simp (disch := first | omega | decide) only [w_nl0, w_nli, w_nlr, ↓w_ts1, ↓w_ts0, w_rcv, w_rfv, w_cs, true_and, and_true, List.length_nil, List.length_cons, Nat.reduceAdd, Nat.reduceLeDiff, Nat.zero_le, Nat.reduceLT, ↓w_nil, ix_nI, nI_leP, nI_ltP, nI_eqP, nI_1, ↓i_inN, i_inN, l_le, l_lt, l_eq, r_le, r_lt, r_eq, sh19, ↓w_iload_1, ↓w_bipush, ↓w_is, ↓pm_cl1_2, ↓w_ifeq, ↓w_iload_2, ↓w_iconst, ↓w_ifne, ↓w_ret, ↓w_aload_0, ↓w_gf3, ↓w_imul, ↓w_iadd, ↓w_iaload, nI_m2, nI_add])
    | (with_reducible refine bX3_stamper_2 ?_; simp (disch := first | omega | decide) only [w_nl0, w_nli, w_nlr, ↓w_ts1, ↓w_ts0, w_rcv, w_rfv, w_cs, true_and, and_true, List.length_nil, List.length_cons, Nat.reduceAdd, Nat.reduceLeDiff, Nat.zero_le, Nat.reduceLT, ↓w_nil, ix_nI, nI_leP, nI_ltP, nI_eqP, nI_1, ↓i_inN, i_inN, l_le, l_lt, l_eq, r_le, r_lt, r_eq, sh19, ↓w_iload_1, ↓w_bipush, ↓w_is, ↓pm_cl1_2, ↓w_ifeq, ↓w_iload_2, ↓w_iconst, ↓w_ifne, ↓w_ret, ↓w_aload_0, ↓w_gf3, ↓w_imul, ↓w_iadd, ↓w_iaload, nI_m2, nI_add])
    | (with_reducible refine c_below (by omega) ?_; simp (disch := first | omega | decide) only [w_nl0, w_nli, w_nlr, ↓w_ts1, ↓w_ts0, w_rcv, w_rfv, w_cs, true_and, and_true, List.length_nil, List.length_cons, Nat.reduceAdd, Nat.reduceLeDiff, Nat.zero_le, Nat.reduceLT, ↓w_nil, ix_nI, nI_leP, nI_ltP, nI_eqP, nI_1, ↓i_inN, i_inN, l_le, l_lt, l_eq, r_le, r_lt, r_eq, sh19, ↓w_iload_1, ↓w_bipush, ↓w_is, ↓pm_cl1_2, ↓w_ifeq, ↓w_iload_2, ↓w_iconst, ↓w_ifne, ↓w_ret, ↓w_aload_0, ↓w_gf3, ↓w_imul, ↓w_iadd, ↓w_iaload, nI_m2, nI_add])
    | (simp only [w_in])
    | (intro _))
  all_goals grind
theorem c_P_stamper0 {p : Nat} (hd : 2 ≤ d) (hp : p < 6) (hQ : Q (some (.int (I 20 (2 * p)))) SH I J) : pm_C g d 41 [.ref 19, .int (nI p), .int 0] Q SH I J := c_P_stamper (f := 0) hd hp (by omega) hQ
theorem c_P_stamper1 {p : Nat} (hd : 2 ≤ d) (hp : p < 6) (hQ : Q (some (.int (I 20 (2 * p + 1)))) SH I J) : pm_C g d 41 [.ref 19, .int (nI p), .int 1] Q SH I J := c_P_stamper (f := 1) hd hp (by omega) hQ
theorem c_P_empty {p : Nat} (hd : 3 ≤ d) (hp : p < 6) (hQ : Q (some (.int (if I 20 (2 * p) = -9 then 1 else 0))) SH I J) : pm_C g d 42 [.ref 19, .int (nI p)] Q SH I J := by
  refine eX3_empty (by omega) ?_
  repeat' (first
    | (apply And.intro)
    | (with_reducible refine bX3_empty_0 ?_; simp (disch := first | omega | decide) only [w_nl0, w_nli, w_nlr, ↓w_ts1, ↓w_ts0, w_rcv, w_rfv, w_cs, true_and, and_true, List.length_nil, List.length_cons, Nat.reduceAdd, Nat.reduceLeDiff, Nat.zero_le, Nat.reduceLT, ↓w_nil, ix_nI, nI_leP, nI_ltP, nI_eqP, nI_1, ↓i_inN, i_inN, l_le, l_lt, l_eq, r_le, r_lt, r_eq, sh19, ↓w_aload_0, ↓w_iload_1, ↓w_iconst, ↓w_iv, ↓pm_cl2_3, ↓w_bipush, ↓w_icne, ↓w_goto, ↓w_zret])
    | (with_reducible refine bX3_empty_1 ?_; simp (disch := first | omega | decide) only [w_nl0, w_nli, w_nlr, ↓w_ts1, ↓w_ts0, w_rcv, w_rfv, w_cs, true_and, and_true, List.length_nil, List.length_cons, Nat.reduceAdd, Nat.reduceLeDiff, Nat.zero_le, Nat.reduceLT, ↓w_nil, ix_nI, nI_leP, nI_ltP, nI_eqP, nI_1, ↓i_inN, i_inN, l_le, l_lt, l_eq, r_le, r_lt, r_eq, sh19, ↓w_aload_0, ↓w_iload_1, ↓w_iconst, ↓w_iv, ↓pm_cl2_3, ↓w_bipush, ↓w_icne, ↓w_goto, ↓w_zret])
    | (with_reducible refine bX3_empty_2 ?_; simp (disch := first | omega | decide) only [w_nl0, w_nli, w_nlr, ↓w_ts1, ↓w_ts0, w_rcv, w_rfv, w_cs, true_and, and_true, List.length_nil, List.length_cons, Nat.reduceAdd, Nat.reduceLeDiff, Nat.zero_le, Nat.reduceLT, ↓w_nil, ix_nI, nI_leP, nI_ltP, nI_eqP, nI_1, ↓i_inN, i_inN, l_le, l_lt, l_eq, r_le, r_lt, r_eq, sh19, ↓w_aload_0, ↓w_iload_1, ↓w_iconst, ↓w_iv, ↓pm_cl2_3, ↓w_bipush, ↓w_icne, ↓w_goto, ↓w_zret])
    | (with_reducible refine c_P_stamper0 (by omega) hp ?_; simp (disch := first | omega | decide) only [w_nl0, w_nli, w_nlr, ↓w_ts1, ↓w_ts0, w_rcv, w_rfv, w_cs, true_and, and_true, List.length_nil, List.length_cons, Nat.reduceAdd, Nat.reduceLeDiff, Nat.zero_le, Nat.reduceLT, ↓w_nil, ix_nI, nI_leP, nI_ltP, nI_eqP, nI_1, ↓i_inN, i_inN, l_le, l_lt, l_eq, r_le, r_lt, r_eq, sh19, ↓w_aload_0, ↓w_iload_1, ↓w_iconst, ↓w_iv, ↓pm_cl2_3, ↓w_bipush, ↓w_icne, ↓w_goto, ↓w_zret])
    | (simp only [w_in])
    | (intro _))
  all_goals grind
theorem c_hold {m : Int32} (hd : 1 ≤ d) (h1 : (∃ j, j < 12 ∧ I 20 j = m) → Q (some (.int 1)) SH I J) (h0 : (∀ j, j < 12 → ¬ I 20 j = m) → Q (some (.int 0)) SH I J) : pm_C g d 43 [.ref 19, .int m] Q SH I J := by
  refine eX3_hold (by omega) ?_
  refine bX3_hold_0 ?_
  simp (disch := first | omega | decide) only [w_nl0, w_nli, w_nlr, ↓w_ts1, ↓w_ts0, w_rcv, w_rfv, w_cs, true_and, and_true, List.length_nil, List.length_cons, Nat.reduceAdd, Nat.reduceLeDiff, Nat.zero_le, Nat.reduceLT, ↓w_nil, ix_nI, nI_leP, nI_ltP, nI_eqP, nI_1, ↓i_inN, i_inN, l_le, l_lt, l_eq, r_le, r_lt, r_eq, sh19, ↓w_iconst, ↓w_istore_2]
  refine pm_find (U := fun k => UU g (d - 1) 43 kX3_hold (pm_rm d 43) Q 1 [some (.ref 19), some (.int m), some (.int (nI k))] [] SH I J (0, 0)) 12 (fun j => I 20 j = m) (fun k hk hno w => ?_) (fun hno => ?_)
  · refine bX3_hold_1 ?_
    simp (disch := first | omega | decide) only [w_nl0, w_nli, w_nlr, ↓w_ts1, ↓w_ts0, w_rcv, w_rfv, w_cs, true_and, and_true, List.length_nil, List.length_cons, Nat.reduceAdd, Nat.reduceLeDiff, Nat.zero_le, Nat.reduceLT, ↓w_nil, ix_nI, nI_leP, nI_ltP, nI_eqP, nI_1, ↓i_inN, i_inN, l_le, l_lt, l_eq, r_le, r_lt, r_eq, sh19, ↓w_iload_2, ↓w_aload_0, ↓w_gf3, ↓w_alen, ↓w_slen, ↓w_icge, ↓w_iaload, ↓w_iload_1, ↓w_icne, ↓w_iconst, ↓w_zret, l_onI]
    repeat' (first
      | (apply And.intro)
      | (with_reducible refine bX3_hold_2 ?_; simp (disch := first | omega | decide) only [w_nl0, w_nli, w_nlr, ↓w_ts1, ↓w_ts0, w_rcv, w_rfv, w_cs, true_and, and_true, List.length_nil, List.length_cons, Nat.reduceAdd, Nat.reduceLeDiff, Nat.zero_le, Nat.reduceLT, ↓w_nil, ix_nI, nI_leP, nI_ltP, nI_eqP, nI_1, ↓i_inN, i_inN, l_le, l_lt, l_eq, r_le, r_lt, r_eq, sh19, ↓w_iconst, ↓w_istore_2, ↓w_iload_2, ↓w_aload_0, ↓w_gf3, ↓w_alen, ↓w_slen, ↓w_icge, ↓w_iaload, ↓w_iload_1, ↓w_icne, ↓w_zret, ↓w_iinc_2, ↓w_goto])
      | (simp only [w_in])
      | (intro _))
    all_goals grind
  · refine bX3_hold_1 ?_
    simp (disch := first | omega | decide) only [w_nl0, w_nli, w_nlr, ↓w_ts1, ↓w_ts0, w_rcv, w_rfv, w_cs, true_and, and_true, List.length_nil, List.length_cons, Nat.reduceAdd, Nat.reduceLeDiff, Nat.zero_le, Nat.reduceLT, ↓w_nil, ix_nI, nI_leP, nI_ltP, nI_eqP, nI_1, ↓i_inN, i_inN, l_le, l_lt, l_eq, r_le, r_lt, r_eq, sh19, ↓w_iload_2, ↓w_aload_0, ↓w_gf3, ↓w_alen, ↓w_slen, ↓w_icge, ↓w_iaload, ↓w_iload_1, ↓w_icne, ↓w_iconst, ↓w_zret, l_onI]
    repeat' (first
      | (apply And.intro)
      | (with_reducible refine bX3_hold_3 ?_; simp (disch := first | omega | decide) only [w_nl0, w_nli, w_nlr, ↓w_ts1, ↓w_ts0, w_rcv, w_rfv, w_cs, true_and, and_true, List.length_nil, List.length_cons, Nat.reduceAdd, Nat.reduceLeDiff, Nat.zero_le, Nat.reduceLT, ↓w_nil, ix_nI, nI_leP, nI_ltP, nI_eqP, nI_1, ↓i_inN, i_inN, l_le, l_lt, l_eq, r_le, r_lt, r_eq, sh19, ↓w_iconst, ↓w_istore_2, ↓w_iload_2, ↓w_aload_0, ↓w_gf3, ↓w_alen, ↓w_slen, ↓w_icge, ↓w_iaload, ↓w_iload_1, ↓w_icne, ↓w_zret, ↓w_iinc_2, ↓w_goto])
      | (simp only [w_in])
      | (intro _))
    all_goals grind
theorem c_load {p : Nat} {a b : Int32} (hd : 2 ≤ d) (hp : p < 6) (hQ : Q none SH (pm_up (pm_up I 20 (2 * p) a) 20 (2 * p + 1) b) J) : pm_C g d 44 [.ref 19, .int (nI p), .int a, .int b] Q SH I J := by
  refine eX3_load (by omega) ?_
  repeat' (first
    | (apply And.intro)
    | (with_reducible refine bX3_load_0 ?_; simp (disch := first | omega | decide) only [w_nl0, w_nli, w_nlr, ↓w_ts1, ↓w_ts0, w_rcv, w_rfv, w_cs, true_and, and_true, List.length_nil, List.length_cons, Nat.reduceAdd, Nat.reduceLeDiff, Nat.zero_le, Nat.reduceLT, ↓w_nil, ix_nI, nI_leP, nI_ltP, nI_eqP, nI_1, ↓i_inN, i_inN, l_le, l_lt, l_eq, r_le, r_lt, r_eq, sh19, ↓w_iload_1, ↓w_bipush, ↓w_is, ↓pm_cl1_2, ↓w_ifne, ↓w_vret, ↓w_aload_0, ↓w_gf3, ↓w_iconst, ↓w_imul, ↓w_iload_2, ↓w_iastore, ↓w_iadd, ↓w_iload_3, nI_m2])
    | (with_reducible refine bX3_load_1 ?_; simp (disch := first | omega | decide) only [w_nl0, w_nli, w_nlr, ↓w_ts1, ↓w_ts0, w_rcv, w_rfv, w_cs, true_and, and_true, List.length_nil, List.length_cons, Nat.reduceAdd, Nat.reduceLeDiff, Nat.zero_le, Nat.reduceLT, ↓w_nil, ix_nI, nI_leP, nI_ltP, nI_eqP, nI_1, ↓i_inN, i_inN, l_le, l_lt, l_eq, r_le, r_lt, r_eq, sh19, ↓w_iload_1, ↓w_bipush, ↓w_is, ↓pm_cl1_2, ↓w_ifne, ↓w_vret, ↓w_aload_0, ↓w_gf3, ↓w_iconst, ↓w_imul, ↓w_iload_2, ↓w_iastore, ↓w_iadd, ↓w_iload_3, nI_m2])
    | (with_reducible refine c_below (by omega) ?_; simp (disch := first | omega | decide) only [w_nl0, w_nli, w_nlr, ↓w_ts1, ↓w_ts0, w_rcv, w_rfv, w_cs, true_and, and_true, List.length_nil, List.length_cons, Nat.reduceAdd, Nat.reduceLeDiff, Nat.zero_le, Nat.reduceLT, ↓w_nil, ix_nI, nI_leP, nI_ltP, nI_eqP, nI_1, ↓i_inN, i_inN, l_le, l_lt, l_eq, r_le, r_lt, r_eq, sh19, ↓w_iload_1, ↓w_bipush, ↓w_is, ↓pm_cl1_2, ↓w_ifne, ↓w_vret, ↓w_aload_0, ↓w_gf3, ↓w_iconst, ↓w_imul, ↓w_iload_2, ↓w_iastore, ↓w_iadd, ↓w_iload_3, nI_m2])
    | (simp only [w_in])
    | (intro _))
  all_goals grind
theorem c_shift {p : Nat} {a b : Int32} (hd : 2 ≤ d) (hp : p < 6) (hQ : Q none SH (pm_up (pm_up I 21 p a) 22 p b) J) : pm_C g d 45 [.ref 19, .int (nI p), .int a, .int b] Q SH I J := by
  refine eX3_shift (by omega) ?_
  repeat' (first
    | (apply And.intro)
    | (with_reducible refine bX3_shift_0 ?_; simp (disch := first | omega | decide) only [w_nl0, w_nli, w_nlr, ↓w_ts1, ↓w_ts0, w_rcv, w_rfv, w_cs, true_and, and_true, List.length_nil, List.length_cons, Nat.reduceAdd, Nat.reduceLeDiff, Nat.zero_le, Nat.reduceLT, ↓w_nil, ix_nI, nI_leP, nI_ltP, nI_eqP, nI_1, ↓i_inN, i_inN, l_le, l_lt, l_eq, r_le, r_lt, r_eq, sh19, ↓w_iload_1, ↓w_bipush, ↓w_is, ↓pm_cl1_2, ↓w_ifne, ↓w_vret, ↓w_aload_0, ↓w_gf3, ↓w_iload_2, ↓w_iastore, ↓w_iload_3])
    | (with_reducible refine bX3_shift_1 ?_; simp (disch := first | omega | decide) only [w_nl0, w_nli, w_nlr, ↓w_ts1, ↓w_ts0, w_rcv, w_rfv, w_cs, true_and, and_true, List.length_nil, List.length_cons, Nat.reduceAdd, Nat.reduceLeDiff, Nat.zero_le, Nat.reduceLT, ↓w_nil, ix_nI, nI_leP, nI_ltP, nI_eqP, nI_1, ↓i_inN, i_inN, l_le, l_lt, l_eq, r_le, r_lt, r_eq, sh19, ↓w_iload_1, ↓w_bipush, ↓w_is, ↓pm_cl1_2, ↓w_ifne, ↓w_vret, ↓w_aload_0, ↓w_gf3, ↓w_iload_2, ↓w_iastore, ↓w_iload_3])
    | (with_reducible refine c_below (by omega) ?_; simp (disch := first | omega | decide) only [w_nl0, w_nli, w_nlr, ↓w_ts1, ↓w_ts0, w_rcv, w_rfv, w_cs, true_and, and_true, List.length_nil, List.length_cons, Nat.reduceAdd, Nat.reduceLeDiff, Nat.zero_le, Nat.reduceLT, ↓w_nil, ix_nI, nI_leP, nI_ltP, nI_eqP, nI_1, ↓i_inN, i_inN, l_le, l_lt, l_eq, r_le, r_lt, r_eq, sh19, ↓w_iload_1, ↓w_bipush, ↓w_is, ↓pm_cl1_2, ↓w_ifne, ↓w_vret, ↓w_aload_0, ↓w_gf3, ↓w_iload_2, ↓w_iastore, ↓w_iload_3])
    | (simp only [w_in])
    | (intro _))
  all_goals grind
theorem c_P_mix {h : Int64} (hd : 3 ≤ d) (hQ : Q (some (.long (itr (fun p h => 31 * (31 * (31 * (31 * h + (I 20 (2 * p)).toInt64) + (I 20 (2 * p + 1)).toInt64) + (I 21 p).toInt64) + (I 22 p).toInt64) h 6))) SH I J) : pm_C g d 46 [.ref 19, .long h] Q SH I J := by
  refine eX3_mix (by omega) ?_
  refine bX3_mix_0 ?_
  simp (disch := first | omega | decide) only [w_nl0, w_nli, w_nlr, ↓w_ts1, ↓w_ts0, w_rcv, w_rfv, w_cs, true_and, and_true, List.length_nil, List.length_cons, Nat.reduceAdd, Nat.reduceLeDiff, Nat.zero_le, Nat.reduceLT, ↓w_nil, ix_nI, nI_leP, nI_ltP, nI_eqP, nI_1, ↓i_inN, i_inN, l_le, l_lt, l_eq, r_le, r_lt, r_eq, sh19, ↓w_iconst, ↓w_istore_3]
  refine pm_for (f := fun p h => 31 * (31 * (31 * (31 * h + (I 20 (2 * p)).toInt64) + (I 20 (2 * p + 1)).toInt64) + (I 21 p).toInt64) + (I 22 p).toInt64) (U := fun k a => UU g (d - 1) 46 kX3_mix (pm_rm d 46) Q 1 [some (.ref 19), some (.long a), none, some (.int (nI k))] [] SH I J (0, 0)) 6 (fun k b hk hb w => ?_) ?_
  · refine bX3_mix_1 ?_
    simp (disch := first | omega | decide) only [w_nl0, w_nli, w_nlr, ↓w_ts1, ↓w_ts0, w_rcv, w_rfv, w_cs, true_and, and_true, List.length_nil, List.length_cons, Nat.reduceAdd, Nat.reduceLeDiff, Nat.zero_le, Nat.reduceLT, ↓w_nil, ix_nI, nI_leP, nI_ltP, nI_eqP, nI_1, ↓i_inN, i_inN, l_le, l_lt, l_eq, r_le, r_lt, r_eq, sh19, ↓w_iload_3, ↓w_bipush, ↓w_icge, ↓w_ldc2_11, ↓w_lload_1, ↓w_lmul, ↓w_aload_0, ↓w_iconst, ↓w_iv, ↓pm_cl2_3, ↓w_i2l, ↓w_ladd, ↓w_lstore_1, ↓w_gf3, ↓w_iaload, ↓w_iinc_3, ↓w_goto]
    repeat' (first
      | (apply And.intro)
      | (with_reducible refine c_P_stamper0 (by omega) (by omega) ?_; simp (disch := first | omega | decide) only [w_nl0, w_nli, w_nlr, ↓w_ts1, ↓w_ts0, w_rcv, w_rfv, w_cs, true_and, and_true, List.length_nil, List.length_cons, Nat.reduceAdd, Nat.reduceLeDiff, Nat.zero_le, Nat.reduceLT, ↓w_nil, ix_nI, nI_leP, nI_ltP, nI_eqP, nI_1, ↓i_inN, i_inN, l_le, l_lt, l_eq, r_le, r_lt, r_eq, sh19, ↓w_iconst, ↓w_istore_3, ↓w_iload_3, ↓w_bipush, ↓w_icge, ↓w_ldc2_11, ↓w_lload_1, ↓w_lmul, ↓w_aload_0, ↓w_iv, ↓pm_cl2_3, ↓w_i2l, ↓w_ladd, ↓w_lstore_1, ↓w_gf3, ↓w_iaload, ↓w_iinc_3, ↓w_goto, ↓w_lret])
      | (with_reducible refine c_P_stamper1 (by omega) (by omega) ?_; simp (disch := first | omega | decide) only [w_nl0, w_nli, w_nlr, ↓w_ts1, ↓w_ts0, w_rcv, w_rfv, w_cs, true_and, and_true, List.length_nil, List.length_cons, Nat.reduceAdd, Nat.reduceLeDiff, Nat.zero_le, Nat.reduceLT, ↓w_nil, ix_nI, nI_leP, nI_ltP, nI_eqP, nI_1, ↓i_inN, i_inN, l_le, l_lt, l_eq, r_le, r_lt, r_eq, sh19, ↓w_iconst, ↓w_istore_3, ↓w_iload_3, ↓w_bipush, ↓w_icge, ↓w_ldc2_11, ↓w_lload_1, ↓w_lmul, ↓w_aload_0, ↓w_iv, ↓pm_cl2_3, ↓w_i2l, ↓w_ladd, ↓w_lstore_1, ↓w_gf3, ↓w_iaload, ↓w_iinc_3, ↓w_goto, ↓w_lret])
      | (simp only [w_in])
      | (intro _))
    all_goals grind
  · refine bX3_mix_1 ?_
    simp (disch := first | omega | decide) only [w_nl0, w_nli, w_nlr, ↓w_ts1, ↓w_ts0, w_rcv, w_rfv, w_cs, true_and, and_true, List.length_nil, List.length_cons, Nat.reduceAdd, Nat.reduceLeDiff, Nat.zero_le, Nat.reduceLT, ↓w_nil, ix_nI, nI_leP, nI_ltP, nI_eqP, nI_1, ↓i_inN, i_inN, l_le, l_lt, l_eq, r_le, r_lt, r_eq, sh19, ↓w_iload_3, ↓w_bipush, ↓w_icge, ↓w_ldc2_11, ↓w_lload_1, ↓w_lmul, ↓w_aload_0, ↓w_iconst, ↓w_iv, ↓pm_cl2_3, ↓w_i2l, ↓w_ladd, ↓w_lstore_1, ↓w_gf3, ↓w_iaload, ↓w_iinc_3, ↓w_goto]
    repeat' (first
      | (apply And.intro)
      | (with_reducible refine bX3_mix_2 ?_; simp (disch := first | omega | decide) only [w_nl0, w_nli, w_nlr, ↓w_ts1, ↓w_ts0, w_rcv, w_rfv, w_cs, true_and, and_true, List.length_nil, List.length_cons, Nat.reduceAdd, Nat.reduceLeDiff, Nat.zero_le, Nat.reduceLT, ↓w_nil, ix_nI, nI_leP, nI_ltP, nI_eqP, nI_1, ↓i_inN, i_inN, l_le, l_lt, l_eq, r_le, r_lt, r_eq, sh19, ↓w_iconst, ↓w_istore_3, ↓w_iload_3, ↓w_bipush, ↓w_icge, ↓w_ldc2_11, ↓w_lload_1, ↓w_lmul, ↓w_aload_0, ↓w_iv, ↓pm_cl2_3, ↓w_i2l, ↓w_ladd, ↓w_lstore_1, ↓w_gf3, ↓w_iaload, ↓w_iinc_3, ↓w_goto, ↓w_lret])
      | (simp only [w_in])
      | (intro _))
    all_goals grind
end C23
