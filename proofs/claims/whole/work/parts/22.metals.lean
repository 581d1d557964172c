section C22
variable {g : pm_G} {d : Nat} {Q : pm_Po} {S : pm_SS} {I : pm_MI} {J : pm_ML}
abbrev hasM (I : pm_MI) (m : Int32) : Prop := 0 ≤ m ∧ m < I 9 9 ∧ m < 40
theorem c_M_has {m : Int32} (hd : 1 ≤ d) (hQ : Q (some (.int (if hasM I m then 1 else 0))) SH I J) : pm_C g d 1 [.ref 9, .int m] Q SH I J := by
  refine eX0_has (by omega) ?_
  repeat' (first
    | (apply And.intro)
    | (with_reducible refine bX0_has_0 ?_; simp (disch := first | omega | decide) only [w_nl0, w_nli, w_nlr, ↓w_ts1, ↓w_ts0, w_rcv, w_rfv, w_cs, true_and, and_true, List.length_nil, List.length_cons, Nat.reduceAdd, Nat.reduceLeDiff, Nat.zero_le, Nat.reduceLT, ↓w_nil, ix_nI, nI_leP, nI_ltP, nI_eqP, nI_1, ↓i_inN, i_inN, l_le, l_lt, l_eq, r_le, r_lt, r_eq, sh9, ↓w_iload_1, ↓w_iflt, ↓w_aload_0, ↓w_gf0, ↓w_icge, ↓w_bipush, ↓w_iconst, ↓w_goto, ↓w_zret])
    | (with_reducible refine bX0_has_1 ?_; simp (disch := first | omega | decide) only [w_nl0, w_nli, w_nlr, ↓w_ts1, ↓w_ts0, w_rcv, w_rfv, w_cs, true_and, and_true, List.length_nil, List.length_cons, Nat.reduceAdd, Nat.reduceLeDiff, Nat.zero_le, Nat.reduceLT, ↓w_nil, ix_nI, nI_leP, nI_ltP, nI_eqP, nI_1, ↓i_inN, i_inN, l_le, l_lt, l_eq, r_le, r_lt, r_eq, sh9, ↓w_iload_1, ↓w_iflt, ↓w_aload_0, ↓w_gf0, ↓w_icge, ↓w_bipush, ↓w_iconst, ↓w_goto, ↓w_zret])
    | (with_reducible refine bX0_has_2 ?_; simp (disch := first | omega | decide) only [w_nl0, w_nli, w_nlr, ↓w_ts1, ↓w_ts0, w_rcv, w_rfv, w_cs, true_and, and_true, List.length_nil, List.length_cons, Nat.reduceAdd, Nat.reduceLeDiff, Nat.zero_le, Nat.reduceLT, ↓w_nil, ix_nI, nI_leP, nI_ltP, nI_eqP, nI_1, ↓i_inN, i_inN, l_le, l_lt, l_eq, r_le, r_lt, r_eq, sh9, ↓w_iload_1, ↓w_iflt, ↓w_aload_0, ↓w_gf0, ↓w_icge, ↓w_bipush, ↓w_iconst, ↓w_goto, ↓w_zret])
    | (simp only [w_in])
    | (intro _))
  all_goals grind
theorem c_kindOf {m : Int32} (hd : 2 ≤ d) (hQ : Q (some (.int (if hasM I m then I 10 m.toNatClampNeg else -9))) SH I J) : pm_C g d 2 [.ref 9, .int m] Q SH I J := by
  refine eX0_kindOf (by omega) ?_
  repeat' (first
    | (apply And.intro)
    | (with_reducible refine bX0_kindOf_0 ?_; simp (disch := first | omega | decide) only [w_nl0, w_nli, w_nlr, ↓w_ts1, ↓w_ts0, w_rcv, w_rfv, w_cs, true_and, and_true, List.length_nil, List.length_cons, Nat.reduceAdd, Nat.reduceLeDiff, Nat.zero_le, Nat.reduceLT, ↓w_nil, ix_nI, nI_leP, nI_ltP, nI_eqP, nI_1, ↓i_inN, i_inN, l_le, l_lt, l_eq, r_le, r_lt, r_eq, sh9, ↓w_aload_0, ↓w_iload_1, ↓w_iv, ↓pm_cl2_2, ↓w_ifeq, ↓w_gf3, ↓w_iaload, ↓w_goto, ↓w_bipush, ↓w_ret])
    | (with_reducible refine bX0_kindOf_1 ?_; simp (disch := first | omega | decide) only [w_nl0, w_nli, w_nlr, ↓w_ts1, ↓w_ts0, w_rcv, w_rfv, w_cs, true_and, and_true, List.length_nil, List.length_cons, Nat.reduceAdd, Nat.reduceLeDiff, Nat.zero_le, Nat.reduceLT, ↓w_nil, ix_nI, nI_leP, nI_ltP, nI_eqP, nI_1, ↓i_inN, i_inN, l_le, l_lt, l_eq, r_le, r_lt, r_eq, sh9, ↓w_aload_0, ↓w_iload_1, ↓w_iv, ↓pm_cl2_2, ↓w_ifeq, ↓w_gf3, ↓w_iaload, ↓w_goto, ↓w_bipush, ↓w_ret])
    | (with_reducible refine bX0_kindOf_2 ?_; simp (disch := first | omega | decide) only [w_nl0, w_nli, w_nlr, ↓w_ts1, ↓w_ts0, w_rcv, w_rfv, w_cs, true_and, and_true, List.length_nil, List.length_cons, Nat.reduceAdd, Nat.reduceLeDiff, Nat.zero_le, Nat.reduceLT, ↓w_nil, ix_nI, nI_leP, nI_ltP, nI_eqP, nI_1, ↓i_inN, i_inN, l_le, l_lt, l_eq, r_le, r_lt, r_eq, sh9, ↓w_aload_0, ↓w_iload_1, ↓w_iv, ↓pm_cl2_2, ↓w_ifeq, ↓w_gf3, ↓w_iaload, ↓w_goto, ↓w_bipush, ↓w_ret])
    | (with_reducible refine c_M_has (by omega) ?_; simp (disch := first | omega | decide) only [w_nl0, w_nli, w_nlr, ↓w_ts1, ↓w_ts0, w_rcv, w_rfv, w_cs, true_and, and_true, List.length_nil, List.length_cons, Nat.reduceAdd, Nat.reduceLeDiff, Nat.zero_le, Nat.reduceLT, ↓w_nil, ix_nI, nI_leP, nI_ltP, nI_eqP, nI_1, ↓i_inN, i_inN, l_le, l_lt, l_eq, r_le, r_lt, r_eq, sh9, ↓w_aload_0, ↓w_iload_1, ↓w_iv, ↓pm_cl2_2, ↓w_ifeq, ↓w_gf3, ↓w_iaload, ↓w_goto, ↓w_bipush, ↓w_ret])
    | (simp only [w_in])
    | (intro _))
  all_goals grind
theorem c_sideOf {m : Int32} (hd : 2 ≤ d) (hQ : Q (some (.int (if hasM I m then I 11 m.toNatClampNeg else -9))) SH I J) : pm_C g d 3 [.ref 9, .int m] Q SH I J := by
  refine eX0_sideOf (by omega) ?_
  repeat' (first
    | (apply And.intro)
    | (with_reducible refine bX0_sideOf_0 ?_; simp (disch := first | omega | decide) only [w_nl0, w_nli, w_nlr, ↓w_ts1, ↓w_ts0, w_rcv, w_rfv, w_cs, true_and, and_true, List.length_nil, List.length_cons, Nat.reduceAdd, Nat.reduceLeDiff, Nat.zero_le, Nat.reduceLT, ↓w_nil, ix_nI, nI_leP, nI_ltP, nI_eqP, nI_1, ↓i_inN, i_inN, l_le, l_lt, l_eq, r_le, r_lt, r_eq, sh9, ↓w_aload_0, ↓w_iload_1, ↓w_iv, ↓pm_cl2_2, ↓w_ifeq, ↓w_gf3, ↓w_iaload, ↓w_goto, ↓w_bipush, ↓w_ret])
    | (with_reducible refine bX0_sideOf_1 ?_; simp (disch := first | omega | decide) only [w_nl0, w_nli, w_nlr, ↓w_ts1, ↓w_ts0, w_rcv, w_rfv, w_cs, true_and, and_true, List.length_nil, List.length_cons, Nat.reduceAdd, Nat.reduceLeDiff, Nat.zero_le, Nat.reduceLT, ↓w_nil, ix_nI, nI_leP, nI_ltP, nI_eqP, nI_1, ↓i_inN, i_inN, l_le, l_lt, l_eq, r_le, r_lt, r_eq, sh9, ↓w_aload_0, ↓w_iload_1, ↓w_iv, ↓pm_cl2_2, ↓w_ifeq, ↓w_gf3, ↓w_iaload, ↓w_goto, ↓w_bipush, ↓w_ret])
    | (with_reducible refine bX0_sideOf_2 ?_; simp (disch := first | omega | decide) only [w_nl0, w_nli, w_nlr, ↓w_ts1, ↓w_ts0, w_rcv, w_rfv, w_cs, true_and, and_true, List.length_nil, List.length_cons, Nat.reduceAdd, Nat.reduceLeDiff, Nat.zero_le, Nat.reduceLT, ↓w_nil, ix_nI, nI_leP, nI_ltP, nI_eqP, nI_1, ↓i_inN, i_inN, l_le, l_lt, l_eq, r_le, r_lt, r_eq, sh9, ↓w_aload_0, ↓w_iload_1, ↓w_iv, ↓pm_cl2_2, ↓w_ifeq, ↓w_gf3, ↓w_iaload, ↓w_goto, ↓w_bipush, ↓w_ret])
    | (with_reducible refine c_M_has (by omega) ?_; simp (disch := first | omega | decide) only [w_nl0, w_nli, w_nlr, ↓w_ts1, ↓w_ts0, w_rcv, w_rfv, w_cs, true_and, and_true, List.length_nil, List.length_cons, Nat.reduceAdd, Nat.reduceLeDiff, Nat.zero_le, Nat.reduceLT, ↓w_nil, ix_nI, nI_leP, nI_ltP, nI_eqP, nI_1, ↓i_inN, i_inN, l_le, l_lt, l_eq, r_le, r_lt, r_eq, sh9, ↓w_aload_0, ↓w_iload_1, ↓w_iv, ↓pm_cl2_2, ↓w_ifeq, ↓w_gf3, ↓w_iaload, ↓w_goto, ↓w_bipush, ↓w_ret])
    | (simp only [w_in])
    | (intro _))
  all_goals grind
theorem c_fatherOf {m : Int32} (hd : 2 ≤ d) (hQ : Q (some (.int (if hasM I m then I 12 m.toNatClampNeg else -9))) SH I J) : pm_C g d 4 [.ref 9, .int m] Q SH I J := by
  refine eX0_fatherOf (by omega) ?_
  repeat' (first
    | (apply And.intro)
    | (with_reducible refine bX0_fatherOf_0 ?_; simp (disch := first | omega | decide) only [w_nl0, w_nli, w_nlr, ↓w_ts1, ↓w_ts0, w_rcv, w_rfv, w_cs, true_and, and_true, List.length_nil, List.length_cons, Nat.reduceAdd, Nat.reduceLeDiff, Nat.zero_le, Nat.reduceLT, ↓w_nil, ix_nI, nI_leP, nI_ltP, nI_eqP, nI_1, ↓i_inN, i_inN, l_le, l_lt, l_eq, r_le, r_lt, r_eq, sh9, ↓w_aload_0, ↓w_iload_1, ↓w_iv, ↓pm_cl2_2, ↓w_ifeq, ↓w_gf3, ↓w_iaload, ↓w_goto, ↓w_bipush, ↓w_ret])
    | (with_reducible refine bX0_fatherOf_1 ?_; simp (disch := first | omega | decide) only [w_nl0, w_nli, w_nlr, ↓w_ts1, ↓w_ts0, w_rcv, w_rfv, w_cs, true_and, and_true, List.length_nil, List.length_cons, Nat.reduceAdd, Nat.reduceLeDiff, Nat.zero_le, Nat.reduceLT, ↓w_nil, ix_nI, nI_leP, nI_ltP, nI_eqP, nI_1, ↓i_inN, i_inN, l_le, l_lt, l_eq, r_le, r_lt, r_eq, sh9, ↓w_aload_0, ↓w_iload_1, ↓w_iv, ↓pm_cl2_2, ↓w_ifeq, ↓w_gf3, ↓w_iaload, ↓w_goto, ↓w_bipush, ↓w_ret])
    | (with_reducible refine bX0_fatherOf_2 ?_; simp (disch := first | omega | decide) only [w_nl0, w_nli, w_nlr, ↓w_ts1, ↓w_ts0, w_rcv, w_rfv, w_cs, true_and, and_true, List.length_nil, List.length_cons, Nat.reduceAdd, Nat.reduceLeDiff, Nat.zero_le, Nat.reduceLT, ↓w_nil, ix_nI, nI_leP, nI_ltP, nI_eqP, nI_1, ↓i_inN, i_inN, l_le, l_lt, l_eq, r_le, r_lt, r_eq, sh9, ↓w_aload_0, ↓w_iload_1, ↓w_iv, ↓pm_cl2_2, ↓w_ifeq, ↓w_gf3, ↓w_iaload, ↓w_goto, ↓w_bipush, ↓w_ret])
    | (with_reducible refine c_M_has (by omega) ?_; simp (disch := first | omega | decide) only [w_nl0, w_nli, w_nlr, ↓w_ts1, ↓w_ts0, w_rcv, w_rfv, w_cs, true_and, and_true, List.length_nil, List.length_cons, Nat.reduceAdd, Nat.reduceLeDiff, Nat.zero_le, Nat.reduceLT, ↓w_nil, ix_nI, nI_leP, nI_ltP, nI_eqP, nI_1, ↓i_inN, i_inN, l_le, l_lt, l_eq, r_le, r_lt, r_eq, sh9, ↓w_aload_0, ↓w_iload_1, ↓w_iv, ↓pm_cl2_2, ↓w_ifeq, ↓w_gf3, ↓w_iaload, ↓w_goto, ↓w_bipush, ↓w_ret])
    | (simp only [w_in])
    | (intro _))
  all_goals grind
theorem c_bornOn {m : Int32} (hd : 2 ≤ d) (hQ : Q (some (.int (if hasM I m then I 14 m.toNatClampNeg else -9))) SH I J) : pm_C g d 5 [.ref 9, .int m] Q SH I J := by
  refine eX0_bornOn (by omega) ?_
  repeat' (first
    | (apply And.intro)
    | (with_reducible refine bX0_bornOn_0 ?_; simp (disch := first | omega | decide) only [w_nl0, w_nli, w_nlr, ↓w_ts1, ↓w_ts0, w_rcv, w_rfv, w_cs, true_and, and_true, List.length_nil, List.length_cons, Nat.reduceAdd, Nat.reduceLeDiff, Nat.zero_le, Nat.reduceLT, ↓w_nil, ix_nI, nI_leP, nI_ltP, nI_eqP, nI_1, ↓i_inN, i_inN, l_le, l_lt, l_eq, r_le, r_lt, r_eq, sh9, ↓w_aload_0, ↓w_iload_1, ↓w_iv, ↓pm_cl2_2, ↓w_ifeq, ↓w_gf3, ↓w_iaload, ↓w_goto, ↓w_bipush, ↓w_ret])
    | (with_reducible refine bX0_bornOn_1 ?_; simp (disch := first | omega | decide) only [w_nl0, w_nli, w_nlr, ↓w_ts1, ↓w_ts0, w_rcv, w_rfv, w_cs, true_and, and_true, List.length_nil, List.length_cons, Nat.reduceAdd, Nat.reduceLeDiff, Nat.zero_le, Nat.reduceLT, ↓w_nil, ix_nI, nI_leP, nI_ltP, nI_eqP, nI_1, ↓i_inN, i_inN, l_le, l_lt, l_eq, r_le, r_lt, r_eq, sh9, ↓w_aload_0, ↓w_iload_1, ↓w_iv, ↓pm_cl2_2, ↓w_ifeq, ↓w_gf3, ↓w_iaload, ↓w_goto, ↓w_bipush, ↓w_ret])
    | (with_reducible refine bX0_bornOn_2 ?_; simp (disch := first | omega | decide) only [w_nl0, w_nli, w_nlr, ↓w_ts1, ↓w_ts0, w_rcv, w_rfv, w_cs, true_and, and_true, List.length_nil, List.length_cons, Nat.reduceAdd, Nat.reduceLeDiff, Nat.zero_le, Nat.reduceLT, ↓w_nil, ix_nI, nI_leP, nI_ltP, nI_eqP, nI_1, ↓i_inN, i_inN, l_le, l_lt, l_eq, r_le, r_lt, r_eq, sh9, ↓w_aload_0, ↓w_iload_1, ↓w_iv, ↓pm_cl2_2, ↓w_ifeq, ↓w_gf3, ↓w_iaload, ↓w_goto, ↓w_bipush, ↓w_ret])
    | (with_reducible refine c_M_has (by omega) ?_; simp (disch := first | omega | decide) only [w_nl0, w_nli, w_nlr, ↓w_ts1, ↓w_ts0, w_rcv, w_rfv, w_cs, true_and, and_true, List.length_nil, List.length_cons, Nat.reduceAdd, Nat.reduceLeDiff, Nat.zero_le, Nat.reduceLT, ↓w_nil, ix_nI, nI_leP, nI_ltP, nI_eqP, nI_1, ↓i_inN, i_inN, l_le, l_lt, l_eq, r_le, r_lt, r_eq, sh9, ↓w_aload_0, ↓w_iload_1, ↓w_iv, ↓pm_cl2_2, ↓w_ifeq, ↓w_gf3, ↓w_iaload, ↓w_goto, ↓w_bipush, ↓w_ret])
    | (simp only [w_in])
    | (intro _))
  all_goals grind
theorem c_howOf {m : Int32} (hd : 2 ≤ d) (hQ : Q (some (.int (if hasM I m then I 15 m.toNatClampNeg else -9))) SH I J) : pm_C g d 6 [.ref 9, .int m] Q SH I J := by
  refine eX0_howOf (by omega) ?_
  repeat' (first
    | (apply And.intro)
    | (with_reducible refine bX0_howOf_0 ?_; simp (disch := first | omega | decide) only [w_nl0, w_nli, w_nlr, ↓w_ts1, ↓w_ts0, w_rcv, w_rfv, w_cs, true_and, and_true, List.length_nil, List.length_cons, Nat.reduceAdd, Nat.reduceLeDiff, Nat.zero_le, Nat.reduceLT, ↓w_nil, ix_nI, nI_leP, nI_ltP, nI_eqP, nI_1, ↓i_inN, i_inN, l_le, l_lt, l_eq, r_le, r_lt, r_eq, sh9, ↓w_aload_0, ↓w_iload_1, ↓w_iv, ↓pm_cl2_2, ↓w_ifeq, ↓w_gf3, ↓w_iaload, ↓w_goto, ↓w_bipush, ↓w_ret])
    | (with_reducible refine bX0_howOf_1 ?_; simp (disch := first | omega | decide) only [w_nl0, w_nli, w_nlr, ↓w_ts1, ↓w_ts0, w_rcv, w_rfv, w_cs, true_and, and_true, List.length_nil, List.length_cons, Nat.reduceAdd, Nat.reduceLeDiff, Nat.zero_le, Nat.reduceLT, ↓w_nil, ix_nI, nI_leP, nI_ltP, nI_eqP, nI_1, ↓i_inN, i_inN, l_le, l_lt, l_eq, r_le, r_lt, r_eq, sh9, ↓w_aload_0, ↓w_iload_1, ↓w_iv, ↓pm_cl2_2, ↓w_ifeq, ↓w_gf3, ↓w_iaload, ↓w_goto, ↓w_bipush, ↓w_ret])
    | (with_reducible refine bX0_howOf_2 ?_; simp (disch := first | omega | decide) only [w_nl0, w_nli, w_nlr, ↓w_ts1, ↓w_ts0, w_rcv, w_rfv, w_cs, true_and, and_true, List.length_nil, List.length_cons, Nat.reduceAdd, Nat.reduceLeDiff, Nat.zero_le, Nat.reduceLT, ↓w_nil, ix_nI, nI_leP, nI_ltP, nI_eqP, nI_1, ↓i_inN, i_inN, l_le, l_lt, l_eq, r_le, r_lt, r_eq, sh9, ↓w_aload_0, ↓w_iload_1, ↓w_iv, ↓pm_cl2_2, ↓w_ifeq, ↓w_gf3, ↓w_iaload, ↓w_goto, ↓w_bipush, ↓w_ret])
    | (with_reducible refine c_M_has (by omega) ?_; simp (disch := first | omega | decide) only [w_nl0, w_nli, w_nlr, ↓w_ts1, ↓w_ts0, w_rcv, w_rfv, w_cs, true_and, and_true, List.length_nil, List.length_cons, Nat.reduceAdd, Nat.reduceLeDiff, Nat.zero_le, Nat.reduceLT, ↓w_nil, ix_nI, nI_leP, nI_ltP, nI_eqP, nI_1, ↓i_inN, i_inN, l_le, l_lt, l_eq, r_le, r_lt, r_eq, sh9, ↓w_aload_0, ↓w_iload_1, ↓w_iv, ↓pm_cl2_2, ↓w_ifeq, ↓w_gf3, ↓w_iaload, ↓w_goto, ↓w_bipush, ↓w_ret])
    | (simp only [w_in])
    | (intro _))
  all_goals grind
theorem c_isCut {s : Int32} {n : Nat} (hd : 1 ≤ d) (hn : I 9 9 = nI n) (hn40 : n ≤ 40) (h1 : (∃ j, j < n ∧ I 10 j = 0 ∧ I 11 j = s) → Q (some (.int 1)) SH I J) (h0 : (∀ j, j < n → ¬ (I 10 j = 0 ∧ I 11 j = s)) → Q (some (.int 0)) SH I J) : pm_C g d 7 [.ref 9, .int s] Q SH I J := by
  refine eX0_isCut (by omega) ?_
  refine bX0_isCut_0 ?_
  simp (disch := first | omega | decide) only [w_nl0, w_nli, w_nlr, ↓w_ts1, ↓w_ts0, w_rcv, w_rfv, w_cs, true_and, and_true, List.length_nil, List.length_cons, Nat.reduceAdd, Nat.reduceLeDiff, Nat.zero_le, Nat.reduceLT, ↓w_nil, ix_nI, nI_leP, nI_ltP, nI_eqP, nI_1, ↓i_inN, i_inN, l_le, l_lt, l_eq, r_le, r_lt, r_eq, sh9, ↓w_iconst, ↓w_istore_2]
  refine pm_find (U := fun k => UU g (d - 1) 7 kX0_isCut (pm_rm d 7) Q 1 [some (.ref 9), some (.int s), some (.int (nI k))] [] SH I J (0, 0)) n (fun j => I 10 j = 0 ∧ I 11 j = s) (fun k hk hno w => ?_) (fun hno => ?_)
  · refine bX0_isCut_1 ?_
    simp (disch := first | omega | decide) only [w_nl0, w_nli, w_nlr, ↓w_ts1, ↓w_ts0, w_rcv, w_rfv, w_cs, true_and, and_true, List.length_nil, List.length_cons, Nat.reduceAdd, Nat.reduceLeDiff, Nat.zero_le, Nat.reduceLT, ↓w_nil, ix_nI, nI_leP, nI_ltP, nI_eqP, nI_1, ↓i_inN, i_inN, l_le, l_lt, l_eq, r_le, r_lt, r_eq, sh9, ↓w_iload_2, ↓w_aload_0, ↓w_gf0, ↓w_icge, ↓w_gf3, ↓w_iaload, ↓w_ifne, ↓w_iload_1, ↓w_icne, ↓w_iconst, ↓w_zret, hn]
    repeat' (first
      | (apply And.intro)
      | (with_reducible refine bX0_isCut_2 ?_; simp (disch := first | omega | decide) only [w_nl0, w_nli, w_nlr, ↓w_ts1, ↓w_ts0, w_rcv, w_rfv, w_cs, true_and, and_true, List.length_nil, List.length_cons, Nat.reduceAdd, Nat.reduceLeDiff, Nat.zero_le, Nat.reduceLT, ↓w_nil, ix_nI, nI_leP, nI_ltP, nI_eqP, nI_1, ↓i_inN, i_inN, l_le, l_lt, l_eq, r_le, r_lt, r_eq, sh9, ↓w_iconst, ↓w_istore_2, ↓w_iload_2, ↓w_aload_0, ↓w_gf0, ↓w_icge, ↓w_gf3, ↓w_iaload, ↓w_ifne, ↓w_iload_1, ↓w_icne, ↓w_zret, ↓w_iinc_2, ↓w_goto])
      | (simp only [w_in])
      | (intro _))
    all_goals grind
  · refine bX0_isCut_1 ?_
    simp (disch := first | omega | decide) only [w_nl0, w_nli, w_nlr, ↓w_ts1, ↓w_ts0, w_rcv, w_rfv, w_cs, true_and, and_true, List.length_nil, List.length_cons, Nat.reduceAdd, Nat.reduceLeDiff, Nat.zero_le, Nat.reduceLT, ↓w_nil, ix_nI, nI_leP, nI_ltP, nI_eqP, nI_1, ↓i_inN, i_inN, l_le, l_lt, l_eq, r_le, r_lt, r_eq, sh9, ↓w_iload_2, ↓w_aload_0, ↓w_gf0, ↓w_icge, ↓w_gf3, ↓w_iaload, ↓w_ifne, ↓w_iload_1, ↓w_icne, ↓w_iconst, ↓w_zret, hn]
    repeat' (first
      | (apply And.intro)
      | (with_reducible refine bX0_isCut_3 ?_; simp (disch := first | omega | decide) only [w_nl0, w_nli, w_nlr, ↓w_ts1, ↓w_ts0, w_rcv, w_rfv, w_cs, true_and, and_true, List.length_nil, List.length_cons, Nat.reduceAdd, Nat.reduceLeDiff, Nat.zero_le, Nat.reduceLT, ↓w_nil, ix_nI, nI_leP, nI_ltP, nI_eqP, nI_1, ↓i_inN, i_inN, l_le, l_lt, l_eq, r_le, r_lt, r_eq, sh9, ↓w_iconst, ↓w_istore_2, ↓w_iload_2, ↓w_aload_0, ↓w_gf0, ↓w_icge, ↓w_gf3, ↓w_iaload, ↓w_ifne, ↓w_iload_1, ↓w_icne, ↓w_zret, ↓w_iinc_2, ↓w_goto])
      | (simp only [w_in])
      | (intro _))
    all_goals grind
theorem c_M_make {k s f h y : Int32} {n : Nat} (hd : 1 ≤ d) (hn : I 9 9 = nI n) (hn40 : n < 40) (hQ : Q (some (.int (nI n))) SH (pm_up (pm_up (pm_up (pm_up (pm_up (pm_up (pm_up I 10 n k) 11 n s) 12 n f) 13 n h) 14 n y) 15 n 0) 9 9 (nI (n + 1))) J) : pm_C g d 8 [.ref 9, .int k, .int s, .int f, .int h, .int y] Q SH I J := by
  refine eX0_make (by omega) ?_
  repeat' (first
    | (apply And.intro)
    | (with_reducible refine bX0_make_0 ?_; simp (disch := first | omega | decide) only [w_nl0, w_nli, w_nlr, ↓w_ts1, ↓w_ts0, w_rcv, w_rfv, w_cs, true_and, and_true, List.length_nil, List.length_cons, Nat.reduceAdd, Nat.reduceLeDiff, Nat.zero_le, Nat.reduceLT, ↓w_nil, ix_nI, nI_leP, nI_ltP, nI_eqP, nI_1, ↓i_inN, i_inN, l_le, l_lt, l_eq, r_le, r_lt, r_eq, sh9, ↓w_aload_0, ↓w_gf0, ↓w_istore_6, ↓w_iload_6, ↓w_iflt, ↓w_bipush, ↓w_iclt, ↓w_ret, ↓w_gf3, ↓w_iload_1, ↓w_iastore, ↓w_iload_2, ↓w_iload_3, ↓w_iload_4, ↓w_iload_5, ↓w_iconst, ↓w_iadd, ↓w_pf0, hn])
    | (with_reducible refine bX0_make_1 ?_; simp (disch := first | omega | decide) only [w_nl0, w_nli, w_nlr, ↓w_ts1, ↓w_ts0, w_rcv, w_rfv, w_cs, true_and, and_true, List.length_nil, List.length_cons, Nat.reduceAdd, Nat.reduceLeDiff, Nat.zero_le, Nat.reduceLT, ↓w_nil, ix_nI, nI_leP, nI_ltP, nI_eqP, nI_1, ↓i_inN, i_inN, l_le, l_lt, l_eq, r_le, r_lt, r_eq, sh9, ↓w_aload_0, ↓w_gf0, ↓w_istore_6, ↓w_iload_6, ↓w_iflt, ↓w_bipush, ↓w_iclt, ↓w_ret, ↓w_gf3, ↓w_iload_1, ↓w_iastore, ↓w_iload_2, ↓w_iload_3, ↓w_iload_4, ↓w_iload_5, ↓w_iconst, ↓w_iadd, ↓w_pf0, hn])
    | (with_reducible refine bX0_make_2 ?_; simp (disch := first | omega | decide) only [w_nl0, w_nli, w_nlr, ↓w_ts1, ↓w_ts0, w_rcv, w_rfv, w_cs, true_and, and_true, List.length_nil, List.length_cons, Nat.reduceAdd, Nat.reduceLeDiff, Nat.zero_le, Nat.reduceLT, ↓w_nil, ix_nI, nI_leP, nI_ltP, nI_eqP, nI_1, ↓i_inN, i_inN, l_le, l_lt, l_eq, r_le, r_lt, r_eq, sh9, ↓w_aload_0, ↓w_gf0, ↓w_istore_6, ↓w_iload_6, ↓w_iflt, ↓w_bipush, ↓w_iclt, ↓w_ret, ↓w_gf3, ↓w_iload_1, ↓w_iastore, ↓w_iload_2, ↓w_iload_3, ↓w_iload_4, ↓w_iload_5, ↓w_iconst, ↓w_iadd, ↓w_pf0, hn])
    | (simp only [w_in])
    | (intro _))
  all_goals grind
theorem c_M_change {m to day : Int32} {c : Nat} (hd : 2 ≤ d) (hm : hasM I m) (hn : I 9 10 = nI c) (hn40 : c < 120) (hQ : Q none SH (pm_up (pm_up (pm_up (pm_up (pm_up I 16 c m) 17 c to) 18 c day) 9 10 (nI (c + 1))) 15 m.toNatClampNeg to) J) : pm_C g d 9 [.ref 9, .int m, .int to, .int day] Q SH I J := by
  refine eX0_change (by omega) ?_
  repeat' (first
    | (apply And.intro)
    | (with_reducible refine bX0_change_0 ?_; simp (disch := first | omega | decide) only [w_nl0, w_nli, w_nlr, ↓w_ts1, ↓w_ts0, w_rcv, w_rfv, w_cs, true_and, and_true, List.length_nil, List.length_cons, Nat.reduceAdd, Nat.reduceLeDiff, Nat.zero_le, Nat.reduceLT, ↓w_nil, ix_nI, nI_leP, nI_ltP, nI_eqP, nI_1, ↓i_inN, i_inN, l_le, l_lt, l_eq, r_le, r_lt, r_eq, sh9, ↓w_aload_0, ↓w_gf0, ↓w_istore_4, ↓w_iload_1, ↓w_iv, ↓pm_cl2_2, ↓w_ifeq, ↓w_iload_4, ↓w_iflt, ↓w_bipush, ↓w_iclt, ↓w_vret, ↓w_gf3, ↓w_iastore, ↓w_iload_2, ↓w_iload_3, ↓w_iconst, ↓w_iadd, ↓w_pf0, hn])
    | (with_reducible refine bX0_change_1 ?_; simp (disch := first | omega | decide) only [w_nl0, w_nli, w_nlr, ↓w_ts1, ↓w_ts0, w_rcv, w_rfv, w_cs, true_and, and_true, List.length_nil, List.length_cons, Nat.reduceAdd, Nat.reduceLeDiff, Nat.zero_le, Nat.reduceLT, ↓w_nil, ix_nI, nI_leP, nI_ltP, nI_eqP, nI_1, ↓i_inN, i_inN, l_le, l_lt, l_eq, r_le, r_lt, r_eq, sh9, ↓w_aload_0, ↓w_gf0, ↓w_istore_4, ↓w_iload_1, ↓w_iv, ↓pm_cl2_2, ↓w_ifeq, ↓w_iload_4, ↓w_iflt, ↓w_bipush, ↓w_iclt, ↓w_vret, ↓w_gf3, ↓w_iastore, ↓w_iload_2, ↓w_iload_3, ↓w_iconst, ↓w_iadd, ↓w_pf0, hn])
    | (with_reducible refine bX0_change_2 ?_; simp (disch := first | omega | decide) only [w_nl0, w_nli, w_nlr, ↓w_ts1, ↓w_ts0, w_rcv, w_rfv, w_cs, true_and, and_true, List.length_nil, List.length_cons, Nat.reduceAdd, Nat.reduceLeDiff, Nat.zero_le, Nat.reduceLT, ↓w_nil, ix_nI, nI_leP, nI_ltP, nI_eqP, nI_1, ↓i_inN, i_inN, l_le, l_lt, l_eq, r_le, r_lt, r_eq, sh9, ↓w_aload_0, ↓w_gf0, ↓w_istore_4, ↓w_iload_1, ↓w_iv, ↓pm_cl2_2, ↓w_ifeq, ↓w_iload_4, ↓w_iflt, ↓w_bipush, ↓w_iclt, ↓w_vret, ↓w_gf3, ↓w_iastore, ↓w_iload_2, ↓w_iload_3, ↓w_iconst, ↓w_iadd, ↓w_pf0, hn])
    | (with_reducible refine c_M_has (by omega) ?_; simp (disch := first | omega | decide) only [w_nl0, w_nli, w_nlr, ↓w_ts1, ↓w_ts0, w_rcv, w_rfv, w_cs, true_and, and_true, List.length_nil, List.length_cons, Nat.reduceAdd, Nat.reduceLeDiff, Nat.zero_le, Nat.reduceLT, ↓w_nil, ix_nI, nI_leP, nI_ltP, nI_eqP, nI_1, ↓i_inN, i_inN, l_le, l_lt, l_eq, r_le, r_lt, r_eq, sh9, ↓w_aload_0, ↓w_gf0, ↓w_istore_4, ↓w_iload_1, ↓w_iv, ↓pm_cl2_2, ↓w_ifeq, ↓w_iload_4, ↓w_iflt, ↓w_bipush, ↓w_iclt, ↓w_vret, ↓w_gf3, ↓w_iastore, ↓w_iload_2, ↓w_iload_3, ↓w_iconst, ↓w_iadd, ↓w_pf0, hn])
    | (simp only [w_in])
    | (intro _))
  all_goals grind
theorem c_howOn {m day : Int32} {c : Nat} (hd : 2 ≤ d) (hm : hasM I m) (hc : I 9 10 = nI c) (hc2 : c ≤ 120) (hQ : Q (some (.int (if day < I 14 m.toNatClampNeg then -9 else itr (fun k a => if I 16 k = m ∧ I 18 k ≤ day then I 17 k else a) 0 c))) SH I J) : pm_C g d 10 [.ref 9, .int m, .int day] Q SH I J := by
  refine eX0_howOn (by omega) ?_
  repeat' (first
    | (apply And.intro)
    | (with_reducible refine bX0_howOn_0 ?_; simp (disch := first | omega | decide) only [w_nl0, w_nli, w_nlr, ↓w_ts1, ↓w_ts0, w_rcv, w_rfv, w_cs, true_and, and_true, List.length_nil, List.length_cons, Nat.reduceAdd, Nat.reduceLeDiff, Nat.zero_le, Nat.reduceLT, ↓w_nil, ix_nI, nI_leP, nI_ltP, nI_eqP, nI_1, ↓i_inN, i_inN, l_le, l_lt, l_eq, r_le, r_lt, r_eq, sh9, ↓w_aload_0, ↓w_iload_1, ↓w_iv, ↓pm_cl2_2, ↓w_ifeq, ↓w_iload_2, ↓w_gf3, ↓w_iaload, ↓w_icge, ↓w_bipush, ↓w_ret, ↓w_iconst, ↓w_istore_3, ↓w_istore_4, ↓w_iload_4, ↓w_gf0, ↓w_icne, ↓w_icgt, ↓w_iinc_4, ↓w_goto, ↓w_iload_3])
    | (with_reducible refine bX0_howOn_1 ?_; simp (disch := first | omega | decide) only [w_nl0, w_nli, w_nlr, ↓w_ts1, ↓w_ts0, w_rcv, w_rfv, w_cs, true_and, and_true, List.length_nil, List.length_cons, Nat.reduceAdd, Nat.reduceLeDiff, Nat.zero_le, Nat.reduceLT, ↓w_nil, ix_nI, nI_leP, nI_ltP, nI_eqP, nI_1, ↓i_inN, i_inN, l_le, l_lt, l_eq, r_le, r_lt, r_eq, sh9, ↓w_aload_0, ↓w_iload_1, ↓w_iv, ↓pm_cl2_2, ↓w_ifeq, ↓w_iload_2, ↓w_gf3, ↓w_iaload, ↓w_icge, ↓w_bipush, ↓w_ret, ↓w_iconst, ↓w_istore_3, ↓w_istore_4, ↓w_iload_4, ↓w_gf0, ↓w_icne, ↓w_icgt, ↓w_iinc_4, ↓w_goto, ↓w_iload_3])
    | (with_reducible refine bX0_howOn_2 ?_; simp (disch := first | omega | decide) only [w_nl0, w_nli, w_nlr, ↓w_ts1, ↓w_ts0, w_rcv, w_rfv, w_cs, true_and, and_true, List.length_nil, List.length_cons, Nat.reduceAdd, Nat.reduceLeDiff, Nat.zero_le, Nat.reduceLT, ↓w_nil, ix_nI, nI_leP, nI_ltP, nI_eqP, nI_1, ↓i_inN, i_inN, l_le, l_lt, l_eq, r_le, r_lt, r_eq, sh9, ↓w_aload_0, ↓w_iload_1, ↓w_iv, ↓pm_cl2_2, ↓w_ifeq, ↓w_iload_2, ↓w_gf3, ↓w_iaload, ↓w_icge, ↓w_bipush, ↓w_ret, ↓w_iconst, ↓w_istore_3, ↓w_istore_4, ↓w_iload_4, ↓w_gf0, ↓w_icne, ↓w_icgt, ↓w_iinc_4, ↓w_goto, ↓w_iload_3])
    | (with_reducible refine c_M_has (by omega) ?_; simp (disch := first | omega | decide) only [w_nl0, w_nli, w_nlr, ↓w_ts1, ↓w_ts0, w_rcv, w_rfv, w_cs, true_and, and_true, List.length_nil, List.length_cons, Nat.reduceAdd, Nat.reduceLeDiff, Nat.zero_le, Nat.reduceLT, ↓w_nil, ix_nI, nI_leP, nI_ltP, nI_eqP, nI_1, ↓i_inN, i_inN, l_le, l_lt, l_eq, r_le, r_lt, r_eq, sh9, ↓w_aload_0, ↓w_iload_1, ↓w_iv, ↓pm_cl2_2, ↓w_ifeq, ↓w_iload_2, ↓w_gf3, ↓w_iaload, ↓w_icge, ↓w_bipush, ↓w_ret, ↓w_iconst, ↓w_istore_3, ↓w_istore_4, ↓w_iload_4, ↓w_gf0, ↓w_icne, ↓w_icgt, ↓w_iinc_4, ↓w_goto, ↓w_iload_3])
    | (simp only [w_in])
    | (intro _))
  all_goals try grind
  rename_i hb
  rw [if_neg (by grind)] at hQ
  refine pm_for (f := fun k a => if I 16 k = m ∧ I 18 k ≤ day then I 17 k else a) (U := fun k a => UU g (d - 1) 10 kX0_howOn (pm_rm d 10) Q 3 [some (.ref 9), some (.int m), some (.int day), some (.int a), some (.int (nI k))] [] SH I J (0, 0)) c (fun k b hk hb w => ?_) ?_
  · refine bX0_howOn_3 ?_
    simp (disch := first | omega | decide) only [w_nl0, w_nli, w_nlr, ↓w_ts1, ↓w_ts0, w_rcv, w_rfv, w_cs, true_and, and_true, List.length_nil, List.length_cons, Nat.reduceAdd, Nat.reduceLeDiff, Nat.zero_le, Nat.reduceLT, ↓w_nil, ix_nI, nI_leP, nI_ltP, nI_eqP, nI_1, ↓i_inN, i_inN, l_le, l_lt, l_eq, r_le, r_lt, r_eq, sh9, ↓w_iload_4, ↓w_aload_0, ↓w_gf0, ↓w_icge, ↓w_gf3, ↓w_iaload, ↓w_iload_1, ↓w_icne, ↓w_iload_2, ↓w_icgt, ↓w_istore_3, hc]
    repeat' (first
      | (apply And.intro)
      | (with_reducible refine bX0_howOn_4 ?_; simp (disch := first | omega | decide) only [w_nl0, w_nli, w_nlr, ↓w_ts1, ↓w_ts0, w_rcv, w_rfv, w_cs, true_and, and_true, List.length_nil, List.length_cons, Nat.reduceAdd, Nat.reduceLeDiff, Nat.zero_le, Nat.reduceLT, ↓w_nil, ix_nI, nI_leP, nI_ltP, nI_eqP, nI_1, ↓i_inN, i_inN, l_le, l_lt, l_eq, r_le, r_lt, r_eq, sh9, ↓w_aload_0, ↓w_iload_1, ↓w_iv, ↓pm_cl2_2, ↓w_ifeq, ↓w_iload_2, ↓w_gf3, ↓w_iaload, ↓w_icge, ↓w_bipush, ↓w_ret, ↓w_iconst, ↓w_istore_3, ↓w_istore_4, ↓w_iload_4, ↓w_gf0, ↓w_icne, ↓w_icgt, ↓w_iinc_4, ↓w_goto, ↓w_iload_3])
      | (simp only [w_in])
      | (intro _))
    all_goals grind
  · refine bX0_howOn_3 ?_
    simp (disch := first | omega | decide) only [w_nl0, w_nli, w_nlr, ↓w_ts1, ↓w_ts0, w_rcv, w_rfv, w_cs, true_and, and_true, List.length_nil, List.length_cons, Nat.reduceAdd, Nat.reduceLeDiff, Nat.zero_le, Nat.reduceLT, ↓w_nil, ix_nI, nI_leP, nI_ltP, nI_eqP, nI_1, ↓i_inN, i_inN, l_le, l_lt, l_eq, r_le, r_lt, r_eq, sh9, ↓w_iload_4, ↓w_aload_0, ↓w_gf0, ↓w_icge, ↓w_gf3, ↓w_iaload, ↓w_iload_1, ↓w_icne, ↓w_iload_2, ↓w_icgt, ↓w_istore_3, hc]
    repeat' (first
      | (apply And.intro)
      | (with_reducible refine bX0_howOn_5 ?_; simp (disch := first | omega | decide) only [w_nl0, w_nli, w_nlr, ↓w_ts1, ↓w_ts0, w_rcv, w_rfv, w_cs, true_and, and_true, List.length_nil, List.length_cons, Nat.reduceAdd, Nat.reduceLeDiff, Nat.zero_le, Nat.reduceLT, ↓w_nil, ix_nI, nI_leP, nI_ltP, nI_eqP, nI_1, ↓i_inN, i_inN, l_le, l_lt, l_eq, r_le, r_lt, r_eq, sh9, ↓w_aload_0, ↓w_iload_1, ↓w_iv, ↓pm_cl2_2, ↓w_ifeq, ↓w_iload_2, ↓w_gf3, ↓w_iaload, ↓w_icge, ↓w_bipush, ↓w_ret, ↓w_iconst, ↓w_istore_3, ↓w_istore_4, ↓w_iload_4, ↓w_gf0, ↓w_icne, ↓w_icgt, ↓w_iinc_4, ↓w_goto, ↓w_iload_3])
      | (simp only [w_in])
      | (intro _))
    all_goals grind
theorem c_grown {m : Int32} {n : Nat} (hd : 1 ≤ d) (hn : I 9 9 = nI n) (hn40 : n ≤ 40) (hQ : Q (some (.int (itr (fun k a => if I 12 k = m then a + 1 else a) 0 n))) SH I J) : pm_C g d 11 [.ref 9, .int m] Q SH I J := by
  refine eX0_grown (by omega) ?_
  refine bX0_grown_0 ?_
  simp (disch := first | omega | decide) only [w_nl0, w_nli, w_nlr, ↓w_ts1, ↓w_ts0, w_rcv, w_rfv, w_cs, true_and, and_true, List.length_nil, List.length_cons, Nat.reduceAdd, Nat.reduceLeDiff, Nat.zero_le, Nat.reduceLT, ↓w_nil, ix_nI, nI_leP, nI_ltP, nI_eqP, nI_1, ↓i_inN, i_inN, l_le, l_lt, l_eq, r_le, r_lt, r_eq, sh9, ↓w_iconst, ↓w_istore_2, ↓w_istore_3]
  refine pm_for (f := fun k a => if I 12 k = m then a + 1 else a) (U := fun k a => UU g (d - 1) 11 kX0_grown (pm_rm d 11) Q 1 [some (.ref 9), some (.int m), some (.int a), some (.int (nI k))] [] SH I J (0, 0)) n (fun k b hk hb w => ?_) ?_
  · refine bX0_grown_1 ?_
    simp (disch := first | omega | decide) only [w_nl0, w_nli, w_nlr, ↓w_ts1, ↓w_ts0, w_rcv, w_rfv, w_cs, true_and, and_true, List.length_nil, List.length_cons, Nat.reduceAdd, Nat.reduceLeDiff, Nat.zero_le, Nat.reduceLT, ↓w_nil, ix_nI, nI_leP, nI_ltP, nI_eqP, nI_1, ↓i_inN, i_inN, l_le, l_lt, l_eq, r_le, r_lt, r_eq, sh9, ↓w_iload_3, ↓w_aload_0, ↓w_gf0, ↓w_icge, ↓w_gf3, ↓w_iaload, ↓w_iload_1, ↓w_icne, ↓w_iinc_2, hn]
    repeat' (first
      | (apply And.intro)
      | (with_reducible refine bX0_grown_2 ?_; simp (disch := first | omega | decide) only [w_nl0, w_nli, w_nlr, ↓w_ts1, ↓w_ts0, w_rcv, w_rfv, w_cs, true_and, and_true, List.length_nil, List.length_cons, Nat.reduceAdd, Nat.reduceLeDiff, Nat.zero_le, Nat.reduceLT, ↓w_nil, ix_nI, nI_leP, nI_ltP, nI_eqP, nI_1, ↓i_inN, i_inN, l_le, l_lt, l_eq, r_le, r_lt, r_eq, sh9, ↓w_iconst, ↓w_istore_2, ↓w_istore_3, ↓w_iload_3, ↓w_aload_0, ↓w_gf0, ↓w_icge, ↓w_gf3, ↓w_iaload, ↓w_iload_1, ↓w_icne, ↓w_iinc_2, ↓w_iinc_3, ↓w_goto, ↓w_iload_2, ↓w_ret])
      | (simp only [w_in])
      | (intro _))
    all_goals grind
  · refine bX0_grown_1 ?_
    simp (disch := first | omega | decide) only [w_nl0, w_nli, w_nlr, ↓w_ts1, ↓w_ts0, w_rcv, w_rfv, w_cs, true_and, and_true, List.length_nil, List.length_cons, Nat.reduceAdd, Nat.reduceLeDiff, Nat.zero_le, Nat.reduceLT, ↓w_nil, ix_nI, nI_leP, nI_ltP, nI_eqP, nI_1, ↓i_inN, i_inN, l_le, l_lt, l_eq, r_le, r_lt, r_eq, sh9, ↓w_iload_3, ↓w_aload_0, ↓w_gf0, ↓w_icge, ↓w_gf3, ↓w_iaload, ↓w_iload_1, ↓w_icne, ↓w_iinc_2, hn]
    repeat' (first
      | (apply And.intro)
      | (with_reducible refine bX0_grown_3 ?_; simp (disch := first | omega | decide) only [w_nl0, w_nli, w_nlr, ↓w_ts1, ↓w_ts0, w_rcv, w_rfv, w_cs, true_and, and_true, List.length_nil, List.length_cons, Nat.reduceAdd, Nat.reduceLeDiff, Nat.zero_le, Nat.reduceLT, ↓w_nil, ix_nI, nI_leP, nI_ltP, nI_eqP, nI_1, ↓i_inN, i_inN, l_le, l_lt, l_eq, r_le, r_lt, r_eq, sh9, ↓w_iconst, ↓w_istore_2, ↓w_istore_3, ↓w_iload_3, ↓w_aload_0, ↓w_gf0, ↓w_icge, ↓w_gf3, ↓w_iaload, ↓w_iload_1, ↓w_icne, ↓w_iinc_2, ↓w_iinc_3, ↓w_goto, ↓w_iload_2, ↓w_ret])
      | (simp only [w_in])
      | (intro _))
    all_goals grind
theorem c_grownOf {m c : Int32} {n : Nat} (hd : 1 ≤ d) (hn : I 9 9 = nI n) (hn40 : n ≤ 40) (hQ : Q (some (.int (itr (fun k a => if I 12 k = m ∧ I 10 k = c then a + 1 else a) 0 n))) SH I J) : pm_C g d 12 [.ref 9, .int m, .int c] Q SH I J := by
  refine eX0_grownOf (by omega) ?_
  refine bX0_grownOf_0 ?_
  simp (disch := first | omega | decide) only [w_nl0, w_nli, w_nlr, ↓w_ts1, ↓w_ts0, w_rcv, w_rfv, w_cs, true_and, and_true, List.length_nil, List.length_cons, Nat.reduceAdd, Nat.reduceLeDiff, Nat.zero_le, Nat.reduceLT, ↓w_nil, ix_nI, nI_leP, nI_ltP, nI_eqP, nI_1, ↓i_inN, i_inN, l_le, l_lt, l_eq, r_le, r_lt, r_eq, sh9, ↓w_iconst, ↓w_istore_3, ↓w_istore_4]
  refine pm_for (f := fun k a => if I 12 k = m ∧ I 10 k = c then a + 1 else a) (U := fun k a => UU g (d - 1) 12 kX0_grownOf (pm_rm d 12) Q 1 [some (.ref 9), some (.int m), some (.int c), some (.int a), some (.int (nI k))] [] SH I J (0, 0)) n (fun k b hk hb w => ?_) ?_
  · refine bX0_grownOf_1 ?_
    simp (disch := first | omega | decide) only [w_nl0, w_nli, w_nlr, ↓w_ts1, ↓w_ts0, w_rcv, w_rfv, w_cs, true_and, and_true, List.length_nil, List.length_cons, Nat.reduceAdd, Nat.reduceLeDiff, Nat.zero_le, Nat.reduceLT, ↓w_nil, ix_nI, nI_leP, nI_ltP, nI_eqP, nI_1, ↓i_inN, i_inN, l_le, l_lt, l_eq, r_le, r_lt, r_eq, sh9, ↓w_iload_4, ↓w_aload_0, ↓w_gf0, ↓w_icge, ↓w_gf3, ↓w_iaload, ↓w_iload_1, ↓w_icne, ↓w_iload_2, ↓w_iinc_3, hn]
    repeat' (first
      | (apply And.intro)
      | (with_reducible refine bX0_grownOf_2 ?_; simp (disch := first | omega | decide) only [w_nl0, w_nli, w_nlr, ↓w_ts1, ↓w_ts0, w_rcv, w_rfv, w_cs, true_and, and_true, List.length_nil, List.length_cons, Nat.reduceAdd, Nat.reduceLeDiff, Nat.zero_le, Nat.reduceLT, ↓w_nil, ix_nI, nI_leP, nI_ltP, nI_eqP, nI_1, ↓i_inN, i_inN, l_le, l_lt, l_eq, r_le, r_lt, r_eq, sh9, ↓w_iconst, ↓w_istore_3, ↓w_istore_4, ↓w_iload_4, ↓w_aload_0, ↓w_gf0, ↓w_icge, ↓w_gf3, ↓w_iaload, ↓w_iload_1, ↓w_icne, ↓w_iload_2, ↓w_iinc_3, ↓w_iinc_4, ↓w_goto, ↓w_iload_3, ↓w_ret])
      | (simp only [w_in])
      | (intro _))
    all_goals grind
  · refine bX0_grownOf_1 ?_
    simp (disch := first | omega | decide) only [w_nl0, w_nli, w_nlr, ↓w_ts1, ↓w_ts0, w_rcv, w_rfv, w_cs, true_and, and_true, List.length_nil, List.length_cons, Nat.reduceAdd, Nat.reduceLeDiff, Nat.zero_le, Nat.reduceLT, ↓w_nil, ix_nI, nI_leP, nI_ltP, nI_eqP, nI_1, ↓i_inN, i_inN, l_le, l_lt, l_eq, r_le, r_lt, r_eq, sh9, ↓w_iload_4, ↓w_aload_0, ↓w_gf0, ↓w_icge, ↓w_gf3, ↓w_iaload, ↓w_iload_1, ↓w_icne, ↓w_iload_2, ↓w_iinc_3, hn]
    repeat' (first
      | (apply And.intro)
      | (with_reducible refine bX0_grownOf_3 ?_; simp (disch := first | omega | decide) only [w_nl0, w_nli, w_nlr, ↓w_ts1, ↓w_ts0, w_rcv, w_rfv, w_cs, true_and, and_true, List.length_nil, List.length_cons, Nat.reduceAdd, Nat.reduceLeDiff, Nat.zero_le, Nat.reduceLT, ↓w_nil, ix_nI, nI_leP, nI_ltP, nI_eqP, nI_1, ↓i_inN, i_inN, l_le, l_lt, l_eq, r_le, r_lt, r_eq, sh9, ↓w_iconst, ↓w_istore_3, ↓w_istore_4, ↓w_iload_4, ↓w_aload_0, ↓w_gf0, ↓w_icge, ↓w_gf3, ↓w_iaload, ↓w_iload_1, ↓w_icne, ↓w_iload_2, ↓w_iinc_3, ↓w_iinc_4, ↓w_goto, ↓w_iload_3, ↓w_ret])
      | (simp only [w_in])
      | (intro _))
    all_goals grind
theorem c_thereOf {m c : Int32} {n : Nat} (hd : 1 ≤ d) (hn : I 9 9 = nI n) (hn40 : n ≤ 40) (hQ : Q (some (.int (itr (fun k a => if I 12 k = m ∧ I 10 k = c ∧ I 15 k = 0 then a + 1 else a) 0 n))) SH I J) : pm_C g d 13 [.ref 9, .int m, .int c] Q SH I J := by
  refine eX0_thereOf (by omega) ?_
  refine bX0_thereOf_0 ?_
  simp (disch := first | omega | decide) only [w_nl0, w_nli, w_nlr, ↓w_ts1, ↓w_ts0, w_rcv, w_rfv, w_cs, true_and, and_true, List.length_nil, List.length_cons, Nat.reduceAdd, Nat.reduceLeDiff, Nat.zero_le, Nat.reduceLT, ↓w_nil, ix_nI, nI_leP, nI_ltP, nI_eqP, nI_1, ↓i_inN, i_inN, l_le, l_lt, l_eq, r_le, r_lt, r_eq, sh9, ↓w_iconst, ↓w_istore_3, ↓w_istore_4]
  refine pm_for (f := fun k a => if I 12 k = m ∧ I 10 k = c ∧ I 15 k = 0 then a + 1 else a) (U := fun k a => UU g (d - 1) 13 kX0_thereOf (pm_rm d 13) Q 1 [some (.ref 9), some (.int m), some (.int c), some (.int a), some (.int (nI k))] [] SH I J (0, 0)) n (fun k b hk hb w => ?_) ?_
  · refine bX0_thereOf_1 ?_
    simp (disch := first | omega | decide) only [w_nl0, w_nli, w_nlr, ↓w_ts1, ↓w_ts0, w_rcv, w_rfv, w_cs, true_and, and_true, List.length_nil, List.length_cons, Nat.reduceAdd, Nat.reduceLeDiff, Nat.zero_le, Nat.reduceLT, ↓w_nil, ix_nI, nI_leP, nI_ltP, nI_eqP, nI_1, ↓i_inN, i_inN, l_le, l_lt, l_eq, r_le, r_lt, r_eq, sh9, ↓w_iload_4, ↓w_aload_0, ↓w_gf0, ↓w_icge, ↓w_gf3, ↓w_iaload, ↓w_iload_1, ↓w_icne, ↓w_iload_2, ↓w_ifne, ↓w_iinc_3, hn]
    repeat' (first
      | (apply And.intro)
      | (with_reducible refine bX0_thereOf_2 ?_; simp (disch := first | omega | decide) only [w_nl0, w_nli, w_nlr, ↓w_ts1, ↓w_ts0, w_rcv, w_rfv, w_cs, true_and, and_true, List.length_nil, List.length_cons, Nat.reduceAdd, Nat.reduceLeDiff, Nat.zero_le, Nat.reduceLT, ↓w_nil, ix_nI, nI_leP, nI_ltP, nI_eqP, nI_1, ↓i_inN, i_inN, l_le, l_lt, l_eq, r_le, r_lt, r_eq, sh9, ↓w_iconst, ↓w_istore_3, ↓w_istore_4, ↓w_iload_4, ↓w_aload_0, ↓w_gf0, ↓w_icge, ↓w_gf3, ↓w_iaload, ↓w_iload_1, ↓w_icne, ↓w_iload_2, ↓w_ifne, ↓w_iinc_3, ↓w_iinc_4, ↓w_goto, ↓w_iload_3, ↓w_ret])
      | (simp only [w_in])
      | (intro _))
    all_goals grind
  · refine bX0_thereOf_1 ?_
    simp (disch := first | omega | decide) only [w_nl0, w_nli, w_nlr, ↓w_ts1, ↓w_ts0, w_rcv, w_rfv, w_cs, true_and, and_true, List.length_nil, List.length_cons, Nat.reduceAdd, Nat.reduceLeDiff, Nat.zero_le, Nat.reduceLT, ↓w_nil, ix_nI, nI_leP, nI_ltP, nI_eqP, nI_1, ↓i_inN, i_inN, l_le, l_lt, l_eq, r_le, r_lt, r_eq, sh9, ↓w_iload_4, ↓w_aload_0, ↓w_gf0, ↓w_icge, ↓w_gf3, ↓w_iaload, ↓w_iload_1, ↓w_icne, ↓w_iload_2, ↓w_ifne, ↓w_iinc_3, hn]
    repeat' (first
      | (apply And.intro)
      | (with_reducible refine bX0_thereOf_3 ?_; simp (disch := first | omega | decide) only [w_nl0, w_nli, w_nlr, ↓w_ts1, ↓w_ts0, w_rcv, w_rfv, w_cs, true_and, and_true, List.length_nil, List.length_cons, Nat.reduceAdd, Nat.reduceLeDiff, Nat.zero_le, Nat.reduceLT, ↓w_nil, ix_nI, nI_leP, nI_ltP, nI_eqP, nI_1, ↓i_inN, i_inN, l_le, l_lt, l_eq, r_le, r_lt, r_eq, sh9, ↓w_iconst, ↓w_istore_3, ↓w_istore_4, ↓w_iload_4, ↓w_aload_0, ↓w_gf0, ↓w_icge, ↓w_gf3, ↓w_iaload, ↓w_iload_1, ↓w_icne, ↓w_iload_2, ↓w_ifne, ↓w_iinc_3, ↓w_iinc_4, ↓w_goto, ↓w_iload_3, ↓w_ret])
      | (simp only [w_in])
      | (intro _))
    all_goals grind
theorem c_there  {n : Nat} (hd : 1 ≤ d) (hn : I 9 9 = nI n) (hn40 : n ≤ 40) (hQ : Q (some (.int (itr (fun k a => if I 15 k = 0 then a + 1 else a) 0 n))) SH I J) : pm_C g d 14 [.ref 9] Q SH I J := by
  refine eX0_there (by omega) ?_
  refine bX0_there_0 ?_
  simp (disch := first | omega | decide) only [w_nl0, w_nli, w_nlr, ↓w_ts1, ↓w_ts0, w_rcv, w_rfv, w_cs, true_and, and_true, List.length_nil, List.length_cons, Nat.reduceAdd, Nat.reduceLeDiff, Nat.zero_le, Nat.reduceLT, ↓w_nil, ix_nI, nI_leP, nI_ltP, nI_eqP, nI_1, ↓i_inN, i_inN, l_le, l_lt, l_eq, r_le, r_lt, r_eq, sh9, ↓w_iconst, ↓w_istore_1, ↓w_istore_2]
  refine pm_for (f := fun k a => if I 15 k = 0 then a + 1 else a) (U := fun k a => UU g (d - 1) 14 kX0_there (pm_rm d 14) Q 1 [some (.ref 9), some (.int a), some (.int (nI k))] [] SH I J (0, 0)) n (fun k b hk hb w => ?_) ?_
  · refine bX0_there_1 ?_
    simp (disch := first | omega | decide) only [w_nl0, w_nli, w_nlr, ↓w_ts1, ↓w_ts0, w_rcv, w_rfv, w_cs, true_and, and_true, List.length_nil, List.length_cons, Nat.reduceAdd, Nat.reduceLeDiff, Nat.zero_le, Nat.reduceLT, ↓w_nil, ix_nI, nI_leP, nI_ltP, nI_eqP, nI_1, ↓i_inN, i_inN, l_le, l_lt, l_eq, r_le, r_lt, r_eq, sh9, ↓w_iload_2, ↓w_aload_0, ↓w_gf0, ↓w_icge, ↓w_gf3, ↓w_iaload, ↓w_ifne, ↓w_iinc_1, hn]
    repeat' (first
      | (apply And.intro)
      | (with_reducible refine bX0_there_2 ?_; simp (disch := first | omega | decide) only [w_nl0, w_nli, w_nlr, ↓w_ts1, ↓w_ts0, w_rcv, w_rfv, w_cs, true_and, and_true, List.length_nil, List.length_cons, Nat.reduceAdd, Nat.reduceLeDiff, Nat.zero_le, Nat.reduceLT, ↓w_nil, ix_nI, nI_leP, nI_ltP, nI_eqP, nI_1, ↓i_inN, i_inN, l_le, l_lt, l_eq, r_le, r_lt, r_eq, sh9, ↓w_iconst, ↓w_istore_1, ↓w_istore_2, ↓w_iload_2, ↓w_aload_0, ↓w_gf0, ↓w_icge, ↓w_gf3, ↓w_iaload, ↓w_ifne, ↓w_iinc_1, ↓w_iinc_2, ↓w_goto, ↓w_iload_1, ↓w_ret])
      | (simp only [w_in])
      | (intro _))
    all_goals grind
  · refine bX0_there_1 ?_
    simp (disch := first | omega | decide) only [w_nl0, w_nli, w_nlr, ↓w_ts1, ↓w_ts0, w_rcv, w_rfv, w_cs, true_and, and_true, List.length_nil, List.length_cons, Nat.reduceAdd, Nat.reduceLeDiff, Nat.zero_le, Nat.reduceLT, ↓w_nil, ix_nI, nI_leP, nI_ltP, nI_eqP, nI_1, ↓i_inN, i_inN, l_le, l_lt, l_eq, r_le, r_lt, r_eq, sh9, ↓w_iload_2, ↓w_aload_0, ↓w_gf0, ↓w_icge, ↓w_gf3, ↓w_iaload, ↓w_ifne, ↓w_iinc_1, hn]
    repeat' (first
      | (apply And.intro)
      | (with_reducible refine bX0_there_3 ?_; simp (disch := first | omega | decide) only [w_nl0, w_nli, w_nlr, ↓w_ts1, ↓w_ts0, w_rcv, w_rfv, w_cs, true_and, and_true, List.length_nil, List.length_cons, Nat.reduceAdd, Nat.reduceLeDiff, Nat.zero_le, Nat.reduceLT, ↓w_nil, ix_nI, nI_leP, nI_ltP, nI_eqP, nI_1, ↓i_inN, i_inN, l_le, l_lt, l_eq, r_le, r_lt, r_eq, sh9, ↓w_iconst, ↓w_istore_1, ↓w_istore_2, ↓w_iload_2, ↓w_aload_0, ↓w_gf0, ↓w_icge, ↓w_gf3, ↓w_iaload, ↓w_ifne, ↓w_iinc_1, ↓w_iinc_2, ↓w_goto, ↓w_iload_1, ↓w_ret])
      | (simp only [w_in])
      | (intro _))
    all_goals grind
def mfr (I : pm_MI) (above : Int32) : Nat → Int32 → Int32 → Int32
  | 0, _, _ => -9
  | q + 1, on, m => if hasM I m then (if m = above then on else mfr I above q (I 14 m.toNatClampNeg) (I 12 m.toNatClampNeg)) else -9
theorem c_madeFrom {m day above : Int32} (hd : 2 ≤ d) (hQ : Q (some (.int (mfr I above 40 day m))) SH I J) : pm_C g d 15 [.ref 9, .int m, .int day, .int above] Q SH I J := by
  refine eX0_madeFrom (by omega) ?_
  refine bX0_madeFrom_0 ?_
  simp (disch := first | omega | decide) only [w_nl0, w_nli, w_nlr, ↓w_ts1, ↓w_ts0, w_rcv, w_rfv, w_cs, true_and, and_true, List.length_nil, List.length_cons, Nat.reduceAdd, Nat.reduceLeDiff, Nat.zero_le, Nat.reduceLT, ↓w_nil, ix_nI, nI_leP, nI_ltP, nI_eqP, nI_1, ↓i_inN, i_inN, l_le, l_lt, l_eq, r_le, r_lt, r_eq, sh9, ↓w_iload_2, ↓w_istore_4, ↓w_iload_1, ↓w_istore_5, ↓w_iconst, ↓w_istore_6]
  refine pm_rec (U := fun k (a : Int32 × Int32) => UU g (d - 1) 15 kX0_madeFrom (pm_rm d 15) Q 1 [some (.ref 9), some (.int m), some (.int day), some (.int above), some (.int a.1), some (.int a.2), some (.int (nI k))] [] SH I J (0, 0)) (P := fun q a => Q (some (.int (mfr I above q a.1 a.2))) SH I J) 40 (fun k a q hk hq hP w => ?_) (fun a hP => ?_) (a := (day, m)) hQ
  · have w' := w (I 14 a.2.toNatClampNeg, I 12 a.2.toNatClampNeg)
    clear w
    simp only [mfr] at hP
    refine bX0_madeFrom_1 ?_
    simp (disch := first | omega | decide) only [w_nl0, w_nli, w_nlr, ↓w_ts1, ↓w_ts0, w_rcv, w_rfv, w_cs, true_and, and_true, List.length_nil, List.length_cons, Nat.reduceAdd, Nat.reduceLeDiff, Nat.zero_le, Nat.reduceLT, ↓w_nil, ix_nI, nI_leP, nI_ltP, nI_eqP, nI_1, ↓i_inN, i_inN, l_le, l_lt, l_eq, r_le, r_lt, r_eq, sh9, ↓w_iload_6, ↓w_bipush, ↓w_icge, ↓w_aload_0, ↓w_iload_5, ↓w_iv, ↓pm_cl2_2, ↓w_ifeq, ↓w_iload_3, ↓w_icne, ↓w_iload_4, ↓w_ret]
    repeat' (first
      | (apply And.intro)
      | (with_reducible refine bX0_madeFrom_2 ?_; simp (disch := first | omega | decide) only [w_nl0, w_nli, w_nlr, ↓w_ts1, ↓w_ts0, w_rcv, w_rfv, w_cs, true_and, and_true, List.length_nil, List.length_cons, Nat.reduceAdd, Nat.reduceLeDiff, Nat.zero_le, Nat.reduceLT, ↓w_nil, ix_nI, nI_leP, nI_ltP, nI_eqP, nI_1, ↓i_inN, i_inN, l_le, l_lt, l_eq, r_le, r_lt, r_eq, sh9, ↓w_iload_2, ↓w_istore_4, ↓w_iload_1, ↓w_istore_5, ↓w_iconst, ↓w_istore_6, ↓w_iload_6, ↓w_bipush, ↓w_icge, ↓w_aload_0, ↓w_iload_5, ↓w_iv, ↓pm_cl2_2, ↓w_ifeq, ↓w_iload_3, ↓w_icne, ↓w_iload_4, ↓w_ret, ↓w_gf3, ↓w_iaload, ↓w_iinc_6, ↓w_goto])
      | (with_reducible refine bX0_madeFrom_3 ?_; simp (disch := first | omega | decide) only [w_nl0, w_nli, w_nlr, ↓w_ts1, ↓w_ts0, w_rcv, w_rfv, w_cs, true_and, and_true, List.length_nil, List.length_cons, Nat.reduceAdd, Nat.reduceLeDiff, Nat.zero_le, Nat.reduceLT, ↓w_nil, ix_nI, nI_leP, nI_ltP, nI_eqP, nI_1, ↓i_inN, i_inN, l_le, l_lt, l_eq, r_le, r_lt, r_eq, sh9, ↓w_iload_2, ↓w_istore_4, ↓w_iload_1, ↓w_istore_5, ↓w_iconst, ↓w_istore_6, ↓w_iload_6, ↓w_bipush, ↓w_icge, ↓w_aload_0, ↓w_iload_5, ↓w_iv, ↓pm_cl2_2, ↓w_ifeq, ↓w_iload_3, ↓w_icne, ↓w_iload_4, ↓w_ret, ↓w_gf3, ↓w_iaload, ↓w_iinc_6, ↓w_goto])
      | (with_reducible refine c_M_has (by omega) ?_; simp (disch := first | omega | decide) only [w_nl0, w_nli, w_nlr, ↓w_ts1, ↓w_ts0, w_rcv, w_rfv, w_cs, true_and, and_true, List.length_nil, List.length_cons, Nat.reduceAdd, Nat.reduceLeDiff, Nat.zero_le, Nat.reduceLT, ↓w_nil, ix_nI, nI_leP, nI_ltP, nI_eqP, nI_1, ↓i_inN, i_inN, l_le, l_lt, l_eq, r_le, r_lt, r_eq, sh9, ↓w_iload_2, ↓w_istore_4, ↓w_iload_1, ↓w_istore_5, ↓w_iconst, ↓w_istore_6, ↓w_iload_6, ↓w_bipush, ↓w_icge, ↓w_aload_0, ↓w_iload_5, ↓w_iv, ↓pm_cl2_2, ↓w_ifeq, ↓w_iload_3, ↓w_icne, ↓w_iload_4, ↓w_ret, ↓w_gf3, ↓w_iaload, ↓w_iinc_6, ↓w_goto])
      | (simp only [w_in])
      | (intro _))
    all_goals grind
  · simp only [mfr] at hP
    refine bX0_madeFrom_1 ?_
    simp (disch := first | omega | decide) only [w_nl0, w_nli, w_nlr, ↓w_ts1, ↓w_ts0, w_rcv, w_rfv, w_cs, true_and, and_true, List.length_nil, List.length_cons, Nat.reduceAdd, Nat.reduceLeDiff, Nat.zero_le, Nat.reduceLT, ↓w_nil, ix_nI, nI_leP, nI_ltP, nI_eqP, nI_1, ↓i_inN, i_inN, l_le, l_lt, l_eq, r_le, r_lt, r_eq, sh9, ↓w_iload_6, ↓w_bipush, ↓w_icge, ↓w_aload_0, ↓w_iload_5, ↓w_iv, ↓pm_cl2_2, ↓w_ifeq, ↓w_iload_3, ↓w_icne, ↓w_iload_4, ↓w_ret]
    repeat' (first
      | (apply And.intro)
      | (with_reducible refine bX0_madeFrom_3 ?_; simp (disch := first | omega | decide) only [w_nl0, w_nli, w_nlr, ↓w_ts1, ↓w_ts0, w_rcv, w_rfv, w_cs, true_and, and_true, List.length_nil, List.length_cons, Nat.reduceAdd, Nat.reduceLeDiff, Nat.zero_le, Nat.reduceLT, ↓w_nil, ix_nI, nI_leP, nI_ltP, nI_eqP, nI_1, ↓i_inN, i_inN, l_le, l_lt, l_eq, r_le, r_lt, r_eq, sh9, ↓w_iload_2, ↓w_istore_4, ↓w_iload_1, ↓w_istore_5, ↓w_iconst, ↓w_istore_6, ↓w_iload_6, ↓w_bipush, ↓w_icge, ↓w_aload_0, ↓w_iload_5, ↓w_iv, ↓pm_cl2_2, ↓w_ifeq, ↓w_iload_3, ↓w_icne, ↓w_iload_4, ↓w_ret, ↓w_gf3, ↓w_iaload, ↓w_iinc_6, ↓w_goto])
      | (with_reducible refine c_M_has (by omega) ?_; simp (disch := first | omega | decide) only [w_nl0, w_nli, w_nlr, ↓w_ts1, ↓w_ts0, w_rcv, w_rfv, w_cs, true_and, and_true, List.length_nil, List.length_cons, Nat.reduceAdd, Nat.reduceLeDiff, Nat.zero_le, Nat.reduceLT, ↓w_nil, ix_nI, nI_leP, nI_ltP, nI_eqP, nI_1, ↓i_inN, i_inN, l_le, l_lt, l_eq, r_le, r_lt, r_eq, sh9, ↓w_iload_2, ↓w_istore_4, ↓w_iload_1, ↓w_istore_5, ↓w_iconst, ↓w_istore_6, ↓w_iload_6, ↓w_bipush, ↓w_icge, ↓w_aload_0, ↓w_iload_5, ↓w_iv, ↓pm_cl2_2, ↓w_ifeq, ↓w_iload_3, ↓w_icne, ↓w_iload_4, ↓w_ret, ↓w_gf3, ↓w_iaload, ↓w_iinc_6, ↓w_goto])
      | (simp only [w_in])
      | (intro _))
    all_goals grind
theorem c_madeOf {m : Int32} {n : Nat} (hd : 3 ≤ d) (hn : I 9 9 = nI n) (hn40 : n ≤ 40) (hQ : Q (some (.int (itr (fun k a => if ¬ nI k = m ∧ ¬ mfr I m 40 0 (nI k) = -9 then a + 1 else a) 0 n))) SH I J) : pm_C g d 16 [.ref 9, .int m] Q SH I J := by
  refine eX0_madeOf (by omega) ?_
  refine bX0_madeOf_0 ?_
  simp (disch := first | omega | decide) only [w_nl0, w_nli, w_nlr, ↓w_ts1, ↓w_ts0, w_rcv, w_rfv, w_cs, true_and, and_true, List.length_nil, List.length_cons, Nat.reduceAdd, Nat.reduceLeDiff, Nat.zero_le, Nat.reduceLT, ↓w_nil, ix_nI, nI_leP, nI_ltP, nI_eqP, nI_1, ↓i_inN, i_inN, l_le, l_lt, l_eq, r_le, r_lt, r_eq, sh9, ↓w_iconst, ↓w_istore_2, ↓w_istore_3]
  refine pm_for (f := fun k a => if ¬ nI k = m ∧ ¬ mfr I m 40 0 (nI k) = -9 then a + 1 else a) (U := fun k a => UU g (d - 1) 16 kX0_madeOf (pm_rm d 16) Q 1 [some (.ref 9), some (.int m), some (.int a), some (.int (nI k))] [] SH I J (0, 0)) n (fun k b hk hb w => ?_) ?_
  · refine bX0_madeOf_1 ?_
    simp (disch := first | omega | decide) only [w_nl0, w_nli, w_nlr, ↓w_ts1, ↓w_ts0, w_rcv, w_rfv, w_cs, true_and, and_true, List.length_nil, List.length_cons, Nat.reduceAdd, Nat.reduceLeDiff, Nat.zero_le, Nat.reduceLT, ↓w_nil, ix_nI, nI_leP, nI_ltP, nI_eqP, nI_1, ↓i_inN, i_inN, l_le, l_lt, l_eq, r_le, r_lt, r_eq, sh9, ↓w_iload_3, ↓w_aload_0, ↓w_gf0, ↓w_icge, ↓w_iload_1, ↓w_iceq, ↓w_iconst, ↓w_iv, ↓pm_cl2_4, ↓w_bipush, ↓w_iinc_2, hn]
    repeat' (first
      | (apply And.intro)
      | (with_reducible refine bX0_madeOf_2 ?_; simp (disch := first | omega | decide) only [w_nl0, w_nli, w_nlr, ↓w_ts1, ↓w_ts0, w_rcv, w_rfv, w_cs, true_and, and_true, List.length_nil, List.length_cons, Nat.reduceAdd, Nat.reduceLeDiff, Nat.zero_le, Nat.reduceLT, ↓w_nil, ix_nI, nI_leP, nI_ltP, nI_eqP, nI_1, ↓i_inN, i_inN, l_le, l_lt, l_eq, r_le, r_lt, r_eq, sh9, ↓w_iconst, ↓w_istore_2, ↓w_istore_3, ↓w_iload_3, ↓w_aload_0, ↓w_gf0, ↓w_icge, ↓w_iload_1, ↓w_iceq, ↓w_iv, ↓pm_cl2_4, ↓w_bipush, ↓w_iinc_2, ↓w_iinc_3, ↓w_goto, ↓w_iload_2, ↓w_ret])
      | (with_reducible refine c_madeFrom (by omega) ?_; simp (disch := first | omega | decide) only [w_nl0, w_nli, w_nlr, ↓w_ts1, ↓w_ts0, w_rcv, w_rfv, w_cs, true_and, and_true, List.length_nil, List.length_cons, Nat.reduceAdd, Nat.reduceLeDiff, Nat.zero_le, Nat.reduceLT, ↓w_nil, ix_nI, nI_leP, nI_ltP, nI_eqP, nI_1, ↓i_inN, i_inN, l_le, l_lt, l_eq, r_le, r_lt, r_eq, sh9, ↓w_iconst, ↓w_istore_2, ↓w_istore_3, ↓w_iload_3, ↓w_aload_0, ↓w_gf0, ↓w_icge, ↓w_iload_1, ↓w_iceq, ↓w_iv, ↓pm_cl2_4, ↓w_bipush, ↓w_iinc_2, ↓w_iinc_3, ↓w_goto, ↓w_iload_2, ↓w_ret])
      | (simp only [w_in])
      | (intro _))
    all_goals grind
  · refine bX0_madeOf_1 ?_
    simp (disch := first | omega | decide) only [w_nl0, w_nli, w_nlr, ↓w_ts1, ↓w_ts0, w_rcv, w_rfv, w_cs, true_and, and_true, List.length_nil, List.length_cons, Nat.reduceAdd, Nat.reduceLeDiff, Nat.zero_le, Nat.reduceLT, ↓w_nil, ix_nI, nI_leP, nI_ltP, nI_eqP, nI_1, ↓i_inN, i_inN, l_le, l_lt, l_eq, r_le, r_lt, r_eq, sh9, ↓w_iload_3, ↓w_aload_0, ↓w_gf0, ↓w_icge, ↓w_iload_1, ↓w_iceq, ↓w_iconst, ↓w_iv, ↓pm_cl2_4, ↓w_bipush, ↓w_iinc_2, hn]
    repeat' (first
      | (apply And.intro)
      | (with_reducible refine bX0_madeOf_3 ?_; simp (disch := first | omega | decide) only [w_nl0, w_nli, w_nlr, ↓w_ts1, ↓w_ts0, w_rcv, w_rfv, w_cs, true_and, and_true, List.length_nil, List.length_cons, Nat.reduceAdd, Nat.reduceLeDiff, Nat.zero_le, Nat.reduceLT, ↓w_nil, ix_nI, nI_leP, nI_ltP, nI_eqP, nI_1, ↓i_inN, i_inN, l_le, l_lt, l_eq, r_le, r_lt, r_eq, sh9, ↓w_iconst, ↓w_istore_2, ↓w_istore_3, ↓w_iload_3, ↓w_aload_0, ↓w_gf0, ↓w_icge, ↓w_iload_1, ↓w_iceq, ↓w_iv, ↓pm_cl2_4, ↓w_bipush, ↓w_iinc_2, ↓w_iinc_3, ↓w_goto, ↓w_iload_2, ↓w_ret])
      | (simp only [w_in])
      | (intro _))
    all_goals grind
end C22
