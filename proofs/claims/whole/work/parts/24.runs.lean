section C24
variable {g : pm_G} {d : Nat} {Q : pm_Po} {S : pm_SS} {I : pm_MI} {J : pm_ML}
abbrev hasR (I : pm_MI) (m : Int32) : Prop := 0 ≤ m ∧ m < I 23 7 ∧ m < 30
theorem c_R_has {m : Int32} (hd : 1 ≤ d) (hQ : Q (some (.int (if hasR I m then 1 else 0))) SH I J) : pm_C g d 73 [.ref 23, .int m] Q SH I J := by
  refine eX6_has (by omega) ?_
  repeat' (first
    | (apply And.intro)
    | (with_reducible refine bX6_has_0 ?_; simp (disch := first | omega | decide) only [w_nl0, w_nli, w_nlr, ↓w_ts1, ↓w_ts0, w_rcv, w_rfv, w_cs, true_and, and_true, List.length_nil, List.length_cons, Nat.reduceAdd, Nat.reduceLeDiff, Nat.zero_le, Nat.reduceLT, ↓w_nil, ix_nI, nI_leP, nI_ltP, nI_eqP, nI_1, ↓i_inN, i_inN, l_le, l_lt, l_eq, r_le, r_lt, r_eq, sh23, ↓w_iload_1, ↓w_iflt, ↓w_aload_0, ↓w_gf0, ↓w_icge, ↓w_bipush, ↓w_iconst, ↓w_goto, ↓w_zret])
    | (with_reducible refine bX6_has_1 ?_; simp (disch := first | omega | decide) only [w_nl0, w_nli, w_nlr, ↓w_ts1, ↓w_ts0, w_rcv, w_rfv, w_cs, true_and, and_true, List.length_nil, List.length_cons, Nat.reduceAdd, Nat.reduceLeDiff, Nat.zero_le, Nat.reduceLT, ↓w_nil, ix_nI, nI_leP, nI_ltP, nI_eqP, nI_1, ↓i_inN, i_inN, l_le, l_lt, l_eq, r_le, r_lt, r_eq, sh23, ↓w_iload_1, ↓w_iflt, ↓w_aload_0, ↓w_gf0, ↓w_icge, ↓w_bipush, ↓w_iconst, ↓w_goto, ↓w_zret])
    | (with_reducible refine bX6_has_2 ?_; simp (disch := first | omega | decide) only [w_nl0, w_nli, w_nlr, ↓w_ts1, ↓w_ts0, w_rcv, w_rfv, w_cs, true_and, and_true, List.length_nil, List.length_cons, Nat.reduceAdd, Nat.reduceLeDiff, Nat.zero_le, Nat.reduceLT, ↓w_nil, ix_nI, nI_leP, nI_ltP, nI_eqP, nI_1, ↓i_inN, i_inN, l_le, l_lt, l_eq, r_le, r_lt, r_eq, sh23, ↓w_iload_1, ↓w_iflt, ↓w_aload_0, ↓w_gf0, ↓w_icge, ↓w_bipush, ↓w_iconst, ↓w_goto, ↓w_zret])
    | (simp only [w_in])
    | (intro _))
  all_goals grind
theorem hasR_nI {m n : Nat} (hn : I 23 7 = nI n) (hm : m < n) (hn40 : n ≤ 30) : hasR I (nI m) := by
  unfold hasR
  rw [hn]
  simp (disch := first | omega | decide) only [l_le, nI_ltP, r_lt]
  omega
theorem c_R_copies {m : Int32} (hd : 2 ≤ d) (hQ : Q (some (.int (if hasR I m then I 26 m.toNatClampNeg else 0))) SH I J) : pm_C g d 75 [.ref 23, .int m] Q SH I J := by
  refine eX6_copies (by omega) ?_
  repeat' (first
    | (apply And.intro)
    | (with_reducible refine bX6_copies_0 ?_; simp (disch := first | omega | decide) only [w_nl0, w_nli, w_nlr, ↓w_ts1, ↓w_ts0, w_rcv, w_rfv, w_cs, true_and, and_true, List.length_nil, List.length_cons, Nat.reduceAdd, Nat.reduceLeDiff, Nat.zero_le, Nat.reduceLT, ↓w_nil, ix_nI, nI_leP, nI_ltP, nI_eqP, nI_1, ↓i_inN, i_inN, l_le, l_lt, l_eq, r_le, r_lt, r_eq, sh23, ↓w_aload_0, ↓w_iload_1, ↓w_iv, ↓pm_cl2_2, ↓w_ifeq, ↓w_gf3, ↓w_iaload, ↓w_goto, ↓w_iconst, ↓w_ret])
    | (with_reducible refine bX6_copies_1 ?_; simp (disch := first | omega | decide) only [w_nl0, w_nli, w_nlr, ↓w_ts1, ↓w_ts0, w_rcv, w_rfv, w_cs, true_and, and_true, List.length_nil, List.length_cons, Nat.reduceAdd, Nat.reduceLeDiff, Nat.zero_le, Nat.reduceLT, ↓w_nil, ix_nI, nI_leP, nI_ltP, nI_eqP, nI_1, ↓i_inN, i_inN, l_le, l_lt, l_eq, r_le, r_lt, r_eq, sh23, ↓w_aload_0, ↓w_iload_1, ↓w_iv, ↓pm_cl2_2, ↓w_ifeq, ↓w_gf3, ↓w_iaload, ↓w_goto, ↓w_iconst, ↓w_ret])
    | (with_reducible refine bX6_copies_2 ?_; simp (disch := first | omega | decide) only [w_nl0, w_nli, w_nlr, ↓w_ts1, ↓w_ts0, w_rcv, w_rfv, w_cs, true_and, and_true, List.length_nil, List.length_cons, Nat.reduceAdd, Nat.reduceLeDiff, Nat.zero_le, Nat.reduceLT, ↓w_nil, ix_nI, nI_leP, nI_ltP, nI_eqP, nI_1, ↓i_inN, i_inN, l_le, l_lt, l_eq, r_le, r_lt, r_eq, sh23, ↓w_aload_0, ↓w_iload_1, ↓w_iv, ↓pm_cl2_2, ↓w_ifeq, ↓w_gf3, ↓w_iaload, ↓w_goto, ↓w_iconst, ↓w_ret])
    | (with_reducible refine c_R_has (by omega) ?_; simp (disch := first | omega | decide) only [w_nl0, w_nli, w_nlr, ↓w_ts1, ↓w_ts0, w_rcv, w_rfv, w_cs, true_and, and_true, List.length_nil, List.length_cons, Nat.reduceAdd, Nat.reduceLeDiff, Nat.zero_le, Nat.reduceLT, ↓w_nil, ix_nI, nI_leP, nI_ltP, nI_eqP, nI_1, ↓i_inN, i_inN, l_le, l_lt, l_eq, r_le, r_lt, r_eq, sh23, ↓w_aload_0, ↓w_iload_1, ↓w_iv, ↓pm_cl2_2, ↓w_ifeq, ↓w_gf3, ↓w_iaload, ↓w_goto, ↓w_iconst, ↓w_ret])
    | (simp only [w_in])
    | (intro _))
  all_goals grind
theorem c_R_dayOf {m : Int32} (hd : 2 ≤ d) (hQ : Q (some (.int (if hasR I m then I 25 m.toNatClampNeg else -9))) SH I J) : pm_C g d 76 [.ref 23, .int m] Q SH I J := by
  refine eX6_dayOf (by omega) ?_
  repeat' (first
    | (apply And.intro)
    | (with_reducible refine bX6_dayOf_0 ?_; simp (disch := first | omega | decide) only [w_nl0, w_nli, w_nlr, ↓w_ts1, ↓w_ts0, w_rcv, w_rfv, w_cs, true_and, and_true, List.length_nil, List.length_cons, Nat.reduceAdd, Nat.reduceLeDiff, Nat.zero_le, Nat.reduceLT, ↓w_nil, ix_nI, nI_leP, nI_ltP, nI_eqP, nI_1, ↓i_inN, i_inN, l_le, l_lt, l_eq, r_le, r_lt, r_eq, sh23, ↓w_aload_0, ↓w_iload_1, ↓w_iv, ↓pm_cl2_2, ↓w_ifeq, ↓w_gf3, ↓w_iaload, ↓w_goto, ↓w_bipush, ↓w_ret])
    | (with_reducible refine bX6_dayOf_1 ?_; simp (disch := first | omega | decide) only [w_nl0, w_nli, w_nlr, ↓w_ts1, ↓w_ts0, w_rcv, w_rfv, w_cs, true_and, and_true, List.length_nil, List.length_cons, Nat.reduceAdd, Nat.reduceLeDiff, Nat.zero_le, Nat.reduceLT, ↓w_nil, ix_nI, nI_leP, nI_ltP, nI_eqP, nI_1, ↓i_inN, i_inN, l_le, l_lt, l_eq, r_le, r_lt, r_eq, sh23, ↓w_aload_0, ↓w_iload_1, ↓w_iv, ↓pm_cl2_2, ↓w_ifeq, ↓w_gf3, ↓w_iaload, ↓w_goto, ↓w_bipush, ↓w_ret])
    | (with_reducible refine bX6_dayOf_2 ?_; simp (disch := first | omega | decide) only [w_nl0, w_nli, w_nlr, ↓w_ts1, ↓w_ts0, w_rcv, w_rfv, w_cs, true_and, and_true, List.length_nil, List.length_cons, Nat.reduceAdd, Nat.reduceLeDiff, Nat.zero_le, Nat.reduceLT, ↓w_nil, ix_nI, nI_leP, nI_ltP, nI_eqP, nI_1, ↓i_inN, i_inN, l_le, l_lt, l_eq, r_le, r_lt, r_eq, sh23, ↓w_aload_0, ↓w_iload_1, ↓w_iv, ↓pm_cl2_2, ↓w_ifeq, ↓w_gf3, ↓w_iaload, ↓w_goto, ↓w_bipush, ↓w_ret])
    | (with_reducible refine c_R_has (by omega) ?_; simp (disch := first | omega | decide) only [w_nl0, w_nli, w_nlr, ↓w_ts1, ↓w_ts0, w_rcv, w_rfv, w_cs, true_and, and_true, List.length_nil, List.length_cons, Nat.reduceAdd, Nat.reduceLeDiff, Nat.zero_le, Nat.reduceLT, ↓w_nil, ix_nI, nI_leP, nI_ltP, nI_eqP, nI_1, ↓i_inN, i_inN, l_le, l_lt, l_eq, r_le, r_lt, r_eq, sh23, ↓w_aload_0, ↓w_iload_1, ↓w_iv, ↓pm_cl2_2, ↓w_ifeq, ↓w_gf3, ↓w_iaload, ↓w_goto, ↓w_bipush, ↓w_ret])
    | (simp only [w_in])
    | (intro _))
  all_goals grind
theorem c_R_stamper {r f n : Nat} (hd : 2 ≤ d) (hn : I 23 7 = nI n) (hn30 : n ≤ 30) (hr : r < n) (hf : f < 2) (hQ : Q (some (.int (I 28 (2 * r + f)))) SH I J) : pm_C g d 77 [.ref 23, .int (nI r), .int (nI f)] Q SH I J := by
  have h1 := hasR_nI hn hr hn30
  refine eX6_stamper (by omega) ?_
  repeat' (first
    | (apply And.intro)
    | (with_reducible refine bX6_stamper_0 ?_; simp (disch := first | omega | decide) only [w_nl0, w_nli, w_nlr, ↓w_ts1, ↓w_ts0, w_rcv, w_rfv, w_cs, true_and, and_true, List.length_nil, List.length_cons, Nat.reduceAdd, Nat.reduceLeDiff, Nat.zero_le, Nat.reduceLT, ↓w_nil, ix_nI, nI_leP, nI_ltP, nI_eqP, nI_1, ↓i_inN, i_inN, l_le, l_lt, l_eq, r_le, r_lt, r_eq, sh23, ↓w_aload_0, ↓w_iload_1, ↓w_iv, ↓pm_cl2_2, ↓w_ifeq, ↓w_iload_2, ↓w_iconst, ↓w_is, ↓pm_cl1_2, ↓w_gf3, ↓w_imul, ↓w_iadd, ↓w_iaload, ↓w_goto, ↓w_bipush, ↓w_ret, nI_m2, nI_add])
    | (with_reducible refine bX6_stamper_1 ?_; simp (disch := first | omega | decide) only [w_nl0, w_nli, w_nlr, ↓w_ts1, ↓w_ts0, w_rcv, w_rfv, w_cs, true_and, and_true, List.length_nil, List.length_cons, Nat.reduceAdd, Nat.reduceLeDiff, Nat.zero_le, Nat.reduceLT, ↓w_nil, ix_nI, nI_leP, nI_ltP, nI_eqP, nI_1, ↓i_inN, i_inN, l_le, l_lt, l_eq, r_le, r_lt, r_eq, sh23, ↓w_aload_0, ↓w_iload_1, ↓w_iv, ↓pm_cl2_2, ↓w_ifeq, ↓w_iload_2, ↓w_iconst, ↓w_is, ↓pm_cl1_2, ↓w_gf3, ↓w_imul, ↓w_iadd, ↓w_iaload, ↓w_goto, ↓w_bipush, ↓w_ret, nI_m2, nI_add])
    | (with_reducible refine bX6_stamper_2 ?_; simp (disch := first | omega | decide) only [w_nl0, w_nli, w_nlr, ↓w_ts1, ↓w_ts0, w_rcv, w_rfv, w_cs, true_and, and_true, List.length_nil, List.length_cons, Nat.reduceAdd, Nat.reduceLeDiff, Nat.zero_le, Nat.reduceLT, ↓w_nil, ix_nI, nI_leP, nI_ltP, nI_eqP, nI_1, ↓i_inN, i_inN, l_le, l_lt, l_eq, r_le, r_lt, r_eq, sh23, ↓w_aload_0, ↓w_iload_1, ↓w_iv, ↓pm_cl2_2, ↓w_ifeq, ↓w_iload_2, ↓w_iconst, ↓w_is, ↓pm_cl1_2, ↓w_gf3, ↓w_imul, ↓w_iadd, ↓w_iaload, ↓w_goto, ↓w_bipush, ↓w_ret, nI_m2, nI_add])
    | (with_reducible refine c_R_has (by omega) ?_; simp (disch := first | omega | decide) only [w_nl0, w_nli, w_nlr, ↓w_ts1, ↓w_ts0, w_rcv, w_rfv, w_cs, true_and, and_true, List.length_nil, List.length_cons, Nat.reduceAdd, Nat.reduceLeDiff, Nat.zero_le, Nat.reduceLT, ↓w_nil, ix_nI, nI_leP, nI_ltP, nI_eqP, nI_1, ↓i_inN, i_inN, l_le, l_lt, l_eq, r_le, r_lt, r_eq, sh23, ↓w_aload_0, ↓w_iload_1, ↓w_iv, ↓pm_cl2_2, ↓w_ifeq, ↓w_iload_2, ↓w_iconst, ↓w_is, ↓pm_cl1_2, ↓w_gf3, ↓w_imul, ↓w_iadd, ↓w_iaload, ↓w_goto, ↓w_bipush, ↓w_ret, nI_m2, nI_add])
    | (with_reducible refine c_below (by omega) ?_; simp (disch := first | omega | decide) only [w_nl0, w_nli, w_nlr, ↓w_ts1, ↓w_ts0, w_rcv, w_rfv, w_cs, true_and, and_true, List.length_nil, List.length_cons, Nat.reduceAdd, Nat.reduceLeDiff, Nat.zero_le, Nat.reduceLT, ↓w_nil, ix_nI, nI_leP, nI_ltP, nI_eqP, nI_1, ↓i_inN, i_inN, l_le, l_lt, l_eq, r_le, r_lt, r_eq, sh23, ↓w_aload_0, ↓w_iload_1, ↓w_iv, ↓pm_cl2_2, ↓w_ifeq, ↓w_iload_2, ↓w_iconst, ↓w_is, ↓pm_cl1_2, ↓w_gf3, ↓w_imul, ↓w_iadd, ↓w_iaload, ↓w_goto, ↓w_bipush, ↓w_ret, nI_m2, nI_add])
    | (simp only [w_in])
    | (intro _))
  all_goals grind
theorem c_R_stamper0 {r n : Nat} (hd : 2 ≤ d) (hn : I 23 7 = nI n) (hn30 : n ≤ 30) (hr : r < n) (hQ : Q (some (.int (I 28 (2 * r)))) SH I J) : pm_C g d 77 [.ref 23, .int (nI r), .int 0] Q SH I J := c_R_stamper (f := 0) hd hn hn30 hr (by omega) hQ
theorem c_R_stamper1 {r n : Nat} (hd : 2 ≤ d) (hn : I 23 7 = nI n) (hn30 : n ≤ 30) (hr : r < n) (hQ : Q (some (.int (I 28 (2 * r + 1)))) SH I J) : pm_C g d 77 [.ref 23, .int (nI r), .int 1] Q SH I J := c_R_stamper (f := 1) hd hn hn30 hr (by omega) hQ
theorem c_uses {r n : Nat} {m : Int32} (hd : 3 ≤ d) (hn : I 23 7 = nI n) (hn30 : n ≤ 30) (hr : r < n) (hQ : Q (some (.int (if I 28 (2 * r) = m ∨ I 28 (2 * r + 1) = m then 1 else 0))) SH I J) : pm_C g d 78 [.ref 23, .int (nI r), .int m] Q SH I J := by
  refine eX6_uses (by omega) ?_
  repeat' (first
    | (apply And.intro)
    | (with_reducible refine bX6_uses_0 ?_; simp (disch := first | omega | decide) only [w_nl0, w_nli, w_nlr, ↓w_ts1, ↓w_ts0, w_rcv, w_rfv, w_cs, true_and, and_true, List.length_nil, List.length_cons, Nat.reduceAdd, Nat.reduceLeDiff, Nat.zero_le, Nat.reduceLT, ↓w_nil, ix_nI, nI_leP, nI_ltP, nI_eqP, nI_1, ↓i_inN, i_inN, l_le, l_lt, l_eq, r_le, r_lt, r_eq, sh23, ↓w_aload_0, ↓w_iload_1, ↓w_iconst, ↓w_iv, ↓pm_cl2_3, ↓w_iload_2, ↓w_iceq, ↓w_icne, ↓w_goto, ↓w_zret])
    | (with_reducible refine bX6_uses_1 ?_; simp (disch := first | omega | decide) only [w_nl0, w_nli, w_nlr, ↓w_ts1, ↓w_ts0, w_rcv, w_rfv, w_cs, true_and, and_true, List.length_nil, List.length_cons, Nat.reduceAdd, Nat.reduceLeDiff, Nat.zero_le, Nat.reduceLT, ↓w_nil, ix_nI, nI_leP, nI_ltP, nI_eqP, nI_1, ↓i_inN, i_inN, l_le, l_lt, l_eq, r_le, r_lt, r_eq, sh23, ↓w_aload_0, ↓w_iload_1, ↓w_iconst, ↓w_iv, ↓pm_cl2_3, ↓w_iload_2, ↓w_iceq, ↓w_icne, ↓w_goto, ↓w_zret])
    | (with_reducible refine bX6_uses_2 ?_; simp (disch := first | omega | decide) only [w_nl0, w_nli, w_nlr, ↓w_ts1, ↓w_ts0, w_rcv, w_rfv, w_cs, true_and, and_true, List.length_nil, List.length_cons, Nat.reduceAdd, Nat.reduceLeDiff, Nat.zero_le, Nat.reduceLT, ↓w_nil, ix_nI, nI_leP, nI_ltP, nI_eqP, nI_1, ↓i_inN, i_inN, l_le, l_lt, l_eq, r_le, r_lt, r_eq, sh23, ↓w_aload_0, ↓w_iload_1, ↓w_iconst, ↓w_iv, ↓pm_cl2_3, ↓w_iload_2, ↓w_iceq, ↓w_icne, ↓w_goto, ↓w_zret])
    | (with_reducible refine bX6_uses_3 ?_; simp (disch := first | omega | decide) only [w_nl0, w_nli, w_nlr, ↓w_ts1, ↓w_ts0, w_rcv, w_rfv, w_cs, true_and, and_true, List.length_nil, List.length_cons, Nat.reduceAdd, Nat.reduceLeDiff, Nat.zero_le, Nat.reduceLT, ↓w_nil, ix_nI, nI_leP, nI_ltP, nI_eqP, nI_1, ↓i_inN, i_inN, l_le, l_lt, l_eq, r_le, r_lt, r_eq, sh23, ↓w_aload_0, ↓w_iload_1, ↓w_iconst, ↓w_iv, ↓pm_cl2_3, ↓w_iload_2, ↓w_iceq, ↓w_icne, ↓w_goto, ↓w_zret])
    | (with_reducible refine c_R_stamper0 (by omega) hn hn30 hr ?_; simp (disch := first | omega | decide) only [w_nl0, w_nli, w_nlr, ↓w_ts1, ↓w_ts0, w_rcv, w_rfv, w_cs, true_and, and_true, List.length_nil, List.length_cons, Nat.reduceAdd, Nat.reduceLeDiff, Nat.zero_le, Nat.reduceLT, ↓w_nil, ix_nI, nI_leP, nI_ltP, nI_eqP, nI_1, ↓i_inN, i_inN, l_le, l_lt, l_eq, r_le, r_lt, r_eq, sh23, ↓w_aload_0, ↓w_iload_1, ↓w_iconst, ↓w_iv, ↓pm_cl2_3, ↓w_iload_2, ↓w_iceq, ↓w_icne, ↓w_goto, ↓w_zret])
    | (with_reducible refine c_R_stamper1 (by omega) hn hn30 hr ?_; simp (disch := first | omega | decide) only [w_nl0, w_nli, w_nlr, ↓w_ts1, ↓w_ts0, w_rcv, w_rfv, w_cs, true_and, and_true, List.length_nil, List.length_cons, Nat.reduceAdd, Nat.reduceLeDiff, Nat.zero_le, Nat.reduceLT, ↓w_nil, ix_nI, nI_leP, nI_ltP, nI_eqP, nI_1, ↓i_inN, i_inN, l_le, l_lt, l_eq, r_le, r_lt, r_eq, sh23, ↓w_aload_0, ↓w_iload_1, ↓w_iconst, ↓w_iv, ↓pm_cl2_3, ↓w_iload_2, ↓w_iceq, ↓w_icne, ↓w_goto, ↓w_zret])
    | (simp only [w_in])
    | (intro _))
  all_goals grind
theorem c_wear {m : Int32} {n : Nat} (hd : 4 ≤ d) (hn : I 23 7 = nI n) (hn30 : n ≤ 30) (hQ : Q (some (.int (itr (fun k a => if I 28 (2 * k) = m ∨ I 28 (2 * k + 1) = m then a + I 26 k * (1 + I 27 k) else a) 0 n))) SH I J) : pm_C g d 79 [.ref 23, .int m] Q SH I J := by
  refine eX6_wear (by omega) ?_
  refine bX6_wear_0 ?_
  simp (disch := first | omega | decide) only [w_nl0, w_nli, w_nlr, ↓w_ts1, ↓w_ts0, w_rcv, w_rfv, w_cs, true_and, and_true, List.length_nil, List.length_cons, Nat.reduceAdd, Nat.reduceLeDiff, Nat.zero_le, Nat.reduceLT, ↓w_nil, ix_nI, nI_leP, nI_ltP, nI_eqP, nI_1, ↓i_inN, i_inN, l_le, l_lt, l_eq, r_le, r_lt, r_eq, sh23, ↓w_iconst, ↓w_istore_2, ↓w_istore_3]
  refine pm_for (f := fun k a => if I 28 (2 * k) = m ∨ I 28 (2 * k + 1) = m then a + I 26 k * (1 + I 27 k) else a) (U := fun k a => UU g (d - 1) 79 kX6_wear (pm_rm d 79) Q 1 [some (.ref 23), some (.int m), some (.int a), some (.int (nI k))] [] SH I J (0, 0)) n (fun k b hk hb w => ?_) ?_
  · refine bX6_wear_1 ?_
    simp (disch := first | omega | decide) only [w_nl0, w_nli, w_nlr, ↓w_ts1, ↓w_ts0, w_rcv, w_rfv, w_cs, true_and, and_true, List.length_nil, List.length_cons, Nat.reduceAdd, Nat.reduceLeDiff, Nat.zero_le, Nat.reduceLT, ↓w_nil, ix_nI, nI_leP, nI_ltP, nI_eqP, nI_1, ↓i_inN, i_inN, l_le, l_lt, l_eq, r_le, r_lt, r_eq, sh23, ↓w_iload_3, ↓w_aload_0, ↓w_gf0, ↓w_icge, ↓w_iload_1, ↓w_iv, ↓pm_cl2_3, ↓w_ifeq, ↓w_iload_2, ↓w_gf3, ↓w_iaload, ↓w_iconst, ↓w_iadd, ↓w_imul, ↓w_istore_2, hn]
    repeat' (first
      | (apply And.intro)
      | (with_reducible refine bX6_wear_2 ?_; simp (disch := first | omega | decide) only [w_nl0, w_nli, w_nlr, ↓w_ts1, ↓w_ts0, w_rcv, w_rfv, w_cs, true_and, and_true, List.length_nil, List.length_cons, Nat.reduceAdd, Nat.reduceLeDiff, Nat.zero_le, Nat.reduceLT, ↓w_nil, ix_nI, nI_leP, nI_ltP, nI_eqP, nI_1, ↓i_inN, i_inN, l_le, l_lt, l_eq, r_le, r_lt, r_eq, sh23, ↓w_iconst, ↓w_istore_2, ↓w_istore_3, ↓w_iload_3, ↓w_aload_0, ↓w_gf0, ↓w_icge, ↓w_iload_1, ↓w_iv, ↓pm_cl2_3, ↓w_ifeq, ↓w_iload_2, ↓w_gf3, ↓w_iaload, ↓w_iadd, ↓w_imul, ↓w_iinc_3, ↓w_goto, ↓w_ret])
      | (with_reducible refine c_uses (by omega) hn hn30 hk ?_; simp (disch := first | omega | decide) only [w_nl0, w_nli, w_nlr, ↓w_ts1, ↓w_ts0, w_rcv, w_rfv, w_cs, true_and, and_true, List.length_nil, List.length_cons, Nat.reduceAdd, Nat.reduceLeDiff, Nat.zero_le, Nat.reduceLT, ↓w_nil, ix_nI, nI_leP, nI_ltP, nI_eqP, nI_1, ↓i_inN, i_inN, l_le, l_lt, l_eq, r_le, r_lt, r_eq, sh23, ↓w_iconst, ↓w_istore_2, ↓w_istore_3, ↓w_iload_3, ↓w_aload_0, ↓w_gf0, ↓w_icge, ↓w_iload_1, ↓w_iv, ↓pm_cl2_3, ↓w_ifeq, ↓w_iload_2, ↓w_gf3, ↓w_iaload, ↓w_iadd, ↓w_imul, ↓w_iinc_3, ↓w_goto, ↓w_ret])
      | (simp only [w_in])
      | (intro _))
    all_goals grind
  · refine bX6_wear_1 ?_
    simp (disch := first | omega | decide) only [w_nl0, w_nli, w_nlr, ↓w_ts1, ↓w_ts0, w_rcv, w_rfv, w_cs, true_and, and_true, List.length_nil, List.length_cons, Nat.reduceAdd, Nat.reduceLeDiff, Nat.zero_le, Nat.reduceLT, ↓w_nil, ix_nI, nI_leP, nI_ltP, nI_eqP, nI_1, ↓i_inN, i_inN, l_le, l_lt, l_eq, r_le, r_lt, r_eq, sh23, ↓w_iload_3, ↓w_aload_0, ↓w_gf0, ↓w_icge, ↓w_iload_1, ↓w_iv, ↓pm_cl2_3, ↓w_ifeq, ↓w_iload_2, ↓w_gf3, ↓w_iaload, ↓w_iconst, ↓w_iadd, ↓w_imul, ↓w_istore_2, hn]
    repeat' (first
      | (apply And.intro)
      | (with_reducible refine bX6_wear_3 ?_; simp (disch := first | omega | decide) only [w_nl0, w_nli, w_nlr, ↓w_ts1, ↓w_ts0, w_rcv, w_rfv, w_cs, true_and, and_true, List.length_nil, List.length_cons, Nat.reduceAdd, Nat.reduceLeDiff, Nat.zero_le, Nat.reduceLT, ↓w_nil, ix_nI, nI_leP, nI_ltP, nI_eqP, nI_1, ↓i_inN, i_inN, l_le, l_lt, l_eq, r_le, r_lt, r_eq, sh23, ↓w_iconst, ↓w_istore_2, ↓w_istore_3, ↓w_iload_3, ↓w_aload_0, ↓w_gf0, ↓w_icge, ↓w_iload_1, ↓w_iv, ↓pm_cl2_3, ↓w_ifeq, ↓w_iload_2, ↓w_gf3, ↓w_iaload, ↓w_iadd, ↓w_imul, ↓w_iinc_3, ↓w_goto, ↓w_ret])
      | (simp only [w_in])
      | (intro _))
    all_goals grind
theorem c_numberOf {m : Int32} {n : Nat} (hd : 4 ≤ d) (hn : I 23 7 = nI n) (hn30 : n ≤ 30) (hQ : Q (some (.int (itr (fun k a => if I 28 (2 * k) = m ∨ I 28 (2 * k + 1) = m then a + 1 else a) 0 n))) SH I J) : pm_C g d 80 [.ref 23, .int m] Q SH I J := by
  refine eX6_numberOf (by omega) ?_
  refine bX6_numberOf_0 ?_
  simp (disch := first | omega | decide) only [w_nl0, w_nli, w_nlr, ↓w_ts1, ↓w_ts0, w_rcv, w_rfv, w_cs, true_and, and_true, List.length_nil, List.length_cons, Nat.reduceAdd, Nat.reduceLeDiff, Nat.zero_le, Nat.reduceLT, ↓w_nil, ix_nI, nI_leP, nI_ltP, nI_eqP, nI_1, ↓i_inN, i_inN, l_le, l_lt, l_eq, r_le, r_lt, r_eq, sh23, ↓w_iconst, ↓w_istore_2, ↓w_istore_3]
  refine pm_for (f := fun k a => if I 28 (2 * k) = m ∨ I 28 (2 * k + 1) = m then a + 1 else a) (U := fun k a => UU g (d - 1) 80 kX6_numberOf (pm_rm d 80) Q 1 [some (.ref 23), some (.int m), some (.int a), some (.int (nI k))] [] SH I J (0, 0)) n (fun k b hk hb w => ?_) ?_
  · refine bX6_numberOf_1 ?_
    simp (disch := first | omega | decide) only [w_nl0, w_nli, w_nlr, ↓w_ts1, ↓w_ts0, w_rcv, w_rfv, w_cs, true_and, and_true, List.length_nil, List.length_cons, Nat.reduceAdd, Nat.reduceLeDiff, Nat.zero_le, Nat.reduceLT, ↓w_nil, ix_nI, nI_leP, nI_ltP, nI_eqP, nI_1, ↓i_inN, i_inN, l_le, l_lt, l_eq, r_le, r_lt, r_eq, sh23, ↓w_iload_3, ↓w_aload_0, ↓w_gf0, ↓w_icge, ↓w_iload_1, ↓w_iv, ↓pm_cl2_3, ↓w_ifeq, ↓w_iinc_2, hn]
    repeat' (first
      | (apply And.intro)
      | (with_reducible refine bX6_numberOf_2 ?_; simp (disch := first | omega | decide) only [w_nl0, w_nli, w_nlr, ↓w_ts1, ↓w_ts0, w_rcv, w_rfv, w_cs, true_and, and_true, List.length_nil, List.length_cons, Nat.reduceAdd, Nat.reduceLeDiff, Nat.zero_le, Nat.reduceLT, ↓w_nil, ix_nI, nI_leP, nI_ltP, nI_eqP, nI_1, ↓i_inN, i_inN, l_le, l_lt, l_eq, r_le, r_lt, r_eq, sh23, ↓w_iconst, ↓w_istore_2, ↓w_istore_3, ↓w_iload_3, ↓w_aload_0, ↓w_gf0, ↓w_icge, ↓w_iload_1, ↓w_iv, ↓pm_cl2_3, ↓w_ifeq, ↓w_iinc_2, ↓w_iinc_3, ↓w_goto, ↓w_iload_2, ↓w_ret])
      | (with_reducible refine c_uses (by omega) hn hn30 hk ?_; simp (disch := first | omega | decide) only [w_nl0, w_nli, w_nlr, ↓w_ts1, ↓w_ts0, w_rcv, w_rfv, w_cs, true_and, and_true, List.length_nil, List.length_cons, Nat.reduceAdd, Nat.reduceLeDiff, Nat.zero_le, Nat.reduceLT, ↓w_nil, ix_nI, nI_leP, nI_ltP, nI_eqP, nI_1, ↓i_inN, i_inN, l_le, l_lt, l_eq, r_le, r_lt, r_eq, sh23, ↓w_iconst, ↓w_istore_2, ↓w_istore_3, ↓w_iload_3, ↓w_aload_0, ↓w_gf0, ↓w_icge, ↓w_iload_1, ↓w_iv, ↓pm_cl2_3, ↓w_ifeq, ↓w_iinc_2, ↓w_iinc_3, ↓w_goto, ↓w_iload_2, ↓w_ret])
      | (simp only [w_in])
      | (intro _))
    all_goals grind
  · refine bX6_numberOf_1 ?_
    simp (disch := first | omega | decide) only [w_nl0, w_nli, w_nlr, ↓w_ts1, ↓w_ts0, w_rcv, w_rfv, w_cs, true_and, and_true, List.length_nil, List.length_cons, Nat.reduceAdd, Nat.reduceLeDiff, Nat.zero_le, Nat.reduceLT, ↓w_nil, ix_nI, nI_leP, nI_ltP, nI_eqP, nI_1, ↓i_inN, i_inN, l_le, l_lt, l_eq, r_le, r_lt, r_eq, sh23, ↓w_iload_3, ↓w_aload_0, ↓w_gf0, ↓w_icge, ↓w_iload_1, ↓w_iv, ↓pm_cl2_3, ↓w_ifeq, ↓w_iinc_2, hn]
    repeat' (first
      | (apply And.intro)
      | (with_reducible refine bX6_numberOf_3 ?_; simp (disch := first | omega | decide) only [w_nl0, w_nli, w_nlr, ↓w_ts1, ↓w_ts0, w_rcv, w_rfv, w_cs, true_and, and_true, List.length_nil, List.length_cons, Nat.reduceAdd, Nat.reduceLeDiff, Nat.zero_le, Nat.reduceLT, ↓w_nil, ix_nI, nI_leP, nI_ltP, nI_eqP, nI_1, ↓i_inN, i_inN, l_le, l_lt, l_eq, r_le, r_lt, r_eq, sh23, ↓w_iconst, ↓w_istore_2, ↓w_istore_3, ↓w_iload_3, ↓w_aload_0, ↓w_gf0, ↓w_icge, ↓w_iload_1, ↓w_iv, ↓pm_cl2_3, ↓w_ifeq, ↓w_iinc_2, ↓w_iinc_3, ↓w_goto, ↓w_iload_2, ↓w_ret])
      | (simp only [w_in])
      | (intro _))
    all_goals grind
theorem c_copiesOf {m : Int32} {n : Nat} (hd : 4 ≤ d) (hn : I 23 7 = nI n) (hn30 : n ≤ 30) (hQ : Q (some (.int (itr (fun k a => if I 28 (2 * k) = m ∨ I 28 (2 * k + 1) = m then a + I 26 k else a) 0 n))) SH I J) : pm_C g d 81 [.ref 23, .int m] Q SH I J := by
  refine eX6_copiesOf (by omega) ?_
  refine bX6_copiesOf_0 ?_
  simp (disch := first | omega | decide) only [w_nl0, w_nli, w_nlr, ↓w_ts1, ↓w_ts0, w_rcv, w_rfv, w_cs, true_and, and_true, List.length_nil, List.length_cons, Nat.reduceAdd, Nat.reduceLeDiff, Nat.zero_le, Nat.reduceLT, ↓w_nil, ix_nI, nI_leP, nI_ltP, nI_eqP, nI_1, ↓i_inN, i_inN, l_le, l_lt, l_eq, r_le, r_lt, r_eq, sh23, ↓w_iconst, ↓w_istore_2, ↓w_istore_3]
  refine pm_for (f := fun k a => if I 28 (2 * k) = m ∨ I 28 (2 * k + 1) = m then a + I 26 k else a) (U := fun k a => UU g (d - 1) 81 kX6_copiesOf (pm_rm d 81) Q 1 [some (.ref 23), some (.int m), some (.int a), some (.int (nI k))] [] SH I J (0, 0)) n (fun k b hk hb w => ?_) ?_
  · refine bX6_copiesOf_1 ?_
    simp (disch := first | omega | decide) only [w_nl0, w_nli, w_nlr, ↓w_ts1, ↓w_ts0, w_rcv, w_rfv, w_cs, true_and, and_true, List.length_nil, List.length_cons, Nat.reduceAdd, Nat.reduceLeDiff, Nat.zero_le, Nat.reduceLT, ↓w_nil, ix_nI, nI_leP, nI_ltP, nI_eqP, nI_1, ↓i_inN, i_inN, l_le, l_lt, l_eq, r_le, r_lt, r_eq, sh23, ↓w_iload_3, ↓w_aload_0, ↓w_gf0, ↓w_icge, ↓w_iload_1, ↓w_iv, ↓pm_cl2_3, ↓w_ifeq, ↓w_iload_2, ↓w_gf3, ↓w_iaload, ↓w_iadd, ↓w_istore_2, hn]
    repeat' (first
      | (apply And.intro)
      | (with_reducible refine bX6_copiesOf_2 ?_; simp (disch := first | omega | decide) only [w_nl0, w_nli, w_nlr, ↓w_ts1, ↓w_ts0, w_rcv, w_rfv, w_cs, true_and, and_true, List.length_nil, List.length_cons, Nat.reduceAdd, Nat.reduceLeDiff, Nat.zero_le, Nat.reduceLT, ↓w_nil, ix_nI, nI_leP, nI_ltP, nI_eqP, nI_1, ↓i_inN, i_inN, l_le, l_lt, l_eq, r_le, r_lt, r_eq, sh23, ↓w_iconst, ↓w_istore_2, ↓w_istore_3, ↓w_iload_3, ↓w_aload_0, ↓w_gf0, ↓w_icge, ↓w_iload_1, ↓w_iv, ↓pm_cl2_3, ↓w_ifeq, ↓w_iload_2, ↓w_gf3, ↓w_iaload, ↓w_iadd, ↓w_iinc_3, ↓w_goto, ↓w_ret])
      | (with_reducible refine c_uses (by omega) hn hn30 hk ?_; simp (disch := first | omega | decide) only [w_nl0, w_nli, w_nlr, ↓w_ts1, ↓w_ts0, w_rcv, w_rfv, w_cs, true_and, and_true, List.length_nil, List.length_cons, Nat.reduceAdd, Nat.reduceLeDiff, Nat.zero_le, Nat.reduceLT, ↓w_nil, ix_nI, nI_leP, nI_ltP, nI_eqP, nI_1, ↓i_inN, i_inN, l_le, l_lt, l_eq, r_le, r_lt, r_eq, sh23, ↓w_iconst, ↓w_istore_2, ↓w_istore_3, ↓w_iload_3, ↓w_aload_0, ↓w_gf0, ↓w_icge, ↓w_iload_1, ↓w_iv, ↓pm_cl2_3, ↓w_ifeq, ↓w_iload_2, ↓w_gf3, ↓w_iaload, ↓w_iadd, ↓w_iinc_3, ↓w_goto, ↓w_ret])
      | (simp only [w_in])
      | (intro _))
    all_goals grind
  · refine bX6_copiesOf_1 ?_
    simp (disch := first | omega | decide) only [w_nl0, w_nli, w_nlr, ↓w_ts1, ↓w_ts0, w_rcv, w_rfv, w_cs, true_and, and_true, List.length_nil, List.length_cons, Nat.reduceAdd, Nat.reduceLeDiff, Nat.zero_le, Nat.reduceLT, ↓w_nil, ix_nI, nI_leP, nI_ltP, nI_eqP, nI_1, ↓i_inN, i_inN, l_le, l_lt, l_eq, r_le, r_lt, r_eq, sh23, ↓w_iload_3, ↓w_aload_0, ↓w_gf0, ↓w_icge, ↓w_iload_1, ↓w_iv, ↓pm_cl2_3, ↓w_ifeq, ↓w_iload_2, ↓w_gf3, ↓w_iaload, ↓w_iadd, ↓w_istore_2, hn]
    repeat' (first
      | (apply And.intro)
      | (with_reducible refine bX6_copiesOf_3 ?_; simp (disch := first | omega | decide) only [w_nl0, w_nli, w_nlr, ↓w_ts1, ↓w_ts0, w_rcv, w_rfv, w_cs, true_and, and_true, List.length_nil, List.length_cons, Nat.reduceAdd, Nat.reduceLeDiff, Nat.zero_le, Nat.reduceLT, ↓w_nil, ix_nI, nI_leP, nI_ltP, nI_eqP, nI_1, ↓i_inN, i_inN, l_le, l_lt, l_eq, r_le, r_lt, r_eq, sh23, ↓w_iconst, ↓w_istore_2, ↓w_istore_3, ↓w_iload_3, ↓w_aload_0, ↓w_gf0, ↓w_icge, ↓w_iload_1, ↓w_iv, ↓pm_cl2_3, ↓w_ifeq, ↓w_iload_2, ↓w_gf3, ↓w_iaload, ↓w_iadd, ↓w_iinc_3, ↓w_goto, ↓w_ret])
      | (simp only [w_in])
      | (intro _))
    all_goals grind
def rfactV (I : pm_MI) (r : Nat) (w : Int32) : Int32 := if w = 0 then I 24 r else if w = 1 then I 25 r else if w = 2 then I 26 r else if w = 3 then I 27 r else if w = 4 then I 28 (2 * r) else I 28 (2 * r + 1)
theorem c_R_fact {r n : Nat} {w : Int32} (hd : 3 ≤ d) (hn : I 23 7 = nI n) (hn30 : n ≤ 30) (hr : r < n) (hQ : Q (some (.int (rfactV I r w))) SH I J) : pm_C g d 82 [.ref 23, .int (nI r), .int w] Q SH I J := by
  have h1 := hasR_nI hn hr hn30
  unfold rfactV at hQ
  refine eX6_fact (by omega) ?_
  repeat' (first
    | (apply And.intro)
    | (with_reducible refine bX6_fact_0 ?_; simp (disch := first | omega | decide) only [w_nl0, w_nli, w_nlr, ↓w_ts1, ↓w_ts0, w_rcv, w_rfv, w_cs, true_and, and_true, List.length_nil, List.length_cons, Nat.reduceAdd, Nat.reduceLeDiff, Nat.zero_le, Nat.reduceLT, ↓w_nil, ix_nI, nI_leP, nI_ltP, nI_eqP, nI_1, ↓i_inN, i_inN, l_le, l_lt, l_eq, r_le, r_lt, r_eq, sh23, ↓w_aload_0, ↓w_iload_1, ↓w_iv, ↓pm_cl2_2, ↓w_ifne, ↓w_bipush, ↓w_ret, ↓w_iload_2, ↓w_sw_X6_fact_12, ↓w_gf3, ↓w_iaload, ↓w_iconst, ↓pm_cl2_3])
    | (with_reducible refine bX6_fact_1 ?_; simp (disch := first | omega | decide) only [w_nl0, w_nli, w_nlr, ↓w_ts1, ↓w_ts0, w_rcv, w_rfv, w_cs, true_and, and_true, List.length_nil, List.length_cons, Nat.reduceAdd, Nat.reduceLeDiff, Nat.zero_le, Nat.reduceLT, ↓w_nil, ix_nI, nI_leP, nI_ltP, nI_eqP, nI_1, ↓i_inN, i_inN, l_le, l_lt, l_eq, r_le, r_lt, r_eq, sh23, ↓w_aload_0, ↓w_iload_1, ↓w_iv, ↓pm_cl2_2, ↓w_ifne, ↓w_bipush, ↓w_ret, ↓w_iload_2, ↓w_sw_X6_fact_12, ↓w_gf3, ↓w_iaload, ↓w_iconst, ↓pm_cl2_3])
    | (with_reducible refine bX6_fact_2 ?_; simp (disch := first | omega | decide) only [w_nl0, w_nli, w_nlr, ↓w_ts1, ↓w_ts0, w_rcv, w_rfv, w_cs, true_and, and_true, List.length_nil, List.length_cons, Nat.reduceAdd, Nat.reduceLeDiff, Nat.zero_le, Nat.reduceLT, ↓w_nil, ix_nI, nI_leP, nI_ltP, nI_eqP, nI_1, ↓i_inN, i_inN, l_le, l_lt, l_eq, r_le, r_lt, r_eq, sh23, ↓w_aload_0, ↓w_iload_1, ↓w_iv, ↓pm_cl2_2, ↓w_ifne, ↓w_bipush, ↓w_ret, ↓w_iload_2, ↓w_sw_X6_fact_12, ↓w_gf3, ↓w_iaload, ↓w_iconst, ↓pm_cl2_3])
    | (with_reducible refine bX6_fact_3 ?_; simp (disch := first | omega | decide) only [w_nl0, w_nli, w_nlr, ↓w_ts1, ↓w_ts0, w_rcv, w_rfv, w_cs, true_and, and_true, List.length_nil, List.length_cons, Nat.reduceAdd, Nat.reduceLeDiff, Nat.zero_le, Nat.reduceLT, ↓w_nil, ix_nI, nI_leP, nI_ltP, nI_eqP, nI_1, ↓i_inN, i_inN, l_le, l_lt, l_eq, r_le, r_lt, r_eq, sh23, ↓w_aload_0, ↓w_iload_1, ↓w_iv, ↓pm_cl2_2, ↓w_ifne, ↓w_bipush, ↓w_ret, ↓w_iload_2, ↓w_sw_X6_fact_12, ↓w_gf3, ↓w_iaload, ↓w_iconst, ↓pm_cl2_3])
    | (with_reducible refine bX6_fact_4 ?_; simp (disch := first | omega | decide) only [w_nl0, w_nli, w_nlr, ↓w_ts1, ↓w_ts0, w_rcv, w_rfv, w_cs, true_and, and_true, List.length_nil, List.length_cons, Nat.reduceAdd, Nat.reduceLeDiff, Nat.zero_le, Nat.reduceLT, ↓w_nil, ix_nI, nI_leP, nI_ltP, nI_eqP, nI_1, ↓i_inN, i_inN, l_le, l_lt, l_eq, r_le, r_lt, r_eq, sh23, ↓w_aload_0, ↓w_iload_1, ↓w_iv, ↓pm_cl2_2, ↓w_ifne, ↓w_bipush, ↓w_ret, ↓w_iload_2, ↓w_sw_X6_fact_12, ↓w_gf3, ↓w_iaload, ↓w_iconst, ↓pm_cl2_3])
    | (with_reducible refine bX6_fact_5 ?_; simp (disch := first | omega | decide) only [w_nl0, w_nli, w_nlr, ↓w_ts1, ↓w_ts0, w_rcv, w_rfv, w_cs, true_and, and_true, List.length_nil, List.length_cons, Nat.reduceAdd, Nat.reduceLeDiff, Nat.zero_le, Nat.reduceLT, ↓w_nil, ix_nI, nI_leP, nI_ltP, nI_eqP, nI_1, ↓i_inN, i_inN, l_le, l_lt, l_eq, r_le, r_lt, r_eq, sh23, ↓w_aload_0, ↓w_iload_1, ↓w_iv, ↓pm_cl2_2, ↓w_ifne, ↓w_bipush, ↓w_ret, ↓w_iload_2, ↓w_sw_X6_fact_12, ↓w_gf3, ↓w_iaload, ↓w_iconst, ↓pm_cl2_3])
    | (with_reducible refine bX6_fact_6 ?_; simp (disch := first | omega | decide) only [w_nl0, w_nli, w_nlr, ↓w_ts1, ↓w_ts0, w_rcv, w_rfv, w_cs, true_and, and_true, List.length_nil, List.length_cons, Nat.reduceAdd, Nat.reduceLeDiff, Nat.zero_le, Nat.reduceLT, ↓w_nil, ix_nI, nI_leP, nI_ltP, nI_eqP, nI_1, ↓i_inN, i_inN, l_le, l_lt, l_eq, r_le, r_lt, r_eq, sh23, ↓w_aload_0, ↓w_iload_1, ↓w_iv, ↓pm_cl2_2, ↓w_ifne, ↓w_bipush, ↓w_ret, ↓w_iload_2, ↓w_sw_X6_fact_12, ↓w_gf3, ↓w_iaload, ↓w_iconst, ↓pm_cl2_3])
    | (with_reducible refine bX6_fact_7 ?_; simp (disch := first | omega | decide) only [w_nl0, w_nli, w_nlr, ↓w_ts1, ↓w_ts0, w_rcv, w_rfv, w_cs, true_and, and_true, List.length_nil, List.length_cons, Nat.reduceAdd, Nat.reduceLeDiff, Nat.zero_le, Nat.reduceLT, ↓w_nil, ix_nI, nI_leP, nI_ltP, nI_eqP, nI_1, ↓i_inN, i_inN, l_le, l_lt, l_eq, r_le, r_lt, r_eq, sh23, ↓w_aload_0, ↓w_iload_1, ↓w_iv, ↓pm_cl2_2, ↓w_ifne, ↓w_bipush, ↓w_ret, ↓w_iload_2, ↓w_sw_X6_fact_12, ↓w_gf3, ↓w_iaload, ↓w_iconst, ↓pm_cl2_3])
    | (with_reducible refine c_R_has (by omega) ?_; simp (disch := first | omega | decide) only [w_nl0, w_nli, w_nlr, ↓w_ts1, ↓w_ts0, w_rcv, w_rfv, w_cs, true_and, and_true, List.length_nil, List.length_cons, Nat.reduceAdd, Nat.reduceLeDiff, Nat.zero_le, Nat.reduceLT, ↓w_nil, ix_nI, nI_leP, nI_ltP, nI_eqP, nI_1, ↓i_inN, i_inN, l_le, l_lt, l_eq, r_le, r_lt, r_eq, sh23, ↓w_aload_0, ↓w_iload_1, ↓w_iv, ↓pm_cl2_2, ↓w_ifne, ↓w_bipush, ↓w_ret, ↓w_iload_2, ↓w_sw_X6_fact_12, ↓w_gf3, ↓w_iaload, ↓w_iconst, ↓pm_cl2_3])
    | (with_reducible refine c_R_stamper0 (by omega) hn hn30 hr ?_; simp (disch := first | omega | decide) only [w_nl0, w_nli, w_nlr, ↓w_ts1, ↓w_ts0, w_rcv, w_rfv, w_cs, true_and, and_true, List.length_nil, List.length_cons, Nat.reduceAdd, Nat.reduceLeDiff, Nat.zero_le, Nat.reduceLT, ↓w_nil, ix_nI, nI_leP, nI_ltP, nI_eqP, nI_1, ↓i_inN, i_inN, l_le, l_lt, l_eq, r_le, r_lt, r_eq, sh23, ↓w_aload_0, ↓w_iload_1, ↓w_iv, ↓pm_cl2_2, ↓w_ifne, ↓w_bipush, ↓w_ret, ↓w_iload_2, ↓w_sw_X6_fact_12, ↓w_gf3, ↓w_iaload, ↓w_iconst, ↓pm_cl2_3])
    | (with_reducible refine c_R_stamper1 (by omega) hn hn30 hr ?_; simp (disch := first | omega | decide) only [w_nl0, w_nli, w_nlr, ↓w_ts1, ↓w_ts0, w_rcv, w_rfv, w_cs, true_and, and_true, List.length_nil, List.length_cons, Nat.reduceAdd, Nat.reduceLeDiff, Nat.zero_le, Nat.reduceLT, ↓w_nil, ix_nI, nI_leP, nI_ltP, nI_eqP, nI_1, ↓i_inN, i_inN, l_le, l_lt, l_eq, r_le, r_lt, r_eq, sh23, ↓w_aload_0, ↓w_iload_1, ↓w_iv, ↓pm_cl2_2, ↓w_ifne, ↓w_bipush, ↓w_ret, ↓w_iload_2, ↓w_sw_X6_fact_12, ↓w_gf3, ↓w_iaload, ↓w_iconst, ↓pm_cl2_3])
    | (simp only [w_in])
    | (intro _))
  all_goals grind
theorem c_R_make {r n : Nat} {p : Nat} {c hot y : Int32} (hd : 3 ≤ d) (hn : I 23 7 = nI n) (hn30 : n < 30) (hp : p < 6) (hQ : Q (some (.int (nI n))) SH (pm_up (pm_up (pm_up (pm_up (pm_up (pm_up (pm_up (pm_up (pm_up I 24 n (nI p)) 25 n y) 26 n c) 27 n (if hot = 0 then 0 else 1)) 28 (2 * n) (I 20 (2 * p))) 28 (2 * n + 1) (I 20 (2 * p + 1))) 29 n (I 21 p)) 30 n (I 22 p)) 23 7 (nI (n + 1))) J) : pm_C g d 74 [.ref 23, .ref 19, .int (nI p), .int c, .int hot, .int y] Q SH I J := by
  refine eX6_make (by omega) ?_
  repeat' (first
    | (apply And.intro)
    | (with_reducible refine bX6_make_0 ?_; simp (disch := first | omega | decide) only [w_nl0, w_nli, w_nlr, ↓w_ts1, ↓w_ts0, w_rcv, w_rfv, w_cs, true_and, and_true, List.length_nil, List.length_cons, Nat.reduceAdd, Nat.reduceLeDiff, Nat.zero_le, Nat.reduceLT, ↓w_nil, ix_nI, nI_leP, nI_ltP, nI_eqP, nI_1, ↓i_inN, i_inN, l_le, l_lt, l_eq, r_le, r_lt, r_eq, sh23, ↓w_aload_0, ↓w_gf0, ↓w_istore_6, ↓w_iload_6, ↓w_iflt, ↓w_bipush, ↓w_icge, ↓w_iload_2, ↓w_is, ↓pm_cl1_2, ↓w_ifne, ↓w_ret, ↓w_gf3, ↓w_iastore, ↓w_iload_5, ↓w_iload_3, ↓w_iload_4, ↓w_ifeq, ↓w_iconst, ↓w_goto, ↓w_imul, ↓w_aload_1, ↓w_iv, ↓pm_cl2_3, ↓w_iadd, ↓w_iaload, ↓w_pf0, hn, nI_m2, pm_up_o, sh19])
    | (with_reducible refine bX6_make_1 ?_; simp (disch := first | omega | decide) only [w_nl0, w_nli, w_nlr, ↓w_ts1, ↓w_ts0, w_rcv, w_rfv, w_cs, true_and, and_true, List.length_nil, List.length_cons, Nat.reduceAdd, Nat.reduceLeDiff, Nat.zero_le, Nat.reduceLT, ↓w_nil, ix_nI, nI_leP, nI_ltP, nI_eqP, nI_1, ↓i_inN, i_inN, l_le, l_lt, l_eq, r_le, r_lt, r_eq, sh23, ↓w_aload_0, ↓w_gf0, ↓w_istore_6, ↓w_iload_6, ↓w_iflt, ↓w_bipush, ↓w_icge, ↓w_iload_2, ↓w_is, ↓pm_cl1_2, ↓w_ifne, ↓w_ret, ↓w_gf3, ↓w_iastore, ↓w_iload_5, ↓w_iload_3, ↓w_iload_4, ↓w_ifeq, ↓w_iconst, ↓w_goto, ↓w_imul, ↓w_aload_1, ↓w_iv, ↓pm_cl2_3, ↓w_iadd, ↓w_iaload, ↓w_pf0, hn, nI_m2, pm_up_o, sh19])
    | (with_reducible refine bX6_make_2 ?_; simp (disch := first | omega | decide) only [w_nl0, w_nli, w_nlr, ↓w_ts1, ↓w_ts0, w_rcv, w_rfv, w_cs, true_and, and_true, List.length_nil, List.length_cons, Nat.reduceAdd, Nat.reduceLeDiff, Nat.zero_le, Nat.reduceLT, ↓w_nil, ix_nI, nI_leP, nI_ltP, nI_eqP, nI_1, ↓i_inN, i_inN, l_le, l_lt, l_eq, r_le, r_lt, r_eq, sh23, ↓w_aload_0, ↓w_gf0, ↓w_istore_6, ↓w_iload_6, ↓w_iflt, ↓w_bipush, ↓w_icge, ↓w_iload_2, ↓w_is, ↓pm_cl1_2, ↓w_ifne, ↓w_ret, ↓w_gf3, ↓w_iastore, ↓w_iload_5, ↓w_iload_3, ↓w_iload_4, ↓w_ifeq, ↓w_iconst, ↓w_goto, ↓w_imul, ↓w_aload_1, ↓w_iv, ↓pm_cl2_3, ↓w_iadd, ↓w_iaload, ↓w_pf0, hn, nI_m2, pm_up_o, sh19])
    | (with_reducible refine bX6_make_3 ?_; simp (disch := first | omega | decide) only [w_nl0, w_nli, w_nlr, ↓w_ts1, ↓w_ts0, w_rcv, w_rfv, w_cs, true_and, and_true, List.length_nil, List.length_cons, Nat.reduceAdd, Nat.reduceLeDiff, Nat.zero_le, Nat.reduceLT, ↓w_nil, ix_nI, nI_leP, nI_ltP, nI_eqP, nI_1, ↓i_inN, i_inN, l_le, l_lt, l_eq, r_le, r_lt, r_eq, sh23, ↓w_aload_0, ↓w_gf0, ↓w_istore_6, ↓w_iload_6, ↓w_iflt, ↓w_bipush, ↓w_icge, ↓w_iload_2, ↓w_is, ↓pm_cl1_2, ↓w_ifne, ↓w_ret, ↓w_gf3, ↓w_iastore, ↓w_iload_5, ↓w_iload_3, ↓w_iload_4, ↓w_ifeq, ↓w_iconst, ↓w_goto, ↓w_imul, ↓w_aload_1, ↓w_iv, ↓pm_cl2_3, ↓w_iadd, ↓w_iaload, ↓w_pf0, hn, nI_m2, pm_up_o, sh19])
    | (with_reducible refine bX6_make_4 ?_; simp (disch := first | omega | decide) only [w_nl0, w_nli, w_nlr, ↓w_ts1, ↓w_ts0, w_rcv, w_rfv, w_cs, true_and, and_true, List.length_nil, List.length_cons, Nat.reduceAdd, Nat.reduceLeDiff, Nat.zero_le, Nat.reduceLT, ↓w_nil, ix_nI, nI_leP, nI_ltP, nI_eqP, nI_1, ↓i_inN, i_inN, l_le, l_lt, l_eq, r_le, r_lt, r_eq, sh23, ↓w_aload_0, ↓w_gf0, ↓w_istore_6, ↓w_iload_6, ↓w_iflt, ↓w_bipush, ↓w_icge, ↓w_iload_2, ↓w_is, ↓pm_cl1_2, ↓w_ifne, ↓w_ret, ↓w_gf3, ↓w_iastore, ↓w_iload_5, ↓w_iload_3, ↓w_iload_4, ↓w_ifeq, ↓w_iconst, ↓w_goto, ↓w_imul, ↓w_aload_1, ↓w_iv, ↓pm_cl2_3, ↓w_iadd, ↓w_iaload, ↓w_pf0, hn, nI_m2, pm_up_o, sh19])
    | (with_reducible refine c_below (by omega) ?_; simp (disch := first | omega | decide) only [w_nl0, w_nli, w_nlr, ↓w_ts1, ↓w_ts0, w_rcv, w_rfv, w_cs, true_and, and_true, List.length_nil, List.length_cons, Nat.reduceAdd, Nat.reduceLeDiff, Nat.zero_le, Nat.reduceLT, ↓w_nil, ix_nI, nI_leP, nI_ltP, nI_eqP, nI_1, ↓i_inN, i_inN, l_le, l_lt, l_eq, r_le, r_lt, r_eq, sh23, ↓w_aload_0, ↓w_gf0, ↓w_istore_6, ↓w_iload_6, ↓w_iflt, ↓w_bipush, ↓w_icge, ↓w_iload_2, ↓w_is, ↓pm_cl1_2, ↓w_ifne, ↓w_ret, ↓w_gf3, ↓w_iastore, ↓w_iload_5, ↓w_iload_3, ↓w_iload_4, ↓w_ifeq, ↓w_iconst, ↓w_goto, ↓w_imul, ↓w_aload_1, ↓w_iv, ↓pm_cl2_3, ↓w_iadd, ↓w_iaload, ↓w_pf0, hn, nI_m2, pm_up_o, sh19])
    | (with_reducible refine c_P_stamper0 (by omega) hp ?_; simp (disch := first | omega | decide) only [w_nl0, w_nli, w_nlr, ↓w_ts1, ↓w_ts0, w_rcv, w_rfv, w_cs, true_and, and_true, List.length_nil, List.length_cons, Nat.reduceAdd, Nat.reduceLeDiff, Nat.zero_le, Nat.reduceLT, ↓w_nil, ix_nI, nI_leP, nI_ltP, nI_eqP, nI_1, ↓i_inN, i_inN, l_le, l_lt, l_eq, r_le, r_lt, r_eq, sh23, ↓w_aload_0, ↓w_gf0, ↓w_istore_6, ↓w_iload_6, ↓w_iflt, ↓w_bipush, ↓w_icge, ↓w_iload_2, ↓w_is, ↓pm_cl1_2, ↓w_ifne, ↓w_ret, ↓w_gf3, ↓w_iastore, ↓w_iload_5, ↓w_iload_3, ↓w_iload_4, ↓w_ifeq, ↓w_iconst, ↓w_goto, ↓w_imul, ↓w_aload_1, ↓w_iv, ↓pm_cl2_3, ↓w_iadd, ↓w_iaload, ↓w_pf0, hn, nI_m2, pm_up_o, sh19])
    | (with_reducible refine c_P_stamper1 (by omega) hp ?_; simp (disch := first | omega | decide) only [w_nl0, w_nli, w_nlr, ↓w_ts1, ↓w_ts0, w_rcv, w_rfv, w_cs, true_and, and_true, List.length_nil, List.length_cons, Nat.reduceAdd, Nat.reduceLeDiff, Nat.zero_le, Nat.reduceLT, ↓w_nil, ix_nI, nI_leP, nI_ltP, nI_eqP, nI_1, ↓i_inN, i_inN, l_le, l_lt, l_eq, r_le, r_lt, r_eq, sh23, ↓w_aload_0, ↓w_gf0, ↓w_istore_6, ↓w_iload_6, ↓w_iflt, ↓w_bipush, ↓w_icge, ↓w_iload_2, ↓w_is, ↓pm_cl1_2, ↓w_ifne, ↓w_ret, ↓w_gf3, ↓w_iastore, ↓w_iload_5, ↓w_iload_3, ↓w_iload_4, ↓w_ifeq, ↓w_iconst, ↓w_goto, ↓w_imul, ↓w_aload_1, ↓w_iv, ↓pm_cl2_3, ↓w_iadd, ↓w_iaload, ↓w_pf0, hn, nI_m2, pm_up_o, sh19])
    | (simp only [w_in])
    | (intro _))
  all_goals grind
theorem c_swishAt {r n t : Nat} (hd : 2 ≤ d) (hn : I 23 7 = nI n) (hn30 : n ≤ 30) (hr : r < n) (hQ : Q (some (.int ((if 0 ≤ (if nI t - nI t / 2 * 2 = 0 then I 29 r else I 30 r) then (if nI t - nI t / 2 * 2 = 0 then I 29 r else I 30 r) else 0 - (if nI t - nI t / 2 * 2 = 0 then I 29 r else I 30 r)) * (1000 - nI t) / 1000))) SH I J) : pm_C g d 83 [.ref 23, .int (nI r), .int (nI t)] Q SH I J := by
  have h1 := hasR_nI hn hr hn30
  refine eX6_swishAt (by omega) ?_
  repeat' (first
    | (apply And.intro)
    | (with_reducible refine bX6_swishAt_0 ?_; simp (disch := first | omega | decide) only [w_nl0, w_nli, w_nlr, ↓w_ts1, ↓w_ts0, w_rcv, w_rfv, w_cs, true_and, and_true, List.length_nil, List.length_cons, Nat.reduceAdd, Nat.reduceLeDiff, Nat.zero_le, Nat.reduceLT, ↓w_nil, ix_nI, nI_leP, nI_ltP, nI_eqP, nI_1, ↓i_inN, i_inN, l_le, l_lt, l_eq, r_le, r_lt, r_eq, sh23, ↓w_aload_0, ↓w_iload_1, ↓w_iv, ↓pm_cl2_2, ↓w_ifne, ↓w_iconst, ↓w_ret, ↓w_iload_2, ↓w_irem, ↓w_gf3, ↓w_iaload, ↓w_goto, ↓w_istore_3, ↓w_iload_3, ↓w_mabs, ↓w_sipush, ↓w_isub, ↓w_imul, ↓w_idiv])
    | (with_reducible refine bX6_swishAt_1 ?_; simp (disch := first | omega | decide) only [w_nl0, w_nli, w_nlr, ↓w_ts1, ↓w_ts0, w_rcv, w_rfv, w_cs, true_and, and_true, List.length_nil, List.length_cons, Nat.reduceAdd, Nat.reduceLeDiff, Nat.zero_le, Nat.reduceLT, ↓w_nil, ix_nI, nI_leP, nI_ltP, nI_eqP, nI_1, ↓i_inN, i_inN, l_le, l_lt, l_eq, r_le, r_lt, r_eq, sh23, ↓w_aload_0, ↓w_iload_1, ↓w_iv, ↓pm_cl2_2, ↓w_ifne, ↓w_iconst, ↓w_ret, ↓w_iload_2, ↓w_irem, ↓w_gf3, ↓w_iaload, ↓w_goto, ↓w_istore_3, ↓w_iload_3, ↓w_mabs, ↓w_sipush, ↓w_isub, ↓w_imul, ↓w_idiv])
    | (with_reducible refine bX6_swishAt_2 ?_; simp (disch := first | omega | decide) only [w_nl0, w_nli, w_nlr, ↓w_ts1, ↓w_ts0, w_rcv, w_rfv, w_cs, true_and, and_true, List.length_nil, List.length_cons, Nat.reduceAdd, Nat.reduceLeDiff, Nat.zero_le, Nat.reduceLT, ↓w_nil, ix_nI, nI_leP, nI_ltP, nI_eqP, nI_1, ↓i_inN, i_inN, l_le, l_lt, l_eq, r_le, r_lt, r_eq, sh23, ↓w_aload_0, ↓w_iload_1, ↓w_iv, ↓pm_cl2_2, ↓w_ifne, ↓w_iconst, ↓w_ret, ↓w_iload_2, ↓w_irem, ↓w_gf3, ↓w_iaload, ↓w_goto, ↓w_istore_3, ↓w_iload_3, ↓w_mabs, ↓w_sipush, ↓w_isub, ↓w_imul, ↓w_idiv])
    | (with_reducible refine bX6_swishAt_3 ?_; simp (disch := first | omega | decide) only [w_nl0, w_nli, w_nlr, ↓w_ts1, ↓w_ts0, w_rcv, w_rfv, w_cs, true_and, and_true, List.length_nil, List.length_cons, Nat.reduceAdd, Nat.reduceLeDiff, Nat.zero_le, Nat.reduceLT, ↓w_nil, ix_nI, nI_leP, nI_ltP, nI_eqP, nI_1, ↓i_inN, i_inN, l_le, l_lt, l_eq, r_le, r_lt, r_eq, sh23, ↓w_aload_0, ↓w_iload_1, ↓w_iv, ↓pm_cl2_2, ↓w_ifne, ↓w_iconst, ↓w_ret, ↓w_iload_2, ↓w_irem, ↓w_gf3, ↓w_iaload, ↓w_goto, ↓w_istore_3, ↓w_iload_3, ↓w_mabs, ↓w_sipush, ↓w_isub, ↓w_imul, ↓w_idiv])
    | (with_reducible refine c_R_has (by omega) ?_; simp (disch := first | omega | decide) only [w_nl0, w_nli, w_nlr, ↓w_ts1, ↓w_ts0, w_rcv, w_rfv, w_cs, true_and, and_true, List.length_nil, List.length_cons, Nat.reduceAdd, Nat.reduceLeDiff, Nat.zero_le, Nat.reduceLT, ↓w_nil, ix_nI, nI_leP, nI_ltP, nI_eqP, nI_1, ↓i_inN, i_inN, l_le, l_lt, l_eq, r_le, r_lt, r_eq, sh23, ↓w_aload_0, ↓w_iload_1, ↓w_iv, ↓pm_cl2_2, ↓w_ifne, ↓w_iconst, ↓w_ret, ↓w_iload_2, ↓w_irem, ↓w_gf3, ↓w_iaload, ↓w_goto, ↓w_istore_3, ↓w_iload_3, ↓w_mabs, ↓w_sipush, ↓w_isub, ↓w_imul, ↓w_idiv])
    | (simp only [w_in])
    | (intro _))
  all_goals grind
theorem c_allFaces {n : Nat} (hd : 1 ≤ d) (hQ : Q (some (.long (1 <<< ((2 * I 23 7).toInt64 &&& 63) - 1))) SH I J) : pm_C g d 84 [.ref 23] Q SH I J := by
  refine eX6_allFaces (by omega) ?_
  repeat' (first
    | (apply And.intro)
    | (with_reducible refine bX6_allFaces_0 ?_; simp (disch := first | omega | decide) only [w_nl0, w_nli, w_nlr, ↓w_ts1, ↓w_ts0, w_rcv, w_rfv, w_cs, true_and, and_true, List.length_nil, List.length_cons, Nat.reduceAdd, Nat.reduceLeDiff, Nat.zero_le, Nat.reduceLT, ↓w_nil, ix_nI, nI_leP, nI_ltP, nI_eqP, nI_1, ↓i_inN, i_inN, l_le, l_lt, l_eq, r_le, r_lt, r_eq, sh23, ↓w_lconst1, ↓w_iconst, ↓w_aload_0, ↓w_gf0, ↓w_imul, ↓w_lshl, ↓w_lsub, ↓w_lret])
    | (simp only [w_in])
    | (intro _))
  all_goals grind
theorem lg_eq0 {x y : Int64} : (lg_cmp x y = 0) = (x = y) := by
  unfold lg_cmp
  apply propext
  by_cases h : x > y
  · rw [if_pos h]
    constructor
    · intro z; cases z
    · intro z; rw [z] at h; exact absurd h Int64.lt_irrefl
  · rw [if_neg h]
    by_cases h2 : x = y
    · rw [if_pos h2]; simp [h2]
    · rw [if_neg h2]
      constructor
      · intro z; cases z
      · intro z; exact absurd z h2
theorem c_R_copiesOn {x : Int64} {n : Nat} (hd : 1 ≤ d) (hn : I 23 7 = nI n) (hn30 : n ≤ 30) (hQ : Q (some (.int (itr (fun k a => if x >>> ((nI (2 * k)).toInt64 &&& 63) &&& 3 = 0 then a else a + I 26 k) 0 n))) SH I J) : pm_C g d 85 [.ref 23, .long x] Q SH I J := by
  refine eX6_copiesOn (by omega) ?_
  refine bX6_copiesOn_0 ?_
  simp (disch := first | omega | decide) only [w_nl0, w_nli, w_nlr, ↓w_ts1, ↓w_ts0, w_rcv, w_rfv, w_cs, true_and, and_true, List.length_nil, List.length_cons, Nat.reduceAdd, Nat.reduceLeDiff, Nat.zero_le, Nat.reduceLT, ↓w_nil, ix_nI, nI_leP, nI_ltP, nI_eqP, nI_1, ↓i_inN, i_inN, l_le, l_lt, l_eq, r_le, r_lt, r_eq, sh23, ↓w_iconst, ↓w_istore_3, ↓w_istore_4]
  refine pm_for (f := fun k a => if x >>> ((nI (2 * k)).toInt64 &&& 63) &&& 3 = 0 then a else a + I 26 k) (U := fun k a => UU g (d - 1) 85 kX6_copiesOn (pm_rm d 85) Q 1 [some (.ref 23), some (.long x), none, some (.int a), some (.int (nI k))] [] SH I J (0, 0)) n (fun k b hk hb w => ?_) ?_
  · refine bX6_copiesOn_1 ?_
    simp (disch := first | omega | decide) only [w_nl0, w_nli, w_nlr, ↓w_ts1, ↓w_ts0, w_rcv, w_rfv, w_cs, true_and, and_true, List.length_nil, List.length_cons, Nat.reduceAdd, Nat.reduceLeDiff, Nat.zero_le, Nat.reduceLT, ↓w_nil, ix_nI, nI_leP, nI_ltP, nI_eqP, nI_1, ↓i_inN, i_inN, l_le, l_lt, l_eq, r_le, r_lt, r_eq, sh23, ↓w_iload_4, ↓w_aload_0, ↓w_gf0, ↓w_icge, ↓w_lload_1, ↓w_iconst, ↓w_imul, ↓w_lshr, ↓w_ldc2_5, ↓w_land, ↓w_lconst0, ↓w_lcmp, ↓w_ifeq, ↓w_iload_3, ↓w_gf3, ↓w_iaload, ↓w_iadd, ↓w_istore_3, hn, nI_2m, lg_eq0]
    repeat' (first
      | (apply And.intro)
      | (with_reducible refine bX6_copiesOn_2 ?_; simp (disch := first | omega | decide) only [w_nl0, w_nli, w_nlr, ↓w_ts1, ↓w_ts0, w_rcv, w_rfv, w_cs, true_and, and_true, List.length_nil, List.length_cons, Nat.reduceAdd, Nat.reduceLeDiff, Nat.zero_le, Nat.reduceLT, ↓w_nil, ix_nI, nI_leP, nI_ltP, nI_eqP, nI_1, ↓i_inN, i_inN, l_le, l_lt, l_eq, r_le, r_lt, r_eq, sh23, ↓w_iconst, ↓w_istore_3, ↓w_istore_4, ↓w_iload_4, ↓w_aload_0, ↓w_gf0, ↓w_icge, ↓w_lload_1, ↓w_imul, ↓w_lshr, ↓w_ldc2_5, ↓w_land, ↓w_lconst0, ↓w_lcmp, ↓w_ifeq, ↓w_iload_3, ↓w_gf3, ↓w_iaload, ↓w_iadd, ↓w_iinc_4, ↓w_goto, ↓w_ret])
      | (simp only [w_in])
      | (intro _))
    all_goals grind
  · refine bX6_copiesOn_1 ?_
    simp (disch := first | omega | decide) only [w_nl0, w_nli, w_nlr, ↓w_ts1, ↓w_ts0, w_rcv, w_rfv, w_cs, true_and, and_true, List.length_nil, List.length_cons, Nat.reduceAdd, Nat.reduceLeDiff, Nat.zero_le, Nat.reduceLT, ↓w_nil, ix_nI, nI_leP, nI_ltP, nI_eqP, nI_1, ↓i_inN, i_inN, l_le, l_lt, l_eq, r_le, r_lt, r_eq, sh23, ↓w_iload_4, ↓w_aload_0, ↓w_gf0, ↓w_icge, ↓w_lload_1, ↓w_iconst, ↓w_imul, ↓w_lshr, ↓w_ldc2_5, ↓w_land, ↓w_lconst0, ↓w_lcmp, ↓w_ifeq, ↓w_iload_3, ↓w_gf3, ↓w_iaload, ↓w_iadd, ↓w_istore_3, hn]
    repeat' (first
      | (apply And.intro)
      | (with_reducible refine bX6_copiesOn_3 ?_; simp (disch := first | omega | decide) only [w_nl0, w_nli, w_nlr, ↓w_ts1, ↓w_ts0, w_rcv, w_rfv, w_cs, true_and, and_true, List.length_nil, List.length_cons, Nat.reduceAdd, Nat.reduceLeDiff, Nat.zero_le, Nat.reduceLT, ↓w_nil, ix_nI, nI_leP, nI_ltP, nI_eqP, nI_1, ↓i_inN, i_inN, l_le, l_lt, l_eq, r_le, r_lt, r_eq, sh23, ↓w_iconst, ↓w_istore_3, ↓w_istore_4, ↓w_iload_4, ↓w_aload_0, ↓w_gf0, ↓w_icge, ↓w_lload_1, ↓w_imul, ↓w_lshr, ↓w_ldc2_5, ↓w_land, ↓w_lconst0, ↓w_lcmp, ↓w_ifeq, ↓w_iload_3, ↓w_gf3, ↓w_iaload, ↓w_iadd, ↓w_iinc_4, ↓w_goto, ↓w_ret])
      | (simp only [w_in])
      | (intro _))
    all_goals grind
-- reports
theorem c_Rp_make {n : Nat} {r f t h : Int32} (hd : 1 ≤ d) (hn : I 37 4 = nI n) (hn60 : n < 60) (hQ : Q (some (.int (nI (n + 1)))) SH (pm_up (pm_up (pm_up (pm_up (pm_up I 38 n r) 39 n f) 40 n t) 41 n (h &&& 1)) 37 4 (nI (n + 1))) J) : pm_C g d 48 [.ref 37, .int r, .int f, .int t, .int h] Q SH I J := by
  refine eX4_make (by omega) ?_
  repeat' (first
    | (apply And.intro)
    | (with_reducible refine bX4_make_0 ?_; simp (disch := first | omega | decide) only [w_nl0, w_nli, w_nlr, ↓w_ts1, ↓w_ts0, w_rcv, w_rfv, w_cs, true_and, and_true, List.length_nil, List.length_cons, Nat.reduceAdd, Nat.reduceLeDiff, Nat.zero_le, Nat.reduceLT, ↓w_nil, ix_nI, nI_leP, nI_ltP, nI_eqP, nI_1, ↓i_inN, i_inN, l_le, l_lt, l_eq, r_le, r_lt, r_eq, sh37, ↓w_aload_0, ↓w_gf0, ↓w_istore_5, ↓w_iload_5, ↓w_iflt, ↓w_bipush, ↓w_iclt, ↓w_ret, ↓w_gf3, ↓w_iload_1, ↓w_iastore, ↓w_iload_2, ↓w_iload_3, ↓w_iload_4, ↓w_bastore, ↓w_iconst, ↓w_iadd, ↓w_pf0, hn, pm_up_s, or_false, false_or, false_and, Nat.reduceEqDiff])
    | (with_reducible refine bX4_make_1 ?_; simp (disch := first | omega | decide) only [w_nl0, w_nli, w_nlr, ↓w_ts1, ↓w_ts0, w_rcv, w_rfv, w_cs, true_and, and_true, List.length_nil, List.length_cons, Nat.reduceAdd, Nat.reduceLeDiff, Nat.zero_le, Nat.reduceLT, ↓w_nil, ix_nI, nI_leP, nI_ltP, nI_eqP, nI_1, ↓i_inN, i_inN, l_le, l_lt, l_eq, r_le, r_lt, r_eq, sh37, ↓w_aload_0, ↓w_gf0, ↓w_istore_5, ↓w_iload_5, ↓w_iflt, ↓w_bipush, ↓w_iclt, ↓w_ret, ↓w_gf3, ↓w_iload_1, ↓w_iastore, ↓w_iload_2, ↓w_iload_3, ↓w_iload_4, ↓w_bastore, ↓w_iconst, ↓w_iadd, ↓w_pf0, hn, pm_up_s, or_false, false_or, false_and, Nat.reduceEqDiff])
    | (with_reducible refine bX4_make_2 ?_; simp (disch := first | omega | decide) only [w_nl0, w_nli, w_nlr, ↓w_ts1, ↓w_ts0, w_rcv, w_rfv, w_cs, true_and, and_true, List.length_nil, List.length_cons, Nat.reduceAdd, Nat.reduceLeDiff, Nat.zero_le, Nat.reduceLT, ↓w_nil, ix_nI, nI_leP, nI_ltP, nI_eqP, nI_1, ↓i_inN, i_inN, l_le, l_lt, l_eq, r_le, r_lt, r_eq, sh37, ↓w_aload_0, ↓w_gf0, ↓w_istore_5, ↓w_iload_5, ↓w_iflt, ↓w_bipush, ↓w_iclt, ↓w_ret, ↓w_gf3, ↓w_iload_1, ↓w_iastore, ↓w_iload_2, ↓w_iload_3, ↓w_iload_4, ↓w_bastore, ↓w_iconst, ↓w_iadd, ↓w_pf0, hn, pm_up_s, or_false, false_or, false_and, Nat.reduceEqDiff])
    | (simp only [w_in])
    | (intro _))
  all_goals grind
theorem c_faceBit {n i : Nat} (hd : 2 ≤ d) (hi : i < 60) (hQ : Q (some (.long (1 <<< ((2 * I 38 i + I 39 i).toInt64 &&& 63)))) SH I J) : pm_C g d 49 [.ref 37, .int (nI i)] Q SH I J := by
  refine eX4_faceBit (by omega) ?_
  repeat' (first
    | (apply And.intro)
    | (with_reducible refine bX4_faceBit_0 ?_; simp (disch := first | omega | decide) only [w_nl0, w_nli, w_nlr, ↓w_ts1, ↓w_ts0, w_rcv, w_rfv, w_cs, true_and, and_true, List.length_nil, List.length_cons, Nat.reduceAdd, Nat.reduceLeDiff, Nat.zero_le, Nat.reduceLT, ↓w_nil, ix_nI, nI_leP, nI_ltP, nI_eqP, nI_1, ↓i_inN, i_inN, l_le, l_lt, l_eq, r_le, r_lt, r_eq, sh37, ↓w_iload_1, ↓w_bipush, ↓w_is, ↓pm_cl1_2, ↓w_ifeq, ↓w_lconst1, ↓w_iconst, ↓w_aload_0, ↓w_gf3, ↓w_iaload, ↓w_imul, ↓w_iadd, ↓w_lshl, ↓w_goto, ↓w_lconst0, ↓w_lret])
    | (with_reducible refine bX4_faceBit_1 ?_; simp (disch := first | omega | decide) only [w_nl0, w_nli, w_nlr, ↓w_ts1, ↓w_ts0, w_rcv, w_rfv, w_cs, true_and, and_true, List.length_nil, List.length_cons, Nat.reduceAdd, Nat.reduceLeDiff, Nat.zero_le, Nat.reduceLT, ↓w_nil, ix_nI, nI_leP, nI_ltP, nI_eqP, nI_1, ↓i_inN, i_inN, l_le, l_lt, l_eq, r_le, r_lt, r_eq, sh37, ↓w_iload_1, ↓w_bipush, ↓w_is, ↓pm_cl1_2, ↓w_ifeq, ↓w_lconst1, ↓w_iconst, ↓w_aload_0, ↓w_gf3, ↓w_iaload, ↓w_imul, ↓w_iadd, ↓w_lshl, ↓w_goto, ↓w_lconst0, ↓w_lret])
    | (with_reducible refine bX4_faceBit_2 ?_; simp (disch := first | omega | decide) only [w_nl0, w_nli, w_nlr, ↓w_ts1, ↓w_ts0, w_rcv, w_rfv, w_cs, true_and, and_true, List.length_nil, List.length_cons, Nat.reduceAdd, Nat.reduceLeDiff, Nat.zero_le, Nat.reduceLT, ↓w_nil, ix_nI, nI_leP, nI_ltP, nI_eqP, nI_1, ↓i_inN, i_inN, l_le, l_lt, l_eq, r_le, r_lt, r_eq, sh37, ↓w_iload_1, ↓w_bipush, ↓w_is, ↓pm_cl1_2, ↓w_ifeq, ↓w_lconst1, ↓w_iconst, ↓w_aload_0, ↓w_gf3, ↓w_iaload, ↓w_imul, ↓w_iadd, ↓w_lshl, ↓w_goto, ↓w_lconst0, ↓w_lret])
    | (with_reducible refine c_below (by omega) ?_; simp (disch := first | omega | decide) only [w_nl0, w_nli, w_nlr, ↓w_ts1, ↓w_ts0, w_rcv, w_rfv, w_cs, true_and, and_true, List.length_nil, List.length_cons, Nat.reduceAdd, Nat.reduceLeDiff, Nat.zero_le, Nat.reduceLT, ↓w_nil, ix_nI, nI_leP, nI_ltP, nI_eqP, nI_1, ↓i_inN, i_inN, l_le, l_lt, l_eq, r_le, r_lt, r_eq, sh37, ↓w_iload_1, ↓w_bipush, ↓w_is, ↓pm_cl1_2, ↓w_ifeq, ↓w_lconst1, ↓w_iconst, ↓w_aload_0, ↓w_gf3, ↓w_iaload, ↓w_imul, ↓w_iadd, ↓w_lshl, ↓w_goto, ↓w_lconst0, ↓w_lret])
    | (simp only [w_in])
    | (intro _))
  all_goals grind
theorem c_tells {n i : Nat} {t h : Int32} (hd : 2 ≤ d) (hn : I 37 4 = nI n) (hn60 : n ≤ 60) (hi : i < n) (hQ : Q (some (.int (if I 40 i = t ∧ I 41 i = h then 1 else 0))) SH I J) : pm_C g d 50 [.ref 37, .int (nI i), .int t, .int h] Q SH I J := by
  refine eX4_tells (by omega) ?_
  repeat' (first
    | (apply And.intro)
    | (with_reducible refine bX4_tells_0 ?_; simp (disch := first | omega | decide) only [w_nl0, w_nli, w_nlr, ↓w_ts1, ↓w_ts0, w_rcv, w_rfv, w_cs, true_and, and_true, List.length_nil, List.length_cons, Nat.reduceAdd, Nat.reduceLeDiff, Nat.zero_le, Nat.reduceLT, ↓w_nil, ix_nI, nI_leP, nI_ltP, nI_eqP, nI_1, ↓i_inN, i_inN, l_le, l_lt, l_eq, r_le, r_lt, r_eq, sh37, ↓w_iload_1, ↓w_aload_0, ↓w_gf0, ↓w_is, ↓pm_cl1_2, ↓w_ifeq, ↓w_gf3, ↓w_iaload, ↓w_iload_2, ↓w_icne, ↓w_baload, ↓w_iload_3, ↓w_iconst, ↓w_goto, ↓w_zret, hn, Nat.reduceEqDiff, false_or])
    | (with_reducible refine bX4_tells_1 ?_; simp (disch := first | omega | decide) only [w_nl0, w_nli, w_nlr, ↓w_ts1, ↓w_ts0, w_rcv, w_rfv, w_cs, true_and, and_true, List.length_nil, List.length_cons, Nat.reduceAdd, Nat.reduceLeDiff, Nat.zero_le, Nat.reduceLT, ↓w_nil, ix_nI, nI_leP, nI_ltP, nI_eqP, nI_1, ↓i_inN, i_inN, l_le, l_lt, l_eq, r_le, r_lt, r_eq, sh37, ↓w_iload_1, ↓w_aload_0, ↓w_gf0, ↓w_is, ↓pm_cl1_2, ↓w_ifeq, ↓w_gf3, ↓w_iaload, ↓w_iload_2, ↓w_icne, ↓w_baload, ↓w_iload_3, ↓w_iconst, ↓w_goto, ↓w_zret, hn, Nat.reduceEqDiff, false_or])
    | (with_reducible refine bX4_tells_2 ?_; simp (disch := first | omega | decide) only [w_nl0, w_nli, w_nlr, ↓w_ts1, ↓w_ts0, w_rcv, w_rfv, w_cs, true_and, and_true, List.length_nil, List.length_cons, Nat.reduceAdd, Nat.reduceLeDiff, Nat.zero_le, Nat.reduceLT, ↓w_nil, ix_nI, nI_leP, nI_ltP, nI_eqP, nI_1, ↓i_inN, i_inN, l_le, l_lt, l_eq, r_le, r_lt, r_eq, sh37, ↓w_iload_1, ↓w_aload_0, ↓w_gf0, ↓w_is, ↓pm_cl1_2, ↓w_ifeq, ↓w_gf3, ↓w_iaload, ↓w_iload_2, ↓w_icne, ↓w_baload, ↓w_iload_3, ↓w_iconst, ↓w_goto, ↓w_zret, hn, Nat.reduceEqDiff, false_or])
    | (with_reducible refine c_below (by omega) ?_; simp (disch := first | omega | decide) only [w_nl0, w_nli, w_nlr, ↓w_ts1, ↓w_ts0, w_rcv, w_rfv, w_cs, true_and, and_true, List.length_nil, List.length_cons, Nat.reduceAdd, Nat.reduceLeDiff, Nat.zero_le, Nat.reduceLT, ↓w_nil, ix_nI, nI_leP, nI_ltP, nI_eqP, nI_1, ↓i_inN, i_inN, l_le, l_lt, l_eq, r_le, r_lt, r_eq, sh37, ↓w_iload_1, ↓w_aload_0, ↓w_gf0, ↓w_is, ↓pm_cl1_2, ↓w_ifeq, ↓w_gf3, ↓w_iaload, ↓w_iload_2, ↓w_icne, ↓w_baload, ↓w_iload_3, ↓w_iconst, ↓w_goto, ↓w_zret, hn, Nat.reduceEqDiff, false_or])
    | (simp only [w_in])
    | (intro _))
  all_goals grind
theorem c_faces {n : Nat} {t h : Int32} (hd : 3 ≤ d) (hn : I 37 4 = nI n) (hn60 : n ≤ 60) (hQ : Q (some (.long (itr (fun k a => if I 40 k = t ∧ I 41 k = h then a ||| 1 <<< ((2 * I 38 k + I 39 k).toInt64 &&& 63) else a) 0 n))) SH I J) : pm_C g d 51 [.ref 37, .int t, .int h] Q SH I J := by
  refine eX4_faces (by omega) ?_
  refine bX4_faces_0 ?_
  simp (disch := first | omega | decide) only [w_nl0, w_nli, w_nlr, ↓w_ts1, ↓w_ts0, w_rcv, w_rfv, w_cs, true_and, and_true, List.length_nil, List.length_cons, Nat.reduceAdd, Nat.reduceLeDiff, Nat.zero_le, Nat.reduceLT, ↓w_nil, ix_nI, nI_leP, nI_ltP, nI_eqP, nI_1, ↓i_inN, i_inN, l_le, l_lt, l_eq, r_le, r_lt, r_eq, sh37, ↓w_lconst0, ↓w_lstore_3, ↓w_iconst, ↓w_istore_5]
  refine pm_for (f := fun k a => if I 40 k = t ∧ I 41 k = h then a ||| 1 <<< ((2 * I 38 k + I 39 k).toInt64 &&& 63) else a) (U := fun k a => UU g (d - 1) 51 kX4_faces (pm_rm d 51) Q 1 [some (.ref 37), some (.int t), some (.int h), some (.long a), none, some (.int (nI k))] [] SH I J (0, 0)) n (fun k b hk hb w => ?_) ?_
  · refine bX4_faces_1 ?_
    simp (disch := first | omega | decide) only [w_nl0, w_nli, w_nlr, ↓w_ts1, ↓w_ts0, w_rcv, w_rfv, w_cs, true_and, and_true, List.length_nil, List.length_cons, Nat.reduceAdd, Nat.reduceLeDiff, Nat.zero_le, Nat.reduceLT, ↓w_nil, ix_nI, nI_leP, nI_ltP, nI_eqP, nI_1, ↓i_inN, i_inN, l_le, l_lt, l_eq, r_le, r_lt, r_eq, sh37, ↓w_iload_5, ↓w_aload_0, ↓w_gf0, ↓w_icge, ↓w_iload_1, ↓w_iload_2, ↓w_iv, ↓pm_cl2_4, ↓w_ifeq, ↓w_lload_3, ↓pm_cl2_2, ↓w_lor, ↓w_lstore_3, hn]
    repeat' (first
      | (apply And.intro)
      | (with_reducible refine bX4_faces_2 ?_; simp (disch := first | omega | decide) only [w_nl0, w_nli, w_nlr, ↓w_ts1, ↓w_ts0, w_rcv, w_rfv, w_cs, true_and, and_true, List.length_nil, List.length_cons, Nat.reduceAdd, Nat.reduceLeDiff, Nat.zero_le, Nat.reduceLT, ↓w_nil, ix_nI, nI_leP, nI_ltP, nI_eqP, nI_1, ↓i_inN, i_inN, l_le, l_lt, l_eq, r_le, r_lt, r_eq, sh37, ↓w_lconst0, ↓w_lstore_3, ↓w_iconst, ↓w_istore_5, ↓w_iload_5, ↓w_aload_0, ↓w_gf0, ↓w_icge, ↓w_iload_1, ↓w_iload_2, ↓w_iv, ↓pm_cl2_4, ↓w_ifeq, ↓w_lload_3, ↓pm_cl2_2, ↓w_lor, ↓w_iinc_5, ↓w_goto, ↓w_lret])
      | (with_reducible refine c_tells (by omega) hn hn60 hk ?_; simp (disch := first | omega | decide) only [w_nl0, w_nli, w_nlr, ↓w_ts1, ↓w_ts0, w_rcv, w_rfv, w_cs, true_and, and_true, List.length_nil, List.length_cons, Nat.reduceAdd, Nat.reduceLeDiff, Nat.zero_le, Nat.reduceLT, ↓w_nil, ix_nI, nI_leP, nI_ltP, nI_eqP, nI_1, ↓i_inN, i_inN, l_le, l_lt, l_eq, r_le, r_lt, r_eq, sh37, ↓w_lconst0, ↓w_lstore_3, ↓w_iconst, ↓w_istore_5, ↓w_iload_5, ↓w_aload_0, ↓w_gf0, ↓w_icge, ↓w_iload_1, ↓w_iload_2, ↓w_iv, ↓pm_cl2_4, ↓w_ifeq, ↓w_lload_3, ↓pm_cl2_2, ↓w_lor, ↓w_iinc_5, ↓w_goto, ↓w_lret])
      | (with_reducible refine c_faceBit (n := n) (by omega) (by omega) ?_; simp (disch := first | omega | decide) only [w_nl0, w_nli, w_nlr, ↓w_ts1, ↓w_ts0, w_rcv, w_rfv, w_cs, true_and, and_true, List.length_nil, List.length_cons, Nat.reduceAdd, Nat.reduceLeDiff, Nat.zero_le, Nat.reduceLT, ↓w_nil, ix_nI, nI_leP, nI_ltP, nI_eqP, nI_1, ↓i_inN, i_inN, l_le, l_lt, l_eq, r_le, r_lt, r_eq, sh37, ↓w_lconst0, ↓w_lstore_3, ↓w_iconst, ↓w_istore_5, ↓w_iload_5, ↓w_aload_0, ↓w_gf0, ↓w_icge, ↓w_iload_1, ↓w_iload_2, ↓w_iv, ↓pm_cl2_4, ↓w_ifeq, ↓w_lload_3, ↓pm_cl2_2, ↓w_lor, ↓w_iinc_5, ↓w_goto, ↓w_lret])
      | (simp only [w_in])
      | (intro _))
    all_goals grind
  · refine bX4_faces_1 ?_
    simp (disch := first | omega | decide) only [w_nl0, w_nli, w_nlr, ↓w_ts1, ↓w_ts0, w_rcv, w_rfv, w_cs, true_and, and_true, List.length_nil, List.length_cons, Nat.reduceAdd, Nat.reduceLeDiff, Nat.zero_le, Nat.reduceLT, ↓w_nil, ix_nI, nI_leP, nI_ltP, nI_eqP, nI_1, ↓i_inN, i_inN, l_le, l_lt, l_eq, r_le, r_lt, r_eq, sh37, ↓w_iload_5, ↓w_aload_0, ↓w_gf0, ↓w_icge, ↓w_iload_1, ↓w_iload_2, ↓w_iv, ↓pm_cl2_4, ↓w_ifeq, ↓w_lload_3, ↓pm_cl2_2, ↓w_lor, ↓w_lstore_3, hn]
    repeat' (first
      | (apply And.intro)
      | (with_reducible refine bX4_faces_3 ?_; simp (disch := first | omega | decide) only [w_nl0, w_nli, w_nlr, ↓w_ts1, ↓w_ts0, w_rcv, w_rfv, w_cs, true_and, and_true, List.length_nil, List.length_cons, Nat.reduceAdd, Nat.reduceLeDiff, Nat.zero_le, Nat.reduceLT, ↓w_nil, ix_nI, nI_leP, nI_ltP, nI_eqP, nI_1, ↓i_inN, i_inN, l_le, l_lt, l_eq, r_le, r_lt, r_eq, sh37, ↓w_lconst0, ↓w_lstore_3, ↓w_iconst, ↓w_istore_5, ↓w_iload_5, ↓w_aload_0, ↓w_gf0, ↓w_icge, ↓w_iload_1, ↓w_iload_2, ↓w_iv, ↓pm_cl2_4, ↓w_ifeq, ↓w_lload_3, ↓pm_cl2_2, ↓w_lor, ↓w_iinc_5, ↓w_goto, ↓w_lret])
      | (simp only [w_in])
      | (intro _))
    all_goals grind
theorem c_Rp_mix {h : Int64} {n : Nat} (hd : 1 ≤ d) (hn : I 37 4 = nI n) (hn60 : n ≤ 60) (hQ : Q (some (.long (itr (fun k h => 31 * (31 * (31 * (31 * h + (I 38 k).toInt64) + (I 39 k).toInt64) + (I 40 k).toInt64) + (if I 41 k = 0 then 0 else 1 : Int32).toInt64) h n))) SH I J) : pm_C g d 52 [.ref 37, .long h] Q SH I J := by
  refine eX4_mix (by omega) ?_
  refine bX4_mix_0 ?_
  simp (disch := first | omega | decide) only [w_nl0, w_nli, w_nlr, ↓w_ts1, ↓w_ts0, w_rcv, w_rfv, w_cs, true_and, and_true, List.length_nil, List.length_cons, Nat.reduceAdd, Nat.reduceLeDiff, Nat.zero_le, Nat.reduceLT, ↓w_nil, ix_nI, nI_leP, nI_ltP, nI_eqP, nI_1, ↓i_inN, i_inN, l_le, l_lt, l_eq, r_le, r_lt, r_eq, sh37, ↓w_iconst, ↓w_istore_3]
  refine pm_for (f := fun k h => 31 * (31 * (31 * (31 * h + (I 38 k).toInt64) + (I 39 k).toInt64) + (I 40 k).toInt64) + (if I 41 k = 0 then 0 else 1 : Int32).toInt64) (U := fun k a => UU g (d - 1) 52 kX4_mix (pm_rm d 52) Q 1 [some (.ref 37), some (.long a), none, some (.int (nI k))] [] SH I J (0, 0)) n (fun k b hk hb w => ?_) ?_
  · refine bX4_mix_1 ?_
    simp (disch := first | omega | decide) only [w_nl0, w_nli, w_nlr, ↓w_ts1, ↓w_ts0, w_rcv, w_rfv, w_cs, true_and, and_true, List.length_nil, List.length_cons, Nat.reduceAdd, Nat.reduceLeDiff, Nat.zero_le, Nat.reduceLT, ↓w_nil, ix_nI, nI_leP, nI_ltP, nI_eqP, nI_1, ↓i_inN, i_inN, l_le, l_lt, l_eq, r_le, r_lt, r_eq, sh37, ↓w_iload_3, ↓w_aload_0, ↓w_gf0, ↓w_icge, ↓w_ldc2_13, ↓w_lload_1, ↓w_lmul, ↓w_gf3, ↓w_iaload, ↓w_i2l, ↓w_ladd, ↓w_lstore_1, ↓w_baload, ↓w_ifeq, ↓w_iconst, ↓w_goto, hn, Nat.reduceEqDiff, false_or]
    repeat' (first
      | (apply And.intro)
      | (with_reducible refine bX4_mix_2 ?_; simp (disch := first | omega | decide) only [w_nl0, w_nli, w_nlr, ↓w_ts1, ↓w_ts0, w_rcv, w_rfv, w_cs, true_and, and_true, List.length_nil, List.length_cons, Nat.reduceAdd, Nat.reduceLeDiff, Nat.zero_le, Nat.reduceLT, ↓w_nil, ix_nI, nI_leP, nI_ltP, nI_eqP, nI_1, ↓i_inN, i_inN, l_le, l_lt, l_eq, r_le, r_lt, r_eq, sh37, ↓w_iconst, ↓w_istore_3, ↓w_iload_3, ↓w_aload_0, ↓w_gf0, ↓w_icge, ↓w_ldc2_13, ↓w_lload_1, ↓w_lmul, ↓w_gf3, ↓w_iaload, ↓w_i2l, ↓w_ladd, ↓w_lstore_1, ↓w_baload, ↓w_ifeq, ↓w_goto, ↓w_iinc_3, ↓w_lret])
      | (with_reducible refine bX4_mix_3 ?_; simp (disch := first | omega | decide) only [w_nl0, w_nli, w_nlr, ↓w_ts1, ↓w_ts0, w_rcv, w_rfv, w_cs, true_and, and_true, List.length_nil, List.length_cons, Nat.reduceAdd, Nat.reduceLeDiff, Nat.zero_le, Nat.reduceLT, ↓w_nil, ix_nI, nI_leP, nI_ltP, nI_eqP, nI_1, ↓i_inN, i_inN, l_le, l_lt, l_eq, r_le, r_lt, r_eq, sh37, ↓w_iconst, ↓w_istore_3, ↓w_iload_3, ↓w_aload_0, ↓w_gf0, ↓w_icge, ↓w_ldc2_13, ↓w_lload_1, ↓w_lmul, ↓w_gf3, ↓w_iaload, ↓w_i2l, ↓w_ladd, ↓w_lstore_1, ↓w_baload, ↓w_ifeq, ↓w_goto, ↓w_iinc_3, ↓w_lret])
      | (simp only [w_in])
      | (intro _))
    all_goals grind
  · refine bX4_mix_1 ?_
    simp (disch := first | omega | decide) only [w_nl0, w_nli, w_nlr, ↓w_ts1, ↓w_ts0, w_rcv, w_rfv, w_cs, true_and, and_true, List.length_nil, List.length_cons, Nat.reduceAdd, Nat.reduceLeDiff, Nat.zero_le, Nat.reduceLT, ↓w_nil, ix_nI, nI_leP, nI_ltP, nI_eqP, nI_1, ↓i_inN, i_inN, l_le, l_lt, l_eq, r_le, r_lt, r_eq, sh37, ↓w_iload_3, ↓w_aload_0, ↓w_gf0, ↓w_icge, ↓w_ldc2_13, ↓w_lload_1, ↓w_lmul, ↓w_gf3, ↓w_iaload, ↓w_i2l, ↓w_ladd, ↓w_lstore_1, ↓w_baload, ↓w_ifeq, ↓w_iconst, ↓w_goto, hn]
    repeat' (first
      | (apply And.intro)
      | (with_reducible refine bX4_mix_4 ?_; simp (disch := first | omega | decide) only [w_nl0, w_nli, w_nlr, ↓w_ts1, ↓w_ts0, w_rcv, w_rfv, w_cs, true_and, and_true, List.length_nil, List.length_cons, Nat.reduceAdd, Nat.reduceLeDiff, Nat.zero_le, Nat.reduceLT, ↓w_nil, ix_nI, nI_leP, nI_ltP, nI_eqP, nI_1, ↓i_inN, i_inN, l_le, l_lt, l_eq, r_le, r_lt, r_eq, sh37, ↓w_iconst, ↓w_istore_3, ↓w_iload_3, ↓w_aload_0, ↓w_gf0, ↓w_icge, ↓w_ldc2_13, ↓w_lload_1, ↓w_lmul, ↓w_gf3, ↓w_iaload, ↓w_i2l, ↓w_ladd, ↓w_lstore_1, ↓w_baload, ↓w_ifeq, ↓w_goto, ↓w_iinc_3, ↓w_lret])
      | (simp only [w_in])
      | (intro _))
    all_goals grind
-- sales
theorem c_Sa_make {n : Nat} {r c l y : Int32} (hd : 1 ≤ d) (hn : I 55 4 = nI n) (hn60 : n < 60) (hQ : Q none SH (pm_up (pm_up (pm_up (pm_up (pm_up I 56 n r) 57 n c) 58 n l) 59 n y) 55 4 (nI (n + 1))) J) : pm_C g d 87 [.ref 55, .int r, .int c, .int l, .int y] Q SH I J := by
  refine eX7_make (by omega) ?_
  repeat' (first
    | (apply And.intro)
    | (with_reducible refine bX7_make_0 ?_; simp (disch := first | omega | decide) only [w_nl0, w_nli, w_nlr, ↓w_ts1, ↓w_ts0, w_rcv, w_rfv, w_cs, true_and, and_true, List.length_nil, List.length_cons, Nat.reduceAdd, Nat.reduceLeDiff, Nat.zero_le, Nat.reduceLT, ↓w_nil, ix_nI, nI_leP, nI_ltP, nI_eqP, nI_1, ↓i_inN, i_inN, l_le, l_lt, l_eq, r_le, r_lt, r_eq, sh55, ↓w_aload_0, ↓w_gf0, ↓w_istore_5, ↓w_iload_5, ↓w_iflt, ↓w_bipush, ↓w_iclt, ↓w_vret, ↓w_gf3, ↓w_iload_1, ↓w_iastore, ↓w_iload_2, ↓w_iload_3, ↓w_iload_4, ↓w_iconst, ↓w_iadd, ↓w_pf0, hn])
    | (with_reducible refine bX7_make_1 ?_; simp (disch := first | omega | decide) only [w_nl0, w_nli, w_nlr, ↓w_ts1, ↓w_ts0, w_rcv, w_rfv, w_cs, true_and, and_true, List.length_nil, List.length_cons, Nat.reduceAdd, Nat.reduceLeDiff, Nat.zero_le, Nat.reduceLT, ↓w_nil, ix_nI, nI_leP, nI_ltP, nI_eqP, nI_1, ↓i_inN, i_inN, l_le, l_lt, l_eq, r_le, r_lt, r_eq, sh55, ↓w_aload_0, ↓w_gf0, ↓w_istore_5, ↓w_iload_5, ↓w_iflt, ↓w_bipush, ↓w_iclt, ↓w_vret, ↓w_gf3, ↓w_iload_1, ↓w_iastore, ↓w_iload_2, ↓w_iload_3, ↓w_iload_4, ↓w_iconst, ↓w_iadd, ↓w_pf0, hn])
    | (with_reducible refine bX7_make_2 ?_; simp (disch := first | omega | decide) only [w_nl0, w_nli, w_nlr, ↓w_ts1, ↓w_ts0, w_rcv, w_rfv, w_cs, true_and, and_true, List.length_nil, List.length_cons, Nat.reduceAdd, Nat.reduceLeDiff, Nat.zero_le, Nat.reduceLT, ↓w_nil, ix_nI, nI_leP, nI_ltP, nI_eqP, nI_1, ↓i_inN, i_inN, l_le, l_lt, l_eq, r_le, r_lt, r_eq, sh55, ↓w_aload_0, ↓w_gf0, ↓w_istore_5, ↓w_iload_5, ↓w_iflt, ↓w_bipush, ↓w_iclt, ↓w_vret, ↓w_gf3, ↓w_iload_1, ↓w_iastore, ↓w_iload_2, ↓w_iload_3, ↓w_iload_4, ↓w_iconst, ↓w_iadd, ↓w_pf0, hn])
    | (simp only [w_in])
    | (intro _))
  all_goals grind
theorem c_kept {r : Int32} {n : Nat} (hd : 1 ≤ d) (hn : I 55 4 = nI n) (hn60 : n ≤ 60) (hQ : Q (some (.int (itr (fun k a => if I 56 k = r then a + I 57 k else a) 0 n))) SH I J) : pm_C g d 88 [.ref 55, .int r] Q SH I J := by
  refine eX7_kept (by omega) ?_
  refine bX7_kept_0 ?_
  simp (disch := first | omega | decide) only [w_nl0, w_nli, w_nlr, ↓w_ts1, ↓w_ts0, w_rcv, w_rfv, w_cs, true_and, and_true, List.length_nil, List.length_cons, Nat.reduceAdd, Nat.reduceLeDiff, Nat.zero_le, Nat.reduceLT, ↓w_nil, ix_nI, nI_leP, nI_ltP, nI_eqP, nI_1, ↓i_inN, i_inN, l_le, l_lt, l_eq, r_le, r_lt, r_eq, sh55, ↓w_iconst, ↓w_istore_2, ↓w_istore_3]
  refine pm_for (f := fun k a => if I 56 k = r then a + I 57 k else a) (U := fun k a => UU g (d - 1) 88 kX7_kept (pm_rm d 88) Q 1 [some (.ref 55), some (.int r), some (.int a), some (.int (nI k))] [] SH I J (0, 0)) n (fun k b hk hb w => ?_) ?_
  · refine bX7_kept_1 ?_
    simp (disch := first | omega | decide) only [w_nl0, w_nli, w_nlr, ↓w_ts1, ↓w_ts0, w_rcv, w_rfv, w_cs, true_and, and_true, List.length_nil, List.length_cons, Nat.reduceAdd, Nat.reduceLeDiff, Nat.zero_le, Nat.reduceLT, ↓w_nil, ix_nI, nI_leP, nI_ltP, nI_eqP, nI_1, ↓i_inN, i_inN, l_le, l_lt, l_eq, r_le, r_lt, r_eq, sh55, ↓w_iload_3, ↓w_aload_0, ↓w_gf0, ↓w_icge, ↓w_gf3, ↓w_iaload, ↓w_iload_1, ↓w_icne, ↓w_iload_2, ↓w_iadd, ↓w_istore_2, hn]
    repeat' (first
      | (apply And.intro)
      | (with_reducible refine bX7_kept_2 ?_; simp (disch := first | omega | decide) only [w_nl0, w_nli, w_nlr, ↓w_ts1, ↓w_ts0, w_rcv, w_rfv, w_cs, true_and, and_true, List.length_nil, List.length_cons, Nat.reduceAdd, Nat.reduceLeDiff, Nat.zero_le, Nat.reduceLT, ↓w_nil, ix_nI, nI_leP, nI_ltP, nI_eqP, nI_1, ↓i_inN, i_inN, l_le, l_lt, l_eq, r_le, r_lt, r_eq, sh55, ↓w_iconst, ↓w_istore_2, ↓w_istore_3, ↓w_iload_3, ↓w_aload_0, ↓w_gf0, ↓w_icge, ↓w_gf3, ↓w_iaload, ↓w_iload_1, ↓w_icne, ↓w_iload_2, ↓w_iadd, ↓w_iinc_3, ↓w_goto, ↓w_ret])
      | (simp only [w_in])
      | (intro _))
    all_goals grind
  · refine bX7_kept_1 ?_
    simp (disch := first | omega | decide) only [w_nl0, w_nli, w_nlr, ↓w_ts1, ↓w_ts0, w_rcv, w_rfv, w_cs, true_and, and_true, List.length_nil, List.length_cons, Nat.reduceAdd, Nat.reduceLeDiff, Nat.zero_le, Nat.reduceLT, ↓w_nil, ix_nI, nI_leP, nI_ltP, nI_eqP, nI_1, ↓i_inN, i_inN, l_le, l_lt, l_eq, r_le, r_lt, r_eq, sh55, ↓w_iload_3, ↓w_aload_0, ↓w_gf0, ↓w_icge, ↓w_gf3, ↓w_iaload, ↓w_iload_1, ↓w_icne, ↓w_iload_2, ↓w_iadd, ↓w_istore_2, hn]
    repeat' (first
      | (apply And.intro)
      | (with_reducible refine bX7_kept_3 ?_; simp (disch := first | omega | decide) only [w_nl0, w_nli, w_nlr, ↓w_ts1, ↓w_ts0, w_rcv, w_rfv, w_cs, true_and, and_true, List.length_nil, List.length_cons, Nat.reduceAdd, Nat.reduceLeDiff, Nat.zero_le, Nat.reduceLT, ↓w_nil, ix_nI, nI_leP, nI_ltP, nI_eqP, nI_1, ↓i_inN, i_inN, l_le, l_lt, l_eq, r_le, r_lt, r_eq, sh55, ↓w_iconst, ↓w_istore_2, ↓w_istore_3, ↓w_iload_3, ↓w_aload_0, ↓w_gf0, ↓w_icge, ↓w_gf3, ↓w_iaload, ↓w_iload_1, ↓w_icne, ↓w_iload_2, ↓w_iadd, ↓w_iinc_3, ↓w_goto, ↓w_ret])
      | (simp only [w_in])
      | (intro _))
    all_goals grind
theorem c_keptIn {r l : Int32} {n : Nat} (hd : 1 ≤ d) (hn : I 55 4 = nI n) (hn60 : n ≤ 60) (hQ : Q (some (.int (itr (fun k a => if I 56 k = r ∧ I 58 k = l then a + I 57 k else a) 0 n))) SH I J) : pm_C g d 89 [.ref 55, .int r, .int l] Q SH I J := by
  refine eX7_keptIn (by omega) ?_
  refine bX7_keptIn_0 ?_
  simp (disch := first | omega | decide) only [w_nl0, w_nli, w_nlr, ↓w_ts1, ↓w_ts0, w_rcv, w_rfv, w_cs, true_and, and_true, List.length_nil, List.length_cons, Nat.reduceAdd, Nat.reduceLeDiff, Nat.zero_le, Nat.reduceLT, ↓w_nil, ix_nI, nI_leP, nI_ltP, nI_eqP, nI_1, ↓i_inN, i_inN, l_le, l_lt, l_eq, r_le, r_lt, r_eq, sh55, ↓w_iconst, ↓w_istore_3, ↓w_istore_4]
  refine pm_for (f := fun k a => if I 56 k = r ∧ I 58 k = l then a + I 57 k else a) (U := fun k a => UU g (d - 1) 89 kX7_keptIn (pm_rm d 89) Q 1 [some (.ref 55), some (.int r), some (.int l), some (.int a), some (.int (nI k))] [] SH I J (0, 0)) n (fun k b hk hb w => ?_) ?_
  · refine bX7_keptIn_1 ?_
    simp (disch := first | omega | decide) only [w_nl0, w_nli, w_nlr, ↓w_ts1, ↓w_ts0, w_rcv, w_rfv, w_cs, true_and, and_true, List.length_nil, List.length_cons, Nat.reduceAdd, Nat.reduceLeDiff, Nat.zero_le, Nat.reduceLT, ↓w_nil, ix_nI, nI_leP, nI_ltP, nI_eqP, nI_1, ↓i_inN, i_inN, l_le, l_lt, l_eq, r_le, r_lt, r_eq, sh55, ↓w_iload_4, ↓w_aload_0, ↓w_gf0, ↓w_icge, ↓w_gf3, ↓w_iaload, ↓w_iload_1, ↓w_icne, ↓w_iload_2, ↓w_iload_3, ↓w_iadd, ↓w_istore_3, hn]
    repeat' (first
      | (apply And.intro)
      | (with_reducible refine bX7_keptIn_2 ?_; simp (disch := first | omega | decide) only [w_nl0, w_nli, w_nlr, ↓w_ts1, ↓w_ts0, w_rcv, w_rfv, w_cs, true_and, and_true, List.length_nil, List.length_cons, Nat.reduceAdd, Nat.reduceLeDiff, Nat.zero_le, Nat.reduceLT, ↓w_nil, ix_nI, nI_leP, nI_ltP, nI_eqP, nI_1, ↓i_inN, i_inN, l_le, l_lt, l_eq, r_le, r_lt, r_eq, sh55, ↓w_iconst, ↓w_istore_3, ↓w_istore_4, ↓w_iload_4, ↓w_aload_0, ↓w_gf0, ↓w_icge, ↓w_gf3, ↓w_iaload, ↓w_iload_1, ↓w_icne, ↓w_iload_2, ↓w_iload_3, ↓w_iadd, ↓w_iinc_4, ↓w_goto, ↓w_ret])
      | (simp only [w_in])
      | (intro _))
    all_goals grind
  · refine bX7_keptIn_1 ?_
    simp (disch := first | omega | decide) only [w_nl0, w_nli, w_nlr, ↓w_ts1, ↓w_ts0, w_rcv, w_rfv, w_cs, true_and, and_true, List.length_nil, List.length_cons, Nat.reduceAdd, Nat.reduceLeDiff, Nat.zero_le, Nat.reduceLT, ↓w_nil, ix_nI, nI_leP, nI_ltP, nI_eqP, nI_1, ↓i_inN, i_inN, l_le, l_lt, l_eq, r_le, r_lt, r_eq, sh55, ↓w_iload_4, ↓w_aload_0, ↓w_gf0, ↓w_icge, ↓w_gf3, ↓w_iaload, ↓w_iload_1, ↓w_icne, ↓w_iload_2, ↓w_iload_3, ↓w_iadd, ↓w_istore_3, hn]
    repeat' (first
      | (apply And.intro)
      | (with_reducible refine bX7_keptIn_3 ?_; simp (disch := first | omega | decide) only [w_nl0, w_nli, w_nlr, ↓w_ts1, ↓w_ts0, w_rcv, w_rfv, w_cs, true_and, and_true, List.length_nil, List.length_cons, Nat.reduceAdd, Nat.reduceLeDiff, Nat.zero_le, Nat.reduceLT, ↓w_nil, ix_nI, nI_leP, nI_ltP, nI_eqP, nI_1, ↓i_inN, i_inN, l_le, l_lt, l_eq, r_le, r_lt, r_eq, sh55, ↓w_iconst, ↓w_istore_3, ↓w_istore_4, ↓w_iload_4, ↓w_aload_0, ↓w_gf0, ↓w_icge, ↓w_gf3, ↓w_iaload, ↓w_iload_1, ↓w_icne, ↓w_iload_2, ↓w_iload_3, ↓w_iadd, ↓w_iinc_4, ↓w_goto, ↓w_ret])
      | (simp only [w_in])
      | (intro _))
    all_goals grind
theorem c_Sa_mix {h : Int64} {n : Nat} (hd : 1 ≤ d) (hn : I 55 4 = nI n) (hn60 : n ≤ 60) (hQ : Q (some (.long (itr (fun k h => 31 * (31 * (31 * (31 * h + (I 56 k).toInt64) + (I 57 k).toInt64) + (I 58 k).toInt64) + (I 59 k).toInt64) h n))) SH I J) : pm_C g d 90 [.ref 55, .long h] Q SH I J := by
  refine eX7_mix (by omega) ?_
  refine bX7_mix_0 ?_
  simp (disch := first | omega | decide) only [w_nl0, w_nli, w_nlr, ↓w_ts1, ↓w_ts0, w_rcv, w_rfv, w_cs, true_and, and_true, List.length_nil, List.length_cons, Nat.reduceAdd, Nat.reduceLeDiff, Nat.zero_le, Nat.reduceLT, ↓w_nil, ix_nI, nI_leP, nI_ltP, nI_eqP, nI_1, ↓i_inN, i_inN, l_le, l_lt, l_eq, r_le, r_lt, r_eq, sh55, ↓w_iconst, ↓w_istore_3]
  refine pm_for (f := fun k h => 31 * (31 * (31 * (31 * h + (I 56 k).toInt64) + (I 57 k).toInt64) + (I 58 k).toInt64) + (I 59 k).toInt64) (U := fun k a => UU g (d - 1) 90 kX7_mix (pm_rm d 90) Q 1 [some (.ref 55), some (.long a), none, some (.int (nI k))] [] SH I J (0, 0)) n (fun k b hk hb w => ?_) ?_
  · refine bX7_mix_1 ?_
    simp (disch := first | omega | decide) only [w_nl0, w_nli, w_nlr, ↓w_ts1, ↓w_ts0, w_rcv, w_rfv, w_cs, true_and, and_true, List.length_nil, List.length_cons, Nat.reduceAdd, Nat.reduceLeDiff, Nat.zero_le, Nat.reduceLT, ↓w_nil, ix_nI, nI_leP, nI_ltP, nI_eqP, nI_1, ↓i_inN, i_inN, l_le, l_lt, l_eq, r_le, r_lt, r_eq, sh55, ↓w_iload_3, ↓w_aload_0, ↓w_gf0, ↓w_icge, ↓w_ldc2_14, ↓w_lload_1, ↓w_lmul, ↓w_gf3, ↓w_iaload, ↓w_i2l, ↓w_ladd, ↓w_lstore_1, ↓w_iinc_3, ↓w_goto, hn]
    repeat' (first
      | (apply And.intro)
      | (simp only [w_in])
      | (intro _))
    all_goals grind
  · refine bX7_mix_1 ?_
    simp (disch := first | omega | decide) only [w_nl0, w_nli, w_nlr, ↓w_ts1, ↓w_ts0, w_rcv, w_rfv, w_cs, true_and, and_true, List.length_nil, List.length_cons, Nat.reduceAdd, Nat.reduceLeDiff, Nat.zero_le, Nat.reduceLT, ↓w_nil, ix_nI, nI_leP, nI_ltP, nI_eqP, nI_1, ↓i_inN, i_inN, l_le, l_lt, l_eq, r_le, r_lt, r_eq, sh55, ↓w_iload_3, ↓w_aload_0, ↓w_gf0, ↓w_icge, ↓w_ldc2_14, ↓w_lload_1, ↓w_lmul, ↓w_gf3, ↓w_iaload, ↓w_i2l, ↓w_ladd, ↓w_lstore_1, ↓w_iinc_3, ↓w_goto, hn]
    repeat' (first
      | (apply And.intro)
      | (with_reducible refine bX7_mix_2 ?_; simp (disch := first | omega | decide) only [w_nl0, w_nli, w_nlr, ↓w_ts1, ↓w_ts0, w_rcv, w_rfv, w_cs, true_and, and_true, List.length_nil, List.length_cons, Nat.reduceAdd, Nat.reduceLeDiff, Nat.zero_le, Nat.reduceLT, ↓w_nil, ix_nI, nI_leP, nI_ltP, nI_eqP, nI_1, ↓i_inN, i_inN, l_le, l_lt, l_eq, r_le, r_lt, r_eq, sh55, ↓w_iconst, ↓w_istore_3, ↓w_iload_3, ↓w_aload_0, ↓w_gf0, ↓w_icge, ↓w_ldc2_14, ↓w_lload_1, ↓w_lmul, ↓w_gf3, ↓w_iaload, ↓w_i2l, ↓w_ladd, ↓w_lstore_1, ↓w_iinc_3, ↓w_goto, ↓w_lret])
      | (simp only [w_in])
      | (intro _))
    all_goals grind
end C24
