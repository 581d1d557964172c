section C20
variable {g : pm_G} {d : Nat} {Q : pm_Po} {S : pm_SS} {I : pm_MI} {J : pm_ML}
theorem c_below {a b : Int32} (hd : 1 ≤ d) (hQ : Q (some (.int (if 0 ≤ a ∧ a < b then 1 else 0))) S I J) : pm_C g d 184 [.int a, .int b] Q S I J := by
  refine eX11_below (by omega) ?_
  repeat' (first
    | (apply And.intro)
    | (with_reducible refine bX11_below_0 ?_; simp (disch := omega) only [w_nl0, w_nli, w_nlr, ↓w_ts1, ↓w_ts0, w_rcv, w_rfv, w_cs, true_and, and_true, List.length_nil, List.length_cons, Nat.reduceAdd, Nat.reduceLeDiff, Nat.zero_le, Nat.reduceLT, ↓w_nil, ix_nI, nI_leP, nI_ltP, nI_eqP, nI_1, ↓i_inN, i_inN, l_le, l_lt, l_eq, r_le, r_lt, r_eq, sh0, sh1, sh55, sh60, sh9, sh31, sh23, sh37, sh42, sh43, sh19, sh3, sh6, ↓w_iload_0, ↓w_iflt, ↓w_iload_1, ↓w_icge, ↓w_iconst, ↓w_goto, ↓w_zret])
    | (with_reducible refine bX11_below_1 ?_; simp (disch := omega) only [w_nl0, w_nli, w_nlr, ↓w_ts1, ↓w_ts0, w_rcv, w_rfv, w_cs, true_and, and_true, List.length_nil, List.length_cons, Nat.reduceAdd, Nat.reduceLeDiff, Nat.zero_le, Nat.reduceLT, ↓w_nil, ix_nI, nI_leP, nI_ltP, nI_eqP, nI_1, ↓i_inN, i_inN, l_le, l_lt, l_eq, r_le, r_lt, r_eq, sh0, sh1, sh55, sh60, sh9, sh31, sh23, sh37, sh42, sh43, sh19, sh3, sh6, ↓w_iload_0, ↓w_iflt, ↓w_iload_1, ↓w_icge, ↓w_iconst, ↓w_goto, ↓w_zret])
    | (with_reducible refine bX11_below_2 ?_; simp (disch := omega) only [w_nl0, w_nli, w_nlr, ↓w_ts1, ↓w_ts0, w_rcv, w_rfv, w_cs, true_and, and_true, List.length_nil, List.length_cons, Nat.reduceAdd, Nat.reduceLeDiff, Nat.zero_le, Nat.reduceLT, ↓w_nil, ix_nI, nI_leP, nI_ltP, nI_eqP, nI_1, ↓i_inN, i_inN, l_le, l_lt, l_eq, r_le, r_lt, r_eq, sh0, sh1, sh55, sh60, sh9, sh31, sh23, sh37, sh42, sh43, sh19, sh3, sh6, ↓w_iload_0, ↓w_iflt, ↓w_iload_1, ↓w_icge, ↓w_iconst, ↓w_goto, ↓w_zret])
    | (simp only [w_in])
    | (intro _))
  all_goals grind
theorem c_isDay {a : Int32} (hd : 1 ≤ d) (hQ : Q (some (.int (if 0 ≤ a ∧ a ≤ 999 then 1 else 0))) S I J) : pm_C g d 185 [.int a] Q S I J := by
  refine eX11_isDay (by omega) ?_
  repeat' (first
    | (apply And.intro)
    | (with_reducible refine bX11_isDay_0 ?_; simp (disch := omega) only [w_nl0, w_nli, w_nlr, ↓w_ts1, ↓w_ts0, w_rcv, w_rfv, w_cs, true_and, and_true, List.length_nil, List.length_cons, Nat.reduceAdd, Nat.reduceLeDiff, Nat.zero_le, Nat.reduceLT, ↓w_nil, ix_nI, nI_leP, nI_ltP, nI_eqP, nI_1, ↓i_inN, i_inN, l_le, l_lt, l_eq, r_le, r_lt, r_eq, sh0, sh1, sh55, sh60, sh9, sh31, sh23, sh37, sh42, sh43, sh19, sh3, sh6, ↓w_iload_0, ↓w_iflt, ↓w_sipush, ↓w_icgt, ↓w_iconst, ↓w_goto, ↓w_zret])
    | (with_reducible refine bX11_isDay_1 ?_; simp (disch := omega) only [w_nl0, w_nli, w_nlr, ↓w_ts1, ↓w_ts0, w_rcv, w_rfv, w_cs, true_and, and_true, List.length_nil, List.length_cons, Nat.reduceAdd, Nat.reduceLeDiff, Nat.zero_le, Nat.reduceLT, ↓w_nil, ix_nI, nI_leP, nI_ltP, nI_eqP, nI_1, ↓i_inN, i_inN, l_le, l_lt, l_eq, r_le, r_lt, r_eq, sh0, sh1, sh55, sh60, sh9, sh31, sh23, sh37, sh42, sh43, sh19, sh3, sh6, ↓w_iload_0, ↓w_iflt, ↓w_sipush, ↓w_icgt, ↓w_iconst, ↓w_goto, ↓w_zret])
    | (with_reducible refine bX11_isDay_2 ?_; simp (disch := omega) only [w_nl0, w_nli, w_nlr, ↓w_ts1, ↓w_ts0, w_rcv, w_rfv, w_cs, true_and, and_true, List.length_nil, List.length_cons, Nat.reduceAdd, Nat.reduceLeDiff, Nat.zero_le, Nat.reduceLT, ↓w_nil, ix_nI, nI_leP, nI_ltP, nI_eqP, nI_1, ↓i_inN, i_inN, l_le, l_lt, l_eq, r_le, r_lt, r_eq, sh0, sh1, sh55, sh60, sh9, sh31, sh23, sh37, sh42, sh43, sh19, sh3, sh6, ↓w_iload_0, ↓w_iflt, ↓w_sipush, ↓w_icgt, ↓w_iconst, ↓w_goto, ↓w_zret])
    | (simp only [w_in])
    | (intro _))
  all_goals grind
theorem c_isTurn {a : Int32} (hd : 1 ≤ d) (hQ : Q (some (.int (if 0 ≤ a ∧ a ≤ 999 then 1 else 0))) S I J) : pm_C g d 186 [.int a] Q S I J := by
  refine eX11_isTurn (by omega) ?_
  repeat' (first
    | (apply And.intro)
    | (with_reducible refine bX11_isTurn_0 ?_; simp (disch := omega) only [w_nl0, w_nli, w_nlr, ↓w_ts1, ↓w_ts0, w_rcv, w_rfv, w_cs, true_and, and_true, List.length_nil, List.length_cons, Nat.reduceAdd, Nat.reduceLeDiff, Nat.zero_le, Nat.reduceLT, ↓w_nil, ix_nI, nI_leP, nI_ltP, nI_eqP, nI_1, ↓i_inN, i_inN, l_le, l_lt, l_eq, r_le, r_lt, r_eq, sh0, sh1, sh55, sh60, sh9, sh31, sh23, sh37, sh42, sh43, sh19, sh3, sh6, ↓w_iload_0, ↓w_iflt, ↓w_sipush, ↓w_icgt, ↓w_iconst, ↓w_goto, ↓w_zret])
    | (with_reducible refine bX11_isTurn_1 ?_; simp (disch := omega) only [w_nl0, w_nli, w_nlr, ↓w_ts1, ↓w_ts0, w_rcv, w_rfv, w_cs, true_and, and_true, List.length_nil, List.length_cons, Nat.reduceAdd, Nat.reduceLeDiff, Nat.zero_le, Nat.reduceLT, ↓w_nil, ix_nI, nI_leP, nI_ltP, nI_eqP, nI_1, ↓i_inN, i_inN, l_le, l_lt, l_eq, r_le, r_lt, r_eq, sh0, sh1, sh55, sh60, sh9, sh31, sh23, sh37, sh42, sh43, sh19, sh3, sh6, ↓w_iload_0, ↓w_iflt, ↓w_sipush, ↓w_icgt, ↓w_iconst, ↓w_goto, ↓w_zret])
    | (with_reducible refine bX11_isTurn_2 ?_; simp (disch := omega) only [w_nl0, w_nli, w_nlr, ↓w_ts1, ↓w_ts0, w_rcv, w_rfv, w_cs, true_and, and_true, List.length_nil, List.length_cons, Nat.reduceAdd, Nat.reduceLeDiff, Nat.zero_le, Nat.reduceLT, ↓w_nil, ix_nI, nI_leP, nI_ltP, nI_eqP, nI_1, ↓i_inN, i_inN, l_le, l_lt, l_eq, r_le, r_lt, r_eq, sh0, sh1, sh55, sh60, sh9, sh31, sh23, sh37, sh42, sh43, sh19, sh3, sh6, ↓w_iload_0, ↓w_iflt, ↓w_sipush, ↓w_icgt, ↓w_iconst, ↓w_goto, ↓w_zret])
    | (simp only [w_in])
    | (intro _))
  all_goals grind
theorem c_areMisses {a : Int32} (hd : 1 ≤ d) (hQ : Q (some (.int (if 0 ≤ a ∧ a ≤ 60 then 1 else 0))) S I J) : pm_C g d 154 [.int a] Q S I J := by
  refine eX11_areMisses (by omega) ?_
  repeat' (first
    | (apply And.intro)
    | (with_reducible refine bX11_areMisses_0 ?_; simp (disch := omega) only [w_nl0, w_nli, w_nlr, ↓w_ts1, ↓w_ts0, w_rcv, w_rfv, w_cs, true_and, and_true, List.length_nil, List.length_cons, Nat.reduceAdd, Nat.reduceLeDiff, Nat.zero_le, Nat.reduceLT, ↓w_nil, ix_nI, nI_leP, nI_ltP, nI_eqP, nI_1, ↓i_inN, i_inN, l_le, l_lt, l_eq, r_le, r_lt, r_eq, sh0, sh1, sh55, sh60, sh9, sh31, sh23, sh37, sh42, sh43, sh19, sh3, sh6, ↓w_iload_0, ↓w_iflt, ↓w_bipush, ↓w_icgt, ↓w_iconst, ↓w_goto, ↓w_zret])
    | (with_reducible refine bX11_areMisses_1 ?_; simp (disch := omega) only [w_nl0, w_nli, w_nlr, ↓w_ts1, ↓w_ts0, w_rcv, w_rfv, w_cs, true_and, and_true, List.length_nil, List.length_cons, Nat.reduceAdd, Nat.reduceLeDiff, Nat.zero_le, Nat.reduceLT, ↓w_nil, ix_nI, nI_leP, nI_ltP, nI_eqP, nI_1, ↓i_inN, i_inN, l_le, l_lt, l_eq, r_le, r_lt, r_eq, sh0, sh1, sh55, sh60, sh9, sh31, sh23, sh37, sh42, sh43, sh19, sh3, sh6, ↓w_iload_0, ↓w_iflt, ↓w_bipush, ↓w_icgt, ↓w_iconst, ↓w_goto, ↓w_zret])
    | (with_reducible refine bX11_areMisses_2 ?_; simp (disch := omega) only [w_nl0, w_nli, w_nlr, ↓w_ts1, ↓w_ts0, w_rcv, w_rfv, w_cs, true_and, and_true, List.length_nil, List.length_cons, Nat.reduceAdd, Nat.reduceLeDiff, Nat.zero_le, Nat.reduceLT, ↓w_nil, ix_nI, nI_leP, nI_ltP, nI_eqP, nI_1, ↓i_inN, i_inN, l_le, l_lt, l_eq, r_le, r_lt, r_eq, sh0, sh1, sh55, sh60, sh9, sh31, sh23, sh37, sh42, sh43, sh19, sh3, sh6, ↓w_iload_0, ↓w_iflt, ↓w_bipush, ↓w_icgt, ↓w_iconst, ↓w_goto, ↓w_zret])
    | (simp only [w_in])
    | (intro _))
  all_goals grind
theorem c_isOff {a : Int32} (hd : 1 ≤ d) (hQ : Q (some (.int (if -8 ≤ a ∧ a ≤ 8 then 1 else 0))) S I J) : pm_C g d 144 [.int a] Q S I J := by
  refine eX11_isOff (by omega) ?_
  repeat' (first
    | (apply And.intro)
    | (with_reducible refine bX11_isOff_0 ?_; simp (disch := omega) only [w_nl0, w_nli, w_nlr, ↓w_ts1, ↓w_ts0, w_rcv, w_rfv, w_cs, true_and, and_true, List.length_nil, List.length_cons, Nat.reduceAdd, Nat.reduceLeDiff, Nat.zero_le, Nat.reduceLT, ↓w_nil, ix_nI, nI_leP, nI_ltP, nI_eqP, nI_1, ↓i_inN, i_inN, l_le, l_lt, l_eq, r_le, r_lt, r_eq, sh0, sh1, sh55, sh60, sh9, sh31, sh23, sh37, sh42, sh43, sh19, sh3, sh6, ↓w_iload_0, ↓w_bipush, ↓w_iclt, ↓w_icgt, ↓w_iconst, ↓w_goto, ↓w_zret])
    | (with_reducible refine bX11_isOff_1 ?_; simp (disch := omega) only [w_nl0, w_nli, w_nlr, ↓w_ts1, ↓w_ts0, w_rcv, w_rfv, w_cs, true_and, and_true, List.length_nil, List.length_cons, Nat.reduceAdd, Nat.reduceLeDiff, Nat.zero_le, Nat.reduceLT, ↓w_nil, ix_nI, nI_leP, nI_ltP, nI_eqP, nI_1, ↓i_inN, i_inN, l_le, l_lt, l_eq, r_le, r_lt, r_eq, sh0, sh1, sh55, sh60, sh9, sh31, sh23, sh37, sh42, sh43, sh19, sh3, sh6, ↓w_iload_0, ↓w_bipush, ↓w_iclt, ↓w_icgt, ↓w_iconst, ↓w_goto, ↓w_zret])
    | (with_reducible refine bX11_isOff_2 ?_; simp (disch := omega) only [w_nl0, w_nli, w_nlr, ↓w_ts1, ↓w_ts0, w_rcv, w_rfv, w_cs, true_and, and_true, List.length_nil, List.length_cons, Nat.reduceAdd, Nat.reduceLeDiff, Nat.zero_le, Nat.reduceLT, ↓w_nil, ix_nI, nI_leP, nI_ltP, nI_eqP, nI_1, ↓i_inN, i_inN, l_le, l_lt, l_eq, r_le, r_lt, r_eq, sh0, sh1, sh55, sh60, sh9, sh31, sh23, sh37, sh42, sh43, sh19, sh3, sh6, ↓w_iload_0, ↓w_bipush, ↓w_iclt, ↓w_icgt, ↓w_iconst, ↓w_goto, ↓w_zret])
    | (simp only [w_in])
    | (intro _))
  all_goals grind
theorem c_found {x : Int32} (hd : 1 ≤ d) (h0 : 0 ≤ x) (h6 : x < 6) (hQ : Q (some (.int (-3))) SH (pm_up (pm_up I 1 1 x) 2 x.toNatClampNeg (I 2 x.toNatClampNeg + 1)) J) : pm_C g d 118 [.ref 1, .int x] Q SH I J := by
  refine eX10_found (by omega) ?_
  repeat' (first
    | (apply And.intro)
    | (with_reducible refine bX10_found_0 ?_; simp (disch := omega) only [w_nl0, w_nli, w_nlr, ↓w_ts1, ↓w_ts0, w_rcv, w_rfv, w_cs, true_and, and_true, List.length_nil, List.length_cons, Nat.reduceAdd, Nat.reduceLeDiff, Nat.zero_le, Nat.reduceLT, ↓w_nil, ix_nI, nI_leP, nI_ltP, nI_eqP, nI_1, ↓i_inN, i_inN, l_le, l_lt, l_eq, r_le, r_lt, r_eq, sh1, ↓w_aload_0, ↓w_iload_1, ↓w_pf0, ↓w_iflt, ↓w_gf3, ↓w_alen, ↓w_slen, ↓w_icge, ↓w_dup2, ↓w_iaload, ↓w_iconst, ↓w_iadd, ↓w_iastore, ↓w_bipush, ↓w_ret, pm_up_o, w_len])
    | (with_reducible refine bX10_found_1 ?_; simp (disch := omega) only [w_nl0, w_nli, w_nlr, ↓w_ts1, ↓w_ts0, w_rcv, w_rfv, w_cs, true_and, and_true, List.length_nil, List.length_cons, Nat.reduceAdd, Nat.reduceLeDiff, Nat.zero_le, Nat.reduceLT, ↓w_nil, ix_nI, nI_leP, nI_ltP, nI_eqP, nI_1, ↓i_inN, i_inN, l_le, l_lt, l_eq, r_le, r_lt, r_eq, sh1, ↓w_aload_0, ↓w_iload_1, ↓w_pf0, ↓w_iflt, ↓w_gf3, ↓w_alen, ↓w_slen, ↓w_icge, ↓w_dup2, ↓w_iaload, ↓w_iconst, ↓w_iadd, ↓w_iastore, ↓w_bipush, ↓w_ret, pm_up_o, w_len])
    | (simp only [w_in])
    | (intro _))
  all_goals grind
theorem c_asks {x : Int32} (hd : 1 ≤ d) (hQ : Q (some (.int 1)) SH (pm_up I 1 2 x) J) : pm_C g d 119 [.ref 1, .int x] Q SH I J := by
  refine eX10_asks (by omega) ?_
  repeat' (first
    | (apply And.intro)
    | (with_reducible refine bX10_asks_0 ?_; simp (disch := omega) only [w_nl0, w_nli, w_nlr, ↓w_ts1, ↓w_ts0, w_rcv, w_rfv, w_cs, true_and, and_true, List.length_nil, List.length_cons, Nat.reduceAdd, Nat.reduceLeDiff, Nat.zero_le, Nat.reduceLT, ↓w_nil, ix_nI, nI_leP, nI_ltP, nI_eqP, nI_1, ↓i_inN, i_inN, l_le, l_lt, l_eq, r_le, r_lt, r_eq, sh1, ↓w_aload_0, ↓w_iload_1, ↓w_pf0, ↓w_iconst, ↓w_ret])
    | (simp only [w_in])
    | (intro _))
  all_goals grind
-- Shelf: rows (3) and texts (6)
theorem c_hasR {x : Int32} (hd : 1 ≤ d) (hQ : Q (some (.int (if 0 ≤ x ∧ x < 6 then 1 else 0))) SH I J) : pm_C g d 105 [.ref 3, .int x] Q SH I J := by
  refine eX9_has (by omega) ?_
  repeat' (first
    | (apply And.intro)
    | (with_reducible refine bX9_has_0 ?_; simp (disch := omega) only [w_nl0, w_nli, w_nlr, ↓w_ts1, ↓w_ts0, w_rcv, w_rfv, w_cs, true_and, and_true, List.length_nil, List.length_cons, Nat.reduceAdd, Nat.reduceLeDiff, Nat.zero_le, Nat.reduceLT, ↓w_nil, ix_nI, nI_leP, nI_ltP, nI_eqP, nI_1, ↓i_inN, i_inN, l_le, l_lt, l_eq, r_le, r_lt, r_eq, sh3, sh6, ↓w_iload_1, ↓w_iflt, ↓w_aload_0, ↓w_gf3, ↓w_alen, ↓w_slen, ↓w_icge, ↓w_iconst, ↓w_goto, ↓w_zret, w_len])
    | (with_reducible refine bX9_has_1 ?_; simp (disch := omega) only [w_nl0, w_nli, w_nlr, ↓w_ts1, ↓w_ts0, w_rcv, w_rfv, w_cs, true_and, and_true, List.length_nil, List.length_cons, Nat.reduceAdd, Nat.reduceLeDiff, Nat.zero_le, Nat.reduceLT, ↓w_nil, ix_nI, nI_leP, nI_ltP, nI_eqP, nI_1, ↓i_inN, i_inN, l_le, l_lt, l_eq, r_le, r_lt, r_eq, sh3, sh6, ↓w_iload_1, ↓w_iflt, ↓w_aload_0, ↓w_gf3, ↓w_alen, ↓w_slen, ↓w_icge, ↓w_iconst, ↓w_goto, ↓w_zret, w_len])
    | (with_reducible refine bX9_has_2 ?_; simp (disch := omega) only [w_nl0, w_nli, w_nlr, ↓w_ts1, ↓w_ts0, w_rcv, w_rfv, w_cs, true_and, and_true, List.length_nil, List.length_cons, Nat.reduceAdd, Nat.reduceLeDiff, Nat.zero_le, Nat.reduceLT, ↓w_nil, ix_nI, nI_leP, nI_ltP, nI_eqP, nI_1, ↓i_inN, i_inN, l_le, l_lt, l_eq, r_le, r_lt, r_eq, sh3, sh6, ↓w_iload_1, ↓w_iflt, ↓w_aload_0, ↓w_gf3, ↓w_alen, ↓w_slen, ↓w_icge, ↓w_iconst, ↓w_goto, ↓w_zret, w_len])
    | (simp only [w_in])
    | (intro _))
  all_goals grind
theorem c_sizeR {x : Int32} (hd : 2 ≤ d) (hQ : Q (some (.int (if 0 ≤ x ∧ x < 6 then I 4 x.toNatClampNeg else -1))) SH I J) : pm_C g d 106 [.ref 3, .int x] Q SH I J := by
  refine eX9_size (by omega) ?_
  repeat' (first
    | (apply And.intro)
    | (with_reducible refine bX9_size_0 ?_; simp (disch := omega) only [w_nl0, w_nli, w_nlr, ↓w_ts1, ↓w_ts0, w_rcv, w_rfv, w_cs, true_and, and_true, List.length_nil, List.length_cons, Nat.reduceAdd, Nat.reduceLeDiff, Nat.zero_le, Nat.reduceLT, ↓w_nil, ix_nI, nI_leP, nI_ltP, nI_eqP, nI_1, ↓i_inN, i_inN, l_le, l_lt, l_eq, r_le, r_lt, r_eq, sh3, sh6, ↓w_aload_0, ↓w_iload_1, ↓w_iv, ↓pm_cl2_2, ↓w_ifeq, ↓w_gf3, ↓w_iaload, ↓w_goto, ↓w_iconst, ↓w_ret])
    | (with_reducible refine bX9_size_1 ?_; simp (disch := omega) only [w_nl0, w_nli, w_nlr, ↓w_ts1, ↓w_ts0, w_rcv, w_rfv, w_cs, true_and, and_true, List.length_nil, List.length_cons, Nat.reduceAdd, Nat.reduceLeDiff, Nat.zero_le, Nat.reduceLT, ↓w_nil, ix_nI, nI_leP, nI_ltP, nI_eqP, nI_1, ↓i_inN, i_inN, l_le, l_lt, l_eq, r_le, r_lt, r_eq, sh3, sh6, ↓w_aload_0, ↓w_iload_1, ↓w_iv, ↓pm_cl2_2, ↓w_ifeq, ↓w_gf3, ↓w_iaload, ↓w_goto, ↓w_iconst, ↓w_ret])
    | (with_reducible refine bX9_size_2 ?_; simp (disch := omega) only [w_nl0, w_nli, w_nlr, ↓w_ts1, ↓w_ts0, w_rcv, w_rfv, w_cs, true_and, and_true, List.length_nil, List.length_cons, Nat.reduceAdd, Nat.reduceLeDiff, Nat.zero_le, Nat.reduceLT, ↓w_nil, ix_nI, nI_leP, nI_ltP, nI_eqP, nI_1, ↓i_inN, i_inN, l_le, l_lt, l_eq, r_le, r_lt, r_eq, sh3, sh6, ↓w_aload_0, ↓w_iload_1, ↓w_iv, ↓pm_cl2_2, ↓w_ifeq, ↓w_gf3, ↓w_iaload, ↓w_goto, ↓w_iconst, ↓w_ret])
    | (with_reducible refine c_hasR (by omega) ?_; simp (disch := omega) only [w_nl0, w_nli, w_nlr, ↓w_ts1, ↓w_ts0, w_rcv, w_rfv, w_cs, true_and, and_true, List.length_nil, List.length_cons, Nat.reduceAdd, Nat.reduceLeDiff, Nat.zero_le, Nat.reduceLT, ↓w_nil, ix_nI, nI_leP, nI_ltP, nI_eqP, nI_1, ↓i_inN, i_inN, l_le, l_lt, l_eq, r_le, r_lt, r_eq, sh3, sh6, ↓w_aload_0, ↓w_iload_1, ↓w_iv, ↓pm_cl2_2, ↓w_ifeq, ↓w_gf3, ↓w_iaload, ↓w_goto, ↓w_iconst, ↓w_ret])
    | (simp only [w_in])
    | (intro _))
  all_goals grind
theorem c_missingR {x : Int32} (hd : 3 ≤ d) (hQ : Q (some (.int (if (if 0 ≤ x ∧ x < 6 then I 4 x.toNatClampNeg else -1) < 0 then 1 else 0))) SH I J) : pm_C g d 107 [.ref 3, .int x] Q SH I J := by
  refine eX9_missing (by omega) ?_
  repeat' (first
    | (apply And.intro)
    | (with_reducible refine bX9_missing_0 ?_; simp (disch := omega) only [w_nl0, w_nli, w_nlr, ↓w_ts1, ↓w_ts0, w_rcv, w_rfv, w_cs, true_and, and_true, List.length_nil, List.length_cons, Nat.reduceAdd, Nat.reduceLeDiff, Nat.zero_le, Nat.reduceLT, ↓w_nil, ix_nI, nI_leP, nI_ltP, nI_eqP, nI_1, ↓i_inN, i_inN, l_le, l_lt, l_eq, r_le, r_lt, r_eq, sh3, sh6, ↓w_aload_0, ↓w_iload_1, ↓w_iv, ↓pm_cl2_2, ↓w_ifge, ↓w_iconst, ↓w_goto, ↓w_zret])
    | (with_reducible refine bX9_missing_1 ?_; simp (disch := omega) only [w_nl0, w_nli, w_nlr, ↓w_ts1, ↓w_ts0, w_rcv, w_rfv, w_cs, true_and, and_true, List.length_nil, List.length_cons, Nat.reduceAdd, Nat.reduceLeDiff, Nat.zero_le, Nat.reduceLT, ↓w_nil, ix_nI, nI_leP, nI_ltP, nI_eqP, nI_1, ↓i_inN, i_inN, l_le, l_lt, l_eq, r_le, r_lt, r_eq, sh3, sh6, ↓w_aload_0, ↓w_iload_1, ↓w_iv, ↓pm_cl2_2, ↓w_ifge, ↓w_iconst, ↓w_goto, ↓w_zret])
    | (with_reducible refine bX9_missing_2 ?_; simp (disch := omega) only [w_nl0, w_nli, w_nlr, ↓w_ts1, ↓w_ts0, w_rcv, w_rfv, w_cs, true_and, and_true, List.length_nil, List.length_cons, Nat.reduceAdd, Nat.reduceLeDiff, Nat.zero_le, Nat.reduceLT, ↓w_nil, ix_nI, nI_leP, nI_ltP, nI_eqP, nI_1, ↓i_inN, i_inN, l_le, l_lt, l_eq, r_le, r_lt, r_eq, sh3, sh6, ↓w_aload_0, ↓w_iload_1, ↓w_iv, ↓pm_cl2_2, ↓w_ifge, ↓w_iconst, ↓w_goto, ↓w_zret])
    | (with_reducible refine c_sizeR (by omega) ?_; simp (disch := omega) only [w_nl0, w_nli, w_nlr, ↓w_ts1, ↓w_ts0, w_rcv, w_rfv, w_cs, true_and, and_true, List.length_nil, List.length_cons, Nat.reduceAdd, Nat.reduceLeDiff, Nat.zero_le, Nat.reduceLT, ↓w_nil, ix_nI, nI_leP, nI_ltP, nI_eqP, nI_1, ↓i_inN, i_inN, l_le, l_lt, l_eq, r_le, r_lt, r_eq, sh3, sh6, ↓w_aload_0, ↓w_iload_1, ↓w_iv, ↓pm_cl2_2, ↓w_ifge, ↓w_iconst, ↓w_goto, ↓w_zret])
    | (simp only [w_in])
    | (intro _))
  all_goals grind
theorem c_insideR {x i : Int32} (hd : 3 ≤ d) (hQ : Q (some (.int (if 0 ≤ i ∧ i < (if 0 ≤ x ∧ x < 6 then I 4 x.toNatClampNeg else -1) then 1 else 0))) SH I J) : pm_C g d 108 [.ref 3, .int x, .int i] Q SH I J := by
  refine eX9_inside (by omega) ?_
  repeat' (first
    | (apply And.intro)
    | (with_reducible refine bX9_inside_0 ?_; simp (disch := omega) only [w_nl0, w_nli, w_nlr, ↓w_ts1, ↓w_ts0, w_rcv, w_rfv, w_cs, true_and, and_true, List.length_nil, List.length_cons, Nat.reduceAdd, Nat.reduceLeDiff, Nat.zero_le, Nat.reduceLT, ↓w_nil, ix_nI, nI_leP, nI_ltP, nI_eqP, nI_1, ↓i_inN, i_inN, l_le, l_lt, l_eq, r_le, r_lt, r_eq, sh3, sh6, ↓w_iload_2, ↓w_iflt, ↓w_aload_0, ↓w_iload_1, ↓w_iv, ↓pm_cl2_2, ↓w_icge, ↓w_iconst, ↓w_goto, ↓w_zret])
    | (with_reducible refine bX9_inside_1 ?_; simp (disch := omega) only [w_nl0, w_nli, w_nlr, ↓w_ts1, ↓w_ts0, w_rcv, w_rfv, w_cs, true_and, and_true, List.length_nil, List.length_cons, Nat.reduceAdd, Nat.reduceLeDiff, Nat.zero_le, Nat.reduceLT, ↓w_nil, ix_nI, nI_leP, nI_ltP, nI_eqP, nI_1, ↓i_inN, i_inN, l_le, l_lt, l_eq, r_le, r_lt, r_eq, sh3, sh6, ↓w_iload_2, ↓w_iflt, ↓w_aload_0, ↓w_iload_1, ↓w_iv, ↓pm_cl2_2, ↓w_icge, ↓w_iconst, ↓w_goto, ↓w_zret])
    | (with_reducible refine bX9_inside_2 ?_; simp (disch := omega) only [w_nl0, w_nli, w_nlr, ↓w_ts1, ↓w_ts0, w_rcv, w_rfv, w_cs, true_and, and_true, List.length_nil, List.length_cons, Nat.reduceAdd, Nat.reduceLeDiff, Nat.zero_le, Nat.reduceLT, ↓w_nil, ix_nI, nI_leP, nI_ltP, nI_eqP, nI_1, ↓i_inN, i_inN, l_le, l_lt, l_eq, r_le, r_lt, r_eq, sh3, sh6, ↓w_iload_2, ↓w_iflt, ↓w_aload_0, ↓w_iload_1, ↓w_iv, ↓pm_cl2_2, ↓w_icge, ↓w_iconst, ↓w_goto, ↓w_zret])
    | (with_reducible refine c_sizeR (by omega) ?_; simp (disch := omega) only [w_nl0, w_nli, w_nlr, ↓w_ts1, ↓w_ts0, w_rcv, w_rfv, w_cs, true_and, and_true, List.length_nil, List.length_cons, Nat.reduceAdd, Nat.reduceLeDiff, Nat.zero_le, Nat.reduceLT, ↓w_nil, ix_nI, nI_leP, nI_ltP, nI_eqP, nI_1, ↓i_inN, i_inN, l_le, l_lt, l_eq, r_le, r_lt, r_eq, sh3, sh6, ↓w_iload_2, ↓w_iflt, ↓w_aload_0, ↓w_iload_1, ↓w_iv, ↓pm_cl2_2, ↓w_icge, ↓w_iconst, ↓w_goto, ↓w_zret])
    | (simp only [w_in])
    | (intro _))
  all_goals grind
theorem c_spansR {x i n : Int32} (hd : 3 ≤ d) (hQ : Q (some (.int (if 0 ≤ i ∧ i ≤ (if 0 ≤ x ∧ x < 6 then I 4 x.toNatClampNeg else -1) ∧ 0 ≤ n ∧ n ≤ (if 0 ≤ x ∧ x < 6 then I 4 x.toNatClampNeg else -1) - i then 1 else 0))) SH I J) : pm_C g d 109 [.ref 3, .int x, .int i, .int n] Q SH I J := by
  refine eX9_spans (by omega) ?_
  repeat' (first
    | (apply And.intro)
    | (with_reducible refine bX9_spans_0 ?_; simp (disch := omega) only [w_nl0, w_nli, w_nlr, ↓w_ts1, ↓w_ts0, w_rcv, w_rfv, w_cs, true_and, and_true, List.length_nil, List.length_cons, Nat.reduceAdd, Nat.reduceLeDiff, Nat.zero_le, Nat.reduceLT, ↓w_nil, ix_nI, nI_leP, nI_ltP, nI_eqP, nI_1, ↓i_inN, i_inN, l_le, l_lt, l_eq, r_le, r_lt, r_eq, sh3, sh6, ↓w_iload_2, ↓w_iflt, ↓w_aload_0, ↓w_iload_1, ↓w_iv, ↓pm_cl2_2, ↓w_icgt, ↓w_iload_3, ↓w_isub, ↓w_iconst, ↓w_goto, ↓w_zret])
    | (with_reducible refine bX9_spans_1 ?_; simp (disch := omega) only [w_nl0, w_nli, w_nlr, ↓w_ts1, ↓w_ts0, w_rcv, w_rfv, w_cs, true_and, and_true, List.length_nil, List.length_cons, Nat.reduceAdd, Nat.reduceLeDiff, Nat.zero_le, Nat.reduceLT, ↓w_nil, ix_nI, nI_leP, nI_ltP, nI_eqP, nI_1, ↓i_inN, i_inN, l_le, l_lt, l_eq, r_le, r_lt, r_eq, sh3, sh6, ↓w_iload_2, ↓w_iflt, ↓w_aload_0, ↓w_iload_1, ↓w_iv, ↓pm_cl2_2, ↓w_icgt, ↓w_iload_3, ↓w_isub, ↓w_iconst, ↓w_goto, ↓w_zret])
    | (with_reducible refine bX9_spans_2 ?_; simp (disch := omega) only [w_nl0, w_nli, w_nlr, ↓w_ts1, ↓w_ts0, w_rcv, w_rfv, w_cs, true_and, and_true, List.length_nil, List.length_cons, Nat.reduceAdd, Nat.reduceLeDiff, Nat.zero_le, Nat.reduceLT, ↓w_nil, ix_nI, nI_leP, nI_ltP, nI_eqP, nI_1, ↓i_inN, i_inN, l_le, l_lt, l_eq, r_le, r_lt, r_eq, sh3, sh6, ↓w_iload_2, ↓w_iflt, ↓w_aload_0, ↓w_iload_1, ↓w_iv, ↓pm_cl2_2, ↓w_icgt, ↓w_iload_3, ↓w_isub, ↓w_iconst, ↓w_goto, ↓w_zret])
    | (with_reducible refine c_sizeR (by omega) ?_; simp (disch := omega) only [w_nl0, w_nli, w_nlr, ↓w_ts1, ↓w_ts0, w_rcv, w_rfv, w_cs, true_and, and_true, List.length_nil, List.length_cons, Nat.reduceAdd, Nat.reduceLeDiff, Nat.zero_le, Nat.reduceLT, ↓w_nil, ix_nI, nI_leP, nI_ltP, nI_eqP, nI_1, ↓i_inN, i_inN, l_le, l_lt, l_eq, r_le, r_lt, r_eq, sh3, sh6, ↓w_iload_2, ↓w_iflt, ↓w_aload_0, ↓w_iload_1, ↓w_iv, ↓pm_cl2_2, ↓w_icgt, ↓w_iload_3, ↓w_isub, ↓w_iconst, ↓w_goto, ↓w_zret])
    | (simp only [w_in])
    | (intro _))
  all_goals grind
theorem c_hasT {x : Int32} (hd : 1 ≤ d) (hQ : Q (some (.int (if 0 ≤ x ∧ x < 4 then 1 else 0))) SH I J) : pm_C g d 105 [.ref 6, .int x] Q SH I J := by
  refine eX9_has (by omega) ?_
  repeat' (first
    | (apply And.intro)
    | (with_reducible refine bX9_has_0 ?_; simp (disch := omega) only [w_nl0, w_nli, w_nlr, ↓w_ts1, ↓w_ts0, w_rcv, w_rfv, w_cs, true_and, and_true, List.length_nil, List.length_cons, Nat.reduceAdd, Nat.reduceLeDiff, Nat.zero_le, Nat.reduceLT, ↓w_nil, ix_nI, nI_leP, nI_ltP, nI_eqP, nI_1, ↓i_inN, i_inN, l_le, l_lt, l_eq, r_le, r_lt, r_eq, sh3, sh6, ↓w_iload_1, ↓w_iflt, ↓w_aload_0, ↓w_gf3, ↓w_alen, ↓w_slen, ↓w_icge, ↓w_iconst, ↓w_goto, ↓w_zret, w_len])
    | (with_reducible refine bX9_has_1 ?_; simp (disch := omega) only [w_nl0, w_nli, w_nlr, ↓w_ts1, ↓w_ts0, w_rcv, w_rfv, w_cs, true_and, and_true, List.length_nil, List.length_cons, Nat.reduceAdd, Nat.reduceLeDiff, Nat.zero_le, Nat.reduceLT, ↓w_nil, ix_nI, nI_leP, nI_ltP, nI_eqP, nI_1, ↓i_inN, i_inN, l_le, l_lt, l_eq, r_le, r_lt, r_eq, sh3, sh6, ↓w_iload_1, ↓w_iflt, ↓w_aload_0, ↓w_gf3, ↓w_alen, ↓w_slen, ↓w_icge, ↓w_iconst, ↓w_goto, ↓w_zret, w_len])
    | (with_reducible refine bX9_has_2 ?_; simp (disch := omega) only [w_nl0, w_nli, w_nlr, ↓w_ts1, ↓w_ts0, w_rcv, w_rfv, w_cs, true_and, and_true, List.length_nil, List.length_cons, Nat.reduceAdd, Nat.reduceLeDiff, Nat.zero_le, Nat.reduceLT, ↓w_nil, ix_nI, nI_leP, nI_ltP, nI_eqP, nI_1, ↓i_inN, i_inN, l_le, l_lt, l_eq, r_le, r_lt, r_eq, sh3, sh6, ↓w_iload_1, ↓w_iflt, ↓w_aload_0, ↓w_gf3, ↓w_alen, ↓w_slen, ↓w_icge, ↓w_iconst, ↓w_goto, ↓w_zret, w_len])
    | (simp only [w_in])
    | (intro _))
  all_goals grind
theorem c_sizeT {x : Int32} (hd : 2 ≤ d) (hQ : Q (some (.int (if 0 ≤ x ∧ x < 4 then I 7 x.toNatClampNeg else -1))) SH I J) : pm_C g d 106 [.ref 6, .int x] Q SH I J := by
  refine eX9_size (by omega) ?_
  repeat' (first
    | (apply And.intro)
    | (with_reducible refine bX9_size_0 ?_; simp (disch := omega) only [w_nl0, w_nli, w_nlr, ↓w_ts1, ↓w_ts0, w_rcv, w_rfv, w_cs, true_and, and_true, List.length_nil, List.length_cons, Nat.reduceAdd, Nat.reduceLeDiff, Nat.zero_le, Nat.reduceLT, ↓w_nil, ix_nI, nI_leP, nI_ltP, nI_eqP, nI_1, ↓i_inN, i_inN, l_le, l_lt, l_eq, r_le, r_lt, r_eq, sh3, sh6, ↓w_aload_0, ↓w_iload_1, ↓w_iv, ↓pm_cl2_2, ↓w_ifeq, ↓w_gf3, ↓w_iaload, ↓w_goto, ↓w_iconst, ↓w_ret])
    | (with_reducible refine bX9_size_1 ?_; simp (disch := omega) only [w_nl0, w_nli, w_nlr, ↓w_ts1, ↓w_ts0, w_rcv, w_rfv, w_cs, true_and, and_true, List.length_nil, List.length_cons, Nat.reduceAdd, Nat.reduceLeDiff, Nat.zero_le, Nat.reduceLT, ↓w_nil, ix_nI, nI_leP, nI_ltP, nI_eqP, nI_1, ↓i_inN, i_inN, l_le, l_lt, l_eq, r_le, r_lt, r_eq, sh3, sh6, ↓w_aload_0, ↓w_iload_1, ↓w_iv, ↓pm_cl2_2, ↓w_ifeq, ↓w_gf3, ↓w_iaload, ↓w_goto, ↓w_iconst, ↓w_ret])
    | (with_reducible refine bX9_size_2 ?_; simp (disch := omega) only [w_nl0, w_nli, w_nlr, ↓w_ts1, ↓w_ts0, w_rcv, w_rfv, w_cs, true_and, and_true, List.length_nil, List.length_cons, Nat.reduceAdd, Nat.reduceLeDiff, Nat.zero_le, Nat.reduceLT, ↓w_nil, ix_nI, nI_leP, nI_ltP, nI_eqP, nI_1, ↓i_inN, i_inN, l_le, l_lt, l_eq, r_le, r_lt, r_eq, sh3, sh6, ↓w_aload_0, ↓w_iload_1, ↓w_iv, ↓pm_cl2_2, ↓w_ifeq, ↓w_gf3, ↓w_iaload, ↓w_goto, ↓w_iconst, ↓w_ret])
    | (with_reducible refine c_hasT (by omega) ?_; simp (disch := omega) only [w_nl0, w_nli, w_nlr, ↓w_ts1, ↓w_ts0, w_rcv, w_rfv, w_cs, true_and, and_true, List.length_nil, List.length_cons, Nat.reduceAdd, Nat.reduceLeDiff, Nat.zero_le, Nat.reduceLT, ↓w_nil, ix_nI, nI_leP, nI_ltP, nI_eqP, nI_1, ↓i_inN, i_inN, l_le, l_lt, l_eq, r_le, r_lt, r_eq, sh3, sh6, ↓w_aload_0, ↓w_iload_1, ↓w_iv, ↓pm_cl2_2, ↓w_ifeq, ↓w_gf3, ↓w_iaload, ↓w_goto, ↓w_iconst, ↓w_ret])
    | (simp only [w_in])
    | (intro _))
  all_goals grind
theorem c_missingT {x : Int32} (hd : 3 ≤ d) (hQ : Q (some (.int (if (if 0 ≤ x ∧ x < 4 then I 7 x.toNatClampNeg else -1) < 0 then 1 else 0))) SH I J) : pm_C g d 107 [.ref 6, .int x] Q SH I J := by
  refine eX9_missing (by omega) ?_
  repeat' (first
    | (apply And.intro)
    | (with_reducible refine bX9_missing_0 ?_; simp (disch := omega) only [w_nl0, w_nli, w_nlr, ↓w_ts1, ↓w_ts0, w_rcv, w_rfv, w_cs, true_and, and_true, List.length_nil, List.length_cons, Nat.reduceAdd, Nat.reduceLeDiff, Nat.zero_le, Nat.reduceLT, ↓w_nil, ix_nI, nI_leP, nI_ltP, nI_eqP, nI_1, ↓i_inN, i_inN, l_le, l_lt, l_eq, r_le, r_lt, r_eq, sh3, sh6, ↓w_aload_0, ↓w_iload_1, ↓w_iv, ↓pm_cl2_2, ↓w_ifge, ↓w_iconst, ↓w_goto, ↓w_zret])
    | (with_reducible refine bX9_missing_1 ?_; simp (disch := omega) only [w_nl0, w_nli, w_nlr, ↓w_ts1, ↓w_ts0, w_rcv, w_rfv, w_cs, true_and, and_true, List.length_nil, List.length_cons, Nat.reduceAdd, Nat.reduceLeDiff, Nat.zero_le, Nat.reduceLT, ↓w_nil, ix_nI, nI_leP, nI_ltP, nI_eqP, nI_1, ↓i_inN, i_inN, l_le, l_lt, l_eq, r_le, r_lt, r_eq, sh3, sh6, ↓w_aload_0, ↓w_iload_1, ↓w_iv, ↓pm_cl2_2, ↓w_ifge, ↓w_iconst, ↓w_goto, ↓w_zret])
    | (with_reducible refine bX9_missing_2 ?_; simp (disch := omega) only [w_nl0, w_nli, w_nlr, ↓w_ts1, ↓w_ts0, w_rcv, w_rfv, w_cs, true_and, and_true, List.length_nil, List.length_cons, Nat.reduceAdd, Nat.reduceLeDiff, Nat.zero_le, Nat.reduceLT, ↓w_nil, ix_nI, nI_leP, nI_ltP, nI_eqP, nI_1, ↓i_inN, i_inN, l_le, l_lt, l_eq, r_le, r_lt, r_eq, sh3, sh6, ↓w_aload_0, ↓w_iload_1, ↓w_iv, ↓pm_cl2_2, ↓w_ifge, ↓w_iconst, ↓w_goto, ↓w_zret])
    | (with_reducible refine c_sizeT (by omega) ?_; simp (disch := omega) only [w_nl0, w_nli, w_nlr, ↓w_ts1, ↓w_ts0, w_rcv, w_rfv, w_cs, true_and, and_true, List.length_nil, List.length_cons, Nat.reduceAdd, Nat.reduceLeDiff, Nat.zero_le, Nat.reduceLT, ↓w_nil, ix_nI, nI_leP, nI_ltP, nI_eqP, nI_1, ↓i_inN, i_inN, l_le, l_lt, l_eq, r_le, r_lt, r_eq, sh3, sh6, ↓w_aload_0, ↓w_iload_1, ↓w_iv, ↓pm_cl2_2, ↓w_ifge, ↓w_iconst, ↓w_goto, ↓w_zret])
    | (simp only [w_in])
    | (intro _))
  all_goals grind
theorem c_insideT {x i : Int32} (hd : 3 ≤ d) (hQ : Q (some (.int (if 0 ≤ i ∧ i < (if 0 ≤ x ∧ x < 4 then I 7 x.toNatClampNeg else -1) then 1 else 0))) SH I J) : pm_C g d 108 [.ref 6, .int x, .int i] Q SH I J := by
  refine eX9_inside (by omega) ?_
  repeat' (first
    | (apply And.intro)
    | (with_reducible refine bX9_inside_0 ?_; simp (disch := omega) only [w_nl0, w_nli, w_nlr, ↓w_ts1, ↓w_ts0, w_rcv, w_rfv, w_cs, true_and, and_true, List.length_nil, List.length_cons, Nat.reduceAdd, Nat.reduceLeDiff, Nat.zero_le, Nat.reduceLT, ↓w_nil, ix_nI, nI_leP, nI_ltP, nI_eqP, nI_1, ↓i_inN, i_inN, l_le, l_lt, l_eq, r_le, r_lt, r_eq, sh3, sh6, ↓w_iload_2, ↓w_iflt, ↓w_aload_0, ↓w_iload_1, ↓w_iv, ↓pm_cl2_2, ↓w_icge, ↓w_iconst, ↓w_goto, ↓w_zret])
    | (with_reducible refine bX9_inside_1 ?_; simp (disch := omega) only [w_nl0, w_nli, w_nlr, ↓w_ts1, ↓w_ts0, w_rcv, w_rfv, w_cs, true_and, and_true, List.length_nil, List.length_cons, Nat.reduceAdd, Nat.reduceLeDiff, Nat.zero_le, Nat.reduceLT, ↓w_nil, ix_nI, nI_leP, nI_ltP, nI_eqP, nI_1, ↓i_inN, i_inN, l_le, l_lt, l_eq, r_le, r_lt, r_eq, sh3, sh6, ↓w_iload_2, ↓w_iflt, ↓w_aload_0, ↓w_iload_1, ↓w_iv, ↓pm_cl2_2, ↓w_icge, ↓w_iconst, ↓w_goto, ↓w_zret])
    | (with_reducible refine bX9_inside_2 ?_; simp (disch := omega) only [w_nl0, w_nli, w_nlr, ↓w_ts1, ↓w_ts0, w_rcv, w_rfv, w_cs, true_and, and_true, List.length_nil, List.length_cons, Nat.reduceAdd, Nat.reduceLeDiff, Nat.zero_le, Nat.reduceLT, ↓w_nil, ix_nI, nI_leP, nI_ltP, nI_eqP, nI_1, ↓i_inN, i_inN, l_le, l_lt, l_eq, r_le, r_lt, r_eq, sh3, sh6, ↓w_iload_2, ↓w_iflt, ↓w_aload_0, ↓w_iload_1, ↓w_iv, ↓pm_cl2_2, ↓w_icge, ↓w_iconst, ↓w_goto, ↓w_zret])
    | (with_reducible refine c_sizeT (by omega) ?_; simp (disch := omega) only [w_nl0, w_nli, w_nlr, ↓w_ts1, ↓w_ts0, w_rcv, w_rfv, w_cs, true_and, and_true, List.length_nil, List.length_cons, Nat.reduceAdd, Nat.reduceLeDiff, Nat.zero_le, Nat.reduceLT, ↓w_nil, ix_nI, nI_leP, nI_ltP, nI_eqP, nI_1, ↓i_inN, i_inN, l_le, l_lt, l_eq, r_le, r_lt, r_eq, sh3, sh6, ↓w_iload_2, ↓w_iflt, ↓w_aload_0, ↓w_iload_1, ↓w_iv, ↓pm_cl2_2, ↓w_icge, ↓w_iconst, ↓w_goto, ↓w_zret])
    | (simp only [w_in])
    | (intro _))
  all_goals grind
theorem c_spansT {x i n : Int32} (hd : 3 ≤ d) (hQ : Q (some (.int (if 0 ≤ i ∧ i ≤ (if 0 ≤ x ∧ x < 4 then I 7 x.toNatClampNeg else -1) ∧ 0 ≤ n ∧ n ≤ (if 0 ≤ x ∧ x < 4 then I 7 x.toNatClampNeg else -1) - i then 1 else 0))) SH I J) : pm_C g d 109 [.ref 6, .int x, .int i, .int n] Q SH I J := by
  refine eX9_spans (by omega) ?_
  repeat' (first
    | (apply And.intro)
    | (with_reducible refine bX9_spans_0 ?_; simp (disch := omega) only [w_nl0, w_nli, w_nlr, ↓w_ts1, ↓w_ts0, w_rcv, w_rfv, w_cs, true_and, and_true, List.length_nil, List.length_cons, Nat.reduceAdd, Nat.reduceLeDiff, Nat.zero_le, Nat.reduceLT, ↓w_nil, ix_nI, nI_leP, nI_ltP, nI_eqP, nI_1, ↓i_inN, i_inN, l_le, l_lt, l_eq, r_le, r_lt, r_eq, sh3, sh6, ↓w_iload_2, ↓w_iflt, ↓w_aload_0, ↓w_iload_1, ↓w_iv, ↓pm_cl2_2, ↓w_icgt, ↓w_iload_3, ↓w_isub, ↓w_iconst, ↓w_goto, ↓w_zret])
    | (with_reducible refine bX9_spans_1 ?_; simp (disch := omega) only [w_nl0, w_nli, w_nlr, ↓w_ts1, ↓w_ts0, w_rcv, w_rfv, w_cs, true_and, and_true, List.length_nil, List.length_cons, Nat.reduceAdd, Nat.reduceLeDiff, Nat.zero_le, Nat.reduceLT, ↓w_nil, ix_nI, nI_leP, nI_ltP, nI_eqP, nI_1, ↓i_inN, i_inN, l_le, l_lt, l_eq, r_le, r_lt, r_eq, sh3, sh6, ↓w_iload_2, ↓w_iflt, ↓w_aload_0, ↓w_iload_1, ↓w_iv, ↓pm_cl2_2, ↓w_icgt, ↓w_iload_3, ↓w_isub, ↓w_iconst, ↓w_goto, ↓w_zret])
    | (with_reducible refine bX9_spans_2 ?_; simp (disch := omega) only [w_nl0, w_nli, w_nlr, ↓w_ts1, ↓w_ts0, w_rcv, w_rfv, w_cs, true_and, and_true, List.length_nil, List.length_cons, Nat.reduceAdd, Nat.reduceLeDiff, Nat.zero_le, Nat.reduceLT, ↓w_nil, ix_nI, nI_leP, nI_ltP, nI_eqP, nI_1, ↓i_inN, i_inN, l_le, l_lt, l_eq, r_le, r_lt, r_eq, sh3, sh6, ↓w_iload_2, ↓w_iflt, ↓w_aload_0, ↓w_iload_1, ↓w_iv, ↓pm_cl2_2, ↓w_icgt, ↓w_iload_3, ↓w_isub, ↓w_iconst, ↓w_goto, ↓w_zret])
    | (with_reducible refine c_sizeT (by omega) ?_; simp (disch := omega) only [w_nl0, w_nli, w_nlr, ↓w_ts1, ↓w_ts0, w_rcv, w_rfv, w_cs, true_and, and_true, List.length_nil, List.length_cons, Nat.reduceAdd, Nat.reduceLeDiff, Nat.zero_le, Nat.reduceLT, ↓w_nil, ix_nI, nI_leP, nI_ltP, nI_eqP, nI_1, ↓i_inN, i_inN, l_le, l_lt, l_eq, r_le, r_lt, r_eq, sh3, sh6, ↓w_iload_2, ↓w_iflt, ↓w_aload_0, ↓w_iload_1, ↓w_iv, ↓pm_cl2_2, ↓w_icgt, ↓w_iload_3, ↓w_isub, ↓w_iconst, ↓w_goto, ↓w_zret])
    | (simp only [w_in])
    | (intro _))
  all_goals grind
end C20
