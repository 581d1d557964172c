section C25
variable {g : pm_G} {d : Nat} {Q : pm_Po} {S : pm_SS} {I : pm_MI} {J : pm_ML}
theorem c_growing {a b : Int32} (hd : 1 ≤ d) (hQ : Q (some (.int (a * 4 + b))) S I J) : pm_C g d 54 [.int a, .int b] Q S I J := by
  refine eX5_growing (by omega) ?_
  repeat' (first
    | (apply And.intro)
    | (with_reducible refine bX5_growing_0 ?_; simp (disch := first | omega | decide) only [w_nl0, w_nli, w_nlr, ↓w_ts1, ↓w_ts0, w_rcv, w_rfv, w_cs, true_and, and_true, List.length_nil, List.length_cons, Nat.reduceAdd, Nat.reduceLeDiff, Nat.zero_le, Nat.reduceLT, ↓w_nil, ix_nI, nI_leP, nI_ltP, nI_eqP, nI_1, ↓i_inN, i_inN, l_le, l_lt, l_eq, r_le, r_lt, r_eq, sh31, ↓w_iload_0, ↓w_iconst, ↓w_imul, ↓w_iload_1, ↓w_iadd, ↓w_ret])
    | (simp only [w_in])
    | (intro _))
  all_goals grind
theorem c_paying {a : Int32} (hd : 1 ≤ d) (hQ : Q (some (.int (17 + a))) S I J) : pm_C g d 55 [.int a] Q S I J := by
  refine eX5_paying (by omega) ?_
  repeat' (first
    | (apply And.intro)
    | (with_reducible refine bX5_paying_0 ?_; simp (disch := first | omega | decide) only [w_nl0, w_nli, w_nlr, ↓w_ts1, ↓w_ts0, w_rcv, w_rfv, w_cs, true_and, and_true, List.length_nil, List.length_cons, Nat.reduceAdd, Nat.reduceLeDiff, Nat.zero_le, Nat.reduceLT, ↓w_nil, ix_nI, nI_leP, nI_ltP, nI_eqP, nI_1, ↓i_inN, i_inN, l_le, l_lt, l_eq, r_le, r_lt, r_eq, sh31, ↓w_bipush, ↓w_iload_0, ↓w_iadd, ↓w_ret])
    | (simp only [w_in])
    | (intro _))
  all_goals grind
theorem c_selling {a : Int32} (hd : 1 ≤ d) (hQ : Q (some (.int (25 + a))) S I J) : pm_C g d 56 [.int a] Q S I J := by
  refine eX5_selling (by omega) ?_
  repeat' (first
    | (apply And.intro)
    | (with_reducible refine bX5_selling_0 ?_; simp (disch := first | omega | decide) only [w_nl0, w_nli, w_nlr, ↓w_ts1, ↓w_ts0, w_rcv, w_rfv, w_cs, true_and, and_true, List.length_nil, List.length_cons, Nat.reduceAdd, Nat.reduceLeDiff, Nat.zero_le, Nat.reduceLT, ↓w_nil, ix_nI, nI_leP, nI_ltP, nI_eqP, nI_1, ↓i_inN, i_inN, l_le, l_lt, l_eq, r_le, r_lt, r_eq, sh31, ↓w_bipush, ↓w_iload_0, ↓w_iadd, ↓w_ret])
    | (simp only [w_in])
    | (intro _))
  all_goals grind
def thingV (w a b : Int32) : Int32 := if w = 0 then (if (0 ≤ a ∧ a < 4) ∧ (0 ≤ b ∧ b < 4) then a * 4 + b else -1) else if w = 1 then 16 else if w = 2 then (if 0 ≤ a ∧ a < 8 then 17 + a else -1) else if w = 3 then (if 0 ≤ a ∧ a < 8 then 25 + a else -1) else -1
theorem c_thing {w a b : Int32} (hd : 2 ≤ d) (hQ : Q (some (.int (thingV w a b))) S I J) : pm_C g d 57 [.int w, .int a, .int b] Q S I J := by
  unfold thingV at hQ
  refine eX5_thing (by omega) ?_
  repeat' (first
    | (apply And.intro)
    | (with_reducible refine bX5_thing_0 ?_; simp (disch := first | omega | decide) only [w_nl0, w_nli, w_nlr, ↓w_ts1, ↓w_ts0, w_rcv, w_rfv, w_cs, true_and, and_true, List.length_nil, List.length_cons, Nat.reduceAdd, Nat.reduceLeDiff, Nat.zero_le, Nat.reduceLT, ↓w_nil, ix_nI, nI_leP, nI_ltP, nI_eqP, nI_1, ↓i_inN, i_inN, l_le, l_lt, l_eq, r_le, r_lt, r_eq, sh31, ↓w_iload_0, ↓w_sw_X5_thing_1, ↓w_iload_1, ↓w_iconst, ↓w_is, ↓pm_cl1_2, ↓w_ifeq, ↓w_iload_2, ↓w_goto, ↓w_ret, ↓w_bipush, ↓pm_cl1_1])
    | (with_reducible refine bX5_thing_1 ?_; simp (disch := first | omega | decide) only [w_nl0, w_nli, w_nlr, ↓w_ts1, ↓w_ts0, w_rcv, w_rfv, w_cs, true_and, and_true, List.length_nil, List.length_cons, Nat.reduceAdd, Nat.reduceLeDiff, Nat.zero_le, Nat.reduceLT, ↓w_nil, ix_nI, nI_leP, nI_ltP, nI_eqP, nI_1, ↓i_inN, i_inN, l_le, l_lt, l_eq, r_le, r_lt, r_eq, sh31, ↓w_iload_0, ↓w_sw_X5_thing_1, ↓w_iload_1, ↓w_iconst, ↓w_is, ↓pm_cl1_2, ↓w_ifeq, ↓w_iload_2, ↓w_goto, ↓w_ret, ↓w_bipush, ↓pm_cl1_1])
    | (with_reducible refine bX5_thing_2 ?_; simp (disch := first | omega | decide) only [w_nl0, w_nli, w_nlr, ↓w_ts1, ↓w_ts0, w_rcv, w_rfv, w_cs, true_and, and_true, List.length_nil, List.length_cons, Nat.reduceAdd, Nat.reduceLeDiff, Nat.zero_le, Nat.reduceLT, ↓w_nil, ix_nI, nI_leP, nI_ltP, nI_eqP, nI_1, ↓i_inN, i_inN, l_le, l_lt, l_eq, r_le, r_lt, r_eq, sh31, ↓w_iload_0, ↓w_sw_X5_thing_1, ↓w_iload_1, ↓w_iconst, ↓w_is, ↓pm_cl1_2, ↓w_ifeq, ↓w_iload_2, ↓w_goto, ↓w_ret, ↓w_bipush, ↓pm_cl1_1])
    | (with_reducible refine bX5_thing_3 ?_; simp (disch := first | omega | decide) only [w_nl0, w_nli, w_nlr, ↓w_ts1, ↓w_ts0, w_rcv, w_rfv, w_cs, true_and, and_true, List.length_nil, List.length_cons, Nat.reduceAdd, Nat.reduceLeDiff, Nat.zero_le, Nat.reduceLT, ↓w_nil, ix_nI, nI_leP, nI_ltP, nI_eqP, nI_1, ↓i_inN, i_inN, l_le, l_lt, l_eq, r_le, r_lt, r_eq, sh31, ↓w_iload_0, ↓w_sw_X5_thing_1, ↓w_iload_1, ↓w_iconst, ↓w_is, ↓pm_cl1_2, ↓w_ifeq, ↓w_iload_2, ↓w_goto, ↓w_ret, ↓w_bipush, ↓pm_cl1_1])
    | (with_reducible refine bX5_thing_4 ?_; simp (disch := first | omega | decide) only [w_nl0, w_nli, w_nlr, ↓w_ts1, ↓w_ts0, w_rcv, w_rfv, w_cs, true_and, and_true, List.length_nil, List.length_cons, Nat.reduceAdd, Nat.reduceLeDiff, Nat.zero_le, Nat.reduceLT, ↓w_nil, ix_nI, nI_leP, nI_ltP, nI_eqP, nI_1, ↓i_inN, i_inN, l_le, l_lt, l_eq, r_le, r_lt, r_eq, sh31, ↓w_iload_0, ↓w_sw_X5_thing_1, ↓w_iload_1, ↓w_iconst, ↓w_is, ↓pm_cl1_2, ↓w_ifeq, ↓w_iload_2, ↓w_goto, ↓w_ret, ↓w_bipush, ↓pm_cl1_1])
    | (with_reducible refine bX5_thing_5 ?_; simp (disch := first | omega | decide) only [w_nl0, w_nli, w_nlr, ↓w_ts1, ↓w_ts0, w_rcv, w_rfv, w_cs, true_and, and_true, List.length_nil, List.length_cons, Nat.reduceAdd, Nat.reduceLeDiff, Nat.zero_le, Nat.reduceLT, ↓w_nil, ix_nI, nI_leP, nI_ltP, nI_eqP, nI_1, ↓i_inN, i_inN, l_le, l_lt, l_eq, r_le, r_lt, r_eq, sh31, ↓w_iload_0, ↓w_sw_X5_thing_1, ↓w_iload_1, ↓w_iconst, ↓w_is, ↓pm_cl1_2, ↓w_ifeq, ↓w_iload_2, ↓w_goto, ↓w_ret, ↓w_bipush, ↓pm_cl1_1])
    | (with_reducible refine bX5_thing_6 ?_; simp (disch := first | omega | decide) only [w_nl0, w_nli, w_nlr, ↓w_ts1, ↓w_ts0, w_rcv, w_rfv, w_cs, true_and, and_true, List.length_nil, List.length_cons, Nat.reduceAdd, Nat.reduceLeDiff, Nat.zero_le, Nat.reduceLT, ↓w_nil, ix_nI, nI_leP, nI_ltP, nI_eqP, nI_1, ↓i_inN, i_inN, l_le, l_lt, l_eq, r_le, r_lt, r_eq, sh31, ↓w_iload_0, ↓w_sw_X5_thing_1, ↓w_iload_1, ↓w_iconst, ↓w_is, ↓pm_cl1_2, ↓w_ifeq, ↓w_iload_2, ↓w_goto, ↓w_ret, ↓w_bipush, ↓pm_cl1_1])
    | (with_reducible refine bX5_thing_7 ?_; simp (disch := first | omega | decide) only [w_nl0, w_nli, w_nlr, ↓w_ts1, ↓w_ts0, w_rcv, w_rfv, w_cs, true_and, and_true, List.length_nil, List.length_cons, Nat.reduceAdd, Nat.reduceLeDiff, Nat.zero_le, Nat.reduceLT, ↓w_nil, ix_nI, nI_leP, nI_ltP, nI_eqP, nI_1, ↓i_inN, i_inN, l_le, l_lt, l_eq, r_le, r_lt, r_eq, sh31, ↓w_iload_0, ↓w_sw_X5_thing_1, ↓w_iload_1, ↓w_iconst, ↓w_is, ↓pm_cl1_2, ↓w_ifeq, ↓w_iload_2, ↓w_goto, ↓w_ret, ↓w_bipush, ↓pm_cl1_1])
    | (with_reducible refine bX5_thing_8 ?_; simp (disch := first | omega | decide) only [w_nl0, w_nli, w_nlr, ↓w_ts1, ↓w_ts0, w_rcv, w_rfv, w_cs, true_and, and_true, List.length_nil, List.length_cons, Nat.reduceAdd, Nat.reduceLeDiff, Nat.zero_le, Nat.reduceLT, ↓w_nil, ix_nI, nI_leP, nI_ltP, nI_eqP, nI_1, ↓i_inN, i_inN, l_le, l_lt, l_eq, r_le, r_lt, r_eq, sh31, ↓w_iload_0, ↓w_sw_X5_thing_1, ↓w_iload_1, ↓w_iconst, ↓w_is, ↓pm_cl1_2, ↓w_ifeq, ↓w_iload_2, ↓w_goto, ↓w_ret, ↓w_bipush, ↓pm_cl1_1])
    | (with_reducible refine bX5_thing_9 ?_; simp (disch := first | omega | decide) only [w_nl0, w_nli, w_nlr, ↓w_ts1, ↓w_ts0, w_rcv, w_rfv, w_cs, true_and, and_true, List.length_nil, List.length_cons, Nat.reduceAdd, Nat.reduceLeDiff, Nat.zero_le, Nat.reduceLT, ↓w_nil, ix_nI, nI_leP, nI_ltP, nI_eqP, nI_1, ↓i_inN, i_inN, l_le, l_lt, l_eq, r_le, r_lt, r_eq, sh31, ↓w_iload_0, ↓w_sw_X5_thing_1, ↓w_iload_1, ↓w_iconst, ↓w_is, ↓pm_cl1_2, ↓w_ifeq, ↓w_iload_2, ↓w_goto, ↓w_ret, ↓w_bipush, ↓pm_cl1_1])
    | (with_reducible refine bX5_thing_10 ?_; simp (disch := first | omega | decide) only [w_nl0, w_nli, w_nlr, ↓w_ts1, ↓w_ts0, w_rcv, w_rfv, w_cs, true_and, and_true, List.length_nil, List.length_cons, Nat.reduceAdd, Nat.reduceLeDiff, Nat.zero_le, Nat.reduceLT, ↓w_nil, ix_nI, nI_leP, nI_ltP, nI_eqP, nI_1, ↓i_inN, i_inN, l_le, l_lt, l_eq, r_le, r_lt, r_eq, sh31, ↓w_iload_0, ↓w_sw_X5_thing_1, ↓w_iload_1, ↓w_iconst, ↓w_is, ↓pm_cl1_2, ↓w_ifeq, ↓w_iload_2, ↓w_goto, ↓w_ret, ↓w_bipush, ↓pm_cl1_1])
    | (with_reducible refine bX5_thing_11 ?_; simp (disch := first | omega | decide) only [w_nl0, w_nli, w_nlr, ↓w_ts1, ↓w_ts0, w_rcv, w_rfv, w_cs, true_and, and_true, List.length_nil, List.length_cons, Nat.reduceAdd, Nat.reduceLeDiff, Nat.zero_le, Nat.reduceLT, ↓w_nil, ix_nI, nI_leP, nI_ltP, nI_eqP, nI_1, ↓i_inN, i_inN, l_le, l_lt, l_eq, r_le, r_lt, r_eq, sh31, ↓w_iload_0, ↓w_sw_X5_thing_1, ↓w_iload_1, ↓w_iconst, ↓w_is, ↓pm_cl1_2, ↓w_ifeq, ↓w_iload_2, ↓w_goto, ↓w_ret, ↓w_bipush, ↓pm_cl1_1])
    | (with_reducible refine c_below (by omega) ?_; simp (disch := first | omega | decide) only [w_nl0, w_nli, w_nlr, ↓w_ts1, ↓w_ts0, w_rcv, w_rfv, w_cs, true_and, and_true, List.length_nil, List.length_cons, Nat.reduceAdd, Nat.reduceLeDiff, Nat.zero_le, Nat.reduceLT, ↓w_nil, ix_nI, nI_leP, nI_ltP, nI_eqP, nI_1, ↓i_inN, i_inN, l_le, l_lt, l_eq, r_le, r_lt, r_eq, sh31, ↓w_iload_0, ↓w_sw_X5_thing_1, ↓w_iload_1, ↓w_iconst, ↓w_is, ↓pm_cl1_2, ↓w_ifeq, ↓w_iload_2, ↓w_goto, ↓w_ret, ↓w_bipush, ↓pm_cl1_1])
    | (with_reducible refine c_growing (by omega) ?_; simp (disch := first | omega | decide) only [w_nl0, w_nli, w_nlr, ↓w_ts1, ↓w_ts0, w_rcv, w_rfv, w_cs, true_and, and_true, List.length_nil, List.length_cons, Nat.reduceAdd, Nat.reduceLeDiff, Nat.zero_le, Nat.reduceLT, ↓w_nil, ix_nI, nI_leP, nI_ltP, nI_eqP, nI_1, ↓i_inN, i_inN, l_le, l_lt, l_eq, r_le, r_lt, r_eq, sh31, ↓w_iload_0, ↓w_sw_X5_thing_1, ↓w_iload_1, ↓w_iconst, ↓w_is, ↓pm_cl1_2, ↓w_ifeq, ↓w_iload_2, ↓w_goto, ↓w_ret, ↓w_bipush, ↓pm_cl1_1])
    | (with_reducible refine c_paying (by omega) ?_; simp (disch := first | omega | decide) only [w_nl0, w_nli, w_nlr, ↓w_ts1, ↓w_ts0, w_rcv, w_rfv, w_cs, true_and, and_true, List.length_nil, List.length_cons, Nat.reduceAdd, Nat.reduceLeDiff, Nat.zero_le, Nat.reduceLT, ↓w_nil, ix_nI, nI_leP, nI_ltP, nI_eqP, nI_1, ↓i_inN, i_inN, l_le, l_lt, l_eq, r_le, r_lt, r_eq, sh31, ↓w_iload_0, ↓w_sw_X5_thing_1, ↓w_iload_1, ↓w_iconst, ↓w_is, ↓pm_cl1_2, ↓w_ifeq, ↓w_iload_2, ↓w_goto, ↓w_ret, ↓w_bipush, ↓pm_cl1_1])
    | (with_reducible refine c_selling (by omega) ?_; simp (disch := first | omega | decide) only [w_nl0, w_nli, w_nlr, ↓w_ts1, ↓w_ts0, w_rcv, w_rfv, w_cs, true_and, and_true, List.length_nil, List.length_cons, Nat.reduceAdd, Nat.reduceLeDiff, Nat.zero_le, Nat.reduceLT, ↓w_nil, ix_nI, nI_leP, nI_ltP, nI_eqP, nI_1, ↓i_inN, i_inN, l_le, l_lt, l_eq, r_le, r_lt, r_eq, sh31, ↓w_iload_0, ↓w_sw_X5_thing_1, ↓w_iload_1, ↓w_iconst, ↓w_is, ↓pm_cl1_2, ↓w_ifeq, ↓w_iload_2, ↓w_goto, ↓w_ret, ↓w_bipush, ↓pm_cl1_1])
    | (simp only [w_in])
    | (intro _))
  all_goals grind
def unrV (x : Int32) : Int32 := if x = 1 then 1 else if x = 6 then 6 else if x = 11 then 9 else if x = 16 then 1000 else if x < 25 then 0 else 1
theorem c_unruled {x : Int32} (hd : 2 ≤ d) (hQ : Q (some (.int (unrV x))) S I J) : pm_C g d 58 [.int x] Q S I J := by
  unfold unrV at hQ
  refine eX5_unruled (by omega) ?_
  repeat' (first
    | (apply And.intro)
    | (with_reducible refine bX5_unruled_0 ?_; simp (disch := first | omega | decide) only [w_nl0, w_nli, w_nlr, ↓w_ts1, ↓w_ts0, w_rcv, w_rfv, w_cs, true_and, and_true, List.length_nil, List.length_cons, Nat.reduceAdd, Nat.reduceLeDiff, Nat.zero_le, Nat.reduceLT, ↓w_nil, ix_nI, nI_leP, nI_ltP, nI_eqP, nI_1, ↓i_inN, i_inN, l_le, l_lt, l_eq, r_le, r_lt, r_eq, sh31, ↓w_iload_0, ↓w_iconst, ↓w_is, ↓pm_cl1_2, ↓w_icne, ↓w_ret, ↓w_bipush, ↓w_sipush, ↓pm_cl1_1, ↓w_iclt, ↓w_goto])
    | (with_reducible refine bX5_unruled_1 ?_; simp (disch := first | omega | decide) only [w_nl0, w_nli, w_nlr, ↓w_ts1, ↓w_ts0, w_rcv, w_rfv, w_cs, true_and, and_true, List.length_nil, List.length_cons, Nat.reduceAdd, Nat.reduceLeDiff, Nat.zero_le, Nat.reduceLT, ↓w_nil, ix_nI, nI_leP, nI_ltP, nI_eqP, nI_1, ↓i_inN, i_inN, l_le, l_lt, l_eq, r_le, r_lt, r_eq, sh31, ↓w_iload_0, ↓w_iconst, ↓w_is, ↓pm_cl1_2, ↓w_icne, ↓w_ret, ↓w_bipush, ↓w_sipush, ↓pm_cl1_1, ↓w_iclt, ↓w_goto])
    | (with_reducible refine bX5_unruled_2 ?_; simp (disch := first | omega | decide) only [w_nl0, w_nli, w_nlr, ↓w_ts1, ↓w_ts0, w_rcv, w_rfv, w_cs, true_and, and_true, List.length_nil, List.length_cons, Nat.reduceAdd, Nat.reduceLeDiff, Nat.zero_le, Nat.reduceLT, ↓w_nil, ix_nI, nI_leP, nI_ltP, nI_eqP, nI_1, ↓i_inN, i_inN, l_le, l_lt, l_eq, r_le, r_lt, r_eq, sh31, ↓w_iload_0, ↓w_iconst, ↓w_is, ↓pm_cl1_2, ↓w_icne, ↓w_ret, ↓w_bipush, ↓w_sipush, ↓pm_cl1_1, ↓w_iclt, ↓w_goto])
    | (with_reducible refine bX5_unruled_3 ?_; simp (disch := first | omega | decide) only [w_nl0, w_nli, w_nlr, ↓w_ts1, ↓w_ts0, w_rcv, w_rfv, w_cs, true_and, and_true, List.length_nil, List.length_cons, Nat.reduceAdd, Nat.reduceLeDiff, Nat.zero_le, Nat.reduceLT, ↓w_nil, ix_nI, nI_leP, nI_ltP, nI_eqP, nI_1, ↓i_inN, i_inN, l_le, l_lt, l_eq, r_le, r_lt, r_eq, sh31, ↓w_iload_0, ↓w_iconst, ↓w_is, ↓pm_cl1_2, ↓w_icne, ↓w_ret, ↓w_bipush, ↓w_sipush, ↓pm_cl1_1, ↓w_iclt, ↓w_goto])
    | (with_reducible refine bX5_unruled_4 ?_; simp (disch := first | omega | decide) only [w_nl0, w_nli, w_nlr, ↓w_ts1, ↓w_ts0, w_rcv, w_rfv, w_cs, true_and, and_true, List.length_nil, List.length_cons, Nat.reduceAdd, Nat.reduceLeDiff, Nat.zero_le, Nat.reduceLT, ↓w_nil, ix_nI, nI_leP, nI_ltP, nI_eqP, nI_1, ↓i_inN, i_inN, l_le, l_lt, l_eq, r_le, r_lt, r_eq, sh31, ↓w_iload_0, ↓w_iconst, ↓w_is, ↓pm_cl1_2, ↓w_icne, ↓w_ret, ↓w_bipush, ↓w_sipush, ↓pm_cl1_1, ↓w_iclt, ↓w_goto])
    | (with_reducible refine bX5_unruled_5 ?_; simp (disch := first | omega | decide) only [w_nl0, w_nli, w_nlr, ↓w_ts1, ↓w_ts0, w_rcv, w_rfv, w_cs, true_and, and_true, List.length_nil, List.length_cons, Nat.reduceAdd, Nat.reduceLeDiff, Nat.zero_le, Nat.reduceLT, ↓w_nil, ix_nI, nI_leP, nI_ltP, nI_eqP, nI_1, ↓i_inN, i_inN, l_le, l_lt, l_eq, r_le, r_lt, r_eq, sh31, ↓w_iload_0, ↓w_iconst, ↓w_is, ↓pm_cl1_2, ↓w_icne, ↓w_ret, ↓w_bipush, ↓w_sipush, ↓pm_cl1_1, ↓w_iclt, ↓w_goto])
    | (with_reducible refine bX5_unruled_6 ?_; simp (disch := first | omega | decide) only [w_nl0, w_nli, w_nlr, ↓w_ts1, ↓w_ts0, w_rcv, w_rfv, w_cs, true_and, and_true, List.length_nil, List.length_cons, Nat.reduceAdd, Nat.reduceLeDiff, Nat.zero_le, Nat.reduceLT, ↓w_nil, ix_nI, nI_leP, nI_ltP, nI_eqP, nI_1, ↓i_inN, i_inN, l_le, l_lt, l_eq, r_le, r_lt, r_eq, sh31, ↓w_iload_0, ↓w_iconst, ↓w_is, ↓pm_cl1_2, ↓w_icne, ↓w_ret, ↓w_bipush, ↓w_sipush, ↓pm_cl1_1, ↓w_iclt, ↓w_goto])
    | (with_reducible refine c_growing (by omega) ?_; simp (disch := first | omega | decide) only [w_nl0, w_nli, w_nlr, ↓w_ts1, ↓w_ts0, w_rcv, w_rfv, w_cs, true_and, and_true, List.length_nil, List.length_cons, Nat.reduceAdd, Nat.reduceLeDiff, Nat.zero_le, Nat.reduceLT, ↓w_nil, ix_nI, nI_leP, nI_ltP, nI_eqP, nI_1, ↓i_inN, i_inN, l_le, l_lt, l_eq, r_le, r_lt, r_eq, sh31, ↓w_iload_0, ↓w_iconst, ↓w_is, ↓pm_cl1_2, ↓w_icne, ↓w_ret, ↓w_bipush, ↓w_sipush, ↓pm_cl1_1, ↓w_iclt, ↓w_goto])
    | (with_reducible refine c_selling (by omega) ?_; simp (disch := first | omega | decide) only [w_nl0, w_nli, w_nlr, ↓w_ts1, ↓w_ts0, w_rcv, w_rfv, w_cs, true_and, and_true, List.length_nil, List.length_cons, Nat.reduceAdd, Nat.reduceLeDiff, Nat.zero_le, Nat.reduceLT, ↓w_nil, ix_nI, nI_leP, nI_ltP, nI_eqP, nI_1, ↓i_inN, i_inN, l_le, l_lt, l_eq, r_le, r_lt, r_eq, sh31, ↓w_iload_0, ↓w_iconst, ↓w_is, ↓pm_cl1_2, ↓w_icne, ↓w_ret, ↓w_bipush, ↓w_sipush, ↓pm_cl1_1, ↓w_iclt, ↓w_goto])
    | (simp only [w_in])
    | (intro _))
  all_goals grind
theorem nI_m33 (a : Nat) : nI a * 33 = nI (33 * a) := by rw [Nat.mul_comm 33 a, ← pk_mul]; rfl
theorem c_value {r t : Nat} {x : Int32} (hd : 2 ≤ d) (hr : r < 24) (hx : x = nI t) (ht : t < 33) (hQ : Q (some (.int (I 34 (33 * r + t)))) SH I J) : pm_C g d 61 [.ref 31, .int (nI r), .int x] Q SH I J := by
  subst hx
  refine eX5_value (by omega) ?_
  repeat' (first
    | (apply And.intro)
    | (with_reducible refine bX5_value_0 ?_; simp (disch := first | omega | decide) only [w_nl0, w_nli, w_nlr, ↓w_ts1, ↓w_ts0, w_rcv, w_rfv, w_cs, true_and, and_true, List.length_nil, List.length_cons, Nat.reduceAdd, Nat.reduceLeDiff, Nat.zero_le, Nat.reduceLT, ↓w_nil, ix_nI, nI_leP, nI_ltP, nI_eqP, nI_1, ↓i_inN, i_inN, l_le, l_lt, l_eq, r_le, r_lt, r_eq, sh31, ↓w_iload_1, ↓w_bipush, ↓w_is, ↓pm_cl1_2, ↓w_ifeq, ↓w_iload_2, ↓w_aload_0, ↓w_gf3, ↓w_imul, ↓w_iadd, ↓w_iaload, ↓w_goto, ↓w_iconst, ↓w_ret, nI_m33, nI_add])
    | (with_reducible refine bX5_value_1 ?_; simp (disch := first | omega | decide) only [w_nl0, w_nli, w_nlr, ↓w_ts1, ↓w_ts0, w_rcv, w_rfv, w_cs, true_and, and_true, List.length_nil, List.length_cons, Nat.reduceAdd, Nat.reduceLeDiff, Nat.zero_le, Nat.reduceLT, ↓w_nil, ix_nI, nI_leP, nI_ltP, nI_eqP, nI_1, ↓i_inN, i_inN, l_le, l_lt, l_eq, r_le, r_lt, r_eq, sh31, ↓w_iload_1, ↓w_bipush, ↓w_is, ↓pm_cl1_2, ↓w_ifeq, ↓w_iload_2, ↓w_aload_0, ↓w_gf3, ↓w_imul, ↓w_iadd, ↓w_iaload, ↓w_goto, ↓w_iconst, ↓w_ret, nI_m33, nI_add])
    | (with_reducible refine bX5_value_2 ?_; simp (disch := first | omega | decide) only [w_nl0, w_nli, w_nlr, ↓w_ts1, ↓w_ts0, w_rcv, w_rfv, w_cs, true_and, and_true, List.length_nil, List.length_cons, Nat.reduceAdd, Nat.reduceLeDiff, Nat.zero_le, Nat.reduceLT, ↓w_nil, ix_nI, nI_leP, nI_ltP, nI_eqP, nI_1, ↓i_inN, i_inN, l_le, l_lt, l_eq, r_le, r_lt, r_eq, sh31, ↓w_iload_1, ↓w_bipush, ↓w_is, ↓pm_cl1_2, ↓w_ifeq, ↓w_iload_2, ↓w_aload_0, ↓w_gf3, ↓w_imul, ↓w_iadd, ↓w_iaload, ↓w_goto, ↓w_iconst, ↓w_ret, nI_m33, nI_add])
    | (with_reducible refine c_below (by omega) ?_; simp (disch := first | omega | decide) only [w_nl0, w_nli, w_nlr, ↓w_ts1, ↓w_ts0, w_rcv, w_rfv, w_cs, true_and, and_true, List.length_nil, List.length_cons, Nat.reduceAdd, Nat.reduceLeDiff, Nat.zero_le, Nat.reduceLT, ↓w_nil, ix_nI, nI_leP, nI_ltP, nI_eqP, nI_1, ↓i_inN, i_inN, l_le, l_lt, l_eq, r_le, r_lt, r_eq, sh31, ↓w_iload_1, ↓w_bipush, ↓w_is, ↓pm_cl1_2, ↓w_ifeq, ↓w_iload_2, ↓w_aload_0, ↓w_gf3, ↓w_imul, ↓w_iadd, ↓w_iaload, ↓w_goto, ↓w_iconst, ↓w_ret, nI_m33, nI_add])
    | (simp only [w_in])
    | (intro _))
  all_goals grind
def rfS (I : pm_MI) (t : Nat) (day known : Int32) (k : Nat) (a : Int32 × Int32) : Int32 × Int32 := if I 32 k ≤ known ∧ I 33 k ≤ day ∧ (¬ I 34 (33 * k + t) = -1) ∧ a.2 ≤ I 33 k then (nI k, I 33 k) else a
def rfV (I : pm_MI) (t : Nat) (day known : Int32) (n : Nat) : Int32 := (itr (rfS I t day known) (-9, -1) n).1
theorem rfV_or (t : Nat) (day known : Int32) (n : Nat) : rfV I t day known n = -9 ∨ ∃ k, k < n ∧ rfV I t day known n = nI k := by
  unfold rfV
  refine itr_inv (fun n (a : Int32 × Int32) => a.1 = -9 ∨ ∃ k, k < n ∧ a.1 = nI k) (Or.inl rfl) (fun k hk b hb => ?_)
  unfold rfS
  split
  · exact Or.inr ⟨k, by omega, rfl⟩
  · rcases hb with hb | ⟨j, h1, h2⟩
    · exact Or.inl hb
    · exact Or.inr ⟨j, by omega, h2⟩
theorem c_ruleFor {t n : Nat} {x day known : Int32} (hd : 3 ≤ d) (hn : I 31 5 = nI n) (hn24 : n ≤ 24) (hx : x = nI t) (ht : t < 33) (hQ : Q (some (.int (rfV I t day known n))) SH I J) : pm_C g d 59 [.ref 31, .int x, .int day, .int known] Q SH I J := by
  unfold rfV at hQ
  refine eX5_ruleFor (by omega) ?_
  refine bX5_ruleFor_0 ?_
  simp (disch := first | omega | decide) only [w_nl0, w_nli, w_nlr, ↓w_ts1, ↓w_ts0, w_rcv, w_rfv, w_cs, true_and, and_true, List.length_nil, List.length_cons, Nat.reduceAdd, Nat.reduceLeDiff, Nat.zero_le, Nat.reduceLT, ↓w_nil, ix_nI, nI_leP, nI_ltP, nI_eqP, nI_1, ↓i_inN, i_inN, l_le, l_lt, l_eq, r_le, r_lt, r_eq, sh31, ↓w_bipush, ↓w_istore_4, ↓w_iconst, ↓w_istore_5, ↓w_istore_6]
  refine pm_for (f := rfS I t day known) (U := fun k (a : Int32 × Int32) => UU g (d - 1) 59 kX5_ruleFor (pm_rm d 59) Q 1 [some (.ref 31), some (.int x), some (.int day), some (.int known), some (.int a.1), some (.int a.2), some (.int (nI k)), none] [] SH I J (0, 0)) n (a := (-9, -1)) (fun k b hk hb w => ?_) ?_
  · unfold rfS at w
    generalize hf : (if I 32 k ≤ known ∧ I 33 k ≤ day ∧ (¬ I 34 (33 * k + t) = -1) ∧ b.2 ≤ I 33 k then (nI k, I 33 k) else b) = c at w
    obtain ⟨c1, c2⟩ := c
    obtain ⟨b1, b2⟩ := b
    replace w := fun z => u_less (ls := [some (.ref 31), some (.int x), some (.int day), some (.int known), some (.int c1), some (.int c2), some (.int (nI (k + 1))), some (.int z)]) _ (by simp [pm_le]) w
    clear hb
    refine bX5_ruleFor_1 ?_
    simp (disch := first | omega | decide) only [w_nl0, w_nli, w_nlr, ↓w_ts1, ↓w_ts0, w_rcv, w_rfv, w_cs, true_and, and_true, List.length_nil, List.length_cons, Nat.reduceAdd, Nat.reduceLeDiff, Nat.zero_le, Nat.reduceLT, ↓w_nil, ix_nI, nI_leP, nI_ltP, nI_eqP, nI_1, ↓i_inN, i_inN, l_le, l_lt, l_eq, r_le, r_lt, r_eq, sh31, ↓w_iload_6, ↓w_aload_0, ↓w_gf0, ↓w_icge, ↓w_gf3, ↓w_iaload, ↓w_iload_3, ↓w_icgt, ↓w_iload_2, ↓w_iload_1, ↓w_iv, ↓pm_cl2_3, ↓w_iconst, ↓w_iceq, ↓w_goto, hn]
    repeat' (first
      | (apply And.intro)
      | (with_reducible refine bX5_ruleFor_2 ?_; simp (disch := first | omega | decide) only [w_nl0, w_nli, w_nlr, ↓w_ts1, ↓w_ts0, w_rcv, w_rfv, w_cs, true_and, and_true, List.length_nil, List.length_cons, Nat.reduceAdd, Nat.reduceLeDiff, Nat.zero_le, Nat.reduceLT, ↓w_nil, ix_nI, nI_leP, nI_ltP, nI_eqP, nI_1, ↓i_inN, i_inN, l_le, l_lt, l_eq, r_le, r_lt, r_eq, sh31, ↓w_bipush, ↓w_istore_4, ↓w_iconst, ↓w_istore_5, ↓w_istore_6, ↓w_iload_6, ↓w_aload_0, ↓w_gf0, ↓w_icge, ↓w_gf3, ↓w_iaload, ↓w_iload_3, ↓w_icgt, ↓w_iload_2, ↓w_iload_1, ↓w_iv, ↓pm_cl2_3, ↓w_iceq, ↓w_goto, ↓w_istore_7, ↓w_iload_7, ↓w_ifeq, ↓w_iload_5, ↓w_iclt, ↓w_iinc_6, ↓w_iload_4, ↓w_ret])
      | (with_reducible refine bX5_ruleFor_3 ?_; simp (disch := first | omega | decide) only [w_nl0, w_nli, w_nlr, ↓w_ts1, ↓w_ts0, w_rcv, w_rfv, w_cs, true_and, and_true, List.length_nil, List.length_cons, Nat.reduceAdd, Nat.reduceLeDiff, Nat.zero_le, Nat.reduceLT, ↓w_nil, ix_nI, nI_leP, nI_ltP, nI_eqP, nI_1, ↓i_inN, i_inN, l_le, l_lt, l_eq, r_le, r_lt, r_eq, sh31, ↓w_bipush, ↓w_istore_4, ↓w_iconst, ↓w_istore_5, ↓w_istore_6, ↓w_iload_6, ↓w_aload_0, ↓w_gf0, ↓w_icge, ↓w_gf3, ↓w_iaload, ↓w_iload_3, ↓w_icgt, ↓w_iload_2, ↓w_iload_1, ↓w_iv, ↓pm_cl2_3, ↓w_iceq, ↓w_goto, ↓w_istore_7, ↓w_iload_7, ↓w_ifeq, ↓w_iload_5, ↓w_iclt, ↓w_iinc_6, ↓w_iload_4, ↓w_ret])
      | (with_reducible refine bX5_ruleFor_4 ?_; simp (disch := first | omega | decide) only [w_nl0, w_nli, w_nlr, ↓w_ts1, ↓w_ts0, w_rcv, w_rfv, w_cs, true_and, and_true, List.length_nil, List.length_cons, Nat.reduceAdd, Nat.reduceLeDiff, Nat.zero_le, Nat.reduceLT, ↓w_nil, ix_nI, nI_leP, nI_ltP, nI_eqP, nI_1, ↓i_inN, i_inN, l_le, l_lt, l_eq, r_le, r_lt, r_eq, sh31, ↓w_bipush, ↓w_istore_4, ↓w_iconst, ↓w_istore_5, ↓w_istore_6, ↓w_iload_6, ↓w_aload_0, ↓w_gf0, ↓w_icge, ↓w_gf3, ↓w_iaload, ↓w_iload_3, ↓w_icgt, ↓w_iload_2, ↓w_iload_1, ↓w_iv, ↓pm_cl2_3, ↓w_iceq, ↓w_goto, ↓w_istore_7, ↓w_iload_7, ↓w_ifeq, ↓w_iload_5, ↓w_iclt, ↓w_iinc_6, ↓w_iload_4, ↓w_ret])
      | (with_reducible refine c_value (by omega) (by omega) hx ht ?_; simp (disch := first | omega | decide) only [w_nl0, w_nli, w_nlr, ↓w_ts1, ↓w_ts0, w_rcv, w_rfv, w_cs, true_and, and_true, List.length_nil, List.length_cons, Nat.reduceAdd, Nat.reduceLeDiff, Nat.zero_le, Nat.reduceLT, ↓w_nil, ix_nI, nI_leP, nI_ltP, nI_eqP, nI_1, ↓i_inN, i_inN, l_le, l_lt, l_eq, r_le, r_lt, r_eq, sh31, ↓w_bipush, ↓w_istore_4, ↓w_iconst, ↓w_istore_5, ↓w_istore_6, ↓w_iload_6, ↓w_aload_0, ↓w_gf0, ↓w_icge, ↓w_gf3, ↓w_iaload, ↓w_iload_3, ↓w_icgt, ↓w_iload_2, ↓w_iload_1, ↓w_iv, ↓pm_cl2_3, ↓w_iceq, ↓w_goto, ↓w_istore_7, ↓w_iload_7, ↓w_ifeq, ↓w_iload_5, ↓w_iclt, ↓w_iinc_6, ↓w_iload_4, ↓w_ret])
      | (simp only [w_in])
      | (intro _))
    all_goals grind
  · refine bX5_ruleFor_1 ?_
    simp (disch := first | omega | decide) only [w_nl0, w_nli, w_nlr, ↓w_ts1, ↓w_ts0, w_rcv, w_rfv, w_cs, true_and, and_true, List.length_nil, List.length_cons, Nat.reduceAdd, Nat.reduceLeDiff, Nat.zero_le, Nat.reduceLT, ↓w_nil, ix_nI, nI_leP, nI_ltP, nI_eqP, nI_1, ↓i_inN, i_inN, l_le, l_lt, l_eq, r_le, r_lt, r_eq, sh31, ↓w_iload_6, ↓w_aload_0, ↓w_gf0, ↓w_icge, ↓w_gf3, ↓w_iaload, ↓w_iload_3, ↓w_icgt, ↓w_iload_2, ↓w_iload_1, ↓w_iv, ↓pm_cl2_3, ↓w_iconst, ↓w_iceq, ↓w_goto, hn]
    repeat' (first
      | (apply And.intro)
      | (with_reducible refine bX5_ruleFor_5 ?_; simp (disch := first | omega | decide) only [w_nl0, w_nli, w_nlr, ↓w_ts1, ↓w_ts0, w_rcv, w_rfv, w_cs, true_and, and_true, List.length_nil, List.length_cons, Nat.reduceAdd, Nat.reduceLeDiff, Nat.zero_le, Nat.reduceLT, ↓w_nil, ix_nI, nI_leP, nI_ltP, nI_eqP, nI_1, ↓i_inN, i_inN, l_le, l_lt, l_eq, r_le, r_lt, r_eq, sh31, ↓w_bipush, ↓w_istore_4, ↓w_iconst, ↓w_istore_5, ↓w_istore_6, ↓w_iload_6, ↓w_aload_0, ↓w_gf0, ↓w_icge, ↓w_gf3, ↓w_iaload, ↓w_iload_3, ↓w_icgt, ↓w_iload_2, ↓w_iload_1, ↓w_iv, ↓pm_cl2_3, ↓w_iceq, ↓w_goto, ↓w_istore_7, ↓w_iload_7, ↓w_ifeq, ↓w_iload_5, ↓w_iclt, ↓w_iinc_6, ↓w_iload_4, ↓w_ret])
      | (simp only [w_in])
      | (intro _))
    all_goals grind
def ifV (I : pm_MI) (t : Nat) (day known : Int32) (n : Nat) : Int32 := if rfV I t day known n = -9 then unrV (nI t) else I 34 (33 * (rfV I t day known n).toNatClampNeg + t)
theorem c_inForce {t n : Nat} {x day known : Int32} (hd : 4 ≤ d) (hn : I 31 5 = nI n) (hn24 : n ≤ 24) (hx : x = nI t) (ht : t < 33) (hQ : Q (some (.int (ifV I t day known n))) SH I J) : pm_C g d 60 [.ref 31, .int x, .int day, .int known] Q SH I J := by
  unfold ifV at hQ
  refine eX5_inForce (by omega) ?_
  rcases rfV_or (I := I) t day known n with h9 | ⟨j, hj, h9⟩
  · rw [if_pos h9] at hQ
    repeat' (first
      | (apply And.intro)
      | (with_reducible refine bX5_inForce_0 ?_; simp (disch := first | omega | decide) only [w_nl0, w_nli, w_nlr, ↓w_ts1, ↓w_ts0, w_rcv, w_rfv, w_cs, true_and, and_true, List.length_nil, List.length_cons, Nat.reduceAdd, Nat.reduceLeDiff, Nat.zero_le, Nat.reduceLT, ↓w_nil, ix_nI, nI_leP, nI_ltP, nI_eqP, nI_1, ↓i_inN, i_inN, l_le, l_lt, l_eq, r_le, r_lt, r_eq, sh31, ↓w_aload_0, ↓w_iload_1, ↓w_iload_2, ↓w_iload_3, ↓w_iv, ↓pm_cl2_4, ↓w_istore_4, ↓w_iload_4, ↓w_bipush, ↓w_icne, ↓w_is, ↓pm_cl1_1, ↓w_goto, ↓pm_cl2_3, ↓w_ret])
      | (with_reducible refine bX5_inForce_1 ?_; simp (disch := first | omega | decide) only [w_nl0, w_nli, w_nlr, ↓w_ts1, ↓w_ts0, w_rcv, w_rfv, w_cs, true_and, and_true, List.length_nil, List.length_cons, Nat.reduceAdd, Nat.reduceLeDiff, Nat.zero_le, Nat.reduceLT, ↓w_nil, ix_nI, nI_leP, nI_ltP, nI_eqP, nI_1, ↓i_inN, i_inN, l_le, l_lt, l_eq, r_le, r_lt, r_eq, sh31, ↓w_aload_0, ↓w_iload_1, ↓w_iload_2, ↓w_iload_3, ↓w_iv, ↓pm_cl2_4, ↓w_istore_4, ↓w_iload_4, ↓w_bipush, ↓w_icne, ↓w_is, ↓pm_cl1_1, ↓w_goto, ↓pm_cl2_3, ↓w_ret])
      | (with_reducible refine bX5_inForce_2 ?_; simp (disch := first | omega | decide) only [w_nl0, w_nli, w_nlr, ↓w_ts1, ↓w_ts0, w_rcv, w_rfv, w_cs, true_and, and_true, List.length_nil, List.length_cons, Nat.reduceAdd, Nat.reduceLeDiff, Nat.zero_le, Nat.reduceLT, ↓w_nil, ix_nI, nI_leP, nI_ltP, nI_eqP, nI_1, ↓i_inN, i_inN, l_le, l_lt, l_eq, r_le, r_lt, r_eq, sh31, ↓w_aload_0, ↓w_iload_1, ↓w_iload_2, ↓w_iload_3, ↓w_iv, ↓pm_cl2_4, ↓w_istore_4, ↓w_iload_4, ↓w_bipush, ↓w_icne, ↓w_is, ↓pm_cl1_1, ↓w_goto, ↓pm_cl2_3, ↓w_ret])
      | (with_reducible refine c_ruleFor (by omega) hn hn24 hx ht ?_; simp (disch := first | omega | decide) only [w_nl0, w_nli, w_nlr, ↓w_ts1, ↓w_ts0, w_rcv, w_rfv, w_cs, true_and, and_true, List.length_nil, List.length_cons, Nat.reduceAdd, Nat.reduceLeDiff, Nat.zero_le, Nat.reduceLT, ↓w_nil, ix_nI, nI_leP, nI_ltP, nI_eqP, nI_1, ↓i_inN, i_inN, l_le, l_lt, l_eq, r_le, r_lt, r_eq, sh31, ↓w_aload_0, ↓w_iload_1, ↓w_iload_2, ↓w_iload_3, ↓w_iv, ↓pm_cl2_4, ↓w_istore_4, ↓w_iload_4, ↓w_bipush, ↓w_icne, ↓w_is, ↓pm_cl1_1, ↓w_goto, ↓pm_cl2_3, ↓w_ret])
      | (with_reducible refine c_unruled (by omega) ?_; simp (disch := first | omega | decide) only [w_nl0, w_nli, w_nlr, ↓w_ts1, ↓w_ts0, w_rcv, w_rfv, w_cs, true_and, and_true, List.length_nil, List.length_cons, Nat.reduceAdd, Nat.reduceLeDiff, Nat.zero_le, Nat.reduceLT, ↓w_nil, ix_nI, nI_leP, nI_ltP, nI_eqP, nI_1, ↓i_inN, i_inN, l_le, l_lt, l_eq, r_le, r_lt, r_eq, sh31, ↓w_aload_0, ↓w_iload_1, ↓w_iload_2, ↓w_iload_3, ↓w_iv, ↓pm_cl2_4, ↓w_istore_4, ↓w_iload_4, ↓w_bipush, ↓w_icne, ↓w_is, ↓pm_cl1_1, ↓w_goto, ↓pm_cl2_3, ↓w_ret])
      | (simp only [w_in])
      | (intro _))
    all_goals grind
  · have hne : ¬ nI j = -9 := fun e => by
      have h0 : (0 : Int32) ≤ nI j := nI_pos' (by omega)
      rw [e] at h0
      exact absurd h0 (by decide)
    rw [h9, if_neg hne, ix_nI (by omega)] at hQ
    repeat' (first
      | (apply And.intro)
      | (with_reducible refine bX5_inForce_0 ?_; simp (disch := first | omega | decide) only [w_nl0, w_nli, w_nlr, ↓w_ts1, ↓w_ts0, w_rcv, w_rfv, w_cs, true_and, and_true, List.length_nil, List.length_cons, Nat.reduceAdd, Nat.reduceLeDiff, Nat.zero_le, Nat.reduceLT, ↓w_nil, ix_nI, nI_leP, nI_ltP, nI_eqP, nI_1, ↓i_inN, i_inN, l_le, l_lt, l_eq, r_le, r_lt, r_eq, sh31, ↓w_aload_0, ↓w_iload_1, ↓w_iload_2, ↓w_iload_3, ↓w_iv, ↓pm_cl2_4, ↓w_istore_4, ↓w_iload_4, ↓w_bipush, ↓w_icne, ↓w_is, ↓pm_cl1_1, ↓w_goto, ↓pm_cl2_3, ↓w_ret, h9])
      | (with_reducible refine bX5_inForce_1 ?_; simp (disch := first | omega | decide) only [w_nl0, w_nli, w_nlr, ↓w_ts1, ↓w_ts0, w_rcv, w_rfv, w_cs, true_and, and_true, List.length_nil, List.length_cons, Nat.reduceAdd, Nat.reduceLeDiff, Nat.zero_le, Nat.reduceLT, ↓w_nil, ix_nI, nI_leP, nI_ltP, nI_eqP, nI_1, ↓i_inN, i_inN, l_le, l_lt, l_eq, r_le, r_lt, r_eq, sh31, ↓w_aload_0, ↓w_iload_1, ↓w_iload_2, ↓w_iload_3, ↓w_iv, ↓pm_cl2_4, ↓w_istore_4, ↓w_iload_4, ↓w_bipush, ↓w_icne, ↓w_is, ↓pm_cl1_1, ↓w_goto, ↓pm_cl2_3, ↓w_ret, h9])
      | (with_reducible refine bX5_inForce_2 ?_; simp (disch := first | omega | decide) only [w_nl0, w_nli, w_nlr, ↓w_ts1, ↓w_ts0, w_rcv, w_rfv, w_cs, true_and, and_true, List.length_nil, List.length_cons, Nat.reduceAdd, Nat.reduceLeDiff, Nat.zero_le, Nat.reduceLT, ↓w_nil, ix_nI, nI_leP, nI_ltP, nI_eqP, nI_1, ↓i_inN, i_inN, l_le, l_lt, l_eq, r_le, r_lt, r_eq, sh31, ↓w_aload_0, ↓w_iload_1, ↓w_iload_2, ↓w_iload_3, ↓w_iv, ↓pm_cl2_4, ↓w_istore_4, ↓w_iload_4, ↓w_bipush, ↓w_icne, ↓w_is, ↓pm_cl1_1, ↓w_goto, ↓pm_cl2_3, ↓w_ret, h9])
      | (with_reducible refine c_ruleFor (by omega) hn hn24 hx ht ?_; simp (disch := first | omega | decide) only [w_nl0, w_nli, w_nlr, ↓w_ts1, ↓w_ts0, w_rcv, w_rfv, w_cs, true_and, and_true, List.length_nil, List.length_cons, Nat.reduceAdd, Nat.reduceLeDiff, Nat.zero_le, Nat.reduceLT, ↓w_nil, ix_nI, nI_leP, nI_ltP, nI_eqP, nI_1, ↓i_inN, i_inN, l_le, l_lt, l_eq, r_le, r_lt, r_eq, sh31, ↓w_aload_0, ↓w_iload_1, ↓w_iload_2, ↓w_iload_3, ↓w_iv, ↓pm_cl2_4, ↓w_istore_4, ↓w_iload_4, ↓w_bipush, ↓w_icne, ↓w_is, ↓pm_cl1_1, ↓w_goto, ↓pm_cl2_3, ↓w_ret, h9])
      | (with_reducible refine c_value (by omega) (by omega) hx ht ?_; simp (disch := first | omega | decide) only [w_nl0, w_nli, w_nlr, ↓w_ts1, ↓w_ts0, w_rcv, w_rfv, w_cs, true_and, and_true, List.length_nil, List.length_cons, Nat.reduceAdd, Nat.reduceLeDiff, Nat.zero_le, Nat.reduceLT, ↓w_nil, ix_nI, nI_leP, nI_ltP, nI_eqP, nI_1, ↓i_inN, i_inN, l_le, l_lt, l_eq, r_le, r_lt, r_eq, sh31, ↓w_aload_0, ↓w_iload_1, ↓w_iload_2, ↓w_iload_3, ↓w_iv, ↓pm_cl2_4, ↓w_istore_4, ↓w_iload_4, ↓w_bipush, ↓w_icne, ↓w_is, ↓pm_cl1_1, ↓w_goto, ↓pm_cl2_3, ↓w_ret, h9])
      | (simp only [w_in])
      | (intro _))
    all_goals grind
theorem c_Ru_make {n : Nat} {day fr : Int32} (hd : 1 ≤ d) (hn : I 31 5 = nI n) (hn24 : n < 24) (hQ : Q (some (.int (nI n))) SH (pm_up (itr (fun k (M : pm_MI) => pm_up M 34 (33 * n + k) (I 35 k)) (pm_up (pm_up I 32 n day) 33 n fr) 33) 31 5 (nI (n + 1))) J) : pm_C g d 62 [.ref 31, .int day, .int fr] Q SH I J := by
  have hz : ∀ k, (itr (fun k (M : pm_MI) => pm_up M 34 (33 * n + k) (I 35 k)) (pm_up (pm_up I 32 n day) 33 n fr) k : pm_MI) 35 = I 35 := fun k => itr_inv (fun (_ : Nat) (M : pm_MI) => M 35 = I 35) (by simp [pm_up]) (fun k _ b h => by simp [pm_up, h])
  refine eX5_make (by omega) ?_
  repeat' (first
    | (apply And.intro)
    | (with_reducible refine bX5_make_0 ?_; simp (disch := first | omega | decide) only [w_nl0, w_nli, w_nlr, ↓w_ts1, ↓w_ts0, w_rcv, w_rfv, w_cs, true_and, and_true, List.length_nil, List.length_cons, Nat.reduceAdd, Nat.reduceLeDiff, Nat.zero_le, Nat.reduceLT, ↓w_nil, ix_nI, nI_leP, nI_ltP, nI_eqP, nI_1, ↓i_inN, i_inN, l_le, l_lt, l_eq, r_le, r_lt, r_eq, sh31, ↓w_aload_0, ↓w_gf0, ↓w_istore_3, ↓w_iload_3, ↓w_iflt, ↓w_bipush, ↓w_iclt, ↓w_ret, ↓w_gf3, ↓w_iload_1, ↓w_iastore, ↓w_iload_2, ↓w_iconst, ↓w_istore_4, ↓w_iload_4, ↓w_icge, ↓w_imul, ↓w_iadd, ↓w_iaload, ↓w_iinc_4, ↓w_goto, ↓w_pf0, hn])
    | (with_reducible refine bX5_make_1 ?_; simp (disch := first | omega | decide) only [w_nl0, w_nli, w_nlr, ↓w_ts1, ↓w_ts0, w_rcv, w_rfv, w_cs, true_and, and_true, List.length_nil, List.length_cons, Nat.reduceAdd, Nat.reduceLeDiff, Nat.zero_le, Nat.reduceLT, ↓w_nil, ix_nI, nI_leP, nI_ltP, nI_eqP, nI_1, ↓i_inN, i_inN, l_le, l_lt, l_eq, r_le, r_lt, r_eq, sh31, ↓w_aload_0, ↓w_gf0, ↓w_istore_3, ↓w_iload_3, ↓w_iflt, ↓w_bipush, ↓w_iclt, ↓w_ret, ↓w_gf3, ↓w_iload_1, ↓w_iastore, ↓w_iload_2, ↓w_iconst, ↓w_istore_4, ↓w_iload_4, ↓w_icge, ↓w_imul, ↓w_iadd, ↓w_iaload, ↓w_iinc_4, ↓w_goto, ↓w_pf0, hn])
    | (with_reducible refine bX5_make_2 ?_; simp (disch := first | omega | decide) only [w_nl0, w_nli, w_nlr, ↓w_ts1, ↓w_ts0, w_rcv, w_rfv, w_cs, true_and, and_true, List.length_nil, List.length_cons, Nat.reduceAdd, Nat.reduceLeDiff, Nat.zero_le, Nat.reduceLT, ↓w_nil, ix_nI, nI_leP, nI_ltP, nI_eqP, nI_1, ↓i_inN, i_inN, l_le, l_lt, l_eq, r_le, r_lt, r_eq, sh31, ↓w_aload_0, ↓w_gf0, ↓w_istore_3, ↓w_iload_3, ↓w_iflt, ↓w_bipush, ↓w_iclt, ↓w_ret, ↓w_gf3, ↓w_iload_1, ↓w_iastore, ↓w_iload_2, ↓w_iconst, ↓w_istore_4, ↓w_iload_4, ↓w_icge, ↓w_imul, ↓w_iadd, ↓w_iaload, ↓w_iinc_4, ↓w_goto, ↓w_pf0, hn])
    | (simp only [w_in])
    | (intro _))
  all_goals try grind
  refine pm_for (f := fun k (M : pm_MI) => pm_up M 34 (33 * n + k) (I 35 k)) (U := fun k a => UU g (d - 1) 62 kX5_make (pm_rm d 62) Q 3 [some (.ref 31), some (.int day), some (.int fr), some (.int (nI n)), some (.int (nI k))] [] SH a J (0, 0)) 33 (fun k b hk hb w => ?_) ?_
  · have hz := hz k
    rw [← hb] at hz
    refine bX5_make_3 ?_
    simp (disch := first | omega | decide) only [w_nl0, w_nli, w_nlr, ↓w_ts1, ↓w_ts0, w_rcv, w_rfv, w_cs, true_and, and_true, List.length_nil, List.length_cons, Nat.reduceAdd, Nat.reduceLeDiff, Nat.zero_le, Nat.reduceLT, ↓w_nil, ix_nI, nI_leP, nI_ltP, nI_eqP, nI_1, ↓i_inN, i_inN, l_le, l_lt, l_eq, r_le, r_lt, r_eq, sh31, ↓w_iload_4, ↓w_bipush, ↓w_icge, ↓w_aload_0, ↓w_gf3, ↓w_iload_3, ↓w_imul, ↓w_iadd, ↓w_iaload, ↓w_iastore, ↓w_iinc_4, ↓w_goto, hz, nI_m33, nI_add]
    repeat' (first
      | (apply And.intro)
      | (simp only [w_in])
      | (intro _))
    all_goals grind
  · refine bX5_make_3 ?_
    simp (disch := first | omega | decide) only [w_nl0, w_nli, w_nlr, ↓w_ts1, ↓w_ts0, w_rcv, w_rfv, w_cs, true_and, and_true, List.length_nil, List.length_cons, Nat.reduceAdd, Nat.reduceLeDiff, Nat.zero_le, Nat.reduceLT, ↓w_nil, ix_nI, nI_leP, nI_ltP, nI_eqP, nI_1, ↓i_inN, i_inN, l_le, l_lt, l_eq, r_le, r_lt, r_eq, sh31, ↓w_iload_4, ↓w_bipush, ↓w_icge, ↓w_aload_0, ↓w_gf3, ↓w_iload_3, ↓w_imul, ↓w_iadd, ↓w_iaload, ↓w_iastore, ↓w_iinc_4, ↓w_goto]
    repeat' (first
      | (apply And.intro)
      | (with_reducible refine bX5_make_4 ?_; simp (disch := first | omega | decide) only [w_nl0, w_nli, w_nlr, ↓w_ts1, ↓w_ts0, w_rcv, w_rfv, w_cs, true_and, and_true, List.length_nil, List.length_cons, Nat.reduceAdd, Nat.reduceLeDiff, Nat.zero_le, Nat.reduceLT, ↓w_nil, ix_nI, nI_leP, nI_ltP, nI_eqP, nI_1, ↓i_inN, i_inN, l_le, l_lt, l_eq, r_le, r_lt, r_eq, sh31, ↓w_aload_0, ↓w_gf0, ↓w_istore_3, ↓w_iload_3, ↓w_iflt, ↓w_bipush, ↓w_iclt, ↓w_ret, ↓w_gf3, ↓w_iload_1, ↓w_iastore, ↓w_iload_2, ↓w_iconst, ↓w_istore_4, ↓w_iload_4, ↓w_icge, ↓w_imul, ↓w_iadd, ↓w_iaload, ↓w_iinc_4, ↓w_goto, ↓w_pf0])
      | (simp only [w_in])
      | (intro _))
    all_goals grind
theorem c_Ru_mix {h : Int64} {y : Int32} {n : Nat} (hd : 5 ≤ d) (hn : I 31 5 = nI n) (hn24 : n ≤ 24) (hQ : Q (some (.long (itr (fun l h => 31 * (31 * h + (ifV I (17 + l) y y n).toInt64) + (ifV I (25 + l) y y n).toInt64) (31 * (itr (fun k h => 31 * (31 * h + (I 32 k).toInt64) + (I 33 k).toInt64) h n) + (ifV I 16 y y n).toInt64) 8))) SH I J) : pm_C g d 71 [.ref 31, .long h, .int y] Q SH I J := by
  refine eX5_mix (by omega) ?_
  refine bX5_mix_0 ?_
  simp (disch := first | omega | decide) only [w_nl0, w_nli, w_nlr, ↓w_ts1, ↓w_ts0, w_rcv, w_rfv, w_cs, true_and, and_true, List.length_nil, List.length_cons, Nat.reduceAdd, Nat.reduceLeDiff, Nat.zero_le, Nat.reduceLT, ↓w_nil, ix_nI, nI_leP, nI_ltP, nI_eqP, nI_1, ↓i_inN, i_inN, l_le, l_lt, l_eq, r_le, r_lt, r_eq, sh31, ↓w_iconst, ↓w_istore_4]
  refine pm_for (f := fun k h => 31 * (31 * h + (I 32 k).toInt64) + (I 33 k).toInt64) (U := fun k a => UU g (d - 1) 71 kX5_mix (pm_rm d 71) Q 1 [some (.ref 31), some (.long a), none, some (.int y), some (.int (nI k))] [] SH I J (0, 0)) n (fun k b hk hb w => ?_) ?_
  · refine bX5_mix_1 ?_
    simp (disch := first | omega | decide) only [w_nl0, w_nli, w_nlr, ↓w_ts1, ↓w_ts0, w_rcv, w_rfv, w_cs, true_and, and_true, List.length_nil, List.length_cons, Nat.reduceAdd, Nat.reduceLeDiff, Nat.zero_le, Nat.reduceLT, ↓w_nil, ix_nI, nI_leP, nI_ltP, nI_eqP, nI_1, ↓i_inN, i_inN, l_le, l_lt, l_eq, r_le, r_lt, r_eq, sh31, ↓w_iload_4, ↓w_aload_0, ↓w_gf0, ↓w_icge, ↓w_ldc2_12, ↓w_lload_1, ↓w_lmul, ↓w_gf3, ↓w_iaload, ↓w_i2l, ↓w_ladd, ↓w_lstore_1, ↓w_iinc_4, ↓w_goto, hn]
    repeat' (first
      | (apply And.intro)
      | (simp only [w_in])
      | (intro _))
    all_goals grind
  · refine bX5_mix_1 ?_
    simp (disch := first | omega | decide) only [w_nl0, w_nli, w_nlr, ↓w_ts1, ↓w_ts0, w_rcv, w_rfv, w_cs, true_and, and_true, List.length_nil, List.length_cons, Nat.reduceAdd, Nat.reduceLeDiff, Nat.zero_le, Nat.reduceLT, ↓w_nil, ix_nI, nI_leP, nI_ltP, nI_eqP, nI_1, ↓i_inN, i_inN, l_le, l_lt, l_eq, r_le, r_lt, r_eq, sh31, ↓w_iload_4, ↓w_aload_0, ↓w_gf0, ↓w_icge, ↓w_ldc2_12, ↓w_lload_1, ↓w_lmul, ↓w_gf3, ↓w_iaload, ↓w_i2l, ↓w_ladd, ↓w_lstore_1, ↓w_iinc_4, ↓w_goto, hn]
    repeat' (first
      | (apply And.intro)
      | (with_reducible refine bX5_mix_2 ?_; simp (disch := first | omega | decide) only [w_nl0, w_nli, w_nlr, ↓w_ts1, ↓w_ts0, w_rcv, w_rfv, w_cs, true_and, and_true, List.length_nil, List.length_cons, Nat.reduceAdd, Nat.reduceLeDiff, Nat.zero_le, Nat.reduceLT, ↓w_nil, ix_nI, nI_leP, nI_ltP, nI_eqP, nI_1, ↓i_inN, i_inN, l_le, l_lt, l_eq, r_le, r_lt, r_eq, sh31, ↓w_iconst, ↓w_istore_4, ↓w_iload_4, ↓w_aload_0, ↓w_gf0, ↓w_icge, ↓w_ldc2_12, ↓w_lload_1, ↓w_lmul, ↓w_gf3, ↓w_iaload, ↓w_i2l, ↓w_ladd, ↓w_lstore_1, ↓w_iinc_4, ↓w_goto, ↓w_bipush, ↓w_iload_3, ↓w_iv, ↓pm_cl2_4, ↓w_is, ↓pm_cl1_1, ↓w_lret])
      | (with_reducible refine c_inForce (t := 16) (by omega) hn hn24 rfl (by omega) ?_; simp (disch := first | omega | decide) only [w_nl0, w_nli, w_nlr, ↓w_ts1, ↓w_ts0, w_rcv, w_rfv, w_cs, true_and, and_true, List.length_nil, List.length_cons, Nat.reduceAdd, Nat.reduceLeDiff, Nat.zero_le, Nat.reduceLT, ↓w_nil, ix_nI, nI_leP, nI_ltP, nI_eqP, nI_1, ↓i_inN, i_inN, l_le, l_lt, l_eq, r_le, r_lt, r_eq, sh31, ↓w_iconst, ↓w_istore_4, ↓w_iload_4, ↓w_aload_0, ↓w_gf0, ↓w_icge, ↓w_ldc2_12, ↓w_lload_1, ↓w_lmul, ↓w_gf3, ↓w_iaload, ↓w_i2l, ↓w_ladd, ↓w_lstore_1, ↓w_iinc_4, ↓w_goto, ↓w_bipush, ↓w_iload_3, ↓w_iv, ↓pm_cl2_4, ↓w_is, ↓pm_cl1_1, ↓w_lret])
      | (simp only [w_in])
      | (intro _))
    all_goals try grind
    refine pm_for (f := fun l h => 31 * (31 * h + (ifV I (17 + l) y y n).toInt64) + (ifV I (25 + l) y y n).toInt64) (U := fun k a => UU g (d - 1) 71 kX5_mix (pm_rm d 71) Q 3 [some (.ref 31), some (.long a), none, some (.int y), some (.int (nI k))] [] SH I J (0, 0)) 8 (fun k b hk hb w => ?_) ?_
    · have e1 : 17 + nI k = nI (17 + k) := nI_add 17 k
      have e2 : 25 + nI k = nI (25 + k) := nI_add 25 k
      refine bX5_mix_3 ?_
      simp (disch := first | omega | decide) only [w_nl0, w_nli, w_nlr, ↓w_ts1, ↓w_ts0, w_rcv, w_rfv, w_cs, true_and, and_true, List.length_nil, List.length_cons, Nat.reduceAdd, Nat.reduceLeDiff, Nat.zero_le, Nat.reduceLT, ↓w_nil, ix_nI, nI_leP, nI_ltP, nI_eqP, nI_1, ↓i_inN, i_inN, l_le, l_lt, l_eq, r_le, r_lt, r_eq, sh31, ↓w_iload_4, ↓w_bipush, ↓w_icge, ↓w_ldc2_12, ↓w_lload_1, ↓w_lmul, ↓w_aload_0, ↓w_is, ↓pm_cl1_1, ↓w_iload_3, ↓w_iv, ↓pm_cl2_4, ↓w_i2l, ↓w_ladd, ↓w_lstore_1, ↓w_iinc_4, ↓w_goto]
      repeat' (first
        | (apply And.intro)
        | (with_reducible refine c_paying (by omega) ?_; simp (disch := first | omega | decide) only [w_nl0, w_nli, w_nlr, ↓w_ts1, ↓w_ts0, w_rcv, w_rfv, w_cs, true_and, and_true, List.length_nil, List.length_cons, Nat.reduceAdd, Nat.reduceLeDiff, Nat.zero_le, Nat.reduceLT, ↓w_nil, ix_nI, nI_leP, nI_ltP, nI_eqP, nI_1, ↓i_inN, i_inN, l_le, l_lt, l_eq, r_le, r_lt, r_eq, sh31, ↓w_iconst, ↓w_istore_4, ↓w_iload_4, ↓w_aload_0, ↓w_gf0, ↓w_icge, ↓w_ldc2_12, ↓w_lload_1, ↓w_lmul, ↓w_gf3, ↓w_iaload, ↓w_i2l, ↓w_ladd, ↓w_lstore_1, ↓w_iinc_4, ↓w_goto, ↓w_bipush, ↓w_iload_3, ↓w_iv, ↓pm_cl2_4, ↓w_is, ↓pm_cl1_1, ↓w_lret])
        | (with_reducible refine c_selling (by omega) ?_; simp (disch := first | omega | decide) only [w_nl0, w_nli, w_nlr, ↓w_ts1, ↓w_ts0, w_rcv, w_rfv, w_cs, true_and, and_true, List.length_nil, List.length_cons, Nat.reduceAdd, Nat.reduceLeDiff, Nat.zero_le, Nat.reduceLT, ↓w_nil, ix_nI, nI_leP, nI_ltP, nI_eqP, nI_1, ↓i_inN, i_inN, l_le, l_lt, l_eq, r_le, r_lt, r_eq, sh31, ↓w_iconst, ↓w_istore_4, ↓w_iload_4, ↓w_aload_0, ↓w_gf0, ↓w_icge, ↓w_ldc2_12, ↓w_lload_1, ↓w_lmul, ↓w_gf3, ↓w_iaload, ↓w_i2l, ↓w_ladd, ↓w_lstore_1, ↓w_iinc_4, ↓w_goto, ↓w_bipush, ↓w_iload_3, ↓w_iv, ↓pm_cl2_4, ↓w_is, ↓pm_cl1_1, ↓w_lret])
        | (with_reducible refine c_inForce (t := 17 + k) (by omega) hn hn24 e1 (by omega) ?_; simp (disch := first | omega | decide) only [w_nl0, w_nli, w_nlr, ↓w_ts1, ↓w_ts0, w_rcv, w_rfv, w_cs, true_and, and_true, List.length_nil, List.length_cons, Nat.reduceAdd, Nat.reduceLeDiff, Nat.zero_le, Nat.reduceLT, ↓w_nil, ix_nI, nI_leP, nI_ltP, nI_eqP, nI_1, ↓i_inN, i_inN, l_le, l_lt, l_eq, r_le, r_lt, r_eq, sh31, ↓w_iconst, ↓w_istore_4, ↓w_iload_4, ↓w_aload_0, ↓w_gf0, ↓w_icge, ↓w_ldc2_12, ↓w_lload_1, ↓w_lmul, ↓w_gf3, ↓w_iaload, ↓w_i2l, ↓w_ladd, ↓w_lstore_1, ↓w_iinc_4, ↓w_goto, ↓w_bipush, ↓w_iload_3, ↓w_iv, ↓pm_cl2_4, ↓w_is, ↓pm_cl1_1, ↓w_lret])
        | (with_reducible refine c_inForce (t := 25 + k) (by omega) hn hn24 e2 (by omega) ?_; simp (disch := first | omega | decide) only [w_nl0, w_nli, w_nlr, ↓w_ts1, ↓w_ts0, w_rcv, w_rfv, w_cs, true_and, and_true, List.length_nil, List.length_cons, Nat.reduceAdd, Nat.reduceLeDiff, Nat.zero_le, Nat.reduceLT, ↓w_nil, ix_nI, nI_leP, nI_ltP, nI_eqP, nI_1, ↓i_inN, i_inN, l_le, l_lt, l_eq, r_le, r_lt, r_eq, sh31, ↓w_iconst, ↓w_istore_4, ↓w_iload_4, ↓w_aload_0, ↓w_gf0, ↓w_icge, ↓w_ldc2_12, ↓w_lload_1, ↓w_lmul, ↓w_gf3, ↓w_iaload, ↓w_i2l, ↓w_ladd, ↓w_lstore_1, ↓w_iinc_4, ↓w_goto, ↓w_bipush, ↓w_iload_3, ↓w_iv, ↓pm_cl2_4, ↓w_is, ↓pm_cl1_1, ↓w_lret])
        | (simp only [w_in])
        | (intro _))
      all_goals grind
    · refine bX5_mix_3 ?_
      simp (disch := first | omega | decide) only [w_nl0, w_nli, w_nlr, ↓w_ts1, ↓w_ts0, w_rcv, w_rfv, w_cs, true_and, and_true, List.length_nil, List.length_cons, Nat.reduceAdd, Nat.reduceLeDiff, Nat.zero_le, Nat.reduceLT, ↓w_nil, ix_nI, nI_leP, nI_ltP, nI_eqP, nI_1, ↓i_inN, i_inN, l_le, l_lt, l_eq, r_le, r_lt, r_eq, sh31, ↓w_iload_4, ↓w_bipush, ↓w_icge, ↓w_ldc2_12, ↓w_lload_1, ↓w_lmul, ↓w_aload_0, ↓w_is, ↓pm_cl1_1, ↓w_iload_3, ↓w_iv, ↓pm_cl2_4, ↓w_i2l, ↓w_ladd, ↓w_lstore_1, ↓w_iinc_4, ↓w_goto]
      repeat' (first
        | (apply And.intro)
        | (with_reducible refine bX5_mix_4 ?_; simp (disch := first | omega | decide) only [w_nl0, w_nli, w_nlr, ↓w_ts1, ↓w_ts0, w_rcv, w_rfv, w_cs, true_and, and_true, List.length_nil, List.length_cons, Nat.reduceAdd, Nat.reduceLeDiff, Nat.zero_le, Nat.reduceLT, ↓w_nil, ix_nI, nI_leP, nI_ltP, nI_eqP, nI_1, ↓i_inN, i_inN, l_le, l_lt, l_eq, r_le, r_lt, r_eq, sh31, ↓w_iconst, ↓w_istore_4, ↓w_iload_4, ↓w_aload_0, ↓w_gf0, ↓w_icge, ↓w_ldc2_12, ↓w_lload_1, ↓w_lmul, ↓w_gf3, ↓w_iaload, ↓w_i2l, ↓w_ladd, ↓w_lstore_1, ↓w_iinc_4, ↓w_goto, ↓w_bipush, ↓w_iload_3, ↓w_iv, ↓pm_cl2_4, ↓w_is, ↓pm_cl1_1, ↓w_lret])
        | (simp only [w_in])
        | (intro _))
      all_goals grind
-- orders, the plain ones
abbrev hasO (I : pm_MI) (m : Int32) : Prop := 0 ≤ m ∧ m < I 60 7 ∧ m < 9
theorem c_O_has {m : Int32} (hd : 1 ≤ d) (hQ : Q (some (.int (if hasO I m then 1 else 0))) SH I J) : pm_C g d 23 [.ref 60, .int m] Q SH I J := by
  refine eX1_has (by omega) ?_
  repeat' (first
    | (apply And.intro)
    | (with_reducible refine bX1_has_0 ?_; simp (disch := first | omega | decide) only [w_nl0, w_nli, w_nlr, ↓w_ts1, ↓w_ts0, w_rcv, w_rfv, w_cs, true_and, and_true, List.length_nil, List.length_cons, Nat.reduceAdd, Nat.reduceLeDiff, Nat.zero_le, Nat.reduceLT, ↓w_nil, ix_nI, nI_leP, nI_ltP, nI_eqP, nI_1, ↓i_inN, i_inN, l_le, l_lt, l_eq, r_le, r_lt, r_eq, sh60, ↓w_iload_1, ↓w_iflt, ↓w_aload_0, ↓w_gf0, ↓w_icge, ↓w_bipush, ↓w_iconst, ↓w_goto, ↓w_zret])
    | (with_reducible refine bX1_has_1 ?_; simp (disch := first | omega | decide) only [w_nl0, w_nli, w_nlr, ↓w_ts1, ↓w_ts0, w_rcv, w_rfv, w_cs, true_and, and_true, List.length_nil, List.length_cons, Nat.reduceAdd, Nat.reduceLeDiff, Nat.zero_le, Nat.reduceLT, ↓w_nil, ix_nI, nI_leP, nI_ltP, nI_eqP, nI_1, ↓i_inN, i_inN, l_le, l_lt, l_eq, r_le, r_lt, r_eq, sh60, ↓w_iload_1, ↓w_iflt, ↓w_aload_0, ↓w_gf0, ↓w_icge, ↓w_bipush, ↓w_iconst, ↓w_goto, ↓w_zret])
    | (with_reducible refine bX1_has_2 ?_; simp (disch := first | omega | decide) only [w_nl0, w_nli, w_nlr, ↓w_ts1, ↓w_ts0, w_rcv, w_rfv, w_cs, true_and, and_true, List.length_nil, List.length_cons, Nat.reduceAdd, Nat.reduceLeDiff, Nat.zero_le, Nat.reduceLT, ↓w_nil, ix_nI, nI_leP, nI_ltP, nI_eqP, nI_1, ↓i_inN, i_inN, l_le, l_lt, l_eq, r_le, r_lt, r_eq, sh60, ↓w_iload_1, ↓w_iflt, ↓w_aload_0, ↓w_gf0, ↓w_icge, ↓w_bipush, ↓w_iconst, ↓w_goto, ↓w_zret])
    | (simp only [w_in])
    | (intro _))
  all_goals grind
theorem c_pressOf {m : Int32} (hd : 2 ≤ d) (hQ : Q (some (.int (if hasO I m then I 65 m.toNatClampNeg else -9))) SH I J) : pm_C g d 25 [.ref 60, .int m] Q SH I J := by
  refine eX1_pressOf (by omega) ?_
  repeat' (first
    | (apply And.intro)
    | (with_reducible refine bX1_pressOf_0 ?_; simp (disch := first | omega | decide) only [w_nl0, w_nli, w_nlr, ↓w_ts1, ↓w_ts0, w_rcv, w_rfv, w_cs, true_and, and_true, List.length_nil, List.length_cons, Nat.reduceAdd, Nat.reduceLeDiff, Nat.zero_le, Nat.reduceLT, ↓w_nil, ix_nI, nI_leP, nI_ltP, nI_eqP, nI_1, ↓i_inN, i_inN, l_le, l_lt, l_eq, r_le, r_lt, r_eq, sh60, ↓w_aload_0, ↓w_iload_1, ↓w_iv, ↓pm_cl2_2, ↓w_ifeq, ↓w_gf3, ↓w_iaload, ↓w_goto, ↓w_bipush, ↓w_ret])
    | (with_reducible refine bX1_pressOf_1 ?_; simp (disch := first | omega | decide) only [w_nl0, w_nli, w_nlr, ↓w_ts1, ↓w_ts0, w_rcv, w_rfv, w_cs, true_and, and_true, List.length_nil, List.length_cons, Nat.reduceAdd, Nat.reduceLeDiff, Nat.zero_le, Nat.reduceLT, ↓w_nil, ix_nI, nI_leP, nI_ltP, nI_eqP, nI_1, ↓i_inN, i_inN, l_le, l_lt, l_eq, r_le, r_lt, r_eq, sh60, ↓w_aload_0, ↓w_iload_1, ↓w_iv, ↓pm_cl2_2, ↓w_ifeq, ↓w_gf3, ↓w_iaload, ↓w_goto, ↓w_bipush, ↓w_ret])
    | (with_reducible refine bX1_pressOf_2 ?_; simp (disch := first | omega | decide) only [w_nl0, w_nli, w_nlr, ↓w_ts1, ↓w_ts0, w_rcv, w_rfv, w_cs, true_and, and_true, List.length_nil, List.length_cons, Nat.reduceAdd, Nat.reduceLeDiff, Nat.zero_le, Nat.reduceLT, ↓w_nil, ix_nI, nI_leP, nI_ltP, nI_eqP, nI_1, ↓i_inN, i_inN, l_le, l_lt, l_eq, r_le, r_lt, r_eq, sh60, ↓w_aload_0, ↓w_iload_1, ↓w_iv, ↓pm_cl2_2, ↓w_ifeq, ↓w_gf3, ↓w_iaload, ↓w_goto, ↓w_bipush, ↓w_ret])
    | (with_reducible refine c_O_has (by omega) ?_; simp (disch := first | omega | decide) only [w_nl0, w_nli, w_nlr, ↓w_ts1, ↓w_ts0, w_rcv, w_rfv, w_cs, true_and, and_true, List.length_nil, List.length_cons, Nat.reduceAdd, Nat.reduceLeDiff, Nat.zero_le, Nat.reduceLT, ↓w_nil, ix_nI, nI_leP, nI_ltP, nI_eqP, nI_1, ↓i_inN, i_inN, l_le, l_lt, l_eq, r_le, r_lt, r_eq, sh60, ↓w_aload_0, ↓w_iload_1, ↓w_iv, ↓pm_cl2_2, ↓w_ifeq, ↓w_gf3, ↓w_iaload, ↓w_goto, ↓w_bipush, ↓w_ret])
    | (simp only [w_in])
    | (intro _))
  all_goals grind
theorem c_O_make {n : Nat} {c y : Int32} (hd : 1 ≤ d) (hn : I 60 7 = nI n) (hn9 : n < 9) (hQ : Q (some (.int (nI n))) SH (pm_up (pm_up (pm_up I 61 n c) 62 n y) 60 7 (nI (n + 1))) J) : pm_C g d 24 [.ref 60, .int c, .int y] Q SH I J := by
  refine eX1_make (by omega) ?_
  repeat' (first
    | (apply And.intro)
    | (with_reducible refine bX1_make_0 ?_; simp (disch := first | omega | decide) only [w_nl0, w_nli, w_nlr, ↓w_ts1, ↓w_ts0, w_rcv, w_rfv, w_cs, true_and, and_true, List.length_nil, List.length_cons, Nat.reduceAdd, Nat.reduceLeDiff, Nat.zero_le, Nat.reduceLT, ↓w_nil, ix_nI, nI_leP, nI_ltP, nI_eqP, nI_1, ↓i_inN, i_inN, l_le, l_lt, l_eq, r_le, r_lt, r_eq, sh60, ↓w_aload_0, ↓w_gf0, ↓w_istore_3, ↓w_iload_3, ↓w_iflt, ↓w_bipush, ↓w_iclt, ↓w_ret, ↓w_gf3, ↓w_iload_1, ↓w_iastore, ↓w_iload_2, ↓w_iconst, ↓w_iadd, ↓w_pf0, hn])
    | (with_reducible refine bX1_make_1 ?_; simp (disch := first | omega | decide) only [w_nl0, w_nli, w_nlr, ↓w_ts1, ↓w_ts0, w_rcv, w_rfv, w_cs, true_and, and_true, List.length_nil, List.length_cons, Nat.reduceAdd, Nat.reduceLeDiff, Nat.zero_le, Nat.reduceLT, ↓w_nil, ix_nI, nI_leP, nI_ltP, nI_eqP, nI_1, ↓i_inN, i_inN, l_le, l_lt, l_eq, r_le, r_lt, r_eq, sh60, ↓w_aload_0, ↓w_gf0, ↓w_istore_3, ↓w_iload_3, ↓w_iflt, ↓w_bipush, ↓w_iclt, ↓w_ret, ↓w_gf3, ↓w_iload_1, ↓w_iastore, ↓w_iload_2, ↓w_iconst, ↓w_iadd, ↓w_pf0, hn])
    | (with_reducible refine bX1_make_2 ?_; simp (disch := first | omega | decide) only [w_nl0, w_nli, w_nlr, ↓w_ts1, ↓w_ts0, w_rcv, w_rfv, w_cs, true_and, and_true, List.length_nil, List.length_cons, Nat.reduceAdd, Nat.reduceLeDiff, Nat.zero_le, Nat.reduceLT, ↓w_nil, ix_nI, nI_leP, nI_ltP, nI_eqP, nI_1, ↓i_inN, i_inN, l_le, l_lt, l_eq, r_le, r_lt, r_eq, sh60, ↓w_aload_0, ↓w_gf0, ↓w_istore_3, ↓w_iload_3, ↓w_iflt, ↓w_bipush, ↓w_iclt, ↓w_ret, ↓w_gf3, ↓w_iload_1, ↓w_iastore, ↓w_iload_2, ↓w_iconst, ↓w_iadd, ↓w_pf0, hn])
    | (simp only [w_in])
    | (intro _))
  all_goals grind
theorem c_copiesIn {s : Int32} {n : Nat} (hd : 1 ≤ d) (hn : I 60 7 = nI n) (hn9 : n ≤ 9) (hQ : Q (some (.int (itr (fun k a => if s >>> (nI k &&& 31) &&& 1 = 0 then a else a + I 61 k) 0 n))) SH I J) : pm_C g d 28 [.ref 60, .int s] Q SH I J := by
  refine eX1_copiesIn (by omega) ?_
  refine bX1_copiesIn_0 ?_
  simp (disch := first | omega | decide) only [w_nl0, w_nli, w_nlr, ↓w_ts1, ↓w_ts0, w_rcv, w_rfv, w_cs, true_and, and_true, List.length_nil, List.length_cons, Nat.reduceAdd, Nat.reduceLeDiff, Nat.zero_le, Nat.reduceLT, ↓w_nil, ix_nI, nI_leP, nI_ltP, nI_eqP, nI_1, ↓i_inN, i_inN, l_le, l_lt, l_eq, r_le, r_lt, r_eq, sh60, ↓w_iconst, ↓w_istore_2, ↓w_istore_3]
  refine pm_for (f := fun k a => if s >>> (nI k &&& 31) &&& 1 = 0 then a else a + I 61 k) (U := fun k a => UU g (d - 1) 28 kX1_copiesIn (pm_rm d 28) Q 1 [some (.ref 60), some (.int s), some (.int a), some (.int (nI k))] [] SH I J (0, 0)) n (fun k b hk hb w => ?_) ?_
  · refine bX1_copiesIn_1 ?_
    simp (disch := first | omega | decide) only [w_nl0, w_nli, w_nlr, ↓w_ts1, ↓w_ts0, w_rcv, w_rfv, w_cs, true_and, and_true, List.length_nil, List.length_cons, Nat.reduceAdd, Nat.reduceLeDiff, Nat.zero_le, Nat.reduceLT, ↓w_nil, ix_nI, nI_leP, nI_ltP, nI_eqP, nI_1, ↓i_inN, i_inN, l_le, l_lt, l_eq, r_le, r_lt, r_eq, sh60, ↓w_iload_3, ↓w_aload_0, ↓w_gf0, ↓w_icge, ↓w_iload_1, ↓w_ishr, ↓w_iconst, ↓w_iand, ↓w_ifeq, ↓w_iload_2, ↓w_gf3, ↓w_iaload, ↓w_iadd, ↓w_istore_2, hn]
    repeat' (first
      | (apply And.intro)
      | (with_reducible refine bX1_copiesIn_2 ?_; simp (disch := first | omega | decide) only [w_nl0, w_nli, w_nlr, ↓w_ts1, ↓w_ts0, w_rcv, w_rfv, w_cs, true_and, and_true, List.length_nil, List.length_cons, Nat.reduceAdd, Nat.reduceLeDiff, Nat.zero_le, Nat.reduceLT, ↓w_nil, ix_nI, nI_leP, nI_ltP, nI_eqP, nI_1, ↓i_inN, i_inN, l_le, l_lt, l_eq, r_le, r_lt, r_eq, sh60, ↓w_iconst, ↓w_istore_2, ↓w_istore_3, ↓w_iload_3, ↓w_aload_0, ↓w_gf0, ↓w_icge, ↓w_iload_1, ↓w_ishr, ↓w_iand, ↓w_ifeq, ↓w_iload_2, ↓w_gf3, ↓w_iaload, ↓w_iadd, ↓w_iinc_3, ↓w_goto, ↓w_ret])
      | (simp only [w_in])
      | (intro _))
    all_goals grind
  · refine bX1_copiesIn_1 ?_
    simp (disch := first | omega | decide) only [w_nl0, w_nli, w_nlr, ↓w_ts1, ↓w_ts0, w_rcv, w_rfv, w_cs, true_and, and_true, List.length_nil, List.length_cons, Nat.reduceAdd, Nat.reduceLeDiff, Nat.zero_le, Nat.reduceLT, ↓w_nil, ix_nI, nI_leP, nI_ltP, nI_eqP, nI_1, ↓i_inN, i_inN, l_le, l_lt, l_eq, r_le, r_lt, r_eq, sh60, ↓w_iload_3, ↓w_aload_0, ↓w_gf0, ↓w_icge, ↓w_iload_1, ↓w_ishr, ↓w_iconst, ↓w_iand, ↓w_ifeq, ↓w_iload_2, ↓w_gf3, ↓w_iaload, ↓w_iadd, ↓w_istore_2, hn]
    repeat' (first
      | (apply And.intro)
      | (with_reducible refine bX1_copiesIn_3 ?_; simp (disch := first | omega | decide) only [w_nl0, w_nli, w_nlr, ↓w_ts1, ↓w_ts0, w_rcv, w_rfv, w_cs, true_and, and_true, List.length_nil, List.length_cons, Nat.reduceAdd, Nat.reduceLeDiff, Nat.zero_le, Nat.reduceLT, ↓w_nil, ix_nI, nI_leP, nI_ltP, nI_eqP, nI_1, ↓i_inN, i_inN, l_le, l_lt, l_eq, r_le, r_lt, r_eq, sh60, ↓w_iconst, ↓w_istore_2, ↓w_istore_3, ↓w_iload_3, ↓w_aload_0, ↓w_gf0, ↓w_icge, ↓w_iload_1, ↓w_ishr, ↓w_iand, ↓w_ifeq, ↓w_iload_2, ↓w_gf3, ↓w_iaload, ↓w_iadd, ↓w_iinc_3, ↓w_goto, ↓w_ret])
      | (simp only [w_in])
      | (intro _))
    all_goals grind
theorem c_O_mix {h : Int64} {n : Nat} (hd : 1 ≤ d) (hn : I 60 7 = nI n) (hn9 : n ≤ 9) (hQ : Q (some (.long (itr (fun k h => 31 * (31 * h + (I 61 k).toInt64) + (I 62 k).toInt64) h n))) SH I J) : pm_C g d 33 [.ref 60, .long h] Q SH I J := by
  refine eX1_mix (by omega) ?_
  refine bX1_mix_0 ?_
  simp (disch := first | omega | decide) only [w_nl0, w_nli, w_nlr, ↓w_ts1, ↓w_ts0, w_rcv, w_rfv, w_cs, true_and, and_true, List.length_nil, List.length_cons, Nat.reduceAdd, Nat.reduceLeDiff, Nat.zero_le, Nat.reduceLT, ↓w_nil, ix_nI, nI_leP, nI_ltP, nI_eqP, nI_1, ↓i_inN, i_inN, l_le, l_lt, l_eq, r_le, r_lt, r_eq, sh60, ↓w_iconst, ↓w_istore_3]
  refine pm_for (f := fun k h => 31 * (31 * h + (I 61 k).toInt64) + (I 62 k).toInt64) (U := fun k a => UU g (d - 1) 33 kX1_mix (pm_rm d 33) Q 1 [some (.ref 60), some (.long a), none, some (.int (nI k))] [] SH I J (0, 0)) n (fun k b hk hb w => ?_) ?_
  · refine bX1_mix_1 ?_
    simp (disch := first | omega | decide) only [w_nl0, w_nli, w_nlr, ↓w_ts1, ↓w_ts0, w_rcv, w_rfv, w_cs, true_and, and_true, List.length_nil, List.length_cons, Nat.reduceAdd, Nat.reduceLeDiff, Nat.zero_le, Nat.reduceLT, ↓w_nil, ix_nI, nI_leP, nI_ltP, nI_eqP, nI_1, ↓i_inN, i_inN, l_le, l_lt, l_eq, r_le, r_lt, r_eq, sh60, ↓w_iload_3, ↓w_aload_0, ↓w_gf0, ↓w_icge, ↓w_ldc2_15, ↓w_lload_1, ↓w_lmul, ↓w_gf3, ↓w_iaload, ↓w_i2l, ↓w_ladd, ↓w_lstore_1, ↓w_iinc_3, ↓w_goto, hn]
    repeat' (first
      | (apply And.intro)
      | (simp only [w_in])
      | (intro _))
    all_goals grind
  · refine bX1_mix_1 ?_
    simp (disch := first | omega | decide) only [w_nl0, w_nli, w_nlr, ↓w_ts1, ↓w_ts0, w_rcv, w_rfv, w_cs, true_and, and_true, List.length_nil, List.length_cons, Nat.reduceAdd, Nat.reduceLeDiff, Nat.zero_le, Nat.reduceLT, ↓w_nil, ix_nI, nI_leP, nI_ltP, nI_eqP, nI_1, ↓i_inN, i_inN, l_le, l_lt, l_eq, r_le, r_lt, r_eq, sh60, ↓w_iload_3, ↓w_aload_0, ↓w_gf0, ↓w_icge, ↓w_ldc2_15, ↓w_lload_1, ↓w_lmul, ↓w_gf3, ↓w_iaload, ↓w_i2l, ↓w_ladd, ↓w_lstore_1, ↓w_iinc_3, ↓w_goto, hn]
    repeat' (first
      | (apply And.intro)
      | (with_reducible refine bX1_mix_2 ?_; simp (disch := first | omega | decide) only [w_nl0, w_nli, w_nlr, ↓w_ts1, ↓w_ts0, w_rcv, w_rfv, w_cs, true_and, and_true, List.length_nil, List.length_cons, Nat.reduceAdd, Nat.reduceLeDiff, Nat.zero_le, Nat.reduceLT, ↓w_nil, ix_nI, nI_leP, nI_ltP, nI_eqP, nI_1, ↓i_inN, i_inN, l_le, l_lt, l_eq, r_le, r_lt, r_eq, sh60, ↓w_iconst, ↓w_istore_3, ↓w_iload_3, ↓w_aload_0, ↓w_gf0, ↓w_icge, ↓w_ldc2_15, ↓w_lload_1, ↓w_lmul, ↓w_gf3, ↓w_iaload, ↓w_i2l, ↓w_ladd, ↓w_lstore_1, ↓w_iinc_3, ↓w_goto, ↓w_lret])
      | (simp only [w_in])
      | (intro _))
    all_goals grind
end C25
