section C20
variable {g : pm_G} {d : Nat} {Q : pm_Po} {S : pm_SS} {I : pm_MI} {J : pm_ML}
theorem c_below {a b : Int32} (hd : 1 ≤ d) (hQ : Q (some (.int (if 0 ≤ a ∧ a < b then 1 else 0))) S I J) : pm_C g d 184 [.int a, .int b] Q S I J := by
  refine eX11_below (by omega) ?_
  repeat' (first
    | (apply And.intro)
    | (with_reducible refine bX11_below_0 ?_; simp (disch := omega) only [w_nl0, w_nli, w_nlr, ↓w_ts1, ↓w_ts0, w_rcv, w_rfv, w_cs, true_and, and_true, List.length_nil, List.length_cons, Nat.reduceAdd, Nat.reduceLeDiff, Nat.zero_le, Nat.reduceLT, ↓w_nil, ix_nI, nI_leP, nI_ltP, nI_eqP, nI_1, ↓i_inN, w_in, sh0, sh1, sh55, sh60, sh9, sh31, sh23, sh37, sh42, sh43, sh19, sh3, sh6, ↓w_iload_0, ↓w_iflt, ↓w_iload_1, ↓w_icge, ↓w_iconst, ↓w_goto, ↓w_zret])
    | (with_reducible refine bX11_below_1 ?_; simp (disch := omega) only [w_nl0, w_nli, w_nlr, ↓w_ts1, ↓w_ts0, w_rcv, w_rfv, w_cs, true_and, and_true, List.length_nil, List.length_cons, Nat.reduceAdd, Nat.reduceLeDiff, Nat.zero_le, Nat.reduceLT, ↓w_nil, ix_nI, nI_leP, nI_ltP, nI_eqP, nI_1, ↓i_inN, w_in, sh0, sh1, sh55, sh60, sh9, sh31, sh23, sh37, sh42, sh43, sh19, sh3, sh6, ↓w_iload_0, ↓w_iflt, ↓w_iload_1, ↓w_icge, ↓w_iconst, ↓w_goto, ↓w_zret])
    | (with_reducible refine bX11_below_2 ?_; simp (disch := omega) only [w_nl0, w_nli, w_nlr, ↓w_ts1, ↓w_ts0, w_rcv, w_rfv, w_cs, true_and, and_true, List.length_nil, List.length_cons, Nat.reduceAdd, Nat.reduceLeDiff, Nat.zero_le, Nat.reduceLT, ↓w_nil, ix_nI, nI_leP, nI_ltP, nI_eqP, nI_1, ↓i_inN, w_in, sh0, sh1, sh55, sh60, sh9, sh31, sh23, sh37, sh42, sh43, sh19, sh3, sh6, ↓w_iload_0, ↓w_iflt, ↓w_iload_1, ↓w_icge, ↓w_iconst, ↓w_goto, ↓w_zret])
    | (intro _))
  all_goals grind
theorem c_isDay {a : Int32} (hd : 1 ≤ d) (hQ : Q (some (.int (if 0 ≤ a ∧ a ≤ 999 then 1 else 0))) S I J) : pm_C g d 185 [.int a] Q S I J := by
  refine eX11_isDay (by omega) ?_
  repeat' (first
    | (apply And.intro)
    | (with_reducible refine bX11_isDay_0 ?_; simp (disch := omega) only [w_nl0, w_nli, w_nlr, ↓w_ts1, ↓w_ts0, w_rcv, w_rfv, w_cs, true_and, and_true, List.length_nil, List.length_cons, Nat.reduceAdd, Nat.reduceLeDiff, Nat.zero_le, Nat.reduceLT, ↓w_nil, ix_nI, nI_leP, nI_ltP, nI_eqP, nI_1, ↓i_inN, w_in, sh0, sh1, sh55, sh60, sh9, sh31, sh23, sh37, sh42, sh43, sh19, sh3, sh6, ↓w_iload_0, ↓w_iflt, ↓w_sipush, ↓w_icgt, ↓w_iconst, ↓w_goto, ↓w_zret])
    | (with_reducible refine bX11_isDay_1 ?_; simp (disch := omega) only [w_nl0, w_nli, w_nlr, ↓w_ts1, ↓w_ts0, w_rcv, w_rfv, w_cs, true_and, and_true, List.length_nil, List.length_cons, Nat.reduceAdd, Nat.reduceLeDiff, Nat.zero_le, Nat.reduceLT, ↓w_nil, ix_nI, nI_leP, nI_ltP, nI_eqP, nI_1, ↓i_inN, w_in, sh0, sh1, sh55, sh60, sh9, sh31, sh23, sh37, sh42, sh43, sh19, sh3, sh6, ↓w_iload_0, ↓w_iflt, ↓w_sipush, ↓w_icgt, ↓w_iconst, ↓w_goto, ↓w_zret])
    | (with_reducible refine bX11_isDay_2 ?_; simp (disch := omega) only [w_nl0, w_nli, w_nlr, ↓w_ts1, ↓w_ts0, w_rcv, w_rfv, w_cs, true_and, and_true, List.length_nil, List.length_cons, Nat.reduceAdd, Nat.reduceLeDiff, Nat.zero_le, Nat.reduceLT, ↓w_nil, ix_nI, nI_leP, nI_ltP, nI_eqP, nI_1, ↓i_inN, w_in, sh0, sh1, sh55, sh60, sh9, sh31, sh23, sh37, sh42, sh43, sh19, sh3, sh6, ↓w_iload_0, ↓w_iflt, ↓w_sipush, ↓w_icgt, ↓w_iconst, ↓w_goto, ↓w_zret])
    | (intro _))
  all_goals grind
theorem c_found {x : Int32} (hd : 1 ≤ d) (h0 : 0 ≤ x) (h6 : x < 6) (hQ : Q (some (.int (-3))) SH (pm_up (pm_up I 1 1 x) 2 x.toNatClampNeg (I 2 x.toNatClampNeg + 1)) J) : pm_C g d 118 [.ref 1, .int x] Q SH I J := by
  refine eX10_found (by omega) ?_
  repeat' (first
    | (apply And.intro)
    | (with_reducible refine bX10_found_0 ?_; simp (disch := omega) only [w_nl0, w_nli, w_nlr, ↓w_ts1, ↓w_ts0, w_rcv, w_rfv, w_cs, true_and, and_true, List.length_nil, List.length_cons, Nat.reduceAdd, Nat.reduceLeDiff, Nat.zero_le, Nat.reduceLT, ↓w_nil, ix_nI, nI_leP, nI_ltP, nI_eqP, nI_1, ↓i_inN, w_in, sh1, ↓w_aload_0, ↓w_iload_1, ↓w_pf0, ↓w_iflt, ↓w_gf3, ↓w_alen, ↓w_slen, ↓w_icge, ↓w_dup2, ↓w_iaload, ↓w_iconst, ↓w_iadd, ↓w_iastore, ↓w_bipush, ↓w_ret, pm_up_o, w_len])
    | (with_reducible refine bX10_found_1 ?_; simp (disch := omega) only [w_nl0, w_nli, w_nlr, ↓w_ts1, ↓w_ts0, w_rcv, w_rfv, w_cs, true_and, and_true, List.length_nil, List.length_cons, Nat.reduceAdd, Nat.reduceLeDiff, Nat.zero_le, Nat.reduceLT, ↓w_nil, ix_nI, nI_leP, nI_ltP, nI_eqP, nI_1, ↓i_inN, w_in, sh1, ↓w_aload_0, ↓w_iload_1, ↓w_pf0, ↓w_iflt, ↓w_gf3, ↓w_alen, ↓w_slen, ↓w_icge, ↓w_dup2, ↓w_iaload, ↓w_iconst, ↓w_iadd, ↓w_iastore, ↓w_bipush, ↓w_ret, pm_up_o, w_len])
    | (intro _))
  all_goals grind
theorem c_grown {m : Int32} {n : Nat} (hd : 1 ≤ d) (hn : I 9 9 = nI n) (hn40 : n ≤ 40) (hQ : Q (some (.int (itr (fun k a => if I 12 k = m then a + 1 else a) 0 n))) SH I J) : pm_C g d 11 [.ref 9, .int m] Q SH I J := by
  refine eX0_grown (by omega) ?_
  refine bX0_grown_0 ?_
  simp (disch := omega) only [w_nl0, w_nli, w_nlr, ↓w_ts1, ↓w_ts0, w_rcv, w_rfv, w_cs, true_and, and_true, List.length_nil, List.length_cons, Nat.reduceAdd, Nat.reduceLeDiff, Nat.zero_le, Nat.reduceLT, ↓w_nil, ix_nI, nI_leP, nI_ltP, nI_eqP, nI_1, ↓i_inN, w_in, sh9, ↓w_iconst, ↓w_istore_2, ↓w_istore_3]
  refine pm_for (f := fun k a => if I 12 k = m then a + 1 else a) (U := fun k a => UU g (d - 1) 11 kX0_grown (pm_rm d 11) Q 1 [some (.ref 9), some (.int m), some (.int a), some (.int (nI k))] [] SH I J (0, 0)) n (fun k b hk hb w => ?_) ?_
  · refine bX0_grown_1 ?_
    simp (disch := omega) only [w_nl0, w_nli, w_nlr, ↓w_ts1, ↓w_ts0, w_rcv, w_rfv, w_cs, true_and, and_true, List.length_nil, List.length_cons, Nat.reduceAdd, Nat.reduceLeDiff, Nat.zero_le, Nat.reduceLT, ↓w_nil, ix_nI, nI_leP, nI_ltP, nI_eqP, nI_1, ↓i_inN, w_in, sh9, ↓w_iload_3, ↓w_aload_0, ↓w_gf0, ↓w_icge, ↓w_gf3, ↓w_iaload, ↓w_iload_1, ↓w_icne, ↓w_iinc_2, hn]
    repeat' (first
      | (apply And.intro)
      | (with_reducible refine bX0_grown_2 ?_; simp (disch := omega) only [w_nl0, w_nli, w_nlr, ↓w_ts1, ↓w_ts0, w_rcv, w_rfv, w_cs, true_and, and_true, List.length_nil, List.length_cons, Nat.reduceAdd, Nat.reduceLeDiff, Nat.zero_le, Nat.reduceLT, ↓w_nil, ix_nI, nI_leP, nI_ltP, nI_eqP, nI_1, ↓i_inN, w_in, sh9, ↓w_iconst, ↓w_istore_2, ↓w_istore_3, ↓w_iload_3, ↓w_aload_0, ↓w_gf0, ↓w_icge, ↓w_gf3, ↓w_iaload, ↓w_iload_1, ↓w_icne, ↓w_iinc_2, ↓w_iinc_3, ↓w_goto, ↓w_iload_2, ↓w_ret])
      | (intro _))
    all_goals grind
  · refine bX0_grown_1 ?_
    simp (disch := omega) only [w_nl0, w_nli, w_nlr, ↓w_ts1, ↓w_ts0, w_rcv, w_rfv, w_cs, true_and, and_true, List.length_nil, List.length_cons, Nat.reduceAdd, Nat.reduceLeDiff, Nat.zero_le, Nat.reduceLT, ↓w_nil, ix_nI, nI_leP, nI_ltP, nI_eqP, nI_1, ↓i_inN, w_in, sh9, ↓w_iload_3, ↓w_aload_0, ↓w_gf0, ↓w_icge, ↓w_gf3, ↓w_iaload, ↓w_iload_1, ↓w_icne, ↓w_iinc_2, hn]
    repeat' (first
      | (apply And.intro)
      | (with_reducible refine bX0_grown_3 ?_; simp (disch := omega) only [w_nl0, w_nli, w_nlr, ↓w_ts1, ↓w_ts0, w_rcv, w_rfv, w_cs, true_and, and_true, List.length_nil, List.length_cons, Nat.reduceAdd, Nat.reduceLeDiff, Nat.zero_le, Nat.reduceLT, ↓w_nil, ix_nI, nI_leP, nI_ltP, nI_eqP, nI_1, ↓i_inN, w_in, sh9, ↓w_iconst, ↓w_istore_2, ↓w_istore_3, ↓w_iload_3, ↓w_aload_0, ↓w_gf0, ↓w_icge, ↓w_gf3, ↓w_iaload, ↓w_iload_1, ↓w_icne, ↓w_iinc_2, ↓w_iinc_3, ↓w_goto, ↓w_iload_2, ↓w_ret])
      | (intro _))
    all_goals grind
theorem c_Shelf_has {q r : Nat} {x : Int32} (hq : q = 3 ∨ q = 6) (hd : 1 ≤ d) (hQ : Q (some (.int (if 0 ≤ x ∧ x < (if q = 3 then 6 else 4) then 1 else 0))) SH I J) : pm_C g d 105 [.ref q, .int x] Q SH I J := by
  refine eX9_has (by omega) ?_
  rcases hq with rfl | rfl
  · repeat' (first
      | (apply And.intro)
      | (with_reducible refine bX9_has_0 ?_; simp (disch := omega) only [w_nl0, w_nli, w_nlr, ↓w_ts1, ↓w_ts0, w_rcv, w_rfv, w_cs, true_and, and_true, List.length_nil, List.length_cons, Nat.reduceAdd, Nat.reduceLeDiff, Nat.zero_le, Nat.reduceLT, ↓w_nil, ix_nI, nI_leP, nI_ltP, nI_eqP, nI_1, ↓i_inN, w_in, sh3, sh6, ↓w_iload_1, ↓w_iflt, ↓w_aload_0, ↓w_gf3, ↓w_alen, ↓w_slen, ↓w_icge, ↓w_iconst, ↓w_goto, ↓w_zret, w_len])
      | (with_reducible refine bX9_has_1 ?_; simp (disch := omega) only [w_nl0, w_nli, w_nlr, ↓w_ts1, ↓w_ts0, w_rcv, w_rfv, w_cs, true_and, and_true, List.length_nil, List.length_cons, Nat.reduceAdd, Nat.reduceLeDiff, Nat.zero_le, Nat.reduceLT, ↓w_nil, ix_nI, nI_leP, nI_ltP, nI_eqP, nI_1, ↓i_inN, w_in, sh3, sh6, ↓w_iload_1, ↓w_iflt, ↓w_aload_0, ↓w_gf3, ↓w_alen, ↓w_slen, ↓w_icge, ↓w_iconst, ↓w_goto, ↓w_zret, w_len])
      | (with_reducible refine bX9_has_2 ?_; simp (disch := omega) only [w_nl0, w_nli, w_nlr, ↓w_ts1, ↓w_ts0, w_rcv, w_rfv, w_cs, true_and, and_true, List.length_nil, List.length_cons, Nat.reduceAdd, Nat.reduceLeDiff, Nat.zero_le, Nat.reduceLT, ↓w_nil, ix_nI, nI_leP, nI_ltP, nI_eqP, nI_1, ↓i_inN, w_in, sh3, sh6, ↓w_iload_1, ↓w_iflt, ↓w_aload_0, ↓w_gf3, ↓w_alen, ↓w_slen, ↓w_icge, ↓w_iconst, ↓w_goto, ↓w_zret, w_len])
      | (intro _))
    all_goals grind
  · repeat' (first
      | (apply And.intro)
      | (with_reducible refine bX9_has_0 ?_; simp (disch := omega) only [w_nl0, w_nli, w_nlr, ↓w_ts1, ↓w_ts0, w_rcv, w_rfv, w_cs, true_and, and_true, List.length_nil, List.length_cons, Nat.reduceAdd, Nat.reduceLeDiff, Nat.zero_le, Nat.reduceLT, ↓w_nil, ix_nI, nI_leP, nI_ltP, nI_eqP, nI_1, ↓i_inN, w_in, sh3, sh6, ↓w_iload_1, ↓w_iflt, ↓w_aload_0, ↓w_gf3, ↓w_alen, ↓w_slen, ↓w_icge, ↓w_iconst, ↓w_goto, ↓w_zret, w_len])
      | (with_reducible refine bX9_has_1 ?_; simp (disch := omega) only [w_nl0, w_nli, w_nlr, ↓w_ts1, ↓w_ts0, w_rcv, w_rfv, w_cs, true_and, and_true, List.length_nil, List.length_cons, Nat.reduceAdd, Nat.reduceLeDiff, Nat.zero_le, Nat.reduceLT, ↓w_nil, ix_nI, nI_leP, nI_ltP, nI_eqP, nI_1, ↓i_inN, w_in, sh3, sh6, ↓w_iload_1, ↓w_iflt, ↓w_aload_0, ↓w_gf3, ↓w_alen, ↓w_slen, ↓w_icge, ↓w_iconst, ↓w_goto, ↓w_zret, w_len])
      | (with_reducible refine bX9_has_2 ?_; simp (disch := omega) only [w_nl0, w_nli, w_nlr, ↓w_ts1, ↓w_ts0, w_rcv, w_rfv, w_cs, true_and, and_true, List.length_nil, List.length_cons, Nat.reduceAdd, Nat.reduceLeDiff, Nat.zero_le, Nat.reduceLT, ↓w_nil, ix_nI, nI_leP, nI_ltP, nI_eqP, nI_1, ↓i_inN, w_in, sh3, sh6, ↓w_iload_1, ↓w_iflt, ↓w_aload_0, ↓w_gf3, ↓w_alen, ↓w_slen, ↓w_icge, ↓w_iconst, ↓w_goto, ↓w_zret, w_len])
      | (intro _))
    all_goals grind
end C20
