section C64
variable {g : pm_G} {d : Nat} {Q : pm_Po} {S : pm_SS} {I : pm_MI} {J : pm_ML}
/-- the reference's counts -/
def mcnV (I : pm_MI) (n : Nat) (w : Int32) : Int32 := if w = 0 then I 68 15 else if w = 1 then I 68 23 else if w = 2 then itr (fun k a => a + (if I 84 k = 0 then 1 else 0)) 0 n else if w = 3 then I 68 38 else if w = 4 then I 68 16 else if w = 5 then I 68 47 else if w = 6 then I 68 67 else if w = 7 then I 68 73 else if w = 8 then I 68 30 else if w = 9 then itr (fun k a => a + (if I 70 k < 0 then 0 else 1)) 0 6 else itr (fun k a => a + (if I 73 k < 0 then 0 else 1)) 0 4
def ccnV (I : pm_MI) (n : Nat) (w : Int32) : Int32 := if w = 0 then I 0 11 else if w = 1 then I 9 9 else if w = 2 then itr (fun k a => if I 15 k = 0 then a + 1 else a) 0 n else if w = 3 then I 23 7 else if w = 4 then I 31 5 else if w = 5 then I 37 4 else if w = 6 then I 55 4 else if w = 7 then I 60 7 else if w = 8 then I 9 10 else if w = 9 then itr (fun k a => if I 4 k < 0 then a else a + 1) 0 6 else itr (fun k a => if I 7 k < 0 then a else a + 1) 0 4
theorem m_counted {n : Nat} {w : Int32} (hd : 1 ≤ d) (hn : I 68 23 = nI n) (hn40 : n ≤ 40) (hw : 0 ≤ w ∧ w ≤ 10) (hQ : Q (some (.int (mcnV I n w))) SH I J) : pm_C g d 290 [.ref 68, .int w] Q SH I J := by
  obtain ⟨q, hq, rfl⟩ := i_q (x := w) (n := 11) (by decide) hw.1 (by have : nI 11 = (11 : Int32) := rfl; grind)
  have hc : q = 0 ∨ q = 1 ∨ q = 2 ∨ q = 3 ∨ q = 4 ∨ q = 5 ∨ q = 6 ∨ q = 7 ∨ q = 8 ∨ q = 9 ∨ q = 10 := by omega
  by_cases h2 : q = 2
  · subst h2
    refine eX12_counted (by omega) ?_
    repeat' (first
      | (apply And.intro)
      | (with_reducible refine bX12_counted_0 ?_; simp (disch := first | omega | decide) only [w_nl0, w_nli, w_nlr, ↓w_ts1, ↓w_ts0, w_rcv, w_rfv, w_cs, true_and, and_true, List.length_nil, List.length_cons, Nat.reduceAdd, Nat.reduceLeDiff, Nat.zero_le, Nat.reduceLT, ↓w_nil, ix_nI, nI_leP, nI_ltP, nI_eqP, nI_1, ↓i_inN, i_inN, l_le, l_lt, l_eq, r_le, r_lt, r_eq, sh68_0, sh68_1, sh68_2, sh68_3, sh68_4, ↓w_iconst, ↓w_istore_2, ↓w_iload_1, ↓w_sw_X12_counted_3, ↓w_aload_0, ↓w_gf0, ↓w_ret, ↓w_istore_3, ↓w_iload_3, ↓w_icge, ↓w_iload_2, ↓w_gf3, ↓w_iaload, ↓w_ifne, ↓w_goto, ↓w_iadd, ↓w_iinc_3, ↓w_bipush, ↓w_ifge])
      | (with_reducible refine bX12_counted_3 ?_; simp (disch := first | omega | decide) only [w_nl0, w_nli, w_nlr, ↓w_ts1, ↓w_ts0, w_rcv, w_rfv, w_cs, true_and, and_true, List.length_nil, List.length_cons, Nat.reduceAdd, Nat.reduceLeDiff, Nat.zero_le, Nat.reduceLT, ↓w_nil, ix_nI, nI_leP, nI_ltP, nI_eqP, nI_1, ↓i_inN, i_inN, l_le, l_lt, l_eq, r_le, r_lt, r_eq, sh68_0, sh68_1, sh68_2, sh68_3, sh68_4, ↓w_iconst, ↓w_istore_2, ↓w_iload_1, ↓w_sw_X12_counted_3, ↓w_aload_0, ↓w_gf0, ↓w_ret, ↓w_istore_3, ↓w_iload_3, ↓w_icge, ↓w_iload_2, ↓w_gf3, ↓w_iaload, ↓w_ifne, ↓w_goto, ↓w_iadd, ↓w_iinc_3, ↓w_bipush, ↓w_ifge])
      | (simp only [w_in])
      | (intro _))
    all_goals try grind
    refine pm_for (f := fun k (a : Int32) => a + (if I 84 k = 0 then 1 else 0)) (U := fun k a => UU g (d - 1) 290 kX12_counted (pm_rm d 290) Q 4 [some (.ref 68), some (.int (nI 2)), some (.int a), some (.int (nI k))] [] SH I J (0, 0)) n (fun k b hk hb w => ?_) ?_
    · refine bX12_counted_4 ?_
      simp (disch := first | omega | decide) only [w_nl0, w_nli, w_nlr, ↓w_ts1, ↓w_ts0, w_rcv, w_rfv, w_cs, true_and, and_true, List.length_nil, List.length_cons, Nat.reduceAdd, Nat.reduceLeDiff, Nat.zero_le, Nat.reduceLT, ↓w_nil, ix_nI, nI_leP, nI_ltP, nI_eqP, nI_1, ↓i_inN, i_inN, l_le, l_lt, l_eq, r_le, r_lt, r_eq, sh68_0, sh68_1, sh68_2, sh68_3, sh68_4, ↓w_iload_3, ↓w_aload_0, ↓w_gf0, ↓w_icge, ↓w_iload_2, ↓w_gf3, ↓w_iaload, ↓w_ifne, ↓w_iconst, ↓w_goto, hn]
      repeat' (first
        | (apply And.intro)
        | (with_reducible refine bX12_counted_5 ?_; simp (disch := first | omega | decide) only [w_nl0, w_nli, w_nlr, ↓w_ts1, ↓w_ts0, w_rcv, w_rfv, w_cs, true_and, and_true, List.length_nil, List.length_cons, Nat.reduceAdd, Nat.reduceLeDiff, Nat.zero_le, Nat.reduceLT, ↓w_nil, ix_nI, nI_leP, nI_ltP, nI_eqP, nI_1, ↓i_inN, i_inN, l_le, l_lt, l_eq, r_le, r_lt, r_eq, sh68_0, sh68_1, sh68_2, sh68_3, sh68_4, ↓w_iconst, ↓w_istore_2, ↓w_iload_1, ↓w_sw_X12_counted_3, ↓w_aload_0, ↓w_gf0, ↓w_ret, ↓w_istore_3, ↓w_iload_3, ↓w_icge, ↓w_iload_2, ↓w_gf3, ↓w_iaload, ↓w_ifne, ↓w_goto, ↓w_iadd, ↓w_iinc_3, ↓w_bipush, ↓w_ifge])
        | (with_reducible refine bX12_counted_6 ?_; simp (disch := first | omega | decide) only [w_nl0, w_nli, w_nlr, ↓w_ts1, ↓w_ts0, w_rcv, w_rfv, w_cs, true_and, and_true, List.length_nil, List.length_cons, Nat.reduceAdd, Nat.reduceLeDiff, Nat.zero_le, Nat.reduceLT, ↓w_nil, ix_nI, nI_leP, nI_ltP, nI_eqP, nI_1, ↓i_inN, i_inN, l_le, l_lt, l_eq, r_le, r_lt, r_eq, sh68_0, sh68_1, sh68_2, sh68_3, sh68_4, ↓w_iconst, ↓w_istore_2, ↓w_iload_1, ↓w_sw_X12_counted_3, ↓w_aload_0, ↓w_gf0, ↓w_ret, ↓w_istore_3, ↓w_iload_3, ↓w_icge, ↓w_iload_2, ↓w_gf3, ↓w_iaload, ↓w_ifne, ↓w_goto, ↓w_iadd, ↓w_iinc_3, ↓w_bipush, ↓w_ifge])
        | (simp only [w_in])
        | (intro _))
      all_goals grind
    · refine bX12_counted_4 ?_
      simp (disch := first | omega | decide) only [w_nl0, w_nli, w_nlr, ↓w_ts1, ↓w_ts0, w_rcv, w_rfv, w_cs, true_and, and_true, List.length_nil, List.length_cons, Nat.reduceAdd, Nat.reduceLeDiff, Nat.zero_le, Nat.reduceLT, ↓w_nil, ix_nI, nI_leP, nI_ltP, nI_eqP, nI_1, ↓i_inN, i_inN, l_le, l_lt, l_eq, r_le, r_lt, r_eq, sh68_0, sh68_1, sh68_2, sh68_3, sh68_4, ↓w_iload_3, ↓w_aload_0, ↓w_gf0, ↓w_icge, ↓w_iload_2, ↓w_gf3, ↓w_iaload, ↓w_ifne, ↓w_iconst, ↓w_goto, hn]
      repeat' (first
        | (apply And.intro)
        | (with_reducible refine bX12_counted_7 ?_; simp (disch := first | omega | decide) only [w_nl0, w_nli, w_nlr, ↓w_ts1, ↓w_ts0, w_rcv, w_rfv, w_cs, true_and, and_true, List.length_nil, List.length_cons, Nat.reduceAdd, Nat.reduceLeDiff, Nat.zero_le, Nat.reduceLT, ↓w_nil, ix_nI, nI_leP, nI_ltP, nI_eqP, nI_1, ↓i_inN, i_inN, l_le, l_lt, l_eq, r_le, r_lt, r_eq, sh68_0, sh68_1, sh68_2, sh68_3, sh68_4, ↓w_iconst, ↓w_istore_2, ↓w_iload_1, ↓w_sw_X12_counted_3, ↓w_aload_0, ↓w_gf0, ↓w_ret, ↓w_istore_3, ↓w_iload_3, ↓w_icge, ↓w_iload_2, ↓w_gf3, ↓w_iaload, ↓w_ifne, ↓w_goto, ↓w_iadd, ↓w_iinc_3, ↓w_bipush, ↓w_ifge])
        | (simp only [w_in])
        | (intro _))
      all_goals first | exact hQ | grind
  · by_cases h9 : q = 9
    · subst h9
      refine eX12_counted (by omega) ?_
      repeat' (first
        | (apply And.intro)
        | (with_reducible refine bX12_counted_0 ?_; simp (disch := first | omega | decide) only [w_nl0, w_nli, w_nlr, ↓w_ts1, ↓w_ts0, w_rcv, w_rfv, w_cs, true_and, and_true, List.length_nil, List.length_cons, Nat.reduceAdd, Nat.reduceLeDiff, Nat.zero_le, Nat.reduceLT, ↓w_nil, ix_nI, nI_leP, nI_ltP, nI_eqP, nI_1, ↓i_inN, i_inN, l_le, l_lt, l_eq, r_le, r_lt, r_eq, sh68_0, sh68_1, sh68_2, sh68_3, sh68_4, ↓w_iconst, ↓w_istore_2, ↓w_iload_1, ↓w_sw_X12_counted_3, ↓w_aload_0, ↓w_gf0, ↓w_ret, ↓w_istore_3, ↓w_iload_3, ↓w_icge, ↓w_iload_2, ↓w_gf3, ↓w_iaload, ↓w_ifne, ↓w_goto, ↓w_iadd, ↓w_iinc_3, ↓w_bipush, ↓w_ifge])
        | (with_reducible refine bX12_counted_14 ?_; simp (disch := first | omega | decide) only [w_nl0, w_nli, w_nlr, ↓w_ts1, ↓w_ts0, w_rcv, w_rfv, w_cs, true_and, and_true, List.length_nil, List.length_cons, Nat.reduceAdd, Nat.reduceLeDiff, Nat.zero_le, Nat.reduceLT, ↓w_nil, ix_nI, nI_leP, nI_ltP, nI_eqP, nI_1, ↓i_inN, i_inN, l_le, l_lt, l_eq, r_le, r_lt, r_eq, sh68_0, sh68_1, sh68_2, sh68_3, sh68_4, ↓w_iconst, ↓w_istore_2, ↓w_iload_1, ↓w_sw_X12_counted_3, ↓w_aload_0, ↓w_gf0, ↓w_ret, ↓w_istore_3, ↓w_iload_3, ↓w_icge, ↓w_iload_2, ↓w_gf3, ↓w_iaload, ↓w_ifne, ↓w_goto, ↓w_iadd, ↓w_iinc_3, ↓w_bipush, ↓w_ifge])
        | (simp only [w_in])
        | (intro _))
      all_goals try grind
      refine pm_for (f := fun k (a : Int32) => a + (if I 70 k < 0 then 0 else 1)) (U := fun k a => UU g (d - 1) 290 kX12_counted (pm_rm d 290) Q 15 [some (.ref 68), some (.int (nI 9)), some (.int a), some (.int (nI k))] [] SH I J (0, 0)) 6 (fun k b hk hb w => ?_) ?_
      · refine bX12_counted_15 ?_
        simp (disch := first | omega | decide) only [w_nl0, w_nli, w_nlr, ↓w_ts1, ↓w_ts0, w_rcv, w_rfv, w_cs, true_and, and_true, List.length_nil, List.length_cons, Nat.reduceAdd, Nat.reduceLeDiff, Nat.zero_le, Nat.reduceLT, ↓w_nil, ix_nI, nI_leP, nI_ltP, nI_eqP, nI_1, ↓i_inN, i_inN, l_le, l_lt, l_eq, r_le, r_lt, r_eq, sh68_0, sh68_1, sh68_2, sh68_3, sh68_4, ↓w_iload_3, ↓w_bipush, ↓w_icge, ↓w_iload_2, ↓w_aload_0, ↓w_gf3, ↓w_iaload, ↓w_ifge, ↓w_iconst, ↓w_goto]
        repeat' (first
          | (apply And.intro)
          | (with_reducible refine bX12_counted_16 ?_; simp (disch := first | omega | decide) only [w_nl0, w_nli, w_nlr, ↓w_ts1, ↓w_ts0, w_rcv, w_rfv, w_cs, true_and, and_true, List.length_nil, List.length_cons, Nat.reduceAdd, Nat.reduceLeDiff, Nat.zero_le, Nat.reduceLT, ↓w_nil, ix_nI, nI_leP, nI_ltP, nI_eqP, nI_1, ↓i_inN, i_inN, l_le, l_lt, l_eq, r_le, r_lt, r_eq, sh68_0, sh68_1, sh68_2, sh68_3, sh68_4, ↓w_iconst, ↓w_istore_2, ↓w_iload_1, ↓w_sw_X12_counted_3, ↓w_aload_0, ↓w_gf0, ↓w_ret, ↓w_istore_3, ↓w_iload_3, ↓w_icge, ↓w_iload_2, ↓w_gf3, ↓w_iaload, ↓w_ifne, ↓w_goto, ↓w_iadd, ↓w_iinc_3, ↓w_bipush, ↓w_ifge])
          | (with_reducible refine bX12_counted_17 ?_; simp (disch := first | omega | decide) only [w_nl0, w_nli, w_nlr, ↓w_ts1, ↓w_ts0, w_rcv, w_rfv, w_cs, true_and, and_true, List.length_nil, List.length_cons, Nat.reduceAdd, Nat.reduceLeDiff, Nat.zero_le, Nat.reduceLT, ↓w_nil, ix_nI, nI_leP, nI_ltP, nI_eqP, nI_1, ↓i_inN, i_inN, l_le, l_lt, l_eq, r_le, r_lt, r_eq, sh68_0, sh68_1, sh68_2, sh68_3, sh68_4, ↓w_iconst, ↓w_istore_2, ↓w_iload_1, ↓w_sw_X12_counted_3, ↓w_aload_0, ↓w_gf0, ↓w_ret, ↓w_istore_3, ↓w_iload_3, ↓w_icge, ↓w_iload_2, ↓w_gf3, ↓w_iaload, ↓w_ifne, ↓w_goto, ↓w_iadd, ↓w_iinc_3, ↓w_bipush, ↓w_ifge])
          | (simp only [w_in])
          | (intro _))
        all_goals grind
      · refine bX12_counted_15 ?_
        simp (disch := first | omega | decide) only [w_nl0, w_nli, w_nlr, ↓w_ts1, ↓w_ts0, w_rcv, w_rfv, w_cs, true_and, and_true, List.length_nil, List.length_cons, Nat.reduceAdd, Nat.reduceLeDiff, Nat.zero_le, Nat.reduceLT, ↓w_nil, ix_nI, nI_leP, nI_ltP, nI_eqP, nI_1, ↓i_inN, i_inN, l_le, l_lt, l_eq, r_le, r_lt, r_eq, sh68_0, sh68_1, sh68_2, sh68_3, sh68_4, ↓w_iload_3, ↓w_bipush, ↓w_icge, ↓w_iload_2, ↓w_aload_0, ↓w_gf3, ↓w_iaload, ↓w_ifge, ↓w_iconst, ↓w_goto]
        repeat' (first
          | (apply And.intro)
          | (with_reducible refine bX12_counted_18 ?_; simp (disch := first | omega | decide) only [w_nl0, w_nli, w_nlr, ↓w_ts1, ↓w_ts0, w_rcv, w_rfv, w_cs, true_and, and_true, List.length_nil, List.length_cons, Nat.reduceAdd, Nat.reduceLeDiff, Nat.zero_le, Nat.reduceLT, ↓w_nil, ix_nI, nI_leP, nI_ltP, nI_eqP, nI_1, ↓i_inN, i_inN, l_le, l_lt, l_eq, r_le, r_lt, r_eq, sh68_0, sh68_1, sh68_2, sh68_3, sh68_4, ↓w_iconst, ↓w_istore_2, ↓w_iload_1, ↓w_sw_X12_counted_3, ↓w_aload_0, ↓w_gf0, ↓w_ret, ↓w_istore_3, ↓w_iload_3, ↓w_icge, ↓w_iload_2, ↓w_gf3, ↓w_iaload, ↓w_ifne, ↓w_goto, ↓w_iadd, ↓w_iinc_3, ↓w_bipush, ↓w_ifge])
          | (simp only [w_in])
          | (intro _))
        all_goals first | exact hQ | grind
    · by_cases h10 : q = 10
      · subst h10
        refine eX12_counted (by omega) ?_
        repeat' (first
          | (apply And.intro)
          | (with_reducible refine bX12_counted_0 ?_; simp (disch := first | omega | decide) only [w_nl0, w_nli, w_nlr, ↓w_ts1, ↓w_ts0, w_rcv, w_rfv, w_cs, true_and, and_true, List.length_nil, List.length_cons, Nat.reduceAdd, Nat.reduceLeDiff, Nat.zero_le, Nat.reduceLT, ↓w_nil, ix_nI, nI_leP, nI_ltP, nI_eqP, nI_1, ↓i_inN, i_inN, l_le, l_lt, l_eq, r_le, r_lt, r_eq, sh68_0, sh68_1, sh68_2, sh68_3, sh68_4, ↓w_iconst, ↓w_istore_2, ↓w_iload_1, ↓w_sw_X12_counted_3, ↓w_aload_0, ↓w_gf0, ↓w_ret, ↓w_istore_3, ↓w_iload_3, ↓w_icge, ↓w_iload_2, ↓w_gf3, ↓w_iaload, ↓w_ifne, ↓w_goto, ↓w_iadd, ↓w_iinc_3, ↓w_bipush, ↓w_ifge])
          | (with_reducible refine bX12_counted_19 ?_; simp (disch := first | omega | decide) only [w_nl0, w_nli, w_nlr, ↓w_ts1, ↓w_ts0, w_rcv, w_rfv, w_cs, true_and, and_true, List.length_nil, List.length_cons, Nat.reduceAdd, Nat.reduceLeDiff, Nat.zero_le, Nat.reduceLT, ↓w_nil, ix_nI, nI_leP, nI_ltP, nI_eqP, nI_1, ↓i_inN, i_inN, l_le, l_lt, l_eq, r_le, r_lt, r_eq, sh68_0, sh68_1, sh68_2, sh68_3, sh68_4, ↓w_iconst, ↓w_istore_2, ↓w_iload_1, ↓w_sw_X12_counted_3, ↓w_aload_0, ↓w_gf0, ↓w_ret, ↓w_istore_3, ↓w_iload_3, ↓w_icge, ↓w_iload_2, ↓w_gf3, ↓w_iaload, ↓w_ifne, ↓w_goto, ↓w_iadd, ↓w_iinc_3, ↓w_bipush, ↓w_ifge])
          | (simp only [w_in])
          | (intro _))
        all_goals try grind
        refine pm_for (f := fun k (a : Int32) => a + (if I 73 k < 0 then 0 else 1)) (U := fun k a => UU g (d - 1) 290 kX12_counted (pm_rm d 290) Q 20 [some (.ref 68), some (.int (nI 10)), some (.int a), some (.int (nI k))] [] SH I J (0, 0)) 4 (fun k b hk hb w => ?_) ?_
        · refine bX12_counted_20 ?_
          simp (disch := first | omega | decide) only [w_nl0, w_nli, w_nlr, ↓w_ts1, ↓w_ts0, w_rcv, w_rfv, w_cs, true_and, and_true, List.length_nil, List.length_cons, Nat.reduceAdd, Nat.reduceLeDiff, Nat.zero_le, Nat.reduceLT, ↓w_nil, ix_nI, nI_leP, nI_ltP, nI_eqP, nI_1, ↓i_inN, i_inN, l_le, l_lt, l_eq, r_le, r_lt, r_eq, sh68_0, sh68_1, sh68_2, sh68_3, sh68_4, ↓w_iload_3, ↓w_iconst, ↓w_icge, ↓w_iload_2, ↓w_aload_0, ↓w_gf3, ↓w_iaload, ↓w_ifge, ↓w_goto]
          repeat' (first
            | (apply And.intro)
            | (with_reducible refine bX12_counted_21 ?_; simp (disch := first | omega | decide) only [w_nl0, w_nli, w_nlr, ↓w_ts1, ↓w_ts0, w_rcv, w_rfv, w_cs, true_and, and_true, List.length_nil, List.length_cons, Nat.reduceAdd, Nat.reduceLeDiff, Nat.zero_le, Nat.reduceLT, ↓w_nil, ix_nI, nI_leP, nI_ltP, nI_eqP, nI_1, ↓i_inN, i_inN, l_le, l_lt, l_eq, r_le, r_lt, r_eq, sh68_0, sh68_1, sh68_2, sh68_3, sh68_4, ↓w_iconst, ↓w_istore_2, ↓w_iload_1, ↓w_sw_X12_counted_3, ↓w_aload_0, ↓w_gf0, ↓w_ret, ↓w_istore_3, ↓w_iload_3, ↓w_icge, ↓w_iload_2, ↓w_gf3, ↓w_iaload, ↓w_ifne, ↓w_goto, ↓w_iadd, ↓w_iinc_3, ↓w_bipush, ↓w_ifge])
            | (with_reducible refine bX12_counted_22 ?_; simp (disch := first | omega | decide) only [w_nl0, w_nli, w_nlr, ↓w_ts1, ↓w_ts0, w_rcv, w_rfv, w_cs, true_and, and_true, List.length_nil, List.length_cons, Nat.reduceAdd, Nat.reduceLeDiff, Nat.zero_le, Nat.reduceLT, ↓w_nil, ix_nI, nI_leP, nI_ltP, nI_eqP, nI_1, ↓i_inN, i_inN, l_le, l_lt, l_eq, r_le, r_lt, r_eq, sh68_0, sh68_1, sh68_2, sh68_3, sh68_4, ↓w_iconst, ↓w_istore_2, ↓w_iload_1, ↓w_sw_X12_counted_3, ↓w_aload_0, ↓w_gf0, ↓w_ret, ↓w_istore_3, ↓w_iload_3, ↓w_icge, ↓w_iload_2, ↓w_gf3, ↓w_iaload, ↓w_ifne, ↓w_goto, ↓w_iadd, ↓w_iinc_3, ↓w_bipush, ↓w_ifge])
            | (simp only [w_in])
            | (intro _))
          all_goals grind
        · refine bX12_counted_20 ?_
          simp (disch := first | omega | decide) only [w_nl0, w_nli, w_nlr, ↓w_ts1, ↓w_ts0, w_rcv, w_rfv, w_cs, true_and, and_true, List.length_nil, List.length_cons, Nat.reduceAdd, Nat.reduceLeDiff, Nat.zero_le, Nat.reduceLT, ↓w_nil, ix_nI, nI_leP, nI_ltP, nI_eqP, nI_1, ↓i_inN, i_inN, l_le, l_lt, l_eq, r_le, r_lt, r_eq, sh68_0, sh68_1, sh68_2, sh68_3, sh68_4, ↓w_iload_3, ↓w_iconst, ↓w_icge, ↓w_iload_2, ↓w_aload_0, ↓w_gf3, ↓w_iaload, ↓w_ifge, ↓w_goto]
          repeat' (first
            | (apply And.intro)
            | (with_reducible refine bX12_counted_23 ?_; simp (disch := first | omega | decide) only [w_nl0, w_nli, w_nlr, ↓w_ts1, ↓w_ts0, w_rcv, w_rfv, w_cs, true_and, and_true, List.length_nil, List.length_cons, Nat.reduceAdd, Nat.reduceLeDiff, Nat.zero_le, Nat.reduceLT, ↓w_nil, ix_nI, nI_leP, nI_ltP, nI_eqP, nI_1, ↓i_inN, i_inN, l_le, l_lt, l_eq, r_le, r_lt, r_eq, sh68_0, sh68_1, sh68_2, sh68_3, sh68_4, ↓w_iconst, ↓w_istore_2, ↓w_iload_1, ↓w_sw_X12_counted_3, ↓w_aload_0, ↓w_gf0, ↓w_ret, ↓w_istore_3, ↓w_iload_3, ↓w_icge, ↓w_iload_2, ↓w_gf3, ↓w_iaload, ↓w_ifne, ↓w_goto, ↓w_iadd, ↓w_iinc_3, ↓w_bipush, ↓w_ifge])
            | (simp only [w_in])
            | (intro _))
          all_goals first | exact hQ | grind
      · rcases hc with rfl | rfl | rfl | rfl | rfl | rfl | rfl | rfl | rfl | rfl | rfl
        all_goals try omega
        all_goals
          refine eX12_counted (by omega) ?_
          repeat' (first
            | (apply And.intro)
            | (with_reducible refine bX12_counted_0 ?_; simp (disch := first | omega | decide) only [w_nl0, w_nli, w_nlr, ↓w_ts1, ↓w_ts0, w_rcv, w_rfv, w_cs, true_and, and_true, List.length_nil, List.length_cons, Nat.reduceAdd, Nat.reduceLeDiff, Nat.zero_le, Nat.reduceLT, ↓w_nil, ix_nI, nI_leP, nI_ltP, nI_eqP, nI_1, ↓i_inN, i_inN, l_le, l_lt, l_eq, r_le, r_lt, r_eq, sh68_0, sh68_1, sh68_2, sh68_3, sh68_4, ↓w_iconst, ↓w_istore_2, ↓w_iload_1, ↓w_sw_X12_counted_3, ↓w_aload_0, ↓w_gf0, ↓w_ret, ↓w_istore_3, ↓w_iload_3, ↓w_icge, ↓w_iload_2, ↓w_gf3, ↓w_iaload, ↓w_ifne, ↓w_goto, ↓w_iadd, ↓w_iinc_3, ↓w_bipush, ↓w_ifge])
            | (with_reducible refine bX12_counted_1 ?_; simp (disch := first | omega | decide) only [w_nl0, w_nli, w_nlr, ↓w_ts1, ↓w_ts0, w_rcv, w_rfv, w_cs, true_and, and_true, List.length_nil, List.length_cons, Nat.reduceAdd, Nat.reduceLeDiff, Nat.zero_le, Nat.reduceLT, ↓w_nil, ix_nI, nI_leP, nI_ltP, nI_eqP, nI_1, ↓i_inN, i_inN, l_le, l_lt, l_eq, r_le, r_lt, r_eq, sh68_0, sh68_1, sh68_2, sh68_3, sh68_4, ↓w_iconst, ↓w_istore_2, ↓w_iload_1, ↓w_sw_X12_counted_3, ↓w_aload_0, ↓w_gf0, ↓w_ret, ↓w_istore_3, ↓w_iload_3, ↓w_icge, ↓w_iload_2, ↓w_gf3, ↓w_iaload, ↓w_ifne, ↓w_goto, ↓w_iadd, ↓w_iinc_3, ↓w_bipush, ↓w_ifge])
            | (with_reducible refine bX12_counted_2 ?_; simp (disch := first | omega | decide) only [w_nl0, w_nli, w_nlr, ↓w_ts1, ↓w_ts0, w_rcv, w_rfv, w_cs, true_and, and_true, List.length_nil, List.length_cons, Nat.reduceAdd, Nat.reduceLeDiff, Nat.zero_le, Nat.reduceLT, ↓w_nil, ix_nI, nI_leP, nI_ltP, nI_eqP, nI_1, ↓i_inN, i_inN, l_le, l_lt, l_eq, r_le, r_lt, r_eq, sh68_0, sh68_1, sh68_2, sh68_3, sh68_4, ↓w_iconst, ↓w_istore_2, ↓w_iload_1, ↓w_sw_X12_counted_3, ↓w_aload_0, ↓w_gf0, ↓w_ret, ↓w_istore_3, ↓w_iload_3, ↓w_icge, ↓w_iload_2, ↓w_gf3, ↓w_iaload, ↓w_ifne, ↓w_goto, ↓w_iadd, ↓w_iinc_3, ↓w_bipush, ↓w_ifge])
            | (with_reducible refine bX12_counted_8 ?_; simp (disch := first | omega | decide) only [w_nl0, w_nli, w_nlr, ↓w_ts1, ↓w_ts0, w_rcv, w_rfv, w_cs, true_and, and_true, List.length_nil, List.length_cons, Nat.reduceAdd, Nat.reduceLeDiff, Nat.zero_le, Nat.reduceLT, ↓w_nil, ix_nI, nI_leP, nI_ltP, nI_eqP, nI_1, ↓i_inN, i_inN, l_le, l_lt, l_eq, r_le, r_lt, r_eq, sh68_0, sh68_1, sh68_2, sh68_3, sh68_4, ↓w_iconst, ↓w_istore_2, ↓w_iload_1, ↓w_sw_X12_counted_3, ↓w_aload_0, ↓w_gf0, ↓w_ret, ↓w_istore_3, ↓w_iload_3, ↓w_icge, ↓w_iload_2, ↓w_gf3, ↓w_iaload, ↓w_ifne, ↓w_goto, ↓w_iadd, ↓w_iinc_3, ↓w_bipush, ↓w_ifge])
            | (with_reducible refine bX12_counted_9 ?_; simp (disch := first | omega | decide) only [w_nl0, w_nli, w_nlr, ↓w_ts1, ↓w_ts0, w_rcv, w_rfv, w_cs, true_and, and_true, List.length_nil, List.length_cons, Nat.reduceAdd, Nat.reduceLeDiff, Nat.zero_le, Nat.reduceLT, ↓w_nil, ix_nI, nI_leP, nI_ltP, nI_eqP, nI_1, ↓i_inN, i_inN, l_le, l_lt, l_eq, r_le, r_lt, r_eq, sh68_0, sh68_1, sh68_2, sh68_3, sh68_4, ↓w_iconst, ↓w_istore_2, ↓w_iload_1, ↓w_sw_X12_counted_3, ↓w_aload_0, ↓w_gf0, ↓w_ret, ↓w_istore_3, ↓w_iload_3, ↓w_icge, ↓w_iload_2, ↓w_gf3, ↓w_iaload, ↓w_ifne, ↓w_goto, ↓w_iadd, ↓w_iinc_3, ↓w_bipush, ↓w_ifge])
            | (with_reducible refine bX12_counted_10 ?_; simp (disch := first | omega | decide) only [w_nl0, w_nli, w_nlr, ↓w_ts1, ↓w_ts0, w_rcv, w_rfv, w_cs, true_and, and_true, List.length_nil, List.length_cons, Nat.reduceAdd, Nat.reduceLeDiff, Nat.zero_le, Nat.reduceLT, ↓w_nil, ix_nI, nI_leP, nI_ltP, nI_eqP, nI_1, ↓i_inN, i_inN, l_le, l_lt, l_eq, r_le, r_lt, r_eq, sh68_0, sh68_1, sh68_2, sh68_3, sh68_4, ↓w_iconst, ↓w_istore_2, ↓w_iload_1, ↓w_sw_X12_counted_3, ↓w_aload_0, ↓w_gf0, ↓w_ret, ↓w_istore_3, ↓w_iload_3, ↓w_icge, ↓w_iload_2, ↓w_gf3, ↓w_iaload, ↓w_ifne, ↓w_goto, ↓w_iadd, ↓w_iinc_3, ↓w_bipush, ↓w_ifge])
            | (with_reducible refine bX12_counted_11 ?_; simp (disch := first | omega | decide) only [w_nl0, w_nli, w_nlr, ↓w_ts1, ↓w_ts0, w_rcv, w_rfv, w_cs, true_and, and_true, List.length_nil, List.length_cons, Nat.reduceAdd, Nat.reduceLeDiff, Nat.zero_le, Nat.reduceLT, ↓w_nil, ix_nI, nI_leP, nI_ltP, nI_eqP, nI_1, ↓i_inN, i_inN, l_le, l_lt, l_eq, r_le, r_lt, r_eq, sh68_0, sh68_1, sh68_2, sh68_3, sh68_4, ↓w_iconst, ↓w_istore_2, ↓w_iload_1, ↓w_sw_X12_counted_3, ↓w_aload_0, ↓w_gf0, ↓w_ret, ↓w_istore_3, ↓w_iload_3, ↓w_icge, ↓w_iload_2, ↓w_gf3, ↓w_iaload, ↓w_ifne, ↓w_goto, ↓w_iadd, ↓w_iinc_3, ↓w_bipush, ↓w_ifge])
            | (with_reducible refine bX12_counted_12 ?_; simp (disch := first | omega | decide) only [w_nl0, w_nli, w_nlr, ↓w_ts1, ↓w_ts0, w_rcv, w_rfv, w_cs, true_and, and_true, List.length_nil, List.length_cons, Nat.reduceAdd, Nat.reduceLeDiff, Nat.zero_le, Nat.reduceLT, ↓w_nil, ix_nI, nI_leP, nI_ltP, nI_eqP, nI_1, ↓i_inN, i_inN, l_le, l_lt, l_eq, r_le, r_lt, r_eq, sh68_0, sh68_1, sh68_2, sh68_3, sh68_4, ↓w_iconst, ↓w_istore_2, ↓w_iload_1, ↓w_sw_X12_counted_3, ↓w_aload_0, ↓w_gf0, ↓w_ret, ↓w_istore_3, ↓w_iload_3, ↓w_icge, ↓w_iload_2, ↓w_gf3, ↓w_iaload, ↓w_ifne, ↓w_goto, ↓w_iadd, ↓w_iinc_3, ↓w_bipush, ↓w_ifge])
            | (with_reducible refine bX12_counted_13 ?_; simp (disch := first | omega | decide) only [w_nl0, w_nli, w_nlr, ↓w_ts1, ↓w_ts0, w_rcv, w_rfv, w_cs, true_and, and_true, List.length_nil, List.length_cons, Nat.reduceAdd, Nat.reduceLeDiff, Nat.zero_le, Nat.reduceLT, ↓w_nil, ix_nI, nI_leP, nI_ltP, nI_eqP, nI_1, ↓i_inN, i_inN, l_le, l_lt, l_eq, r_le, r_lt, r_eq, sh68_0, sh68_1, sh68_2, sh68_3, sh68_4, ↓w_iconst, ↓w_istore_2, ↓w_iload_1, ↓w_sw_X12_counted_3, ↓w_aload_0, ↓w_gf0, ↓w_ret, ↓w_istore_3, ↓w_iload_3, ↓w_icge, ↓w_iload_2, ↓w_gf3, ↓w_iaload, ↓w_ifne, ↓w_goto, ↓w_iadd, ↓w_iinc_3, ↓w_bipush, ↓w_ifge])
            | (simp only [w_in])
            | (intro _))
          all_goals first | exact hQ | grind
theorem cn_eq {I : pm_MI} {J : pm_ML} {n : Nat} {w : Int32} (h : Rel I J) : mcnV I n w = ccnV I n w := by
  have e1 : I 68 15 = I 0 11 := h.2.1.1
  have e2 : I 68 23 = I 9 9 := h.2.2.2.2.1.1
  have e3 : I 84 = I 15 := h.2.2.2.2.1.2.2.2.2.2.2.2.1
  have e4 : I 68 38 = I 23 7 := h.2.2.2.2.2.2.1.1
  have e5 : I 68 16 = I 31 5 := h.2.2.2.2.2.2.2.1.1
  have e6 : I 68 47 = I 37 4 := h.2.2.2.2.2.2.2.2.1.1
  have e7 : I 68 67 = I 55 4 := h.2.2.2.2.2.2.2.2.2.1.1
  have e8 : I 68 73 = I 60 7 := h.2.2.2.2.2.2.2.2.2.2.1.1
  have e9 : I 68 30 = I 9 10 := h.2.2.2.2.1.2.1
  have e10 : I 70 = I 4 := h.2.2.1.2.2.1
  have e11 : I 73 = I 7 := h.2.2.2.1.2.2.1
  have f1 : itr (fun k (a : Int32) => a + (if I 15 k = 0 then 1 else 0)) 0 n = itr (fun k (a : Int32) => if I 15 k = 0 then a + 1 else a) 0 n := itr_cong (fun k _ b => by split <;> simp)
  have f2 : itr (fun k (a : Int32) => a + (if I 4 k < 0 then 0 else 1)) 0 6 = itr (fun k (a : Int32) => if I 4 k < 0 then a else a + 1) 0 6 := itr_cong (fun k _ b => by split <;> simp)
  have f3 : itr (fun k (a : Int32) => a + (if I 7 k < 0 then 0 else 1)) 0 4 = itr (fun k (a : Int32) => if I 7 k < 0 then a else a + 1) 0 4 := itr_cong (fun k _ b => by split <;> simp)
  unfold mcnV ccnV
  rw [e1, e2, e3, e4, e5, e6, e7, e8, e9, e10, e11, f1, f2, f3]
theorem c_count {n : Nat} {w : Int32} (hd : 3 ≤ d) (hn : I 9 9 = nI n) (hn40 : n ≤ 40) (hw : 0 ≤ w ∧ w ≤ 10) (hQ : Q (some (.int (ccnV I n w))) SH I J) : pm_C g d 180 [.ref 0, .int w] Q SH I J := by
  obtain ⟨q, hq, rfl⟩ := i_q (x := w) (n := 11) (by decide) hw.1 (by have : nI 11 = (11 : Int32) := rfl; grind)
  have hc : q = 0 ∨ q = 1 ∨ q = 2 ∨ q = 3 ∨ q = 4 ∨ q = 5 ∨ q = 6 ∨ q = 7 ∨ q = 8 ∨ q = 9 ∨ q = 10 := by omega
  rcases hc with rfl | rfl | rfl | rfl | rfl | rfl | rfl | rfl | rfl | rfl | rfl
  all_goals
    refine eX11_count (by omega) ?_
    repeat' (first
      | (apply And.intro)
      | (with_reducible refine bX11_count_0 ?_; simp (disch := first | omega | decide) only [w_nl0, w_nli, w_nlr, ↓w_ts1, ↓w_ts0, w_rcv, w_rfv, w_cs, true_and, and_true, List.length_nil, List.length_cons, Nat.reduceAdd, Nat.reduceLeDiff, Nat.zero_le, Nat.reduceLT, ↓w_nil, ix_nI, nI_leP, nI_ltP, nI_eqP, nI_1, ↓i_inN, i_inN, l_le, l_lt, l_eq, r_le, r_lt, r_eq, sh0, sh1, sh55, sh60, sh9, sh31, sh23, sh37, sh42, sh43, sh19, sh3, sh6, ↓w_iload_1, ↓w_sw_X11_count_1, ↓w_aload_0, ↓w_gf0, ↓w_ret, ↓w_gf3, ↓w_iv, ↓pm_cl2_1, ↓w_iconst])
      | (with_reducible refine bX11_count_1 ?_; simp (disch := first | omega | decide) only [w_nl0, w_nli, w_nlr, ↓w_ts1, ↓w_ts0, w_rcv, w_rfv, w_cs, true_and, and_true, List.length_nil, List.length_cons, Nat.reduceAdd, Nat.reduceLeDiff, Nat.zero_le, Nat.reduceLT, ↓w_nil, ix_nI, nI_leP, nI_ltP, nI_eqP, nI_1, ↓i_inN, i_inN, l_le, l_lt, l_eq, r_le, r_lt, r_eq, sh0, sh1, sh55, sh60, sh9, sh31, sh23, sh37, sh42, sh43, sh19, sh3, sh6, ↓w_iload_1, ↓w_sw_X11_count_1, ↓w_aload_0, ↓w_gf0, ↓w_ret, ↓w_gf3, ↓w_iv, ↓pm_cl2_1, ↓w_iconst])
      | (with_reducible refine bX11_count_2 ?_; simp (disch := first | omega | decide) only [w_nl0, w_nli, w_nlr, ↓w_ts1, ↓w_ts0, w_rcv, w_rfv, w_cs, true_and, and_true, List.length_nil, List.length_cons, Nat.reduceAdd, Nat.reduceLeDiff, Nat.zero_le, Nat.reduceLT, ↓w_nil, ix_nI, nI_leP, nI_ltP, nI_eqP, nI_1, ↓i_inN, i_inN, l_le, l_lt, l_eq, r_le, r_lt, r_eq, sh0, sh1, sh55, sh60, sh9, sh31, sh23, sh37, sh42, sh43, sh19, sh3, sh6, ↓w_iload_1, ↓w_sw_X11_count_1, ↓w_aload_0, ↓w_gf0, ↓w_ret, ↓w_gf3, ↓w_iv, ↓pm_cl2_1, ↓w_iconst])
      | (with_reducible refine bX11_count_3 ?_; simp (disch := first | omega | decide) only [w_nl0, w_nli, w_nlr, ↓w_ts1, ↓w_ts0, w_rcv, w_rfv, w_cs, true_and, and_true, List.length_nil, List.length_cons, Nat.reduceAdd, Nat.reduceLeDiff, Nat.zero_le, Nat.reduceLT, ↓w_nil, ix_nI, nI_leP, nI_ltP, nI_eqP, nI_1, ↓i_inN, i_inN, l_le, l_lt, l_eq, r_le, r_lt, r_eq, sh0, sh1, sh55, sh60, sh9, sh31, sh23, sh37, sh42, sh43, sh19, sh3, sh6, ↓w_iload_1, ↓w_sw_X11_count_1, ↓w_aload_0, ↓w_gf0, ↓w_ret, ↓w_gf3, ↓w_iv, ↓pm_cl2_1, ↓w_iconst])
      | (with_reducible refine bX11_count_4 ?_; simp (disch := first | omega | decide) only [w_nl0, w_nli, w_nlr, ↓w_ts1, ↓w_ts0, w_rcv, w_rfv, w_cs, true_and, and_true, List.length_nil, List.length_cons, Nat.reduceAdd, Nat.reduceLeDiff, Nat.zero_le, Nat.reduceLT, ↓w_nil, ix_nI, nI_leP, nI_ltP, nI_eqP, nI_1, ↓i_inN, i_inN, l_le, l_lt, l_eq, r_le, r_lt, r_eq, sh0, sh1, sh55, sh60, sh9, sh31, sh23, sh37, sh42, sh43, sh19, sh3, sh6, ↓w_iload_1, ↓w_sw_X11_count_1, ↓w_aload_0, ↓w_gf0, ↓w_ret, ↓w_gf3, ↓w_iv, ↓pm_cl2_1, ↓w_iconst])
      | (with_reducible refine bX11_count_5 ?_; simp (disch := first | omega | decide) only [w_nl0, w_nli, w_nlr, ↓w_ts1, ↓w_ts0, w_rcv, w_rfv, w_cs, true_and, and_true, List.length_nil, List.length_cons, Nat.reduceAdd, Nat.reduceLeDiff, Nat.zero_le, Nat.reduceLT, ↓w_nil, ix_nI, nI_leP, nI_ltP, nI_eqP, nI_1, ↓i_inN, i_inN, l_le, l_lt, l_eq, r_le, r_lt, r_eq, sh0, sh1, sh55, sh60, sh9, sh31, sh23, sh37, sh42, sh43, sh19, sh3, sh6, ↓w_iload_1, ↓w_sw_X11_count_1, ↓w_aload_0, ↓w_gf0, ↓w_ret, ↓w_gf3, ↓w_iv, ↓pm_cl2_1, ↓w_iconst])
      | (with_reducible refine bX11_count_6 ?_; simp (disch := first | omega | decide) only [w_nl0, w_nli, w_nlr, ↓w_ts1, ↓w_ts0, w_rcv, w_rfv, w_cs, true_and, and_true, List.length_nil, List.length_cons, Nat.reduceAdd, Nat.reduceLeDiff, Nat.zero_le, Nat.reduceLT, ↓w_nil, ix_nI, nI_leP, nI_ltP, nI_eqP, nI_1, ↓i_inN, i_inN, l_le, l_lt, l_eq, r_le, r_lt, r_eq, sh0, sh1, sh55, sh60, sh9, sh31, sh23, sh37, sh42, sh43, sh19, sh3, sh6, ↓w_iload_1, ↓w_sw_X11_count_1, ↓w_aload_0, ↓w_gf0, ↓w_ret, ↓w_gf3, ↓w_iv, ↓pm_cl2_1, ↓w_iconst])
      | (with_reducible refine bX11_count_7 ?_; simp (disch := first | omega | decide) only [w_nl0, w_nli, w_nlr, ↓w_ts1, ↓w_ts0, w_rcv, w_rfv, w_cs, true_and, and_true, List.length_nil, List.length_cons, Nat.reduceAdd, Nat.reduceLeDiff, Nat.zero_le, Nat.reduceLT, ↓w_nil, ix_nI, nI_leP, nI_ltP, nI_eqP, nI_1, ↓i_inN, i_inN, l_le, l_lt, l_eq, r_le, r_lt, r_eq, sh0, sh1, sh55, sh60, sh9, sh31, sh23, sh37, sh42, sh43, sh19, sh3, sh6, ↓w_iload_1, ↓w_sw_X11_count_1, ↓w_aload_0, ↓w_gf0, ↓w_ret, ↓w_gf3, ↓w_iv, ↓pm_cl2_1, ↓w_iconst])
      | (with_reducible refine bX11_count_8 ?_; simp (disch := first | omega | decide) only [w_nl0, w_nli, w_nlr, ↓w_ts1, ↓w_ts0, w_rcv, w_rfv, w_cs, true_and, and_true, List.length_nil, List.length_cons, Nat.reduceAdd, Nat.reduceLeDiff, Nat.zero_le, Nat.reduceLT, ↓w_nil, ix_nI, nI_leP, nI_ltP, nI_eqP, nI_1, ↓i_inN, i_inN, l_le, l_lt, l_eq, r_le, r_lt, r_eq, sh0, sh1, sh55, sh60, sh9, sh31, sh23, sh37, sh42, sh43, sh19, sh3, sh6, ↓w_iload_1, ↓w_sw_X11_count_1, ↓w_aload_0, ↓w_gf0, ↓w_ret, ↓w_gf3, ↓w_iv, ↓pm_cl2_1, ↓w_iconst])
      | (with_reducible refine bX11_count_9 ?_; simp (disch := first | omega | decide) only [w_nl0, w_nli, w_nlr, ↓w_ts1, ↓w_ts0, w_rcv, w_rfv, w_cs, true_and, and_true, List.length_nil, List.length_cons, Nat.reduceAdd, Nat.reduceLeDiff, Nat.zero_le, Nat.reduceLT, ↓w_nil, ix_nI, nI_leP, nI_ltP, nI_eqP, nI_1, ↓i_inN, i_inN, l_le, l_lt, l_eq, r_le, r_lt, r_eq, sh0, sh1, sh55, sh60, sh9, sh31, sh23, sh37, sh42, sh43, sh19, sh3, sh6, ↓w_iload_1, ↓w_sw_X11_count_1, ↓w_aload_0, ↓w_gf0, ↓w_ret, ↓w_gf3, ↓w_iv, ↓pm_cl2_1, ↓w_iconst])
      | (with_reducible refine bX11_count_10 ?_; simp (disch := first | omega | decide) only [w_nl0, w_nli, w_nlr, ↓w_ts1, ↓w_ts0, w_rcv, w_rfv, w_cs, true_and, and_true, List.length_nil, List.length_cons, Nat.reduceAdd, Nat.reduceLeDiff, Nat.zero_le, Nat.reduceLT, ↓w_nil, ix_nI, nI_leP, nI_ltP, nI_eqP, nI_1, ↓i_inN, i_inN, l_le, l_lt, l_eq, r_le, r_lt, r_eq, sh0, sh1, sh55, sh60, sh9, sh31, sh23, sh37, sh42, sh43, sh19, sh3, sh6, ↓w_iload_1, ↓w_sw_X11_count_1, ↓w_aload_0, ↓w_gf0, ↓w_ret, ↓w_gf3, ↓w_iv, ↓pm_cl2_1, ↓w_iconst])
      | (with_reducible refine bX11_count_11 ?_; simp (disch := first | omega | decide) only [w_nl0, w_nli, w_nlr, ↓w_ts1, ↓w_ts0, w_rcv, w_rfv, w_cs, true_and, and_true, List.length_nil, List.length_cons, Nat.reduceAdd, Nat.reduceLeDiff, Nat.zero_le, Nat.reduceLT, ↓w_nil, ix_nI, nI_leP, nI_ltP, nI_eqP, nI_1, ↓i_inN, i_inN, l_le, l_lt, l_eq, r_le, r_lt, r_eq, sh0, sh1, sh55, sh60, sh9, sh31, sh23, sh37, sh42, sh43, sh19, sh3, sh6, ↓w_iload_1, ↓w_sw_X11_count_1, ↓w_aload_0, ↓w_gf0, ↓w_ret, ↓w_gf3, ↓w_iv, ↓pm_cl2_1, ↓w_iconst])
      | (with_reducible refine c_there (by omega) hn hn40 ?_ ; simp (disch := first | omega | decide) only [w_nl0, w_nli, w_nlr, ↓w_ts1, ↓w_ts0, w_rcv, w_rfv, w_cs, true_and, and_true, List.length_nil, List.length_cons, Nat.reduceAdd, Nat.reduceLeDiff, Nat.zero_le, Nat.reduceLT, ↓w_nil, ix_nI, nI_leP, nI_ltP, nI_eqP, nI_1, ↓i_inN, i_inN, l_le, l_lt, l_eq, r_le, r_lt, r_eq, sh0, sh1, sh55, sh60, sh9, sh31, sh23, sh37, sh42, sh43, sh19, sh3, sh6, ↓w_iload_1, ↓w_sw_X11_count_1, ↓w_aload_0, ↓w_gf0, ↓w_ret, ↓w_gf3, ↓w_iv, ↓pm_cl2_1, ↓w_iconst])
      | (with_reducible refine c_presentR (by omega) ?_ ; simp (disch := first | omega | decide) only [w_nl0, w_nli, w_nlr, ↓w_ts1, ↓w_ts0, w_rcv, w_rfv, w_cs, true_and, and_true, List.length_nil, List.length_cons, Nat.reduceAdd, Nat.reduceLeDiff, Nat.zero_le, Nat.reduceLT, ↓w_nil, ix_nI, nI_leP, nI_ltP, nI_eqP, nI_1, ↓i_inN, i_inN, l_le, l_lt, l_eq, r_le, r_lt, r_eq, sh0, sh1, sh55, sh60, sh9, sh31, sh23, sh37, sh42, sh43, sh19, sh3, sh6, ↓w_iload_1, ↓w_sw_X11_count_1, ↓w_aload_0, ↓w_gf0, ↓w_ret, ↓w_gf3, ↓w_iv, ↓pm_cl2_1, ↓w_iconst])
      | (with_reducible refine c_presentT (by omega) ?_ ; simp (disch := first | omega | decide) only [w_nl0, w_nli, w_nlr, ↓w_ts1, ↓w_ts0, w_rcv, w_rfv, w_cs, true_and, and_true, List.length_nil, List.length_cons, Nat.reduceAdd, Nat.reduceLeDiff, Nat.zero_le, Nat.reduceLT, ↓w_nil, ix_nI, nI_leP, nI_ltP, nI_eqP, nI_1, ↓i_inN, i_inN, l_le, l_lt, l_eq, r_le, r_lt, r_eq, sh0, sh1, sh55, sh60, sh9, sh31, sh23, sh37, sh42, sh43, sh19, sh3, sh6, ↓w_iload_1, ↓w_sw_X11_count_1, ↓w_aload_0, ↓w_gf0, ↓w_ret, ↓w_gf3, ↓w_iv, ↓pm_cl2_1, ↓w_iconst])
      | (simp only [w_in])
      | (intro _))
    all_goals first | exact hQ | grind
theorem p_count {w : Int32} (hd : 10 ≤ d) : PC g d 180 291 [.int w] := by
  intro I J h
  have hw := relw h
  by_cases hx : 0 ≤ w ∧ w ≤ 10
  · have e := fun n => cn_eq (n := n) (w := w) h
    obtain ⟨n1, c1, k1, s1, f1, h1, b1, w1, x1, t1, o1, ⟨C, hC, hC2⟩, N, hN, hN2, hm, hmono⟩ := h.2.2.2.2.1
    clear hm hmono
    refine c_count (n := N) (by omega) hN2 hN hx ?_
    refine ⟨rfl, ?_⟩
    rw [← e N]
    all_goals try refine MC.of (eX12_count (by omega) ?_)
    all_goals
      repeat' (first
        | (apply And.intro)
        | (with_reducible refine bX12_count_0 ?_; simp (disch := first | omega | decide) only [w_nl0, w_nli, w_nlr, ↓w_ts1, ↓w_ts0, w_rcv, w_rfv, w_cs, true_and, and_true, List.length_nil, List.length_cons, Nat.reduceAdd, Nat.reduceLeDiff, Nat.zero_le, Nat.reduceLT, ↓w_nil, ix_nI, nI_leP, nI_ltP, nI_eqP, nI_1, ↓i_inN, i_inN, l_le, l_lt, l_eq, r_le, r_lt, r_eq, sh68_0, sh68_1, sh68_2, sh68_3, sh68_4, ↓w_iload_1, ↓w_iconst, ↓w_bipush, ↓w_is, ↓pm_cl1_3, ↓w_ifeq, ↓w_aload_0, ↓w_iv, ↓pm_cl2_2, ↓w_goto, ↓w_ret])
        | (with_reducible refine bX12_count_1 ?_; simp (disch := first | omega | decide) only [w_nl0, w_nli, w_nlr, ↓w_ts1, ↓w_ts0, w_rcv, w_rfv, w_cs, true_and, and_true, List.length_nil, List.length_cons, Nat.reduceAdd, Nat.reduceLeDiff, Nat.zero_le, Nat.reduceLT, ↓w_nil, ix_nI, nI_leP, nI_ltP, nI_eqP, nI_1, ↓i_inN, i_inN, l_le, l_lt, l_eq, r_le, r_lt, r_eq, sh68_0, sh68_1, sh68_2, sh68_3, sh68_4, ↓w_iload_1, ↓w_iconst, ↓w_bipush, ↓w_is, ↓pm_cl1_3, ↓w_ifeq, ↓w_aload_0, ↓w_iv, ↓pm_cl2_2, ↓w_goto, ↓w_ret])
        | (with_reducible refine bX12_count_2 ?_; simp (disch := first | omega | decide) only [w_nl0, w_nli, w_nlr, ↓w_ts1, ↓w_ts0, w_rcv, w_rfv, w_cs, true_and, and_true, List.length_nil, List.length_cons, Nat.reduceAdd, Nat.reduceLeDiff, Nat.zero_le, Nat.reduceLT, ↓w_nil, ix_nI, nI_leP, nI_ltP, nI_eqP, nI_1, ↓i_inN, i_inN, l_le, l_lt, l_eq, r_le, r_lt, r_eq, sh68_0, sh68_1, sh68_2, sh68_3, sh68_4, ↓w_iload_1, ↓w_iconst, ↓w_bipush, ↓w_is, ↓pm_cl1_3, ↓w_ifeq, ↓w_aload_0, ↓w_iv, ↓pm_cl2_2, ↓w_goto, ↓w_ret])
        | (with_reducible refine m_in (by omega) ?_ ; simp (disch := first | omega | decide) only [w_nl0, w_nli, w_nlr, ↓w_ts1, ↓w_ts0, w_rcv, w_rfv, w_cs, true_and, and_true, List.length_nil, List.length_cons, Nat.reduceAdd, Nat.reduceLeDiff, Nat.zero_le, Nat.reduceLT, ↓w_nil, ix_nI, nI_leP, nI_ltP, nI_eqP, nI_1, ↓i_inN, i_inN, l_le, l_lt, l_eq, r_le, r_lt, r_eq, sh68_0, sh68_1, sh68_2, sh68_3, sh68_4, ↓w_iload_1, ↓w_iconst, ↓w_bipush, ↓w_is, ↓pm_cl1_3, ↓w_ifeq, ↓w_aload_0, ↓w_iv, ↓pm_cl2_2, ↓w_goto, ↓w_ret])
        | (with_reducible refine m_counted (n := N) (by omega) (by rw [n1, hN2]) hN hx ?_ ; simp (disch := first | omega | decide) only [w_nl0, w_nli, w_nlr, ↓w_ts1, ↓w_ts0, w_rcv, w_rfv, w_cs, true_and, and_true, List.length_nil, List.length_cons, Nat.reduceAdd, Nat.reduceLeDiff, Nat.zero_le, Nat.reduceLT, ↓w_nil, ix_nI, nI_leP, nI_ltP, nI_eqP, nI_1, ↓i_inN, i_inN, l_le, l_lt, l_eq, r_le, r_lt, r_eq, sh68_0, sh68_1, sh68_2, sh68_3, sh68_4, ↓w_iload_1, ↓w_iconst, ↓w_bipush, ↓w_is, ↓pm_cl1_3, ↓w_ifeq, ↓w_aload_0, ↓w_iv, ↓pm_cl2_2, ↓w_goto, ↓w_ret])
        | (simp only [w_in])
        | (intro _))
    all_goals first | rfl | exact hw | exact relw_found hw | exact relw_asks hw | grind
  · refine eX11_count (by omega) ?_
    repeat' (first
      | (apply And.intro)
      | (with_reducible refine bX11_count_0 ?_; simp (disch := first | omega | decide) only [w_nl0, w_nli, w_nlr, ↓w_ts1, ↓w_ts0, w_rcv, w_rfv, w_cs, true_and, and_true, List.length_nil, List.length_cons, Nat.reduceAdd, Nat.reduceLeDiff, Nat.zero_le, Nat.reduceLT, ↓w_nil, ix_nI, nI_leP, nI_ltP, nI_eqP, nI_1, ↓i_inN, i_inN, l_le, l_lt, l_eq, r_le, r_lt, r_eq, sh0, sh1, sh55, sh60, sh9, sh31, sh23, sh37, sh42, sh43, sh19, sh3, sh6, ↓w_iload_1, ↓w_sw_X11_count_1, ↓w_aload_0, ↓w_gf0, ↓w_ret, ↓w_gf3, ↓w_iv, ↓pm_cl2_1, ↓w_iconst])
      | (with_reducible refine bX11_count_12 ?_; simp (disch := first | omega | decide) only [w_nl0, w_nli, w_nlr, ↓w_ts1, ↓w_ts0, w_rcv, w_rfv, w_cs, true_and, and_true, List.length_nil, List.length_cons, Nat.reduceAdd, Nat.reduceLeDiff, Nat.zero_le, Nat.reduceLT, ↓w_nil, ix_nI, nI_leP, nI_ltP, nI_eqP, nI_1, ↓i_inN, i_inN, l_le, l_lt, l_eq, r_le, r_lt, r_eq, sh0, sh1, sh55, sh60, sh9, sh31, sh23, sh37, sh42, sh43, sh19, sh3, sh6, ↓w_iload_1, ↓w_sw_X11_count_1, ↓w_aload_0, ↓w_gf0, ↓w_ret, ↓w_gf3, ↓w_iv, ↓pm_cl2_1, ↓w_iconst])
      | (simp only [w_in])
      | (intro _))
    all_goals try rfl
    all_goals try grind
    all_goals try refine MC.of (eX12_count (by omega) ?_)
    all_goals
      repeat' (first
        | (apply And.intro)
        | (with_reducible refine bX12_count_0 ?_; simp (disch := first | omega | decide) only [w_nl0, w_nli, w_nlr, ↓w_ts1, ↓w_ts0, w_rcv, w_rfv, w_cs, true_and, and_true, List.length_nil, List.length_cons, Nat.reduceAdd, Nat.reduceLeDiff, Nat.zero_le, Nat.reduceLT, ↓w_nil, ix_nI, nI_leP, nI_ltP, nI_eqP, nI_1, ↓i_inN, i_inN, l_le, l_lt, l_eq, r_le, r_lt, r_eq, sh68_0, sh68_1, sh68_2, sh68_3, sh68_4, ↓w_iload_1, ↓w_iconst, ↓w_bipush, ↓w_is, ↓pm_cl1_3, ↓w_ifeq, ↓w_aload_0, ↓w_iv, ↓pm_cl2_2, ↓w_goto, ↓w_ret])
        | (with_reducible refine bX12_count_1 ?_; simp (disch := first | omega | decide) only [w_nl0, w_nli, w_nlr, ↓w_ts1, ↓w_ts0, w_rcv, w_rfv, w_cs, true_and, and_true, List.length_nil, List.length_cons, Nat.reduceAdd, Nat.reduceLeDiff, Nat.zero_le, Nat.reduceLT, ↓w_nil, ix_nI, nI_leP, nI_ltP, nI_eqP, nI_1, ↓i_inN, i_inN, l_le, l_lt, l_eq, r_le, r_lt, r_eq, sh68_0, sh68_1, sh68_2, sh68_3, sh68_4, ↓w_iload_1, ↓w_iconst, ↓w_bipush, ↓w_is, ↓pm_cl1_3, ↓w_ifeq, ↓w_aload_0, ↓w_iv, ↓pm_cl2_2, ↓w_goto, ↓w_ret])
        | (with_reducible refine bX12_count_2 ?_; simp (disch := first | omega | decide) only [w_nl0, w_nli, w_nlr, ↓w_ts1, ↓w_ts0, w_rcv, w_rfv, w_cs, true_and, and_true, List.length_nil, List.length_cons, Nat.reduceAdd, Nat.reduceLeDiff, Nat.zero_le, Nat.reduceLT, ↓w_nil, ix_nI, nI_leP, nI_ltP, nI_eqP, nI_1, ↓i_inN, i_inN, l_le, l_lt, l_eq, r_le, r_lt, r_eq, sh68_0, sh68_1, sh68_2, sh68_3, sh68_4, ↓w_iload_1, ↓w_iconst, ↓w_bipush, ↓w_is, ↓pm_cl1_3, ↓w_ifeq, ↓w_aload_0, ↓w_iv, ↓pm_cl2_2, ↓w_goto, ↓w_ret])
        | (with_reducible refine m_in (by omega) ?_ ; simp (disch := first | omega | decide) only [w_nl0, w_nli, w_nlr, ↓w_ts1, ↓w_ts0, w_rcv, w_rfv, w_cs, true_and, and_true, List.length_nil, List.length_cons, Nat.reduceAdd, Nat.reduceLeDiff, Nat.zero_le, Nat.reduceLT, ↓w_nil, ix_nI, nI_leP, nI_ltP, nI_eqP, nI_1, ↓i_inN, i_inN, l_le, l_lt, l_eq, r_le, r_lt, r_eq, sh68_0, sh68_1, sh68_2, sh68_3, sh68_4, ↓w_iload_1, ↓w_iconst, ↓w_bipush, ↓w_is, ↓pm_cl1_3, ↓w_ifeq, ↓w_aload_0, ↓w_iv, ↓pm_cl2_2, ↓w_goto, ↓w_ret])
        | (simp only [w_in])
        | (intro _))
    all_goals first | rfl | exact hw | exact relw_found hw | exact relw_asks hw | grind
theorem c_cfIn {q v N : Nat} (hd : 2 ≤ d) (hN2 : I 42 6 = nI N) (hN : N ≤ 3) (hq : q < N) (hv : v < 6) (hQ : Q (some (.int (I 54 (6 * q + v)))) SH I J) : pm_C g d 101 [.ref 42, .int (nI q), .int (nI v)] Q SH I J := by
  have m6 : nI q * 6 + nI v = nI (6 * q + v) := by
    rw [show (6 : Int32) = nI 6 from rfl, pk_mul, nI_add, Nat.mul_comm]
  refine eX8_causeFact (by omega) ?_
  repeat' (first
    | (apply And.intro)
    | (with_reducible refine bX8_causeFact_0 ?_; simp (disch := first | omega | decide) only [w_nl0, w_nli, w_nlr, ↓w_ts1, ↓w_ts0, w_rcv, w_rfv, w_cs, true_and, and_true, List.length_nil, List.length_cons, Nat.reduceAdd, Nat.reduceLeDiff, Nat.zero_le, Nat.reduceLT, ↓w_nil, ix_nI, nI_leP, nI_ltP, nI_eqP, nI_1, ↓i_inN, i_inN, l_le, l_lt, l_eq, r_le, r_lt, r_eq, sh42, sh43, ↓w_iload_1, ↓w_aload_0, ↓w_gf0, ↓w_is, ↓pm_cl1_2, ↓w_ifeq, ↓w_iconst, ↓w_icge, ↓w_iload_2, ↓w_bipush, ↓w_ifne, ↓w_ret, ↓w_gf3, ↓w_imul, ↓w_iadd, ↓w_iaload, hN2, m6])
    | (with_reducible refine bX8_causeFact_1 ?_; simp (disch := first | omega | decide) only [w_nl0, w_nli, w_nlr, ↓w_ts1, ↓w_ts0, w_rcv, w_rfv, w_cs, true_and, and_true, List.length_nil, List.length_cons, Nat.reduceAdd, Nat.reduceLeDiff, Nat.zero_le, Nat.reduceLT, ↓w_nil, ix_nI, nI_leP, nI_ltP, nI_eqP, nI_1, ↓i_inN, i_inN, l_le, l_lt, l_eq, r_le, r_lt, r_eq, sh42, sh43, ↓w_iload_1, ↓w_aload_0, ↓w_gf0, ↓w_is, ↓pm_cl1_2, ↓w_ifeq, ↓w_iconst, ↓w_icge, ↓w_iload_2, ↓w_bipush, ↓w_ifne, ↓w_ret, ↓w_gf3, ↓w_imul, ↓w_iadd, ↓w_iaload, hN2, m6])
    | (with_reducible refine bX8_causeFact_2 ?_; simp (disch := first | omega | decide) only [w_nl0, w_nli, w_nlr, ↓w_ts1, ↓w_ts0, w_rcv, w_rfv, w_cs, true_and, and_true, List.length_nil, List.length_cons, Nat.reduceAdd, Nat.reduceLeDiff, Nat.zero_le, Nat.reduceLT, ↓w_nil, ix_nI, nI_leP, nI_ltP, nI_eqP, nI_1, ↓i_inN, i_inN, l_le, l_lt, l_eq, r_le, r_lt, r_eq, sh42, sh43, ↓w_iload_1, ↓w_aload_0, ↓w_gf0, ↓w_is, ↓pm_cl1_2, ↓w_ifeq, ↓w_iconst, ↓w_icge, ↓w_iload_2, ↓w_bipush, ↓w_ifne, ↓w_ret, ↓w_gf3, ↓w_imul, ↓w_iadd, ↓w_iaload, hN2, m6])
    | (with_reducible refine c_below (by omega) ?_ ; simp (disch := first | omega | decide) only [w_nl0, w_nli, w_nlr, ↓w_ts1, ↓w_ts0, w_rcv, w_rfv, w_cs, true_and, and_true, List.length_nil, List.length_cons, Nat.reduceAdd, Nat.reduceLeDiff, Nat.zero_le, Nat.reduceLT, ↓w_nil, ix_nI, nI_leP, nI_ltP, nI_eqP, nI_1, ↓i_inN, i_inN, l_le, l_lt, l_eq, r_le, r_lt, r_eq, sh42, sh43, ↓w_iload_1, ↓w_aload_0, ↓w_gf0, ↓w_is, ↓pm_cl1_2, ↓w_ifeq, ↓w_iconst, ↓w_icge, ↓w_iload_2, ↓w_bipush, ↓w_ifne, ↓w_ret, ↓w_gf3, ↓w_imul, ↓w_iadd, ↓w_iaload, hN2, m6])
    | (simp only [w_in])
    | (intro _))
  all_goals grind
theorem c_cfOut {x w : Int32} {N : Nat} (hd : 2 ≤ d) (hN2 : I 42 6 = nI N) (hx : ¬ (0 ≤ x ∧ x < nI N)) (hQ : Q (some (.int (-9))) SH I J) : pm_C g d 101 [.ref 42, .int x, .int w] Q SH I J := by
  refine eX8_causeFact (by omega) ?_
  repeat' (first
    | (apply And.intro)
    | (with_reducible refine bX8_causeFact_0 ?_; simp (disch := first | omega | decide) only [w_nl0, w_nli, w_nlr, ↓w_ts1, ↓w_ts0, w_rcv, w_rfv, w_cs, true_and, and_true, List.length_nil, List.length_cons, Nat.reduceAdd, Nat.reduceLeDiff, Nat.zero_le, Nat.reduceLT, ↓w_nil, ix_nI, nI_leP, nI_ltP, nI_eqP, nI_1, ↓i_inN, i_inN, l_le, l_lt, l_eq, r_le, r_lt, r_eq, sh42, sh43, ↓w_iload_1, ↓w_aload_0, ↓w_gf0, ↓w_is, ↓pm_cl1_2, ↓w_ifeq, ↓w_iconst, ↓w_icge, ↓w_iload_2, ↓w_bipush, ↓w_ifne, ↓w_ret, ↓w_gf3, ↓w_imul, ↓w_iadd, ↓w_iaload, hN2])
    | (with_reducible refine bX8_causeFact_1 ?_; simp (disch := first | omega | decide) only [w_nl0, w_nli, w_nlr, ↓w_ts1, ↓w_ts0, w_rcv, w_rfv, w_cs, true_and, and_true, List.length_nil, List.length_cons, Nat.reduceAdd, Nat.reduceLeDiff, Nat.zero_le, Nat.reduceLT, ↓w_nil, ix_nI, nI_leP, nI_ltP, nI_eqP, nI_1, ↓i_inN, i_inN, l_le, l_lt, l_eq, r_le, r_lt, r_eq, sh42, sh43, ↓w_iload_1, ↓w_aload_0, ↓w_gf0, ↓w_is, ↓pm_cl1_2, ↓w_ifeq, ↓w_iconst, ↓w_icge, ↓w_iload_2, ↓w_bipush, ↓w_ifne, ↓w_ret, ↓w_gf3, ↓w_imul, ↓w_iadd, ↓w_iaload, hN2])
    | (with_reducible refine c_below (by omega) ?_ ; simp (disch := first | omega | decide) only [w_nl0, w_nli, w_nlr, ↓w_ts1, ↓w_ts0, w_rcv, w_rfv, w_cs, true_and, and_true, List.length_nil, List.length_cons, Nat.reduceAdd, Nat.reduceLeDiff, Nat.zero_le, Nat.reduceLT, ↓w_nil, ix_nI, nI_leP, nI_ltP, nI_eqP, nI_1, ↓i_inN, i_inN, l_le, l_lt, l_eq, r_le, r_lt, r_eq, sh42, sh43, ↓w_iload_1, ↓w_aload_0, ↓w_gf0, ↓w_is, ↓pm_cl1_2, ↓w_ifeq, ↓w_iconst, ↓w_icge, ↓w_iload_2, ↓w_bipush, ↓w_ifne, ↓w_ret, ↓w_gf3, ↓w_imul, ↓w_iadd, ↓w_iaload, hN2])
    | (simp only [w_in])
    | (intro _))
  all_goals grind
theorem p_causeTold {x w : Int32} (hd : 10 ≤ d) : PC g d 156 262 [.int x, .int w] := by
  intro I J h
  have hw := relw h
  obtain ⟨e1, N, hN, hN2, hp⟩ := h.2.2.2.2.2.2.2.2.2.2.2
  have hN1 : nI N - 1 < nI N := by
    rcases (show N = 0 ∨ N = 1 ∨ N = 2 ∨ N = 3 by omega) with rfl | rfl | rfl | rfl <;> decide
  have hN3 : ∀ y : Int32, (0 ≤ y ∧ y ≤ nI N - 1) ↔ (0 ≤ y ∧ y < nI N) := by
    intro y
    rcases (show N = 0 ∨ N = 1 ∨ N = 2 ∨ N = 3 by omega) with rfl | rfl | rfl | rfl
    · have : nI 0 = (0 : Int32) := rfl
      grind
    · have : nI 1 = (1 : Int32) := rfl
      grind
    · have : nI 2 = (2 : Int32) := rfl
      grind
    · have : nI 3 = (3 : Int32) := rfl
      grind
  have hx3 := hN3 x
  clear hN3
  by_cases hg : 0 ≤ w ∧ w < 6
  · by_cases hx : 0 ≤ x ∧ x < nI N
    · obtain ⟨q, hq, rfl⟩ := i_q (by omega) hx.1 hx.2
      obtain ⟨v, hv, rfl⟩ := i_q (n := 6) (by decide) hg.1 hg.2
      have hpq := hp (6 * q + v) (by omega)
      clear hp
      have m7 : 6 * nI q + nI v = nI (6 * q + v) := by
        rw [show (6 : Int32) = nI 6 from rfl, pk_mul, nI_add]
      refine eX11_causeTold (by omega) ?_
      repeat' (first
        | (apply And.intro)
        | (with_reducible refine bX11_causeTold_0 ?_; simp (disch := first | omega | decide) only [w_nl0, w_nli, w_nlr, ↓w_ts1, ↓w_ts0, w_rcv, w_rfv, w_cs, true_and, and_true, List.length_nil, List.length_cons, Nat.reduceAdd, Nat.reduceLeDiff, Nat.zero_le, Nat.reduceLT, ↓w_nil, ix_nI, nI_leP, nI_ltP, nI_eqP, nI_1, ↓i_inN, i_inN, l_le, l_lt, l_eq, r_le, r_lt, r_eq, sh0, sh1, sh55, sh60, sh9, sh31, sh23, sh37, sh42, sh43, sh19, sh3, sh6, ↓w_iload_2, ↓w_bipush, ↓w_is, ↓pm_cl1_2, ↓w_ifne, ↓w_iconst, ↓w_ret, ↓w_aload_0, ↓w_gf3, ↓w_iload_1, ↓w_iv, ↓pm_cl2_3])
        | (with_reducible refine bX11_causeTold_1 ?_; simp (disch := first | omega | decide) only [w_nl0, w_nli, w_nlr, ↓w_ts1, ↓w_ts0, w_rcv, w_rfv, w_cs, true_and, and_true, List.length_nil, List.length_cons, Nat.reduceAdd, Nat.reduceLeDiff, Nat.zero_le, Nat.reduceLT, ↓w_nil, ix_nI, nI_leP, nI_ltP, nI_eqP, nI_1, ↓i_inN, i_inN, l_le, l_lt, l_eq, r_le, r_lt, r_eq, sh0, sh1, sh55, sh60, sh9, sh31, sh23, sh37, sh42, sh43, sh19, sh3, sh6, ↓w_iload_2, ↓w_bipush, ↓w_is, ↓pm_cl1_2, ↓w_ifne, ↓w_iconst, ↓w_ret, ↓w_aload_0, ↓w_gf3, ↓w_iload_1, ↓w_iv, ↓pm_cl2_3])
        | (with_reducible refine c_below (by omega) ?_ ; simp (disch := first | omega | decide) only [w_nl0, w_nli, w_nlr, ↓w_ts1, ↓w_ts0, w_rcv, w_rfv, w_cs, true_and, and_true, List.length_nil, List.length_cons, Nat.reduceAdd, Nat.reduceLeDiff, Nat.zero_le, Nat.reduceLT, ↓w_nil, ix_nI, nI_leP, nI_ltP, nI_eqP, nI_1, ↓i_inN, i_inN, l_le, l_lt, l_eq, r_le, r_lt, r_eq, sh0, sh1, sh55, sh60, sh9, sh31, sh23, sh37, sh42, sh43, sh19, sh3, sh6, ↓w_iload_2, ↓w_bipush, ↓w_is, ↓pm_cl1_2, ↓w_ifne, ↓w_iconst, ↓w_ret, ↓w_aload_0, ↓w_gf3, ↓w_iload_1, ↓w_iv, ↓pm_cl2_3])
        | (with_reducible refine c_cfIn (by omega) hN2 hN hq hv ?_ ; simp (disch := first | omega | decide) only [w_nl0, w_nli, w_nlr, ↓w_ts1, ↓w_ts0, w_rcv, w_rfv, w_cs, true_and, and_true, List.length_nil, List.length_cons, Nat.reduceAdd, Nat.reduceLeDiff, Nat.zero_le, Nat.reduceLT, ↓w_nil, ix_nI, nI_leP, nI_ltP, nI_eqP, nI_1, ↓i_inN, i_inN, l_le, l_lt, l_eq, r_le, r_lt, r_eq, sh0, sh1, sh55, sh60, sh9, sh31, sh23, sh37, sh42, sh43, sh19, sh3, sh6, ↓w_iload_2, ↓w_bipush, ↓w_is, ↓pm_cl1_2, ↓w_ifne, ↓w_iconst, ↓w_ret, ↓w_aload_0, ↓w_gf3, ↓w_iload_1, ↓w_iv, ↓pm_cl2_3])
        | (simp only [w_in])
        | (intro _))
      all_goals try rfl
      all_goals try grind
      all_goals try refine MC.of (eX12_causeTold (by omega) ?_)
      all_goals
        repeat' (first
          | (apply And.intro)
          | (with_reducible refine bX12_causeTold_0 ?_; simp (disch := first | omega | decide) only [w_nl0, w_nli, w_nlr, ↓w_ts1, ↓w_ts0, w_rcv, w_rfv, w_cs, true_and, and_true, List.length_nil, List.length_cons, Nat.reduceAdd, Nat.reduceLeDiff, Nat.zero_le, Nat.reduceLT, ↓w_nil, ix_nI, nI_leP, nI_ltP, nI_eqP, nI_1, ↓i_inN, i_inN, l_le, l_lt, l_eq, r_le, r_lt, r_eq, sh68_0, sh68_1, sh68_2, sh68_3, sh68_4, ↓w_iload_2, ↓w_iconst, ↓w_is, ↓pm_cl1_3, ↓w_ifne, ↓w_goto, ↓w_iload_1, ↓w_aload_0, ↓w_gf0, ↓w_isub, ↓w_ifeq, ↓w_gf3, ↓w_bipush, ↓w_imul, ↓w_iadd, ↓w_iaload, ↓w_ret, e1, hN2, m7])
          | (with_reducible refine bX12_causeTold_1 ?_; simp (disch := first | omega | decide) only [w_nl0, w_nli, w_nlr, ↓w_ts1, ↓w_ts0, w_rcv, w_rfv, w_cs, true_and, and_true, List.length_nil, List.length_cons, Nat.reduceAdd, Nat.reduceLeDiff, Nat.zero_le, Nat.reduceLT, ↓w_nil, ix_nI, nI_leP, nI_ltP, nI_eqP, nI_1, ↓i_inN, i_inN, l_le, l_lt, l_eq, r_le, r_lt, r_eq, sh68_0, sh68_1, sh68_2, sh68_3, sh68_4, ↓w_iload_2, ↓w_iconst, ↓w_is, ↓pm_cl1_3, ↓w_ifne, ↓w_goto, ↓w_iload_1, ↓w_aload_0, ↓w_gf0, ↓w_isub, ↓w_ifeq, ↓w_gf3, ↓w_bipush, ↓w_imul, ↓w_iadd, ↓w_iaload, ↓w_ret, e1, hN2, m7])
          | (with_reducible refine bX12_causeTold_2 ?_; simp (disch := first | omega | decide) only [w_nl0, w_nli, w_nlr, ↓w_ts1, ↓w_ts0, w_rcv, w_rfv, w_cs, true_and, and_true, List.length_nil, List.length_cons, Nat.reduceAdd, Nat.reduceLeDiff, Nat.zero_le, Nat.reduceLT, ↓w_nil, ix_nI, nI_leP, nI_ltP, nI_eqP, nI_1, ↓i_inN, i_inN, l_le, l_lt, l_eq, r_le, r_lt, r_eq, sh68_0, sh68_1, sh68_2, sh68_3, sh68_4, ↓w_iload_2, ↓w_iconst, ↓w_is, ↓pm_cl1_3, ↓w_ifne, ↓w_goto, ↓w_iload_1, ↓w_aload_0, ↓w_gf0, ↓w_isub, ↓w_ifeq, ↓w_gf3, ↓w_bipush, ↓w_imul, ↓w_iadd, ↓w_iaload, ↓w_ret, e1, hN2, m7])
          | (with_reducible refine bX12_causeTold_3 ?_; simp (disch := first | omega | decide) only [w_nl0, w_nli, w_nlr, ↓w_ts1, ↓w_ts0, w_rcv, w_rfv, w_cs, true_and, and_true, List.length_nil, List.length_cons, Nat.reduceAdd, Nat.reduceLeDiff, Nat.zero_le, Nat.reduceLT, ↓w_nil, ix_nI, nI_leP, nI_ltP, nI_eqP, nI_1, ↓i_inN, i_inN, l_le, l_lt, l_eq, r_le, r_lt, r_eq, sh68_0, sh68_1, sh68_2, sh68_3, sh68_4, ↓w_iload_2, ↓w_iconst, ↓w_is, ↓pm_cl1_3, ↓w_ifne, ↓w_goto, ↓w_iload_1, ↓w_aload_0, ↓w_gf0, ↓w_isub, ↓w_ifeq, ↓w_gf3, ↓w_bipush, ↓w_imul, ↓w_iadd, ↓w_iaload, ↓w_ret, e1, hN2, m7])
          | (with_reducible refine m_in (by omega) ?_ ; simp (disch := first | omega | decide) only [w_nl0, w_nli, w_nlr, ↓w_ts1, ↓w_ts0, w_rcv, w_rfv, w_cs, true_and, and_true, List.length_nil, List.length_cons, Nat.reduceAdd, Nat.reduceLeDiff, Nat.zero_le, Nat.reduceLT, ↓w_nil, ix_nI, nI_leP, nI_ltP, nI_eqP, nI_1, ↓i_inN, i_inN, l_le, l_lt, l_eq, r_le, r_lt, r_eq, sh68_0, sh68_1, sh68_2, sh68_3, sh68_4, ↓w_iload_2, ↓w_iconst, ↓w_is, ↓pm_cl1_3, ↓w_ifne, ↓w_goto, ↓w_iload_1, ↓w_aload_0, ↓w_gf0, ↓w_isub, ↓w_ifeq, ↓w_gf3, ↓w_bipush, ↓w_imul, ↓w_iadd, ↓w_iaload, ↓w_ret, e1, hN2, m7])
          | (simp only [w_in])
          | (intro _))
      all_goals first | rfl | exact hw | exact relw_found hw | exact relw_asks hw | grind
    · clear hp
      refine eX11_causeTold (by omega) ?_
      repeat' (first
        | (apply And.intro)
        | (with_reducible refine bX11_causeTold_0 ?_; simp (disch := first | omega | decide) only [w_nl0, w_nli, w_nlr, ↓w_ts1, ↓w_ts0, w_rcv, w_rfv, w_cs, true_and, and_true, List.length_nil, List.length_cons, Nat.reduceAdd, Nat.reduceLeDiff, Nat.zero_le, Nat.reduceLT, ↓w_nil, ix_nI, nI_leP, nI_ltP, nI_eqP, nI_1, ↓i_inN, i_inN, l_le, l_lt, l_eq, r_le, r_lt, r_eq, sh0, sh1, sh55, sh60, sh9, sh31, sh23, sh37, sh42, sh43, sh19, sh3, sh6, ↓w_iload_2, ↓w_bipush, ↓w_is, ↓pm_cl1_2, ↓w_ifne, ↓w_iconst, ↓w_ret, ↓w_aload_0, ↓w_gf3, ↓w_iload_1, ↓w_iv, ↓pm_cl2_3])
        | (with_reducible refine bX11_causeTold_1 ?_; simp (disch := first | omega | decide) only [w_nl0, w_nli, w_nlr, ↓w_ts1, ↓w_ts0, w_rcv, w_rfv, w_cs, true_and, and_true, List.length_nil, List.length_cons, Nat.reduceAdd, Nat.reduceLeDiff, Nat.zero_le, Nat.reduceLT, ↓w_nil, ix_nI, nI_leP, nI_ltP, nI_eqP, nI_1, ↓i_inN, i_inN, l_le, l_lt, l_eq, r_le, r_lt, r_eq, sh0, sh1, sh55, sh60, sh9, sh31, sh23, sh37, sh42, sh43, sh19, sh3, sh6, ↓w_iload_2, ↓w_bipush, ↓w_is, ↓pm_cl1_2, ↓w_ifne, ↓w_iconst, ↓w_ret, ↓w_aload_0, ↓w_gf3, ↓w_iload_1, ↓w_iv, ↓pm_cl2_3])
        | (with_reducible refine c_below (by omega) ?_ ; simp (disch := first | omega | decide) only [w_nl0, w_nli, w_nlr, ↓w_ts1, ↓w_ts0, w_rcv, w_rfv, w_cs, true_and, and_true, List.length_nil, List.length_cons, Nat.reduceAdd, Nat.reduceLeDiff, Nat.zero_le, Nat.reduceLT, ↓w_nil, ix_nI, nI_leP, nI_ltP, nI_eqP, nI_1, ↓i_inN, i_inN, l_le, l_lt, l_eq, r_le, r_lt, r_eq, sh0, sh1, sh55, sh60, sh9, sh31, sh23, sh37, sh42, sh43, sh19, sh3, sh6, ↓w_iload_2, ↓w_bipush, ↓w_is, ↓pm_cl1_2, ↓w_ifne, ↓w_iconst, ↓w_ret, ↓w_aload_0, ↓w_gf3, ↓w_iload_1, ↓w_iv, ↓pm_cl2_3])
        | (with_reducible refine c_cfOut (by omega) hN2 hx ?_ ; simp (disch := first | omega | decide) only [w_nl0, w_nli, w_nlr, ↓w_ts1, ↓w_ts0, w_rcv, w_rfv, w_cs, true_and, and_true, List.length_nil, List.length_cons, Nat.reduceAdd, Nat.reduceLeDiff, Nat.zero_le, Nat.reduceLT, ↓w_nil, ix_nI, nI_leP, nI_ltP, nI_eqP, nI_1, ↓i_inN, i_inN, l_le, l_lt, l_eq, r_le, r_lt, r_eq, sh0, sh1, sh55, sh60, sh9, sh31, sh23, sh37, sh42, sh43, sh19, sh3, sh6, ↓w_iload_2, ↓w_bipush, ↓w_is, ↓pm_cl1_2, ↓w_ifne, ↓w_iconst, ↓w_ret, ↓w_aload_0, ↓w_gf3, ↓w_iload_1, ↓w_iv, ↓pm_cl2_3])
        | (simp only [w_in])
        | (intro _))
      all_goals try rfl
      all_goals try grind
      all_goals try refine MC.of (eX12_causeTold (by omega) ?_)
      all_goals
        repeat' (first
          | (apply And.intro)
          | (with_reducible refine bX12_causeTold_0 ?_; simp (disch := first | omega | decide) only [w_nl0, w_nli, w_nlr, ↓w_ts1, ↓w_ts0, w_rcv, w_rfv, w_cs, true_and, and_true, List.length_nil, List.length_cons, Nat.reduceAdd, Nat.reduceLeDiff, Nat.zero_le, Nat.reduceLT, ↓w_nil, ix_nI, nI_leP, nI_ltP, nI_eqP, nI_1, ↓i_inN, i_inN, l_le, l_lt, l_eq, r_le, r_lt, r_eq, sh68_0, sh68_1, sh68_2, sh68_3, sh68_4, ↓w_iload_2, ↓w_iconst, ↓w_is, ↓pm_cl1_3, ↓w_ifne, ↓w_goto, ↓w_iload_1, ↓w_aload_0, ↓w_gf0, ↓w_isub, ↓w_ifeq, ↓w_gf3, ↓w_bipush, ↓w_imul, ↓w_iadd, ↓w_iaload, ↓w_ret, e1, hN2])
          | (with_reducible refine bX12_causeTold_1 ?_; simp (disch := first | omega | decide) only [w_nl0, w_nli, w_nlr, ↓w_ts1, ↓w_ts0, w_rcv, w_rfv, w_cs, true_and, and_true, List.length_nil, List.length_cons, Nat.reduceAdd, Nat.reduceLeDiff, Nat.zero_le, Nat.reduceLT, ↓w_nil, ix_nI, nI_leP, nI_ltP, nI_eqP, nI_1, ↓i_inN, i_inN, l_le, l_lt, l_eq, r_le, r_lt, r_eq, sh68_0, sh68_1, sh68_2, sh68_3, sh68_4, ↓w_iload_2, ↓w_iconst, ↓w_is, ↓pm_cl1_3, ↓w_ifne, ↓w_goto, ↓w_iload_1, ↓w_aload_0, ↓w_gf0, ↓w_isub, ↓w_ifeq, ↓w_gf3, ↓w_bipush, ↓w_imul, ↓w_iadd, ↓w_iaload, ↓w_ret, e1, hN2])
          | (with_reducible refine bX12_causeTold_2 ?_; simp (disch := first | omega | decide) only [w_nl0, w_nli, w_nlr, ↓w_ts1, ↓w_ts0, w_rcv, w_rfv, w_cs, true_and, and_true, List.length_nil, List.length_cons, Nat.reduceAdd, Nat.reduceLeDiff, Nat.zero_le, Nat.reduceLT, ↓w_nil, ix_nI, nI_leP, nI_ltP, nI_eqP, nI_1, ↓i_inN, i_inN, l_le, l_lt, l_eq, r_le, r_lt, r_eq, sh68_0, sh68_1, sh68_2, sh68_3, sh68_4, ↓w_iload_2, ↓w_iconst, ↓w_is, ↓pm_cl1_3, ↓w_ifne, ↓w_goto, ↓w_iload_1, ↓w_aload_0, ↓w_gf0, ↓w_isub, ↓w_ifeq, ↓w_gf3, ↓w_bipush, ↓w_imul, ↓w_iadd, ↓w_iaload, ↓w_ret, e1, hN2])
          | (with_reducible refine bX12_causeTold_3 ?_; simp (disch := first | omega | decide) only [w_nl0, w_nli, w_nlr, ↓w_ts1, ↓w_ts0, w_rcv, w_rfv, w_cs, true_and, and_true, List.length_nil, List.length_cons, Nat.reduceAdd, Nat.reduceLeDiff, Nat.zero_le, Nat.reduceLT, ↓w_nil, ix_nI, nI_leP, nI_ltP, nI_eqP, nI_1, ↓i_inN, i_inN, l_le, l_lt, l_eq, r_le, r_lt, r_eq, sh68_0, sh68_1, sh68_2, sh68_3, sh68_4, ↓w_iload_2, ↓w_iconst, ↓w_is, ↓pm_cl1_3, ↓w_ifne, ↓w_goto, ↓w_iload_1, ↓w_aload_0, ↓w_gf0, ↓w_isub, ↓w_ifeq, ↓w_gf3, ↓w_bipush, ↓w_imul, ↓w_iadd, ↓w_iaload, ↓w_ret, e1, hN2])
          | (with_reducible refine m_in (by omega) ?_ ; simp (disch := first | omega | decide) only [w_nl0, w_nli, w_nlr, ↓w_ts1, ↓w_ts0, w_rcv, w_rfv, w_cs, true_and, and_true, List.length_nil, List.length_cons, Nat.reduceAdd, Nat.reduceLeDiff, Nat.zero_le, Nat.reduceLT, ↓w_nil, ix_nI, nI_leP, nI_ltP, nI_eqP, nI_1, ↓i_inN, i_inN, l_le, l_lt, l_eq, r_le, r_lt, r_eq, sh68_0, sh68_1, sh68_2, sh68_3, sh68_4, ↓w_iload_2, ↓w_iconst, ↓w_is, ↓pm_cl1_3, ↓w_ifne, ↓w_goto, ↓w_iload_1, ↓w_aload_0, ↓w_gf0, ↓w_isub, ↓w_ifeq, ↓w_gf3, ↓w_bipush, ↓w_imul, ↓w_iadd, ↓w_iaload, ↓w_ret, e1, hN2])
          | (simp only [w_in])
          | (intro _))
      all_goals first | rfl | exact hw | exact relw_found hw | exact relw_asks hw | grind
  · clear hp
    refine eX11_causeTold (by omega) ?_
    repeat' (first
      | (apply And.intro)
      | (with_reducible refine bX11_causeTold_0 ?_; simp (disch := first | omega | decide) only [w_nl0, w_nli, w_nlr, ↓w_ts1, ↓w_ts0, w_rcv, w_rfv, w_cs, true_and, and_true, List.length_nil, List.length_cons, Nat.reduceAdd, Nat.reduceLeDiff, Nat.zero_le, Nat.reduceLT, ↓w_nil, ix_nI, nI_leP, nI_ltP, nI_eqP, nI_1, ↓i_inN, i_inN, l_le, l_lt, l_eq, r_le, r_lt, r_eq, sh0, sh1, sh55, sh60, sh9, sh31, sh23, sh37, sh42, sh43, sh19, sh3, sh6, ↓w_iload_2, ↓w_bipush, ↓w_is, ↓pm_cl1_2, ↓w_ifne, ↓w_iconst, ↓w_ret, ↓w_aload_0, ↓w_gf3, ↓w_iload_1, ↓w_iv, ↓pm_cl2_3])
      | (with_reducible refine c_below (by omega) ?_ ; simp (disch := first | omega | decide) only [w_nl0, w_nli, w_nlr, ↓w_ts1, ↓w_ts0, w_rcv, w_rfv, w_cs, true_and, and_true, List.length_nil, List.length_cons, Nat.reduceAdd, Nat.reduceLeDiff, Nat.zero_le, Nat.reduceLT, ↓w_nil, ix_nI, nI_leP, nI_ltP, nI_eqP, nI_1, ↓i_inN, i_inN, l_le, l_lt, l_eq, r_le, r_lt, r_eq, sh0, sh1, sh55, sh60, sh9, sh31, sh23, sh37, sh42, sh43, sh19, sh3, sh6, ↓w_iload_2, ↓w_bipush, ↓w_is, ↓pm_cl1_2, ↓w_ifne, ↓w_iconst, ↓w_ret, ↓w_aload_0, ↓w_gf3, ↓w_iload_1, ↓w_iv, ↓pm_cl2_3])
      | (simp only [w_in])
      | (intro _))
    all_goals try rfl
    all_goals try grind
    all_goals try refine MC.of (eX12_causeTold (by omega) ?_)
    all_goals
      repeat' (first
        | (apply And.intro)
        | (with_reducible refine bX12_causeTold_0 ?_; simp (disch := first | omega | decide) only [w_nl0, w_nli, w_nlr, ↓w_ts1, ↓w_ts0, w_rcv, w_rfv, w_cs, true_and, and_true, List.length_nil, List.length_cons, Nat.reduceAdd, Nat.reduceLeDiff, Nat.zero_le, Nat.reduceLT, ↓w_nil, ix_nI, nI_leP, nI_ltP, nI_eqP, nI_1, ↓i_inN, i_inN, l_le, l_lt, l_eq, r_le, r_lt, r_eq, sh68_0, sh68_1, sh68_2, sh68_3, sh68_4, ↓w_iload_2, ↓w_iconst, ↓w_is, ↓pm_cl1_3, ↓w_ifne, ↓w_goto, ↓w_iload_1, ↓w_aload_0, ↓w_gf0, ↓w_isub, ↓w_ifeq, ↓w_gf3, ↓w_bipush, ↓w_imul, ↓w_iadd, ↓w_iaload, ↓w_ret])
        | (with_reducible refine bX12_causeTold_3 ?_; simp (disch := first | omega | decide) only [w_nl0, w_nli, w_nlr, ↓w_ts1, ↓w_ts0, w_rcv, w_rfv, w_cs, true_and, and_true, List.length_nil, List.length_cons, Nat.reduceAdd, Nat.reduceLeDiff, Nat.zero_le, Nat.reduceLT, ↓w_nil, ix_nI, nI_leP, nI_ltP, nI_eqP, nI_1, ↓i_inN, i_inN, l_le, l_lt, l_eq, r_le, r_lt, r_eq, sh68_0, sh68_1, sh68_2, sh68_3, sh68_4, ↓w_iload_2, ↓w_iconst, ↓w_is, ↓pm_cl1_3, ↓w_ifne, ↓w_goto, ↓w_iload_1, ↓w_aload_0, ↓w_gf0, ↓w_isub, ↓w_ifeq, ↓w_gf3, ↓w_bipush, ↓w_imul, ↓w_iadd, ↓w_iaload, ↓w_ret])
        | (with_reducible refine m_in (by omega) ?_ ; simp (disch := first | omega | decide) only [w_nl0, w_nli, w_nlr, ↓w_ts1, ↓w_ts0, w_rcv, w_rfv, w_cs, true_and, and_true, List.length_nil, List.length_cons, Nat.reduceAdd, Nat.reduceLeDiff, Nat.zero_le, Nat.reduceLT, ↓w_nil, ix_nI, nI_leP, nI_ltP, nI_eqP, nI_1, ↓i_inN, i_inN, l_le, l_lt, l_eq, r_le, r_lt, r_eq, sh68_0, sh68_1, sh68_2, sh68_3, sh68_4, ↓w_iload_2, ↓w_iconst, ↓w_is, ↓pm_cl1_3, ↓w_ifne, ↓w_goto, ↓w_iload_1, ↓w_aload_0, ↓w_gf0, ↓w_isub, ↓w_ifeq, ↓w_gf3, ↓w_bipush, ↓w_imul, ↓w_iadd, ↓w_iaload, ↓w_ret])
        | (simp only [w_in])
        | (intro _))
    all_goals first | rfl | exact hw | exact relw_found hw | exact relw_asks hw | grind
end C64
