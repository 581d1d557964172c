section C76
variable {g : pm_G} {d : Nat} {Q : pm_Po} {S : pm_SS} {I : pm_MI} {J : pm_ML}
theorem m_readItem {t i s : Nat} {b : Nat → Int32} (hd : 6 ≤ d) (ht : t < 4) (h73 : I 73 t = nI s) (hs : s ≤ 48) (h74 : ∀ i, i < s → I 74 (48 * t + i) = b i) (hi : i < s) (hQ : ∀ I2, MS I I2 → ((pit b s i).1 = true → I2 68 10 = (pit b s i).2.2.1 ∧ I2 68 11 = (pit b s i).2.2.2.1 ∧ I2 68 12 = (pit b s i).2.2.2.2.1 ∧ I2 68 13 = (pit b s i).2.2.2.2.2 ∧ I2 68 14 = nI (pit b s i).2.1) → Q (some (.int (if (pit b s i).1 then -9 else nI (pit b s i).2.1))) SH I2 J) : pm_C g d 210 [.ref 68, .int (nI t), .int (nI i)] Q SH I J := by
  have hbi : byV b s i = b i := if_pos hi
  have n71 : ∀ x : Int32, x = 71 → ¬ x = 87 ∧ ¬ x = 80 ∧ ¬ x = 78 ∧ ¬ x = 89 := by intro x h; subst h; decide
  by_cases l1 : b i = 71
  · by_cases c1 : isB b s (i + 1) 4
    · have hb1 : byV b s (i + 1) = b (i + 1) := if_pos c1.1
      by_cases c2 : isB b s (i + 2) 4
      · have hb2 : byV b s (i + 2) = b (i + 2) := if_pos c2.1
        by_cases c3 : (pdg b s 10 2 (i + 3) 0).2 = i + 3
        · have e : pit b s i = (false, i + 3, 0, 0, 0, 0) := by
            unfold pit pG
            rw [if_pos l1, if_neg (fun z => z c1), if_neg (fun z => z c2), if_pos c3]
          rw [e] at hQ
          simp only [if_true, Bool.false_eq_true, if_false] at hQ
          clear e
          refine eX12_readItem (by omega) ?_
          repeat' (first
            | (apply And.intro)
            | (with_reducible refine bX12_readItem_0 ?_; simp (disch := first | omega | decide) only [w_nl0, w_nli, w_nlr, ↓w_ts1, ↓w_ts0, w_rcv, w_rfv, w_cs, true_and, and_true, List.length_nil, List.length_cons, Nat.reduceAdd, Nat.reduceLeDiff, Nat.zero_le, Nat.reduceLT, ↓w_nil, ix_nI, nI_leP, nI_ltP, nI_eqP, nI_1, ↓i_inN, i_inN, l_le, l_lt, l_eq, r_le, r_lt, r_eq, sh68_0, sh68_1, sh68_2, sh68_3, sh68_4, ↓w_aload_0, ↓w_iload_1, ↓w_iload_2, ↓w_iv, ↓pm_cl2_3, ↓w_istore_3, ↓w_iconst, ↓w_pf0, ↓w_iload_3, ↓w_sw_X12_readItem_18, ↓w_iadd, ↓pm_cl2_4, ↓w_ifne, ↓w_ret, ↓w_bipush, ↓w_isub, ↓w_ifeq, ↓w_goto, ↓w_icne, nI_add, nI_p2, nI_p3, hbi, hb1, hb2, c3, if_pos c1, if_pos c2, if_true])
            | (with_reducible refine bX12_readItem_1 ?_; simp (disch := first | omega | decide) only [w_nl0, w_nli, w_nlr, ↓w_ts1, ↓w_ts0, w_rcv, w_rfv, w_cs, true_and, and_true, List.length_nil, List.length_cons, Nat.reduceAdd, Nat.reduceLeDiff, Nat.zero_le, Nat.reduceLT, ↓w_nil, ix_nI, nI_leP, nI_ltP, nI_eqP, nI_1, ↓i_inN, i_inN, l_le, l_lt, l_eq, r_le, r_lt, r_eq, sh68_0, sh68_1, sh68_2, sh68_3, sh68_4, ↓w_aload_0, ↓w_iload_1, ↓w_iload_2, ↓w_iv, ↓pm_cl2_3, ↓w_istore_3, ↓w_iconst, ↓w_pf0, ↓w_iload_3, ↓w_sw_X12_readItem_18, ↓w_iadd, ↓pm_cl2_4, ↓w_ifne, ↓w_ret, ↓w_bipush, ↓w_isub, ↓w_ifeq, ↓w_goto, ↓w_icne, nI_add, nI_p2, nI_p3, hbi, hb1, hb2, c3, if_pos c1, if_pos c2, if_true])
            | (with_reducible refine bX12_readItem_2 ?_; simp (disch := first | omega | decide) only [w_nl0, w_nli, w_nlr, ↓w_ts1, ↓w_ts0, w_rcv, w_rfv, w_cs, true_and, and_true, List.length_nil, List.length_cons, Nat.reduceAdd, Nat.reduceLeDiff, Nat.zero_le, Nat.reduceLT, ↓w_nil, ix_nI, nI_leP, nI_ltP, nI_eqP, nI_1, ↓i_inN, i_inN, l_le, l_lt, l_eq, r_le, r_lt, r_eq, sh68_0, sh68_1, sh68_2, sh68_3, sh68_4, ↓w_aload_0, ↓w_iload_1, ↓w_iload_2, ↓w_iv, ↓pm_cl2_3, ↓w_istore_3, ↓w_iconst, ↓w_pf0, ↓w_iload_3, ↓w_sw_X12_readItem_18, ↓w_iadd, ↓pm_cl2_4, ↓w_ifne, ↓w_ret, ↓w_bipush, ↓w_isub, ↓w_ifeq, ↓w_goto, ↓w_icne, nI_add, nI_p2, nI_p3, hbi, hb1, hb2, c3, if_pos c1, if_pos c2, if_true])
            | (with_reducible refine bX12_readItem_3 ?_; simp (disch := first | omega | decide) only [w_nl0, w_nli, w_nlr, ↓w_ts1, ↓w_ts0, w_rcv, w_rfv, w_cs, true_and, and_true, List.length_nil, List.length_cons, Nat.reduceAdd, Nat.reduceLeDiff, Nat.zero_le, Nat.reduceLT, ↓w_nil, ix_nI, nI_leP, nI_ltP, nI_eqP, nI_1, ↓i_inN, i_inN, l_le, l_lt, l_eq, r_le, r_lt, r_eq, sh68_0, sh68_1, sh68_2, sh68_3, sh68_4, ↓w_aload_0, ↓w_iload_1, ↓w_iload_2, ↓w_iv, ↓pm_cl2_3, ↓w_istore_3, ↓w_iconst, ↓w_pf0, ↓w_iload_3, ↓w_sw_X12_readItem_18, ↓w_iadd, ↓pm_cl2_4, ↓w_ifne, ↓w_ret, ↓w_bipush, ↓w_isub, ↓w_ifeq, ↓w_goto, ↓w_icne, nI_add, nI_p2, nI_p3, hbi, hb1, hb2, c3, if_pos c1, if_pos c2, if_true])
            | (with_reducible refine bX12_readItem_4 ?_; simp (disch := first | omega | decide) only [w_nl0, w_nli, w_nlr, ↓w_ts1, ↓w_ts0, w_rcv, w_rfv, w_cs, true_and, and_true, List.length_nil, List.length_cons, Nat.reduceAdd, Nat.reduceLeDiff, Nat.zero_le, Nat.reduceLT, ↓w_nil, ix_nI, nI_leP, nI_ltP, nI_eqP, nI_1, ↓i_inN, i_inN, l_le, l_lt, l_eq, r_le, r_lt, r_eq, sh68_0, sh68_1, sh68_2, sh68_3, sh68_4, ↓w_aload_0, ↓w_iload_1, ↓w_iload_2, ↓w_iv, ↓pm_cl2_3, ↓w_istore_3, ↓w_iconst, ↓w_pf0, ↓w_iload_3, ↓w_sw_X12_readItem_18, ↓w_iadd, ↓pm_cl2_4, ↓w_ifne, ↓w_ret, ↓w_bipush, ↓w_isub, ↓w_ifeq, ↓w_goto, ↓w_icne, nI_add, nI_p2, nI_p3, hbi, hb1, hb2, c3, if_pos c1, if_pos c2, if_true])
            | (with_reducible refine bX12_readItem_5 ?_; simp (disch := first | omega | decide) only [w_nl0, w_nli, w_nlr, ↓w_ts1, ↓w_ts0, w_rcv, w_rfv, w_cs, true_and, and_true, List.length_nil, List.length_cons, Nat.reduceAdd, Nat.reduceLeDiff, Nat.zero_le, Nat.reduceLT, ↓w_nil, ix_nI, nI_leP, nI_ltP, nI_eqP, nI_1, ↓i_inN, i_inN, l_le, l_lt, l_eq, r_le, r_lt, r_eq, sh68_0, sh68_1, sh68_2, sh68_3, sh68_4, ↓w_aload_0, ↓w_iload_1, ↓w_iload_2, ↓w_iv, ↓pm_cl2_3, ↓w_istore_3, ↓w_iconst, ↓w_pf0, ↓w_iload_3, ↓w_sw_X12_readItem_18, ↓w_iadd, ↓pm_cl2_4, ↓w_ifne, ↓w_ret, ↓w_bipush, ↓w_isub, ↓w_ifeq, ↓w_goto, ↓w_icne, nI_add, nI_p2, nI_p3, hbi, hb1, hb2, c3, if_pos c1, if_pos c2, if_true])
            | (with_reducible refine m_fig (s := s) (b := b) (m' := 4) (by omega) ht (by simp (disch := decide) only [pm_up_o, h73]) hs (by simpa (disch := decide) only [pm_up_o] using h74) (by omega) fig3 ?_ ; simp (disch := first | omega | decide) only [w_nl0, w_nli, w_nlr, ↓w_ts1, ↓w_ts0, w_rcv, w_rfv, w_cs, true_and, and_true, List.length_nil, List.length_cons, Nat.reduceAdd, Nat.reduceLeDiff, Nat.zero_le, Nat.reduceLT, ↓w_nil, ix_nI, nI_leP, nI_ltP, nI_eqP, nI_1, ↓i_inN, i_inN, l_le, l_lt, l_eq, r_le, r_lt, r_eq, sh68_0, sh68_1, sh68_2, sh68_3, sh68_4, ↓w_aload_0, ↓w_iload_1, ↓w_iload_2, ↓w_iv, ↓pm_cl2_3, ↓w_istore_3, ↓w_iconst, ↓w_pf0, ↓w_iload_3, ↓w_sw_X12_readItem_18, ↓w_iadd, ↓pm_cl2_4, ↓w_ifne, ↓w_ret, ↓w_bipush, ↓w_isub, ↓w_ifeq, ↓w_goto, ↓w_icne, nI_add, nI_p2, nI_p3, hbi, hb1, hb2, c3, if_pos c1, if_pos c2, if_true])
            | (with_reducible refine m_by (s := s) (b := b) (by omega) ht (by simp (disch := decide) only [pm_up_o, h73]) hs (by simpa (disch := decide) only [pm_up_o] using h74) (by omega) ?_ ; simp (disch := first | omega | decide) only [w_nl0, w_nli, w_nlr, ↓w_ts1, ↓w_ts0, w_rcv, w_rfv, w_cs, true_and, and_true, List.length_nil, List.length_cons, Nat.reduceAdd, Nat.reduceLeDiff, Nat.zero_le, Nat.reduceLT, ↓w_nil, ix_nI, nI_leP, nI_ltP, nI_eqP, nI_1, ↓i_inN, i_inN, l_le, l_lt, l_eq, r_le, r_lt, r_eq, sh68_0, sh68_1, sh68_2, sh68_3, sh68_4, ↓w_aload_0, ↓w_iload_1, ↓w_iload_2, ↓w_iv, ↓pm_cl2_3, ↓w_istore_3, ↓w_iconst, ↓w_pf0, ↓w_iload_3, ↓w_sw_X12_readItem_18, ↓w_iadd, ↓pm_cl2_4, ↓w_ifne, ↓w_ret, ↓w_bipush, ↓w_isub, ↓w_ifeq, ↓w_goto, ↓w_icne, nI_add, nI_p2, nI_p3, hbi, hb1, hb2, c3, if_pos c1, if_pos c2, if_true])
            | (with_reducible refine m_num (s := s) (b := b) (k := 2) (p := i + 3) (by omega) ht (by simp (disch := decide) only [pm_up_o, h73]) hs (by simpa (disch := decide) only [pm_up_o] using h74) (by omega) (by omega) rfl ?_ ; simp (disch := first | omega | decide) only [w_nl0, w_nli, w_nlr, ↓w_ts1, ↓w_ts0, w_rcv, w_rfv, w_cs, true_and, and_true, List.length_nil, List.length_cons, Nat.reduceAdd, Nat.reduceLeDiff, Nat.zero_le, Nat.reduceLT, ↓w_nil, ix_nI, nI_leP, nI_ltP, nI_eqP, nI_1, ↓i_inN, i_inN, l_le, l_lt, l_eq, r_le, r_lt, r_eq, sh68_0, sh68_1, sh68_2, sh68_3, sh68_4, ↓w_aload_0, ↓w_iload_1, ↓w_iload_2, ↓w_iv, ↓pm_cl2_3, ↓w_istore_3, ↓w_iconst, ↓w_pf0, ↓w_iload_3, ↓w_sw_X12_readItem_18, ↓w_iadd, ↓pm_cl2_4, ↓w_ifne, ↓w_ret, ↓w_bipush, ↓w_isub, ↓w_ifeq, ↓w_goto, ↓w_icne, nI_add, nI_p2, nI_p3, hbi, hb1, hb2, c3, if_pos c1, if_pos c2, if_true])
            | (simp only [w_in])
            | (intro _))
          all_goals first
            | (exact hQ _ (by repeat (first | exact ms_id | refine ms_up (by decide) ?_)) (fun z => absurd z (by decide)))
            | (clear h74 hQ; grind)
        · have e : pit b s i = (true, (pdg b s 10 2 (i + 3) 0).2, 0, b (i + 1) - 48, b (i + 2) - 48, (pdg b s 10 2 (i + 3) 0).1) := by
            unfold pit pG
            rw [if_pos l1, if_neg (fun z => z c1), if_neg (fun z => z c2), if_neg c3]
          rw [e] at hQ
          simp only [if_true, Bool.false_eq_true, if_false] at hQ
          clear e
          refine eX12_readItem (by omega) ?_
          repeat' (first
            | (apply And.intro)
            | (with_reducible refine bX12_readItem_0 ?_; simp (disch := first | omega | decide) only [w_nl0, w_nli, w_nlr, ↓w_ts1, ↓w_ts0, w_rcv, w_rfv, w_cs, true_and, and_true, List.length_nil, List.length_cons, Nat.reduceAdd, Nat.reduceLeDiff, Nat.zero_le, Nat.reduceLT, ↓w_nil, ix_nI, nI_leP, nI_ltP, nI_eqP, nI_1, ↓i_inN, i_inN, l_le, l_lt, l_eq, r_le, r_lt, r_eq, sh68_0, sh68_1, sh68_2, sh68_3, sh68_4, ↓w_aload_0, ↓w_iload_1, ↓w_iload_2, ↓w_iv, ↓pm_cl2_3, ↓w_istore_3, ↓w_iconst, ↓w_pf0, ↓w_iload_3, ↓w_sw_X12_readItem_18, ↓w_iadd, ↓pm_cl2_4, ↓w_ifne, ↓w_ret, ↓w_bipush, ↓w_isub, ↓w_ifeq, ↓w_goto, ↓w_icne, nI_add, nI_p2, nI_p3, hbi, hb1, hb2, if_neg c3, if_pos c1, if_pos c2])
            | (with_reducible refine bX12_readItem_1 ?_; simp (disch := first | omega | decide) only [w_nl0, w_nli, w_nlr, ↓w_ts1, ↓w_ts0, w_rcv, w_rfv, w_cs, true_and, and_true, List.length_nil, List.length_cons, Nat.reduceAdd, Nat.reduceLeDiff, Nat.zero_le, Nat.reduceLT, ↓w_nil, ix_nI, nI_leP, nI_ltP, nI_eqP, nI_1, ↓i_inN, i_inN, l_le, l_lt, l_eq, r_le, r_lt, r_eq, sh68_0, sh68_1, sh68_2, sh68_3, sh68_4, ↓w_aload_0, ↓w_iload_1, ↓w_iload_2, ↓w_iv, ↓pm_cl2_3, ↓w_istore_3, ↓w_iconst, ↓w_pf0, ↓w_iload_3, ↓w_sw_X12_readItem_18, ↓w_iadd, ↓pm_cl2_4, ↓w_ifne, ↓w_ret, ↓w_bipush, ↓w_isub, ↓w_ifeq, ↓w_goto, ↓w_icne, nI_add, nI_p2, nI_p3, hbi, hb1, hb2, if_neg c3, if_pos c1, if_pos c2])
            | (with_reducible refine bX12_readItem_2 ?_; simp (disch := first | omega | decide) only [w_nl0, w_nli, w_nlr, ↓w_ts1, ↓w_ts0, w_rcv, w_rfv, w_cs, true_and, and_true, List.length_nil, List.length_cons, Nat.reduceAdd, Nat.reduceLeDiff, Nat.zero_le, Nat.reduceLT, ↓w_nil, ix_nI, nI_leP, nI_ltP, nI_eqP, nI_1, ↓i_inN, i_inN, l_le, l_lt, l_eq, r_le, r_lt, r_eq, sh68_0, sh68_1, sh68_2, sh68_3, sh68_4, ↓w_aload_0, ↓w_iload_1, ↓w_iload_2, ↓w_iv, ↓pm_cl2_3, ↓w_istore_3, ↓w_iconst, ↓w_pf0, ↓w_iload_3, ↓w_sw_X12_readItem_18, ↓w_iadd, ↓pm_cl2_4, ↓w_ifne, ↓w_ret, ↓w_bipush, ↓w_isub, ↓w_ifeq, ↓w_goto, ↓w_icne, nI_add, nI_p2, nI_p3, hbi, hb1, hb2, if_neg c3, if_pos c1, if_pos c2])
            | (with_reducible refine bX12_readItem_3 ?_; simp (disch := first | omega | decide) only [w_nl0, w_nli, w_nlr, ↓w_ts1, ↓w_ts0, w_rcv, w_rfv, w_cs, true_and, and_true, List.length_nil, List.length_cons, Nat.reduceAdd, Nat.reduceLeDiff, Nat.zero_le, Nat.reduceLT, ↓w_nil, ix_nI, nI_leP, nI_ltP, nI_eqP, nI_1, ↓i_inN, i_inN, l_le, l_lt, l_eq, r_le, r_lt, r_eq, sh68_0, sh68_1, sh68_2, sh68_3, sh68_4, ↓w_aload_0, ↓w_iload_1, ↓w_iload_2, ↓w_iv, ↓pm_cl2_3, ↓w_istore_3, ↓w_iconst, ↓w_pf0, ↓w_iload_3, ↓w_sw_X12_readItem_18, ↓w_iadd, ↓pm_cl2_4, ↓w_ifne, ↓w_ret, ↓w_bipush, ↓w_isub, ↓w_ifeq, ↓w_goto, ↓w_icne, nI_add, nI_p2, nI_p3, hbi, hb1, hb2, if_neg c3, if_pos c1, if_pos c2])
            | (with_reducible refine bX12_readItem_4 ?_; simp (disch := first | omega | decide) only [w_nl0, w_nli, w_nlr, ↓w_ts1, ↓w_ts0, w_rcv, w_rfv, w_cs, true_and, and_true, List.length_nil, List.length_cons, Nat.reduceAdd, Nat.reduceLeDiff, Nat.zero_le, Nat.reduceLT, ↓w_nil, ix_nI, nI_leP, nI_ltP, nI_eqP, nI_1, ↓i_inN, i_inN, l_le, l_lt, l_eq, r_le, r_lt, r_eq, sh68_0, sh68_1, sh68_2, sh68_3, sh68_4, ↓w_aload_0, ↓w_iload_1, ↓w_iload_2, ↓w_iv, ↓pm_cl2_3, ↓w_istore_3, ↓w_iconst, ↓w_pf0, ↓w_iload_3, ↓w_sw_X12_readItem_18, ↓w_iadd, ↓pm_cl2_4, ↓w_ifne, ↓w_ret, ↓w_bipush, ↓w_isub, ↓w_ifeq, ↓w_goto, ↓w_icne, nI_add, nI_p2, nI_p3, hbi, hb1, hb2, if_neg c3, if_pos c1, if_pos c2])
            | (with_reducible refine bX12_readItem_5 ?_; simp (disch := first | omega | decide) only [w_nl0, w_nli, w_nlr, ↓w_ts1, ↓w_ts0, w_rcv, w_rfv, w_cs, true_and, and_true, List.length_nil, List.length_cons, Nat.reduceAdd, Nat.reduceLeDiff, Nat.zero_le, Nat.reduceLT, ↓w_nil, ix_nI, nI_leP, nI_ltP, nI_eqP, nI_1, ↓i_inN, i_inN, l_le, l_lt, l_eq, r_le, r_lt, r_eq, sh68_0, sh68_1, sh68_2, sh68_3, sh68_4, ↓w_aload_0, ↓w_iload_1, ↓w_iload_2, ↓w_iv, ↓pm_cl2_3, ↓w_istore_3, ↓w_iconst, ↓w_pf0, ↓w_iload_3, ↓w_sw_X12_readItem_18, ↓w_iadd, ↓pm_cl2_4, ↓w_ifne, ↓w_ret, ↓w_bipush, ↓w_isub, ↓w_ifeq, ↓w_goto, ↓w_icne, nI_add, nI_p2, nI_p3, hbi, hb1, hb2, if_neg c3, if_pos c1, if_pos c2])
            | (with_reducible refine m_fig (s := s) (b := b) (m' := 4) (by omega) ht (by simp (disch := decide) only [pm_up_o, h73]) hs (by simpa (disch := decide) only [pm_up_o] using h74) (by omega) fig3 ?_ ; simp (disch := first | omega | decide) only [w_nl0, w_nli, w_nlr, ↓w_ts1, ↓w_ts0, w_rcv, w_rfv, w_cs, true_and, and_true, List.length_nil, List.length_cons, Nat.reduceAdd, Nat.reduceLeDiff, Nat.zero_le, Nat.reduceLT, ↓w_nil, ix_nI, nI_leP, nI_ltP, nI_eqP, nI_1, ↓i_inN, i_inN, l_le, l_lt, l_eq, r_le, r_lt, r_eq, sh68_0, sh68_1, sh68_2, sh68_3, sh68_4, ↓w_aload_0, ↓w_iload_1, ↓w_iload_2, ↓w_iv, ↓pm_cl2_3, ↓w_istore_3, ↓w_iconst, ↓w_pf0, ↓w_iload_3, ↓w_sw_X12_readItem_18, ↓w_iadd, ↓pm_cl2_4, ↓w_ifne, ↓w_ret, ↓w_bipush, ↓w_isub, ↓w_ifeq, ↓w_goto, ↓w_icne, nI_add, nI_p2, nI_p3, hbi, hb1, hb2, if_neg c3, if_pos c1, if_pos c2])
            | (with_reducible refine m_by (s := s) (b := b) (by omega) ht (by simp (disch := decide) only [pm_up_o, h73]) hs (by simpa (disch := decide) only [pm_up_o] using h74) (by omega) ?_ ; simp (disch := first | omega | decide) only [w_nl0, w_nli, w_nlr, ↓w_ts1, ↓w_ts0, w_rcv, w_rfv, w_cs, true_and, and_true, List.length_nil, List.length_cons, Nat.reduceAdd, Nat.reduceLeDiff, Nat.zero_le, Nat.reduceLT, ↓w_nil, ix_nI, nI_leP, nI_ltP, nI_eqP, nI_1, ↓i_inN, i_inN, l_le, l_lt, l_eq, r_le, r_lt, r_eq, sh68_0, sh68_1, sh68_2, sh68_3, sh68_4, ↓w_aload_0, ↓w_iload_1, ↓w_iload_2, ↓w_iv, ↓pm_cl2_3, ↓w_istore_3, ↓w_iconst, ↓w_pf0, ↓w_iload_3, ↓w_sw_X12_readItem_18, ↓w_iadd, ↓pm_cl2_4, ↓w_ifne, ↓w_ret, ↓w_bipush, ↓w_isub, ↓w_ifeq, ↓w_goto, ↓w_icne, nI_add, nI_p2, nI_p3, hbi, hb1, hb2, if_neg c3, if_pos c1, if_pos c2])
            | (with_reducible refine m_num (s := s) (b := b) (k := 2) (p := i + 3) (by omega) ht (by simp (disch := decide) only [pm_up_o, h73]) hs (by simpa (disch := decide) only [pm_up_o] using h74) (by omega) (by omega) rfl ?_ ; simp (disch := first | omega | decide) only [w_nl0, w_nli, w_nlr, ↓w_ts1, ↓w_ts0, w_rcv, w_rfv, w_cs, true_and, and_true, List.length_nil, List.length_cons, Nat.reduceAdd, Nat.reduceLeDiff, Nat.zero_le, Nat.reduceLT, ↓w_nil, ix_nI, nI_leP, nI_ltP, nI_eqP, nI_1, ↓i_inN, i_inN, l_le, l_lt, l_eq, r_le, r_lt, r_eq, sh68_0, sh68_1, sh68_2, sh68_3, sh68_4, ↓w_aload_0, ↓w_iload_1, ↓w_iload_2, ↓w_iv, ↓pm_cl2_3, ↓w_istore_3, ↓w_iconst, ↓w_pf0, ↓w_iload_3, ↓w_sw_X12_readItem_18, ↓w_iadd, ↓pm_cl2_4, ↓w_ifne, ↓w_ret, ↓w_bipush, ↓w_isub, ↓w_ifeq, ↓w_goto, ↓w_icne, nI_add, nI_p2, nI_p3, hbi, hb1, hb2, if_neg c3, if_pos c1, if_pos c2])
            | (simp only [w_in])
            | (intro _))
          all_goals first
            | (refine hQ _ (by repeat (first | exact ms_id | refine ms_up (by decide) ?_)) (fun _ => ⟨?_, ?_, ?_, ?_, ?_⟩) <;> first | (simp (disch := decide) only [pm_up_n, pm_up_s]; done) | (clear h74 hQ; grind))
            | (clear h74 hQ; grind)
      · have e : pit b s i = (false, i + 2, 0, 0, 0, 0) := by
          unfold pit pG
          rw [if_pos l1, if_neg (fun z => z c1), if_pos c2]
        rw [e] at hQ
        simp only [if_true, Bool.false_eq_true, if_false] at hQ
        clear e
        refine eX12_readItem (by omega) ?_
        repeat' (first
          | (apply And.intro)
          | (with_reducible refine bX12_readItem_0 ?_; simp (disch := first | omega | decide) only [w_nl0, w_nli, w_nlr, ↓w_ts1, ↓w_ts0, w_rcv, w_rfv, w_cs, true_and, and_true, List.length_nil, List.length_cons, Nat.reduceAdd, Nat.reduceLeDiff, Nat.zero_le, Nat.reduceLT, ↓w_nil, ix_nI, nI_leP, nI_ltP, nI_eqP, nI_1, ↓i_inN, i_inN, l_le, l_lt, l_eq, r_le, r_lt, r_eq, sh68_0, sh68_1, sh68_2, sh68_3, sh68_4, ↓w_aload_0, ↓w_iload_1, ↓w_iload_2, ↓w_iv, ↓pm_cl2_3, ↓w_istore_3, ↓w_iconst, ↓w_pf0, ↓w_iload_3, ↓w_sw_X12_readItem_18, ↓w_iadd, ↓pm_cl2_4, ↓w_ifne, ↓w_ret, ↓w_bipush, ↓w_isub, ↓w_ifeq, ↓w_goto, ↓w_icne, nI_add, nI_p2, nI_p3, hbi, if_pos c1, if_neg c2])
          | (with_reducible refine bX12_readItem_1 ?_; simp (disch := first | omega | decide) only [w_nl0, w_nli, w_nlr, ↓w_ts1, ↓w_ts0, w_rcv, w_rfv, w_cs, true_and, and_true, List.length_nil, List.length_cons, Nat.reduceAdd, Nat.reduceLeDiff, Nat.zero_le, Nat.reduceLT, ↓w_nil, ix_nI, nI_leP, nI_ltP, nI_eqP, nI_1, ↓i_inN, i_inN, l_le, l_lt, l_eq, r_le, r_lt, r_eq, sh68_0, sh68_1, sh68_2, sh68_3, sh68_4, ↓w_aload_0, ↓w_iload_1, ↓w_iload_2, ↓w_iv, ↓pm_cl2_3, ↓w_istore_3, ↓w_iconst, ↓w_pf0, ↓w_iload_3, ↓w_sw_X12_readItem_18, ↓w_iadd, ↓pm_cl2_4, ↓w_ifne, ↓w_ret, ↓w_bipush, ↓w_isub, ↓w_ifeq, ↓w_goto, ↓w_icne, nI_add, nI_p2, nI_p3, hbi, if_pos c1, if_neg c2])
          | (with_reducible refine bX12_readItem_2 ?_; simp (disch := first | omega | decide) only [w_nl0, w_nli, w_nlr, ↓w_ts1, ↓w_ts0, w_rcv, w_rfv, w_cs, true_and, and_true, List.length_nil, List.length_cons, Nat.reduceAdd, Nat.reduceLeDiff, Nat.zero_le, Nat.reduceLT, ↓w_nil, ix_nI, nI_leP, nI_ltP, nI_eqP, nI_1, ↓i_inN, i_inN, l_le, l_lt, l_eq, r_le, r_lt, r_eq, sh68_0, sh68_1, sh68_2, sh68_3, sh68_4, ↓w_aload_0, ↓w_iload_1, ↓w_iload_2, ↓w_iv, ↓pm_cl2_3, ↓w_istore_3, ↓w_iconst, ↓w_pf0, ↓w_iload_3, ↓w_sw_X12_readItem_18, ↓w_iadd, ↓pm_cl2_4, ↓w_ifne, ↓w_ret, ↓w_bipush, ↓w_isub, ↓w_ifeq, ↓w_goto, ↓w_icne, nI_add, nI_p2, nI_p3, hbi, if_pos c1, if_neg c2])
          | (with_reducible refine m_fig (s := s) (b := b) (m' := 4) (by omega) ht (by simp (disch := decide) only [pm_up_o, h73]) hs (by simpa (disch := decide) only [pm_up_o] using h74) (by omega) fig3 ?_ ; simp (disch := first | omega | decide) only [w_nl0, w_nli, w_nlr, ↓w_ts1, ↓w_ts0, w_rcv, w_rfv, w_cs, true_and, and_true, List.length_nil, List.length_cons, Nat.reduceAdd, Nat.reduceLeDiff, Nat.zero_le, Nat.reduceLT, ↓w_nil, ix_nI, nI_leP, nI_ltP, nI_eqP, nI_1, ↓i_inN, i_inN, l_le, l_lt, l_eq, r_le, r_lt, r_eq, sh68_0, sh68_1, sh68_2, sh68_3, sh68_4, ↓w_aload_0, ↓w_iload_1, ↓w_iload_2, ↓w_iv, ↓pm_cl2_3, ↓w_istore_3, ↓w_iconst, ↓w_pf0, ↓w_iload_3, ↓w_sw_X12_readItem_18, ↓w_iadd, ↓pm_cl2_4, ↓w_ifne, ↓w_ret, ↓w_bipush, ↓w_isub, ↓w_ifeq, ↓w_goto, ↓w_icne, nI_add, nI_p2, nI_p3, hbi, if_pos c1, if_neg c2])
          | (with_reducible refine m_by (s := s) (b := b) (by omega) ht (by simp (disch := decide) only [pm_up_o, h73]) hs (by simpa (disch := decide) only [pm_up_o] using h74) (by omega) ?_ ; simp (disch := first | omega | decide) only [w_nl0, w_nli, w_nlr, ↓w_ts1, ↓w_ts0, w_rcv, w_rfv, w_cs, true_and, and_true, List.length_nil, List.length_cons, Nat.reduceAdd, Nat.reduceLeDiff, Nat.zero_le, Nat.reduceLT, ↓w_nil, ix_nI, nI_leP, nI_ltP, nI_eqP, nI_1, ↓i_inN, i_inN, l_le, l_lt, l_eq, r_le, r_lt, r_eq, sh68_0, sh68_1, sh68_2, sh68_3, sh68_4, ↓w_aload_0, ↓w_iload_1, ↓w_iload_2, ↓w_iv, ↓pm_cl2_3, ↓w_istore_3, ↓w_iconst, ↓w_pf0, ↓w_iload_3, ↓w_sw_X12_readItem_18, ↓w_iadd, ↓pm_cl2_4, ↓w_ifne, ↓w_ret, ↓w_bipush, ↓w_isub, ↓w_ifeq, ↓w_goto, ↓w_icne, nI_add, nI_p2, nI_p3, hbi, if_pos c1, if_neg c2])
          | (with_reducible refine m_num (s := s) (b := b) (k := 2) (p := i + 3) (by omega) ht (by simp (disch := decide) only [pm_up_o, h73]) hs (by simpa (disch := decide) only [pm_up_o] using h74) (by omega) (by omega) rfl ?_ ; simp (disch := first | omega | decide) only [w_nl0, w_nli, w_nlr, ↓w_ts1, ↓w_ts0, w_rcv, w_rfv, w_cs, true_and, and_true, List.length_nil, List.length_cons, Nat.reduceAdd, Nat.reduceLeDiff, Nat.zero_le, Nat.reduceLT, ↓w_nil, ix_nI, nI_leP, nI_ltP, nI_eqP, nI_1, ↓i_inN, i_inN, l_le, l_lt, l_eq, r_le, r_lt, r_eq, sh68_0, sh68_1, sh68_2, sh68_3, sh68_4, ↓w_aload_0, ↓w_iload_1, ↓w_iload_2, ↓w_iv, ↓pm_cl2_3, ↓w_istore_3, ↓w_iconst, ↓w_pf0, ↓w_iload_3, ↓w_sw_X12_readItem_18, ↓w_iadd, ↓pm_cl2_4, ↓w_ifne, ↓w_ret, ↓w_bipush, ↓w_isub, ↓w_ifeq, ↓w_goto, ↓w_icne, nI_add, nI_p2, nI_p3, hbi, if_pos c1, if_neg c2])
          | (simp only [w_in])
          | (intro _))
        all_goals first
          | (exact hQ _ (by repeat (first | exact ms_id | refine ms_up (by decide) ?_)) (fun z => absurd z (by decide)))
          | (clear h74 hQ; grind)
    · have e : pit b s i = (false, i + 1, 0, 0, 0, 0) := by
        unfold pit pG
        rw [if_pos l1, if_pos c1]
      rw [e] at hQ
      simp only [if_true, Bool.false_eq_true, if_false] at hQ
      clear e
      refine eX12_readItem (by omega) ?_
      repeat' (first
        | (apply And.intro)
        | (with_reducible refine bX12_readItem_0 ?_; simp (disch := first | omega | decide) only [w_nl0, w_nli, w_nlr, ↓w_ts1, ↓w_ts0, w_rcv, w_rfv, w_cs, true_and, and_true, List.length_nil, List.length_cons, Nat.reduceAdd, Nat.reduceLeDiff, Nat.zero_le, Nat.reduceLT, ↓w_nil, ix_nI, nI_leP, nI_ltP, nI_eqP, nI_1, ↓i_inN, i_inN, l_le, l_lt, l_eq, r_le, r_lt, r_eq, sh68_0, sh68_1, sh68_2, sh68_3, sh68_4, ↓w_aload_0, ↓w_iload_1, ↓w_iload_2, ↓w_iv, ↓pm_cl2_3, ↓w_istore_3, ↓w_iconst, ↓w_pf0, ↓w_iload_3, ↓w_sw_X12_readItem_18, ↓w_iadd, ↓pm_cl2_4, ↓w_ifne, ↓w_ret, ↓w_bipush, ↓w_isub, ↓w_ifeq, ↓w_goto, ↓w_icne, nI_add, nI_p2, nI_p3, hbi, if_neg c1])
        | (with_reducible refine bX12_readItem_1 ?_; simp (disch := first | omega | decide) only [w_nl0, w_nli, w_nlr, ↓w_ts1, ↓w_ts0, w_rcv, w_rfv, w_cs, true_and, and_true, List.length_nil, List.length_cons, Nat.reduceAdd, Nat.reduceLeDiff, Nat.zero_le, Nat.reduceLT, ↓w_nil, ix_nI, nI_leP, nI_ltP, nI_eqP, nI_1, ↓i_inN, i_inN, l_le, l_lt, l_eq, r_le, r_lt, r_eq, sh68_0, sh68_1, sh68_2, sh68_3, sh68_4, ↓w_aload_0, ↓w_iload_1, ↓w_iload_2, ↓w_iv, ↓pm_cl2_3, ↓w_istore_3, ↓w_iconst, ↓w_pf0, ↓w_iload_3, ↓w_sw_X12_readItem_18, ↓w_iadd, ↓pm_cl2_4, ↓w_ifne, ↓w_ret, ↓w_bipush, ↓w_isub, ↓w_ifeq, ↓w_goto, ↓w_icne, nI_add, nI_p2, nI_p3, hbi, if_neg c1])
        | (with_reducible refine m_fig (s := s) (b := b) (m' := 4) (by omega) ht (by simp (disch := decide) only [pm_up_o, h73]) hs (by simpa (disch := decide) only [pm_up_o] using h74) (by omega) fig3 ?_ ; simp (disch := first | omega | decide) only [w_nl0, w_nli, w_nlr, ↓w_ts1, ↓w_ts0, w_rcv, w_rfv, w_cs, true_and, and_true, List.length_nil, List.length_cons, Nat.reduceAdd, Nat.reduceLeDiff, Nat.zero_le, Nat.reduceLT, ↓w_nil, ix_nI, nI_leP, nI_ltP, nI_eqP, nI_1, ↓i_inN, i_inN, l_le, l_lt, l_eq, r_le, r_lt, r_eq, sh68_0, sh68_1, sh68_2, sh68_3, sh68_4, ↓w_aload_0, ↓w_iload_1, ↓w_iload_2, ↓w_iv, ↓pm_cl2_3, ↓w_istore_3, ↓w_iconst, ↓w_pf0, ↓w_iload_3, ↓w_sw_X12_readItem_18, ↓w_iadd, ↓pm_cl2_4, ↓w_ifne, ↓w_ret, ↓w_bipush, ↓w_isub, ↓w_ifeq, ↓w_goto, ↓w_icne, nI_add, nI_p2, nI_p3, hbi, if_neg c1])
        | (with_reducible refine m_by (s := s) (b := b) (by omega) ht (by simp (disch := decide) only [pm_up_o, h73]) hs (by simpa (disch := decide) only [pm_up_o] using h74) (by omega) ?_ ; simp (disch := first | omega | decide) only [w_nl0, w_nli, w_nlr, ↓w_ts1, ↓w_ts0, w_rcv, w_rfv, w_cs, true_and, and_true, List.length_nil, List.length_cons, Nat.reduceAdd, Nat.reduceLeDiff, Nat.zero_le, Nat.reduceLT, ↓w_nil, ix_nI, nI_leP, nI_ltP, nI_eqP, nI_1, ↓i_inN, i_inN, l_le, l_lt, l_eq, r_le, r_lt, r_eq, sh68_0, sh68_1, sh68_2, sh68_3, sh68_4, ↓w_aload_0, ↓w_iload_1, ↓w_iload_2, ↓w_iv, ↓pm_cl2_3, ↓w_istore_3, ↓w_iconst, ↓w_pf0, ↓w_iload_3, ↓w_sw_X12_readItem_18, ↓w_iadd, ↓pm_cl2_4, ↓w_ifne, ↓w_ret, ↓w_bipush, ↓w_isub, ↓w_ifeq, ↓w_goto, ↓w_icne, nI_add, nI_p2, nI_p3, hbi, if_neg c1])
        | (with_reducible refine m_num (s := s) (b := b) (k := 2) (p := i + 3) (by omega) ht (by simp (disch := decide) only [pm_up_o, h73]) hs (by simpa (disch := decide) only [pm_up_o] using h74) (by omega) (by omega) rfl ?_ ; simp (disch := first | omega | decide) only [w_nl0, w_nli, w_nlr, ↓w_ts1, ↓w_ts0, w_rcv, w_rfv, w_cs, true_and, and_true, List.length_nil, List.length_cons, Nat.reduceAdd, Nat.reduceLeDiff, Nat.zero_le, Nat.reduceLT, ↓w_nil, ix_nI, nI_leP, nI_ltP, nI_eqP, nI_1, ↓i_inN, i_inN, l_le, l_lt, l_eq, r_le, r_lt, r_eq, sh68_0, sh68_1, sh68_2, sh68_3, sh68_4, ↓w_aload_0, ↓w_iload_1, ↓w_iload_2, ↓w_iv, ↓pm_cl2_3, ↓w_istore_3, ↓w_iconst, ↓w_pf0, ↓w_iload_3, ↓w_sw_X12_readItem_18, ↓w_iadd, ↓pm_cl2_4, ↓w_ifne, ↓w_ret, ↓w_bipush, ↓w_isub, ↓w_ifeq, ↓w_goto, ↓w_icne, nI_add, nI_p2, nI_p3, hbi, if_neg c1])
        | (simp only [w_in])
        | (intro _))
      all_goals first
        | (exact hQ _ (by repeat (first | exact ms_id | refine ms_up (by decide) ?_)) (fun z => absurd z (by decide)))
        | (clear h74 hQ; grind)
  by_cases l2 : b i = 87
  · by_cases c3 : (pdg b s 10 5 (i + 1) 0).2 = i + 1
    · have e : pit b s i = (false, i + 1, 0, 0, 0, 0) := by
        unfold pit pW
        rw [if_neg l1, if_pos l2, if_pos c3]
      rw [e] at hQ
      simp only [if_true, Bool.false_eq_true, if_false] at hQ
      clear e
      refine eX12_readItem (by omega) ?_
      repeat' (first
        | (apply And.intro)
        | (with_reducible refine bX12_readItem_0 ?_; simp (disch := first | omega | decide) only [w_nl0, w_nli, w_nlr, ↓w_ts1, ↓w_ts0, w_rcv, w_rfv, w_cs, true_and, and_true, List.length_nil, List.length_cons, Nat.reduceAdd, Nat.reduceLeDiff, Nat.zero_le, Nat.reduceLT, ↓w_nil, ix_nI, nI_leP, nI_ltP, nI_eqP, nI_1, ↓i_inN, i_inN, l_le, l_lt, l_eq, r_le, r_lt, r_eq, sh68_0, sh68_1, sh68_2, sh68_3, sh68_4, ↓w_aload_0, ↓w_iload_1, ↓w_iload_2, ↓w_iv, ↓pm_cl2_3, ↓w_istore_3, ↓w_iconst, ↓w_pf0, ↓w_iload_3, ↓w_sw_X12_readItem_18, ↓w_iadd, ↓pm_cl2_4, ↓w_ifne, ↓w_ret, ↓w_bipush, ↓w_isub, ↓w_ifeq, ↓w_goto, ↓w_icne, nI_add, nI_p2, nI_p3, hbi, c3, if_true])
        | (with_reducible refine bX12_readItem_6 ?_; simp (disch := first | omega | decide) only [w_nl0, w_nli, w_nlr, ↓w_ts1, ↓w_ts0, w_rcv, w_rfv, w_cs, true_and, and_true, List.length_nil, List.length_cons, Nat.reduceAdd, Nat.reduceLeDiff, Nat.zero_le, Nat.reduceLT, ↓w_nil, ix_nI, nI_leP, nI_ltP, nI_eqP, nI_1, ↓i_inN, i_inN, l_le, l_lt, l_eq, r_le, r_lt, r_eq, sh68_0, sh68_1, sh68_2, sh68_3, sh68_4, ↓w_aload_0, ↓w_iload_1, ↓w_iload_2, ↓w_iv, ↓pm_cl2_3, ↓w_istore_3, ↓w_iconst, ↓w_pf0, ↓w_iload_3, ↓w_sw_X12_readItem_18, ↓w_iadd, ↓pm_cl2_4, ↓w_ifne, ↓w_ret, ↓w_bipush, ↓w_isub, ↓w_ifeq, ↓w_goto, ↓w_icne, nI_add, nI_p2, nI_p3, hbi, c3, if_true])
        | (with_reducible refine bX12_readItem_7 ?_; simp (disch := first | omega | decide) only [w_nl0, w_nli, w_nlr, ↓w_ts1, ↓w_ts0, w_rcv, w_rfv, w_cs, true_and, and_true, List.length_nil, List.length_cons, Nat.reduceAdd, Nat.reduceLeDiff, Nat.zero_le, Nat.reduceLT, ↓w_nil, ix_nI, nI_leP, nI_ltP, nI_eqP, nI_1, ↓i_inN, i_inN, l_le, l_lt, l_eq, r_le, r_lt, r_eq, sh68_0, sh68_1, sh68_2, sh68_3, sh68_4, ↓w_aload_0, ↓w_iload_1, ↓w_iload_2, ↓w_iv, ↓pm_cl2_3, ↓w_istore_3, ↓w_iconst, ↓w_pf0, ↓w_iload_3, ↓w_sw_X12_readItem_18, ↓w_iadd, ↓pm_cl2_4, ↓w_ifne, ↓w_ret, ↓w_bipush, ↓w_isub, ↓w_ifeq, ↓w_goto, ↓w_icne, nI_add, nI_p2, nI_p3, hbi, c3, if_true])
        | (with_reducible refine bX12_readItem_8 ?_; simp (disch := first | omega | decide) only [w_nl0, w_nli, w_nlr, ↓w_ts1, ↓w_ts0, w_rcv, w_rfv, w_cs, true_and, and_true, List.length_nil, List.length_cons, Nat.reduceAdd, Nat.reduceLeDiff, Nat.zero_le, Nat.reduceLT, ↓w_nil, ix_nI, nI_leP, nI_ltP, nI_eqP, nI_1, ↓i_inN, i_inN, l_le, l_lt, l_eq, r_le, r_lt, r_eq, sh68_0, sh68_1, sh68_2, sh68_3, sh68_4, ↓w_aload_0, ↓w_iload_1, ↓w_iload_2, ↓w_iv, ↓pm_cl2_3, ↓w_istore_3, ↓w_iconst, ↓w_pf0, ↓w_iload_3, ↓w_sw_X12_readItem_18, ↓w_iadd, ↓pm_cl2_4, ↓w_ifne, ↓w_ret, ↓w_bipush, ↓w_isub, ↓w_ifeq, ↓w_goto, ↓w_icne, nI_add, nI_p2, nI_p3, hbi, c3, if_true])
        | (with_reducible refine m_by (s := s) (b := b) (by omega) ht (by simp (disch := decide) only [pm_up_o, h73]) hs (by simpa (disch := decide) only [pm_up_o] using h74) (by omega) ?_ ; simp (disch := first | omega | decide) only [w_nl0, w_nli, w_nlr, ↓w_ts1, ↓w_ts0, w_rcv, w_rfv, w_cs, true_and, and_true, List.length_nil, List.length_cons, Nat.reduceAdd, Nat.reduceLeDiff, Nat.zero_le, Nat.reduceLT, ↓w_nil, ix_nI, nI_leP, nI_ltP, nI_eqP, nI_1, ↓i_inN, i_inN, l_le, l_lt, l_eq, r_le, r_lt, r_eq, sh68_0, sh68_1, sh68_2, sh68_3, sh68_4, ↓w_aload_0, ↓w_iload_1, ↓w_iload_2, ↓w_iv, ↓pm_cl2_3, ↓w_istore_3, ↓w_iconst, ↓w_pf0, ↓w_iload_3, ↓w_sw_X12_readItem_18, ↓w_iadd, ↓pm_cl2_4, ↓w_ifne, ↓w_ret, ↓w_bipush, ↓w_isub, ↓w_ifeq, ↓w_goto, ↓w_icne, nI_add, nI_p2, nI_p3, hbi, c3, if_true])
        | (with_reducible refine m_num (s := s) (b := b) (k := 5) (p := i + 1) (by omega) ht (by simp (disch := decide) only [pm_up_o, h73]) hs (by simpa (disch := decide) only [pm_up_o] using h74) (by omega) (by omega) rfl ?_ ; simp (disch := first | omega | decide) only [w_nl0, w_nli, w_nlr, ↓w_ts1, ↓w_ts0, w_rcv, w_rfv, w_cs, true_and, and_true, List.length_nil, List.length_cons, Nat.reduceAdd, Nat.reduceLeDiff, Nat.zero_le, Nat.reduceLT, ↓w_nil, ix_nI, nI_leP, nI_ltP, nI_eqP, nI_1, ↓i_inN, i_inN, l_le, l_lt, l_eq, r_le, r_lt, r_eq, sh68_0, sh68_1, sh68_2, sh68_3, sh68_4, ↓w_aload_0, ↓w_iload_1, ↓w_iload_2, ↓w_iv, ↓pm_cl2_3, ↓w_istore_3, ↓w_iconst, ↓w_pf0, ↓w_iload_3, ↓w_sw_X12_readItem_18, ↓w_iadd, ↓pm_cl2_4, ↓w_ifne, ↓w_ret, ↓w_bipush, ↓w_isub, ↓w_ifeq, ↓w_goto, ↓w_icne, nI_add, nI_p2, nI_p3, hbi, c3, if_true])
        | (simp only [w_in])
        | (intro _))
      all_goals first
        | (exact hQ _ (by repeat (first | exact ms_id | refine ms_up (by decide) ?_)) (fun z => absurd z (by decide)))
        | (clear h74 hQ; grind)
    · have e : pit b s i = (true, (pdg b s 10 5 (i + 1) 0).2, 1, 0, 0, (pdg b s 10 5 (i + 1) 0).1) := by
        unfold pit pW
        rw [if_neg l1, if_pos l2, if_neg c3]
      rw [e] at hQ
      simp only [if_true, Bool.false_eq_true, if_false] at hQ
      clear e
      refine eX12_readItem (by omega) ?_
      repeat' (first
        | (apply And.intro)
        | (with_reducible refine bX12_readItem_0 ?_; simp (disch := first | omega | decide) only [w_nl0, w_nli, w_nlr, ↓w_ts1, ↓w_ts0, w_rcv, w_rfv, w_cs, true_and, and_true, List.length_nil, List.length_cons, Nat.reduceAdd, Nat.reduceLeDiff, Nat.zero_le, Nat.reduceLT, ↓w_nil, ix_nI, nI_leP, nI_ltP, nI_eqP, nI_1, ↓i_inN, i_inN, l_le, l_lt, l_eq, r_le, r_lt, r_eq, sh68_0, sh68_1, sh68_2, sh68_3, sh68_4, ↓w_aload_0, ↓w_iload_1, ↓w_iload_2, ↓w_iv, ↓pm_cl2_3, ↓w_istore_3, ↓w_iconst, ↓w_pf0, ↓w_iload_3, ↓w_sw_X12_readItem_18, ↓w_iadd, ↓pm_cl2_4, ↓w_ifne, ↓w_ret, ↓w_bipush, ↓w_isub, ↓w_ifeq, ↓w_goto, ↓w_icne, nI_add, nI_p2, nI_p3, hbi, if_neg c3])
        | (with_reducible refine bX12_readItem_6 ?_; simp (disch := first | omega | decide) only [w_nl0, w_nli, w_nlr, ↓w_ts1, ↓w_ts0, w_rcv, w_rfv, w_cs, true_and, and_true, List.length_nil, List.length_cons, Nat.reduceAdd, Nat.reduceLeDiff, Nat.zero_le, Nat.reduceLT, ↓w_nil, ix_nI, nI_leP, nI_ltP, nI_eqP, nI_1, ↓i_inN, i_inN, l_le, l_lt, l_eq, r_le, r_lt, r_eq, sh68_0, sh68_1, sh68_2, sh68_3, sh68_4, ↓w_aload_0, ↓w_iload_1, ↓w_iload_2, ↓w_iv, ↓pm_cl2_3, ↓w_istore_3, ↓w_iconst, ↓w_pf0, ↓w_iload_3, ↓w_sw_X12_readItem_18, ↓w_iadd, ↓pm_cl2_4, ↓w_ifne, ↓w_ret, ↓w_bipush, ↓w_isub, ↓w_ifeq, ↓w_goto, ↓w_icne, nI_add, nI_p2, nI_p3, hbi, if_neg c3])
        | (with_reducible refine bX12_readItem_7 ?_; simp (disch := first | omega | decide) only [w_nl0, w_nli, w_nlr, ↓w_ts1, ↓w_ts0, w_rcv, w_rfv, w_cs, true_and, and_true, List.length_nil, List.length_cons, Nat.reduceAdd, Nat.reduceLeDiff, Nat.zero_le, Nat.reduceLT, ↓w_nil, ix_nI, nI_leP, nI_ltP, nI_eqP, nI_1, ↓i_inN, i_inN, l_le, l_lt, l_eq, r_le, r_lt, r_eq, sh68_0, sh68_1, sh68_2, sh68_3, sh68_4, ↓w_aload_0, ↓w_iload_1, ↓w_iload_2, ↓w_iv, ↓pm_cl2_3, ↓w_istore_3, ↓w_iconst, ↓w_pf0, ↓w_iload_3, ↓w_sw_X12_readItem_18, ↓w_iadd, ↓pm_cl2_4, ↓w_ifne, ↓w_ret, ↓w_bipush, ↓w_isub, ↓w_ifeq, ↓w_goto, ↓w_icne, nI_add, nI_p2, nI_p3, hbi, if_neg c3])
        | (with_reducible refine bX12_readItem_8 ?_; simp (disch := first | omega | decide) only [w_nl0, w_nli, w_nlr, ↓w_ts1, ↓w_ts0, w_rcv, w_rfv, w_cs, true_and, and_true, List.length_nil, List.length_cons, Nat.reduceAdd, Nat.reduceLeDiff, Nat.zero_le, Nat.reduceLT, ↓w_nil, ix_nI, nI_leP, nI_ltP, nI_eqP, nI_1, ↓i_inN, i_inN, l_le, l_lt, l_eq, r_le, r_lt, r_eq, sh68_0, sh68_1, sh68_2, sh68_3, sh68_4, ↓w_aload_0, ↓w_iload_1, ↓w_iload_2, ↓w_iv, ↓pm_cl2_3, ↓w_istore_3, ↓w_iconst, ↓w_pf0, ↓w_iload_3, ↓w_sw_X12_readItem_18, ↓w_iadd, ↓pm_cl2_4, ↓w_ifne, ↓w_ret, ↓w_bipush, ↓w_isub, ↓w_ifeq, ↓w_goto, ↓w_icne, nI_add, nI_p2, nI_p3, hbi, if_neg c3])
        | (with_reducible refine m_by (s := s) (b := b) (by omega) ht (by simp (disch := decide) only [pm_up_o, h73]) hs (by simpa (disch := decide) only [pm_up_o] using h74) (by omega) ?_ ; simp (disch := first | omega | decide) only [w_nl0, w_nli, w_nlr, ↓w_ts1, ↓w_ts0, w_rcv, w_rfv, w_cs, true_and, and_true, List.length_nil, List.length_cons, Nat.reduceAdd, Nat.reduceLeDiff, Nat.zero_le, Nat.reduceLT, ↓w_nil, ix_nI, nI_leP, nI_ltP, nI_eqP, nI_1, ↓i_inN, i_inN, l_le, l_lt, l_eq, r_le, r_lt, r_eq, sh68_0, sh68_1, sh68_2, sh68_3, sh68_4, ↓w_aload_0, ↓w_iload_1, ↓w_iload_2, ↓w_iv, ↓pm_cl2_3, ↓w_istore_3, ↓w_iconst, ↓w_pf0, ↓w_iload_3, ↓w_sw_X12_readItem_18, ↓w_iadd, ↓pm_cl2_4, ↓w_ifne, ↓w_ret, ↓w_bipush, ↓w_isub, ↓w_ifeq, ↓w_goto, ↓w_icne, nI_add, nI_p2, nI_p3, hbi, if_neg c3])
        | (with_reducible refine m_num (s := s) (b := b) (k := 5) (p := i + 1) (by omega) ht (by simp (disch := decide) only [pm_up_o, h73]) hs (by simpa (disch := decide) only [pm_up_o] using h74) (by omega) (by omega) rfl ?_ ; simp (disch := first | omega | decide) only [w_nl0, w_nli, w_nlr, ↓w_ts1, ↓w_ts0, w_rcv, w_rfv, w_cs, true_and, and_true, List.length_nil, List.length_cons, Nat.reduceAdd, Nat.reduceLeDiff, Nat.zero_le, Nat.reduceLT, ↓w_nil, ix_nI, nI_leP, nI_ltP, nI_eqP, nI_1, ↓i_inN, i_inN, l_le, l_lt, l_eq, r_le, r_lt, r_eq, sh68_0, sh68_1, sh68_2, sh68_3, sh68_4, ↓w_aload_0, ↓w_iload_1, ↓w_iload_2, ↓w_iv, ↓pm_cl2_3, ↓w_istore_3, ↓w_iconst, ↓w_pf0, ↓w_iload_3, ↓w_sw_X12_readItem_18, ↓w_iadd, ↓pm_cl2_4, ↓w_ifne, ↓w_ret, ↓w_bipush, ↓w_isub, ↓w_ifeq, ↓w_goto, ↓w_icne, nI_add, nI_p2, nI_p3, hbi, if_neg c3])
        | (simp only [w_in])
        | (intro _))
      all_goals first
        | (refine hQ _ (by repeat (first | exact ms_id | refine ms_up (by decide) ?_)) (fun _ => ⟨?_, ?_, ?_, ?_, ?_⟩) <;> first | (simp (disch := decide) only [pm_up_n, pm_up_s]; done) | (clear h74 hQ; grind))
        | (clear h74 hQ; grind)
  by_cases l3 : b i = 80
  · by_cases c1 : isB b s (i + 1) 8
    · have hb1 : byV b s (i + 1) = b (i + 1) := if_pos c1.1
      by_cases c3 : (pdg b s 10 4 (i + 2) 0).2 = i + 2
      · have e : pit b s i = (false, i + 2, 0, 0, 0, 0) := by
          unfold pit pP
          rw [if_neg l1, if_neg l2, if_pos l3, if_neg (fun z => z c1), if_pos c3]
        rw [e] at hQ
        simp only [if_true, Bool.false_eq_true, if_false] at hQ
        clear e
        refine eX12_readItem (by omega) ?_
        repeat' (first
          | (apply And.intro)
          | (with_reducible refine bX12_readItem_0 ?_; simp (disch := first | omega | decide) only [w_nl0, w_nli, w_nlr, ↓w_ts1, ↓w_ts0, w_rcv, w_rfv, w_cs, true_and, and_true, List.length_nil, List.length_cons, Nat.reduceAdd, Nat.reduceLeDiff, Nat.zero_le, Nat.reduceLT, ↓w_nil, ix_nI, nI_leP, nI_ltP, nI_eqP, nI_1, ↓i_inN, i_inN, l_le, l_lt, l_eq, r_le, r_lt, r_eq, sh68_0, sh68_1, sh68_2, sh68_3, sh68_4, ↓w_aload_0, ↓w_iload_1, ↓w_iload_2, ↓w_iv, ↓pm_cl2_3, ↓w_istore_3, ↓w_iconst, ↓w_pf0, ↓w_iload_3, ↓w_sw_X12_readItem_18, ↓w_iadd, ↓pm_cl2_4, ↓w_ifne, ↓w_ret, ↓w_bipush, ↓w_isub, ↓w_ifeq, ↓w_goto, ↓w_icne, nI_add, nI_p2, nI_p3, hbi, hb1, c3, if_pos c1, if_true])
          | (with_reducible refine bX12_readItem_9 ?_; simp (disch := first | omega | decide) only [w_nl0, w_nli, w_nlr, ↓w_ts1, ↓w_ts0, w_rcv, w_rfv, w_cs, true_and, and_true, List.length_nil, List.length_cons, Nat.reduceAdd, Nat.reduceLeDiff, Nat.zero_le, Nat.reduceLT, ↓w_nil, ix_nI, nI_leP, nI_ltP, nI_eqP, nI_1, ↓i_inN, i_inN, l_le, l_lt, l_eq, r_le, r_lt, r_eq, sh68_0, sh68_1, sh68_2, sh68_3, sh68_4, ↓w_aload_0, ↓w_iload_1, ↓w_iload_2, ↓w_iv, ↓pm_cl2_3, ↓w_istore_3, ↓w_iconst, ↓w_pf0, ↓w_iload_3, ↓w_sw_X12_readItem_18, ↓w_iadd, ↓pm_cl2_4, ↓w_ifne, ↓w_ret, ↓w_bipush, ↓w_isub, ↓w_ifeq, ↓w_goto, ↓w_icne, nI_add, nI_p2, nI_p3, hbi, hb1, c3, if_pos c1, if_true])
          | (with_reducible refine bX12_readItem_10 ?_; simp (disch := first | omega | decide) only [w_nl0, w_nli, w_nlr, ↓w_ts1, ↓w_ts0, w_rcv, w_rfv, w_cs, true_and, and_true, List.length_nil, List.length_cons, Nat.reduceAdd, Nat.reduceLeDiff, Nat.zero_le, Nat.reduceLT, ↓w_nil, ix_nI, nI_leP, nI_ltP, nI_eqP, nI_1, ↓i_inN, i_inN, l_le, l_lt, l_eq, r_le, r_lt, r_eq, sh68_0, sh68_1, sh68_2, sh68_3, sh68_4, ↓w_aload_0, ↓w_iload_1, ↓w_iload_2, ↓w_iv, ↓pm_cl2_3, ↓w_istore_3, ↓w_iconst, ↓w_pf0, ↓w_iload_3, ↓w_sw_X12_readItem_18, ↓w_iadd, ↓pm_cl2_4, ↓w_ifne, ↓w_ret, ↓w_bipush, ↓w_isub, ↓w_ifeq, ↓w_goto, ↓w_icne, nI_add, nI_p2, nI_p3, hbi, hb1, c3, if_pos c1, if_true])
          | (with_reducible refine bX12_readItem_11 ?_; simp (disch := first | omega | decide) only [w_nl0, w_nli, w_nlr, ↓w_ts1, ↓w_ts0, w_rcv, w_rfv, w_cs, true_and, and_true, List.length_nil, List.length_cons, Nat.reduceAdd, Nat.reduceLeDiff, Nat.zero_le, Nat.reduceLT, ↓w_nil, ix_nI, nI_leP, nI_ltP, nI_eqP, nI_1, ↓i_inN, i_inN, l_le, l_lt, l_eq, r_le, r_lt, r_eq, sh68_0, sh68_1, sh68_2, sh68_3, sh68_4, ↓w_aload_0, ↓w_iload_1, ↓w_iload_2, ↓w_iv, ↓pm_cl2_3, ↓w_istore_3, ↓w_iconst, ↓w_pf0, ↓w_iload_3, ↓w_sw_X12_readItem_18, ↓w_iadd, ↓pm_cl2_4, ↓w_ifne, ↓w_ret, ↓w_bipush, ↓w_isub, ↓w_ifeq, ↓w_goto, ↓w_icne, nI_add, nI_p2, nI_p3, hbi, hb1, c3, if_pos c1, if_true])
          | (with_reducible refine bX12_readItem_12 ?_; simp (disch := first | omega | decide) only [w_nl0, w_nli, w_nlr, ↓w_ts1, ↓w_ts0, w_rcv, w_rfv, w_cs, true_and, and_true, List.length_nil, List.length_cons, Nat.reduceAdd, Nat.reduceLeDiff, Nat.zero_le, Nat.reduceLT, ↓w_nil, ix_nI, nI_leP, nI_ltP, nI_eqP, nI_1, ↓i_inN, i_inN, l_le, l_lt, l_eq, r_le, r_lt, r_eq, sh68_0, sh68_1, sh68_2, sh68_3, sh68_4, ↓w_aload_0, ↓w_iload_1, ↓w_iload_2, ↓w_iv, ↓pm_cl2_3, ↓w_istore_3, ↓w_iconst, ↓w_pf0, ↓w_iload_3, ↓w_sw_X12_readItem_18, ↓w_iadd, ↓pm_cl2_4, ↓w_ifne, ↓w_ret, ↓w_bipush, ↓w_isub, ↓w_ifeq, ↓w_goto, ↓w_icne, nI_add, nI_p2, nI_p3, hbi, hb1, c3, if_pos c1, if_true])
          | (with_reducible refine m_fig (s := s) (b := b) (m' := 8) (by omega) ht (by simp (disch := decide) only [pm_up_o, h73]) hs (by simpa (disch := decide) only [pm_up_o] using h74) (by omega) fig7 ?_ ; simp (disch := first | omega | decide) only [w_nl0, w_nli, w_nlr, ↓w_ts1, ↓w_ts0, w_rcv, w_rfv, w_cs, true_and, and_true, List.length_nil, List.length_cons, Nat.reduceAdd, Nat.reduceLeDiff, Nat.zero_le, Nat.reduceLT, ↓w_nil, ix_nI, nI_leP, nI_ltP, nI_eqP, nI_1, ↓i_inN, i_inN, l_le, l_lt, l_eq, r_le, r_lt, r_eq, sh68_0, sh68_1, sh68_2, sh68_3, sh68_4, ↓w_aload_0, ↓w_iload_1, ↓w_iload_2, ↓w_iv, ↓pm_cl2_3, ↓w_istore_3, ↓w_iconst, ↓w_pf0, ↓w_iload_3, ↓w_sw_X12_readItem_18, ↓w_iadd, ↓pm_cl2_4, ↓w_ifne, ↓w_ret, ↓w_bipush, ↓w_isub, ↓w_ifeq, ↓w_goto, ↓w_icne, nI_add, nI_p2, nI_p3, hbi, hb1, c3, if_pos c1, if_true])
          | (with_reducible refine m_by (s := s) (b := b) (by omega) ht (by simp (disch := decide) only [pm_up_o, h73]) hs (by simpa (disch := decide) only [pm_up_o] using h74) (by omega) ?_ ; simp (disch := first | omega | decide) only [w_nl0, w_nli, w_nlr, ↓w_ts1, ↓w_ts0, w_rcv, w_rfv, w_cs, true_and, and_true, List.length_nil, List.length_cons, Nat.reduceAdd, Nat.reduceLeDiff, Nat.zero_le, Nat.reduceLT, ↓w_nil, ix_nI, nI_leP, nI_ltP, nI_eqP, nI_1, ↓i_inN, i_inN, l_le, l_lt, l_eq, r_le, r_lt, r_eq, sh68_0, sh68_1, sh68_2, sh68_3, sh68_4, ↓w_aload_0, ↓w_iload_1, ↓w_iload_2, ↓w_iv, ↓pm_cl2_3, ↓w_istore_3, ↓w_iconst, ↓w_pf0, ↓w_iload_3, ↓w_sw_X12_readItem_18, ↓w_iadd, ↓pm_cl2_4, ↓w_ifne, ↓w_ret, ↓w_bipush, ↓w_isub, ↓w_ifeq, ↓w_goto, ↓w_icne, nI_add, nI_p2, nI_p3, hbi, hb1, c3, if_pos c1, if_true])
          | (with_reducible refine m_num (s := s) (b := b) (k := 4) (p := i + 2) (by omega) ht (by simp (disch := decide) only [pm_up_o, h73]) hs (by simpa (disch := decide) only [pm_up_o] using h74) (by omega) (by omega) rfl ?_ ; simp (disch := first | omega | decide) only [w_nl0, w_nli, w_nlr, ↓w_ts1, ↓w_ts0, w_rcv, w_rfv, w_cs, true_and, and_true, List.length_nil, List.length_cons, Nat.reduceAdd, Nat.reduceLeDiff, Nat.zero_le, Nat.reduceLT, ↓w_nil, ix_nI, nI_leP, nI_ltP, nI_eqP, nI_1, ↓i_inN, i_inN, l_le, l_lt, l_eq, r_le, r_lt, r_eq, sh68_0, sh68_1, sh68_2, sh68_3, sh68_4, ↓w_aload_0, ↓w_iload_1, ↓w_iload_2, ↓w_iv, ↓pm_cl2_3, ↓w_istore_3, ↓w_iconst, ↓w_pf0, ↓w_iload_3, ↓w_sw_X12_readItem_18, ↓w_iadd, ↓pm_cl2_4, ↓w_ifne, ↓w_ret, ↓w_bipush, ↓w_isub, ↓w_ifeq, ↓w_goto, ↓w_icne, nI_add, nI_p2, nI_p3, hbi, hb1, c3, if_pos c1, if_true])
          | (simp only [w_in])
          | (intro _))
        all_goals first
          | (exact hQ _ (by repeat (first | exact ms_id | refine ms_up (by decide) ?_)) (fun z => absurd z (by decide)))
          | (clear h74 hQ; grind)
      · have e : pit b s i = (true, (pdg b s 10 4 (i + 2) 0).2, 2, b (i + 1) - 48, 0, (pdg b s 10 4 (i + 2) 0).1) := by
          unfold pit pP
          rw [if_neg l1, if_neg l2, if_pos l3, if_neg (fun z => z c1), if_neg c3]
        rw [e] at hQ
        simp only [if_true, Bool.false_eq_true, if_false] at hQ
        clear e
        refine eX12_readItem (by omega) ?_
        repeat' (first
          | (apply And.intro)
          | (with_reducible refine bX12_readItem_0 ?_; simp (disch := first | omega | decide) only [w_nl0, w_nli, w_nlr, ↓w_ts1, ↓w_ts0, w_rcv, w_rfv, w_cs, true_and, and_true, List.length_nil, List.length_cons, Nat.reduceAdd, Nat.reduceLeDiff, Nat.zero_le, Nat.reduceLT, ↓w_nil, ix_nI, nI_leP, nI_ltP, nI_eqP, nI_1, ↓i_inN, i_inN, l_le, l_lt, l_eq, r_le, r_lt, r_eq, sh68_0, sh68_1, sh68_2, sh68_3, sh68_4, ↓w_aload_0, ↓w_iload_1, ↓w_iload_2, ↓w_iv, ↓pm_cl2_3, ↓w_istore_3, ↓w_iconst, ↓w_pf0, ↓w_iload_3, ↓w_sw_X12_readItem_18, ↓w_iadd, ↓pm_cl2_4, ↓w_ifne, ↓w_ret, ↓w_bipush, ↓w_isub, ↓w_ifeq, ↓w_goto, ↓w_icne, nI_add, nI_p2, nI_p3, hbi, hb1, if_neg c3, if_pos c1])
          | (with_reducible refine bX12_readItem_9 ?_; simp (disch := first | omega | decide) only [w_nl0, w_nli, w_nlr, ↓w_ts1, ↓w_ts0, w_rcv, w_rfv, w_cs, true_and, and_true, List.length_nil, List.length_cons, Nat.reduceAdd, Nat.reduceLeDiff, Nat.zero_le, Nat.reduceLT, ↓w_nil, ix_nI, nI_leP, nI_ltP, nI_eqP, nI_1, ↓i_inN, i_inN, l_le, l_lt, l_eq, r_le, r_lt, r_eq, sh68_0, sh68_1, sh68_2, sh68_3, sh68_4, ↓w_aload_0, ↓w_iload_1, ↓w_iload_2, ↓w_iv, ↓pm_cl2_3, ↓w_istore_3, ↓w_iconst, ↓w_pf0, ↓w_iload_3, ↓w_sw_X12_readItem_18, ↓w_iadd, ↓pm_cl2_4, ↓w_ifne, ↓w_ret, ↓w_bipush, ↓w_isub, ↓w_ifeq, ↓w_goto, ↓w_icne, nI_add, nI_p2, nI_p3, hbi, hb1, if_neg c3, if_pos c1])
          | (with_reducible refine bX12_readItem_10 ?_; simp (disch := first | omega | decide) only [w_nl0, w_nli, w_nlr, ↓w_ts1, ↓w_ts0, w_rcv, w_rfv, w_cs, true_and, and_true, List.length_nil, List.length_cons, Nat.reduceAdd, Nat.reduceLeDiff, Nat.zero_le, Nat.reduceLT, ↓w_nil, ix_nI, nI_leP, nI_ltP, nI_eqP, nI_1, ↓i_inN, i_inN, l_le, l_lt, l_eq, r_le, r_lt, r_eq, sh68_0, sh68_1, sh68_2, sh68_3, sh68_4, ↓w_aload_0, ↓w_iload_1, ↓w_iload_2, ↓w_iv, ↓pm_cl2_3, ↓w_istore_3, ↓w_iconst, ↓w_pf0, ↓w_iload_3, ↓w_sw_X12_readItem_18, ↓w_iadd, ↓pm_cl2_4, ↓w_ifne, ↓w_ret, ↓w_bipush, ↓w_isub, ↓w_ifeq, ↓w_goto, ↓w_icne, nI_add, nI_p2, nI_p3, hbi, hb1, if_neg c3, if_pos c1])
          | (with_reducible refine bX12_readItem_11 ?_; simp (disch := first | omega | decide) only [w_nl0, w_nli, w_nlr, ↓w_ts1, ↓w_ts0, w_rcv, w_rfv, w_cs, true_and, and_true, List.length_nil, List.length_cons, Nat.reduceAdd, Nat.reduceLeDiff, Nat.zero_le, Nat.reduceLT, ↓w_nil, ix_nI, nI_leP, nI_ltP, nI_eqP, nI_1, ↓i_inN, i_inN, l_le, l_lt, l_eq, r_le, r_lt, r_eq, sh68_0, sh68_1, sh68_2, sh68_3, sh68_4, ↓w_aload_0, ↓w_iload_1, ↓w_iload_2, ↓w_iv, ↓pm_cl2_3, ↓w_istore_3, ↓w_iconst, ↓w_pf0, ↓w_iload_3, ↓w_sw_X12_readItem_18, ↓w_iadd, ↓pm_cl2_4, ↓w_ifne, ↓w_ret, ↓w_bipush, ↓w_isub, ↓w_ifeq, ↓w_goto, ↓w_icne, nI_add, nI_p2, nI_p3, hbi, hb1, if_neg c3, if_pos c1])
          | (with_reducible refine bX12_readItem_12 ?_; simp (disch := first | omega | decide) only [w_nl0, w_nli, w_nlr, ↓w_ts1, ↓w_ts0, w_rcv, w_rfv, w_cs, true_and, and_true, List.length_nil, List.length_cons, Nat.reduceAdd, Nat.reduceLeDiff, Nat.zero_le, Nat.reduceLT, ↓w_nil, ix_nI, nI_leP, nI_ltP, nI_eqP, nI_1, ↓i_inN, i_inN, l_le, l_lt, l_eq, r_le, r_lt, r_eq, sh68_0, sh68_1, sh68_2, sh68_3, sh68_4, ↓w_aload_0, ↓w_iload_1, ↓w_iload_2, ↓w_iv, ↓pm_cl2_3, ↓w_istore_3, ↓w_iconst, ↓w_pf0, ↓w_iload_3, ↓w_sw_X12_readItem_18, ↓w_iadd, ↓pm_cl2_4, ↓w_ifne, ↓w_ret, ↓w_bipush, ↓w_isub, ↓w_ifeq, ↓w_goto, ↓w_icne, nI_add, nI_p2, nI_p3, hbi, hb1, if_neg c3, if_pos c1])
          | (with_reducible refine m_fig (s := s) (b := b) (m' := 8) (by omega) ht (by simp (disch := decide) only [pm_up_o, h73]) hs (by simpa (disch := decide) only [pm_up_o] using h74) (by omega) fig7 ?_ ; simp (disch := first | omega | decide) only [w_nl0, w_nli, w_nlr, ↓w_ts1, ↓w_ts0, w_rcv, w_rfv, w_cs, true_and, and_true, List.length_nil, List.length_cons, Nat.reduceAdd, Nat.reduceLeDiff, Nat.zero_le, Nat.reduceLT, ↓w_nil, ix_nI, nI_leP, nI_ltP, nI_eqP, nI_1, ↓i_inN, i_inN, l_le, l_lt, l_eq, r_le, r_lt, r_eq, sh68_0, sh68_1, sh68_2, sh68_3, sh68_4, ↓w_aload_0, ↓w_iload_1, ↓w_iload_2, ↓w_iv, ↓pm_cl2_3, ↓w_istore_3, ↓w_iconst, ↓w_pf0, ↓w_iload_3, ↓w_sw_X12_readItem_18, ↓w_iadd, ↓pm_cl2_4, ↓w_ifne, ↓w_ret, ↓w_bipush, ↓w_isub, ↓w_ifeq, ↓w_goto, ↓w_icne, nI_add, nI_p2, nI_p3, hbi, hb1, if_neg c3, if_pos c1])
          | (with_reducible refine m_by (s := s) (b := b) (by omega) ht (by simp (disch := decide) only [pm_up_o, h73]) hs (by simpa (disch := decide) only [pm_up_o] using h74) (by omega) ?_ ; simp (disch := first | omega | decide) only [w_nl0, w_nli, w_nlr, ↓w_ts1, ↓w_ts0, w_rcv, w_rfv, w_cs, true_and, and_true, List.length_nil, List.length_cons, Nat.reduceAdd, Nat.reduceLeDiff, Nat.zero_le, Nat.reduceLT, ↓w_nil, ix_nI, nI_leP, nI_ltP, nI_eqP, nI_1, ↓i_inN, i_inN, l_le, l_lt, l_eq, r_le, r_lt, r_eq, sh68_0, sh68_1, sh68_2, sh68_3, sh68_4, ↓w_aload_0, ↓w_iload_1, ↓w_iload_2, ↓w_iv, ↓pm_cl2_3, ↓w_istore_3, ↓w_iconst, ↓w_pf0, ↓w_iload_3, ↓w_sw_X12_readItem_18, ↓w_iadd, ↓pm_cl2_4, ↓w_ifne, ↓w_ret, ↓w_bipush, ↓w_isub, ↓w_ifeq, ↓w_goto, ↓w_icne, nI_add, nI_p2, nI_p3, hbi, hb1, if_neg c3, if_pos c1])
          | (with_reducible refine m_num (s := s) (b := b) (k := 4) (p := i + 2) (by omega) ht (by simp (disch := decide) only [pm_up_o, h73]) hs (by simpa (disch := decide) only [pm_up_o] using h74) (by omega) (by omega) rfl ?_ ; simp (disch := first | omega | decide) only [w_nl0, w_nli, w_nlr, ↓w_ts1, ↓w_ts0, w_rcv, w_rfv, w_cs, true_and, and_true, List.length_nil, List.length_cons, Nat.reduceAdd, Nat.reduceLeDiff, Nat.zero_le, Nat.reduceLT, ↓w_nil, ix_nI, nI_leP, nI_ltP, nI_eqP, nI_1, ↓i_inN, i_inN, l_le, l_lt, l_eq, r_le, r_lt, r_eq, sh68_0, sh68_1, sh68_2, sh68_3, sh68_4, ↓w_aload_0, ↓w_iload_1, ↓w_iload_2, ↓w_iv, ↓pm_cl2_3, ↓w_istore_3, ↓w_iconst, ↓w_pf0, ↓w_iload_3, ↓w_sw_X12_readItem_18, ↓w_iadd, ↓pm_cl2_4, ↓w_ifne, ↓w_ret, ↓w_bipush, ↓w_isub, ↓w_ifeq, ↓w_goto, ↓w_icne, nI_add, nI_p2, nI_p3, hbi, hb1, if_neg c3, if_pos c1])
          | (simp only [w_in])
          | (intro _))
        all_goals first
          | (refine hQ _ (by repeat (first | exact ms_id | refine ms_up (by decide) ?_)) (fun _ => ⟨?_, ?_, ?_, ?_, ?_⟩) <;> first | (simp (disch := decide) only [pm_up_n, pm_up_s]; done) | (clear h74 hQ; grind))
          | (clear h74 hQ; grind)
    · have e : pit b s i = (false, i + 1, 0, 0, 0, 0) := by
        unfold pit pP
        rw [if_neg l1, if_neg l2, if_pos l3, if_pos c1]
      rw [e] at hQ
      simp only [if_true, Bool.false_eq_true, if_false] at hQ
      clear e
      refine eX12_readItem (by omega) ?_
      repeat' (first
        | (apply And.intro)
        | (with_reducible refine bX12_readItem_0 ?_; simp (disch := first | omega | decide) only [w_nl0, w_nli, w_nlr, ↓w_ts1, ↓w_ts0, w_rcv, w_rfv, w_cs, true_and, and_true, List.length_nil, List.length_cons, Nat.reduceAdd, Nat.reduceLeDiff, Nat.zero_le, Nat.reduceLT, ↓w_nil, ix_nI, nI_leP, nI_ltP, nI_eqP, nI_1, ↓i_inN, i_inN, l_le, l_lt, l_eq, r_le, r_lt, r_eq, sh68_0, sh68_1, sh68_2, sh68_3, sh68_4, ↓w_aload_0, ↓w_iload_1, ↓w_iload_2, ↓w_iv, ↓pm_cl2_3, ↓w_istore_3, ↓w_iconst, ↓w_pf0, ↓w_iload_3, ↓w_sw_X12_readItem_18, ↓w_iadd, ↓pm_cl2_4, ↓w_ifne, ↓w_ret, ↓w_bipush, ↓w_isub, ↓w_ifeq, ↓w_goto, ↓w_icne, nI_add, nI_p2, nI_p3, hbi, if_neg c1])
        | (with_reducible refine bX12_readItem_9 ?_; simp (disch := first | omega | decide) only [w_nl0, w_nli, w_nlr, ↓w_ts1, ↓w_ts0, w_rcv, w_rfv, w_cs, true_and, and_true, List.length_nil, List.length_cons, Nat.reduceAdd, Nat.reduceLeDiff, Nat.zero_le, Nat.reduceLT, ↓w_nil, ix_nI, nI_leP, nI_ltP, nI_eqP, nI_1, ↓i_inN, i_inN, l_le, l_lt, l_eq, r_le, r_lt, r_eq, sh68_0, sh68_1, sh68_2, sh68_3, sh68_4, ↓w_aload_0, ↓w_iload_1, ↓w_iload_2, ↓w_iv, ↓pm_cl2_3, ↓w_istore_3, ↓w_iconst, ↓w_pf0, ↓w_iload_3, ↓w_sw_X12_readItem_18, ↓w_iadd, ↓pm_cl2_4, ↓w_ifne, ↓w_ret, ↓w_bipush, ↓w_isub, ↓w_ifeq, ↓w_goto, ↓w_icne, nI_add, nI_p2, nI_p3, hbi, if_neg c1])
        | (with_reducible refine m_fig (s := s) (b := b) (m' := 8) (by omega) ht (by simp (disch := decide) only [pm_up_o, h73]) hs (by simpa (disch := decide) only [pm_up_o] using h74) (by omega) fig7 ?_ ; simp (disch := first | omega | decide) only [w_nl0, w_nli, w_nlr, ↓w_ts1, ↓w_ts0, w_rcv, w_rfv, w_cs, true_and, and_true, List.length_nil, List.length_cons, Nat.reduceAdd, Nat.reduceLeDiff, Nat.zero_le, Nat.reduceLT, ↓w_nil, ix_nI, nI_leP, nI_ltP, nI_eqP, nI_1, ↓i_inN, i_inN, l_le, l_lt, l_eq, r_le, r_lt, r_eq, sh68_0, sh68_1, sh68_2, sh68_3, sh68_4, ↓w_aload_0, ↓w_iload_1, ↓w_iload_2, ↓w_iv, ↓pm_cl2_3, ↓w_istore_3, ↓w_iconst, ↓w_pf0, ↓w_iload_3, ↓w_sw_X12_readItem_18, ↓w_iadd, ↓pm_cl2_4, ↓w_ifne, ↓w_ret, ↓w_bipush, ↓w_isub, ↓w_ifeq, ↓w_goto, ↓w_icne, nI_add, nI_p2, nI_p3, hbi, if_neg c1])
        | (with_reducible refine m_by (s := s) (b := b) (by omega) ht (by simp (disch := decide) only [pm_up_o, h73]) hs (by simpa (disch := decide) only [pm_up_o] using h74) (by omega) ?_ ; simp (disch := first | omega | decide) only [w_nl0, w_nli, w_nlr, ↓w_ts1, ↓w_ts0, w_rcv, w_rfv, w_cs, true_and, and_true, List.length_nil, List.length_cons, Nat.reduceAdd, Nat.reduceLeDiff, Nat.zero_le, Nat.reduceLT, ↓w_nil, ix_nI, nI_leP, nI_ltP, nI_eqP, nI_1, ↓i_inN, i_inN, l_le, l_lt, l_eq, r_le, r_lt, r_eq, sh68_0, sh68_1, sh68_2, sh68_3, sh68_4, ↓w_aload_0, ↓w_iload_1, ↓w_iload_2, ↓w_iv, ↓pm_cl2_3, ↓w_istore_3, ↓w_iconst, ↓w_pf0, ↓w_iload_3, ↓w_sw_X12_readItem_18, ↓w_iadd, ↓pm_cl2_4, ↓w_ifne, ↓w_ret, ↓w_bipush, ↓w_isub, ↓w_ifeq, ↓w_goto, ↓w_icne, nI_add, nI_p2, nI_p3, hbi, if_neg c1])
        | (with_reducible refine m_num (s := s) (b := b) (k := 4) (p := i + 2) (by omega) ht (by simp (disch := decide) only [pm_up_o, h73]) hs (by simpa (disch := decide) only [pm_up_o] using h74) (by omega) (by omega) rfl ?_ ; simp (disch := first | omega | decide) only [w_nl0, w_nli, w_nlr, ↓w_ts1, ↓w_ts0, w_rcv, w_rfv, w_cs, true_and, and_true, List.length_nil, List.length_cons, Nat.reduceAdd, Nat.reduceLeDiff, Nat.zero_le, Nat.reduceLT, ↓w_nil, ix_nI, nI_leP, nI_ltP, nI_eqP, nI_1, ↓i_inN, i_inN, l_le, l_lt, l_eq, r_le, r_lt, r_eq, sh68_0, sh68_1, sh68_2, sh68_3, sh68_4, ↓w_aload_0, ↓w_iload_1, ↓w_iload_2, ↓w_iv, ↓pm_cl2_3, ↓w_istore_3, ↓w_iconst, ↓w_pf0, ↓w_iload_3, ↓w_sw_X12_readItem_18, ↓w_iadd, ↓pm_cl2_4, ↓w_ifne, ↓w_ret, ↓w_bipush, ↓w_isub, ↓w_ifeq, ↓w_goto, ↓w_icne, nI_add, nI_p2, nI_p3, hbi, if_neg c1])
        | (simp only [w_in])
        | (intro _))
      all_goals first
        | (exact hQ _ (by repeat (first | exact ms_id | refine ms_up (by decide) ?_)) (fun z => absurd z (by decide)))
        | (clear h74 hQ; grind)
  by_cases l4 : b i = 78
  · by_cases c1 : isB b s (i + 1) 8
    · have hb1 : byV b s (i + 1) = b (i + 1) := if_pos c1.1
      have e : pit b s i = (true, i + 2, 3, b (i + 1) - 48, 0, 0) := by
        unfold pit pL
        rw [if_neg l1, if_neg l2, if_neg l3, if_pos l4, if_neg (fun z => z c1)]
      rw [e] at hQ
      simp only [if_true, Bool.false_eq_true, if_false] at hQ
      clear e
      refine eX12_readItem (by omega) ?_
      repeat' (first
        | (apply And.intro)
        | (with_reducible refine bX12_readItem_0 ?_; simp (disch := first | omega | decide) only [w_nl0, w_nli, w_nlr, ↓w_ts1, ↓w_ts0, w_rcv, w_rfv, w_cs, true_and, and_true, List.length_nil, List.length_cons, Nat.reduceAdd, Nat.reduceLeDiff, Nat.zero_le, Nat.reduceLT, ↓w_nil, ix_nI, nI_leP, nI_ltP, nI_eqP, nI_1, ↓i_inN, i_inN, l_le, l_lt, l_eq, r_le, r_lt, r_eq, sh68_0, sh68_1, sh68_2, sh68_3, sh68_4, ↓w_aload_0, ↓w_iload_1, ↓w_iload_2, ↓w_iv, ↓pm_cl2_3, ↓w_istore_3, ↓w_iconst, ↓w_pf0, ↓w_iload_3, ↓w_sw_X12_readItem_18, ↓w_iadd, ↓pm_cl2_4, ↓w_ifne, ↓w_ret, ↓w_bipush, ↓w_isub, ↓w_ifeq, ↓w_goto, ↓w_icne, nI_add, nI_p2, nI_p3, hbi, hb1, if_pos c1])
        | (with_reducible refine bX12_readItem_13 ?_; simp (disch := first | omega | decide) only [w_nl0, w_nli, w_nlr, ↓w_ts1, ↓w_ts0, w_rcv, w_rfv, w_cs, true_and, and_true, List.length_nil, List.length_cons, Nat.reduceAdd, Nat.reduceLeDiff, Nat.zero_le, Nat.reduceLT, ↓w_nil, ix_nI, nI_leP, nI_ltP, nI_eqP, nI_1, ↓i_inN, i_inN, l_le, l_lt, l_eq, r_le, r_lt, r_eq, sh68_0, sh68_1, sh68_2, sh68_3, sh68_4, ↓w_aload_0, ↓w_iload_1, ↓w_iload_2, ↓w_iv, ↓pm_cl2_3, ↓w_istore_3, ↓w_iconst, ↓w_pf0, ↓w_iload_3, ↓w_sw_X12_readItem_18, ↓w_iadd, ↓pm_cl2_4, ↓w_ifne, ↓w_ret, ↓w_bipush, ↓w_isub, ↓w_ifeq, ↓w_goto, ↓w_icne, nI_add, nI_p2, nI_p3, hbi, hb1, if_pos c1])
        | (with_reducible refine bX12_readItem_14 ?_; simp (disch := first | omega | decide) only [w_nl0, w_nli, w_nlr, ↓w_ts1, ↓w_ts0, w_rcv, w_rfv, w_cs, true_and, and_true, List.length_nil, List.length_cons, Nat.reduceAdd, Nat.reduceLeDiff, Nat.zero_le, Nat.reduceLT, ↓w_nil, ix_nI, nI_leP, nI_ltP, nI_eqP, nI_1, ↓i_inN, i_inN, l_le, l_lt, l_eq, r_le, r_lt, r_eq, sh68_0, sh68_1, sh68_2, sh68_3, sh68_4, ↓w_aload_0, ↓w_iload_1, ↓w_iload_2, ↓w_iv, ↓pm_cl2_3, ↓w_istore_3, ↓w_iconst, ↓w_pf0, ↓w_iload_3, ↓w_sw_X12_readItem_18, ↓w_iadd, ↓pm_cl2_4, ↓w_ifne, ↓w_ret, ↓w_bipush, ↓w_isub, ↓w_ifeq, ↓w_goto, ↓w_icne, nI_add, nI_p2, nI_p3, hbi, hb1, if_pos c1])
        | (with_reducible refine bX12_readItem_15 ?_; simp (disch := first | omega | decide) only [w_nl0, w_nli, w_nlr, ↓w_ts1, ↓w_ts0, w_rcv, w_rfv, w_cs, true_and, and_true, List.length_nil, List.length_cons, Nat.reduceAdd, Nat.reduceLeDiff, Nat.zero_le, Nat.reduceLT, ↓w_nil, ix_nI, nI_leP, nI_ltP, nI_eqP, nI_1, ↓i_inN, i_inN, l_le, l_lt, l_eq, r_le, r_lt, r_eq, sh68_0, sh68_1, sh68_2, sh68_3, sh68_4, ↓w_aload_0, ↓w_iload_1, ↓w_iload_2, ↓w_iv, ↓pm_cl2_3, ↓w_istore_3, ↓w_iconst, ↓w_pf0, ↓w_iload_3, ↓w_sw_X12_readItem_18, ↓w_iadd, ↓pm_cl2_4, ↓w_ifne, ↓w_ret, ↓w_bipush, ↓w_isub, ↓w_ifeq, ↓w_goto, ↓w_icne, nI_add, nI_p2, nI_p3, hbi, hb1, if_pos c1])
        | (with_reducible refine bX12_readItem_16 ?_; simp (disch := first | omega | decide) only [w_nl0, w_nli, w_nlr, ↓w_ts1, ↓w_ts0, w_rcv, w_rfv, w_cs, true_and, and_true, List.length_nil, List.length_cons, Nat.reduceAdd, Nat.reduceLeDiff, Nat.zero_le, Nat.reduceLT, ↓w_nil, ix_nI, nI_leP, nI_ltP, nI_eqP, nI_1, ↓i_inN, i_inN, l_le, l_lt, l_eq, r_le, r_lt, r_eq, sh68_0, sh68_1, sh68_2, sh68_3, sh68_4, ↓w_aload_0, ↓w_iload_1, ↓w_iload_2, ↓w_iv, ↓pm_cl2_3, ↓w_istore_3, ↓w_iconst, ↓w_pf0, ↓w_iload_3, ↓w_sw_X12_readItem_18, ↓w_iadd, ↓pm_cl2_4, ↓w_ifne, ↓w_ret, ↓w_bipush, ↓w_isub, ↓w_ifeq, ↓w_goto, ↓w_icne, nI_add, nI_p2, nI_p3, hbi, hb1, if_pos c1])
        | (with_reducible refine m_fig (s := s) (b := b) (m' := 8) (by omega) ht (by simp (disch := decide) only [pm_up_o, h73]) hs (by simpa (disch := decide) only [pm_up_o] using h74) (by omega) fig7 ?_ ; simp (disch := first | omega | decide) only [w_nl0, w_nli, w_nlr, ↓w_ts1, ↓w_ts0, w_rcv, w_rfv, w_cs, true_and, and_true, List.length_nil, List.length_cons, Nat.reduceAdd, Nat.reduceLeDiff, Nat.zero_le, Nat.reduceLT, ↓w_nil, ix_nI, nI_leP, nI_ltP, nI_eqP, nI_1, ↓i_inN, i_inN, l_le, l_lt, l_eq, r_le, r_lt, r_eq, sh68_0, sh68_1, sh68_2, sh68_3, sh68_4, ↓w_aload_0, ↓w_iload_1, ↓w_iload_2, ↓w_iv, ↓pm_cl2_3, ↓w_istore_3, ↓w_iconst, ↓w_pf0, ↓w_iload_3, ↓w_sw_X12_readItem_18, ↓w_iadd, ↓pm_cl2_4, ↓w_ifne, ↓w_ret, ↓w_bipush, ↓w_isub, ↓w_ifeq, ↓w_goto, ↓w_icne, nI_add, nI_p2, nI_p3, hbi, hb1, if_pos c1])
        | (with_reducible refine m_by (s := s) (b := b) (by omega) ht (by simp (disch := decide) only [pm_up_o, h73]) hs (by simpa (disch := decide) only [pm_up_o] using h74) (by omega) ?_ ; simp (disch := first | omega | decide) only [w_nl0, w_nli, w_nlr, ↓w_ts1, ↓w_ts0, w_rcv, w_rfv, w_cs, true_and, and_true, List.length_nil, List.length_cons, Nat.reduceAdd, Nat.reduceLeDiff, Nat.zero_le, Nat.reduceLT, ↓w_nil, ix_nI, nI_leP, nI_ltP, nI_eqP, nI_1, ↓i_inN, i_inN, l_le, l_lt, l_eq, r_le, r_lt, r_eq, sh68_0, sh68_1, sh68_2, sh68_3, sh68_4, ↓w_aload_0, ↓w_iload_1, ↓w_iload_2, ↓w_iv, ↓pm_cl2_3, ↓w_istore_3, ↓w_iconst, ↓w_pf0, ↓w_iload_3, ↓w_sw_X12_readItem_18, ↓w_iadd, ↓pm_cl2_4, ↓w_ifne, ↓w_ret, ↓w_bipush, ↓w_isub, ↓w_ifeq, ↓w_goto, ↓w_icne, nI_add, nI_p2, nI_p3, hbi, hb1, if_pos c1])
        | (simp only [w_in])
        | (intro _))
      all_goals first
        | (refine hQ _ (by repeat (first | exact ms_id | refine ms_up (by decide) ?_)) (fun _ => ⟨?_, ?_, ?_, ?_, ?_⟩) <;> first | (simp (disch := decide) only [pm_up_n, pm_up_s]; done) | (clear h74 hQ; grind))
        | (clear h74 hQ; grind)
    · have e : pit b s i = (false, i + 1, 0, 0, 0, 0) := by
        unfold pit pL
        rw [if_neg l1, if_neg l2, if_neg l3, if_pos l4, if_pos c1]
      rw [e] at hQ
      simp only [if_true, Bool.false_eq_true, if_false] at hQ
      clear e
      refine eX12_readItem (by omega) ?_
      repeat' (first
        | (apply And.intro)
        | (with_reducible refine bX12_readItem_0 ?_; simp (disch := first | omega | decide) only [w_nl0, w_nli, w_nlr, ↓w_ts1, ↓w_ts0, w_rcv, w_rfv, w_cs, true_and, and_true, List.length_nil, List.length_cons, Nat.reduceAdd, Nat.reduceLeDiff, Nat.zero_le, Nat.reduceLT, ↓w_nil, ix_nI, nI_leP, nI_ltP, nI_eqP, nI_1, ↓i_inN, i_inN, l_le, l_lt, l_eq, r_le, r_lt, r_eq, sh68_0, sh68_1, sh68_2, sh68_3, sh68_4, ↓w_aload_0, ↓w_iload_1, ↓w_iload_2, ↓w_iv, ↓pm_cl2_3, ↓w_istore_3, ↓w_iconst, ↓w_pf0, ↓w_iload_3, ↓w_sw_X12_readItem_18, ↓w_iadd, ↓pm_cl2_4, ↓w_ifne, ↓w_ret, ↓w_bipush, ↓w_isub, ↓w_ifeq, ↓w_goto, ↓w_icne, nI_add, nI_p2, nI_p3, hbi, if_neg c1])
        | (with_reducible refine bX12_readItem_13 ?_; simp (disch := first | omega | decide) only [w_nl0, w_nli, w_nlr, ↓w_ts1, ↓w_ts0, w_rcv, w_rfv, w_cs, true_and, and_true, List.length_nil, List.length_cons, Nat.reduceAdd, Nat.reduceLeDiff, Nat.zero_le, Nat.reduceLT, ↓w_nil, ix_nI, nI_leP, nI_ltP, nI_eqP, nI_1, ↓i_inN, i_inN, l_le, l_lt, l_eq, r_le, r_lt, r_eq, sh68_0, sh68_1, sh68_2, sh68_3, sh68_4, ↓w_aload_0, ↓w_iload_1, ↓w_iload_2, ↓w_iv, ↓pm_cl2_3, ↓w_istore_3, ↓w_iconst, ↓w_pf0, ↓w_iload_3, ↓w_sw_X12_readItem_18, ↓w_iadd, ↓pm_cl2_4, ↓w_ifne, ↓w_ret, ↓w_bipush, ↓w_isub, ↓w_ifeq, ↓w_goto, ↓w_icne, nI_add, nI_p2, nI_p3, hbi, if_neg c1])
        | (with_reducible refine m_fig (s := s) (b := b) (m' := 8) (by omega) ht (by simp (disch := decide) only [pm_up_o, h73]) hs (by simpa (disch := decide) only [pm_up_o] using h74) (by omega) fig7 ?_ ; simp (disch := first | omega | decide) only [w_nl0, w_nli, w_nlr, ↓w_ts1, ↓w_ts0, w_rcv, w_rfv, w_cs, true_and, and_true, List.length_nil, List.length_cons, Nat.reduceAdd, Nat.reduceLeDiff, Nat.zero_le, Nat.reduceLT, ↓w_nil, ix_nI, nI_leP, nI_ltP, nI_eqP, nI_1, ↓i_inN, i_inN, l_le, l_lt, l_eq, r_le, r_lt, r_eq, sh68_0, sh68_1, sh68_2, sh68_3, sh68_4, ↓w_aload_0, ↓w_iload_1, ↓w_iload_2, ↓w_iv, ↓pm_cl2_3, ↓w_istore_3, ↓w_iconst, ↓w_pf0, ↓w_iload_3, ↓w_sw_X12_readItem_18, ↓w_iadd, ↓pm_cl2_4, ↓w_ifne, ↓w_ret, ↓w_bipush, ↓w_isub, ↓w_ifeq, ↓w_goto, ↓w_icne, nI_add, nI_p2, nI_p3, hbi, if_neg c1])
        | (with_reducible refine m_by (s := s) (b := b) (by omega) ht (by simp (disch := decide) only [pm_up_o, h73]) hs (by simpa (disch := decide) only [pm_up_o] using h74) (by omega) ?_ ; simp (disch := first | omega | decide) only [w_nl0, w_nli, w_nlr, ↓w_ts1, ↓w_ts0, w_rcv, w_rfv, w_cs, true_and, and_true, List.length_nil, List.length_cons, Nat.reduceAdd, Nat.reduceLeDiff, Nat.zero_le, Nat.reduceLT, ↓w_nil, ix_nI, nI_leP, nI_ltP, nI_eqP, nI_1, ↓i_inN, i_inN, l_le, l_lt, l_eq, r_le, r_lt, r_eq, sh68_0, sh68_1, sh68_2, sh68_3, sh68_4, ↓w_aload_0, ↓w_iload_1, ↓w_iload_2, ↓w_iv, ↓pm_cl2_3, ↓w_istore_3, ↓w_iconst, ↓w_pf0, ↓w_iload_3, ↓w_sw_X12_readItem_18, ↓w_iadd, ↓pm_cl2_4, ↓w_ifne, ↓w_ret, ↓w_bipush, ↓w_isub, ↓w_ifeq, ↓w_goto, ↓w_icne, nI_add, nI_p2, nI_p3, hbi, if_neg c1])
        | (simp only [w_in])
        | (intro _))
      all_goals first
        | (exact hQ _ (by repeat (first | exact ms_id | refine ms_up (by decide) ?_)) (fun z => absurd z (by decide)))
        | (clear h74 hQ; grind)
  by_cases l5 : b i = 89
  · by_cases c1 : isB b s (i + 1) 8
    · have hb1 : byV b s (i + 1) = b (i + 1) := if_pos c1.1
      have e : pit b s i = (true, i + 2, 3, b (i + 1) - 48, 0, 1) := by
        unfold pit pL
        rw [if_neg l1, if_neg l2, if_neg l3, if_neg l4, if_pos l5, if_neg (fun z => z c1)]
      rw [e] at hQ
      simp only [if_true, Bool.false_eq_true, if_false] at hQ
      clear e
      refine eX12_readItem (by omega) ?_
      repeat' (first
        | (apply And.intro)
        | (with_reducible refine bX12_readItem_0 ?_; simp (disch := first | omega | decide) only [w_nl0, w_nli, w_nlr, ↓w_ts1, ↓w_ts0, w_rcv, w_rfv, w_cs, true_and, and_true, List.length_nil, List.length_cons, Nat.reduceAdd, Nat.reduceLeDiff, Nat.zero_le, Nat.reduceLT, ↓w_nil, ix_nI, nI_leP, nI_ltP, nI_eqP, nI_1, ↓i_inN, i_inN, l_le, l_lt, l_eq, r_le, r_lt, r_eq, sh68_0, sh68_1, sh68_2, sh68_3, sh68_4, ↓w_aload_0, ↓w_iload_1, ↓w_iload_2, ↓w_iv, ↓pm_cl2_3, ↓w_istore_3, ↓w_iconst, ↓w_pf0, ↓w_iload_3, ↓w_sw_X12_readItem_18, ↓w_iadd, ↓pm_cl2_4, ↓w_ifne, ↓w_ret, ↓w_bipush, ↓w_isub, ↓w_ifeq, ↓w_goto, ↓w_icne, nI_add, nI_p2, nI_p3, hbi, hb1, if_pos c1])
        | (with_reducible refine bX12_readItem_13 ?_; simp (disch := first | omega | decide) only [w_nl0, w_nli, w_nlr, ↓w_ts1, ↓w_ts0, w_rcv, w_rfv, w_cs, true_and, and_true, List.length_nil, List.length_cons, Nat.reduceAdd, Nat.reduceLeDiff, Nat.zero_le, Nat.reduceLT, ↓w_nil, ix_nI, nI_leP, nI_ltP, nI_eqP, nI_1, ↓i_inN, i_inN, l_le, l_lt, l_eq, r_le, r_lt, r_eq, sh68_0, sh68_1, sh68_2, sh68_3, sh68_4, ↓w_aload_0, ↓w_iload_1, ↓w_iload_2, ↓w_iv, ↓pm_cl2_3, ↓w_istore_3, ↓w_iconst, ↓w_pf0, ↓w_iload_3, ↓w_sw_X12_readItem_18, ↓w_iadd, ↓pm_cl2_4, ↓w_ifne, ↓w_ret, ↓w_bipush, ↓w_isub, ↓w_ifeq, ↓w_goto, ↓w_icne, nI_add, nI_p2, nI_p3, hbi, hb1, if_pos c1])
        | (with_reducible refine bX12_readItem_14 ?_; simp (disch := first | omega | decide) only [w_nl0, w_nli, w_nlr, ↓w_ts1, ↓w_ts0, w_rcv, w_rfv, w_cs, true_and, and_true, List.length_nil, List.length_cons, Nat.reduceAdd, Nat.reduceLeDiff, Nat.zero_le, Nat.reduceLT, ↓w_nil, ix_nI, nI_leP, nI_ltP, nI_eqP, nI_1, ↓i_inN, i_inN, l_le, l_lt, l_eq, r_le, r_lt, r_eq, sh68_0, sh68_1, sh68_2, sh68_3, sh68_4, ↓w_aload_0, ↓w_iload_1, ↓w_iload_2, ↓w_iv, ↓pm_cl2_3, ↓w_istore_3, ↓w_iconst, ↓w_pf0, ↓w_iload_3, ↓w_sw_X12_readItem_18, ↓w_iadd, ↓pm_cl2_4, ↓w_ifne, ↓w_ret, ↓w_bipush, ↓w_isub, ↓w_ifeq, ↓w_goto, ↓w_icne, nI_add, nI_p2, nI_p3, hbi, hb1, if_pos c1])
        | (with_reducible refine bX12_readItem_15 ?_; simp (disch := first | omega | decide) only [w_nl0, w_nli, w_nlr, ↓w_ts1, ↓w_ts0, w_rcv, w_rfv, w_cs, true_and, and_true, List.length_nil, List.length_cons, Nat.reduceAdd, Nat.reduceLeDiff, Nat.zero_le, Nat.reduceLT, ↓w_nil, ix_nI, nI_leP, nI_ltP, nI_eqP, nI_1, ↓i_inN, i_inN, l_le, l_lt, l_eq, r_le, r_lt, r_eq, sh68_0, sh68_1, sh68_2, sh68_3, sh68_4, ↓w_aload_0, ↓w_iload_1, ↓w_iload_2, ↓w_iv, ↓pm_cl2_3, ↓w_istore_3, ↓w_iconst, ↓w_pf0, ↓w_iload_3, ↓w_sw_X12_readItem_18, ↓w_iadd, ↓pm_cl2_4, ↓w_ifne, ↓w_ret, ↓w_bipush, ↓w_isub, ↓w_ifeq, ↓w_goto, ↓w_icne, nI_add, nI_p2, nI_p3, hbi, hb1, if_pos c1])
        | (with_reducible refine bX12_readItem_16 ?_; simp (disch := first | omega | decide) only [w_nl0, w_nli, w_nlr, ↓w_ts1, ↓w_ts0, w_rcv, w_rfv, w_cs, true_and, and_true, List.length_nil, List.length_cons, Nat.reduceAdd, Nat.reduceLeDiff, Nat.zero_le, Nat.reduceLT, ↓w_nil, ix_nI, nI_leP, nI_ltP, nI_eqP, nI_1, ↓i_inN, i_inN, l_le, l_lt, l_eq, r_le, r_lt, r_eq, sh68_0, sh68_1, sh68_2, sh68_3, sh68_4, ↓w_aload_0, ↓w_iload_1, ↓w_iload_2, ↓w_iv, ↓pm_cl2_3, ↓w_istore_3, ↓w_iconst, ↓w_pf0, ↓w_iload_3, ↓w_sw_X12_readItem_18, ↓w_iadd, ↓pm_cl2_4, ↓w_ifne, ↓w_ret, ↓w_bipush, ↓w_isub, ↓w_ifeq, ↓w_goto, ↓w_icne, nI_add, nI_p2, nI_p3, hbi, hb1, if_pos c1])
        | (with_reducible refine m_fig (s := s) (b := b) (m' := 8) (by omega) ht (by simp (disch := decide) only [pm_up_o, h73]) hs (by simpa (disch := decide) only [pm_up_o] using h74) (by omega) fig7 ?_ ; simp (disch := first | omega | decide) only [w_nl0, w_nli, w_nlr, ↓w_ts1, ↓w_ts0, w_rcv, w_rfv, w_cs, true_and, and_true, List.length_nil, List.length_cons, Nat.reduceAdd, Nat.reduceLeDiff, Nat.zero_le, Nat.reduceLT, ↓w_nil, ix_nI, nI_leP, nI_ltP, nI_eqP, nI_1, ↓i_inN, i_inN, l_le, l_lt, l_eq, r_le, r_lt, r_eq, sh68_0, sh68_1, sh68_2, sh68_3, sh68_4, ↓w_aload_0, ↓w_iload_1, ↓w_iload_2, ↓w_iv, ↓pm_cl2_3, ↓w_istore_3, ↓w_iconst, ↓w_pf0, ↓w_iload_3, ↓w_sw_X12_readItem_18, ↓w_iadd, ↓pm_cl2_4, ↓w_ifne, ↓w_ret, ↓w_bipush, ↓w_isub, ↓w_ifeq, ↓w_goto, ↓w_icne, nI_add, nI_p2, nI_p3, hbi, hb1, if_pos c1])
        | (with_reducible refine m_by (s := s) (b := b) (by omega) ht (by simp (disch := decide) only [pm_up_o, h73]) hs (by simpa (disch := decide) only [pm_up_o] using h74) (by omega) ?_ ; simp (disch := first | omega | decide) only [w_nl0, w_nli, w_nlr, ↓w_ts1, ↓w_ts0, w_rcv, w_rfv, w_cs, true_and, and_true, List.length_nil, List.length_cons, Nat.reduceAdd, Nat.reduceLeDiff, Nat.zero_le, Nat.reduceLT, ↓w_nil, ix_nI, nI_leP, nI_ltP, nI_eqP, nI_1, ↓i_inN, i_inN, l_le, l_lt, l_eq, r_le, r_lt, r_eq, sh68_0, sh68_1, sh68_2, sh68_3, sh68_4, ↓w_aload_0, ↓w_iload_1, ↓w_iload_2, ↓w_iv, ↓pm_cl2_3, ↓w_istore_3, ↓w_iconst, ↓w_pf0, ↓w_iload_3, ↓w_sw_X12_readItem_18, ↓w_iadd, ↓pm_cl2_4, ↓w_ifne, ↓w_ret, ↓w_bipush, ↓w_isub, ↓w_ifeq, ↓w_goto, ↓w_icne, nI_add, nI_p2, nI_p3, hbi, hb1, if_pos c1])
        | (simp only [w_in])
        | (intro _))
      all_goals first
        | (refine hQ _ (by repeat (first | exact ms_id | refine ms_up (by decide) ?_)) (fun _ => ⟨?_, ?_, ?_, ?_, ?_⟩) <;> first | (simp (disch := decide) only [pm_up_n, pm_up_s]; done) | (clear h74 hQ; grind))
        | (clear h74 hQ; grind)
    · have e : pit b s i = (false, i + 1, 0, 0, 0, 0) := by
        unfold pit pL
        rw [if_neg l1, if_neg l2, if_neg l3, if_neg l4, if_pos l5, if_pos c1]
      rw [e] at hQ
      simp only [if_true, Bool.false_eq_true, if_false] at hQ
      clear e
      refine eX12_readItem (by omega) ?_
      repeat' (first
        | (apply And.intro)
        | (with_reducible refine bX12_readItem_0 ?_; simp (disch := first | omega | decide) only [w_nl0, w_nli, w_nlr, ↓w_ts1, ↓w_ts0, w_rcv, w_rfv, w_cs, true_and, and_true, List.length_nil, List.length_cons, Nat.reduceAdd, Nat.reduceLeDiff, Nat.zero_le, Nat.reduceLT, ↓w_nil, ix_nI, nI_leP, nI_ltP, nI_eqP, nI_1, ↓i_inN, i_inN, l_le, l_lt, l_eq, r_le, r_lt, r_eq, sh68_0, sh68_1, sh68_2, sh68_3, sh68_4, ↓w_aload_0, ↓w_iload_1, ↓w_iload_2, ↓w_iv, ↓pm_cl2_3, ↓w_istore_3, ↓w_iconst, ↓w_pf0, ↓w_iload_3, ↓w_sw_X12_readItem_18, ↓w_iadd, ↓pm_cl2_4, ↓w_ifne, ↓w_ret, ↓w_bipush, ↓w_isub, ↓w_ifeq, ↓w_goto, ↓w_icne, nI_add, nI_p2, nI_p3, hbi, if_neg c1])
        | (with_reducible refine bX12_readItem_13 ?_; simp (disch := first | omega | decide) only [w_nl0, w_nli, w_nlr, ↓w_ts1, ↓w_ts0, w_rcv, w_rfv, w_cs, true_and, and_true, List.length_nil, List.length_cons, Nat.reduceAdd, Nat.reduceLeDiff, Nat.zero_le, Nat.reduceLT, ↓w_nil, ix_nI, nI_leP, nI_ltP, nI_eqP, nI_1, ↓i_inN, i_inN, l_le, l_lt, l_eq, r_le, r_lt, r_eq, sh68_0, sh68_1, sh68_2, sh68_3, sh68_4, ↓w_aload_0, ↓w_iload_1, ↓w_iload_2, ↓w_iv, ↓pm_cl2_3, ↓w_istore_3, ↓w_iconst, ↓w_pf0, ↓w_iload_3, ↓w_sw_X12_readItem_18, ↓w_iadd, ↓pm_cl2_4, ↓w_ifne, ↓w_ret, ↓w_bipush, ↓w_isub, ↓w_ifeq, ↓w_goto, ↓w_icne, nI_add, nI_p2, nI_p3, hbi, if_neg c1])
        | (with_reducible refine m_fig (s := s) (b := b) (m' := 8) (by omega) ht (by simp (disch := decide) only [pm_up_o, h73]) hs (by simpa (disch := decide) only [pm_up_o] using h74) (by omega) fig7 ?_ ; simp (disch := first | omega | decide) only [w_nl0, w_nli, w_nlr, ↓w_ts1, ↓w_ts0, w_rcv, w_rfv, w_cs, true_and, and_true, List.length_nil, List.length_cons, Nat.reduceAdd, Nat.reduceLeDiff, Nat.zero_le, Nat.reduceLT, ↓w_nil, ix_nI, nI_leP, nI_ltP, nI_eqP, nI_1, ↓i_inN, i_inN, l_le, l_lt, l_eq, r_le, r_lt, r_eq, sh68_0, sh68_1, sh68_2, sh68_3, sh68_4, ↓w_aload_0, ↓w_iload_1, ↓w_iload_2, ↓w_iv, ↓pm_cl2_3, ↓w_istore_3, ↓w_iconst, ↓w_pf0, ↓w_iload_3, ↓w_sw_X12_readItem_18, ↓w_iadd, ↓pm_cl2_4, ↓w_ifne, ↓w_ret, ↓w_bipush, ↓w_isub, ↓w_ifeq, ↓w_goto, ↓w_icne, nI_add, nI_p2, nI_p3, hbi, if_neg c1])
        | (with_reducible refine m_by (s := s) (b := b) (by omega) ht (by simp (disch := decide) only [pm_up_o, h73]) hs (by simpa (disch := decide) only [pm_up_o] using h74) (by omega) ?_ ; simp (disch := first | omega | decide) only [w_nl0, w_nli, w_nlr, ↓w_ts1, ↓w_ts0, w_rcv, w_rfv, w_cs, true_and, and_true, List.length_nil, List.length_cons, Nat.reduceAdd, Nat.reduceLeDiff, Nat.zero_le, Nat.reduceLT, ↓w_nil, ix_nI, nI_leP, nI_ltP, nI_eqP, nI_1, ↓i_inN, i_inN, l_le, l_lt, l_eq, r_le, r_lt, r_eq, sh68_0, sh68_1, sh68_2, sh68_3, sh68_4, ↓w_aload_0, ↓w_iload_1, ↓w_iload_2, ↓w_iv, ↓pm_cl2_3, ↓w_istore_3, ↓w_iconst, ↓w_pf0, ↓w_iload_3, ↓w_sw_X12_readItem_18, ↓w_iadd, ↓pm_cl2_4, ↓w_ifne, ↓w_ret, ↓w_bipush, ↓w_isub, ↓w_ifeq, ↓w_goto, ↓w_icne, nI_add, nI_p2, nI_p3, hbi, if_neg c1])
        | (simp only [w_in])
        | (intro _))
      all_goals first
        | (exact hQ _ (by repeat (first | exact ms_id | refine ms_up (by decide) ?_)) (fun z => absurd z (by decide)))
        | (clear h74 hQ; grind)
  have e : pit b s i = (false, i, 0, 0, 0, 0) := by
    unfold pit
    rw [if_neg l1, if_neg l2, if_neg l3, if_neg l4, if_neg l5]
  rw [e] at hQ
  simp only [if_true, Bool.false_eq_true, if_false] at hQ
  clear e
  refine eX12_readItem (by omega) ?_
  repeat' (first
    | (apply And.intro)
    | (with_reducible refine bX12_readItem_0 ?_; simp (disch := first | omega | decide) only [w_nl0, w_nli, w_nlr, ↓w_ts1, ↓w_ts0, w_rcv, w_rfv, w_cs, true_and, and_true, List.length_nil, List.length_cons, Nat.reduceAdd, Nat.reduceLeDiff, Nat.zero_le, Nat.reduceLT, ↓w_nil, ix_nI, nI_leP, nI_ltP, nI_eqP, nI_1, ↓i_inN, i_inN, l_le, l_lt, l_eq, r_le, r_lt, r_eq, sh68_0, sh68_1, sh68_2, sh68_3, sh68_4, ↓w_aload_0, ↓w_iload_1, ↓w_iload_2, ↓w_iv, ↓pm_cl2_3, ↓w_istore_3, ↓w_iconst, ↓w_pf0, ↓w_iload_3, ↓w_sw_X12_readItem_18, ↓w_iadd, ↓pm_cl2_4, ↓w_ifne, ↓w_ret, ↓w_bipush, ↓w_isub, ↓w_ifeq, ↓w_goto, ↓w_icne, nI_add, nI_p2, nI_p3, hbi])
    | (with_reducible refine bX12_readItem_17 ?_; simp (disch := first | omega | decide) only [w_nl0, w_nli, w_nlr, ↓w_ts1, ↓w_ts0, w_rcv, w_rfv, w_cs, true_and, and_true, List.length_nil, List.length_cons, Nat.reduceAdd, Nat.reduceLeDiff, Nat.zero_le, Nat.reduceLT, ↓w_nil, ix_nI, nI_leP, nI_ltP, nI_eqP, nI_1, ↓i_inN, i_inN, l_le, l_lt, l_eq, r_le, r_lt, r_eq, sh68_0, sh68_1, sh68_2, sh68_3, sh68_4, ↓w_aload_0, ↓w_iload_1, ↓w_iload_2, ↓w_iv, ↓pm_cl2_3, ↓w_istore_3, ↓w_iconst, ↓w_pf0, ↓w_iload_3, ↓w_sw_X12_readItem_18, ↓w_iadd, ↓pm_cl2_4, ↓w_ifne, ↓w_ret, ↓w_bipush, ↓w_isub, ↓w_ifeq, ↓w_goto, ↓w_icne, nI_add, nI_p2, nI_p3, hbi])
    | (with_reducible refine m_by (s := s) (b := b) (by omega) ht (by simp (disch := decide) only [pm_up_o, h73]) hs (by simpa (disch := decide) only [pm_up_o] using h74) (by omega) ?_ ; simp (disch := first | omega | decide) only [w_nl0, w_nli, w_nlr, ↓w_ts1, ↓w_ts0, w_rcv, w_rfv, w_cs, true_and, and_true, List.length_nil, List.length_cons, Nat.reduceAdd, Nat.reduceLeDiff, Nat.zero_le, Nat.reduceLT, ↓w_nil, ix_nI, nI_leP, nI_ltP, nI_eqP, nI_1, ↓i_inN, i_inN, l_le, l_lt, l_eq, r_le, r_lt, r_eq, sh68_0, sh68_1, sh68_2, sh68_3, sh68_4, ↓w_aload_0, ↓w_iload_1, ↓w_iload_2, ↓w_iv, ↓pm_cl2_3, ↓w_istore_3, ↓w_iconst, ↓w_pf0, ↓w_iload_3, ↓w_sw_X12_readItem_18, ↓w_iadd, ↓pm_cl2_4, ↓w_ifne, ↓w_ret, ↓w_bipush, ↓w_isub, ↓w_ifeq, ↓w_goto, ↓w_icne, nI_add, nI_p2, nI_p3, hbi])
    | (simp only [w_in])
    | (intro _))
  all_goals first
    | (exact hQ _ (by repeat (first | exact ms_id | refine ms_up (by decide) ?_)) (fun z => absurd z (by decide)))
    | (clear h74 hQ; grind)
theorem m_riY {t i s : Nat} {b : Nat → Int32} (hd : 6 ≤ d) (ht : t < 4) (h73 : I 73 t = nI s) (hs : s ≤ 48) (h74 : ∀ i, i < s → I 74 (48 * t + i) = b i) (hi : i < s) (hok : (pit b s i).1 = true) (hQ : ∀ I2, MS I I2 → I2 68 10 = (pit b s i).2.2.1 → I2 68 11 = (pit b s i).2.2.2.1 → I2 68 12 = (pit b s i).2.2.2.2.1 → I2 68 13 = (pit b s i).2.2.2.2.2 → I2 68 14 = nI (pit b s i).2.1 → Q (some (.int (-9))) SH I2 J) : pm_C g d 210 [.ref 68, .int (nI t), .int (nI i)] Q SH I J := by
  refine m_readItem hd ht h73 hs h74 hi (fun I2 h2 h3 => ?_)
  rw [if_pos hok]
  obtain ⟨a1, a2, a3, a4, a5⟩ := h3 hok
  exact hQ I2 h2 a1 a2 a3 a4 a5
theorem m_riN {t i s : Nat} {b : Nat → Int32} (hd : 6 ≤ d) (ht : t < 4) (h73 : I 73 t = nI s) (hs : s ≤ 48) (h74 : ∀ i, i < s → I 74 (48 * t + i) = b i) (hi : i < s) (hok : ¬ (pit b s i).1 = true) (hQ : ∀ I2, MS I I2 → Q (some (.int (nI (pit b s i).2.1))) SH I2 J) : pm_C g d 210 [.ref 68, .int (nI t), .int (nI i)] Q SH I J := by
  refine m_readItem hd ht h73 hs h74 hi (fun I2 h2 h3 => ?_)
  rw [if_neg hok]
  exact hQ I2 h2
theorem psc_D {b : Nat → Int32} {s : Nat} : ∀ f i D D', (psc b s f i D).1 = (psc b s f i D').1 ∧ (psc b s f i D).2.1 = (psc b s f i D').2.1
  | 0, i, D, D' => ⟨rfl, rfl⟩
  | f + 1, i, D, D' => by
    have ih := fun i D D' => psc_D (b := b) (s := s) f i D D'
    simp only [psc]
    by_cases h1 : i < s
    · rw [if_pos h1, if_pos h1]
      by_cases h2 : b i = 32
      · rw [if_pos h2, if_pos h2]
        exact ih _ _ _
      · rw [if_neg h2, if_neg h2]
        by_cases h3 : (pit b s i).1 = true
        · rw [if_pos h3, if_pos h3]
          exact ih _ _ _
        · rw [if_neg h3, if_neg h3]
          exact ⟨rfl, rfl⟩
    · rw [if_neg h1, if_neg h1]
      exact ⟨rfl, rfl⟩
theorem m_faultOf {t s F : Nat} {b D : Nat → Int32} {E : Bool × Nat × (Nat → Int32)} (hd : 8 ≤ d) (ht : t < 4) (h73 : I 73 t = nI s) (hs : s ≤ 48) (h74 : ∀ i, i < s → I 74 (48 * t + i) = b i) (hF : s ≤ F) (hE : psc b s F 0 D = E) (hQ : ∀ I2, MS I I2 → Q (some (.int (if E.1 then -9 else nI E.2.1))) SH I2 J) : pm_C g d 211 [.ref 68, .int (nI t)] Q SH I J := by
  have key : ∀ f i D I2 x, s ≤ i + f → i ≤ s → MS I I2 → psc b s f i D = E → UU g (d - 1) 211 kX12_faultOf (pm_rm d 211) Q 1 [some (.ref 68), some (.int (nI t)), some (.int (nI i)), x] [] SH I2 J (0, 0) := by
    intro f
    induction f with
    | zero =>
      intro i D I2 x hf hi hM he
      simp only [psc] at he
      subst he
      have hQ2 := hQ I2 hM
      simp only [if_true] at hQ2
      have e73 : I2 73 t = nI s := by rw [hM.1 73 (by decide), h73]
      clear hQ h74 hE
      refine bX12_faultOf_1 ?_
      simp (disch := first | omega | decide) only [w_nl0, w_nli, w_nlr, ↓w_ts1, ↓w_ts0, w_rcv, w_rfv, w_cs, true_and, and_true, List.length_nil, List.length_cons, Nat.reduceAdd, Nat.reduceLeDiff, Nat.zero_le, Nat.reduceLT, ↓w_nil, ix_nI, nI_leP, nI_ltP, nI_eqP, nI_1, ↓i_inN, i_inN, l_le, l_lt, l_eq, r_le, r_lt, r_eq, sh68_0, sh68_1, sh68_2, sh68_3, sh68_4, ↓w_iload_2, ↓w_aload_0, ↓w_gf3, ↓w_iload_1, ↓w_iaload, ↓w_icge, ↓w_iv, ↓pm_cl2_3, ↓w_bipush, ↓w_icne, ↓w_iinc_2, ↓w_goto, e73]
      repeat' (first
        | (apply And.intro)
        | (with_reducible refine bX12_faultOf_4 ?_; simp (disch := first | omega | decide) only [w_nl0, w_nli, w_nlr, ↓w_ts1, ↓w_ts0, w_rcv, w_rfv, w_cs, true_and, and_true, List.length_nil, List.length_cons, Nat.reduceAdd, Nat.reduceLeDiff, Nat.zero_le, Nat.reduceLT, ↓w_nil, ix_nI, nI_leP, nI_ltP, nI_eqP, nI_1, ↓i_inN, i_inN, l_le, l_lt, l_eq, r_le, r_lt, r_eq, sh68_0, sh68_1, sh68_2, sh68_3, sh68_4, ↓w_iconst, ↓w_istore_2, ↓w_iload_2, ↓w_aload_0, ↓w_gf3, ↓w_iload_1, ↓w_iaload, ↓w_icge, ↓w_iv, ↓pm_cl2_3, ↓w_bipush, ↓w_icne, ↓w_iinc_2, ↓w_goto, ↓w_istore_3, ↓w_iload_3, ↓w_iceq, ↓w_ret, ↓w_gf0, e73])
        | (simp only [w_in])
        | (intro _))
      all_goals grind
    | succ f ih =>
      intro i D I2 x hf hi hM he
      have e73 : I2 73 t = nI s := by rw [hM.1 73 (by decide), h73]
      have e74 : ∀ i, i < s → I2 74 (48 * t + i) = b i := by
        intro i hi
        rw [hM.1 74 (by decide)]
        exact h74 i hi
      by_cases hl : i < s
      · have hbi : byV b s i = b i := if_pos hl
        rw [psc, if_pos hl] at he
        by_cases hb : b i = 32
        · rw [if_pos hb] at he
          have w := fun x => ih (i + 1) D I2 x (by omega) (by omega) hM he
          clear ih hQ hE h74
          refine bX12_faultOf_1 ?_
          simp (disch := first | omega | decide) only [w_nl0, w_nli, w_nlr, ↓w_ts1, ↓w_ts0, w_rcv, w_rfv, w_cs, true_and, and_true, List.length_nil, List.length_cons, Nat.reduceAdd, Nat.reduceLeDiff, Nat.zero_le, Nat.reduceLT, ↓w_nil, ix_nI, nI_leP, nI_ltP, nI_eqP, nI_1, ↓i_inN, i_inN, l_le, l_lt, l_eq, r_le, r_lt, r_eq, sh68_0, sh68_1, sh68_2, sh68_3, sh68_4, ↓w_iload_2, ↓w_aload_0, ↓w_gf3, ↓w_iload_1, ↓w_iaload, ↓w_icge, ↓w_iv, ↓pm_cl2_3, ↓w_bipush, ↓w_icne, ↓w_iinc_2, ↓w_goto, e73]
          repeat' (first
            | (apply And.intro)
            | (with_reducible refine m_by (s := s) (b := b) (by omega) ht e73 hs e74 (by omega) ?_ ; simp (disch := first | omega | decide) only [w_nl0, w_nli, w_nlr, ↓w_ts1, ↓w_ts0, w_rcv, w_rfv, w_cs, true_and, and_true, List.length_nil, List.length_cons, Nat.reduceAdd, Nat.reduceLeDiff, Nat.zero_le, Nat.reduceLT, ↓w_nil, ix_nI, nI_leP, nI_ltP, nI_eqP, nI_1, ↓i_inN, i_inN, l_le, l_lt, l_eq, r_le, r_lt, r_eq, sh68_0, sh68_1, sh68_2, sh68_3, sh68_4, ↓w_iconst, ↓w_istore_2, ↓w_iload_2, ↓w_aload_0, ↓w_gf3, ↓w_iload_1, ↓w_iaload, ↓w_icge, ↓w_iv, ↓pm_cl2_3, ↓w_bipush, ↓w_icne, ↓w_iinc_2, ↓w_goto, ↓w_istore_3, ↓w_iload_3, ↓w_iceq, ↓w_ret, ↓w_gf0, e73, hbi, nI_add])
            | (simp only [w_in])
            | (intro _))
          all_goals (clear e74; grind)
        · rw [if_neg hb] at he
          have hpr := pit_rng (b := b) hl
          by_cases hok : (pit b s i).1 = true
          · rw [if_pos hok] at he
            have w : ∀ x I3, MS I2 I3 → I3 68 14 = nI (pit b s i).2.1 → UU g (d - 1) 211 kX12_faultOf (pm_rm d 211) Q 1 [some (.ref 68), some (.int (nI t)), some (.int (I3 68 14)), x] [] SH I3 J (0, 0) := by
              intro x I3 h3 h4
              rw [h4]
              exact ih _ _ I3 x (by have := hpr.2 hok; omega) hpr.1 (ms_trans hM h3) he
            clear ih hQ hE h74 he
            refine bX12_faultOf_1 ?_
            simp (disch := first | omega | decide) only [w_nl0, w_nli, w_nlr, ↓w_ts1, ↓w_ts0, w_rcv, w_rfv, w_cs, true_and, and_true, List.length_nil, List.length_cons, Nat.reduceAdd, Nat.reduceLeDiff, Nat.zero_le, Nat.reduceLT, ↓w_nil, ix_nI, nI_leP, nI_ltP, nI_eqP, nI_1, ↓i_inN, i_inN, l_le, l_lt, l_eq, r_le, r_lt, r_eq, sh68_0, sh68_1, sh68_2, sh68_3, sh68_4, ↓w_iload_2, ↓w_aload_0, ↓w_gf3, ↓w_iload_1, ↓w_iaload, ↓w_icge, ↓w_iv, ↓pm_cl2_3, ↓w_bipush, ↓w_icne, ↓w_iinc_2, ↓w_goto, e73]
            repeat' (first
              | (apply And.intro)
              | (with_reducible refine bX12_faultOf_2 ?_; simp (disch := first | omega | decide) only [w_nl0, w_nli, w_nlr, ↓w_ts1, ↓w_ts0, w_rcv, w_rfv, w_cs, true_and, and_true, List.length_nil, List.length_cons, Nat.reduceAdd, Nat.reduceLeDiff, Nat.zero_le, Nat.reduceLT, ↓w_nil, ix_nI, nI_leP, nI_ltP, nI_eqP, nI_1, ↓i_inN, i_inN, l_le, l_lt, l_eq, r_le, r_lt, r_eq, sh68_0, sh68_1, sh68_2, sh68_3, sh68_4, ↓w_iconst, ↓w_istore_2, ↓w_iload_2, ↓w_aload_0, ↓w_gf3, ↓w_iload_1, ↓w_iaload, ↓w_icge, ↓w_iv, ↓pm_cl2_3, ↓w_bipush, ↓w_icne, ↓w_iinc_2, ↓w_goto, ↓w_istore_3, ↓w_iload_3, ↓w_iceq, ↓w_ret, ↓w_gf0, e73, hbi])
              | (with_reducible refine bX12_faultOf_3 ?_; simp (disch := first | omega | decide) only [w_nl0, w_nli, w_nlr, ↓w_ts1, ↓w_ts0, w_rcv, w_rfv, w_cs, true_and, and_true, List.length_nil, List.length_cons, Nat.reduceAdd, Nat.reduceLeDiff, Nat.zero_le, Nat.reduceLT, ↓w_nil, ix_nI, nI_leP, nI_ltP, nI_eqP, nI_1, ↓i_inN, i_inN, l_le, l_lt, l_eq, r_le, r_lt, r_eq, sh68_0, sh68_1, sh68_2, sh68_3, sh68_4, ↓w_iconst, ↓w_istore_2, ↓w_iload_2, ↓w_aload_0, ↓w_gf3, ↓w_iload_1, ↓w_iaload, ↓w_icge, ↓w_iv, ↓pm_cl2_3, ↓w_bipush, ↓w_icne, ↓w_iinc_2, ↓w_goto, ↓w_istore_3, ↓w_iload_3, ↓w_iceq, ↓w_ret, ↓w_gf0, e73, hbi])
              | (with_reducible refine m_by (s := s) (b := b) (by omega) ht e73 hs e74 (by omega) ?_ ; simp (disch := first | omega | decide) only [w_nl0, w_nli, w_nlr, ↓w_ts1, ↓w_ts0, w_rcv, w_rfv, w_cs, true_and, and_true, List.length_nil, List.length_cons, Nat.reduceAdd, Nat.reduceLeDiff, Nat.zero_le, Nat.reduceLT, ↓w_nil, ix_nI, nI_leP, nI_ltP, nI_eqP, nI_1, ↓i_inN, i_inN, l_le, l_lt, l_eq, r_le, r_lt, r_eq, sh68_0, sh68_1, sh68_2, sh68_3, sh68_4, ↓w_iconst, ↓w_istore_2, ↓w_iload_2, ↓w_aload_0, ↓w_gf3, ↓w_iload_1, ↓w_iaload, ↓w_icge, ↓w_iv, ↓pm_cl2_3, ↓w_bipush, ↓w_icne, ↓w_iinc_2, ↓w_goto, ↓w_istore_3, ↓w_iload_3, ↓w_iceq, ↓w_ret, ↓w_gf0, e73, hbi])
              | (with_reducible refine m_riY (s := s) (b := b) (by omega) ht e73 hs e74 hl hok (fun I3 h3 a10 a11 a12 a13 a14 => ?_) <;> simp (disch := first | omega | decide) only [w_nl0, w_nli, w_nlr, ↓w_ts1, ↓w_ts0, w_rcv, w_rfv, w_cs, true_and, and_true, List.length_nil, List.length_cons, Nat.reduceAdd, Nat.reduceLeDiff, Nat.zero_le, Nat.reduceLT, ↓w_nil, ix_nI, nI_leP, nI_ltP, nI_eqP, nI_1, ↓i_inN, i_inN, l_le, l_lt, l_eq, r_le, r_lt, r_eq, sh68_0, sh68_1, sh68_2, sh68_3, sh68_4, ↓w_iconst, ↓w_istore_2, ↓w_iload_2, ↓w_aload_0, ↓w_gf3, ↓w_iload_1, ↓w_iaload, ↓w_icge, ↓w_iv, ↓pm_cl2_3, ↓w_bipush, ↓w_icne, ↓w_iinc_2, ↓w_goto, ↓w_istore_3, ↓w_iload_3, ↓w_iceq, ↓w_ret, ↓w_gf0, e73, hbi])
              | (simp only [w_in])
              | (intro _))
            all_goals first | (exact w _ _ (by assumption) (by assumption)) | (clear e74 w; grind)
          · rw [if_neg hok] at he
            subst he
            have h9 := n9 (j := (pit b s i).2.1) (by omega)
            have w : ∀ I3, MS I2 I3 → Q (some (.int (nI (pit b s i).2.1))) SH I3 J := by
              intro I3 h3
              have hQ2 := hQ I3 (ms_trans hM h3)
              simp only [Bool.false_eq_true, if_false] at hQ2
              exact hQ2
            clear ih hE h74 hQ
            refine bX12_faultOf_1 ?_
            simp (disch := first | omega | decide) only [w_nl0, w_nli, w_nlr, ↓w_ts1, ↓w_ts0, w_rcv, w_rfv, w_cs, true_and, and_true, List.length_nil, List.length_cons, Nat.reduceAdd, Nat.reduceLeDiff, Nat.zero_le, Nat.reduceLT, ↓w_nil, ix_nI, nI_leP, nI_ltP, nI_eqP, nI_1, ↓i_inN, i_inN, l_le, l_lt, l_eq, r_le, r_lt, r_eq, sh68_0, sh68_1, sh68_2, sh68_3, sh68_4, ↓w_iload_2, ↓w_aload_0, ↓w_gf3, ↓w_iload_1, ↓w_iaload, ↓w_icge, ↓w_iv, ↓pm_cl2_3, ↓w_bipush, ↓w_icne, ↓w_iinc_2, ↓w_goto, e73]
            repeat' (first
              | (apply And.intro)
              | (with_reducible refine bX12_faultOf_2 ?_; simp (disch := first | omega | decide) only [w_nl0, w_nli, w_nlr, ↓w_ts1, ↓w_ts0, w_rcv, w_rfv, w_cs, true_and, and_true, List.length_nil, List.length_cons, Nat.reduceAdd, Nat.reduceLeDiff, Nat.zero_le, Nat.reduceLT, ↓w_nil, ix_nI, nI_leP, nI_ltP, nI_eqP, nI_1, ↓i_inN, i_inN, l_le, l_lt, l_eq, r_le, r_lt, r_eq, sh68_0, sh68_1, sh68_2, sh68_3, sh68_4, ↓w_iconst, ↓w_istore_2, ↓w_iload_2, ↓w_aload_0, ↓w_gf3, ↓w_iload_1, ↓w_iaload, ↓w_icge, ↓w_iv, ↓pm_cl2_3, ↓w_bipush, ↓w_icne, ↓w_iinc_2, ↓w_goto, ↓w_istore_3, ↓w_iload_3, ↓w_iceq, ↓w_ret, ↓w_gf0, e73, hbi])
              | (with_reducible refine m_by (s := s) (b := b) (by omega) ht e73 hs e74 (by omega) ?_ ; simp (disch := first | omega | decide) only [w_nl0, w_nli, w_nlr, ↓w_ts1, ↓w_ts0, w_rcv, w_rfv, w_cs, true_and, and_true, List.length_nil, List.length_cons, Nat.reduceAdd, Nat.reduceLeDiff, Nat.zero_le, Nat.reduceLT, ↓w_nil, ix_nI, nI_leP, nI_ltP, nI_eqP, nI_1, ↓i_inN, i_inN, l_le, l_lt, l_eq, r_le, r_lt, r_eq, sh68_0, sh68_1, sh68_2, sh68_3, sh68_4, ↓w_iconst, ↓w_istore_2, ↓w_iload_2, ↓w_aload_0, ↓w_gf3, ↓w_iload_1, ↓w_iaload, ↓w_icge, ↓w_iv, ↓pm_cl2_3, ↓w_bipush, ↓w_icne, ↓w_iinc_2, ↓w_goto, ↓w_istore_3, ↓w_iload_3, ↓w_iceq, ↓w_ret, ↓w_gf0, e73, hbi])
              | (with_reducible refine m_riN (s := s) (b := b) (by omega) ht e73 hs e74 hl hok (fun I3 h3 => ?_) <;> simp (disch := first | omega | decide) only [w_nl0, w_nli, w_nlr, ↓w_ts1, ↓w_ts0, w_rcv, w_rfv, w_cs, true_and, and_true, List.length_nil, List.length_cons, Nat.reduceAdd, Nat.reduceLeDiff, Nat.zero_le, Nat.reduceLT, ↓w_nil, ix_nI, nI_leP, nI_ltP, nI_eqP, nI_1, ↓i_inN, i_inN, l_le, l_lt, l_eq, r_le, r_lt, r_eq, sh68_0, sh68_1, sh68_2, sh68_3, sh68_4, ↓w_iconst, ↓w_istore_2, ↓w_iload_2, ↓w_aload_0, ↓w_gf3, ↓w_iload_1, ↓w_iaload, ↓w_icge, ↓w_iv, ↓pm_cl2_3, ↓w_bipush, ↓w_icne, ↓w_iinc_2, ↓w_goto, ↓w_istore_3, ↓w_iload_3, ↓w_iceq, ↓w_ret, ↓w_gf0, e73, hbi])
              | (simp only [w_in])
              | (intro _))
            all_goals first | (exact w _ (by assumption)) | (clear e74 w; grind)
      · rw [psc, if_neg hl] at he
        subst he
        have hQ2 := hQ I2 hM
        simp only [if_true] at hQ2
        clear ih hQ hE h74 e74
        refine bX12_faultOf_1 ?_
        simp (disch := first | omega | decide) only [w_nl0, w_nli, w_nlr, ↓w_ts1, ↓w_ts0, w_rcv, w_rfv, w_cs, true_and, and_true, List.length_nil, List.length_cons, Nat.reduceAdd, Nat.reduceLeDiff, Nat.zero_le, Nat.reduceLT, ↓w_nil, ix_nI, nI_leP, nI_ltP, nI_eqP, nI_1, ↓i_inN, i_inN, l_le, l_lt, l_eq, r_le, r_lt, r_eq, sh68_0, sh68_1, sh68_2, sh68_3, sh68_4, ↓w_iload_2, ↓w_aload_0, ↓w_gf3, ↓w_iload_1, ↓w_iaload, ↓w_icge, ↓w_iv, ↓pm_cl2_3, ↓w_bipush, ↓w_icne, ↓w_iinc_2, ↓w_goto, e73]
        repeat' (first
          | (apply And.intro)
          | (with_reducible refine bX12_faultOf_4 ?_; simp (disch := first | omega | decide) only [w_nl0, w_nli, w_nlr, ↓w_ts1, ↓w_ts0, w_rcv, w_rfv, w_cs, true_and, and_true, List.length_nil, List.length_cons, Nat.reduceAdd, Nat.reduceLeDiff, Nat.zero_le, Nat.reduceLT, ↓w_nil, ix_nI, nI_leP, nI_ltP, nI_eqP, nI_1, ↓i_inN, i_inN, l_le, l_lt, l_eq, r_le, r_lt, r_eq, sh68_0, sh68_1, sh68_2, sh68_3, sh68_4, ↓w_iconst, ↓w_istore_2, ↓w_iload_2, ↓w_aload_0, ↓w_gf3, ↓w_iload_1, ↓w_iaload, ↓w_icge, ↓w_iv, ↓pm_cl2_3, ↓w_bipush, ↓w_icne, ↓w_iinc_2, ↓w_goto, ↓w_istore_3, ↓w_iload_3, ↓w_iceq, ↓w_ret, ↓w_gf0, e73])
          | (simp only [w_in])
          | (intro _))
        all_goals grind
  have w : UU g (d - 1) 211 kX12_faultOf (pm_rm d 211) Q 1 [some (.ref 68), some (.int (nI t)), some (.int 0), none] [] SH I J (0, 0) := key F 0 D I none (by omega) (by omega) ms_id hE
  clear key h74 hE hQ
  refine eX12_faultOf (by omega) ?_
  repeat' (first
    | (apply And.intro)
    | (with_reducible refine bX12_faultOf_0 ?_; simp (disch := first | omega | decide) only [w_nl0, w_nli, w_nlr, ↓w_ts1, ↓w_ts0, w_rcv, w_rfv, w_cs, true_and, and_true, List.length_nil, List.length_cons, Nat.reduceAdd, Nat.reduceLeDiff, Nat.zero_le, Nat.reduceLT, ↓w_nil, ix_nI, nI_leP, nI_ltP, nI_eqP, nI_1, ↓i_inN, i_inN, l_le, l_lt, l_eq, r_le, r_lt, r_eq, sh68_0, sh68_1, sh68_2, sh68_3, sh68_4, ↓w_iconst, ↓w_istore_2, ↓w_iload_2, ↓w_aload_0, ↓w_gf3, ↓w_iload_1, ↓w_iaload, ↓w_icge, ↓w_iv, ↓pm_cl2_3, ↓w_bipush, ↓w_icne, ↓w_iinc_2, ↓w_goto, ↓w_istore_3, ↓w_iload_3, ↓w_iceq, ↓w_ret, ↓w_gf0])
    | (simp only [w_in])
    | (intro _))
  all_goals grind
theorem rel_rs {I I' : pm_MI} {J : pm_ML} {s p : Nat} {b D : Nat → Int32} {v : Int32} (hr : RS I I' s b p v D) (h : Rel I J) : Rel I' J := by
  obtain ⟨h1, h2, _⟩ := hr
  unfold Rel at h ⊢
  rw [h2]
  simp (disch := decide) only [h1]
  exact h
theorem rel_ms {I I' : pm_MI} {J : pm_ML} (hr : MS I I') (h : Rel I J) : Rel I' J := by
  obtain ⟨h1, h2⟩ := hr
  unfold Rel at h ⊢
  simp (disch := decide) only [h1, h2]
  exact h
theorem p_fault {x : Int32} (hd : 10 ≤ d) : PC g d 130 212 [.int x] := by
  intro I J h
  have hw := relw h
  obtain ⟨s1, s2, s3, s4⟩ := h.2.2.2.1
  have s1 : I 6 0 = 48 := s1
  by_cases hc : 0 ≤ x ∧ x < 4
  · obtain ⟨t, ht, rfl⟩ : ∃ q, q < 4 ∧ x = nI q := i_q (n := 4) (by decide) hc.1 hc.2
    rcases s4 t ht with h1 | ⟨s, hs, h1, h2⟩
    · clear s4
      refine eX11_fault (by omega) ?_
      repeat' (first
        | (apply And.intro)
        | (with_reducible refine bX11_fault_0 ?_; simp (disch := first | omega | decide) only [w_nl0, w_nli, w_nlr, ↓w_ts1, ↓w_ts0, w_rcv, w_rfv, w_cs, true_and, and_true, List.length_nil, List.length_cons, Nat.reduceAdd, Nat.reduceLeDiff, Nat.zero_le, Nat.reduceLT, ↓w_nil, ix_nI, nI_leP, nI_ltP, nI_eqP, nI_1, ↓i_inN, i_inN, l_le, l_lt, l_eq, r_le, r_lt, r_eq, sh0, sh1, sh55, sh60, sh9, sh31, sh23, sh37, sh42, sh43, sh19, sh3, sh6, ↓w_aload_0, ↓w_gf3, ↓w_iload_1, ↓w_iv, ↓pm_cl2_2, ↓w_ifne, ↓w_iconst, ↓w_ret, ↓w_ifeq, ↓pm_cl2_3])
        | (with_reducible refine bX11_fault_1 ?_; simp (disch := first | omega | decide) only [w_nl0, w_nli, w_nlr, ↓w_ts1, ↓w_ts0, w_rcv, w_rfv, w_cs, true_and, and_true, List.length_nil, List.length_cons, Nat.reduceAdd, Nat.reduceLeDiff, Nat.zero_le, Nat.reduceLT, ↓w_nil, ix_nI, nI_leP, nI_ltP, nI_eqP, nI_1, ↓i_inN, i_inN, l_le, l_lt, l_eq, r_le, r_lt, r_eq, sh0, sh1, sh55, sh60, sh9, sh31, sh23, sh37, sh42, sh43, sh19, sh3, sh6, ↓w_aload_0, ↓w_gf3, ↓w_iload_1, ↓w_iv, ↓pm_cl2_2, ↓w_ifne, ↓w_iconst, ↓w_ret, ↓w_ifeq, ↓pm_cl2_3])
        | (with_reducible refine c_hasT (by omega) ?_ ; simp (disch := first | omega | decide) only [w_nl0, w_nli, w_nlr, ↓w_ts1, ↓w_ts0, w_rcv, w_rfv, w_cs, true_and, and_true, List.length_nil, List.length_cons, Nat.reduceAdd, Nat.reduceLeDiff, Nat.zero_le, Nat.reduceLT, ↓w_nil, ix_nI, nI_leP, nI_ltP, nI_eqP, nI_1, ↓i_inN, i_inN, l_le, l_lt, l_eq, r_le, r_lt, r_eq, sh0, sh1, sh55, sh60, sh9, sh31, sh23, sh37, sh42, sh43, sh19, sh3, sh6, ↓w_aload_0, ↓w_gf3, ↓w_iload_1, ↓w_iv, ↓pm_cl2_2, ↓w_ifne, ↓w_iconst, ↓w_ret, ↓w_ifeq, ↓pm_cl2_3])
        | (with_reducible refine c_missingT (by omega) ?_ ; simp (disch := first | omega | decide) only [w_nl0, w_nli, w_nlr, ↓w_ts1, ↓w_ts0, w_rcv, w_rfv, w_cs, true_and, and_true, List.length_nil, List.length_cons, Nat.reduceAdd, Nat.reduceLeDiff, Nat.zero_le, Nat.reduceLT, ↓w_nil, ix_nI, nI_leP, nI_ltP, nI_eqP, nI_1, ↓i_inN, i_inN, l_le, l_lt, l_eq, r_le, r_lt, r_eq, sh0, sh1, sh55, sh60, sh9, sh31, sh23, sh37, sh42, sh43, sh19, sh3, sh6, ↓w_aload_0, ↓w_gf3, ↓w_iload_1, ↓w_iv, ↓pm_cl2_2, ↓w_ifne, ↓w_iconst, ↓w_ret, ↓w_ifeq, ↓pm_cl2_3])
        | (with_reducible refine c_found (by omega) (by decide) (by decide) ?_ ; simp (disch := first | omega | decide) only [w_nl0, w_nli, w_nlr, ↓w_ts1, ↓w_ts0, w_rcv, w_rfv, w_cs, true_and, and_true, List.length_nil, List.length_cons, Nat.reduceAdd, Nat.reduceLeDiff, Nat.zero_le, Nat.reduceLT, ↓w_nil, ix_nI, nI_leP, nI_ltP, nI_eqP, nI_1, ↓i_inN, i_inN, l_le, l_lt, l_eq, r_le, r_lt, r_eq, sh0, sh1, sh55, sh60, sh9, sh31, sh23, sh37, sh42, sh43, sh19, sh3, sh6, ↓w_aload_0, ↓w_gf3, ↓w_iload_1, ↓w_iv, ↓pm_cl2_2, ↓w_ifne, ↓w_iconst, ↓w_ret, ↓w_ifeq, ↓pm_cl2_3])
        | (simp only [w_in])
        | (intro _))
      all_goals try rfl
      all_goals try grind
      all_goals try refine MC.of (eX12_fault (by omega) ?_)
      all_goals
        repeat' (first
          | (apply And.intro)
          | (with_reducible refine bX12_fault_0 ?_; simp (disch := first | omega | decide) only [w_nl0, w_nli, w_nlr, ↓w_ts1, ↓w_ts0, w_rcv, w_rfv, w_cs, true_and, and_true, List.length_nil, List.length_cons, Nat.reduceAdd, Nat.reduceLeDiff, Nat.zero_le, Nat.reduceLT, ↓w_nil, ix_nI, nI_leP, nI_ltP, nI_eqP, nI_1, ↓i_inN, i_inN, l_le, l_lt, l_eq, r_le, r_lt, r_eq, sh68_0, sh68_1, sh68_2, sh68_3, sh68_4, ↓w_iload_1, ↓w_is, ↓pm_cl1_1, ↓w_ifne, ↓w_iconst, ↓w_ret, ↓w_aload_0, ↓w_gf3, ↓w_iaload, ↓w_ifge, ↓w_iv, ↓pm_cl2_2, ↓w_goto, pm_up_o, s3])
          | (with_reducible refine bX12_fault_1 ?_; simp (disch := first | omega | decide) only [w_nl0, w_nli, w_nlr, ↓w_ts1, ↓w_ts0, w_rcv, w_rfv, w_cs, true_and, and_true, List.length_nil, List.length_cons, Nat.reduceAdd, Nat.reduceLeDiff, Nat.zero_le, Nat.reduceLT, ↓w_nil, ix_nI, nI_leP, nI_ltP, nI_eqP, nI_1, ↓i_inN, i_inN, l_le, l_lt, l_eq, r_le, r_lt, r_eq, sh68_0, sh68_1, sh68_2, sh68_3, sh68_4, ↓w_iload_1, ↓w_is, ↓pm_cl1_1, ↓w_ifne, ↓w_iconst, ↓w_ret, ↓w_aload_0, ↓w_gf3, ↓w_iaload, ↓w_ifge, ↓w_iv, ↓pm_cl2_2, ↓w_goto, pm_up_o, s3])
          | (with_reducible refine bX12_fault_3 ?_; simp (disch := first | omega | decide) only [w_nl0, w_nli, w_nlr, ↓w_ts1, ↓w_ts0, w_rcv, w_rfv, w_cs, true_and, and_true, List.length_nil, List.length_cons, Nat.reduceAdd, Nat.reduceLeDiff, Nat.zero_le, Nat.reduceLT, ↓w_nil, ix_nI, nI_leP, nI_ltP, nI_eqP, nI_1, ↓i_inN, i_inN, l_le, l_lt, l_eq, r_le, r_lt, r_eq, sh68_0, sh68_1, sh68_2, sh68_3, sh68_4, ↓w_iload_1, ↓w_is, ↓pm_cl1_1, ↓w_ifne, ↓w_iconst, ↓w_ret, ↓w_aload_0, ↓w_gf3, ↓w_iaload, ↓w_ifge, ↓w_iv, ↓pm_cl2_2, ↓w_goto, pm_up_o, s3])
          | (with_reducible refine m_isText (by omega) ?_ ; simp (disch := first | omega | decide) only [w_nl0, w_nli, w_nlr, ↓w_ts1, ↓w_ts0, w_rcv, w_rfv, w_cs, true_and, and_true, List.length_nil, List.length_cons, Nat.reduceAdd, Nat.reduceLeDiff, Nat.zero_le, Nat.reduceLT, ↓w_nil, ix_nI, nI_leP, nI_ltP, nI_eqP, nI_1, ↓i_inN, i_inN, l_le, l_lt, l_eq, r_le, r_lt, r_eq, sh68_0, sh68_1, sh68_2, sh68_3, sh68_4, ↓w_iload_1, ↓w_is, ↓pm_cl1_1, ↓w_ifne, ↓w_iconst, ↓w_ret, ↓w_aload_0, ↓w_gf3, ↓w_iaload, ↓w_ifge, ↓w_iv, ↓pm_cl2_2, ↓w_goto, pm_up_o, s3])
          | (with_reducible refine m_meets (by omega) (by decide) (by decide) ?_ ; simp (disch := first | omega | decide) only [w_nl0, w_nli, w_nlr, ↓w_ts1, ↓w_ts0, w_rcv, w_rfv, w_cs, true_and, and_true, List.length_nil, List.length_cons, Nat.reduceAdd, Nat.reduceLeDiff, Nat.zero_le, Nat.reduceLT, ↓w_nil, ix_nI, nI_leP, nI_ltP, nI_eqP, nI_1, ↓i_inN, i_inN, l_le, l_lt, l_eq, r_le, r_lt, r_eq, sh68_0, sh68_1, sh68_2, sh68_3, sh68_4, ↓w_iload_1, ↓w_is, ↓pm_cl1_1, ↓w_ifne, ↓w_iconst, ↓w_ret, ↓w_aload_0, ↓w_gf3, ↓w_iaload, ↓w_ifge, ↓w_iv, ↓pm_cl2_2, ↓w_goto, pm_up_o, s3])
          | (simp only [w_in])
          | (intro _))
      all_goals first | rfl | exact hw | exact relw_found hw | exact relw_asks hw | grind
    · clear s4
      have hv : ¬ nI s < (0 : Int32) := Int32.not_lt.2 (nI_pos' (by omega))
      have v4 : (0 : Int32) ≤ nI t ∧ nI t ≤ 3 := nI_rng (N := 3) (by omega) (by decide)
      generalize hE : psc (fun k => I 8 (48 * t + k)) s 48 0 (fun k => if k < 33 then -1 else I 35 k) = E
      have hMC : ∀ I2 p v, RS I I2 s (fun k => I 8 (48 * t + k)) p v E.2.2 → MC g d 212 [.ref 68, .int (nI t)] (some (.int (if E.1 then -9 else nI E.2.1))) I2 J := by
        intro I2 p v hR
        have hrel := rel_rs hR h
        have e73 : I2 73 t = nI s := by rw [hR.1 73 (by decide) (by decide) (by decide), s3, h1]
        have e74 : ∀ i, i < s → I2 74 (48 * t + i) = (fun k => I 8 (48 * t + k)) i := by
          intro i hi
          rw [hR.1 74 (by decide) (by decide) (by decide)]
          exact h2 i hi
        have hn : ∀ I3, MS I2 I3 → RelW I3 J := fun I3 h3 => ⟨trivial, rel_ms h3 hrel⟩
        clear hR hrel
        refine MC.of ?_
        refine eX12_fault (by omega) ?_
        repeat' (first
          | (apply And.intro)
          | (with_reducible refine bX12_fault_0 ?_; simp (disch := first | omega | decide) only [w_nl0, w_nli, w_nlr, ↓w_ts1, ↓w_ts0, w_rcv, w_rfv, w_cs, true_and, and_true, List.length_nil, List.length_cons, Nat.reduceAdd, Nat.reduceLeDiff, Nat.zero_le, Nat.reduceLT, ↓w_nil, ix_nI, nI_leP, nI_ltP, nI_eqP, nI_1, ↓i_inN, i_inN, l_le, l_lt, l_eq, r_le, r_lt, r_eq, sh68_0, sh68_1, sh68_2, sh68_3, sh68_4, ↓w_iload_1, ↓w_is, ↓pm_cl1_1, ↓w_ifne, ↓w_iconst, ↓w_ret, ↓w_aload_0, ↓w_gf3, ↓w_iaload, ↓w_ifge, ↓w_iv, ↓pm_cl2_2, ↓w_goto, e73])
          | (with_reducible refine bX12_fault_1 ?_; simp (disch := first | omega | decide) only [w_nl0, w_nli, w_nlr, ↓w_ts1, ↓w_ts0, w_rcv, w_rfv, w_cs, true_and, and_true, List.length_nil, List.length_cons, Nat.reduceAdd, Nat.reduceLeDiff, Nat.zero_le, Nat.reduceLT, ↓w_nil, ix_nI, nI_leP, nI_ltP, nI_eqP, nI_1, ↓i_inN, i_inN, l_le, l_lt, l_eq, r_le, r_lt, r_eq, sh68_0, sh68_1, sh68_2, sh68_3, sh68_4, ↓w_iload_1, ↓w_is, ↓pm_cl1_1, ↓w_ifne, ↓w_iconst, ↓w_ret, ↓w_aload_0, ↓w_gf3, ↓w_iaload, ↓w_ifge, ↓w_iv, ↓pm_cl2_2, ↓w_goto, e73])
          | (with_reducible refine bX12_fault_2 ?_; simp (disch := first | omega | decide) only [w_nl0, w_nli, w_nlr, ↓w_ts1, ↓w_ts0, w_rcv, w_rfv, w_cs, true_and, and_true, List.length_nil, List.length_cons, Nat.reduceAdd, Nat.reduceLeDiff, Nat.zero_le, Nat.reduceLT, ↓w_nil, ix_nI, nI_leP, nI_ltP, nI_eqP, nI_1, ↓i_inN, i_inN, l_le, l_lt, l_eq, r_le, r_lt, r_eq, sh68_0, sh68_1, sh68_2, sh68_3, sh68_4, ↓w_iload_1, ↓w_is, ↓pm_cl1_1, ↓w_ifne, ↓w_iconst, ↓w_ret, ↓w_aload_0, ↓w_gf3, ↓w_iaload, ↓w_ifge, ↓w_iv, ↓pm_cl2_2, ↓w_goto, e73])
          | (with_reducible refine bX12_fault_3 ?_; simp (disch := first | omega | decide) only [w_nl0, w_nli, w_nlr, ↓w_ts1, ↓w_ts0, w_rcv, w_rfv, w_cs, true_and, and_true, List.length_nil, List.length_cons, Nat.reduceAdd, Nat.reduceLeDiff, Nat.zero_le, Nat.reduceLT, ↓w_nil, ix_nI, nI_leP, nI_ltP, nI_eqP, nI_1, ↓i_inN, i_inN, l_le, l_lt, l_eq, r_le, r_lt, r_eq, sh68_0, sh68_1, sh68_2, sh68_3, sh68_4, ↓w_iload_1, ↓w_is, ↓pm_cl1_1, ↓w_ifne, ↓w_iconst, ↓w_ret, ↓w_aload_0, ↓w_gf3, ↓w_iaload, ↓w_ifge, ↓w_iv, ↓pm_cl2_2, ↓w_goto, e73])
          | (with_reducible refine m_isText (by omega) ?_ ; simp (disch := first | omega | decide) only [w_nl0, w_nli, w_nlr, ↓w_ts1, ↓w_ts0, w_rcv, w_rfv, w_cs, true_and, and_true, List.length_nil, List.length_cons, Nat.reduceAdd, Nat.reduceLeDiff, Nat.zero_le, Nat.reduceLT, ↓w_nil, ix_nI, nI_leP, nI_ltP, nI_eqP, nI_1, ↓i_inN, i_inN, l_le, l_lt, l_eq, r_le, r_lt, r_eq, sh68_0, sh68_1, sh68_2, sh68_3, sh68_4, ↓w_iload_1, ↓w_is, ↓pm_cl1_1, ↓w_ifne, ↓w_iconst, ↓w_ret, ↓w_aload_0, ↓w_gf3, ↓w_iaload, ↓w_ifge, ↓w_iv, ↓pm_cl2_2, ↓w_goto, e73])
          | (with_reducible refine m_faultOf (E := E) (F := 48) (by omega) ht e73 hs e74 hs hE (fun I3 h3 => ?_) <;> simp (disch := first | omega | decide) only [w_nl0, w_nli, w_nlr, ↓w_ts1, ↓w_ts0, w_rcv, w_rfv, w_cs, true_and, and_true, List.length_nil, List.length_cons, Nat.reduceAdd, Nat.reduceLeDiff, Nat.zero_le, Nat.reduceLT, ↓w_nil, ix_nI, nI_leP, nI_ltP, nI_eqP, nI_1, ↓i_inN, i_inN, l_le, l_lt, l_eq, r_le, r_lt, r_eq, sh68_0, sh68_1, sh68_2, sh68_3, sh68_4, ↓w_iload_1, ↓w_is, ↓pm_cl1_1, ↓w_ifne, ↓w_iconst, ↓w_ret, ↓w_aload_0, ↓w_gf3, ↓w_iaload, ↓w_ifge, ↓w_iv, ↓pm_cl2_2, ↓w_goto, e73])
          | (simp only [w_in])
          | (intro _))
        all_goals first | rfl | (exact hn _ (by assumption)) | (clear e74 hn h2 hE; grind)
      refine eX11_fault (by omega) ?_
      repeat' (first
        | (apply And.intro)
        | (with_reducible refine bX11_fault_0 ?_; simp (disch := first | omega | decide) only [w_nl0, w_nli, w_nlr, ↓w_ts1, ↓w_ts0, w_rcv, w_rfv, w_cs, true_and, and_true, List.length_nil, List.length_cons, Nat.reduceAdd, Nat.reduceLeDiff, Nat.zero_le, Nat.reduceLT, ↓w_nil, ix_nI, nI_leP, nI_ltP, nI_eqP, nI_1, ↓i_inN, i_inN, l_le, l_lt, l_eq, r_le, r_lt, r_eq, sh0, sh1, sh55, sh60, sh9, sh31, sh23, sh37, sh42, sh43, sh19, sh3, sh6, ↓w_aload_0, ↓w_gf3, ↓w_iload_1, ↓w_iv, ↓pm_cl2_2, ↓w_ifne, ↓w_iconst, ↓w_ret, ↓w_ifeq, ↓pm_cl2_3])
        | (with_reducible refine bX11_fault_1 ?_; simp (disch := first | omega | decide) only [w_nl0, w_nli, w_nlr, ↓w_ts1, ↓w_ts0, w_rcv, w_rfv, w_cs, true_and, and_true, List.length_nil, List.length_cons, Nat.reduceAdd, Nat.reduceLeDiff, Nat.zero_le, Nat.reduceLT, ↓w_nil, ix_nI, nI_leP, nI_ltP, nI_eqP, nI_1, ↓i_inN, i_inN, l_le, l_lt, l_eq, r_le, r_lt, r_eq, sh0, sh1, sh55, sh60, sh9, sh31, sh23, sh37, sh42, sh43, sh19, sh3, sh6, ↓w_aload_0, ↓w_gf3, ↓w_iload_1, ↓w_iv, ↓pm_cl2_2, ↓w_ifne, ↓w_iconst, ↓w_ret, ↓w_ifeq, ↓pm_cl2_3])
        | (with_reducible refine bX11_fault_2 ?_; simp (disch := first | omega | decide) only [w_nl0, w_nli, w_nlr, ↓w_ts1, ↓w_ts0, w_rcv, w_rfv, w_cs, true_and, and_true, List.length_nil, List.length_cons, Nat.reduceAdd, Nat.reduceLeDiff, Nat.zero_le, Nat.reduceLT, ↓w_nil, ix_nI, nI_leP, nI_ltP, nI_eqP, nI_1, ↓i_inN, i_inN, l_le, l_lt, l_eq, r_le, r_lt, r_eq, sh0, sh1, sh55, sh60, sh9, sh31, sh23, sh37, sh42, sh43, sh19, sh3, sh6, ↓w_aload_0, ↓w_gf3, ↓w_iload_1, ↓w_iv, ↓pm_cl2_2, ↓w_ifne, ↓w_iconst, ↓w_ret, ↓w_ifeq, ↓pm_cl2_3])
        | (with_reducible refine c_hasT (by omega) ?_ ; simp (disch := first | omega | decide) only [w_nl0, w_nli, w_nlr, ↓w_ts1, ↓w_ts0, w_rcv, w_rfv, w_cs, true_and, and_true, List.length_nil, List.length_cons, Nat.reduceAdd, Nat.reduceLeDiff, Nat.zero_le, Nat.reduceLT, ↓w_nil, ix_nI, nI_leP, nI_ltP, nI_eqP, nI_1, ↓i_inN, i_inN, l_le, l_lt, l_eq, r_le, r_lt, r_eq, sh0, sh1, sh55, sh60, sh9, sh31, sh23, sh37, sh42, sh43, sh19, sh3, sh6, ↓w_aload_0, ↓w_gf3, ↓w_iload_1, ↓w_iv, ↓pm_cl2_2, ↓w_ifne, ↓w_iconst, ↓w_ret, ↓w_ifeq, ↓pm_cl2_3])
        | (with_reducible refine c_missingT (by omega) ?_ ; simp (disch := first | omega | decide) only [w_nl0, w_nli, w_nlr, ↓w_ts1, ↓w_ts0, w_rcv, w_rfv, w_cs, true_and, and_true, List.length_nil, List.length_cons, Nat.reduceAdd, Nat.reduceLeDiff, Nat.zero_le, Nat.reduceLT, ↓w_nil, ix_nI, nI_leP, nI_ltP, nI_eqP, nI_1, ↓i_inN, i_inN, l_le, l_lt, l_eq, r_le, r_lt, r_eq, sh0, sh1, sh55, sh60, sh9, sh31, sh23, sh37, sh42, sh43, sh19, sh3, sh6, ↓w_aload_0, ↓w_gf3, ↓w_iload_1, ↓w_iv, ↓pm_cl2_2, ↓w_ifne, ↓w_iconst, ↓w_ret, ↓w_ifeq, ↓pm_cl2_3])
        | (with_reducible refine c_read (E := E) (F := 48) (by omega) rfl s1 ht h1 hs hE (fun I3 p v h3 => ?_) <;> simp (disch := first | omega | decide) only [w_nl0, w_nli, w_nlr, ↓w_ts1, ↓w_ts0, w_rcv, w_rfv, w_cs, true_and, and_true, List.length_nil, List.length_cons, Nat.reduceAdd, Nat.reduceLeDiff, Nat.zero_le, Nat.reduceLT, ↓w_nil, ix_nI, nI_leP, nI_ltP, nI_eqP, nI_1, ↓i_inN, i_inN, l_le, l_lt, l_eq, r_le, r_lt, r_eq, sh0, sh1, sh55, sh60, sh9, sh31, sh23, sh37, sh42, sh43, sh19, sh3, sh6, ↓w_aload_0, ↓w_gf3, ↓w_iload_1, ↓w_iv, ↓pm_cl2_2, ↓w_ifne, ↓w_iconst, ↓w_ret, ↓w_ifeq, ↓pm_cl2_3])
        | (simp only [w_in])
        | (intro _))
      all_goals first | (exact hMC _ _ _ (by assumption)) | (clear h2 hE hMC; grind)
  · clear s4
    refine eX11_fault (by omega) ?_
    repeat' (first
      | (apply And.intro)
      | (with_reducible refine bX11_fault_0 ?_; simp (disch := first | omega | decide) only [w_nl0, w_nli, w_nlr, ↓w_ts1, ↓w_ts0, w_rcv, w_rfv, w_cs, true_and, and_true, List.length_nil, List.length_cons, Nat.reduceAdd, Nat.reduceLeDiff, Nat.zero_le, Nat.reduceLT, ↓w_nil, ix_nI, nI_leP, nI_ltP, nI_eqP, nI_1, ↓i_inN, i_inN, l_le, l_lt, l_eq, r_le, r_lt, r_eq, sh0, sh1, sh55, sh60, sh9, sh31, sh23, sh37, sh42, sh43, sh19, sh3, sh6, ↓w_aload_0, ↓w_gf3, ↓w_iload_1, ↓w_iv, ↓pm_cl2_2, ↓w_ifne, ↓w_iconst, ↓w_ret, ↓w_ifeq, ↓pm_cl2_3])
      | (with_reducible refine c_hasT (by omega) ?_ ; simp (disch := first | omega | decide) only [w_nl0, w_nli, w_nlr, ↓w_ts1, ↓w_ts0, w_rcv, w_rfv, w_cs, true_and, and_true, List.length_nil, List.length_cons, Nat.reduceAdd, Nat.reduceLeDiff, Nat.zero_le, Nat.reduceLT, ↓w_nil, ix_nI, nI_leP, nI_ltP, nI_eqP, nI_1, ↓i_inN, i_inN, l_le, l_lt, l_eq, r_le, r_lt, r_eq, sh0, sh1, sh55, sh60, sh9, sh31, sh23, sh37, sh42, sh43, sh19, sh3, sh6, ↓w_aload_0, ↓w_gf3, ↓w_iload_1, ↓w_iv, ↓pm_cl2_2, ↓w_ifne, ↓w_iconst, ↓w_ret, ↓w_ifeq, ↓pm_cl2_3])
      | (simp only [w_in])
      | (intro _))
    all_goals try rfl
    all_goals try grind
    all_goals try refine MC.of (eX12_fault (by omega) ?_)
    all_goals
      repeat' (first
        | (apply And.intro)
        | (with_reducible refine bX12_fault_0 ?_; simp (disch := first | omega | decide) only [w_nl0, w_nli, w_nlr, ↓w_ts1, ↓w_ts0, w_rcv, w_rfv, w_cs, true_and, and_true, List.length_nil, List.length_cons, Nat.reduceAdd, Nat.reduceLeDiff, Nat.zero_le, Nat.reduceLT, ↓w_nil, ix_nI, nI_leP, nI_ltP, nI_eqP, nI_1, ↓i_inN, i_inN, l_le, l_lt, l_eq, r_le, r_lt, r_eq, sh68_0, sh68_1, sh68_2, sh68_3, sh68_4, ↓w_iload_1, ↓w_is, ↓pm_cl1_1, ↓w_ifne, ↓w_iconst, ↓w_ret, ↓w_aload_0, ↓w_gf3, ↓w_iaload, ↓w_ifge, ↓w_iv, ↓pm_cl2_2, ↓w_goto])
        | (with_reducible refine m_isText (by omega) ?_ ; simp (disch := first | omega | decide) only [w_nl0, w_nli, w_nlr, ↓w_ts1, ↓w_ts0, w_rcv, w_rfv, w_cs, true_and, and_true, List.length_nil, List.length_cons, Nat.reduceAdd, Nat.reduceLeDiff, Nat.zero_le, Nat.reduceLT, ↓w_nil, ix_nI, nI_leP, nI_ltP, nI_eqP, nI_1, ↓i_inN, i_inN, l_le, l_lt, l_eq, r_le, r_lt, r_eq, sh68_0, sh68_1, sh68_2, sh68_3, sh68_4, ↓w_iload_1, ↓w_is, ↓pm_cl1_1, ↓w_ifne, ↓w_iconst, ↓w_ret, ↓w_aload_0, ↓w_gf3, ↓w_iaload, ↓w_ifge, ↓w_iv, ↓pm_cl2_2, ↓w_goto])
        | (simp only [w_in])
        | (intro _))
    all_goals first | rfl | exact hw | exact relw_found hw | exact relw_asks hw | grind
end C76
