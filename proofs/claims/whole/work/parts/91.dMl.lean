section C91d
variable {g : pm_G} {d : Nat} {Q : pm_Po} {S : pm_SS} {I : pm_MI} {J : pm_ML}
theorem l_or0 {x : Int64} : x ||| 0 = x := tb_ext (fun e _ => by rw [tb_or, tb_0, Bool.or_false])
theorem m_onOf {n N m y Ty : Nat} (hd : 2 ≤ d) (w : wld I n N Ty) (hm : m < n) (hy : y ≤ 999) (hQ : Q (some (.long (cvI I N (nI m) (nI y)))) SH I J) : pm_C g d 252 [.ref 68, .int (nI m), .int (nI y)] Q SH I J := by
  obtain ⟨⟨a1, a2, a3⟩, ⟨b1, b2⟩, ⟨c1, c2, c3, c4⟩, ⟨d1, d2, d3⟩, e1, f1, g1⟩ := w
  clear f1 g1
  have hy0 : (0 : Int32) ≤ nI y := nI_pos' (by omega)
  unfold cvI at hQ
  rw [itr_two] at hQ
  refine eX12_onOf (by omega) ?_
  refine bX12_onOf_0 ?_
  simp (disch := first | omega | decide) only [w_nl0, w_nli, w_nlr, ↓w_ts1, ↓w_ts0, w_rcv, w_rfv, w_cs, true_and, and_true, List.length_nil, List.length_cons, Nat.reduceAdd, Nat.reduceLeDiff, Nat.zero_le, Nat.reduceLT, ↓w_nil, ix_nI, nI_leP, nI_ltP, nI_eqP, nI_1, ↓i_inN, i_inN, l_le, l_lt, l_eq, r_le, r_lt, r_eq, sh68_0, sh68_1, sh68_2, sh68_3, sh68_4, ↓w_lconst0, ↓w_lstore_3, ↓w_iconst, ↓w_istore_5]
  refine pm_for (f := fun r a => (a ||| (if nI y ≤ mfr I (nI m) 40 (I 25 (2 * r / 2)) (I 28 (2 * r)) then bitL (2 * r) else 0)) ||| (if nI y ≤ mfr I (nI m) 40 (I 25 ((2 * r + 1) / 2)) (I 28 (2 * r + 1)) then bitL (2 * r + 1) else 0)) (U := fun k a => ∀ z, UU g (d - 1) 252 kX12_onOf (pm_rm d 252) Q 1 [some (.ref 68), some (.int (nI m)), some (.int (nI y)), some (.long a), none, some (.int (nI k)), z] [] SH I J (0, 0)) N (fun k b hk hb w => ?_) ?_ none
  · intro z
    obtain ⟨⟨w1, w2⟩, w3, w4, _⟩ := e1 k hk
    rw [show 2 * k / 2 = k by omega, show (2 * k + 1) / 2 = k by omega] at w
    clear hQ hb e1
    have s2 : UU g (d - 1) 252 kX12_onOf (pm_rm d 252) Q 2 [some (.ref 68), some (.int (nI m)), some (.int (nI y)), some (.long (b ||| (if nI y ≤ mfr I (nI m) 40 (I 25 k) (I 28 (2 * k)) then bitL (2 * k) else 0) ||| (if nI y ≤ mfr I (nI m) 40 (I 25 k) (I 28 (2 * k + 1)) then bitL (2 * k + 1) else 0))), none, some (.int (nI k)), some (.int 2)] [] SH I J (0, 0) := by
      replace w := w (some (.int 2))
      generalize b ||| (if nI y ≤ mfr I (nI m) 40 (I 25 k) (I 28 (2 * k)) then bitL (2 * k) else 0) ||| (if nI y ≤ mfr I (nI m) 40 (I 25 k) (I 28 (2 * k + 1)) then bitL (2 * k + 1) else 0) = A2 at w ⊢
      refine bX12_onOf_2 ?_
      simp (disch := first | omega | decide) only [w_nl0, w_nli, w_nlr, ↓w_ts1, ↓w_ts0, w_rcv, w_rfv, w_cs, true_and, and_true, List.length_nil, List.length_cons, Nat.reduceAdd, Nat.reduceLeDiff, Nat.zero_le, Nat.reduceLT, ↓w_nil, ix_nI, nI_leP, nI_ltP, nI_eqP, nI_1, ↓i_inN, i_inN, l_le, l_lt, l_eq, r_le, r_lt, r_eq, sh68_0, sh68_1, sh68_2, sh68_3, sh68_4, ↓w_iload_6, ↓w_iconst, ↓w_icge, ↓w_lload_3, ↓w_aload_0, ↓w_iload_1, ↓w_iload_2, ↓w_iload_5, ↓w_iv, ↓pm_cl2_5, ↓w_ifeq, ↓w_lconst1, ↓w_imul, ↓w_iadd, ↓w_lshl, ↓w_goto]
      repeat' (first
        | (apply And.intro)
        | (with_reducible refine bX12_onOf_5 ?_; simp (disch := first | omega | decide) only [w_nl0, w_nli, w_nlr, ↓w_ts1, ↓w_ts0, w_rcv, w_rfv, w_cs, true_and, and_true, List.length_nil, List.length_cons, Nat.reduceAdd, Nat.reduceLeDiff, Nat.zero_le, Nat.reduceLT, ↓w_nil, ix_nI, nI_leP, nI_ltP, nI_eqP, nI_1, ↓i_inN, i_inN, l_le, l_lt, l_eq, r_le, r_lt, r_eq, sh68_0, sh68_1, sh68_2, sh68_3, sh68_4, ↓w_lconst0, ↓w_lstore_3, ↓w_iconst, ↓w_istore_5, ↓w_iload_5, ↓w_aload_0, ↓w_gf0, ↓w_icge, ↓w_istore_6, ↓w_iload_6, ↓w_lload_3, ↓w_iload_1, ↓w_iload_2, ↓w_iv, ↓pm_cl2_5, ↓w_ifeq, ↓w_lconst1, ↓w_imul, ↓w_iadd, ↓w_lshl, ↓w_goto, ↓w_lor, ↓w_iinc_6, ↓w_iinc_5, ↓w_lret])
        | (simp only [w_in])
        | (intro _))
      all_goals grind
    clear w
    have s1 : UU g (d - 1) 252 kX12_onOf (pm_rm d 252) Q 2 [some (.ref 68), some (.int (nI m)), some (.int (nI y)), some (.long (b ||| (if nI y ≤ mfr I (nI m) 40 (I 25 k) (I 28 (2 * k)) then bitL (2 * k) else 0))), none, some (.int (nI k)), some (.int 1)] [] SH I J (0, 0) := by
      generalize b ||| (if nI y ≤ mfr I (nI m) 40 (I 25 k) (I 28 (2 * k)) then bitL (2 * k) else 0) = A1 at s2 ⊢
      by_cases hc : nI y ≤ mfr I (nI m) 40 (I 25 k) (I 28 (2 * k + 1))
      · rw [if_pos hc] at s2
        refine bX12_onOf_2 ?_
        simp (disch := first | omega | decide) only [w_nl0, w_nli, w_nlr, ↓w_ts1, ↓w_ts0, w_rcv, w_rfv, w_cs, true_and, and_true, List.length_nil, List.length_cons, Nat.reduceAdd, Nat.reduceLeDiff, Nat.zero_le, Nat.reduceLT, ↓w_nil, ix_nI, nI_leP, nI_ltP, nI_eqP, nI_1, ↓i_inN, i_inN, l_le, l_lt, l_eq, r_le, r_lt, r_eq, sh68_0, sh68_1, sh68_2, sh68_3, sh68_4, ↓w_iload_6, ↓w_iconst, ↓w_icge, ↓w_lload_3, ↓w_aload_0, ↓w_iload_1, ↓w_iload_2, ↓w_iload_5, ↓w_iv, ↓pm_cl2_5, ↓w_ifeq, ↓w_lconst1, ↓w_imul, ↓w_iadd, ↓w_lshl, ↓w_goto]
        repeat' (first
          | (apply And.intro)
          | (with_reducible refine bX12_onOf_3 ?_; simp (disch := first | omega | decide) only [w_nl0, w_nli, w_nlr, ↓w_ts1, ↓w_ts0, w_rcv, w_rfv, w_cs, true_and, and_true, List.length_nil, List.length_cons, Nat.reduceAdd, Nat.reduceLeDiff, Nat.zero_le, Nat.reduceLT, ↓w_nil, ix_nI, nI_leP, nI_ltP, nI_eqP, nI_1, ↓i_inN, i_inN, l_le, l_lt, l_eq, r_le, r_lt, r_eq, sh68_0, sh68_1, sh68_2, sh68_3, sh68_4, ↓w_lconst0, ↓w_lstore_3, ↓w_iconst, ↓w_istore_5, ↓w_iload_5, ↓w_aload_0, ↓w_gf0, ↓w_icge, ↓w_istore_6, ↓w_iload_6, ↓w_lload_3, ↓w_iload_1, ↓w_iload_2, ↓w_iv, ↓pm_cl2_5, ↓w_ifeq, ↓w_lconst1, ↓w_imul, ↓w_iadd, ↓w_lshl, ↓w_goto, ↓w_lor, ↓w_iinc_6, ↓w_iinc_5, ↓w_lret, if_pos hc, nI_2m, bitL_f])
          | (with_reducible refine bX12_onOf_4 ?_; simp (disch := first | omega | decide) only [w_nl0, w_nli, w_nlr, ↓w_ts1, ↓w_ts0, w_rcv, w_rfv, w_cs, true_and, and_true, List.length_nil, List.length_cons, Nat.reduceAdd, Nat.reduceLeDiff, Nat.zero_le, Nat.reduceLT, ↓w_nil, ix_nI, nI_leP, nI_ltP, nI_eqP, nI_1, ↓i_inN, i_inN, l_le, l_lt, l_eq, r_le, r_lt, r_eq, sh68_0, sh68_1, sh68_2, sh68_3, sh68_4, ↓w_lconst0, ↓w_lstore_3, ↓w_iconst, ↓w_istore_5, ↓w_iload_5, ↓w_aload_0, ↓w_gf0, ↓w_icge, ↓w_istore_6, ↓w_iload_6, ↓w_lload_3, ↓w_iload_1, ↓w_iload_2, ↓w_iv, ↓pm_cl2_5, ↓w_ifeq, ↓w_lconst1, ↓w_imul, ↓w_iadd, ↓w_lshl, ↓w_goto, ↓w_lor, ↓w_iinc_6, ↓w_iinc_5, ↓w_lret, if_pos hc, nI_2m, bitL_f])
          | (with_reducible refine m_isOn (n := n) (st := I 28 (2 * k + 1)) (face := 1) (by omega) a1 a2 hm (by omega) a3 d1 d2 d3 hy0 (fun z => absurd z (by decide)) (fun _ => w2) w4 ?_ ; simp (disch := first | omega | decide) only [w_nl0, w_nli, w_nlr, ↓w_ts1, ↓w_ts0, w_rcv, w_rfv, w_cs, true_and, and_true, List.length_nil, List.length_cons, Nat.reduceAdd, Nat.reduceLeDiff, Nat.zero_le, Nat.reduceLT, ↓w_nil, ix_nI, nI_leP, nI_ltP, nI_eqP, nI_1, ↓i_inN, i_inN, l_le, l_lt, l_eq, r_le, r_lt, r_eq, sh68_0, sh68_1, sh68_2, sh68_3, sh68_4, ↓w_lconst0, ↓w_lstore_3, ↓w_iconst, ↓w_istore_5, ↓w_iload_5, ↓w_aload_0, ↓w_gf0, ↓w_icge, ↓w_istore_6, ↓w_iload_6, ↓w_lload_3, ↓w_iload_1, ↓w_iload_2, ↓w_iv, ↓pm_cl2_5, ↓w_ifeq, ↓w_lconst1, ↓w_imul, ↓w_iadd, ↓w_lshl, ↓w_goto, ↓w_lor, ↓w_iinc_6, ↓w_iinc_5, ↓w_lret, if_pos hc, nI_2m, bitL_f])
          | (simp only [w_in])
          | (intro _))
        all_goals grind
      · rw [if_neg hc] at s2
        refine bX12_onOf_2 ?_
        simp (disch := first | omega | decide) only [w_nl0, w_nli, w_nlr, ↓w_ts1, ↓w_ts0, w_rcv, w_rfv, w_cs, true_and, and_true, List.length_nil, List.length_cons, Nat.reduceAdd, Nat.reduceLeDiff, Nat.zero_le, Nat.reduceLT, ↓w_nil, ix_nI, nI_leP, nI_ltP, nI_eqP, nI_1, ↓i_inN, i_inN, l_le, l_lt, l_eq, r_le, r_lt, r_eq, sh68_0, sh68_1, sh68_2, sh68_3, sh68_4, ↓w_iload_6, ↓w_iconst, ↓w_icge, ↓w_lload_3, ↓w_aload_0, ↓w_iload_1, ↓w_iload_2, ↓w_iload_5, ↓w_iv, ↓pm_cl2_5, ↓w_ifeq, ↓w_lconst1, ↓w_imul, ↓w_iadd, ↓w_lshl, ↓w_goto]
        repeat' (first
          | (apply And.intro)
          | (with_reducible refine bX12_onOf_3 ?_; simp (disch := first | omega | decide) only [w_nl0, w_nli, w_nlr, ↓w_ts1, ↓w_ts0, w_rcv, w_rfv, w_cs, true_and, and_true, List.length_nil, List.length_cons, Nat.reduceAdd, Nat.reduceLeDiff, Nat.zero_le, Nat.reduceLT, ↓w_nil, ix_nI, nI_leP, nI_ltP, nI_eqP, nI_1, ↓i_inN, i_inN, l_le, l_lt, l_eq, r_le, r_lt, r_eq, sh68_0, sh68_1, sh68_2, sh68_3, sh68_4, ↓w_lconst0, ↓w_lstore_3, ↓w_iconst, ↓w_istore_5, ↓w_iload_5, ↓w_aload_0, ↓w_gf0, ↓w_icge, ↓w_istore_6, ↓w_iload_6, ↓w_lload_3, ↓w_iload_1, ↓w_iload_2, ↓w_iv, ↓pm_cl2_5, ↓w_ifeq, ↓w_lconst1, ↓w_imul, ↓w_iadd, ↓w_lshl, ↓w_goto, ↓w_lor, ↓w_iinc_6, ↓w_iinc_5, ↓w_lret, if_neg hc, nI_2m, bitL_f])
          | (with_reducible refine bX12_onOf_4 ?_; simp (disch := first | omega | decide) only [w_nl0, w_nli, w_nlr, ↓w_ts1, ↓w_ts0, w_rcv, w_rfv, w_cs, true_and, and_true, List.length_nil, List.length_cons, Nat.reduceAdd, Nat.reduceLeDiff, Nat.zero_le, Nat.reduceLT, ↓w_nil, ix_nI, nI_leP, nI_ltP, nI_eqP, nI_1, ↓i_inN, i_inN, l_le, l_lt, l_eq, r_le, r_lt, r_eq, sh68_0, sh68_1, sh68_2, sh68_3, sh68_4, ↓w_lconst0, ↓w_lstore_3, ↓w_iconst, ↓w_istore_5, ↓w_iload_5, ↓w_aload_0, ↓w_gf0, ↓w_icge, ↓w_istore_6, ↓w_iload_6, ↓w_lload_3, ↓w_iload_1, ↓w_iload_2, ↓w_iv, ↓pm_cl2_5, ↓w_ifeq, ↓w_lconst1, ↓w_imul, ↓w_iadd, ↓w_lshl, ↓w_goto, ↓w_lor, ↓w_iinc_6, ↓w_iinc_5, ↓w_lret, if_neg hc, nI_2m, bitL_f])
          | (with_reducible refine m_isOn (n := n) (st := I 28 (2 * k + 1)) (face := 1) (by omega) a1 a2 hm (by omega) a3 d1 d2 d3 hy0 (fun z => absurd z (by decide)) (fun _ => w2) w4 ?_ ; simp (disch := first | omega | decide) only [w_nl0, w_nli, w_nlr, ↓w_ts1, ↓w_ts0, w_rcv, w_rfv, w_cs, true_and, and_true, List.length_nil, List.length_cons, Nat.reduceAdd, Nat.reduceLeDiff, Nat.zero_le, Nat.reduceLT, ↓w_nil, ix_nI, nI_leP, nI_ltP, nI_eqP, nI_1, ↓i_inN, i_inN, l_le, l_lt, l_eq, r_le, r_lt, r_eq, sh68_0, sh68_1, sh68_2, sh68_3, sh68_4, ↓w_lconst0, ↓w_lstore_3, ↓w_iconst, ↓w_istore_5, ↓w_iload_5, ↓w_aload_0, ↓w_gf0, ↓w_icge, ↓w_istore_6, ↓w_iload_6, ↓w_lload_3, ↓w_iload_1, ↓w_iload_2, ↓w_iv, ↓pm_cl2_5, ↓w_ifeq, ↓w_lconst1, ↓w_imul, ↓w_iadd, ↓w_lshl, ↓w_goto, ↓w_lor, ↓w_iinc_6, ↓w_iinc_5, ↓w_lret, if_neg hc, nI_2m, bitL_f])
          | (simp only [w_in])
          | (intro _))
        all_goals grind
    clear s2
    have s0 : UU g (d - 1) 252 kX12_onOf (pm_rm d 252) Q 2 [some (.ref 68), some (.int (nI m)), some (.int (nI y)), some (.long (b)), none, some (.int (nI k)), some (.int 0)] [] SH I J (0, 0) := by
      by_cases hc : nI y ≤ mfr I (nI m) 40 (I 25 k) (I 28 (2 * k))
      · rw [if_pos hc] at s1
        refine bX12_onOf_2 ?_
        simp (disch := first | omega | decide) only [w_nl0, w_nli, w_nlr, ↓w_ts1, ↓w_ts0, w_rcv, w_rfv, w_cs, true_and, and_true, List.length_nil, List.length_cons, Nat.reduceAdd, Nat.reduceLeDiff, Nat.zero_le, Nat.reduceLT, ↓w_nil, ix_nI, nI_leP, nI_ltP, nI_eqP, nI_1, ↓i_inN, i_inN, l_le, l_lt, l_eq, r_le, r_lt, r_eq, sh68_0, sh68_1, sh68_2, sh68_3, sh68_4, ↓w_iload_6, ↓w_iconst, ↓w_icge, ↓w_lload_3, ↓w_aload_0, ↓w_iload_1, ↓w_iload_2, ↓w_iload_5, ↓w_iv, ↓pm_cl2_5, ↓w_ifeq, ↓w_lconst1, ↓w_imul, ↓w_iadd, ↓w_lshl, ↓w_goto]
        repeat' (first
          | (apply And.intro)
          | (with_reducible refine bX12_onOf_3 ?_; simp (disch := first | omega | decide) only [w_nl0, w_nli, w_nlr, ↓w_ts1, ↓w_ts0, w_rcv, w_rfv, w_cs, true_and, and_true, List.length_nil, List.length_cons, Nat.reduceAdd, Nat.reduceLeDiff, Nat.zero_le, Nat.reduceLT, ↓w_nil, ix_nI, nI_leP, nI_ltP, nI_eqP, nI_1, ↓i_inN, i_inN, l_le, l_lt, l_eq, r_le, r_lt, r_eq, sh68_0, sh68_1, sh68_2, sh68_3, sh68_4, ↓w_lconst0, ↓w_lstore_3, ↓w_iconst, ↓w_istore_5, ↓w_iload_5, ↓w_aload_0, ↓w_gf0, ↓w_icge, ↓w_istore_6, ↓w_iload_6, ↓w_lload_3, ↓w_iload_1, ↓w_iload_2, ↓w_iv, ↓pm_cl2_5, ↓w_ifeq, ↓w_lconst1, ↓w_imul, ↓w_iadd, ↓w_lshl, ↓w_goto, ↓w_lor, ↓w_iinc_6, ↓w_iinc_5, ↓w_lret, if_pos hc, nI_2m, Int32.add_zero, bitL_f])
          | (with_reducible refine bX12_onOf_4 ?_; simp (disch := first | omega | decide) only [w_nl0, w_nli, w_nlr, ↓w_ts1, ↓w_ts0, w_rcv, w_rfv, w_cs, true_and, and_true, List.length_nil, List.length_cons, Nat.reduceAdd, Nat.reduceLeDiff, Nat.zero_le, Nat.reduceLT, ↓w_nil, ix_nI, nI_leP, nI_ltP, nI_eqP, nI_1, ↓i_inN, i_inN, l_le, l_lt, l_eq, r_le, r_lt, r_eq, sh68_0, sh68_1, sh68_2, sh68_3, sh68_4, ↓w_lconst0, ↓w_lstore_3, ↓w_iconst, ↓w_istore_5, ↓w_iload_5, ↓w_aload_0, ↓w_gf0, ↓w_icge, ↓w_istore_6, ↓w_iload_6, ↓w_lload_3, ↓w_iload_1, ↓w_iload_2, ↓w_iv, ↓pm_cl2_5, ↓w_ifeq, ↓w_lconst1, ↓w_imul, ↓w_iadd, ↓w_lshl, ↓w_goto, ↓w_lor, ↓w_iinc_6, ↓w_iinc_5, ↓w_lret, if_pos hc, nI_2m, Int32.add_zero, bitL_f])
          | (with_reducible refine m_isOn (n := n) (st := I 28 (2 * k)) (face := 0) (by omega) a1 a2 hm (by omega) a3 d1 d2 d3 hy0 (fun _ => w1) (fun z => absurd rfl z) w3 ?_ ; simp (disch := first | omega | decide) only [w_nl0, w_nli, w_nlr, ↓w_ts1, ↓w_ts0, w_rcv, w_rfv, w_cs, true_and, and_true, List.length_nil, List.length_cons, Nat.reduceAdd, Nat.reduceLeDiff, Nat.zero_le, Nat.reduceLT, ↓w_nil, ix_nI, nI_leP, nI_ltP, nI_eqP, nI_1, ↓i_inN, i_inN, l_le, l_lt, l_eq, r_le, r_lt, r_eq, sh68_0, sh68_1, sh68_2, sh68_3, sh68_4, ↓w_lconst0, ↓w_lstore_3, ↓w_iconst, ↓w_istore_5, ↓w_iload_5, ↓w_aload_0, ↓w_gf0, ↓w_icge, ↓w_istore_6, ↓w_iload_6, ↓w_lload_3, ↓w_iload_1, ↓w_iload_2, ↓w_iv, ↓pm_cl2_5, ↓w_ifeq, ↓w_lconst1, ↓w_imul, ↓w_iadd, ↓w_lshl, ↓w_goto, ↓w_lor, ↓w_iinc_6, ↓w_iinc_5, ↓w_lret, if_pos hc, nI_2m, Int32.add_zero, bitL_f])
          | (simp only [w_in])
          | (intro _))
        all_goals grind
      · rw [if_neg hc] at s1
        refine bX12_onOf_2 ?_
        simp (disch := first | omega | decide) only [w_nl0, w_nli, w_nlr, ↓w_ts1, ↓w_ts0, w_rcv, w_rfv, w_cs, true_and, and_true, List.length_nil, List.length_cons, Nat.reduceAdd, Nat.reduceLeDiff, Nat.zero_le, Nat.reduceLT, ↓w_nil, ix_nI, nI_leP, nI_ltP, nI_eqP, nI_1, ↓i_inN, i_inN, l_le, l_lt, l_eq, r_le, r_lt, r_eq, sh68_0, sh68_1, sh68_2, sh68_3, sh68_4, ↓w_iload_6, ↓w_iconst, ↓w_icge, ↓w_lload_3, ↓w_aload_0, ↓w_iload_1, ↓w_iload_2, ↓w_iload_5, ↓w_iv, ↓pm_cl2_5, ↓w_ifeq, ↓w_lconst1, ↓w_imul, ↓w_iadd, ↓w_lshl, ↓w_goto]
        repeat' (first
          | (apply And.intro)
          | (with_reducible refine bX12_onOf_3 ?_; simp (disch := first | omega | decide) only [w_nl0, w_nli, w_nlr, ↓w_ts1, ↓w_ts0, w_rcv, w_rfv, w_cs, true_and, and_true, List.length_nil, List.length_cons, Nat.reduceAdd, Nat.reduceLeDiff, Nat.zero_le, Nat.reduceLT, ↓w_nil, ix_nI, nI_leP, nI_ltP, nI_eqP, nI_1, ↓i_inN, i_inN, l_le, l_lt, l_eq, r_le, r_lt, r_eq, sh68_0, sh68_1, sh68_2, sh68_3, sh68_4, ↓w_lconst0, ↓w_lstore_3, ↓w_iconst, ↓w_istore_5, ↓w_iload_5, ↓w_aload_0, ↓w_gf0, ↓w_icge, ↓w_istore_6, ↓w_iload_6, ↓w_lload_3, ↓w_iload_1, ↓w_iload_2, ↓w_iv, ↓pm_cl2_5, ↓w_ifeq, ↓w_lconst1, ↓w_imul, ↓w_iadd, ↓w_lshl, ↓w_goto, ↓w_lor, ↓w_iinc_6, ↓w_iinc_5, ↓w_lret, if_neg hc, nI_2m, Int32.add_zero, bitL_f])
          | (with_reducible refine bX12_onOf_4 ?_; simp (disch := first | omega | decide) only [w_nl0, w_nli, w_nlr, ↓w_ts1, ↓w_ts0, w_rcv, w_rfv, w_cs, true_and, and_true, List.length_nil, List.length_cons, Nat.reduceAdd, Nat.reduceLeDiff, Nat.zero_le, Nat.reduceLT, ↓w_nil, ix_nI, nI_leP, nI_ltP, nI_eqP, nI_1, ↓i_inN, i_inN, l_le, l_lt, l_eq, r_le, r_lt, r_eq, sh68_0, sh68_1, sh68_2, sh68_3, sh68_4, ↓w_lconst0, ↓w_lstore_3, ↓w_iconst, ↓w_istore_5, ↓w_iload_5, ↓w_aload_0, ↓w_gf0, ↓w_icge, ↓w_istore_6, ↓w_iload_6, ↓w_lload_3, ↓w_iload_1, ↓w_iload_2, ↓w_iv, ↓pm_cl2_5, ↓w_ifeq, ↓w_lconst1, ↓w_imul, ↓w_iadd, ↓w_lshl, ↓w_goto, ↓w_lor, ↓w_iinc_6, ↓w_iinc_5, ↓w_lret, if_neg hc, nI_2m, Int32.add_zero, bitL_f])
          | (with_reducible refine m_isOn (n := n) (st := I 28 (2 * k)) (face := 0) (by omega) a1 a2 hm (by omega) a3 d1 d2 d3 hy0 (fun _ => w1) (fun z => absurd rfl z) w3 ?_ ; simp (disch := first | omega | decide) only [w_nl0, w_nli, w_nlr, ↓w_ts1, ↓w_ts0, w_rcv, w_rfv, w_cs, true_and, and_true, List.length_nil, List.length_cons, Nat.reduceAdd, Nat.reduceLeDiff, Nat.zero_le, Nat.reduceLT, ↓w_nil, ix_nI, nI_leP, nI_ltP, nI_eqP, nI_1, ↓i_inN, i_inN, l_le, l_lt, l_eq, r_le, r_lt, r_eq, sh68_0, sh68_1, sh68_2, sh68_3, sh68_4, ↓w_lconst0, ↓w_lstore_3, ↓w_iconst, ↓w_istore_5, ↓w_iload_5, ↓w_aload_0, ↓w_gf0, ↓w_icge, ↓w_istore_6, ↓w_iload_6, ↓w_lload_3, ↓w_iload_1, ↓w_iload_2, ↓w_iv, ↓pm_cl2_5, ↓w_ifeq, ↓w_lconst1, ↓w_imul, ↓w_iadd, ↓w_lshl, ↓w_goto, ↓w_lor, ↓w_iinc_6, ↓w_iinc_5, ↓w_lret, if_neg hc, nI_2m, Int32.add_zero, bitL_f])
          | (simp only [w_in])
          | (intro _))
        all_goals grind
    clear s1
    refine bX12_onOf_1 ?_
    simp (disch := first | omega | decide) only [w_nl0, w_nli, w_nlr, ↓w_ts1, ↓w_ts0, w_rcv, w_rfv, w_cs, true_and, and_true, List.length_nil, List.length_cons, Nat.reduceAdd, Nat.reduceLeDiff, Nat.zero_le, Nat.reduceLT, ↓w_nil, ix_nI, nI_leP, nI_ltP, nI_eqP, nI_1, ↓i_inN, i_inN, l_le, l_lt, l_eq, r_le, r_lt, r_eq, sh68_0, sh68_1, sh68_2, sh68_3, sh68_4, ↓w_iload_5, ↓w_aload_0, ↓w_gf0, ↓w_icge, ↓w_iconst, ↓w_istore_6, c2]
    repeat' (first
      | (apply And.intro)
      | (simp only [w_in])
      | (intro _))
    all_goals first | exact s0 | omega | grind
  · intro z
    refine bX12_onOf_1 ?_
    simp (disch := first | omega | decide) only [w_nl0, w_nli, w_nlr, ↓w_ts1, ↓w_ts0, w_rcv, w_rfv, w_cs, true_and, and_true, List.length_nil, List.length_cons, Nat.reduceAdd, Nat.reduceLeDiff, Nat.zero_le, Nat.reduceLT, ↓w_nil, ix_nI, nI_leP, nI_ltP, nI_eqP, nI_1, ↓i_inN, i_inN, l_le, l_lt, l_eq, r_le, r_lt, r_eq, sh68_0, sh68_1, sh68_2, sh68_3, sh68_4, ↓w_iload_5, ↓w_aload_0, ↓w_gf0, ↓w_icge, ↓w_iconst, ↓w_istore_6, c2]
    repeat' (first
      | (apply And.intro)
      | (with_reducible refine bX12_onOf_6 ?_; simp (disch := first | omega | decide) only [w_nl0, w_nli, w_nlr, ↓w_ts1, ↓w_ts0, w_rcv, w_rfv, w_cs, true_and, and_true, List.length_nil, List.length_cons, Nat.reduceAdd, Nat.reduceLeDiff, Nat.zero_le, Nat.reduceLT, ↓w_nil, ix_nI, nI_leP, nI_ltP, nI_eqP, nI_1, ↓i_inN, i_inN, l_le, l_lt, l_eq, r_le, r_lt, r_eq, sh68_0, sh68_1, sh68_2, sh68_3, sh68_4, ↓w_lconst0, ↓w_lstore_3, ↓w_iconst, ↓w_istore_5, ↓w_iload_5, ↓w_aload_0, ↓w_gf0, ↓w_icge, ↓w_istore_6, ↓w_iload_6, ↓w_lload_3, ↓w_iload_1, ↓w_iload_2, ↓w_iv, ↓pm_cl2_5, ↓w_ifeq, ↓w_lconst1, ↓w_imul, ↓w_iadd, ↓w_lshl, ↓w_goto, ↓w_lor, ↓w_iinc_6, ↓w_iinc_5, ↓w_lret])
      | (simp only [w_in])
      | (intro _))
    all_goals first | exact hQ | grind
/-- the model's arrays hold the list -/
def plH (I : pm_MI) (J : pm_ML) (L : List plT) : Prop := I 68 52 = nI L.length ∧ ∀ p x, L[p]? = some x → I 104 p = x.1 ∧ I 105 p = x.2.1 ∧ I 106 p = x.2.2.1 ∧ I 107 p = x.2.2.2.1 ∧ J 108 p = x.2.2.2.2
theorem m_addPlace {L : List plT} {x1 x2 x3 x4 : Int32} {x5 : Int64} (hd : 1 ≤ d) (hA : plH I J L) (hl : L.length < 200) (hQ : ∀ I' J', frM I I' → frMJ J J' → plH I' J' (L ++ [(x1, x2, x3, x4, x5)]) → Q none SH I' J') : pm_C g d 254 [.ref 68, .int x1, .int x2, .int x3, .int x4, .long x5] Q SH I J := by
  obtain ⟨hA1, hA2⟩ := hA
  have q := hQ (pm_up (pm_up (pm_up (pm_up (pm_up I 104 L.length x1) 105 L.length x2) 106 L.length x3) 107 L.length x4) 68 52 (nI (L.length + 1))) (pm_upL J 108 L.length x5) (((((frM.rf.up (by omega)).up (by omega)).up (by omega)).up (by omega)).fl (Or.inl rfl)) frMJ.rf.up (by
    refine ⟨by rw [pm_up_s, List.length_append]; rfl, fun p x hx => ?_⟩
    simp (disch := decide) only [pm_up_o]
    by_cases e : p = L.length
    · subst e
      rw [List.getElem?_append_right (Nat.le_refl _), Nat.sub_self] at hx
      cases hx
      simp only [pm_up_s, pm_upL_s, and_self]
    · have hp : p < L.length := by
        have := (List.getElem?_eq_some_iff.mp hx).1
        rw [List.length_append, List.length_singleton] at this
        omega
      rw [List.getElem?_append_left hp] at hx
      simp only [pm_up_n e, pm_upL_n e]
      exact hA2 p x hx)
  clear hQ hA2
  refine eX12_addPlace (by omega) ?_
  repeat' (first
    | (apply And.intro)
    | (with_reducible refine bX12_addPlace_0 ?_; simp (disch := first | omega | decide) only [w_nl0, w_nli, w_nlr, ↓w_ts1, ↓w_ts0, w_rcv, w_rfv, w_cs, true_and, and_true, List.length_nil, List.length_cons, Nat.reduceAdd, Nat.reduceLeDiff, Nat.zero_le, Nat.reduceLT, ↓w_nil, ix_nI, nI_leP, nI_ltP, nI_eqP, nI_1, ↓i_inN, i_inN, l_le, l_lt, l_eq, r_le, r_lt, r_eq, sh68_0, sh68_1, sh68_2, sh68_3, sh68_4, ↓w_aload_0, ↓w_gf3, ↓w_gf0, ↓w_iload_1, ↓w_iastore, ↓w_iload_2, ↓w_iload_3, ↓w_iload_4, ↓w_lload_5, ↓w_lastore, ↓w_dup_i, ↓w_dup_r, ↓w_iconst, ↓w_iadd, ↓w_pf0, ↓w_vret, hA1, pm_up_o, pm_up_s])
    | (simp only [w_in])
    | (intro _))
  all_goals first | exact q | omega | grind
theorem wld.bo {n N Ty m : Nat} (w : wld I n N Ty) (hm : m < n) : ∃ b, b ≤ Ty ∧ I 14 m = nI b := w.2.2.2.2.2.1 m hm
theorem m_layPlaces {n N Ty : Nat} (hd : 4 ≤ d) (w : wld I n N Ty) (hQ : ∀ I' J', frM I I' → frMJ J J' → plH I' J' (plL I n N) → Q none SH I' J') : pm_C g d 255 [.ref 68] Q SH I J := by
  have a2 : n ≤ 40 := w.1.2.1
  have b2 : N ≤ 30 := w.2.1.2
  have c4 : Ty ≤ 999 := w.2.2.1.2.2.2
  have hlen : ∀ k, k ≤ n → (plA I n N k).length ≤ 100 := fun k hk => by have := plA_len (I := I) (n := n) (N := N) (k := k) (by omega); omega
  refine eX12_layPlaces (by omega) ?_
  refine bX12_layPlaces_0 ?_
  simp (disch := first | omega | decide) only [w_nl0, w_nli, w_nlr, ↓w_ts1, ↓w_ts0, w_rcv, w_rfv, w_cs, true_and, and_true, List.length_nil, List.length_cons, Nat.reduceAdd, Nat.reduceLeDiff, Nat.zero_le, Nat.reduceLT, ↓w_nil, ix_nI, nI_leP, nI_ltP, nI_eqP, nI_1, ↓i_inN, i_inN, l_le, l_lt, l_eq, r_le, r_lt, r_eq, sh68_0, sh68_1, sh68_2, sh68_3, sh68_4, ↓w_aload_0, ↓w_iconst, ↓w_pf0, ↓w_istore_1]
  refine lp (α := pm_MI × pm_ML) (U := fun k a => ∀ z, UU g (d - 1) 255 kX12_layPlaces (pm_rm d 255) Q 1 [some (.ref 68), some (.int (nI k)), z] [] SH a.1 a.2 (0, 0)) (fun k a => frM I a.1 ∧ frMJ J a.2 ∧ plH a.1 a.2 (plA I n N k)) n (fun k a hk hP w2 => ?_) (fun a hP => ?_) (a := (pm_up I 68 52 0, J)) ⟨frM.rf.fl (Or.inl rfl), frMJ.rf, ?_⟩ none
  · intro z
    obtain ⟨I2, J2⟩ := a
    obtain ⟨p1, p2, p3⟩ := hP
    have p1 : frM I I2 := p1
    have p2 : frMJ J J2 := p2
    have p3 : plH I2 J2 _ := p3
    have w1 := w.cg p1
    have c1 := w1.2.2.1.1
    have c2 := w1.2.2.1.2.1
    have c3 := w1.2.2.1.2.2.1
    have d2 := w1.2.2.2.1.2.1
    have f1 := w1.2.2.2.2.2.1
    have g1 := w1.2.2.2.2.2.2
    obtain ⟨b, hb, hb2⟩ := f1 k hk
    have hlk := hlen (k + 1) (by omega)
    rw [plA_s, List.length_append] at hlk
    have inner : ∀ j I3 J3 L, j ≤ Ty + 1 → frM I I3 → frMJ J J3 → plH I3 J3 L → L.length + (dsc (mdB I n N k) j).length ≤ 100 → L ++ (dsc (mdB I n N k) j).map (fun y => (nI k, nI y, -9, -9, cvI I N (nI k) (nI y))) = plA I n N (k + 1) → UU g (d - 1) 255 kX12_layPlaces (pm_rm d 255) Q 2 [some (.ref 68), some (.int (nI k)), some (.int (nI j - 1))] [] SH I3 J3 (0, 0) := by
      intro j
      induction j with
      | zero =>
        intro I3 J3 L hj q1 q2 q3 q4 q5
        have w3 := w.cg q1
        have c1 := w3.2.2.1.1
        have c2 := w3.2.2.1.2.1
        have c3 := w3.2.2.1.2.2.1
        have d2 := w3.2.2.2.1.2.1
        have f1 := w3.2.2.2.2.2.1
        have g1 := w3.2.2.2.2.2.2
        obtain ⟨b, hb, hb2⟩ := f1 k hk
        have q6 := w2 (I3, J3) ⟨q1, q2, by rw [← q5]; simpa [dsc] using q3⟩ (some (.int (nI 0 - 1)))
        have hlt : nI 0 - 1 < nI b := by
          have := nI_pos' (n := b) (by omega)
          rw [nI_0]
          grind
        clear w2 w w1 w3 f1 g1 q3 q5 hlen hQ
        refine bX12_layPlaces_2 ?_
        simp (disch := first | omega | decide) only [w_nl0, w_nli, w_nlr, ↓w_ts1, ↓w_ts0, w_rcv, w_rfv, w_cs, true_and, and_true, List.length_nil, List.length_cons, Nat.reduceAdd, Nat.reduceLeDiff, Nat.zero_le, Nat.reduceLT, ↓w_nil, ix_nI, nI_leP, nI_ltP, nI_eqP, nI_1, ↓i_inN, i_inN, l_le, l_lt, l_eq, r_le, r_lt, r_eq, sh68_0, sh68_1, sh68_2, sh68_3, sh68_4, ↓w_iload_2, ↓w_aload_0, ↓w_gf3, ↓w_iload_1, ↓w_iaload, ↓w_iclt, ↓w_iv, ↓pm_cl2_3, ↓w_ifeq, ↓w_bipush, ↓pm_cl2_6, d2, hb2]
        repeat' (first
          | (apply And.intro)
          | (with_reducible refine bX12_layPlaces_4 ?_; simp (disch := first | omega | decide) only [w_nl0, w_nli, w_nlr, ↓w_ts1, ↓w_ts0, w_rcv, w_rfv, w_cs, true_and, and_true, List.length_nil, List.length_cons, Nat.reduceAdd, Nat.reduceLeDiff, Nat.zero_le, Nat.reduceLT, ↓w_nil, ix_nI, nI_leP, nI_ltP, nI_eqP, nI_1, ↓i_inN, i_inN, l_le, l_lt, l_eq, r_le, r_lt, r_eq, sh68_0, sh68_1, sh68_2, sh68_3, sh68_4, ↓w_aload_0, ↓w_iconst, ↓w_pf0, ↓w_istore_1, ↓w_iload_1, ↓w_gf0, ↓w_icge, ↓w_istore_2, ↓w_iload_2, ↓w_gf3, ↓w_iaload, ↓w_iclt, ↓w_iv, ↓pm_cl2_3, ↓w_ifeq, ↓w_bipush, ↓pm_cl2_6, ↓w_iinc_2, ↓w_goto, ↓w_iinc_1, ↓w_lconst1, ↓w_imul, ↓w_iadd, ↓w_lshl, ↓w_vret])
          | (simp only [w_in])
          | (intro _))
        all_goals first | exact q6 | omega | grind
      | succ j ih =>
        intro I3 J3 L hj q1 q2 q3 q4 q5
        have w3 := w.cg q1
        have c1 := w3.2.2.1.1
        have c2 := w3.2.2.1.2.1
        have c3 := w3.2.2.1.2.2.1
        have d2 := w3.2.2.2.1.2.1
        have f1 := w3.2.2.2.2.2.1
        have g1 := w3.2.2.2.2.2.2
        obtain ⟨b, hb, hb2⟩ := f1 k hk
        rw [nI_pred]
        by_cases hjb : j < b
        · have he : dsc (mdB I n N k) (j + 1) = [] := by
            have e2 : dsc (mdB I n N k) (j + 1) = dsc (mdB I n N k) 0 := dsc_eq (fun x hx => by
              have := g1 k hk x b (by rw [mdB_cg q1.lo]; exact hx) hb2 (by omega)
              rcases Nat.lt_or_ge x 1000 with z | z
              · have := this z; omega
              · omega)
            rw [e2]; rfl
          have q6 := w2 (I3, J3) ⟨q1, q2, by rw [← q5, he]; simpa using q3⟩ (some (.int (nI j)))
          have hlt : nI j < nI b := nI_lt hjb (by omega)
          clear w2 w w1 w3 f1 g1 q3 q5 hlen hQ ih
          refine bX12_layPlaces_2 ?_
          simp (disch := first | omega | decide) only [w_nl0, w_nli, w_nlr, ↓w_ts1, ↓w_ts0, w_rcv, w_rfv, w_cs, true_and, and_true, List.length_nil, List.length_cons, Nat.reduceAdd, Nat.reduceLeDiff, Nat.zero_le, Nat.reduceLT, ↓w_nil, ix_nI, nI_leP, nI_ltP, nI_eqP, nI_1, ↓i_inN, i_inN, l_le, l_lt, l_eq, r_le, r_lt, r_eq, sh68_0, sh68_1, sh68_2, sh68_3, sh68_4, ↓w_iload_2, ↓w_aload_0, ↓w_gf3, ↓w_iload_1, ↓w_iaload, ↓w_iclt, ↓w_iv, ↓pm_cl2_3, ↓w_ifeq, ↓w_bipush, ↓pm_cl2_6, d2, hb2]
          repeat' (first
            | (apply And.intro)
            | (with_reducible refine bX12_layPlaces_4 ?_; simp (disch := first | omega | decide) only [w_nl0, w_nli, w_nlr, ↓w_ts1, ↓w_ts0, w_rcv, w_rfv, w_cs, true_and, and_true, List.length_nil, List.length_cons, Nat.reduceAdd, Nat.reduceLeDiff, Nat.zero_le, Nat.reduceLT, ↓w_nil, ix_nI, nI_leP, nI_ltP, nI_eqP, nI_1, ↓i_inN, i_inN, l_le, l_lt, l_eq, r_le, r_lt, r_eq, sh68_0, sh68_1, sh68_2, sh68_3, sh68_4, ↓w_aload_0, ↓w_iconst, ↓w_pf0, ↓w_istore_1, ↓w_iload_1, ↓w_gf0, ↓w_icge, ↓w_istore_2, ↓w_iload_2, ↓w_gf3, ↓w_iaload, ↓w_iclt, ↓w_iv, ↓pm_cl2_3, ↓w_ifeq, ↓w_bipush, ↓pm_cl2_6, ↓w_iinc_2, ↓w_goto, ↓w_iinc_1, ↓w_lconst1, ↓w_imul, ↓w_iadd, ↓w_lshl, ↓w_vret])
            | (simp only [w_in])
            | (intro _))
          all_goals first | exact q6 | omega | grind
        · have hge : ¬ nI j < nI b := nI_nlt (by omega) (by omega)
          cases hmd : mdB I n N k j with
          | false =>
            rw [dsc, if_neg (by rw [hmd]; decide)] at q4 q5
            have q6 := ih I3 J3 L (by omega) q1 q2 q3 q4 q5
            have hmd3 : mdB I3 n N k j = false := by rw [mdB_cg q1.lo]; exact hmd
            have q7 : UU g (d - 1) 255 kX12_layPlaces (pm_rm d 255) Q 3 [some (.ref 68), some (.int (nI k)), some (.int (nI j))] [] SH I3 J3 (0, 0) := by
              rw [Int32.sub_eq_add_neg] at q6
              clear w2 w w1 w3 f1 g1 q3 q5 hlen hQ ih
              refine bX12_layPlaces_3 ?_
              simp (disch := first | omega | decide) only [w_nl0, w_nli, w_nlr, ↓w_ts1, ↓w_ts0, w_rcv, w_rfv, w_cs, true_and, and_true, List.length_nil, List.length_cons, Nat.reduceAdd, Nat.reduceLeDiff, Nat.zero_le, Nat.reduceLT, ↓w_nil, ix_nI, nI_leP, nI_ltP, nI_eqP, nI_1, ↓i_inN, i_inN, l_le, l_lt, l_eq, r_le, r_lt, r_eq, sh68_0, sh68_1, sh68_2, sh68_3, sh68_4, ↓w_iinc_2, ↓w_goto]
              repeat' (first
                | (apply And.intro)
                | (simp only [w_in])
                | (intro _))
              all_goals first | exact q6 | omega | grind
            clear w2 w1 f1 g1 q3 q5 hlen hQ ih q6
            refine bX12_layPlaces_2 ?_
            simp (disch := first | omega | decide) only [w_nl0, w_nli, w_nlr, ↓w_ts1, ↓w_ts0, w_rcv, w_rfv, w_cs, true_and, and_true, List.length_nil, List.length_cons, Nat.reduceAdd, Nat.reduceLeDiff, Nat.zero_le, Nat.reduceLT, ↓w_nil, ix_nI, nI_leP, nI_ltP, nI_eqP, nI_1, ↓i_inN, i_inN, l_le, l_lt, l_eq, r_le, r_lt, r_eq, sh68_0, sh68_1, sh68_2, sh68_3, sh68_4, ↓w_iload_2, ↓w_aload_0, ↓w_gf3, ↓w_iload_1, ↓w_iaload, ↓w_iclt, ↓w_iv, ↓pm_cl2_3, ↓w_ifeq, ↓w_bipush, ↓pm_cl2_6, d2, hb2]
            repeat' (first
              | (apply And.intro)
              | (with_reducible refine m_madeOn (n := n) (N := N) (Ty := Ty) (by omega) w3 (fun zz => absurd (hmd3.symm.trans zz) (by decide)) (fun _ => ?_) <;> simp (disch := first | omega | decide) only [w_nl0, w_nli, w_nlr, ↓w_ts1, ↓w_ts0, w_rcv, w_rfv, w_cs, true_and, and_true, List.length_nil, List.length_cons, Nat.reduceAdd, Nat.reduceLeDiff, Nat.zero_le, Nat.reduceLT, ↓w_nil, ix_nI, nI_leP, nI_ltP, nI_eqP, nI_1, ↓i_inN, i_inN, l_le, l_lt, l_eq, r_le, r_lt, r_eq, sh68_0, sh68_1, sh68_2, sh68_3, sh68_4, ↓w_aload_0, ↓w_iconst, ↓w_pf0, ↓w_istore_1, ↓w_iload_1, ↓w_gf0, ↓w_icge, ↓w_istore_2, ↓w_iload_2, ↓w_gf3, ↓w_iaload, ↓w_iclt, ↓w_iv, ↓pm_cl2_3, ↓w_ifeq, ↓w_bipush, ↓pm_cl2_6, ↓w_iinc_2, ↓w_goto, ↓w_iinc_1, ↓w_lconst1, ↓w_imul, ↓w_iadd, ↓w_lshl, ↓w_vret])
              | (simp only [w_in])
              | (intro _))
            all_goals first | exact q7 | omega | grind
          | true =>
            rw [dsc, if_pos hmd] at q4 q5
            rw [List.length_cons] at q4
            have hmd3 : mdB I3 n N k j = true := by rw [mdB_cg q1.lo]; exact hmd
            have hcv : cvI I3 N (nI k) (nI j) = cvI I N (nI k) (nI j) := cvI_cg q1.lo
            have q7 : ∀ I4 J4, frM I3 I4 → frMJ J3 J4 → plH I4 J4 (L ++ [(nI k, nI j, -9, -9, cvI I N (nI k) (nI j))]) → UU g (d - 1) 255 kX12_layPlaces (pm_rm d 255) Q 3 [some (.ref 68), some (.int (nI k)), some (.int (nI j))] [] SH I4 J4 (0, 0) := by
              intro I4 J4 r1 r2 r3
              have q6 := ih I4 J4 _ (by omega) (q1.tr r1) (q2.tr r2) r3 (by rw [List.length_append, List.length_singleton]; omega) (by rw [← q5, List.append_assoc]; rfl)
              rw [Int32.sub_eq_add_neg] at q6
              clear w2 w w1 w3 f1 g1 q3 q5 hlen hQ ih
              refine bX12_layPlaces_3 ?_
              simp (disch := first | omega | decide) only [w_nl0, w_nli, w_nlr, ↓w_ts1, ↓w_ts0, w_rcv, w_rfv, w_cs, true_and, and_true, List.length_nil, List.length_cons, Nat.reduceAdd, Nat.reduceLeDiff, Nat.zero_le, Nat.reduceLT, ↓w_nil, ix_nI, nI_leP, nI_ltP, nI_eqP, nI_1, ↓i_inN, i_inN, l_le, l_lt, l_eq, r_le, r_lt, r_eq, sh68_0, sh68_1, sh68_2, sh68_3, sh68_4, ↓w_iinc_2, ↓w_goto]
              repeat' (first
                | (apply And.intro)
                | (simp only [w_in])
                | (intro _))
              all_goals first | exact q6 | omega | grind
            clear w2 w w1 f1 g1 q5 hlen hQ ih c1 c2 c3
            have fin : UU g (d - 1) 255 kLP (pm_rm d 255) Q 11 [some (.ref 68), some (.int (nI k)), some (.int (nI j))] [.int (nI j), .int (nI k), .ref 68, .int (-9), .int (-9), .int (nI j), .int (nI k), .ref 68] SH I3 J3 (0, 0) := by
              refine lp_call (by decide +kernel) (Nat.zero_le _) (Nat.zero_le _) (m_onOf (n := n) (N := N) (Ty := Ty) (by omega) w3 hk (by omega) ⟨_, rfl, ?_⟩)
              refine bLP_12 ?_
              simp (disch := first | omega | decide) only [w_nl0, w_nli, w_nlr, ↓w_ts1, ↓w_ts0, w_rcv, w_rfv, w_cs, true_and, and_true, List.length_nil, List.length_cons, Nat.reduceAdd, Nat.reduceLeDiff, Nat.zero_le, Nat.reduceLT, ↓w_nil, ix_nI, nI_leP, nI_ltP, nI_eqP, nI_1, ↓i_inN, i_inN, l_le, l_lt, l_eq, r_le, r_lt, r_eq, sh68_0, sh68_1, sh68_2, sh68_3, sh68_4, ↓w_iload_2, ↓w_aload_0, ↓w_gf3, ↓w_iload_1, ↓w_iaload, ↓w_iclt, ↓w_iv, ↓pm_cl2_3, ↓w_ifeq, ↓w_bipush, ↓pm_cl2_6]
              refine m_addPlace (L := L) (by omega) q3 (by omega) (fun I4 J4 r1 r2 r3 => ?_)
              rw [hcv] at r3
              simp only [Option.toList_none, List.nil_append, w_nil]
              exact lp_to rfl (q7 _ _ r1 r2 r3)
            clear q3 q7 q4
            refine lp_from (c := 10) rfl (bLP_10 ?_)
            simp (disch := first | omega | decide) only [w_nl0, w_nli, w_nlr, ↓w_ts1, ↓w_ts0, w_rcv, w_rfv, w_cs, true_and, and_true, List.length_nil, List.length_cons, Nat.reduceAdd, Nat.reduceLeDiff, Nat.zero_le, Nat.reduceLT, ↓w_nil, ix_nI, nI_leP, nI_ltP, nI_eqP, nI_1, ↓i_inN, i_inN, l_le, l_lt, l_eq, r_le, r_lt, r_eq, sh68_0, sh68_1, sh68_2, sh68_3, sh68_4, ↓w_iload_2, ↓w_aload_0, ↓w_gf3, ↓w_iload_1, ↓w_iaload, ↓w_iclt, ↓w_iv, ↓pm_cl2_3, ↓w_ifeq, ↓w_bipush, ↓pm_cl2_6, d2, hb2]
            repeat' (first
              | (apply And.intro)
              | (with_reducible refine m_madeOn (n := n) (N := N) (Ty := Ty) (by omega) w3 (fun _ => ?_) (fun zz => absurd (hmd3.symm.trans zz) (by decide)) <;> simp (disch := first | omega | decide) only [w_nl0, w_nli, w_nlr, ↓w_ts1, ↓w_ts0, w_rcv, w_rfv, w_cs, true_and, and_true, List.length_nil, List.length_cons, Nat.reduceAdd, Nat.reduceLeDiff, Nat.zero_le, Nat.reduceLT, ↓w_nil, ix_nI, nI_leP, nI_ltP, nI_eqP, nI_1, ↓i_inN, i_inN, l_le, l_lt, l_eq, r_le, r_lt, r_eq, sh68_0, sh68_1, sh68_2, sh68_3, sh68_4, ↓w_aload_0, ↓w_iconst, ↓w_pf0, ↓w_istore_1, ↓w_iload_1, ↓w_gf0, ↓w_icge, ↓w_istore_2, ↓w_iload_2, ↓w_gf3, ↓w_iaload, ↓w_iclt, ↓w_iv, ↓pm_cl2_3, ↓w_ifeq, ↓w_bipush, ↓pm_cl2_6, ↓w_iinc_2, ↓w_goto, ↓w_iinc_1, ↓w_lconst1, ↓w_imul, ↓w_iadd, ↓w_lshl, ↓w_vret])
              | (simp only [w_in])
              | (intro _))
            all_goals first | exact fin | omega | grind
    have q6 := inner (Ty + 1) I2 J2 (plA I n N k) (by omega) p1 p2 p3 (by
      have e : dsc (mdB I n N k) (Ty + 1) = dsc (mdB I n N k) 1000 := dsc_eq (fun x hx => by
        have := g1 k hk x b (by rw [mdB_cg p1.lo]; exact hx) hb2 (by omega)
        rcases Nat.lt_or_ge x 1000 with z | z
        · have := this z; omega
        · omega)
      rw [e]
      unfold plM at hlk
      rw [List.length_map] at hlk
      exact hlk) (by
      have e : dsc (mdB I n N k) (Ty + 1) = dsc (mdB I n N k) 1000 := dsc_eq (fun x hx => by
        have := g1 k hk x b (by rw [mdB_cg p1.lo]; exact hx) hb2 (by omega)
        rcases Nat.lt_or_ge x 1000 with z | z
        · have := this z; omega
        · omega)
      rw [e, plA_s]
      rfl)
    rw [nI_pred] at q6
    clear w2 w w1 f1 g1 p3 hlen hQ inner
    refine bX12_layPlaces_1 ?_
    simp (disch := first | omega | decide) only [w_nl0, w_nli, w_nlr, ↓w_ts1, ↓w_ts0, w_rcv, w_rfv, w_cs, true_and, and_true, List.length_nil, List.length_cons, Nat.reduceAdd, Nat.reduceLeDiff, Nat.zero_le, Nat.reduceLT, ↓w_nil, ix_nI, nI_leP, nI_ltP, nI_eqP, nI_1, ↓i_inN, i_inN, l_le, l_lt, l_eq, r_le, r_lt, r_eq, sh68_0, sh68_1, sh68_2, sh68_3, sh68_4, ↓w_iload_1, ↓w_aload_0, ↓w_gf0, ↓w_icge, ↓w_istore_2, c1, c3]
    repeat' (first
      | (apply And.intro)
      | (simp only [w_in])
      | (intro _))
    all_goals first | exact q6 | omega | grind
  · intro z
    obtain ⟨I2, J2⟩ := a
    obtain ⟨p1, p2, p3⟩ := hP
    have p1 : frM I I2 := p1
    have p2 : frMJ J J2 := p2
    have p3 : plH I2 J2 _ := p3
    have w1 := w.cg p1
    have c1 := w1.2.2.1.1
    have c2 := w1.2.2.1.2.1
    have c3 := w1.2.2.1.2.2.1
    have d2 := w1.2.2.2.1.2.1
    have f1 := w1.2.2.2.2.2.1
    have g1 := w1.2.2.2.2.2.2
    have hln := hlen n (Nat.le_refl n)
    clear hlen f1 g1
    have q7 : UU g (d - 1) 255 kX12_layPlaces (pm_rm d 255) Q 6 [some (.ref 68), some (.int 0), z] [] SH I2 J2 (0, 0) := by
      refine lp (α := pm_MI × pm_ML) (U := fun k a => ∀ z, UU g (d - 1) 255 kX12_layPlaces (pm_rm d 255) Q 6 [some (.ref 68), some (.int (nI k)), z] [] SH a.1 a.2 (0, 0)) (fun k a => frM I a.1 ∧ frMJ J a.2 ∧ plH a.1 a.2 (plA I n N n ++ plB I k)) N (fun k a hk hP w2 => ?_) (fun a hP => ?_) (a := (I2, J2)) ⟨p1, p2, ?_⟩ z
      · intro z
        obtain ⟨I3, J3⟩ := a
        obtain ⟨q1, q2, q3⟩ := hP
        have q1 : frM I I3 := q1
        have q2 : frMJ J J3 := q2
        have q3 : plH I3 J3 _ := q3
        have hr0 : ∀ I4, frM I I4 → I4 93 k = I 25 k := fun I4 h4 => by rw [(w.cg h4).2.2.2.1.2.2, h4.lo 25 (by omega)]
        have hN4 : ∀ I4, frM I I4 → I4 68 38 = nI N := fun I4 h4 => (w.cg h4).2.2.1.2.1
        have s2 : ∀ I4 J4, frM I I4 → frMJ J J4 → plH I4 J4 (plA I n N n ++ plB I (k + 1)) → UU g (d - 1) 255 kX12_layPlaces (pm_rm d 255) Q 7 [some (.ref 68), some (.int (nI k)), some (.int 2)] [] SH I4 J4 (0, 0) := by
          intro I4 J4 r1 r2 r3
          have q6 := w2 (I4, J4) ⟨r1, r2, r3⟩ (some (.int 2))
          clear w2 w w1 hQ hr0 hN4
          refine bX12_layPlaces_7 ?_
          simp (disch := first | omega | decide) only [w_nl0, w_nli, w_nlr, ↓w_ts1, ↓w_ts0, w_rcv, w_rfv, w_cs, true_and, and_true, List.length_nil, List.length_cons, Nat.reduceAdd, Nat.reduceLeDiff, Nat.zero_le, Nat.reduceLT, ↓w_nil, ix_nI, nI_leP, nI_ltP, nI_eqP, nI_1, ↓i_inN, i_inN, l_le, l_lt, l_eq, r_le, r_lt, r_eq, sh68_0, sh68_1, sh68_2, sh68_3, sh68_4, ↓w_iload_2, ↓w_iconst, ↓w_icge, ↓w_aload_0, ↓w_bipush, ↓w_gf3, ↓w_iload_1, ↓w_iaload, ↓w_lconst1, ↓w_imul, ↓w_iadd, ↓w_lshl, ↓w_iv, ↓pm_cl2_6, ↓w_iinc_2, ↓w_goto]
          repeat' (first
            | (apply And.intro)
            | (with_reducible refine bX12_layPlaces_8 ?_; simp (disch := first | omega | decide) only [w_nl0, w_nli, w_nlr, ↓w_ts1, ↓w_ts0, w_rcv, w_rfv, w_cs, true_and, and_true, List.length_nil, List.length_cons, Nat.reduceAdd, Nat.reduceLeDiff, Nat.zero_le, Nat.reduceLT, ↓w_nil, ix_nI, nI_leP, nI_ltP, nI_eqP, nI_1, ↓i_inN, i_inN, l_le, l_lt, l_eq, r_le, r_lt, r_eq, sh68_0, sh68_1, sh68_2, sh68_3, sh68_4, ↓w_aload_0, ↓w_iconst, ↓w_pf0, ↓w_istore_1, ↓w_iload_1, ↓w_gf0, ↓w_icge, ↓w_istore_2, ↓w_iload_2, ↓w_gf3, ↓w_iaload, ↓w_iclt, ↓w_iv, ↓pm_cl2_3, ↓w_ifeq, ↓w_bipush, ↓pm_cl2_6, ↓w_iinc_2, ↓w_goto, ↓w_iinc_1, ↓w_lconst1, ↓w_imul, ↓w_iadd, ↓w_lshl, ↓w_vret])
            | (simp only [w_in])
            | (intro _))
          all_goals first | exact q6 | omega | grind
        have s1 : ∀ I4 J4, frM I I4 → frMJ J J4 → plH I4 J4 ((plA I n N n ++ plB I k) ++ [(-9, I 25 k, nI k, 0, bitL (2 * k))]) → UU g (d - 1) 255 kX12_layPlaces (pm_rm d 255) Q 7 [some (.ref 68), some (.int (nI k)), some (.int 1)] [] SH I4 J4 (0, 0) := by
          intro I4 J4 r1 r2 r3
          have e93 := hr0 I4 r1
          have s2' : ∀ I5 J5, frM I4 I5 → frMJ J4 J5 → plH I5 J5 (((plA I n N n ++ plB I k) ++ [(-9, I 25 k, nI k, 0, bitL (2 * k))]) ++ [(-9, I 25 k, nI k, 1, bitL (2 * k + 1))]) → UU g (d - 1) 255 kX12_layPlaces (pm_rm d 255) Q 7 [some (.ref 68), some (.int (nI k)), some (.int 2)] [] SH I5 J5 (0, 0) := fun I5 J5 t1 t2 t3 => s2 I5 J5 (r1.tr t1) (r2.tr t2) (by rw [plB_s]; simpa [plR] using t3)
          have hl4 : ((plA I n N n ++ plB I k) ++ [(-9, I 25 k, nI k, 0, bitL (2 * k))]).length < 200 := by rw [List.length_append, List.length_append, plB_len, List.length_singleton]; omega
          clear w2 w w1 hQ hr0 hN4 s2 q3
          refine bX12_layPlaces_7 ?_
          simp (disch := first | omega | decide) only [w_nl0, w_nli, w_nlr, ↓w_ts1, ↓w_ts0, w_rcv, w_rfv, w_cs, true_and, and_true, List.length_nil, List.length_cons, Nat.reduceAdd, Nat.reduceLeDiff, Nat.zero_le, Nat.reduceLT, ↓w_nil, ix_nI, nI_leP, nI_ltP, nI_eqP, nI_1, ↓i_inN, i_inN, l_le, l_lt, l_eq, r_le, r_lt, r_eq, sh68_0, sh68_1, sh68_2, sh68_3, sh68_4, ↓w_iload_2, ↓w_iconst, ↓w_icge, ↓w_aload_0, ↓w_bipush, ↓w_gf3, ↓w_iload_1, ↓w_iaload, ↓w_lconst1, ↓w_imul, ↓w_iadd, ↓w_lshl, ↓w_iv, ↓pm_cl2_6, ↓w_iinc_2, ↓w_goto, e93, nI_2m, bitL_f]
          repeat' (first
            | (apply And.intro)
            | (with_reducible refine m_addPlace (by omega) r3 hl4 (fun I5 J5 t1 t2 t3 => ?_) <;> simp (disch := first | omega | decide) only [w_nl0, w_nli, w_nlr, ↓w_ts1, ↓w_ts0, w_rcv, w_rfv, w_cs, true_and, and_true, List.length_nil, List.length_cons, Nat.reduceAdd, Nat.reduceLeDiff, Nat.zero_le, Nat.reduceLT, ↓w_nil, ix_nI, nI_leP, nI_ltP, nI_eqP, nI_1, ↓i_inN, i_inN, l_le, l_lt, l_eq, r_le, r_lt, r_eq, sh68_0, sh68_1, sh68_2, sh68_3, sh68_4, ↓w_aload_0, ↓w_iconst, ↓w_pf0, ↓w_istore_1, ↓w_iload_1, ↓w_gf0, ↓w_icge, ↓w_istore_2, ↓w_iload_2, ↓w_gf3, ↓w_iaload, ↓w_iclt, ↓w_iv, ↓pm_cl2_3, ↓w_ifeq, ↓w_bipush, ↓pm_cl2_6, ↓w_iinc_2, ↓w_goto, ↓w_iinc_1, ↓w_lconst1, ↓w_imul, ↓w_iadd, ↓w_lshl, ↓w_vret])
            | (simp only [w_in])
            | (intro _))
          all_goals first | exact s2' _ _ t1 t2 t3 | exact s2' _ _ (by assumption) (by assumption) (by assumption) | omega | grind
        have s0 : UU g (d - 1) 255 kX12_layPlaces (pm_rm d 255) Q 7 [some (.ref 68), some (.int (nI k)), some (.int 0)] [] SH I3 J3 (0, 0) := by
          have e93 := hr0 I3 q1
          have s1' : ∀ I5 J5, frM I3 I5 → frMJ J3 J5 → plH I5 J5 ((plA I n N n ++ plB I k) ++ [(-9, I 25 k, nI k, 0, bitL (2 * k))]) → UU g (d - 1) 255 kX12_layPlaces (pm_rm d 255) Q 7 [some (.ref 68), some (.int (nI k)), some (.int 1)] [] SH I5 J5 (0, 0) := fun I5 J5 t1 t2 t3 => s1 I5 J5 (q1.tr t1) (q2.tr t2) t3
          have hl4 : (plA I n N n ++ plB I k).length < 200 := by rw [List.length_append, plB_len]; omega
          clear w2 w w1 hQ hr0 hN4 s2 s1
          refine bX12_layPlaces_7 ?_
          simp (disch := first | omega | decide) only [w_nl0, w_nli, w_nlr, ↓w_ts1, ↓w_ts0, w_rcv, w_rfv, w_cs, true_and, and_true, List.length_nil, List.length_cons, Nat.reduceAdd, Nat.reduceLeDiff, Nat.zero_le, Nat.reduceLT, ↓w_nil, ix_nI, nI_leP, nI_ltP, nI_eqP, nI_1, ↓i_inN, i_inN, l_le, l_lt, l_eq, r_le, r_lt, r_eq, sh68_0, sh68_1, sh68_2, sh68_3, sh68_4, ↓w_iload_2, ↓w_iconst, ↓w_icge, ↓w_aload_0, ↓w_bipush, ↓w_gf3, ↓w_iload_1, ↓w_iaload, ↓w_lconst1, ↓w_imul, ↓w_iadd, ↓w_lshl, ↓w_iv, ↓pm_cl2_6, ↓w_iinc_2, ↓w_goto, e93, nI_2m, bitL_f, Int32.add_zero]
          repeat' (first
            | (apply And.intro)
            | (with_reducible refine m_addPlace (by omega) q3 hl4 (fun I5 J5 t1 t2 t3 => ?_) <;> simp (disch := first | omega | decide) only [w_nl0, w_nli, w_nlr, ↓w_ts1, ↓w_ts0, w_rcv, w_rfv, w_cs, true_and, and_true, List.length_nil, List.length_cons, Nat.reduceAdd, Nat.reduceLeDiff, Nat.zero_le, Nat.reduceLT, ↓w_nil, ix_nI, nI_leP, nI_ltP, nI_eqP, nI_1, ↓i_inN, i_inN, l_le, l_lt, l_eq, r_le, r_lt, r_eq, sh68_0, sh68_1, sh68_2, sh68_3, sh68_4, ↓w_aload_0, ↓w_iconst, ↓w_pf0, ↓w_istore_1, ↓w_iload_1, ↓w_gf0, ↓w_icge, ↓w_istore_2, ↓w_iload_2, ↓w_gf3, ↓w_iaload, ↓w_iclt, ↓w_iv, ↓pm_cl2_3, ↓w_ifeq, ↓w_bipush, ↓pm_cl2_6, ↓w_iinc_2, ↓w_goto, ↓w_iinc_1, ↓w_lconst1, ↓w_imul, ↓w_iadd, ↓w_lshl, ↓w_vret])
            | (simp only [w_in])
            | (intro _))
          all_goals first | exact s1' _ _ t1 t2 t3 | exact s1' _ _ (by assumption) (by assumption) (by assumption) | omega | grind
        have eN := hN4 I3 q1
        clear w2 w w1 hQ hr0 hN4 s2 s1 q3
        refine bX12_layPlaces_6 ?_
        simp (disch := first | omega | decide) only [w_nl0, w_nli, w_nlr, ↓w_ts1, ↓w_ts0, w_rcv, w_rfv, w_cs, true_and, and_true, List.length_nil, List.length_cons, Nat.reduceAdd, Nat.reduceLeDiff, Nat.zero_le, Nat.reduceLT, ↓w_nil, ix_nI, nI_leP, nI_ltP, nI_eqP, nI_1, ↓i_inN, i_inN, l_le, l_lt, l_eq, r_le, r_lt, r_eq, sh68_0, sh68_1, sh68_2, sh68_3, sh68_4, ↓w_iload_1, ↓w_aload_0, ↓w_gf0, ↓w_icge, ↓w_iconst, ↓w_istore_2, eN]
        repeat' (first
          | (apply And.intro)
          | (simp only [w_in])
          | (intro _))
        all_goals first | exact s0 | omega | grind
      · intro z
        obtain ⟨I3, J3⟩ := a
        obtain ⟨q1, q2, q3⟩ := hP
        have q1 : frM I I3 := q1
        have q2 : frMJ J J3 := q2
        have q3 : plH I3 J3 _ := q3
        have q := hQ I3 J3 q1 q2 q3
        have eN : I3 68 38 = nI N := (w.cg q1).2.2.1.2.1
        clear w w1 hQ q3
        refine bX12_layPlaces_6 ?_
        simp (disch := first | omega | decide) only [w_nl0, w_nli, w_nlr, ↓w_ts1, ↓w_ts0, w_rcv, w_rfv, w_cs, true_and, and_true, List.length_nil, List.length_cons, Nat.reduceAdd, Nat.reduceLeDiff, Nat.zero_le, Nat.reduceLT, ↓w_nil, ix_nI, nI_leP, nI_ltP, nI_eqP, nI_1, ↓i_inN, i_inN, l_le, l_lt, l_eq, r_le, r_lt, r_eq, sh68_0, sh68_1, sh68_2, sh68_3, sh68_4, ↓w_iload_1, ↓w_aload_0, ↓w_gf0, ↓w_icge, ↓w_iconst, ↓w_istore_2, eN]
        repeat' (first
          | (apply And.intro)
          | (with_reducible refine bX12_layPlaces_9 ?_; simp (disch := first | omega | decide) only [w_nl0, w_nli, w_nlr, ↓w_ts1, ↓w_ts0, w_rcv, w_rfv, w_cs, true_and, and_true, List.length_nil, List.length_cons, Nat.reduceAdd, Nat.reduceLeDiff, Nat.zero_le, Nat.reduceLT, ↓w_nil, ix_nI, nI_leP, nI_ltP, nI_eqP, nI_1, ↓i_inN, i_inN, l_le, l_lt, l_eq, r_le, r_lt, r_eq, sh68_0, sh68_1, sh68_2, sh68_3, sh68_4, ↓w_aload_0, ↓w_iconst, ↓w_pf0, ↓w_istore_1, ↓w_iload_1, ↓w_gf0, ↓w_icge, ↓w_istore_2, ↓w_iload_2, ↓w_gf3, ↓w_iaload, ↓w_iclt, ↓w_iv, ↓pm_cl2_3, ↓w_ifeq, ↓w_bipush, ↓pm_cl2_6, ↓w_iinc_2, ↓w_goto, ↓w_iinc_1, ↓w_lconst1, ↓w_imul, ↓w_iadd, ↓w_lshl, ↓w_vret])
          | (simp only [w_in])
          | (intro _))
        all_goals first | exact q | grind
      · simpa [plB] using p3
    clear w w1 hQ p3
    refine bX12_layPlaces_1 ?_
    simp (disch := first | omega | decide) only [w_nl0, w_nli, w_nlr, ↓w_ts1, ↓w_ts0, w_rcv, w_rfv, w_cs, true_and, and_true, List.length_nil, List.length_cons, Nat.reduceAdd, Nat.reduceLeDiff, Nat.zero_le, Nat.reduceLT, ↓w_nil, ix_nI, nI_leP, nI_ltP, nI_eqP, nI_1, ↓i_inN, i_inN, l_le, l_lt, l_eq, r_le, r_lt, r_eq, sh68_0, sh68_1, sh68_2, sh68_3, sh68_4, ↓w_iload_1, ↓w_aload_0, ↓w_gf0, ↓w_icge, ↓w_istore_2, c1]
    repeat' (first
      | (apply And.intro)
      | (with_reducible refine bX12_layPlaces_5 ?_; simp (disch := first | omega | decide) only [w_nl0, w_nli, w_nlr, ↓w_ts1, ↓w_ts0, w_rcv, w_rfv, w_cs, true_and, and_true, List.length_nil, List.length_cons, Nat.reduceAdd, Nat.reduceLeDiff, Nat.zero_le, Nat.reduceLT, ↓w_nil, ix_nI, nI_leP, nI_ltP, nI_eqP, nI_1, ↓i_inN, i_inN, l_le, l_lt, l_eq, r_le, r_lt, r_eq, sh68_0, sh68_1, sh68_2, sh68_3, sh68_4, ↓w_aload_0, ↓w_iconst, ↓w_pf0, ↓w_istore_1, ↓w_iload_1, ↓w_gf0, ↓w_icge, ↓w_istore_2, ↓w_iload_2, ↓w_gf3, ↓w_iaload, ↓w_iclt, ↓w_iv, ↓pm_cl2_3, ↓w_ifeq, ↓w_bipush, ↓pm_cl2_6, ↓w_iinc_2, ↓w_goto, ↓w_iinc_1, ↓w_lconst1, ↓w_imul, ↓w_iadd, ↓w_lshl, ↓w_vret])
      | (simp only [w_in])
      | (intro _))
    all_goals first | exact q7 | omega | grind
  · exact ⟨by show pm_up I 68 52 0 68 52 = _; rw [pm_up_s]; rfl, fun p x hx => by simp [plA] at hx⟩
end C91d
