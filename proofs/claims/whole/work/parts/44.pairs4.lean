section C44
variable {g : pm_G} {d : Nat} {Q : pm_Po} {S : pm_SS} {I : pm_MI} {J : pm_ML}
theorem n9 {j : Nat} (hj : j < 1000000) : ¬ nI j = -9 := by
  have := nI_rng (n := j) (N := j) (by omega) hj
  grind
theorem i_hasM {I : pm_MI} {x : Int32} {n : Nat} (hn : I 9 9 = nI n) (hn40 : n ≤ 40) (h : hasM I x) : ∃ q, q < n ∧ x = nI q := by
  obtain ⟨h1, h2, h3⟩ := h
  rw [hn] at h2
  exact i_q (by omega) h1 h2
theorem not_hasM {I : pm_MI} : ¬ hasM I (-9) := by
  intro h
  have := h.1
  revert this
  decide
def lnF (F : Nat → Int32) : Nat → Int32 → Int32
  | 0, _ => 0
  | q + 1, a => if F a.toNatClampNeg = -9 then 0 else lnF F q (F a.toNatClampNeg) + 1
def ltF (F : Nat → Int32) : Nat → Int32 → Int32
  | 0, a => a
  | q + 1, a => if F a.toNatClampNeg = -9 then a else ltF F q (F a.toNatClampNeg)
def fcl (F : Nat → Int32) (x : Int32) : Nat → Int32 → Int32
  | 0, a => a
  | q + 1, a => if a = -9 ∨ a = x then a else fcl F x q (F a.toNatClampNeg)
def fOk (F : Nat → Int32) (n : Nat) : Prop := ∀ i, i < n → F i = -9 ∨ ∃ j, j < i ∧ F i = nI j
theorem m_lead {m n : Nat} (hd : 3 ≤ d) (hn : I 68 23 = nI n) (hn40 : n ≤ 40) (hm : m < n) (hF : fOk (I 81) n) (hQ : Q (some (.int (lnF (I 81) n (nI m)))) SH (pm_up I 68 2 (ltF (I 81) n (nI m))) J) : pm_C g d 237 [.ref 68, .int (nI m)] Q SH I J := by
  have key : ∀ q i c, i < q → i < n → Q (some (.int (c + lnF (I 81) q (nI i)))) SH (pm_up I 68 2 (ltF (I 81) q (nI i))) J → UU g (d - 1) 237 kX12_lead (pm_rm d 237) Q 2 [some (.ref 68), some (.int (nI m)), some (.int c), some (.int (nI i))] [] SH I J (0, 0) := by
    intro q
    induction q with
    | zero => intro i c hi; omega
    | succ q ih =>
      intro i c hi hin hP
      have hix : (nI i).toNatClampNeg = i := ix_nI (by omega)
      rcases hF i hin with h | ⟨j, hj, h⟩
      · simp only [lnF, ltF, hix, h, if_true] at hP
        rw [Int32.add_zero] at hP
        refine bX12_lead_2 ?_
        simp (disch := first | omega | decide) only [w_nl0, w_nli, w_nlr, ↓w_ts1, ↓w_ts0, w_rcv, w_rfv, w_cs, true_and, and_true, List.length_nil, List.length_cons, Nat.reduceAdd, Nat.reduceLeDiff, Nat.zero_le, Nat.reduceLT, ↓w_nil, ix_nI, nI_leP, nI_ltP, nI_eqP, nI_1, ↓i_inN, i_inN, l_le, l_lt, l_eq, r_le, r_lt, r_eq, sh68_0, sh68_1, sh68_2, sh68_3, sh68_4, ↓w_aload_0, ↓w_gf3, ↓w_iload_3, ↓w_iaload, ↓w_bipush, ↓w_iceq, ↓w_istore_3, ↓w_iinc_2, ↓w_goto, h]
        repeat' (first
          | (apply And.intro)
          | (with_reducible refine bX12_lead_3 ?_; simp (disch := first | omega | decide) only [w_nl0, w_nli, w_nlr, ↓w_ts1, ↓w_ts0, w_rcv, w_rfv, w_cs, true_and, and_true, List.length_nil, List.length_cons, Nat.reduceAdd, Nat.reduceLeDiff, Nat.zero_le, Nat.reduceLT, ↓w_nil, ix_nI, nI_leP, nI_ltP, nI_eqP, nI_1, ↓i_inN, i_inN, l_le, l_lt, l_eq, r_le, r_lt, r_eq, sh68_0, sh68_1, sh68_2, sh68_3, sh68_4, ↓w_aload_0, ↓w_iload_1, ↓w_iv, ↓pm_cl2_2, ↓w_ifne, ↓w_iconst, ↓w_ret, ↓w_istore_2, ↓w_istore_3, ↓w_gf3, ↓w_iload_3, ↓w_iaload, ↓w_bipush, ↓w_iceq, ↓w_iinc_2, ↓w_goto, ↓w_iload_2, ↓pm_cl2_3])
          | (with_reducible refine m_tells (by omega) ?_ ; simp (disch := first | omega | decide) only [w_nl0, w_nli, w_nlr, ↓w_ts1, ↓w_ts0, w_rcv, w_rfv, w_cs, true_and, and_true, List.length_nil, List.length_cons, Nat.reduceAdd, Nat.reduceLeDiff, Nat.zero_le, Nat.reduceLT, ↓w_nil, ix_nI, nI_leP, nI_ltP, nI_eqP, nI_1, ↓i_inN, i_inN, l_le, l_lt, l_eq, r_le, r_lt, r_eq, sh68_0, sh68_1, sh68_2, sh68_3, sh68_4, ↓w_aload_0, ↓w_iload_1, ↓w_iv, ↓pm_cl2_2, ↓w_ifne, ↓w_iconst, ↓w_ret, ↓w_istore_2, ↓w_istore_3, ↓w_gf3, ↓w_iload_3, ↓w_iaload, ↓w_bipush, ↓w_iceq, ↓w_iinc_2, ↓w_goto, ↓w_iload_2, ↓pm_cl2_3])
          | (simp only [w_in])
          | (intro _))
        all_goals grind
      · simp only [lnF, ltF, hix, h, n9 (show j < 1000000 by omega), if_false] at hP
        have w := ih j (c + 1) (by omega) (by omega) (by rw [Int32.add_assoc, Int32.add_comm 1]; exact hP)
        have e9 := n9 (show j < 1000000 by omega)
        refine bX12_lead_2 ?_
        simp (disch := first | omega | decide) only [w_nl0, w_nli, w_nlr, ↓w_ts1, ↓w_ts0, w_rcv, w_rfv, w_cs, true_and, and_true, List.length_nil, List.length_cons, Nat.reduceAdd, Nat.reduceLeDiff, Nat.zero_le, Nat.reduceLT, ↓w_nil, ix_nI, nI_leP, nI_ltP, nI_eqP, nI_1, ↓i_inN, i_inN, l_le, l_lt, l_eq, r_le, r_lt, r_eq, sh68_0, sh68_1, sh68_2, sh68_3, sh68_4, ↓w_aload_0, ↓w_gf3, ↓w_iload_3, ↓w_iaload, ↓w_bipush, ↓w_iceq, ↓w_istore_3, ↓w_iinc_2, ↓w_goto, h]
        repeat' (first
          | (apply And.intro)
          | (simp only [w_in])
          | (intro _))
        all_goals grind
  have w := key n m 0 hm hm (by rw [Int32.zero_add]; exact hQ)
  have e1 := nI_rng (n := m) (N := m) (by omega) (by omega)
  have e2 := nI_lt hm (by omega)
  refine eX12_lead (by omega) ?_
  repeat' (first
    | (apply And.intro)
    | (with_reducible refine bX12_lead_0 ?_; simp (disch := first | omega | decide) only [w_nl0, w_nli, w_nlr, ↓w_ts1, ↓w_ts0, w_rcv, w_rfv, w_cs, true_and, and_true, List.length_nil, List.length_cons, Nat.reduceAdd, Nat.reduceLeDiff, Nat.zero_le, Nat.reduceLT, ↓w_nil, ix_nI, nI_leP, nI_ltP, nI_eqP, nI_1, ↓i_inN, i_inN, l_le, l_lt, l_eq, r_le, r_lt, r_eq, sh68_0, sh68_1, sh68_2, sh68_3, sh68_4, ↓w_aload_0, ↓w_iload_1, ↓w_iv, ↓pm_cl2_2, ↓w_ifne, ↓w_iconst, ↓w_ret, ↓w_istore_2, ↓w_istore_3, ↓w_gf3, ↓w_iload_3, ↓w_iaload, ↓w_bipush, ↓w_iceq, ↓w_iinc_2, ↓w_goto, ↓w_iload_2, ↓pm_cl2_3])
    | (with_reducible refine bX12_lead_1 ?_; simp (disch := first | omega | decide) only [w_nl0, w_nli, w_nlr, ↓w_ts1, ↓w_ts0, w_rcv, w_rfv, w_cs, true_and, and_true, List.length_nil, List.length_cons, Nat.reduceAdd, Nat.reduceLeDiff, Nat.zero_le, Nat.reduceLT, ↓w_nil, ix_nI, nI_leP, nI_ltP, nI_eqP, nI_1, ↓i_inN, i_inN, l_le, l_lt, l_eq, r_le, r_lt, r_eq, sh68_0, sh68_1, sh68_2, sh68_3, sh68_4, ↓w_aload_0, ↓w_iload_1, ↓w_iv, ↓pm_cl2_2, ↓w_ifne, ↓w_iconst, ↓w_ret, ↓w_istore_2, ↓w_istore_3, ↓w_gf3, ↓w_iload_3, ↓w_iaload, ↓w_bipush, ↓w_iceq, ↓w_iinc_2, ↓w_goto, ↓w_iload_2, ↓pm_cl2_3])
    | (with_reducible refine m_isMetal (by omega) hn hn40 ?_ ; simp (disch := first | omega | decide) only [w_nl0, w_nli, w_nlr, ↓w_ts1, ↓w_ts0, w_rcv, w_rfv, w_cs, true_and, and_true, List.length_nil, List.length_cons, Nat.reduceAdd, Nat.reduceLeDiff, Nat.zero_le, Nat.reduceLT, ↓w_nil, ix_nI, nI_leP, nI_ltP, nI_eqP, nI_1, ↓i_inN, i_inN, l_le, l_lt, l_eq, r_le, r_lt, r_eq, sh68_0, sh68_1, sh68_2, sh68_3, sh68_4, ↓w_aload_0, ↓w_iload_1, ↓w_iv, ↓pm_cl2_2, ↓w_ifne, ↓w_iconst, ↓w_ret, ↓w_istore_2, ↓w_istore_3, ↓w_gf3, ↓w_iload_3, ↓w_iaload, ↓w_bipush, ↓w_iceq, ↓w_iinc_2, ↓w_goto, ↓w_iload_2, ↓pm_cl2_3])
    | (simp only [w_in])
    | (intro _))
  all_goals grind
theorem m_isMadeOf {m n : Nat} {x : Int32} (hd : 3 ≤ d) (hn40 : n ≤ 40) (hm : m < n) (hF : fOk (I 81) n) (hQ : Q (some (.int (if fcl (I 81) x n (I 81 m) = x then 1 else 0))) SH I J) : pm_C g d 233 [.ref 68, .int (nI m), .int x] Q SH I J := by
  have key : ∀ q a, (a = -9 ∨ ∃ i, i < q ∧ i < n ∧ a = nI i) → Q (some (.int (if fcl (I 81) x q a = x then 1 else 0))) SH I J → UU g (d - 1) 233 kX12_isMadeOf (pm_rm d 233) Q 1 [some (.ref 68), some (.int (nI m)), some (.int x), some (.int a)] [] SH I J (0, 0) := by
    intro q
    induction q with
    | zero =>
      intro a ha hP
      rcases ha with ha | ⟨i, hi, _⟩
      · simp only [fcl] at hP
        refine bX12_isMadeOf_1 ?_
        simp (disch := first | omega | decide) only [w_nl0, w_nli, w_nlr, ↓w_ts1, ↓w_ts0, w_rcv, w_rfv, w_cs, true_and, and_true, List.length_nil, List.length_cons, Nat.reduceAdd, Nat.reduceLeDiff, Nat.zero_le, Nat.reduceLT, ↓w_nil, ix_nI, nI_leP, nI_ltP, nI_eqP, nI_1, ↓i_inN, i_inN, l_le, l_lt, l_eq, r_le, r_lt, r_eq, sh68_0, sh68_1, sh68_2, sh68_3, sh68_4, ↓w_iload_3, ↓w_bipush, ↓w_iceq, ↓w_iload_2, ↓w_aload_0, ↓w_gf3, ↓w_iaload, ↓w_istore_3, ↓w_goto]
        repeat' (first
          | (apply And.intro)
          | (with_reducible refine bX12_isMadeOf_2 ?_; simp (disch := first | omega | decide) only [w_nl0, w_nli, w_nlr, ↓w_ts1, ↓w_ts0, w_rcv, w_rfv, w_cs, true_and, and_true, List.length_nil, List.length_cons, Nat.reduceAdd, Nat.reduceLeDiff, Nat.zero_le, Nat.reduceLT, ↓w_nil, ix_nI, nI_leP, nI_ltP, nI_eqP, nI_1, ↓i_inN, i_inN, l_le, l_lt, l_eq, r_le, r_lt, r_eq, sh68_0, sh68_1, sh68_2, sh68_3, sh68_4, ↓w_aload_0, ↓w_gf3, ↓w_iload_1, ↓w_iaload, ↓w_istore_3, ↓w_iload_3, ↓w_bipush, ↓w_iceq, ↓w_iload_2, ↓w_goto, ↓w_icne, ↓w_iconst, ↓w_zret])
          | (with_reducible refine bX12_isMadeOf_3 ?_; simp (disch := first | omega | decide) only [w_nl0, w_nli, w_nlr, ↓w_ts1, ↓w_ts0, w_rcv, w_rfv, w_cs, true_and, and_true, List.length_nil, List.length_cons, Nat.reduceAdd, Nat.reduceLeDiff, Nat.zero_le, Nat.reduceLT, ↓w_nil, ix_nI, nI_leP, nI_ltP, nI_eqP, nI_1, ↓i_inN, i_inN, l_le, l_lt, l_eq, r_le, r_lt, r_eq, sh68_0, sh68_1, sh68_2, sh68_3, sh68_4, ↓w_aload_0, ↓w_gf3, ↓w_iload_1, ↓w_iaload, ↓w_istore_3, ↓w_iload_3, ↓w_bipush, ↓w_iceq, ↓w_iload_2, ↓w_goto, ↓w_icne, ↓w_iconst, ↓w_zret])
          | (with_reducible refine bX12_isMadeOf_4 ?_; simp (disch := first | omega | decide) only [w_nl0, w_nli, w_nlr, ↓w_ts1, ↓w_ts0, w_rcv, w_rfv, w_cs, true_and, and_true, List.length_nil, List.length_cons, Nat.reduceAdd, Nat.reduceLeDiff, Nat.zero_le, Nat.reduceLT, ↓w_nil, ix_nI, nI_leP, nI_ltP, nI_eqP, nI_1, ↓i_inN, i_inN, l_le, l_lt, l_eq, r_le, r_lt, r_eq, sh68_0, sh68_1, sh68_2, sh68_3, sh68_4, ↓w_aload_0, ↓w_gf3, ↓w_iload_1, ↓w_iaload, ↓w_istore_3, ↓w_iload_3, ↓w_bipush, ↓w_iceq, ↓w_iload_2, ↓w_goto, ↓w_icne, ↓w_iconst, ↓w_zret])
          | (simp only [w_in])
          | (intro _))
        all_goals grind
      · omega
    | succ q ih =>
      intro a ha hP
      rcases ha with ha | ⟨i, hi, hin, rfl⟩
      · simp only [fcl, ha, true_or, if_true] at hP
        refine bX12_isMadeOf_1 ?_
        simp (disch := first | omega | decide) only [w_nl0, w_nli, w_nlr, ↓w_ts1, ↓w_ts0, w_rcv, w_rfv, w_cs, true_and, and_true, List.length_nil, List.length_cons, Nat.reduceAdd, Nat.reduceLeDiff, Nat.zero_le, Nat.reduceLT, ↓w_nil, ix_nI, nI_leP, nI_ltP, nI_eqP, nI_1, ↓i_inN, i_inN, l_le, l_lt, l_eq, r_le, r_lt, r_eq, sh68_0, sh68_1, sh68_2, sh68_3, sh68_4, ↓w_iload_3, ↓w_bipush, ↓w_iceq, ↓w_iload_2, ↓w_aload_0, ↓w_gf3, ↓w_iaload, ↓w_istore_3, ↓w_goto]
        repeat' (first
          | (apply And.intro)
          | (with_reducible refine bX12_isMadeOf_2 ?_; simp (disch := first | omega | decide) only [w_nl0, w_nli, w_nlr, ↓w_ts1, ↓w_ts0, w_rcv, w_rfv, w_cs, true_and, and_true, List.length_nil, List.length_cons, Nat.reduceAdd, Nat.reduceLeDiff, Nat.zero_le, Nat.reduceLT, ↓w_nil, ix_nI, nI_leP, nI_ltP, nI_eqP, nI_1, ↓i_inN, i_inN, l_le, l_lt, l_eq, r_le, r_lt, r_eq, sh68_0, sh68_1, sh68_2, sh68_3, sh68_4, ↓w_aload_0, ↓w_gf3, ↓w_iload_1, ↓w_iaload, ↓w_istore_3, ↓w_iload_3, ↓w_bipush, ↓w_iceq, ↓w_iload_2, ↓w_goto, ↓w_icne, ↓w_iconst, ↓w_zret])
          | (with_reducible refine bX12_isMadeOf_3 ?_; simp (disch := first | omega | decide) only [w_nl0, w_nli, w_nlr, ↓w_ts1, ↓w_ts0, w_rcv, w_rfv, w_cs, true_and, and_true, List.length_nil, List.length_cons, Nat.reduceAdd, Nat.reduceLeDiff, Nat.zero_le, Nat.reduceLT, ↓w_nil, ix_nI, nI_leP, nI_ltP, nI_eqP, nI_1, ↓i_inN, i_inN, l_le, l_lt, l_eq, r_le, r_lt, r_eq, sh68_0, sh68_1, sh68_2, sh68_3, sh68_4, ↓w_aload_0, ↓w_gf3, ↓w_iload_1, ↓w_iaload, ↓w_istore_3, ↓w_iload_3, ↓w_bipush, ↓w_iceq, ↓w_iload_2, ↓w_goto, ↓w_icne, ↓w_iconst, ↓w_zret])
          | (with_reducible refine bX12_isMadeOf_4 ?_; simp (disch := first | omega | decide) only [w_nl0, w_nli, w_nlr, ↓w_ts1, ↓w_ts0, w_rcv, w_rfv, w_cs, true_and, and_true, List.length_nil, List.length_cons, Nat.reduceAdd, Nat.reduceLeDiff, Nat.zero_le, Nat.reduceLT, ↓w_nil, ix_nI, nI_leP, nI_ltP, nI_eqP, nI_1, ↓i_inN, i_inN, l_le, l_lt, l_eq, r_le, r_lt, r_eq, sh68_0, sh68_1, sh68_2, sh68_3, sh68_4, ↓w_aload_0, ↓w_gf3, ↓w_iload_1, ↓w_iaload, ↓w_istore_3, ↓w_iload_3, ↓w_bipush, ↓w_iceq, ↓w_iload_2, ↓w_goto, ↓w_icne, ↓w_iconst, ↓w_zret])
          | (simp only [w_in])
          | (intro _))
        all_goals grind
      · have hix : (nI i).toNatClampNeg = i := ix_nI (by omega)
        have e9 := n9 (show i < 1000000 by omega)
        by_cases hx : nI i = x
        · simp only [fcl, hx, or_true, if_true] at hP
          refine bX12_isMadeOf_1 ?_
          simp (disch := first | omega | decide) only [w_nl0, w_nli, w_nlr, ↓w_ts1, ↓w_ts0, w_rcv, w_rfv, w_cs, true_and, and_true, List.length_nil, List.length_cons, Nat.reduceAdd, Nat.reduceLeDiff, Nat.zero_le, Nat.reduceLT, ↓w_nil, ix_nI, nI_leP, nI_ltP, nI_eqP, nI_1, ↓i_inN, i_inN, l_le, l_lt, l_eq, r_le, r_lt, r_eq, sh68_0, sh68_1, sh68_2, sh68_3, sh68_4, ↓w_iload_3, ↓w_bipush, ↓w_iceq, ↓w_iload_2, ↓w_aload_0, ↓w_gf3, ↓w_iaload, ↓w_istore_3, ↓w_goto]
          repeat' (first
            | (apply And.intro)
            | (with_reducible refine bX12_isMadeOf_2 ?_; simp (disch := first | omega | decide) only [w_nl0, w_nli, w_nlr, ↓w_ts1, ↓w_ts0, w_rcv, w_rfv, w_cs, true_and, and_true, List.length_nil, List.length_cons, Nat.reduceAdd, Nat.reduceLeDiff, Nat.zero_le, Nat.reduceLT, ↓w_nil, ix_nI, nI_leP, nI_ltP, nI_eqP, nI_1, ↓i_inN, i_inN, l_le, l_lt, l_eq, r_le, r_lt, r_eq, sh68_0, sh68_1, sh68_2, sh68_3, sh68_4, ↓w_aload_0, ↓w_gf3, ↓w_iload_1, ↓w_iaload, ↓w_istore_3, ↓w_iload_3, ↓w_bipush, ↓w_iceq, ↓w_iload_2, ↓w_goto, ↓w_icne, ↓w_iconst, ↓w_zret])
            | (with_reducible refine bX12_isMadeOf_3 ?_; simp (disch := first | omega | decide) only [w_nl0, w_nli, w_nlr, ↓w_ts1, ↓w_ts0, w_rcv, w_rfv, w_cs, true_and, and_true, List.length_nil, List.length_cons, Nat.reduceAdd, Nat.reduceLeDiff, Nat.zero_le, Nat.reduceLT, ↓w_nil, ix_nI, nI_leP, nI_ltP, nI_eqP, nI_1, ↓i_inN, i_inN, l_le, l_lt, l_eq, r_le, r_lt, r_eq, sh68_0, sh68_1, sh68_2, sh68_3, sh68_4, ↓w_aload_0, ↓w_gf3, ↓w_iload_1, ↓w_iaload, ↓w_istore_3, ↓w_iload_3, ↓w_bipush, ↓w_iceq, ↓w_iload_2, ↓w_goto, ↓w_icne, ↓w_iconst, ↓w_zret])
            | (with_reducible refine bX12_isMadeOf_4 ?_; simp (disch := first | omega | decide) only [w_nl0, w_nli, w_nlr, ↓w_ts1, ↓w_ts0, w_rcv, w_rfv, w_cs, true_and, and_true, List.length_nil, List.length_cons, Nat.reduceAdd, Nat.reduceLeDiff, Nat.zero_le, Nat.reduceLT, ↓w_nil, ix_nI, nI_leP, nI_ltP, nI_eqP, nI_1, ↓i_inN, i_inN, l_le, l_lt, l_eq, r_le, r_lt, r_eq, sh68_0, sh68_1, sh68_2, sh68_3, sh68_4, ↓w_aload_0, ↓w_gf3, ↓w_iload_1, ↓w_iaload, ↓w_istore_3, ↓w_iload_3, ↓w_bipush, ↓w_iceq, ↓w_iload_2, ↓w_goto, ↓w_icne, ↓w_iconst, ↓w_zret])
            | (simp only [w_in])
            | (intro _))
          all_goals grind
        · have w := ih (I 81 i) (by rcases hF i hin with h | ⟨j, hj, h⟩; exact Or.inl h; exact Or.inr ⟨j, by omega, by omega, h⟩)
          simp only [fcl, e9, hx, or_self, if_false, hix] at hP
          have w := w hP
          refine bX12_isMadeOf_1 ?_
          simp (disch := first | omega | decide) only [w_nl0, w_nli, w_nlr, ↓w_ts1, ↓w_ts0, w_rcv, w_rfv, w_cs, true_and, and_true, List.length_nil, List.length_cons, Nat.reduceAdd, Nat.reduceLeDiff, Nat.zero_le, Nat.reduceLT, ↓w_nil, ix_nI, nI_leP, nI_ltP, nI_eqP, nI_1, ↓i_inN, i_inN, l_le, l_lt, l_eq, r_le, r_lt, r_eq, sh68_0, sh68_1, sh68_2, sh68_3, sh68_4, ↓w_iload_3, ↓w_bipush, ↓w_iceq, ↓w_iload_2, ↓w_aload_0, ↓w_gf3, ↓w_iaload, ↓w_istore_3, ↓w_goto]
          repeat' (first
            | (apply And.intro)
            | (simp only [w_in])
            | (intro _))
          all_goals grind
  have w := key n (I 81 m) (by rcases hF m hm with h | ⟨j, hj, h⟩; exact Or.inl h; exact Or.inr ⟨j, by omega, by omega, h⟩) hQ
  refine eX12_isMadeOf (by omega) ?_
  repeat' (first
    | (apply And.intro)
    | (with_reducible refine bX12_isMadeOf_0 ?_; simp (disch := first | omega | decide) only [w_nl0, w_nli, w_nlr, ↓w_ts1, ↓w_ts0, w_rcv, w_rfv, w_cs, true_and, and_true, List.length_nil, List.length_cons, Nat.reduceAdd, Nat.reduceLeDiff, Nat.zero_le, Nat.reduceLT, ↓w_nil, ix_nI, nI_leP, nI_ltP, nI_eqP, nI_1, ↓i_inN, i_inN, l_le, l_lt, l_eq, r_le, r_lt, r_eq, sh68_0, sh68_1, sh68_2, sh68_3, sh68_4, ↓w_aload_0, ↓w_gf3, ↓w_iload_1, ↓w_iaload, ↓w_istore_3, ↓w_iload_3, ↓w_bipush, ↓w_iceq, ↓w_iload_2, ↓w_goto, ↓w_icne, ↓w_iconst, ↓w_zret])
    | (simp only [w_in])
    | (intro _))
  all_goals grind
theorem m_asOf {m c n : Nat} {y : Int32} (hd : 3 ≤ d) (hn : I 68 23 = nI n) (hn40 : n ≤ 40) (hm : m < n) (hc : I 68 30 = nI c) (hc2 : c ≤ 120) (h0 : 0 ≤ y) (h9 : y ≤ 999) (hQ : Q (some (.int (if y < I 83 m then -9 else itr (fun k a => if I 85 k = nI m ∧ I 86 k ≤ y then I 87 k else a) 0 c))) SH I J) : pm_C g d 236 [.ref 68, .int (nI m), .int y] Q SH I J := by
  have e1 := nI_rng (n := m) (N := m) (by omega) (by omega)
  have e2 := nI_lt hm (by omega)
  refine eX12_asOf (by omega) ?_
  repeat' (first
    | (apply And.intro)
    | (with_reducible refine bX12_asOf_0 ?_; simp (disch := first | omega | decide) only [w_nl0, w_nli, w_nlr, ↓w_ts1, ↓w_ts0, w_rcv, w_rfv, w_cs, true_and, and_true, List.length_nil, List.length_cons, Nat.reduceAdd, Nat.reduceLeDiff, Nat.zero_le, Nat.reduceLT, ↓w_nil, ix_nI, nI_leP, nI_ltP, nI_eqP, nI_1, ↓i_inN, i_inN, l_le, l_lt, l_eq, r_le, r_lt, r_eq, sh68_0, sh68_1, sh68_2, sh68_3, sh68_4, ↓w_aload_0, ↓w_iload_1, ↓w_iv, ↓pm_cl2_2, ↓w_ifeq, ↓w_iload_2, ↓w_is, ↓pm_cl1_1, ↓w_ifne, ↓w_iconst, ↓w_ret, ↓w_gf3, ↓w_iaload, ↓w_icge, ↓w_bipush, ↓w_istore_3, ↓w_istore_4, ↓w_iload_4, ↓w_gf0, ↓w_icne, ↓w_icgt, ↓w_goto, ↓w_iload_3, ↓w_iinc_4])
    | (with_reducible refine bX12_asOf_1 ?_; simp (disch := first | omega | decide) only [w_nl0, w_nli, w_nlr, ↓w_ts1, ↓w_ts0, w_rcv, w_rfv, w_cs, true_and, and_true, List.length_nil, List.length_cons, Nat.reduceAdd, Nat.reduceLeDiff, Nat.zero_le, Nat.reduceLT, ↓w_nil, ix_nI, nI_leP, nI_ltP, nI_eqP, nI_1, ↓i_inN, i_inN, l_le, l_lt, l_eq, r_le, r_lt, r_eq, sh68_0, sh68_1, sh68_2, sh68_3, sh68_4, ↓w_aload_0, ↓w_iload_1, ↓w_iv, ↓pm_cl2_2, ↓w_ifeq, ↓w_iload_2, ↓w_is, ↓pm_cl1_1, ↓w_ifne, ↓w_iconst, ↓w_ret, ↓w_gf3, ↓w_iaload, ↓w_icge, ↓w_bipush, ↓w_istore_3, ↓w_istore_4, ↓w_iload_4, ↓w_gf0, ↓w_icne, ↓w_icgt, ↓w_goto, ↓w_iload_3, ↓w_iinc_4])
    | (with_reducible refine bX12_asOf_2 ?_; simp (disch := first | omega | decide) only [w_nl0, w_nli, w_nlr, ↓w_ts1, ↓w_ts0, w_rcv, w_rfv, w_cs, true_and, and_true, List.length_nil, List.length_cons, Nat.reduceAdd, Nat.reduceLeDiff, Nat.zero_le, Nat.reduceLT, ↓w_nil, ix_nI, nI_leP, nI_ltP, nI_eqP, nI_1, ↓i_inN, i_inN, l_le, l_lt, l_eq, r_le, r_lt, r_eq, sh68_0, sh68_1, sh68_2, sh68_3, sh68_4, ↓w_aload_0, ↓w_iload_1, ↓w_iv, ↓pm_cl2_2, ↓w_ifeq, ↓w_iload_2, ↓w_is, ↓pm_cl1_1, ↓w_ifne, ↓w_iconst, ↓w_ret, ↓w_gf3, ↓w_iaload, ↓w_icge, ↓w_bipush, ↓w_istore_3, ↓w_istore_4, ↓w_iload_4, ↓w_gf0, ↓w_icne, ↓w_icgt, ↓w_goto, ↓w_iload_3, ↓w_iinc_4])
    | (with_reducible refine bX12_asOf_3 ?_; simp (disch := first | omega | decide) only [w_nl0, w_nli, w_nlr, ↓w_ts1, ↓w_ts0, w_rcv, w_rfv, w_cs, true_and, and_true, List.length_nil, List.length_cons, Nat.reduceAdd, Nat.reduceLeDiff, Nat.zero_le, Nat.reduceLT, ↓w_nil, ix_nI, nI_leP, nI_ltP, nI_eqP, nI_1, ↓i_inN, i_inN, l_le, l_lt, l_eq, r_le, r_lt, r_eq, sh68_0, sh68_1, sh68_2, sh68_3, sh68_4, ↓w_aload_0, ↓w_iload_1, ↓w_iv, ↓pm_cl2_2, ↓w_ifeq, ↓w_iload_2, ↓w_is, ↓pm_cl1_1, ↓w_ifne, ↓w_iconst, ↓w_ret, ↓w_gf3, ↓w_iaload, ↓w_icge, ↓w_bipush, ↓w_istore_3, ↓w_istore_4, ↓w_iload_4, ↓w_gf0, ↓w_icne, ↓w_icgt, ↓w_goto, ↓w_iload_3, ↓w_iinc_4])
    | (with_reducible refine m_isMetal (by omega) hn hn40 ?_ ; simp (disch := first | omega | decide) only [w_nl0, w_nli, w_nlr, ↓w_ts1, ↓w_ts0, w_rcv, w_rfv, w_cs, true_and, and_true, List.length_nil, List.length_cons, Nat.reduceAdd, Nat.reduceLeDiff, Nat.zero_le, Nat.reduceLT, ↓w_nil, ix_nI, nI_leP, nI_ltP, nI_eqP, nI_1, ↓i_inN, i_inN, l_le, l_lt, l_eq, r_le, r_lt, r_eq, sh68_0, sh68_1, sh68_2, sh68_3, sh68_4, ↓w_aload_0, ↓w_iload_1, ↓w_iv, ↓pm_cl2_2, ↓w_ifeq, ↓w_iload_2, ↓w_is, ↓pm_cl1_1, ↓w_ifne, ↓w_iconst, ↓w_ret, ↓w_gf3, ↓w_iaload, ↓w_icge, ↓w_bipush, ↓w_istore_3, ↓w_istore_4, ↓w_iload_4, ↓w_gf0, ↓w_icne, ↓w_icgt, ↓w_goto, ↓w_iload_3, ↓w_iinc_4])
    | (with_reducible refine m_isDay (by omega) ?_ ; simp (disch := first | omega | decide) only [w_nl0, w_nli, w_nlr, ↓w_ts1, ↓w_ts0, w_rcv, w_rfv, w_cs, true_and, and_true, List.length_nil, List.length_cons, Nat.reduceAdd, Nat.reduceLeDiff, Nat.zero_le, Nat.reduceLT, ↓w_nil, ix_nI, nI_leP, nI_ltP, nI_eqP, nI_1, ↓i_inN, i_inN, l_le, l_lt, l_eq, r_le, r_lt, r_eq, sh68_0, sh68_1, sh68_2, sh68_3, sh68_4, ↓w_aload_0, ↓w_iload_1, ↓w_iv, ↓pm_cl2_2, ↓w_ifeq, ↓w_iload_2, ↓w_is, ↓pm_cl1_1, ↓w_ifne, ↓w_iconst, ↓w_ret, ↓w_gf3, ↓w_iaload, ↓w_icge, ↓w_bipush, ↓w_istore_3, ↓w_istore_4, ↓w_iload_4, ↓w_gf0, ↓w_icne, ↓w_icgt, ↓w_goto, ↓w_iload_3, ↓w_iinc_4])
    | (simp only [w_in])
    | (intro _))
  all_goals try grind
  all_goals
    rw [if_neg (by grind)] at hQ
    refine pm_for (f := fun k a => if I 85 k = nI m ∧ I 86 k ≤ y then I 87 k else a) (U := fun k a => UU g (d - 1) 236 kX12_asOf (pm_rm d 236) Q 4 [some (.ref 68), some (.int (nI m)), some (.int y), some (.int a), some (.int (nI k))] [] SH I J (0, 0)) c (fun k b hk hb w => ?_) ?_
    · refine bX12_asOf_4 ?_
      simp (disch := first | omega | decide) only [w_nl0, w_nli, w_nlr, ↓w_ts1, ↓w_ts0, w_rcv, w_rfv, w_cs, true_and, and_true, List.length_nil, List.length_cons, Nat.reduceAdd, Nat.reduceLeDiff, Nat.zero_le, Nat.reduceLT, ↓w_nil, ix_nI, nI_leP, nI_ltP, nI_eqP, nI_1, ↓i_inN, i_inN, l_le, l_lt, l_eq, r_le, r_lt, r_eq, sh68_0, sh68_1, sh68_2, sh68_3, sh68_4, ↓w_iload_4, ↓w_aload_0, ↓w_gf0, ↓w_icge, ↓w_gf3, ↓w_iaload, ↓w_iload_1, ↓w_icne, ↓w_iload_2, ↓w_icgt, ↓w_goto, hc]
      repeat' (first
        | (apply And.intro)
        | (with_reducible refine bX12_asOf_5 ?_; simp (disch := first | omega | decide) only [w_nl0, w_nli, w_nlr, ↓w_ts1, ↓w_ts0, w_rcv, w_rfv, w_cs, true_and, and_true, List.length_nil, List.length_cons, Nat.reduceAdd, Nat.reduceLeDiff, Nat.zero_le, Nat.reduceLT, ↓w_nil, ix_nI, nI_leP, nI_ltP, nI_eqP, nI_1, ↓i_inN, i_inN, l_le, l_lt, l_eq, r_le, r_lt, r_eq, sh68_0, sh68_1, sh68_2, sh68_3, sh68_4, ↓w_aload_0, ↓w_iload_1, ↓w_iv, ↓pm_cl2_2, ↓w_ifeq, ↓w_iload_2, ↓w_is, ↓pm_cl1_1, ↓w_ifne, ↓w_iconst, ↓w_ret, ↓w_gf3, ↓w_iaload, ↓w_icge, ↓w_bipush, ↓w_istore_3, ↓w_istore_4, ↓w_iload_4, ↓w_gf0, ↓w_icne, ↓w_icgt, ↓w_goto, ↓w_iload_3, ↓w_iinc_4])
        | (with_reducible refine bX12_asOf_6 ?_; simp (disch := first | omega | decide) only [w_nl0, w_nli, w_nlr, ↓w_ts1, ↓w_ts0, w_rcv, w_rfv, w_cs, true_and, and_true, List.length_nil, List.length_cons, Nat.reduceAdd, Nat.reduceLeDiff, Nat.zero_le, Nat.reduceLT, ↓w_nil, ix_nI, nI_leP, nI_ltP, nI_eqP, nI_1, ↓i_inN, i_inN, l_le, l_lt, l_eq, r_le, r_lt, r_eq, sh68_0, sh68_1, sh68_2, sh68_3, sh68_4, ↓w_aload_0, ↓w_iload_1, ↓w_iv, ↓pm_cl2_2, ↓w_ifeq, ↓w_iload_2, ↓w_is, ↓pm_cl1_1, ↓w_ifne, ↓w_iconst, ↓w_ret, ↓w_gf3, ↓w_iaload, ↓w_icge, ↓w_bipush, ↓w_istore_3, ↓w_istore_4, ↓w_iload_4, ↓w_gf0, ↓w_icne, ↓w_icgt, ↓w_goto, ↓w_iload_3, ↓w_iinc_4])
        | (simp only [w_in])
        | (intro _))
      all_goals grind
    · refine bX12_asOf_4 ?_
      simp (disch := first | omega | decide) only [w_nl0, w_nli, w_nlr, ↓w_ts1, ↓w_ts0, w_rcv, w_rfv, w_cs, true_and, and_true, List.length_nil, List.length_cons, Nat.reduceAdd, Nat.reduceLeDiff, Nat.zero_le, Nat.reduceLT, ↓w_nil, ix_nI, nI_leP, nI_ltP, nI_eqP, nI_1, ↓i_inN, i_inN, l_le, l_lt, l_eq, r_le, r_lt, r_eq, sh68_0, sh68_1, sh68_2, sh68_3, sh68_4, ↓w_iload_4, ↓w_aload_0, ↓w_gf0, ↓w_icge, ↓w_gf3, ↓w_iaload, ↓w_iload_1, ↓w_icne, ↓w_iload_2, ↓w_icgt, ↓w_goto, hc]
      repeat' (first
        | (apply And.intro)
        | (with_reducible refine bX12_asOf_7 ?_; simp (disch := first | omega | decide) only [w_nl0, w_nli, w_nlr, ↓w_ts1, ↓w_ts0, w_rcv, w_rfv, w_cs, true_and, and_true, List.length_nil, List.length_cons, Nat.reduceAdd, Nat.reduceLeDiff, Nat.zero_le, Nat.reduceLT, ↓w_nil, ix_nI, nI_leP, nI_ltP, nI_eqP, nI_1, ↓i_inN, i_inN, l_le, l_lt, l_eq, r_le, r_lt, r_eq, sh68_0, sh68_1, sh68_2, sh68_3, sh68_4, ↓w_aload_0, ↓w_iload_1, ↓w_iv, ↓pm_cl2_2, ↓w_ifeq, ↓w_iload_2, ↓w_is, ↓pm_cl1_1, ↓w_ifne, ↓w_iconst, ↓w_ret, ↓w_gf3, ↓w_iaload, ↓w_icge, ↓w_bipush, ↓w_istore_3, ↓w_istore_4, ↓w_iload_4, ↓w_gf0, ↓w_icne, ↓w_icgt, ↓w_goto, ↓w_iload_3, ↓w_iinc_4])
        | (simp only [w_in])
        | (intro _))
      all_goals grind
theorem lt_fab {n : Nat} (hn : I 9 9 = nI n) (hn40 : n ≤ 40) (hF : fOk (I 12) n) : ∀ q i q', i < q → i < n → i < q' → fab I q' (nI i) = ltF (I 12) q (nI i) := by
  intro q
  induction q with
  | zero => intro i q' h; omega
  | succ q ih =>
    intro i q' h1 h2 h3
    obtain ⟨p, rfl⟩ : ∃ p, q' = p + 1 := ⟨q' - 1, by omega⟩
    have hix : (nI i).toNatClampNeg = i := ix_nI (by omega)
    simp only [fab, ltF, hix]
    rw [if_pos (hasM_nI hn h2 hn40)]
    rcases hF i h2 with h | ⟨j, hj, h⟩
    · rw [h, if_neg not_hasM, if_pos rfl]
    · rw [h, if_pos (hasM_nI hn (show j < n by omega) hn40), if_neg (n9 (by omega)), ih j p (by omega) (by omega) (by omega)]
theorem ln_dpt {n : Nat} (hn : I 9 9 = nI n) (hn40 : n ≤ 40) (hF : fOk (I 12) n) : ∀ q i q', i < q → i < n → i < q' → dpt I q' (I 12 i) = lnF (I 12) q (nI i) := by
  intro q
  induction q with
  | zero => intro i q' h; omega
  | succ q ih =>
    intro i q' h1 h2 h3
    obtain ⟨p, rfl⟩ : ∃ p, q' = p + 1 := ⟨q' - 1, by omega⟩
    have hix : (nI i).toNatClampNeg = i := ix_nI (by omega)
    simp only [dpt, lnF, hix]
    rcases hF i h2 with h | ⟨j, hj, h⟩
    · rw [h, if_neg not_hasM, if_pos rfl]
    · have hjx : (nI j).toNatClampNeg = j := ix_nI (by omega)
      rw [h, if_pos (hasM_nI hn (show j < n by omega) hn40), if_neg (n9 (by omega)), hjx, ih j p (by omega) (by omega) (by omega)]
theorem p_lead {x : Int32} (hd : 10 ≤ d) : PC g d 138 237 [.int x] := by
  intro I J h
  have hw := relw h
  obtain ⟨n1, c1, k1, s1, f1, h1, b1, w1, x1, t1, o1, ⟨C, hC, hC2⟩, N, hN, hN2, hm, hmono⟩ := h.2.2.2.2.1
  have hF : fOk (I 12) N := fun i hi => (hm i hi).2.2.1
  by_cases hx : hasM I x
  · obtain ⟨m, hmN, rfl⟩ := i_hasM hN2 hN hx
    have hix : (nI m).toNatClampNeg = m := ix_nI (by omega)
    refine eX11_lead (by omega) ?_
    repeat' (first
      | (apply And.intro)
      | (with_reducible refine bX11_lead_0 ?_; simp (disch := first | omega | decide) only [w_nl0, w_nli, w_nlr, ↓w_ts1, ↓w_ts0, w_rcv, w_rfv, w_cs, true_and, and_true, List.length_nil, List.length_cons, Nat.reduceAdd, Nat.reduceLeDiff, Nat.zero_le, Nat.reduceLT, ↓w_nil, ix_nI, nI_leP, nI_ltP, nI_eqP, nI_1, ↓i_inN, i_inN, l_le, l_lt, l_eq, r_le, r_lt, r_eq, sh0, sh1, sh55, sh60, sh9, sh31, sh23, sh37, sh42, sh43, sh19, sh3, sh6, ↓w_aload_0, ↓w_gf3, ↓w_iload_1, ↓w_iv, ↓pm_cl2_2, ↓w_ifne, ↓w_iconst, ↓w_ret, ↓w_pop, pm_up_o])
      | (with_reducible refine bX11_lead_1 ?_; simp (disch := first | omega | decide) only [w_nl0, w_nli, w_nlr, ↓w_ts1, ↓w_ts0, w_rcv, w_rfv, w_cs, true_and, and_true, List.length_nil, List.length_cons, Nat.reduceAdd, Nat.reduceLeDiff, Nat.zero_le, Nat.reduceLT, ↓w_nil, ix_nI, nI_leP, nI_ltP, nI_eqP, nI_1, ↓i_inN, i_inN, l_le, l_lt, l_eq, r_le, r_lt, r_eq, sh0, sh1, sh55, sh60, sh9, sh31, sh23, sh37, sh42, sh43, sh19, sh3, sh6, ↓w_aload_0, ↓w_gf3, ↓w_iload_1, ↓w_iv, ↓pm_cl2_2, ↓w_ifne, ↓w_iconst, ↓w_ret, ↓w_pop, pm_up_o])
      | (with_reducible refine c_M_has (by omega) ?_ ; simp (disch := first | omega | decide) only [w_nl0, w_nli, w_nlr, ↓w_ts1, ↓w_ts0, w_rcv, w_rfv, w_cs, true_and, and_true, List.length_nil, List.length_cons, Nat.reduceAdd, Nat.reduceLeDiff, Nat.zero_le, Nat.reduceLT, ↓w_nil, ix_nI, nI_leP, nI_ltP, nI_eqP, nI_1, ↓i_inN, i_inN, l_le, l_lt, l_eq, r_le, r_lt, r_eq, sh0, sh1, sh55, sh60, sh9, sh31, sh23, sh37, sh42, sh43, sh19, sh3, sh6, ↓w_aload_0, ↓w_gf3, ↓w_iload_1, ↓w_iv, ↓pm_cl2_2, ↓w_ifne, ↓w_iconst, ↓w_ret, ↓w_pop, pm_up_o])
      | (with_reducible refine c_firstAbove (by omega) ?_ ; simp (disch := first | omega | decide) only [w_nl0, w_nli, w_nlr, ↓w_ts1, ↓w_ts0, w_rcv, w_rfv, w_cs, true_and, and_true, List.length_nil, List.length_cons, Nat.reduceAdd, Nat.reduceLeDiff, Nat.zero_le, Nat.reduceLT, ↓w_nil, ix_nI, nI_leP, nI_ltP, nI_eqP, nI_1, ↓i_inN, i_inN, l_le, l_lt, l_eq, r_le, r_lt, r_eq, sh0, sh1, sh55, sh60, sh9, sh31, sh23, sh37, sh42, sh43, sh19, sh3, sh6, ↓w_aload_0, ↓w_gf3, ↓w_iload_1, ↓w_iv, ↓pm_cl2_2, ↓w_ifne, ↓w_iconst, ↓w_ret, ↓w_pop, pm_up_o])
      | (with_reducible refine c_asks (by omega) ?_ ; simp (disch := first | omega | decide) only [w_nl0, w_nli, w_nlr, ↓w_ts1, ↓w_ts0, w_rcv, w_rfv, w_cs, true_and, and_true, List.length_nil, List.length_cons, Nat.reduceAdd, Nat.reduceLeDiff, Nat.zero_le, Nat.reduceLT, ↓w_nil, ix_nI, nI_leP, nI_ltP, nI_eqP, nI_1, ↓i_inN, i_inN, l_le, l_lt, l_eq, r_le, r_lt, r_eq, sh0, sh1, sh55, sh60, sh9, sh31, sh23, sh37, sh42, sh43, sh19, sh3, sh6, ↓w_aload_0, ↓w_gf3, ↓w_iload_1, ↓w_iv, ↓pm_cl2_2, ↓w_ifne, ↓w_iconst, ↓w_ret, ↓w_pop, pm_up_o])
      | (with_reducible refine c_depth (by omega) ?_ ; simp (disch := first | omega | decide) only [w_nl0, w_nli, w_nlr, ↓w_ts1, ↓w_ts0, w_rcv, w_rfv, w_cs, true_and, and_true, List.length_nil, List.length_cons, Nat.reduceAdd, Nat.reduceLeDiff, Nat.zero_le, Nat.reduceLT, ↓w_nil, ix_nI, nI_leP, nI_ltP, nI_eqP, nI_1, ↓i_inN, i_inN, l_le, l_lt, l_eq, r_le, r_lt, r_eq, sh0, sh1, sh55, sh60, sh9, sh31, sh23, sh37, sh42, sh43, sh19, sh3, sh6, ↓w_aload_0, ↓w_gf3, ↓w_iload_1, ↓w_iv, ↓pm_cl2_2, ↓w_ifne, ↓w_iconst, ↓w_ret, ↓w_pop, pm_up_o])
      | (simp only [w_in])
      | (intro _))
    all_goals try rfl
    all_goals try grind
    all_goals
      refine MC.of ?_
      refine m_lead (n := N) (by omega) (by rw [pm_up_o (by decide), n1, hN2]) hN hmN (by rw [pm_up_o (by decide), f1]; exact hF) ?_
      have q1 : dpt (pm_up I 1 2 (fab I 40 (nI m))) 40 (I 12 m) = dpt I 40 (I 12 m) := by
        have e1 : (pm_up I 1 2 (fab I 40 (nI m))) 12 = I 12 := pm_up_o (by decide)
        have q2 := ln_dpt (I := pm_up I 1 2 (fab I 40 (nI m))) (n := N) (by rw [pm_up_o (by decide), hN2]) hN (by rw [e1]; exact hF) N m 40 hmN hmN (by omega)
        have q3 := ln_dpt (I := I) hN2 hN hF N m 40 hmN hmN (by omega)
        rw [e1] at q2
        rw [q2, q3]
      have q3 := ln_dpt (I := I) hN2 hN hF N m 40 hmN hmN (by omega)
      have q4 := lt_fab (I := I) hN2 hN hF N m 40 hmN hmN (by omega)
      have hM' : hasM (pm_up I 1 2 (fab I 40 (nI m))) (nI m) := hasM_nI (n := N) (by rw [pm_up_o (by decide), hN2]) hmN hN
      simp (disch := decide) only [pm_up_o, f1, hix]
      refine ⟨rfl, ?_, ?_⟩
      · rw [if_pos hM', q1, q3]
      · rw [← q4]; exact relw_asks hw
  · have hx' : ¬ (0 ≤ x ∧ x < nI N) := by
      intro hc
      obtain ⟨q, hq, rfl⟩ := i_q (n := N) (by omega) hc.1 hc.2
      exact hx (hasM_nI hN2 hq hN)
    refine eX11_lead (by omega) ?_
    repeat' (first
      | (apply And.intro)
      | (with_reducible refine bX11_lead_0 ?_; simp (disch := first | omega | decide) only [w_nl0, w_nli, w_nlr, ↓w_ts1, ↓w_ts0, w_rcv, w_rfv, w_cs, true_and, and_true, List.length_nil, List.length_cons, Nat.reduceAdd, Nat.reduceLeDiff, Nat.zero_le, Nat.reduceLT, ↓w_nil, ix_nI, nI_leP, nI_ltP, nI_eqP, nI_1, ↓i_inN, i_inN, l_le, l_lt, l_eq, r_le, r_lt, r_eq, sh0, sh1, sh55, sh60, sh9, sh31, sh23, sh37, sh42, sh43, sh19, sh3, sh6, ↓w_aload_0, ↓w_gf3, ↓w_iload_1, ↓w_iv, ↓pm_cl2_2, ↓w_ifne, ↓w_iconst, ↓w_ret, ↓w_pop])
      | (with_reducible refine bX11_lead_1 ?_; simp (disch := first | omega | decide) only [w_nl0, w_nli, w_nlr, ↓w_ts1, ↓w_ts0, w_rcv, w_rfv, w_cs, true_and, and_true, List.length_nil, List.length_cons, Nat.reduceAdd, Nat.reduceLeDiff, Nat.zero_le, Nat.reduceLT, ↓w_nil, ix_nI, nI_leP, nI_ltP, nI_eqP, nI_1, ↓i_inN, i_inN, l_le, l_lt, l_eq, r_le, r_lt, r_eq, sh0, sh1, sh55, sh60, sh9, sh31, sh23, sh37, sh42, sh43, sh19, sh3, sh6, ↓w_aload_0, ↓w_gf3, ↓w_iload_1, ↓w_iv, ↓pm_cl2_2, ↓w_ifne, ↓w_iconst, ↓w_ret, ↓w_pop])
      | (with_reducible refine c_M_has (by omega) ?_ ; simp (disch := first | omega | decide) only [w_nl0, w_nli, w_nlr, ↓w_ts1, ↓w_ts0, w_rcv, w_rfv, w_cs, true_and, and_true, List.length_nil, List.length_cons, Nat.reduceAdd, Nat.reduceLeDiff, Nat.zero_le, Nat.reduceLT, ↓w_nil, ix_nI, nI_leP, nI_ltP, nI_eqP, nI_1, ↓i_inN, i_inN, l_le, l_lt, l_eq, r_le, r_lt, r_eq, sh0, sh1, sh55, sh60, sh9, sh31, sh23, sh37, sh42, sh43, sh19, sh3, sh6, ↓w_aload_0, ↓w_gf3, ↓w_iload_1, ↓w_iv, ↓pm_cl2_2, ↓w_ifne, ↓w_iconst, ↓w_ret, ↓w_pop])
      | (simp only [w_in])
      | (intro _))
    all_goals try rfl
    all_goals try grind
    all_goals try refine MC.of (eX12_lead (by omega) ?_)
    all_goals
      repeat' (first
        | (apply And.intro)
        | (with_reducible refine bX12_lead_0 ?_; simp (disch := first | omega | decide) only [w_nl0, w_nli, w_nlr, ↓w_ts1, ↓w_ts0, w_rcv, w_rfv, w_cs, true_and, and_true, List.length_nil, List.length_cons, Nat.reduceAdd, Nat.reduceLeDiff, Nat.zero_le, Nat.reduceLT, ↓w_nil, ix_nI, nI_leP, nI_ltP, nI_eqP, nI_1, ↓i_inN, i_inN, l_le, l_lt, l_eq, r_le, r_lt, r_eq, sh68_0, sh68_1, sh68_2, sh68_3, sh68_4, ↓w_aload_0, ↓w_iload_1, ↓w_iv, ↓pm_cl2_2, ↓w_ifne, ↓w_iconst, ↓w_ret, ↓w_istore_2, ↓w_istore_3, ↓w_gf3, ↓w_iload_3, ↓w_iaload, ↓w_bipush, ↓w_iceq, ↓w_iinc_2, ↓w_goto, ↓w_iload_2, ↓pm_cl2_3])
        | (with_reducible refine m_isMetal (n := N) (by omega) (by rw [n1, hN2]) hN ?_ ; simp (disch := first | omega | decide) only [w_nl0, w_nli, w_nlr, ↓w_ts1, ↓w_ts0, w_rcv, w_rfv, w_cs, true_and, and_true, List.length_nil, List.length_cons, Nat.reduceAdd, Nat.reduceLeDiff, Nat.zero_le, Nat.reduceLT, ↓w_nil, ix_nI, nI_leP, nI_ltP, nI_eqP, nI_1, ↓i_inN, i_inN, l_le, l_lt, l_eq, r_le, r_lt, r_eq, sh68_0, sh68_1, sh68_2, sh68_3, sh68_4, ↓w_aload_0, ↓w_iload_1, ↓w_iv, ↓pm_cl2_2, ↓w_ifne, ↓w_iconst, ↓w_ret, ↓w_istore_2, ↓w_istore_3, ↓w_gf3, ↓w_iload_3, ↓w_iaload, ↓w_bipush, ↓w_iceq, ↓w_iinc_2, ↓w_goto, ↓w_iload_2, ↓pm_cl2_3])
        | (simp only [w_in])
        | (intro _))
    all_goals first | rfl | exact hw | exact relw_found hw | exact relw_asks hw | grind
end C44
