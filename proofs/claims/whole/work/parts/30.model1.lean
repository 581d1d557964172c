section C30
variable {g : pm_G} {d : Nat} {Q : pm_Po} {S : pm_SS} {I : pm_MI} {J : pm_ML}
theorem nI_24m (a : Nat) : 24 * nI a = nI (24 * a) := by rw [← pk_mul]; rfl
theorem nI_48m (a : Nat) : 48 * nI a = nI (48 * a) := by rw [← pk_mul]; rfl
theorem nI_rng {n N : Nat} (h : n ≤ N) (hN : N < 1000000) : (0 : Int32) ≤ nI n ∧ nI n ≤ nI N := ⟨nI_pos' (by omega), nI_le h (by omega)⟩
theorem m_in {v lo hi : Int32} (hd : 1 ≤ d) (hQ : Q (some (.int (if lo ≤ v ∧ v ≤ hi then 1 else 0))) S I J) : pm_C g d 188 [.int v, .int lo, .int hi] Q S I J := by
  refine eX12_in (by omega) ?_
  repeat' (first
    | (apply And.intro)
    | (with_reducible refine bX12_in_0 ?_; simp (disch := first | omega | decide) only [w_nl0, w_nli, w_nlr, ↓w_ts1, ↓w_ts0, w_rcv, w_rfv, w_cs, true_and, and_true, List.length_nil, List.length_cons, Nat.reduceAdd, Nat.reduceLeDiff, Nat.zero_le, Nat.reduceLT, ↓w_nil, ix_nI, nI_leP, nI_ltP, nI_eqP, nI_1, ↓i_inN, i_inN, l_le, l_lt, l_eq, r_le, r_lt, r_eq, sh68_0, sh68_1, sh68_2, sh68_3, sh68_4, ↓w_iload_0, ↓w_iload_1, ↓w_iclt, ↓w_iload_2, ↓w_icgt, ↓w_iconst, ↓w_goto, ↓w_zret])
    | (with_reducible refine bX12_in_1 ?_; simp (disch := first | omega | decide) only [w_nl0, w_nli, w_nlr, ↓w_ts1, ↓w_ts0, w_rcv, w_rfv, w_cs, true_and, and_true, List.length_nil, List.length_cons, Nat.reduceAdd, Nat.reduceLeDiff, Nat.zero_le, Nat.reduceLT, ↓w_nil, ix_nI, nI_leP, nI_ltP, nI_eqP, nI_1, ↓i_inN, i_inN, l_le, l_lt, l_eq, r_le, r_lt, r_eq, sh68_0, sh68_1, sh68_2, sh68_3, sh68_4, ↓w_iload_0, ↓w_iload_1, ↓w_iclt, ↓w_iload_2, ↓w_icgt, ↓w_iconst, ↓w_goto, ↓w_zret])
    | (with_reducible refine bX12_in_2 ?_; simp (disch := first | omega | decide) only [w_nl0, w_nli, w_nlr, ↓w_ts1, ↓w_ts0, w_rcv, w_rfv, w_cs, true_and, and_true, List.length_nil, List.length_cons, Nat.reduceAdd, Nat.reduceLeDiff, Nat.zero_le, Nat.reduceLT, ↓w_nil, ix_nI, nI_leP, nI_ltP, nI_eqP, nI_1, ↓i_inN, i_inN, l_le, l_lt, l_eq, r_le, r_lt, r_eq, sh68_0, sh68_1, sh68_2, sh68_3, sh68_4, ↓w_iload_0, ↓w_iload_1, ↓w_iclt, ↓w_iload_2, ↓w_icgt, ↓w_iconst, ↓w_goto, ↓w_zret])
    | (simp only [w_in])
    | (intro _))
  all_goals grind
theorem m_isRow {v : Int32} (hd : 2 ≤ d) (hQ : Q (some (.int (if 0 ≤ v ∧ v ≤ 5 then 1 else 0))) S I J) : pm_C g d 197 [.int v] Q S I J := by
  refine eX12_isRow (by omega) ?_
  repeat' (first
    | (apply And.intro)
    | (with_reducible refine bX12_isRow_0 ?_; simp (disch := first | omega | decide) only [w_nl0, w_nli, w_nlr, ↓w_ts1, ↓w_ts0, w_rcv, w_rfv, w_cs, true_and, and_true, List.length_nil, List.length_cons, Nat.reduceAdd, Nat.reduceLeDiff, Nat.zero_le, Nat.reduceLT, ↓w_nil, ix_nI, nI_leP, nI_ltP, nI_eqP, nI_1, ↓i_inN, i_inN, l_le, l_lt, l_eq, r_le, r_lt, r_eq, sh68_0, sh68_1, sh68_2, sh68_3, sh68_4, ↓w_iload_0, ↓w_iconst, ↓w_is, ↓pm_cl1_3, ↓w_zret])
    | (with_reducible refine m_in (by omega) ?_; simp (disch := first | omega | decide) only [w_nl0, w_nli, w_nlr, ↓w_ts1, ↓w_ts0, w_rcv, w_rfv, w_cs, true_and, and_true, List.length_nil, List.length_cons, Nat.reduceAdd, Nat.reduceLeDiff, Nat.zero_le, Nat.reduceLT, ↓w_nil, ix_nI, nI_leP, nI_ltP, nI_eqP, nI_1, ↓i_inN, i_inN, l_le, l_lt, l_eq, r_le, r_lt, r_eq, sh68_0, sh68_1, sh68_2, sh68_3, sh68_4, ↓w_iload_0, ↓w_iconst, ↓w_is, ↓pm_cl1_3, ↓w_zret])
    | (simp only [w_in])
    | (intro _))
  all_goals grind
theorem m_isText {v : Int32} (hd : 2 ≤ d) (hQ : Q (some (.int (if 0 ≤ v ∧ v ≤ 3 then 1 else 0))) S I J) : pm_C g d 203 [.int v] Q S I J := by
  refine eX12_isText (by omega) ?_
  repeat' (first
    | (apply And.intro)
    | (with_reducible refine bX12_isText_0 ?_; simp (disch := first | omega | decide) only [w_nl0, w_nli, w_nlr, ↓w_ts1, ↓w_ts0, w_rcv, w_rfv, w_cs, true_and, and_true, List.length_nil, List.length_cons, Nat.reduceAdd, Nat.reduceLeDiff, Nat.zero_le, Nat.reduceLT, ↓w_nil, ix_nI, nI_leP, nI_ltP, nI_eqP, nI_1, ↓i_inN, i_inN, l_le, l_lt, l_eq, r_le, r_lt, r_eq, sh68_0, sh68_1, sh68_2, sh68_3, sh68_4, ↓w_iload_0, ↓w_iconst, ↓w_is, ↓pm_cl1_3, ↓w_zret])
    | (with_reducible refine m_in (by omega) ?_; simp (disch := first | omega | decide) only [w_nl0, w_nli, w_nlr, ↓w_ts1, ↓w_ts0, w_rcv, w_rfv, w_cs, true_and, and_true, List.length_nil, List.length_cons, Nat.reduceAdd, Nat.reduceLeDiff, Nat.zero_le, Nat.reduceLT, ↓w_nil, ix_nI, nI_leP, nI_ltP, nI_eqP, nI_1, ↓i_inN, i_inN, l_le, l_lt, l_eq, r_le, r_lt, r_eq, sh68_0, sh68_1, sh68_2, sh68_3, sh68_4, ↓w_iload_0, ↓w_iconst, ↓w_is, ↓pm_cl1_3, ↓w_zret])
    | (simp only [w_in])
    | (intro _))
  all_goals grind
theorem m_isDay {v : Int32} (hd : 2 ≤ d) (hQ : Q (some (.int (if 0 ≤ v ∧ v ≤ 999 then 1 else 0))) S I J) : pm_C g d 213 [.int v] Q S I J := by
  refine eX12_isDay (by omega) ?_
  repeat' (first
    | (apply And.intro)
    | (with_reducible refine bX12_isDay_0 ?_; simp (disch := first | omega | decide) only [w_nl0, w_nli, w_nlr, ↓w_ts1, ↓w_ts0, w_rcv, w_rfv, w_cs, true_and, and_true, List.length_nil, List.length_cons, Nat.reduceAdd, Nat.reduceLeDiff, Nat.zero_le, Nat.reduceLT, ↓w_nil, ix_nI, nI_leP, nI_ltP, nI_eqP, nI_1, ↓i_inN, i_inN, l_le, l_lt, l_eq, r_le, r_lt, r_eq, sh68_0, sh68_1, sh68_2, sh68_3, sh68_4, ↓w_iload_0, ↓w_iconst, ↓w_sipush, ↓w_is, ↓pm_cl1_3, ↓w_zret])
    | (with_reducible refine m_in (by omega) ?_; simp (disch := first | omega | decide) only [w_nl0, w_nli, w_nlr, ↓w_ts1, ↓w_ts0, w_rcv, w_rfv, w_cs, true_and, and_true, List.length_nil, List.length_cons, Nat.reduceAdd, Nat.reduceLeDiff, Nat.zero_le, Nat.reduceLT, ↓w_nil, ix_nI, nI_leP, nI_ltP, nI_eqP, nI_1, ↓i_inN, i_inN, l_le, l_lt, l_eq, r_le, r_lt, r_eq, sh68_0, sh68_1, sh68_2, sh68_3, sh68_4, ↓w_iload_0, ↓w_iconst, ↓w_sipush, ↓w_is, ↓pm_cl1_3, ↓w_zret])
    | (simp only [w_in])
    | (intro _))
  all_goals grind
theorem m_isHand {v : Int32} (hd : 2 ≤ d) (hQ : Q (some (.int (if 0 ≤ v ∧ v ≤ 9 then 1 else 0))) S I J) : pm_C g d 223 [.int v] Q S I J := by
  refine eX12_isHand (by omega) ?_
  repeat' (first
    | (apply And.intro)
    | (with_reducible refine bX12_isHand_0 ?_; simp (disch := first | omega | decide) only [w_nl0, w_nli, w_nlr, ↓w_ts1, ↓w_ts0, w_rcv, w_rfv, w_cs, true_and, and_true, List.length_nil, List.length_cons, Nat.reduceAdd, Nat.reduceLeDiff, Nat.zero_le, Nat.reduceLT, ↓w_nil, ix_nI, nI_leP, nI_ltP, nI_eqP, nI_1, ↓i_inN, i_inN, l_le, l_lt, l_eq, r_le, r_lt, r_eq, sh68_0, sh68_1, sh68_2, sh68_3, sh68_4, ↓w_iload_0, ↓w_iconst, ↓w_bipush, ↓w_is, ↓pm_cl1_3, ↓w_zret])
    | (with_reducible refine m_in (by omega) ?_; simp (disch := first | omega | decide) only [w_nl0, w_nli, w_nlr, ↓w_ts1, ↓w_ts0, w_rcv, w_rfv, w_cs, true_and, and_true, List.length_nil, List.length_cons, Nat.reduceAdd, Nat.reduceLeDiff, Nat.zero_le, Nat.reduceLT, ↓w_nil, ix_nI, nI_leP, nI_ltP, nI_eqP, nI_1, ↓i_inN, i_inN, l_le, l_lt, l_eq, r_le, r_lt, r_eq, sh68_0, sh68_1, sh68_2, sh68_3, sh68_4, ↓w_iload_0, ↓w_iconst, ↓w_bipush, ↓w_is, ↓pm_cl1_3, ↓w_zret])
    | (simp only [w_in])
    | (intro _))
  all_goals grind
theorem m_isSide {v : Int32} (hd : 2 ≤ d) (hQ : Q (some (.int (if 0 ≤ v ∧ v ≤ 19 then 1 else 0))) S I J) : pm_C g d 224 [.int v] Q S I J := by
  refine eX12_isSide (by omega) ?_
  repeat' (first
    | (apply And.intro)
    | (with_reducible refine bX12_isSide_0 ?_; simp (disch := first | omega | decide) only [w_nl0, w_nli, w_nlr, ↓w_ts1, ↓w_ts0, w_rcv, w_rfv, w_cs, true_and, and_true, List.length_nil, List.length_cons, Nat.reduceAdd, Nat.reduceLeDiff, Nat.zero_le, Nat.reduceLT, ↓w_nil, ix_nI, nI_leP, nI_ltP, nI_eqP, nI_1, ↓i_inN, i_inN, l_le, l_lt, l_eq, r_le, r_lt, r_eq, sh68_0, sh68_1, sh68_2, sh68_3, sh68_4, ↓w_iload_0, ↓w_iconst, ↓w_bipush, ↓w_is, ↓pm_cl1_3, ↓w_zret])
    | (with_reducible refine m_in (by omega) ?_; simp (disch := first | omega | decide) only [w_nl0, w_nli, w_nlr, ↓w_ts1, ↓w_ts0, w_rcv, w_rfv, w_cs, true_and, and_true, List.length_nil, List.length_cons, Nat.reduceAdd, Nat.reduceLeDiff, Nat.zero_le, Nat.reduceLT, ↓w_nil, ix_nI, nI_leP, nI_ltP, nI_eqP, nI_1, ↓i_inN, i_inN, l_le, l_lt, l_eq, r_le, r_lt, r_eq, sh68_0, sh68_1, sh68_2, sh68_3, sh68_4, ↓w_iload_0, ↓w_iconst, ↓w_bipush, ↓w_is, ↓pm_cl1_3, ↓w_zret])
    | (simp only [w_in])
    | (intro _))
  all_goals grind
theorem m_isPress {v : Int32} (hd : 2 ≤ d) (hQ : Q (some (.int (if 0 ≤ v ∧ v ≤ 5 then 1 else 0))) S I J) : pm_C g d 238 [.int v] Q S I J := by
  refine eX12_isPress (by omega) ?_
  repeat' (first
    | (apply And.intro)
    | (with_reducible refine bX12_isPress_0 ?_; simp (disch := first | omega | decide) only [w_nl0, w_nli, w_nlr, ↓w_ts1, ↓w_ts0, w_rcv, w_rfv, w_cs, true_and, and_true, List.length_nil, List.length_cons, Nat.reduceAdd, Nat.reduceLeDiff, Nat.zero_le, Nat.reduceLT, ↓w_nil, ix_nI, nI_leP, nI_ltP, nI_eqP, nI_1, ↓i_inN, i_inN, l_le, l_lt, l_eq, r_le, r_lt, r_eq, sh68_0, sh68_1, sh68_2, sh68_3, sh68_4, ↓w_iload_0, ↓w_iconst, ↓w_is, ↓pm_cl1_3, ↓w_zret])
    | (with_reducible refine m_in (by omega) ?_; simp (disch := first | omega | decide) only [w_nl0, w_nli, w_nlr, ↓w_ts1, ↓w_ts0, w_rcv, w_rfv, w_cs, true_and, and_true, List.length_nil, List.length_cons, Nat.reduceAdd, Nat.reduceLeDiff, Nat.zero_le, Nat.reduceLT, ↓w_nil, ix_nI, nI_leP, nI_ltP, nI_eqP, nI_1, ↓i_inN, i_inN, l_le, l_lt, l_eq, r_le, r_lt, r_eq, sh68_0, sh68_1, sh68_2, sh68_3, sh68_4, ↓w_iload_0, ↓w_iconst, ↓w_is, ↓pm_cl1_3, ↓w_zret])
    | (simp only [w_in])
    | (intro _))
  all_goals grind
theorem m_isFace {v : Int32} (hd : 2 ≤ d) (hQ : Q (some (.int (if 0 ≤ v ∧ v ≤ 1 then 1 else 0))) S I J) : pm_C g d 242 [.int v] Q S I J := by
  refine eX12_isFace (by omega) ?_
  repeat' (first
    | (apply And.intro)
    | (with_reducible refine bX12_isFace_0 ?_; simp (disch := first | omega | decide) only [w_nl0, w_nli, w_nlr, ↓w_ts1, ↓w_ts0, w_rcv, w_rfv, w_cs, true_and, and_true, List.length_nil, List.length_cons, Nat.reduceAdd, Nat.reduceLeDiff, Nat.zero_le, Nat.reduceLT, ↓w_nil, ix_nI, nI_leP, nI_ltP, nI_eqP, nI_1, ↓i_inN, i_inN, l_le, l_lt, l_eq, r_le, r_lt, r_eq, sh68_0, sh68_1, sh68_2, sh68_3, sh68_4, ↓w_iload_0, ↓w_iconst, ↓w_is, ↓pm_cl1_3, ↓w_zret])
    | (with_reducible refine m_in (by omega) ?_; simp (disch := first | omega | decide) only [w_nl0, w_nli, w_nlr, ↓w_ts1, ↓w_ts0, w_rcv, w_rfv, w_cs, true_and, and_true, List.length_nil, List.length_cons, Nat.reduceAdd, Nat.reduceLeDiff, Nat.zero_le, Nat.reduceLT, ↓w_nil, ix_nI, nI_leP, nI_ltP, nI_eqP, nI_1, ↓i_inN, i_inN, l_le, l_lt, l_eq, r_le, r_lt, r_eq, sh68_0, sh68_1, sh68_2, sh68_3, sh68_4, ↓w_iload_0, ↓w_iconst, ↓w_is, ↓pm_cl1_3, ↓w_zret])
    | (simp only [w_in])
    | (intro _))
  all_goals grind
theorem m_isMisses {v : Int32} (hd : 2 ≤ d) (hQ : Q (some (.int (if 0 ≤ v ∧ v ≤ 60 then 1 else 0))) S I J) : pm_C g d 260 [.int v] Q S I J := by
  refine eX12_isMisses (by omega) ?_
  repeat' (first
    | (apply And.intro)
    | (with_reducible refine bX12_isMisses_0 ?_; simp (disch := first | omega | decide) only [w_nl0, w_nli, w_nlr, ↓w_ts1, ↓w_ts0, w_rcv, w_rfv, w_cs, true_and, and_true, List.length_nil, List.length_cons, Nat.reduceAdd, Nat.reduceLeDiff, Nat.zero_le, Nat.reduceLT, ↓w_nil, ix_nI, nI_leP, nI_ltP, nI_eqP, nI_1, ↓i_inN, i_inN, l_le, l_lt, l_eq, r_le, r_lt, r_eq, sh68_0, sh68_1, sh68_2, sh68_3, sh68_4, ↓w_iload_0, ↓w_iconst, ↓w_bipush, ↓w_is, ↓pm_cl1_3, ↓w_zret])
    | (with_reducible refine m_in (by omega) ?_; simp (disch := first | omega | decide) only [w_nl0, w_nli, w_nlr, ↓w_ts1, ↓w_ts0, w_rcv, w_rfv, w_cs, true_and, and_true, List.length_nil, List.length_cons, Nat.reduceAdd, Nat.reduceLeDiff, Nat.zero_le, Nat.reduceLT, ↓w_nil, ix_nI, nI_leP, nI_ltP, nI_eqP, nI_1, ↓i_inN, i_inN, l_le, l_lt, l_eq, r_le, r_lt, r_eq, sh68_0, sh68_1, sh68_2, sh68_3, sh68_4, ↓w_iload_0, ↓w_iconst, ↓w_bipush, ↓w_is, ↓pm_cl1_3, ↓w_zret])
    | (simp only [w_in])
    | (intro _))
  all_goals grind
theorem m_isLand {v : Int32} (hd : 2 ≤ d) (hQ : Q (some (.int (if 0 ≤ v ∧ v ≤ 7 then 1 else 0))) S I J) : pm_C g d 269 [.int v] Q S I J := by
  refine eX12_isLand (by omega) ?_
  repeat' (first
    | (apply And.intro)
    | (with_reducible refine bX12_isLand_0 ?_; simp (disch := first | omega | decide) only [w_nl0, w_nli, w_nlr, ↓w_ts1, ↓w_ts0, w_rcv, w_rfv, w_cs, true_and, and_true, List.length_nil, List.length_cons, Nat.reduceAdd, Nat.reduceLeDiff, Nat.zero_le, Nat.reduceLT, ↓w_nil, ix_nI, nI_leP, nI_ltP, nI_eqP, nI_1, ↓i_inN, i_inN, l_le, l_lt, l_eq, r_le, r_lt, r_eq, sh68_0, sh68_1, sh68_2, sh68_3, sh68_4, ↓w_iload_0, ↓w_iconst, ↓w_bipush, ↓w_is, ↓pm_cl1_3, ↓w_zret])
    | (with_reducible refine m_in (by omega) ?_; simp (disch := first | omega | decide) only [w_nl0, w_nli, w_nlr, ↓w_ts1, ↓w_ts0, w_rcv, w_rfv, w_cs, true_and, and_true, List.length_nil, List.length_cons, Nat.reduceAdd, Nat.reduceLeDiff, Nat.zero_le, Nat.reduceLT, ↓w_nil, ix_nI, nI_leP, nI_ltP, nI_eqP, nI_1, ↓i_inN, i_inN, l_le, l_lt, l_eq, r_le, r_lt, r_eq, sh68_0, sh68_1, sh68_2, sh68_3, sh68_4, ↓w_iload_0, ↓w_iconst, ↓w_bipush, ↓w_is, ↓pm_cl1_3, ↓w_zret])
    | (simp only [w_in])
    | (intro _))
  all_goals grind
theorem m_isMetal {v : Int32} {n : Nat} (hd : 2 ≤ d) (hn : I 68 23 = nI n) (hn2 : n ≤ 40) (hQ : Q (some (.int (if 0 ≤ v ∧ v < nI n then 1 else 0))) SH I J) : pm_C g d 222 [.ref 68, .int v] Q SH I J := by
  have h1 := nI_rng hn2 (by decide)
  have h2 : nI 40 = 40 := rfl
  rw [h2] at h1
  refine eX12_isMetal (by omega) ?_
  repeat' (first
    | (apply And.intro)
    | (with_reducible refine bX12_isMetal_0 ?_; simp (disch := first | omega | decide) only [w_nl0, w_nli, w_nlr, ↓w_ts1, ↓w_ts0, w_rcv, w_rfv, w_cs, true_and, and_true, List.length_nil, List.length_cons, Nat.reduceAdd, Nat.reduceLeDiff, Nat.zero_le, Nat.reduceLT, ↓w_nil, ix_nI, nI_leP, nI_ltP, nI_eqP, nI_1, ↓i_inN, i_inN, l_le, l_lt, l_eq, r_le, r_lt, r_eq, sh68_0, sh68_1, sh68_2, sh68_3, sh68_4, ↓w_iload_1, ↓w_iconst, ↓w_aload_0, ↓w_gf0, ↓w_isub, ↓w_is, ↓pm_cl1_3, ↓w_zret, hn])
    | (with_reducible refine m_in (by omega) ?_; simp (disch := first | omega | decide) only [w_nl0, w_nli, w_nlr, ↓w_ts1, ↓w_ts0, w_rcv, w_rfv, w_cs, true_and, and_true, List.length_nil, List.length_cons, Nat.reduceAdd, Nat.reduceLeDiff, Nat.zero_le, Nat.reduceLT, ↓w_nil, ix_nI, nI_leP, nI_ltP, nI_eqP, nI_1, ↓i_inN, i_inN, l_le, l_lt, l_eq, r_le, r_lt, r_eq, sh68_0, sh68_1, sh68_2, sh68_3, sh68_4, ↓w_iload_1, ↓w_iconst, ↓w_aload_0, ↓w_gf0, ↓w_isub, ↓w_is, ↓pm_cl1_3, ↓w_zret, hn])
    | (simp only [w_in])
    | (intro _))
  all_goals grind
theorem m_isRun {v : Int32} {n : Nat} (hd : 2 ≤ d) (hn : I 68 38 = nI n) (hn2 : n ≤ 30) (hQ : Q (some (.int (if 0 ≤ v ∧ v < nI n then 1 else 0))) SH I J) : pm_C g d 246 [.ref 68, .int v] Q SH I J := by
  have h1 := nI_rng hn2 (by decide)
  have h2 : nI 30 = 30 := rfl
  rw [h2] at h1
  refine eX12_isRun (by omega) ?_
  repeat' (first
    | (apply And.intro)
    | (with_reducible refine bX12_isRun_0 ?_; simp (disch := first | omega | decide) only [w_nl0, w_nli, w_nlr, ↓w_ts1, ↓w_ts0, w_rcv, w_rfv, w_cs, true_and, and_true, List.length_nil, List.length_cons, Nat.reduceAdd, Nat.reduceLeDiff, Nat.zero_le, Nat.reduceLT, ↓w_nil, ix_nI, nI_leP, nI_ltP, nI_eqP, nI_1, ↓i_inN, i_inN, l_le, l_lt, l_eq, r_le, r_lt, r_eq, sh68_0, sh68_1, sh68_2, sh68_3, sh68_4, ↓w_iload_1, ↓w_iconst, ↓w_aload_0, ↓w_gf0, ↓w_isub, ↓w_is, ↓pm_cl1_3, ↓w_zret, hn])
    | (with_reducible refine m_in (by omega) ?_; simp (disch := first | omega | decide) only [w_nl0, w_nli, w_nlr, ↓w_ts1, ↓w_ts0, w_rcv, w_rfv, w_cs, true_and, and_true, List.length_nil, List.length_cons, Nat.reduceAdd, Nat.reduceLeDiff, Nat.zero_le, Nat.reduceLT, ↓w_nil, ix_nI, nI_leP, nI_ltP, nI_eqP, nI_1, ↓i_inN, i_inN, l_le, l_lt, l_eq, r_le, r_lt, r_eq, sh68_0, sh68_1, sh68_2, sh68_3, sh68_4, ↓w_iload_1, ↓w_iconst, ↓w_aload_0, ↓w_gf0, ↓w_isub, ↓w_is, ↓pm_cl1_3, ↓w_zret, hn])
    | (simp only [w_in])
    | (intro _))
  all_goals grind
theorem m_meets {x : Int32} (hd : 1 ≤ d) (h0 : 0 ≤ x) (h6 : x < 6) (hQ : Q (some (.int (-3))) SH (pm_up (pm_up I 68 0 x) 69 x.toNatClampNeg (I 69 x.toNatClampNeg + 1)) J) : pm_C g d 189 [.ref 68, .int x] Q SH I J := by
  refine eX12_meets (by omega) ?_
  repeat' (first
    | (apply And.intro)
    | (with_reducible refine bX12_meets_0 ?_; simp (disch := first | omega | decide) only [w_nl0, w_nli, w_nlr, ↓w_ts1, ↓w_ts0, w_rcv, w_rfv, w_cs, true_and, and_true, List.length_nil, List.length_cons, Nat.reduceAdd, Nat.reduceLeDiff, Nat.zero_le, Nat.reduceLT, ↓w_nil, ix_nI, nI_leP, nI_ltP, nI_eqP, nI_1, ↓i_inN, i_inN, l_le, l_lt, l_eq, r_le, r_lt, r_eq, sh68_0, sh68_1, sh68_2, sh68_3, sh68_4, ↓w_aload_0, ↓w_iload_1, ↓w_pf0, ↓w_gf3, ↓w_dup2, ↓w_iaload, ↓w_iconst, ↓w_iadd, ↓w_iastore, ↓w_bipush, ↓w_ret, pm_up_o])
    | (simp only [w_in])
    | (intro _))
  all_goals grind
theorem m_tells {x y : Int32} (hd : 1 ≤ d) (hQ : Q (some (.int y)) SH (pm_up I 68 2 x) J) : pm_C g d 192 [.ref 68, .int x, .int y] Q SH I J := by
  refine eX12_tells (by omega) ?_
  repeat' (first
    | (apply And.intro)
    | (with_reducible refine bX12_tells_0 ?_; simp (disch := first | omega | decide) only [w_nl0, w_nli, w_nlr, ↓w_ts1, ↓w_ts0, w_rcv, w_rfv, w_cs, true_and, and_true, List.length_nil, List.length_cons, Nat.reduceAdd, Nat.reduceLeDiff, Nat.zero_le, Nat.reduceLT, ↓w_nil, ix_nI, nI_leP, nI_ltP, nI_eqP, nI_1, ↓i_inN, i_inN, l_le, l_lt, l_eq, r_le, r_lt, r_eq, sh68_0, sh68_1, sh68_2, sh68_3, sh68_4, ↓w_aload_0, ↓w_iload_1, ↓w_pf0, ↓w_iload_2, ↓w_ret])
    | (simp only [w_in])
    | (intro _))
  all_goals grind
theorem m_at {r i : Nat} (hd : 1 ≤ d) (h : 24 * r + i < 144) (hQ : Q (some (.int (I 71 (24 * r + i)))) SH I J) : pm_C g d 198 [.ref 68, .int (nI r), .int (nI i)] Q SH I J := by
  refine eX12_at (by omega) ?_
  repeat' (first
    | (apply And.intro)
    | (with_reducible refine bX12_at_0 ?_; simp (disch := first | omega | decide) only [w_nl0, w_nli, w_nlr, ↓w_ts1, ↓w_ts0, w_rcv, w_rfv, w_cs, true_and, and_true, List.length_nil, List.length_cons, Nat.reduceAdd, Nat.reduceLeDiff, Nat.zero_le, Nat.reduceLT, ↓w_nil, ix_nI, nI_leP, nI_ltP, nI_eqP, nI_1, ↓i_inN, i_inN, l_le, l_lt, l_eq, r_le, r_lt, r_eq, sh68_0, sh68_1, sh68_2, sh68_3, sh68_4, ↓w_aload_0, ↓w_gf3, ↓w_bipush, ↓w_iload_1, ↓w_imul, ↓w_iload_2, ↓w_iadd, ↓w_iaload, ↓w_ret, nI_24m, nI_add])
    | (simp only [w_in])
    | (intro _))
  all_goals grind
theorem m_byteAt {t i s : Nat} (hd : 1 ≤ d) (ht : t < 4) (hs : I 73 t = nI s) (hs2 : s ≤ 48) (hi : i < 1000) (hQ : Q (some (.int (if i < s then I 74 (48 * t + i) else 0))) SH I J) : pm_C g d 207 [.ref 68, .int (nI t), .int (nI i)] Q SH I J := by
  refine eX12_byteAt (by omega) ?_
  by_cases h : i < s
  · rw [if_pos h] at hQ
    repeat' (first
      | (apply And.intro)
      | (with_reducible refine bX12_byteAt_0 ?_; simp (disch := first | omega | decide) only [w_nl0, w_nli, w_nlr, ↓w_ts1, ↓w_ts0, w_rcv, w_rfv, w_cs, true_and, and_true, List.length_nil, List.length_cons, Nat.reduceAdd, Nat.reduceLeDiff, Nat.zero_le, Nat.reduceLT, ↓w_nil, ix_nI, nI_leP, nI_ltP, nI_eqP, nI_1, ↓i_inN, i_inN, l_le, l_lt, l_eq, r_le, r_lt, r_eq, sh68_0, sh68_1, sh68_2, sh68_3, sh68_4, ↓w_iload_2, ↓w_aload_0, ↓w_gf3, ↓w_iload_1, ↓w_iaload, ↓w_icge, ↓w_bipush, ↓w_imul, ↓w_iadd, ↓w_baload, ↓w_goto, ↓w_iconst, ↓w_ret, nI_48m, nI_add, hs, Nat.reduceEqDiff, or_false, true_or])
      | (with_reducible refine bX12_byteAt_1 ?_; simp (disch := first | omega | decide) only [w_nl0, w_nli, w_nlr, ↓w_ts1, ↓w_ts0, w_rcv, w_rfv, w_cs, true_and, and_true, List.length_nil, List.length_cons, Nat.reduceAdd, Nat.reduceLeDiff, Nat.zero_le, Nat.reduceLT, ↓w_nil, ix_nI, nI_leP, nI_ltP, nI_eqP, nI_1, ↓i_inN, i_inN, l_le, l_lt, l_eq, r_le, r_lt, r_eq, sh68_0, sh68_1, sh68_2, sh68_3, sh68_4, ↓w_iload_2, ↓w_aload_0, ↓w_gf3, ↓w_iload_1, ↓w_iaload, ↓w_icge, ↓w_bipush, ↓w_imul, ↓w_iadd, ↓w_baload, ↓w_goto, ↓w_iconst, ↓w_ret, nI_48m, nI_add, hs, Nat.reduceEqDiff, or_false, true_or])
      | (with_reducible refine bX12_byteAt_2 ?_; simp (disch := first | omega | decide) only [w_nl0, w_nli, w_nlr, ↓w_ts1, ↓w_ts0, w_rcv, w_rfv, w_cs, true_and, and_true, List.length_nil, List.length_cons, Nat.reduceAdd, Nat.reduceLeDiff, Nat.zero_le, Nat.reduceLT, ↓w_nil, ix_nI, nI_leP, nI_ltP, nI_eqP, nI_1, ↓i_inN, i_inN, l_le, l_lt, l_eq, r_le, r_lt, r_eq, sh68_0, sh68_1, sh68_2, sh68_3, sh68_4, ↓w_iload_2, ↓w_aload_0, ↓w_gf3, ↓w_iload_1, ↓w_iaload, ↓w_icge, ↓w_bipush, ↓w_imul, ↓w_iadd, ↓w_baload, ↓w_goto, ↓w_iconst, ↓w_ret, nI_48m, nI_add, hs, Nat.reduceEqDiff, or_false, true_or])
      | (simp only [w_in])
      | (intro _))
    all_goals grind
  · rw [if_neg h] at hQ
    repeat' (first
      | (apply And.intro)
      | (with_reducible refine bX12_byteAt_1 ?_; simp (disch := first | omega | decide) only [w_nl0, w_nli, w_nlr, ↓w_ts1, ↓w_ts0, w_rcv, w_rfv, w_cs, true_and, and_true, List.length_nil, List.length_cons, Nat.reduceAdd, Nat.reduceLeDiff, Nat.zero_le, Nat.reduceLT, ↓w_nil, ix_nI, nI_leP, nI_ltP, nI_eqP, nI_1, ↓i_inN, i_inN, l_le, l_lt, l_eq, r_le, r_lt, r_eq, sh68_0, sh68_1, sh68_2, sh68_3, sh68_4, ↓w_iload_2, ↓w_aload_0, ↓w_gf3, ↓w_iload_1, ↓w_iaload, ↓w_icge, ↓w_bipush, ↓w_imul, ↓w_iadd, ↓w_baload, ↓w_goto, ↓w_iconst, ↓w_ret])
      | (with_reducible refine bX12_byteAt_2 ?_; simp (disch := first | omega | decide) only [w_nl0, w_nli, w_nlr, ↓w_ts1, ↓w_ts0, w_rcv, w_rfv, w_cs, true_and, and_true, List.length_nil, List.length_cons, Nat.reduceAdd, Nat.reduceLeDiff, Nat.zero_le, Nat.reduceLT, ↓w_nil, ix_nI, nI_leP, nI_ltP, nI_eqP, nI_1, ↓i_inN, i_inN, l_le, l_lt, l_eq, r_le, r_lt, r_eq, sh68_0, sh68_1, sh68_2, sh68_3, sh68_4, ↓w_iload_2, ↓w_aload_0, ↓w_gf3, ↓w_iload_1, ↓w_iaload, ↓w_icge, ↓w_bipush, ↓w_imul, ↓w_iadd, ↓w_baload, ↓w_goto, ↓w_iconst, ↓w_ret])
      | (simp only [w_in])
      | (intro _))
    refine bX12_byteAt_0 ?_
    simp (disch := first | omega | decide) only [w_nl0, w_nli, w_nlr, ↓w_ts1, ↓w_ts0, w_rcv, w_rfv, w_cs, true_and, and_true, List.length_nil, List.length_cons, Nat.reduceAdd, Nat.reduceLeDiff, Nat.zero_le, Nat.reduceLT, ↓w_nil, ix_nI, nI_leP, nI_ltP, nI_eqP, nI_1, ↓i_inN, i_inN, l_le, l_lt, l_eq, r_le, r_lt, r_eq, sh68_0, sh68_1, sh68_2, sh68_3, sh68_4, ↓w_iload_2, ↓w_aload_0, ↓w_gf3, ↓w_iload_1, ↓w_iaload, ↓w_icge, ↓w_bipush, ↓w_imul, ↓w_iadd, ↓w_baload, ↓w_goto, hs]
    refine ⟨?_, ?_, fun h => ?_⟩
    all_goals first | omega | skip
    · intro _
      repeat' (first
        | (apply And.intro)
        | (with_reducible refine bX12_byteAt_1 ?_; simp (disch := first | omega | decide) only [w_nl0, w_nli, w_nlr, ↓w_ts1, ↓w_ts0, w_rcv, w_rfv, w_cs, true_and, and_true, List.length_nil, List.length_cons, Nat.reduceAdd, Nat.reduceLeDiff, Nat.zero_le, Nat.reduceLT, ↓w_nil, ix_nI, nI_leP, nI_ltP, nI_eqP, nI_1, ↓i_inN, i_inN, l_le, l_lt, l_eq, r_le, r_lt, r_eq, sh68_0, sh68_1, sh68_2, sh68_3, sh68_4, ↓w_iload_2, ↓w_aload_0, ↓w_gf3, ↓w_iload_1, ↓w_iaload, ↓w_icge, ↓w_bipush, ↓w_imul, ↓w_iadd, ↓w_baload, ↓w_goto, ↓w_iconst, ↓w_ret])
        | (with_reducible refine bX12_byteAt_2 ?_; simp (disch := first | omega | decide) only [w_nl0, w_nli, w_nlr, ↓w_ts1, ↓w_ts0, w_rcv, w_rfv, w_cs, true_and, and_true, List.length_nil, List.length_cons, Nat.reduceAdd, Nat.reduceLeDiff, Nat.zero_le, Nat.reduceLT, ↓w_nil, ix_nI, nI_leP, nI_ltP, nI_eqP, nI_1, ↓i_inN, i_inN, l_le, l_lt, l_eq, r_le, r_lt, r_eq, sh68_0, sh68_1, sh68_2, sh68_3, sh68_4, ↓w_iload_2, ↓w_aload_0, ↓w_gf3, ↓w_iload_1, ↓w_iaload, ↓w_icge, ↓w_bipush, ↓w_imul, ↓w_iadd, ↓w_baload, ↓w_goto, ↓w_iconst, ↓w_ret])
        | (simp only [w_in])
        | (intro _))
      all_goals grind
theorem m_isFigure {t i s : Nat} {m : Int32} (hd : 2 ≤ d) (ht : t < 4) (hs : I 73 t = nI s) (hs2 : s ≤ 48) (hi : i < 1000) (hQ : Q (some (.int (if 48 ≤ (if i < s then I 74 (48 * t + i) else 0) ∧ (if i < s then I 74 (48 * t + i) else 0) ≤ 48 + m then 1 else 0))) SH I J) : pm_C g d 208 [.ref 68, .int (nI t), .int (nI i), .int m] Q SH I J := by
  refine eX12_isFigure (by omega) ?_
  repeat' (first
    | (apply And.intro)
    | (with_reducible refine bX12_isFigure_0 ?_; simp (disch := first | omega | decide) only [w_nl0, w_nli, w_nlr, ↓w_ts1, ↓w_ts0, w_rcv, w_rfv, w_cs, true_and, and_true, List.length_nil, List.length_cons, Nat.reduceAdd, Nat.reduceLeDiff, Nat.zero_le, Nat.reduceLT, ↓w_nil, ix_nI, nI_leP, nI_ltP, nI_eqP, nI_1, ↓i_inN, i_inN, l_le, l_lt, l_eq, r_le, r_lt, r_eq, sh68_0, sh68_1, sh68_2, sh68_3, sh68_4, ↓w_aload_0, ↓w_iload_1, ↓w_iload_2, ↓w_iv, ↓pm_cl2_3, ↓w_bipush, ↓w_iload_3, ↓w_iadd, ↓w_is, ↓pm_cl1_3, ↓w_zret])
    | (with_reducible refine m_byteAt (by omega) ht hs hs2 hi ?_; simp (disch := first | omega | decide) only [w_nl0, w_nli, w_nlr, ↓w_ts1, ↓w_ts0, w_rcv, w_rfv, w_cs, true_and, and_true, List.length_nil, List.length_cons, Nat.reduceAdd, Nat.reduceLeDiff, Nat.zero_le, Nat.reduceLT, ↓w_nil, ix_nI, nI_leP, nI_ltP, nI_eqP, nI_1, ↓i_inN, i_inN, l_le, l_lt, l_eq, r_le, r_lt, r_eq, sh68_0, sh68_1, sh68_2, sh68_3, sh68_4, ↓w_aload_0, ↓w_iload_1, ↓w_iload_2, ↓w_iv, ↓pm_cl2_3, ↓w_bipush, ↓w_iload_3, ↓w_iadd, ↓w_is, ↓pm_cl1_3, ↓w_zret])
    | (with_reducible refine m_in (by omega) ?_; simp (disch := first | omega | decide) only [w_nl0, w_nli, w_nlr, ↓w_ts1, ↓w_ts0, w_rcv, w_rfv, w_cs, true_and, and_true, List.length_nil, List.length_cons, Nat.reduceAdd, Nat.reduceLeDiff, Nat.zero_le, Nat.reduceLT, ↓w_nil, ix_nI, nI_leP, nI_ltP, nI_eqP, nI_1, ↓i_inN, i_inN, l_le, l_lt, l_eq, r_le, r_lt, r_eq, sh68_0, sh68_1, sh68_2, sh68_3, sh68_4, ↓w_aload_0, ↓w_iload_1, ↓w_iload_2, ↓w_iv, ↓pm_cl2_3, ↓w_bipush, ↓w_iload_3, ↓w_iadd, ↓w_is, ↓pm_cl1_3, ↓w_zret])
    | (simp only [w_in])
    | (intro _))
  all_goals grind
theorem m_plainOf {w a b : Int32} (hd : 1 ≤ d) (hQ : Q (some (.int (if w = 0 then (if a = 0 ∧ b = 1 then 1 else if a = 1 ∧ b = 2 then 6 else if a = 2 ∧ b = 3 then 9 else 0) else if w = 1 then 1000 else if w = 2 then 0 else 1))) S I J) : pm_C g d 216 [.int w, .int a, .int b] Q S I J := by
  refine eX12_plainOf (by omega) ?_
  repeat' (first
    | (apply And.intro)
    | (with_reducible refine bX12_plainOf_0 ?_; simp (disch := first | omega | decide) only [w_nl0, w_nli, w_nlr, ↓w_ts1, ↓w_ts0, w_rcv, w_rfv, w_cs, true_and, and_true, List.length_nil, List.length_cons, Nat.reduceAdd, Nat.reduceLeDiff, Nat.zero_le, Nat.reduceLT, ↓w_nil, ix_nI, nI_leP, nI_ltP, nI_eqP, nI_1, ↓i_inN, i_inN, l_le, l_lt, l_eq, r_le, r_lt, r_eq, sh68_0, sh68_1, sh68_2, sh68_3, sh68_4, ↓w_iload_0, ↓w_ifne, ↓w_iload_1, ↓w_iload_2, ↓w_iconst, ↓w_icne, ↓w_goto, ↓w_bipush, ↓w_sipush, ↓w_ret])
    | (with_reducible refine bX12_plainOf_1 ?_; simp (disch := first | omega | decide) only [w_nl0, w_nli, w_nlr, ↓w_ts1, ↓w_ts0, w_rcv, w_rfv, w_cs, true_and, and_true, List.length_nil, List.length_cons, Nat.reduceAdd, Nat.reduceLeDiff, Nat.zero_le, Nat.reduceLT, ↓w_nil, ix_nI, nI_leP, nI_ltP, nI_eqP, nI_1, ↓i_inN, i_inN, l_le, l_lt, l_eq, r_le, r_lt, r_eq, sh68_0, sh68_1, sh68_2, sh68_3, sh68_4, ↓w_iload_0, ↓w_ifne, ↓w_iload_1, ↓w_iload_2, ↓w_iconst, ↓w_icne, ↓w_goto, ↓w_bipush, ↓w_sipush, ↓w_ret])
    | (with_reducible refine bX12_plainOf_2 ?_; simp (disch := first | omega | decide) only [w_nl0, w_nli, w_nlr, ↓w_ts1, ↓w_ts0, w_rcv, w_rfv, w_cs, true_and, and_true, List.length_nil, List.length_cons, Nat.reduceAdd, Nat.reduceLeDiff, Nat.zero_le, Nat.reduceLT, ↓w_nil, ix_nI, nI_leP, nI_ltP, nI_eqP, nI_1, ↓i_inN, i_inN, l_le, l_lt, l_eq, r_le, r_lt, r_eq, sh68_0, sh68_1, sh68_2, sh68_3, sh68_4, ↓w_iload_0, ↓w_ifne, ↓w_iload_1, ↓w_iload_2, ↓w_iconst, ↓w_icne, ↓w_goto, ↓w_bipush, ↓w_sipush, ↓w_ret])
    | (with_reducible refine bX12_plainOf_3 ?_; simp (disch := first | omega | decide) only [w_nl0, w_nli, w_nlr, ↓w_ts1, ↓w_ts0, w_rcv, w_rfv, w_cs, true_and, and_true, List.length_nil, List.length_cons, Nat.reduceAdd, Nat.reduceLeDiff, Nat.zero_le, Nat.reduceLT, ↓w_nil, ix_nI, nI_leP, nI_ltP, nI_eqP, nI_1, ↓i_inN, i_inN, l_le, l_lt, l_eq, r_le, r_lt, r_eq, sh68_0, sh68_1, sh68_2, sh68_3, sh68_4, ↓w_iload_0, ↓w_ifne, ↓w_iload_1, ↓w_iload_2, ↓w_iconst, ↓w_icne, ↓w_goto, ↓w_bipush, ↓w_sipush, ↓w_ret])
    | (with_reducible refine bX12_plainOf_4 ?_; simp (disch := first | omega | decide) only [w_nl0, w_nli, w_nlr, ↓w_ts1, ↓w_ts0, w_rcv, w_rfv, w_cs, true_and, and_true, List.length_nil, List.length_cons, Nat.reduceAdd, Nat.reduceLeDiff, Nat.zero_le, Nat.reduceLT, ↓w_nil, ix_nI, nI_leP, nI_ltP, nI_eqP, nI_1, ↓i_inN, i_inN, l_le, l_lt, l_eq, r_le, r_lt, r_eq, sh68_0, sh68_1, sh68_2, sh68_3, sh68_4, ↓w_iload_0, ↓w_ifne, ↓w_iload_1, ↓w_iload_2, ↓w_iconst, ↓w_icne, ↓w_goto, ↓w_bipush, ↓w_sipush, ↓w_ret])
    | (with_reducible refine bX12_plainOf_5 ?_; simp (disch := first | omega | decide) only [w_nl0, w_nli, w_nlr, ↓w_ts1, ↓w_ts0, w_rcv, w_rfv, w_cs, true_and, and_true, List.length_nil, List.length_cons, Nat.reduceAdd, Nat.reduceLeDiff, Nat.zero_le, Nat.reduceLT, ↓w_nil, ix_nI, nI_leP, nI_ltP, nI_eqP, nI_1, ↓i_inN, i_inN, l_le, l_lt, l_eq, r_le, r_lt, r_eq, sh68_0, sh68_1, sh68_2, sh68_3, sh68_4, ↓w_iload_0, ↓w_ifne, ↓w_iload_1, ↓w_iload_2, ↓w_iconst, ↓w_icne, ↓w_goto, ↓w_bipush, ↓w_sipush, ↓w_ret])
    | (with_reducible refine bX12_plainOf_6 ?_; simp (disch := first | omega | decide) only [w_nl0, w_nli, w_nlr, ↓w_ts1, ↓w_ts0, w_rcv, w_rfv, w_cs, true_and, and_true, List.length_nil, List.length_cons, Nat.reduceAdd, Nat.reduceLeDiff, Nat.zero_le, Nat.reduceLT, ↓w_nil, ix_nI, nI_leP, nI_ltP, nI_eqP, nI_1, ↓i_inN, i_inN, l_le, l_lt, l_eq, r_le, r_lt, r_eq, sh68_0, sh68_1, sh68_2, sh68_3, sh68_4, ↓w_iload_0, ↓w_ifne, ↓w_iload_1, ↓w_iload_2, ↓w_iconst, ↓w_icne, ↓w_goto, ↓w_bipush, ↓w_sipush, ↓w_ret])
    | (with_reducible refine bX12_plainOf_7 ?_; simp (disch := first | omega | decide) only [w_nl0, w_nli, w_nlr, ↓w_ts1, ↓w_ts0, w_rcv, w_rfv, w_cs, true_and, and_true, List.length_nil, List.length_cons, Nat.reduceAdd, Nat.reduceLeDiff, Nat.zero_le, Nat.reduceLT, ↓w_nil, ix_nI, nI_leP, nI_ltP, nI_eqP, nI_1, ↓i_inN, i_inN, l_le, l_lt, l_eq, r_le, r_lt, r_eq, sh68_0, sh68_1, sh68_2, sh68_3, sh68_4, ↓w_iload_0, ↓w_ifne, ↓w_iload_1, ↓w_iload_2, ↓w_iconst, ↓w_icne, ↓w_goto, ↓w_bipush, ↓w_sipush, ↓w_ret])
    | (simp only [w_in])
    | (intro _))
  all_goals grind
theorem m_isAbout {w a b : Int32} (hd : 2 ≤ d) (hQ : Q (some (.int (if (w = 0 ∧ (0 ≤ a ∧ a ≤ 3) ∧ (0 ≤ b ∧ b ≤ 3)) ∨ w = 1 ∨ ((w = 2 ∨ w = 3) ∧ (0 ≤ a ∧ a ≤ 7)) then 1 else 0))) S I J) : pm_C g d 218 [.int w, .int a, .int b] Q S I J := by
  refine eX12_isAbout (by omega) ?_
  repeat' (first
    | (apply And.intro)
    | (with_reducible refine bX12_isAbout_0 ?_; simp (disch := first | omega | decide) only [w_nl0, w_nli, w_nlr, ↓w_ts1, ↓w_ts0, w_rcv, w_rfv, w_cs, true_and, and_true, List.length_nil, List.length_cons, Nat.reduceAdd, Nat.reduceLeDiff, Nat.zero_le, Nat.reduceLT, ↓w_nil, ix_nI, nI_leP, nI_ltP, nI_eqP, nI_1, ↓i_inN, i_inN, l_le, l_lt, l_eq, r_le, r_lt, r_eq, sh68_0, sh68_1, sh68_2, sh68_3, sh68_4, ↓w_iload_0, ↓w_ifne, ↓w_iload_1, ↓w_iconst, ↓w_is, ↓pm_cl1_3, ↓w_ifeq, ↓w_iload_2, ↓w_iceq, ↓w_icne, ↓w_bipush, ↓w_goto, ↓w_zret])
    | (with_reducible refine bX12_isAbout_1 ?_; simp (disch := first | omega | decide) only [w_nl0, w_nli, w_nlr, ↓w_ts1, ↓w_ts0, w_rcv, w_rfv, w_cs, true_and, and_true, List.length_nil, List.length_cons, Nat.reduceAdd, Nat.reduceLeDiff, Nat.zero_le, Nat.reduceLT, ↓w_nil, ix_nI, nI_leP, nI_ltP, nI_eqP, nI_1, ↓i_inN, i_inN, l_le, l_lt, l_eq, r_le, r_lt, r_eq, sh68_0, sh68_1, sh68_2, sh68_3, sh68_4, ↓w_iload_0, ↓w_ifne, ↓w_iload_1, ↓w_iconst, ↓w_is, ↓pm_cl1_3, ↓w_ifeq, ↓w_iload_2, ↓w_iceq, ↓w_icne, ↓w_bipush, ↓w_goto, ↓w_zret])
    | (with_reducible refine bX12_isAbout_2 ?_; simp (disch := first | omega | decide) only [w_nl0, w_nli, w_nlr, ↓w_ts1, ↓w_ts0, w_rcv, w_rfv, w_cs, true_and, and_true, List.length_nil, List.length_cons, Nat.reduceAdd, Nat.reduceLeDiff, Nat.zero_le, Nat.reduceLT, ↓w_nil, ix_nI, nI_leP, nI_ltP, nI_eqP, nI_1, ↓i_inN, i_inN, l_le, l_lt, l_eq, r_le, r_lt, r_eq, sh68_0, sh68_1, sh68_2, sh68_3, sh68_4, ↓w_iload_0, ↓w_ifne, ↓w_iload_1, ↓w_iconst, ↓w_is, ↓pm_cl1_3, ↓w_ifeq, ↓w_iload_2, ↓w_iceq, ↓w_icne, ↓w_bipush, ↓w_goto, ↓w_zret])
    | (with_reducible refine bX12_isAbout_3 ?_; simp (disch := first | omega | decide) only [w_nl0, w_nli, w_nlr, ↓w_ts1, ↓w_ts0, w_rcv, w_rfv, w_cs, true_and, and_true, List.length_nil, List.length_cons, Nat.reduceAdd, Nat.reduceLeDiff, Nat.zero_le, Nat.reduceLT, ↓w_nil, ix_nI, nI_leP, nI_ltP, nI_eqP, nI_1, ↓i_inN, i_inN, l_le, l_lt, l_eq, r_le, r_lt, r_eq, sh68_0, sh68_1, sh68_2, sh68_3, sh68_4, ↓w_iload_0, ↓w_ifne, ↓w_iload_1, ↓w_iconst, ↓w_is, ↓pm_cl1_3, ↓w_ifeq, ↓w_iload_2, ↓w_iceq, ↓w_icne, ↓w_bipush, ↓w_goto, ↓w_zret])
    | (with_reducible refine bX12_isAbout_4 ?_; simp (disch := first | omega | decide) only [w_nl0, w_nli, w_nlr, ↓w_ts1, ↓w_ts0, w_rcv, w_rfv, w_cs, true_and, and_true, List.length_nil, List.length_cons, Nat.reduceAdd, Nat.reduceLeDiff, Nat.zero_le, Nat.reduceLT, ↓w_nil, ix_nI, nI_leP, nI_ltP, nI_eqP, nI_1, ↓i_inN, i_inN, l_le, l_lt, l_eq, r_le, r_lt, r_eq, sh68_0, sh68_1, sh68_2, sh68_3, sh68_4, ↓w_iload_0, ↓w_ifne, ↓w_iload_1, ↓w_iconst, ↓w_is, ↓pm_cl1_3, ↓w_ifeq, ↓w_iload_2, ↓w_iceq, ↓w_icne, ↓w_bipush, ↓w_goto, ↓w_zret])
    | (with_reducible refine bX12_isAbout_5 ?_; simp (disch := first | omega | decide) only [w_nl0, w_nli, w_nlr, ↓w_ts1, ↓w_ts0, w_rcv, w_rfv, w_cs, true_and, and_true, List.length_nil, List.length_cons, Nat.reduceAdd, Nat.reduceLeDiff, Nat.zero_le, Nat.reduceLT, ↓w_nil, ix_nI, nI_leP, nI_ltP, nI_eqP, nI_1, ↓i_inN, i_inN, l_le, l_lt, l_eq, r_le, r_lt, r_eq, sh68_0, sh68_1, sh68_2, sh68_3, sh68_4, ↓w_iload_0, ↓w_ifne, ↓w_iload_1, ↓w_iconst, ↓w_is, ↓pm_cl1_3, ↓w_ifeq, ↓w_iload_2, ↓w_iceq, ↓w_icne, ↓w_bipush, ↓w_goto, ↓w_zret])
    | (with_reducible refine m_in (by omega) ?_; simp (disch := first | omega | decide) only [w_nl0, w_nli, w_nlr, ↓w_ts1, ↓w_ts0, w_rcv, w_rfv, w_cs, true_and, and_true, List.length_nil, List.length_cons, Nat.reduceAdd, Nat.reduceLeDiff, Nat.zero_le, Nat.reduceLT, ↓w_nil, ix_nI, nI_leP, nI_ltP, nI_eqP, nI_1, ↓i_inN, i_inN, l_le, l_lt, l_eq, r_le, r_lt, r_eq, sh68_0, sh68_1, sh68_2, sh68_3, sh68_4, ↓w_iload_0, ↓w_ifne, ↓w_iload_1, ↓w_iconst, ↓w_is, ↓pm_cl1_3, ↓w_ifeq, ↓w_iload_2, ↓w_iceq, ↓w_icne, ↓w_bipush, ↓w_goto, ↓w_zret])
    | (simp only [w_in])
    | (intro _))
  all_goals grind
theorem m_comes {k s f h : Int32} {n : Nat} (hd : 1 ≤ d) (hn : I 68 23 = nI n) (hn40 : n < 40) (hQ : Q (some (.int (nI n))) SH (pm_up (pm_up (pm_up (pm_up (pm_up (pm_up (pm_up I 79 n k) 80 n s) 81 n f) 82 n h) 83 n (I 68 15)) 84 n 0) 68 23 (nI (n + 1))) J) : pm_C g d 225 [.ref 68, .int k, .int s, .int f, .int h] Q SH I J := by
  refine eX12_comes (by omega) ?_
  repeat' (first
    | (apply And.intro)
    | (with_reducible refine bX12_comes_0 ?_; simp (disch := first | omega | decide) only [w_nl0, w_nli, w_nlr, ↓w_ts1, ↓w_ts0, w_rcv, w_rfv, w_cs, true_and, and_true, List.length_nil, List.length_cons, Nat.reduceAdd, Nat.reduceLeDiff, Nat.zero_le, Nat.reduceLT, ↓w_nil, ix_nI, nI_leP, nI_ltP, nI_eqP, nI_1, ↓i_inN, i_inN, l_le, l_lt, l_eq, r_le, r_lt, r_eq, sh68_0, sh68_1, sh68_2, sh68_3, sh68_4, ↓w_aload_0, ↓w_gf3, ↓w_gf0, ↓w_iload_1, ↓w_iastore, ↓w_iload_2, ↓w_iload_3, ↓w_iload_4, ↓w_iconst, ↓w_dup_i, ↓w_dup_r, ↓w_iadd, ↓w_pf0, ↓w_isub, ↓w_ret, hn, pm_up_o, pm_up_s, nI_pred])
    | (simp only [w_in])
    | (intro _))
  all_goals grind
theorem m_grownOf {m c : Int32} {n : Nat} (hd : 1 ≤ d) (hn : I 68 23 = nI n) (hn40 : n ≤ 40) (hQ : Q (some (.int (itr (fun k a => a + (if I 81 k = m ∧ (c = -9 ∨ I 79 k = c) then 1 else 0)) 0 n))) SH I J) : pm_C g d 227 [.ref 68, .int m, .int c] Q SH I J := by
  refine eX12_grownOf (by omega) ?_
  refine bX12_grownOf_0 ?_
  simp (disch := first | omega | decide) only [w_nl0, w_nli, w_nlr, ↓w_ts1, ↓w_ts0, w_rcv, w_rfv, w_cs, true_and, and_true, List.length_nil, List.length_cons, Nat.reduceAdd, Nat.reduceLeDiff, Nat.zero_le, Nat.reduceLT, ↓w_nil, ix_nI, nI_leP, nI_ltP, nI_eqP, nI_1, ↓i_inN, i_inN, l_le, l_lt, l_eq, r_le, r_lt, r_eq, sh68_0, sh68_1, sh68_2, sh68_3, sh68_4, ↓w_iconst, ↓w_istore_3, ↓w_istore_4]
  refine pm_for (f := fun k a => a + (if I 81 k = m ∧ (c = -9 ∨ I 79 k = c) then 1 else 0)) (U := fun k a => UU g (d - 1) 227 kX12_grownOf (pm_rm d 227) Q 1 [some (.ref 68), some (.int m), some (.int c), some (.int a), some (.int (nI k))] [] SH I J (0, 0)) n (fun k b hk hb w => ?_) ?_
  · refine bX12_grownOf_1 ?_
    simp (disch := first | omega | decide) only [w_nl0, w_nli, w_nlr, ↓w_ts1, ↓w_ts0, w_rcv, w_rfv, w_cs, true_and, and_true, List.length_nil, List.length_cons, Nat.reduceAdd, Nat.reduceLeDiff, Nat.zero_le, Nat.reduceLT, ↓w_nil, ix_nI, nI_leP, nI_ltP, nI_eqP, nI_1, ↓i_inN, i_inN, l_le, l_lt, l_eq, r_le, r_lt, r_eq, sh68_0, sh68_1, sh68_2, sh68_3, sh68_4, ↓w_iload_4, ↓w_aload_0, ↓w_gf0, ↓w_icge, ↓w_iload_3, ↓w_gf3, ↓w_iaload, ↓w_iload_1, ↓w_icne, ↓w_iload_2, ↓w_bipush, ↓w_iceq, hn]
    repeat' (first
      | (apply And.intro)
      | (with_reducible refine bX12_grownOf_2 ?_; simp (disch := first | omega | decide) only [w_nl0, w_nli, w_nlr, ↓w_ts1, ↓w_ts0, w_rcv, w_rfv, w_cs, true_and, and_true, List.length_nil, List.length_cons, Nat.reduceAdd, Nat.reduceLeDiff, Nat.zero_le, Nat.reduceLT, ↓w_nil, ix_nI, nI_leP, nI_ltP, nI_eqP, nI_1, ↓i_inN, i_inN, l_le, l_lt, l_eq, r_le, r_lt, r_eq, sh68_0, sh68_1, sh68_2, sh68_3, sh68_4, ↓w_iconst, ↓w_istore_3, ↓w_istore_4, ↓w_iload_4, ↓w_aload_0, ↓w_gf0, ↓w_icge, ↓w_iload_3, ↓w_gf3, ↓w_iaload, ↓w_iload_1, ↓w_icne, ↓w_iload_2, ↓w_bipush, ↓w_iceq, ↓w_goto, ↓w_iadd, ↓w_iinc_4, ↓w_ret])
      | (with_reducible refine bX12_grownOf_3 ?_; simp (disch := first | omega | decide) only [w_nl0, w_nli, w_nlr, ↓w_ts1, ↓w_ts0, w_rcv, w_rfv, w_cs, true_and, and_true, List.length_nil, List.length_cons, Nat.reduceAdd, Nat.reduceLeDiff, Nat.zero_le, Nat.reduceLT, ↓w_nil, ix_nI, nI_leP, nI_ltP, nI_eqP, nI_1, ↓i_inN, i_inN, l_le, l_lt, l_eq, r_le, r_lt, r_eq, sh68_0, sh68_1, sh68_2, sh68_3, sh68_4, ↓w_iconst, ↓w_istore_3, ↓w_istore_4, ↓w_iload_4, ↓w_aload_0, ↓w_gf0, ↓w_icge, ↓w_iload_3, ↓w_gf3, ↓w_iaload, ↓w_iload_1, ↓w_icne, ↓w_iload_2, ↓w_bipush, ↓w_iceq, ↓w_goto, ↓w_iadd, ↓w_iinc_4, ↓w_ret])
      | (with_reducible refine bX12_grownOf_4 ?_; simp (disch := first | omega | decide) only [w_nl0, w_nli, w_nlr, ↓w_ts1, ↓w_ts0, w_rcv, w_rfv, w_cs, true_and, and_true, List.length_nil, List.length_cons, Nat.reduceAdd, Nat.reduceLeDiff, Nat.zero_le, Nat.reduceLT, ↓w_nil, ix_nI, nI_leP, nI_ltP, nI_eqP, nI_1, ↓i_inN, i_inN, l_le, l_lt, l_eq, r_le, r_lt, r_eq, sh68_0, sh68_1, sh68_2, sh68_3, sh68_4, ↓w_iconst, ↓w_istore_3, ↓w_istore_4, ↓w_iload_4, ↓w_aload_0, ↓w_gf0, ↓w_icge, ↓w_iload_3, ↓w_gf3, ↓w_iaload, ↓w_iload_1, ↓w_icne, ↓w_iload_2, ↓w_bipush, ↓w_iceq, ↓w_goto, ↓w_iadd, ↓w_iinc_4, ↓w_ret])
      | (simp only [w_in])
      | (intro _))
    all_goals grind
  · refine bX12_grownOf_1 ?_
    simp (disch := first | omega | decide) only [w_nl0, w_nli, w_nlr, ↓w_ts1, ↓w_ts0, w_rcv, w_rfv, w_cs, true_and, and_true, List.length_nil, List.length_cons, Nat.reduceAdd, Nat.reduceLeDiff, Nat.zero_le, Nat.reduceLT, ↓w_nil, ix_nI, nI_leP, nI_ltP, nI_eqP, nI_1, ↓i_inN, i_inN, l_le, l_lt, l_eq, r_le, r_lt, r_eq, sh68_0, sh68_1, sh68_2, sh68_3, sh68_4, ↓w_iload_4, ↓w_aload_0, ↓w_gf0, ↓w_icge, ↓w_iload_3, ↓w_gf3, ↓w_iaload, ↓w_iload_1, ↓w_icne, ↓w_iload_2, ↓w_bipush, ↓w_iceq, hn]
    repeat' (first
      | (apply And.intro)
      | (with_reducible refine bX12_grownOf_5 ?_; simp (disch := first | omega | decide) only [w_nl0, w_nli, w_nlr, ↓w_ts1, ↓w_ts0, w_rcv, w_rfv, w_cs, true_and, and_true, List.length_nil, List.length_cons, Nat.reduceAdd, Nat.reduceLeDiff, Nat.zero_le, Nat.reduceLT, ↓w_nil, ix_nI, nI_leP, nI_ltP, nI_eqP, nI_1, ↓i_inN, i_inN, l_le, l_lt, l_eq, r_le, r_lt, r_eq, sh68_0, sh68_1, sh68_2, sh68_3, sh68_4, ↓w_iconst, ↓w_istore_3, ↓w_istore_4, ↓w_iload_4, ↓w_aload_0, ↓w_gf0, ↓w_icge, ↓w_iload_3, ↓w_gf3, ↓w_iaload, ↓w_iload_1, ↓w_icne, ↓w_iload_2, ↓w_bipush, ↓w_iceq, ↓w_goto, ↓w_iadd, ↓w_iinc_4, ↓w_ret])
      | (simp only [w_in])
      | (intro _))
    all_goals grind
theorem m_isPressed {m : Int32} (hd : 1 ≤ d) (hQ : Q (some (.int (itr (fun k a => if ¬ a = 0 ∨ I 88 k = m ∨ I 89 k = m then 1 else 0) 0 6))) SH I J) : pm_C g d 228 [.ref 68, .int m] Q SH I J := by
  have hz : itr (fun k (a : Int32) => if ¬ a = 0 ∨ I 88 k = m ∨ I 89 k = m then (1 : Int32) else 0) 0 6 = 0 ∨ itr (fun k (a : Int32) => if ¬ a = 0 ∨ I 88 k = m ∨ I 89 k = m then (1 : Int32) else 0) 0 6 = 1 := by
    rw [itr_s]
    split <;> simp
  refine eX12_isPressed (by omega) ?_
  refine bX12_isPressed_0 ?_
  simp (disch := first | omega | decide) only [w_nl0, w_nli, w_nlr, ↓w_ts1, ↓w_ts0, w_rcv, w_rfv, w_cs, true_and, and_true, List.length_nil, List.length_cons, Nat.reduceAdd, Nat.reduceLeDiff, Nat.zero_le, Nat.reduceLT, ↓w_nil, ix_nI, nI_leP, nI_ltP, nI_eqP, nI_1, ↓i_inN, i_inN, l_le, l_lt, l_eq, r_le, r_lt, r_eq, sh68_0, sh68_1, sh68_2, sh68_3, sh68_4, ↓w_iconst, ↓w_istore_2, ↓w_istore_3]
  refine pm_for (f := fun k a => if ¬ a = 0 ∨ I 88 k = m ∨ I 89 k = m then 1 else 0) (U := fun k a => UU g (d - 1) 228 kX12_isPressed (pm_rm d 228) Q 1 [some (.ref 68), some (.int m), some (.int a), some (.int (nI k))] [] SH I J (0, 0)) 6 (fun k b hk hb w => ?_) ?_
  · refine bX12_isPressed_1 ?_
    simp (disch := first | omega | decide) only [w_nl0, w_nli, w_nlr, ↓w_ts1, ↓w_ts0, w_rcv, w_rfv, w_cs, true_and, and_true, List.length_nil, List.length_cons, Nat.reduceAdd, Nat.reduceLeDiff, Nat.zero_le, Nat.reduceLT, ↓w_nil, ix_nI, nI_leP, nI_ltP, nI_eqP, nI_1, ↓i_inN, i_inN, l_le, l_lt, l_eq, r_le, r_lt, r_eq, sh68_0, sh68_1, sh68_2, sh68_3, sh68_4, ↓w_iload_3, ↓w_bipush, ↓w_icge, ↓w_iload_2, ↓w_ifne, ↓w_aload_0, ↓w_gf3, ↓w_iaload, ↓w_iload_1, ↓w_iceq, ↓w_icne]
    repeat' (first
      | (apply And.intro)
      | (with_reducible refine bX12_isPressed_2 ?_; simp (disch := first | omega | decide) only [w_nl0, w_nli, w_nlr, ↓w_ts1, ↓w_ts0, w_rcv, w_rfv, w_cs, true_and, and_true, List.length_nil, List.length_cons, Nat.reduceAdd, Nat.reduceLeDiff, Nat.zero_le, Nat.reduceLT, ↓w_nil, ix_nI, nI_leP, nI_ltP, nI_eqP, nI_1, ↓i_inN, i_inN, l_le, l_lt, l_eq, r_le, r_lt, r_eq, sh68_0, sh68_1, sh68_2, sh68_3, sh68_4, ↓w_iconst, ↓w_istore_2, ↓w_istore_3, ↓w_iload_3, ↓w_bipush, ↓w_icge, ↓w_iload_2, ↓w_ifne, ↓w_aload_0, ↓w_gf3, ↓w_iaload, ↓w_iload_1, ↓w_iceq, ↓w_icne, ↓w_goto, ↓w_iinc_3, ↓w_zret])
      | (with_reducible refine bX12_isPressed_3 ?_; simp (disch := first | omega | decide) only [w_nl0, w_nli, w_nlr, ↓w_ts1, ↓w_ts0, w_rcv, w_rfv, w_cs, true_and, and_true, List.length_nil, List.length_cons, Nat.reduceAdd, Nat.reduceLeDiff, Nat.zero_le, Nat.reduceLT, ↓w_nil, ix_nI, nI_leP, nI_ltP, nI_eqP, nI_1, ↓i_inN, i_inN, l_le, l_lt, l_eq, r_le, r_lt, r_eq, sh68_0, sh68_1, sh68_2, sh68_3, sh68_4, ↓w_iconst, ↓w_istore_2, ↓w_istore_3, ↓w_iload_3, ↓w_bipush, ↓w_icge, ↓w_iload_2, ↓w_ifne, ↓w_aload_0, ↓w_gf3, ↓w_iaload, ↓w_iload_1, ↓w_iceq, ↓w_icne, ↓w_goto, ↓w_iinc_3, ↓w_zret])
      | (with_reducible refine bX12_isPressed_4 ?_; simp (disch := first | omega | decide) only [w_nl0, w_nli, w_nlr, ↓w_ts1, ↓w_ts0, w_rcv, w_rfv, w_cs, true_and, and_true, List.length_nil, List.length_cons, Nat.reduceAdd, Nat.reduceLeDiff, Nat.zero_le, Nat.reduceLT, ↓w_nil, ix_nI, nI_leP, nI_ltP, nI_eqP, nI_1, ↓i_inN, i_inN, l_le, l_lt, l_eq, r_le, r_lt, r_eq, sh68_0, sh68_1, sh68_2, sh68_3, sh68_4, ↓w_iconst, ↓w_istore_2, ↓w_istore_3, ↓w_iload_3, ↓w_bipush, ↓w_icge, ↓w_iload_2, ↓w_ifne, ↓w_aload_0, ↓w_gf3, ↓w_iaload, ↓w_iload_1, ↓w_iceq, ↓w_icne, ↓w_goto, ↓w_iinc_3, ↓w_zret])
      | (simp only [w_in])
      | (intro _))
    all_goals grind
  · refine bX12_isPressed_1 ?_
    simp (disch := first | omega | decide) only [w_nl0, w_nli, w_nlr, ↓w_ts1, ↓w_ts0, w_rcv, w_rfv, w_cs, true_and, and_true, List.length_nil, List.length_cons, Nat.reduceAdd, Nat.reduceLeDiff, Nat.zero_le, Nat.reduceLT, ↓w_nil, ix_nI, nI_leP, nI_ltP, nI_eqP, nI_1, ↓i_inN, i_inN, l_le, l_lt, l_eq, r_le, r_lt, r_eq, sh68_0, sh68_1, sh68_2, sh68_3, sh68_4, ↓w_iload_3, ↓w_bipush, ↓w_icge, ↓w_iload_2, ↓w_ifne, ↓w_aload_0, ↓w_gf3, ↓w_iaload, ↓w_iload_1, ↓w_iceq, ↓w_icne]
    repeat' (first
      | (apply And.intro)
      | (with_reducible refine bX12_isPressed_5 ?_; simp (disch := first | omega | decide) only [w_nl0, w_nli, w_nlr, ↓w_ts1, ↓w_ts0, w_rcv, w_rfv, w_cs, true_and, and_true, List.length_nil, List.length_cons, Nat.reduceAdd, Nat.reduceLeDiff, Nat.zero_le, Nat.reduceLT, ↓w_nil, ix_nI, nI_leP, nI_ltP, nI_eqP, nI_1, ↓i_inN, i_inN, l_le, l_lt, l_eq, r_le, r_lt, r_eq, sh68_0, sh68_1, sh68_2, sh68_3, sh68_4, ↓w_iconst, ↓w_istore_2, ↓w_istore_3, ↓w_iload_3, ↓w_bipush, ↓w_icge, ↓w_iload_2, ↓w_ifne, ↓w_aload_0, ↓w_gf3, ↓w_iaload, ↓w_iload_1, ↓w_iceq, ↓w_icne, ↓w_goto, ↓w_iinc_3, ↓w_zret])
      | (simp only [w_in])
      | (intro _))
    all_goals grind
def mfactV (I : pm_MI) (m n : Nat) (w : Int32) : Int32 := if w = 0 then I 79 m else if w = 1 then I 80 m else if w = 2 then I 81 m else if w = 3 then I 82 m else if w = 4 then I 83 m else if w = 5 then I 84 m else itr (fun k a => a + (if I 81 k = nI m ∧ ((-9 : Int32) = -9 ∨ I 79 k = -9) then 1 else 0)) 0 n
theorem m_toldOf {m n : Nat} {w : Int32} (hd : 2 ≤ d) (hn : I 68 23 = nI n) (hn40 : n ≤ 40) (hm : m < n) (hQ : Q (some (.int (mfactV I m n w))) SH I J) : pm_C g d 231 [.ref 68, .int (nI m), .int w] Q SH I J := by
  unfold mfactV at hQ
  refine eX12_toldOf (by omega) ?_
  repeat' (first
    | (apply And.intro)
    | (with_reducible refine bX12_toldOf_0 ?_; simp (disch := first | omega | decide) only [w_nl0, w_nli, w_nlr, ↓w_ts1, ↓w_ts0, w_rcv, w_rfv, w_cs, true_and, and_true, List.length_nil, List.length_cons, Nat.reduceAdd, Nat.reduceLeDiff, Nat.zero_le, Nat.reduceLT, ↓w_nil, ix_nI, nI_leP, nI_ltP, nI_eqP, nI_1, ↓i_inN, i_inN, l_le, l_lt, l_eq, r_le, r_lt, r_eq, sh68_0, sh68_1, sh68_2, sh68_3, sh68_4, ↓w_iload_2, ↓w_sw_X12_toldOf_1, ↓w_aload_0, ↓w_gf3, ↓w_iload_1, ↓w_iaload, ↓w_ret, ↓w_bipush, ↓w_iv, ↓pm_cl2_3])
    | (with_reducible refine bX12_toldOf_1 ?_; simp (disch := first | omega | decide) only [w_nl0, w_nli, w_nlr, ↓w_ts1, ↓w_ts0, w_rcv, w_rfv, w_cs, true_and, and_true, List.length_nil, List.length_cons, Nat.reduceAdd, Nat.reduceLeDiff, Nat.zero_le, Nat.reduceLT, ↓w_nil, ix_nI, nI_leP, nI_ltP, nI_eqP, nI_1, ↓i_inN, i_inN, l_le, l_lt, l_eq, r_le, r_lt, r_eq, sh68_0, sh68_1, sh68_2, sh68_3, sh68_4, ↓w_iload_2, ↓w_sw_X12_toldOf_1, ↓w_aload_0, ↓w_gf3, ↓w_iload_1, ↓w_iaload, ↓w_ret, ↓w_bipush, ↓w_iv, ↓pm_cl2_3])
    | (with_reducible refine bX12_toldOf_2 ?_; simp (disch := first | omega | decide) only [w_nl0, w_nli, w_nlr, ↓w_ts1, ↓w_ts0, w_rcv, w_rfv, w_cs, true_and, and_true, List.length_nil, List.length_cons, Nat.reduceAdd, Nat.reduceLeDiff, Nat.zero_le, Nat.reduceLT, ↓w_nil, ix_nI, nI_leP, nI_ltP, nI_eqP, nI_1, ↓i_inN, i_inN, l_le, l_lt, l_eq, r_le, r_lt, r_eq, sh68_0, sh68_1, sh68_2, sh68_3, sh68_4, ↓w_iload_2, ↓w_sw_X12_toldOf_1, ↓w_aload_0, ↓w_gf3, ↓w_iload_1, ↓w_iaload, ↓w_ret, ↓w_bipush, ↓w_iv, ↓pm_cl2_3])
    | (with_reducible refine bX12_toldOf_3 ?_; simp (disch := first | omega | decide) only [w_nl0, w_nli, w_nlr, ↓w_ts1, ↓w_ts0, w_rcv, w_rfv, w_cs, true_and, and_true, List.length_nil, List.length_cons, Nat.reduceAdd, Nat.reduceLeDiff, Nat.zero_le, Nat.reduceLT, ↓w_nil, ix_nI, nI_leP, nI_ltP, nI_eqP, nI_1, ↓i_inN, i_inN, l_le, l_lt, l_eq, r_le, r_lt, r_eq, sh68_0, sh68_1, sh68_2, sh68_3, sh68_4, ↓w_iload_2, ↓w_sw_X12_toldOf_1, ↓w_aload_0, ↓w_gf3, ↓w_iload_1, ↓w_iaload, ↓w_ret, ↓w_bipush, ↓w_iv, ↓pm_cl2_3])
    | (with_reducible refine bX12_toldOf_4 ?_; simp (disch := first | omega | decide) only [w_nl0, w_nli, w_nlr, ↓w_ts1, ↓w_ts0, w_rcv, w_rfv, w_cs, true_and, and_true, List.length_nil, List.length_cons, Nat.reduceAdd, Nat.reduceLeDiff, Nat.zero_le, Nat.reduceLT, ↓w_nil, ix_nI, nI_leP, nI_ltP, nI_eqP, nI_1, ↓i_inN, i_inN, l_le, l_lt, l_eq, r_le, r_lt, r_eq, sh68_0, sh68_1, sh68_2, sh68_3, sh68_4, ↓w_iload_2, ↓w_sw_X12_toldOf_1, ↓w_aload_0, ↓w_gf3, ↓w_iload_1, ↓w_iaload, ↓w_ret, ↓w_bipush, ↓w_iv, ↓pm_cl2_3])
    | (with_reducible refine bX12_toldOf_5 ?_; simp (disch := first | omega | decide) only [w_nl0, w_nli, w_nlr, ↓w_ts1, ↓w_ts0, w_rcv, w_rfv, w_cs, true_and, and_true, List.length_nil, List.length_cons, Nat.reduceAdd, Nat.reduceLeDiff, Nat.zero_le, Nat.reduceLT, ↓w_nil, ix_nI, nI_leP, nI_ltP, nI_eqP, nI_1, ↓i_inN, i_inN, l_le, l_lt, l_eq, r_le, r_lt, r_eq, sh68_0, sh68_1, sh68_2, sh68_3, sh68_4, ↓w_iload_2, ↓w_sw_X12_toldOf_1, ↓w_aload_0, ↓w_gf3, ↓w_iload_1, ↓w_iaload, ↓w_ret, ↓w_bipush, ↓w_iv, ↓pm_cl2_3])
    | (with_reducible refine bX12_toldOf_6 ?_; simp (disch := first | omega | decide) only [w_nl0, w_nli, w_nlr, ↓w_ts1, ↓w_ts0, w_rcv, w_rfv, w_cs, true_and, and_true, List.length_nil, List.length_cons, Nat.reduceAdd, Nat.reduceLeDiff, Nat.zero_le, Nat.reduceLT, ↓w_nil, ix_nI, nI_leP, nI_ltP, nI_eqP, nI_1, ↓i_inN, i_inN, l_le, l_lt, l_eq, r_le, r_lt, r_eq, sh68_0, sh68_1, sh68_2, sh68_3, sh68_4, ↓w_iload_2, ↓w_sw_X12_toldOf_1, ↓w_aload_0, ↓w_gf3, ↓w_iload_1, ↓w_iaload, ↓w_ret, ↓w_bipush, ↓w_iv, ↓pm_cl2_3])
    | (with_reducible refine bX12_toldOf_7 ?_; simp (disch := first | omega | decide) only [w_nl0, w_nli, w_nlr, ↓w_ts1, ↓w_ts0, w_rcv, w_rfv, w_cs, true_and, and_true, List.length_nil, List.length_cons, Nat.reduceAdd, Nat.reduceLeDiff, Nat.zero_le, Nat.reduceLT, ↓w_nil, ix_nI, nI_leP, nI_ltP, nI_eqP, nI_1, ↓i_inN, i_inN, l_le, l_lt, l_eq, r_le, r_lt, r_eq, sh68_0, sh68_1, sh68_2, sh68_3, sh68_4, ↓w_iload_2, ↓w_sw_X12_toldOf_1, ↓w_aload_0, ↓w_gf3, ↓w_iload_1, ↓w_iaload, ↓w_ret, ↓w_bipush, ↓w_iv, ↓pm_cl2_3])
    | (with_reducible refine m_grownOf (by omega) hn hn40 ?_; simp (disch := first | omega | decide) only [w_nl0, w_nli, w_nlr, ↓w_ts1, ↓w_ts0, w_rcv, w_rfv, w_cs, true_and, and_true, List.length_nil, List.length_cons, Nat.reduceAdd, Nat.reduceLeDiff, Nat.zero_le, Nat.reduceLT, ↓w_nil, ix_nI, nI_leP, nI_ltP, nI_eqP, nI_1, ↓i_inN, i_inN, l_le, l_lt, l_eq, r_le, r_lt, r_eq, sh68_0, sh68_1, sh68_2, sh68_3, sh68_4, ↓w_iload_2, ↓w_sw_X12_toldOf_1, ↓w_aload_0, ↓w_gf3, ↓w_iload_1, ↓w_iaload, ↓w_ret, ↓w_bipush, ↓w_iv, ↓pm_cl2_3])
    | (simp only [w_in])
    | (intro _))
  all_goals grind
theorem m_wearOf {m : Int32} {n : Nat} (hd : 1 ≤ d) (hn : I 68 38 = nI n) (hn30 : n ≤ 30) (hQ : Q (some (.int (itr (fun k a => a + (if I 96 k = m ∨ I 97 k = m then (if I 95 k = 1 then 2 * I 94 k else I 94 k) else 0)) 0 n))) SH I J) : pm_C g d 234 [.ref 68, .int m] Q SH I J := by
  refine eX12_wearOf (by omega) ?_
  refine bX12_wearOf_0 ?_
  simp (disch := first | omega | decide) only [w_nl0, w_nli, w_nlr, ↓w_ts1, ↓w_ts0, w_rcv, w_rfv, w_cs, true_and, and_true, List.length_nil, List.length_cons, Nat.reduceAdd, Nat.reduceLeDiff, Nat.zero_le, Nat.reduceLT, ↓w_nil, ix_nI, nI_leP, nI_ltP, nI_eqP, nI_1, ↓i_inN, i_inN, l_le, l_lt, l_eq, r_le, r_lt, r_eq, sh68_0, sh68_1, sh68_2, sh68_3, sh68_4, ↓w_iconst, ↓w_istore_2, ↓w_istore_3]
  refine pm_for (f := fun k a => a + (if I 96 k = m ∨ I 97 k = m then (if I 95 k = 1 then 2 * I 94 k else I 94 k) else 0)) (U := fun k a => UU g (d - 1) 234 kX12_wearOf (pm_rm d 234) Q 1 [some (.ref 68), some (.int m), some (.int a), some (.int (nI k))] [] SH I J (0, 0)) n (fun k b hk hb w => ?_) ?_
  · refine bX12_wearOf_1 ?_
    simp (disch := first | omega | decide) only [w_nl0, w_nli, w_nlr, ↓w_ts1, ↓w_ts0, w_rcv, w_rfv, w_cs, true_and, and_true, List.length_nil, List.length_cons, Nat.reduceAdd, Nat.reduceLeDiff, Nat.zero_le, Nat.reduceLT, ↓w_nil, ix_nI, nI_leP, nI_ltP, nI_eqP, nI_1, ↓i_inN, i_inN, l_le, l_lt, l_eq, r_le, r_lt, r_eq, sh68_0, sh68_1, sh68_2, sh68_3, sh68_4, ↓w_iload_3, ↓w_aload_0, ↓w_gf0, ↓w_icge, ↓w_iload_2, ↓w_gf3, ↓w_iaload, ↓w_iload_1, ↓w_iceq, ↓w_icne, hn]
    repeat' (first
      | (apply And.intro)
      | (with_reducible refine bX12_wearOf_2 ?_; simp (disch := first | omega | decide) only [w_nl0, w_nli, w_nlr, ↓w_ts1, ↓w_ts0, w_rcv, w_rfv, w_cs, true_and, and_true, List.length_nil, List.length_cons, Nat.reduceAdd, Nat.reduceLeDiff, Nat.zero_le, Nat.reduceLT, ↓w_nil, ix_nI, nI_leP, nI_ltP, nI_eqP, nI_1, ↓i_inN, i_inN, l_le, l_lt, l_eq, r_le, r_lt, r_eq, sh68_0, sh68_1, sh68_2, sh68_3, sh68_4, ↓w_iconst, ↓w_istore_2, ↓w_istore_3, ↓w_iload_3, ↓w_aload_0, ↓w_gf0, ↓w_icge, ↓w_iload_2, ↓w_gf3, ↓w_iaload, ↓w_iload_1, ↓w_iceq, ↓w_icne, ↓w_imul, ↓w_goto, ↓w_iadd, ↓w_iinc_3, ↓w_ret])
      | (with_reducible refine bX12_wearOf_3 ?_; simp (disch := first | omega | decide) only [w_nl0, w_nli, w_nlr, ↓w_ts1, ↓w_ts0, w_rcv, w_rfv, w_cs, true_and, and_true, List.length_nil, List.length_cons, Nat.reduceAdd, Nat.reduceLeDiff, Nat.zero_le, Nat.reduceLT, ↓w_nil, ix_nI, nI_leP, nI_ltP, nI_eqP, nI_1, ↓i_inN, i_inN, l_le, l_lt, l_eq, r_le, r_lt, r_eq, sh68_0, sh68_1, sh68_2, sh68_3, sh68_4, ↓w_iconst, ↓w_istore_2, ↓w_istore_3, ↓w_iload_3, ↓w_aload_0, ↓w_gf0, ↓w_icge, ↓w_iload_2, ↓w_gf3, ↓w_iaload, ↓w_iload_1, ↓w_iceq, ↓w_icne, ↓w_imul, ↓w_goto, ↓w_iadd, ↓w_iinc_3, ↓w_ret])
      | (with_reducible refine bX12_wearOf_4 ?_; simp (disch := first | omega | decide) only [w_nl0, w_nli, w_nlr, ↓w_ts1, ↓w_ts0, w_rcv, w_rfv, w_cs, true_and, and_true, List.length_nil, List.length_cons, Nat.reduceAdd, Nat.reduceLeDiff, Nat.zero_le, Nat.reduceLT, ↓w_nil, ix_nI, nI_leP, nI_ltP, nI_eqP, nI_1, ↓i_inN, i_inN, l_le, l_lt, l_eq, r_le, r_lt, r_eq, sh68_0, sh68_1, sh68_2, sh68_3, sh68_4, ↓w_iconst, ↓w_istore_2, ↓w_istore_3, ↓w_iload_3, ↓w_aload_0, ↓w_gf0, ↓w_icge, ↓w_iload_2, ↓w_gf3, ↓w_iaload, ↓w_iload_1, ↓w_iceq, ↓w_icne, ↓w_imul, ↓w_goto, ↓w_iadd, ↓w_iinc_3, ↓w_ret])
      | (with_reducible refine bX12_wearOf_5 ?_; simp (disch := first | omega | decide) only [w_nl0, w_nli, w_nlr, ↓w_ts1, ↓w_ts0, w_rcv, w_rfv, w_cs, true_and, and_true, List.length_nil, List.length_cons, Nat.reduceAdd, Nat.reduceLeDiff, Nat.zero_le, Nat.reduceLT, ↓w_nil, ix_nI, nI_leP, nI_ltP, nI_eqP, nI_1, ↓i_inN, i_inN, l_le, l_lt, l_eq, r_le, r_lt, r_eq, sh68_0, sh68_1, sh68_2, sh68_3, sh68_4, ↓w_iconst, ↓w_istore_2, ↓w_istore_3, ↓w_iload_3, ↓w_aload_0, ↓w_gf0, ↓w_icge, ↓w_iload_2, ↓w_gf3, ↓w_iaload, ↓w_iload_1, ↓w_iceq, ↓w_icne, ↓w_imul, ↓w_goto, ↓w_iadd, ↓w_iinc_3, ↓w_ret])
      | (simp only [w_in])
      | (intro _))
    all_goals grind
  · refine bX12_wearOf_1 ?_
    simp (disch := first | omega | decide) only [w_nl0, w_nli, w_nlr, ↓w_ts1, ↓w_ts0, w_rcv, w_rfv, w_cs, true_and, and_true, List.length_nil, List.length_cons, Nat.reduceAdd, Nat.reduceLeDiff, Nat.zero_le, Nat.reduceLT, ↓w_nil, ix_nI, nI_leP, nI_ltP, nI_eqP, nI_1, ↓i_inN, i_inN, l_le, l_lt, l_eq, r_le, r_lt, r_eq, sh68_0, sh68_1, sh68_2, sh68_3, sh68_4, ↓w_iload_3, ↓w_aload_0, ↓w_gf0, ↓w_icge, ↓w_iload_2, ↓w_gf3, ↓w_iaload, ↓w_iload_1, ↓w_iceq, ↓w_icne, hn]
    repeat' (first
      | (apply And.intro)
      | (with_reducible refine bX12_wearOf_6 ?_; simp (disch := first | omega | decide) only [w_nl0, w_nli, w_nlr, ↓w_ts1, ↓w_ts0, w_rcv, w_rfv, w_cs, true_and, and_true, List.length_nil, List.length_cons, Nat.reduceAdd, Nat.reduceLeDiff, Nat.zero_le, Nat.reduceLT, ↓w_nil, ix_nI, nI_leP, nI_ltP, nI_eqP, nI_1, ↓i_inN, i_inN, l_le, l_lt, l_eq, r_le, r_lt, r_eq, sh68_0, sh68_1, sh68_2, sh68_3, sh68_4, ↓w_iconst, ↓w_istore_2, ↓w_istore_3, ↓w_iload_3, ↓w_aload_0, ↓w_gf0, ↓w_icge, ↓w_iload_2, ↓w_gf3, ↓w_iaload, ↓w_iload_1, ↓w_iceq, ↓w_icne, ↓w_imul, ↓w_goto, ↓w_iadd, ↓w_iinc_3, ↓w_ret])
      | (simp only [w_in])
      | (intro _))
    all_goals grind
theorem m_outOf {r l : Int32} {n : Nat} (hd : 1 ≤ d) (hn : I 68 67 = nI n) (hn60 : n ≤ 60) (hQ : Q (some (.int (itr (fun k a => a + (if I 113 k = r ∧ (l = -9 ∨ I 115 k = l) then I 114 k else 0)) 0 n))) SH I J) : pm_C g d 270 [.ref 68, .int r, .int l] Q SH I J := by
  refine eX12_outOf (by omega) ?_
  refine bX12_outOf_0 ?_
  simp (disch := first | omega | decide) only [w_nl0, w_nli, w_nlr, ↓w_ts1, ↓w_ts0, w_rcv, w_rfv, w_cs, true_and, and_true, List.length_nil, List.length_cons, Nat.reduceAdd, Nat.reduceLeDiff, Nat.zero_le, Nat.reduceLT, ↓w_nil, ix_nI, nI_leP, nI_ltP, nI_eqP, nI_1, ↓i_inN, i_inN, l_le, l_lt, l_eq, r_le, r_lt, r_eq, sh68_0, sh68_1, sh68_2, sh68_3, sh68_4, ↓w_iconst, ↓w_istore_3, ↓w_istore_4]
  refine pm_for (f := fun k a => a + (if I 113 k = r ∧ (l = -9 ∨ I 115 k = l) then I 114 k else 0)) (U := fun k a => UU g (d - 1) 270 kX12_outOf (pm_rm d 270) Q 1 [some (.ref 68), some (.int r), some (.int l), some (.int a), some (.int (nI k))] [] SH I J (0, 0)) n (fun k b hk hb w => ?_) ?_
  · refine bX12_outOf_1 ?_
    simp (disch := first | omega | decide) only [w_nl0, w_nli, w_nlr, ↓w_ts1, ↓w_ts0, w_rcv, w_rfv, w_cs, true_and, and_true, List.length_nil, List.length_cons, Nat.reduceAdd, Nat.reduceLeDiff, Nat.zero_le, Nat.reduceLT, ↓w_nil, ix_nI, nI_leP, nI_ltP, nI_eqP, nI_1, ↓i_inN, i_inN, l_le, l_lt, l_eq, r_le, r_lt, r_eq, sh68_0, sh68_1, sh68_2, sh68_3, sh68_4, ↓w_iload_4, ↓w_aload_0, ↓w_gf0, ↓w_icge, ↓w_iload_3, ↓w_gf3, ↓w_iaload, ↓w_iload_1, ↓w_icne, ↓w_iload_2, ↓w_bipush, ↓w_iceq, hn]
    repeat' (first
      | (apply And.intro)
      | (with_reducible refine bX12_outOf_2 ?_; simp (disch := first | omega | decide) only [w_nl0, w_nli, w_nlr, ↓w_ts1, ↓w_ts0, w_rcv, w_rfv, w_cs, true_and, and_true, List.length_nil, List.length_cons, Nat.reduceAdd, Nat.reduceLeDiff, Nat.zero_le, Nat.reduceLT, ↓w_nil, ix_nI, nI_leP, nI_ltP, nI_eqP, nI_1, ↓i_inN, i_inN, l_le, l_lt, l_eq, r_le, r_lt, r_eq, sh68_0, sh68_1, sh68_2, sh68_3, sh68_4, ↓w_iconst, ↓w_istore_3, ↓w_istore_4, ↓w_iload_4, ↓w_aload_0, ↓w_gf0, ↓w_icge, ↓w_iload_3, ↓w_gf3, ↓w_iaload, ↓w_iload_1, ↓w_icne, ↓w_iload_2, ↓w_bipush, ↓w_iceq, ↓w_goto, ↓w_iadd, ↓w_iinc_4, ↓w_ret])
      | (with_reducible refine bX12_outOf_3 ?_; simp (disch := first | omega | decide) only [w_nl0, w_nli, w_nlr, ↓w_ts1, ↓w_ts0, w_rcv, w_rfv, w_cs, true_and, and_true, List.length_nil, List.length_cons, Nat.reduceAdd, Nat.reduceLeDiff, Nat.zero_le, Nat.reduceLT, ↓w_nil, ix_nI, nI_leP, nI_ltP, nI_eqP, nI_1, ↓i_inN, i_inN, l_le, l_lt, l_eq, r_le, r_lt, r_eq, sh68_0, sh68_1, sh68_2, sh68_3, sh68_4, ↓w_iconst, ↓w_istore_3, ↓w_istore_4, ↓w_iload_4, ↓w_aload_0, ↓w_gf0, ↓w_icge, ↓w_iload_3, ↓w_gf3, ↓w_iaload, ↓w_iload_1, ↓w_icne, ↓w_iload_2, ↓w_bipush, ↓w_iceq, ↓w_goto, ↓w_iadd, ↓w_iinc_4, ↓w_ret])
      | (with_reducible refine bX12_outOf_4 ?_; simp (disch := first | omega | decide) only [w_nl0, w_nli, w_nlr, ↓w_ts1, ↓w_ts0, w_rcv, w_rfv, w_cs, true_and, and_true, List.length_nil, List.length_cons, Nat.reduceAdd, Nat.reduceLeDiff, Nat.zero_le, Nat.reduceLT, ↓w_nil, ix_nI, nI_leP, nI_ltP, nI_eqP, nI_1, ↓i_inN, i_inN, l_le, l_lt, l_eq, r_le, r_lt, r_eq, sh68_0, sh68_1, sh68_2, sh68_3, sh68_4, ↓w_iconst, ↓w_istore_3, ↓w_istore_4, ↓w_iload_4, ↓w_aload_0, ↓w_gf0, ↓w_icge, ↓w_iload_3, ↓w_gf3, ↓w_iaload, ↓w_iload_1, ↓w_icne, ↓w_iload_2, ↓w_bipush, ↓w_iceq, ↓w_goto, ↓w_iadd, ↓w_iinc_4, ↓w_ret])
      | (simp only [w_in])
      | (intro _))
    all_goals grind
  · refine bX12_outOf_1 ?_
    simp (disch := first | omega | decide) only [w_nl0, w_nli, w_nlr, ↓w_ts1, ↓w_ts0, w_rcv, w_rfv, w_cs, true_and, and_true, List.length_nil, List.length_cons, Nat.reduceAdd, Nat.reduceLeDiff, Nat.zero_le, Nat.reduceLT, ↓w_nil, ix_nI, nI_leP, nI_ltP, nI_eqP, nI_1, ↓i_inN, i_inN, l_le, l_lt, l_eq, r_le, r_lt, r_eq, sh68_0, sh68_1, sh68_2, sh68_3, sh68_4, ↓w_iload_4, ↓w_aload_0, ↓w_gf0, ↓w_icge, ↓w_iload_3, ↓w_gf3, ↓w_iaload, ↓w_iload_1, ↓w_icne, ↓w_iload_2, ↓w_bipush, ↓w_iceq, hn]
    repeat' (first
      | (apply And.intro)
      | (with_reducible refine bX12_outOf_5 ?_; simp (disch := first | omega | decide) only [w_nl0, w_nli, w_nlr, ↓w_ts1, ↓w_ts0, w_rcv, w_rfv, w_cs, true_and, and_true, List.length_nil, List.length_cons, Nat.reduceAdd, Nat.reduceLeDiff, Nat.zero_le, Nat.reduceLT, ↓w_nil, ix_nI, nI_leP, nI_ltP, nI_eqP, nI_1, ↓i_inN, i_inN, l_le, l_lt, l_eq, r_le, r_lt, r_eq, sh68_0, sh68_1, sh68_2, sh68_3, sh68_4, ↓w_iconst, ↓w_istore_3, ↓w_istore_4, ↓w_iload_4, ↓w_aload_0, ↓w_gf0, ↓w_icge, ↓w_iload_3, ↓w_gf3, ↓w_iaload, ↓w_iload_1, ↓w_icne, ↓w_iload_2, ↓w_bipush, ↓w_iceq, ↓w_goto, ↓w_iadd, ↓w_iinc_4, ↓w_ret])
      | (simp only [w_in])
      | (intro _))
    all_goals grind
end C30
