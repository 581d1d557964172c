section C21
variable {g : pm_G} {d : Nat} {Q : pm_Po} {S : pm_SS} {I : pm_MI} {J : pm_ML}
theorem nI_m24 (a : Nat) : nI a * 24 = nI (24 * a) := by rw [Nat.mul_comm 24 a, ← pk_mul]; rfl
theorem nI_m48 (a : Nat) : nI a * 48 = nI (48 * a) := by rw [Nat.mul_comm 48 a, ← pk_mul]; rfl
theorem c_atR {r j s : Nat} (hd : 4 ≤ d) (hw : I 3 0 = 24) (hr : r < 6) (hs : I 4 r = nI s) (hs2 : s ≤ 24) (hj : j < s) (hQ : Q (some (.int (I 5 (24 * r + j)))) SH I J) : pm_C g d 110 [.ref 3, .int (nI r), .int (nI j)] Q SH I J := by
  have e1 : (0 : Int32) ≤ nI j ∧ nI j < nI s := by constructor <;> simp (disch := omega) only [← nI_0, nI_leP, nI_ltP] <;> omega
  have e2 : (0 : Int32) ≤ nI r ∧ nI r < 6 := by
    constructor
    · exact nI_pos' (by omega)
    · exact nI_lt (b := 6) (by omega) (by omega)
  refine eX9_at (by omega) ?_
  repeat' (first
    | (apply And.intro)
    | (with_reducible refine bX9_at_0 ?_; simp (disch := omega) only [w_nl0, w_nli, w_nlr, ↓w_ts1, ↓w_ts0, w_rcv, w_rfv, w_cs, true_and, and_true, List.length_nil, List.length_cons, Nat.reduceAdd, Nat.reduceLeDiff, Nat.zero_le, Nat.reduceLT, ↓w_nil, ix_nI, nI_leP, nI_ltP, nI_eqP, nI_1, ↓i_inN, i_inN, l_le, l_lt, l_eq, r_le, r_lt, r_eq, sh3, sh6, ↓w_aload_0, ↓w_iload_1, ↓w_iload_2, ↓w_iv, ↓pm_cl2_3, ↓w_ifeq, ↓w_gf3, ↓w_gf0, ↓w_imul, ↓w_iadd, ↓w_iaload, ↓w_goto, ↓w_ret, hw, nI_m24, nI_add])
    | (with_reducible refine bX9_at_1 ?_; simp (disch := omega) only [w_nl0, w_nli, w_nlr, ↓w_ts1, ↓w_ts0, w_rcv, w_rfv, w_cs, true_and, and_true, List.length_nil, List.length_cons, Nat.reduceAdd, Nat.reduceLeDiff, Nat.zero_le, Nat.reduceLT, ↓w_nil, ix_nI, nI_leP, nI_ltP, nI_eqP, nI_1, ↓i_inN, i_inN, l_le, l_lt, l_eq, r_le, r_lt, r_eq, sh3, sh6, ↓w_aload_0, ↓w_iload_1, ↓w_iload_2, ↓w_iv, ↓pm_cl2_3, ↓w_ifeq, ↓w_gf3, ↓w_gf0, ↓w_imul, ↓w_iadd, ↓w_iaload, ↓w_goto, ↓w_ret, hw, nI_m24, nI_add])
    | (with_reducible refine bX9_at_2 ?_; simp (disch := omega) only [w_nl0, w_nli, w_nlr, ↓w_ts1, ↓w_ts0, w_rcv, w_rfv, w_cs, true_and, and_true, List.length_nil, List.length_cons, Nat.reduceAdd, Nat.reduceLeDiff, Nat.zero_le, Nat.reduceLT, ↓w_nil, ix_nI, nI_leP, nI_ltP, nI_eqP, nI_1, ↓i_inN, i_inN, l_le, l_lt, l_eq, r_le, r_lt, r_eq, sh3, sh6, ↓w_aload_0, ↓w_iload_1, ↓w_iload_2, ↓w_iv, ↓pm_cl2_3, ↓w_ifeq, ↓w_gf3, ↓w_gf0, ↓w_imul, ↓w_iadd, ↓w_iaload, ↓w_goto, ↓w_ret, hw, nI_m24, nI_add])
    | (with_reducible refine c_insideR (by omega) ?_; simp (disch := omega) only [w_nl0, w_nli, w_nlr, ↓w_ts1, ↓w_ts0, w_rcv, w_rfv, w_cs, true_and, and_true, List.length_nil, List.length_cons, Nat.reduceAdd, Nat.reduceLeDiff, Nat.zero_le, Nat.reduceLT, ↓w_nil, ix_nI, nI_leP, nI_ltP, nI_eqP, nI_1, ↓i_inN, i_inN, l_le, l_lt, l_eq, r_le, r_lt, r_eq, sh3, sh6, ↓w_aload_0, ↓w_iload_1, ↓w_iload_2, ↓w_iv, ↓pm_cl2_3, ↓w_ifeq, ↓w_gf3, ↓w_gf0, ↓w_imul, ↓w_iadd, ↓w_iaload, ↓w_goto, ↓w_ret, hw, nI_m24, nI_add])
    | (simp only [w_in])
    | (intro _))
  all_goals grind
theorem c_dropR {r : Nat} (hd : 2 ≤ d) (hr : r < 6) (hQ : Q none SH (pm_up I 4 r (-1)) J) : pm_C g d 112 [.ref 3, .int (nI r)] Q SH I J := by
  have e2 : (0 : Int32) ≤ nI r ∧ nI r < 6 := by
    constructor
    · exact nI_pos' (by omega)
    · exact nI_lt (b := 6) (by omega) (by omega)
  refine eX9_drop (by omega) ?_
  repeat' (first
    | (apply And.intro)
    | (with_reducible refine bX9_drop_0 ?_; simp (disch := omega) only [w_nl0, w_nli, w_nlr, ↓w_ts1, ↓w_ts0, w_rcv, w_rfv, w_cs, true_and, and_true, List.length_nil, List.length_cons, Nat.reduceAdd, Nat.reduceLeDiff, Nat.zero_le, Nat.reduceLT, ↓w_nil, ix_nI, nI_leP, nI_ltP, nI_eqP, nI_1, ↓i_inN, i_inN, l_le, l_lt, l_eq, r_le, r_lt, r_eq, sh3, sh6, ↓w_aload_0, ↓w_iload_1, ↓w_iv, ↓pm_cl2_2, ↓w_ifeq, ↓w_gf3, ↓w_iconst, ↓w_iastore, ↓w_vret])
    | (with_reducible refine bX9_drop_1 ?_; simp (disch := omega) only [w_nl0, w_nli, w_nlr, ↓w_ts1, ↓w_ts0, w_rcv, w_rfv, w_cs, true_and, and_true, List.length_nil, List.length_cons, Nat.reduceAdd, Nat.reduceLeDiff, Nat.zero_le, Nat.reduceLT, ↓w_nil, ix_nI, nI_leP, nI_ltP, nI_eqP, nI_1, ↓i_inN, i_inN, l_le, l_lt, l_eq, r_le, r_lt, r_eq, sh3, sh6, ↓w_aload_0, ↓w_iload_1, ↓w_iv, ↓pm_cl2_2, ↓w_ifeq, ↓w_gf3, ↓w_iconst, ↓w_iastore, ↓w_vret])
    | (with_reducible refine c_hasR (by omega) ?_; simp (disch := omega) only [w_nl0, w_nli, w_nlr, ↓w_ts1, ↓w_ts0, w_rcv, w_rfv, w_cs, true_and, and_true, List.length_nil, List.length_cons, Nat.reduceAdd, Nat.reduceLeDiff, Nat.zero_le, Nat.reduceLT, ↓w_nil, ix_nI, nI_leP, nI_ltP, nI_eqP, nI_1, ↓i_inN, i_inN, l_le, l_lt, l_eq, r_le, r_lt, r_eq, sh3, sh6, ↓w_aload_0, ↓w_iload_1, ↓w_iv, ↓pm_cl2_2, ↓w_ifeq, ↓w_gf3, ↓w_iconst, ↓w_iastore, ↓w_vret])
    | (simp only [w_in])
    | (intro _))
  all_goals grind
theorem c_changeR {r j s : Nat} {v : Int32} (hd : 5 ≤ d) (hw : I 3 0 = 24) (hr : r < 6) (hs : I 4 r = nI s) (hs2 : s ≤ 24) (hj : j < s) (hQ : Q (some (.int (I 5 (24 * r + j)))) SH (pm_up I 5 (24 * r + j) v) J) : pm_C g d 113 [.ref 3, .int (nI r), .int (nI j), .int v] Q SH I J := by
  have e1 : (0 : Int32) ≤ nI j ∧ nI j < nI s := by constructor <;> simp (disch := omega) only [← nI_0, nI_leP, nI_ltP] <;> omega
  have e2 : (0 : Int32) ≤ nI r ∧ nI r < 6 := by
    constructor
    · exact nI_pos' (by omega)
    · exact nI_lt (b := 6) (by omega) (by omega)
  refine eX9_change (by omega) ?_
  repeat' (first
    | (apply And.intro)
    | (with_reducible refine bX9_change_0 ?_; simp (disch := omega) only [w_nl0, w_nli, w_nlr, ↓w_ts1, ↓w_ts0, w_rcv, w_rfv, w_cs, true_and, and_true, List.length_nil, List.length_cons, Nat.reduceAdd, Nat.reduceLeDiff, Nat.zero_le, Nat.reduceLT, ↓w_nil, ix_nI, nI_leP, nI_ltP, nI_eqP, nI_1, ↓i_inN, i_inN, l_le, l_lt, l_eq, r_le, r_lt, r_eq, sh3, sh6, ↓w_aload_0, ↓w_iload_1, ↓w_iload_2, ↓w_iv, ↓pm_cl2_3, ↓w_istore_4, ↓w_ifeq, ↓w_gf3, ↓w_gf0, ↓w_imul, ↓w_iadd, ↓w_iload_3, ↓w_iastore, ↓w_iload_4, ↓w_ret, hw, nI_m24, nI_add])
    | (with_reducible refine bX9_change_1 ?_; simp (disch := omega) only [w_nl0, w_nli, w_nlr, ↓w_ts1, ↓w_ts0, w_rcv, w_rfv, w_cs, true_and, and_true, List.length_nil, List.length_cons, Nat.reduceAdd, Nat.reduceLeDiff, Nat.zero_le, Nat.reduceLT, ↓w_nil, ix_nI, nI_leP, nI_ltP, nI_eqP, nI_1, ↓i_inN, i_inN, l_le, l_lt, l_eq, r_le, r_lt, r_eq, sh3, sh6, ↓w_aload_0, ↓w_iload_1, ↓w_iload_2, ↓w_iv, ↓pm_cl2_3, ↓w_istore_4, ↓w_ifeq, ↓w_gf3, ↓w_gf0, ↓w_imul, ↓w_iadd, ↓w_iload_3, ↓w_iastore, ↓w_iload_4, ↓w_ret, hw, nI_m24, nI_add])
    | (with_reducible refine c_insideR (by omega) ?_; simp (disch := omega) only [w_nl0, w_nli, w_nlr, ↓w_ts1, ↓w_ts0, w_rcv, w_rfv, w_cs, true_and, and_true, List.length_nil, List.length_cons, Nat.reduceAdd, Nat.reduceLeDiff, Nat.zero_le, Nat.reduceLT, ↓w_nil, ix_nI, nI_leP, nI_ltP, nI_eqP, nI_1, ↓i_inN, i_inN, l_le, l_lt, l_eq, r_le, r_lt, r_eq, sh3, sh6, ↓w_aload_0, ↓w_iload_1, ↓w_iload_2, ↓w_iv, ↓pm_cl2_3, ↓w_istore_4, ↓w_ifeq, ↓w_gf3, ↓w_gf0, ↓w_imul, ↓w_iadd, ↓w_iload_3, ↓w_iastore, ↓w_iload_4, ↓w_ret, hw, nI_m24, nI_add])
    | (with_reducible refine c_atR (by omega) hw hr hs hs2 hj ?_; simp (disch := omega) only [w_nl0, w_nli, w_nlr, ↓w_ts1, ↓w_ts0, w_rcv, w_rfv, w_cs, true_and, and_true, List.length_nil, List.length_cons, Nat.reduceAdd, Nat.reduceLeDiff, Nat.zero_le, Nat.reduceLT, ↓w_nil, ix_nI, nI_leP, nI_ltP, nI_eqP, nI_1, ↓i_inN, i_inN, l_le, l_lt, l_eq, r_le, r_lt, r_eq, sh3, sh6, ↓w_aload_0, ↓w_iload_1, ↓w_iload_2, ↓w_iv, ↓pm_cl2_3, ↓w_istore_4, ↓w_ifeq, ↓w_gf3, ↓w_gf0, ↓w_imul, ↓w_iadd, ↓w_iload_3, ↓w_iastore, ↓w_iload_4, ↓w_ret, hw, nI_m24, nI_add])
    | (simp only [w_in])
    | (intro _))
  all_goals grind
theorem c_bringR {r n : Nat} (hd : 2 ≤ d) (hw : I 3 0 = 24) (hbl : I 3 1 = 0) (hr : r < 6) (hn : n ≤ 24) (hQ : Q none SH (itr (fun k M => pm_up M 5 (24 * r + k) 0) (pm_up I 4 r (nI n)) n) J) : pm_C g d 111 [.ref 3, .int (nI r), .int (nI n)] Q SH I J := by
  have e2 : (0 : Int32) ≤ nI r ∧ nI r < 6 := by
    constructor
    · exact nI_pos' (by omega)
    · exact nI_lt (b := 6) (by omega) (by omega)
  have e3 : (0 : Int32) ≤ nI n ∧ nI n ≤ 24 := by
    constructor
    · exact nI_pos' (by omega)
    · exact nI_le (b := 24) (by omega) (by omega)
  refine eX9_bring (by omega) ?_
  repeat' (first
    | (apply And.intro)
    | (with_reducible refine bX9_bring_0 ?_; simp (disch := omega) only [w_nl0, w_nli, w_nlr, ↓w_ts1, ↓w_ts0, w_rcv, w_rfv, w_cs, true_and, and_true, List.length_nil, List.length_cons, Nat.reduceAdd, Nat.reduceLeDiff, Nat.zero_le, Nat.reduceLT, ↓w_nil, ix_nI, nI_leP, nI_ltP, nI_eqP, nI_1, ↓i_inN, i_inN, l_le, l_lt, l_eq, r_le, r_lt, r_eq, sh3, sh6, ↓w_aload_0, ↓w_iload_1, ↓w_iv, ↓pm_cl2_2, ↓w_ifeq, ↓w_iload_2, ↓w_iflt, ↓w_gf0, ↓w_icle, ↓w_vret, ↓w_gf3, ↓w_iastore, ↓w_iconst, ↓w_istore_3, ↓w_iload_3, ↓w_icge, ↓w_imul, ↓w_iadd, ↓w_iinc_3, ↓w_goto, hw])
    | (with_reducible refine bX9_bring_1 ?_; simp (disch := omega) only [w_nl0, w_nli, w_nlr, ↓w_ts1, ↓w_ts0, w_rcv, w_rfv, w_cs, true_and, and_true, List.length_nil, List.length_cons, Nat.reduceAdd, Nat.reduceLeDiff, Nat.zero_le, Nat.reduceLT, ↓w_nil, ix_nI, nI_leP, nI_ltP, nI_eqP, nI_1, ↓i_inN, i_inN, l_le, l_lt, l_eq, r_le, r_lt, r_eq, sh3, sh6, ↓w_aload_0, ↓w_iload_1, ↓w_iv, ↓pm_cl2_2, ↓w_ifeq, ↓w_iload_2, ↓w_iflt, ↓w_gf0, ↓w_icle, ↓w_vret, ↓w_gf3, ↓w_iastore, ↓w_iconst, ↓w_istore_3, ↓w_iload_3, ↓w_icge, ↓w_imul, ↓w_iadd, ↓w_iinc_3, ↓w_goto, hw])
    | (with_reducible refine bX9_bring_2 ?_; simp (disch := omega) only [w_nl0, w_nli, w_nlr, ↓w_ts1, ↓w_ts0, w_rcv, w_rfv, w_cs, true_and, and_true, List.length_nil, List.length_cons, Nat.reduceAdd, Nat.reduceLeDiff, Nat.zero_le, Nat.reduceLT, ↓w_nil, ix_nI, nI_leP, nI_ltP, nI_eqP, nI_1, ↓i_inN, i_inN, l_le, l_lt, l_eq, r_le, r_lt, r_eq, sh3, sh6, ↓w_aload_0, ↓w_iload_1, ↓w_iv, ↓pm_cl2_2, ↓w_ifeq, ↓w_iload_2, ↓w_iflt, ↓w_gf0, ↓w_icle, ↓w_vret, ↓w_gf3, ↓w_iastore, ↓w_iconst, ↓w_istore_3, ↓w_iload_3, ↓w_icge, ↓w_imul, ↓w_iadd, ↓w_iinc_3, ↓w_goto, hw])
    | (with_reducible refine c_hasR (by omega) ?_; simp (disch := omega) only [w_nl0, w_nli, w_nlr, ↓w_ts1, ↓w_ts0, w_rcv, w_rfv, w_cs, true_and, and_true, List.length_nil, List.length_cons, Nat.reduceAdd, Nat.reduceLeDiff, Nat.zero_le, Nat.reduceLT, ↓w_nil, ix_nI, nI_leP, nI_ltP, nI_eqP, nI_1, ↓i_inN, i_inN, l_le, l_lt, l_eq, r_le, r_lt, r_eq, sh3, sh6, ↓w_aload_0, ↓w_iload_1, ↓w_iv, ↓pm_cl2_2, ↓w_ifeq, ↓w_iload_2, ↓w_iflt, ↓w_gf0, ↓w_icle, ↓w_vret, ↓w_gf3, ↓w_iastore, ↓w_iconst, ↓w_istore_3, ↓w_iload_3, ↓w_icge, ↓w_imul, ↓w_iadd, ↓w_iinc_3, ↓w_goto, hw])
    | (simp only [w_in])
    | (intro _))
  all_goals try grind
  have hz : ∀ k, (itr (fun k (M : pm_MI) => pm_up M 5 (24 * r + k) 0) (pm_up I 4 r (nI n)) k : pm_MI) 3 = I 3 := fun k => itr_inv (fun (_ : Nat) (M : pm_MI) => M 3 = I 3) (by simp [pm_up]) (fun k _ b h => by simp [pm_up, h])
  refine pm_for (f := fun k M => pm_up M 5 (24 * r + k) 0) (U := fun k a => UU g (d - 1) 111 kX9_bring (pm_rm d 111) Q 3 [some (.ref 3), some (.int (nI r)), some (.int (nI n)), some (.int (nI k))] [] SH a J (0, 0)) n (fun k b hk hb w => ?_) ?_
  · have hz := hz k
    rw [← hb] at hz
    refine bX9_bring_3 ?_
    simp (disch := omega) only [w_nl0, w_nli, w_nlr, ↓w_ts1, ↓w_ts0, w_rcv, w_rfv, w_cs, true_and, and_true, List.length_nil, List.length_cons, Nat.reduceAdd, Nat.reduceLeDiff, Nat.zero_le, Nat.reduceLT, ↓w_nil, ix_nI, nI_leP, nI_ltP, nI_eqP, nI_1, ↓i_inN, i_inN, l_le, l_lt, l_eq, r_le, r_lt, r_eq, sh3, sh6, ↓w_iload_3, ↓w_iload_2, ↓w_icge, ↓w_aload_0, ↓w_gf3, ↓w_iload_1, ↓w_gf0, ↓w_imul, ↓w_iadd, ↓w_iastore, ↓w_iinc_3, ↓w_goto, hz, hw, hbl, nI_m24, nI_add]
    repeat' (first
      | (apply And.intro)
      | (simp only [w_in])
      | (intro _))
    all_goals grind
  · refine bX9_bring_3 ?_
    simp (disch := omega) only [w_nl0, w_nli, w_nlr, ↓w_ts1, ↓w_ts0, w_rcv, w_rfv, w_cs, true_and, and_true, List.length_nil, List.length_cons, Nat.reduceAdd, Nat.reduceLeDiff, Nat.zero_le, Nat.reduceLT, ↓w_nil, ix_nI, nI_leP, nI_ltP, nI_eqP, nI_1, ↓i_inN, i_inN, l_le, l_lt, l_eq, r_le, r_lt, r_eq, sh3, sh6, ↓w_iload_3, ↓w_iload_2, ↓w_icge, ↓w_aload_0, ↓w_gf3, ↓w_iload_1, ↓w_gf0, ↓w_imul, ↓w_iadd, ↓w_iastore, ↓w_iinc_3, ↓w_goto]
    repeat' (first
      | (apply And.intro)
      | (with_reducible refine bX9_bring_4 ?_; simp (disch := omega) only [w_nl0, w_nli, w_nlr, ↓w_ts1, ↓w_ts0, w_rcv, w_rfv, w_cs, true_and, and_true, List.length_nil, List.length_cons, Nat.reduceAdd, Nat.reduceLeDiff, Nat.zero_le, Nat.reduceLT, ↓w_nil, ix_nI, nI_leP, nI_ltP, nI_eqP, nI_1, ↓i_inN, i_inN, l_le, l_lt, l_eq, r_le, r_lt, r_eq, sh3, sh6, ↓w_aload_0, ↓w_iload_1, ↓w_iv, ↓pm_cl2_2, ↓w_ifeq, ↓w_iload_2, ↓w_iflt, ↓w_gf0, ↓w_icle, ↓w_vret, ↓w_gf3, ↓w_iastore, ↓w_iconst, ↓w_istore_3, ↓w_iload_3, ↓w_icge, ↓w_imul, ↓w_iadd, ↓w_iinc_3, ↓w_goto])
      | (simp only [w_in])
      | (intro _))
    all_goals grind
theorem c_presentR (hd : 1 ≤ d) (hQ : Q (some (.int (itr (fun k a => if I 4 k < 0 then a else a + 1) 0 6))) SH I J) : pm_C g d 115 [.ref 3] Q SH I J := by
  refine eX9_present (by omega) ?_
  refine bX9_present_0 ?_
  simp (disch := omega) only [w_nl0, w_nli, w_nlr, ↓w_ts1, ↓w_ts0, w_rcv, w_rfv, w_cs, true_and, and_true, List.length_nil, List.length_cons, Nat.reduceAdd, Nat.reduceLeDiff, Nat.zero_le, Nat.reduceLT, ↓w_nil, ix_nI, nI_leP, nI_ltP, nI_eqP, nI_1, ↓i_inN, i_inN, l_le, l_lt, l_eq, r_le, r_lt, r_eq, sh3, sh6, ↓w_iconst, ↓w_istore_1, ↓w_istore_2]
  refine pm_for (f := fun k a => if I 4 k < 0 then a else a + 1) (U := fun k a => UU g (d - 1) 115 kX9_present (pm_rm d 115) Q 1 [some (.ref 3), some (.int a), some (.int (nI k))] [] SH I J (0, 0)) 6 (fun k b hk hb w => ?_) ?_
  · refine bX9_present_1 ?_
    simp (disch := omega) only [w_nl0, w_nli, w_nlr, ↓w_ts1, ↓w_ts0, w_rcv, w_rfv, w_cs, true_and, and_true, List.length_nil, List.length_cons, Nat.reduceAdd, Nat.reduceLeDiff, Nat.zero_le, Nat.reduceLT, ↓w_nil, ix_nI, nI_leP, nI_ltP, nI_eqP, nI_1, ↓i_inN, i_inN, l_le, l_lt, l_eq, r_le, r_lt, r_eq, sh3, sh6, ↓w_iload_2, ↓w_aload_0, ↓w_gf3, ↓w_alen, ↓w_slen, ↓w_icge, ↓w_iaload, ↓w_iflt, ↓w_iinc_1, l_onI]
    repeat' (first
      | (apply And.intro)
      | (with_reducible refine bX9_present_2 ?_; simp (disch := omega) only [w_nl0, w_nli, w_nlr, ↓w_ts1, ↓w_ts0, w_rcv, w_rfv, w_cs, true_and, and_true, List.length_nil, List.length_cons, Nat.reduceAdd, Nat.reduceLeDiff, Nat.zero_le, Nat.reduceLT, ↓w_nil, ix_nI, nI_leP, nI_ltP, nI_eqP, nI_1, ↓i_inN, i_inN, l_le, l_lt, l_eq, r_le, r_lt, r_eq, sh3, sh6, ↓w_iconst, ↓w_istore_1, ↓w_istore_2, ↓w_iload_2, ↓w_aload_0, ↓w_gf3, ↓w_alen, ↓w_slen, ↓w_icge, ↓w_iaload, ↓w_iflt, ↓w_iinc_1, ↓w_iinc_2, ↓w_goto, ↓w_iload_1, ↓w_ret])
      | (simp only [w_in])
      | (intro _))
    all_goals grind
  · refine bX9_present_1 ?_
    simp (disch := omega) only [w_nl0, w_nli, w_nlr, ↓w_ts1, ↓w_ts0, w_rcv, w_rfv, w_cs, true_and, and_true, List.length_nil, List.length_cons, Nat.reduceAdd, Nat.reduceLeDiff, Nat.zero_le, Nat.reduceLT, ↓w_nil, ix_nI, nI_leP, nI_ltP, nI_eqP, nI_1, ↓i_inN, i_inN, l_le, l_lt, l_eq, r_le, r_lt, r_eq, sh3, sh6, ↓w_iload_2, ↓w_aload_0, ↓w_gf3, ↓w_alen, ↓w_slen, ↓w_icge, ↓w_iaload, ↓w_iflt, ↓w_iinc_1, l_onI]
    repeat' (first
      | (apply And.intro)
      | (with_reducible refine bX9_present_3 ?_; simp (disch := omega) only [w_nl0, w_nli, w_nlr, ↓w_ts1, ↓w_ts0, w_rcv, w_rfv, w_cs, true_and, and_true, List.length_nil, List.length_cons, Nat.reduceAdd, Nat.reduceLeDiff, Nat.zero_le, Nat.reduceLT, ↓w_nil, ix_nI, nI_leP, nI_ltP, nI_eqP, nI_1, ↓i_inN, i_inN, l_le, l_lt, l_eq, r_le, r_lt, r_eq, sh3, sh6, ↓w_iconst, ↓w_istore_1, ↓w_istore_2, ↓w_iload_2, ↓w_aload_0, ↓w_gf3, ↓w_alen, ↓w_slen, ↓w_icge, ↓w_iaload, ↓w_iflt, ↓w_iinc_1, ↓w_iinc_2, ↓w_goto, ↓w_iload_1, ↓w_ret])
      | (simp only [w_in])
      | (intro _))
    all_goals grind
theorem c_atT {r j s : Nat} (hd : 4 ≤ d) (hw : I 6 0 = 48) (hr : r < 4) (hs : I 7 r = nI s) (hs2 : s ≤ 48) (hj : j < s) (hQ : Q (some (.int (I 8 (48 * r + j)))) SH I J) : pm_C g d 110 [.ref 6, .int (nI r), .int (nI j)] Q SH I J := by
  have e1 : (0 : Int32) ≤ nI j ∧ nI j < nI s := by constructor <;> simp (disch := omega) only [← nI_0, nI_leP, nI_ltP] <;> omega
  have e2 : (0 : Int32) ≤ nI r ∧ nI r < 4 := by
    constructor
    · exact nI_pos' (by omega)
    · exact nI_lt (b := 4) (by omega) (by omega)
  refine eX9_at (by omega) ?_
  repeat' (first
    | (apply And.intro)
    | (with_reducible refine bX9_at_0 ?_; simp (disch := omega) only [w_nl0, w_nli, w_nlr, ↓w_ts1, ↓w_ts0, w_rcv, w_rfv, w_cs, true_and, and_true, List.length_nil, List.length_cons, Nat.reduceAdd, Nat.reduceLeDiff, Nat.zero_le, Nat.reduceLT, ↓w_nil, ix_nI, nI_leP, nI_ltP, nI_eqP, nI_1, ↓i_inN, i_inN, l_le, l_lt, l_eq, r_le, r_lt, r_eq, sh3, sh6, ↓w_aload_0, ↓w_iload_1, ↓w_iload_2, ↓w_iv, ↓pm_cl2_3, ↓w_ifeq, ↓w_gf3, ↓w_gf0, ↓w_imul, ↓w_iadd, ↓w_iaload, ↓w_goto, ↓w_ret, hw, nI_m48, nI_add])
    | (with_reducible refine bX9_at_1 ?_; simp (disch := omega) only [w_nl0, w_nli, w_nlr, ↓w_ts1, ↓w_ts0, w_rcv, w_rfv, w_cs, true_and, and_true, List.length_nil, List.length_cons, Nat.reduceAdd, Nat.reduceLeDiff, Nat.zero_le, Nat.reduceLT, ↓w_nil, ix_nI, nI_leP, nI_ltP, nI_eqP, nI_1, ↓i_inN, i_inN, l_le, l_lt, l_eq, r_le, r_lt, r_eq, sh3, sh6, ↓w_aload_0, ↓w_iload_1, ↓w_iload_2, ↓w_iv, ↓pm_cl2_3, ↓w_ifeq, ↓w_gf3, ↓w_gf0, ↓w_imul, ↓w_iadd, ↓w_iaload, ↓w_goto, ↓w_ret, hw, nI_m48, nI_add])
    | (with_reducible refine bX9_at_2 ?_; simp (disch := omega) only [w_nl0, w_nli, w_nlr, ↓w_ts1, ↓w_ts0, w_rcv, w_rfv, w_cs, true_and, and_true, List.length_nil, List.length_cons, Nat.reduceAdd, Nat.reduceLeDiff, Nat.zero_le, Nat.reduceLT, ↓w_nil, ix_nI, nI_leP, nI_ltP, nI_eqP, nI_1, ↓i_inN, i_inN, l_le, l_lt, l_eq, r_le, r_lt, r_eq, sh3, sh6, ↓w_aload_0, ↓w_iload_1, ↓w_iload_2, ↓w_iv, ↓pm_cl2_3, ↓w_ifeq, ↓w_gf3, ↓w_gf0, ↓w_imul, ↓w_iadd, ↓w_iaload, ↓w_goto, ↓w_ret, hw, nI_m48, nI_add])
    | (with_reducible refine c_insideT (by omega) ?_; simp (disch := omega) only [w_nl0, w_nli, w_nlr, ↓w_ts1, ↓w_ts0, w_rcv, w_rfv, w_cs, true_and, and_true, List.length_nil, List.length_cons, Nat.reduceAdd, Nat.reduceLeDiff, Nat.zero_le, Nat.reduceLT, ↓w_nil, ix_nI, nI_leP, nI_ltP, nI_eqP, nI_1, ↓i_inN, i_inN, l_le, l_lt, l_eq, r_le, r_lt, r_eq, sh3, sh6, ↓w_aload_0, ↓w_iload_1, ↓w_iload_2, ↓w_iv, ↓pm_cl2_3, ↓w_ifeq, ↓w_gf3, ↓w_gf0, ↓w_imul, ↓w_iadd, ↓w_iaload, ↓w_goto, ↓w_ret, hw, nI_m48, nI_add])
    | (simp only [w_in])
    | (intro _))
  all_goals grind
theorem c_dropT {r : Nat} (hd : 2 ≤ d) (hr : r < 4) (hQ : Q none SH (pm_up I 7 r (-1)) J) : pm_C g d 112 [.ref 6, .int (nI r)] Q SH I J := by
  have e2 : (0 : Int32) ≤ nI r ∧ nI r < 4 := by
    constructor
    · exact nI_pos' (by omega)
    · exact nI_lt (b := 4) (by omega) (by omega)
  refine eX9_drop (by omega) ?_
  repeat' (first
    | (apply And.intro)
    | (with_reducible refine bX9_drop_0 ?_; simp (disch := omega) only [w_nl0, w_nli, w_nlr, ↓w_ts1, ↓w_ts0, w_rcv, w_rfv, w_cs, true_and, and_true, List.length_nil, List.length_cons, Nat.reduceAdd, Nat.reduceLeDiff, Nat.zero_le, Nat.reduceLT, ↓w_nil, ix_nI, nI_leP, nI_ltP, nI_eqP, nI_1, ↓i_inN, i_inN, l_le, l_lt, l_eq, r_le, r_lt, r_eq, sh3, sh6, ↓w_aload_0, ↓w_iload_1, ↓w_iv, ↓pm_cl2_2, ↓w_ifeq, ↓w_gf3, ↓w_iconst, ↓w_iastore, ↓w_vret])
    | (with_reducible refine bX9_drop_1 ?_; simp (disch := omega) only [w_nl0, w_nli, w_nlr, ↓w_ts1, ↓w_ts0, w_rcv, w_rfv, w_cs, true_and, and_true, List.length_nil, List.length_cons, Nat.reduceAdd, Nat.reduceLeDiff, Nat.zero_le, Nat.reduceLT, ↓w_nil, ix_nI, nI_leP, nI_ltP, nI_eqP, nI_1, ↓i_inN, i_inN, l_le, l_lt, l_eq, r_le, r_lt, r_eq, sh3, sh6, ↓w_aload_0, ↓w_iload_1, ↓w_iv, ↓pm_cl2_2, ↓w_ifeq, ↓w_gf3, ↓w_iconst, ↓w_iastore, ↓w_vret])
    | (with_reducible refine c_hasT (by omega) ?_; simp (disch := omega) only [w_nl0, w_nli, w_nlr, ↓w_ts1, ↓w_ts0, w_rcv, w_rfv, w_cs, true_and, and_true, List.length_nil, List.length_cons, Nat.reduceAdd, Nat.reduceLeDiff, Nat.zero_le, Nat.reduceLT, ↓w_nil, ix_nI, nI_leP, nI_ltP, nI_eqP, nI_1, ↓i_inN, i_inN, l_le, l_lt, l_eq, r_le, r_lt, r_eq, sh3, sh6, ↓w_aload_0, ↓w_iload_1, ↓w_iv, ↓pm_cl2_2, ↓w_ifeq, ↓w_gf3, ↓w_iconst, ↓w_iastore, ↓w_vret])
    | (simp only [w_in])
    | (intro _))
  all_goals grind
theorem c_changeT {r j s : Nat} {v : Int32} (hd : 5 ≤ d) (hw : I 6 0 = 48) (hr : r < 4) (hs : I 7 r = nI s) (hs2 : s ≤ 48) (hj : j < s) (hQ : Q (some (.int (I 8 (48 * r + j)))) SH (pm_up I 8 (48 * r + j) v) J) : pm_C g d 113 [.ref 6, .int (nI r), .int (nI j), .int v] Q SH I J := by
  have e1 : (0 : Int32) ≤ nI j ∧ nI j < nI s := by constructor <;> simp (disch := omega) only [← nI_0, nI_leP, nI_ltP] <;> omega
  have e2 : (0 : Int32) ≤ nI r ∧ nI r < 4 := by
    constructor
    · exact nI_pos' (by omega)
    · exact nI_lt (b := 4) (by omega) (by omega)
  refine eX9_change (by omega) ?_
  repeat' (first
    | (apply And.intro)
    | (with_reducible refine bX9_change_0 ?_; simp (disch := omega) only [w_nl0, w_nli, w_nlr, ↓w_ts1, ↓w_ts0, w_rcv, w_rfv, w_cs, true_and, and_true, List.length_nil, List.length_cons, Nat.reduceAdd, Nat.reduceLeDiff, Nat.zero_le, Nat.reduceLT, ↓w_nil, ix_nI, nI_leP, nI_ltP, nI_eqP, nI_1, ↓i_inN, i_inN, l_le, l_lt, l_eq, r_le, r_lt, r_eq, sh3, sh6, ↓w_aload_0, ↓w_iload_1, ↓w_iload_2, ↓w_iv, ↓pm_cl2_3, ↓w_istore_4, ↓w_ifeq, ↓w_gf3, ↓w_gf0, ↓w_imul, ↓w_iadd, ↓w_iload_3, ↓w_iastore, ↓w_iload_4, ↓w_ret, hw, nI_m48, nI_add])
    | (with_reducible refine bX9_change_1 ?_; simp (disch := omega) only [w_nl0, w_nli, w_nlr, ↓w_ts1, ↓w_ts0, w_rcv, w_rfv, w_cs, true_and, and_true, List.length_nil, List.length_cons, Nat.reduceAdd, Nat.reduceLeDiff, Nat.zero_le, Nat.reduceLT, ↓w_nil, ix_nI, nI_leP, nI_ltP, nI_eqP, nI_1, ↓i_inN, i_inN, l_le, l_lt, l_eq, r_le, r_lt, r_eq, sh3, sh6, ↓w_aload_0, ↓w_iload_1, ↓w_iload_2, ↓w_iv, ↓pm_cl2_3, ↓w_istore_4, ↓w_ifeq, ↓w_gf3, ↓w_gf0, ↓w_imul, ↓w_iadd, ↓w_iload_3, ↓w_iastore, ↓w_iload_4, ↓w_ret, hw, nI_m48, nI_add])
    | (with_reducible refine c_insideT (by omega) ?_; simp (disch := omega) only [w_nl0, w_nli, w_nlr, ↓w_ts1, ↓w_ts0, w_rcv, w_rfv, w_cs, true_and, and_true, List.length_nil, List.length_cons, Nat.reduceAdd, Nat.reduceLeDiff, Nat.zero_le, Nat.reduceLT, ↓w_nil, ix_nI, nI_leP, nI_ltP, nI_eqP, nI_1, ↓i_inN, i_inN, l_le, l_lt, l_eq, r_le, r_lt, r_eq, sh3, sh6, ↓w_aload_0, ↓w_iload_1, ↓w_iload_2, ↓w_iv, ↓pm_cl2_3, ↓w_istore_4, ↓w_ifeq, ↓w_gf3, ↓w_gf0, ↓w_imul, ↓w_iadd, ↓w_iload_3, ↓w_iastore, ↓w_iload_4, ↓w_ret, hw, nI_m48, nI_add])
    | (with_reducible refine c_atT (by omega) hw hr hs hs2 hj ?_; simp (disch := omega) only [w_nl0, w_nli, w_nlr, ↓w_ts1, ↓w_ts0, w_rcv, w_rfv, w_cs, true_and, and_true, List.length_nil, List.length_cons, Nat.reduceAdd, Nat.reduceLeDiff, Nat.zero_le, Nat.reduceLT, ↓w_nil, ix_nI, nI_leP, nI_ltP, nI_eqP, nI_1, ↓i_inN, i_inN, l_le, l_lt, l_eq, r_le, r_lt, r_eq, sh3, sh6, ↓w_aload_0, ↓w_iload_1, ↓w_iload_2, ↓w_iv, ↓pm_cl2_3, ↓w_istore_4, ↓w_ifeq, ↓w_gf3, ↓w_gf0, ↓w_imul, ↓w_iadd, ↓w_iload_3, ↓w_iastore, ↓w_iload_4, ↓w_ret, hw, nI_m48, nI_add])
    | (simp only [w_in])
    | (intro _))
  all_goals grind
theorem c_bringT {r n : Nat} (hd : 2 ≤ d) (hw : I 6 0 = 48) (hbl : I 6 1 = 32) (hr : r < 4) (hn : n ≤ 48) (hQ : Q none SH (itr (fun k M => pm_up M 8 (48 * r + k) 32) (pm_up I 7 r (nI n)) n) J) : pm_C g d 111 [.ref 6, .int (nI r), .int (nI n)] Q SH I J := by
  have e2 : (0 : Int32) ≤ nI r ∧ nI r < 4 := by
    constructor
    · exact nI_pos' (by omega)
    · exact nI_lt (b := 4) (by omega) (by omega)
  have e3 : (0 : Int32) ≤ nI n ∧ nI n ≤ 48 := by
    constructor
    · exact nI_pos' (by omega)
    · exact nI_le (b := 48) (by omega) (by omega)
  refine eX9_bring (by omega) ?_
  repeat' (first
    | (apply And.intro)
    | (with_reducible refine bX9_bring_0 ?_; simp (disch := omega) only [w_nl0, w_nli, w_nlr, ↓w_ts1, ↓w_ts0, w_rcv, w_rfv, w_cs, true_and, and_true, List.length_nil, List.length_cons, Nat.reduceAdd, Nat.reduceLeDiff, Nat.zero_le, Nat.reduceLT, ↓w_nil, ix_nI, nI_leP, nI_ltP, nI_eqP, nI_1, ↓i_inN, i_inN, l_le, l_lt, l_eq, r_le, r_lt, r_eq, sh3, sh6, ↓w_aload_0, ↓w_iload_1, ↓w_iv, ↓pm_cl2_2, ↓w_ifeq, ↓w_iload_2, ↓w_iflt, ↓w_gf0, ↓w_icle, ↓w_vret, ↓w_gf3, ↓w_iastore, ↓w_iconst, ↓w_istore_3, ↓w_iload_3, ↓w_icge, ↓w_imul, ↓w_iadd, ↓w_iinc_3, ↓w_goto, hw])
    | (with_reducible refine bX9_bring_1 ?_; simp (disch := omega) only [w_nl0, w_nli, w_nlr, ↓w_ts1, ↓w_ts0, w_rcv, w_rfv, w_cs, true_and, and_true, List.length_nil, List.length_cons, Nat.reduceAdd, Nat.reduceLeDiff, Nat.zero_le, Nat.reduceLT, ↓w_nil, ix_nI, nI_leP, nI_ltP, nI_eqP, nI_1, ↓i_inN, i_inN, l_le, l_lt, l_eq, r_le, r_lt, r_eq, sh3, sh6, ↓w_aload_0, ↓w_iload_1, ↓w_iv, ↓pm_cl2_2, ↓w_ifeq, ↓w_iload_2, ↓w_iflt, ↓w_gf0, ↓w_icle, ↓w_vret, ↓w_gf3, ↓w_iastore, ↓w_iconst, ↓w_istore_3, ↓w_iload_3, ↓w_icge, ↓w_imul, ↓w_iadd, ↓w_iinc_3, ↓w_goto, hw])
    | (with_reducible refine bX9_bring_2 ?_; simp (disch := omega) only [w_nl0, w_nli, w_nlr, ↓w_ts1, ↓w_ts0, w_rcv, w_rfv, w_cs, true_and, and_true, List.length_nil, List.length_cons, Nat.reduceAdd, Nat.reduceLeDiff, Nat.zero_le, Nat.reduceLT, ↓w_nil, ix_nI, nI_leP, nI_ltP, nI_eqP, nI_1, ↓i_inN, i_inN, l_le, l_lt, l_eq, r_le, r_lt, r_eq, sh3, sh6, ↓w_aload_0, ↓w_iload_1, ↓w_iv, ↓pm_cl2_2, ↓w_ifeq, ↓w_iload_2, ↓w_iflt, ↓w_gf0, ↓w_icle, ↓w_vret, ↓w_gf3, ↓w_iastore, ↓w_iconst, ↓w_istore_3, ↓w_iload_3, ↓w_icge, ↓w_imul, ↓w_iadd, ↓w_iinc_3, ↓w_goto, hw])
    | (with_reducible refine c_hasT (by omega) ?_; simp (disch := omega) only [w_nl0, w_nli, w_nlr, ↓w_ts1, ↓w_ts0, w_rcv, w_rfv, w_cs, true_and, and_true, List.length_nil, List.length_cons, Nat.reduceAdd, Nat.reduceLeDiff, Nat.zero_le, Nat.reduceLT, ↓w_nil, ix_nI, nI_leP, nI_ltP, nI_eqP, nI_1, ↓i_inN, i_inN, l_le, l_lt, l_eq, r_le, r_lt, r_eq, sh3, sh6, ↓w_aload_0, ↓w_iload_1, ↓w_iv, ↓pm_cl2_2, ↓w_ifeq, ↓w_iload_2, ↓w_iflt, ↓w_gf0, ↓w_icle, ↓w_vret, ↓w_gf3, ↓w_iastore, ↓w_iconst, ↓w_istore_3, ↓w_iload_3, ↓w_icge, ↓w_imul, ↓w_iadd, ↓w_iinc_3, ↓w_goto, hw])
    | (simp only [w_in])
    | (intro _))
  all_goals try grind
  have hz : ∀ k, (itr (fun k (M : pm_MI) => pm_up M 8 (48 * r + k) 32) (pm_up I 7 r (nI n)) k : pm_MI) 6 = I 6 := fun k => itr_inv (fun (_ : Nat) (M : pm_MI) => M 6 = I 6) (by simp [pm_up]) (fun k _ b h => by simp [pm_up, h])
  refine pm_for (f := fun k M => pm_up M 8 (48 * r + k) 32) (U := fun k a => UU g (d - 1) 111 kX9_bring (pm_rm d 111) Q 3 [some (.ref 6), some (.int (nI r)), some (.int (nI n)), some (.int (nI k))] [] SH a J (0, 0)) n (fun k b hk hb w => ?_) ?_
  · have hz := hz k
    rw [← hb] at hz
    refine bX9_bring_3 ?_
    simp (disch := omega) only [w_nl0, w_nli, w_nlr, ↓w_ts1, ↓w_ts0, w_rcv, w_rfv, w_cs, true_and, and_true, List.length_nil, List.length_cons, Nat.reduceAdd, Nat.reduceLeDiff, Nat.zero_le, Nat.reduceLT, ↓w_nil, ix_nI, nI_leP, nI_ltP, nI_eqP, nI_1, ↓i_inN, i_inN, l_le, l_lt, l_eq, r_le, r_lt, r_eq, sh3, sh6, ↓w_iload_3, ↓w_iload_2, ↓w_icge, ↓w_aload_0, ↓w_gf3, ↓w_iload_1, ↓w_gf0, ↓w_imul, ↓w_iadd, ↓w_iastore, ↓w_iinc_3, ↓w_goto, hz, hw, hbl, nI_m48, nI_add]
    repeat' (first
      | (apply And.intro)
      | (simp only [w_in])
      | (intro _))
    all_goals grind
  · refine bX9_bring_3 ?_
    simp (disch := omega) only [w_nl0, w_nli, w_nlr, ↓w_ts1, ↓w_ts0, w_rcv, w_rfv, w_cs, true_and, and_true, List.length_nil, List.length_cons, Nat.reduceAdd, Nat.reduceLeDiff, Nat.zero_le, Nat.reduceLT, ↓w_nil, ix_nI, nI_leP, nI_ltP, nI_eqP, nI_1, ↓i_inN, i_inN, l_le, l_lt, l_eq, r_le, r_lt, r_eq, sh3, sh6, ↓w_iload_3, ↓w_iload_2, ↓w_icge, ↓w_aload_0, ↓w_gf3, ↓w_iload_1, ↓w_gf0, ↓w_imul, ↓w_iadd, ↓w_iastore, ↓w_iinc_3, ↓w_goto]
    repeat' (first
      | (apply And.intro)
      | (with_reducible refine bX9_bring_4 ?_; simp (disch := omega) only [w_nl0, w_nli, w_nlr, ↓w_ts1, ↓w_ts0, w_rcv, w_rfv, w_cs, true_and, and_true, List.length_nil, List.length_cons, Nat.reduceAdd, Nat.reduceLeDiff, Nat.zero_le, Nat.reduceLT, ↓w_nil, ix_nI, nI_leP, nI_ltP, nI_eqP, nI_1, ↓i_inN, i_inN, l_le, l_lt, l_eq, r_le, r_lt, r_eq, sh3, sh6, ↓w_aload_0, ↓w_iload_1, ↓w_iv, ↓pm_cl2_2, ↓w_ifeq, ↓w_iload_2, ↓w_iflt, ↓w_gf0, ↓w_icle, ↓w_vret, ↓w_gf3, ↓w_iastore, ↓w_iconst, ↓w_istore_3, ↓w_iload_3, ↓w_icge, ↓w_imul, ↓w_iadd, ↓w_iinc_3, ↓w_goto])
      | (simp only [w_in])
      | (intro _))
    all_goals grind
theorem c_presentT (hd : 1 ≤ d) (hQ : Q (some (.int (itr (fun k a => if I 7 k < 0 then a else a + 1) 0 4))) SH I J) : pm_C g d 115 [.ref 6] Q SH I J := by
  refine eX9_present (by omega) ?_
  refine bX9_present_0 ?_
  simp (disch := omega) only [w_nl0, w_nli, w_nlr, ↓w_ts1, ↓w_ts0, w_rcv, w_rfv, w_cs, true_and, and_true, List.length_nil, List.length_cons, Nat.reduceAdd, Nat.reduceLeDiff, Nat.zero_le, Nat.reduceLT, ↓w_nil, ix_nI, nI_leP, nI_ltP, nI_eqP, nI_1, ↓i_inN, i_inN, l_le, l_lt, l_eq, r_le, r_lt, r_eq, sh3, sh6, ↓w_iconst, ↓w_istore_1, ↓w_istore_2]
  refine pm_for (f := fun k a => if I 7 k < 0 then a else a + 1) (U := fun k a => UU g (d - 1) 115 kX9_present (pm_rm d 115) Q 1 [some (.ref 6), some (.int a), some (.int (nI k))] [] SH I J (0, 0)) 4 (fun k b hk hb w => ?_) ?_
  · refine bX9_present_1 ?_
    simp (disch := omega) only [w_nl0, w_nli, w_nlr, ↓w_ts1, ↓w_ts0, w_rcv, w_rfv, w_cs, true_and, and_true, List.length_nil, List.length_cons, Nat.reduceAdd, Nat.reduceLeDiff, Nat.zero_le, Nat.reduceLT, ↓w_nil, ix_nI, nI_leP, nI_ltP, nI_eqP, nI_1, ↓i_inN, i_inN, l_le, l_lt, l_eq, r_le, r_lt, r_eq, sh3, sh6, ↓w_iload_2, ↓w_aload_0, ↓w_gf3, ↓w_alen, ↓w_slen, ↓w_icge, ↓w_iaload, ↓w_iflt, ↓w_iinc_1, l_onI]
    repeat' (first
      | (apply And.intro)
      | (with_reducible refine bX9_present_2 ?_; simp (disch := omega) only [w_nl0, w_nli, w_nlr, ↓w_ts1, ↓w_ts0, w_rcv, w_rfv, w_cs, true_and, and_true, List.length_nil, List.length_cons, Nat.reduceAdd, Nat.reduceLeDiff, Nat.zero_le, Nat.reduceLT, ↓w_nil, ix_nI, nI_leP, nI_ltP, nI_eqP, nI_1, ↓i_inN, i_inN, l_le, l_lt, l_eq, r_le, r_lt, r_eq, sh3, sh6, ↓w_iconst, ↓w_istore_1, ↓w_istore_2, ↓w_iload_2, ↓w_aload_0, ↓w_gf3, ↓w_alen, ↓w_slen, ↓w_icge, ↓w_iaload, ↓w_iflt, ↓w_iinc_1, ↓w_iinc_2, ↓w_goto, ↓w_iload_1, ↓w_ret])
      | (simp only [w_in])
      | (intro _))
    all_goals grind
  · refine bX9_present_1 ?_
    simp (disch := omega) only [w_nl0, w_nli, w_nlr, ↓w_ts1, ↓w_ts0, w_rcv, w_rfv, w_cs, true_and, and_true, List.length_nil, List.length_cons, Nat.reduceAdd, Nat.reduceLeDiff, Nat.zero_le, Nat.reduceLT, ↓w_nil, ix_nI, nI_leP, nI_ltP, nI_eqP, nI_1, ↓i_inN, i_inN, l_le, l_lt, l_eq, r_le, r_lt, r_eq, sh3, sh6, ↓w_iload_2, ↓w_aload_0, ↓w_gf3, ↓w_alen, ↓w_slen, ↓w_icge, ↓w_iaload, ↓w_iflt, ↓w_iinc_1, l_onI]
    repeat' (first
      | (apply And.intro)
      | (with_reducible refine bX9_present_3 ?_; simp (disch := omega) only [w_nl0, w_nli, w_nlr, ↓w_ts1, ↓w_ts0, w_rcv, w_rfv, w_cs, true_and, and_true, List.length_nil, List.length_cons, Nat.reduceAdd, Nat.reduceLeDiff, Nat.zero_le, Nat.reduceLT, ↓w_nil, ix_nI, nI_leP, nI_ltP, nI_eqP, nI_1, ↓i_inN, i_inN, l_le, l_lt, l_eq, r_le, r_lt, r_eq, sh3, sh6, ↓w_iconst, ↓w_istore_1, ↓w_istore_2, ↓w_iload_2, ↓w_aload_0, ↓w_gf3, ↓w_alen, ↓w_slen, ↓w_icge, ↓w_iaload, ↓w_iflt, ↓w_iinc_1, ↓w_iinc_2, ↓w_goto, ↓w_iload_1, ↓w_ret])
      | (simp only [w_in])
      | (intro _))
    all_goals grind
end C21
