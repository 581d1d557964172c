section C49
variable {g : pm_G} {d : Nat} {Q : pm_Po} {S : pm_SS} {I : pm_MI} {J : pm_ML}
theorem hasR_iff {I : pm_MI} {x : Int32} {n : Nat} (hn : I 23 7 = nI n) (hn40 : n ≤ 30) : hasR I x ↔ 0 ≤ x ∧ x < nI n := by
  constructor
  · intro h
    obtain ⟨h1, h2, h3⟩ := h
    exact ⟨h1, by rw [← hn]; exact h2⟩
  · intro h
    obtain ⟨q, hq, rfl⟩ := i_q (n := n) (by omega) h.1 h.2
    exact hasR_nI hn hq hn40
theorem hasO_iff {I : pm_MI} {x : Int32} {n : Nat} (hn : I 60 7 = nI n) (hn9 : n ≤ 9) : hasO I x ↔ 0 ≤ x ∧ x < nI n := by
  constructor
  · intro h
    obtain ⟨h1, h2, h3⟩ := h
    exact ⟨h1, by rw [← hn]; exact h2⟩
  · intro h
    obtain ⟨q, hq, rfl⟩ := i_q (n := n) (by omega) h.1 h.2
    refine ⟨h.1, by rw [hn]; exact h.2, ?_⟩
    exact nI_lt (b := 9) (by omega) (by omega)
def rtV (I : pm_MI) (r n : Nat) (w : Int32) : Int32 := if w = 6 then itr (fun k a => if I 56 k = nI r then a + I 57 k else a) 0 n else rfactV I r w
theorem c_runFact {r n m : Nat} {w : Int32} (hd : 5 ≤ d) (hn : I 23 7 = nI n) (hn30 : n ≤ 30) (hr : r < n) (hm : I 55 4 = nI m) (hm60 : m ≤ 60) (hQ : Q (some (.int (rtV I r m w))) SH I J) : pm_C g d 147 [.ref 0, .int (nI r), .int w] Q SH I J := by
  unfold rtV at hQ
  refine eX11_runFact (by omega) ?_
  repeat' (first
    | (apply And.intro)
    | (with_reducible refine bX11_runFact_0 ?_; simp (disch := first | omega | decide) only [w_nl0, w_nli, w_nlr, ↓w_ts1, ↓w_ts0, w_rcv, w_rfv, w_cs, true_and, and_true, List.length_nil, List.length_cons, Nat.reduceAdd, Nat.reduceLeDiff, Nat.zero_le, Nat.reduceLT, ↓w_nil, ix_nI, nI_leP, nI_ltP, nI_eqP, nI_1, ↓i_inN, i_inN, l_le, l_lt, l_eq, r_le, r_lt, r_eq, sh0, sh1, sh55, sh60, sh9, sh31, sh23, sh37, sh42, sh43, sh19, sh3, sh6, ↓w_iload_2, ↓w_bipush, ↓w_icne, ↓w_aload_0, ↓w_gf3, ↓w_iload_1, ↓w_iv, ↓pm_cl2_2, ↓w_goto, ↓pm_cl2_3, ↓w_ret])
    | (with_reducible refine bX11_runFact_1 ?_; simp (disch := first | omega | decide) only [w_nl0, w_nli, w_nlr, ↓w_ts1, ↓w_ts0, w_rcv, w_rfv, w_cs, true_and, and_true, List.length_nil, List.length_cons, Nat.reduceAdd, Nat.reduceLeDiff, Nat.zero_le, Nat.reduceLT, ↓w_nil, ix_nI, nI_leP, nI_ltP, nI_eqP, nI_1, ↓i_inN, i_inN, l_le, l_lt, l_eq, r_le, r_lt, r_eq, sh0, sh1, sh55, sh60, sh9, sh31, sh23, sh37, sh42, sh43, sh19, sh3, sh6, ↓w_iload_2, ↓w_bipush, ↓w_icne, ↓w_aload_0, ↓w_gf3, ↓w_iload_1, ↓w_iv, ↓pm_cl2_2, ↓w_goto, ↓pm_cl2_3, ↓w_ret])
    | (with_reducible refine bX11_runFact_2 ?_; simp (disch := first | omega | decide) only [w_nl0, w_nli, w_nlr, ↓w_ts1, ↓w_ts0, w_rcv, w_rfv, w_cs, true_and, and_true, List.length_nil, List.length_cons, Nat.reduceAdd, Nat.reduceLeDiff, Nat.zero_le, Nat.reduceLT, ↓w_nil, ix_nI, nI_leP, nI_ltP, nI_eqP, nI_1, ↓i_inN, i_inN, l_le, l_lt, l_eq, r_le, r_lt, r_eq, sh0, sh1, sh55, sh60, sh9, sh31, sh23, sh37, sh42, sh43, sh19, sh3, sh6, ↓w_iload_2, ↓w_bipush, ↓w_icne, ↓w_aload_0, ↓w_gf3, ↓w_iload_1, ↓w_iv, ↓pm_cl2_2, ↓w_goto, ↓pm_cl2_3, ↓w_ret])
    | (with_reducible refine c_kept (by omega) hm hm60 ?_ ; simp (disch := first | omega | decide) only [w_nl0, w_nli, w_nlr, ↓w_ts1, ↓w_ts0, w_rcv, w_rfv, w_cs, true_and, and_true, List.length_nil, List.length_cons, Nat.reduceAdd, Nat.reduceLeDiff, Nat.zero_le, Nat.reduceLT, ↓w_nil, ix_nI, nI_leP, nI_ltP, nI_eqP, nI_1, ↓i_inN, i_inN, l_le, l_lt, l_eq, r_le, r_lt, r_eq, sh0, sh1, sh55, sh60, sh9, sh31, sh23, sh37, sh42, sh43, sh19, sh3, sh6, ↓w_iload_2, ↓w_bipush, ↓w_icne, ↓w_aload_0, ↓w_gf3, ↓w_iload_1, ↓w_iv, ↓pm_cl2_2, ↓w_goto, ↓pm_cl2_3, ↓w_ret])
    | (with_reducible refine c_R_fact (by omega) hn hn30 hr ?_ ; simp (disch := first | omega | decide) only [w_nl0, w_nli, w_nlr, ↓w_ts1, ↓w_ts0, w_rcv, w_rfv, w_cs, true_and, and_true, List.length_nil, List.length_cons, Nat.reduceAdd, Nat.reduceLeDiff, Nat.zero_le, Nat.reduceLT, ↓w_nil, ix_nI, nI_leP, nI_ltP, nI_eqP, nI_1, ↓i_inN, i_inN, l_le, l_lt, l_eq, r_le, r_lt, r_eq, sh0, sh1, sh55, sh60, sh9, sh31, sh23, sh37, sh42, sh43, sh19, sh3, sh6, ↓w_iload_2, ↓w_bipush, ↓w_icne, ↓w_aload_0, ↓w_gf3, ↓w_iload_1, ↓w_iv, ↓pm_cl2_2, ↓w_goto, ↓pm_cl2_3, ↓w_ret])
    | (simp only [w_in])
    | (intro _))
  all_goals grind
def mrtV (I : pm_MI) (r n : Nat) (w : Int32) : Int32 := if w = 0 then I 92 r else if w = 1 then I 93 r else if w = 2 then I 94 r else if w = 3 then I 95 r else if w = 4 then I 96 r else if w = 5 then I 97 r else itr (fun k a => a + (if I 113 k = nI r ∧ ((-9 : Int32) = -9 ∨ I 115 k = -9) then I 114 k else 0)) 0 n
theorem m_runTells {r m : Nat} {w : Int32} (hd : 3 ≤ d) (hr : r < 30) (hm : I 68 67 = nI m) (hm60 : m ≤ 60) (hQ : Q (some (.int (mrtV I r m w))) SH I J) : pm_C g d 247 [.ref 68, .int (nI r), .int w] Q SH I J := by
  unfold mrtV at hQ
  refine eX12_runTells (by omega) ?_
  repeat' (first
    | (apply And.intro)
    | (with_reducible refine bX12_runTells_0 ?_; simp (disch := first | omega | decide) only [w_nl0, w_nli, w_nlr, ↓w_ts1, ↓w_ts0, w_rcv, w_rfv, w_cs, true_and, and_true, List.length_nil, List.length_cons, Nat.reduceAdd, Nat.reduceLeDiff, Nat.zero_le, Nat.reduceLT, ↓w_nil, ix_nI, nI_leP, nI_ltP, nI_eqP, nI_1, ↓i_inN, i_inN, l_le, l_lt, l_eq, r_le, r_lt, r_eq, sh68_0, sh68_1, sh68_2, sh68_3, sh68_4, ↓w_iload_2, ↓w_sw_X12_runTells_1, ↓w_aload_0, ↓w_gf3, ↓w_iload_1, ↓w_iaload, ↓w_ret, ↓w_bipush, ↓w_iv, ↓pm_cl2_3])
    | (with_reducible refine bX12_runTells_1 ?_; simp (disch := first | omega | decide) only [w_nl0, w_nli, w_nlr, ↓w_ts1, ↓w_ts0, w_rcv, w_rfv, w_cs, true_and, and_true, List.length_nil, List.length_cons, Nat.reduceAdd, Nat.reduceLeDiff, Nat.zero_le, Nat.reduceLT, ↓w_nil, ix_nI, nI_leP, nI_ltP, nI_eqP, nI_1, ↓i_inN, i_inN, l_le, l_lt, l_eq, r_le, r_lt, r_eq, sh68_0, sh68_1, sh68_2, sh68_3, sh68_4, ↓w_iload_2, ↓w_sw_X12_runTells_1, ↓w_aload_0, ↓w_gf3, ↓w_iload_1, ↓w_iaload, ↓w_ret, ↓w_bipush, ↓w_iv, ↓pm_cl2_3])
    | (with_reducible refine bX12_runTells_2 ?_; simp (disch := first | omega | decide) only [w_nl0, w_nli, w_nlr, ↓w_ts1, ↓w_ts0, w_rcv, w_rfv, w_cs, true_and, and_true, List.length_nil, List.length_cons, Nat.reduceAdd, Nat.reduceLeDiff, Nat.zero_le, Nat.reduceLT, ↓w_nil, ix_nI, nI_leP, nI_ltP, nI_eqP, nI_1, ↓i_inN, i_inN, l_le, l_lt, l_eq, r_le, r_lt, r_eq, sh68_0, sh68_1, sh68_2, sh68_3, sh68_4, ↓w_iload_2, ↓w_sw_X12_runTells_1, ↓w_aload_0, ↓w_gf3, ↓w_iload_1, ↓w_iaload, ↓w_ret, ↓w_bipush, ↓w_iv, ↓pm_cl2_3])
    | (with_reducible refine bX12_runTells_3 ?_; simp (disch := first | omega | decide) only [w_nl0, w_nli, w_nlr, ↓w_ts1, ↓w_ts0, w_rcv, w_rfv, w_cs, true_and, and_true, List.length_nil, List.length_cons, Nat.reduceAdd, Nat.reduceLeDiff, Nat.zero_le, Nat.reduceLT, ↓w_nil, ix_nI, nI_leP, nI_ltP, nI_eqP, nI_1, ↓i_inN, i_inN, l_le, l_lt, l_eq, r_le, r_lt, r_eq, sh68_0, sh68_1, sh68_2, sh68_3, sh68_4, ↓w_iload_2, ↓w_sw_X12_runTells_1, ↓w_aload_0, ↓w_gf3, ↓w_iload_1, ↓w_iaload, ↓w_ret, ↓w_bipush, ↓w_iv, ↓pm_cl2_3])
    | (with_reducible refine bX12_runTells_4 ?_; simp (disch := first | omega | decide) only [w_nl0, w_nli, w_nlr, ↓w_ts1, ↓w_ts0, w_rcv, w_rfv, w_cs, true_and, and_true, List.length_nil, List.length_cons, Nat.reduceAdd, Nat.reduceLeDiff, Nat.zero_le, Nat.reduceLT, ↓w_nil, ix_nI, nI_leP, nI_ltP, nI_eqP, nI_1, ↓i_inN, i_inN, l_le, l_lt, l_eq, r_le, r_lt, r_eq, sh68_0, sh68_1, sh68_2, sh68_3, sh68_4, ↓w_iload_2, ↓w_sw_X12_runTells_1, ↓w_aload_0, ↓w_gf3, ↓w_iload_1, ↓w_iaload, ↓w_ret, ↓w_bipush, ↓w_iv, ↓pm_cl2_3])
    | (with_reducible refine bX12_runTells_5 ?_; simp (disch := first | omega | decide) only [w_nl0, w_nli, w_nlr, ↓w_ts1, ↓w_ts0, w_rcv, w_rfv, w_cs, true_and, and_true, List.length_nil, List.length_cons, Nat.reduceAdd, Nat.reduceLeDiff, Nat.zero_le, Nat.reduceLT, ↓w_nil, ix_nI, nI_leP, nI_ltP, nI_eqP, nI_1, ↓i_inN, i_inN, l_le, l_lt, l_eq, r_le, r_lt, r_eq, sh68_0, sh68_1, sh68_2, sh68_3, sh68_4, ↓w_iload_2, ↓w_sw_X12_runTells_1, ↓w_aload_0, ↓w_gf3, ↓w_iload_1, ↓w_iaload, ↓w_ret, ↓w_bipush, ↓w_iv, ↓pm_cl2_3])
    | (with_reducible refine bX12_runTells_6 ?_; simp (disch := first | omega | decide) only [w_nl0, w_nli, w_nlr, ↓w_ts1, ↓w_ts0, w_rcv, w_rfv, w_cs, true_and, and_true, List.length_nil, List.length_cons, Nat.reduceAdd, Nat.reduceLeDiff, Nat.zero_le, Nat.reduceLT, ↓w_nil, ix_nI, nI_leP, nI_ltP, nI_eqP, nI_1, ↓i_inN, i_inN, l_le, l_lt, l_eq, r_le, r_lt, r_eq, sh68_0, sh68_1, sh68_2, sh68_3, sh68_4, ↓w_iload_2, ↓w_sw_X12_runTells_1, ↓w_aload_0, ↓w_gf3, ↓w_iload_1, ↓w_iaload, ↓w_ret, ↓w_bipush, ↓w_iv, ↓pm_cl2_3])
    | (with_reducible refine bX12_runTells_7 ?_; simp (disch := first | omega | decide) only [w_nl0, w_nli, w_nlr, ↓w_ts1, ↓w_ts0, w_rcv, w_rfv, w_cs, true_and, and_true, List.length_nil, List.length_cons, Nat.reduceAdd, Nat.reduceLeDiff, Nat.zero_le, Nat.reduceLT, ↓w_nil, ix_nI, nI_leP, nI_ltP, nI_eqP, nI_1, ↓i_inN, i_inN, l_le, l_lt, l_eq, r_le, r_lt, r_eq, sh68_0, sh68_1, sh68_2, sh68_3, sh68_4, ↓w_iload_2, ↓w_sw_X12_runTells_1, ↓w_aload_0, ↓w_gf3, ↓w_iload_1, ↓w_iaload, ↓w_ret, ↓w_bipush, ↓w_iv, ↓pm_cl2_3])
    | (with_reducible refine m_outOf (by omega) hm hm60 ?_ ; simp (disch := first | omega | decide) only [w_nl0, w_nli, w_nlr, ↓w_ts1, ↓w_ts0, w_rcv, w_rfv, w_cs, true_and, and_true, List.length_nil, List.length_cons, Nat.reduceAdd, Nat.reduceLeDiff, Nat.zero_le, Nat.reduceLT, ↓w_nil, ix_nI, nI_leP, nI_ltP, nI_eqP, nI_1, ↓i_inN, i_inN, l_le, l_lt, l_eq, r_le, r_lt, r_eq, sh68_0, sh68_1, sh68_2, sh68_3, sh68_4, ↓w_iload_2, ↓w_sw_X12_runTells_1, ↓w_aload_0, ↓w_gf3, ↓w_iload_1, ↓w_iaload, ↓w_ret, ↓w_bipush, ↓w_iv, ↓pm_cl2_3])
    | (simp only [w_in])
    | (intro _))
  all_goals grind
theorem out_eq {r : Int32} {n : Nat} (e1 : I 113 = I 56) (e2 : I 114 = I 57) : itr (fun k (a : Int32) => a + (if I 113 k = r ∧ ((-9 : Int32) = -9 ∨ I 115 k = -9) then I 114 k else 0)) 0 n = itr (fun k (a : Int32) => if I 56 k = r then a + I 57 k else a) 0 n := by
  rw [e1, e2]
  refine itr_cong (fun k _ b => ?_)
  grind
theorem mrt_eq {r n : Nat} {w : Int32} (e1 : I 113 = I 56) (e2 : I 114 = I 57) (p1 : I 92 = I 24) (p2 : I 93 = I 25) (p3 : I 94 = I 26) (p4 : I 95 = I 27) (p5 : I 96 r = I 28 (2 * r)) (p6 : I 97 r = I 28 (2 * r + 1)) (hw : 0 ≤ w ∧ w < 7) : mrtV I r n w = rtV I r n w := by
  unfold mrtV rtV rfactV
  rw [out_eq e1 e2, p1, p2, p3, p4, p5, p6]
  grind
theorem rtV_up {r n a i : Nat} {w v : Int32} (h : a < 10) : rtV (pm_up I a i v) r n w = rtV I r n w := by
  unfold rtV rfactV
  simp (disch := omega) only [pm_up_o]
theorem p_runTold {x w : Int32} (hd : 10 ≤ d) : PC g d 146 248 [.int x, .int w] := by
  intro I J h
  have hw := relw h
  obtain ⟨n1, p1, p2, p3, p4, p5, p6, N, hN, hN2, hr⟩ := h.2.2.2.2.2.2.1
  obtain ⟨q1, q2, q3, q4, q5, M, hM, hM2, hs⟩ := h.2.2.2.2.2.2.2.2.2.1
  have hi := hasR_iff (x := x) hN2 hN
  by_cases hx : hasR I x ∧ 0 ≤ w ∧ w < 7
  · obtain ⟨r, hrN, rfl⟩ := i_q (n := N) (by omega) (hi.1 hx.1).1 (hi.1 hx.1).2
    have hrr := hr r hrN
    have he := mrt_eq (I := pm_up I 1 2 (rtV I r M w)) (r := r) (n := M) (w := w) (by simp (disch := decide) only [pm_up_o, q2]) (by simp (disch := decide) only [pm_up_o, q3]) (by simp (disch := decide) only [pm_up_o, p1]) (by simp (disch := decide) only [pm_up_o, p2]) (by simp (disch := decide) only [pm_up_o, p3]) (by simp (disch := decide) only [pm_up_o, p4]) (by simp (disch := decide) only [pm_up_o, hrr.1]) (by simp (disch := decide) only [pm_up_o, hrr.2.1]) hx.2
    rw [rtV_up (by decide)] at he
    clear hr hs
    refine eX11_runTold (by omega) ?_
    repeat' (first
      | (apply And.intro)
      | (with_reducible refine bX11_runTold_0 ?_; simp (disch := first | omega | decide) only [w_nl0, w_nli, w_nlr, ↓w_ts1, ↓w_ts0, w_rcv, w_rfv, w_cs, true_and, and_true, List.length_nil, List.length_cons, Nat.reduceAdd, Nat.reduceLeDiff, Nat.zero_le, Nat.reduceLT, ↓w_nil, ix_nI, nI_leP, nI_ltP, nI_eqP, nI_1, ↓i_inN, i_inN, l_le, l_lt, l_eq, r_le, r_lt, r_eq, sh0, sh1, sh55, sh60, sh9, sh31, sh23, sh37, sh42, sh43, sh19, sh3, sh6, ↓w_aload_0, ↓w_gf3, ↓w_iload_1, ↓w_iv, ↓pm_cl2_2, ↓w_ifeq, ↓w_iload_2, ↓w_bipush, ↓w_is, ↓pm_cl1_2, ↓w_ifne, ↓w_iconst, ↓w_ret, ↓pm_cl2_3])
      | (with_reducible refine bX11_runTold_1 ?_; simp (disch := first | omega | decide) only [w_nl0, w_nli, w_nlr, ↓w_ts1, ↓w_ts0, w_rcv, w_rfv, w_cs, true_and, and_true, List.length_nil, List.length_cons, Nat.reduceAdd, Nat.reduceLeDiff, Nat.zero_le, Nat.reduceLT, ↓w_nil, ix_nI, nI_leP, nI_ltP, nI_eqP, nI_1, ↓i_inN, i_inN, l_le, l_lt, l_eq, r_le, r_lt, r_eq, sh0, sh1, sh55, sh60, sh9, sh31, sh23, sh37, sh42, sh43, sh19, sh3, sh6, ↓w_aload_0, ↓w_gf3, ↓w_iload_1, ↓w_iv, ↓pm_cl2_2, ↓w_ifeq, ↓w_iload_2, ↓w_bipush, ↓w_is, ↓pm_cl1_2, ↓w_ifne, ↓w_iconst, ↓w_ret, ↓pm_cl2_3])
      | (with_reducible refine bX11_runTold_2 ?_; simp (disch := first | omega | decide) only [w_nl0, w_nli, w_nlr, ↓w_ts1, ↓w_ts0, w_rcv, w_rfv, w_cs, true_and, and_true, List.length_nil, List.length_cons, Nat.reduceAdd, Nat.reduceLeDiff, Nat.zero_le, Nat.reduceLT, ↓w_nil, ix_nI, nI_leP, nI_ltP, nI_eqP, nI_1, ↓i_inN, i_inN, l_le, l_lt, l_eq, r_le, r_lt, r_eq, sh0, sh1, sh55, sh60, sh9, sh31, sh23, sh37, sh42, sh43, sh19, sh3, sh6, ↓w_aload_0, ↓w_gf3, ↓w_iload_1, ↓w_iv, ↓pm_cl2_2, ↓w_ifeq, ↓w_iload_2, ↓w_bipush, ↓w_is, ↓pm_cl1_2, ↓w_ifne, ↓w_iconst, ↓w_ret, ↓pm_cl2_3])
      | (with_reducible refine c_R_has (by omega) ?_ ; simp (disch := first | omega | decide) only [w_nl0, w_nli, w_nlr, ↓w_ts1, ↓w_ts0, w_rcv, w_rfv, w_cs, true_and, and_true, List.length_nil, List.length_cons, Nat.reduceAdd, Nat.reduceLeDiff, Nat.zero_le, Nat.reduceLT, ↓w_nil, ix_nI, nI_leP, nI_ltP, nI_eqP, nI_1, ↓i_inN, i_inN, l_le, l_lt, l_eq, r_le, r_lt, r_eq, sh0, sh1, sh55, sh60, sh9, sh31, sh23, sh37, sh42, sh43, sh19, sh3, sh6, ↓w_aload_0, ↓w_gf3, ↓w_iload_1, ↓w_iv, ↓pm_cl2_2, ↓w_ifeq, ↓w_iload_2, ↓w_bipush, ↓w_is, ↓pm_cl1_2, ↓w_ifne, ↓w_iconst, ↓w_ret, ↓pm_cl2_3])
      | (with_reducible refine c_below (by omega) ?_ ; simp (disch := first | omega | decide) only [w_nl0, w_nli, w_nlr, ↓w_ts1, ↓w_ts0, w_rcv, w_rfv, w_cs, true_and, and_true, List.length_nil, List.length_cons, Nat.reduceAdd, Nat.reduceLeDiff, Nat.zero_le, Nat.reduceLT, ↓w_nil, ix_nI, nI_leP, nI_ltP, nI_eqP, nI_1, ↓i_inN, i_inN, l_le, l_lt, l_eq, r_le, r_lt, r_eq, sh0, sh1, sh55, sh60, sh9, sh31, sh23, sh37, sh42, sh43, sh19, sh3, sh6, ↓w_aload_0, ↓w_gf3, ↓w_iload_1, ↓w_iv, ↓pm_cl2_2, ↓w_ifeq, ↓w_iload_2, ↓w_bipush, ↓w_is, ↓pm_cl1_2, ↓w_ifne, ↓w_iconst, ↓w_ret, ↓pm_cl2_3])
      | (with_reducible refine c_runFact (by omega) hN2 hN hrN hM2 hM ?_ ; simp (disch := first | omega | decide) only [w_nl0, w_nli, w_nlr, ↓w_ts1, ↓w_ts0, w_rcv, w_rfv, w_cs, true_and, and_true, List.length_nil, List.length_cons, Nat.reduceAdd, Nat.reduceLeDiff, Nat.zero_le, Nat.reduceLT, ↓w_nil, ix_nI, nI_leP, nI_ltP, nI_eqP, nI_1, ↓i_inN, i_inN, l_le, l_lt, l_eq, r_le, r_lt, r_eq, sh0, sh1, sh55, sh60, sh9, sh31, sh23, sh37, sh42, sh43, sh19, sh3, sh6, ↓w_aload_0, ↓w_gf3, ↓w_iload_1, ↓w_iv, ↓pm_cl2_2, ↓w_ifeq, ↓w_iload_2, ↓w_bipush, ↓w_is, ↓pm_cl1_2, ↓w_ifne, ↓w_iconst, ↓w_ret, ↓pm_cl2_3])
      | (with_reducible refine c_asks (by omega) ?_ ; simp (disch := first | omega | decide) only [w_nl0, w_nli, w_nlr, ↓w_ts1, ↓w_ts0, w_rcv, w_rfv, w_cs, true_and, and_true, List.length_nil, List.length_cons, Nat.reduceAdd, Nat.reduceLeDiff, Nat.zero_le, Nat.reduceLT, ↓w_nil, ix_nI, nI_leP, nI_ltP, nI_eqP, nI_1, ↓i_inN, i_inN, l_le, l_lt, l_eq, r_le, r_lt, r_eq, sh0, sh1, sh55, sh60, sh9, sh31, sh23, sh37, sh42, sh43, sh19, sh3, sh6, ↓w_aload_0, ↓w_gf3, ↓w_iload_1, ↓w_iv, ↓pm_cl2_2, ↓w_ifeq, ↓w_iload_2, ↓w_bipush, ↓w_is, ↓pm_cl1_2, ↓w_ifne, ↓w_iconst, ↓w_ret, ↓pm_cl2_3])
      | (simp only [w_in])
      | (intro _))
    all_goals try rfl
    all_goals try grind
    all_goals try refine MC.of (eX12_runTold (by omega) ?_)
    all_goals
      repeat' (first
        | (apply And.intro)
        | (with_reducible refine bX12_runTold_0 ?_; simp (disch := first | omega | decide) only [w_nl0, w_nli, w_nlr, ↓w_ts1, ↓w_ts0, w_rcv, w_rfv, w_cs, true_and, and_true, List.length_nil, List.length_cons, Nat.reduceAdd, Nat.reduceLeDiff, Nat.zero_le, Nat.reduceLT, ↓w_nil, ix_nI, nI_leP, nI_ltP, nI_eqP, nI_1, ↓i_inN, i_inN, l_le, l_lt, l_eq, r_le, r_lt, r_eq, sh68_0, sh68_1, sh68_2, sh68_3, sh68_4, ↓w_aload_0, ↓w_iload_1, ↓w_iv, ↓pm_cl2_2, ↓w_ifeq, ↓w_iload_2, ↓w_iconst, ↓w_bipush, ↓w_is, ↓pm_cl1_3, ↓pm_cl2_3, ↓w_goto, ↓w_ret])
        | (with_reducible refine bX12_runTold_1 ?_; simp (disch := first | omega | decide) only [w_nl0, w_nli, w_nlr, ↓w_ts1, ↓w_ts0, w_rcv, w_rfv, w_cs, true_and, and_true, List.length_nil, List.length_cons, Nat.reduceAdd, Nat.reduceLeDiff, Nat.zero_le, Nat.reduceLT, ↓w_nil, ix_nI, nI_leP, nI_ltP, nI_eqP, nI_1, ↓i_inN, i_inN, l_le, l_lt, l_eq, r_le, r_lt, r_eq, sh68_0, sh68_1, sh68_2, sh68_3, sh68_4, ↓w_aload_0, ↓w_iload_1, ↓w_iv, ↓pm_cl2_2, ↓w_ifeq, ↓w_iload_2, ↓w_iconst, ↓w_bipush, ↓w_is, ↓pm_cl1_3, ↓pm_cl2_3, ↓w_goto, ↓w_ret])
        | (with_reducible refine bX12_runTold_2 ?_; simp (disch := first | omega | decide) only [w_nl0, w_nli, w_nlr, ↓w_ts1, ↓w_ts0, w_rcv, w_rfv, w_cs, true_and, and_true, List.length_nil, List.length_cons, Nat.reduceAdd, Nat.reduceLeDiff, Nat.zero_le, Nat.reduceLT, ↓w_nil, ix_nI, nI_leP, nI_ltP, nI_eqP, nI_1, ↓i_inN, i_inN, l_le, l_lt, l_eq, r_le, r_lt, r_eq, sh68_0, sh68_1, sh68_2, sh68_3, sh68_4, ↓w_aload_0, ↓w_iload_1, ↓w_iv, ↓pm_cl2_2, ↓w_ifeq, ↓w_iload_2, ↓w_iconst, ↓w_bipush, ↓w_is, ↓pm_cl1_3, ↓pm_cl2_3, ↓w_goto, ↓w_ret])
        | (with_reducible refine m_isRun (n := N) (by omega) (by simp (disch := decide) only [pm_up_o, n1, hN2]) hN ?_ ; simp (disch := first | omega | decide) only [w_nl0, w_nli, w_nlr, ↓w_ts1, ↓w_ts0, w_rcv, w_rfv, w_cs, true_and, and_true, List.length_nil, List.length_cons, Nat.reduceAdd, Nat.reduceLeDiff, Nat.zero_le, Nat.reduceLT, ↓w_nil, ix_nI, nI_leP, nI_ltP, nI_eqP, nI_1, ↓i_inN, i_inN, l_le, l_lt, l_eq, r_le, r_lt, r_eq, sh68_0, sh68_1, sh68_2, sh68_3, sh68_4, ↓w_aload_0, ↓w_iload_1, ↓w_iv, ↓pm_cl2_2, ↓w_ifeq, ↓w_iload_2, ↓w_iconst, ↓w_bipush, ↓w_is, ↓pm_cl1_3, ↓pm_cl2_3, ↓w_goto, ↓w_ret])
        | (with_reducible refine m_in (by omega) ?_ ; simp (disch := first | omega | decide) only [w_nl0, w_nli, w_nlr, ↓w_ts1, ↓w_ts0, w_rcv, w_rfv, w_cs, true_and, and_true, List.length_nil, List.length_cons, Nat.reduceAdd, Nat.reduceLeDiff, Nat.zero_le, Nat.reduceLT, ↓w_nil, ix_nI, nI_leP, nI_ltP, nI_eqP, nI_1, ↓i_inN, i_inN, l_le, l_lt, l_eq, r_le, r_lt, r_eq, sh68_0, sh68_1, sh68_2, sh68_3, sh68_4, ↓w_aload_0, ↓w_iload_1, ↓w_iv, ↓pm_cl2_2, ↓w_ifeq, ↓w_iload_2, ↓w_iconst, ↓w_bipush, ↓w_is, ↓pm_cl1_3, ↓pm_cl2_3, ↓w_goto, ↓w_ret])
        | (with_reducible refine m_runTells (m := M) (by omega) (by omega) (by simp (disch := decide) only [pm_up_o, q1, hM2]) hM ?_ ; simp (disch := first | omega | decide) only [w_nl0, w_nli, w_nlr, ↓w_ts1, ↓w_ts0, w_rcv, w_rfv, w_cs, true_and, and_true, List.length_nil, List.length_cons, Nat.reduceAdd, Nat.reduceLeDiff, Nat.zero_le, Nat.reduceLT, ↓w_nil, ix_nI, nI_leP, nI_ltP, nI_eqP, nI_1, ↓i_inN, i_inN, l_le, l_lt, l_eq, r_le, r_lt, r_eq, sh68_0, sh68_1, sh68_2, sh68_3, sh68_4, ↓w_aload_0, ↓w_iload_1, ↓w_iv, ↓pm_cl2_2, ↓w_ifeq, ↓w_iload_2, ↓w_iconst, ↓w_bipush, ↓w_is, ↓pm_cl1_3, ↓pm_cl2_3, ↓w_goto, ↓w_ret])
        | (with_reducible refine m_tells (by omega) ?_ ; simp (disch := first | omega | decide) only [w_nl0, w_nli, w_nlr, ↓w_ts1, ↓w_ts0, w_rcv, w_rfv, w_cs, true_and, and_true, List.length_nil, List.length_cons, Nat.reduceAdd, Nat.reduceLeDiff, Nat.zero_le, Nat.reduceLT, ↓w_nil, ix_nI, nI_leP, nI_ltP, nI_eqP, nI_1, ↓i_inN, i_inN, l_le, l_lt, l_eq, r_le, r_lt, r_eq, sh68_0, sh68_1, sh68_2, sh68_3, sh68_4, ↓w_aload_0, ↓w_iload_1, ↓w_iv, ↓pm_cl2_2, ↓w_ifeq, ↓w_iload_2, ↓w_iconst, ↓w_bipush, ↓w_is, ↓pm_cl1_3, ↓pm_cl2_3, ↓w_goto, ↓w_ret])
        | (simp only [w_in])
        | (intro _))
    all_goals try rw [he]
    all_goals first | rfl | exact hw | exact relw_found hw | exact relw_asks hw | grind
  · clear hr hs
    refine eX11_runTold (by omega) ?_
    repeat' (first
      | (apply And.intro)
      | (with_reducible refine bX11_runTold_0 ?_; simp (disch := first | omega | decide) only [w_nl0, w_nli, w_nlr, ↓w_ts1, ↓w_ts0, w_rcv, w_rfv, w_cs, true_and, and_true, List.length_nil, List.length_cons, Nat.reduceAdd, Nat.reduceLeDiff, Nat.zero_le, Nat.reduceLT, ↓w_nil, ix_nI, nI_leP, nI_ltP, nI_eqP, nI_1, ↓i_inN, i_inN, l_le, l_lt, l_eq, r_le, r_lt, r_eq, sh0, sh1, sh55, sh60, sh9, sh31, sh23, sh37, sh42, sh43, sh19, sh3, sh6, ↓w_aload_0, ↓w_gf3, ↓w_iload_1, ↓w_iv, ↓pm_cl2_2, ↓w_ifeq, ↓w_iload_2, ↓w_bipush, ↓w_is, ↓pm_cl1_2, ↓w_ifne, ↓w_iconst, ↓w_ret, ↓pm_cl2_3])
      | (with_reducible refine bX11_runTold_1 ?_; simp (disch := first | omega | decide) only [w_nl0, w_nli, w_nlr, ↓w_ts1, ↓w_ts0, w_rcv, w_rfv, w_cs, true_and, and_true, List.length_nil, List.length_cons, Nat.reduceAdd, Nat.reduceLeDiff, Nat.zero_le, Nat.reduceLT, ↓w_nil, ix_nI, nI_leP, nI_ltP, nI_eqP, nI_1, ↓i_inN, i_inN, l_le, l_lt, l_eq, r_le, r_lt, r_eq, sh0, sh1, sh55, sh60, sh9, sh31, sh23, sh37, sh42, sh43, sh19, sh3, sh6, ↓w_aload_0, ↓w_gf3, ↓w_iload_1, ↓w_iv, ↓pm_cl2_2, ↓w_ifeq, ↓w_iload_2, ↓w_bipush, ↓w_is, ↓pm_cl1_2, ↓w_ifne, ↓w_iconst, ↓w_ret, ↓pm_cl2_3])
      | (with_reducible refine c_R_has (by omega) ?_ ; simp (disch := first | omega | decide) only [w_nl0, w_nli, w_nlr, ↓w_ts1, ↓w_ts0, w_rcv, w_rfv, w_cs, true_and, and_true, List.length_nil, List.length_cons, Nat.reduceAdd, Nat.reduceLeDiff, Nat.zero_le, Nat.reduceLT, ↓w_nil, ix_nI, nI_leP, nI_ltP, nI_eqP, nI_1, ↓i_inN, i_inN, l_le, l_lt, l_eq, r_le, r_lt, r_eq, sh0, sh1, sh55, sh60, sh9, sh31, sh23, sh37, sh42, sh43, sh19, sh3, sh6, ↓w_aload_0, ↓w_gf3, ↓w_iload_1, ↓w_iv, ↓pm_cl2_2, ↓w_ifeq, ↓w_iload_2, ↓w_bipush, ↓w_is, ↓pm_cl1_2, ↓w_ifne, ↓w_iconst, ↓w_ret, ↓pm_cl2_3])
      | (with_reducible refine c_below (by omega) ?_ ; simp (disch := first | omega | decide) only [w_nl0, w_nli, w_nlr, ↓w_ts1, ↓w_ts0, w_rcv, w_rfv, w_cs, true_and, and_true, List.length_nil, List.length_cons, Nat.reduceAdd, Nat.reduceLeDiff, Nat.zero_le, Nat.reduceLT, ↓w_nil, ix_nI, nI_leP, nI_ltP, nI_eqP, nI_1, ↓i_inN, i_inN, l_le, l_lt, l_eq, r_le, r_lt, r_eq, sh0, sh1, sh55, sh60, sh9, sh31, sh23, sh37, sh42, sh43, sh19, sh3, sh6, ↓w_aload_0, ↓w_gf3, ↓w_iload_1, ↓w_iv, ↓pm_cl2_2, ↓w_ifeq, ↓w_iload_2, ↓w_bipush, ↓w_is, ↓pm_cl1_2, ↓w_ifne, ↓w_iconst, ↓w_ret, ↓pm_cl2_3])
      | (simp only [w_in])
      | (intro _))
    all_goals try rfl
    all_goals try grind
    all_goals try refine MC.of (eX12_runTold (by omega) ?_)
    all_goals
      repeat' (first
        | (apply And.intro)
        | (with_reducible refine bX12_runTold_0 ?_; simp (disch := first | omega | decide) only [w_nl0, w_nli, w_nlr, ↓w_ts1, ↓w_ts0, w_rcv, w_rfv, w_cs, true_and, and_true, List.length_nil, List.length_cons, Nat.reduceAdd, Nat.reduceLeDiff, Nat.zero_le, Nat.reduceLT, ↓w_nil, ix_nI, nI_leP, nI_ltP, nI_eqP, nI_1, ↓i_inN, i_inN, l_le, l_lt, l_eq, r_le, r_lt, r_eq, sh68_0, sh68_1, sh68_2, sh68_3, sh68_4, ↓w_aload_0, ↓w_iload_1, ↓w_iv, ↓pm_cl2_2, ↓w_ifeq, ↓w_iload_2, ↓w_iconst, ↓w_bipush, ↓w_is, ↓pm_cl1_3, ↓pm_cl2_3, ↓w_goto, ↓w_ret])
        | (with_reducible refine bX12_runTold_1 ?_; simp (disch := first | omega | decide) only [w_nl0, w_nli, w_nlr, ↓w_ts1, ↓w_ts0, w_rcv, w_rfv, w_cs, true_and, and_true, List.length_nil, List.length_cons, Nat.reduceAdd, Nat.reduceLeDiff, Nat.zero_le, Nat.reduceLT, ↓w_nil, ix_nI, nI_leP, nI_ltP, nI_eqP, nI_1, ↓i_inN, i_inN, l_le, l_lt, l_eq, r_le, r_lt, r_eq, sh68_0, sh68_1, sh68_2, sh68_3, sh68_4, ↓w_aload_0, ↓w_iload_1, ↓w_iv, ↓pm_cl2_2, ↓w_ifeq, ↓w_iload_2, ↓w_iconst, ↓w_bipush, ↓w_is, ↓pm_cl1_3, ↓pm_cl2_3, ↓w_goto, ↓w_ret])
        | (with_reducible refine bX12_runTold_2 ?_; simp (disch := first | omega | decide) only [w_nl0, w_nli, w_nlr, ↓w_ts1, ↓w_ts0, w_rcv, w_rfv, w_cs, true_and, and_true, List.length_nil, List.length_cons, Nat.reduceAdd, Nat.reduceLeDiff, Nat.zero_le, Nat.reduceLT, ↓w_nil, ix_nI, nI_leP, nI_ltP, nI_eqP, nI_1, ↓i_inN, i_inN, l_le, l_lt, l_eq, r_le, r_lt, r_eq, sh68_0, sh68_1, sh68_2, sh68_3, sh68_4, ↓w_aload_0, ↓w_iload_1, ↓w_iv, ↓pm_cl2_2, ↓w_ifeq, ↓w_iload_2, ↓w_iconst, ↓w_bipush, ↓w_is, ↓pm_cl1_3, ↓pm_cl2_3, ↓w_goto, ↓w_ret])
        | (with_reducible refine m_isRun (n := N) (by omega) (by simp (disch := decide) only [pm_up_o, n1, hN2]) hN ?_ ; simp (disch := first | omega | decide) only [w_nl0, w_nli, w_nlr, ↓w_ts1, ↓w_ts0, w_rcv, w_rfv, w_cs, true_and, and_true, List.length_nil, List.length_cons, Nat.reduceAdd, Nat.reduceLeDiff, Nat.zero_le, Nat.reduceLT, ↓w_nil, ix_nI, nI_leP, nI_ltP, nI_eqP, nI_1, ↓i_inN, i_inN, l_le, l_lt, l_eq, r_le, r_lt, r_eq, sh68_0, sh68_1, sh68_2, sh68_3, sh68_4, ↓w_aload_0, ↓w_iload_1, ↓w_iv, ↓pm_cl2_2, ↓w_ifeq, ↓w_iload_2, ↓w_iconst, ↓w_bipush, ↓w_is, ↓pm_cl1_3, ↓pm_cl2_3, ↓w_goto, ↓w_ret])
        | (with_reducible refine m_in (by omega) ?_ ; simp (disch := first | omega | decide) only [w_nl0, w_nli, w_nlr, ↓w_ts1, ↓w_ts0, w_rcv, w_rfv, w_cs, true_and, and_true, List.length_nil, List.length_cons, Nat.reduceAdd, Nat.reduceLeDiff, Nat.zero_le, Nat.reduceLT, ↓w_nil, ix_nI, nI_leP, nI_ltP, nI_eqP, nI_1, ↓i_inN, i_inN, l_le, l_lt, l_eq, r_le, r_lt, r_eq, sh68_0, sh68_1, sh68_2, sh68_3, sh68_4, ↓w_aload_0, ↓w_iload_1, ↓w_iv, ↓pm_cl2_2, ↓w_ifeq, ↓w_iload_2, ↓w_iconst, ↓w_bipush, ↓w_is, ↓pm_cl1_3, ↓pm_cl2_3, ↓w_goto, ↓w_ret])
        | (simp only [w_in])
        | (intro _))
    all_goals first | rfl | exact hw | exact relw_found hw | exact relw_asks hw | grind
theorem m_swishOf {r t : Nat} (hd : 3 ≤ d) (hr : r < 30) (hQ : Q (some (.int ((if 0 ≤ (if nI t - nI t / 2 * 2 = 0 then I 98 r else I 99 r) then (if nI t - nI t / 2 * 2 = 0 then I 98 r else I 99 r) else 0 - (if nI t - nI t / 2 * 2 = 0 then I 98 r else I 99 r)) * (1000 - nI t) / 1000))) SH I J) : pm_C g d 266 [.ref 68, .int (nI r), .int (nI t)] Q SH I J := by
  refine eX12_swishOf (by omega) ?_
  repeat' (first
    | (apply And.intro)
    | (with_reducible refine bX12_swishOf_0 ?_; simp (disch := first | omega | decide) only [w_nl0, w_nli, w_nlr, ↓w_ts1, ↓w_ts0, w_rcv, w_rfv, w_cs, true_and, and_true, List.length_nil, List.length_cons, Nat.reduceAdd, Nat.reduceLeDiff, Nat.zero_le, Nat.reduceLT, ↓w_nil, ix_nI, nI_leP, nI_ltP, nI_eqP, nI_1, ↓i_inN, i_inN, l_le, l_lt, l_eq, r_le, r_lt, r_eq, sh68_0, sh68_1, sh68_2, sh68_3, sh68_4, ↓w_iload_2, ↓w_iconst, ↓w_irem, ↓w_ifne, ↓w_aload_0, ↓w_gf3, ↓w_iload_1, ↓w_iaload, ↓w_goto, ↓w_istore_3, ↓w_iload_3, ↓w_ifge, ↓w_ineg, ↓w_sipush, ↓w_isub, ↓w_imul, ↓w_idiv, ↓w_ret])
    | (with_reducible refine bX12_swishOf_1 ?_; simp (disch := first | omega | decide) only [w_nl0, w_nli, w_nlr, ↓w_ts1, ↓w_ts0, w_rcv, w_rfv, w_cs, true_and, and_true, List.length_nil, List.length_cons, Nat.reduceAdd, Nat.reduceLeDiff, Nat.zero_le, Nat.reduceLT, ↓w_nil, ix_nI, nI_leP, nI_ltP, nI_eqP, nI_1, ↓i_inN, i_inN, l_le, l_lt, l_eq, r_le, r_lt, r_eq, sh68_0, sh68_1, sh68_2, sh68_3, sh68_4, ↓w_iload_2, ↓w_iconst, ↓w_irem, ↓w_ifne, ↓w_aload_0, ↓w_gf3, ↓w_iload_1, ↓w_iaload, ↓w_goto, ↓w_istore_3, ↓w_iload_3, ↓w_ifge, ↓w_ineg, ↓w_sipush, ↓w_isub, ↓w_imul, ↓w_idiv, ↓w_ret])
    | (with_reducible refine bX12_swishOf_2 ?_; simp (disch := first | omega | decide) only [w_nl0, w_nli, w_nlr, ↓w_ts1, ↓w_ts0, w_rcv, w_rfv, w_cs, true_and, and_true, List.length_nil, List.length_cons, Nat.reduceAdd, Nat.reduceLeDiff, Nat.zero_le, Nat.reduceLT, ↓w_nil, ix_nI, nI_leP, nI_ltP, nI_eqP, nI_1, ↓i_inN, i_inN, l_le, l_lt, l_eq, r_le, r_lt, r_eq, sh68_0, sh68_1, sh68_2, sh68_3, sh68_4, ↓w_iload_2, ↓w_iconst, ↓w_irem, ↓w_ifne, ↓w_aload_0, ↓w_gf3, ↓w_iload_1, ↓w_iaload, ↓w_goto, ↓w_istore_3, ↓w_iload_3, ↓w_ifge, ↓w_ineg, ↓w_sipush, ↓w_isub, ↓w_imul, ↓w_idiv, ↓w_ret])
    | (with_reducible refine bX12_swishOf_3 ?_; simp (disch := first | omega | decide) only [w_nl0, w_nli, w_nlr, ↓w_ts1, ↓w_ts0, w_rcv, w_rfv, w_cs, true_and, and_true, List.length_nil, List.length_cons, Nat.reduceAdd, Nat.reduceLeDiff, Nat.zero_le, Nat.reduceLT, ↓w_nil, ix_nI, nI_leP, nI_ltP, nI_eqP, nI_1, ↓i_inN, i_inN, l_le, l_lt, l_eq, r_le, r_lt, r_eq, sh68_0, sh68_1, sh68_2, sh68_3, sh68_4, ↓w_iload_2, ↓w_iconst, ↓w_irem, ↓w_ifne, ↓w_aload_0, ↓w_gf3, ↓w_iload_1, ↓w_iaload, ↓w_goto, ↓w_istore_3, ↓w_iload_3, ↓w_ifge, ↓w_ineg, ↓w_sipush, ↓w_isub, ↓w_imul, ↓w_idiv, ↓w_ret])
    | (with_reducible refine bX12_swishOf_4 ?_; simp (disch := first | omega | decide) only [w_nl0, w_nli, w_nlr, ↓w_ts1, ↓w_ts0, w_rcv, w_rfv, w_cs, true_and, and_true, List.length_nil, List.length_cons, Nat.reduceAdd, Nat.reduceLeDiff, Nat.zero_le, Nat.reduceLT, ↓w_nil, ix_nI, nI_leP, nI_ltP, nI_eqP, nI_1, ↓i_inN, i_inN, l_le, l_lt, l_eq, r_le, r_lt, r_eq, sh68_0, sh68_1, sh68_2, sh68_3, sh68_4, ↓w_iload_2, ↓w_iconst, ↓w_irem, ↓w_ifne, ↓w_aload_0, ↓w_gf3, ↓w_iload_1, ↓w_iaload, ↓w_goto, ↓w_istore_3, ↓w_iload_3, ↓w_ifge, ↓w_ineg, ↓w_sipush, ↓w_isub, ↓w_imul, ↓w_idiv, ↓w_ret])
    | (simp only [w_in])
    | (intro _))
  all_goals grind
theorem p_swish {x w : Int32} (hd : 10 ≤ d) : PC g d 161 267 [.int x, .int w] := by
  intro I J h
  have hw := relw h
  obtain ⟨n1, p1, p2, p3, p4, p5, p6, N, hN, hN2, hr⟩ := h.2.2.2.2.2.2.1
  have hi := hasR_iff (x := x) hN2 hN
  by_cases hx : hasR I x ∧ 0 ≤ w ∧ w ≤ 999
  · obtain ⟨r, hrN, rfl⟩ := i_q (n := N) (by omega) (hi.1 hx.1).1 (hi.1 hx.1).2
    obtain ⟨t, ht, rfl⟩ := i_q (x := w) (n := 1000) (by decide) hx.2.1 (by have : nI 1000 = (1000 : Int32) := rfl; grind)
    clear hr
    refine eX11_swish (by omega) ?_
    repeat' (first
      | (apply And.intro)
      | (with_reducible refine bX11_swish_0 ?_; simp (disch := first | omega | decide) only [w_nl0, w_nli, w_nlr, ↓w_ts1, ↓w_ts0, w_rcv, w_rfv, w_cs, true_and, and_true, List.length_nil, List.length_cons, Nat.reduceAdd, Nat.reduceLeDiff, Nat.zero_le, Nat.reduceLT, ↓w_nil, ix_nI, nI_leP, nI_ltP, nI_eqP, nI_1, ↓i_inN, i_inN, l_le, l_lt, l_eq, r_le, r_lt, r_eq, sh0, sh1, sh55, sh60, sh9, sh31, sh23, sh37, sh42, sh43, sh19, sh3, sh6, ↓w_aload_0, ↓w_gf3, ↓w_iload_1, ↓w_iv, ↓pm_cl2_2, ↓w_ifeq, ↓w_iload_2, ↓w_is, ↓pm_cl1_1, ↓w_ifne, ↓w_iconst, ↓w_ret, ↓pm_cl2_3])
      | (with_reducible refine bX11_swish_1 ?_; simp (disch := first | omega | decide) only [w_nl0, w_nli, w_nlr, ↓w_ts1, ↓w_ts0, w_rcv, w_rfv, w_cs, true_and, and_true, List.length_nil, List.length_cons, Nat.reduceAdd, Nat.reduceLeDiff, Nat.zero_le, Nat.reduceLT, ↓w_nil, ix_nI, nI_leP, nI_ltP, nI_eqP, nI_1, ↓i_inN, i_inN, l_le, l_lt, l_eq, r_le, r_lt, r_eq, sh0, sh1, sh55, sh60, sh9, sh31, sh23, sh37, sh42, sh43, sh19, sh3, sh6, ↓w_aload_0, ↓w_gf3, ↓w_iload_1, ↓w_iv, ↓pm_cl2_2, ↓w_ifeq, ↓w_iload_2, ↓w_is, ↓pm_cl1_1, ↓w_ifne, ↓w_iconst, ↓w_ret, ↓pm_cl2_3])
      | (with_reducible refine bX11_swish_2 ?_; simp (disch := first | omega | decide) only [w_nl0, w_nli, w_nlr, ↓w_ts1, ↓w_ts0, w_rcv, w_rfv, w_cs, true_and, and_true, List.length_nil, List.length_cons, Nat.reduceAdd, Nat.reduceLeDiff, Nat.zero_le, Nat.reduceLT, ↓w_nil, ix_nI, nI_leP, nI_ltP, nI_eqP, nI_1, ↓i_inN, i_inN, l_le, l_lt, l_eq, r_le, r_lt, r_eq, sh0, sh1, sh55, sh60, sh9, sh31, sh23, sh37, sh42, sh43, sh19, sh3, sh6, ↓w_aload_0, ↓w_gf3, ↓w_iload_1, ↓w_iv, ↓pm_cl2_2, ↓w_ifeq, ↓w_iload_2, ↓w_is, ↓pm_cl1_1, ↓w_ifne, ↓w_iconst, ↓w_ret, ↓pm_cl2_3])
      | (with_reducible refine c_R_has (by omega) ?_ ; simp (disch := first | omega | decide) only [w_nl0, w_nli, w_nlr, ↓w_ts1, ↓w_ts0, w_rcv, w_rfv, w_cs, true_and, and_true, List.length_nil, List.length_cons, Nat.reduceAdd, Nat.reduceLeDiff, Nat.zero_le, Nat.reduceLT, ↓w_nil, ix_nI, nI_leP, nI_ltP, nI_eqP, nI_1, ↓i_inN, i_inN, l_le, l_lt, l_eq, r_le, r_lt, r_eq, sh0, sh1, sh55, sh60, sh9, sh31, sh23, sh37, sh42, sh43, sh19, sh3, sh6, ↓w_aload_0, ↓w_gf3, ↓w_iload_1, ↓w_iv, ↓pm_cl2_2, ↓w_ifeq, ↓w_iload_2, ↓w_is, ↓pm_cl1_1, ↓w_ifne, ↓w_iconst, ↓w_ret, ↓pm_cl2_3])
      | (with_reducible refine c_isTurn (by omega) ?_ ; simp (disch := first | omega | decide) only [w_nl0, w_nli, w_nlr, ↓w_ts1, ↓w_ts0, w_rcv, w_rfv, w_cs, true_and, and_true, List.length_nil, List.length_cons, Nat.reduceAdd, Nat.reduceLeDiff, Nat.zero_le, Nat.reduceLT, ↓w_nil, ix_nI, nI_leP, nI_ltP, nI_eqP, nI_1, ↓i_inN, i_inN, l_le, l_lt, l_eq, r_le, r_lt, r_eq, sh0, sh1, sh55, sh60, sh9, sh31, sh23, sh37, sh42, sh43, sh19, sh3, sh6, ↓w_aload_0, ↓w_gf3, ↓w_iload_1, ↓w_iv, ↓pm_cl2_2, ↓w_ifeq, ↓w_iload_2, ↓w_is, ↓pm_cl1_1, ↓w_ifne, ↓w_iconst, ↓w_ret, ↓pm_cl2_3])
      | (with_reducible refine c_swishAt (by omega) hN2 hN hrN ?_ ; simp (disch := first | omega | decide) only [w_nl0, w_nli, w_nlr, ↓w_ts1, ↓w_ts0, w_rcv, w_rfv, w_cs, true_and, and_true, List.length_nil, List.length_cons, Nat.reduceAdd, Nat.reduceLeDiff, Nat.zero_le, Nat.reduceLT, ↓w_nil, ix_nI, nI_leP, nI_ltP, nI_eqP, nI_1, ↓i_inN, i_inN, l_le, l_lt, l_eq, r_le, r_lt, r_eq, sh0, sh1, sh55, sh60, sh9, sh31, sh23, sh37, sh42, sh43, sh19, sh3, sh6, ↓w_aload_0, ↓w_gf3, ↓w_iload_1, ↓w_iv, ↓pm_cl2_2, ↓w_ifeq, ↓w_iload_2, ↓w_is, ↓pm_cl1_1, ↓w_ifne, ↓w_iconst, ↓w_ret, ↓pm_cl2_3])
      | (simp only [w_in])
      | (intro _))
    all_goals try rfl
    all_goals try grind
    all_goals try refine MC.of (eX12_swish (by omega) ?_)
    all_goals
      repeat' (first
        | (apply And.intro)
        | (with_reducible refine bX12_swish_0 ?_; simp (disch := first | omega | decide) only [w_nl0, w_nli, w_nlr, ↓w_ts1, ↓w_ts0, w_rcv, w_rfv, w_cs, true_and, and_true, List.length_nil, List.length_cons, Nat.reduceAdd, Nat.reduceLeDiff, Nat.zero_le, Nat.reduceLT, ↓w_nil, ix_nI, nI_leP, nI_ltP, nI_eqP, nI_1, ↓i_inN, i_inN, l_le, l_lt, l_eq, r_le, r_lt, r_eq, sh68_0, sh68_1, sh68_2, sh68_3, sh68_4, ↓w_aload_0, ↓w_iload_1, ↓w_iv, ↓pm_cl2_2, ↓w_ifeq, ↓w_iload_2, ↓w_is, ↓pm_cl1_1, ↓pm_cl2_3, ↓w_goto, ↓w_iconst, ↓w_ret])
        | (with_reducible refine bX12_swish_1 ?_; simp (disch := first | omega | decide) only [w_nl0, w_nli, w_nlr, ↓w_ts1, ↓w_ts0, w_rcv, w_rfv, w_cs, true_and, and_true, List.length_nil, List.length_cons, Nat.reduceAdd, Nat.reduceLeDiff, Nat.zero_le, Nat.reduceLT, ↓w_nil, ix_nI, nI_leP, nI_ltP, nI_eqP, nI_1, ↓i_inN, i_inN, l_le, l_lt, l_eq, r_le, r_lt, r_eq, sh68_0, sh68_1, sh68_2, sh68_3, sh68_4, ↓w_aload_0, ↓w_iload_1, ↓w_iv, ↓pm_cl2_2, ↓w_ifeq, ↓w_iload_2, ↓w_is, ↓pm_cl1_1, ↓pm_cl2_3, ↓w_goto, ↓w_iconst, ↓w_ret])
        | (with_reducible refine bX12_swish_2 ?_; simp (disch := first | omega | decide) only [w_nl0, w_nli, w_nlr, ↓w_ts1, ↓w_ts0, w_rcv, w_rfv, w_cs, true_and, and_true, List.length_nil, List.length_cons, Nat.reduceAdd, Nat.reduceLeDiff, Nat.zero_le, Nat.reduceLT, ↓w_nil, ix_nI, nI_leP, nI_ltP, nI_eqP, nI_1, ↓i_inN, i_inN, l_le, l_lt, l_eq, r_le, r_lt, r_eq, sh68_0, sh68_1, sh68_2, sh68_3, sh68_4, ↓w_aload_0, ↓w_iload_1, ↓w_iv, ↓pm_cl2_2, ↓w_ifeq, ↓w_iload_2, ↓w_is, ↓pm_cl1_1, ↓pm_cl2_3, ↓w_goto, ↓w_iconst, ↓w_ret])
        | (with_reducible refine m_isRun (n := N) (by omega) (by simp (disch := decide) only [pm_up_o, n1, hN2]) hN ?_ ; simp (disch := first | omega | decide) only [w_nl0, w_nli, w_nlr, ↓w_ts1, ↓w_ts0, w_rcv, w_rfv, w_cs, true_and, and_true, List.length_nil, List.length_cons, Nat.reduceAdd, Nat.reduceLeDiff, Nat.zero_le, Nat.reduceLT, ↓w_nil, ix_nI, nI_leP, nI_ltP, nI_eqP, nI_1, ↓i_inN, i_inN, l_le, l_lt, l_eq, r_le, r_lt, r_eq, sh68_0, sh68_1, sh68_2, sh68_3, sh68_4, ↓w_aload_0, ↓w_iload_1, ↓w_iv, ↓pm_cl2_2, ↓w_ifeq, ↓w_iload_2, ↓w_is, ↓pm_cl1_1, ↓pm_cl2_3, ↓w_goto, ↓w_iconst, ↓w_ret])
        | (with_reducible refine m_isDay (by omega) ?_ ; simp (disch := first | omega | decide) only [w_nl0, w_nli, w_nlr, ↓w_ts1, ↓w_ts0, w_rcv, w_rfv, w_cs, true_and, and_true, List.length_nil, List.length_cons, Nat.reduceAdd, Nat.reduceLeDiff, Nat.zero_le, Nat.reduceLT, ↓w_nil, ix_nI, nI_leP, nI_ltP, nI_eqP, nI_1, ↓i_inN, i_inN, l_le, l_lt, l_eq, r_le, r_lt, r_eq, sh68_0, sh68_1, sh68_2, sh68_3, sh68_4, ↓w_aload_0, ↓w_iload_1, ↓w_iv, ↓pm_cl2_2, ↓w_ifeq, ↓w_iload_2, ↓w_is, ↓pm_cl1_1, ↓pm_cl2_3, ↓w_goto, ↓w_iconst, ↓w_ret])
        | (with_reducible refine m_swishOf (by omega) (by omega) ?_ ; simp (disch := first | omega | decide) only [w_nl0, w_nli, w_nlr, ↓w_ts1, ↓w_ts0, w_rcv, w_rfv, w_cs, true_and, and_true, List.length_nil, List.length_cons, Nat.reduceAdd, Nat.reduceLeDiff, Nat.zero_le, Nat.reduceLT, ↓w_nil, ix_nI, nI_leP, nI_ltP, nI_eqP, nI_1, ↓i_inN, i_inN, l_le, l_lt, l_eq, r_le, r_lt, r_eq, sh68_0, sh68_1, sh68_2, sh68_3, sh68_4, ↓w_aload_0, ↓w_iload_1, ↓w_iv, ↓pm_cl2_2, ↓w_ifeq, ↓w_iload_2, ↓w_is, ↓pm_cl1_1, ↓pm_cl2_3, ↓w_goto, ↓w_iconst, ↓w_ret])
        | (simp only [w_in])
        | (intro _))
    all_goals try rw [p5, p6]
    all_goals first | rfl | exact hw | exact relw_found hw | exact relw_asks hw | grind
  · clear hr
    refine eX11_swish (by omega) ?_
    repeat' (first
      | (apply And.intro)
      | (with_reducible refine bX11_swish_0 ?_; simp (disch := first | omega | decide) only [w_nl0, w_nli, w_nlr, ↓w_ts1, ↓w_ts0, w_rcv, w_rfv, w_cs, true_and, and_true, List.length_nil, List.length_cons, Nat.reduceAdd, Nat.reduceLeDiff, Nat.zero_le, Nat.reduceLT, ↓w_nil, ix_nI, nI_leP, nI_ltP, nI_eqP, nI_1, ↓i_inN, i_inN, l_le, l_lt, l_eq, r_le, r_lt, r_eq, sh0, sh1, sh55, sh60, sh9, sh31, sh23, sh37, sh42, sh43, sh19, sh3, sh6, ↓w_aload_0, ↓w_gf3, ↓w_iload_1, ↓w_iv, ↓pm_cl2_2, ↓w_ifeq, ↓w_iload_2, ↓w_is, ↓pm_cl1_1, ↓w_ifne, ↓w_iconst, ↓w_ret, ↓pm_cl2_3])
      | (with_reducible refine bX11_swish_1 ?_; simp (disch := first | omega | decide) only [w_nl0, w_nli, w_nlr, ↓w_ts1, ↓w_ts0, w_rcv, w_rfv, w_cs, true_and, and_true, List.length_nil, List.length_cons, Nat.reduceAdd, Nat.reduceLeDiff, Nat.zero_le, Nat.reduceLT, ↓w_nil, ix_nI, nI_leP, nI_ltP, nI_eqP, nI_1, ↓i_inN, i_inN, l_le, l_lt, l_eq, r_le, r_lt, r_eq, sh0, sh1, sh55, sh60, sh9, sh31, sh23, sh37, sh42, sh43, sh19, sh3, sh6, ↓w_aload_0, ↓w_gf3, ↓w_iload_1, ↓w_iv, ↓pm_cl2_2, ↓w_ifeq, ↓w_iload_2, ↓w_is, ↓pm_cl1_1, ↓w_ifne, ↓w_iconst, ↓w_ret, ↓pm_cl2_3])
      | (with_reducible refine c_R_has (by omega) ?_ ; simp (disch := first | omega | decide) only [w_nl0, w_nli, w_nlr, ↓w_ts1, ↓w_ts0, w_rcv, w_rfv, w_cs, true_and, and_true, List.length_nil, List.length_cons, Nat.reduceAdd, Nat.reduceLeDiff, Nat.zero_le, Nat.reduceLT, ↓w_nil, ix_nI, nI_leP, nI_ltP, nI_eqP, nI_1, ↓i_inN, i_inN, l_le, l_lt, l_eq, r_le, r_lt, r_eq, sh0, sh1, sh55, sh60, sh9, sh31, sh23, sh37, sh42, sh43, sh19, sh3, sh6, ↓w_aload_0, ↓w_gf3, ↓w_iload_1, ↓w_iv, ↓pm_cl2_2, ↓w_ifeq, ↓w_iload_2, ↓w_is, ↓pm_cl1_1, ↓w_ifne, ↓w_iconst, ↓w_ret, ↓pm_cl2_3])
      | (with_reducible refine c_isTurn (by omega) ?_ ; simp (disch := first | omega | decide) only [w_nl0, w_nli, w_nlr, ↓w_ts1, ↓w_ts0, w_rcv, w_rfv, w_cs, true_and, and_true, List.length_nil, List.length_cons, Nat.reduceAdd, Nat.reduceLeDiff, Nat.zero_le, Nat.reduceLT, ↓w_nil, ix_nI, nI_leP, nI_ltP, nI_eqP, nI_1, ↓i_inN, i_inN, l_le, l_lt, l_eq, r_le, r_lt, r_eq, sh0, sh1, sh55, sh60, sh9, sh31, sh23, sh37, sh42, sh43, sh19, sh3, sh6, ↓w_aload_0, ↓w_gf3, ↓w_iload_1, ↓w_iv, ↓pm_cl2_2, ↓w_ifeq, ↓w_iload_2, ↓w_is, ↓pm_cl1_1, ↓w_ifne, ↓w_iconst, ↓w_ret, ↓pm_cl2_3])
      | (simp only [w_in])
      | (intro _))
    all_goals try rfl
    all_goals try grind
    all_goals try refine MC.of (eX12_swish (by omega) ?_)
    all_goals
      repeat' (first
        | (apply And.intro)
        | (with_reducible refine bX12_swish_0 ?_; simp (disch := first | omega | decide) only [w_nl0, w_nli, w_nlr, ↓w_ts1, ↓w_ts0, w_rcv, w_rfv, w_cs, true_and, and_true, List.length_nil, List.length_cons, Nat.reduceAdd, Nat.reduceLeDiff, Nat.zero_le, Nat.reduceLT, ↓w_nil, ix_nI, nI_leP, nI_ltP, nI_eqP, nI_1, ↓i_inN, i_inN, l_le, l_lt, l_eq, r_le, r_lt, r_eq, sh68_0, sh68_1, sh68_2, sh68_3, sh68_4, ↓w_aload_0, ↓w_iload_1, ↓w_iv, ↓pm_cl2_2, ↓w_ifeq, ↓w_iload_2, ↓w_is, ↓pm_cl1_1, ↓pm_cl2_3, ↓w_goto, ↓w_iconst, ↓w_ret])
        | (with_reducible refine bX12_swish_1 ?_; simp (disch := first | omega | decide) only [w_nl0, w_nli, w_nlr, ↓w_ts1, ↓w_ts0, w_rcv, w_rfv, w_cs, true_and, and_true, List.length_nil, List.length_cons, Nat.reduceAdd, Nat.reduceLeDiff, Nat.zero_le, Nat.reduceLT, ↓w_nil, ix_nI, nI_leP, nI_ltP, nI_eqP, nI_1, ↓i_inN, i_inN, l_le, l_lt, l_eq, r_le, r_lt, r_eq, sh68_0, sh68_1, sh68_2, sh68_3, sh68_4, ↓w_aload_0, ↓w_iload_1, ↓w_iv, ↓pm_cl2_2, ↓w_ifeq, ↓w_iload_2, ↓w_is, ↓pm_cl1_1, ↓pm_cl2_3, ↓w_goto, ↓w_iconst, ↓w_ret])
        | (with_reducible refine bX12_swish_2 ?_; simp (disch := first | omega | decide) only [w_nl0, w_nli, w_nlr, ↓w_ts1, ↓w_ts0, w_rcv, w_rfv, w_cs, true_and, and_true, List.length_nil, List.length_cons, Nat.reduceAdd, Nat.reduceLeDiff, Nat.zero_le, Nat.reduceLT, ↓w_nil, ix_nI, nI_leP, nI_ltP, nI_eqP, nI_1, ↓i_inN, i_inN, l_le, l_lt, l_eq, r_le, r_lt, r_eq, sh68_0, sh68_1, sh68_2, sh68_3, sh68_4, ↓w_aload_0, ↓w_iload_1, ↓w_iv, ↓pm_cl2_2, ↓w_ifeq, ↓w_iload_2, ↓w_is, ↓pm_cl1_1, ↓pm_cl2_3, ↓w_goto, ↓w_iconst, ↓w_ret])
        | (with_reducible refine m_isRun (n := N) (by omega) (by simp (disch := decide) only [pm_up_o, n1, hN2]) hN ?_ ; simp (disch := first | omega | decide) only [w_nl0, w_nli, w_nlr, ↓w_ts1, ↓w_ts0, w_rcv, w_rfv, w_cs, true_and, and_true, List.length_nil, List.length_cons, Nat.reduceAdd, Nat.reduceLeDiff, Nat.zero_le, Nat.reduceLT, ↓w_nil, ix_nI, nI_leP, nI_ltP, nI_eqP, nI_1, ↓i_inN, i_inN, l_le, l_lt, l_eq, r_le, r_lt, r_eq, sh68_0, sh68_1, sh68_2, sh68_3, sh68_4, ↓w_aload_0, ↓w_iload_1, ↓w_iv, ↓pm_cl2_2, ↓w_ifeq, ↓w_iload_2, ↓w_is, ↓pm_cl1_1, ↓pm_cl2_3, ↓w_goto, ↓w_iconst, ↓w_ret])
        | (with_reducible refine m_isDay (by omega) ?_ ; simp (disch := first | omega | decide) only [w_nl0, w_nli, w_nlr, ↓w_ts1, ↓w_ts0, w_rcv, w_rfv, w_cs, true_and, and_true, List.length_nil, List.length_cons, Nat.reduceAdd, Nat.reduceLeDiff, Nat.zero_le, Nat.reduceLT, ↓w_nil, ix_nI, nI_leP, nI_ltP, nI_eqP, nI_1, ↓i_inN, i_inN, l_le, l_lt, l_eq, r_le, r_lt, r_eq, sh68_0, sh68_1, sh68_2, sh68_3, sh68_4, ↓w_aload_0, ↓w_iload_1, ↓w_iv, ↓pm_cl2_2, ↓w_ifeq, ↓w_iload_2, ↓w_is, ↓pm_cl1_1, ↓pm_cl2_3, ↓w_goto, ↓w_iconst, ↓w_ret])
        | (simp only [w_in])
        | (intro _))
    all_goals first | rfl | exact hw | exact relw_found hw | exact relw_asks hw | grind
theorem p_planned {x : Int32} (hd : 10 ≤ d) : PC g d 173 286 [.int x] := by
  intro I J h
  have hw := relw h
  obtain ⟨q1, q2, q3, q4, M, hM, hM2, hs⟩ := h.2.2.2.2.2.2.2.2.2.2.1
  have hi := hasO_iff (x := x) hM2 hM
  by_cases hx : hasO I x
  · obtain ⟨k, hk, rfl⟩ := i_q (n := M) (by omega) (hi.1 hx).1 (hi.1 hx).2
    have hq := q4 k (by omega)
    clear q4 hs
    refine eX11_planned (by omega) ?_
    repeat' (first
      | (apply And.intro)
      | (with_reducible refine bX11_planned_0 ?_; simp (disch := first | omega | decide) only [w_nl0, w_nli, w_nlr, ↓w_ts1, ↓w_ts0, w_rcv, w_rfv, w_cs, true_and, and_true, List.length_nil, List.length_cons, Nat.reduceAdd, Nat.reduceLeDiff, Nat.zero_le, Nat.reduceLT, ↓w_nil, ix_nI, nI_leP, nI_ltP, nI_eqP, nI_1, ↓i_inN, i_inN, l_le, l_lt, l_eq, r_le, r_lt, r_eq, sh0, sh1, sh55, sh60, sh9, sh31, sh23, sh37, sh42, sh43, sh19, sh3, sh6, ↓w_aload_0, ↓w_gf3, ↓w_iload_1, ↓w_iv, ↓pm_cl2_2, ↓w_ifne, ↓w_iconst, ↓w_ret])
      | (with_reducible refine bX11_planned_1 ?_; simp (disch := first | omega | decide) only [w_nl0, w_nli, w_nlr, ↓w_ts1, ↓w_ts0, w_rcv, w_rfv, w_cs, true_and, and_true, List.length_nil, List.length_cons, Nat.reduceAdd, Nat.reduceLeDiff, Nat.zero_le, Nat.reduceLT, ↓w_nil, ix_nI, nI_leP, nI_ltP, nI_eqP, nI_1, ↓i_inN, i_inN, l_le, l_lt, l_eq, r_le, r_lt, r_eq, sh0, sh1, sh55, sh60, sh9, sh31, sh23, sh37, sh42, sh43, sh19, sh3, sh6, ↓w_aload_0, ↓w_gf3, ↓w_iload_1, ↓w_iv, ↓pm_cl2_2, ↓w_ifne, ↓w_iconst, ↓w_ret])
      | (with_reducible refine c_O_has (by omega) ?_ ; simp (disch := first | omega | decide) only [w_nl0, w_nli, w_nlr, ↓w_ts1, ↓w_ts0, w_rcv, w_rfv, w_cs, true_and, and_true, List.length_nil, List.length_cons, Nat.reduceAdd, Nat.reduceLeDiff, Nat.zero_le, Nat.reduceLT, ↓w_nil, ix_nI, nI_leP, nI_ltP, nI_eqP, nI_1, ↓i_inN, i_inN, l_le, l_lt, l_eq, r_le, r_lt, r_eq, sh0, sh1, sh55, sh60, sh9, sh31, sh23, sh37, sh42, sh43, sh19, sh3, sh6, ↓w_aload_0, ↓w_gf3, ↓w_iload_1, ↓w_iv, ↓pm_cl2_2, ↓w_ifne, ↓w_iconst, ↓w_ret])
      | (with_reducible refine c_pressOf (by omega) ?_ ; simp (disch := first | omega | decide) only [w_nl0, w_nli, w_nlr, ↓w_ts1, ↓w_ts0, w_rcv, w_rfv, w_cs, true_and, and_true, List.length_nil, List.length_cons, Nat.reduceAdd, Nat.reduceLeDiff, Nat.zero_le, Nat.reduceLT, ↓w_nil, ix_nI, nI_leP, nI_ltP, nI_eqP, nI_1, ↓i_inN, i_inN, l_le, l_lt, l_eq, r_le, r_lt, r_eq, sh0, sh1, sh55, sh60, sh9, sh31, sh23, sh37, sh42, sh43, sh19, sh3, sh6, ↓w_aload_0, ↓w_gf3, ↓w_iload_1, ↓w_iv, ↓pm_cl2_2, ↓w_ifne, ↓w_iconst, ↓w_ret])
      | (simp only [w_in])
      | (intro _))
    all_goals try rfl
    all_goals try grind
    all_goals try refine MC.of (eX12_planned (by omega) ?_)
    all_goals
      repeat' (first
        | (apply And.intro)
        | (with_reducible refine bX12_planned_0 ?_; simp (disch := first | omega | decide) only [w_nl0, w_nli, w_nlr, ↓w_ts1, ↓w_ts0, w_rcv, w_rfv, w_cs, true_and, and_true, List.length_nil, List.length_cons, Nat.reduceAdd, Nat.reduceLeDiff, Nat.zero_le, Nat.reduceLT, ↓w_nil, ix_nI, nI_leP, nI_ltP, nI_eqP, nI_1, ↓i_inN, i_inN, l_le, l_lt, l_eq, r_le, r_lt, r_eq, sh68_0, sh68_1, sh68_2, sh68_3, sh68_4, ↓w_iload_1, ↓w_iconst, ↓w_aload_0, ↓w_gf0, ↓w_isub, ↓w_is, ↓pm_cl1_3, ↓w_ifeq, ↓w_gf3, ↓w_iaload, ↓w_goto, ↓w_ret, q1, hM2])
        | (with_reducible refine bX12_planned_1 ?_; simp (disch := first | omega | decide) only [w_nl0, w_nli, w_nlr, ↓w_ts1, ↓w_ts0, w_rcv, w_rfv, w_cs, true_and, and_true, List.length_nil, List.length_cons, Nat.reduceAdd, Nat.reduceLeDiff, Nat.zero_le, Nat.reduceLT, ↓w_nil, ix_nI, nI_leP, nI_ltP, nI_eqP, nI_1, ↓i_inN, i_inN, l_le, l_lt, l_eq, r_le, r_lt, r_eq, sh68_0, sh68_1, sh68_2, sh68_3, sh68_4, ↓w_iload_1, ↓w_iconst, ↓w_aload_0, ↓w_gf0, ↓w_isub, ↓w_is, ↓pm_cl1_3, ↓w_ifeq, ↓w_gf3, ↓w_iaload, ↓w_goto, ↓w_ret, q1, hM2])
        | (with_reducible refine bX12_planned_2 ?_; simp (disch := first | omega | decide) only [w_nl0, w_nli, w_nlr, ↓w_ts1, ↓w_ts0, w_rcv, w_rfv, w_cs, true_and, and_true, List.length_nil, List.length_cons, Nat.reduceAdd, Nat.reduceLeDiff, Nat.zero_le, Nat.reduceLT, ↓w_nil, ix_nI, nI_leP, nI_ltP, nI_eqP, nI_1, ↓i_inN, i_inN, l_le, l_lt, l_eq, r_le, r_lt, r_eq, sh68_0, sh68_1, sh68_2, sh68_3, sh68_4, ↓w_iload_1, ↓w_iconst, ↓w_aload_0, ↓w_gf0, ↓w_isub, ↓w_is, ↓pm_cl1_3, ↓w_ifeq, ↓w_gf3, ↓w_iaload, ↓w_goto, ↓w_ret, q1, hM2])
        | (with_reducible refine m_in (by omega) ?_ ; simp (disch := first | omega | decide) only [w_nl0, w_nli, w_nlr, ↓w_ts1, ↓w_ts0, w_rcv, w_rfv, w_cs, true_and, and_true, List.length_nil, List.length_cons, Nat.reduceAdd, Nat.reduceLeDiff, Nat.zero_le, Nat.reduceLT, ↓w_nil, ix_nI, nI_leP, nI_ltP, nI_eqP, nI_1, ↓i_inN, i_inN, l_le, l_lt, l_eq, r_le, r_lt, r_eq, sh68_0, sh68_1, sh68_2, sh68_3, sh68_4, ↓w_iload_1, ↓w_iconst, ↓w_aload_0, ↓w_gf0, ↓w_isub, ↓w_is, ↓pm_cl1_3, ↓w_ifeq, ↓w_gf3, ↓w_iaload, ↓w_goto, ↓w_ret, q1, hM2])
        | (simp only [w_in])
        | (intro _))
    all_goals first | rfl | exact hw | exact relw_found hw | exact relw_asks hw | grind
  · clear q4 hs
    have hj : ¬ (0 ≤ x ∧ x ≤ nI M - 1) := by
      have := nI_rng (n := M) (N := M) (by omega) (by omega)
      grind
    refine eX11_planned (by omega) ?_
    repeat' (first
      | (apply And.intro)
      | (with_reducible refine bX11_planned_0 ?_; simp (disch := first | omega | decide) only [w_nl0, w_nli, w_nlr, ↓w_ts1, ↓w_ts0, w_rcv, w_rfv, w_cs, true_and, and_true, List.length_nil, List.length_cons, Nat.reduceAdd, Nat.reduceLeDiff, Nat.zero_le, Nat.reduceLT, ↓w_nil, ix_nI, nI_leP, nI_ltP, nI_eqP, nI_1, ↓i_inN, i_inN, l_le, l_lt, l_eq, r_le, r_lt, r_eq, sh0, sh1, sh55, sh60, sh9, sh31, sh23, sh37, sh42, sh43, sh19, sh3, sh6, ↓w_aload_0, ↓w_gf3, ↓w_iload_1, ↓w_iv, ↓pm_cl2_2, ↓w_ifne, ↓w_iconst, ↓w_ret])
      | (with_reducible refine c_O_has (by omega) ?_ ; simp (disch := first | omega | decide) only [w_nl0, w_nli, w_nlr, ↓w_ts1, ↓w_ts0, w_rcv, w_rfv, w_cs, true_and, and_true, List.length_nil, List.length_cons, Nat.reduceAdd, Nat.reduceLeDiff, Nat.zero_le, Nat.reduceLT, ↓w_nil, ix_nI, nI_leP, nI_ltP, nI_eqP, nI_1, ↓i_inN, i_inN, l_le, l_lt, l_eq, r_le, r_lt, r_eq, sh0, sh1, sh55, sh60, sh9, sh31, sh23, sh37, sh42, sh43, sh19, sh3, sh6, ↓w_aload_0, ↓w_gf3, ↓w_iload_1, ↓w_iv, ↓pm_cl2_2, ↓w_ifne, ↓w_iconst, ↓w_ret])
      | (simp only [w_in])
      | (intro _))
    all_goals try rfl
    all_goals try grind
    all_goals try refine MC.of (eX12_planned (by omega) ?_)
    all_goals
      repeat' (first
        | (apply And.intro)
        | (with_reducible refine bX12_planned_0 ?_; simp (disch := first | omega | decide) only [w_nl0, w_nli, w_nlr, ↓w_ts1, ↓w_ts0, w_rcv, w_rfv, w_cs, true_and, and_true, List.length_nil, List.length_cons, Nat.reduceAdd, Nat.reduceLeDiff, Nat.zero_le, Nat.reduceLT, ↓w_nil, ix_nI, nI_leP, nI_ltP, nI_eqP, nI_1, ↓i_inN, i_inN, l_le, l_lt, l_eq, r_le, r_lt, r_eq, sh68_0, sh68_1, sh68_2, sh68_3, sh68_4, ↓w_iload_1, ↓w_iconst, ↓w_aload_0, ↓w_gf0, ↓w_isub, ↓w_is, ↓pm_cl1_3, ↓w_ifeq, ↓w_gf3, ↓w_iaload, ↓w_goto, ↓w_ret, q1, hM2])
        | (with_reducible refine bX12_planned_1 ?_; simp (disch := first | omega | decide) only [w_nl0, w_nli, w_nlr, ↓w_ts1, ↓w_ts0, w_rcv, w_rfv, w_cs, true_and, and_true, List.length_nil, List.length_cons, Nat.reduceAdd, Nat.reduceLeDiff, Nat.zero_le, Nat.reduceLT, ↓w_nil, ix_nI, nI_leP, nI_ltP, nI_eqP, nI_1, ↓i_inN, i_inN, l_le, l_lt, l_eq, r_le, r_lt, r_eq, sh68_0, sh68_1, sh68_2, sh68_3, sh68_4, ↓w_iload_1, ↓w_iconst, ↓w_aload_0, ↓w_gf0, ↓w_isub, ↓w_is, ↓pm_cl1_3, ↓w_ifeq, ↓w_gf3, ↓w_iaload, ↓w_goto, ↓w_ret, q1, hM2])
        | (with_reducible refine bX12_planned_2 ?_; simp (disch := first | omega | decide) only [w_nl0, w_nli, w_nlr, ↓w_ts1, ↓w_ts0, w_rcv, w_rfv, w_cs, true_and, and_true, List.length_nil, List.length_cons, Nat.reduceAdd, Nat.reduceLeDiff, Nat.zero_le, Nat.reduceLT, ↓w_nil, ix_nI, nI_leP, nI_ltP, nI_eqP, nI_1, ↓i_inN, i_inN, l_le, l_lt, l_eq, r_le, r_lt, r_eq, sh68_0, sh68_1, sh68_2, sh68_3, sh68_4, ↓w_iload_1, ↓w_iconst, ↓w_aload_0, ↓w_gf0, ↓w_isub, ↓w_is, ↓pm_cl1_3, ↓w_ifeq, ↓w_gf3, ↓w_iaload, ↓w_goto, ↓w_ret, q1, hM2])
        | (with_reducible refine m_in (by omega) ?_ ; simp (disch := first | omega | decide) only [w_nl0, w_nli, w_nlr, ↓w_ts1, ↓w_ts0, w_rcv, w_rfv, w_cs, true_and, and_true, List.length_nil, List.length_cons, Nat.reduceAdd, Nat.reduceLeDiff, Nat.zero_le, Nat.reduceLT, ↓w_nil, ix_nI, nI_leP, nI_ltP, nI_eqP, nI_1, ↓i_inN, i_inN, l_le, l_lt, l_eq, r_le, r_lt, r_eq, sh68_0, sh68_1, sh68_2, sh68_3, sh68_4, ↓w_iload_1, ↓w_iconst, ↓w_aload_0, ↓w_gf0, ↓w_isub, ↓w_is, ↓pm_cl1_3, ↓w_ifeq, ↓w_gf3, ↓w_iaload, ↓w_goto, ↓w_ret, q1, hM2])
        | (simp only [w_in])
        | (intro _))
    all_goals first | rfl | exact hw | exact relw_found hw | exact relw_asks hw | grind
end C49
