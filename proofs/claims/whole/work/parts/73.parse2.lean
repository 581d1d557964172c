section C73
variable {g : pm_G} {d : Nat} {Q : pm_Po} {S : pm_SS} {I : pm_MI} {J : pm_ML}
/-- an item: is it good, where it ends or fails, what, a, b, n -/
abbrev ItT : Type := Bool × Nat × Int32 × Int32 × Int32 × Int32
def pG (b : Nat → Int32) (s i : Nat) : ItT := if ¬ isB b s (i + 1) 4 then (false, i + 1, 0, 0, 0, 0) else if ¬ isB b s (i + 2) 4 then (false, i + 2, 0, 0, 0, 0) else if (pdg b s 10 2 (i + 3) 0).2 = i + 3 then (false, i + 3, 0, 0, 0, 0) else (true, (pdg b s 10 2 (i + 3) 0).2, 0, b (i + 1) - 48, b (i + 2) - 48, (pdg b s 10 2 (i + 3) 0).1)
def pW (b : Nat → Int32) (s i : Nat) : ItT := if (pdg b s 10 5 (i + 1) 0).2 = i + 1 then (false, i + 1, 0, 0, 0, 0) else (true, (pdg b s 10 5 (i + 1) 0).2, 1, 0, 0, (pdg b s 10 5 (i + 1) 0).1)
def pP (b : Nat → Int32) (s i : Nat) : ItT := if ¬ isB b s (i + 1) 8 then (false, i + 1, 0, 0, 0, 0) else if (pdg b s 10 4 (i + 2) 0).2 = i + 2 then (false, i + 2, 0, 0, 0, 0) else (true, (pdg b s 10 4 (i + 2) 0).2, 2, b (i + 1) - 48, 0, (pdg b s 10 4 (i + 2) 0).1)
def pL (b : Nat → Int32) (s i : Nat) (m : Int32) : ItT := if ¬ isB b s (i + 1) 8 then (false, i + 1, 0, 0, 0, 0) else (true, i + 2, 3, b (i + 1) - 48, 0, m)
def pit (b : Nat → Int32) (s i : Nat) : ItT := if b i = 71 then pG b s i else if b i = 87 then pW b s i else if b i = 80 then pP b s i else if b i = 78 then pL b s i 0 else if b i = 89 then pL b s i 1 else (false, i, 0, 0, 0, 0)
def drU (D : Nat → Int32) (p : ItT) : Nat → Int32 := if p.1 then upd D (itT p.2.2.1 p.2.2.2.1 p.2.2.2.2.1).toNatClampNeg p.2.2.2.2.2 else D
def okV (p : ItT) : Int32 := if p.1 then 1 else 0
theorem isB_q {b : Nat → Int32} {s i N : Nat} (hN : N ≤ 10) (h : isB b s i (nI N)) : ∃ q, q < N ∧ b i - 48 = nI q := by
  have hz : (0 : Int32) ≤ nI N ∧ nI N ≤ 10 := nI_rng (N := 10) hN (by decide)
  have h2 := (dg_iff (x := b i) hz).2 h.2
  exact i_q (by omega) h2.1 h2.2
theorem c_readGrowth {I' : pm_MI} {s i : Nat} {b D : Nat → Int32} (hd : 4 ≤ d) (hs : s ≤ 48) (hi : i < s) (h : RS I I' s b i 1 D) (hQ : ∀ I'', RS I I'' s b (pG b s i).2.1 (okV (pG b s i)) (drU D (pG b s i)) → Q none SH I'' J) : pm_C g d 65 [.ref 31] Q SH I' J := by
  have r7 := h.2.2.2.2.1
  have h1 := rs_place (q := i + 1) h
  clear h
  refine eX5_readGrowth (by omega) ?_
  refine bX5_readGrowth_0 ?_
  simp (disch := first | omega | decide) only [w_nl0, w_nli, w_nlr, ↓w_ts1, ↓w_ts0, w_rcv, w_rfv, w_cs, true_and, and_true, List.length_nil, List.length_cons, Nat.reduceAdd, Nat.reduceLeDiff, Nat.zero_le, Nat.reduceLT, ↓w_nil, ix_nI, nI_leP, nI_ltP, nI_eqP, nI_1, ↓i_inN, i_inN, l_le, l_lt, l_eq, r_le, r_lt, r_eq, sh31, ↓w_aload_0, ↓w_dup_i, ↓w_dup_r, ↓w_gf0, ↓w_iconst, ↓w_iadd, ↓w_pf0, ↓w_iv, ↓pm_cl2_3, ↓w_istore_1, ↓w_istore_2, ↓w_bipush, ↓w_istore_3, ↓w_iload_1, ↓w_iload_2, ↓w_is, ↓pm_cl1_2, ↓w_iload_3, ↓w_vret, r7, nI_add]
  by_cases c1 : isB b s (i + 1) 4
  · refine c_dig1Y (by omega) hs (by decide) c1 h1 (fun I2 h2 => ?_)
    simp (disch := first | omega | decide) only [w_nl0, w_nli, w_nlr, ↓w_ts1, ↓w_ts0, w_rcv, w_rfv, w_cs, true_and, and_true, List.length_nil, List.length_cons, Nat.reduceAdd, Nat.reduceLeDiff, Nat.zero_le, Nat.reduceLT, ↓w_nil, ix_nI, nI_leP, nI_ltP, nI_eqP, nI_1, ↓i_inN, i_inN, l_le, l_lt, l_eq, r_le, r_lt, r_eq, sh31, ↓w_aload_0, ↓w_dup_i, ↓w_dup_r, ↓w_gf0, ↓w_iconst, ↓w_iadd, ↓w_pf0, ↓w_iv, ↓pm_cl2_3, ↓w_istore_1, ↓w_istore_2, ↓w_bipush, ↓w_istore_3, ↓w_iload_1, ↓w_iload_2, ↓w_is, ↓pm_cl1_2, ↓w_iload_3, ↓w_vret]
    by_cases c2 : isB b s (i + 2) 4
    · refine c_dig1Y (by omega) hs (by decide) c2 h2 (fun I3 h3 => ?_)
      simp (disch := first | omega | decide) only [w_nl0, w_nli, w_nlr, ↓w_ts1, ↓w_ts0, w_rcv, w_rfv, w_cs, true_and, and_true, List.length_nil, List.length_cons, Nat.reduceAdd, Nat.reduceLeDiff, Nat.zero_le, Nat.reduceLT, ↓w_nil, ix_nI, nI_leP, nI_ltP, nI_eqP, nI_1, ↓i_inN, i_inN, l_le, l_lt, l_eq, r_le, r_lt, r_eq, sh31, ↓w_aload_0, ↓w_dup_i, ↓w_dup_r, ↓w_gf0, ↓w_iconst, ↓w_iadd, ↓w_pf0, ↓w_iv, ↓pm_cl2_3, ↓w_istore_1, ↓w_istore_2, ↓w_bipush, ↓w_istore_3, ↓w_iload_1, ↓w_iload_2, ↓w_is, ↓pm_cl1_2, ↓w_iload_3, ↓w_vret]
      by_cases c3 : (pdg b s 10 2 (i + 3) 0).2 = i + 3
      · have e : pG b s i = (false, i + 3, 0, 0, 0, 0) := by
          unfold pG
          rw [if_neg (fun z => z c1), if_neg (fun z => z c2), if_pos c3]
        rw [e] at hQ
        simp only [okV, drU, if_true, Bool.false_eq_true, if_false] at hQ
        refine c_dig (k := 2) (p := i + 3) (by omega) hs (by have := c2.1; omega) (by omega) rfl (by decide) h3 (fun I4 h4 => ?_)
        rw [if_pos c3, c3] at h4
        simp (disch := first | omega | decide) only [w_nl0, w_nli, w_nlr, ↓w_ts1, ↓w_ts0, w_rcv, w_rfv, w_cs, true_and, and_true, List.length_nil, List.length_cons, Nat.reduceAdd, Nat.reduceLeDiff, Nat.zero_le, Nat.reduceLT, ↓w_nil, ix_nI, nI_leP, nI_ltP, nI_eqP, nI_1, ↓i_inN, i_inN, l_le, l_lt, l_eq, r_le, r_lt, r_eq, sh31, ↓w_aload_0, ↓w_dup_i, ↓w_dup_r, ↓w_gf0, ↓w_iconst, ↓w_iadd, ↓w_pf0, ↓w_iv, ↓pm_cl2_3, ↓w_istore_1, ↓w_istore_2, ↓w_bipush, ↓w_istore_3, ↓w_iload_1, ↓w_iload_2, ↓w_is, ↓pm_cl1_2, ↓w_iload_3, ↓w_vret]
        refine c_growing (by omega) ?_
        simp (disch := first | omega | decide) only [w_nl0, w_nli, w_nlr, ↓w_ts1, ↓w_ts0, w_rcv, w_rfv, w_cs, true_and, and_true, List.length_nil, List.length_cons, Nat.reduceAdd, Nat.reduceLeDiff, Nat.zero_le, Nat.reduceLT, ↓w_nil, ix_nI, nI_leP, nI_ltP, nI_eqP, nI_1, ↓i_inN, i_inN, l_le, l_lt, l_eq, r_le, r_lt, r_eq, sh31, ↓w_aload_0, ↓w_dup_i, ↓w_dup_r, ↓w_gf0, ↓w_iconst, ↓w_iadd, ↓w_pf0, ↓w_iv, ↓pm_cl2_3, ↓w_istore_1, ↓w_istore_2, ↓w_bipush, ↓w_istore_3, ↓w_iload_1, ↓w_iload_2, ↓w_is, ↓pm_cl1_2, ↓w_iload_3, ↓w_vret]
        refine c_note0 (by omega) h4 ?_
        simp (disch := first | omega | decide) only [w_nl0, w_nli, w_nlr, ↓w_ts1, ↓w_ts0, w_rcv, w_rfv, w_cs, true_and, and_true, List.length_nil, List.length_cons, Nat.reduceAdd, Nat.reduceLeDiff, Nat.zero_le, Nat.reduceLT, ↓w_nil, ix_nI, nI_leP, nI_ltP, nI_eqP, nI_1, ↓i_inN, i_inN, l_le, l_lt, l_eq, r_le, r_lt, r_eq, sh31, ↓w_aload_0, ↓w_dup_i, ↓w_dup_r, ↓w_gf0, ↓w_iconst, ↓w_iadd, ↓w_pf0, ↓w_iv, ↓pm_cl2_3, ↓w_istore_1, ↓w_istore_2, ↓w_bipush, ↓w_istore_3, ↓w_iload_1, ↓w_iload_2, ↓w_is, ↓pm_cl1_2, ↓w_iload_3, ↓w_vret]
        exact hQ I4 h4
      · have e : pG b s i = (true, (pdg b s 10 2 (i + 3) 0).2, 0, b (i + 1) - 48, b (i + 2) - 48, (pdg b s 10 2 (i + 3) 0).1) := by
          unfold pG
          rw [if_neg (fun z => z c1), if_neg (fun z => z c2), if_neg c3]
        rw [e] at hQ
        simp only [okV, drU, if_true, Bool.false_eq_true, if_false] at hQ
        refine c_dig (k := 2) (p := i + 3) (by omega) hs (by have := c2.1; omega) (by omega) rfl (by decide) h3 (fun I4 h4 => ?_)
        rw [if_neg c3] at h4
        simp (disch := first | omega | decide) only [w_nl0, w_nli, w_nlr, ↓w_ts1, ↓w_ts0, w_rcv, w_rfv, w_cs, true_and, and_true, List.length_nil, List.length_cons, Nat.reduceAdd, Nat.reduceLeDiff, Nat.zero_le, Nat.reduceLT, ↓w_nil, ix_nI, nI_leP, nI_ltP, nI_eqP, nI_1, ↓i_inN, i_inN, l_le, l_lt, l_eq, r_le, r_lt, r_eq, sh31, ↓w_aload_0, ↓w_dup_i, ↓w_dup_r, ↓w_gf0, ↓w_iconst, ↓w_iadd, ↓w_pf0, ↓w_iv, ↓pm_cl2_3, ↓w_istore_1, ↓w_istore_2, ↓w_bipush, ↓w_istore_3, ↓w_iload_1, ↓w_iload_2, ↓w_is, ↓pm_cl1_2, ↓w_iload_3, ↓w_vret]
        refine c_growing (by omega) ?_
        simp (disch := first | omega | decide) only [w_nl0, w_nli, w_nlr, ↓w_ts1, ↓w_ts0, w_rcv, w_rfv, w_cs, true_and, and_true, List.length_nil, List.length_cons, Nat.reduceAdd, Nat.reduceLeDiff, Nat.zero_le, Nat.reduceLT, ↓w_nil, ix_nI, nI_leP, nI_ltP, nI_eqP, nI_1, ↓i_inN, i_inN, l_le, l_lt, l_eq, r_le, r_lt, r_eq, sh31, ↓w_aload_0, ↓w_dup_i, ↓w_dup_r, ↓w_gf0, ↓w_iconst, ↓w_iadd, ↓w_pf0, ↓w_iv, ↓pm_cl2_3, ↓w_istore_1, ↓w_istore_2, ↓w_bipush, ↓w_istore_3, ↓w_iload_1, ↓w_iload_2, ↓w_is, ↓pm_cl1_2, ↓w_iload_3, ↓w_vret]
        obtain ⟨q1, hq1, e1⟩ := isB_q (N := 4) (by omega) c1
        obtain ⟨q2, hq2, e2⟩ := isB_q (N := 4) (by omega) c2
        have e3 : (b (i + 1) - 48) * 4 + (b (i + 2) - 48) = nI (4 * q1 + q2) := by
          rw [e1, e2, show (4 : Int32) = nI 4 from rfl, pk_mul, nI_add, Nat.mul_comm]
        refine c_note1 (by omega) h4 e3 (by omega) (fun I5 h5 => ?_)
        simp (disch := first | omega | decide) only [w_nl0, w_nli, w_nlr, ↓w_ts1, ↓w_ts0, w_rcv, w_rfv, w_cs, true_and, and_true, List.length_nil, List.length_cons, Nat.reduceAdd, Nat.reduceLeDiff, Nat.zero_le, Nat.reduceLT, ↓w_nil, ix_nI, nI_leP, nI_ltP, nI_eqP, nI_1, ↓i_inN, i_inN, l_le, l_lt, l_eq, r_le, r_lt, r_eq, sh31, ↓w_aload_0, ↓w_dup_i, ↓w_dup_r, ↓w_gf0, ↓w_iconst, ↓w_iadd, ↓w_pf0, ↓w_iv, ↓pm_cl2_3, ↓w_istore_1, ↓w_istore_2, ↓w_bipush, ↓w_istore_3, ↓w_iload_1, ↓w_iload_2, ↓w_is, ↓pm_cl1_2, ↓w_iload_3, ↓w_vret]
        refine hQ I5 ?_
        simp only [itT, if_true]
        rw [e3, ix_nI (by omega)]
        exact h5
    · have e : pG b s i = (false, i + 2, 0, 0, 0, 0) := by
        unfold pG
        rw [if_neg (fun z => z c1), if_pos c2]
      rw [e] at hQ
      simp only [okV, drU, if_true, Bool.false_eq_true, if_false] at hQ
      refine c_dig1N (by omega) hs (by have := c1.1; omega) (by decide) c2 h2 (fun I3 h3 => ?_)
      simp (disch := first | omega | decide) only [w_nl0, w_nli, w_nlr, ↓w_ts1, ↓w_ts0, w_rcv, w_rfv, w_cs, true_and, and_true, List.length_nil, List.length_cons, Nat.reduceAdd, Nat.reduceLeDiff, Nat.zero_le, Nat.reduceLT, ↓w_nil, ix_nI, nI_leP, nI_ltP, nI_eqP, nI_1, ↓i_inN, i_inN, l_le, l_lt, l_eq, r_le, r_lt, r_eq, sh31, ↓w_aload_0, ↓w_dup_i, ↓w_dup_r, ↓w_gf0, ↓w_iconst, ↓w_iadd, ↓w_pf0, ↓w_iv, ↓pm_cl2_3, ↓w_istore_1, ↓w_istore_2, ↓w_bipush, ↓w_istore_3, ↓w_iload_1, ↓w_iload_2, ↓w_is, ↓pm_cl1_2, ↓w_iload_3, ↓w_vret]
      refine c_dig0 (by omega) h3 (fun I4 h4 => ?_)
      simp (disch := first | omega | decide) only [w_nl0, w_nli, w_nlr, ↓w_ts1, ↓w_ts0, w_rcv, w_rfv, w_cs, true_and, and_true, List.length_nil, List.length_cons, Nat.reduceAdd, Nat.reduceLeDiff, Nat.zero_le, Nat.reduceLT, ↓w_nil, ix_nI, nI_leP, nI_ltP, nI_eqP, nI_1, ↓i_inN, i_inN, l_le, l_lt, l_eq, r_le, r_lt, r_eq, sh31, ↓w_aload_0, ↓w_dup_i, ↓w_dup_r, ↓w_gf0, ↓w_iconst, ↓w_iadd, ↓w_pf0, ↓w_iv, ↓pm_cl2_3, ↓w_istore_1, ↓w_istore_2, ↓w_bipush, ↓w_istore_3, ↓w_iload_1, ↓w_iload_2, ↓w_is, ↓pm_cl1_2, ↓w_iload_3, ↓w_vret]
      refine c_growing (by omega) ?_
      simp (disch := first | omega | decide) only [w_nl0, w_nli, w_nlr, ↓w_ts1, ↓w_ts0, w_rcv, w_rfv, w_cs, true_and, and_true, List.length_nil, List.length_cons, Nat.reduceAdd, Nat.reduceLeDiff, Nat.zero_le, Nat.reduceLT, ↓w_nil, ix_nI, nI_leP, nI_ltP, nI_eqP, nI_1, ↓i_inN, i_inN, l_le, l_lt, l_eq, r_le, r_lt, r_eq, sh31, ↓w_aload_0, ↓w_dup_i, ↓w_dup_r, ↓w_gf0, ↓w_iconst, ↓w_iadd, ↓w_pf0, ↓w_iv, ↓pm_cl2_3, ↓w_istore_1, ↓w_istore_2, ↓w_bipush, ↓w_istore_3, ↓w_iload_1, ↓w_iload_2, ↓w_is, ↓pm_cl1_2, ↓w_iload_3, ↓w_vret]
      refine c_note0 (by omega) h4 ?_
      simp (disch := first | omega | decide) only [w_nl0, w_nli, w_nlr, ↓w_ts1, ↓w_ts0, w_rcv, w_rfv, w_cs, true_and, and_true, List.length_nil, List.length_cons, Nat.reduceAdd, Nat.reduceLeDiff, Nat.zero_le, Nat.reduceLT, ↓w_nil, ix_nI, nI_leP, nI_ltP, nI_eqP, nI_1, ↓i_inN, i_inN, l_le, l_lt, l_eq, r_le, r_lt, r_eq, sh31, ↓w_aload_0, ↓w_dup_i, ↓w_dup_r, ↓w_gf0, ↓w_iconst, ↓w_iadd, ↓w_pf0, ↓w_iv, ↓pm_cl2_3, ↓w_istore_1, ↓w_istore_2, ↓w_bipush, ↓w_istore_3, ↓w_iload_1, ↓w_iload_2, ↓w_is, ↓pm_cl1_2, ↓w_iload_3, ↓w_vret]
      exact hQ I4 h4
  · have e : pG b s i = (false, i + 1, 0, 0, 0, 0) := by
      unfold pG
      rw [if_pos c1]
    rw [e] at hQ
    simp only [okV, drU, if_true, Bool.false_eq_true, if_false] at hQ
    refine c_dig1N (by omega) hs (by omega) (by decide) c1 h1 (fun I2 h2 => ?_)
    simp (disch := first | omega | decide) only [w_nl0, w_nli, w_nlr, ↓w_ts1, ↓w_ts0, w_rcv, w_rfv, w_cs, true_and, and_true, List.length_nil, List.length_cons, Nat.reduceAdd, Nat.reduceLeDiff, Nat.zero_le, Nat.reduceLT, ↓w_nil, ix_nI, nI_leP, nI_ltP, nI_eqP, nI_1, ↓i_inN, i_inN, l_le, l_lt, l_eq, r_le, r_lt, r_eq, sh31, ↓w_aload_0, ↓w_dup_i, ↓w_dup_r, ↓w_gf0, ↓w_iconst, ↓w_iadd, ↓w_pf0, ↓w_iv, ↓pm_cl2_3, ↓w_istore_1, ↓w_istore_2, ↓w_bipush, ↓w_istore_3, ↓w_iload_1, ↓w_iload_2, ↓w_is, ↓pm_cl1_2, ↓w_iload_3, ↓w_vret]
    refine c_dig0 (by omega) h2 (fun I3 h3 => ?_)
    simp (disch := first | omega | decide) only [w_nl0, w_nli, w_nlr, ↓w_ts1, ↓w_ts0, w_rcv, w_rfv, w_cs, true_and, and_true, List.length_nil, List.length_cons, Nat.reduceAdd, Nat.reduceLeDiff, Nat.zero_le, Nat.reduceLT, ↓w_nil, ix_nI, nI_leP, nI_ltP, nI_eqP, nI_1, ↓i_inN, i_inN, l_le, l_lt, l_eq, r_le, r_lt, r_eq, sh31, ↓w_aload_0, ↓w_dup_i, ↓w_dup_r, ↓w_gf0, ↓w_iconst, ↓w_iadd, ↓w_pf0, ↓w_iv, ↓pm_cl2_3, ↓w_istore_1, ↓w_istore_2, ↓w_bipush, ↓w_istore_3, ↓w_iload_1, ↓w_iload_2, ↓w_is, ↓pm_cl1_2, ↓w_iload_3, ↓w_vret]
    refine c_dig0 (by omega) h3 (fun I4 h4 => ?_)
    simp (disch := first | omega | decide) only [w_nl0, w_nli, w_nlr, ↓w_ts1, ↓w_ts0, w_rcv, w_rfv, w_cs, true_and, and_true, List.length_nil, List.length_cons, Nat.reduceAdd, Nat.reduceLeDiff, Nat.zero_le, Nat.reduceLT, ↓w_nil, ix_nI, nI_leP, nI_ltP, nI_eqP, nI_1, ↓i_inN, i_inN, l_le, l_lt, l_eq, r_le, r_lt, r_eq, sh31, ↓w_aload_0, ↓w_dup_i, ↓w_dup_r, ↓w_gf0, ↓w_iconst, ↓w_iadd, ↓w_pf0, ↓w_iv, ↓pm_cl2_3, ↓w_istore_1, ↓w_istore_2, ↓w_bipush, ↓w_istore_3, ↓w_iload_1, ↓w_iload_2, ↓w_is, ↓pm_cl1_2, ↓w_iload_3, ↓w_vret]
    refine c_growing (by omega) ?_
    simp (disch := first | omega | decide) only [w_nl0, w_nli, w_nlr, ↓w_ts1, ↓w_ts0, w_rcv, w_rfv, w_cs, true_and, and_true, List.length_nil, List.length_cons, Nat.reduceAdd, Nat.reduceLeDiff, Nat.zero_le, Nat.reduceLT, ↓w_nil, ix_nI, nI_leP, nI_ltP, nI_eqP, nI_1, ↓i_inN, i_inN, l_le, l_lt, l_eq, r_le, r_lt, r_eq, sh31, ↓w_aload_0, ↓w_dup_i, ↓w_dup_r, ↓w_gf0, ↓w_iconst, ↓w_iadd, ↓w_pf0, ↓w_iv, ↓pm_cl2_3, ↓w_istore_1, ↓w_istore_2, ↓w_bipush, ↓w_istore_3, ↓w_iload_1, ↓w_iload_2, ↓w_is, ↓pm_cl1_2, ↓w_iload_3, ↓w_vret]
    refine c_note0 (by omega) h4 ?_
    simp (disch := first | omega | decide) only [w_nl0, w_nli, w_nlr, ↓w_ts1, ↓w_ts0, w_rcv, w_rfv, w_cs, true_and, and_true, List.length_nil, List.length_cons, Nat.reduceAdd, Nat.reduceLeDiff, Nat.zero_le, Nat.reduceLT, ↓w_nil, ix_nI, nI_leP, nI_ltP, nI_eqP, nI_1, ↓i_inN, i_inN, l_le, l_lt, l_eq, r_le, r_lt, r_eq, sh31, ↓w_aload_0, ↓w_dup_i, ↓w_dup_r, ↓w_gf0, ↓w_iconst, ↓w_iadd, ↓w_pf0, ↓w_iv, ↓pm_cl2_3, ↓w_istore_1, ↓w_istore_2, ↓w_bipush, ↓w_istore_3, ↓w_iload_1, ↓w_iload_2, ↓w_is, ↓pm_cl1_2, ↓w_iload_3, ↓w_vret]
    exact hQ I4 h4
theorem c_readWear {I' : pm_MI} {s i : Nat} {b D : Nat → Int32} (hd : 4 ≤ d) (hs : s ≤ 48) (hi : i < s) (h : RS I I' s b i 1 D) (hQ : ∀ I'', RS I I'' s b (pW b s i).2.1 (okV (pW b s i)) (drU D (pW b s i)) → Q none SH I'' J) : pm_C g d 66 [.ref 31] Q SH I' J := by
  have r7 := h.2.2.2.2.1
  have h1 := rs_place (q := i + 1) h
  clear h
  unfold pW at hQ
  refine eX5_readWear (by omega) ?_
  refine bX5_readWear_0 ?_
  simp (disch := first | omega | decide) only [w_nl0, w_nli, w_nlr, ↓w_ts1, ↓w_ts0, w_rcv, w_rfv, w_cs, true_and, and_true, List.length_nil, List.length_cons, Nat.reduceAdd, Nat.reduceLeDiff, Nat.zero_le, Nat.reduceLT, ↓w_nil, ix_nI, nI_leP, nI_ltP, nI_eqP, nI_1, ↓i_inN, i_inN, l_le, l_lt, l_eq, r_le, r_lt, r_eq, sh31, ↓w_aload_0, ↓w_dup_i, ↓w_dup_r, ↓w_gf0, ↓w_iconst, ↓w_iadd, ↓w_pf0, ↓w_bipush, ↓w_iv, ↓pm_cl2_3, ↓w_istore_1, ↓w_iload_1, ↓w_vret, r7, nI_add]
  by_cases c3 : (pdg b s 10 5 (i + 1) 0).2 = i + 1
  · simp only [c3, if_true, okV, drU] at hQ
    refine c_dig (k := 5) (p := i + 1) (by omega) hs (by omega) (by omega) rfl (by decide) h1 (fun I4 h4 => ?_)
    rw [if_pos c3, c3] at h4
    simp (disch := first | omega | decide) only [w_nl0, w_nli, w_nlr, ↓w_ts1, ↓w_ts0, w_rcv, w_rfv, w_cs, true_and, and_true, List.length_nil, List.length_cons, Nat.reduceAdd, Nat.reduceLeDiff, Nat.zero_le, Nat.reduceLT, ↓w_nil, ix_nI, nI_leP, nI_ltP, nI_eqP, nI_1, ↓i_inN, i_inN, l_le, l_lt, l_eq, r_le, r_lt, r_eq, sh31, ↓w_aload_0, ↓w_dup_i, ↓w_dup_r, ↓w_gf0, ↓w_iconst, ↓w_iadd, ↓w_pf0, ↓w_bipush, ↓w_iv, ↓pm_cl2_3, ↓w_istore_1, ↓w_iload_1, ↓w_vret]
    refine c_note0 (by omega) h4 ?_
    simp (disch := first | omega | decide) only [w_nl0, w_nli, w_nlr, ↓w_ts1, ↓w_ts0, w_rcv, w_rfv, w_cs, true_and, and_true, List.length_nil, List.length_cons, Nat.reduceAdd, Nat.reduceLeDiff, Nat.zero_le, Nat.reduceLT, ↓w_nil, ix_nI, nI_leP, nI_ltP, nI_eqP, nI_1, ↓i_inN, i_inN, l_le, l_lt, l_eq, r_le, r_lt, r_eq, sh31, ↓w_aload_0, ↓w_dup_i, ↓w_dup_r, ↓w_gf0, ↓w_iconst, ↓w_iadd, ↓w_pf0, ↓w_bipush, ↓w_iv, ↓pm_cl2_3, ↓w_istore_1, ↓w_iload_1, ↓w_vret]
    exact hQ I4 h4
  · simp only [c3, if_false, okV, drU, if_true] at hQ
    refine c_dig (k := 5) (p := i + 1) (by omega) hs (by omega) (by omega) rfl (by decide) h1 (fun I4 h4 => ?_)
    rw [if_neg c3] at h4
    simp (disch := first | omega | decide) only [w_nl0, w_nli, w_nlr, ↓w_ts1, ↓w_ts0, w_rcv, w_rfv, w_cs, true_and, and_true, List.length_nil, List.length_cons, Nat.reduceAdd, Nat.reduceLeDiff, Nat.zero_le, Nat.reduceLT, ↓w_nil, ix_nI, nI_leP, nI_ltP, nI_eqP, nI_1, ↓i_inN, i_inN, l_le, l_lt, l_eq, r_le, r_lt, r_eq, sh31, ↓w_aload_0, ↓w_dup_i, ↓w_dup_r, ↓w_gf0, ↓w_iconst, ↓w_iadd, ↓w_pf0, ↓w_bipush, ↓w_iv, ↓pm_cl2_3, ↓w_istore_1, ↓w_iload_1, ↓w_vret]
    refine c_note1 (t := 16) (by omega) h4 rfl (by omega) (fun I5 h5 => ?_)
    simp (disch := first | omega | decide) only [w_nl0, w_nli, w_nlr, ↓w_ts1, ↓w_ts0, w_rcv, w_rfv, w_cs, true_and, and_true, List.length_nil, List.length_cons, Nat.reduceAdd, Nat.reduceLeDiff, Nat.zero_le, Nat.reduceLT, ↓w_nil, ix_nI, nI_leP, nI_ltP, nI_eqP, nI_1, ↓i_inN, i_inN, l_le, l_lt, l_eq, r_le, r_lt, r_eq, sh31, ↓w_aload_0, ↓w_dup_i, ↓w_dup_r, ↓w_gf0, ↓w_iconst, ↓w_iadd, ↓w_pf0, ↓w_bipush, ↓w_iv, ↓pm_cl2_3, ↓w_istore_1, ↓w_iload_1, ↓w_vret]
    exact hQ I5 h5
theorem c_readPence {I' : pm_MI} {s i : Nat} {b D : Nat → Int32} (hd : 4 ≤ d) (hs : s ≤ 48) (hi : i < s) (h : RS I I' s b i 1 D) (hQ : ∀ I'', RS I I'' s b (pP b s i).2.1 (okV (pP b s i)) (drU D (pP b s i)) → Q none SH I'' J) : pm_C g d 67 [.ref 31] Q SH I' J := by
  have r7 := h.2.2.2.2.1
  have h1 := rs_place (q := i + 1) h
  clear h
  refine eX5_readPence (by omega) ?_
  refine bX5_readPence_0 ?_
  simp (disch := first | omega | decide) only [w_nl0, w_nli, w_nlr, ↓w_ts1, ↓w_ts0, w_rcv, w_rfv, w_cs, true_and, and_true, List.length_nil, List.length_cons, Nat.reduceAdd, Nat.reduceLeDiff, Nat.zero_le, Nat.reduceLT, ↓w_nil, ix_nI, nI_leP, nI_ltP, nI_eqP, nI_1, ↓i_inN, i_inN, l_le, l_lt, l_eq, r_le, r_lt, r_eq, sh31, ↓w_aload_0, ↓w_dup_i, ↓w_dup_r, ↓w_gf0, ↓w_iconst, ↓w_iadd, ↓w_pf0, ↓w_bipush, ↓w_iv, ↓pm_cl2_3, ↓w_istore_1, ↓w_istore_2, ↓w_iload_1, ↓w_is, ↓pm_cl1_1, ↓w_iload_2, ↓w_vret, r7, nI_add]
  by_cases c1 : isB b s (i + 1) 8
  · refine c_dig1Y (by omega) hs (by decide) c1 h1 (fun I2 h2 => ?_)
    simp (disch := first | omega | decide) only [w_nl0, w_nli, w_nlr, ↓w_ts1, ↓w_ts0, w_rcv, w_rfv, w_cs, true_and, and_true, List.length_nil, List.length_cons, Nat.reduceAdd, Nat.reduceLeDiff, Nat.zero_le, Nat.reduceLT, ↓w_nil, ix_nI, nI_leP, nI_ltP, nI_eqP, nI_1, ↓i_inN, i_inN, l_le, l_lt, l_eq, r_le, r_lt, r_eq, sh31, ↓w_aload_0, ↓w_dup_i, ↓w_dup_r, ↓w_gf0, ↓w_iconst, ↓w_iadd, ↓w_pf0, ↓w_bipush, ↓w_iv, ↓pm_cl2_3, ↓w_istore_1, ↓w_istore_2, ↓w_iload_1, ↓w_is, ↓pm_cl1_1, ↓w_iload_2, ↓w_vret]
    by_cases c3 : (pdg b s 10 4 (i + 2) 0).2 = i + 2
    · have e : pP b s i = (false, i + 2, 0, 0, 0, 0) := by
        unfold pP
        rw [if_neg (fun z => z c1), if_pos c3]
      rw [e] at hQ
      simp only [okV, drU, if_true, Bool.false_eq_true, if_false] at hQ
      refine c_dig (k := 4) (p := i + 2) (by omega) hs (by have := c1.1; omega) (by omega) rfl (by decide) h2 (fun I4 h4 => ?_)
      rw [if_pos c3, c3] at h4
      simp (disch := first | omega | decide) only [w_nl0, w_nli, w_nlr, ↓w_ts1, ↓w_ts0, w_rcv, w_rfv, w_cs, true_and, and_true, List.length_nil, List.length_cons, Nat.reduceAdd, Nat.reduceLeDiff, Nat.zero_le, Nat.reduceLT, ↓w_nil, ix_nI, nI_leP, nI_ltP, nI_eqP, nI_1, ↓i_inN, i_inN, l_le, l_lt, l_eq, r_le, r_lt, r_eq, sh31, ↓w_aload_0, ↓w_dup_i, ↓w_dup_r, ↓w_gf0, ↓w_iconst, ↓w_iadd, ↓w_pf0, ↓w_bipush, ↓w_iv, ↓pm_cl2_3, ↓w_istore_1, ↓w_istore_2, ↓w_iload_1, ↓w_is, ↓pm_cl1_1, ↓w_iload_2, ↓w_vret]
      refine c_paying (by omega) ?_
      simp (disch := first | omega | decide) only [w_nl0, w_nli, w_nlr, ↓w_ts1, ↓w_ts0, w_rcv, w_rfv, w_cs, true_and, and_true, List.length_nil, List.length_cons, Nat.reduceAdd, Nat.reduceLeDiff, Nat.zero_le, Nat.reduceLT, ↓w_nil, ix_nI, nI_leP, nI_ltP, nI_eqP, nI_1, ↓i_inN, i_inN, l_le, l_lt, l_eq, r_le, r_lt, r_eq, sh31, ↓w_aload_0, ↓w_dup_i, ↓w_dup_r, ↓w_gf0, ↓w_iconst, ↓w_iadd, ↓w_pf0, ↓w_bipush, ↓w_iv, ↓pm_cl2_3, ↓w_istore_1, ↓w_istore_2, ↓w_iload_1, ↓w_is, ↓pm_cl1_1, ↓w_iload_2, ↓w_vret]
      refine c_note0 (by omega) h4 ?_
      simp (disch := first | omega | decide) only [w_nl0, w_nli, w_nlr, ↓w_ts1, ↓w_ts0, w_rcv, w_rfv, w_cs, true_and, and_true, List.length_nil, List.length_cons, Nat.reduceAdd, Nat.reduceLeDiff, Nat.zero_le, Nat.reduceLT, ↓w_nil, ix_nI, nI_leP, nI_ltP, nI_eqP, nI_1, ↓i_inN, i_inN, l_le, l_lt, l_eq, r_le, r_lt, r_eq, sh31, ↓w_aload_0, ↓w_dup_i, ↓w_dup_r, ↓w_gf0, ↓w_iconst, ↓w_iadd, ↓w_pf0, ↓w_bipush, ↓w_iv, ↓pm_cl2_3, ↓w_istore_1, ↓w_istore_2, ↓w_iload_1, ↓w_is, ↓pm_cl1_1, ↓w_iload_2, ↓w_vret]
      exact hQ I4 h4
    · have e : pP b s i = (true, (pdg b s 10 4 (i + 2) 0).2, 2, b (i + 1) - 48, 0, (pdg b s 10 4 (i + 2) 0).1) := by
        unfold pP
        rw [if_neg (fun z => z c1), if_neg c3]
      rw [e] at hQ
      simp only [okV, drU, if_true, Bool.false_eq_true, if_false] at hQ
      refine c_dig (k := 4) (p := i + 2) (by omega) hs (by have := c1.1; omega) (by omega) rfl (by decide) h2 (fun I4 h4 => ?_)
      rw [if_neg c3] at h4
      simp (disch := first | omega | decide) only [w_nl0, w_nli, w_nlr, ↓w_ts1, ↓w_ts0, w_rcv, w_rfv, w_cs, true_and, and_true, List.length_nil, List.length_cons, Nat.reduceAdd, Nat.reduceLeDiff, Nat.zero_le, Nat.reduceLT, ↓w_nil, ix_nI, nI_leP, nI_ltP, nI_eqP, nI_1, ↓i_inN, i_inN, l_le, l_lt, l_eq, r_le, r_lt, r_eq, sh31, ↓w_aload_0, ↓w_dup_i, ↓w_dup_r, ↓w_gf0, ↓w_iconst, ↓w_iadd, ↓w_pf0, ↓w_bipush, ↓w_iv, ↓pm_cl2_3, ↓w_istore_1, ↓w_istore_2, ↓w_iload_1, ↓w_is, ↓pm_cl1_1, ↓w_iload_2, ↓w_vret]
      refine c_paying (by omega) ?_
      simp (disch := first | omega | decide) only [w_nl0, w_nli, w_nlr, ↓w_ts1, ↓w_ts0, w_rcv, w_rfv, w_cs, true_and, and_true, List.length_nil, List.length_cons, Nat.reduceAdd, Nat.reduceLeDiff, Nat.zero_le, Nat.reduceLT, ↓w_nil, ix_nI, nI_leP, nI_ltP, nI_eqP, nI_1, ↓i_inN, i_inN, l_le, l_lt, l_eq, r_le, r_lt, r_eq, sh31, ↓w_aload_0, ↓w_dup_i, ↓w_dup_r, ↓w_gf0, ↓w_iconst, ↓w_iadd, ↓w_pf0, ↓w_bipush, ↓w_iv, ↓pm_cl2_3, ↓w_istore_1, ↓w_istore_2, ↓w_iload_1, ↓w_is, ↓pm_cl1_1, ↓w_iload_2, ↓w_vret]
      obtain ⟨q1, hq1, e1⟩ := isB_q (N := 8) (by omega) c1
      have e3 : 17 + (b (i + 1) - 48) = nI (17 + q1) := by
        rw [e1]
        exact nI_add 17 q1
      refine c_note1 (by omega) h4 e3 (by omega) (fun I5 h5 => ?_)
      simp (disch := first | omega | decide) only [w_nl0, w_nli, w_nlr, ↓w_ts1, ↓w_ts0, w_rcv, w_rfv, w_cs, true_and, and_true, List.length_nil, List.length_cons, Nat.reduceAdd, Nat.reduceLeDiff, Nat.zero_le, Nat.reduceLT, ↓w_nil, ix_nI, nI_leP, nI_ltP, nI_eqP, nI_1, ↓i_inN, i_inN, l_le, l_lt, l_eq, r_le, r_lt, r_eq, sh31, ↓w_aload_0, ↓w_dup_i, ↓w_dup_r, ↓w_gf0, ↓w_iconst, ↓w_iadd, ↓w_pf0, ↓w_bipush, ↓w_iv, ↓pm_cl2_3, ↓w_istore_1, ↓w_istore_2, ↓w_iload_1, ↓w_is, ↓pm_cl1_1, ↓w_iload_2, ↓w_vret]
      refine hQ I5 ?_
      have e4 : itT 2 (b (i + 1) - 48) 0 = nI (17 + q1) := by
        rw [← e3]
        simp [itT]
      rw [e4, ix_nI (by omega)]
      exact h5
  · have e : pP b s i = (false, i + 1, 0, 0, 0, 0) := by
      unfold pP
      rw [if_pos c1]
    rw [e] at hQ
    simp only [okV, drU, if_true, Bool.false_eq_true, if_false] at hQ
    refine c_dig1N (by omega) hs (by omega) (by decide) c1 h1 (fun I2 h2 => ?_)
    simp (disch := first | omega | decide) only [w_nl0, w_nli, w_nlr, ↓w_ts1, ↓w_ts0, w_rcv, w_rfv, w_cs, true_and, and_true, List.length_nil, List.length_cons, Nat.reduceAdd, Nat.reduceLeDiff, Nat.zero_le, Nat.reduceLT, ↓w_nil, ix_nI, nI_leP, nI_ltP, nI_eqP, nI_1, ↓i_inN, i_inN, l_le, l_lt, l_eq, r_le, r_lt, r_eq, sh31, ↓w_aload_0, ↓w_dup_i, ↓w_dup_r, ↓w_gf0, ↓w_iconst, ↓w_iadd, ↓w_pf0, ↓w_bipush, ↓w_iv, ↓pm_cl2_3, ↓w_istore_1, ↓w_istore_2, ↓w_iload_1, ↓w_is, ↓pm_cl1_1, ↓w_iload_2, ↓w_vret]
    refine c_dig0 (by omega) h2 (fun I3 h3 => ?_)
    simp (disch := first | omega | decide) only [w_nl0, w_nli, w_nlr, ↓w_ts1, ↓w_ts0, w_rcv, w_rfv, w_cs, true_and, and_true, List.length_nil, List.length_cons, Nat.reduceAdd, Nat.reduceLeDiff, Nat.zero_le, Nat.reduceLT, ↓w_nil, ix_nI, nI_leP, nI_ltP, nI_eqP, nI_1, ↓i_inN, i_inN, l_le, l_lt, l_eq, r_le, r_lt, r_eq, sh31, ↓w_aload_0, ↓w_dup_i, ↓w_dup_r, ↓w_gf0, ↓w_iconst, ↓w_iadd, ↓w_pf0, ↓w_bipush, ↓w_iv, ↓pm_cl2_3, ↓w_istore_1, ↓w_istore_2, ↓w_iload_1, ↓w_is, ↓pm_cl1_1, ↓w_iload_2, ↓w_vret]
    refine c_paying (by omega) ?_
    simp (disch := first | omega | decide) only [w_nl0, w_nli, w_nlr, ↓w_ts1, ↓w_ts0, w_rcv, w_rfv, w_cs, true_and, and_true, List.length_nil, List.length_cons, Nat.reduceAdd, Nat.reduceLeDiff, Nat.zero_le, Nat.reduceLT, ↓w_nil, ix_nI, nI_leP, nI_ltP, nI_eqP, nI_1, ↓i_inN, i_inN, l_le, l_lt, l_eq, r_le, r_lt, r_eq, sh31, ↓w_aload_0, ↓w_dup_i, ↓w_dup_r, ↓w_gf0, ↓w_iconst, ↓w_iadd, ↓w_pf0, ↓w_bipush, ↓w_iv, ↓pm_cl2_3, ↓w_istore_1, ↓w_istore_2, ↓w_iload_1, ↓w_is, ↓pm_cl1_1, ↓w_iload_2, ↓w_vret]
    refine c_note0 (by omega) h3 ?_
    simp (disch := first | omega | decide) only [w_nl0, w_nli, w_nlr, ↓w_ts1, ↓w_ts0, w_rcv, w_rfv, w_cs, true_and, and_true, List.length_nil, List.length_cons, Nat.reduceAdd, Nat.reduceLeDiff, Nat.zero_le, Nat.reduceLT, ↓w_nil, ix_nI, nI_leP, nI_ltP, nI_eqP, nI_1, ↓i_inN, i_inN, l_le, l_lt, l_eq, r_le, r_lt, r_eq, sh31, ↓w_aload_0, ↓w_dup_i, ↓w_dup_r, ↓w_gf0, ↓w_iconst, ↓w_iadd, ↓w_pf0, ↓w_bipush, ↓w_iv, ↓pm_cl2_3, ↓w_istore_1, ↓w_istore_2, ↓w_iload_1, ↓w_is, ↓pm_cl1_1, ↓w_iload_2, ↓w_vret]
    exact hQ I3 h3
theorem c_readLand {I' : pm_MI} {s i : Nat} {b D : Nat → Int32} {m : Int32} (hd : 4 ≤ d) (hs : s ≤ 48) (hi : i < s) (h : RS I I' s b i 1 D) (hQ : ∀ I'', RS I I'' s b (pL b s i m).2.1 (okV (pL b s i m)) (drU D (pL b s i m)) → Q none SH I'' J) : pm_C g d 68 [.ref 31, .int m] Q SH I' J := by
  have r7 := h.2.2.2.2.1
  have h1 := rs_place (q := i + 1) h
  clear h
  refine eX5_readLand (by omega) ?_
  refine bX5_readLand_0 ?_
  simp (disch := first | omega | decide) only [w_nl0, w_nli, w_nlr, ↓w_ts1, ↓w_ts0, w_rcv, w_rfv, w_cs, true_and, and_true, List.length_nil, List.length_cons, Nat.reduceAdd, Nat.reduceLeDiff, Nat.zero_le, Nat.reduceLT, ↓w_nil, ix_nI, nI_leP, nI_ltP, nI_eqP, nI_1, ↓i_inN, i_inN, l_le, l_lt, l_eq, r_le, r_lt, r_eq, sh31, ↓w_aload_0, ↓w_dup_i, ↓w_dup_r, ↓w_gf0, ↓w_iconst, ↓w_iadd, ↓w_pf0, ↓w_bipush, ↓w_iv, ↓pm_cl2_3, ↓w_istore_2, ↓w_iload_2, ↓w_is, ↓pm_cl1_1, ↓w_iload_1, ↓w_vret, r7, nI_add]
  by_cases c1 : isB b s (i + 1) 8
  · have e : pL b s i m = (true, i + 2, 3, b (i + 1) - 48, 0, m) := by
      unfold pL
      rw [if_neg (fun z => z c1)]
    rw [e] at hQ
    simp only [okV, drU, if_true, Bool.false_eq_true, if_false] at hQ
    refine c_dig1Y (by omega) hs (by decide) c1 h1 (fun I2 h2 => ?_)
    simp (disch := first | omega | decide) only [w_nl0, w_nli, w_nlr, ↓w_ts1, ↓w_ts0, w_rcv, w_rfv, w_cs, true_and, and_true, List.length_nil, List.length_cons, Nat.reduceAdd, Nat.reduceLeDiff, Nat.zero_le, Nat.reduceLT, ↓w_nil, ix_nI, nI_leP, nI_ltP, nI_eqP, nI_1, ↓i_inN, i_inN, l_le, l_lt, l_eq, r_le, r_lt, r_eq, sh31, ↓w_aload_0, ↓w_dup_i, ↓w_dup_r, ↓w_gf0, ↓w_iconst, ↓w_iadd, ↓w_pf0, ↓w_bipush, ↓w_iv, ↓pm_cl2_3, ↓w_istore_2, ↓w_iload_2, ↓w_is, ↓pm_cl1_1, ↓w_iload_1, ↓w_vret]
    refine c_selling (by omega) ?_
    simp (disch := first | omega | decide) only [w_nl0, w_nli, w_nlr, ↓w_ts1, ↓w_ts0, w_rcv, w_rfv, w_cs, true_and, and_true, List.length_nil, List.length_cons, Nat.reduceAdd, Nat.reduceLeDiff, Nat.zero_le, Nat.reduceLT, ↓w_nil, ix_nI, nI_leP, nI_ltP, nI_eqP, nI_1, ↓i_inN, i_inN, l_le, l_lt, l_eq, r_le, r_lt, r_eq, sh31, ↓w_aload_0, ↓w_dup_i, ↓w_dup_r, ↓w_gf0, ↓w_iconst, ↓w_iadd, ↓w_pf0, ↓w_bipush, ↓w_iv, ↓pm_cl2_3, ↓w_istore_2, ↓w_iload_2, ↓w_is, ↓pm_cl1_1, ↓w_iload_1, ↓w_vret]
    obtain ⟨q1, hq1, e1⟩ := isB_q (N := 8) (by omega) c1
    have e3 : 25 + (b (i + 1) - 48) = nI (25 + q1) := by
      rw [e1]
      exact nI_add 25 q1
    refine c_note1 (by omega) h2 e3 (by omega) (fun I5 h5 => ?_)
    simp (disch := first | omega | decide) only [w_nl0, w_nli, w_nlr, ↓w_ts1, ↓w_ts0, w_rcv, w_rfv, w_cs, true_and, and_true, List.length_nil, List.length_cons, Nat.reduceAdd, Nat.reduceLeDiff, Nat.zero_le, Nat.reduceLT, ↓w_nil, ix_nI, nI_leP, nI_ltP, nI_eqP, nI_1, ↓i_inN, i_inN, l_le, l_lt, l_eq, r_le, r_lt, r_eq, sh31, ↓w_aload_0, ↓w_dup_i, ↓w_dup_r, ↓w_gf0, ↓w_iconst, ↓w_iadd, ↓w_pf0, ↓w_bipush, ↓w_iv, ↓pm_cl2_3, ↓w_istore_2, ↓w_iload_2, ↓w_is, ↓pm_cl1_1, ↓w_iload_1, ↓w_vret]
    refine hQ I5 ?_
    have e4 : itT 3 (b (i + 1) - 48) 0 = nI (25 + q1) := by
      rw [← e3]
      simp [itT]
    rw [e4, ix_nI (by omega)]
    exact h5
  · have e : pL b s i m = (false, i + 1, 0, 0, 0, 0) := by
      unfold pL
      rw [if_pos c1]
    rw [e] at hQ
    simp only [okV, drU, if_true, Bool.false_eq_true, if_false] at hQ
    refine c_dig1N (by omega) hs (by omega) (by decide) c1 h1 (fun I2 h2 => ?_)
    simp (disch := first | omega | decide) only [w_nl0, w_nli, w_nlr, ↓w_ts1, ↓w_ts0, w_rcv, w_rfv, w_cs, true_and, and_true, List.length_nil, List.length_cons, Nat.reduceAdd, Nat.reduceLeDiff, Nat.zero_le, Nat.reduceLT, ↓w_nil, ix_nI, nI_leP, nI_ltP, nI_eqP, nI_1, ↓i_inN, i_inN, l_le, l_lt, l_eq, r_le, r_lt, r_eq, sh31, ↓w_aload_0, ↓w_dup_i, ↓w_dup_r, ↓w_gf0, ↓w_iconst, ↓w_iadd, ↓w_pf0, ↓w_bipush, ↓w_iv, ↓pm_cl2_3, ↓w_istore_2, ↓w_iload_2, ↓w_is, ↓pm_cl1_1, ↓w_iload_1, ↓w_vret]
    refine c_selling (by omega) ?_
    simp (disch := first | omega | decide) only [w_nl0, w_nli, w_nlr, ↓w_ts1, ↓w_ts0, w_rcv, w_rfv, w_cs, true_and, and_true, List.length_nil, List.length_cons, Nat.reduceAdd, Nat.reduceLeDiff, Nat.zero_le, Nat.reduceLT, ↓w_nil, ix_nI, nI_leP, nI_ltP, nI_eqP, nI_1, ↓i_inN, i_inN, l_le, l_lt, l_eq, r_le, r_lt, r_eq, sh31, ↓w_aload_0, ↓w_dup_i, ↓w_dup_r, ↓w_gf0, ↓w_iconst, ↓w_iadd, ↓w_pf0, ↓w_bipush, ↓w_iv, ↓pm_cl2_3, ↓w_istore_2, ↓w_iload_2, ↓w_is, ↓pm_cl1_1, ↓w_iload_1, ↓w_vret]
    refine c_note0 (by omega) h2 ?_
    simp (disch := first | omega | decide) only [w_nl0, w_nli, w_nlr, ↓w_ts1, ↓w_ts0, w_rcv, w_rfv, w_cs, true_and, and_true, List.length_nil, List.length_cons, Nat.reduceAdd, Nat.reduceLeDiff, Nat.zero_le, Nat.reduceLT, ↓w_nil, ix_nI, nI_leP, nI_ltP, nI_eqP, nI_1, ↓i_inN, i_inN, l_le, l_lt, l_eq, r_le, r_lt, r_eq, sh31, ↓w_aload_0, ↓w_dup_i, ↓w_dup_r, ↓w_gf0, ↓w_iconst, ↓w_iadd, ↓w_pf0, ↓w_bipush, ↓w_iv, ↓pm_cl2_3, ↓w_istore_2, ↓w_iload_2, ↓w_is, ↓pm_cl1_1, ↓w_iload_1, ↓w_vret]
    exact hQ I2 h2
end C73
