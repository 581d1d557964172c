section C66
variable {g : pm_G} {d : Nat} {Q : pm_Po} {S : pm_SS} {I : pm_MI} {J : pm_ML}
theorem mfr_none {x on : Int32} : ∀ q, mfr I x q on (-9) = -9
  | 0 => rfl
  | q + 1 => by simp only [mfr]; rw [if_neg not_hasM]
theorem m_isOn {r m n : Nat} {fr face st : Int32} (hd : 1 ≤ d) (hn9 : I 9 9 = nI n) (hn40 : n ≤ 40) (hm : m < n) (hr : r < 30) (hF : fOk (I 12) n) (f1 : I 81 = I 12) (b1 : I 83 = I 14) (p2 : I 93 = I 25) (hfr : 0 ≤ fr) (hst0 : face = 0 → I 96 r = st) (hst1 : ¬ face = 0 → I 97 r = st) (hs : ∃ i, i < n ∧ st = nI i) (hQ : Q (some (.int (if fr ≤ mfr I (nI m) 40 (I 25 r) st then 1 else 0))) SH I J) : pm_C g d 251 [.ref 68, .int (nI m), .int fr, .int (nI r), .int face] Q SH I J := by
  have hf9 : ¬ fr ≤ -9 := by grind
  have key9 : Q (some (.int 0)) SH I J → UU g (d - 1) 251 kX12_isOn (pm_rm d 251) Q 5 [some (.ref 68), some (.int (nI m)), some (.int fr), some (.int (nI r)), some (.int face), some (.int (-9))] [] SH I J (0, 0) := by
    intro hP
    clear hF hQ
    refine bX12_isOn_5 ?_
    simp (disch := first | omega | decide) only [w_nl0, w_nli, w_nlr, ↓w_ts1, ↓w_ts0, w_rcv, w_rfv, w_cs, true_and, and_true, List.length_nil, List.length_cons, Nat.reduceAdd, Nat.reduceLeDiff, Nat.zero_le, Nat.reduceLT, ↓w_nil, ix_nI, nI_leP, nI_ltP, nI_eqP, nI_1, ↓i_inN, i_inN, l_le, l_lt, l_eq, r_le, r_lt, r_eq, sh68_0, sh68_1, sh68_2, sh68_3, sh68_4, ↓w_iload_5, ↓w_bipush, ↓w_iceq, ↓w_aload_0, ↓w_gf3, ↓w_iaload, ↓w_iload_1, ↓w_istore_5, ↓w_goto, f1]
    repeat' (first
      | (apply And.intro)
      | (with_reducible refine bX12_isOn_6 ?_; simp (disch := first | omega | decide) only [w_nl0, w_nli, w_nlr, ↓w_ts1, ↓w_ts0, w_rcv, w_rfv, w_cs, true_and, and_true, List.length_nil, List.length_cons, Nat.reduceAdd, Nat.reduceLeDiff, Nat.zero_le, Nat.reduceLT, ↓w_nil, ix_nI, nI_leP, nI_ltP, nI_eqP, nI_1, ↓i_inN, i_inN, l_le, l_lt, l_eq, r_le, r_lt, r_eq, sh68_0, sh68_1, sh68_2, sh68_3, sh68_4, ↓w_iload_4, ↓w_ifne, ↓w_aload_0, ↓w_gf3, ↓w_iload_3, ↓w_iaload, ↓w_goto, ↓w_istore_5, ↓w_iload_5, ↓w_iload_1, ↓w_icne, ↓w_iload_2, ↓w_iclt, ↓w_iconst, ↓w_zret, ↓w_bipush, ↓w_iceq])
      | (with_reducible refine bX12_isOn_7 ?_; simp (disch := first | omega | decide) only [w_nl0, w_nli, w_nlr, ↓w_ts1, ↓w_ts0, w_rcv, w_rfv, w_cs, true_and, and_true, List.length_nil, List.length_cons, Nat.reduceAdd, Nat.reduceLeDiff, Nat.zero_le, Nat.reduceLT, ↓w_nil, ix_nI, nI_leP, nI_ltP, nI_eqP, nI_1, ↓i_inN, i_inN, l_le, l_lt, l_eq, r_le, r_lt, r_eq, sh68_0, sh68_1, sh68_2, sh68_3, sh68_4, ↓w_iload_4, ↓w_ifne, ↓w_aload_0, ↓w_gf3, ↓w_iload_3, ↓w_iaload, ↓w_goto, ↓w_istore_5, ↓w_iload_5, ↓w_iload_1, ↓w_icne, ↓w_iload_2, ↓w_iclt, ↓w_iconst, ↓w_zret, ↓w_bipush, ↓w_iceq])
      | (with_reducible refine bX12_isOn_8 ?_; simp (disch := first | omega | decide) only [w_nl0, w_nli, w_nlr, ↓w_ts1, ↓w_ts0, w_rcv, w_rfv, w_cs, true_and, and_true, List.length_nil, List.length_cons, Nat.reduceAdd, Nat.reduceLeDiff, Nat.zero_le, Nat.reduceLT, ↓w_nil, ix_nI, nI_leP, nI_ltP, nI_eqP, nI_1, ↓i_inN, i_inN, l_le, l_lt, l_eq, r_le, r_lt, r_eq, sh68_0, sh68_1, sh68_2, sh68_3, sh68_4, ↓w_iload_4, ↓w_ifne, ↓w_aload_0, ↓w_gf3, ↓w_iload_3, ↓w_iaload, ↓w_goto, ↓w_istore_5, ↓w_iload_5, ↓w_iload_1, ↓w_icne, ↓w_iload_2, ↓w_iclt, ↓w_iconst, ↓w_zret, ↓w_bipush, ↓w_iceq])
      | (simp only [w_in])
      | (intro _))
    all_goals grind
  have key : ∀ q i, i ≤ q → i < n → ¬ nI i = nI m → ∀ on, Q (some (.int (if fr ≤ mfr I (nI m) (q + 1) on (nI i) then 1 else 0))) SH I J → UU g (d - 1) 251 kX12_isOn (pm_rm d 251) Q 5 [some (.ref 68), some (.int (nI m)), some (.int fr), some (.int (nI r)), some (.int face), some (.int (nI i))] [] SH I J (0, 0) := by
    intro q
    induction q with
    | zero =>
      intro i hi hin hne on hP
      have hi0 : i = 0 := by omega
      subst hi0
      have hff : I 12 0 = -9 := by
        rcases hF 0 hin with h | ⟨j, hj, h⟩
        · exact h
        · omega
      have e : mfr I (nI m) (0 + 1) on (nI 0) = -9 := by
        rw [mfr, if_pos (hasM_nI hn9 hin hn40), if_neg hne]
        rfl
      rw [e, if_neg hf9] at hP
      have w := key9 hP
      have h9 := n9 (j := 0) (by omega)
      have hm9 : ¬ (-9 : Int32) = nI m := fun z => n9 (j := m) (by omega) z.symm
      clear key9 hF hP hQ
      refine bX12_isOn_5 ?_
      simp (disch := first | omega | decide) only [w_nl0, w_nli, w_nlr, ↓w_ts1, ↓w_ts0, w_rcv, w_rfv, w_cs, true_and, and_true, List.length_nil, List.length_cons, Nat.reduceAdd, Nat.reduceLeDiff, Nat.zero_le, Nat.reduceLT, ↓w_nil, ix_nI, nI_leP, nI_ltP, nI_eqP, nI_1, ↓i_inN, i_inN, l_le, l_lt, l_eq, r_le, r_lt, r_eq, sh68_0, sh68_1, sh68_2, sh68_3, sh68_4, ↓w_iload_5, ↓w_bipush, ↓w_iceq, ↓w_aload_0, ↓w_gf3, ↓w_iaload, ↓w_iload_1, ↓w_istore_5, ↓w_goto, f1, hff]
      repeat' (first
        | (apply And.intro)
        | (simp only [w_in])
        | (intro _))
      all_goals grind
    | succ q ih =>
      intro i hi hin hne on hP
      have hix : (nI i).toNatClampNeg = i := ix_nI (by omega)
      have h9 := n9 (j := i) (by omega)
      have e : mfr I (nI m) (q + 1 + 1) on (nI i) = mfr I (nI m) (q + 1) (I 14 i) (I 12 i) := by
        rw [mfr, hix, if_pos (hasM_nI hn9 hin hn40), if_neg hne]
      rw [e] at hP
      clear e
      rcases hF i hin with h | ⟨j, hj, h⟩
      · rw [h, mfr_none, if_neg hf9] at hP
        have hm9 : ¬ (-9 : Int32) = nI m := fun z => n9 (j := m) (by omega) z.symm
        have w := key9 hP
        clear ih hF key9 hP hQ
        refine bX12_isOn_5 ?_
        simp (disch := first | omega | decide) only [w_nl0, w_nli, w_nlr, ↓w_ts1, ↓w_ts0, w_rcv, w_rfv, w_cs, true_and, and_true, List.length_nil, List.length_cons, Nat.reduceAdd, Nat.reduceLeDiff, Nat.zero_le, Nat.reduceLT, ↓w_nil, ix_nI, nI_leP, nI_ltP, nI_eqP, nI_1, ↓i_inN, i_inN, l_le, l_lt, l_eq, r_le, r_lt, r_eq, sh68_0, sh68_1, sh68_2, sh68_3, sh68_4, ↓w_iload_5, ↓w_bipush, ↓w_iceq, ↓w_aload_0, ↓w_gf3, ↓w_iaload, ↓w_iload_1, ↓w_istore_5, ↓w_goto, f1, h]
        repeat' (first
          | (apply And.intro)
          | (simp only [w_in])
          | (intro _))
        all_goals grind
      · by_cases hjm : nI j = nI m
        · rw [h, mfr, if_pos (hasM_nI hn9 (by omega) hn40), if_pos hjm] at hP
          have hjm2 := nI_inj (by omega) (by omega) hjm
          clear ih hF key9 hQ
          refine bX12_isOn_5 ?_
          simp (disch := first | omega | decide) only [w_nl0, w_nli, w_nlr, ↓w_ts1, ↓w_ts0, w_rcv, w_rfv, w_cs, true_and, and_true, List.length_nil, List.length_cons, Nat.reduceAdd, Nat.reduceLeDiff, Nat.zero_le, Nat.reduceLT, ↓w_nil, ix_nI, nI_leP, nI_ltP, nI_eqP, nI_1, ↓i_inN, i_inN, l_le, l_lt, l_eq, r_le, r_lt, r_eq, sh68_0, sh68_1, sh68_2, sh68_3, sh68_4, ↓w_iload_5, ↓w_bipush, ↓w_iceq, ↓w_aload_0, ↓w_gf3, ↓w_iaload, ↓w_iload_1, ↓w_istore_5, ↓w_goto, f1, h]
          repeat' (first
            | (apply And.intro)
            | (with_reducible refine bX12_isOn_6 ?_; simp (disch := first | omega | decide) only [w_nl0, w_nli, w_nlr, ↓w_ts1, ↓w_ts0, w_rcv, w_rfv, w_cs, true_and, and_true, List.length_nil, List.length_cons, Nat.reduceAdd, Nat.reduceLeDiff, Nat.zero_le, Nat.reduceLT, ↓w_nil, ix_nI, nI_leP, nI_ltP, nI_eqP, nI_1, ↓i_inN, i_inN, l_le, l_lt, l_eq, r_le, r_lt, r_eq, sh68_0, sh68_1, sh68_2, sh68_3, sh68_4, ↓w_iload_4, ↓w_ifne, ↓w_aload_0, ↓w_gf3, ↓w_iload_3, ↓w_iaload, ↓w_goto, ↓w_istore_5, ↓w_iload_5, ↓w_iload_1, ↓w_icne, ↓w_iload_2, ↓w_iclt, ↓w_iconst, ↓w_zret, ↓w_bipush, ↓w_iceq, b1])
            | (with_reducible refine bX12_isOn_7 ?_; simp (disch := first | omega | decide) only [w_nl0, w_nli, w_nlr, ↓w_ts1, ↓w_ts0, w_rcv, w_rfv, w_cs, true_and, and_true, List.length_nil, List.length_cons, Nat.reduceAdd, Nat.reduceLeDiff, Nat.zero_le, Nat.reduceLT, ↓w_nil, ix_nI, nI_leP, nI_ltP, nI_eqP, nI_1, ↓i_inN, i_inN, l_le, l_lt, l_eq, r_le, r_lt, r_eq, sh68_0, sh68_1, sh68_2, sh68_3, sh68_4, ↓w_iload_4, ↓w_ifne, ↓w_aload_0, ↓w_gf3, ↓w_iload_3, ↓w_iaload, ↓w_goto, ↓w_istore_5, ↓w_iload_5, ↓w_iload_1, ↓w_icne, ↓w_iload_2, ↓w_iclt, ↓w_iconst, ↓w_zret, ↓w_bipush, ↓w_iceq, b1])
            | (with_reducible refine bX12_isOn_8 ?_; simp (disch := first | omega | decide) only [w_nl0, w_nli, w_nlr, ↓w_ts1, ↓w_ts0, w_rcv, w_rfv, w_cs, true_and, and_true, List.length_nil, List.length_cons, Nat.reduceAdd, Nat.reduceLeDiff, Nat.zero_le, Nat.reduceLT, ↓w_nil, ix_nI, nI_leP, nI_ltP, nI_eqP, nI_1, ↓i_inN, i_inN, l_le, l_lt, l_eq, r_le, r_lt, r_eq, sh68_0, sh68_1, sh68_2, sh68_3, sh68_4, ↓w_iload_4, ↓w_ifne, ↓w_aload_0, ↓w_gf3, ↓w_iload_3, ↓w_iaload, ↓w_goto, ↓w_istore_5, ↓w_iload_5, ↓w_iload_1, ↓w_icne, ↓w_iload_2, ↓w_iclt, ↓w_iconst, ↓w_zret, ↓w_bipush, ↓w_iceq, b1])
            | (simp only [w_in])
            | (intro _))
          all_goals grind
        · rw [h] at hP
          have w := ih j (by omega) (by omega) hjm _ hP
          clear ih hF hP hQ key9
          refine bX12_isOn_5 ?_
          simp (disch := first | omega | decide) only [w_nl0, w_nli, w_nlr, ↓w_ts1, ↓w_ts0, w_rcv, w_rfv, w_cs, true_and, and_true, List.length_nil, List.length_cons, Nat.reduceAdd, Nat.reduceLeDiff, Nat.zero_le, Nat.reduceLT, ↓w_nil, ix_nI, nI_leP, nI_ltP, nI_eqP, nI_1, ↓i_inN, i_inN, l_le, l_lt, l_eq, r_le, r_lt, r_eq, sh68_0, sh68_1, sh68_2, sh68_3, sh68_4, ↓w_iload_5, ↓w_bipush, ↓w_iceq, ↓w_aload_0, ↓w_gf3, ↓w_iaload, ↓w_iload_1, ↓w_istore_5, ↓w_goto, f1, h]
          repeat' (first
            | (apply And.intro)
            | (simp only [w_in])
            | (intro _))
          all_goals grind
  obtain ⟨i, hi, rfl⟩ := hs
  have hix : (nI i).toNatClampNeg = i := ix_nI (by omega)
  by_cases him : nI i = nI m
  · have e : mfr I (nI m) 40 (I 25 r) (nI i) = I 25 r := by
      rw [show 40 = 39 + 1 from rfl, mfr, if_pos (hasM_nI hn9 hi hn40), if_pos him]
    rw [e] at hQ
    clear key key9 hF
    refine eX12_isOn (by omega) ?_
    repeat' (first
      | (apply And.intro)
      | (with_reducible refine bX12_isOn_0 ?_; simp (disch := first | omega | decide) only [w_nl0, w_nli, w_nlr, ↓w_ts1, ↓w_ts0, w_rcv, w_rfv, w_cs, true_and, and_true, List.length_nil, List.length_cons, Nat.reduceAdd, Nat.reduceLeDiff, Nat.zero_le, Nat.reduceLT, ↓w_nil, ix_nI, nI_leP, nI_ltP, nI_eqP, nI_1, ↓i_inN, i_inN, l_le, l_lt, l_eq, r_le, r_lt, r_eq, sh68_0, sh68_1, sh68_2, sh68_3, sh68_4, ↓w_iload_4, ↓w_ifne, ↓w_aload_0, ↓w_gf3, ↓w_iload_3, ↓w_iaload, ↓w_goto, ↓w_istore_5, ↓w_iload_5, ↓w_iload_1, ↓w_icne, ↓w_iload_2, ↓w_iclt, ↓w_iconst, ↓w_zret, ↓w_bipush, ↓w_iceq, p2])
      | (with_reducible refine bX12_isOn_1 ?_; simp (disch := first | omega | decide) only [w_nl0, w_nli, w_nlr, ↓w_ts1, ↓w_ts0, w_rcv, w_rfv, w_cs, true_and, and_true, List.length_nil, List.length_cons, Nat.reduceAdd, Nat.reduceLeDiff, Nat.zero_le, Nat.reduceLT, ↓w_nil, ix_nI, nI_leP, nI_ltP, nI_eqP, nI_1, ↓i_inN, i_inN, l_le, l_lt, l_eq, r_le, r_lt, r_eq, sh68_0, sh68_1, sh68_2, sh68_3, sh68_4, ↓w_iload_4, ↓w_ifne, ↓w_aload_0, ↓w_gf3, ↓w_iload_3, ↓w_iaload, ↓w_goto, ↓w_istore_5, ↓w_iload_5, ↓w_iload_1, ↓w_icne, ↓w_iload_2, ↓w_iclt, ↓w_iconst, ↓w_zret, ↓w_bipush, ↓w_iceq, p2])
      | (with_reducible refine bX12_isOn_2 ?_; simp (disch := first | omega | decide) only [w_nl0, w_nli, w_nlr, ↓w_ts1, ↓w_ts0, w_rcv, w_rfv, w_cs, true_and, and_true, List.length_nil, List.length_cons, Nat.reduceAdd, Nat.reduceLeDiff, Nat.zero_le, Nat.reduceLT, ↓w_nil, ix_nI, nI_leP, nI_ltP, nI_eqP, nI_1, ↓i_inN, i_inN, l_le, l_lt, l_eq, r_le, r_lt, r_eq, sh68_0, sh68_1, sh68_2, sh68_3, sh68_4, ↓w_iload_4, ↓w_ifne, ↓w_aload_0, ↓w_gf3, ↓w_iload_3, ↓w_iaload, ↓w_goto, ↓w_istore_5, ↓w_iload_5, ↓w_iload_1, ↓w_icne, ↓w_iload_2, ↓w_iclt, ↓w_iconst, ↓w_zret, ↓w_bipush, ↓w_iceq, p2])
      | (with_reducible refine bX12_isOn_3 ?_; simp (disch := first | omega | decide) only [w_nl0, w_nli, w_nlr, ↓w_ts1, ↓w_ts0, w_rcv, w_rfv, w_cs, true_and, and_true, List.length_nil, List.length_cons, Nat.reduceAdd, Nat.reduceLeDiff, Nat.zero_le, Nat.reduceLT, ↓w_nil, ix_nI, nI_leP, nI_ltP, nI_eqP, nI_1, ↓i_inN, i_inN, l_le, l_lt, l_eq, r_le, r_lt, r_eq, sh68_0, sh68_1, sh68_2, sh68_3, sh68_4, ↓w_iload_4, ↓w_ifne, ↓w_aload_0, ↓w_gf3, ↓w_iload_3, ↓w_iaload, ↓w_goto, ↓w_istore_5, ↓w_iload_5, ↓w_iload_1, ↓w_icne, ↓w_iload_2, ↓w_iclt, ↓w_iconst, ↓w_zret, ↓w_bipush, ↓w_iceq, p2])
      | (with_reducible refine bX12_isOn_4 ?_; simp (disch := first | omega | decide) only [w_nl0, w_nli, w_nlr, ↓w_ts1, ↓w_ts0, w_rcv, w_rfv, w_cs, true_and, and_true, List.length_nil, List.length_cons, Nat.reduceAdd, Nat.reduceLeDiff, Nat.zero_le, Nat.reduceLT, ↓w_nil, ix_nI, nI_leP, nI_ltP, nI_eqP, nI_1, ↓i_inN, i_inN, l_le, l_lt, l_eq, r_le, r_lt, r_eq, sh68_0, sh68_1, sh68_2, sh68_3, sh68_4, ↓w_iload_4, ↓w_ifne, ↓w_aload_0, ↓w_gf3, ↓w_iload_3, ↓w_iaload, ↓w_goto, ↓w_istore_5, ↓w_iload_5, ↓w_iload_1, ↓w_icne, ↓w_iload_2, ↓w_iclt, ↓w_iconst, ↓w_zret, ↓w_bipush, ↓w_iceq, p2])
      | (simp only [w_in])
      | (intro _))
    all_goals grind
  · have w := key 39 i (by omega) hi him (I 25 r) hQ
    clear key key9 hF hQ
    refine eX12_isOn (by omega) ?_
    repeat' (first
      | (apply And.intro)
      | (with_reducible refine bX12_isOn_0 ?_; simp (disch := first | omega | decide) only [w_nl0, w_nli, w_nlr, ↓w_ts1, ↓w_ts0, w_rcv, w_rfv, w_cs, true_and, and_true, List.length_nil, List.length_cons, Nat.reduceAdd, Nat.reduceLeDiff, Nat.zero_le, Nat.reduceLT, ↓w_nil, ix_nI, nI_leP, nI_ltP, nI_eqP, nI_1, ↓i_inN, i_inN, l_le, l_lt, l_eq, r_le, r_lt, r_eq, sh68_0, sh68_1, sh68_2, sh68_3, sh68_4, ↓w_iload_4, ↓w_ifne, ↓w_aload_0, ↓w_gf3, ↓w_iload_3, ↓w_iaload, ↓w_goto, ↓w_istore_5, ↓w_iload_5, ↓w_iload_1, ↓w_icne, ↓w_iload_2, ↓w_iclt, ↓w_iconst, ↓w_zret, ↓w_bipush, ↓w_iceq, p2])
      | (with_reducible refine bX12_isOn_1 ?_; simp (disch := first | omega | decide) only [w_nl0, w_nli, w_nlr, ↓w_ts1, ↓w_ts0, w_rcv, w_rfv, w_cs, true_and, and_true, List.length_nil, List.length_cons, Nat.reduceAdd, Nat.reduceLeDiff, Nat.zero_le, Nat.reduceLT, ↓w_nil, ix_nI, nI_leP, nI_ltP, nI_eqP, nI_1, ↓i_inN, i_inN, l_le, l_lt, l_eq, r_le, r_lt, r_eq, sh68_0, sh68_1, sh68_2, sh68_3, sh68_4, ↓w_iload_4, ↓w_ifne, ↓w_aload_0, ↓w_gf3, ↓w_iload_3, ↓w_iaload, ↓w_goto, ↓w_istore_5, ↓w_iload_5, ↓w_iload_1, ↓w_icne, ↓w_iload_2, ↓w_iclt, ↓w_iconst, ↓w_zret, ↓w_bipush, ↓w_iceq, p2])
      | (with_reducible refine bX12_isOn_2 ?_; simp (disch := first | omega | decide) only [w_nl0, w_nli, w_nlr, ↓w_ts1, ↓w_ts0, w_rcv, w_rfv, w_cs, true_and, and_true, List.length_nil, List.length_cons, Nat.reduceAdd, Nat.reduceLeDiff, Nat.zero_le, Nat.reduceLT, ↓w_nil, ix_nI, nI_leP, nI_ltP, nI_eqP, nI_1, ↓i_inN, i_inN, l_le, l_lt, l_eq, r_le, r_lt, r_eq, sh68_0, sh68_1, sh68_2, sh68_3, sh68_4, ↓w_iload_4, ↓w_ifne, ↓w_aload_0, ↓w_gf3, ↓w_iload_3, ↓w_iaload, ↓w_goto, ↓w_istore_5, ↓w_iload_5, ↓w_iload_1, ↓w_icne, ↓w_iload_2, ↓w_iclt, ↓w_iconst, ↓w_zret, ↓w_bipush, ↓w_iceq, p2])
      | (simp only [w_in])
      | (intro _))
    all_goals grind
/-- a run has a face from that metal, made on that day or later -/
def onR (I : pm_MI) (m fr : Int32) (r : Nat) : Prop := fr ≤ mfr I m 40 (I 25 r) (I 28 (2 * r)) ∨ fr ≤ mfr I m 40 (I 25 r) (I 28 (2 * r + 1))
noncomputable def rcV (I : pm_MI) (m fr l : Int32) (M : Nat) (n : Nat) : Int32 := by
  classical
  exact itr (fun k a => if onR I m fr k then a + kiV I (nI k) l M else a) 0 n
theorem c_runIsOn {r n : Nat} {m fr : Int32} (hd : 4 ≤ d) (hn : I 23 7 = nI n) (hn30 : n ≤ 30) (hr : r < n) (h1 : onR I m fr r → Q (some (.int 1)) SH I J) (h0 : ¬ onR I m fr r → Q (some (.int 0)) SH I J) : pm_C g d 160 [.ref 0, .int (nI r), .int m, .int fr] Q SH I J := by
  have hh := hasR_nI hn hr hn30
  have hix : (nI r).toNatClampNeg = r := ix_nI (by omega)
  unfold onR at h1 h0
  refine eX11_runIsOn (by omega) ?_
  repeat' (first
    | (apply And.intro)
    | (with_reducible refine bX11_runIsOn_0 ?_; simp (disch := first | omega | decide) only [w_nl0, w_nli, w_nlr, ↓w_ts1, ↓w_ts0, w_rcv, w_rfv, w_cs, true_and, and_true, List.length_nil, List.length_cons, Nat.reduceAdd, Nat.reduceLeDiff, Nat.zero_le, Nat.reduceLT, ↓w_nil, ix_nI, nI_leP, nI_ltP, nI_eqP, nI_1, ↓i_inN, i_inN, l_le, l_lt, l_eq, r_le, r_lt, r_eq, sh0, sh1, sh55, sh60, sh9, sh31, sh23, sh37, sh42, sh43, sh19, sh3, sh6, ↓w_aload_0, ↓w_gf3, ↓w_iload_1, ↓w_iv, ↓pm_cl2_2, ↓w_istore_4, ↓w_iconst, ↓pm_cl2_3, ↓w_iload_4, ↓w_iload_2, ↓pm_cl2_4, ↓w_iload_3, ↓w_icge, ↓w_iclt, ↓w_goto, ↓w_zret, hix, if_pos hh])
    | (with_reducible refine bX11_runIsOn_1 ?_; simp (disch := first | omega | decide) only [w_nl0, w_nli, w_nlr, ↓w_ts1, ↓w_ts0, w_rcv, w_rfv, w_cs, true_and, and_true, List.length_nil, List.length_cons, Nat.reduceAdd, Nat.reduceLeDiff, Nat.zero_le, Nat.reduceLT, ↓w_nil, ix_nI, nI_leP, nI_ltP, nI_eqP, nI_1, ↓i_inN, i_inN, l_le, l_lt, l_eq, r_le, r_lt, r_eq, sh0, sh1, sh55, sh60, sh9, sh31, sh23, sh37, sh42, sh43, sh19, sh3, sh6, ↓w_aload_0, ↓w_gf3, ↓w_iload_1, ↓w_iv, ↓pm_cl2_2, ↓w_istore_4, ↓w_iconst, ↓pm_cl2_3, ↓w_iload_4, ↓w_iload_2, ↓pm_cl2_4, ↓w_iload_3, ↓w_icge, ↓w_iclt, ↓w_goto, ↓w_zret, hix, if_pos hh])
    | (with_reducible refine bX11_runIsOn_2 ?_; simp (disch := first | omega | decide) only [w_nl0, w_nli, w_nlr, ↓w_ts1, ↓w_ts0, w_rcv, w_rfv, w_cs, true_and, and_true, List.length_nil, List.length_cons, Nat.reduceAdd, Nat.reduceLeDiff, Nat.zero_le, Nat.reduceLT, ↓w_nil, ix_nI, nI_leP, nI_ltP, nI_eqP, nI_1, ↓i_inN, i_inN, l_le, l_lt, l_eq, r_le, r_lt, r_eq, sh0, sh1, sh55, sh60, sh9, sh31, sh23, sh37, sh42, sh43, sh19, sh3, sh6, ↓w_aload_0, ↓w_gf3, ↓w_iload_1, ↓w_iv, ↓pm_cl2_2, ↓w_istore_4, ↓w_iconst, ↓pm_cl2_3, ↓w_iload_4, ↓w_iload_2, ↓pm_cl2_4, ↓w_iload_3, ↓w_icge, ↓w_iclt, ↓w_goto, ↓w_zret, hix, if_pos hh])
    | (with_reducible refine bX11_runIsOn_3 ?_; simp (disch := first | omega | decide) only [w_nl0, w_nli, w_nlr, ↓w_ts1, ↓w_ts0, w_rcv, w_rfv, w_cs, true_and, and_true, List.length_nil, List.length_cons, Nat.reduceAdd, Nat.reduceLeDiff, Nat.zero_le, Nat.reduceLT, ↓w_nil, ix_nI, nI_leP, nI_ltP, nI_eqP, nI_1, ↓i_inN, i_inN, l_le, l_lt, l_eq, r_le, r_lt, r_eq, sh0, sh1, sh55, sh60, sh9, sh31, sh23, sh37, sh42, sh43, sh19, sh3, sh6, ↓w_aload_0, ↓w_gf3, ↓w_iload_1, ↓w_iv, ↓pm_cl2_2, ↓w_istore_4, ↓w_iconst, ↓pm_cl2_3, ↓w_iload_4, ↓w_iload_2, ↓pm_cl2_4, ↓w_iload_3, ↓w_icge, ↓w_iclt, ↓w_goto, ↓w_zret, hix, if_pos hh])
    | (with_reducible refine c_R_dayOf (by omega) ?_ ; simp (disch := first | omega | decide) only [w_nl0, w_nli, w_nlr, ↓w_ts1, ↓w_ts0, w_rcv, w_rfv, w_cs, true_and, and_true, List.length_nil, List.length_cons, Nat.reduceAdd, Nat.reduceLeDiff, Nat.zero_le, Nat.reduceLT, ↓w_nil, ix_nI, nI_leP, nI_ltP, nI_eqP, nI_1, ↓i_inN, i_inN, l_le, l_lt, l_eq, r_le, r_lt, r_eq, sh0, sh1, sh55, sh60, sh9, sh31, sh23, sh37, sh42, sh43, sh19, sh3, sh6, ↓w_aload_0, ↓w_gf3, ↓w_iload_1, ↓w_iv, ↓pm_cl2_2, ↓w_istore_4, ↓w_iconst, ↓pm_cl2_3, ↓w_iload_4, ↓w_iload_2, ↓pm_cl2_4, ↓w_iload_3, ↓w_icge, ↓w_iclt, ↓w_goto, ↓w_zret, hix, if_pos hh])
    | (with_reducible refine c_R_stamper0 (by omega) hn hn30 hr ?_ ; simp (disch := first | omega | decide) only [w_nl0, w_nli, w_nlr, ↓w_ts1, ↓w_ts0, w_rcv, w_rfv, w_cs, true_and, and_true, List.length_nil, List.length_cons, Nat.reduceAdd, Nat.reduceLeDiff, Nat.zero_le, Nat.reduceLT, ↓w_nil, ix_nI, nI_leP, nI_ltP, nI_eqP, nI_1, ↓i_inN, i_inN, l_le, l_lt, l_eq, r_le, r_lt, r_eq, sh0, sh1, sh55, sh60, sh9, sh31, sh23, sh37, sh42, sh43, sh19, sh3, sh6, ↓w_aload_0, ↓w_gf3, ↓w_iload_1, ↓w_iv, ↓pm_cl2_2, ↓w_istore_4, ↓w_iconst, ↓pm_cl2_3, ↓w_iload_4, ↓w_iload_2, ↓pm_cl2_4, ↓w_iload_3, ↓w_icge, ↓w_iclt, ↓w_goto, ↓w_zret, hix, if_pos hh])
    | (with_reducible refine c_R_stamper1 (by omega) hn hn30 hr ?_ ; simp (disch := first | omega | decide) only [w_nl0, w_nli, w_nlr, ↓w_ts1, ↓w_ts0, w_rcv, w_rfv, w_cs, true_and, and_true, List.length_nil, List.length_cons, Nat.reduceAdd, Nat.reduceLeDiff, Nat.zero_le, Nat.reduceLT, ↓w_nil, ix_nI, nI_leP, nI_ltP, nI_eqP, nI_1, ↓i_inN, i_inN, l_le, l_lt, l_eq, r_le, r_lt, r_eq, sh0, sh1, sh55, sh60, sh9, sh31, sh23, sh37, sh42, sh43, sh19, sh3, sh6, ↓w_aload_0, ↓w_gf3, ↓w_iload_1, ↓w_iv, ↓pm_cl2_2, ↓w_istore_4, ↓w_iconst, ↓pm_cl2_3, ↓w_iload_4, ↓w_iload_2, ↓pm_cl2_4, ↓w_iload_3, ↓w_icge, ↓w_iclt, ↓w_goto, ↓w_zret, hix, if_pos hh])
    | (with_reducible refine c_madeFrom (by omega) ?_ ; simp (disch := first | omega | decide) only [w_nl0, w_nli, w_nlr, ↓w_ts1, ↓w_ts0, w_rcv, w_rfv, w_cs, true_and, and_true, List.length_nil, List.length_cons, Nat.reduceAdd, Nat.reduceLeDiff, Nat.zero_le, Nat.reduceLT, ↓w_nil, ix_nI, nI_leP, nI_ltP, nI_eqP, nI_1, ↓i_inN, i_inN, l_le, l_lt, l_eq, r_le, r_lt, r_eq, sh0, sh1, sh55, sh60, sh9, sh31, sh23, sh37, sh42, sh43, sh19, sh3, sh6, ↓w_aload_0, ↓w_gf3, ↓w_iload_1, ↓w_iv, ↓pm_cl2_2, ↓w_istore_4, ↓w_iconst, ↓pm_cl2_3, ↓w_iload_4, ↓w_iload_2, ↓pm_cl2_4, ↓w_iload_3, ↓w_icge, ↓w_iclt, ↓w_goto, ↓w_zret, hix, if_pos hh])
    | (simp only [w_in])
    | (intro _))
  all_goals grind
theorem c_recall {m fr l : Int32} {N M : Nat} (hd : 8 ≤ d) (hg : hasM I m ∧ (0 ≤ fr ∧ fr ≤ 999) ∧ (0 ≤ l ∧ l < 8)) (hN2 : I 23 7 = nI N) (hN : N ≤ 30) (hM2 : I 55 4 = nI M) (hM : M ≤ 60) (hQ : Q (some (.int (rcV I m fr l M N))) SH I J) : pm_C g d 159 [.ref 0, .int m, .int fr, .int l] Q SH I J := by
  classical
  unfold rcV at hQ
  refine eX11_recall (by omega) ?_
  repeat' (first
    | (apply And.intro)
    | (with_reducible refine bX11_recall_0 ?_; simp (disch := first | omega | decide) only [w_nl0, w_nli, w_nlr, ↓w_ts1, ↓w_ts0, w_rcv, w_rfv, w_cs, true_and, and_true, List.length_nil, List.length_cons, Nat.reduceAdd, Nat.reduceLeDiff, Nat.zero_le, Nat.reduceLT, ↓w_nil, ix_nI, nI_leP, nI_ltP, nI_eqP, nI_1, ↓i_inN, i_inN, l_le, l_lt, l_eq, r_le, r_lt, r_eq, sh0, sh1, sh55, sh60, sh9, sh31, sh23, sh37, sh42, sh43, sh19, sh3, sh6, ↓w_aload_0, ↓w_gf3, ↓w_iload_1, ↓w_iv, ↓pm_cl2_2, ↓w_ifeq, ↓w_iload_2, ↓w_is, ↓pm_cl1_1, ↓w_iload_3, ↓w_bipush, ↓pm_cl1_2, ↓w_ifne, ↓w_iconst, ↓w_ret, ↓w_istore_4, ↓w_istore_5, ↓w_iload_5, ↓w_gf0, ↓w_icge, ↓pm_cl2_4, ↓w_iload_4, ↓pm_cl2_3, ↓w_iadd, ↓w_iinc_5, ↓w_goto])
    | (with_reducible refine bX11_recall_1 ?_; simp (disch := first | omega | decide) only [w_nl0, w_nli, w_nlr, ↓w_ts1, ↓w_ts0, w_rcv, w_rfv, w_cs, true_and, and_true, List.length_nil, List.length_cons, Nat.reduceAdd, Nat.reduceLeDiff, Nat.zero_le, Nat.reduceLT, ↓w_nil, ix_nI, nI_leP, nI_ltP, nI_eqP, nI_1, ↓i_inN, i_inN, l_le, l_lt, l_eq, r_le, r_lt, r_eq, sh0, sh1, sh55, sh60, sh9, sh31, sh23, sh37, sh42, sh43, sh19, sh3, sh6, ↓w_aload_0, ↓w_gf3, ↓w_iload_1, ↓w_iv, ↓pm_cl2_2, ↓w_ifeq, ↓w_iload_2, ↓w_is, ↓pm_cl1_1, ↓w_iload_3, ↓w_bipush, ↓pm_cl1_2, ↓w_ifne, ↓w_iconst, ↓w_ret, ↓w_istore_4, ↓w_istore_5, ↓w_iload_5, ↓w_gf0, ↓w_icge, ↓pm_cl2_4, ↓w_iload_4, ↓pm_cl2_3, ↓w_iadd, ↓w_iinc_5, ↓w_goto])
    | (with_reducible refine bX11_recall_2 ?_; simp (disch := first | omega | decide) only [w_nl0, w_nli, w_nlr, ↓w_ts1, ↓w_ts0, w_rcv, w_rfv, w_cs, true_and, and_true, List.length_nil, List.length_cons, Nat.reduceAdd, Nat.reduceLeDiff, Nat.zero_le, Nat.reduceLT, ↓w_nil, ix_nI, nI_leP, nI_ltP, nI_eqP, nI_1, ↓i_inN, i_inN, l_le, l_lt, l_eq, r_le, r_lt, r_eq, sh0, sh1, sh55, sh60, sh9, sh31, sh23, sh37, sh42, sh43, sh19, sh3, sh6, ↓w_aload_0, ↓w_gf3, ↓w_iload_1, ↓w_iv, ↓pm_cl2_2, ↓w_ifeq, ↓w_iload_2, ↓w_is, ↓pm_cl1_1, ↓w_iload_3, ↓w_bipush, ↓pm_cl1_2, ↓w_ifne, ↓w_iconst, ↓w_ret, ↓w_istore_4, ↓w_istore_5, ↓w_iload_5, ↓w_gf0, ↓w_icge, ↓pm_cl2_4, ↓w_iload_4, ↓pm_cl2_3, ↓w_iadd, ↓w_iinc_5, ↓w_goto])
    | (with_reducible refine c_M_has (by omega) ?_ ; simp (disch := first | omega | decide) only [w_nl0, w_nli, w_nlr, ↓w_ts1, ↓w_ts0, w_rcv, w_rfv, w_cs, true_and, and_true, List.length_nil, List.length_cons, Nat.reduceAdd, Nat.reduceLeDiff, Nat.zero_le, Nat.reduceLT, ↓w_nil, ix_nI, nI_leP, nI_ltP, nI_eqP, nI_1, ↓i_inN, i_inN, l_le, l_lt, l_eq, r_le, r_lt, r_eq, sh0, sh1, sh55, sh60, sh9, sh31, sh23, sh37, sh42, sh43, sh19, sh3, sh6, ↓w_aload_0, ↓w_gf3, ↓w_iload_1, ↓w_iv, ↓pm_cl2_2, ↓w_ifeq, ↓w_iload_2, ↓w_is, ↓pm_cl1_1, ↓w_iload_3, ↓w_bipush, ↓pm_cl1_2, ↓w_ifne, ↓w_iconst, ↓w_ret, ↓w_istore_4, ↓w_istore_5, ↓w_iload_5, ↓w_gf0, ↓w_icge, ↓pm_cl2_4, ↓w_iload_4, ↓pm_cl2_3, ↓w_iadd, ↓w_iinc_5, ↓w_goto])
    | (with_reducible refine c_isDay (by omega) ?_ ; simp (disch := first | omega | decide) only [w_nl0, w_nli, w_nlr, ↓w_ts1, ↓w_ts0, w_rcv, w_rfv, w_cs, true_and, and_true, List.length_nil, List.length_cons, Nat.reduceAdd, Nat.reduceLeDiff, Nat.zero_le, Nat.reduceLT, ↓w_nil, ix_nI, nI_leP, nI_ltP, nI_eqP, nI_1, ↓i_inN, i_inN, l_le, l_lt, l_eq, r_le, r_lt, r_eq, sh0, sh1, sh55, sh60, sh9, sh31, sh23, sh37, sh42, sh43, sh19, sh3, sh6, ↓w_aload_0, ↓w_gf3, ↓w_iload_1, ↓w_iv, ↓pm_cl2_2, ↓w_ifeq, ↓w_iload_2, ↓w_is, ↓pm_cl1_1, ↓w_iload_3, ↓w_bipush, ↓pm_cl1_2, ↓w_ifne, ↓w_iconst, ↓w_ret, ↓w_istore_4, ↓w_istore_5, ↓w_iload_5, ↓w_gf0, ↓w_icge, ↓pm_cl2_4, ↓w_iload_4, ↓pm_cl2_3, ↓w_iadd, ↓w_iinc_5, ↓w_goto])
    | (with_reducible refine c_below (by omega) ?_ ; simp (disch := first | omega | decide) only [w_nl0, w_nli, w_nlr, ↓w_ts1, ↓w_ts0, w_rcv, w_rfv, w_cs, true_and, and_true, List.length_nil, List.length_cons, Nat.reduceAdd, Nat.reduceLeDiff, Nat.zero_le, Nat.reduceLT, ↓w_nil, ix_nI, nI_leP, nI_ltP, nI_eqP, nI_1, ↓i_inN, i_inN, l_le, l_lt, l_eq, r_le, r_lt, r_eq, sh0, sh1, sh55, sh60, sh9, sh31, sh23, sh37, sh42, sh43, sh19, sh3, sh6, ↓w_aload_0, ↓w_gf3, ↓w_iload_1, ↓w_iv, ↓pm_cl2_2, ↓w_ifeq, ↓w_iload_2, ↓w_is, ↓pm_cl1_1, ↓w_iload_3, ↓w_bipush, ↓pm_cl1_2, ↓w_ifne, ↓w_iconst, ↓w_ret, ↓w_istore_4, ↓w_istore_5, ↓w_iload_5, ↓w_gf0, ↓w_icge, ↓pm_cl2_4, ↓w_iload_4, ↓pm_cl2_3, ↓w_iadd, ↓w_iinc_5, ↓w_goto])
    | (simp only [w_in])
    | (intro _))
  all_goals try grind
  refine pm_for (f := fun k (a : Int32) => if onR I m fr k then a + kiV I (nI k) l M else a) (U := fun k a => UU g (d - 1) 159 kX11_recall (pm_rm d 159) Q 3 [some (.ref 0), some (.int m), some (.int fr), some (.int l), some (.int a), some (.int (nI k))] [] SH I J (0, 0)) N (fun k b hk hb w => ?_) ?_
  · clear hQ hb
    refine bX11_recall_3 ?_
    simp (disch := first | omega | decide) only [w_nl0, w_nli, w_nlr, ↓w_ts1, ↓w_ts0, w_rcv, w_rfv, w_cs, true_and, and_true, List.length_nil, List.length_cons, Nat.reduceAdd, Nat.reduceLeDiff, Nat.zero_le, Nat.reduceLT, ↓w_nil, ix_nI, nI_leP, nI_ltP, nI_eqP, nI_1, ↓i_inN, i_inN, l_le, l_lt, l_eq, r_le, r_lt, r_eq, sh0, sh1, sh55, sh60, sh9, sh31, sh23, sh37, sh42, sh43, sh19, sh3, sh6, ↓w_iload_5, ↓w_aload_0, ↓w_gf3, ↓w_gf0, ↓w_icge, ↓w_iload_1, ↓w_iload_2, ↓w_iv, ↓pm_cl2_4, ↓w_ifeq, ↓w_iload_4, ↓w_iload_3, ↓pm_cl2_3, ↓w_iadd, ↓w_istore_4, hN2]
    repeat' (first
      | (apply And.intro)
      | (with_reducible refine bX11_recall_4 ?_; simp (disch := first | omega | decide) only [w_nl0, w_nli, w_nlr, ↓w_ts1, ↓w_ts0, w_rcv, w_rfv, w_cs, true_and, and_true, List.length_nil, List.length_cons, Nat.reduceAdd, Nat.reduceLeDiff, Nat.zero_le, Nat.reduceLT, ↓w_nil, ix_nI, nI_leP, nI_ltP, nI_eqP, nI_1, ↓i_inN, i_inN, l_le, l_lt, l_eq, r_le, r_lt, r_eq, sh0, sh1, sh55, sh60, sh9, sh31, sh23, sh37, sh42, sh43, sh19, sh3, sh6, ↓w_aload_0, ↓w_gf3, ↓w_iload_1, ↓w_iv, ↓pm_cl2_2, ↓w_ifeq, ↓w_iload_2, ↓w_is, ↓pm_cl1_1, ↓w_iload_3, ↓w_bipush, ↓pm_cl1_2, ↓w_ifne, ↓w_iconst, ↓w_ret, ↓w_istore_4, ↓w_istore_5, ↓w_iload_5, ↓w_gf0, ↓w_icge, ↓pm_cl2_4, ↓w_iload_4, ↓pm_cl2_3, ↓w_iadd, ↓w_iinc_5, ↓w_goto])
      | (with_reducible refine c_runIsOn (by omega) hN2 hN hk (fun hh => ?_) (fun hh => ?_) <;> simp (disch := first | omega | decide) only [w_nl0, w_nli, w_nlr, ↓w_ts1, ↓w_ts0, w_rcv, w_rfv, w_cs, true_and, and_true, List.length_nil, List.length_cons, Nat.reduceAdd, Nat.reduceLeDiff, Nat.zero_le, Nat.reduceLT, ↓w_nil, ix_nI, nI_leP, nI_ltP, nI_eqP, nI_1, ↓i_inN, i_inN, l_le, l_lt, l_eq, r_le, r_lt, r_eq, sh0, sh1, sh55, sh60, sh9, sh31, sh23, sh37, sh42, sh43, sh19, sh3, sh6, ↓w_aload_0, ↓w_gf3, ↓w_iload_1, ↓w_iv, ↓pm_cl2_2, ↓w_ifeq, ↓w_iload_2, ↓w_is, ↓pm_cl1_1, ↓w_iload_3, ↓w_bipush, ↓pm_cl1_2, ↓w_ifne, ↓w_iconst, ↓w_ret, ↓w_istore_4, ↓w_istore_5, ↓w_iload_5, ↓w_gf0, ↓w_icge, ↓pm_cl2_4, ↓w_iload_4, ↓pm_cl2_3, ↓w_iadd, ↓w_iinc_5, ↓w_goto])
      | (with_reducible refine c_ki (by omega) hM2 hM ?_ ; simp (disch := first | omega | decide) only [w_nl0, w_nli, w_nlr, ↓w_ts1, ↓w_ts0, w_rcv, w_rfv, w_cs, true_and, and_true, List.length_nil, List.length_cons, Nat.reduceAdd, Nat.reduceLeDiff, Nat.zero_le, Nat.reduceLT, ↓w_nil, ix_nI, nI_leP, nI_ltP, nI_eqP, nI_1, ↓i_inN, i_inN, l_le, l_lt, l_eq, r_le, r_lt, r_eq, sh0, sh1, sh55, sh60, sh9, sh31, sh23, sh37, sh42, sh43, sh19, sh3, sh6, ↓w_aload_0, ↓w_gf3, ↓w_iload_1, ↓w_iv, ↓pm_cl2_2, ↓w_ifeq, ↓w_iload_2, ↓w_is, ↓pm_cl1_1, ↓w_iload_3, ↓w_bipush, ↓pm_cl1_2, ↓w_ifne, ↓w_iconst, ↓w_ret, ↓w_istore_4, ↓w_istore_5, ↓w_iload_5, ↓w_gf0, ↓w_icge, ↓pm_cl2_4, ↓w_iload_4, ↓pm_cl2_3, ↓w_iadd, ↓w_iinc_5, ↓w_goto])
      | (simp only [w_in])
      | (intro _))
    all_goals grind
  · refine bX11_recall_3 ?_
    simp (disch := first | omega | decide) only [w_nl0, w_nli, w_nlr, ↓w_ts1, ↓w_ts0, w_rcv, w_rfv, w_cs, true_and, and_true, List.length_nil, List.length_cons, Nat.reduceAdd, Nat.reduceLeDiff, Nat.zero_le, Nat.reduceLT, ↓w_nil, ix_nI, nI_leP, nI_ltP, nI_eqP, nI_1, ↓i_inN, i_inN, l_le, l_lt, l_eq, r_le, r_lt, r_eq, sh0, sh1, sh55, sh60, sh9, sh31, sh23, sh37, sh42, sh43, sh19, sh3, sh6, ↓w_iload_5, ↓w_aload_0, ↓w_gf3, ↓w_gf0, ↓w_icge, ↓w_iload_1, ↓w_iload_2, ↓w_iv, ↓pm_cl2_4, ↓w_ifeq, ↓w_iload_4, ↓w_iload_3, ↓pm_cl2_3, ↓w_iadd, ↓w_istore_4, hN2]
    repeat' (first
      | (apply And.intro)
      | (with_reducible refine bX11_recall_5 ?_; simp (disch := first | omega | decide) only [w_nl0, w_nli, w_nlr, ↓w_ts1, ↓w_ts0, w_rcv, w_rfv, w_cs, true_and, and_true, List.length_nil, List.length_cons, Nat.reduceAdd, Nat.reduceLeDiff, Nat.zero_le, Nat.reduceLT, ↓w_nil, ix_nI, nI_leP, nI_ltP, nI_eqP, nI_1, ↓i_inN, i_inN, l_le, l_lt, l_eq, r_le, r_lt, r_eq, sh0, sh1, sh55, sh60, sh9, sh31, sh23, sh37, sh42, sh43, sh19, sh3, sh6, ↓w_aload_0, ↓w_gf3, ↓w_iload_1, ↓w_iv, ↓pm_cl2_2, ↓w_ifeq, ↓w_iload_2, ↓w_is, ↓pm_cl1_1, ↓w_iload_3, ↓w_bipush, ↓pm_cl1_2, ↓w_ifne, ↓w_iconst, ↓w_ret, ↓w_istore_4, ↓w_istore_5, ↓w_iload_5, ↓w_gf0, ↓w_icge, ↓pm_cl2_4, ↓w_iload_4, ↓pm_cl2_3, ↓w_iadd, ↓w_iinc_5, ↓w_goto])
      | (simp only [w_in])
      | (intro _))
    all_goals grind
theorem m_recall {m N M n : Nat} {fr l : Int32} (hd : 8 ≤ d) (hn1 : I 68 23 = nI n) (hn9 : I 9 9 = nI n) (hn40 : n ≤ 40) (hm : m < n) (hF : fOk (I 12) n) (f1 : I 81 = I 12) (b1 : I 83 = I 14) (p2 : I 93 = I 25) (hg : (0 ≤ fr ∧ fr ≤ 999) ∧ (0 ≤ l ∧ l < 8)) (hN2 : I 68 38 = nI N) (hN : N ≤ 30) (hM2 : I 68 67 = nI M) (hM : M ≤ 60) (hr : ∀ r, r < N → I 96 r = I 28 (2 * r) ∧ I 97 r = I 28 (2 * r + 1) ∧ (∃ i, i < n ∧ I 28 (2 * r) = nI i) ∧ (∃ i, i < n ∧ I 28 (2 * r + 1) = nI i)) (hk : ∀ r, moV I r l M = kiV I r l M) (hQ : Q (some (.int (rcV I (nI m) fr l M N))) SH I J) : pm_C g d 265 [.ref 68, .int (nI m), .int fr, .int l] Q SH I J := by
  classical
  unfold rcV at hQ
  have v1 := nI_rng (n := m) (N := m) (by omega) (by omega)
  have v2 := nI_lt hm (by omega)
  refine eX12_recall (by omega) ?_
  repeat' (first
    | (apply And.intro)
    | (with_reducible refine bX12_recall_0 ?_; simp (disch := first | omega | decide) only [w_nl0, w_nli, w_nlr, ↓w_ts1, ↓w_ts0, w_rcv, w_rfv, w_cs, true_and, and_true, List.length_nil, List.length_cons, Nat.reduceAdd, Nat.reduceLeDiff, Nat.zero_le, Nat.reduceLT, ↓w_nil, ix_nI, nI_leP, nI_ltP, nI_eqP, nI_1, ↓i_inN, i_inN, l_le, l_lt, l_eq, r_le, r_lt, r_eq, sh68_0, sh68_1, sh68_2, sh68_3, sh68_4, ↓w_aload_0, ↓w_iload_1, ↓w_iv, ↓pm_cl2_2, ↓w_ifeq, ↓w_iload_2, ↓w_is, ↓pm_cl1_1, ↓w_iload_3, ↓w_ifne, ↓w_iconst, ↓w_ret, ↓w_istore_4, ↓w_istore_5, ↓w_iload_5, ↓w_gf0, ↓w_icge, ↓w_iload_4, ↓pm_cl2_5, ↓pm_cl2_3, ↓w_goto, ↓w_iadd, ↓w_iinc_5])
    | (with_reducible refine bX12_recall_1 ?_; simp (disch := first | omega | decide) only [w_nl0, w_nli, w_nlr, ↓w_ts1, ↓w_ts0, w_rcv, w_rfv, w_cs, true_and, and_true, List.length_nil, List.length_cons, Nat.reduceAdd, Nat.reduceLeDiff, Nat.zero_le, Nat.reduceLT, ↓w_nil, ix_nI, nI_leP, nI_ltP, nI_eqP, nI_1, ↓i_inN, i_inN, l_le, l_lt, l_eq, r_le, r_lt, r_eq, sh68_0, sh68_1, sh68_2, sh68_3, sh68_4, ↓w_aload_0, ↓w_iload_1, ↓w_iv, ↓pm_cl2_2, ↓w_ifeq, ↓w_iload_2, ↓w_is, ↓pm_cl1_1, ↓w_iload_3, ↓w_ifne, ↓w_iconst, ↓w_ret, ↓w_istore_4, ↓w_istore_5, ↓w_iload_5, ↓w_gf0, ↓w_icge, ↓w_iload_4, ↓pm_cl2_5, ↓pm_cl2_3, ↓w_goto, ↓w_iadd, ↓w_iinc_5])
    | (with_reducible refine bX12_recall_2 ?_; simp (disch := first | omega | decide) only [w_nl0, w_nli, w_nlr, ↓w_ts1, ↓w_ts0, w_rcv, w_rfv, w_cs, true_and, and_true, List.length_nil, List.length_cons, Nat.reduceAdd, Nat.reduceLeDiff, Nat.zero_le, Nat.reduceLT, ↓w_nil, ix_nI, nI_leP, nI_ltP, nI_eqP, nI_1, ↓i_inN, i_inN, l_le, l_lt, l_eq, r_le, r_lt, r_eq, sh68_0, sh68_1, sh68_2, sh68_3, sh68_4, ↓w_aload_0, ↓w_iload_1, ↓w_iv, ↓pm_cl2_2, ↓w_ifeq, ↓w_iload_2, ↓w_is, ↓pm_cl1_1, ↓w_iload_3, ↓w_ifne, ↓w_iconst, ↓w_ret, ↓w_istore_4, ↓w_istore_5, ↓w_iload_5, ↓w_gf0, ↓w_icge, ↓w_iload_4, ↓pm_cl2_5, ↓pm_cl2_3, ↓w_goto, ↓w_iadd, ↓w_iinc_5])
    | (with_reducible refine m_isMetal (n := n) (by omega) hn1 hn40 ?_ ; simp (disch := first | omega | decide) only [w_nl0, w_nli, w_nlr, ↓w_ts1, ↓w_ts0, w_rcv, w_rfv, w_cs, true_and, and_true, List.length_nil, List.length_cons, Nat.reduceAdd, Nat.reduceLeDiff, Nat.zero_le, Nat.reduceLT, ↓w_nil, ix_nI, nI_leP, nI_ltP, nI_eqP, nI_1, ↓i_inN, i_inN, l_le, l_lt, l_eq, r_le, r_lt, r_eq, sh68_0, sh68_1, sh68_2, sh68_3, sh68_4, ↓w_aload_0, ↓w_iload_1, ↓w_iv, ↓pm_cl2_2, ↓w_ifeq, ↓w_iload_2, ↓w_is, ↓pm_cl1_1, ↓w_iload_3, ↓w_ifne, ↓w_iconst, ↓w_ret, ↓w_istore_4, ↓w_istore_5, ↓w_iload_5, ↓w_gf0, ↓w_icge, ↓w_iload_4, ↓pm_cl2_5, ↓pm_cl2_3, ↓w_goto, ↓w_iadd, ↓w_iinc_5])
    | (with_reducible refine m_isDay (by omega) ?_ ; simp (disch := first | omega | decide) only [w_nl0, w_nli, w_nlr, ↓w_ts1, ↓w_ts0, w_rcv, w_rfv, w_cs, true_and, and_true, List.length_nil, List.length_cons, Nat.reduceAdd, Nat.reduceLeDiff, Nat.zero_le, Nat.reduceLT, ↓w_nil, ix_nI, nI_leP, nI_ltP, nI_eqP, nI_1, ↓i_inN, i_inN, l_le, l_lt, l_eq, r_le, r_lt, r_eq, sh68_0, sh68_1, sh68_2, sh68_3, sh68_4, ↓w_aload_0, ↓w_iload_1, ↓w_iv, ↓pm_cl2_2, ↓w_ifeq, ↓w_iload_2, ↓w_is, ↓pm_cl1_1, ↓w_iload_3, ↓w_ifne, ↓w_iconst, ↓w_ret, ↓w_istore_4, ↓w_istore_5, ↓w_iload_5, ↓w_gf0, ↓w_icge, ↓w_iload_4, ↓pm_cl2_5, ↓pm_cl2_3, ↓w_goto, ↓w_iadd, ↓w_iinc_5])
    | (with_reducible refine m_isLand (by omega) ?_ ; simp (disch := first | omega | decide) only [w_nl0, w_nli, w_nlr, ↓w_ts1, ↓w_ts0, w_rcv, w_rfv, w_cs, true_and, and_true, List.length_nil, List.length_cons, Nat.reduceAdd, Nat.reduceLeDiff, Nat.zero_le, Nat.reduceLT, ↓w_nil, ix_nI, nI_leP, nI_ltP, nI_eqP, nI_1, ↓i_inN, i_inN, l_le, l_lt, l_eq, r_le, r_lt, r_eq, sh68_0, sh68_1, sh68_2, sh68_3, sh68_4, ↓w_aload_0, ↓w_iload_1, ↓w_iv, ↓pm_cl2_2, ↓w_ifeq, ↓w_iload_2, ↓w_is, ↓pm_cl1_1, ↓w_iload_3, ↓w_ifne, ↓w_iconst, ↓w_ret, ↓w_istore_4, ↓w_istore_5, ↓w_iload_5, ↓w_gf0, ↓w_icge, ↓w_iload_4, ↓pm_cl2_5, ↓pm_cl2_3, ↓w_goto, ↓w_iadd, ↓w_iinc_5])
    | (simp only [w_in])
    | (intro _))
  all_goals try grind
  refine pm_for (f := fun k (a : Int32) => if onR I (nI m) fr k then a + kiV I (nI k) l M else a) (U := fun k a => UU g (d - 1) 265 kX12_recall (pm_rm d 265) Q 3 [some (.ref 68), some (.int (nI m)), some (.int fr), some (.int l), some (.int a), some (.int (nI k))] [] SH I J (0, 0)) N (fun k b hk hb w => ?_) ?_
  · obtain ⟨w1, w2, w3, w4⟩ := hr k hk
    have hki := ‹∀ r, moV I r l M = kiV I r l M› (nI k)
    clear hQ hb hr
    by_cases ho : onR I (nI m) fr k
    · rw [if_pos ho] at w
      unfold onR at ho
      refine bX12_recall_3 ?_
      simp (disch := first | omega | decide) only [w_nl0, w_nli, w_nlr, ↓w_ts1, ↓w_ts0, w_rcv, w_rfv, w_cs, true_and, and_true, List.length_nil, List.length_cons, Nat.reduceAdd, Nat.reduceLeDiff, Nat.zero_le, Nat.reduceLT, ↓w_nil, ix_nI, nI_leP, nI_ltP, nI_eqP, nI_1, ↓i_inN, i_inN, l_le, l_lt, l_eq, r_le, r_lt, r_eq, sh68_0, sh68_1, sh68_2, sh68_3, sh68_4, ↓w_iload_5, ↓w_aload_0, ↓w_gf0, ↓w_icge, ↓w_iload_4, ↓w_iload_1, ↓w_iload_2, ↓w_iconst, ↓w_iv, ↓pm_cl2_5, ↓w_ifne, ↓w_ifeq, hN2]
      repeat' (first
        | (apply And.intro)
        | (with_reducible refine bX12_recall_4 ?_; simp (disch := first | omega | decide) only [w_nl0, w_nli, w_nlr, ↓w_ts1, ↓w_ts0, w_rcv, w_rfv, w_cs, true_and, and_true, List.length_nil, List.length_cons, Nat.reduceAdd, Nat.reduceLeDiff, Nat.zero_le, Nat.reduceLT, ↓w_nil, ix_nI, nI_leP, nI_ltP, nI_eqP, nI_1, ↓i_inN, i_inN, l_le, l_lt, l_eq, r_le, r_lt, r_eq, sh68_0, sh68_1, sh68_2, sh68_3, sh68_4, ↓w_aload_0, ↓w_iload_1, ↓w_iv, ↓pm_cl2_2, ↓w_ifeq, ↓w_iload_2, ↓w_is, ↓pm_cl1_1, ↓w_iload_3, ↓w_ifne, ↓w_iconst, ↓w_ret, ↓w_istore_4, ↓w_istore_5, ↓w_iload_5, ↓w_gf0, ↓w_icge, ↓w_iload_4, ↓pm_cl2_5, ↓pm_cl2_3, ↓w_goto, ↓w_iadd, ↓w_iinc_5, Int32.add_zero])
        | (with_reducible refine bX12_recall_5 ?_; simp (disch := first | omega | decide) only [w_nl0, w_nli, w_nlr, ↓w_ts1, ↓w_ts0, w_rcv, w_rfv, w_cs, true_and, and_true, List.length_nil, List.length_cons, Nat.reduceAdd, Nat.reduceLeDiff, Nat.zero_le, Nat.reduceLT, ↓w_nil, ix_nI, nI_leP, nI_ltP, nI_eqP, nI_1, ↓i_inN, i_inN, l_le, l_lt, l_eq, r_le, r_lt, r_eq, sh68_0, sh68_1, sh68_2, sh68_3, sh68_4, ↓w_aload_0, ↓w_iload_1, ↓w_iv, ↓pm_cl2_2, ↓w_ifeq, ↓w_iload_2, ↓w_is, ↓pm_cl1_1, ↓w_iload_3, ↓w_ifne, ↓w_iconst, ↓w_ret, ↓w_istore_4, ↓w_istore_5, ↓w_iload_5, ↓w_gf0, ↓w_icge, ↓w_iload_4, ↓pm_cl2_5, ↓pm_cl2_3, ↓w_goto, ↓w_iadd, ↓w_iinc_5, Int32.add_zero])
        | (with_reducible refine bX12_recall_6 ?_; simp (disch := first | omega | decide) only [w_nl0, w_nli, w_nlr, ↓w_ts1, ↓w_ts0, w_rcv, w_rfv, w_cs, true_and, and_true, List.length_nil, List.length_cons, Nat.reduceAdd, Nat.reduceLeDiff, Nat.zero_le, Nat.reduceLT, ↓w_nil, ix_nI, nI_leP, nI_ltP, nI_eqP, nI_1, ↓i_inN, i_inN, l_le, l_lt, l_eq, r_le, r_lt, r_eq, sh68_0, sh68_1, sh68_2, sh68_3, sh68_4, ↓w_aload_0, ↓w_iload_1, ↓w_iv, ↓pm_cl2_2, ↓w_ifeq, ↓w_iload_2, ↓w_is, ↓pm_cl1_1, ↓w_iload_3, ↓w_ifne, ↓w_iconst, ↓w_ret, ↓w_istore_4, ↓w_istore_5, ↓w_iload_5, ↓w_gf0, ↓w_icge, ↓w_iload_4, ↓pm_cl2_5, ↓pm_cl2_3, ↓w_goto, ↓w_iadd, ↓w_iinc_5, Int32.add_zero])
        | (with_reducible refine m_isOn (n := n) (st := I 28 (2 * k)) (face := 0) (by omega) hn9 hn40 hm (by omega) hF f1 b1 p2 hg.1.1 (fun _ => w1) (fun z => absurd rfl z) w3 ?_ ; simp (disch := first | omega | decide) only [w_nl0, w_nli, w_nlr, ↓w_ts1, ↓w_ts0, w_rcv, w_rfv, w_cs, true_and, and_true, List.length_nil, List.length_cons, Nat.reduceAdd, Nat.reduceLeDiff, Nat.zero_le, Nat.reduceLT, ↓w_nil, ix_nI, nI_leP, nI_ltP, nI_eqP, nI_1, ↓i_inN, i_inN, l_le, l_lt, l_eq, r_le, r_lt, r_eq, sh68_0, sh68_1, sh68_2, sh68_3, sh68_4, ↓w_aload_0, ↓w_iload_1, ↓w_iv, ↓pm_cl2_2, ↓w_ifeq, ↓w_iload_2, ↓w_is, ↓pm_cl1_1, ↓w_iload_3, ↓w_ifne, ↓w_iconst, ↓w_ret, ↓w_istore_4, ↓w_istore_5, ↓w_iload_5, ↓w_gf0, ↓w_icge, ↓w_iload_4, ↓pm_cl2_5, ↓pm_cl2_3, ↓w_goto, ↓w_iadd, ↓w_iinc_5, Int32.add_zero])
        | (with_reducible refine m_isOn (n := n) (st := I 28 (2 * k + 1)) (face := 1) (by omega) hn9 hn40 hm (by omega) hF f1 b1 p2 hg.1.1 (fun z => absurd z (by decide)) (fun _ => w2) w4 ?_ ; simp (disch := first | omega | decide) only [w_nl0, w_nli, w_nlr, ↓w_ts1, ↓w_ts0, w_rcv, w_rfv, w_cs, true_and, and_true, List.length_nil, List.length_cons, Nat.reduceAdd, Nat.reduceLeDiff, Nat.zero_le, Nat.reduceLT, ↓w_nil, ix_nI, nI_leP, nI_ltP, nI_eqP, nI_1, ↓i_inN, i_inN, l_le, l_lt, l_eq, r_le, r_lt, r_eq, sh68_0, sh68_1, sh68_2, sh68_3, sh68_4, ↓w_aload_0, ↓w_iload_1, ↓w_iv, ↓pm_cl2_2, ↓w_ifeq, ↓w_iload_2, ↓w_is, ↓pm_cl1_1, ↓w_iload_3, ↓w_ifne, ↓w_iconst, ↓w_ret, ↓w_istore_4, ↓w_istore_5, ↓w_iload_5, ↓w_gf0, ↓w_icge, ↓w_iload_4, ↓pm_cl2_5, ↓pm_cl2_3, ↓w_goto, ↓w_iadd, ↓w_iinc_5, Int32.add_zero])
        | (with_reducible refine m_out (by omega) hM2 hM ?_ ; simp (disch := first | omega | decide) only [w_nl0, w_nli, w_nlr, ↓w_ts1, ↓w_ts0, w_rcv, w_rfv, w_cs, true_and, and_true, List.length_nil, List.length_cons, Nat.reduceAdd, Nat.reduceLeDiff, Nat.zero_le, Nat.reduceLT, ↓w_nil, ix_nI, nI_leP, nI_ltP, nI_eqP, nI_1, ↓i_inN, i_inN, l_le, l_lt, l_eq, r_le, r_lt, r_eq, sh68_0, sh68_1, sh68_2, sh68_3, sh68_4, ↓w_aload_0, ↓w_iload_1, ↓w_iv, ↓pm_cl2_2, ↓w_ifeq, ↓w_iload_2, ↓w_is, ↓pm_cl1_1, ↓w_iload_3, ↓w_ifne, ↓w_iconst, ↓w_ret, ↓w_istore_4, ↓w_istore_5, ↓w_iload_5, ↓w_gf0, ↓w_icge, ↓w_iload_4, ↓pm_cl2_5, ↓pm_cl2_3, ↓w_goto, ↓w_iadd, ↓w_iinc_5, Int32.add_zero])
        | (simp only [w_in])
        | (intro _))
      all_goals grind
    · rw [if_neg ho] at w
      unfold onR at ho
      refine bX12_recall_3 ?_
      simp (disch := first | omega | decide) only [w_nl0, w_nli, w_nlr, ↓w_ts1, ↓w_ts0, w_rcv, w_rfv, w_cs, true_and, and_true, List.length_nil, List.length_cons, Nat.reduceAdd, Nat.reduceLeDiff, Nat.zero_le, Nat.reduceLT, ↓w_nil, ix_nI, nI_leP, nI_ltP, nI_eqP, nI_1, ↓i_inN, i_inN, l_le, l_lt, l_eq, r_le, r_lt, r_eq, sh68_0, sh68_1, sh68_2, sh68_3, sh68_4, ↓w_iload_5, ↓w_aload_0, ↓w_gf0, ↓w_icge, ↓w_iload_4, ↓w_iload_1, ↓w_iload_2, ↓w_iconst, ↓w_iv, ↓pm_cl2_5, ↓w_ifne, ↓w_ifeq, hN2]
      repeat' (first
        | (apply And.intro)
        | (with_reducible refine bX12_recall_4 ?_; simp (disch := first | omega | decide) only [w_nl0, w_nli, w_nlr, ↓w_ts1, ↓w_ts0, w_rcv, w_rfv, w_cs, true_and, and_true, List.length_nil, List.length_cons, Nat.reduceAdd, Nat.reduceLeDiff, Nat.zero_le, Nat.reduceLT, ↓w_nil, ix_nI, nI_leP, nI_ltP, nI_eqP, nI_1, ↓i_inN, i_inN, l_le, l_lt, l_eq, r_le, r_lt, r_eq, sh68_0, sh68_1, sh68_2, sh68_3, sh68_4, ↓w_aload_0, ↓w_iload_1, ↓w_iv, ↓pm_cl2_2, ↓w_ifeq, ↓w_iload_2, ↓w_is, ↓pm_cl1_1, ↓w_iload_3, ↓w_ifne, ↓w_iconst, ↓w_ret, ↓w_istore_4, ↓w_istore_5, ↓w_iload_5, ↓w_gf0, ↓w_icge, ↓w_iload_4, ↓pm_cl2_5, ↓pm_cl2_3, ↓w_goto, ↓w_iadd, ↓w_iinc_5, Int32.add_zero])
        | (with_reducible refine bX12_recall_5 ?_; simp (disch := first | omega | decide) only [w_nl0, w_nli, w_nlr, ↓w_ts1, ↓w_ts0, w_rcv, w_rfv, w_cs, true_and, and_true, List.length_nil, List.length_cons, Nat.reduceAdd, Nat.reduceLeDiff, Nat.zero_le, Nat.reduceLT, ↓w_nil, ix_nI, nI_leP, nI_ltP, nI_eqP, nI_1, ↓i_inN, i_inN, l_le, l_lt, l_eq, r_le, r_lt, r_eq, sh68_0, sh68_1, sh68_2, sh68_3, sh68_4, ↓w_aload_0, ↓w_iload_1, ↓w_iv, ↓pm_cl2_2, ↓w_ifeq, ↓w_iload_2, ↓w_is, ↓pm_cl1_1, ↓w_iload_3, ↓w_ifne, ↓w_iconst, ↓w_ret, ↓w_istore_4, ↓w_istore_5, ↓w_iload_5, ↓w_gf0, ↓w_icge, ↓w_iload_4, ↓pm_cl2_5, ↓pm_cl2_3, ↓w_goto, ↓w_iadd, ↓w_iinc_5, Int32.add_zero])
        | (with_reducible refine bX12_recall_6 ?_; simp (disch := first | omega | decide) only [w_nl0, w_nli, w_nlr, ↓w_ts1, ↓w_ts0, w_rcv, w_rfv, w_cs, true_and, and_true, List.length_nil, List.length_cons, Nat.reduceAdd, Nat.reduceLeDiff, Nat.zero_le, Nat.reduceLT, ↓w_nil, ix_nI, nI_leP, nI_ltP, nI_eqP, nI_1, ↓i_inN, i_inN, l_le, l_lt, l_eq, r_le, r_lt, r_eq, sh68_0, sh68_1, sh68_2, sh68_3, sh68_4, ↓w_aload_0, ↓w_iload_1, ↓w_iv, ↓pm_cl2_2, ↓w_ifeq, ↓w_iload_2, ↓w_is, ↓pm_cl1_1, ↓w_iload_3, ↓w_ifne, ↓w_iconst, ↓w_ret, ↓w_istore_4, ↓w_istore_5, ↓w_iload_5, ↓w_gf0, ↓w_icge, ↓w_iload_4, ↓pm_cl2_5, ↓pm_cl2_3, ↓w_goto, ↓w_iadd, ↓w_iinc_5, Int32.add_zero])
        | (with_reducible refine m_isOn (n := n) (st := I 28 (2 * k)) (face := 0) (by omega) hn9 hn40 hm (by omega) hF f1 b1 p2 hg.1.1 (fun _ => w1) (fun z => absurd rfl z) w3 ?_ ; simp (disch := first | omega | decide) only [w_nl0, w_nli, w_nlr, ↓w_ts1, ↓w_ts0, w_rcv, w_rfv, w_cs, true_and, and_true, List.length_nil, List.length_cons, Nat.reduceAdd, Nat.reduceLeDiff, Nat.zero_le, Nat.reduceLT, ↓w_nil, ix_nI, nI_leP, nI_ltP, nI_eqP, nI_1, ↓i_inN, i_inN, l_le, l_lt, l_eq, r_le, r_lt, r_eq, sh68_0, sh68_1, sh68_2, sh68_3, sh68_4, ↓w_aload_0, ↓w_iload_1, ↓w_iv, ↓pm_cl2_2, ↓w_ifeq, ↓w_iload_2, ↓w_is, ↓pm_cl1_1, ↓w_iload_3, ↓w_ifne, ↓w_iconst, ↓w_ret, ↓w_istore_4, ↓w_istore_5, ↓w_iload_5, ↓w_gf0, ↓w_icge, ↓w_iload_4, ↓pm_cl2_5, ↓pm_cl2_3, ↓w_goto, ↓w_iadd, ↓w_iinc_5, Int32.add_zero])
        | (with_reducible refine m_isOn (n := n) (st := I 28 (2 * k + 1)) (face := 1) (by omega) hn9 hn40 hm (by omega) hF f1 b1 p2 hg.1.1 (fun z => absurd z (by decide)) (fun _ => w2) w4 ?_ ; simp (disch := first | omega | decide) only [w_nl0, w_nli, w_nlr, ↓w_ts1, ↓w_ts0, w_rcv, w_rfv, w_cs, true_and, and_true, List.length_nil, List.length_cons, Nat.reduceAdd, Nat.reduceLeDiff, Nat.zero_le, Nat.reduceLT, ↓w_nil, ix_nI, nI_leP, nI_ltP, nI_eqP, nI_1, ↓i_inN, i_inN, l_le, l_lt, l_eq, r_le, r_lt, r_eq, sh68_0, sh68_1, sh68_2, sh68_3, sh68_4, ↓w_aload_0, ↓w_iload_1, ↓w_iv, ↓pm_cl2_2, ↓w_ifeq, ↓w_iload_2, ↓w_is, ↓pm_cl1_1, ↓w_iload_3, ↓w_ifne, ↓w_iconst, ↓w_ret, ↓w_istore_4, ↓w_istore_5, ↓w_iload_5, ↓w_gf0, ↓w_icge, ↓w_iload_4, ↓pm_cl2_5, ↓pm_cl2_3, ↓w_goto, ↓w_iadd, ↓w_iinc_5, Int32.add_zero])
        | (with_reducible refine m_out (by omega) hM2 hM ?_ ; simp (disch := first | omega | decide) only [w_nl0, w_nli, w_nlr, ↓w_ts1, ↓w_ts0, w_rcv, w_rfv, w_cs, true_and, and_true, List.length_nil, List.length_cons, Nat.reduceAdd, Nat.reduceLeDiff, Nat.zero_le, Nat.reduceLT, ↓w_nil, ix_nI, nI_leP, nI_ltP, nI_eqP, nI_1, ↓i_inN, i_inN, l_le, l_lt, l_eq, r_le, r_lt, r_eq, sh68_0, sh68_1, sh68_2, sh68_3, sh68_4, ↓w_aload_0, ↓w_iload_1, ↓w_iv, ↓pm_cl2_2, ↓w_ifeq, ↓w_iload_2, ↓w_is, ↓pm_cl1_1, ↓w_iload_3, ↓w_ifne, ↓w_iconst, ↓w_ret, ↓w_istore_4, ↓w_istore_5, ↓w_iload_5, ↓w_gf0, ↓w_icge, ↓w_iload_4, ↓pm_cl2_5, ↓pm_cl2_3, ↓w_goto, ↓w_iadd, ↓w_iinc_5, Int32.add_zero])
        | (simp only [w_in])
        | (intro _))
      all_goals grind
  · refine bX12_recall_3 ?_
    simp (disch := first | omega | decide) only [w_nl0, w_nli, w_nlr, ↓w_ts1, ↓w_ts0, w_rcv, w_rfv, w_cs, true_and, and_true, List.length_nil, List.length_cons, Nat.reduceAdd, Nat.reduceLeDiff, Nat.zero_le, Nat.reduceLT, ↓w_nil, ix_nI, nI_leP, nI_ltP, nI_eqP, nI_1, ↓i_inN, i_inN, l_le, l_lt, l_eq, r_le, r_lt, r_eq, sh68_0, sh68_1, sh68_2, sh68_3, sh68_4, ↓w_iload_5, ↓w_aload_0, ↓w_gf0, ↓w_icge, ↓w_iload_4, ↓w_iload_1, ↓w_iload_2, ↓w_iconst, ↓w_iv, ↓pm_cl2_5, ↓w_ifne, ↓w_ifeq, hN2]
    repeat' (first
      | (apply And.intro)
      | (with_reducible refine bX12_recall_7 ?_; simp (disch := first | omega | decide) only [w_nl0, w_nli, w_nlr, ↓w_ts1, ↓w_ts0, w_rcv, w_rfv, w_cs, true_and, and_true, List.length_nil, List.length_cons, Nat.reduceAdd, Nat.reduceLeDiff, Nat.zero_le, Nat.reduceLT, ↓w_nil, ix_nI, nI_leP, nI_ltP, nI_eqP, nI_1, ↓i_inN, i_inN, l_le, l_lt, l_eq, r_le, r_lt, r_eq, sh68_0, sh68_1, sh68_2, sh68_3, sh68_4, ↓w_aload_0, ↓w_iload_1, ↓w_iv, ↓pm_cl2_2, ↓w_ifeq, ↓w_iload_2, ↓w_is, ↓pm_cl1_1, ↓w_iload_3, ↓w_ifne, ↓w_iconst, ↓w_ret, ↓w_istore_4, ↓w_istore_5, ↓w_iload_5, ↓w_gf0, ↓w_icge, ↓w_iload_4, ↓pm_cl2_5, ↓pm_cl2_3, ↓w_goto, ↓w_iadd, ↓w_iinc_5])
      | (simp only [w_in])
      | (intro _))
    all_goals grind
theorem p_recall {x fr l : Int32} (hd : 10 ≤ d) : PC g d 159 265 [.int x, .int fr, .int l] := by
  intro I J h
  have hw := relw h
  obtain ⟨n1, c1, k1, s1, f1, h1, b1, w1, x1, t1, o1, ⟨C, hC, hC2⟩, n, hn, hn2, hm, hmono⟩ := h.2.2.2.2.1
  have hF : fOk (I 12) n := fun i hi => (hm i hi).2.2.1
  clear hm hmono
  have hi := hasM_iff (x := x) hn2 hn
  by_cases hg : hasM I x ∧ (0 ≤ fr ∧ fr ≤ 999) ∧ (0 ≤ l ∧ l < 8)
  · obtain ⟨r1, p1, p2, p3, p4, p5, p6, N, hN, hN2, hr⟩ := h.2.2.2.2.2.2.1
    obtain ⟨q1, q2, q3, q4, q5, M, hM, hM2, hs⟩ := h.2.2.2.2.2.2.2.2.2.1
    clear hs
    obtain ⟨m, hm, rfl⟩ := i_hasM hn2 hn hg.1
    refine c_recall (N := N) (M := M) (by omega) hg hN2 hN hM2 hM ?_
    refine ⟨rfl, MC.of ?_⟩
    refine m_recall (n := n) (N := N) (M := M) (by omega) (by rw [n1, hn2]) hn2 hn hm hF f1 b1 p2 hg.2 (by rw [r1, hN2]) hN (by rw [q1, hM2]) hM ?_ (fun r => mo_ki (by grind) q2 q3 q4) ⟨rfl, rfl, hw⟩
    intro r hrN
    obtain ⟨u1, u2, u3, u4, _⟩ := hr r hrN
    rw [hn2] at u3 u4
    exact ⟨u1, u2, i_q (by omega) u3.1 u3.2, i_q (by omega) u4.1 u4.2⟩
  · refine eX11_recall (by omega) ?_
    repeat' (first
      | (apply And.intro)
      | (with_reducible refine bX11_recall_0 ?_; simp (disch := first | omega | decide) only [w_nl0, w_nli, w_nlr, ↓w_ts1, ↓w_ts0, w_rcv, w_rfv, w_cs, true_and, and_true, List.length_nil, List.length_cons, Nat.reduceAdd, Nat.reduceLeDiff, Nat.zero_le, Nat.reduceLT, ↓w_nil, ix_nI, nI_leP, nI_ltP, nI_eqP, nI_1, ↓i_inN, i_inN, l_le, l_lt, l_eq, r_le, r_lt, r_eq, sh0, sh1, sh55, sh60, sh9, sh31, sh23, sh37, sh42, sh43, sh19, sh3, sh6, ↓w_aload_0, ↓w_gf3, ↓w_iload_1, ↓w_iv, ↓pm_cl2_2, ↓w_ifeq, ↓w_iload_2, ↓w_is, ↓pm_cl1_1, ↓w_iload_3, ↓w_bipush, ↓pm_cl1_2, ↓w_ifne, ↓w_iconst, ↓w_ret, ↓w_istore_4, ↓w_istore_5, ↓w_iload_5, ↓w_gf0, ↓w_icge, ↓pm_cl2_4, ↓w_iload_4, ↓pm_cl2_3, ↓w_iadd, ↓w_iinc_5, ↓w_goto])
      | (with_reducible refine bX11_recall_1 ?_; simp (disch := first | omega | decide) only [w_nl0, w_nli, w_nlr, ↓w_ts1, ↓w_ts0, w_rcv, w_rfv, w_cs, true_and, and_true, List.length_nil, List.length_cons, Nat.reduceAdd, Nat.reduceLeDiff, Nat.zero_le, Nat.reduceLT, ↓w_nil, ix_nI, nI_leP, nI_ltP, nI_eqP, nI_1, ↓i_inN, i_inN, l_le, l_lt, l_eq, r_le, r_lt, r_eq, sh0, sh1, sh55, sh60, sh9, sh31, sh23, sh37, sh42, sh43, sh19, sh3, sh6, ↓w_aload_0, ↓w_gf3, ↓w_iload_1, ↓w_iv, ↓pm_cl2_2, ↓w_ifeq, ↓w_iload_2, ↓w_is, ↓pm_cl1_1, ↓w_iload_3, ↓w_bipush, ↓pm_cl1_2, ↓w_ifne, ↓w_iconst, ↓w_ret, ↓w_istore_4, ↓w_istore_5, ↓w_iload_5, ↓w_gf0, ↓w_icge, ↓pm_cl2_4, ↓w_iload_4, ↓pm_cl2_3, ↓w_iadd, ↓w_iinc_5, ↓w_goto])
      | (with_reducible refine c_M_has (by omega) ?_ ; simp (disch := first | omega | decide) only [w_nl0, w_nli, w_nlr, ↓w_ts1, ↓w_ts0, w_rcv, w_rfv, w_cs, true_and, and_true, List.length_nil, List.length_cons, Nat.reduceAdd, Nat.reduceLeDiff, Nat.zero_le, Nat.reduceLT, ↓w_nil, ix_nI, nI_leP, nI_ltP, nI_eqP, nI_1, ↓i_inN, i_inN, l_le, l_lt, l_eq, r_le, r_lt, r_eq, sh0, sh1, sh55, sh60, sh9, sh31, sh23, sh37, sh42, sh43, sh19, sh3, sh6, ↓w_aload_0, ↓w_gf3, ↓w_iload_1, ↓w_iv, ↓pm_cl2_2, ↓w_ifeq, ↓w_iload_2, ↓w_is, ↓pm_cl1_1, ↓w_iload_3, ↓w_bipush, ↓pm_cl1_2, ↓w_ifne, ↓w_iconst, ↓w_ret, ↓w_istore_4, ↓w_istore_5, ↓w_iload_5, ↓w_gf0, ↓w_icge, ↓pm_cl2_4, ↓w_iload_4, ↓pm_cl2_3, ↓w_iadd, ↓w_iinc_5, ↓w_goto])
      | (with_reducible refine c_isDay (by omega) ?_ ; simp (disch := first | omega | decide) only [w_nl0, w_nli, w_nlr, ↓w_ts1, ↓w_ts0, w_rcv, w_rfv, w_cs, true_and, and_true, List.length_nil, List.length_cons, Nat.reduceAdd, Nat.reduceLeDiff, Nat.zero_le, Nat.reduceLT, ↓w_nil, ix_nI, nI_leP, nI_ltP, nI_eqP, nI_1, ↓i_inN, i_inN, l_le, l_lt, l_eq, r_le, r_lt, r_eq, sh0, sh1, sh55, sh60, sh9, sh31, sh23, sh37, sh42, sh43, sh19, sh3, sh6, ↓w_aload_0, ↓w_gf3, ↓w_iload_1, ↓w_iv, ↓pm_cl2_2, ↓w_ifeq, ↓w_iload_2, ↓w_is, ↓pm_cl1_1, ↓w_iload_3, ↓w_bipush, ↓pm_cl1_2, ↓w_ifne, ↓w_iconst, ↓w_ret, ↓w_istore_4, ↓w_istore_5, ↓w_iload_5, ↓w_gf0, ↓w_icge, ↓pm_cl2_4, ↓w_iload_4, ↓pm_cl2_3, ↓w_iadd, ↓w_iinc_5, ↓w_goto])
      | (with_reducible refine c_below (by omega) ?_ ; simp (disch := first | omega | decide) only [w_nl0, w_nli, w_nlr, ↓w_ts1, ↓w_ts0, w_rcv, w_rfv, w_cs, true_and, and_true, List.length_nil, List.length_cons, Nat.reduceAdd, Nat.reduceLeDiff, Nat.zero_le, Nat.reduceLT, ↓w_nil, ix_nI, nI_leP, nI_ltP, nI_eqP, nI_1, ↓i_inN, i_inN, l_le, l_lt, l_eq, r_le, r_lt, r_eq, sh0, sh1, sh55, sh60, sh9, sh31, sh23, sh37, sh42, sh43, sh19, sh3, sh6, ↓w_aload_0, ↓w_gf3, ↓w_iload_1, ↓w_iv, ↓pm_cl2_2, ↓w_ifeq, ↓w_iload_2, ↓w_is, ↓pm_cl1_1, ↓w_iload_3, ↓w_bipush, ↓pm_cl1_2, ↓w_ifne, ↓w_iconst, ↓w_ret, ↓w_istore_4, ↓w_istore_5, ↓w_iload_5, ↓w_gf0, ↓w_icge, ↓pm_cl2_4, ↓w_iload_4, ↓pm_cl2_3, ↓w_iadd, ↓w_iinc_5, ↓w_goto])
      | (simp only [w_in])
      | (intro _))
    all_goals try rfl
    all_goals try grind
    all_goals try refine MC.of (eX12_recall (by omega) ?_)
    all_goals
      repeat' (first
        | (apply And.intro)
        | (with_reducible refine bX12_recall_0 ?_; simp (disch := first | omega | decide) only [w_nl0, w_nli, w_nlr, ↓w_ts1, ↓w_ts0, w_rcv, w_rfv, w_cs, true_and, and_true, List.length_nil, List.length_cons, Nat.reduceAdd, Nat.reduceLeDiff, Nat.zero_le, Nat.reduceLT, ↓w_nil, ix_nI, nI_leP, nI_ltP, nI_eqP, nI_1, ↓i_inN, i_inN, l_le, l_lt, l_eq, r_le, r_lt, r_eq, sh68_0, sh68_1, sh68_2, sh68_3, sh68_4, ↓w_aload_0, ↓w_iload_1, ↓w_iv, ↓pm_cl2_2, ↓w_ifeq, ↓w_iload_2, ↓w_is, ↓pm_cl1_1, ↓w_iload_3, ↓w_ifne, ↓w_iconst, ↓w_ret, ↓w_istore_4, ↓w_istore_5, ↓w_iload_5, ↓w_gf0, ↓w_icge, ↓w_iload_4, ↓pm_cl2_5, ↓pm_cl2_3, ↓w_goto, ↓w_iadd, ↓w_iinc_5])
        | (with_reducible refine bX12_recall_1 ?_; simp (disch := first | omega | decide) only [w_nl0, w_nli, w_nlr, ↓w_ts1, ↓w_ts0, w_rcv, w_rfv, w_cs, true_and, and_true, List.length_nil, List.length_cons, Nat.reduceAdd, Nat.reduceLeDiff, Nat.zero_le, Nat.reduceLT, ↓w_nil, ix_nI, nI_leP, nI_ltP, nI_eqP, nI_1, ↓i_inN, i_inN, l_le, l_lt, l_eq, r_le, r_lt, r_eq, sh68_0, sh68_1, sh68_2, sh68_3, sh68_4, ↓w_aload_0, ↓w_iload_1, ↓w_iv, ↓pm_cl2_2, ↓w_ifeq, ↓w_iload_2, ↓w_is, ↓pm_cl1_1, ↓w_iload_3, ↓w_ifne, ↓w_iconst, ↓w_ret, ↓w_istore_4, ↓w_istore_5, ↓w_iload_5, ↓w_gf0, ↓w_icge, ↓w_iload_4, ↓pm_cl2_5, ↓pm_cl2_3, ↓w_goto, ↓w_iadd, ↓w_iinc_5])
        | (with_reducible refine m_isMetal (n := n) (by omega) (by rw [n1, hn2]) hn ?_ ; simp (disch := first | omega | decide) only [w_nl0, w_nli, w_nlr, ↓w_ts1, ↓w_ts0, w_rcv, w_rfv, w_cs, true_and, and_true, List.length_nil, List.length_cons, Nat.reduceAdd, Nat.reduceLeDiff, Nat.zero_le, Nat.reduceLT, ↓w_nil, ix_nI, nI_leP, nI_ltP, nI_eqP, nI_1, ↓i_inN, i_inN, l_le, l_lt, l_eq, r_le, r_lt, r_eq, sh68_0, sh68_1, sh68_2, sh68_3, sh68_4, ↓w_aload_0, ↓w_iload_1, ↓w_iv, ↓pm_cl2_2, ↓w_ifeq, ↓w_iload_2, ↓w_is, ↓pm_cl1_1, ↓w_iload_3, ↓w_ifne, ↓w_iconst, ↓w_ret, ↓w_istore_4, ↓w_istore_5, ↓w_iload_5, ↓w_gf0, ↓w_icge, ↓w_iload_4, ↓pm_cl2_5, ↓pm_cl2_3, ↓w_goto, ↓w_iadd, ↓w_iinc_5])
        | (with_reducible refine m_isDay (by omega) ?_ ; simp (disch := first | omega | decide) only [w_nl0, w_nli, w_nlr, ↓w_ts1, ↓w_ts0, w_rcv, w_rfv, w_cs, true_and, and_true, List.length_nil, List.length_cons, Nat.reduceAdd, Nat.reduceLeDiff, Nat.zero_le, Nat.reduceLT, ↓w_nil, ix_nI, nI_leP, nI_ltP, nI_eqP, nI_1, ↓i_inN, i_inN, l_le, l_lt, l_eq, r_le, r_lt, r_eq, sh68_0, sh68_1, sh68_2, sh68_3, sh68_4, ↓w_aload_0, ↓w_iload_1, ↓w_iv, ↓pm_cl2_2, ↓w_ifeq, ↓w_iload_2, ↓w_is, ↓pm_cl1_1, ↓w_iload_3, ↓w_ifne, ↓w_iconst, ↓w_ret, ↓w_istore_4, ↓w_istore_5, ↓w_iload_5, ↓w_gf0, ↓w_icge, ↓w_iload_4, ↓pm_cl2_5, ↓pm_cl2_3, ↓w_goto, ↓w_iadd, ↓w_iinc_5])
        | (with_reducible refine m_isLand (by omega) ?_ ; simp (disch := first | omega | decide) only [w_nl0, w_nli, w_nlr, ↓w_ts1, ↓w_ts0, w_rcv, w_rfv, w_cs, true_and, and_true, List.length_nil, List.length_cons, Nat.reduceAdd, Nat.reduceLeDiff, Nat.zero_le, Nat.reduceLT, ↓w_nil, ix_nI, nI_leP, nI_ltP, nI_eqP, nI_1, ↓i_inN, i_inN, l_le, l_lt, l_eq, r_le, r_lt, r_eq, sh68_0, sh68_1, sh68_2, sh68_3, sh68_4, ↓w_aload_0, ↓w_iload_1, ↓w_iv, ↓pm_cl2_2, ↓w_ifeq, ↓w_iload_2, ↓w_is, ↓pm_cl1_1, ↓w_iload_3, ↓w_ifne, ↓w_iconst, ↓w_ret, ↓w_istore_4, ↓w_istore_5, ↓w_iload_5, ↓w_gf0, ↓w_icge, ↓w_iload_4, ↓pm_cl2_5, ↓pm_cl2_3, ↓w_goto, ↓w_iadd, ↓w_iinc_5])
        | (simp only [w_in])
        | (intro _))
    all_goals first | rfl | exact hw | exact relw_found hw | exact relw_asks hw | grind
end C66
