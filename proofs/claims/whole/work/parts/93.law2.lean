section C93
variable {g : pm_G} {d : Nat} {R : Room} {Q : pm_Po} {I : pm_MI} {J : pm_ML} {k : Nat × Nat} {i : Nat}
theorem lw_b24 {b : Int32} (hd : 30 ≤ d) (hL : g.2.2.2.1 ≤ 3072) (hi : i + 5 < g.2.2.2.1) (hk1 : k.1 ≤ R.cells) (hk2 : k.2 ≤ R.slots) (hR : Rel I J) (hw : ∀ I2 J2, Rel I2 J2 → UL g d R Q 61 i I2 J2 k) (hz : (g.2.2.2.2.1 (i + 3) = 0 ∧ b = 0) ∨ (¬ g.2.2.2.2.1 (i + 3) = 0 ∧ b = 1)) : UU g d 302 kL_law R Q 24 [some .null, some (.ref 0), some (.ref 68), some (.int (nI i))] [.int b, .int (g.2.2.2.2.1 (i + 2)), .int (g.2.2.2.2.1 (i + 1)), .ref 0] SH I J k := by
  have hb : b = 0 ∨ b = 1 := by rcases hz with h | h; exact Or.inl h.2; exact Or.inr h.2
  refine bL_law_24 ?_
  simp (disch := first | omega | decide) only [w_nl0, w_nli, w_nlr, ↓w_ts1, ↓w_ts0, w_rcv, w_rfv, w_cs, true_and, and_true, List.length_nil, List.length_cons, Nat.reduceAdd, Nat.reduceLeDiff, Nat.zero_le, Nat.reduceLT, ↓w_nil, ix_nI, nI_leP, nI_ltP, nI_eqP, nI_1, ↓i_inN, i_inN, l_le, l_lt, l_eq, r_le, r_lt, r_eq, ↓w_iv, ↓pm_cl2_4, ↓w_aload_2, ↓w_naload_2, ↓w_aload_0, ↓w_naload_0, ↓w_iload_3, ↓w_iconst, ↓w_iadd, ↓w_iaload, ↓w_saload, ↓w_ifeq, ↓w_goto, sh0, sh68_0, nI_add, nI_p2, nI_p3, nI_p4, nI_p5]
  repeat' (first | apply And.intro | omega | assumption | exact vl)
  refine pm_C_mono (p_run (by omega) I J hR) (fun v S1 I1 J1 h1 => ?_)
  obtain ⟨rfl, _, h2⟩ := h1
  have h26 : UU g d 302 kL_law R Q 26 [some .null, some (.ref 0), some (.ref 68), some (.int (nI i))] (.int b :: .int (g.2.2.2.2.1 (i + 2)) :: .int (g.2.2.2.2.1 (i + 1)) :: .ref 68 :: (v.toList ++ [])) SH I1 J1 k := by
    refine bL_law_26 ?_
    simp (disch := first | omega | decide) only [w_nl0, w_nli, w_nlr, ↓w_ts1, ↓w_ts0, w_rcv, w_rfv, w_cs, true_and, and_true, List.length_nil, List.length_cons, Nat.reduceAdd, Nat.reduceLeDiff, Nat.zero_le, Nat.reduceLT, ↓w_nil, ix_nI, nI_leP, nI_ltP, nI_eqP, nI_1, ↓i_inN, i_inN, l_le, l_lt, l_eq, r_le, r_lt, r_eq, ↓w_iv, ↓pm_cl2_4, ↓w_iceq, ↓w_iconst, ↓w_zret, sh0, sh68_0, nI_add, nI_p2, nI_p3, nI_p4, nI_p5]
    repeat' (first | apply And.intro | omega | assumption | exact vl)
    refine pm_C_mono h2 (fun w S2 I2 J2 h3 => ?_)
    obtain ⟨e, rfl, _, hR2⟩ := h3
    obtain ⟨rfl, a, rfl⟩ := ty_int e rfl
    simp (disch := first | omega | decide) only [w_nl0, w_nli, w_nlr, ↓w_ts1, ↓w_ts0, w_rcv, w_rfv, w_cs, true_and, and_true, List.length_nil, List.length_cons, Nat.reduceAdd, Nat.reduceLeDiff, Nat.zero_le, Nat.reduceLT, ↓w_nil, ix_nI, nI_leP, nI_ltP, nI_eqP, nI_1, ↓i_inN, i_inN, l_le, l_lt, l_eq, r_le, r_lt, r_eq, ↓w_iv, ↓pm_cl2_4, ↓w_iceq, ↓w_iconst, ↓w_zret, sh0, sh68_0, nI_add, nI_p2, nI_p3, nI_p4, nI_p5]
    have w := hw I2 J2 hR2
    first | exact ⟨fun _ => w, fun z => absurd rfl z⟩ | exact w | grind
  clear h2 hw
  rcases hz with ⟨z, rfl⟩ | ⟨z, rfl⟩
  · simp (disch := first | omega | decide) only [w_nl0, w_nli, w_nlr, ↓w_ts1, ↓w_ts0, w_rcv, w_rfv, w_cs, true_and, and_true, List.length_nil, List.length_cons, Nat.reduceAdd, Nat.reduceLeDiff, Nat.zero_le, Nat.reduceLT, ↓w_nil, ix_nI, nI_leP, nI_ltP, nI_eqP, nI_1, ↓i_inN, i_inN, l_le, l_lt, l_eq, r_le, r_lt, r_eq, ↓w_iv, ↓pm_cl2_4, ↓w_aload_2, ↓w_naload_2, ↓w_aload_0, ↓w_naload_0, ↓w_iload_3, ↓w_iconst, ↓w_iadd, ↓w_iaload, ↓w_saload, ↓w_ifeq, ↓w_goto, sh0, sh68_0, nI_add, nI_p2, nI_p3, nI_p4, nI_p5, z]
    repeat' (first
      | (apply And.intro)
      | (with_reducible refine bL_law_25 ?_; simp (disch := first | omega | decide) only [w_nl0, w_nli, w_nlr, ↓w_ts1, ↓w_ts0, w_rcv, w_rfv, w_cs, true_and, and_true, List.length_nil, List.length_cons, Nat.reduceAdd, Nat.reduceLeDiff, Nat.zero_le, Nat.reduceLT, ↓w_nil, ix_nI, nI_leP, nI_ltP, nI_eqP, nI_1, ↓i_inN, i_inN, l_le, l_lt, l_eq, r_le, r_lt, r_eq, ↓w_new, ↓w_dup_i, ↓w_dup_r, ↓w_ix, ↓pm_cl2_1, ↓w_astore_1, ↓w_astore_2, ↓w_iconst, ↓w_istore_3, ↓w_iload_3, ↓w_aload_0, ↓w_naload_0, ↓w_alen, ↓w_slen, ↓w_bipush, ↓w_isub, ↓w_icgt, ↓w_iaload, ↓w_saload, ↓w_iand, ↓w_sw_L_law_33, ↓w_aload_1, ↓w_naload_1, ↓w_iadd, ↓w_iv, ↓pm_cl2_3, ↓w_aload_2, ↓w_naload_2, ↓w_iceq, ↓w_zret, ↓pm_cl2_4, ↓pm_cl2_2, ↓pm_cl2_6, ↓w_ifeq, ↓w_goto, ↓pm_cl2_5, ↓w_lcmp, ↓w_iinc_3, sh0, sh68_0, nI_add, nI_p2, nI_p3, nI_p4, nI_p5, z])
      | (simp only [w_in])
      | (intro _))
    all_goals first | exact h26 | omega | grind
  · simp (disch := first | omega | decide) only [w_nl0, w_nli, w_nlr, ↓w_ts1, ↓w_ts0, w_rcv, w_rfv, w_cs, true_and, and_true, List.length_nil, List.length_cons, Nat.reduceAdd, Nat.reduceLeDiff, Nat.zero_le, Nat.reduceLT, ↓w_nil, ix_nI, nI_leP, nI_ltP, nI_eqP, nI_1, ↓i_inN, i_inN, l_le, l_lt, l_eq, r_le, r_lt, r_eq, ↓w_iv, ↓pm_cl2_4, ↓w_aload_2, ↓w_naload_2, ↓w_aload_0, ↓w_naload_0, ↓w_iload_3, ↓w_iconst, ↓w_iadd, ↓w_iaload, ↓w_saload, ↓w_ifeq, ↓w_goto, sh0, sh68_0, nI_add, nI_p2, nI_p3, nI_p4, nI_p5, z]
    repeat' (first
      | (apply And.intro)
      | (with_reducible refine bL_law_25 ?_; simp (disch := first | omega | decide) only [w_nl0, w_nli, w_nlr, ↓w_ts1, ↓w_ts0, w_rcv, w_rfv, w_cs, true_and, and_true, List.length_nil, List.length_cons, Nat.reduceAdd, Nat.reduceLeDiff, Nat.zero_le, Nat.reduceLT, ↓w_nil, ix_nI, nI_leP, nI_ltP, nI_eqP, nI_1, ↓i_inN, i_inN, l_le, l_lt, l_eq, r_le, r_lt, r_eq, ↓w_new, ↓w_dup_i, ↓w_dup_r, ↓w_ix, ↓pm_cl2_1, ↓w_astore_1, ↓w_astore_2, ↓w_iconst, ↓w_istore_3, ↓w_iload_3, ↓w_aload_0, ↓w_naload_0, ↓w_alen, ↓w_slen, ↓w_bipush, ↓w_isub, ↓w_icgt, ↓w_iaload, ↓w_saload, ↓w_iand, ↓w_sw_L_law_33, ↓w_aload_1, ↓w_naload_1, ↓w_iadd, ↓w_iv, ↓pm_cl2_3, ↓w_aload_2, ↓w_naload_2, ↓w_iceq, ↓w_zret, ↓pm_cl2_4, ↓pm_cl2_2, ↓pm_cl2_6, ↓w_ifeq, ↓w_goto, ↓pm_cl2_5, ↓w_lcmp, ↓w_iinc_3, sh0, sh68_0, nI_add, nI_p2, nI_p3, nI_p4, nI_p5, z])
      | (simp only [w_in])
      | (intro _))
    all_goals first | exact h26 | omega | grind
theorem lw_b22 (hd : 30 ≤ d) (hL : g.2.2.2.1 ≤ 3072) (hi : i + 5 < g.2.2.2.1) (hk1 : k.1 ≤ R.cells) (hk2 : k.2 ≤ R.slots) (hR : Rel I J) (hw : ∀ I2 J2, Rel I2 J2 → UL g d R Q 61 i I2 J2 k) : UL g d R Q 22 i I J k := by
  by_cases hz : g.2.2.2.2.1 (i + 3) = 0
  · have w := lw_b24 hd hL hi hk1 hk2 hR hw (Or.inl ⟨hz, rfl⟩)
    clear hw
    refine bL_law_22 ?_
    simp (disch := first | omega | decide) only [w_nl0, w_nli, w_nlr, ↓w_ts1, ↓w_ts0, w_rcv, w_rfv, w_cs, true_and, and_true, List.length_nil, List.length_cons, Nat.reduceAdd, Nat.reduceLeDiff, Nat.zero_le, Nat.reduceLT, ↓w_nil, ix_nI, nI_leP, nI_ltP, nI_eqP, nI_1, ↓i_inN, i_inN, l_le, l_lt, l_eq, r_le, r_lt, r_eq, ↓w_aload_1, ↓w_naload_1, ↓w_aload_0, ↓w_naload_0, ↓w_iload_3, ↓w_iconst, ↓w_iadd, ↓w_iaload, ↓w_saload, ↓w_ifeq, ↓w_goto, sh0, sh68_0, nI_add, nI_p2, nI_p3, nI_p4, nI_p5, hz]
    repeat' (first
      | (apply And.intro)
      | (with_reducible refine bL_law_23 ?_; simp (disch := first | omega | decide) only [w_nl0, w_nli, w_nlr, ↓w_ts1, ↓w_ts0, w_rcv, w_rfv, w_cs, true_and, and_true, List.length_nil, List.length_cons, Nat.reduceAdd, Nat.reduceLeDiff, Nat.zero_le, Nat.reduceLT, ↓w_nil, ix_nI, nI_leP, nI_ltP, nI_eqP, nI_1, ↓i_inN, i_inN, l_le, l_lt, l_eq, r_le, r_lt, r_eq, ↓w_new, ↓w_dup_i, ↓w_dup_r, ↓w_ix, ↓pm_cl2_1, ↓w_astore_1, ↓w_astore_2, ↓w_iconst, ↓w_istore_3, ↓w_iload_3, ↓w_aload_0, ↓w_naload_0, ↓w_alen, ↓w_slen, ↓w_bipush, ↓w_isub, ↓w_icgt, ↓w_iaload, ↓w_saload, ↓w_iand, ↓w_sw_L_law_33, ↓w_aload_1, ↓w_naload_1, ↓w_iadd, ↓w_iv, ↓pm_cl2_3, ↓w_aload_2, ↓w_naload_2, ↓w_iceq, ↓w_zret, ↓pm_cl2_4, ↓pm_cl2_2, ↓pm_cl2_6, ↓w_ifeq, ↓w_goto, ↓pm_cl2_5, ↓w_lcmp, ↓w_iinc_3, sh0, sh68_0, nI_add, nI_p2, nI_p3, nI_p4, nI_p5, hz])
      | (simp only [w_in])
      | (intro _))
    all_goals first | exact w | omega | grind
  · have w := lw_b24 hd hL hi hk1 hk2 hR hw (Or.inr ⟨hz, rfl⟩)
    clear hw
    refine bL_law_22 ?_
    simp (disch := first | omega | decide) only [w_nl0, w_nli, w_nlr, ↓w_ts1, ↓w_ts0, w_rcv, w_rfv, w_cs, true_and, and_true, List.length_nil, List.length_cons, Nat.reduceAdd, Nat.reduceLeDiff, Nat.zero_le, Nat.reduceLT, ↓w_nil, ix_nI, nI_leP, nI_ltP, nI_eqP, nI_1, ↓i_inN, i_inN, l_le, l_lt, l_eq, r_le, r_lt, r_eq, ↓w_aload_1, ↓w_naload_1, ↓w_aload_0, ↓w_naload_0, ↓w_iload_3, ↓w_iconst, ↓w_iadd, ↓w_iaload, ↓w_saload, ↓w_ifeq, ↓w_goto, sh0, sh68_0, nI_add, nI_p2, nI_p3, nI_p4, nI_p5, hz]
    repeat' (first
      | (apply And.intro)
      | (with_reducible refine bL_law_23 ?_; simp (disch := first | omega | decide) only [w_nl0, w_nli, w_nlr, ↓w_ts1, ↓w_ts0, w_rcv, w_rfv, w_cs, true_and, and_true, List.length_nil, List.length_cons, Nat.reduceAdd, Nat.reduceLeDiff, Nat.zero_le, Nat.reduceLT, ↓w_nil, ix_nI, nI_leP, nI_ltP, nI_eqP, nI_1, ↓i_inN, i_inN, l_le, l_lt, l_eq, r_le, r_lt, r_eq, ↓w_new, ↓w_dup_i, ↓w_dup_r, ↓w_ix, ↓pm_cl2_1, ↓w_astore_1, ↓w_astore_2, ↓w_iconst, ↓w_istore_3, ↓w_iload_3, ↓w_aload_0, ↓w_naload_0, ↓w_alen, ↓w_slen, ↓w_bipush, ↓w_isub, ↓w_icgt, ↓w_iaload, ↓w_saload, ↓w_iand, ↓w_sw_L_law_33, ↓w_aload_1, ↓w_naload_1, ↓w_iadd, ↓w_iv, ↓pm_cl2_3, ↓w_aload_2, ↓w_naload_2, ↓w_iceq, ↓w_zret, ↓pm_cl2_4, ↓pm_cl2_2, ↓pm_cl2_6, ↓w_ifeq, ↓w_goto, ↓pm_cl2_5, ↓w_lcmp, ↓w_iinc_3, sh0, sh68_0, nI_add, nI_p2, nI_p3, nI_p4, nI_p5, hz])
      | (simp only [w_in])
      | (intro _))
    all_goals first | exact w | omega | grind
theorem lw_b34 {b : Int32} (hd : 30 ≤ d) (hL : g.2.2.2.1 ≤ 3072) (hi : i + 5 < g.2.2.2.1) (hk1 : k.1 ≤ R.cells) (hk2 : k.2 ≤ R.slots) (hR : Rel I J) (hw : ∀ I2 J2, Rel I2 J2 → UL g d R Q 61 i I2 J2 k) (hz : (g.2.2.2.2.1 (i + 4) = 0 ∧ b = 0) ∨ (¬ g.2.2.2.2.1 (i + 4) = 0 ∧ b = 1)) : UU g d 302 kL_law R Q 34 [some .null, some (.ref 0), some (.ref 68), some (.int (nI i))] [.int b, .int (g.2.2.2.2.1 (i + 3)), .int (g.2.2.2.2.1 (i + 2)), .int (g.2.2.2.2.1 (i + 1)), .ref 0] SH I J k := by
  have hb : b = 0 ∨ b = 1 := by rcases hz with h | h; exact Or.inl h.2; exact Or.inr h.2
  refine bL_law_34 ?_
  simp (disch := first | omega | decide) only [w_nl0, w_nli, w_nlr, ↓w_ts1, ↓w_ts0, w_rcv, w_rfv, w_cs, true_and, and_true, List.length_nil, List.length_cons, Nat.reduceAdd, Nat.reduceLeDiff, Nat.zero_le, Nat.reduceLT, ↓w_nil, ix_nI, nI_leP, nI_ltP, nI_eqP, nI_1, ↓i_inN, i_inN, l_le, l_lt, l_eq, r_le, r_lt, r_eq, ↓w_iv, ↓pm_cl2_5, ↓w_aload_2, ↓w_naload_2, ↓w_aload_0, ↓w_naload_0, ↓w_iload_3, ↓w_iconst, ↓w_iadd, ↓w_iaload, ↓w_saload, ↓w_ifeq, ↓w_goto, sh0, sh68_0, nI_add, nI_p2, nI_p3, nI_p4, nI_p5]
  repeat' (first | apply And.intro | omega | assumption | exact vl)
  refine pm_C_mono (p_report (by omega) hb I J hR) (fun v S1 I1 J1 h1 => ?_)
  obtain ⟨rfl, _, h2⟩ := h1
  have h26 : UU g d 302 kL_law R Q 36 [some .null, some (.ref 0), some (.ref 68), some (.int (nI i))] (.int b :: .int (g.2.2.2.2.1 (i + 3)) :: .int (g.2.2.2.2.1 (i + 2)) :: .int (g.2.2.2.2.1 (i + 1)) :: .ref 68 :: (v.toList ++ [])) SH I1 J1 k := by
    refine bL_law_36 ?_
    simp (disch := first | omega | decide) only [w_nl0, w_nli, w_nlr, ↓w_ts1, ↓w_ts0, w_rcv, w_rfv, w_cs, true_and, and_true, List.length_nil, List.length_cons, Nat.reduceAdd, Nat.reduceLeDiff, Nat.zero_le, Nat.reduceLT, ↓w_nil, ix_nI, nI_leP, nI_ltP, nI_eqP, nI_1, ↓i_inN, i_inN, l_le, l_lt, l_eq, r_le, r_lt, r_eq, ↓w_iv, ↓pm_cl2_5, ↓w_iceq, ↓w_iconst, ↓w_zret, sh0, sh68_0, nI_add, nI_p2, nI_p3, nI_p4, nI_p5]
    repeat' (first | apply And.intro | omega | assumption | exact vl)
    refine pm_C_mono h2 (fun w S2 I2 J2 h3 => ?_)
    obtain ⟨e, rfl, _, hR2⟩ := h3
    obtain ⟨rfl, a, rfl⟩ := ty_int e rfl
    simp (disch := first | omega | decide) only [w_nl0, w_nli, w_nlr, ↓w_ts1, ↓w_ts0, w_rcv, w_rfv, w_cs, true_and, and_true, List.length_nil, List.length_cons, Nat.reduceAdd, Nat.reduceLeDiff, Nat.zero_le, Nat.reduceLT, ↓w_nil, ix_nI, nI_leP, nI_ltP, nI_eqP, nI_1, ↓i_inN, i_inN, l_le, l_lt, l_eq, r_le, r_lt, r_eq, ↓w_iv, ↓pm_cl2_5, ↓w_iceq, ↓w_iconst, ↓w_zret, sh0, sh68_0, nI_add, nI_p2, nI_p3, nI_p4, nI_p5]
    have w := hw I2 J2 hR2
    first | exact ⟨fun _ => w, fun z => absurd rfl z⟩ | exact w | grind
  clear h2 hw
  rcases hz with ⟨z, rfl⟩ | ⟨z, rfl⟩
  · simp (disch := first | omega | decide) only [w_nl0, w_nli, w_nlr, ↓w_ts1, ↓w_ts0, w_rcv, w_rfv, w_cs, true_and, and_true, List.length_nil, List.length_cons, Nat.reduceAdd, Nat.reduceLeDiff, Nat.zero_le, Nat.reduceLT, ↓w_nil, ix_nI, nI_leP, nI_ltP, nI_eqP, nI_1, ↓i_inN, i_inN, l_le, l_lt, l_eq, r_le, r_lt, r_eq, ↓w_iv, ↓pm_cl2_5, ↓w_aload_2, ↓w_naload_2, ↓w_aload_0, ↓w_naload_0, ↓w_iload_3, ↓w_iconst, ↓w_iadd, ↓w_iaload, ↓w_saload, ↓w_ifeq, ↓w_goto, sh0, sh68_0, nI_add, nI_p2, nI_p3, nI_p4, nI_p5, z]
    repeat' (first
      | (apply And.intro)
      | (with_reducible refine bL_law_35 ?_; simp (disch := first | omega | decide) only [w_nl0, w_nli, w_nlr, ↓w_ts1, ↓w_ts0, w_rcv, w_rfv, w_cs, true_and, and_true, List.length_nil, List.length_cons, Nat.reduceAdd, Nat.reduceLeDiff, Nat.zero_le, Nat.reduceLT, ↓w_nil, ix_nI, nI_leP, nI_ltP, nI_eqP, nI_1, ↓i_inN, i_inN, l_le, l_lt, l_eq, r_le, r_lt, r_eq, ↓w_new, ↓w_dup_i, ↓w_dup_r, ↓w_ix, ↓pm_cl2_1, ↓w_astore_1, ↓w_astore_2, ↓w_iconst, ↓w_istore_3, ↓w_iload_3, ↓w_aload_0, ↓w_naload_0, ↓w_alen, ↓w_slen, ↓w_bipush, ↓w_isub, ↓w_icgt, ↓w_iaload, ↓w_saload, ↓w_iand, ↓w_sw_L_law_33, ↓w_aload_1, ↓w_naload_1, ↓w_iadd, ↓w_iv, ↓pm_cl2_3, ↓w_aload_2, ↓w_naload_2, ↓w_iceq, ↓w_zret, ↓pm_cl2_4, ↓pm_cl2_2, ↓pm_cl2_6, ↓w_ifeq, ↓w_goto, ↓pm_cl2_5, ↓w_lcmp, ↓w_iinc_3, sh0, sh68_0, nI_add, nI_p2, nI_p3, nI_p4, nI_p5, z])
      | (simp only [w_in])
      | (intro _))
    all_goals first | exact h26 | omega | grind
  · simp (disch := first | omega | decide) only [w_nl0, w_nli, w_nlr, ↓w_ts1, ↓w_ts0, w_rcv, w_rfv, w_cs, true_and, and_true, List.length_nil, List.length_cons, Nat.reduceAdd, Nat.reduceLeDiff, Nat.zero_le, Nat.reduceLT, ↓w_nil, ix_nI, nI_leP, nI_ltP, nI_eqP, nI_1, ↓i_inN, i_inN, l_le, l_lt, l_eq, r_le, r_lt, r_eq, ↓w_iv, ↓pm_cl2_5, ↓w_aload_2, ↓w_naload_2, ↓w_aload_0, ↓w_naload_0, ↓w_iload_3, ↓w_iconst, ↓w_iadd, ↓w_iaload, ↓w_saload, ↓w_ifeq, ↓w_goto, sh0, sh68_0, nI_add, nI_p2, nI_p3, nI_p4, nI_p5, z]
    repeat' (first
      | (apply And.intro)
      | (with_reducible refine bL_law_35 ?_; simp (disch := first | omega | decide) only [w_nl0, w_nli, w_nlr, ↓w_ts1, ↓w_ts0, w_rcv, w_rfv, w_cs, true_and, and_true, List.length_nil, List.length_cons, Nat.reduceAdd, Nat.reduceLeDiff, Nat.zero_le, Nat.reduceLT, ↓w_nil, ix_nI, nI_leP, nI_ltP, nI_eqP, nI_1, ↓i_inN, i_inN, l_le, l_lt, l_eq, r_le, r_lt, r_eq, ↓w_new, ↓w_dup_i, ↓w_dup_r, ↓w_ix, ↓pm_cl2_1, ↓w_astore_1, ↓w_astore_2, ↓w_iconst, ↓w_istore_3, ↓w_iload_3, ↓w_aload_0, ↓w_naload_0, ↓w_alen, ↓w_slen, ↓w_bipush, ↓w_isub, ↓w_icgt, ↓w_iaload, ↓w_saload, ↓w_iand, ↓w_sw_L_law_33, ↓w_aload_1, ↓w_naload_1, ↓w_iadd, ↓w_iv, ↓pm_cl2_3, ↓w_aload_2, ↓w_naload_2, ↓w_iceq, ↓w_zret, ↓pm_cl2_4, ↓pm_cl2_2, ↓pm_cl2_6, ↓w_ifeq, ↓w_goto, ↓pm_cl2_5, ↓w_lcmp, ↓w_iinc_3, sh0, sh68_0, nI_add, nI_p2, nI_p3, nI_p4, nI_p5, z])
      | (simp only [w_in])
      | (intro _))
    all_goals first | exact h26 | omega | grind
theorem lw_b32 (hd : 30 ≤ d) (hL : g.2.2.2.1 ≤ 3072) (hi : i + 5 < g.2.2.2.1) (hk1 : k.1 ≤ R.cells) (hk2 : k.2 ≤ R.slots) (hR : Rel I J) (hw : ∀ I2 J2, Rel I2 J2 → UL g d R Q 61 i I2 J2 k) : UL g d R Q 32 i I J k := by
  by_cases hz : g.2.2.2.2.1 (i + 4) = 0
  · have w := lw_b34 hd hL hi hk1 hk2 hR hw (Or.inl ⟨hz, rfl⟩)
    clear hw
    refine bL_law_32 ?_
    simp (disch := first | omega | decide) only [w_nl0, w_nli, w_nlr, ↓w_ts1, ↓w_ts0, w_rcv, w_rfv, w_cs, true_and, and_true, List.length_nil, List.length_cons, Nat.reduceAdd, Nat.reduceLeDiff, Nat.zero_le, Nat.reduceLT, ↓w_nil, ix_nI, nI_leP, nI_ltP, nI_eqP, nI_1, ↓i_inN, i_inN, l_le, l_lt, l_eq, r_le, r_lt, r_eq, ↓w_aload_1, ↓w_naload_1, ↓w_aload_0, ↓w_naload_0, ↓w_iload_3, ↓w_iconst, ↓w_iadd, ↓w_iaload, ↓w_saload, ↓w_ifeq, ↓w_goto, sh0, sh68_0, nI_add, nI_p2, nI_p3, nI_p4, nI_p5, hz]
    repeat' (first
      | (apply And.intro)
      | (with_reducible refine bL_law_33 ?_; simp (disch := first | omega | decide) only [w_nl0, w_nli, w_nlr, ↓w_ts1, ↓w_ts0, w_rcv, w_rfv, w_cs, true_and, and_true, List.length_nil, List.length_cons, Nat.reduceAdd, Nat.reduceLeDiff, Nat.zero_le, Nat.reduceLT, ↓w_nil, ix_nI, nI_leP, nI_ltP, nI_eqP, nI_1, ↓i_inN, i_inN, l_le, l_lt, l_eq, r_le, r_lt, r_eq, ↓w_new, ↓w_dup_i, ↓w_dup_r, ↓w_ix, ↓pm_cl2_1, ↓w_astore_1, ↓w_astore_2, ↓w_iconst, ↓w_istore_3, ↓w_iload_3, ↓w_aload_0, ↓w_naload_0, ↓w_alen, ↓w_slen, ↓w_bipush, ↓w_isub, ↓w_icgt, ↓w_iaload, ↓w_saload, ↓w_iand, ↓w_sw_L_law_33, ↓w_aload_1, ↓w_naload_1, ↓w_iadd, ↓w_iv, ↓pm_cl2_3, ↓w_aload_2, ↓w_naload_2, ↓w_iceq, ↓w_zret, ↓pm_cl2_4, ↓pm_cl2_2, ↓pm_cl2_6, ↓w_ifeq, ↓w_goto, ↓pm_cl2_5, ↓w_lcmp, ↓w_iinc_3, sh0, sh68_0, nI_add, nI_p2, nI_p3, nI_p4, nI_p5, hz])
      | (simp only [w_in])
      | (intro _))
    all_goals first | exact w | omega | grind
  · have w := lw_b34 hd hL hi hk1 hk2 hR hw (Or.inr ⟨hz, rfl⟩)
    clear hw
    refine bL_law_32 ?_
    simp (disch := first | omega | decide) only [w_nl0, w_nli, w_nlr, ↓w_ts1, ↓w_ts0, w_rcv, w_rfv, w_cs, true_and, and_true, List.length_nil, List.length_cons, Nat.reduceAdd, Nat.reduceLeDiff, Nat.zero_le, Nat.reduceLT, ↓w_nil, ix_nI, nI_leP, nI_ltP, nI_eqP, nI_1, ↓i_inN, i_inN, l_le, l_lt, l_eq, r_le, r_lt, r_eq, ↓w_aload_1, ↓w_naload_1, ↓w_aload_0, ↓w_naload_0, ↓w_iload_3, ↓w_iconst, ↓w_iadd, ↓w_iaload, ↓w_saload, ↓w_ifeq, ↓w_goto, sh0, sh68_0, nI_add, nI_p2, nI_p3, nI_p4, nI_p5, hz]
    repeat' (first
      | (apply And.intro)
      | (with_reducible refine bL_law_33 ?_; simp (disch := first | omega | decide) only [w_nl0, w_nli, w_nlr, ↓w_ts1, ↓w_ts0, w_rcv, w_rfv, w_cs, true_and, and_true, List.length_nil, List.length_cons, Nat.reduceAdd, Nat.reduceLeDiff, Nat.zero_le, Nat.reduceLT, ↓w_nil, ix_nI, nI_leP, nI_ltP, nI_eqP, nI_1, ↓i_inN, i_inN, l_le, l_lt, l_eq, r_le, r_lt, r_eq, ↓w_new, ↓w_dup_i, ↓w_dup_r, ↓w_ix, ↓pm_cl2_1, ↓w_astore_1, ↓w_astore_2, ↓w_iconst, ↓w_istore_3, ↓w_iload_3, ↓w_aload_0, ↓w_naload_0, ↓w_alen, ↓w_slen, ↓w_bipush, ↓w_isub, ↓w_icgt, ↓w_iaload, ↓w_saload, ↓w_iand, ↓w_sw_L_law_33, ↓w_aload_1, ↓w_naload_1, ↓w_iadd, ↓w_iv, ↓pm_cl2_3, ↓w_aload_2, ↓w_naload_2, ↓w_iceq, ↓w_zret, ↓pm_cl2_4, ↓pm_cl2_2, ↓pm_cl2_6, ↓w_ifeq, ↓w_goto, ↓pm_cl2_5, ↓w_lcmp, ↓w_iinc_3, sh0, sh68_0, nI_add, nI_p2, nI_p3, nI_p4, nI_p5, hz])
      | (simp only [w_in])
      | (intro _))
    all_goals first | exact w | omega | grind
/-- the law, from its loop's head on: it answers 1 -/
theorem lw_loop {R : Room} {Q : pm_Po} {k : Nat × Nat} (hd : 30 ≤ d) (hL : g.2.2.2.1 ≤ 3072) (hk1 : k.1 ≤ R.cells) (hk2 : k.2 ≤ R.slots) (hQ : ∀ S2 I2 J2, Q (some (.int 1)) S2 I2 J2) : ∀ n i I J, g.2.2.2.1 < i + 6 * n + 6 → i ≤ 4000 → Rel I J → UL g d R Q 1 i I J k := by
  intro n
  induction n with
  | zero =>
    intro i I J hn hi hR
    have hc : Int32.ofNat g.2.2.2.1 - 6 < nI i := by
      rw [l_onI, i_lt]
      have e : (nI g.2.2.2.1 - 6).toInt = (g.2.2.2.1 : Int) - 6 := by
        rw [i_sub (by rw [tI_nI (by omega)]; have : (6 : Int32).toInt = 6 := rfl; omega) (by rw [tI_nI (by omega)]; have : (6 : Int32).toInt = 6 := rfl; omega), tI_nI (by omega)]
        rfl
      rw [e, tI_nI (by omega)]
      omega
    have hQ2 := hQ SH I J
    clear hQ hR
    refine bL_law_1 ?_
    simp (disch := first | omega | decide) only [w_nl0, w_nli, w_nlr, ↓w_ts1, ↓w_ts0, w_rcv, w_rfv, w_cs, true_and, and_true, List.length_nil, List.length_cons, Nat.reduceAdd, Nat.reduceLeDiff, Nat.zero_le, Nat.reduceLT, ↓w_nil, ix_nI, nI_leP, nI_ltP, nI_eqP, nI_1, ↓i_inN, i_inN, l_le, l_lt, l_eq, r_le, r_lt, r_eq, ↓w_iload_3, ↓w_aload_0, ↓w_naload_0, ↓w_alen, ↓w_slen, ↓w_bipush, ↓w_isub, ↓w_icgt, ↓w_iaload, ↓w_saload, ↓w_iand, ↓w_sw_L_law_33, sh0, sh68_0, nI_add, nI_p2, nI_p3, nI_p4, nI_p5]
    repeat' (first
      | (apply And.intro)
      | (with_reducible refine bL_law_62 ?_; simp (disch := first | omega | decide) only [w_nl0, w_nli, w_nlr, ↓w_ts1, ↓w_ts0, w_rcv, w_rfv, w_cs, true_and, and_true, List.length_nil, List.length_cons, Nat.reduceAdd, Nat.reduceLeDiff, Nat.zero_le, Nat.reduceLT, ↓w_nil, ix_nI, nI_leP, nI_ltP, nI_eqP, nI_1, ↓i_inN, i_inN, l_le, l_lt, l_eq, r_le, r_lt, r_eq, ↓w_new, ↓w_dup_i, ↓w_dup_r, ↓w_ix, ↓pm_cl2_1, ↓w_astore_1, ↓w_astore_2, ↓w_iconst, ↓w_istore_3, ↓w_iload_3, ↓w_aload_0, ↓w_naload_0, ↓w_alen, ↓w_slen, ↓w_bipush, ↓w_isub, ↓w_icgt, ↓w_iaload, ↓w_saload, ↓w_iand, ↓w_sw_L_law_33, ↓w_aload_1, ↓w_naload_1, ↓w_iadd, ↓w_iv, ↓pm_cl2_3, ↓w_aload_2, ↓w_naload_2, ↓w_iceq, ↓w_zret, ↓pm_cl2_4, ↓pm_cl2_2, ↓pm_cl2_6, ↓w_ifeq, ↓w_goto, ↓pm_cl2_5, ↓w_lcmp, ↓w_iinc_3, sh0, sh68_0, nI_add, nI_p2, nI_p3, nI_p4, nI_p5])
      | (simp only [w_in])
      | (intro _))
    all_goals first | exact hQ2 | omega | grind
  | succ n ih =>
    intro i I J hn hi hR
    have e : (nI g.2.2.2.1 - 6).toInt = (g.2.2.2.1 : Int) - 6 := by
      rw [i_sub (by rw [tI_nI (by omega)]; have : (6 : Int32).toInt = 6 := rfl; omega) (by rw [tI_nI (by omega)]; have : (6 : Int32).toInt = 6 := rfl; omega), tI_nI (by omega)]
      rfl
    by_cases hc : g.2.2.2.1 < i + 6
    · have hc : Int32.ofNat g.2.2.2.1 - 6 < nI i := by
        rw [l_onI, i_lt, e, tI_nI (by omega)]
        omega
      have hQ2 := hQ SH I J
      clear hQ hR ih
      refine bL_law_1 ?_
      simp (disch := first | omega | decide) only [w_nl0, w_nli, w_nlr, ↓w_ts1, ↓w_ts0, w_rcv, w_rfv, w_cs, true_and, and_true, List.length_nil, List.length_cons, Nat.reduceAdd, Nat.reduceLeDiff, Nat.zero_le, Nat.reduceLT, ↓w_nil, ix_nI, nI_leP, nI_ltP, nI_eqP, nI_1, ↓i_inN, i_inN, l_le, l_lt, l_eq, r_le, r_lt, r_eq, ↓w_iload_3, ↓w_aload_0, ↓w_naload_0, ↓w_alen, ↓w_slen, ↓w_bipush, ↓w_isub, ↓w_icgt, ↓w_iaload, ↓w_saload, ↓w_iand, ↓w_sw_L_law_33, sh0, sh68_0, nI_add, nI_p2, nI_p3, nI_p4, nI_p5]
      repeat' (first
        | (apply And.intro)
        | (with_reducible refine bL_law_62 ?_; simp (disch := first | omega | decide) only [w_nl0, w_nli, w_nlr, ↓w_ts1, ↓w_ts0, w_rcv, w_rfv, w_cs, true_and, and_true, List.length_nil, List.length_cons, Nat.reduceAdd, Nat.reduceLeDiff, Nat.zero_le, Nat.reduceLT, ↓w_nil, ix_nI, nI_leP, nI_ltP, nI_eqP, nI_1, ↓i_inN, i_inN, l_le, l_lt, l_eq, r_le, r_lt, r_eq, ↓w_new, ↓w_dup_i, ↓w_dup_r, ↓w_ix, ↓pm_cl2_1, ↓w_astore_1, ↓w_astore_2, ↓w_iconst, ↓w_istore_3, ↓w_iload_3, ↓w_aload_0, ↓w_naload_0, ↓w_alen, ↓w_slen, ↓w_bipush, ↓w_isub, ↓w_icgt, ↓w_iaload, ↓w_saload, ↓w_iand, ↓w_sw_L_law_33, ↓w_aload_1, ↓w_naload_1, ↓w_iadd, ↓w_iv, ↓pm_cl2_3, ↓w_aload_2, ↓w_naload_2, ↓w_iceq, ↓w_zret, ↓pm_cl2_4, ↓pm_cl2_2, ↓pm_cl2_6, ↓w_ifeq, ↓w_goto, ↓pm_cl2_5, ↓w_lcmp, ↓w_iinc_3, sh0, sh68_0, nI_add, nI_p2, nI_p3, nI_p4, nI_p5])
        | (simp only [w_in])
        | (intro _))
      all_goals first | exact hQ2 | omega | grind
    · have hc2 : ¬ Int32.ofNat g.2.2.2.1 - 6 < nI i := by
        rw [l_onI, i_lt, e, tI_nI (by omega)]
        omega
      have hi5 : i + 5 < g.2.2.2.1 := by omega
      have hw : ∀ I2 J2, Rel I2 J2 → UL g d R Q 61 i I2 J2 k := by
        intro I2 J2 hR2
        have w := ih (i + 6) I2 J2 (by omega) (by omega) hR2
        have e6 : nI i + 6 = nI (i + 6) := nI_add i 6
        clear ih hQ
        refine bL_law_61 ?_
        simp (disch := first | omega | decide) only [w_nl0, w_nli, w_nlr, ↓w_ts1, ↓w_ts0, w_rcv, w_rfv, w_cs, true_and, and_true, List.length_nil, List.length_cons, Nat.reduceAdd, Nat.reduceLeDiff, Nat.zero_le, Nat.reduceLT, ↓w_nil, ix_nI, nI_leP, nI_ltP, nI_eqP, nI_1, ↓i_inN, i_inN, l_le, l_lt, l_eq, r_le, r_lt, r_eq, ↓w_iinc_3, ↓w_goto, sh0, sh68_0, nI_add, nI_p2, nI_p3, nI_p4, nI_p5, e6]
        repeat' (first
          | (apply And.intro)
          | (simp only [w_in])
          | (intro _))
        all_goals first | exact w | omega | grind
      have h2 := lw_b2 hd hL hi5 hk1 hk2 hR hw
      have h3 := lw_b3 hd hL hi5 hk1 hk2 hR hw
      have h4 := lw_b4 hd hL hi5 hk1 hk2 hR hw
      have h5 := lw_b5 hd hL hi5 hk1 hk2 hR hw
      have h6 := lw_b6 hd hL hi5 hk1 hk2 hR hw
      have h7 := lw_b7 hd hL hi5 hk1 hk2 hR hw
      have h8 := lw_b8 hd hL hi5 hk1 hk2 hR hw
      have h9 := lw_b9 hd hL hi5 hk1 hk2 hR hw
      have h10 := lw_b10 hd hL hi5 hk1 hk2 hR hw
      have h11 := lw_b11 hd hL hi5 hk1 hk2 hR hw
      have h12 := lw_b12 hd hL hi5 hk1 hk2 hR hw
      have h13 := lw_b13 hd hL hi5 hk1 hk2 hR hw
      have h14 := lw_b14 hd hL hi5 hk1 hk2 hR hw
      have h15 := lw_b15 hd hL hi5 hk1 hk2 hR hw
      have h16 := lw_b16 hd hL hi5 hk1 hk2 hR hw
      have h17 := lw_b17 hd hL hi5 hk1 hk2 hR hw
      have h18 := lw_b18 hd hL hi5 hk1 hk2 hR hw
      have h19 := lw_b19 hd hL hi5 hk1 hk2 hR hw
      have h20 := lw_b20 hd hL hi5 hk1 hk2 hR hw
      have h21 := lw_b21 hd hL hi5 hk1 hk2 hR hw
      have h22 := lw_b22 hd hL hi5 hk1 hk2 hR hw
      have h27 := lw_b27 hd hL hi5 hk1 hk2 hR hw
      have h28 := lw_b28 hd hL hi5 hk1 hk2 hR hw
      have h29 := lw_b29 hd hL hi5 hk1 hk2 hR hw
      have h30 := lw_b30 hd hL hi5 hk1 hk2 hR hw
      have h31 := lw_b31 hd hL hi5 hk1 hk2 hR hw
      have h32 := lw_b32 hd hL hi5 hk1 hk2 hR hw
      have h37 := lw_b37 hd hL hi5 hk1 hk2 hR hw
      have h38 := lw_b38 hd hL hi5 hk1 hk2 hR hw
      have h39 := lw_b39 hd hL hi5 hk1 hk2 hR hw
      have h40 := lw_b40 hd hL hi5 hk1 hk2 hR hw
      have h41 := lw_b41 hd hL hi5 hk1 hk2 hR hw
      have h42 := lw_b42 hd hL hi5 hk1 hk2 hR hw
      have h43 := lw_b43 hd hL hi5 hk1 hk2 hR hw
      have h44 := lw_b44 hd hL hi5 hk1 hk2 hR hw
      have h45 := lw_b45 hd hL hi5 hk1 hk2 hR hw
      have h46 := lw_b46 hd hL hi5 hk1 hk2 hR hw
      have h47 := lw_b47 hd hL hi5 hk1 hk2 hR hw
      have h48 := lw_b48 hd hL hi5 hk1 hk2 hR hw
      have h49 := lw_b49 hd hL hi5 hk1 hk2 hR hw
      have h50 := lw_b50 hd hL hi5 hk1 hk2 hR hw
      have h51 := lw_b51 hd hL hi5 hk1 hk2 hR hw
      have h52 := lw_b52 hd hL hi5 hk1 hk2 hR hw
      have h53 := lw_b53 hd hL hi5 hk1 hk2 hR hw
      have h54 := lw_b54 hd hL hi5 hk1 hk2 hR hw
      have h55 := lw_b55 hd hL hi5 hk1 hk2 hR hw
      have h56 := lw_b56 hd hL hi5 hk1 hk2 hR hw
      have h57 := lw_b57 hd hL hi5 hk1 hk2 hR hw
      have h58 := lw_b58 hd hL hi5 hk1 hk2 hR hw
      have h59 := lw_b59 hd hL hi5 hk1 hk2 hR hw
      have h60 := lw_b60 hd hL hi5 hk1 hk2 hR hw
      have h61 := hw I J hR
      clear ih hQ hw hR
      refine bL_law_1 ?_
      simp (disch := first | omega | decide) only [w_nl0, w_nli, w_nlr, ↓w_ts1, ↓w_ts0, w_rcv, w_rfv, w_cs, true_and, and_true, List.length_nil, List.length_cons, Nat.reduceAdd, Nat.reduceLeDiff, Nat.zero_le, Nat.reduceLT, ↓w_nil, ix_nI, nI_leP, nI_ltP, nI_eqP, nI_1, ↓i_inN, i_inN, l_le, l_lt, l_eq, r_le, r_lt, r_eq, ↓w_iload_3, ↓w_aload_0, ↓w_naload_0, ↓w_alen, ↓w_slen, ↓w_bipush, ↓w_isub, ↓w_icgt, ↓w_iaload, ↓w_saload, ↓w_iand, ↓w_sw_L_law_33, sh0, sh68_0, nI_add, nI_p2, nI_p3, nI_p4, nI_p5]
      refine ⟨fun z => absurd z hc2, fun _ => ?_⟩
      repeat' (first | assumption | (apply And.intro) | omega | (intro _))
end C93
