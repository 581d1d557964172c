section C74
variable {g : pm_G} {d : Nat} {Q : pm_Po} {S : pm_SS} {I : pm_MI} {J : pm_ML}
def psc (b : Nat → Int32) (s : Nat) : Nat → Nat → (Nat → Int32) → Bool × Nat × (Nat → Int32)
  | 0, i, D => (true, i, D)
  | f + 1, i, D => if i < s then (if b i = 32 then psc b s f (i + 1) D else if (pit b s i).1 then psc b s f (pit b s i).2.1 (drU D (pit b s i)) else (false, (pit b s i).2.1, D)) else (true, i, D)
theorem pit_rng {b : Nat → Int32} {s i : Nat} (hi : i < s) : (pit b s i).2.1 ≤ s ∧ ((pit b s i).1 = true → i + 2 ≤ (pit b s i).2.1) := by
  unfold pit
  split
  · unfold pG
    split
    · exact ⟨by simp only; omega, fun h => absurd h (by simp)⟩
    · rename_i h1
      have h1 := (Classical.not_not.1 h1).1
      split
      · exact ⟨by simp only; omega, fun h => absurd h (by simp)⟩
      · rename_i h2
        have h2 := (Classical.not_not.1 h2).1
        split
        · exact ⟨by simp only; omega, fun h => absurd h (by simp)⟩
        · have k1 := pdg_le (b := b) (s := s) (m := 10) 2 (i + 3) 0
          have k2 := pdg_s (b := b) (s := s) (m := 10) 2 (i + 3) 0 (by omega)
          exact ⟨k2, fun _ => by simp only; omega⟩
  · split
    · unfold pW
      have k1 := pdg_le (b := b) (s := s) (m := 10) 5 (i + 1) 0
      have k2 := pdg_s (b := b) (s := s) (m := 10) 5 (i + 1) 0 (by omega)
      split
      · exact ⟨by simp only; omega, fun h => absurd h (by simp)⟩
      · exact ⟨k2, fun _ => by simp only; omega⟩
    · split
      · unfold pP
        split
        · exact ⟨by simp only; omega, fun h => absurd h (by simp)⟩
        · rename_i h1
          have h1 := (Classical.not_not.1 h1).1
          have k1 := pdg_le (b := b) (s := s) (m := 10) 4 (i + 2) 0
          have k2 := pdg_s (b := b) (s := s) (m := 10) 4 (i + 2) 0 (by omega)
          split
          · exact ⟨by simp only; omega, fun h => absurd h (by simp)⟩
          · exact ⟨k2, fun _ => by simp only; omega⟩
      · split
        · unfold pL
          split
          · exact ⟨by simp only; omega, fun h => absurd h (by simp)⟩
          · rename_i h1
            have h1 := (Classical.not_not.1 h1).1
            exact ⟨by simp only; omega, fun _ => by simp only; omega⟩
        · split
          · unfold pL
            split
            · exact ⟨by simp only; omega, fun h => absurd h (by simp)⟩
            · rename_i h1
              have h1 := (Classical.not_not.1 h1).1
              exact ⟨by simp only; omega, fun _ => by simp only; omega⟩
          · exact ⟨by simp only; omega, fun h => absurd h (by simp)⟩
theorem c_readItem {I' : pm_MI} {s i : Nat} {b D : Nat → Int32} (hd : 6 ≤ d) (hs : s ≤ 48) (hi : i < s) (h : RS I I' s b i 1 D) (hB : b i = 32 → ∀ I'', RS I I'' s b (i + 1) 1 D → Q none SH I'' J) (hQ : ¬ b i = 32 → ∀ I'', RS I I'' s b (pit b s i).2.1 (okV (pit b s i)) (drU D (pit b s i)) → Q none SH I'' J) : pm_C g d 64 [.ref 31] Q SH I' J := by
  have r6 := h.2.2.1
  have r36 := h.2.2.2.1 i hi
  have r7 := h.2.2.2.2.1
  have h1 := rs_place (q := i + 1) h
  have h0 := rs_snd (w := 0) h
  unfold pit at hQ
  by_cases c0 : b i = 32
  · have hB2 := hB c0 _ h1
    clear hB hQ h h1 h0
    refine eX5_readItem (by omega) ?_
    repeat' (first
      | (apply And.intro)
      | (with_reducible refine bX5_readItem_0 ?_; simp (disch := first | omega | decide) only [w_nl0, w_nli, w_nlr, ↓w_ts1, ↓w_ts0, w_rcv, w_rfv, w_cs, true_and, and_true, List.length_nil, List.length_cons, Nat.reduceAdd, Nat.reduceLeDiff, Nat.zero_le, Nat.reduceLT, ↓w_nil, ix_nI, nI_leP, nI_ltP, nI_eqP, nI_1, ↓i_inN, i_inN, l_le, l_lt, l_eq, r_le, r_lt, r_eq, sh31, ↓w_aload_0, ↓w_gf0, ↓w_is, ↓pm_cl1_2, ↓w_ifeq, ↓w_gf3, ↓w_iaload, ↓w_goto, ↓w_bipush, ↓w_istore_1, ↓w_iload_1, ↓w_sw_X5_readItem_30, ↓w_dup_i, ↓w_dup_r, ↓w_iconst, ↓w_iadd, ↓w_pf0, ↓w_iv, ↓pm_cl2_1, ↓pm_cl2_2, ↓w_pf2, ↓w_vret, r6, r7, r36, nI_add])
      | (with_reducible refine bX5_readItem_1 ?_; simp (disch := first | omega | decide) only [w_nl0, w_nli, w_nlr, ↓w_ts1, ↓w_ts0, w_rcv, w_rfv, w_cs, true_and, and_true, List.length_nil, List.length_cons, Nat.reduceAdd, Nat.reduceLeDiff, Nat.zero_le, Nat.reduceLT, ↓w_nil, ix_nI, nI_leP, nI_ltP, nI_eqP, nI_1, ↓i_inN, i_inN, l_le, l_lt, l_eq, r_le, r_lt, r_eq, sh31, ↓w_aload_0, ↓w_gf0, ↓w_is, ↓pm_cl1_2, ↓w_ifeq, ↓w_gf3, ↓w_iaload, ↓w_goto, ↓w_bipush, ↓w_istore_1, ↓w_iload_1, ↓w_sw_X5_readItem_30, ↓w_dup_i, ↓w_dup_r, ↓w_iconst, ↓w_iadd, ↓w_pf0, ↓w_iv, ↓pm_cl2_1, ↓pm_cl2_2, ↓w_pf2, ↓w_vret, r6, r7, r36, nI_add])
      | (with_reducible refine bX5_readItem_2 ?_; simp (disch := first | omega | decide) only [w_nl0, w_nli, w_nlr, ↓w_ts1, ↓w_ts0, w_rcv, w_rfv, w_cs, true_and, and_true, List.length_nil, List.length_cons, Nat.reduceAdd, Nat.reduceLeDiff, Nat.zero_le, Nat.reduceLT, ↓w_nil, ix_nI, nI_leP, nI_ltP, nI_eqP, nI_1, ↓i_inN, i_inN, l_le, l_lt, l_eq, r_le, r_lt, r_eq, sh31, ↓w_aload_0, ↓w_gf0, ↓w_is, ↓pm_cl1_2, ↓w_ifeq, ↓w_gf3, ↓w_iaload, ↓w_goto, ↓w_bipush, ↓w_istore_1, ↓w_iload_1, ↓w_sw_X5_readItem_30, ↓w_dup_i, ↓w_dup_r, ↓w_iconst, ↓w_iadd, ↓w_pf0, ↓w_iv, ↓pm_cl2_1, ↓pm_cl2_2, ↓w_pf2, ↓w_vret, r6, r7, r36, nI_add])
      | (with_reducible refine bX5_readItem_3 ?_; simp (disch := first | omega | decide) only [w_nl0, w_nli, w_nlr, ↓w_ts1, ↓w_ts0, w_rcv, w_rfv, w_cs, true_and, and_true, List.length_nil, List.length_cons, Nat.reduceAdd, Nat.reduceLeDiff, Nat.zero_le, Nat.reduceLT, ↓w_nil, ix_nI, nI_leP, nI_ltP, nI_eqP, nI_1, ↓i_inN, i_inN, l_le, l_lt, l_eq, r_le, r_lt, r_eq, sh31, ↓w_aload_0, ↓w_gf0, ↓w_is, ↓pm_cl1_2, ↓w_ifeq, ↓w_gf3, ↓w_iaload, ↓w_goto, ↓w_bipush, ↓w_istore_1, ↓w_iload_1, ↓w_sw_X5_readItem_30, ↓w_dup_i, ↓w_dup_r, ↓w_iconst, ↓w_iadd, ↓w_pf0, ↓w_iv, ↓pm_cl2_1, ↓pm_cl2_2, ↓w_pf2, ↓w_vret, r6, r7, r36, nI_add])
      | (with_reducible refine bX5_readItem_10 ?_; simp (disch := first | omega | decide) only [w_nl0, w_nli, w_nlr, ↓w_ts1, ↓w_ts0, w_rcv, w_rfv, w_cs, true_and, and_true, List.length_nil, List.length_cons, Nat.reduceAdd, Nat.reduceLeDiff, Nat.zero_le, Nat.reduceLT, ↓w_nil, ix_nI, nI_leP, nI_ltP, nI_eqP, nI_1, ↓i_inN, i_inN, l_le, l_lt, l_eq, r_le, r_lt, r_eq, sh31, ↓w_aload_0, ↓w_gf0, ↓w_is, ↓pm_cl1_2, ↓w_ifeq, ↓w_gf3, ↓w_iaload, ↓w_goto, ↓w_bipush, ↓w_istore_1, ↓w_iload_1, ↓w_sw_X5_readItem_30, ↓w_dup_i, ↓w_dup_r, ↓w_iconst, ↓w_iadd, ↓w_pf0, ↓w_iv, ↓pm_cl2_1, ↓pm_cl2_2, ↓w_pf2, ↓w_vret, r6, r7, r36, nI_add])
      | (with_reducible refine c_below (by omega) ?_ ; simp (disch := first | omega | decide) only [w_nl0, w_nli, w_nlr, ↓w_ts1, ↓w_ts0, w_rcv, w_rfv, w_cs, true_and, and_true, List.length_nil, List.length_cons, Nat.reduceAdd, Nat.reduceLeDiff, Nat.zero_le, Nat.reduceLT, ↓w_nil, ix_nI, nI_leP, nI_ltP, nI_eqP, nI_1, ↓i_inN, i_inN, l_le, l_lt, l_eq, r_le, r_lt, r_eq, sh31, ↓w_aload_0, ↓w_gf0, ↓w_is, ↓pm_cl1_2, ↓w_ifeq, ↓w_gf3, ↓w_iaload, ↓w_goto, ↓w_bipush, ↓w_istore_1, ↓w_iload_1, ↓w_sw_X5_readItem_30, ↓w_dup_i, ↓w_dup_r, ↓w_iconst, ↓w_iadd, ↓w_pf0, ↓w_iv, ↓pm_cl2_1, ↓pm_cl2_2, ↓w_pf2, ↓w_vret, r6, r7, r36, nI_add])
      | (simp only [w_in])
      | (intro _))
    all_goals grind
  · have hQ := hQ c0
    clear hB
    by_cases c1 : b i = 71
    · rw [if_pos c1] at hQ
      refine eX5_readItem (by omega) ?_
      repeat' (first
        | (apply And.intro)
        | (with_reducible refine bX5_readItem_0 ?_; simp (disch := first | omega | decide) only [w_nl0, w_nli, w_nlr, ↓w_ts1, ↓w_ts0, w_rcv, w_rfv, w_cs, true_and, and_true, List.length_nil, List.length_cons, Nat.reduceAdd, Nat.reduceLeDiff, Nat.zero_le, Nat.reduceLT, ↓w_nil, ix_nI, nI_leP, nI_ltP, nI_eqP, nI_1, ↓i_inN, i_inN, l_le, l_lt, l_eq, r_le, r_lt, r_eq, sh31, ↓w_aload_0, ↓w_gf0, ↓w_is, ↓pm_cl1_2, ↓w_ifeq, ↓w_gf3, ↓w_iaload, ↓w_goto, ↓w_bipush, ↓w_istore_1, ↓w_iload_1, ↓w_sw_X5_readItem_30, ↓w_dup_i, ↓w_dup_r, ↓w_iconst, ↓w_iadd, ↓w_pf0, ↓w_iv, ↓pm_cl2_1, ↓pm_cl2_2, ↓w_pf2, ↓w_vret, r6, r7, r36])
        | (with_reducible refine bX5_readItem_1 ?_; simp (disch := first | omega | decide) only [w_nl0, w_nli, w_nlr, ↓w_ts1, ↓w_ts0, w_rcv, w_rfv, w_cs, true_and, and_true, List.length_nil, List.length_cons, Nat.reduceAdd, Nat.reduceLeDiff, Nat.zero_le, Nat.reduceLT, ↓w_nil, ix_nI, nI_leP, nI_ltP, nI_eqP, nI_1, ↓i_inN, i_inN, l_le, l_lt, l_eq, r_le, r_lt, r_eq, sh31, ↓w_aload_0, ↓w_gf0, ↓w_is, ↓pm_cl1_2, ↓w_ifeq, ↓w_gf3, ↓w_iaload, ↓w_goto, ↓w_bipush, ↓w_istore_1, ↓w_iload_1, ↓w_sw_X5_readItem_30, ↓w_dup_i, ↓w_dup_r, ↓w_iconst, ↓w_iadd, ↓w_pf0, ↓w_iv, ↓pm_cl2_1, ↓pm_cl2_2, ↓w_pf2, ↓w_vret, r6, r7, r36])
        | (with_reducible refine bX5_readItem_2 ?_; simp (disch := first | omega | decide) only [w_nl0, w_nli, w_nlr, ↓w_ts1, ↓w_ts0, w_rcv, w_rfv, w_cs, true_and, and_true, List.length_nil, List.length_cons, Nat.reduceAdd, Nat.reduceLeDiff, Nat.zero_le, Nat.reduceLT, ↓w_nil, ix_nI, nI_leP, nI_ltP, nI_eqP, nI_1, ↓i_inN, i_inN, l_le, l_lt, l_eq, r_le, r_lt, r_eq, sh31, ↓w_aload_0, ↓w_gf0, ↓w_is, ↓pm_cl1_2, ↓w_ifeq, ↓w_gf3, ↓w_iaload, ↓w_goto, ↓w_bipush, ↓w_istore_1, ↓w_iload_1, ↓w_sw_X5_readItem_30, ↓w_dup_i, ↓w_dup_r, ↓w_iconst, ↓w_iadd, ↓w_pf0, ↓w_iv, ↓pm_cl2_1, ↓pm_cl2_2, ↓w_pf2, ↓w_vret, r6, r7, r36])
        | (with_reducible refine bX5_readItem_4 ?_; simp (disch := first | omega | decide) only [w_nl0, w_nli, w_nlr, ↓w_ts1, ↓w_ts0, w_rcv, w_rfv, w_cs, true_and, and_true, List.length_nil, List.length_cons, Nat.reduceAdd, Nat.reduceLeDiff, Nat.zero_le, Nat.reduceLT, ↓w_nil, ix_nI, nI_leP, nI_ltP, nI_eqP, nI_1, ↓i_inN, i_inN, l_le, l_lt, l_eq, r_le, r_lt, r_eq, sh31, ↓w_aload_0, ↓w_gf0, ↓w_is, ↓pm_cl1_2, ↓w_ifeq, ↓w_gf3, ↓w_iaload, ↓w_goto, ↓w_bipush, ↓w_istore_1, ↓w_iload_1, ↓w_sw_X5_readItem_30, ↓w_dup_i, ↓w_dup_r, ↓w_iconst, ↓w_iadd, ↓w_pf0, ↓w_iv, ↓pm_cl2_1, ↓pm_cl2_2, ↓w_pf2, ↓w_vret, r6, r7, r36])
        | (with_reducible refine bX5_readItem_10 ?_; simp (disch := first | omega | decide) only [w_nl0, w_nli, w_nlr, ↓w_ts1, ↓w_ts0, w_rcv, w_rfv, w_cs, true_and, and_true, List.length_nil, List.length_cons, Nat.reduceAdd, Nat.reduceLeDiff, Nat.zero_le, Nat.reduceLT, ↓w_nil, ix_nI, nI_leP, nI_ltP, nI_eqP, nI_1, ↓i_inN, i_inN, l_le, l_lt, l_eq, r_le, r_lt, r_eq, sh31, ↓w_aload_0, ↓w_gf0, ↓w_is, ↓pm_cl1_2, ↓w_ifeq, ↓w_gf3, ↓w_iaload, ↓w_goto, ↓w_bipush, ↓w_istore_1, ↓w_iload_1, ↓w_sw_X5_readItem_30, ↓w_dup_i, ↓w_dup_r, ↓w_iconst, ↓w_iadd, ↓w_pf0, ↓w_iv, ↓pm_cl2_1, ↓pm_cl2_2, ↓w_pf2, ↓w_vret, r6, r7, r36])
        | (with_reducible refine c_below (by omega) ?_ ; simp (disch := first | omega | decide) only [w_nl0, w_nli, w_nlr, ↓w_ts1, ↓w_ts0, w_rcv, w_rfv, w_cs, true_and, and_true, List.length_nil, List.length_cons, Nat.reduceAdd, Nat.reduceLeDiff, Nat.zero_le, Nat.reduceLT, ↓w_nil, ix_nI, nI_leP, nI_ltP, nI_eqP, nI_1, ↓i_inN, i_inN, l_le, l_lt, l_eq, r_le, r_lt, r_eq, sh31, ↓w_aload_0, ↓w_gf0, ↓w_is, ↓pm_cl1_2, ↓w_ifeq, ↓w_gf3, ↓w_iaload, ↓w_goto, ↓w_bipush, ↓w_istore_1, ↓w_iload_1, ↓w_sw_X5_readItem_30, ↓w_dup_i, ↓w_dup_r, ↓w_iconst, ↓w_iadd, ↓w_pf0, ↓w_iv, ↓pm_cl2_1, ↓pm_cl2_2, ↓w_pf2, ↓w_vret, r6, r7, r36])
        | (with_reducible refine c_readGrowth (by omega) hs hi h (fun I2 h2 => ?_) <;> simp (disch := first | omega | decide) only [w_nl0, w_nli, w_nlr, ↓w_ts1, ↓w_ts0, w_rcv, w_rfv, w_cs, true_and, and_true, List.length_nil, List.length_cons, Nat.reduceAdd, Nat.reduceLeDiff, Nat.zero_le, Nat.reduceLT, ↓w_nil, ix_nI, nI_leP, nI_ltP, nI_eqP, nI_1, ↓i_inN, i_inN, l_le, l_lt, l_eq, r_le, r_lt, r_eq, sh31, ↓w_aload_0, ↓w_gf0, ↓w_is, ↓pm_cl1_2, ↓w_ifeq, ↓w_gf3, ↓w_iaload, ↓w_goto, ↓w_bipush, ↓w_istore_1, ↓w_iload_1, ↓w_sw_X5_readItem_30, ↓w_dup_i, ↓w_dup_r, ↓w_iconst, ↓w_iadd, ↓w_pf0, ↓w_iv, ↓pm_cl2_1, ↓pm_cl2_2, ↓w_pf2, ↓w_vret, r6, r7, r36])
        | (simp only [w_in])
        | (intro _))
      all_goals first | (exact hQ _ (by assumption)) | (clear hQ h h1 h0; grind)
    · rw [if_neg c1] at hQ
      by_cases c2 : b i = 87
      · rw [if_pos c2] at hQ
        refine eX5_readItem (by omega) ?_
        repeat' (first
          | (apply And.intro)
          | (with_reducible refine bX5_readItem_0 ?_; simp (disch := first | omega | decide) only [w_nl0, w_nli, w_nlr, ↓w_ts1, ↓w_ts0, w_rcv, w_rfv, w_cs, true_and, and_true, List.length_nil, List.length_cons, Nat.reduceAdd, Nat.reduceLeDiff, Nat.zero_le, Nat.reduceLT, ↓w_nil, ix_nI, nI_leP, nI_ltP, nI_eqP, nI_1, ↓i_inN, i_inN, l_le, l_lt, l_eq, r_le, r_lt, r_eq, sh31, ↓w_aload_0, ↓w_gf0, ↓w_is, ↓pm_cl1_2, ↓w_ifeq, ↓w_gf3, ↓w_iaload, ↓w_goto, ↓w_bipush, ↓w_istore_1, ↓w_iload_1, ↓w_sw_X5_readItem_30, ↓w_dup_i, ↓w_dup_r, ↓w_iconst, ↓w_iadd, ↓w_pf0, ↓w_iv, ↓pm_cl2_1, ↓pm_cl2_2, ↓w_pf2, ↓w_vret, r6, r7, r36])
          | (with_reducible refine bX5_readItem_1 ?_; simp (disch := first | omega | decide) only [w_nl0, w_nli, w_nlr, ↓w_ts1, ↓w_ts0, w_rcv, w_rfv, w_cs, true_and, and_true, List.length_nil, List.length_cons, Nat.reduceAdd, Nat.reduceLeDiff, Nat.zero_le, Nat.reduceLT, ↓w_nil, ix_nI, nI_leP, nI_ltP, nI_eqP, nI_1, ↓i_inN, i_inN, l_le, l_lt, l_eq, r_le, r_lt, r_eq, sh31, ↓w_aload_0, ↓w_gf0, ↓w_is, ↓pm_cl1_2, ↓w_ifeq, ↓w_gf3, ↓w_iaload, ↓w_goto, ↓w_bipush, ↓w_istore_1, ↓w_iload_1, ↓w_sw_X5_readItem_30, ↓w_dup_i, ↓w_dup_r, ↓w_iconst, ↓w_iadd, ↓w_pf0, ↓w_iv, ↓pm_cl2_1, ↓pm_cl2_2, ↓w_pf2, ↓w_vret, r6, r7, r36])
          | (with_reducible refine bX5_readItem_2 ?_; simp (disch := first | omega | decide) only [w_nl0, w_nli, w_nlr, ↓w_ts1, ↓w_ts0, w_rcv, w_rfv, w_cs, true_and, and_true, List.length_nil, List.length_cons, Nat.reduceAdd, Nat.reduceLeDiff, Nat.zero_le, Nat.reduceLT, ↓w_nil, ix_nI, nI_leP, nI_ltP, nI_eqP, nI_1, ↓i_inN, i_inN, l_le, l_lt, l_eq, r_le, r_lt, r_eq, sh31, ↓w_aload_0, ↓w_gf0, ↓w_is, ↓pm_cl1_2, ↓w_ifeq, ↓w_gf3, ↓w_iaload, ↓w_goto, ↓w_bipush, ↓w_istore_1, ↓w_iload_1, ↓w_sw_X5_readItem_30, ↓w_dup_i, ↓w_dup_r, ↓w_iconst, ↓w_iadd, ↓w_pf0, ↓w_iv, ↓pm_cl2_1, ↓pm_cl2_2, ↓w_pf2, ↓w_vret, r6, r7, r36])
          | (with_reducible refine bX5_readItem_5 ?_; simp (disch := first | omega | decide) only [w_nl0, w_nli, w_nlr, ↓w_ts1, ↓w_ts0, w_rcv, w_rfv, w_cs, true_and, and_true, List.length_nil, List.length_cons, Nat.reduceAdd, Nat.reduceLeDiff, Nat.zero_le, Nat.reduceLT, ↓w_nil, ix_nI, nI_leP, nI_ltP, nI_eqP, nI_1, ↓i_inN, i_inN, l_le, l_lt, l_eq, r_le, r_lt, r_eq, sh31, ↓w_aload_0, ↓w_gf0, ↓w_is, ↓pm_cl1_2, ↓w_ifeq, ↓w_gf3, ↓w_iaload, ↓w_goto, ↓w_bipush, ↓w_istore_1, ↓w_iload_1, ↓w_sw_X5_readItem_30, ↓w_dup_i, ↓w_dup_r, ↓w_iconst, ↓w_iadd, ↓w_pf0, ↓w_iv, ↓pm_cl2_1, ↓pm_cl2_2, ↓w_pf2, ↓w_vret, r6, r7, r36])
          | (with_reducible refine bX5_readItem_10 ?_; simp (disch := first | omega | decide) only [w_nl0, w_nli, w_nlr, ↓w_ts1, ↓w_ts0, w_rcv, w_rfv, w_cs, true_and, and_true, List.length_nil, List.length_cons, Nat.reduceAdd, Nat.reduceLeDiff, Nat.zero_le, Nat.reduceLT, ↓w_nil, ix_nI, nI_leP, nI_ltP, nI_eqP, nI_1, ↓i_inN, i_inN, l_le, l_lt, l_eq, r_le, r_lt, r_eq, sh31, ↓w_aload_0, ↓w_gf0, ↓w_is, ↓pm_cl1_2, ↓w_ifeq, ↓w_gf3, ↓w_iaload, ↓w_goto, ↓w_bipush, ↓w_istore_1, ↓w_iload_1, ↓w_sw_X5_readItem_30, ↓w_dup_i, ↓w_dup_r, ↓w_iconst, ↓w_iadd, ↓w_pf0, ↓w_iv, ↓pm_cl2_1, ↓pm_cl2_2, ↓w_pf2, ↓w_vret, r6, r7, r36])
          | (with_reducible refine c_below (by omega) ?_ ; simp (disch := first | omega | decide) only [w_nl0, w_nli, w_nlr, ↓w_ts1, ↓w_ts0, w_rcv, w_rfv, w_cs, true_and, and_true, List.length_nil, List.length_cons, Nat.reduceAdd, Nat.reduceLeDiff, Nat.zero_le, Nat.reduceLT, ↓w_nil, ix_nI, nI_leP, nI_ltP, nI_eqP, nI_1, ↓i_inN, i_inN, l_le, l_lt, l_eq, r_le, r_lt, r_eq, sh31, ↓w_aload_0, ↓w_gf0, ↓w_is, ↓pm_cl1_2, ↓w_ifeq, ↓w_gf3, ↓w_iaload, ↓w_goto, ↓w_bipush, ↓w_istore_1, ↓w_iload_1, ↓w_sw_X5_readItem_30, ↓w_dup_i, ↓w_dup_r, ↓w_iconst, ↓w_iadd, ↓w_pf0, ↓w_iv, ↓pm_cl2_1, ↓pm_cl2_2, ↓w_pf2, ↓w_vret, r6, r7, r36])
          | (with_reducible refine c_readWear (by omega) hs hi h (fun I2 h2 => ?_) <;> simp (disch := first | omega | decide) only [w_nl0, w_nli, w_nlr, ↓w_ts1, ↓w_ts0, w_rcv, w_rfv, w_cs, true_and, and_true, List.length_nil, List.length_cons, Nat.reduceAdd, Nat.reduceLeDiff, Nat.zero_le, Nat.reduceLT, ↓w_nil, ix_nI, nI_leP, nI_ltP, nI_eqP, nI_1, ↓i_inN, i_inN, l_le, l_lt, l_eq, r_le, r_lt, r_eq, sh31, ↓w_aload_0, ↓w_gf0, ↓w_is, ↓pm_cl1_2, ↓w_ifeq, ↓w_gf3, ↓w_iaload, ↓w_goto, ↓w_bipush, ↓w_istore_1, ↓w_iload_1, ↓w_sw_X5_readItem_30, ↓w_dup_i, ↓w_dup_r, ↓w_iconst, ↓w_iadd, ↓w_pf0, ↓w_iv, ↓pm_cl2_1, ↓pm_cl2_2, ↓w_pf2, ↓w_vret, r6, r7, r36])
          | (simp only [w_in])
          | (intro _))
        all_goals first | (exact hQ _ (by assumption)) | (clear hQ h h1 h0; grind)
      · rw [if_neg c2] at hQ
        by_cases c3 : b i = 80
        · rw [if_pos c3] at hQ
          refine eX5_readItem (by omega) ?_
          repeat' (first
            | (apply And.intro)
            | (with_reducible refine bX5_readItem_0 ?_; simp (disch := first | omega | decide) only [w_nl0, w_nli, w_nlr, ↓w_ts1, ↓w_ts0, w_rcv, w_rfv, w_cs, true_and, and_true, List.length_nil, List.length_cons, Nat.reduceAdd, Nat.reduceLeDiff, Nat.zero_le, Nat.reduceLT, ↓w_nil, ix_nI, nI_leP, nI_ltP, nI_eqP, nI_1, ↓i_inN, i_inN, l_le, l_lt, l_eq, r_le, r_lt, r_eq, sh31, ↓w_aload_0, ↓w_gf0, ↓w_is, ↓pm_cl1_2, ↓w_ifeq, ↓w_gf3, ↓w_iaload, ↓w_goto, ↓w_bipush, ↓w_istore_1, ↓w_iload_1, ↓w_sw_X5_readItem_30, ↓w_dup_i, ↓w_dup_r, ↓w_iconst, ↓w_iadd, ↓w_pf0, ↓w_iv, ↓pm_cl2_1, ↓pm_cl2_2, ↓w_pf2, ↓w_vret, r6, r7, r36])
            | (with_reducible refine bX5_readItem_1 ?_; simp (disch := first | omega | decide) only [w_nl0, w_nli, w_nlr, ↓w_ts1, ↓w_ts0, w_rcv, w_rfv, w_cs, true_and, and_true, List.length_nil, List.length_cons, Nat.reduceAdd, Nat.reduceLeDiff, Nat.zero_le, Nat.reduceLT, ↓w_nil, ix_nI, nI_leP, nI_ltP, nI_eqP, nI_1, ↓i_inN, i_inN, l_le, l_lt, l_eq, r_le, r_lt, r_eq, sh31, ↓w_aload_0, ↓w_gf0, ↓w_is, ↓pm_cl1_2, ↓w_ifeq, ↓w_gf3, ↓w_iaload, ↓w_goto, ↓w_bipush, ↓w_istore_1, ↓w_iload_1, ↓w_sw_X5_readItem_30, ↓w_dup_i, ↓w_dup_r, ↓w_iconst, ↓w_iadd, ↓w_pf0, ↓w_iv, ↓pm_cl2_1, ↓pm_cl2_2, ↓w_pf2, ↓w_vret, r6, r7, r36])
            | (with_reducible refine bX5_readItem_2 ?_; simp (disch := first | omega | decide) only [w_nl0, w_nli, w_nlr, ↓w_ts1, ↓w_ts0, w_rcv, w_rfv, w_cs, true_and, and_true, List.length_nil, List.length_cons, Nat.reduceAdd, Nat.reduceLeDiff, Nat.zero_le, Nat.reduceLT, ↓w_nil, ix_nI, nI_leP, nI_ltP, nI_eqP, nI_1, ↓i_inN, i_inN, l_le, l_lt, l_eq, r_le, r_lt, r_eq, sh31, ↓w_aload_0, ↓w_gf0, ↓w_is, ↓pm_cl1_2, ↓w_ifeq, ↓w_gf3, ↓w_iaload, ↓w_goto, ↓w_bipush, ↓w_istore_1, ↓w_iload_1, ↓w_sw_X5_readItem_30, ↓w_dup_i, ↓w_dup_r, ↓w_iconst, ↓w_iadd, ↓w_pf0, ↓w_iv, ↓pm_cl2_1, ↓pm_cl2_2, ↓w_pf2, ↓w_vret, r6, r7, r36])
            | (with_reducible refine bX5_readItem_6 ?_; simp (disch := first | omega | decide) only [w_nl0, w_nli, w_nlr, ↓w_ts1, ↓w_ts0, w_rcv, w_rfv, w_cs, true_and, and_true, List.length_nil, List.length_cons, Nat.reduceAdd, Nat.reduceLeDiff, Nat.zero_le, Nat.reduceLT, ↓w_nil, ix_nI, nI_leP, nI_ltP, nI_eqP, nI_1, ↓i_inN, i_inN, l_le, l_lt, l_eq, r_le, r_lt, r_eq, sh31, ↓w_aload_0, ↓w_gf0, ↓w_is, ↓pm_cl1_2, ↓w_ifeq, ↓w_gf3, ↓w_iaload, ↓w_goto, ↓w_bipush, ↓w_istore_1, ↓w_iload_1, ↓w_sw_X5_readItem_30, ↓w_dup_i, ↓w_dup_r, ↓w_iconst, ↓w_iadd, ↓w_pf0, ↓w_iv, ↓pm_cl2_1, ↓pm_cl2_2, ↓w_pf2, ↓w_vret, r6, r7, r36])
            | (with_reducible refine bX5_readItem_10 ?_; simp (disch := first | omega | decide) only [w_nl0, w_nli, w_nlr, ↓w_ts1, ↓w_ts0, w_rcv, w_rfv, w_cs, true_and, and_true, List.length_nil, List.length_cons, Nat.reduceAdd, Nat.reduceLeDiff, Nat.zero_le, Nat.reduceLT, ↓w_nil, ix_nI, nI_leP, nI_ltP, nI_eqP, nI_1, ↓i_inN, i_inN, l_le, l_lt, l_eq, r_le, r_lt, r_eq, sh31, ↓w_aload_0, ↓w_gf0, ↓w_is, ↓pm_cl1_2, ↓w_ifeq, ↓w_gf3, ↓w_iaload, ↓w_goto, ↓w_bipush, ↓w_istore_1, ↓w_iload_1, ↓w_sw_X5_readItem_30, ↓w_dup_i, ↓w_dup_r, ↓w_iconst, ↓w_iadd, ↓w_pf0, ↓w_iv, ↓pm_cl2_1, ↓pm_cl2_2, ↓w_pf2, ↓w_vret, r6, r7, r36])
            | (with_reducible refine c_below (by omega) ?_ ; simp (disch := first | omega | decide) only [w_nl0, w_nli, w_nlr, ↓w_ts1, ↓w_ts0, w_rcv, w_rfv, w_cs, true_and, and_true, List.length_nil, List.length_cons, Nat.reduceAdd, Nat.reduceLeDiff, Nat.zero_le, Nat.reduceLT, ↓w_nil, ix_nI, nI_leP, nI_ltP, nI_eqP, nI_1, ↓i_inN, i_inN, l_le, l_lt, l_eq, r_le, r_lt, r_eq, sh31, ↓w_aload_0, ↓w_gf0, ↓w_is, ↓pm_cl1_2, ↓w_ifeq, ↓w_gf3, ↓w_iaload, ↓w_goto, ↓w_bipush, ↓w_istore_1, ↓w_iload_1, ↓w_sw_X5_readItem_30, ↓w_dup_i, ↓w_dup_r, ↓w_iconst, ↓w_iadd, ↓w_pf0, ↓w_iv, ↓pm_cl2_1, ↓pm_cl2_2, ↓w_pf2, ↓w_vret, r6, r7, r36])
            | (with_reducible refine c_readPence (by omega) hs hi h (fun I2 h2 => ?_) <;> simp (disch := first | omega | decide) only [w_nl0, w_nli, w_nlr, ↓w_ts1, ↓w_ts0, w_rcv, w_rfv, w_cs, true_and, and_true, List.length_nil, List.length_cons, Nat.reduceAdd, Nat.reduceLeDiff, Nat.zero_le, Nat.reduceLT, ↓w_nil, ix_nI, nI_leP, nI_ltP, nI_eqP, nI_1, ↓i_inN, i_inN, l_le, l_lt, l_eq, r_le, r_lt, r_eq, sh31, ↓w_aload_0, ↓w_gf0, ↓w_is, ↓pm_cl1_2, ↓w_ifeq, ↓w_gf3, ↓w_iaload, ↓w_goto, ↓w_bipush, ↓w_istore_1, ↓w_iload_1, ↓w_sw_X5_readItem_30, ↓w_dup_i, ↓w_dup_r, ↓w_iconst, ↓w_iadd, ↓w_pf0, ↓w_iv, ↓pm_cl2_1, ↓pm_cl2_2, ↓w_pf2, ↓w_vret, r6, r7, r36])
            | (simp only [w_in])
            | (intro _))
          all_goals first | (exact hQ _ (by assumption)) | (clear hQ h h1 h0; grind)
        · rw [if_neg c3] at hQ
          by_cases c4 : b i = 78
          · rw [if_pos c4] at hQ
            refine eX5_readItem (by omega) ?_
            repeat' (first
              | (apply And.intro)
              | (with_reducible refine bX5_readItem_0 ?_; simp (disch := first | omega | decide) only [w_nl0, w_nli, w_nlr, ↓w_ts1, ↓w_ts0, w_rcv, w_rfv, w_cs, true_and, and_true, List.length_nil, List.length_cons, Nat.reduceAdd, Nat.reduceLeDiff, Nat.zero_le, Nat.reduceLT, ↓w_nil, ix_nI, nI_leP, nI_ltP, nI_eqP, nI_1, ↓i_inN, i_inN, l_le, l_lt, l_eq, r_le, r_lt, r_eq, sh31, ↓w_aload_0, ↓w_gf0, ↓w_is, ↓pm_cl1_2, ↓w_ifeq, ↓w_gf3, ↓w_iaload, ↓w_goto, ↓w_bipush, ↓w_istore_1, ↓w_iload_1, ↓w_sw_X5_readItem_30, ↓w_dup_i, ↓w_dup_r, ↓w_iconst, ↓w_iadd, ↓w_pf0, ↓w_iv, ↓pm_cl2_1, ↓pm_cl2_2, ↓w_pf2, ↓w_vret, r6, r7, r36])
              | (with_reducible refine bX5_readItem_1 ?_; simp (disch := first | omega | decide) only [w_nl0, w_nli, w_nlr, ↓w_ts1, ↓w_ts0, w_rcv, w_rfv, w_cs, true_and, and_true, List.length_nil, List.length_cons, Nat.reduceAdd, Nat.reduceLeDiff, Nat.zero_le, Nat.reduceLT, ↓w_nil, ix_nI, nI_leP, nI_ltP, nI_eqP, nI_1, ↓i_inN, i_inN, l_le, l_lt, l_eq, r_le, r_lt, r_eq, sh31, ↓w_aload_0, ↓w_gf0, ↓w_is, ↓pm_cl1_2, ↓w_ifeq, ↓w_gf3, ↓w_iaload, ↓w_goto, ↓w_bipush, ↓w_istore_1, ↓w_iload_1, ↓w_sw_X5_readItem_30, ↓w_dup_i, ↓w_dup_r, ↓w_iconst, ↓w_iadd, ↓w_pf0, ↓w_iv, ↓pm_cl2_1, ↓pm_cl2_2, ↓w_pf2, ↓w_vret, r6, r7, r36])
              | (with_reducible refine bX5_readItem_2 ?_; simp (disch := first | omega | decide) only [w_nl0, w_nli, w_nlr, ↓w_ts1, ↓w_ts0, w_rcv, w_rfv, w_cs, true_and, and_true, List.length_nil, List.length_cons, Nat.reduceAdd, Nat.reduceLeDiff, Nat.zero_le, Nat.reduceLT, ↓w_nil, ix_nI, nI_leP, nI_ltP, nI_eqP, nI_1, ↓i_inN, i_inN, l_le, l_lt, l_eq, r_le, r_lt, r_eq, sh31, ↓w_aload_0, ↓w_gf0, ↓w_is, ↓pm_cl1_2, ↓w_ifeq, ↓w_gf3, ↓w_iaload, ↓w_goto, ↓w_bipush, ↓w_istore_1, ↓w_iload_1, ↓w_sw_X5_readItem_30, ↓w_dup_i, ↓w_dup_r, ↓w_iconst, ↓w_iadd, ↓w_pf0, ↓w_iv, ↓pm_cl2_1, ↓pm_cl2_2, ↓w_pf2, ↓w_vret, r6, r7, r36])
              | (with_reducible refine bX5_readItem_7 ?_; simp (disch := first | omega | decide) only [w_nl0, w_nli, w_nlr, ↓w_ts1, ↓w_ts0, w_rcv, w_rfv, w_cs, true_and, and_true, List.length_nil, List.length_cons, Nat.reduceAdd, Nat.reduceLeDiff, Nat.zero_le, Nat.reduceLT, ↓w_nil, ix_nI, nI_leP, nI_ltP, nI_eqP, nI_1, ↓i_inN, i_inN, l_le, l_lt, l_eq, r_le, r_lt, r_eq, sh31, ↓w_aload_0, ↓w_gf0, ↓w_is, ↓pm_cl1_2, ↓w_ifeq, ↓w_gf3, ↓w_iaload, ↓w_goto, ↓w_bipush, ↓w_istore_1, ↓w_iload_1, ↓w_sw_X5_readItem_30, ↓w_dup_i, ↓w_dup_r, ↓w_iconst, ↓w_iadd, ↓w_pf0, ↓w_iv, ↓pm_cl2_1, ↓pm_cl2_2, ↓w_pf2, ↓w_vret, r6, r7, r36])
              | (with_reducible refine bX5_readItem_10 ?_; simp (disch := first | omega | decide) only [w_nl0, w_nli, w_nlr, ↓w_ts1, ↓w_ts0, w_rcv, w_rfv, w_cs, true_and, and_true, List.length_nil, List.length_cons, Nat.reduceAdd, Nat.reduceLeDiff, Nat.zero_le, Nat.reduceLT, ↓w_nil, ix_nI, nI_leP, nI_ltP, nI_eqP, nI_1, ↓i_inN, i_inN, l_le, l_lt, l_eq, r_le, r_lt, r_eq, sh31, ↓w_aload_0, ↓w_gf0, ↓w_is, ↓pm_cl1_2, ↓w_ifeq, ↓w_gf3, ↓w_iaload, ↓w_goto, ↓w_bipush, ↓w_istore_1, ↓w_iload_1, ↓w_sw_X5_readItem_30, ↓w_dup_i, ↓w_dup_r, ↓w_iconst, ↓w_iadd, ↓w_pf0, ↓w_iv, ↓pm_cl2_1, ↓pm_cl2_2, ↓w_pf2, ↓w_vret, r6, r7, r36])
              | (with_reducible refine c_below (by omega) ?_ ; simp (disch := first | omega | decide) only [w_nl0, w_nli, w_nlr, ↓w_ts1, ↓w_ts0, w_rcv, w_rfv, w_cs, true_and, and_true, List.length_nil, List.length_cons, Nat.reduceAdd, Nat.reduceLeDiff, Nat.zero_le, Nat.reduceLT, ↓w_nil, ix_nI, nI_leP, nI_ltP, nI_eqP, nI_1, ↓i_inN, i_inN, l_le, l_lt, l_eq, r_le, r_lt, r_eq, sh31, ↓w_aload_0, ↓w_gf0, ↓w_is, ↓pm_cl1_2, ↓w_ifeq, ↓w_gf3, ↓w_iaload, ↓w_goto, ↓w_bipush, ↓w_istore_1, ↓w_iload_1, ↓w_sw_X5_readItem_30, ↓w_dup_i, ↓w_dup_r, ↓w_iconst, ↓w_iadd, ↓w_pf0, ↓w_iv, ↓pm_cl2_1, ↓pm_cl2_2, ↓w_pf2, ↓w_vret, r6, r7, r36])
              | (with_reducible refine c_readLand (by omega) hs hi h (fun I2 h2 => ?_) <;> simp (disch := first | omega | decide) only [w_nl0, w_nli, w_nlr, ↓w_ts1, ↓w_ts0, w_rcv, w_rfv, w_cs, true_and, and_true, List.length_nil, List.length_cons, Nat.reduceAdd, Nat.reduceLeDiff, Nat.zero_le, Nat.reduceLT, ↓w_nil, ix_nI, nI_leP, nI_ltP, nI_eqP, nI_1, ↓i_inN, i_inN, l_le, l_lt, l_eq, r_le, r_lt, r_eq, sh31, ↓w_aload_0, ↓w_gf0, ↓w_is, ↓pm_cl1_2, ↓w_ifeq, ↓w_gf3, ↓w_iaload, ↓w_goto, ↓w_bipush, ↓w_istore_1, ↓w_iload_1, ↓w_sw_X5_readItem_30, ↓w_dup_i, ↓w_dup_r, ↓w_iconst, ↓w_iadd, ↓w_pf0, ↓w_iv, ↓pm_cl2_1, ↓pm_cl2_2, ↓w_pf2, ↓w_vret, r6, r7, r36])
              | (simp only [w_in])
              | (intro _))
            all_goals first | (exact hQ _ (by assumption)) | (clear hQ h h1 h0; grind)
          · rw [if_neg c4] at hQ
            by_cases c5 : b i = 89
            · rw [if_pos c5] at hQ
              refine eX5_readItem (by omega) ?_
              repeat' (first
                | (apply And.intro)
                | (with_reducible refine bX5_readItem_0 ?_; simp (disch := first | omega | decide) only [w_nl0, w_nli, w_nlr, ↓w_ts1, ↓w_ts0, w_rcv, w_rfv, w_cs, true_and, and_true, List.length_nil, List.length_cons, Nat.reduceAdd, Nat.reduceLeDiff, Nat.zero_le, Nat.reduceLT, ↓w_nil, ix_nI, nI_leP, nI_ltP, nI_eqP, nI_1, ↓i_inN, i_inN, l_le, l_lt, l_eq, r_le, r_lt, r_eq, sh31, ↓w_aload_0, ↓w_gf0, ↓w_is, ↓pm_cl1_2, ↓w_ifeq, ↓w_gf3, ↓w_iaload, ↓w_goto, ↓w_bipush, ↓w_istore_1, ↓w_iload_1, ↓w_sw_X5_readItem_30, ↓w_dup_i, ↓w_dup_r, ↓w_iconst, ↓w_iadd, ↓w_pf0, ↓w_iv, ↓pm_cl2_1, ↓pm_cl2_2, ↓w_pf2, ↓w_vret, r6, r7, r36])
                | (with_reducible refine bX5_readItem_1 ?_; simp (disch := first | omega | decide) only [w_nl0, w_nli, w_nlr, ↓w_ts1, ↓w_ts0, w_rcv, w_rfv, w_cs, true_and, and_true, List.length_nil, List.length_cons, Nat.reduceAdd, Nat.reduceLeDiff, Nat.zero_le, Nat.reduceLT, ↓w_nil, ix_nI, nI_leP, nI_ltP, nI_eqP, nI_1, ↓i_inN, i_inN, l_le, l_lt, l_eq, r_le, r_lt, r_eq, sh31, ↓w_aload_0, ↓w_gf0, ↓w_is, ↓pm_cl1_2, ↓w_ifeq, ↓w_gf3, ↓w_iaload, ↓w_goto, ↓w_bipush, ↓w_istore_1, ↓w_iload_1, ↓w_sw_X5_readItem_30, ↓w_dup_i, ↓w_dup_r, ↓w_iconst, ↓w_iadd, ↓w_pf0, ↓w_iv, ↓pm_cl2_1, ↓pm_cl2_2, ↓w_pf2, ↓w_vret, r6, r7, r36])
                | (with_reducible refine bX5_readItem_2 ?_; simp (disch := first | omega | decide) only [w_nl0, w_nli, w_nlr, ↓w_ts1, ↓w_ts0, w_rcv, w_rfv, w_cs, true_and, and_true, List.length_nil, List.length_cons, Nat.reduceAdd, Nat.reduceLeDiff, Nat.zero_le, Nat.reduceLT, ↓w_nil, ix_nI, nI_leP, nI_ltP, nI_eqP, nI_1, ↓i_inN, i_inN, l_le, l_lt, l_eq, r_le, r_lt, r_eq, sh31, ↓w_aload_0, ↓w_gf0, ↓w_is, ↓pm_cl1_2, ↓w_ifeq, ↓w_gf3, ↓w_iaload, ↓w_goto, ↓w_bipush, ↓w_istore_1, ↓w_iload_1, ↓w_sw_X5_readItem_30, ↓w_dup_i, ↓w_dup_r, ↓w_iconst, ↓w_iadd, ↓w_pf0, ↓w_iv, ↓pm_cl2_1, ↓pm_cl2_2, ↓w_pf2, ↓w_vret, r6, r7, r36])
                | (with_reducible refine bX5_readItem_8 ?_; simp (disch := first | omega | decide) only [w_nl0, w_nli, w_nlr, ↓w_ts1, ↓w_ts0, w_rcv, w_rfv, w_cs, true_and, and_true, List.length_nil, List.length_cons, Nat.reduceAdd, Nat.reduceLeDiff, Nat.zero_le, Nat.reduceLT, ↓w_nil, ix_nI, nI_leP, nI_ltP, nI_eqP, nI_1, ↓i_inN, i_inN, l_le, l_lt, l_eq, r_le, r_lt, r_eq, sh31, ↓w_aload_0, ↓w_gf0, ↓w_is, ↓pm_cl1_2, ↓w_ifeq, ↓w_gf3, ↓w_iaload, ↓w_goto, ↓w_bipush, ↓w_istore_1, ↓w_iload_1, ↓w_sw_X5_readItem_30, ↓w_dup_i, ↓w_dup_r, ↓w_iconst, ↓w_iadd, ↓w_pf0, ↓w_iv, ↓pm_cl2_1, ↓pm_cl2_2, ↓w_pf2, ↓w_vret, r6, r7, r36])
                | (with_reducible refine bX5_readItem_10 ?_; simp (disch := first | omega | decide) only [w_nl0, w_nli, w_nlr, ↓w_ts1, ↓w_ts0, w_rcv, w_rfv, w_cs, true_and, and_true, List.length_nil, List.length_cons, Nat.reduceAdd, Nat.reduceLeDiff, Nat.zero_le, Nat.reduceLT, ↓w_nil, ix_nI, nI_leP, nI_ltP, nI_eqP, nI_1, ↓i_inN, i_inN, l_le, l_lt, l_eq, r_le, r_lt, r_eq, sh31, ↓w_aload_0, ↓w_gf0, ↓w_is, ↓pm_cl1_2, ↓w_ifeq, ↓w_gf3, ↓w_iaload, ↓w_goto, ↓w_bipush, ↓w_istore_1, ↓w_iload_1, ↓w_sw_X5_readItem_30, ↓w_dup_i, ↓w_dup_r, ↓w_iconst, ↓w_iadd, ↓w_pf0, ↓w_iv, ↓pm_cl2_1, ↓pm_cl2_2, ↓w_pf2, ↓w_vret, r6, r7, r36])
                | (with_reducible refine c_below (by omega) ?_ ; simp (disch := first | omega | decide) only [w_nl0, w_nli, w_nlr, ↓w_ts1, ↓w_ts0, w_rcv, w_rfv, w_cs, true_and, and_true, List.length_nil, List.length_cons, Nat.reduceAdd, Nat.reduceLeDiff, Nat.zero_le, Nat.reduceLT, ↓w_nil, ix_nI, nI_leP, nI_ltP, nI_eqP, nI_1, ↓i_inN, i_inN, l_le, l_lt, l_eq, r_le, r_lt, r_eq, sh31, ↓w_aload_0, ↓w_gf0, ↓w_is, ↓pm_cl1_2, ↓w_ifeq, ↓w_gf3, ↓w_iaload, ↓w_goto, ↓w_bipush, ↓w_istore_1, ↓w_iload_1, ↓w_sw_X5_readItem_30, ↓w_dup_i, ↓w_dup_r, ↓w_iconst, ↓w_iadd, ↓w_pf0, ↓w_iv, ↓pm_cl2_1, ↓pm_cl2_2, ↓w_pf2, ↓w_vret, r6, r7, r36])
                | (with_reducible refine c_readLand (by omega) hs hi h (fun I2 h2 => ?_) <;> simp (disch := first | omega | decide) only [w_nl0, w_nli, w_nlr, ↓w_ts1, ↓w_ts0, w_rcv, w_rfv, w_cs, true_and, and_true, List.length_nil, List.length_cons, Nat.reduceAdd, Nat.reduceLeDiff, Nat.zero_le, Nat.reduceLT, ↓w_nil, ix_nI, nI_leP, nI_ltP, nI_eqP, nI_1, ↓i_inN, i_inN, l_le, l_lt, l_eq, r_le, r_lt, r_eq, sh31, ↓w_aload_0, ↓w_gf0, ↓w_is, ↓pm_cl1_2, ↓w_ifeq, ↓w_gf3, ↓w_iaload, ↓w_goto, ↓w_bipush, ↓w_istore_1, ↓w_iload_1, ↓w_sw_X5_readItem_30, ↓w_dup_i, ↓w_dup_r, ↓w_iconst, ↓w_iadd, ↓w_pf0, ↓w_iv, ↓pm_cl2_1, ↓pm_cl2_2, ↓w_pf2, ↓w_vret, r6, r7, r36])
                | (simp only [w_in])
                | (intro _))
              all_goals first | (exact hQ _ (by assumption)) | (clear hQ h h1 h0; grind)
            · rw [if_neg c5] at hQ
              have hQ2 := hQ (pm_up I' 31 8 0) h0
              clear hQ h h1 h0
              refine eX5_readItem (by omega) ?_
              repeat' (first
                | (apply And.intro)
                | (with_reducible refine bX5_readItem_0 ?_; simp (disch := first | omega | decide) only [w_nl0, w_nli, w_nlr, ↓w_ts1, ↓w_ts0, w_rcv, w_rfv, w_cs, true_and, and_true, List.length_nil, List.length_cons, Nat.reduceAdd, Nat.reduceLeDiff, Nat.zero_le, Nat.reduceLT, ↓w_nil, ix_nI, nI_leP, nI_ltP, nI_eqP, nI_1, ↓i_inN, i_inN, l_le, l_lt, l_eq, r_le, r_lt, r_eq, sh31, ↓w_aload_0, ↓w_gf0, ↓w_is, ↓pm_cl1_2, ↓w_ifeq, ↓w_gf3, ↓w_iaload, ↓w_goto, ↓w_bipush, ↓w_istore_1, ↓w_iload_1, ↓w_sw_X5_readItem_30, ↓w_dup_i, ↓w_dup_r, ↓w_iconst, ↓w_iadd, ↓w_pf0, ↓w_iv, ↓pm_cl2_1, ↓pm_cl2_2, ↓w_pf2, ↓w_vret, r6, r7, r36])
                | (with_reducible refine bX5_readItem_1 ?_; simp (disch := first | omega | decide) only [w_nl0, w_nli, w_nlr, ↓w_ts1, ↓w_ts0, w_rcv, w_rfv, w_cs, true_and, and_true, List.length_nil, List.length_cons, Nat.reduceAdd, Nat.reduceLeDiff, Nat.zero_le, Nat.reduceLT, ↓w_nil, ix_nI, nI_leP, nI_ltP, nI_eqP, nI_1, ↓i_inN, i_inN, l_le, l_lt, l_eq, r_le, r_lt, r_eq, sh31, ↓w_aload_0, ↓w_gf0, ↓w_is, ↓pm_cl1_2, ↓w_ifeq, ↓w_gf3, ↓w_iaload, ↓w_goto, ↓w_bipush, ↓w_istore_1, ↓w_iload_1, ↓w_sw_X5_readItem_30, ↓w_dup_i, ↓w_dup_r, ↓w_iconst, ↓w_iadd, ↓w_pf0, ↓w_iv, ↓pm_cl2_1, ↓pm_cl2_2, ↓w_pf2, ↓w_vret, r6, r7, r36])
                | (with_reducible refine bX5_readItem_2 ?_; simp (disch := first | omega | decide) only [w_nl0, w_nli, w_nlr, ↓w_ts1, ↓w_ts0, w_rcv, w_rfv, w_cs, true_and, and_true, List.length_nil, List.length_cons, Nat.reduceAdd, Nat.reduceLeDiff, Nat.zero_le, Nat.reduceLT, ↓w_nil, ix_nI, nI_leP, nI_ltP, nI_eqP, nI_1, ↓i_inN, i_inN, l_le, l_lt, l_eq, r_le, r_lt, r_eq, sh31, ↓w_aload_0, ↓w_gf0, ↓w_is, ↓pm_cl1_2, ↓w_ifeq, ↓w_gf3, ↓w_iaload, ↓w_goto, ↓w_bipush, ↓w_istore_1, ↓w_iload_1, ↓w_sw_X5_readItem_30, ↓w_dup_i, ↓w_dup_r, ↓w_iconst, ↓w_iadd, ↓w_pf0, ↓w_iv, ↓pm_cl2_1, ↓pm_cl2_2, ↓w_pf2, ↓w_vret, r6, r7, r36])
                | (with_reducible refine bX5_readItem_9 ?_; simp (disch := first | omega | decide) only [w_nl0, w_nli, w_nlr, ↓w_ts1, ↓w_ts0, w_rcv, w_rfv, w_cs, true_and, and_true, List.length_nil, List.length_cons, Nat.reduceAdd, Nat.reduceLeDiff, Nat.zero_le, Nat.reduceLT, ↓w_nil, ix_nI, nI_leP, nI_ltP, nI_eqP, nI_1, ↓i_inN, i_inN, l_le, l_lt, l_eq, r_le, r_lt, r_eq, sh31, ↓w_aload_0, ↓w_gf0, ↓w_is, ↓pm_cl1_2, ↓w_ifeq, ↓w_gf3, ↓w_iaload, ↓w_goto, ↓w_bipush, ↓w_istore_1, ↓w_iload_1, ↓w_sw_X5_readItem_30, ↓w_dup_i, ↓w_dup_r, ↓w_iconst, ↓w_iadd, ↓w_pf0, ↓w_iv, ↓pm_cl2_1, ↓pm_cl2_2, ↓w_pf2, ↓w_vret, r6, r7, r36])
                | (with_reducible refine bX5_readItem_10 ?_; simp (disch := first | omega | decide) only [w_nl0, w_nli, w_nlr, ↓w_ts1, ↓w_ts0, w_rcv, w_rfv, w_cs, true_and, and_true, List.length_nil, List.length_cons, Nat.reduceAdd, Nat.reduceLeDiff, Nat.zero_le, Nat.reduceLT, ↓w_nil, ix_nI, nI_leP, nI_ltP, nI_eqP, nI_1, ↓i_inN, i_inN, l_le, l_lt, l_eq, r_le, r_lt, r_eq, sh31, ↓w_aload_0, ↓w_gf0, ↓w_is, ↓pm_cl1_2, ↓w_ifeq, ↓w_gf3, ↓w_iaload, ↓w_goto, ↓w_bipush, ↓w_istore_1, ↓w_iload_1, ↓w_sw_X5_readItem_30, ↓w_dup_i, ↓w_dup_r, ↓w_iconst, ↓w_iadd, ↓w_pf0, ↓w_iv, ↓pm_cl2_1, ↓pm_cl2_2, ↓w_pf2, ↓w_vret, r6, r7, r36])
                | (with_reducible refine c_below (by omega) ?_ ; simp (disch := first | omega | decide) only [w_nl0, w_nli, w_nlr, ↓w_ts1, ↓w_ts0, w_rcv, w_rfv, w_cs, true_and, and_true, List.length_nil, List.length_cons, Nat.reduceAdd, Nat.reduceLeDiff, Nat.zero_le, Nat.reduceLT, ↓w_nil, ix_nI, nI_leP, nI_ltP, nI_eqP, nI_1, ↓i_inN, i_inN, l_le, l_lt, l_eq, r_le, r_lt, r_eq, sh31, ↓w_aload_0, ↓w_gf0, ↓w_is, ↓pm_cl1_2, ↓w_ifeq, ↓w_gf3, ↓w_iaload, ↓w_goto, ↓w_bipush, ↓w_istore_1, ↓w_iload_1, ↓w_sw_X5_readItem_30, ↓w_dup_i, ↓w_dup_r, ↓w_iconst, ↓w_iadd, ↓w_pf0, ↓w_iv, ↓pm_cl2_1, ↓pm_cl2_2, ↓w_pf2, ↓w_vret, r6, r7, r36])
                | (simp only [w_in])
                | (intro _))
              all_goals grind
theorem c_sizeTN {r s : Nat} (hd : 2 ≤ d) (hr : r < 4) (hs : I 7 r = nI s) (hQ : Q (some (.int (nI s))) SH I J) : pm_C g d 106 [.ref 6, .int (nI r)] Q SH I J := by
  refine c_sizeT hd ?_
  rw [if_pos (show (0 : Int32) ≤ nI r ∧ nI r < 4 from ⟨nI_pos' (by omega), nI_lt (b := 4) hr (by omega)⟩), ix_nI (by omega), hs]
  exact hQ
theorem c_readLoop {t s F : Nat} {E : Bool × Nat × (Nat → Int32)} (hd : 8 ≤ d) (hF : F = 48) (ht : t < 4) (hs : s ≤ 48) (hQ : ∀ I'' p v, RS I I'' s (fun k => I 8 (48 * t + k)) p v E.2.2 → Q (some (.int (if E.1 then -9 else nI E.2.1))) SH I'' J) : ∀ f k i I2 D, f + k = F → i ≤ s → RS I I2 s (fun k => I 8 (48 * t + k)) i 1 D → psc (fun k => I 8 (48 * t + k)) s f i D = E → UU g (d - 1) 63 kX5_read (pm_rm d 63) Q 5 [some (.ref 31), some (.ref 6), some (.int (nI t)), some (.int (nI k))] [] SH I2 J (0, 0) := by
  have key0 : ∀ k p I2 D, k ≤ 48 → RS I I2 s (fun k => I 8 (48 * t + k)) p 0 D → E = (false, p, D) → UU g (d - 1) 63 kX5_read (pm_rm d 63) Q 5 [some (.ref 31), some (.ref 6), some (.int (nI t)), some (.int (nI k))] [] SH I2 J (0, 0) := by
    intro k p I2 D hk hR he
    have hQ2 := hQ I2 p 0 (by rw [he]; exact hR)
    rw [he] at hQ2
    simp only [Bool.false_eq_true, if_false] at hQ2
    have r7 := hR.2.2.2.2.1
    have r8 := hR.2.2.2.2.2.1
    clear hQ hR he
    refine bX5_read_5 ?_
    simp (disch := first | omega | decide) only [w_nl0, w_nli, w_nlr, ↓w_ts1, ↓w_ts0, w_rcv, w_rfv, w_cs, true_and, and_true, List.length_nil, List.length_cons, Nat.reduceAdd, Nat.reduceLeDiff, Nat.zero_le, Nat.reduceLT, ↓w_nil, ix_nI, nI_leP, nI_ltP, nI_eqP, nI_1, ↓i_inN, i_inN, l_le, l_lt, l_eq, r_le, r_lt, r_eq, sh31, ↓w_iload_3, ↓w_bipush, ↓w_icge, ↓w_aload_0, ↓w_gf2, ↓w_ifeq, ↓w_gf0, ↓w_iv, ↓pm_cl2_1, ↓w_iinc_3, ↓w_goto, r8]
    repeat' (first
      | (apply And.intro)
      | (with_reducible refine bX5_read_6 ?_; simp (disch := first | omega | decide) only [w_nl0, w_nli, w_nlr, ↓w_ts1, ↓w_ts0, w_rcv, w_rfv, w_cs, true_and, and_true, List.length_nil, List.length_cons, Nat.reduceAdd, Nat.reduceLeDiff, Nat.zero_le, Nat.reduceLT, ↓w_nil, ix_nI, nI_leP, nI_ltP, nI_eqP, nI_1, ↓i_inN, i_inN, l_le, l_lt, l_eq, r_le, r_lt, r_eq, sh31, ↓w_aload_0, ↓w_aload_1, ↓w_iload_2, ↓w_iv, ↓pm_cl2_2, ↓w_bipush, ↓w_mminT, ↓w_pf0, ↓w_iconst, ↓w_istore_3, ↓w_iload_3, ↓w_gf0, ↓w_icge, ↓w_gf3, ↓pm_cl2_3, ↓w_iastore, ↓w_iinc_3, ↓w_goto, ↓w_pf2, ↓w_gf2, ↓w_ifeq, ↓pm_cl2_1, ↓w_ret, r8, r7])
      | (with_reducible refine bX5_read_7 ?_; simp (disch := first | omega | decide) only [w_nl0, w_nli, w_nlr, ↓w_ts1, ↓w_ts0, w_rcv, w_rfv, w_cs, true_and, and_true, List.length_nil, List.length_cons, Nat.reduceAdd, Nat.reduceLeDiff, Nat.zero_le, Nat.reduceLT, ↓w_nil, ix_nI, nI_leP, nI_ltP, nI_eqP, nI_1, ↓i_inN, i_inN, l_le, l_lt, l_eq, r_le, r_lt, r_eq, sh31, ↓w_aload_0, ↓w_aload_1, ↓w_iload_2, ↓w_iv, ↓pm_cl2_2, ↓w_bipush, ↓w_mminT, ↓w_pf0, ↓w_iconst, ↓w_istore_3, ↓w_iload_3, ↓w_gf0, ↓w_icge, ↓w_gf3, ↓pm_cl2_3, ↓w_iastore, ↓w_iinc_3, ↓w_goto, ↓w_pf2, ↓w_gf2, ↓w_ifeq, ↓pm_cl2_1, ↓w_ret, r8, r7])
      | (with_reducible refine bX5_read_8 ?_; simp (disch := first | omega | decide) only [w_nl0, w_nli, w_nlr, ↓w_ts1, ↓w_ts0, w_rcv, w_rfv, w_cs, true_and, and_true, List.length_nil, List.length_cons, Nat.reduceAdd, Nat.reduceLeDiff, Nat.zero_le, Nat.reduceLT, ↓w_nil, ix_nI, nI_leP, nI_ltP, nI_eqP, nI_1, ↓i_inN, i_inN, l_le, l_lt, l_eq, r_le, r_lt, r_eq, sh31, ↓w_aload_0, ↓w_aload_1, ↓w_iload_2, ↓w_iv, ↓pm_cl2_2, ↓w_bipush, ↓w_mminT, ↓w_pf0, ↓w_iconst, ↓w_istore_3, ↓w_iload_3, ↓w_gf0, ↓w_icge, ↓w_gf3, ↓pm_cl2_3, ↓w_iastore, ↓w_iinc_3, ↓w_goto, ↓w_pf2, ↓w_gf2, ↓w_ifeq, ↓pm_cl2_1, ↓w_ret, r8, r7])
      | (simp only [w_in])
      | (intro _))
    all_goals grind
  intro f
  induction f with
  | zero =>
    intro k i I2 D hk hi hR he
    simp only [psc] at he
    have hQ2 := hQ I2 i 1 (by rw [← he]; exact hR)
    rw [← he] at hQ2
    simp only [if_true] at hQ2
    have hk2 : k = 48 := by omega
    have r8 := hR.2.2.2.2.2.1
    clear hQ hR he key0
    subst hk2
    refine bX5_read_5 ?_
    simp (disch := first | omega | decide) only [w_nl0, w_nli, w_nlr, ↓w_ts1, ↓w_ts0, w_rcv, w_rfv, w_cs, true_and, and_true, List.length_nil, List.length_cons, Nat.reduceAdd, Nat.reduceLeDiff, Nat.zero_le, Nat.reduceLT, ↓w_nil, ix_nI, nI_leP, nI_ltP, nI_eqP, nI_1, ↓i_inN, i_inN, l_le, l_lt, l_eq, r_le, r_lt, r_eq, sh31, ↓w_iload_3, ↓w_bipush, ↓w_icge, ↓w_aload_0, ↓w_gf2, ↓w_ifeq, ↓w_gf0, ↓w_iv, ↓pm_cl2_1, ↓w_iinc_3, ↓w_goto, r8]
    repeat' (first
      | (apply And.intro)
      | (with_reducible refine bX5_read_6 ?_; simp (disch := first | omega | decide) only [w_nl0, w_nli, w_nlr, ↓w_ts1, ↓w_ts0, w_rcv, w_rfv, w_cs, true_and, and_true, List.length_nil, List.length_cons, Nat.reduceAdd, Nat.reduceLeDiff, Nat.zero_le, Nat.reduceLT, ↓w_nil, ix_nI, nI_leP, nI_ltP, nI_eqP, nI_1, ↓i_inN, i_inN, l_le, l_lt, l_eq, r_le, r_lt, r_eq, sh31, ↓w_aload_0, ↓w_aload_1, ↓w_iload_2, ↓w_iv, ↓pm_cl2_2, ↓w_bipush, ↓w_mminT, ↓w_pf0, ↓w_iconst, ↓w_istore_3, ↓w_iload_3, ↓w_gf0, ↓w_icge, ↓w_gf3, ↓pm_cl2_3, ↓w_iastore, ↓w_iinc_3, ↓w_goto, ↓w_pf2, ↓w_gf2, ↓w_ifeq, ↓pm_cl2_1, ↓w_ret, r8])
      | (with_reducible refine bX5_read_7 ?_; simp (disch := first | omega | decide) only [w_nl0, w_nli, w_nlr, ↓w_ts1, ↓w_ts0, w_rcv, w_rfv, w_cs, true_and, and_true, List.length_nil, List.length_cons, Nat.reduceAdd, Nat.reduceLeDiff, Nat.zero_le, Nat.reduceLT, ↓w_nil, ix_nI, nI_leP, nI_ltP, nI_eqP, nI_1, ↓i_inN, i_inN, l_le, l_lt, l_eq, r_le, r_lt, r_eq, sh31, ↓w_aload_0, ↓w_aload_1, ↓w_iload_2, ↓w_iv, ↓pm_cl2_2, ↓w_bipush, ↓w_mminT, ↓w_pf0, ↓w_iconst, ↓w_istore_3, ↓w_iload_3, ↓w_gf0, ↓w_icge, ↓w_gf3, ↓pm_cl2_3, ↓w_iastore, ↓w_iinc_3, ↓w_goto, ↓w_pf2, ↓w_gf2, ↓w_ifeq, ↓pm_cl2_1, ↓w_ret, r8])
      | (with_reducible refine bX5_read_8 ?_; simp (disch := first | omega | decide) only [w_nl0, w_nli, w_nlr, ↓w_ts1, ↓w_ts0, w_rcv, w_rfv, w_cs, true_and, and_true, List.length_nil, List.length_cons, Nat.reduceAdd, Nat.reduceLeDiff, Nat.zero_le, Nat.reduceLT, ↓w_nil, ix_nI, nI_leP, nI_ltP, nI_eqP, nI_1, ↓i_inN, i_inN, l_le, l_lt, l_eq, r_le, r_lt, r_eq, sh31, ↓w_aload_0, ↓w_aload_1, ↓w_iload_2, ↓w_iv, ↓pm_cl2_2, ↓w_bipush, ↓w_mminT, ↓w_pf0, ↓w_iconst, ↓w_istore_3, ↓w_iload_3, ↓w_gf0, ↓w_icge, ↓w_gf3, ↓pm_cl2_3, ↓w_iastore, ↓w_iinc_3, ↓w_goto, ↓w_pf2, ↓w_gf2, ↓w_ifeq, ↓pm_cl2_1, ↓w_ret, r8])
      | (simp only [w_in])
      | (intro _))
    all_goals grind
  | succ f ih =>
    intro k i I2 D hk hi hR he
    have r6 := hR.2.2.1
    have r7 := hR.2.2.2.2.1
    have r8 := hR.2.2.2.2.2.1
    by_cases hl : i < s
    · rw [psc, if_pos hl] at he
      by_cases hb : I 8 (48 * t + i) = 32
      · rw [if_pos hb] at he
        have w := fun I3 h3 => ih (k + 1) (i + 1) I3 D (by omega) (by omega) h3 he
        clear ih key0 hQ
        refine bX5_read_5 ?_
        simp (disch := first | omega | decide) only [w_nl0, w_nli, w_nlr, ↓w_ts1, ↓w_ts0, w_rcv, w_rfv, w_cs, true_and, and_true, List.length_nil, List.length_cons, Nat.reduceAdd, Nat.reduceLeDiff, Nat.zero_le, Nat.reduceLT, ↓w_nil, ix_nI, nI_leP, nI_ltP, nI_eqP, nI_1, ↓i_inN, i_inN, l_le, l_lt, l_eq, r_le, r_lt, r_eq, sh31, ↓w_iload_3, ↓w_bipush, ↓w_icge, ↓w_aload_0, ↓w_gf2, ↓w_ifeq, ↓w_gf0, ↓w_iv, ↓pm_cl2_1, ↓w_iinc_3, ↓w_goto, r6, r7, r8]
        repeat' (first
          | (apply And.intro)
          | (with_reducible refine c_readItem (by omega) hs hl hR (fun _ I3 h3 => ?_) (fun z => absurd hb z) <;> simp (disch := first | omega | decide) only [w_nl0, w_nli, w_nlr, ↓w_ts1, ↓w_ts0, w_rcv, w_rfv, w_cs, true_and, and_true, List.length_nil, List.length_cons, Nat.reduceAdd, Nat.reduceLeDiff, Nat.zero_le, Nat.reduceLT, ↓w_nil, ix_nI, nI_leP, nI_ltP, nI_eqP, nI_1, ↓i_inN, i_inN, l_le, l_lt, l_eq, r_le, r_lt, r_eq, sh31, ↓w_aload_0, ↓w_aload_1, ↓w_iload_2, ↓w_iv, ↓pm_cl2_2, ↓w_bipush, ↓w_mminT, ↓w_pf0, ↓w_iconst, ↓w_istore_3, ↓w_iload_3, ↓w_gf0, ↓w_icge, ↓w_gf3, ↓pm_cl2_3, ↓w_iastore, ↓w_iinc_3, ↓w_goto, ↓w_pf2, ↓w_gf2, ↓w_ifeq, ↓pm_cl2_1, ↓w_ret, r6, r7, r8])
          | (simp only [w_in])
          | (intro _))
        all_goals first | (exact w _ (by assumption)) | (clear w hR; grind)
      · rw [if_neg hb] at he
        have hpr := pit_rng (b := fun k => I 8 (48 * t + k)) hl
        by_cases hok : (pit (fun k => I 8 (48 * t + k)) s i).1 = true
        · rw [if_pos hok] at he
          have w : ∀ I3, RS I I3 s (fun k => I 8 (48 * t + k)) (pit (fun k => I 8 (48 * t + k)) s i).2.1 (okV (pit (fun k => I 8 (48 * t + k)) s i)) (drU D (pit (fun k => I 8 (48 * t + k)) s i)) → UU g (d - 1) 63 kX5_read (pm_rm d 63) Q 5 [some (.ref 31), some (.ref 6), some (.int (nI t)), some (.int (nI (k + 1)))] [] SH I3 J (0, 0) := by
            intro I3 h3
            unfold okV at h3
            rw [if_pos hok] at h3
            exact ih (k + 1) _ I3 _ (by omega) hpr.1 h3 he
          clear ih key0 hQ he
          refine bX5_read_5 ?_
          simp (disch := first | omega | decide) only [w_nl0, w_nli, w_nlr, ↓w_ts1, ↓w_ts0, w_rcv, w_rfv, w_cs, true_and, and_true, List.length_nil, List.length_cons, Nat.reduceAdd, Nat.reduceLeDiff, Nat.zero_le, Nat.reduceLT, ↓w_nil, ix_nI, nI_leP, nI_ltP, nI_eqP, nI_1, ↓i_inN, i_inN, l_le, l_lt, l_eq, r_le, r_lt, r_eq, sh31, ↓w_iload_3, ↓w_bipush, ↓w_icge, ↓w_aload_0, ↓w_gf2, ↓w_ifeq, ↓w_gf0, ↓w_iv, ↓pm_cl2_1, ↓w_iinc_3, ↓w_goto, r6, r7, r8]
          repeat' (first
            | (apply And.intro)
            | (with_reducible refine c_readItem (by omega) hs hl hR (fun z => absurd z hb) (fun _ I3 h3 => ?_) <;> simp (disch := first | omega | decide) only [w_nl0, w_nli, w_nlr, ↓w_ts1, ↓w_ts0, w_rcv, w_rfv, w_cs, true_and, and_true, List.length_nil, List.length_cons, Nat.reduceAdd, Nat.reduceLeDiff, Nat.zero_le, Nat.reduceLT, ↓w_nil, ix_nI, nI_leP, nI_ltP, nI_eqP, nI_1, ↓i_inN, i_inN, l_le, l_lt, l_eq, r_le, r_lt, r_eq, sh31, ↓w_aload_0, ↓w_aload_1, ↓w_iload_2, ↓w_iv, ↓pm_cl2_2, ↓w_bipush, ↓w_mminT, ↓w_pf0, ↓w_iconst, ↓w_istore_3, ↓w_iload_3, ↓w_gf0, ↓w_icge, ↓w_gf3, ↓pm_cl2_3, ↓w_iastore, ↓w_iinc_3, ↓w_goto, ↓w_pf2, ↓w_gf2, ↓w_ifeq, ↓pm_cl2_1, ↓w_ret, r6, r7, r8])
            | (simp only [w_in])
            | (intro _))
          all_goals first | (exact w _ (by assumption)) | (clear w hR; grind)
        · rw [if_neg hok] at he
          have w : ∀ I3, RS I I3 s (fun k => I 8 (48 * t + k)) (pit (fun k => I 8 (48 * t + k)) s i).2.1 (okV (pit (fun k => I 8 (48 * t + k)) s i)) (drU D (pit (fun k => I 8 (48 * t + k)) s i)) → UU g (d - 1) 63 kX5_read (pm_rm d 63) Q 5 [some (.ref 31), some (.ref 6), some (.int (nI t)), some (.int (nI (k + 1)))] [] SH I3 J (0, 0) := by
            intro I3 h3
            unfold okV drU at h3
            rw [if_neg hok, if_neg hok] at h3
            exact key0 (k + 1) _ I3 D (by omega) h3 he.symm
          clear ih key0 hQ he
          refine bX5_read_5 ?_
          simp (disch := first | omega | decide) only [w_nl0, w_nli, w_nlr, ↓w_ts1, ↓w_ts0, w_rcv, w_rfv, w_cs, true_and, and_true, List.length_nil, List.length_cons, Nat.reduceAdd, Nat.reduceLeDiff, Nat.zero_le, Nat.reduceLT, ↓w_nil, ix_nI, nI_leP, nI_ltP, nI_eqP, nI_1, ↓i_inN, i_inN, l_le, l_lt, l_eq, r_le, r_lt, r_eq, sh31, ↓w_iload_3, ↓w_bipush, ↓w_icge, ↓w_aload_0, ↓w_gf2, ↓w_ifeq, ↓w_gf0, ↓w_iv, ↓pm_cl2_1, ↓w_iinc_3, ↓w_goto, r6, r7, r8]
          repeat' (first
            | (apply And.intro)
            | (with_reducible refine c_readItem (by omega) hs hl hR (fun z => absurd z hb) (fun _ I3 h3 => ?_) <;> simp (disch := first | omega | decide) only [w_nl0, w_nli, w_nlr, ↓w_ts1, ↓w_ts0, w_rcv, w_rfv, w_cs, true_and, and_true, List.length_nil, List.length_cons, Nat.reduceAdd, Nat.reduceLeDiff, Nat.zero_le, Nat.reduceLT, ↓w_nil, ix_nI, nI_leP, nI_ltP, nI_eqP, nI_1, ↓i_inN, i_inN, l_le, l_lt, l_eq, r_le, r_lt, r_eq, sh31, ↓w_aload_0, ↓w_aload_1, ↓w_iload_2, ↓w_iv, ↓pm_cl2_2, ↓w_bipush, ↓w_mminT, ↓w_pf0, ↓w_iconst, ↓w_istore_3, ↓w_iload_3, ↓w_gf0, ↓w_icge, ↓w_gf3, ↓pm_cl2_3, ↓w_iastore, ↓w_iinc_3, ↓w_goto, ↓w_pf2, ↓w_gf2, ↓w_ifeq, ↓pm_cl2_1, ↓w_ret, r6, r7, r8])
            | (simp only [w_in])
            | (intro _))
          all_goals first | (exact w _ (by assumption)) | (clear w hR; grind)
    · rw [psc, if_neg hl] at he
      have hQ2 := hQ I2 i 1 (by rw [← he]; exact hR)
      rw [← he] at hQ2
      simp only [if_true] at hQ2
      clear ih key0 hQ he hR
      refine bX5_read_5 ?_
      simp (disch := first | omega | decide) only [w_nl0, w_nli, w_nlr, ↓w_ts1, ↓w_ts0, w_rcv, w_rfv, w_cs, true_and, and_true, List.length_nil, List.length_cons, Nat.reduceAdd, Nat.reduceLeDiff, Nat.zero_le, Nat.reduceLT, ↓w_nil, ix_nI, nI_leP, nI_ltP, nI_eqP, nI_1, ↓i_inN, i_inN, l_le, l_lt, l_eq, r_le, r_lt, r_eq, sh31, ↓w_iload_3, ↓w_bipush, ↓w_icge, ↓w_aload_0, ↓w_gf2, ↓w_ifeq, ↓w_gf0, ↓w_iv, ↓pm_cl2_1, ↓w_iinc_3, ↓w_goto, r6, r7, r8]
      repeat' (first
        | (apply And.intro)
        | (with_reducible refine bX5_read_6 ?_; simp (disch := first | omega | decide) only [w_nl0, w_nli, w_nlr, ↓w_ts1, ↓w_ts0, w_rcv, w_rfv, w_cs, true_and, and_true, List.length_nil, List.length_cons, Nat.reduceAdd, Nat.reduceLeDiff, Nat.zero_le, Nat.reduceLT, ↓w_nil, ix_nI, nI_leP, nI_ltP, nI_eqP, nI_1, ↓i_inN, i_inN, l_le, l_lt, l_eq, r_le, r_lt, r_eq, sh31, ↓w_aload_0, ↓w_aload_1, ↓w_iload_2, ↓w_iv, ↓pm_cl2_2, ↓w_bipush, ↓w_mminT, ↓w_pf0, ↓w_iconst, ↓w_istore_3, ↓w_iload_3, ↓w_gf0, ↓w_icge, ↓w_gf3, ↓pm_cl2_3, ↓w_iastore, ↓w_iinc_3, ↓w_goto, ↓w_pf2, ↓w_gf2, ↓w_ifeq, ↓pm_cl2_1, ↓w_ret, r6, r7, r8])
        | (with_reducible refine bX5_read_7 ?_; simp (disch := first | omega | decide) only [w_nl0, w_nli, w_nlr, ↓w_ts1, ↓w_ts0, w_rcv, w_rfv, w_cs, true_and, and_true, List.length_nil, List.length_cons, Nat.reduceAdd, Nat.reduceLeDiff, Nat.zero_le, Nat.reduceLT, ↓w_nil, ix_nI, nI_leP, nI_ltP, nI_eqP, nI_1, ↓i_inN, i_inN, l_le, l_lt, l_eq, r_le, r_lt, r_eq, sh31, ↓w_aload_0, ↓w_aload_1, ↓w_iload_2, ↓w_iv, ↓pm_cl2_2, ↓w_bipush, ↓w_mminT, ↓w_pf0, ↓w_iconst, ↓w_istore_3, ↓w_iload_3, ↓w_gf0, ↓w_icge, ↓w_gf3, ↓pm_cl2_3, ↓w_iastore, ↓w_iinc_3, ↓w_goto, ↓w_pf2, ↓w_gf2, ↓w_ifeq, ↓pm_cl2_1, ↓w_ret, r6, r7, r8])
        | (with_reducible refine bX5_read_8 ?_; simp (disch := first | omega | decide) only [w_nl0, w_nli, w_nlr, ↓w_ts1, ↓w_ts0, w_rcv, w_rfv, w_cs, true_and, and_true, List.length_nil, List.length_cons, Nat.reduceAdd, Nat.reduceLeDiff, Nat.zero_le, Nat.reduceLT, ↓w_nil, ix_nI, nI_leP, nI_ltP, nI_eqP, nI_1, ↓i_inN, i_inN, l_le, l_lt, l_eq, r_le, r_lt, r_eq, sh31, ↓w_aload_0, ↓w_aload_1, ↓w_iload_2, ↓w_iv, ↓pm_cl2_2, ↓w_bipush, ↓w_mminT, ↓w_pf0, ↓w_iconst, ↓w_istore_3, ↓w_iload_3, ↓w_gf0, ↓w_icge, ↓w_gf3, ↓pm_cl2_3, ↓w_iastore, ↓w_iinc_3, ↓w_goto, ↓w_pf2, ↓w_gf2, ↓w_ifeq, ↓pm_cl2_1, ↓w_ret, r6, r7, r8])
        | (simp only [w_in])
        | (intro _))
      all_goals grind
theorem c_read {t s F : Nat} {E : Bool × Nat × (Nat → Int32)} (hd : 8 ≤ d) (hF : F = 48) (hw : I 6 0 = 48) (ht : t < 4) (hs1 : I 7 t = nI s) (hs : s ≤ 48) (hE : psc (fun k => I 8 (48 * t + k)) s F 0 (fun k => if k < 33 then -1 else I 35 k) = E) (hQ : ∀ I'' p v, RS I I'' s (fun k => I 8 (48 * t + k)) p v E.2.2 → Q (some (.int (if E.1 then -9 else nI E.2.1))) SH I'' J) : pm_C g d 63 [.ref 31, .ref 6, .int (nI t)] Q SH I J := by
  have key := c_readLoop (g := g) (d := d) (J := J) (Q := Q) hd hF ht hs hQ
  have hmin2 : (if 48 < s then (48 : Int32) else nI s) = nI s := by rw [if_neg (by omega)]
  have hmin : (if (48 : Int32) < nI s then (48 : Int32) else nI s) = nI s := by
    rw [if_neg]
    exact Int32.not_lt.2 (nI_le (b := 48) hs (by omega))
  refine eX5_read (by omega) ?_
  repeat' (first
    | (apply And.intro)
    | (with_reducible refine bX5_read_0 ?_; simp -implicitDefEqProofs (disch := first | omega | decide) only [w_nl0, w_nli, w_nlr, ↓w_ts1, ↓w_ts0, w_rcv, w_rfv, w_cs, true_and, and_true, List.length_nil, List.length_cons, Nat.reduceAdd, Nat.reduceLeDiff, Nat.zero_le, Nat.reduceLT, ↓w_nil, ix_nI, nI_leP, nI_ltP, nI_eqP, nI_1, ↓i_inN, i_inN, l_le, l_lt, l_eq, r_le, r_lt, r_eq, sh31, ↓w_aload_0, ↓w_aload_1, ↓w_iload_2, ↓w_iv, ↓pm_cl2_2, ↓w_bipush, ↓w_mminT, ↓w_pf0, ↓w_iconst, ↓w_istore_3, ↓w_iload_3, ↓w_gf0, ↓w_icge, ↓w_gf3, ↓pm_cl2_3, ↓w_iastore, ↓w_iinc_3, ↓w_goto, ↓w_pf2, ↓w_gf2, ↓w_ifeq, ↓pm_cl2_1, ↓w_ret, hmin, hmin2, sh6])
    | (with_reducible refine c_sizeTN (by omega) ht hs1 ?_ ; simp -implicitDefEqProofs (disch := first | omega | decide) only [w_nl0, w_nli, w_nlr, ↓w_ts1, ↓w_ts0, w_rcv, w_rfv, w_cs, true_and, and_true, List.length_nil, List.length_cons, Nat.reduceAdd, Nat.reduceLeDiff, Nat.zero_le, Nat.reduceLT, ↓w_nil, ix_nI, nI_leP, nI_ltP, nI_eqP, nI_1, ↓i_inN, i_inN, l_le, l_lt, l_eq, r_le, r_lt, r_eq, sh31, ↓w_aload_0, ↓w_aload_1, ↓w_iload_2, ↓w_iv, ↓pm_cl2_2, ↓w_bipush, ↓w_mminT, ↓w_pf0, ↓w_iconst, ↓w_istore_3, ↓w_iload_3, ↓w_gf0, ↓w_icge, ↓w_gf3, ↓pm_cl2_3, ↓w_iastore, ↓w_iinc_3, ↓w_goto, ↓w_pf2, ↓w_gf2, ↓w_ifeq, ↓pm_cl2_1, ↓w_ret, hmin, hmin2, sh6])
    | (simp only [w_in])
    | (intro _))
  all_goals try (clear key hQ hE; omega)
  refine pm_for (f := fun k (M : pm_MI) => pm_up M 36 (0 + k) (I 8 (48 * t + k))) (U := fun k (M : pm_MI) => UU g (d - 1) 63 kX5_read (pm_rm d 63) Q 1 [some (.ref 31), some (.ref 6), some (.int (nI t)), some (.int (nI k))] [] SH M J (0, 0)) (a := pm_up I 31 6 (nI s)) s (fun k M hk hM w => ?_) ?_
  · have m6 : M 31 6 = nI s := by rw [hM, itr_o (by decide), pm_up_s]
    have m60 : M 6 0 = 48 := by rw [hM, itr_o (by decide), pm_up_o (by decide), hw]
    have m7 : M 7 t = nI s := by rw [hM, itr_o (by decide), pm_up_o (by decide), hs1]
    have m8 : M 8 = I 8 := by rw [hM, itr_o (by decide), pm_up_o (by decide)]
    rw [Nat.zero_add] at w
    clear hM key hQ hE
    refine bX5_read_1 ?_
    simp (disch := first | omega | decide) only [w_nl0, w_nli, w_nlr, ↓w_ts1, ↓w_ts0, w_rcv, w_rfv, w_cs, true_and, and_true, List.length_nil, List.length_cons, Nat.reduceAdd, Nat.reduceLeDiff, Nat.zero_le, Nat.reduceLT, ↓w_nil, ix_nI, nI_leP, nI_ltP, nI_eqP, nI_1, ↓i_inN, i_inN, l_le, l_lt, l_eq, r_le, r_lt, r_eq, sh31, ↓w_iload_3, ↓w_aload_0, ↓w_gf0, ↓w_icge, ↓w_gf3, ↓w_aload_1, ↓w_iload_2, ↓w_iv, ↓pm_cl2_3, ↓w_iastore, ↓w_iinc_3, ↓w_goto, m6, sh6]
    repeat' (first
      | (apply And.intro)
      | (with_reducible refine c_atT (by omega) m60 ht m7 hs hk ?_ ; simp (disch := first | omega | decide) only [w_nl0, w_nli, w_nlr, ↓w_ts1, ↓w_ts0, w_rcv, w_rfv, w_cs, true_and, and_true, List.length_nil, List.length_cons, Nat.reduceAdd, Nat.reduceLeDiff, Nat.zero_le, Nat.reduceLT, ↓w_nil, ix_nI, nI_leP, nI_ltP, nI_eqP, nI_1, ↓i_inN, i_inN, l_le, l_lt, l_eq, r_le, r_lt, r_eq, sh31, ↓w_aload_0, ↓w_aload_1, ↓w_iload_2, ↓w_iv, ↓pm_cl2_2, ↓w_bipush, ↓w_mminT, ↓w_pf0, ↓w_iconst, ↓w_istore_3, ↓w_iload_3, ↓w_gf0, ↓w_icge, ↓w_gf3, ↓pm_cl2_3, ↓w_iastore, ↓w_iinc_3, ↓w_goto, ↓w_pf2, ↓w_gf2, ↓w_ifeq, ↓pm_cl2_1, ↓w_ret, m8, sh6])
      | (simp only [w_in])
      | (intro _))
    all_goals grind
  · have n6 : itr (fun k (M : pm_MI) => pm_up M 36 (0 + k) (I 8 (48 * t + k))) (pm_up I 31 6 (nI s)) s 31 6 = nI s := by rw [itr_o (by decide), pm_up_s]
    have n5 : itr (fun k (M : pm_MI) => pm_up M 36 (0 + k) (I 8 (48 * t + k))) (pm_up I 31 6 (nI s)) s 31 5 = I 31 5 := by rw [itr_o (by decide), pm_up_n (by decide)]
    have na : ∀ a, a ≠ 31 → a ≠ 36 → itr (fun k (M : pm_MI) => pm_up M 36 (0 + k) (I 8 (48 * t + k))) (pm_up I 31 6 (nI s)) s a = I a := by
      intro a x y
      rw [itr_o y, pm_up_o x]
    have n36 : ∀ i, i < s → itr (fun k (M : pm_MI) => pm_up M 36 (0 + k) (I 8 (48 * t + k))) (pm_up I 31 6 (nI s)) s 36 i = I 8 (48 * t + i) := by
      intro i hi
      rw [fill_s, if_pos (by omega), Nat.sub_zero]
    generalize itr (fun k (M : pm_MI) => pm_up M 36 (0 + k) (I 8 (48 * t + k))) (pm_up I 31 6 (nI s)) s = I1 at n6 n5 na n36 ⊢
    refine bX5_read_1 ?_
    simp (disch := first | omega | decide) only [w_nl0, w_nli, w_nlr, ↓w_ts1, ↓w_ts0, w_rcv, w_rfv, w_cs, true_and, and_true, List.length_nil, List.length_cons, Nat.reduceAdd, Nat.reduceLeDiff, Nat.zero_le, Nat.reduceLT, ↓w_nil, ix_nI, nI_leP, nI_ltP, nI_eqP, nI_1, ↓i_inN, i_inN, l_le, l_lt, l_eq, r_le, r_lt, r_eq, sh31, ↓w_iload_3, ↓w_aload_0, ↓w_gf0, ↓w_icge, ↓w_gf3, ↓w_aload_1, ↓w_iload_2, ↓w_iv, ↓pm_cl2_3, ↓w_iastore, ↓w_iinc_3, ↓w_goto, n6]
    repeat' (first
      | (apply And.intro)
      | (with_reducible refine bX5_read_2 ?_; simp (disch := first | omega | decide) only [w_nl0, w_nli, w_nlr, ↓w_ts1, ↓w_ts0, w_rcv, w_rfv, w_cs, true_and, and_true, List.length_nil, List.length_cons, Nat.reduceAdd, Nat.reduceLeDiff, Nat.zero_le, Nat.reduceLT, ↓w_nil, ix_nI, nI_leP, nI_ltP, nI_eqP, nI_1, ↓i_inN, i_inN, l_le, l_lt, l_eq, r_le, r_lt, r_eq, sh31, ↓w_aload_0, ↓w_aload_1, ↓w_iload_2, ↓w_iv, ↓pm_cl2_2, ↓w_bipush, ↓w_mminT, ↓w_pf0, ↓w_iconst, ↓w_istore_3, ↓w_iload_3, ↓w_gf0, ↓w_icge, ↓w_gf3, ↓pm_cl2_3, ↓w_iastore, ↓w_iinc_3, ↓w_goto, ↓w_pf2, ↓w_gf2, ↓w_ifeq, ↓pm_cl2_1, ↓w_ret])
      | (simp only [w_in])
      | (intro _))
    all_goals try (clear key hQ hE na n36; grind)
    refine pm_for (f := fun k (M : pm_MI) => pm_up M 35 (0 + k) (-1)) (U := fun k (M : pm_MI) => UU g (d - 1) 63 kX5_read (pm_rm d 63) Q 3 [some (.ref 31), some (.ref 6), some (.int (nI t)), some (.int (nI k))] [] SH M J (0, 0)) (a := I1) 33 (fun k M hk hM w => ?_) ?_
    · rw [Nat.zero_add] at w
      clear hM key hQ hE na n36
      refine bX5_read_3 ?_
      simp (disch := first | omega | decide) only [w_nl0, w_nli, w_nlr, ↓w_ts1, ↓w_ts0, w_rcv, w_rfv, w_cs, true_and, and_true, List.length_nil, List.length_cons, Nat.reduceAdd, Nat.reduceLeDiff, Nat.zero_le, Nat.reduceLT, ↓w_nil, ix_nI, nI_leP, nI_ltP, nI_eqP, nI_1, ↓i_inN, i_inN, l_le, l_lt, l_eq, r_le, r_lt, r_eq, sh31, ↓w_iload_3, ↓w_bipush, ↓w_icge, ↓w_aload_0, ↓w_gf3, ↓w_iconst, ↓w_iastore, ↓w_iinc_3, ↓w_goto]
      repeat' (first
        | (apply And.intro)
        | (simp only [w_in])
        | (intro _))
      all_goals grind
    · have hR : RS I (pm_up (pm_up (itr (fun k (M : pm_MI) => pm_up M 35 (0 + k) (-1)) I1 33) 31 7 0) 31 8 1) s (fun k => I 8 (48 * t + k)) 0 1 (fun k => if k < 33 then -1 else I 35 k) := by
        refine ⟨fun a x y z => ?_, ?_, ?_, fun i hi => ?_, ?_, ?_, ?_⟩
        · rw [pm_up_o x, pm_up_o x, itr_o y, na a x z]
        · rw [pm_up_n (by decide), pm_up_n (by decide), itr_o (by decide), n5]
        · rw [pm_up_n (by decide), pm_up_n (by decide), itr_o (by decide), n6]
        · rw [pm_up_o (by decide), pm_up_o (by decide), itr_o (by decide), n36 i hi]
        · rw [pm_up_n (by decide), pm_up_s]
          rfl
        · rw [pm_up_s]
        · funext j
          rw [pm_up_o (by decide), pm_up_o (by decide), fill_s, na 35 (by decide) (by decide)]
          simp only [Nat.zero_le, true_and, Nat.zero_add]
      have w : UU g (d - 1) 63 kX5_read (pm_rm d 63) Q 5 [some (.ref 31), some (.ref 6), some (.int (nI t)), some (.int 0)] [] SH (pm_up (pm_up (itr (fun k (M : pm_MI) => pm_up M 35 (0 + k) (-1)) I1 33) 31 7 0) 31 8 1) J (0, 0) := key F 0 0 _ _ (by omega) (by omega) hR hE
      clear key hQ hE na n36 hR
      refine bX5_read_3 ?_
      simp (disch := first | omega | decide) only [w_nl0, w_nli, w_nlr, ↓w_ts1, ↓w_ts0, w_rcv, w_rfv, w_cs, true_and, and_true, List.length_nil, List.length_cons, Nat.reduceAdd, Nat.reduceLeDiff, Nat.zero_le, Nat.reduceLT, ↓w_nil, ix_nI, nI_leP, nI_ltP, nI_eqP, nI_1, ↓i_inN, i_inN, l_le, l_lt, l_eq, r_le, r_lt, r_eq, sh31, ↓w_iload_3, ↓w_bipush, ↓w_icge, ↓w_aload_0, ↓w_gf3, ↓w_iconst, ↓w_iastore, ↓w_iinc_3, ↓w_goto]
      repeat' (first
        | (apply And.intro)
        | (with_reducible refine bX5_read_4 ?_; simp (disch := first | omega | decide) only [w_nl0, w_nli, w_nlr, ↓w_ts1, ↓w_ts0, w_rcv, w_rfv, w_cs, true_and, and_true, List.length_nil, List.length_cons, Nat.reduceAdd, Nat.reduceLeDiff, Nat.zero_le, Nat.reduceLT, ↓w_nil, ix_nI, nI_leP, nI_ltP, nI_eqP, nI_1, ↓i_inN, i_inN, l_le, l_lt, l_eq, r_le, r_lt, r_eq, sh31, ↓w_aload_0, ↓w_aload_1, ↓w_iload_2, ↓w_iv, ↓pm_cl2_2, ↓w_bipush, ↓w_mminT, ↓w_pf0, ↓w_iconst, ↓w_istore_3, ↓w_iload_3, ↓w_gf0, ↓w_icge, ↓w_gf3, ↓pm_cl2_3, ↓w_iastore, ↓w_iinc_3, ↓w_goto, ↓w_pf2, ↓w_gf2, ↓w_ifeq, ↓pm_cl2_1, ↓w_ret])
        | (simp only [w_in])
        | (intro _))
      all_goals grind
end C74
