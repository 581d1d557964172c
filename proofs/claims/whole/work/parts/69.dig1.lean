section C69
variable {g : pm_G} {d : Nat} {Q : pm_Po} {S : pm_SS} {I : pm_MI} {J : pm_ML}
theorem upL_over {a i : Nat} {x y : Int64} : pm_upL (pm_upL J a i x) a i y = pm_upL J a i y := by
  funext b j
  by_cases h : b = a
  · subst h
    by_cases h2 : j = i
    · subst h2
      rw [pm_upL_s, pm_upL_s]
    · rw [pm_upL_n h2, pm_upL_n h2, pm_upL_n h2]
  · rw [pm_upL_o h, pm_upL_o h, pm_upL_o h]
theorem m_tell {h v : Int64} (hd : 1 ≤ d) (hQ : Q none SH I (pm_upL J 68 80 (31 * h + v))) : pm_C g d 292 [.ref 68, .long v] Q SH I (pm_upL J 68 80 h) := by
  refine eX12_tell (by omega) ?_
  repeat' (first
    | (apply And.intro)
    | (with_reducible refine bX12_tell_0 ?_; simp (disch := first | omega | decide) only [w_nl0, w_nli, w_nlr, ↓w_ts1, ↓w_ts0, w_rcv, w_rfv, w_cs, true_and, and_true, List.length_nil, List.length_cons, Nat.reduceAdd, Nat.reduceLeDiff, Nat.zero_le, Nat.reduceLT, ↓w_nil, ix_nI, nI_leP, nI_ltP, nI_eqP, nI_1, ↓i_inN, i_inN, l_le, l_lt, l_eq, r_le, r_lt, r_eq, sh68_0, sh68_1, sh68_2, sh68_3, sh68_4, ↓w_aload_0, ↓w_ldc2_21, ↓w_gf1, ↓w_lmul, ↓w_lload_1, ↓w_ladd, ↓w_pf1, ↓w_vret, pm_upL_s, upL_over])
    | (simp only [w_in])
    | (intro _))
  all_goals grind
def smR (I : pm_MI) (r : Nat) (h : Int64) : Int64 := itr (fun i h => 31 * h + (I 5 (24 * r + i)).toInt64) (31 * h + (I 4 r).toInt64) (I 4 r).toNatClampNeg
theorem c_mixR {h : Int64} (hd : 6 ≤ d) (hw : I 3 0 = 24) (hsz : ∀ r, r < 6 → I 4 r = -1 ∨ ∃ k, k ≤ 24 ∧ I 4 r = nI k) (hQ : Q (some (.long (itr (smR I) h 6))) SH I J) : pm_C g d 116 [.ref 3, .long h] Q SH I J := by
  refine eX9_mix (by omega) ?_
  refine bX9_mix_0 ?_
  simp (disch := first | omega | decide) only [w_nl0, w_nli, w_nlr, ↓w_ts1, ↓w_ts0, w_rcv, w_rfv, w_cs, true_and, and_true, List.length_nil, List.length_cons, Nat.reduceAdd, Nat.reduceLeDiff, Nat.zero_le, Nat.reduceLT, ↓w_nil, ix_nI, nI_leP, nI_ltP, nI_eqP, nI_1, ↓i_inN, i_inN, l_le, l_lt, l_eq, r_le, r_lt, r_eq, sh3, sh6, ↓w_iconst, ↓w_istore_3]
  refine pm_for (f := smR I) (U := fun k (z : Int64) => UU g (d - 1) 116 kX9_mix (pm_rm d 116) Q 1 [some (.ref 3), some (.long z), none, some (.int (nI k)), none] [] SH I J (0, 0)) (a := h) 6 (fun r z hr hz w => ?_) ?_
  · replace w : ∀ x, UU g (d - 1) 116 kX9_mix (pm_rm d 116) Q 1 [some (.ref 3), some (.long (smR I r z)), none, some (.int (nI (r + 1))), x] [] SH I J (0, 0) := fun x => u_less _ (by simp [pm_le]) w
    clear hz hQ
    rcases hsz r hr with e | ⟨k, hk, e⟩
    · have e0 : smR I r z = 31 * z + (-1 : Int32).toInt64 := by
        unfold smR
        rw [e]
        rfl
      rw [e0] at w
      clear hsz e0
      refine bX9_mix_1 ?_
      simp (disch := first | omega | decide) only [w_nl0, w_nli, w_nlr, ↓w_ts1, ↓w_ts0, w_rcv, w_rfv, w_cs, true_and, and_true, List.length_nil, List.length_cons, Nat.reduceAdd, Nat.reduceLeDiff, Nat.zero_le, Nat.reduceLT, ↓w_nil, ix_nI, nI_leP, nI_ltP, nI_eqP, nI_1, ↓i_inN, i_inN, l_le, l_lt, l_eq, r_le, r_lt, r_eq, sh3, sh6, ↓w_iload_3, ↓w_aload_0, ↓w_gf3, ↓w_alen, ↓w_slen, ↓w_icge, ↓w_ldc2_16, ↓w_lload_1, ↓w_lmul, ↓w_iaload, ↓w_i2l, ↓w_ladd, ↓w_lstore_1, ↓w_iconst, ↓w_istore_4, e, l_onI]
      repeat' (first
        | (apply And.intro)
        | (simp only [w_in])
        | (intro _))
      all_goals try grind
      all_goals
        refine bX9_mix_2 ?_
        simp (disch := first | omega | decide) only [w_nl0, w_nli, w_nlr, ↓w_ts1, ↓w_ts0, w_rcv, w_rfv, w_cs, true_and, and_true, List.length_nil, List.length_cons, Nat.reduceAdd, Nat.reduceLeDiff, Nat.zero_le, Nat.reduceLT, ↓w_nil, ix_nI, nI_leP, nI_ltP, nI_eqP, nI_1, ↓i_inN, i_inN, l_le, l_lt, l_eq, r_le, r_lt, r_eq, sh3, sh6, ↓w_iload_4, ↓w_aload_0, ↓w_gf3, ↓w_iload_3, ↓w_iaload, ↓w_icge, ↓w_ldc2_16, ↓w_lload_1, ↓w_lmul, ↓w_iv, ↓pm_cl2_3, ↓w_i2l, ↓w_ladd, ↓w_lstore_1, ↓w_iinc_4, ↓w_goto, e]
        repeat' (first
          | (apply And.intro)
          | (with_reducible refine bX9_mix_3 ?_; simp (disch := first | omega | decide) only [w_nl0, w_nli, w_nlr, ↓w_ts1, ↓w_ts0, w_rcv, w_rfv, w_cs, true_and, and_true, List.length_nil, List.length_cons, Nat.reduceAdd, Nat.reduceLeDiff, Nat.zero_le, Nat.reduceLT, ↓w_nil, ix_nI, nI_leP, nI_ltP, nI_eqP, nI_1, ↓i_inN, i_inN, l_le, l_lt, l_eq, r_le, r_lt, r_eq, sh3, sh6, ↓w_iconst, ↓w_istore_3, ↓w_iload_3, ↓w_aload_0, ↓w_gf3, ↓w_alen, ↓w_slen, ↓w_icge, ↓w_ldc2_16, ↓w_lload_1, ↓w_lmul, ↓w_iaload, ↓w_i2l, ↓w_ladd, ↓w_lstore_1, ↓w_istore_4, ↓w_iload_4, ↓w_iv, ↓pm_cl2_3, ↓w_iinc_4, ↓w_goto, ↓w_iinc_3, ↓w_lret, e])
          | (simp only [w_in])
          | (intro _))
        all_goals grind
    · have e0 : smR I r z = itr (fun i h => 31 * h + (I 5 (24 * r + i)).toInt64) (31 * z + (nI k).toInt64) k := by
        unfold smR
        rw [e, ix_nI (by omega)]
      rw [e0] at w
      clear hsz e0
      refine bX9_mix_1 ?_
      simp (disch := first | omega | decide) only [w_nl0, w_nli, w_nlr, ↓w_ts1, ↓w_ts0, w_rcv, w_rfv, w_cs, true_and, and_true, List.length_nil, List.length_cons, Nat.reduceAdd, Nat.reduceLeDiff, Nat.zero_le, Nat.reduceLT, ↓w_nil, ix_nI, nI_leP, nI_ltP, nI_eqP, nI_1, ↓i_inN, i_inN, l_le, l_lt, l_eq, r_le, r_lt, r_eq, sh3, sh6, ↓w_iload_3, ↓w_aload_0, ↓w_gf3, ↓w_alen, ↓w_slen, ↓w_icge, ↓w_ldc2_16, ↓w_lload_1, ↓w_lmul, ↓w_iaload, ↓w_i2l, ↓w_ladd, ↓w_lstore_1, ↓w_iconst, ↓w_istore_4, e, l_onI]
      repeat' (first
        | (apply And.intro)
        | (simp only [w_in])
        | (intro _))
      all_goals try grind
      all_goals
        refine pm_for (f := fun i (h : Int64) => 31 * h + (I 5 (24 * r + i)).toInt64) (U := fun i (y : Int64) => UU g (d - 1) 116 kX9_mix (pm_rm d 116) Q 2 [some (.ref 3), some (.long y), none, some (.int (nI r)), some (.int (nI i))] [] SH I J (0, 0)) (a := 31 * z + (nI k).toInt64) k (fun i y hi hy w2 => ?_) ?_
        · clear hy w
          refine bX9_mix_2 ?_
          simp (disch := first | omega | decide) only [w_nl0, w_nli, w_nlr, ↓w_ts1, ↓w_ts0, w_rcv, w_rfv, w_cs, true_and, and_true, List.length_nil, List.length_cons, Nat.reduceAdd, Nat.reduceLeDiff, Nat.zero_le, Nat.reduceLT, ↓w_nil, ix_nI, nI_leP, nI_ltP, nI_eqP, nI_1, ↓i_inN, i_inN, l_le, l_lt, l_eq, r_le, r_lt, r_eq, sh3, sh6, ↓w_iload_4, ↓w_aload_0, ↓w_gf3, ↓w_iload_3, ↓w_iaload, ↓w_icge, ↓w_ldc2_16, ↓w_lload_1, ↓w_lmul, ↓w_iv, ↓pm_cl2_3, ↓w_i2l, ↓w_ladd, ↓w_lstore_1, ↓w_iinc_4, ↓w_goto, e]
          repeat' (first
            | (apply And.intro)
            | (with_reducible refine c_atR (by omega) hw hr e hk hi ?_ ; simp (disch := first | omega | decide) only [w_nl0, w_nli, w_nlr, ↓w_ts1, ↓w_ts0, w_rcv, w_rfv, w_cs, true_and, and_true, List.length_nil, List.length_cons, Nat.reduceAdd, Nat.reduceLeDiff, Nat.zero_le, Nat.reduceLT, ↓w_nil, ix_nI, nI_leP, nI_ltP, nI_eqP, nI_1, ↓i_inN, i_inN, l_le, l_lt, l_eq, r_le, r_lt, r_eq, sh3, sh6, ↓w_iconst, ↓w_istore_3, ↓w_iload_3, ↓w_aload_0, ↓w_gf3, ↓w_alen, ↓w_slen, ↓w_icge, ↓w_ldc2_16, ↓w_lload_1, ↓w_lmul, ↓w_iaload, ↓w_i2l, ↓w_ladd, ↓w_lstore_1, ↓w_istore_4, ↓w_iload_4, ↓w_iv, ↓pm_cl2_3, ↓w_iinc_4, ↓w_goto, ↓w_iinc_3, ↓w_lret])
            | (simp only [w_in])
            | (intro _))
          all_goals grind
        · refine bX9_mix_2 ?_
          simp (disch := first | omega | decide) only [w_nl0, w_nli, w_nlr, ↓w_ts1, ↓w_ts0, w_rcv, w_rfv, w_cs, true_and, and_true, List.length_nil, List.length_cons, Nat.reduceAdd, Nat.reduceLeDiff, Nat.zero_le, Nat.reduceLT, ↓w_nil, ix_nI, nI_leP, nI_ltP, nI_eqP, nI_1, ↓i_inN, i_inN, l_le, l_lt, l_eq, r_le, r_lt, r_eq, sh3, sh6, ↓w_iload_4, ↓w_aload_0, ↓w_gf3, ↓w_iload_3, ↓w_iaload, ↓w_icge, ↓w_ldc2_16, ↓w_lload_1, ↓w_lmul, ↓w_iv, ↓pm_cl2_3, ↓w_i2l, ↓w_ladd, ↓w_lstore_1, ↓w_iinc_4, ↓w_goto, e]
          repeat' (first
            | (apply And.intro)
            | (with_reducible refine bX9_mix_3 ?_; simp (disch := first | omega | decide) only [w_nl0, w_nli, w_nlr, ↓w_ts1, ↓w_ts0, w_rcv, w_rfv, w_cs, true_and, and_true, List.length_nil, List.length_cons, Nat.reduceAdd, Nat.reduceLeDiff, Nat.zero_le, Nat.reduceLT, ↓w_nil, ix_nI, nI_leP, nI_ltP, nI_eqP, nI_1, ↓i_inN, i_inN, l_le, l_lt, l_eq, r_le, r_lt, r_eq, sh3, sh6, ↓w_iconst, ↓w_istore_3, ↓w_iload_3, ↓w_aload_0, ↓w_gf3, ↓w_alen, ↓w_slen, ↓w_icge, ↓w_ldc2_16, ↓w_lload_1, ↓w_lmul, ↓w_iaload, ↓w_i2l, ↓w_ladd, ↓w_lstore_1, ↓w_istore_4, ↓w_iload_4, ↓w_iv, ↓pm_cl2_3, ↓w_iinc_4, ↓w_goto, ↓w_iinc_3, ↓w_lret])
            | (simp only [w_in])
            | (intro _))
          all_goals first | exact w _ | grind
  · clear hsz
    refine bX9_mix_1 ?_
    simp (disch := first | omega | decide) only [w_nl0, w_nli, w_nlr, ↓w_ts1, ↓w_ts0, w_rcv, w_rfv, w_cs, true_and, and_true, List.length_nil, List.length_cons, Nat.reduceAdd, Nat.reduceLeDiff, Nat.zero_le, Nat.reduceLT, ↓w_nil, ix_nI, nI_leP, nI_ltP, nI_eqP, nI_1, ↓i_inN, i_inN, l_le, l_lt, l_eq, r_le, r_lt, r_eq, sh3, sh6, ↓w_iload_3, ↓w_aload_0, ↓w_gf3, ↓w_alen, ↓w_slen, ↓w_icge, ↓w_ldc2_16, ↓w_lload_1, ↓w_lmul, ↓w_iaload, ↓w_i2l, ↓w_ladd, ↓w_lstore_1, ↓w_iconst, ↓w_istore_4, l_onI]
    repeat' (first
      | (apply And.intro)
      | (with_reducible refine bX9_mix_4 ?_; simp (disch := first | omega | decide) only [w_nl0, w_nli, w_nlr, ↓w_ts1, ↓w_ts0, w_rcv, w_rfv, w_cs, true_and, and_true, List.length_nil, List.length_cons, Nat.reduceAdd, Nat.reduceLeDiff, Nat.zero_le, Nat.reduceLT, ↓w_nil, ix_nI, nI_leP, nI_ltP, nI_eqP, nI_1, ↓i_inN, i_inN, l_le, l_lt, l_eq, r_le, r_lt, r_eq, sh3, sh6, ↓w_iconst, ↓w_istore_3, ↓w_iload_3, ↓w_aload_0, ↓w_gf3, ↓w_alen, ↓w_slen, ↓w_icge, ↓w_ldc2_16, ↓w_lload_1, ↓w_lmul, ↓w_iaload, ↓w_i2l, ↓w_ladd, ↓w_lstore_1, ↓w_istore_4, ↓w_iload_4, ↓w_iv, ↓pm_cl2_3, ↓w_iinc_4, ↓w_goto, ↓w_iinc_3, ↓w_lret])
      | (simp only [w_in])
      | (intro _))
    all_goals grind
def smT (I : pm_MI) (r : Nat) (h : Int64) : Int64 := itr (fun i h => 31 * h + (I 8 (48 * r + i)).toInt64) (31 * h + (I 7 r).toInt64) (I 7 r).toNatClampNeg
theorem c_mixT {h : Int64} (hd : 6 ≤ d) (hw : I 6 0 = 48) (hsz : ∀ r, r < 4 → I 7 r = -1 ∨ ∃ k, k ≤ 48 ∧ I 7 r = nI k) (hQ : Q (some (.long (itr (smT I) h 4))) SH I J) : pm_C g d 116 [.ref 6, .long h] Q SH I J := by
  refine eX9_mix (by omega) ?_
  refine bX9_mix_0 ?_
  simp (disch := first | omega | decide) only [w_nl0, w_nli, w_nlr, ↓w_ts1, ↓w_ts0, w_rcv, w_rfv, w_cs, true_and, and_true, List.length_nil, List.length_cons, Nat.reduceAdd, Nat.reduceLeDiff, Nat.zero_le, Nat.reduceLT, ↓w_nil, ix_nI, nI_leP, nI_ltP, nI_eqP, nI_1, ↓i_inN, i_inN, l_le, l_lt, l_eq, r_le, r_lt, r_eq, sh3, sh6, ↓w_iconst, ↓w_istore_3]
  refine pm_for (f := smT I) (U := fun k (z : Int64) => UU g (d - 1) 116 kX9_mix (pm_rm d 116) Q 1 [some (.ref 6), some (.long z), none, some (.int (nI k)), none] [] SH I J (0, 0)) (a := h) 4 (fun r z hr hz w => ?_) ?_
  · replace w : ∀ x, UU g (d - 1) 116 kX9_mix (pm_rm d 116) Q 1 [some (.ref 6), some (.long (smT I r z)), none, some (.int (nI (r + 1))), x] [] SH I J (0, 0) := fun x => u_less _ (by simp [pm_le]) w
    clear hz hQ
    rcases hsz r hr with e | ⟨k, hk, e⟩
    · have e0 : smT I r z = 31 * z + (-1 : Int32).toInt64 := by
        unfold smT
        rw [e]
        rfl
      rw [e0] at w
      clear hsz e0
      refine bX9_mix_1 ?_
      simp (disch := first | omega | decide) only [w_nl0, w_nli, w_nlr, ↓w_ts1, ↓w_ts0, w_rcv, w_rfv, w_cs, true_and, and_true, List.length_nil, List.length_cons, Nat.reduceAdd, Nat.reduceLeDiff, Nat.zero_le, Nat.reduceLT, ↓w_nil, ix_nI, nI_leP, nI_ltP, nI_eqP, nI_1, ↓i_inN, i_inN, l_le, l_lt, l_eq, r_le, r_lt, r_eq, sh3, sh6, ↓w_iload_3, ↓w_aload_0, ↓w_gf3, ↓w_alen, ↓w_slen, ↓w_icge, ↓w_ldc2_16, ↓w_lload_1, ↓w_lmul, ↓w_iaload, ↓w_i2l, ↓w_ladd, ↓w_lstore_1, ↓w_iconst, ↓w_istore_4, e, l_onI]
      repeat' (first
        | (apply And.intro)
        | (simp only [w_in])
        | (intro _))
      all_goals try grind
      all_goals
        refine bX9_mix_2 ?_
        simp (disch := first | omega | decide) only [w_nl0, w_nli, w_nlr, ↓w_ts1, ↓w_ts0, w_rcv, w_rfv, w_cs, true_and, and_true, List.length_nil, List.length_cons, Nat.reduceAdd, Nat.reduceLeDiff, Nat.zero_le, Nat.reduceLT, ↓w_nil, ix_nI, nI_leP, nI_ltP, nI_eqP, nI_1, ↓i_inN, i_inN, l_le, l_lt, l_eq, r_le, r_lt, r_eq, sh3, sh6, ↓w_iload_4, ↓w_aload_0, ↓w_gf3, ↓w_iload_3, ↓w_iaload, ↓w_icge, ↓w_ldc2_16, ↓w_lload_1, ↓w_lmul, ↓w_iv, ↓pm_cl2_3, ↓w_i2l, ↓w_ladd, ↓w_lstore_1, ↓w_iinc_4, ↓w_goto, e]
        repeat' (first
          | (apply And.intro)
          | (with_reducible refine bX9_mix_3 ?_; simp (disch := first | omega | decide) only [w_nl0, w_nli, w_nlr, ↓w_ts1, ↓w_ts0, w_rcv, w_rfv, w_cs, true_and, and_true, List.length_nil, List.length_cons, Nat.reduceAdd, Nat.reduceLeDiff, Nat.zero_le, Nat.reduceLT, ↓w_nil, ix_nI, nI_leP, nI_ltP, nI_eqP, nI_1, ↓i_inN, i_inN, l_le, l_lt, l_eq, r_le, r_lt, r_eq, sh3, sh6, ↓w_iconst, ↓w_istore_3, ↓w_iload_3, ↓w_aload_0, ↓w_gf3, ↓w_alen, ↓w_slen, ↓w_icge, ↓w_ldc2_16, ↓w_lload_1, ↓w_lmul, ↓w_iaload, ↓w_i2l, ↓w_ladd, ↓w_lstore_1, ↓w_istore_4, ↓w_iload_4, ↓w_iv, ↓pm_cl2_3, ↓w_iinc_4, ↓w_goto, ↓w_iinc_3, ↓w_lret, e])
          | (simp only [w_in])
          | (intro _))
        all_goals grind
    · have e0 : smT I r z = itr (fun i h => 31 * h + (I 8 (48 * r + i)).toInt64) (31 * z + (nI k).toInt64) k := by
        unfold smT
        rw [e, ix_nI (by omega)]
      rw [e0] at w
      clear hsz e0
      refine bX9_mix_1 ?_
      simp (disch := first | omega | decide) only [w_nl0, w_nli, w_nlr, ↓w_ts1, ↓w_ts0, w_rcv, w_rfv, w_cs, true_and, and_true, List.length_nil, List.length_cons, Nat.reduceAdd, Nat.reduceLeDiff, Nat.zero_le, Nat.reduceLT, ↓w_nil, ix_nI, nI_leP, nI_ltP, nI_eqP, nI_1, ↓i_inN, i_inN, l_le, l_lt, l_eq, r_le, r_lt, r_eq, sh3, sh6, ↓w_iload_3, ↓w_aload_0, ↓w_gf3, ↓w_alen, ↓w_slen, ↓w_icge, ↓w_ldc2_16, ↓w_lload_1, ↓w_lmul, ↓w_iaload, ↓w_i2l, ↓w_ladd, ↓w_lstore_1, ↓w_iconst, ↓w_istore_4, e, l_onI]
      repeat' (first
        | (apply And.intro)
        | (simp only [w_in])
        | (intro _))
      all_goals try grind
      all_goals
        refine pm_for (f := fun i (h : Int64) => 31 * h + (I 8 (48 * r + i)).toInt64) (U := fun i (y : Int64) => UU g (d - 1) 116 kX9_mix (pm_rm d 116) Q 2 [some (.ref 6), some (.long y), none, some (.int (nI r)), some (.int (nI i))] [] SH I J (0, 0)) (a := 31 * z + (nI k).toInt64) k (fun i y hi hy w2 => ?_) ?_
        · clear hy w
          refine bX9_mix_2 ?_
          simp (disch := first | omega | decide) only [w_nl0, w_nli, w_nlr, ↓w_ts1, ↓w_ts0, w_rcv, w_rfv, w_cs, true_and, and_true, List.length_nil, List.length_cons, Nat.reduceAdd, Nat.reduceLeDiff, Nat.zero_le, Nat.reduceLT, ↓w_nil, ix_nI, nI_leP, nI_ltP, nI_eqP, nI_1, ↓i_inN, i_inN, l_le, l_lt, l_eq, r_le, r_lt, r_eq, sh3, sh6, ↓w_iload_4, ↓w_aload_0, ↓w_gf3, ↓w_iload_3, ↓w_iaload, ↓w_icge, ↓w_ldc2_16, ↓w_lload_1, ↓w_lmul, ↓w_iv, ↓pm_cl2_3, ↓w_i2l, ↓w_ladd, ↓w_lstore_1, ↓w_iinc_4, ↓w_goto, e]
          repeat' (first
            | (apply And.intro)
            | (with_reducible refine c_atT (by omega) hw hr e hk hi ?_ ; simp (disch := first | omega | decide) only [w_nl0, w_nli, w_nlr, ↓w_ts1, ↓w_ts0, w_rcv, w_rfv, w_cs, true_and, and_true, List.length_nil, List.length_cons, Nat.reduceAdd, Nat.reduceLeDiff, Nat.zero_le, Nat.reduceLT, ↓w_nil, ix_nI, nI_leP, nI_ltP, nI_eqP, nI_1, ↓i_inN, i_inN, l_le, l_lt, l_eq, r_le, r_lt, r_eq, sh3, sh6, ↓w_iconst, ↓w_istore_3, ↓w_iload_3, ↓w_aload_0, ↓w_gf3, ↓w_alen, ↓w_slen, ↓w_icge, ↓w_ldc2_16, ↓w_lload_1, ↓w_lmul, ↓w_iaload, ↓w_i2l, ↓w_ladd, ↓w_lstore_1, ↓w_istore_4, ↓w_iload_4, ↓w_iv, ↓pm_cl2_3, ↓w_iinc_4, ↓w_goto, ↓w_iinc_3, ↓w_lret])
            | (simp only [w_in])
            | (intro _))
          all_goals grind
        · refine bX9_mix_2 ?_
          simp (disch := first | omega | decide) only [w_nl0, w_nli, w_nlr, ↓w_ts1, ↓w_ts0, w_rcv, w_rfv, w_cs, true_and, and_true, List.length_nil, List.length_cons, Nat.reduceAdd, Nat.reduceLeDiff, Nat.zero_le, Nat.reduceLT, ↓w_nil, ix_nI, nI_leP, nI_ltP, nI_eqP, nI_1, ↓i_inN, i_inN, l_le, l_lt, l_eq, r_le, r_lt, r_eq, sh3, sh6, ↓w_iload_4, ↓w_aload_0, ↓w_gf3, ↓w_iload_3, ↓w_iaload, ↓w_icge, ↓w_ldc2_16, ↓w_lload_1, ↓w_lmul, ↓w_iv, ↓pm_cl2_3, ↓w_i2l, ↓w_ladd, ↓w_lstore_1, ↓w_iinc_4, ↓w_goto, e]
          repeat' (first
            | (apply And.intro)
            | (with_reducible refine bX9_mix_3 ?_; simp (disch := first | omega | decide) only [w_nl0, w_nli, w_nlr, ↓w_ts1, ↓w_ts0, w_rcv, w_rfv, w_cs, true_and, and_true, List.length_nil, List.length_cons, Nat.reduceAdd, Nat.reduceLeDiff, Nat.zero_le, Nat.reduceLT, ↓w_nil, ix_nI, nI_leP, nI_ltP, nI_eqP, nI_1, ↓i_inN, i_inN, l_le, l_lt, l_eq, r_le, r_lt, r_eq, sh3, sh6, ↓w_iconst, ↓w_istore_3, ↓w_iload_3, ↓w_aload_0, ↓w_gf3, ↓w_alen, ↓w_slen, ↓w_icge, ↓w_ldc2_16, ↓w_lload_1, ↓w_lmul, ↓w_iaload, ↓w_i2l, ↓w_ladd, ↓w_lstore_1, ↓w_istore_4, ↓w_iload_4, ↓w_iv, ↓pm_cl2_3, ↓w_iinc_4, ↓w_goto, ↓w_iinc_3, ↓w_lret])
            | (simp only [w_in])
            | (intro _))
          all_goals first | exact w _ | grind
  · clear hsz
    refine bX9_mix_1 ?_
    simp (disch := first | omega | decide) only [w_nl0, w_nli, w_nlr, ↓w_ts1, ↓w_ts0, w_rcv, w_rfv, w_cs, true_and, and_true, List.length_nil, List.length_cons, Nat.reduceAdd, Nat.reduceLeDiff, Nat.zero_le, Nat.reduceLT, ↓w_nil, ix_nI, nI_leP, nI_ltP, nI_eqP, nI_1, ↓i_inN, i_inN, l_le, l_lt, l_eq, r_le, r_lt, r_eq, sh3, sh6, ↓w_iload_3, ↓w_aload_0, ↓w_gf3, ↓w_alen, ↓w_slen, ↓w_icge, ↓w_ldc2_16, ↓w_lload_1, ↓w_lmul, ↓w_iaload, ↓w_i2l, ↓w_ladd, ↓w_lstore_1, ↓w_iconst, ↓w_istore_4, l_onI]
    repeat' (first
      | (apply And.intro)
      | (with_reducible refine bX9_mix_4 ?_; simp (disch := first | omega | decide) only [w_nl0, w_nli, w_nlr, ↓w_ts1, ↓w_ts0, w_rcv, w_rfv, w_cs, true_and, and_true, List.length_nil, List.length_cons, Nat.reduceAdd, Nat.reduceLeDiff, Nat.zero_le, Nat.reduceLT, ↓w_nil, ix_nI, nI_leP, nI_ltP, nI_eqP, nI_1, ↓i_inN, i_inN, l_le, l_lt, l_eq, r_le, r_lt, r_eq, sh3, sh6, ↓w_iconst, ↓w_istore_3, ↓w_iload_3, ↓w_aload_0, ↓w_gf3, ↓w_alen, ↓w_slen, ↓w_icge, ↓w_ldc2_16, ↓w_lload_1, ↓w_lmul, ↓w_iaload, ↓w_i2l, ↓w_ladd, ↓w_lstore_1, ↓w_istore_4, ↓w_iload_4, ↓w_iv, ↓pm_cl2_3, ↓w_iinc_4, ↓w_goto, ↓w_iinc_3, ↓w_lret])
      | (simp only [w_in])
      | (intro _))
    all_goals grind
/-- what the works tell, as the class mixes it -/
def dgM (I : pm_MI) (n : Nat) (h : Int64) : Int64 := itr (fun m h => itr (fun w h => 31 * h + (factV I m n (nI w)).toInt64) h 7) h n
def dgP (I : pm_MI) (h : Int64) : Int64 := itr (fun p h => 31 * (31 * (31 * (31 * h + (I 20 (2 * p)).toInt64) + (I 20 (2 * p + 1)).toInt64) + (I 21 p).toInt64) + (I 22 p).toInt64) h 6
def dgR (I : pm_MI) (M n : Nat) (h : Int64) : Int64 := itr (fun r h => itr (fun w h => 31 * h + (rtV I r M (nI w)).toInt64) h 7) h n
def dgU (I : pm_MI) (y : Int32) (n : Nat) (h : Int64) : Int64 := itr (fun l h => 31 * (31 * h + (ifV I (17 + l) y y n).toInt64) + (ifV I (25 + l) y y n).toInt64) (31 * (itr (fun k h => 31 * (31 * h + (I 32 k).toInt64) + (I 33 k).toInt64) h n) + (ifV I 16 y y n).toInt64) 8
theorem m_tellWorks {h : Int64} {y : Int32} {n N M R : Nat} (hd : 8 ≤ d) (hy : I 68 15 = y) (hn : I 68 23 = nI n) (hn40 : n ≤ 40) (hN : I 68 38 = nI N) (hN30 : N ≤ 30) (hM : I 68 67 = nI M) (hM60 : M ≤ 60) (hR : I 68 16 = nI R) (hR24 : R ≤ 24) (hit : ∀ r, r < R → ∃ M, M ≤ 24 ∧ I 77 r = nI M) (hfe : ∀ m w, mfactV I m n w = factV I m n w) (hpr : ∀ p, p < 6 → I 88 p = I 20 (2 * p) ∧ I 89 p = I 20 (2 * p + 1)) (x90 : I 90 = I 21) (x91 : I 91 = I 22) (hrt : ∀ r, r < N → ∀ w, w < 7 → mrtV I r M (nI w) = rtV I r M (nI w)) (x75 : I 75 = I 32) (x76 : I 76 = I 33) (hf1 : (sfV I 1 0 0 y y R).1 = ifV I 16 y y R) (hf2 : ∀ l, l < 8 → (sfV I 2 (nI l) 0 y y R).1 = ifV I (17 + l) y y R) (hf3 : ∀ l, l < 8 → (sfV I 3 (nI l) 0 y y R).1 = ifV I (25 + l) y y R) (hQ : ∀ x1 x2, Q none SH (pm_up (pm_up I 68 21 x1) 68 22 x2) (pm_upL J 68 80 (dgU I y R (dgR I M N (dgP I (dgM I n h)))))) : pm_C g d 293 [.ref 68] Q SH I (pm_upL J 68 80 h) := by
  refine eX12_tellWorks (by omega) ?_
  refine bX12_tellWorks_0 ?_
  simp (disch := first | omega | decide) only [w_nl0, w_nli, w_nlr, ↓w_ts1, ↓w_ts0, w_rcv, w_rfv, w_cs, true_and, and_true, List.length_nil, List.length_cons, Nat.reduceAdd, Nat.reduceLeDiff, Nat.zero_le, Nat.reduceLT, ↓w_nil, ix_nI, nI_leP, nI_ltP, nI_eqP, nI_1, ↓i_inN, i_inN, l_le, l_lt, l_eq, r_le, r_lt, r_eq, sh68_0, sh68_1, sh68_2, sh68_3, sh68_4, ↓w_iconst, ↓w_istore_1]
  refine pm_for (f := fun m h => itr (fun w h => 31 * h + (factV I m n (nI w)).toInt64) h 7) (U := fun k (z : Int64) => UU g (d - 1) 293 kX12_tellWorks (pm_rm d 293) Q 1 [some (.ref 68), some (.int (nI k)), none] [] SH I (pm_upL J 68 80 z) (0, 0)) (a := h) n (fun m z hm hz w => ?_) ?_
  · replace w : ∀ x, UU g (d - 1) 293 kX12_tellWorks (pm_rm d 293) Q 1 [some (.ref 68), some (.int (nI (m + 1))), x] [] SH I (pm_upL J 68 80 (itr (fun w h => 31 * h + (factV I m n (nI w)).toInt64) z 7)) (0, 0) := fun x => u_less _ (by simp [pm_le]) w
    clear hz hQ hit hpr hrt hf2 hf3
    refine bX12_tellWorks_1 ?_
    simp (disch := first | omega | decide) only [w_nl0, w_nli, w_nlr, ↓w_ts1, ↓w_ts0, w_rcv, w_rfv, w_cs, true_and, and_true, List.length_nil, List.length_cons, Nat.reduceAdd, Nat.reduceLeDiff, Nat.zero_le, Nat.reduceLT, ↓w_nil, ix_nI, nI_leP, nI_ltP, nI_eqP, nI_1, ↓i_inN, i_inN, l_le, l_lt, l_eq, r_le, r_lt, r_eq, sh68_0, sh68_1, sh68_2, sh68_3, sh68_4, ↓w_iload_1, ↓w_aload_0, ↓w_gf0, ↓w_icge, ↓w_iconst, ↓w_istore_2, hn]
    repeat' (first
      | (apply And.intro)
      | (simp only [w_in])
      | (intro _))
    all_goals try grind
    refine pm_for (f := fun w h => 31 * h + (factV I m n (nI w)).toInt64) (U := fun j (y : Int64) => UU g (d - 1) 293 kX12_tellWorks (pm_rm d 293) Q 2 [some (.ref 68), some (.int (nI m)), some (.int (nI j))] [] SH I (pm_upL J 68 80 y) (0, 0)) (a := z) 7 (fun j y2 hj hy2 w2 => ?_) ?_
    · clear hy2 w
      have hfe2 := hfe m (nI j)
      refine bX12_tellWorks_2 ?_
      simp (disch := first | omega | decide) only [w_nl0, w_nli, w_nlr, ↓w_ts1, ↓w_ts0, w_rcv, w_rfv, w_cs, true_and, and_true, List.length_nil, List.length_cons, Nat.reduceAdd, Nat.reduceLeDiff, Nat.zero_le, Nat.reduceLT, ↓w_nil, ix_nI, nI_leP, nI_ltP, nI_eqP, nI_1, ↓i_inN, i_inN, l_le, l_lt, l_eq, r_le, r_lt, r_eq, sh68_0, sh68_1, sh68_2, sh68_3, sh68_4, ↓w_iload_2, ↓w_bipush, ↓w_icge, ↓w_aload_0, ↓w_iload_1, ↓w_iv, ↓pm_cl2_3, ↓w_i2l, ↓pm_cl2_2, ↓w_iinc_2, ↓w_goto]
      repeat' (first
        | (apply And.intro)
        | (with_reducible refine m_toldOf (by omega) hn hn40 hm ?_ ; simp (disch := first | omega | decide) only [w_nl0, w_nli, w_nlr, ↓w_ts1, ↓w_ts0, w_rcv, w_rfv, w_cs, true_and, and_true, List.length_nil, List.length_cons, Nat.reduceAdd, Nat.reduceLeDiff, Nat.zero_le, Nat.reduceLT, ↓w_nil, ix_nI, nI_leP, nI_ltP, nI_eqP, nI_1, ↓i_inN, i_inN, l_le, l_lt, l_eq, r_le, r_lt, r_eq, sh68_0, sh68_1, sh68_2, sh68_3, sh68_4, ↓w_iconst, ↓w_istore_1, ↓w_iload_1, ↓w_aload_0, ↓w_gf0, ↓w_icge, ↓w_istore_2, ↓w_iload_2, ↓w_bipush, ↓w_iv, ↓pm_cl2_3, ↓w_i2l, ↓pm_cl2_2, ↓w_iinc_2, ↓w_goto, ↓w_iinc_1, ↓w_gf3, ↓w_iaload, ↓pm_cl2_4, ↓w_vret, hfe2])
        | (with_reducible refine m_tell (by omega) ?_ ; simp (disch := first | omega | decide) only [w_nl0, w_nli, w_nlr, ↓w_ts1, ↓w_ts0, w_rcv, w_rfv, w_cs, true_and, and_true, List.length_nil, List.length_cons, Nat.reduceAdd, Nat.reduceLeDiff, Nat.zero_le, Nat.reduceLT, ↓w_nil, ix_nI, nI_leP, nI_ltP, nI_eqP, nI_1, ↓i_inN, i_inN, l_le, l_lt, l_eq, r_le, r_lt, r_eq, sh68_0, sh68_1, sh68_2, sh68_3, sh68_4, ↓w_iconst, ↓w_istore_1, ↓w_iload_1, ↓w_aload_0, ↓w_gf0, ↓w_icge, ↓w_istore_2, ↓w_iload_2, ↓w_bipush, ↓w_iv, ↓pm_cl2_3, ↓w_i2l, ↓pm_cl2_2, ↓w_iinc_2, ↓w_goto, ↓w_iinc_1, ↓w_gf3, ↓w_iaload, ↓pm_cl2_4, ↓w_vret, hfe2])
        | (simp only [w_in])
        | (intro _))
      all_goals grind
    · refine bX12_tellWorks_2 ?_
      simp (disch := first | omega | decide) only [w_nl0, w_nli, w_nlr, ↓w_ts1, ↓w_ts0, w_rcv, w_rfv, w_cs, true_and, and_true, List.length_nil, List.length_cons, Nat.reduceAdd, Nat.reduceLeDiff, Nat.zero_le, Nat.reduceLT, ↓w_nil, ix_nI, nI_leP, nI_ltP, nI_eqP, nI_1, ↓i_inN, i_inN, l_le, l_lt, l_eq, r_le, r_lt, r_eq, sh68_0, sh68_1, sh68_2, sh68_3, sh68_4, ↓w_iload_2, ↓w_bipush, ↓w_icge, ↓w_aload_0, ↓w_iload_1, ↓w_iv, ↓pm_cl2_3, ↓w_i2l, ↓pm_cl2_2, ↓w_iinc_2, ↓w_goto]
      repeat' (first
        | (apply And.intro)
        | (with_reducible refine bX12_tellWorks_3 ?_; simp (disch := first | omega | decide) only [w_nl0, w_nli, w_nlr, ↓w_ts1, ↓w_ts0, w_rcv, w_rfv, w_cs, true_and, and_true, List.length_nil, List.length_cons, Nat.reduceAdd, Nat.reduceLeDiff, Nat.zero_le, Nat.reduceLT, ↓w_nil, ix_nI, nI_leP, nI_ltP, nI_eqP, nI_1, ↓i_inN, i_inN, l_le, l_lt, l_eq, r_le, r_lt, r_eq, sh68_0, sh68_1, sh68_2, sh68_3, sh68_4, ↓w_iconst, ↓w_istore_1, ↓w_iload_1, ↓w_aload_0, ↓w_gf0, ↓w_icge, ↓w_istore_2, ↓w_iload_2, ↓w_bipush, ↓w_iv, ↓pm_cl2_3, ↓w_i2l, ↓pm_cl2_2, ↓w_iinc_2, ↓w_goto, ↓w_iinc_1, ↓w_gf3, ↓w_iaload, ↓pm_cl2_4, ↓w_vret])
        | (simp only [w_in])
        | (intro _))
      all_goals first | exact w _ | grind
  · have hQ2 : ∀ x1 x2, Q none SH (pm_up (pm_up I 68 21 x1) 68 22 x2) (pm_upL J 68 80 (dgU I y R (dgR I M N (dgP I (itr (fun m h => itr (fun w h => 31 * h + (factV I m n (nI w)).toInt64) h 7) h n))))) := hQ
    clear hQ hfe
    generalize itr (fun m h => itr (fun w h => 31 * h + (factV I m n (nI w)).toInt64) h 7) h n = h2 at hQ2 ⊢
    refine bX12_tellWorks_1 ?_
    simp (disch := first | omega | decide) only [w_nl0, w_nli, w_nlr, ↓w_ts1, ↓w_ts0, w_rcv, w_rfv, w_cs, true_and, and_true, List.length_nil, List.length_cons, Nat.reduceAdd, Nat.reduceLeDiff, Nat.zero_le, Nat.reduceLT, ↓w_nil, ix_nI, nI_leP, nI_ltP, nI_eqP, nI_1, ↓i_inN, i_inN, l_le, l_lt, l_eq, r_le, r_lt, r_eq, sh68_0, sh68_1, sh68_2, sh68_3, sh68_4, ↓w_iload_1, ↓w_aload_0, ↓w_gf0, ↓w_icge, ↓w_iconst, ↓w_istore_2, hn]
    repeat' (first
      | (apply And.intro)
      | (with_reducible refine bX12_tellWorks_4 ?_; simp (disch := first | omega | decide) only [w_nl0, w_nli, w_nlr, ↓w_ts1, ↓w_ts0, w_rcv, w_rfv, w_cs, true_and, and_true, List.length_nil, List.length_cons, Nat.reduceAdd, Nat.reduceLeDiff, Nat.zero_le, Nat.reduceLT, ↓w_nil, ix_nI, nI_leP, nI_ltP, nI_eqP, nI_1, ↓i_inN, i_inN, l_le, l_lt, l_eq, r_le, r_lt, r_eq, sh68_0, sh68_1, sh68_2, sh68_3, sh68_4, ↓w_iconst, ↓w_istore_1, ↓w_iload_1, ↓w_aload_0, ↓w_gf0, ↓w_icge, ↓w_istore_2, ↓w_iload_2, ↓w_bipush, ↓w_iv, ↓pm_cl2_3, ↓w_i2l, ↓pm_cl2_2, ↓w_iinc_2, ↓w_goto, ↓w_iinc_1, ↓w_gf3, ↓w_iaload, ↓pm_cl2_4, ↓w_vret])
      | (simp only [w_in])
      | (intro _))
    all_goals try grind
    refine pm_for (f := fun p h => 31 * (31 * (31 * (31 * h + (I 20 (2 * p)).toInt64) + (I 20 (2 * p + 1)).toInt64) + (I 21 p).toInt64) + (I 22 p).toInt64) (U := fun k (z : Int64) => UU g (d - 1) 293 kX12_tellWorks (pm_rm d 293) Q 5 [some (.ref 68), some (.int (nI k)), none] [] SH I (pm_upL J 68 80 z) (0, 0)) (a := h2) 6 (fun p z hp hz w => ?_) ?_
    · obtain ⟨e1, e2⟩ := hpr p hp
      clear hz hQ2 hit hpr hrt hf2 hf3
      refine bX12_tellWorks_5 ?_
      simp (disch := first | omega | decide) only [w_nl0, w_nli, w_nlr, ↓w_ts1, ↓w_ts0, w_rcv, w_rfv, w_cs, true_and, and_true, List.length_nil, List.length_cons, Nat.reduceAdd, Nat.reduceLeDiff, Nat.zero_le, Nat.reduceLT, ↓w_nil, ix_nI, nI_leP, nI_ltP, nI_eqP, nI_1, ↓i_inN, i_inN, l_le, l_lt, l_eq, r_le, r_lt, r_eq, sh68_0, sh68_1, sh68_2, sh68_3, sh68_4, ↓w_iload_1, ↓w_bipush, ↓w_icge, ↓w_aload_0, ↓w_gf3, ↓w_iaload, ↓w_i2l, ↓w_iv, ↓pm_cl2_2, ↓w_iinc_1, ↓w_goto]
      repeat' (first
        | (apply And.intro)
        | (with_reducible refine m_tell (by omega) ?_ ; simp (disch := first | omega | decide) only [w_nl0, w_nli, w_nlr, ↓w_ts1, ↓w_ts0, w_rcv, w_rfv, w_cs, true_and, and_true, List.length_nil, List.length_cons, Nat.reduceAdd, Nat.reduceLeDiff, Nat.zero_le, Nat.reduceLT, ↓w_nil, ix_nI, nI_leP, nI_ltP, nI_eqP, nI_1, ↓i_inN, i_inN, l_le, l_lt, l_eq, r_le, r_lt, r_eq, sh68_0, sh68_1, sh68_2, sh68_3, sh68_4, ↓w_iconst, ↓w_istore_1, ↓w_iload_1, ↓w_aload_0, ↓w_gf0, ↓w_icge, ↓w_istore_2, ↓w_iload_2, ↓w_bipush, ↓w_iv, ↓pm_cl2_3, ↓w_i2l, ↓pm_cl2_2, ↓w_iinc_2, ↓w_goto, ↓w_iinc_1, ↓w_gf3, ↓w_iaload, ↓pm_cl2_4, ↓w_vret, e1, e2, x90, x91])
        | (simp only [w_in])
        | (intro _))
      all_goals grind
    · have hQ3 : ∀ x1 x2, Q none SH (pm_up (pm_up I 68 21 x1) 68 22 x2) (pm_upL J 68 80 (dgU I y R (dgR I M N (itr (fun p h => 31 * (31 * (31 * (31 * h + (I 20 (2 * p)).toInt64) + (I 20 (2 * p + 1)).toInt64) + (I 21 p).toInt64) + (I 22 p).toInt64) h2 6)))) := hQ2
      clear hQ2 hpr
      generalize itr (fun p h => 31 * (31 * (31 * (31 * h + (I 20 (2 * p)).toInt64) + (I 20 (2 * p + 1)).toInt64) + (I 21 p).toInt64) + (I 22 p).toInt64) h2 6 = h3 at hQ3 ⊢
      refine bX12_tellWorks_5 ?_
      simp (disch := first | omega | decide) only [w_nl0, w_nli, w_nlr, ↓w_ts1, ↓w_ts0, w_rcv, w_rfv, w_cs, true_and, and_true, List.length_nil, List.length_cons, Nat.reduceAdd, Nat.reduceLeDiff, Nat.zero_le, Nat.reduceLT, ↓w_nil, ix_nI, nI_leP, nI_ltP, nI_eqP, nI_1, ↓i_inN, i_inN, l_le, l_lt, l_eq, r_le, r_lt, r_eq, sh68_0, sh68_1, sh68_2, sh68_3, sh68_4, ↓w_iload_1, ↓w_bipush, ↓w_icge, ↓w_aload_0, ↓w_gf3, ↓w_iaload, ↓w_i2l, ↓w_iv, ↓pm_cl2_2, ↓w_iinc_1, ↓w_goto]
      repeat' (first
        | (apply And.intro)
        | (with_reducible refine bX12_tellWorks_6 ?_; simp (disch := first | omega | decide) only [w_nl0, w_nli, w_nlr, ↓w_ts1, ↓w_ts0, w_rcv, w_rfv, w_cs, true_and, and_true, List.length_nil, List.length_cons, Nat.reduceAdd, Nat.reduceLeDiff, Nat.zero_le, Nat.reduceLT, ↓w_nil, ix_nI, nI_leP, nI_ltP, nI_eqP, nI_1, ↓i_inN, i_inN, l_le, l_lt, l_eq, r_le, r_lt, r_eq, sh68_0, sh68_1, sh68_2, sh68_3, sh68_4, ↓w_iconst, ↓w_istore_1, ↓w_iload_1, ↓w_aload_0, ↓w_gf0, ↓w_icge, ↓w_istore_2, ↓w_iload_2, ↓w_bipush, ↓w_iv, ↓pm_cl2_3, ↓w_i2l, ↓pm_cl2_2, ↓w_iinc_2, ↓w_goto, ↓w_iinc_1, ↓w_gf3, ↓w_iaload, ↓pm_cl2_4, ↓w_vret])
        | (simp only [w_in])
        | (intro _))
      all_goals try grind
      refine pm_for (f := fun r h => itr (fun w h => 31 * h + (rtV I r M (nI w)).toInt64) h 7) (U := fun k (z : Int64) => UU g (d - 1) 293 kX12_tellWorks (pm_rm d 293) Q 7 [some (.ref 68), some (.int (nI k)), none] [] SH I (pm_upL J 68 80 z) (0, 0)) (a := h3) N (fun r z hr hz w => ?_) ?_
      · replace w : ∀ x, UU g (d - 1) 293 kX12_tellWorks (pm_rm d 293) Q 7 [some (.ref 68), some (.int (nI (r + 1))), x] [] SH I (pm_upL J 68 80 (itr (fun w h => 31 * h + (rtV I r M (nI w)).toInt64) z 7)) (0, 0) := fun x => u_less _ (by simp [pm_le]) w
        clear hz hQ3 hit hf2 hf3
        refine bX12_tellWorks_7 ?_
        simp (disch := first | omega | decide) only [w_nl0, w_nli, w_nlr, ↓w_ts1, ↓w_ts0, w_rcv, w_rfv, w_cs, true_and, and_true, List.length_nil, List.length_cons, Nat.reduceAdd, Nat.reduceLeDiff, Nat.zero_le, Nat.reduceLT, ↓w_nil, ix_nI, nI_leP, nI_ltP, nI_eqP, nI_1, ↓i_inN, i_inN, l_le, l_lt, l_eq, r_le, r_lt, r_eq, sh68_0, sh68_1, sh68_2, sh68_3, sh68_4, ↓w_iload_1, ↓w_aload_0, ↓w_gf0, ↓w_icge, ↓w_iconst, ↓w_istore_2, hN]
        repeat' (first
          | (apply And.intro)
          | (simp only [w_in])
          | (intro _))
        all_goals try (clear hrt; grind)
        refine pm_for (f := fun w h => 31 * h + (rtV I r M (nI w)).toInt64) (U := fun j (y : Int64) => UU g (d - 1) 293 kX12_tellWorks (pm_rm d 293) Q 8 [some (.ref 68), some (.int (nI r)), some (.int (nI j))] [] SH I (pm_upL J 68 80 y) (0, 0)) (a := z) 7 (fun j y2 hj hy2 w2 => ?_) ?_
        · have hrt2 := hrt r hr j hj
          clear hy2 w hrt
          refine bX12_tellWorks_8 ?_
          simp (disch := first | omega | decide) only [w_nl0, w_nli, w_nlr, ↓w_ts1, ↓w_ts0, w_rcv, w_rfv, w_cs, true_and, and_true, List.length_nil, List.length_cons, Nat.reduceAdd, Nat.reduceLeDiff, Nat.zero_le, Nat.reduceLT, ↓w_nil, ix_nI, nI_leP, nI_ltP, nI_eqP, nI_1, ↓i_inN, i_inN, l_le, l_lt, l_eq, r_le, r_lt, r_eq, sh68_0, sh68_1, sh68_2, sh68_3, sh68_4, ↓w_iload_2, ↓w_bipush, ↓w_icge, ↓w_aload_0, ↓w_iload_1, ↓w_iv, ↓pm_cl2_3, ↓w_i2l, ↓pm_cl2_2, ↓w_iinc_2, ↓w_goto]
          repeat' (first
            | (apply And.intro)
            | (with_reducible refine m_runTells (by omega) (by omega) hM hM60 ?_ ; simp (disch := first | omega | decide) only [w_nl0, w_nli, w_nlr, ↓w_ts1, ↓w_ts0, w_rcv, w_rfv, w_cs, true_and, and_true, List.length_nil, List.length_cons, Nat.reduceAdd, Nat.reduceLeDiff, Nat.zero_le, Nat.reduceLT, ↓w_nil, ix_nI, nI_leP, nI_ltP, nI_eqP, nI_1, ↓i_inN, i_inN, l_le, l_lt, l_eq, r_le, r_lt, r_eq, sh68_0, sh68_1, sh68_2, sh68_3, sh68_4, ↓w_iconst, ↓w_istore_1, ↓w_iload_1, ↓w_aload_0, ↓w_gf0, ↓w_icge, ↓w_istore_2, ↓w_iload_2, ↓w_bipush, ↓w_iv, ↓pm_cl2_3, ↓w_i2l, ↓pm_cl2_2, ↓w_iinc_2, ↓w_goto, ↓w_iinc_1, ↓w_gf3, ↓w_iaload, ↓pm_cl2_4, ↓w_vret, hrt2])
            | (with_reducible refine m_tell (by omega) ?_ ; simp (disch := first | omega | decide) only [w_nl0, w_nli, w_nlr, ↓w_ts1, ↓w_ts0, w_rcv, w_rfv, w_cs, true_and, and_true, List.length_nil, List.length_cons, Nat.reduceAdd, Nat.reduceLeDiff, Nat.zero_le, Nat.reduceLT, ↓w_nil, ix_nI, nI_leP, nI_ltP, nI_eqP, nI_1, ↓i_inN, i_inN, l_le, l_lt, l_eq, r_le, r_lt, r_eq, sh68_0, sh68_1, sh68_2, sh68_3, sh68_4, ↓w_iconst, ↓w_istore_1, ↓w_iload_1, ↓w_aload_0, ↓w_gf0, ↓w_icge, ↓w_istore_2, ↓w_iload_2, ↓w_bipush, ↓w_iv, ↓pm_cl2_3, ↓w_i2l, ↓pm_cl2_2, ↓w_iinc_2, ↓w_goto, ↓w_iinc_1, ↓w_gf3, ↓w_iaload, ↓pm_cl2_4, ↓w_vret, hrt2])
            | (simp only [w_in])
            | (intro _))
          all_goals grind
        · clear hrt
          refine bX12_tellWorks_8 ?_
          simp (disch := first | omega | decide) only [w_nl0, w_nli, w_nlr, ↓w_ts1, ↓w_ts0, w_rcv, w_rfv, w_cs, true_and, and_true, List.length_nil, List.length_cons, Nat.reduceAdd, Nat.reduceLeDiff, Nat.zero_le, Nat.reduceLT, ↓w_nil, ix_nI, nI_leP, nI_ltP, nI_eqP, nI_1, ↓i_inN, i_inN, l_le, l_lt, l_eq, r_le, r_lt, r_eq, sh68_0, sh68_1, sh68_2, sh68_3, sh68_4, ↓w_iload_2, ↓w_bipush, ↓w_icge, ↓w_aload_0, ↓w_iload_1, ↓w_iv, ↓pm_cl2_3, ↓w_i2l, ↓pm_cl2_2, ↓w_iinc_2, ↓w_goto]
          repeat' (first
            | (apply And.intro)
            | (with_reducible refine bX12_tellWorks_9 ?_; simp (disch := first | omega | decide) only [w_nl0, w_nli, w_nlr, ↓w_ts1, ↓w_ts0, w_rcv, w_rfv, w_cs, true_and, and_true, List.length_nil, List.length_cons, Nat.reduceAdd, Nat.reduceLeDiff, Nat.zero_le, Nat.reduceLT, ↓w_nil, ix_nI, nI_leP, nI_ltP, nI_eqP, nI_1, ↓i_inN, i_inN, l_le, l_lt, l_eq, r_le, r_lt, r_eq, sh68_0, sh68_1, sh68_2, sh68_3, sh68_4, ↓w_iconst, ↓w_istore_1, ↓w_iload_1, ↓w_aload_0, ↓w_gf0, ↓w_icge, ↓w_istore_2, ↓w_iload_2, ↓w_bipush, ↓w_iv, ↓pm_cl2_3, ↓w_i2l, ↓pm_cl2_2, ↓w_iinc_2, ↓w_goto, ↓w_iinc_1, ↓w_gf3, ↓w_iaload, ↓pm_cl2_4, ↓w_vret])
            | (simp only [w_in])
            | (intro _))
          all_goals first | exact w _ | grind
      · have hQ4 : ∀ x1 x2, Q none SH (pm_up (pm_up I 68 21 x1) 68 22 x2) (pm_upL J 68 80 (dgU I y R (itr (fun r h => itr (fun w h => 31 * h + (rtV I r M (nI w)).toInt64) h 7) h3 N))) := hQ3
        clear hQ3 hrt
        generalize itr (fun r h => itr (fun w h => 31 * h + (rtV I r M (nI w)).toInt64) h 7) h3 N = h4 at hQ4 ⊢
        unfold dgU at hQ4
        refine bX12_tellWorks_7 ?_
        simp (disch := first | omega | decide) only [w_nl0, w_nli, w_nlr, ↓w_ts1, ↓w_ts0, w_rcv, w_rfv, w_cs, true_and, and_true, List.length_nil, List.length_cons, Nat.reduceAdd, Nat.reduceLeDiff, Nat.zero_le, Nat.reduceLT, ↓w_nil, ix_nI, nI_leP, nI_ltP, nI_eqP, nI_1, ↓i_inN, i_inN, l_le, l_lt, l_eq, r_le, r_lt, r_eq, sh68_0, sh68_1, sh68_2, sh68_3, sh68_4, ↓w_iload_1, ↓w_aload_0, ↓w_gf0, ↓w_icge, ↓w_iconst, ↓w_istore_2, hN]
        repeat' (first
          | (apply And.intro)
          | (with_reducible refine bX12_tellWorks_10 ?_; simp (disch := first | omega | decide) only [w_nl0, w_nli, w_nlr, ↓w_ts1, ↓w_ts0, w_rcv, w_rfv, w_cs, true_and, and_true, List.length_nil, List.length_cons, Nat.reduceAdd, Nat.reduceLeDiff, Nat.zero_le, Nat.reduceLT, ↓w_nil, ix_nI, nI_leP, nI_ltP, nI_eqP, nI_1, ↓i_inN, i_inN, l_le, l_lt, l_eq, r_le, r_lt, r_eq, sh68_0, sh68_1, sh68_2, sh68_3, sh68_4, ↓w_iconst, ↓w_istore_1, ↓w_iload_1, ↓w_aload_0, ↓w_gf0, ↓w_icge, ↓w_istore_2, ↓w_iload_2, ↓w_bipush, ↓w_iv, ↓pm_cl2_3, ↓w_i2l, ↓pm_cl2_2, ↓w_iinc_2, ↓w_goto, ↓w_iinc_1, ↓w_gf3, ↓w_iaload, ↓pm_cl2_4, ↓w_vret])
          | (simp only [w_in])
          | (intro _))
        all_goals try (clear hf2 hf3 hit; grind)
        refine pm_for (f := fun k h => 31 * (31 * h + (I 32 k).toInt64) + (I 33 k).toInt64) (U := fun k (z : Int64) => UU g (d - 1) 293 kX12_tellWorks (pm_rm d 293) Q 11 [some (.ref 68), some (.int (nI k)), none] [] SH I (pm_upL J 68 80 z) (0, 0)) (a := h4) R (fun r z hr hz w => ?_) ?_
        · clear hz hQ4 hit hf2 hf3
          refine bX12_tellWorks_11 ?_
          simp (disch := first | omega | decide) only [w_nl0, w_nli, w_nlr, ↓w_ts1, ↓w_ts0, w_rcv, w_rfv, w_cs, true_and, and_true, List.length_nil, List.length_cons, Nat.reduceAdd, Nat.reduceLeDiff, Nat.zero_le, Nat.reduceLT, ↓w_nil, ix_nI, nI_leP, nI_ltP, nI_eqP, nI_1, ↓i_inN, i_inN, l_le, l_lt, l_eq, r_le, r_lt, r_eq, sh68_0, sh68_1, sh68_2, sh68_3, sh68_4, ↓w_iload_1, ↓w_aload_0, ↓w_gf0, ↓w_icge, ↓w_gf3, ↓w_iaload, ↓w_i2l, ↓w_iv, ↓pm_cl2_2, ↓w_iinc_1, ↓w_goto, hR]
          repeat' (first
            | (apply And.intro)
            | (with_reducible refine m_tell (by omega) ?_ ; simp (disch := first | omega | decide) only [w_nl0, w_nli, w_nlr, ↓w_ts1, ↓w_ts0, w_rcv, w_rfv, w_cs, true_and, and_true, List.length_nil, List.length_cons, Nat.reduceAdd, Nat.reduceLeDiff, Nat.zero_le, Nat.reduceLT, ↓w_nil, ix_nI, nI_leP, nI_ltP, nI_eqP, nI_1, ↓i_inN, i_inN, l_le, l_lt, l_eq, r_le, r_lt, r_eq, sh68_0, sh68_1, sh68_2, sh68_3, sh68_4, ↓w_iconst, ↓w_istore_1, ↓w_iload_1, ↓w_aload_0, ↓w_gf0, ↓w_icge, ↓w_istore_2, ↓w_iload_2, ↓w_bipush, ↓w_iv, ↓pm_cl2_3, ↓w_i2l, ↓pm_cl2_2, ↓w_iinc_2, ↓w_goto, ↓w_iinc_1, ↓w_gf3, ↓w_iaload, ↓pm_cl2_4, ↓w_vret, x75, x76])
            | (simp only [w_in])
            | (intro _))
          all_goals grind
        · generalize itr (fun k h => 31 * (31 * h + (I 32 k).toInt64) + (I 33 k).toInt64) h4 R = h5 at hQ4 ⊢
          have key : ∀ x1 x2, UU g (d - 1) 293 kX12_tellWorks (pm_rm d 293) Q 13 [some (.ref 68), some (.int (nI 0)), none] [] SH (pm_up (pm_up I 68 21 x1) 68 22 x2) (pm_upL J 68 80 (31 * h5 + (ifV I 16 y y R).toInt64)) (0, 0) := by
            refine pm_for (f := fun l h => 31 * (31 * h + (ifV I (17 + l) y y R).toInt64) + (ifV I (25 + l) y y R).toInt64) (U := fun k (z : Int64) => ∀ x1 x2, UU g (d - 1) 293 kX12_tellWorks (pm_rm d 293) Q 13 [some (.ref 68), some (.int (nI k)), none] [] SH (pm_up (pm_up I 68 21 x1) 68 22 x2) (pm_upL J 68 80 z) (0, 0)) (a := 31 * h5 + (ifV I 16 y y R).toInt64) 8 (fun l z hl hz w => ?_) ?_
            · intro x1 x2
              have g2 := hf2 l hl
              have g3 := hf3 l hl
              clear hz hQ4 hf2 hf3
              refine bX12_tellWorks_13 ?_
              simp (disch := first | omega | decide) only [w_nl0, w_nli, w_nlr, ↓w_ts1, ↓w_ts0, w_rcv, w_rfv, w_cs, true_and, and_true, List.length_nil, List.length_cons, Nat.reduceAdd, Nat.reduceLeDiff, Nat.zero_le, Nat.reduceLT, ↓w_nil, ix_nI, nI_leP, nI_ltP, nI_eqP, nI_1, ↓i_inN, i_inN, l_le, l_lt, l_eq, r_le, r_lt, r_eq, sh68_0, sh68_1, sh68_2, sh68_3, sh68_4, ↓w_iload_1, ↓w_bipush, ↓w_icge, ↓w_aload_0, ↓w_iconst, ↓w_iv, ↓pm_cl2_4, ↓w_i2l, ↓pm_cl2_2, ↓w_iinc_1, ↓w_goto]
              repeat' (first
                | (apply And.intro)
                | (with_reducible refine m_forceNow (y := y) (n := R) (by omega) (by simp (disch := decide) only [pm_up_n, hy]) (by simp (disch := decide) only [pm_up_n, hR]) hR24 (by simpa (disch := decide) only [pm_up_o] using hit) ?_ ; simp (disch := first | omega | decide) only [w_nl0, w_nli, w_nlr, ↓w_ts1, ↓w_ts0, w_rcv, w_rfv, w_cs, true_and, and_true, List.length_nil, List.length_cons, Nat.reduceAdd, Nat.reduceLeDiff, Nat.zero_le, Nat.reduceLT, ↓w_nil, ix_nI, nI_leP, nI_ltP, nI_eqP, nI_1, ↓i_inN, i_inN, l_le, l_lt, l_eq, r_le, r_lt, r_eq, sh68_0, sh68_1, sh68_2, sh68_3, sh68_4, ↓w_iconst, ↓w_istore_1, ↓w_iload_1, ↓w_aload_0, ↓w_gf0, ↓w_icge, ↓w_istore_2, ↓w_iload_2, ↓w_bipush, ↓w_iv, ↓pm_cl2_3, ↓w_i2l, ↓pm_cl2_2, ↓w_iinc_2, ↓w_goto, ↓w_iinc_1, ↓w_gf3, ↓w_iaload, ↓pm_cl2_4, ↓w_vret, sfV_up, up_over, g2, g3])
                | (with_reducible refine m_tell (by omega) ?_ ; simp (disch := first | omega | decide) only [w_nl0, w_nli, w_nlr, ↓w_ts1, ↓w_ts0, w_rcv, w_rfv, w_cs, true_and, and_true, List.length_nil, List.length_cons, Nat.reduceAdd, Nat.reduceLeDiff, Nat.zero_le, Nat.reduceLT, ↓w_nil, ix_nI, nI_leP, nI_ltP, nI_eqP, nI_1, ↓i_inN, i_inN, l_le, l_lt, l_eq, r_le, r_lt, r_eq, sh68_0, sh68_1, sh68_2, sh68_3, sh68_4, ↓w_iconst, ↓w_istore_1, ↓w_iload_1, ↓w_aload_0, ↓w_gf0, ↓w_icge, ↓w_istore_2, ↓w_iload_2, ↓w_bipush, ↓w_iv, ↓pm_cl2_3, ↓w_i2l, ↓pm_cl2_2, ↓w_iinc_2, ↓w_goto, ↓w_iinc_1, ↓w_gf3, ↓w_iaload, ↓pm_cl2_4, ↓w_vret, sfV_up, up_over, g2, g3])
                | (simp only [w_in])
                | (intro _))
              all_goals (clear hit; grind)
            · intro x1 x2
              have hQ5 := hQ4 x1 x2
              clear hQ4 hf2 hf3 hit
              refine bX12_tellWorks_13 ?_
              simp (disch := first | omega | decide) only [w_nl0, w_nli, w_nlr, ↓w_ts1, ↓w_ts0, w_rcv, w_rfv, w_cs, true_and, and_true, List.length_nil, List.length_cons, Nat.reduceAdd, Nat.reduceLeDiff, Nat.zero_le, Nat.reduceLT, ↓w_nil, ix_nI, nI_leP, nI_ltP, nI_eqP, nI_1, ↓i_inN, i_inN, l_le, l_lt, l_eq, r_le, r_lt, r_eq, sh68_0, sh68_1, sh68_2, sh68_3, sh68_4, ↓w_iload_1, ↓w_bipush, ↓w_icge, ↓w_aload_0, ↓w_iconst, ↓w_iv, ↓pm_cl2_4, ↓w_i2l, ↓pm_cl2_2, ↓w_iinc_1, ↓w_goto]
              repeat' (first
                | (apply And.intro)
                | (with_reducible refine bX12_tellWorks_14 ?_; simp (disch := first | omega | decide) only [w_nl0, w_nli, w_nlr, ↓w_ts1, ↓w_ts0, w_rcv, w_rfv, w_cs, true_and, and_true, List.length_nil, List.length_cons, Nat.reduceAdd, Nat.reduceLeDiff, Nat.zero_le, Nat.reduceLT, ↓w_nil, ix_nI, nI_leP, nI_ltP, nI_eqP, nI_1, ↓i_inN, i_inN, l_le, l_lt, l_eq, r_le, r_lt, r_eq, sh68_0, sh68_1, sh68_2, sh68_3, sh68_4, ↓w_iconst, ↓w_istore_1, ↓w_iload_1, ↓w_aload_0, ↓w_gf0, ↓w_icge, ↓w_istore_2, ↓w_iload_2, ↓w_bipush, ↓w_iv, ↓pm_cl2_3, ↓w_i2l, ↓pm_cl2_2, ↓w_iinc_2, ↓w_goto, ↓w_iinc_1, ↓w_gf3, ↓w_iaload, ↓pm_cl2_4, ↓w_vret])
                | (simp only [w_in])
                | (intro _))
              all_goals grind
          have key2 : UU g (d - 1) 293 kX12_tellWorks (pm_rm d 293) Q 13 [some (.ref 68), some (.int 0), none] [] SH (pm_up (pm_up I 68 21 (sfV I 1 0 0 y y R).1) 68 22 (sfV I 1 0 0 y y R).2) (pm_upL J 68 80 (31 * h5 + (ifV I 16 y y R).toInt64)) (0, 0) := key (sfV I 1 0 0 y y R).1 (sfV I 1 0 0 y y R).2
          rw [hf1] at key2
          clear key hQ4 hf2 hf3
          refine bX12_tellWorks_11 ?_
          simp (disch := first | omega | decide) only [w_nl0, w_nli, w_nlr, ↓w_ts1, ↓w_ts0, w_rcv, w_rfv, w_cs, true_and, and_true, List.length_nil, List.length_cons, Nat.reduceAdd, Nat.reduceLeDiff, Nat.zero_le, Nat.reduceLT, ↓w_nil, ix_nI, nI_leP, nI_ltP, nI_eqP, nI_1, ↓i_inN, i_inN, l_le, l_lt, l_eq, r_le, r_lt, r_eq, sh68_0, sh68_1, sh68_2, sh68_3, sh68_4, ↓w_iload_1, ↓w_aload_0, ↓w_gf0, ↓w_icge, ↓w_gf3, ↓w_iaload, ↓w_i2l, ↓w_iv, ↓pm_cl2_2, ↓w_iinc_1, ↓w_goto, hR]
          repeat' (first
            | (apply And.intro)
            | (with_reducible refine bX12_tellWorks_12 ?_; simp (disch := first | omega | decide) only [w_nl0, w_nli, w_nlr, ↓w_ts1, ↓w_ts0, w_rcv, w_rfv, w_cs, true_and, and_true, List.length_nil, List.length_cons, Nat.reduceAdd, Nat.reduceLeDiff, Nat.zero_le, Nat.reduceLT, ↓w_nil, ix_nI, nI_leP, nI_ltP, nI_eqP, nI_1, ↓i_inN, i_inN, l_le, l_lt, l_eq, r_le, r_lt, r_eq, sh68_0, sh68_1, sh68_2, sh68_3, sh68_4, ↓w_iconst, ↓w_istore_1, ↓w_iload_1, ↓w_aload_0, ↓w_gf0, ↓w_icge, ↓w_istore_2, ↓w_iload_2, ↓w_bipush, ↓w_iv, ↓pm_cl2_3, ↓w_i2l, ↓pm_cl2_2, ↓w_iinc_2, ↓w_goto, ↓w_iinc_1, ↓w_gf3, ↓w_iaload, ↓pm_cl2_4, ↓w_vret, hf1])
            | (with_reducible refine m_forceNow (y := y) (n := R) (by omega) hy hR hR24 hit ?_ ; simp (disch := first | omega | decide) only [w_nl0, w_nli, w_nlr, ↓w_ts1, ↓w_ts0, w_rcv, w_rfv, w_cs, true_and, and_true, List.length_nil, List.length_cons, Nat.reduceAdd, Nat.reduceLeDiff, Nat.zero_le, Nat.reduceLT, ↓w_nil, ix_nI, nI_leP, nI_ltP, nI_eqP, nI_1, ↓i_inN, i_inN, l_le, l_lt, l_eq, r_le, r_lt, r_eq, sh68_0, sh68_1, sh68_2, sh68_3, sh68_4, ↓w_iconst, ↓w_istore_1, ↓w_iload_1, ↓w_aload_0, ↓w_gf0, ↓w_icge, ↓w_istore_2, ↓w_iload_2, ↓w_bipush, ↓w_iv, ↓pm_cl2_3, ↓w_i2l, ↓pm_cl2_2, ↓w_iinc_2, ↓w_goto, ↓w_iinc_1, ↓w_gf3, ↓w_iaload, ↓pm_cl2_4, ↓w_vret, hf1])
            | (with_reducible refine m_tell (by omega) ?_ ; simp (disch := first | omega | decide) only [w_nl0, w_nli, w_nlr, ↓w_ts1, ↓w_ts0, w_rcv, w_rfv, w_cs, true_and, and_true, List.length_nil, List.length_cons, Nat.reduceAdd, Nat.reduceLeDiff, Nat.zero_le, Nat.reduceLT, ↓w_nil, ix_nI, nI_leP, nI_ltP, nI_eqP, nI_1, ↓i_inN, i_inN, l_le, l_lt, l_eq, r_le, r_lt, r_eq, sh68_0, sh68_1, sh68_2, sh68_3, sh68_4, ↓w_iconst, ↓w_istore_1, ↓w_iload_1, ↓w_aload_0, ↓w_gf0, ↓w_icge, ↓w_istore_2, ↓w_iload_2, ↓w_bipush, ↓w_iv, ↓pm_cl2_3, ↓w_i2l, ↓pm_cl2_2, ↓w_iinc_2, ↓w_goto, ↓w_iinc_1, ↓w_gf3, ↓w_iaload, ↓pm_cl2_4, ↓w_vret, hf1])
            | (simp only [w_in])
            | (intro _))
          all_goals (clear hit; grind)
end C69
