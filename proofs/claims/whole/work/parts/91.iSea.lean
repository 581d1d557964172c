section C91i
variable {g : pm_G} {d : Nat} {Q : pm_Po} {S : pm_SS} {I : pm_MI} {J : pm_ML}
/-! ===== the class's search ===== -/
def nxC (ch : Nat → Int32) (s : Nat) (last : Int32) : Int32 := itr (fun i (n : Int32) => if last < ch i ∧ ch i < n then ch i else n) 160 s
theorem c_nextChosen {s : Nat} {last : Int32} (hd : 1 ≤ d) (hs : I 42 12 = nI s) (hs3 : s ≤ 3) (hQ : Q (some (.int (nxC (I 52) s last))) SH I J) : pm_C g d 98 [.ref 42, .int last] Q SH I J := by
  unfold nxC at hQ
  refine eX8_nextChosen (by omega) ?_
  refine bX8_nextChosen_0 ?_
  simp (disch := first | omega | decide) only [w_nl0, w_nli, w_nlr, ↓w_ts1, ↓w_ts0, w_rcv, w_rfv, w_cs, true_and, and_true, List.length_nil, List.length_cons, Nat.reduceAdd, Nat.reduceLeDiff, Nat.zero_le, Nat.reduceLT, ↓w_nil, ix_nI, nI_leP, nI_ltP, nI_eqP, nI_1, ↓i_inN, i_inN, l_le, l_lt, l_eq, r_le, r_lt, r_eq, sh42, sh43, sh37, sh9, sh23, ↓w_sipush, ↓w_istore_2, ↓w_iconst, ↓w_istore_3]
  refine pm_for (f := fun i (n : Int32) => if last < I 52 i ∧ I 52 i < n then I 52 i else n) (U := fun k a => UU g (d - 1) 98 kX8_nextChosen (pm_rm d 98) Q 1 [some (.ref 42), some (.int last), some (.int a), some (.int (nI k))] [] SH I J (0, 0)) s (fun k b hk hb w => ?_) ?_
  · clear hQ hb
    refine bX8_nextChosen_1 ?_
    simp (disch := first | omega | decide) only [w_nl0, w_nli, w_nlr, ↓w_ts1, ↓w_ts0, w_rcv, w_rfv, w_cs, true_and, and_true, List.length_nil, List.length_cons, Nat.reduceAdd, Nat.reduceLeDiff, Nat.zero_le, Nat.reduceLT, ↓w_nil, ix_nI, nI_leP, nI_ltP, nI_eqP, nI_1, ↓i_inN, i_inN, l_le, l_lt, l_eq, r_le, r_lt, r_eq, sh42, sh43, sh37, sh9, sh23, ↓w_iload_3, ↓w_aload_0, ↓w_gf0, ↓w_icge, ↓w_iconst, ↓w_gf3, ↓w_iaload, ↓w_iload_1, ↓w_icle, ↓w_iload_2, ↓w_istore_2, hs]
    repeat' (first
      | (apply And.intro)
      | (with_reducible refine bX8_nextChosen_2 ?_; simp (disch := first | omega | decide) only [w_nl0, w_nli, w_nlr, ↓w_ts1, ↓w_ts0, w_rcv, w_rfv, w_cs, true_and, and_true, List.length_nil, List.length_cons, Nat.reduceAdd, Nat.reduceLeDiff, Nat.zero_le, Nat.reduceLT, ↓w_nil, ix_nI, nI_leP, nI_ltP, nI_eqP, nI_1, ↓i_inN, i_inN, l_le, l_lt, l_eq, r_le, r_lt, r_eq, sh42, sh43, sh37, sh9, sh23, ↓w_sipush, ↓w_istore_2, ↓w_iconst, ↓w_istore_3, ↓w_iload_3, ↓w_aload_0, ↓w_gf0, ↓w_icge, ↓w_gf3, ↓w_iaload, ↓w_iload_1, ↓w_icle, ↓w_iload_2, ↓w_iinc_3, ↓w_goto, ↓w_ret, hs])
      | (simp only [w_in])
      | (intro _))
    all_goals grind
  · refine bX8_nextChosen_1 ?_
    simp (disch := first | omega | decide) only [w_nl0, w_nli, w_nlr, ↓w_ts1, ↓w_ts0, w_rcv, w_rfv, w_cs, true_and, and_true, List.length_nil, List.length_cons, Nat.reduceAdd, Nat.reduceLeDiff, Nat.zero_le, Nat.reduceLT, ↓w_nil, ix_nI, nI_leP, nI_ltP, nI_eqP, nI_1, ↓i_inN, i_inN, l_le, l_lt, l_eq, r_le, r_lt, r_eq, sh42, sh43, sh37, sh9, sh23, ↓w_iload_3, ↓w_aload_0, ↓w_gf0, ↓w_icge, ↓w_iconst, ↓w_gf3, ↓w_iaload, ↓w_iload_1, ↓w_icle, ↓w_iload_2, ↓w_istore_2, hs]
    repeat' (first
      | (apply And.intro)
      | (with_reducible refine bX8_nextChosen_3 ?_; simp (disch := first | omega | decide) only [w_nl0, w_nli, w_nlr, ↓w_ts1, ↓w_ts0, w_rcv, w_rfv, w_cs, true_and, and_true, List.length_nil, List.length_cons, Nat.reduceAdd, Nat.reduceLeDiff, Nat.zero_le, Nat.reduceLT, ↓w_nil, ix_nI, nI_leP, nI_ltP, nI_eqP, nI_1, ↓i_inN, i_inN, l_le, l_lt, l_eq, r_le, r_lt, r_eq, sh42, sh43, sh37, sh9, sh23, ↓w_sipush, ↓w_istore_2, ↓w_iconst, ↓w_istore_3, ↓w_iload_3, ↓w_aload_0, ↓w_gf0, ↓w_icge, ↓w_gf3, ↓w_iaload, ↓w_iload_1, ↓w_icle, ↓w_iload_2, ↓w_iinc_3, ↓w_goto, ↓w_ret])
      | (simp only [w_in])
      | (intro _))
    all_goals first | (with_reducible exact hQ) | omega | grind
def rkF (ch : Nat → Int32) (s : Nat) (x : Int64) : Int64 := (itr (fun i (a : Int64 × Int32) => ((a.1 <<< ((8 : Int32).toInt64 &&& 63)) ||| (if i < s then nxC ch s a.2 else 0).toInt64, if i < s then nxC ch s a.2 else 0)) ((nI (pc x)).toInt64, (-1 : Int32)) 3).1
theorem nxC_cg {ch ch2 : Nat → Int32} {s : Nat} (h : ∀ i, i < s → ch i = ch2 i) {last : Int32} : nxC ch s last = nxC ch2 s last := itr_cong (fun i hi b => by rw [h i hi])
theorem rkF_cg {ch ch2 : Nat → Int32} {s : Nat} (h : ∀ i, i < s → ch i = ch2 i) {x : Int64} : rkF ch s x = rkF ch2 s x := by
  unfold rkF
  rw [itr_cong (fun i hi b => by rw [nxC_cg h])]
theorem c_rank {s : Nat} {x : Int64} (hd : 2 ≤ d) (hs : I 42 12 = nI s) (hs3 : s ≤ 3) (hQ : Q (some (.long (rkF (I 52) s x))) SH I J) : pm_C g d 97 [.ref 42, .long x] Q SH I J := by
  have w : UU g (d - 1) 97 kX8_rank (pm_rm d 97) Q 1 [some (.ref 42), some (.long x), none, some (.long (nI (pc x)).toInt64), none, some (.int (-1)), some (.int 0)] [] SH I J (0, 0) := by
    unfold rkF at hQ
    refine pm_for (f := fun i (a : Int64 × Int32) => ((a.1 <<< ((8 : Int32).toInt64 &&& 63)) ||| (if i < s then nxC (I 52) s a.2 else 0).toInt64, if i < s then nxC (I 52) s a.2 else 0)) (a := ((nI (pc x)).toInt64, (-1 : Int32))) (U := fun k a => UU g (d - 1) 97 kX8_rank (pm_rm d 97) Q 1 [some (.ref 42), some (.long x), none, some (.long a.1), none, some (.int a.2), some (.int (nI k))] [] SH I J (0, 0)) 3 (fun k b hk hb w => ?_) ?_
    · clear hQ hb
      obtain ⟨b1, b2⟩ := b
      by_cases hc : k < s
      · have w : UU g (d - 1) 97 kX8_rank (pm_rm d 97) Q 1 [some (.ref 42), some (.long x), none, some (.long ((b1 <<< ((8 : Int32).toInt64 &&& 63)) ||| (nxC (I 52) s b2).toInt64)), none, some (.int (nxC (I 52) s b2)), some (.int (nI (k + 1)))] [] SH I J (0, 0) := by
          have w' := w
          simp only [if_pos hc] at w'
          exact w'
        refine bX8_rank_1 ?_
        simp (disch := first | omega | decide) only [w_nl0, w_nli, w_nlr, ↓w_ts1, ↓w_ts0, w_rcv, w_rfv, w_cs, true_and, and_true, List.length_nil, List.length_cons, Nat.reduceAdd, Nat.reduceLeDiff, Nat.zero_le, Nat.reduceLT, ↓w_nil, ix_nI, nI_leP, nI_ltP, nI_eqP, nI_1, ↓i_inN, i_inN, l_le, l_lt, l_eq, r_le, r_lt, r_eq, sh42, sh43, sh37, sh9, sh23, ↓w_iload_6, ↓w_iconst, ↓w_icge, ↓w_aload_0, ↓w_gf0, ↓w_iload_5, ↓w_iv, ↓pm_cl2_2, ↓w_goto, hs]
        repeat' (first
          | (apply And.intro)
          | (with_reducible refine bX8_rank_3 ?_; simp (disch := first | omega | decide) only [w_nl0, w_nli, w_nlr, ↓w_ts1, ↓w_ts0, w_rcv, w_rfv, w_cs, true_and, and_true, List.length_nil, List.length_cons, Nat.reduceAdd, Nat.reduceLeDiff, Nat.zero_le, Nat.reduceLT, ↓w_nil, ix_nI, nI_leP, nI_ltP, nI_eqP, nI_1, ↓i_inN, i_inN, l_le, l_lt, l_eq, r_le, r_lt, r_eq, sh42, sh43, sh37, sh9, sh23, ↓w_lload_1, ↓w_is, ↓pm_cl1_1, ↓w_i2l, ↓w_lstore_3, ↓w_iconst, ↓w_istore_5, ↓w_istore_6, ↓w_iload_6, ↓w_icge, ↓w_aload_0, ↓w_gf0, ↓w_iload_5, ↓w_iv, ↓pm_cl2_2, ↓w_goto, ↓w_lload_3, ↓w_bipush, ↓w_lshl, ↓w_lor, ↓w_iinc_6, ↓w_lret, hs])
          | (with_reducible refine c_nextChosen (by omega) hs hs3 ?_ ; simp (disch := first | omega | decide) only [w_nl0, w_nli, w_nlr, ↓w_ts1, ↓w_ts0, w_rcv, w_rfv, w_cs, true_and, and_true, List.length_nil, List.length_cons, Nat.reduceAdd, Nat.reduceLeDiff, Nat.zero_le, Nat.reduceLT, ↓w_nil, ix_nI, nI_leP, nI_ltP, nI_eqP, nI_1, ↓i_inN, i_inN, l_le, l_lt, l_eq, r_le, r_lt, r_eq, sh42, sh43, sh37, sh9, sh23, ↓w_lload_1, ↓w_is, ↓pm_cl1_1, ↓w_i2l, ↓w_lstore_3, ↓w_iconst, ↓w_istore_5, ↓w_istore_6, ↓w_iload_6, ↓w_icge, ↓w_aload_0, ↓w_gf0, ↓w_iload_5, ↓w_iv, ↓pm_cl2_2, ↓w_goto, ↓w_lload_3, ↓w_bipush, ↓w_lshl, ↓w_lor, ↓w_iinc_6, ↓w_lret, hs])
          | (simp only [w_in])
          | (intro _))
        all_goals first | (with_reducible exact w) | omega | grind
      · have w : UU g (d - 1) 97 kX8_rank (pm_rm d 97) Q 1 [some (.ref 42), some (.long x), none, some (.long ((b1 <<< ((8 : Int32).toInt64 &&& 63)) ||| (0 : Int32).toInt64)), none, some (.int 0), some (.int (nI (k + 1)))] [] SH I J (0, 0) := by
          have w' := w
          simp only [if_neg hc] at w'
          exact w'
        refine bX8_rank_1 ?_
        simp (disch := first | omega | decide) only [w_nl0, w_nli, w_nlr, ↓w_ts1, ↓w_ts0, w_rcv, w_rfv, w_cs, true_and, and_true, List.length_nil, List.length_cons, Nat.reduceAdd, Nat.reduceLeDiff, Nat.zero_le, Nat.reduceLT, ↓w_nil, ix_nI, nI_leP, nI_ltP, nI_eqP, nI_1, ↓i_inN, i_inN, l_le, l_lt, l_eq, r_le, r_lt, r_eq, sh42, sh43, sh37, sh9, sh23, ↓w_iload_6, ↓w_iconst, ↓w_icge, ↓w_aload_0, ↓w_gf0, ↓w_iload_5, ↓w_iv, ↓pm_cl2_2, ↓w_goto, hs]
        repeat' (first
          | (apply And.intro)
          | (with_reducible refine bX8_rank_2 ?_; simp (disch := first | omega | decide) only [w_nl0, w_nli, w_nlr, ↓w_ts1, ↓w_ts0, w_rcv, w_rfv, w_cs, true_and, and_true, List.length_nil, List.length_cons, Nat.reduceAdd, Nat.reduceLeDiff, Nat.zero_le, Nat.reduceLT, ↓w_nil, ix_nI, nI_leP, nI_ltP, nI_eqP, nI_1, ↓i_inN, i_inN, l_le, l_lt, l_eq, r_le, r_lt, r_eq, sh42, sh43, sh37, sh9, sh23, ↓w_lload_1, ↓w_is, ↓pm_cl1_1, ↓w_i2l, ↓w_lstore_3, ↓w_iconst, ↓w_istore_5, ↓w_istore_6, ↓w_iload_6, ↓w_icge, ↓w_aload_0, ↓w_gf0, ↓w_iload_5, ↓w_iv, ↓pm_cl2_2, ↓w_goto, ↓w_lload_3, ↓w_bipush, ↓w_lshl, ↓w_lor, ↓w_iinc_6, ↓w_lret, hs])
          | (with_reducible refine bX8_rank_3 ?_; simp (disch := first | omega | decide) only [w_nl0, w_nli, w_nlr, ↓w_ts1, ↓w_ts0, w_rcv, w_rfv, w_cs, true_and, and_true, List.length_nil, List.length_cons, Nat.reduceAdd, Nat.reduceLeDiff, Nat.zero_le, Nat.reduceLT, ↓w_nil, ix_nI, nI_leP, nI_ltP, nI_eqP, nI_1, ↓i_inN, i_inN, l_le, l_lt, l_eq, r_le, r_lt, r_eq, sh42, sh43, sh37, sh9, sh23, ↓w_lload_1, ↓w_is, ↓pm_cl1_1, ↓w_i2l, ↓w_lstore_3, ↓w_iconst, ↓w_istore_5, ↓w_istore_6, ↓w_iload_6, ↓w_icge, ↓w_aload_0, ↓w_gf0, ↓w_iload_5, ↓w_iv, ↓pm_cl2_2, ↓w_goto, ↓w_lload_3, ↓w_bipush, ↓w_lshl, ↓w_lor, ↓w_iinc_6, ↓w_lret, hs])
          | (simp only [w_in])
          | (intro _))
        all_goals first | (with_reducible exact w) | omega | grind
    · refine bX8_rank_1 ?_
      simp (disch := first | omega | decide) only [w_nl0, w_nli, w_nlr, ↓w_ts1, ↓w_ts0, w_rcv, w_rfv, w_cs, true_and, and_true, List.length_nil, List.length_cons, Nat.reduceAdd, Nat.reduceLeDiff, Nat.zero_le, Nat.reduceLT, ↓w_nil, ix_nI, nI_leP, nI_ltP, nI_eqP, nI_1, ↓i_inN, i_inN, l_le, l_lt, l_eq, r_le, r_lt, r_eq, sh42, sh43, sh37, sh9, sh23, ↓w_iload_6, ↓w_iconst, ↓w_icge, ↓w_aload_0, ↓w_gf0, ↓w_iload_5, ↓w_iv, ↓pm_cl2_2, ↓w_goto]
      repeat' (first
        | (apply And.intro)
        | (with_reducible refine bX8_rank_4 ?_; simp (disch := first | omega | decide) only [w_nl0, w_nli, w_nlr, ↓w_ts1, ↓w_ts0, w_rcv, w_rfv, w_cs, true_and, and_true, List.length_nil, List.length_cons, Nat.reduceAdd, Nat.reduceLeDiff, Nat.zero_le, Nat.reduceLT, ↓w_nil, ix_nI, nI_leP, nI_ltP, nI_eqP, nI_1, ↓i_inN, i_inN, l_le, l_lt, l_eq, r_le, r_lt, r_eq, sh42, sh43, sh37, sh9, sh23, ↓w_lload_1, ↓w_is, ↓pm_cl1_1, ↓w_i2l, ↓w_lstore_3, ↓w_iconst, ↓w_istore_5, ↓w_istore_6, ↓w_iload_6, ↓w_icge, ↓w_aload_0, ↓w_gf0, ↓w_iload_5, ↓w_iv, ↓pm_cl2_2, ↓w_goto, ↓w_lload_3, ↓w_bipush, ↓w_lshl, ↓w_lor, ↓w_iinc_6, ↓w_lret])
        | (simp only [w_in])
        | (intro _))
      all_goals first | (with_reducible exact hQ) | omega | grind
  clear hQ
  refine eX8_rank (by omega) ?_
  repeat' (first
    | (apply And.intro)
    | (with_reducible refine bX8_rank_0 ?_; simp (disch := first | omega | decide) only [w_nl0, w_nli, w_nlr, ↓w_ts1, ↓w_ts0, w_rcv, w_rfv, w_cs, true_and, and_true, List.length_nil, List.length_cons, Nat.reduceAdd, Nat.reduceLeDiff, Nat.zero_le, Nat.reduceLT, ↓w_nil, ix_nI, nI_leP, nI_ltP, nI_eqP, nI_1, ↓i_inN, i_inN, l_le, l_lt, l_eq, r_le, r_lt, r_eq, sh42, sh43, sh37, sh9, sh23, ↓w_lload_1, ↓w_is, ↓pm_cl1_1, ↓w_i2l, ↓w_lstore_3, ↓w_iconst, ↓w_istore_5, ↓w_istore_6, ↓w_iload_6, ↓w_icge, ↓w_aload_0, ↓w_gf0, ↓w_iload_5, ↓w_iv, ↓pm_cl2_2, ↓w_goto, ↓w_lload_3, ↓w_bipush, ↓w_lshl, ↓w_lor, ↓w_iinc_6, ↓w_lret])
    | (with_reducible refine c_bitL (by omega) ?_ ; simp (disch := first | omega | decide) only [w_nl0, w_nli, w_nlr, ↓w_ts1, ↓w_ts0, w_rcv, w_rfv, w_cs, true_and, and_true, List.length_nil, List.length_cons, Nat.reduceAdd, Nat.reduceLeDiff, Nat.zero_le, Nat.reduceLT, ↓w_nil, ix_nI, nI_leP, nI_ltP, nI_eqP, nI_1, ↓i_inN, i_inN, l_le, l_lt, l_eq, r_le, r_lt, r_eq, sh42, sh43, sh37, sh9, sh23, ↓w_lload_1, ↓w_is, ↓pm_cl1_1, ↓w_i2l, ↓w_lstore_3, ↓w_iconst, ↓w_istore_5, ↓w_istore_6, ↓w_iload_6, ↓w_icge, ↓w_aload_0, ↓w_gf0, ↓w_iload_5, ↓w_iv, ↓pm_cl2_2, ↓w_goto, ↓w_lload_3, ↓w_bipush, ↓w_lshl, ↓w_lor, ↓w_iinc_6, ↓w_lret])
    | (simp only [w_in])
    | (intro _))
  all_goals first | (with_reducible exact w) | omega | grind
theorem us_f {x : Int64} {k : Int32} : (x.toUInt64 >>> (k.toInt64.toUInt64 &&& Int64.toUInt64 63)).toInt64 = us x k := rfl
theorem tb_us1 {x : Int64} {e : Nat} : tb (us x 1) e = tb x (1 + e) := tb_us (k := 1) (by omega)
theorem and_1 {c : Int64} : c &&& 1 = 0 ↔ ¬ tb c 0 = true := and_bit (k := 0) (by omega)
theorem c_tally {cov mis rk X : Int64} {I2 : pm_MI} {J2 : pm_ML} (fin : ∀ I', (∀ a, a ≠ 53 → I' a = I2 a) → (∀ k, k < 60 → I' 53 k = if tb X k = true then I2 53 k + 1 else I2 53 k) → Q none SH I' J2) : UU g (d - 1) 96 kX8_take (pm_rm d 96) Q 3 [some (.ref 42), some (.long cov), none, some (.long mis), none, some (.long rk), none, some (.long X), none, some (.int 0)] [] SH I2 J2 (0, 0) := by
  have key : ∀ q f, f + q = 60 → ∀ L I3, (∀ a, a ≠ 53 → I3 a = I2 a) → (∀ k, k < f → I3 53 k = if tb X k = true then I2 53 k + 1 else I2 53 k) → (∀ k, f ≤ k → I3 53 k = I2 53 k) → (∀ e, tb L e = tb X (f + e)) → UU g (d - 1) 96 kX8_take (pm_rm d 96) Q 3 [some (.ref 42), some (.long cov), none, some (.long mis), none, some (.long rk), none, some (.long L), none, some (.int (nI f))] [] SH I3 J2 (0, 0) := by
    intro q
    induction q with
    | zero =>
      intro f hf L I3 h1 h2 h3 h4
      have e60 : f = 60 := by omega
      subst e60
      have hq := fin I3 h1 h2
      clear fin h1 h2 h3 h4
      refine bX8_take_3 ?_
      simp (disch := first | omega | decide) only [w_nl0, w_nli, w_nlr, ↓w_ts1, ↓w_ts0, w_rcv, w_rfv, w_cs, true_and, and_true, List.length_nil, List.length_cons, Nat.reduceAdd, Nat.reduceLeDiff, Nat.zero_le, Nat.reduceLT, ↓w_nil, ix_nI, nI_leP, nI_ltP, nI_eqP, nI_1, ↓i_inN, i_inN, l_le, l_lt, l_eq, r_le, r_lt, r_eq, sh42, sh43, sh37, sh9, sh23, ↓w_iload_9, ↓w_aload_0, ↓w_gf3, ↓w_alen, ↓w_slen, ↓w_icge, ↓w_lload_7, ↓w_lconst0, ↓w_lcmp, ↓w_ifeq, ↓w_lconst1, ↓w_land, ↓w_dup2, ↓w_iaload, ↓w_iconst, ↓w_iadd, ↓w_iastore, l_onI]
      repeat' (first
        | (apply And.intro)
        | (with_reducible refine bX8_take_5 ?_; simp (disch := first | omega | decide) only [w_nl0, w_nli, w_nlr, ↓w_ts1, ↓w_ts0, w_rcv, w_rfv, w_cs, true_and, and_true, List.length_nil, List.length_cons, Nat.reduceAdd, Nat.reduceLeDiff, Nat.zero_le, Nat.reduceLT, ↓w_nil, ix_nI, nI_leP, nI_ltP, nI_eqP, nI_1, ↓i_inN, i_inN, l_le, l_lt, l_eq, r_le, r_lt, r_eq, sh42, sh43, sh37, sh9, sh23, ↓w_aload_0, ↓w_lload_3, ↓w_iv, ↓pm_cl2_2, ↓w_lstore_5, ↓w_gf0, ↓w_ifeq, ↓w_lload_5, ↓w_gf1, ↓w_lcmp, ↓w_ifge, ↓w_pf1, ↓w_dup_i, ↓w_dup_r, ↓w_iconst, ↓w_iadd, ↓w_pf0, ↓w_lload_1, ↓w_land, ↓w_lstore_7, ↓w_istore_9, ↓w_iload_9, ↓w_gf3, ↓w_alen, ↓w_slen, ↓w_icge, ↓w_lload_7, ↓w_lconst0, ↓w_lconst1, ↓w_dup2, ↓w_iaload, ↓w_iastore, ↓w_lushr, ↓w_iinc_9, ↓w_goto, ↓w_vret])
        | (simp only [w_in])
        | (intro _))
      all_goals first | (with_reducible exact hq) | omega | grind
    | succ q ih =>
      intro f hf L I3 h1 h2 h3 h4
      have h5 := h4 0
      rw [Nat.add_zero] at h5
      by_cases hz : L = 0
      · have hq := fin I3 h1 (fun k hk => by
          rcases Nat.lt_or_ge k f with c | c
          · exact h2 k c
          · rw [h3 k c]
            have h6 := h4 (k - f)
            rw [hz, tb_0, show f + (k - f) = k by omega] at h6
            rw [← h6]
            rfl)
        clear fin h1 h2 h3 h4 ih
        refine bX8_take_3 ?_
        simp (disch := first | omega | decide) only [w_nl0, w_nli, w_nlr, ↓w_ts1, ↓w_ts0, w_rcv, w_rfv, w_cs, true_and, and_true, List.length_nil, List.length_cons, Nat.reduceAdd, Nat.reduceLeDiff, Nat.zero_le, Nat.reduceLT, ↓w_nil, ix_nI, nI_leP, nI_ltP, nI_eqP, nI_1, ↓i_inN, i_inN, l_le, l_lt, l_eq, r_le, r_lt, r_eq, sh42, sh43, sh37, sh9, sh23, ↓w_iload_9, ↓w_aload_0, ↓w_gf3, ↓w_alen, ↓w_slen, ↓w_icge, ↓w_lload_7, ↓w_lconst0, ↓w_lcmp, ↓w_ifeq, ↓w_lconst1, ↓w_land, ↓w_dup2, ↓w_iaload, ↓w_iconst, ↓w_iadd, ↓w_iastore, lg_eq0, l_onI]
        repeat' (first
          | (apply And.intro)
          | (with_reducible refine bX8_take_5 ?_; simp (disch := first | omega | decide) only [w_nl0, w_nli, w_nlr, ↓w_ts1, ↓w_ts0, w_rcv, w_rfv, w_cs, true_and, and_true, List.length_nil, List.length_cons, Nat.reduceAdd, Nat.reduceLeDiff, Nat.zero_le, Nat.reduceLT, ↓w_nil, ix_nI, nI_leP, nI_ltP, nI_eqP, nI_1, ↓i_inN, i_inN, l_le, l_lt, l_eq, r_le, r_lt, r_eq, sh42, sh43, sh37, sh9, sh23, ↓w_aload_0, ↓w_lload_3, ↓w_iv, ↓pm_cl2_2, ↓w_lstore_5, ↓w_gf0, ↓w_ifeq, ↓w_lload_5, ↓w_gf1, ↓w_lcmp, ↓w_ifge, ↓w_pf1, ↓w_dup_i, ↓w_dup_r, ↓w_iconst, ↓w_iadd, ↓w_pf0, ↓w_lload_1, ↓w_land, ↓w_lstore_7, ↓w_istore_9, ↓w_iload_9, ↓w_gf3, ↓w_alen, ↓w_slen, ↓w_icge, ↓w_lload_7, ↓w_lconst0, ↓w_lconst1, ↓w_dup2, ↓w_iaload, ↓w_iastore, ↓w_lushr, ↓w_iinc_9, ↓w_goto, ↓w_vret, lg_eq0])
          | (simp only [w_in])
          | (intro _))
        all_goals first | (with_reducible exact hq) | omega | grind
      · by_cases hb : tb L 0 = true
        · have w := ih (f + 1) (by omega) (us L 1) (pm_up I3 53 f (I3 53 f + 1)) (fun a ha => by rw [pm_up_o ha]; exact h1 a ha) (fun k hk => by
            by_cases e : k = f
            · subst e; rw [pm_up_s, h3 k (Nat.le_refl k), ← h5, if_pos hb]
            · rw [pm_up_n e]; exact h2 k (by omega)) (fun k hk => by rw [pm_up_n (by omega)]; exact h3 k (by omega)) (fun e => by rw [tb_us1, h4, show f + (1 + e) = f + 1 + e by omega])
          have hnz : ¬ L &&& 1 = 0 := fun z => and_1.mp z hb
          have w4 : UU g (d - 1) 96 kX8_take (pm_rm d 96) Q 4 [some (.ref 42), some (.long cov), none, some (.long mis), none, some (.long rk), none, some (.long L), none, some (.int (nI f))] [] SH (pm_up I3 53 f (I3 53 f + 1)) J2 (0, 0) := by
            clear fin h1 h2 h3 h4 ih
            refine bX8_take_4 ?_
            simp (disch := first | omega | decide) only [w_nl0, w_nli, w_nlr, ↓w_ts1, ↓w_ts0, w_rcv, w_rfv, w_cs, true_and, and_true, List.length_nil, List.length_cons, Nat.reduceAdd, Nat.reduceLeDiff, Nat.zero_le, Nat.reduceLT, ↓w_nil, ix_nI, nI_leP, nI_ltP, nI_eqP, nI_1, ↓i_inN, i_inN, l_le, l_lt, l_eq, r_le, r_lt, r_eq, sh42, sh43, sh37, sh9, sh23, ↓w_lload_7, ↓w_iconst, ↓w_lushr, ↓w_lstore_7, ↓w_iinc_9, ↓w_goto, us_f]
            repeat' (first
              | (apply And.intro)
              | (simp only [w_in])
              | (intro _))
            all_goals first | (with_reducible exact w) | omega | grind
          clear fin h1 h2 h3 h4 ih w
          refine bX8_take_3 ?_
          simp (disch := first | omega | decide) only [w_nl0, w_nli, w_nlr, ↓w_ts1, ↓w_ts0, w_rcv, w_rfv, w_cs, true_and, and_true, List.length_nil, List.length_cons, Nat.reduceAdd, Nat.reduceLeDiff, Nat.zero_le, Nat.reduceLT, ↓w_nil, ix_nI, nI_leP, nI_ltP, nI_eqP, nI_1, ↓i_inN, i_inN, l_le, l_lt, l_eq, r_le, r_lt, r_eq, sh42, sh43, sh37, sh9, sh23, ↓w_iload_9, ↓w_aload_0, ↓w_gf3, ↓w_alen, ↓w_slen, ↓w_icge, ↓w_lload_7, ↓w_lconst0, ↓w_lcmp, ↓w_ifeq, ↓w_lconst1, ↓w_land, ↓w_dup2, ↓w_iaload, ↓w_iconst, ↓w_iadd, ↓w_iastore, lg_eq0, l_onI]
          repeat' (first
            | (apply And.intro)
            | (simp only [w_in])
            | (intro _))
          all_goals first | (with_reducible exact w4) | omega | grind
        · have w := ih (f + 1) (by omega) (us L 1) I3 h1 (fun k hk => by
            by_cases e : k = f
            · subst e; rw [h3 k (Nat.le_refl k), ← h5, if_neg hb]
            · exact h2 k (by omega)) (fun k hk => h3 k (by omega)) (fun e => by rw [tb_us1, h4, show f + (1 + e) = f + 1 + e by omega])
          have hnz : L &&& 1 = 0 := and_1.mpr hb
          clear fin h1 h2 h3 h4 ih
          refine bX8_take_3 ?_
          simp (disch := first | omega | decide) only [w_nl0, w_nli, w_nlr, ↓w_ts1, ↓w_ts0, w_rcv, w_rfv, w_cs, true_and, and_true, List.length_nil, List.length_cons, Nat.reduceAdd, Nat.reduceLeDiff, Nat.zero_le, Nat.reduceLT, ↓w_nil, ix_nI, nI_leP, nI_ltP, nI_eqP, nI_1, ↓i_inN, i_inN, l_le, l_lt, l_eq, r_le, r_lt, r_eq, sh42, sh43, sh37, sh9, sh23, ↓w_iload_9, ↓w_aload_0, ↓w_gf3, ↓w_alen, ↓w_slen, ↓w_icge, ↓w_lload_7, ↓w_lconst0, ↓w_lcmp, ↓w_ifeq, ↓w_lconst1, ↓w_land, ↓w_dup2, ↓w_iaload, ↓w_iconst, ↓w_iadd, ↓w_iastore, lg_eq0, l_onI]
          repeat' (first
            | (apply And.intro)
            | (with_reducible refine bX8_take_4 ?_; simp (disch := first | omega | decide) only [w_nl0, w_nli, w_nlr, ↓w_ts1, ↓w_ts0, w_rcv, w_rfv, w_cs, true_and, and_true, List.length_nil, List.length_cons, Nat.reduceAdd, Nat.reduceLeDiff, Nat.zero_le, Nat.reduceLT, ↓w_nil, ix_nI, nI_leP, nI_ltP, nI_eqP, nI_1, ↓i_inN, i_inN, l_le, l_lt, l_eq, r_le, r_lt, r_eq, sh42, sh43, sh37, sh9, sh23, ↓w_aload_0, ↓w_lload_3, ↓w_iv, ↓pm_cl2_2, ↓w_lstore_5, ↓w_gf0, ↓w_ifeq, ↓w_lload_5, ↓w_gf1, ↓w_lcmp, ↓w_ifge, ↓w_pf1, ↓w_dup_i, ↓w_dup_r, ↓w_iconst, ↓w_iadd, ↓w_pf0, ↓w_lload_1, ↓w_land, ↓w_lstore_7, ↓w_istore_9, ↓w_iload_9, ↓w_gf3, ↓w_alen, ↓w_slen, ↓w_icge, ↓w_lload_7, ↓w_lconst0, ↓w_lconst1, ↓w_dup2, ↓w_iaload, ↓w_iastore, ↓w_lushr, ↓w_iinc_9, ↓w_goto, ↓w_vret, lg_eq0, us_f])
            | (simp only [w_in])
            | (intro _))
          all_goals first | (with_reducible exact w) | omega | grind
  exact key 60 0 (by omega) X I2 (fun _ _ => rfl) (fun k hk => by omega) (fun _ _ => rfl) (fun e => by rw [Nat.zero_add])
def frE (I : pm_MI) (J : pm_ML) (I' : pm_MI) (J' : pm_ML) : Prop := (∀ a, a ≠ 42 → a ≠ 52 → a ≠ 53 → I' a = I a) ∧ (∀ j, j ≠ 13 → I' 42 j = I 42 j) ∧ (∀ a, a ≠ 42 → J' a = J a) ∧ ∀ j, j ≠ 11 → J' 42 j = J 42 j
theorem frE.rf : frE I J I J := ⟨fun _ _ _ _ => rfl, fun _ _ => rfl, fun _ _ => rfl, fun _ _ => rfl⟩
theorem frE.tr {I2 I3 : pm_MI} {J2 J3 : pm_ML} (h : frE I J I2 J2) (h2 : frE I2 J2 I3 J3) : frE I J I3 J3 := ⟨fun a p1 p2 p3 => (h2.1 a p1 p2 p3).trans (h.1 a p1 p2 p3), fun j p => (h2.2.1 j p).trans (h.2.1 j p), fun a p => (h2.2.2.1 a p).trans (h.2.2.1 a p), fun j p => (h2.2.2.2 j p).trans (h.2.2.2 j p)⟩
theorem frE.ch {I2 : pm_MI} {J2 : pm_ML} {i : Nat} {x : Int32} (h : frE I J I2 J2) : frE I J (pm_up I2 52 i x) J2 := ⟨fun a p1 p2 p3 => by rw [pm_up_o p2]; exact h.1 a p1 p2 p3, fun j p => by rw [pm_up_o (by decide)]; exact h.2.1 j p, h.2.2.1, h.2.2.2⟩
abbrev seT : Type := Int32 × Int64 × (Nat → Int32)
def stH (I : pm_MI) (J : pm_ML) (st : seT) : Prop := I 42 13 = st.1 ∧ J 42 11 = st.2.1 ∧ ∀ k, k < 60 → I 53 k = st.2.2 k
theorem c_take {s : Nat} {cov mis : Int64} {st : seT} (hd : 3 ≤ d) (hs : I 42 12 = nI s) (hs3 : s ≤ 3) (hst : stH I J st) (hQ : ∀ I' J', frE I J I' J' → I' 52 = I 52 → stH I' J' (st.1 + 1, if st.1 = 0 ∨ rkF (I 52) s mis < st.2.1 then rkF (I 52) s mis else st.2.1, fun k => if tb (cov &&& J 42 10) k = true then st.2.2 k + 1 else st.2.2 k) → Q none SH I' J') : pm_C g d 96 [.ref 42, .long cov, .long mis] Q SH I J := by
  obtain ⟨s1, s2, s3⟩ := hst
  by_cases hc : st.1 = 0 ∨ rkF (I 52) s mis < st.2.1
  · rw [if_pos hc] at hQ
    have w := c_tally (g := g) (d := d) (cov := cov) (mis := mis) (rk := rkF (I 52) s mis) (X := cov &&& J 42 10) (I2 := pm_up I 42 13 (I 42 13 + 1)) (J2 := pm_upL J 42 11 (rkF (I 52) s mis)) (Q := Q) (fun I' h1 h2 => hQ I' _ ⟨fun a p1 p2 p3 => by rw [h1 a p3, pm_up_o p1], fun j p => by rw [h1 42 (by decide), pm_up_n p], fun a p => pm_upL_o p, fun j p => pm_upL_n p⟩ (by rw [h1 52 (by decide), pm_up_o (by decide)]) ⟨by rw [h1 42 (by decide), pm_up_s, s1], pm_upL_s, fun k hk => by rw [h2 k hk, pm_up_o (by decide), s3 k hk]⟩)
    rw [← s1, ← s2] at hc
    clear hQ s3
    refine eX8_take (by omega) ?_
    repeat' (first
      | (apply And.intro)
      | (with_reducible refine bX8_take_0 ?_; simp (disch := first | omega | decide) only [w_nl0, w_nli, w_nlr, ↓w_ts1, ↓w_ts0, w_rcv, w_rfv, w_cs, true_and, and_true, List.length_nil, List.length_cons, Nat.reduceAdd, Nat.reduceLeDiff, Nat.zero_le, Nat.reduceLT, ↓w_nil, ix_nI, nI_leP, nI_ltP, nI_eqP, nI_1, ↓i_inN, i_inN, l_le, l_lt, l_eq, r_le, r_lt, r_eq, sh42, sh43, sh37, sh9, sh23, ↓w_aload_0, ↓w_lload_3, ↓w_iv, ↓pm_cl2_2, ↓w_lstore_5, ↓w_gf0, ↓w_ifeq, ↓w_lload_5, ↓w_gf1, ↓w_lcmp, ↓w_ifge, ↓w_pf1, ↓w_dup_i, ↓w_dup_r, ↓w_iconst, ↓w_iadd, ↓w_pf0, ↓w_lload_1, ↓w_land, ↓w_lstore_7, ↓w_istore_9, ↓w_iload_9, ↓w_gf3, ↓w_alen, ↓w_slen, ↓w_icge, ↓w_lload_7, ↓w_lconst0, ↓w_lconst1, ↓w_dup2, ↓w_iaload, ↓w_iastore, ↓w_lushr, ↓w_iinc_9, ↓w_goto, ↓w_vret, lg_ge0, pm_upL_n])
      | (with_reducible refine bX8_take_1 ?_; simp (disch := first | omega | decide) only [w_nl0, w_nli, w_nlr, ↓w_ts1, ↓w_ts0, w_rcv, w_rfv, w_cs, true_and, and_true, List.length_nil, List.length_cons, Nat.reduceAdd, Nat.reduceLeDiff, Nat.zero_le, Nat.reduceLT, ↓w_nil, ix_nI, nI_leP, nI_ltP, nI_eqP, nI_1, ↓i_inN, i_inN, l_le, l_lt, l_eq, r_le, r_lt, r_eq, sh42, sh43, sh37, sh9, sh23, ↓w_aload_0, ↓w_lload_3, ↓w_iv, ↓pm_cl2_2, ↓w_lstore_5, ↓w_gf0, ↓w_ifeq, ↓w_lload_5, ↓w_gf1, ↓w_lcmp, ↓w_ifge, ↓w_pf1, ↓w_dup_i, ↓w_dup_r, ↓w_iconst, ↓w_iadd, ↓w_pf0, ↓w_lload_1, ↓w_land, ↓w_lstore_7, ↓w_istore_9, ↓w_iload_9, ↓w_gf3, ↓w_alen, ↓w_slen, ↓w_icge, ↓w_lload_7, ↓w_lconst0, ↓w_lconst1, ↓w_dup2, ↓w_iaload, ↓w_iastore, ↓w_lushr, ↓w_iinc_9, ↓w_goto, ↓w_vret, lg_ge0, pm_upL_n])
      | (with_reducible refine bX8_take_2 ?_; simp (disch := first | omega | decide) only [w_nl0, w_nli, w_nlr, ↓w_ts1, ↓w_ts0, w_rcv, w_rfv, w_cs, true_and, and_true, List.length_nil, List.length_cons, Nat.reduceAdd, Nat.reduceLeDiff, Nat.zero_le, Nat.reduceLT, ↓w_nil, ix_nI, nI_leP, nI_ltP, nI_eqP, nI_1, ↓i_inN, i_inN, l_le, l_lt, l_eq, r_le, r_lt, r_eq, sh42, sh43, sh37, sh9, sh23, ↓w_aload_0, ↓w_lload_3, ↓w_iv, ↓pm_cl2_2, ↓w_lstore_5, ↓w_gf0, ↓w_ifeq, ↓w_lload_5, ↓w_gf1, ↓w_lcmp, ↓w_ifge, ↓w_pf1, ↓w_dup_i, ↓w_dup_r, ↓w_iconst, ↓w_iadd, ↓w_pf0, ↓w_lload_1, ↓w_land, ↓w_lstore_7, ↓w_istore_9, ↓w_iload_9, ↓w_gf3, ↓w_alen, ↓w_slen, ↓w_icge, ↓w_lload_7, ↓w_lconst0, ↓w_lconst1, ↓w_dup2, ↓w_iaload, ↓w_iastore, ↓w_lushr, ↓w_iinc_9, ↓w_goto, ↓w_vret, lg_ge0, pm_upL_n])
      | (with_reducible refine c_rank (by omega) hs hs3 ?_ ; simp (disch := first | omega | decide) only [w_nl0, w_nli, w_nlr, ↓w_ts1, ↓w_ts0, w_rcv, w_rfv, w_cs, true_and, and_true, List.length_nil, List.length_cons, Nat.reduceAdd, Nat.reduceLeDiff, Nat.zero_le, Nat.reduceLT, ↓w_nil, ix_nI, nI_leP, nI_ltP, nI_eqP, nI_1, ↓i_inN, i_inN, l_le, l_lt, l_eq, r_le, r_lt, r_eq, sh42, sh43, sh37, sh9, sh23, ↓w_aload_0, ↓w_lload_3, ↓w_iv, ↓pm_cl2_2, ↓w_lstore_5, ↓w_gf0, ↓w_ifeq, ↓w_lload_5, ↓w_gf1, ↓w_lcmp, ↓w_ifge, ↓w_pf1, ↓w_dup_i, ↓w_dup_r, ↓w_iconst, ↓w_iadd, ↓w_pf0, ↓w_lload_1, ↓w_land, ↓w_lstore_7, ↓w_istore_9, ↓w_iload_9, ↓w_gf3, ↓w_alen, ↓w_slen, ↓w_icge, ↓w_lload_7, ↓w_lconst0, ↓w_lconst1, ↓w_dup2, ↓w_iaload, ↓w_iastore, ↓w_lushr, ↓w_iinc_9, ↓w_goto, ↓w_vret, lg_ge0, pm_upL_n])
      | (simp only [w_in])
      | (intro _))
    all_goals first | (with_reducible exact w) | omega | grind
  · rw [if_neg hc] at hQ
    have w := c_tally (g := g) (d := d) (cov := cov) (mis := mis) (rk := rkF (I 52) s mis) (X := cov &&& J 42 10) (I2 := pm_up I 42 13 (I 42 13 + 1)) (J2 := J) (Q := Q) (fun I' h1 h2 => hQ I' _ ⟨fun a p1 p2 p3 => by rw [h1 a p3, pm_up_o p1], fun j p => by rw [h1 42 (by decide), pm_up_n p], fun a p => rfl, fun j p => rfl⟩ (by rw [h1 52 (by decide), pm_up_o (by decide)]) ⟨by rw [h1 42 (by decide), pm_up_s, s1], s2, fun k hk => by rw [h2 k hk, pm_up_o (by decide), s3 k hk]⟩)
    rw [← s1, ← s2] at hc
    clear hQ s3
    refine eX8_take (by omega) ?_
    repeat' (first
      | (apply And.intro)
      | (with_reducible refine bX8_take_0 ?_; simp (disch := first | omega | decide) only [w_nl0, w_nli, w_nlr, ↓w_ts1, ↓w_ts0, w_rcv, w_rfv, w_cs, true_and, and_true, List.length_nil, List.length_cons, Nat.reduceAdd, Nat.reduceLeDiff, Nat.zero_le, Nat.reduceLT, ↓w_nil, ix_nI, nI_leP, nI_ltP, nI_eqP, nI_1, ↓i_inN, i_inN, l_le, l_lt, l_eq, r_le, r_lt, r_eq, sh42, sh43, sh37, sh9, sh23, ↓w_aload_0, ↓w_lload_3, ↓w_iv, ↓pm_cl2_2, ↓w_lstore_5, ↓w_gf0, ↓w_ifeq, ↓w_lload_5, ↓w_gf1, ↓w_lcmp, ↓w_ifge, ↓w_pf1, ↓w_dup_i, ↓w_dup_r, ↓w_iconst, ↓w_iadd, ↓w_pf0, ↓w_lload_1, ↓w_land, ↓w_lstore_7, ↓w_istore_9, ↓w_iload_9, ↓w_gf3, ↓w_alen, ↓w_slen, ↓w_icge, ↓w_lload_7, ↓w_lconst0, ↓w_lconst1, ↓w_dup2, ↓w_iaload, ↓w_iastore, ↓w_lushr, ↓w_iinc_9, ↓w_goto, ↓w_vret, lg_ge0])
      | (with_reducible refine bX8_take_1 ?_; simp (disch := first | omega | decide) only [w_nl0, w_nli, w_nlr, ↓w_ts1, ↓w_ts0, w_rcv, w_rfv, w_cs, true_and, and_true, List.length_nil, List.length_cons, Nat.reduceAdd, Nat.reduceLeDiff, Nat.zero_le, Nat.reduceLT, ↓w_nil, ix_nI, nI_leP, nI_ltP, nI_eqP, nI_1, ↓i_inN, i_inN, l_le, l_lt, l_eq, r_le, r_lt, r_eq, sh42, sh43, sh37, sh9, sh23, ↓w_aload_0, ↓w_lload_3, ↓w_iv, ↓pm_cl2_2, ↓w_lstore_5, ↓w_gf0, ↓w_ifeq, ↓w_lload_5, ↓w_gf1, ↓w_lcmp, ↓w_ifge, ↓w_pf1, ↓w_dup_i, ↓w_dup_r, ↓w_iconst, ↓w_iadd, ↓w_pf0, ↓w_lload_1, ↓w_land, ↓w_lstore_7, ↓w_istore_9, ↓w_iload_9, ↓w_gf3, ↓w_alen, ↓w_slen, ↓w_icge, ↓w_lload_7, ↓w_lconst0, ↓w_lconst1, ↓w_dup2, ↓w_iaload, ↓w_iastore, ↓w_lushr, ↓w_iinc_9, ↓w_goto, ↓w_vret, lg_ge0])
      | (with_reducible refine bX8_take_2 ?_; simp (disch := first | omega | decide) only [w_nl0, w_nli, w_nlr, ↓w_ts1, ↓w_ts0, w_rcv, w_rfv, w_cs, true_and, and_true, List.length_nil, List.length_cons, Nat.reduceAdd, Nat.reduceLeDiff, Nat.zero_le, Nat.reduceLT, ↓w_nil, ix_nI, nI_leP, nI_ltP, nI_eqP, nI_1, ↓i_inN, i_inN, l_le, l_lt, l_eq, r_le, r_lt, r_eq, sh42, sh43, sh37, sh9, sh23, ↓w_aload_0, ↓w_lload_3, ↓w_iv, ↓pm_cl2_2, ↓w_lstore_5, ↓w_gf0, ↓w_ifeq, ↓w_lload_5, ↓w_gf1, ↓w_lcmp, ↓w_ifge, ↓w_pf1, ↓w_dup_i, ↓w_dup_r, ↓w_iconst, ↓w_iadd, ↓w_pf0, ↓w_lload_1, ↓w_land, ↓w_lstore_7, ↓w_istore_9, ↓w_iload_9, ↓w_gf3, ↓w_alen, ↓w_slen, ↓w_icge, ↓w_lload_7, ↓w_lconst0, ↓w_lconst1, ↓w_dup2, ↓w_iaload, ↓w_iastore, ↓w_lushr, ↓w_iinc_9, ↓w_goto, ↓w_vret, lg_ge0])
      | (with_reducible refine c_rank (by omega) hs hs3 ?_ ; simp (disch := first | omega | decide) only [w_nl0, w_nli, w_nlr, ↓w_ts1, ↓w_ts0, w_rcv, w_rfv, w_cs, true_and, and_true, List.length_nil, List.length_cons, Nat.reduceAdd, Nat.reduceLeDiff, Nat.zero_le, Nat.reduceLT, ↓w_nil, ix_nI, nI_leP, nI_ltP, nI_eqP, nI_1, ↓i_inN, i_inN, l_le, l_lt, l_eq, r_le, r_lt, r_eq, sh42, sh43, sh37, sh9, sh23, ↓w_aload_0, ↓w_lload_3, ↓w_iv, ↓pm_cl2_2, ↓w_lstore_5, ↓w_gf0, ↓w_ifeq, ↓w_lload_5, ↓w_gf1, ↓w_lcmp, ↓w_ifge, ↓w_pf1, ↓w_dup_i, ↓w_dup_r, ↓w_iconst, ↓w_iadd, ↓w_pf0, ↓w_lload_1, ↓w_land, ↓w_lstore_7, ↓w_istore_9, ↓w_iload_9, ↓w_gf3, ↓w_alen, ↓w_slen, ↓w_icge, ↓w_lload_7, ↓w_lconst0, ↓w_lconst1, ↓w_dup2, ↓w_iaload, ↓w_iastore, ↓w_lushr, ↓w_iinc_9, ↓w_goto, ↓w_vret, lg_ge0])
      | (simp only [w_in])
      | (intro _))
    all_goals first | (with_reducible exact w) | omega | grind
end C91i
