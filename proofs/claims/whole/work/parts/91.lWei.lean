section C91l
variable {g : pm_G} {d : Nat} {Q : pm_Po} {S : pm_SS} {I : pm_MI} {J : pm_ML}
/-! ===== the reference weighs a set ===== -/
theorem m_missesOf {N : Nat} {x : Int64} (hd : 1 ≤ d) (h38 : I 68 38 = nI N) (hN : N ≤ 30) (hQ : Q (some (.int (itr (fun k (a : Int32) => a + (if tb x k = true then I 109 k else 0)) 0 (2 * N)))) SH I J) : pm_C g d 256 [.ref 68, .long x] Q SH I J := by
  refine eX12_missesOf (by omega) ?_
  refine bX12_missesOf_0 ?_
  simp (disch := first | omega | decide) only [w_nl0, w_nli, w_nlr, ↓w_ts1, ↓w_ts0, w_rcv, w_rfv, w_cs, true_and, and_true, List.length_nil, List.length_cons, Nat.reduceAdd, Nat.reduceLeDiff, Nat.zero_le, Nat.reduceLT, ↓w_nil, ix_nI, nI_leP, nI_ltP, nI_eqP, nI_1, ↓i_inN, i_inN, l_le, l_lt, l_eq, r_le, r_lt, r_eq, sh68_0, sh68_1, sh68_2, sh68_3, sh68_4, ↓w_iconst, ↓w_istore_3, ↓w_istore_4]
  refine pm_for (f := fun k (a : Int32) => a + (if tb x k = true then I 109 k else 0)) (U := fun k a => UU g (d - 1) 256 kX12_missesOf (pm_rm d 256) Q 1 [some (.ref 68), some (.long x), none, some (.int a), some (.int (nI k))] [] SH I J (0, 0)) (2*N) (fun k b hk hb w => ?_) ?_
  · clear hQ hb
    by_cases hc : tb x k = true
    · rw [if_pos hc] at w
      refine bX12_missesOf_1 ?_
      simp (disch := first | omega | decide) only [w_nl0, w_nli, w_nlr, ↓w_ts1, ↓w_ts0, w_rcv, w_rfv, w_cs, true_and, and_true, List.length_nil, List.length_cons, Nat.reduceAdd, Nat.reduceLeDiff, Nat.zero_le, Nat.reduceLT, ↓w_nil, ix_nI, nI_leP, nI_ltP, nI_eqP, nI_1, ↓i_inN, i_inN, l_le, l_lt, l_eq, r_le, r_lt, r_eq, sh68_0, sh68_1, sh68_2, sh68_3, sh68_4, ↓w_iload_4, ↓w_iconst, ↓w_aload_0, ↓w_gf0, ↓w_imul, ↓w_icge, ↓w_iload_3, ↓w_lload_1, ↓w_lshr, ↓w_lconst1, ↓w_land, ↓w_lcmp, ↓w_ifne, ↓w_gf3, ↓w_iaload, ↓w_goto, h38, nI_2m, lg_eq0, shr_1, if_pos hc]
      repeat' (first
        | (apply And.intro)
        | (with_reducible refine bX12_missesOf_2 ?_; simp (disch := first | omega | decide) only [w_nl0, w_nli, w_nlr, ↓w_ts1, ↓w_ts0, w_rcv, w_rfv, w_cs, true_and, and_true, List.length_nil, List.length_cons, Nat.reduceAdd, Nat.reduceLeDiff, Nat.zero_le, Nat.reduceLT, ↓w_nil, ix_nI, nI_leP, nI_ltP, nI_eqP, nI_1, ↓i_inN, i_inN, l_le, l_lt, l_eq, r_le, r_lt, r_eq, sh68_0, sh68_1, sh68_2, sh68_3, sh68_4, ↓w_iconst, ↓w_istore_3, ↓w_istore_4, ↓w_iload_4, ↓w_aload_0, ↓w_gf0, ↓w_imul, ↓w_icge, ↓w_iload_3, ↓w_lload_1, ↓w_lshr, ↓w_lconst1, ↓w_land, ↓w_lcmp, ↓w_ifne, ↓w_gf3, ↓w_iaload, ↓w_goto, ↓w_iadd, ↓w_iinc_4, ↓w_ret, h38, nI_2m, lg_eq0, shr_1, if_pos hc])
        | (with_reducible refine bX12_missesOf_3 ?_; simp (disch := first | omega | decide) only [w_nl0, w_nli, w_nlr, ↓w_ts1, ↓w_ts0, w_rcv, w_rfv, w_cs, true_and, and_true, List.length_nil, List.length_cons, Nat.reduceAdd, Nat.reduceLeDiff, Nat.zero_le, Nat.reduceLT, ↓w_nil, ix_nI, nI_leP, nI_ltP, nI_eqP, nI_1, ↓i_inN, i_inN, l_le, l_lt, l_eq, r_le, r_lt, r_eq, sh68_0, sh68_1, sh68_2, sh68_3, sh68_4, ↓w_iconst, ↓w_istore_3, ↓w_istore_4, ↓w_iload_4, ↓w_aload_0, ↓w_gf0, ↓w_imul, ↓w_icge, ↓w_iload_3, ↓w_lload_1, ↓w_lshr, ↓w_lconst1, ↓w_land, ↓w_lcmp, ↓w_ifne, ↓w_gf3, ↓w_iaload, ↓w_goto, ↓w_iadd, ↓w_iinc_4, ↓w_ret, h38, nI_2m, lg_eq0, shr_1, if_pos hc])
        | (simp only [w_in])
        | (intro _))
      all_goals first | (with_reducible exact w) | omega | grind
    · rw [if_neg hc] at w
      refine bX12_missesOf_1 ?_
      simp (disch := first | omega | decide) only [w_nl0, w_nli, w_nlr, ↓w_ts1, ↓w_ts0, w_rcv, w_rfv, w_cs, true_and, and_true, List.length_nil, List.length_cons, Nat.reduceAdd, Nat.reduceLeDiff, Nat.zero_le, Nat.reduceLT, ↓w_nil, ix_nI, nI_leP, nI_ltP, nI_eqP, nI_1, ↓i_inN, i_inN, l_le, l_lt, l_eq, r_le, r_lt, r_eq, sh68_0, sh68_1, sh68_2, sh68_3, sh68_4, ↓w_iload_4, ↓w_iconst, ↓w_aload_0, ↓w_gf0, ↓w_imul, ↓w_icge, ↓w_iload_3, ↓w_lload_1, ↓w_lshr, ↓w_lconst1, ↓w_land, ↓w_lcmp, ↓w_ifne, ↓w_gf3, ↓w_iaload, ↓w_goto, h38, nI_2m, lg_eq0, shr_1, if_neg hc]
      repeat' (first
        | (apply And.intro)
        | (with_reducible refine bX12_missesOf_2 ?_; simp (disch := first | omega | decide) only [w_nl0, w_nli, w_nlr, ↓w_ts1, ↓w_ts0, w_rcv, w_rfv, w_cs, true_and, and_true, List.length_nil, List.length_cons, Nat.reduceAdd, Nat.reduceLeDiff, Nat.zero_le, Nat.reduceLT, ↓w_nil, ix_nI, nI_leP, nI_ltP, nI_eqP, nI_1, ↓i_inN, i_inN, l_le, l_lt, l_eq, r_le, r_lt, r_eq, sh68_0, sh68_1, sh68_2, sh68_3, sh68_4, ↓w_iconst, ↓w_istore_3, ↓w_istore_4, ↓w_iload_4, ↓w_aload_0, ↓w_gf0, ↓w_imul, ↓w_icge, ↓w_iload_3, ↓w_lload_1, ↓w_lshr, ↓w_lconst1, ↓w_land, ↓w_lcmp, ↓w_ifne, ↓w_gf3, ↓w_iaload, ↓w_goto, ↓w_iadd, ↓w_iinc_4, ↓w_ret, h38, nI_2m, lg_eq0, shr_1, if_neg hc])
        | (with_reducible refine bX12_missesOf_3 ?_; simp (disch := first | omega | decide) only [w_nl0, w_nli, w_nlr, ↓w_ts1, ↓w_ts0, w_rcv, w_rfv, w_cs, true_and, and_true, List.length_nil, List.length_cons, Nat.reduceAdd, Nat.reduceLeDiff, Nat.zero_le, Nat.reduceLT, ↓w_nil, ix_nI, nI_leP, nI_ltP, nI_eqP, nI_1, ↓i_inN, i_inN, l_le, l_lt, l_eq, r_le, r_lt, r_eq, sh68_0, sh68_1, sh68_2, sh68_3, sh68_4, ↓w_iconst, ↓w_istore_3, ↓w_istore_4, ↓w_iload_4, ↓w_aload_0, ↓w_gf0, ↓w_imul, ↓w_icge, ↓w_iload_3, ↓w_lload_1, ↓w_lshr, ↓w_lconst1, ↓w_land, ↓w_lcmp, ↓w_ifne, ↓w_gf3, ↓w_iaload, ↓w_goto, ↓w_iadd, ↓w_iinc_4, ↓w_ret, h38, nI_2m, lg_eq0, shr_1, if_neg hc])
        | (simp only [w_in])
        | (intro _))
      all_goals first | (with_reducible exact w) | omega | grind
  · refine bX12_missesOf_1 ?_
    simp (disch := first | omega | decide) only [w_nl0, w_nli, w_nlr, ↓w_ts1, ↓w_ts0, w_rcv, w_rfv, w_cs, true_and, and_true, List.length_nil, List.length_cons, Nat.reduceAdd, Nat.reduceLeDiff, Nat.zero_le, Nat.reduceLT, ↓w_nil, ix_nI, nI_leP, nI_ltP, nI_eqP, nI_1, ↓i_inN, i_inN, l_le, l_lt, l_eq, r_le, r_lt, r_eq, sh68_0, sh68_1, sh68_2, sh68_3, sh68_4, ↓w_iload_4, ↓w_iconst, ↓w_aload_0, ↓w_gf0, ↓w_imul, ↓w_icge, ↓w_iload_3, ↓w_lload_1, ↓w_lshr, ↓w_lconst1, ↓w_land, ↓w_lcmp, ↓w_ifne, ↓w_gf3, ↓w_iaload, ↓w_goto, h38, nI_2m]
    repeat' (first
      | (apply And.intro)
      | (with_reducible refine bX12_missesOf_4 ?_; simp (disch := first | omega | decide) only [w_nl0, w_nli, w_nlr, ↓w_ts1, ↓w_ts0, w_rcv, w_rfv, w_cs, true_and, and_true, List.length_nil, List.length_cons, Nat.reduceAdd, Nat.reduceLeDiff, Nat.zero_le, Nat.reduceLT, ↓w_nil, ix_nI, nI_leP, nI_ltP, nI_eqP, nI_1, ↓i_inN, i_inN, l_le, l_lt, l_eq, r_le, r_lt, r_eq, sh68_0, sh68_1, sh68_2, sh68_3, sh68_4, ↓w_iconst, ↓w_istore_3, ↓w_istore_4, ↓w_iload_4, ↓w_aload_0, ↓w_gf0, ↓w_imul, ↓w_icge, ↓w_iload_3, ↓w_lload_1, ↓w_lshr, ↓w_lconst1, ↓w_land, ↓w_lcmp, ↓w_ifne, ↓w_gf3, ↓w_iaload, ↓w_goto, ↓w_iadd, ↓w_iinc_4, ↓w_ret])
      | (simp only [w_in])
      | (intro _))
    all_goals first | (with_reducible exact hQ) | omega | grind
abbrev mdT : Type := Int32 × Int32 × Int32 × (Nat → Int32) × (Nat → Int32)
def mdH (I : pm_MI) (N : Nat) (st : mdT) : Prop := I 68 63 = st.1 ∧ I 68 61 = st.2.1 ∧ I 68 60 = st.2.2.1 ∧ (∀ i, i < 3 → I 110 i = st.2.2.2.1 i) ∧ ∀ k, k < 2 * N → I 111 k = st.2.2.2.2 k
def frW (I I' : pm_MI) : Prop := (∀ a, a ≠ 68 → a ≠ 110 → a ≠ 111 → I' a = I a) ∧ ∀ j, j ≠ 60 → j ≠ 61 → j ≠ 63 → I' 68 j = I 68 j
theorem frW.rf : frW I I := ⟨fun _ _ _ _ => rfl, fun _ _ _ _ => rfl⟩
theorem frW.tr {I2 I3 : pm_MI} (h : frW I I2) (h2 : frW I2 I3) : frW I I3 := ⟨fun a p1 p2 p3 => (h2.1 a p1 p2 p3).trans (h.1 a p1 p2 p3), fun j p1 p2 p3 => (h2.2 j p1 p2 p3).trans (h.2 j p1 p2 p3)⟩
def at3 (a b e : Int32) (i : Nat) : Int32 := if i = 0 then a else if i = 1 then b else e
def wgV (sz a b e : Int32) (x : Int64) (n : Int32) (st : mdT) : mdT := (st.1 + 1, if st.1 = 0 ∨ n < st.2.1 then n else st.2.1, sz, if st.1 = 0 ∨ n < st.2.1 then at3 a b e else st.2.2.2.1, fun k => st.2.2.2.2 k + (if tb x k = true then 1 else 0))
def plW (J : pm_ML) (a : Int32) (v : Int64) : Prop := (a = -9 ∧ v = 0) ∨ ∃ p, p < 200 ∧ a = nI p ∧ J 108 p = v
theorem m_tally {N : Nat} {sz a b e m n : Int32} {x : Int64} {I1 : pm_MI} (h38 : I1 68 38 = nI N) (hN : N ≤ 30) (fin : ∀ I', (∀ a, a ≠ 111 → I' a = I1 a) → (∀ k, k < 2 * N → I' 111 k = I1 111 k + (if tb x k = true then 1 else 0)) → Q none SH I' J) : UU g (d - 1) 257 kX12_weigh (pm_rm d 257) Q 11 [some (.ref 68), some (.int sz), some (.int a), some (.int b), some (.int e), some (.int m), some (.long x), none, some (.int n), some (.int 0)] [] SH I1 J (0, 0) := by
  refine lp (α := pm_MI) (U := fun k I2 => UU g (d - 1) 257 kX12_weigh (pm_rm d 257) Q 11 [some (.ref 68), some (.int sz), some (.int a), some (.int b), some (.int e), some (.int m), some (.long x), none, some (.int n), some (.int (nI k))] [] SH I2 J (0, 0)) (fun k I2 => (∀ a, a ≠ 111 → I2 a = I1 a) ∧ (∀ i, i < k → I2 111 i = I1 111 i + (if tb x i = true then 1 else 0)) ∧ ∀ i, k ≤ i → I2 111 i = I1 111 i) (2 * N) (fun k I2 hk hP w => ?_) (fun I2 hP => ?_) (a := I1) ⟨fun _ _ => rfl, fun i hi => by omega, fun _ _ => rfl⟩
  · obtain ⟨p1, p2, p3⟩ := hP
    have e38 : I2 68 38 = nI N := by rw [p1 68 (by decide)]; exact h38
    have e111 := p3 k (Nat.le_refl k)
    have w2 := w (pm_up I2 111 k (I1 111 k + (if tb x k = true then 1 else 0))) ⟨fun a ha => by rw [pm_up_o ha]; exact p1 a ha, fun i hi => by
      by_cases z : i = k
      · rw [z, pm_up_s]
      · rw [pm_up_n z]; exact p2 i (by omega), fun i hi => by rw [pm_up_n (by omega)]; exact p3 i (by omega)⟩
    have c1 : (1 : Int64).toInt32 = 1 := rfl
    have c0 : (0 : Int64).toInt32 = 0 := rfl
    clear fin p1 p2 p3 w
    by_cases hc : tb x k = true
    · rw [if_pos hc] at w2
      refine bX12_weigh_11 ?_
      simp (disch := first | omega | decide) only [w_nl0, w_nli, w_nlr, ↓w_ts1, ↓w_ts0, w_rcv, w_rfv, w_cs, true_and, and_true, List.length_nil, List.length_cons, Nat.reduceAdd, Nat.reduceLeDiff, Nat.zero_le, Nat.reduceLT, ↓w_nil, ix_nI, nI_leP, nI_ltP, nI_eqP, nI_1, ↓i_inN, i_inN, l_le, l_lt, l_eq, r_le, r_lt, r_eq, sh68_0, sh68_1, sh68_2, sh68_3, sh68_4, ↓w_iload_9, ↓w_iconst, ↓w_aload_0, ↓w_gf0, ↓w_imul, ↓w_icge, ↓w_gf3, ↓w_dup2, ↓w_iaload, ↓w_lload_6, ↓w_lshr, ↓w_lconst1, ↓w_land, ↓w_l2i, ↓w_iadd, ↓w_iastore, ↓w_iinc_9, ↓w_goto, e38, nI_2m, shr_1, if_pos hc, e111, c1]
      repeat' (first
        | (apply And.intro)
        | (simp only [w_in])
        | (intro _))
      all_goals first | (with_reducible exact w2) | omega | grind
    · rw [if_neg hc] at w2
      refine bX12_weigh_11 ?_
      simp (disch := first | omega | decide) only [w_nl0, w_nli, w_nlr, ↓w_ts1, ↓w_ts0, w_rcv, w_rfv, w_cs, true_and, and_true, List.length_nil, List.length_cons, Nat.reduceAdd, Nat.reduceLeDiff, Nat.zero_le, Nat.reduceLT, ↓w_nil, ix_nI, nI_leP, nI_ltP, nI_eqP, nI_1, ↓i_inN, i_inN, l_le, l_lt, l_eq, r_le, r_lt, r_eq, sh68_0, sh68_1, sh68_2, sh68_3, sh68_4, ↓w_iload_9, ↓w_iconst, ↓w_aload_0, ↓w_gf0, ↓w_imul, ↓w_icge, ↓w_gf3, ↓w_dup2, ↓w_iaload, ↓w_lload_6, ↓w_lshr, ↓w_lconst1, ↓w_land, ↓w_l2i, ↓w_iadd, ↓w_iastore, ↓w_iinc_9, ↓w_goto, e38, nI_2m, shr_1, if_neg hc, e111, c0]
      repeat' (first
        | (apply And.intro)
        | (simp only [w_in])
        | (intro _))
      all_goals first | (with_reducible exact w2) | omega | grind
  · obtain ⟨p1, p2, p3⟩ := hP
    have e38 : I2 68 38 = nI N := by rw [p1 68 (by decide)]; exact h38
    have hq := fin I2 p1 p2
    clear fin p1 p2 p3
    refine bX12_weigh_11 ?_
    simp (disch := first | omega | decide) only [w_nl0, w_nli, w_nlr, ↓w_ts1, ↓w_ts0, w_rcv, w_rfv, w_cs, true_and, and_true, List.length_nil, List.length_cons, Nat.reduceAdd, Nat.reduceLeDiff, Nat.zero_le, Nat.reduceLT, ↓w_nil, ix_nI, nI_leP, nI_ltP, nI_eqP, nI_1, ↓i_inN, i_inN, l_le, l_lt, l_eq, r_le, r_lt, r_eq, sh68_0, sh68_1, sh68_2, sh68_3, sh68_4, ↓w_iload_9, ↓w_iconst, ↓w_aload_0, ↓w_gf0, ↓w_imul, ↓w_icge, ↓w_gf3, ↓w_dup2, ↓w_iaload, ↓w_lload_6, ↓w_lshr, ↓w_lconst1, ↓w_land, ↓w_l2i, ↓w_iadd, ↓w_iastore, ↓w_iinc_9, ↓w_goto, e38, nI_2m]
    repeat' (first
      | (apply And.intro)
      | (with_reducible refine bX12_weigh_12 ?_; simp (disch := first | omega | decide) only [w_nl0, w_nli, w_nlr, ↓w_ts1, ↓w_ts0, w_rcv, w_rfv, w_cs, true_and, and_true, List.length_nil, List.length_cons, Nat.reduceAdd, Nat.reduceLeDiff, Nat.zero_le, Nat.reduceLT, ↓w_nil, ix_nI, nI_leP, nI_ltP, nI_eqP, nI_1, ↓i_inN, i_inN, l_le, l_lt, l_eq, r_le, r_lt, r_eq, sh68_0, sh68_1, sh68_2, sh68_3, sh68_4, ↓w_iload_2, ↓w_ifge, ↓w_lconst0, ↓w_goto, ↓w_aload_0, ↓w_gf3, ↓w_laload, ↓w_iload_3, ↓w_lor, ↓w_iload_4, ↓w_lstore_6, ↓w_gf1, ↓w_lload_6, ↓w_ldc2_17, ↓w_lxor, ↓w_land, ↓w_lcmp, ↓w_ifeq, ↓w_vret, ↓w_iv, ↓pm_cl2_2, ↓w_istore_8, ↓w_iload_8, ↓w_iload_5, ↓w_icle, ↓w_gf0, ↓w_icge, ↓w_pf0, ↓w_iconst, ↓w_iastore, ↓w_iload_1, ↓w_dup_i, ↓w_dup_r, ↓w_iadd, ↓w_istore_9, ↓w_iload_9, ↓w_imul, ↓w_dup2, ↓w_iaload, ↓w_lshr, ↓w_lconst1, ↓w_l2i, ↓w_iinc_9])
      | (simp only [w_in])
      | (intro _))
    all_goals first | (with_reducible exact hq) | omega | grind
theorem at3_up {a b e : Int32} {I2 : pm_MI} (i : Nat) (hi : i < 3) : pm_up (pm_up (pm_up I2 110 0 a) 110 1 b) 110 2 e 110 i = at3 a b e i := by
  have h : i = 0 ∨ i = 1 ∨ i = 2 := by omega
  rcases h with rfl | rfl | rfl
  · rw [pm_up_n (by decide), pm_up_n (by decide), pm_up_s]; rfl
  · rw [pm_up_n (by decide), pm_up_s]; rfl
  · rw [pm_up_s]; rfl
set_option maxHeartbeats 4000000 in
theorem m_weigh {N : Nat} {sz a b e m n : Int32} {va vb ve need : Int64} {st : mdT} (hd : 3 ≤ d) (h38 : I 68 38 = nI N) (hN : N ≤ 30) (ha : plW J a va) (hb : plW J b vb) (he : plW J e ve) (h58 : J 68 58 = need) (hn : itr (fun k (z : Int32) => z + (if tb (va ||| vb ||| ve) k = true then I 109 k else 0)) 0 (2 * N) = n) (hst : mdH I N st) (hQ : ∀ I', frW I I' → mdH I' N (if opn need (va ||| vb ||| ve) = 0 ∧ n ≤ m then wgV sz a b e (va ||| vb ||| ve) n st else st) → Q none SH I' J) : pm_C g d 257 [.ref 68, .int sz, .int a, .int b, .int e, .int m] Q SH I J := by
  have w6 : UU g (d - 1) 257 kX12_weigh (pm_rm d 257) Q 6 [some (.ref 68), some (.int sz), some (.int a), some (.int b), some (.int e), some (.int m), none, none, none, none] [.long ve, .long (va ||| vb)] SH I J (0, 0) := by
    clear ha hb he
    generalize va ||| vb = vv at hn hQ ⊢
    generalize hx : vv ||| ve = x at hn hQ
    by_cases ho : opn need x = 0
    · by_cases hm : n ≤ m
      · rw [if_pos ⟨ho, hm⟩] at hQ
        obtain ⟨s1, s2, s3, s4, s5⟩ := hst
        have w8 : UU g (d - 1) 257 kX12_weigh (pm_rm d 257) Q 8 [some (.ref 68), some (.int sz), some (.int a), some (.int b), some (.int e), some (.int m), some (.long x), none, some (.int n), none] [] SH I J (0, 0) := by
          unfold wgV at hQ
          by_cases hc : st.1 = 0 ∨ n < st.2.1
          · rw [if_pos hc, if_pos hc] at hQ
            have w := m_tally (g := g) (d := d) (Q := Q) (J := J) (N := N) (sz := sz) (a := a) (b := b) (e := e) (m := m) (n := n) (x := x) (I1 := pm_up (pm_up (pm_up (pm_up (pm_up (pm_up I 68 61 n) 110 0 a) 110 1 b) 110 2 e) 68 60 sz) 68 63 (I 68 63 + 1)) (by simp (disch := decide) only [pm_up_o, pm_up_n]; exact h38) hN (fun I' k1 k2 => hQ I' ⟨fun z p1 p2 p3 => by rw [k1 z p3, pm_up_o p1, pm_up_o p1, pm_up_o p2, pm_up_o p2, pm_up_o p2, pm_up_o p1], fun j p1 p2 p3 => by rw [k1 68 (by decide), pm_up_n p3, pm_up_n p1, pm_up_o (by decide), pm_up_o (by decide), pm_up_o (by decide), pm_up_n p2]⟩ ⟨by rw [k1 68 (by decide), pm_up_s, s1], by
              rw [k1 68 (by decide)]; simp (disch := decide) only [pm_up_o, pm_up_n, pm_up_s], by
              rw [k1 68 (by decide)]; simp (disch := decide) only [pm_up_o, pm_up_n, pm_up_s], fun i hi => by
              rw [k1 110 (by decide), pm_up_o (by decide), pm_up_o (by decide)]; exact at3_up i hi, fun k hk => by
              rw [k2 k hk]; simp (disch := decide) only [pm_up_o]; rw [s5 k hk]⟩)
            rw [← s1, ← s2] at hc
            clear hQ s4 s5
            refine bX12_weigh_8 ?_
            simp (disch := first | omega | decide) only [w_nl0, w_nli, w_nlr, ↓w_ts1, ↓w_ts0, w_rcv, w_rfv, w_cs, true_and, and_true, List.length_nil, List.length_cons, Nat.reduceAdd, Nat.reduceLeDiff, Nat.zero_le, Nat.reduceLT, ↓w_nil, ix_nI, nI_leP, nI_ltP, nI_eqP, nI_1, ↓i_inN, i_inN, l_le, l_lt, l_eq, r_le, r_lt, r_eq, sh68_0, sh68_1, sh68_2, sh68_3, sh68_4, ↓w_aload_0, ↓w_gf0, ↓w_ifeq, ↓w_iload_8, ↓w_icge]
            repeat' (first
              | (apply And.intro)
              | (with_reducible refine bX12_weigh_9 ?_; simp (disch := first | omega | decide) only [w_nl0, w_nli, w_nlr, ↓w_ts1, ↓w_ts0, w_rcv, w_rfv, w_cs, true_and, and_true, List.length_nil, List.length_cons, Nat.reduceAdd, Nat.reduceLeDiff, Nat.zero_le, Nat.reduceLT, ↓w_nil, ix_nI, nI_leP, nI_ltP, nI_eqP, nI_1, ↓i_inN, i_inN, l_le, l_lt, l_eq, r_le, r_lt, r_eq, sh68_0, sh68_1, sh68_2, sh68_3, sh68_4, ↓w_iload_2, ↓w_ifge, ↓w_lconst0, ↓w_goto, ↓w_aload_0, ↓w_gf3, ↓w_laload, ↓w_iload_3, ↓w_lor, ↓w_iload_4, ↓w_lstore_6, ↓w_gf1, ↓w_lload_6, ↓w_ldc2_17, ↓w_lxor, ↓w_land, ↓w_lcmp, ↓w_ifeq, ↓w_vret, ↓w_iv, ↓pm_cl2_2, ↓w_istore_8, ↓w_iload_8, ↓w_iload_5, ↓w_icle, ↓w_gf0, ↓w_icge, ↓w_pf0, ↓w_iconst, ↓w_iastore, ↓w_iload_1, ↓w_dup_i, ↓w_dup_r, ↓w_iadd, ↓w_istore_9, ↓w_iload_9, ↓w_imul, ↓w_dup2, ↓w_iaload, ↓w_lshr, ↓w_lconst1, ↓w_l2i, ↓w_iinc_9, pm_up_o, pm_up_n])
              | (with_reducible refine bX12_weigh_10 ?_; simp (disch := first | omega | decide) only [w_nl0, w_nli, w_nlr, ↓w_ts1, ↓w_ts0, w_rcv, w_rfv, w_cs, true_and, and_true, List.length_nil, List.length_cons, Nat.reduceAdd, Nat.reduceLeDiff, Nat.zero_le, Nat.reduceLT, ↓w_nil, ix_nI, nI_leP, nI_ltP, nI_eqP, nI_1, ↓i_inN, i_inN, l_le, l_lt, l_eq, r_le, r_lt, r_eq, sh68_0, sh68_1, sh68_2, sh68_3, sh68_4, ↓w_iload_2, ↓w_ifge, ↓w_lconst0, ↓w_goto, ↓w_aload_0, ↓w_gf3, ↓w_laload, ↓w_iload_3, ↓w_lor, ↓w_iload_4, ↓w_lstore_6, ↓w_gf1, ↓w_lload_6, ↓w_ldc2_17, ↓w_lxor, ↓w_land, ↓w_lcmp, ↓w_ifeq, ↓w_vret, ↓w_iv, ↓pm_cl2_2, ↓w_istore_8, ↓w_iload_8, ↓w_iload_5, ↓w_icle, ↓w_gf0, ↓w_icge, ↓w_pf0, ↓w_iconst, ↓w_iastore, ↓w_iload_1, ↓w_dup_i, ↓w_dup_r, ↓w_iadd, ↓w_istore_9, ↓w_iload_9, ↓w_imul, ↓w_dup2, ↓w_iaload, ↓w_lshr, ↓w_lconst1, ↓w_l2i, ↓w_iinc_9, pm_up_o, pm_up_n])
              | (simp only [w_in])
              | (intro _))
            all_goals first | (with_reducible exact w) | omega | grind
          · rw [if_neg hc, if_neg hc] at hQ
            have w := m_tally (g := g) (d := d) (Q := Q) (J := J) (N := N) (sz := sz) (a := a) (b := b) (e := e) (m := m) (n := n) (x := x) (I1 := pm_up (pm_up I 68 60 sz) 68 63 (I 68 63 + 1)) (by simp (disch := decide) only [pm_up_o, pm_up_n]; exact h38) hN (fun I' k1 k2 => hQ I' ⟨fun z p1 p2 p3 => by rw [k1 z p3, pm_up_o p1, pm_up_o p1], fun j p1 p2 p3 => by rw [k1 68 (by decide), pm_up_n p3, pm_up_n p1]⟩ ⟨by rw [k1 68 (by decide), pm_up_s, s1], by
              rw [k1 68 (by decide)]; simp (disch := decide) only [pm_up_n]; exact s2, by
              rw [k1 68 (by decide)]; simp (disch := decide) only [pm_up_n, pm_up_s], fun i hi => by
              rw [k1 110 (by decide), pm_up_o (by decide), pm_up_o (by decide)]; exact s4 i hi, fun k hk => by
              rw [k2 k hk]; simp (disch := decide) only [pm_up_o]; rw [s5 k hk]⟩)
            rw [← s1, ← s2] at hc
            clear hQ s4 s5
            refine bX12_weigh_8 ?_
            simp (disch := first | omega | decide) only [w_nl0, w_nli, w_nlr, ↓w_ts1, ↓w_ts0, w_rcv, w_rfv, w_cs, true_and, and_true, List.length_nil, List.length_cons, Nat.reduceAdd, Nat.reduceLeDiff, Nat.zero_le, Nat.reduceLT, ↓w_nil, ix_nI, nI_leP, nI_ltP, nI_eqP, nI_1, ↓i_inN, i_inN, l_le, l_lt, l_eq, r_le, r_lt, r_eq, sh68_0, sh68_1, sh68_2, sh68_3, sh68_4, ↓w_aload_0, ↓w_gf0, ↓w_ifeq, ↓w_iload_8, ↓w_icge]
            repeat' (first
              | (apply And.intro)
              | (with_reducible refine bX12_weigh_9 ?_; simp (disch := first | omega | decide) only [w_nl0, w_nli, w_nlr, ↓w_ts1, ↓w_ts0, w_rcv, w_rfv, w_cs, true_and, and_true, List.length_nil, List.length_cons, Nat.reduceAdd, Nat.reduceLeDiff, Nat.zero_le, Nat.reduceLT, ↓w_nil, ix_nI, nI_leP, nI_ltP, nI_eqP, nI_1, ↓i_inN, i_inN, l_le, l_lt, l_eq, r_le, r_lt, r_eq, sh68_0, sh68_1, sh68_2, sh68_3, sh68_4, ↓w_iload_2, ↓w_ifge, ↓w_lconst0, ↓w_goto, ↓w_aload_0, ↓w_gf3, ↓w_laload, ↓w_iload_3, ↓w_lor, ↓w_iload_4, ↓w_lstore_6, ↓w_gf1, ↓w_lload_6, ↓w_ldc2_17, ↓w_lxor, ↓w_land, ↓w_lcmp, ↓w_ifeq, ↓w_vret, ↓w_iv, ↓pm_cl2_2, ↓w_istore_8, ↓w_iload_8, ↓w_iload_5, ↓w_icle, ↓w_gf0, ↓w_icge, ↓w_pf0, ↓w_iconst, ↓w_iastore, ↓w_iload_1, ↓w_dup_i, ↓w_dup_r, ↓w_iadd, ↓w_istore_9, ↓w_iload_9, ↓w_imul, ↓w_dup2, ↓w_iaload, ↓w_lshr, ↓w_lconst1, ↓w_l2i, ↓w_iinc_9, pm_up_o, pm_up_n])
              | (with_reducible refine bX12_weigh_10 ?_; simp (disch := first | omega | decide) only [w_nl0, w_nli, w_nlr, ↓w_ts1, ↓w_ts0, w_rcv, w_rfv, w_cs, true_and, and_true, List.length_nil, List.length_cons, Nat.reduceAdd, Nat.reduceLeDiff, Nat.zero_le, Nat.reduceLT, ↓w_nil, ix_nI, nI_leP, nI_ltP, nI_eqP, nI_1, ↓i_inN, i_inN, l_le, l_lt, l_eq, r_le, r_lt, r_eq, sh68_0, sh68_1, sh68_2, sh68_3, sh68_4, ↓w_iload_2, ↓w_ifge, ↓w_lconst0, ↓w_goto, ↓w_aload_0, ↓w_gf3, ↓w_laload, ↓w_iload_3, ↓w_lor, ↓w_iload_4, ↓w_lstore_6, ↓w_gf1, ↓w_lload_6, ↓w_ldc2_17, ↓w_lxor, ↓w_land, ↓w_lcmp, ↓w_ifeq, ↓w_vret, ↓w_iv, ↓pm_cl2_2, ↓w_istore_8, ↓w_iload_8, ↓w_iload_5, ↓w_icle, ↓w_gf0, ↓w_icge, ↓w_pf0, ↓w_iconst, ↓w_iastore, ↓w_iload_1, ↓w_dup_i, ↓w_dup_r, ↓w_iadd, ↓w_istore_9, ↓w_iload_9, ↓w_imul, ↓w_dup2, ↓w_iaload, ↓w_lshr, ↓w_lconst1, ↓w_l2i, ↓w_iinc_9, pm_up_o, pm_up_n])
              | (simp only [w_in])
              | (intro _))
            all_goals first | (with_reducible exact w) | omega | grind
        unfold opn at ho
        clear hQ s1 s2 s3 s4 s5
        refine bX12_weigh_6 ?_
        simp (disch := first | omega | decide) only [w_nl0, w_nli, w_nlr, ↓w_ts1, ↓w_ts0, w_rcv, w_rfv, w_cs, true_and, and_true, List.length_nil, List.length_cons, Nat.reduceAdd, Nat.reduceLeDiff, Nat.zero_le, Nat.reduceLT, ↓w_nil, ix_nI, nI_leP, nI_ltP, nI_eqP, nI_1, ↓i_inN, i_inN, l_le, l_lt, l_eq, r_le, r_lt, r_eq, sh68_0, sh68_1, sh68_2, sh68_3, sh68_4, ↓w_lor, ↓w_lstore_6, ↓w_aload_0, ↓w_gf1, ↓w_lload_6, ↓w_ldc2_17, ↓w_lxor, ↓w_land, ↓w_lconst0, ↓w_lcmp, ↓w_ifeq, ↓w_vret, h58, lg_eq0, hx, ho]
        repeat' (first
          | (apply And.intro)
          | (with_reducible refine bX12_weigh_7 ?_; simp (disch := first | omega | decide) only [w_nl0, w_nli, w_nlr, ↓w_ts1, ↓w_ts0, w_rcv, w_rfv, w_cs, true_and, and_true, List.length_nil, List.length_cons, Nat.reduceAdd, Nat.reduceLeDiff, Nat.zero_le, Nat.reduceLT, ↓w_nil, ix_nI, nI_leP, nI_ltP, nI_eqP, nI_1, ↓i_inN, i_inN, l_le, l_lt, l_eq, r_le, r_lt, r_eq, sh68_0, sh68_1, sh68_2, sh68_3, sh68_4, ↓w_iload_2, ↓w_ifge, ↓w_lconst0, ↓w_goto, ↓w_aload_0, ↓w_gf3, ↓w_laload, ↓w_iload_3, ↓w_lor, ↓w_iload_4, ↓w_lstore_6, ↓w_gf1, ↓w_lload_6, ↓w_ldc2_17, ↓w_lxor, ↓w_land, ↓w_lcmp, ↓w_ifeq, ↓w_vret, ↓w_iv, ↓pm_cl2_2, ↓w_istore_8, ↓w_iload_8, ↓w_iload_5, ↓w_icle, ↓w_gf0, ↓w_icge, ↓w_pf0, ↓w_iconst, ↓w_iastore, ↓w_iload_1, ↓w_dup_i, ↓w_dup_r, ↓w_iadd, ↓w_istore_9, ↓w_iload_9, ↓w_imul, ↓w_dup2, ↓w_iaload, ↓w_lshr, ↓w_lconst1, ↓w_l2i, ↓w_iinc_9, h58, lg_eq0, hx, ho, hn])
          | (with_reducible refine m_missesOf (by omega) h38 hN ?_ ; simp (disch := first | omega | decide) only [w_nl0, w_nli, w_nlr, ↓w_ts1, ↓w_ts0, w_rcv, w_rfv, w_cs, true_and, and_true, List.length_nil, List.length_cons, Nat.reduceAdd, Nat.reduceLeDiff, Nat.zero_le, Nat.reduceLT, ↓w_nil, ix_nI, nI_leP, nI_ltP, nI_eqP, nI_1, ↓i_inN, i_inN, l_le, l_lt, l_eq, r_le, r_lt, r_eq, sh68_0, sh68_1, sh68_2, sh68_3, sh68_4, ↓w_iload_2, ↓w_ifge, ↓w_lconst0, ↓w_goto, ↓w_aload_0, ↓w_gf3, ↓w_laload, ↓w_iload_3, ↓w_lor, ↓w_iload_4, ↓w_lstore_6, ↓w_gf1, ↓w_lload_6, ↓w_ldc2_17, ↓w_lxor, ↓w_land, ↓w_lcmp, ↓w_ifeq, ↓w_vret, ↓w_iv, ↓pm_cl2_2, ↓w_istore_8, ↓w_iload_8, ↓w_iload_5, ↓w_icle, ↓w_gf0, ↓w_icge, ↓w_pf0, ↓w_iconst, ↓w_iastore, ↓w_iload_1, ↓w_dup_i, ↓w_dup_r, ↓w_iadd, ↓w_istore_9, ↓w_iload_9, ↓w_imul, ↓w_dup2, ↓w_iaload, ↓w_lshr, ↓w_lconst1, ↓w_l2i, ↓w_iinc_9, h58, lg_eq0, hx, ho, hn])
          | (simp only [w_in])
          | (intro _))
        all_goals first | (with_reducible exact w8) | omega | grind
      · have hq := hQ I frW.rf (by rw [if_neg (fun z => hm z.2)]; exact hst)
        unfold opn at ho
        clear hQ hst
        refine bX12_weigh_6 ?_
        simp (disch := first | omega | decide) only [w_nl0, w_nli, w_nlr, ↓w_ts1, ↓w_ts0, w_rcv, w_rfv, w_cs, true_and, and_true, List.length_nil, List.length_cons, Nat.reduceAdd, Nat.reduceLeDiff, Nat.zero_le, Nat.reduceLT, ↓w_nil, ix_nI, nI_leP, nI_ltP, nI_eqP, nI_1, ↓i_inN, i_inN, l_le, l_lt, l_eq, r_le, r_lt, r_eq, sh68_0, sh68_1, sh68_2, sh68_3, sh68_4, ↓w_lor, ↓w_lstore_6, ↓w_aload_0, ↓w_gf1, ↓w_lload_6, ↓w_ldc2_17, ↓w_lxor, ↓w_land, ↓w_lconst0, ↓w_lcmp, ↓w_ifeq, ↓w_vret, h58, lg_eq0, hx, ho]
        repeat' (first
          | (apply And.intro)
          | (with_reducible refine bX12_weigh_7 ?_; simp (disch := first | omega | decide) only [w_nl0, w_nli, w_nlr, ↓w_ts1, ↓w_ts0, w_rcv, w_rfv, w_cs, true_and, and_true, List.length_nil, List.length_cons, Nat.reduceAdd, Nat.reduceLeDiff, Nat.zero_le, Nat.reduceLT, ↓w_nil, ix_nI, nI_leP, nI_ltP, nI_eqP, nI_1, ↓i_inN, i_inN, l_le, l_lt, l_eq, r_le, r_lt, r_eq, sh68_0, sh68_1, sh68_2, sh68_3, sh68_4, ↓w_iload_2, ↓w_ifge, ↓w_lconst0, ↓w_goto, ↓w_aload_0, ↓w_gf3, ↓w_laload, ↓w_iload_3, ↓w_lor, ↓w_iload_4, ↓w_lstore_6, ↓w_gf1, ↓w_lload_6, ↓w_ldc2_17, ↓w_lxor, ↓w_land, ↓w_lcmp, ↓w_ifeq, ↓w_vret, ↓w_iv, ↓pm_cl2_2, ↓w_istore_8, ↓w_iload_8, ↓w_iload_5, ↓w_icle, ↓w_gf0, ↓w_icge, ↓w_pf0, ↓w_iconst, ↓w_iastore, ↓w_iload_1, ↓w_dup_i, ↓w_dup_r, ↓w_iadd, ↓w_istore_9, ↓w_iload_9, ↓w_imul, ↓w_dup2, ↓w_iaload, ↓w_lshr, ↓w_lconst1, ↓w_l2i, ↓w_iinc_9, h58, lg_eq0, hx, ho, hn])
          | (with_reducible refine m_missesOf (by omega) h38 hN ?_ ; simp (disch := first | omega | decide) only [w_nl0, w_nli, w_nlr, ↓w_ts1, ↓w_ts0, w_rcv, w_rfv, w_cs, true_and, and_true, List.length_nil, List.length_cons, Nat.reduceAdd, Nat.reduceLeDiff, Nat.zero_le, Nat.reduceLT, ↓w_nil, ix_nI, nI_leP, nI_ltP, nI_eqP, nI_1, ↓i_inN, i_inN, l_le, l_lt, l_eq, r_le, r_lt, r_eq, sh68_0, sh68_1, sh68_2, sh68_3, sh68_4, ↓w_iload_2, ↓w_ifge, ↓w_lconst0, ↓w_goto, ↓w_aload_0, ↓w_gf3, ↓w_laload, ↓w_iload_3, ↓w_lor, ↓w_iload_4, ↓w_lstore_6, ↓w_gf1, ↓w_lload_6, ↓w_ldc2_17, ↓w_lxor, ↓w_land, ↓w_lcmp, ↓w_ifeq, ↓w_vret, ↓w_iv, ↓pm_cl2_2, ↓w_istore_8, ↓w_iload_8, ↓w_iload_5, ↓w_icle, ↓w_gf0, ↓w_icge, ↓w_pf0, ↓w_iconst, ↓w_iastore, ↓w_iload_1, ↓w_dup_i, ↓w_dup_r, ↓w_iadd, ↓w_istore_9, ↓w_iload_9, ↓w_imul, ↓w_dup2, ↓w_iaload, ↓w_lshr, ↓w_lconst1, ↓w_l2i, ↓w_iinc_9, h58, lg_eq0, hx, ho, hn])
          | (simp only [w_in])
          | (intro _))
        all_goals first | (with_reducible exact hq) | omega | grind
    · have hq := hQ I frW.rf (by rw [if_neg (fun z => ho z.1)]; exact hst)
      unfold opn at ho
      clear hQ hst hn
      refine bX12_weigh_6 ?_
      simp (disch := first | omega | decide) only [w_nl0, w_nli, w_nlr, ↓w_ts1, ↓w_ts0, w_rcv, w_rfv, w_cs, true_and, and_true, List.length_nil, List.length_cons, Nat.reduceAdd, Nat.reduceLeDiff, Nat.zero_le, Nat.reduceLT, ↓w_nil, ix_nI, nI_leP, nI_ltP, nI_eqP, nI_1, ↓i_inN, i_inN, l_le, l_lt, l_eq, r_le, r_lt, r_eq, sh68_0, sh68_1, sh68_2, sh68_3, sh68_4, ↓w_lor, ↓w_lstore_6, ↓w_aload_0, ↓w_gf1, ↓w_lload_6, ↓w_ldc2_17, ↓w_lxor, ↓w_land, ↓w_lconst0, ↓w_lcmp, ↓w_ifeq, ↓w_vret, h58, lg_eq0, hx]
      repeat' (first
        | (apply And.intro)
        | (simp only [w_in])
        | (intro _))
      all_goals first | (with_reducible exact hq) | omega | grind
  clear hQ hst hn
  have w4 : UU g (d - 1) 257 kX12_weigh (pm_rm d 257) Q 4 [some (.ref 68), some (.int sz), some (.int a), some (.int b), some (.int e), some (.int m), none, none, none, none] [.long vb, .long va] SH I J (0, 0) := by
    rcases he with ⟨rfl, rfl⟩ | ⟨p, hp, rfl, hv⟩
    · refine bX12_weigh_4 ?_
      simp (disch := first | omega | decide) only [w_nl0, w_nli, w_nlr, ↓w_ts1, ↓w_ts0, w_rcv, w_rfv, w_cs, true_and, and_true, List.length_nil, List.length_cons, Nat.reduceAdd, Nat.reduceLeDiff, Nat.zero_le, Nat.reduceLT, ↓w_nil, ix_nI, nI_leP, nI_ltP, nI_eqP, nI_1, ↓i_inN, i_inN, l_le, l_lt, l_eq, r_le, r_lt, r_eq, sh68_0, sh68_1, sh68_2, sh68_3, sh68_4, ↓w_lor, ↓w_iload_4, ↓w_ifge, ↓w_lconst0, ↓w_goto]
      repeat' (first
        | (apply And.intro)
        | (with_reducible refine bX12_weigh_5 ?_; simp (disch := first | omega | decide) only [w_nl0, w_nli, w_nlr, ↓w_ts1, ↓w_ts0, w_rcv, w_rfv, w_cs, true_and, and_true, List.length_nil, List.length_cons, Nat.reduceAdd, Nat.reduceLeDiff, Nat.zero_le, Nat.reduceLT, ↓w_nil, ix_nI, nI_leP, nI_ltP, nI_eqP, nI_1, ↓i_inN, i_inN, l_le, l_lt, l_eq, r_le, r_lt, r_eq, sh68_0, sh68_1, sh68_2, sh68_3, sh68_4, ↓w_iload_2, ↓w_ifge, ↓w_lconst0, ↓w_goto, ↓w_aload_0, ↓w_gf3, ↓w_laload, ↓w_iload_3, ↓w_lor, ↓w_iload_4, ↓w_lstore_6, ↓w_gf1, ↓w_lload_6, ↓w_ldc2_17, ↓w_lxor, ↓w_land, ↓w_lcmp, ↓w_ifeq, ↓w_vret, ↓w_iv, ↓pm_cl2_2, ↓w_istore_8, ↓w_iload_8, ↓w_iload_5, ↓w_icle, ↓w_gf0, ↓w_icge, ↓w_pf0, ↓w_iconst, ↓w_iastore, ↓w_iload_1, ↓w_dup_i, ↓w_dup_r, ↓w_iadd, ↓w_istore_9, ↓w_iload_9, ↓w_imul, ↓w_dup2, ↓w_iaload, ↓w_lshr, ↓w_lconst1, ↓w_l2i, ↓w_iinc_9])
        | (simp only [w_in])
        | (intro _))
      all_goals first | (with_reducible exact w6) | omega | grind
    · refine bX12_weigh_4 ?_
      simp (disch := first | omega | decide) only [w_nl0, w_nli, w_nlr, ↓w_ts1, ↓w_ts0, w_rcv, w_rfv, w_cs, true_and, and_true, List.length_nil, List.length_cons, Nat.reduceAdd, Nat.reduceLeDiff, Nat.zero_le, Nat.reduceLT, ↓w_nil, ix_nI, nI_leP, nI_ltP, nI_eqP, nI_1, ↓i_inN, i_inN, l_le, l_lt, l_eq, r_le, r_lt, r_eq, sh68_0, sh68_1, sh68_2, sh68_3, sh68_4, ↓w_lor, ↓w_iload_4, ↓w_ifge, ↓w_lconst0, ↓w_goto, hv]
      repeat' (first
        | (apply And.intro)
        | (with_reducible refine bX12_weigh_5 ?_; simp (disch := first | omega | decide) only [w_nl0, w_nli, w_nlr, ↓w_ts1, ↓w_ts0, w_rcv, w_rfv, w_cs, true_and, and_true, List.length_nil, List.length_cons, Nat.reduceAdd, Nat.reduceLeDiff, Nat.zero_le, Nat.reduceLT, ↓w_nil, ix_nI, nI_leP, nI_ltP, nI_eqP, nI_1, ↓i_inN, i_inN, l_le, l_lt, l_eq, r_le, r_lt, r_eq, sh68_0, sh68_1, sh68_2, sh68_3, sh68_4, ↓w_iload_2, ↓w_ifge, ↓w_lconst0, ↓w_goto, ↓w_aload_0, ↓w_gf3, ↓w_laload, ↓w_iload_3, ↓w_lor, ↓w_iload_4, ↓w_lstore_6, ↓w_gf1, ↓w_lload_6, ↓w_ldc2_17, ↓w_lxor, ↓w_land, ↓w_lcmp, ↓w_ifeq, ↓w_vret, ↓w_iv, ↓pm_cl2_2, ↓w_istore_8, ↓w_iload_8, ↓w_iload_5, ↓w_icle, ↓w_gf0, ↓w_icge, ↓w_pf0, ↓w_iconst, ↓w_iastore, ↓w_iload_1, ↓w_dup_i, ↓w_dup_r, ↓w_iadd, ↓w_istore_9, ↓w_iload_9, ↓w_imul, ↓w_dup2, ↓w_iaload, ↓w_lshr, ↓w_lconst1, ↓w_l2i, ↓w_iinc_9, hv])
        | (simp only [w_in])
        | (intro _))
      all_goals first | (with_reducible exact w6) | omega | grind
  clear w6
  have w2 : UU g (d - 1) 257 kX12_weigh (pm_rm d 257) Q 2 [some (.ref 68), some (.int sz), some (.int a), some (.int b), some (.int e), some (.int m), none, none, none, none] [.long va] SH I J (0, 0) := by
    rcases hb with ⟨rfl, rfl⟩ | ⟨p, hp, rfl, hv⟩
    · refine bX12_weigh_2 ?_
      simp (disch := first | omega | decide) only [w_nl0, w_nli, w_nlr, ↓w_ts1, ↓w_ts0, w_rcv, w_rfv, w_cs, true_and, and_true, List.length_nil, List.length_cons, Nat.reduceAdd, Nat.reduceLeDiff, Nat.zero_le, Nat.reduceLT, ↓w_nil, ix_nI, nI_leP, nI_ltP, nI_eqP, nI_1, ↓i_inN, i_inN, l_le, l_lt, l_eq, r_le, r_lt, r_eq, sh68_0, sh68_1, sh68_2, sh68_3, sh68_4, ↓w_iload_3, ↓w_ifge, ↓w_lconst0, ↓w_goto]
      repeat' (first
        | (apply And.intro)
        | (with_reducible refine bX12_weigh_3 ?_; simp (disch := first | omega | decide) only [w_nl0, w_nli, w_nlr, ↓w_ts1, ↓w_ts0, w_rcv, w_rfv, w_cs, true_and, and_true, List.length_nil, List.length_cons, Nat.reduceAdd, Nat.reduceLeDiff, Nat.zero_le, Nat.reduceLT, ↓w_nil, ix_nI, nI_leP, nI_ltP, nI_eqP, nI_1, ↓i_inN, i_inN, l_le, l_lt, l_eq, r_le, r_lt, r_eq, sh68_0, sh68_1, sh68_2, sh68_3, sh68_4, ↓w_iload_2, ↓w_ifge, ↓w_lconst0, ↓w_goto, ↓w_aload_0, ↓w_gf3, ↓w_laload, ↓w_iload_3, ↓w_lor, ↓w_iload_4, ↓w_lstore_6, ↓w_gf1, ↓w_lload_6, ↓w_ldc2_17, ↓w_lxor, ↓w_land, ↓w_lcmp, ↓w_ifeq, ↓w_vret, ↓w_iv, ↓pm_cl2_2, ↓w_istore_8, ↓w_iload_8, ↓w_iload_5, ↓w_icle, ↓w_gf0, ↓w_icge, ↓w_pf0, ↓w_iconst, ↓w_iastore, ↓w_iload_1, ↓w_dup_i, ↓w_dup_r, ↓w_iadd, ↓w_istore_9, ↓w_iload_9, ↓w_imul, ↓w_dup2, ↓w_iaload, ↓w_lshr, ↓w_lconst1, ↓w_l2i, ↓w_iinc_9])
        | (simp only [w_in])
        | (intro _))
      all_goals first | (with_reducible exact w4) | omega | grind
    · refine bX12_weigh_2 ?_
      simp (disch := first | omega | decide) only [w_nl0, w_nli, w_nlr, ↓w_ts1, ↓w_ts0, w_rcv, w_rfv, w_cs, true_and, and_true, List.length_nil, List.length_cons, Nat.reduceAdd, Nat.reduceLeDiff, Nat.zero_le, Nat.reduceLT, ↓w_nil, ix_nI, nI_leP, nI_ltP, nI_eqP, nI_1, ↓i_inN, i_inN, l_le, l_lt, l_eq, r_le, r_lt, r_eq, sh68_0, sh68_1, sh68_2, sh68_3, sh68_4, ↓w_iload_3, ↓w_ifge, ↓w_lconst0, ↓w_goto, hv]
      repeat' (first
        | (apply And.intro)
        | (with_reducible refine bX12_weigh_3 ?_; simp (disch := first | omega | decide) only [w_nl0, w_nli, w_nlr, ↓w_ts1, ↓w_ts0, w_rcv, w_rfv, w_cs, true_and, and_true, List.length_nil, List.length_cons, Nat.reduceAdd, Nat.reduceLeDiff, Nat.zero_le, Nat.reduceLT, ↓w_nil, ix_nI, nI_leP, nI_ltP, nI_eqP, nI_1, ↓i_inN, i_inN, l_le, l_lt, l_eq, r_le, r_lt, r_eq, sh68_0, sh68_1, sh68_2, sh68_3, sh68_4, ↓w_iload_2, ↓w_ifge, ↓w_lconst0, ↓w_goto, ↓w_aload_0, ↓w_gf3, ↓w_laload, ↓w_iload_3, ↓w_lor, ↓w_iload_4, ↓w_lstore_6, ↓w_gf1, ↓w_lload_6, ↓w_ldc2_17, ↓w_lxor, ↓w_land, ↓w_lcmp, ↓w_ifeq, ↓w_vret, ↓w_iv, ↓pm_cl2_2, ↓w_istore_8, ↓w_iload_8, ↓w_iload_5, ↓w_icle, ↓w_gf0, ↓w_icge, ↓w_pf0, ↓w_iconst, ↓w_iastore, ↓w_iload_1, ↓w_dup_i, ↓w_dup_r, ↓w_iadd, ↓w_istore_9, ↓w_iload_9, ↓w_imul, ↓w_dup2, ↓w_iaload, ↓w_lshr, ↓w_lconst1, ↓w_l2i, ↓w_iinc_9, hv])
        | (simp only [w_in])
        | (intro _))
      all_goals first | (with_reducible exact w4) | omega | grind
  clear w4
  rcases ha with ⟨rfl, rfl⟩ | ⟨p, hp, rfl, hv⟩
  · refine eX12_weigh (by omega) ?_
    repeat' (first
      | (apply And.intro)
      | (with_reducible refine bX12_weigh_0 ?_; simp (disch := first | omega | decide) only [w_nl0, w_nli, w_nlr, ↓w_ts1, ↓w_ts0, w_rcv, w_rfv, w_cs, true_and, and_true, List.length_nil, List.length_cons, Nat.reduceAdd, Nat.reduceLeDiff, Nat.zero_le, Nat.reduceLT, ↓w_nil, ix_nI, nI_leP, nI_ltP, nI_eqP, nI_1, ↓i_inN, i_inN, l_le, l_lt, l_eq, r_le, r_lt, r_eq, sh68_0, sh68_1, sh68_2, sh68_3, sh68_4, ↓w_iload_2, ↓w_ifge, ↓w_lconst0, ↓w_goto, ↓w_aload_0, ↓w_gf3, ↓w_laload, ↓w_iload_3, ↓w_lor, ↓w_iload_4, ↓w_lstore_6, ↓w_gf1, ↓w_lload_6, ↓w_ldc2_17, ↓w_lxor, ↓w_land, ↓w_lcmp, ↓w_ifeq, ↓w_vret, ↓w_iv, ↓pm_cl2_2, ↓w_istore_8, ↓w_iload_8, ↓w_iload_5, ↓w_icle, ↓w_gf0, ↓w_icge, ↓w_pf0, ↓w_iconst, ↓w_iastore, ↓w_iload_1, ↓w_dup_i, ↓w_dup_r, ↓w_iadd, ↓w_istore_9, ↓w_iload_9, ↓w_imul, ↓w_dup2, ↓w_iaload, ↓w_lshr, ↓w_lconst1, ↓w_l2i, ↓w_iinc_9])
      | (with_reducible refine bX12_weigh_1 ?_; simp (disch := first | omega | decide) only [w_nl0, w_nli, w_nlr, ↓w_ts1, ↓w_ts0, w_rcv, w_rfv, w_cs, true_and, and_true, List.length_nil, List.length_cons, Nat.reduceAdd, Nat.reduceLeDiff, Nat.zero_le, Nat.reduceLT, ↓w_nil, ix_nI, nI_leP, nI_ltP, nI_eqP, nI_1, ↓i_inN, i_inN, l_le, l_lt, l_eq, r_le, r_lt, r_eq, sh68_0, sh68_1, sh68_2, sh68_3, sh68_4, ↓w_iload_2, ↓w_ifge, ↓w_lconst0, ↓w_goto, ↓w_aload_0, ↓w_gf3, ↓w_laload, ↓w_iload_3, ↓w_lor, ↓w_iload_4, ↓w_lstore_6, ↓w_gf1, ↓w_lload_6, ↓w_ldc2_17, ↓w_lxor, ↓w_land, ↓w_lcmp, ↓w_ifeq, ↓w_vret, ↓w_iv, ↓pm_cl2_2, ↓w_istore_8, ↓w_iload_8, ↓w_iload_5, ↓w_icle, ↓w_gf0, ↓w_icge, ↓w_pf0, ↓w_iconst, ↓w_iastore, ↓w_iload_1, ↓w_dup_i, ↓w_dup_r, ↓w_iadd, ↓w_istore_9, ↓w_iload_9, ↓w_imul, ↓w_dup2, ↓w_iaload, ↓w_lshr, ↓w_lconst1, ↓w_l2i, ↓w_iinc_9])
      | (simp only [w_in])
      | (intro _))
    all_goals first | (with_reducible exact w2) | omega | grind
  · refine eX12_weigh (by omega) ?_
    repeat' (first
      | (apply And.intro)
      | (with_reducible refine bX12_weigh_0 ?_; simp (disch := first | omega | decide) only [w_nl0, w_nli, w_nlr, ↓w_ts1, ↓w_ts0, w_rcv, w_rfv, w_cs, true_and, and_true, List.length_nil, List.length_cons, Nat.reduceAdd, Nat.reduceLeDiff, Nat.zero_le, Nat.reduceLT, ↓w_nil, ix_nI, nI_leP, nI_ltP, nI_eqP, nI_1, ↓i_inN, i_inN, l_le, l_lt, l_eq, r_le, r_lt, r_eq, sh68_0, sh68_1, sh68_2, sh68_3, sh68_4, ↓w_iload_2, ↓w_ifge, ↓w_lconst0, ↓w_goto, ↓w_aload_0, ↓w_gf3, ↓w_laload, ↓w_iload_3, ↓w_lor, ↓w_iload_4, ↓w_lstore_6, ↓w_gf1, ↓w_lload_6, ↓w_ldc2_17, ↓w_lxor, ↓w_land, ↓w_lcmp, ↓w_ifeq, ↓w_vret, ↓w_iv, ↓pm_cl2_2, ↓w_istore_8, ↓w_iload_8, ↓w_iload_5, ↓w_icle, ↓w_gf0, ↓w_icge, ↓w_pf0, ↓w_iconst, ↓w_iastore, ↓w_iload_1, ↓w_dup_i, ↓w_dup_r, ↓w_iadd, ↓w_istore_9, ↓w_iload_9, ↓w_imul, ↓w_dup2, ↓w_iaload, ↓w_lshr, ↓w_lconst1, ↓w_l2i, ↓w_iinc_9, hv])
      | (with_reducible refine bX12_weigh_1 ?_; simp (disch := first | omega | decide) only [w_nl0, w_nli, w_nlr, ↓w_ts1, ↓w_ts0, w_rcv, w_rfv, w_cs, true_and, and_true, List.length_nil, List.length_cons, Nat.reduceAdd, Nat.reduceLeDiff, Nat.zero_le, Nat.reduceLT, ↓w_nil, ix_nI, nI_leP, nI_ltP, nI_eqP, nI_1, ↓i_inN, i_inN, l_le, l_lt, l_eq, r_le, r_lt, r_eq, sh68_0, sh68_1, sh68_2, sh68_3, sh68_4, ↓w_iload_2, ↓w_ifge, ↓w_lconst0, ↓w_goto, ↓w_aload_0, ↓w_gf3, ↓w_laload, ↓w_iload_3, ↓w_lor, ↓w_iload_4, ↓w_lstore_6, ↓w_gf1, ↓w_lload_6, ↓w_ldc2_17, ↓w_lxor, ↓w_land, ↓w_lcmp, ↓w_ifeq, ↓w_vret, ↓w_iv, ↓pm_cl2_2, ↓w_istore_8, ↓w_iload_8, ↓w_iload_5, ↓w_icle, ↓w_gf0, ↓w_icge, ↓w_pf0, ↓w_iconst, ↓w_iastore, ↓w_iload_1, ↓w_dup_i, ↓w_dup_r, ↓w_iadd, ↓w_istore_9, ↓w_iload_9, ↓w_imul, ↓w_dup2, ↓w_iaload, ↓w_lshr, ↓w_lconst1, ↓w_l2i, ↓w_iinc_9, hv])
      | (simp only [w_in])
      | (intro _))
    all_goals first | (with_reducible exact w2) | omega | grind
end C91l
