section C91k
variable {g : pm_G} {d : Nat} {Q : pm_Po} {S : pm_SS} {I : pm_MI} {J : pm_ML}
variable {P : Nat} {c q : Nat → Int64} {need tal : Int64} {ms s : Nat}
theorem fm_le {α : Type} {f : Nat → List α} {M : Nat} : ∀ {l : List Nat}, (∀ a, a ∈ l → (f a).length ≤ M) → (l.flatMap f).length ≤ l.length * M
  | [], _ => Nat.zero_le _
  | a :: l, h => by
    have ih := fm_le (l := l) (fun x hx => h x (List.mem_cons_of_mem _ hx))
    have h1 := h a List.mem_cons_self
    rw [List.flatMap_cons, List.length_append, List.length_cons, Nat.add_mul, Nat.one_mul]
    omega
theorem pth_len : ∀ (r : Nat) (cov mis : Int64), (pth P c q need ms r cov mis).length ≤ P ^ r
  | 0, cov, mis => by
    rw [pth]
    split
    · exact Nat.le_refl _
    · exact Nat.zero_le _
  | r + 1, cov, mis => by
    rw [pth_F]
    have h := fm_le (f := pthF P c q need ms r cov mis) (M := P ^ r) (l := ufL P c q need ms) (fun a _ => by
      unfold pthF
      split
      · rw [List.length_map]; exact pth_len r _ _
      · exact Nat.zero_le _)
    refine Nat.le_trans h ?_
    rw [Nat.pow_succ, Nat.mul_comm]
    exact Nat.mul_le_mul_left _ ufL_len
theorem pth_len3 {r : Nat} {cov mis : Int64} (hP : P ≤ 160) (hr : r ≤ 3) : (pth P c q need ms r cov mis).length ≤ 4096000 := by
  refine Nat.le_trans (pth_len r cov mis) ?_
  refine Nat.le_trans (Nat.pow_le_pow_left hP r) ?_
  exact Nat.pow_le_pow_right (n := 160) (by omega) hr
theorem tkS_1 : ∀ (L : List (List Nat)) (st : seT), (L.foldl (tkS c q tal s) st).1 = st.1 + nI L.length
  | [], st => by
    show st.1 = st.1 + 0
    rw [Int32.add_zero]
  | T :: L, st => by
    rw [List.foldl_cons, tkS_1 L, List.length_cons]
    show st.1 + 1 + nI L.length = _
    rw [Int32.add_assoc, Nat.add_comm, ← nI_add]
    rfl
def frX (I : pm_MI) (J : pm_ML) (I' : pm_MI) (J' : pm_ML) : Prop := (∀ a, a ≠ 42 → a ≠ 51 → a ≠ 52 → a ≠ 53 → I' a = I a) ∧ I' 42 6 = I 42 6 ∧ ∀ a, a ≠ 42 → a ≠ 50 → J' a = J a
theorem frX.E {I2 I3 : pm_MI} {J2 J3 : pm_ML} (h : frX I J I2 J2) (h2 : frE I2 J2 I3 J3) : frX I J I3 J3 := ⟨fun a p1 p2 p3 p4 => (h2.1 a p1 p3 p4).trans (h.1 a p1 p2 p3 p4), (h2.2.1 6 (by decide)).trans h.2.1, fun a p1 p2 => (h2.2.2.1 a p1).trans (h.2.2 a p1 p2)⟩
theorem frX.fl {I2 : pm_MI} {J2 : pm_ML} {i : Nat} {x : Int32} (h : frX I J I2 J2) (hi : i ≠ 6) : frX I J (pm_up I2 42 i x) J2 := ⟨fun a p1 p2 p3 p4 => by rw [pm_up_o p1]; exact h.1 a p1 p2 p3 p4, by rw [pm_up_n (Ne.symm hi)]; exact h.2.1, h.2.2⟩
theorem rp_cg {I2 : pm_MI} (h : ∀ a, 37 ≤ a → a ≤ 41 → I2 a = I a) : (∀ {N R : Nat}, rpW I N R → rpW I2 N R) ∧ (∀ t R, ndI I2 t R = ndI I t R) ∧ ∀ t c R, qtI I2 t c R = qtI I t c R := by
  have e37 := h 37 (by omega) (by omega)
  have e38 := h 38 (by omega) (by omega)
  have e39 := h 39 (by omega) (by omega)
  have e40 := h 40 (by omega) (by omega)
  have e41 := h 41 (by omega) (by omega)
  have ef : fcI I2 = fcI I := by funext i; unfold fcI; rw [e38, e39]
  refine ⟨fun w => ?_, fun t R => ?_, fun t c R => ?_⟩
  · unfold rpW at w ⊢
    rw [e37, e38, e39, e41, ef]; exact w
  · unfold ndI; rw [e40, e41, ef]
  · unfold qtI; rw [e40, e41, ef]
set_option maxHeartbeats 4000000 in
theorem c_S_explain {N R : Nat} {t : Int32} (hd : 9 ≤ d) (w : rpW I N R) (hN : N ≤ 30) (h43 : I 43 6 = nI P) (hP : P ≤ 160) (h48 : ∀ p, p < P → J 48 p = c p) (hms : ms ≤ 60) (hneed : ndI I t R = need) (hqq : ∀ p, qtI I t (c p) R = q p) (h0 : (∀ s, s ≤ 3 → pth P c q need ms s 0 0 = []) → ∀ I' J', frX I J I' J' → Q (some (.int 0)) SH I' J') (h1 : ∀ s, s ≤ 3 → (∀ s', s' < s → pth P c q need ms s' 0 0 = []) → pth P c q need ms s 0 0 ≠ [] → ∀ I' J' b, frX I J I' J' → I' 42 12 = nI s → J' 42 10 = tal → stH I' J' ((pth P c q need ms s 0 0).foldl (tkS c q tal s) (0, b, fun _ => 0)) → Q (some (.int 1)) SH I' J') : pm_C g d 92 [.ref 42, .ref 37, .int t, .int (nI ms), .long tal] Q SH I J := by
  -- found
  have fnd : ∀ j I' J' L, j ≤ 4 → I' 42 13 = nI L → 0 < L → L ≤ 4096000 → Q (some (.int 1)) SH I' J' → UU g (d - 1) 92 kX8_explain (pm_rm d 92) Q 3 [some (.ref 42), some (.ref 37), some (.int t), some (.int (nI ms)), some (.long tal), none, some (.int (nI j))] [] SH I' J' (0, 0) := by
    intro j I' J' L hj e hL hL2 hq
    have hne : ¬ nI L ≤ 0 := by rw [r_le (n := 0) (by omega) (by omega)]; omega
    have hne0 : ¬ nI L = 0 := by rw [r_eq (n := 0) (by omega) (by omega)]; omega
    clear h0 h1 h48 hqq
    refine bX8_explain_3 ?_
    simp (disch := first | omega | decide) only [w_nl0, w_nli, w_nlr, ↓w_ts1, ↓w_ts0, w_rcv, w_rfv, w_cs, true_and, and_true, List.length_nil, List.length_cons, Nat.reduceAdd, Nat.reduceLeDiff, Nat.zero_le, Nat.reduceLT, ↓w_nil, ix_nI, nI_leP, nI_ltP, nI_eqP, nI_1, ↓i_inN, i_inN, l_le, l_lt, l_eq, r_le, r_lt, r_eq, sh42, sh43, sh37, sh9, sh23, ↓w_iload_6, ↓w_iconst, ↓w_icgt, ↓w_aload_0, ↓w_gf0, ↓w_ifne, ↓w_pf0, ↓w_lconst0, ↓w_iv, ↓pm_cl2_4, ↓w_iinc_6, ↓w_goto, e]
    repeat' (first
      | (apply And.intro)
      | (with_reducible refine bX8_explain_4 ?_; simp (disch := first | omega | decide) only [w_nl0, w_nli, w_nlr, ↓w_ts1, ↓w_ts0, w_rcv, w_rfv, w_cs, true_and, and_true, List.length_nil, List.length_cons, Nat.reduceAdd, Nat.reduceLeDiff, Nat.zero_le, Nat.reduceLT, ↓w_nil, ix_nI, nI_leP, nI_ltP, nI_eqP, nI_1, ↓i_inN, i_inN, l_le, l_lt, l_eq, r_le, r_lt, r_eq, sh42, sh43, sh37, sh9, sh23, ↓w_aload_0, ↓w_aload_1, ↓w_iload_2, ↓w_iconst, ↓w_iv, ↓pm_cl2_3, ↓w_pf1, ↓w_iload_3, ↓w_pf0, ↓w_lload_4, ↓w_istore_6, ↓w_iload_6, ↓w_gf3, ↓w_alen, ↓w_slen, ↓w_icge, ↓w_iastore, ↓w_iinc_6, ↓w_goto, ↓pm_cl2_1, ↓w_icgt, ↓w_gf0, ↓w_ifne, ↓w_lconst0, ↓pm_cl2_4, ↓w_ifle, ↓w_zret, e])
      | (with_reducible refine bX8_explain_5 ?_; simp (disch := first | omega | decide) only [w_nl0, w_nli, w_nlr, ↓w_ts1, ↓w_ts0, w_rcv, w_rfv, w_cs, true_and, and_true, List.length_nil, List.length_cons, Nat.reduceAdd, Nat.reduceLeDiff, Nat.zero_le, Nat.reduceLT, ↓w_nil, ix_nI, nI_leP, nI_ltP, nI_eqP, nI_1, ↓i_inN, i_inN, l_le, l_lt, l_eq, r_le, r_lt, r_eq, sh42, sh43, sh37, sh9, sh23, ↓w_aload_0, ↓w_aload_1, ↓w_iload_2, ↓w_iconst, ↓w_iv, ↓pm_cl2_3, ↓w_pf1, ↓w_iload_3, ↓w_pf0, ↓w_lload_4, ↓w_istore_6, ↓w_iload_6, ↓w_gf3, ↓w_alen, ↓w_slen, ↓w_icge, ↓w_iastore, ↓w_iinc_6, ↓w_goto, ↓pm_cl2_1, ↓w_icgt, ↓w_gf0, ↓w_ifne, ↓w_lconst0, ↓pm_cl2_4, ↓w_ifle, ↓w_zret, e])
      | (with_reducible refine bX8_explain_6 ?_; simp (disch := first | omega | decide) only [w_nl0, w_nli, w_nlr, ↓w_ts1, ↓w_ts0, w_rcv, w_rfv, w_cs, true_and, and_true, List.length_nil, List.length_cons, Nat.reduceAdd, Nat.reduceLeDiff, Nat.zero_le, Nat.reduceLT, ↓w_nil, ix_nI, nI_leP, nI_ltP, nI_eqP, nI_1, ↓i_inN, i_inN, l_le, l_lt, l_eq, r_le, r_lt, r_eq, sh42, sh43, sh37, sh9, sh23, ↓w_aload_0, ↓w_aload_1, ↓w_iload_2, ↓w_iconst, ↓w_iv, ↓pm_cl2_3, ↓w_pf1, ↓w_iload_3, ↓w_pf0, ↓w_lload_4, ↓w_istore_6, ↓w_iload_6, ↓w_gf3, ↓w_alen, ↓w_slen, ↓w_icge, ↓w_iastore, ↓w_iinc_6, ↓w_goto, ↓pm_cl2_1, ↓w_icgt, ↓w_gf0, ↓w_ifne, ↓w_lconst0, ↓pm_cl2_4, ↓w_ifle, ↓w_zret, e])
      | (simp only [w_in])
      | (intro _))
    all_goals first | (with_reducible exact hq) | omega | grind
  have ph3 : ∀ m j, j + m = 4 → (∀ s', s' < j → pth P c q need ms s' 0 0 = []) → ∀ I2 J2, frX I J I2 J2 → (I2 43 6 = nI P ∧ P ≤ 160) → (∀ p, p < P → J2 48 p = c p ∧ J2 50 p = q p) → (I2 42 7 = nI (ufL P c q need ms).length ∧ ∀ u p, (ufL P c q need ms)[u]? = some p → I2 51 u = nI p) → I2 42 8 = nI ms → (J2 42 9 = need ∧ J2 42 10 = tal) → I2 42 13 = 0 → (∀ k, k < 60 → I2 53 k = 0) → UU g (d - 1) 92 kX8_explain (pm_rm d 92) Q 3 [some (.ref 42), some (.ref 37), some (.int t), some (.int (nI ms)), some (.long tal), none, some (.int (nI j))] [] SH I2 J2 (0, 0) := by
    intro m
    induction m with
    | zero =>
      intro j hj hno I2 J2 f1 f2 f3 f4 f5 f6 f7 f8
      have hq := h0 (fun s hs => hno s (by omega)) I2 J2 f1
      have e4 : j = 4 := by omega
      subst e4
      clear h0 h1 h48 hqq fnd f3 f4 f8 hno
      refine bX8_explain_3 ?_
      simp (disch := first | omega | decide) only [w_nl0, w_nli, w_nlr, ↓w_ts1, ↓w_ts0, w_rcv, w_rfv, w_cs, true_and, and_true, List.length_nil, List.length_cons, Nat.reduceAdd, Nat.reduceLeDiff, Nat.zero_le, Nat.reduceLT, ↓w_nil, ix_nI, nI_leP, nI_ltP, nI_eqP, nI_1, ↓i_inN, i_inN, l_le, l_lt, l_eq, r_le, r_lt, r_eq, sh42, sh43, sh37, sh9, sh23, ↓w_iload_6, ↓w_iconst, ↓w_icgt, ↓w_aload_0, ↓w_gf0, ↓w_ifne, ↓w_pf0, ↓w_lconst0, ↓w_iv, ↓pm_cl2_4, ↓w_iinc_6, ↓w_goto]
      repeat' (first
        | (apply And.intro)
        | (with_reducible refine bX8_explain_4 ?_; simp (disch := first | omega | decide) only [w_nl0, w_nli, w_nlr, ↓w_ts1, ↓w_ts0, w_rcv, w_rfv, w_cs, true_and, and_true, List.length_nil, List.length_cons, Nat.reduceAdd, Nat.reduceLeDiff, Nat.zero_le, Nat.reduceLT, ↓w_nil, ix_nI, nI_leP, nI_ltP, nI_eqP, nI_1, ↓i_inN, i_inN, l_le, l_lt, l_eq, r_le, r_lt, r_eq, sh42, sh43, sh37, sh9, sh23, ↓w_aload_0, ↓w_aload_1, ↓w_iload_2, ↓w_iconst, ↓w_iv, ↓pm_cl2_3, ↓w_pf1, ↓w_iload_3, ↓w_pf0, ↓w_lload_4, ↓w_istore_6, ↓w_iload_6, ↓w_gf3, ↓w_alen, ↓w_slen, ↓w_icge, ↓w_iastore, ↓w_iinc_6, ↓w_goto, ↓pm_cl2_1, ↓w_icgt, ↓w_gf0, ↓w_ifne, ↓w_lconst0, ↓pm_cl2_4, ↓w_ifle, ↓w_zret, f7])
        | (with_reducible refine bX8_explain_5 ?_; simp (disch := first | omega | decide) only [w_nl0, w_nli, w_nlr, ↓w_ts1, ↓w_ts0, w_rcv, w_rfv, w_cs, true_and, and_true, List.length_nil, List.length_cons, Nat.reduceAdd, Nat.reduceLeDiff, Nat.zero_le, Nat.reduceLT, ↓w_nil, ix_nI, nI_leP, nI_ltP, nI_eqP, nI_1, ↓i_inN, i_inN, l_le, l_lt, l_eq, r_le, r_lt, r_eq, sh42, sh43, sh37, sh9, sh23, ↓w_aload_0, ↓w_aload_1, ↓w_iload_2, ↓w_iconst, ↓w_iv, ↓pm_cl2_3, ↓w_pf1, ↓w_iload_3, ↓w_pf0, ↓w_lload_4, ↓w_istore_6, ↓w_iload_6, ↓w_gf3, ↓w_alen, ↓w_slen, ↓w_icge, ↓w_iastore, ↓w_iinc_6, ↓w_goto, ↓pm_cl2_1, ↓w_icgt, ↓w_gf0, ↓w_ifne, ↓w_lconst0, ↓pm_cl2_4, ↓w_ifle, ↓w_zret, f7])
        | (with_reducible refine bX8_explain_6 ?_; simp (disch := first | omega | decide) only [w_nl0, w_nli, w_nlr, ↓w_ts1, ↓w_ts0, w_rcv, w_rfv, w_cs, true_and, and_true, List.length_nil, List.length_cons, Nat.reduceAdd, Nat.reduceLeDiff, Nat.zero_le, Nat.reduceLT, ↓w_nil, ix_nI, nI_leP, nI_ltP, nI_eqP, nI_1, ↓i_inN, i_inN, l_le, l_lt, l_eq, r_le, r_lt, r_eq, sh42, sh43, sh37, sh9, sh23, ↓w_aload_0, ↓w_aload_1, ↓w_iload_2, ↓w_iconst, ↓w_iv, ↓pm_cl2_3, ↓w_pf1, ↓w_iload_3, ↓w_pf0, ↓w_lload_4, ↓w_istore_6, ↓w_iload_6, ↓w_gf3, ↓w_alen, ↓w_slen, ↓w_icge, ↓w_iastore, ↓w_iinc_6, ↓w_goto, ↓pm_cl2_1, ↓w_icgt, ↓w_gf0, ↓w_ifne, ↓w_lconst0, ↓pm_cl2_4, ↓w_ifle, ↓w_zret, f7])
        | (simp only [w_in])
        | (intro _))
      all_goals first | (with_reducible exact hq) | omega | grind
    | succ m ih =>
      intro j hj hno I2 J2 f1 f2 f3 f4 f5 f6 f7 f8
      have hE : seE (pm_up I2 42 12 (nI j)) J2 P c q need tal ms j := ⟨by rw [pm_up_o (by decide)]; exact f2, f3, by rw [pm_up_n (by decide), pm_up_o (by decide)]; exact f4, ⟨by rw [pm_up_n (by decide)]; exact f5, hms⟩, f6, pm_up_s, by omega⟩
      have hst : stH (pm_up I2 42 12 (nI j)) J2 (0, J2 42 11, fun _ => 0) := ⟨by rw [pm_up_n (by decide)]; exact f7, rfl, fun k hk => by rw [pm_up_o (by decide)]; exact f8 k hk⟩
      have rc : ∀ (Q2 : pm_Po) (d2 : Nat), 7 ≤ d2 → (∀ I' J', UU g (d - 1) 92 kX8_explain (pm_rm d 92) Q 3 [some (.ref 42), some (.ref 37), some (.int t), some (.int (nI ms)), some (.long tal), none, some (.int (nI (j + 1)))] [] SH I' J' (0, 0) → Q2 none SH I' J') → pm_C g d2 95 [.ref 42, .int 0, .long 0, .long 0] Q2 SH (pm_up I2 42 12 (nI j)) J2 := by
        intro Q2 d2 hd2 hq2
        refine c_extend (P := P) (c := c) (q := q) (need := need) (tal := tal) (ms := ms) (s := j) j 0 d2 [] 0 0 _ _ J2 Q2 (by omega) (by omega) hE rfl (fun i hi => by omega) rfl rfl hst (fun I' J' r1 _ r3 => hq2 I' J' ?_)
        have em : (pth P c q need ms j 0 0).map (fun t => [] ++ t) = pth P c q need ms j 0 0 := List.map_id _
        rw [em] at r3
        have hfx := (f1.fl (i := 12) (x := nI j) (by decide)).E r1
        have hE' := hE.cg r1
        by_cases he : pth P c q need ms j 0 0 = []
        · rw [he] at r3
          obtain ⟨s1, s2, s3⟩ := r3
          exact ih (j + 1) (by omega) (fun s' hs' => by
            by_cases e : s' = j
            · rw [e]; exact he
            · exact hno s' (by omega)) I' J' hfx hE'.1 hE'.2.1 hE'.2.2.1 hE'.2.2.2.1.1 hE'.2.2.2.2.1 s1 s3
        · have hlen := pth_len3 (P := P) (c := c) (q := q) (need := need) (ms := ms) (r := j) (cov := 0) (mis := 0) hP (by omega)
          have hpos : 0 < (pth P c q need ms j 0 0).length := List.length_pos_iff.mpr he
          refine fnd (j + 1) I' J' (pth P c q need ms j 0 0).length (by omega) ?_ hpos hlen (h1 j (by omega) hno he I' J' _ hfx hE'.2.2.2.2.2.1 hE'.2.2.2.2.1.2 r3)
          rw [r3.1, tkS_1]
          show 0 + nI _ = _
          rw [Int32.zero_add]
      clear h0 h1 h48 hqq fnd f3 f4 f8 hno ih hE hst
      refine bX8_explain_3 ?_
      simp (disch := first | omega | decide) only [w_nl0, w_nli, w_nlr, ↓w_ts1, ↓w_ts0, w_rcv, w_rfv, w_cs, true_and, and_true, List.length_nil, List.length_cons, Nat.reduceAdd, Nat.reduceLeDiff, Nat.zero_le, Nat.reduceLT, ↓w_nil, ix_nI, nI_leP, nI_ltP, nI_eqP, nI_1, ↓i_inN, i_inN, l_le, l_lt, l_eq, r_le, r_lt, r_eq, sh42, sh43, sh37, sh9, sh23, ↓w_iload_6, ↓w_iconst, ↓w_icgt, ↓w_aload_0, ↓w_gf0, ↓w_ifne, ↓w_pf0, ↓w_lconst0, ↓w_iv, ↓pm_cl2_4, ↓w_iinc_6, ↓w_goto, f7]
      repeat' (first
        | (apply And.intro)
        | (with_reducible refine rc _ _ (by omega) (fun I' J' t1 => ?_) <;> simp (disch := first | omega | decide) only [w_nl0, w_nli, w_nlr, ↓w_ts1, ↓w_ts0, w_rcv, w_rfv, w_cs, true_and, and_true, List.length_nil, List.length_cons, Nat.reduceAdd, Nat.reduceLeDiff, Nat.zero_le, Nat.reduceLT, ↓w_nil, ix_nI, nI_leP, nI_ltP, nI_eqP, nI_1, ↓i_inN, i_inN, l_le, l_lt, l_eq, r_le, r_lt, r_eq, sh42, sh43, sh37, sh9, sh23, ↓w_aload_0, ↓w_aload_1, ↓w_iload_2, ↓w_iconst, ↓w_iv, ↓pm_cl2_3, ↓w_pf1, ↓w_iload_3, ↓w_pf0, ↓w_lload_4, ↓w_istore_6, ↓w_iload_6, ↓w_gf3, ↓w_alen, ↓w_slen, ↓w_icge, ↓w_iastore, ↓w_iinc_6, ↓w_goto, ↓pm_cl2_1, ↓w_icgt, ↓w_gf0, ↓w_ifne, ↓w_lconst0, ↓pm_cl2_4, ↓w_ifle, ↓w_zret, f7])
        | (simp only [w_in])
        | (intro _))
      all_goals first | (with_reducible exact t1) | omega | grind
  clear h0 h1 fnd
  have ph2 : ∀ I2 J2, (∀ a, a ≠ 42 → a ≠ 53 → I2 a = I a) → I2 42 6 = I 42 6 → (∀ a, a ≠ 42 → J2 a = J a) → I2 42 8 = nI ms → J2 42 9 = need → J2 42 10 = tal → (∀ k, k < 60 → I2 53 k = 0) → UU g (d - 1) 92 kX8_explain (pm_rm d 92) Q 2 [some (.ref 42), some (.ref 37), some (.int t), some (.int (nI ms)), some (.long tal), none, some (.int (nI 60))] [] SH I2 J2 (0, 0) := by
    intro I2 J2 f1 f2 f3 f4 f5 f6 f7
    obtain ⟨g1, g2, g3⟩ := rp_cg (I := I) (I2 := I2) (fun a h1 h2 => f1 a (by omega) (by omega))
    have e43 : I2 43 6 = nI P := by rw [f1 43 (by decide) (by decide)]; exact h43
    have hq := fun Q2 d2 h hQ2 => c_hearQuiet (g := g) (d := d2) (Q := Q2) (I := I2) (J := J2) (t := t) (c := c) h (g1 w) hN e43 hP (fun p hp => by rw [f3 48 (by decide)]; exact h48 p hp) hQ2
    have pk : ∀ (J3 : pm_ML) (Q2 : pm_Po) (d2 : Nat), (∀ a, a ≠ 50 → J3 a = J2 a) → (∀ p, p < P → J3 50 p = qtI I2 t (c p) R) → 2 ≤ d2 → (∀ I', UU g (d - 1) 92 kX8_explain (pm_rm d 92) Q 3 [some (.ref 42), some (.ref 37), some (.int t), some (.int (nI ms)), some (.long tal), none, some (.int 0)] [] SH (pm_up I' 42 13 0) J3 (0, 0) → Q2 none SH I' J3) → pm_C g d2 94 [.ref 42] Q2 SH I2 J3 := by
      intro J3 Q2 d2 k1 k2 hd2 hQ2
      refine c_pickUseful (P := P) (c := c) (q := q) (need := need) (ms := ms) hd2 e43 hP (fun p hp => by rw [k1 48 (by decide), f3 48 (by decide)]; exact h48 p hp) (fun p hp => by rw [k2 p hp, g3]; exact hqq p) f4 hms (by rw [k1 42 (by decide)]; exact f5) (fun I' i1 i2 i3 i4 => hQ2 I' ?_)
      refine ph3 4 0 (by omega) (fun s' hs' => by omega) (pm_up I' 42 13 0) J3 ⟨fun a p1 p2 p3 p4 => ?_, ?_, fun a p1 p2 => ?_⟩ ⟨?_, hP⟩ (fun p hp => ⟨?_, ?_⟩) ⟨?_, fun u p h => ?_⟩ ?_ ⟨?_, ?_⟩ pm_up_s (fun k hk => ?_)
      · rw [pm_up_o p1, i1 a p1 p2]; exact f1 a p1 p4
      · rw [pm_up_n (by decide), i2 6 (by decide)]; exact f2
      · rw [k1 a p2]; exact f3 a p1
      · rw [pm_up_o (by decide), i1 43 (by decide) (by decide)]; exact e43
      · rw [k1 48 (by decide), f3 48 (by decide)]; exact h48 p hp
      · rw [k2 p hp, g3]; exact hqq p
      · rw [pm_up_n (by decide)]; exact i3
      · rw [pm_up_o (by decide)]; exact i4 u p h
      · rw [pm_up_n (by decide), i2 8 (by decide)]; exact f4
      · rw [k1 42 (by decide)]; exact f5
      · rw [k1 42 (by decide)]; exact f6
      · rw [pm_up_o (by decide), i1 53 (by decide) (by decide)]; exact f7 k hk
    clear ph3 h48 hqq f1 f3 f7 g1 g2 g3
    refine bX8_explain_2 ?_
    simp (disch := first | omega | decide) only [w_nl0, w_nli, w_nlr, ↓w_ts1, ↓w_ts0, w_rcv, w_rfv, w_cs, true_and, and_true, List.length_nil, List.length_cons, Nat.reduceAdd, Nat.reduceLeDiff, Nat.zero_le, Nat.reduceLT, ↓w_nil, ix_nI, nI_leP, nI_ltP, nI_eqP, nI_1, ↓i_inN, i_inN, l_le, l_lt, l_eq, r_le, r_lt, r_eq, sh42, sh43, sh37, sh9, sh23, ↓w_aload_0, ↓w_aload_1, ↓w_iload_2, ↓w_iv, ↓pm_cl2_3, ↓pm_cl2_1, ↓w_iconst, ↓w_pf0, ↓w_istore_6]
    repeat' (first
      | (apply And.intro)
      | (with_reducible refine hq _ _ (by omega) (fun J3 k1 k2 => ?_) <;> simp (disch := first | omega | decide) only [w_nl0, w_nli, w_nlr, ↓w_ts1, ↓w_ts0, w_rcv, w_rfv, w_cs, true_and, and_true, List.length_nil, List.length_cons, Nat.reduceAdd, Nat.reduceLeDiff, Nat.zero_le, Nat.reduceLT, ↓w_nil, ix_nI, nI_leP, nI_ltP, nI_eqP, nI_1, ↓i_inN, i_inN, l_le, l_lt, l_eq, r_le, r_lt, r_eq, sh42, sh43, sh37, sh9, sh23, ↓w_aload_0, ↓w_aload_1, ↓w_iload_2, ↓w_iconst, ↓w_iv, ↓pm_cl2_3, ↓w_pf1, ↓w_iload_3, ↓w_pf0, ↓w_lload_4, ↓w_istore_6, ↓w_iload_6, ↓w_gf3, ↓w_alen, ↓w_slen, ↓w_icge, ↓w_iastore, ↓w_iinc_6, ↓w_goto, ↓pm_cl2_1, ↓w_icgt, ↓w_gf0, ↓w_ifne, ↓w_lconst0, ↓pm_cl2_4, ↓w_ifle, ↓w_zret])
      | (with_reducible refine pk _ _ _ k1 k2 (by omega) (fun I' t1 => ?_) <;> simp (disch := first | omega | decide) only [w_nl0, w_nli, w_nlr, ↓w_ts1, ↓w_ts0, w_rcv, w_rfv, w_cs, true_and, and_true, List.length_nil, List.length_cons, Nat.reduceAdd, Nat.reduceLeDiff, Nat.zero_le, Nat.reduceLT, ↓w_nil, ix_nI, nI_leP, nI_ltP, nI_eqP, nI_1, ↓i_inN, i_inN, l_le, l_lt, l_eq, r_le, r_lt, r_eq, sh42, sh43, sh37, sh9, sh23, ↓w_aload_0, ↓w_aload_1, ↓w_iload_2, ↓w_iconst, ↓w_iv, ↓pm_cl2_3, ↓w_pf1, ↓w_iload_3, ↓w_pf0, ↓w_lload_4, ↓w_istore_6, ↓w_iload_6, ↓w_gf3, ↓w_alen, ↓w_slen, ↓w_icge, ↓w_iastore, ↓w_iinc_6, ↓w_goto, ↓pm_cl2_1, ↓w_icgt, ↓w_gf0, ↓w_ifne, ↓w_lconst0, ↓pm_cl2_4, ↓w_ifle, ↓w_zret])
      | (simp only [w_in])
      | (intro _))
    all_goals first | (with_reducible exact t1) | omega | grind
  clear ph3
  have ph1 : UU g (d - 1) 92 kX8_explain (pm_rm d 92) Q 1 [some (.ref 42), some (.ref 37), some (.int t), some (.int (nI ms)), some (.long tal), none, some (.int 0)] [] SH (pm_up I 42 8 (nI ms)) (pm_upL (pm_upL J 42 9 need) 42 10 tal) (0, 0) := by
    refine lp (α := pm_MI) (U := fun k I2 => UU g (d - 1) 92 kX8_explain (pm_rm d 92) Q 1 [some (.ref 42), some (.ref 37), some (.int t), some (.int (nI ms)), some (.long tal), none, some (.int (nI k))] [] SH I2 (pm_upL (pm_upL J 42 9 need) 42 10 tal) (0, 0)) (fun k I2 => (∀ a, a ≠ 53 → I2 a = pm_up I 42 8 (nI ms) a) ∧ ∀ i, i < k → I2 53 i = 0) 60 (fun k I2 hk hP2 w2 => ?_) (fun I2 hP2 => ?_) (a := pm_up I 42 8 (nI ms)) ⟨fun _ _ => rfl, fun i hi => by omega⟩
    · obtain ⟨p1, p2⟩ := hP2
      have w3 := w2 (pm_up I2 53 k 0) ⟨fun a ha => by rw [pm_up_o ha]; exact p1 a ha, fun i hi => by
        by_cases e : i = k
        · rw [e, pm_up_s]
        · rw [pm_up_n e]; exact p2 i (by omega)⟩
      clear w2 ph2 h48 hqq p1 p2
      refine bX8_explain_1 ?_
      simp (disch := first | omega | decide) only [w_nl0, w_nli, w_nlr, ↓w_ts1, ↓w_ts0, w_rcv, w_rfv, w_cs, true_and, and_true, List.length_nil, List.length_cons, Nat.reduceAdd, Nat.reduceLeDiff, Nat.zero_le, Nat.reduceLT, ↓w_nil, ix_nI, nI_leP, nI_ltP, nI_eqP, nI_1, ↓i_inN, i_inN, l_le, l_lt, l_eq, r_le, r_lt, r_eq, sh42, sh43, sh37, sh9, sh23, ↓w_iload_6, ↓w_aload_0, ↓w_gf3, ↓w_alen, ↓w_slen, ↓w_icge, ↓w_iconst, ↓w_iastore, ↓w_iinc_6, ↓w_goto, l_onI]
      repeat' (first
        | (apply And.intro)
        | (simp only [w_in])
        | (intro _))
      all_goals first | (with_reducible exact w3) | omega | grind
    · obtain ⟨p1, p2⟩ := hP2
      have w3 := ph2 I2 (pm_upL (pm_upL J 42 9 need) 42 10 tal) (fun a h1 h2 => by rw [p1 a h2, pm_up_o h1]) (by rw [p1 42 (by decide), pm_up_n (by decide)]) (fun a ha => by rw [pm_upL_o ha, pm_upL_o ha]) (by rw [p1 42 (by decide), pm_up_s]) (by rw [pm_upL_n (by decide), pm_upL_s]) pm_upL_s p2
      clear ph2 h48 hqq p1 p2
      refine bX8_explain_1 ?_
      simp (disch := first | omega | decide) only [w_nl0, w_nli, w_nlr, ↓w_ts1, ↓w_ts0, w_rcv, w_rfv, w_cs, true_and, and_true, List.length_nil, List.length_cons, Nat.reduceAdd, Nat.reduceLeDiff, Nat.zero_le, Nat.reduceLT, ↓w_nil, ix_nI, nI_leP, nI_ltP, nI_eqP, nI_1, ↓i_inN, i_inN, l_le, l_lt, l_eq, r_le, r_lt, r_eq, sh42, sh43, sh37, sh9, sh23, ↓w_iload_6, ↓w_aload_0, ↓w_gf3, ↓w_alen, ↓w_slen, ↓w_icge, ↓w_iconst, ↓w_iastore, ↓w_iinc_6, ↓w_goto, l_onI]
      repeat' (first
        | (apply And.intro)
        | (simp only [w_in])
        | (intro _))
      all_goals first | (with_reducible exact w3) | omega | grind
  clear ph2 h48 hqq
  refine eX8_explain (by omega) ?_
  repeat' (first
    | (apply And.intro)
    | (with_reducible refine bX8_explain_0 ?_; simp (disch := first | omega | decide) only [w_nl0, w_nli, w_nlr, ↓w_ts1, ↓w_ts0, w_rcv, w_rfv, w_cs, true_and, and_true, List.length_nil, List.length_cons, Nat.reduceAdd, Nat.reduceLeDiff, Nat.zero_le, Nat.reduceLT, ↓w_nil, ix_nI, nI_leP, nI_ltP, nI_eqP, nI_1, ↓i_inN, i_inN, l_le, l_lt, l_eq, r_le, r_lt, r_eq, sh42, sh43, sh37, sh9, sh23, ↓w_aload_0, ↓w_aload_1, ↓w_iload_2, ↓w_iconst, ↓w_iv, ↓pm_cl2_3, ↓w_pf1, ↓w_iload_3, ↓w_pf0, ↓w_lload_4, ↓w_istore_6, ↓w_iload_6, ↓w_gf3, ↓w_alen, ↓w_slen, ↓w_icge, ↓w_iastore, ↓w_iinc_6, ↓w_goto, ↓pm_cl2_1, ↓w_icgt, ↓w_gf0, ↓w_ifne, ↓w_lconst0, ↓pm_cl2_4, ↓w_ifle, ↓w_zret, hneed])
    | (with_reducible refine c_need (by omega) w ?_ ; simp (disch := first | omega | decide) only [w_nl0, w_nli, w_nlr, ↓w_ts1, ↓w_ts0, w_rcv, w_rfv, w_cs, true_and, and_true, List.length_nil, List.length_cons, Nat.reduceAdd, Nat.reduceLeDiff, Nat.zero_le, Nat.reduceLT, ↓w_nil, ix_nI, nI_leP, nI_ltP, nI_eqP, nI_1, ↓i_inN, i_inN, l_le, l_lt, l_eq, r_le, r_lt, r_eq, sh42, sh43, sh37, sh9, sh23, ↓w_aload_0, ↓w_aload_1, ↓w_iload_2, ↓w_iconst, ↓w_iv, ↓pm_cl2_3, ↓w_pf1, ↓w_iload_3, ↓w_pf0, ↓w_lload_4, ↓w_istore_6, ↓w_iload_6, ↓w_gf3, ↓w_alen, ↓w_slen, ↓w_icge, ↓w_iastore, ↓w_iinc_6, ↓w_goto, ↓pm_cl2_1, ↓w_icgt, ↓w_gf0, ↓w_ifne, ↓w_lconst0, ↓pm_cl2_4, ↓w_ifle, ↓w_zret, hneed])
    | (simp only [w_in])
    | (intro _))
  all_goals first | (with_reducible exact ph1) | omega | grind
end C91k
