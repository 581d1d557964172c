section C46
variable {g : pm_G} {d : Nat} {Q : pm_Po} {S : pm_SS} {I : pm_MI} {J : pm_ML}
theorem upd_at {f : Nat → Int32} {i j : Nat} {v : Int32} : upd f i v j = if j = i then v else f j := by
  unfold upd
  grind
theorem up_upd {I : pm_MI} {a i : Nat} {v : Int32} : pm_up I a i v a = upd (I a) i v := by
  funext j
  rw [up_at, upd_at]
theorem nI_lt_s {x : Int32} {n : Nat} (h : x < nI n) (hn : n < 1000) : x < nI (n + 1) := Int32.lt_trans h (nI_lt (by omega) (by omega))
theorem r_met_new {y n' c c' : Int32} {n : Nat} {k s f h b w x t o k' s' f' h' b' w' x' t' o' : Nat → Int32} (hr : r_met y (nI n) c n' c' k s f h b w x t o k' s' f' h' b' w' x' t' o') (hn : n < 40) {q p v : Int32} {e : Int32} (hq : ∃ j, j < 4 ∧ q = nI j) (hp : ∃ j, j < 20 ∧ p = nI j) (hv : v = -9 ∨ ∃ j, j < n ∧ v = nI j) (hy : ∃ j, j ≤ 999 ∧ y = nI j) : r_met y (nI (n + 1)) c (nI (n + 1)) c' (upd k n q) (upd s n p) (upd f n v) (upd h n e) (upd b n y) (upd w n 0) x t o (upd k' n q) (upd s' n p) (upd f' n v) (upd h' n e) (upd b' n y) (upd w' n 0) x' t' o' := by
  obtain ⟨n1, c1, k1, s1, f1, h1, b1, w1, x1, t1, o1, hC, N, hN, hN2, hm, hmono⟩ := hr
  have hnN : n = N := by
    have := congrArg Int32.toInt hN2
    rw [tI_nI (by omega), tI_nI (by omega)] at this
    omega
  subst hnN
  refine ⟨rfl, c1, by rw [k1], by rw [s1], by rw [f1], by rw [h1], by rw [b1], by rw [w1], x1, t1, o1, hC, n + 1, by omega, rfl, fun i hi => ?_, fun i j hij hj => ?_⟩
  · simp only [upd_at]
    by_cases hin : i = n
    · subst hin
      simp only [if_true]
      exact ⟨hq, hp, hv, hy, Int32.le_refl y⟩
    · simp only [hin, if_false]
      exact hm i (by omega)
  · simp only [upd_at]
    have hin : ¬ i = n := by omega
    by_cases hjn : j = n
    · subst hjn
      simp only [if_true, hin, if_false]
      exact (hm i (by omega)).2.2.2.2
    · simp only [hin, hjn, if_false]
      exact hmono i j hij (by omega)
theorem r_prs_new {n : Nat} {st x y a b x' y' : Nat → Int32} (hr : r_prs (nI n) st x y a b x' y') (hn : n < 40) : r_prs (nI (n + 1)) st x y a b x' y' := by
  obtain ⟨h1, h2, h3⟩ := hr
  refine ⟨h1, h2, fun p hp => ?_⟩
  obtain ⟨a1, a2, a3⟩ := h3 p hp
  refine ⟨a1, a2, ?_⟩
  rcases a3 with a3 | a3
  · exact Or.inl a3
  · exact Or.inr ⟨⟨a3.1.1, nI_lt_s a3.1.2 (by omega)⟩, ⟨a3.2.1, nI_lt_s a3.2.2 (by omega)⟩⟩
theorem r_run_new {y n n' v : Int32} {m : Nat} {b p dy c ht st x z p' dy' c' ht' a' b' x' z' : Nat → Int32} (hr : r_run y (nI m) n n' b p dy c ht st x z p' dy' c' ht' a' b' x' z') (hm : m < 40) : r_run y (nI (m + 1)) n n' (upd b m v) p dy c ht st x z p' dy' c' ht' a' b' x' z' := by
  obtain ⟨h1, h2, h3, h4, h5, h6, h7, N, hN, hN2, h8⟩ := hr
  refine ⟨h1, h2, h3, h4, h5, h6, h7, N, hN, hN2, fun r hr => ?_⟩
  obtain ⟨a1, a2, a3, a4, a5, a6, a7, a8, a9⟩ := h8 r hr
  obtain ⟨q1, hq1, e1⟩ := i_q (n := m) (by omega) a3.1 a3.2
  obtain ⟨q2, hq2, e2⟩ := i_q (n := m) (by omega) a4.1 a4.2
  refine ⟨a1, a2, ⟨a3.1, nI_lt_s a3.2 (by omega)⟩, ⟨a4.1, nI_lt_s a4.2 (by omega)⟩, a5, a6, ?_, ?_, a9⟩
  · rw [upd_at, if_neg (by rw [e1, ix_nI (by omega)]; omega)]
    exact a7
  · rw [upd_at, if_neg (by rw [e2, ix_nI (by omega)]; omega)]
    exact a8
theorem rel_comes {I : pm_MI} {J : pm_ML} {n : Nat} (h : Rel I J) (hn2 : I 9 9 = nI n) (hn : n < 40) {q p v e : Int32} (hq : ∃ j, j < 4 ∧ q = nI j) (hp : ∃ j, j < 20 ∧ p = nI j) (hv : v = -9 ∨ ∃ j, j < n ∧ v = nI j) : RelW (pm_up (pm_up (pm_up (pm_up (pm_up (pm_up (pm_up (pm_up (pm_up (pm_up (pm_up (pm_up (pm_up (pm_up I 10 n q) 11 n p) 12 n v) 13 n e) 14 n (I 0 11)) 15 n 0) 9 9 (nI (n + 1))) 79 n q) 80 n p) 81 n v) 82 n e) 83 n (I 0 11)) 84 n 0) 68 23 (nI (n + 1))) J := by
  obtain ⟨a1, a2, a3, a4, a5, a6, a7, a8, a9, a10, a11, a12⟩ := h
  rw [hn2] at a5 a6 a7
  have b5 := r_met_new a5 hn (e := e) hq hp hv a2.2
  have b6 := r_prs_new a6 hn
  have b7 := r_run_new (v := I 0 11) a7 hn
  refine ⟨trivial, ?_, ?_, ?_, ?_, ?_, ?_, ?_, ?_, ?_, ?_, ?_, ?_⟩
  all_goals (simp (disch := decide) only [pm_up_o, pm_up_n, pm_up_s, up_upd]; first | assumption | skip)
theorem p_lacquer {x y : Int32} (hd : 10 ≤ d) : PC g d 132 226 [.int x, .int y] := by
  intro I J h
  have hw := relw h
  have hy1 : I 68 15 = I 0 11 := h.2.1.1
  obtain ⟨n1, c1, k1, s1, f1, h1, b1, w1, x1, t1, o1, ⟨C, hC, hC2⟩, N, hN, hN2, hm, hmono⟩ := h.2.2.2.2.1
  by_cases hc : (0 ≤ x ∧ x < 20) ∧ (0 ≤ y ∧ y < 10)
  · by_cases hN40 : N < 40
    · have hn := rel_comes (q := 0) (p := x) (v := -9) (e := y) h hN2 hN40 ⟨0, by omega, rfl⟩ (i_q (n := 20) (by decide) hc.1.1 hc.1.2) (Or.inl rfl)
      refine eX11_lacquer (by omega) ?_
      repeat' (first
        | (apply And.intro)
        | (with_reducible refine bX11_lacquer_0 ?_; simp (disch := first | omega | decide) only [w_nl0, w_nli, w_nlr, ↓w_ts1, ↓w_ts0, w_rcv, w_rfv, w_cs, true_and, and_true, List.length_nil, List.length_cons, Nat.reduceAdd, Nat.reduceLeDiff, Nat.zero_le, Nat.reduceLT, ↓w_nil, ix_nI, nI_leP, nI_ltP, nI_eqP, nI_1, ↓i_inN, i_inN, l_le, l_lt, l_eq, r_le, r_lt, r_eq, sh0, sh1, sh55, sh60, sh9, sh31, sh23, sh37, sh42, sh43, sh19, sh3, sh6, ↓w_iload_1, ↓w_bipush, ↓w_is, ↓pm_cl1_2, ↓w_ifeq, ↓w_iload_2, ↓w_ifne, ↓w_iconst, ↓w_ret, ↓w_aload_0, ↓w_gf3, ↓w_gf0, ↓w_iclt, ↓w_iv, ↓pm_cl2_2, ↓pm_cl2_6, hN2])
        | (with_reducible refine bX11_lacquer_1 ?_; simp (disch := first | omega | decide) only [w_nl0, w_nli, w_nlr, ↓w_ts1, ↓w_ts0, w_rcv, w_rfv, w_cs, true_and, and_true, List.length_nil, List.length_cons, Nat.reduceAdd, Nat.reduceLeDiff, Nat.zero_le, Nat.reduceLT, ↓w_nil, ix_nI, nI_leP, nI_ltP, nI_eqP, nI_1, ↓i_inN, i_inN, l_le, l_lt, l_eq, r_le, r_lt, r_eq, sh0, sh1, sh55, sh60, sh9, sh31, sh23, sh37, sh42, sh43, sh19, sh3, sh6, ↓w_iload_1, ↓w_bipush, ↓w_is, ↓pm_cl1_2, ↓w_ifeq, ↓w_iload_2, ↓w_ifne, ↓w_iconst, ↓w_ret, ↓w_aload_0, ↓w_gf3, ↓w_gf0, ↓w_iclt, ↓w_iv, ↓pm_cl2_2, ↓pm_cl2_6, hN2])
        | (with_reducible refine bX11_lacquer_2 ?_; simp (disch := first | omega | decide) only [w_nl0, w_nli, w_nlr, ↓w_ts1, ↓w_ts0, w_rcv, w_rfv, w_cs, true_and, and_true, List.length_nil, List.length_cons, Nat.reduceAdd, Nat.reduceLeDiff, Nat.zero_le, Nat.reduceLT, ↓w_nil, ix_nI, nI_leP, nI_ltP, nI_eqP, nI_1, ↓i_inN, i_inN, l_le, l_lt, l_eq, r_le, r_lt, r_eq, sh0, sh1, sh55, sh60, sh9, sh31, sh23, sh37, sh42, sh43, sh19, sh3, sh6, ↓w_iload_1, ↓w_bipush, ↓w_is, ↓pm_cl1_2, ↓w_ifeq, ↓w_iload_2, ↓w_ifne, ↓w_iconst, ↓w_ret, ↓w_aload_0, ↓w_gf3, ↓w_gf0, ↓w_iclt, ↓w_iv, ↓pm_cl2_2, ↓pm_cl2_6, hN2])
        | (with_reducible refine bX11_lacquer_3 ?_; simp (disch := first | omega | decide) only [w_nl0, w_nli, w_nlr, ↓w_ts1, ↓w_ts0, w_rcv, w_rfv, w_cs, true_and, and_true, List.length_nil, List.length_cons, Nat.reduceAdd, Nat.reduceLeDiff, Nat.zero_le, Nat.reduceLT, ↓w_nil, ix_nI, nI_leP, nI_ltP, nI_eqP, nI_1, ↓i_inN, i_inN, l_le, l_lt, l_eq, r_le, r_lt, r_eq, sh0, sh1, sh55, sh60, sh9, sh31, sh23, sh37, sh42, sh43, sh19, sh3, sh6, ↓w_iload_1, ↓w_bipush, ↓w_is, ↓pm_cl1_2, ↓w_ifeq, ↓w_iload_2, ↓w_ifne, ↓w_iconst, ↓w_ret, ↓w_aload_0, ↓w_gf3, ↓w_gf0, ↓w_iclt, ↓w_iv, ↓pm_cl2_2, ↓pm_cl2_6, hN2])
        | (with_reducible refine bX11_lacquer_4 ?_; simp (disch := first | omega | decide) only [w_nl0, w_nli, w_nlr, ↓w_ts1, ↓w_ts0, w_rcv, w_rfv, w_cs, true_and, and_true, List.length_nil, List.length_cons, Nat.reduceAdd, Nat.reduceLeDiff, Nat.zero_le, Nat.reduceLT, ↓w_nil, ix_nI, nI_leP, nI_ltP, nI_eqP, nI_1, ↓i_inN, i_inN, l_le, l_lt, l_eq, r_le, r_lt, r_eq, sh0, sh1, sh55, sh60, sh9, sh31, sh23, sh37, sh42, sh43, sh19, sh3, sh6, ↓w_iload_1, ↓w_bipush, ↓w_is, ↓pm_cl1_2, ↓w_ifeq, ↓w_iload_2, ↓w_ifne, ↓w_iconst, ↓w_ret, ↓w_aload_0, ↓w_gf3, ↓w_gf0, ↓w_iclt, ↓w_iv, ↓pm_cl2_2, ↓pm_cl2_6, hN2])
        | (with_reducible refine c_below (by omega) ?_ ; simp (disch := first | omega | decide) only [w_nl0, w_nli, w_nlr, ↓w_ts1, ↓w_ts0, w_rcv, w_rfv, w_cs, true_and, and_true, List.length_nil, List.length_cons, Nat.reduceAdd, Nat.reduceLeDiff, Nat.zero_le, Nat.reduceLT, ↓w_nil, ix_nI, nI_leP, nI_ltP, nI_eqP, nI_1, ↓i_inN, i_inN, l_le, l_lt, l_eq, r_le, r_lt, r_eq, sh0, sh1, sh55, sh60, sh9, sh31, sh23, sh37, sh42, sh43, sh19, sh3, sh6, ↓w_iload_1, ↓w_bipush, ↓w_is, ↓pm_cl1_2, ↓w_ifeq, ↓w_iload_2, ↓w_ifne, ↓w_iconst, ↓w_ret, ↓w_aload_0, ↓w_gf3, ↓w_gf0, ↓w_iclt, ↓w_iv, ↓pm_cl2_2, ↓pm_cl2_6, hN2])
        | (with_reducible refine c_isCut (by omega) hN2 hN (fun hcut => ?_) (fun hcut => ?_) <;> simp (disch := first | omega | decide) only [w_nl0, w_nli, w_nlr, ↓w_ts1, ↓w_ts0, w_rcv, w_rfv, w_cs, true_and, and_true, List.length_nil, List.length_cons, Nat.reduceAdd, Nat.reduceLeDiff, Nat.zero_le, Nat.reduceLT, ↓w_nil, ix_nI, nI_leP, nI_ltP, nI_eqP, nI_1, ↓i_inN, i_inN, l_le, l_lt, l_eq, r_le, r_lt, r_eq, sh0, sh1, sh55, sh60, sh9, sh31, sh23, sh37, sh42, sh43, sh19, sh3, sh6, ↓w_iload_1, ↓w_bipush, ↓w_is, ↓pm_cl1_2, ↓w_ifeq, ↓w_iload_2, ↓w_ifne, ↓w_iconst, ↓w_ret, ↓w_aload_0, ↓w_gf3, ↓w_gf0, ↓w_iclt, ↓w_iv, ↓pm_cl2_2, ↓pm_cl2_6, hN2])
        | (with_reducible refine c_M_make (by omega) hN2 hN40 ?_ ; simp (disch := first | omega | decide) only [w_nl0, w_nli, w_nlr, ↓w_ts1, ↓w_ts0, w_rcv, w_rfv, w_cs, true_and, and_true, List.length_nil, List.length_cons, Nat.reduceAdd, Nat.reduceLeDiff, Nat.zero_le, Nat.reduceLT, ↓w_nil, ix_nI, nI_leP, nI_ltP, nI_eqP, nI_1, ↓i_inN, i_inN, l_le, l_lt, l_eq, r_le, r_lt, r_eq, sh0, sh1, sh55, sh60, sh9, sh31, sh23, sh37, sh42, sh43, sh19, sh3, sh6, ↓w_iload_1, ↓w_bipush, ↓w_is, ↓pm_cl1_2, ↓w_ifeq, ↓w_iload_2, ↓w_ifne, ↓w_iconst, ↓w_ret, ↓w_aload_0, ↓w_gf3, ↓w_gf0, ↓w_iclt, ↓w_iv, ↓pm_cl2_2, ↓pm_cl2_6, hN2])
        | (simp only [w_in])
        | (intro _))
      all_goals try rfl
      all_goals try grind
      · refine MC.of ?_
        refine m_lacquer (n := N) (by omega) (by rw [n1, hN2]) hN40 hc.1 hc.2 (fun _ => ⟨rfl, rfl, hw⟩) (fun hno => ?_)
        rw [k1, s1] at hno
        grind
      · refine MC.of ?_
        refine m_lacquer (n := N) (by omega) (by simp (disch := decide) only [pm_up_o]; rw [n1, hN2]) hN40 hc.1 hc.2 (fun hyes => ?_) (fun hno => ?_)
        · simp (disch := decide) only [pm_up_o] at hyes
          rw [k1, s1] at hyes
          grind
        · simp (disch := decide) only [pm_up_o, hy1]
          exact ⟨by trivial, by trivial, hn⟩
    · have hNe : N = 40 := by omega
      subst hNe
      refine eX11_lacquer (by omega) ?_
      repeat' (first
        | (apply And.intro)
        | (with_reducible refine bX11_lacquer_0 ?_; simp (disch := first | omega | decide) only [w_nl0, w_nli, w_nlr, ↓w_ts1, ↓w_ts0, w_rcv, w_rfv, w_cs, true_and, and_true, List.length_nil, List.length_cons, Nat.reduceAdd, Nat.reduceLeDiff, Nat.zero_le, Nat.reduceLT, ↓w_nil, ix_nI, nI_leP, nI_ltP, nI_eqP, nI_1, ↓i_inN, i_inN, l_le, l_lt, l_eq, r_le, r_lt, r_eq, sh0, sh1, sh55, sh60, sh9, sh31, sh23, sh37, sh42, sh43, sh19, sh3, sh6, ↓w_iload_1, ↓w_bipush, ↓w_is, ↓pm_cl1_2, ↓w_ifeq, ↓w_iload_2, ↓w_ifne, ↓w_iconst, ↓w_ret, ↓w_aload_0, ↓w_gf3, ↓w_gf0, ↓w_iclt, ↓w_iv, ↓pm_cl2_2, ↓pm_cl2_6, hN2])
        | (with_reducible refine bX11_lacquer_1 ?_; simp (disch := first | omega | decide) only [w_nl0, w_nli, w_nlr, ↓w_ts1, ↓w_ts0, w_rcv, w_rfv, w_cs, true_and, and_true, List.length_nil, List.length_cons, Nat.reduceAdd, Nat.reduceLeDiff, Nat.zero_le, Nat.reduceLT, ↓w_nil, ix_nI, nI_leP, nI_ltP, nI_eqP, nI_1, ↓i_inN, i_inN, l_le, l_lt, l_eq, r_le, r_lt, r_eq, sh0, sh1, sh55, sh60, sh9, sh31, sh23, sh37, sh42, sh43, sh19, sh3, sh6, ↓w_iload_1, ↓w_bipush, ↓w_is, ↓pm_cl1_2, ↓w_ifeq, ↓w_iload_2, ↓w_ifne, ↓w_iconst, ↓w_ret, ↓w_aload_0, ↓w_gf3, ↓w_gf0, ↓w_iclt, ↓w_iv, ↓pm_cl2_2, ↓pm_cl2_6, hN2])
        | (with_reducible refine bX11_lacquer_2 ?_; simp (disch := first | omega | decide) only [w_nl0, w_nli, w_nlr, ↓w_ts1, ↓w_ts0, w_rcv, w_rfv, w_cs, true_and, and_true, List.length_nil, List.length_cons, Nat.reduceAdd, Nat.reduceLeDiff, Nat.zero_le, Nat.reduceLT, ↓w_nil, ix_nI, nI_leP, nI_ltP, nI_eqP, nI_1, ↓i_inN, i_inN, l_le, l_lt, l_eq, r_le, r_lt, r_eq, sh0, sh1, sh55, sh60, sh9, sh31, sh23, sh37, sh42, sh43, sh19, sh3, sh6, ↓w_iload_1, ↓w_bipush, ↓w_is, ↓pm_cl1_2, ↓w_ifeq, ↓w_iload_2, ↓w_ifne, ↓w_iconst, ↓w_ret, ↓w_aload_0, ↓w_gf3, ↓w_gf0, ↓w_iclt, ↓w_iv, ↓pm_cl2_2, ↓pm_cl2_6, hN2])
        | (with_reducible refine bX11_lacquer_3 ?_; simp (disch := first | omega | decide) only [w_nl0, w_nli, w_nlr, ↓w_ts1, ↓w_ts0, w_rcv, w_rfv, w_cs, true_and, and_true, List.length_nil, List.length_cons, Nat.reduceAdd, Nat.reduceLeDiff, Nat.zero_le, Nat.reduceLT, ↓w_nil, ix_nI, nI_leP, nI_ltP, nI_eqP, nI_1, ↓i_inN, i_inN, l_le, l_lt, l_eq, r_le, r_lt, r_eq, sh0, sh1, sh55, sh60, sh9, sh31, sh23, sh37, sh42, sh43, sh19, sh3, sh6, ↓w_iload_1, ↓w_bipush, ↓w_is, ↓pm_cl1_2, ↓w_ifeq, ↓w_iload_2, ↓w_ifne, ↓w_iconst, ↓w_ret, ↓w_aload_0, ↓w_gf3, ↓w_gf0, ↓w_iclt, ↓w_iv, ↓pm_cl2_2, ↓pm_cl2_6, hN2])
        | (with_reducible refine bX11_lacquer_4 ?_; simp (disch := first | omega | decide) only [w_nl0, w_nli, w_nlr, ↓w_ts1, ↓w_ts0, w_rcv, w_rfv, w_cs, true_and, and_true, List.length_nil, List.length_cons, Nat.reduceAdd, Nat.reduceLeDiff, Nat.zero_le, Nat.reduceLT, ↓w_nil, ix_nI, nI_leP, nI_ltP, nI_eqP, nI_1, ↓i_inN, i_inN, l_le, l_lt, l_eq, r_le, r_lt, r_eq, sh0, sh1, sh55, sh60, sh9, sh31, sh23, sh37, sh42, sh43, sh19, sh3, sh6, ↓w_iload_1, ↓w_bipush, ↓w_is, ↓pm_cl1_2, ↓w_ifeq, ↓w_iload_2, ↓w_ifne, ↓w_iconst, ↓w_ret, ↓w_aload_0, ↓w_gf3, ↓w_gf0, ↓w_iclt, ↓w_iv, ↓pm_cl2_2, ↓pm_cl2_6, hN2])
        | (with_reducible refine c_below (by omega) ?_ ; simp (disch := first | omega | decide) only [w_nl0, w_nli, w_nlr, ↓w_ts1, ↓w_ts0, w_rcv, w_rfv, w_cs, true_and, and_true, List.length_nil, List.length_cons, Nat.reduceAdd, Nat.reduceLeDiff, Nat.zero_le, Nat.reduceLT, ↓w_nil, ix_nI, nI_leP, nI_ltP, nI_eqP, nI_1, ↓i_inN, i_inN, l_le, l_lt, l_eq, r_le, r_lt, r_eq, sh0, sh1, sh55, sh60, sh9, sh31, sh23, sh37, sh42, sh43, sh19, sh3, sh6, ↓w_iload_1, ↓w_bipush, ↓w_is, ↓pm_cl1_2, ↓w_ifeq, ↓w_iload_2, ↓w_ifne, ↓w_iconst, ↓w_ret, ↓w_aload_0, ↓w_gf3, ↓w_gf0, ↓w_iclt, ↓w_iv, ↓pm_cl2_2, ↓pm_cl2_6, hN2])
        | (simp only [w_in])
        | (intro _))
      all_goals try rfl
      all_goals try grind
      all_goals try refine MC.of (eX12_lacquer (by omega) ?_)
      all_goals
        repeat' (first
          | (apply And.intro)
          | (with_reducible refine bX12_lacquer_0 ?_; simp (disch := first | omega | decide) only [w_nl0, w_nli, w_nlr, ↓w_ts1, ↓w_ts0, w_rcv, w_rfv, w_cs, true_and, and_true, List.length_nil, List.length_cons, Nat.reduceAdd, Nat.reduceLeDiff, Nat.zero_le, Nat.reduceLT, ↓w_nil, ix_nI, nI_leP, nI_ltP, nI_eqP, nI_1, ↓i_inN, i_inN, l_le, l_lt, l_eq, r_le, r_lt, r_eq, sh68_0, sh68_1, sh68_2, sh68_3, sh68_4, ↓w_iload_1, ↓w_is, ↓pm_cl1_1, ↓w_ifeq, ↓w_iload_2, ↓w_ifne, ↓w_iconst, ↓w_ret, ↓w_aload_0, ↓w_gf0, ↓w_bipush, ↓w_icne, ↓w_istore_3, ↓w_iload_3, ↓w_icge, ↓w_gf3, ↓w_iaload, ↓w_iinc_3, ↓w_goto, ↓w_iv, ↓pm_cl2_5, n1, hN2])
          | (with_reducible refine bX12_lacquer_1 ?_; simp (disch := first | omega | decide) only [w_nl0, w_nli, w_nlr, ↓w_ts1, ↓w_ts0, w_rcv, w_rfv, w_cs, true_and, and_true, List.length_nil, List.length_cons, Nat.reduceAdd, Nat.reduceLeDiff, Nat.zero_le, Nat.reduceLT, ↓w_nil, ix_nI, nI_leP, nI_ltP, nI_eqP, nI_1, ↓i_inN, i_inN, l_le, l_lt, l_eq, r_le, r_lt, r_eq, sh68_0, sh68_1, sh68_2, sh68_3, sh68_4, ↓w_iload_1, ↓w_is, ↓pm_cl1_1, ↓w_ifeq, ↓w_iload_2, ↓w_ifne, ↓w_iconst, ↓w_ret, ↓w_aload_0, ↓w_gf0, ↓w_bipush, ↓w_icne, ↓w_istore_3, ↓w_iload_3, ↓w_icge, ↓w_gf3, ↓w_iaload, ↓w_iinc_3, ↓w_goto, ↓w_iv, ↓pm_cl2_5, n1, hN2])
          | (with_reducible refine bX12_lacquer_2 ?_; simp (disch := first | omega | decide) only [w_nl0, w_nli, w_nlr, ↓w_ts1, ↓w_ts0, w_rcv, w_rfv, w_cs, true_and, and_true, List.length_nil, List.length_cons, Nat.reduceAdd, Nat.reduceLeDiff, Nat.zero_le, Nat.reduceLT, ↓w_nil, ix_nI, nI_leP, nI_ltP, nI_eqP, nI_1, ↓i_inN, i_inN, l_le, l_lt, l_eq, r_le, r_lt, r_eq, sh68_0, sh68_1, sh68_2, sh68_3, sh68_4, ↓w_iload_1, ↓w_is, ↓pm_cl1_1, ↓w_ifeq, ↓w_iload_2, ↓w_ifne, ↓w_iconst, ↓w_ret, ↓w_aload_0, ↓w_gf0, ↓w_bipush, ↓w_icne, ↓w_istore_3, ↓w_iload_3, ↓w_icge, ↓w_gf3, ↓w_iaload, ↓w_iinc_3, ↓w_goto, ↓w_iv, ↓pm_cl2_5, n1, hN2])
          | (with_reducible refine m_isSide (by omega) ?_ ; simp (disch := first | omega | decide) only [w_nl0, w_nli, w_nlr, ↓w_ts1, ↓w_ts0, w_rcv, w_rfv, w_cs, true_and, and_true, List.length_nil, List.length_cons, Nat.reduceAdd, Nat.reduceLeDiff, Nat.zero_le, Nat.reduceLT, ↓w_nil, ix_nI, nI_leP, nI_ltP, nI_eqP, nI_1, ↓i_inN, i_inN, l_le, l_lt, l_eq, r_le, r_lt, r_eq, sh68_0, sh68_1, sh68_2, sh68_3, sh68_4, ↓w_iload_1, ↓w_is, ↓pm_cl1_1, ↓w_ifeq, ↓w_iload_2, ↓w_ifne, ↓w_iconst, ↓w_ret, ↓w_aload_0, ↓w_gf0, ↓w_bipush, ↓w_icne, ↓w_istore_3, ↓w_iload_3, ↓w_icge, ↓w_gf3, ↓w_iaload, ↓w_iinc_3, ↓w_goto, ↓w_iv, ↓pm_cl2_5, n1, hN2])
          | (with_reducible refine m_isHand (by omega) ?_ ; simp (disch := first | omega | decide) only [w_nl0, w_nli, w_nlr, ↓w_ts1, ↓w_ts0, w_rcv, w_rfv, w_cs, true_and, and_true, List.length_nil, List.length_cons, Nat.reduceAdd, Nat.reduceLeDiff, Nat.zero_le, Nat.reduceLT, ↓w_nil, ix_nI, nI_leP, nI_ltP, nI_eqP, nI_1, ↓i_inN, i_inN, l_le, l_lt, l_eq, r_le, r_lt, r_eq, sh68_0, sh68_1, sh68_2, sh68_3, sh68_4, ↓w_iload_1, ↓w_is, ↓pm_cl1_1, ↓w_ifeq, ↓w_iload_2, ↓w_ifne, ↓w_iconst, ↓w_ret, ↓w_aload_0, ↓w_gf0, ↓w_bipush, ↓w_icne, ↓w_istore_3, ↓w_iload_3, ↓w_icge, ↓w_gf3, ↓w_iaload, ↓w_iinc_3, ↓w_goto, ↓w_iv, ↓pm_cl2_5, n1, hN2])
          | (simp only [w_in])
          | (intro _))
      all_goals first | rfl | exact hw | exact relw_found hw | exact relw_asks hw | grind
  · refine eX11_lacquer (by omega) ?_
    repeat' (first
      | (apply And.intro)
      | (with_reducible refine bX11_lacquer_0 ?_; simp (disch := first | omega | decide) only [w_nl0, w_nli, w_nlr, ↓w_ts1, ↓w_ts0, w_rcv, w_rfv, w_cs, true_and, and_true, List.length_nil, List.length_cons, Nat.reduceAdd, Nat.reduceLeDiff, Nat.zero_le, Nat.reduceLT, ↓w_nil, ix_nI, nI_leP, nI_ltP, nI_eqP, nI_1, ↓i_inN, i_inN, l_le, l_lt, l_eq, r_le, r_lt, r_eq, sh0, sh1, sh55, sh60, sh9, sh31, sh23, sh37, sh42, sh43, sh19, sh3, sh6, ↓w_iload_1, ↓w_bipush, ↓w_is, ↓pm_cl1_2, ↓w_ifeq, ↓w_iload_2, ↓w_ifne, ↓w_iconst, ↓w_ret, ↓w_aload_0, ↓w_gf3, ↓w_gf0, ↓w_iclt, ↓w_iv, ↓pm_cl2_2, ↓pm_cl2_6, hN2])
      | (with_reducible refine bX11_lacquer_1 ?_; simp (disch := first | omega | decide) only [w_nl0, w_nli, w_nlr, ↓w_ts1, ↓w_ts0, w_rcv, w_rfv, w_cs, true_and, and_true, List.length_nil, List.length_cons, Nat.reduceAdd, Nat.reduceLeDiff, Nat.zero_le, Nat.reduceLT, ↓w_nil, ix_nI, nI_leP, nI_ltP, nI_eqP, nI_1, ↓i_inN, i_inN, l_le, l_lt, l_eq, r_le, r_lt, r_eq, sh0, sh1, sh55, sh60, sh9, sh31, sh23, sh37, sh42, sh43, sh19, sh3, sh6, ↓w_iload_1, ↓w_bipush, ↓w_is, ↓pm_cl1_2, ↓w_ifeq, ↓w_iload_2, ↓w_ifne, ↓w_iconst, ↓w_ret, ↓w_aload_0, ↓w_gf3, ↓w_gf0, ↓w_iclt, ↓w_iv, ↓pm_cl2_2, ↓pm_cl2_6, hN2])
      | (with_reducible refine bX11_lacquer_2 ?_; simp (disch := first | omega | decide) only [w_nl0, w_nli, w_nlr, ↓w_ts1, ↓w_ts0, w_rcv, w_rfv, w_cs, true_and, and_true, List.length_nil, List.length_cons, Nat.reduceAdd, Nat.reduceLeDiff, Nat.zero_le, Nat.reduceLT, ↓w_nil, ix_nI, nI_leP, nI_ltP, nI_eqP, nI_1, ↓i_inN, i_inN, l_le, l_lt, l_eq, r_le, r_lt, r_eq, sh0, sh1, sh55, sh60, sh9, sh31, sh23, sh37, sh42, sh43, sh19, sh3, sh6, ↓w_iload_1, ↓w_bipush, ↓w_is, ↓pm_cl1_2, ↓w_ifeq, ↓w_iload_2, ↓w_ifne, ↓w_iconst, ↓w_ret, ↓w_aload_0, ↓w_gf3, ↓w_gf0, ↓w_iclt, ↓w_iv, ↓pm_cl2_2, ↓pm_cl2_6, hN2])
      | (with_reducible refine bX11_lacquer_3 ?_; simp (disch := first | omega | decide) only [w_nl0, w_nli, w_nlr, ↓w_ts1, ↓w_ts0, w_rcv, w_rfv, w_cs, true_and, and_true, List.length_nil, List.length_cons, Nat.reduceAdd, Nat.reduceLeDiff, Nat.zero_le, Nat.reduceLT, ↓w_nil, ix_nI, nI_leP, nI_ltP, nI_eqP, nI_1, ↓i_inN, i_inN, l_le, l_lt, l_eq, r_le, r_lt, r_eq, sh0, sh1, sh55, sh60, sh9, sh31, sh23, sh37, sh42, sh43, sh19, sh3, sh6, ↓w_iload_1, ↓w_bipush, ↓w_is, ↓pm_cl1_2, ↓w_ifeq, ↓w_iload_2, ↓w_ifne, ↓w_iconst, ↓w_ret, ↓w_aload_0, ↓w_gf3, ↓w_gf0, ↓w_iclt, ↓w_iv, ↓pm_cl2_2, ↓pm_cl2_6, hN2])
      | (with_reducible refine bX11_lacquer_4 ?_; simp (disch := first | omega | decide) only [w_nl0, w_nli, w_nlr, ↓w_ts1, ↓w_ts0, w_rcv, w_rfv, w_cs, true_and, and_true, List.length_nil, List.length_cons, Nat.reduceAdd, Nat.reduceLeDiff, Nat.zero_le, Nat.reduceLT, ↓w_nil, ix_nI, nI_leP, nI_ltP, nI_eqP, nI_1, ↓i_inN, i_inN, l_le, l_lt, l_eq, r_le, r_lt, r_eq, sh0, sh1, sh55, sh60, sh9, sh31, sh23, sh37, sh42, sh43, sh19, sh3, sh6, ↓w_iload_1, ↓w_bipush, ↓w_is, ↓pm_cl1_2, ↓w_ifeq, ↓w_iload_2, ↓w_ifne, ↓w_iconst, ↓w_ret, ↓w_aload_0, ↓w_gf3, ↓w_gf0, ↓w_iclt, ↓w_iv, ↓pm_cl2_2, ↓pm_cl2_6, hN2])
      | (with_reducible refine c_below (by omega) ?_ ; simp (disch := first | omega | decide) only [w_nl0, w_nli, w_nlr, ↓w_ts1, ↓w_ts0, w_rcv, w_rfv, w_cs, true_and, and_true, List.length_nil, List.length_cons, Nat.reduceAdd, Nat.reduceLeDiff, Nat.zero_le, Nat.reduceLT, ↓w_nil, ix_nI, nI_leP, nI_ltP, nI_eqP, nI_1, ↓i_inN, i_inN, l_le, l_lt, l_eq, r_le, r_lt, r_eq, sh0, sh1, sh55, sh60, sh9, sh31, sh23, sh37, sh42, sh43, sh19, sh3, sh6, ↓w_iload_1, ↓w_bipush, ↓w_is, ↓pm_cl1_2, ↓w_ifeq, ↓w_iload_2, ↓w_ifne, ↓w_iconst, ↓w_ret, ↓w_aload_0, ↓w_gf3, ↓w_gf0, ↓w_iclt, ↓w_iv, ↓pm_cl2_2, ↓pm_cl2_6, hN2])
      | (simp only [w_in])
      | (intro _))
    all_goals try rfl
    all_goals try grind
    all_goals try refine MC.of (eX12_lacquer (by omega) ?_)
    all_goals
      repeat' (first
        | (apply And.intro)
        | (with_reducible refine bX12_lacquer_0 ?_; simp (disch := first | omega | decide) only [w_nl0, w_nli, w_nlr, ↓w_ts1, ↓w_ts0, w_rcv, w_rfv, w_cs, true_and, and_true, List.length_nil, List.length_cons, Nat.reduceAdd, Nat.reduceLeDiff, Nat.zero_le, Nat.reduceLT, ↓w_nil, ix_nI, nI_leP, nI_ltP, nI_eqP, nI_1, ↓i_inN, i_inN, l_le, l_lt, l_eq, r_le, r_lt, r_eq, sh68_0, sh68_1, sh68_2, sh68_3, sh68_4, ↓w_iload_1, ↓w_is, ↓pm_cl1_1, ↓w_ifeq, ↓w_iload_2, ↓w_ifne, ↓w_iconst, ↓w_ret, ↓w_aload_0, ↓w_gf0, ↓w_bipush, ↓w_icne, ↓w_istore_3, ↓w_iload_3, ↓w_icge, ↓w_gf3, ↓w_iaload, ↓w_iinc_3, ↓w_goto, ↓w_iv, ↓pm_cl2_5])
        | (with_reducible refine bX12_lacquer_1 ?_; simp (disch := first | omega | decide) only [w_nl0, w_nli, w_nlr, ↓w_ts1, ↓w_ts0, w_rcv, w_rfv, w_cs, true_and, and_true, List.length_nil, List.length_cons, Nat.reduceAdd, Nat.reduceLeDiff, Nat.zero_le, Nat.reduceLT, ↓w_nil, ix_nI, nI_leP, nI_ltP, nI_eqP, nI_1, ↓i_inN, i_inN, l_le, l_lt, l_eq, r_le, r_lt, r_eq, sh68_0, sh68_1, sh68_2, sh68_3, sh68_4, ↓w_iload_1, ↓w_is, ↓pm_cl1_1, ↓w_ifeq, ↓w_iload_2, ↓w_ifne, ↓w_iconst, ↓w_ret, ↓w_aload_0, ↓w_gf0, ↓w_bipush, ↓w_icne, ↓w_istore_3, ↓w_iload_3, ↓w_icge, ↓w_gf3, ↓w_iaload, ↓w_iinc_3, ↓w_goto, ↓w_iv, ↓pm_cl2_5])
        | (with_reducible refine m_isSide (by omega) ?_ ; simp (disch := first | omega | decide) only [w_nl0, w_nli, w_nlr, ↓w_ts1, ↓w_ts0, w_rcv, w_rfv, w_cs, true_and, and_true, List.length_nil, List.length_cons, Nat.reduceAdd, Nat.reduceLeDiff, Nat.zero_le, Nat.reduceLT, ↓w_nil, ix_nI, nI_leP, nI_ltP, nI_eqP, nI_1, ↓i_inN, i_inN, l_le, l_lt, l_eq, r_le, r_lt, r_eq, sh68_0, sh68_1, sh68_2, sh68_3, sh68_4, ↓w_iload_1, ↓w_is, ↓pm_cl1_1, ↓w_ifeq, ↓w_iload_2, ↓w_ifne, ↓w_iconst, ↓w_ret, ↓w_aload_0, ↓w_gf0, ↓w_bipush, ↓w_icne, ↓w_istore_3, ↓w_iload_3, ↓w_icge, ↓w_gf3, ↓w_iaload, ↓w_iinc_3, ↓w_goto, ↓w_iv, ↓pm_cl2_5])
        | (with_reducible refine m_isHand (by omega) ?_ ; simp (disch := first | omega | decide) only [w_nl0, w_nli, w_nlr, ↓w_ts1, ↓w_ts0, w_rcv, w_rfv, w_cs, true_and, and_true, List.length_nil, List.length_cons, Nat.reduceAdd, Nat.reduceLeDiff, Nat.zero_le, Nat.reduceLT, ↓w_nil, ix_nI, nI_leP, nI_ltP, nI_eqP, nI_1, ↓i_inN, i_inN, l_le, l_lt, l_eq, r_le, r_lt, r_eq, sh68_0, sh68_1, sh68_2, sh68_3, sh68_4, ↓w_iload_1, ↓w_is, ↓pm_cl1_1, ↓w_ifeq, ↓w_iload_2, ↓w_ifne, ↓w_iconst, ↓w_ret, ↓w_aload_0, ↓w_gf0, ↓w_bipush, ↓w_icne, ↓w_istore_3, ↓w_iload_3, ↓w_icge, ↓w_gf3, ↓w_iaload, ↓w_iinc_3, ↓w_goto, ↓w_iv, ↓pm_cl2_5])
        | (simp only [w_in])
        | (intro _))
    all_goals first | rfl | exact hw | exact relw_found hw | exact relw_asks hw | grind
end C46
