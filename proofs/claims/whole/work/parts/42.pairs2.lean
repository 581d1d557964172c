section C42
variable {g : pm_G} {d : Nat} {Q : pm_Po} {S : pm_SS} {I : pm_MI} {J : pm_ML}
theorem i_q {x : Int32} {n : Nat} (hn : n < 1000000) (h0 : 0 ≤ x) (h1 : x < nI n) : ∃ q, q < n ∧ x = nI q := by
  rw [i_le] at h0
  rw [i_lt, tI_nI (by omega)] at h1
  exact i_of h0 h1 (by omega)
theorem itr_o {c a : Nat} {f : Nat → Nat} {v : Nat → pm_MI → Int32} {I : pm_MI} (h : a ≠ c) : ∀ n, itr (fun k (M : pm_MI) => pm_up M c (f k) (v k M)) I n a = I a
  | 0 => rfl
  | n + 1 => by rw [itr_s, pm_up_o h, itr_o h n]
theorem fill_s {c b : Nat} {v : Nat → Int32} {I : pm_MI} : ∀ n j, itr (fun k (M : pm_MI) => pm_up M c (b + k) (v k)) I n c j = if b ≤ j ∧ j < b + n then v (j - b) else I c j
  | 0, j => by rw [itr_0, if_neg (by omega)]
  | n + 1, j => by
    rw [itr_s]
    by_cases h : j = b + n
    · subst h
      rw [pm_up_s, if_pos (by omega), show b + n - b = n by omega]
    · rw [pm_up_n h, fill_s n j]
      by_cases h2 : b ≤ j ∧ j < b + n
      · rw [if_pos h2, if_pos (by omega)]
      · rw [if_neg h2, if_neg (by omega)]
theorem up_eq {I : pm_MI} {a b i : Nat} {v : Int32} (h : I a = I b) : pm_up I a i v a = pm_up I b i v b := by simp [pm_up, h]
theorem up_at {I : pm_MI} {a i j : Nat} {v : Int32} : pm_up I a i v a j = if j = i then v else I a j := by
  by_cases h : j = i
  · subst h; rw [pm_up_s, if_pos rfl]
  · rw [pm_up_n h, if_neg h]
/-- a shelf's row comes anew on both sides -/
theorem r_shelf_new {W N : Nat} {B w b : Int32} {s c s' c' : Nat → Int32} (h : r_shelf W B N w b s c s' c') {r n : Nat} (hr : r < N) (hn : n ≤ W) {s2 s2' c2 c2' : Nat → Int32} (e1 : ∀ j, s2 j = if j = r then nI n else s j) (e2 : ∀ j, s2' j = if j = r then nI n else s' j) (e3 : ∀ j, c2 j = if W * r ≤ j ∧ j < W * r + n then B else c j) (e4 : ∀ j, c2' j = if W * r ≤ j ∧ j < W * r + W then B else c' j) : r_shelf W B N w b s2 c2 s2' c2' := by
  obtain ⟨a1, a2, a3, a4⟩ := h
  refine ⟨a1, a2, ?_, fun q hq => ?_⟩
  · funext j
    rw [e1, e2, a3]
  · by_cases hqr : q = r
    · subst hqr
      refine Or.inr ⟨n, hn, by rw [e1, if_pos rfl], fun i hi => ?_⟩
      rw [e3, e4, if_pos (by omega), if_pos (by omega)]
    · rcases a4 q hq with h | ⟨k, hk, h1, h2⟩
      · exact Or.inl (by rw [e1, if_neg hqr, h])
      · refine Or.inr ⟨k, hk, by rw [e1, if_neg hqr, h1], fun i hi => ?_⟩
        have hne : ¬ (W * r ≤ W * q + i ∧ W * q + i < W * r + W) := by
          intro hh
          rcases Nat.lt_or_gt_of_ne hqr with hl | hl
          · have := Nat.mul_le_mul_left W (show q + 1 ≤ r from hl)
            rw [Nat.mul_add] at this
            omega
          · have := Nat.mul_le_mul_left W (show r + 1 ≤ q from hl)
            rw [Nat.mul_add] at this
            omega
        rw [e3, e4, if_neg hne, if_neg (by omega), h2 i hi]
theorem r_shelf_drop {W N : Nat} {B w b : Int32} {s c s' c' : Nat → Int32} (h : r_shelf W B N w b s c s' c') {r : Nat} {s2 s2' : Nat → Int32} (e1 : ∀ j, s2 j = if j = r then -1 else s j) (e2 : ∀ j, s2' j = if j = r then -1 else s' j) : r_shelf W B N w b s2 c s2' c' := by
  obtain ⟨a1, a2, a3, a4⟩ := h
  refine ⟨a1, a2, ?_, fun q hq => ?_⟩
  · funext j
    rw [e1, e2, a3]
  · by_cases hqr : q = r
    · exact Or.inl (by rw [e1, if_pos hqr])
    · rw [e1, if_neg hqr]
      exact a4 q hq
theorem r_shelf_set {W N : Nat} {B w b v : Int32} {s c s' c' : Nat → Int32} (h : r_shelf W B N w b s c s' c') {p : Nat} {c2 c2' : Nat → Int32} (e1 : ∀ j, c2 j = if j = p then v else c j) (e2 : ∀ j, c2' j = if j = p then v else c' j) : r_shelf W B N w b s c2 s' c2' := by
  obtain ⟨a1, a2, a3, a4⟩ := h
  refine ⟨a1, a2, a3, fun q hq => ?_⟩
  rcases a4 q hq with h | ⟨k, hk, h1, h2⟩
  · exact Or.inl h
  · refine Or.inr ⟨k, hk, h1, fun i hi => ?_⟩
    rw [e1, e2, h2 i hi]
theorem rel_newR {I : pm_MI} {J : pm_ML} {r n : Nat} (h : Rel I J) (hr : r < 6) (hn : n ≤ 24) : RelW (itr (fun k (M : pm_MI) => pm_up M 71 (24 * r + k) 0) (pm_up (itr (fun k (M : pm_MI) => pm_up M 5 (24 * r + k) 0) (pm_up I 4 r (nI n)) n) 70 r (nI n)) 24) J := by
  have hs := h.2.2.1
  have hs2 := r_shelf_new hs hr hn (s2 := pm_up I 4 r (nI n) 4) (s2' := pm_up I 70 r (nI n) 70) (c2 := fun j => if 24 * r ≤ j ∧ j < 24 * r + n then 0 else I 5 j) (c2' := fun j => if 24 * r ≤ j ∧ j < 24 * r + 24 then 0 else I 71 j) (fun j => up_at) (fun j => up_at) (fun j => rfl) (fun j => rfl)
  have f1 : (itr (fun k (M : pm_MI) => pm_up M 71 (24 * r + k) 0) (pm_up (itr (fun k (M : pm_MI) => pm_up M 5 (24 * r + k) 0) (pm_up I 4 r (nI n)) n) 70 r (nI n)) 24) 71 = fun j => if 24 * r ≤ j ∧ j < 24 * r + 24 then 0 else I 71 j := by
    funext j
    rw [fill_s (v := fun _ => 0), pm_up_o (by decide), itr_o (by decide), pm_up_o (by decide)]
  have f2 : (itr (fun k (M : pm_MI) => pm_up M 5 (24 * r + k) 0) (pm_up I 4 r (nI n)) n) 5 = fun j => if 24 * r ≤ j ∧ j < 24 * r + n then 0 else I 5 j := by
    funext j
    rw [fill_s (v := fun _ => 0), pm_up_o (by decide)]
  have f3 : pm_up (itr (fun k (M : pm_MI) => pm_up M 5 (24 * r + k) 0) (pm_up I 4 r (nI n)) n) 70 r (nI n) 70 = pm_up I 70 r (nI n) 70 := by
    funext j
    rw [up_at, up_at, itr_o (by decide), pm_up_o (by decide)]
  obtain ⟨a1, a2, a3, a4, a5, a6, a7, a8, a9, a10, a11, a12⟩ := h
  refine ⟨trivial, ?_, ?_, ?_, ?_, ?_, ?_, ?_, ?_, ?_, ?_, ?_, ?_⟩
  all_goals (simp (disch := decide) only [f1, itr_o, pm_up_o, f2, f3]; first | assumption | skip)
theorem m_row {r n : Nat} (hd : 5 ≤ d) (hr : r < 6) (hn : n ≤ 24) (hQ : Q (some (.int (nI n))) SH (itr (fun k (M : pm_MI) => pm_up M 71 (24 * r + k) 0) (pm_up I 70 r (nI n)) 24) J) : pm_C g d 199 [.ref 68, .int (nI r), .int (nI n)] Q SH I J := by
  have e1 : (0 : Int32) ≤ nI r ∧ nI r ≤ 5 := nI_rng (N := 5) (by omega) (by decide)
  have e2 : (0 : Int32) ≤ nI n ∧ nI n ≤ 24 := nI_rng (N := 24) (by omega) (by decide)
  refine eX12_row (by omega) ?_
  repeat' (first
    | (apply And.intro)
    | (with_reducible refine bX12_row_0 ?_; simp (disch := first | omega | decide) only [w_nl0, w_nli, w_nlr, ↓w_ts1, ↓w_ts0, w_rcv, w_rfv, w_cs, true_and, and_true, List.length_nil, List.length_cons, Nat.reduceAdd, Nat.reduceLeDiff, Nat.zero_le, Nat.reduceLT, ↓w_nil, ix_nI, nI_leP, nI_ltP, nI_eqP, nI_1, ↓i_inN, i_inN, l_le, l_lt, l_eq, r_le, r_lt, r_eq, sh68_0, sh68_1, sh68_2, sh68_3, sh68_4, ↓w_iload_1, ↓w_is, ↓pm_cl1_1, ↓w_ifeq, ↓w_iload_2, ↓w_bipush, ↓w_icle, ↓w_iconst, ↓w_ret, ↓w_ifge, ↓w_aload_0, ↓w_iv, ↓pm_cl2_2, ↓w_gf3, ↓w_iastore, ↓w_istore_3, ↓w_iload_3, ↓w_icge, ↓w_imul, ↓w_iadd, ↓w_iinc_3, ↓w_goto])
    | (with_reducible refine bX12_row_1 ?_; simp (disch := first | omega | decide) only [w_nl0, w_nli, w_nlr, ↓w_ts1, ↓w_ts0, w_rcv, w_rfv, w_cs, true_and, and_true, List.length_nil, List.length_cons, Nat.reduceAdd, Nat.reduceLeDiff, Nat.zero_le, Nat.reduceLT, ↓w_nil, ix_nI, nI_leP, nI_ltP, nI_eqP, nI_1, ↓i_inN, i_inN, l_le, l_lt, l_eq, r_le, r_lt, r_eq, sh68_0, sh68_1, sh68_2, sh68_3, sh68_4, ↓w_iload_1, ↓w_is, ↓pm_cl1_1, ↓w_ifeq, ↓w_iload_2, ↓w_bipush, ↓w_icle, ↓w_iconst, ↓w_ret, ↓w_ifge, ↓w_aload_0, ↓w_iv, ↓pm_cl2_2, ↓w_gf3, ↓w_iastore, ↓w_istore_3, ↓w_iload_3, ↓w_icge, ↓w_imul, ↓w_iadd, ↓w_iinc_3, ↓w_goto])
    | (with_reducible refine bX12_row_2 ?_; simp (disch := first | omega | decide) only [w_nl0, w_nli, w_nlr, ↓w_ts1, ↓w_ts0, w_rcv, w_rfv, w_cs, true_and, and_true, List.length_nil, List.length_cons, Nat.reduceAdd, Nat.reduceLeDiff, Nat.zero_le, Nat.reduceLT, ↓w_nil, ix_nI, nI_leP, nI_ltP, nI_eqP, nI_1, ↓i_inN, i_inN, l_le, l_lt, l_eq, r_le, r_lt, r_eq, sh68_0, sh68_1, sh68_2, sh68_3, sh68_4, ↓w_iload_1, ↓w_is, ↓pm_cl1_1, ↓w_ifeq, ↓w_iload_2, ↓w_bipush, ↓w_icle, ↓w_iconst, ↓w_ret, ↓w_ifge, ↓w_aload_0, ↓w_iv, ↓pm_cl2_2, ↓w_gf3, ↓w_iastore, ↓w_istore_3, ↓w_iload_3, ↓w_icge, ↓w_imul, ↓w_iadd, ↓w_iinc_3, ↓w_goto])
    | (with_reducible refine bX12_row_3 ?_; simp (disch := first | omega | decide) only [w_nl0, w_nli, w_nlr, ↓w_ts1, ↓w_ts0, w_rcv, w_rfv, w_cs, true_and, and_true, List.length_nil, List.length_cons, Nat.reduceAdd, Nat.reduceLeDiff, Nat.zero_le, Nat.reduceLT, ↓w_nil, ix_nI, nI_leP, nI_ltP, nI_eqP, nI_1, ↓i_inN, i_inN, l_le, l_lt, l_eq, r_le, r_lt, r_eq, sh68_0, sh68_1, sh68_2, sh68_3, sh68_4, ↓w_iload_1, ↓w_is, ↓pm_cl1_1, ↓w_ifeq, ↓w_iload_2, ↓w_bipush, ↓w_icle, ↓w_iconst, ↓w_ret, ↓w_ifge, ↓w_aload_0, ↓w_iv, ↓pm_cl2_2, ↓w_gf3, ↓w_iastore, ↓w_istore_3, ↓w_iload_3, ↓w_icge, ↓w_imul, ↓w_iadd, ↓w_iinc_3, ↓w_goto])
    | (with_reducible refine m_isRow (by omega) ?_; simp (disch := first | omega | decide) only [w_nl0, w_nli, w_nlr, ↓w_ts1, ↓w_ts0, w_rcv, w_rfv, w_cs, true_and, and_true, List.length_nil, List.length_cons, Nat.reduceAdd, Nat.reduceLeDiff, Nat.zero_le, Nat.reduceLT, ↓w_nil, ix_nI, nI_leP, nI_ltP, nI_eqP, nI_1, ↓i_inN, i_inN, l_le, l_lt, l_eq, r_le, r_lt, r_eq, sh68_0, sh68_1, sh68_2, sh68_3, sh68_4, ↓w_iload_1, ↓w_is, ↓pm_cl1_1, ↓w_ifeq, ↓w_iload_2, ↓w_bipush, ↓w_icle, ↓w_iconst, ↓w_ret, ↓w_ifge, ↓w_aload_0, ↓w_iv, ↓pm_cl2_2, ↓w_gf3, ↓w_iastore, ↓w_istore_3, ↓w_iload_3, ↓w_icge, ↓w_imul, ↓w_iadd, ↓w_iinc_3, ↓w_goto])
    | (simp only [w_in])
    | (intro _))
  all_goals try grind
  all_goals
    refine pm_for (f := fun k M => pm_up M 71 (24 * r + k) 0) (U := fun k a => UU g (d - 1) 199 kX12_row (pm_rm d 199) Q 4 [some (.ref 68), some (.int (nI r)), some (.int (nI n)), some (.int (nI k))] [] SH a J (0, 0)) 24 (fun k b hk hb w => ?_) ?_
    · refine bX12_row_4 ?_
      simp (disch := first | omega | decide) only [w_nl0, w_nli, w_nlr, ↓w_ts1, ↓w_ts0, w_rcv, w_rfv, w_cs, true_and, and_true, List.length_nil, List.length_cons, Nat.reduceAdd, Nat.reduceLeDiff, Nat.zero_le, Nat.reduceLT, ↓w_nil, ix_nI, nI_leP, nI_ltP, nI_eqP, nI_1, ↓i_inN, i_inN, l_le, l_lt, l_eq, r_le, r_lt, r_eq, sh68_0, sh68_1, sh68_2, sh68_3, sh68_4, ↓w_iload_3, ↓w_bipush, ↓w_icge, ↓w_aload_0, ↓w_gf3, ↓w_iload_1, ↓w_imul, ↓w_iadd, ↓w_iconst, ↓w_iastore, ↓w_iinc_3, ↓w_goto, nI_24m, nI_add, Nat.reduceEqDiff, false_and, or_false, show (32 : Int32).toInt8.toInt32 = 32 from rfl]
      repeat' (first
        | (apply And.intro)
        | (simp only [w_in])
        | (intro _))
      all_goals grind
    · refine bX12_row_4 ?_
      simp (disch := first | omega | decide) only [w_nl0, w_nli, w_nlr, ↓w_ts1, ↓w_ts0, w_rcv, w_rfv, w_cs, true_and, and_true, List.length_nil, List.length_cons, Nat.reduceAdd, Nat.reduceLeDiff, Nat.zero_le, Nat.reduceLT, ↓w_nil, ix_nI, nI_leP, nI_ltP, nI_eqP, nI_1, ↓i_inN, i_inN, l_le, l_lt, l_eq, r_le, r_lt, r_eq, sh68_0, sh68_1, sh68_2, sh68_3, sh68_4, ↓w_iload_3, ↓w_bipush, ↓w_icge, ↓w_aload_0, ↓w_gf3, ↓w_iload_1, ↓w_imul, ↓w_iadd, ↓w_iconst, ↓w_iastore, ↓w_iinc_3, ↓w_goto]
      repeat' (first
        | (apply And.intro)
        | (with_reducible refine bX12_row_5 ?_; simp (disch := first | omega | decide) only [w_nl0, w_nli, w_nlr, ↓w_ts1, ↓w_ts0, w_rcv, w_rfv, w_cs, true_and, and_true, List.length_nil, List.length_cons, Nat.reduceAdd, Nat.reduceLeDiff, Nat.zero_le, Nat.reduceLT, ↓w_nil, ix_nI, nI_leP, nI_ltP, nI_eqP, nI_1, ↓i_inN, i_inN, l_le, l_lt, l_eq, r_le, r_lt, r_eq, sh68_0, sh68_1, sh68_2, sh68_3, sh68_4, ↓w_iload_1, ↓w_is, ↓pm_cl1_1, ↓w_ifeq, ↓w_iload_2, ↓w_bipush, ↓w_icle, ↓w_iconst, ↓w_ret, ↓w_ifge, ↓w_aload_0, ↓w_iv, ↓pm_cl2_2, ↓w_gf3, ↓w_iastore, ↓w_istore_3, ↓w_iload_3, ↓w_icge, ↓w_imul, ↓w_iadd, ↓w_iinc_3, ↓w_goto])
        | (simp only [w_in])
        | (intro _))
      all_goals grind
theorem p_row {x y : Int32} (hd : 10 ≤ d) : PC g d 123 199 [.int x, .int y] := by
  intro I J h
  have hw := relw h
  have hs := h.2.2.1
  obtain ⟨s1, s2, s3, s4⟩ := hs
  have s1 : I 3 0 = 24 := s1
  by_cases hc : (0 ≤ x ∧ x < 6) ∧ 0 ≤ y ∧ y ≤ 24
  · obtain ⟨r, hr, rfl⟩ : ∃ q, q < 6 ∧ x = nI q := i_q (n := 6) (by decide) hc.1.1 hc.1.2
    obtain ⟨n, hn, rfl⟩ : ∃ q, q < 24 + 1 ∧ y = nI q := i_q (n := 24 + 1) (by decide) hc.2.1 (by have : nI (24 + 1) = (24 : Int32) + 1 := rfl; grind)
    have hn := rel_newR h hr (show n ≤ 24 by omega)
    refine eX11_row (by omega) ?_
    repeat' (first
      | (apply And.intro)
      | (with_reducible refine bX11_row_0 ?_; simp (disch := first | omega | decide) only [w_nl0, w_nli, w_nlr, ↓w_ts1, ↓w_ts0, w_rcv, w_rfv, w_cs, true_and, and_true, List.length_nil, List.length_cons, Nat.reduceAdd, Nat.reduceLeDiff, Nat.zero_le, Nat.reduceLT, ↓w_nil, ix_nI, nI_leP, nI_ltP, nI_eqP, nI_1, ↓i_inN, i_inN, l_le, l_lt, l_eq, r_le, r_lt, r_eq, sh0, sh1, sh55, sh60, sh9, sh31, sh23, sh37, sh42, sh43, sh19, sh3, sh6, ↓w_aload_0, ↓w_gf3, ↓w_iload_1, ↓w_iv, ↓pm_cl2_2, ↓w_ifeq, ↓w_iload_2, ↓w_bipush, ↓w_icle, ↓w_iconst, ↓w_ret, ↓w_ifge, ↓pm_cl2_3])
      | (with_reducible refine bX11_row_1 ?_; simp (disch := first | omega | decide) only [w_nl0, w_nli, w_nlr, ↓w_ts1, ↓w_ts0, w_rcv, w_rfv, w_cs, true_and, and_true, List.length_nil, List.length_cons, Nat.reduceAdd, Nat.reduceLeDiff, Nat.zero_le, Nat.reduceLT, ↓w_nil, ix_nI, nI_leP, nI_ltP, nI_eqP, nI_1, ↓i_inN, i_inN, l_le, l_lt, l_eq, r_le, r_lt, r_eq, sh0, sh1, sh55, sh60, sh9, sh31, sh23, sh37, sh42, sh43, sh19, sh3, sh6, ↓w_aload_0, ↓w_gf3, ↓w_iload_1, ↓w_iv, ↓pm_cl2_2, ↓w_ifeq, ↓w_iload_2, ↓w_bipush, ↓w_icle, ↓w_iconst, ↓w_ret, ↓w_ifge, ↓pm_cl2_3])
      | (with_reducible refine bX11_row_2 ?_; simp (disch := first | omega | decide) only [w_nl0, w_nli, w_nlr, ↓w_ts1, ↓w_ts0, w_rcv, w_rfv, w_cs, true_and, and_true, List.length_nil, List.length_cons, Nat.reduceAdd, Nat.reduceLeDiff, Nat.zero_le, Nat.reduceLT, ↓w_nil, ix_nI, nI_leP, nI_ltP, nI_eqP, nI_1, ↓i_inN, i_inN, l_le, l_lt, l_eq, r_le, r_lt, r_eq, sh0, sh1, sh55, sh60, sh9, sh31, sh23, sh37, sh42, sh43, sh19, sh3, sh6, ↓w_aload_0, ↓w_gf3, ↓w_iload_1, ↓w_iv, ↓pm_cl2_2, ↓w_ifeq, ↓w_iload_2, ↓w_bipush, ↓w_icle, ↓w_iconst, ↓w_ret, ↓w_ifge, ↓pm_cl2_3])
      | (with_reducible refine bX11_row_3 ?_; simp (disch := first | omega | decide) only [w_nl0, w_nli, w_nlr, ↓w_ts1, ↓w_ts0, w_rcv, w_rfv, w_cs, true_and, and_true, List.length_nil, List.length_cons, Nat.reduceAdd, Nat.reduceLeDiff, Nat.zero_le, Nat.reduceLT, ↓w_nil, ix_nI, nI_leP, nI_ltP, nI_eqP, nI_1, ↓i_inN, i_inN, l_le, l_lt, l_eq, r_le, r_lt, r_eq, sh0, sh1, sh55, sh60, sh9, sh31, sh23, sh37, sh42, sh43, sh19, sh3, sh6, ↓w_aload_0, ↓w_gf3, ↓w_iload_1, ↓w_iv, ↓pm_cl2_2, ↓w_ifeq, ↓w_iload_2, ↓w_bipush, ↓w_icle, ↓w_iconst, ↓w_ret, ↓w_ifge, ↓pm_cl2_3])
      | (with_reducible refine c_hasR (by omega) ?_; simp (disch := first | omega | decide) only [w_nl0, w_nli, w_nlr, ↓w_ts1, ↓w_ts0, w_rcv, w_rfv, w_cs, true_and, and_true, List.length_nil, List.length_cons, Nat.reduceAdd, Nat.reduceLeDiff, Nat.zero_le, Nat.reduceLT, ↓w_nil, ix_nI, nI_leP, nI_ltP, nI_eqP, nI_1, ↓i_inN, i_inN, l_le, l_lt, l_eq, r_le, r_lt, r_eq, sh0, sh1, sh55, sh60, sh9, sh31, sh23, sh37, sh42, sh43, sh19, sh3, sh6, ↓w_aload_0, ↓w_gf3, ↓w_iload_1, ↓w_iv, ↓pm_cl2_2, ↓w_ifeq, ↓w_iload_2, ↓w_bipush, ↓w_icle, ↓w_iconst, ↓w_ret, ↓w_ifge, ↓pm_cl2_3])
      | (with_reducible refine c_found (by omega) (by decide) (by decide) ?_; simp (disch := first | omega | decide) only [w_nl0, w_nli, w_nlr, ↓w_ts1, ↓w_ts0, w_rcv, w_rfv, w_cs, true_and, and_true, List.length_nil, List.length_cons, Nat.reduceAdd, Nat.reduceLeDiff, Nat.zero_le, Nat.reduceLT, ↓w_nil, ix_nI, nI_leP, nI_ltP, nI_eqP, nI_1, ↓i_inN, i_inN, l_le, l_lt, l_eq, r_le, r_lt, r_eq, sh0, sh1, sh55, sh60, sh9, sh31, sh23, sh37, sh42, sh43, sh19, sh3, sh6, ↓w_aload_0, ↓w_gf3, ↓w_iload_1, ↓w_iv, ↓pm_cl2_2, ↓w_ifeq, ↓w_iload_2, ↓w_bipush, ↓w_icle, ↓w_iconst, ↓w_ret, ↓w_ifge, ↓pm_cl2_3])
      | (with_reducible refine c_bringR (by omega) s1 s2 hr (by omega) ?_; simp (disch := first | omega | decide) only [w_nl0, w_nli, w_nlr, ↓w_ts1, ↓w_ts0, w_rcv, w_rfv, w_cs, true_and, and_true, List.length_nil, List.length_cons, Nat.reduceAdd, Nat.reduceLeDiff, Nat.zero_le, Nat.reduceLT, ↓w_nil, ix_nI, nI_leP, nI_ltP, nI_eqP, nI_1, ↓i_inN, i_inN, l_le, l_lt, l_eq, r_le, r_lt, r_eq, sh0, sh1, sh55, sh60, sh9, sh31, sh23, sh37, sh42, sh43, sh19, sh3, sh6, ↓w_aload_0, ↓w_gf3, ↓w_iload_1, ↓w_iv, ↓pm_cl2_2, ↓w_ifeq, ↓w_iload_2, ↓w_bipush, ↓w_icle, ↓w_iconst, ↓w_ret, ↓w_ifge, ↓pm_cl2_3])
      | (simp only [w_in])
      | (intro _))
    all_goals try rfl
    all_goals try grind
    all_goals
      refine MC.of ?_
      refine m_row (by omega) hr (by omega) ?_
      exact ⟨rfl, rfl, hn⟩
  · refine eX11_row (by omega) ?_
    repeat' (first
      | (apply And.intro)
      | (with_reducible refine bX11_row_0 ?_; simp (disch := first | omega | decide) only [w_nl0, w_nli, w_nlr, ↓w_ts1, ↓w_ts0, w_rcv, w_rfv, w_cs, true_and, and_true, List.length_nil, List.length_cons, Nat.reduceAdd, Nat.reduceLeDiff, Nat.zero_le, Nat.reduceLT, ↓w_nil, ix_nI, nI_leP, nI_ltP, nI_eqP, nI_1, ↓i_inN, i_inN, l_le, l_lt, l_eq, r_le, r_lt, r_eq, sh0, sh1, sh55, sh60, sh9, sh31, sh23, sh37, sh42, sh43, sh19, sh3, sh6, ↓w_aload_0, ↓w_gf3, ↓w_iload_1, ↓w_iv, ↓pm_cl2_2, ↓w_ifeq, ↓w_iload_2, ↓w_bipush, ↓w_icle, ↓w_iconst, ↓w_ret, ↓w_ifge, ↓pm_cl2_3])
      | (with_reducible refine bX11_row_1 ?_; simp (disch := first | omega | decide) only [w_nl0, w_nli, w_nlr, ↓w_ts1, ↓w_ts0, w_rcv, w_rfv, w_cs, true_and, and_true, List.length_nil, List.length_cons, Nat.reduceAdd, Nat.reduceLeDiff, Nat.zero_le, Nat.reduceLT, ↓w_nil, ix_nI, nI_leP, nI_ltP, nI_eqP, nI_1, ↓i_inN, i_inN, l_le, l_lt, l_eq, r_le, r_lt, r_eq, sh0, sh1, sh55, sh60, sh9, sh31, sh23, sh37, sh42, sh43, sh19, sh3, sh6, ↓w_aload_0, ↓w_gf3, ↓w_iload_1, ↓w_iv, ↓pm_cl2_2, ↓w_ifeq, ↓w_iload_2, ↓w_bipush, ↓w_icle, ↓w_iconst, ↓w_ret, ↓w_ifge, ↓pm_cl2_3])
      | (with_reducible refine bX11_row_2 ?_; simp (disch := first | omega | decide) only [w_nl0, w_nli, w_nlr, ↓w_ts1, ↓w_ts0, w_rcv, w_rfv, w_cs, true_and, and_true, List.length_nil, List.length_cons, Nat.reduceAdd, Nat.reduceLeDiff, Nat.zero_le, Nat.reduceLT, ↓w_nil, ix_nI, nI_leP, nI_ltP, nI_eqP, nI_1, ↓i_inN, i_inN, l_le, l_lt, l_eq, r_le, r_lt, r_eq, sh0, sh1, sh55, sh60, sh9, sh31, sh23, sh37, sh42, sh43, sh19, sh3, sh6, ↓w_aload_0, ↓w_gf3, ↓w_iload_1, ↓w_iv, ↓pm_cl2_2, ↓w_ifeq, ↓w_iload_2, ↓w_bipush, ↓w_icle, ↓w_iconst, ↓w_ret, ↓w_ifge, ↓pm_cl2_3])
      | (with_reducible refine bX11_row_3 ?_; simp (disch := first | omega | decide) only [w_nl0, w_nli, w_nlr, ↓w_ts1, ↓w_ts0, w_rcv, w_rfv, w_cs, true_and, and_true, List.length_nil, List.length_cons, Nat.reduceAdd, Nat.reduceLeDiff, Nat.zero_le, Nat.reduceLT, ↓w_nil, ix_nI, nI_leP, nI_ltP, nI_eqP, nI_1, ↓i_inN, i_inN, l_le, l_lt, l_eq, r_le, r_lt, r_eq, sh0, sh1, sh55, sh60, sh9, sh31, sh23, sh37, sh42, sh43, sh19, sh3, sh6, ↓w_aload_0, ↓w_gf3, ↓w_iload_1, ↓w_iv, ↓pm_cl2_2, ↓w_ifeq, ↓w_iload_2, ↓w_bipush, ↓w_icle, ↓w_iconst, ↓w_ret, ↓w_ifge, ↓pm_cl2_3])
      | (with_reducible refine c_hasR (by omega) ?_; simp (disch := first | omega | decide) only [w_nl0, w_nli, w_nlr, ↓w_ts1, ↓w_ts0, w_rcv, w_rfv, w_cs, true_and, and_true, List.length_nil, List.length_cons, Nat.reduceAdd, Nat.reduceLeDiff, Nat.zero_le, Nat.reduceLT, ↓w_nil, ix_nI, nI_leP, nI_ltP, nI_eqP, nI_1, ↓i_inN, i_inN, l_le, l_lt, l_eq, r_le, r_lt, r_eq, sh0, sh1, sh55, sh60, sh9, sh31, sh23, sh37, sh42, sh43, sh19, sh3, sh6, ↓w_aload_0, ↓w_gf3, ↓w_iload_1, ↓w_iv, ↓pm_cl2_2, ↓w_ifeq, ↓w_iload_2, ↓w_bipush, ↓w_icle, ↓w_iconst, ↓w_ret, ↓w_ifge, ↓pm_cl2_3])
      | (with_reducible refine c_found (by omega) (by decide) (by decide) ?_; simp (disch := first | omega | decide) only [w_nl0, w_nli, w_nlr, ↓w_ts1, ↓w_ts0, w_rcv, w_rfv, w_cs, true_and, and_true, List.length_nil, List.length_cons, Nat.reduceAdd, Nat.reduceLeDiff, Nat.zero_le, Nat.reduceLT, ↓w_nil, ix_nI, nI_leP, nI_ltP, nI_eqP, nI_1, ↓i_inN, i_inN, l_le, l_lt, l_eq, r_le, r_lt, r_eq, sh0, sh1, sh55, sh60, sh9, sh31, sh23, sh37, sh42, sh43, sh19, sh3, sh6, ↓w_aload_0, ↓w_gf3, ↓w_iload_1, ↓w_iv, ↓pm_cl2_2, ↓w_ifeq, ↓w_iload_2, ↓w_bipush, ↓w_icle, ↓w_iconst, ↓w_ret, ↓w_ifge, ↓pm_cl2_3])
      | (simp only [w_in])
      | (intro _))
    all_goals try rfl
    all_goals try grind
    all_goals try refine MC.of (eX12_row (by omega) ?_)
    all_goals
      repeat' (first
        | (apply And.intro)
        | (with_reducible refine bX12_row_0 ?_; simp (disch := first | omega | decide) only [w_nl0, w_nli, w_nlr, ↓w_ts1, ↓w_ts0, w_rcv, w_rfv, w_cs, true_and, and_true, List.length_nil, List.length_cons, Nat.reduceAdd, Nat.reduceLeDiff, Nat.zero_le, Nat.reduceLT, ↓w_nil, ix_nI, nI_leP, nI_ltP, nI_eqP, nI_1, ↓i_inN, i_inN, l_le, l_lt, l_eq, r_le, r_lt, r_eq, sh68_0, sh68_1, sh68_2, sh68_3, sh68_4, ↓w_iload_1, ↓w_is, ↓pm_cl1_1, ↓w_ifeq, ↓w_iload_2, ↓w_bipush, ↓w_icle, ↓w_iconst, ↓w_ret, ↓w_ifge, ↓w_aload_0, ↓w_iv, ↓pm_cl2_2, ↓w_gf3, ↓w_iastore, ↓w_istore_3, ↓w_iload_3, ↓w_icge, ↓w_imul, ↓w_iadd, ↓w_iinc_3, ↓w_goto, pm_up_o])
        | (with_reducible refine bX12_row_1 ?_; simp (disch := first | omega | decide) only [w_nl0, w_nli, w_nlr, ↓w_ts1, ↓w_ts0, w_rcv, w_rfv, w_cs, true_and, and_true, List.length_nil, List.length_cons, Nat.reduceAdd, Nat.reduceLeDiff, Nat.zero_le, Nat.reduceLT, ↓w_nil, ix_nI, nI_leP, nI_ltP, nI_eqP, nI_1, ↓i_inN, i_inN, l_le, l_lt, l_eq, r_le, r_lt, r_eq, sh68_0, sh68_1, sh68_2, sh68_3, sh68_4, ↓w_iload_1, ↓w_is, ↓pm_cl1_1, ↓w_ifeq, ↓w_iload_2, ↓w_bipush, ↓w_icle, ↓w_iconst, ↓w_ret, ↓w_ifge, ↓w_aload_0, ↓w_iv, ↓pm_cl2_2, ↓w_gf3, ↓w_iastore, ↓w_istore_3, ↓w_iload_3, ↓w_icge, ↓w_imul, ↓w_iadd, ↓w_iinc_3, ↓w_goto, pm_up_o])
        | (with_reducible refine bX12_row_2 ?_; simp (disch := first | omega | decide) only [w_nl0, w_nli, w_nlr, ↓w_ts1, ↓w_ts0, w_rcv, w_rfv, w_cs, true_and, and_true, List.length_nil, List.length_cons, Nat.reduceAdd, Nat.reduceLeDiff, Nat.zero_le, Nat.reduceLT, ↓w_nil, ix_nI, nI_leP, nI_ltP, nI_eqP, nI_1, ↓i_inN, i_inN, l_le, l_lt, l_eq, r_le, r_lt, r_eq, sh68_0, sh68_1, sh68_2, sh68_3, sh68_4, ↓w_iload_1, ↓w_is, ↓pm_cl1_1, ↓w_ifeq, ↓w_iload_2, ↓w_bipush, ↓w_icle, ↓w_iconst, ↓w_ret, ↓w_ifge, ↓w_aload_0, ↓w_iv, ↓pm_cl2_2, ↓w_gf3, ↓w_iastore, ↓w_istore_3, ↓w_iload_3, ↓w_icge, ↓w_imul, ↓w_iadd, ↓w_iinc_3, ↓w_goto, pm_up_o])
        | (with_reducible refine bX12_row_3 ?_; simp (disch := first | omega | decide) only [w_nl0, w_nli, w_nlr, ↓w_ts1, ↓w_ts0, w_rcv, w_rfv, w_cs, true_and, and_true, List.length_nil, List.length_cons, Nat.reduceAdd, Nat.reduceLeDiff, Nat.zero_le, Nat.reduceLT, ↓w_nil, ix_nI, nI_leP, nI_ltP, nI_eqP, nI_1, ↓i_inN, i_inN, l_le, l_lt, l_eq, r_le, r_lt, r_eq, sh68_0, sh68_1, sh68_2, sh68_3, sh68_4, ↓w_iload_1, ↓w_is, ↓pm_cl1_1, ↓w_ifeq, ↓w_iload_2, ↓w_bipush, ↓w_icle, ↓w_iconst, ↓w_ret, ↓w_ifge, ↓w_aload_0, ↓w_iv, ↓pm_cl2_2, ↓w_gf3, ↓w_iastore, ↓w_istore_3, ↓w_iload_3, ↓w_icge, ↓w_imul, ↓w_iadd, ↓w_iinc_3, ↓w_goto, pm_up_o])
        | (with_reducible refine m_isRow (by omega) ?_; simp (disch := first | omega | decide) only [w_nl0, w_nli, w_nlr, ↓w_ts1, ↓w_ts0, w_rcv, w_rfv, w_cs, true_and, and_true, List.length_nil, List.length_cons, Nat.reduceAdd, Nat.reduceLeDiff, Nat.zero_le, Nat.reduceLT, ↓w_nil, ix_nI, nI_leP, nI_ltP, nI_eqP, nI_1, ↓i_inN, i_inN, l_le, l_lt, l_eq, r_le, r_lt, r_eq, sh68_0, sh68_1, sh68_2, sh68_3, sh68_4, ↓w_iload_1, ↓w_is, ↓pm_cl1_1, ↓w_ifeq, ↓w_iload_2, ↓w_bipush, ↓w_icle, ↓w_iconst, ↓w_ret, ↓w_ifge, ↓w_aload_0, ↓w_iv, ↓pm_cl2_2, ↓w_gf3, ↓w_iastore, ↓w_istore_3, ↓w_iload_3, ↓w_icge, ↓w_imul, ↓w_iadd, ↓w_iinc_3, ↓w_goto, pm_up_o])
        | (with_reducible refine m_meets (by omega) (by decide) (by decide) ?_; simp (disch := first | omega | decide) only [w_nl0, w_nli, w_nlr, ↓w_ts1, ↓w_ts0, w_rcv, w_rfv, w_cs, true_and, and_true, List.length_nil, List.length_cons, Nat.reduceAdd, Nat.reduceLeDiff, Nat.zero_le, Nat.reduceLT, ↓w_nil, ix_nI, nI_leP, nI_ltP, nI_eqP, nI_1, ↓i_inN, i_inN, l_le, l_lt, l_eq, r_le, r_lt, r_eq, sh68_0, sh68_1, sh68_2, sh68_3, sh68_4, ↓w_iload_1, ↓w_is, ↓pm_cl1_1, ↓w_ifeq, ↓w_iload_2, ↓w_bipush, ↓w_icle, ↓w_iconst, ↓w_ret, ↓w_ifge, ↓w_aload_0, ↓w_iv, ↓pm_cl2_2, ↓w_gf3, ↓w_iastore, ↓w_istore_3, ↓w_iload_3, ↓w_icge, ↓w_imul, ↓w_iadd, ↓w_iinc_3, ↓w_goto, pm_up_o])
        | (simp only [w_in])
        | (intro _))
    all_goals first | rfl | exact hw | exact relw_found hw | exact relw_asks hw | grind
theorem p_tear {x : Int32} (hd : 10 ≤ d) : PC g d 125 201 [.int x] := by
  intro I J h
  have hw := relw h
  have hs := h.2.2.1
  obtain ⟨s1, s2, s3, s4⟩ := hs
  have s1 : I 3 0 = 24 := s1
  by_cases hc : 0 ≤ x ∧ x < 6
  · obtain ⟨r, hr, rfl⟩ : ∃ q, q < 6 ∧ x = nI q := i_q (n := 6) (by decide) hc.1 hc.2
    have hn : RelW (pm_up (pm_up I 4 r (-1)) 70 r (-1)) J := by
      have hs2 := r_shelf_drop h.2.2.1 (r := r) (s2 := pm_up I 4 r (-1) 4) (s2' := pm_up I 70 r (-1) 70) (fun j => up_at) (fun j => up_at)
      have f3 : pm_up (pm_up I 4 r (-1)) 70 r (-1) 70 = pm_up I 70 r (-1) 70 := by
        funext j
        rw [up_at, up_at, pm_up_o (by decide)]
      obtain ⟨a1, a2, a3, a4, a5, a6, a7, a8, a9, a10, a11, a12⟩ := h
      refine ⟨trivial, ?_, ?_, ?_, ?_, ?_, ?_, ?_, ?_, ?_, ?_, ?_, ?_⟩
      all_goals (simp (disch := decide) only [f3, pm_up_o]; first | assumption | skip)
    refine eX11_tear (by omega) ?_
    repeat' (first
      | (apply And.intro)
      | (with_reducible refine bX11_tear_0 ?_; simp (disch := first | omega | decide) only [w_nl0, w_nli, w_nlr, ↓w_ts1, ↓w_ts0, w_rcv, w_rfv, w_cs, true_and, and_true, List.length_nil, List.length_cons, Nat.reduceAdd, Nat.reduceLeDiff, Nat.zero_le, Nat.reduceLT, ↓w_nil, ix_nI, nI_leP, nI_ltP, nI_eqP, nI_1, ↓i_inN, i_inN, l_le, l_lt, l_eq, r_le, r_lt, r_eq, sh0, sh1, sh55, sh60, sh9, sh31, sh23, sh37, sh42, sh43, sh19, sh3, sh6, ↓w_aload_0, ↓w_gf3, ↓w_iload_1, ↓w_iv, ↓pm_cl2_2, ↓w_ifne, ↓w_iconst, ↓w_ret, ↓w_ifeq, pm_up_o])
      | (with_reducible refine bX11_tear_1 ?_; simp (disch := first | omega | decide) only [w_nl0, w_nli, w_nlr, ↓w_ts1, ↓w_ts0, w_rcv, w_rfv, w_cs, true_and, and_true, List.length_nil, List.length_cons, Nat.reduceAdd, Nat.reduceLeDiff, Nat.zero_le, Nat.reduceLT, ↓w_nil, ix_nI, nI_leP, nI_ltP, nI_eqP, nI_1, ↓i_inN, i_inN, l_le, l_lt, l_eq, r_le, r_lt, r_eq, sh0, sh1, sh55, sh60, sh9, sh31, sh23, sh37, sh42, sh43, sh19, sh3, sh6, ↓w_aload_0, ↓w_gf3, ↓w_iload_1, ↓w_iv, ↓pm_cl2_2, ↓w_ifne, ↓w_iconst, ↓w_ret, ↓w_ifeq, pm_up_o])
      | (with_reducible refine bX11_tear_2 ?_; simp (disch := first | omega | decide) only [w_nl0, w_nli, w_nlr, ↓w_ts1, ↓w_ts0, w_rcv, w_rfv, w_cs, true_and, and_true, List.length_nil, List.length_cons, Nat.reduceAdd, Nat.reduceLeDiff, Nat.zero_le, Nat.reduceLT, ↓w_nil, ix_nI, nI_leP, nI_ltP, nI_eqP, nI_1, ↓i_inN, i_inN, l_le, l_lt, l_eq, r_le, r_lt, r_eq, sh0, sh1, sh55, sh60, sh9, sh31, sh23, sh37, sh42, sh43, sh19, sh3, sh6, ↓w_aload_0, ↓w_gf3, ↓w_iload_1, ↓w_iv, ↓pm_cl2_2, ↓w_ifne, ↓w_iconst, ↓w_ret, ↓w_ifeq, pm_up_o])
      | (with_reducible refine c_hasR (by omega) ?_; simp (disch := first | omega | decide) only [w_nl0, w_nli, w_nlr, ↓w_ts1, ↓w_ts0, w_rcv, w_rfv, w_cs, true_and, and_true, List.length_nil, List.length_cons, Nat.reduceAdd, Nat.reduceLeDiff, Nat.zero_le, Nat.reduceLT, ↓w_nil, ix_nI, nI_leP, nI_ltP, nI_eqP, nI_1, ↓i_inN, i_inN, l_le, l_lt, l_eq, r_le, r_lt, r_eq, sh0, sh1, sh55, sh60, sh9, sh31, sh23, sh37, sh42, sh43, sh19, sh3, sh6, ↓w_aload_0, ↓w_gf3, ↓w_iload_1, ↓w_iv, ↓pm_cl2_2, ↓w_ifne, ↓w_iconst, ↓w_ret, ↓w_ifeq, pm_up_o])
      | (with_reducible refine c_missingR (by omega) ?_; simp (disch := first | omega | decide) only [w_nl0, w_nli, w_nlr, ↓w_ts1, ↓w_ts0, w_rcv, w_rfv, w_cs, true_and, and_true, List.length_nil, List.length_cons, Nat.reduceAdd, Nat.reduceLeDiff, Nat.zero_le, Nat.reduceLT, ↓w_nil, ix_nI, nI_leP, nI_ltP, nI_eqP, nI_1, ↓i_inN, i_inN, l_le, l_lt, l_eq, r_le, r_lt, r_eq, sh0, sh1, sh55, sh60, sh9, sh31, sh23, sh37, sh42, sh43, sh19, sh3, sh6, ↓w_aload_0, ↓w_gf3, ↓w_iload_1, ↓w_iv, ↓pm_cl2_2, ↓w_ifne, ↓w_iconst, ↓w_ret, ↓w_ifeq, pm_up_o])
      | (with_reducible refine c_found (by omega) (by decide) (by decide) ?_; simp (disch := first | omega | decide) only [w_nl0, w_nli, w_nlr, ↓w_ts1, ↓w_ts0, w_rcv, w_rfv, w_cs, true_and, and_true, List.length_nil, List.length_cons, Nat.reduceAdd, Nat.reduceLeDiff, Nat.zero_le, Nat.reduceLT, ↓w_nil, ix_nI, nI_leP, nI_ltP, nI_eqP, nI_1, ↓i_inN, i_inN, l_le, l_lt, l_eq, r_le, r_lt, r_eq, sh0, sh1, sh55, sh60, sh9, sh31, sh23, sh37, sh42, sh43, sh19, sh3, sh6, ↓w_aload_0, ↓w_gf3, ↓w_iload_1, ↓w_iv, ↓pm_cl2_2, ↓w_ifne, ↓w_iconst, ↓w_ret, ↓w_ifeq, pm_up_o])
      | (with_reducible refine c_dropR (by omega) hr ?_; simp (disch := first | omega | decide) only [w_nl0, w_nli, w_nlr, ↓w_ts1, ↓w_ts0, w_rcv, w_rfv, w_cs, true_and, and_true, List.length_nil, List.length_cons, Nat.reduceAdd, Nat.reduceLeDiff, Nat.zero_le, Nat.reduceLT, ↓w_nil, ix_nI, nI_leP, nI_ltP, nI_eqP, nI_1, ↓i_inN, i_inN, l_le, l_lt, l_eq, r_le, r_lt, r_eq, sh0, sh1, sh55, sh60, sh9, sh31, sh23, sh37, sh42, sh43, sh19, sh3, sh6, ↓w_aload_0, ↓w_gf3, ↓w_iload_1, ↓w_iv, ↓pm_cl2_2, ↓w_ifne, ↓w_iconst, ↓w_ret, ↓w_ifeq, pm_up_o])
      | (simp only [w_in])
      | (intro _))
    all_goals try rfl
    all_goals try grind
    all_goals try refine MC.of (eX12_tear (by omega) ?_)
    all_goals
      repeat' (first
        | (apply And.intro)
        | (with_reducible refine bX12_tear_0 ?_; simp (disch := first | omega | decide) only [w_nl0, w_nli, w_nlr, ↓w_ts1, ↓w_ts0, w_rcv, w_rfv, w_cs, true_and, and_true, List.length_nil, List.length_cons, Nat.reduceAdd, Nat.reduceLeDiff, Nat.zero_le, Nat.reduceLT, ↓w_nil, ix_nI, nI_leP, nI_ltP, nI_eqP, nI_1, ↓i_inN, i_inN, l_le, l_lt, l_eq, r_le, r_lt, r_eq, sh68_0, sh68_1, sh68_2, sh68_3, sh68_4, ↓w_iload_1, ↓w_is, ↓pm_cl1_1, ↓w_ifne, ↓w_iconst, ↓w_ret, ↓w_aload_0, ↓w_gf3, ↓w_iaload, ↓w_ifge, ↓w_iv, ↓pm_cl2_2, ↓w_iastore, pm_up_o, s3])
        | (with_reducible refine bX12_tear_1 ?_; simp (disch := first | omega | decide) only [w_nl0, w_nli, w_nlr, ↓w_ts1, ↓w_ts0, w_rcv, w_rfv, w_cs, true_and, and_true, List.length_nil, List.length_cons, Nat.reduceAdd, Nat.reduceLeDiff, Nat.zero_le, Nat.reduceLT, ↓w_nil, ix_nI, nI_leP, nI_ltP, nI_eqP, nI_1, ↓i_inN, i_inN, l_le, l_lt, l_eq, r_le, r_lt, r_eq, sh68_0, sh68_1, sh68_2, sh68_3, sh68_4, ↓w_iload_1, ↓w_is, ↓pm_cl1_1, ↓w_ifne, ↓w_iconst, ↓w_ret, ↓w_aload_0, ↓w_gf3, ↓w_iaload, ↓w_ifge, ↓w_iv, ↓pm_cl2_2, ↓w_iastore, pm_up_o, s3])
        | (with_reducible refine bX12_tear_2 ?_; simp (disch := first | omega | decide) only [w_nl0, w_nli, w_nlr, ↓w_ts1, ↓w_ts0, w_rcv, w_rfv, w_cs, true_and, and_true, List.length_nil, List.length_cons, Nat.reduceAdd, Nat.reduceLeDiff, Nat.zero_le, Nat.reduceLT, ↓w_nil, ix_nI, nI_leP, nI_ltP, nI_eqP, nI_1, ↓i_inN, i_inN, l_le, l_lt, l_eq, r_le, r_lt, r_eq, sh68_0, sh68_1, sh68_2, sh68_3, sh68_4, ↓w_iload_1, ↓w_is, ↓pm_cl1_1, ↓w_ifne, ↓w_iconst, ↓w_ret, ↓w_aload_0, ↓w_gf3, ↓w_iaload, ↓w_ifge, ↓w_iv, ↓pm_cl2_2, ↓w_iastore, pm_up_o, s3])
        | (with_reducible refine m_isRow (by omega) ?_; simp (disch := first | omega | decide) only [w_nl0, w_nli, w_nlr, ↓w_ts1, ↓w_ts0, w_rcv, w_rfv, w_cs, true_and, and_true, List.length_nil, List.length_cons, Nat.reduceAdd, Nat.reduceLeDiff, Nat.zero_le, Nat.reduceLT, ↓w_nil, ix_nI, nI_leP, nI_ltP, nI_eqP, nI_1, ↓i_inN, i_inN, l_le, l_lt, l_eq, r_le, r_lt, r_eq, sh68_0, sh68_1, sh68_2, sh68_3, sh68_4, ↓w_iload_1, ↓w_is, ↓pm_cl1_1, ↓w_ifne, ↓w_iconst, ↓w_ret, ↓w_aload_0, ↓w_gf3, ↓w_iaload, ↓w_ifge, ↓w_iv, ↓pm_cl2_2, ↓w_iastore, pm_up_o, s3])
        | (with_reducible refine m_meets (by omega) (by decide) (by decide) ?_; simp (disch := first | omega | decide) only [w_nl0, w_nli, w_nlr, ↓w_ts1, ↓w_ts0, w_rcv, w_rfv, w_cs, true_and, and_true, List.length_nil, List.length_cons, Nat.reduceAdd, Nat.reduceLeDiff, Nat.zero_le, Nat.reduceLT, ↓w_nil, ix_nI, nI_leP, nI_ltP, nI_eqP, nI_1, ↓i_inN, i_inN, l_le, l_lt, l_eq, r_le, r_lt, r_eq, sh68_0, sh68_1, sh68_2, sh68_3, sh68_4, ↓w_iload_1, ↓w_is, ↓pm_cl1_1, ↓w_ifne, ↓w_iconst, ↓w_ret, ↓w_aload_0, ↓w_gf3, ↓w_iaload, ↓w_ifge, ↓w_iv, ↓pm_cl2_2, ↓w_iastore, pm_up_o, s3])
        | (simp only [w_in])
        | (intro _))
    all_goals first | rfl | exact hw | exact relw_found hw | exact relw_asks hw | grind
  · refine eX11_tear (by omega) ?_
    repeat' (first
      | (apply And.intro)
      | (with_reducible refine bX11_tear_0 ?_; simp (disch := first | omega | decide) only [w_nl0, w_nli, w_nlr, ↓w_ts1, ↓w_ts0, w_rcv, w_rfv, w_cs, true_and, and_true, List.length_nil, List.length_cons, Nat.reduceAdd, Nat.reduceLeDiff, Nat.zero_le, Nat.reduceLT, ↓w_nil, ix_nI, nI_leP, nI_ltP, nI_eqP, nI_1, ↓i_inN, i_inN, l_le, l_lt, l_eq, r_le, r_lt, r_eq, sh0, sh1, sh55, sh60, sh9, sh31, sh23, sh37, sh42, sh43, sh19, sh3, sh6, ↓w_aload_0, ↓w_gf3, ↓w_iload_1, ↓w_iv, ↓pm_cl2_2, ↓w_ifne, ↓w_iconst, ↓w_ret, ↓w_ifeq])
      | (with_reducible refine bX11_tear_1 ?_; simp (disch := first | omega | decide) only [w_nl0, w_nli, w_nlr, ↓w_ts1, ↓w_ts0, w_rcv, w_rfv, w_cs, true_and, and_true, List.length_nil, List.length_cons, Nat.reduceAdd, Nat.reduceLeDiff, Nat.zero_le, Nat.reduceLT, ↓w_nil, ix_nI, nI_leP, nI_ltP, nI_eqP, nI_1, ↓i_inN, i_inN, l_le, l_lt, l_eq, r_le, r_lt, r_eq, sh0, sh1, sh55, sh60, sh9, sh31, sh23, sh37, sh42, sh43, sh19, sh3, sh6, ↓w_aload_0, ↓w_gf3, ↓w_iload_1, ↓w_iv, ↓pm_cl2_2, ↓w_ifne, ↓w_iconst, ↓w_ret, ↓w_ifeq])
      | (with_reducible refine bX11_tear_2 ?_; simp (disch := first | omega | decide) only [w_nl0, w_nli, w_nlr, ↓w_ts1, ↓w_ts0, w_rcv, w_rfv, w_cs, true_and, and_true, List.length_nil, List.length_cons, Nat.reduceAdd, Nat.reduceLeDiff, Nat.zero_le, Nat.reduceLT, ↓w_nil, ix_nI, nI_leP, nI_ltP, nI_eqP, nI_1, ↓i_inN, i_inN, l_le, l_lt, l_eq, r_le, r_lt, r_eq, sh0, sh1, sh55, sh60, sh9, sh31, sh23, sh37, sh42, sh43, sh19, sh3, sh6, ↓w_aload_0, ↓w_gf3, ↓w_iload_1, ↓w_iv, ↓pm_cl2_2, ↓w_ifne, ↓w_iconst, ↓w_ret, ↓w_ifeq])
      | (with_reducible refine c_hasR (by omega) ?_; simp (disch := first | omega | decide) only [w_nl0, w_nli, w_nlr, ↓w_ts1, ↓w_ts0, w_rcv, w_rfv, w_cs, true_and, and_true, List.length_nil, List.length_cons, Nat.reduceAdd, Nat.reduceLeDiff, Nat.zero_le, Nat.reduceLT, ↓w_nil, ix_nI, nI_leP, nI_ltP, nI_eqP, nI_1, ↓i_inN, i_inN, l_le, l_lt, l_eq, r_le, r_lt, r_eq, sh0, sh1, sh55, sh60, sh9, sh31, sh23, sh37, sh42, sh43, sh19, sh3, sh6, ↓w_aload_0, ↓w_gf3, ↓w_iload_1, ↓w_iv, ↓pm_cl2_2, ↓w_ifne, ↓w_iconst, ↓w_ret, ↓w_ifeq])
      | (simp only [w_in])
      | (intro _))
    all_goals try rfl
    all_goals try grind
    all_goals try refine MC.of (eX12_tear (by omega) ?_)
    all_goals
      repeat' (first
        | (apply And.intro)
        | (with_reducible refine bX12_tear_0 ?_; simp (disch := first | omega | decide) only [w_nl0, w_nli, w_nlr, ↓w_ts1, ↓w_ts0, w_rcv, w_rfv, w_cs, true_and, and_true, List.length_nil, List.length_cons, Nat.reduceAdd, Nat.reduceLeDiff, Nat.zero_le, Nat.reduceLT, ↓w_nil, ix_nI, nI_leP, nI_ltP, nI_eqP, nI_1, ↓i_inN, i_inN, l_le, l_lt, l_eq, r_le, r_lt, r_eq, sh68_0, sh68_1, sh68_2, sh68_3, sh68_4, ↓w_iload_1, ↓w_is, ↓pm_cl1_1, ↓w_ifne, ↓w_iconst, ↓w_ret, ↓w_aload_0, ↓w_gf3, ↓w_iaload, ↓w_ifge, ↓w_iv, ↓pm_cl2_2, ↓w_iastore])
        | (with_reducible refine bX12_tear_1 ?_; simp (disch := first | omega | decide) only [w_nl0, w_nli, w_nlr, ↓w_ts1, ↓w_ts0, w_rcv, w_rfv, w_cs, true_and, and_true, List.length_nil, List.length_cons, Nat.reduceAdd, Nat.reduceLeDiff, Nat.zero_le, Nat.reduceLT, ↓w_nil, ix_nI, nI_leP, nI_ltP, nI_eqP, nI_1, ↓i_inN, i_inN, l_le, l_lt, l_eq, r_le, r_lt, r_eq, sh68_0, sh68_1, sh68_2, sh68_3, sh68_4, ↓w_iload_1, ↓w_is, ↓pm_cl1_1, ↓w_ifne, ↓w_iconst, ↓w_ret, ↓w_aload_0, ↓w_gf3, ↓w_iaload, ↓w_ifge, ↓w_iv, ↓pm_cl2_2, ↓w_iastore])
        | (with_reducible refine bX12_tear_2 ?_; simp (disch := first | omega | decide) only [w_nl0, w_nli, w_nlr, ↓w_ts1, ↓w_ts0, w_rcv, w_rfv, w_cs, true_and, and_true, List.length_nil, List.length_cons, Nat.reduceAdd, Nat.reduceLeDiff, Nat.zero_le, Nat.reduceLT, ↓w_nil, ix_nI, nI_leP, nI_ltP, nI_eqP, nI_1, ↓i_inN, i_inN, l_le, l_lt, l_eq, r_le, r_lt, r_eq, sh68_0, sh68_1, sh68_2, sh68_3, sh68_4, ↓w_iload_1, ↓w_is, ↓pm_cl1_1, ↓w_ifne, ↓w_iconst, ↓w_ret, ↓w_aload_0, ↓w_gf3, ↓w_iaload, ↓w_ifge, ↓w_iv, ↓pm_cl2_2, ↓w_iastore])
        | (with_reducible refine m_isRow (by omega) ?_; simp (disch := first | omega | decide) only [w_nl0, w_nli, w_nlr, ↓w_ts1, ↓w_ts0, w_rcv, w_rfv, w_cs, true_and, and_true, List.length_nil, List.length_cons, Nat.reduceAdd, Nat.reduceLeDiff, Nat.zero_le, Nat.reduceLT, ↓w_nil, ix_nI, nI_leP, nI_ltP, nI_eqP, nI_1, ↓i_inN, i_inN, l_le, l_lt, l_eq, r_le, r_lt, r_eq, sh68_0, sh68_1, sh68_2, sh68_3, sh68_4, ↓w_iload_1, ↓w_is, ↓pm_cl1_1, ↓w_ifne, ↓w_iconst, ↓w_ret, ↓w_aload_0, ↓w_gf3, ↓w_iaload, ↓w_ifge, ↓w_iv, ↓pm_cl2_2, ↓w_iastore])
        | (simp only [w_in])
        | (intro _))
    all_goals first | rfl | exact hw | exact relw_found hw | exact relw_asks hw | grind
theorem rel_newT {I : pm_MI} {J : pm_ML} {r n : Nat} (h : Rel I J) (hr : r < 4) (hn : n ≤ 48) : RelW (itr (fun k (M : pm_MI) => pm_up M 74 (48 * r + k) 32) (pm_up (itr (fun k (M : pm_MI) => pm_up M 8 (48 * r + k) 32) (pm_up I 7 r (nI n)) n) 73 r (nI n)) 48) J := by
  have hs := h.2.2.2.1
  have hs2 := r_shelf_new hs hr hn (s2 := pm_up I 7 r (nI n) 7) (s2' := pm_up I 73 r (nI n) 73) (c2 := fun j => if 48 * r ≤ j ∧ j < 48 * r + n then 32 else I 8 j) (c2' := fun j => if 48 * r ≤ j ∧ j < 48 * r + 48 then 32 else I 74 j) (fun j => up_at) (fun j => up_at) (fun j => rfl) (fun j => rfl)
  have f1 : (itr (fun k (M : pm_MI) => pm_up M 74 (48 * r + k) 32) (pm_up (itr (fun k (M : pm_MI) => pm_up M 8 (48 * r + k) 32) (pm_up I 7 r (nI n)) n) 73 r (nI n)) 48) 74 = fun j => if 48 * r ≤ j ∧ j < 48 * r + 48 then 32 else I 74 j := by
    funext j
    rw [fill_s (v := fun _ => 32), pm_up_o (by decide), itr_o (by decide), pm_up_o (by decide)]
  have f2 : (itr (fun k (M : pm_MI) => pm_up M 8 (48 * r + k) 32) (pm_up I 7 r (nI n)) n) 8 = fun j => if 48 * r ≤ j ∧ j < 48 * r + n then 32 else I 8 j := by
    funext j
    rw [fill_s (v := fun _ => 32), pm_up_o (by decide)]
  have f3 : pm_up (itr (fun k (M : pm_MI) => pm_up M 8 (48 * r + k) 32) (pm_up I 7 r (nI n)) n) 73 r (nI n) 73 = pm_up I 73 r (nI n) 73 := by
    funext j
    rw [up_at, up_at, itr_o (by decide), pm_up_o (by decide)]
  obtain ⟨a1, a2, a3, a4, a5, a6, a7, a8, a9, a10, a11, a12⟩ := h
  refine ⟨trivial, ?_, ?_, ?_, ?_, ?_, ?_, ?_, ?_, ?_, ?_, ?_, ?_⟩
  all_goals (simp (disch := decide) only [f1, itr_o, pm_up_o, f2, f3]; first | assumption | skip)
theorem m_text {r n : Nat} (hd : 5 ≤ d) (hr : r < 4) (hn : n ≤ 48) (hQ : Q (some (.int (nI n))) SH (itr (fun k (M : pm_MI) => pm_up M 74 (48 * r + k) 32) (pm_up I 73 r (nI n)) 48) J) : pm_C g d 204 [.ref 68, .int (nI r), .int (nI n)] Q SH I J := by
  have e1 : (0 : Int32) ≤ nI r ∧ nI r ≤ 3 := nI_rng (N := 3) (by omega) (by decide)
  have e2 : (0 : Int32) ≤ nI n ∧ nI n ≤ 48 := nI_rng (N := 48) (by omega) (by decide)
  refine eX12_text (by omega) ?_
  repeat' (first
    | (apply And.intro)
    | (with_reducible refine bX12_text_0 ?_; simp (disch := first | omega | decide) only [w_nl0, w_nli, w_nlr, ↓w_ts1, ↓w_ts0, w_rcv, w_rfv, w_cs, true_and, and_true, List.length_nil, List.length_cons, Nat.reduceAdd, Nat.reduceLeDiff, Nat.zero_le, Nat.reduceLT, ↓w_nil, ix_nI, nI_leP, nI_ltP, nI_eqP, nI_1, ↓i_inN, i_inN, l_le, l_lt, l_eq, r_le, r_lt, r_eq, sh68_0, sh68_1, sh68_2, sh68_3, sh68_4, ↓w_iload_1, ↓w_is, ↓pm_cl1_1, ↓w_ifeq, ↓w_iload_2, ↓w_bipush, ↓w_icle, ↓w_iconst, ↓w_ret, ↓w_ifge, ↓w_aload_0, ↓w_iv, ↓pm_cl2_2, ↓w_gf3, ↓w_iastore, ↓w_istore_3, ↓w_iload_3, ↓w_icge, ↓w_imul, ↓w_iadd, ↓w_bastore, ↓w_iinc_3, ↓w_goto])
    | (with_reducible refine bX12_text_1 ?_; simp (disch := first | omega | decide) only [w_nl0, w_nli, w_nlr, ↓w_ts1, ↓w_ts0, w_rcv, w_rfv, w_cs, true_and, and_true, List.length_nil, List.length_cons, Nat.reduceAdd, Nat.reduceLeDiff, Nat.zero_le, Nat.reduceLT, ↓w_nil, ix_nI, nI_leP, nI_ltP, nI_eqP, nI_1, ↓i_inN, i_inN, l_le, l_lt, l_eq, r_le, r_lt, r_eq, sh68_0, sh68_1, sh68_2, sh68_3, sh68_4, ↓w_iload_1, ↓w_is, ↓pm_cl1_1, ↓w_ifeq, ↓w_iload_2, ↓w_bipush, ↓w_icle, ↓w_iconst, ↓w_ret, ↓w_ifge, ↓w_aload_0, ↓w_iv, ↓pm_cl2_2, ↓w_gf3, ↓w_iastore, ↓w_istore_3, ↓w_iload_3, ↓w_icge, ↓w_imul, ↓w_iadd, ↓w_bastore, ↓w_iinc_3, ↓w_goto])
    | (with_reducible refine bX12_text_2 ?_; simp (disch := first | omega | decide) only [w_nl0, w_nli, w_nlr, ↓w_ts1, ↓w_ts0, w_rcv, w_rfv, w_cs, true_and, and_true, List.length_nil, List.length_cons, Nat.reduceAdd, Nat.reduceLeDiff, Nat.zero_le, Nat.reduceLT, ↓w_nil, ix_nI, nI_leP, nI_ltP, nI_eqP, nI_1, ↓i_inN, i_inN, l_le, l_lt, l_eq, r_le, r_lt, r_eq, sh68_0, sh68_1, sh68_2, sh68_3, sh68_4, ↓w_iload_1, ↓w_is, ↓pm_cl1_1, ↓w_ifeq, ↓w_iload_2, ↓w_bipush, ↓w_icle, ↓w_iconst, ↓w_ret, ↓w_ifge, ↓w_aload_0, ↓w_iv, ↓pm_cl2_2, ↓w_gf3, ↓w_iastore, ↓w_istore_3, ↓w_iload_3, ↓w_icge, ↓w_imul, ↓w_iadd, ↓w_bastore, ↓w_iinc_3, ↓w_goto])
    | (with_reducible refine bX12_text_3 ?_; simp (disch := first | omega | decide) only [w_nl0, w_nli, w_nlr, ↓w_ts1, ↓w_ts0, w_rcv, w_rfv, w_cs, true_and, and_true, List.length_nil, List.length_cons, Nat.reduceAdd, Nat.reduceLeDiff, Nat.zero_le, Nat.reduceLT, ↓w_nil, ix_nI, nI_leP, nI_ltP, nI_eqP, nI_1, ↓i_inN, i_inN, l_le, l_lt, l_eq, r_le, r_lt, r_eq, sh68_0, sh68_1, sh68_2, sh68_3, sh68_4, ↓w_iload_1, ↓w_is, ↓pm_cl1_1, ↓w_ifeq, ↓w_iload_2, ↓w_bipush, ↓w_icle, ↓w_iconst, ↓w_ret, ↓w_ifge, ↓w_aload_0, ↓w_iv, ↓pm_cl2_2, ↓w_gf3, ↓w_iastore, ↓w_istore_3, ↓w_iload_3, ↓w_icge, ↓w_imul, ↓w_iadd, ↓w_bastore, ↓w_iinc_3, ↓w_goto])
    | (with_reducible refine m_isText (by omega) ?_; simp (disch := first | omega | decide) only [w_nl0, w_nli, w_nlr, ↓w_ts1, ↓w_ts0, w_rcv, w_rfv, w_cs, true_and, and_true, List.length_nil, List.length_cons, Nat.reduceAdd, Nat.reduceLeDiff, Nat.zero_le, Nat.reduceLT, ↓w_nil, ix_nI, nI_leP, nI_ltP, nI_eqP, nI_1, ↓i_inN, i_inN, l_le, l_lt, l_eq, r_le, r_lt, r_eq, sh68_0, sh68_1, sh68_2, sh68_3, sh68_4, ↓w_iload_1, ↓w_is, ↓pm_cl1_1, ↓w_ifeq, ↓w_iload_2, ↓w_bipush, ↓w_icle, ↓w_iconst, ↓w_ret, ↓w_ifge, ↓w_aload_0, ↓w_iv, ↓pm_cl2_2, ↓w_gf3, ↓w_iastore, ↓w_istore_3, ↓w_iload_3, ↓w_icge, ↓w_imul, ↓w_iadd, ↓w_bastore, ↓w_iinc_3, ↓w_goto])
    | (simp only [w_in])
    | (intro _))
  all_goals try grind
  all_goals
    refine pm_for (f := fun k M => pm_up M 74 (48 * r + k) 32) (U := fun k a => UU g (d - 1) 204 kX12_text (pm_rm d 204) Q 4 [some (.ref 68), some (.int (nI r)), some (.int (nI n)), some (.int (nI k))] [] SH a J (0, 0)) 48 (fun k b hk hb w => ?_) ?_
    · refine bX12_text_4 ?_
      simp (disch := first | omega | decide) only [w_nl0, w_nli, w_nlr, ↓w_ts1, ↓w_ts0, w_rcv, w_rfv, w_cs, true_and, and_true, List.length_nil, List.length_cons, Nat.reduceAdd, Nat.reduceLeDiff, Nat.zero_le, Nat.reduceLT, ↓w_nil, ix_nI, nI_leP, nI_ltP, nI_eqP, nI_1, ↓i_inN, i_inN, l_le, l_lt, l_eq, r_le, r_lt, r_eq, sh68_0, sh68_1, sh68_2, sh68_3, sh68_4, ↓w_iload_3, ↓w_bipush, ↓w_icge, ↓w_aload_0, ↓w_gf3, ↓w_iload_1, ↓w_imul, ↓w_iadd, ↓w_bastore, ↓w_iinc_3, ↓w_goto, nI_48m, nI_add, Nat.reduceEqDiff, false_and, or_false, show (32 : Int32).toInt8.toInt32 = 32 from rfl]
      repeat' (first
        | (apply And.intro)
        | (simp only [w_in])
        | (intro _))
      all_goals grind
    · refine bX12_text_4 ?_
      simp (disch := first | omega | decide) only [w_nl0, w_nli, w_nlr, ↓w_ts1, ↓w_ts0, w_rcv, w_rfv, w_cs, true_and, and_true, List.length_nil, List.length_cons, Nat.reduceAdd, Nat.reduceLeDiff, Nat.zero_le, Nat.reduceLT, ↓w_nil, ix_nI, nI_leP, nI_ltP, nI_eqP, nI_1, ↓i_inN, i_inN, l_le, l_lt, l_eq, r_le, r_lt, r_eq, sh68_0, sh68_1, sh68_2, sh68_3, sh68_4, ↓w_iload_3, ↓w_bipush, ↓w_icge, ↓w_aload_0, ↓w_gf3, ↓w_iload_1, ↓w_imul, ↓w_iadd, ↓w_bastore, ↓w_iinc_3, ↓w_goto]
      repeat' (first
        | (apply And.intro)
        | (with_reducible refine bX12_text_5 ?_; simp (disch := first | omega | decide) only [w_nl0, w_nli, w_nlr, ↓w_ts1, ↓w_ts0, w_rcv, w_rfv, w_cs, true_and, and_true, List.length_nil, List.length_cons, Nat.reduceAdd, Nat.reduceLeDiff, Nat.zero_le, Nat.reduceLT, ↓w_nil, ix_nI, nI_leP, nI_ltP, nI_eqP, nI_1, ↓i_inN, i_inN, l_le, l_lt, l_eq, r_le, r_lt, r_eq, sh68_0, sh68_1, sh68_2, sh68_3, sh68_4, ↓w_iload_1, ↓w_is, ↓pm_cl1_1, ↓w_ifeq, ↓w_iload_2, ↓w_bipush, ↓w_icle, ↓w_iconst, ↓w_ret, ↓w_ifge, ↓w_aload_0, ↓w_iv, ↓pm_cl2_2, ↓w_gf3, ↓w_iastore, ↓w_istore_3, ↓w_iload_3, ↓w_icge, ↓w_imul, ↓w_iadd, ↓w_bastore, ↓w_iinc_3, ↓w_goto])
        | (simp only [w_in])
        | (intro _))
      all_goals grind
theorem p_text {x y : Int32} (hd : 10 ≤ d) : PC g d 127 204 [.int x, .int y] := by
  intro I J h
  have hw := relw h
  have hs := h.2.2.2.1
  obtain ⟨s1, s2, s3, s4⟩ := hs
  have s1 : I 6 0 = 48 := s1
  by_cases hc : (0 ≤ x ∧ x < 4) ∧ 0 ≤ y ∧ y ≤ 48
  · obtain ⟨r, hr, rfl⟩ : ∃ q, q < 4 ∧ x = nI q := i_q (n := 4) (by decide) hc.1.1 hc.1.2
    obtain ⟨n, hn, rfl⟩ : ∃ q, q < 48 + 1 ∧ y = nI q := i_q (n := 48 + 1) (by decide) hc.2.1 (by have : nI (48 + 1) = (48 : Int32) + 1 := rfl; grind)
    have hn := rel_newT h hr (show n ≤ 48 by omega)
    refine eX11_text (by omega) ?_
    repeat' (first
      | (apply And.intro)
      | (with_reducible refine bX11_text_0 ?_; simp (disch := first | omega | decide) only [w_nl0, w_nli, w_nlr, ↓w_ts1, ↓w_ts0, w_rcv, w_rfv, w_cs, true_and, and_true, List.length_nil, List.length_cons, Nat.reduceAdd, Nat.reduceLeDiff, Nat.zero_le, Nat.reduceLT, ↓w_nil, ix_nI, nI_leP, nI_ltP, nI_eqP, nI_1, ↓i_inN, i_inN, l_le, l_lt, l_eq, r_le, r_lt, r_eq, sh0, sh1, sh55, sh60, sh9, sh31, sh23, sh37, sh42, sh43, sh19, sh3, sh6, ↓w_aload_0, ↓w_gf3, ↓w_iload_1, ↓w_iv, ↓pm_cl2_2, ↓w_ifeq, ↓w_iload_2, ↓w_bipush, ↓w_icle, ↓w_iconst, ↓w_ret, ↓w_ifge, ↓pm_cl2_3])
      | (with_reducible refine bX11_text_1 ?_; simp (disch := first | omega | decide) only [w_nl0, w_nli, w_nlr, ↓w_ts1, ↓w_ts0, w_rcv, w_rfv, w_cs, true_and, and_true, List.length_nil, List.length_cons, Nat.reduceAdd, Nat.reduceLeDiff, Nat.zero_le, Nat.reduceLT, ↓w_nil, ix_nI, nI_leP, nI_ltP, nI_eqP, nI_1, ↓i_inN, i_inN, l_le, l_lt, l_eq, r_le, r_lt, r_eq, sh0, sh1, sh55, sh60, sh9, sh31, sh23, sh37, sh42, sh43, sh19, sh3, sh6, ↓w_aload_0, ↓w_gf3, ↓w_iload_1, ↓w_iv, ↓pm_cl2_2, ↓w_ifeq, ↓w_iload_2, ↓w_bipush, ↓w_icle, ↓w_iconst, ↓w_ret, ↓w_ifge, ↓pm_cl2_3])
      | (with_reducible refine bX11_text_2 ?_; simp (disch := first | omega | decide) only [w_nl0, w_nli, w_nlr, ↓w_ts1, ↓w_ts0, w_rcv, w_rfv, w_cs, true_and, and_true, List.length_nil, List.length_cons, Nat.reduceAdd, Nat.reduceLeDiff, Nat.zero_le, Nat.reduceLT, ↓w_nil, ix_nI, nI_leP, nI_ltP, nI_eqP, nI_1, ↓i_inN, i_inN, l_le, l_lt, l_eq, r_le, r_lt, r_eq, sh0, sh1, sh55, sh60, sh9, sh31, sh23, sh37, sh42, sh43, sh19, sh3, sh6, ↓w_aload_0, ↓w_gf3, ↓w_iload_1, ↓w_iv, ↓pm_cl2_2, ↓w_ifeq, ↓w_iload_2, ↓w_bipush, ↓w_icle, ↓w_iconst, ↓w_ret, ↓w_ifge, ↓pm_cl2_3])
      | (with_reducible refine bX11_text_3 ?_; simp (disch := first | omega | decide) only [w_nl0, w_nli, w_nlr, ↓w_ts1, ↓w_ts0, w_rcv, w_rfv, w_cs, true_and, and_true, List.length_nil, List.length_cons, Nat.reduceAdd, Nat.reduceLeDiff, Nat.zero_le, Nat.reduceLT, ↓w_nil, ix_nI, nI_leP, nI_ltP, nI_eqP, nI_1, ↓i_inN, i_inN, l_le, l_lt, l_eq, r_le, r_lt, r_eq, sh0, sh1, sh55, sh60, sh9, sh31, sh23, sh37, sh42, sh43, sh19, sh3, sh6, ↓w_aload_0, ↓w_gf3, ↓w_iload_1, ↓w_iv, ↓pm_cl2_2, ↓w_ifeq, ↓w_iload_2, ↓w_bipush, ↓w_icle, ↓w_iconst, ↓w_ret, ↓w_ifge, ↓pm_cl2_3])
      | (with_reducible refine c_hasT (by omega) ?_; simp (disch := first | omega | decide) only [w_nl0, w_nli, w_nlr, ↓w_ts1, ↓w_ts0, w_rcv, w_rfv, w_cs, true_and, and_true, List.length_nil, List.length_cons, Nat.reduceAdd, Nat.reduceLeDiff, Nat.zero_le, Nat.reduceLT, ↓w_nil, ix_nI, nI_leP, nI_ltP, nI_eqP, nI_1, ↓i_inN, i_inN, l_le, l_lt, l_eq, r_le, r_lt, r_eq, sh0, sh1, sh55, sh60, sh9, sh31, sh23, sh37, sh42, sh43, sh19, sh3, sh6, ↓w_aload_0, ↓w_gf3, ↓w_iload_1, ↓w_iv, ↓pm_cl2_2, ↓w_ifeq, ↓w_iload_2, ↓w_bipush, ↓w_icle, ↓w_iconst, ↓w_ret, ↓w_ifge, ↓pm_cl2_3])
      | (with_reducible refine c_found (by omega) (by decide) (by decide) ?_; simp (disch := first | omega | decide) only [w_nl0, w_nli, w_nlr, ↓w_ts1, ↓w_ts0, w_rcv, w_rfv, w_cs, true_and, and_true, List.length_nil, List.length_cons, Nat.reduceAdd, Nat.reduceLeDiff, Nat.zero_le, Nat.reduceLT, ↓w_nil, ix_nI, nI_leP, nI_ltP, nI_eqP, nI_1, ↓i_inN, i_inN, l_le, l_lt, l_eq, r_le, r_lt, r_eq, sh0, sh1, sh55, sh60, sh9, sh31, sh23, sh37, sh42, sh43, sh19, sh3, sh6, ↓w_aload_0, ↓w_gf3, ↓w_iload_1, ↓w_iv, ↓pm_cl2_2, ↓w_ifeq, ↓w_iload_2, ↓w_bipush, ↓w_icle, ↓w_iconst, ↓w_ret, ↓w_ifge, ↓pm_cl2_3])
      | (with_reducible refine c_bringT (by omega) s1 s2 hr (by omega) ?_; simp (disch := first | omega | decide) only [w_nl0, w_nli, w_nlr, ↓w_ts1, ↓w_ts0, w_rcv, w_rfv, w_cs, true_and, and_true, List.length_nil, List.length_cons, Nat.reduceAdd, Nat.reduceLeDiff, Nat.zero_le, Nat.reduceLT, ↓w_nil, ix_nI, nI_leP, nI_ltP, nI_eqP, nI_1, ↓i_inN, i_inN, l_le, l_lt, l_eq, r_le, r_lt, r_eq, sh0, sh1, sh55, sh60, sh9, sh31, sh23, sh37, sh42, sh43, sh19, sh3, sh6, ↓w_aload_0, ↓w_gf3, ↓w_iload_1, ↓w_iv, ↓pm_cl2_2, ↓w_ifeq, ↓w_iload_2, ↓w_bipush, ↓w_icle, ↓w_iconst, ↓w_ret, ↓w_ifge, ↓pm_cl2_3])
      | (simp only [w_in])
      | (intro _))
    all_goals try rfl
    all_goals try grind
    all_goals
      refine MC.of ?_
      refine m_text (by omega) hr (by omega) ?_
      exact ⟨rfl, rfl, hn⟩
  · refine eX11_text (by omega) ?_
    repeat' (first
      | (apply And.intro)
      | (with_reducible refine bX11_text_0 ?_; simp (disch := first | omega | decide) only [w_nl0, w_nli, w_nlr, ↓w_ts1, ↓w_ts0, w_rcv, w_rfv, w_cs, true_and, and_true, List.length_nil, List.length_cons, Nat.reduceAdd, Nat.reduceLeDiff, Nat.zero_le, Nat.reduceLT, ↓w_nil, ix_nI, nI_leP, nI_ltP, nI_eqP, nI_1, ↓i_inN, i_inN, l_le, l_lt, l_eq, r_le, r_lt, r_eq, sh0, sh1, sh55, sh60, sh9, sh31, sh23, sh37, sh42, sh43, sh19, sh3, sh6, ↓w_aload_0, ↓w_gf3, ↓w_iload_1, ↓w_iv, ↓pm_cl2_2, ↓w_ifeq, ↓w_iload_2, ↓w_bipush, ↓w_icle, ↓w_iconst, ↓w_ret, ↓w_ifge, ↓pm_cl2_3])
      | (with_reducible refine bX11_text_1 ?_; simp (disch := first | omega | decide) only [w_nl0, w_nli, w_nlr, ↓w_ts1, ↓w_ts0, w_rcv, w_rfv, w_cs, true_and, and_true, List.length_nil, List.length_cons, Nat.reduceAdd, Nat.reduceLeDiff, Nat.zero_le, Nat.reduceLT, ↓w_nil, ix_nI, nI_leP, nI_ltP, nI_eqP, nI_1, ↓i_inN, i_inN, l_le, l_lt, l_eq, r_le, r_lt, r_eq, sh0, sh1, sh55, sh60, sh9, sh31, sh23, sh37, sh42, sh43, sh19, sh3, sh6, ↓w_aload_0, ↓w_gf3, ↓w_iload_1, ↓w_iv, ↓pm_cl2_2, ↓w_ifeq, ↓w_iload_2, ↓w_bipush, ↓w_icle, ↓w_iconst, ↓w_ret, ↓w_ifge, ↓pm_cl2_3])
      | (with_reducible refine bX11_text_2 ?_; simp (disch := first | omega | decide) only [w_nl0, w_nli, w_nlr, ↓w_ts1, ↓w_ts0, w_rcv, w_rfv, w_cs, true_and, and_true, List.length_nil, List.length_cons, Nat.reduceAdd, Nat.reduceLeDiff, Nat.zero_le, Nat.reduceLT, ↓w_nil, ix_nI, nI_leP, nI_ltP, nI_eqP, nI_1, ↓i_inN, i_inN, l_le, l_lt, l_eq, r_le, r_lt, r_eq, sh0, sh1, sh55, sh60, sh9, sh31, sh23, sh37, sh42, sh43, sh19, sh3, sh6, ↓w_aload_0, ↓w_gf3, ↓w_iload_1, ↓w_iv, ↓pm_cl2_2, ↓w_ifeq, ↓w_iload_2, ↓w_bipush, ↓w_icle, ↓w_iconst, ↓w_ret, ↓w_ifge, ↓pm_cl2_3])
      | (with_reducible refine bX11_text_3 ?_; simp (disch := first | omega | decide) only [w_nl0, w_nli, w_nlr, ↓w_ts1, ↓w_ts0, w_rcv, w_rfv, w_cs, true_and, and_true, List.length_nil, List.length_cons, Nat.reduceAdd, Nat.reduceLeDiff, Nat.zero_le, Nat.reduceLT, ↓w_nil, ix_nI, nI_leP, nI_ltP, nI_eqP, nI_1, ↓i_inN, i_inN, l_le, l_lt, l_eq, r_le, r_lt, r_eq, sh0, sh1, sh55, sh60, sh9, sh31, sh23, sh37, sh42, sh43, sh19, sh3, sh6, ↓w_aload_0, ↓w_gf3, ↓w_iload_1, ↓w_iv, ↓pm_cl2_2, ↓w_ifeq, ↓w_iload_2, ↓w_bipush, ↓w_icle, ↓w_iconst, ↓w_ret, ↓w_ifge, ↓pm_cl2_3])
      | (with_reducible refine c_hasT (by omega) ?_; simp (disch := first | omega | decide) only [w_nl0, w_nli, w_nlr, ↓w_ts1, ↓w_ts0, w_rcv, w_rfv, w_cs, true_and, and_true, List.length_nil, List.length_cons, Nat.reduceAdd, Nat.reduceLeDiff, Nat.zero_le, Nat.reduceLT, ↓w_nil, ix_nI, nI_leP, nI_ltP, nI_eqP, nI_1, ↓i_inN, i_inN, l_le, l_lt, l_eq, r_le, r_lt, r_eq, sh0, sh1, sh55, sh60, sh9, sh31, sh23, sh37, sh42, sh43, sh19, sh3, sh6, ↓w_aload_0, ↓w_gf3, ↓w_iload_1, ↓w_iv, ↓pm_cl2_2, ↓w_ifeq, ↓w_iload_2, ↓w_bipush, ↓w_icle, ↓w_iconst, ↓w_ret, ↓w_ifge, ↓pm_cl2_3])
      | (with_reducible refine c_found (by omega) (by decide) (by decide) ?_; simp (disch := first | omega | decide) only [w_nl0, w_nli, w_nlr, ↓w_ts1, ↓w_ts0, w_rcv, w_rfv, w_cs, true_and, and_true, List.length_nil, List.length_cons, Nat.reduceAdd, Nat.reduceLeDiff, Nat.zero_le, Nat.reduceLT, ↓w_nil, ix_nI, nI_leP, nI_ltP, nI_eqP, nI_1, ↓i_inN, i_inN, l_le, l_lt, l_eq, r_le, r_lt, r_eq, sh0, sh1, sh55, sh60, sh9, sh31, sh23, sh37, sh42, sh43, sh19, sh3, sh6, ↓w_aload_0, ↓w_gf3, ↓w_iload_1, ↓w_iv, ↓pm_cl2_2, ↓w_ifeq, ↓w_iload_2, ↓w_bipush, ↓w_icle, ↓w_iconst, ↓w_ret, ↓w_ifge, ↓pm_cl2_3])
      | (simp only [w_in])
      | (intro _))
    all_goals try rfl
    all_goals try grind
    all_goals try refine MC.of (eX12_text (by omega) ?_)
    all_goals
      repeat' (first
        | (apply And.intro)
        | (with_reducible refine bX12_text_0 ?_; simp (disch := first | omega | decide) only [w_nl0, w_nli, w_nlr, ↓w_ts1, ↓w_ts0, w_rcv, w_rfv, w_cs, true_and, and_true, List.length_nil, List.length_cons, Nat.reduceAdd, Nat.reduceLeDiff, Nat.zero_le, Nat.reduceLT, ↓w_nil, ix_nI, nI_leP, nI_ltP, nI_eqP, nI_1, ↓i_inN, i_inN, l_le, l_lt, l_eq, r_le, r_lt, r_eq, sh68_0, sh68_1, sh68_2, sh68_3, sh68_4, ↓w_iload_1, ↓w_is, ↓pm_cl1_1, ↓w_ifeq, ↓w_iload_2, ↓w_bipush, ↓w_icle, ↓w_iconst, ↓w_ret, ↓w_ifge, ↓w_aload_0, ↓w_iv, ↓pm_cl2_2, ↓w_gf3, ↓w_iastore, ↓w_istore_3, ↓w_iload_3, ↓w_icge, ↓w_imul, ↓w_iadd, ↓w_bastore, ↓w_iinc_3, ↓w_goto, pm_up_o])
        | (with_reducible refine bX12_text_1 ?_; simp (disch := first | omega | decide) only [w_nl0, w_nli, w_nlr, ↓w_ts1, ↓w_ts0, w_rcv, w_rfv, w_cs, true_and, and_true, List.length_nil, List.length_cons, Nat.reduceAdd, Nat.reduceLeDiff, Nat.zero_le, Nat.reduceLT, ↓w_nil, ix_nI, nI_leP, nI_ltP, nI_eqP, nI_1, ↓i_inN, i_inN, l_le, l_lt, l_eq, r_le, r_lt, r_eq, sh68_0, sh68_1, sh68_2, sh68_3, sh68_4, ↓w_iload_1, ↓w_is, ↓pm_cl1_1, ↓w_ifeq, ↓w_iload_2, ↓w_bipush, ↓w_icle, ↓w_iconst, ↓w_ret, ↓w_ifge, ↓w_aload_0, ↓w_iv, ↓pm_cl2_2, ↓w_gf3, ↓w_iastore, ↓w_istore_3, ↓w_iload_3, ↓w_icge, ↓w_imul, ↓w_iadd, ↓w_bastore, ↓w_iinc_3, ↓w_goto, pm_up_o])
        | (with_reducible refine bX12_text_2 ?_; simp (disch := first | omega | decide) only [w_nl0, w_nli, w_nlr, ↓w_ts1, ↓w_ts0, w_rcv, w_rfv, w_cs, true_and, and_true, List.length_nil, List.length_cons, Nat.reduceAdd, Nat.reduceLeDiff, Nat.zero_le, Nat.reduceLT, ↓w_nil, ix_nI, nI_leP, nI_ltP, nI_eqP, nI_1, ↓i_inN, i_inN, l_le, l_lt, l_eq, r_le, r_lt, r_eq, sh68_0, sh68_1, sh68_2, sh68_3, sh68_4, ↓w_iload_1, ↓w_is, ↓pm_cl1_1, ↓w_ifeq, ↓w_iload_2, ↓w_bipush, ↓w_icle, ↓w_iconst, ↓w_ret, ↓w_ifge, ↓w_aload_0, ↓w_iv, ↓pm_cl2_2, ↓w_gf3, ↓w_iastore, ↓w_istore_3, ↓w_iload_3, ↓w_icge, ↓w_imul, ↓w_iadd, ↓w_bastore, ↓w_iinc_3, ↓w_goto, pm_up_o])
        | (with_reducible refine bX12_text_3 ?_; simp (disch := first | omega | decide) only [w_nl0, w_nli, w_nlr, ↓w_ts1, ↓w_ts0, w_rcv, w_rfv, w_cs, true_and, and_true, List.length_nil, List.length_cons, Nat.reduceAdd, Nat.reduceLeDiff, Nat.zero_le, Nat.reduceLT, ↓w_nil, ix_nI, nI_leP, nI_ltP, nI_eqP, nI_1, ↓i_inN, i_inN, l_le, l_lt, l_eq, r_le, r_lt, r_eq, sh68_0, sh68_1, sh68_2, sh68_3, sh68_4, ↓w_iload_1, ↓w_is, ↓pm_cl1_1, ↓w_ifeq, ↓w_iload_2, ↓w_bipush, ↓w_icle, ↓w_iconst, ↓w_ret, ↓w_ifge, ↓w_aload_0, ↓w_iv, ↓pm_cl2_2, ↓w_gf3, ↓w_iastore, ↓w_istore_3, ↓w_iload_3, ↓w_icge, ↓w_imul, ↓w_iadd, ↓w_bastore, ↓w_iinc_3, ↓w_goto, pm_up_o])
        | (with_reducible refine m_isText (by omega) ?_; simp (disch := first | omega | decide) only [w_nl0, w_nli, w_nlr, ↓w_ts1, ↓w_ts0, w_rcv, w_rfv, w_cs, true_and, and_true, List.length_nil, List.length_cons, Nat.reduceAdd, Nat.reduceLeDiff, Nat.zero_le, Nat.reduceLT, ↓w_nil, ix_nI, nI_leP, nI_ltP, nI_eqP, nI_1, ↓i_inN, i_inN, l_le, l_lt, l_eq, r_le, r_lt, r_eq, sh68_0, sh68_1, sh68_2, sh68_3, sh68_4, ↓w_iload_1, ↓w_is, ↓pm_cl1_1, ↓w_ifeq, ↓w_iload_2, ↓w_bipush, ↓w_icle, ↓w_iconst, ↓w_ret, ↓w_ifge, ↓w_aload_0, ↓w_iv, ↓pm_cl2_2, ↓w_gf3, ↓w_iastore, ↓w_istore_3, ↓w_iload_3, ↓w_icge, ↓w_imul, ↓w_iadd, ↓w_bastore, ↓w_iinc_3, ↓w_goto, pm_up_o])
        | (with_reducible refine m_meets (by omega) (by decide) (by decide) ?_; simp (disch := first | omega | decide) only [w_nl0, w_nli, w_nlr, ↓w_ts1, ↓w_ts0, w_rcv, w_rfv, w_cs, true_and, and_true, List.length_nil, List.length_cons, Nat.reduceAdd, Nat.reduceLeDiff, Nat.zero_le, Nat.reduceLT, ↓w_nil, ix_nI, nI_leP, nI_ltP, nI_eqP, nI_1, ↓i_inN, i_inN, l_le, l_lt, l_eq, r_le, r_lt, r_eq, sh68_0, sh68_1, sh68_2, sh68_3, sh68_4, ↓w_iload_1, ↓w_is, ↓pm_cl1_1, ↓w_ifeq, ↓w_iload_2, ↓w_bipush, ↓w_icle, ↓w_iconst, ↓w_ret, ↓w_ifge, ↓w_aload_0, ↓w_iv, ↓pm_cl2_2, ↓w_gf3, ↓w_iastore, ↓w_istore_3, ↓w_iload_3, ↓w_icge, ↓w_imul, ↓w_iadd, ↓w_bastore, ↓w_iinc_3, ↓w_goto, pm_up_o])
        | (simp only [w_in])
        | (intro _))
    all_goals first | rfl | exact hw | exact relw_found hw | exact relw_asks hw | grind
theorem p_burn {x : Int32} (hd : 10 ≤ d) : PC g d 129 206 [.int x] := by
  intro I J h
  have hw := relw h
  have hs := h.2.2.2.1
  obtain ⟨s1, s2, s3, s4⟩ := hs
  have s1 : I 6 0 = 48 := s1
  by_cases hc : 0 ≤ x ∧ x < 4
  · obtain ⟨r, hr, rfl⟩ : ∃ q, q < 4 ∧ x = nI q := i_q (n := 4) (by decide) hc.1 hc.2
    have hn : RelW (pm_up (pm_up I 7 r (-1)) 73 r (-1)) J := by
      have hs2 := r_shelf_drop h.2.2.2.1 (r := r) (s2 := pm_up I 7 r (-1) 7) (s2' := pm_up I 73 r (-1) 73) (fun j => up_at) (fun j => up_at)
      have f3 : pm_up (pm_up I 7 r (-1)) 73 r (-1) 73 = pm_up I 73 r (-1) 73 := by
        funext j
        rw [up_at, up_at, pm_up_o (by decide)]
      obtain ⟨a1, a2, a3, a4, a5, a6, a7, a8, a9, a10, a11, a12⟩ := h
      refine ⟨trivial, ?_, ?_, ?_, ?_, ?_, ?_, ?_, ?_, ?_, ?_, ?_, ?_⟩
      all_goals (simp (disch := decide) only [f3, pm_up_o]; first | assumption | skip)
    refine eX11_burn (by omega) ?_
    repeat' (first
      | (apply And.intro)
      | (with_reducible refine bX11_burn_0 ?_; simp (disch := first | omega | decide) only [w_nl0, w_nli, w_nlr, ↓w_ts1, ↓w_ts0, w_rcv, w_rfv, w_cs, true_and, and_true, List.length_nil, List.length_cons, Nat.reduceAdd, Nat.reduceLeDiff, Nat.zero_le, Nat.reduceLT, ↓w_nil, ix_nI, nI_leP, nI_ltP, nI_eqP, nI_1, ↓i_inN, i_inN, l_le, l_lt, l_eq, r_le, r_lt, r_eq, sh0, sh1, sh55, sh60, sh9, sh31, sh23, sh37, sh42, sh43, sh19, sh3, sh6, ↓w_aload_0, ↓w_gf3, ↓w_iload_1, ↓w_iv, ↓pm_cl2_2, ↓w_ifne, ↓w_iconst, ↓w_ret, ↓w_ifeq, pm_up_o])
      | (with_reducible refine bX11_burn_1 ?_; simp (disch := first | omega | decide) only [w_nl0, w_nli, w_nlr, ↓w_ts1, ↓w_ts0, w_rcv, w_rfv, w_cs, true_and, and_true, List.length_nil, List.length_cons, Nat.reduceAdd, Nat.reduceLeDiff, Nat.zero_le, Nat.reduceLT, ↓w_nil, ix_nI, nI_leP, nI_ltP, nI_eqP, nI_1, ↓i_inN, i_inN, l_le, l_lt, l_eq, r_le, r_lt, r_eq, sh0, sh1, sh55, sh60, sh9, sh31, sh23, sh37, sh42, sh43, sh19, sh3, sh6, ↓w_aload_0, ↓w_gf3, ↓w_iload_1, ↓w_iv, ↓pm_cl2_2, ↓w_ifne, ↓w_iconst, ↓w_ret, ↓w_ifeq, pm_up_o])
      | (with_reducible refine bX11_burn_2 ?_; simp (disch := first | omega | decide) only [w_nl0, w_nli, w_nlr, ↓w_ts1, ↓w_ts0, w_rcv, w_rfv, w_cs, true_and, and_true, List.length_nil, List.length_cons, Nat.reduceAdd, Nat.reduceLeDiff, Nat.zero_le, Nat.reduceLT, ↓w_nil, ix_nI, nI_leP, nI_ltP, nI_eqP, nI_1, ↓i_inN, i_inN, l_le, l_lt, l_eq, r_le, r_lt, r_eq, sh0, sh1, sh55, sh60, sh9, sh31, sh23, sh37, sh42, sh43, sh19, sh3, sh6, ↓w_aload_0, ↓w_gf3, ↓w_iload_1, ↓w_iv, ↓pm_cl2_2, ↓w_ifne, ↓w_iconst, ↓w_ret, ↓w_ifeq, pm_up_o])
      | (with_reducible refine c_hasT (by omega) ?_; simp (disch := first | omega | decide) only [w_nl0, w_nli, w_nlr, ↓w_ts1, ↓w_ts0, w_rcv, w_rfv, w_cs, true_and, and_true, List.length_nil, List.length_cons, Nat.reduceAdd, Nat.reduceLeDiff, Nat.zero_le, Nat.reduceLT, ↓w_nil, ix_nI, nI_leP, nI_ltP, nI_eqP, nI_1, ↓i_inN, i_inN, l_le, l_lt, l_eq, r_le, r_lt, r_eq, sh0, sh1, sh55, sh60, sh9, sh31, sh23, sh37, sh42, sh43, sh19, sh3, sh6, ↓w_aload_0, ↓w_gf3, ↓w_iload_1, ↓w_iv, ↓pm_cl2_2, ↓w_ifne, ↓w_iconst, ↓w_ret, ↓w_ifeq, pm_up_o])
      | (with_reducible refine c_missingT (by omega) ?_; simp (disch := first | omega | decide) only [w_nl0, w_nli, w_nlr, ↓w_ts1, ↓w_ts0, w_rcv, w_rfv, w_cs, true_and, and_true, List.length_nil, List.length_cons, Nat.reduceAdd, Nat.reduceLeDiff, Nat.zero_le, Nat.reduceLT, ↓w_nil, ix_nI, nI_leP, nI_ltP, nI_eqP, nI_1, ↓i_inN, i_inN, l_le, l_lt, l_eq, r_le, r_lt, r_eq, sh0, sh1, sh55, sh60, sh9, sh31, sh23, sh37, sh42, sh43, sh19, sh3, sh6, ↓w_aload_0, ↓w_gf3, ↓w_iload_1, ↓w_iv, ↓pm_cl2_2, ↓w_ifne, ↓w_iconst, ↓w_ret, ↓w_ifeq, pm_up_o])
      | (with_reducible refine c_found (by omega) (by decide) (by decide) ?_; simp (disch := first | omega | decide) only [w_nl0, w_nli, w_nlr, ↓w_ts1, ↓w_ts0, w_rcv, w_rfv, w_cs, true_and, and_true, List.length_nil, List.length_cons, Nat.reduceAdd, Nat.reduceLeDiff, Nat.zero_le, Nat.reduceLT, ↓w_nil, ix_nI, nI_leP, nI_ltP, nI_eqP, nI_1, ↓i_inN, i_inN, l_le, l_lt, l_eq, r_le, r_lt, r_eq, sh0, sh1, sh55, sh60, sh9, sh31, sh23, sh37, sh42, sh43, sh19, sh3, sh6, ↓w_aload_0, ↓w_gf3, ↓w_iload_1, ↓w_iv, ↓pm_cl2_2, ↓w_ifne, ↓w_iconst, ↓w_ret, ↓w_ifeq, pm_up_o])
      | (with_reducible refine c_dropT (by omega) hr ?_; simp (disch := first | omega | decide) only [w_nl0, w_nli, w_nlr, ↓w_ts1, ↓w_ts0, w_rcv, w_rfv, w_cs, true_and, and_true, List.length_nil, List.length_cons, Nat.reduceAdd, Nat.reduceLeDiff, Nat.zero_le, Nat.reduceLT, ↓w_nil, ix_nI, nI_leP, nI_ltP, nI_eqP, nI_1, ↓i_inN, i_inN, l_le, l_lt, l_eq, r_le, r_lt, r_eq, sh0, sh1, sh55, sh60, sh9, sh31, sh23, sh37, sh42, sh43, sh19, sh3, sh6, ↓w_aload_0, ↓w_gf3, ↓w_iload_1, ↓w_iv, ↓pm_cl2_2, ↓w_ifne, ↓w_iconst, ↓w_ret, ↓w_ifeq, pm_up_o])
      | (simp only [w_in])
      | (intro _))
    all_goals try rfl
    all_goals try grind
    all_goals try refine MC.of (eX12_burn (by omega) ?_)
    all_goals
      repeat' (first
        | (apply And.intro)
        | (with_reducible refine bX12_burn_0 ?_; simp (disch := first | omega | decide) only [w_nl0, w_nli, w_nlr, ↓w_ts1, ↓w_ts0, w_rcv, w_rfv, w_cs, true_and, and_true, List.length_nil, List.length_cons, Nat.reduceAdd, Nat.reduceLeDiff, Nat.zero_le, Nat.reduceLT, ↓w_nil, ix_nI, nI_leP, nI_ltP, nI_eqP, nI_1, ↓i_inN, i_inN, l_le, l_lt, l_eq, r_le, r_lt, r_eq, sh68_0, sh68_1, sh68_2, sh68_3, sh68_4, ↓w_iload_1, ↓w_is, ↓pm_cl1_1, ↓w_ifne, ↓w_iconst, ↓w_ret, ↓w_aload_0, ↓w_gf3, ↓w_iaload, ↓w_ifge, ↓w_iv, ↓pm_cl2_2, ↓w_iastore, pm_up_o, s3])
        | (with_reducible refine bX12_burn_1 ?_; simp (disch := first | omega | decide) only [w_nl0, w_nli, w_nlr, ↓w_ts1, ↓w_ts0, w_rcv, w_rfv, w_cs, true_and, and_true, List.length_nil, List.length_cons, Nat.reduceAdd, Nat.reduceLeDiff, Nat.zero_le, Nat.reduceLT, ↓w_nil, ix_nI, nI_leP, nI_ltP, nI_eqP, nI_1, ↓i_inN, i_inN, l_le, l_lt, l_eq, r_le, r_lt, r_eq, sh68_0, sh68_1, sh68_2, sh68_3, sh68_4, ↓w_iload_1, ↓w_is, ↓pm_cl1_1, ↓w_ifne, ↓w_iconst, ↓w_ret, ↓w_aload_0, ↓w_gf3, ↓w_iaload, ↓w_ifge, ↓w_iv, ↓pm_cl2_2, ↓w_iastore, pm_up_o, s3])
        | (with_reducible refine bX12_burn_2 ?_; simp (disch := first | omega | decide) only [w_nl0, w_nli, w_nlr, ↓w_ts1, ↓w_ts0, w_rcv, w_rfv, w_cs, true_and, and_true, List.length_nil, List.length_cons, Nat.reduceAdd, Nat.reduceLeDiff, Nat.zero_le, Nat.reduceLT, ↓w_nil, ix_nI, nI_leP, nI_ltP, nI_eqP, nI_1, ↓i_inN, i_inN, l_le, l_lt, l_eq, r_le, r_lt, r_eq, sh68_0, sh68_1, sh68_2, sh68_3, sh68_4, ↓w_iload_1, ↓w_is, ↓pm_cl1_1, ↓w_ifne, ↓w_iconst, ↓w_ret, ↓w_aload_0, ↓w_gf3, ↓w_iaload, ↓w_ifge, ↓w_iv, ↓pm_cl2_2, ↓w_iastore, pm_up_o, s3])
        | (with_reducible refine m_isText (by omega) ?_; simp (disch := first | omega | decide) only [w_nl0, w_nli, w_nlr, ↓w_ts1, ↓w_ts0, w_rcv, w_rfv, w_cs, true_and, and_true, List.length_nil, List.length_cons, Nat.reduceAdd, Nat.reduceLeDiff, Nat.zero_le, Nat.reduceLT, ↓w_nil, ix_nI, nI_leP, nI_ltP, nI_eqP, nI_1, ↓i_inN, i_inN, l_le, l_lt, l_eq, r_le, r_lt, r_eq, sh68_0, sh68_1, sh68_2, sh68_3, sh68_4, ↓w_iload_1, ↓w_is, ↓pm_cl1_1, ↓w_ifne, ↓w_iconst, ↓w_ret, ↓w_aload_0, ↓w_gf3, ↓w_iaload, ↓w_ifge, ↓w_iv, ↓pm_cl2_2, ↓w_iastore, pm_up_o, s3])
        | (with_reducible refine m_meets (by omega) (by decide) (by decide) ?_; simp (disch := first | omega | decide) only [w_nl0, w_nli, w_nlr, ↓w_ts1, ↓w_ts0, w_rcv, w_rfv, w_cs, true_and, and_true, List.length_nil, List.length_cons, Nat.reduceAdd, Nat.reduceLeDiff, Nat.zero_le, Nat.reduceLT, ↓w_nil, ix_nI, nI_leP, nI_ltP, nI_eqP, nI_1, ↓i_inN, i_inN, l_le, l_lt, l_eq, r_le, r_lt, r_eq, sh68_0, sh68_1, sh68_2, sh68_3, sh68_4, ↓w_iload_1, ↓w_is, ↓pm_cl1_1, ↓w_ifne, ↓w_iconst, ↓w_ret, ↓w_aload_0, ↓w_gf3, ↓w_iaload, ↓w_ifge, ↓w_iv, ↓pm_cl2_2, ↓w_iastore, pm_up_o, s3])
        | (simp only [w_in])
        | (intro _))
    all_goals first | rfl | exact hw | exact relw_found hw | exact relw_asks hw | grind
  · refine eX11_burn (by omega) ?_
    repeat' (first
      | (apply And.intro)
      | (with_reducible refine bX11_burn_0 ?_; simp (disch := first | omega | decide) only [w_nl0, w_nli, w_nlr, ↓w_ts1, ↓w_ts0, w_rcv, w_rfv, w_cs, true_and, and_true, List.length_nil, List.length_cons, Nat.reduceAdd, Nat.reduceLeDiff, Nat.zero_le, Nat.reduceLT, ↓w_nil, ix_nI, nI_leP, nI_ltP, nI_eqP, nI_1, ↓i_inN, i_inN, l_le, l_lt, l_eq, r_le, r_lt, r_eq, sh0, sh1, sh55, sh60, sh9, sh31, sh23, sh37, sh42, sh43, sh19, sh3, sh6, ↓w_aload_0, ↓w_gf3, ↓w_iload_1, ↓w_iv, ↓pm_cl2_2, ↓w_ifne, ↓w_iconst, ↓w_ret, ↓w_ifeq])
      | (with_reducible refine bX11_burn_1 ?_; simp (disch := first | omega | decide) only [w_nl0, w_nli, w_nlr, ↓w_ts1, ↓w_ts0, w_rcv, w_rfv, w_cs, true_and, and_true, List.length_nil, List.length_cons, Nat.reduceAdd, Nat.reduceLeDiff, Nat.zero_le, Nat.reduceLT, ↓w_nil, ix_nI, nI_leP, nI_ltP, nI_eqP, nI_1, ↓i_inN, i_inN, l_le, l_lt, l_eq, r_le, r_lt, r_eq, sh0, sh1, sh55, sh60, sh9, sh31, sh23, sh37, sh42, sh43, sh19, sh3, sh6, ↓w_aload_0, ↓w_gf3, ↓w_iload_1, ↓w_iv, ↓pm_cl2_2, ↓w_ifne, ↓w_iconst, ↓w_ret, ↓w_ifeq])
      | (with_reducible refine bX11_burn_2 ?_; simp (disch := first | omega | decide) only [w_nl0, w_nli, w_nlr, ↓w_ts1, ↓w_ts0, w_rcv, w_rfv, w_cs, true_and, and_true, List.length_nil, List.length_cons, Nat.reduceAdd, Nat.reduceLeDiff, Nat.zero_le, Nat.reduceLT, ↓w_nil, ix_nI, nI_leP, nI_ltP, nI_eqP, nI_1, ↓i_inN, i_inN, l_le, l_lt, l_eq, r_le, r_lt, r_eq, sh0, sh1, sh55, sh60, sh9, sh31, sh23, sh37, sh42, sh43, sh19, sh3, sh6, ↓w_aload_0, ↓w_gf3, ↓w_iload_1, ↓w_iv, ↓pm_cl2_2, ↓w_ifne, ↓w_iconst, ↓w_ret, ↓w_ifeq])
      | (with_reducible refine c_hasT (by omega) ?_; simp (disch := first | omega | decide) only [w_nl0, w_nli, w_nlr, ↓w_ts1, ↓w_ts0, w_rcv, w_rfv, w_cs, true_and, and_true, List.length_nil, List.length_cons, Nat.reduceAdd, Nat.reduceLeDiff, Nat.zero_le, Nat.reduceLT, ↓w_nil, ix_nI, nI_leP, nI_ltP, nI_eqP, nI_1, ↓i_inN, i_inN, l_le, l_lt, l_eq, r_le, r_lt, r_eq, sh0, sh1, sh55, sh60, sh9, sh31, sh23, sh37, sh42, sh43, sh19, sh3, sh6, ↓w_aload_0, ↓w_gf3, ↓w_iload_1, ↓w_iv, ↓pm_cl2_2, ↓w_ifne, ↓w_iconst, ↓w_ret, ↓w_ifeq])
      | (simp only [w_in])
      | (intro _))
    all_goals try rfl
    all_goals try grind
    all_goals try refine MC.of (eX12_burn (by omega) ?_)
    all_goals
      repeat' (first
        | (apply And.intro)
        | (with_reducible refine bX12_burn_0 ?_; simp (disch := first | omega | decide) only [w_nl0, w_nli, w_nlr, ↓w_ts1, ↓w_ts0, w_rcv, w_rfv, w_cs, true_and, and_true, List.length_nil, List.length_cons, Nat.reduceAdd, Nat.reduceLeDiff, Nat.zero_le, Nat.reduceLT, ↓w_nil, ix_nI, nI_leP, nI_ltP, nI_eqP, nI_1, ↓i_inN, i_inN, l_le, l_lt, l_eq, r_le, r_lt, r_eq, sh68_0, sh68_1, sh68_2, sh68_3, sh68_4, ↓w_iload_1, ↓w_is, ↓pm_cl1_1, ↓w_ifne, ↓w_iconst, ↓w_ret, ↓w_aload_0, ↓w_gf3, ↓w_iaload, ↓w_ifge, ↓w_iv, ↓pm_cl2_2, ↓w_iastore])
        | (with_reducible refine bX12_burn_1 ?_; simp (disch := first | omega | decide) only [w_nl0, w_nli, w_nlr, ↓w_ts1, ↓w_ts0, w_rcv, w_rfv, w_cs, true_and, and_true, List.length_nil, List.length_cons, Nat.reduceAdd, Nat.reduceLeDiff, Nat.zero_le, Nat.reduceLT, ↓w_nil, ix_nI, nI_leP, nI_ltP, nI_eqP, nI_1, ↓i_inN, i_inN, l_le, l_lt, l_eq, r_le, r_lt, r_eq, sh68_0, sh68_1, sh68_2, sh68_3, sh68_4, ↓w_iload_1, ↓w_is, ↓pm_cl1_1, ↓w_ifne, ↓w_iconst, ↓w_ret, ↓w_aload_0, ↓w_gf3, ↓w_iaload, ↓w_ifge, ↓w_iv, ↓pm_cl2_2, ↓w_iastore])
        | (with_reducible refine bX12_burn_2 ?_; simp (disch := first | omega | decide) only [w_nl0, w_nli, w_nlr, ↓w_ts1, ↓w_ts0, w_rcv, w_rfv, w_cs, true_and, and_true, List.length_nil, List.length_cons, Nat.reduceAdd, Nat.reduceLeDiff, Nat.zero_le, Nat.reduceLT, ↓w_nil, ix_nI, nI_leP, nI_ltP, nI_eqP, nI_1, ↓i_inN, i_inN, l_le, l_lt, l_eq, r_le, r_lt, r_eq, sh68_0, sh68_1, sh68_2, sh68_3, sh68_4, ↓w_iload_1, ↓w_is, ↓pm_cl1_1, ↓w_ifne, ↓w_iconst, ↓w_ret, ↓w_aload_0, ↓w_gf3, ↓w_iaload, ↓w_ifge, ↓w_iv, ↓pm_cl2_2, ↓w_iastore])
        | (with_reducible refine m_isText (by omega) ?_; simp (disch := first | omega | decide) only [w_nl0, w_nli, w_nlr, ↓w_ts1, ↓w_ts0, w_rcv, w_rfv, w_cs, true_and, and_true, List.length_nil, List.length_cons, Nat.reduceAdd, Nat.reduceLeDiff, Nat.zero_le, Nat.reduceLT, ↓w_nil, ix_nI, nI_leP, nI_ltP, nI_eqP, nI_1, ↓i_inN, i_inN, l_le, l_lt, l_eq, r_le, r_lt, r_eq, sh68_0, sh68_1, sh68_2, sh68_3, sh68_4, ↓w_iload_1, ↓w_is, ↓pm_cl1_1, ↓w_ifne, ↓w_iconst, ↓w_ret, ↓w_aload_0, ↓w_gf3, ↓w_iaload, ↓w_ifge, ↓w_iv, ↓pm_cl2_2, ↓w_iastore])
        | (simp only [w_in])
        | (intro _))
    all_goals first | rfl | exact hw | exact relw_found hw | exact relw_asks hw | grind
end C42
