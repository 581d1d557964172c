section C75
variable {g : pm_G} {d : Nat} {Q : pm_Po} {S : pm_SS} {I : pm_MI} {J : pm_ML}
def MS (I I' : pm_MI) : Prop := (∀ a, a ≠ 68 → I' a = I a) ∧ ∀ j, ¬ (10 ≤ j ∧ j ≤ 14) → I' 68 j = I 68 j
theorem ms_id : MS I I := ⟨fun _ _ => rfl, fun _ _ => rfl⟩
theorem ms_up {I' : pm_MI} {j : Nat} {v : Int32} (hj : 10 ≤ j ∧ j ≤ 14) (h : MS I I') : MS I (pm_up I' 68 j v) := by
  refine ⟨fun a ha => by rw [pm_up_o ha]; exact h.1 a ha, fun k hk => ?_⟩
  rw [pm_up_n (by omega)]
  exact h.2 k hk
theorem ms_trans {I' I'' : pm_MI} (h1 : MS I I') (h2 : MS I' I'') : MS I I'' := ⟨fun a ha => (h2.1 a ha).trans (h1.1 a ha), fun j hj => (h2.2 j hj).trans (h1.2 j hj)⟩
def byV (b : Nat → Int32) (s i : Nat) : Int32 := if i < s then b i else 0
theorem m_by {t i s : Nat} {b : Nat → Int32} (hd : 1 ≤ d) (ht : t < 4) (h73 : I 73 t = nI s) (hs : s ≤ 48) (h74 : ∀ i, i < s → I 74 (48 * t + i) = b i) (hi : i < 1000) (hQ : Q (some (.int (byV b s i))) SH I J) : pm_C g d 207 [.ref 68, .int (nI t), .int (nI i)] Q SH I J := by
  refine m_byteAt hd ht h73 hs hi ?_
  unfold byV at hQ
  by_cases h : i < s
  · rw [if_pos h, h74 i h]
    rw [if_pos h] at hQ
    exact hQ
  · rw [if_neg h]
    rw [if_neg h] at hQ
    exact hQ
theorem m_fig {t i s : Nat} {b : Nat → Int32} {m m' : Int32} (hd : 2 ≤ d) (ht : t < 4) (h73 : I 73 t = nI s) (hs : s ≤ 48) (h74 : ∀ i, i < s → I 74 (48 * t + i) = b i) (hi : i < 1000) (hm : ∀ x : Int32, x ≤ 48 + m ↔ x < 48 + m') (hQ : Q (some (.int (if isB b s i m' then 1 else 0))) SH I J) : pm_C g d 208 [.ref 68, .int (nI t), .int (nI i), .int m] Q SH I J := by
  refine m_isFigure hd ht h73 hs hi ?_
  by_cases h : i < s
  · rw [if_pos h, h74 i h]
    have e : (48 ≤ b i ∧ b i ≤ 48 + m) ↔ isB b s i m' := by
      unfold isB
      rw [hm]
      exact ⟨fun z => ⟨h, z.1, z.2⟩, fun z => ⟨z.2.1, z.2.2⟩⟩
    by_cases h2 : isB b s i m'
    · rw [if_pos (e.2 h2)]
      rw [if_pos h2] at hQ
      exact hQ
    · rw [if_neg (fun z => h2 (e.1 z))]
      rw [if_neg h2] at hQ
      exact hQ
  · rw [if_neg h, if_neg (fun z => absurd z.1 (by decide))]
    rw [if_neg (fun z => h z.1)] at hQ
    exact hQ
theorem fig3 (x : Int32) : x ≤ 48 + 3 ↔ x < 48 + 4 := by grind
theorem fig7 (x : Int32) : x ≤ 48 + 7 ↔ x < 48 + 8 := by grind
theorem fig9 (x : Int32) : x ≤ 48 + 9 ↔ x < 48 + 10 := by grind
theorem up_over2 {I : pm_MI} {i j : Nat} {a b c e : Int32} (h : i ≠ j) : pm_up (pm_up (pm_up (pm_up I 68 i a) 68 j b) 68 i c) 68 j e = pm_up (pm_up I 68 i c) 68 j e := by
  funext x y
  by_cases hx : x = 68
  · subst hx
    simp only [up_at]
    by_cases h1 : y = j
    · simp only [h1, if_true]
    · by_cases h2 : y = i
      · simp only [h1, h2, if_true, if_false, h]
      · simp only [h1, h2, if_false]
  · simp only [pm_up_o hx]
theorem m_num {t p s k : Nat} {b : Nat → Int32} {mo : Int32} (hd : 4 ≤ d) (ht : t < 4) (h73 : I 73 t = nI s) (hs : s ≤ 48) (h74 : ∀ i, i < s → I 74 (48 * t + i) = b i) (hp : p < 100) (hk : k ≤ 5) (hmo : mo = nI k) (hQ : Q (some (.int (if (pdg b s 10 k p 0).2 = p then 0 else 1))) SH (pm_up (pm_up I 68 13 (pdg b s 10 k p 0).1) 68 14 (nI (pdg b s 10 k p 0).2)) J) : pm_C g d 209 [.ref 68, .int (nI t), .int (nI p), .int mo] Q SH I J := by
  subst hmo
  have hle := pdg_le (b := b) (s := s) (m := 10) k p 0
  generalize hE : pdg b s 10 k p 0 = E at hQ hle
  have key : ∀ j q n, j + q = k → pdg b s 10 j (p + q) n = E → UU g (d - 1) 209 kX12_readNumber (pm_rm d 209) Q 1 [some (.ref 68), some (.int (nI t)), some (.int (nI p)), some (.int (nI k))] [] SH (pm_up (pm_up I 68 13 n) 68 14 (nI (p + q))) J (0, 0) := by
    intro j
    induction j with
    | zero =>
      intro q n hq he
      simp only [pdg] at he
      subst he
      have hqk : q = k := by omega
      subst hqk
      clear h74 hE
      refine bX12_readNumber_1 ?_
      simp (disch := first | omega | decide) only [w_nl0, w_nli, w_nlr, ↓w_ts1, ↓w_ts0, w_rcv, w_rfv, w_cs, true_and, and_true, List.length_nil, List.length_cons, Nat.reduceAdd, Nat.reduceLeDiff, Nat.zero_le, Nat.reduceLT, ↓w_nil, ix_nI, nI_leP, nI_ltP, nI_eqP, nI_1, ↓i_inN, i_inN, l_le, l_lt, l_eq, r_le, r_lt, r_eq, sh68_0, sh68_1, sh68_2, sh68_3, sh68_4, ↓w_aload_0, ↓w_gf0, ↓w_iload_2, ↓w_iload_3, ↓w_iadd, ↓w_icge, ↓w_iload_1, ↓w_bipush, ↓w_iv, ↓pm_cl2_4, ↓w_ifeq, ↓w_imul, ↓pm_cl2_3, ↓w_isub, ↓w_pf0, ↓w_dup_i, ↓w_dup_r, ↓w_iconst, ↓w_goto, pm_up_n, pm_up_s, nI_add]
      repeat' (first
        | (apply And.intro)
        | (with_reducible refine bX12_readNumber_2 ?_; simp (disch := first | omega | decide) only [w_nl0, w_nli, w_nlr, ↓w_ts1, ↓w_ts0, w_rcv, w_rfv, w_cs, true_and, and_true, List.length_nil, List.length_cons, Nat.reduceAdd, Nat.reduceLeDiff, Nat.zero_le, Nat.reduceLT, ↓w_nil, ix_nI, nI_leP, nI_ltP, nI_eqP, nI_1, ↓i_inN, i_inN, l_le, l_lt, l_eq, r_le, r_lt, r_eq, sh68_0, sh68_1, sh68_2, sh68_3, sh68_4, ↓w_aload_0, ↓w_iconst, ↓w_pf0, ↓w_iload_2, ↓w_gf0, ↓w_iload_3, ↓w_iadd, ↓w_icge, ↓w_iload_1, ↓w_bipush, ↓w_iv, ↓pm_cl2_4, ↓w_ifeq, ↓w_imul, ↓pm_cl2_3, ↓w_isub, ↓w_dup_i, ↓w_dup_r, ↓w_goto, ↓w_icle, ↓w_zret, pm_up_n, pm_up_s, nI_add])
        | (with_reducible refine bX12_readNumber_3 ?_; simp (disch := first | omega | decide) only [w_nl0, w_nli, w_nlr, ↓w_ts1, ↓w_ts0, w_rcv, w_rfv, w_cs, true_and, and_true, List.length_nil, List.length_cons, Nat.reduceAdd, Nat.reduceLeDiff, Nat.zero_le, Nat.reduceLT, ↓w_nil, ix_nI, nI_leP, nI_ltP, nI_eqP, nI_1, ↓i_inN, i_inN, l_le, l_lt, l_eq, r_le, r_lt, r_eq, sh68_0, sh68_1, sh68_2, sh68_3, sh68_4, ↓w_aload_0, ↓w_iconst, ↓w_pf0, ↓w_iload_2, ↓w_gf0, ↓w_iload_3, ↓w_iadd, ↓w_icge, ↓w_iload_1, ↓w_bipush, ↓w_iv, ↓pm_cl2_4, ↓w_ifeq, ↓w_imul, ↓pm_cl2_3, ↓w_isub, ↓w_dup_i, ↓w_dup_r, ↓w_goto, ↓w_icle, ↓w_zret, pm_up_n, pm_up_s, nI_add])
        | (with_reducible refine bX12_readNumber_4 ?_; simp (disch := first | omega | decide) only [w_nl0, w_nli, w_nlr, ↓w_ts1, ↓w_ts0, w_rcv, w_rfv, w_cs, true_and, and_true, List.length_nil, List.length_cons, Nat.reduceAdd, Nat.reduceLeDiff, Nat.zero_le, Nat.reduceLT, ↓w_nil, ix_nI, nI_leP, nI_ltP, nI_eqP, nI_1, ↓i_inN, i_inN, l_le, l_lt, l_eq, r_le, r_lt, r_eq, sh68_0, sh68_1, sh68_2, sh68_3, sh68_4, ↓w_aload_0, ↓w_iconst, ↓w_pf0, ↓w_iload_2, ↓w_gf0, ↓w_iload_3, ↓w_iadd, ↓w_icge, ↓w_iload_1, ↓w_bipush, ↓w_iv, ↓pm_cl2_4, ↓w_ifeq, ↓w_imul, ↓pm_cl2_3, ↓w_isub, ↓w_dup_i, ↓w_dup_r, ↓w_goto, ↓w_icle, ↓w_zret, pm_up_n, pm_up_s, nI_add])
        | (simp only [w_in])
        | (intro _))
      all_goals grind
    | succ j ih =>
      intro q n hq he
      by_cases hB : isB b s (p + q) 10
      · simp only [pdg, if_pos hB] at he
        have hb : byV b s (p + q) = b (p + q) := if_pos hB.1
        have e10 : 10 * n + b (p + q) - 48 = 10 * n + (b (p + q) - 48) := by grind
        have w := ih (q + 1) _ (by omega) he
        rw [show p + (q + 1) = p + q + 1 by omega] at w
        clear ih hE hQ
        refine bX12_readNumber_1 ?_
        simp (disch := first | omega | decide) only [w_nl0, w_nli, w_nlr, ↓w_ts1, ↓w_ts0, w_rcv, w_rfv, w_cs, true_and, and_true, List.length_nil, List.length_cons, Nat.reduceAdd, Nat.reduceLeDiff, Nat.zero_le, Nat.reduceLT, ↓w_nil, ix_nI, nI_leP, nI_ltP, nI_eqP, nI_1, ↓i_inN, i_inN, l_le, l_lt, l_eq, r_le, r_lt, r_eq, sh68_0, sh68_1, sh68_2, sh68_3, sh68_4, ↓w_aload_0, ↓w_gf0, ↓w_iload_2, ↓w_iload_3, ↓w_iadd, ↓w_icge, ↓w_iload_1, ↓w_bipush, ↓w_iv, ↓pm_cl2_4, ↓w_ifeq, ↓w_imul, ↓pm_cl2_3, ↓w_isub, ↓w_pf0, ↓w_dup_i, ↓w_dup_r, ↓w_iconst, ↓w_goto, pm_up_n, pm_up_s, nI_add]
        repeat' (first
          | (apply And.intro)
          | (with_reducible refine m_fig (s := s) (b := b) (m' := 10) (by omega) ht (by simp (disch := decide) only [pm_up_o, h73]) hs (by simpa (disch := decide) only [pm_up_o] using h74) (by omega) fig9 ?_ ; simp (disch := first | omega | decide) only [w_nl0, w_nli, w_nlr, ↓w_ts1, ↓w_ts0, w_rcv, w_rfv, w_cs, true_and, and_true, List.length_nil, List.length_cons, Nat.reduceAdd, Nat.reduceLeDiff, Nat.zero_le, Nat.reduceLT, ↓w_nil, ix_nI, nI_leP, nI_ltP, nI_eqP, nI_1, ↓i_inN, i_inN, l_le, l_lt, l_eq, r_le, r_lt, r_eq, sh68_0, sh68_1, sh68_2, sh68_3, sh68_4, ↓w_aload_0, ↓w_iconst, ↓w_pf0, ↓w_iload_2, ↓w_gf0, ↓w_iload_3, ↓w_iadd, ↓w_icge, ↓w_iload_1, ↓w_bipush, ↓w_iv, ↓pm_cl2_4, ↓w_ifeq, ↓w_imul, ↓pm_cl2_3, ↓w_isub, ↓w_dup_i, ↓w_dup_r, ↓w_goto, ↓w_icle, ↓w_zret, pm_up_n, pm_up_s, nI_add, hb, e10, up_over2])
          | (with_reducible refine m_by (s := s) (b := b) (by omega) ht (by simp (disch := decide) only [pm_up_o, h73]) hs (by simpa (disch := decide) only [pm_up_o] using h74) (by omega) ?_ ; simp (disch := first | omega | decide) only [w_nl0, w_nli, w_nlr, ↓w_ts1, ↓w_ts0, w_rcv, w_rfv, w_cs, true_and, and_true, List.length_nil, List.length_cons, Nat.reduceAdd, Nat.reduceLeDiff, Nat.zero_le, Nat.reduceLT, ↓w_nil, ix_nI, nI_leP, nI_ltP, nI_eqP, nI_1, ↓i_inN, i_inN, l_le, l_lt, l_eq, r_le, r_lt, r_eq, sh68_0, sh68_1, sh68_2, sh68_3, sh68_4, ↓w_aload_0, ↓w_iconst, ↓w_pf0, ↓w_iload_2, ↓w_gf0, ↓w_iload_3, ↓w_iadd, ↓w_icge, ↓w_iload_1, ↓w_bipush, ↓w_iv, ↓pm_cl2_4, ↓w_ifeq, ↓w_imul, ↓pm_cl2_3, ↓w_isub, ↓w_dup_i, ↓w_dup_r, ↓w_goto, ↓w_icle, ↓w_zret, pm_up_n, pm_up_s, nI_add, hb, e10, up_over2])
          | (simp only [w_in])
          | (intro _))
        all_goals (clear h74; grind)
      · simp only [pdg, if_neg hB] at he
        subst he
        clear ih hE
        refine bX12_readNumber_1 ?_
        simp (disch := first | omega | decide) only [w_nl0, w_nli, w_nlr, ↓w_ts1, ↓w_ts0, w_rcv, w_rfv, w_cs, true_and, and_true, List.length_nil, List.length_cons, Nat.reduceAdd, Nat.reduceLeDiff, Nat.zero_le, Nat.reduceLT, ↓w_nil, ix_nI, nI_leP, nI_ltP, nI_eqP, nI_1, ↓i_inN, i_inN, l_le, l_lt, l_eq, r_le, r_lt, r_eq, sh68_0, sh68_1, sh68_2, sh68_3, sh68_4, ↓w_aload_0, ↓w_gf0, ↓w_iload_2, ↓w_iload_3, ↓w_iadd, ↓w_icge, ↓w_iload_1, ↓w_bipush, ↓w_iv, ↓pm_cl2_4, ↓w_ifeq, ↓w_imul, ↓pm_cl2_3, ↓w_isub, ↓w_pf0, ↓w_dup_i, ↓w_dup_r, ↓w_iconst, ↓w_goto, pm_up_n, pm_up_s, nI_add]
        repeat' (first
          | (apply And.intro)
          | (with_reducible refine bX12_readNumber_2 ?_; simp (disch := first | omega | decide) only [w_nl0, w_nli, w_nlr, ↓w_ts1, ↓w_ts0, w_rcv, w_rfv, w_cs, true_and, and_true, List.length_nil, List.length_cons, Nat.reduceAdd, Nat.reduceLeDiff, Nat.zero_le, Nat.reduceLT, ↓w_nil, ix_nI, nI_leP, nI_ltP, nI_eqP, nI_1, ↓i_inN, i_inN, l_le, l_lt, l_eq, r_le, r_lt, r_eq, sh68_0, sh68_1, sh68_2, sh68_3, sh68_4, ↓w_aload_0, ↓w_iconst, ↓w_pf0, ↓w_iload_2, ↓w_gf0, ↓w_iload_3, ↓w_iadd, ↓w_icge, ↓w_iload_1, ↓w_bipush, ↓w_iv, ↓pm_cl2_4, ↓w_ifeq, ↓w_imul, ↓pm_cl2_3, ↓w_isub, ↓w_dup_i, ↓w_dup_r, ↓w_goto, ↓w_icle, ↓w_zret, pm_up_n, pm_up_s, nI_add])
          | (with_reducible refine bX12_readNumber_3 ?_; simp (disch := first | omega | decide) only [w_nl0, w_nli, w_nlr, ↓w_ts1, ↓w_ts0, w_rcv, w_rfv, w_cs, true_and, and_true, List.length_nil, List.length_cons, Nat.reduceAdd, Nat.reduceLeDiff, Nat.zero_le, Nat.reduceLT, ↓w_nil, ix_nI, nI_leP, nI_ltP, nI_eqP, nI_1, ↓i_inN, i_inN, l_le, l_lt, l_eq, r_le, r_lt, r_eq, sh68_0, sh68_1, sh68_2, sh68_3, sh68_4, ↓w_aload_0, ↓w_iconst, ↓w_pf0, ↓w_iload_2, ↓w_gf0, ↓w_iload_3, ↓w_iadd, ↓w_icge, ↓w_iload_1, ↓w_bipush, ↓w_iv, ↓pm_cl2_4, ↓w_ifeq, ↓w_imul, ↓pm_cl2_3, ↓w_isub, ↓w_dup_i, ↓w_dup_r, ↓w_goto, ↓w_icle, ↓w_zret, pm_up_n, pm_up_s, nI_add])
          | (with_reducible refine bX12_readNumber_4 ?_; simp (disch := first | omega | decide) only [w_nl0, w_nli, w_nlr, ↓w_ts1, ↓w_ts0, w_rcv, w_rfv, w_cs, true_and, and_true, List.length_nil, List.length_cons, Nat.reduceAdd, Nat.reduceLeDiff, Nat.zero_le, Nat.reduceLT, ↓w_nil, ix_nI, nI_leP, nI_ltP, nI_eqP, nI_1, ↓i_inN, i_inN, l_le, l_lt, l_eq, r_le, r_lt, r_eq, sh68_0, sh68_1, sh68_2, sh68_3, sh68_4, ↓w_aload_0, ↓w_iconst, ↓w_pf0, ↓w_iload_2, ↓w_gf0, ↓w_iload_3, ↓w_iadd, ↓w_icge, ↓w_iload_1, ↓w_bipush, ↓w_iv, ↓pm_cl2_4, ↓w_ifeq, ↓w_imul, ↓pm_cl2_3, ↓w_isub, ↓w_dup_i, ↓w_dup_r, ↓w_goto, ↓w_icle, ↓w_zret, pm_up_n, pm_up_s, nI_add])
          | (with_reducible refine m_fig (s := s) (b := b) (m' := 10) (by omega) ht (by simp (disch := decide) only [pm_up_o, h73]) hs (by simpa (disch := decide) only [pm_up_o] using h74) (by omega) fig9 ?_ ; simp (disch := first | omega | decide) only [w_nl0, w_nli, w_nlr, ↓w_ts1, ↓w_ts0, w_rcv, w_rfv, w_cs, true_and, and_true, List.length_nil, List.length_cons, Nat.reduceAdd, Nat.reduceLeDiff, Nat.zero_le, Nat.reduceLT, ↓w_nil, ix_nI, nI_leP, nI_ltP, nI_eqP, nI_1, ↓i_inN, i_inN, l_le, l_lt, l_eq, r_le, r_lt, r_eq, sh68_0, sh68_1, sh68_2, sh68_3, sh68_4, ↓w_aload_0, ↓w_iconst, ↓w_pf0, ↓w_iload_2, ↓w_gf0, ↓w_iload_3, ↓w_iadd, ↓w_icge, ↓w_iload_1, ↓w_bipush, ↓w_iv, ↓pm_cl2_4, ↓w_ifeq, ↓w_imul, ↓pm_cl2_3, ↓w_isub, ↓w_dup_i, ↓w_dup_r, ↓w_goto, ↓w_icle, ↓w_zret, pm_up_n, pm_up_s, nI_add])
          | (simp only [w_in])
          | (intro _))
        all_goals (clear h74; grind)
  have w : UU g (d - 1) 209 kX12_readNumber (pm_rm d 209) Q 1 [some (.ref 68), some (.int (nI t)), some (.int (nI p)), some (.int (nI k))] [] SH (pm_up (pm_up I 68 13 0) 68 14 (nI p)) J (0, 0) := key k 0 0 (by omega) hE
  clear key h74 hE hQ
  refine eX12_readNumber (by omega) ?_
  repeat' (first
    | (apply And.intro)
    | (with_reducible refine bX12_readNumber_0 ?_; simp (disch := first | omega | decide) only [w_nl0, w_nli, w_nlr, ↓w_ts1, ↓w_ts0, w_rcv, w_rfv, w_cs, true_and, and_true, List.length_nil, List.length_cons, Nat.reduceAdd, Nat.reduceLeDiff, Nat.zero_le, Nat.reduceLT, ↓w_nil, ix_nI, nI_leP, nI_ltP, nI_eqP, nI_1, ↓i_inN, i_inN, l_le, l_lt, l_eq, r_le, r_lt, r_eq, sh68_0, sh68_1, sh68_2, sh68_3, sh68_4, ↓w_aload_0, ↓w_iconst, ↓w_pf0, ↓w_iload_2, ↓w_gf0, ↓w_iload_3, ↓w_iadd, ↓w_icge, ↓w_iload_1, ↓w_bipush, ↓w_iv, ↓pm_cl2_4, ↓w_ifeq, ↓w_imul, ↓pm_cl2_3, ↓w_isub, ↓w_dup_i, ↓w_dup_r, ↓w_goto, ↓w_icle, ↓w_zret])
    | (simp only [w_in])
    | (intro _))
  all_goals grind
end C75
