section C57
variable {g : pm_G} {d : Nat} {Q : pm_Po} {S : pm_SS} {I : pm_MI} {J : pm_ML}
def moV (I : pm_MI) (r l : Int32) (n : Nat) : Int32 := itr (fun k a => a + (if I 113 k = r ∧ (l = -9 ∨ I 115 k = l) then I 114 k else 0)) 0 n
def kpV (I : pm_MI) (r : Int32) (n : Nat) : Int32 := itr (fun k a => if I 56 k = r then a + I 57 k else a) 0 n
def kiV (I : pm_MI) (r l : Int32) (n : Nat) : Int32 := itr (fun k a => if I 56 k = r ∧ I 58 k = l then a + I 57 k else a) 0 n
theorem m_out {r l : Int32} {n : Nat} (hd : 1 ≤ d) (hn : I 68 67 = nI n) (hn60 : n ≤ 60) (hQ : Q (some (.int (moV I r l n))) SH I J) : pm_C g d 270 [.ref 68, .int r, .int l] Q SH I J := m_outOf hd hn hn60 hQ
theorem c_kp {r : Int32} {n : Nat} (hd : 1 ≤ d) (hn : I 55 4 = nI n) (hn60 : n ≤ 60) (hQ : Q (some (.int (kpV I r n))) SH I J) : pm_C g d 88 [.ref 55, .int r] Q SH I J := c_kept hd hn hn60 hQ
theorem c_ki {r l : Int32} {n : Nat} (hd : 1 ≤ d) (hn : I 55 4 = nI n) (hn60 : n ≤ 60) (hQ : Q (some (.int (kiV I r l n))) SH I J) : pm_C g d 89 [.ref 55, .int r, .int l] Q SH I J := c_keptIn hd hn hn60 hQ
theorem moV_up {r l v : Int32} {n a i : Nat} (h1 : a ≠ 113) (h2 : a ≠ 114) (h3 : a ≠ 115) : moV (pm_up I a i v) r l n = moV I r l n := by
  unfold moV
  rw [pm_up_o (Ne.symm h1), pm_up_o (Ne.symm h2), pm_up_o (Ne.symm h3)]
theorem kpV_up {r v : Int32} {n a i : Nat} (h1 : a ≠ 56) (h2 : a ≠ 57) : kpV (pm_up I a i v) r n = kpV I r n := by
  unfold kpV
  rw [pm_up_o (Ne.symm h1), pm_up_o (Ne.symm h2)]
theorem mo_kp {r : Int32} {n : Nat} (e1 : I 113 = I 56) (e2 : I 114 = I 57) : moV I r (-9) n = kpV I r n := out_eq e1 e2
theorem mo_ki {r l : Int32} {n : Nat} (hl : ¬ l = -9) (e1 : I 113 = I 56) (e2 : I 114 = I 57) (e3 : I 115 = I 58) : moV I r l n = kiV I r l n := by
  unfold moV kiV
  rw [e1, e2, e3]
  refine itr_cong (fun k _ b => ?_)
  grind
/-- one sale more, as the reference sums -/
theorem moV_new {r c l y : Int32} {n : Nat} : moV (pm_up (pm_up (pm_up (pm_up (pm_up I 113 n r) 114 n c) 115 n l) 116 n y) 68 67 (nI (n + 1))) r (-9) (n + 1) = moV I r (-9) n + c := by
  unfold moV
  simp (disch := decide) only [pm_up_o]
  rw [itr_s]
  simp only [up_at, if_true, true_and, true_or]
  congr 1
  refine itr_cong (fun k hk b => ?_)
  rw [if_neg (show ¬ k = n by omega), if_neg (show ¬ k = n by omega), pm_up_o (by decide)]
theorem kpV_new {r c l y : Int32} {n : Nat} : kpV (pm_up (pm_up (pm_up (pm_up (pm_up I 56 n r) 57 n c) 58 n l) 59 n y) 55 4 (nI (n + 1))) r (n + 1) = kpV I r n + c := by
  unfold kpV
  simp (disch := decide) only [pm_up_o]
  rw [itr_s]
  simp only [up_at, if_true]
  congr 1
  refine itr_cong (fun k hk b => ?_)
  rw [if_neg (show ¬ k = n by omega), if_neg (show ¬ k = n by omega), pm_up_o (by decide)]
theorem m_leftOf {r n : Nat} (hd : 2 ≤ d) (hr : r < 30) (hn : I 68 67 = nI n) (hn60 : n ≤ 60) (hQ : Q (some (.int (I 94 r - moV I (nI r) (-9) n))) SH I J) : pm_C g d 271 [.ref 68, .int (nI r)] Q SH I J := by
  refine eX12_leftOf (by omega) ?_
  repeat' (first
    | (apply And.intro)
    | (with_reducible refine bX12_leftOf_0 ?_; simp (disch := first | omega | decide) only [w_nl0, w_nli, w_nlr, ↓w_ts1, ↓w_ts0, w_rcv, w_rfv, w_cs, true_and, and_true, List.length_nil, List.length_cons, Nat.reduceAdd, Nat.reduceLeDiff, Nat.zero_le, Nat.reduceLT, ↓w_nil, ix_nI, nI_leP, nI_ltP, nI_eqP, nI_1, ↓i_inN, i_inN, l_le, l_lt, l_eq, r_le, r_lt, r_eq, sh68_0, sh68_1, sh68_2, sh68_3, sh68_4, ↓w_aload_0, ↓w_gf3, ↓w_iload_1, ↓w_iaload, ↓w_bipush, ↓w_iv, ↓pm_cl2_3, ↓w_isub, ↓w_ret])
    | (with_reducible refine m_out (by omega) hn hn60 ?_ ; simp (disch := first | omega | decide) only [w_nl0, w_nli, w_nlr, ↓w_ts1, ↓w_ts0, w_rcv, w_rfv, w_cs, true_and, and_true, List.length_nil, List.length_cons, Nat.reduceAdd, Nat.reduceLeDiff, Nat.zero_le, Nat.reduceLT, ↓w_nil, ix_nI, nI_leP, nI_ltP, nI_eqP, nI_1, ↓i_inN, i_inN, l_le, l_lt, l_eq, r_le, r_lt, r_eq, sh68_0, sh68_1, sh68_2, sh68_3, sh68_4, ↓w_aload_0, ↓w_gf3, ↓w_iload_1, ↓w_iaload, ↓w_bipush, ↓w_iv, ↓pm_cl2_3, ↓w_isub, ↓w_ret])
    | (simp only [w_in])
    | (intro _))
  all_goals grind
theorem m_sale {r n : Nat} {c l y : Int32} (hd : 3 ≤ d) (hr : r < 30) (hy : I 68 15 = y) (hn : I 68 67 = nI n) (hn60 : n < 60) (hQ : Q (some (.int (I 94 r - (moV I (nI r) (-9) n + c)))) SH (pm_up (pm_up (pm_up (pm_up (pm_up I 113 n (nI r)) 114 n c) 115 n l) 116 n y) 68 67 (nI (n + 1))) J) : pm_C g d 272 [.ref 68, .int (nI r), .int c, .int l] Q SH I J := by
  refine eX12_sale (by omega) ?_
  repeat' (first
    | (apply And.intro)
    | (with_reducible refine bX12_sale_0 ?_; simp (disch := first | omega | decide) only [w_nl0, w_nli, w_nlr, ↓w_ts1, ↓w_ts0, w_rcv, w_rfv, w_cs, true_and, and_true, List.length_nil, List.length_cons, Nat.reduceAdd, Nat.reduceLeDiff, Nat.zero_le, Nat.reduceLT, ↓w_nil, ix_nI, nI_leP, nI_ltP, nI_eqP, nI_1, ↓i_inN, i_inN, l_le, l_lt, l_eq, r_le, r_lt, r_eq, sh68_0, sh68_1, sh68_2, sh68_3, sh68_4, ↓w_aload_0, ↓w_gf3, ↓w_gf0, ↓w_iload_1, ↓w_iastore, ↓w_iload_2, ↓w_iload_3, ↓w_dup_i, ↓w_dup_r, ↓w_iconst, ↓w_iadd, ↓w_pf0, ↓w_iv, ↓pm_cl2_2, ↓w_ret, hn, hy, pm_up_o, pm_up_s, nI_add, moV_new])
    | (with_reducible refine m_leftOf (n := n + 1) (by omega) hr (by rw [pm_up_s]) (by omega) ?_ ; simp (disch := first | omega | decide) only [w_nl0, w_nli, w_nlr, ↓w_ts1, ↓w_ts0, w_rcv, w_rfv, w_cs, true_and, and_true, List.length_nil, List.length_cons, Nat.reduceAdd, Nat.reduceLeDiff, Nat.zero_le, Nat.reduceLT, ↓w_nil, ix_nI, nI_leP, nI_ltP, nI_eqP, nI_1, ↓i_inN, i_inN, l_le, l_lt, l_eq, r_le, r_lt, r_eq, sh68_0, sh68_1, sh68_2, sh68_3, sh68_4, ↓w_aload_0, ↓w_gf3, ↓w_gf0, ↓w_iload_1, ↓w_iastore, ↓w_iload_2, ↓w_iload_3, ↓w_dup_i, ↓w_dup_r, ↓w_iconst, ↓w_iadd, ↓w_pf0, ↓w_iv, ↓pm_cl2_2, ↓w_ret, hn, hy, pm_up_o, pm_up_s, nI_add, moV_new])
    | (simp only [w_in])
    | (intro _))
  all_goals grind
theorem m_isSale {r c l : Int32} {n : Nat} (hd : 3 ≤ d) (hn : I 68 38 = nI n) (hn30 : n ≤ 30) (hQ : Q (some (.int (if (0 ≤ r ∧ r < nI n) ∧ (1 ≤ c ∧ c ≤ 10000) ∧ (0 ≤ l ∧ l ≤ 7) then 1 else 0))) SH I J) : pm_C g d 273 [.ref 68, .int r, .int c, .int l] Q SH I J := by
  refine eX12_isSale (by omega) ?_
  repeat' (first
    | (apply And.intro)
    | (with_reducible refine bX12_isSale_0 ?_; simp (disch := first | omega | decide) only [w_nl0, w_nli, w_nlr, ↓w_ts1, ↓w_ts0, w_rcv, w_rfv, w_cs, true_and, and_true, List.length_nil, List.length_cons, Nat.reduceAdd, Nat.reduceLeDiff, Nat.zero_le, Nat.reduceLT, ↓w_nil, ix_nI, nI_leP, nI_ltP, nI_eqP, nI_1, ↓i_inN, i_inN, l_le, l_lt, l_eq, r_le, r_lt, r_eq, sh68_0, sh68_1, sh68_2, sh68_3, sh68_4, ↓w_aload_0, ↓w_iload_1, ↓w_iv, ↓pm_cl2_2, ↓w_ifeq, ↓w_iload_2, ↓w_iconst, ↓w_sipush, ↓w_is, ↓pm_cl1_3, ↓w_iload_3, ↓pm_cl1_1, ↓w_goto, ↓w_zret])
    | (with_reducible refine bX12_isSale_1 ?_; simp (disch := first | omega | decide) only [w_nl0, w_nli, w_nlr, ↓w_ts1, ↓w_ts0, w_rcv, w_rfv, w_cs, true_and, and_true, List.length_nil, List.length_cons, Nat.reduceAdd, Nat.reduceLeDiff, Nat.zero_le, Nat.reduceLT, ↓w_nil, ix_nI, nI_leP, nI_ltP, nI_eqP, nI_1, ↓i_inN, i_inN, l_le, l_lt, l_eq, r_le, r_lt, r_eq, sh68_0, sh68_1, sh68_2, sh68_3, sh68_4, ↓w_aload_0, ↓w_iload_1, ↓w_iv, ↓pm_cl2_2, ↓w_ifeq, ↓w_iload_2, ↓w_iconst, ↓w_sipush, ↓w_is, ↓pm_cl1_3, ↓w_iload_3, ↓pm_cl1_1, ↓w_goto, ↓w_zret])
    | (with_reducible refine bX12_isSale_2 ?_; simp (disch := first | omega | decide) only [w_nl0, w_nli, w_nlr, ↓w_ts1, ↓w_ts0, w_rcv, w_rfv, w_cs, true_and, and_true, List.length_nil, List.length_cons, Nat.reduceAdd, Nat.reduceLeDiff, Nat.zero_le, Nat.reduceLT, ↓w_nil, ix_nI, nI_leP, nI_ltP, nI_eqP, nI_1, ↓i_inN, i_inN, l_le, l_lt, l_eq, r_le, r_lt, r_eq, sh68_0, sh68_1, sh68_2, sh68_3, sh68_4, ↓w_aload_0, ↓w_iload_1, ↓w_iv, ↓pm_cl2_2, ↓w_ifeq, ↓w_iload_2, ↓w_iconst, ↓w_sipush, ↓w_is, ↓pm_cl1_3, ↓w_iload_3, ↓pm_cl1_1, ↓w_goto, ↓w_zret])
    | (with_reducible refine m_isRun (by omega) hn hn30 ?_ ; simp (disch := first | omega | decide) only [w_nl0, w_nli, w_nlr, ↓w_ts1, ↓w_ts0, w_rcv, w_rfv, w_cs, true_and, and_true, List.length_nil, List.length_cons, Nat.reduceAdd, Nat.reduceLeDiff, Nat.zero_le, Nat.reduceLT, ↓w_nil, ix_nI, nI_leP, nI_ltP, nI_eqP, nI_1, ↓i_inN, i_inN, l_le, l_lt, l_eq, r_le, r_lt, r_eq, sh68_0, sh68_1, sh68_2, sh68_3, sh68_4, ↓w_aload_0, ↓w_iload_1, ↓w_iv, ↓pm_cl2_2, ↓w_ifeq, ↓w_iload_2, ↓w_iconst, ↓w_sipush, ↓w_is, ↓pm_cl1_3, ↓w_iload_3, ↓pm_cl1_1, ↓w_goto, ↓w_zret])
    | (with_reducible refine m_in (by omega) ?_ ; simp (disch := first | omega | decide) only [w_nl0, w_nli, w_nlr, ↓w_ts1, ↓w_ts0, w_rcv, w_rfv, w_cs, true_and, and_true, List.length_nil, List.length_cons, Nat.reduceAdd, Nat.reduceLeDiff, Nat.zero_le, Nat.reduceLT, ↓w_nil, ix_nI, nI_leP, nI_ltP, nI_eqP, nI_1, ↓i_inN, i_inN, l_le, l_lt, l_eq, r_le, r_lt, r_eq, sh68_0, sh68_1, sh68_2, sh68_3, sh68_4, ↓w_aload_0, ↓w_iload_1, ↓w_iv, ↓pm_cl2_2, ↓w_ifeq, ↓w_iload_2, ↓w_iconst, ↓w_sipush, ↓w_is, ↓pm_cl1_3, ↓w_iload_3, ↓pm_cl1_1, ↓w_goto, ↓w_zret])
    | (with_reducible refine m_isLand (by omega) ?_ ; simp (disch := first | omega | decide) only [w_nl0, w_nli, w_nlr, ↓w_ts1, ↓w_ts0, w_rcv, w_rfv, w_cs, true_and, and_true, List.length_nil, List.length_cons, Nat.reduceAdd, Nat.reduceLeDiff, Nat.zero_le, Nat.reduceLT, ↓w_nil, ix_nI, nI_leP, nI_ltP, nI_eqP, nI_1, ↓i_inN, i_inN, l_le, l_lt, l_eq, r_le, r_lt, r_eq, sh68_0, sh68_1, sh68_2, sh68_3, sh68_4, ↓w_aload_0, ↓w_iload_1, ↓w_iv, ↓pm_cl2_2, ↓w_ifeq, ↓w_iload_2, ↓w_iconst, ↓w_sipush, ↓w_is, ↓pm_cl1_3, ↓w_iload_3, ↓pm_cl1_1, ↓w_goto, ↓w_zret])
    | (simp only [w_in])
    | (intro _))
  all_goals grind
theorem r_sal_new {y m n' : Int32} {n : Nat} {r c l o r' c' l' o' : Nat → Int32} {u v w : Int32} (hr : r_sal y m (nI n) n' r c l o r' c' l' o') (hn : n < 60) (hu : 0 ≤ u ∧ u < m) (hv : -10000 ≤ v ∧ v ≤ 10000) (hw : ∃ q, q < 8 ∧ w = nI q) (hy : ∃ q, q ≤ 999 ∧ y = nI q) : r_sal y m (nI (n + 1)) (nI (n + 1)) (upd r n u) (upd c n v) (upd l n w) (upd o n y) (upd r' n u) (upd c' n v) (upd l' n w) (upd o' n y) := by
  obtain ⟨q1, q2, q3, q4, q5, M, hM, hM2, hs⟩ := hr
  have := nI_inj (by omega) (by omega) hM2
  subst this
  refine ⟨rfl, by rw [q2], by rw [q3], by rw [q4], by rw [q5], n + 1, by omega, rfl, fun k hk => ?_⟩
  simp only [upd_at]
  by_cases hkn : k = n
  · simp only [hkn, if_true]
    exact ⟨hu, hv, hw, hy, Int32.le_refl _⟩
  · simp only [hkn, if_false]
    exact hs k (by omega)
end C57
