section C56
variable {g : pm_G} {d : Nat} {Q : pm_Po} {S : pm_SS} {I : pm_MI} {J : pm_ML}
theorem sfV_cong {I' : pm_MI} {w a b day known : Int32} {n : Nat} (e1 : I' 75 = I 75) (e2 : I' 76 = I 76) (e3 : I' 77 = I 77) (e4 : I' 78 = I 78) : sfV I' w a b day known n = sfV I w a b day known n := by
  have h1 : siS I' w a b = siS I w a b := by
    funext r j s
    simp only [siS, e2, e4]
  have h2 : soS I' w a b day known = soS I w a b day known := by
    funext r s
    simp only [soS, h1, e1, e2, e3]
  unfold sfV
  rw [h2]
theorem sfV_up {w a b day known v : Int32} {n c i : Nat} (h1 : c ≠ 75) (h2 : c ≠ 76) (h3 : c ≠ 77) (h4 : c ≠ 78) : sfV (pm_up I c i v) w a b day known n = sfV I w a b day known n := sfV_cong (pm_up_o (Ne.symm h1)) (pm_up_o (Ne.symm h2)) (pm_up_o (Ne.symm h3)) (pm_up_o (Ne.symm h4))
theorem m_forceNow {w a b y : Int32} {n : Nat} (hd : 4 ≤ d) (hy : I 68 15 = y) (hn : I 68 16 = nI n) (hn24 : n ≤ 24) (hM : ∀ r, r < n → ∃ M, M ≤ 24 ∧ I 77 r = nI M) (hQ : Q (some (.int (sfV I w a b y y n).1)) SH (pm_up (pm_up I 68 21 (sfV I w a b y y n).1) 68 22 (sfV I w a b y y n).2) J) : pm_C g d 221 [.ref 68, .int w, .int a, .int b] Q SH I J := by
  refine eX12_forceNow (by omega) ?_
  repeat' (first
    | (apply And.intro)
    | (with_reducible refine bX12_forceNow_0 ?_; simp (disch := first | omega | decide) only [w_nl0, w_nli, w_nlr, ↓w_ts1, ↓w_ts0, w_rcv, w_rfv, w_cs, true_and, and_true, List.length_nil, List.length_cons, Nat.reduceAdd, Nat.reduceLeDiff, Nat.zero_le, Nat.reduceLT, ↓w_nil, ix_nI, nI_leP, nI_ltP, nI_eqP, nI_1, ↓i_inN, i_inN, l_le, l_lt, l_eq, r_le, r_lt, r_eq, sh68_0, sh68_1, sh68_2, sh68_3, sh68_4, ↓w_aload_0, ↓w_iload_1, ↓w_iload_2, ↓w_iload_3, ↓w_gf0, ↓w_iv, ↓pm_cl2_6, ↓w_ret, hy])
    | (with_reducible refine m_seekForce (by omega) hn hn24 hM ?_ ; simp (disch := first | omega | decide) only [w_nl0, w_nli, w_nlr, ↓w_ts1, ↓w_ts0, w_rcv, w_rfv, w_cs, true_and, and_true, List.length_nil, List.length_cons, Nat.reduceAdd, Nat.reduceLeDiff, Nat.zero_le, Nat.reduceLT, ↓w_nil, ix_nI, nI_leP, nI_ltP, nI_eqP, nI_1, ↓i_inN, i_inN, l_le, l_lt, l_eq, r_le, r_lt, r_eq, sh68_0, sh68_1, sh68_2, sh68_3, sh68_4, ↓w_aload_0, ↓w_iload_1, ↓w_iload_2, ↓w_iload_3, ↓w_gf0, ↓w_iv, ↓pm_cl2_6, ↓w_ret, hy])
    | (simp only [w_in])
    | (intro _))
  all_goals grind
theorem rel_comes2 {I : pm_MI} {J : pm_ML} {n : Nat} {x1 x2 : Int32} (h : Rel I J) (hn2 : I 9 9 = nI n) (hn : n < 40) {q p v e : Int32} (hq : ∃ j, j < 4 ∧ q = nI j) (hp : ∃ j, j < 20 ∧ p = nI j) (hv : v = -9 ∨ ∃ j, j < n ∧ v = nI j) : RelW (pm_up (pm_up (pm_up (pm_up (pm_up (pm_up (pm_up (pm_up (pm_up (pm_up (pm_up (pm_up (pm_up (pm_up (pm_up (pm_up I 10 n q) 11 n p) 12 n v) 13 n e) 14 n (I 0 11)) 15 n 0) 9 9 (nI (n + 1))) 68 21 x1) 68 22 x2) 79 n q) 80 n p) 81 n v) 82 n e) 83 n (I 0 11)) 84 n 0) 68 23 (nI (n + 1))) J := by
  obtain ⟨a1, a2, a3, a4, a5, a6, a7, a8, a9, a10, a11, a12⟩ := h
  rw [hn2] at a5 a6 a7
  have b5 := r_met_new a5 hn (e := e) hq hp hv a2.2
  have b6 := r_prs_new a6 hn
  have b7 := r_run_new (v := I 0 11) a7 hn
  refine ⟨trivial, ?_, ?_, ?_, ?_, ?_, ?_, ?_, ?_, ?_, ?_, ?_, ?_⟩
  all_goals (simp (disch := decide) only [pm_up_o, pm_up_n, pm_up_s, up_upd]; first | assumption | skip)
end C56
