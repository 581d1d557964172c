section C91x
variable {g : pm_G} {d : Nat} {Q : pm_Po} {S : pm_SS} {I : pm_MI} {J : pm_ML}
/-! ===== both write the cause down ===== -/
theorem nI_p5w (a : Nat) : nI a + 5 = nI (a + 5) := nI_add a 5
theorem gD_mem {T : List Nat} {i : Nat} (h : i < T.length) : T.getD i 0 ∈ T := by
  rw [List.getD_eq_getElem?_getD, List.getElem?_eq_getElem h]
  exact List.getElem_mem _
theorem chM_gD {T : List Nat} {i : Nat} (h : i < T.length) : chM T i = nI (T.getD i 0) := by
  unfold chM
  rw [List.getD_eq_getElem?_getD, List.getElem?_eq_getElem h]
  rfl
theorem at3_ch {T : List Nat} {i : Nat} (h : i < 3) : at3 (chM T 0) (chM T 1) (chM T 2) i = chM T i := by
  have h : i = 0 ∨ i = 1 ∨ i = 2 := by omega
  rcases h with rfl | rfl | rfl <;> rfl
theorem six_in {I0 I2 : pm_MI} {a k N w : Nat} {t : Int32} {x : plT} (hw : w < 6) : pm_up (pm_up (pm_up (pm_up (pm_up (pm_up I2 a (6 * k) x.1) a (6 * k + 1) x.2.1) a (6 * k + 2) x.2.2.1) a (6 * k + 3) x.2.2.2.1) a (6 * k + 4) (tuI I0 x.1 t)) a (6 * k + 5) (coI I0 N x.2.2.2.2) a (6 * k + w) = fwI I0 N t x w := by
  rw [six]
  unfold fwI
  repeat' split
  all_goals first | rfl | omega
theorem six_out {I2 : pm_MI} {a k i w : Nat} {v0 v1 v2 v3 v4 v5 : Int32} (hi : i < k) (hw : w < 6) : pm_up (pm_up (pm_up (pm_up (pm_up (pm_up I2 a (6 * k) v0) a (6 * k + 1) v1) a (6 * k + 2) v2) a (6 * k + 3) v3) a (6 * k + 4) v4) a (6 * k + 5) v5 a (6 * i + w) = I2 a (6 * i + w) := by
  rw [six]
  repeat' split
  all_goals first | rfl | omega
theorem c_keep {N s m : Nat} {t : Int32} {L : List plT} {T : List Nat} (hd : 5 ≤ d) (hs : s ≤ 3) (h12 : I 42 12 = nI s) (hB : J 42 11 = lN (rkT m T)) (hm : m ≤ 64) (hT : T.length = s) (hTl : ∀ x, x ∈ T → x < L.length) (hL : L.length ≤ 160) (hcl : clH I J L) (h23 : I 23 7 = nI N) (hN : N ≤ 30) (hQ : ∀ I2, ((∀ a, a ≠ 42 → a ≠ 54 → I2 a = I a) ∧ (∀ j, j ≠ 6 → I2 42 j = I 42 j) ∧ I2 42 6 = nI s ∧ ∀ i x, i < s → L[T.getD i 0]? = some x → ∀ w, w < 6 → I2 54 (6 * i + w) = fwI I N t x w) → Q none SH I2 J) : pm_C g d 100 [.ref 42, .ref 9, .ref 23, .int t] Q SH I J := by
  refine eX8_keepCause (by omega) ?_
  refine bX8_keepCause_0 ?_
  simp (disch := first | omega | decide) only [w_nl0, w_nli, w_nlr, ↓w_ts1, ↓w_ts0, w_rcv, w_rfv, w_cs, true_and, and_true, List.length_nil, List.length_cons, Nat.reduceAdd, Nat.reduceLeDiff, Nat.zero_le, Nat.reduceLT, ↓w_nil, ix_nI, nI_leP, nI_ltP, nI_eqP, nI_1, ↓i_inN, i_inN, l_le, l_lt, l_eq, r_le, r_lt, r_eq, sh42, sh43, sh37, sh9, sh23, ↓w_aload_0, ↓w_gf0, ↓w_pf0, ↓w_iconst, ↓w_istore_4, h12]
  refine lp (α := pm_MI) (U := fun k I2 => ∀ z1 z2, UU g (d - 1) 100 kX8_keepCause (pm_rm d 100) Q 1 [some (.ref 42), some (.ref 9), some (.ref 23), some (.int t), some (.int (nI k)), z1, z2] [] SH I2 J (0, 0)) (fun k I2 => (∀ a, a ≠ 42 → a ≠ 54 → I2 a = I a) ∧ (∀ j, j ≠ 6 → I2 42 j = I 42 j) ∧ I2 42 6 = nI s ∧ ∀ i x, i < k → L[T.getD i 0]? = some x → ∀ w, w < 6 → I2 54 (6 * i + w) = fwI I N t x w) s (fun k I2 hk hP w2 => ?_) (fun I2 hP => ?_) (a := pm_up I 42 6 (nI s)) ⟨fun a h1 _ => pm_up_o h1, fun j h => pm_up_n h, pm_up_s, fun i x hi => by omega⟩ none none
  · intro z1 z2
    obtain ⟨q1, q2, q3, q4⟩ := hP
    have hkT : k < T.length := by omega
    have hp := hTl _ (gD_mem hkT)
    have hdg := rk_dg (m := m) (T := T) (i := k) hm (by omega) hkT (fun x hx => by have := hTl x hx; omega)
    generalize hpe : T.getD k 0 = p at hp hdg
    obtain ⟨x, hx⟩ : ∃ x, L[p]? = some x := ⟨L[p], List.getElem?_eq_getElem hp⟩
    obtain ⟨c1, c2, c3, c4, c5⟩ := hcl.2 p x hx
    have e12 : I2 42 12 = nI s := by rw [q2 12 (by decide)]; exact h12
    have e44 : I2 44 p = x.1 := by rw [q1 44 (by decide) (by decide)]; exact c1
    have e45 : I2 45 p = x.2.1 := by rw [q1 45 (by decide) (by decide)]; exact c2
    have e46 : I2 46 p = x.2.2.1 := by rw [q1 46 (by decide) (by decide)]; exact c3
    have e47 : I2 47 p = x.2.2.2.1 := by rw [q1 47 (by decide) (by decide)]; exact c4
    have e9 := q1 9 (by decide) (by decide)
    have e10 := q1 10 (by decide) (by decide)
    have e23 : I2 23 7 = nI N := by rw [q1 23 (by decide) (by decide)]; exact h23
    have e26 := q1 26 (by decide) (by decide)
    have hp160 : p < 160 := by omega
    have q6 := w2 (pm_up (pm_up (pm_up (pm_up (pm_up (pm_up I2 54 (6 * k) x.1) 54 (6 * k + 1) x.2.1) 54 (6 * k + 2) x.2.2.1) 54 (6 * k + 3) x.2.2.2.1) 54 (6 * k + 4) (tuI I x.1 t)) 54 (6 * k + 5) (coI I N x.2.2.2.2)) ⟨fun a h1 h2 => by rw [pm_up_o h2, pm_up_o h2, pm_up_o h2, pm_up_o h2, pm_up_o h2, pm_up_o h2]; exact q1 a h1 h2, fun j hj => by rw [pm_up_o (by decide), pm_up_o (by decide), pm_up_o (by decide), pm_up_o (by decide), pm_up_o (by decide), pm_up_o (by decide)]; exact q2 j hj, by rw [pm_up_o (by decide), pm_up_o (by decide), pm_up_o (by decide), pm_up_o (by decide), pm_up_o (by decide), pm_up_o (by decide)]; exact q3, fun i y hi hy w hw => by
      by_cases e : i = k
      · subst e
        rw [hpe, hx] at hy
        cases hy
        exact six_in hw
      · rw [six_out (by omega) hw]
        exact q4 i y (by omega) hy w hw⟩ (some (.int (nI p))) (some (.int (nI (6 * k))))
    clear w2 hQ q1 q2 q3 q4 hcl hTl c1 c2 c3 c4 hx hpe
    refine bX8_keepCause_1 ?_
    simp (disch := first | omega | decide) only [w_nl0, w_nli, w_nlr, ↓w_ts1, ↓w_ts0, w_rcv, w_rfv, w_cs, true_and, and_true, List.length_nil, List.length_cons, Nat.reduceAdd, Nat.reduceLeDiff, Nat.zero_le, Nat.reduceLT, ↓w_nil, ix_nI, nI_leP, nI_ltP, nI_eqP, nI_1, ↓i_inN, i_inN, l_le, l_lt, l_eq, r_le, r_lt, r_eq, sh42, sh43, sh37, sh9, sh23, ↓w_iload_4, ↓w_aload_0, ↓w_gf0, ↓w_icge, ↓w_iconst, ↓w_gf1, ↓w_bipush, ↓w_isub, ↓w_imul, ↓w_lshr, ↓w_ldc2_4, ↓w_land, ↓w_l2i, ↓w_istore_5, ↓w_iload_5, ↓w_sipush, ↓w_is, ↓pm_cl1_2, ↓w_ifne, ↓w_vret, e12, hB, hdg]
    repeat' (first
      | (apply And.intro)
      | (with_reducible refine bX8_keepCause_2 ?_; simp (disch := first | omega | decide) only [w_nl0, w_nli, w_nlr, ↓w_ts1, ↓w_ts0, w_rcv, w_rfv, w_cs, true_and, and_true, List.length_nil, List.length_cons, Nat.reduceAdd, Nat.reduceLeDiff, Nat.zero_le, Nat.reduceLT, ↓w_nil, ix_nI, nI_leP, nI_ltP, nI_eqP, nI_1, ↓i_inN, i_inN, l_le, l_lt, l_eq, r_le, r_lt, r_eq, sh42, sh43, sh37, sh9, sh23, ↓w_aload_0, ↓w_gf0, ↓w_pf0, ↓w_iconst, ↓w_istore_4, ↓w_iload_4, ↓w_icge, ↓w_gf1, ↓w_bipush, ↓w_isub, ↓w_imul, ↓w_lshr, ↓w_ldc2_4, ↓w_land, ↓w_l2i, ↓w_istore_5, ↓w_iload_5, ↓w_sipush, ↓w_is, ↓pm_cl1_2, ↓w_ifne, ↓w_vret, ↓w_istore_6, ↓w_gf3, ↓w_iload_6, ↓w_iaload, ↓w_iastore, ↓w_iadd, ↓w_aload_1, ↓w_iload_3, ↓w_iv, ↓pm_cl2_3, ↓w_aload_2, ↓w_laload, ↓pm_cl2_2, ↓w_iinc_4, ↓w_goto, e12, hB, hdg, hp160, if_true, pm_up_o, nI_m6, nI_p2, nI_p3, nI_p4, nI_p5w, e44, e45, e46, e47, c5])
      | (with_reducible refine c_below (by omega) ?_ ; simp (disch := first | omega | decide) only [w_nl0, w_nli, w_nlr, ↓w_ts1, ↓w_ts0, w_rcv, w_rfv, w_cs, true_and, and_true, List.length_nil, List.length_cons, Nat.reduceAdd, Nat.reduceLeDiff, Nat.zero_le, Nat.reduceLT, ↓w_nil, ix_nI, nI_leP, nI_ltP, nI_eqP, nI_1, ↓i_inN, i_inN, l_le, l_lt, l_eq, r_le, r_lt, r_eq, sh42, sh43, sh37, sh9, sh23, ↓w_aload_0, ↓w_gf0, ↓w_pf0, ↓w_iconst, ↓w_istore_4, ↓w_iload_4, ↓w_icge, ↓w_gf1, ↓w_bipush, ↓w_isub, ↓w_imul, ↓w_lshr, ↓w_ldc2_4, ↓w_land, ↓w_l2i, ↓w_istore_5, ↓w_iload_5, ↓w_sipush, ↓w_is, ↓pm_cl1_2, ↓w_ifne, ↓w_vret, ↓w_istore_6, ↓w_gf3, ↓w_iload_6, ↓w_iaload, ↓w_iastore, ↓w_iadd, ↓w_aload_1, ↓w_iload_3, ↓w_iv, ↓pm_cl2_3, ↓w_aload_2, ↓w_laload, ↓pm_cl2_2, ↓w_iinc_4, ↓w_goto, e12, hB, hdg, hp160, if_true, pm_up_o, nI_m6, nI_p2, nI_p3, nI_p4, nI_p5w, e44, e45, e46, e47, c5])
      | (with_reducible refine c_turnT (I0 := I) (by omega) (by rw [pm_up_o (by decide), pm_up_o (by decide), pm_up_o (by decide), pm_up_o (by decide), e9]) (by rw [pm_up_o (by decide), pm_up_o (by decide), pm_up_o (by decide), pm_up_o (by decide), e10]) ?_ ; simp (disch := first | omega | decide) only [w_nl0, w_nli, w_nlr, ↓w_ts1, ↓w_ts0, w_rcv, w_rfv, w_cs, true_and, and_true, List.length_nil, List.length_cons, Nat.reduceAdd, Nat.reduceLeDiff, Nat.zero_le, Nat.reduceLT, ↓w_nil, ix_nI, nI_leP, nI_ltP, nI_eqP, nI_1, ↓i_inN, i_inN, l_le, l_lt, l_eq, r_le, r_lt, r_eq, sh42, sh43, sh37, sh9, sh23, ↓w_aload_0, ↓w_gf0, ↓w_pf0, ↓w_iconst, ↓w_istore_4, ↓w_iload_4, ↓w_icge, ↓w_gf1, ↓w_bipush, ↓w_isub, ↓w_imul, ↓w_lshr, ↓w_ldc2_4, ↓w_land, ↓w_l2i, ↓w_istore_5, ↓w_iload_5, ↓w_sipush, ↓w_is, ↓pm_cl1_2, ↓w_ifne, ↓w_vret, ↓w_istore_6, ↓w_gf3, ↓w_iload_6, ↓w_iaload, ↓w_iastore, ↓w_iadd, ↓w_aload_1, ↓w_iload_3, ↓w_iv, ↓pm_cl2_3, ↓w_aload_2, ↓w_laload, ↓pm_cl2_2, ↓w_iinc_4, ↓w_goto, e12, hB, hdg, hp160, if_true, pm_up_o, nI_m6, nI_p2, nI_p3, nI_p4, nI_p5w, e44, e45, e46, e47, c5])
      | (with_reducible refine c_copT (I0 := I) (N := N) (by omega) (by rw [pm_up_o (by decide), pm_up_o (by decide), pm_up_o (by decide), pm_up_o (by decide), pm_up_o (by decide), e23]) hN (by rw [pm_up_o (by decide), pm_up_o (by decide), pm_up_o (by decide), pm_up_o (by decide), pm_up_o (by decide), e26]) ?_ ; simp (disch := first | omega | decide) only [w_nl0, w_nli, w_nlr, ↓w_ts1, ↓w_ts0, w_rcv, w_rfv, w_cs, true_and, and_true, List.length_nil, List.length_cons, Nat.reduceAdd, Nat.reduceLeDiff, Nat.zero_le, Nat.reduceLT, ↓w_nil, ix_nI, nI_leP, nI_ltP, nI_eqP, nI_1, ↓i_inN, i_inN, l_le, l_lt, l_eq, r_le, r_lt, r_eq, sh42, sh43, sh37, sh9, sh23, ↓w_aload_0, ↓w_gf0, ↓w_pf0, ↓w_iconst, ↓w_istore_4, ↓w_iload_4, ↓w_icge, ↓w_gf1, ↓w_bipush, ↓w_isub, ↓w_imul, ↓w_lshr, ↓w_ldc2_4, ↓w_land, ↓w_l2i, ↓w_istore_5, ↓w_iload_5, ↓w_sipush, ↓w_is, ↓pm_cl1_2, ↓w_ifne, ↓w_vret, ↓w_istore_6, ↓w_gf3, ↓w_iload_6, ↓w_iaload, ↓w_iastore, ↓w_iadd, ↓w_aload_1, ↓w_iload_3, ↓w_iv, ↓pm_cl2_3, ↓w_aload_2, ↓w_laload, ↓pm_cl2_2, ↓w_iinc_4, ↓w_goto, e12, hB, hdg, hp160, if_true, pm_up_o, nI_m6, nI_p2, nI_p3, nI_p4, nI_p5w, e44, e45, e46, e47, c5])
      | (simp only [w_in])
      | (intro _))
    all_goals first | (with_reducible exact q6) | omega | grind
  · intro z1 z2
    have q := hQ I2 hP
    have e12 : I2 42 12 = nI s := by rw [hP.2.1 12 (by decide)]; exact h12
    clear hQ hP hcl hTl hB
    refine bX8_keepCause_1 ?_
    simp (disch := first | omega | decide) only [w_nl0, w_nli, w_nlr, ↓w_ts1, ↓w_ts0, w_rcv, w_rfv, w_cs, true_and, and_true, List.length_nil, List.length_cons, Nat.reduceAdd, Nat.reduceLeDiff, Nat.zero_le, Nat.reduceLT, ↓w_nil, ix_nI, nI_leP, nI_ltP, nI_eqP, nI_1, ↓i_inN, i_inN, l_le, l_lt, l_eq, r_le, r_lt, r_eq, sh42, sh43, sh37, sh9, sh23, ↓w_iload_4, ↓w_aload_0, ↓w_gf0, ↓w_icge, ↓w_iconst, ↓w_gf1, ↓w_bipush, ↓w_isub, ↓w_imul, ↓w_lshr, ↓w_ldc2_4, ↓w_land, ↓w_l2i, ↓w_istore_5, ↓w_iload_5, ↓w_sipush, ↓w_is, ↓pm_cl1_2, ↓w_ifne, ↓w_vret, e12]
    repeat' (first
      | (apply And.intro)
      | (with_reducible refine bX8_keepCause_3 ?_; simp (disch := first | omega | decide) only [w_nl0, w_nli, w_nlr, ↓w_ts1, ↓w_ts0, w_rcv, w_rfv, w_cs, true_and, and_true, List.length_nil, List.length_cons, Nat.reduceAdd, Nat.reduceLeDiff, Nat.zero_le, Nat.reduceLT, ↓w_nil, ix_nI, nI_leP, nI_ltP, nI_eqP, nI_1, ↓i_inN, i_inN, l_le, l_lt, l_eq, r_le, r_lt, r_eq, sh42, sh43, sh37, sh9, sh23, ↓w_aload_0, ↓w_gf0, ↓w_pf0, ↓w_iconst, ↓w_istore_4, ↓w_iload_4, ↓w_icge, ↓w_gf1, ↓w_bipush, ↓w_isub, ↓w_imul, ↓w_lshr, ↓w_ldc2_4, ↓w_land, ↓w_l2i, ↓w_istore_5, ↓w_iload_5, ↓w_sipush, ↓w_is, ↓pm_cl1_2, ↓w_ifne, ↓w_vret, ↓w_istore_6, ↓w_gf3, ↓w_iload_6, ↓w_iaload, ↓w_iastore, ↓w_iadd, ↓w_aload_1, ↓w_iload_3, ↓w_iv, ↓pm_cl2_3, ↓w_aload_2, ↓w_laload, ↓pm_cl2_2, ↓w_iinc_4, ↓w_goto, e12])
      | (simp only [w_in])
      | (intro _))
    all_goals first | (with_reducible exact q) | omega | grind
theorem c_cm {m : Nat} {T : List Nat} (hd : 1 ≤ d) (hB : J 42 11 = lN (rkT m T)) (hm : m ≤ 64) (hl : T.length ≤ 3) (hT : ∀ x, x ∈ T → x < 160) (hQ : Q (some (.int (nI m))) SH I J) : pm_C g d 99 [.ref 42] Q SH I J := by
  have e := rk_mi hm hl hT
  refine eX8_causeMisses (by omega) ?_
  refine bX8_causeMisses_0 ?_
  simp (disch := first | omega | decide) only [w_nl0, w_nli, w_nlr, ↓w_ts1, ↓w_ts0, w_rcv, w_rfv, w_cs, true_and, and_true, List.length_nil, List.length_cons, Nat.reduceAdd, Nat.reduceLeDiff, Nat.zero_le, Nat.reduceLT, ↓w_nil, ix_nI, nI_leP, nI_ltP, nI_eqP, nI_1, ↓i_inN, i_inN, l_le, l_lt, l_eq, r_le, r_lt, r_eq, sh42, sh43, sh37, sh9, sh23, ↓w_aload_0, ↓w_gf1, ↓w_bipush, ↓w_lshr, ↓w_l2i, ↓w_ret, hB, e]
  all_goals first | (with_reducible exact hQ) | omega | grind
end C91x
