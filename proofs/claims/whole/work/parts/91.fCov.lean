section C91f
variable {g : pm_G} {d : Nat} {Q : pm_Po} {S : pm_SS} {I : pm_MI} {J : pm_ML}
theorem mfr_low {n m : Nat} (hF : fOk (I 12) n) (hn : I 9 9 = nI n) (hn40 : n ≤ 40) (hm : m < n) : ∀ (q : Nat) (on k : Int32), (k = -9 ∨ ∃ j, j < m ∧ k = nI j) → mfr I (nI m) q on k = -9
  | 0, _, _, _ => rfl
  | q + 1, on, k, h => by
    rcases h with h | ⟨j, hj, h⟩
    · rw [h, mfr_none]
    · have hne : ¬ nI j = nI m := fun z => by have := nI_inj (by omega) (by omega) z; omega
      have hix : (nI j).toNatClampNeg = j := ix_nI (by omega)
      rw [h, mfr, if_pos (hasM_nI hn (by omega) hn40), if_neg hne, hix]
      refine mfr_low hF hn hn40 hm q _ _ ?_
      rcases hF j (by omega) with h | ⟨i, hi, h⟩
      · exact Or.inl h
      · exact Or.inr ⟨i, by omega, h⟩
theorem le9 {y : Nat} (h : y < 1000000) : ¬ nI y ≤ -9 := by
  have := nI_pos' (n := y) (by omega)
  grind
set_option maxHeartbeats 4000000 in
theorem c_coverMetals {n N r f : Nat} {K : List (Nat × Nat)} {st : Nat → Nat} (hd : 3 ≤ d) (a1 : I 9 9 = nI n) (a2 : n ≤ 40) (a3 : fOk (I 12) n) (n1 : I 23 7 = nI N) (n2 : N ≤ 30) (hr : r < N) (hf : f < 2) (hst : ∃ i, i < n ∧ I 28 (2 * r + f) = nI i) (k45 : ∀ p x, K[p]? = some x → I 45 p = nI x.2) (k49 : ∀ m, m < n → I 49 m = nI (st m) ∧ I 49 (m + 1) = nI (st (m + 1))) (kin : ∀ m p, m < n → st m ≤ p → p < st (m + 1) → ∃ y, K[p]? = some (m, y)) (kat : ∀ p x, K[p]? = some x → x.1 < n ∧ st x.1 ≤ p ∧ p < st (x.1 + 1) ∧ x.2 < 1000) (kb : ∀ m, m < n → st m ≤ st (m + 1) ∧ st (m + 1) ≤ 100) (hQ : ∀ J', (∀ a, a ≠ 48 → J' a = J a) → (∀ p x, K[p]? = some x → J' 48 p = J 48 p ||| (if nI x.2 ≤ mfr I (nI x.1) 40 (I 25 r) (I 28 (2 * r + f)) then bitL (2 * r + f) else 0)) → Q none SH I J') : pm_C g d 39 [.ref 43, .ref 9, .ref 23, .int (nI r), .int (nI f)] Q SH I J := by
  have key : ∀ q s, q + s = 40 → ∀ made cur J2 z, (cur = -9 ∨ ∃ i, i < n ∧ cur = nI i) → (∀ J', (∀ a, a ≠ 48 → J' a = J2 a) → (∀ p x, K[p]? = some x → J' 48 p = J2 48 p ||| (if nI x.2 ≤ mfr I (nI x.1) q made cur then bitL (2 * r + f) else 0)) → Q none SH I J') → UU g (d - 1) 39 kX2_coverMetals (pm_rm d 39) Q 1 [some (.ref 43), some (.ref 9), some (.ref 23), some (.int (nI r)), some (.int (nI f)), some (.int made), some (.int cur), some (.int (nI s)), z] [] SH I J2 (0, 0) := by
    intro q
    induction q with
    | zero =>
      intro s hs made cur J2 z hcur h
      have hq := h J2 (fun _ _ => rfl) (fun p x hx => by
        rw [mfr, if_neg (le9 (by have := (kat p x hx).2.2.2; omega)), l_or0])
      have e40 : s = 40 := by omega
      subst e40
      clear h hQ kat kin k45 k49 a3 hcur kb hst
      refine bX2_coverMetals_1 ?_
      simp (disch := first | omega | decide) only [w_nl0, w_nli, w_nlr, ↓w_ts1, ↓w_ts0, w_rcv, w_rfv, w_cs, true_and, and_true, List.length_nil, List.length_cons, Nat.reduceAdd, Nat.reduceLeDiff, Nat.zero_le, Nat.reduceLT, ↓w_nil, ix_nI, nI_leP, nI_ltP, nI_eqP, nI_1, ↓i_inN, i_inN, l_le, l_lt, l_eq, r_le, r_lt, r_eq, sh43, sh9, sh23, ↓w_iload_7, ↓w_bipush, ↓w_icge, ↓w_aload_1, ↓w_iload_6, ↓w_iv, ↓pm_cl2_2, ↓w_ifeq, ↓w_aload_0, ↓w_gf3, ↓w_iaload, ↓w_istore_8]
      repeat' (first
        | (apply And.intro)
        | (with_reducible refine bX2_coverMetals_5 ?_; simp (disch := first | omega | decide) only [w_nl0, w_nli, w_nlr, ↓w_ts1, ↓w_ts0, w_rcv, w_rfv, w_cs, true_and, and_true, List.length_nil, List.length_cons, Nat.reduceAdd, Nat.reduceLeDiff, Nat.zero_le, Nat.reduceLT, ↓w_nil, ix_nI, nI_leP, nI_ltP, nI_eqP, nI_1, ↓i_inN, i_inN, l_le, l_lt, l_eq, r_le, r_lt, r_eq, sh43, sh9, sh23, ↓w_aload_2, ↓w_iload_3, ↓w_iv, ↓pm_cl2_2, ↓w_istore_5, ↓w_iload_4, ↓pm_cl2_3, ↓w_istore_6, ↓w_iconst, ↓w_istore_7, ↓w_iload_7, ↓w_bipush, ↓w_icge, ↓w_aload_1, ↓w_iload_6, ↓w_ifeq, ↓w_aload_0, ↓w_gf3, ↓w_iaload, ↓w_istore_8, ↓w_iload_8, ↓w_iadd, ↓w_iload_5, ↓w_icgt, ↓w_dup2, ↓w_laload, ↓w_lconst1, ↓w_imul, ↓w_lshl, ↓w_lor, ↓w_lastore, ↓w_iinc_8, ↓w_goto, ↓w_iinc_7, ↓w_vret])
        | (simp only [w_in])
        | (intro _))
      all_goals first | (with_reducible exact hq) | omega | grind
    | succ q ih =>
      intro s hs made cur J2 z hcur h
      rcases hcur with rfl | ⟨i, hi, rfl⟩
      · have hq := h J2 (fun _ _ => rfl) (fun p x hx => by
          rw [mfr_none, if_neg (le9 (by have := (kat p x hx).2.2.2; omega)), l_or0])
        have hnh : ¬ hasM I (-9) := not_hasM
        clear h hQ kat kin k45 k49 a3 kb hst ih
        refine bX2_coverMetals_1 ?_
        simp (disch := first | omega | decide) only [w_nl0, w_nli, w_nlr, ↓w_ts1, ↓w_ts0, w_rcv, w_rfv, w_cs, true_and, and_true, List.length_nil, List.length_cons, Nat.reduceAdd, Nat.reduceLeDiff, Nat.zero_le, Nat.reduceLT, ↓w_nil, ix_nI, nI_leP, nI_ltP, nI_eqP, nI_1, ↓i_inN, i_inN, l_le, l_lt, l_eq, r_le, r_lt, r_eq, sh43, sh9, sh23, ↓w_iload_7, ↓w_bipush, ↓w_icge, ↓w_aload_1, ↓w_iload_6, ↓w_iv, ↓pm_cl2_2, ↓w_ifeq, ↓w_aload_0, ↓w_gf3, ↓w_iaload, ↓w_istore_8]
        repeat' (first
          | (apply And.intro)
          | (with_reducible refine bX2_coverMetals_5 ?_; simp (disch := first | omega | decide) only [w_nl0, w_nli, w_nlr, ↓w_ts1, ↓w_ts0, w_rcv, w_rfv, w_cs, true_and, and_true, List.length_nil, List.length_cons, Nat.reduceAdd, Nat.reduceLeDiff, Nat.zero_le, Nat.reduceLT, ↓w_nil, ix_nI, nI_leP, nI_ltP, nI_eqP, nI_1, ↓i_inN, i_inN, l_le, l_lt, l_eq, r_le, r_lt, r_eq, sh43, sh9, sh23, ↓w_aload_2, ↓w_iload_3, ↓w_iv, ↓pm_cl2_2, ↓w_istore_5, ↓w_iload_4, ↓pm_cl2_3, ↓w_istore_6, ↓w_iconst, ↓w_istore_7, ↓w_iload_7, ↓w_bipush, ↓w_icge, ↓w_aload_1, ↓w_iload_6, ↓w_ifeq, ↓w_aload_0, ↓w_gf3, ↓w_iaload, ↓w_istore_8, ↓w_iload_8, ↓w_iadd, ↓w_iload_5, ↓w_icgt, ↓w_dup2, ↓w_laload, ↓w_lconst1, ↓w_imul, ↓w_lshl, ↓w_lor, ↓w_lastore, ↓w_iinc_8, ↓w_goto, ↓w_iinc_7, ↓w_vret, if_neg hnh])
          | (with_reducible refine c_M_has (by omega) ?_ ; simp (disch := first | omega | decide) only [w_nl0, w_nli, w_nlr, ↓w_ts1, ↓w_ts0, w_rcv, w_rfv, w_cs, true_and, and_true, List.length_nil, List.length_cons, Nat.reduceAdd, Nat.reduceLeDiff, Nat.zero_le, Nat.reduceLT, ↓w_nil, ix_nI, nI_leP, nI_ltP, nI_eqP, nI_1, ↓i_inN, i_inN, l_le, l_lt, l_eq, r_le, r_lt, r_eq, sh43, sh9, sh23, ↓w_aload_2, ↓w_iload_3, ↓w_iv, ↓pm_cl2_2, ↓w_istore_5, ↓w_iload_4, ↓pm_cl2_3, ↓w_istore_6, ↓w_iconst, ↓w_istore_7, ↓w_iload_7, ↓w_bipush, ↓w_icge, ↓w_aload_1, ↓w_iload_6, ↓w_ifeq, ↓w_aload_0, ↓w_gf3, ↓w_iaload, ↓w_istore_8, ↓w_iload_8, ↓w_iadd, ↓w_iload_5, ↓w_icgt, ↓w_dup2, ↓w_laload, ↓w_lconst1, ↓w_imul, ↓w_lshl, ↓w_lor, ↓w_lastore, ↓w_iinc_8, ↓w_goto, ↓w_iinc_7, ↓w_vret, if_neg hnh])
          | (simp only [w_in])
          | (intro _))
        all_goals first | (with_reducible exact hq) | omega | grind
      · have hh := hasM_nI a1 hi a2
        have hix : (nI i).toNatClampNeg = i := ix_nI (by omega)
        obtain ⟨e49, e49'⟩ := k49 i hi
        obtain ⟨kb1, kb2⟩ := kb i hi
        have w4 : ∀ J3, (∀ a, a ≠ 48 → J3 a = J2 a) → (∀ p, J3 48 p = if (st i ≤ p ∧ p < st (i + 1)) ∧ I 45 p ≤ made then J2 48 p ||| bitL (2 * r + f) else J2 48 p) → ∀ z, UU g (d - 1) 39 kX2_coverMetals (pm_rm d 39) Q 4 [some (.ref 43), some (.ref 9), some (.ref 23), some (.int (nI r)), some (.int (nI f)), some (.int made), some (.int (nI i)), some (.int (nI s)), z] [] SH I J3 (0, 0) := by
          intro J3 g1 g2 z
          have w := ih (s + 1) (by omega) (I 14 i) (I 12 i) J3 z (by
            rcases a3 i hi with e | ⟨j, hj, e⟩
            · exact Or.inl e
            · exact Or.inr ⟨j, by omega, e⟩) (fun J' h1 h2 => h J' (fun a ha => (h1 a ha).trans (g1 a ha)) (fun p x hx => by
            rw [h2 p x hx, g2 p, k45 p x hx]
            obtain ⟨x1, x2, x3, x4⟩ := kat p x hx
            by_cases e : x.1 = i
            · have e1 : mfr I (nI x.1) q (I 14 i) (I 12 i) = -9 := by
                rw [e]
                refine mfr_low a3 a1 a2 hi q _ _ ?_
                rcases a3 i hi with e | ⟨j, hj, e⟩
                · exact Or.inl e
                · exact Or.inr ⟨j, by omega, e⟩
              have e2 : mfr I (nI x.1) (q + 1) made (nI i) = made := by rw [mfr, if_pos hh, e, if_pos rfl]
              rw [e1, e2, if_neg (le9 (by omega)), l_or0]
              rw [e] at x2 x3
              by_cases c : nI x.2 ≤ made
              · rw [if_pos ⟨⟨x2, x3⟩, c⟩, if_pos c]
              · rw [if_neg (fun z => c z.2), if_neg c, l_or0]
            · have e2 : mfr I (nI x.1) (q + 1) made (nI i) = mfr I (nI x.1) q (I 14 i) (I 12 i) := by
                rw [mfr, if_pos hh, if_neg (fun z => e (nI_inj (by omega) (by omega) z).symm), hix]
              rw [e2, if_neg (fun z => e (by
                obtain ⟨y, hy⟩ := kin i p hi z.1.1 z.1.2
                rw [hx] at hy
                exact congrArg Prod.fst (Option.some.inj hy)))]))
          clear h hQ kat kin k45 k49 a3 kb hst ih
          refine bX2_coverMetals_4 ?_
          simp (disch := first | omega | decide) only [w_nl0, w_nli, w_nlr, ↓w_ts1, ↓w_ts0, w_rcv, w_rfv, w_cs, true_and, and_true, List.length_nil, List.length_cons, Nat.reduceAdd, Nat.reduceLeDiff, Nat.zero_le, Nat.reduceLT, ↓w_nil, ix_nI, nI_leP, nI_ltP, nI_eqP, nI_1, ↓i_inN, i_inN, l_le, l_lt, l_eq, r_le, r_lt, r_eq, sh43, sh9, sh23, ↓w_aload_1, ↓w_iload_6, ↓w_iv, ↓pm_cl2_2, ↓w_istore_5, ↓w_istore_6, ↓w_iinc_7, ↓w_goto]
          repeat' (first
            | (apply And.intro)
            | (with_reducible refine c_bornOn (by omega) ?_ ; simp (disch := first | omega | decide) only [w_nl0, w_nli, w_nlr, ↓w_ts1, ↓w_ts0, w_rcv, w_rfv, w_cs, true_and, and_true, List.length_nil, List.length_cons, Nat.reduceAdd, Nat.reduceLeDiff, Nat.zero_le, Nat.reduceLT, ↓w_nil, ix_nI, nI_leP, nI_ltP, nI_eqP, nI_1, ↓i_inN, i_inN, l_le, l_lt, l_eq, r_le, r_lt, r_eq, sh43, sh9, sh23, ↓w_aload_2, ↓w_iload_3, ↓w_iv, ↓pm_cl2_2, ↓w_istore_5, ↓w_iload_4, ↓pm_cl2_3, ↓w_istore_6, ↓w_iconst, ↓w_istore_7, ↓w_iload_7, ↓w_bipush, ↓w_icge, ↓w_aload_1, ↓w_iload_6, ↓w_ifeq, ↓w_aload_0, ↓w_gf3, ↓w_iaload, ↓w_istore_8, ↓w_iload_8, ↓w_iadd, ↓w_iload_5, ↓w_icgt, ↓w_dup2, ↓w_laload, ↓w_lconst1, ↓w_imul, ↓w_lshl, ↓w_lor, ↓w_lastore, ↓w_iinc_8, ↓w_goto, ↓w_iinc_7, ↓w_vret, if_pos hh, hix])
            | (with_reducible refine c_fatherOf (by omega) ?_ ; simp (disch := first | omega | decide) only [w_nl0, w_nli, w_nlr, ↓w_ts1, ↓w_ts0, w_rcv, w_rfv, w_cs, true_and, and_true, List.length_nil, List.length_cons, Nat.reduceAdd, Nat.reduceLeDiff, Nat.zero_le, Nat.reduceLT, ↓w_nil, ix_nI, nI_leP, nI_ltP, nI_eqP, nI_1, ↓i_inN, i_inN, l_le, l_lt, l_eq, r_le, r_lt, r_eq, sh43, sh9, sh23, ↓w_aload_2, ↓w_iload_3, ↓w_iv, ↓pm_cl2_2, ↓w_istore_5, ↓w_iload_4, ↓pm_cl2_3, ↓w_istore_6, ↓w_iconst, ↓w_istore_7, ↓w_iload_7, ↓w_bipush, ↓w_icge, ↓w_aload_1, ↓w_iload_6, ↓w_ifeq, ↓w_aload_0, ↓w_gf3, ↓w_iaload, ↓w_istore_8, ↓w_iload_8, ↓w_iadd, ↓w_iload_5, ↓w_icgt, ↓w_dup2, ↓w_laload, ↓w_lconst1, ↓w_imul, ↓w_lshl, ↓w_lor, ↓w_lastore, ↓w_iinc_8, ↓w_goto, ↓w_iinc_7, ↓w_vret, if_pos hh, hix])
            | (simp only [w_in])
            | (intro _))
          all_goals first | (with_reducible exact w) | omega | grind
        have w2 : UU g (d - 1) 39 kX2_coverMetals (pm_rm d 39) Q 2 [some (.ref 43), some (.ref 9), some (.ref 23), some (.int (nI r)), some (.int (nI f)), some (.int made), some (.int (nI i)), some (.int (nI s)), some (.int (nI (st i)))] [] SH I J2 (0, 0) := by
          refine lp (α := pm_ML) (U := fun k J3 => UU g (d - 1) 39 kX2_coverMetals (pm_rm d 39) Q 2 [some (.ref 43), some (.ref 9), some (.ref 23), some (.int (nI r)), some (.int (nI f)), some (.int made), some (.int (nI i)), some (.int (nI s)), some (.int (nI (st i + k)))] [] SH I J3 (0, 0)) (fun k J3 => (∀ a, a ≠ 48 → J3 a = J2 a) ∧ ∀ p, J3 48 p = if (st i ≤ p ∧ p < st i + k) ∧ I 45 p ≤ made then J2 48 p ||| bitL (2 * r + f) else J2 48 p) (st (i + 1) - st i) (fun k J3 hk hP w => ?_) (fun J3 hP => ?_) (a := J2) ⟨fun _ _ => rfl, fun p => by rw [if_neg (by omega)]⟩
          · obtain ⟨g1, g2⟩ := hP
            have g3 := g2 (st i + k)
            rw [if_neg (by omega)] at g3
            by_cases c : I 45 (st i + k) ≤ made
            · have w' := w (pm_upL J3 48 (st i + k) (J2 48 (st i + k) ||| bitL (2 * r + f))) ⟨fun a ha => by rw [pm_upL_o ha]; exact g1 a ha, fun p => by
                by_cases e : p = st i + k
                · subst e; rw [pm_upL_s, if_pos ⟨⟨by omega, by omega⟩, c⟩]
                · rw [pm_upL_n e, g2 p]
                  by_cases c2 : (st i ≤ p ∧ p < st i + k) ∧ I 45 p ≤ made
                  · rw [if_pos c2, if_pos ⟨⟨by omega, by omega⟩, c2.2⟩]
                  · rw [if_neg c2, if_neg (fun z => c2 ⟨⟨by omega, by omega⟩, z.2⟩)]⟩
              have w3 : UU g (d - 1) 39 kX2_coverMetals (pm_rm d 39) Q 3 [some (.ref 43), some (.ref 9), some (.ref 23), some (.int (nI r)), some (.int (nI f)), some (.int made), some (.int (nI i)), some (.int (nI s)), some (.int (nI (st i + k)))] [] SH I (pm_upL J3 48 (st i + k) (J2 48 (st i + k) ||| bitL (2 * r + f))) (0, 0) := by
                clear h hQ kat kin k45 k49 a3 kb hst ih w w4 g2
                refine bX2_coverMetals_3 ?_
                simp (disch := first | omega | decide) only [w_nl0, w_nli, w_nlr, ↓w_ts1, ↓w_ts0, w_rcv, w_rfv, w_cs, true_and, and_true, List.length_nil, List.length_cons, Nat.reduceAdd, Nat.reduceLeDiff, Nat.zero_le, Nat.reduceLT, ↓w_nil, ix_nI, nI_leP, nI_ltP, nI_eqP, nI_1, ↓i_inN, i_inN, l_le, l_lt, l_eq, r_le, r_lt, r_eq, sh43, sh9, sh23, ↓w_iinc_8, ↓w_goto]
                repeat' (first
                  | (apply And.intro)
                  | (simp only [w_in])
                  | (intro _))
                all_goals first | (with_reducible exact w') | omega | grind
              clear h hQ kat kin k45 k49 a3 kb hst ih w w4 g2 w'
              refine bX2_coverMetals_2 ?_
              simp (disch := first | omega | decide) only [w_nl0, w_nli, w_nlr, ↓w_ts1, ↓w_ts0, w_rcv, w_rfv, w_cs, true_and, and_true, List.length_nil, List.length_cons, Nat.reduceAdd, Nat.reduceLeDiff, Nat.zero_le, Nat.reduceLT, ↓w_nil, ix_nI, nI_leP, nI_ltP, nI_eqP, nI_1, ↓i_inN, i_inN, l_le, l_lt, l_eq, r_le, r_lt, r_eq, sh43, sh9, sh23, ↓w_iload_8, ↓w_aload_0, ↓w_gf3, ↓w_iload_6, ↓w_iconst, ↓w_iadd, ↓w_iaload, ↓w_icge, ↓w_iload_5, ↓w_icgt, ↓w_dup2, ↓w_laload, ↓w_lconst1, ↓w_iload_3, ↓w_imul, ↓w_iload_4, ↓w_lshl, ↓w_lor, ↓w_lastore, e49', g3, nI_2m, nI_add, bitL_f]
              repeat' (first
                | (apply And.intro)
                | (simp only [w_in])
                | (intro _))
              all_goals first | (with_reducible exact w3) | omega | grind
            · have w' := w J3 ⟨g1, fun p => by
                rw [g2 p]
                by_cases c2 : (st i ≤ p ∧ p < st i + k) ∧ I 45 p ≤ made
                · rw [if_pos c2, if_pos ⟨⟨by omega, by omega⟩, c2.2⟩]
                · rw [if_neg c2, if_neg (fun z => by
                    by_cases e : p = st i + k
                    · subst e; exact c z.2
                    · exact c2 ⟨⟨by omega, by omega⟩, z.2⟩)]⟩
              clear h hQ kat kin k45 k49 a3 kb hst ih w w4 g2
              refine bX2_coverMetals_2 ?_
              simp (disch := first | omega | decide) only [w_nl0, w_nli, w_nlr, ↓w_ts1, ↓w_ts0, w_rcv, w_rfv, w_cs, true_and, and_true, List.length_nil, List.length_cons, Nat.reduceAdd, Nat.reduceLeDiff, Nat.zero_le, Nat.reduceLT, ↓w_nil, ix_nI, nI_leP, nI_ltP, nI_eqP, nI_1, ↓i_inN, i_inN, l_le, l_lt, l_eq, r_le, r_lt, r_eq, sh43, sh9, sh23, ↓w_iload_8, ↓w_aload_0, ↓w_gf3, ↓w_iload_6, ↓w_iconst, ↓w_iadd, ↓w_iaload, ↓w_icge, ↓w_iload_5, ↓w_icgt, ↓w_dup2, ↓w_laload, ↓w_lconst1, ↓w_iload_3, ↓w_imul, ↓w_iload_4, ↓w_lshl, ↓w_lor, ↓w_lastore, e49']
              repeat' (first
                | (apply And.intro)
                | (with_reducible refine bX2_coverMetals_3 ?_; simp (disch := first | omega | decide) only [w_nl0, w_nli, w_nlr, ↓w_ts1, ↓w_ts0, w_rcv, w_rfv, w_cs, true_and, and_true, List.length_nil, List.length_cons, Nat.reduceAdd, Nat.reduceLeDiff, Nat.zero_le, Nat.reduceLT, ↓w_nil, ix_nI, nI_leP, nI_ltP, nI_eqP, nI_1, ↓i_inN, i_inN, l_le, l_lt, l_eq, r_le, r_lt, r_eq, sh43, sh9, sh23, ↓w_aload_2, ↓w_iload_3, ↓w_iv, ↓pm_cl2_2, ↓w_istore_5, ↓w_iload_4, ↓pm_cl2_3, ↓w_istore_6, ↓w_iconst, ↓w_istore_7, ↓w_iload_7, ↓w_bipush, ↓w_icge, ↓w_aload_1, ↓w_iload_6, ↓w_ifeq, ↓w_aload_0, ↓w_gf3, ↓w_iaload, ↓w_istore_8, ↓w_iload_8, ↓w_iadd, ↓w_iload_5, ↓w_icgt, ↓w_dup2, ↓w_laload, ↓w_lconst1, ↓w_imul, ↓w_lshl, ↓w_lor, ↓w_lastore, ↓w_iinc_8, ↓w_goto, ↓w_iinc_7, ↓w_vret, e49'])
                | (simp only [w_in])
                | (intro _))
              all_goals first | (with_reducible exact w') | omega | grind
          · obtain ⟨g1, g2⟩ := hP
            rw [show st i + (st (i + 1) - st i) = st (i + 1) by omega] at g2 ⊢
            have w' := w4 J3 g1 g2 (some (.int (nI (st (i + 1)))))
            clear h hQ kat kin k45 k49 a3 kb hst ih w4 g2
            refine bX2_coverMetals_2 ?_
            simp (disch := first | omega | decide) only [w_nl0, w_nli, w_nlr, ↓w_ts1, ↓w_ts0, w_rcv, w_rfv, w_cs, true_and, and_true, List.length_nil, List.length_cons, Nat.reduceAdd, Nat.reduceLeDiff, Nat.zero_le, Nat.reduceLT, ↓w_nil, ix_nI, nI_leP, nI_ltP, nI_eqP, nI_1, ↓i_inN, i_inN, l_le, l_lt, l_eq, r_le, r_lt, r_eq, sh43, sh9, sh23, ↓w_iload_8, ↓w_aload_0, ↓w_gf3, ↓w_iload_6, ↓w_iconst, ↓w_iadd, ↓w_iaload, ↓w_icge, ↓w_iload_5, ↓w_icgt, ↓w_dup2, ↓w_laload, ↓w_lconst1, ↓w_iload_3, ↓w_imul, ↓w_iload_4, ↓w_lshl, ↓w_lor, ↓w_lastore, e49']
            repeat' (first
              | (apply And.intro)
              | (simp only [w_in])
              | (intro _))
            all_goals first | (with_reducible exact w') | omega | grind
        clear h hQ kat kin k45 k49 a3 kb hst ih w4
        refine bX2_coverMetals_1 ?_
        simp (disch := first | omega | decide) only [w_nl0, w_nli, w_nlr, ↓w_ts1, ↓w_ts0, w_rcv, w_rfv, w_cs, true_and, and_true, List.length_nil, List.length_cons, Nat.reduceAdd, Nat.reduceLeDiff, Nat.zero_le, Nat.reduceLT, ↓w_nil, ix_nI, nI_leP, nI_ltP, nI_eqP, nI_1, ↓i_inN, i_inN, l_le, l_lt, l_eq, r_le, r_lt, r_eq, sh43, sh9, sh23, ↓w_iload_7, ↓w_bipush, ↓w_icge, ↓w_aload_1, ↓w_iload_6, ↓w_iv, ↓pm_cl2_2, ↓w_ifeq, ↓w_aload_0, ↓w_gf3, ↓w_iaload, ↓w_istore_8]
        repeat' (first
          | (apply And.intro)
          | (with_reducible refine c_M_has (by omega) ?_ ; simp (disch := first | omega | decide) only [w_nl0, w_nli, w_nlr, ↓w_ts1, ↓w_ts0, w_rcv, w_rfv, w_cs, true_and, and_true, List.length_nil, List.length_cons, Nat.reduceAdd, Nat.reduceLeDiff, Nat.zero_le, Nat.reduceLT, ↓w_nil, ix_nI, nI_leP, nI_ltP, nI_eqP, nI_1, ↓i_inN, i_inN, l_le, l_lt, l_eq, r_le, r_lt, r_eq, sh43, sh9, sh23, ↓w_aload_2, ↓w_iload_3, ↓w_iv, ↓pm_cl2_2, ↓w_istore_5, ↓w_iload_4, ↓pm_cl2_3, ↓w_istore_6, ↓w_iconst, ↓w_istore_7, ↓w_iload_7, ↓w_bipush, ↓w_icge, ↓w_aload_1, ↓w_iload_6, ↓w_ifeq, ↓w_aload_0, ↓w_gf3, ↓w_iaload, ↓w_istore_8, ↓w_iload_8, ↓w_iadd, ↓w_iload_5, ↓w_icgt, ↓w_dup2, ↓w_laload, ↓w_lconst1, ↓w_imul, ↓w_lshl, ↓w_lor, ↓w_lastore, ↓w_iinc_8, ↓w_goto, ↓w_iinc_7, ↓w_vret, if_pos hh, hix, e49])
          | (simp only [w_in])
          | (intro _))
        all_goals first | (with_reducible exact w2) | omega | grind
  have hrr := hasR_nI n1 hr n2
  have hix : (nI r).toNatClampNeg = r := ix_nI (by omega)
  have w := key 40 0 (by omega) (I 25 r) (I 28 (2 * r + f)) J none (Or.inr hst) hQ
  rw [nI_0] at w
  clear key hQ kat kin k45 k49 a3 kb
  refine eX2_coverMetals (by omega) ?_
  repeat' (first
    | (apply And.intro)
    | (with_reducible refine bX2_coverMetals_0 ?_; simp (disch := first | omega | decide) only [w_nl0, w_nli, w_nlr, ↓w_ts1, ↓w_ts0, w_rcv, w_rfv, w_cs, true_and, and_true, List.length_nil, List.length_cons, Nat.reduceAdd, Nat.reduceLeDiff, Nat.zero_le, Nat.reduceLT, ↓w_nil, ix_nI, nI_leP, nI_ltP, nI_eqP, nI_1, ↓i_inN, i_inN, l_le, l_lt, l_eq, r_le, r_lt, r_eq, sh43, sh9, sh23, ↓w_aload_2, ↓w_iload_3, ↓w_iv, ↓pm_cl2_2, ↓w_istore_5, ↓w_iload_4, ↓pm_cl2_3, ↓w_istore_6, ↓w_iconst, ↓w_istore_7, ↓w_iload_7, ↓w_bipush, ↓w_icge, ↓w_aload_1, ↓w_iload_6, ↓w_ifeq, ↓w_aload_0, ↓w_gf3, ↓w_iaload, ↓w_istore_8, ↓w_iload_8, ↓w_iadd, ↓w_iload_5, ↓w_icgt, ↓w_dup2, ↓w_laload, ↓w_lconst1, ↓w_imul, ↓w_lshl, ↓w_lor, ↓w_lastore, ↓w_iinc_8, ↓w_goto, ↓w_iinc_7, ↓w_vret, if_pos hrr, hix])
    | (with_reducible refine c_R_dayOf (by omega) ?_ ; simp (disch := first | omega | decide) only [w_nl0, w_nli, w_nlr, ↓w_ts1, ↓w_ts0, w_rcv, w_rfv, w_cs, true_and, and_true, List.length_nil, List.length_cons, Nat.reduceAdd, Nat.reduceLeDiff, Nat.zero_le, Nat.reduceLT, ↓w_nil, ix_nI, nI_leP, nI_ltP, nI_eqP, nI_1, ↓i_inN, i_inN, l_le, l_lt, l_eq, r_le, r_lt, r_eq, sh43, sh9, sh23, ↓w_aload_2, ↓w_iload_3, ↓w_iv, ↓pm_cl2_2, ↓w_istore_5, ↓w_iload_4, ↓pm_cl2_3, ↓w_istore_6, ↓w_iconst, ↓w_istore_7, ↓w_iload_7, ↓w_bipush, ↓w_icge, ↓w_aload_1, ↓w_iload_6, ↓w_ifeq, ↓w_aload_0, ↓w_gf3, ↓w_iaload, ↓w_istore_8, ↓w_iload_8, ↓w_iadd, ↓w_iload_5, ↓w_icgt, ↓w_dup2, ↓w_laload, ↓w_lconst1, ↓w_imul, ↓w_lshl, ↓w_lor, ↓w_lastore, ↓w_iinc_8, ↓w_goto, ↓w_iinc_7, ↓w_vret, if_pos hrr, hix])
    | (with_reducible refine c_R_stamper (by omega) n1 n2 hr hf ?_ ; simp (disch := first | omega | decide) only [w_nl0, w_nli, w_nlr, ↓w_ts1, ↓w_ts0, w_rcv, w_rfv, w_cs, true_and, and_true, List.length_nil, List.length_cons, Nat.reduceAdd, Nat.reduceLeDiff, Nat.zero_le, Nat.reduceLT, ↓w_nil, ix_nI, nI_leP, nI_ltP, nI_eqP, nI_1, ↓i_inN, i_inN, l_le, l_lt, l_eq, r_le, r_lt, r_eq, sh43, sh9, sh23, ↓w_aload_2, ↓w_iload_3, ↓w_iv, ↓pm_cl2_2, ↓w_istore_5, ↓w_iload_4, ↓pm_cl2_3, ↓w_istore_6, ↓w_iconst, ↓w_istore_7, ↓w_iload_7, ↓w_bipush, ↓w_icge, ↓w_aload_1, ↓w_iload_6, ↓w_ifeq, ↓w_aload_0, ↓w_gf3, ↓w_iaload, ↓w_istore_8, ↓w_iload_8, ↓w_iadd, ↓w_iload_5, ↓w_icgt, ↓w_dup2, ↓w_laload, ↓w_lconst1, ↓w_imul, ↓w_lshl, ↓w_lor, ↓w_lastore, ↓w_iinc_8, ↓w_goto, ↓w_iinc_7, ↓w_vret, if_pos hrr, hix])
    | (simp only [w_in])
    | (intro _))
  all_goals first | (with_reducible exact w) | omega | grind
/-! ===== all places ===== -/
def plQ (I : pm_MI) (n N k : Nat) : List (Nat × Nat) := (List.range k).flatMap (fun m => (dsc (mdB I n N m) 1000).map (fun y => (m, y)))
theorem plQ_s {n N k : Nat} : plQ I n N (k + 1) = plQ I n N k ++ (dsc (mdB I n N k) 1000).map (fun y => (k, y)) := by unfold plQ; rw [List.range_succ, List.flatMap_append, List.flatMap_singleton]
theorem plA_Q {n N k : Nat} : plA I n N k = (plQ I n N k).map (fun x => (nI x.1, nI x.2, -9, -9, cvI I N (nI x.1) (nI x.2))) := by
  unfold plA plQ
  rw [List.map_flatMap]
  congr 1
  funext m
  unfold plM
  rw [List.map_map]
  rfl
theorem plQ_len {n N k : Nat} (hk : k ≤ 40) (hn : n ≤ 40) (hN : N ≤ 30) : (plQ I n N k).length ≤ 100 := by
  have := plA_len (I := I) (n := n) (N := N) (k := k) hk
  rw [plA_Q, List.length_map] at this
  omega
theorem plQ_at {n N : Nat} : ∀ {k p : Nat} {x : Nat × Nat}, (plQ I n N k)[p]? = some x → x.1 < k ∧ (plQ I n N x.1).length ≤ p ∧ p < (plQ I n N (x.1 + 1)).length ∧ x.2 < 1000
  | 0, p, x, h => by simp [plQ] at h
  | k + 1, p, x, h => by
    rw [plQ_s] at h
    rcases Nat.lt_or_ge p (plQ I n N k).length with c | c
    · rw [List.getElem?_append_left c] at h
      obtain ⟨h1, h2, h3, h4⟩ := plQ_at h
      exact ⟨by omega, h2, h3, h4⟩
    · rw [List.getElem?_append_right c, List.getElem?_map] at h
      cases hy : (dsc (mdB I n N k) 1000)[p - (plQ I n N k).length]? with
      | none => rw [hy] at h; cases h
      | some y =>
        rw [hy] at h
        have h : some (k, y) = some x := h
        cases h
        obtain ⟨h1, h2⟩ := List.getElem?_eq_some_iff.mp hy
        refine ⟨by show k < k + 1; omega, c, ?_, ?_⟩
        · show p < (plQ I n N (k + 1)).length
          rw [plQ_s, List.length_append, List.length_map]
          omega
        · show y < 1000
          have : y ∈ dsc (mdB I n N k) 1000 := by rw [← h2]; exact List.getElem_mem h1
          exact (dsc_mem.mp this).1
theorem plQ_mono {n N a : Nat} : ∀ {b : Nat}, a ≤ b → (plQ I n N a).length ≤ (plQ I n N b).length
  | 0, h => by rw [show a = 0 by omega]; exact Nat.le_refl _
  | b + 1, h => by
    by_cases e : a = b + 1
    · rw [e]; exact Nat.le_refl _
    · have := plQ_mono (n := n) (N := N) (a := a) (b := b) (by omega)
      rw [plQ_s, List.length_append]
      omega
theorem plQ_in {n N k m p : Nat} (hm : m < k) (h1 : (plQ I n N m).length ≤ p) (h2 : p < (plQ I n N (m + 1)).length) : ∃ y, (plQ I n N k)[p]? = some (m, y) := by
  have h3 := plQ_mono (I := I) (n := n) (N := N) (a := m + 1) (b := k) (by omega)
  have hp : p < (plQ I n N k).length := by omega
  refine ⟨((plQ I n N k)[p]).2, ?_⟩
  have h4 := plQ_at (I := I) (n := n) (N := N) (List.getElem?_eq_getElem hp)
  have e : ((plQ I n N k)[p]).1 = m := by
    rcases Nat.lt_trichotomy ((plQ I n N k)[p]).1 m with q | q | q
    · have := plQ_mono (I := I) (n := n) (N := N) (a := ((plQ I n N k)[p]).1 + 1) (b := m) (by omega); omega
    · exact q
    · have := plQ_mono (I := I) (n := n) (N := N) (a := m + 1) (b := ((plQ I n N k)[p]).1) (by omega); omega
  rw [List.getElem?_eq_getElem hp]
  congr 1
  exact Prod.ext e rfl
def clH (I : pm_MI) (J : pm_ML) (L : List plT) : Prop := I 43 6 = nI L.length ∧ ∀ p x, L[p]? = some x → I 44 p = x.1 ∧ I 45 p = x.2.1 ∧ I 46 p = x.2.2.1 ∧ I 47 p = x.2.2.2.1 ∧ J 48 p = x.2.2.2.2
def z0 (x : Nat × Nat) : plT := (nI x.1, nI x.2, -9, -9, 0)
theorem clH_days {n N k len base : Nat} {D : Nat → Nat} {I2 I3 I4 : pm_MI} {J2 J4 : pm_ML} (hb : base = (plQ I n N k).length) (h : clH I2 J2 ((plQ I n N k).map z0)) (e3 : ∀ a, a ≠ 49 → I3 a = I2 a) (hf : frA I3 J2 I4 J4 base) (hB : blk I4 J4 base k len D) (hD : ∀ y, (∃ i, i < len ∧ D i = y) ↔ y < 1000 ∧ mdB I n N k y = true) : base + len = (plQ I n N (k + 1)).length ∧ clH I4 J4 ((plQ I n N (k + 1)).map z0) := by
  have hl : (List.range len).map D = dsc (mdB I n N k) 1000 := so_ext (R := fun x y => y < x) (fun a b h1 h2 => by omega) (by
    rw [List.pairwise_map]
    refine (List.pairwise_lt_range (n := len)).imp_of_mem ?_
    intro a b _ hb hab
    exact hB.2.2.1 a b hab (List.mem_range.mp hb)) dsc_so (fun y => by
    rw [dsc_mem, ← hD y, List.mem_map]
    constructor
    · rintro ⟨i, hi, e⟩; exact ⟨i, List.mem_range.mp hi, e⟩
    · rintro ⟨i, hi, e⟩; exact ⟨i, List.mem_range.mpr hi, e⟩)
  have hlen : base + len = (plQ I n N (k + 1)).length := by
    rw [plQ_s, List.length_append, List.length_map, ← hl, List.length_map, List.length_range, hb]
  refine ⟨hlen, by rw [List.length_map, ← hlen]; exact hB.1, fun p x hx => ?_⟩
  rw [plQ_s, List.map_append] at hx
  rcases Nat.lt_or_ge p base with c | c
  · rw [List.getElem?_append_left (by rw [List.length_map, ← hb]; exact c)] at hx
    obtain ⟨h1, h2, h3, h4, h5⟩ := h.2 p x hx
    obtain ⟨k1, k2, k3, k4, k5⟩ := hf.2.1 p c
    rw [k1, k2, k3, k4, k5, e3 44 (by decide), e3 45 (by decide), e3 46 (by decide), e3 47 (by decide)]
    exact ⟨h1, h2, h3, h4, h5⟩
  · rw [List.getElem?_append_right (by rw [List.length_map, ← hb]; exact c), List.length_map, ← hb, ← hl, List.map_map, List.map_map, List.getElem?_map] at hx
    cases hr : (List.range len)[p - base]? with
    | none => rw [hr] at hx; cases hx
    | some i =>
      rw [hr] at hx
      obtain ⟨h1, h2⟩ := List.getElem?_eq_some_iff.mp hr
      rw [List.getElem_range] at h2
      rw [List.length_range] at h1
      have hx : some (z0 (k, D i)) = some x := hx
      cases hx
      obtain ⟨b1, b2, b3, b4, b5⟩ := hB.2.1 i (by omega)
      rw [show base + i = p by omega] at b1 b2 b3 b4 b5
      exact ⟨b1, b2, b3, b4, b5⟩
end C91f
