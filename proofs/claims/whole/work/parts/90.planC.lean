section C90
variable {g : pm_G} {d : Nat} {Q : pm_Po} {S : pm_SS} {I : pm_MI} {J : pm_ML}
theorem c_choose {n y r P b : Nat} {dy cp f : Nat → Nat} (hd : 16 ≤ d) (hn : n ≤ 9) (hy : y ≤ 999) (hP : 1 ≤ P ∧ P ≤ 3) (hr1 : 1 ≤ r) (hr2 : r ≤ 10000) (hO : OC I n dy cp) (hb : sel (canP n y dy (tkV cp r) P) (cpV n cp) (2 ^ n) = b) (hf : srF (oneP n y dy (tkV cp r)) b P n 0 (fun _ => 0) = some f) (hQ : ∀ I3, (∀ a, a ≠ 60 → a ≠ 63 → a ≠ 64 → a ≠ 65 → a ≠ 66 → a ≠ 67 → I3 a = I a) → (∀ j, j ≠ 8 → I3 60 j = I 60 j) → I3 60 8 = nI b → (∀ j, j < 9 → I3 65 j = if j < n ∧ b.testBit j = true then nI (f j) else -9) → Q none SH I3 J) : pm_C g d 26 [.ref 60, .int (nI P), .int (nI r), .int (nI y)] Q SH I J := by
  have hp9 : 2 ^ n ≤ 512 := Nat.pow_le_pow_right (by omega) hn
  have hp0 : 0 < 2 ^ n := Nat.pow_pos (by omega)
  have hb9 : b < 2 ^ n := by rw [← hb]; exact sel_lt _ hp0
  have hr0 : ¬ nI r ≤ 0 := by
    have h1 : (1 : Int32) ≤ nI r := nI_le (a := 1) hr1 (by omega)
    grind
  have hr00 : ¬ nI r = 0 := by
    have h1 : (1 : Int32) ≤ nI r := nI_le (a := 1) hr1 (by omega)
    grind
  -- from the chosen set on
  have hend : ∀ I2, (∀ a, a ≠ 60 → a ≠ 63 → a ≠ 64 → a ≠ 67 → I2 a = I a) → (∀ j, j ≠ 8 → I2 60 j = I 60 j) → I2 60 8 = nI b → (∀ p, 0 < p → p < 2 ^ n → PF n y dy (tkV cp r) p (I2 67 p)) → UC g d Q 7 [some (.ref 60), some (.int (nI P)), some (.int (nI r)), some (.int (nI y)), some (.int (nI (2 ^ n)))] I2 J := by
    intro I2 ha h60 h8 h67
    have h7 : I2 60 7 = nI n := by rw [h60 7 (by decide)]; exact hO.1
    have hL : UC g d Q 8 [some (.ref 60), some (.int (nI P)), some (.int (nI r)), some (.int (nI y)), some (.int 0)] I2 J := by
      refine pm_for (f := fun k (M : pm_MI) => pm_up M 65 (0 + k) (-9)) (U := fun k (M : pm_MI) => UC g d Q 8 [some (.ref 60), some (.int (nI P)), some (.int (nI r)), some (.int (nI y)), some (.int (nI k))] M J) (a := I2) 9 (fun k M hk hM w => ?_) ?_
      · rw [Nat.zero_add] at w
        clear hM hQ hf h67 ha h60 hO
        refine bX1_choose_8 ?_
        simp (disch := first | omega | decide) only [w_nl0, w_nli, w_nlr, ↓w_ts1, ↓w_ts0, w_rcv, w_rfv, w_cs, true_and, and_true, List.length_nil, List.length_cons, Nat.reduceAdd, Nat.reduceLeDiff, Nat.zero_le, Nat.reduceLT, ↓w_nil, ix_nI, nI_leP, nI_ltP, nI_eqP, nI_1, ↓i_inN, i_inN, l_le, l_lt, l_eq, r_le, r_lt, r_eq, sh60, ↓w_iload_4, ↓w_bipush, ↓w_icge, ↓w_aload_0, ↓w_gf3, ↓w_iastore, ↓w_iinc_4, ↓w_goto]
        repeat' (first
          | (apply And.intro)
          | (simp only [w_in])
          | (intro _))
        all_goals grind
      · have e1 : ∀ j, j < 9 → itr (fun k (M : pm_MI) => pm_up M 65 (0 + k) (-9)) I2 9 65 j = -9 := by
          intro j hj
          rw [fill_s, if_pos (by omega)]
        have e2 : ∀ a, a ≠ 65 → itr (fun k (M : pm_MI) => pm_up M 65 (0 + k) (-9)) I2 9 a = I2 a := fun a ha => itr_o ha 9
        generalize itr (fun k (M : pm_MI) => pm_up M 65 (0 + k) (-9)) I2 9 = I3 at *
        have hL2 : UC g d Q 10 [some (.ref 60), some (.int (nI P)), some (.int (nI r)), some (.int (nI y)), some (.int 0)] I3 J := by
          refine pm_for (f := fun k (M : pm_MI) => pm_up M 66 (0 + k) 0) (U := fun k (M : pm_MI) => UC g d Q 10 [some (.ref 60), some (.int (nI P)), some (.int (nI r)), some (.int (nI y)), some (.int (nI k))] M J) (a := I3) 3 (fun k M hk hM w => ?_) ?_
          · rw [Nat.zero_add] at w
            clear hM hQ hf h67 ha h60 hO e1 e2
            refine bX1_choose_10 ?_
            simp (disch := first | omega | decide) only [w_nl0, w_nli, w_nlr, ↓w_ts1, ↓w_ts0, w_rcv, w_rfv, w_cs, true_and, and_true, List.length_nil, List.length_cons, Nat.reduceAdd, Nat.reduceLeDiff, Nat.zero_le, Nat.reduceLT, ↓w_nil, ix_nI, nI_leP, nI_ltP, nI_eqP, nI_1, ↓i_inN, i_inN, l_le, l_lt, l_eq, r_le, r_lt, r_eq, sh60, ↓w_iload_4, ↓w_iconst, ↓w_icge, ↓w_aload_0, ↓w_gf3, ↓w_iastore, ↓w_iinc_4, ↓w_goto]
            repeat' (first
              | (apply And.intro)
              | (simp only [w_in])
              | (intro _))
            all_goals grind
          · have e3 : ∀ p, p < 3 → itr (fun k (M : pm_MI) => pm_up M 66 (0 + k) 0) I3 3 66 p = 0 := by
              intro p hp
              rw [fill_s, if_pos (by omega)]
            have e4 : ∀ a, a ≠ 66 → itr (fun k (M : pm_MI) => pm_up M 66 (0 + k) 0) I3 3 a = I3 a := fun a ha => itr_o ha 3
            generalize itr (fun k (M : pm_MI) => pm_up M 66 (0 + k) 0) I3 3 = I4 at *
            have hnext : ∀ Q2 : pm_Po, (∀ I5, Q none SH I5 J → Q2 (some (.int 1)) SH I5 J) → pm_C g (d - 1) 32 [.ref 60, .int 0, .int (nI P)] Q2 SH I4 J := by
              intro Q2 g1
              refine c_assign (I := I2) (ok := oneP n y dy (tkV cp r)) hn (x := b) (by omega) hP.2 h7 h8 (fun p h1 h2 => ?_) n 0 (fun _ => 0) I4 (d - 1) Q2 (by omega) (by omega) (fun a z1 z2 => by rw [e4 a z2, e2 a z1]) (fun p hp => ⟨e3 p hp, hp0⟩) (fun f' hf' I5 hi5 hr5 => g1 I5 (hQ I5 (fun a z1 z2 z3 z4 z5 z6 => by rw [hi5 a z4 z5]; exact ha a z1 z2 z3 z6) (fun j hj => by rw [hi5 60 (by decide) (by decide)]; exact h60 j hj) (by rw [hi5 60 (by decide) (by decide)]; exact h8) (fun j hj => ?_))) (fun hf' => by rw [hf] at hf'; exact absurd hf' (by simp))
              · obtain ⟨w, ew, w1, w4, i1, _, _⟩ := h67 p h1 h2
                exact ⟨w, ew, w1, w4, ⟨fun z => i1.1 (by omega), fun z => by have := i1.2 z; omega⟩⟩
              · rw [hf] at hf'
                have := Option.some.inj hf'
                subst this
                rw [hr5 j]
                simp only [Nat.zero_le, true_and]
                rw [e4 65 (by decide), e1 j hj]
            clear hQ hf h67 ha h60 hO e1 e2 e3 e4
            refine bX1_choose_10 ?_
            simp (disch := first | omega | decide) only [w_nl0, w_nli, w_nlr, ↓w_ts1, ↓w_ts0, w_rcv, w_rfv, w_cs, true_and, and_true, List.length_nil, List.length_cons, Nat.reduceAdd, Nat.reduceLeDiff, Nat.zero_le, Nat.reduceLT, ↓w_nil, ix_nI, nI_leP, nI_ltP, nI_eqP, nI_1, ↓i_inN, i_inN, l_le, l_lt, l_eq, r_le, r_lt, r_eq, sh60, ↓w_iload_4, ↓w_iconst, ↓w_icge, ↓w_aload_0, ↓w_gf3, ↓w_iastore, ↓w_iinc_4, ↓w_goto]
            repeat' (first
              | (apply And.intro)
              | (with_reducible refine bX1_choose_11 ?_; simp (disch := first | omega | decide) only [w_nl0, w_nli, w_nlr, ↓w_ts1, ↓w_ts0, w_rcv, w_rfv, w_cs, true_and, and_true, List.length_nil, List.length_cons, Nat.reduceAdd, Nat.reduceLeDiff, Nat.zero_le, Nat.reduceLT, ↓w_nil, ix_nI, nI_leP, nI_ltP, nI_eqP, nI_1, ↓i_inN, i_inN, l_le, l_lt, l_eq, r_le, r_lt, r_eq, sh60, ↓w_aload_0, ↓w_iv, ↓pm_cl2_1, ↓w_iconst, ↓w_istore_4, ↓w_iload_4, ↓w_gf0, ↓w_icge, ↓w_gf3, ↓w_iload_2, ↓w_ifle, ↓w_iaload, ↓w_iadd, ↓w_isub, ↓w_idiv, ↓w_goto, ↓w_iastore, ↓w_iinc_4, ↓w_iload_3, ↓pm_cl2_2, ↓w_pf0, ↓w_ishl, ↓w_sipush, ↓w_baload, ↓w_iload_1, ↓w_icgt, ↓w_icle, ↓w_bipush, ↓pm_cl2_3, ↓w_pop, ↓w_vret])
              | (with_reducible refine hnext _ (fun I3 h3 => ?_) <;> simp (disch := first | omega | decide) only [w_nl0, w_nli, w_nlr, ↓w_ts1, ↓w_ts0, w_rcv, w_rfv, w_cs, true_and, and_true, List.length_nil, List.length_cons, Nat.reduceAdd, Nat.reduceLeDiff, Nat.zero_le, Nat.reduceLT, ↓w_nil, ix_nI, nI_leP, nI_ltP, nI_eqP, nI_1, ↓i_inN, i_inN, l_le, l_lt, l_eq, r_le, r_lt, r_eq, sh60, ↓w_aload_0, ↓w_iv, ↓pm_cl2_1, ↓w_iconst, ↓w_istore_4, ↓w_iload_4, ↓w_gf0, ↓w_icge, ↓w_gf3, ↓w_iload_2, ↓w_ifle, ↓w_iaload, ↓w_iadd, ↓w_isub, ↓w_idiv, ↓w_goto, ↓w_iastore, ↓w_iinc_4, ↓w_iload_3, ↓pm_cl2_2, ↓w_pf0, ↓w_ishl, ↓w_sipush, ↓w_baload, ↓w_iload_1, ↓w_icgt, ↓w_icle, ↓w_bipush, ↓pm_cl2_3, ↓w_pop, ↓w_vret])
              | (simp only [w_in])
              | (intro _))
            all_goals (clear hnext; grind)
        clear hQ hf h67 ha h60 hO e1 e2
        refine bX1_choose_8 ?_
        simp (disch := first | omega | decide) only [w_nl0, w_nli, w_nlr, ↓w_ts1, ↓w_ts0, w_rcv, w_rfv, w_cs, true_and, and_true, List.length_nil, List.length_cons, Nat.reduceAdd, Nat.reduceLeDiff, Nat.zero_le, Nat.reduceLT, ↓w_nil, ix_nI, nI_leP, nI_ltP, nI_eqP, nI_1, ↓i_inN, i_inN, l_le, l_lt, l_eq, r_le, r_lt, r_eq, sh60, ↓w_iload_4, ↓w_bipush, ↓w_icge, ↓w_aload_0, ↓w_gf3, ↓w_iastore, ↓w_iinc_4, ↓w_goto]
        repeat' (first
          | (apply And.intro)
          | (with_reducible refine bX1_choose_9 ?_; simp (disch := first | omega | decide) only [w_nl0, w_nli, w_nlr, ↓w_ts1, ↓w_ts0, w_rcv, w_rfv, w_cs, true_and, and_true, List.length_nil, List.length_cons, Nat.reduceAdd, Nat.reduceLeDiff, Nat.zero_le, Nat.reduceLT, ↓w_nil, ix_nI, nI_leP, nI_ltP, nI_eqP, nI_1, ↓i_inN, i_inN, l_le, l_lt, l_eq, r_le, r_lt, r_eq, sh60, ↓w_aload_0, ↓w_iv, ↓pm_cl2_1, ↓w_iconst, ↓w_istore_4, ↓w_iload_4, ↓w_gf0, ↓w_icge, ↓w_gf3, ↓w_iload_2, ↓w_ifle, ↓w_iaload, ↓w_iadd, ↓w_isub, ↓w_idiv, ↓w_goto, ↓w_iastore, ↓w_iinc_4, ↓w_iload_3, ↓pm_cl2_2, ↓w_pf0, ↓w_ishl, ↓w_sipush, ↓w_baload, ↓w_iload_1, ↓w_icgt, ↓w_icle, ↓w_bipush, ↓pm_cl2_3, ↓w_pop, ↓w_vret])
          | (simp only [w_in])
          | (intro _))
        all_goals grind
    clear hQ hf h67 ha h60 hO
    refine bX1_choose_7 ?_
    simp (disch := first | omega | decide) only [w_nl0, w_nli, w_nlr, ↓w_ts1, ↓w_ts0, w_rcv, w_rfv, w_cs, true_and, and_true, List.length_nil, List.length_cons, Nat.reduceAdd, Nat.reduceLeDiff, Nat.zero_le, Nat.reduceLT, ↓w_nil, ix_nI, nI_leP, nI_ltP, nI_eqP, nI_1, ↓i_inN, i_inN, l_le, l_lt, l_eq, r_le, r_lt, r_eq, sh60, ↓w_iconst, ↓w_istore_4]
    repeat' (first
      | (apply And.intro)
      | (simp only [w_in])
      | (intro _))
    all_goals grind
  -- from the takes on
  have hmid : ∀ I1 bd, (∀ a, a ≠ 63 → a ≠ 64 → I1 a = I a) → CC I1 n dy (tkV cp r) bd → UC g d Q 4 [some (.ref 60), some (.int (nI P)), some (.int (nI r)), some (.int (nI y)), some (.int (nI n))] I1 J := by
    intro I1 bd ha hC
    clear hQ
    refine bX1_choose_4 ?_
    simp (disch := first | omega | decide) only [w_nl0, w_nli, w_nlr, ↓w_ts1, ↓w_ts0, w_rcv, w_rfv, w_cs, true_and, and_true, List.length_nil, List.length_cons, Nat.reduceAdd, Nat.reduceLeDiff, Nat.zero_le, Nat.reduceLT, ↓w_nil, ix_nI, nI_leP, nI_ltP, nI_eqP, nI_1, ↓i_inN, i_inN, l_le, l_lt, l_eq, r_le, r_lt, r_eq, sh60, ↓w_aload_0, ↓w_iload_3, ↓w_iv, ↓pm_cl2_2, ↓w_iconst, ↓w_pf0, ↓w_istore_4]
    refine c_countPresses (n := n) (y := y) (dy := dy) (tk := tkV cp r) (bd := bd) (by omega) hn hy hC (fun I2 ha2 hpf => ?_)
    have h7 : I2 60 7 = nI n := by rw [ha2 60 (by decide)]; exact hC.1
    have w := c_chSel (g := g) (d := d) (Q := Q) (J := J) (I := I2) (n := n) (y := y) (r := r) (P := P) (dy := dy) (tk := tkV cp r) (cp := cp) (by omega) hn hP h7 (fun i hi => by
      rw [ha2 61 (by decide), ha 61 (by decide) (by decide)]
      exact ⟨(hO.2 i hi).2.2.1, (hO.2 i hi).2.2.2.2⟩) hpf (by
      rw [hb]
      refine hend _ (fun a z1 z2 z3 z4 => by rw [pm_up_o z1, ha2 a z4, ha a z2 z3]) (fun j hj => by rw [pm_up_n hj, ha2 60 (by decide), ha 60 (by decide) (by decide)]) pm_up_s (fun p h1 h2 => by rw [pm_up_o (by decide)]; exact hpf p h1 h2))
    clear hend hpf hC ha ha2 hO
    simp (disch := first | omega | decide) only [w_nl0, w_nli, w_nlr, ↓w_ts1, ↓w_ts0, w_rcv, w_rfv, w_cs, true_and, and_true, List.length_nil, List.length_cons, Nat.reduceAdd, Nat.reduceLeDiff, Nat.zero_le, Nat.reduceLT, ↓w_nil, ix_nI, nI_leP, nI_ltP, nI_eqP, nI_1, ↓i_inN, i_inN, l_le, l_lt, l_eq, r_le, r_lt, r_eq, sh60, ↓w_aload_0, ↓w_iload_3, ↓w_iv, ↓pm_cl2_2, ↓w_iconst, ↓w_pf0, ↓w_istore_4]
    exact w
  clear hend
  refine eX1_choose (by omega) ?_
  refine bX1_choose_0 ?_
  simp (disch := first | omega | decide) only [w_nl0, w_nli, w_nlr, ↓w_ts1, ↓w_ts0, w_rcv, w_rfv, w_cs, true_and, and_true, List.length_nil, List.length_cons, Nat.reduceAdd, Nat.reduceLeDiff, Nat.zero_le, Nat.reduceLT, ↓w_nil, ix_nI, nI_leP, nI_ltP, nI_eqP, nI_1, ↓i_inN, i_inN, l_le, l_lt, l_eq, r_le, r_lt, r_eq, sh60, ↓w_aload_0, ↓w_iv, ↓pm_cl2_1, ↓w_iconst, ↓w_istore_4]
  refine c_sortByDay (by omega) hn hO (fun I1 bd ha1 hk1 hbd => ?_)
  simp (disch := first | omega | decide) only [w_nl0, w_nli, w_nlr, ↓w_ts1, ↓w_ts0, w_rcv, w_rfv, w_cs, true_and, and_true, List.length_nil, List.length_cons, Nat.reduceAdd, Nat.reduceLeDiff, Nat.zero_le, Nat.reduceLT, ↓w_nil, ix_nI, nI_leP, nI_ltP, nI_eqP, nI_1, ↓i_inN, i_inN, l_le, l_lt, l_eq, r_le, r_lt, r_eq, sh60, ↓w_aload_0, ↓w_iv, ↓pm_cl2_1, ↓w_iconst, ↓w_istore_4]
  have key : ∀ j i I2, j + i = n → (∀ a, a ≠ 63 → a ≠ 64 → I2 a = I a) → (∀ k, k < n → I2 63 k = nI (bd k)) → (∀ k, k < i → I2 64 k = nI (tkV cp r k)) → UC g d Q 1 [some (.ref 60), some (.int (nI P)), some (.int (nI r)), some (.int (nI y)), some (.int (nI i))] I2 J := by
    intro j
    induction j with
    | zero =>
      intro i I2 hi ha h63 h64
      have hin : i = n := by omega
      subst hin
      have e7 : I2 60 7 = nI i := by rw [ha 60 (by decide) (by decide)]; exact hO.1
      have w := hmid I2 bd ha ⟨e7, h63, fun k hk => by
        rw [ha 62 (by decide) (by decide)]
        exact ⟨(hO.2 k hk).1, (hO.2 k hk).2.1, h64 k hk, tk_bd hr1 (hO.2 k hk).2.2.2⟩, hbd⟩
      clear hmid hQ ha h63 h64 hO hk1 ha1
      refine bX1_choose_1 ?_
      simp (disch := first | omega | decide) only [w_nl0, w_nli, w_nlr, ↓w_ts1, ↓w_ts0, w_rcv, w_rfv, w_cs, true_and, and_true, List.length_nil, List.length_cons, Nat.reduceAdd, Nat.reduceLeDiff, Nat.zero_le, Nat.reduceLT, ↓w_nil, ix_nI, nI_leP, nI_ltP, nI_eqP, nI_1, ↓i_inN, i_inN, l_le, l_lt, l_eq, r_le, r_lt, r_eq, sh60, ↓w_iload_4, ↓w_aload_0, ↓w_gf0, ↓w_icge, ↓w_gf3, ↓w_iload_2, ↓w_ifle, ↓w_iaload, ↓w_iadd, ↓w_iconst, ↓w_isub, ↓w_idiv, ↓w_goto, e7]
      repeat' (first
        | (apply And.intro)
        | (simp only [w_in])
        | (intro _))
      all_goals grind
    | succ j ih =>
      intro i I2 hi ha h63 h64
      have e7 : I2 60 7 = nI n := by rw [ha 60 (by decide) (by decide)]; exact hO.1
      obtain ⟨u1, u2, u3, u4⟩ := hO.2 i (by omega)
      have e61 : I2 61 i = nI (cp i) := by rw [ha 61 (by decide) (by decide)]; exact u3
      have htk := tk_nI (cp := cp) (i := i) hr1 hr2 u4
      have htk2 : (nI (cp i + r) - 1) / nI r = nI (tkV cp r i) := by rw [← nI_add]; exact htk
      have w := ih (i + 1) (pm_up I2 64 i (nI (tkV cp r i))) (by omega) (fun a z1 z2 => by rw [pm_up_o z2]; exact ha a z1 z2) (fun k hk => by rw [pm_up_o (by decide)]; exact h63 k hk) (fun k hk => by
        rw [up_at]
        by_cases e : k = i
        · rw [if_pos e, e]
        · rw [if_neg e]; exact h64 k (by omega))
      clear ih hmid hQ ha h63 h64 hO hk1 ha1
      refine bX1_choose_1 ?_
      simp (disch := first | omega | decide) only [w_nl0, w_nli, w_nlr, ↓w_ts1, ↓w_ts0, w_rcv, w_rfv, w_cs, true_and, and_true, List.length_nil, List.length_cons, Nat.reduceAdd, Nat.reduceLeDiff, Nat.zero_le, Nat.reduceLT, ↓w_nil, ix_nI, nI_leP, nI_ltP, nI_eqP, nI_1, ↓i_inN, i_inN, l_le, l_lt, l_eq, r_le, r_lt, r_eq, sh60, ↓w_iload_4, ↓w_aload_0, ↓w_gf0, ↓w_icge, ↓w_gf3, ↓w_iload_2, ↓w_ifle, ↓w_iaload, ↓w_iadd, ↓w_iconst, ↓w_isub, ↓w_idiv, ↓w_goto, e7]
      repeat' (first
        | (apply And.intro)
        | (with_reducible refine bX1_choose_2 ?_; simp (disch := first | omega | decide) only [w_nl0, w_nli, w_nlr, ↓w_ts1, ↓w_ts0, w_rcv, w_rfv, w_cs, true_and, and_true, List.length_nil, List.length_cons, Nat.reduceAdd, Nat.reduceLeDiff, Nat.zero_le, Nat.reduceLT, ↓w_nil, ix_nI, nI_leP, nI_ltP, nI_eqP, nI_1, ↓i_inN, i_inN, l_le, l_lt, l_eq, r_le, r_lt, r_eq, sh60, ↓w_aload_0, ↓w_iv, ↓pm_cl2_1, ↓w_iconst, ↓w_istore_4, ↓w_iload_4, ↓w_gf0, ↓w_icge, ↓w_gf3, ↓w_iload_2, ↓w_ifle, ↓w_iaload, ↓w_iadd, ↓w_isub, ↓w_idiv, ↓w_goto, ↓w_iastore, ↓w_iinc_4, ↓w_iload_3, ↓pm_cl2_2, ↓w_pf0, ↓w_ishl, ↓w_sipush, ↓w_baload, ↓w_iload_1, ↓w_icgt, ↓w_icle, ↓w_bipush, ↓pm_cl2_3, ↓w_pop, ↓w_vret, e61, htk, htk2, nI_add])
        | (with_reducible refine bX1_choose_3 ?_; simp (disch := first | omega | decide) only [w_nl0, w_nli, w_nlr, ↓w_ts1, ↓w_ts0, w_rcv, w_rfv, w_cs, true_and, and_true, List.length_nil, List.length_cons, Nat.reduceAdd, Nat.reduceLeDiff, Nat.zero_le, Nat.reduceLT, ↓w_nil, ix_nI, nI_leP, nI_ltP, nI_eqP, nI_1, ↓i_inN, i_inN, l_le, l_lt, l_eq, r_le, r_lt, r_eq, sh60, ↓w_aload_0, ↓w_iv, ↓pm_cl2_1, ↓w_iconst, ↓w_istore_4, ↓w_iload_4, ↓w_gf0, ↓w_icge, ↓w_gf3, ↓w_iload_2, ↓w_ifle, ↓w_iaload, ↓w_iadd, ↓w_isub, ↓w_idiv, ↓w_goto, ↓w_iastore, ↓w_iinc_4, ↓w_iload_3, ↓pm_cl2_2, ↓w_pf0, ↓w_ishl, ↓w_sipush, ↓w_baload, ↓w_iload_1, ↓w_icgt, ↓w_icle, ↓w_bipush, ↓pm_cl2_3, ↓w_pop, ↓w_vret, e61, htk, htk2, nI_add])
        | (simp only [w_in])
        | (intro _))
      all_goals grind
  have w : UC g d Q 1 [some (.ref 60), some (.int (nI P)), some (.int (nI r)), some (.int (nI y)), some (.int 0)] I1 J := key n 0 I1 (by omega) (fun a z1 z2 => ha1 a z1) hk1 (fun k hk => by omega)
  exact w
theorem can_sets {n y P x : Nat} {dy tk : Nat → Nat} (hP : 1 ≤ P ∧ P ≤ 3) (h : canP n y dy tk P x) : ∃ A : Nat → Nat, (∀ p, p < P → oneP n y dy tk (A p)) ∧ ∀ j, x.testBit j = true → ∃ p, p < P ∧ (A p).testBit j = true := by
  unfold canP at h
  rcases h with ⟨e, h⟩ | ⟨e, s, h1, h2, h3⟩ | ⟨e, s, h1, h2, s2, h4, h5, h6⟩
  · exact ⟨fun _ => x, fun p _ => h, fun j hj => ⟨0, by omega, hj⟩⟩
  · refine ⟨fun p => if p = 0 then s else x ^^^ s, fun p hp => ?_, fun j hj => ?_⟩
    · by_cases c : p = 0
      · simp only [c, if_true]; exact h2
      · simp only [c, if_false]; exact h3
    · by_cases c : s.testBit j = true
      · exact ⟨0, by omega, by simp only [if_true]; exact c⟩
      · refine ⟨1, by omega, ?_⟩
        simp only [show ¬ (1 = 0) by omega, if_false]
        rw [Nat.testBit_xor, hj]
        simp at c
        rw [c]
        rfl
  · refine ⟨fun p => if p = 0 then s else if p = 1 then s2 else (x ^^^ s) ^^^ s2, fun p hp => ?_, fun j hj => ?_⟩
    · by_cases c : p = 0
      · simp only [c, if_true]; exact h2
      · by_cases c2 : p = 1
        · simp only [c2, if_true, show ¬ (1 = 0) by omega, if_false]; exact h5
        · simp only [c, c2, if_false]; exact h6
    · by_cases c : s.testBit j = true
      · exact ⟨0, by omega, by simp only [if_true]; exact c⟩
      · by_cases c2 : s2.testBit j = true
        · exact ⟨1, by omega, by simp only [show ¬ (1 = 0) by omega, if_false, if_true]; exact c2⟩
        · refine ⟨2, by omega, ?_⟩
          simp only [show ¬ (2 = 0) by omega, show ¬ (2 = 1) by omega, if_false]
          rw [Nat.testBit_xor, Nat.testBit_xor, hj]
          simp at c c2
          rw [c, c2]
          rfl
theorem can_0 {n y P : Nat} {dy tk : Nat → Nat} (hP : 1 ≤ P ∧ P ≤ 3) : canP n y dy tk P 0 := by
  unfold canP
  rcases (show P = 1 ∨ P = 2 ∨ P = 3 by omega) with e | e | e
  · exact Or.inl ⟨e, one_0⟩
  · exact Or.inr (Or.inl ⟨e, two_one one_0⟩)
  · exact Or.inr (Or.inr ⟨e, three_one one_0⟩)
theorem plan_f {n y r P b : Nat} {dy cp : Nat → Nat} (hP : 1 ≤ P ∧ P ≤ 3) (hb : sel (canP n y dy (tkV cp r) P) (cpV n cp) (2 ^ n) = b) : ∃ f, srF (oneP n y dy (tkV cp r)) b P n 0 (fun _ => 0) = some f := by
  have hc : canP n y dy (tkV cp r) P b := by
    rw [← hb]
    exact sel_can (can_0 hP) _
  obtain ⟨A, hA, hj⟩ := can_sets hP hc
  refine srF_some (n := n) (fun a b h1 h2 => one_sub h1 h2) hA n 0 _ (by omega) (fun p hp => ?_) (fun j _ _ hb => hj j hb)
  intro i hi
  rw [Nat.zero_testBit] at hi
  exact absurd hi (by decide)
theorem p_plan {x z : Int32} (hd : 20 ≤ d) : PC g d 172 283 [.int x, .int z] := by
  intro I J h
  have hw := relw h
  by_cases hg : (1 ≤ x ∧ x ≤ 3) ∧ (1 ≤ z ∧ z ≤ 10000)
  · obtain ⟨hy1, y, hy, ey⟩ := h.2.1
    obtain ⟨o1, o2, o3, o4, n, hn, hn2, ho⟩ := h.2.2.2.2.2.2.2.2.2.2.1
    obtain ⟨P, hPq, rfl⟩ := i_q (x := x) (n := 4) (by decide) (by grind) (by have : nI 4 = (4 : Int32) := rfl; grind)
    obtain ⟨r, hrq, rfl⟩ := i_q (x := z) (n := 10001) (by decide) (by grind) (by have : nI 10001 = (10001 : Int32) := rfl; grind)
    have hP : 1 ≤ P ∧ P ≤ 3 := by
      refine ⟨?_, by omega⟩
      rcases Nat.eq_zero_or_pos P with e | e
      · subst e; exact absurd hg.1.1 (by decide)
      · exact e
    have hr1 : 1 ≤ r := by
      rcases Nat.eq_zero_or_pos r with e | e
      · subst e; exact absurd hg.2.1 (by decide)
      · exact e
    have hdc : ∃ dy cp : Nat → Nat, ∀ i, i < n → I 62 i = nI (dy i) ∧ dy i ≤ 999 ∧ I 61 i = nI (cp i) ∧ 1 ≤ cp i ∧ cp i ≤ 100000 := by
      refine ⟨fun i => (I 62 i).toNatClampNeg, fun i => (I 61 i).toNatClampNeg, fun i hi => ?_⟩
      obtain ⟨⟨q, hq1, hq2, e1⟩, ⟨q2, hq3, e2⟩⟩ := ho i hi
      have t1 : (I 62 i).toNatClampNeg = q2 := by rw [e2, ix_nI (by omega)]
      have t2 : (I 61 i).toNatClampNeg = q := by rw [e1, ix_nI (by omega)]
      exact ⟨by simp only [t1]; exact e2, by simp only [t1]; exact hq3, by simp only [t2]; exact e1, by simp only [t2]; exact hq1, by simp only [t2]; exact hq2⟩
    obtain ⟨dy, cp, hdc⟩ := hdc
    have hOC : OC I n dy cp := ⟨hn2, hdc⟩
    generalize hb : sel (canP n y dy (tkV cp r) P) (cpV n cp) (2 ^ n) = b
    obtain ⟨f, hf⟩ := plan_f (r := r) (cp := cp) hP hb
    have hp9 : 2 ^ n ≤ 512 := Nat.pow_le_pow_right (by omega) hn
    have hb9 : b < 2 ^ n := by rw [← hb]; exact sel_lt _ (Nat.pow_pos (by omega))
    have hct : ctV 9 b = ctV n b := sm_cut hn (fun k h1 h2 => by
      have : b.testBit k = false := Nat.testBit_lt_two_pow (Nat.lt_of_lt_of_le hb9 (Nat.pow_le_pow_right (by omega) h1))
      rw [this]
      rfl)
    clear ho
    have hMC : ∀ I3, (∀ a, a ≠ 60 → a ≠ 63 → a ≠ 64 → a ≠ 65 → a ≠ 66 → a ≠ 67 → I3 a = I a) → (∀ j, j ≠ 8 → I3 60 j = I 60 j) → I3 60 8 = nI b → (∀ j, j < 9 → I3 65 j = if j < n ∧ b.testBit j = true then nI (f j) else -9) → MC g d 283 [.ref 68, .int (nI P), .int (nI r)] (some (.int (nI (ctV n b)))) (pm_up I3 1 2 (nI b)) J := by
      intro I3 ha h60 h8 h65
      have hco : ∀ a, a ≠ 60 → a ≠ 63 → a ≠ 64 → a ≠ 65 → a ≠ 66 → a ≠ 67 → a ≠ 1 → (pm_up I3 1 2 (nI b)) a = I a := fun a z1 z2 z3 z4 z5 z6 z7 => by rw [pm_up_o z7]; exact ha a z1 z2 z3 z4 z5 z6
      have hOM : OM (pm_up I3 1 2 (nI b)) n y dy cp := by
        unfold OM
        rw [hco 68 (by decide) (by decide) (by decide) (by decide) (by decide) (by decide) (by decide), hco 118 (by decide) (by decide) (by decide) (by decide) (by decide) (by decide) (by decide), hco 117 (by decide) (by decide) (by decide) (by decide) (by decide) (by decide) (by decide), o2, o3]
        exact ⟨by rw [o1, hn2], by rw [hy1, ey], hdc⟩
      refine MC.of ?_
      refine m_plan (n := n) (y := y) (dy := dy) (cp := cp) (f := f) (b := b) (by omega) hn hy hP hr1 (by omega) hOM hb hf (fun I4 k1 k2 k3 k4 => ⟨rfl, rfl, trivial, ?_⟩)
      obtain ⟨a1, a2, a3, a4, a5, a6, a7, a8, a9, a10, a11, a12⟩ := h
      have c1 : ∀ a, a ≠ 60 → a ≠ 63 → a ≠ 64 → a ≠ 65 → a ≠ 66 → a ≠ 67 → a ≠ 1 → a ≠ 68 → a ≠ 119 → a ≠ 120 → a ≠ 121 → a ≠ 122 → I4 a = I a := fun a z1 z2 z3 z4 z5 z6 z7 z8 z9 z10 z11 z12 => by rw [k1 a z8 z9 z10 z11 z12, hco a z1 z2 z3 z4 z5 z6 z7]
      have c68 : ∀ j, j ≠ 2 → I4 68 j = I 68 j := fun j hj => by rw [k2 j hj, hco 68 (by decide) (by decide) (by decide) (by decide) (by decide) (by decide) (by decide)]
      have c11 : I4 1 1 = I 1 1 := by rw [k1 1 (by decide) (by decide) (by decide) (by decide) (by decide), pm_up_n (by decide), ha 1 (by decide) (by decide) (by decide) (by decide) (by decide) (by decide)]
      have c12 : I4 1 2 = nI b := by rw [k1 1 (by decide) (by decide) (by decide) (by decide) (by decide), pm_up_s]
      have c60 : I4 60 7 = I 60 7 := by rw [k1 60 (by decide) (by decide) (by decide) (by decide) (by decide), pm_up_o (by decide), h60 7 (by decide)]
      have c65 : ∀ j, j < 9 → I4 65 j = if j < n ∧ b.testBit j = true then nI (f j) else -9 := fun j hj => by rw [k1 65 (by decide) (by decide) (by decide) (by decide) (by decide), pm_up_o (by decide)]; exact h65 j hj
      have b11 : r_ord (I 60 7) (I 68 73) (I 61) (I 62) (I4 65) (I 117) (I 118) (I4 121) := by
        obtain ⟨q1, q2, q3, q4, q5⟩ := a11
        exact ⟨q1, q2, q3, fun k hk => by rw [k4 k hk, c65 k hk], q5⟩
      have b1 : r_told (I 1 1) (nI b) (I 68 0) (nI b) (I 2) (I 69) (J 1 3) (J 1 4) (J 1 5) (J 68 3) (J 68 4) (J 68 72) := by
        obtain ⟨q1, q2, q3, q4, q5, q6⟩ := a1
        exact ⟨q1, rfl, q3, q4, q5, q6⟩
      unfold Rel
      rw [c11, c12, c60, k3]
      simp (disch := decide) only [c1, c68]
      exact ⟨b1, a2, a3, a4, a5, a6, a7, a8, a9, a10, b11, a12⟩
    have hcl : ∀ Q2 : pm_Po, (∀ I3, (∀ a, a ≠ 60 → a ≠ 63 → a ≠ 64 → a ≠ 65 → a ≠ 66 → a ≠ 67 → I3 a = I a) → (∀ j, j ≠ 8 → I3 60 j = I 60 j) → I3 60 8 = nI b → (∀ j, j < 9 → I3 65 j = if j < n ∧ b.testBit j = true then nI (f j) else -9) → Q2 none SH I3 J) → pm_C g (d - 1) 26 [.ref 60, .int (nI P), .int (nI r), .int (I 0 11)] Q2 SH I J := by
      intro Q2 hq
      rw [ey]
      exact c_choose (by omega) hn hy hP hr1 (by omega) hOC hb hf hq
    clear hOC hdc hf hb
    refine eX11_plan (by omega) ?_
    repeat' (first
      | (apply And.intro)
      | (with_reducible refine bX11_plan_0 ?_; simp (disch := first | omega | decide) only [w_nl0, w_nli, w_nlr, ↓w_ts1, ↓w_ts0, w_rcv, w_rfv, w_cs, true_and, and_true, List.length_nil, List.length_cons, Nat.reduceAdd, Nat.reduceLeDiff, Nat.zero_le, Nat.reduceLT, ↓w_nil, ix_nI, nI_leP, nI_ltP, nI_eqP, nI_1, ↓i_inN, i_inN, l_le, l_lt, l_eq, r_le, r_lt, r_eq, sh0, sh1, sh55, sh60, sh9, sh31, sh23, sh37, sh42, sh43, sh19, sh3, sh6, ↓w_iload_1, ↓w_iconst, ↓w_iclt, ↓w_icgt, ↓w_iload_2, ↓w_sipush, ↓w_icle, ↓w_ret, ↓w_aload_0, ↓w_gf3, ↓w_gf0, ↓w_iv, ↓pm_cl2_4, ↓pm_cl2_2, ↓w_pop, ↓w_is, ↓pm_cl1_1])
      | (with_reducible refine bX11_plan_1 ?_; simp (disch := first | omega | decide) only [w_nl0, w_nli, w_nlr, ↓w_ts1, ↓w_ts0, w_rcv, w_rfv, w_cs, true_and, and_true, List.length_nil, List.length_cons, Nat.reduceAdd, Nat.reduceLeDiff, Nat.zero_le, Nat.reduceLT, ↓w_nil, ix_nI, nI_leP, nI_ltP, nI_eqP, nI_1, ↓i_inN, i_inN, l_le, l_lt, l_eq, r_le, r_lt, r_eq, sh0, sh1, sh55, sh60, sh9, sh31, sh23, sh37, sh42, sh43, sh19, sh3, sh6, ↓w_iload_1, ↓w_iconst, ↓w_iclt, ↓w_icgt, ↓w_iload_2, ↓w_sipush, ↓w_icle, ↓w_ret, ↓w_aload_0, ↓w_gf3, ↓w_gf0, ↓w_iv, ↓pm_cl2_4, ↓pm_cl2_2, ↓w_pop, ↓w_is, ↓pm_cl1_1])
      | (simp only [w_in])
      | (intro _))
    all_goals try (clear hcl hMC; grind)
    refine bX11_plan_2 ?_
    simp (disch := first | omega | decide) only [w_nl0, w_nli, w_nlr, ↓w_ts1, ↓w_ts0, w_rcv, w_rfv, w_cs, true_and, and_true, List.length_nil, List.length_cons, Nat.reduceAdd, Nat.reduceLeDiff, Nat.zero_le, Nat.reduceLT, ↓w_nil, ix_nI, nI_leP, nI_ltP, nI_eqP, nI_1, ↓i_inN, i_inN, l_le, l_lt, l_eq, r_le, r_lt, r_eq, sh0, sh1, sh55, sh60, sh9, sh31, sh23, sh37, sh42, sh43, sh19, sh3, sh6, ↓w_aload_0, ↓w_gf3, ↓w_iload_1, ↓w_iload_2, ↓w_gf0, ↓w_iv, ↓pm_cl2_4, ↓pm_cl2_2, ↓w_pop, ↓w_is, ↓pm_cl1_1, ↓w_ret]
    refine hcl _ (fun I3 k1 k2 k3 k4 => ?_)
    have hm := hMC I3 k1 k2 k3 k4
    clear hcl hMC k1 k2 k4
    simp (disch := first | omega | decide) only [w_nl0, w_nli, w_nlr, ↓w_ts1, ↓w_ts0, w_rcv, w_rfv, w_cs, true_and, and_true, List.length_nil, List.length_cons, Nat.reduceAdd, Nat.reduceLeDiff, Nat.zero_le, Nat.reduceLT, ↓w_nil, ix_nI, nI_leP, nI_ltP, nI_eqP, nI_1, ↓i_inN, i_inN, l_le, l_lt, l_eq, r_le, r_lt, r_eq, sh0, sh1, sh55, sh60, sh9, sh31, sh23, sh37, sh42, sh43, sh19, sh3, sh6, ↓w_aload_0, ↓w_gf3, ↓w_iload_1, ↓w_iload_2, ↓w_gf0, ↓w_iv, ↓pm_cl2_4, ↓pm_cl2_2, ↓w_pop, ↓w_is, ↓pm_cl1_1, ↓w_ret, k3]
    refine c_asks (by omega) ?_
    simp (disch := first | omega | decide) only [w_nl0, w_nli, w_nlr, ↓w_ts1, ↓w_ts0, w_rcv, w_rfv, w_cs, true_and, and_true, List.length_nil, List.length_cons, Nat.reduceAdd, Nat.reduceLeDiff, Nat.zero_le, Nat.reduceLT, ↓w_nil, ix_nI, nI_leP, nI_ltP, nI_eqP, nI_1, ↓i_inN, i_inN, l_le, l_lt, l_eq, r_le, r_lt, r_eq, sh0, sh1, sh55, sh60, sh9, sh31, sh23, sh37, sh42, sh43, sh19, sh3, sh6, ↓w_aload_0, ↓w_gf3, ↓w_iload_1, ↓w_iload_2, ↓w_gf0, ↓w_iv, ↓pm_cl2_4, ↓pm_cl2_2, ↓w_pop, ↓w_is, ↓pm_cl1_1, ↓w_ret, k3, pm_up_o]
    refine c_bitT (by omega) (by omega) ?_
    rw [hct]
    simp (disch := first | omega | decide) only [w_nl0, w_nli, w_nlr, ↓w_ts1, ↓w_ts0, w_rcv, w_rfv, w_cs, true_and, and_true, List.length_nil, List.length_cons, Nat.reduceAdd, Nat.reduceLeDiff, Nat.zero_le, Nat.reduceLT, ↓w_nil, ix_nI, nI_leP, nI_ltP, nI_eqP, nI_1, ↓i_inN, i_inN, l_le, l_lt, l_eq, r_le, r_lt, r_eq, sh0, sh1, sh55, sh60, sh9, sh31, sh23, sh37, sh42, sh43, sh19, sh3, sh6, ↓w_aload_0, ↓w_gf3, ↓w_iload_1, ↓w_iload_2, ↓w_gf0, ↓w_iv, ↓pm_cl2_4, ↓pm_cl2_2, ↓w_pop, ↓w_is, ↓pm_cl1_1, ↓w_ret]
    exact hm
  · refine eX11_plan (by omega) ?_
    repeat' (first
      | (apply And.intro)
      | (with_reducible refine bX11_plan_0 ?_; simp (disch := first | omega | decide) only [w_nl0, w_nli, w_nlr, ↓w_ts1, ↓w_ts0, w_rcv, w_rfv, w_cs, true_and, and_true, List.length_nil, List.length_cons, Nat.reduceAdd, Nat.reduceLeDiff, Nat.zero_le, Nat.reduceLT, ↓w_nil, ix_nI, nI_leP, nI_ltP, nI_eqP, nI_1, ↓i_inN, i_inN, l_le, l_lt, l_eq, r_le, r_lt, r_eq, sh0, sh1, sh55, sh60, sh9, sh31, sh23, sh37, sh42, sh43, sh19, sh3, sh6, ↓w_iload_1, ↓w_iconst, ↓w_iclt, ↓w_icgt, ↓w_iload_2, ↓w_sipush, ↓w_icle, ↓w_ret, ↓w_aload_0, ↓w_gf3, ↓w_gf0, ↓w_iv, ↓pm_cl2_4, ↓pm_cl2_2, ↓w_pop, ↓w_is, ↓pm_cl1_1])
      | (with_reducible refine bX11_plan_1 ?_; simp (disch := first | omega | decide) only [w_nl0, w_nli, w_nlr, ↓w_ts1, ↓w_ts0, w_rcv, w_rfv, w_cs, true_and, and_true, List.length_nil, List.length_cons, Nat.reduceAdd, Nat.reduceLeDiff, Nat.zero_le, Nat.reduceLT, ↓w_nil, ix_nI, nI_leP, nI_ltP, nI_eqP, nI_1, ↓i_inN, i_inN, l_le, l_lt, l_eq, r_le, r_lt, r_eq, sh0, sh1, sh55, sh60, sh9, sh31, sh23, sh37, sh42, sh43, sh19, sh3, sh6, ↓w_iload_1, ↓w_iconst, ↓w_iclt, ↓w_icgt, ↓w_iload_2, ↓w_sipush, ↓w_icle, ↓w_ret, ↓w_aload_0, ↓w_gf3, ↓w_gf0, ↓w_iv, ↓pm_cl2_4, ↓pm_cl2_2, ↓w_pop, ↓w_is, ↓pm_cl1_1])
      | (simp only [w_in])
      | (intro _))
    all_goals try rfl
    all_goals try grind
    all_goals try refine MC.of (eX12_plan (by omega) ?_)
    all_goals
      repeat' (first
        | (apply And.intro)
        | (with_reducible refine bX12_plan_0 ?_; simp (disch := first | omega | decide) only [w_nl0, w_nli, w_nlr, ↓w_ts1, ↓w_ts0, w_rcv, w_rfv, w_cs, true_and, and_true, List.length_nil, List.length_cons, Nat.reduceAdd, Nat.reduceLeDiff, Nat.zero_le, Nat.reduceLT, ↓w_nil, ix_nI, nI_leP, nI_ltP, nI_eqP, nI_1, ↓i_inN, i_inN, l_le, l_lt, l_eq, r_le, r_lt, r_eq, sh68_0, sh68_1, sh68_2, sh68_3, sh68_4, ↓w_iload_1, ↓w_iconst, ↓w_is, ↓pm_cl1_3, ↓w_ifeq, ↓w_iload_2, ↓w_sipush, ↓w_ifne, ↓w_ret, ↓w_aload_0, ↓w_gf0, ↓w_ishl, ↓w_istore_3, ↓w_istore_4, ↓w_iload_4, ↓w_iload_3, ↓w_icge, ↓w_gf3, ↓w_iv, ↓pm_cl2_3, ↓w_bastore, ↓w_iinc_4, ↓w_goto, ↓w_istore_5, ↓w_iload_5, ↓w_iflt, ↓w_baload, ↓w_ixor, ↓w_iand, ↓w_isub, ↓w_lconst0, ↓w_lstore_5, ↓w_istore_7, ↓w_iload_7, ↓w_lstore_8, ↓w_istore_10, ↓w_iload_10, ↓w_lload_8, ↓w_ishr, ↓w_icne, ↓w_iaload, ↓w_i2l, ↓w_ladd, ↓w_iinc_10, ↓w_lload_5, ↓w_lcmp, ↓w_ifle, ↓w_iinc_7, ↓w_istore_8, ↓w_iload_8, ↓w_iadd, ↓w_iinc_8])
        | (with_reducible refine bX12_plan_1 ?_; simp (disch := first | omega | decide) only [w_nl0, w_nli, w_nlr, ↓w_ts1, ↓w_ts0, w_rcv, w_rfv, w_cs, true_and, and_true, List.length_nil, List.length_cons, Nat.reduceAdd, Nat.reduceLeDiff, Nat.zero_le, Nat.reduceLT, ↓w_nil, ix_nI, nI_leP, nI_ltP, nI_eqP, nI_1, ↓i_inN, i_inN, l_le, l_lt, l_eq, r_le, r_lt, r_eq, sh68_0, sh68_1, sh68_2, sh68_3, sh68_4, ↓w_iload_1, ↓w_iconst, ↓w_is, ↓pm_cl1_3, ↓w_ifeq, ↓w_iload_2, ↓w_sipush, ↓w_ifne, ↓w_ret, ↓w_aload_0, ↓w_gf0, ↓w_ishl, ↓w_istore_3, ↓w_istore_4, ↓w_iload_4, ↓w_iload_3, ↓w_icge, ↓w_gf3, ↓w_iv, ↓pm_cl2_3, ↓w_bastore, ↓w_iinc_4, ↓w_goto, ↓w_istore_5, ↓w_iload_5, ↓w_iflt, ↓w_baload, ↓w_ixor, ↓w_iand, ↓w_isub, ↓w_lconst0, ↓w_lstore_5, ↓w_istore_7, ↓w_iload_7, ↓w_lstore_8, ↓w_istore_10, ↓w_iload_10, ↓w_lload_8, ↓w_ishr, ↓w_icne, ↓w_iaload, ↓w_i2l, ↓w_ladd, ↓w_iinc_10, ↓w_lload_5, ↓w_lcmp, ↓w_ifle, ↓w_iinc_7, ↓w_istore_8, ↓w_iload_8, ↓w_iadd, ↓w_iinc_8])
        | (with_reducible refine m_in (by omega) ?_ ; simp (disch := first | omega | decide) only [w_nl0, w_nli, w_nlr, ↓w_ts1, ↓w_ts0, w_rcv, w_rfv, w_cs, true_and, and_true, List.length_nil, List.length_cons, Nat.reduceAdd, Nat.reduceLeDiff, Nat.zero_le, Nat.reduceLT, ↓w_nil, ix_nI, nI_leP, nI_ltP, nI_eqP, nI_1, ↓i_inN, i_inN, l_le, l_lt, l_eq, r_le, r_lt, r_eq, sh68_0, sh68_1, sh68_2, sh68_3, sh68_4, ↓w_iload_1, ↓w_iconst, ↓w_is, ↓pm_cl1_3, ↓w_ifeq, ↓w_iload_2, ↓w_sipush, ↓w_ifne, ↓w_ret, ↓w_aload_0, ↓w_gf0, ↓w_ishl, ↓w_istore_3, ↓w_istore_4, ↓w_iload_4, ↓w_iload_3, ↓w_icge, ↓w_gf3, ↓w_iv, ↓pm_cl2_3, ↓w_bastore, ↓w_iinc_4, ↓w_goto, ↓w_istore_5, ↓w_iload_5, ↓w_iflt, ↓w_baload, ↓w_ixor, ↓w_iand, ↓w_isub, ↓w_lconst0, ↓w_lstore_5, ↓w_istore_7, ↓w_iload_7, ↓w_lstore_8, ↓w_istore_10, ↓w_iload_10, ↓w_lload_8, ↓w_ishr, ↓w_icne, ↓w_iaload, ↓w_i2l, ↓w_ladd, ↓w_iinc_10, ↓w_lload_5, ↓w_lcmp, ↓w_ifle, ↓w_iinc_7, ↓w_istore_8, ↓w_iload_8, ↓w_iadd, ↓w_iinc_8])
        | (simp only [w_in])
        | (intro _))
    all_goals first | rfl | exact hw | exact relw_found hw | exact relw_asks hw | grind
end C90
