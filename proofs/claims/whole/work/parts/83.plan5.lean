section C83
variable {g : pm_G} {Q : pm_Po} {S : pm_SS} {I : pm_MI} {J : pm_ML}
theorem or_lt {a k n : Nat} (ha : a < 2 ^ n) (hk : k < n) : a ||| 2 ^ k < 2 ^ n := Nat.or_lt_two_pow ha (Nat.pow_lt_pow_right (by omega) hk)
/-- the class looks for the first row of presses -/
theorem c_assign {n x P : Nat} {ok : Nat → Prop} (hn : n ≤ 9) (hx : x < 512) (hP : P ≤ 3) (h7 : I 60 7 = nI n) (h8 : I 60 8 = nI x) (hpf : ∀ p, 0 < p → p < 2 ^ n → ∃ w, I 67 p = nI w ∧ 1 ≤ w ∧ w ≤ 4 ∧ (w = 1 ↔ ok p)) : ∀ m k L I2 d Q, m + k = n → m + 2 ≤ d → (∀ a, a ≠ 65 → a ≠ 66 → I2 a = I a) → (∀ p, p < 3 → I2 66 p = nI (L p) ∧ L p < 2 ^ n) → (∀ f, srF ok x P m k L = some f → ∀ I3, (∀ a, a ≠ 65 → a ≠ 66 → I3 a = I a) → (∀ j, I3 65 j = if (k ≤ j ∧ j < n) ∧ x.testBit j = true then nI (f j) else I2 65 j) → Q (some (.int 1)) SH I3 J) → (srF ok x P m k L = none → ∀ I3, (∀ a, a ≠ 65 → a ≠ 66 → I3 a = I a) → (∀ p, p < 3 → I3 66 p = nI (L p)) → (∀ j, ¬ ((k ≤ j ∧ j < n) ∧ x.testBit j = true) → I3 65 j = I2 65 j) → Q (some (.int 0)) SH I3 J) → pm_C g d 32 [.ref 60, .int (nI k), .int (nI P)] Q SH I2 J := by
  intro m
  induction m with
  | zero =>
    intro k L I2 d Q hk hd ha hL h1 h0
    have hkn : k = n := by omega
    subst hkn
    have hQ := h1 _ rfl I2 ha (fun j => by rw [if_neg (by omega)])
    have e7 : I2 60 7 = nI k := by rw [ha 60 (by decide) (by decide), h7]
    clear h1 h0 hL ha hpf
    refine eX1_assign (by omega) ?_
    repeat' (first
      | (apply And.intro)
      | (with_reducible refine bX1_assign_0 ?_; simp (disch := first | omega | decide) only [w_nl0, w_nli, w_nlr, ↓w_ts1, ↓w_ts0, w_rcv, w_rfv, w_cs, true_and, and_true, List.length_nil, List.length_cons, Nat.reduceAdd, Nat.reduceLeDiff, Nat.zero_le, Nat.reduceLT, ↓w_nil, ix_nI, nI_leP, nI_ltP, nI_eqP, nI_1, ↓i_inN, i_inN, l_le, l_lt, l_eq, r_le, r_lt, r_eq, sh60, ↓w_iload_1, ↓w_aload_0, ↓w_gf0, ↓w_icge, ↓w_bipush, ↓w_iclt, ↓w_iconst, ↓w_zret, ↓w_ishr, ↓w_iand, ↓w_ifne, ↓w_iadd, ↓w_iload_2, ↓w_iv, ↓pm_cl2_3, ↓w_istore_3, ↓w_iload_3, ↓w_gf3, ↓w_iaload, ↓w_istore_4, ↓w_iload_4, ↓w_ishl, ↓w_ior, ↓w_baload, ↓w_iceq, ↓w_goto, ↓w_iastore, ↓w_ifeq, ↓w_iinc_3, e7])
      | (with_reducible refine bX1_assign_1 ?_; simp (disch := first | omega | decide) only [w_nl0, w_nli, w_nlr, ↓w_ts1, ↓w_ts0, w_rcv, w_rfv, w_cs, true_and, and_true, List.length_nil, List.length_cons, Nat.reduceAdd, Nat.reduceLeDiff, Nat.zero_le, Nat.reduceLT, ↓w_nil, ix_nI, nI_leP, nI_ltP, nI_eqP, nI_1, ↓i_inN, i_inN, l_le, l_lt, l_eq, r_le, r_lt, r_eq, sh60, ↓w_iload_1, ↓w_aload_0, ↓w_gf0, ↓w_icge, ↓w_bipush, ↓w_iclt, ↓w_iconst, ↓w_zret, ↓w_ishr, ↓w_iand, ↓w_ifne, ↓w_iadd, ↓w_iload_2, ↓w_iv, ↓pm_cl2_3, ↓w_istore_3, ↓w_iload_3, ↓w_gf3, ↓w_iaload, ↓w_istore_4, ↓w_iload_4, ↓w_ishl, ↓w_ior, ↓w_baload, ↓w_iceq, ↓w_goto, ↓w_iastore, ↓w_ifeq, ↓w_iinc_3, e7])
      | (simp only [w_in])
      | (intro _))
    all_goals grind
  | succ m ih =>
    intro k L I2 d Q hk hd ha hL h1 h0
    have e7 : I2 60 7 = nI n := by rw [ha 60 (by decide) (by decide), h7]
    have e8 : I2 60 8 = nI x := by rw [ha 60 (by decide) (by decide), h8]
    have hbt := bt (x := x) (i := k) hx (by omega)
    by_cases hb : x.testBit k = true
    · rw [if_pos hb] at hbt
      simp only [srF, if_pos hb] at h1 h0
      have hsl : (1 : Int32) <<< (nI k &&& 31) = nI (2 ^ k) := sl1 (by omega)
      have key : ∀ r p I3 st, r + p = P → (∀ a, a ≠ 65 → a ≠ 66 → I3 a = I a) → (∀ p, p < 3 → I3 66 p = nI (L p)) → (∀ j, ¬ ((k ≤ j ∧ j < n) ∧ x.testBit j = true) → I3 65 j = I2 65 j) → srP ok (srF ok x P m (k + 1)) k L r p = srP ok (srF ok x P m (k + 1)) k L P 0 → UU g (d - 1) 32 kX1_assign (pm_rm d 32) Q 4 [some (.ref 60), some (.int (nI k)), some (.int (nI P)), some (.int (nI p)), st] [] SH I3 J (0, 0) := by
        intro r
        induction r with
        | zero =>
          intro p I3 st hp ha3 hL3 hr3 he
          have hQ := h0 (by rw [← he]; rfl) I3 ha3 hL3 hr3
          have hpP : p = P := by omega
          subst hpP
          clear h1 h0 hL ha hpf ih ha3 hL3 hr3 he
          refine bX1_assign_4 ?_
          simp (disch := first | omega | decide) only [w_nl0, w_nli, w_nlr, ↓w_ts1, ↓w_ts0, w_rcv, w_rfv, w_cs, true_and, and_true, List.length_nil, List.length_cons, Nat.reduceAdd, Nat.reduceLeDiff, Nat.zero_le, Nat.reduceLT, ↓w_nil, ix_nI, nI_leP, nI_ltP, nI_eqP, nI_1, ↓i_inN, i_inN, l_le, l_lt, l_eq, r_le, r_lt, r_eq, sh60, ↓w_iload_3, ↓w_iload_2, ↓w_icge, ↓w_iconst, ↓w_aload_0, ↓w_gf3, ↓w_iaload, ↓w_istore_4, ↓w_iload_4, ↓w_iload_1, ↓w_ishl, ↓w_ior, ↓w_baload, ↓w_iceq, ↓w_goto]
          repeat' (first
            | (apply And.intro)
            | (with_reducible refine bX1_assign_8 ?_; simp (disch := first | omega | decide) only [w_nl0, w_nli, w_nlr, ↓w_ts1, ↓w_ts0, w_rcv, w_rfv, w_cs, true_and, and_true, List.length_nil, List.length_cons, Nat.reduceAdd, Nat.reduceLeDiff, Nat.zero_le, Nat.reduceLT, ↓w_nil, ix_nI, nI_leP, nI_ltP, nI_eqP, nI_1, ↓i_inN, i_inN, l_le, l_lt, l_eq, r_le, r_lt, r_eq, sh60, ↓w_iload_1, ↓w_aload_0, ↓w_gf0, ↓w_icge, ↓w_bipush, ↓w_iclt, ↓w_iconst, ↓w_zret, ↓w_ishr, ↓w_iand, ↓w_ifne, ↓w_iadd, ↓w_iload_2, ↓w_iv, ↓pm_cl2_3, ↓w_istore_3, ↓w_iload_3, ↓w_gf3, ↓w_iaload, ↓w_istore_4, ↓w_iload_4, ↓w_ishl, ↓w_ior, ↓w_baload, ↓w_iceq, ↓w_goto, ↓w_iastore, ↓w_ifeq, ↓w_iinc_3])
            | (simp only [w_in])
            | (intro _))
          all_goals grind
        | succ r ihr =>
          intro p I3 st hp ha3 hL3 hr3 he
          have f66 := hL3 p (by omega)
          have hLn := (hL p (by omega)).2
          have hor : nI (L p) ||| nI (2 ^ k) = nI (L p ||| 2 ^ k) := or_nI
          have horn : L p ||| 2 ^ k < 2 ^ n := or_lt hLn (by omega)
          have hor0 : 0 < L p ||| 2 ^ k := by
            rcases Nat.eq_zero_or_pos (L p ||| 2 ^ k) with z | z
            · have : (L p ||| 2 ^ k).testBit k = true := by rw [Nat.testBit_or, Nat.testBit_two_pow_self, Bool.or_true]
              rw [z, Nat.zero_testBit] at this
              exact absurd this (by decide)
            · exact z
          have hp9 : 2 ^ n ≤ 512 := Nat.pow_le_pow_right (by omega) hn
          obtain ⟨w, ew, w1, w4, wok⟩ := hpf (L p ||| 2 ^ k) hor0 horn
          have e67 : I3 67 (L p ||| 2 ^ k) = nI w := by rw [ha3 67 (by decide) (by decide), ew]
          simp only [srP] at he
          by_cases hok : ok (L p ||| 2 ^ k)
          · rw [if_pos hok] at he
            have hw1 := wok.2 hok
            rw [hw1] at e67
            have e67 : I3 67 (L p ||| 2 ^ k) = 1 := e67
            have hnext : ∀ Q2, (∀ I4, (∀ a, a ≠ 65 → a ≠ 66 → I4 a = I a) → ∀ f, srF ok x P m (k + 1) (updN L p (L p ||| 2 ^ k)) = some f → (∀ j, I4 65 j = if (k + 1 ≤ j ∧ j < n) ∧ x.testBit j = true then nI (f j) else (pm_up (pm_up I3 66 p (nI (L p ||| 2 ^ k))) 65 k (nI p)) 65 j) → Q2 (some (.int 1)) SH I4 J) → (∀ I4, (∀ a, a ≠ 65 → a ≠ 66 → I4 a = I a) → srF ok x P m (k + 1) (updN L p (L p ||| 2 ^ k)) = none → (∀ q, q < 3 → I4 66 q = nI (updN L p (L p ||| 2 ^ k) q)) → (∀ j, ¬ ((k + 1 ≤ j ∧ j < n) ∧ x.testBit j = true) → I4 65 j = (pm_up (pm_up I3 66 p (nI (L p ||| 2 ^ k))) 65 k (nI p)) 65 j) → Q2 (some (.int 0)) SH I4 J) → pm_C g (d - 1) 32 [.ref 60, .int (nI (k + 1)), .int (nI P)] Q2 SH (pm_up (pm_up I3 66 p (nI (L p ||| 2 ^ k))) 65 k (nI p)) J := by
              intro Q2 g1 g0
              refine ih (k + 1) (updN L p (L p ||| 2 ^ k)) _ (d - 1) Q2 (by omega) (by omega) (fun a z1 z2 => by rw [pm_up_o z1, pm_up_o z2]; exact ha3 a z1 z2) (fun q hq => ?_) (fun f hf I4 hi4 hr4 => g1 I4 hi4 f hf hr4) (fun hf I4 hi4 hl4 hr4 => g0 I4 hi4 hf hl4 hr4)
              rw [pm_up_o (by decide), up_at]
              unfold updN
              by_cases e : q = p
              · rw [if_pos e, if_pos e]; exact ⟨rfl, horn⟩
              · rw [if_neg e, if_neg e]; exact ⟨hL3 q hq, (hL q hq).2⟩
            have wS : ∀ I4, (∀ a, a ≠ 65 → a ≠ 66 → I4 a = I a) → ∀ f, srF ok x P m (k + 1) (updN L p (L p ||| 2 ^ k)) = some f → (∀ j, I4 65 j = if (k + 1 ≤ j ∧ j < n) ∧ x.testBit j = true then nI (f j) else (pm_up (pm_up I3 66 p (nI (L p ||| 2 ^ k))) 65 k (nI p)) 65 j) → Q (some (.int 1)) SH I4 J := by
              intro I4 hi4 f hf hr4
              rw [hf] at he
              refine h1 (updN f k p) he.symm I4 hi4 (fun j => ?_)
              rw [hr4 j]
              unfold updN
              by_cases c1 : (k + 1 ≤ j ∧ j < n) ∧ x.testBit j = true
              · rw [if_pos c1, if_pos ⟨⟨by omega, c1.1.2⟩, c1.2⟩, if_neg (by omega)]
              · rw [if_neg c1, up_at]
                by_cases c2 : j = k
                · rw [if_pos c2, if_pos ⟨⟨by omega, by omega⟩, by rw [c2]; exact hb⟩, if_pos c2]
                · have c3 : ¬ ((k ≤ j ∧ j < n) ∧ x.testBit j = true) := fun z => c1 ⟨⟨by omega, z.1.2⟩, z.2⟩
                  rw [if_neg c2, if_neg c3, pm_up_o (by decide)]
                  exact hr3 j c3
            have wF : ∀ I4 st, (∀ a, a ≠ 65 → a ≠ 66 → I4 a = I a) → srF ok x P m (k + 1) (updN L p (L p ||| 2 ^ k)) = none → (∀ q, q < 3 → I4 66 q = nI (updN L p (L p ||| 2 ^ k) q)) → (∀ j, ¬ ((k + 1 ≤ j ∧ j < n) ∧ x.testBit j = true) → I4 65 j = (pm_up (pm_up I3 66 p (nI (L p ||| 2 ^ k))) 65 k (nI p)) 65 j) → UU g (d - 1) 32 kX1_assign (pm_rm d 32) Q 4 [some (.ref 60), some (.int (nI k)), some (.int (nI P)), some (.int (nI (p + 1))), st] [] SH (pm_up I4 66 p (nI (L p))) J (0, 0) := by
              intro I4 st hi4 hf hl4 hr4
              rw [hf] at he
              refine ihr (p + 1) _ st (by omega) (fun a z1 z2 => by rw [pm_up_o z2]; exact hi4 a z1 z2) (fun q hq => ?_) (fun j hj => ?_) he
              · rw [up_at]
                by_cases e : q = p
                · rw [if_pos e, e]
                · rw [if_neg e, hl4 q hq]
                  unfold updN
                  rw [if_neg e]
              · rw [pm_up_o (by decide), hr4 j (fun z => hj ⟨⟨by omega, z.1.2⟩, z.2⟩), pm_up_n (fun z => hj ⟨⟨by omega, by omega⟩, by rw [z]; exact hb⟩), pm_up_o (by decide)]
                exact hr3 j hj
            clear h1 h0 ih ihr hpf he hr3 hL3 hL ha ha3
            generalize L p ||| 2 ^ k = A at *
            refine bX1_assign_4 ?_
            simp (disch := first | omega | decide) only [w_nl0, w_nli, w_nlr, ↓w_ts1, ↓w_ts0, w_rcv, w_rfv, w_cs, true_and, and_true, List.length_nil, List.length_cons, Nat.reduceAdd, Nat.reduceLeDiff, Nat.zero_le, Nat.reduceLT, ↓w_nil, ix_nI, nI_leP, nI_ltP, nI_eqP, nI_1, ↓i_inN, i_inN, l_le, l_lt, l_eq, r_le, r_lt, r_eq, sh60, ↓w_iload_3, ↓w_iload_2, ↓w_icge, ↓w_iconst, ↓w_aload_0, ↓w_gf3, ↓w_iaload, ↓w_istore_4, ↓w_iload_4, ↓w_iload_1, ↓w_ishl, ↓w_ior, ↓w_baload, ↓w_iceq, ↓w_goto, f66, hsl, hor, e67]
            repeat' (first
              | (apply And.intro)
              | (simp only [w_in])
              | (intro _))
            all_goals try (clear hnext wS wF; grind)
            all_goals
              refine bX1_assign_5 ?_
              simp (disch := first | omega | decide) only [w_nl0, w_nli, w_nlr, ↓w_ts1, ↓w_ts0, w_rcv, w_rfv, w_cs, true_and, and_true, List.length_nil, List.length_cons, Nat.reduceAdd, Nat.reduceLeDiff, Nat.zero_le, Nat.reduceLT, ↓w_nil, ix_nI, nI_leP, nI_ltP, nI_eqP, nI_1, ↓i_inN, i_inN, l_le, l_lt, l_eq, r_le, r_lt, r_eq, sh60, ↓w_aload_0, ↓w_gf3, ↓w_iload_3, ↓w_iload_4, ↓w_iconst, ↓w_iload_1, ↓w_ishl, ↓w_ior, ↓w_iastore, ↓w_iadd, ↓w_iload_2, ↓w_iv, ↓pm_cl2_3, ↓w_ifeq, ↓w_zret, hsl, hor, nI_add]
              try refine ⟨by omega, ?_⟩
              try refine ⟨by omega, ?_⟩
              refine hnext _ (fun I4 hi4 f hf hr4 => ?_) (fun I4 hi4 hf hl4 hr4 => ?_)
              · have w5 := wS I4 hi4 f hf hr4
                clear hnext wS wF hi4 hr4
                simp (disch := first | omega | decide) only [w_nl0, w_nli, w_nlr, ↓w_ts1, ↓w_ts0, w_rcv, w_rfv, w_cs, true_and, and_true, List.length_nil, List.length_cons, Nat.reduceAdd, Nat.reduceLeDiff, Nat.zero_le, Nat.reduceLT, ↓w_nil, ix_nI, nI_leP, nI_ltP, nI_eqP, nI_1, ↓i_inN, i_inN, l_le, l_lt, l_eq, r_le, r_lt, r_eq, sh60, ↓w_aload_0, ↓w_gf3, ↓w_iload_3, ↓w_iload_4, ↓w_iconst, ↓w_iload_1, ↓w_ishl, ↓w_ior, ↓w_iastore, ↓w_iadd, ↓w_iload_2, ↓w_iv, ↓pm_cl2_3, ↓w_ifeq, ↓w_zret]
                repeat' (first
                  | (apply And.intro)
                  | (simp only [w_in])
                  | (intro _))
                all_goals grind
              · have w5 := fun st => wF I4 st hi4 hf hl4 hr4
                clear hnext wS wF hi4 hl4 hr4
                simp (disch := first | omega | decide) only [w_nl0, w_nli, w_nlr, ↓w_ts1, ↓w_ts0, w_rcv, w_rfv, w_cs, true_and, and_true, List.length_nil, List.length_cons, Nat.reduceAdd, Nat.reduceLeDiff, Nat.zero_le, Nat.reduceLT, ↓w_nil, ix_nI, nI_leP, nI_ltP, nI_eqP, nI_1, ↓i_inN, i_inN, l_le, l_lt, l_eq, r_le, r_lt, r_eq, sh60, ↓w_aload_0, ↓w_gf3, ↓w_iload_3, ↓w_iload_4, ↓w_iconst, ↓w_iload_1, ↓w_ishl, ↓w_ior, ↓w_iastore, ↓w_iadd, ↓w_iload_2, ↓w_iv, ↓pm_cl2_3, ↓w_ifeq, ↓w_zret]
                repeat' (first
                  | (apply And.intro)
                  | (with_reducible refine bX1_assign_6 ?_; simp (disch := first | omega | decide) only [w_nl0, w_nli, w_nlr, ↓w_ts1, ↓w_ts0, w_rcv, w_rfv, w_cs, true_and, and_true, List.length_nil, List.length_cons, Nat.reduceAdd, Nat.reduceLeDiff, Nat.zero_le, Nat.reduceLT, ↓w_nil, ix_nI, nI_leP, nI_ltP, nI_eqP, nI_1, ↓i_inN, i_inN, l_le, l_lt, l_eq, r_le, r_lt, r_eq, sh60, ↓w_iload_1, ↓w_aload_0, ↓w_gf0, ↓w_icge, ↓w_bipush, ↓w_iclt, ↓w_iconst, ↓w_zret, ↓w_ishr, ↓w_iand, ↓w_ifne, ↓w_iadd, ↓w_iload_2, ↓w_iv, ↓pm_cl2_3, ↓w_istore_3, ↓w_iload_3, ↓w_gf3, ↓w_iaload, ↓w_istore_4, ↓w_iload_4, ↓w_ishl, ↓w_ior, ↓w_baload, ↓w_iceq, ↓w_goto, ↓w_iastore, ↓w_ifeq, ↓w_iinc_3, nI_add])
                  | (with_reducible refine bX1_assign_7 ?_; simp (disch := first | omega | decide) only [w_nl0, w_nli, w_nlr, ↓w_ts1, ↓w_ts0, w_rcv, w_rfv, w_cs, true_and, and_true, List.length_nil, List.length_cons, Nat.reduceAdd, Nat.reduceLeDiff, Nat.zero_le, Nat.reduceLT, ↓w_nil, ix_nI, nI_leP, nI_ltP, nI_eqP, nI_1, ↓i_inN, i_inN, l_le, l_lt, l_eq, r_le, r_lt, r_eq, sh60, ↓w_iload_1, ↓w_aload_0, ↓w_gf0, ↓w_icge, ↓w_bipush, ↓w_iclt, ↓w_iconst, ↓w_zret, ↓w_ishr, ↓w_iand, ↓w_ifne, ↓w_iadd, ↓w_iload_2, ↓w_iv, ↓pm_cl2_3, ↓w_istore_3, ↓w_iload_3, ↓w_gf3, ↓w_iaload, ↓w_istore_4, ↓w_iload_4, ↓w_ishl, ↓w_ior, ↓w_baload, ↓w_iceq, ↓w_goto, ↓w_iastore, ↓w_ifeq, ↓w_iinc_3, nI_add])
                  | (simp only [w_in])
                  | (intro _))
                all_goals grind
          · rw [if_neg hok] at he
            have w5 := fun st => ihr (p + 1) I3 st (by omega) ha3 hL3 hr3 he
            have hw1 : ¬ w = 1 := fun z => hok (wok.1 z)
            clear h1 h0 ih ihr hpf he hr3 hL3 hL ha ha3
            generalize L p ||| 2 ^ k = A at *
            refine bX1_assign_4 ?_
            simp (disch := first | omega | decide) only [w_nl0, w_nli, w_nlr, ↓w_ts1, ↓w_ts0, w_rcv, w_rfv, w_cs, true_and, and_true, List.length_nil, List.length_cons, Nat.reduceAdd, Nat.reduceLeDiff, Nat.zero_le, Nat.reduceLT, ↓w_nil, ix_nI, nI_leP, nI_ltP, nI_eqP, nI_1, ↓i_inN, i_inN, l_le, l_lt, l_eq, r_le, r_lt, r_eq, sh60, ↓w_iload_3, ↓w_iload_2, ↓w_icge, ↓w_iconst, ↓w_aload_0, ↓w_gf3, ↓w_iaload, ↓w_istore_4, ↓w_iload_4, ↓w_iload_1, ↓w_ishl, ↓w_ior, ↓w_baload, ↓w_iceq, ↓w_goto, f66, hsl, hor, e67]
            repeat' (first
              | (apply And.intro)
              | (with_reducible refine bX1_assign_7 ?_; simp (disch := first | omega | decide) only [w_nl0, w_nli, w_nlr, ↓w_ts1, ↓w_ts0, w_rcv, w_rfv, w_cs, true_and, and_true, List.length_nil, List.length_cons, Nat.reduceAdd, Nat.reduceLeDiff, Nat.zero_le, Nat.reduceLT, ↓w_nil, ix_nI, nI_leP, nI_ltP, nI_eqP, nI_1, ↓i_inN, i_inN, l_le, l_lt, l_eq, r_le, r_lt, r_eq, sh60, ↓w_iload_1, ↓w_aload_0, ↓w_gf0, ↓w_icge, ↓w_bipush, ↓w_iclt, ↓w_iconst, ↓w_zret, ↓w_ishr, ↓w_iand, ↓w_ifne, ↓w_iadd, ↓w_iload_2, ↓w_iv, ↓pm_cl2_3, ↓w_istore_3, ↓w_iload_3, ↓w_gf3, ↓w_iaload, ↓w_istore_4, ↓w_iload_4, ↓w_ishl, ↓w_ior, ↓w_baload, ↓w_iceq, ↓w_goto, ↓w_iastore, ↓w_ifeq, ↓w_iinc_3, f66, hsl, hor, e67, nI_add])
              | (simp only [w_in])
              | (intro _))
            all_goals grind
      have w : UU g (d - 1) 32 kX1_assign (pm_rm d 32) Q 4 [some (.ref 60), some (.int (nI k)), some (.int (nI P)), some (.int 0), none] [] SH I2 J (0, 0) := key P 0 I2 none (by omega) ha (fun p hp => (hL p hp).1) (fun _ _ => rfl) rfl
      clear key h1 h0 ih hpf hL ha
      refine eX1_assign (by omega) ?_
      repeat' (first
        | (apply And.intro)
        | (with_reducible refine bX1_assign_0 ?_; simp (disch := first | omega | decide) only [w_nl0, w_nli, w_nlr, ↓w_ts1, ↓w_ts0, w_rcv, w_rfv, w_cs, true_and, and_true, List.length_nil, List.length_cons, Nat.reduceAdd, Nat.reduceLeDiff, Nat.zero_le, Nat.reduceLT, ↓w_nil, ix_nI, nI_leP, nI_ltP, nI_eqP, nI_1, ↓i_inN, i_inN, l_le, l_lt, l_eq, r_le, r_lt, r_eq, sh60, ↓w_iload_1, ↓w_aload_0, ↓w_gf0, ↓w_icge, ↓w_bipush, ↓w_iclt, ↓w_iconst, ↓w_zret, ↓w_ishr, ↓w_iand, ↓w_ifne, ↓w_iadd, ↓w_iload_2, ↓w_iv, ↓pm_cl2_3, ↓w_istore_3, ↓w_iload_3, ↓w_gf3, ↓w_iaload, ↓w_istore_4, ↓w_iload_4, ↓w_ishl, ↓w_ior, ↓w_baload, ↓w_iceq, ↓w_goto, ↓w_iastore, ↓w_ifeq, ↓w_iinc_3, e7, e8, hbt])
        | (with_reducible refine bX1_assign_2 ?_; simp (disch := first | omega | decide) only [w_nl0, w_nli, w_nlr, ↓w_ts1, ↓w_ts0, w_rcv, w_rfv, w_cs, true_and, and_true, List.length_nil, List.length_cons, Nat.reduceAdd, Nat.reduceLeDiff, Nat.zero_le, Nat.reduceLT, ↓w_nil, ix_nI, nI_leP, nI_ltP, nI_eqP, nI_1, ↓i_inN, i_inN, l_le, l_lt, l_eq, r_le, r_lt, r_eq, sh60, ↓w_iload_1, ↓w_aload_0, ↓w_gf0, ↓w_icge, ↓w_bipush, ↓w_iclt, ↓w_iconst, ↓w_zret, ↓w_ishr, ↓w_iand, ↓w_ifne, ↓w_iadd, ↓w_iload_2, ↓w_iv, ↓pm_cl2_3, ↓w_istore_3, ↓w_iload_3, ↓w_gf3, ↓w_iaload, ↓w_istore_4, ↓w_iload_4, ↓w_ishl, ↓w_ior, ↓w_baload, ↓w_iceq, ↓w_goto, ↓w_iastore, ↓w_ifeq, ↓w_iinc_3, e7, e8, hbt])
        | (with_reducible refine bX1_assign_3 ?_; simp (disch := first | omega | decide) only [w_nl0, w_nli, w_nlr, ↓w_ts1, ↓w_ts0, w_rcv, w_rfv, w_cs, true_and, and_true, List.length_nil, List.length_cons, Nat.reduceAdd, Nat.reduceLeDiff, Nat.zero_le, Nat.reduceLT, ↓w_nil, ix_nI, nI_leP, nI_ltP, nI_eqP, nI_1, ↓i_inN, i_inN, l_le, l_lt, l_eq, r_le, r_lt, r_eq, sh60, ↓w_iload_1, ↓w_aload_0, ↓w_gf0, ↓w_icge, ↓w_bipush, ↓w_iclt, ↓w_iconst, ↓w_zret, ↓w_ishr, ↓w_iand, ↓w_ifne, ↓w_iadd, ↓w_iload_2, ↓w_iv, ↓pm_cl2_3, ↓w_istore_3, ↓w_iload_3, ↓w_gf3, ↓w_iaload, ↓w_istore_4, ↓w_iload_4, ↓w_ishl, ↓w_ior, ↓w_baload, ↓w_iceq, ↓w_goto, ↓w_iastore, ↓w_ifeq, ↓w_iinc_3, e7, e8, hbt])
        | (simp only [w_in])
        | (intro _))
      all_goals grind
    · rw [if_neg hb] at hbt
      simp only [srF, if_neg hb] at h1 h0
      have w : ∀ Q2 : pm_Po, (∀ I3, Q (some (.int 1)) SH I3 J → Q2 (some (.int 1)) SH I3 J) → (∀ I3, Q (some (.int 0)) SH I3 J → Q2 (some (.int 0)) SH I3 J) → pm_C g (d - 1) 32 [.ref 60, .int (nI (k + 1)), .int (nI P)] Q2 SH I2 J := by
        intro Q2 hQ1 hQ0
        refine ih (k + 1) L I2 (d - 1) Q2 (by omega) (by omega) ha hL (fun f hf I3 hi3 hr3 => hQ1 _ (h1 f hf I3 hi3 (fun j => ?_))) (fun hf I3 hi3 hl3 hr3 => hQ0 _ (h0 hf I3 hi3 hl3 (fun j hj => ?_)))
        · rw [hr3 j]
          by_cases c1 : (k + 1 ≤ j ∧ j < n) ∧ x.testBit j = true
          · rw [if_pos c1, if_pos ⟨⟨by omega, c1.1.2⟩, c1.2⟩]
          · rw [if_neg c1, if_neg (fun z => c1 ⟨⟨by
              by_cases e : j = k
              · rw [e] at z; exact absurd z.2 hb
              · omega, z.1.2⟩, z.2⟩)]
        · exact hr3 j (fun z => hj ⟨⟨by omega, z.1.2⟩, z.2⟩)
      clear h1 h0 ih hpf hL ha
      refine eX1_assign (by omega) ?_
      repeat' (first
        | (apply And.intro)
        | (with_reducible refine bX1_assign_0 ?_; simp (disch := first | omega | decide) only [w_nl0, w_nli, w_nlr, ↓w_ts1, ↓w_ts0, w_rcv, w_rfv, w_cs, true_and, and_true, List.length_nil, List.length_cons, Nat.reduceAdd, Nat.reduceLeDiff, Nat.zero_le, Nat.reduceLT, ↓w_nil, ix_nI, nI_leP, nI_ltP, nI_eqP, nI_1, ↓i_inN, i_inN, l_le, l_lt, l_eq, r_le, r_lt, r_eq, sh60, ↓w_iload_1, ↓w_aload_0, ↓w_gf0, ↓w_icge, ↓w_bipush, ↓w_iclt, ↓w_iconst, ↓w_zret, ↓w_ishr, ↓w_iand, ↓w_ifne, ↓w_iadd, ↓w_iload_2, ↓w_iv, ↓pm_cl2_3, ↓w_istore_3, ↓w_iload_3, ↓w_gf3, ↓w_iaload, ↓w_istore_4, ↓w_iload_4, ↓w_ishl, ↓w_ior, ↓w_baload, ↓w_iceq, ↓w_goto, ↓w_iastore, ↓w_ifeq, ↓w_iinc_3, e7, e8, hbt, nI_add])
        | (with_reducible refine bX1_assign_2 ?_; simp (disch := first | omega | decide) only [w_nl0, w_nli, w_nlr, ↓w_ts1, ↓w_ts0, w_rcv, w_rfv, w_cs, true_and, and_true, List.length_nil, List.length_cons, Nat.reduceAdd, Nat.reduceLeDiff, Nat.zero_le, Nat.reduceLT, ↓w_nil, ix_nI, nI_leP, nI_ltP, nI_eqP, nI_1, ↓i_inN, i_inN, l_le, l_lt, l_eq, r_le, r_lt, r_eq, sh60, ↓w_iload_1, ↓w_aload_0, ↓w_gf0, ↓w_icge, ↓w_bipush, ↓w_iclt, ↓w_iconst, ↓w_zret, ↓w_ishr, ↓w_iand, ↓w_ifne, ↓w_iadd, ↓w_iload_2, ↓w_iv, ↓pm_cl2_3, ↓w_istore_3, ↓w_iload_3, ↓w_gf3, ↓w_iaload, ↓w_istore_4, ↓w_iload_4, ↓w_ishl, ↓w_ior, ↓w_baload, ↓w_iceq, ↓w_goto, ↓w_iastore, ↓w_ifeq, ↓w_iinc_3, e7, e8, hbt, nI_add])
        | (with_reducible refine w _ (fun I3 h3 => ?_) (fun I3 h3 => ?_) <;> simp (disch := first | omega | decide) only [w_nl0, w_nli, w_nlr, ↓w_ts1, ↓w_ts0, w_rcv, w_rfv, w_cs, true_and, and_true, List.length_nil, List.length_cons, Nat.reduceAdd, Nat.reduceLeDiff, Nat.zero_le, Nat.reduceLT, ↓w_nil, ix_nI, nI_leP, nI_ltP, nI_eqP, nI_1, ↓i_inN, i_inN, l_le, l_lt, l_eq, r_le, r_lt, r_eq, sh60, ↓w_iload_1, ↓w_aload_0, ↓w_gf0, ↓w_icge, ↓w_bipush, ↓w_iclt, ↓w_iconst, ↓w_zret, ↓w_ishr, ↓w_iand, ↓w_ifne, ↓w_iadd, ↓w_iload_2, ↓w_iv, ↓pm_cl2_3, ↓w_istore_3, ↓w_iload_3, ↓w_gf3, ↓w_iaload, ↓w_istore_4, ↓w_iload_4, ↓w_ishl, ↓w_ior, ↓w_baload, ↓w_iceq, ↓w_goto, ↓w_iastore, ↓w_ifeq, ↓w_iinc_3, e7, e8, hbt, nI_add])
        | (simp only [w_in])
        | (intro _))
      all_goals (clear w; grind)
end C83
