section C84
variable {g : pm_G} {Q : pm_Po} {S : pm_SS} {I : pm_MI} {J : pm_ML}
theorem or_xor {a k : Nat} (h : a < 2 ^ k) : (a ||| 2 ^ k) ^^^ 2 ^ k = a := by
  refine Nat.eq_of_testBit_eq (fun i => ?_)
  rw [Nat.testBit_xor, Nat.testBit_or, Nat.testBit_two_pow]
  by_cases e : k = i
  · subst e
    rw [Nat.testBit_lt_two_pow h]
    simp
  · simp [e]
theorem or_sub {a k : Nat} : subS (2 ^ k) (a ||| 2 ^ k) := by
  intro i hi
  rw [Nat.testBit_or, hi, Bool.or_true]
/-- the reference looks for the first row of presses -/
theorem m_settle {n x P : Nat} {ok : Nat → Prop} (hn : n ≤ 9) (hx : x < 512) (hP : P ≤ 3) (h7 : I 68 73 = nI n) (hpf : ∀ p, p < 2 ^ n → (ok p → I 119 p = 1) ∧ (¬ ok p → I 119 p = 0)) : ∀ m k L I2 d Q, m + k = n → m + 2 ≤ d → (∀ a, a ≠ 121 → a ≠ 122 → I2 a = I a) → (∀ p, p < 3 → I2 122 p = nI (L p) ∧ L p < 2 ^ k ∧ ok (L p)) → (∀ f, srF ok x P m k L = some f → ∀ I3, (∀ a, a ≠ 121 → a ≠ 122 → I3 a = I a) → (∀ j, I3 121 j = if (k ≤ j ∧ j < n) ∧ x.testBit j = true then nI (f j) else I2 121 j) → Q (some (.int 1)) SH I3 J) → (srF ok x P m k L = none → ∀ I3, (∀ a, a ≠ 121 → a ≠ 122 → I3 a = I a) → (∀ p, p < 3 → I3 122 p = nI (L p)) → (∀ j, ¬ ((k ≤ j ∧ j < n) ∧ x.testBit j = true) → I3 121 j = I2 121 j) → Q (some (.int 0)) SH I3 J) → pm_C g d 285 [.ref 68, .int (nI k), .int (nI x), .int (nI P)] Q SH I2 J := by
  have hp9 : 2 ^ n ≤ 512 := Nat.pow_le_pow_right (by omega) hn
  intro m
  induction m with
  | zero =>
    intro k L I2 d Q hk hd ha hL h1 h0
    have hkn : k = n := by omega
    subst hkn
    have hQ := h1 _ rfl I2 ha (fun j => by rw [if_neg (by omega)])
    have e7 : I2 68 73 = nI k := by rw [ha 68 (by decide) (by decide), h7]
    obtain ⟨l0, l0', o0⟩ := hL 0 (by omega)
    obtain ⟨l1, l1', o1⟩ := hL 1 (by omega)
    obtain ⟨l2, l2', o2⟩ := hL 2 (by omega)
    have b0 : I2 119 (L 0) = 1 := by rw [ha 119 (by decide) (by decide)]; exact (hpf _ l0').1 o0
    have b1 : I2 119 (L 1) = 1 := by rw [ha 119 (by decide) (by decide)]; exact (hpf _ l1').1 o1
    have b2 : I2 119 (L 2) = 1 := by rw [ha 119 (by decide) (by decide)]; exact (hpf _ l2').1 o2
    have i0 : I2 122 (0 : Int32).toNatClampNeg = nI (L 0) := l0
    have i1 : I2 122 (1 : Int32).toNatClampNeg = nI (L 1) := l1
    have i2 : I2 122 (2 : Int32).toNatClampNeg = nI (L 2) := l2
    clear h1 h0 hL ha hpf o0 o1 o2
    generalize L 0 = A0 at *
    generalize L 1 = A1 at *
    generalize L 2 = A2 at *
    refine eX12_settle (by omega) ?_
    repeat' (first
      | (apply And.intro)
      | (with_reducible refine bX12_settle_0 ?_; simp (disch := first | omega | decide) only [w_nl0, w_nli, w_nlr, ↓w_ts1, ↓w_ts0, w_rcv, w_rfv, w_cs, true_and, and_true, List.length_nil, List.length_cons, Nat.reduceAdd, Nat.reduceLeDiff, Nat.zero_le, Nat.reduceLT, ↓w_nil, ix_nI, nI_leP, nI_ltP, nI_eqP, nI_1, ↓i_inN, i_inN, l_le, l_lt, l_eq, r_le, r_lt, r_eq, sh68_0, sh68_1, sh68_2, sh68_3, sh68_4, ↓w_iload_1, ↓w_aload_0, ↓w_gf0, ↓w_icne, ↓w_gf3, ↓w_iconst, ↓w_iaload, ↓w_baload, ↓w_ifeq, ↓w_goto, ↓w_zret, ↓w_iload_2, ↓w_ishr, ↓w_iand, ↓w_ifne, ↓w_iadd, ↓w_iload_3, ↓w_iv, ↓pm_cl2_4, ↓w_istore_4, ↓w_iload_4, ↓w_icge, ↓w_dup2, ↓w_ishl, ↓w_ior, ↓w_iastore, ↓w_ixor, ↓w_iinc_4, ↓w_bipush, e7, i0, i1, i2, l0, l1, l2, b0, b1, b2])
      | (with_reducible refine bX12_settle_1 ?_; simp (disch := first | omega | decide) only [w_nl0, w_nli, w_nlr, ↓w_ts1, ↓w_ts0, w_rcv, w_rfv, w_cs, true_and, and_true, List.length_nil, List.length_cons, Nat.reduceAdd, Nat.reduceLeDiff, Nat.zero_le, Nat.reduceLT, ↓w_nil, ix_nI, nI_leP, nI_ltP, nI_eqP, nI_1, ↓i_inN, i_inN, l_le, l_lt, l_eq, r_le, r_lt, r_eq, sh68_0, sh68_1, sh68_2, sh68_3, sh68_4, ↓w_iload_1, ↓w_aload_0, ↓w_gf0, ↓w_icne, ↓w_gf3, ↓w_iconst, ↓w_iaload, ↓w_baload, ↓w_ifeq, ↓w_goto, ↓w_zret, ↓w_iload_2, ↓w_ishr, ↓w_iand, ↓w_ifne, ↓w_iadd, ↓w_iload_3, ↓w_iv, ↓pm_cl2_4, ↓w_istore_4, ↓w_iload_4, ↓w_icge, ↓w_dup2, ↓w_ishl, ↓w_ior, ↓w_iastore, ↓w_ixor, ↓w_iinc_4, ↓w_bipush, e7, i0, i1, i2, l0, l1, l2, b0, b1, b2])
      | (with_reducible refine bX12_settle_2 ?_; simp (disch := first | omega | decide) only [w_nl0, w_nli, w_nlr, ↓w_ts1, ↓w_ts0, w_rcv, w_rfv, w_cs, true_and, and_true, List.length_nil, List.length_cons, Nat.reduceAdd, Nat.reduceLeDiff, Nat.zero_le, Nat.reduceLT, ↓w_nil, ix_nI, nI_leP, nI_ltP, nI_eqP, nI_1, ↓i_inN, i_inN, l_le, l_lt, l_eq, r_le, r_lt, r_eq, sh68_0, sh68_1, sh68_2, sh68_3, sh68_4, ↓w_iload_1, ↓w_aload_0, ↓w_gf0, ↓w_icne, ↓w_gf3, ↓w_iconst, ↓w_iaload, ↓w_baload, ↓w_ifeq, ↓w_goto, ↓w_zret, ↓w_iload_2, ↓w_ishr, ↓w_iand, ↓w_ifne, ↓w_iadd, ↓w_iload_3, ↓w_iv, ↓pm_cl2_4, ↓w_istore_4, ↓w_iload_4, ↓w_icge, ↓w_dup2, ↓w_ishl, ↓w_ior, ↓w_iastore, ↓w_ixor, ↓w_iinc_4, ↓w_bipush, e7, i0, i1, i2, l0, l1, l2, b0, b1, b2])
      | (simp only [w_in])
      | (intro _))
    all_goals grind
  | succ m ih =>
    intro k L I2 d Q hk hd ha hL h1 h0
    have e7 : I2 68 73 = nI n := by rw [ha 68 (by decide) (by decide), h7]
    have hbt := bt (x := x) (i := k) hx (by omega)
    by_cases hb : x.testBit k = true
    · rw [if_pos hb] at hbt
      simp only [srF, if_pos hb] at h1 h0
      have hsl : (1 : Int32) <<< (nI k &&& 31) = nI (2 ^ k) := sl1 (by omega)
      have hkp : 2 ^ k < 2 ^ (k + 1) := Nat.pow_lt_pow_right (by omega) (by omega)
      have hkn : 2 ^ (k + 1) ≤ 2 ^ n := Nat.pow_le_pow_right (by omega) (by omega)
      have key : ∀ r p I3, r + p = P → (∀ a, a ≠ 121 → a ≠ 122 → I3 a = I a) → (∀ p, p < 3 → I3 122 p = nI (L p)) → (∀ j, ¬ ((k ≤ j ∧ j < n) ∧ x.testBit j = true) → I3 121 j = I2 121 j) → srP ok (srF ok x P m (k + 1)) k L r p = srP ok (srF ok x P m (k + 1)) k L P 0 → UU g (d - 1) 285 kX12_settle (pm_rm d 285) Q 5 [some (.ref 68), some (.int (nI k)), some (.int (nI x)), some (.int (nI P)), some (.int (nI p))] [] SH I3 J (0, 0) := by
        intro r
        induction r with
        | zero =>
          intro p I3 hp ha3 hL3 hr3 he
          have hQ := h0 (by rw [← he]; rfl) (pm_up I3 121 k (-9)) (fun a z1 z2 => by rw [pm_up_o z1]; exact ha3 a z1 z2) (fun p hp => by rw [pm_up_o (by decide)]; exact hL3 p hp) (fun j hj => by
            rw [pm_up_n (fun z => hj ⟨⟨by omega, by omega⟩, by rw [z]; exact hb⟩)]
            exact hr3 j hj)
          have hpP : p = P := by omega
          subst hpP
          clear h1 h0 hL ha hpf ih ha3 hL3 hr3 he
          refine bX12_settle_5 ?_
          simp (disch := first | omega | decide) only [w_nl0, w_nli, w_nlr, ↓w_ts1, ↓w_ts0, w_rcv, w_rfv, w_cs, true_and, and_true, List.length_nil, List.length_cons, Nat.reduceAdd, Nat.reduceLeDiff, Nat.zero_le, Nat.reduceLT, ↓w_nil, ix_nI, nI_leP, nI_ltP, nI_eqP, nI_1, ↓i_inN, i_inN, l_le, l_lt, l_eq, r_le, r_lt, r_eq, sh68_0, sh68_1, sh68_2, sh68_3, sh68_4, ↓w_iload_4, ↓w_iload_3, ↓w_icge, ↓w_aload_0, ↓w_gf3, ↓w_dup2, ↓w_iaload, ↓w_iconst, ↓w_iload_1, ↓w_ishl, ↓w_ior, ↓w_iastore, ↓w_baload, ↓w_ifeq, ↓w_iadd, ↓w_iload_2, ↓w_iv, ↓pm_cl2_4, ↓w_zret]
          repeat' (first
            | (apply And.intro)
            | (with_reducible refine bX12_settle_7 ?_; simp (disch := first | omega | decide) only [w_nl0, w_nli, w_nlr, ↓w_ts1, ↓w_ts0, w_rcv, w_rfv, w_cs, true_and, and_true, List.length_nil, List.length_cons, Nat.reduceAdd, Nat.reduceLeDiff, Nat.zero_le, Nat.reduceLT, ↓w_nil, ix_nI, nI_leP, nI_ltP, nI_eqP, nI_1, ↓i_inN, i_inN, l_le, l_lt, l_eq, r_le, r_lt, r_eq, sh68_0, sh68_1, sh68_2, sh68_3, sh68_4, ↓w_iload_1, ↓w_aload_0, ↓w_gf0, ↓w_icne, ↓w_gf3, ↓w_iconst, ↓w_iaload, ↓w_baload, ↓w_ifeq, ↓w_goto, ↓w_zret, ↓w_iload_2, ↓w_ishr, ↓w_iand, ↓w_ifne, ↓w_iadd, ↓w_iload_3, ↓w_iv, ↓pm_cl2_4, ↓w_istore_4, ↓w_iload_4, ↓w_icge, ↓w_dup2, ↓w_ishl, ↓w_ior, ↓w_iastore, ↓w_ixor, ↓w_iinc_4, ↓w_bipush])
            | (simp only [w_in])
            | (intro _))
          all_goals grind
        | succ r ihr =>
          intro p I3 hp ha3 hL3 hr3 he
          have f122 := hL3 p (by omega)
          have hLk := (hL p (by omega)).2.1
          have hor : nI (L p) ||| nI (2 ^ k) = nI (L p ||| 2 ^ k) := or_nI
          have hork : L p ||| 2 ^ k < 2 ^ (k + 1) := Nat.or_lt_two_pow (Nat.lt_trans hLk hkp) hkp
          have hnt : nI (L p ||| 2 ^ k) &&& (nI (2 ^ k) ^^^ -1) = nI (L p) := by rw [nt_nI or_sub, or_xor hLk]
          have wF : ∀ I4, (∀ a, a ≠ 121 → a ≠ 122 → I4 a = I a) → (∀ q, q < 3 → I4 122 q = nI (updN L p (L p ||| 2 ^ k) q)) → (∀ j, ¬ ((k + 1 ≤ j ∧ j < n) ∧ x.testBit j = true) → I4 121 j = (pm_up (pm_up I3 122 p (nI (L p ||| 2 ^ k))) 121 k (nI p)) 121 j) → srP ok (srF ok x P m (k + 1)) k L r (p + 1) = srP ok (srF ok x P m (k + 1)) k L P 0 → UU g (d - 1) 285 kX12_settle (pm_rm d 285) Q 5 [some (.ref 68), some (.int (nI k)), some (.int (nI x)), some (.int (nI P)), some (.int (nI (p + 1)))] [] SH (pm_up I4 122 p (nI (L p))) J (0, 0) := by
            intro I4 hi4 hl4 hr4 he4
            refine ihr (p + 1) _ (by omega) (fun a z1 z2 => by rw [pm_up_o z2]; exact hi4 a z1 z2) (fun q hq => ?_) (fun j hj => ?_) he4
            · rw [up_at]
              by_cases e : q = p
              · rw [if_pos e, e]
              · rw [if_neg e, hl4 q hq]
                unfold updN
                rw [if_neg e]
            · rw [pm_up_o (by decide), hr4 j (fun z => hj ⟨⟨by omega, z.1.2⟩, z.2⟩), pm_up_n (fun z => hj ⟨⟨by omega, by omega⟩, by rw [z]; exact hb⟩), pm_up_o (by decide)]
              exact hr3 j hj
          have hl4 : ∀ q, q < 3 → (pm_up (pm_up I3 122 p (nI (L p ||| 2 ^ k))) 121 k (nI p)) 122 q = nI (updN L p (L p ||| 2 ^ k) q) := by
            intro q hq
            rw [pm_up_o (by decide), up_at]
            unfold updN
            by_cases e : q = p
            · rw [if_pos e, if_pos e]
            · rw [if_neg e, if_neg e, hL3 q hq]
          have hi4 : ∀ a, a ≠ 121 → a ≠ 122 → (pm_up (pm_up I3 122 p (nI (L p ||| 2 ^ k))) 121 k (nI p)) a = I a := fun a z1 z2 => by rw [pm_up_o z1, pm_up_o z2]; exact ha3 a z1 z2
          simp only [srP] at he
          by_cases hok : ok (L p ||| 2 ^ k)
          · rw [if_pos hok] at he
            have e119 : (pm_up (pm_up I3 122 p (nI (L p ||| 2 ^ k))) 121 k (nI p)) 119 (L p ||| 2 ^ k) = 1 := by
              rw [hi4 119 (by decide) (by decide)]
              exact (hpf _ (by omega)).1 hok
            have hup : ∀ I4 : pm_MI, (∀ q, q < 3 → I4 122 q = nI (updN L p (L p ||| 2 ^ k) q)) → I4 122 p = nI (L p ||| 2 ^ k) := fun I4 h4 => by
              rw [h4 p (by omega)]
              unfold updN
              rw [if_pos rfl]
            have hnext : ∀ Q2 : pm_Po, (∀ I4, Q (some (.int 1)) SH I4 J → Q2 (some (.int 1)) SH I4 J) → (∀ I4, I4 122 p = nI (L p ||| 2 ^ k) → UU g (d - 1) 285 kX12_settle (pm_rm d 285) Q 5 [some (.ref 68), some (.int (nI k)), some (.int (nI x)), some (.int (nI P)), some (.int (nI (p + 1)))] [] SH (pm_up I4 122 p (nI (L p))) J (0, 0) → Q2 (some (.int 0)) SH I4 J) → pm_C g (d - 1) 285 [.ref 68, .int (nI (k + 1)), .int (nI x), .int (nI P)] Q2 SH (pm_up (pm_up I3 122 p (nI (L p ||| 2 ^ k))) 121 k (nI p)) J := by
              intro Q2 g1 g0
              refine ih (k + 1) (updN L p (L p ||| 2 ^ k)) _ (d - 1) Q2 (by omega) (by omega) hi4 (fun q hq => ⟨hl4 q hq, ?_⟩) (fun f hf I4 hi4' hr4 => g1 I4 ?_) (fun hf I4 hi4' hl4' hr4 => g0 I4 (hup I4 hl4') (wF I4 hi4' hl4' hr4 (by rw [hf] at he; exact he)))
              · unfold updN
                by_cases e : q = p
                · rw [if_pos e]; exact ⟨hork, hok⟩
                · rw [if_neg e]; exact ⟨Nat.lt_trans (hL q hq).2.1 hkp, (hL q hq).2.2⟩
              · rw [hf] at he
                refine h1 (updN f k p) he.symm I4 hi4' (fun j => ?_)
                rw [hr4 j]
                unfold updN
                by_cases c1 : (k + 1 ≤ j ∧ j < n) ∧ x.testBit j = true
                · rw [if_pos c1, if_pos ⟨⟨by omega, c1.1.2⟩, c1.2⟩, if_neg (by omega)]
                · rw [if_neg c1, up_at]
                  by_cases c2 : j = k
                  · rw [if_pos c2, if_pos ⟨⟨by omega, by omega⟩, by rw [c2]; exact hb⟩, if_pos c2]
                  · have c3 : ¬ ((k ≤ j ∧ j < n) ∧ x.testBit j = true) := fun z => c1 ⟨⟨by omega, z.1.2⟩, z.2⟩
                    rw [if_neg c2, if_neg c3, pm_up_o (by decide)]
                    exact hr3 j c3
            clear h1 h0 ih ihr hpf he hr3 hL3 hL ha ha3 wF hl4 hi4 hup
            have hA512 : L p ||| 2 ^ k < 512 := by omega
            generalize hA : L p ||| 2 ^ k = A at *
            clear hA
            simp (disch := decide) only [pm_up_o] at e119
            refine bX12_settle_5 ?_
            simp (disch := first | omega | decide) only [w_nl0, w_nli, w_nlr, ↓w_ts1, ↓w_ts0, w_rcv, w_rfv, w_cs, true_and, and_true, List.length_nil, List.length_cons, Nat.reduceAdd, Nat.reduceLeDiff, Nat.zero_le, Nat.reduceLT, ↓w_nil, ix_nI, nI_leP, nI_ltP, nI_eqP, nI_1, ↓i_inN, i_inN, l_le, l_lt, l_eq, r_le, r_lt, r_eq, sh68_0, sh68_1, sh68_2, sh68_3, sh68_4, ↓w_iload_4, ↓w_iload_3, ↓w_icge, ↓w_aload_0, ↓w_gf3, ↓w_dup2, ↓w_iaload, ↓w_iconst, ↓w_iload_1, ↓w_ishl, ↓w_ior, ↓w_iastore, ↓w_baload, ↓w_ifeq, ↓w_iadd, ↓w_iload_2, ↓w_iv, ↓pm_cl2_4, ↓w_zret, f122, hsl, hor, pm_up_o, pm_up_s, e119]
            repeat' (first
              | (apply And.intro)
              | (with_reducible refine bX12_settle_6 ?_; simp (disch := first | omega | decide) only [w_nl0, w_nli, w_nlr, ↓w_ts1, ↓w_ts0, w_rcv, w_rfv, w_cs, true_and, and_true, List.length_nil, List.length_cons, Nat.reduceAdd, Nat.reduceLeDiff, Nat.zero_le, Nat.reduceLT, ↓w_nil, ix_nI, nI_leP, nI_ltP, nI_eqP, nI_1, ↓i_inN, i_inN, l_le, l_lt, l_eq, r_le, r_lt, r_eq, sh68_0, sh68_1, sh68_2, sh68_3, sh68_4, ↓w_iload_1, ↓w_aload_0, ↓w_gf0, ↓w_icne, ↓w_gf3, ↓w_iconst, ↓w_iaload, ↓w_baload, ↓w_ifeq, ↓w_goto, ↓w_zret, ↓w_iload_2, ↓w_ishr, ↓w_iand, ↓w_ifne, ↓w_iadd, ↓w_iload_3, ↓w_iv, ↓pm_cl2_4, ↓w_istore_4, ↓w_iload_4, ↓w_icge, ↓w_dup2, ↓w_ishl, ↓w_ior, ↓w_iastore, ↓w_ixor, ↓w_iinc_4, ↓w_bipush, f122, hsl, hor, pm_up_o, pm_up_s, e119, nI_add])
              | (with_reducible refine hnext _ (fun I4 h4 => ?_) (fun I4 h4 h5 => ?_) <;> simp (disch := first | omega | decide) only [w_nl0, w_nli, w_nlr, ↓w_ts1, ↓w_ts0, w_rcv, w_rfv, w_cs, true_and, and_true, List.length_nil, List.length_cons, Nat.reduceAdd, Nat.reduceLeDiff, Nat.zero_le, Nat.reduceLT, ↓w_nil, ix_nI, nI_leP, nI_ltP, nI_eqP, nI_1, ↓i_inN, i_inN, l_le, l_lt, l_eq, r_le, r_lt, r_eq, sh68_0, sh68_1, sh68_2, sh68_3, sh68_4, ↓w_iload_1, ↓w_aload_0, ↓w_gf0, ↓w_icne, ↓w_gf3, ↓w_iconst, ↓w_iaload, ↓w_baload, ↓w_ifeq, ↓w_goto, ↓w_zret, ↓w_iload_2, ↓w_ishr, ↓w_iand, ↓w_ifne, ↓w_iadd, ↓w_iload_3, ↓w_iv, ↓pm_cl2_4, ↓w_istore_4, ↓w_iload_4, ↓w_icge, ↓w_dup2, ↓w_ishl, ↓w_ior, ↓w_iastore, ↓w_ixor, ↓w_iinc_4, ↓w_bipush, f122, hsl, hor, pm_up_o, pm_up_s, e119, nI_add])
              | (simp only [w_in])
              | (intro _))
            all_goals (clear hnext; grind)
          · rw [if_neg hok] at he
            have e119 : (pm_up (pm_up I3 122 p (nI (L p ||| 2 ^ k))) 121 k (nI p)) 119 (L p ||| 2 ^ k) = 0 := by
              rw [hi4 119 (by decide) (by decide)]
              exact (hpf _ (by omega)).2 hok
            have w5 := wF _ hi4 hl4 (fun _ _ => rfl) he
            have hA512 : L p ||| 2 ^ k < 512 := by omega
            clear h1 h0 ih ihr hpf he hr3 hL3 hL ha ha3 wF hl4 hi4
            generalize hA : L p ||| 2 ^ k = A at *
            clear hA
            simp (disch := decide) only [pm_up_o] at e119
            refine bX12_settle_5 ?_
            simp (disch := first | omega | decide) only [w_nl0, w_nli, w_nlr, ↓w_ts1, ↓w_ts0, w_rcv, w_rfv, w_cs, true_and, and_true, List.length_nil, List.length_cons, Nat.reduceAdd, Nat.reduceLeDiff, Nat.zero_le, Nat.reduceLT, ↓w_nil, ix_nI, nI_leP, nI_ltP, nI_eqP, nI_1, ↓i_inN, i_inN, l_le, l_lt, l_eq, r_le, r_lt, r_eq, sh68_0, sh68_1, sh68_2, sh68_3, sh68_4, ↓w_iload_4, ↓w_iload_3, ↓w_icge, ↓w_aload_0, ↓w_gf3, ↓w_dup2, ↓w_iaload, ↓w_iconst, ↓w_iload_1, ↓w_ishl, ↓w_ior, ↓w_iastore, ↓w_baload, ↓w_ifeq, ↓w_iadd, ↓w_iload_2, ↓w_iv, ↓pm_cl2_4, ↓w_zret, f122, hsl, hor, pm_up_o, pm_up_s, e119]
            repeat' (first
              | (apply And.intro)
              | (with_reducible refine bX12_settle_6 ?_; simp (disch := first | omega | decide) only [w_nl0, w_nli, w_nlr, ↓w_ts1, ↓w_ts0, w_rcv, w_rfv, w_cs, true_and, and_true, List.length_nil, List.length_cons, Nat.reduceAdd, Nat.reduceLeDiff, Nat.zero_le, Nat.reduceLT, ↓w_nil, ix_nI, nI_leP, nI_ltP, nI_eqP, nI_1, ↓i_inN, i_inN, l_le, l_lt, l_eq, r_le, r_lt, r_eq, sh68_0, sh68_1, sh68_2, sh68_3, sh68_4, ↓w_iload_1, ↓w_aload_0, ↓w_gf0, ↓w_icne, ↓w_gf3, ↓w_iconst, ↓w_iaload, ↓w_baload, ↓w_ifeq, ↓w_goto, ↓w_zret, ↓w_iload_2, ↓w_ishr, ↓w_iand, ↓w_ifne, ↓w_iadd, ↓w_iload_3, ↓w_iv, ↓pm_cl2_4, ↓w_istore_4, ↓w_iload_4, ↓w_icge, ↓w_dup2, ↓w_ishl, ↓w_ior, ↓w_iastore, ↓w_ixor, ↓w_iinc_4, ↓w_bipush, f122, hsl, hor, hnt, pm_up_o, pm_up_s, e119, nI_add])
              | (simp only [w_in])
              | (intro _))
            all_goals grind
      have w : UU g (d - 1) 285 kX12_settle (pm_rm d 285) Q 5 [some (.ref 68), some (.int (nI k)), some (.int (nI x)), some (.int (nI P)), some (.int 0)] [] SH I2 J (0, 0) := key P 0 I2 (by omega) ha (fun p hp => (hL p hp).1) (fun _ _ => rfl) rfl
      clear key h1 h0 ih hpf hL ha
      refine eX12_settle (by omega) ?_
      repeat' (first
        | (apply And.intro)
        | (with_reducible refine bX12_settle_0 ?_; simp (disch := first | omega | decide) only [w_nl0, w_nli, w_nlr, ↓w_ts1, ↓w_ts0, w_rcv, w_rfv, w_cs, true_and, and_true, List.length_nil, List.length_cons, Nat.reduceAdd, Nat.reduceLeDiff, Nat.zero_le, Nat.reduceLT, ↓w_nil, ix_nI, nI_leP, nI_ltP, nI_eqP, nI_1, ↓i_inN, i_inN, l_le, l_lt, l_eq, r_le, r_lt, r_eq, sh68_0, sh68_1, sh68_2, sh68_3, sh68_4, ↓w_iload_1, ↓w_aload_0, ↓w_gf0, ↓w_icne, ↓w_gf3, ↓w_iconst, ↓w_iaload, ↓w_baload, ↓w_ifeq, ↓w_goto, ↓w_zret, ↓w_iload_2, ↓w_ishr, ↓w_iand, ↓w_ifne, ↓w_iadd, ↓w_iload_3, ↓w_iv, ↓pm_cl2_4, ↓w_istore_4, ↓w_iload_4, ↓w_icge, ↓w_dup2, ↓w_ishl, ↓w_ior, ↓w_iastore, ↓w_ixor, ↓w_iinc_4, ↓w_bipush, e7, hbt])
        | (with_reducible refine bX12_settle_3 ?_; simp (disch := first | omega | decide) only [w_nl0, w_nli, w_nlr, ↓w_ts1, ↓w_ts0, w_rcv, w_rfv, w_cs, true_and, and_true, List.length_nil, List.length_cons, Nat.reduceAdd, Nat.reduceLeDiff, Nat.zero_le, Nat.reduceLT, ↓w_nil, ix_nI, nI_leP, nI_ltP, nI_eqP, nI_1, ↓i_inN, i_inN, l_le, l_lt, l_eq, r_le, r_lt, r_eq, sh68_0, sh68_1, sh68_2, sh68_3, sh68_4, ↓w_iload_1, ↓w_aload_0, ↓w_gf0, ↓w_icne, ↓w_gf3, ↓w_iconst, ↓w_iaload, ↓w_baload, ↓w_ifeq, ↓w_goto, ↓w_zret, ↓w_iload_2, ↓w_ishr, ↓w_iand, ↓w_ifne, ↓w_iadd, ↓w_iload_3, ↓w_iv, ↓pm_cl2_4, ↓w_istore_4, ↓w_iload_4, ↓w_icge, ↓w_dup2, ↓w_ishl, ↓w_ior, ↓w_iastore, ↓w_ixor, ↓w_iinc_4, ↓w_bipush, e7, hbt])
        | (with_reducible refine bX12_settle_4 ?_; simp (disch := first | omega | decide) only [w_nl0, w_nli, w_nlr, ↓w_ts1, ↓w_ts0, w_rcv, w_rfv, w_cs, true_and, and_true, List.length_nil, List.length_cons, Nat.reduceAdd, Nat.reduceLeDiff, Nat.zero_le, Nat.reduceLT, ↓w_nil, ix_nI, nI_leP, nI_ltP, nI_eqP, nI_1, ↓i_inN, i_inN, l_le, l_lt, l_eq, r_le, r_lt, r_eq, sh68_0, sh68_1, sh68_2, sh68_3, sh68_4, ↓w_iload_1, ↓w_aload_0, ↓w_gf0, ↓w_icne, ↓w_gf3, ↓w_iconst, ↓w_iaload, ↓w_baload, ↓w_ifeq, ↓w_goto, ↓w_zret, ↓w_iload_2, ↓w_ishr, ↓w_iand, ↓w_ifne, ↓w_iadd, ↓w_iload_3, ↓w_iv, ↓pm_cl2_4, ↓w_istore_4, ↓w_iload_4, ↓w_icge, ↓w_dup2, ↓w_ishl, ↓w_ior, ↓w_iastore, ↓w_ixor, ↓w_iinc_4, ↓w_bipush, e7, hbt])
        | (simp only [w_in])
        | (intro _))
      all_goals grind
    · rw [if_neg hb] at hbt
      simp only [srF, if_neg hb] at h1 h0
      have w : ∀ Q2 : pm_Po, (∀ I3, Q (some (.int 1)) SH I3 J → Q2 (some (.int 1)) SH I3 J) → (∀ I3, Q (some (.int 0)) SH I3 J → Q2 (some (.int 0)) SH I3 J) → pm_C g (d - 1) 285 [.ref 68, .int (nI (k + 1)), .int (nI x), .int (nI P)] Q2 SH I2 J := by
        intro Q2 hQ1 hQ0
        have hkp : 2 ^ k < 2 ^ (k + 1) := Nat.pow_lt_pow_right (by omega) (by omega)
        refine ih (k + 1) L I2 (d - 1) Q2 (by omega) (by omega) ha (fun p hp => ⟨(hL p hp).1, Nat.lt_trans (hL p hp).2.1 hkp, (hL p hp).2.2⟩) (fun f hf I3 hi3 hr3 => hQ1 _ (h1 f hf I3 hi3 (fun j => ?_))) (fun hf I3 hi3 hl3 hr3 => hQ0 _ (h0 hf I3 hi3 hl3 (fun j hj => ?_)))
        · rw [hr3 j]
          by_cases c1 : (k + 1 ≤ j ∧ j < n) ∧ x.testBit j = true
          · rw [if_pos c1, if_pos ⟨⟨by omega, c1.1.2⟩, c1.2⟩]
          · rw [if_neg c1, if_neg (fun z => c1 ⟨⟨by
              by_cases e : j = k
              · rw [e] at z; exact absurd z.2 hb
              · omega, z.1.2⟩, z.2⟩)]
        · exact hr3 j (fun z => hj ⟨⟨by omega, z.1.2⟩, z.2⟩)
      clear h1 h0 ih hpf hL ha
      refine eX12_settle (by omega) ?_
      repeat' (first
        | (apply And.intro)
        | (with_reducible refine bX12_settle_0 ?_; simp (disch := first | omega | decide) only [w_nl0, w_nli, w_nlr, ↓w_ts1, ↓w_ts0, w_rcv, w_rfv, w_cs, true_and, and_true, List.length_nil, List.length_cons, Nat.reduceAdd, Nat.reduceLeDiff, Nat.zero_le, Nat.reduceLT, ↓w_nil, ix_nI, nI_leP, nI_ltP, nI_eqP, nI_1, ↓i_inN, i_inN, l_le, l_lt, l_eq, r_le, r_lt, r_eq, sh68_0, sh68_1, sh68_2, sh68_3, sh68_4, ↓w_iload_1, ↓w_aload_0, ↓w_gf0, ↓w_icne, ↓w_gf3, ↓w_iconst, ↓w_iaload, ↓w_baload, ↓w_ifeq, ↓w_goto, ↓w_zret, ↓w_iload_2, ↓w_ishr, ↓w_iand, ↓w_ifne, ↓w_iadd, ↓w_iload_3, ↓w_iv, ↓pm_cl2_4, ↓w_istore_4, ↓w_iload_4, ↓w_icge, ↓w_dup2, ↓w_ishl, ↓w_ior, ↓w_iastore, ↓w_ixor, ↓w_iinc_4, ↓w_bipush, e7, hbt, nI_add])
        | (with_reducible refine bX12_settle_3 ?_; simp (disch := first | omega | decide) only [w_nl0, w_nli, w_nlr, ↓w_ts1, ↓w_ts0, w_rcv, w_rfv, w_cs, true_and, and_true, List.length_nil, List.length_cons, Nat.reduceAdd, Nat.reduceLeDiff, Nat.zero_le, Nat.reduceLT, ↓w_nil, ix_nI, nI_leP, nI_ltP, nI_eqP, nI_1, ↓i_inN, i_inN, l_le, l_lt, l_eq, r_le, r_lt, r_eq, sh68_0, sh68_1, sh68_2, sh68_3, sh68_4, ↓w_iload_1, ↓w_aload_0, ↓w_gf0, ↓w_icne, ↓w_gf3, ↓w_iconst, ↓w_iaload, ↓w_baload, ↓w_ifeq, ↓w_goto, ↓w_zret, ↓w_iload_2, ↓w_ishr, ↓w_iand, ↓w_ifne, ↓w_iadd, ↓w_iload_3, ↓w_iv, ↓pm_cl2_4, ↓w_istore_4, ↓w_iload_4, ↓w_icge, ↓w_dup2, ↓w_ishl, ↓w_ior, ↓w_iastore, ↓w_ixor, ↓w_iinc_4, ↓w_bipush, e7, hbt, nI_add])
        | (with_reducible refine w _ (fun I3 h3 => ?_) (fun I3 h3 => ?_) <;> simp (disch := first | omega | decide) only [w_nl0, w_nli, w_nlr, ↓w_ts1, ↓w_ts0, w_rcv, w_rfv, w_cs, true_and, and_true, List.length_nil, List.length_cons, Nat.reduceAdd, Nat.reduceLeDiff, Nat.zero_le, Nat.reduceLT, ↓w_nil, ix_nI, nI_leP, nI_ltP, nI_eqP, nI_1, ↓i_inN, i_inN, l_le, l_lt, l_eq, r_le, r_lt, r_eq, sh68_0, sh68_1, sh68_2, sh68_3, sh68_4, ↓w_iload_1, ↓w_aload_0, ↓w_gf0, ↓w_icne, ↓w_gf3, ↓w_iconst, ↓w_iaload, ↓w_baload, ↓w_ifeq, ↓w_goto, ↓w_zret, ↓w_iload_2, ↓w_ishr, ↓w_iand, ↓w_ifne, ↓w_iadd, ↓w_iload_3, ↓w_iv, ↓pm_cl2_4, ↓w_istore_4, ↓w_iload_4, ↓w_icge, ↓w_dup2, ↓w_ishl, ↓w_ior, ↓w_iastore, ↓w_ixor, ↓w_iinc_4, ↓w_bipush, e7, hbt, nI_add])
        | (simp only [w_in])
        | (intro _))
      all_goals (clear w; grind)
end C84
