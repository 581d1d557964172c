section C88
variable {g : pm_G} {d : Nat} {Q : pm_Po} {S : pm_SS} {I : pm_MI} {J : pm_ML}
def cpV (n : Nat) (cp : Nat → Nat) (x : Nat) : Nat := sm (fun k => if x.testBit k = true then cp k else 0) n
theorem cpV_bd {n : Nat} {cp : Nat → Nat} (h : ∀ i, i < n → cp i ≤ 100000) (x : Nat) : cpV n cp x ≤ 100000 * n := sm_bd (fun i hi => by
  by_cases c : x.testBit i = true
  · rw [if_pos c]; exact h i hi
  · rw [if_neg c]; exact Nat.zero_le _)
theorem itr_sm {f : Nat → Nat} : ∀ q, itr (fun i (z : Nat) => z + f i) 0 q = sm f q
  | 0 => rfl
  | q + 1 => by rw [itr_s, itr_sm q]; rfl
theorem cpV_0 {n : Nat} {cp : Nat → Nat} : cpV n cp 0 = 0 := sm_zero (fun k _ => by rw [if_neg (by rw [Nat.zero_testBit]; decide)])
/-- the set with the most copies -/
theorem m_pl3 {n y r P : Nat} {dy cp : Nat → Nat} (hd : 4 ≤ d) (hn : n ≤ 9) (hP : 1 ≤ P ∧ P ≤ 3) (hO : OM I n y dy cp) (a1 : ∀ p, p < 2 ^ n → b01 (I 119 p) (oneP n y dy (tkV cp r) p)) (a2 : ∀ p, p < 2 ^ n → b01 (I 120 p) (twoP n y dy (tkV cp r) p)) (x5 : Option Value) (hc : ∀ x8 x10, UP g d Q 19 [some (.ref 68), some (.int (nI P)), some (.int (nI r)), some (.int (nI (2 ^ n))), some (.int (nI (sel (canP n y dy (tkV cp r) P) (cpV n cp) (2 ^ n)))), some (.long (Int64.ofNat (cpV n cp (sel (canP n y dy (tkV cp r) P) (cpV n cp) (2 ^ n))))), none, some (.int (nI (2 ^ n))), x8, none, x10] I J) : UP g d Q 12 [some (.ref 68), some (.int (nI P)), some (.int (nI r)), some (.int (nI (2 ^ n))), some (.int (nI (2 ^ n))), x5, none, none, none, none, none] I J := by
  have hp9 : 2 ^ n ≤ 512 := Nat.pow_le_pow_right (by omega) hn
  obtain ⟨o1, o2, o3⟩ := hO
  have hbd := cpV_bd (n := n) (cp := cp) (fun i hi => (o3 i hi).2.2.2.2)
  have key : ∀ j X x8 x10, j + X = 2 ^ n → UP g d Q 13 [some (.ref 68), some (.int (nI P)), some (.int (nI r)), some (.int (nI (2 ^ n))), some (.int (nI (sel (canP n y dy (tkV cp r) P) (cpV n cp) X))), some (.long (Int64.ofNat (cpV n cp (sel (canP n y dy (tkV cp r) P) (cpV n cp) X)))), none, some (.int (nI X)), x8, none, x10] I J := by
    intro j
    induction j with
    | zero =>
      intro X x8 x10 hX
      have e : X = 2 ^ n := by omega
      rw [e]
      have w := hc x8 x10
      clear hc a1 a2 o3 hbd
      refine bX12_plan_13 ?_
      simp (disch := first | omega | decide) only [w_nl0, w_nli, w_nlr, ↓w_ts1, ↓w_ts0, w_rcv, w_rfv, w_cs, true_and, and_true, List.length_nil, List.length_cons, Nat.reduceAdd, Nat.reduceLeDiff, Nat.zero_le, Nat.reduceLT, ↓w_nil, ix_nI, nI_leP, nI_ltP, nI_eqP, nI_1, ↓i_inN, i_inN, l_le, l_lt, l_eq, r_le, r_lt, r_eq, sh68_0, sh68_1, sh68_2, sh68_3, sh68_4, ↓w_iload_7, ↓w_iload_3, ↓w_icge, ↓w_lconst0, ↓w_lstore_8, ↓w_iconst, ↓w_istore_10]
      repeat' (first
        | (apply And.intro)
        | (simp only [w_in])
        | (intro _))
      all_goals grind
    | succ j ih =>
      intro X x8 x10 hX
      have w := fun x8 x10 => ih (X + 1) x8 x10 (by omega)
      simp only [sel] at w
      generalize sel (canP n y dy (tkV cp r) P) (cpV n cp) X = B at *
      have hb1 := hbd B
      have hb2 := hbd X
      have hfin : UP g d Q 14 [some (.ref 68), some (.int (nI P)), some (.int (nI r)), some (.int (nI (2 ^ n))), some (.int (nI B)), some (.long (Int64.ofNat (cpV n cp B))), none, some (.int (nI X)), some (.long (Int64.ofNat (cpV n cp X))), none, some (.int (nI n))] I J := by
        have hcmp : (Int64.ofNat (cpV n cp X) ≤ Int64.ofNat (cpV n cp B)) ↔ cpV n cp X ≤ cpV n cp B := Int64.ofNat_le_iff_le (by omega) (by omega)
        by_cases c1 : cpV n cp B < cpV n cp X
        · have hcm : ¬ Int64.ofNat (cpV n cp X) ≤ Int64.ofNat (cpV n cp B) := fun z => by have := hcmp.1 z; omega
          by_cases c2 : canP n y dy (tkV cp r) P X
          · rw [if_pos ⟨c1, c2⟩] at w
            clear hc ih hbd o3 hcmp c1
            generalize cpV n cp X = CX at *
            generalize cpV n cp B = CB at *
            refine bX12_plan_14 ?_
            simp (disch := first | omega | decide) only [w_nl0, w_nli, w_nlr, ↓w_ts1, ↓w_ts0, w_rcv, w_rfv, w_cs, true_and, and_true, List.length_nil, List.length_cons, Nat.reduceAdd, Nat.reduceLeDiff, Nat.zero_le, Nat.reduceLT, ↓w_nil, ix_nI, nI_leP, nI_ltP, nI_eqP, nI_1, ↓i_inN, i_inN, l_le, l_lt, l_eq, r_le, r_lt, r_eq, sh68_0, sh68_1, sh68_2, sh68_3, sh68_4, ↓w_iload_10, ↓w_aload_0, ↓w_gf0, ↓w_icge, ↓w_lload_8, ↓w_iload_7, ↓w_ishr, ↓w_iconst, ↓w_iand, ↓w_icne, ↓w_gf3, ↓w_iaload, ↓w_i2l, ↓w_goto, o1]
            repeat' (first
              | (apply And.intro)
              | (with_reducible refine bX12_plan_17 ?_; simp (disch := first | omega | decide) only [w_nl0, w_nli, w_nlr, ↓w_ts1, ↓w_ts0, w_rcv, w_rfv, w_cs, true_and, and_true, List.length_nil, List.length_cons, Nat.reduceAdd, Nat.reduceLeDiff, Nat.zero_le, Nat.reduceLT, ↓w_nil, ix_nI, nI_leP, nI_ltP, nI_eqP, nI_1, ↓i_inN, i_inN, l_le, l_lt, l_eq, r_le, r_lt, r_eq, sh68_0, sh68_1, sh68_2, sh68_3, sh68_4, ↓w_iload_1, ↓w_iconst, ↓w_is, ↓pm_cl1_3, ↓w_ifeq, ↓w_iload_2, ↓w_sipush, ↓w_ifne, ↓w_ret, ↓w_aload_0, ↓w_gf0, ↓w_ishl, ↓w_istore_3, ↓w_istore_4, ↓w_iload_4, ↓w_iload_3, ↓w_icge, ↓w_gf3, ↓w_iv, ↓pm_cl2_3, ↓w_bastore, ↓w_iinc_4, ↓w_goto, ↓w_istore_5, ↓w_iload_5, ↓w_iflt, ↓w_baload, ↓w_ixor, ↓w_iand, ↓w_isub, ↓w_lconst0, ↓w_lstore_5, ↓w_istore_7, ↓w_iload_7, ↓w_lstore_8, ↓w_istore_10, ↓w_iload_10, ↓w_lload_8, ↓w_ishr, ↓w_icne, ↓w_iaload, ↓w_i2l, ↓w_ladd, ↓w_iinc_10, ↓w_lload_5, ↓w_lcmp, ↓w_ifle, ↓w_iinc_7, ↓w_istore_8, ↓w_iload_8, ↓w_iadd, ↓w_iinc_8, lg_le0, nI_add])
              | (with_reducible refine bX12_plan_18 ?_; simp (disch := first | omega | decide) only [w_nl0, w_nli, w_nlr, ↓w_ts1, ↓w_ts0, w_rcv, w_rfv, w_cs, true_and, and_true, List.length_nil, List.length_cons, Nat.reduceAdd, Nat.reduceLeDiff, Nat.zero_le, Nat.reduceLT, ↓w_nil, ix_nI, nI_leP, nI_ltP, nI_eqP, nI_1, ↓i_inN, i_inN, l_le, l_lt, l_eq, r_le, r_lt, r_eq, sh68_0, sh68_1, sh68_2, sh68_3, sh68_4, ↓w_iload_1, ↓w_iconst, ↓w_is, ↓pm_cl1_3, ↓w_ifeq, ↓w_iload_2, ↓w_sipush, ↓w_ifne, ↓w_ret, ↓w_aload_0, ↓w_gf0, ↓w_ishl, ↓w_istore_3, ↓w_istore_4, ↓w_iload_4, ↓w_iload_3, ↓w_icge, ↓w_gf3, ↓w_iv, ↓pm_cl2_3, ↓w_bastore, ↓w_iinc_4, ↓w_goto, ↓w_istore_5, ↓w_iload_5, ↓w_iflt, ↓w_baload, ↓w_ixor, ↓w_iand, ↓w_isub, ↓w_lconst0, ↓w_lstore_5, ↓w_istore_7, ↓w_iload_7, ↓w_lstore_8, ↓w_istore_10, ↓w_iload_10, ↓w_lload_8, ↓w_ishr, ↓w_icne, ↓w_iaload, ↓w_i2l, ↓w_ladd, ↓w_iinc_10, ↓w_lload_5, ↓w_lcmp, ↓w_ifle, ↓w_iinc_7, ↓w_istore_8, ↓w_iload_8, ↓w_iadd, ↓w_iinc_8, lg_le0, nI_add])
              | (with_reducible refine m_canMeet (by omega) hn (by omega) hP a1 a2 (fun _ => ?_) (fun z => absurd c2 z) <;> simp (disch := first | omega | decide) only [w_nl0, w_nli, w_nlr, ↓w_ts1, ↓w_ts0, w_rcv, w_rfv, w_cs, true_and, and_true, List.length_nil, List.length_cons, Nat.reduceAdd, Nat.reduceLeDiff, Nat.zero_le, Nat.reduceLT, ↓w_nil, ix_nI, nI_leP, nI_ltP, nI_eqP, nI_1, ↓i_inN, i_inN, l_le, l_lt, l_eq, r_le, r_lt, r_eq, sh68_0, sh68_1, sh68_2, sh68_3, sh68_4, ↓w_iload_1, ↓w_iconst, ↓w_is, ↓pm_cl1_3, ↓w_ifeq, ↓w_iload_2, ↓w_sipush, ↓w_ifne, ↓w_ret, ↓w_aload_0, ↓w_gf0, ↓w_ishl, ↓w_istore_3, ↓w_istore_4, ↓w_iload_4, ↓w_iload_3, ↓w_icge, ↓w_gf3, ↓w_iv, ↓pm_cl2_3, ↓w_bastore, ↓w_iinc_4, ↓w_goto, ↓w_istore_5, ↓w_iload_5, ↓w_iflt, ↓w_baload, ↓w_ixor, ↓w_iand, ↓w_isub, ↓w_lconst0, ↓w_lstore_5, ↓w_istore_7, ↓w_iload_7, ↓w_lstore_8, ↓w_istore_10, ↓w_iload_10, ↓w_lload_8, ↓w_ishr, ↓w_icne, ↓w_iaload, ↓w_i2l, ↓w_ladd, ↓w_iinc_10, ↓w_lload_5, ↓w_lcmp, ↓w_ifle, ↓w_iinc_7, ↓w_istore_8, ↓w_iload_8, ↓w_iadd, ↓w_iinc_8, lg_le0, nI_add])
              | (simp only [w_in])
              | (intro _))
            all_goals (clear a1 a2; grind)
          · rw [if_neg (fun z => c2 z.2)] at w
            clear hc ih hbd o3 hcmp c1
            generalize cpV n cp X = CX at *
            generalize cpV n cp B = CB at *
            refine bX12_plan_14 ?_
            simp (disch := first | omega | decide) only [w_nl0, w_nli, w_nlr, ↓w_ts1, ↓w_ts0, w_rcv, w_rfv, w_cs, true_and, and_true, List.length_nil, List.length_cons, Nat.reduceAdd, Nat.reduceLeDiff, Nat.zero_le, Nat.reduceLT, ↓w_nil, ix_nI, nI_leP, nI_ltP, nI_eqP, nI_1, ↓i_inN, i_inN, l_le, l_lt, l_eq, r_le, r_lt, r_eq, sh68_0, sh68_1, sh68_2, sh68_3, sh68_4, ↓w_iload_10, ↓w_aload_0, ↓w_gf0, ↓w_icge, ↓w_lload_8, ↓w_iload_7, ↓w_ishr, ↓w_iconst, ↓w_iand, ↓w_icne, ↓w_gf3, ↓w_iaload, ↓w_i2l, ↓w_goto, o1]
            repeat' (first
              | (apply And.intro)
              | (with_reducible refine bX12_plan_17 ?_; simp (disch := first | omega | decide) only [w_nl0, w_nli, w_nlr, ↓w_ts1, ↓w_ts0, w_rcv, w_rfv, w_cs, true_and, and_true, List.length_nil, List.length_cons, Nat.reduceAdd, Nat.reduceLeDiff, Nat.zero_le, Nat.reduceLT, ↓w_nil, ix_nI, nI_leP, nI_ltP, nI_eqP, nI_1, ↓i_inN, i_inN, l_le, l_lt, l_eq, r_le, r_lt, r_eq, sh68_0, sh68_1, sh68_2, sh68_3, sh68_4, ↓w_iload_1, ↓w_iconst, ↓w_is, ↓pm_cl1_3, ↓w_ifeq, ↓w_iload_2, ↓w_sipush, ↓w_ifne, ↓w_ret, ↓w_aload_0, ↓w_gf0, ↓w_ishl, ↓w_istore_3, ↓w_istore_4, ↓w_iload_4, ↓w_iload_3, ↓w_icge, ↓w_gf3, ↓w_iv, ↓pm_cl2_3, ↓w_bastore, ↓w_iinc_4, ↓w_goto, ↓w_istore_5, ↓w_iload_5, ↓w_iflt, ↓w_baload, ↓w_ixor, ↓w_iand, ↓w_isub, ↓w_lconst0, ↓w_lstore_5, ↓w_istore_7, ↓w_iload_7, ↓w_lstore_8, ↓w_istore_10, ↓w_iload_10, ↓w_lload_8, ↓w_ishr, ↓w_icne, ↓w_iaload, ↓w_i2l, ↓w_ladd, ↓w_iinc_10, ↓w_lload_5, ↓w_lcmp, ↓w_ifle, ↓w_iinc_7, ↓w_istore_8, ↓w_iload_8, ↓w_iadd, ↓w_iinc_8, lg_le0, nI_add])
              | (with_reducible refine bX12_plan_18 ?_; simp (disch := first | omega | decide) only [w_nl0, w_nli, w_nlr, ↓w_ts1, ↓w_ts0, w_rcv, w_rfv, w_cs, true_and, and_true, List.length_nil, List.length_cons, Nat.reduceAdd, Nat.reduceLeDiff, Nat.zero_le, Nat.reduceLT, ↓w_nil, ix_nI, nI_leP, nI_ltP, nI_eqP, nI_1, ↓i_inN, i_inN, l_le, l_lt, l_eq, r_le, r_lt, r_eq, sh68_0, sh68_1, sh68_2, sh68_3, sh68_4, ↓w_iload_1, ↓w_iconst, ↓w_is, ↓pm_cl1_3, ↓w_ifeq, ↓w_iload_2, ↓w_sipush, ↓w_ifne, ↓w_ret, ↓w_aload_0, ↓w_gf0, ↓w_ishl, ↓w_istore_3, ↓w_istore_4, ↓w_iload_4, ↓w_iload_3, ↓w_icge, ↓w_gf3, ↓w_iv, ↓pm_cl2_3, ↓w_bastore, ↓w_iinc_4, ↓w_goto, ↓w_istore_5, ↓w_iload_5, ↓w_iflt, ↓w_baload, ↓w_ixor, ↓w_iand, ↓w_isub, ↓w_lconst0, ↓w_lstore_5, ↓w_istore_7, ↓w_iload_7, ↓w_lstore_8, ↓w_istore_10, ↓w_iload_10, ↓w_lload_8, ↓w_ishr, ↓w_icne, ↓w_iaload, ↓w_i2l, ↓w_ladd, ↓w_iinc_10, ↓w_lload_5, ↓w_lcmp, ↓w_ifle, ↓w_iinc_7, ↓w_istore_8, ↓w_iload_8, ↓w_iadd, ↓w_iinc_8, lg_le0, nI_add])
              | (with_reducible refine m_canMeet (by omega) hn (by omega) hP a1 a2 (fun z => absurd z c2) (fun _ => ?_) <;> simp (disch := first | omega | decide) only [w_nl0, w_nli, w_nlr, ↓w_ts1, ↓w_ts0, w_rcv, w_rfv, w_cs, true_and, and_true, List.length_nil, List.length_cons, Nat.reduceAdd, Nat.reduceLeDiff, Nat.zero_le, Nat.reduceLT, ↓w_nil, ix_nI, nI_leP, nI_ltP, nI_eqP, nI_1, ↓i_inN, i_inN, l_le, l_lt, l_eq, r_le, r_lt, r_eq, sh68_0, sh68_1, sh68_2, sh68_3, sh68_4, ↓w_iload_1, ↓w_iconst, ↓w_is, ↓pm_cl1_3, ↓w_ifeq, ↓w_iload_2, ↓w_sipush, ↓w_ifne, ↓w_ret, ↓w_aload_0, ↓w_gf0, ↓w_ishl, ↓w_istore_3, ↓w_istore_4, ↓w_iload_4, ↓w_iload_3, ↓w_icge, ↓w_gf3, ↓w_iv, ↓pm_cl2_3, ↓w_bastore, ↓w_iinc_4, ↓w_goto, ↓w_istore_5, ↓w_iload_5, ↓w_iflt, ↓w_baload, ↓w_ixor, ↓w_iand, ↓w_isub, ↓w_lconst0, ↓w_lstore_5, ↓w_istore_7, ↓w_iload_7, ↓w_lstore_8, ↓w_istore_10, ↓w_iload_10, ↓w_lload_8, ↓w_ishr, ↓w_icne, ↓w_iaload, ↓w_i2l, ↓w_ladd, ↓w_iinc_10, ↓w_lload_5, ↓w_lcmp, ↓w_ifle, ↓w_iinc_7, ↓w_istore_8, ↓w_iload_8, ↓w_iadd, ↓w_iinc_8, lg_le0, nI_add])
              | (simp only [w_in])
              | (intro _))
            all_goals (clear a1 a2; grind)
        · have hcm : Int64.ofNat (cpV n cp X) ≤ Int64.ofNat (cpV n cp B) := hcmp.2 (by omega)
          rw [if_neg (fun z => c1 z.1)] at w
          clear hc ih hbd o3 hcmp c1 a1 a2
          generalize cpV n cp X = CX at *
          generalize cpV n cp B = CB at *
          refine bX12_plan_14 ?_
          simp (disch := first | omega | decide) only [w_nl0, w_nli, w_nlr, ↓w_ts1, ↓w_ts0, w_rcv, w_rfv, w_cs, true_and, and_true, List.length_nil, List.length_cons, Nat.reduceAdd, Nat.reduceLeDiff, Nat.zero_le, Nat.reduceLT, ↓w_nil, ix_nI, nI_leP, nI_ltP, nI_eqP, nI_1, ↓i_inN, i_inN, l_le, l_lt, l_eq, r_le, r_lt, r_eq, sh68_0, sh68_1, sh68_2, sh68_3, sh68_4, ↓w_iload_10, ↓w_aload_0, ↓w_gf0, ↓w_icge, ↓w_lload_8, ↓w_iload_7, ↓w_ishr, ↓w_iconst, ↓w_iand, ↓w_icne, ↓w_gf3, ↓w_iaload, ↓w_i2l, ↓w_goto, o1]
          repeat' (first
            | (apply And.intro)
            | (with_reducible refine bX12_plan_17 ?_; simp (disch := first | omega | decide) only [w_nl0, w_nli, w_nlr, ↓w_ts1, ↓w_ts0, w_rcv, w_rfv, w_cs, true_and, and_true, List.length_nil, List.length_cons, Nat.reduceAdd, Nat.reduceLeDiff, Nat.zero_le, Nat.reduceLT, ↓w_nil, ix_nI, nI_leP, nI_ltP, nI_eqP, nI_1, ↓i_inN, i_inN, l_le, l_lt, l_eq, r_le, r_lt, r_eq, sh68_0, sh68_1, sh68_2, sh68_3, sh68_4, ↓w_iload_1, ↓w_iconst, ↓w_is, ↓pm_cl1_3, ↓w_ifeq, ↓w_iload_2, ↓w_sipush, ↓w_ifne, ↓w_ret, ↓w_aload_0, ↓w_gf0, ↓w_ishl, ↓w_istore_3, ↓w_istore_4, ↓w_iload_4, ↓w_iload_3, ↓w_icge, ↓w_gf3, ↓w_iv, ↓pm_cl2_3, ↓w_bastore, ↓w_iinc_4, ↓w_goto, ↓w_istore_5, ↓w_iload_5, ↓w_iflt, ↓w_baload, ↓w_ixor, ↓w_iand, ↓w_isub, ↓w_lconst0, ↓w_lstore_5, ↓w_istore_7, ↓w_iload_7, ↓w_lstore_8, ↓w_istore_10, ↓w_iload_10, ↓w_lload_8, ↓w_ishr, ↓w_icne, ↓w_iaload, ↓w_i2l, ↓w_ladd, ↓w_iinc_10, ↓w_lload_5, ↓w_lcmp, ↓w_ifle, ↓w_iinc_7, ↓w_istore_8, ↓w_iload_8, ↓w_iadd, ↓w_iinc_8, lg_le0, nI_add])
            | (with_reducible refine bX12_plan_18 ?_; simp (disch := first | omega | decide) only [w_nl0, w_nli, w_nlr, ↓w_ts1, ↓w_ts0, w_rcv, w_rfv, w_cs, true_and, and_true, List.length_nil, List.length_cons, Nat.reduceAdd, Nat.reduceLeDiff, Nat.zero_le, Nat.reduceLT, ↓w_nil, ix_nI, nI_leP, nI_ltP, nI_eqP, nI_1, ↓i_inN, i_inN, l_le, l_lt, l_eq, r_le, r_lt, r_eq, sh68_0, sh68_1, sh68_2, sh68_3, sh68_4, ↓w_iload_1, ↓w_iconst, ↓w_is, ↓pm_cl1_3, ↓w_ifeq, ↓w_iload_2, ↓w_sipush, ↓w_ifne, ↓w_ret, ↓w_aload_0, ↓w_gf0, ↓w_ishl, ↓w_istore_3, ↓w_istore_4, ↓w_iload_4, ↓w_iload_3, ↓w_icge, ↓w_gf3, ↓w_iv, ↓pm_cl2_3, ↓w_bastore, ↓w_iinc_4, ↓w_goto, ↓w_istore_5, ↓w_iload_5, ↓w_iflt, ↓w_baload, ↓w_ixor, ↓w_iand, ↓w_isub, ↓w_lconst0, ↓w_lstore_5, ↓w_istore_7, ↓w_iload_7, ↓w_lstore_8, ↓w_istore_10, ↓w_iload_10, ↓w_lload_8, ↓w_ishr, ↓w_icne, ↓w_iaload, ↓w_i2l, ↓w_ladd, ↓w_iinc_10, ↓w_lload_5, ↓w_lcmp, ↓w_ifle, ↓w_iinc_7, ↓w_istore_8, ↓w_iload_8, ↓w_iadd, ↓w_iinc_8, lg_le0, nI_add])
            | (simp only [w_in])
            | (intro _))
          all_goals grind
      have hloop : UP g d Q 14 [some (.ref 68), some (.int (nI P)), some (.int (nI r)), some (.int (nI (2 ^ n))), some (.int (nI B)), some (.long (Int64.ofNat (cpV n cp B))), none, some (.int (nI X)), some (.long 0), none, some (.int 0)] I J := by
        generalize cpV n cp B = CB at *
        refine pm_for (f := fun i (z : Nat) => z + (if X.testBit i = true then cp i else 0)) (U := fun q (z : Nat) => UP g d Q 14 [some (.ref 68), some (.int (nI P)), some (.int (nI r)), some (.int (nI (2 ^ n))), some (.int (nI B)), some (.long (Int64.ofNat CB)), none, some (.int (nI X)), some (.long (Int64.ofNat z)), none, some (.int (nI q))] I J) (a := 0) n (fun q z hq hz w2 => ?_) (by rw [itr_sm]; exact hfin)
        have hbq := bt (x := X) (i := q) (by omega) (by omega)
        obtain ⟨t1, t2, t3, t4⟩ := o3 q hq
        by_cases cq : X.testBit q = true
        · rw [if_pos cq] at hbq
          rw [if_pos cq, Int64.ofNat_add, ← nI_L (n := cp q) (by omega)] at w2
          clear hc ih w hbd o3 hfin a1 a2 hz cq
          refine bX12_plan_14 ?_
          simp (disch := first | omega | decide) only [w_nl0, w_nli, w_nlr, ↓w_ts1, ↓w_ts0, w_rcv, w_rfv, w_cs, true_and, and_true, List.length_nil, List.length_cons, Nat.reduceAdd, Nat.reduceLeDiff, Nat.zero_le, Nat.reduceLT, ↓w_nil, ix_nI, nI_leP, nI_ltP, nI_eqP, nI_1, ↓i_inN, i_inN, l_le, l_lt, l_eq, r_le, r_lt, r_eq, sh68_0, sh68_1, sh68_2, sh68_3, sh68_4, ↓w_iload_10, ↓w_aload_0, ↓w_gf0, ↓w_icge, ↓w_lload_8, ↓w_iload_7, ↓w_ishr, ↓w_iconst, ↓w_iand, ↓w_icne, ↓w_gf3, ↓w_iaload, ↓w_i2l, ↓w_goto, o1, hbq]
          repeat' (first
            | (apply And.intro)
            | (with_reducible refine bX12_plan_15 ?_; simp (disch := first | omega | decide) only [w_nl0, w_nli, w_nlr, ↓w_ts1, ↓w_ts0, w_rcv, w_rfv, w_cs, true_and, and_true, List.length_nil, List.length_cons, Nat.reduceAdd, Nat.reduceLeDiff, Nat.zero_le, Nat.reduceLT, ↓w_nil, ix_nI, nI_leP, nI_ltP, nI_eqP, nI_1, ↓i_inN, i_inN, l_le, l_lt, l_eq, r_le, r_lt, r_eq, sh68_0, sh68_1, sh68_2, sh68_3, sh68_4, ↓w_iload_1, ↓w_iconst, ↓w_is, ↓pm_cl1_3, ↓w_ifeq, ↓w_iload_2, ↓w_sipush, ↓w_ifne, ↓w_ret, ↓w_aload_0, ↓w_gf0, ↓w_ishl, ↓w_istore_3, ↓w_istore_4, ↓w_iload_4, ↓w_iload_3, ↓w_icge, ↓w_gf3, ↓w_iv, ↓pm_cl2_3, ↓w_bastore, ↓w_iinc_4, ↓w_goto, ↓w_istore_5, ↓w_iload_5, ↓w_iflt, ↓w_baload, ↓w_ixor, ↓w_iand, ↓w_isub, ↓w_lconst0, ↓w_lstore_5, ↓w_istore_7, ↓w_iload_7, ↓w_lstore_8, ↓w_istore_10, ↓w_iload_10, ↓w_lload_8, ↓w_ishr, ↓w_icne, ↓w_iaload, ↓w_i2l, ↓w_ladd, ↓w_iinc_10, ↓w_lload_5, ↓w_lcmp, ↓w_ifle, ↓w_iinc_7, ↓w_istore_8, ↓w_iload_8, ↓w_iadd, ↓w_iinc_8, hbq, t3, nI_add])
            | (with_reducible refine bX12_plan_16 ?_; simp (disch := first | omega | decide) only [w_nl0, w_nli, w_nlr, ↓w_ts1, ↓w_ts0, w_rcv, w_rfv, w_cs, true_and, and_true, List.length_nil, List.length_cons, Nat.reduceAdd, Nat.reduceLeDiff, Nat.zero_le, Nat.reduceLT, ↓w_nil, ix_nI, nI_leP, nI_ltP, nI_eqP, nI_1, ↓i_inN, i_inN, l_le, l_lt, l_eq, r_le, r_lt, r_eq, sh68_0, sh68_1, sh68_2, sh68_3, sh68_4, ↓w_iload_1, ↓w_iconst, ↓w_is, ↓pm_cl1_3, ↓w_ifeq, ↓w_iload_2, ↓w_sipush, ↓w_ifne, ↓w_ret, ↓w_aload_0, ↓w_gf0, ↓w_ishl, ↓w_istore_3, ↓w_istore_4, ↓w_iload_4, ↓w_iload_3, ↓w_icge, ↓w_gf3, ↓w_iv, ↓pm_cl2_3, ↓w_bastore, ↓w_iinc_4, ↓w_goto, ↓w_istore_5, ↓w_iload_5, ↓w_iflt, ↓w_baload, ↓w_ixor, ↓w_iand, ↓w_isub, ↓w_lconst0, ↓w_lstore_5, ↓w_istore_7, ↓w_iload_7, ↓w_lstore_8, ↓w_istore_10, ↓w_iload_10, ↓w_lload_8, ↓w_ishr, ↓w_icne, ↓w_iaload, ↓w_i2l, ↓w_ladd, ↓w_iinc_10, ↓w_lload_5, ↓w_lcmp, ↓w_ifle, ↓w_iinc_7, ↓w_istore_8, ↓w_iload_8, ↓w_iadd, ↓w_iinc_8, hbq, t3, nI_add])
            | (simp only [w_in])
            | (intro _))
          all_goals grind
        · rw [if_neg cq] at hbq
          rw [if_neg cq, Nat.add_zero] at w2
          clear hc ih w hbd o3 hfin a1 a2 hz cq
          refine bX12_plan_14 ?_
          simp (disch := first | omega | decide) only [w_nl0, w_nli, w_nlr, ↓w_ts1, ↓w_ts0, w_rcv, w_rfv, w_cs, true_and, and_true, List.length_nil, List.length_cons, Nat.reduceAdd, Nat.reduceLeDiff, Nat.zero_le, Nat.reduceLT, ↓w_nil, ix_nI, nI_leP, nI_ltP, nI_eqP, nI_1, ↓i_inN, i_inN, l_le, l_lt, l_eq, r_le, r_lt, r_eq, sh68_0, sh68_1, sh68_2, sh68_3, sh68_4, ↓w_iload_10, ↓w_aload_0, ↓w_gf0, ↓w_icge, ↓w_lload_8, ↓w_iload_7, ↓w_ishr, ↓w_iconst, ↓w_iand, ↓w_icne, ↓w_gf3, ↓w_iaload, ↓w_i2l, ↓w_goto, o1, hbq]
          repeat' (first
            | (apply And.intro)
            | (with_reducible refine bX12_plan_15 ?_; simp (disch := first | omega | decide) only [w_nl0, w_nli, w_nlr, ↓w_ts1, ↓w_ts0, w_rcv, w_rfv, w_cs, true_and, and_true, List.length_nil, List.length_cons, Nat.reduceAdd, Nat.reduceLeDiff, Nat.zero_le, Nat.reduceLT, ↓w_nil, ix_nI, nI_leP, nI_ltP, nI_eqP, nI_1, ↓i_inN, i_inN, l_le, l_lt, l_eq, r_le, r_lt, r_eq, sh68_0, sh68_1, sh68_2, sh68_3, sh68_4, ↓w_iload_1, ↓w_iconst, ↓w_is, ↓pm_cl1_3, ↓w_ifeq, ↓w_iload_2, ↓w_sipush, ↓w_ifne, ↓w_ret, ↓w_aload_0, ↓w_gf0, ↓w_ishl, ↓w_istore_3, ↓w_istore_4, ↓w_iload_4, ↓w_iload_3, ↓w_icge, ↓w_gf3, ↓w_iv, ↓pm_cl2_3, ↓w_bastore, ↓w_iinc_4, ↓w_goto, ↓w_istore_5, ↓w_iload_5, ↓w_iflt, ↓w_baload, ↓w_ixor, ↓w_iand, ↓w_isub, ↓w_lconst0, ↓w_lstore_5, ↓w_istore_7, ↓w_iload_7, ↓w_lstore_8, ↓w_istore_10, ↓w_iload_10, ↓w_lload_8, ↓w_ishr, ↓w_icne, ↓w_iaload, ↓w_i2l, ↓w_ladd, ↓w_iinc_10, ↓w_lload_5, ↓w_lcmp, ↓w_ifle, ↓w_iinc_7, ↓w_istore_8, ↓w_iload_8, ↓w_iadd, ↓w_iinc_8, hbq, nI_add, Int64.add_zero])
            | (with_reducible refine bX12_plan_16 ?_; simp (disch := first | omega | decide) only [w_nl0, w_nli, w_nlr, ↓w_ts1, ↓w_ts0, w_rcv, w_rfv, w_cs, true_and, and_true, List.length_nil, List.length_cons, Nat.reduceAdd, Nat.reduceLeDiff, Nat.zero_le, Nat.reduceLT, ↓w_nil, ix_nI, nI_leP, nI_ltP, nI_eqP, nI_1, ↓i_inN, i_inN, l_le, l_lt, l_eq, r_le, r_lt, r_eq, sh68_0, sh68_1, sh68_2, sh68_3, sh68_4, ↓w_iload_1, ↓w_iconst, ↓w_is, ↓pm_cl1_3, ↓w_ifeq, ↓w_iload_2, ↓w_sipush, ↓w_ifne, ↓w_ret, ↓w_aload_0, ↓w_gf0, ↓w_ishl, ↓w_istore_3, ↓w_istore_4, ↓w_iload_4, ↓w_iload_3, ↓w_icge, ↓w_gf3, ↓w_iv, ↓pm_cl2_3, ↓w_bastore, ↓w_iinc_4, ↓w_goto, ↓w_istore_5, ↓w_iload_5, ↓w_iflt, ↓w_baload, ↓w_ixor, ↓w_iand, ↓w_isub, ↓w_lconst0, ↓w_lstore_5, ↓w_istore_7, ↓w_iload_7, ↓w_lstore_8, ↓w_istore_10, ↓w_iload_10, ↓w_lload_8, ↓w_ishr, ↓w_icne, ↓w_iaload, ↓w_i2l, ↓w_ladd, ↓w_iinc_10, ↓w_lload_5, ↓w_lcmp, ↓w_ifle, ↓w_iinc_7, ↓w_istore_8, ↓w_iload_8, ↓w_iadd, ↓w_iinc_8, hbq, nI_add, Int64.add_zero])
            | (simp only [w_in])
            | (intro _))
          all_goals grind
      clear hc ih w hbd o3 hfin a1 a2
      refine bX12_plan_13 ?_
      simp (disch := first | omega | decide) only [w_nl0, w_nli, w_nlr, ↓w_ts1, ↓w_ts0, w_rcv, w_rfv, w_cs, true_and, and_true, List.length_nil, List.length_cons, Nat.reduceAdd, Nat.reduceLeDiff, Nat.zero_le, Nat.reduceLT, ↓w_nil, ix_nI, nI_leP, nI_ltP, nI_eqP, nI_1, ↓i_inN, i_inN, l_le, l_lt, l_eq, r_le, r_lt, r_eq, sh68_0, sh68_1, sh68_2, sh68_3, sh68_4, ↓w_iload_7, ↓w_iload_3, ↓w_icge, ↓w_lconst0, ↓w_lstore_8, ↓w_iconst, ↓w_istore_10]
      repeat' (first
        | (apply And.intro)
        | (simp only [w_in])
        | (intro _))
      all_goals grind
  have w : UP g d Q 13 [some (.ref 68), some (.int (nI P)), some (.int (nI r)), some (.int (nI (2 ^ n))), some (.int 0), some (.long 0), none, some (.int 0), none, none, none] I J := by
    have k := key (2 ^ n) 0 none none (by omega)
    simp only [sel, cpV_0] at k
    exact k
  clear key hc a1 a2 o3 hbd
  refine bX12_plan_12 ?_
  simp (disch := first | omega | decide) only [w_nl0, w_nli, w_nlr, ↓w_ts1, ↓w_ts0, w_rcv, w_rfv, w_cs, true_and, and_true, List.length_nil, List.length_cons, Nat.reduceAdd, Nat.reduceLeDiff, Nat.zero_le, Nat.reduceLT, ↓w_nil, ix_nI, nI_leP, nI_ltP, nI_eqP, nI_1, ↓i_inN, i_inN, l_le, l_lt, l_eq, r_le, r_lt, r_eq, sh68_0, sh68_1, sh68_2, sh68_3, sh68_4, ↓w_iconst, ↓w_istore_4, ↓w_lconst0, ↓w_lstore_5, ↓w_istore_7]
  repeat' (first
    | (apply And.intro)
    | (simp only [w_in])
    | (intro _))
  all_goals grind
/-- the row of presses -/
theorem m_layP {n x P : Nat} {ok : Nat → Prop} {f : Nat → Nat} (hd : 14 ≤ d) (hn : n ≤ 9) (hx : x < 512) (hP : P ≤ 3) (h7 : I 68 73 = nI n) (hpf : ∀ p, p < 2 ^ n → (ok p → I 119 p = 1) ∧ (¬ ok p → I 119 p = 0)) (h0 : ok 0) (hf : srF ok x P n 0 (fun _ => 0) = some f) (hQ : ∀ I3, (∀ a, a ≠ 121 → a ≠ 122 → I3 a = I a) → (∀ j, j < 9 → I3 121 j = if j < n ∧ x.testBit j = true then nI (f j) else -9) → Q none SH I3 J) : pm_C g d 284 [.ref 68, .int (nI x), .int (nI P)] Q SH I J := by
  refine eX12_layPresses (by omega) ?_
  refine bX12_layPresses_0 ?_
  simp (disch := first | omega | decide) only [w_nl0, w_nli, w_nlr, ↓w_ts1, ↓w_ts0, w_rcv, w_rfv, w_cs, true_and, and_true, List.length_nil, List.length_cons, Nat.reduceAdd, Nat.reduceLeDiff, Nat.zero_le, Nat.reduceLT, ↓w_nil, ix_nI, nI_leP, nI_ltP, nI_eqP, nI_1, ↓i_inN, i_inN, l_le, l_lt, l_eq, r_le, r_lt, r_eq, sh68_0, sh68_1, sh68_2, sh68_3, sh68_4, ↓w_iconst, ↓w_istore_3]
  refine pm_for (f := fun k (M : pm_MI) => pm_up M 121 (0 + k) (-9)) (U := fun k (M : pm_MI) => UU g (d - 1) 284 kX12_layPresses (pm_rm d 284) Q 1 [some (.ref 68), some (.int (nI x)), some (.int (nI P)), some (.int (nI k))] [] SH M J (0, 0)) (a := I) 9 (fun k M hk hM w => ?_) ?_
  · rw [Nat.zero_add] at w
    clear hM hQ hf hpf
    refine bX12_layPresses_1 ?_
    simp (disch := first | omega | decide) only [w_nl0, w_nli, w_nlr, ↓w_ts1, ↓w_ts0, w_rcv, w_rfv, w_cs, true_and, and_true, List.length_nil, List.length_cons, Nat.reduceAdd, Nat.reduceLeDiff, Nat.zero_le, Nat.reduceLT, ↓w_nil, ix_nI, nI_leP, nI_ltP, nI_eqP, nI_1, ↓i_inN, i_inN, l_le, l_lt, l_eq, r_le, r_lt, r_eq, sh68_0, sh68_1, sh68_2, sh68_3, sh68_4, ↓w_iload_3, ↓w_bipush, ↓w_icge, ↓w_aload_0, ↓w_gf3, ↓w_iastore, ↓w_iinc_3, ↓w_goto]
    repeat' (first
      | (apply And.intro)
      | (simp only [w_in])
      | (intro _))
    all_goals grind
  · have e1 : ∀ j, j < 9 → itr (fun k (M : pm_MI) => pm_up M 121 (0 + k) (-9)) I 9 121 j = -9 := by
      intro j hj
      rw [fill_s, if_pos (by omega)]
    have e2 : ∀ a, a ≠ 121 → itr (fun k (M : pm_MI) => pm_up M 121 (0 + k) (-9)) I 9 a = I a := fun a ha => itr_o ha 9
    generalize itr (fun k (M : pm_MI) => pm_up M 121 (0 + k) (-9)) I 9 = I1 at *
    refine bX12_layPresses_1 ?_
    simp (disch := first | omega | decide) only [w_nl0, w_nli, w_nlr, ↓w_ts1, ↓w_ts0, w_rcv, w_rfv, w_cs, true_and, and_true, List.length_nil, List.length_cons, Nat.reduceAdd, Nat.reduceLeDiff, Nat.zero_le, Nat.reduceLT, ↓w_nil, ix_nI, nI_leP, nI_ltP, nI_eqP, nI_1, ↓i_inN, i_inN, l_le, l_lt, l_eq, r_le, r_lt, r_eq, sh68_0, sh68_1, sh68_2, sh68_3, sh68_4, ↓w_iload_3, ↓w_bipush, ↓w_icge, ↓w_aload_0, ↓w_gf3, ↓w_iastore, ↓w_iinc_3, ↓w_goto]
    repeat' (first
      | (apply And.intro)
      | (with_reducible refine bX12_layPresses_2 ?_; simp (disch := first | omega | decide) only [w_nl0, w_nli, w_nlr, ↓w_ts1, ↓w_ts0, w_rcv, w_rfv, w_cs, true_and, and_true, List.length_nil, List.length_cons, Nat.reduceAdd, Nat.reduceLeDiff, Nat.zero_le, Nat.reduceLT, ↓w_nil, ix_nI, nI_leP, nI_ltP, nI_eqP, nI_1, ↓i_inN, i_inN, l_le, l_lt, l_eq, r_le, r_lt, r_eq, sh68_0, sh68_1, sh68_2, sh68_3, sh68_4, ↓w_iconst, ↓w_istore_3, ↓w_iload_3, ↓w_bipush, ↓w_icge, ↓w_aload_0, ↓w_gf3, ↓w_iastore, ↓w_iinc_3, ↓w_goto, ↓w_iload_1, ↓w_iload_2, ↓w_iv, ↓pm_cl2_4, ↓w_pop, ↓w_vret])
      | (simp only [w_in])
      | (intro _))
    all_goals try (clear hQ hf hpf e1 e2; grind)
    refine pm_for (f := fun k (M : pm_MI) => pm_up M 122 (0 + k) 0) (U := fun k (M : pm_MI) => UU g (d - 1) 284 kX12_layPresses (pm_rm d 284) Q 3 [some (.ref 68), some (.int (nI x)), some (.int (nI P)), some (.int (nI k))] [] SH M J (0, 0)) (a := I1) 3 (fun k M hk hM w => ?_) ?_
    · rw [Nat.zero_add] at w
      clear hM hQ hf hpf e1 e2
      refine bX12_layPresses_3 ?_
      simp (disch := first | omega | decide) only [w_nl0, w_nli, w_nlr, ↓w_ts1, ↓w_ts0, w_rcv, w_rfv, w_cs, true_and, and_true, List.length_nil, List.length_cons, Nat.reduceAdd, Nat.reduceLeDiff, Nat.zero_le, Nat.reduceLT, ↓w_nil, ix_nI, nI_leP, nI_ltP, nI_eqP, nI_1, ↓i_inN, i_inN, l_le, l_lt, l_eq, r_le, r_lt, r_eq, sh68_0, sh68_1, sh68_2, sh68_3, sh68_4, ↓w_iload_3, ↓w_iconst, ↓w_icge, ↓w_aload_0, ↓w_gf3, ↓w_iastore, ↓w_iinc_3, ↓w_goto]
      repeat' (first
        | (apply And.intro)
        | (simp only [w_in])
        | (intro _))
      all_goals grind
    · have e3 : ∀ p, p < 3 → itr (fun k (M : pm_MI) => pm_up M 122 (0 + k) 0) I1 3 122 p = 0 := by
        intro p hp
        rw [fill_s, if_pos (by omega)]
      have e4 : ∀ a, a ≠ 122 → itr (fun k (M : pm_MI) => pm_up M 122 (0 + k) 0) I1 3 a = I1 a := fun a ha => itr_o ha 3
      generalize itr (fun k (M : pm_MI) => pm_up M 122 (0 + k) 0) I1 3 = I2 at *
      have hnext : ∀ Q2 : pm_Po, (∀ I3, Q none SH I3 J → Q2 (some (.int 1)) SH I3 J) → pm_C g (d - 1) 285 [.ref 68, .int 0, .int (nI x), .int (nI P)] Q2 SH I2 J := by
        intro Q2 g1
        refine m_settle (I := I) hn hx hP h7 hpf n 0 (fun _ => 0) I2 (d - 1) Q2 (by omega) (by omega) (fun a z1 z2 => by rw [e4 a z2, e2 a z1]) (fun p hp => ⟨e3 p hp, Nat.pow_pos (by omega), h0⟩) (fun f' hf' I3 hi3 hr3 => g1 I3 (hQ I3 hi3 (fun j hj => ?_))) (fun hf' => by rw [hf] at hf'; exact absurd hf' (by simp))
        rw [hf] at hf'
        have := Option.some.inj hf'
        subst this
        rw [hr3 j]
        simp only [Nat.zero_le, true_and]
        rw [e4 121 (by decide), e1 j hj]
      clear hQ hf hpf e1 e2 e3 e4
      refine bX12_layPresses_3 ?_
      simp (disch := first | omega | decide) only [w_nl0, w_nli, w_nlr, ↓w_ts1, ↓w_ts0, w_rcv, w_rfv, w_cs, true_and, and_true, List.length_nil, List.length_cons, Nat.reduceAdd, Nat.reduceLeDiff, Nat.zero_le, Nat.reduceLT, ↓w_nil, ix_nI, nI_leP, nI_ltP, nI_eqP, nI_1, ↓i_inN, i_inN, l_le, l_lt, l_eq, r_le, r_lt, r_eq, sh68_0, sh68_1, sh68_2, sh68_3, sh68_4, ↓w_iload_3, ↓w_iconst, ↓w_icge, ↓w_aload_0, ↓w_gf3, ↓w_iastore, ↓w_iinc_3, ↓w_goto]
      repeat' (first
        | (apply And.intro)
        | (with_reducible refine bX12_layPresses_4 ?_; simp (disch := first | omega | decide) only [w_nl0, w_nli, w_nlr, ↓w_ts1, ↓w_ts0, w_rcv, w_rfv, w_cs, true_and, and_true, List.length_nil, List.length_cons, Nat.reduceAdd, Nat.reduceLeDiff, Nat.zero_le, Nat.reduceLT, ↓w_nil, ix_nI, nI_leP, nI_ltP, nI_eqP, nI_1, ↓i_inN, i_inN, l_le, l_lt, l_eq, r_le, r_lt, r_eq, sh68_0, sh68_1, sh68_2, sh68_3, sh68_4, ↓w_iconst, ↓w_istore_3, ↓w_iload_3, ↓w_bipush, ↓w_icge, ↓w_aload_0, ↓w_gf3, ↓w_iastore, ↓w_iinc_3, ↓w_goto, ↓w_iload_1, ↓w_iload_2, ↓w_iv, ↓pm_cl2_4, ↓w_pop, ↓w_vret])
        | (with_reducible refine hnext _ (fun I3 h3 => ?_) <;> simp (disch := first | omega | decide) only [w_nl0, w_nli, w_nlr, ↓w_ts1, ↓w_ts0, w_rcv, w_rfv, w_cs, true_and, and_true, List.length_nil, List.length_cons, Nat.reduceAdd, Nat.reduceLeDiff, Nat.zero_le, Nat.reduceLT, ↓w_nil, ix_nI, nI_leP, nI_ltP, nI_eqP, nI_1, ↓i_inN, i_inN, l_le, l_lt, l_eq, r_le, r_lt, r_eq, sh68_0, sh68_1, sh68_2, sh68_3, sh68_4, ↓w_iconst, ↓w_istore_3, ↓w_iload_3, ↓w_bipush, ↓w_icge, ↓w_aload_0, ↓w_gf3, ↓w_iastore, ↓w_iinc_3, ↓w_goto, ↓w_iload_1, ↓w_iload_2, ↓w_iv, ↓pm_cl2_4, ↓w_pop, ↓w_vret])
        | (simp only [w_in])
        | (intro _))
      all_goals (clear hnext; grind)
def ctV (n x : Nat) : Nat := sm (fun k => if x.testBit k = true then 1 else 0) n
theorem m_plan {n y r P : Nat} {dy cp : Nat → Nat} {f : Nat → Nat} {b : Nat} (hd : 18 ≤ d) (hn : n ≤ 9) (hy : y ≤ 999) (hP : 1 ≤ P ∧ P ≤ 3) (hr1 : 1 ≤ r) (hr2 : r ≤ 10000) (hO : OM I n y dy cp) (hb : sel (canP n y dy (tkV cp r) P) (cpV n cp) (2 ^ n) = b) (hf : srF (oneP n y dy (tkV cp r)) b P n 0 (fun _ => 0) = some f) (hQ : ∀ I3, (∀ a, a ≠ 68 → a ≠ 119 → a ≠ 120 → a ≠ 121 → a ≠ 122 → I3 a = I a) → (∀ j, j ≠ 2 → I3 68 j = I 68 j) → I3 68 2 = nI b → (∀ j, j < 9 → I3 121 j = if j < n ∧ b.testBit j = true then nI (f j) else -9) → Q (some (.int (nI (ctV n b)))) SH I3 J) : pm_C g d 283 [.ref 68, .int (nI P), .int (nI r)] Q SH I J := by
  have hp9 : 2 ^ n ≤ 512 := Nat.pow_le_pow_right (by omega) hn
  have hp0 : 0 < 2 ^ n := Nat.pow_pos (by omega)
  have hb9 : b < 2 ^ n := by rw [← hb]; exact sel_lt _ hp0
  have hsl : (1 : Int32) <<< (nI n &&& 31) = nI (2 ^ n) := sl1 (by omega)
  have v1 : (1 : Int32) ≤ nI P ∧ nI P ≤ 3 := ⟨nI_le (a := 1) hP.1 (by omega), nI_le (b := 3) hP.2 (by omega)⟩
  have v2 : (1 : Int32) ≤ nI r ∧ nI r ≤ 10000 := ⟨nI_le (a := 1) hr1 (by omega), nI_le (b := 10000) hr2 (by omega)⟩
  have hend : ∀ I2 v5 x8 x10, (∀ a, a ≠ 119 → a ≠ 120 → I2 a = I a) → (∀ p, p < 2 ^ n → b01 (I2 119 p) (oneP n y dy (tkV cp r) p)) → UP g d Q 19 [some (.ref 68), some (.int (nI P)), some (.int (nI r)), some (.int (nI (2 ^ n))), some (.int (nI b)), some (.long v5), none, some (.int (nI (2 ^ n))), x8, none, x10] I2 J := by
    intro I2 v5 x8 x10 ha hp1
    have h7 : I2 68 73 = nI n := by rw [ha 68 (by decide) (by decide)]; exact hO.1
    have hcnt : ∀ I3, (∀ a, a ≠ 121 → a ≠ 122 → I3 a = I2 a) → (∀ j, j < 9 → I3 121 j = if j < n ∧ b.testBit j = true then nI (f j) else -9) → UP g d Q 20 [some (.ref 68), some (.int (nI P)), some (.int (nI r)), some (.int (nI (2 ^ n))), some (.int (nI b)), some (.long v5), none, some (.int 0), some (.int 0), none, x10] I3 J := by
      intro I3 hi3 hr3
      have e7 : I3 68 73 = nI n := by rw [hi3 68 (by decide) (by decide), h7]
      have hctb : ∀ q, q ≤ n → sm (fun k => if b.testBit k = true then 1 else 0) q ≤ 1 * q := fun q hq => sm_bd (fun k _ => by split <;> omega)
      have hQ2 := hQ (pm_up I3 68 2 (nI b)) (fun a z1 z2 z3 z4 z5 => by rw [pm_up_o z1, hi3 a z4 z5, ha a z2 z3]) (fun j hj => by rw [pm_up_n hj, hi3 68 (by decide) (by decide), ha 68 (by decide) (by decide)]) pm_up_s (fun j hj => by rw [pm_up_o (by decide)]; exact hr3 j hj)
      refine pm_for (f := fun i (z : Nat) => z + (if b.testBit i = true then 1 else 0)) (U := fun q (z : Nat) => UP g d Q 20 [some (.ref 68), some (.int (nI P)), some (.int (nI r)), some (.int (nI (2 ^ n))), some (.int (nI b)), some (.long v5), none, some (.int (nI z)), some (.int (nI q)), none, x10] I3 J) (a := 0) n (fun q z hq hz w2 => ?_) ?_
      · have hbq := bt (x := b) (i := q) (by omega) (by omega)
        clear hQ hQ2 hr3 hi3 ha hp1 hO hctb hz
        by_cases cq : b.testBit q = true
        · rw [if_pos cq] at hbq w2
          clear cq
          refine bX12_plan_20 ?_
          simp (disch := first | omega | decide) only [w_nl0, w_nli, w_nlr, ↓w_ts1, ↓w_ts0, w_rcv, w_rfv, w_cs, true_and, and_true, List.length_nil, List.length_cons, Nat.reduceAdd, Nat.reduceLeDiff, Nat.zero_le, Nat.reduceLT, ↓w_nil, ix_nI, nI_leP, nI_ltP, nI_eqP, nI_1, ↓i_inN, i_inN, l_le, l_lt, l_eq, r_le, r_lt, r_eq, sh68_0, sh68_1, sh68_2, sh68_3, sh68_4, ↓w_iload_8, ↓w_aload_0, ↓w_gf0, ↓w_icge, ↓w_iload_7, ↓w_iload_4, ↓w_ishr, ↓w_iconst, ↓w_iand, ↓w_iadd, ↓w_istore_7, ↓w_iinc_8, ↓w_goto, e7, hbq, nI_add]
          repeat' (first
            | (apply And.intro)
            | (simp only [w_in])
            | (intro _))
          all_goals grind
        · rw [if_neg cq] at hbq w2
          clear cq
          rw [Nat.add_zero] at w2
          refine bX12_plan_20 ?_
          simp (disch := first | omega | decide) only [w_nl0, w_nli, w_nlr, ↓w_ts1, ↓w_ts0, w_rcv, w_rfv, w_cs, true_and, and_true, List.length_nil, List.length_cons, Nat.reduceAdd, Nat.reduceLeDiff, Nat.zero_le, Nat.reduceLT, ↓w_nil, ix_nI, nI_leP, nI_ltP, nI_eqP, nI_1, ↓i_inN, i_inN, l_le, l_lt, l_eq, r_le, r_lt, r_eq, sh68_0, sh68_1, sh68_2, sh68_3, sh68_4, ↓w_iload_8, ↓w_aload_0, ↓w_gf0, ↓w_icge, ↓w_iload_7, ↓w_iload_4, ↓w_ishr, ↓w_iconst, ↓w_iand, ↓w_iadd, ↓w_istore_7, ↓w_iinc_8, ↓w_goto, e7, hbq, nI_add, Int32.add_zero]
          repeat' (first
            | (apply And.intro)
            | (simp only [w_in])
            | (intro _))
          all_goals grind
      · rw [itr_sm]
        unfold ctV at hQ2
        generalize sm (fun k => if b.testBit k = true then 1 else 0) n = G at *
        clear hQ hr3 hi3 ha hp1 hO hctb
        refine bX12_plan_20 ?_
        simp (disch := first | omega | decide) only [w_nl0, w_nli, w_nlr, ↓w_ts1, ↓w_ts0, w_rcv, w_rfv, w_cs, true_and, and_true, List.length_nil, List.length_cons, Nat.reduceAdd, Nat.reduceLeDiff, Nat.zero_le, Nat.reduceLT, ↓w_nil, ix_nI, nI_leP, nI_ltP, nI_eqP, nI_1, ↓i_inN, i_inN, l_le, l_lt, l_eq, r_le, r_lt, r_eq, sh68_0, sh68_1, sh68_2, sh68_3, sh68_4, ↓w_iload_8, ↓w_aload_0, ↓w_gf0, ↓w_icge, ↓w_iload_7, ↓w_iload_4, ↓w_ishr, ↓w_iconst, ↓w_iand, ↓w_iadd, ↓w_istore_7, ↓w_iinc_8, ↓w_goto, e7]
        repeat' (first
          | (apply And.intro)
          | (with_reducible refine bX12_plan_21 ?_; simp (disch := first | omega | decide) only [w_nl0, w_nli, w_nlr, ↓w_ts1, ↓w_ts0, w_rcv, w_rfv, w_cs, true_and, and_true, List.length_nil, List.length_cons, Nat.reduceAdd, Nat.reduceLeDiff, Nat.zero_le, Nat.reduceLT, ↓w_nil, ix_nI, nI_leP, nI_ltP, nI_eqP, nI_1, ↓i_inN, i_inN, l_le, l_lt, l_eq, r_le, r_lt, r_eq, sh68_0, sh68_1, sh68_2, sh68_3, sh68_4, ↓w_iload_1, ↓w_iconst, ↓w_is, ↓pm_cl1_3, ↓w_ifeq, ↓w_iload_2, ↓w_sipush, ↓w_ifne, ↓w_ret, ↓w_aload_0, ↓w_gf0, ↓w_ishl, ↓w_istore_3, ↓w_istore_4, ↓w_iload_4, ↓w_iload_3, ↓w_icge, ↓w_gf3, ↓w_iv, ↓pm_cl2_3, ↓w_bastore, ↓w_iinc_4, ↓w_goto, ↓w_istore_5, ↓w_iload_5, ↓w_iflt, ↓w_baload, ↓w_ixor, ↓w_iand, ↓w_isub, ↓w_lconst0, ↓w_lstore_5, ↓w_istore_7, ↓w_iload_7, ↓w_lstore_8, ↓w_istore_10, ↓w_iload_10, ↓w_lload_8, ↓w_ishr, ↓w_icne, ↓w_iaload, ↓w_i2l, ↓w_ladd, ↓w_iinc_10, ↓w_lload_5, ↓w_lcmp, ↓w_ifle, ↓w_iinc_7, ↓w_istore_8, ↓w_iload_8, ↓w_iadd, ↓w_iinc_8])
          | (with_reducible refine m_tells (by omega) ?_ ; simp (disch := first | omega | decide) only [w_nl0, w_nli, w_nlr, ↓w_ts1, ↓w_ts0, w_rcv, w_rfv, w_cs, true_and, and_true, List.length_nil, List.length_cons, Nat.reduceAdd, Nat.reduceLeDiff, Nat.zero_le, Nat.reduceLT, ↓w_nil, ix_nI, nI_leP, nI_ltP, nI_eqP, nI_1, ↓i_inN, i_inN, l_le, l_lt, l_eq, r_le, r_lt, r_eq, sh68_0, sh68_1, sh68_2, sh68_3, sh68_4, ↓w_iload_1, ↓w_iconst, ↓w_is, ↓pm_cl1_3, ↓w_ifeq, ↓w_iload_2, ↓w_sipush, ↓w_ifne, ↓w_ret, ↓w_aload_0, ↓w_gf0, ↓w_ishl, ↓w_istore_3, ↓w_istore_4, ↓w_iload_4, ↓w_iload_3, ↓w_icge, ↓w_gf3, ↓w_iv, ↓pm_cl2_3, ↓w_bastore, ↓w_iinc_4, ↓w_goto, ↓w_istore_5, ↓w_iload_5, ↓w_iflt, ↓w_baload, ↓w_ixor, ↓w_iand, ↓w_isub, ↓w_lconst0, ↓w_lstore_5, ↓w_istore_7, ↓w_iload_7, ↓w_lstore_8, ↓w_istore_10, ↓w_iload_10, ↓w_lload_8, ↓w_ishr, ↓w_icne, ↓w_iaload, ↓w_i2l, ↓w_ladd, ↓w_iinc_10, ↓w_lload_5, ↓w_lcmp, ↓w_ifle, ↓w_iinc_7, ↓w_istore_8, ↓w_iload_8, ↓w_iadd, ↓w_iinc_8])
          | (simp only [w_in])
          | (intro _))
        all_goals grind
    clear hQ
    refine bX12_plan_19 ?_
    simp (disch := first | omega | decide) only [w_nl0, w_nli, w_nlr, ↓w_ts1, ↓w_ts0, w_rcv, w_rfv, w_cs, true_and, and_true, List.length_nil, List.length_cons, Nat.reduceAdd, Nat.reduceLeDiff, Nat.zero_le, Nat.reduceLT, ↓w_nil, ix_nI, nI_leP, nI_ltP, nI_eqP, nI_1, ↓i_inN, i_inN, l_le, l_lt, l_eq, r_le, r_lt, r_eq, sh68_0, sh68_1, sh68_2, sh68_3, sh68_4, ↓w_aload_0, ↓w_iload_4, ↓w_iload_1, ↓w_iv, ↓pm_cl2_3, ↓w_iconst, ↓w_istore_7, ↓w_istore_8]
    refine m_layP (n := n) (ok := oneP n y dy (tkV cp r)) (f := f) (by omega) hn (by omega) hP.2 h7 hp1 one_0 hf (fun I3 hi3 hr3 => ?_)
    have w := hcnt I3 hi3 hr3
    clear hcnt hi3 hr3 hp1 ha hO
    simp (disch := first | omega | decide) only [w_nl0, w_nli, w_nlr, ↓w_ts1, ↓w_ts0, w_rcv, w_rfv, w_cs, true_and, and_true, List.length_nil, List.length_cons, Nat.reduceAdd, Nat.reduceLeDiff, Nat.zero_le, Nat.reduceLT, ↓w_nil, ix_nI, nI_leP, nI_ltP, nI_eqP, nI_1, ↓i_inN, i_inN, l_le, l_lt, l_eq, r_le, r_lt, r_eq, sh68_0, sh68_1, sh68_2, sh68_3, sh68_4, ↓w_aload_0, ↓w_iload_4, ↓w_iload_1, ↓w_iv, ↓pm_cl2_3, ↓w_iconst, ↓w_istore_7, ↓w_istore_8]
    exact w
  have hall : UP g d Q 3 [some (.ref 68), some (.int (nI P)), some (.int (nI r)), some (.int (nI (2 ^ n))), some (.int 0), none, none, none, none, none, none] I J := by
    refine m_pl1 (by omega) hn hy hr1 hr2 hO (fun I1 ha1 hp1 => ?_)
    refine m_pl2 (y := y) (dy := dy) (tk := tkV cp r) (by omega) hn hp1 (fun I2 x5 ha2 hp2 => ?_)
    have ha3 : ∀ a, a ≠ 119 → a ≠ 120 → I2 a = I a := fun a z1 z2 => by rw [ha2 a z2, ha1 a z1]
    have hO2 : OM I2 n y dy cp := by
      unfold OM
      rw [ha3 68 (by decide) (by decide), ha3 118 (by decide) (by decide), ha3 117 (by decide) (by decide)]
      exact hO
    have hp1' : ∀ p, p < 2 ^ n → b01 (I2 119 p) (oneP n y dy (tkV cp r) p) := by
      rw [ha2 119 (by decide)]
      exact hp1
    refine m_pl3 (by omega) hn hP hO2 hp1' hp2 x5 (fun x8 x10 => ?_)
    rw [hb]
    exact hend I2 _ x8 x10 ha3 hp1'
  obtain ⟨o1, o2, o3⟩ := hO
  clear hend hQ o3
  refine eX12_plan (by omega) ?_
  repeat' (first
    | (apply And.intro)
    | (with_reducible refine bX12_plan_0 ?_; simp (disch := first | omega | decide) only [w_nl0, w_nli, w_nlr, ↓w_ts1, ↓w_ts0, w_rcv, w_rfv, w_cs, true_and, and_true, List.length_nil, List.length_cons, Nat.reduceAdd, Nat.reduceLeDiff, Nat.zero_le, Nat.reduceLT, ↓w_nil, ix_nI, nI_leP, nI_ltP, nI_eqP, nI_1, ↓i_inN, i_inN, l_le, l_lt, l_eq, r_le, r_lt, r_eq, sh68_0, sh68_1, sh68_2, sh68_3, sh68_4, ↓w_iload_1, ↓w_iconst, ↓w_is, ↓pm_cl1_3, ↓w_ifeq, ↓w_iload_2, ↓w_sipush, ↓w_ifne, ↓w_ret, ↓w_aload_0, ↓w_gf0, ↓w_ishl, ↓w_istore_3, ↓w_istore_4, ↓w_iload_4, ↓w_iload_3, ↓w_icge, ↓w_gf3, ↓w_iv, ↓pm_cl2_3, ↓w_bastore, ↓w_iinc_4, ↓w_goto, ↓w_istore_5, ↓w_iload_5, ↓w_iflt, ↓w_baload, ↓w_ixor, ↓w_iand, ↓w_isub, ↓w_lconst0, ↓w_lstore_5, ↓w_istore_7, ↓w_iload_7, ↓w_lstore_8, ↓w_istore_10, ↓w_iload_10, ↓w_lload_8, ↓w_ishr, ↓w_icne, ↓w_iaload, ↓w_i2l, ↓w_ladd, ↓w_iinc_10, ↓w_lload_5, ↓w_lcmp, ↓w_ifle, ↓w_iinc_7, ↓w_istore_8, ↓w_iload_8, ↓w_iadd, ↓w_iinc_8, o1, hsl])
    | (with_reducible refine bX12_plan_1 ?_; simp (disch := first | omega | decide) only [w_nl0, w_nli, w_nlr, ↓w_ts1, ↓w_ts0, w_rcv, w_rfv, w_cs, true_and, and_true, List.length_nil, List.length_cons, Nat.reduceAdd, Nat.reduceLeDiff, Nat.zero_le, Nat.reduceLT, ↓w_nil, ix_nI, nI_leP, nI_ltP, nI_eqP, nI_1, ↓i_inN, i_inN, l_le, l_lt, l_eq, r_le, r_lt, r_eq, sh68_0, sh68_1, sh68_2, sh68_3, sh68_4, ↓w_iload_1, ↓w_iconst, ↓w_is, ↓pm_cl1_3, ↓w_ifeq, ↓w_iload_2, ↓w_sipush, ↓w_ifne, ↓w_ret, ↓w_aload_0, ↓w_gf0, ↓w_ishl, ↓w_istore_3, ↓w_istore_4, ↓w_iload_4, ↓w_iload_3, ↓w_icge, ↓w_gf3, ↓w_iv, ↓pm_cl2_3, ↓w_bastore, ↓w_iinc_4, ↓w_goto, ↓w_istore_5, ↓w_iload_5, ↓w_iflt, ↓w_baload, ↓w_ixor, ↓w_iand, ↓w_isub, ↓w_lconst0, ↓w_lstore_5, ↓w_istore_7, ↓w_iload_7, ↓w_lstore_8, ↓w_istore_10, ↓w_iload_10, ↓w_lload_8, ↓w_ishr, ↓w_icne, ↓w_iaload, ↓w_i2l, ↓w_ladd, ↓w_iinc_10, ↓w_lload_5, ↓w_lcmp, ↓w_ifle, ↓w_iinc_7, ↓w_istore_8, ↓w_iload_8, ↓w_iadd, ↓w_iinc_8, o1, hsl])
    | (with_reducible refine bX12_plan_2 ?_; simp (disch := first | omega | decide) only [w_nl0, w_nli, w_nlr, ↓w_ts1, ↓w_ts0, w_rcv, w_rfv, w_cs, true_and, and_true, List.length_nil, List.length_cons, Nat.reduceAdd, Nat.reduceLeDiff, Nat.zero_le, Nat.reduceLT, ↓w_nil, ix_nI, nI_leP, nI_ltP, nI_eqP, nI_1, ↓i_inN, i_inN, l_le, l_lt, l_eq, r_le, r_lt, r_eq, sh68_0, sh68_1, sh68_2, sh68_3, sh68_4, ↓w_iload_1, ↓w_iconst, ↓w_is, ↓pm_cl1_3, ↓w_ifeq, ↓w_iload_2, ↓w_sipush, ↓w_ifne, ↓w_ret, ↓w_aload_0, ↓w_gf0, ↓w_ishl, ↓w_istore_3, ↓w_istore_4, ↓w_iload_4, ↓w_iload_3, ↓w_icge, ↓w_gf3, ↓w_iv, ↓pm_cl2_3, ↓w_bastore, ↓w_iinc_4, ↓w_goto, ↓w_istore_5, ↓w_iload_5, ↓w_iflt, ↓w_baload, ↓w_ixor, ↓w_iand, ↓w_isub, ↓w_lconst0, ↓w_lstore_5, ↓w_istore_7, ↓w_iload_7, ↓w_lstore_8, ↓w_istore_10, ↓w_iload_10, ↓w_lload_8, ↓w_ishr, ↓w_icne, ↓w_iaload, ↓w_i2l, ↓w_ladd, ↓w_iinc_10, ↓w_lload_5, ↓w_lcmp, ↓w_ifle, ↓w_iinc_7, ↓w_istore_8, ↓w_iload_8, ↓w_iadd, ↓w_iinc_8, o1, hsl])
    | (with_reducible refine m_in (by omega) ?_ ; simp (disch := first | omega | decide) only [w_nl0, w_nli, w_nlr, ↓w_ts1, ↓w_ts0, w_rcv, w_rfv, w_cs, true_and, and_true, List.length_nil, List.length_cons, Nat.reduceAdd, Nat.reduceLeDiff, Nat.zero_le, Nat.reduceLT, ↓w_nil, ix_nI, nI_leP, nI_ltP, nI_eqP, nI_1, ↓i_inN, i_inN, l_le, l_lt, l_eq, r_le, r_lt, r_eq, sh68_0, sh68_1, sh68_2, sh68_3, sh68_4, ↓w_iload_1, ↓w_iconst, ↓w_is, ↓pm_cl1_3, ↓w_ifeq, ↓w_iload_2, ↓w_sipush, ↓w_ifne, ↓w_ret, ↓w_aload_0, ↓w_gf0, ↓w_ishl, ↓w_istore_3, ↓w_istore_4, ↓w_iload_4, ↓w_iload_3, ↓w_icge, ↓w_gf3, ↓w_iv, ↓pm_cl2_3, ↓w_bastore, ↓w_iinc_4, ↓w_goto, ↓w_istore_5, ↓w_iload_5, ↓w_iflt, ↓w_baload, ↓w_ixor, ↓w_iand, ↓w_isub, ↓w_lconst0, ↓w_lstore_5, ↓w_istore_7, ↓w_iload_7, ↓w_lstore_8, ↓w_istore_10, ↓w_iload_10, ↓w_lload_8, ↓w_ishr, ↓w_icne, ↓w_iaload, ↓w_i2l, ↓w_ladd, ↓w_iinc_10, ↓w_lload_5, ↓w_lcmp, ↓w_ifle, ↓w_iinc_7, ↓w_istore_8, ↓w_iload_8, ↓w_iadd, ↓w_iinc_8, o1, hsl])
    | (simp only [w_in])
    | (intro _))
  all_goals grind
end C88
