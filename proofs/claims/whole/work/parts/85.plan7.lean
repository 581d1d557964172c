section C85
variable {g : pm_G} {d : Nat} {Q : pm_Po} {S : pm_SS} {I : pm_MI} {J : pm_ML}
theorem dv_nI {a b : Nat} (ha : a < 1000000) (hb : b < 1000000) : nI a / nI b = nI (a / b) := (Int32.ofNat_div (by omega) (by omega)).symm
def tkV (cp : Nat → Nat) (r : Nat) (i : Nat) : Nat := (cp i + r - 1) / r
theorem tk_nI {cp : Nat → Nat} {r i : Nat} (h1 : 1 ≤ r) (h2 : r ≤ 10000) (hc : 1 ≤ cp i ∧ cp i ≤ 100000) : (nI (cp i) + nI r - 1) / nI r = nI (tkV cp r i) := by
  unfold tkV
  rw [nI_add, s1_nI (by omega) (by omega), dv_nI (by omega) (by omega)]
theorem tk_bd {cp : Nat → Nat} {r i : Nat} (h1 : 1 ≤ r) (hc : 1 ≤ cp i ∧ cp i ≤ 100000) : tkV cp r i ≤ 100000 := by
  unfold tkV
  have h3 : (cp i + r - 1) / r ≤ cp i := by
    refine Nat.div_le_of_le_mul ?_
    have h4 : cp i ≤ r * cp i := Nat.le_mul_of_pos_left _ (by omega)
    have h5 : r * 1 ≤ r * cp i := Nat.mul_le_mul_left r hc.1
    rcases Nat.eq_or_lt_of_le hc.1 with e | e
    · rw [← e]; omega
    · have h6 : r * 2 ≤ r * cp i := Nat.mul_le_mul_left r e
      have h7 : (r - 1) * (cp i - 1) + r + cp i - 1 = r * cp i := by
        obtain ⟨a, rfl⟩ : ∃ a, r = a + 1 := ⟨r - 1, by omega⟩
        obtain ⟨c, hcc⟩ : ∃ c, cp i = c + 1 := ⟨cp i - 1, by omega⟩
        rw [hcc]
        simp only [Nat.add_sub_cancel, Nat.add_mul, Nat.mul_add, Nat.one_mul, Nat.mul_one]
        omega
      omega
  omega
/-- the orders as the reference has them -/
def OM (I : pm_MI) (n y : Nat) (dy cp : Nat → Nat) : Prop := I 68 73 = nI n ∧ I 68 15 = nI y ∧ ∀ i, i < n → I 118 i = nI (dy i) ∧ dy i ≤ 999 ∧ I 117 i = nI (cp i) ∧ 1 ≤ cp i ∧ cp i ≤ 100000
theorem m_meetsAll {n x y r : Nat} {dy cp : Nat → Nat} (hd : 1 ≤ d) (hn : n ≤ 9) (hx : x < 512) (hy : y ≤ 999) (hr1 : 1 ≤ r) (hr2 : r ≤ 10000) (hO : OM I n y dy cp) (h1 : oneP n y dy (tkV cp r) x → Q (some (.int 1)) SH I J) (h0 : ¬ oneP n y dy (tkV cp r) x → Q (some (.int 0)) SH I J) : pm_C g d 281 [.ref 68, .int (nI x), .int (nI r)] Q SH I J := by
  obtain ⟨o1, o2, o3⟩ := hO
  have keyF : ∀ k a b, k ≤ n → ¬ oneP n y dy (tkV cp r) x → UU g (d - 1) 281 kX12_meetsAll (pm_rm d 281) Q 1 [some (.ref 68), some (.int (nI x)), some (.int (nI r)), some (.int 0), some (.int (nI k)), a, none, b] [] SH I J (0, 0) := by
    intro k a b hk ho
    have h0 := h0 ho
    clear h1 o3
    refine bX12_meetsAll_1 ?_
    simp (disch := first | omega | decide) only [w_nl0, w_nli, w_nlr, ↓w_ts1, ↓w_ts0, w_rcv, w_rfv, w_cs, true_and, and_true, List.length_nil, List.length_cons, Nat.reduceAdd, Nat.reduceLeDiff, Nat.zero_le, Nat.reduceLT, ↓w_nil, ix_nI, nI_leP, nI_ltP, nI_eqP, nI_1, ↓i_inN, i_inN, l_le, l_lt, l_eq, r_le, r_lt, r_eq, sh68_0, sh68_1, sh68_2, sh68_3, sh68_4, ↓w_iload_4, ↓w_aload_0, ↓w_gf0, ↓w_icge, ↓w_iload_3, ↓w_ifeq, ↓w_iload_1, ↓w_ishr, ↓w_iconst, ↓w_iand, ↓w_icne, ↓w_lconst0, ↓w_lstore_5, ↓w_istore_7, o1]
    repeat' (first
      | (apply And.intro)
      | (with_reducible refine bX12_meetsAll_9 ?_; simp (disch := first | omega | decide) only [w_nl0, w_nli, w_nlr, ↓w_ts1, ↓w_ts0, w_rcv, w_rfv, w_cs, true_and, and_true, List.length_nil, List.length_cons, Nat.reduceAdd, Nat.reduceLeDiff, Nat.zero_le, Nat.reduceLT, ↓w_nil, ix_nI, nI_leP, nI_ltP, nI_eqP, nI_1, ↓i_inN, i_inN, l_le, l_lt, l_eq, r_le, r_lt, r_eq, sh68_0, sh68_1, sh68_2, sh68_3, sh68_4, ↓w_iconst, ↓w_istore_3, ↓w_istore_4, ↓w_iload_4, ↓w_aload_0, ↓w_gf0, ↓w_icge, ↓w_iload_3, ↓w_ifeq, ↓w_iload_1, ↓w_ishr, ↓w_iand, ↓w_icne, ↓w_lconst0, ↓w_lstore_5, ↓w_istore_7, ↓w_iload_7, ↓w_lload_5, ↓w_gf3, ↓w_iaload, ↓w_icgt, ↓w_iload_2, ↓w_iadd, ↓w_isub, ↓w_idiv, ↓w_i2l, ↓w_goto, ↓w_ladd, ↓w_iinc_7, ↓w_lcmp, ↓w_ifgt, ↓w_iinc_4, ↓w_zret])
      | (simp only [w_in])
      | (intro _))
    all_goals grind
  have key : ∀ j k a b, j + k = n → (∀ q, q < k → x.testBit q = true → y + sm (fun i => if x.testBit i = true ∧ dy i ≤ dy q then tkV cp r i else 0) n ≤ dy q) → UU g (d - 1) 281 kX12_meetsAll (pm_rm d 281) Q 1 [some (.ref 68), some (.int (nI x)), some (.int (nI r)), some (.int 1), some (.int (nI k)), a, none, b] [] SH I J (0, 0) := by
    intro j
    induction j with
    | zero =>
      intro k a b hk hq
      have hkn : k = n := by omega
      subst hkn
      have h1 := h1 hq
      clear h0 hq o3 keyF
      refine bX12_meetsAll_1 ?_
      simp (disch := first | omega | decide) only [w_nl0, w_nli, w_nlr, ↓w_ts1, ↓w_ts0, w_rcv, w_rfv, w_cs, true_and, and_true, List.length_nil, List.length_cons, Nat.reduceAdd, Nat.reduceLeDiff, Nat.zero_le, Nat.reduceLT, ↓w_nil, ix_nI, nI_leP, nI_ltP, nI_eqP, nI_1, ↓i_inN, i_inN, l_le, l_lt, l_eq, r_le, r_lt, r_eq, sh68_0, sh68_1, sh68_2, sh68_3, sh68_4, ↓w_iload_4, ↓w_aload_0, ↓w_gf0, ↓w_icge, ↓w_iload_3, ↓w_ifeq, ↓w_iload_1, ↓w_ishr, ↓w_iconst, ↓w_iand, ↓w_icne, ↓w_lconst0, ↓w_lstore_5, ↓w_istore_7, o1]
      repeat' (first
        | (apply And.intro)
        | (with_reducible refine bX12_meetsAll_9 ?_; simp (disch := first | omega | decide) only [w_nl0, w_nli, w_nlr, ↓w_ts1, ↓w_ts0, w_rcv, w_rfv, w_cs, true_and, and_true, List.length_nil, List.length_cons, Nat.reduceAdd, Nat.reduceLeDiff, Nat.zero_le, Nat.reduceLT, ↓w_nil, ix_nI, nI_leP, nI_ltP, nI_eqP, nI_1, ↓i_inN, i_inN, l_le, l_lt, l_eq, r_le, r_lt, r_eq, sh68_0, sh68_1, sh68_2, sh68_3, sh68_4, ↓w_iconst, ↓w_istore_3, ↓w_istore_4, ↓w_iload_4, ↓w_aload_0, ↓w_gf0, ↓w_icge, ↓w_iload_3, ↓w_ifeq, ↓w_iload_1, ↓w_ishr, ↓w_iand, ↓w_icne, ↓w_lconst0, ↓w_lstore_5, ↓w_istore_7, ↓w_iload_7, ↓w_lload_5, ↓w_gf3, ↓w_iaload, ↓w_icgt, ↓w_iload_2, ↓w_iadd, ↓w_isub, ↓w_idiv, ↓w_i2l, ↓w_goto, ↓w_ladd, ↓w_iinc_7, ↓w_lcmp, ↓w_ifgt, ↓w_iinc_4, ↓w_zret])
        | (simp only [w_in])
        | (intro _))
      all_goals grind
    | succ j ih =>
      intro k a b hk hq
      have hbt := bt (x := x) (i := k) hx (by omega)
      obtain ⟨u1, u2, u3, u4⟩ := o3 k (by omega)
      by_cases c : x.testBit k = true
      · rw [if_pos c] at hbt
        have hsb : sm (fun i => if x.testBit i = true ∧ dy i ≤ dy k then tkV cp r i else 0) n ≤ 100000 * n := by
          refine sm_bd (fun i hi => ?_)
          split
          · exact tk_bd hr1 (o3 i hi).2.2.2
          · exact Nat.zero_le _
        have hfin : UU g (d - 1) 281 kX12_meetsAll (pm_rm d 281) Q 2 [some (.ref 68), some (.int (nI x)), some (.int (nI r)), some (.int 1), some (.int (nI k)), some (.long (Int64.ofNat (sm (fun i => if x.testBit i = true ∧ dy i ≤ dy k then tkV cp r i else 0) n))), none, some (.int (nI n))] [] SH I J (0, 0) := by
          by_cases c2 : y + sm (fun i => if x.testBit i = true ∧ dy i ≤ dy k then tkV cp r i else 0) n ≤ dy k
          · have w := fun a b => ih (k + 1) a b (by omega) (fun q hq1 hq2 => by
              by_cases e : q = k
              · rw [e]; exact c2
              · exact hq q (by omega) hq2)
            have hcmp : (nI y).toInt64 + Int64.ofNat (sm (fun i => if x.testBit i = true ∧ dy i ≤ dy k then tkV cp r i else 0) n) ≤ (nI (dy k)).toInt64 := by
              rw [nI_L (by omega), nI_L (by omega), ← Int64.ofNat_add]
              exact (Int64.ofNat_le_iff_le (by omega) (by omega)).2 c2
            generalize sm (fun i => if x.testBit i = true ∧ dy i ≤ dy k then tkV cp r i else 0) n = G at *
            clear h0 h1 hq o3 keyF ih c2
            refine bX12_meetsAll_2 ?_
            simp (disch := first | omega | decide) only [w_nl0, w_nli, w_nlr, ↓w_ts1, ↓w_ts0, w_rcv, w_rfv, w_cs, true_and, and_true, List.length_nil, List.length_cons, Nat.reduceAdd, Nat.reduceLeDiff, Nat.zero_le, Nat.reduceLT, ↓w_nil, ix_nI, nI_leP, nI_ltP, nI_eqP, nI_1, ↓i_inN, i_inN, l_le, l_lt, l_eq, r_le, r_lt, r_eq, sh68_0, sh68_1, sh68_2, sh68_3, sh68_4, ↓w_iload_7, ↓w_aload_0, ↓w_gf0, ↓w_icge, ↓w_lload_5, ↓w_iload_1, ↓w_ishr, ↓w_iconst, ↓w_iand, ↓w_icne, ↓w_gf3, ↓w_iaload, ↓w_iload_4, ↓w_icgt, ↓w_iload_2, ↓w_iadd, ↓w_isub, ↓w_idiv, ↓w_i2l, ↓w_goto, o1]
            repeat' (first
              | (apply And.intro)
              | (with_reducible refine bX12_meetsAll_5 ?_; simp (disch := first | omega | decide) only [w_nl0, w_nli, w_nlr, ↓w_ts1, ↓w_ts0, w_rcv, w_rfv, w_cs, true_and, and_true, List.length_nil, List.length_cons, Nat.reduceAdd, Nat.reduceLeDiff, Nat.zero_le, Nat.reduceLT, ↓w_nil, ix_nI, nI_leP, nI_ltP, nI_eqP, nI_1, ↓i_inN, i_inN, l_le, l_lt, l_eq, r_le, r_lt, r_eq, sh68_0, sh68_1, sh68_2, sh68_3, sh68_4, ↓w_iconst, ↓w_istore_3, ↓w_istore_4, ↓w_iload_4, ↓w_aload_0, ↓w_gf0, ↓w_icge, ↓w_iload_3, ↓w_ifeq, ↓w_iload_1, ↓w_ishr, ↓w_iand, ↓w_icne, ↓w_lconst0, ↓w_lstore_5, ↓w_istore_7, ↓w_iload_7, ↓w_lload_5, ↓w_gf3, ↓w_iaload, ↓w_icgt, ↓w_iload_2, ↓w_iadd, ↓w_isub, ↓w_idiv, ↓w_i2l, ↓w_goto, ↓w_ladd, ↓w_iinc_7, ↓w_lcmp, ↓w_ifgt, ↓w_iinc_4, ↓w_zret, o2, u1, lg_gt0, nI_add])
              | (with_reducible refine bX12_meetsAll_6 ?_; simp (disch := first | omega | decide) only [w_nl0, w_nli, w_nlr, ↓w_ts1, ↓w_ts0, w_rcv, w_rfv, w_cs, true_and, and_true, List.length_nil, List.length_cons, Nat.reduceAdd, Nat.reduceLeDiff, Nat.zero_le, Nat.reduceLT, ↓w_nil, ix_nI, nI_leP, nI_ltP, nI_eqP, nI_1, ↓i_inN, i_inN, l_le, l_lt, l_eq, r_le, r_lt, r_eq, sh68_0, sh68_1, sh68_2, sh68_3, sh68_4, ↓w_iconst, ↓w_istore_3, ↓w_istore_4, ↓w_iload_4, ↓w_aload_0, ↓w_gf0, ↓w_icge, ↓w_iload_3, ↓w_ifeq, ↓w_iload_1, ↓w_ishr, ↓w_iand, ↓w_icne, ↓w_lconst0, ↓w_lstore_5, ↓w_istore_7, ↓w_iload_7, ↓w_lload_5, ↓w_gf3, ↓w_iaload, ↓w_icgt, ↓w_iload_2, ↓w_iadd, ↓w_isub, ↓w_idiv, ↓w_i2l, ↓w_goto, ↓w_ladd, ↓w_iinc_7, ↓w_lcmp, ↓w_ifgt, ↓w_iinc_4, ↓w_zret, o2, u1, lg_gt0, nI_add])
              | (with_reducible refine bX12_meetsAll_7 ?_; simp (disch := first | omega | decide) only [w_nl0, w_nli, w_nlr, ↓w_ts1, ↓w_ts0, w_rcv, w_rfv, w_cs, true_and, and_true, List.length_nil, List.length_cons, Nat.reduceAdd, Nat.reduceLeDiff, Nat.zero_le, Nat.reduceLT, ↓w_nil, ix_nI, nI_leP, nI_ltP, nI_eqP, nI_1, ↓i_inN, i_inN, l_le, l_lt, l_eq, r_le, r_lt, r_eq, sh68_0, sh68_1, sh68_2, sh68_3, sh68_4, ↓w_iconst, ↓w_istore_3, ↓w_istore_4, ↓w_iload_4, ↓w_aload_0, ↓w_gf0, ↓w_icge, ↓w_iload_3, ↓w_ifeq, ↓w_iload_1, ↓w_ishr, ↓w_iand, ↓w_icne, ↓w_lconst0, ↓w_lstore_5, ↓w_istore_7, ↓w_iload_7, ↓w_lload_5, ↓w_gf3, ↓w_iaload, ↓w_icgt, ↓w_iload_2, ↓w_iadd, ↓w_isub, ↓w_idiv, ↓w_i2l, ↓w_goto, ↓w_ladd, ↓w_iinc_7, ↓w_lcmp, ↓w_ifgt, ↓w_iinc_4, ↓w_zret, o2, u1, lg_gt0, nI_add])
              | (with_reducible refine bX12_meetsAll_8 ?_; simp (disch := first | omega | decide) only [w_nl0, w_nli, w_nlr, ↓w_ts1, ↓w_ts0, w_rcv, w_rfv, w_cs, true_and, and_true, List.length_nil, List.length_cons, Nat.reduceAdd, Nat.reduceLeDiff, Nat.zero_le, Nat.reduceLT, ↓w_nil, ix_nI, nI_leP, nI_ltP, nI_eqP, nI_1, ↓i_inN, i_inN, l_le, l_lt, l_eq, r_le, r_lt, r_eq, sh68_0, sh68_1, sh68_2, sh68_3, sh68_4, ↓w_iconst, ↓w_istore_3, ↓w_istore_4, ↓w_iload_4, ↓w_aload_0, ↓w_gf0, ↓w_icge, ↓w_iload_3, ↓w_ifeq, ↓w_iload_1, ↓w_ishr, ↓w_iand, ↓w_icne, ↓w_lconst0, ↓w_lstore_5, ↓w_istore_7, ↓w_iload_7, ↓w_lload_5, ↓w_gf3, ↓w_iaload, ↓w_icgt, ↓w_iload_2, ↓w_iadd, ↓w_isub, ↓w_idiv, ↓w_i2l, ↓w_goto, ↓w_ladd, ↓w_iinc_7, ↓w_lcmp, ↓w_ifgt, ↓w_iinc_4, ↓w_zret, o2, u1, lg_gt0, nI_add])
              | (simp only [w_in])
              | (intro _))
            all_goals grind
          · have w := fun a b => keyF (k + 1) a b (by omega) (fun z => c2 (z k (by omega) c))
            have hcmp : ¬ (nI y).toInt64 + Int64.ofNat (sm (fun i => if x.testBit i = true ∧ dy i ≤ dy k then tkV cp r i else 0) n) ≤ (nI (dy k)).toInt64 := by
              rw [nI_L (by omega), nI_L (by omega), ← Int64.ofNat_add]
              exact fun z => c2 ((Int64.ofNat_le_iff_le (by omega) (by omega)).1 z)
            generalize sm (fun i => if x.testBit i = true ∧ dy i ≤ dy k then tkV cp r i else 0) n = G at *
            clear h0 h1 hq o3 keyF ih c2
            refine bX12_meetsAll_2 ?_
            simp (disch := first | omega | decide) only [w_nl0, w_nli, w_nlr, ↓w_ts1, ↓w_ts0, w_rcv, w_rfv, w_cs, true_and, and_true, List.length_nil, List.length_cons, Nat.reduceAdd, Nat.reduceLeDiff, Nat.zero_le, Nat.reduceLT, ↓w_nil, ix_nI, nI_leP, nI_ltP, nI_eqP, nI_1, ↓i_inN, i_inN, l_le, l_lt, l_eq, r_le, r_lt, r_eq, sh68_0, sh68_1, sh68_2, sh68_3, sh68_4, ↓w_iload_7, ↓w_aload_0, ↓w_gf0, ↓w_icge, ↓w_lload_5, ↓w_iload_1, ↓w_ishr, ↓w_iconst, ↓w_iand, ↓w_icne, ↓w_gf3, ↓w_iaload, ↓w_iload_4, ↓w_icgt, ↓w_iload_2, ↓w_iadd, ↓w_isub, ↓w_idiv, ↓w_i2l, ↓w_goto, o1]
            repeat' (first
              | (apply And.intro)
              | (with_reducible refine bX12_meetsAll_5 ?_; simp (disch := first | omega | decide) only [w_nl0, w_nli, w_nlr, ↓w_ts1, ↓w_ts0, w_rcv, w_rfv, w_cs, true_and, and_true, List.length_nil, List.length_cons, Nat.reduceAdd, Nat.reduceLeDiff, Nat.zero_le, Nat.reduceLT, ↓w_nil, ix_nI, nI_leP, nI_ltP, nI_eqP, nI_1, ↓i_inN, i_inN, l_le, l_lt, l_eq, r_le, r_lt, r_eq, sh68_0, sh68_1, sh68_2, sh68_3, sh68_4, ↓w_iconst, ↓w_istore_3, ↓w_istore_4, ↓w_iload_4, ↓w_aload_0, ↓w_gf0, ↓w_icge, ↓w_iload_3, ↓w_ifeq, ↓w_iload_1, ↓w_ishr, ↓w_iand, ↓w_icne, ↓w_lconst0, ↓w_lstore_5, ↓w_istore_7, ↓w_iload_7, ↓w_lload_5, ↓w_gf3, ↓w_iaload, ↓w_icgt, ↓w_iload_2, ↓w_iadd, ↓w_isub, ↓w_idiv, ↓w_i2l, ↓w_goto, ↓w_ladd, ↓w_iinc_7, ↓w_lcmp, ↓w_ifgt, ↓w_iinc_4, ↓w_zret, o2, u1, lg_gt0, nI_add])
              | (with_reducible refine bX12_meetsAll_6 ?_; simp (disch := first | omega | decide) only [w_nl0, w_nli, w_nlr, ↓w_ts1, ↓w_ts0, w_rcv, w_rfv, w_cs, true_and, and_true, List.length_nil, List.length_cons, Nat.reduceAdd, Nat.reduceLeDiff, Nat.zero_le, Nat.reduceLT, ↓w_nil, ix_nI, nI_leP, nI_ltP, nI_eqP, nI_1, ↓i_inN, i_inN, l_le, l_lt, l_eq, r_le, r_lt, r_eq, sh68_0, sh68_1, sh68_2, sh68_3, sh68_4, ↓w_iconst, ↓w_istore_3, ↓w_istore_4, ↓w_iload_4, ↓w_aload_0, ↓w_gf0, ↓w_icge, ↓w_iload_3, ↓w_ifeq, ↓w_iload_1, ↓w_ishr, ↓w_iand, ↓w_icne, ↓w_lconst0, ↓w_lstore_5, ↓w_istore_7, ↓w_iload_7, ↓w_lload_5, ↓w_gf3, ↓w_iaload, ↓w_icgt, ↓w_iload_2, ↓w_iadd, ↓w_isub, ↓w_idiv, ↓w_i2l, ↓w_goto, ↓w_ladd, ↓w_iinc_7, ↓w_lcmp, ↓w_ifgt, ↓w_iinc_4, ↓w_zret, o2, u1, lg_gt0, nI_add])
              | (with_reducible refine bX12_meetsAll_7 ?_; simp (disch := first | omega | decide) only [w_nl0, w_nli, w_nlr, ↓w_ts1, ↓w_ts0, w_rcv, w_rfv, w_cs, true_and, and_true, List.length_nil, List.length_cons, Nat.reduceAdd, Nat.reduceLeDiff, Nat.zero_le, Nat.reduceLT, ↓w_nil, ix_nI, nI_leP, nI_ltP, nI_eqP, nI_1, ↓i_inN, i_inN, l_le, l_lt, l_eq, r_le, r_lt, r_eq, sh68_0, sh68_1, sh68_2, sh68_3, sh68_4, ↓w_iconst, ↓w_istore_3, ↓w_istore_4, ↓w_iload_4, ↓w_aload_0, ↓w_gf0, ↓w_icge, ↓w_iload_3, ↓w_ifeq, ↓w_iload_1, ↓w_ishr, ↓w_iand, ↓w_icne, ↓w_lconst0, ↓w_lstore_5, ↓w_istore_7, ↓w_iload_7, ↓w_lload_5, ↓w_gf3, ↓w_iaload, ↓w_icgt, ↓w_iload_2, ↓w_iadd, ↓w_isub, ↓w_idiv, ↓w_i2l, ↓w_goto, ↓w_ladd, ↓w_iinc_7, ↓w_lcmp, ↓w_ifgt, ↓w_iinc_4, ↓w_zret, o2, u1, lg_gt0, nI_add])
              | (with_reducible refine bX12_meetsAll_8 ?_; simp (disch := first | omega | decide) only [w_nl0, w_nli, w_nlr, ↓w_ts1, ↓w_ts0, w_rcv, w_rfv, w_cs, true_and, and_true, List.length_nil, List.length_cons, Nat.reduceAdd, Nat.reduceLeDiff, Nat.zero_le, Nat.reduceLT, ↓w_nil, ix_nI, nI_leP, nI_ltP, nI_eqP, nI_1, ↓i_inN, i_inN, l_le, l_lt, l_eq, r_le, r_lt, r_eq, sh68_0, sh68_1, sh68_2, sh68_3, sh68_4, ↓w_iconst, ↓w_istore_3, ↓w_istore_4, ↓w_iload_4, ↓w_aload_0, ↓w_gf0, ↓w_icge, ↓w_iload_3, ↓w_ifeq, ↓w_iload_1, ↓w_ishr, ↓w_iand, ↓w_icne, ↓w_lconst0, ↓w_lstore_5, ↓w_istore_7, ↓w_iload_7, ↓w_lload_5, ↓w_gf3, ↓w_iaload, ↓w_icgt, ↓w_iload_2, ↓w_iadd, ↓w_isub, ↓w_idiv, ↓w_i2l, ↓w_goto, ↓w_ladd, ↓w_iinc_7, ↓w_lcmp, ↓w_ifgt, ↓w_iinc_4, ↓w_zret, o2, u1, lg_gt0, nI_add])
              | (simp only [w_in])
              | (intro _))
            all_goals grind
        have hloop : UU g (d - 1) 281 kX12_meetsAll (pm_rm d 281) Q 2 [some (.ref 68), some (.int (nI x)), some (.int (nI r)), some (.int 1), some (.int (nI k)), some (.long 0), none, some (.int 0)] [] SH I J (0, 0) := by
          have e0 : ∀ q, itr (fun i (z : Nat) => z + (if x.testBit i = true ∧ dy i ≤ dy k then tkV cp r i else 0)) 0 q = sm (fun i => if x.testBit i = true ∧ dy i ≤ dy k then tkV cp r i else 0) q := by
            intro q
            induction q with
            | zero => rfl
            | succ q ihq => rw [itr_s, ihq]; rfl
          refine pm_for (f := fun i (z : Nat) => z + (if x.testBit i = true ∧ dy i ≤ dy k then tkV cp r i else 0)) (U := fun q (z : Nat) => UU g (d - 1) 281 kX12_meetsAll (pm_rm d 281) Q 2 [some (.ref 68), some (.int (nI x)), some (.int (nI r)), some (.int 1), some (.int (nI k)), some (.long (Int64.ofNat z)), none, some (.int (nI q))] [] SH I J (0, 0)) (a := 0) n (fun q z hqn hz w => ?_) (by rw [e0]; exact hfin)
          have hbq := bt (x := x) (i := q) hx (by omega)
          obtain ⟨t1, t2, t3, t4⟩ := o3 q hqn
          have htk := tk_nI (cp := cp) (i := q) hr1 hr2 t4
          have htk2 : (nI (cp q + r) - 1) / nI r = nI (tkV cp r q) := by rw [← nI_add]; exact htk
          have htb := tk_bd (cp := cp) (i := q) hr1 t4
          have hr0 : ¬ nI r = 0 := by
            intro e
            have := nI_inj (a := r) (b := 0) (by omega) (by omega) e
            omega
          by_cases cq : x.testBit q = true
          · rw [if_pos cq] at hbq
            by_cases cd : dy q ≤ dy k
            · rw [if_pos ⟨cq, cd⟩, Int64.ofNat_add, ← nI_L (n := tkV cp r q) (by omega)] at w
              clear h0 h1 hq o3 keyF ih hfin e0 hz c cq
              refine bX12_meetsAll_2 ?_
              simp (disch := first | omega | decide) only [w_nl0, w_nli, w_nlr, ↓w_ts1, ↓w_ts0, w_rcv, w_rfv, w_cs, true_and, and_true, List.length_nil, List.length_cons, Nat.reduceAdd, Nat.reduceLeDiff, Nat.zero_le, Nat.reduceLT, ↓w_nil, ix_nI, nI_leP, nI_ltP, nI_eqP, nI_1, ↓i_inN, i_inN, l_le, l_lt, l_eq, r_le, r_lt, r_eq, sh68_0, sh68_1, sh68_2, sh68_3, sh68_4, ↓w_iload_7, ↓w_aload_0, ↓w_gf0, ↓w_icge, ↓w_lload_5, ↓w_iload_1, ↓w_ishr, ↓w_iconst, ↓w_iand, ↓w_icne, ↓w_gf3, ↓w_iaload, ↓w_iload_4, ↓w_icgt, ↓w_iload_2, ↓w_iadd, ↓w_isub, ↓w_idiv, ↓w_i2l, ↓w_goto, o1, hbq, t1, u1]
              repeat' (first
                | (apply And.intro)
                | (with_reducible refine bX12_meetsAll_3 ?_; simp (disch := first | omega | decide) only [w_nl0, w_nli, w_nlr, ↓w_ts1, ↓w_ts0, w_rcv, w_rfv, w_cs, true_and, and_true, List.length_nil, List.length_cons, Nat.reduceAdd, Nat.reduceLeDiff, Nat.zero_le, Nat.reduceLT, ↓w_nil, ix_nI, nI_leP, nI_ltP, nI_eqP, nI_1, ↓i_inN, i_inN, l_le, l_lt, l_eq, r_le, r_lt, r_eq, sh68_0, sh68_1, sh68_2, sh68_3, sh68_4, ↓w_iconst, ↓w_istore_3, ↓w_istore_4, ↓w_iload_4, ↓w_aload_0, ↓w_gf0, ↓w_icge, ↓w_iload_3, ↓w_ifeq, ↓w_iload_1, ↓w_ishr, ↓w_iand, ↓w_icne, ↓w_lconst0, ↓w_lstore_5, ↓w_istore_7, ↓w_iload_7, ↓w_lload_5, ↓w_gf3, ↓w_iaload, ↓w_icgt, ↓w_iload_2, ↓w_iadd, ↓w_isub, ↓w_idiv, ↓w_i2l, ↓w_goto, ↓w_ladd, ↓w_iinc_7, ↓w_lcmp, ↓w_ifgt, ↓w_iinc_4, ↓w_zret, t1, u1, t3, htk, htk2, hbq, nI_add])
                | (with_reducible refine bX12_meetsAll_4 ?_; simp (disch := first | omega | decide) only [w_nl0, w_nli, w_nlr, ↓w_ts1, ↓w_ts0, w_rcv, w_rfv, w_cs, true_and, and_true, List.length_nil, List.length_cons, Nat.reduceAdd, Nat.reduceLeDiff, Nat.zero_le, Nat.reduceLT, ↓w_nil, ix_nI, nI_leP, nI_ltP, nI_eqP, nI_1, ↓i_inN, i_inN, l_le, l_lt, l_eq, r_le, r_lt, r_eq, sh68_0, sh68_1, sh68_2, sh68_3, sh68_4, ↓w_iconst, ↓w_istore_3, ↓w_istore_4, ↓w_iload_4, ↓w_aload_0, ↓w_gf0, ↓w_icge, ↓w_iload_3, ↓w_ifeq, ↓w_iload_1, ↓w_ishr, ↓w_iand, ↓w_icne, ↓w_lconst0, ↓w_lstore_5, ↓w_istore_7, ↓w_iload_7, ↓w_lload_5, ↓w_gf3, ↓w_iaload, ↓w_icgt, ↓w_iload_2, ↓w_iadd, ↓w_isub, ↓w_idiv, ↓w_i2l, ↓w_goto, ↓w_ladd, ↓w_iinc_7, ↓w_lcmp, ↓w_ifgt, ↓w_iinc_4, ↓w_zret, t1, u1, t3, htk, htk2, hbq, nI_add])
                | (simp only [w_in])
                | (intro _))
              all_goals grind
            · rw [if_neg (fun z => cd z.2), Nat.add_zero] at w
              clear h0 h1 hq o3 keyF ih hfin e0 hz c cq
              refine bX12_meetsAll_2 ?_
              simp (disch := first | omega | decide) only [w_nl0, w_nli, w_nlr, ↓w_ts1, ↓w_ts0, w_rcv, w_rfv, w_cs, true_and, and_true, List.length_nil, List.length_cons, Nat.reduceAdd, Nat.reduceLeDiff, Nat.zero_le, Nat.reduceLT, ↓w_nil, ix_nI, nI_leP, nI_ltP, nI_eqP, nI_1, ↓i_inN, i_inN, l_le, l_lt, l_eq, r_le, r_lt, r_eq, sh68_0, sh68_1, sh68_2, sh68_3, sh68_4, ↓w_iload_7, ↓w_aload_0, ↓w_gf0, ↓w_icge, ↓w_lload_5, ↓w_iload_1, ↓w_ishr, ↓w_iconst, ↓w_iand, ↓w_icne, ↓w_gf3, ↓w_iaload, ↓w_iload_4, ↓w_icgt, ↓w_iload_2, ↓w_iadd, ↓w_isub, ↓w_idiv, ↓w_i2l, ↓w_goto, o1, hbq, t1, u1]
              repeat' (first
                | (apply And.intro)
                | (with_reducible refine bX12_meetsAll_3 ?_; simp (disch := first | omega | decide) only [w_nl0, w_nli, w_nlr, ↓w_ts1, ↓w_ts0, w_rcv, w_rfv, w_cs, true_and, and_true, List.length_nil, List.length_cons, Nat.reduceAdd, Nat.reduceLeDiff, Nat.zero_le, Nat.reduceLT, ↓w_nil, ix_nI, nI_leP, nI_ltP, nI_eqP, nI_1, ↓i_inN, i_inN, l_le, l_lt, l_eq, r_le, r_lt, r_eq, sh68_0, sh68_1, sh68_2, sh68_3, sh68_4, ↓w_iconst, ↓w_istore_3, ↓w_istore_4, ↓w_iload_4, ↓w_aload_0, ↓w_gf0, ↓w_icge, ↓w_iload_3, ↓w_ifeq, ↓w_iload_1, ↓w_ishr, ↓w_iand, ↓w_icne, ↓w_lconst0, ↓w_lstore_5, ↓w_istore_7, ↓w_iload_7, ↓w_lload_5, ↓w_gf3, ↓w_iaload, ↓w_icgt, ↓w_iload_2, ↓w_iadd, ↓w_isub, ↓w_idiv, ↓w_i2l, ↓w_goto, ↓w_ladd, ↓w_iinc_7, ↓w_lcmp, ↓w_ifgt, ↓w_iinc_4, ↓w_zret, t1, u1, hbq, nI_add, Int64.add_zero])
                | (with_reducible refine bX12_meetsAll_4 ?_; simp (disch := first | omega | decide) only [w_nl0, w_nli, w_nlr, ↓w_ts1, ↓w_ts0, w_rcv, w_rfv, w_cs, true_and, and_true, List.length_nil, List.length_cons, Nat.reduceAdd, Nat.reduceLeDiff, Nat.zero_le, Nat.reduceLT, ↓w_nil, ix_nI, nI_leP, nI_ltP, nI_eqP, nI_1, ↓i_inN, i_inN, l_le, l_lt, l_eq, r_le, r_lt, r_eq, sh68_0, sh68_1, sh68_2, sh68_3, sh68_4, ↓w_iconst, ↓w_istore_3, ↓w_istore_4, ↓w_iload_4, ↓w_aload_0, ↓w_gf0, ↓w_icge, ↓w_iload_3, ↓w_ifeq, ↓w_iload_1, ↓w_ishr, ↓w_iand, ↓w_icne, ↓w_lconst0, ↓w_lstore_5, ↓w_istore_7, ↓w_iload_7, ↓w_lload_5, ↓w_gf3, ↓w_iaload, ↓w_icgt, ↓w_iload_2, ↓w_iadd, ↓w_isub, ↓w_idiv, ↓w_i2l, ↓w_goto, ↓w_ladd, ↓w_iinc_7, ↓w_lcmp, ↓w_ifgt, ↓w_iinc_4, ↓w_zret, t1, u1, hbq, nI_add, Int64.add_zero])
                | (simp only [w_in])
                | (intro _))
              all_goals grind
          · rw [if_neg cq] at hbq
            rw [if_neg (fun z => cq z.1), Nat.add_zero] at w
            clear h0 h1 hq o3 keyF ih hfin e0 hz
            refine bX12_meetsAll_2 ?_
            simp (disch := first | omega | decide) only [w_nl0, w_nli, w_nlr, ↓w_ts1, ↓w_ts0, w_rcv, w_rfv, w_cs, true_and, and_true, List.length_nil, List.length_cons, Nat.reduceAdd, Nat.reduceLeDiff, Nat.zero_le, Nat.reduceLT, ↓w_nil, ix_nI, nI_leP, nI_ltP, nI_eqP, nI_1, ↓i_inN, i_inN, l_le, l_lt, l_eq, r_le, r_lt, r_eq, sh68_0, sh68_1, sh68_2, sh68_3, sh68_4, ↓w_iload_7, ↓w_aload_0, ↓w_gf0, ↓w_icge, ↓w_lload_5, ↓w_iload_1, ↓w_ishr, ↓w_iconst, ↓w_iand, ↓w_icne, ↓w_gf3, ↓w_iaload, ↓w_iload_4, ↓w_icgt, ↓w_iload_2, ↓w_iadd, ↓w_isub, ↓w_idiv, ↓w_i2l, ↓w_goto, o1, hbq]
            repeat' (first
              | (apply And.intro)
              | (with_reducible refine bX12_meetsAll_3 ?_; simp (disch := first | omega | decide) only [w_nl0, w_nli, w_nlr, ↓w_ts1, ↓w_ts0, w_rcv, w_rfv, w_cs, true_and, and_true, List.length_nil, List.length_cons, Nat.reduceAdd, Nat.reduceLeDiff, Nat.zero_le, Nat.reduceLT, ↓w_nil, ix_nI, nI_leP, nI_ltP, nI_eqP, nI_1, ↓i_inN, i_inN, l_le, l_lt, l_eq, r_le, r_lt, r_eq, sh68_0, sh68_1, sh68_2, sh68_3, sh68_4, ↓w_iconst, ↓w_istore_3, ↓w_istore_4, ↓w_iload_4, ↓w_aload_0, ↓w_gf0, ↓w_icge, ↓w_iload_3, ↓w_ifeq, ↓w_iload_1, ↓w_ishr, ↓w_iand, ↓w_icne, ↓w_lconst0, ↓w_lstore_5, ↓w_istore_7, ↓w_iload_7, ↓w_lload_5, ↓w_gf3, ↓w_iaload, ↓w_icgt, ↓w_iload_2, ↓w_iadd, ↓w_isub, ↓w_idiv, ↓w_i2l, ↓w_goto, ↓w_ladd, ↓w_iinc_7, ↓w_lcmp, ↓w_ifgt, ↓w_iinc_4, ↓w_zret, hbq, nI_add, Int64.add_zero])
              | (with_reducible refine bX12_meetsAll_4 ?_; simp (disch := first | omega | decide) only [w_nl0, w_nli, w_nlr, ↓w_ts1, ↓w_ts0, w_rcv, w_rfv, w_cs, true_and, and_true, List.length_nil, List.length_cons, Nat.reduceAdd, Nat.reduceLeDiff, Nat.zero_le, Nat.reduceLT, ↓w_nil, ix_nI, nI_leP, nI_ltP, nI_eqP, nI_1, ↓i_inN, i_inN, l_le, l_lt, l_eq, r_le, r_lt, r_eq, sh68_0, sh68_1, sh68_2, sh68_3, sh68_4, ↓w_iconst, ↓w_istore_3, ↓w_istore_4, ↓w_iload_4, ↓w_aload_0, ↓w_gf0, ↓w_icge, ↓w_iload_3, ↓w_ifeq, ↓w_iload_1, ↓w_ishr, ↓w_iand, ↓w_icne, ↓w_lconst0, ↓w_lstore_5, ↓w_istore_7, ↓w_iload_7, ↓w_lload_5, ↓w_gf3, ↓w_iaload, ↓w_icgt, ↓w_iload_2, ↓w_iadd, ↓w_isub, ↓w_idiv, ↓w_i2l, ↓w_goto, ↓w_ladd, ↓w_iinc_7, ↓w_lcmp, ↓w_ifgt, ↓w_iinc_4, ↓w_zret, hbq, nI_add, Int64.add_zero])
              | (simp only [w_in])
              | (intro _))
            all_goals grind
        clear h0 h1 hq o3 keyF ih hfin
        refine bX12_meetsAll_1 ?_
        simp (disch := first | omega | decide) only [w_nl0, w_nli, w_nlr, ↓w_ts1, ↓w_ts0, w_rcv, w_rfv, w_cs, true_and, and_true, List.length_nil, List.length_cons, Nat.reduceAdd, Nat.reduceLeDiff, Nat.zero_le, Nat.reduceLT, ↓w_nil, ix_nI, nI_leP, nI_ltP, nI_eqP, nI_1, ↓i_inN, i_inN, l_le, l_lt, l_eq, r_le, r_lt, r_eq, sh68_0, sh68_1, sh68_2, sh68_3, sh68_4, ↓w_iload_4, ↓w_aload_0, ↓w_gf0, ↓w_icge, ↓w_iload_3, ↓w_ifeq, ↓w_iload_1, ↓w_ishr, ↓w_iconst, ↓w_iand, ↓w_icne, ↓w_lconst0, ↓w_lstore_5, ↓w_istore_7, o1, hbt]
        repeat' (first
          | (apply And.intro)
          | (simp only [w_in])
          | (intro _))
        all_goals grind
      · rw [if_neg c] at hbt
        have w := fun a b => ih (k + 1) a b (by omega) (fun q hq1 hq2 => by
            by_cases e : q = k
            · rw [e] at hq2; exact absurd hq2 c
            · exact hq q (by omega) hq2)
        clear h0 h1 hq o3 keyF ih
        refine bX12_meetsAll_1 ?_
        simp (disch := first | omega | decide) only [w_nl0, w_nli, w_nlr, ↓w_ts1, ↓w_ts0, w_rcv, w_rfv, w_cs, true_and, and_true, List.length_nil, List.length_cons, Nat.reduceAdd, Nat.reduceLeDiff, Nat.zero_le, Nat.reduceLT, ↓w_nil, ix_nI, nI_leP, nI_ltP, nI_eqP, nI_1, ↓i_inN, i_inN, l_le, l_lt, l_eq, r_le, r_lt, r_eq, sh68_0, sh68_1, sh68_2, sh68_3, sh68_4, ↓w_iload_4, ↓w_aload_0, ↓w_gf0, ↓w_icge, ↓w_iload_3, ↓w_ifeq, ↓w_iload_1, ↓w_ishr, ↓w_iconst, ↓w_iand, ↓w_icne, ↓w_lconst0, ↓w_lstore_5, ↓w_istore_7, o1, hbt]
        repeat' (first
          | (apply And.intro)
          | (with_reducible refine bX12_meetsAll_8 ?_; simp (disch := first | omega | decide) only [w_nl0, w_nli, w_nlr, ↓w_ts1, ↓w_ts0, w_rcv, w_rfv, w_cs, true_and, and_true, List.length_nil, List.length_cons, Nat.reduceAdd, Nat.reduceLeDiff, Nat.zero_le, Nat.reduceLT, ↓w_nil, ix_nI, nI_leP, nI_ltP, nI_eqP, nI_1, ↓i_inN, i_inN, l_le, l_lt, l_eq, r_le, r_lt, r_eq, sh68_0, sh68_1, sh68_2, sh68_3, sh68_4, ↓w_iconst, ↓w_istore_3, ↓w_istore_4, ↓w_iload_4, ↓w_aload_0, ↓w_gf0, ↓w_icge, ↓w_iload_3, ↓w_ifeq, ↓w_iload_1, ↓w_ishr, ↓w_iand, ↓w_icne, ↓w_lconst0, ↓w_lstore_5, ↓w_istore_7, ↓w_iload_7, ↓w_lload_5, ↓w_gf3, ↓w_iaload, ↓w_icgt, ↓w_iload_2, ↓w_iadd, ↓w_isub, ↓w_idiv, ↓w_i2l, ↓w_goto, ↓w_ladd, ↓w_iinc_7, ↓w_lcmp, ↓w_ifgt, ↓w_iinc_4, ↓w_zret, hbt, nI_add])
          | (simp only [w_in])
          | (intro _))
        all_goals grind
  have w : UU g (d - 1) 281 kX12_meetsAll (pm_rm d 281) Q 1 [some (.ref 68), some (.int (nI x)), some (.int (nI r)), some (.int 1), some (.int 0), none, none, none] [] SH I J (0, 0) := key n 0 none none (by omega) (fun q hq => by omega)
  clear key keyF h0 h1 o3
  refine eX12_meetsAll (by omega) ?_
  repeat' (first
    | (apply And.intro)
    | (with_reducible refine bX12_meetsAll_0 ?_; simp (disch := first | omega | decide) only [w_nl0, w_nli, w_nlr, ↓w_ts1, ↓w_ts0, w_rcv, w_rfv, w_cs, true_and, and_true, List.length_nil, List.length_cons, Nat.reduceAdd, Nat.reduceLeDiff, Nat.zero_le, Nat.reduceLT, ↓w_nil, ix_nI, nI_leP, nI_ltP, nI_eqP, nI_1, ↓i_inN, i_inN, l_le, l_lt, l_eq, r_le, r_lt, r_eq, sh68_0, sh68_1, sh68_2, sh68_3, sh68_4, ↓w_iconst, ↓w_istore_3, ↓w_istore_4, ↓w_iload_4, ↓w_aload_0, ↓w_gf0, ↓w_icge, ↓w_iload_3, ↓w_ifeq, ↓w_iload_1, ↓w_ishr, ↓w_iand, ↓w_icne, ↓w_lconst0, ↓w_lstore_5, ↓w_istore_7, ↓w_iload_7, ↓w_lload_5, ↓w_gf3, ↓w_iaload, ↓w_icgt, ↓w_iload_2, ↓w_iadd, ↓w_isub, ↓w_idiv, ↓w_i2l, ↓w_goto, ↓w_ladd, ↓w_iinc_7, ↓w_lcmp, ↓w_ifgt, ↓w_iinc_4, ↓w_zret])
    | (simp only [w_in])
    | (intro _))
  all_goals grind
end C85
