section C81
variable {g : pm_G} {d : Nat} {Q : pm_Po} {S : pm_SS} {I : pm_MI} {J : pm_ML}
def CC (I : pm_MI) (n : Nat) (dy tk bd : Nat → Nat) : Prop := I 60 7 = nI n ∧ (∀ k, k < n → I 63 k = nI (bd k)) ∧ (∀ i, i < n → I 62 i = nI (dy i) ∧ dy i ≤ 999 ∧ I 64 i = nI (tk i) ∧ tk i ≤ 100000) ∧ byD n dy bd
theorem c_onePress {n x y : Nat} {dy tk bd : Nat → Nat} (hd : 1 ≤ d) (hn : n ≤ 9) (hx : x < 512) (hy : y ≤ 999) (hC : CC I n dy tk bd) (h1 : oneP n y dy tk x → Q (some (.int 1)) SH I J) (h0 : ¬ oneP n y dy tk x → Q (some (.int 0)) SH I J) : pm_C g d 30 [.ref 60, .int (nI x), .int (nI y)] Q SH I J := by
  obtain ⟨hc, hb, hv, hB⟩ := hC
  rw [← opm_iff hB] at h1 h0
  have hg : ∀ k, k ≤ n → sm (fun j => if x.testBit (bd j) = true then tk (bd j) else 0) k ≤ 100000 * k := by
    intro k hk
    refine sm_bd (fun j hj => ?_)
    split
    · exact (hv _ (hB.1 j (by omega))).2.2.2
    · exact Nat.zero_le _
  have key : ∀ j k st, j + k = n → (∀ q, q < k → x.testBit (bd q) = true → y + sm (fun j => if x.testBit (bd j) = true then tk (bd j) else 0) (q + 1) ≤ dy (bd q)) → UU g (d - 1) 30 kX1_onePressMeets (pm_rm d 30) Q 1 [some (.ref 60), some (.int (nI x)), some (.int (nI y)), some (.int (nI (y + sm (fun j => if x.testBit (bd j) = true then tk (bd j) else 0) k))), some (.int (nI k)), st] [] SH I J (0, 0) := by
    intro j
    induction j with
    | zero =>
      intro k st hk hq
      have hkn : k = n := by omega
      subst hkn
      have h1 := h1 hq
      clear h0 hq hb hv hg
      refine bX1_onePressMeets_1 ?_
      simp (disch := first | omega | decide) only [w_nl0, w_nli, w_nlr, ↓w_ts1, ↓w_ts0, w_rcv, w_rfv, w_cs, true_and, and_true, List.length_nil, List.length_cons, Nat.reduceAdd, Nat.reduceLeDiff, Nat.zero_le, Nat.reduceLT, ↓w_nil, ix_nI, nI_leP, nI_ltP, nI_eqP, nI_1, ↓i_inN, i_inN, l_le, l_lt, l_eq, r_le, r_lt, r_eq, sh60, ↓w_iload_4, ↓w_aload_0, ↓w_gf0, ↓w_icge, ↓w_gf3, ↓w_iaload, ↓w_istore_5, ↓w_iload_1, ↓w_iload_5, ↓w_ishr, ↓w_iconst, ↓w_iand, ↓w_ifne, ↓w_goto, hc]
      repeat' (first
        | (apply And.intro)
        | (with_reducible refine bX1_onePressMeets_4 ?_; simp (disch := first | omega | decide) only [w_nl0, w_nli, w_nlr, ↓w_ts1, ↓w_ts0, w_rcv, w_rfv, w_cs, true_and, and_true, List.length_nil, List.length_cons, Nat.reduceAdd, Nat.reduceLeDiff, Nat.zero_le, Nat.reduceLT, ↓w_nil, ix_nI, nI_leP, nI_ltP, nI_eqP, nI_1, ↓i_inN, i_inN, l_le, l_lt, l_eq, r_le, r_lt, r_eq, sh60, ↓w_iload_2, ↓w_istore_3, ↓w_iconst, ↓w_istore_4, ↓w_iload_4, ↓w_aload_0, ↓w_gf0, ↓w_icge, ↓w_gf3, ↓w_iaload, ↓w_istore_5, ↓w_iload_1, ↓w_iload_5, ↓w_ishr, ↓w_iand, ↓w_ifne, ↓w_goto, ↓w_iload_3, ↓w_iadd, ↓w_icle, ↓w_zret, ↓w_iinc_4])
        | (simp only [w_in])
        | (intro _))
      all_goals grind
    | succ j ih =>
      intro k st hk hq
      have hbk := hb k (by omega)
      have hbn := hB.1 k (by omega)
      obtain ⟨v1, v2, v3, v4⟩ := hv (bd k) hbn
      have g1 := hg k (by omega)
      have g2 := hg (k + 1) (by omega)
      have hbt := bt (x := x) (i := bd k) hx (by omega)
      by_cases c : x.testBit (bd k) = true
      · have e : sm (fun j => if x.testBit (bd j) = true then tk (bd j) else 0) (k + 1) = sm (fun j => if x.testBit (bd j) = true then tk (bd j) else 0) k + tk (bd k) := by
          rw [sm, if_pos c]
        by_cases c2 : y + sm (fun j => if x.testBit (bd j) = true then tk (bd j) else 0) (k + 1) ≤ dy (bd k)
        · have w := fun st => ih (k + 1) st (by omega) (fun q hq1 hq2 => by
            by_cases e : q = k
            · rw [e]; exact c2
            · exact hq q (by omega) hq2)
          rw [e] at w c2 g2
          rw [if_pos c] at hbt
          generalize sm (fun j => if x.testBit (bd j) = true then tk (bd j) else 0) k = G at *
          clear h0 h1 hq hb hv hg ih
          have ea : nI (y + G) + nI (tk (bd k)) = nI (y + (G + tk (bd k))) := by rw [nI_add, Nat.add_assoc]
          refine bX1_onePressMeets_1 ?_
          simp (disch := first | omega | decide) only [w_nl0, w_nli, w_nlr, ↓w_ts1, ↓w_ts0, w_rcv, w_rfv, w_cs, true_and, and_true, List.length_nil, List.length_cons, Nat.reduceAdd, Nat.reduceLeDiff, Nat.zero_le, Nat.reduceLT, ↓w_nil, ix_nI, nI_leP, nI_ltP, nI_eqP, nI_1, ↓i_inN, i_inN, l_le, l_lt, l_eq, r_le, r_lt, r_eq, sh60, ↓w_iload_4, ↓w_aload_0, ↓w_gf0, ↓w_icge, ↓w_gf3, ↓w_iaload, ↓w_istore_5, ↓w_iload_1, ↓w_iload_5, ↓w_ishr, ↓w_iconst, ↓w_iand, ↓w_ifne, ↓w_goto, hc, hbk, hbt]
          repeat' (first
            | (apply And.intro)
            | (with_reducible refine bX1_onePressMeets_2 ?_; simp (disch := first | omega | decide) only [w_nl0, w_nli, w_nlr, ↓w_ts1, ↓w_ts0, w_rcv, w_rfv, w_cs, true_and, and_true, List.length_nil, List.length_cons, Nat.reduceAdd, Nat.reduceLeDiff, Nat.zero_le, Nat.reduceLT, ↓w_nil, ix_nI, nI_leP, nI_ltP, nI_eqP, nI_1, ↓i_inN, i_inN, l_le, l_lt, l_eq, r_le, r_lt, r_eq, sh60, ↓w_iload_2, ↓w_istore_3, ↓w_iconst, ↓w_istore_4, ↓w_iload_4, ↓w_aload_0, ↓w_gf0, ↓w_icge, ↓w_gf3, ↓w_iaload, ↓w_istore_5, ↓w_iload_1, ↓w_iload_5, ↓w_ishr, ↓w_iand, ↓w_ifne, ↓w_goto, ↓w_iload_3, ↓w_iadd, ↓w_icle, ↓w_zret, ↓w_iinc_4, hbk, hbt, v1, v3, ea])
            | (with_reducible refine bX1_onePressMeets_3 ?_; simp (disch := first | omega | decide) only [w_nl0, w_nli, w_nlr, ↓w_ts1, ↓w_ts0, w_rcv, w_rfv, w_cs, true_and, and_true, List.length_nil, List.length_cons, Nat.reduceAdd, Nat.reduceLeDiff, Nat.zero_le, Nat.reduceLT, ↓w_nil, ix_nI, nI_leP, nI_ltP, nI_eqP, nI_1, ↓i_inN, i_inN, l_le, l_lt, l_eq, r_le, r_lt, r_eq, sh60, ↓w_iload_2, ↓w_istore_3, ↓w_iconst, ↓w_istore_4, ↓w_iload_4, ↓w_aload_0, ↓w_gf0, ↓w_icge, ↓w_gf3, ↓w_iaload, ↓w_istore_5, ↓w_iload_1, ↓w_iload_5, ↓w_ishr, ↓w_iand, ↓w_ifne, ↓w_goto, ↓w_iload_3, ↓w_iadd, ↓w_icle, ↓w_zret, ↓w_iinc_4, hbk, hbt, v1, v3, ea])
            | (simp only [w_in])
            | (intro _))
          all_goals grind
        · have h0 := h0 (fun z => c2 (z k (by omega) c))
          rw [e] at c2 g2
          rw [if_pos c] at hbt
          generalize sm (fun j => if x.testBit (bd j) = true then tk (bd j) else 0) k = G at *
          clear h1 hq hb hv hg ih
          have ea : nI (y + G) + nI (tk (bd k)) = nI (y + (G + tk (bd k))) := by rw [nI_add, Nat.add_assoc]
          refine bX1_onePressMeets_1 ?_
          simp (disch := first | omega | decide) only [w_nl0, w_nli, w_nlr, ↓w_ts1, ↓w_ts0, w_rcv, w_rfv, w_cs, true_and, and_true, List.length_nil, List.length_cons, Nat.reduceAdd, Nat.reduceLeDiff, Nat.zero_le, Nat.reduceLT, ↓w_nil, ix_nI, nI_leP, nI_ltP, nI_eqP, nI_1, ↓i_inN, i_inN, l_le, l_lt, l_eq, r_le, r_lt, r_eq, sh60, ↓w_iload_4, ↓w_aload_0, ↓w_gf0, ↓w_icge, ↓w_gf3, ↓w_iaload, ↓w_istore_5, ↓w_iload_1, ↓w_iload_5, ↓w_ishr, ↓w_iconst, ↓w_iand, ↓w_ifne, ↓w_goto, hc, hbk, hbt]
          repeat' (first
            | (apply And.intro)
            | (with_reducible refine bX1_onePressMeets_2 ?_; simp (disch := first | omega | decide) only [w_nl0, w_nli, w_nlr, ↓w_ts1, ↓w_ts0, w_rcv, w_rfv, w_cs, true_and, and_true, List.length_nil, List.length_cons, Nat.reduceAdd, Nat.reduceLeDiff, Nat.zero_le, Nat.reduceLT, ↓w_nil, ix_nI, nI_leP, nI_ltP, nI_eqP, nI_1, ↓i_inN, i_inN, l_le, l_lt, l_eq, r_le, r_lt, r_eq, sh60, ↓w_iload_2, ↓w_istore_3, ↓w_iconst, ↓w_istore_4, ↓w_iload_4, ↓w_aload_0, ↓w_gf0, ↓w_icge, ↓w_gf3, ↓w_iaload, ↓w_istore_5, ↓w_iload_1, ↓w_iload_5, ↓w_ishr, ↓w_iand, ↓w_ifne, ↓w_goto, ↓w_iload_3, ↓w_iadd, ↓w_icle, ↓w_zret, ↓w_iinc_4, hbk, hbt, v1, v3, ea])
            | (simp only [w_in])
            | (intro _))
          all_goals grind
      · have e : sm (fun j => if x.testBit (bd j) = true then tk (bd j) else 0) (k + 1) = sm (fun j => if x.testBit (bd j) = true then tk (bd j) else 0) k := by
          rw [sm, if_neg c, Nat.add_zero]
        have w := fun st => ih (k + 1) st (by omega) (fun q hq1 hq2 => by
            by_cases e : q = k
            · rw [e] at hq2; exact absurd hq2 c
            · exact hq q (by omega) hq2)
        rw [e] at w
        rw [if_neg c] at hbt
        generalize sm (fun j => if x.testBit (bd j) = true then tk (bd j) else 0) k = G at *
        clear h0 h1 hq hb hv hg ih
        refine bX1_onePressMeets_1 ?_
        simp (disch := first | omega | decide) only [w_nl0, w_nli, w_nlr, ↓w_ts1, ↓w_ts0, w_rcv, w_rfv, w_cs, true_and, and_true, List.length_nil, List.length_cons, Nat.reduceAdd, Nat.reduceLeDiff, Nat.zero_le, Nat.reduceLT, ↓w_nil, ix_nI, nI_leP, nI_ltP, nI_eqP, nI_1, ↓i_inN, i_inN, l_le, l_lt, l_eq, r_le, r_lt, r_eq, sh60, ↓w_iload_4, ↓w_aload_0, ↓w_gf0, ↓w_icge, ↓w_gf3, ↓w_iaload, ↓w_istore_5, ↓w_iload_1, ↓w_iload_5, ↓w_ishr, ↓w_iconst, ↓w_iand, ↓w_ifne, ↓w_goto, hc, hbk, hbt]
        repeat' (first
          | (apply And.intro)
          | (with_reducible refine bX1_onePressMeets_3 ?_; simp (disch := first | omega | decide) only [w_nl0, w_nli, w_nlr, ↓w_ts1, ↓w_ts0, w_rcv, w_rfv, w_cs, true_and, and_true, List.length_nil, List.length_cons, Nat.reduceAdd, Nat.reduceLeDiff, Nat.zero_le, Nat.reduceLT, ↓w_nil, ix_nI, nI_leP, nI_ltP, nI_eqP, nI_1, ↓i_inN, i_inN, l_le, l_lt, l_eq, r_le, r_lt, r_eq, sh60, ↓w_iload_2, ↓w_istore_3, ↓w_iconst, ↓w_istore_4, ↓w_iload_4, ↓w_aload_0, ↓w_gf0, ↓w_icge, ↓w_gf3, ↓w_iaload, ↓w_istore_5, ↓w_iload_1, ↓w_iload_5, ↓w_ishr, ↓w_iand, ↓w_ifne, ↓w_goto, ↓w_iload_3, ↓w_iadd, ↓w_icle, ↓w_zret, ↓w_iinc_4, hbk, hbt])
          | (simp only [w_in])
          | (intro _))
        all_goals grind
  have w : UU g (d - 1) 30 kX1_onePressMeets (pm_rm d 30) Q 1 [some (.ref 60), some (.int (nI x)), some (.int (nI y)), some (.int (nI y)), some (.int 0), none] [] SH I J (0, 0) := key n 0 none (by omega) (fun q hq => by omega)
  clear key h0 h1 hb hv hg
  refine eX1_onePressMeets (by omega) ?_
  repeat' (first
    | (apply And.intro)
    | (with_reducible refine bX1_onePressMeets_0 ?_; simp (disch := first | omega | decide) only [w_nl0, w_nli, w_nlr, ↓w_ts1, ↓w_ts0, w_rcv, w_rfv, w_cs, true_and, and_true, List.length_nil, List.length_cons, Nat.reduceAdd, Nat.reduceLeDiff, Nat.zero_le, Nat.reduceLT, ↓w_nil, ix_nI, nI_leP, nI_ltP, nI_eqP, nI_1, ↓i_inN, i_inN, l_le, l_lt, l_eq, r_le, r_lt, r_eq, sh60, ↓w_iload_2, ↓w_istore_3, ↓w_iconst, ↓w_istore_4, ↓w_iload_4, ↓w_aload_0, ↓w_gf0, ↓w_icge, ↓w_gf3, ↓w_iaload, ↓w_istore_5, ↓w_iload_1, ↓w_iload_5, ↓w_ishr, ↓w_iand, ↓w_ifne, ↓w_goto, ↓w_iload_3, ↓w_iadd, ↓w_icle, ↓w_zret, ↓w_iinc_4])
    | (simp only [w_in])
    | (intro _))
  all_goals grind
def PF (n y : Nat) (dy tk : Nat → Nat) (p : Nat) (v : Int32) : Prop := ∃ w, v = nI w ∧ 1 ≤ w ∧ w ≤ 4 ∧ (w ≤ 1 ↔ oneP n y dy tk p) ∧ (w ≤ 2 ↔ twoP n y dy tk p) ∧ (w ≤ 3 ↔ threeP n y dy tk p)
theorem c_fewest {n x y : Nat} {dy tk : Nat → Nat} (hd : 1 ≤ d) (hx0 : 0 < x) (hx : x < 512) (hP : ∀ p, 0 < p → p < x → PF n y dy tk p (I 67 p)) (hone : ¬ oneP n y dy tk x) (hQ : ∀ w, 2 ≤ w → w ≤ 4 → (w ≤ 2 ↔ twoP n y dy tk x) → (w ≤ 3 ↔ threeP n y dy tk x) → Q (some (.int (nI w))) SH I J) : pm_C g d 31 [.ref 60, .int (nI x)] Q SH I J := by
  obtain ⟨l1, l2, l3, l4⟩ := lo0 x hx hx0
  generalize (nI x &&& -nI x).toNatClampNeg = l at l1 l2 l3 l4
  have hl : subS l x := by rw [← l2]; exact and_sub
  have t2 := two_iff (n := n) (y := y) (dy := dy) (tk := tk) hl l3
  have t3 := three_iff (n := n) (y := y) (dy := dy) (tk := tk) hl l3
  have key : ∀ q w, q < x → subS q x → 2 ≤ w → w ≤ 4 → (w ≤ 2 ↔ ∃ p, q < p ∧ p < x ∧ subS p x ∧ p &&& l ≠ 0 ∧ oneP n y dy tk p ∧ oneP n y dy tk (x ^^^ p)) → (w ≤ 3 ↔ ∃ p, q < p ∧ p < x ∧ subS p x ∧ p &&& l ≠ 0 ∧ oneP n y dy tk p ∧ twoP n y dy tk (x ^^^ p)) → UU g (d - 1) 31 kX1_fewestPresses (pm_rm d 31) Q 1 [some (.ref 60), some (.int (nI x)), some (.int (nI w)), some (.int (nI l)), some (.int (nI q))] [] SH I J (0, 0) := by
    intro q
    induction q using Nat.strongRecOn with
    | ind q ih =>
      intro w hqx hqs w2 w4 i2 i3
      by_cases hq0 : q = 0
      · subst hq0
        have hQ2 := hQ w w2 w4 (by
          rw [i2, t2]
          exact ⟨fun h => Or.inr h, fun h => h.resolve_left hone⟩) (by
          rw [i3, t3]
          exact ⟨fun h => Or.inr h, fun h => h.resolve_left hone⟩)
        clear hQ hP ih i2 i3 t2 t3
        refine bX1_fewestPresses_1 ?_
        simp (disch := first | omega | decide) only [w_nl0, w_nli, w_nlr, ↓w_ts1, ↓w_ts0, w_rcv, w_rfv, w_cs, true_and, and_true, List.length_nil, List.length_cons, Nat.reduceAdd, Nat.reduceLeDiff, Nat.zero_le, Nat.reduceLT, ↓w_nil, ix_nI, nI_leP, nI_ltP, nI_eqP, nI_1, ↓i_inN, i_inN, l_le, l_lt, l_eq, r_le, r_lt, r_eq, sh60, ↓w_iload_4, ↓w_ifle, ↓w_iload_3, ↓w_iand, ↓w_ifeq, ↓w_aload_0, ↓w_gf3, ↓w_baload, ↓w_iconst, ↓w_icne, ↓w_iload_2, ↓w_iload_1, ↓w_ixor, ↓w_iadd, ↓w_mminT, ↓w_istore_2]
        repeat' (first
          | (apply And.intro)
          | (with_reducible refine bX1_fewestPresses_3 ?_; simp (disch := first | omega | decide) only [w_nl0, w_nli, w_nlr, ↓w_ts1, ↓w_ts0, w_rcv, w_rfv, w_cs, true_and, and_true, List.length_nil, List.length_cons, Nat.reduceAdd, Nat.reduceLeDiff, Nat.zero_le, Nat.reduceLT, ↓w_nil, ix_nI, nI_leP, nI_ltP, nI_eqP, nI_1, ↓i_inN, i_inN, l_le, l_lt, l_eq, r_le, r_lt, r_eq, sh60, ↓w_iconst, ↓w_istore_2, ↓w_iload_1, ↓w_ineg, ↓w_iand, ↓w_istore_3, ↓w_isub, ↓w_istore_4, ↓w_iload_4, ↓w_ifle, ↓w_iload_3, ↓w_ifeq, ↓w_aload_0, ↓w_gf3, ↓w_baload, ↓w_icne, ↓w_iload_2, ↓w_ixor, ↓w_iadd, ↓w_mminT, ↓w_goto, ↓w_ret])
          | (simp only [w_in])
          | (intro _))
        all_goals grind
      · obtain ⟨v, ev, v1, v4, vo, vt, _⟩ := hP q (by omega) hqx
        have hxq0 : 0 < x ^^^ q := by
          rcases Nat.eq_zero_or_pos (x ^^^ q) with z | z
          · have := xor_xor (x := x) (s := q)
            rw [z, Nat.zero_xor] at this
            omega
          · exact z
        have hxqx : x ^^^ q < x := by
          have h1 := sub_le (sub_xor hqs)
          by_cases e : x ^^^ q = x
          · have := xor_xor (x := x) (s := q)
            rw [e] at this
            have h2 : x ^^^ (x ^^^ q) = x ^^^ x := by rw [this]
            rw [← Nat.xor_assoc, Nat.xor_self, Nat.zero_xor] at h2
            omega
          · omega
        obtain ⟨u, eu, u1, u4, uo, ut, _⟩ := hP (x ^^^ q) hxq0 hxqx
        have hnx : (q - 1) &&& x < q := by
          have := Nat.and_le_left (n := q - 1) (m := x)
          omega
        have hnext : ∀ p, subS p x → ((q - 1) &&& x < p ↔ q ≤ p) := by
          intro p hp
          constructor
          · intro h
            refine Classical.byContradiction (fun z => ?_)
            have := sub_next q p x hqs hp (by omega)
            omega
          · intro h
            omega
        have split : ∀ (P : Nat → Prop), (∃ p, (q - 1) &&& x < p ∧ p < x ∧ subS p x ∧ P p) ↔ (P q ∨ ∃ p, q < p ∧ p < x ∧ subS p x ∧ P p) := by
          intro P
          constructor
          · intro ⟨p, a1, a2, a3, a4⟩
            have := (hnext p a3).1 a1
            by_cases e : p = q
            · rw [e] at a4; exact Or.inl a4
            · exact Or.inr ⟨p, by omega, a2, a3, a4⟩
          · intro h
            rcases h with h | ⟨p, a1, a2, a3, a4⟩
            · exact ⟨q, hnx, hqx, hqs, h⟩
            · exact ⟨p, by omega, a2, a3, a4⟩
        have ih2 := fun w' b1 b2 b3 b4 => ih ((q - 1) &&& x) hnx w' (by omega) and_sub b1 b2 b3 b4
        rw [split (fun p => p &&& l ≠ 0 ∧ oneP n y dy tk p ∧ oneP n y dy tk (x ^^^ p)), split (fun p => p &&& l ≠ 0 ∧ oneP n y dy tk p ∧ twoP n y dy tk (x ^^^ p))] at ih2
        have eq1 : nI q - 1 = nI (q - 1) := s1_nI (by omega) (by omega)
        have e1v : 1 + nI u = nI (1 + u) := nI_add 1 u
        have hql : q &&& l ≤ q := Nat.and_le_left
        have eA : nI q &&& nI l = nI (q &&& l) := an_nI
        have eX : nI x ^^^ nI q = nI (x ^^^ q) := xo_nI
        have eN : nI (q - 1) &&& nI x = nI ((q - 1) &&& x) := an_nI
        have bX0 : 0 ≤ nI x ^^^ nI q := by
          rw [eX]
          exact nI_pos' (by omega)
        have bX1 : nI x ^^^ nI q < 512 := by
          rw [eX]
          exact nI_lt (b := 512) (by omega) (by omega)
        by_cases c : q &&& l ≠ 0 ∧ oneP n y dy tk q
        · have hv1 : v = 1 := by have := vo.2 c.2; omega
          rw [hv1] at ev
          have ev : I 67 q = 1 := ev
          by_cases c2 : 1 + u < w
          · have wn := ih2 (1 + u) (by omega) (by omega) (by
              rw [← i2]
              constructor
              · intro h; exact Or.inl ⟨c.1, c.2, uo.1 (by omega)⟩
              · intro h
                rcases h with h | h
                · have := uo.2 h.2.2; omega
                · omega) (by
              rw [← i3]
              constructor
              · intro h; exact Or.inl ⟨c.1, c.2, ut.1 (by omega)⟩
              · intro h
                rcases h with h | h
                · have := ut.2 h.2.2; omega
                · omega)
            have cl := c.1
            clear hQ hP ih ih2 i2 i3 t2 t3 hnext split vo vt uo ut c hone hl hqs l1 l2
            generalize q &&& l = A at *
            generalize x ^^^ q = X at *
            generalize (q - 1) &&& x = N' at *
            refine bX1_fewestPresses_1 ?_
            simp -implicitDefEqProofs (disch := first | omega | decide) only [w_nl0, w_nli, w_nlr, ↓w_ts1, ↓w_ts0, w_rcv, w_rfv, w_cs, true_and, and_true, List.length_nil, List.length_cons, Nat.reduceAdd, Nat.reduceLeDiff, Nat.zero_le, Nat.reduceLT, ↓w_nil, ix_nI, nI_leP, nI_ltP, nI_eqP, nI_1, ↓i_inN, i_inN, l_le, l_lt, l_eq, r_le, r_lt, r_eq, sh60, ↓w_iload_4, ↓w_ifle, ↓w_iload_3, ↓w_iand, ↓w_ifeq, ↓w_aload_0, ↓w_gf3, ↓w_baload, ↓w_iconst, ↓w_icne, ↓w_iload_2, ↓w_iload_1, ↓w_ixor, ↓w_iadd, ↓w_mminT, ↓w_istore_2, eA, ev]
            repeat' (first
              | (apply And.intro)
              | (with_reducible refine bX1_fewestPresses_2 ?_; simp -implicitDefEqProofs (disch := first | omega | decide) only [w_nl0, w_nli, w_nlr, ↓w_ts1, ↓w_ts0, w_rcv, w_rfv, w_cs, true_and, and_true, List.length_nil, List.length_cons, Nat.reduceAdd, Nat.reduceLeDiff, Nat.zero_le, Nat.reduceLT, ↓w_nil, ix_nI, nI_leP, nI_ltP, nI_eqP, nI_1, ↓i_inN, i_inN, l_le, l_lt, l_eq, r_le, r_lt, r_eq, sh60, ↓w_iconst, ↓w_istore_2, ↓w_iload_1, ↓w_ineg, ↓w_iand, ↓w_istore_3, ↓w_isub, ↓w_istore_4, ↓w_iload_4, ↓w_ifle, ↓w_iload_3, ↓w_ifeq, ↓w_aload_0, ↓w_gf3, ↓w_baload, ↓w_icne, ↓w_iload_2, ↓w_ixor, ↓w_iadd, ↓w_mminT, ↓w_goto, ↓w_ret, eA, eX, eN, ev, eu, e1v, eq1, if_pos c2])
              | (simp only [w_in])
              | (intro _))
            all_goals grind
          · have wn := ih2 w w2 w4 (by
              rw [← i2]
              constructor
              · intro h; exact Or.inr h
              · intro h
                rcases h with h | h
                · have := uo.2 h.2.2; omega
                · exact h) (by
              rw [← i3]
              constructor
              · intro h; exact Or.inr h
              · intro h
                rcases h with h | h
                · have := ut.2 h.2.2; omega
                · exact h)
            have cl := c.1
            clear hQ hP ih ih2 i2 i3 t2 t3 hnext split vo vt uo ut c hone hl hqs l1 l2
            generalize q &&& l = A at *
            generalize x ^^^ q = X at *
            generalize (q - 1) &&& x = N' at *
            refine bX1_fewestPresses_1 ?_
            simp -implicitDefEqProofs (disch := first | omega | decide) only [w_nl0, w_nli, w_nlr, ↓w_ts1, ↓w_ts0, w_rcv, w_rfv, w_cs, true_and, and_true, List.length_nil, List.length_cons, Nat.reduceAdd, Nat.reduceLeDiff, Nat.zero_le, Nat.reduceLT, ↓w_nil, ix_nI, nI_leP, nI_ltP, nI_eqP, nI_1, ↓i_inN, i_inN, l_le, l_lt, l_eq, r_le, r_lt, r_eq, sh60, ↓w_iload_4, ↓w_ifle, ↓w_iload_3, ↓w_iand, ↓w_ifeq, ↓w_aload_0, ↓w_gf3, ↓w_baload, ↓w_iconst, ↓w_icne, ↓w_iload_2, ↓w_iload_1, ↓w_ixor, ↓w_iadd, ↓w_mminT, ↓w_istore_2, eA, ev]
            repeat' (first
              | (apply And.intro)
              | (with_reducible refine bX1_fewestPresses_2 ?_; simp -implicitDefEqProofs (disch := first | omega | decide) only [w_nl0, w_nli, w_nlr, ↓w_ts1, ↓w_ts0, w_rcv, w_rfv, w_cs, true_and, and_true, List.length_nil, List.length_cons, Nat.reduceAdd, Nat.reduceLeDiff, Nat.zero_le, Nat.reduceLT, ↓w_nil, ix_nI, nI_leP, nI_ltP, nI_eqP, nI_1, ↓i_inN, i_inN, l_le, l_lt, l_eq, r_le, r_lt, r_eq, sh60, ↓w_iconst, ↓w_istore_2, ↓w_iload_1, ↓w_ineg, ↓w_iand, ↓w_istore_3, ↓w_isub, ↓w_istore_4, ↓w_iload_4, ↓w_ifle, ↓w_iload_3, ↓w_ifeq, ↓w_aload_0, ↓w_gf3, ↓w_baload, ↓w_icne, ↓w_iload_2, ↓w_ixor, ↓w_iadd, ↓w_mminT, ↓w_goto, ↓w_ret, eA, eX, eN, ev, eu, e1v, eq1, if_neg c2])
              | (simp only [w_in])
              | (intro _))
            all_goals grind
        · have wn := ih2 w w2 w4 (by
              rw [← i2]
              exact ⟨fun h => Or.inr h, fun h => h.resolve_left (fun z => c ⟨z.1, z.2.1⟩)⟩) (by
              rw [← i3]
              exact ⟨fun h => Or.inr h, fun h => h.resolve_left (fun z => c ⟨z.1, z.2.1⟩)⟩)
          have hv1 : q &&& l = 0 ∨ ¬ v = 1 := by
            by_cases z : q &&& l = 0
            · exact Or.inl z
            · refine Or.inr (fun e => c ⟨z, vo.1 (by omega)⟩)
          clear hQ hP ih ih2 i2 i3 t2 t3 hnext split vo vt uo ut c hone hl hqs l1 l2
          generalize q &&& l = A at *
          generalize x ^^^ q = X at *
          generalize (q - 1) &&& x = N' at *
          refine bX1_fewestPresses_1 ?_
          simp -implicitDefEqProofs (disch := first | omega | decide) only [w_nl0, w_nli, w_nlr, ↓w_ts1, ↓w_ts0, w_rcv, w_rfv, w_cs, true_and, and_true, List.length_nil, List.length_cons, Nat.reduceAdd, Nat.reduceLeDiff, Nat.zero_le, Nat.reduceLT, ↓w_nil, ix_nI, nI_leP, nI_ltP, nI_eqP, nI_1, ↓i_inN, i_inN, l_le, l_lt, l_eq, r_le, r_lt, r_eq, sh60, ↓w_iload_4, ↓w_ifle, ↓w_iload_3, ↓w_iand, ↓w_ifeq, ↓w_aload_0, ↓w_gf3, ↓w_baload, ↓w_iconst, ↓w_icne, ↓w_iload_2, ↓w_iload_1, ↓w_ixor, ↓w_iadd, ↓w_mminT, ↓w_istore_2, eA, ev]
          repeat' (first
            | (apply And.intro)
            | (with_reducible refine bX1_fewestPresses_2 ?_; simp -implicitDefEqProofs (disch := first | omega | decide) only [w_nl0, w_nli, w_nlr, ↓w_ts1, ↓w_ts0, w_rcv, w_rfv, w_cs, true_and, and_true, List.length_nil, List.length_cons, Nat.reduceAdd, Nat.reduceLeDiff, Nat.zero_le, Nat.reduceLT, ↓w_nil, ix_nI, nI_leP, nI_ltP, nI_eqP, nI_1, ↓i_inN, i_inN, l_le, l_lt, l_eq, r_le, r_lt, r_eq, sh60, ↓w_iconst, ↓w_istore_2, ↓w_iload_1, ↓w_ineg, ↓w_iand, ↓w_istore_3, ↓w_isub, ↓w_istore_4, ↓w_iload_4, ↓w_ifle, ↓w_iload_3, ↓w_ifeq, ↓w_aload_0, ↓w_gf3, ↓w_baload, ↓w_icne, ↓w_iload_2, ↓w_ixor, ↓w_iadd, ↓w_mminT, ↓w_goto, ↓w_ret, eA, eX, eN, ev, eu, eq1])
            | (simp only [w_in])
            | (intro _))
          all_goals grind
  have hnx : (x - 1) &&& x < x := by
    have := Nat.and_le_left (n := x - 1) (m := x)
    omega
  have hno : ∀ (P : Nat → Prop), ¬ ∃ p, (x - 1) &&& x < p ∧ p < x ∧ subS p x ∧ P p := by
    intro P ⟨p, a1, a2, a3, _⟩
    have := sub_next x p x (fun _ z => z) a3 a2
    omega
  have w : UU g (d - 1) 31 kX1_fewestPresses (pm_rm d 31) Q 1 [some (.ref 60), some (.int (nI x)), some (.int 4), some (.int (nI l)), some (.int (nI ((x - 1) &&& x)))] [] SH I J (0, 0) := key ((x - 1) &&& x) 4 hnx and_sub (by omega) (by omega) ⟨fun h => by omega, fun h => absurd h (hno _)⟩ ⟨fun h => by omega, fun h => absurd h (hno _)⟩
  have eq1 : nI x - 1 = nI (x - 1) := s1_nI (by omega) (by omega)
  have eN : nI (x - 1) &&& nI x = nI ((x - 1) &&& x) := an_nI
  clear key hQ hP t2 t3 hno hl l2
  generalize (x - 1) &&& x = N' at *
  refine eX1_fewestPresses (by omega) ?_
  repeat' (first
    | (apply And.intro)
    | (with_reducible refine bX1_fewestPresses_0 ?_; simp (disch := first | omega | decide) only [w_nl0, w_nli, w_nlr, ↓w_ts1, ↓w_ts0, w_rcv, w_rfv, w_cs, true_and, and_true, List.length_nil, List.length_cons, Nat.reduceAdd, Nat.reduceLeDiff, Nat.zero_le, Nat.reduceLT, ↓w_nil, ix_nI, nI_leP, nI_ltP, nI_eqP, nI_1, ↓i_inN, i_inN, l_le, l_lt, l_eq, r_le, r_lt, r_eq, sh60, ↓w_iconst, ↓w_istore_2, ↓w_iload_1, ↓w_ineg, ↓w_iand, ↓w_istore_3, ↓w_isub, ↓w_istore_4, ↓w_iload_4, ↓w_ifle, ↓w_iload_3, ↓w_ifeq, ↓w_aload_0, ↓w_gf3, ↓w_baload, ↓w_icne, ↓w_iload_2, ↓w_ixor, ↓w_iadd, ↓w_mminT, ↓w_goto, ↓w_ret, l1, eq1, eN])
    | (simp only [w_in])
    | (intro _))
  all_goals grind
end C81
