section C86
variable {g : pm_G} {d : Nat} {Q : pm_Po} {S : pm_SS} {I : pm_MI} {J : pm_ML}
def b01 (c : Int32) (p : Prop) : Prop := (p → c = 1) ∧ (¬ p → c = 0)
def canP (n y : Nat) (dy tk : Nat → Nat) (P x : Nat) : Prop := (P = 1 ∧ oneP n y dy tk x) ∨ (P = 2 ∧ twoP n y dy tk x) ∨ (P = 3 ∧ threeP n y dy tk x)
theorem sub_prev {q x s : Nat} (hq : subS q x) (hs : subS s x) (h : (q - 1) &&& x < s) : s = q ∨ q < s := by
  by_cases c : s < q
  · have := sub_next q s x hq hs c
    omega
  · omega
theorem m_canMeet {n x y P : Nat} {dy tk : Nat → Nat} (hd : 1 ≤ d) (hn : n ≤ 9) (hx : x < 2 ^ n) (hP : 1 ≤ P ∧ P ≤ 3) (a1 : ∀ p, p < 2 ^ n → b01 (I 119 p) (oneP n y dy tk p)) (a2 : ∀ p, p < 2 ^ n → b01 (I 120 p) (twoP n y dy tk p)) (h1 : canP n y dy tk P x → Q (some (.int 1)) SH I J) (h0 : ¬ canP n y dy tk P x → Q (some (.int 0)) SH I J) : pm_C g d 282 [.ref 68, .int (nI x), .int (nI P)] Q SH I J := by
  have hp9 : 2 ^ n ≤ 512 := Nat.pow_le_pow_right (by omega) hn
  by_cases hP1 : P = 1
  · subst hP1
    have hc : canP n y dy tk 1 x ↔ oneP n y dy tk x := by
      unfold canP
      constructor
      · intro h
        rcases h with h | h | h
        · exact h.2
        · omega
        · omega
      · intro h; exact Or.inl ⟨rfl, h⟩
    rw [hc] at h1 h0
    obtain ⟨z1, z0⟩ := a1 x hx
    by_cases ho : oneP n y dy tk x
    · have e := z1 ho
      have h1 := h1 ho
      clear h0 a1 a2 z1 z0 hc
      refine eX12_canMeet (by omega) ?_
      repeat' (first
        | (apply And.intro)
        | (with_reducible refine bX12_canMeet_0 ?_; simp (disch := first | omega | decide) only [w_nl0, w_nli, w_nlr, ↓w_ts1, ↓w_ts0, w_rcv, w_rfv, w_cs, true_and, and_true, List.length_nil, List.length_cons, Nat.reduceAdd, Nat.reduceLeDiff, Nat.zero_le, Nat.reduceLT, ↓w_nil, ix_nI, nI_leP, nI_ltP, nI_eqP, nI_1, ↓i_inN, i_inN, l_le, l_lt, l_eq, r_le, r_lt, r_eq, sh68_0, sh68_1, sh68_2, sh68_3, sh68_4, ↓w_iload_2, ↓w_iconst, ↓w_icne, ↓w_aload_0, ↓w_gf3, ↓w_iload_1, ↓w_baload, ↓w_zret, ↓w_istore_3, ↓w_istore_4, ↓w_iload_4, ↓w_iflt, ↓w_iload_3, ↓w_ifne, ↓w_ifeq, ↓w_ixor, ↓w_iand, ↓w_goto, ↓w_isub, e])
        | (simp only [w_in])
        | (intro _))
      all_goals grind
    · have e := z0 ho
      have h0 := h0 ho
      clear h1 a1 a2 z1 z0 hc
      refine eX12_canMeet (by omega) ?_
      repeat' (first
        | (apply And.intro)
        | (with_reducible refine bX12_canMeet_0 ?_; simp (disch := first | omega | decide) only [w_nl0, w_nli, w_nlr, ↓w_ts1, ↓w_ts0, w_rcv, w_rfv, w_cs, true_and, and_true, List.length_nil, List.length_cons, Nat.reduceAdd, Nat.reduceLeDiff, Nat.zero_le, Nat.reduceLT, ↓w_nil, ix_nI, nI_leP, nI_ltP, nI_eqP, nI_1, ↓i_inN, i_inN, l_le, l_lt, l_eq, r_le, r_lt, r_eq, sh68_0, sh68_1, sh68_2, sh68_3, sh68_4, ↓w_iload_2, ↓w_iconst, ↓w_icne, ↓w_aload_0, ↓w_gf3, ↓w_iload_1, ↓w_baload, ↓w_zret, ↓w_istore_3, ↓w_istore_4, ↓w_iload_4, ↓w_iflt, ↓w_iload_3, ↓w_ifne, ↓w_ifeq, ↓w_ixor, ↓w_iand, ↓w_goto, ↓w_isub, e])
        | (simp only [w_in])
        | (intro _))
      all_goals grind
  · by_cases hP2 : P = 2
    · subst hP2
      have hc : canP n y dy tk 2 x ↔ twoP n y dy tk x := by
        unfold canP
        constructor
        · intro h
          rcases h with h | h | h
          · omega
          · exact h.2
          · omega
        · intro h; exact Or.inr (Or.inl ⟨rfl, h⟩)
      rw [hc] at h1 h0
      obtain ⟨z1, z0⟩ := a2 x hx
      by_cases ho : twoP n y dy tk x
      · have e := z1 ho
        have h1 := h1 ho
        clear h0 a1 a2 z1 z0 hc
        refine eX12_canMeet (by omega) ?_
        repeat' (first
          | (apply And.intro)
          | (with_reducible refine bX12_canMeet_0 ?_; simp (disch := first | omega | decide) only [w_nl0, w_nli, w_nlr, ↓w_ts1, ↓w_ts0, w_rcv, w_rfv, w_cs, true_and, and_true, List.length_nil, List.length_cons, Nat.reduceAdd, Nat.reduceLeDiff, Nat.zero_le, Nat.reduceLT, ↓w_nil, ix_nI, nI_leP, nI_ltP, nI_eqP, nI_1, ↓i_inN, i_inN, l_le, l_lt, l_eq, r_le, r_lt, r_eq, sh68_0, sh68_1, sh68_2, sh68_3, sh68_4, ↓w_iload_2, ↓w_iconst, ↓w_icne, ↓w_aload_0, ↓w_gf3, ↓w_iload_1, ↓w_baload, ↓w_zret, ↓w_istore_3, ↓w_istore_4, ↓w_iload_4, ↓w_iflt, ↓w_iload_3, ↓w_ifne, ↓w_ifeq, ↓w_ixor, ↓w_iand, ↓w_goto, ↓w_isub, e])
          | (with_reducible refine bX12_canMeet_1 ?_; simp (disch := first | omega | decide) only [w_nl0, w_nli, w_nlr, ↓w_ts1, ↓w_ts0, w_rcv, w_rfv, w_cs, true_and, and_true, List.length_nil, List.length_cons, Nat.reduceAdd, Nat.reduceLeDiff, Nat.zero_le, Nat.reduceLT, ↓w_nil, ix_nI, nI_leP, nI_ltP, nI_eqP, nI_1, ↓i_inN, i_inN, l_le, l_lt, l_eq, r_le, r_lt, r_eq, sh68_0, sh68_1, sh68_2, sh68_3, sh68_4, ↓w_iload_2, ↓w_iconst, ↓w_icne, ↓w_aload_0, ↓w_gf3, ↓w_iload_1, ↓w_baload, ↓w_zret, ↓w_istore_3, ↓w_istore_4, ↓w_iload_4, ↓w_iflt, ↓w_iload_3, ↓w_ifne, ↓w_ifeq, ↓w_ixor, ↓w_iand, ↓w_goto, ↓w_isub, e])
          | (simp only [w_in])
          | (intro _))
        all_goals grind
      · have e := z0 ho
        have h0 := h0 ho
        clear h1 a1 a2 z1 z0 hc
        refine eX12_canMeet (by omega) ?_
        repeat' (first
          | (apply And.intro)
          | (with_reducible refine bX12_canMeet_0 ?_; simp (disch := first | omega | decide) only [w_nl0, w_nli, w_nlr, ↓w_ts1, ↓w_ts0, w_rcv, w_rfv, w_cs, true_and, and_true, List.length_nil, List.length_cons, Nat.reduceAdd, Nat.reduceLeDiff, Nat.zero_le, Nat.reduceLT, ↓w_nil, ix_nI, nI_leP, nI_ltP, nI_eqP, nI_1, ↓i_inN, i_inN, l_le, l_lt, l_eq, r_le, r_lt, r_eq, sh68_0, sh68_1, sh68_2, sh68_3, sh68_4, ↓w_iload_2, ↓w_iconst, ↓w_icne, ↓w_aload_0, ↓w_gf3, ↓w_iload_1, ↓w_baload, ↓w_zret, ↓w_istore_3, ↓w_istore_4, ↓w_iload_4, ↓w_iflt, ↓w_iload_3, ↓w_ifne, ↓w_ifeq, ↓w_ixor, ↓w_iand, ↓w_goto, ↓w_isub, e])
          | (with_reducible refine bX12_canMeet_1 ?_; simp (disch := first | omega | decide) only [w_nl0, w_nli, w_nlr, ↓w_ts1, ↓w_ts0, w_rcv, w_rfv, w_cs, true_and, and_true, List.length_nil, List.length_cons, Nat.reduceAdd, Nat.reduceLeDiff, Nat.zero_le, Nat.reduceLT, ↓w_nil, ix_nI, nI_leP, nI_ltP, nI_eqP, nI_1, ↓i_inN, i_inN, l_le, l_lt, l_eq, r_le, r_lt, r_eq, sh68_0, sh68_1, sh68_2, sh68_3, sh68_4, ↓w_iload_2, ↓w_iconst, ↓w_icne, ↓w_aload_0, ↓w_gf3, ↓w_iload_1, ↓w_baload, ↓w_zret, ↓w_istore_3, ↓w_istore_4, ↓w_iload_4, ↓w_iflt, ↓w_iload_3, ↓w_ifne, ↓w_ifeq, ↓w_ixor, ↓w_iand, ↓w_goto, ↓w_isub, e])
          | (simp only [w_in])
          | (intro _))
        all_goals grind
    · have hP3 : P = 3 := by omega
      subst hP3
      have hc : canP n y dy tk 3 x ↔ threeP n y dy tk x := by
        unfold canP
        constructor
        · intro h
          rcases h with h | h | h
          · omega
          · omega
          · exact h.2
        · intro h; exact Or.inr (Or.inr ⟨rfl, h⟩)
      rw [hc] at h1 h0
      have keyT : ∀ v : Int32, threeP n y dy tk x → UU g (d - 1) 282 kX12_canMeet (pm_rm d 282) Q 3 [some (.ref 68), some (.int (nI x)), some (.int 3), some (.int 1), some (.int v)] [] SH I J (0, 0) := by
        intro v ht
        have h1 := h1 ht
        clear h0 a1 a2
        refine bX12_canMeet_3 ?_
        simp (disch := first | omega | decide) only [w_nl0, w_nli, w_nlr, ↓w_ts1, ↓w_ts0, w_rcv, w_rfv, w_cs, true_and, and_true, List.length_nil, List.length_cons, Nat.reduceAdd, Nat.reduceLeDiff, Nat.zero_le, Nat.reduceLT, ↓w_nil, ix_nI, nI_leP, nI_ltP, nI_eqP, nI_1, ↓i_inN, i_inN, l_le, l_lt, l_eq, r_le, r_lt, r_eq, sh68_0, sh68_1, sh68_2, sh68_3, sh68_4, ↓w_iload_4, ↓w_iflt, ↓w_iload_3, ↓w_ifne, ↓w_aload_0, ↓w_gf3, ↓w_baload, ↓w_ifeq, ↓w_iload_1, ↓w_iconst, ↓w_ixor, ↓w_iand, ↓w_goto]
        repeat' (first
          | (apply And.intro)
          | (with_reducible refine bX12_canMeet_8 ?_; simp (disch := first | omega | decide) only [w_nl0, w_nli, w_nlr, ↓w_ts1, ↓w_ts0, w_rcv, w_rfv, w_cs, true_and, and_true, List.length_nil, List.length_cons, Nat.reduceAdd, Nat.reduceLeDiff, Nat.zero_le, Nat.reduceLT, ↓w_nil, ix_nI, nI_leP, nI_ltP, nI_eqP, nI_1, ↓i_inN, i_inN, l_le, l_lt, l_eq, r_le, r_lt, r_eq, sh68_0, sh68_1, sh68_2, sh68_3, sh68_4, ↓w_iload_2, ↓w_iconst, ↓w_icne, ↓w_aload_0, ↓w_gf3, ↓w_iload_1, ↓w_baload, ↓w_zret, ↓w_istore_3, ↓w_istore_4, ↓w_iload_4, ↓w_iflt, ↓w_iload_3, ↓w_ifne, ↓w_ifeq, ↓w_ixor, ↓w_iand, ↓w_goto, ↓w_isub])
          | (simp only [w_in])
          | (intro _))
        all_goals grind
      have keyE : ¬ threeP n y dy tk x → UU g (d - 1) 282 kX12_canMeet (pm_rm d 282) Q 3 [some (.ref 68), some (.int (nI x)), some (.int 3), some (.int 0), some (.int (-1))] [] SH I J (0, 0) := by
        intro ht
        have h0 := h0 ht
        clear h1 a1 a2 keyT
        refine bX12_canMeet_3 ?_
        simp (disch := first | omega | decide) only [w_nl0, w_nli, w_nlr, ↓w_ts1, ↓w_ts0, w_rcv, w_rfv, w_cs, true_and, and_true, List.length_nil, List.length_cons, Nat.reduceAdd, Nat.reduceLeDiff, Nat.zero_le, Nat.reduceLT, ↓w_nil, ix_nI, nI_leP, nI_ltP, nI_eqP, nI_1, ↓i_inN, i_inN, l_le, l_lt, l_eq, r_le, r_lt, r_eq, sh68_0, sh68_1, sh68_2, sh68_3, sh68_4, ↓w_iload_4, ↓w_iflt, ↓w_iload_3, ↓w_ifne, ↓w_aload_0, ↓w_gf3, ↓w_baload, ↓w_ifeq, ↓w_iload_1, ↓w_iconst, ↓w_ixor, ↓w_iand, ↓w_goto]
        repeat' (first
          | (apply And.intro)
          | (with_reducible refine bX12_canMeet_8 ?_; simp (disch := first | omega | decide) only [w_nl0, w_nli, w_nlr, ↓w_ts1, ↓w_ts0, w_rcv, w_rfv, w_cs, true_and, and_true, List.length_nil, List.length_cons, Nat.reduceAdd, Nat.reduceLeDiff, Nat.zero_le, Nat.reduceLT, ↓w_nil, ix_nI, nI_leP, nI_ltP, nI_eqP, nI_1, ↓i_inN, i_inN, l_le, l_lt, l_eq, r_le, r_lt, r_eq, sh68_0, sh68_1, sh68_2, sh68_3, sh68_4, ↓w_iload_2, ↓w_iconst, ↓w_icne, ↓w_aload_0, ↓w_gf3, ↓w_iload_1, ↓w_baload, ↓w_zret, ↓w_istore_3, ↓w_istore_4, ↓w_iload_4, ↓w_iflt, ↓w_iload_3, ↓w_ifne, ↓w_ifeq, ↓w_ixor, ↓w_iand, ↓w_goto, ↓w_isub])
          | (simp only [w_in])
          | (intro _))
        all_goals grind
      have key : ∀ q, subS q x → (∀ s, subS s x → q < s → ¬ (oneP n y dy tk s ∧ twoP n y dy tk (x ^^^ s))) → UU g (d - 1) 282 kX12_canMeet (pm_rm d 282) Q 3 [some (.ref 68), some (.int (nI x)), some (.int 3), some (.int 0), some (.int (nI q))] [] SH I J (0, 0) := by
        intro q
        induction q using Nat.strongRecOn with
        | ind q ih =>
          intro hq hno
          have hqx := sub_le hq
          have hxq := sub_le (sub_xor hq)
          obtain ⟨z1, z0⟩ := a1 q (by omega)
          obtain ⟨t1, t0⟩ := a2 (x ^^^ q) (by omega)
          have eN : nI x &&& (nI q ^^^ -1) = nI (x ^^^ q) := nt_nI hq
          have bX0 : 0 ≤ nI x &&& (nI q ^^^ -1) := by rw [eN]; exact nI_pos' (by omega)
          have bX1 : nI x &&& (nI q ^^^ -1) < 512 := by rw [eN]; exact nI_lt (b := 512) (by omega) (by omega)
          by_cases c : oneP n y dy tk q ∧ twoP n y dy tk (x ^^^ q)
          · have e1 := z1 c.1
            have e2 := t1 c.2
            have w := fun v => keyT v ⟨q, hq, c.1, c.2⟩
            clear ih hno a1 a2 z1 z0 t1 t0 h1 h0 hc keyT keyE c hq
            generalize x ^^^ q = X at *
            refine bX12_canMeet_3 ?_
            simp (disch := first | omega | decide) only [w_nl0, w_nli, w_nlr, ↓w_ts1, ↓w_ts0, w_rcv, w_rfv, w_cs, true_and, and_true, List.length_nil, List.length_cons, Nat.reduceAdd, Nat.reduceLeDiff, Nat.zero_le, Nat.reduceLT, ↓w_nil, ix_nI, nI_leP, nI_ltP, nI_eqP, nI_1, ↓i_inN, i_inN, l_le, l_lt, l_eq, r_le, r_lt, r_eq, sh68_0, sh68_1, sh68_2, sh68_3, sh68_4, ↓w_iload_4, ↓w_iflt, ↓w_iload_3, ↓w_ifne, ↓w_aload_0, ↓w_gf3, ↓w_baload, ↓w_ifeq, ↓w_iload_1, ↓w_iconst, ↓w_ixor, ↓w_iand, ↓w_goto, e1, eN]
            repeat' (first
              | (apply And.intro)
              | (with_reducible refine bX12_canMeet_4 ?_; simp (disch := first | omega | decide) only [w_nl0, w_nli, w_nlr, ↓w_ts1, ↓w_ts0, w_rcv, w_rfv, w_cs, true_and, and_true, List.length_nil, List.length_cons, Nat.reduceAdd, Nat.reduceLeDiff, Nat.zero_le, Nat.reduceLT, ↓w_nil, ix_nI, nI_leP, nI_ltP, nI_eqP, nI_1, ↓i_inN, i_inN, l_le, l_lt, l_eq, r_le, r_lt, r_eq, sh68_0, sh68_1, sh68_2, sh68_3, sh68_4, ↓w_iload_2, ↓w_iconst, ↓w_icne, ↓w_aload_0, ↓w_gf3, ↓w_iload_1, ↓w_baload, ↓w_zret, ↓w_istore_3, ↓w_istore_4, ↓w_iload_4, ↓w_iflt, ↓w_iload_3, ↓w_ifne, ↓w_ifeq, ↓w_ixor, ↓w_iand, ↓w_goto, ↓w_isub, e1, eN, e2])
              | (with_reducible refine bX12_canMeet_5 ?_; simp (disch := first | omega | decide) only [w_nl0, w_nli, w_nlr, ↓w_ts1, ↓w_ts0, w_rcv, w_rfv, w_cs, true_and, and_true, List.length_nil, List.length_cons, Nat.reduceAdd, Nat.reduceLeDiff, Nat.zero_le, Nat.reduceLT, ↓w_nil, ix_nI, nI_leP, nI_ltP, nI_eqP, nI_1, ↓i_inN, i_inN, l_le, l_lt, l_eq, r_le, r_lt, r_eq, sh68_0, sh68_1, sh68_2, sh68_3, sh68_4, ↓w_iload_2, ↓w_iconst, ↓w_icne, ↓w_aload_0, ↓w_gf3, ↓w_iload_1, ↓w_baload, ↓w_zret, ↓w_istore_3, ↓w_istore_4, ↓w_iload_4, ↓w_iflt, ↓w_iload_3, ↓w_ifne, ↓w_ifeq, ↓w_ixor, ↓w_iand, ↓w_goto, ↓w_isub, e1, eN, e2])
              | (with_reducible refine bX12_canMeet_6 ?_; simp (disch := first | omega | decide) only [w_nl0, w_nli, w_nlr, ↓w_ts1, ↓w_ts0, w_rcv, w_rfv, w_cs, true_and, and_true, List.length_nil, List.length_cons, Nat.reduceAdd, Nat.reduceLeDiff, Nat.zero_le, Nat.reduceLT, ↓w_nil, ix_nI, nI_leP, nI_ltP, nI_eqP, nI_1, ↓i_inN, i_inN, l_le, l_lt, l_eq, r_le, r_lt, r_eq, sh68_0, sh68_1, sh68_2, sh68_3, sh68_4, ↓w_iload_2, ↓w_iconst, ↓w_icne, ↓w_aload_0, ↓w_gf3, ↓w_iload_1, ↓w_baload, ↓w_zret, ↓w_istore_3, ↓w_istore_4, ↓w_iload_4, ↓w_iflt, ↓w_iload_3, ↓w_ifne, ↓w_ifeq, ↓w_ixor, ↓w_iand, ↓w_goto, ↓w_isub, e1, eN, e2])
              | (with_reducible refine bX12_canMeet_7 ?_; simp (disch := first | omega | decide) only [w_nl0, w_nli, w_nlr, ↓w_ts1, ↓w_ts0, w_rcv, w_rfv, w_cs, true_and, and_true, List.length_nil, List.length_cons, Nat.reduceAdd, Nat.reduceLeDiff, Nat.zero_le, Nat.reduceLT, ↓w_nil, ix_nI, nI_leP, nI_ltP, nI_eqP, nI_1, ↓i_inN, i_inN, l_le, l_lt, l_eq, r_le, r_lt, r_eq, sh68_0, sh68_1, sh68_2, sh68_3, sh68_4, ↓w_iload_2, ↓w_iconst, ↓w_icne, ↓w_aload_0, ↓w_gf3, ↓w_iload_1, ↓w_baload, ↓w_zret, ↓w_istore_3, ↓w_istore_4, ↓w_iload_4, ↓w_iflt, ↓w_iload_3, ↓w_ifne, ↓w_ifeq, ↓w_ixor, ↓w_iand, ↓w_goto, ↓w_isub, e1, eN, e2])
              | (simp only [w_in])
              | (intro _))
            all_goals grind
          · by_cases hq0 : q = 0
            · subst hq0
              have w := keyE (fun ⟨s, s1, s2, s3⟩ => by
                rcases Nat.eq_zero_or_pos s with e | e
                · rw [e] at s2 s3; exact c ⟨s2, s3⟩
                · exact hno s s1 e ⟨s2, s3⟩)
              have hcc : I 119 0 = 0 ∨ I 120 (x ^^^ 0) = 0 := by
                by_cases p1 : oneP n y dy tk 0
                · exact Or.inr (t0 (fun p2 => c ⟨p1, p2⟩))
                · exact Or.inl (z0 p1)
              clear ih hno a1 a2 z1 z0 t1 t0 h1 h0 hc keyT keyE c hq
              generalize x ^^^ 0 = X at *
              refine bX12_canMeet_3 ?_
              simp (disch := first | omega | decide) only [w_nl0, w_nli, w_nlr, ↓w_ts1, ↓w_ts0, w_rcv, w_rfv, w_cs, true_and, and_true, List.length_nil, List.length_cons, Nat.reduceAdd, Nat.reduceLeDiff, Nat.zero_le, Nat.reduceLT, ↓w_nil, ix_nI, nI_leP, nI_ltP, nI_eqP, nI_1, ↓i_inN, i_inN, l_le, l_lt, l_eq, r_le, r_lt, r_eq, sh68_0, sh68_1, sh68_2, sh68_3, sh68_4, ↓w_iload_4, ↓w_iflt, ↓w_iload_3, ↓w_ifne, ↓w_aload_0, ↓w_gf3, ↓w_baload, ↓w_ifeq, ↓w_iload_1, ↓w_iconst, ↓w_ixor, ↓w_iand, ↓w_goto, eN]
              repeat' (first
                | (apply And.intro)
                | (with_reducible refine bX12_canMeet_4 ?_; simp (disch := first | omega | decide) only [w_nl0, w_nli, w_nlr, ↓w_ts1, ↓w_ts0, w_rcv, w_rfv, w_cs, true_and, and_true, List.length_nil, List.length_cons, Nat.reduceAdd, Nat.reduceLeDiff, Nat.zero_le, Nat.reduceLT, ↓w_nil, ix_nI, nI_leP, nI_ltP, nI_eqP, nI_1, ↓i_inN, i_inN, l_le, l_lt, l_eq, r_le, r_lt, r_eq, sh68_0, sh68_1, sh68_2, sh68_3, sh68_4, ↓w_iload_2, ↓w_iconst, ↓w_icne, ↓w_aload_0, ↓w_gf3, ↓w_iload_1, ↓w_baload, ↓w_zret, ↓w_istore_3, ↓w_istore_4, ↓w_iload_4, ↓w_iflt, ↓w_iload_3, ↓w_ifne, ↓w_ifeq, ↓w_ixor, ↓w_iand, ↓w_goto, ↓w_isub, eN])
                | (with_reducible refine bX12_canMeet_5 ?_; simp (disch := first | omega | decide) only [w_nl0, w_nli, w_nlr, ↓w_ts1, ↓w_ts0, w_rcv, w_rfv, w_cs, true_and, and_true, List.length_nil, List.length_cons, Nat.reduceAdd, Nat.reduceLeDiff, Nat.zero_le, Nat.reduceLT, ↓w_nil, ix_nI, nI_leP, nI_ltP, nI_eqP, nI_1, ↓i_inN, i_inN, l_le, l_lt, l_eq, r_le, r_lt, r_eq, sh68_0, sh68_1, sh68_2, sh68_3, sh68_4, ↓w_iload_2, ↓w_iconst, ↓w_icne, ↓w_aload_0, ↓w_gf3, ↓w_iload_1, ↓w_baload, ↓w_zret, ↓w_istore_3, ↓w_istore_4, ↓w_iload_4, ↓w_iflt, ↓w_iload_3, ↓w_ifne, ↓w_ifeq, ↓w_ixor, ↓w_iand, ↓w_goto, ↓w_isub, eN])
                | (with_reducible refine bX12_canMeet_6 ?_; simp (disch := first | omega | decide) only [w_nl0, w_nli, w_nlr, ↓w_ts1, ↓w_ts0, w_rcv, w_rfv, w_cs, true_and, and_true, List.length_nil, List.length_cons, Nat.reduceAdd, Nat.reduceLeDiff, Nat.zero_le, Nat.reduceLT, ↓w_nil, ix_nI, nI_leP, nI_ltP, nI_eqP, nI_1, ↓i_inN, i_inN, l_le, l_lt, l_eq, r_le, r_lt, r_eq, sh68_0, sh68_1, sh68_2, sh68_3, sh68_4, ↓w_iload_2, ↓w_iconst, ↓w_icne, ↓w_aload_0, ↓w_gf3, ↓w_iload_1, ↓w_baload, ↓w_zret, ↓w_istore_3, ↓w_istore_4, ↓w_iload_4, ↓w_iflt, ↓w_iload_3, ↓w_ifne, ↓w_ifeq, ↓w_ixor, ↓w_iand, ↓w_goto, ↓w_isub, eN])
                | (with_reducible refine bX12_canMeet_7 ?_; simp (disch := first | omega | decide) only [w_nl0, w_nli, w_nlr, ↓w_ts1, ↓w_ts0, w_rcv, w_rfv, w_cs, true_and, and_true, List.length_nil, List.length_cons, Nat.reduceAdd, Nat.reduceLeDiff, Nat.zero_le, Nat.reduceLT, ↓w_nil, ix_nI, nI_leP, nI_ltP, nI_eqP, nI_1, ↓i_inN, i_inN, l_le, l_lt, l_eq, r_le, r_lt, r_eq, sh68_0, sh68_1, sh68_2, sh68_3, sh68_4, ↓w_iload_2, ↓w_iconst, ↓w_icne, ↓w_aload_0, ↓w_gf3, ↓w_iload_1, ↓w_baload, ↓w_zret, ↓w_istore_3, ↓w_istore_4, ↓w_iload_4, ↓w_iflt, ↓w_iload_3, ↓w_ifne, ↓w_ifeq, ↓w_ixor, ↓w_iand, ↓w_goto, ↓w_isub, eN])
                | (simp only [w_in])
                | (intro _))
              all_goals grind
            · have hlt : (q - 1) &&& x < q := by
                have := Nat.and_le_left (n := q - 1) (m := x)
                omega
              have w := ih ((q - 1) &&& x) hlt and_sub (fun s hs hl => by
                rcases sub_prev hq hs hl with e | e
                · rw [e]; exact c
                · exact hno s hs e)
              have hcc : I 119 q = 0 ∨ I 120 (x ^^^ q) = 0 := by
                by_cases p1 : oneP n y dy tk q
                · exact Or.inr (t0 (fun p2 => c ⟨p1, p2⟩))
                · exact Or.inl (z0 p1)
              have eq1 : nI q - 1 = nI (q - 1) := s1_nI (by omega) (by omega)
              have eA : nI (q - 1) &&& nI x = nI ((q - 1) &&& x) := an_nI
              clear ih hno a1 a2 z1 z0 t1 t0 h1 h0 hc keyT keyE c hq
              generalize x ^^^ q = X at *
              generalize (q - 1) &&& x = N' at *
              refine bX12_canMeet_3 ?_
              simp (disch := first | omega | decide) only [w_nl0, w_nli, w_nlr, ↓w_ts1, ↓w_ts0, w_rcv, w_rfv, w_cs, true_and, and_true, List.length_nil, List.length_cons, Nat.reduceAdd, Nat.reduceLeDiff, Nat.zero_le, Nat.reduceLT, ↓w_nil, ix_nI, nI_leP, nI_ltP, nI_eqP, nI_1, ↓i_inN, i_inN, l_le, l_lt, l_eq, r_le, r_lt, r_eq, sh68_0, sh68_1, sh68_2, sh68_3, sh68_4, ↓w_iload_4, ↓w_iflt, ↓w_iload_3, ↓w_ifne, ↓w_aload_0, ↓w_gf3, ↓w_baload, ↓w_ifeq, ↓w_iload_1, ↓w_iconst, ↓w_ixor, ↓w_iand, ↓w_goto, eN]
              repeat' (first
                | (apply And.intro)
                | (with_reducible refine bX12_canMeet_4 ?_; simp (disch := first | omega | decide) only [w_nl0, w_nli, w_nlr, ↓w_ts1, ↓w_ts0, w_rcv, w_rfv, w_cs, true_and, and_true, List.length_nil, List.length_cons, Nat.reduceAdd, Nat.reduceLeDiff, Nat.zero_le, Nat.reduceLT, ↓w_nil, ix_nI, nI_leP, nI_ltP, nI_eqP, nI_1, ↓i_inN, i_inN, l_le, l_lt, l_eq, r_le, r_lt, r_eq, sh68_0, sh68_1, sh68_2, sh68_3, sh68_4, ↓w_iload_2, ↓w_iconst, ↓w_icne, ↓w_aload_0, ↓w_gf3, ↓w_iload_1, ↓w_baload, ↓w_zret, ↓w_istore_3, ↓w_istore_4, ↓w_iload_4, ↓w_iflt, ↓w_iload_3, ↓w_ifne, ↓w_ifeq, ↓w_ixor, ↓w_iand, ↓w_goto, ↓w_isub, eN, eq1, eA])
                | (with_reducible refine bX12_canMeet_5 ?_; simp (disch := first | omega | decide) only [w_nl0, w_nli, w_nlr, ↓w_ts1, ↓w_ts0, w_rcv, w_rfv, w_cs, true_and, and_true, List.length_nil, List.length_cons, Nat.reduceAdd, Nat.reduceLeDiff, Nat.zero_le, Nat.reduceLT, ↓w_nil, ix_nI, nI_leP, nI_ltP, nI_eqP, nI_1, ↓i_inN, i_inN, l_le, l_lt, l_eq, r_le, r_lt, r_eq, sh68_0, sh68_1, sh68_2, sh68_3, sh68_4, ↓w_iload_2, ↓w_iconst, ↓w_icne, ↓w_aload_0, ↓w_gf3, ↓w_iload_1, ↓w_baload, ↓w_zret, ↓w_istore_3, ↓w_istore_4, ↓w_iload_4, ↓w_iflt, ↓w_iload_3, ↓w_ifne, ↓w_ifeq, ↓w_ixor, ↓w_iand, ↓w_goto, ↓w_isub, eN, eq1, eA])
                | (with_reducible refine bX12_canMeet_6 ?_; simp (disch := first | omega | decide) only [w_nl0, w_nli, w_nlr, ↓w_ts1, ↓w_ts0, w_rcv, w_rfv, w_cs, true_and, and_true, List.length_nil, List.length_cons, Nat.reduceAdd, Nat.reduceLeDiff, Nat.zero_le, Nat.reduceLT, ↓w_nil, ix_nI, nI_leP, nI_ltP, nI_eqP, nI_1, ↓i_inN, i_inN, l_le, l_lt, l_eq, r_le, r_lt, r_eq, sh68_0, sh68_1, sh68_2, sh68_3, sh68_4, ↓w_iload_2, ↓w_iconst, ↓w_icne, ↓w_aload_0, ↓w_gf3, ↓w_iload_1, ↓w_baload, ↓w_zret, ↓w_istore_3, ↓w_istore_4, ↓w_iload_4, ↓w_iflt, ↓w_iload_3, ↓w_ifne, ↓w_ifeq, ↓w_ixor, ↓w_iand, ↓w_goto, ↓w_isub, eN, eq1, eA])
                | (with_reducible refine bX12_canMeet_7 ?_; simp (disch := first | omega | decide) only [w_nl0, w_nli, w_nlr, ↓w_ts1, ↓w_ts0, w_rcv, w_rfv, w_cs, true_and, and_true, List.length_nil, List.length_cons, Nat.reduceAdd, Nat.reduceLeDiff, Nat.zero_le, Nat.reduceLT, ↓w_nil, ix_nI, nI_leP, nI_ltP, nI_eqP, nI_1, ↓i_inN, i_inN, l_le, l_lt, l_eq, r_le, r_lt, r_eq, sh68_0, sh68_1, sh68_2, sh68_3, sh68_4, ↓w_iload_2, ↓w_iconst, ↓w_icne, ↓w_aload_0, ↓w_gf3, ↓w_iload_1, ↓w_baload, ↓w_zret, ↓w_istore_3, ↓w_istore_4, ↓w_iload_4, ↓w_iflt, ↓w_iload_3, ↓w_ifne, ↓w_ifeq, ↓w_ixor, ↓w_iand, ↓w_goto, ↓w_isub, eN, eq1, eA])
                | (simp only [w_in])
                | (intro _))
              all_goals grind
      have w : UU g (d - 1) 282 kX12_canMeet (pm_rm d 282) Q 3 [some (.ref 68), some (.int (nI x)), some (.int (nI 3)), some (.int 0), some (.int (nI x))] [] SH I J (0, 0) := key x (fun _ z => z) (fun s hs hl => by have := sub_le hs; omega)
      clear key keyT keyE h0 h1 a1 a2 hc
      refine eX12_canMeet (by omega) ?_
      repeat' (first
        | (apply And.intro)
        | (with_reducible refine bX12_canMeet_0 ?_; simp (disch := first | omega | decide) only [w_nl0, w_nli, w_nlr, ↓w_ts1, ↓w_ts0, w_rcv, w_rfv, w_cs, true_and, and_true, List.length_nil, List.length_cons, Nat.reduceAdd, Nat.reduceLeDiff, Nat.zero_le, Nat.reduceLT, ↓w_nil, ix_nI, nI_leP, nI_ltP, nI_eqP, nI_1, ↓i_inN, i_inN, l_le, l_lt, l_eq, r_le, r_lt, r_eq, sh68_0, sh68_1, sh68_2, sh68_3, sh68_4, ↓w_iload_2, ↓w_iconst, ↓w_icne, ↓w_aload_0, ↓w_gf3, ↓w_iload_1, ↓w_baload, ↓w_zret, ↓w_istore_3, ↓w_istore_4, ↓w_iload_4, ↓w_iflt, ↓w_iload_3, ↓w_ifne, ↓w_ifeq, ↓w_ixor, ↓w_iand, ↓w_goto, ↓w_isub])
        | (with_reducible refine bX12_canMeet_1 ?_; simp (disch := first | omega | decide) only [w_nl0, w_nli, w_nlr, ↓w_ts1, ↓w_ts0, w_rcv, w_rfv, w_cs, true_and, and_true, List.length_nil, List.length_cons, Nat.reduceAdd, Nat.reduceLeDiff, Nat.zero_le, Nat.reduceLT, ↓w_nil, ix_nI, nI_leP, nI_ltP, nI_eqP, nI_1, ↓i_inN, i_inN, l_le, l_lt, l_eq, r_le, r_lt, r_eq, sh68_0, sh68_1, sh68_2, sh68_3, sh68_4, ↓w_iload_2, ↓w_iconst, ↓w_icne, ↓w_aload_0, ↓w_gf3, ↓w_iload_1, ↓w_baload, ↓w_zret, ↓w_istore_3, ↓w_istore_4, ↓w_iload_4, ↓w_iflt, ↓w_iload_3, ↓w_ifne, ↓w_ifeq, ↓w_ixor, ↓w_iand, ↓w_goto, ↓w_isub])
        | (with_reducible refine bX12_canMeet_2 ?_; simp (disch := first | omega | decide) only [w_nl0, w_nli, w_nlr, ↓w_ts1, ↓w_ts0, w_rcv, w_rfv, w_cs, true_and, and_true, List.length_nil, List.length_cons, Nat.reduceAdd, Nat.reduceLeDiff, Nat.zero_le, Nat.reduceLT, ↓w_nil, ix_nI, nI_leP, nI_ltP, nI_eqP, nI_1, ↓i_inN, i_inN, l_le, l_lt, l_eq, r_le, r_lt, r_eq, sh68_0, sh68_1, sh68_2, sh68_3, sh68_4, ↓w_iload_2, ↓w_iconst, ↓w_icne, ↓w_aload_0, ↓w_gf3, ↓w_iload_1, ↓w_baload, ↓w_zret, ↓w_istore_3, ↓w_istore_4, ↓w_iload_4, ↓w_iflt, ↓w_iload_3, ↓w_ifne, ↓w_ifeq, ↓w_ixor, ↓w_iand, ↓w_goto, ↓w_isub])
        | (simp only [w_in])
        | (intro _))
      all_goals grind
/-- the set that is met: of those that can be met the first with the most copies -/
noncomputable def sel (can : Nat → Prop) (C : Nat → Nat) : Nat → Nat
  | 0 => 0
  | X + 1 => @ite _ (C (sel can C X) < C X ∧ can X) (Classical.propDecidable _) X (sel can C X)
theorem sel_lt {can : Nat → Prop} {C : Nat → Nat} : ∀ X, 0 < X → sel can C X < X
  | 0, h => by omega
  | X + 1, _ => by
    simp only [sel]
    split
    · omega
    · rcases Nat.eq_zero_or_pos X with e | e
      · subst e; simp [sel]
      · have := sel_lt (can := can) (C := C) X e
        omega
theorem sel_can {can : Nat → Prop} {C : Nat → Nat} (h0 : can 0) : ∀ X, can (sel can C X)
  | 0 => h0
  | X + 1 => by
    simp only [sel]
    split
    · rename_i h
      exact h.2
    · exact sel_can h0 X
end C86
