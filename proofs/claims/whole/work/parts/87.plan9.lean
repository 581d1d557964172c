section C87
variable {g : pm_G} {d : Nat} {Q : pm_Po} {S : pm_SS} {I : pm_MI} {J : pm_ML}
abbrev UP (g : pm_G) (d : Nat) (Q : pm_Po) (b : Nat) (ls : pm_LS) (I : pm_MI) (J : pm_ML) : Prop := UU g (d - 1) 283 kX12_plan (pm_rm d 283) Q b ls [] SH I J (0, 0)
/-- the table of what one press meets -/
theorem m_pl1 {n y r P : Nat} {dy cp : Nat → Nat} (hd : 4 ≤ d) (hn : n ≤ 9) (hy : y ≤ 999) (hr1 : 1 ≤ r) (hr2 : r ≤ 10000) (hO : OM I n y dy cp) (hc : ∀ I2, (∀ a, a ≠ 119 → I2 a = I a) → (∀ p, p < 2 ^ n → b01 (I2 119 p) (oneP n y dy (tkV cp r) p)) → UP g d Q 5 [some (.ref 68), some (.int (nI P)), some (.int (nI r)), some (.int (nI (2 ^ n))), some (.int 0), none, none, none, none, none, none] I2 J) : UP g d Q 3 [some (.ref 68), some (.int (nI P)), some (.int (nI r)), some (.int (nI (2 ^ n))), some (.int 0), none, none, none, none, none, none] I J := by
  have hp9 : 2 ^ n ≤ 512 := Nat.pow_le_pow_right (by omega) hn
  have key : ∀ j x I2, j + x = 2 ^ n → (∀ a, a ≠ 119 → I2 a = I a) → (∀ p, p < x → b01 (I2 119 p) (oneP n y dy (tkV cp r) p)) → UP g d Q 3 [some (.ref 68), some (.int (nI P)), some (.int (nI r)), some (.int (nI (2 ^ n))), some (.int (nI x)), none, none, none, none, none, none] I2 J := by
    intro j
    induction j with
    | zero =>
      intro x I2 hx ha hp
      have hxe : x = 2 ^ n := by omega
      rw [hxe] at hp ⊢
      have w := hc I2 ha hp
      clear hc hp ha hO
      refine bX12_plan_3 ?_
      simp (disch := first | omega | decide) only [w_nl0, w_nli, w_nlr, ↓w_ts1, ↓w_ts0, w_rcv, w_rfv, w_cs, true_and, and_true, List.length_nil, List.length_cons, Nat.reduceAdd, Nat.reduceLeDiff, Nat.zero_le, Nat.reduceLT, ↓w_nil, ix_nI, nI_leP, nI_ltP, nI_eqP, nI_1, ↓i_inN, i_inN, l_le, l_lt, l_eq, r_le, r_lt, r_eq, sh68_0, sh68_1, sh68_2, sh68_3, sh68_4, ↓w_iload_4, ↓w_iload_3, ↓w_icge, ↓w_aload_0, ↓w_gf3, ↓w_iload_2, ↓w_iv, ↓pm_cl2_3, ↓w_bastore, ↓w_iinc_4, ↓w_goto]
      repeat' (first
        | (apply And.intro)
        | (with_reducible refine bX12_plan_4 ?_; simp (disch := first | omega | decide) only [w_nl0, w_nli, w_nlr, ↓w_ts1, ↓w_ts0, w_rcv, w_rfv, w_cs, true_and, and_true, List.length_nil, List.length_cons, Nat.reduceAdd, Nat.reduceLeDiff, Nat.zero_le, Nat.reduceLT, ↓w_nil, ix_nI, nI_leP, nI_ltP, nI_eqP, nI_1, ↓i_inN, i_inN, l_le, l_lt, l_eq, r_le, r_lt, r_eq, sh68_0, sh68_1, sh68_2, sh68_3, sh68_4, ↓w_iload_1, ↓w_iconst, ↓w_is, ↓pm_cl1_3, ↓w_ifeq, ↓w_iload_2, ↓w_sipush, ↓w_ifne, ↓w_ret, ↓w_aload_0, ↓w_gf0, ↓w_ishl, ↓w_istore_3, ↓w_istore_4, ↓w_iload_4, ↓w_iload_3, ↓w_icge, ↓w_gf3, ↓w_iv, ↓pm_cl2_3, ↓w_bastore, ↓w_iinc_4, ↓w_goto, ↓w_istore_5, ↓w_iload_5, ↓w_iflt, ↓w_baload, ↓w_ixor, ↓w_iand, ↓w_isub, ↓w_lconst0, ↓w_lstore_5, ↓w_istore_7, ↓w_iload_7, ↓w_lstore_8, ↓w_istore_10, ↓w_iload_10, ↓w_lload_8, ↓w_ishr, ↓w_icne, ↓w_iaload, ↓w_i2l, ↓w_ladd, ↓w_iinc_10, ↓w_lload_5, ↓w_lcmp, ↓w_ifle, ↓w_iinc_7, ↓w_istore_8, ↓w_iload_8, ↓w_iadd, ↓w_iinc_8])
        | (simp only [w_in])
        | (intro _))
      all_goals grind
    | succ j ih =>
      intro x I2 hx ha hp
      have hO2 : OM I2 n y dy cp := by
        unfold OM
        rw [ha 68 (by decide), ha 118 (by decide), ha 117 (by decide)]
        exact hO
      have w : ∀ v, b01 v (oneP n y dy (tkV cp r) x) → UP g d Q 3 [some (.ref 68), some (.int (nI P)), some (.int (nI r)), some (.int (nI (2 ^ n))), some (.int (nI (x + 1))), none, none, none, none, none, none] (pm_up I2 119 x v) J := by
        intro v hv
        refine ih (x + 1) _ (by omega) (fun a hna => by rw [pm_up_o hna]; exact ha a hna) (fun p hpp => ?_)
        rw [up_at]
        by_cases e : p = x
        · rw [if_pos e, e]; exact hv
        · rw [if_neg e]; exact hp p (by omega)
      have t1 : (1 : Int32) &&& 1 = 1 := by decide
      have t0 : (0 : Int32) &&& 1 = 0 := by decide
      by_cases ho : oneP n y dy (tkV cp r) x
      · have w1 := w 1 ⟨fun _ => rfl, fun z => absurd ho z⟩
        clear hc hp ha hO ih w
        refine bX12_plan_3 ?_
        simp (disch := first | omega | decide) only [w_nl0, w_nli, w_nlr, ↓w_ts1, ↓w_ts0, w_rcv, w_rfv, w_cs, true_and, and_true, List.length_nil, List.length_cons, Nat.reduceAdd, Nat.reduceLeDiff, Nat.zero_le, Nat.reduceLT, ↓w_nil, ix_nI, nI_leP, nI_ltP, nI_eqP, nI_1, ↓i_inN, i_inN, l_le, l_lt, l_eq, r_le, r_lt, r_eq, sh68_0, sh68_1, sh68_2, sh68_3, sh68_4, ↓w_iload_4, ↓w_iload_3, ↓w_icge, ↓w_aload_0, ↓w_gf3, ↓w_iload_2, ↓w_iv, ↓pm_cl2_3, ↓w_bastore, ↓w_iinc_4, ↓w_goto]
        repeat' (first
          | (apply And.intro)
          | (with_reducible refine m_meetsAll (by omega) hn (by omega) hy hr1 hr2 hO2 (fun _ => ?_) (fun z => absurd ho z) <;> simp (disch := first | omega | decide) only [w_nl0, w_nli, w_nlr, ↓w_ts1, ↓w_ts0, w_rcv, w_rfv, w_cs, true_and, and_true, List.length_nil, List.length_cons, Nat.reduceAdd, Nat.reduceLeDiff, Nat.zero_le, Nat.reduceLT, ↓w_nil, ix_nI, nI_leP, nI_ltP, nI_eqP, nI_1, ↓i_inN, i_inN, l_le, l_lt, l_eq, r_le, r_lt, r_eq, sh68_0, sh68_1, sh68_2, sh68_3, sh68_4, ↓w_iload_1, ↓w_iconst, ↓w_is, ↓pm_cl1_3, ↓w_ifeq, ↓w_iload_2, ↓w_sipush, ↓w_ifne, ↓w_ret, ↓w_aload_0, ↓w_gf0, ↓w_ishl, ↓w_istore_3, ↓w_istore_4, ↓w_iload_4, ↓w_iload_3, ↓w_icge, ↓w_gf3, ↓w_iv, ↓pm_cl2_3, ↓w_bastore, ↓w_iinc_4, ↓w_goto, ↓w_istore_5, ↓w_iload_5, ↓w_iflt, ↓w_baload, ↓w_ixor, ↓w_iand, ↓w_isub, ↓w_lconst0, ↓w_lstore_5, ↓w_istore_7, ↓w_iload_7, ↓w_lstore_8, ↓w_istore_10, ↓w_iload_10, ↓w_lload_8, ↓w_ishr, ↓w_icne, ↓w_iaload, ↓w_i2l, ↓w_ladd, ↓w_iinc_10, ↓w_lload_5, ↓w_lcmp, ↓w_ifle, ↓w_iinc_7, ↓w_istore_8, ↓w_iload_8, ↓w_iadd, ↓w_iinc_8, t1, nI_add])
          | (simp only [w_in])
          | (intro _))
        all_goals (clear hO2; grind)
      · have w1 := w 0 ⟨fun z => absurd z ho, fun _ => rfl⟩
        clear hc hp ha hO ih w
        refine bX12_plan_3 ?_
        simp (disch := first | omega | decide) only [w_nl0, w_nli, w_nlr, ↓w_ts1, ↓w_ts0, w_rcv, w_rfv, w_cs, true_and, and_true, List.length_nil, List.length_cons, Nat.reduceAdd, Nat.reduceLeDiff, Nat.zero_le, Nat.reduceLT, ↓w_nil, ix_nI, nI_leP, nI_ltP, nI_eqP, nI_1, ↓i_inN, i_inN, l_le, l_lt, l_eq, r_le, r_lt, r_eq, sh68_0, sh68_1, sh68_2, sh68_3, sh68_4, ↓w_iload_4, ↓w_iload_3, ↓w_icge, ↓w_aload_0, ↓w_gf3, ↓w_iload_2, ↓w_iv, ↓pm_cl2_3, ↓w_bastore, ↓w_iinc_4, ↓w_goto]
        repeat' (first
          | (apply And.intro)
          | (with_reducible refine m_meetsAll (by omega) hn (by omega) hy hr1 hr2 hO2 (fun z => absurd z ho) (fun _ => ?_) <;> simp (disch := first | omega | decide) only [w_nl0, w_nli, w_nlr, ↓w_ts1, ↓w_ts0, w_rcv, w_rfv, w_cs, true_and, and_true, List.length_nil, List.length_cons, Nat.reduceAdd, Nat.reduceLeDiff, Nat.zero_le, Nat.reduceLT, ↓w_nil, ix_nI, nI_leP, nI_ltP, nI_eqP, nI_1, ↓i_inN, i_inN, l_le, l_lt, l_eq, r_le, r_lt, r_eq, sh68_0, sh68_1, sh68_2, sh68_3, sh68_4, ↓w_iload_1, ↓w_iconst, ↓w_is, ↓pm_cl1_3, ↓w_ifeq, ↓w_iload_2, ↓w_sipush, ↓w_ifne, ↓w_ret, ↓w_aload_0, ↓w_gf0, ↓w_ishl, ↓w_istore_3, ↓w_istore_4, ↓w_iload_4, ↓w_iload_3, ↓w_icge, ↓w_gf3, ↓w_iv, ↓pm_cl2_3, ↓w_bastore, ↓w_iinc_4, ↓w_goto, ↓w_istore_5, ↓w_iload_5, ↓w_iflt, ↓w_baload, ↓w_ixor, ↓w_iand, ↓w_isub, ↓w_lconst0, ↓w_lstore_5, ↓w_istore_7, ↓w_iload_7, ↓w_lstore_8, ↓w_istore_10, ↓w_iload_10, ↓w_lload_8, ↓w_ishr, ↓w_icne, ↓w_iaload, ↓w_i2l, ↓w_ladd, ↓w_iinc_10, ↓w_lload_5, ↓w_lcmp, ↓w_ifle, ↓w_iinc_7, ↓w_istore_8, ↓w_iload_8, ↓w_iadd, ↓w_iinc_8, t0, nI_add])
          | (simp only [w_in])
          | (intro _))
        all_goals (clear hO2; grind)
  exact key (2 ^ n) 0 I (by omega) (fun _ _ => rfl) (fun p hp => by omega)
/-- the table of what two meet -/
theorem m_pl2 {n y r P : Nat} {dy tk : Nat → Nat} (hd : 4 ≤ d) (hn : n ≤ 9) (a1 : ∀ p, p < 2 ^ n → b01 (I 119 p) (oneP n y dy tk p)) (hc : ∀ I2 x5, (∀ a, a ≠ 120 → I2 a = I a) → (∀ p, p < 2 ^ n → b01 (I2 120 p) (twoP n y dy tk p)) → UP g d Q 12 [some (.ref 68), some (.int (nI P)), some (.int (nI r)), some (.int (nI (2 ^ n))), some (.int (nI (2 ^ n))), x5, none, none, none, none, none] I2 J) : UP g d Q 5 [some (.ref 68), some (.int (nI P)), some (.int (nI r)), some (.int (nI (2 ^ n))), some (.int 0), none, none, none, none, none, none] I J := by
  have hp9 : 2 ^ n ≤ 512 := Nat.pow_le_pow_right (by omega) hn
  have t1 : (1 : Int32) &&& 1 = 1 := by decide
  have t0 : (0 : Int32) &&& 1 = 0 := by decide
  have key : ∀ j x I2 x5, j + x = 2 ^ n → (∀ a, a ≠ 120 → I2 a = I a) → (∀ p, p < x → b01 (I2 120 p) (twoP n y dy tk p)) → UP g d Q 5 [some (.ref 68), some (.int (nI P)), some (.int (nI r)), some (.int (nI (2 ^ n))), some (.int (nI x)), x5, none, none, none, none, none] I2 J := by
    intro j
    induction j with
    | zero =>
      intro x I2 x5 hx ha hp
      have hxe : x = 2 ^ n := by omega
      rw [hxe] at hp ⊢
      have w := hc I2 x5 ha hp
      clear hc hp ha a1
      refine bX12_plan_5 ?_
      simp (disch := first | omega | decide) only [w_nl0, w_nli, w_nlr, ↓w_ts1, ↓w_ts0, w_rcv, w_rfv, w_cs, true_and, and_true, List.length_nil, List.length_cons, Nat.reduceAdd, Nat.reduceLeDiff, Nat.zero_le, Nat.reduceLT, ↓w_nil, ix_nI, nI_leP, nI_ltP, nI_eqP, nI_1, ↓i_inN, i_inN, l_le, l_lt, l_eq, r_le, r_lt, r_eq, sh68_0, sh68_1, sh68_2, sh68_3, sh68_4, ↓w_iload_4, ↓w_iload_3, ↓w_icge, ↓w_aload_0, ↓w_gf3, ↓w_iconst, ↓w_bastore, ↓w_istore_5]
      repeat' (first
        | (apply And.intro)
        | (simp only [w_in])
        | (intro _))
      all_goals grind
    | succ j ih =>
      intro x I2 x5 hx ha hp
      have w : ∀ I3 x5, (∀ a, a ≠ 120 → I3 a = I a) → (∀ p, p < x → I3 120 p = I2 120 p) → b01 (I3 120 x) (twoP n y dy tk x) → UP g d Q 11 [some (.ref 68), some (.int (nI P)), some (.int (nI r)), some (.int (nI (2 ^ n))), some (.int (nI x)), x5, none, none, none, none, none] I3 J := by
        intro I3 x5 h1 h2 h3
        have w := ih (x + 1) I3 x5 (by omega) h1 (fun p hpp => by
          by_cases e : p = x
          · rw [e]; exact h3
          · rw [h2 p (by omega)]; exact hp p (by omega))
        clear ih hc hp ha a1 h1 h2 h3
        refine bX12_plan_11 ?_
        simp (disch := first | omega | decide) only [w_nl0, w_nli, w_nlr, ↓w_ts1, ↓w_ts0, w_rcv, w_rfv, w_cs, true_and, and_true, List.length_nil, List.length_cons, Nat.reduceAdd, Nat.reduceLeDiff, Nat.zero_le, Nat.reduceLT, ↓w_nil, ix_nI, nI_leP, nI_ltP, nI_eqP, nI_1, ↓i_inN, i_inN, l_le, l_lt, l_eq, r_le, r_lt, r_eq, sh68_0, sh68_1, sh68_2, sh68_3, sh68_4, ↓w_iinc_4, ↓w_goto, nI_add]
        repeat' (first
          | (apply And.intro)
          | (simp only [w_in])
          | (intro _))
        all_goals grind
      have keyE : ∀ I3 (v : Int32), (∀ a, a ≠ 120 → I3 a = I a) → (∀ p, p < x → I3 120 p = I2 120 p) → b01 (I3 120 x) (twoP n y dy tk x) → (I3 120 x = 1 ∨ v = -1) → UP g d Q 6 [some (.ref 68), some (.int (nI P)), some (.int (nI r)), some (.int (nI (2 ^ n))), some (.int (nI x)), some (.int v), none, none, none, none, none] I3 J := by
        intro I3 v h1 h2 h3 hv
        have w := fun x5 => w I3 x5 h1 h2 h3
        clear ih hc hp ha a1 h1 h2 h3
        rcases hv with hv | hv
        · refine bX12_plan_6 ?_
          simp (disch := first | omega | decide) only [w_nl0, w_nli, w_nlr, ↓w_ts1, ↓w_ts0, w_rcv, w_rfv, w_cs, true_and, and_true, List.length_nil, List.length_cons, Nat.reduceAdd, Nat.reduceLeDiff, Nat.zero_le, Nat.reduceLT, ↓w_nil, ix_nI, nI_leP, nI_ltP, nI_eqP, nI_1, ↓i_inN, i_inN, l_le, l_lt, l_eq, r_le, r_lt, r_eq, sh68_0, sh68_1, sh68_2, sh68_3, sh68_4, ↓w_iload_5, ↓w_iflt, ↓w_aload_0, ↓w_gf3, ↓w_iload_4, ↓w_baload, ↓w_ifne, ↓w_ifeq, ↓w_iconst, ↓w_ixor, ↓w_iand, ↓w_goto, hv]
          repeat' (first
            | (apply And.intro)
            | (simp only [w_in])
            | (intro _))
          all_goals grind
        · refine bX12_plan_6 ?_
          simp (disch := first | omega | decide) only [w_nl0, w_nli, w_nlr, ↓w_ts1, ↓w_ts0, w_rcv, w_rfv, w_cs, true_and, and_true, List.length_nil, List.length_cons, Nat.reduceAdd, Nat.reduceLeDiff, Nat.zero_le, Nat.reduceLT, ↓w_nil, ix_nI, nI_leP, nI_ltP, nI_eqP, nI_1, ↓i_inN, i_inN, l_le, l_lt, l_eq, r_le, r_lt, r_eq, sh68_0, sh68_1, sh68_2, sh68_3, sh68_4, ↓w_iload_5, ↓w_iflt, ↓w_aload_0, ↓w_gf3, ↓w_iload_4, ↓w_baload, ↓w_ifne, ↓w_ifeq, ↓w_iconst, ↓w_ixor, ↓w_iand, ↓w_goto, hv]
          repeat' (first
            | (apply And.intro)
            | (simp only [w_in])
            | (intro _))
          all_goals grind
      have keyS : ∀ q I3, subS q x → (∀ a, a ≠ 120 → I3 a = I a) → (∀ p, p < x → I3 120 p = I2 120 p) → I3 120 x = 0 → (∀ s, subS s x → q < s → ¬ (oneP n y dy tk s ∧ oneP n y dy tk (x ^^^ s))) → UP g d Q 6 [some (.ref 68), some (.int (nI P)), some (.int (nI r)), some (.int (nI (2 ^ n))), some (.int (nI x)), some (.int (nI q)), none, none, none, none, none] I3 J := by
        intro q
        induction q using Nat.strongRecOn with
        | ind q ihq =>
          intro I3 hq h1 h2 h3 hno
          have hqx := sub_le hq
          have hxq := sub_le (sub_xor hq)
          obtain ⟨z1, z0⟩ := a1 q (by omega)
          obtain ⟨y1, y0⟩ := a1 (x ^^^ q) (by omega)
          have f119 := h1 119 (by decide)
          rw [← f119] at z1 z0 y1 y0
          have eN : nI x &&& (nI q ^^^ -1) = nI (x ^^^ q) := nt_nI hq
          have bX0 : 0 ≤ nI x &&& (nI q ^^^ -1) := by rw [eN]; exact nI_pos' (by omega)
          have bX1 : nI x &&& (nI q ^^^ -1) < 512 := by rw [eN]; exact nI_lt (b := 512) (by omega) (by omega)
          by_cases c : oneP n y dy tk q ∧ oneP n y dy tk (x ^^^ q)
          · have e1 := z1 c.1
            have e2 := y1 c.2
            have w6 := fun v => keyE (pm_up I3 120 x 1) v (fun a hna => by rw [pm_up_o hna]; exact h1 a hna) (fun p hpp => by rw [pm_up_n (by omega)]; exact h2 p hpp) (by
              rw [pm_up_s]
              exact ⟨fun _ => rfl, fun z => absurd ⟨q, hq, c.1, c.2⟩ z⟩) (Or.inl pm_up_s)
            clear ih ihq hno a1 z1 z0 y1 y0 hc keyE w hp ha h1 h2 c hq
            generalize x ^^^ q = X at *
            refine bX12_plan_6 ?_
            simp (disch := first | omega | decide) only [w_nl0, w_nli, w_nlr, ↓w_ts1, ↓w_ts0, w_rcv, w_rfv, w_cs, true_and, and_true, List.length_nil, List.length_cons, Nat.reduceAdd, Nat.reduceLeDiff, Nat.zero_le, Nat.reduceLT, ↓w_nil, ix_nI, nI_leP, nI_ltP, nI_eqP, nI_1, ↓i_inN, i_inN, l_le, l_lt, l_eq, r_le, r_lt, r_eq, sh68_0, sh68_1, sh68_2, sh68_3, sh68_4, ↓w_iload_5, ↓w_iflt, ↓w_aload_0, ↓w_gf3, ↓w_iload_4, ↓w_baload, ↓w_ifne, ↓w_ifeq, ↓w_iconst, ↓w_ixor, ↓w_iand, ↓w_goto, h3, e1, eN]
            repeat' (first
              | (apply And.intro)
              | (with_reducible refine bX12_plan_7 ?_; simp (disch := first | omega | decide) only [w_nl0, w_nli, w_nlr, ↓w_ts1, ↓w_ts0, w_rcv, w_rfv, w_cs, true_and, and_true, List.length_nil, List.length_cons, Nat.reduceAdd, Nat.reduceLeDiff, Nat.zero_le, Nat.reduceLT, ↓w_nil, ix_nI, nI_leP, nI_ltP, nI_eqP, nI_1, ↓i_inN, i_inN, l_le, l_lt, l_eq, r_le, r_lt, r_eq, sh68_0, sh68_1, sh68_2, sh68_3, sh68_4, ↓w_iload_1, ↓w_iconst, ↓w_is, ↓pm_cl1_3, ↓w_ifeq, ↓w_iload_2, ↓w_sipush, ↓w_ifne, ↓w_ret, ↓w_aload_0, ↓w_gf0, ↓w_ishl, ↓w_istore_3, ↓w_istore_4, ↓w_iload_4, ↓w_iload_3, ↓w_icge, ↓w_gf3, ↓w_iv, ↓pm_cl2_3, ↓w_bastore, ↓w_iinc_4, ↓w_goto, ↓w_istore_5, ↓w_iload_5, ↓w_iflt, ↓w_baload, ↓w_ixor, ↓w_iand, ↓w_isub, ↓w_lconst0, ↓w_lstore_5, ↓w_istore_7, ↓w_iload_7, ↓w_lstore_8, ↓w_istore_10, ↓w_iload_10, ↓w_lload_8, ↓w_ishr, ↓w_icne, ↓w_iaload, ↓w_i2l, ↓w_ladd, ↓w_iinc_10, ↓w_lload_5, ↓w_lcmp, ↓w_ifle, ↓w_iinc_7, ↓w_istore_8, ↓w_iload_8, ↓w_iadd, ↓w_iinc_8, h3, e1, eN, e2, t1, Nat.reduceEqDiff, false_and, false_or, or_false])
              | (with_reducible refine bX12_plan_8 ?_; simp (disch := first | omega | decide) only [w_nl0, w_nli, w_nlr, ↓w_ts1, ↓w_ts0, w_rcv, w_rfv, w_cs, true_and, and_true, List.length_nil, List.length_cons, Nat.reduceAdd, Nat.reduceLeDiff, Nat.zero_le, Nat.reduceLT, ↓w_nil, ix_nI, nI_leP, nI_ltP, nI_eqP, nI_1, ↓i_inN, i_inN, l_le, l_lt, l_eq, r_le, r_lt, r_eq, sh68_0, sh68_1, sh68_2, sh68_3, sh68_4, ↓w_iload_1, ↓w_iconst, ↓w_is, ↓pm_cl1_3, ↓w_ifeq, ↓w_iload_2, ↓w_sipush, ↓w_ifne, ↓w_ret, ↓w_aload_0, ↓w_gf0, ↓w_ishl, ↓w_istore_3, ↓w_istore_4, ↓w_iload_4, ↓w_iload_3, ↓w_icge, ↓w_gf3, ↓w_iv, ↓pm_cl2_3, ↓w_bastore, ↓w_iinc_4, ↓w_goto, ↓w_istore_5, ↓w_iload_5, ↓w_iflt, ↓w_baload, ↓w_ixor, ↓w_iand, ↓w_isub, ↓w_lconst0, ↓w_lstore_5, ↓w_istore_7, ↓w_iload_7, ↓w_lstore_8, ↓w_istore_10, ↓w_iload_10, ↓w_lload_8, ↓w_ishr, ↓w_icne, ↓w_iaload, ↓w_i2l, ↓w_ladd, ↓w_iinc_10, ↓w_lload_5, ↓w_lcmp, ↓w_ifle, ↓w_iinc_7, ↓w_istore_8, ↓w_iload_8, ↓w_iadd, ↓w_iinc_8, h3, e1, eN, e2, t1, Nat.reduceEqDiff, false_and, false_or, or_false])
              | (with_reducible refine bX12_plan_9 ?_; simp (disch := first | omega | decide) only [w_nl0, w_nli, w_nlr, ↓w_ts1, ↓w_ts0, w_rcv, w_rfv, w_cs, true_and, and_true, List.length_nil, List.length_cons, Nat.reduceAdd, Nat.reduceLeDiff, Nat.zero_le, Nat.reduceLT, ↓w_nil, ix_nI, nI_leP, nI_ltP, nI_eqP, nI_1, ↓i_inN, i_inN, l_le, l_lt, l_eq, r_le, r_lt, r_eq, sh68_0, sh68_1, sh68_2, sh68_3, sh68_4, ↓w_iload_1, ↓w_iconst, ↓w_is, ↓pm_cl1_3, ↓w_ifeq, ↓w_iload_2, ↓w_sipush, ↓w_ifne, ↓w_ret, ↓w_aload_0, ↓w_gf0, ↓w_ishl, ↓w_istore_3, ↓w_istore_4, ↓w_iload_4, ↓w_iload_3, ↓w_icge, ↓w_gf3, ↓w_iv, ↓pm_cl2_3, ↓w_bastore, ↓w_iinc_4, ↓w_goto, ↓w_istore_5, ↓w_iload_5, ↓w_iflt, ↓w_baload, ↓w_ixor, ↓w_iand, ↓w_isub, ↓w_lconst0, ↓w_lstore_5, ↓w_istore_7, ↓w_iload_7, ↓w_lstore_8, ↓w_istore_10, ↓w_iload_10, ↓w_lload_8, ↓w_ishr, ↓w_icne, ↓w_iaload, ↓w_i2l, ↓w_ladd, ↓w_iinc_10, ↓w_lload_5, ↓w_lcmp, ↓w_ifle, ↓w_iinc_7, ↓w_istore_8, ↓w_iload_8, ↓w_iadd, ↓w_iinc_8, h3, e1, eN, e2, t1, Nat.reduceEqDiff, false_and, false_or, or_false])
              | (with_reducible refine bX12_plan_10 ?_; simp (disch := first | omega | decide) only [w_nl0, w_nli, w_nlr, ↓w_ts1, ↓w_ts0, w_rcv, w_rfv, w_cs, true_and, and_true, List.length_nil, List.length_cons, Nat.reduceAdd, Nat.reduceLeDiff, Nat.zero_le, Nat.reduceLT, ↓w_nil, ix_nI, nI_leP, nI_ltP, nI_eqP, nI_1, ↓i_inN, i_inN, l_le, l_lt, l_eq, r_le, r_lt, r_eq, sh68_0, sh68_1, sh68_2, sh68_3, sh68_4, ↓w_iload_1, ↓w_iconst, ↓w_is, ↓pm_cl1_3, ↓w_ifeq, ↓w_iload_2, ↓w_sipush, ↓w_ifne, ↓w_ret, ↓w_aload_0, ↓w_gf0, ↓w_ishl, ↓w_istore_3, ↓w_istore_4, ↓w_iload_4, ↓w_iload_3, ↓w_icge, ↓w_gf3, ↓w_iv, ↓pm_cl2_3, ↓w_bastore, ↓w_iinc_4, ↓w_goto, ↓w_istore_5, ↓w_iload_5, ↓w_iflt, ↓w_baload, ↓w_ixor, ↓w_iand, ↓w_isub, ↓w_lconst0, ↓w_lstore_5, ↓w_istore_7, ↓w_iload_7, ↓w_lstore_8, ↓w_istore_10, ↓w_iload_10, ↓w_lload_8, ↓w_ishr, ↓w_icne, ↓w_iaload, ↓w_i2l, ↓w_ladd, ↓w_iinc_10, ↓w_lload_5, ↓w_lcmp, ↓w_ifle, ↓w_iinc_7, ↓w_istore_8, ↓w_iload_8, ↓w_iadd, ↓w_iinc_8, h3, e1, eN, e2, t1, Nat.reduceEqDiff, false_and, false_or, or_false])
              | (simp only [w_in])
              | (intro _))
            all_goals grind
          · have hcc : I3 119 q = 0 ∨ I3 119 (x ^^^ q) = 0 := by
              by_cases p1 : oneP n y dy tk q
              · exact Or.inr (y0 (fun p2 => c ⟨p1, p2⟩))
              · exact Or.inl (z0 p1)
            have u0 : pm_up I3 120 x 0 = I3 := by
              have := up_id (I := I3) (a := 120) (i := x)
              rw [h3] at this
              exact this
            by_cases hq0 : q = 0
            · subst hq0
              have w6 := keyE I3 (-1) h1 h2 (by
                rw [h3]
                refine ⟨fun ⟨s, s1, s2, s3⟩ => ?_, fun _ => rfl⟩
                rcases Nat.eq_zero_or_pos s with e | e
                · rw [e] at s2 s3; exact absurd ⟨s2, s3⟩ c
                · exact absurd ⟨s2, s3⟩ (hno s s1 e)) (Or.inr rfl)
              clear ih ihq hno a1 z1 z0 y1 y0 hc keyE w hp ha h1 h2 c hq
              generalize x ^^^ 0 = X at *
              refine bX12_plan_6 ?_
              simp (disch := first | omega | decide) only [w_nl0, w_nli, w_nlr, ↓w_ts1, ↓w_ts0, w_rcv, w_rfv, w_cs, true_and, and_true, List.length_nil, List.length_cons, Nat.reduceAdd, Nat.reduceLeDiff, Nat.zero_le, Nat.reduceLT, ↓w_nil, ix_nI, nI_leP, nI_ltP, nI_eqP, nI_1, ↓i_inN, i_inN, l_le, l_lt, l_eq, r_le, r_lt, r_eq, sh68_0, sh68_1, sh68_2, sh68_3, sh68_4, ↓w_iload_5, ↓w_iflt, ↓w_aload_0, ↓w_gf3, ↓w_iload_4, ↓w_baload, ↓w_ifne, ↓w_ifeq, ↓w_iconst, ↓w_ixor, ↓w_iand, ↓w_goto, h3, eN]
              repeat' (first
                | (apply And.intro)
                | (with_reducible refine bX12_plan_7 ?_; simp (disch := first | omega | decide) only [w_nl0, w_nli, w_nlr, ↓w_ts1, ↓w_ts0, w_rcv, w_rfv, w_cs, true_and, and_true, List.length_nil, List.length_cons, Nat.reduceAdd, Nat.reduceLeDiff, Nat.zero_le, Nat.reduceLT, ↓w_nil, ix_nI, nI_leP, nI_ltP, nI_eqP, nI_1, ↓i_inN, i_inN, l_le, l_lt, l_eq, r_le, r_lt, r_eq, sh68_0, sh68_1, sh68_2, sh68_3, sh68_4, ↓w_iload_1, ↓w_iconst, ↓w_is, ↓pm_cl1_3, ↓w_ifeq, ↓w_iload_2, ↓w_sipush, ↓w_ifne, ↓w_ret, ↓w_aload_0, ↓w_gf0, ↓w_ishl, ↓w_istore_3, ↓w_istore_4, ↓w_iload_4, ↓w_iload_3, ↓w_icge, ↓w_gf3, ↓w_iv, ↓pm_cl2_3, ↓w_bastore, ↓w_iinc_4, ↓w_goto, ↓w_istore_5, ↓w_iload_5, ↓w_iflt, ↓w_baload, ↓w_ixor, ↓w_iand, ↓w_isub, ↓w_lconst0, ↓w_lstore_5, ↓w_istore_7, ↓w_iload_7, ↓w_lstore_8, ↓w_istore_10, ↓w_iload_10, ↓w_lload_8, ↓w_ishr, ↓w_icne, ↓w_iaload, ↓w_i2l, ↓w_ladd, ↓w_iinc_10, ↓w_lload_5, ↓w_lcmp, ↓w_ifle, ↓w_iinc_7, ↓w_istore_8, ↓w_iload_8, ↓w_iadd, ↓w_iinc_8, h3, eN, t0, u0, Nat.reduceEqDiff, false_and, false_or, or_false])
                | (with_reducible refine bX12_plan_8 ?_; simp (disch := first | omega | decide) only [w_nl0, w_nli, w_nlr, ↓w_ts1, ↓w_ts0, w_rcv, w_rfv, w_cs, true_and, and_true, List.length_nil, List.length_cons, Nat.reduceAdd, Nat.reduceLeDiff, Nat.zero_le, Nat.reduceLT, ↓w_nil, ix_nI, nI_leP, nI_ltP, nI_eqP, nI_1, ↓i_inN, i_inN, l_le, l_lt, l_eq, r_le, r_lt, r_eq, sh68_0, sh68_1, sh68_2, sh68_3, sh68_4, ↓w_iload_1, ↓w_iconst, ↓w_is, ↓pm_cl1_3, ↓w_ifeq, ↓w_iload_2, ↓w_sipush, ↓w_ifne, ↓w_ret, ↓w_aload_0, ↓w_gf0, ↓w_ishl, ↓w_istore_3, ↓w_istore_4, ↓w_iload_4, ↓w_iload_3, ↓w_icge, ↓w_gf3, ↓w_iv, ↓pm_cl2_3, ↓w_bastore, ↓w_iinc_4, ↓w_goto, ↓w_istore_5, ↓w_iload_5, ↓w_iflt, ↓w_baload, ↓w_ixor, ↓w_iand, ↓w_isub, ↓w_lconst0, ↓w_lstore_5, ↓w_istore_7, ↓w_iload_7, ↓w_lstore_8, ↓w_istore_10, ↓w_iload_10, ↓w_lload_8, ↓w_ishr, ↓w_icne, ↓w_iaload, ↓w_i2l, ↓w_ladd, ↓w_iinc_10, ↓w_lload_5, ↓w_lcmp, ↓w_ifle, ↓w_iinc_7, ↓w_istore_8, ↓w_iload_8, ↓w_iadd, ↓w_iinc_8, h3, eN, t0, u0, Nat.reduceEqDiff, false_and, false_or, or_false])
                | (with_reducible refine bX12_plan_9 ?_; simp (disch := first | omega | decide) only [w_nl0, w_nli, w_nlr, ↓w_ts1, ↓w_ts0, w_rcv, w_rfv, w_cs, true_and, and_true, List.length_nil, List.length_cons, Nat.reduceAdd, Nat.reduceLeDiff, Nat.zero_le, Nat.reduceLT, ↓w_nil, ix_nI, nI_leP, nI_ltP, nI_eqP, nI_1, ↓i_inN, i_inN, l_le, l_lt, l_eq, r_le, r_lt, r_eq, sh68_0, sh68_1, sh68_2, sh68_3, sh68_4, ↓w_iload_1, ↓w_iconst, ↓w_is, ↓pm_cl1_3, ↓w_ifeq, ↓w_iload_2, ↓w_sipush, ↓w_ifne, ↓w_ret, ↓w_aload_0, ↓w_gf0, ↓w_ishl, ↓w_istore_3, ↓w_istore_4, ↓w_iload_4, ↓w_iload_3, ↓w_icge, ↓w_gf3, ↓w_iv, ↓pm_cl2_3, ↓w_bastore, ↓w_iinc_4, ↓w_goto, ↓w_istore_5, ↓w_iload_5, ↓w_iflt, ↓w_baload, ↓w_ixor, ↓w_iand, ↓w_isub, ↓w_lconst0, ↓w_lstore_5, ↓w_istore_7, ↓w_iload_7, ↓w_lstore_8, ↓w_istore_10, ↓w_iload_10, ↓w_lload_8, ↓w_ishr, ↓w_icne, ↓w_iaload, ↓w_i2l, ↓w_ladd, ↓w_iinc_10, ↓w_lload_5, ↓w_lcmp, ↓w_ifle, ↓w_iinc_7, ↓w_istore_8, ↓w_iload_8, ↓w_iadd, ↓w_iinc_8, h3, eN, t0, u0, Nat.reduceEqDiff, false_and, false_or, or_false])
                | (with_reducible refine bX12_plan_10 ?_; simp (disch := first | omega | decide) only [w_nl0, w_nli, w_nlr, ↓w_ts1, ↓w_ts0, w_rcv, w_rfv, w_cs, true_and, and_true, List.length_nil, List.length_cons, Nat.reduceAdd, Nat.reduceLeDiff, Nat.zero_le, Nat.reduceLT, ↓w_nil, ix_nI, nI_leP, nI_ltP, nI_eqP, nI_1, ↓i_inN, i_inN, l_le, l_lt, l_eq, r_le, r_lt, r_eq, sh68_0, sh68_1, sh68_2, sh68_3, sh68_4, ↓w_iload_1, ↓w_iconst, ↓w_is, ↓pm_cl1_3, ↓w_ifeq, ↓w_iload_2, ↓w_sipush, ↓w_ifne, ↓w_ret, ↓w_aload_0, ↓w_gf0, ↓w_ishl, ↓w_istore_3, ↓w_istore_4, ↓w_iload_4, ↓w_iload_3, ↓w_icge, ↓w_gf3, ↓w_iv, ↓pm_cl2_3, ↓w_bastore, ↓w_iinc_4, ↓w_goto, ↓w_istore_5, ↓w_iload_5, ↓w_iflt, ↓w_baload, ↓w_ixor, ↓w_iand, ↓w_isub, ↓w_lconst0, ↓w_lstore_5, ↓w_istore_7, ↓w_iload_7, ↓w_lstore_8, ↓w_istore_10, ↓w_iload_10, ↓w_lload_8, ↓w_ishr, ↓w_icne, ↓w_iaload, ↓w_i2l, ↓w_ladd, ↓w_iinc_10, ↓w_lload_5, ↓w_lcmp, ↓w_ifle, ↓w_iinc_7, ↓w_istore_8, ↓w_iload_8, ↓w_iadd, ↓w_iinc_8, h3, eN, t0, u0, Nat.reduceEqDiff, false_and, false_or, or_false])
                | (simp only [w_in])
                | (intro _))
              all_goals grind
            · have hlt : (q - 1) &&& x < q := by
                have := Nat.and_le_left (n := q - 1) (m := x)
                omega
              have w6 := ihq ((q - 1) &&& x) hlt I3 and_sub h1 h2 h3 (fun s hs hl => by
                rcases sub_prev hq hs hl with e | e
                · rw [e]; exact c
                · exact hno s hs e)
              have eq1 : nI q - 1 = nI (q - 1) := s1_nI (by omega) (by omega)
              have eA : nI (q - 1) &&& nI x = nI ((q - 1) &&& x) := an_nI
              clear ih ihq hno a1 z1 z0 y1 y0 hc keyE w hp ha h1 h2 c hq
              generalize x ^^^ q = X at *
              generalize (q - 1) &&& x = N' at *
              refine bX12_plan_6 ?_
              simp (disch := first | omega | decide) only [w_nl0, w_nli, w_nlr, ↓w_ts1, ↓w_ts0, w_rcv, w_rfv, w_cs, true_and, and_true, List.length_nil, List.length_cons, Nat.reduceAdd, Nat.reduceLeDiff, Nat.zero_le, Nat.reduceLT, ↓w_nil, ix_nI, nI_leP, nI_ltP, nI_eqP, nI_1, ↓i_inN, i_inN, l_le, l_lt, l_eq, r_le, r_lt, r_eq, sh68_0, sh68_1, sh68_2, sh68_3, sh68_4, ↓w_iload_5, ↓w_iflt, ↓w_aload_0, ↓w_gf3, ↓w_iload_4, ↓w_baload, ↓w_ifne, ↓w_ifeq, ↓w_iconst, ↓w_ixor, ↓w_iand, ↓w_goto, h3, eN]
              repeat' (first
                | (apply And.intro)
                | (with_reducible refine bX12_plan_7 ?_; simp (disch := first | omega | decide) only [w_nl0, w_nli, w_nlr, ↓w_ts1, ↓w_ts0, w_rcv, w_rfv, w_cs, true_and, and_true, List.length_nil, List.length_cons, Nat.reduceAdd, Nat.reduceLeDiff, Nat.zero_le, Nat.reduceLT, ↓w_nil, ix_nI, nI_leP, nI_ltP, nI_eqP, nI_1, ↓i_inN, i_inN, l_le, l_lt, l_eq, r_le, r_lt, r_eq, sh68_0, sh68_1, sh68_2, sh68_3, sh68_4, ↓w_iload_1, ↓w_iconst, ↓w_is, ↓pm_cl1_3, ↓w_ifeq, ↓w_iload_2, ↓w_sipush, ↓w_ifne, ↓w_ret, ↓w_aload_0, ↓w_gf0, ↓w_ishl, ↓w_istore_3, ↓w_istore_4, ↓w_iload_4, ↓w_iload_3, ↓w_icge, ↓w_gf3, ↓w_iv, ↓pm_cl2_3, ↓w_bastore, ↓w_iinc_4, ↓w_goto, ↓w_istore_5, ↓w_iload_5, ↓w_iflt, ↓w_baload, ↓w_ixor, ↓w_iand, ↓w_isub, ↓w_lconst0, ↓w_lstore_5, ↓w_istore_7, ↓w_iload_7, ↓w_lstore_8, ↓w_istore_10, ↓w_iload_10, ↓w_lload_8, ↓w_ishr, ↓w_icne, ↓w_iaload, ↓w_i2l, ↓w_ladd, ↓w_iinc_10, ↓w_lload_5, ↓w_lcmp, ↓w_ifle, ↓w_iinc_7, ↓w_istore_8, ↓w_iload_8, ↓w_iadd, ↓w_iinc_8, h3, eN, t0, u0, eq1, eA, Nat.reduceEqDiff, false_and, false_or, or_false])
                | (with_reducible refine bX12_plan_8 ?_; simp (disch := first | omega | decide) only [w_nl0, w_nli, w_nlr, ↓w_ts1, ↓w_ts0, w_rcv, w_rfv, w_cs, true_and, and_true, List.length_nil, List.length_cons, Nat.reduceAdd, Nat.reduceLeDiff, Nat.zero_le, Nat.reduceLT, ↓w_nil, ix_nI, nI_leP, nI_ltP, nI_eqP, nI_1, ↓i_inN, i_inN, l_le, l_lt, l_eq, r_le, r_lt, r_eq, sh68_0, sh68_1, sh68_2, sh68_3, sh68_4, ↓w_iload_1, ↓w_iconst, ↓w_is, ↓pm_cl1_3, ↓w_ifeq, ↓w_iload_2, ↓w_sipush, ↓w_ifne, ↓w_ret, ↓w_aload_0, ↓w_gf0, ↓w_ishl, ↓w_istore_3, ↓w_istore_4, ↓w_iload_4, ↓w_iload_3, ↓w_icge, ↓w_gf3, ↓w_iv, ↓pm_cl2_3, ↓w_bastore, ↓w_iinc_4, ↓w_goto, ↓w_istore_5, ↓w_iload_5, ↓w_iflt, ↓w_baload, ↓w_ixor, ↓w_iand, ↓w_isub, ↓w_lconst0, ↓w_lstore_5, ↓w_istore_7, ↓w_iload_7, ↓w_lstore_8, ↓w_istore_10, ↓w_iload_10, ↓w_lload_8, ↓w_ishr, ↓w_icne, ↓w_iaload, ↓w_i2l, ↓w_ladd, ↓w_iinc_10, ↓w_lload_5, ↓w_lcmp, ↓w_ifle, ↓w_iinc_7, ↓w_istore_8, ↓w_iload_8, ↓w_iadd, ↓w_iinc_8, h3, eN, t0, u0, eq1, eA, Nat.reduceEqDiff, false_and, false_or, or_false])
                | (with_reducible refine bX12_plan_9 ?_; simp (disch := first | omega | decide) only [w_nl0, w_nli, w_nlr, ↓w_ts1, ↓w_ts0, w_rcv, w_rfv, w_cs, true_and, and_true, List.length_nil, List.length_cons, Nat.reduceAdd, Nat.reduceLeDiff, Nat.zero_le, Nat.reduceLT, ↓w_nil, ix_nI, nI_leP, nI_ltP, nI_eqP, nI_1, ↓i_inN, i_inN, l_le, l_lt, l_eq, r_le, r_lt, r_eq, sh68_0, sh68_1, sh68_2, sh68_3, sh68_4, ↓w_iload_1, ↓w_iconst, ↓w_is, ↓pm_cl1_3, ↓w_ifeq, ↓w_iload_2, ↓w_sipush, ↓w_ifne, ↓w_ret, ↓w_aload_0, ↓w_gf0, ↓w_ishl, ↓w_istore_3, ↓w_istore_4, ↓w_iload_4, ↓w_iload_3, ↓w_icge, ↓w_gf3, ↓w_iv, ↓pm_cl2_3, ↓w_bastore, ↓w_iinc_4, ↓w_goto, ↓w_istore_5, ↓w_iload_5, ↓w_iflt, ↓w_baload, ↓w_ixor, ↓w_iand, ↓w_isub, ↓w_lconst0, ↓w_lstore_5, ↓w_istore_7, ↓w_iload_7, ↓w_lstore_8, ↓w_istore_10, ↓w_iload_10, ↓w_lload_8, ↓w_ishr, ↓w_icne, ↓w_iaload, ↓w_i2l, ↓w_ladd, ↓w_iinc_10, ↓w_lload_5, ↓w_lcmp, ↓w_ifle, ↓w_iinc_7, ↓w_istore_8, ↓w_iload_8, ↓w_iadd, ↓w_iinc_8, h3, eN, t0, u0, eq1, eA, Nat.reduceEqDiff, false_and, false_or, or_false])
                | (with_reducible refine bX12_plan_10 ?_; simp (disch := first | omega | decide) only [w_nl0, w_nli, w_nlr, ↓w_ts1, ↓w_ts0, w_rcv, w_rfv, w_cs, true_and, and_true, List.length_nil, List.length_cons, Nat.reduceAdd, Nat.reduceLeDiff, Nat.zero_le, Nat.reduceLT, ↓w_nil, ix_nI, nI_leP, nI_ltP, nI_eqP, nI_1, ↓i_inN, i_inN, l_le, l_lt, l_eq, r_le, r_lt, r_eq, sh68_0, sh68_1, sh68_2, sh68_3, sh68_4, ↓w_iload_1, ↓w_iconst, ↓w_is, ↓pm_cl1_3, ↓w_ifeq, ↓w_iload_2, ↓w_sipush, ↓w_ifne, ↓w_ret, ↓w_aload_0, ↓w_gf0, ↓w_ishl, ↓w_istore_3, ↓w_istore_4, ↓w_iload_4, ↓w_iload_3, ↓w_icge, ↓w_gf3, ↓w_iv, ↓pm_cl2_3, ↓w_bastore, ↓w_iinc_4, ↓w_goto, ↓w_istore_5, ↓w_iload_5, ↓w_iflt, ↓w_baload, ↓w_ixor, ↓w_iand, ↓w_isub, ↓w_lconst0, ↓w_lstore_5, ↓w_istore_7, ↓w_iload_7, ↓w_lstore_8, ↓w_istore_10, ↓w_iload_10, ↓w_lload_8, ↓w_ishr, ↓w_icne, ↓w_iaload, ↓w_i2l, ↓w_ladd, ↓w_iinc_10, ↓w_lload_5, ↓w_lcmp, ↓w_ifle, ↓w_iinc_7, ↓w_istore_8, ↓w_iload_8, ↓w_iadd, ↓w_iinc_8, h3, eN, t0, u0, eq1, eA, Nat.reduceEqDiff, false_and, false_or, or_false])
                | (simp only [w_in])
                | (intro _))
              all_goals grind
      have w6 := keyS x (pm_up I2 120 x 0) (fun _ z => z) (fun a hna => by rw [pm_up_o hna]; exact ha a hna) (fun p hpp => by rw [pm_up_n (by omega)]) pm_up_s (fun s hs hl => by have := sub_le hs; omega)
      clear keyS keyE w ih hc hp ha a1
      refine bX12_plan_5 ?_
      simp (disch := first | omega | decide) only [w_nl0, w_nli, w_nlr, ↓w_ts1, ↓w_ts0, w_rcv, w_rfv, w_cs, true_and, and_true, List.length_nil, List.length_cons, Nat.reduceAdd, Nat.reduceLeDiff, Nat.zero_le, Nat.reduceLT, ↓w_nil, ix_nI, nI_leP, nI_ltP, nI_eqP, nI_1, ↓i_inN, i_inN, l_le, l_lt, l_eq, r_le, r_lt, r_eq, sh68_0, sh68_1, sh68_2, sh68_3, sh68_4, ↓w_iload_4, ↓w_iload_3, ↓w_icge, ↓w_aload_0, ↓w_gf3, ↓w_iconst, ↓w_bastore, ↓w_istore_5, t0]
      repeat' (first
        | (apply And.intro)
        | (simp only [w_in])
        | (intro _))
      all_goals grind
  exact key (2 ^ n) 0 I none (by omega) (fun _ _ => rfl) (fun p hp => by omega)
end C87
