section C55
variable {g : pm_G} {d : Nat} {Q : pm_Po} {S : pm_SS} {I : pm_MI} {J : pm_ML}
theorem thing_pos {w a b : Int32} (h : abR w a b) : thingV w a b = itT w a b ∧ ∃ t, t < 33 ∧ itT w a b = nI t := by
  have hr : 0 ≤ itT w a b ∧ itT w a b < nI 33 := by
    have : nI 33 = (33 : Int32) := rfl
    unfold abR at h
    unfold itT
    rcases h with ⟨rfl, h1⟩ | rfl | ⟨rfl | rfl, h1⟩ <;> simp <;> grind
  refine ⟨?_, i_q (by decide) hr.1 hr.2⟩
  unfold abR at h
  unfold thingV itT
  rcases h with ⟨rfl, h1⟩ | rfl | ⟨rfl | rfl, h1⟩ <;> simp <;> grind
theorem thing_neg {w a b : Int32} (h : ¬ abR w a b) : thingV w a b = -1 := by
  unfold abR at h
  unfold thingV
  grind
theorem unr_pl {w a b : Int32} (h : abR w a b) : unrV (itT w a b) = plV w a b := by
  unfold abR at h
  rcases h with ⟨rfl, h1⟩ | rfl | ⟨rfl | rfl, h1⟩
  · obtain ⟨p, hp, rfl⟩ := i_q (x := a) (n := 4) (by decide) h1.1.1 (by have : nI 4 = (4 : Int32) := rfl; grind)
    obtain ⟨q, hq, rfl⟩ := i_q (x := b) (n := 4) (by decide) h1.2.1 (by have : nI 4 = (4 : Int32) := rfl; grind)
    rcases (show p = 0 ∨ p = 1 ∨ p = 2 ∨ p = 3 by omega) with rfl | rfl | rfl | rfl <;> rcases (show q = 0 ∨ q = 1 ∨ q = 2 ∨ q = 3 by omega) with rfl | rfl | rfl | rfl <;> rfl
  · rfl
  · unfold unrV plV itT
    simp
    grind
  · unfold unrV plV itT
    simp
    grind
theorem rel_sf {I : pm_MI} {J : pm_ML} {x y : Int32} (h : Rel I J) : RelW (pm_up (pm_up I 68 21 x) 68 22 y) J := by
  obtain ⟨a1, a2, a3, a4, a5, a6, a7, a8, a9, a10, a11, a12⟩ := h
  refine ⟨trivial, ?_, ?_, ?_, ?_, ?_, ?_, ?_, ?_, ?_, ?_, ?_, ?_⟩
  all_goals (simp (disch := decide) only [pm_up_o, pm_up_n, pm_up_s]; first | assumption | skip)
/-- what the reference finds in force is what the class finds -/
theorem rel_force {I : pm_MI} {J : pm_ML} {w a b day known : Int32} {t N : Nat} (h : Rel I J) (hN : I 31 5 = nI N) (hN24 : N ≤ 24) (hab : abR w a b) (ht : itT w a b = nI t) (ht33 : t < 33) : (sfV I w a b day known N).2 = rfV I t day known N ∧ (sfV I w a b day known N).1 = ifV I t day known N := by
  obtain ⟨r1, r2, r3, M, hM, hM2, hR⟩ := h.2.2.2.2.2.2.2.1
  have := nI_inj (by omega) (by omega) (hN.symm.trans hM2)
  subst this
  have k := sf_rf (I := I) (day := day) (known := known) (t := t) hN24 hab ht r2 r3 (fun r hr => by
    obtain ⟨q, hq, e⟩ := (hR r hr).1
    rw [e]; exact nI_pos' (by omega)) (fun r hr => by
    obtain ⟨K, h1, h2, h3, h4⟩ := (hR r hr).2
    exact ⟨K, h1, h2, h3, h4 t ht33⟩)
  refine ⟨k.1, ?_⟩
  unfold ifV
  rcases k.2 with ⟨h1, h2⟩ | ⟨j, hj, h1, h2⟩
  · rw [if_pos h1, h2, ← unr_pl hab, ht]
  · rw [h1, if_neg (n9 (by omega)), ix_nI (by omega), h2]
theorem rel_items {I : pm_MI} {J : pm_ML} {N : Nat} (h : Rel I J) (hN : I 31 5 = nI N) (hN24 : N ≤ 24) : ∀ r, r < N → ∃ M, M ≤ 24 ∧ I 77 r = nI M := by
  obtain ⟨r1, r2, r3, M, hM, hM2, hR⟩ := h.2.2.2.2.2.2.2.1
  have := nI_inj (by omega) (by omega) (hN.symm.trans hM2)
  subst this
  intro r hr
  obtain ⟨K, h1, h2, _⟩ := (hR r hr).2
  exact ⟨K, h1, h2⟩
theorem p_force {w a b y z : Int32} (hd : 10 ≤ d) : PC g d 150 219 [.int w, .int a, .int b, .int y, .int z] := by
  intro I J h
  have hw := relw h
  obtain ⟨r1, r2, r3, N, hN, hN2, hR⟩ := h.2.2.2.2.2.2.2.1
  clear hR
  by_cases hx : abR w a b
  · obtain ⟨e1, t, ht, e2⟩ := thing_pos hx
    have hf := rel_force (day := y) (known := z) h hN2 hN hx e2 ht
    have hit := rel_items h hN2 hN
    have hn := rel_sf (x := (sfV I w a b y z N).1) (y := (sfV I w a b y z N).2) h
    have hp : ¬ thingV w a b < 0 := by
      rw [e1, e2]
      have := nI_rng (n := t) (N := t) (by omega) (by omega)
      grind
    have ha := hx
    unfold abR at ha
    refine eX11_force (by omega) ?_
    repeat' (first
      | (apply And.intro)
      | (with_reducible refine bX11_force_0 ?_; simp (disch := first | omega | decide) only [w_nl0, w_nli, w_nlr, ↓w_ts1, ↓w_ts0, w_rcv, w_rfv, w_cs, true_and, and_true, List.length_nil, List.length_cons, Nat.reduceAdd, Nat.reduceLeDiff, Nat.zero_le, Nat.reduceLT, ↓w_nil, ix_nI, nI_leP, nI_ltP, nI_eqP, nI_1, ↓i_inN, i_inN, l_le, l_lt, l_eq, r_le, r_lt, r_eq, sh0, sh1, sh55, sh60, sh9, sh31, sh23, sh37, sh42, sh43, sh19, sh3, sh6, ↓w_iload_1, ↓w_iload_2, ↓w_iload_3, ↓w_is, ↓pm_cl1_3, ↓w_istore_6, ↓w_iload_6, ↓w_iflt, ↓w_iload_4, ↓pm_cl1_1, ↓w_ifeq, ↓w_iload_5, ↓w_ifne, ↓w_iconst, ↓w_ret, ↓w_aload_0, ↓w_gf3, ↓w_iv, ↓pm_cl2_4])
      | (with_reducible refine bX11_force_1 ?_; simp (disch := first | omega | decide) only [w_nl0, w_nli, w_nlr, ↓w_ts1, ↓w_ts0, w_rcv, w_rfv, w_cs, true_and, and_true, List.length_nil, List.length_cons, Nat.reduceAdd, Nat.reduceLeDiff, Nat.zero_le, Nat.reduceLT, ↓w_nil, ix_nI, nI_leP, nI_ltP, nI_eqP, nI_1, ↓i_inN, i_inN, l_le, l_lt, l_eq, r_le, r_lt, r_eq, sh0, sh1, sh55, sh60, sh9, sh31, sh23, sh37, sh42, sh43, sh19, sh3, sh6, ↓w_iload_1, ↓w_iload_2, ↓w_iload_3, ↓w_is, ↓pm_cl1_3, ↓w_istore_6, ↓w_iload_6, ↓w_iflt, ↓w_iload_4, ↓pm_cl1_1, ↓w_ifeq, ↓w_iload_5, ↓w_ifne, ↓w_iconst, ↓w_ret, ↓w_aload_0, ↓w_gf3, ↓w_iv, ↓pm_cl2_4])
      | (with_reducible refine bX11_force_2 ?_; simp (disch := first | omega | decide) only [w_nl0, w_nli, w_nlr, ↓w_ts1, ↓w_ts0, w_rcv, w_rfv, w_cs, true_and, and_true, List.length_nil, List.length_cons, Nat.reduceAdd, Nat.reduceLeDiff, Nat.zero_le, Nat.reduceLT, ↓w_nil, ix_nI, nI_leP, nI_ltP, nI_eqP, nI_1, ↓i_inN, i_inN, l_le, l_lt, l_eq, r_le, r_lt, r_eq, sh0, sh1, sh55, sh60, sh9, sh31, sh23, sh37, sh42, sh43, sh19, sh3, sh6, ↓w_iload_1, ↓w_iload_2, ↓w_iload_3, ↓w_is, ↓pm_cl1_3, ↓w_istore_6, ↓w_iload_6, ↓w_iflt, ↓w_iload_4, ↓pm_cl1_1, ↓w_ifeq, ↓w_iload_5, ↓w_ifne, ↓w_iconst, ↓w_ret, ↓w_aload_0, ↓w_gf3, ↓w_iv, ↓pm_cl2_4])
      | (with_reducible refine c_thing (by omega) ?_ ; simp (disch := first | omega | decide) only [w_nl0, w_nli, w_nlr, ↓w_ts1, ↓w_ts0, w_rcv, w_rfv, w_cs, true_and, and_true, List.length_nil, List.length_cons, Nat.reduceAdd, Nat.reduceLeDiff, Nat.zero_le, Nat.reduceLT, ↓w_nil, ix_nI, nI_leP, nI_ltP, nI_eqP, nI_1, ↓i_inN, i_inN, l_le, l_lt, l_eq, r_le, r_lt, r_eq, sh0, sh1, sh55, sh60, sh9, sh31, sh23, sh37, sh42, sh43, sh19, sh3, sh6, ↓w_iload_1, ↓w_iload_2, ↓w_iload_3, ↓w_is, ↓pm_cl1_3, ↓w_istore_6, ↓w_iload_6, ↓w_iflt, ↓w_iload_4, ↓pm_cl1_1, ↓w_ifeq, ↓w_iload_5, ↓w_ifne, ↓w_iconst, ↓w_ret, ↓w_aload_0, ↓w_gf3, ↓w_iv, ↓pm_cl2_4])
      | (with_reducible refine c_isDay (by omega) ?_ ; simp (disch := first | omega | decide) only [w_nl0, w_nli, w_nlr, ↓w_ts1, ↓w_ts0, w_rcv, w_rfv, w_cs, true_and, and_true, List.length_nil, List.length_cons, Nat.reduceAdd, Nat.reduceLeDiff, Nat.zero_le, Nat.reduceLT, ↓w_nil, ix_nI, nI_leP, nI_ltP, nI_eqP, nI_1, ↓i_inN, i_inN, l_le, l_lt, l_eq, r_le, r_lt, r_eq, sh0, sh1, sh55, sh60, sh9, sh31, sh23, sh37, sh42, sh43, sh19, sh3, sh6, ↓w_iload_1, ↓w_iload_2, ↓w_iload_3, ↓w_is, ↓pm_cl1_3, ↓w_istore_6, ↓w_iload_6, ↓w_iflt, ↓w_iload_4, ↓pm_cl1_1, ↓w_ifeq, ↓w_iload_5, ↓w_ifne, ↓w_iconst, ↓w_ret, ↓w_aload_0, ↓w_gf3, ↓w_iv, ↓pm_cl2_4])
      | (with_reducible refine c_inForce (t := t) (by omega) hN2 hN (by rw [e1, e2]) ht ?_ ; simp (disch := first | omega | decide) only [w_nl0, w_nli, w_nlr, ↓w_ts1, ↓w_ts0, w_rcv, w_rfv, w_cs, true_and, and_true, List.length_nil, List.length_cons, Nat.reduceAdd, Nat.reduceLeDiff, Nat.zero_le, Nat.reduceLT, ↓w_nil, ix_nI, nI_leP, nI_ltP, nI_eqP, nI_1, ↓i_inN, i_inN, l_le, l_lt, l_eq, r_le, r_lt, r_eq, sh0, sh1, sh55, sh60, sh9, sh31, sh23, sh37, sh42, sh43, sh19, sh3, sh6, ↓w_iload_1, ↓w_iload_2, ↓w_iload_3, ↓w_is, ↓pm_cl1_3, ↓w_istore_6, ↓w_iload_6, ↓w_iflt, ↓w_iload_4, ↓pm_cl1_1, ↓w_ifeq, ↓w_iload_5, ↓w_ifne, ↓w_iconst, ↓w_ret, ↓w_aload_0, ↓w_gf3, ↓w_iv, ↓pm_cl2_4])
      | (simp only [w_in])
      | (intro _))
    all_goals try rfl
    all_goals try grind
    all_goals try refine MC.of (eX12_force (by omega) ?_)
    all_goals
      repeat' (first
        | (apply And.intro)
        | (with_reducible refine bX12_force_0 ?_; simp (disch := first | omega | decide) only [w_nl0, w_nli, w_nlr, ↓w_ts1, ↓w_ts0, w_rcv, w_rfv, w_cs, true_and, and_true, List.length_nil, List.length_cons, Nat.reduceAdd, Nat.reduceLeDiff, Nat.zero_le, Nat.reduceLT, ↓w_nil, ix_nI, nI_leP, nI_ltP, nI_eqP, nI_1, ↓i_inN, i_inN, l_le, l_lt, l_eq, r_le, r_lt, r_eq, sh68_0, sh68_1, sh68_2, sh68_3, sh68_4, ↓w_iload_1, ↓w_iload_2, ↓w_iload_3, ↓w_is, ↓pm_cl1_3, ↓w_ifeq, ↓w_iload_4, ↓pm_cl1_1, ↓w_iload_5, ↓w_aload_0, ↓w_iv, ↓pm_cl2_6, ↓w_goto, ↓w_iconst, ↓w_ret])
        | (with_reducible refine bX12_force_1 ?_; simp (disch := first | omega | decide) only [w_nl0, w_nli, w_nlr, ↓w_ts1, ↓w_ts0, w_rcv, w_rfv, w_cs, true_and, and_true, List.length_nil, List.length_cons, Nat.reduceAdd, Nat.reduceLeDiff, Nat.zero_le, Nat.reduceLT, ↓w_nil, ix_nI, nI_leP, nI_ltP, nI_eqP, nI_1, ↓i_inN, i_inN, l_le, l_lt, l_eq, r_le, r_lt, r_eq, sh68_0, sh68_1, sh68_2, sh68_3, sh68_4, ↓w_iload_1, ↓w_iload_2, ↓w_iload_3, ↓w_is, ↓pm_cl1_3, ↓w_ifeq, ↓w_iload_4, ↓pm_cl1_1, ↓w_iload_5, ↓w_aload_0, ↓w_iv, ↓pm_cl2_6, ↓w_goto, ↓w_iconst, ↓w_ret])
        | (with_reducible refine bX12_force_2 ?_; simp (disch := first | omega | decide) only [w_nl0, w_nli, w_nlr, ↓w_ts1, ↓w_ts0, w_rcv, w_rfv, w_cs, true_and, and_true, List.length_nil, List.length_cons, Nat.reduceAdd, Nat.reduceLeDiff, Nat.zero_le, Nat.reduceLT, ↓w_nil, ix_nI, nI_leP, nI_ltP, nI_eqP, nI_1, ↓i_inN, i_inN, l_le, l_lt, l_eq, r_le, r_lt, r_eq, sh68_0, sh68_1, sh68_2, sh68_3, sh68_4, ↓w_iload_1, ↓w_iload_2, ↓w_iload_3, ↓w_is, ↓pm_cl1_3, ↓w_ifeq, ↓w_iload_4, ↓pm_cl1_1, ↓w_iload_5, ↓w_aload_0, ↓w_iv, ↓pm_cl2_6, ↓w_goto, ↓w_iconst, ↓w_ret])
        | (with_reducible refine m_isAbout (by omega) ?_ ; simp (disch := first | omega | decide) only [w_nl0, w_nli, w_nlr, ↓w_ts1, ↓w_ts0, w_rcv, w_rfv, w_cs, true_and, and_true, List.length_nil, List.length_cons, Nat.reduceAdd, Nat.reduceLeDiff, Nat.zero_le, Nat.reduceLT, ↓w_nil, ix_nI, nI_leP, nI_ltP, nI_eqP, nI_1, ↓i_inN, i_inN, l_le, l_lt, l_eq, r_le, r_lt, r_eq, sh68_0, sh68_1, sh68_2, sh68_3, sh68_4, ↓w_iload_1, ↓w_iload_2, ↓w_iload_3, ↓w_is, ↓pm_cl1_3, ↓w_ifeq, ↓w_iload_4, ↓pm_cl1_1, ↓w_iload_5, ↓w_aload_0, ↓w_iv, ↓pm_cl2_6, ↓w_goto, ↓w_iconst, ↓w_ret])
        | (with_reducible refine m_isDay (by omega) ?_ ; simp (disch := first | omega | decide) only [w_nl0, w_nli, w_nlr, ↓w_ts1, ↓w_ts0, w_rcv, w_rfv, w_cs, true_and, and_true, List.length_nil, List.length_cons, Nat.reduceAdd, Nat.reduceLeDiff, Nat.zero_le, Nat.reduceLT, ↓w_nil, ix_nI, nI_leP, nI_ltP, nI_eqP, nI_1, ↓i_inN, i_inN, l_le, l_lt, l_eq, r_le, r_lt, r_eq, sh68_0, sh68_1, sh68_2, sh68_3, sh68_4, ↓w_iload_1, ↓w_iload_2, ↓w_iload_3, ↓w_is, ↓pm_cl1_3, ↓w_ifeq, ↓w_iload_4, ↓pm_cl1_1, ↓w_iload_5, ↓w_aload_0, ↓w_iv, ↓pm_cl2_6, ↓w_goto, ↓w_iconst, ↓w_ret])
        | (with_reducible refine m_seekForce (n := N) (by omega) (by rw [r1, hN2]) hN hit ?_ ; simp (disch := first | omega | decide) only [w_nl0, w_nli, w_nlr, ↓w_ts1, ↓w_ts0, w_rcv, w_rfv, w_cs, true_and, and_true, List.length_nil, List.length_cons, Nat.reduceAdd, Nat.reduceLeDiff, Nat.zero_le, Nat.reduceLT, ↓w_nil, ix_nI, nI_leP, nI_ltP, nI_eqP, nI_1, ↓i_inN, i_inN, l_le, l_lt, l_eq, r_le, r_lt, r_eq, sh68_0, sh68_1, sh68_2, sh68_3, sh68_4, ↓w_iload_1, ↓w_iload_2, ↓w_iload_3, ↓w_is, ↓pm_cl1_3, ↓w_ifeq, ↓w_iload_4, ↓pm_cl1_1, ↓w_iload_5, ↓w_aload_0, ↓w_iv, ↓pm_cl2_6, ↓w_goto, ↓w_iconst, ↓w_ret])
        | (simp only [w_in])
        | (intro _))
    all_goals first | rfl | exact hw | exact relw_found hw | exact relw_asks hw | grind
  · have hp := thing_neg hx
    have ha := hx
    unfold abR at ha
    refine eX11_force (by omega) ?_
    repeat' (first
      | (apply And.intro)
      | (with_reducible refine bX11_force_0 ?_; simp (disch := first | omega | decide) only [w_nl0, w_nli, w_nlr, ↓w_ts1, ↓w_ts0, w_rcv, w_rfv, w_cs, true_and, and_true, List.length_nil, List.length_cons, Nat.reduceAdd, Nat.reduceLeDiff, Nat.zero_le, Nat.reduceLT, ↓w_nil, ix_nI, nI_leP, nI_ltP, nI_eqP, nI_1, ↓i_inN, i_inN, l_le, l_lt, l_eq, r_le, r_lt, r_eq, sh0, sh1, sh55, sh60, sh9, sh31, sh23, sh37, sh42, sh43, sh19, sh3, sh6, ↓w_iload_1, ↓w_iload_2, ↓w_iload_3, ↓w_is, ↓pm_cl1_3, ↓w_istore_6, ↓w_iload_6, ↓w_iflt, ↓w_iload_4, ↓pm_cl1_1, ↓w_ifeq, ↓w_iload_5, ↓w_ifne, ↓w_iconst, ↓w_ret, ↓w_aload_0, ↓w_gf3, ↓w_iv, ↓pm_cl2_4, hp])
      | (with_reducible refine bX11_force_1 ?_; simp (disch := first | omega | decide) only [w_nl0, w_nli, w_nlr, ↓w_ts1, ↓w_ts0, w_rcv, w_rfv, w_cs, true_and, and_true, List.length_nil, List.length_cons, Nat.reduceAdd, Nat.reduceLeDiff, Nat.zero_le, Nat.reduceLT, ↓w_nil, ix_nI, nI_leP, nI_ltP, nI_eqP, nI_1, ↓i_inN, i_inN, l_le, l_lt, l_eq, r_le, r_lt, r_eq, sh0, sh1, sh55, sh60, sh9, sh31, sh23, sh37, sh42, sh43, sh19, sh3, sh6, ↓w_iload_1, ↓w_iload_2, ↓w_iload_3, ↓w_is, ↓pm_cl1_3, ↓w_istore_6, ↓w_iload_6, ↓w_iflt, ↓w_iload_4, ↓pm_cl1_1, ↓w_ifeq, ↓w_iload_5, ↓w_ifne, ↓w_iconst, ↓w_ret, ↓w_aload_0, ↓w_gf3, ↓w_iv, ↓pm_cl2_4, hp])
      | (with_reducible refine bX11_force_2 ?_; simp (disch := first | omega | decide) only [w_nl0, w_nli, w_nlr, ↓w_ts1, ↓w_ts0, w_rcv, w_rfv, w_cs, true_and, and_true, List.length_nil, List.length_cons, Nat.reduceAdd, Nat.reduceLeDiff, Nat.zero_le, Nat.reduceLT, ↓w_nil, ix_nI, nI_leP, nI_ltP, nI_eqP, nI_1, ↓i_inN, i_inN, l_le, l_lt, l_eq, r_le, r_lt, r_eq, sh0, sh1, sh55, sh60, sh9, sh31, sh23, sh37, sh42, sh43, sh19, sh3, sh6, ↓w_iload_1, ↓w_iload_2, ↓w_iload_3, ↓w_is, ↓pm_cl1_3, ↓w_istore_6, ↓w_iload_6, ↓w_iflt, ↓w_iload_4, ↓pm_cl1_1, ↓w_ifeq, ↓w_iload_5, ↓w_ifne, ↓w_iconst, ↓w_ret, ↓w_aload_0, ↓w_gf3, ↓w_iv, ↓pm_cl2_4, hp])
      | (with_reducible refine c_thing (by omega) ?_ ; simp (disch := first | omega | decide) only [w_nl0, w_nli, w_nlr, ↓w_ts1, ↓w_ts0, w_rcv, w_rfv, w_cs, true_and, and_true, List.length_nil, List.length_cons, Nat.reduceAdd, Nat.reduceLeDiff, Nat.zero_le, Nat.reduceLT, ↓w_nil, ix_nI, nI_leP, nI_ltP, nI_eqP, nI_1, ↓i_inN, i_inN, l_le, l_lt, l_eq, r_le, r_lt, r_eq, sh0, sh1, sh55, sh60, sh9, sh31, sh23, sh37, sh42, sh43, sh19, sh3, sh6, ↓w_iload_1, ↓w_iload_2, ↓w_iload_3, ↓w_is, ↓pm_cl1_3, ↓w_istore_6, ↓w_iload_6, ↓w_iflt, ↓w_iload_4, ↓pm_cl1_1, ↓w_ifeq, ↓w_iload_5, ↓w_ifne, ↓w_iconst, ↓w_ret, ↓w_aload_0, ↓w_gf3, ↓w_iv, ↓pm_cl2_4, hp])
      | (with_reducible refine c_isDay (by omega) ?_ ; simp (disch := first | omega | decide) only [w_nl0, w_nli, w_nlr, ↓w_ts1, ↓w_ts0, w_rcv, w_rfv, w_cs, true_and, and_true, List.length_nil, List.length_cons, Nat.reduceAdd, Nat.reduceLeDiff, Nat.zero_le, Nat.reduceLT, ↓w_nil, ix_nI, nI_leP, nI_ltP, nI_eqP, nI_1, ↓i_inN, i_inN, l_le, l_lt, l_eq, r_le, r_lt, r_eq, sh0, sh1, sh55, sh60, sh9, sh31, sh23, sh37, sh42, sh43, sh19, sh3, sh6, ↓w_iload_1, ↓w_iload_2, ↓w_iload_3, ↓w_is, ↓pm_cl1_3, ↓w_istore_6, ↓w_iload_6, ↓w_iflt, ↓w_iload_4, ↓pm_cl1_1, ↓w_ifeq, ↓w_iload_5, ↓w_ifne, ↓w_iconst, ↓w_ret, ↓w_aload_0, ↓w_gf3, ↓w_iv, ↓pm_cl2_4, hp])
      | (simp only [w_in])
      | (intro _))
    all_goals try rfl
    all_goals try grind
    all_goals try refine MC.of (eX12_force (by omega) ?_)
    all_goals
      repeat' (first
        | (apply And.intro)
        | (with_reducible refine bX12_force_0 ?_; simp (disch := first | omega | decide) only [w_nl0, w_nli, w_nlr, ↓w_ts1, ↓w_ts0, w_rcv, w_rfv, w_cs, true_and, and_true, List.length_nil, List.length_cons, Nat.reduceAdd, Nat.reduceLeDiff, Nat.zero_le, Nat.reduceLT, ↓w_nil, ix_nI, nI_leP, nI_ltP, nI_eqP, nI_1, ↓i_inN, i_inN, l_le, l_lt, l_eq, r_le, r_lt, r_eq, sh68_0, sh68_1, sh68_2, sh68_3, sh68_4, ↓w_iload_1, ↓w_iload_2, ↓w_iload_3, ↓w_is, ↓pm_cl1_3, ↓w_ifeq, ↓w_iload_4, ↓pm_cl1_1, ↓w_iload_5, ↓w_aload_0, ↓w_iv, ↓pm_cl2_6, ↓w_goto, ↓w_iconst, ↓w_ret])
        | (with_reducible refine bX12_force_1 ?_; simp (disch := first | omega | decide) only [w_nl0, w_nli, w_nlr, ↓w_ts1, ↓w_ts0, w_rcv, w_rfv, w_cs, true_and, and_true, List.length_nil, List.length_cons, Nat.reduceAdd, Nat.reduceLeDiff, Nat.zero_le, Nat.reduceLT, ↓w_nil, ix_nI, nI_leP, nI_ltP, nI_eqP, nI_1, ↓i_inN, i_inN, l_le, l_lt, l_eq, r_le, r_lt, r_eq, sh68_0, sh68_1, sh68_2, sh68_3, sh68_4, ↓w_iload_1, ↓w_iload_2, ↓w_iload_3, ↓w_is, ↓pm_cl1_3, ↓w_ifeq, ↓w_iload_4, ↓pm_cl1_1, ↓w_iload_5, ↓w_aload_0, ↓w_iv, ↓pm_cl2_6, ↓w_goto, ↓w_iconst, ↓w_ret])
        | (with_reducible refine bX12_force_2 ?_; simp (disch := first | omega | decide) only [w_nl0, w_nli, w_nlr, ↓w_ts1, ↓w_ts0, w_rcv, w_rfv, w_cs, true_and, and_true, List.length_nil, List.length_cons, Nat.reduceAdd, Nat.reduceLeDiff, Nat.zero_le, Nat.reduceLT, ↓w_nil, ix_nI, nI_leP, nI_ltP, nI_eqP, nI_1, ↓i_inN, i_inN, l_le, l_lt, l_eq, r_le, r_lt, r_eq, sh68_0, sh68_1, sh68_2, sh68_3, sh68_4, ↓w_iload_1, ↓w_iload_2, ↓w_iload_3, ↓w_is, ↓pm_cl1_3, ↓w_ifeq, ↓w_iload_4, ↓pm_cl1_1, ↓w_iload_5, ↓w_aload_0, ↓w_iv, ↓pm_cl2_6, ↓w_goto, ↓w_iconst, ↓w_ret])
        | (with_reducible refine m_isAbout (by omega) ?_ ; simp (disch := first | omega | decide) only [w_nl0, w_nli, w_nlr, ↓w_ts1, ↓w_ts0, w_rcv, w_rfv, w_cs, true_and, and_true, List.length_nil, List.length_cons, Nat.reduceAdd, Nat.reduceLeDiff, Nat.zero_le, Nat.reduceLT, ↓w_nil, ix_nI, nI_leP, nI_ltP, nI_eqP, nI_1, ↓i_inN, i_inN, l_le, l_lt, l_eq, r_le, r_lt, r_eq, sh68_0, sh68_1, sh68_2, sh68_3, sh68_4, ↓w_iload_1, ↓w_iload_2, ↓w_iload_3, ↓w_is, ↓pm_cl1_3, ↓w_ifeq, ↓w_iload_4, ↓pm_cl1_1, ↓w_iload_5, ↓w_aload_0, ↓w_iv, ↓pm_cl2_6, ↓w_goto, ↓w_iconst, ↓w_ret])
        | (with_reducible refine m_isDay (by omega) ?_ ; simp (disch := first | omega | decide) only [w_nl0, w_nli, w_nlr, ↓w_ts1, ↓w_ts0, w_rcv, w_rfv, w_cs, true_and, and_true, List.length_nil, List.length_cons, Nat.reduceAdd, Nat.reduceLeDiff, Nat.zero_le, Nat.reduceLT, ↓w_nil, ix_nI, nI_leP, nI_ltP, nI_eqP, nI_1, ↓i_inN, i_inN, l_le, l_lt, l_eq, r_le, r_lt, r_eq, sh68_0, sh68_1, sh68_2, sh68_3, sh68_4, ↓w_iload_1, ↓w_iload_2, ↓w_iload_3, ↓w_is, ↓pm_cl1_3, ↓w_ifeq, ↓w_iload_4, ↓pm_cl1_1, ↓w_iload_5, ↓w_aload_0, ↓w_iv, ↓pm_cl2_6, ↓w_goto, ↓w_iconst, ↓w_ret])
        | (simp only [w_in])
        | (intro _))
    all_goals first | rfl | exact hw | exact relw_found hw | exact relw_asks hw | grind
theorem p_why {w a b y z : Int32} (hd : 10 ≤ d) : PC g d 151 220 [.int w, .int a, .int b, .int y, .int z] := by
  intro I J h
  have hw := relw h
  obtain ⟨r1, r2, r3, N, hN, hN2, hR⟩ := h.2.2.2.2.2.2.2.1
  clear hR
  by_cases hx : abR w a b
  · obtain ⟨e1, t, ht, e2⟩ := thing_pos hx
    have hf := rel_force (day := y) (known := z) h hN2 hN hx e2 ht
    have hit := rel_items h hN2 hN
    have hn := rel_sf (x := (sfV I w a b y z N).1) (y := (sfV I w a b y z N).2) h
    have hp : ¬ thingV w a b < 0 := by
      rw [e1, e2]
      have := nI_rng (n := t) (N := t) (by omega) (by omega)
      grind
    have ha := hx
    unfold abR at ha
    refine eX11_why (by omega) ?_
    repeat' (first
      | (apply And.intro)
      | (with_reducible refine bX11_why_0 ?_; simp (disch := first | omega | decide) only [w_nl0, w_nli, w_nlr, ↓w_ts1, ↓w_ts0, w_rcv, w_rfv, w_cs, true_and, and_true, List.length_nil, List.length_cons, Nat.reduceAdd, Nat.reduceLeDiff, Nat.zero_le, Nat.reduceLT, ↓w_nil, ix_nI, nI_leP, nI_ltP, nI_eqP, nI_1, ↓i_inN, i_inN, l_le, l_lt, l_eq, r_le, r_lt, r_eq, sh0, sh1, sh55, sh60, sh9, sh31, sh23, sh37, sh42, sh43, sh19, sh3, sh6, ↓w_iload_1, ↓w_iload_2, ↓w_iload_3, ↓w_is, ↓pm_cl1_3, ↓w_istore_6, ↓w_iload_6, ↓w_iflt, ↓w_iload_4, ↓pm_cl1_1, ↓w_ifeq, ↓w_iload_5, ↓w_ifne, ↓w_iconst, ↓w_ret, ↓w_aload_0, ↓w_gf3, ↓w_iv, ↓pm_cl2_4])
      | (with_reducible refine bX11_why_1 ?_; simp (disch := first | omega | decide) only [w_nl0, w_nli, w_nlr, ↓w_ts1, ↓w_ts0, w_rcv, w_rfv, w_cs, true_and, and_true, List.length_nil, List.length_cons, Nat.reduceAdd, Nat.reduceLeDiff, Nat.zero_le, Nat.reduceLT, ↓w_nil, ix_nI, nI_leP, nI_ltP, nI_eqP, nI_1, ↓i_inN, i_inN, l_le, l_lt, l_eq, r_le, r_lt, r_eq, sh0, sh1, sh55, sh60, sh9, sh31, sh23, sh37, sh42, sh43, sh19, sh3, sh6, ↓w_iload_1, ↓w_iload_2, ↓w_iload_3, ↓w_is, ↓pm_cl1_3, ↓w_istore_6, ↓w_iload_6, ↓w_iflt, ↓w_iload_4, ↓pm_cl1_1, ↓w_ifeq, ↓w_iload_5, ↓w_ifne, ↓w_iconst, ↓w_ret, ↓w_aload_0, ↓w_gf3, ↓w_iv, ↓pm_cl2_4])
      | (with_reducible refine bX11_why_2 ?_; simp (disch := first | omega | decide) only [w_nl0, w_nli, w_nlr, ↓w_ts1, ↓w_ts0, w_rcv, w_rfv, w_cs, true_and, and_true, List.length_nil, List.length_cons, Nat.reduceAdd, Nat.reduceLeDiff, Nat.zero_le, Nat.reduceLT, ↓w_nil, ix_nI, nI_leP, nI_ltP, nI_eqP, nI_1, ↓i_inN, i_inN, l_le, l_lt, l_eq, r_le, r_lt, r_eq, sh0, sh1, sh55, sh60, sh9, sh31, sh23, sh37, sh42, sh43, sh19, sh3, sh6, ↓w_iload_1, ↓w_iload_2, ↓w_iload_3, ↓w_is, ↓pm_cl1_3, ↓w_istore_6, ↓w_iload_6, ↓w_iflt, ↓w_iload_4, ↓pm_cl1_1, ↓w_ifeq, ↓w_iload_5, ↓w_ifne, ↓w_iconst, ↓w_ret, ↓w_aload_0, ↓w_gf3, ↓w_iv, ↓pm_cl2_4])
      | (with_reducible refine c_thing (by omega) ?_ ; simp (disch := first | omega | decide) only [w_nl0, w_nli, w_nlr, ↓w_ts1, ↓w_ts0, w_rcv, w_rfv, w_cs, true_and, and_true, List.length_nil, List.length_cons, Nat.reduceAdd, Nat.reduceLeDiff, Nat.zero_le, Nat.reduceLT, ↓w_nil, ix_nI, nI_leP, nI_ltP, nI_eqP, nI_1, ↓i_inN, i_inN, l_le, l_lt, l_eq, r_le, r_lt, r_eq, sh0, sh1, sh55, sh60, sh9, sh31, sh23, sh37, sh42, sh43, sh19, sh3, sh6, ↓w_iload_1, ↓w_iload_2, ↓w_iload_3, ↓w_is, ↓pm_cl1_3, ↓w_istore_6, ↓w_iload_6, ↓w_iflt, ↓w_iload_4, ↓pm_cl1_1, ↓w_ifeq, ↓w_iload_5, ↓w_ifne, ↓w_iconst, ↓w_ret, ↓w_aload_0, ↓w_gf3, ↓w_iv, ↓pm_cl2_4])
      | (with_reducible refine c_isDay (by omega) ?_ ; simp (disch := first | omega | decide) only [w_nl0, w_nli, w_nlr, ↓w_ts1, ↓w_ts0, w_rcv, w_rfv, w_cs, true_and, and_true, List.length_nil, List.length_cons, Nat.reduceAdd, Nat.reduceLeDiff, Nat.zero_le, Nat.reduceLT, ↓w_nil, ix_nI, nI_leP, nI_ltP, nI_eqP, nI_1, ↓i_inN, i_inN, l_le, l_lt, l_eq, r_le, r_lt, r_eq, sh0, sh1, sh55, sh60, sh9, sh31, sh23, sh37, sh42, sh43, sh19, sh3, sh6, ↓w_iload_1, ↓w_iload_2, ↓w_iload_3, ↓w_is, ↓pm_cl1_3, ↓w_istore_6, ↓w_iload_6, ↓w_iflt, ↓w_iload_4, ↓pm_cl1_1, ↓w_ifeq, ↓w_iload_5, ↓w_ifne, ↓w_iconst, ↓w_ret, ↓w_aload_0, ↓w_gf3, ↓w_iv, ↓pm_cl2_4])
      | (with_reducible refine c_ruleFor (t := t) (by omega) hN2 hN (by rw [e1, e2]) ht ?_ ; simp (disch := first | omega | decide) only [w_nl0, w_nli, w_nlr, ↓w_ts1, ↓w_ts0, w_rcv, w_rfv, w_cs, true_and, and_true, List.length_nil, List.length_cons, Nat.reduceAdd, Nat.reduceLeDiff, Nat.zero_le, Nat.reduceLT, ↓w_nil, ix_nI, nI_leP, nI_ltP, nI_eqP, nI_1, ↓i_inN, i_inN, l_le, l_lt, l_eq, r_le, r_lt, r_eq, sh0, sh1, sh55, sh60, sh9, sh31, sh23, sh37, sh42, sh43, sh19, sh3, sh6, ↓w_iload_1, ↓w_iload_2, ↓w_iload_3, ↓w_is, ↓pm_cl1_3, ↓w_istore_6, ↓w_iload_6, ↓w_iflt, ↓w_iload_4, ↓pm_cl1_1, ↓w_ifeq, ↓w_iload_5, ↓w_ifne, ↓w_iconst, ↓w_ret, ↓w_aload_0, ↓w_gf3, ↓w_iv, ↓pm_cl2_4])
      | (simp only [w_in])
      | (intro _))
    all_goals try rfl
    all_goals try grind
    all_goals try refine MC.of (eX12_why (by omega) ?_)
    all_goals
      repeat' (first
        | (apply And.intro)
        | (with_reducible refine bX12_why_0 ?_; simp (disch := first | omega | decide) only [w_nl0, w_nli, w_nlr, ↓w_ts1, ↓w_ts0, w_rcv, w_rfv, w_cs, true_and, and_true, List.length_nil, List.length_cons, Nat.reduceAdd, Nat.reduceLeDiff, Nat.zero_le, Nat.reduceLT, ↓w_nil, ix_nI, nI_leP, nI_ltP, nI_eqP, nI_1, ↓i_inN, i_inN, l_le, l_lt, l_eq, r_le, r_lt, r_eq, sh68_0, sh68_1, sh68_2, sh68_3, sh68_4, ↓w_iload_1, ↓w_iload_2, ↓w_iload_3, ↓w_is, ↓pm_cl1_3, ↓w_ifeq, ↓w_iload_4, ↓pm_cl1_1, ↓w_iload_5, ↓w_ifne, ↓w_iconst, ↓w_ret, ↓w_aload_0, ↓w_iv, ↓pm_cl2_6, ↓w_pop, ↓w_gf0, pm_up_s])
        | (with_reducible refine bX12_why_1 ?_; simp (disch := first | omega | decide) only [w_nl0, w_nli, w_nlr, ↓w_ts1, ↓w_ts0, w_rcv, w_rfv, w_cs, true_and, and_true, List.length_nil, List.length_cons, Nat.reduceAdd, Nat.reduceLeDiff, Nat.zero_le, Nat.reduceLT, ↓w_nil, ix_nI, nI_leP, nI_ltP, nI_eqP, nI_1, ↓i_inN, i_inN, l_le, l_lt, l_eq, r_le, r_lt, r_eq, sh68_0, sh68_1, sh68_2, sh68_3, sh68_4, ↓w_iload_1, ↓w_iload_2, ↓w_iload_3, ↓w_is, ↓pm_cl1_3, ↓w_ifeq, ↓w_iload_4, ↓pm_cl1_1, ↓w_iload_5, ↓w_ifne, ↓w_iconst, ↓w_ret, ↓w_aload_0, ↓w_iv, ↓pm_cl2_6, ↓w_pop, ↓w_gf0, pm_up_s])
        | (with_reducible refine bX12_why_2 ?_; simp (disch := first | omega | decide) only [w_nl0, w_nli, w_nlr, ↓w_ts1, ↓w_ts0, w_rcv, w_rfv, w_cs, true_and, and_true, List.length_nil, List.length_cons, Nat.reduceAdd, Nat.reduceLeDiff, Nat.zero_le, Nat.reduceLT, ↓w_nil, ix_nI, nI_leP, nI_ltP, nI_eqP, nI_1, ↓i_inN, i_inN, l_le, l_lt, l_eq, r_le, r_lt, r_eq, sh68_0, sh68_1, sh68_2, sh68_3, sh68_4, ↓w_iload_1, ↓w_iload_2, ↓w_iload_3, ↓w_is, ↓pm_cl1_3, ↓w_ifeq, ↓w_iload_4, ↓pm_cl1_1, ↓w_iload_5, ↓w_ifne, ↓w_iconst, ↓w_ret, ↓w_aload_0, ↓w_iv, ↓pm_cl2_6, ↓w_pop, ↓w_gf0, pm_up_s])
        | (with_reducible refine m_isAbout (by omega) ?_ ; simp (disch := first | omega | decide) only [w_nl0, w_nli, w_nlr, ↓w_ts1, ↓w_ts0, w_rcv, w_rfv, w_cs, true_and, and_true, List.length_nil, List.length_cons, Nat.reduceAdd, Nat.reduceLeDiff, Nat.zero_le, Nat.reduceLT, ↓w_nil, ix_nI, nI_leP, nI_ltP, nI_eqP, nI_1, ↓i_inN, i_inN, l_le, l_lt, l_eq, r_le, r_lt, r_eq, sh68_0, sh68_1, sh68_2, sh68_3, sh68_4, ↓w_iload_1, ↓w_iload_2, ↓w_iload_3, ↓w_is, ↓pm_cl1_3, ↓w_ifeq, ↓w_iload_4, ↓pm_cl1_1, ↓w_iload_5, ↓w_ifne, ↓w_iconst, ↓w_ret, ↓w_aload_0, ↓w_iv, ↓pm_cl2_6, ↓w_pop, ↓w_gf0, pm_up_s])
        | (with_reducible refine m_isDay (by omega) ?_ ; simp (disch := first | omega | decide) only [w_nl0, w_nli, w_nlr, ↓w_ts1, ↓w_ts0, w_rcv, w_rfv, w_cs, true_and, and_true, List.length_nil, List.length_cons, Nat.reduceAdd, Nat.reduceLeDiff, Nat.zero_le, Nat.reduceLT, ↓w_nil, ix_nI, nI_leP, nI_ltP, nI_eqP, nI_1, ↓i_inN, i_inN, l_le, l_lt, l_eq, r_le, r_lt, r_eq, sh68_0, sh68_1, sh68_2, sh68_3, sh68_4, ↓w_iload_1, ↓w_iload_2, ↓w_iload_3, ↓w_is, ↓pm_cl1_3, ↓w_ifeq, ↓w_iload_4, ↓pm_cl1_1, ↓w_iload_5, ↓w_ifne, ↓w_iconst, ↓w_ret, ↓w_aload_0, ↓w_iv, ↓pm_cl2_6, ↓w_pop, ↓w_gf0, pm_up_s])
        | (with_reducible refine m_seekForce (n := N) (by omega) (by rw [r1, hN2]) hN hit ?_ ; simp (disch := first | omega | decide) only [w_nl0, w_nli, w_nlr, ↓w_ts1, ↓w_ts0, w_rcv, w_rfv, w_cs, true_and, and_true, List.length_nil, List.length_cons, Nat.reduceAdd, Nat.reduceLeDiff, Nat.zero_le, Nat.reduceLT, ↓w_nil, ix_nI, nI_leP, nI_ltP, nI_eqP, nI_1, ↓i_inN, i_inN, l_le, l_lt, l_eq, r_le, r_lt, r_eq, sh68_0, sh68_1, sh68_2, sh68_3, sh68_4, ↓w_iload_1, ↓w_iload_2, ↓w_iload_3, ↓w_is, ↓pm_cl1_3, ↓w_ifeq, ↓w_iload_4, ↓pm_cl1_1, ↓w_iload_5, ↓w_ifne, ↓w_iconst, ↓w_ret, ↓w_aload_0, ↓w_iv, ↓pm_cl2_6, ↓w_pop, ↓w_gf0, pm_up_s])
        | (simp only [w_in])
        | (intro _))
    all_goals first | rfl | exact hw | exact relw_found hw | exact relw_asks hw | grind
  · have hp := thing_neg hx
    have ha := hx
    unfold abR at ha
    refine eX11_why (by omega) ?_
    repeat' (first
      | (apply And.intro)
      | (with_reducible refine bX11_why_0 ?_; simp (disch := first | omega | decide) only [w_nl0, w_nli, w_nlr, ↓w_ts1, ↓w_ts0, w_rcv, w_rfv, w_cs, true_and, and_true, List.length_nil, List.length_cons, Nat.reduceAdd, Nat.reduceLeDiff, Nat.zero_le, Nat.reduceLT, ↓w_nil, ix_nI, nI_leP, nI_ltP, nI_eqP, nI_1, ↓i_inN, i_inN, l_le, l_lt, l_eq, r_le, r_lt, r_eq, sh0, sh1, sh55, sh60, sh9, sh31, sh23, sh37, sh42, sh43, sh19, sh3, sh6, ↓w_iload_1, ↓w_iload_2, ↓w_iload_3, ↓w_is, ↓pm_cl1_3, ↓w_istore_6, ↓w_iload_6, ↓w_iflt, ↓w_iload_4, ↓pm_cl1_1, ↓w_ifeq, ↓w_iload_5, ↓w_ifne, ↓w_iconst, ↓w_ret, ↓w_aload_0, ↓w_gf3, ↓w_iv, ↓pm_cl2_4, hp])
      | (with_reducible refine bX11_why_1 ?_; simp (disch := first | omega | decide) only [w_nl0, w_nli, w_nlr, ↓w_ts1, ↓w_ts0, w_rcv, w_rfv, w_cs, true_and, and_true, List.length_nil, List.length_cons, Nat.reduceAdd, Nat.reduceLeDiff, Nat.zero_le, Nat.reduceLT, ↓w_nil, ix_nI, nI_leP, nI_ltP, nI_eqP, nI_1, ↓i_inN, i_inN, l_le, l_lt, l_eq, r_le, r_lt, r_eq, sh0, sh1, sh55, sh60, sh9, sh31, sh23, sh37, sh42, sh43, sh19, sh3, sh6, ↓w_iload_1, ↓w_iload_2, ↓w_iload_3, ↓w_is, ↓pm_cl1_3, ↓w_istore_6, ↓w_iload_6, ↓w_iflt, ↓w_iload_4, ↓pm_cl1_1, ↓w_ifeq, ↓w_iload_5, ↓w_ifne, ↓w_iconst, ↓w_ret, ↓w_aload_0, ↓w_gf3, ↓w_iv, ↓pm_cl2_4, hp])
      | (with_reducible refine bX11_why_2 ?_; simp (disch := first | omega | decide) only [w_nl0, w_nli, w_nlr, ↓w_ts1, ↓w_ts0, w_rcv, w_rfv, w_cs, true_and, and_true, List.length_nil, List.length_cons, Nat.reduceAdd, Nat.reduceLeDiff, Nat.zero_le, Nat.reduceLT, ↓w_nil, ix_nI, nI_leP, nI_ltP, nI_eqP, nI_1, ↓i_inN, i_inN, l_le, l_lt, l_eq, r_le, r_lt, r_eq, sh0, sh1, sh55, sh60, sh9, sh31, sh23, sh37, sh42, sh43, sh19, sh3, sh6, ↓w_iload_1, ↓w_iload_2, ↓w_iload_3, ↓w_is, ↓pm_cl1_3, ↓w_istore_6, ↓w_iload_6, ↓w_iflt, ↓w_iload_4, ↓pm_cl1_1, ↓w_ifeq, ↓w_iload_5, ↓w_ifne, ↓w_iconst, ↓w_ret, ↓w_aload_0, ↓w_gf3, ↓w_iv, ↓pm_cl2_4, hp])
      | (with_reducible refine c_thing (by omega) ?_ ; simp (disch := first | omega | decide) only [w_nl0, w_nli, w_nlr, ↓w_ts1, ↓w_ts0, w_rcv, w_rfv, w_cs, true_and, and_true, List.length_nil, List.length_cons, Nat.reduceAdd, Nat.reduceLeDiff, Nat.zero_le, Nat.reduceLT, ↓w_nil, ix_nI, nI_leP, nI_ltP, nI_eqP, nI_1, ↓i_inN, i_inN, l_le, l_lt, l_eq, r_le, r_lt, r_eq, sh0, sh1, sh55, sh60, sh9, sh31, sh23, sh37, sh42, sh43, sh19, sh3, sh6, ↓w_iload_1, ↓w_iload_2, ↓w_iload_3, ↓w_is, ↓pm_cl1_3, ↓w_istore_6, ↓w_iload_6, ↓w_iflt, ↓w_iload_4, ↓pm_cl1_1, ↓w_ifeq, ↓w_iload_5, ↓w_ifne, ↓w_iconst, ↓w_ret, ↓w_aload_0, ↓w_gf3, ↓w_iv, ↓pm_cl2_4, hp])
      | (with_reducible refine c_isDay (by omega) ?_ ; simp (disch := first | omega | decide) only [w_nl0, w_nli, w_nlr, ↓w_ts1, ↓w_ts0, w_rcv, w_rfv, w_cs, true_and, and_true, List.length_nil, List.length_cons, Nat.reduceAdd, Nat.reduceLeDiff, Nat.zero_le, Nat.reduceLT, ↓w_nil, ix_nI, nI_leP, nI_ltP, nI_eqP, nI_1, ↓i_inN, i_inN, l_le, l_lt, l_eq, r_le, r_lt, r_eq, sh0, sh1, sh55, sh60, sh9, sh31, sh23, sh37, sh42, sh43, sh19, sh3, sh6, ↓w_iload_1, ↓w_iload_2, ↓w_iload_3, ↓w_is, ↓pm_cl1_3, ↓w_istore_6, ↓w_iload_6, ↓w_iflt, ↓w_iload_4, ↓pm_cl1_1, ↓w_ifeq, ↓w_iload_5, ↓w_ifne, ↓w_iconst, ↓w_ret, ↓w_aload_0, ↓w_gf3, ↓w_iv, ↓pm_cl2_4, hp])
      | (simp only [w_in])
      | (intro _))
    all_goals try rfl
    all_goals try grind
    all_goals try refine MC.of (eX12_why (by omega) ?_)
    all_goals
      repeat' (first
        | (apply And.intro)
        | (with_reducible refine bX12_why_0 ?_; simp (disch := first | omega | decide) only [w_nl0, w_nli, w_nlr, ↓w_ts1, ↓w_ts0, w_rcv, w_rfv, w_cs, true_and, and_true, List.length_nil, List.length_cons, Nat.reduceAdd, Nat.reduceLeDiff, Nat.zero_le, Nat.reduceLT, ↓w_nil, ix_nI, nI_leP, nI_ltP, nI_eqP, nI_1, ↓i_inN, i_inN, l_le, l_lt, l_eq, r_le, r_lt, r_eq, sh68_0, sh68_1, sh68_2, sh68_3, sh68_4, ↓w_iload_1, ↓w_iload_2, ↓w_iload_3, ↓w_is, ↓pm_cl1_3, ↓w_ifeq, ↓w_iload_4, ↓pm_cl1_1, ↓w_iload_5, ↓w_ifne, ↓w_iconst, ↓w_ret, ↓w_aload_0, ↓w_iv, ↓pm_cl2_6, ↓w_pop, ↓w_gf0])
        | (with_reducible refine bX12_why_1 ?_; simp (disch := first | omega | decide) only [w_nl0, w_nli, w_nlr, ↓w_ts1, ↓w_ts0, w_rcv, w_rfv, w_cs, true_and, and_true, List.length_nil, List.length_cons, Nat.reduceAdd, Nat.reduceLeDiff, Nat.zero_le, Nat.reduceLT, ↓w_nil, ix_nI, nI_leP, nI_ltP, nI_eqP, nI_1, ↓i_inN, i_inN, l_le, l_lt, l_eq, r_le, r_lt, r_eq, sh68_0, sh68_1, sh68_2, sh68_3, sh68_4, ↓w_iload_1, ↓w_iload_2, ↓w_iload_3, ↓w_is, ↓pm_cl1_3, ↓w_ifeq, ↓w_iload_4, ↓pm_cl1_1, ↓w_iload_5, ↓w_ifne, ↓w_iconst, ↓w_ret, ↓w_aload_0, ↓w_iv, ↓pm_cl2_6, ↓w_pop, ↓w_gf0])
        | (with_reducible refine bX12_why_2 ?_; simp (disch := first | omega | decide) only [w_nl0, w_nli, w_nlr, ↓w_ts1, ↓w_ts0, w_rcv, w_rfv, w_cs, true_and, and_true, List.length_nil, List.length_cons, Nat.reduceAdd, Nat.reduceLeDiff, Nat.zero_le, Nat.reduceLT, ↓w_nil, ix_nI, nI_leP, nI_ltP, nI_eqP, nI_1, ↓i_inN, i_inN, l_le, l_lt, l_eq, r_le, r_lt, r_eq, sh68_0, sh68_1, sh68_2, sh68_3, sh68_4, ↓w_iload_1, ↓w_iload_2, ↓w_iload_3, ↓w_is, ↓pm_cl1_3, ↓w_ifeq, ↓w_iload_4, ↓pm_cl1_1, ↓w_iload_5, ↓w_ifne, ↓w_iconst, ↓w_ret, ↓w_aload_0, ↓w_iv, ↓pm_cl2_6, ↓w_pop, ↓w_gf0])
        | (with_reducible refine m_isAbout (by omega) ?_ ; simp (disch := first | omega | decide) only [w_nl0, w_nli, w_nlr, ↓w_ts1, ↓w_ts0, w_rcv, w_rfv, w_cs, true_and, and_true, List.length_nil, List.length_cons, Nat.reduceAdd, Nat.reduceLeDiff, Nat.zero_le, Nat.reduceLT, ↓w_nil, ix_nI, nI_leP, nI_ltP, nI_eqP, nI_1, ↓i_inN, i_inN, l_le, l_lt, l_eq, r_le, r_lt, r_eq, sh68_0, sh68_1, sh68_2, sh68_3, sh68_4, ↓w_iload_1, ↓w_iload_2, ↓w_iload_3, ↓w_is, ↓pm_cl1_3, ↓w_ifeq, ↓w_iload_4, ↓pm_cl1_1, ↓w_iload_5, ↓w_ifne, ↓w_iconst, ↓w_ret, ↓w_aload_0, ↓w_iv, ↓pm_cl2_6, ↓w_pop, ↓w_gf0])
        | (with_reducible refine m_isDay (by omega) ?_ ; simp (disch := first | omega | decide) only [w_nl0, w_nli, w_nlr, ↓w_ts1, ↓w_ts0, w_rcv, w_rfv, w_cs, true_and, and_true, List.length_nil, List.length_cons, Nat.reduceAdd, Nat.reduceLeDiff, Nat.zero_le, Nat.reduceLT, ↓w_nil, ix_nI, nI_leP, nI_ltP, nI_eqP, nI_1, ↓i_inN, i_inN, l_le, l_lt, l_eq, r_le, r_lt, r_eq, sh68_0, sh68_1, sh68_2, sh68_3, sh68_4, ↓w_iload_1, ↓w_iload_2, ↓w_iload_3, ↓w_is, ↓pm_cl1_3, ↓w_ifeq, ↓w_iload_4, ↓pm_cl1_1, ↓w_iload_5, ↓w_ifne, ↓w_iconst, ↓w_ret, ↓w_aload_0, ↓w_iv, ↓pm_cl2_6, ↓w_pop, ↓w_gf0])
        | (simp only [w_in])
        | (intro _))
    all_goals first | rfl | exact hw | exact relw_found hw | exact relw_asks hw | grind
end C55
