section C41
variable {g : pm_G} {d : Nat} {Q : pm_Po} {S : pm_SS} {I : pm_MI} {J : pm_ML}
theorem relw {I : pm_MI} {J : pm_ML} (h : Rel I J) : RelW I J := ⟨trivial, h⟩
theorem relw_found {I : pm_MI} {J : pm_ML} {x : Nat} {v : Int32} (h : RelW I J) : RelW (pm_up (pm_up (pm_up (pm_up I 1 1 v) 2 x (I 2 x + 1)) 68 0 v) 69 x (I 69 x + 1)) J := ⟨trivial, rel_found h.2⟩
theorem relw_asks {I : pm_MI} {J : pm_ML} {v : Int32} (h : RelW I J) : RelW (pm_up (pm_up I 1 2 v) 68 2 v) J := ⟨trivial, rel_asks h.2⟩
theorem rel_day {I : pm_MI} {J : pm_ML} {v : Int32} (h : Rel I J) (h1 : I 0 11 ≤ v) (h2 : v ≤ 999) (h3 : 0 ≤ v) : Rel (pm_up (pm_up I 0 11 v) 68 15 v) J := by
  obtain ⟨a1, a2, a3, a4, a5, a6, a7, a8, a9, a10, a11, a12⟩ := h
  refine ⟨?_, ?_, ?_, ?_, ?_, ?_, ?_, ?_, ?_, ?_, ?_, ?_⟩
  all_goals (simp (disch := decide) only [pm_up_o, pm_up_n, pm_up_s]; try assumption)
  · refine ⟨rfl, ?_⟩
    rw [i_le] at h2 h3
    obtain ⟨j, hj, e⟩ := i_of (n := 1000) h3 (by have : (999 : Int32).toInt = 999 := rfl; omega) (by omega)
    exact ⟨j, by omega, e⟩
  · unfold r_met at *
    obtain ⟨b1, b2, b3, b4, b5, b6, b7, b8, b9, b10, b11, b12, N, b13, b14, b15, b16⟩ := a5
    refine ⟨b1, b2, b3, b4, b5, b6, b7, b8, b9, b10, b11, b12, N, b13, b14, fun i hi => ?_, b16⟩
    obtain ⟨c1, c2, c3, c4, c5⟩ := b15 i hi
    exact ⟨c1, c2, c3, c4, Int32.le_trans c5 h1⟩
  · unfold r_run at *
    obtain ⟨b1, b2, b3, b4, b5, b6, b7, N, b13, b14, b15⟩ := a7
    refine ⟨b1, b2, b3, b4, b5, b6, b7, N, b13, b14, fun i hi => ?_⟩
    obtain ⟨c1, c2, c3, c4, c5, c6, c7, c8, c9⟩ := b15 i hi
    exact ⟨c1, c2, c3, c4, c5, Int32.le_trans c6 h1, c7, c8, c9⟩
  · unfold r_sal at *
    obtain ⟨b1, b2, b3, b4, b5, N, b13, b14, b15⟩ := a10
    refine ⟨b1, b2, b3, b4, b5, N, b13, b14, fun i hi => ?_⟩
    obtain ⟨c1, c2, c3, c4, c5⟩ := b15 i hi
    exact ⟨c1, c2, c3, c4, Int32.le_trans c5 h1⟩
theorem p_later {x : Int32} (hd : 10 ≤ d) : PC g d 131 214 [.int x] := by
  intro I J h
  have hw := relw h
  have hy : r_day (I 0 11) (I 68 15) := h.2.1
  obtain ⟨hy1, t, ht, hy2⟩ := hy
  have e1 : (0 : Int32) ≤ nI t ∧ nI t ≤ 999 := nI_rng (N := 999) ht (by decide)
  have hn : ¬ x < 0 → x ≤ 999 - I 0 11 → RelW (pm_up (pm_up I 0 11 (I 0 11 + x)) 68 15 (I 0 11 + x)) J := fun h1 h2 => ⟨trivial, rel_day h (by grind) (by grind) (by grind)⟩
  refine eX11_later (by omega) ?_
  repeat' (first
    | (apply And.intro)
    | (with_reducible refine bX11_later_0 ?_; simp (disch := first | omega | decide) only [w_nl0, w_nli, w_nlr, ↓w_ts1, ↓w_ts0, w_rcv, w_rfv, w_cs, true_and, and_true, List.length_nil, List.length_cons, Nat.reduceAdd, Nat.reduceLeDiff, Nat.zero_le, Nat.reduceLT, ↓w_nil, ix_nI, nI_leP, nI_ltP, nI_eqP, nI_1, ↓i_inN, i_inN, l_le, l_lt, l_eq, r_le, r_lt, r_eq, sh0, sh1, sh55, sh60, sh9, sh31, sh23, sh37, sh42, sh43, sh19, sh3, sh6, ↓w_iload_1, ↓w_iflt, ↓w_sipush, ↓w_aload_0, ↓w_gf0, ↓w_isub, ↓w_icle, ↓w_iconst, ↓w_ret, ↓w_dup_i, ↓w_dup_r, ↓w_iadd, ↓w_pf0, pm_up_s])
    | (with_reducible refine bX11_later_1 ?_; simp (disch := first | omega | decide) only [w_nl0, w_nli, w_nlr, ↓w_ts1, ↓w_ts0, w_rcv, w_rfv, w_cs, true_and, and_true, List.length_nil, List.length_cons, Nat.reduceAdd, Nat.reduceLeDiff, Nat.zero_le, Nat.reduceLT, ↓w_nil, ix_nI, nI_leP, nI_ltP, nI_eqP, nI_1, ↓i_inN, i_inN, l_le, l_lt, l_eq, r_le, r_lt, r_eq, sh0, sh1, sh55, sh60, sh9, sh31, sh23, sh37, sh42, sh43, sh19, sh3, sh6, ↓w_iload_1, ↓w_iflt, ↓w_sipush, ↓w_aload_0, ↓w_gf0, ↓w_isub, ↓w_icle, ↓w_iconst, ↓w_ret, ↓w_dup_i, ↓w_dup_r, ↓w_iadd, ↓w_pf0, pm_up_s])
    | (with_reducible refine bX11_later_2 ?_; simp (disch := first | omega | decide) only [w_nl0, w_nli, w_nlr, ↓w_ts1, ↓w_ts0, w_rcv, w_rfv, w_cs, true_and, and_true, List.length_nil, List.length_cons, Nat.reduceAdd, Nat.reduceLeDiff, Nat.zero_le, Nat.reduceLT, ↓w_nil, ix_nI, nI_leP, nI_ltP, nI_eqP, nI_1, ↓i_inN, i_inN, l_le, l_lt, l_eq, r_le, r_lt, r_eq, sh0, sh1, sh55, sh60, sh9, sh31, sh23, sh37, sh42, sh43, sh19, sh3, sh6, ↓w_iload_1, ↓w_iflt, ↓w_sipush, ↓w_aload_0, ↓w_gf0, ↓w_isub, ↓w_icle, ↓w_iconst, ↓w_ret, ↓w_dup_i, ↓w_dup_r, ↓w_iadd, ↓w_pf0, pm_up_s])
    | (simp only [w_in])
    | (intro _))
  all_goals try rfl
  all_goals try refine MC.of (eX12_later (by omega) ?_)
  all_goals
    repeat' (first
      | (apply And.intro)
      | (with_reducible refine bX12_later_0 ?_; simp (disch := first | omega | decide) only [w_nl0, w_nli, w_nlr, ↓w_ts1, ↓w_ts0, w_rcv, w_rfv, w_cs, true_and, and_true, List.length_nil, List.length_cons, Nat.reduceAdd, Nat.reduceLeDiff, Nat.zero_le, Nat.reduceLT, ↓w_nil, ix_nI, nI_leP, nI_ltP, nI_eqP, nI_1, ↓i_inN, i_inN, l_le, l_lt, l_eq, r_le, r_lt, r_eq, sh68_0, sh68_1, sh68_2, sh68_3, sh68_4, ↓w_iload_1, ↓w_iflt, ↓w_sipush, ↓w_aload_0, ↓w_gf0, ↓w_isub, ↓w_icle, ↓w_iconst, ↓w_ret, ↓w_dup_i, ↓w_dup_r, ↓w_iadd, ↓w_pf0, pm_up_s, pm_up_o, hy1])
      | (with_reducible refine bX12_later_1 ?_; simp (disch := first | omega | decide) only [w_nl0, w_nli, w_nlr, ↓w_ts1, ↓w_ts0, w_rcv, w_rfv, w_cs, true_and, and_true, List.length_nil, List.length_cons, Nat.reduceAdd, Nat.reduceLeDiff, Nat.zero_le, Nat.reduceLT, ↓w_nil, ix_nI, nI_leP, nI_ltP, nI_eqP, nI_1, ↓i_inN, i_inN, l_le, l_lt, l_eq, r_le, r_lt, r_eq, sh68_0, sh68_1, sh68_2, sh68_3, sh68_4, ↓w_iload_1, ↓w_iflt, ↓w_sipush, ↓w_aload_0, ↓w_gf0, ↓w_isub, ↓w_icle, ↓w_iconst, ↓w_ret, ↓w_dup_i, ↓w_dup_r, ↓w_iadd, ↓w_pf0, pm_up_s, pm_up_o, hy1])
      | (with_reducible refine bX12_later_2 ?_; simp (disch := first | omega | decide) only [w_nl0, w_nli, w_nlr, ↓w_ts1, ↓w_ts0, w_rcv, w_rfv, w_cs, true_and, and_true, List.length_nil, List.length_cons, Nat.reduceAdd, Nat.reduceLeDiff, Nat.zero_le, Nat.reduceLT, ↓w_nil, ix_nI, nI_leP, nI_ltP, nI_eqP, nI_1, ↓i_inN, i_inN, l_le, l_lt, l_eq, r_le, r_lt, r_eq, sh68_0, sh68_1, sh68_2, sh68_3, sh68_4, ↓w_iload_1, ↓w_iflt, ↓w_sipush, ↓w_aload_0, ↓w_gf0, ↓w_isub, ↓w_icle, ↓w_iconst, ↓w_ret, ↓w_dup_i, ↓w_dup_r, ↓w_iadd, ↓w_pf0, pm_up_s, pm_up_o, hy1])
      | (simp only [w_in])
      | (intro _))
  all_goals first | rfl | exact hw | exact relw_found hw | exact relw_asks hw | grind
theorem p_finding (hd : 10 ≤ d) : PC g d 181 190 [] := by
  intro I J h
  have hw := relw h
  obtain ⟨h1, h2, h3, h4, h5, h6⟩ := h.1
  refine eX11_finding (by omega) ?_
  repeat' (first
    | (apply And.intro)
    | (with_reducible refine bX11_finding_0 ?_; simp (disch := first | omega | decide) only [w_nl0, w_nli, w_nlr, ↓w_ts1, ↓w_ts0, w_rcv, w_rfv, w_cs, true_and, and_true, List.length_nil, List.length_cons, Nat.reduceAdd, Nat.reduceLeDiff, Nat.zero_le, Nat.reduceLT, ↓w_nil, ix_nI, nI_leP, nI_ltP, nI_eqP, nI_1, ↓i_inN, i_inN, l_le, l_lt, l_eq, r_le, r_lt, r_eq, sh0, sh1, sh55, sh60, sh9, sh31, sh23, sh37, sh42, sh43, sh19, sh3, sh6, ↓w_aload_0, ↓w_gf3, ↓w_gf0, ↓w_ret])
    | (simp only [w_in])
    | (intro _))
  all_goals try rfl
  all_goals try refine MC.of (eX12_finding (by omega) ?_)
  all_goals
    repeat' (first
      | (apply And.intro)
      | (with_reducible refine bX12_finding_0 ?_; simp (disch := first | omega | decide) only [w_nl0, w_nli, w_nlr, ↓w_ts1, ↓w_ts0, w_rcv, w_rfv, w_cs, true_and, and_true, List.length_nil, List.length_cons, Nat.reduceAdd, Nat.reduceLeDiff, Nat.zero_le, Nat.reduceLT, ↓w_nil, ix_nI, nI_leP, nI_ltP, nI_eqP, nI_1, ↓i_inN, i_inN, l_le, l_lt, l_eq, r_le, r_lt, r_eq, sh68_0, sh68_1, sh68_2, sh68_3, sh68_4, ↓w_aload_0, ↓w_gf0, ↓w_ret])
      | (simp only [w_in])
      | (intro _))
  all_goals first | rfl | exact hw | exact relw_found hw | exact relw_asks hw | grind
theorem p_asked (hd : 10 ≤ d) : PC g d 177 193 [] := by
  intro I J h
  have hw := relw h
  obtain ⟨h1, h2, h3, h4, h5, h6⟩ := h.1
  refine eX11_asked (by omega) ?_
  repeat' (first
    | (apply And.intro)
    | (with_reducible refine bX11_asked_0 ?_; simp (disch := first | omega | decide) only [w_nl0, w_nli, w_nlr, ↓w_ts1, ↓w_ts0, w_rcv, w_rfv, w_cs, true_and, and_true, List.length_nil, List.length_cons, Nat.reduceAdd, Nat.reduceLeDiff, Nat.zero_le, Nat.reduceLT, ↓w_nil, ix_nI, nI_leP, nI_ltP, nI_eqP, nI_1, ↓i_inN, i_inN, l_le, l_lt, l_eq, r_le, r_lt, r_eq, sh0, sh1, sh55, sh60, sh9, sh31, sh23, sh37, sh42, sh43, sh19, sh3, sh6, ↓w_aload_0, ↓w_gf3, ↓w_gf0, ↓w_ret])
    | (simp only [w_in])
    | (intro _))
  all_goals try rfl
  all_goals try refine MC.of (eX12_asked (by omega) ?_)
  all_goals
    repeat' (first
      | (apply And.intro)
      | (with_reducible refine bX12_asked_0 ?_; simp (disch := first | omega | decide) only [w_nl0, w_nli, w_nlr, ↓w_ts1, ↓w_ts0, w_rcv, w_rfv, w_cs, true_and, and_true, List.length_nil, List.length_cons, Nat.reduceAdd, Nat.reduceLeDiff, Nat.zero_le, Nat.reduceLT, ↓w_nil, ix_nI, nI_leP, nI_ltP, nI_eqP, nI_1, ↓i_inN, i_inN, l_le, l_lt, l_eq, r_le, r_lt, r_eq, sh68_0, sh68_1, sh68_2, sh68_3, sh68_4, ↓w_aload_0, ↓w_gf0, ↓w_ret])
      | (simp only [w_in])
      | (intro _))
  all_goals first | rfl | exact hw | exact relw_found hw | exact relw_asks hw | grind
theorem p_upper (hd : 10 ≤ d) : PC g d 178 195 [] := by
  intro I J h
  have hw := relw h
  obtain ⟨h1, h2, h3, h4, h5, h6⟩ := h.1
  refine eX11_upper (by omega) ?_
  repeat' (first
    | (apply And.intro)
    | (with_reducible refine bX11_upper_0 ?_; simp (disch := first | omega | decide) only [w_nl0, w_nli, w_nlr, ↓w_ts1, ↓w_ts0, w_rcv, w_rfv, w_cs, true_and, and_true, List.length_nil, List.length_cons, Nat.reduceAdd, Nat.reduceLeDiff, Nat.zero_le, Nat.reduceLT, ↓w_nil, ix_nI, nI_leP, nI_ltP, nI_eqP, nI_1, ↓i_inN, i_inN, l_le, l_lt, l_eq, r_le, r_lt, r_eq, sh0, sh1, sh55, sh60, sh9, sh31, sh23, sh37, sh42, sh43, sh19, sh3, sh6, ↓w_aload_0, ↓w_gf3, ↓w_gf1, ↓w_lret])
    | (simp only [w_in])
    | (intro _))
  all_goals try rfl
  all_goals try refine MC.of (eX12_upper (by omega) ?_)
  all_goals
    repeat' (first
      | (apply And.intro)
      | (with_reducible refine bX12_upper_0 ?_; simp (disch := first | omega | decide) only [w_nl0, w_nli, w_nlr, ↓w_ts1, ↓w_ts0, w_rcv, w_rfv, w_cs, true_and, and_true, List.length_nil, List.length_cons, Nat.reduceAdd, Nat.reduceLeDiff, Nat.zero_le, Nat.reduceLT, ↓w_nil, ix_nI, nI_leP, nI_ltP, nI_eqP, nI_1, ↓i_inN, i_inN, l_le, l_lt, l_eq, r_le, r_lt, r_eq, sh68_0, sh68_1, sh68_2, sh68_3, sh68_4, ↓w_aload_0, ↓w_gf1, ↓w_lret])
      | (simp only [w_in])
      | (intro _))
  all_goals first | rfl | exact hw | exact relw_found hw | exact relw_asks hw | grind
theorem p_lower (hd : 10 ≤ d) : PC g d 179 196 [] := by
  intro I J h
  have hw := relw h
  obtain ⟨h1, h2, h3, h4, h5, h6⟩ := h.1
  refine eX11_lower (by omega) ?_
  repeat' (first
    | (apply And.intro)
    | (with_reducible refine bX11_lower_0 ?_; simp (disch := first | omega | decide) only [w_nl0, w_nli, w_nlr, ↓w_ts1, ↓w_ts0, w_rcv, w_rfv, w_cs, true_and, and_true, List.length_nil, List.length_cons, Nat.reduceAdd, Nat.reduceLeDiff, Nat.zero_le, Nat.reduceLT, ↓w_nil, ix_nI, nI_leP, nI_ltP, nI_eqP, nI_1, ↓i_inN, i_inN, l_le, l_lt, l_eq, r_le, r_lt, r_eq, sh0, sh1, sh55, sh60, sh9, sh31, sh23, sh37, sh42, sh43, sh19, sh3, sh6, ↓w_aload_0, ↓w_gf3, ↓w_gf1, ↓w_lret])
    | (simp only [w_in])
    | (intro _))
  all_goals try rfl
  all_goals try refine MC.of (eX12_lower (by omega) ?_)
  all_goals
    repeat' (first
      | (apply And.intro)
      | (with_reducible refine bX12_lower_0 ?_; simp (disch := first | omega | decide) only [w_nl0, w_nli, w_nlr, ↓w_ts1, ↓w_ts0, w_rcv, w_rfv, w_cs, true_and, and_true, List.length_nil, List.length_cons, Nat.reduceAdd, Nat.reduceLeDiff, Nat.zero_le, Nat.reduceLT, ↓w_nil, ix_nI, nI_leP, nI_ltP, nI_eqP, nI_1, ↓i_inN, i_inN, l_le, l_lt, l_eq, r_le, r_lt, r_eq, sh68_0, sh68_1, sh68_2, sh68_3, sh68_4, ↓w_aload_0, ↓w_gf1, ↓w_lret])
      | (simp only [w_in])
      | (intro _))
  all_goals first | rfl | exact hw | exact relw_found hw | exact relw_asks hw | grind
theorem p_pence (hd : 10 ≤ d) : PC g d 169 276 [] := by
  intro I J h
  have hw := relw h
  obtain ⟨h1, h2, h3, h4, h5, h6⟩ := h.1
  refine eX11_pence (by omega) ?_
  repeat' (first
    | (apply And.intro)
    | (with_reducible refine bX11_pence_0 ?_; simp (disch := first | omega | decide) only [w_nl0, w_nli, w_nlr, ↓w_ts1, ↓w_ts0, w_rcv, w_rfv, w_cs, true_and, and_true, List.length_nil, List.length_cons, Nat.reduceAdd, Nat.reduceLeDiff, Nat.zero_le, Nat.reduceLT, ↓w_nil, ix_nI, nI_leP, nI_ltP, nI_eqP, nI_1, ↓i_inN, i_inN, l_le, l_lt, l_eq, r_le, r_lt, r_eq, sh0, sh1, sh55, sh60, sh9, sh31, sh23, sh37, sh42, sh43, sh19, sh3, sh6, ↓w_aload_0, ↓w_gf3, ↓w_gf1, ↓w_lret])
    | (simp only [w_in])
    | (intro _))
  all_goals try rfl
  all_goals try refine MC.of (eX12_pence (by omega) ?_)
  all_goals
    repeat' (first
      | (apply And.intro)
      | (with_reducible refine bX12_pence_0 ?_; simp (disch := first | omega | decide) only [w_nl0, w_nli, w_nlr, ↓w_ts1, ↓w_ts0, w_rcv, w_rfv, w_cs, true_and, and_true, List.length_nil, List.length_cons, Nat.reduceAdd, Nat.reduceLeDiff, Nat.zero_le, Nat.reduceLT, ↓w_nil, ix_nI, nI_leP, nI_ltP, nI_eqP, nI_1, ↓i_inN, i_inN, l_le, l_lt, l_eq, r_le, r_lt, r_eq, sh68_0, sh68_1, sh68_2, sh68_3, sh68_4, ↓w_aload_0, ↓w_gf1, ↓w_lret])
      | (simp only [w_in])
      | (intro _))
  all_goals first | rfl | exact hw | exact relw_found hw | exact relw_asks hw | grind
theorem p_findings {x : Int32} (hd : 10 ≤ d) : PC g d 182 191 [.int x] := by
  intro I J h
  have hw := relw h
  obtain ⟨h1, h2, h3, h4, h5, h6⟩ := h.1
  refine eX11_findings (by omega) ?_
  repeat' (first
    | (apply And.intro)
    | (with_reducible refine bX11_findings_0 ?_; simp (disch := first | omega | decide) only [w_nl0, w_nli, w_nlr, ↓w_ts1, ↓w_ts0, w_rcv, w_rfv, w_cs, true_and, and_true, List.length_nil, List.length_cons, Nat.reduceAdd, Nat.reduceLeDiff, Nat.zero_le, Nat.reduceLT, ↓w_nil, ix_nI, nI_leP, nI_ltP, nI_eqP, nI_1, ↓i_inN, i_inN, l_le, l_lt, l_eq, r_le, r_lt, r_eq, sh0, sh1, sh55, sh60, sh9, sh31, sh23, sh37, sh42, sh43, sh19, sh3, sh6, ↓w_iload_1, ↓w_iconst, ↓w_iclt, ↓w_icle, ↓w_goto, ↓w_aload_0, ↓w_gf3, ↓w_iaload, ↓w_ret])
    | (with_reducible refine bX11_findings_1 ?_; simp (disch := first | omega | decide) only [w_nl0, w_nli, w_nlr, ↓w_ts1, ↓w_ts0, w_rcv, w_rfv, w_cs, true_and, and_true, List.length_nil, List.length_cons, Nat.reduceAdd, Nat.reduceLeDiff, Nat.zero_le, Nat.reduceLT, ↓w_nil, ix_nI, nI_leP, nI_ltP, nI_eqP, nI_1, ↓i_inN, i_inN, l_le, l_lt, l_eq, r_le, r_lt, r_eq, sh0, sh1, sh55, sh60, sh9, sh31, sh23, sh37, sh42, sh43, sh19, sh3, sh6, ↓w_iload_1, ↓w_iconst, ↓w_iclt, ↓w_icle, ↓w_goto, ↓w_aload_0, ↓w_gf3, ↓w_iaload, ↓w_ret])
    | (with_reducible refine bX11_findings_2 ?_; simp (disch := first | omega | decide) only [w_nl0, w_nli, w_nlr, ↓w_ts1, ↓w_ts0, w_rcv, w_rfv, w_cs, true_and, and_true, List.length_nil, List.length_cons, Nat.reduceAdd, Nat.reduceLeDiff, Nat.zero_le, Nat.reduceLT, ↓w_nil, ix_nI, nI_leP, nI_ltP, nI_eqP, nI_1, ↓i_inN, i_inN, l_le, l_lt, l_eq, r_le, r_lt, r_eq, sh0, sh1, sh55, sh60, sh9, sh31, sh23, sh37, sh42, sh43, sh19, sh3, sh6, ↓w_iload_1, ↓w_iconst, ↓w_iclt, ↓w_icle, ↓w_goto, ↓w_aload_0, ↓w_gf3, ↓w_iaload, ↓w_ret])
    | (with_reducible refine bX11_findings_3 ?_; simp (disch := first | omega | decide) only [w_nl0, w_nli, w_nlr, ↓w_ts1, ↓w_ts0, w_rcv, w_rfv, w_cs, true_and, and_true, List.length_nil, List.length_cons, Nat.reduceAdd, Nat.reduceLeDiff, Nat.zero_le, Nat.reduceLT, ↓w_nil, ix_nI, nI_leP, nI_ltP, nI_eqP, nI_1, ↓i_inN, i_inN, l_le, l_lt, l_eq, r_le, r_lt, r_eq, sh0, sh1, sh55, sh60, sh9, sh31, sh23, sh37, sh42, sh43, sh19, sh3, sh6, ↓w_iload_1, ↓w_iconst, ↓w_iclt, ↓w_icle, ↓w_goto, ↓w_aload_0, ↓w_gf3, ↓w_iaload, ↓w_ret])
    | (simp only [w_in])
    | (intro _))
  all_goals try rfl
  all_goals try refine MC.of (eX12_findings (by omega) ?_)
  all_goals
    repeat' (first
      | (apply And.intro)
      | (with_reducible refine bX12_findings_0 ?_; simp (disch := first | omega | decide) only [w_nl0, w_nli, w_nlr, ↓w_ts1, ↓w_ts0, w_rcv, w_rfv, w_cs, true_and, and_true, List.length_nil, List.length_cons, Nat.reduceAdd, Nat.reduceLeDiff, Nat.zero_le, Nat.reduceLT, ↓w_nil, ix_nI, nI_leP, nI_ltP, nI_eqP, nI_1, ↓i_inN, i_inN, l_le, l_lt, l_eq, r_le, r_lt, r_eq, sh68_0, sh68_1, sh68_2, sh68_3, sh68_4, ↓w_iload_1, ↓w_iconst, ↓w_is, ↓pm_cl1_3, ↓w_ifeq, ↓w_aload_0, ↓w_gf3, ↓w_iaload, ↓w_goto, ↓w_ret])
      | (with_reducible refine bX12_findings_1 ?_; simp (disch := first | omega | decide) only [w_nl0, w_nli, w_nlr, ↓w_ts1, ↓w_ts0, w_rcv, w_rfv, w_cs, true_and, and_true, List.length_nil, List.length_cons, Nat.reduceAdd, Nat.reduceLeDiff, Nat.zero_le, Nat.reduceLT, ↓w_nil, ix_nI, nI_leP, nI_ltP, nI_eqP, nI_1, ↓i_inN, i_inN, l_le, l_lt, l_eq, r_le, r_lt, r_eq, sh68_0, sh68_1, sh68_2, sh68_3, sh68_4, ↓w_iload_1, ↓w_iconst, ↓w_is, ↓pm_cl1_3, ↓w_ifeq, ↓w_aload_0, ↓w_gf3, ↓w_iaload, ↓w_goto, ↓w_ret])
      | (with_reducible refine bX12_findings_2 ?_; simp (disch := first | omega | decide) only [w_nl0, w_nli, w_nlr, ↓w_ts1, ↓w_ts0, w_rcv, w_rfv, w_cs, true_and, and_true, List.length_nil, List.length_cons, Nat.reduceAdd, Nat.reduceLeDiff, Nat.zero_le, Nat.reduceLT, ↓w_nil, ix_nI, nI_leP, nI_ltP, nI_eqP, nI_1, ↓i_inN, i_inN, l_le, l_lt, l_eq, r_le, r_lt, r_eq, sh68_0, sh68_1, sh68_2, sh68_3, sh68_4, ↓w_iload_1, ↓w_iconst, ↓w_is, ↓pm_cl1_3, ↓w_ifeq, ↓w_aload_0, ↓w_gf3, ↓w_iaload, ↓w_goto, ↓w_ret])
      | (with_reducible refine m_in (by omega) ?_; simp (disch := first | omega | decide) only [w_nl0, w_nli, w_nlr, ↓w_ts1, ↓w_ts0, w_rcv, w_rfv, w_cs, true_and, and_true, List.length_nil, List.length_cons, Nat.reduceAdd, Nat.reduceLeDiff, Nat.zero_le, Nat.reduceLT, ↓w_nil, ix_nI, nI_leP, nI_ltP, nI_eqP, nI_1, ↓i_inN, i_inN, l_le, l_lt, l_eq, r_le, r_lt, r_eq, sh68_0, sh68_1, sh68_2, sh68_3, sh68_4, ↓w_iload_1, ↓w_iconst, ↓w_is, ↓pm_cl1_3, ↓w_ifeq, ↓w_aload_0, ↓w_gf3, ↓w_iaload, ↓w_goto, ↓w_ret])
      | (simp only [w_in])
      | (intro _))
  all_goals first | rfl | exact hw | exact relw_found hw | exact relw_asks hw | grind
theorem p_off {p x y : Int32} (hd : 10 ≤ d) : PC g d 143 244 [.int p, .int x, .int y] := by
  intro I J h
  have hw := relw h
  by_cases hp : 0 ≤ p ∧ p < 6
  · obtain ⟨q, hq, rfl⟩ : ∃ q, q < 6 ∧ p = nI q := i_of (n := 6) (by rw [i_le] at hp; exact hp.1) (by rw [i_lt] at hp; exact hp.2) (by omega)
    have hn : RelW (pm_up (pm_up (pm_up (pm_up I 21 q x) 22 q y) 90 q x) 91 q y) J := by
      obtain ⟨a1, a2, a3, a4, a5, a6, a7, a8, a9, a10, a11, a12⟩ := h
      refine ⟨trivial, ?_, ?_, ?_, ?_, ?_, ?_, ?_, ?_, ?_, ?_, ?_, ?_⟩
      all_goals (simp (disch := decide) only [pm_up_o, pm_up_n, pm_up_s]; try assumption)
      obtain ⟨b1, b2, b3⟩ := a6
      refine ⟨?_, ?_, b3⟩ <;> simp [pm_up, b1, b2]
    refine eX11_off (by omega) ?_
    repeat' (first
      | (apply And.intro)
      | (with_reducible refine bX11_off_0 ?_; simp (disch := first | omega | decide) only [w_nl0, w_nli, w_nlr, ↓w_ts1, ↓w_ts0, w_rcv, w_rfv, w_cs, true_and, and_true, List.length_nil, List.length_cons, Nat.reduceAdd, Nat.reduceLeDiff, Nat.zero_le, Nat.reduceLT, ↓w_nil, ix_nI, nI_leP, nI_ltP, nI_eqP, nI_1, ↓i_inN, i_inN, l_le, l_lt, l_eq, r_le, r_lt, r_eq, sh0, sh1, sh55, sh60, sh9, sh31, sh23, sh37, sh42, sh43, sh19, sh3, sh6, ↓w_iload_1, ↓w_bipush, ↓w_is, ↓pm_cl1_2, ↓w_ifeq, ↓w_iload_2, ↓pm_cl1_1, ↓w_iload_3, ↓w_ifne, ↓w_iconst, ↓w_ret, ↓w_aload_0, ↓w_gf3, ↓w_iv, ↓pm_cl2_4])
      | (with_reducible refine bX11_off_1 ?_; simp (disch := first | omega | decide) only [w_nl0, w_nli, w_nlr, ↓w_ts1, ↓w_ts0, w_rcv, w_rfv, w_cs, true_and, and_true, List.length_nil, List.length_cons, Nat.reduceAdd, Nat.reduceLeDiff, Nat.zero_le, Nat.reduceLT, ↓w_nil, ix_nI, nI_leP, nI_ltP, nI_eqP, nI_1, ↓i_inN, i_inN, l_le, l_lt, l_eq, r_le, r_lt, r_eq, sh0, sh1, sh55, sh60, sh9, sh31, sh23, sh37, sh42, sh43, sh19, sh3, sh6, ↓w_iload_1, ↓w_bipush, ↓w_is, ↓pm_cl1_2, ↓w_ifeq, ↓w_iload_2, ↓pm_cl1_1, ↓w_iload_3, ↓w_ifne, ↓w_iconst, ↓w_ret, ↓w_aload_0, ↓w_gf3, ↓w_iv, ↓pm_cl2_4])
      | (with_reducible refine bX11_off_2 ?_; simp (disch := first | omega | decide) only [w_nl0, w_nli, w_nlr, ↓w_ts1, ↓w_ts0, w_rcv, w_rfv, w_cs, true_and, and_true, List.length_nil, List.length_cons, Nat.reduceAdd, Nat.reduceLeDiff, Nat.zero_le, Nat.reduceLT, ↓w_nil, ix_nI, nI_leP, nI_ltP, nI_eqP, nI_1, ↓i_inN, i_inN, l_le, l_lt, l_eq, r_le, r_lt, r_eq, sh0, sh1, sh55, sh60, sh9, sh31, sh23, sh37, sh42, sh43, sh19, sh3, sh6, ↓w_iload_1, ↓w_bipush, ↓w_is, ↓pm_cl1_2, ↓w_ifeq, ↓w_iload_2, ↓pm_cl1_1, ↓w_iload_3, ↓w_ifne, ↓w_iconst, ↓w_ret, ↓w_aload_0, ↓w_gf3, ↓w_iv, ↓pm_cl2_4])
      | (with_reducible refine c_below (by omega) ?_; simp (disch := first | omega | decide) only [w_nl0, w_nli, w_nlr, ↓w_ts1, ↓w_ts0, w_rcv, w_rfv, w_cs, true_and, and_true, List.length_nil, List.length_cons, Nat.reduceAdd, Nat.reduceLeDiff, Nat.zero_le, Nat.reduceLT, ↓w_nil, ix_nI, nI_leP, nI_ltP, nI_eqP, nI_1, ↓i_inN, i_inN, l_le, l_lt, l_eq, r_le, r_lt, r_eq, sh0, sh1, sh55, sh60, sh9, sh31, sh23, sh37, sh42, sh43, sh19, sh3, sh6, ↓w_iload_1, ↓w_bipush, ↓w_is, ↓pm_cl1_2, ↓w_ifeq, ↓w_iload_2, ↓pm_cl1_1, ↓w_iload_3, ↓w_ifne, ↓w_iconst, ↓w_ret, ↓w_aload_0, ↓w_gf3, ↓w_iv, ↓pm_cl2_4])
      | (with_reducible refine c_isOff (by omega) ?_; simp (disch := first | omega | decide) only [w_nl0, w_nli, w_nlr, ↓w_ts1, ↓w_ts0, w_rcv, w_rfv, w_cs, true_and, and_true, List.length_nil, List.length_cons, Nat.reduceAdd, Nat.reduceLeDiff, Nat.zero_le, Nat.reduceLT, ↓w_nil, ix_nI, nI_leP, nI_ltP, nI_eqP, nI_1, ↓i_inN, i_inN, l_le, l_lt, l_eq, r_le, r_lt, r_eq, sh0, sh1, sh55, sh60, sh9, sh31, sh23, sh37, sh42, sh43, sh19, sh3, sh6, ↓w_iload_1, ↓w_bipush, ↓w_is, ↓pm_cl1_2, ↓w_ifeq, ↓w_iload_2, ↓pm_cl1_1, ↓w_iload_3, ↓w_ifne, ↓w_iconst, ↓w_ret, ↓w_aload_0, ↓w_gf3, ↓w_iv, ↓pm_cl2_4])
      | (with_reducible refine c_shift (by omega) hq ?_; simp (disch := first | omega | decide) only [w_nl0, w_nli, w_nlr, ↓w_ts1, ↓w_ts0, w_rcv, w_rfv, w_cs, true_and, and_true, List.length_nil, List.length_cons, Nat.reduceAdd, Nat.reduceLeDiff, Nat.zero_le, Nat.reduceLT, ↓w_nil, ix_nI, nI_leP, nI_ltP, nI_eqP, nI_1, ↓i_inN, i_inN, l_le, l_lt, l_eq, r_le, r_lt, r_eq, sh0, sh1, sh55, sh60, sh9, sh31, sh23, sh37, sh42, sh43, sh19, sh3, sh6, ↓w_iload_1, ↓w_bipush, ↓w_is, ↓pm_cl1_2, ↓w_ifeq, ↓w_iload_2, ↓pm_cl1_1, ↓w_iload_3, ↓w_ifne, ↓w_iconst, ↓w_ret, ↓w_aload_0, ↓w_gf3, ↓w_iv, ↓pm_cl2_4])
      | (simp only [w_in])
      | (intro _))
    all_goals try rfl
    all_goals try refine MC.of (eX12_off (by omega) ?_)
    all_goals
      repeat' (first
        | (apply And.intro)
        | (with_reducible refine bX12_off_0 ?_; simp (disch := first | omega | decide) only [w_nl0, w_nli, w_nlr, ↓w_ts1, ↓w_ts0, w_rcv, w_rfv, w_cs, true_and, and_true, List.length_nil, List.length_cons, Nat.reduceAdd, Nat.reduceLeDiff, Nat.zero_le, Nat.reduceLT, ↓w_nil, ix_nI, nI_leP, nI_ltP, nI_eqP, nI_1, ↓i_inN, i_inN, l_le, l_lt, l_eq, r_le, r_lt, r_eq, sh68_0, sh68_1, sh68_2, sh68_3, sh68_4, ↓w_iload_1, ↓w_is, ↓pm_cl1_1, ↓w_ifeq, ↓w_iload_2, ↓w_bipush, ↓pm_cl1_3, ↓w_iload_3, ↓w_ifne, ↓w_iconst, ↓w_ret, ↓w_aload_0, ↓w_gf3, ↓w_iastore])
        | (with_reducible refine bX12_off_1 ?_; simp (disch := first | omega | decide) only [w_nl0, w_nli, w_nlr, ↓w_ts1, ↓w_ts0, w_rcv, w_rfv, w_cs, true_and, and_true, List.length_nil, List.length_cons, Nat.reduceAdd, Nat.reduceLeDiff, Nat.zero_le, Nat.reduceLT, ↓w_nil, ix_nI, nI_leP, nI_ltP, nI_eqP, nI_1, ↓i_inN, i_inN, l_le, l_lt, l_eq, r_le, r_lt, r_eq, sh68_0, sh68_1, sh68_2, sh68_3, sh68_4, ↓w_iload_1, ↓w_is, ↓pm_cl1_1, ↓w_ifeq, ↓w_iload_2, ↓w_bipush, ↓pm_cl1_3, ↓w_iload_3, ↓w_ifne, ↓w_iconst, ↓w_ret, ↓w_aload_0, ↓w_gf3, ↓w_iastore])
        | (with_reducible refine bX12_off_2 ?_; simp (disch := first | omega | decide) only [w_nl0, w_nli, w_nlr, ↓w_ts1, ↓w_ts0, w_rcv, w_rfv, w_cs, true_and, and_true, List.length_nil, List.length_cons, Nat.reduceAdd, Nat.reduceLeDiff, Nat.zero_le, Nat.reduceLT, ↓w_nil, ix_nI, nI_leP, nI_ltP, nI_eqP, nI_1, ↓i_inN, i_inN, l_le, l_lt, l_eq, r_le, r_lt, r_eq, sh68_0, sh68_1, sh68_2, sh68_3, sh68_4, ↓w_iload_1, ↓w_is, ↓pm_cl1_1, ↓w_ifeq, ↓w_iload_2, ↓w_bipush, ↓pm_cl1_3, ↓w_iload_3, ↓w_ifne, ↓w_iconst, ↓w_ret, ↓w_aload_0, ↓w_gf3, ↓w_iastore])
        | (with_reducible refine m_isPress (by omega) ?_; simp (disch := first | omega | decide) only [w_nl0, w_nli, w_nlr, ↓w_ts1, ↓w_ts0, w_rcv, w_rfv, w_cs, true_and, and_true, List.length_nil, List.length_cons, Nat.reduceAdd, Nat.reduceLeDiff, Nat.zero_le, Nat.reduceLT, ↓w_nil, ix_nI, nI_leP, nI_ltP, nI_eqP, nI_1, ↓i_inN, i_inN, l_le, l_lt, l_eq, r_le, r_lt, r_eq, sh68_0, sh68_1, sh68_2, sh68_3, sh68_4, ↓w_iload_1, ↓w_is, ↓pm_cl1_1, ↓w_ifeq, ↓w_iload_2, ↓w_bipush, ↓pm_cl1_3, ↓w_iload_3, ↓w_ifne, ↓w_iconst, ↓w_ret, ↓w_aload_0, ↓w_gf3, ↓w_iastore])
        | (with_reducible refine m_in (by omega) ?_; simp (disch := first | omega | decide) only [w_nl0, w_nli, w_nlr, ↓w_ts1, ↓w_ts0, w_rcv, w_rfv, w_cs, true_and, and_true, List.length_nil, List.length_cons, Nat.reduceAdd, Nat.reduceLeDiff, Nat.zero_le, Nat.reduceLT, ↓w_nil, ix_nI, nI_leP, nI_ltP, nI_eqP, nI_1, ↓i_inN, i_inN, l_le, l_lt, l_eq, r_le, r_lt, r_eq, sh68_0, sh68_1, sh68_2, sh68_3, sh68_4, ↓w_iload_1, ↓w_is, ↓pm_cl1_1, ↓w_ifeq, ↓w_iload_2, ↓w_bipush, ↓pm_cl1_3, ↓w_iload_3, ↓w_ifne, ↓w_iconst, ↓w_ret, ↓w_aload_0, ↓w_gf3, ↓w_iastore])
        | (simp only [w_in])
        | (intro _))
    all_goals first | rfl | exact hw | exact relw_found hw | exact relw_asks hw | grind
  · refine eX11_off (by omega) ?_
    repeat' (first
      | (apply And.intro)
      | (with_reducible refine bX11_off_0 ?_; simp (disch := first | omega | decide) only [w_nl0, w_nli, w_nlr, ↓w_ts1, ↓w_ts0, w_rcv, w_rfv, w_cs, true_and, and_true, List.length_nil, List.length_cons, Nat.reduceAdd, Nat.reduceLeDiff, Nat.zero_le, Nat.reduceLT, ↓w_nil, ix_nI, nI_leP, nI_ltP, nI_eqP, nI_1, ↓i_inN, i_inN, l_le, l_lt, l_eq, r_le, r_lt, r_eq, sh0, sh1, sh55, sh60, sh9, sh31, sh23, sh37, sh42, sh43, sh19, sh3, sh6, ↓w_iload_1, ↓w_bipush, ↓w_is, ↓pm_cl1_2, ↓w_ifeq, ↓w_iload_2, ↓pm_cl1_1, ↓w_iload_3, ↓w_ifne, ↓w_iconst, ↓w_ret, ↓w_aload_0, ↓w_gf3, ↓w_iv, ↓pm_cl2_4])
      | (with_reducible refine bX11_off_1 ?_; simp (disch := first | omega | decide) only [w_nl0, w_nli, w_nlr, ↓w_ts1, ↓w_ts0, w_rcv, w_rfv, w_cs, true_and, and_true, List.length_nil, List.length_cons, Nat.reduceAdd, Nat.reduceLeDiff, Nat.zero_le, Nat.reduceLT, ↓w_nil, ix_nI, nI_leP, nI_ltP, nI_eqP, nI_1, ↓i_inN, i_inN, l_le, l_lt, l_eq, r_le, r_lt, r_eq, sh0, sh1, sh55, sh60, sh9, sh31, sh23, sh37, sh42, sh43, sh19, sh3, sh6, ↓w_iload_1, ↓w_bipush, ↓w_is, ↓pm_cl1_2, ↓w_ifeq, ↓w_iload_2, ↓pm_cl1_1, ↓w_iload_3, ↓w_ifne, ↓w_iconst, ↓w_ret, ↓w_aload_0, ↓w_gf3, ↓w_iv, ↓pm_cl2_4])
      | (with_reducible refine bX11_off_2 ?_; simp (disch := first | omega | decide) only [w_nl0, w_nli, w_nlr, ↓w_ts1, ↓w_ts0, w_rcv, w_rfv, w_cs, true_and, and_true, List.length_nil, List.length_cons, Nat.reduceAdd, Nat.reduceLeDiff, Nat.zero_le, Nat.reduceLT, ↓w_nil, ix_nI, nI_leP, nI_ltP, nI_eqP, nI_1, ↓i_inN, i_inN, l_le, l_lt, l_eq, r_le, r_lt, r_eq, sh0, sh1, sh55, sh60, sh9, sh31, sh23, sh37, sh42, sh43, sh19, sh3, sh6, ↓w_iload_1, ↓w_bipush, ↓w_is, ↓pm_cl1_2, ↓w_ifeq, ↓w_iload_2, ↓pm_cl1_1, ↓w_iload_3, ↓w_ifne, ↓w_iconst, ↓w_ret, ↓w_aload_0, ↓w_gf3, ↓w_iv, ↓pm_cl2_4])
      | (with_reducible refine c_below (by omega) ?_; simp (disch := first | omega | decide) only [w_nl0, w_nli, w_nlr, ↓w_ts1, ↓w_ts0, w_rcv, w_rfv, w_cs, true_and, and_true, List.length_nil, List.length_cons, Nat.reduceAdd, Nat.reduceLeDiff, Nat.zero_le, Nat.reduceLT, ↓w_nil, ix_nI, nI_leP, nI_ltP, nI_eqP, nI_1, ↓i_inN, i_inN, l_le, l_lt, l_eq, r_le, r_lt, r_eq, sh0, sh1, sh55, sh60, sh9, sh31, sh23, sh37, sh42, sh43, sh19, sh3, sh6, ↓w_iload_1, ↓w_bipush, ↓w_is, ↓pm_cl1_2, ↓w_ifeq, ↓w_iload_2, ↓pm_cl1_1, ↓w_iload_3, ↓w_ifne, ↓w_iconst, ↓w_ret, ↓w_aload_0, ↓w_gf3, ↓w_iv, ↓pm_cl2_4])
      | (with_reducible refine c_isOff (by omega) ?_; simp (disch := first | omega | decide) only [w_nl0, w_nli, w_nlr, ↓w_ts1, ↓w_ts0, w_rcv, w_rfv, w_cs, true_and, and_true, List.length_nil, List.length_cons, Nat.reduceAdd, Nat.reduceLeDiff, Nat.zero_le, Nat.reduceLT, ↓w_nil, ix_nI, nI_leP, nI_ltP, nI_eqP, nI_1, ↓i_inN, i_inN, l_le, l_lt, l_eq, r_le, r_lt, r_eq, sh0, sh1, sh55, sh60, sh9, sh31, sh23, sh37, sh42, sh43, sh19, sh3, sh6, ↓w_iload_1, ↓w_bipush, ↓w_is, ↓pm_cl1_2, ↓w_ifeq, ↓w_iload_2, ↓pm_cl1_1, ↓w_iload_3, ↓w_ifne, ↓w_iconst, ↓w_ret, ↓w_aload_0, ↓w_gf3, ↓w_iv, ↓pm_cl2_4])
      | (simp only [w_in])
      | (intro _))
    all_goals try rfl
    all_goals try refine MC.of (eX12_off (by omega) ?_)
    all_goals
      repeat' (first
        | (apply And.intro)
        | (with_reducible refine bX12_off_0 ?_; simp (disch := first | omega | decide) only [w_nl0, w_nli, w_nlr, ↓w_ts1, ↓w_ts0, w_rcv, w_rfv, w_cs, true_and, and_true, List.length_nil, List.length_cons, Nat.reduceAdd, Nat.reduceLeDiff, Nat.zero_le, Nat.reduceLT, ↓w_nil, ix_nI, nI_leP, nI_ltP, nI_eqP, nI_1, ↓i_inN, i_inN, l_le, l_lt, l_eq, r_le, r_lt, r_eq, sh68_0, sh68_1, sh68_2, sh68_3, sh68_4, ↓w_iload_1, ↓w_is, ↓pm_cl1_1, ↓w_ifeq, ↓w_iload_2, ↓w_bipush, ↓pm_cl1_3, ↓w_iload_3, ↓w_ifne, ↓w_iconst, ↓w_ret, ↓w_aload_0, ↓w_gf3, ↓w_iastore])
        | (with_reducible refine bX12_off_1 ?_; simp (disch := first | omega | decide) only [w_nl0, w_nli, w_nlr, ↓w_ts1, ↓w_ts0, w_rcv, w_rfv, w_cs, true_and, and_true, List.length_nil, List.length_cons, Nat.reduceAdd, Nat.reduceLeDiff, Nat.zero_le, Nat.reduceLT, ↓w_nil, ix_nI, nI_leP, nI_ltP, nI_eqP, nI_1, ↓i_inN, i_inN, l_le, l_lt, l_eq, r_le, r_lt, r_eq, sh68_0, sh68_1, sh68_2, sh68_3, sh68_4, ↓w_iload_1, ↓w_is, ↓pm_cl1_1, ↓w_ifeq, ↓w_iload_2, ↓w_bipush, ↓pm_cl1_3, ↓w_iload_3, ↓w_ifne, ↓w_iconst, ↓w_ret, ↓w_aload_0, ↓w_gf3, ↓w_iastore])
        | (with_reducible refine bX12_off_2 ?_; simp (disch := first | omega | decide) only [w_nl0, w_nli, w_nlr, ↓w_ts1, ↓w_ts0, w_rcv, w_rfv, w_cs, true_and, and_true, List.length_nil, List.length_cons, Nat.reduceAdd, Nat.reduceLeDiff, Nat.zero_le, Nat.reduceLT, ↓w_nil, ix_nI, nI_leP, nI_ltP, nI_eqP, nI_1, ↓i_inN, i_inN, l_le, l_lt, l_eq, r_le, r_lt, r_eq, sh68_0, sh68_1, sh68_2, sh68_3, sh68_4, ↓w_iload_1, ↓w_is, ↓pm_cl1_1, ↓w_ifeq, ↓w_iload_2, ↓w_bipush, ↓pm_cl1_3, ↓w_iload_3, ↓w_ifne, ↓w_iconst, ↓w_ret, ↓w_aload_0, ↓w_gf3, ↓w_iastore])
        | (with_reducible refine m_isPress (by omega) ?_; simp (disch := first | omega | decide) only [w_nl0, w_nli, w_nlr, ↓w_ts1, ↓w_ts0, w_rcv, w_rfv, w_cs, true_and, and_true, List.length_nil, List.length_cons, Nat.reduceAdd, Nat.reduceLeDiff, Nat.zero_le, Nat.reduceLT, ↓w_nil, ix_nI, nI_leP, nI_ltP, nI_eqP, nI_1, ↓i_inN, i_inN, l_le, l_lt, l_eq, r_le, r_lt, r_eq, sh68_0, sh68_1, sh68_2, sh68_3, sh68_4, ↓w_iload_1, ↓w_is, ↓pm_cl1_1, ↓w_ifeq, ↓w_iload_2, ↓w_bipush, ↓pm_cl1_3, ↓w_iload_3, ↓w_ifne, ↓w_iconst, ↓w_ret, ↓w_aload_0, ↓w_gf3, ↓w_iastore])
        | (with_reducible refine m_in (by omega) ?_; simp (disch := first | omega | decide) only [w_nl0, w_nli, w_nlr, ↓w_ts1, ↓w_ts0, w_rcv, w_rfv, w_cs, true_and, and_true, List.length_nil, List.length_cons, Nat.reduceAdd, Nat.reduceLeDiff, Nat.zero_le, Nat.reduceLT, ↓w_nil, ix_nI, nI_leP, nI_ltP, nI_eqP, nI_1, ↓i_inN, i_inN, l_le, l_lt, l_eq, r_le, r_lt, r_eq, sh68_0, sh68_1, sh68_2, sh68_3, sh68_4, ↓w_iload_1, ↓w_is, ↓pm_cl1_1, ↓w_ifeq, ↓w_iload_2, ↓w_bipush, ↓pm_cl1_3, ↓w_iload_3, ↓w_ifne, ↓w_iconst, ↓w_ret, ↓w_aload_0, ↓w_gf3, ↓w_iastore])
        | (simp only [w_in])
        | (intro _))
    all_goals first | rfl | exact hw | exact relw_found hw | exact relw_asks hw | grind
end C41
