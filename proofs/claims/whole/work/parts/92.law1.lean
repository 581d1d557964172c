section C92
variable {g : pm_G} {d : Nat} {R : Room} {Q : pm_Po} {I : pm_MI} {J : pm_ML} {k : Nat × Nat} {i : Nat}
abbrev UL (g : pm_G) (d : Nat) (R : Room) (Q : pm_Po) (b i : Nat) (I : pm_MI) (J : pm_ML) (k : Nat × Nat) : Prop := UU g d 302 kL_law R Q b [some .null, some (.ref 0), some (.ref 68), some (.int (nI i))] [] SH I J k
theorem ty_int {v : Option Value} {f : Nat} {S : pm_SS} (h : (S, tyV v) = (SH, tyOf f)) (hf : tyOf f = 1) : S = SH ∧ ∃ a, v = some (.int a) := by
  rw [hf] at h
  have h1 := congrArg Prod.fst h
  have h2 : tyV v = 1 := congrArg Prod.snd h
  refine ⟨h1, ?_⟩
  cases v with
  | none => exact absurd h2 (by decide)
  | some x =>
    cases x with
    | int a => exact ⟨a, rfl⟩
    | _ => exact absurd h2 (by simp [tyV])
theorem ty_long {v : Option Value} {f : Nat} {S : pm_SS} (h : (S, tyV v) = (SH, tyOf f)) (hf : tyOf f = 2) : S = SH ∧ ∃ a, v = some (.long a) := by
  rw [hf] at h
  have h1 := congrArg Prod.fst h
  have h2 : tyV v = 2 := congrArg Prod.snd h
  refine ⟨h1, ?_⟩
  cases v with
  | none => exact absurd h2 (by decide)
  | some x =>
    cases x with
    | long a => exact ⟨a, rfl⟩
    | _ => exact absurd h2 (by simp [tyV])
theorem pm_C_mono {f : Nat} {args : List Value} {Q Q2 : pm_Po} {S : pm_SS} (h : pm_C g d f args Q S I J) (hq : ∀ v S2 I2 J2, Q v S2 I2 J2 → Q2 v S2 I2 J2) : pm_C g d f args Q2 S I J := by
  unfold pm_C Met at h ⊢
  refine MetFree.mono h (fun _ _ z => z) (fun _ _ _ _ _ z => z) (fun a s o t _ z => ⟨?_, z.2⟩)
  obtain ⟨r, S2, I2, J2, h1, h2, h3, h4⟩ := z.1
  exact ⟨r, S2, I2, J2, h1, hq _ _ _ _ h2, h3, h4⟩
theorem nI_p5 (a : Nat) : nI a + 5 = nI (a + 5) := nI_add a 5
theorem vl {v : Option Value} : (v.toList ++ ([] : List Value)).length ≤ 4 := by cases v <;> simp
theorem lw_b2 (hd : 30 ≤ d) (hL : g.2.2.2.1 ≤ 3072) (hi : i + 5 < g.2.2.2.1) (hk1 : k.1 ≤ R.cells) (hk2 : k.2 ≤ R.slots) (hR : Rel I J) (hw : ∀ I2 J2, Rel I2 J2 → UL g d R Q 61 i I2 J2 k) : UL g d R Q 2 i I J k := by
  refine bL_law_2 ?_
  simp (disch := first | omega | decide) only [w_nl0, w_nli, w_nlr, ↓w_ts1, ↓w_ts0, w_rcv, w_rfv, w_cs, true_and, and_true, List.length_nil, List.length_cons, Nat.reduceAdd, Nat.reduceLeDiff, Nat.zero_le, Nat.reduceLT, ↓w_nil, ix_nI, nI_leP, nI_ltP, nI_eqP, nI_1, ↓i_inN, i_inN, l_le, l_lt, l_eq, r_le, r_lt, r_eq, ↓w_aload_1, ↓w_naload_1, ↓w_aload_0, ↓w_naload_0, ↓w_iload_3, ↓w_iconst, ↓w_iadd, ↓w_iaload, ↓w_saload, ↓w_iv, ↓pm_cl2_3, ↓w_aload_2, ↓w_naload_2, ↓w_iceq, ↓w_zret, sh0, sh68_0, nI_add, nI_p2, nI_p3, nI_p4, nI_p5]
  repeat' (first | apply And.intro | omega | assumption | exact vl)
  refine pm_C_mono (p_row (by omega) I J hR) (fun v S1 I1 J1 h1 => ?_)
  obtain ⟨rfl, _, h2⟩ := h1
  simp (disch := first | omega | decide) only [w_nl0, w_nli, w_nlr, ↓w_ts1, ↓w_ts0, w_rcv, w_rfv, w_cs, true_and, and_true, List.length_nil, List.length_cons, Nat.reduceAdd, Nat.reduceLeDiff, Nat.zero_le, Nat.reduceLT, ↓w_nil, ix_nI, nI_leP, nI_ltP, nI_eqP, nI_1, ↓i_inN, i_inN, l_le, l_lt, l_eq, r_le, r_lt, r_eq, ↓w_aload_1, ↓w_naload_1, ↓w_aload_0, ↓w_naload_0, ↓w_iload_3, ↓w_iconst, ↓w_iadd, ↓w_iaload, ↓w_saload, ↓w_iv, ↓pm_cl2_3, ↓w_aload_2, ↓w_naload_2, ↓w_iceq, ↓w_zret, sh0, sh68_0, nI_add, nI_p2, nI_p3, nI_p4, nI_p5]
  repeat' (first | apply And.intro | omega | assumption | exact vl)
  refine pm_C_mono h2 (fun w S2 I2 J2 h3 => ?_)
  obtain ⟨e, rfl, _, hR2⟩ := h3
  obtain ⟨rfl, a, rfl⟩ := ty_int e rfl
  simp (disch := first | omega | decide) only [w_nl0, w_nli, w_nlr, ↓w_ts1, ↓w_ts0, w_rcv, w_rfv, w_cs, true_and, and_true, List.length_nil, List.length_cons, Nat.reduceAdd, Nat.reduceLeDiff, Nat.zero_le, Nat.reduceLT, ↓w_nil, ix_nI, nI_leP, nI_ltP, nI_eqP, nI_1, ↓i_inN, i_inN, l_le, l_lt, l_eq, r_le, r_lt, r_eq, ↓w_aload_1, ↓w_naload_1, ↓w_aload_0, ↓w_naload_0, ↓w_iload_3, ↓w_iconst, ↓w_iadd, ↓w_iaload, ↓w_saload, ↓w_iv, ↓pm_cl2_3, ↓w_aload_2, ↓w_naload_2, ↓w_iceq, ↓w_zret, sh0, sh68_0, nI_add, nI_p2, nI_p3, nI_p4, nI_p5]
  have w := hw I2 J2 hR2
  first | exact ⟨fun _ => w, fun z => absurd rfl z⟩ | exact w | grind
theorem lw_b3 (hd : 30 ≤ d) (hL : g.2.2.2.1 ≤ 3072) (hi : i + 5 < g.2.2.2.1) (hk1 : k.1 ≤ R.cells) (hk2 : k.2 ≤ R.slots) (hR : Rel I J) (hw : ∀ I2 J2, Rel I2 J2 → UL g d R Q 61 i I2 J2 k) : UL g d R Q 3 i I J k := by
  refine bL_law_3 ?_
  simp (disch := first | omega | decide) only [w_nl0, w_nli, w_nlr, ↓w_ts1, ↓w_ts0, w_rcv, w_rfv, w_cs, true_and, and_true, List.length_nil, List.length_cons, Nat.reduceAdd, Nat.reduceLeDiff, Nat.zero_le, Nat.reduceLT, ↓w_nil, ix_nI, nI_leP, nI_ltP, nI_eqP, nI_1, ↓i_inN, i_inN, l_le, l_lt, l_eq, r_le, r_lt, r_eq, ↓w_aload_1, ↓w_naload_1, ↓w_aload_0, ↓w_naload_0, ↓w_iload_3, ↓w_iconst, ↓w_iadd, ↓w_iaload, ↓w_saload, ↓w_iv, ↓pm_cl2_4, ↓w_aload_2, ↓w_naload_2, ↓w_iceq, ↓w_zret, sh0, sh68_0, nI_add, nI_p2, nI_p3, nI_p4, nI_p5]
  repeat' (first | apply And.intro | omega | assumption | exact vl)
  refine pm_C_mono (p_lay (by omega) I J hR) (fun v S1 I1 J1 h1 => ?_)
  obtain ⟨rfl, _, h2⟩ := h1
  simp (disch := first | omega | decide) only [w_nl0, w_nli, w_nlr, ↓w_ts1, ↓w_ts0, w_rcv, w_rfv, w_cs, true_and, and_true, List.length_nil, List.length_cons, Nat.reduceAdd, Nat.reduceLeDiff, Nat.zero_le, Nat.reduceLT, ↓w_nil, ix_nI, nI_leP, nI_ltP, nI_eqP, nI_1, ↓i_inN, i_inN, l_le, l_lt, l_eq, r_le, r_lt, r_eq, ↓w_aload_1, ↓w_naload_1, ↓w_aload_0, ↓w_naload_0, ↓w_iload_3, ↓w_iconst, ↓w_iadd, ↓w_iaload, ↓w_saload, ↓w_iv, ↓pm_cl2_4, ↓w_aload_2, ↓w_naload_2, ↓w_iceq, ↓w_zret, sh0, sh68_0, nI_add, nI_p2, nI_p3, nI_p4, nI_p5]
  repeat' (first | apply And.intro | omega | assumption | exact vl)
  refine pm_C_mono h2 (fun w S2 I2 J2 h3 => ?_)
  obtain ⟨e, rfl, _, hR2⟩ := h3
  obtain ⟨rfl, a, rfl⟩ := ty_int e rfl
  simp (disch := first | omega | decide) only [w_nl0, w_nli, w_nlr, ↓w_ts1, ↓w_ts0, w_rcv, w_rfv, w_cs, true_and, and_true, List.length_nil, List.length_cons, Nat.reduceAdd, Nat.reduceLeDiff, Nat.zero_le, Nat.reduceLT, ↓w_nil, ix_nI, nI_leP, nI_ltP, nI_eqP, nI_1, ↓i_inN, i_inN, l_le, l_lt, l_eq, r_le, r_lt, r_eq, ↓w_aload_1, ↓w_naload_1, ↓w_aload_0, ↓w_naload_0, ↓w_iload_3, ↓w_iconst, ↓w_iadd, ↓w_iaload, ↓w_saload, ↓w_iv, ↓pm_cl2_4, ↓w_aload_2, ↓w_naload_2, ↓w_iceq, ↓w_zret, sh0, sh68_0, nI_add, nI_p2, nI_p3, nI_p4, nI_p5]
  have w := hw I2 J2 hR2
  first | exact ⟨fun _ => w, fun z => absurd rfl z⟩ | exact w | grind
theorem lw_b4 (hd : 30 ≤ d) (hL : g.2.2.2.1 ≤ 3072) (hi : i + 5 < g.2.2.2.1) (hk1 : k.1 ≤ R.cells) (hk2 : k.2 ≤ R.slots) (hR : Rel I J) (hw : ∀ I2 J2, Rel I2 J2 → UL g d R Q 61 i I2 J2 k) : UL g d R Q 4 i I J k := by
  refine bL_law_4 ?_
  simp (disch := first | omega | decide) only [w_nl0, w_nli, w_nlr, ↓w_ts1, ↓w_ts0, w_rcv, w_rfv, w_cs, true_and, and_true, List.length_nil, List.length_cons, Nat.reduceAdd, Nat.reduceLeDiff, Nat.zero_le, Nat.reduceLT, ↓w_nil, ix_nI, nI_leP, nI_ltP, nI_eqP, nI_1, ↓i_inN, i_inN, l_le, l_lt, l_eq, r_le, r_lt, r_eq, ↓w_aload_1, ↓w_naload_1, ↓w_aload_0, ↓w_naload_0, ↓w_iload_3, ↓w_iconst, ↓w_iadd, ↓w_iaload, ↓w_saload, ↓w_iv, ↓pm_cl2_2, ↓w_aload_2, ↓w_naload_2, ↓w_iceq, ↓w_zret, sh0, sh68_0, nI_add, nI_p2, nI_p3, nI_p4, nI_p5]
  repeat' (first | apply And.intro | omega | assumption | exact vl)
  refine pm_C_mono (p_tear (by omega) I J hR) (fun v S1 I1 J1 h1 => ?_)
  obtain ⟨rfl, _, h2⟩ := h1
  simp (disch := first | omega | decide) only [w_nl0, w_nli, w_nlr, ↓w_ts1, ↓w_ts0, w_rcv, w_rfv, w_cs, true_and, and_true, List.length_nil, List.length_cons, Nat.reduceAdd, Nat.reduceLeDiff, Nat.zero_le, Nat.reduceLT, ↓w_nil, ix_nI, nI_leP, nI_ltP, nI_eqP, nI_1, ↓i_inN, i_inN, l_le, l_lt, l_eq, r_le, r_lt, r_eq, ↓w_aload_1, ↓w_naload_1, ↓w_aload_0, ↓w_naload_0, ↓w_iload_3, ↓w_iconst, ↓w_iadd, ↓w_iaload, ↓w_saload, ↓w_iv, ↓pm_cl2_2, ↓w_aload_2, ↓w_naload_2, ↓w_iceq, ↓w_zret, sh0, sh68_0, nI_add, nI_p2, nI_p3, nI_p4, nI_p5]
  repeat' (first | apply And.intro | omega | assumption | exact vl)
  refine pm_C_mono h2 (fun w S2 I2 J2 h3 => ?_)
  obtain ⟨e, rfl, _, hR2⟩ := h3
  obtain ⟨rfl, a, rfl⟩ := ty_int e rfl
  simp (disch := first | omega | decide) only [w_nl0, w_nli, w_nlr, ↓w_ts1, ↓w_ts0, w_rcv, w_rfv, w_cs, true_and, and_true, List.length_nil, List.length_cons, Nat.reduceAdd, Nat.reduceLeDiff, Nat.zero_le, Nat.reduceLT, ↓w_nil, ix_nI, nI_leP, nI_ltP, nI_eqP, nI_1, ↓i_inN, i_inN, l_le, l_lt, l_eq, r_le, r_lt, r_eq, ↓w_aload_1, ↓w_naload_1, ↓w_aload_0, ↓w_naload_0, ↓w_iload_3, ↓w_iconst, ↓w_iadd, ↓w_iaload, ↓w_saload, ↓w_iv, ↓pm_cl2_2, ↓w_aload_2, ↓w_naload_2, ↓w_iceq, ↓w_zret, sh0, sh68_0, nI_add, nI_p2, nI_p3, nI_p4, nI_p5]
  have w := hw I2 J2 hR2
  first | exact ⟨fun _ => w, fun z => absurd rfl z⟩ | exact w | grind
theorem lw_b5 (hd : 30 ≤ d) (hL : g.2.2.2.1 ≤ 3072) (hi : i + 5 < g.2.2.2.1) (hk1 : k.1 ≤ R.cells) (hk2 : k.2 ≤ R.slots) (hR : Rel I J) (hw : ∀ I2 J2, Rel I2 J2 → UL g d R Q 61 i I2 J2 k) : UL g d R Q 5 i I J k := by
  refine bL_law_5 ?_
  simp (disch := first | omega | decide) only [w_nl0, w_nli, w_nlr, ↓w_ts1, ↓w_ts0, w_rcv, w_rfv, w_cs, true_and, and_true, List.length_nil, List.length_cons, Nat.reduceAdd, Nat.reduceLeDiff, Nat.zero_le, Nat.reduceLT, ↓w_nil, ix_nI, nI_leP, nI_ltP, nI_eqP, nI_1, ↓i_inN, i_inN, l_le, l_lt, l_eq, r_le, r_lt, r_eq, ↓w_aload_1, ↓w_naload_1, ↓w_aload_0, ↓w_naload_0, ↓w_iload_3, ↓w_iconst, ↓w_iadd, ↓w_iaload, ↓w_saload, ↓w_iv, ↓pm_cl2_6, ↓w_aload_2, ↓w_naload_2, ↓w_iceq, ↓w_zret, sh0, sh68_0, nI_add, nI_p2, nI_p3, nI_p4, nI_p5]
  repeat' (first | apply And.intro | omega | assumption | exact vl)
  refine pm_C_mono (p_copy (by omega) I J hR) (fun v S1 I1 J1 h1 => ?_)
  obtain ⟨rfl, _, h2⟩ := h1
  simp (disch := first | omega | decide) only [w_nl0, w_nli, w_nlr, ↓w_ts1, ↓w_ts0, w_rcv, w_rfv, w_cs, true_and, and_true, List.length_nil, List.length_cons, Nat.reduceAdd, Nat.reduceLeDiff, Nat.zero_le, Nat.reduceLT, ↓w_nil, ix_nI, nI_leP, nI_ltP, nI_eqP, nI_1, ↓i_inN, i_inN, l_le, l_lt, l_eq, r_le, r_lt, r_eq, ↓w_aload_1, ↓w_naload_1, ↓w_aload_0, ↓w_naload_0, ↓w_iload_3, ↓w_iconst, ↓w_iadd, ↓w_iaload, ↓w_saload, ↓w_iv, ↓pm_cl2_6, ↓w_aload_2, ↓w_naload_2, ↓w_iceq, ↓w_zret, sh0, sh68_0, nI_add, nI_p2, nI_p3, nI_p4, nI_p5]
  repeat' (first | apply And.intro | omega | assumption | exact vl)
  refine pm_C_mono h2 (fun w S2 I2 J2 h3 => ?_)
  obtain ⟨e, rfl, _, hR2⟩ := h3
  obtain ⟨rfl, a, rfl⟩ := ty_int e rfl
  simp (disch := first | omega | decide) only [w_nl0, w_nli, w_nlr, ↓w_ts1, ↓w_ts0, w_rcv, w_rfv, w_cs, true_and, and_true, List.length_nil, List.length_cons, Nat.reduceAdd, Nat.reduceLeDiff, Nat.zero_le, Nat.reduceLT, ↓w_nil, ix_nI, nI_leP, nI_ltP, nI_eqP, nI_1, ↓i_inN, i_inN, l_le, l_lt, l_eq, r_le, r_lt, r_eq, ↓w_aload_1, ↓w_naload_1, ↓w_aload_0, ↓w_naload_0, ↓w_iload_3, ↓w_iconst, ↓w_iadd, ↓w_iaload, ↓w_saload, ↓w_iv, ↓pm_cl2_6, ↓w_aload_2, ↓w_naload_2, ↓w_iceq, ↓w_zret, sh0, sh68_0, nI_add, nI_p2, nI_p3, nI_p4, nI_p5]
  have w := hw I2 J2 hR2
  first | exact ⟨fun _ => w, fun z => absurd rfl z⟩ | exact w | grind
theorem lw_b6 (hd : 30 ≤ d) (hL : g.2.2.2.1 ≤ 3072) (hi : i + 5 < g.2.2.2.1) (hk1 : k.1 ≤ R.cells) (hk2 : k.2 ≤ R.slots) (hR : Rel I J) (hw : ∀ I2 J2, Rel I2 J2 → UL g d R Q 61 i I2 J2 k) : UL g d R Q 6 i I J k := by
  refine bL_law_6 ?_
  simp (disch := first | omega | decide) only [w_nl0, w_nli, w_nlr, ↓w_ts1, ↓w_ts0, w_rcv, w_rfv, w_cs, true_and, and_true, List.length_nil, List.length_cons, Nat.reduceAdd, Nat.reduceLeDiff, Nat.zero_le, Nat.reduceLT, ↓w_nil, ix_nI, nI_leP, nI_ltP, nI_eqP, nI_1, ↓i_inN, i_inN, l_le, l_lt, l_eq, r_le, r_lt, r_eq, ↓w_aload_1, ↓w_naload_1, ↓w_aload_0, ↓w_naload_0, ↓w_iload_3, ↓w_iconst, ↓w_iadd, ↓w_iaload, ↓w_saload, ↓w_iv, ↓pm_cl2_3, ↓w_aload_2, ↓w_naload_2, ↓w_iceq, ↓w_zret, sh0, sh68_0, nI_add, nI_p2, nI_p3, nI_p4, nI_p5]
  repeat' (first | apply And.intro | omega | assumption | exact vl)
  refine pm_C_mono (p_text (by omega) I J hR) (fun v S1 I1 J1 h1 => ?_)
  obtain ⟨rfl, _, h2⟩ := h1
  simp (disch := first | omega | decide) only [w_nl0, w_nli, w_nlr, ↓w_ts1, ↓w_ts0, w_rcv, w_rfv, w_cs, true_and, and_true, List.length_nil, List.length_cons, Nat.reduceAdd, Nat.reduceLeDiff, Nat.zero_le, Nat.reduceLT, ↓w_nil, ix_nI, nI_leP, nI_ltP, nI_eqP, nI_1, ↓i_inN, i_inN, l_le, l_lt, l_eq, r_le, r_lt, r_eq, ↓w_aload_1, ↓w_naload_1, ↓w_aload_0, ↓w_naload_0, ↓w_iload_3, ↓w_iconst, ↓w_iadd, ↓w_iaload, ↓w_saload, ↓w_iv, ↓pm_cl2_3, ↓w_aload_2, ↓w_naload_2, ↓w_iceq, ↓w_zret, sh0, sh68_0, nI_add, nI_p2, nI_p3, nI_p4, nI_p5]
  repeat' (first | apply And.intro | omega | assumption | exact vl)
  refine pm_C_mono h2 (fun w S2 I2 J2 h3 => ?_)
  obtain ⟨e, rfl, _, hR2⟩ := h3
  obtain ⟨rfl, a, rfl⟩ := ty_int e rfl
  simp (disch := first | omega | decide) only [w_nl0, w_nli, w_nlr, ↓w_ts1, ↓w_ts0, w_rcv, w_rfv, w_cs, true_and, and_true, List.length_nil, List.length_cons, Nat.reduceAdd, Nat.reduceLeDiff, Nat.zero_le, Nat.reduceLT, ↓w_nil, ix_nI, nI_leP, nI_ltP, nI_eqP, nI_1, ↓i_inN, i_inN, l_le, l_lt, l_eq, r_le, r_lt, r_eq, ↓w_aload_1, ↓w_naload_1, ↓w_aload_0, ↓w_naload_0, ↓w_iload_3, ↓w_iconst, ↓w_iadd, ↓w_iaload, ↓w_saload, ↓w_iv, ↓pm_cl2_3, ↓w_aload_2, ↓w_naload_2, ↓w_iceq, ↓w_zret, sh0, sh68_0, nI_add, nI_p2, nI_p3, nI_p4, nI_p5]
  have w := hw I2 J2 hR2
  first | exact ⟨fun _ => w, fun z => absurd rfl z⟩ | exact w | grind
theorem lw_b7 (hd : 30 ≤ d) (hL : g.2.2.2.1 ≤ 3072) (hi : i + 5 < g.2.2.2.1) (hk1 : k.1 ≤ R.cells) (hk2 : k.2 ≤ R.slots) (hR : Rel I J) (hw : ∀ I2 J2, Rel I2 J2 → UL g d R Q 61 i I2 J2 k) : UL g d R Q 7 i I J k := by
  refine bL_law_7 ?_
  simp (disch := first | omega | decide) only [w_nl0, w_nli, w_nlr, ↓w_ts1, ↓w_ts0, w_rcv, w_rfv, w_cs, true_and, and_true, List.length_nil, List.length_cons, Nat.reduceAdd, Nat.reduceLeDiff, Nat.zero_le, Nat.reduceLT, ↓w_nil, ix_nI, nI_leP, nI_ltP, nI_eqP, nI_1, ↓i_inN, i_inN, l_le, l_lt, l_eq, r_le, r_lt, r_eq, ↓w_aload_1, ↓w_naload_1, ↓w_aload_0, ↓w_naload_0, ↓w_iload_3, ↓w_iconst, ↓w_iadd, ↓w_iaload, ↓w_saload, ↓w_iv, ↓pm_cl2_4, ↓w_aload_2, ↓w_naload_2, ↓w_iceq, ↓w_zret, sh0, sh68_0, nI_add, nI_p2, nI_p3, nI_p4, nI_p5]
  repeat' (first | apply And.intro | omega | assumption | exact vl)
  refine pm_C_mono (p_put (by omega) I J hR) (fun v S1 I1 J1 h1 => ?_)
  obtain ⟨rfl, _, h2⟩ := h1
  simp (disch := first | omega | decide) only [w_nl0, w_nli, w_nlr, ↓w_ts1, ↓w_ts0, w_rcv, w_rfv, w_cs, true_and, and_true, List.length_nil, List.length_cons, Nat.reduceAdd, Nat.reduceLeDiff, Nat.zero_le, Nat.reduceLT, ↓w_nil, ix_nI, nI_leP, nI_ltP, nI_eqP, nI_1, ↓i_inN, i_inN, l_le, l_lt, l_eq, r_le, r_lt, r_eq, ↓w_aload_1, ↓w_naload_1, ↓w_aload_0, ↓w_naload_0, ↓w_iload_3, ↓w_iconst, ↓w_iadd, ↓w_iaload, ↓w_saload, ↓w_iv, ↓pm_cl2_4, ↓w_aload_2, ↓w_naload_2, ↓w_iceq, ↓w_zret, sh0, sh68_0, nI_add, nI_p2, nI_p3, nI_p4, nI_p5]
  repeat' (first | apply And.intro | omega | assumption | exact vl)
  refine pm_C_mono h2 (fun w S2 I2 J2 h3 => ?_)
  obtain ⟨e, rfl, _, hR2⟩ := h3
  obtain ⟨rfl, a, rfl⟩ := ty_int e rfl
  simp (disch := first | omega | decide) only [w_nl0, w_nli, w_nlr, ↓w_ts1, ↓w_ts0, w_rcv, w_rfv, w_cs, true_and, and_true, List.length_nil, List.length_cons, Nat.reduceAdd, Nat.reduceLeDiff, Nat.zero_le, Nat.reduceLT, ↓w_nil, ix_nI, nI_leP, nI_ltP, nI_eqP, nI_1, ↓i_inN, i_inN, l_le, l_lt, l_eq, r_le, r_lt, r_eq, ↓w_aload_1, ↓w_naload_1, ↓w_aload_0, ↓w_naload_0, ↓w_iload_3, ↓w_iconst, ↓w_iadd, ↓w_iaload, ↓w_saload, ↓w_iv, ↓pm_cl2_4, ↓w_aload_2, ↓w_naload_2, ↓w_iceq, ↓w_zret, sh0, sh68_0, nI_add, nI_p2, nI_p3, nI_p4, nI_p5]
  have w := hw I2 J2 hR2
  first | exact ⟨fun _ => w, fun z => absurd rfl z⟩ | exact w | grind
theorem lw_b8 (hd : 30 ≤ d) (hL : g.2.2.2.1 ≤ 3072) (hi : i + 5 < g.2.2.2.1) (hk1 : k.1 ≤ R.cells) (hk2 : k.2 ≤ R.slots) (hR : Rel I J) (hw : ∀ I2 J2, Rel I2 J2 → UL g d R Q 61 i I2 J2 k) : UL g d R Q 8 i I J k := by
  refine bL_law_8 ?_
  simp (disch := first | omega | decide) only [w_nl0, w_nli, w_nlr, ↓w_ts1, ↓w_ts0, w_rcv, w_rfv, w_cs, true_and, and_true, List.length_nil, List.length_cons, Nat.reduceAdd, Nat.reduceLeDiff, Nat.zero_le, Nat.reduceLT, ↓w_nil, ix_nI, nI_leP, nI_ltP, nI_eqP, nI_1, ↓i_inN, i_inN, l_le, l_lt, l_eq, r_le, r_lt, r_eq, ↓w_aload_1, ↓w_naload_1, ↓w_aload_0, ↓w_naload_0, ↓w_iload_3, ↓w_iconst, ↓w_iadd, ↓w_iaload, ↓w_saload, ↓w_iv, ↓pm_cl2_2, ↓w_aload_2, ↓w_naload_2, ↓w_iceq, ↓w_zret, sh0, sh68_0, nI_add, nI_p2, nI_p3, nI_p4, nI_p5]
  repeat' (first | apply And.intro | omega | assumption | exact vl)
  refine pm_C_mono (p_burn (by omega) I J hR) (fun v S1 I1 J1 h1 => ?_)
  obtain ⟨rfl, _, h2⟩ := h1
  simp (disch := first | omega | decide) only [w_nl0, w_nli, w_nlr, ↓w_ts1, ↓w_ts0, w_rcv, w_rfv, w_cs, true_and, and_true, List.length_nil, List.length_cons, Nat.reduceAdd, Nat.reduceLeDiff, Nat.zero_le, Nat.reduceLT, ↓w_nil, ix_nI, nI_leP, nI_ltP, nI_eqP, nI_1, ↓i_inN, i_inN, l_le, l_lt, l_eq, r_le, r_lt, r_eq, ↓w_aload_1, ↓w_naload_1, ↓w_aload_0, ↓w_naload_0, ↓w_iload_3, ↓w_iconst, ↓w_iadd, ↓w_iaload, ↓w_saload, ↓w_iv, ↓pm_cl2_2, ↓w_aload_2, ↓w_naload_2, ↓w_iceq, ↓w_zret, sh0, sh68_0, nI_add, nI_p2, nI_p3, nI_p4, nI_p5]
  repeat' (first | apply And.intro | omega | assumption | exact vl)
  refine pm_C_mono h2 (fun w S2 I2 J2 h3 => ?_)
  obtain ⟨e, rfl, _, hR2⟩ := h3
  obtain ⟨rfl, a, rfl⟩ := ty_int e rfl
  simp (disch := first | omega | decide) only [w_nl0, w_nli, w_nlr, ↓w_ts1, ↓w_ts0, w_rcv, w_rfv, w_cs, true_and, and_true, List.length_nil, List.length_cons, Nat.reduceAdd, Nat.reduceLeDiff, Nat.zero_le, Nat.reduceLT, ↓w_nil, ix_nI, nI_leP, nI_ltP, nI_eqP, nI_1, ↓i_inN, i_inN, l_le, l_lt, l_eq, r_le, r_lt, r_eq, ↓w_aload_1, ↓w_naload_1, ↓w_aload_0, ↓w_naload_0, ↓w_iload_3, ↓w_iconst, ↓w_iadd, ↓w_iaload, ↓w_saload, ↓w_iv, ↓pm_cl2_2, ↓w_aload_2, ↓w_naload_2, ↓w_iceq, ↓w_zret, sh0, sh68_0, nI_add, nI_p2, nI_p3, nI_p4, nI_p5]
  have w := hw I2 J2 hR2
  first | exact ⟨fun _ => w, fun z => absurd rfl z⟩ | exact w | grind
theorem lw_b9 (hd : 30 ≤ d) (hL : g.2.2.2.1 ≤ 3072) (hi : i + 5 < g.2.2.2.1) (hk1 : k.1 ≤ R.cells) (hk2 : k.2 ≤ R.slots) (hR : Rel I J) (hw : ∀ I2 J2, Rel I2 J2 → UL g d R Q 61 i I2 J2 k) : UL g d R Q 9 i I J k := by
  refine bL_law_9 ?_
  simp (disch := first | omega | decide) only [w_nl0, w_nli, w_nlr, ↓w_ts1, ↓w_ts0, w_rcv, w_rfv, w_cs, true_and, and_true, List.length_nil, List.length_cons, Nat.reduceAdd, Nat.reduceLeDiff, Nat.zero_le, Nat.reduceLT, ↓w_nil, ix_nI, nI_leP, nI_ltP, nI_eqP, nI_1, ↓i_inN, i_inN, l_le, l_lt, l_eq, r_le, r_lt, r_eq, ↓w_aload_1, ↓w_naload_1, ↓w_aload_0, ↓w_naload_0, ↓w_iload_3, ↓w_iconst, ↓w_iadd, ↓w_iaload, ↓w_saload, ↓w_iv, ↓pm_cl2_2, ↓w_aload_2, ↓w_naload_2, ↓w_iceq, ↓w_zret, sh0, sh68_0, nI_add, nI_p2, nI_p3, nI_p4, nI_p5]
  repeat' (first | apply And.intro | omega | assumption | exact vl)
  refine pm_C_mono (p_fault (by omega) I J hR) (fun v S1 I1 J1 h1 => ?_)
  obtain ⟨rfl, _, h2⟩ := h1
  simp (disch := first | omega | decide) only [w_nl0, w_nli, w_nlr, ↓w_ts1, ↓w_ts0, w_rcv, w_rfv, w_cs, true_and, and_true, List.length_nil, List.length_cons, Nat.reduceAdd, Nat.reduceLeDiff, Nat.zero_le, Nat.reduceLT, ↓w_nil, ix_nI, nI_leP, nI_ltP, nI_eqP, nI_1, ↓i_inN, i_inN, l_le, l_lt, l_eq, r_le, r_lt, r_eq, ↓w_aload_1, ↓w_naload_1, ↓w_aload_0, ↓w_naload_0, ↓w_iload_3, ↓w_iconst, ↓w_iadd, ↓w_iaload, ↓w_saload, ↓w_iv, ↓pm_cl2_2, ↓w_aload_2, ↓w_naload_2, ↓w_iceq, ↓w_zret, sh0, sh68_0, nI_add, nI_p2, nI_p3, nI_p4, nI_p5]
  repeat' (first | apply And.intro | omega | assumption | exact vl)
  refine pm_C_mono h2 (fun w S2 I2 J2 h3 => ?_)
  obtain ⟨e, rfl, _, hR2⟩ := h3
  obtain ⟨rfl, a, rfl⟩ := ty_int e rfl
  simp (disch := first | omega | decide) only [w_nl0, w_nli, w_nlr, ↓w_ts1, ↓w_ts0, w_rcv, w_rfv, w_cs, true_and, and_true, List.length_nil, List.length_cons, Nat.reduceAdd, Nat.reduceLeDiff, Nat.zero_le, Nat.reduceLT, ↓w_nil, ix_nI, nI_leP, nI_ltP, nI_eqP, nI_1, ↓i_inN, i_inN, l_le, l_lt, l_eq, r_le, r_lt, r_eq, ↓w_aload_1, ↓w_naload_1, ↓w_aload_0, ↓w_naload_0, ↓w_iload_3, ↓w_iconst, ↓w_iadd, ↓w_iaload, ↓w_saload, ↓w_iv, ↓pm_cl2_2, ↓w_aload_2, ↓w_naload_2, ↓w_iceq, ↓w_zret, sh0, sh68_0, nI_add, nI_p2, nI_p3, nI_p4, nI_p5]
  have w := hw I2 J2 hR2
  first | exact ⟨fun _ => w, fun z => absurd rfl z⟩ | exact w | grind
theorem lw_b10 (hd : 30 ≤ d) (hL : g.2.2.2.1 ≤ 3072) (hi : i + 5 < g.2.2.2.1) (hk1 : k.1 ≤ R.cells) (hk2 : k.2 ≤ R.slots) (hR : Rel I J) (hw : ∀ I2 J2, Rel I2 J2 → UL g d R Q 61 i I2 J2 k) : UL g d R Q 10 i I J k := by
  refine bL_law_10 ?_
  simp (disch := first | omega | decide) only [w_nl0, w_nli, w_nlr, ↓w_ts1, ↓w_ts0, w_rcv, w_rfv, w_cs, true_and, and_true, List.length_nil, List.length_cons, Nat.reduceAdd, Nat.reduceLeDiff, Nat.zero_le, Nat.reduceLT, ↓w_nil, ix_nI, nI_leP, nI_ltP, nI_eqP, nI_1, ↓i_inN, i_inN, l_le, l_lt, l_eq, r_le, r_lt, r_eq, ↓w_aload_1, ↓w_naload_1, ↓w_aload_0, ↓w_naload_0, ↓w_iload_3, ↓w_iconst, ↓w_iadd, ↓w_iaload, ↓w_saload, ↓w_iv, ↓pm_cl2_2, ↓w_aload_2, ↓w_naload_2, ↓w_iceq, ↓w_zret, sh0, sh68_0, nI_add, nI_p2, nI_p3, nI_p4, nI_p5]
  repeat' (first | apply And.intro | omega | assumption | exact vl)
  refine pm_C_mono (p_later (by omega) I J hR) (fun v S1 I1 J1 h1 => ?_)
  obtain ⟨rfl, _, h2⟩ := h1
  simp (disch := first | omega | decide) only [w_nl0, w_nli, w_nlr, ↓w_ts1, ↓w_ts0, w_rcv, w_rfv, w_cs, true_and, and_true, List.length_nil, List.length_cons, Nat.reduceAdd, Nat.reduceLeDiff, Nat.zero_le, Nat.reduceLT, ↓w_nil, ix_nI, nI_leP, nI_ltP, nI_eqP, nI_1, ↓i_inN, i_inN, l_le, l_lt, l_eq, r_le, r_lt, r_eq, ↓w_aload_1, ↓w_naload_1, ↓w_aload_0, ↓w_naload_0, ↓w_iload_3, ↓w_iconst, ↓w_iadd, ↓w_iaload, ↓w_saload, ↓w_iv, ↓pm_cl2_2, ↓w_aload_2, ↓w_naload_2, ↓w_iceq, ↓w_zret, sh0, sh68_0, nI_add, nI_p2, nI_p3, nI_p4, nI_p5]
  repeat' (first | apply And.intro | omega | assumption | exact vl)
  refine pm_C_mono h2 (fun w S2 I2 J2 h3 => ?_)
  obtain ⟨e, rfl, _, hR2⟩ := h3
  obtain ⟨rfl, a, rfl⟩ := ty_int e rfl
  simp (disch := first | omega | decide) only [w_nl0, w_nli, w_nlr, ↓w_ts1, ↓w_ts0, w_rcv, w_rfv, w_cs, true_and, and_true, List.length_nil, List.length_cons, Nat.reduceAdd, Nat.reduceLeDiff, Nat.zero_le, Nat.reduceLT, ↓w_nil, ix_nI, nI_leP, nI_ltP, nI_eqP, nI_1, ↓i_inN, i_inN, l_le, l_lt, l_eq, r_le, r_lt, r_eq, ↓w_aload_1, ↓w_naload_1, ↓w_aload_0, ↓w_naload_0, ↓w_iload_3, ↓w_iconst, ↓w_iadd, ↓w_iaload, ↓w_saload, ↓w_iv, ↓pm_cl2_2, ↓w_aload_2, ↓w_naload_2, ↓w_iceq, ↓w_zret, sh0, sh68_0, nI_add, nI_p2, nI_p3, nI_p4, nI_p5]
  have w := hw I2 J2 hR2
  first | exact ⟨fun _ => w, fun z => absurd rfl z⟩ | exact w | grind
theorem lw_b11 (hd : 30 ≤ d) (hL : g.2.2.2.1 ≤ 3072) (hi : i + 5 < g.2.2.2.1) (hk1 : k.1 ≤ R.cells) (hk2 : k.2 ≤ R.slots) (hR : Rel I J) (hw : ∀ I2 J2, Rel I2 J2 → UL g d R Q 61 i I2 J2 k) : UL g d R Q 11 i I J k := by
  refine bL_law_11 ?_
  simp (disch := first | omega | decide) only [w_nl0, w_nli, w_nlr, ↓w_ts1, ↓w_ts0, w_rcv, w_rfv, w_cs, true_and, and_true, List.length_nil, List.length_cons, Nat.reduceAdd, Nat.reduceLeDiff, Nat.zero_le, Nat.reduceLT, ↓w_nil, ix_nI, nI_leP, nI_ltP, nI_eqP, nI_1, ↓i_inN, i_inN, l_le, l_lt, l_eq, r_le, r_lt, r_eq, ↓w_aload_1, ↓w_naload_1, ↓w_aload_0, ↓w_naload_0, ↓w_iload_3, ↓w_iconst, ↓w_iadd, ↓w_iaload, ↓w_saload, ↓w_iv, ↓pm_cl2_3, ↓w_aload_2, ↓w_naload_2, ↓w_iceq, ↓w_zret, sh0, sh68_0, nI_add, nI_p2, nI_p3, nI_p4, nI_p5]
  repeat' (first | apply And.intro | omega | assumption | exact vl)
  refine pm_C_mono (p_lacquer (by omega) I J hR) (fun v S1 I1 J1 h1 => ?_)
  obtain ⟨rfl, _, h2⟩ := h1
  simp (disch := first | omega | decide) only [w_nl0, w_nli, w_nlr, ↓w_ts1, ↓w_ts0, w_rcv, w_rfv, w_cs, true_and, and_true, List.length_nil, List.length_cons, Nat.reduceAdd, Nat.reduceLeDiff, Nat.zero_le, Nat.reduceLT, ↓w_nil, ix_nI, nI_leP, nI_ltP, nI_eqP, nI_1, ↓i_inN, i_inN, l_le, l_lt, l_eq, r_le, r_lt, r_eq, ↓w_aload_1, ↓w_naload_1, ↓w_aload_0, ↓w_naload_0, ↓w_iload_3, ↓w_iconst, ↓w_iadd, ↓w_iaload, ↓w_saload, ↓w_iv, ↓pm_cl2_3, ↓w_aload_2, ↓w_naload_2, ↓w_iceq, ↓w_zret, sh0, sh68_0, nI_add, nI_p2, nI_p3, nI_p4, nI_p5]
  repeat' (first | apply And.intro | omega | assumption | exact vl)
  refine pm_C_mono h2 (fun w S2 I2 J2 h3 => ?_)
  obtain ⟨e, rfl, _, hR2⟩ := h3
  obtain ⟨rfl, a, rfl⟩ := ty_int e rfl
  simp (disch := first | omega | decide) only [w_nl0, w_nli, w_nlr, ↓w_ts1, ↓w_ts0, w_rcv, w_rfv, w_cs, true_and, and_true, List.length_nil, List.length_cons, Nat.reduceAdd, Nat.reduceLeDiff, Nat.zero_le, Nat.reduceLT, ↓w_nil, ix_nI, nI_leP, nI_ltP, nI_eqP, nI_1, ↓i_inN, i_inN, l_le, l_lt, l_eq, r_le, r_lt, r_eq, ↓w_aload_1, ↓w_naload_1, ↓w_aload_0, ↓w_naload_0, ↓w_iload_3, ↓w_iconst, ↓w_iadd, ↓w_iaload, ↓w_saload, ↓w_iv, ↓pm_cl2_3, ↓w_aload_2, ↓w_naload_2, ↓w_iceq, ↓w_zret, sh0, sh68_0, nI_add, nI_p2, nI_p3, nI_p4, nI_p5]
  have w := hw I2 J2 hR2
  first | exact ⟨fun _ => w, fun z => absurd rfl z⟩ | exact w | grind
theorem lw_b12 (hd : 30 ≤ d) (hL : g.2.2.2.1 ≤ 3072) (hi : i + 5 < g.2.2.2.1) (hk1 : k.1 ≤ R.cells) (hk2 : k.2 ≤ R.slots) (hR : Rel I J) (hw : ∀ I2 J2, Rel I2 J2 → UL g d R Q 61 i I2 J2 k) : UL g d R Q 12 i I J k := by
  refine bL_law_12 ?_
  simp (disch := first | omega | decide) only [w_nl0, w_nli, w_nlr, ↓w_ts1, ↓w_ts0, w_rcv, w_rfv, w_cs, true_and, and_true, List.length_nil, List.length_cons, Nat.reduceAdd, Nat.reduceLeDiff, Nat.zero_le, Nat.reduceLT, ↓w_nil, ix_nI, nI_leP, nI_ltP, nI_eqP, nI_1, ↓i_inN, i_inN, l_le, l_lt, l_eq, r_le, r_lt, r_eq, ↓w_aload_1, ↓w_naload_1, ↓w_aload_0, ↓w_naload_0, ↓w_iload_3, ↓w_iconst, ↓w_iadd, ↓w_iaload, ↓w_saload, ↓w_iv, ↓pm_cl2_4, ↓w_aload_2, ↓w_naload_2, ↓w_iceq, ↓w_zret, sh0, sh68_0, nI_add, nI_p2, nI_p3, nI_p4, nI_p5]
  repeat' (first | apply And.intro | omega | assumption | exact vl)
  refine pm_C_mono (p_grow (by omega) I J hR) (fun v S1 I1 J1 h1 => ?_)
  obtain ⟨rfl, _, h2⟩ := h1
  simp (disch := first | omega | decide) only [w_nl0, w_nli, w_nlr, ↓w_ts1, ↓w_ts0, w_rcv, w_rfv, w_cs, true_and, and_true, List.length_nil, List.length_cons, Nat.reduceAdd, Nat.reduceLeDiff, Nat.zero_le, Nat.reduceLT, ↓w_nil, ix_nI, nI_leP, nI_ltP, nI_eqP, nI_1, ↓i_inN, i_inN, l_le, l_lt, l_eq, r_le, r_lt, r_eq, ↓w_aload_1, ↓w_naload_1, ↓w_aload_0, ↓w_naload_0, ↓w_iload_3, ↓w_iconst, ↓w_iadd, ↓w_iaload, ↓w_saload, ↓w_iv, ↓pm_cl2_4, ↓w_aload_2, ↓w_naload_2, ↓w_iceq, ↓w_zret, sh0, sh68_0, nI_add, nI_p2, nI_p3, nI_p4, nI_p5]
  repeat' (first | apply And.intro | omega | assumption | exact vl)
  refine pm_C_mono h2 (fun w S2 I2 J2 h3 => ?_)
  obtain ⟨e, rfl, _, hR2⟩ := h3
  obtain ⟨rfl, a, rfl⟩ := ty_int e rfl
  simp (disch := first | omega | decide) only [w_nl0, w_nli, w_nlr, ↓w_ts1, ↓w_ts0, w_rcv, w_rfv, w_cs, true_and, and_true, List.length_nil, List.length_cons, Nat.reduceAdd, Nat.reduceLeDiff, Nat.zero_le, Nat.reduceLT, ↓w_nil, ix_nI, nI_leP, nI_ltP, nI_eqP, nI_1, ↓i_inN, i_inN, l_le, l_lt, l_eq, r_le, r_lt, r_eq, ↓w_aload_1, ↓w_naload_1, ↓w_aload_0, ↓w_naload_0, ↓w_iload_3, ↓w_iconst, ↓w_iadd, ↓w_iaload, ↓w_saload, ↓w_iv, ↓pm_cl2_4, ↓w_aload_2, ↓w_naload_2, ↓w_iceq, ↓w_zret, sh0, sh68_0, nI_add, nI_p2, nI_p3, nI_p4, nI_p5]
  have w := hw I2 J2 hR2
  first | exact ⟨fun _ => w, fun z => absurd rfl z⟩ | exact w | grind
theorem lw_b13 (hd : 30 ≤ d) (hL : g.2.2.2.1 ≤ 3072) (hi : i + 5 < g.2.2.2.1) (hk1 : k.1 ≤ R.cells) (hk2 : k.2 ≤ R.slots) (hR : Rel I J) (hw : ∀ I2 J2, Rel I2 J2 → UL g d R Q 61 i I2 J2 k) : UL g d R Q 13 i I J k := by
  refine bL_law_13 ?_
  simp (disch := first | omega | decide) only [w_nl0, w_nli, w_nlr, ↓w_ts1, ↓w_ts0, w_rcv, w_rfv, w_cs, true_and, and_true, List.length_nil, List.length_cons, Nat.reduceAdd, Nat.reduceLeDiff, Nat.zero_le, Nat.reduceLT, ↓w_nil, ix_nI, nI_leP, nI_ltP, nI_eqP, nI_1, ↓i_inN, i_inN, l_le, l_lt, l_eq, r_le, r_lt, r_eq, ↓w_aload_1, ↓w_naload_1, ↓w_aload_0, ↓w_naload_0, ↓w_iload_3, ↓w_iconst, ↓w_iadd, ↓w_iaload, ↓w_saload, ↓w_iv, ↓pm_cl2_3, ↓w_aload_2, ↓w_naload_2, ↓w_iceq, ↓w_zret, sh0, sh68_0, nI_add, nI_p2, nI_p3, nI_p4, nI_p5]
  repeat' (first | apply And.intro | omega | assumption | exact vl)
  refine pm_C_mono (p_state (by omega) I J hR) (fun v S1 I1 J1 h1 => ?_)
  obtain ⟨rfl, _, h2⟩ := h1
  simp (disch := first | omega | decide) only [w_nl0, w_nli, w_nlr, ↓w_ts1, ↓w_ts0, w_rcv, w_rfv, w_cs, true_and, and_true, List.length_nil, List.length_cons, Nat.reduceAdd, Nat.reduceLeDiff, Nat.zero_le, Nat.reduceLT, ↓w_nil, ix_nI, nI_leP, nI_ltP, nI_eqP, nI_1, ↓i_inN, i_inN, l_le, l_lt, l_eq, r_le, r_lt, r_eq, ↓w_aload_1, ↓w_naload_1, ↓w_aload_0, ↓w_naload_0, ↓w_iload_3, ↓w_iconst, ↓w_iadd, ↓w_iaload, ↓w_saload, ↓w_iv, ↓pm_cl2_3, ↓w_aload_2, ↓w_naload_2, ↓w_iceq, ↓w_zret, sh0, sh68_0, nI_add, nI_p2, nI_p3, nI_p4, nI_p5]
  repeat' (first | apply And.intro | omega | assumption | exact vl)
  refine pm_C_mono h2 (fun w S2 I2 J2 h3 => ?_)
  obtain ⟨e, rfl, _, hR2⟩ := h3
  obtain ⟨rfl, a, rfl⟩ := ty_int e rfl
  simp (disch := first | omega | decide) only [w_nl0, w_nli, w_nlr, ↓w_ts1, ↓w_ts0, w_rcv, w_rfv, w_cs, true_and, and_true, List.length_nil, List.length_cons, Nat.reduceAdd, Nat.reduceLeDiff, Nat.zero_le, Nat.reduceLT, ↓w_nil, ix_nI, nI_leP, nI_ltP, nI_eqP, nI_1, ↓i_inN, i_inN, l_le, l_lt, l_eq, r_le, r_lt, r_eq, ↓w_aload_1, ↓w_naload_1, ↓w_aload_0, ↓w_naload_0, ↓w_iload_3, ↓w_iconst, ↓w_iadd, ↓w_iaload, ↓w_saload, ↓w_iv, ↓pm_cl2_3, ↓w_aload_2, ↓w_naload_2, ↓w_iceq, ↓w_zret, sh0, sh68_0, nI_add, nI_p2, nI_p3, nI_p4, nI_p5]
  have w := hw I2 J2 hR2
  first | exact ⟨fun _ => w, fun z => absurd rfl z⟩ | exact w | grind
theorem lw_b14 (hd : 30 ≤ d) (hL : g.2.2.2.1 ≤ 3072) (hi : i + 5 < g.2.2.2.1) (hk1 : k.1 ≤ R.cells) (hk2 : k.2 ≤ R.slots) (hR : Rel I J) (hw : ∀ I2 J2, Rel I2 J2 → UL g d R Q 61 i I2 J2 k) : UL g d R Q 14 i I J k := by
  refine bL_law_14 ?_
  simp (disch := first | omega | decide) only [w_nl0, w_nli, w_nlr, ↓w_ts1, ↓w_ts0, w_rcv, w_rfv, w_cs, true_and, and_true, List.length_nil, List.length_cons, Nat.reduceAdd, Nat.reduceLeDiff, Nat.zero_le, Nat.reduceLT, ↓w_nil, ix_nI, nI_leP, nI_ltP, nI_eqP, nI_1, ↓i_inN, i_inN, l_le, l_lt, l_eq, r_le, r_lt, r_eq, ↓w_aload_1, ↓w_naload_1, ↓w_aload_0, ↓w_naload_0, ↓w_iload_3, ↓w_iconst, ↓w_iadd, ↓w_iaload, ↓w_saload, ↓w_iv, ↓pm_cl2_3, ↓w_aload_2, ↓w_naload_2, ↓w_iceq, ↓w_zret, sh0, sh68_0, nI_add, nI_p2, nI_p3, nI_p4, nI_p5]
  repeat' (first | apply And.intro | omega | assumption | exact vl)
  refine pm_C_mono (p_told (by omega) I J hR) (fun v S1 I1 J1 h1 => ?_)
  obtain ⟨rfl, _, h2⟩ := h1
  simp (disch := first | omega | decide) only [w_nl0, w_nli, w_nlr, ↓w_ts1, ↓w_ts0, w_rcv, w_rfv, w_cs, true_and, and_true, List.length_nil, List.length_cons, Nat.reduceAdd, Nat.reduceLeDiff, Nat.zero_le, Nat.reduceLT, ↓w_nil, ix_nI, nI_leP, nI_ltP, nI_eqP, nI_1, ↓i_inN, i_inN, l_le, l_lt, l_eq, r_le, r_lt, r_eq, ↓w_aload_1, ↓w_naload_1, ↓w_aload_0, ↓w_naload_0, ↓w_iload_3, ↓w_iconst, ↓w_iadd, ↓w_iaload, ↓w_saload, ↓w_iv, ↓pm_cl2_3, ↓w_aload_2, ↓w_naload_2, ↓w_iceq, ↓w_zret, sh0, sh68_0, nI_add, nI_p2, nI_p3, nI_p4, nI_p5]
  repeat' (first | apply And.intro | omega | assumption | exact vl)
  refine pm_C_mono h2 (fun w S2 I2 J2 h3 => ?_)
  obtain ⟨e, rfl, _, hR2⟩ := h3
  obtain ⟨rfl, a, rfl⟩ := ty_int e rfl
  simp (disch := first | omega | decide) only [w_nl0, w_nli, w_nlr, ↓w_ts1, ↓w_ts0, w_rcv, w_rfv, w_cs, true_and, and_true, List.length_nil, List.length_cons, Nat.reduceAdd, Nat.reduceLeDiff, Nat.zero_le, Nat.reduceLT, ↓w_nil, ix_nI, nI_leP, nI_ltP, nI_eqP, nI_1, ↓i_inN, i_inN, l_le, l_lt, l_eq, r_le, r_lt, r_eq, ↓w_aload_1, ↓w_naload_1, ↓w_aload_0, ↓w_naload_0, ↓w_iload_3, ↓w_iconst, ↓w_iadd, ↓w_iaload, ↓w_saload, ↓w_iv, ↓pm_cl2_3, ↓w_aload_2, ↓w_naload_2, ↓w_iceq, ↓w_zret, sh0, sh68_0, nI_add, nI_p2, nI_p3, nI_p4, nI_p5]
  have w := hw I2 J2 hR2
  first | exact ⟨fun _ => w, fun z => absurd rfl z⟩ | exact w | grind
theorem lw_b15 (hd : 30 ≤ d) (hL : g.2.2.2.1 ≤ 3072) (hi : i + 5 < g.2.2.2.1) (hk1 : k.1 ≤ R.cells) (hk2 : k.2 ≤ R.slots) (hR : Rel I J) (hw : ∀ I2 J2, Rel I2 J2 → UL g d R Q 61 i I2 J2 k) : UL g d R Q 15 i I J k := by
  refine bL_law_15 ?_
  simp (disch := first | omega | decide) only [w_nl0, w_nli, w_nlr, ↓w_ts1, ↓w_ts0, w_rcv, w_rfv, w_cs, true_and, and_true, List.length_nil, List.length_cons, Nat.reduceAdd, Nat.reduceLeDiff, Nat.zero_le, Nat.reduceLT, ↓w_nil, ix_nI, nI_leP, nI_ltP, nI_eqP, nI_1, ↓i_inN, i_inN, l_le, l_lt, l_eq, r_le, r_lt, r_eq, ↓w_aload_1, ↓w_naload_1, ↓w_aload_0, ↓w_naload_0, ↓w_iload_3, ↓w_iconst, ↓w_iadd, ↓w_iaload, ↓w_saload, ↓w_iv, ↓pm_cl2_3, ↓w_aload_2, ↓w_naload_2, ↓w_iceq, ↓w_zret, sh0, sh68_0, nI_add, nI_p2, nI_p3, nI_p4, nI_p5]
  repeat' (first | apply And.intro | omega | assumption | exact vl)
  refine pm_C_mono (p_mark (by omega) I J hR) (fun v S1 I1 J1 h1 => ?_)
  obtain ⟨rfl, _, h2⟩ := h1
  simp (disch := first | omega | decide) only [w_nl0, w_nli, w_nlr, ↓w_ts1, ↓w_ts0, w_rcv, w_rfv, w_cs, true_and, and_true, List.length_nil, List.length_cons, Nat.reduceAdd, Nat.reduceLeDiff, Nat.zero_le, Nat.reduceLT, ↓w_nil, ix_nI, nI_leP, nI_ltP, nI_eqP, nI_1, ↓i_inN, i_inN, l_le, l_lt, l_eq, r_le, r_lt, r_eq, ↓w_aload_1, ↓w_naload_1, ↓w_aload_0, ↓w_naload_0, ↓w_iload_3, ↓w_iconst, ↓w_iadd, ↓w_iaload, ↓w_saload, ↓w_iv, ↓pm_cl2_3, ↓w_aload_2, ↓w_naload_2, ↓w_iceq, ↓w_zret, sh0, sh68_0, nI_add, nI_p2, nI_p3, nI_p4, nI_p5]
  repeat' (first | apply And.intro | omega | assumption | exact vl)
  refine pm_C_mono h2 (fun w S2 I2 J2 h3 => ?_)
  obtain ⟨e, rfl, _, hR2⟩ := h3
  obtain ⟨rfl, a, rfl⟩ := ty_int e rfl
  simp (disch := first | omega | decide) only [w_nl0, w_nli, w_nlr, ↓w_ts1, ↓w_ts0, w_rcv, w_rfv, w_cs, true_and, and_true, List.length_nil, List.length_cons, Nat.reduceAdd, Nat.reduceLeDiff, Nat.zero_le, Nat.reduceLT, ↓w_nil, ix_nI, nI_leP, nI_ltP, nI_eqP, nI_1, ↓i_inN, i_inN, l_le, l_lt, l_eq, r_le, r_lt, r_eq, ↓w_aload_1, ↓w_naload_1, ↓w_aload_0, ↓w_naload_0, ↓w_iload_3, ↓w_iconst, ↓w_iadd, ↓w_iaload, ↓w_saload, ↓w_iv, ↓pm_cl2_3, ↓w_aload_2, ↓w_naload_2, ↓w_iceq, ↓w_zret, sh0, sh68_0, nI_add, nI_p2, nI_p3, nI_p4, nI_p5]
  have w := hw I2 J2 hR2
  first | exact ⟨fun _ => w, fun z => absurd rfl z⟩ | exact w | grind
theorem lw_b16 (hd : 30 ≤ d) (hL : g.2.2.2.1 ≤ 3072) (hi : i + 5 < g.2.2.2.1) (hk1 : k.1 ≤ R.cells) (hk2 : k.2 ≤ R.slots) (hR : Rel I J) (hw : ∀ I2 J2, Rel I2 J2 → UL g d R Q 61 i I2 J2 k) : UL g d R Q 16 i I J k := by
  refine bL_law_16 ?_
  simp (disch := first | omega | decide) only [w_nl0, w_nli, w_nlr, ↓w_ts1, ↓w_ts0, w_rcv, w_rfv, w_cs, true_and, and_true, List.length_nil, List.length_cons, Nat.reduceAdd, Nat.reduceLeDiff, Nat.zero_le, Nat.reduceLT, ↓w_nil, ix_nI, nI_leP, nI_ltP, nI_eqP, nI_1, ↓i_inN, i_inN, l_le, l_lt, l_eq, r_le, r_lt, r_eq, ↓w_aload_1, ↓w_naload_1, ↓w_aload_0, ↓w_naload_0, ↓w_iload_3, ↓w_iconst, ↓w_iadd, ↓w_iaload, ↓w_saload, ↓w_iv, ↓pm_cl2_3, ↓w_aload_2, ↓w_naload_2, ↓w_iceq, ↓w_zret, sh0, sh68_0, nI_add, nI_p2, nI_p3, nI_p4, nI_p5]
  repeat' (first | apply And.intro | omega | assumption | exact vl)
  refine pm_C_mono (p_asOf (by omega) I J hR) (fun v S1 I1 J1 h1 => ?_)
  obtain ⟨rfl, _, h2⟩ := h1
  simp (disch := first | omega | decide) only [w_nl0, w_nli, w_nlr, ↓w_ts1, ↓w_ts0, w_rcv, w_rfv, w_cs, true_and, and_true, List.length_nil, List.length_cons, Nat.reduceAdd, Nat.reduceLeDiff, Nat.zero_le, Nat.reduceLT, ↓w_nil, ix_nI, nI_leP, nI_ltP, nI_eqP, nI_1, ↓i_inN, i_inN, l_le, l_lt, l_eq, r_le, r_lt, r_eq, ↓w_aload_1, ↓w_naload_1, ↓w_aload_0, ↓w_naload_0, ↓w_iload_3, ↓w_iconst, ↓w_iadd, ↓w_iaload, ↓w_saload, ↓w_iv, ↓pm_cl2_3, ↓w_aload_2, ↓w_naload_2, ↓w_iceq, ↓w_zret, sh0, sh68_0, nI_add, nI_p2, nI_p3, nI_p4, nI_p5]
  repeat' (first | apply And.intro | omega | assumption | exact vl)
  refine pm_C_mono h2 (fun w S2 I2 J2 h3 => ?_)
  obtain ⟨e, rfl, _, hR2⟩ := h3
  obtain ⟨rfl, a, rfl⟩ := ty_int e rfl
  simp (disch := first | omega | decide) only [w_nl0, w_nli, w_nlr, ↓w_ts1, ↓w_ts0, w_rcv, w_rfv, w_cs, true_and, and_true, List.length_nil, List.length_cons, Nat.reduceAdd, Nat.reduceLeDiff, Nat.zero_le, Nat.reduceLT, ↓w_nil, ix_nI, nI_leP, nI_ltP, nI_eqP, nI_1, ↓i_inN, i_inN, l_le, l_lt, l_eq, r_le, r_lt, r_eq, ↓w_aload_1, ↓w_naload_1, ↓w_aload_0, ↓w_naload_0, ↓w_iload_3, ↓w_iconst, ↓w_iadd, ↓w_iaload, ↓w_saload, ↓w_iv, ↓pm_cl2_3, ↓w_aload_2, ↓w_naload_2, ↓w_iceq, ↓w_zret, sh0, sh68_0, nI_add, nI_p2, nI_p3, nI_p4, nI_p5]
  have w := hw I2 J2 hR2
  first | exact ⟨fun _ => w, fun z => absurd rfl z⟩ | exact w | grind
theorem lw_b17 (hd : 30 ≤ d) (hL : g.2.2.2.1 ≤ 3072) (hi : i + 5 < g.2.2.2.1) (hk1 : k.1 ≤ R.cells) (hk2 : k.2 ≤ R.slots) (hR : Rel I J) (hw : ∀ I2 J2, Rel I2 J2 → UL g d R Q 61 i I2 J2 k) : UL g d R Q 17 i I J k := by
  refine bL_law_17 ?_
  simp (disch := first | omega | decide) only [w_nl0, w_nli, w_nlr, ↓w_ts1, ↓w_ts0, w_rcv, w_rfv, w_cs, true_and, and_true, List.length_nil, List.length_cons, Nat.reduceAdd, Nat.reduceLeDiff, Nat.zero_le, Nat.reduceLT, ↓w_nil, ix_nI, nI_leP, nI_ltP, nI_eqP, nI_1, ↓i_inN, i_inN, l_le, l_lt, l_eq, r_le, r_lt, r_eq, ↓w_aload_1, ↓w_naload_1, ↓w_aload_0, ↓w_naload_0, ↓w_iload_3, ↓w_iconst, ↓w_iadd, ↓w_iaload, ↓w_saload, ↓w_iv, ↓pm_cl2_2, ↓w_aload_2, ↓w_naload_2, ↓w_iceq, ↓w_zret, sh0, sh68_0, nI_add, nI_p2, nI_p3, nI_p4, nI_p5]
  repeat' (first | apply And.intro | omega | assumption | exact vl)
  refine pm_C_mono (p_lead (by omega) I J hR) (fun v S1 I1 J1 h1 => ?_)
  obtain ⟨rfl, _, h2⟩ := h1
  simp (disch := first | omega | decide) only [w_nl0, w_nli, w_nlr, ↓w_ts1, ↓w_ts0, w_rcv, w_rfv, w_cs, true_and, and_true, List.length_nil, List.length_cons, Nat.reduceAdd, Nat.reduceLeDiff, Nat.zero_le, Nat.reduceLT, ↓w_nil, ix_nI, nI_leP, nI_ltP, nI_eqP, nI_1, ↓i_inN, i_inN, l_le, l_lt, l_eq, r_le, r_lt, r_eq, ↓w_aload_1, ↓w_naload_1, ↓w_aload_0, ↓w_naload_0, ↓w_iload_3, ↓w_iconst, ↓w_iadd, ↓w_iaload, ↓w_saload, ↓w_iv, ↓pm_cl2_2, ↓w_aload_2, ↓w_naload_2, ↓w_iceq, ↓w_zret, sh0, sh68_0, nI_add, nI_p2, nI_p3, nI_p4, nI_p5]
  repeat' (first | apply And.intro | omega | assumption | exact vl)
  refine pm_C_mono h2 (fun w S2 I2 J2 h3 => ?_)
  obtain ⟨e, rfl, _, hR2⟩ := h3
  obtain ⟨rfl, a, rfl⟩ := ty_int e rfl
  simp (disch := first | omega | decide) only [w_nl0, w_nli, w_nlr, ↓w_ts1, ↓w_ts0, w_rcv, w_rfv, w_cs, true_and, and_true, List.length_nil, List.length_cons, Nat.reduceAdd, Nat.reduceLeDiff, Nat.zero_le, Nat.reduceLT, ↓w_nil, ix_nI, nI_leP, nI_ltP, nI_eqP, nI_1, ↓i_inN, i_inN, l_le, l_lt, l_eq, r_le, r_lt, r_eq, ↓w_aload_1, ↓w_naload_1, ↓w_aload_0, ↓w_naload_0, ↓w_iload_3, ↓w_iconst, ↓w_iadd, ↓w_iaload, ↓w_saload, ↓w_iv, ↓pm_cl2_2, ↓w_aload_2, ↓w_naload_2, ↓w_iceq, ↓w_zret, sh0, sh68_0, nI_add, nI_p2, nI_p3, nI_p4, nI_p5]
  have w := hw I2 J2 hR2
  first | exact ⟨fun _ => w, fun z => absurd rfl z⟩ | exact w | grind
theorem lw_b18 (hd : 30 ≤ d) (hL : g.2.2.2.1 ≤ 3072) (hi : i + 5 < g.2.2.2.1) (hk1 : k.1 ≤ R.cells) (hk2 : k.2 ≤ R.slots) (hR : Rel I J) (hw : ∀ I2 J2, Rel I2 J2 → UL g d R Q 61 i I2 J2 k) : UL g d R Q 18 i I J k := by
  refine bL_law_18 ?_
  simp (disch := first | omega | decide) only [w_nl0, w_nli, w_nlr, ↓w_ts1, ↓w_ts0, w_rcv, w_rfv, w_cs, true_and, and_true, List.length_nil, List.length_cons, Nat.reduceAdd, Nat.reduceLeDiff, Nat.zero_le, Nat.reduceLT, ↓w_nil, ix_nI, nI_leP, nI_ltP, nI_eqP, nI_1, ↓i_inN, i_inN, l_le, l_lt, l_eq, r_le, r_lt, r_eq, ↓w_aload_1, ↓w_naload_1, ↓w_aload_0, ↓w_naload_0, ↓w_iload_3, ↓w_iconst, ↓w_iadd, ↓w_iaload, ↓w_saload, ↓w_iv, ↓pm_cl2_4, ↓w_aload_2, ↓w_naload_2, ↓w_iceq, ↓w_zret, sh0, sh68_0, nI_add, nI_p2, nI_p3, nI_p4, nI_p5]
  repeat' (first | apply And.intro | omega | assumption | exact vl)
  refine pm_C_mono (p_marry (by omega) I J hR) (fun v S1 I1 J1 h1 => ?_)
  obtain ⟨rfl, _, h2⟩ := h1
  simp (disch := first | omega | decide) only [w_nl0, w_nli, w_nlr, ↓w_ts1, ↓w_ts0, w_rcv, w_rfv, w_cs, true_and, and_true, List.length_nil, List.length_cons, Nat.reduceAdd, Nat.reduceLeDiff, Nat.zero_le, Nat.reduceLT, ↓w_nil, ix_nI, nI_leP, nI_ltP, nI_eqP, nI_1, ↓i_inN, i_inN, l_le, l_lt, l_eq, r_le, r_lt, r_eq, ↓w_aload_1, ↓w_naload_1, ↓w_aload_0, ↓w_naload_0, ↓w_iload_3, ↓w_iconst, ↓w_iadd, ↓w_iaload, ↓w_saload, ↓w_iv, ↓pm_cl2_4, ↓w_aload_2, ↓w_naload_2, ↓w_iceq, ↓w_zret, sh0, sh68_0, nI_add, nI_p2, nI_p3, nI_p4, nI_p5]
  repeat' (first | apply And.intro | omega | assumption | exact vl)
  refine pm_C_mono h2 (fun w S2 I2 J2 h3 => ?_)
  obtain ⟨e, rfl, _, hR2⟩ := h3
  obtain ⟨rfl, a, rfl⟩ := ty_int e rfl
  simp (disch := first | omega | decide) only [w_nl0, w_nli, w_nlr, ↓w_ts1, ↓w_ts0, w_rcv, w_rfv, w_cs, true_and, and_true, List.length_nil, List.length_cons, Nat.reduceAdd, Nat.reduceLeDiff, Nat.zero_le, Nat.reduceLT, ↓w_nil, ix_nI, nI_leP, nI_ltP, nI_eqP, nI_1, ↓i_inN, i_inN, l_le, l_lt, l_eq, r_le, r_lt, r_eq, ↓w_aload_1, ↓w_naload_1, ↓w_aload_0, ↓w_naload_0, ↓w_iload_3, ↓w_iconst, ↓w_iadd, ↓w_iaload, ↓w_saload, ↓w_iv, ↓pm_cl2_4, ↓w_aload_2, ↓w_naload_2, ↓w_iceq, ↓w_zret, sh0, sh68_0, nI_add, nI_p2, nI_p3, nI_p4, nI_p5]
  have w := hw I2 J2 hR2
  first | exact ⟨fun _ => w, fun z => absurd rfl z⟩ | exact w | grind
theorem lw_b19 (hd : 30 ≤ d) (hL : g.2.2.2.1 ≤ 3072) (hi : i + 5 < g.2.2.2.1) (hk1 : k.1 ≤ R.cells) (hk2 : k.2 ≤ R.slots) (hR : Rel I J) (hw : ∀ I2 J2, Rel I2 J2 → UL g d R Q 61 i I2 J2 k) : UL g d R Q 19 i I J k := by
  refine bL_law_19 ?_
  simp (disch := first | omega | decide) only [w_nl0, w_nli, w_nlr, ↓w_ts1, ↓w_ts0, w_rcv, w_rfv, w_cs, true_and, and_true, List.length_nil, List.length_cons, Nat.reduceAdd, Nat.reduceLeDiff, Nat.zero_le, Nat.reduceLT, ↓w_nil, ix_nI, nI_leP, nI_ltP, nI_eqP, nI_1, ↓i_inN, i_inN, l_le, l_lt, l_eq, r_le, r_lt, r_eq, ↓w_aload_1, ↓w_naload_1, ↓w_aload_0, ↓w_naload_0, ↓w_iload_3, ↓w_iconst, ↓w_iadd, ↓w_iaload, ↓w_saload, ↓w_iv, ↓pm_cl2_2, ↓w_aload_2, ↓w_naload_2, ↓w_iceq, ↓w_zret, sh0, sh68_0, nI_add, nI_p2, nI_p3, nI_p4, nI_p5]
  repeat' (first | apply And.intro | omega | assumption | exact vl)
  refine pm_C_mono (p_part (by omega) I J hR) (fun v S1 I1 J1 h1 => ?_)
  obtain ⟨rfl, _, h2⟩ := h1
  simp (disch := first | omega | decide) only [w_nl0, w_nli, w_nlr, ↓w_ts1, ↓w_ts0, w_rcv, w_rfv, w_cs, true_and, and_true, List.length_nil, List.length_cons, Nat.reduceAdd, Nat.reduceLeDiff, Nat.zero_le, Nat.reduceLT, ↓w_nil, ix_nI, nI_leP, nI_ltP, nI_eqP, nI_1, ↓i_inN, i_inN, l_le, l_lt, l_eq, r_le, r_lt, r_eq, ↓w_aload_1, ↓w_naload_1, ↓w_aload_0, ↓w_naload_0, ↓w_iload_3, ↓w_iconst, ↓w_iadd, ↓w_iaload, ↓w_saload, ↓w_iv, ↓pm_cl2_2, ↓w_aload_2, ↓w_naload_2, ↓w_iceq, ↓w_zret, sh0, sh68_0, nI_add, nI_p2, nI_p3, nI_p4, nI_p5]
  repeat' (first | apply And.intro | omega | assumption | exact vl)
  refine pm_C_mono h2 (fun w S2 I2 J2 h3 => ?_)
  obtain ⟨e, rfl, _, hR2⟩ := h3
  obtain ⟨rfl, a, rfl⟩ := ty_int e rfl
  simp (disch := first | omega | decide) only [w_nl0, w_nli, w_nlr, ↓w_ts1, ↓w_ts0, w_rcv, w_rfv, w_cs, true_and, and_true, List.length_nil, List.length_cons, Nat.reduceAdd, Nat.reduceLeDiff, Nat.zero_le, Nat.reduceLT, ↓w_nil, ix_nI, nI_leP, nI_ltP, nI_eqP, nI_1, ↓i_inN, i_inN, l_le, l_lt, l_eq, r_le, r_lt, r_eq, ↓w_aload_1, ↓w_naload_1, ↓w_aload_0, ↓w_naload_0, ↓w_iload_3, ↓w_iconst, ↓w_iadd, ↓w_iaload, ↓w_saload, ↓w_iv, ↓pm_cl2_2, ↓w_aload_2, ↓w_naload_2, ↓w_iceq, ↓w_zret, sh0, sh68_0, nI_add, nI_p2, nI_p3, nI_p4, nI_p5]
  have w := hw I2 J2 hR2
  first | exact ⟨fun _ => w, fun z => absurd rfl z⟩ | exact w | grind
theorem lw_b20 (hd : 30 ≤ d) (hL : g.2.2.2.1 ≤ 3072) (hi : i + 5 < g.2.2.2.1) (hk1 : k.1 ≤ R.cells) (hk2 : k.2 ≤ R.slots) (hR : Rel I J) (hw : ∀ I2 J2, Rel I2 J2 → UL g d R Q 61 i I2 J2 k) : UL g d R Q 20 i I J k := by
  refine bL_law_20 ?_
  simp (disch := first | omega | decide) only [w_nl0, w_nli, w_nlr, ↓w_ts1, ↓w_ts0, w_rcv, w_rfv, w_cs, true_and, and_true, List.length_nil, List.length_cons, Nat.reduceAdd, Nat.reduceLeDiff, Nat.zero_le, Nat.reduceLT, ↓w_nil, ix_nI, nI_leP, nI_ltP, nI_eqP, nI_1, ↓i_inN, i_inN, l_le, l_lt, l_eq, r_le, r_lt, r_eq, ↓w_aload_1, ↓w_naload_1, ↓w_aload_0, ↓w_naload_0, ↓w_iload_3, ↓w_iconst, ↓w_iadd, ↓w_iaload, ↓w_saload, ↓w_iv, ↓pm_cl2_3, ↓w_aload_2, ↓w_naload_2, ↓w_iceq, ↓w_zret, sh0, sh68_0, nI_add, nI_p2, nI_p3, nI_p4, nI_p5]
  repeat' (first | apply And.intro | omega | assumption | exact vl)
  refine pm_C_mono (p_held (by omega) I J hR) (fun v S1 I1 J1 h1 => ?_)
  obtain ⟨rfl, _, h2⟩ := h1
  simp (disch := first | omega | decide) only [w_nl0, w_nli, w_nlr, ↓w_ts1, ↓w_ts0, w_rcv, w_rfv, w_cs, true_and, and_true, List.length_nil, List.length_cons, Nat.reduceAdd, Nat.reduceLeDiff, Nat.zero_le, Nat.reduceLT, ↓w_nil, ix_nI, nI_leP, nI_ltP, nI_eqP, nI_1, ↓i_inN, i_inN, l_le, l_lt, l_eq, r_le, r_lt, r_eq, ↓w_aload_1, ↓w_naload_1, ↓w_aload_0, ↓w_naload_0, ↓w_iload_3, ↓w_iconst, ↓w_iadd, ↓w_iaload, ↓w_saload, ↓w_iv, ↓pm_cl2_3, ↓w_aload_2, ↓w_naload_2, ↓w_iceq, ↓w_zret, sh0, sh68_0, nI_add, nI_p2, nI_p3, nI_p4, nI_p5]
  repeat' (first | apply And.intro | omega | assumption | exact vl)
  refine pm_C_mono h2 (fun w S2 I2 J2 h3 => ?_)
  obtain ⟨e, rfl, _, hR2⟩ := h3
  obtain ⟨rfl, a, rfl⟩ := ty_int e rfl
  simp (disch := first | omega | decide) only [w_nl0, w_nli, w_nlr, ↓w_ts1, ↓w_ts0, w_rcv, w_rfv, w_cs, true_and, and_true, List.length_nil, List.length_cons, Nat.reduceAdd, Nat.reduceLeDiff, Nat.zero_le, Nat.reduceLT, ↓w_nil, ix_nI, nI_leP, nI_ltP, nI_eqP, nI_1, ↓i_inN, i_inN, l_le, l_lt, l_eq, r_le, r_lt, r_eq, ↓w_aload_1, ↓w_naload_1, ↓w_aload_0, ↓w_naload_0, ↓w_iload_3, ↓w_iconst, ↓w_iadd, ↓w_iaload, ↓w_saload, ↓w_iv, ↓pm_cl2_3, ↓w_aload_2, ↓w_naload_2, ↓w_iceq, ↓w_zret, sh0, sh68_0, nI_add, nI_p2, nI_p3, nI_p4, nI_p5]
  have w := hw I2 J2 hR2
  first | exact ⟨fun _ => w, fun z => absurd rfl z⟩ | exact w | grind
theorem lw_b21 (hd : 30 ≤ d) (hL : g.2.2.2.1 ≤ 3072) (hi : i + 5 < g.2.2.2.1) (hk1 : k.1 ≤ R.cells) (hk2 : k.2 ≤ R.slots) (hR : Rel I J) (hw : ∀ I2 J2, Rel I2 J2 → UL g d R Q 61 i I2 J2 k) : UL g d R Q 21 i I J k := by
  refine bL_law_21 ?_
  simp (disch := first | omega | decide) only [w_nl0, w_nli, w_nlr, ↓w_ts1, ↓w_ts0, w_rcv, w_rfv, w_cs, true_and, and_true, List.length_nil, List.length_cons, Nat.reduceAdd, Nat.reduceLeDiff, Nat.zero_le, Nat.reduceLT, ↓w_nil, ix_nI, nI_leP, nI_ltP, nI_eqP, nI_1, ↓i_inN, i_inN, l_le, l_lt, l_eq, r_le, r_lt, r_eq, ↓w_aload_1, ↓w_naload_1, ↓w_aload_0, ↓w_naload_0, ↓w_iload_3, ↓w_iconst, ↓w_iadd, ↓w_iaload, ↓w_saload, ↓w_iv, ↓pm_cl2_4, ↓w_aload_2, ↓w_naload_2, ↓w_iceq, ↓w_zret, sh0, sh68_0, nI_add, nI_p2, nI_p3, nI_p4, nI_p5]
  repeat' (first | apply And.intro | omega | assumption | exact vl)
  refine pm_C_mono (p_off (by omega) I J hR) (fun v S1 I1 J1 h1 => ?_)
  obtain ⟨rfl, _, h2⟩ := h1
  simp (disch := first | omega | decide) only [w_nl0, w_nli, w_nlr, ↓w_ts1, ↓w_ts0, w_rcv, w_rfv, w_cs, true_and, and_true, List.length_nil, List.length_cons, Nat.reduceAdd, Nat.reduceLeDiff, Nat.zero_le, Nat.reduceLT, ↓w_nil, ix_nI, nI_leP, nI_ltP, nI_eqP, nI_1, ↓i_inN, i_inN, l_le, l_lt, l_eq, r_le, r_lt, r_eq, ↓w_aload_1, ↓w_naload_1, ↓w_aload_0, ↓w_naload_0, ↓w_iload_3, ↓w_iconst, ↓w_iadd, ↓w_iaload, ↓w_saload, ↓w_iv, ↓pm_cl2_4, ↓w_aload_2, ↓w_naload_2, ↓w_iceq, ↓w_zret, sh0, sh68_0, nI_add, nI_p2, nI_p3, nI_p4, nI_p5]
  repeat' (first | apply And.intro | omega | assumption | exact vl)
  refine pm_C_mono h2 (fun w S2 I2 J2 h3 => ?_)
  obtain ⟨e, rfl, _, hR2⟩ := h3
  obtain ⟨rfl, a, rfl⟩ := ty_int e rfl
  simp (disch := first | omega | decide) only [w_nl0, w_nli, w_nlr, ↓w_ts1, ↓w_ts0, w_rcv, w_rfv, w_cs, true_and, and_true, List.length_nil, List.length_cons, Nat.reduceAdd, Nat.reduceLeDiff, Nat.zero_le, Nat.reduceLT, ↓w_nil, ix_nI, nI_leP, nI_ltP, nI_eqP, nI_1, ↓i_inN, i_inN, l_le, l_lt, l_eq, r_le, r_lt, r_eq, ↓w_aload_1, ↓w_naload_1, ↓w_aload_0, ↓w_naload_0, ↓w_iload_3, ↓w_iconst, ↓w_iadd, ↓w_iaload, ↓w_saload, ↓w_iv, ↓pm_cl2_4, ↓w_aload_2, ↓w_naload_2, ↓w_iceq, ↓w_zret, sh0, sh68_0, nI_add, nI_p2, nI_p3, nI_p4, nI_p5]
  have w := hw I2 J2 hR2
  first | exact ⟨fun _ => w, fun z => absurd rfl z⟩ | exact w | grind
theorem lw_b27 (hd : 30 ≤ d) (hL : g.2.2.2.1 ≤ 3072) (hi : i + 5 < g.2.2.2.1) (hk1 : k.1 ≤ R.cells) (hk2 : k.2 ≤ R.slots) (hR : Rel I J) (hw : ∀ I2 J2, Rel I2 J2 → UL g d R Q 61 i I2 J2 k) : UL g d R Q 27 i I J k := by
  refine bL_law_27 ?_
  simp (disch := first | omega | decide) only [w_nl0, w_nli, w_nlr, ↓w_ts1, ↓w_ts0, w_rcv, w_rfv, w_cs, true_and, and_true, List.length_nil, List.length_cons, Nat.reduceAdd, Nat.reduceLeDiff, Nat.zero_le, Nat.reduceLT, ↓w_nil, ix_nI, nI_leP, nI_ltP, nI_eqP, nI_1, ↓i_inN, i_inN, l_le, l_lt, l_eq, r_le, r_lt, r_eq, ↓w_aload_1, ↓w_naload_1, ↓w_aload_0, ↓w_naload_0, ↓w_iload_3, ↓w_iconst, ↓w_iadd, ↓w_iaload, ↓w_saload, ↓w_iv, ↓pm_cl2_3, ↓w_aload_2, ↓w_naload_2, ↓w_iceq, ↓w_zret, sh0, sh68_0, nI_add, nI_p2, nI_p3, nI_p4, nI_p5]
  repeat' (first | apply And.intro | omega | assumption | exact vl)
  refine pm_C_mono (p_runTold (by omega) I J hR) (fun v S1 I1 J1 h1 => ?_)
  obtain ⟨rfl, _, h2⟩ := h1
  simp (disch := first | omega | decide) only [w_nl0, w_nli, w_nlr, ↓w_ts1, ↓w_ts0, w_rcv, w_rfv, w_cs, true_and, and_true, List.length_nil, List.length_cons, Nat.reduceAdd, Nat.reduceLeDiff, Nat.zero_le, Nat.reduceLT, ↓w_nil, ix_nI, nI_leP, nI_ltP, nI_eqP, nI_1, ↓i_inN, i_inN, l_le, l_lt, l_eq, r_le, r_lt, r_eq, ↓w_aload_1, ↓w_naload_1, ↓w_aload_0, ↓w_naload_0, ↓w_iload_3, ↓w_iconst, ↓w_iadd, ↓w_iaload, ↓w_saload, ↓w_iv, ↓pm_cl2_3, ↓w_aload_2, ↓w_naload_2, ↓w_iceq, ↓w_zret, sh0, sh68_0, nI_add, nI_p2, nI_p3, nI_p4, nI_p5]
  repeat' (first | apply And.intro | omega | assumption | exact vl)
  refine pm_C_mono h2 (fun w S2 I2 J2 h3 => ?_)
  obtain ⟨e, rfl, _, hR2⟩ := h3
  obtain ⟨rfl, a, rfl⟩ := ty_int e rfl
  simp (disch := first | omega | decide) only [w_nl0, w_nli, w_nlr, ↓w_ts1, ↓w_ts0, w_rcv, w_rfv, w_cs, true_and, and_true, List.length_nil, List.length_cons, Nat.reduceAdd, Nat.reduceLeDiff, Nat.zero_le, Nat.reduceLT, ↓w_nil, ix_nI, nI_leP, nI_ltP, nI_eqP, nI_1, ↓i_inN, i_inN, l_le, l_lt, l_eq, r_le, r_lt, r_eq, ↓w_aload_1, ↓w_naload_1, ↓w_aload_0, ↓w_naload_0, ↓w_iload_3, ↓w_iconst, ↓w_iadd, ↓w_iaload, ↓w_saload, ↓w_iv, ↓pm_cl2_3, ↓w_aload_2, ↓w_naload_2, ↓w_iceq, ↓w_zret, sh0, sh68_0, nI_add, nI_p2, nI_p3, nI_p4, nI_p5]
  have w := hw I2 J2 hR2
  first | exact ⟨fun _ => w, fun z => absurd rfl z⟩ | exact w | grind
theorem lw_b28 (hd : 30 ≤ d) (hL : g.2.2.2.1 ≤ 3072) (hi : i + 5 < g.2.2.2.1) (hk1 : k.1 ≤ R.cells) (hk2 : k.2 ≤ R.slots) (hR : Rel I J) (hw : ∀ I2 J2, Rel I2 J2 → UL g d R Q 61 i I2 J2 k) : UL g d R Q 28 i I J k := by
  refine bL_law_28 ?_
  simp (disch := first | omega | decide) only [w_nl0, w_nli, w_nlr, ↓w_ts1, ↓w_ts0, w_rcv, w_rfv, w_cs, true_and, and_true, List.length_nil, List.length_cons, Nat.reduceAdd, Nat.reduceLeDiff, Nat.zero_le, Nat.reduceLT, ↓w_nil, ix_nI, nI_leP, nI_ltP, nI_eqP, nI_1, ↓i_inN, i_inN, l_le, l_lt, l_eq, r_le, r_lt, r_eq, ↓w_aload_1, ↓w_naload_1, ↓w_aload_0, ↓w_naload_0, ↓w_iload_3, ↓w_iconst, ↓w_iadd, ↓w_iaload, ↓w_saload, ↓w_iv, ↓pm_cl2_2, ↓w_aload_2, ↓w_naload_2, ↓w_iceq, ↓w_zret, sh0, sh68_0, nI_add, nI_p2, nI_p3, nI_p4, nI_p5]
  repeat' (first | apply And.intro | omega | assumption | exact vl)
  refine pm_C_mono (p_mean (by omega) I J hR) (fun v S1 I1 J1 h1 => ?_)
  obtain ⟨rfl, _, h2⟩ := h1
  simp (disch := first | omega | decide) only [w_nl0, w_nli, w_nlr, ↓w_ts1, ↓w_ts0, w_rcv, w_rfv, w_cs, true_and, and_true, List.length_nil, List.length_cons, Nat.reduceAdd, Nat.reduceLeDiff, Nat.zero_le, Nat.reduceLT, ↓w_nil, ix_nI, nI_leP, nI_ltP, nI_eqP, nI_1, ↓i_inN, i_inN, l_le, l_lt, l_eq, r_le, r_lt, r_eq, ↓w_aload_1, ↓w_naload_1, ↓w_aload_0, ↓w_naload_0, ↓w_iload_3, ↓w_iconst, ↓w_iadd, ↓w_iaload, ↓w_saload, ↓w_iv, ↓pm_cl2_2, ↓w_aload_2, ↓w_naload_2, ↓w_iceq, ↓w_zret, sh0, sh68_0, nI_add, nI_p2, nI_p3, nI_p4, nI_p5]
  repeat' (first | apply And.intro | omega | assumption | exact vl)
  refine pm_C_mono h2 (fun w S2 I2 J2 h3 => ?_)
  obtain ⟨e, rfl, _, hR2⟩ := h3
  obtain ⟨rfl, a, rfl⟩ := ty_int e rfl
  simp (disch := first | omega | decide) only [w_nl0, w_nli, w_nlr, ↓w_ts1, ↓w_ts0, w_rcv, w_rfv, w_cs, true_and, and_true, List.length_nil, List.length_cons, Nat.reduceAdd, Nat.reduceLeDiff, Nat.zero_le, Nat.reduceLT, ↓w_nil, ix_nI, nI_leP, nI_ltP, nI_eqP, nI_1, ↓i_inN, i_inN, l_le, l_lt, l_eq, r_le, r_lt, r_eq, ↓w_aload_1, ↓w_naload_1, ↓w_aload_0, ↓w_naload_0, ↓w_iload_3, ↓w_iconst, ↓w_iadd, ↓w_iaload, ↓w_saload, ↓w_iv, ↓pm_cl2_2, ↓w_aload_2, ↓w_naload_2, ↓w_iceq, ↓w_zret, sh0, sh68_0, nI_add, nI_p2, nI_p3, nI_p4, nI_p5]
  have w := hw I2 J2 hR2
  first | exact ⟨fun _ => w, fun z => absurd rfl z⟩ | exact w | grind
theorem lw_b29 (hd : 30 ≤ d) (hL : g.2.2.2.1 ≤ 3072) (hi : i + 5 < g.2.2.2.1) (hk1 : k.1 ≤ R.cells) (hk2 : k.2 ≤ R.slots) (hR : Rel I J) (hw : ∀ I2 J2, Rel I2 J2 → UL g d R Q 61 i I2 J2 k) : UL g d R Q 29 i I J k := by
  refine bL_law_29 ?_
  simp (disch := first | omega | decide) only [w_nl0, w_nli, w_nlr, ↓w_ts1, ↓w_ts0, w_rcv, w_rfv, w_cs, true_and, and_true, List.length_nil, List.length_cons, Nat.reduceAdd, Nat.reduceLeDiff, Nat.zero_le, Nat.reduceLT, ↓w_nil, ix_nI, nI_leP, nI_ltP, nI_eqP, nI_1, ↓i_inN, i_inN, l_le, l_lt, l_eq, r_le, r_lt, r_eq, ↓w_aload_1, ↓w_naload_1, ↓w_aload_0, ↓w_naload_0, ↓w_iload_3, ↓w_iconst, ↓w_iadd, ↓w_iaload, ↓w_saload, ↓w_iv, ↓pm_cl2_3, ↓w_aload_2, ↓w_naload_2, ↓w_iceq, ↓w_zret, sh0, sh68_0, nI_add, nI_p2, nI_p3, nI_p4, nI_p5]
  repeat' (first | apply And.intro | omega | assumption | exact vl)
  refine pm_C_mono (p_rule (by omega) I J hR) (fun v S1 I1 J1 h1 => ?_)
  obtain ⟨rfl, _, h2⟩ := h1
  simp (disch := first | omega | decide) only [w_nl0, w_nli, w_nlr, ↓w_ts1, ↓w_ts0, w_rcv, w_rfv, w_cs, true_and, and_true, List.length_nil, List.length_cons, Nat.reduceAdd, Nat.reduceLeDiff, Nat.zero_le, Nat.reduceLT, ↓w_nil, ix_nI, nI_leP, nI_ltP, nI_eqP, nI_1, ↓i_inN, i_inN, l_le, l_lt, l_eq, r_le, r_lt, r_eq, ↓w_aload_1, ↓w_naload_1, ↓w_aload_0, ↓w_naload_0, ↓w_iload_3, ↓w_iconst, ↓w_iadd, ↓w_iaload, ↓w_saload, ↓w_iv, ↓pm_cl2_3, ↓w_aload_2, ↓w_naload_2, ↓w_iceq, ↓w_zret, sh0, sh68_0, nI_add, nI_p2, nI_p3, nI_p4, nI_p5]
  repeat' (first | apply And.intro | omega | assumption | exact vl)
  refine pm_C_mono h2 (fun w S2 I2 J2 h3 => ?_)
  obtain ⟨e, rfl, _, hR2⟩ := h3
  obtain ⟨rfl, a, rfl⟩ := ty_int e rfl
  simp (disch := first | omega | decide) only [w_nl0, w_nli, w_nlr, ↓w_ts1, ↓w_ts0, w_rcv, w_rfv, w_cs, true_and, and_true, List.length_nil, List.length_cons, Nat.reduceAdd, Nat.reduceLeDiff, Nat.zero_le, Nat.reduceLT, ↓w_nil, ix_nI, nI_leP, nI_ltP, nI_eqP, nI_1, ↓i_inN, i_inN, l_le, l_lt, l_eq, r_le, r_lt, r_eq, ↓w_aload_1, ↓w_naload_1, ↓w_aload_0, ↓w_naload_0, ↓w_iload_3, ↓w_iconst, ↓w_iadd, ↓w_iaload, ↓w_saload, ↓w_iv, ↓pm_cl2_3, ↓w_aload_2, ↓w_naload_2, ↓w_iceq, ↓w_zret, sh0, sh68_0, nI_add, nI_p2, nI_p3, nI_p4, nI_p5]
  have w := hw I2 J2 hR2
  first | exact ⟨fun _ => w, fun z => absurd rfl z⟩ | exact w | grind
theorem lw_b30 (hd : 30 ≤ d) (hL : g.2.2.2.1 ≤ 3072) (hi : i + 5 < g.2.2.2.1) (hk1 : k.1 ≤ R.cells) (hk2 : k.2 ≤ R.slots) (hR : Rel I J) (hw : ∀ I2 J2, Rel I2 J2 → UL g d R Q 61 i I2 J2 k) : UL g d R Q 30 i I J k := by
  refine bL_law_30 ?_
  simp (disch := first | omega | decide) only [w_nl0, w_nli, w_nlr, ↓w_ts1, ↓w_ts0, w_rcv, w_rfv, w_cs, true_and, and_true, List.length_nil, List.length_cons, Nat.reduceAdd, Nat.reduceLeDiff, Nat.zero_le, Nat.reduceLT, ↓w_nil, ix_nI, nI_leP, nI_ltP, nI_eqP, nI_1, ↓i_inN, i_inN, l_le, l_lt, l_eq, r_le, r_lt, r_eq, ↓w_aload_1, ↓w_naload_1, ↓w_aload_0, ↓w_naload_0, ↓w_iload_3, ↓w_iconst, ↓w_iadd, ↓w_iaload, ↓w_saload, ↓w_iv, ↓pm_cl2_6, ↓w_aload_2, ↓w_naload_2, ↓w_iceq, ↓w_zret, sh0, sh68_0, nI_add, nI_p2, nI_p3, nI_p4, nI_p5]
  repeat' (first | apply And.intro | omega | assumption | exact vl)
  refine pm_C_mono (p_force (by omega) I J hR) (fun v S1 I1 J1 h1 => ?_)
  obtain ⟨rfl, _, h2⟩ := h1
  simp (disch := first | omega | decide) only [w_nl0, w_nli, w_nlr, ↓w_ts1, ↓w_ts0, w_rcv, w_rfv, w_cs, true_and, and_true, List.length_nil, List.length_cons, Nat.reduceAdd, Nat.reduceLeDiff, Nat.zero_le, Nat.reduceLT, ↓w_nil, ix_nI, nI_leP, nI_ltP, nI_eqP, nI_1, ↓i_inN, i_inN, l_le, l_lt, l_eq, r_le, r_lt, r_eq, ↓w_aload_1, ↓w_naload_1, ↓w_aload_0, ↓w_naload_0, ↓w_iload_3, ↓w_iconst, ↓w_iadd, ↓w_iaload, ↓w_saload, ↓w_iv, ↓pm_cl2_6, ↓w_aload_2, ↓w_naload_2, ↓w_iceq, ↓w_zret, sh0, sh68_0, nI_add, nI_p2, nI_p3, nI_p4, nI_p5]
  repeat' (first | apply And.intro | omega | assumption | exact vl)
  refine pm_C_mono h2 (fun w S2 I2 J2 h3 => ?_)
  obtain ⟨e, rfl, _, hR2⟩ := h3
  obtain ⟨rfl, a, rfl⟩ := ty_int e rfl
  simp (disch := first | omega | decide) only [w_nl0, w_nli, w_nlr, ↓w_ts1, ↓w_ts0, w_rcv, w_rfv, w_cs, true_and, and_true, List.length_nil, List.length_cons, Nat.reduceAdd, Nat.reduceLeDiff, Nat.zero_le, Nat.reduceLT, ↓w_nil, ix_nI, nI_leP, nI_ltP, nI_eqP, nI_1, ↓i_inN, i_inN, l_le, l_lt, l_eq, r_le, r_lt, r_eq, ↓w_aload_1, ↓w_naload_1, ↓w_aload_0, ↓w_naload_0, ↓w_iload_3, ↓w_iconst, ↓w_iadd, ↓w_iaload, ↓w_saload, ↓w_iv, ↓pm_cl2_6, ↓w_aload_2, ↓w_naload_2, ↓w_iceq, ↓w_zret, sh0, sh68_0, nI_add, nI_p2, nI_p3, nI_p4, nI_p5]
  have w := hw I2 J2 hR2
  first | exact ⟨fun _ => w, fun z => absurd rfl z⟩ | exact w | grind
theorem lw_b31 (hd : 30 ≤ d) (hL : g.2.2.2.1 ≤ 3072) (hi : i + 5 < g.2.2.2.1) (hk1 : k.1 ≤ R.cells) (hk2 : k.2 ≤ R.slots) (hR : Rel I J) (hw : ∀ I2 J2, Rel I2 J2 → UL g d R Q 61 i I2 J2 k) : UL g d R Q 31 i I J k := by
  refine bL_law_31 ?_
  simp (disch := first | omega | decide) only [w_nl0, w_nli, w_nlr, ↓w_ts1, ↓w_ts0, w_rcv, w_rfv, w_cs, true_and, and_true, List.length_nil, List.length_cons, Nat.reduceAdd, Nat.reduceLeDiff, Nat.zero_le, Nat.reduceLT, ↓w_nil, ix_nI, nI_leP, nI_ltP, nI_eqP, nI_1, ↓i_inN, i_inN, l_le, l_lt, l_eq, r_le, r_lt, r_eq, ↓w_aload_1, ↓w_naload_1, ↓w_aload_0, ↓w_naload_0, ↓w_iload_3, ↓w_iconst, ↓w_iadd, ↓w_iaload, ↓w_saload, ↓w_iv, ↓pm_cl2_6, ↓w_aload_2, ↓w_naload_2, ↓w_iceq, ↓w_zret, sh0, sh68_0, nI_add, nI_p2, nI_p3, nI_p4, nI_p5]
  repeat' (first | apply And.intro | omega | assumption | exact vl)
  refine pm_C_mono (p_why (by omega) I J hR) (fun v S1 I1 J1 h1 => ?_)
  obtain ⟨rfl, _, h2⟩ := h1
  simp (disch := first | omega | decide) only [w_nl0, w_nli, w_nlr, ↓w_ts1, ↓w_ts0, w_rcv, w_rfv, w_cs, true_and, and_true, List.length_nil, List.length_cons, Nat.reduceAdd, Nat.reduceLeDiff, Nat.zero_le, Nat.reduceLT, ↓w_nil, ix_nI, nI_leP, nI_ltP, nI_eqP, nI_1, ↓i_inN, i_inN, l_le, l_lt, l_eq, r_le, r_lt, r_eq, ↓w_aload_1, ↓w_naload_1, ↓w_aload_0, ↓w_naload_0, ↓w_iload_3, ↓w_iconst, ↓w_iadd, ↓w_iaload, ↓w_saload, ↓w_iv, ↓pm_cl2_6, ↓w_aload_2, ↓w_naload_2, ↓w_iceq, ↓w_zret, sh0, sh68_0, nI_add, nI_p2, nI_p3, nI_p4, nI_p5]
  repeat' (first | apply And.intro | omega | assumption | exact vl)
  refine pm_C_mono h2 (fun w S2 I2 J2 h3 => ?_)
  obtain ⟨e, rfl, _, hR2⟩ := h3
  obtain ⟨rfl, a, rfl⟩ := ty_int e rfl
  simp (disch := first | omega | decide) only [w_nl0, w_nli, w_nlr, ↓w_ts1, ↓w_ts0, w_rcv, w_rfv, w_cs, true_and, and_true, List.length_nil, List.length_cons, Nat.reduceAdd, Nat.reduceLeDiff, Nat.zero_le, Nat.reduceLT, ↓w_nil, ix_nI, nI_leP, nI_ltP, nI_eqP, nI_1, ↓i_inN, i_inN, l_le, l_lt, l_eq, r_le, r_lt, r_eq, ↓w_aload_1, ↓w_naload_1, ↓w_aload_0, ↓w_naload_0, ↓w_iload_3, ↓w_iconst, ↓w_iadd, ↓w_iaload, ↓w_saload, ↓w_iv, ↓pm_cl2_6, ↓w_aload_2, ↓w_naload_2, ↓w_iceq, ↓w_zret, sh0, sh68_0, nI_add, nI_p2, nI_p3, nI_p4, nI_p5]
  have w := hw I2 J2 hR2
  first | exact ⟨fun _ => w, fun z => absurd rfl z⟩ | exact w | grind
theorem lw_b37 (hd : 30 ≤ d) (hL : g.2.2.2.1 ≤ 3072) (hi : i + 5 < g.2.2.2.1) (hk1 : k.1 ≤ R.cells) (hk2 : k.2 ≤ R.slots) (hR : Rel I J) (hw : ∀ I2 J2, Rel I2 J2 → UL g d R Q 61 i I2 J2 k) : UL g d R Q 37 i I J k := by
  refine bL_law_37 ?_
  simp (disch := first | omega | decide) only [w_nl0, w_nli, w_nlr, ↓w_ts1, ↓w_ts0, w_rcv, w_rfv, w_cs, true_and, and_true, List.length_nil, List.length_cons, Nat.reduceAdd, Nat.reduceLeDiff, Nat.zero_le, Nat.reduceLT, ↓w_nil, ix_nI, nI_leP, nI_ltP, nI_eqP, nI_1, ↓i_inN, i_inN, l_le, l_lt, l_eq, r_le, r_lt, r_eq, ↓w_aload_1, ↓w_naload_1, ↓w_aload_0, ↓w_naload_0, ↓w_iload_3, ↓w_iconst, ↓w_iadd, ↓w_iaload, ↓w_saload, ↓w_iv, ↓pm_cl2_3, ↓w_aload_2, ↓w_naload_2, ↓w_iceq, ↓w_zret, sh0, sh68_0, nI_add, nI_p2, nI_p3, nI_p4, nI_p5]
  repeat' (first | apply And.intro | omega | assumption | exact vl)
  refine pm_C_mono (p_cause (by omega) I J hR) (fun v S1 I1 J1 h1 => ?_)
  obtain ⟨rfl, _, h2⟩ := h1
  simp (disch := first | omega | decide) only [w_nl0, w_nli, w_nlr, ↓w_ts1, ↓w_ts0, w_rcv, w_rfv, w_cs, true_and, and_true, List.length_nil, List.length_cons, Nat.reduceAdd, Nat.reduceLeDiff, Nat.zero_le, Nat.reduceLT, ↓w_nil, ix_nI, nI_leP, nI_ltP, nI_eqP, nI_1, ↓i_inN, i_inN, l_le, l_lt, l_eq, r_le, r_lt, r_eq, ↓w_aload_1, ↓w_naload_1, ↓w_aload_0, ↓w_naload_0, ↓w_iload_3, ↓w_iconst, ↓w_iadd, ↓w_iaload, ↓w_saload, ↓w_iv, ↓pm_cl2_3, ↓w_aload_2, ↓w_naload_2, ↓w_iceq, ↓w_zret, sh0, sh68_0, nI_add, nI_p2, nI_p3, nI_p4, nI_p5]
  repeat' (first | apply And.intro | omega | assumption | exact vl)
  refine pm_C_mono h2 (fun w S2 I2 J2 h3 => ?_)
  obtain ⟨e, rfl, _, hR2⟩ := h3
  obtain ⟨rfl, a, rfl⟩ := ty_int e rfl
  simp (disch := first | omega | decide) only [w_nl0, w_nli, w_nlr, ↓w_ts1, ↓w_ts0, w_rcv, w_rfv, w_cs, true_and, and_true, List.length_nil, List.length_cons, Nat.reduceAdd, Nat.reduceLeDiff, Nat.zero_le, Nat.reduceLT, ↓w_nil, ix_nI, nI_leP, nI_ltP, nI_eqP, nI_1, ↓i_inN, i_inN, l_le, l_lt, l_eq, r_le, r_lt, r_eq, ↓w_aload_1, ↓w_naload_1, ↓w_aload_0, ↓w_naload_0, ↓w_iload_3, ↓w_iconst, ↓w_iadd, ↓w_iaload, ↓w_saload, ↓w_iv, ↓pm_cl2_3, ↓w_aload_2, ↓w_naload_2, ↓w_iceq, ↓w_zret, sh0, sh68_0, nI_add, nI_p2, nI_p3, nI_p4, nI_p5]
  have w := hw I2 J2 hR2
  first | exact ⟨fun _ => w, fun z => absurd rfl z⟩ | exact w | grind
theorem lw_b38 (hd : 30 ≤ d) (hL : g.2.2.2.1 ≤ 3072) (hi : i + 5 < g.2.2.2.1) (hk1 : k.1 ≤ R.cells) (hk2 : k.2 ≤ R.slots) (hR : Rel I J) (hw : ∀ I2 J2, Rel I2 J2 → UL g d R Q 61 i I2 J2 k) : UL g d R Q 38 i I J k := by
  refine bL_law_38 ?_
  simp (disch := first | omega | decide) only [w_nl0, w_nli, w_nlr, ↓w_ts1, ↓w_ts0, w_rcv, w_rfv, w_cs, true_and, and_true, List.length_nil, List.length_cons, Nat.reduceAdd, Nat.reduceLeDiff, Nat.zero_le, Nat.reduceLT, ↓w_nil, ix_nI, nI_leP, nI_ltP, nI_eqP, nI_1, ↓i_inN, i_inN, l_le, l_lt, l_eq, r_le, r_lt, r_eq, ↓w_aload_1, ↓w_naload_1, ↓w_aload_0, ↓w_naload_0, ↓w_iload_3, ↓w_iconst, ↓w_iadd, ↓w_iaload, ↓w_saload, ↓w_iv, ↓pm_cl2_3, ↓w_aload_2, ↓w_naload_2, ↓w_iceq, ↓w_zret, sh0, sh68_0, nI_add, nI_p2, nI_p3, nI_p4, nI_p5]
  repeat' (first | apply And.intro | omega | assumption | exact vl)
  refine pm_C_mono (p_causeTold (by omega) I J hR) (fun v S1 I1 J1 h1 => ?_)
  obtain ⟨rfl, _, h2⟩ := h1
  simp (disch := first | omega | decide) only [w_nl0, w_nli, w_nlr, ↓w_ts1, ↓w_ts0, w_rcv, w_rfv, w_cs, true_and, and_true, List.length_nil, List.length_cons, Nat.reduceAdd, Nat.reduceLeDiff, Nat.zero_le, Nat.reduceLT, ↓w_nil, ix_nI, nI_leP, nI_ltP, nI_eqP, nI_1, ↓i_inN, i_inN, l_le, l_lt, l_eq, r_le, r_lt, r_eq, ↓w_aload_1, ↓w_naload_1, ↓w_aload_0, ↓w_naload_0, ↓w_iload_3, ↓w_iconst, ↓w_iadd, ↓w_iaload, ↓w_saload, ↓w_iv, ↓pm_cl2_3, ↓w_aload_2, ↓w_naload_2, ↓w_iceq, ↓w_zret, sh0, sh68_0, nI_add, nI_p2, nI_p3, nI_p4, nI_p5]
  repeat' (first | apply And.intro | omega | assumption | exact vl)
  refine pm_C_mono h2 (fun w S2 I2 J2 h3 => ?_)
  obtain ⟨e, rfl, _, hR2⟩ := h3
  obtain ⟨rfl, a, rfl⟩ := ty_int e rfl
  simp (disch := first | omega | decide) only [w_nl0, w_nli, w_nlr, ↓w_ts1, ↓w_ts0, w_rcv, w_rfv, w_cs, true_and, and_true, List.length_nil, List.length_cons, Nat.reduceAdd, Nat.reduceLeDiff, Nat.zero_le, Nat.reduceLT, ↓w_nil, ix_nI, nI_leP, nI_ltP, nI_eqP, nI_1, ↓i_inN, i_inN, l_le, l_lt, l_eq, r_le, r_lt, r_eq, ↓w_aload_1, ↓w_naload_1, ↓w_aload_0, ↓w_naload_0, ↓w_iload_3, ↓w_iconst, ↓w_iadd, ↓w_iaload, ↓w_saload, ↓w_iv, ↓pm_cl2_3, ↓w_aload_2, ↓w_naload_2, ↓w_iceq, ↓w_zret, sh0, sh68_0, nI_add, nI_p2, nI_p3, nI_p4, nI_p5]
  have w := hw I2 J2 hR2
  first | exact ⟨fun _ => w, fun z => absurd rfl z⟩ | exact w | grind
theorem lw_b39 (hd : 30 ≤ d) (hL : g.2.2.2.1 ≤ 3072) (hi : i + 5 < g.2.2.2.1) (hk1 : k.1 ≤ R.cells) (hk2 : k.2 ≤ R.slots) (hR : Rel I J) (hw : ∀ I2 J2, Rel I2 J2 → UL g d R Q 61 i I2 J2 k) : UL g d R Q 39 i I J k := by
  refine bL_law_39 ?_
  simp (disch := first | omega | decide) only [w_nl0, w_nli, w_nlr, ↓w_ts1, ↓w_ts0, w_rcv, w_rfv, w_cs, true_and, and_true, List.length_nil, List.length_cons, Nat.reduceAdd, Nat.reduceLeDiff, Nat.zero_le, Nat.reduceLT, ↓w_nil, ix_nI, nI_leP, nI_ltP, nI_eqP, nI_1, ↓i_inN, i_inN, l_le, l_lt, l_eq, r_le, r_lt, r_eq, ↓w_aload_1, ↓w_naload_1, ↓w_aload_0, ↓w_naload_0, ↓w_iload_3, ↓w_iconst, ↓w_iadd, ↓w_iaload, ↓w_saload, ↓w_iv, ↓pm_cl2_3, ↓w_aload_2, ↓w_naload_2, ↓w_iceq, ↓w_zret, sh0, sh68_0, nI_add, nI_p2, nI_p3, nI_p4, nI_p5]
  repeat' (first | apply And.intro | omega | assumption | exact vl)
  refine pm_C_mono (p_rivals (by omega) I J hR) (fun v S1 I1 J1 h1 => ?_)
  obtain ⟨rfl, _, h2⟩ := h1
  simp (disch := first | omega | decide) only [w_nl0, w_nli, w_nlr, ↓w_ts1, ↓w_ts0, w_rcv, w_rfv, w_cs, true_and, and_true, List.length_nil, List.length_cons, Nat.reduceAdd, Nat.reduceLeDiff, Nat.zero_le, Nat.reduceLT, ↓w_nil, ix_nI, nI_leP, nI_ltP, nI_eqP, nI_1, ↓i_inN, i_inN, l_le, l_lt, l_eq, r_le, r_lt, r_eq, ↓w_aload_1, ↓w_naload_1, ↓w_aload_0, ↓w_naload_0, ↓w_iload_3, ↓w_iconst, ↓w_iadd, ↓w_iaload, ↓w_saload, ↓w_iv, ↓pm_cl2_3, ↓w_aload_2, ↓w_naload_2, ↓w_iceq, ↓w_zret, sh0, sh68_0, nI_add, nI_p2, nI_p3, nI_p4, nI_p5]
  repeat' (first | apply And.intro | omega | assumption | exact vl)
  refine pm_C_mono h2 (fun w S2 I2 J2 h3 => ?_)
  obtain ⟨e, rfl, _, hR2⟩ := h3
  obtain ⟨rfl, a, rfl⟩ := ty_int e rfl
  simp (disch := first | omega | decide) only [w_nl0, w_nli, w_nlr, ↓w_ts1, ↓w_ts0, w_rcv, w_rfv, w_cs, true_and, and_true, List.length_nil, List.length_cons, Nat.reduceAdd, Nat.reduceLeDiff, Nat.zero_le, Nat.reduceLT, ↓w_nil, ix_nI, nI_leP, nI_ltP, nI_eqP, nI_1, ↓i_inN, i_inN, l_le, l_lt, l_eq, r_le, r_lt, r_eq, ↓w_aload_1, ↓w_naload_1, ↓w_aload_0, ↓w_naload_0, ↓w_iload_3, ↓w_iconst, ↓w_iadd, ↓w_iaload, ↓w_saload, ↓w_iv, ↓pm_cl2_3, ↓w_aload_2, ↓w_naload_2, ↓w_iceq, ↓w_zret, sh0, sh68_0, nI_add, nI_p2, nI_p3, nI_p4, nI_p5]
  have w := hw I2 J2 hR2
  first | exact ⟨fun _ => w, fun z => absurd rfl z⟩ | exact w | grind
theorem lw_b40 (hd : 30 ≤ d) (hL : g.2.2.2.1 ≤ 3072) (hi : i + 5 < g.2.2.2.1) (hk1 : k.1 ≤ R.cells) (hk2 : k.2 ≤ R.slots) (hR : Rel I J) (hw : ∀ I2 J2, Rel I2 J2 → UL g d R Q 61 i I2 J2 k) : UL g d R Q 40 i I J k := by
  refine bL_law_40 ?_
  simp (disch := first | omega | decide) only [w_nl0, w_nli, w_nlr, ↓w_ts1, ↓w_ts0, w_rcv, w_rfv, w_cs, true_and, and_true, List.length_nil, List.length_cons, Nat.reduceAdd, Nat.reduceLeDiff, Nat.zero_le, Nat.reduceLT, ↓w_nil, ix_nI, nI_leP, nI_ltP, nI_eqP, nI_1, ↓i_inN, i_inN, l_le, l_lt, l_eq, r_le, r_lt, r_eq, ↓w_aload_1, ↓w_naload_1, ↓w_aload_0, ↓w_naload_0, ↓w_iload_3, ↓w_iconst, ↓w_iadd, ↓w_iaload, ↓w_saload, ↓w_iv, ↓pm_cl2_3, ↓w_aload_2, ↓w_naload_2, ↓w_iceq, ↓w_zret, sh0, sh68_0, nI_add, nI_p2, nI_p3, nI_p4, nI_p5]
  repeat' (first | apply And.intro | omega | assumption | exact vl)
  refine pm_C_mono (p_nextTest (by omega) I J hR) (fun v S1 I1 J1 h1 => ?_)
  obtain ⟨rfl, _, h2⟩ := h1
  simp (disch := first | omega | decide) only [w_nl0, w_nli, w_nlr, ↓w_ts1, ↓w_ts0, w_rcv, w_rfv, w_cs, true_and, and_true, List.length_nil, List.length_cons, Nat.reduceAdd, Nat.reduceLeDiff, Nat.zero_le, Nat.reduceLT, ↓w_nil, ix_nI, nI_leP, nI_ltP, nI_eqP, nI_1, ↓i_inN, i_inN, l_le, l_lt, l_eq, r_le, r_lt, r_eq, ↓w_aload_1, ↓w_naload_1, ↓w_aload_0, ↓w_naload_0, ↓w_iload_3, ↓w_iconst, ↓w_iadd, ↓w_iaload, ↓w_saload, ↓w_iv, ↓pm_cl2_3, ↓w_aload_2, ↓w_naload_2, ↓w_iceq, ↓w_zret, sh0, sh68_0, nI_add, nI_p2, nI_p3, nI_p4, nI_p5]
  repeat' (first | apply And.intro | omega | assumption | exact vl)
  refine pm_C_mono h2 (fun w S2 I2 J2 h3 => ?_)
  obtain ⟨e, rfl, _, hR2⟩ := h3
  obtain ⟨rfl, a, rfl⟩ := ty_int e rfl
  simp (disch := first | omega | decide) only [w_nl0, w_nli, w_nlr, ↓w_ts1, ↓w_ts0, w_rcv, w_rfv, w_cs, true_and, and_true, List.length_nil, List.length_cons, Nat.reduceAdd, Nat.reduceLeDiff, Nat.zero_le, Nat.reduceLT, ↓w_nil, ix_nI, nI_leP, nI_ltP, nI_eqP, nI_1, ↓i_inN, i_inN, l_le, l_lt, l_eq, r_le, r_lt, r_eq, ↓w_aload_1, ↓w_naload_1, ↓w_aload_0, ↓w_naload_0, ↓w_iload_3, ↓w_iconst, ↓w_iadd, ↓w_iaload, ↓w_saload, ↓w_iv, ↓pm_cl2_3, ↓w_aload_2, ↓w_naload_2, ↓w_iceq, ↓w_zret, sh0, sh68_0, nI_add, nI_p2, nI_p3, nI_p4, nI_p5]
  have w := hw I2 J2 hR2
  first | exact ⟨fun _ => w, fun z => absurd rfl z⟩ | exact w | grind
theorem lw_b41 (hd : 30 ≤ d) (hL : g.2.2.2.1 ≤ 3072) (hi : i + 5 < g.2.2.2.1) (hk1 : k.1 ≤ R.cells) (hk2 : k.2 ≤ R.slots) (hR : Rel I J) (hw : ∀ I2 J2, Rel I2 J2 → UL g d R Q 61 i I2 J2 k) : UL g d R Q 41 i I J k := by
  refine bL_law_41 ?_
  simp (disch := first | omega | decide) only [w_nl0, w_nli, w_nlr, ↓w_ts1, ↓w_ts0, w_rcv, w_rfv, w_cs, true_and, and_true, List.length_nil, List.length_cons, Nat.reduceAdd, Nat.reduceLeDiff, Nat.zero_le, Nat.reduceLT, ↓w_nil, ix_nI, nI_leP, nI_ltP, nI_eqP, nI_1, ↓i_inN, i_inN, l_le, l_lt, l_eq, r_le, r_lt, r_eq, ↓w_aload_1, ↓w_naload_1, ↓w_aload_0, ↓w_naload_0, ↓w_iload_3, ↓w_iconst, ↓w_iadd, ↓w_iaload, ↓w_saload, ↓w_iv, ↓pm_cl2_4, ↓w_aload_2, ↓w_naload_2, ↓w_iceq, ↓w_zret, sh0, sh68_0, nI_add, nI_p2, nI_p3, nI_p4, nI_p5]
  repeat' (first | apply And.intro | omega | assumption | exact vl)
  refine pm_C_mono (p_recall (by omega) I J hR) (fun v S1 I1 J1 h1 => ?_)
  obtain ⟨rfl, _, h2⟩ := h1
  simp (disch := first | omega | decide) only [w_nl0, w_nli, w_nlr, ↓w_ts1, ↓w_ts0, w_rcv, w_rfv, w_cs, true_and, and_true, List.length_nil, List.length_cons, Nat.reduceAdd, Nat.reduceLeDiff, Nat.zero_le, Nat.reduceLT, ↓w_nil, ix_nI, nI_leP, nI_ltP, nI_eqP, nI_1, ↓i_inN, i_inN, l_le, l_lt, l_eq, r_le, r_lt, r_eq, ↓w_aload_1, ↓w_naload_1, ↓w_aload_0, ↓w_naload_0, ↓w_iload_3, ↓w_iconst, ↓w_iadd, ↓w_iaload, ↓w_saload, ↓w_iv, ↓pm_cl2_4, ↓w_aload_2, ↓w_naload_2, ↓w_iceq, ↓w_zret, sh0, sh68_0, nI_add, nI_p2, nI_p3, nI_p4, nI_p5]
  repeat' (first | apply And.intro | omega | assumption | exact vl)
  refine pm_C_mono h2 (fun w S2 I2 J2 h3 => ?_)
  obtain ⟨e, rfl, _, hR2⟩ := h3
  obtain ⟨rfl, a, rfl⟩ := ty_int e rfl
  simp (disch := first | omega | decide) only [w_nl0, w_nli, w_nlr, ↓w_ts1, ↓w_ts0, w_rcv, w_rfv, w_cs, true_and, and_true, List.length_nil, List.length_cons, Nat.reduceAdd, Nat.reduceLeDiff, Nat.zero_le, Nat.reduceLT, ↓w_nil, ix_nI, nI_leP, nI_ltP, nI_eqP, nI_1, ↓i_inN, i_inN, l_le, l_lt, l_eq, r_le, r_lt, r_eq, ↓w_aload_1, ↓w_naload_1, ↓w_aload_0, ↓w_naload_0, ↓w_iload_3, ↓w_iconst, ↓w_iadd, ↓w_iaload, ↓w_saload, ↓w_iv, ↓pm_cl2_4, ↓w_aload_2, ↓w_naload_2, ↓w_iceq, ↓w_zret, sh0, sh68_0, nI_add, nI_p2, nI_p3, nI_p4, nI_p5]
  have w := hw I2 J2 hR2
  first | exact ⟨fun _ => w, fun z => absurd rfl z⟩ | exact w | grind
theorem lw_b42 (hd : 30 ≤ d) (hL : g.2.2.2.1 ≤ 3072) (hi : i + 5 < g.2.2.2.1) (hk1 : k.1 ≤ R.cells) (hk2 : k.2 ≤ R.slots) (hR : Rel I J) (hw : ∀ I2 J2, Rel I2 J2 → UL g d R Q 61 i I2 J2 k) : UL g d R Q 42 i I J k := by
  refine bL_law_42 ?_
  simp (disch := first | omega | decide) only [w_nl0, w_nli, w_nlr, ↓w_ts1, ↓w_ts0, w_rcv, w_rfv, w_cs, true_and, and_true, List.length_nil, List.length_cons, Nat.reduceAdd, Nat.reduceLeDiff, Nat.zero_le, Nat.reduceLT, ↓w_nil, ix_nI, nI_leP, nI_ltP, nI_eqP, nI_1, ↓i_inN, i_inN, l_le, l_lt, l_eq, r_le, r_lt, r_eq, ↓w_aload_1, ↓w_naload_1, ↓w_aload_0, ↓w_naload_0, ↓w_iload_3, ↓w_iconst, ↓w_iadd, ↓w_iaload, ↓w_saload, ↓w_iv, ↓pm_cl2_3, ↓w_aload_2, ↓w_naload_2, ↓w_iceq, ↓w_zret, sh0, sh68_0, nI_add, nI_p2, nI_p3, nI_p4, nI_p5]
  repeat' (first | apply And.intro | omega | assumption | exact vl)
  refine pm_C_mono (p_swish (by omega) I J hR) (fun v S1 I1 J1 h1 => ?_)
  obtain ⟨rfl, _, h2⟩ := h1
  simp (disch := first | omega | decide) only [w_nl0, w_nli, w_nlr, ↓w_ts1, ↓w_ts0, w_rcv, w_rfv, w_cs, true_and, and_true, List.length_nil, List.length_cons, Nat.reduceAdd, Nat.reduceLeDiff, Nat.zero_le, Nat.reduceLT, ↓w_nil, ix_nI, nI_leP, nI_ltP, nI_eqP, nI_1, ↓i_inN, i_inN, l_le, l_lt, l_eq, r_le, r_lt, r_eq, ↓w_aload_1, ↓w_naload_1, ↓w_aload_0, ↓w_naload_0, ↓w_iload_3, ↓w_iconst, ↓w_iadd, ↓w_iaload, ↓w_saload, ↓w_iv, ↓pm_cl2_3, ↓w_aload_2, ↓w_naload_2, ↓w_iceq, ↓w_zret, sh0, sh68_0, nI_add, nI_p2, nI_p3, nI_p4, nI_p5]
  repeat' (first | apply And.intro | omega | assumption | exact vl)
  refine pm_C_mono h2 (fun w S2 I2 J2 h3 => ?_)
  obtain ⟨e, rfl, _, hR2⟩ := h3
  obtain ⟨rfl, a, rfl⟩ := ty_int e rfl
  simp (disch := first | omega | decide) only [w_nl0, w_nli, w_nlr, ↓w_ts1, ↓w_ts0, w_rcv, w_rfv, w_cs, true_and, and_true, List.length_nil, List.length_cons, Nat.reduceAdd, Nat.reduceLeDiff, Nat.zero_le, Nat.reduceLT, ↓w_nil, ix_nI, nI_leP, nI_ltP, nI_eqP, nI_1, ↓i_inN, i_inN, l_le, l_lt, l_eq, r_le, r_lt, r_eq, ↓w_aload_1, ↓w_naload_1, ↓w_aload_0, ↓w_naload_0, ↓w_iload_3, ↓w_iconst, ↓w_iadd, ↓w_iaload, ↓w_saload, ↓w_iv, ↓pm_cl2_3, ↓w_aload_2, ↓w_naload_2, ↓w_iceq, ↓w_zret, sh0, sh68_0, nI_add, nI_p2, nI_p3, nI_p4, nI_p5]
  have w := hw I2 J2 hR2
  first | exact ⟨fun _ => w, fun z => absurd rfl z⟩ | exact w | grind
theorem lw_b43 (hd : 30 ≤ d) (hL : g.2.2.2.1 ≤ 3072) (hi : i + 5 < g.2.2.2.1) (hk1 : k.1 ≤ R.cells) (hk2 : k.2 ≤ R.slots) (hR : Rel I J) (hw : ∀ I2 J2, Rel I2 J2 → UL g d R Q 61 i I2 J2 k) : UL g d R Q 43 i I J k := by
  refine bL_law_43 ?_
  simp (disch := first | omega | decide) only [w_nl0, w_nli, w_nlr, ↓w_ts1, ↓w_ts0, w_rcv, w_rfv, w_cs, true_and, and_true, List.length_nil, List.length_cons, Nat.reduceAdd, Nat.reduceLeDiff, Nat.zero_le, Nat.reduceLT, ↓w_nil, ix_nI, nI_leP, nI_ltP, nI_eqP, nI_1, ↓i_inN, i_inN, l_le, l_lt, l_eq, r_le, r_lt, r_eq, ↓w_aload_1, ↓w_naload_1, ↓w_aload_0, ↓w_naload_0, ↓w_iload_3, ↓w_iconst, ↓w_iadd, ↓w_iaload, ↓w_saload, ↓w_iv, ↓pm_cl2_3, ↓w_aload_2, ↓w_naload_2, ↓w_iceq, ↓w_zret, sh0, sh68_0, nI_add, nI_p2, nI_p3, nI_p4, nI_p5]
  repeat' (first | apply And.intro | omega | assumption | exact vl)
  refine pm_C_mono (p_swishRun (by omega) I J hR) (fun v S1 I1 J1 h1 => ?_)
  obtain ⟨rfl, _, h2⟩ := h1
  simp (disch := first | omega | decide) only [w_nl0, w_nli, w_nlr, ↓w_ts1, ↓w_ts0, w_rcv, w_rfv, w_cs, true_and, and_true, List.length_nil, List.length_cons, Nat.reduceAdd, Nat.reduceLeDiff, Nat.zero_le, Nat.reduceLT, ↓w_nil, ix_nI, nI_leP, nI_ltP, nI_eqP, nI_1, ↓i_inN, i_inN, l_le, l_lt, l_eq, r_le, r_lt, r_eq, ↓w_aload_1, ↓w_naload_1, ↓w_aload_0, ↓w_naload_0, ↓w_iload_3, ↓w_iconst, ↓w_iadd, ↓w_iaload, ↓w_saload, ↓w_iv, ↓pm_cl2_3, ↓w_aload_2, ↓w_naload_2, ↓w_iceq, ↓w_zret, sh0, sh68_0, nI_add, nI_p2, nI_p3, nI_p4, nI_p5]
  repeat' (first | apply And.intro | omega | assumption | exact vl)
  refine pm_C_mono h2 (fun w S2 I2 J2 h3 => ?_)
  obtain ⟨e, rfl, _, hR2⟩ := h3
  obtain ⟨rfl, a, rfl⟩ := ty_int e rfl
  simp (disch := first | omega | decide) only [w_nl0, w_nli, w_nlr, ↓w_ts1, ↓w_ts0, w_rcv, w_rfv, w_cs, true_and, and_true, List.length_nil, List.length_cons, Nat.reduceAdd, Nat.reduceLeDiff, Nat.zero_le, Nat.reduceLT, ↓w_nil, ix_nI, nI_leP, nI_ltP, nI_eqP, nI_1, ↓i_inN, i_inN, l_le, l_lt, l_eq, r_le, r_lt, r_eq, ↓w_aload_1, ↓w_naload_1, ↓w_aload_0, ↓w_naload_0, ↓w_iload_3, ↓w_iconst, ↓w_iadd, ↓w_iaload, ↓w_saload, ↓w_iv, ↓pm_cl2_3, ↓w_aload_2, ↓w_naload_2, ↓w_iceq, ↓w_zret, sh0, sh68_0, nI_add, nI_p2, nI_p3, nI_p4, nI_p5]
  have w := hw I2 J2 hR2
  first | exact ⟨fun _ => w, fun z => absurd rfl z⟩ | exact w | grind
theorem lw_b44 (hd : 30 ≤ d) (hL : g.2.2.2.1 ≤ 3072) (hi : i + 5 < g.2.2.2.1) (hk1 : k.1 ≤ R.cells) (hk2 : k.2 ≤ R.slots) (hR : Rel I J) (hw : ∀ I2 J2, Rel I2 J2 → UL g d R Q 61 i I2 J2 k) : UL g d R Q 44 i I J k := by
  refine bL_law_44 ?_
  simp (disch := first | omega | decide) only [w_nl0, w_nli, w_nlr, ↓w_ts1, ↓w_ts0, w_rcv, w_rfv, w_cs, true_and, and_true, List.length_nil, List.length_cons, Nat.reduceAdd, Nat.reduceLeDiff, Nat.zero_le, Nat.reduceLT, ↓w_nil, ix_nI, nI_leP, nI_ltP, nI_eqP, nI_1, ↓i_inN, i_inN, l_le, l_lt, l_eq, r_le, r_lt, r_eq, ↓w_aload_1, ↓w_naload_1, ↓w_aload_0, ↓w_naload_0, ↓w_iload_3, ↓w_iconst, ↓w_iadd, ↓w_iaload, ↓w_saload, ↓w_iv, ↓pm_cl2_4, ↓w_aload_2, ↓w_naload_2, ↓w_iceq, ↓w_zret, sh0, sh68_0, nI_add, nI_p2, nI_p3, nI_p4, nI_p5]
  repeat' (first | apply And.intro | omega | assumption | exact vl)
  refine pm_C_mono (p_sell (by omega) I J hR) (fun v S1 I1 J1 h1 => ?_)
  obtain ⟨rfl, _, h2⟩ := h1
  simp (disch := first | omega | decide) only [w_nl0, w_nli, w_nlr, ↓w_ts1, ↓w_ts0, w_rcv, w_rfv, w_cs, true_and, and_true, List.length_nil, List.length_cons, Nat.reduceAdd, Nat.reduceLeDiff, Nat.zero_le, Nat.reduceLT, ↓w_nil, ix_nI, nI_leP, nI_ltP, nI_eqP, nI_1, ↓i_inN, i_inN, l_le, l_lt, l_eq, r_le, r_lt, r_eq, ↓w_aload_1, ↓w_naload_1, ↓w_aload_0, ↓w_naload_0, ↓w_iload_3, ↓w_iconst, ↓w_iadd, ↓w_iaload, ↓w_saload, ↓w_iv, ↓pm_cl2_4, ↓w_aload_2, ↓w_naload_2, ↓w_iceq, ↓w_zret, sh0, sh68_0, nI_add, nI_p2, nI_p3, nI_p4, nI_p5]
  repeat' (first | apply And.intro | omega | assumption | exact vl)
  refine pm_C_mono h2 (fun w S2 I2 J2 h3 => ?_)
  obtain ⟨e, rfl, _, hR2⟩ := h3
  obtain ⟨rfl, a, rfl⟩ := ty_int e rfl
  simp (disch := first | omega | decide) only [w_nl0, w_nli, w_nlr, ↓w_ts1, ↓w_ts0, w_rcv, w_rfv, w_cs, true_and, and_true, List.length_nil, List.length_cons, Nat.reduceAdd, Nat.reduceLeDiff, Nat.zero_le, Nat.reduceLT, ↓w_nil, ix_nI, nI_leP, nI_ltP, nI_eqP, nI_1, ↓i_inN, i_inN, l_le, l_lt, l_eq, r_le, r_lt, r_eq, ↓w_aload_1, ↓w_naload_1, ↓w_aload_0, ↓w_naload_0, ↓w_iload_3, ↓w_iconst, ↓w_iadd, ↓w_iaload, ↓w_saload, ↓w_iv, ↓pm_cl2_4, ↓w_aload_2, ↓w_naload_2, ↓w_iceq, ↓w_zret, sh0, sh68_0, nI_add, nI_p2, nI_p3, nI_p4, nI_p5]
  have w := hw I2 J2 hR2
  first | exact ⟨fun _ => w, fun z => absurd rfl z⟩ | exact w | grind
theorem lw_b45 (hd : 30 ≤ d) (hL : g.2.2.2.1 ≤ 3072) (hi : i + 5 < g.2.2.2.1) (hk1 : k.1 ≤ R.cells) (hk2 : k.2 ≤ R.slots) (hR : Rel I J) (hw : ∀ I2 J2, Rel I2 J2 → UL g d R Q 61 i I2 J2 k) : UL g d R Q 45 i I J k := by
  refine bL_law_45 ?_
  simp (disch := first | omega | decide) only [w_nl0, w_nli, w_nlr, ↓w_ts1, ↓w_ts0, w_rcv, w_rfv, w_cs, true_and, and_true, List.length_nil, List.length_cons, Nat.reduceAdd, Nat.reduceLeDiff, Nat.zero_le, Nat.reduceLT, ↓w_nil, ix_nI, nI_leP, nI_ltP, nI_eqP, nI_1, ↓i_inN, i_inN, l_le, l_lt, l_eq, r_le, r_lt, r_eq, ↓w_aload_1, ↓w_naload_1, ↓w_aload_0, ↓w_naload_0, ↓w_iload_3, ↓w_iconst, ↓w_iadd, ↓w_iaload, ↓w_saload, ↓w_iv, ↓pm_cl2_4, ↓w_aload_2, ↓w_naload_2, ↓w_iceq, ↓w_zret, sh0, sh68_0, nI_add, nI_p2, nI_p3, nI_p4, nI_p5]
  repeat' (first | apply And.intro | omega | assumption | exact vl)
  refine pm_C_mono (p_back (by omega) I J hR) (fun v S1 I1 J1 h1 => ?_)
  obtain ⟨rfl, _, h2⟩ := h1
  simp (disch := first | omega | decide) only [w_nl0, w_nli, w_nlr, ↓w_ts1, ↓w_ts0, w_rcv, w_rfv, w_cs, true_and, and_true, List.length_nil, List.length_cons, Nat.reduceAdd, Nat.reduceLeDiff, Nat.zero_le, Nat.reduceLT, ↓w_nil, ix_nI, nI_leP, nI_ltP, nI_eqP, nI_1, ↓i_inN, i_inN, l_le, l_lt, l_eq, r_le, r_lt, r_eq, ↓w_aload_1, ↓w_naload_1, ↓w_aload_0, ↓w_naload_0, ↓w_iload_3, ↓w_iconst, ↓w_iadd, ↓w_iaload, ↓w_saload, ↓w_iv, ↓pm_cl2_4, ↓w_aload_2, ↓w_naload_2, ↓w_iceq, ↓w_zret, sh0, sh68_0, nI_add, nI_p2, nI_p3, nI_p4, nI_p5]
  repeat' (first | apply And.intro | omega | assumption | exact vl)
  refine pm_C_mono h2 (fun w S2 I2 J2 h3 => ?_)
  obtain ⟨e, rfl, _, hR2⟩ := h3
  obtain ⟨rfl, a, rfl⟩ := ty_int e rfl
  simp (disch := first | omega | decide) only [w_nl0, w_nli, w_nlr, ↓w_ts1, ↓w_ts0, w_rcv, w_rfv, w_cs, true_and, and_true, List.length_nil, List.length_cons, Nat.reduceAdd, Nat.reduceLeDiff, Nat.zero_le, Nat.reduceLT, ↓w_nil, ix_nI, nI_leP, nI_ltP, nI_eqP, nI_1, ↓i_inN, i_inN, l_le, l_lt, l_eq, r_le, r_lt, r_eq, ↓w_aload_1, ↓w_naload_1, ↓w_aload_0, ↓w_naload_0, ↓w_iload_3, ↓w_iconst, ↓w_iadd, ↓w_iaload, ↓w_saload, ↓w_iv, ↓pm_cl2_4, ↓w_aload_2, ↓w_naload_2, ↓w_iceq, ↓w_zret, sh0, sh68_0, nI_add, nI_p2, nI_p3, nI_p4, nI_p5]
  have w := hw I2 J2 hR2
  first | exact ⟨fun _ => w, fun z => absurd rfl z⟩ | exact w | grind
theorem lw_b46 (hd : 30 ≤ d) (hL : g.2.2.2.1 ≤ 3072) (hi : i + 5 < g.2.2.2.1) (hk1 : k.1 ≤ R.cells) (hk2 : k.2 ≤ R.slots) (hR : Rel I J) (hw : ∀ I2 J2, Rel I2 J2 → UL g d R Q 61 i I2 J2 k) : UL g d R Q 46 i I J k := by
  refine bL_law_46 ?_
  simp (disch := first | omega | decide) only [w_nl0, w_nli, w_nlr, ↓w_ts1, ↓w_ts0, w_rcv, w_rfv, w_cs, true_and, and_true, List.length_nil, List.length_cons, Nat.reduceAdd, Nat.reduceLeDiff, Nat.zero_le, Nat.reduceLT, ↓w_nil, ix_nI, nI_leP, nI_ltP, nI_eqP, nI_1, ↓i_inN, i_inN, l_le, l_lt, l_eq, r_le, r_lt, r_eq, ↓w_aload_1, ↓w_naload_1, ↓w_aload_0, ↓w_naload_0, ↓w_iload_3, ↓w_iconst, ↓w_iadd, ↓w_iaload, ↓w_saload, ↓w_iv, ↓pm_cl2_5, ↓w_aload_2, ↓w_naload_2, ↓w_iceq, ↓w_zret, sh0, sh68_0, nI_add, nI_p2, nI_p3, nI_p4, nI_p5]
  repeat' (first | apply And.intro | omega | assumption | exact vl)
  refine pm_C_mono (p_owe (by omega) I J hR) (fun v S1 I1 J1 h1 => ?_)
  obtain ⟨rfl, _, h2⟩ := h1
  simp (disch := first | omega | decide) only [w_nl0, w_nli, w_nlr, ↓w_ts1, ↓w_ts0, w_rcv, w_rfv, w_cs, true_and, and_true, List.length_nil, List.length_cons, Nat.reduceAdd, Nat.reduceLeDiff, Nat.zero_le, Nat.reduceLT, ↓w_nil, ix_nI, nI_leP, nI_ltP, nI_eqP, nI_1, ↓i_inN, i_inN, l_le, l_lt, l_eq, r_le, r_lt, r_eq, ↓w_aload_1, ↓w_naload_1, ↓w_aload_0, ↓w_naload_0, ↓w_iload_3, ↓w_iconst, ↓w_iadd, ↓w_iaload, ↓w_saload, ↓w_iv, ↓pm_cl2_5, ↓w_aload_2, ↓w_naload_2, ↓w_iceq, ↓w_zret, sh0, sh68_0, nI_add, nI_p2, nI_p3, nI_p4, nI_p5]
  repeat' (first | apply And.intro | omega | assumption | exact vl)
  refine pm_C_mono h2 (fun w S2 I2 J2 h3 => ?_)
  obtain ⟨e, rfl, _, hR2⟩ := h3
  obtain ⟨rfl, a, rfl⟩ := ty_int e rfl
  simp (disch := first | omega | decide) only [w_nl0, w_nli, w_nlr, ↓w_ts1, ↓w_ts0, w_rcv, w_rfv, w_cs, true_and, and_true, List.length_nil, List.length_cons, Nat.reduceAdd, Nat.reduceLeDiff, Nat.zero_le, Nat.reduceLT, ↓w_nil, ix_nI, nI_leP, nI_ltP, nI_eqP, nI_1, ↓i_inN, i_inN, l_le, l_lt, l_eq, r_le, r_lt, r_eq, ↓w_aload_1, ↓w_naload_1, ↓w_aload_0, ↓w_naload_0, ↓w_iload_3, ↓w_iconst, ↓w_iadd, ↓w_iaload, ↓w_saload, ↓w_iv, ↓pm_cl2_5, ↓w_aload_2, ↓w_naload_2, ↓w_iceq, ↓w_zret, sh0, sh68_0, nI_add, nI_p2, nI_p3, nI_p4, nI_p5]
  have w := hw I2 J2 hR2
  first | exact ⟨fun _ => w, fun z => absurd rfl z⟩ | exact w | grind
theorem lw_b47 (hd : 30 ≤ d) (hL : g.2.2.2.1 ≤ 3072) (hi : i + 5 < g.2.2.2.1) (hk1 : k.1 ≤ R.cells) (hk2 : k.2 ≤ R.slots) (hR : Rel I J) (hw : ∀ I2 J2, Rel I2 J2 → UL g d R Q 61 i I2 J2 k) : UL g d R Q 47 i I J k := by
  refine bL_law_47 ?_
  simp (disch := first | omega | decide) only [w_nl0, w_nli, w_nlr, ↓w_ts1, ↓w_ts0, w_rcv, w_rfv, w_cs, true_and, and_true, List.length_nil, List.length_cons, Nat.reduceAdd, Nat.reduceLeDiff, Nat.zero_le, Nat.reduceLT, ↓w_nil, ix_nI, nI_leP, nI_ltP, nI_eqP, nI_1, ↓i_inN, i_inN, l_le, l_lt, l_eq, r_le, r_lt, r_eq, ↓w_aload_1, ↓w_naload_1, ↓w_iv, ↓pm_cl2_1, ↓w_aload_2, ↓w_naload_2, ↓w_lcmp, ↓w_ifeq, ↓w_iconst, ↓w_zret, sh0, sh68_0, nI_add, nI_p2, nI_p3, nI_p4, nI_p5]
  repeat' (first | apply And.intro | omega | assumption | exact vl)
  refine pm_C_mono (p_pence (by omega) I J hR) (fun v S1 I1 J1 h1 => ?_)
  obtain ⟨rfl, _, h2⟩ := h1
  simp (disch := first | omega | decide) only [w_nl0, w_nli, w_nlr, ↓w_ts1, ↓w_ts0, w_rcv, w_rfv, w_cs, true_and, and_true, List.length_nil, List.length_cons, Nat.reduceAdd, Nat.reduceLeDiff, Nat.zero_le, Nat.reduceLT, ↓w_nil, ix_nI, nI_leP, nI_ltP, nI_eqP, nI_1, ↓i_inN, i_inN, l_le, l_lt, l_eq, r_le, r_lt, r_eq, ↓w_aload_1, ↓w_naload_1, ↓w_iv, ↓pm_cl2_1, ↓w_aload_2, ↓w_naload_2, ↓w_lcmp, ↓w_ifeq, ↓w_iconst, ↓w_zret, sh0, sh68_0, nI_add, nI_p2, nI_p3, nI_p4, nI_p5]
  repeat' (first | apply And.intro | omega | assumption | exact vl)
  refine pm_C_mono h2 (fun w S2 I2 J2 h3 => ?_)
  obtain ⟨e, rfl, _, hR2⟩ := h3
  obtain ⟨rfl, a, rfl⟩ := ty_long e rfl
  simp (disch := first | omega | decide) only [w_nl0, w_nli, w_nlr, ↓w_ts1, ↓w_ts0, w_rcv, w_rfv, w_cs, true_and, and_true, List.length_nil, List.length_cons, Nat.reduceAdd, Nat.reduceLeDiff, Nat.zero_le, Nat.reduceLT, ↓w_nil, ix_nI, nI_leP, nI_ltP, nI_eqP, nI_1, ↓i_inN, i_inN, l_le, l_lt, l_eq, r_le, r_lt, r_eq, ↓w_aload_1, ↓w_naload_1, ↓w_iv, ↓pm_cl2_1, ↓w_aload_2, ↓w_naload_2, ↓w_lcmp, ↓w_ifeq, ↓w_iconst, ↓w_zret, sh0, sh68_0, nI_add, nI_p2, nI_p3, nI_p4, nI_p5, lg_eq0]
  have w := hw I2 J2 hR2
  first | exact ⟨fun _ => w, fun z => absurd rfl z⟩ | exact w | grind
theorem lw_b48 (hd : 30 ≤ d) (hL : g.2.2.2.1 ≤ 3072) (hi : i + 5 < g.2.2.2.1) (hk1 : k.1 ≤ R.cells) (hk2 : k.2 ≤ R.slots) (hR : Rel I J) (hw : ∀ I2 J2, Rel I2 J2 → UL g d R Q 61 i I2 J2 k) : UL g d R Q 48 i I J k := by
  refine bL_law_48 ?_
  simp (disch := first | omega | decide) only [w_nl0, w_nli, w_nlr, ↓w_ts1, ↓w_ts0, w_rcv, w_rfv, w_cs, true_and, and_true, List.length_nil, List.length_cons, Nat.reduceAdd, Nat.reduceLeDiff, Nat.zero_le, Nat.reduceLT, ↓w_nil, ix_nI, nI_leP, nI_ltP, nI_eqP, nI_1, ↓i_inN, i_inN, l_le, l_lt, l_eq, r_le, r_lt, r_eq, ↓w_aload_1, ↓w_naload_1, ↓w_aload_0, ↓w_naload_0, ↓w_iload_3, ↓w_iconst, ↓w_iadd, ↓w_iaload, ↓w_saload, ↓w_iv, ↓pm_cl2_2, ↓w_aload_2, ↓w_naload_2, ↓w_iceq, ↓w_zret, sh0, sh68_0, nI_add, nI_p2, nI_p3, nI_p4, nI_p5]
  repeat' (first | apply And.intro | omega | assumption | exact vl)
  refine pm_C_mono (p_share (by omega) I J hR) (fun v S1 I1 J1 h1 => ?_)
  obtain ⟨rfl, _, h2⟩ := h1
  simp (disch := first | omega | decide) only [w_nl0, w_nli, w_nlr, ↓w_ts1, ↓w_ts0, w_rcv, w_rfv, w_cs, true_and, and_true, List.length_nil, List.length_cons, Nat.reduceAdd, Nat.reduceLeDiff, Nat.zero_le, Nat.reduceLT, ↓w_nil, ix_nI, nI_leP, nI_ltP, nI_eqP, nI_1, ↓i_inN, i_inN, l_le, l_lt, l_eq, r_le, r_lt, r_eq, ↓w_aload_1, ↓w_naload_1, ↓w_aload_0, ↓w_naload_0, ↓w_iload_3, ↓w_iconst, ↓w_iadd, ↓w_iaload, ↓w_saload, ↓w_iv, ↓pm_cl2_2, ↓w_aload_2, ↓w_naload_2, ↓w_iceq, ↓w_zret, sh0, sh68_0, nI_add, nI_p2, nI_p3, nI_p4, nI_p5]
  repeat' (first | apply And.intro | omega | assumption | exact vl)
  refine pm_C_mono h2 (fun w S2 I2 J2 h3 => ?_)
  obtain ⟨e, rfl, _, hR2⟩ := h3
  obtain ⟨rfl, a, rfl⟩ := ty_int e rfl
  simp (disch := first | omega | decide) only [w_nl0, w_nli, w_nlr, ↓w_ts1, ↓w_ts0, w_rcv, w_rfv, w_cs, true_and, and_true, List.length_nil, List.length_cons, Nat.reduceAdd, Nat.reduceLeDiff, Nat.zero_le, Nat.reduceLT, ↓w_nil, ix_nI, nI_leP, nI_ltP, nI_eqP, nI_1, ↓i_inN, i_inN, l_le, l_lt, l_eq, r_le, r_lt, r_eq, ↓w_aload_1, ↓w_naload_1, ↓w_aload_0, ↓w_naload_0, ↓w_iload_3, ↓w_iconst, ↓w_iadd, ↓w_iaload, ↓w_saload, ↓w_iv, ↓pm_cl2_2, ↓w_aload_2, ↓w_naload_2, ↓w_iceq, ↓w_zret, sh0, sh68_0, nI_add, nI_p2, nI_p3, nI_p4, nI_p5]
  have w := hw I2 J2 hR2
  first | exact ⟨fun _ => w, fun z => absurd rfl z⟩ | exact w | grind
theorem lw_b49 (hd : 30 ≤ d) (hL : g.2.2.2.1 ≤ 3072) (hi : i + 5 < g.2.2.2.1) (hk1 : k.1 ≤ R.cells) (hk2 : k.2 ≤ R.slots) (hR : Rel I J) (hw : ∀ I2 J2, Rel I2 J2 → UL g d R Q 61 i I2 J2 k) : UL g d R Q 49 i I J k := by
  refine bL_law_49 ?_
  simp (disch := first | omega | decide) only [w_nl0, w_nli, w_nlr, ↓w_ts1, ↓w_ts0, w_rcv, w_rfv, w_cs, true_and, and_true, List.length_nil, List.length_cons, Nat.reduceAdd, Nat.reduceLeDiff, Nat.zero_le, Nat.reduceLT, ↓w_nil, ix_nI, nI_leP, nI_ltP, nI_eqP, nI_1, ↓i_inN, i_inN, l_le, l_lt, l_eq, r_le, r_lt, r_eq, ↓w_aload_1, ↓w_naload_1, ↓w_aload_0, ↓w_naload_0, ↓w_iload_3, ↓w_iconst, ↓w_iadd, ↓w_iaload, ↓w_saload, ↓w_iv, ↓pm_cl2_3, ↓w_aload_2, ↓w_naload_2, ↓w_iceq, ↓w_zret, sh0, sh68_0, nI_add, nI_p2, nI_p3, nI_p4, nI_p5]
  repeat' (first | apply And.intro | omega | assumption | exact vl)
  refine pm_C_mono (p_order (by omega) I J hR) (fun v S1 I1 J1 h1 => ?_)
  obtain ⟨rfl, _, h2⟩ := h1
  simp (disch := first | omega | decide) only [w_nl0, w_nli, w_nlr, ↓w_ts1, ↓w_ts0, w_rcv, w_rfv, w_cs, true_and, and_true, List.length_nil, List.length_cons, Nat.reduceAdd, Nat.reduceLeDiff, Nat.zero_le, Nat.reduceLT, ↓w_nil, ix_nI, nI_leP, nI_ltP, nI_eqP, nI_1, ↓i_inN, i_inN, l_le, l_lt, l_eq, r_le, r_lt, r_eq, ↓w_aload_1, ↓w_naload_1, ↓w_aload_0, ↓w_naload_0, ↓w_iload_3, ↓w_iconst, ↓w_iadd, ↓w_iaload, ↓w_saload, ↓w_iv, ↓pm_cl2_3, ↓w_aload_2, ↓w_naload_2, ↓w_iceq, ↓w_zret, sh0, sh68_0, nI_add, nI_p2, nI_p3, nI_p4, nI_p5]
  repeat' (first | apply And.intro | omega | assumption | exact vl)
  refine pm_C_mono h2 (fun w S2 I2 J2 h3 => ?_)
  obtain ⟨e, rfl, _, hR2⟩ := h3
  obtain ⟨rfl, a, rfl⟩ := ty_int e rfl
  simp (disch := first | omega | decide) only [w_nl0, w_nli, w_nlr, ↓w_ts1, ↓w_ts0, w_rcv, w_rfv, w_cs, true_and, and_true, List.length_nil, List.length_cons, Nat.reduceAdd, Nat.reduceLeDiff, Nat.zero_le, Nat.reduceLT, ↓w_nil, ix_nI, nI_leP, nI_ltP, nI_eqP, nI_1, ↓i_inN, i_inN, l_le, l_lt, l_eq, r_le, r_lt, r_eq, ↓w_aload_1, ↓w_naload_1, ↓w_aload_0, ↓w_naload_0, ↓w_iload_3, ↓w_iconst, ↓w_iadd, ↓w_iaload, ↓w_saload, ↓w_iv, ↓pm_cl2_3, ↓w_aload_2, ↓w_naload_2, ↓w_iceq, ↓w_zret, sh0, sh68_0, nI_add, nI_p2, nI_p3, nI_p4, nI_p5]
  have w := hw I2 J2 hR2
  first | exact ⟨fun _ => w, fun z => absurd rfl z⟩ | exact w | grind
theorem lw_b50 (hd : 30 ≤ d) (hL : g.2.2.2.1 ≤ 3072) (hi : i + 5 < g.2.2.2.1) (hk1 : k.1 ≤ R.cells) (hk2 : k.2 ≤ R.slots) (hR : Rel I J) (hw : ∀ I2 J2, Rel I2 J2 → UL g d R Q 61 i I2 J2 k) : UL g d R Q 50 i I J k := by
  refine bL_law_50 ?_
  simp (disch := first | omega | decide) only [w_nl0, w_nli, w_nlr, ↓w_ts1, ↓w_ts0, w_rcv, w_rfv, w_cs, true_and, and_true, List.length_nil, List.length_cons, Nat.reduceAdd, Nat.reduceLeDiff, Nat.zero_le, Nat.reduceLT, ↓w_nil, ix_nI, nI_leP, nI_ltP, nI_eqP, nI_1, ↓i_inN, i_inN, l_le, l_lt, l_eq, r_le, r_lt, r_eq, ↓w_aload_1, ↓w_naload_1, ↓w_aload_0, ↓w_naload_0, ↓w_iload_3, ↓w_iconst, ↓w_iadd, ↓w_iaload, ↓w_saload, ↓w_iv, ↓pm_cl2_3, ↓w_aload_2, ↓w_naload_2, ↓w_iceq, ↓w_zret, sh0, sh68_0, nI_add, nI_p2, nI_p3, nI_p4, nI_p5]
  repeat' (first | apply And.intro | omega | assumption | exact vl)
  refine pm_C_mono (p_plan (by omega) I J hR) (fun v S1 I1 J1 h1 => ?_)
  obtain ⟨rfl, _, h2⟩ := h1
  simp (disch := first | omega | decide) only [w_nl0, w_nli, w_nlr, ↓w_ts1, ↓w_ts0, w_rcv, w_rfv, w_cs, true_and, and_true, List.length_nil, List.length_cons, Nat.reduceAdd, Nat.reduceLeDiff, Nat.zero_le, Nat.reduceLT, ↓w_nil, ix_nI, nI_leP, nI_ltP, nI_eqP, nI_1, ↓i_inN, i_inN, l_le, l_lt, l_eq, r_le, r_lt, r_eq, ↓w_aload_1, ↓w_naload_1, ↓w_aload_0, ↓w_naload_0, ↓w_iload_3, ↓w_iconst, ↓w_iadd, ↓w_iaload, ↓w_saload, ↓w_iv, ↓pm_cl2_3, ↓w_aload_2, ↓w_naload_2, ↓w_iceq, ↓w_zret, sh0, sh68_0, nI_add, nI_p2, nI_p3, nI_p4, nI_p5]
  repeat' (first | apply And.intro | omega | assumption | exact vl)
  refine pm_C_mono h2 (fun w S2 I2 J2 h3 => ?_)
  obtain ⟨e, rfl, _, hR2⟩ := h3
  obtain ⟨rfl, a, rfl⟩ := ty_int e rfl
  simp (disch := first | omega | decide) only [w_nl0, w_nli, w_nlr, ↓w_ts1, ↓w_ts0, w_rcv, w_rfv, w_cs, true_and, and_true, List.length_nil, List.length_cons, Nat.reduceAdd, Nat.reduceLeDiff, Nat.zero_le, Nat.reduceLT, ↓w_nil, ix_nI, nI_leP, nI_ltP, nI_eqP, nI_1, ↓i_inN, i_inN, l_le, l_lt, l_eq, r_le, r_lt, r_eq, ↓w_aload_1, ↓w_naload_1, ↓w_aload_0, ↓w_naload_0, ↓w_iload_3, ↓w_iconst, ↓w_iadd, ↓w_iaload, ↓w_saload, ↓w_iv, ↓pm_cl2_3, ↓w_aload_2, ↓w_naload_2, ↓w_iceq, ↓w_zret, sh0, sh68_0, nI_add, nI_p2, nI_p3, nI_p4, nI_p5]
  have w := hw I2 J2 hR2
  first | exact ⟨fun _ => w, fun z => absurd rfl z⟩ | exact w | grind
theorem lw_b51 (hd : 30 ≤ d) (hL : g.2.2.2.1 ≤ 3072) (hi : i + 5 < g.2.2.2.1) (hk1 : k.1 ≤ R.cells) (hk2 : k.2 ≤ R.slots) (hR : Rel I J) (hw : ∀ I2 J2, Rel I2 J2 → UL g d R Q 61 i I2 J2 k) : UL g d R Q 51 i I J k := by
  refine bL_law_51 ?_
  simp (disch := first | omega | decide) only [w_nl0, w_nli, w_nlr, ↓w_ts1, ↓w_ts0, w_rcv, w_rfv, w_cs, true_and, and_true, List.length_nil, List.length_cons, Nat.reduceAdd, Nat.reduceLeDiff, Nat.zero_le, Nat.reduceLT, ↓w_nil, ix_nI, nI_leP, nI_ltP, nI_eqP, nI_1, ↓i_inN, i_inN, l_le, l_lt, l_eq, r_le, r_lt, r_eq, ↓w_aload_1, ↓w_naload_1, ↓w_aload_0, ↓w_naload_0, ↓w_iload_3, ↓w_iconst, ↓w_iadd, ↓w_iaload, ↓w_saload, ↓w_iv, ↓pm_cl2_2, ↓w_aload_2, ↓w_naload_2, ↓w_iceq, ↓w_zret, sh0, sh68_0, nI_add, nI_p2, nI_p3, nI_p4, nI_p5]
  repeat' (first | apply And.intro | omega | assumption | exact vl)
  refine pm_C_mono (p_planned (by omega) I J hR) (fun v S1 I1 J1 h1 => ?_)
  obtain ⟨rfl, _, h2⟩ := h1
  simp (disch := first | omega | decide) only [w_nl0, w_nli, w_nlr, ↓w_ts1, ↓w_ts0, w_rcv, w_rfv, w_cs, true_and, and_true, List.length_nil, List.length_cons, Nat.reduceAdd, Nat.reduceLeDiff, Nat.zero_le, Nat.reduceLT, ↓w_nil, ix_nI, nI_leP, nI_ltP, nI_eqP, nI_1, ↓i_inN, i_inN, l_le, l_lt, l_eq, r_le, r_lt, r_eq, ↓w_aload_1, ↓w_naload_1, ↓w_aload_0, ↓w_naload_0, ↓w_iload_3, ↓w_iconst, ↓w_iadd, ↓w_iaload, ↓w_saload, ↓w_iv, ↓pm_cl2_2, ↓w_aload_2, ↓w_naload_2, ↓w_iceq, ↓w_zret, sh0, sh68_0, nI_add, nI_p2, nI_p3, nI_p4, nI_p5]
  repeat' (first | apply And.intro | omega | assumption | exact vl)
  refine pm_C_mono h2 (fun w S2 I2 J2 h3 => ?_)
  obtain ⟨e, rfl, _, hR2⟩ := h3
  obtain ⟨rfl, a, rfl⟩ := ty_int e rfl
  simp (disch := first | omega | decide) only [w_nl0, w_nli, w_nlr, ↓w_ts1, ↓w_ts0, w_rcv, w_rfv, w_cs, true_and, and_true, List.length_nil, List.length_cons, Nat.reduceAdd, Nat.reduceLeDiff, Nat.zero_le, Nat.reduceLT, ↓w_nil, ix_nI, nI_leP, nI_ltP, nI_eqP, nI_1, ↓i_inN, i_inN, l_le, l_lt, l_eq, r_le, r_lt, r_eq, ↓w_aload_1, ↓w_naload_1, ↓w_aload_0, ↓w_naload_0, ↓w_iload_3, ↓w_iconst, ↓w_iadd, ↓w_iaload, ↓w_saload, ↓w_iv, ↓pm_cl2_2, ↓w_aload_2, ↓w_naload_2, ↓w_iceq, ↓w_zret, sh0, sh68_0, nI_add, nI_p2, nI_p3, nI_p4, nI_p5]
  have w := hw I2 J2 hR2
  first | exact ⟨fun _ => w, fun z => absurd rfl z⟩ | exact w | grind
theorem lw_b52 (hd : 30 ≤ d) (hL : g.2.2.2.1 ≤ 3072) (hi : i + 5 < g.2.2.2.1) (hk1 : k.1 ≤ R.cells) (hk2 : k.2 ≤ R.slots) (hR : Rel I J) (hw : ∀ I2 J2, Rel I2 J2 → UL g d R Q 61 i I2 J2 k) : UL g d R Q 52 i I J k := by
  refine bL_law_52 ?_
  simp (disch := first | omega | decide) only [w_nl0, w_nli, w_nlr, ↓w_ts1, ↓w_ts0, w_rcv, w_rfv, w_cs, true_and, and_true, List.length_nil, List.length_cons, Nat.reduceAdd, Nat.reduceLeDiff, Nat.zero_le, Nat.reduceLT, ↓w_nil, ix_nI, nI_leP, nI_ltP, nI_eqP, nI_1, ↓i_inN, i_inN, l_le, l_lt, l_eq, r_le, r_lt, r_eq, ↓w_aload_1, ↓w_naload_1, ↓w_aload_0, ↓w_naload_0, ↓w_iload_3, ↓w_iconst, ↓w_iadd, ↓w_iaload, ↓w_saload, ↓w_iv, ↓pm_cl2_2, ↓w_aload_2, ↓w_naload_2, ↓w_iceq, ↓w_zret, sh0, sh68_0, nI_add, nI_p2, nI_p3, nI_p4, nI_p5]
  repeat' (first | apply And.intro | omega | assumption | exact vl)
  refine pm_C_mono (p_guess (by omega) I J hR) (fun v S1 I1 J1 h1 => ?_)
  obtain ⟨rfl, _, h2⟩ := h1
  simp (disch := first | omega | decide) only [w_nl0, w_nli, w_nlr, ↓w_ts1, ↓w_ts0, w_rcv, w_rfv, w_cs, true_and, and_true, List.length_nil, List.length_cons, Nat.reduceAdd, Nat.reduceLeDiff, Nat.zero_le, Nat.reduceLT, ↓w_nil, ix_nI, nI_leP, nI_ltP, nI_eqP, nI_1, ↓i_inN, i_inN, l_le, l_lt, l_eq, r_le, r_lt, r_eq, ↓w_aload_1, ↓w_naload_1, ↓w_aload_0, ↓w_naload_0, ↓w_iload_3, ↓w_iconst, ↓w_iadd, ↓w_iaload, ↓w_saload, ↓w_iv, ↓pm_cl2_2, ↓w_aload_2, ↓w_naload_2, ↓w_iceq, ↓w_zret, sh0, sh68_0, nI_add, nI_p2, nI_p3, nI_p4, nI_p5]
  repeat' (first | apply And.intro | omega | assumption | exact vl)
  refine pm_C_mono h2 (fun w S2 I2 J2 h3 => ?_)
  obtain ⟨e, rfl, _, hR2⟩ := h3
  obtain ⟨rfl, a, rfl⟩ := ty_int e rfl
  simp (disch := first | omega | decide) only [w_nl0, w_nli, w_nlr, ↓w_ts1, ↓w_ts0, w_rcv, w_rfv, w_cs, true_and, and_true, List.length_nil, List.length_cons, Nat.reduceAdd, Nat.reduceLeDiff, Nat.zero_le, Nat.reduceLT, ↓w_nil, ix_nI, nI_leP, nI_ltP, nI_eqP, nI_1, ↓i_inN, i_inN, l_le, l_lt, l_eq, r_le, r_lt, r_eq, ↓w_aload_1, ↓w_naload_1, ↓w_aload_0, ↓w_naload_0, ↓w_iload_3, ↓w_iconst, ↓w_iadd, ↓w_iaload, ↓w_saload, ↓w_iv, ↓pm_cl2_2, ↓w_aload_2, ↓w_naload_2, ↓w_iceq, ↓w_zret, sh0, sh68_0, nI_add, nI_p2, nI_p3, nI_p4, nI_p5]
  have w := hw I2 J2 hR2
  first | exact ⟨fun _ => w, fun z => absurd rfl z⟩ | exact w | grind
theorem lw_b53 (hd : 30 ≤ d) (hL : g.2.2.2.1 ≤ 3072) (hi : i + 5 < g.2.2.2.1) (hk1 : k.1 ≤ R.cells) (hk2 : k.2 ≤ R.slots) (hR : Rel I J) (hw : ∀ I2 J2, Rel I2 J2 → UL g d R Q 61 i I2 J2 k) : UL g d R Q 53 i I J k := by
  refine bL_law_53 ?_
  simp (disch := first | omega | decide) only [w_nl0, w_nli, w_nlr, ↓w_ts1, ↓w_ts0, w_rcv, w_rfv, w_cs, true_and, and_true, List.length_nil, List.length_cons, Nat.reduceAdd, Nat.reduceLeDiff, Nat.zero_le, Nat.reduceLT, ↓w_nil, ix_nI, nI_leP, nI_ltP, nI_eqP, nI_1, ↓i_inN, i_inN, l_le, l_lt, l_eq, r_le, r_lt, r_eq, ↓w_aload_1, ↓w_naload_1, ↓w_aload_0, ↓w_naload_0, ↓w_iload_3, ↓w_iconst, ↓w_iadd, ↓w_iaload, ↓w_saload, ↓w_iv, ↓pm_cl2_5, ↓w_aload_2, ↓w_naload_2, ↓w_iceq, ↓w_zret, sh0, sh68_0, nI_add, nI_p2, nI_p3, nI_p4, nI_p5]
  repeat' (first | apply And.intro | omega | assumption | exact vl)
  refine pm_C_mono (p_cost (by omega) I J hR) (fun v S1 I1 J1 h1 => ?_)
  obtain ⟨rfl, _, h2⟩ := h1
  simp (disch := first | omega | decide) only [w_nl0, w_nli, w_nlr, ↓w_ts1, ↓w_ts0, w_rcv, w_rfv, w_cs, true_and, and_true, List.length_nil, List.length_cons, Nat.reduceAdd, Nat.reduceLeDiff, Nat.zero_le, Nat.reduceLT, ↓w_nil, ix_nI, nI_leP, nI_ltP, nI_eqP, nI_1, ↓i_inN, i_inN, l_le, l_lt, l_eq, r_le, r_lt, r_eq, ↓w_aload_1, ↓w_naload_1, ↓w_aload_0, ↓w_naload_0, ↓w_iload_3, ↓w_iconst, ↓w_iadd, ↓w_iaload, ↓w_saload, ↓w_iv, ↓pm_cl2_5, ↓w_aload_2, ↓w_naload_2, ↓w_iceq, ↓w_zret, sh0, sh68_0, nI_add, nI_p2, nI_p3, nI_p4, nI_p5]
  repeat' (first | apply And.intro | omega | assumption | exact vl)
  refine pm_C_mono h2 (fun w S2 I2 J2 h3 => ?_)
  obtain ⟨e, rfl, _, hR2⟩ := h3
  obtain ⟨rfl, a, rfl⟩ := ty_int e rfl
  simp (disch := first | omega | decide) only [w_nl0, w_nli, w_nlr, ↓w_ts1, ↓w_ts0, w_rcv, w_rfv, w_cs, true_and, and_true, List.length_nil, List.length_cons, Nat.reduceAdd, Nat.reduceLeDiff, Nat.zero_le, Nat.reduceLT, ↓w_nil, ix_nI, nI_leP, nI_ltP, nI_eqP, nI_1, ↓i_inN, i_inN, l_le, l_lt, l_eq, r_le, r_lt, r_eq, ↓w_aload_1, ↓w_naload_1, ↓w_aload_0, ↓w_naload_0, ↓w_iload_3, ↓w_iconst, ↓w_iadd, ↓w_iaload, ↓w_saload, ↓w_iv, ↓pm_cl2_5, ↓w_aload_2, ↓w_naload_2, ↓w_iceq, ↓w_zret, sh0, sh68_0, nI_add, nI_p2, nI_p3, nI_p4, nI_p5]
  have w := hw I2 J2 hR2
  first | exact ⟨fun _ => w, fun z => absurd rfl z⟩ | exact w | grind
theorem lw_b54 (hd : 30 ≤ d) (hL : g.2.2.2.1 ≤ 3072) (hi : i + 5 < g.2.2.2.1) (hk1 : k.1 ≤ R.cells) (hk2 : k.2 ≤ R.slots) (hR : Rel I J) (hw : ∀ I2 J2, Rel I2 J2 → UL g d R Q 61 i I2 J2 k) : UL g d R Q 54 i I J k := by
  refine bL_law_54 ?_
  simp (disch := first | omega | decide) only [w_nl0, w_nli, w_nlr, ↓w_ts1, ↓w_ts0, w_rcv, w_rfv, w_cs, true_and, and_true, List.length_nil, List.length_cons, Nat.reduceAdd, Nat.reduceLeDiff, Nat.zero_le, Nat.reduceLT, ↓w_nil, ix_nI, nI_leP, nI_ltP, nI_eqP, nI_1, ↓i_inN, i_inN, l_le, l_lt, l_eq, r_le, r_lt, r_eq, ↓w_aload_1, ↓w_naload_1, ↓w_iv, ↓pm_cl2_1, ↓w_aload_2, ↓w_naload_2, ↓w_iceq, ↓w_iconst, ↓w_zret, sh0, sh68_0, nI_add, nI_p2, nI_p3, nI_p4, nI_p5]
  repeat' (first | apply And.intro | omega | assumption | exact vl)
  refine pm_C_mono (p_asked (by omega) I J hR) (fun v S1 I1 J1 h1 => ?_)
  obtain ⟨rfl, _, h2⟩ := h1
  simp (disch := first | omega | decide) only [w_nl0, w_nli, w_nlr, ↓w_ts1, ↓w_ts0, w_rcv, w_rfv, w_cs, true_and, and_true, List.length_nil, List.length_cons, Nat.reduceAdd, Nat.reduceLeDiff, Nat.zero_le, Nat.reduceLT, ↓w_nil, ix_nI, nI_leP, nI_ltP, nI_eqP, nI_1, ↓i_inN, i_inN, l_le, l_lt, l_eq, r_le, r_lt, r_eq, ↓w_aload_1, ↓w_naload_1, ↓w_iv, ↓pm_cl2_1, ↓w_aload_2, ↓w_naload_2, ↓w_iceq, ↓w_iconst, ↓w_zret, sh0, sh68_0, nI_add, nI_p2, nI_p3, nI_p4, nI_p5]
  repeat' (first | apply And.intro | omega | assumption | exact vl)
  refine pm_C_mono h2 (fun w S2 I2 J2 h3 => ?_)
  obtain ⟨e, rfl, _, hR2⟩ := h3
  obtain ⟨rfl, a, rfl⟩ := ty_int e rfl
  simp (disch := first | omega | decide) only [w_nl0, w_nli, w_nlr, ↓w_ts1, ↓w_ts0, w_rcv, w_rfv, w_cs, true_and, and_true, List.length_nil, List.length_cons, Nat.reduceAdd, Nat.reduceLeDiff, Nat.zero_le, Nat.reduceLT, ↓w_nil, ix_nI, nI_leP, nI_ltP, nI_eqP, nI_1, ↓i_inN, i_inN, l_le, l_lt, l_eq, r_le, r_lt, r_eq, ↓w_aload_1, ↓w_naload_1, ↓w_iv, ↓pm_cl2_1, ↓w_aload_2, ↓w_naload_2, ↓w_iceq, ↓w_iconst, ↓w_zret, sh0, sh68_0, nI_add, nI_p2, nI_p3, nI_p4, nI_p5]
  have w := hw I2 J2 hR2
  first | exact ⟨fun _ => w, fun z => absurd rfl z⟩ | exact w | grind
theorem lw_b55 (hd : 30 ≤ d) (hL : g.2.2.2.1 ≤ 3072) (hi : i + 5 < g.2.2.2.1) (hk1 : k.1 ≤ R.cells) (hk2 : k.2 ≤ R.slots) (hR : Rel I J) (hw : ∀ I2 J2, Rel I2 J2 → UL g d R Q 61 i I2 J2 k) : UL g d R Q 55 i I J k := by
  refine bL_law_55 ?_
  simp (disch := first | omega | decide) only [w_nl0, w_nli, w_nlr, ↓w_ts1, ↓w_ts0, w_rcv, w_rfv, w_cs, true_and, and_true, List.length_nil, List.length_cons, Nat.reduceAdd, Nat.reduceLeDiff, Nat.zero_le, Nat.reduceLT, ↓w_nil, ix_nI, nI_leP, nI_ltP, nI_eqP, nI_1, ↓i_inN, i_inN, l_le, l_lt, l_eq, r_le, r_lt, r_eq, ↓w_aload_1, ↓w_naload_1, ↓w_iv, ↓pm_cl2_1, ↓w_aload_2, ↓w_naload_2, ↓w_lcmp, ↓w_ifeq, ↓w_iconst, ↓w_zret, sh0, sh68_0, nI_add, nI_p2, nI_p3, nI_p4, nI_p5]
  repeat' (first | apply And.intro | omega | assumption | exact vl)
  refine pm_C_mono (p_upper (by omega) I J hR) (fun v S1 I1 J1 h1 => ?_)
  obtain ⟨rfl, _, h2⟩ := h1
  simp (disch := first | omega | decide) only [w_nl0, w_nli, w_nlr, ↓w_ts1, ↓w_ts0, w_rcv, w_rfv, w_cs, true_and, and_true, List.length_nil, List.length_cons, Nat.reduceAdd, Nat.reduceLeDiff, Nat.zero_le, Nat.reduceLT, ↓w_nil, ix_nI, nI_leP, nI_ltP, nI_eqP, nI_1, ↓i_inN, i_inN, l_le, l_lt, l_eq, r_le, r_lt, r_eq, ↓w_aload_1, ↓w_naload_1, ↓w_iv, ↓pm_cl2_1, ↓w_aload_2, ↓w_naload_2, ↓w_lcmp, ↓w_ifeq, ↓w_iconst, ↓w_zret, sh0, sh68_0, nI_add, nI_p2, nI_p3, nI_p4, nI_p5]
  repeat' (first | apply And.intro | omega | assumption | exact vl)
  refine pm_C_mono h2 (fun w S2 I2 J2 h3 => ?_)
  obtain ⟨e, rfl, _, hR2⟩ := h3
  obtain ⟨rfl, a, rfl⟩ := ty_long e rfl
  simp (disch := first | omega | decide) only [w_nl0, w_nli, w_nlr, ↓w_ts1, ↓w_ts0, w_rcv, w_rfv, w_cs, true_and, and_true, List.length_nil, List.length_cons, Nat.reduceAdd, Nat.reduceLeDiff, Nat.zero_le, Nat.reduceLT, ↓w_nil, ix_nI, nI_leP, nI_ltP, nI_eqP, nI_1, ↓i_inN, i_inN, l_le, l_lt, l_eq, r_le, r_lt, r_eq, ↓w_aload_1, ↓w_naload_1, ↓w_iv, ↓pm_cl2_1, ↓w_aload_2, ↓w_naload_2, ↓w_lcmp, ↓w_ifeq, ↓w_iconst, ↓w_zret, sh0, sh68_0, nI_add, nI_p2, nI_p3, nI_p4, nI_p5, lg_eq0]
  have w := hw I2 J2 hR2
  first | exact ⟨fun _ => w, fun z => absurd rfl z⟩ | exact w | grind
theorem lw_b56 (hd : 30 ≤ d) (hL : g.2.2.2.1 ≤ 3072) (hi : i + 5 < g.2.2.2.1) (hk1 : k.1 ≤ R.cells) (hk2 : k.2 ≤ R.slots) (hR : Rel I J) (hw : ∀ I2 J2, Rel I2 J2 → UL g d R Q 61 i I2 J2 k) : UL g d R Q 56 i I J k := by
  refine bL_law_56 ?_
  simp (disch := first | omega | decide) only [w_nl0, w_nli, w_nlr, ↓w_ts1, ↓w_ts0, w_rcv, w_rfv, w_cs, true_and, and_true, List.length_nil, List.length_cons, Nat.reduceAdd, Nat.reduceLeDiff, Nat.zero_le, Nat.reduceLT, ↓w_nil, ix_nI, nI_leP, nI_ltP, nI_eqP, nI_1, ↓i_inN, i_inN, l_le, l_lt, l_eq, r_le, r_lt, r_eq, ↓w_aload_1, ↓w_naload_1, ↓w_iv, ↓pm_cl2_1, ↓w_aload_2, ↓w_naload_2, ↓w_lcmp, ↓w_ifeq, ↓w_iconst, ↓w_zret, sh0, sh68_0, nI_add, nI_p2, nI_p3, nI_p4, nI_p5]
  repeat' (first | apply And.intro | omega | assumption | exact vl)
  refine pm_C_mono (p_lower (by omega) I J hR) (fun v S1 I1 J1 h1 => ?_)
  obtain ⟨rfl, _, h2⟩ := h1
  simp (disch := first | omega | decide) only [w_nl0, w_nli, w_nlr, ↓w_ts1, ↓w_ts0, w_rcv, w_rfv, w_cs, true_and, and_true, List.length_nil, List.length_cons, Nat.reduceAdd, Nat.reduceLeDiff, Nat.zero_le, Nat.reduceLT, ↓w_nil, ix_nI, nI_leP, nI_ltP, nI_eqP, nI_1, ↓i_inN, i_inN, l_le, l_lt, l_eq, r_le, r_lt, r_eq, ↓w_aload_1, ↓w_naload_1, ↓w_iv, ↓pm_cl2_1, ↓w_aload_2, ↓w_naload_2, ↓w_lcmp, ↓w_ifeq, ↓w_iconst, ↓w_zret, sh0, sh68_0, nI_add, nI_p2, nI_p3, nI_p4, nI_p5]
  repeat' (first | apply And.intro | omega | assumption | exact vl)
  refine pm_C_mono h2 (fun w S2 I2 J2 h3 => ?_)
  obtain ⟨e, rfl, _, hR2⟩ := h3
  obtain ⟨rfl, a, rfl⟩ := ty_long e rfl
  simp (disch := first | omega | decide) only [w_nl0, w_nli, w_nlr, ↓w_ts1, ↓w_ts0, w_rcv, w_rfv, w_cs, true_and, and_true, List.length_nil, List.length_cons, Nat.reduceAdd, Nat.reduceLeDiff, Nat.zero_le, Nat.reduceLT, ↓w_nil, ix_nI, nI_leP, nI_ltP, nI_eqP, nI_1, ↓i_inN, i_inN, l_le, l_lt, l_eq, r_le, r_lt, r_eq, ↓w_aload_1, ↓w_naload_1, ↓w_iv, ↓pm_cl2_1, ↓w_aload_2, ↓w_naload_2, ↓w_lcmp, ↓w_ifeq, ↓w_iconst, ↓w_zret, sh0, sh68_0, nI_add, nI_p2, nI_p3, nI_p4, nI_p5, lg_eq0]
  have w := hw I2 J2 hR2
  first | exact ⟨fun _ => w, fun z => absurd rfl z⟩ | exact w | grind
theorem lw_b57 (hd : 30 ≤ d) (hL : g.2.2.2.1 ≤ 3072) (hi : i + 5 < g.2.2.2.1) (hk1 : k.1 ≤ R.cells) (hk2 : k.2 ≤ R.slots) (hR : Rel I J) (hw : ∀ I2 J2, Rel I2 J2 → UL g d R Q 61 i I2 J2 k) : UL g d R Q 57 i I J k := by
  refine bL_law_57 ?_
  simp (disch := first | omega | decide) only [w_nl0, w_nli, w_nlr, ↓w_ts1, ↓w_ts0, w_rcv, w_rfv, w_cs, true_and, and_true, List.length_nil, List.length_cons, Nat.reduceAdd, Nat.reduceLeDiff, Nat.zero_le, Nat.reduceLT, ↓w_nil, ix_nI, nI_leP, nI_ltP, nI_eqP, nI_1, ↓i_inN, i_inN, l_le, l_lt, l_eq, r_le, r_lt, r_eq, ↓w_aload_1, ↓w_naload_1, ↓w_aload_0, ↓w_naload_0, ↓w_iload_3, ↓w_iconst, ↓w_iadd, ↓w_iaload, ↓w_saload, ↓w_iv, ↓pm_cl2_2, ↓w_aload_2, ↓w_naload_2, ↓w_iceq, ↓w_zret, sh0, sh68_0, nI_add, nI_p2, nI_p3, nI_p4, nI_p5]
  repeat' (first | apply And.intro | omega | assumption | exact vl)
  refine pm_C_mono (p_count (by omega) I J hR) (fun v S1 I1 J1 h1 => ?_)
  obtain ⟨rfl, _, h2⟩ := h1
  simp (disch := first | omega | decide) only [w_nl0, w_nli, w_nlr, ↓w_ts1, ↓w_ts0, w_rcv, w_rfv, w_cs, true_and, and_true, List.length_nil, List.length_cons, Nat.reduceAdd, Nat.reduceLeDiff, Nat.zero_le, Nat.reduceLT, ↓w_nil, ix_nI, nI_leP, nI_ltP, nI_eqP, nI_1, ↓i_inN, i_inN, l_le, l_lt, l_eq, r_le, r_lt, r_eq, ↓w_aload_1, ↓w_naload_1, ↓w_aload_0, ↓w_naload_0, ↓w_iload_3, ↓w_iconst, ↓w_iadd, ↓w_iaload, ↓w_saload, ↓w_iv, ↓pm_cl2_2, ↓w_aload_2, ↓w_naload_2, ↓w_iceq, ↓w_zret, sh0, sh68_0, nI_add, nI_p2, nI_p3, nI_p4, nI_p5]
  repeat' (first | apply And.intro | omega | assumption | exact vl)
  refine pm_C_mono h2 (fun w S2 I2 J2 h3 => ?_)
  obtain ⟨e, rfl, _, hR2⟩ := h3
  obtain ⟨rfl, a, rfl⟩ := ty_int e rfl
  simp (disch := first | omega | decide) only [w_nl0, w_nli, w_nlr, ↓w_ts1, ↓w_ts0, w_rcv, w_rfv, w_cs, true_and, and_true, List.length_nil, List.length_cons, Nat.reduceAdd, Nat.reduceLeDiff, Nat.zero_le, Nat.reduceLT, ↓w_nil, ix_nI, nI_leP, nI_ltP, nI_eqP, nI_1, ↓i_inN, i_inN, l_le, l_lt, l_eq, r_le, r_lt, r_eq, ↓w_aload_1, ↓w_naload_1, ↓w_aload_0, ↓w_naload_0, ↓w_iload_3, ↓w_iconst, ↓w_iadd, ↓w_iaload, ↓w_saload, ↓w_iv, ↓pm_cl2_2, ↓w_aload_2, ↓w_naload_2, ↓w_iceq, ↓w_zret, sh0, sh68_0, nI_add, nI_p2, nI_p3, nI_p4, nI_p5]
  have w := hw I2 J2 hR2
  first | exact ⟨fun _ => w, fun z => absurd rfl z⟩ | exact w | grind
theorem lw_b58 (hd : 30 ≤ d) (hL : g.2.2.2.1 ≤ 3072) (hi : i + 5 < g.2.2.2.1) (hk1 : k.1 ≤ R.cells) (hk2 : k.2 ≤ R.slots) (hR : Rel I J) (hw : ∀ I2 J2, Rel I2 J2 → UL g d R Q 61 i I2 J2 k) : UL g d R Q 58 i I J k := by
  refine bL_law_58 ?_
  simp (disch := first | omega | decide) only [w_nl0, w_nli, w_nlr, ↓w_ts1, ↓w_ts0, w_rcv, w_rfv, w_cs, true_and, and_true, List.length_nil, List.length_cons, Nat.reduceAdd, Nat.reduceLeDiff, Nat.zero_le, Nat.reduceLT, ↓w_nil, ix_nI, nI_leP, nI_ltP, nI_eqP, nI_1, ↓i_inN, i_inN, l_le, l_lt, l_eq, r_le, r_lt, r_eq, ↓w_aload_1, ↓w_naload_1, ↓w_iv, ↓pm_cl2_1, ↓w_aload_2, ↓w_naload_2, ↓w_iceq, ↓w_iconst, ↓w_zret, sh0, sh68_0, nI_add, nI_p2, nI_p3, nI_p4, nI_p5]
  repeat' (first | apply And.intro | omega | assumption | exact vl)
  refine pm_C_mono (p_finding (by omega) I J hR) (fun v S1 I1 J1 h1 => ?_)
  obtain ⟨rfl, _, h2⟩ := h1
  simp (disch := first | omega | decide) only [w_nl0, w_nli, w_nlr, ↓w_ts1, ↓w_ts0, w_rcv, w_rfv, w_cs, true_and, and_true, List.length_nil, List.length_cons, Nat.reduceAdd, Nat.reduceLeDiff, Nat.zero_le, Nat.reduceLT, ↓w_nil, ix_nI, nI_leP, nI_ltP, nI_eqP, nI_1, ↓i_inN, i_inN, l_le, l_lt, l_eq, r_le, r_lt, r_eq, ↓w_aload_1, ↓w_naload_1, ↓w_iv, ↓pm_cl2_1, ↓w_aload_2, ↓w_naload_2, ↓w_iceq, ↓w_iconst, ↓w_zret, sh0, sh68_0, nI_add, nI_p2, nI_p3, nI_p4, nI_p5]
  repeat' (first | apply And.intro | omega | assumption | exact vl)
  refine pm_C_mono h2 (fun w S2 I2 J2 h3 => ?_)
  obtain ⟨e, rfl, _, hR2⟩ := h3
  obtain ⟨rfl, a, rfl⟩ := ty_int e rfl
  simp (disch := first | omega | decide) only [w_nl0, w_nli, w_nlr, ↓w_ts1, ↓w_ts0, w_rcv, w_rfv, w_cs, true_and, and_true, List.length_nil, List.length_cons, Nat.reduceAdd, Nat.reduceLeDiff, Nat.zero_le, Nat.reduceLT, ↓w_nil, ix_nI, nI_leP, nI_ltP, nI_eqP, nI_1, ↓i_inN, i_inN, l_le, l_lt, l_eq, r_le, r_lt, r_eq, ↓w_aload_1, ↓w_naload_1, ↓w_iv, ↓pm_cl2_1, ↓w_aload_2, ↓w_naload_2, ↓w_iceq, ↓w_iconst, ↓w_zret, sh0, sh68_0, nI_add, nI_p2, nI_p3, nI_p4, nI_p5]
  have w := hw I2 J2 hR2
  first | exact ⟨fun _ => w, fun z => absurd rfl z⟩ | exact w | grind
theorem lw_b59 (hd : 30 ≤ d) (hL : g.2.2.2.1 ≤ 3072) (hi : i + 5 < g.2.2.2.1) (hk1 : k.1 ≤ R.cells) (hk2 : k.2 ≤ R.slots) (hR : Rel I J) (hw : ∀ I2 J2, Rel I2 J2 → UL g d R Q 61 i I2 J2 k) : UL g d R Q 59 i I J k := by
  refine bL_law_59 ?_
  simp (disch := first | omega | decide) only [w_nl0, w_nli, w_nlr, ↓w_ts1, ↓w_ts0, w_rcv, w_rfv, w_cs, true_and, and_true, List.length_nil, List.length_cons, Nat.reduceAdd, Nat.reduceLeDiff, Nat.zero_le, Nat.reduceLT, ↓w_nil, ix_nI, nI_leP, nI_ltP, nI_eqP, nI_1, ↓i_inN, i_inN, l_le, l_lt, l_eq, r_le, r_lt, r_eq, ↓w_aload_1, ↓w_naload_1, ↓w_aload_0, ↓w_naload_0, ↓w_iload_3, ↓w_iconst, ↓w_iadd, ↓w_iaload, ↓w_saload, ↓w_iv, ↓pm_cl2_2, ↓w_aload_2, ↓w_naload_2, ↓w_iceq, ↓w_zret, sh0, sh68_0, nI_add, nI_p2, nI_p3, nI_p4, nI_p5]
  repeat' (first | apply And.intro | omega | assumption | exact vl)
  refine pm_C_mono (p_findings (by omega) I J hR) (fun v S1 I1 J1 h1 => ?_)
  obtain ⟨rfl, _, h2⟩ := h1
  simp (disch := first | omega | decide) only [w_nl0, w_nli, w_nlr, ↓w_ts1, ↓w_ts0, w_rcv, w_rfv, w_cs, true_and, and_true, List.length_nil, List.length_cons, Nat.reduceAdd, Nat.reduceLeDiff, Nat.zero_le, Nat.reduceLT, ↓w_nil, ix_nI, nI_leP, nI_ltP, nI_eqP, nI_1, ↓i_inN, i_inN, l_le, l_lt, l_eq, r_le, r_lt, r_eq, ↓w_aload_1, ↓w_naload_1, ↓w_aload_0, ↓w_naload_0, ↓w_iload_3, ↓w_iconst, ↓w_iadd, ↓w_iaload, ↓w_saload, ↓w_iv, ↓pm_cl2_2, ↓w_aload_2, ↓w_naload_2, ↓w_iceq, ↓w_zret, sh0, sh68_0, nI_add, nI_p2, nI_p3, nI_p4, nI_p5]
  repeat' (first | apply And.intro | omega | assumption | exact vl)
  refine pm_C_mono h2 (fun w S2 I2 J2 h3 => ?_)
  obtain ⟨e, rfl, _, hR2⟩ := h3
  obtain ⟨rfl, a, rfl⟩ := ty_int e rfl
  simp (disch := first | omega | decide) only [w_nl0, w_nli, w_nlr, ↓w_ts1, ↓w_ts0, w_rcv, w_rfv, w_cs, true_and, and_true, List.length_nil, List.length_cons, Nat.reduceAdd, Nat.reduceLeDiff, Nat.zero_le, Nat.reduceLT, ↓w_nil, ix_nI, nI_leP, nI_ltP, nI_eqP, nI_1, ↓i_inN, i_inN, l_le, l_lt, l_eq, r_le, r_lt, r_eq, ↓w_aload_1, ↓w_naload_1, ↓w_aload_0, ↓w_naload_0, ↓w_iload_3, ↓w_iconst, ↓w_iadd, ↓w_iaload, ↓w_saload, ↓w_iv, ↓pm_cl2_2, ↓w_aload_2, ↓w_naload_2, ↓w_iceq, ↓w_zret, sh0, sh68_0, nI_add, nI_p2, nI_p3, nI_p4, nI_p5]
  have w := hw I2 J2 hR2
  first | exact ⟨fun _ => w, fun z => absurd rfl z⟩ | exact w | grind
theorem lw_b60 (hd : 30 ≤ d) (hL : g.2.2.2.1 ≤ 3072) (hi : i + 5 < g.2.2.2.1) (hk1 : k.1 ≤ R.cells) (hk2 : k.2 ≤ R.slots) (hR : Rel I J) (hw : ∀ I2 J2, Rel I2 J2 → UL g d R Q 61 i I2 J2 k) : UL g d R Q 60 i I J k := by
  refine bL_law_60 ?_
  simp (disch := first | omega | decide) only [w_nl0, w_nli, w_nlr, ↓w_ts1, ↓w_ts0, w_rcv, w_rfv, w_cs, true_and, and_true, List.length_nil, List.length_cons, Nat.reduceAdd, Nat.reduceLeDiff, Nat.zero_le, Nat.reduceLT, ↓w_nil, ix_nI, nI_leP, nI_ltP, nI_eqP, nI_1, ↓i_inN, i_inN, l_le, l_lt, l_eq, r_le, r_lt, r_eq, ↓w_aload_1, ↓w_naload_1, ↓w_iv, ↓pm_cl2_1, ↓w_aload_2, ↓w_naload_2, ↓w_lcmp, ↓w_ifeq, ↓w_iconst, ↓w_zret, sh0, sh68_0, nI_add, nI_p2, nI_p3, nI_p4, nI_p5]
  repeat' (first | apply And.intro | omega | assumption | exact vl)
  refine pm_C_mono (p_digest (by omega) I J hR) (fun v S1 I1 J1 h1 => ?_)
  obtain ⟨rfl, _, h2⟩ := h1
  simp (disch := first | omega | decide) only [w_nl0, w_nli, w_nlr, ↓w_ts1, ↓w_ts0, w_rcv, w_rfv, w_cs, true_and, and_true, List.length_nil, List.length_cons, Nat.reduceAdd, Nat.reduceLeDiff, Nat.zero_le, Nat.reduceLT, ↓w_nil, ix_nI, nI_leP, nI_ltP, nI_eqP, nI_1, ↓i_inN, i_inN, l_le, l_lt, l_eq, r_le, r_lt, r_eq, ↓w_aload_1, ↓w_naload_1, ↓w_iv, ↓pm_cl2_1, ↓w_aload_2, ↓w_naload_2, ↓w_lcmp, ↓w_ifeq, ↓w_iconst, ↓w_zret, sh0, sh68_0, nI_add, nI_p2, nI_p3, nI_p4, nI_p5]
  repeat' (first | apply And.intro | omega | assumption | exact vl)
  refine pm_C_mono h2 (fun w S2 I2 J2 h3 => ?_)
  obtain ⟨e, rfl, _, hR2⟩ := h3
  obtain ⟨rfl, a, rfl⟩ := ty_long e rfl
  simp (disch := first | omega | decide) only [w_nl0, w_nli, w_nlr, ↓w_ts1, ↓w_ts0, w_rcv, w_rfv, w_cs, true_and, and_true, List.length_nil, List.length_cons, Nat.reduceAdd, Nat.reduceLeDiff, Nat.zero_le, Nat.reduceLT, ↓w_nil, ix_nI, nI_leP, nI_ltP, nI_eqP, nI_1, ↓i_inN, i_inN, l_le, l_lt, l_eq, r_le, r_lt, r_eq, ↓w_aload_1, ↓w_naload_1, ↓w_iv, ↓pm_cl2_1, ↓w_aload_2, ↓w_naload_2, ↓w_lcmp, ↓w_ifeq, ↓w_iconst, ↓w_zret, sh0, sh68_0, nI_add, nI_p2, nI_p3, nI_p4, nI_p5, lg_eq0]
  have w := hw I2 J2 hR2
  first | exact ⟨fun _ => w, fun z => absurd rfl z⟩ | exact w | grind
end C92
