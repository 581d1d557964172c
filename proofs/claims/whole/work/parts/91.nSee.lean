section C91n
variable {g : pm_G} {d : Nat} {Q : pm_Po} {S : pm_SS} {I : pm_MI} {J : pm_ML}
variable {N P ms : Nat} {c : Nat → Int64} {need : Int64} {mo : Int64 → Nat} {st : mdT} {t : Int32}
/-! ===== the reference goes through all sets ===== -/
def sgS (W : mdT → List Nat → mdT) (s : Int32) (L : List (List Nat)) (st : mdT) : mdT := if st.1 = 0 ∨ st.2.2.1 = s then L.foldl W st else st
def L1 (k m : Nat) : List (List Nat) := (List.range' k m).map (fun a => [a])
def L2i (a b m : Nat) : List (List Nat) := (List.range' b m).map (fun b => [a, b])
def L2 (P k m : Nat) : List (List Nat) := (List.range' k m).flatMap (fun a => L2i a (a + 1) (P - (a + 1)))
def L3i (a b e m : Nat) : List (List Nat) := (List.range' e m).map (fun e => [a, b, e])
def L3m (P a b m : Nat) : List (List Nat) := (List.range' b m).flatMap (fun b => L3i a b (b + 1) (P - (b + 1)))
def L3 (P k m : Nat) : List (List Nat) := (List.range' k m).flatMap (fun a => L3m P a (a + 1) (P - (a + 1)))
theorem fo_g {s : Int32} : ∀ {L : List (List Nat)} {st : mdT}, (∀ T, T ∈ L → nI T.length = s) → (st.1 = 0 ∨ st.2.2.1 = s) → ((L.foldl (wgT c need ms mo) st).1 = 0 ∨ (L.foldl (wgT c need ms mo) st).2.2.1 = s)
  | [], _, _, h => h
  | T :: L, st, hL, h => fo_g (L := L) (fun T hT => hL T (List.mem_cons_of_mem _ hT)) (wgT_g (hL T List.mem_cons_self) h)
theorem m_st1 {I0 : pm_MI} (hd : 6 ≤ d) (hE : smE I0 J N P c need mo) : ∀ m k, k + m = P → ∀ I2 st, frW I0 I2 → mdH I2 N st → (st.1 = 0 ∨ st.2.2.1 = 1) → ∀ z4 z5 z6 z7, (∀ I3, frW I0 I3 → mdH I3 N ((L1 k m).foldl (wgT c need ms mo) st) → UU g (d - 1) 258 kX12_seekCause (pm_rm d 258) Q 12 [some (.ref 68), some (.int t), some (.int (nI ms)), some (.int (nI P)), z4, z5, z6, z7] [] SH I3 J (0, 0)) → UU g (d - 1) 258 kX12_seekCause (pm_rm d 258) Q 10 [some (.ref 68), some (.int t), some (.int (nI ms)), some (.int (nI k)), z4, z5, z6, z7] [] SH I2 J (0, 0) := by
  intro m
  induction m with
  | zero =>
    intro k hk I2 st f1 f2 f3 z4 z5 z6 z7 h
    have hE2 := hE.cg f1
    have e52 := hE2.2.1.1
    have hP := hE2.2.1.2
    have w := h I2 f1 f2
    have ek : k = P := by omega
    subst ek
    clear h hE hE2 f2
    refine bX12_seekCause_10 ?_
    simp (disch := first | omega | decide) only [w_nl0, w_nli, w_nlr, ↓w_ts1, ↓w_ts0, w_rcv, w_rfv, w_cs, true_and, and_true, List.length_nil, List.length_cons, Nat.reduceAdd, Nat.reduceLeDiff, Nat.zero_le, Nat.reduceLT, ↓w_nil, ix_nI, nI_leP, nI_ltP, nI_eqP, nI_1, ↓i_inN, i_inN, l_le, l_lt, l_eq, r_le, r_lt, r_eq, sh68_0, sh68_1, sh68_2, sh68_3, sh68_4, ↓w_iload_3, ↓w_aload_0, ↓w_gf0, ↓w_icge, ↓w_ifeq, ↓w_iconst, ↓w_icne, e52]
    repeat' (first
      | (apply And.intro)
      | (simp only [w_in])
      | (intro _))
    all_goals first | (with_reducible exact w) | omega | grind
  | succ m ih =>
    intro k hk I2 st f1 f2 f3 z4 z5 z6 z7 h
    have hE2 := hE.cg f1
    have e52 := hE2.2.1.1
    have hP := hE2.2.1.2
    have s1 := f2.1
    have s3 := f2.2.2.1
    have w : ∀ I3, frW I2 I3 → mdH I3 N (wgT c need ms mo st [k]) → UU g (d - 1) 258 kX12_seekCause (pm_rm d 258) Q 10 [some (.ref 68), some (.int t), some (.int (nI ms)), some (.int (nI (k + 1))), z4, z5, z6, z7] [] SH I3 J (0, 0) := fun I3 r1 r2 => ih (k + 1) (by omega) I3 _ (f1.tr r1) r2 (wgT_g rfl f3) z4 z5 z6 z7 (fun I4 q1 q2 => h I4 q1 (by
      rw [L1, List.range'_succ]; exact q2))
    have hw := fun Q2 d2 hd2 => m_w1 (g := g) (Q := Q2) (d := d2) (ms := ms) (a := k) hd2 hE2 (by omega) f2
    rw [← s1, ← s3] at f3
    have w11 : UU g (d - 1) 258 kX12_seekCause (pm_rm d 258) Q 11 [some (.ref 68), some (.int t), some (.int (nI ms)), some (.int (nI k)), z4, z5, z6, z7] [] SH I2 J (0, 0) := by
      clear h ih hE hE2 f2
      refine bX12_seekCause_11 ?_
      simp (disch := first | omega | decide) only [w_nl0, w_nli, w_nlr, ↓w_ts1, ↓w_ts0, w_rcv, w_rfv, w_cs, true_and, and_true, List.length_nil, List.length_cons, Nat.reduceAdd, Nat.reduceLeDiff, Nat.zero_le, Nat.reduceLT, ↓w_nil, ix_nI, nI_leP, nI_ltP, nI_eqP, nI_1, ↓i_inN, i_inN, l_le, l_lt, l_eq, r_le, r_lt, r_eq, sh68_0, sh68_1, sh68_2, sh68_3, sh68_4, ↓w_aload_0, ↓w_iconst, ↓w_iload_3, ↓w_bipush, ↓w_iload_2, ↓w_iv, ↓pm_cl2_6, ↓w_iinc_3, ↓w_goto]
      repeat' (first
        | (apply And.intro)
        | (with_reducible refine hw _ _ (by omega) (fun I3 r1 r2 => ?_) <;> simp (disch := first | omega | decide) only [w_nl0, w_nli, w_nlr, ↓w_ts1, ↓w_ts0, w_rcv, w_rfv, w_cs, true_and, and_true, List.length_nil, List.length_cons, Nat.reduceAdd, Nat.reduceLeDiff, Nat.zero_le, Nat.reduceLT, ↓w_nil, ix_nI, nI_leP, nI_ltP, nI_eqP, nI_1, ↓i_inN, i_inN, l_le, l_lt, l_eq, r_le, r_lt, r_eq, sh68_0, sh68_1, sh68_2, sh68_3, sh68_4, ↓w_aload_0, ↓w_iv, ↓pm_cl2_1, ↓w_lconst0, ↓w_pf1, ↓w_iconst, ↓w_istore_3, ↓w_iload_3, ↓w_bipush, ↓w_icge, ↓w_gf3, ↓w_iastore, ↓w_iinc_3, ↓w_goto, ↓w_gf0, ↓w_iaload, ↓w_iload_1, ↓w_icne, ↓w_imul, ↓w_iadd, ↓w_istore_4, ↓w_dup_i, ↓w_dup_r, ↓w_gf1, ↓w_baload, ↓w_ifeq, ↓w_lconst1, ↓w_iload_4, ↓w_lshl, ↓w_lor, ↓w_dup2, ↓w_pf0, ↓w_iload_2, ↓pm_cl2_6, ↓w_iinc_4, ↓w_laload, ↓w_lstore_5, ↓w_istore_7, ↓w_iload_7, ↓w_lload_5, ↓w_ldc2_17, ↓w_lxor, ↓w_land, ↓w_lcmp, ↓w_ifne, ↓w_iinc_7, ↓w_ifle, ↓w_zret])
        | (simp only [w_in])
        | (intro _))
      all_goals first | (with_reducible exact w _ r1 r2) | omega | grind
    clear h ih hE hE2 f2 hw w
    refine bX12_seekCause_10 ?_
    simp (disch := first | omega | decide) only [w_nl0, w_nli, w_nlr, ↓w_ts1, ↓w_ts0, w_rcv, w_rfv, w_cs, true_and, and_true, List.length_nil, List.length_cons, Nat.reduceAdd, Nat.reduceLeDiff, Nat.zero_le, Nat.reduceLT, ↓w_nil, ix_nI, nI_leP, nI_ltP, nI_eqP, nI_1, ↓i_inN, i_inN, l_le, l_lt, l_eq, r_le, r_lt, r_eq, sh68_0, sh68_1, sh68_2, sh68_3, sh68_4, ↓w_iload_3, ↓w_aload_0, ↓w_gf0, ↓w_icge, ↓w_ifeq, ↓w_iconst, ↓w_icne, e52]
    repeat' (first
      | (apply And.intro)
      | (simp only [w_in])
      | (intro _))
    all_goals first | (with_reducible exact w11) | omega | grind
theorem m_in2 {I0 : pm_MI} {a : Nat} (hd : 6 ≤ d) (ha : a < P) (hE : smE I0 J N P c need mo) : ∀ m b, b + m = P → ∀ I2 st, frW I0 I2 → mdH I2 N st → ∀ z5 z6 z7, (∀ I3, frW I0 I3 → mdH I3 N ((L2i a b m).foldl (wgT c need ms mo) st) → UU g (d - 1) 258 kX12_seekCause (pm_rm d 258) Q 16 [some (.ref 68), some (.int t), some (.int (nI ms)), some (.int (nI a)), some (.int (nI P)), z5, z6, z7] [] SH I3 J (0, 0)) → UU g (d - 1) 258 kX12_seekCause (pm_rm d 258) Q 15 [some (.ref 68), some (.int t), some (.int (nI ms)), some (.int (nI a)), some (.int (nI b)), z5, z6, z7] [] SH I2 J (0, 0) := by
  intro m
  induction m with
  | zero =>
    intro k hk I2 st f1 f2 z5 z6 z7 h
    have hE2 := hE.cg f1
    have e52 := hE2.2.1.1
    have hP := hE2.2.1.2
    have w := h I2 f1 f2
    have ek : k = P := by omega
    subst ek
    clear h hE hE2 f2
    refine bX12_seekCause_15 ?_
    simp (disch := first | omega | decide) only [w_nl0, w_nli, w_nlr, ↓w_ts1, ↓w_ts0, w_rcv, w_rfv, w_cs, true_and, and_true, List.length_nil, List.length_cons, Nat.reduceAdd, Nat.reduceLeDiff, Nat.zero_le, Nat.reduceLT, ↓w_nil, ix_nI, nI_leP, nI_ltP, nI_eqP, nI_1, ↓i_inN, i_inN, l_le, l_lt, l_eq, r_le, r_lt, r_eq, sh68_0, sh68_1, sh68_2, sh68_3, sh68_4, ↓w_iload_4, ↓w_aload_0, ↓w_gf0, ↓w_icge, ↓w_iconst, ↓w_iload_3, ↓w_bipush, ↓w_iload_2, ↓w_iv, ↓pm_cl2_6, ↓w_iinc_4, ↓w_goto, e52]
    repeat' (first
      | (apply And.intro)
      | (simp only [w_in])
      | (intro _))
    all_goals first | (with_reducible exact w) | omega | grind
  | succ m ih =>
    intro k hk I2 st f1 f2 z5 z6 z7 h
    have hE2 := hE.cg f1
    have e52 := hE2.2.1.1
    have hP := hE2.2.1.2
    have w : ∀ I3, frW I2 I3 → mdH I3 N (wgT c need ms mo st [a, k]) → UU g (d - 1) 258 kX12_seekCause (pm_rm d 258) Q 15 [some (.ref 68), some (.int t), some (.int (nI ms)), some (.int (nI a)), some (.int (nI (k + 1))), z5, z6, z7] [] SH I3 J (0, 0) := fun I3 r1 r2 => ih (k + 1) (by omega) I3 _ (f1.tr r1) r2 z5 z6 z7 (fun I4 q1 q2 => h I4 q1 (by
      rw [L2i, List.range'_succ]; exact q2))
    have hw := fun Q2 d2 hd2 => m_w2 (g := g) (Q := Q2) (d := d2) (ms := ms) (a := a) (b := k) hd2 hE2 ha (by omega) f2
    clear h ih hE hE2 f2
    refine bX12_seekCause_15 ?_
    simp (disch := first | omega | decide) only [w_nl0, w_nli, w_nlr, ↓w_ts1, ↓w_ts0, w_rcv, w_rfv, w_cs, true_and, and_true, List.length_nil, List.length_cons, Nat.reduceAdd, Nat.reduceLeDiff, Nat.zero_le, Nat.reduceLT, ↓w_nil, ix_nI, nI_leP, nI_ltP, nI_eqP, nI_1, ↓i_inN, i_inN, l_le, l_lt, l_eq, r_le, r_lt, r_eq, sh68_0, sh68_1, sh68_2, sh68_3, sh68_4, ↓w_iload_4, ↓w_aload_0, ↓w_gf0, ↓w_icge, ↓w_iconst, ↓w_iload_3, ↓w_bipush, ↓w_iload_2, ↓w_iv, ↓pm_cl2_6, ↓w_iinc_4, ↓w_goto, e52]
    repeat' (first
      | (apply And.intro)
      | (with_reducible refine hw _ _ (by omega) (fun I3 r1 r2 => ?_) <;> simp (disch := first | omega | decide) only [w_nl0, w_nli, w_nlr, ↓w_ts1, ↓w_ts0, w_rcv, w_rfv, w_cs, true_and, and_true, List.length_nil, List.length_cons, Nat.reduceAdd, Nat.reduceLeDiff, Nat.zero_le, Nat.reduceLT, ↓w_nil, ix_nI, nI_leP, nI_ltP, nI_eqP, nI_1, ↓i_inN, i_inN, l_le, l_lt, l_eq, r_le, r_lt, r_eq, sh68_0, sh68_1, sh68_2, sh68_3, sh68_4, ↓w_aload_0, ↓w_iv, ↓pm_cl2_1, ↓w_lconst0, ↓w_pf1, ↓w_iconst, ↓w_istore_3, ↓w_iload_3, ↓w_bipush, ↓w_icge, ↓w_gf3, ↓w_iastore, ↓w_iinc_3, ↓w_goto, ↓w_gf0, ↓w_iaload, ↓w_iload_1, ↓w_icne, ↓w_imul, ↓w_iadd, ↓w_istore_4, ↓w_dup_i, ↓w_dup_r, ↓w_gf1, ↓w_baload, ↓w_ifeq, ↓w_lconst1, ↓w_iload_4, ↓w_lshl, ↓w_lor, ↓w_dup2, ↓w_pf0, ↓w_iload_2, ↓pm_cl2_6, ↓w_iinc_4, ↓w_laload, ↓w_lstore_5, ↓w_istore_7, ↓w_iload_7, ↓w_lload_5, ↓w_ldc2_17, ↓w_lxor, ↓w_land, ↓w_lcmp, ↓w_ifne, ↓w_iinc_7, ↓w_ifle, ↓w_zret])
      | (simp only [w_in])
      | (intro _))
    all_goals first | (with_reducible exact w _ r1 r2) | omega | grind
theorem L2i_len {a b m : Nat} : ∀ T, T ∈ L2i a b m → nI T.length = 2 := by
  intro T hT
  obtain ⟨x, _, rfl⟩ := List.mem_map.mp hT
  rfl
theorem m_st2 {I0 : pm_MI} (hd : 6 ≤ d) (hE : smE I0 J N P c need mo) : ∀ m k, k + m = P → ∀ I2 st, frW I0 I2 → mdH I2 N st → (st.1 = 0 ∨ st.2.2.1 = 2) → ∀ z4 z5 z6 z7, (∀ I3 z4, frW I0 I3 → mdH I3 N ((L2 P k m).foldl (wgT c need ms mo) st) → UU g (d - 1) 258 kX12_seekCause (pm_rm d 258) Q 17 [some (.ref 68), some (.int t), some (.int (nI ms)), some (.int (nI P)), z4, z5, z6, z7] [] SH I3 J (0, 0)) → UU g (d - 1) 258 kX12_seekCause (pm_rm d 258) Q 13 [some (.ref 68), some (.int t), some (.int (nI ms)), some (.int (nI k)), z4, z5, z6, z7] [] SH I2 J (0, 0) := by
  intro m
  induction m with
  | zero =>
    intro k hk I2 st f1 f2 f3 z4 z5 z6 z7 h
    have hE2 := hE.cg f1
    have e52 := hE2.2.1.1
    have hP := hE2.2.1.2
    have w := h I2 z4 f1 f2
    have ek : k = P := by omega
    subst ek
    clear h hE hE2 f2
    refine bX12_seekCause_13 ?_
    simp (disch := first | omega | decide) only [w_nl0, w_nli, w_nlr, ↓w_ts1, ↓w_ts0, w_rcv, w_rfv, w_cs, true_and, and_true, List.length_nil, List.length_cons, Nat.reduceAdd, Nat.reduceLeDiff, Nat.zero_le, Nat.reduceLT, ↓w_nil, ix_nI, nI_leP, nI_ltP, nI_eqP, nI_1, ↓i_inN, i_inN, l_le, l_lt, l_eq, r_le, r_lt, r_eq, sh68_0, sh68_1, sh68_2, sh68_3, sh68_4, ↓w_iload_3, ↓w_aload_0, ↓w_gf0, ↓w_icge, ↓w_ifeq, ↓w_iconst, ↓w_icne, e52]
    repeat' (first
      | (apply And.intro)
      | (simp only [w_in])
      | (intro _))
    all_goals first | (with_reducible exact w) | omega | grind
  | succ m ih =>
    intro k hk I2 st f1 f2 f3 z4 z5 z6 z7 h
    have hE2 := hE.cg f1
    have e52 := hE2.2.1.1
    have hP := hE2.2.1.2
    have s1 := f2.1
    have s3 := f2.2.2.1
    have w : UU g (d - 1) 258 kX12_seekCause (pm_rm d 258) Q 15 [some (.ref 68), some (.int t), some (.int (nI ms)), some (.int (nI k)), some (.int (nI (k + 1))), z5, z6, z7] [] SH I2 J (0, 0) := m_in2 hd (by omega) hE (P - (k + 1)) (k + 1) (by omega) I2 st f1 f2 z5 z6 z7 (fun I3 r1 r2 => by
      have w2 := ih (k + 1) (by omega) I3 _ r1 r2 (fo_g L2i_len f3) (some (.int (nI P))) z5 z6 z7 (fun I4 z4 q1 q2 => h I4 z4 q1 (by
        rw [L2, List.range'_succ, List.flatMap_cons, List.foldl_append]; exact q2))
      clear h ih hE hE2 f2
      refine bX12_seekCause_16 ?_
      simp (disch := first | omega | decide) only [w_nl0, w_nli, w_nlr, ↓w_ts1, ↓w_ts0, w_rcv, w_rfv, w_cs, true_and, and_true, List.length_nil, List.length_cons, Nat.reduceAdd, Nat.reduceLeDiff, Nat.zero_le, Nat.reduceLT, ↓w_nil, ix_nI, nI_leP, nI_ltP, nI_eqP, nI_1, ↓i_inN, i_inN, l_le, l_lt, l_eq, r_le, r_lt, r_eq, sh68_0, sh68_1, sh68_2, sh68_3, sh68_4, ↓w_iinc_3, ↓w_goto]
      repeat' (first
        | (apply And.intro)
        | (simp only [w_in])
        | (intro _))
      all_goals first | (with_reducible exact w2) | omega | grind)
    rw [← s1, ← s3] at f3
    have w14 : UU g (d - 1) 258 kX12_seekCause (pm_rm d 258) Q 14 [some (.ref 68), some (.int t), some (.int (nI ms)), some (.int (nI k)), z4, z5, z6, z7] [] SH I2 J (0, 0) := by
      clear h ih hE hE2 f2
      refine bX12_seekCause_14 ?_
      simp (disch := first | omega | decide) only [w_nl0, w_nli, w_nlr, ↓w_ts1, ↓w_ts0, w_rcv, w_rfv, w_cs, true_and, and_true, List.length_nil, List.length_cons, Nat.reduceAdd, Nat.reduceLeDiff, Nat.zero_le, Nat.reduceLT, ↓w_nil, ix_nI, nI_leP, nI_ltP, nI_eqP, nI_1, ↓i_inN, i_inN, l_le, l_lt, l_eq, r_le, r_lt, r_eq, sh68_0, sh68_1, sh68_2, sh68_3, sh68_4, ↓w_iload_3, ↓w_iconst, ↓w_iadd, ↓w_istore_4]
      repeat' (first
        | (apply And.intro)
        | (simp only [w_in])
        | (intro _))
      all_goals first | (with_reducible exact w) | omega | grind
    clear h ih hE hE2 f2 w
    refine bX12_seekCause_13 ?_
    simp (disch := first | omega | decide) only [w_nl0, w_nli, w_nlr, ↓w_ts1, ↓w_ts0, w_rcv, w_rfv, w_cs, true_and, and_true, List.length_nil, List.length_cons, Nat.reduceAdd, Nat.reduceLeDiff, Nat.zero_le, Nat.reduceLT, ↓w_nil, ix_nI, nI_leP, nI_ltP, nI_eqP, nI_1, ↓i_inN, i_inN, l_le, l_lt, l_eq, r_le, r_lt, r_eq, sh68_0, sh68_1, sh68_2, sh68_3, sh68_4, ↓w_iload_3, ↓w_aload_0, ↓w_gf0, ↓w_icge, ↓w_ifeq, ↓w_iconst, ↓w_icne, e52]
    repeat' (first
      | (apply And.intro)
      | (simp only [w_in])
      | (intro _))
    all_goals first | (with_reducible exact w14) | omega | grind
theorem m_in3 {I0 : pm_MI} {a b : Nat} (hd : 6 ≤ d) (ha : a < P) (hb : b < P) (hE : smE I0 J N P c need mo) : ∀ m e, e + m = P → ∀ I2 st, frW I0 I2 → mdH I2 N st → (∀ I3, frW I0 I3 → mdH I3 N ((L3i a b e m).foldl (wgT c need ms mo) st) → UU g (d - 1) 258 kX12_seekCause (pm_rm d 258) Q 23 [some (.ref 68), some (.int t), some (.int (nI ms)), some (.int (nI a)), some (.int (nI b)), some (.long (c a ||| c b)), none, some (.int (nI P))] [] SH I3 J (0, 0)) → UU g (d - 1) 258 kX12_seekCause (pm_rm d 258) Q 21 [some (.ref 68), some (.int t), some (.int (nI ms)), some (.int (nI a)), some (.int (nI b)), some (.long (c a ||| c b)), none, some (.int (nI e))] [] SH I2 J (0, 0) := by
  intro m
  induction m with
  | zero =>
    intro k hk I2 st f1 f2 h
    have hE2 := hE.cg f1
    have e52 := hE2.2.1.1
    have hP := hE2.2.1.2
    have w := h I2 f1 f2
    have ek : k = P := by omega
    subst ek
    clear h hE hE2 f2
    refine bX12_seekCause_21 ?_
    simp (disch := first | omega | decide) only [w_nl0, w_nli, w_nlr, ↓w_ts1, ↓w_ts0, w_rcv, w_rfv, w_cs, true_and, and_true, List.length_nil, List.length_cons, Nat.reduceAdd, Nat.reduceLeDiff, Nat.zero_le, Nat.reduceLT, ↓w_nil, ix_nI, nI_leP, nI_ltP, nI_eqP, nI_1, ↓i_inN, i_inN, l_le, l_lt, l_eq, r_le, r_lt, r_eq, sh68_0, sh68_1, sh68_2, sh68_3, sh68_4, ↓w_iload_7, ↓w_aload_0, ↓w_gf0, ↓w_icge, ↓w_gf1, ↓w_lload_5, ↓w_gf3, ↓w_laload, ↓w_lor, ↓w_ldc2_17, ↓w_lxor, ↓w_land, ↓w_lconst0, ↓w_lcmp, ↓w_ifne, ↓w_iconst, ↓w_iload_3, ↓w_iload_4, ↓w_iload_2, ↓w_iv, ↓pm_cl2_6, e52]
    repeat' (first
      | (apply And.intro)
      | (simp only [w_in])
      | (intro _))
    all_goals first | (with_reducible exact w) | omega | grind
  | succ m ih =>
    intro k hk I2 st f1 f2 h
    have hE2 := hE.cg f1
    have e52 := hE2.2.1.1
    have hP := hE2.2.1.2
    have e58 := hE2.2.2.2.1
    have e108 := hE2.2.2.1 k (by omega)
    have w : ∀ I3, frW I2 I3 → mdH I3 N (wgT c need ms mo st [a, b, k]) → UU g (d - 1) 258 kX12_seekCause (pm_rm d 258) Q 21 [some (.ref 68), some (.int t), some (.int (nI ms)), some (.int (nI a)), some (.int (nI b)), some (.long (c a ||| c b)), none, some (.int (nI (k + 1)))] [] SH I3 J (0, 0) := fun I3 r1 r2 => ih (k + 1) (by omega) I3 _ (f1.tr r1) r2 (fun I4 q1 q2 => h I4 q1 (by
      rw [L3i, List.range'_succ]; exact q2))
    have w22 : ∀ I3, frW I2 I3 → mdH I3 N (wgT c need ms mo st [a, b, k]) → UU g (d - 1) 258 kX12_seekCause (pm_rm d 258) Q 22 [some (.ref 68), some (.int t), some (.int (nI ms)), some (.int (nI a)), some (.int (nI b)), some (.long (c a ||| c b)), none, some (.int (nI k))] [] SH I3 J (0, 0) := by
      intro I3 r1 r2
      have w2 := w I3 r1 r2
      clear h ih hE hE2 f2 w
      refine bX12_seekCause_22 ?_
      simp (disch := first | omega | decide) only [w_nl0, w_nli, w_nlr, ↓w_ts1, ↓w_ts0, w_rcv, w_rfv, w_cs, true_and, and_true, List.length_nil, List.length_cons, Nat.reduceAdd, Nat.reduceLeDiff, Nat.zero_le, Nat.reduceLT, ↓w_nil, ix_nI, nI_leP, nI_ltP, nI_eqP, nI_1, ↓i_inN, i_inN, l_le, l_lt, l_eq, r_le, r_lt, r_eq, sh68_0, sh68_1, sh68_2, sh68_3, sh68_4, ↓w_iinc_7, ↓w_goto]
      repeat' (first
        | (apply And.intro)
        | (simp only [w_in])
        | (intro _))
      all_goals first | (with_reducible exact w2) | omega | grind
    have hw := fun Q2 d2 hd2 => m_w3 (g := g) (Q := Q2) (d := d2) (ms := ms) (a := a) (b := b) (e := k) hd2 hE2 ha hb (by omega) f2
    by_cases ho : opn need (orL c [a, b, k]) = 0
    · rw [orL_3] at ho
      unfold opn at ho
      clear h ih hE hE2 f2 w
      generalize c a ||| c b = ab at ho w22 ⊢
      refine bX12_seekCause_21 ?_
      simp (disch := first | omega | decide) only [w_nl0, w_nli, w_nlr, ↓w_ts1, ↓w_ts0, w_rcv, w_rfv, w_cs, true_and, and_true, List.length_nil, List.length_cons, Nat.reduceAdd, Nat.reduceLeDiff, Nat.zero_le, Nat.reduceLT, ↓w_nil, ix_nI, nI_leP, nI_ltP, nI_eqP, nI_1, ↓i_inN, i_inN, l_le, l_lt, l_eq, r_le, r_lt, r_eq, sh68_0, sh68_1, sh68_2, sh68_3, sh68_4, ↓w_iload_7, ↓w_aload_0, ↓w_gf0, ↓w_icge, ↓w_gf1, ↓w_lload_5, ↓w_gf3, ↓w_laload, ↓w_lor, ↓w_ldc2_17, ↓w_lxor, ↓w_land, ↓w_lconst0, ↓w_lcmp, ↓w_ifne, ↓w_iconst, ↓w_iload_3, ↓w_iload_4, ↓w_iload_2, ↓w_iv, ↓pm_cl2_6, e52, e58, e108, lg_eq0, ho]
      repeat' (first
        | (apply And.intro)
        | (with_reducible refine hw _ _ (by omega) (fun I3 r1 r2 => ?_) <;> simp (disch := first | omega | decide) only [w_nl0, w_nli, w_nlr, ↓w_ts1, ↓w_ts0, w_rcv, w_rfv, w_cs, true_and, and_true, List.length_nil, List.length_cons, Nat.reduceAdd, Nat.reduceLeDiff, Nat.zero_le, Nat.reduceLT, ↓w_nil, ix_nI, nI_leP, nI_ltP, nI_eqP, nI_1, ↓i_inN, i_inN, l_le, l_lt, l_eq, r_le, r_lt, r_eq, sh68_0, sh68_1, sh68_2, sh68_3, sh68_4, ↓w_aload_0, ↓w_iv, ↓pm_cl2_1, ↓w_lconst0, ↓w_pf1, ↓w_iconst, ↓w_istore_3, ↓w_iload_3, ↓w_bipush, ↓w_icge, ↓w_gf3, ↓w_iastore, ↓w_iinc_3, ↓w_goto, ↓w_gf0, ↓w_iaload, ↓w_iload_1, ↓w_icne, ↓w_imul, ↓w_iadd, ↓w_istore_4, ↓w_dup_i, ↓w_dup_r, ↓w_gf1, ↓w_baload, ↓w_ifeq, ↓w_lconst1, ↓w_iload_4, ↓w_lshl, ↓w_lor, ↓w_dup2, ↓w_pf0, ↓w_iload_2, ↓pm_cl2_6, ↓w_iinc_4, ↓w_laload, ↓w_lstore_5, ↓w_istore_7, ↓w_iload_7, ↓w_lload_5, ↓w_ldc2_17, ↓w_lxor, ↓w_land, ↓w_lcmp, ↓w_ifne, ↓w_iinc_7, ↓w_ifle, ↓w_zret, lg_eq0, ho])
        | (simp only [w_in])
        | (intro _))
      all_goals first | (with_reducible exact w22 _ r1 r2) | omega | grind
    · have w2 := w22 I2 frW.rf (by unfold wgT; rw [if_neg (fun z => ho z.1)]; exact f2)
      rw [orL_3] at ho
      unfold opn at ho
      clear h ih hE hE2 f2 w w22 hw
      generalize c a ||| c b = ab at ho w2 ⊢
      refine bX12_seekCause_21 ?_
      simp (disch := first | omega | decide) only [w_nl0, w_nli, w_nlr, ↓w_ts1, ↓w_ts0, w_rcv, w_rfv, w_cs, true_and, and_true, List.length_nil, List.length_cons, Nat.reduceAdd, Nat.reduceLeDiff, Nat.zero_le, Nat.reduceLT, ↓w_nil, ix_nI, nI_leP, nI_ltP, nI_eqP, nI_1, ↓i_inN, i_inN, l_le, l_lt, l_eq, r_le, r_lt, r_eq, sh68_0, sh68_1, sh68_2, sh68_3, sh68_4, ↓w_iload_7, ↓w_aload_0, ↓w_gf0, ↓w_icge, ↓w_gf1, ↓w_lload_5, ↓w_gf3, ↓w_laload, ↓w_lor, ↓w_ldc2_17, ↓w_lxor, ↓w_land, ↓w_lconst0, ↓w_lcmp, ↓w_ifne, ↓w_iconst, ↓w_iload_3, ↓w_iload_4, ↓w_iload_2, ↓w_iv, ↓pm_cl2_6, e52, e58, e108, lg_eq0]
      repeat' (first
        | (apply And.intro)
        | (simp only [w_in])
        | (intro _))
      all_goals first | (with_reducible exact w2) | omega | grind
theorem m_md3 {I0 : pm_MI} {a : Nat} (hd : 6 ≤ d) (ha : a < P) (hE : smE I0 J N P c need mo) : ∀ m b, b + m = P → ∀ I2 st, frW I0 I2 → mdH I2 N st → ∀ z5 z6 z7, (∀ I3 z5 z6 z7, frW I0 I3 → mdH I3 N ((L3m P a b m).foldl (wgT c need ms mo) st) → UU g (d - 1) 258 kX12_seekCause (pm_rm d 258) Q 24 [some (.ref 68), some (.int t), some (.int (nI ms)), some (.int (nI a)), some (.int (nI P)), z5, z6, z7] [] SH I3 J (0, 0)) → UU g (d - 1) 258 kX12_seekCause (pm_rm d 258) Q 20 [some (.ref 68), some (.int t), some (.int (nI ms)), some (.int (nI a)), some (.int (nI b)), z5, z6, z7] [] SH I2 J (0, 0) := by
  intro m
  induction m with
  | zero =>
    intro k hk I2 st f1 f2 z5 z6 z7 h
    have hE2 := hE.cg f1
    have e52 := hE2.2.1.1
    have hP := hE2.2.1.2
    have w := h I2 z5 z6 z7 f1 f2
    have ek : k = P := by omega
    subst ek
    clear h hE hE2 f2
    refine bX12_seekCause_20 ?_
    simp (disch := first | omega | decide) only [w_nl0, w_nli, w_nlr, ↓w_ts1, ↓w_ts0, w_rcv, w_rfv, w_cs, true_and, and_true, List.length_nil, List.length_cons, Nat.reduceAdd, Nat.reduceLeDiff, Nat.zero_le, Nat.reduceLT, ↓w_nil, ix_nI, nI_leP, nI_ltP, nI_eqP, nI_1, ↓i_inN, i_inN, l_le, l_lt, l_eq, r_le, r_lt, r_eq, sh68_0, sh68_1, sh68_2, sh68_3, sh68_4, ↓w_iload_4, ↓w_aload_0, ↓w_gf0, ↓w_icge, ↓w_gf3, ↓w_iload_3, ↓w_laload, ↓w_lor, ↓w_lstore_5, ↓w_iconst, ↓w_iadd, ↓w_istore_7, e52]
    repeat' (first
      | (apply And.intro)
      | (simp only [w_in])
      | (intro _))
    all_goals first | (with_reducible exact w) | omega | grind
  | succ m ih =>
    intro k hk I2 st f1 f2 z5 z6 z7 h
    have hE2 := hE.cg f1
    have e52 := hE2.2.1.1
    have hP := hE2.2.1.2
    have e1 := hE2.2.2.1 a ha
    have e2 := hE2.2.2.1 k (by omega)
    have w : UU g (d - 1) 258 kX12_seekCause (pm_rm d 258) Q 21 [some (.ref 68), some (.int t), some (.int (nI ms)), some (.int (nI a)), some (.int (nI k)), some (.long (c a ||| c k)), none, some (.int (nI (k + 1)))] [] SH I2 J (0, 0) := m_in3 hd ha (by omega) hE (P - (k + 1)) (k + 1) (by omega) I2 st f1 f2 (fun I3 r1 r2 => by
      have w2 := ih (k + 1) (by omega) I3 _ r1 r2 (some (.long (c a ||| c k))) none (some (.int (nI P))) (fun I4 z5 z6 z7 q1 q2 => h I4 z5 z6 z7 q1 (by
        rw [L3m, List.range'_succ, List.flatMap_cons, List.foldl_append]; exact q2))
      clear h ih hE hE2 f2
      refine bX12_seekCause_23 ?_
      simp (disch := first | omega | decide) only [w_nl0, w_nli, w_nlr, ↓w_ts1, ↓w_ts0, w_rcv, w_rfv, w_cs, true_and, and_true, List.length_nil, List.length_cons, Nat.reduceAdd, Nat.reduceLeDiff, Nat.zero_le, Nat.reduceLT, ↓w_nil, ix_nI, nI_leP, nI_ltP, nI_eqP, nI_1, ↓i_inN, i_inN, l_le, l_lt, l_eq, r_le, r_lt, r_eq, sh68_0, sh68_1, sh68_2, sh68_3, sh68_4, ↓w_iinc_4, ↓w_goto]
      repeat' (first
        | (apply And.intro)
        | (simp only [w_in])
        | (intro _))
      all_goals first | (with_reducible exact w2) | omega | grind)
    clear h ih hE hE2 f2
    refine bX12_seekCause_20 ?_
    simp (disch := first | omega | decide) only [w_nl0, w_nli, w_nlr, ↓w_ts1, ↓w_ts0, w_rcv, w_rfv, w_cs, true_and, and_true, List.length_nil, List.length_cons, Nat.reduceAdd, Nat.reduceLeDiff, Nat.zero_le, Nat.reduceLT, ↓w_nil, ix_nI, nI_leP, nI_ltP, nI_eqP, nI_1, ↓i_inN, i_inN, l_le, l_lt, l_eq, r_le, r_lt, r_eq, sh68_0, sh68_1, sh68_2, sh68_3, sh68_4, ↓w_iload_4, ↓w_aload_0, ↓w_gf0, ↓w_icge, ↓w_gf3, ↓w_iload_3, ↓w_laload, ↓w_lor, ↓w_lstore_5, ↓w_iconst, ↓w_iadd, ↓w_istore_7, e52, e1, e2]
    repeat' (first
      | (apply And.intro)
      | (simp only [w_in])
      | (intro _))
    all_goals first | (with_reducible exact w) | omega | grind
theorem L3m_len {a b m : Nat} : ∀ T, T ∈ L3m P a b m → nI T.length = 3 := by
  intro T hT
  obtain ⟨y, _, hT⟩ := List.mem_flatMap.mp hT
  obtain ⟨x, _, rfl⟩ := List.mem_map.mp hT
  rfl
theorem m_st3 {I0 : pm_MI} (hd : 6 ≤ d) (hE : smE I0 J N P c need mo) : ∀ m k, k + m = P → ∀ I2 st, frW I0 I2 → mdH I2 N st → (st.1 = 0 ∨ st.2.2.1 = 3) → ∀ z4 z5 z6 z7, (∀ I3 z4 z5 z6 z7, frW I0 I3 → mdH I3 N ((L3 P k m).foldl (wgT c need ms mo) st) → UU g (d - 1) 258 kX12_seekCause (pm_rm d 258) Q 25 [some (.ref 68), some (.int t), some (.int (nI ms)), some (.int (nI P)), z4, z5, z6, z7] [] SH I3 J (0, 0)) → UU g (d - 1) 258 kX12_seekCause (pm_rm d 258) Q 18 [some (.ref 68), some (.int t), some (.int (nI ms)), some (.int (nI k)), z4, z5, z6, z7] [] SH I2 J (0, 0) := by
  intro m
  induction m with
  | zero =>
    intro k hk I2 st f1 f2 f3 z4 z5 z6 z7 h
    have hE2 := hE.cg f1
    have e52 := hE2.2.1.1
    have hP := hE2.2.1.2
    have w := h I2 z4 z5 z6 z7 f1 f2
    have ek : k = P := by omega
    subst ek
    clear h hE hE2 f2
    refine bX12_seekCause_18 ?_
    simp (disch := first | omega | decide) only [w_nl0, w_nli, w_nlr, ↓w_ts1, ↓w_ts0, w_rcv, w_rfv, w_cs, true_and, and_true, List.length_nil, List.length_cons, Nat.reduceAdd, Nat.reduceLeDiff, Nat.zero_le, Nat.reduceLT, ↓w_nil, ix_nI, nI_leP, nI_ltP, nI_eqP, nI_1, ↓i_inN, i_inN, l_le, l_lt, l_eq, r_le, r_lt, r_eq, sh68_0, sh68_1, sh68_2, sh68_3, sh68_4, ↓w_iload_3, ↓w_aload_0, ↓w_gf0, ↓w_icge, ↓w_ifeq, ↓w_iconst, ↓w_icne, e52]
    repeat' (first
      | (apply And.intro)
      | (simp only [w_in])
      | (intro _))
    all_goals first | (with_reducible exact w) | omega | grind
  | succ m ih =>
    intro k hk I2 st f1 f2 f3 z4 z5 z6 z7 h
    have hE2 := hE.cg f1
    have e52 := hE2.2.1.1
    have hP := hE2.2.1.2
    have s1 := f2.1
    have s3 := f2.2.2.1
    have w : UU g (d - 1) 258 kX12_seekCause (pm_rm d 258) Q 20 [some (.ref 68), some (.int t), some (.int (nI ms)), some (.int (nI k)), some (.int (nI (k + 1))), z5, z6, z7] [] SH I2 J (0, 0) := m_md3 hd (by omega) hE (P - (k + 1)) (k + 1) (by omega) I2 st f1 f2 z5 z6 z7 (fun I3 z5 z6 z7 r1 r2 => by
      have w2 := ih (k + 1) (by omega) I3 _ r1 r2 (fo_g L3m_len f3) (some (.int (nI P))) z5 z6 z7 (fun I4 z4 z5 z6 z7 q1 q2 => h I4 z4 z5 z6 z7 q1 (by
        rw [L3, List.range'_succ, List.flatMap_cons, List.foldl_append]; exact q2))
      clear h ih hE hE2 f2
      refine bX12_seekCause_24 ?_
      simp (disch := first | omega | decide) only [w_nl0, w_nli, w_nlr, ↓w_ts1, ↓w_ts0, w_rcv, w_rfv, w_cs, true_and, and_true, List.length_nil, List.length_cons, Nat.reduceAdd, Nat.reduceLeDiff, Nat.zero_le, Nat.reduceLT, ↓w_nil, ix_nI, nI_leP, nI_ltP, nI_eqP, nI_1, ↓i_inN, i_inN, l_le, l_lt, l_eq, r_le, r_lt, r_eq, sh68_0, sh68_1, sh68_2, sh68_3, sh68_4, ↓w_iinc_3, ↓w_goto]
      repeat' (first
        | (apply And.intro)
        | (simp only [w_in])
        | (intro _))
      all_goals first | (with_reducible exact w2) | omega | grind)
    rw [← s1, ← s3] at f3
    have w19 : UU g (d - 1) 258 kX12_seekCause (pm_rm d 258) Q 19 [some (.ref 68), some (.int t), some (.int (nI ms)), some (.int (nI k)), z4, z5, z6, z7] [] SH I2 J (0, 0) := by
      clear h ih hE hE2 f2
      refine bX12_seekCause_19 ?_
      simp (disch := first | omega | decide) only [w_nl0, w_nli, w_nlr, ↓w_ts1, ↓w_ts0, w_rcv, w_rfv, w_cs, true_and, and_true, List.length_nil, List.length_cons, Nat.reduceAdd, Nat.reduceLeDiff, Nat.zero_le, Nat.reduceLT, ↓w_nil, ix_nI, nI_leP, nI_ltP, nI_eqP, nI_1, ↓i_inN, i_inN, l_le, l_lt, l_eq, r_le, r_lt, r_eq, sh68_0, sh68_1, sh68_2, sh68_3, sh68_4, ↓w_iload_3, ↓w_iconst, ↓w_iadd, ↓w_istore_4]
      repeat' (first
        | (apply And.intro)
        | (simp only [w_in])
        | (intro _))
      all_goals first | (with_reducible exact w) | omega | grind
    clear h ih hE hE2 f2 w
    refine bX12_seekCause_18 ?_
    simp (disch := first | omega | decide) only [w_nl0, w_nli, w_nlr, ↓w_ts1, ↓w_ts0, w_rcv, w_rfv, w_cs, true_and, and_true, List.length_nil, List.length_cons, Nat.reduceAdd, Nat.reduceLeDiff, Nat.zero_le, Nat.reduceLT, ↓w_nil, ix_nI, nI_leP, nI_ltP, nI_eqP, nI_1, ↓i_inN, i_inN, l_le, l_lt, l_eq, r_le, r_lt, r_eq, sh68_0, sh68_1, sh68_2, sh68_3, sh68_4, ↓w_iload_3, ↓w_aload_0, ↓w_gf0, ↓w_icge, ↓w_ifeq, ↓w_iconst, ↓w_icne, e52]
    repeat' (first
      | (apply And.intro)
      | (simp only [w_in])
      | (intro _))
    all_goals first | (with_reducible exact w19) | omega | grind
def fiS (P : Nat) (W : mdT → List Nat → mdT) (st : mdT) : mdT := sgS W 3 (L3 P 0 P) (sgS W 2 (L2 P 0 P) (sgS W 1 (L1 0 P) (W st [])))
theorem m_seek9 {I0 : pm_MI} (hd : 6 ≤ d) (hE : smE I0 J N P c need mo) (h1 : ∀ I', frW I0 I' → mdH I' N (fiS P (wgT c need ms mo) (0, I0 68 61, I0 68 60, I0 110, I0 111)) → (0 < (fiS P (wgT c need ms mo) (0, I0 68 61, I0 68 60, I0 110, I0 111)).1 → Q (some (.int 1)) SH I' J) ∧ (¬ 0 < (fiS P (wgT c need ms mo) (0, I0 68 61, I0 68 60, I0 110, I0 111)).1 → Q (some (.int 0)) SH I' J)) {z3 z4 : Option Value} : UU g (d - 1) 258 kX12_seekCause (pm_rm d 258) Q 9 [some (.ref 68), some (.int t), some (.int (nI ms)), z3, z4, none, none, none] [] SH I0 J (0, 0) := by
  have hP := hE.2.1.2
  generalize hF : fiS P (wgT c need ms mo) (0, I0 68 61, I0 68 60, I0 110, I0 111) = F at h1
  have e25 : ∀ I2 z3 z4 z5 z6 z7, frW I0 I2 → mdH I2 N F → UU g (d - 1) 258 kX12_seekCause (pm_rm d 258) Q 25 [some (.ref 68), some (.int t), some (.int (nI ms)), z3, z4, z5, z6, z7] [] SH I2 J (0, 0) := by
    intro I2 z3 z4 z5 z6 z7 f1 f2
    obtain ⟨q1, q0⟩ := h1 I2 f1 f2
    have s1 := f2.1
    clear h1 hE f2
    refine bX12_seekCause_25 ?_
    simp (disch := first | omega | decide) only [w_nl0, w_nli, w_nlr, ↓w_ts1, ↓w_ts0, w_rcv, w_rfv, w_cs, true_and, and_true, List.length_nil, List.length_cons, Nat.reduceAdd, Nat.reduceLeDiff, Nat.zero_le, Nat.reduceLT, ↓w_nil, ix_nI, nI_leP, nI_ltP, nI_eqP, nI_1, ↓i_inN, i_inN, l_le, l_lt, l_eq, r_le, r_lt, r_eq, sh68_0, sh68_1, sh68_2, sh68_3, sh68_4, ↓w_aload_0, ↓w_gf0, ↓w_ifle, ↓w_iconst, ↓w_goto, s1]
    repeat' (first
      | (apply And.intro)
      | (with_reducible refine bX12_seekCause_26 ?_; simp (disch := first | omega | decide) only [w_nl0, w_nli, w_nlr, ↓w_ts1, ↓w_ts0, w_rcv, w_rfv, w_cs, true_and, and_true, List.length_nil, List.length_cons, Nat.reduceAdd, Nat.reduceLeDiff, Nat.zero_le, Nat.reduceLT, ↓w_nil, ix_nI, nI_leP, nI_ltP, nI_eqP, nI_1, ↓i_inN, i_inN, l_le, l_lt, l_eq, r_le, r_lt, r_eq, sh68_0, sh68_1, sh68_2, sh68_3, sh68_4, ↓w_aload_0, ↓w_iv, ↓pm_cl2_1, ↓w_lconst0, ↓w_pf1, ↓w_iconst, ↓w_istore_3, ↓w_iload_3, ↓w_bipush, ↓w_icge, ↓w_gf3, ↓w_iastore, ↓w_iinc_3, ↓w_goto, ↓w_gf0, ↓w_iaload, ↓w_iload_1, ↓w_icne, ↓w_imul, ↓w_iadd, ↓w_istore_4, ↓w_dup_i, ↓w_dup_r, ↓w_gf1, ↓w_baload, ↓w_ifeq, ↓w_lconst1, ↓w_iload_4, ↓w_lshl, ↓w_lor, ↓w_dup2, ↓w_pf0, ↓w_iload_2, ↓pm_cl2_6, ↓w_iinc_4, ↓w_laload, ↓w_lstore_5, ↓w_istore_7, ↓w_iload_7, ↓w_lload_5, ↓w_ldc2_17, ↓w_lxor, ↓w_land, ↓w_lcmp, ↓w_ifne, ↓w_iinc_7, ↓w_ifle, ↓w_zret, s1])
      | (with_reducible refine bX12_seekCause_27 ?_; simp (disch := first | omega | decide) only [w_nl0, w_nli, w_nlr, ↓w_ts1, ↓w_ts0, w_rcv, w_rfv, w_cs, true_and, and_true, List.length_nil, List.length_cons, Nat.reduceAdd, Nat.reduceLeDiff, Nat.zero_le, Nat.reduceLT, ↓w_nil, ix_nI, nI_leP, nI_ltP, nI_eqP, nI_1, ↓i_inN, i_inN, l_le, l_lt, l_eq, r_le, r_lt, r_eq, sh68_0, sh68_1, sh68_2, sh68_3, sh68_4, ↓w_aload_0, ↓w_iv, ↓pm_cl2_1, ↓w_lconst0, ↓w_pf1, ↓w_iconst, ↓w_istore_3, ↓w_iload_3, ↓w_bipush, ↓w_icge, ↓w_gf3, ↓w_iastore, ↓w_iinc_3, ↓w_goto, ↓w_gf0, ↓w_iaload, ↓w_iload_1, ↓w_icne, ↓w_imul, ↓w_iadd, ↓w_istore_4, ↓w_dup_i, ↓w_dup_r, ↓w_gf1, ↓w_baload, ↓w_ifeq, ↓w_lconst1, ↓w_iload_4, ↓w_lshl, ↓w_lor, ↓w_dup2, ↓w_pf0, ↓w_iload_2, ↓pm_cl2_6, ↓w_iinc_4, ↓w_laload, ↓w_lstore_5, ↓w_istore_7, ↓w_iload_7, ↓w_lload_5, ↓w_ldc2_17, ↓w_lxor, ↓w_land, ↓w_lcmp, ↓w_ifne, ↓w_iinc_7, ↓w_ifle, ↓w_zret, s1])
      | (simp only [w_in])
      | (intro _))
    all_goals first | (with_reducible exact q1 (by grind)) | (with_reducible exact q0 (by grind)) | omega | grind
  clear h1
  unfold fiS at hF
  have e17 : ∀ I2 z3 z4 z5 z6 z7, frW I0 I2 → mdH I2 N (sgS (wgT c need ms mo) 2 (L2 P 0 P) (sgS (wgT c need ms mo) 1 (L1 0 P) (wgT c need ms mo (0, I0 68 61, I0 68 60, I0 110, I0 111) []))) → UU g (d - 1) 258 kX12_seekCause (pm_rm d 258) Q 17 [some (.ref 68), some (.int t), some (.int (nI ms)), z3, z4, z5, z6, z7] [] SH I2 J (0, 0) := by
    intro I2 z3 z4 z5 z6 z7 f1 f2
    generalize sgS (wgT c need ms mo) 2 (L2 P 0 P) (sgS (wgT c need ms mo) 1 (L1 0 P) (wgT c need ms mo (0, I0 68 61, I0 68 60, I0 110, I0 111) [])) = st2 at hF f2
    have w18 : UU g (d - 1) 258 kX12_seekCause (pm_rm d 258) Q 18 [some (.ref 68), some (.int t), some (.int (nI ms)), some (.int 0), z4, z5, z6, z7] [] SH I2 J (0, 0) := by
      by_cases hg : st2.1 = 0 ∨ st2.2.2.1 = 3
      · refine m_st3 hd hE P 0 (by omega) I2 st2 f1 f2 hg z4 z5 z6 z7 (fun I3 z4 z5 z6 z7 r1 r2 => e25 I3 _ z4 z5 z6 z7 r1 ?_)
        rw [← hF, sgS, if_pos hg]; exact r2
      · have w := fun z3 => e25 I2 z3 z4 z5 z6 z7 f1 (by rw [← hF, sgS, if_neg hg]; exact f2)
        have w0 := w (some (.int 0))
        have e52 := (hE.cg f1).2.1.1
        have s1 := f2.1
        have s3 := f2.2.2.1
        rw [← s1, ← s3] at hg
        clear e25 hE f2 w
        refine bX12_seekCause_18 ?_
        simp (disch := first | omega | decide) only [w_nl0, w_nli, w_nlr, ↓w_ts1, ↓w_ts0, w_rcv, w_rfv, w_cs, true_and, and_true, List.length_nil, List.length_cons, Nat.reduceAdd, Nat.reduceLeDiff, Nat.zero_le, Nat.reduceLT, ↓w_nil, ix_nI, nI_leP, nI_ltP, nI_eqP, nI_1, ↓i_inN, i_inN, l_le, l_lt, l_eq, r_le, r_lt, r_eq, sh68_0, sh68_1, sh68_2, sh68_3, sh68_4, ↓w_iload_3, ↓w_aload_0, ↓w_gf0, ↓w_icge, ↓w_ifeq, ↓w_iconst, ↓w_icne, e52]
        repeat' (first
          | (apply And.intro)
          | (simp only [w_in])
          | (intro _))
        all_goals first | (with_reducible exact w0) | omega | grind
    clear e25 hE f2
    refine bX12_seekCause_17 ?_
    simp (disch := first | omega | decide) only [w_nl0, w_nli, w_nlr, ↓w_ts1, ↓w_ts0, w_rcv, w_rfv, w_cs, true_and, and_true, List.length_nil, List.length_cons, Nat.reduceAdd, Nat.reduceLeDiff, Nat.zero_le, Nat.reduceLT, ↓w_nil, ix_nI, nI_leP, nI_ltP, nI_eqP, nI_1, ↓i_inN, i_inN, l_le, l_lt, l_eq, r_le, r_lt, r_eq, sh68_0, sh68_1, sh68_2, sh68_3, sh68_4, ↓w_iconst, ↓w_istore_3]
    repeat' (first
      | (apply And.intro)
      | (simp only [w_in])
      | (intro _))
    all_goals first | (with_reducible exact w18) | omega | grind
  clear e25 hF
  have e12 : ∀ I2 z3 z4 z5 z6 z7, frW I0 I2 → mdH I2 N (sgS (wgT c need ms mo) 1 (L1 0 P) (wgT c need ms mo (0, I0 68 61, I0 68 60, I0 110, I0 111) [])) → UU g (d - 1) 258 kX12_seekCause (pm_rm d 258) Q 12 [some (.ref 68), some (.int t), some (.int (nI ms)), z3, z4, z5, z6, z7] [] SH I2 J (0, 0) := by
    intro I2 z3 z4 z5 z6 z7 f1 f2
    generalize sgS (wgT c need ms mo) 1 (L1 0 P) (wgT c need ms mo (0, I0 68 61, I0 68 60, I0 110, I0 111) []) = st2 at e17 f2
    have w13 : UU g (d - 1) 258 kX12_seekCause (pm_rm d 258) Q 13 [some (.ref 68), some (.int t), some (.int (nI ms)), some (.int 0), z4, z5, z6, z7] [] SH I2 J (0, 0) := by
      by_cases hg : st2.1 = 0 ∨ st2.2.2.1 = 2
      · refine m_st2 hd hE P 0 (by omega) I2 st2 f1 f2 hg z4 z5 z6 z7 (fun I3 z4 r1 r2 => e17 I3 _ z4 z5 z6 z7 r1 ?_)
        rw [sgS, if_pos hg]; exact r2
      · have w0 := e17 I2 (some (.int 0)) z4 z5 z6 z7 f1 (by rw [sgS, if_neg hg]; exact f2)
        have e52 := (hE.cg f1).2.1.1
        have s1 := f2.1
        have s3 := f2.2.2.1
        rw [← s1, ← s3] at hg
        clear e17 hE f2
        refine bX12_seekCause_13 ?_
        simp (disch := first | omega | decide) only [w_nl0, w_nli, w_nlr, ↓w_ts1, ↓w_ts0, w_rcv, w_rfv, w_cs, true_and, and_true, List.length_nil, List.length_cons, Nat.reduceAdd, Nat.reduceLeDiff, Nat.zero_le, Nat.reduceLT, ↓w_nil, ix_nI, nI_leP, nI_ltP, nI_eqP, nI_1, ↓i_inN, i_inN, l_le, l_lt, l_eq, r_le, r_lt, r_eq, sh68_0, sh68_1, sh68_2, sh68_3, sh68_4, ↓w_iload_3, ↓w_aload_0, ↓w_gf0, ↓w_icge, ↓w_ifeq, ↓w_iconst, ↓w_icne, e52]
        repeat' (first
          | (apply And.intro)
          | (simp only [w_in])
          | (intro _))
        all_goals first | (with_reducible exact w0) | omega | grind
    clear e17 hE f2
    refine bX12_seekCause_12 ?_
    simp (disch := first | omega | decide) only [w_nl0, w_nli, w_nlr, ↓w_ts1, ↓w_ts0, w_rcv, w_rfv, w_cs, true_and, and_true, List.length_nil, List.length_cons, Nat.reduceAdd, Nat.reduceLeDiff, Nat.zero_le, Nat.reduceLT, ↓w_nil, ix_nI, nI_leP, nI_ltP, nI_eqP, nI_1, ↓i_inN, i_inN, l_le, l_lt, l_eq, r_le, r_lt, r_eq, sh68_0, sh68_1, sh68_2, sh68_3, sh68_4, ↓w_iconst, ↓w_istore_3]
    repeat' (first
      | (apply And.intro)
      | (simp only [w_in])
      | (intro _))
    all_goals first | (with_reducible exact w13) | omega | grind
  clear e17
  have e10 : ∀ I2 z4 z5 z6 z7, frW I0 I2 → mdH I2 N (wgT c need ms mo (0, I0 68 61, I0 68 60, I0 110, I0 111) []) → UU g (d - 1) 258 kX12_seekCause (pm_rm d 258) Q 10 [some (.ref 68), some (.int t), some (.int (nI ms)), some (.int 0), z4, z5, z6, z7] [] SH I2 J (0, 0) := by
    intro I2 z4 z5 z6 z7 f1 f2
    generalize wgT c need ms mo (0, I0 68 61, I0 68 60, I0 110, I0 111) [] = st2 at e12 f2
    by_cases hg : st2.1 = 0 ∨ st2.2.2.1 = 1
    · refine m_st1 hd hE P 0 (by omega) I2 st2 f1 f2 hg z4 z5 z6 z7 (fun I3 r1 r2 => e12 I3 _ z4 z5 z6 z7 r1 ?_)
      rw [sgS, if_pos hg]; exact r2
    · have w0 := e12 I2 (some (.int 0)) z4 z5 z6 z7 f1 (by rw [sgS, if_neg hg]; exact f2)
      have e52 := (hE.cg f1).2.1.1
      have s1 := f2.1
      have s3 := f2.2.2.1
      rw [← s1, ← s3] at hg
      clear e12 hE f2
      refine bX12_seekCause_10 ?_
      simp (disch := first | omega | decide) only [w_nl0, w_nli, w_nlr, ↓w_ts1, ↓w_ts0, w_rcv, w_rfv, w_cs, true_and, and_true, List.length_nil, List.length_cons, Nat.reduceAdd, Nat.reduceLeDiff, Nat.zero_le, Nat.reduceLT, ↓w_nil, ix_nI, nI_leP, nI_ltP, nI_eqP, nI_1, ↓i_inN, i_inN, l_le, l_lt, l_eq, r_le, r_lt, r_eq, sh68_0, sh68_1, sh68_2, sh68_3, sh68_4, ↓w_iload_3, ↓w_aload_0, ↓w_gf0, ↓w_icge, ↓w_ifeq, ↓w_iconst, ↓w_icne, e52]
      repeat' (first
        | (apply And.intro)
        | (simp only [w_in])
        | (intro _))
      all_goals first | (with_reducible exact w0) | omega | grind
  clear e12
  have hf0 : frW I0 (pm_up I0 68 63 0) := ⟨fun a p1 p2 p3 => pm_up_o p1, fun j p1 p2 p3 => pm_up_n p3⟩
  have hst0 : mdH (pm_up I0 68 63 0) N (0, I0 68 61, I0 68 60, I0 110, I0 111) := ⟨pm_up_s, pm_up_n (by decide), pm_up_n (by decide), fun i _ => by rw [pm_up_o (by decide)], fun k _ => by rw [pm_up_o (by decide)]⟩
  have w : ∀ I3, frW (pm_up I0 68 63 0) I3 → mdH I3 N (wgT c need ms mo (0, I0 68 61, I0 68 60, I0 110, I0 111) []) → UU g (d - 1) 258 kX12_seekCause (pm_rm d 258) Q 10 [some (.ref 68), some (.int t), some (.int (nI ms)), some (.int 0), z4, none, none, none] [] SH I3 J (0, 0) := fun I3 r1 r2 => e10 I3 z4 none none none (hf0.tr r1) r2
  have hw := fun Q2 d2 hd2 => m_w0 (g := g) (Q := Q2) (d := d2) (ms := ms) hd2 (hE.cg hf0) hst0
  clear e10 hE hf0 hst0
  refine bX12_seekCause_9 ?_
  simp (disch := first | omega | decide) only [w_nl0, w_nli, w_nlr, ↓w_ts1, ↓w_ts0, w_rcv, w_rfv, w_cs, true_and, and_true, List.length_nil, List.length_cons, Nat.reduceAdd, Nat.reduceLeDiff, Nat.zero_le, Nat.reduceLT, ↓w_nil, ix_nI, nI_leP, nI_ltP, nI_eqP, nI_1, ↓i_inN, i_inN, l_le, l_lt, l_eq, r_le, r_lt, r_eq, sh68_0, sh68_1, sh68_2, sh68_3, sh68_4, ↓w_aload_0, ↓w_iconst, ↓w_pf0, ↓w_bipush, ↓w_iload_2, ↓w_iv, ↓pm_cl2_6, ↓w_istore_3]
  repeat' (first
    | (apply And.intro)
    | (with_reducible refine hw _ _ (by omega) (fun I3 r1 r2 => ?_) <;> simp (disch := first | omega | decide) only [w_nl0, w_nli, w_nlr, ↓w_ts1, ↓w_ts0, w_rcv, w_rfv, w_cs, true_and, and_true, List.length_nil, List.length_cons, Nat.reduceAdd, Nat.reduceLeDiff, Nat.zero_le, Nat.reduceLT, ↓w_nil, ix_nI, nI_leP, nI_ltP, nI_eqP, nI_1, ↓i_inN, i_inN, l_le, l_lt, l_eq, r_le, r_lt, r_eq, sh68_0, sh68_1, sh68_2, sh68_3, sh68_4, ↓w_aload_0, ↓w_iv, ↓pm_cl2_1, ↓w_lconst0, ↓w_pf1, ↓w_iconst, ↓w_istore_3, ↓w_iload_3, ↓w_bipush, ↓w_icge, ↓w_gf3, ↓w_iastore, ↓w_iinc_3, ↓w_goto, ↓w_gf0, ↓w_iaload, ↓w_iload_1, ↓w_icne, ↓w_imul, ↓w_iadd, ↓w_istore_4, ↓w_dup_i, ↓w_dup_r, ↓w_gf1, ↓w_baload, ↓w_ifeq, ↓w_lconst1, ↓w_iload_4, ↓w_lshl, ↓w_lor, ↓w_dup2, ↓w_pf0, ↓w_iload_2, ↓pm_cl2_6, ↓w_iinc_4, ↓w_laload, ↓w_lstore_5, ↓w_istore_7, ↓w_iload_7, ↓w_lload_5, ↓w_ldc2_17, ↓w_lxor, ↓w_land, ↓w_lcmp, ↓w_ifne, ↓w_iinc_7, ↓w_ifle, ↓w_zret])
    | (simp only [w_in])
    | (intro _))
  all_goals first | (with_reducible exact w _ r1 r2) | omega | grind
end C91n
