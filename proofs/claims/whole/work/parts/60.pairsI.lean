section C60
variable {g : pm_G} {d : Nat} {Q : pm_Po} {S : pm_SS} {I : pm_MI} {J : pm_ML}
theorem lg_le0 {x y : Int64} : (lg_cmp x y ≤ 0) = (x ≤ y) := by
  unfold lg_cmp
  apply propext
  by_cases h : x > y
  · rw [if_pos h]
    constructor
    · intro z; exact absurd z (by decide)
    · intro z; exact absurd (Int64.lt_of_le_of_lt z h) Int64.lt_irrefl
  · rw [if_neg h]
    have h2 : x ≤ y := Int64.not_lt.1 h
    by_cases h3 : x = y
    · rw [if_pos h3]
      exact ⟨fun _ => h2, fun _ => by decide⟩
    · rw [if_neg h3]
      exact ⟨fun _ => h2, fun _ => by decide⟩
theorem lg_ge0 {x y : Int64} : (0 ≤ lg_cmp x y) = (y ≤ x) := by
  unfold lg_cmp
  apply propext
  by_cases h : x > y
  · rw [if_pos h]
    exact ⟨fun _ => Int64.le_of_lt h, fun _ => by decide⟩
  · rw [if_neg h]
    by_cases h3 : x = y
    · rw [if_pos h3]
      exact ⟨fun _ => by rw [h3]; exact Int64.le_refl _, fun _ => by decide⟩
    · rw [if_neg h3]
      refine ⟨fun z => absurd z (by decide), fun z => ?_⟩
      have h2 : x ≤ y := Int64.not_lt.1 h
      exact absurd (Int64.le_antisymm h2 z) h3
theorem lg_gt0 {x y : Int64} : (0 < lg_cmp x y) = (y < x) := by
  have := lg_le0 (x := x) (y := y)
  grind
theorem lg_lt0 {x y : Int64} : (lg_cmp x y < 0) = (x < y) := by
  have := lg_ge0 (x := x) (y := y)
  grind
/-- how many faces of a run are of a side: class, reference -/
def fwV (I : pm_MI) (x s : Int32) : Int32 := (if I 11 (I 28 (2 * x.toNatClampNeg)).toNatClampNeg = s then 1 else 0) + (if I 11 (I 28 (2 * x.toNatClampNeg + 1)).toNatClampNeg = s then 1 else 0)
def foV (I : pm_MI) (x s : Int32) : Int32 := (if I 80 (I 96 x.toNatClampNeg).toNatClampNeg = s then 1 else 0) + (if I 80 (I 97 x.toNatClampNeg).toNatClampNeg = s then 1 else 0)
theorem c_facesWith {x s : Int32} {r n : Nat} (hd : 4 ≤ d) (hn : I 23 7 = nI n) (hn30 : n ≤ 30) (hx : x = nI r) (hr : r < n) (h0 : hasM I (I 28 (2 * r))) (h1 : hasM I (I 28 (2 * r + 1))) (hQ : Q (some (.int (fwV I x s))) SH I J) : pm_C g d 168 [.ref 0, .int x, .int s] Q SH I J := by
  subst hx
  have hh : ∀ k, k < 2 → hasM I (I 28 (2 * r + k)) := by
    intro k hk
    rcases (show k = 0 ∨ k = 1 by omega) with rfl | rfl
    · exact h0
    · exact h1
  have e : fwV I (nI r) s = itr (fun k (a : Int32) => if I 11 (I 28 (2 * r + k)).toNatClampNeg = s then a + 1 else a) 0 2 := by
    unfold fwV
    rw [ix_nI (by omega)]
    simp only [itr, Nat.add_zero]
    grind
  rw [e] at hQ
  clear e h0 h1
  refine eX11_facesWith (by omega) ?_
  refine bX11_facesWith_0 ?_
  simp (disch := first | omega | decide) only [w_nl0, w_nli, w_nlr, ↓w_ts1, ↓w_ts0, w_rcv, w_rfv, w_cs, true_and, and_true, List.length_nil, List.length_cons, Nat.reduceAdd, Nat.reduceLeDiff, Nat.zero_le, Nat.reduceLT, ↓w_nil, ix_nI, nI_leP, nI_ltP, nI_eqP, nI_1, ↓i_inN, i_inN, l_le, l_lt, l_eq, r_le, r_lt, r_eq, sh0, sh1, sh55, sh60, sh9, sh31, sh23, sh37, sh42, sh43, sh19, sh3, sh6, ↓w_iconst, ↓w_istore_3, ↓w_istore_4]
  refine pm_for (f := fun k (a : Int32) => if I 11 (I 28 (2 * r + k)).toNatClampNeg = s then a + 1 else a) (U := fun k a => UU g (d - 1) 168 kX11_facesWith (pm_rm d 168) Q 1 [some (.ref 0), some (.int (nI r)), some (.int s), some (.int a), some (.int (nI k))] [] SH I J (0, 0)) 2 (fun k b hk hb w => ?_) ?_
  · have hk1 := hh k hk
    clear hh
    refine bX11_facesWith_1 ?_
    simp (disch := first | omega | decide) only [w_nl0, w_nli, w_nlr, ↓w_ts1, ↓w_ts0, w_rcv, w_rfv, w_cs, true_and, and_true, List.length_nil, List.length_cons, Nat.reduceAdd, Nat.reduceLeDiff, Nat.zero_le, Nat.reduceLT, ↓w_nil, ix_nI, nI_leP, nI_ltP, nI_eqP, nI_1, ↓i_inN, i_inN, l_le, l_lt, l_eq, r_le, r_lt, r_eq, sh0, sh1, sh55, sh60, sh9, sh31, sh23, sh37, sh42, sh43, sh19, sh3, sh6, ↓w_iload_4, ↓w_iconst, ↓w_icge, ↓w_aload_0, ↓w_gf3, ↓w_iload_1, ↓w_iv, ↓pm_cl2_3, ↓pm_cl2_2, ↓w_iload_2, ↓w_icne, ↓w_iinc_3]
    repeat' (first
      | (apply And.intro)
      | (with_reducible refine bX11_facesWith_2 ?_; simp (disch := first | omega | decide) only [w_nl0, w_nli, w_nlr, ↓w_ts1, ↓w_ts0, w_rcv, w_rfv, w_cs, true_and, and_true, List.length_nil, List.length_cons, Nat.reduceAdd, Nat.reduceLeDiff, Nat.zero_le, Nat.reduceLT, ↓w_nil, ix_nI, nI_leP, nI_ltP, nI_eqP, nI_1, ↓i_inN, i_inN, l_le, l_lt, l_eq, r_le, r_lt, r_eq, sh0, sh1, sh55, sh60, sh9, sh31, sh23, sh37, sh42, sh43, sh19, sh3, sh6, ↓w_iconst, ↓w_istore_3, ↓w_istore_4, ↓w_iload_4, ↓w_icge, ↓w_aload_0, ↓w_gf3, ↓w_iload_1, ↓w_iv, ↓pm_cl2_3, ↓pm_cl2_2, ↓w_iload_2, ↓w_icne, ↓w_iinc_3, ↓w_iinc_4, ↓w_goto, ↓w_iload_3, ↓w_ret])
      | (with_reducible refine c_R_stamper (by omega) hn hn30 hr (by assumption) ?_ ; simp (disch := first | omega | decide) only [w_nl0, w_nli, w_nlr, ↓w_ts1, ↓w_ts0, w_rcv, w_rfv, w_cs, true_and, and_true, List.length_nil, List.length_cons, Nat.reduceAdd, Nat.reduceLeDiff, Nat.zero_le, Nat.reduceLT, ↓w_nil, ix_nI, nI_leP, nI_ltP, nI_eqP, nI_1, ↓i_inN, i_inN, l_le, l_lt, l_eq, r_le, r_lt, r_eq, sh0, sh1, sh55, sh60, sh9, sh31, sh23, sh37, sh42, sh43, sh19, sh3, sh6, ↓w_iconst, ↓w_istore_3, ↓w_istore_4, ↓w_iload_4, ↓w_icge, ↓w_aload_0, ↓w_gf3, ↓w_iload_1, ↓w_iv, ↓pm_cl2_3, ↓pm_cl2_2, ↓w_iload_2, ↓w_icne, ↓w_iinc_3, ↓w_iinc_4, ↓w_goto, ↓w_iload_3, ↓w_ret])
      | (with_reducible refine c_sideOf (by omega) ?_ ; simp (disch := first | omega | decide) only [w_nl0, w_nli, w_nlr, ↓w_ts1, ↓w_ts0, w_rcv, w_rfv, w_cs, true_and, and_true, List.length_nil, List.length_cons, Nat.reduceAdd, Nat.reduceLeDiff, Nat.zero_le, Nat.reduceLT, ↓w_nil, ix_nI, nI_leP, nI_ltP, nI_eqP, nI_1, ↓i_inN, i_inN, l_le, l_lt, l_eq, r_le, r_lt, r_eq, sh0, sh1, sh55, sh60, sh9, sh31, sh23, sh37, sh42, sh43, sh19, sh3, sh6, ↓w_iconst, ↓w_istore_3, ↓w_istore_4, ↓w_iload_4, ↓w_icge, ↓w_aload_0, ↓w_gf3, ↓w_iload_1, ↓w_iv, ↓pm_cl2_3, ↓pm_cl2_2, ↓w_iload_2, ↓w_icne, ↓w_iinc_3, ↓w_iinc_4, ↓w_goto, ↓w_iload_3, ↓w_ret])
      | (simp only [w_in])
      | (intro _))
    all_goals grind
  · refine bX11_facesWith_1 ?_
    simp (disch := first | omega | decide) only [w_nl0, w_nli, w_nlr, ↓w_ts1, ↓w_ts0, w_rcv, w_rfv, w_cs, true_and, and_true, List.length_nil, List.length_cons, Nat.reduceAdd, Nat.reduceLeDiff, Nat.zero_le, Nat.reduceLT, ↓w_nil, ix_nI, nI_leP, nI_ltP, nI_eqP, nI_1, ↓i_inN, i_inN, l_le, l_lt, l_eq, r_le, r_lt, r_eq, sh0, sh1, sh55, sh60, sh9, sh31, sh23, sh37, sh42, sh43, sh19, sh3, sh6, ↓w_iload_4, ↓w_iconst, ↓w_icge, ↓w_aload_0, ↓w_gf3, ↓w_iload_1, ↓w_iv, ↓pm_cl2_3, ↓pm_cl2_2, ↓w_iload_2, ↓w_icne, ↓w_iinc_3]
    repeat' (first
      | (apply And.intro)
      | (with_reducible refine bX11_facesWith_3 ?_; simp (disch := first | omega | decide) only [w_nl0, w_nli, w_nlr, ↓w_ts1, ↓w_ts0, w_rcv, w_rfv, w_cs, true_and, and_true, List.length_nil, List.length_cons, Nat.reduceAdd, Nat.reduceLeDiff, Nat.zero_le, Nat.reduceLT, ↓w_nil, ix_nI, nI_leP, nI_ltP, nI_eqP, nI_1, ↓i_inN, i_inN, l_le, l_lt, l_eq, r_le, r_lt, r_eq, sh0, sh1, sh55, sh60, sh9, sh31, sh23, sh37, sh42, sh43, sh19, sh3, sh6, ↓w_iconst, ↓w_istore_3, ↓w_istore_4, ↓w_iload_4, ↓w_icge, ↓w_aload_0, ↓w_gf3, ↓w_iload_1, ↓w_iv, ↓pm_cl2_3, ↓pm_cl2_2, ↓w_iload_2, ↓w_icne, ↓w_iinc_3, ↓w_iinc_4, ↓w_goto, ↓w_iload_3, ↓w_ret])
      | (simp only [w_in])
      | (intro _))
    all_goals grind
theorem m_facesOf {x s : Int32} {r a b : Nat} (hd : 1 ≤ d) (hx : x = nI r) (hr : r < 30) (ha : I 96 r = nI a) (ha40 : a < 40) (hb : I 97 r = nI b) (hb40 : b < 40) (hQ : Q (some (.int (foV I x s))) SH I J) : pm_C g d 277 [.ref 68, .int x, .int s] Q SH I J := by
  subst hx
  unfold foV at hQ
  rw [ix_nI (by omega), ha, hb, ix_nI (by omega), ix_nI (by omega)] at hQ
  refine eX12_facesOf (by omega) ?_
  repeat' (first
    | (apply And.intro)
    | (with_reducible refine bX12_facesOf_0 ?_; simp (disch := first | omega | decide) only [w_nl0, w_nli, w_nlr, ↓w_ts1, ↓w_ts0, w_rcv, w_rfv, w_cs, true_and, and_true, List.length_nil, List.length_cons, Nat.reduceAdd, Nat.reduceLeDiff, Nat.zero_le, Nat.reduceLT, ↓w_nil, ix_nI, nI_leP, nI_ltP, nI_eqP, nI_1, ↓i_inN, i_inN, l_le, l_lt, l_eq, r_le, r_lt, r_eq, sh68_0, sh68_1, sh68_2, sh68_3, sh68_4, ↓w_aload_0, ↓w_gf3, ↓w_iload_1, ↓w_iaload, ↓w_iload_2, ↓w_icne, ↓w_iconst, ↓w_goto, ↓w_iadd, ↓w_ret, ha, hb])
    | (with_reducible refine bX12_facesOf_1 ?_; simp (disch := first | omega | decide) only [w_nl0, w_nli, w_nlr, ↓w_ts1, ↓w_ts0, w_rcv, w_rfv, w_cs, true_and, and_true, List.length_nil, List.length_cons, Nat.reduceAdd, Nat.reduceLeDiff, Nat.zero_le, Nat.reduceLT, ↓w_nil, ix_nI, nI_leP, nI_ltP, nI_eqP, nI_1, ↓i_inN, i_inN, l_le, l_lt, l_eq, r_le, r_lt, r_eq, sh68_0, sh68_1, sh68_2, sh68_3, sh68_4, ↓w_aload_0, ↓w_gf3, ↓w_iload_1, ↓w_iaload, ↓w_iload_2, ↓w_icne, ↓w_iconst, ↓w_goto, ↓w_iadd, ↓w_ret, ha, hb])
    | (with_reducible refine bX12_facesOf_2 ?_; simp (disch := first | omega | decide) only [w_nl0, w_nli, w_nlr, ↓w_ts1, ↓w_ts0, w_rcv, w_rfv, w_cs, true_and, and_true, List.length_nil, List.length_cons, Nat.reduceAdd, Nat.reduceLeDiff, Nat.zero_le, Nat.reduceLT, ↓w_nil, ix_nI, nI_leP, nI_ltP, nI_eqP, nI_1, ↓i_inN, i_inN, l_le, l_lt, l_eq, r_le, r_lt, r_eq, sh68_0, sh68_1, sh68_2, sh68_3, sh68_4, ↓w_aload_0, ↓w_gf3, ↓w_iload_1, ↓w_iaload, ↓w_iload_2, ↓w_icne, ↓w_iconst, ↓w_goto, ↓w_iadd, ↓w_ret, ha, hb])
    | (with_reducible refine bX12_facesOf_3 ?_; simp (disch := first | omega | decide) only [w_nl0, w_nli, w_nlr, ↓w_ts1, ↓w_ts0, w_rcv, w_rfv, w_cs, true_and, and_true, List.length_nil, List.length_cons, Nat.reduceAdd, Nat.reduceLeDiff, Nat.zero_le, Nat.reduceLT, ↓w_nil, ix_nI, nI_leP, nI_ltP, nI_eqP, nI_1, ↓i_inN, i_inN, l_le, l_lt, l_eq, r_le, r_lt, r_eq, sh68_0, sh68_1, sh68_2, sh68_3, sh68_4, ↓w_aload_0, ↓w_gf3, ↓w_iload_1, ↓w_iaload, ↓w_iload_2, ↓w_icne, ↓w_iconst, ↓w_goto, ↓w_iadd, ↓w_ret, ha, hb])
    | (with_reducible refine bX12_facesOf_4 ?_; simp (disch := first | omega | decide) only [w_nl0, w_nli, w_nlr, ↓w_ts1, ↓w_ts0, w_rcv, w_rfv, w_cs, true_and, and_true, List.length_nil, List.length_cons, Nat.reduceAdd, Nat.reduceLeDiff, Nat.zero_le, Nat.reduceLT, ↓w_nil, ix_nI, nI_leP, nI_ltP, nI_eqP, nI_1, ↓i_inN, i_inN, l_le, l_lt, l_eq, r_le, r_lt, r_eq, sh68_0, sh68_1, sh68_2, sh68_3, sh68_4, ↓w_aload_0, ↓w_gf3, ↓w_iload_1, ↓w_iaload, ↓w_iload_2, ↓w_icne, ↓w_iconst, ↓w_goto, ↓w_iadd, ↓w_ret, ha, hb])
    | (simp only [w_in])
    | (intro _))
  all_goals grind
theorem foV_up {x s v : Int32} {a i : Nat} (h1 : a ≠ 80) (h2 : a ≠ 96) (h3 : a ≠ 97) : foV (pm_up I a i v) x s = foV I x s := by
  unfold foV
  rw [pm_up_o (Ne.symm h1), pm_up_o (Ne.symm h2), pm_up_o (Ne.symm h3)]
/-- what the sums over the sales need of sales and runs -/
def FK (I : pm_MI) (N M : Nat) : Prop := ∀ k, k < M → ∃ r a b, r < N ∧ I 56 k = nI r ∧ hasM I (I 28 (2 * r)) ∧ hasM I (I 28 (2 * r + 1)) ∧ I 96 r = I 28 (2 * r) ∧ I 97 r = I 28 (2 * r + 1) ∧ a < 40 ∧ I 96 r = nI a ∧ b < 40 ∧ I 97 r = nI b
theorem rel_fk {I : pm_MI} {J : pm_ML} {N M : Nat} (h : Rel I J) (hN : I 23 7 = nI N) (hN30 : N ≤ 30) (hM : I 55 4 = nI M) (hM60 : M ≤ 60) : FK I N M := by
  intro k hk
  obtain ⟨q1, q2, q3, q4, q5, M', hM', hM2, hs⟩ := h.2.2.2.2.2.2.2.2.2.1
  have := nI_inj (by omega) (by omega) (hM.symm.trans hM2)
  subst this
  obtain ⟨n1, p1, p2, p3, p4, p5, p6, N', hN', hN2, hr⟩ := h.2.2.2.2.2.2.1
  have := nI_inj (by omega) (by omega) (hN.symm.trans hN2)
  subst this
  have h1 := (hs k hk).1
  rw [hN] at h1
  obtain ⟨r, hrN, e⟩ := i_q (by omega) h1.1 h1.2
  obtain ⟨a1, a2, a3, a4, _⟩ := hr r hrN
  obtain ⟨_, _, _, _, _, _, _, _, _, _, _, _, K, hK, hK2, _, _⟩ := h.2.2.2.2.1
  have i1 := (hasM_iff (x := I 28 (2 * r)) hK2 hK).2 (by rw [← hK2]; exact a3)
  have i2 := (hasM_iff (x := I 28 (2 * r + 1)) hK2 hK).2 (by rw [← hK2]; exact a4)
  obtain ⟨a, ha, e1⟩ := i_hasM hK2 hK i1
  obtain ⟨b, hb, e2⟩ := i_hasM hK2 hK i2
  exact ⟨r, a, b, hrN, e, i1, i2, a1, a2, by omega, a1.trans e1, by omega, a2.trans e2⟩
theorem fo_fw {x s : Int32} {r : Nat} (e : I 80 = I 11) (hx : x = nI r) (hr : r < 30) (h0 : I 96 r = I 28 (2 * r)) (h1 : I 97 r = I 28 (2 * r + 1)) : foV I x s = fwV I x s := by
  subst hx
  unfold foV fwV
  rw [ix_nI (by omega), e, h0, h1]
theorem up_id {a i : Nat} : pm_up I a i (I a i) = I := by
  funext b j
  by_cases h : b = a
  · subst h
    rw [up_at]
    split
    · rename_i e
      rw [e]
    · rfl
  · rw [pm_up_o h]
theorem rel_pence {I : pm_MI} {J : pm_ML} {v : Int64} (h : RelW I J) : RelW I (pm_upL (pm_upL J 1 5 v) 68 72 v) := by
  obtain ⟨_, a1, a2, a3, a4, a5, a6, a7, a8, a9, a10, a11, a12⟩ := h
  obtain ⟨b1, b2, b3, b4, b5, b6⟩ := a1
  refine ⟨trivial, ?_, a2, a3, a4, a5, a6, a7, a8, a9, a10, a11, a12⟩
  simp (disch := decide) only [pm_upL_o, pm_upL_n, pm_upL_s]
  exact ⟨b1, b2, b3, b4, b5, rfl⟩
def oweS (I : pm_MI) (s l u v : Int32) (t R : Nat) (k : Nat) (a : Int64) : Int64 := if I 58 k = l ∧ u ≤ I 59 k ∧ I 59 k ≤ v then a + (ifV I t (I 59 k) (I 59 k) R).toInt64 * (I 57 k).toInt64 * (fwV I (I 56 k) s).toInt64 else a
theorem c_owe {s l u v : Int32} {t R N M : Nat} (hd : 8 ≤ d) (hg : (0 ≤ s ∧ s < 20) ∧ (0 ≤ l ∧ l < 8) ∧ (0 ≤ u ∧ u ≤ 999) ∧ (0 ≤ v ∧ v ≤ 999) ∧ u ≤ v) (hR2 : I 31 5 = nI R) (hR : R ≤ 24) (ht2 : 17 + l = nI t) (ht : t < 33) (hN2 : I 23 7 = nI N) (hN : N ≤ 30) (hM2 : I 55 4 = nI M) (hM : M ≤ 60) (hfk : FK I N M) (hQ : Q (some (.int 1)) SH I (pm_upL J 1 5 (itr (oweS I s l u v t R) 0 M))) : pm_C g d 167 [.ref 0, .int s, .int l, .int u, .int v] Q SH I J := by
  refine eX11_owe (by omega) ?_
  repeat' (first
    | (apply And.intro)
    | (with_reducible refine bX11_owe_0 ?_; simp (disch := first | omega | decide) only [w_nl0, w_nli, w_nlr, ↓w_ts1, ↓w_ts0, w_rcv, w_rfv, w_cs, true_and, and_true, List.length_nil, List.length_cons, Nat.reduceAdd, Nat.reduceLeDiff, Nat.zero_le, Nat.reduceLT, ↓w_nil, ix_nI, nI_leP, nI_ltP, nI_eqP, nI_1, ↓i_inN, i_inN, l_le, l_lt, l_eq, r_le, r_lt, r_eq, sh0, sh1, sh55, sh60, sh9, sh31, sh23, sh37, sh42, sh43, sh19, sh3, sh6, ↓w_iload_1, ↓w_bipush, ↓w_is, ↓pm_cl1_2, ↓w_ifeq, ↓w_iload_2, ↓w_iload_3, ↓pm_cl1_1, ↓w_iload_4, ↓w_ifne, ↓w_iconst, ↓w_ret, ↓w_icle, ↓w_lconst0, ↓w_lstore_5, ↓w_istore_7, ↓w_iload_7, ↓w_aload_0, ↓w_gf3, ↓w_gf0, ↓w_icge, ↓w_iaload, ↓w_istore_8, ↓w_icne, ↓w_iload_8, ↓w_iclt, ↓w_icgt, ↓w_iv, ↓pm_cl2_4, ↓w_i2l, ↓w_lstore_9, ↓w_lload_5, ↓w_lload_9, ↓w_lmul, ↓pm_cl2_3, ↓w_ladd, ↓w_iinc_7, ↓w_goto, ↓w_pf1])
    | (with_reducible refine bX11_owe_1 ?_; simp (disch := first | omega | decide) only [w_nl0, w_nli, w_nlr, ↓w_ts1, ↓w_ts0, w_rcv, w_rfv, w_cs, true_and, and_true, List.length_nil, List.length_cons, Nat.reduceAdd, Nat.reduceLeDiff, Nat.zero_le, Nat.reduceLT, ↓w_nil, ix_nI, nI_leP, nI_ltP, nI_eqP, nI_1, ↓i_inN, i_inN, l_le, l_lt, l_eq, r_le, r_lt, r_eq, sh0, sh1, sh55, sh60, sh9, sh31, sh23, sh37, sh42, sh43, sh19, sh3, sh6, ↓w_iload_1, ↓w_bipush, ↓w_is, ↓pm_cl1_2, ↓w_ifeq, ↓w_iload_2, ↓w_iload_3, ↓pm_cl1_1, ↓w_iload_4, ↓w_ifne, ↓w_iconst, ↓w_ret, ↓w_icle, ↓w_lconst0, ↓w_lstore_5, ↓w_istore_7, ↓w_iload_7, ↓w_aload_0, ↓w_gf3, ↓w_gf0, ↓w_icge, ↓w_iaload, ↓w_istore_8, ↓w_icne, ↓w_iload_8, ↓w_iclt, ↓w_icgt, ↓w_iv, ↓pm_cl2_4, ↓w_i2l, ↓w_lstore_9, ↓w_lload_5, ↓w_lload_9, ↓w_lmul, ↓pm_cl2_3, ↓w_ladd, ↓w_iinc_7, ↓w_goto, ↓w_pf1])
    | (with_reducible refine bX11_owe_2 ?_; simp (disch := first | omega | decide) only [w_nl0, w_nli, w_nlr, ↓w_ts1, ↓w_ts0, w_rcv, w_rfv, w_cs, true_and, and_true, List.length_nil, List.length_cons, Nat.reduceAdd, Nat.reduceLeDiff, Nat.zero_le, Nat.reduceLT, ↓w_nil, ix_nI, nI_leP, nI_ltP, nI_eqP, nI_1, ↓i_inN, i_inN, l_le, l_lt, l_eq, r_le, r_lt, r_eq, sh0, sh1, sh55, sh60, sh9, sh31, sh23, sh37, sh42, sh43, sh19, sh3, sh6, ↓w_iload_1, ↓w_bipush, ↓w_is, ↓pm_cl1_2, ↓w_ifeq, ↓w_iload_2, ↓w_iload_3, ↓pm_cl1_1, ↓w_iload_4, ↓w_ifne, ↓w_iconst, ↓w_ret, ↓w_icle, ↓w_lconst0, ↓w_lstore_5, ↓w_istore_7, ↓w_iload_7, ↓w_aload_0, ↓w_gf3, ↓w_gf0, ↓w_icge, ↓w_iaload, ↓w_istore_8, ↓w_icne, ↓w_iload_8, ↓w_iclt, ↓w_icgt, ↓w_iv, ↓pm_cl2_4, ↓w_i2l, ↓w_lstore_9, ↓w_lload_5, ↓w_lload_9, ↓w_lmul, ↓pm_cl2_3, ↓w_ladd, ↓w_iinc_7, ↓w_goto, ↓w_pf1])
    | (with_reducible refine bX11_owe_3 ?_; simp (disch := first | omega | decide) only [w_nl0, w_nli, w_nlr, ↓w_ts1, ↓w_ts0, w_rcv, w_rfv, w_cs, true_and, and_true, List.length_nil, List.length_cons, Nat.reduceAdd, Nat.reduceLeDiff, Nat.zero_le, Nat.reduceLT, ↓w_nil, ix_nI, nI_leP, nI_ltP, nI_eqP, nI_1, ↓i_inN, i_inN, l_le, l_lt, l_eq, r_le, r_lt, r_eq, sh0, sh1, sh55, sh60, sh9, sh31, sh23, sh37, sh42, sh43, sh19, sh3, sh6, ↓w_iload_1, ↓w_bipush, ↓w_is, ↓pm_cl1_2, ↓w_ifeq, ↓w_iload_2, ↓w_iload_3, ↓pm_cl1_1, ↓w_iload_4, ↓w_ifne, ↓w_iconst, ↓w_ret, ↓w_icle, ↓w_lconst0, ↓w_lstore_5, ↓w_istore_7, ↓w_iload_7, ↓w_aload_0, ↓w_gf3, ↓w_gf0, ↓w_icge, ↓w_iaload, ↓w_istore_8, ↓w_icne, ↓w_iload_8, ↓w_iclt, ↓w_icgt, ↓w_iv, ↓pm_cl2_4, ↓w_i2l, ↓w_lstore_9, ↓w_lload_5, ↓w_lload_9, ↓w_lmul, ↓pm_cl2_3, ↓w_ladd, ↓w_iinc_7, ↓w_goto, ↓w_pf1])
    | (with_reducible refine c_below (by omega) ?_ ; simp (disch := first | omega | decide) only [w_nl0, w_nli, w_nlr, ↓w_ts1, ↓w_ts0, w_rcv, w_rfv, w_cs, true_and, and_true, List.length_nil, List.length_cons, Nat.reduceAdd, Nat.reduceLeDiff, Nat.zero_le, Nat.reduceLT, ↓w_nil, ix_nI, nI_leP, nI_ltP, nI_eqP, nI_1, ↓i_inN, i_inN, l_le, l_lt, l_eq, r_le, r_lt, r_eq, sh0, sh1, sh55, sh60, sh9, sh31, sh23, sh37, sh42, sh43, sh19, sh3, sh6, ↓w_iload_1, ↓w_bipush, ↓w_is, ↓pm_cl1_2, ↓w_ifeq, ↓w_iload_2, ↓w_iload_3, ↓pm_cl1_1, ↓w_iload_4, ↓w_ifne, ↓w_iconst, ↓w_ret, ↓w_icle, ↓w_lconst0, ↓w_lstore_5, ↓w_istore_7, ↓w_iload_7, ↓w_aload_0, ↓w_gf3, ↓w_gf0, ↓w_icge, ↓w_iaload, ↓w_istore_8, ↓w_icne, ↓w_iload_8, ↓w_iclt, ↓w_icgt, ↓w_iv, ↓pm_cl2_4, ↓w_i2l, ↓w_lstore_9, ↓w_lload_5, ↓w_lload_9, ↓w_lmul, ↓pm_cl2_3, ↓w_ladd, ↓w_iinc_7, ↓w_goto, ↓w_pf1])
    | (with_reducible refine c_isDay (by omega) ?_ ; simp (disch := first | omega | decide) only [w_nl0, w_nli, w_nlr, ↓w_ts1, ↓w_ts0, w_rcv, w_rfv, w_cs, true_and, and_true, List.length_nil, List.length_cons, Nat.reduceAdd, Nat.reduceLeDiff, Nat.zero_le, Nat.reduceLT, ↓w_nil, ix_nI, nI_leP, nI_ltP, nI_eqP, nI_1, ↓i_inN, i_inN, l_le, l_lt, l_eq, r_le, r_lt, r_eq, sh0, sh1, sh55, sh60, sh9, sh31, sh23, sh37, sh42, sh43, sh19, sh3, sh6, ↓w_iload_1, ↓w_bipush, ↓w_is, ↓pm_cl1_2, ↓w_ifeq, ↓w_iload_2, ↓w_iload_3, ↓pm_cl1_1, ↓w_iload_4, ↓w_ifne, ↓w_iconst, ↓w_ret, ↓w_icle, ↓w_lconst0, ↓w_lstore_5, ↓w_istore_7, ↓w_iload_7, ↓w_aload_0, ↓w_gf3, ↓w_gf0, ↓w_icge, ↓w_iaload, ↓w_istore_8, ↓w_icne, ↓w_iload_8, ↓w_iclt, ↓w_icgt, ↓w_iv, ↓pm_cl2_4, ↓w_i2l, ↓w_lstore_9, ↓w_lload_5, ↓w_lload_9, ↓w_lmul, ↓pm_cl2_3, ↓w_ladd, ↓w_iinc_7, ↓w_goto, ↓w_pf1])
    | (simp only [w_in])
    | (intro _))
  all_goals try grind
  refine pm_for (f := oweS I s l u v t R) (U := fun k a => UU g (d - 1) 167 kX11_owe (pm_rm d 167) Q 4 [some (.ref 0), some (.int s), some (.int l), some (.int u), some (.int v), some (.long a), none, some (.int (nI k)), none, none, none] [] SH I J (0, 0)) M (fun k b hk hb w => ?_) ?_
  · replace w : ∀ x y z, UU g (d - 1) 167 kX11_owe (pm_rm d 167) Q 4 [some (.ref 0), some (.int s), some (.int l), some (.int u), some (.int v), some (.long (oweS I s l u v t R k b)), none, some (.int (nI (k + 1))), x, y, z] [] SH I J (0, 0) := fun x y z => u_less _ (by simp [pm_le]) w
    obtain ⟨r, a1, b1, hr, e1, i1, i2, _⟩ := hfk k hk
    clear hb hfk hQ
    unfold oweS at w
    refine bX11_owe_4 ?_
    simp (disch := first | omega | decide) only [w_nl0, w_nli, w_nlr, ↓w_ts1, ↓w_ts0, w_rcv, w_rfv, w_cs, true_and, and_true, List.length_nil, List.length_cons, Nat.reduceAdd, Nat.reduceLeDiff, Nat.zero_le, Nat.reduceLT, ↓w_nil, ix_nI, nI_leP, nI_ltP, nI_eqP, nI_1, ↓i_inN, i_inN, l_le, l_lt, l_eq, r_le, r_lt, r_eq, sh0, sh1, sh55, sh60, sh9, sh31, sh23, sh37, sh42, sh43, sh19, sh3, sh6, ↓w_iload_7, ↓w_aload_0, ↓w_gf3, ↓w_gf0, ↓w_icge, ↓w_iaload, ↓w_istore_8, ↓w_iload_2, ↓w_icne, ↓w_iload_8, ↓w_iload_3, ↓w_iclt, ↓w_iload_4, ↓w_icgt, ↓w_is, ↓pm_cl1_1, ↓w_iv, ↓pm_cl2_4, ↓w_i2l, ↓w_lstore_9, ↓w_lload_5, ↓w_lload_9, ↓w_lmul, ↓w_iload_1, ↓pm_cl2_3, ↓w_ladd, ↓w_lstore_5, hM2]
    repeat' (first
      | (apply And.intro)
      | (with_reducible refine bX11_owe_5 ?_; simp (disch := first | omega | decide) only [w_nl0, w_nli, w_nlr, ↓w_ts1, ↓w_ts0, w_rcv, w_rfv, w_cs, true_and, and_true, List.length_nil, List.length_cons, Nat.reduceAdd, Nat.reduceLeDiff, Nat.zero_le, Nat.reduceLT, ↓w_nil, ix_nI, nI_leP, nI_ltP, nI_eqP, nI_1, ↓i_inN, i_inN, l_le, l_lt, l_eq, r_le, r_lt, r_eq, sh0, sh1, sh55, sh60, sh9, sh31, sh23, sh37, sh42, sh43, sh19, sh3, sh6, ↓w_iload_1, ↓w_bipush, ↓w_is, ↓pm_cl1_2, ↓w_ifeq, ↓w_iload_2, ↓w_iload_3, ↓pm_cl1_1, ↓w_iload_4, ↓w_ifne, ↓w_iconst, ↓w_ret, ↓w_icle, ↓w_lconst0, ↓w_lstore_5, ↓w_istore_7, ↓w_iload_7, ↓w_aload_0, ↓w_gf3, ↓w_gf0, ↓w_icge, ↓w_iaload, ↓w_istore_8, ↓w_icne, ↓w_iload_8, ↓w_iclt, ↓w_icgt, ↓w_iv, ↓pm_cl2_4, ↓w_i2l, ↓w_lstore_9, ↓w_lload_5, ↓w_lload_9, ↓w_lmul, ↓pm_cl2_3, ↓w_ladd, ↓w_iinc_7, ↓w_goto, ↓w_pf1])
      | (with_reducible refine c_paying (by omega) ?_ ; simp (disch := first | omega | decide) only [w_nl0, w_nli, w_nlr, ↓w_ts1, ↓w_ts0, w_rcv, w_rfv, w_cs, true_and, and_true, List.length_nil, List.length_cons, Nat.reduceAdd, Nat.reduceLeDiff, Nat.zero_le, Nat.reduceLT, ↓w_nil, ix_nI, nI_leP, nI_ltP, nI_eqP, nI_1, ↓i_inN, i_inN, l_le, l_lt, l_eq, r_le, r_lt, r_eq, sh0, sh1, sh55, sh60, sh9, sh31, sh23, sh37, sh42, sh43, sh19, sh3, sh6, ↓w_iload_1, ↓w_bipush, ↓w_is, ↓pm_cl1_2, ↓w_ifeq, ↓w_iload_2, ↓w_iload_3, ↓pm_cl1_1, ↓w_iload_4, ↓w_ifne, ↓w_iconst, ↓w_ret, ↓w_icle, ↓w_lconst0, ↓w_lstore_5, ↓w_istore_7, ↓w_iload_7, ↓w_aload_0, ↓w_gf3, ↓w_gf0, ↓w_icge, ↓w_iaload, ↓w_istore_8, ↓w_icne, ↓w_iload_8, ↓w_iclt, ↓w_icgt, ↓w_iv, ↓pm_cl2_4, ↓w_i2l, ↓w_lstore_9, ↓w_lload_5, ↓w_lload_9, ↓w_lmul, ↓pm_cl2_3, ↓w_ladd, ↓w_iinc_7, ↓w_goto, ↓w_pf1])
      | (with_reducible refine c_inForce (t := t) (by omega) hR2 hR ht2 ht ?_ ; simp (disch := first | omega | decide) only [w_nl0, w_nli, w_nlr, ↓w_ts1, ↓w_ts0, w_rcv, w_rfv, w_cs, true_and, and_true, List.length_nil, List.length_cons, Nat.reduceAdd, Nat.reduceLeDiff, Nat.zero_le, Nat.reduceLT, ↓w_nil, ix_nI, nI_leP, nI_ltP, nI_eqP, nI_1, ↓i_inN, i_inN, l_le, l_lt, l_eq, r_le, r_lt, r_eq, sh0, sh1, sh55, sh60, sh9, sh31, sh23, sh37, sh42, sh43, sh19, sh3, sh6, ↓w_iload_1, ↓w_bipush, ↓w_is, ↓pm_cl1_2, ↓w_ifeq, ↓w_iload_2, ↓w_iload_3, ↓pm_cl1_1, ↓w_iload_4, ↓w_ifne, ↓w_iconst, ↓w_ret, ↓w_icle, ↓w_lconst0, ↓w_lstore_5, ↓w_istore_7, ↓w_iload_7, ↓w_aload_0, ↓w_gf3, ↓w_gf0, ↓w_icge, ↓w_iaload, ↓w_istore_8, ↓w_icne, ↓w_iload_8, ↓w_iclt, ↓w_icgt, ↓w_iv, ↓pm_cl2_4, ↓w_i2l, ↓w_lstore_9, ↓w_lload_5, ↓w_lload_9, ↓w_lmul, ↓pm_cl2_3, ↓w_ladd, ↓w_iinc_7, ↓w_goto, ↓w_pf1])
      | (with_reducible refine c_facesWith (by omega) hN2 hN e1 hr i1 i2 ?_ ; simp (disch := first | omega | decide) only [w_nl0, w_nli, w_nlr, ↓w_ts1, ↓w_ts0, w_rcv, w_rfv, w_cs, true_and, and_true, List.length_nil, List.length_cons, Nat.reduceAdd, Nat.reduceLeDiff, Nat.zero_le, Nat.reduceLT, ↓w_nil, ix_nI, nI_leP, nI_ltP, nI_eqP, nI_1, ↓i_inN, i_inN, l_le, l_lt, l_eq, r_le, r_lt, r_eq, sh0, sh1, sh55, sh60, sh9, sh31, sh23, sh37, sh42, sh43, sh19, sh3, sh6, ↓w_iload_1, ↓w_bipush, ↓w_is, ↓pm_cl1_2, ↓w_ifeq, ↓w_iload_2, ↓w_iload_3, ↓pm_cl1_1, ↓w_iload_4, ↓w_ifne, ↓w_iconst, ↓w_ret, ↓w_icle, ↓w_lconst0, ↓w_lstore_5, ↓w_istore_7, ↓w_iload_7, ↓w_aload_0, ↓w_gf3, ↓w_gf0, ↓w_icge, ↓w_iaload, ↓w_istore_8, ↓w_icne, ↓w_iload_8, ↓w_iclt, ↓w_icgt, ↓w_iv, ↓pm_cl2_4, ↓w_i2l, ↓w_lstore_9, ↓w_lload_5, ↓w_lload_9, ↓w_lmul, ↓pm_cl2_3, ↓w_ladd, ↓w_iinc_7, ↓w_goto, ↓w_pf1])
      | (simp only [w_in])
      | (intro _))
    all_goals grind
  · refine bX11_owe_4 ?_
    simp (disch := first | omega | decide) only [w_nl0, w_nli, w_nlr, ↓w_ts1, ↓w_ts0, w_rcv, w_rfv, w_cs, true_and, and_true, List.length_nil, List.length_cons, Nat.reduceAdd, Nat.reduceLeDiff, Nat.zero_le, Nat.reduceLT, ↓w_nil, ix_nI, nI_leP, nI_ltP, nI_eqP, nI_1, ↓i_inN, i_inN, l_le, l_lt, l_eq, r_le, r_lt, r_eq, sh0, sh1, sh55, sh60, sh9, sh31, sh23, sh37, sh42, sh43, sh19, sh3, sh6, ↓w_iload_7, ↓w_aload_0, ↓w_gf3, ↓w_gf0, ↓w_icge, ↓w_iaload, ↓w_istore_8, ↓w_iload_2, ↓w_icne, ↓w_iload_8, ↓w_iload_3, ↓w_iclt, ↓w_iload_4, ↓w_icgt, ↓w_is, ↓pm_cl1_1, ↓w_iv, ↓pm_cl2_4, ↓w_i2l, ↓w_lstore_9, ↓w_lload_5, ↓w_lload_9, ↓w_lmul, ↓w_iload_1, ↓pm_cl2_3, ↓w_ladd, ↓w_lstore_5, hM2]
    repeat' (first
      | (apply And.intro)
      | (with_reducible refine bX11_owe_6 ?_; simp (disch := first | omega | decide) only [w_nl0, w_nli, w_nlr, ↓w_ts1, ↓w_ts0, w_rcv, w_rfv, w_cs, true_and, and_true, List.length_nil, List.length_cons, Nat.reduceAdd, Nat.reduceLeDiff, Nat.zero_le, Nat.reduceLT, ↓w_nil, ix_nI, nI_leP, nI_ltP, nI_eqP, nI_1, ↓i_inN, i_inN, l_le, l_lt, l_eq, r_le, r_lt, r_eq, sh0, sh1, sh55, sh60, sh9, sh31, sh23, sh37, sh42, sh43, sh19, sh3, sh6, ↓w_iload_1, ↓w_bipush, ↓w_is, ↓pm_cl1_2, ↓w_ifeq, ↓w_iload_2, ↓w_iload_3, ↓pm_cl1_1, ↓w_iload_4, ↓w_ifne, ↓w_iconst, ↓w_ret, ↓w_icle, ↓w_lconst0, ↓w_lstore_5, ↓w_istore_7, ↓w_iload_7, ↓w_aload_0, ↓w_gf3, ↓w_gf0, ↓w_icge, ↓w_iaload, ↓w_istore_8, ↓w_icne, ↓w_iload_8, ↓w_iclt, ↓w_icgt, ↓w_iv, ↓pm_cl2_4, ↓w_i2l, ↓w_lstore_9, ↓w_lload_5, ↓w_lload_9, ↓w_lmul, ↓pm_cl2_3, ↓w_ladd, ↓w_iinc_7, ↓w_goto, ↓w_pf1])
      | (simp only [w_in])
      | (intro _))
    all_goals grind
def mowS (I : pm_MI) (s l u v : Int32) (R : Nat) (k : Nat) (a : Int64) : Int64 := if I 115 k = l ∧ u ≤ I 116 k ∧ I 116 k ≤ v then a + (I 114 k).toInt64 * (foV I (I 113 k) s).toInt64 * ((sfV I 2 l 0 (I 116 k) (I 116 k) R).1).toInt64 else a
theorem m_owe {s l u v : Int32} {R N M : Nat} (hd : 8 ≤ d) (hg : (0 ≤ s ∧ s < 20) ∧ (0 ≤ l ∧ l < 8) ∧ (0 ≤ u ∧ u ≤ 999) ∧ (0 ≤ v ∧ v ≤ 999) ∧ u ≤ v) (hR2 : I 68 16 = nI R) (hR : R ≤ 24) (hit : ∀ r, r < R → ∃ M, M ≤ 24 ∧ I 77 r = nI M) (hN : N ≤ 30) (hM2 : I 68 67 = nI M) (hM : M ≤ 60) (hfk : FK I N M) (e56 : I 113 = I 56) (hQ : ∀ x y, Q (some (.int 1)) SH (pm_up (pm_up I 68 21 x) 68 22 y) (pm_upL J 68 72 (itr (mowS I s l u v R) 0 M))) : pm_C g d 278 [.ref 68, .int s, .int l, .int u, .int v] Q SH I J := by
  have key : ∀ x y, UU g (d - 1) 278 kX12_owe (pm_rm d 278) Q 3 [some (.ref 68), some (.int s), some (.int l), some (.int u), some (.int v), some (.long 0), none, some (.int (nI 0))] [] SH (pm_up (pm_up I 68 21 x) 68 22 y) J (0, 0) := by
    refine pm_for (f := mowS I s l u v R) (U := fun k (a : Int64) => ∀ x y, UU g (d - 1) 278 kX12_owe (pm_rm d 278) Q 3 [some (.ref 68), some (.int s), some (.int l), some (.int u), some (.int v), some (.long a), none, some (.int (nI k))] [] SH (pm_up (pm_up I 68 21 x) 68 22 y) J (0, 0)) M (fun k b hk hb w => ?_) ?_
    · intro x y
      obtain ⟨r, a1, b1, hr, e1, i1, i2, f1, f2, ha1, g1, hb1, g2⟩ := hfk k hk
      rw [← e56] at e1
      clear hb hfk hQ
      unfold mowS at w
      refine bX12_owe_3 ?_
      simp (disch := first | omega | decide) only [w_nl0, w_nli, w_nlr, ↓w_ts1, ↓w_ts0, w_rcv, w_rfv, w_cs, true_and, and_true, List.length_nil, List.length_cons, Nat.reduceAdd, Nat.reduceLeDiff, Nat.zero_le, Nat.reduceLT, ↓w_nil, ix_nI, nI_leP, nI_ltP, nI_eqP, nI_1, ↓i_inN, i_inN, l_le, l_lt, l_eq, r_le, r_lt, r_eq, sh68_0, sh68_1, sh68_2, sh68_3, sh68_4, ↓w_iload_7, ↓w_aload_0, ↓w_gf0, ↓w_icge, ↓w_gf3, ↓w_iaload, ↓w_iload_2, ↓w_icne, ↓w_iload_3, ↓w_iload_4, ↓w_is, ↓pm_cl1_3, ↓w_ifeq, ↓w_lload_5, ↓w_i2l, ↓w_iload_1, ↓w_iv, ↓pm_cl2_3, ↓w_lmul, ↓w_iconst, ↓pm_cl2_6, ↓w_ladd, ↓w_lstore_5, hM2, pm_up_o, pm_up_n]
      repeat' (first
        | (apply And.intro)
        | (with_reducible refine bX12_owe_4 ?_; simp (disch := first | omega | decide) only [w_nl0, w_nli, w_nlr, ↓w_ts1, ↓w_ts0, w_rcv, w_rfv, w_cs, true_and, and_true, List.length_nil, List.length_cons, Nat.reduceAdd, Nat.reduceLeDiff, Nat.zero_le, Nat.reduceLT, ↓w_nil, ix_nI, nI_leP, nI_ltP, nI_eqP, nI_1, ↓i_inN, i_inN, l_le, l_lt, l_eq, r_le, r_lt, r_eq, sh68_0, sh68_1, sh68_2, sh68_3, sh68_4, ↓w_iload_1, ↓w_is, ↓pm_cl1_1, ↓w_ifeq, ↓w_iload_2, ↓w_iload_3, ↓w_iload_4, ↓w_sipush, ↓pm_cl1_3, ↓w_ifne, ↓w_iconst, ↓w_ret, ↓w_lconst0, ↓w_lstore_5, ↓w_istore_7, ↓w_iload_7, ↓w_aload_0, ↓w_gf0, ↓w_icge, ↓w_gf3, ↓w_iaload, ↓w_icne, ↓w_lload_5, ↓w_i2l, ↓w_iv, ↓pm_cl2_3, ↓w_lmul, ↓pm_cl2_6, ↓w_ladd, ↓w_iinc_7, ↓w_goto, ↓w_pf1, pm_up_o, pm_up_n, foV_up, sfV_up, up_over])
        | (with_reducible refine m_in (by omega) ?_ ; simp (disch := first | omega | decide) only [w_nl0, w_nli, w_nlr, ↓w_ts1, ↓w_ts0, w_rcv, w_rfv, w_cs, true_and, and_true, List.length_nil, List.length_cons, Nat.reduceAdd, Nat.reduceLeDiff, Nat.zero_le, Nat.reduceLT, ↓w_nil, ix_nI, nI_leP, nI_ltP, nI_eqP, nI_1, ↓i_inN, i_inN, l_le, l_lt, l_eq, r_le, r_lt, r_eq, sh68_0, sh68_1, sh68_2, sh68_3, sh68_4, ↓w_iload_1, ↓w_is, ↓pm_cl1_1, ↓w_ifeq, ↓w_iload_2, ↓w_iload_3, ↓w_iload_4, ↓w_sipush, ↓pm_cl1_3, ↓w_ifne, ↓w_iconst, ↓w_ret, ↓w_lconst0, ↓w_lstore_5, ↓w_istore_7, ↓w_iload_7, ↓w_aload_0, ↓w_gf0, ↓w_icge, ↓w_gf3, ↓w_iaload, ↓w_icne, ↓w_lload_5, ↓w_i2l, ↓w_iv, ↓pm_cl2_3, ↓w_lmul, ↓pm_cl2_6, ↓w_ladd, ↓w_iinc_7, ↓w_goto, ↓w_pf1, pm_up_o, pm_up_n, foV_up, sfV_up, up_over])
        | (with_reducible refine m_facesOf (r := r) (a := a1) (b := b1) (by omega) e1 (by omega) (by simp (disch := decide) only [pm_up_o, g1]) ha1 (by simp (disch := decide) only [pm_up_o, g2]) hb1 ?_ ; simp (disch := first | omega | decide) only [w_nl0, w_nli, w_nlr, ↓w_ts1, ↓w_ts0, w_rcv, w_rfv, w_cs, true_and, and_true, List.length_nil, List.length_cons, Nat.reduceAdd, Nat.reduceLeDiff, Nat.zero_le, Nat.reduceLT, ↓w_nil, ix_nI, nI_leP, nI_ltP, nI_eqP, nI_1, ↓i_inN, i_inN, l_le, l_lt, l_eq, r_le, r_lt, r_eq, sh68_0, sh68_1, sh68_2, sh68_3, sh68_4, ↓w_iload_1, ↓w_is, ↓pm_cl1_1, ↓w_ifeq, ↓w_iload_2, ↓w_iload_3, ↓w_iload_4, ↓w_sipush, ↓pm_cl1_3, ↓w_ifne, ↓w_iconst, ↓w_ret, ↓w_lconst0, ↓w_lstore_5, ↓w_istore_7, ↓w_iload_7, ↓w_aload_0, ↓w_gf0, ↓w_icge, ↓w_gf3, ↓w_iaload, ↓w_icne, ↓w_lload_5, ↓w_i2l, ↓w_iv, ↓pm_cl2_3, ↓w_lmul, ↓pm_cl2_6, ↓w_ladd, ↓w_iinc_7, ↓w_goto, ↓w_pf1, pm_up_o, pm_up_n, foV_up, sfV_up, up_over])
        | (with_reducible refine m_seekForce (n := R) (by omega) (by simp (disch := decide) only [pm_up_n, hR2]) hR (by simpa (disch := decide) only [pm_up_o] using hit) ?_ ; simp (disch := first | omega | decide) only [w_nl0, w_nli, w_nlr, ↓w_ts1, ↓w_ts0, w_rcv, w_rfv, w_cs, true_and, and_true, List.length_nil, List.length_cons, Nat.reduceAdd, Nat.reduceLeDiff, Nat.zero_le, Nat.reduceLT, ↓w_nil, ix_nI, nI_leP, nI_ltP, nI_eqP, nI_1, ↓i_inN, i_inN, l_le, l_lt, l_eq, r_le, r_lt, r_eq, sh68_0, sh68_1, sh68_2, sh68_3, sh68_4, ↓w_iload_1, ↓w_is, ↓pm_cl1_1, ↓w_ifeq, ↓w_iload_2, ↓w_iload_3, ↓w_iload_4, ↓w_sipush, ↓pm_cl1_3, ↓w_ifne, ↓w_iconst, ↓w_ret, ↓w_lconst0, ↓w_lstore_5, ↓w_istore_7, ↓w_iload_7, ↓w_aload_0, ↓w_gf0, ↓w_icge, ↓w_gf3, ↓w_iaload, ↓w_icne, ↓w_lload_5, ↓w_i2l, ↓w_iv, ↓pm_cl2_3, ↓w_lmul, ↓pm_cl2_6, ↓w_ladd, ↓w_iinc_7, ↓w_goto, ↓w_pf1, pm_up_o, pm_up_n, foV_up, sfV_up, up_over])
        | (simp only [w_in])
        | (intro _))
      all_goals grind
    · intro x y
      refine bX12_owe_3 ?_
      simp (disch := first | omega | decide) only [w_nl0, w_nli, w_nlr, ↓w_ts1, ↓w_ts0, w_rcv, w_rfv, w_cs, true_and, and_true, List.length_nil, List.length_cons, Nat.reduceAdd, Nat.reduceLeDiff, Nat.zero_le, Nat.reduceLT, ↓w_nil, ix_nI, nI_leP, nI_ltP, nI_eqP, nI_1, ↓i_inN, i_inN, l_le, l_lt, l_eq, r_le, r_lt, r_eq, sh68_0, sh68_1, sh68_2, sh68_3, sh68_4, ↓w_iload_7, ↓w_aload_0, ↓w_gf0, ↓w_icge, ↓w_gf3, ↓w_iaload, ↓w_iload_2, ↓w_icne, ↓w_iload_3, ↓w_iload_4, ↓w_is, ↓pm_cl1_3, ↓w_ifeq, ↓w_lload_5, ↓w_i2l, ↓w_iload_1, ↓w_iv, ↓pm_cl2_3, ↓w_lmul, ↓w_iconst, ↓pm_cl2_6, ↓w_ladd, ↓w_lstore_5, hM2, pm_up_o, pm_up_n]
      repeat' (first
        | (apply And.intro)
        | (with_reducible refine bX12_owe_5 ?_; simp (disch := first | omega | decide) only [w_nl0, w_nli, w_nlr, ↓w_ts1, ↓w_ts0, w_rcv, w_rfv, w_cs, true_and, and_true, List.length_nil, List.length_cons, Nat.reduceAdd, Nat.reduceLeDiff, Nat.zero_le, Nat.reduceLT, ↓w_nil, ix_nI, nI_leP, nI_ltP, nI_eqP, nI_1, ↓i_inN, i_inN, l_le, l_lt, l_eq, r_le, r_lt, r_eq, sh68_0, sh68_1, sh68_2, sh68_3, sh68_4, ↓w_iload_1, ↓w_is, ↓pm_cl1_1, ↓w_ifeq, ↓w_iload_2, ↓w_iload_3, ↓w_iload_4, ↓w_sipush, ↓pm_cl1_3, ↓w_ifne, ↓w_iconst, ↓w_ret, ↓w_lconst0, ↓w_lstore_5, ↓w_istore_7, ↓w_iload_7, ↓w_aload_0, ↓w_gf0, ↓w_icge, ↓w_gf3, ↓w_iaload, ↓w_icne, ↓w_lload_5, ↓w_i2l, ↓w_iv, ↓pm_cl2_3, ↓w_lmul, ↓pm_cl2_6, ↓w_ladd, ↓w_iinc_7, ↓w_goto, ↓w_pf1])
        | (simp only [w_in])
        | (intro _))
      all_goals grind
  have key2 := key (I 68 21) (I 68 22)
  simp only [up_id] at key2
  clear key hfk hQ
  refine eX12_owe (by omega) ?_
  repeat' (first
    | (apply And.intro)
    | (with_reducible refine bX12_owe_0 ?_; simp (disch := first | omega | decide) only [w_nl0, w_nli, w_nlr, ↓w_ts1, ↓w_ts0, w_rcv, w_rfv, w_cs, true_and, and_true, List.length_nil, List.length_cons, Nat.reduceAdd, Nat.reduceLeDiff, Nat.zero_le, Nat.reduceLT, ↓w_nil, ix_nI, nI_leP, nI_ltP, nI_eqP, nI_1, ↓i_inN, i_inN, l_le, l_lt, l_eq, r_le, r_lt, r_eq, sh68_0, sh68_1, sh68_2, sh68_3, sh68_4, ↓w_iload_1, ↓w_is, ↓pm_cl1_1, ↓w_ifeq, ↓w_iload_2, ↓w_iload_3, ↓w_iload_4, ↓w_sipush, ↓pm_cl1_3, ↓w_ifne, ↓w_iconst, ↓w_ret, ↓w_lconst0, ↓w_lstore_5, ↓w_istore_7, ↓w_iload_7, ↓w_aload_0, ↓w_gf0, ↓w_icge, ↓w_gf3, ↓w_iaload, ↓w_icne, ↓w_lload_5, ↓w_i2l, ↓w_iv, ↓pm_cl2_3, ↓w_lmul, ↓pm_cl2_6, ↓w_ladd, ↓w_iinc_7, ↓w_goto, ↓w_pf1])
    | (with_reducible refine bX12_owe_1 ?_; simp (disch := first | omega | decide) only [w_nl0, w_nli, w_nlr, ↓w_ts1, ↓w_ts0, w_rcv, w_rfv, w_cs, true_and, and_true, List.length_nil, List.length_cons, Nat.reduceAdd, Nat.reduceLeDiff, Nat.zero_le, Nat.reduceLT, ↓w_nil, ix_nI, nI_leP, nI_ltP, nI_eqP, nI_1, ↓i_inN, i_inN, l_le, l_lt, l_eq, r_le, r_lt, r_eq, sh68_0, sh68_1, sh68_2, sh68_3, sh68_4, ↓w_iload_1, ↓w_is, ↓pm_cl1_1, ↓w_ifeq, ↓w_iload_2, ↓w_iload_3, ↓w_iload_4, ↓w_sipush, ↓pm_cl1_3, ↓w_ifne, ↓w_iconst, ↓w_ret, ↓w_lconst0, ↓w_lstore_5, ↓w_istore_7, ↓w_iload_7, ↓w_aload_0, ↓w_gf0, ↓w_icge, ↓w_gf3, ↓w_iaload, ↓w_icne, ↓w_lload_5, ↓w_i2l, ↓w_iv, ↓pm_cl2_3, ↓w_lmul, ↓pm_cl2_6, ↓w_ladd, ↓w_iinc_7, ↓w_goto, ↓w_pf1])
    | (with_reducible refine bX12_owe_2 ?_; simp (disch := first | omega | decide) only [w_nl0, w_nli, w_nlr, ↓w_ts1, ↓w_ts0, w_rcv, w_rfv, w_cs, true_and, and_true, List.length_nil, List.length_cons, Nat.reduceAdd, Nat.reduceLeDiff, Nat.zero_le, Nat.reduceLT, ↓w_nil, ix_nI, nI_leP, nI_ltP, nI_eqP, nI_1, ↓i_inN, i_inN, l_le, l_lt, l_eq, r_le, r_lt, r_eq, sh68_0, sh68_1, sh68_2, sh68_3, sh68_4, ↓w_iload_1, ↓w_is, ↓pm_cl1_1, ↓w_ifeq, ↓w_iload_2, ↓w_iload_3, ↓w_iload_4, ↓w_sipush, ↓pm_cl1_3, ↓w_ifne, ↓w_iconst, ↓w_ret, ↓w_lconst0, ↓w_lstore_5, ↓w_istore_7, ↓w_iload_7, ↓w_aload_0, ↓w_gf0, ↓w_icge, ↓w_gf3, ↓w_iaload, ↓w_icne, ↓w_lload_5, ↓w_i2l, ↓w_iv, ↓pm_cl2_3, ↓w_lmul, ↓pm_cl2_6, ↓w_ladd, ↓w_iinc_7, ↓w_goto, ↓w_pf1])
    | (with_reducible refine m_isSide (by omega) ?_ ; simp (disch := first | omega | decide) only [w_nl0, w_nli, w_nlr, ↓w_ts1, ↓w_ts0, w_rcv, w_rfv, w_cs, true_and, and_true, List.length_nil, List.length_cons, Nat.reduceAdd, Nat.reduceLeDiff, Nat.zero_le, Nat.reduceLT, ↓w_nil, ix_nI, nI_leP, nI_ltP, nI_eqP, nI_1, ↓i_inN, i_inN, l_le, l_lt, l_eq, r_le, r_lt, r_eq, sh68_0, sh68_1, sh68_2, sh68_3, sh68_4, ↓w_iload_1, ↓w_is, ↓pm_cl1_1, ↓w_ifeq, ↓w_iload_2, ↓w_iload_3, ↓w_iload_4, ↓w_sipush, ↓pm_cl1_3, ↓w_ifne, ↓w_iconst, ↓w_ret, ↓w_lconst0, ↓w_lstore_5, ↓w_istore_7, ↓w_iload_7, ↓w_aload_0, ↓w_gf0, ↓w_icge, ↓w_gf3, ↓w_iaload, ↓w_icne, ↓w_lload_5, ↓w_i2l, ↓w_iv, ↓pm_cl2_3, ↓w_lmul, ↓pm_cl2_6, ↓w_ladd, ↓w_iinc_7, ↓w_goto, ↓w_pf1])
    | (with_reducible refine m_isLand (by omega) ?_ ; simp (disch := first | omega | decide) only [w_nl0, w_nli, w_nlr, ↓w_ts1, ↓w_ts0, w_rcv, w_rfv, w_cs, true_and, and_true, List.length_nil, List.length_cons, Nat.reduceAdd, Nat.reduceLeDiff, Nat.zero_le, Nat.reduceLT, ↓w_nil, ix_nI, nI_leP, nI_ltP, nI_eqP, nI_1, ↓i_inN, i_inN, l_le, l_lt, l_eq, r_le, r_lt, r_eq, sh68_0, sh68_1, sh68_2, sh68_3, sh68_4, ↓w_iload_1, ↓w_is, ↓pm_cl1_1, ↓w_ifeq, ↓w_iload_2, ↓w_iload_3, ↓w_iload_4, ↓w_sipush, ↓pm_cl1_3, ↓w_ifne, ↓w_iconst, ↓w_ret, ↓w_lconst0, ↓w_lstore_5, ↓w_istore_7, ↓w_iload_7, ↓w_aload_0, ↓w_gf0, ↓w_icge, ↓w_gf3, ↓w_iaload, ↓w_icne, ↓w_lload_5, ↓w_i2l, ↓w_iv, ↓pm_cl2_3, ↓w_lmul, ↓pm_cl2_6, ↓w_ladd, ↓w_iinc_7, ↓w_goto, ↓w_pf1])
    | (with_reducible refine m_isDay (by omega) ?_ ; simp (disch := first | omega | decide) only [w_nl0, w_nli, w_nlr, ↓w_ts1, ↓w_ts0, w_rcv, w_rfv, w_cs, true_and, and_true, List.length_nil, List.length_cons, Nat.reduceAdd, Nat.reduceLeDiff, Nat.zero_le, Nat.reduceLT, ↓w_nil, ix_nI, nI_leP, nI_ltP, nI_eqP, nI_1, ↓i_inN, i_inN, l_le, l_lt, l_eq, r_le, r_lt, r_eq, sh68_0, sh68_1, sh68_2, sh68_3, sh68_4, ↓w_iload_1, ↓w_is, ↓pm_cl1_1, ↓w_ifeq, ↓w_iload_2, ↓w_iload_3, ↓w_iload_4, ↓w_sipush, ↓pm_cl1_3, ↓w_ifne, ↓w_iconst, ↓w_ret, ↓w_lconst0, ↓w_lstore_5, ↓w_istore_7, ↓w_iload_7, ↓w_aload_0, ↓w_gf0, ↓w_icge, ↓w_gf3, ↓w_iaload, ↓w_icne, ↓w_lload_5, ↓w_i2l, ↓w_iv, ↓pm_cl2_3, ↓w_lmul, ↓pm_cl2_6, ↓w_ladd, ↓w_iinc_7, ↓w_goto, ↓w_pf1])
    | (with_reducible refine m_in (by omega) ?_ ; simp (disch := first | omega | decide) only [w_nl0, w_nli, w_nlr, ↓w_ts1, ↓w_ts0, w_rcv, w_rfv, w_cs, true_and, and_true, List.length_nil, List.length_cons, Nat.reduceAdd, Nat.reduceLeDiff, Nat.zero_le, Nat.reduceLT, ↓w_nil, ix_nI, nI_leP, nI_ltP, nI_eqP, nI_1, ↓i_inN, i_inN, l_le, l_lt, l_eq, r_le, r_lt, r_eq, sh68_0, sh68_1, sh68_2, sh68_3, sh68_4, ↓w_iload_1, ↓w_is, ↓pm_cl1_1, ↓w_ifeq, ↓w_iload_2, ↓w_iload_3, ↓w_iload_4, ↓w_sipush, ↓pm_cl1_3, ↓w_ifne, ↓w_iconst, ↓w_ret, ↓w_lconst0, ↓w_lstore_5, ↓w_istore_7, ↓w_iload_7, ↓w_aload_0, ↓w_gf0, ↓w_icge, ↓w_gf3, ↓w_iaload, ↓w_icne, ↓w_lload_5, ↓w_i2l, ↓w_iv, ↓pm_cl2_3, ↓w_lmul, ↓pm_cl2_6, ↓w_ladd, ↓w_iinc_7, ↓w_goto, ↓w_pf1])
    | (simp only [w_in])
    | (intro _))
  all_goals first | exact key2 | grind
theorem p_owe {s l u v : Int32} (hd : 10 ≤ d) : PC g d 167 278 [.int s, .int l, .int u, .int v] := by
  intro I J h
  have hw := relw h
  by_cases hg : (0 ≤ s ∧ s < 20) ∧ (0 ≤ l ∧ l < 8) ∧ (0 ≤ u ∧ u ≤ 999) ∧ (0 ≤ v ∧ v ≤ 999) ∧ u ≤ v
  · obtain ⟨r1, r2, r3, R, hR, hR2, hRR⟩ := h.2.2.2.2.2.2.2.1
    clear hRR
    have hit := rel_items h hR2 hR
    obtain ⟨n1, p1, p2, p3, p4, p5, p6, N, hN, hN2, hr⟩ := h.2.2.2.2.2.2.1
    clear hr
    obtain ⟨q1, q2, q3, q4, q5, M, hM, hM2, hs⟩ := h.2.2.2.2.2.2.2.2.2.1
    clear hs
    have s1 : I 80 = I 11 := h.2.2.2.2.1.2.2.2.1
    have hfk := rel_fk h hN2 hN hM2 hM
    have hab : abR 2 l 0 := Or.inr (Or.inr ⟨Or.inl rfl, by grind⟩)
    obtain ⟨t1', t, ht, e2⟩ := thing_pos hab
    have ht2 : 17 + l = nI t := by
      rw [← e2]
      simp [itT]
    have e : itr (mowS I s l u v R) 0 M = itr (oweS I s l u v t R) 0 M := by
      refine itr_cong (fun k hk b => ?_)
      obtain ⟨r, a1, b1, hr, e1, i1, i2, f1, f2, ha1, g1, hb1, g2⟩ := hfk k hk
      have hf := (rel_force (day := I 59 k) (known := I 59 k) h hR2 hR hab e2 ht).2
      have hfo := fo_fw (I := I) (s := s) s1 e1 (by omega) f1 f2
      unfold mowS oweS
      rw [q2, q3, q4, q5, hf, hfo]
      grind
    refine c_owe (t := t) (R := R) (N := N) (M := M) (by omega) hg hR2 hR ht2 ht hN2 hN hM2 hM hfk ?_
    refine ⟨rfl, MC.of ?_⟩
    refine m_owe (R := R) (N := N) (M := M) (by omega) hg (by rw [r1, hR2]) hR hit hN (by rw [q1, hM2]) hM hfk q2 ?_
    intro x y
    rw [e]
    exact ⟨rfl, rfl, rel_pence (rel_sf h)⟩
  · refine eX11_owe (by omega) ?_
    repeat' (first
      | (apply And.intro)
      | (with_reducible refine bX11_owe_0 ?_; simp (disch := first | omega | decide) only [w_nl0, w_nli, w_nlr, ↓w_ts1, ↓w_ts0, w_rcv, w_rfv, w_cs, true_and, and_true, List.length_nil, List.length_cons, Nat.reduceAdd, Nat.reduceLeDiff, Nat.zero_le, Nat.reduceLT, ↓w_nil, ix_nI, nI_leP, nI_ltP, nI_eqP, nI_1, ↓i_inN, i_inN, l_le, l_lt, l_eq, r_le, r_lt, r_eq, sh0, sh1, sh55, sh60, sh9, sh31, sh23, sh37, sh42, sh43, sh19, sh3, sh6, ↓w_iload_1, ↓w_bipush, ↓w_is, ↓pm_cl1_2, ↓w_ifeq, ↓w_iload_2, ↓w_iload_3, ↓pm_cl1_1, ↓w_iload_4, ↓w_ifne, ↓w_iconst, ↓w_ret, ↓w_icle, ↓w_lconst0, ↓w_lstore_5, ↓w_istore_7, ↓w_iload_7, ↓w_aload_0, ↓w_gf3, ↓w_gf0, ↓w_icge, ↓w_iaload, ↓w_istore_8, ↓w_icne, ↓w_iload_8, ↓w_iclt, ↓w_icgt, ↓w_iv, ↓pm_cl2_4, ↓w_i2l, ↓w_lstore_9, ↓w_lload_5, ↓w_lload_9, ↓w_lmul, ↓pm_cl2_3, ↓w_ladd, ↓w_iinc_7, ↓w_goto, ↓w_pf1])
      | (with_reducible refine bX11_owe_1 ?_; simp (disch := first | omega | decide) only [w_nl0, w_nli, w_nlr, ↓w_ts1, ↓w_ts0, w_rcv, w_rfv, w_cs, true_and, and_true, List.length_nil, List.length_cons, Nat.reduceAdd, Nat.reduceLeDiff, Nat.zero_le, Nat.reduceLT, ↓w_nil, ix_nI, nI_leP, nI_ltP, nI_eqP, nI_1, ↓i_inN, i_inN, l_le, l_lt, l_eq, r_le, r_lt, r_eq, sh0, sh1, sh55, sh60, sh9, sh31, sh23, sh37, sh42, sh43, sh19, sh3, sh6, ↓w_iload_1, ↓w_bipush, ↓w_is, ↓pm_cl1_2, ↓w_ifeq, ↓w_iload_2, ↓w_iload_3, ↓pm_cl1_1, ↓w_iload_4, ↓w_ifne, ↓w_iconst, ↓w_ret, ↓w_icle, ↓w_lconst0, ↓w_lstore_5, ↓w_istore_7, ↓w_iload_7, ↓w_aload_0, ↓w_gf3, ↓w_gf0, ↓w_icge, ↓w_iaload, ↓w_istore_8, ↓w_icne, ↓w_iload_8, ↓w_iclt, ↓w_icgt, ↓w_iv, ↓pm_cl2_4, ↓w_i2l, ↓w_lstore_9, ↓w_lload_5, ↓w_lload_9, ↓w_lmul, ↓pm_cl2_3, ↓w_ladd, ↓w_iinc_7, ↓w_goto, ↓w_pf1])
      | (with_reducible refine bX11_owe_2 ?_; simp (disch := first | omega | decide) only [w_nl0, w_nli, w_nlr, ↓w_ts1, ↓w_ts0, w_rcv, w_rfv, w_cs, true_and, and_true, List.length_nil, List.length_cons, Nat.reduceAdd, Nat.reduceLeDiff, Nat.zero_le, Nat.reduceLT, ↓w_nil, ix_nI, nI_leP, nI_ltP, nI_eqP, nI_1, ↓i_inN, i_inN, l_le, l_lt, l_eq, r_le, r_lt, r_eq, sh0, sh1, sh55, sh60, sh9, sh31, sh23, sh37, sh42, sh43, sh19, sh3, sh6, ↓w_iload_1, ↓w_bipush, ↓w_is, ↓pm_cl1_2, ↓w_ifeq, ↓w_iload_2, ↓w_iload_3, ↓pm_cl1_1, ↓w_iload_4, ↓w_ifne, ↓w_iconst, ↓w_ret, ↓w_icle, ↓w_lconst0, ↓w_lstore_5, ↓w_istore_7, ↓w_iload_7, ↓w_aload_0, ↓w_gf3, ↓w_gf0, ↓w_icge, ↓w_iaload, ↓w_istore_8, ↓w_icne, ↓w_iload_8, ↓w_iclt, ↓w_icgt, ↓w_iv, ↓pm_cl2_4, ↓w_i2l, ↓w_lstore_9, ↓w_lload_5, ↓w_lload_9, ↓w_lmul, ↓pm_cl2_3, ↓w_ladd, ↓w_iinc_7, ↓w_goto, ↓w_pf1])
      | (with_reducible refine c_below (by omega) ?_ ; simp (disch := first | omega | decide) only [w_nl0, w_nli, w_nlr, ↓w_ts1, ↓w_ts0, w_rcv, w_rfv, w_cs, true_and, and_true, List.length_nil, List.length_cons, Nat.reduceAdd, Nat.reduceLeDiff, Nat.zero_le, Nat.reduceLT, ↓w_nil, ix_nI, nI_leP, nI_ltP, nI_eqP, nI_1, ↓i_inN, i_inN, l_le, l_lt, l_eq, r_le, r_lt, r_eq, sh0, sh1, sh55, sh60, sh9, sh31, sh23, sh37, sh42, sh43, sh19, sh3, sh6, ↓w_iload_1, ↓w_bipush, ↓w_is, ↓pm_cl1_2, ↓w_ifeq, ↓w_iload_2, ↓w_iload_3, ↓pm_cl1_1, ↓w_iload_4, ↓w_ifne, ↓w_iconst, ↓w_ret, ↓w_icle, ↓w_lconst0, ↓w_lstore_5, ↓w_istore_7, ↓w_iload_7, ↓w_aload_0, ↓w_gf3, ↓w_gf0, ↓w_icge, ↓w_iaload, ↓w_istore_8, ↓w_icne, ↓w_iload_8, ↓w_iclt, ↓w_icgt, ↓w_iv, ↓pm_cl2_4, ↓w_i2l, ↓w_lstore_9, ↓w_lload_5, ↓w_lload_9, ↓w_lmul, ↓pm_cl2_3, ↓w_ladd, ↓w_iinc_7, ↓w_goto, ↓w_pf1])
      | (with_reducible refine c_isDay (by omega) ?_ ; simp (disch := first | omega | decide) only [w_nl0, w_nli, w_nlr, ↓w_ts1, ↓w_ts0, w_rcv, w_rfv, w_cs, true_and, and_true, List.length_nil, List.length_cons, Nat.reduceAdd, Nat.reduceLeDiff, Nat.zero_le, Nat.reduceLT, ↓w_nil, ix_nI, nI_leP, nI_ltP, nI_eqP, nI_1, ↓i_inN, i_inN, l_le, l_lt, l_eq, r_le, r_lt, r_eq, sh0, sh1, sh55, sh60, sh9, sh31, sh23, sh37, sh42, sh43, sh19, sh3, sh6, ↓w_iload_1, ↓w_bipush, ↓w_is, ↓pm_cl1_2, ↓w_ifeq, ↓w_iload_2, ↓w_iload_3, ↓pm_cl1_1, ↓w_iload_4, ↓w_ifne, ↓w_iconst, ↓w_ret, ↓w_icle, ↓w_lconst0, ↓w_lstore_5, ↓w_istore_7, ↓w_iload_7, ↓w_aload_0, ↓w_gf3, ↓w_gf0, ↓w_icge, ↓w_iaload, ↓w_istore_8, ↓w_icne, ↓w_iload_8, ↓w_iclt, ↓w_icgt, ↓w_iv, ↓pm_cl2_4, ↓w_i2l, ↓w_lstore_9, ↓w_lload_5, ↓w_lload_9, ↓w_lmul, ↓pm_cl2_3, ↓w_ladd, ↓w_iinc_7, ↓w_goto, ↓w_pf1])
      | (simp only [w_in])
      | (intro _))
    all_goals try rfl
    all_goals try grind
    all_goals try refine MC.of (eX12_owe (by omega) ?_)
    all_goals
      repeat' (first
        | (apply And.intro)
        | (with_reducible refine bX12_owe_0 ?_; simp (disch := first | omega | decide) only [w_nl0, w_nli, w_nlr, ↓w_ts1, ↓w_ts0, w_rcv, w_rfv, w_cs, true_and, and_true, List.length_nil, List.length_cons, Nat.reduceAdd, Nat.reduceLeDiff, Nat.zero_le, Nat.reduceLT, ↓w_nil, ix_nI, nI_leP, nI_ltP, nI_eqP, nI_1, ↓i_inN, i_inN, l_le, l_lt, l_eq, r_le, r_lt, r_eq, sh68_0, sh68_1, sh68_2, sh68_3, sh68_4, ↓w_iload_1, ↓w_is, ↓pm_cl1_1, ↓w_ifeq, ↓w_iload_2, ↓w_iload_3, ↓w_iload_4, ↓w_sipush, ↓pm_cl1_3, ↓w_ifne, ↓w_iconst, ↓w_ret, ↓w_lconst0, ↓w_lstore_5, ↓w_istore_7, ↓w_iload_7, ↓w_aload_0, ↓w_gf0, ↓w_icge, ↓w_gf3, ↓w_iaload, ↓w_icne, ↓w_lload_5, ↓w_i2l, ↓w_iv, ↓pm_cl2_3, ↓w_lmul, ↓pm_cl2_6, ↓w_ladd, ↓w_iinc_7, ↓w_goto, ↓w_pf1])
        | (with_reducible refine bX12_owe_1 ?_; simp (disch := first | omega | decide) only [w_nl0, w_nli, w_nlr, ↓w_ts1, ↓w_ts0, w_rcv, w_rfv, w_cs, true_and, and_true, List.length_nil, List.length_cons, Nat.reduceAdd, Nat.reduceLeDiff, Nat.zero_le, Nat.reduceLT, ↓w_nil, ix_nI, nI_leP, nI_ltP, nI_eqP, nI_1, ↓i_inN, i_inN, l_le, l_lt, l_eq, r_le, r_lt, r_eq, sh68_0, sh68_1, sh68_2, sh68_3, sh68_4, ↓w_iload_1, ↓w_is, ↓pm_cl1_1, ↓w_ifeq, ↓w_iload_2, ↓w_iload_3, ↓w_iload_4, ↓w_sipush, ↓pm_cl1_3, ↓w_ifne, ↓w_iconst, ↓w_ret, ↓w_lconst0, ↓w_lstore_5, ↓w_istore_7, ↓w_iload_7, ↓w_aload_0, ↓w_gf0, ↓w_icge, ↓w_gf3, ↓w_iaload, ↓w_icne, ↓w_lload_5, ↓w_i2l, ↓w_iv, ↓pm_cl2_3, ↓w_lmul, ↓pm_cl2_6, ↓w_ladd, ↓w_iinc_7, ↓w_goto, ↓w_pf1])
        | (with_reducible refine m_isSide (by omega) ?_ ; simp (disch := first | omega | decide) only [w_nl0, w_nli, w_nlr, ↓w_ts1, ↓w_ts0, w_rcv, w_rfv, w_cs, true_and, and_true, List.length_nil, List.length_cons, Nat.reduceAdd, Nat.reduceLeDiff, Nat.zero_le, Nat.reduceLT, ↓w_nil, ix_nI, nI_leP, nI_ltP, nI_eqP, nI_1, ↓i_inN, i_inN, l_le, l_lt, l_eq, r_le, r_lt, r_eq, sh68_0, sh68_1, sh68_2, sh68_3, sh68_4, ↓w_iload_1, ↓w_is, ↓pm_cl1_1, ↓w_ifeq, ↓w_iload_2, ↓w_iload_3, ↓w_iload_4, ↓w_sipush, ↓pm_cl1_3, ↓w_ifne, ↓w_iconst, ↓w_ret, ↓w_lconst0, ↓w_lstore_5, ↓w_istore_7, ↓w_iload_7, ↓w_aload_0, ↓w_gf0, ↓w_icge, ↓w_gf3, ↓w_iaload, ↓w_icne, ↓w_lload_5, ↓w_i2l, ↓w_iv, ↓pm_cl2_3, ↓w_lmul, ↓pm_cl2_6, ↓w_ladd, ↓w_iinc_7, ↓w_goto, ↓w_pf1])
        | (with_reducible refine m_isLand (by omega) ?_ ; simp (disch := first | omega | decide) only [w_nl0, w_nli, w_nlr, ↓w_ts1, ↓w_ts0, w_rcv, w_rfv, w_cs, true_and, and_true, List.length_nil, List.length_cons, Nat.reduceAdd, Nat.reduceLeDiff, Nat.zero_le, Nat.reduceLT, ↓w_nil, ix_nI, nI_leP, nI_ltP, nI_eqP, nI_1, ↓i_inN, i_inN, l_le, l_lt, l_eq, r_le, r_lt, r_eq, sh68_0, sh68_1, sh68_2, sh68_3, sh68_4, ↓w_iload_1, ↓w_is, ↓pm_cl1_1, ↓w_ifeq, ↓w_iload_2, ↓w_iload_3, ↓w_iload_4, ↓w_sipush, ↓pm_cl1_3, ↓w_ifne, ↓w_iconst, ↓w_ret, ↓w_lconst0, ↓w_lstore_5, ↓w_istore_7, ↓w_iload_7, ↓w_aload_0, ↓w_gf0, ↓w_icge, ↓w_gf3, ↓w_iaload, ↓w_icne, ↓w_lload_5, ↓w_i2l, ↓w_iv, ↓pm_cl2_3, ↓w_lmul, ↓pm_cl2_6, ↓w_ladd, ↓w_iinc_7, ↓w_goto, ↓w_pf1])
        | (with_reducible refine m_isDay (by omega) ?_ ; simp (disch := first | omega | decide) only [w_nl0, w_nli, w_nlr, ↓w_ts1, ↓w_ts0, w_rcv, w_rfv, w_cs, true_and, and_true, List.length_nil, List.length_cons, Nat.reduceAdd, Nat.reduceLeDiff, Nat.zero_le, Nat.reduceLT, ↓w_nil, ix_nI, nI_leP, nI_ltP, nI_eqP, nI_1, ↓i_inN, i_inN, l_le, l_lt, l_eq, r_le, r_lt, r_eq, sh68_0, sh68_1, sh68_2, sh68_3, sh68_4, ↓w_iload_1, ↓w_is, ↓pm_cl1_1, ↓w_ifeq, ↓w_iload_2, ↓w_iload_3, ↓w_iload_4, ↓w_sipush, ↓pm_cl1_3, ↓w_ifne, ↓w_iconst, ↓w_ret, ↓w_lconst0, ↓w_lstore_5, ↓w_istore_7, ↓w_iload_7, ↓w_aload_0, ↓w_gf0, ↓w_icge, ↓w_gf3, ↓w_iaload, ↓w_icne, ↓w_lload_5, ↓w_i2l, ↓w_iv, ↓pm_cl2_3, ↓w_lmul, ↓pm_cl2_6, ↓w_ladd, ↓w_iinc_7, ↓w_goto, ↓w_pf1])
        | (with_reducible refine m_in (by omega) ?_ ; simp (disch := first | omega | decide) only [w_nl0, w_nli, w_nlr, ↓w_ts1, ↓w_ts0, w_rcv, w_rfv, w_cs, true_and, and_true, List.length_nil, List.length_cons, Nat.reduceAdd, Nat.reduceLeDiff, Nat.zero_le, Nat.reduceLT, ↓w_nil, ix_nI, nI_leP, nI_ltP, nI_eqP, nI_1, ↓i_inN, i_inN, l_le, l_lt, l_eq, r_le, r_lt, r_eq, sh68_0, sh68_1, sh68_2, sh68_3, sh68_4, ↓w_iload_1, ↓w_is, ↓pm_cl1_1, ↓w_ifeq, ↓w_iload_2, ↓w_iload_3, ↓w_iload_4, ↓w_sipush, ↓pm_cl1_3, ↓w_ifne, ↓w_iconst, ↓w_ret, ↓w_lconst0, ↓w_lstore_5, ↓w_istore_7, ↓w_iload_7, ↓w_aload_0, ↓w_gf0, ↓w_icge, ↓w_gf3, ↓w_iaload, ↓w_icne, ↓w_lload_5, ↓w_i2l, ↓w_iv, ↓pm_cl2_3, ↓w_lmul, ↓pm_cl2_6, ↓w_ladd, ↓w_iinc_7, ↓w_goto, ↓w_pf1])
        | (simp only [w_in])
        | (intro _))
    all_goals first | rfl | exact hw | exact relw_found hw | exact relw_asks hw | grind
end C60
