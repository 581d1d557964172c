section C91e
variable {g : pm_G} {d : Nat} {Q : pm_Po} {S : pm_SS} {I : pm_MI} {J : pm_ML}
/-! ===== the class gathers its places ===== -/
theorem c_Pl_add0 {c : Nat} {x1 x2 : Int32} (hd : 1 ≤ d) (hc : I 43 6 = nI c) (hc2 : c < 160) (hQ : Q none SH (pm_up (pm_up (pm_up (pm_up (pm_up I 44 c x1) 45 c x2) 46 c (-9)) 47 c (-9)) 43 6 (nI (c + 1))) (pm_upL J 48 c 0)) : pm_C g d 38 [.ref 43, .int x1, .int x2, .int (-9), .int (-9)] Q SH I J := by
  refine eX2_add (by omega) ?_
  repeat' (first
    | (apply And.intro)
    | (with_reducible refine bX2_add_0 ?_; simp (disch := first | omega | decide) only [w_nl0, w_nli, w_nlr, ↓w_ts1, ↓w_ts0, w_rcv, w_rfv, w_cs, true_and, and_true, List.length_nil, List.length_cons, Nat.reduceAdd, Nat.reduceLeDiff, Nat.zero_le, Nat.reduceLT, ↓w_nil, ix_nI, nI_leP, nI_ltP, nI_eqP, nI_1, ↓i_inN, i_inN, l_le, l_lt, l_eq, r_le, r_lt, r_eq, sh43, sh9, sh23, ↓w_aload_0, ↓w_gf0, ↓w_iflt, ↓w_sipush, ↓w_iclt, ↓w_vret, ↓w_gf3, ↓w_iload_1, ↓w_iastore, ↓w_iload_2, ↓w_iload_3, ↓w_iload_4, ↓w_bipush, ↓w_icne, ↓w_lconst0, ↓w_goto, ↓w_lconst1, ↓w_iconst, ↓w_imul, ↓w_iadd, ↓w_lshl, ↓w_lastore, ↓w_dup_i, ↓w_dup_r, ↓w_pf0, hc, pm_up_o, pm_up_s])
    | (with_reducible refine bX2_add_1 ?_; simp (disch := first | omega | decide) only [w_nl0, w_nli, w_nlr, ↓w_ts1, ↓w_ts0, w_rcv, w_rfv, w_cs, true_and, and_true, List.length_nil, List.length_cons, Nat.reduceAdd, Nat.reduceLeDiff, Nat.zero_le, Nat.reduceLT, ↓w_nil, ix_nI, nI_leP, nI_ltP, nI_eqP, nI_1, ↓i_inN, i_inN, l_le, l_lt, l_eq, r_le, r_lt, r_eq, sh43, sh9, sh23, ↓w_aload_0, ↓w_gf0, ↓w_iflt, ↓w_sipush, ↓w_iclt, ↓w_vret, ↓w_gf3, ↓w_iload_1, ↓w_iastore, ↓w_iload_2, ↓w_iload_3, ↓w_iload_4, ↓w_bipush, ↓w_icne, ↓w_lconst0, ↓w_goto, ↓w_lconst1, ↓w_iconst, ↓w_imul, ↓w_iadd, ↓w_lshl, ↓w_lastore, ↓w_dup_i, ↓w_dup_r, ↓w_pf0, hc, pm_up_o, pm_up_s])
    | (with_reducible refine bX2_add_2 ?_; simp (disch := first | omega | decide) only [w_nl0, w_nli, w_nlr, ↓w_ts1, ↓w_ts0, w_rcv, w_rfv, w_cs, true_and, and_true, List.length_nil, List.length_cons, Nat.reduceAdd, Nat.reduceLeDiff, Nat.zero_le, Nat.reduceLT, ↓w_nil, ix_nI, nI_leP, nI_ltP, nI_eqP, nI_1, ↓i_inN, i_inN, l_le, l_lt, l_eq, r_le, r_lt, r_eq, sh43, sh9, sh23, ↓w_aload_0, ↓w_gf0, ↓w_iflt, ↓w_sipush, ↓w_iclt, ↓w_vret, ↓w_gf3, ↓w_iload_1, ↓w_iastore, ↓w_iload_2, ↓w_iload_3, ↓w_iload_4, ↓w_bipush, ↓w_icne, ↓w_lconst0, ↓w_goto, ↓w_lconst1, ↓w_iconst, ↓w_imul, ↓w_iadd, ↓w_lshl, ↓w_lastore, ↓w_dup_i, ↓w_dup_r, ↓w_pf0, hc, pm_up_o, pm_up_s])
    | (with_reducible refine bX2_add_3 ?_; simp (disch := first | omega | decide) only [w_nl0, w_nli, w_nlr, ↓w_ts1, ↓w_ts0, w_rcv, w_rfv, w_cs, true_and, and_true, List.length_nil, List.length_cons, Nat.reduceAdd, Nat.reduceLeDiff, Nat.zero_le, Nat.reduceLT, ↓w_nil, ix_nI, nI_leP, nI_ltP, nI_eqP, nI_1, ↓i_inN, i_inN, l_le, l_lt, l_eq, r_le, r_lt, r_eq, sh43, sh9, sh23, ↓w_aload_0, ↓w_gf0, ↓w_iflt, ↓w_sipush, ↓w_iclt, ↓w_vret, ↓w_gf3, ↓w_iload_1, ↓w_iastore, ↓w_iload_2, ↓w_iload_3, ↓w_iload_4, ↓w_bipush, ↓w_icne, ↓w_lconst0, ↓w_goto, ↓w_lconst1, ↓w_iconst, ↓w_imul, ↓w_iadd, ↓w_lshl, ↓w_lastore, ↓w_dup_i, ↓w_dup_r, ↓w_pf0, hc, pm_up_o, pm_up_s])
    | (with_reducible refine bX2_add_4 ?_; simp (disch := first | omega | decide) only [w_nl0, w_nli, w_nlr, ↓w_ts1, ↓w_ts0, w_rcv, w_rfv, w_cs, true_and, and_true, List.length_nil, List.length_cons, Nat.reduceAdd, Nat.reduceLeDiff, Nat.zero_le, Nat.reduceLT, ↓w_nil, ix_nI, nI_leP, nI_ltP, nI_eqP, nI_1, ↓i_inN, i_inN, l_le, l_lt, l_eq, r_le, r_lt, r_eq, sh43, sh9, sh23, ↓w_aload_0, ↓w_gf0, ↓w_iflt, ↓w_sipush, ↓w_iclt, ↓w_vret, ↓w_gf3, ↓w_iload_1, ↓w_iastore, ↓w_iload_2, ↓w_iload_3, ↓w_iload_4, ↓w_bipush, ↓w_icne, ↓w_lconst0, ↓w_goto, ↓w_lconst1, ↓w_iconst, ↓w_imul, ↓w_iadd, ↓w_lshl, ↓w_lastore, ↓w_dup_i, ↓w_dup_r, ↓w_pf0, hc, pm_up_o, pm_up_s])
    | (simp only [w_in])
    | (intro _))
  all_goals first | (with_reducible exact hQ) | omega | grind
theorem c_Pl_add1 {c r f : Nat} {x1 x2 : Int32} (hd : 1 ≤ d) (hc : I 43 6 = nI c) (hc2 : c < 160) (hr : r < 30) (hf : f < 2) (hQ : Q none SH (pm_up (pm_up (pm_up (pm_up (pm_up I 44 c x1) 45 c x2) 46 c (nI r)) 47 c (nI f)) 43 6 (nI (c + 1))) (pm_upL J 48 c (bitL (2 * r + f)))) : pm_C g d 38 [.ref 43, .int x1, .int x2, .int (nI r), .int (nI f)] Q SH I J := by
  have h9 := n9 (j := r) (by omega)
  unfold bitL at hQ
  refine eX2_add (by omega) ?_
  repeat' (first
    | (apply And.intro)
    | (with_reducible refine bX2_add_0 ?_; simp (disch := first | omega | decide) only [w_nl0, w_nli, w_nlr, ↓w_ts1, ↓w_ts0, w_rcv, w_rfv, w_cs, true_and, and_true, List.length_nil, List.length_cons, Nat.reduceAdd, Nat.reduceLeDiff, Nat.zero_le, Nat.reduceLT, ↓w_nil, ix_nI, nI_leP, nI_ltP, nI_eqP, nI_1, ↓i_inN, i_inN, l_le, l_lt, l_eq, r_le, r_lt, r_eq, sh43, sh9, sh23, ↓w_aload_0, ↓w_gf0, ↓w_iflt, ↓w_sipush, ↓w_iclt, ↓w_vret, ↓w_gf3, ↓w_iload_1, ↓w_iastore, ↓w_iload_2, ↓w_iload_3, ↓w_iload_4, ↓w_bipush, ↓w_icne, ↓w_lconst0, ↓w_goto, ↓w_lconst1, ↓w_iconst, ↓w_imul, ↓w_iadd, ↓w_lshl, ↓w_lastore, ↓w_dup_i, ↓w_dup_r, ↓w_pf0, hc, pm_up_o, pm_up_s, nI_2m, nI_add])
    | (with_reducible refine bX2_add_1 ?_; simp (disch := first | omega | decide) only [w_nl0, w_nli, w_nlr, ↓w_ts1, ↓w_ts0, w_rcv, w_rfv, w_cs, true_and, and_true, List.length_nil, List.length_cons, Nat.reduceAdd, Nat.reduceLeDiff, Nat.zero_le, Nat.reduceLT, ↓w_nil, ix_nI, nI_leP, nI_ltP, nI_eqP, nI_1, ↓i_inN, i_inN, l_le, l_lt, l_eq, r_le, r_lt, r_eq, sh43, sh9, sh23, ↓w_aload_0, ↓w_gf0, ↓w_iflt, ↓w_sipush, ↓w_iclt, ↓w_vret, ↓w_gf3, ↓w_iload_1, ↓w_iastore, ↓w_iload_2, ↓w_iload_3, ↓w_iload_4, ↓w_bipush, ↓w_icne, ↓w_lconst0, ↓w_goto, ↓w_lconst1, ↓w_iconst, ↓w_imul, ↓w_iadd, ↓w_lshl, ↓w_lastore, ↓w_dup_i, ↓w_dup_r, ↓w_pf0, hc, pm_up_o, pm_up_s, nI_2m, nI_add])
    | (with_reducible refine bX2_add_2 ?_; simp (disch := first | omega | decide) only [w_nl0, w_nli, w_nlr, ↓w_ts1, ↓w_ts0, w_rcv, w_rfv, w_cs, true_and, and_true, List.length_nil, List.length_cons, Nat.reduceAdd, Nat.reduceLeDiff, Nat.zero_le, Nat.reduceLT, ↓w_nil, ix_nI, nI_leP, nI_ltP, nI_eqP, nI_1, ↓i_inN, i_inN, l_le, l_lt, l_eq, r_le, r_lt, r_eq, sh43, sh9, sh23, ↓w_aload_0, ↓w_gf0, ↓w_iflt, ↓w_sipush, ↓w_iclt, ↓w_vret, ↓w_gf3, ↓w_iload_1, ↓w_iastore, ↓w_iload_2, ↓w_iload_3, ↓w_iload_4, ↓w_bipush, ↓w_icne, ↓w_lconst0, ↓w_goto, ↓w_lconst1, ↓w_iconst, ↓w_imul, ↓w_iadd, ↓w_lshl, ↓w_lastore, ↓w_dup_i, ↓w_dup_r, ↓w_pf0, hc, pm_up_o, pm_up_s, nI_2m, nI_add])
    | (with_reducible refine bX2_add_3 ?_; simp (disch := first | omega | decide) only [w_nl0, w_nli, w_nlr, ↓w_ts1, ↓w_ts0, w_rcv, w_rfv, w_cs, true_and, and_true, List.length_nil, List.length_cons, Nat.reduceAdd, Nat.reduceLeDiff, Nat.zero_le, Nat.reduceLT, ↓w_nil, ix_nI, nI_leP, nI_ltP, nI_eqP, nI_1, ↓i_inN, i_inN, l_le, l_lt, l_eq, r_le, r_lt, r_eq, sh43, sh9, sh23, ↓w_aload_0, ↓w_gf0, ↓w_iflt, ↓w_sipush, ↓w_iclt, ↓w_vret, ↓w_gf3, ↓w_iload_1, ↓w_iastore, ↓w_iload_2, ↓w_iload_3, ↓w_iload_4, ↓w_bipush, ↓w_icne, ↓w_lconst0, ↓w_goto, ↓w_lconst1, ↓w_iconst, ↓w_imul, ↓w_iadd, ↓w_lshl, ↓w_lastore, ↓w_dup_i, ↓w_dup_r, ↓w_pf0, hc, pm_up_o, pm_up_s, nI_2m, nI_add])
    | (with_reducible refine bX2_add_4 ?_; simp (disch := first | omega | decide) only [w_nl0, w_nli, w_nlr, ↓w_ts1, ↓w_ts0, w_rcv, w_rfv, w_cs, true_and, and_true, List.length_nil, List.length_cons, Nat.reduceAdd, Nat.reduceLeDiff, Nat.zero_le, Nat.reduceLT, ↓w_nil, ix_nI, nI_leP, nI_ltP, nI_eqP, nI_1, ↓i_inN, i_inN, l_le, l_lt, l_eq, r_le, r_lt, r_eq, sh43, sh9, sh23, ↓w_aload_0, ↓w_gf0, ↓w_iflt, ↓w_sipush, ↓w_iclt, ↓w_vret, ↓w_gf3, ↓w_iload_1, ↓w_iastore, ↓w_iload_2, ↓w_iload_3, ↓w_iload_4, ↓w_bipush, ↓w_icne, ↓w_lconst0, ↓w_goto, ↓w_lconst1, ↓w_iconst, ↓w_imul, ↓w_iadd, ↓w_lshl, ↓w_lastore, ↓w_dup_i, ↓w_dup_r, ↓w_pf0, hc, pm_up_o, pm_up_s, nI_2m, nI_add])
    | (simp only [w_in])
    | (intro _))
  all_goals first | (with_reducible exact hQ) | omega | grind
/-- a metal's days, from place base on, the latest ahead -/
def blk (I : pm_MI) (J : pm_ML) (base m len : Nat) (D : Nat → Nat) : Prop := I 43 6 = nI (base + len) ∧ (∀ i, i < len → I 44 (base + i) = nI m ∧ I 45 (base + i) = nI (D i) ∧ I 46 (base + i) = -9 ∧ I 47 (base + i) = -9 ∧ J 48 (base + i) = 0) ∧ (∀ i j, i < j → j < len → D j < D i) ∧ ∀ i, i < len → D i ≤ 999
def frA (I : pm_MI) (J : pm_ML) (I' : pm_MI) (J' : pm_ML) (base : Nat) : Prop := (∀ a, a ≠ 43 → a ≠ 44 → a ≠ 45 → a ≠ 46 → a ≠ 47 → I' a = I a) ∧ (∀ p, p < base → I' 44 p = I 44 p ∧ I' 45 p = I 45 p ∧ I' 46 p = I 46 p ∧ I' 47 p = I 47 p ∧ J' 48 p = J 48 p) ∧ ∀ a, a ≠ 48 → J' a = J a
theorem frA.rf {base : Nat} : frA I J I J base := ⟨fun _ _ _ _ _ _ => rfl, fun _ _ => ⟨rfl, rfl, rfl, rfl, rfl⟩, fun _ _ => rfl⟩
theorem frA.tr {I2 I3 : pm_MI} {J2 J3 : pm_ML} {base : Nat} (h : frA I J I2 J2 base) (h2 : frA I2 J2 I3 J3 base) : frA I J I3 J3 base :=
  ⟨fun a p1 p2 p3 p4 p5 => (h2.1 a p1 p2 p3 p4 p5).trans (h.1 a p1 p2 p3 p4 p5), fun p hp => by
    obtain ⟨a1, a2, a3, a4, a5⟩ := h.2.1 p hp
    obtain ⟨b1, b2, b3, b4, b5⟩ := h2.2.1 p hp
    exact ⟨b1.trans a1, b2.trans a2, b3.trans a3, b4.trans a4, b5.trans a5⟩, fun a ha => (h2.2.2 a ha).trans (h.2.2 a ha)⟩
def dIn (D : Nat → Nat) (j y i : Nat) : Nat := if i < j then D i else if i = j then y else D (i - 1)
theorem dIn_ok {D : Nat → Nat} {len j y : Nat} (hj : j ≤ len) (hD : ∀ i k, i < k → k < len → D k < D i) (hlo : ∀ i, j ≤ i → i < len → D i < y) (hhi : ∀ i, i < j → y < D i) : (∀ i k, i < k → k < len + 1 → dIn D j y k < dIn D j y i) ∧ ∀ x, (∃ i, i < len + 1 ∧ dIn D j y i = x) ↔ x = y ∨ ∃ i, i < len ∧ D i = x := by
  constructor
  · intro i k hik hk
    unfold dIn
    by_cases c1 : k < j
    · rw [if_pos c1, if_pos (by omega)]; exact hD i k hik (by omega)
    · rw [if_neg c1]
      by_cases c2 : k = j
      · rw [if_pos c2, if_pos (by omega)]; exact hhi i (by omega)
      · rw [if_neg c2]
        have h1 := hlo (k - 1) (by omega) (by omega)
        by_cases c3 : i < j
        · rw [if_pos c3]; have := hhi i c3; omega
        · rw [if_neg c3]
          by_cases c4 : i = j
          · rw [if_pos c4]; exact h1
          · rw [if_neg c4]; exact hD (i - 1) (k - 1) (by omega) (by omega)
  · intro x
    constructor
    · rintro ⟨i, hi, e⟩
      unfold dIn at e
      split at e
      · exact Or.inr ⟨i, by omega, e⟩
      · split at e
        · exact Or.inl e.symm
        · exact Or.inr ⟨i - 1, by omega, e⟩
    · rintro (e | ⟨i, hi, e⟩)
      · exact ⟨j, by omega, by unfold dIn; rw [if_neg (by omega), if_pos rfl, e]⟩
      · by_cases c : i < j
        · exact ⟨i, by omega, by unfold dIn; rw [if_pos c, e]⟩
        · exact ⟨i + 1, by omega, by unfold dIn; rw [if_neg (by omega), if_neg (by omega), Nat.add_sub_cancel, e]⟩
set_option maxHeartbeats 4000000 in
theorem c_addDay {base m len y : Nat} {D : Nat → Nat} (hd : 2 ≤ d) (hm : m < 40) (hy : y ≤ 999) (hb : base + len < 160) (h49 : I 49 m = nI base) (hB : blk I J base m len D) (hQ : ∀ I' J' len' D', frA I J I' J' base → blk I' J' base m len' D' → (∀ x, (∃ i, i < len' ∧ D' i = x) ↔ x = y ∨ ∃ i, i < len ∧ D i = x) → Q none SH I' J') : pm_C g d 37 [.ref 43, .int (nI m), .int (nI y)] Q SH I J := by
  obtain ⟨b1, b2, b3, b4⟩ := id hB
  have hq0 : (∃ i, i < len ∧ D i = y) → Q none SH I J := fun ⟨i, hi, e⟩ => hQ I J len D frA.rf hB (fun x => ⟨fun h => Or.inr h, fun h => by
    rcases h with h | h
    · exact ⟨i, hi, by rw [e, h]⟩
    · exact h⟩)
  have hbub : (∀ i, i < len → ¬ D i = y) → ∀ j, j ≤ len → ∀ z I2, (∀ a, a ≠ 43 → a ≠ 44 → a ≠ 45 → a ≠ 46 → a ≠ 47 → I2 a = I a) → (I2 43 6 = nI (base + (len + 1))) → (∀ p, p < base → I2 44 p = I 44 p ∧ I2 45 p = I 45 p ∧ I2 46 p = I 46 p ∧ I2 47 p = I 47 p) → (∀ i, i < len + 1 → I2 44 (base + i) = nI m ∧ I2 46 (base + i) = -9 ∧ I2 47 (base + i) = -9) → (∀ i, i < len + 1 → I2 45 (base + i) = nI (dIn D j y i)) → (∀ i, j ≤ i → i < len → D i < y) → UU g (d - 1) 37 kX2_addDay (pm_rm d 37) Q 4 [some (.ref 43), some (.int (nI m)), some (.int (nI y)), some (.int (nI (base + j))), z] [] SH I2 (pm_upL J 48 (base + len) 0) (0, 0) := by
    intro hno j
    induction j with
    | zero =>
      intro hj z I2 f1 f2 f3 f4 f5 f6
      have q := hQ I2 (pm_upL J 48 (base + len) 0) (len + 1) (dIn D 0 y) ⟨f1, fun p hp => by
        obtain ⟨k1, k2, k3, k4⟩ := f3 p hp
        exact ⟨k1, k2, k3, k4, by rw [pm_upL_n (by omega)]⟩, fun a ha => pm_upL_o ha⟩ ⟨f2, fun i hi => by
        obtain ⟨k1, k2, k3⟩ := f4 i hi
        refine ⟨k1, f5 i hi, k2, k3, ?_⟩
        by_cases e : i = len
        · rw [e, pm_upL_s]
        · rw [pm_upL_n (by omega)]; exact (b2 i (by omega)).2.2.2.2, (dIn_ok (by omega) b3 f6 (fun i hi => by omega)).1, fun i hi => by
        unfold dIn
        rw [if_neg (by omega)]
        split
        · exact hy
        · exact b4 _ (by omega)⟩ (dIn_ok (by omega) b3 f6 (fun i hi => by omega)).2
      have e49 : I2 49 m = nI base := by rw [f1 49 (by decide) (by decide) (by decide) (by decide) (by decide)]; exact h49
      clear hQ hq0 b2 b3 b4 hB f1 f3 f4 f5 f6 hno
      refine bX2_addDay_4 ?_
      simp (disch := first | omega | decide) only [w_nl0, w_nli, w_nlr, ↓w_ts1, ↓w_ts0, w_rcv, w_rfv, w_cs, true_and, and_true, List.length_nil, List.length_cons, Nat.reduceAdd, Nat.reduceLeDiff, Nat.zero_le, Nat.reduceLT, ↓w_nil, ix_nI, nI_leP, nI_ltP, nI_eqP, nI_1, ↓i_inN, i_inN, l_le, l_lt, l_eq, r_le, r_lt, r_eq, sh43, sh9, sh23, ↓w_iload_3, ↓w_aload_0, ↓w_gf3, ↓w_iload_1, ↓w_iaload, ↓w_icle, ↓w_sipush, ↓w_icge, ↓w_iconst, ↓w_isub, ↓w_iload_2, ↓w_iastore, ↓w_iinc_3, ↓w_goto, e49]
      repeat' (first
        | (apply And.intro)
        | (with_reducible refine bX2_addDay_5 ?_; simp (disch := first | omega | decide) only [w_nl0, w_nli, w_nlr, ↓w_ts1, ↓w_ts0, w_rcv, w_rfv, w_cs, true_and, and_true, List.length_nil, List.length_cons, Nat.reduceAdd, Nat.reduceLeDiff, Nat.zero_le, Nat.reduceLT, ↓w_nil, ix_nI, nI_leP, nI_ltP, nI_eqP, nI_1, ↓i_inN, i_inN, l_le, l_lt, l_eq, r_le, r_lt, r_eq, sh43, sh9, sh23, ↓w_aload_0, ↓w_gf0, ↓w_istore_3, ↓w_gf3, ↓w_iload_1, ↓w_iaload, ↓w_istore_4, ↓w_iload_4, ↓w_icge, ↓w_iload_2, ↓w_icne, ↓w_vret, ↓w_iinc_4, ↓w_goto, ↓w_bipush, ↓w_iv, ↓pm_cl2_5, ↓w_iload_3, ↓w_icle, ↓w_sipush, ↓w_iconst, ↓w_isub, ↓w_iastore, ↓w_iinc_3])
        | (simp only [w_in])
        | (intro _))
      all_goals first | (with_reducible exact q) | omega | grind
    | succ j ih =>
      intro hj z I2 f1 f2 f3 f4 f5 f6
      have e49 : I2 49 m = nI base := by rw [f1 49 (by decide) (by decide) (by decide) (by decide) (by decide)]; exact h49
      have e45 : I2 45 (base + j) = nI (D j) := by rw [f5 j (by omega)]; unfold dIn; rw [if_pos (by omega)]
      have hsub : nI (base + (j + 1)) - 1 = nI (base + j) := nI_pred _
      have hsub2 : nI (base + (j + 1)) + -1 = nI (base + j) := by rw [← hsub, Int32.sub_eq_add_neg]
      have hDj := b4 j (by omega)
      have hne := hno j (by omega)
      by_cases hc : D j < y
      · have q := ih (by omega) z (pm_up (pm_up I2 45 (base + (j + 1)) (nI (D j))) 45 (base + j) (nI y)) (fun a p1 p2 p3 p4 p5 => by rw [pm_up_o p3, pm_up_o p3]; exact f1 a p1 p2 p3 p4 p5) (by rw [pm_up_o (by decide), pm_up_o (by decide)]; exact f2) (fun p hp => by
          rw [pm_up_o (by decide), pm_up_o (by decide), pm_up_n (by omega), pm_up_n (by omega), pm_up_o (by decide), pm_up_o (by decide), pm_up_o (by decide), pm_up_o (by decide)]
          exact f3 p hp) (fun i hi => by
          rw [pm_up_o (by decide), pm_up_o (by decide), pm_up_o (by decide), pm_up_o (by decide), pm_up_o (by decide), pm_up_o (by decide)]
          exact f4 i hi) (fun i hi => by
          rw [up_at, up_at]
          unfold dIn
          by_cases c1 : i = j
          · rw [if_pos (by omega), if_neg (by omega), if_pos c1]
          · rw [if_neg (by omega)]
            by_cases c2 : i = j + 1
            · rw [if_pos (by omega), if_neg (by omega), if_neg c1, c2, Nat.add_sub_cancel]
            · rw [if_neg (by omega), f5 i hi]
              unfold dIn
              by_cases c3 : i < j
              · rw [if_pos (by omega), if_pos c3]
              · rw [if_neg (by omega), if_neg c2, if_neg c3, if_neg c1]) (fun i h1 h2 => by
          by_cases c : i = j
          · rw [c]; exact hc
          · exact f6 i (by omega) h2)
        have hlt : nI (D j) < nI y := nI_lt hc (by omega)
        clear hQ hq0 b2 b3 b4 hB f1 f3 f4 f5 f6 hno ih
        refine bX2_addDay_4 ?_
        simp (disch := first | omega | decide) only [w_nl0, w_nli, w_nlr, ↓w_ts1, ↓w_ts0, w_rcv, w_rfv, w_cs, true_and, and_true, List.length_nil, List.length_cons, Nat.reduceAdd, Nat.reduceLeDiff, Nat.zero_le, Nat.reduceLT, ↓w_nil, ix_nI, nI_leP, nI_ltP, nI_eqP, nI_1, ↓i_inN, i_inN, l_le, l_lt, l_eq, r_le, r_lt, r_eq, sh43, sh9, sh23, ↓w_iload_3, ↓w_aload_0, ↓w_gf3, ↓w_iload_1, ↓w_iaload, ↓w_icle, ↓w_sipush, ↓w_icge, ↓w_iconst, ↓w_isub, ↓w_iload_2, ↓w_iastore, ↓w_iinc_3, ↓w_goto, e49, hsub, hsub2, e45]
        repeat' (first
          | (apply And.intro)
          | (simp only [w_in])
          | (intro _))
        all_goals first | (with_reducible exact q) | omega | grind
      · have hhi : ∀ i, i < j + 1 → y < D i := by
          intro i hi
          by_cases c : i = j
          · rw [c]; omega
          · have := b3 i j (by omega) (by omega); omega
        have q := hQ I2 (pm_upL J 48 (base + len) 0) (len + 1) (dIn D (j + 1) y) ⟨f1, fun p hp => by
          obtain ⟨k1, k2, k3, k4⟩ := f3 p hp
          exact ⟨k1, k2, k3, k4, by rw [pm_upL_n (by omega)]⟩, fun a ha => pm_upL_o ha⟩ ⟨f2, fun i hi => by
          obtain ⟨k1, k2, k3⟩ := f4 i hi
          refine ⟨k1, f5 i hi, k2, k3, ?_⟩
          by_cases e : i = len
          · rw [e, pm_upL_s]
          · rw [pm_upL_n (by omega)]; exact (b2 i (by omega)).2.2.2.2, (dIn_ok hj b3 f6 hhi).1, fun i hi => by
          unfold dIn
          split
          · exact b4 _ (by omega)
          · split
            · exact hy
            · exact b4 _ (by omega)⟩ (dIn_ok hj b3 f6 hhi).2
        have hlt : nI y ≤ nI (D j) := nI_le (by omega) (by omega)
        clear hQ hq0 b2 b3 b4 hB f1 f3 f4 f5 f6 hno ih
        refine bX2_addDay_4 ?_
        simp (disch := first | omega | decide) only [w_nl0, w_nli, w_nlr, ↓w_ts1, ↓w_ts0, w_rcv, w_rfv, w_cs, true_and, and_true, List.length_nil, List.length_cons, Nat.reduceAdd, Nat.reduceLeDiff, Nat.zero_le, Nat.reduceLT, ↓w_nil, ix_nI, nI_leP, nI_ltP, nI_eqP, nI_1, ↓i_inN, i_inN, l_le, l_lt, l_eq, r_le, r_lt, r_eq, sh43, sh9, sh23, ↓w_iload_3, ↓w_aload_0, ↓w_gf3, ↓w_iload_1, ↓w_iaload, ↓w_icle, ↓w_sipush, ↓w_icge, ↓w_iconst, ↓w_isub, ↓w_iload_2, ↓w_iastore, ↓w_iinc_3, ↓w_goto, e49, hsub, hsub2, e45]
        repeat' (first
          | (apply And.intro)
          | (with_reducible refine bX2_addDay_5 ?_; simp (disch := first | omega | decide) only [w_nl0, w_nli, w_nlr, ↓w_ts1, ↓w_ts0, w_rcv, w_rfv, w_cs, true_and, and_true, List.length_nil, List.length_cons, Nat.reduceAdd, Nat.reduceLeDiff, Nat.zero_le, Nat.reduceLT, ↓w_nil, ix_nI, nI_leP, nI_ltP, nI_eqP, nI_1, ↓i_inN, i_inN, l_le, l_lt, l_eq, r_le, r_lt, r_eq, sh43, sh9, sh23, ↓w_aload_0, ↓w_gf0, ↓w_istore_3, ↓w_gf3, ↓w_iload_1, ↓w_iaload, ↓w_istore_4, ↓w_iload_4, ↓w_icge, ↓w_iload_2, ↓w_icne, ↓w_vret, ↓w_iinc_4, ↓w_goto, ↓w_bipush, ↓w_iv, ↓pm_cl2_5, ↓w_iload_3, ↓w_icle, ↓w_sipush, ↓w_iconst, ↓w_isub, ↓w_iastore, ↓w_iinc_3, e49, hsub, hsub2, e45])
          | (simp only [w_in])
          | (intro _))
        all_goals first | (with_reducible exact q) | omega | grind
  have hfin : (∀ i, i < len → ¬ D i = y) → ∀ z, UU g (d - 1) 37 kX2_addDay (pm_rm d 37) Q 4 [some (.ref 43), some (.int (nI m)), some (.int (nI y)), some (.int (nI (base + len))), z] [] SH (pm_up (pm_up (pm_up (pm_up (pm_up I 44 (base + len) (nI m)) 45 (base + len) (nI y)) 46 (base + len) (-9)) 47 (base + len) (-9)) 43 6 (nI (base + len + 1))) (pm_upL J 48 (base + len) 0) (0, 0) := by
    intro hno z
    refine hbub hno len (Nat.le_refl _) z _ (fun a p1 p2 p3 p4 p5 => by rw [pm_up_o p1, pm_up_o p5, pm_up_o p4, pm_up_o p3, pm_up_o p2]) (by rw [pm_up_s]; rfl) (fun p hp => ?_) (fun i hi => ?_) (fun i hi => ?_) (fun i h1 h2 => by omega)
    · simp (disch := decide) only [pm_up_o]
      rw [pm_up_n (by omega), pm_up_n (by omega), pm_up_n (by omega), pm_up_n (by omega)]
      exact ⟨rfl, rfl, rfl, rfl⟩
    · simp (disch := decide) only [pm_up_o]
      by_cases e : i = len
      · rw [e, pm_up_s, pm_up_s, pm_up_s]; exact ⟨rfl, rfl, rfl⟩
      · rw [pm_up_n (by omega), pm_up_n (by omega), pm_up_n (by omega)]
        have := b2 i (by omega)
        exact ⟨this.1, this.2.2.1, this.2.2.2.1⟩
    · simp (disch := decide) only [pm_up_o]
      unfold dIn
      by_cases e : i = len
      · rw [e, pm_up_s, if_neg (by omega), if_pos rfl]
      · rw [pm_up_n (by omega), if_pos (by omega)]
        exact (b2 i (by omega)).2.1
  clear hbub hQ
  have e0 : ∀ i, i < len → I 45 (base + i) = nI (D i) := fun i hi => (b2 i hi).2.1
  clear hB b2 b3
  refine eX2_addDay (by omega) ?_
  refine bX2_addDay_0 ?_
  simp (disch := first | omega | decide) only [w_nl0, w_nli, w_nlr, ↓w_ts1, ↓w_ts0, w_rcv, w_rfv, w_cs, true_and, and_true, List.length_nil, List.length_cons, Nat.reduceAdd, Nat.reduceLeDiff, Nat.zero_le, Nat.reduceLT, ↓w_nil, ix_nI, nI_leP, nI_ltP, nI_eqP, nI_1, ↓i_inN, i_inN, l_le, l_lt, l_eq, r_le, r_lt, r_eq, sh43, sh9, sh23, ↓w_aload_0, ↓w_gf0, ↓w_istore_3, ↓w_gf3, ↓w_iload_1, ↓w_iaload, ↓w_istore_4, b1, h49]
  refine ⟨by omega, ?_⟩
  refine pm_find (U := fun k => UU g (d - 1) 37 kX2_addDay (pm_rm d 37) Q 1 [some (.ref 43), some (.int (nI m)), some (.int (nI y)), some (.int (nI (base + len))), some (.int (nI (base + k)))] [] SH I J (0, 0)) len (fun i => D i = y) (fun k hk hno w => ?_) (fun hno => ?_)
  · have e1 := e0 k hk
    have e2 := b4 k hk
    by_cases hc : D k = y
    · have q := hq0 ⟨k, hk, hc⟩
      rw [hc] at e1
      clear hq0 hfin w hno e0 b4
      refine bX2_addDay_1 ?_
      simp (disch := first | omega | decide) only [w_nl0, w_nli, w_nlr, ↓w_ts1, ↓w_ts0, w_rcv, w_rfv, w_cs, true_and, and_true, List.length_nil, List.length_cons, Nat.reduceAdd, Nat.reduceLeDiff, Nat.zero_le, Nat.reduceLT, ↓w_nil, ix_nI, nI_leP, nI_ltP, nI_eqP, nI_1, ↓i_inN, i_inN, l_le, l_lt, l_eq, r_le, r_lt, r_eq, sh43, sh9, sh23, ↓w_iload_4, ↓w_aload_0, ↓w_gf0, ↓w_icge, ↓w_gf3, ↓w_iaload, ↓w_iload_2, ↓w_icne, ↓w_vret, b1, e1]
      repeat' (first
        | (apply And.intro)
        | (with_reducible refine bX2_addDay_2 ?_; simp (disch := first | omega | decide) only [w_nl0, w_nli, w_nlr, ↓w_ts1, ↓w_ts0, w_rcv, w_rfv, w_cs, true_and, and_true, List.length_nil, List.length_cons, Nat.reduceAdd, Nat.reduceLeDiff, Nat.zero_le, Nat.reduceLT, ↓w_nil, ix_nI, nI_leP, nI_ltP, nI_eqP, nI_1, ↓i_inN, i_inN, l_le, l_lt, l_eq, r_le, r_lt, r_eq, sh43, sh9, sh23, ↓w_aload_0, ↓w_gf0, ↓w_istore_3, ↓w_gf3, ↓w_iload_1, ↓w_iaload, ↓w_istore_4, ↓w_iload_4, ↓w_icge, ↓w_iload_2, ↓w_icne, ↓w_vret, ↓w_iinc_4, ↓w_goto, ↓w_bipush, ↓w_iv, ↓pm_cl2_5, ↓w_iload_3, ↓w_icle, ↓w_sipush, ↓w_iconst, ↓w_isub, ↓w_iastore, ↓w_iinc_3])
        | (simp only [w_in])
        | (intro _))
      all_goals first | (with_reducible exact q) | omega | grind
    · have q := w hc
      have hne : ¬ nI (D k) = nI y := fun z => hc (nI_inj (by omega) (by omega) z)
      clear hq0 hfin w hno e0 b4
      refine bX2_addDay_1 ?_
      simp (disch := first | omega | decide) only [w_nl0, w_nli, w_nlr, ↓w_ts1, ↓w_ts0, w_rcv, w_rfv, w_cs, true_and, and_true, List.length_nil, List.length_cons, Nat.reduceAdd, Nat.reduceLeDiff, Nat.zero_le, Nat.reduceLT, ↓w_nil, ix_nI, nI_leP, nI_ltP, nI_eqP, nI_1, ↓i_inN, i_inN, l_le, l_lt, l_eq, r_le, r_lt, r_eq, sh43, sh9, sh23, ↓w_iload_4, ↓w_aload_0, ↓w_gf0, ↓w_icge, ↓w_gf3, ↓w_iaload, ↓w_iload_2, ↓w_icne, ↓w_vret, b1, e1]
      repeat' (first
        | (apply And.intro)
        | (with_reducible refine bX2_addDay_2 ?_; simp (disch := first | omega | decide) only [w_nl0, w_nli, w_nlr, ↓w_ts1, ↓w_ts0, w_rcv, w_rfv, w_cs, true_and, and_true, List.length_nil, List.length_cons, Nat.reduceAdd, Nat.reduceLeDiff, Nat.zero_le, Nat.reduceLT, ↓w_nil, ix_nI, nI_leP, nI_ltP, nI_eqP, nI_1, ↓i_inN, i_inN, l_le, l_lt, l_eq, r_le, r_lt, r_eq, sh43, sh9, sh23, ↓w_aload_0, ↓w_gf0, ↓w_istore_3, ↓w_gf3, ↓w_iload_1, ↓w_iaload, ↓w_istore_4, ↓w_iload_4, ↓w_icge, ↓w_iload_2, ↓w_icne, ↓w_vret, ↓w_iinc_4, ↓w_goto, ↓w_bipush, ↓w_iv, ↓pm_cl2_5, ↓w_iload_3, ↓w_icle, ↓w_sipush, ↓w_iconst, ↓w_isub, ↓w_iastore, ↓w_iinc_3])
        | (simp only [w_in])
        | (intro _))
      all_goals first | (with_reducible exact q) | omega | grind
  · have q := hfin hno
    clear hq0 hfin hno e0 b4
    refine bX2_addDay_1 ?_
    simp (disch := first | omega | decide) only [w_nl0, w_nli, w_nlr, ↓w_ts1, ↓w_ts0, w_rcv, w_rfv, w_cs, true_and, and_true, List.length_nil, List.length_cons, Nat.reduceAdd, Nat.reduceLeDiff, Nat.zero_le, Nat.reduceLT, ↓w_nil, ix_nI, nI_leP, nI_ltP, nI_eqP, nI_1, ↓i_inN, i_inN, l_le, l_lt, l_eq, r_le, r_lt, r_eq, sh43, sh9, sh23, ↓w_iload_4, ↓w_aload_0, ↓w_gf0, ↓w_icge, ↓w_gf3, ↓w_iaload, ↓w_iload_2, ↓w_icne, ↓w_vret, b1]
    repeat' (first
      | (apply And.intro)
      | (with_reducible refine bX2_addDay_3 ?_; simp (disch := first | omega | decide) only [w_nl0, w_nli, w_nlr, ↓w_ts1, ↓w_ts0, w_rcv, w_rfv, w_cs, true_and, and_true, List.length_nil, List.length_cons, Nat.reduceAdd, Nat.reduceLeDiff, Nat.zero_le, Nat.reduceLT, ↓w_nil, ix_nI, nI_leP, nI_ltP, nI_eqP, nI_1, ↓i_inN, i_inN, l_le, l_lt, l_eq, r_le, r_lt, r_eq, sh43, sh9, sh23, ↓w_aload_0, ↓w_gf0, ↓w_istore_3, ↓w_gf3, ↓w_iload_1, ↓w_iaload, ↓w_istore_4, ↓w_iload_4, ↓w_icge, ↓w_iload_2, ↓w_icne, ↓w_vret, ↓w_iinc_4, ↓w_goto, ↓w_bipush, ↓w_iv, ↓pm_cl2_5, ↓w_iload_3, ↓w_icle, ↓w_sipush, ↓w_iconst, ↓w_isub, ↓w_iastore, ↓w_iinc_3])
      | (with_reducible refine c_Pl_add0 (c := base + len) (by omega) b1 hb ?_ ; simp (disch := first | omega | decide) only [w_nl0, w_nli, w_nlr, ↓w_ts1, ↓w_ts0, w_rcv, w_rfv, w_cs, true_and, and_true, List.length_nil, List.length_cons, Nat.reduceAdd, Nat.reduceLeDiff, Nat.zero_le, Nat.reduceLT, ↓w_nil, ix_nI, nI_leP, nI_ltP, nI_eqP, nI_1, ↓i_inN, i_inN, l_le, l_lt, l_eq, r_le, r_lt, r_eq, sh43, sh9, sh23, ↓w_aload_0, ↓w_gf0, ↓w_istore_3, ↓w_gf3, ↓w_iload_1, ↓w_iaload, ↓w_istore_4, ↓w_iload_4, ↓w_icge, ↓w_iload_2, ↓w_icne, ↓w_vret, ↓w_iinc_4, ↓w_goto, ↓w_bipush, ↓w_iv, ↓pm_cl2_5, ↓w_iload_3, ↓w_icle, ↓w_sipush, ↓w_iconst, ↓w_isub, ↓w_iastore, ↓w_iinc_3])
      | (simp only [w_in])
      | (intro _))
    all_goals first | (with_reducible exact q _) | omega | grind
/-! ===== all days of a metal ===== -/
theorem blk_len {n N m len : Nat} {D : Nat → Nat} (hD : ∀ i j, i < j → j < len → D j < D i) (hm : ∀ i, i < len → D i < 1000 ∧ mdB I n N m (D i) = true) : len ≤ (dsc (mdB I n N m) 1000).length := by
  have h := nd_len (l := (List.range len).map D) (m := dsc (mdB I n N m) 1000) (by
    unfold List.Nodup
    rw [List.pairwise_map]
    refine (List.pairwise_lt_range (n := len)).imp_of_mem ?_
    intro a b _ hb hab e
    have := hD a b hab (List.mem_range.mp hb)
    omega) (fun x hx => by
    obtain ⟨i, hi, rfl⟩ := List.mem_map.mp hx
    exact dsc_mem.mpr (hm i (List.mem_range.mp hi)))
  rw [List.length_map, List.length_range] at h
  exact h
set_option maxHeartbeats 4000000 in
theorem c_gatherDays {n N m base Ty : Nat} (hd : 4 ≤ d) (w : wld I n N Ty) (hm : m < n) (hb : base + (dsc (mdB I n N m) 1000).length ≤ 100) (h49 : I 49 m = nI base) (h43 : I 43 6 = nI base) (hQ : ∀ I' J' len D, frA I J I' J' base → blk I' J' base m len D → (∀ y, (∃ i, i < len ∧ D i = y) ↔ y < 1000 ∧ mdB I n N m y = true) → Q none SH I' J') : pm_C g d 36 [.ref 43, .ref 9, .ref 23, .int (nI m)] Q SH I J := by
  obtain ⟨⟨a1, a2, a3⟩, ⟨n1, n2⟩, ⟨_, _, _, c4⟩, _, e1, f1, _⟩ := w
  have er : ∀ r, r < N → ∃ y, y ≤ 999 ∧ I 25 r = nI y := fun r hr => by
    obtain ⟨_, _, _, y, hy, h⟩ := e1 r hr
    exact ⟨y, by omega, h⟩
  have em : ∀ x, x < n → ∃ y, y ≤ 999 ∧ I 14 x = nI y := fun x hx => by
    obtain ⟨y, hy, h⟩ := f1 x hx
    exact ⟨y, by omega, h⟩
  clear e1 f1 a3
  refine eX2_gatherDays (by omega) ?_
  refine bX2_gatherDays_0 ?_
  simp (disch := first | omega | decide) only [w_nl0, w_nli, w_nlr, ↓w_ts1, ↓w_ts0, w_rcv, w_rfv, w_cs, true_and, and_true, List.length_nil, List.length_cons, Nat.reduceAdd, Nat.reduceLeDiff, Nat.zero_le, Nat.reduceLT, ↓w_nil, ix_nI, nI_leP, nI_ltP, nI_eqP, nI_1, ↓i_inN, i_inN, l_le, l_lt, l_eq, r_le, r_lt, r_eq, sh43, sh9, sh23, ↓w_iconst, ↓w_istore_4]
  refine lp (α := pm_MI × pm_ML × Nat × (Nat → Nat)) (U := fun k a => UU g (d - 1) 36 kX2_gatherDays (pm_rm d 36) Q 1 [some (.ref 43), some (.ref 9), some (.ref 23), some (.int (nI m)), some (.int (nI k))] [] SH a.1 a.2.1 (0, 0)) (fun k a => frA I J a.1 a.2.1 base ∧ blk a.1 a.2.1 base m a.2.2.1 a.2.2.2 ∧ ∀ y, (∃ i, i < a.2.2.1 ∧ a.2.2.2 i = y) ↔ ∃ x, x < k ∧ I 12 x = nI m ∧ I 14 x = nI y ∧ y < 1000) n (fun k a hk hP w2 => ?_) (fun a hP => ?_) (a := (I, J, 0, fun _ => 0)) ⟨frA.rf, ⟨h43, fun i hi => absurd hi (Nat.not_lt_zero i), fun i j _ hj => absurd hj (Nat.not_lt_zero j), fun i hi => absurd hi (Nat.not_lt_zero i)⟩, fun y => ⟨fun ⟨i, hi, _⟩ => absurd hi (Nat.not_lt_zero i), fun ⟨x, hx, _⟩ => absurd hx (Nat.not_lt_zero x)⟩⟩
  · obtain ⟨I2, J2, len, D⟩ := a
    obtain ⟨p1, p2, p3⟩ := hP
    have p1 : frA I J I2 J2 base := p1
    have p2 : blk I2 J2 base m len D := p2
    have p3 : ∀ y, (∃ i, i < len ∧ D i = y) ↔ ∃ x, x < k ∧ I 12 x = nI m ∧ I 14 x = nI y ∧ y < 1000 := p3
    obtain ⟨y, hy, ey⟩ := em k hk
    have hlo : ∀ a, a < 42 → I2 a = I a := fun a ha => p1.1 a (by omega) (by omega) (by omega) (by omega) (by omega)
    have hh : hasM I2 (nI k) := by
      have := hasM_nI a1 hk a2
      unfold hasM at this ⊢
      rw [hlo 9 (by omega)]; exact this
    have e9 : I2 9 9 = nI n := by rw [hlo 9 (by omega)]; exact a1
    have e12 : I2 12 = I 12 := hlo 12 (by omega)
    have e14 : I2 14 k = nI y := by rw [hlo 14 (by omega)]; exact ey
    have e49 : I2 49 m = nI base := by rw [p1.1 49 (by decide) (by decide) (by decide) (by decide) (by decide)]; exact h49
    have hl : len ≤ (dsc (mdB I n N m) 1000).length := blk_len p2.2.2.1 (fun i hi => by
      obtain ⟨x, k1, k2, k3, k4⟩ := (p3 (D i)).mp ⟨i, hi, rfl⟩
      exact ⟨k4, mdB_iff.mpr (Or.inl ⟨x, by omega, k2, k3⟩)⟩)
    have hix : (nI k).toNatClampNeg = k := ix_nI (by omega)
    by_cases hc : I 12 k = nI m
    · have q : ∀ I' J' len' D', frA I2 J2 I' J' base → blk I' J' base m len' D' → (∀ x, (∃ i, i < len' ∧ D' i = x) ↔ x = y ∨ ∃ i, i < len ∧ D i = x) → UU g (d - 1) 36 kX2_gatherDays (pm_rm d 36) Q 2 [some (.ref 43), some (.ref 9), some (.ref 23), some (.int (nI m)), some (.int (nI k))] [] SH I' J' (0, 0) := by
        intro I' J' len' D' r1 r2 r3
        have q2 := w2 (I', J', len', D') ⟨p1.tr r1, r2, fun x => by
          rw [r3 x, p3 x]
          constructor
          · rintro (e | ⟨z, k1, k2⟩)
            · subst e; exact ⟨k, by omega, hc, ey, by omega⟩
            · exact ⟨z, by omega, k2⟩
          · rintro ⟨z, k1, k2, k3, k4⟩
            by_cases e : z = k
            · subst e
              left
              exact nI_inj (by omega) (by omega) (k3.symm.trans ey)
            · exact Or.inr ⟨z, by omega, k2, k3, k4⟩⟩
        clear w2 hQ p3 er em
        refine bX2_gatherDays_2 ?_
        simp (disch := first | omega | decide) only [w_nl0, w_nli, w_nlr, ↓w_ts1, ↓w_ts0, w_rcv, w_rfv, w_cs, true_and, and_true, List.length_nil, List.length_cons, Nat.reduceAdd, Nat.reduceLeDiff, Nat.zero_le, Nat.reduceLT, ↓w_nil, ix_nI, nI_leP, nI_ltP, nI_eqP, nI_1, ↓i_inN, i_inN, l_le, l_lt, l_eq, r_le, r_lt, r_eq, sh43, sh9, sh23, ↓w_iinc_4, ↓w_goto]
        repeat' (first
          | (apply And.intro)
          | (simp only [w_in])
          | (intro _))
        all_goals first | (with_reducible exact q2) | omega | grind
      clear w2 hQ p3 er em
      refine bX2_gatherDays_1 ?_
      simp (disch := first | omega | decide) only [w_nl0, w_nli, w_nlr, ↓w_ts1, ↓w_ts0, w_rcv, w_rfv, w_cs, true_and, and_true, List.length_nil, List.length_cons, Nat.reduceAdd, Nat.reduceLeDiff, Nat.zero_le, Nat.reduceLT, ↓w_nil, ix_nI, nI_leP, nI_ltP, nI_eqP, nI_1, ↓i_inN, i_inN, l_le, l_lt, l_eq, r_le, r_lt, r_eq, sh43, sh9, sh23, ↓w_iload_4, ↓w_aload_1, ↓w_gf0, ↓w_icge, ↓w_iv, ↓pm_cl2_2, ↓w_iload_3, ↓w_icne, ↓w_aload_0, ↓pm_cl2_3, e9]
      repeat' (first
        | (apply And.intro)
        | (with_reducible refine c_fatherOf (by omega) ?_ ; simp (disch := first | omega | decide) only [w_nl0, w_nli, w_nlr, ↓w_ts1, ↓w_ts0, w_rcv, w_rfv, w_cs, true_and, and_true, List.length_nil, List.length_cons, Nat.reduceAdd, Nat.reduceLeDiff, Nat.zero_le, Nat.reduceLT, ↓w_nil, ix_nI, nI_leP, nI_ltP, nI_eqP, nI_1, ↓i_inN, i_inN, l_le, l_lt, l_eq, r_le, r_lt, r_eq, sh43, sh9, sh23, ↓w_iconst, ↓w_istore_4, ↓w_iload_4, ↓w_aload_1, ↓w_gf0, ↓w_icge, ↓w_iv, ↓pm_cl2_2, ↓w_iload_3, ↓w_icne, ↓w_aload_0, ↓pm_cl2_3, ↓w_iinc_4, ↓w_goto, ↓w_aload_2, ↓w_ifeq, ↓w_vret, if_pos hh, hix, e12, e14, hc])
        | (with_reducible refine c_bornOn (by omega) ?_ ; simp (disch := first | omega | decide) only [w_nl0, w_nli, w_nlr, ↓w_ts1, ↓w_ts0, w_rcv, w_rfv, w_cs, true_and, and_true, List.length_nil, List.length_cons, Nat.reduceAdd, Nat.reduceLeDiff, Nat.zero_le, Nat.reduceLT, ↓w_nil, ix_nI, nI_leP, nI_ltP, nI_eqP, nI_1, ↓i_inN, i_inN, l_le, l_lt, l_eq, r_le, r_lt, r_eq, sh43, sh9, sh23, ↓w_iconst, ↓w_istore_4, ↓w_iload_4, ↓w_aload_1, ↓w_gf0, ↓w_icge, ↓w_iv, ↓pm_cl2_2, ↓w_iload_3, ↓w_icne, ↓w_aload_0, ↓pm_cl2_3, ↓w_iinc_4, ↓w_goto, ↓w_aload_2, ↓w_ifeq, ↓w_vret, if_pos hh, hix, e12, e14, hc])
        | (with_reducible refine c_addDay (len := len) (D := D) (y := y) (by omega) (by omega) hy (by omega) e49 p2 (fun I' J' len' D' r1 r2 r3 => ?_) <;> simp (disch := first | omega | decide) only [w_nl0, w_nli, w_nlr, ↓w_ts1, ↓w_ts0, w_rcv, w_rfv, w_cs, true_and, and_true, List.length_nil, List.length_cons, Nat.reduceAdd, Nat.reduceLeDiff, Nat.zero_le, Nat.reduceLT, ↓w_nil, ix_nI, nI_leP, nI_ltP, nI_eqP, nI_1, ↓i_inN, i_inN, l_le, l_lt, l_eq, r_le, r_lt, r_eq, sh43, sh9, sh23, ↓w_iconst, ↓w_istore_4, ↓w_iload_4, ↓w_aload_1, ↓w_gf0, ↓w_icge, ↓w_iv, ↓pm_cl2_2, ↓w_iload_3, ↓w_icne, ↓w_aload_0, ↓pm_cl2_3, ↓w_iinc_4, ↓w_goto, ↓w_aload_2, ↓w_ifeq, ↓w_vret, if_pos hh, hix, e12, e14, hc])
        | (simp only [w_in])
        | (intro _))
      all_goals first | (with_reducible exact q _ _ _ _ r1 r2 r3) | (with_reducible exact q _ _ _ _ (by assumption) (by assumption) (by assumption)) | omega | grind
    · have q2 := w2 (I2, J2, len, D) ⟨p1, p2, fun x => by
        rw [p3 x]
        constructor
        · rintro ⟨z, k1, k2⟩; exact ⟨z, by omega, k2⟩
        · rintro ⟨z, k1, k2, k3⟩
          by_cases e : z = k
          · subst e; exact absurd k2 hc
          · exact ⟨z, by omega, k2, k3⟩⟩
      clear w2 hQ p3 er em
      refine bX2_gatherDays_1 ?_
      simp (disch := first | omega | decide) only [w_nl0, w_nli, w_nlr, ↓w_ts1, ↓w_ts0, w_rcv, w_rfv, w_cs, true_and, and_true, List.length_nil, List.length_cons, Nat.reduceAdd, Nat.reduceLeDiff, Nat.zero_le, Nat.reduceLT, ↓w_nil, ix_nI, nI_leP, nI_ltP, nI_eqP, nI_1, ↓i_inN, i_inN, l_le, l_lt, l_eq, r_le, r_lt, r_eq, sh43, sh9, sh23, ↓w_iload_4, ↓w_aload_1, ↓w_gf0, ↓w_icge, ↓w_iv, ↓pm_cl2_2, ↓w_iload_3, ↓w_icne, ↓w_aload_0, ↓pm_cl2_3, e9]
      repeat' (first
        | (apply And.intro)
        | (with_reducible refine bX2_gatherDays_2 ?_; simp (disch := first | omega | decide) only [w_nl0, w_nli, w_nlr, ↓w_ts1, ↓w_ts0, w_rcv, w_rfv, w_cs, true_and, and_true, List.length_nil, List.length_cons, Nat.reduceAdd, Nat.reduceLeDiff, Nat.zero_le, Nat.reduceLT, ↓w_nil, ix_nI, nI_leP, nI_ltP, nI_eqP, nI_1, ↓i_inN, i_inN, l_le, l_lt, l_eq, r_le, r_lt, r_eq, sh43, sh9, sh23, ↓w_iconst, ↓w_istore_4, ↓w_iload_4, ↓w_aload_1, ↓w_gf0, ↓w_icge, ↓w_iv, ↓pm_cl2_2, ↓w_iload_3, ↓w_icne, ↓w_aload_0, ↓pm_cl2_3, ↓w_iinc_4, ↓w_goto, ↓w_aload_2, ↓w_ifeq, ↓w_vret, if_pos hh, hix, e12])
        | (with_reducible refine c_fatherOf (by omega) ?_ ; simp (disch := first | omega | decide) only [w_nl0, w_nli, w_nlr, ↓w_ts1, ↓w_ts0, w_rcv, w_rfv, w_cs, true_and, and_true, List.length_nil, List.length_cons, Nat.reduceAdd, Nat.reduceLeDiff, Nat.zero_le, Nat.reduceLT, ↓w_nil, ix_nI, nI_leP, nI_ltP, nI_eqP, nI_1, ↓i_inN, i_inN, l_le, l_lt, l_eq, r_le, r_lt, r_eq, sh43, sh9, sh23, ↓w_iconst, ↓w_istore_4, ↓w_iload_4, ↓w_aload_1, ↓w_gf0, ↓w_icge, ↓w_iv, ↓pm_cl2_2, ↓w_iload_3, ↓w_icne, ↓w_aload_0, ↓pm_cl2_3, ↓w_iinc_4, ↓w_goto, ↓w_aload_2, ↓w_ifeq, ↓w_vret, if_pos hh, hix, e12])
        | (simp only [w_in])
        | (intro _))
      all_goals first | (with_reducible exact q2) | omega | grind
  · obtain ⟨I2, J2, len, D⟩ := a
    obtain ⟨p1, p2, p3⟩ := hP
    have p1 : frA I J I2 J2 base := p1
    have p2 : blk I2 J2 base m len D := p2
    have p3 : ∀ y, (∃ i, i < len ∧ D i = y) ↔ ∃ x, x < n ∧ I 12 x = nI m ∧ I 14 x = nI y ∧ y < 1000 := p3
    have q4 : UU g (d - 1) 36 kX2_gatherDays (pm_rm d 36) Q 4 [some (.ref 43), some (.ref 9), some (.ref 23), some (.int (nI m)), some (.int 0)] [] SH I2 J2 (0, 0) := by
      refine lp (α := pm_MI × pm_ML × Nat × (Nat → Nat)) (U := fun k a => UU g (d - 1) 36 kX2_gatherDays (pm_rm d 36) Q 4 [some (.ref 43), some (.ref 9), some (.ref 23), some (.int (nI m)), some (.int (nI k))] [] SH a.1 a.2.1 (0, 0)) (fun k a => frA I J a.1 a.2.1 base ∧ blk a.1 a.2.1 base m a.2.2.1 a.2.2.2 ∧ ∀ y, (∃ i, i < a.2.2.1 ∧ a.2.2.2 i = y) ↔ y < 1000 ∧ ((∃ x, x < n ∧ I 12 x = nI m ∧ I 14 x = nI y) ∨ ∃ r, r < k ∧ (I 28 (2 * r) = nI m ∨ I 28 (2 * r + 1) = nI m) ∧ I 25 r = nI y)) N (fun k a hk hP w2 => ?_) (fun a hP => ?_) (a := (I2, J2, len, D)) ⟨p1, p2, fun y => ?_⟩
      · clear p1 p2 p3
        obtain ⟨I2, J2, len, D⟩ := a
        obtain ⟨p1, p2, p3⟩ := hP
        have p1 : frA I J I2 J2 base := p1
        have p2 : blk I2 J2 base m len D := p2
        have p3 : ∀ y, (∃ i, i < len ∧ D i = y) ↔ y < 1000 ∧ ((∃ x, x < n ∧ I 12 x = nI m ∧ I 14 x = nI y) ∨ ∃ r, r < k ∧ (I 28 (2 * r) = nI m ∨ I 28 (2 * r + 1) = nI m) ∧ I 25 r = nI y) := p3
        obtain ⟨y, hy, ey⟩ := er k hk
        have hlo : ∀ a, a < 42 → I2 a = I a := fun a ha => p1.1 a (by omega) (by omega) (by omega) (by omega) (by omega)
        have e23 : I2 23 7 = nI N := by rw [hlo 23 (by omega)]; exact n1
        have hh : hasR I2 (nI k) := hasR_nI e23 hk n2
        have e28 : I2 28 = I 28 := hlo 28 (by omega)
        have e25 : I2 25 k = nI y := by rw [hlo 25 (by omega)]; exact ey
        have e49 : I2 49 m = nI base := by rw [p1.1 49 (by decide) (by decide) (by decide) (by decide) (by decide)]; exact h49
        have hl : len ≤ (dsc (mdB I n N m) 1000).length := blk_len p2.2.2.1 (fun i hi => by
          obtain ⟨k0, k1⟩ := (p3 (D i)).mp ⟨i, hi, rfl⟩
          refine ⟨k0, mdB_iff.mpr ?_⟩
          rcases k1 with k1 | ⟨r, k2, k3⟩
          · exact Or.inl k1
          · exact Or.inr ⟨r, by omega, k3⟩)
        have hix : (nI k).toNatClampNeg = k := ix_nI (by omega)
        by_cases hc : I 28 (2 * k) = nI m ∨ I 28 (2 * k + 1) = nI m
        · have q : ∀ I' J' len' D', frA I2 J2 I' J' base → blk I' J' base m len' D' → (∀ x, (∃ i, i < len' ∧ D' i = x) ↔ x = y ∨ ∃ i, i < len ∧ D i = x) → UU g (d - 1) 36 kX2_gatherDays (pm_rm d 36) Q 5 [some (.ref 43), some (.ref 9), some (.ref 23), some (.int (nI m)), some (.int (nI k))] [] SH I' J' (0, 0) := by
            intro I' J' len' D' r1 r2 r3
            have q2 := w2 (I', J', len', D') ⟨p1.tr r1, r2, fun x => by
              rw [r3 x, p3 x]
              constructor
              · rintro (e | ⟨k0, k1⟩)
                · subst e; exact ⟨by omega, Or.inr ⟨k, by omega, hc, ey⟩⟩
                · rcases k1 with k1 | ⟨r, k2, k3⟩
                  · exact ⟨k0, Or.inl k1⟩
                  · exact ⟨k0, Or.inr ⟨r, by omega, k3⟩⟩
              · rintro ⟨k0, k1 | ⟨r, k2, k3, k4⟩⟩
                · exact Or.inr ⟨k0, Or.inl k1⟩
                · by_cases e : r = k
                  · subst e
                    left
                    exact nI_inj (by omega) (by omega) (k4.symm.trans ey)
                  · exact Or.inr ⟨k0, Or.inr ⟨r, by omega, k3, k4⟩⟩⟩
            clear w2 hQ p3 er em
            refine bX2_gatherDays_5 ?_
            simp (disch := first | omega | decide) only [w_nl0, w_nli, w_nlr, ↓w_ts1, ↓w_ts0, w_rcv, w_rfv, w_cs, true_and, and_true, List.length_nil, List.length_cons, Nat.reduceAdd, Nat.reduceLeDiff, Nat.zero_le, Nat.reduceLT, ↓w_nil, ix_nI, nI_leP, nI_ltP, nI_eqP, nI_1, ↓i_inN, i_inN, l_le, l_lt, l_eq, r_le, r_lt, r_eq, sh43, sh9, sh23, ↓w_iinc_4, ↓w_goto]
            repeat' (first
              | (apply And.intro)
              | (simp only [w_in])
              | (intro _))
            all_goals first | (with_reducible exact q2) | omega | grind
          clear w2 hQ p3 er em
          refine bX2_gatherDays_4 ?_
          simp (disch := first | omega | decide) only [w_nl0, w_nli, w_nlr, ↓w_ts1, ↓w_ts0, w_rcv, w_rfv, w_cs, true_and, and_true, List.length_nil, List.length_cons, Nat.reduceAdd, Nat.reduceLeDiff, Nat.zero_le, Nat.reduceLT, ↓w_nil, ix_nI, nI_leP, nI_ltP, nI_eqP, nI_1, ↓i_inN, i_inN, l_le, l_lt, l_eq, r_le, r_lt, r_eq, sh43, sh9, sh23, ↓w_iload_4, ↓w_aload_2, ↓w_gf0, ↓w_icge, ↓w_iload_3, ↓w_iv, ↓pm_cl2_3, ↓w_ifeq, ↓w_aload_0, ↓pm_cl2_2, e23]
          repeat' (first
            | (apply And.intro)
            | (with_reducible refine c_uses (by omega) e23 n2 hk ?_ ; simp (disch := first | omega | decide) only [w_nl0, w_nli, w_nlr, ↓w_ts1, ↓w_ts0, w_rcv, w_rfv, w_cs, true_and, and_true, List.length_nil, List.length_cons, Nat.reduceAdd, Nat.reduceLeDiff, Nat.zero_le, Nat.reduceLT, ↓w_nil, ix_nI, nI_leP, nI_ltP, nI_eqP, nI_1, ↓i_inN, i_inN, l_le, l_lt, l_eq, r_le, r_lt, r_eq, sh43, sh9, sh23, ↓w_iconst, ↓w_istore_4, ↓w_iload_4, ↓w_aload_1, ↓w_gf0, ↓w_icge, ↓w_iv, ↓pm_cl2_2, ↓w_iload_3, ↓w_icne, ↓w_aload_0, ↓pm_cl2_3, ↓w_iinc_4, ↓w_goto, ↓w_aload_2, ↓w_ifeq, ↓w_vret, if_pos hh, hix, e28, e25, if_pos hc])
            | (with_reducible refine c_R_dayOf (by omega) ?_ ; simp (disch := first | omega | decide) only [w_nl0, w_nli, w_nlr, ↓w_ts1, ↓w_ts0, w_rcv, w_rfv, w_cs, true_and, and_true, List.length_nil, List.length_cons, Nat.reduceAdd, Nat.reduceLeDiff, Nat.zero_le, Nat.reduceLT, ↓w_nil, ix_nI, nI_leP, nI_ltP, nI_eqP, nI_1, ↓i_inN, i_inN, l_le, l_lt, l_eq, r_le, r_lt, r_eq, sh43, sh9, sh23, ↓w_iconst, ↓w_istore_4, ↓w_iload_4, ↓w_aload_1, ↓w_gf0, ↓w_icge, ↓w_iv, ↓pm_cl2_2, ↓w_iload_3, ↓w_icne, ↓w_aload_0, ↓pm_cl2_3, ↓w_iinc_4, ↓w_goto, ↓w_aload_2, ↓w_ifeq, ↓w_vret, if_pos hh, hix, e28, e25, if_pos hc])
            | (with_reducible refine c_addDay (len := len) (D := D) (y := y) (by omega) (by omega) hy (by omega) e49 p2 (fun I' J' len' D' r1 r2 r3 => ?_) <;> simp (disch := first | omega | decide) only [w_nl0, w_nli, w_nlr, ↓w_ts1, ↓w_ts0, w_rcv, w_rfv, w_cs, true_and, and_true, List.length_nil, List.length_cons, Nat.reduceAdd, Nat.reduceLeDiff, Nat.zero_le, Nat.reduceLT, ↓w_nil, ix_nI, nI_leP, nI_ltP, nI_eqP, nI_1, ↓i_inN, i_inN, l_le, l_lt, l_eq, r_le, r_lt, r_eq, sh43, sh9, sh23, ↓w_iconst, ↓w_istore_4, ↓w_iload_4, ↓w_aload_1, ↓w_gf0, ↓w_icge, ↓w_iv, ↓pm_cl2_2, ↓w_iload_3, ↓w_icne, ↓w_aload_0, ↓pm_cl2_3, ↓w_iinc_4, ↓w_goto, ↓w_aload_2, ↓w_ifeq, ↓w_vret, if_pos hh, hix, e28, e25, if_pos hc])
            | (simp only [w_in])
            | (intro _))
          all_goals first | (with_reducible exact q _ _ _ _ r1 r2 r3) | (with_reducible exact q _ _ _ _ (by assumption) (by assumption) (by assumption)) | omega | grind
        · have q2 := w2 (I2, J2, len, D) ⟨p1, p2, fun x => by
            rw [p3 x]
            constructor
            · rintro ⟨k0, k1 | ⟨r, k2, k3⟩⟩
              · exact ⟨k0, Or.inl k1⟩
              · exact ⟨k0, Or.inr ⟨r, by omega, k3⟩⟩
            · rintro ⟨k0, k1 | ⟨r, k2, k3, k4⟩⟩
              · exact ⟨k0, Or.inl k1⟩
              · by_cases e : r = k
                · subst e; exact absurd k3 hc
                · exact ⟨k0, Or.inr ⟨r, by omega, k3, k4⟩⟩⟩
          clear w2 hQ p3 er em
          refine bX2_gatherDays_4 ?_
          simp (disch := first | omega | decide) only [w_nl0, w_nli, w_nlr, ↓w_ts1, ↓w_ts0, w_rcv, w_rfv, w_cs, true_and, and_true, List.length_nil, List.length_cons, Nat.reduceAdd, Nat.reduceLeDiff, Nat.zero_le, Nat.reduceLT, ↓w_nil, ix_nI, nI_leP, nI_ltP, nI_eqP, nI_1, ↓i_inN, i_inN, l_le, l_lt, l_eq, r_le, r_lt, r_eq, sh43, sh9, sh23, ↓w_iload_4, ↓w_aload_2, ↓w_gf0, ↓w_icge, ↓w_iload_3, ↓w_iv, ↓pm_cl2_3, ↓w_ifeq, ↓w_aload_0, ↓pm_cl2_2, e23]
          repeat' (first
            | (apply And.intro)
            | (with_reducible refine bX2_gatherDays_5 ?_; simp (disch := first | omega | decide) only [w_nl0, w_nli, w_nlr, ↓w_ts1, ↓w_ts0, w_rcv, w_rfv, w_cs, true_and, and_true, List.length_nil, List.length_cons, Nat.reduceAdd, Nat.reduceLeDiff, Nat.zero_le, Nat.reduceLT, ↓w_nil, ix_nI, nI_leP, nI_ltP, nI_eqP, nI_1, ↓i_inN, i_inN, l_le, l_lt, l_eq, r_le, r_lt, r_eq, sh43, sh9, sh23, ↓w_iconst, ↓w_istore_4, ↓w_iload_4, ↓w_aload_1, ↓w_gf0, ↓w_icge, ↓w_iv, ↓pm_cl2_2, ↓w_iload_3, ↓w_icne, ↓w_aload_0, ↓pm_cl2_3, ↓w_iinc_4, ↓w_goto, ↓w_aload_2, ↓w_ifeq, ↓w_vret, e28, if_neg hc])
            | (with_reducible refine c_uses (by omega) e23 n2 hk ?_ ; simp (disch := first | omega | decide) only [w_nl0, w_nli, w_nlr, ↓w_ts1, ↓w_ts0, w_rcv, w_rfv, w_cs, true_and, and_true, List.length_nil, List.length_cons, Nat.reduceAdd, Nat.reduceLeDiff, Nat.zero_le, Nat.reduceLT, ↓w_nil, ix_nI, nI_leP, nI_ltP, nI_eqP, nI_1, ↓i_inN, i_inN, l_le, l_lt, l_eq, r_le, r_lt, r_eq, sh43, sh9, sh23, ↓w_iconst, ↓w_istore_4, ↓w_iload_4, ↓w_aload_1, ↓w_gf0, ↓w_icge, ↓w_iv, ↓pm_cl2_2, ↓w_iload_3, ↓w_icne, ↓w_aload_0, ↓pm_cl2_3, ↓w_iinc_4, ↓w_goto, ↓w_aload_2, ↓w_ifeq, ↓w_vret, e28, if_neg hc])
            | (simp only [w_in])
            | (intro _))
          all_goals first | (with_reducible exact q2) | omega | grind
      · obtain ⟨I3, J3, len3, D3⟩ := a
        obtain ⟨q1, q2, q3⟩ := hP
        have q1 : frA I J I3 J3 base := q1
        have q := hQ I3 J3 len3 D3 q1 q2 (fun y => by rw [mdB_iff]; exact q3 y)
        have e23 : I3 23 7 = nI N := by rw [q1.1 23 (by decide) (by decide) (by decide) (by decide) (by decide)]; exact n1
        clear hQ p3 q3 er em p1 p2 q1 q2
        refine bX2_gatherDays_4 ?_
        simp (disch := first | omega | decide) only [w_nl0, w_nli, w_nlr, ↓w_ts1, ↓w_ts0, w_rcv, w_rfv, w_cs, true_and, and_true, List.length_nil, List.length_cons, Nat.reduceAdd, Nat.reduceLeDiff, Nat.zero_le, Nat.reduceLT, ↓w_nil, ix_nI, nI_leP, nI_ltP, nI_eqP, nI_1, ↓i_inN, i_inN, l_le, l_lt, l_eq, r_le, r_lt, r_eq, sh43, sh9, sh23, ↓w_iload_4, ↓w_aload_2, ↓w_gf0, ↓w_icge, ↓w_iload_3, ↓w_iv, ↓pm_cl2_3, ↓w_ifeq, ↓w_aload_0, ↓pm_cl2_2, e23]
        repeat' (first
          | (apply And.intro)
          | (with_reducible refine bX2_gatherDays_6 ?_; simp (disch := first | omega | decide) only [w_nl0, w_nli, w_nlr, ↓w_ts1, ↓w_ts0, w_rcv, w_rfv, w_cs, true_and, and_true, List.length_nil, List.length_cons, Nat.reduceAdd, Nat.reduceLeDiff, Nat.zero_le, Nat.reduceLT, ↓w_nil, ix_nI, nI_leP, nI_ltP, nI_eqP, nI_1, ↓i_inN, i_inN, l_le, l_lt, l_eq, r_le, r_lt, r_eq, sh43, sh9, sh23, ↓w_iconst, ↓w_istore_4, ↓w_iload_4, ↓w_aload_1, ↓w_gf0, ↓w_icge, ↓w_iv, ↓pm_cl2_2, ↓w_iload_3, ↓w_icne, ↓w_aload_0, ↓pm_cl2_3, ↓w_iinc_4, ↓w_goto, ↓w_aload_2, ↓w_ifeq, ↓w_vret])
          | (simp only [w_in])
          | (intro _))
        all_goals first | (with_reducible exact q) | omega | grind
      · rw [p3 y]
        constructor
        · rintro ⟨x, k1, k2, k3, k4⟩; exact ⟨k4, Or.inl ⟨x, k1, k2, k3⟩⟩
        · rintro ⟨k4, ⟨x, k1, k2, k3⟩ | ⟨r, k1, _⟩⟩
          · exact ⟨x, k1, k2, k3, k4⟩
          · omega
    have e9 : I2 9 9 = nI n := by rw [p1.1 9 (by decide) (by decide) (by decide) (by decide) (by decide)]; exact a1
    clear hQ p3 er em p1 p2
    refine bX2_gatherDays_1 ?_
    simp (disch := first | omega | decide) only [w_nl0, w_nli, w_nlr, ↓w_ts1, ↓w_ts0, w_rcv, w_rfv, w_cs, true_and, and_true, List.length_nil, List.length_cons, Nat.reduceAdd, Nat.reduceLeDiff, Nat.zero_le, Nat.reduceLT, ↓w_nil, ix_nI, nI_leP, nI_ltP, nI_eqP, nI_1, ↓i_inN, i_inN, l_le, l_lt, l_eq, r_le, r_lt, r_eq, sh43, sh9, sh23, ↓w_iload_4, ↓w_aload_1, ↓w_gf0, ↓w_icge, ↓w_iv, ↓pm_cl2_2, ↓w_iload_3, ↓w_icne, ↓w_aload_0, ↓pm_cl2_3, e9]
    repeat' (first
      | (apply And.intro)
      | (with_reducible refine bX2_gatherDays_3 ?_; simp (disch := first | omega | decide) only [w_nl0, w_nli, w_nlr, ↓w_ts1, ↓w_ts0, w_rcv, w_rfv, w_cs, true_and, and_true, List.length_nil, List.length_cons, Nat.reduceAdd, Nat.reduceLeDiff, Nat.zero_le, Nat.reduceLT, ↓w_nil, ix_nI, nI_leP, nI_ltP, nI_eqP, nI_1, ↓i_inN, i_inN, l_le, l_lt, l_eq, r_le, r_lt, r_eq, sh43, sh9, sh23, ↓w_iconst, ↓w_istore_4, ↓w_iload_4, ↓w_aload_1, ↓w_gf0, ↓w_icge, ↓w_iv, ↓pm_cl2_2, ↓w_iload_3, ↓w_icne, ↓w_aload_0, ↓pm_cl2_3, ↓w_iinc_4, ↓w_goto, ↓w_aload_2, ↓w_ifeq, ↓w_vret])
      | (simp only [w_in])
      | (intro _))
    all_goals first | (with_reducible exact q4) | omega | grind
end C91e
