section C72
variable {g : pm_G} {d : Nat} {Q : pm_Po} {S : pm_SS} {I : pm_MI} {J : pm_ML}
/-! the texts of rules: what a text says, for both -/
abbrev isB (b : Nat → Int32) (s i : Nat) (m : Int32) : Prop := i < s ∧ 48 ≤ b i ∧ b i < 48 + m
def pdg (b : Nat → Int32) (s : Nat) (m : Int32) : Nat → Nat → Int32 → Int32 × Nat
  | 0, i, n => (n, i)
  | k + 1, i, n => if isB b s i m then pdg b s m k (i + 1) (10 * n + (b i - 48)) else (n, i)
theorem pdg_le {b : Nat → Int32} {s : Nat} {m : Int32} : ∀ k i n, i ≤ (pdg b s m k i n).2 ∧ (pdg b s m k i n).2 ≤ i + k
  | 0, i, n => by simp [pdg]
  | k + 1, i, n => by
    have ih := pdg_le (b := b) (s := s) (m := m) k (i + 1) (10 * n + (b i - 48))
    simp only [pdg]
    split
    · omega
    · simp
theorem pdg_s {b : Nat → Int32} {s : Nat} {m : Int32} : ∀ k i n, i ≤ s → (pdg b s m k i n).2 ≤ s
  | 0, i, n => fun h => h
  | k + 1, i, n => by
    intro h
    have ih := pdg_s (b := b) (s := s) (m := m) k (i + 1) (10 * n + (b i - 48))
    simp only [pdg]
    split
    · rename_i hb
      exact ih (by omega)
    · exact h
theorem pdg_1 {b : Nat → Int32} {s i : Nat} {m : Int32} : pdg b s m 1 i 0 = if isB b s i m then (b i - 48, i + 1) else (0, i) := by
  simp only [pdg]
  split
  · simp
  · rfl
/-- the class's state as it reads -/
def RS (I I' : pm_MI) (s : Nat) (b : Nat → Int32) (p : Nat) (v : Int32) (D : Nat → Int32) : Prop := (∀ a, a ≠ 31 → a ≠ 35 → a ≠ 36 → I' a = I a) ∧ I' 31 5 = I 31 5 ∧ I' 31 6 = nI s ∧ (∀ i, i < s → I' 36 i = b i) ∧ I' 31 7 = nI p ∧ I' 31 8 = v ∧ I' 35 = D
theorem rs_place {I I' : pm_MI} {s p q : Nat} {b D : Nat → Int32} {v : Int32} (h : RS I I' s b p v D) : RS I (pm_up I' 31 7 (nI q)) s b q v D := by
  obtain ⟨h1, h2, h3, h4, h5, h6, h7⟩ := h
  refine ⟨fun a x y z => by rw [pm_up_o x]; exact h1 a x y z, ?_, ?_, ?_, ?_, ?_, ?_⟩
  all_goals (simp (disch := decide) only [pm_up_o, pm_up_n, pm_up_s]; try assumption)
theorem rs_snd {I I' : pm_MI} {s p : Nat} {b D : Nat → Int32} {v w : Int32} (h : RS I I' s b p v D) : RS I (pm_up I' 31 8 w) s b p w D := by
  obtain ⟨h1, h2, h3, h4, h5, h6, h7⟩ := h
  refine ⟨fun a x y z => by rw [pm_up_o x]; exact h1 a x y z, ?_, ?_, ?_, ?_, ?_, ?_⟩
  all_goals (simp (disch := decide) only [pm_up_o, pm_up_n, pm_up_s]; try assumption)
theorem rs_draft {I I' : pm_MI} {s p t : Nat} {b D : Nat → Int32} {v n : Int32} (h : RS I I' s b p v D) : RS I (pm_up I' 35 t n) s b p v (upd D t n) := by
  obtain ⟨h1, h2, h3, h4, h5, h6, h7⟩ := h
  refine ⟨fun a x y z => by rw [pm_up_o y]; exact h1 a x y z, ?_, ?_, ?_, ?_, ?_, ?_⟩
  all_goals (simp (disch := decide) only [pm_up_o, pm_up_n, pm_up_s, up_upd]; try assumption)
  rw [h7]
theorem dg_iff {x m : Int32} (hm : 0 ≤ m ∧ m ≤ 10) : (0 ≤ x - 48 ∧ x - 48 < m) ↔ (48 ≤ x ∧ x < 48 + m) := by
  have m0 : 0 ≤ m.toInt := by have := hm.1; rw [i_le] at this; exact this
  have m1 : m.toInt ≤ 10 := by have := hm.2; rw [i_le] at this; exact this
  have v48 : (48 : Int32).toInt = 48 := rfl
  have v0 : (0 : Int32).toInt = 0 := rfl
  have l1 := Int32.le_toInt x
  have l2 := Int32.toInt_lt x
  have u1 : (48 + m).toInt = 48 + m.toInt := by
    rw [Int32.toInt_add, v48]
    exact Int.bmod_eq_of_le (by omega) (by omega)
  by_cases hx : -2147483600 ≤ x.toInt
  · have u2 : (x - 48).toInt = x.toInt - 48 := i_sub (by omega) (by omega)
    rw [i_le, i_lt, i_le, i_lt, u1, u2, v48, v0]
    omega
  · have u2 : (x - 48).toInt = x.toInt - 48 + 4294967296 := by
      rw [Int32.toInt_sub, v48]
      have e : Int.bmod (x.toInt - 48) (2 ^ 32) = Int.bmod (x.toInt - 48 + 4294967296) (2 ^ 32) := (Int.add_bmod_right (x.toInt - 48) 4294967296).symm
      rw [e]
      exact Int.bmod_eq_of_le (by omega) (by omega)
    rw [i_le, i_lt, i_le, i_lt, u1, u2, v48, v0]
    omega
theorem c_dig {I' : pm_MI} {s p k : Nat} {b D : Nat → Int32} {m mo : Int32} (hd : 2 ≤ d) (hs : s ≤ 48) (hp : p ≤ s) (hk : 1 ≤ k ∧ k ≤ 5) (hmo : mo = nI k) (hm : 0 ≤ m ∧ m ≤ 10) (h : RS I I' s b p 1 D) (hQ : ∀ I'', RS I I'' s b (pdg b s m k p 0).2 (if (pdg b s m k p 0).2 = p then 0 else 1) D → Q (some (.int (pdg b s m k p 0).1)) SH I'' J) : pm_C g d 70 [.ref 31, .int mo, .int m] Q SH I' J := by
  subst hmo
  generalize hE : pdg b s m k p 0 = E at hQ
  have key : ∀ j q n I2 x, j + q = k → p + q ≤ s → RS I I2 s b (p + q) 1 D → pdg b s m j (p + q) n = E → UU g (d - 1) 70 kX5_digits (pm_rm d 70) Q 1 [some (.ref 31), some (.int (nI k)), some (.int m), some (.int n), some (.int (nI q)), x] [] SH I2 J (0, 0) := by
    intro j
    induction j with
    | zero =>
      intro q n I2 x hq hpq hR he
      have r6 := hR.2.2.1
      have r7 := hR.2.2.2.2.1
      have r8 := hR.2.2.2.2.2.1
      have hqk : q = k := by omega
      subst hqk
      simp only [pdg] at he
      subst he
      have hQ2 := hQ I2 (by rw [if_neg (by simp only; omega)]; exact hR)
      clear hQ hR h hE
      refine bX5_digits_1 ?_
      simp (disch := first | omega | decide) only [w_nl0, w_nli, w_nlr, ↓w_ts1, ↓w_ts0, w_rcv, w_rfv, w_cs, true_and, and_true, List.length_nil, List.length_cons, Nat.reduceAdd, Nat.reduceLeDiff, Nat.zero_le, Nat.reduceLT, ↓w_nil, ix_nI, nI_leP, nI_ltP, nI_eqP, nI_1, ↓i_inN, i_inN, l_le, l_lt, l_eq, r_le, r_lt, r_eq, sh31, ↓w_aload_0, ↓w_gf2, ↓w_ifeq, ↓w_iload_4, ↓w_iload_1, ↓w_icge, ↓w_gf0, ↓w_is, ↓pm_cl1_2, ↓w_gf3, ↓w_iaload, ↓w_bipush, ↓w_isub, ↓w_istore_5, ↓w_iload_5, ↓w_iload_2, ↓w_ifne, ↓w_goto, r8]
      repeat' (first
        | (apply And.intro)
        | (with_reducible refine bX5_digits_3 ?_; simp (disch := first | omega | decide) only [w_nl0, w_nli, w_nlr, ↓w_ts1, ↓w_ts0, w_rcv, w_rfv, w_cs, true_and, and_true, List.length_nil, List.length_cons, Nat.reduceAdd, Nat.reduceLeDiff, Nat.zero_le, Nat.reduceLT, ↓w_nil, ix_nI, nI_leP, nI_ltP, nI_eqP, nI_1, ↓i_inN, i_inN, l_le, l_lt, l_eq, r_le, r_lt, r_eq, sh31, ↓w_iconst, ↓w_istore_3, ↓w_istore_4, ↓w_aload_0, ↓w_gf2, ↓w_ifeq, ↓w_iload_4, ↓w_iload_1, ↓w_icge, ↓w_gf0, ↓w_is, ↓pm_cl1_2, ↓w_gf3, ↓w_iaload, ↓w_bipush, ↓w_isub, ↓w_istore_5, ↓w_iload_5, ↓w_iload_2, ↓w_ifne, ↓w_goto, ↓w_iload_3, ↓w_imul, ↓w_iadd, ↓w_dup_i, ↓w_dup_r, ↓w_pf0, ↓w_iinc_4, ↓w_pf2, ↓w_ret, r8])
        | (with_reducible refine bX5_digits_4 ?_; simp (disch := first | omega | decide) only [w_nl0, w_nli, w_nlr, ↓w_ts1, ↓w_ts0, w_rcv, w_rfv, w_cs, true_and, and_true, List.length_nil, List.length_cons, Nat.reduceAdd, Nat.reduceLeDiff, Nat.zero_le, Nat.reduceLT, ↓w_nil, ix_nI, nI_leP, nI_ltP, nI_eqP, nI_1, ↓i_inN, i_inN, l_le, l_lt, l_eq, r_le, r_lt, r_eq, sh31, ↓w_iconst, ↓w_istore_3, ↓w_istore_4, ↓w_aload_0, ↓w_gf2, ↓w_ifeq, ↓w_iload_4, ↓w_iload_1, ↓w_icge, ↓w_gf0, ↓w_is, ↓pm_cl1_2, ↓w_gf3, ↓w_iaload, ↓w_bipush, ↓w_isub, ↓w_istore_5, ↓w_iload_5, ↓w_iload_2, ↓w_ifne, ↓w_goto, ↓w_iload_3, ↓w_imul, ↓w_iadd, ↓w_dup_i, ↓w_dup_r, ↓w_pf0, ↓w_iinc_4, ↓w_pf2, ↓w_ret, r8])
        | (simp only [w_in])
        | (intro _))
      all_goals grind
    | succ j ih =>
      intro q n I2 x hq hpq hR he
      have r6 := hR.2.2.1
      have r7 := hR.2.2.2.2.1
      have r8 := hR.2.2.2.2.2.1
      by_cases hB : isB b s (p + q) m
      · have r36 := hR.2.2.2.1 (p + q) hB.1
        have hdg := (dg_iff (x := b (p + q)) hm).2 hB.2
        simp only [pdg, if_pos hB] at he
        have w := ih (q + 1) (10 * n + (b (p + q) - 48)) (pm_up I2 31 7 (nI (p + q + 1))) (some (.int (b (p + q) - 48))) (by omega) (by have := hB.1; omega) (rs_place hR) he
        have hB1 := hB.1
        clear ih hQ hR h hE he hB
        refine bX5_digits_1 ?_
        simp (disch := first | omega | decide) only [w_nl0, w_nli, w_nlr, ↓w_ts1, ↓w_ts0, w_rcv, w_rfv, w_cs, true_and, and_true, List.length_nil, List.length_cons, Nat.reduceAdd, Nat.reduceLeDiff, Nat.zero_le, Nat.reduceLT, ↓w_nil, ix_nI, nI_leP, nI_ltP, nI_eqP, nI_1, ↓i_inN, i_inN, l_le, l_lt, l_eq, r_le, r_lt, r_eq, sh31, ↓w_aload_0, ↓w_gf2, ↓w_ifeq, ↓w_iload_4, ↓w_iload_1, ↓w_icge, ↓w_gf0, ↓w_is, ↓pm_cl1_2, ↓w_gf3, ↓w_iaload, ↓w_bipush, ↓w_isub, ↓w_istore_5, ↓w_iload_5, ↓w_iload_2, ↓w_ifne, ↓w_goto, r8, r6, r7, r36]
        repeat' (first
          | (apply And.intro)
          | (with_reducible refine bX5_digits_2 ?_; simp (disch := first | omega | decide) only [w_nl0, w_nli, w_nlr, ↓w_ts1, ↓w_ts0, w_rcv, w_rfv, w_cs, true_and, and_true, List.length_nil, List.length_cons, Nat.reduceAdd, Nat.reduceLeDiff, Nat.zero_le, Nat.reduceLT, ↓w_nil, ix_nI, nI_leP, nI_ltP, nI_eqP, nI_1, ↓i_inN, i_inN, l_le, l_lt, l_eq, r_le, r_lt, r_eq, sh31, ↓w_iconst, ↓w_istore_3, ↓w_istore_4, ↓w_aload_0, ↓w_gf2, ↓w_ifeq, ↓w_iload_4, ↓w_iload_1, ↓w_icge, ↓w_gf0, ↓w_is, ↓pm_cl1_2, ↓w_gf3, ↓w_iaload, ↓w_bipush, ↓w_isub, ↓w_istore_5, ↓w_iload_5, ↓w_iload_2, ↓w_ifne, ↓w_goto, ↓w_iload_3, ↓w_imul, ↓w_iadd, ↓w_dup_i, ↓w_dup_r, ↓w_pf0, ↓w_iinc_4, ↓w_pf2, ↓w_ret, r8, r6, r7, r36, nI_add])
          | (with_reducible refine c_below (by omega) ?_ ; simp (disch := first | omega | decide) only [w_nl0, w_nli, w_nlr, ↓w_ts1, ↓w_ts0, w_rcv, w_rfv, w_cs, true_and, and_true, List.length_nil, List.length_cons, Nat.reduceAdd, Nat.reduceLeDiff, Nat.zero_le, Nat.reduceLT, ↓w_nil, ix_nI, nI_leP, nI_ltP, nI_eqP, nI_1, ↓i_inN, i_inN, l_le, l_lt, l_eq, r_le, r_lt, r_eq, sh31, ↓w_iconst, ↓w_istore_3, ↓w_istore_4, ↓w_aload_0, ↓w_gf2, ↓w_ifeq, ↓w_iload_4, ↓w_iload_1, ↓w_icge, ↓w_gf0, ↓w_is, ↓pm_cl1_2, ↓w_gf3, ↓w_iaload, ↓w_bipush, ↓w_isub, ↓w_istore_5, ↓w_iload_5, ↓w_iload_2, ↓w_ifne, ↓w_goto, ↓w_iload_3, ↓w_imul, ↓w_iadd, ↓w_dup_i, ↓w_dup_r, ↓w_pf0, ↓w_iinc_4, ↓w_pf2, ↓w_ret, r8, r6, r7, r36, nI_add])
          | (simp only [w_in])
          | (intro _))
        all_goals grind
      · simp only [pdg, if_neg hB] at he
        subst he
        have hdg : p + q < s → ¬ (0 ≤ b (p + q) - 48 ∧ b (p + q) - 48 < m) := fun hl z => hB ⟨hl, (dg_iff hm).1 z⟩
        by_cases hq0 : q = 0
        · subst hq0
          have hQ2 := hQ (pm_up I2 31 8 0) (by rw [if_pos (by simp)]; exact rs_snd hR)
          by_cases hl : p + 0 < s
          · have hdg := hdg hl
            have r36 := hR.2.2.2.1 (p + 0) hl
            clear ih hQ hR h hE hB
            refine bX5_digits_1 ?_
            simp (disch := first | omega | decide) only [w_nl0, w_nli, w_nlr, ↓w_ts1, ↓w_ts0, w_rcv, w_rfv, w_cs, true_and, and_true, List.length_nil, List.length_cons, Nat.reduceAdd, Nat.reduceLeDiff, Nat.zero_le, Nat.reduceLT, ↓w_nil, ix_nI, nI_leP, nI_ltP, nI_eqP, nI_1, ↓i_inN, i_inN, l_le, l_lt, l_eq, r_le, r_lt, r_eq, sh31, ↓w_aload_0, ↓w_gf2, ↓w_ifeq, ↓w_iload_4, ↓w_iload_1, ↓w_icge, ↓w_gf0, ↓w_is, ↓pm_cl1_2, ↓w_gf3, ↓w_iaload, ↓w_bipush, ↓w_isub, ↓w_istore_5, ↓w_iload_5, ↓w_iload_2, ↓w_ifne, ↓w_goto, r8, r6, r7, r36]
            repeat' (first
              | (apply And.intro)
              | (with_reducible refine bX5_digits_3 ?_; simp (disch := first | omega | decide) only [w_nl0, w_nli, w_nlr, ↓w_ts1, ↓w_ts0, w_rcv, w_rfv, w_cs, true_and, and_true, List.length_nil, List.length_cons, Nat.reduceAdd, Nat.reduceLeDiff, Nat.zero_le, Nat.reduceLT, ↓w_nil, ix_nI, nI_leP, nI_ltP, nI_eqP, nI_1, ↓i_inN, i_inN, l_le, l_lt, l_eq, r_le, r_lt, r_eq, sh31, ↓w_iconst, ↓w_istore_3, ↓w_istore_4, ↓w_aload_0, ↓w_gf2, ↓w_ifeq, ↓w_iload_4, ↓w_iload_1, ↓w_icge, ↓w_gf0, ↓w_is, ↓pm_cl1_2, ↓w_gf3, ↓w_iaload, ↓w_bipush, ↓w_isub, ↓w_istore_5, ↓w_iload_5, ↓w_iload_2, ↓w_ifne, ↓w_goto, ↓w_iload_3, ↓w_imul, ↓w_iadd, ↓w_dup_i, ↓w_dup_r, ↓w_pf0, ↓w_iinc_4, ↓w_pf2, ↓w_ret, r8, r6, r7, r36])
              | (with_reducible refine bX5_digits_4 ?_; simp (disch := first | omega | decide) only [w_nl0, w_nli, w_nlr, ↓w_ts1, ↓w_ts0, w_rcv, w_rfv, w_cs, true_and, and_true, List.length_nil, List.length_cons, Nat.reduceAdd, Nat.reduceLeDiff, Nat.zero_le, Nat.reduceLT, ↓w_nil, ix_nI, nI_leP, nI_ltP, nI_eqP, nI_1, ↓i_inN, i_inN, l_le, l_lt, l_eq, r_le, r_lt, r_eq, sh31, ↓w_iconst, ↓w_istore_3, ↓w_istore_4, ↓w_aload_0, ↓w_gf2, ↓w_ifeq, ↓w_iload_4, ↓w_iload_1, ↓w_icge, ↓w_gf0, ↓w_is, ↓pm_cl1_2, ↓w_gf3, ↓w_iaload, ↓w_bipush, ↓w_isub, ↓w_istore_5, ↓w_iload_5, ↓w_iload_2, ↓w_ifne, ↓w_goto, ↓w_iload_3, ↓w_imul, ↓w_iadd, ↓w_dup_i, ↓w_dup_r, ↓w_pf0, ↓w_iinc_4, ↓w_pf2, ↓w_ret, r8, r6, r7, r36])
              | (with_reducible refine c_below (by omega) ?_ ; simp (disch := first | omega | decide) only [w_nl0, w_nli, w_nlr, ↓w_ts1, ↓w_ts0, w_rcv, w_rfv, w_cs, true_and, and_true, List.length_nil, List.length_cons, Nat.reduceAdd, Nat.reduceLeDiff, Nat.zero_le, Nat.reduceLT, ↓w_nil, ix_nI, nI_leP, nI_ltP, nI_eqP, nI_1, ↓i_inN, i_inN, l_le, l_lt, l_eq, r_le, r_lt, r_eq, sh31, ↓w_iconst, ↓w_istore_3, ↓w_istore_4, ↓w_aload_0, ↓w_gf2, ↓w_ifeq, ↓w_iload_4, ↓w_iload_1, ↓w_icge, ↓w_gf0, ↓w_is, ↓pm_cl1_2, ↓w_gf3, ↓w_iaload, ↓w_bipush, ↓w_isub, ↓w_istore_5, ↓w_iload_5, ↓w_iload_2, ↓w_ifne, ↓w_goto, ↓w_iload_3, ↓w_imul, ↓w_iadd, ↓w_dup_i, ↓w_dup_r, ↓w_pf0, ↓w_iinc_4, ↓w_pf2, ↓w_ret, r8, r6, r7, r36])
              | (simp only [w_in])
              | (intro _))
            all_goals grind
          · clear ih hQ hR h hE hB hdg
            refine bX5_digits_1 ?_
            simp (disch := first | omega | decide) only [w_nl0, w_nli, w_nlr, ↓w_ts1, ↓w_ts0, w_rcv, w_rfv, w_cs, true_and, and_true, List.length_nil, List.length_cons, Nat.reduceAdd, Nat.reduceLeDiff, Nat.zero_le, Nat.reduceLT, ↓w_nil, ix_nI, nI_leP, nI_ltP, nI_eqP, nI_1, ↓i_inN, i_inN, l_le, l_lt, l_eq, r_le, r_lt, r_eq, sh31, ↓w_aload_0, ↓w_gf2, ↓w_ifeq, ↓w_iload_4, ↓w_iload_1, ↓w_icge, ↓w_gf0, ↓w_is, ↓pm_cl1_2, ↓w_gf3, ↓w_iaload, ↓w_bipush, ↓w_isub, ↓w_istore_5, ↓w_iload_5, ↓w_iload_2, ↓w_ifne, ↓w_goto, r8, r6, r7]
            repeat' (first
              | (apply And.intro)
              | (with_reducible refine bX5_digits_3 ?_; simp (disch := first | omega | decide) only [w_nl0, w_nli, w_nlr, ↓w_ts1, ↓w_ts0, w_rcv, w_rfv, w_cs, true_and, and_true, List.length_nil, List.length_cons, Nat.reduceAdd, Nat.reduceLeDiff, Nat.zero_le, Nat.reduceLT, ↓w_nil, ix_nI, nI_leP, nI_ltP, nI_eqP, nI_1, ↓i_inN, i_inN, l_le, l_lt, l_eq, r_le, r_lt, r_eq, sh31, ↓w_iconst, ↓w_istore_3, ↓w_istore_4, ↓w_aload_0, ↓w_gf2, ↓w_ifeq, ↓w_iload_4, ↓w_iload_1, ↓w_icge, ↓w_gf0, ↓w_is, ↓pm_cl1_2, ↓w_gf3, ↓w_iaload, ↓w_bipush, ↓w_isub, ↓w_istore_5, ↓w_iload_5, ↓w_iload_2, ↓w_ifne, ↓w_goto, ↓w_iload_3, ↓w_imul, ↓w_iadd, ↓w_dup_i, ↓w_dup_r, ↓w_pf0, ↓w_iinc_4, ↓w_pf2, ↓w_ret, r8, r6, r7])
              | (with_reducible refine bX5_digits_4 ?_; simp (disch := first | omega | decide) only [w_nl0, w_nli, w_nlr, ↓w_ts1, ↓w_ts0, w_rcv, w_rfv, w_cs, true_and, and_true, List.length_nil, List.length_cons, Nat.reduceAdd, Nat.reduceLeDiff, Nat.zero_le, Nat.reduceLT, ↓w_nil, ix_nI, nI_leP, nI_ltP, nI_eqP, nI_1, ↓i_inN, i_inN, l_le, l_lt, l_eq, r_le, r_lt, r_eq, sh31, ↓w_iconst, ↓w_istore_3, ↓w_istore_4, ↓w_aload_0, ↓w_gf2, ↓w_ifeq, ↓w_iload_4, ↓w_iload_1, ↓w_icge, ↓w_gf0, ↓w_is, ↓pm_cl1_2, ↓w_gf3, ↓w_iaload, ↓w_bipush, ↓w_isub, ↓w_istore_5, ↓w_iload_5, ↓w_iload_2, ↓w_ifne, ↓w_goto, ↓w_iload_3, ↓w_imul, ↓w_iadd, ↓w_dup_i, ↓w_dup_r, ↓w_pf0, ↓w_iinc_4, ↓w_pf2, ↓w_ret, r8, r6, r7])
              | (with_reducible refine c_below (by omega) ?_ ; simp (disch := first | omega | decide) only [w_nl0, w_nli, w_nlr, ↓w_ts1, ↓w_ts0, w_rcv, w_rfv, w_cs, true_and, and_true, List.length_nil, List.length_cons, Nat.reduceAdd, Nat.reduceLeDiff, Nat.zero_le, Nat.reduceLT, ↓w_nil, ix_nI, nI_leP, nI_ltP, nI_eqP, nI_1, ↓i_inN, i_inN, l_le, l_lt, l_eq, r_le, r_lt, r_eq, sh31, ↓w_iconst, ↓w_istore_3, ↓w_istore_4, ↓w_aload_0, ↓w_gf2, ↓w_ifeq, ↓w_iload_4, ↓w_iload_1, ↓w_icge, ↓w_gf0, ↓w_is, ↓pm_cl1_2, ↓w_gf3, ↓w_iaload, ↓w_bipush, ↓w_isub, ↓w_istore_5, ↓w_iload_5, ↓w_iload_2, ↓w_ifne, ↓w_goto, ↓w_iload_3, ↓w_imul, ↓w_iadd, ↓w_dup_i, ↓w_dup_r, ↓w_pf0, ↓w_iinc_4, ↓w_pf2, ↓w_ret, r8, r6, r7])
              | (simp only [w_in])
              | (intro _))
            all_goals grind
        · have hQ2 := hQ I2 (by rw [if_neg (by simp only; omega)]; exact hR)
          by_cases hl : p + q < s
          · have hdg := hdg hl
            have r36 := hR.2.2.2.1 (p + q) hl
            clear ih hQ hR h hE hB
            refine bX5_digits_1 ?_
            simp (disch := first | omega | decide) only [w_nl0, w_nli, w_nlr, ↓w_ts1, ↓w_ts0, w_rcv, w_rfv, w_cs, true_and, and_true, List.length_nil, List.length_cons, Nat.reduceAdd, Nat.reduceLeDiff, Nat.zero_le, Nat.reduceLT, ↓w_nil, ix_nI, nI_leP, nI_ltP, nI_eqP, nI_1, ↓i_inN, i_inN, l_le, l_lt, l_eq, r_le, r_lt, r_eq, sh31, ↓w_aload_0, ↓w_gf2, ↓w_ifeq, ↓w_iload_4, ↓w_iload_1, ↓w_icge, ↓w_gf0, ↓w_is, ↓pm_cl1_2, ↓w_gf3, ↓w_iaload, ↓w_bipush, ↓w_isub, ↓w_istore_5, ↓w_iload_5, ↓w_iload_2, ↓w_ifne, ↓w_goto, r8, r6, r7, r36]
            repeat' (first
              | (apply And.intro)
              | (with_reducible refine bX5_digits_3 ?_; simp (disch := first | omega | decide) only [w_nl0, w_nli, w_nlr, ↓w_ts1, ↓w_ts0, w_rcv, w_rfv, w_cs, true_and, and_true, List.length_nil, List.length_cons, Nat.reduceAdd, Nat.reduceLeDiff, Nat.zero_le, Nat.reduceLT, ↓w_nil, ix_nI, nI_leP, nI_ltP, nI_eqP, nI_1, ↓i_inN, i_inN, l_le, l_lt, l_eq, r_le, r_lt, r_eq, sh31, ↓w_iconst, ↓w_istore_3, ↓w_istore_4, ↓w_aload_0, ↓w_gf2, ↓w_ifeq, ↓w_iload_4, ↓w_iload_1, ↓w_icge, ↓w_gf0, ↓w_is, ↓pm_cl1_2, ↓w_gf3, ↓w_iaload, ↓w_bipush, ↓w_isub, ↓w_istore_5, ↓w_iload_5, ↓w_iload_2, ↓w_ifne, ↓w_goto, ↓w_iload_3, ↓w_imul, ↓w_iadd, ↓w_dup_i, ↓w_dup_r, ↓w_pf0, ↓w_iinc_4, ↓w_pf2, ↓w_ret, r8, r6, r7, r36])
              | (with_reducible refine bX5_digits_4 ?_; simp (disch := first | omega | decide) only [w_nl0, w_nli, w_nlr, ↓w_ts1, ↓w_ts0, w_rcv, w_rfv, w_cs, true_and, and_true, List.length_nil, List.length_cons, Nat.reduceAdd, Nat.reduceLeDiff, Nat.zero_le, Nat.reduceLT, ↓w_nil, ix_nI, nI_leP, nI_ltP, nI_eqP, nI_1, ↓i_inN, i_inN, l_le, l_lt, l_eq, r_le, r_lt, r_eq, sh31, ↓w_iconst, ↓w_istore_3, ↓w_istore_4, ↓w_aload_0, ↓w_gf2, ↓w_ifeq, ↓w_iload_4, ↓w_iload_1, ↓w_icge, ↓w_gf0, ↓w_is, ↓pm_cl1_2, ↓w_gf3, ↓w_iaload, ↓w_bipush, ↓w_isub, ↓w_istore_5, ↓w_iload_5, ↓w_iload_2, ↓w_ifne, ↓w_goto, ↓w_iload_3, ↓w_imul, ↓w_iadd, ↓w_dup_i, ↓w_dup_r, ↓w_pf0, ↓w_iinc_4, ↓w_pf2, ↓w_ret, r8, r6, r7, r36])
              | (with_reducible refine c_below (by omega) ?_ ; simp (disch := first | omega | decide) only [w_nl0, w_nli, w_nlr, ↓w_ts1, ↓w_ts0, w_rcv, w_rfv, w_cs, true_and, and_true, List.length_nil, List.length_cons, Nat.reduceAdd, Nat.reduceLeDiff, Nat.zero_le, Nat.reduceLT, ↓w_nil, ix_nI, nI_leP, nI_ltP, nI_eqP, nI_1, ↓i_inN, i_inN, l_le, l_lt, l_eq, r_le, r_lt, r_eq, sh31, ↓w_iconst, ↓w_istore_3, ↓w_istore_4, ↓w_aload_0, ↓w_gf2, ↓w_ifeq, ↓w_iload_4, ↓w_iload_1, ↓w_icge, ↓w_gf0, ↓w_is, ↓pm_cl1_2, ↓w_gf3, ↓w_iaload, ↓w_bipush, ↓w_isub, ↓w_istore_5, ↓w_iload_5, ↓w_iload_2, ↓w_ifne, ↓w_goto, ↓w_iload_3, ↓w_imul, ↓w_iadd, ↓w_dup_i, ↓w_dup_r, ↓w_pf0, ↓w_iinc_4, ↓w_pf2, ↓w_ret, r8, r6, r7, r36])
              | (simp only [w_in])
              | (intro _))
            all_goals grind
          · clear ih hQ hR h hE hB hdg
            refine bX5_digits_1 ?_
            simp (disch := first | omega | decide) only [w_nl0, w_nli, w_nlr, ↓w_ts1, ↓w_ts0, w_rcv, w_rfv, w_cs, true_and, and_true, List.length_nil, List.length_cons, Nat.reduceAdd, Nat.reduceLeDiff, Nat.zero_le, Nat.reduceLT, ↓w_nil, ix_nI, nI_leP, nI_ltP, nI_eqP, nI_1, ↓i_inN, i_inN, l_le, l_lt, l_eq, r_le, r_lt, r_eq, sh31, ↓w_aload_0, ↓w_gf2, ↓w_ifeq, ↓w_iload_4, ↓w_iload_1, ↓w_icge, ↓w_gf0, ↓w_is, ↓pm_cl1_2, ↓w_gf3, ↓w_iaload, ↓w_bipush, ↓w_isub, ↓w_istore_5, ↓w_iload_5, ↓w_iload_2, ↓w_ifne, ↓w_goto, r8, r6, r7]
            repeat' (first
              | (apply And.intro)
              | (with_reducible refine bX5_digits_3 ?_; simp (disch := first | omega | decide) only [w_nl0, w_nli, w_nlr, ↓w_ts1, ↓w_ts0, w_rcv, w_rfv, w_cs, true_and, and_true, List.length_nil, List.length_cons, Nat.reduceAdd, Nat.reduceLeDiff, Nat.zero_le, Nat.reduceLT, ↓w_nil, ix_nI, nI_leP, nI_ltP, nI_eqP, nI_1, ↓i_inN, i_inN, l_le, l_lt, l_eq, r_le, r_lt, r_eq, sh31, ↓w_iconst, ↓w_istore_3, ↓w_istore_4, ↓w_aload_0, ↓w_gf2, ↓w_ifeq, ↓w_iload_4, ↓w_iload_1, ↓w_icge, ↓w_gf0, ↓w_is, ↓pm_cl1_2, ↓w_gf3, ↓w_iaload, ↓w_bipush, ↓w_isub, ↓w_istore_5, ↓w_iload_5, ↓w_iload_2, ↓w_ifne, ↓w_goto, ↓w_iload_3, ↓w_imul, ↓w_iadd, ↓w_dup_i, ↓w_dup_r, ↓w_pf0, ↓w_iinc_4, ↓w_pf2, ↓w_ret, r8, r6, r7])
              | (with_reducible refine bX5_digits_4 ?_; simp (disch := first | omega | decide) only [w_nl0, w_nli, w_nlr, ↓w_ts1, ↓w_ts0, w_rcv, w_rfv, w_cs, true_and, and_true, List.length_nil, List.length_cons, Nat.reduceAdd, Nat.reduceLeDiff, Nat.zero_le, Nat.reduceLT, ↓w_nil, ix_nI, nI_leP, nI_ltP, nI_eqP, nI_1, ↓i_inN, i_inN, l_le, l_lt, l_eq, r_le, r_lt, r_eq, sh31, ↓w_iconst, ↓w_istore_3, ↓w_istore_4, ↓w_aload_0, ↓w_gf2, ↓w_ifeq, ↓w_iload_4, ↓w_iload_1, ↓w_icge, ↓w_gf0, ↓w_is, ↓pm_cl1_2, ↓w_gf3, ↓w_iaload, ↓w_bipush, ↓w_isub, ↓w_istore_5, ↓w_iload_5, ↓w_iload_2, ↓w_ifne, ↓w_goto, ↓w_iload_3, ↓w_imul, ↓w_iadd, ↓w_dup_i, ↓w_dup_r, ↓w_pf0, ↓w_iinc_4, ↓w_pf2, ↓w_ret, r8, r6, r7])
              | (with_reducible refine c_below (by omega) ?_ ; simp (disch := first | omega | decide) only [w_nl0, w_nli, w_nlr, ↓w_ts1, ↓w_ts0, w_rcv, w_rfv, w_cs, true_and, and_true, List.length_nil, List.length_cons, Nat.reduceAdd, Nat.reduceLeDiff, Nat.zero_le, Nat.reduceLT, ↓w_nil, ix_nI, nI_leP, nI_ltP, nI_eqP, nI_1, ↓i_inN, i_inN, l_le, l_lt, l_eq, r_le, r_lt, r_eq, sh31, ↓w_iconst, ↓w_istore_3, ↓w_istore_4, ↓w_aload_0, ↓w_gf2, ↓w_ifeq, ↓w_iload_4, ↓w_iload_1, ↓w_icge, ↓w_gf0, ↓w_is, ↓pm_cl1_2, ↓w_gf3, ↓w_iaload, ↓w_bipush, ↓w_isub, ↓w_istore_5, ↓w_iload_5, ↓w_iload_2, ↓w_ifne, ↓w_goto, ↓w_iload_3, ↓w_imul, ↓w_iadd, ↓w_dup_i, ↓w_dup_r, ↓w_pf0, ↓w_iinc_4, ↓w_pf2, ↓w_ret, r8, r6, r7])
              | (simp only [w_in])
              | (intro _))
            all_goals grind
  refine eX5_digits (by omega) ?_
  refine bX5_digits_0 ?_
  simp (disch := first | omega | decide) only [w_nl0, w_nli, w_nlr, ↓w_ts1, ↓w_ts0, w_rcv, w_rfv, w_cs, true_and, and_true, List.length_nil, List.length_cons, Nat.reduceAdd, Nat.reduceLeDiff, Nat.zero_le, Nat.reduceLT, ↓w_nil, ix_nI, nI_leP, nI_ltP, nI_eqP, nI_1, ↓i_inN, i_inN, l_le, l_lt, l_eq, r_le, r_lt, r_eq, sh31, ↓w_iconst, ↓w_istore_3, ↓w_istore_4]
  exact key k 0 0 I' none (by omega) (by omega) h hE
theorem c_dig0 {I' : pm_MI} {s p : Nat} {b D : Nat → Int32} {m mo : Int32} (hd : 2 ≤ d) (h : RS I I' s b p 0 D) (hQ : ∀ I'', RS I I'' s b p 0 D → Q (some (.int 0)) SH I'' J) : pm_C g d 70 [.ref 31, .int mo, .int m] Q SH I' J := by
  have hQ2 := hQ (pm_up I' 31 8 0) (rs_snd h)
  have r8 := h.2.2.2.2.2.1
  clear hQ h
  refine eX5_digits (by omega) ?_
  refine bX5_digits_0 ?_
  simp (disch := first | omega | decide) only [w_nl0, w_nli, w_nlr, ↓w_ts1, ↓w_ts0, w_rcv, w_rfv, w_cs, true_and, and_true, List.length_nil, List.length_cons, Nat.reduceAdd, Nat.reduceLeDiff, Nat.zero_le, Nat.reduceLT, ↓w_nil, ix_nI, nI_leP, nI_ltP, nI_eqP, nI_1, ↓i_inN, i_inN, l_le, l_lt, l_eq, r_le, r_lt, r_eq, sh31, ↓w_iconst, ↓w_istore_3, ↓w_istore_4]
  refine bX5_digits_1 ?_
  simp (disch := first | omega | decide) only [w_nl0, w_nli, w_nlr, ↓w_ts1, ↓w_ts0, w_rcv, w_rfv, w_cs, true_and, and_true, List.length_nil, List.length_cons, Nat.reduceAdd, Nat.reduceLeDiff, Nat.zero_le, Nat.reduceLT, ↓w_nil, ix_nI, nI_leP, nI_ltP, nI_eqP, nI_1, ↓i_inN, i_inN, l_le, l_lt, l_eq, r_le, r_lt, r_eq, sh31, ↓w_aload_0, ↓w_gf2, ↓w_ifeq, ↓w_iload_4, ↓w_iload_1, ↓w_icge, ↓w_gf0, ↓w_is, ↓pm_cl1_2, ↓w_gf3, ↓w_iaload, ↓w_bipush, ↓w_isub, ↓w_istore_5, ↓w_iload_5, ↓w_iload_2, ↓w_ifne, ↓w_goto, r8]
  repeat' (first
    | (apply And.intro)
    | (with_reducible refine bX5_digits_3 ?_; simp (disch := first | omega | decide) only [w_nl0, w_nli, w_nlr, ↓w_ts1, ↓w_ts0, w_rcv, w_rfv, w_cs, true_and, and_true, List.length_nil, List.length_cons, Nat.reduceAdd, Nat.reduceLeDiff, Nat.zero_le, Nat.reduceLT, ↓w_nil, ix_nI, nI_leP, nI_ltP, nI_eqP, nI_1, ↓i_inN, i_inN, l_le, l_lt, l_eq, r_le, r_lt, r_eq, sh31, ↓w_iconst, ↓w_istore_3, ↓w_istore_4, ↓w_aload_0, ↓w_gf2, ↓w_ifeq, ↓w_iload_4, ↓w_iload_1, ↓w_icge, ↓w_gf0, ↓w_is, ↓pm_cl1_2, ↓w_gf3, ↓w_iaload, ↓w_bipush, ↓w_isub, ↓w_istore_5, ↓w_iload_5, ↓w_iload_2, ↓w_ifne, ↓w_goto, ↓w_iload_3, ↓w_imul, ↓w_iadd, ↓w_dup_i, ↓w_dup_r, ↓w_pf0, ↓w_iinc_4, ↓w_pf2, ↓w_ret, r8])
    | (with_reducible refine bX5_digits_4 ?_; simp (disch := first | omega | decide) only [w_nl0, w_nli, w_nlr, ↓w_ts1, ↓w_ts0, w_rcv, w_rfv, w_cs, true_and, and_true, List.length_nil, List.length_cons, Nat.reduceAdd, Nat.reduceLeDiff, Nat.zero_le, Nat.reduceLT, ↓w_nil, ix_nI, nI_leP, nI_ltP, nI_eqP, nI_1, ↓i_inN, i_inN, l_le, l_lt, l_eq, r_le, r_lt, r_eq, sh31, ↓w_iconst, ↓w_istore_3, ↓w_istore_4, ↓w_aload_0, ↓w_gf2, ↓w_ifeq, ↓w_iload_4, ↓w_iload_1, ↓w_icge, ↓w_gf0, ↓w_is, ↓pm_cl1_2, ↓w_gf3, ↓w_iaload, ↓w_bipush, ↓w_isub, ↓w_istore_5, ↓w_iload_5, ↓w_iload_2, ↓w_ifne, ↓w_goto, ↓w_iload_3, ↓w_imul, ↓w_iadd, ↓w_dup_i, ↓w_dup_r, ↓w_pf0, ↓w_iinc_4, ↓w_pf2, ↓w_ret, r8])
    | (simp only [w_in])
    | (intro _))
  all_goals grind
theorem c_dig1Y {I' : pm_MI} {s p : Nat} {b D : Nat → Int32} {m : Int32} (hd : 2 ≤ d) (hs : s ≤ 48) (hm : 0 ≤ m ∧ m ≤ 10) (hB : isB b s p m) (h : RS I I' s b p 1 D) (hQ : ∀ I'', RS I I'' s b (p + 1) 1 D → Q (some (.int (b p - 48))) SH I'' J) : pm_C g d 70 [.ref 31, .int 1, .int m] Q SH I' J := by
  refine c_dig (k := 1) hd hs (by have := hB.1; omega) (by omega) rfl hm h ?_
  rw [pdg_1, if_pos hB]
  simp only [show ¬ p + 1 = p by omega, if_false]
  exact hQ
theorem c_dig1N {I' : pm_MI} {s p : Nat} {b D : Nat → Int32} {m : Int32} (hd : 2 ≤ d) (hs : s ≤ 48) (hp : p ≤ s) (hm : 0 ≤ m ∧ m ≤ 10) (hB : ¬ isB b s p m) (h : RS I I' s b p 1 D) (hQ : ∀ I'', RS I I'' s b p 0 D → Q (some (.int 0)) SH I'' J) : pm_C g d 70 [.ref 31, .int 1, .int m] Q SH I' J := by
  refine c_dig (k := 1) hd hs hp (by omega) rfl hm h ?_
  rw [pdg_1, if_neg hB]
  simp only [if_true]
  exact hQ
theorem c_note0 {I' : pm_MI} {s p : Nat} {b D : Nat → Int32} {x n : Int32} (hd : 2 ≤ d) (h : RS I I' s b p 0 D) (hQ : Q none SH I' J) : pm_C g d 69 [.ref 31, .int x, .int n] Q SH I' J := by
  have r8 := h.2.2.2.2.2.1
  clear h
  refine eX5_note (by omega) ?_
  repeat' (first
    | (apply And.intro)
    | (with_reducible refine bX5_note_0 ?_; simp (disch := first | omega | decide) only [w_nl0, w_nli, w_nlr, ↓w_ts1, ↓w_ts0, w_rcv, w_rfv, w_cs, true_and, and_true, List.length_nil, List.length_cons, Nat.reduceAdd, Nat.reduceLeDiff, Nat.zero_le, Nat.reduceLT, ↓w_nil, ix_nI, nI_leP, nI_ltP, nI_eqP, nI_1, ↓i_inN, i_inN, l_le, l_lt, l_eq, r_le, r_lt, r_eq, sh31, ↓w_aload_0, ↓w_gf2, ↓w_ifeq, ↓w_iload_1, ↓w_bipush, ↓w_is, ↓pm_cl1_2, ↓w_gf3, ↓w_iload_2, ↓w_iastore, ↓w_vret, r8])
    | (with_reducible refine bX5_note_1 ?_; simp (disch := first | omega | decide) only [w_nl0, w_nli, w_nlr, ↓w_ts1, ↓w_ts0, w_rcv, w_rfv, w_cs, true_and, and_true, List.length_nil, List.length_cons, Nat.reduceAdd, Nat.reduceLeDiff, Nat.zero_le, Nat.reduceLT, ↓w_nil, ix_nI, nI_leP, nI_ltP, nI_eqP, nI_1, ↓i_inN, i_inN, l_le, l_lt, l_eq, r_le, r_lt, r_eq, sh31, ↓w_aload_0, ↓w_gf2, ↓w_ifeq, ↓w_iload_1, ↓w_bipush, ↓w_is, ↓pm_cl1_2, ↓w_gf3, ↓w_iload_2, ↓w_iastore, ↓w_vret, r8])
    | (with_reducible refine c_below (by omega) ?_ ; simp (disch := first | omega | decide) only [w_nl0, w_nli, w_nlr, ↓w_ts1, ↓w_ts0, w_rcv, w_rfv, w_cs, true_and, and_true, List.length_nil, List.length_cons, Nat.reduceAdd, Nat.reduceLeDiff, Nat.zero_le, Nat.reduceLT, ↓w_nil, ix_nI, nI_leP, nI_ltP, nI_eqP, nI_1, ↓i_inN, i_inN, l_le, l_lt, l_eq, r_le, r_lt, r_eq, sh31, ↓w_aload_0, ↓w_gf2, ↓w_ifeq, ↓w_iload_1, ↓w_bipush, ↓w_is, ↓pm_cl1_2, ↓w_gf3, ↓w_iload_2, ↓w_iastore, ↓w_vret, r8])
    | (simp only [w_in])
    | (intro _))
  all_goals grind
theorem c_note1 {I' : pm_MI} {s p t : Nat} {b D : Nat → Int32} {x n : Int32} (hd : 2 ≤ d) (h : RS I I' s b p 1 D) (hx : x = nI t) (ht : t < 33) (hQ : ∀ I'', RS I I'' s b p 1 (upd D t n) → Q none SH I'' J) : pm_C g d 69 [.ref 31, .int x, .int n] Q SH I' J := by
  subst hx
  have hQ2 := hQ (pm_up I' 35 t n) (rs_draft h)
  have r8 := h.2.2.2.2.2.1
  clear hQ h
  refine eX5_note (by omega) ?_
  repeat' (first
    | (apply And.intro)
    | (with_reducible refine bX5_note_0 ?_; simp (disch := first | omega | decide) only [w_nl0, w_nli, w_nlr, ↓w_ts1, ↓w_ts0, w_rcv, w_rfv, w_cs, true_and, and_true, List.length_nil, List.length_cons, Nat.reduceAdd, Nat.reduceLeDiff, Nat.zero_le, Nat.reduceLT, ↓w_nil, ix_nI, nI_leP, nI_ltP, nI_eqP, nI_1, ↓i_inN, i_inN, l_le, l_lt, l_eq, r_le, r_lt, r_eq, sh31, ↓w_aload_0, ↓w_gf2, ↓w_ifeq, ↓w_iload_1, ↓w_bipush, ↓w_is, ↓pm_cl1_2, ↓w_gf3, ↓w_iload_2, ↓w_iastore, ↓w_vret, r8])
    | (with_reducible refine bX5_note_1 ?_; simp (disch := first | omega | decide) only [w_nl0, w_nli, w_nlr, ↓w_ts1, ↓w_ts0, w_rcv, w_rfv, w_cs, true_and, and_true, List.length_nil, List.length_cons, Nat.reduceAdd, Nat.reduceLeDiff, Nat.zero_le, Nat.reduceLT, ↓w_nil, ix_nI, nI_leP, nI_ltP, nI_eqP, nI_1, ↓i_inN, i_inN, l_le, l_lt, l_eq, r_le, r_lt, r_eq, sh31, ↓w_aload_0, ↓w_gf2, ↓w_ifeq, ↓w_iload_1, ↓w_bipush, ↓w_is, ↓pm_cl1_2, ↓w_gf3, ↓w_iload_2, ↓w_iastore, ↓w_vret, r8])
    | (with_reducible refine c_below (by omega) ?_ ; simp (disch := first | omega | decide) only [w_nl0, w_nli, w_nlr, ↓w_ts1, ↓w_ts0, w_rcv, w_rfv, w_cs, true_and, and_true, List.length_nil, List.length_cons, Nat.reduceAdd, Nat.reduceLeDiff, Nat.zero_le, Nat.reduceLT, ↓w_nil, ix_nI, nI_leP, nI_ltP, nI_eqP, nI_1, ↓i_inN, i_inN, l_le, l_lt, l_eq, r_le, r_lt, r_eq, sh31, ↓w_aload_0, ↓w_gf2, ↓w_ifeq, ↓w_iload_1, ↓w_bipush, ↓w_is, ↓pm_cl1_2, ↓w_gf3, ↓w_iload_2, ↓w_iastore, ↓w_vret, r8])
    | (simp only [w_in])
    | (intro _))
  all_goals grind
end C72
