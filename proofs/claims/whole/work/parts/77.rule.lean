section C77
variable {g : pm_G} {d : Nat} {Q : pm_Po} {S : pm_SS} {I : pm_MI} {J : pm_ML}
theorem pdg_n {b : Nat → Int32} {s : Nat} : ∀ k i v, ∃ v', (pdg b s 10 k i (nI v)).1 = nI v' ∧ v' < (v + 1) * 10 ^ k
  | 0, i, v => ⟨v, rfl, by omega⟩
  | k + 1, i, v => by
    simp only [pdg]
    split
    · rename_i hB
      obtain ⟨q, hq, e⟩ := isB_q (N := 10) (by omega) hB
      have e2 : 10 * nI v + (b i - 48) = nI (10 * v + q) := by
        rw [e, show (10 : Int32) = nI 10 from rfl, pk_mul, nI_add]
      obtain ⟨v', h1, h2⟩ := pdg_n (b := b) (s := s) k (i + 1) (10 * v + q)
      rw [e2]
      refine ⟨v', h1, Nat.lt_of_lt_of_le h2 ?_⟩
      have h3 : (10 * v + q + 1) * 10 ^ k ≤ (10 * (v + 1)) * 10 ^ k := Nat.mul_le_mul_right _ (by omega)
      have h4 : (v + 1) * 10 ^ (k + 1) = (10 * (v + 1)) * 10 ^ k := by
        rw [Nat.pow_succ, Nat.mul_comm 10 (v + 1), Nat.mul_assoc, Nat.mul_comm (10 ^ k) 10]
      omega
    · refine ⟨v, rfl, ?_⟩
      have h5 : 1 ≤ 10 ^ (k + 1) := Nat.one_le_pow _ _ (by omega)
      have h6 := Nat.mul_le_mul_left (v + 1) h5
      omega
theorem pdg_0 {b : Nat → Int32} {s k i : Nat} (hk : k ≤ 5) : 0 ≤ (pdg b s 10 k i 0).1 := by
  obtain ⟨v', h1, h2⟩ := pdg_n (b := b) (s := s) k i 0
  have h3 : 10 ^ k ≤ 10 ^ 5 := Nat.pow_le_pow_right (by omega) hk
  have h4 : (pdg b s 10 k i 0).1 = nI v' := h1
  rw [h4]
  exact nI_pos' (by omega)
theorem pit_ok {b : Nat → Int32} {s i : Nat} (h : (pit b s i).1 = true) : ((pit b s i).2.2.1 = 0 ∧ (∃ q, q < 4 ∧ (pit b s i).2.2.2.1 = nI q) ∧ (∃ q, q < 4 ∧ (pit b s i).2.2.2.2.1 = nI q) ∨ (pit b s i).2.2.1 = 1 ∨ ((pit b s i).2.2.1 = 2 ∨ (pit b s i).2.2.1 = 3) ∧ ∃ q, q < 8 ∧ (pit b s i).2.2.2.1 = nI q) ∧ 0 ≤ (pit b s i).2.2.2.2.2 := by
  revert h
  unfold pit
  split
  · unfold pG
    split
    · intro h; exact absurd h (by simp)
    · rename_i h1
      split
      · intro h; exact absurd h (by simp)
      · rename_i h2
        split
        · intro h; exact absurd h (by simp)
        · intro _
          exact ⟨Or.inl ⟨rfl, isB_q (N := 4) (by omega) (Classical.not_not.1 h1), isB_q (N := 4) (by omega) (Classical.not_not.1 h2)⟩, pdg_0 (by omega)⟩
  · split
    · unfold pW
      split
      · intro h; exact absurd h (by simp)
      · intro _
        exact ⟨Or.inr (Or.inl rfl), pdg_0 (by omega)⟩
    · split
      · unfold pP
        split
        · intro h; exact absurd h (by simp)
        · rename_i h1
          split
          · intro h; exact absurd h (by simp)
          · intro _
            exact ⟨Or.inr (Or.inr ⟨Or.inl rfl, isB_q (N := 8) (by omega) (Classical.not_not.1 h1)⟩), pdg_0 (by omega)⟩
      · split
        · unfold pL
          split
          · intro h; exact absurd h (by simp)
          · rename_i h1
            intro _
            exact ⟨Or.inr (Or.inr ⟨Or.inr rfl, isB_q (N := 8) (by omega) (Classical.not_not.1 h1)⟩), (by decide : (0 : Int32) ≤ 0)⟩
        · split
          · unfold pL
            split
            · intro h; exact absurd h (by simp)
            · rename_i h1
              intro _
              exact ⟨Or.inr (Or.inr ⟨Or.inr rfl, isB_q (N := 8) (by omega) (Classical.not_not.1 h1)⟩), (by decide : (0 : Int32) ≤ 1)⟩
          · intro h; exact absurd h (by simp)
theorem itV_cong {it it' : Nat → Int32} {r : Nat} {t z : Int32} : ∀ n, (∀ j, j < 96 * r + 4 * n → it' j = it j) → itV it' r t z n = itV it r t z n
  | 0, _ => rfl
  | n + 1, h => by
    simp only [itV]
    rw [h (96 * r + 4 * n) (by omega), h (96 * r + 4 * n + 1) (by omega), h (96 * r + 4 * n + 2) (by omega), h (96 * r + 4 * n + 3) (by omega), itV_cong n (fun j hj => h j (by omega))]
theorem itOk_cong {it it' : Nat → Int32} {k : Nat} (h : ∀ j, j < k + 4 → it' j = it j) (hk : itOk it k) : itOk it' k := by
  unfold itOk at hk ⊢
  rw [h k (by omega), h (k + 1) (by omega), h (k + 2) (by omega), h (k + 3) (by omega)]
  exact hk
def MR (I I2 : pm_MI) (R n : Nat) (D : Nat → Int32) : Prop := (∀ a, a ≠ 68 → a ≠ 78 → I2 a = I a) ∧ (∀ j, ¬ (10 ≤ j ∧ j ≤ 14) → I2 68 j = I 68 j) ∧ (∀ j, j < 96 * R → I2 78 j = I 78 j) ∧ (∀ q, q < n → itOk (I2 78) (96 * R + 4 * q)) ∧ (∀ t, t < 33 → D t = itV (I2 78) R (nI t) (-1) n)
theorem mr_ms {I2 I3 : pm_MI} {R n : Nat} {D : Nat → Int32} (h : MR I I2 R n D) (hm : MS I2 I3) : MR I I3 R n D := by
  obtain ⟨h1, h2, h3, h4, h5⟩ := h
  have e := hm.1 78 (by decide)
  refine ⟨fun a x y => (hm.1 a x).trans (h1 a x y), fun j hj => (hm.2 j hj).trans (h2 j hj), ?_, ?_, ?_⟩
  · rw [e]; exact h3
  · rw [e]; exact h4
  · rw [e]; exact h5
theorem mr_item {I2 : pm_MI} {R n K : Nat} {D : Nat → Int32} {p : ItT} (h : MR I I2 R n D) (hK : K = 96 * R + 4 * n) (hp : p.1 = true) (hok : (p.2.2.1 = 0 ∧ (∃ q, q < 4 ∧ p.2.2.2.1 = nI q) ∧ (∃ q, q < 4 ∧ p.2.2.2.2.1 = nI q) ∨ p.2.2.1 = 1 ∨ (p.2.2.1 = 2 ∨ p.2.2.1 = 3) ∧ ∃ q, q < 8 ∧ p.2.2.2.1 = nI q) ∧ 0 ≤ p.2.2.2.2.2) : MR I (pm_up (pm_up (pm_up (pm_up I2 78 K p.2.2.1) 78 (K + 1) p.2.2.2.1) 78 (K + 2) p.2.2.2.2.1) 78 (K + 3) p.2.2.2.2.2) R (n + 1) (drU D p) := by
  obtain ⟨h1, h2, h3, h4, h5⟩ := h
  have e0 : ∀ j, j < K → (pm_up (pm_up (pm_up (pm_up I2 78 K p.2.2.1) 78 (K + 1) p.2.2.2.1) 78 (K + 2) p.2.2.2.2.1) 78 (K + 3) p.2.2.2.2.2) 78 j = I2 78 j := by
    intro j hj
    rw [pm_up_n (by omega), pm_up_n (by omega), pm_up_n (by omega), pm_up_n (by omega)]
  have k0 : (pm_up (pm_up (pm_up (pm_up I2 78 K p.2.2.1) 78 (K + 1) p.2.2.2.1) 78 (K + 2) p.2.2.2.2.1) 78 (K + 3) p.2.2.2.2.2) 78 K = p.2.2.1 := by
    rw [pm_up_n (by omega), pm_up_n (by omega), pm_up_n (by omega), pm_up_s]
  have k1 : (pm_up (pm_up (pm_up (pm_up I2 78 K p.2.2.1) 78 (K + 1) p.2.2.2.1) 78 (K + 2) p.2.2.2.2.1) 78 (K + 3) p.2.2.2.2.2) 78 (K + 1) = p.2.2.2.1 := by
    rw [pm_up_n (by omega), pm_up_n (by omega), pm_up_s]
  have k2 : (pm_up (pm_up (pm_up (pm_up I2 78 K p.2.2.1) 78 (K + 1) p.2.2.2.1) 78 (K + 2) p.2.2.2.2.1) 78 (K + 3) p.2.2.2.2.2) 78 (K + 2) = p.2.2.2.2.1 := by
    rw [pm_up_n (by omega), pm_up_s]
  have k3 : (pm_up (pm_up (pm_up (pm_up I2 78 K p.2.2.1) 78 (K + 1) p.2.2.2.1) 78 (K + 2) p.2.2.2.2.1) 78 (K + 3) p.2.2.2.2.2) 78 (K + 3) = p.2.2.2.2.2 := by
    rw [pm_up_s]
  have ko : ∀ a, a ≠ 78 → (pm_up (pm_up (pm_up (pm_up I2 78 K p.2.2.1) 78 (K + 1) p.2.2.2.1) 78 (K + 2) p.2.2.2.2.1) 78 (K + 3) p.2.2.2.2.2) a = I2 a := by
    intro a ha
    rw [pm_up_o ha, pm_up_o ha, pm_up_o ha, pm_up_o ha]
  generalize pm_up (pm_up (pm_up (pm_up I2 78 K p.2.2.1) 78 (K + 1) p.2.2.2.1) 78 (K + 2) p.2.2.2.2.1) 78 (K + 3) p.2.2.2.2.2 = I3 at *
  refine ⟨fun a x y => (ko a y).trans (h1 a x y), fun j hj => ?_, fun j hj => ?_, fun q hq => ?_, fun t ht => ?_⟩
  · rw [ko 68 (by decide)]
    exact h2 j hj
  · rw [e0 j (by omega)]
    exact h3 j hj
  · by_cases hqn : q = n
    · rw [hqn, ← hK]
      unfold itOk
      rw [k0, k1, k2, k3]
      exact hok
    · exact itOk_cong (fun j hj => e0 j (by omega)) (h4 q (by omega))
  · simp only [itV]
    rw [← hK, k0, k1, k2, k3, itV_cong n (fun j hj => e0 j (by omega))]
    have hab : abR p.2.2.1 p.2.2.2.1 p.2.2.2.2.1 := by
      unfold abR
      have r3 : nI 3 = (3 : Int32) := rfl
      have r7 : nI 7 = (7 : Int32) := rfl
      rcases hok.1 with ⟨w, ⟨q, hq, e⟩, ⟨q2, hq2, e2⟩⟩ | w | ⟨w, q, hq, e⟩
      · have z1 := nI_rng (n := q) (N := 3) (by omega) (by decide)
        have z2 := nI_rng (n := q2) (N := 3) (by omega) (by decide)
        rw [r3] at z1 z2
        exact Or.inl ⟨w, by rw [e]; exact z1, by rw [e2]; exact z2⟩
      · exact Or.inr (Or.inl w)
      · have z1 := nI_rng (n := q) (N := 7) (by omega) (by decide)
        rw [r7] at z1
        exact Or.inr (Or.inr ⟨w, by rw [e]; exact z1⟩)
    obtain ⟨_, T, hT, eT⟩ := thing_pos hab
    unfold drU
    rw [if_pos hp, eT, ix_nI (by omega), upd_at]
    by_cases htT : t = T
    · rw [if_pos htT, htT, if_pos rfl]
    · rw [if_neg htT, if_neg (fun z => htT (nI_inj (by omega) (by omega) z).symm), h5 t ht]
theorem m_ruleLoop {t s R : Nat} {fr : Int32} {b : Nat → Int32} {E : Bool × Nat × (Nat → Int32)} (hd : 8 ≤ d) (ht : t < 4) (h73 : I 73 t = nI s) (hs : s ≤ 48) (h74 : ∀ i, i < s → I 74 (48 * t + i) = b i) (hR : I 68 16 = nI R) (hR24 : R < 24) (hE1 : E.1 = true) (hQ : ∀ I3 n y z, n ≤ 24 → MR I I3 R n E.2.2 → UU g (d - 1) 215 kX12_rule (pm_rm d 215) Q 8 [some (.ref 68), some (.int (nI t)), some (.int fr), some (.int (nI n)), y, z] [] SH I3 J (0, 0)) : ∀ f i n D I2 x, s ≤ i + f → i ≤ s → 2 * n ≤ i → MR I I2 R n D → psc b s f i D = E → UU g (d - 1) 215 kX12_rule (pm_rm d 215) Q 6 [some (.ref 68), some (.int (nI t)), some (.int fr), some (.int (nI n)), some (.int (nI i)), x] [] SH I2 J (0, 0) := by
  intro f
  induction f with
  | zero =>
    intro i n D I2 x hf hi hn hM he
    simp only [psc] at he
    subst he
    have w := fun y z => hQ I2 n y z (by omega) hM
    have e73 : I2 73 t = nI s := by rw [hM.1 73 (by decide) (by decide), h73]
    clear hQ h74 hM
    refine bX12_rule_6 ?_
    simp (disch := first | omega | decide) only [w_nl0, w_nli, w_nlr, ↓w_ts1, ↓w_ts0, w_rcv, w_rfv, w_cs, true_and, and_true, List.length_nil, List.length_cons, Nat.reduceAdd, Nat.reduceLeDiff, Nat.zero_le, Nat.reduceLT, ↓w_nil, ix_nI, nI_leP, nI_ltP, nI_eqP, nI_1, ↓i_inN, i_inN, l_le, l_lt, l_eq, r_le, r_lt, r_eq, sh68_0, sh68_1, sh68_2, sh68_3, sh68_4, ↓w_iload_4, ↓w_aload_0, ↓w_gf3, ↓w_iload_1, ↓w_iaload, ↓w_icge, ↓w_iv, ↓pm_cl2_3, ↓w_bipush, ↓w_icne, ↓w_iinc_4, ↓w_goto, e73]
    repeat' (first
      | (apply And.intro)
      | (simp only [w_in])
      | (intro _))
    all_goals grind
  | succ f ih =>
    intro i n D I2 x hf hi hn hM he
    have e73 : I2 73 t = nI s := by rw [hM.1 73 (by decide) (by decide), h73]
    have e74 : ∀ i, i < s → I2 74 (48 * t + i) = b i := by
      intro i hi
      rw [hM.1 74 (by decide) (by decide)]
      exact h74 i hi
    have e16 : I2 68 16 = nI R := by rw [hM.2.1 16 (by decide), hR]
    by_cases hl : i < s
    · have hbi : byV b s i = b i := if_pos hl
      rw [psc, if_pos hl] at he
      by_cases hb : b i = 32
      · rw [if_pos hb] at he
        have w := fun x => ih (i + 1) n D I2 x (by omega) (by omega) (by omega) hM he
        clear ih hQ h74 hM
        refine bX12_rule_6 ?_
        simp (disch := first | omega | decide) only [w_nl0, w_nli, w_nlr, ↓w_ts1, ↓w_ts0, w_rcv, w_rfv, w_cs, true_and, and_true, List.length_nil, List.length_cons, Nat.reduceAdd, Nat.reduceLeDiff, Nat.zero_le, Nat.reduceLT, ↓w_nil, ix_nI, nI_leP, nI_ltP, nI_eqP, nI_1, ↓i_inN, i_inN, l_le, l_lt, l_eq, r_le, r_lt, r_eq, sh68_0, sh68_1, sh68_2, sh68_3, sh68_4, ↓w_iload_4, ↓w_aload_0, ↓w_gf3, ↓w_iload_1, ↓w_iaload, ↓w_icge, ↓w_iv, ↓pm_cl2_3, ↓w_bipush, ↓w_icne, ↓w_iinc_4, ↓w_goto, e73]
        repeat' (first
          | (apply And.intro)
          | (with_reducible refine m_by (s := s) (b := b) (by omega) ht e73 hs e74 (by omega) ?_ ; simp (disch := first | omega | decide) only [w_nl0, w_nli, w_nlr, ↓w_ts1, ↓w_ts0, w_rcv, w_rfv, w_cs, true_and, and_true, List.length_nil, List.length_cons, Nat.reduceAdd, Nat.reduceLeDiff, Nat.zero_le, Nat.reduceLT, ↓w_nil, ix_nI, nI_leP, nI_ltP, nI_eqP, nI_1, ↓i_inN, i_inN, l_le, l_lt, l_eq, r_le, r_lt, r_eq, sh68_0, sh68_1, sh68_2, sh68_3, sh68_4, ↓w_iload_1, ↓w_is, ↓pm_cl1_1, ↓w_ifeq, ↓w_iload_2, ↓w_ifne, ↓w_iconst, ↓w_ret, ↓w_aload_0, ↓w_gf0, ↓w_bipush, ↓w_icne, ↓w_gf3, ↓w_iaload, ↓w_ifge, ↓w_iv, ↓pm_cl2_2, ↓w_iceq, ↓w_istore_3, ↓w_istore_4, ↓w_iload_4, ↓w_icge, ↓pm_cl2_3, ↓w_iinc_4, ↓w_goto, ↓w_pop, ↓w_imul, ↓w_iload_3, ↓w_iadd, ↓w_istore_5, ↓w_iload_5, ↓w_iastore, ↓w_iinc_3, ↓w_dup_i, ↓w_dup_r, ↓w_pf0, ↓w_isub, e73, hbi, nI_add])
          | (simp only [w_in])
          | (intro _))
        all_goals (clear e74; grind)
      · rw [if_neg hb] at he
        have hpr := pit_rng (b := b) hl
        by_cases hok : (pit b s i).1 = true
        · rw [if_pos hok] at he
          have hpo := pit_ok hok
          have w : ∀ x I3, MS I2 I3 → I3 68 10 = (pit b s i).2.2.1 → I3 68 11 = (pit b s i).2.2.2.1 → I3 68 12 = (pit b s i).2.2.2.2.1 → I3 68 13 = (pit b s i).2.2.2.2.2 → I3 68 14 = nI (pit b s i).2.1 → UU g (d - 1) 215 kX12_rule (pm_rm d 215) Q 6 [some (.ref 68), some (.int (nI t)), some (.int fr), some (.int (nI (n + 1))), some (.int (I3 68 14)), x] [] SH (pm_up (pm_up (pm_up (pm_up I3 78 (4 * (24 * R + n)) (I3 68 10)) 78 (4 * (24 * R + n) + 1) (I3 68 11)) 78 (4 * (24 * R + n) + 2) (I3 68 12)) 78 (4 * (24 * R + n) + 3) (I3 68 13)) J (0, 0) := by
            intro x I3 h3 a10 a11 a12 a13 a14
            rw [a10, a11, a12, a13, a14]
            exact ih _ _ _ _ x (by have := hpr.2 hok; omega) hpr.1 (by have := hpr.2 hok; omega) (mr_item (mr_ms hM h3) (by omega) hok hpo) he
          have w16 : ∀ I3, MS I2 I3 → I3 68 16 = nI R := fun I3 h3 => by rw [h3.2 16 (by decide), e16]
          clear ih hQ h74 he hM hpo
          refine bX12_rule_6 ?_
          simp (disch := first | omega | decide) only [w_nl0, w_nli, w_nlr, ↓w_ts1, ↓w_ts0, w_rcv, w_rfv, w_cs, true_and, and_true, List.length_nil, List.length_cons, Nat.reduceAdd, Nat.reduceLeDiff, Nat.zero_le, Nat.reduceLT, ↓w_nil, ix_nI, nI_leP, nI_ltP, nI_eqP, nI_1, ↓i_inN, i_inN, l_le, l_lt, l_eq, r_le, r_lt, r_eq, sh68_0, sh68_1, sh68_2, sh68_3, sh68_4, ↓w_iload_4, ↓w_aload_0, ↓w_gf3, ↓w_iload_1, ↓w_iaload, ↓w_icge, ↓w_iv, ↓pm_cl2_3, ↓w_bipush, ↓w_icne, ↓w_iinc_4, ↓w_goto, e73]
          repeat' (first
            | (apply And.intro)
            | (with_reducible refine m_by (s := s) (b := b) (by omega) ht e73 hs e74 (by omega) ?_ ; simp (disch := first | omega | decide) only [w_nl0, w_nli, w_nlr, ↓w_ts1, ↓w_ts0, w_rcv, w_rfv, w_cs, true_and, and_true, List.length_nil, List.length_cons, Nat.reduceAdd, Nat.reduceLeDiff, Nat.zero_le, Nat.reduceLT, ↓w_nil, ix_nI, nI_leP, nI_ltP, nI_eqP, nI_1, ↓i_inN, i_inN, l_le, l_lt, l_eq, r_le, r_lt, r_eq, sh68_0, sh68_1, sh68_2, sh68_3, sh68_4, ↓w_iload_1, ↓w_is, ↓pm_cl1_1, ↓w_ifeq, ↓w_iload_2, ↓w_ifne, ↓w_iconst, ↓w_ret, ↓w_aload_0, ↓w_gf0, ↓w_bipush, ↓w_icne, ↓w_gf3, ↓w_iaload, ↓w_ifge, ↓w_iv, ↓pm_cl2_2, ↓w_iceq, ↓w_istore_3, ↓w_istore_4, ↓w_iload_4, ↓w_icge, ↓pm_cl2_3, ↓w_iinc_4, ↓w_goto, ↓w_pop, ↓w_imul, ↓w_iload_3, ↓w_iadd, ↓w_istore_5, ↓w_iload_5, ↓w_iastore, ↓w_iinc_3, ↓w_dup_i, ↓w_dup_r, ↓w_pf0, ↓w_isub, e73, hbi])
            | (simp only [w_in])
            | (intro _))
          all_goals try (clear e74 w w16; grind)
          refine bX12_rule_7 ?_
          simp (disch := first | omega | decide) only [w_nl0, w_nli, w_nlr, ↓w_ts1, ↓w_ts0, w_rcv, w_rfv, w_cs, true_and, and_true, List.length_nil, List.length_cons, Nat.reduceAdd, Nat.reduceLeDiff, Nat.zero_le, Nat.reduceLT, ↓w_nil, ix_nI, nI_leP, nI_ltP, nI_eqP, nI_1, ↓i_inN, i_inN, l_le, l_lt, l_eq, r_le, r_lt, r_eq, sh68_0, sh68_1, sh68_2, sh68_3, sh68_4, ↓w_aload_0, ↓w_iload_1, ↓w_iload_4, ↓w_iv, ↓pm_cl2_3, ↓w_pop, ↓w_iconst, ↓w_bipush, ↓w_gf0, ↓w_imul, ↓w_iload_3, ↓w_iadd, ↓w_istore_5, ↓w_gf3, ↓w_iload_5, ↓w_iastore, ↓w_iinc_3, ↓w_istore_4, ↓w_goto]
          refine m_riY (s := s) (b := b) (by omega) ht e73 hs e74 hl hok (fun I3 h3 a10 a11 a12 a13 a14 => ?_)
          have v16 := w16 I3 h3
          simp (disch := first | omega | decide) only [w_nl0, w_nli, w_nlr, ↓w_ts1, ↓w_ts0, w_rcv, w_rfv, w_cs, true_and, and_true, List.length_nil, List.length_cons, Nat.reduceAdd, Nat.reduceLeDiff, Nat.zero_le, Nat.reduceLT, ↓w_nil, ix_nI, nI_leP, nI_ltP, nI_eqP, nI_1, ↓i_inN, i_inN, l_le, l_lt, l_eq, r_le, r_lt, r_eq, sh68_0, sh68_1, sh68_2, sh68_3, sh68_4, ↓w_aload_0, ↓w_iload_1, ↓w_iload_4, ↓w_iv, ↓pm_cl2_3, ↓w_pop, ↓w_iconst, ↓w_bipush, ↓w_gf0, ↓w_imul, ↓w_iload_3, ↓w_iadd, ↓w_istore_5, ↓w_gf3, ↓w_iload_5, ↓w_iastore, ↓w_iinc_3, ↓w_istore_4, ↓w_goto, v16, nI_24m, nI_add, nI_4m, nI_p2, nI_p3, pm_up_o]
          have w2 := fun x => w x I3 h3 a10 a11 a12 a13 a14
          clear w w16 e74 a10 a11 a12 a13 a14
          grind
        · rw [if_neg hok] at he
          rw [← he] at hE1
          exact absurd hE1 (by simp)
    · rw [psc, if_neg hl] at he
      subst he
      have w := fun y z => hQ I2 n y z (by omega) hM
      clear hQ h74 hM ih e74
      refine bX12_rule_6 ?_
      simp (disch := first | omega | decide) only [w_nl0, w_nli, w_nlr, ↓w_ts1, ↓w_ts0, w_rcv, w_rfv, w_cs, true_and, and_true, List.length_nil, List.length_cons, Nat.reduceAdd, Nat.reduceLeDiff, Nat.zero_le, Nat.reduceLT, ↓w_nil, ix_nI, nI_leP, nI_ltP, nI_eqP, nI_1, ↓i_inN, i_inN, l_le, l_lt, l_eq, r_le, r_lt, r_eq, sh68_0, sh68_1, sh68_2, sh68_3, sh68_4, ↓w_iload_4, ↓w_aload_0, ↓w_gf3, ↓w_iload_1, ↓w_iaload, ↓w_icge, ↓w_iv, ↓pm_cl2_3, ↓w_bipush, ↓w_icne, ↓w_iinc_4, ↓w_goto, e73]
      repeat' (first
        | (apply And.intro)
        | (simp only [w_in])
        | (intro _))
      all_goals grind
end C77
