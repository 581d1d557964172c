section C91h
variable {g : pm_G} {d : Nat} {Q : pm_Po} {S : pm_SS} {I : pm_MI} {J : pm_ML}
/-! ===== what the reports say of a turn ===== -/
def fcI (I : pm_MI) (i : Nat) : Nat := (2 * I 38 i + I 39 i).toNatClampNeg
def rpW (I : pm_MI) (N R : Nat) : Prop := I 37 4 = nI R ∧ R ≤ 60 ∧ ∀ i, i < R → (2 * I 38 i + I 39 i = nI (fcI I i) ∧ fcI I i < 2 * N) ∧ (I 41 i = 0 ∨ I 41 i = 1)
def ndI (I : pm_MI) (t : Int32) (R : Nat) : Int64 := itr (fun k a => if I 40 k = t ∧ I 41 k = 1 then a ||| bitL (fcI I k) else a) 0 R
def qtI (I : pm_MI) (t : Int32) (c : Int64) (R : Nat) : Int64 := itr (fun k a => if (I 40 k = t ∧ I 41 k = 0) ∧ tb c (fcI I k) = true then a ||| bitL k else a) 0 R
theorem tb_ito {p : Nat → Prop} [DecidablePred p] {f : Nat → Nat} {e : Nat} : ∀ {R : Nat}, (∀ k, k < R → f k < 64) → (tb (itr (fun k a => if p k then a ||| bitL (f k) else a) 0 R) e = true ↔ ∃ k, k < R ∧ p k ∧ f k = e)
  | 0, _ => by rw [itr_0, tb_0]; simp
  | R + 1, h => by
    have ih := tb_ito (p := p) (f := f) (e := e) (R := R) (fun k hk => h k (by omega))
    rw [itr_s]
    by_cases hp : p R
    · rw [if_pos hp, tb_or, Bool.or_eq_true, ih, tb_bit (h R (by omega)), decide_eq_true_eq]
      constructor
      · rintro (⟨k, h1, h2⟩ | h1)
        · exact ⟨k, by omega, h2⟩
        · exact ⟨R, by omega, hp, h1⟩
      · rintro ⟨k, h1, h2, h3⟩
        by_cases c : k = R
        · subst c; exact Or.inr h3
        · exact Or.inl ⟨k, by omega, h2, h3⟩
    · rw [if_neg hp, ih]
      constructor
      · rintro ⟨k, h1, h2⟩; exact ⟨k, by omega, h2⟩
      · rintro ⟨k, h1, h2, h3⟩
        by_cases c : k = R
        · subst c; exact absurd h2 hp
        · exact ⟨k, by omega, h2, h3⟩
theorem tb_nd {t : Int32} {R e : Nat} (h : ∀ k, k < R → fcI I k < 64) : tb (ndI I t R) e = true ↔ ∃ k, k < R ∧ (I 40 k = t ∧ I 41 k = 1) ∧ fcI I k = e := tb_ito h
theorem tb_qt {t : Int32} {c : Int64} {R e : Nat} (hR : R ≤ 60) : tb (qtI I t c R) e = true ↔ e < R ∧ (I 40 e = t ∧ I 41 e = 0) ∧ tb c (fcI I e) = true := by
  unfold qtI
  rw [tb_ito (f := fun k => k) (fun k hk => by omega)]
  constructor
  · rintro ⟨k, h1, h2, rfl⟩; exact ⟨h1, h2⟩
  · rintro ⟨h1, h2⟩; exact ⟨e, h1, h2, rfl⟩
theorem and_bit {c : Int64} {k : Nat} (h : k < 64) : c &&& bitL k = 0 ↔ ¬ tb c k = true := by
  rw [tb_z]
  constructor
  · intro z hc
    have := z k
    rw [tb_and, tb_bit h, hc] at this
    simp at this
  · intro z e
    rw [tb_and, tb_bit h]
    by_cases q : k = e
    · subst q; simp [z]
    · simp [q]
theorem c_need {N R : Nat} {t : Int32} (hd : 3 ≤ d) (w : rpW I N R) (hQ : Q (some (.long (ndI I t R))) SH I J) : pm_C g d 51 [.ref 37, .int t, .int 1] Q SH I J := by
  refine c_faces hd w.1 w.2.1 ?_
  have e : itr (fun k a => if I 40 k = t ∧ I 41 k = 1 then a ||| 1 <<< ((2 * I 38 k + I 39 k).toInt64 &&& 63) else a) (0 : Int64) R = ndI I t R := itr_cong (fun k hk b => by
    rw [(w.2.2 k hk).1.1]; rfl)
  rw [e]; exact hQ
set_option maxHeartbeats 4000000 in
theorem c_hearQuiet {N R P : Nat} {t : Int32} {c : Nat → Int64} (hd : 3 ≤ d) (w : rpW I N R) (hN : N ≤ 30) (h43 : I 43 6 = nI P) (hP : P ≤ 160) (h48 : ∀ p, p < P → J 48 p = c p) (hQ : ∀ J', (∀ a, a ≠ 50 → J' a = J a) → (∀ p, p < P → J' 50 p = qtI I t (c p) R) → Q none SH I J') : pm_C g d 93 [.ref 42, .ref 37, .int t] Q SH I J := by
  obtain ⟨w1, w2, w3⟩ := w
  have ph2 : ∀ J2, (∀ a, a ≠ 50 → J2 a = J a) → (∀ p, p < P → J2 50 p = 0) → UU g (d - 1) 93 kX8_hearQuiet (pm_rm d 93) Q 3 [some (.ref 42), some (.ref 37), some (.int t), some (.int 0), none, none, none] [] SH I J2 (0, 0) := by
    intro J2 p1 p2
    refine lp (α := pm_ML) (U := fun k J3 => ∀ x y z, UU g (d - 1) 93 kX8_hearQuiet (pm_rm d 93) Q 3 [some (.ref 42), some (.ref 37), some (.int t), some (.int (nI k)), x, y, z] [] SH I J3 (0, 0)) (fun k J3 => (∀ a, a ≠ 50 → J3 a = J a) ∧ ∀ p, p < P → J3 50 p = qtI I t (c p) k) R (fun k J3 hk hP2 w4 => ?_) (fun J3 hP2 => ?_) (a := J2) ⟨p1, p2⟩ none none none
    · intro x y z
      obtain ⟨q1, q2⟩ := hP2
      obtain ⟨⟨fc1, fc2⟩, _⟩ := w3 k hk
      by_cases ht : I 40 k = t ∧ I 41 k = 0
      · have inn : UU g (d - 1) 93 kX8_hearQuiet (pm_rm d 93) Q 5 [some (.ref 42), some (.ref 37), some (.int t), some (.int (nI k)), some (.long (bitL (fcI I k))), none, some (.int 0)] [] SH I J3 (0, 0) := by
          refine lp (α := pm_ML) (U := fun p J4 => UU g (d - 1) 93 kX8_hearQuiet (pm_rm d 93) Q 5 [some (.ref 42), some (.ref 37), some (.int t), some (.int (nI k)), some (.long (bitL (fcI I k))), none, some (.int (nI p))] [] SH I J4 (0, 0)) (fun p J4 => (∀ a, a ≠ 50 → J4 a = J a) ∧ ∀ i, i < P → J4 50 i = if i < p then qtI I t (c i) (k + 1) else qtI I t (c i) k) P (fun p J4 hp hP3 w5 => ?_) (fun J4 hP3 => ?_) (a := J3) ⟨q1, fun i hi => by rw [if_neg (by omega)]; exact q2 i hi⟩
          · obtain ⟨r1, r2⟩ := hP3
            have r3 := r2 p hp
            rw [if_neg (by omega)] at r3
            have r4 : J4 48 p = c p := by rw [r1 48 (by decide)]; exact h48 p hp
            by_cases hc : tb (c p) (fcI I k) = true
            · have w6 := w5 (pm_upL J4 50 p (qtI I t (c p) k ||| bitL k)) ⟨fun a ha => by rw [pm_upL_o ha]; exact r1 a ha, fun i hi => by
                by_cases e : i = p
                · subst e
                  rw [pm_upL_s, if_pos (by omega)]
                  conv => rhs; rw [qtI, itr_s, if_pos ⟨ht, hc⟩]
                  rfl
                · rw [pm_upL_n e, r2 i hi]
                  by_cases e2 : i < p
                  · rw [if_pos e2, if_pos (by omega)]
                  · rw [if_neg e2, if_neg (by omega)]⟩
              have hnz : ¬ c p &&& bitL (fcI I k) = 0 := fun z => (and_bit (by omega)).mp z hc
              have w7 : UU g (d - 1) 93 kX8_hearQuiet (pm_rm d 93) Q 6 [some (.ref 42), some (.ref 37), some (.int t), some (.int (nI k)), some (.long (bitL (fcI I k))), none, some (.int (nI p))] [] SH I (pm_upL J4 50 p (qtI I t (c p) k ||| bitL k)) (0, 0) := by
                clear w5 r2 q2 p2 h48 hQ w3 w4
                refine bX8_hearQuiet_6 ?_
                simp (disch := first | omega | decide) only [w_nl0, w_nli, w_nlr, ↓w_ts1, ↓w_ts0, w_rcv, w_rfv, w_cs, true_and, and_true, List.length_nil, List.length_cons, Nat.reduceAdd, Nat.reduceLeDiff, Nat.zero_le, Nat.reduceLT, ↓w_nil, ix_nI, nI_leP, nI_ltP, nI_eqP, nI_1, ↓i_inN, i_inN, l_le, l_lt, l_eq, r_le, r_lt, r_eq, sh42, sh43, sh37, sh9, sh23, ↓w_iinc_6, ↓w_goto]
                repeat' (first
                  | (apply And.intro)
                  | (simp only [w_in])
                  | (intro _))
                all_goals first | (with_reducible exact w6) | omega | grind
              clear w5 w6 r2 q2 p2 h48 hQ w3 w4
              refine bX8_hearQuiet_5 ?_
              simp (disch := first | omega | decide) only [w_nl0, w_nli, w_nlr, ↓w_ts1, ↓w_ts0, w_rcv, w_rfv, w_cs, true_and, and_true, List.length_nil, List.length_cons, Nat.reduceAdd, Nat.reduceLeDiff, Nat.zero_le, Nat.reduceLT, ↓w_nil, ix_nI, nI_leP, nI_ltP, nI_eqP, nI_1, ↓i_inN, i_inN, l_le, l_lt, l_eq, r_le, r_lt, r_eq, sh42, sh43, sh37, sh9, sh23, ↓w_iload_6, ↓w_aload_0, ↓w_gf3, ↓w_gf0, ↓w_icge, ↓w_laload, ↓w_lload_4, ↓w_land, ↓w_lconst0, ↓w_lcmp, ↓w_ifeq, ↓w_dup2, ↓w_lconst1, ↓w_iload_3, ↓w_lshl, ↓w_lor, ↓w_lastore, h43, r4, r3, lg_eq0, bitL_f]
              repeat' (first
                | (apply And.intro)
                | (simp only [w_in])
                | (intro _))
              all_goals first | (with_reducible exact w7) | omega | grind
            · have w6 := w5 J4 ⟨r1, fun i hi => by
                rw [r2 i hi]
                by_cases e : i = p
                · subst e
                  rw [if_neg (by omega), if_pos (by omega)]
                  conv => rhs; rw [qtI, itr_s, if_neg (fun z => hc z.2)]
                  rfl
                · by_cases e2 : i < p
                  · rw [if_pos e2, if_pos (by omega)]
                  · rw [if_neg e2, if_neg (by omega)]⟩
              have hz : c p &&& bitL (fcI I k) = 0 := (and_bit (by omega)).mpr hc
              clear w5 r2 q2 p2 h48 hQ w3 w4
              refine bX8_hearQuiet_5 ?_
              simp (disch := first | omega | decide) only [w_nl0, w_nli, w_nlr, ↓w_ts1, ↓w_ts0, w_rcv, w_rfv, w_cs, true_and, and_true, List.length_nil, List.length_cons, Nat.reduceAdd, Nat.reduceLeDiff, Nat.zero_le, Nat.reduceLT, ↓w_nil, ix_nI, nI_leP, nI_ltP, nI_eqP, nI_1, ↓i_inN, i_inN, l_le, l_lt, l_eq, r_le, r_lt, r_eq, sh42, sh43, sh37, sh9, sh23, ↓w_iload_6, ↓w_aload_0, ↓w_gf3, ↓w_gf0, ↓w_icge, ↓w_laload, ↓w_lload_4, ↓w_land, ↓w_lconst0, ↓w_lcmp, ↓w_ifeq, ↓w_dup2, ↓w_lconst1, ↓w_iload_3, ↓w_lshl, ↓w_lor, ↓w_lastore, h43, r4, lg_eq0]
              repeat' (first
                | (apply And.intro)
                | (with_reducible refine bX8_hearQuiet_6 ?_; simp (disch := first | omega | decide) only [w_nl0, w_nli, w_nlr, ↓w_ts1, ↓w_ts0, w_rcv, w_rfv, w_cs, true_and, and_true, List.length_nil, List.length_cons, Nat.reduceAdd, Nat.reduceLeDiff, Nat.zero_le, Nat.reduceLT, ↓w_nil, ix_nI, nI_leP, nI_ltP, nI_eqP, nI_1, ↓i_inN, i_inN, l_le, l_lt, l_eq, r_le, r_lt, r_eq, sh42, sh43, sh37, sh9, sh23, ↓w_iconst, ↓w_istore_3, ↓w_iload_3, ↓w_aload_0, ↓w_gf3, ↓w_gf0, ↓w_icge, ↓w_lconst0, ↓w_lastore, ↓w_iinc_3, ↓w_goto, ↓w_aload_1, ↓w_iload_2, ↓w_iv, ↓pm_cl2_4, ↓w_ifne, ↓pm_cl2_2, ↓w_lstore_4, ↓w_istore_6, ↓w_iload_6, ↓w_laload, ↓w_lload_4, ↓w_land, ↓w_lcmp, ↓w_ifeq, ↓w_dup2, ↓w_lconst1, ↓w_lshl, ↓w_lor, ↓w_iinc_6, ↓w_vret, h43, r4, lg_eq0])
                | (simp only [w_in])
                | (intro _))
              all_goals first | (with_reducible exact w6) | omega | grind
          · obtain ⟨r1, r2⟩ := hP3
            have w6 := w4 J4 ⟨r1, fun i hi => by rw [r2 i hi, if_pos hi]⟩ (some (.long (bitL (fcI I k)))) none (some (.int (nI P)))
            clear w4 r2 q2 p2 h48 hQ w3
            refine bX8_hearQuiet_5 ?_
            simp (disch := first | omega | decide) only [w_nl0, w_nli, w_nlr, ↓w_ts1, ↓w_ts0, w_rcv, w_rfv, w_cs, true_and, and_true, List.length_nil, List.length_cons, Nat.reduceAdd, Nat.reduceLeDiff, Nat.zero_le, Nat.reduceLT, ↓w_nil, ix_nI, nI_leP, nI_ltP, nI_eqP, nI_1, ↓i_inN, i_inN, l_le, l_lt, l_eq, r_le, r_lt, r_eq, sh42, sh43, sh37, sh9, sh23, ↓w_iload_6, ↓w_aload_0, ↓w_gf3, ↓w_gf0, ↓w_icge, ↓w_laload, ↓w_lload_4, ↓w_land, ↓w_lconst0, ↓w_lcmp, ↓w_ifeq, ↓w_dup2, ↓w_lconst1, ↓w_iload_3, ↓w_lshl, ↓w_lor, ↓w_lastore, h43]
            repeat' (first
              | (apply And.intro)
              | (with_reducible refine bX8_hearQuiet_7 ?_; simp (disch := first | omega | decide) only [w_nl0, w_nli, w_nlr, ↓w_ts1, ↓w_ts0, w_rcv, w_rfv, w_cs, true_and, and_true, List.length_nil, List.length_cons, Nat.reduceAdd, Nat.reduceLeDiff, Nat.zero_le, Nat.reduceLT, ↓w_nil, ix_nI, nI_leP, nI_ltP, nI_eqP, nI_1, ↓i_inN, i_inN, l_le, l_lt, l_eq, r_le, r_lt, r_eq, sh42, sh43, sh37, sh9, sh23, ↓w_iconst, ↓w_istore_3, ↓w_iload_3, ↓w_aload_0, ↓w_gf3, ↓w_gf0, ↓w_icge, ↓w_lconst0, ↓w_lastore, ↓w_iinc_3, ↓w_goto, ↓w_aload_1, ↓w_iload_2, ↓w_iv, ↓pm_cl2_4, ↓w_ifne, ↓pm_cl2_2, ↓w_lstore_4, ↓w_istore_6, ↓w_iload_6, ↓w_laload, ↓w_lload_4, ↓w_land, ↓w_lcmp, ↓w_ifeq, ↓w_dup2, ↓w_lconst1, ↓w_lshl, ↓w_lor, ↓w_iinc_6, ↓w_vret])
              | (simp only [w_in])
              | (intro _))
            all_goals first | (with_reducible exact w6) | omega | grind
        have inn2 := inn
        clear w4 q2 p2 h48 hQ w3 inn
        refine bX8_hearQuiet_3 ?_
        simp (disch := first | omega | decide) only [w_nl0, w_nli, w_nlr, ↓w_ts1, ↓w_ts0, w_rcv, w_rfv, w_cs, true_and, and_true, List.length_nil, List.length_cons, Nat.reduceAdd, Nat.reduceLeDiff, Nat.zero_le, Nat.reduceLT, ↓w_nil, ix_nI, nI_leP, nI_ltP, nI_eqP, nI_1, ↓i_inN, i_inN, l_le, l_lt, l_eq, r_le, r_lt, r_eq, sh42, sh43, sh37, sh9, sh23, ↓w_iload_3, ↓w_aload_1, ↓w_gf0, ↓w_icge, ↓w_iload_2, ↓w_iconst, ↓w_iv, ↓pm_cl2_4, ↓w_ifne, ↓w_goto, w1]
        repeat' (first
          | (apply And.intro)
          | (with_reducible refine bX8_hearQuiet_4 ?_; simp (disch := first | omega | decide) only [w_nl0, w_nli, w_nlr, ↓w_ts1, ↓w_ts0, w_rcv, w_rfv, w_cs, true_and, and_true, List.length_nil, List.length_cons, Nat.reduceAdd, Nat.reduceLeDiff, Nat.zero_le, Nat.reduceLT, ↓w_nil, ix_nI, nI_leP, nI_ltP, nI_eqP, nI_1, ↓i_inN, i_inN, l_le, l_lt, l_eq, r_le, r_lt, r_eq, sh42, sh43, sh37, sh9, sh23, ↓w_iconst, ↓w_istore_3, ↓w_iload_3, ↓w_aload_0, ↓w_gf3, ↓w_gf0, ↓w_icge, ↓w_lconst0, ↓w_lastore, ↓w_iinc_3, ↓w_goto, ↓w_aload_1, ↓w_iload_2, ↓w_iv, ↓pm_cl2_4, ↓w_ifne, ↓pm_cl2_2, ↓w_lstore_4, ↓w_istore_6, ↓w_iload_6, ↓w_laload, ↓w_lload_4, ↓w_land, ↓w_lcmp, ↓w_ifeq, ↓w_dup2, ↓w_lconst1, ↓w_lshl, ↓w_lor, ↓w_iinc_6, ↓w_vret, if_pos ht, fc1, bitL_f])
          | (with_reducible refine c_tells (by omega) w1 w2 hk ?_ ; simp (disch := first | omega | decide) only [w_nl0, w_nli, w_nlr, ↓w_ts1, ↓w_ts0, w_rcv, w_rfv, w_cs, true_and, and_true, List.length_nil, List.length_cons, Nat.reduceAdd, Nat.reduceLeDiff, Nat.zero_le, Nat.reduceLT, ↓w_nil, ix_nI, nI_leP, nI_ltP, nI_eqP, nI_1, ↓i_inN, i_inN, l_le, l_lt, l_eq, r_le, r_lt, r_eq, sh42, sh43, sh37, sh9, sh23, ↓w_iconst, ↓w_istore_3, ↓w_iload_3, ↓w_aload_0, ↓w_gf3, ↓w_gf0, ↓w_icge, ↓w_lconst0, ↓w_lastore, ↓w_iinc_3, ↓w_goto, ↓w_aload_1, ↓w_iload_2, ↓w_iv, ↓pm_cl2_4, ↓w_ifne, ↓pm_cl2_2, ↓w_lstore_4, ↓w_istore_6, ↓w_iload_6, ↓w_laload, ↓w_lload_4, ↓w_land, ↓w_lcmp, ↓w_ifeq, ↓w_dup2, ↓w_lconst1, ↓w_lshl, ↓w_lor, ↓w_iinc_6, ↓w_vret, if_pos ht, fc1, bitL_f])
          | (with_reducible refine c_faceBit (n := R) (by omega) (by omega) ?_ ; simp (disch := first | omega | decide) only [w_nl0, w_nli, w_nlr, ↓w_ts1, ↓w_ts0, w_rcv, w_rfv, w_cs, true_and, and_true, List.length_nil, List.length_cons, Nat.reduceAdd, Nat.reduceLeDiff, Nat.zero_le, Nat.reduceLT, ↓w_nil, ix_nI, nI_leP, nI_ltP, nI_eqP, nI_1, ↓i_inN, i_inN, l_le, l_lt, l_eq, r_le, r_lt, r_eq, sh42, sh43, sh37, sh9, sh23, ↓w_iconst, ↓w_istore_3, ↓w_iload_3, ↓w_aload_0, ↓w_gf3, ↓w_gf0, ↓w_icge, ↓w_lconst0, ↓w_lastore, ↓w_iinc_3, ↓w_goto, ↓w_aload_1, ↓w_iload_2, ↓w_iv, ↓pm_cl2_4, ↓w_ifne, ↓pm_cl2_2, ↓w_lstore_4, ↓w_istore_6, ↓w_iload_6, ↓w_laload, ↓w_lload_4, ↓w_land, ↓w_lcmp, ↓w_ifeq, ↓w_dup2, ↓w_lconst1, ↓w_lshl, ↓w_lor, ↓w_iinc_6, ↓w_vret, if_pos ht, fc1, bitL_f])
          | (simp only [w_in])
          | (intro _))
        all_goals first | (with_reducible exact inn2) | omega | grind
      · have w6 := w4 J3 ⟨q1, fun i hi => by
          rw [q2 i hi]
          conv => rhs; rw [qtI, itr_s, if_neg (fun z => ht z.1)]
          rfl⟩ x y z
        clear w4 q2 p2 h48 hQ w3
        refine bX8_hearQuiet_3 ?_
        simp (disch := first | omega | decide) only [w_nl0, w_nli, w_nlr, ↓w_ts1, ↓w_ts0, w_rcv, w_rfv, w_cs, true_and, and_true, List.length_nil, List.length_cons, Nat.reduceAdd, Nat.reduceLeDiff, Nat.zero_le, Nat.reduceLT, ↓w_nil, ix_nI, nI_leP, nI_ltP, nI_eqP, nI_1, ↓i_inN, i_inN, l_le, l_lt, l_eq, r_le, r_lt, r_eq, sh42, sh43, sh37, sh9, sh23, ↓w_iload_3, ↓w_aload_1, ↓w_gf0, ↓w_icge, ↓w_iload_2, ↓w_iconst, ↓w_iv, ↓pm_cl2_4, ↓w_ifne, ↓w_goto, w1]
        repeat' (first
          | (apply And.intro)
          | (with_reducible refine bX8_hearQuiet_7 ?_; simp (disch := first | omega | decide) only [w_nl0, w_nli, w_nlr, ↓w_ts1, ↓w_ts0, w_rcv, w_rfv, w_cs, true_and, and_true, List.length_nil, List.length_cons, Nat.reduceAdd, Nat.reduceLeDiff, Nat.zero_le, Nat.reduceLT, ↓w_nil, ix_nI, nI_leP, nI_ltP, nI_eqP, nI_1, ↓i_inN, i_inN, l_le, l_lt, l_eq, r_le, r_lt, r_eq, sh42, sh43, sh37, sh9, sh23, ↓w_iconst, ↓w_istore_3, ↓w_iload_3, ↓w_aload_0, ↓w_gf3, ↓w_gf0, ↓w_icge, ↓w_lconst0, ↓w_lastore, ↓w_iinc_3, ↓w_goto, ↓w_aload_1, ↓w_iload_2, ↓w_iv, ↓pm_cl2_4, ↓w_ifne, ↓pm_cl2_2, ↓w_lstore_4, ↓w_istore_6, ↓w_iload_6, ↓w_laload, ↓w_lload_4, ↓w_land, ↓w_lcmp, ↓w_ifeq, ↓w_dup2, ↓w_lconst1, ↓w_lshl, ↓w_lor, ↓w_iinc_6, ↓w_vret, if_neg ht])
          | (with_reducible refine c_tells (by omega) w1 w2 hk ?_ ; simp (disch := first | omega | decide) only [w_nl0, w_nli, w_nlr, ↓w_ts1, ↓w_ts0, w_rcv, w_rfv, w_cs, true_and, and_true, List.length_nil, List.length_cons, Nat.reduceAdd, Nat.reduceLeDiff, Nat.zero_le, Nat.reduceLT, ↓w_nil, ix_nI, nI_leP, nI_ltP, nI_eqP, nI_1, ↓i_inN, i_inN, l_le, l_lt, l_eq, r_le, r_lt, r_eq, sh42, sh43, sh37, sh9, sh23, ↓w_iconst, ↓w_istore_3, ↓w_iload_3, ↓w_aload_0, ↓w_gf3, ↓w_gf0, ↓w_icge, ↓w_lconst0, ↓w_lastore, ↓w_iinc_3, ↓w_goto, ↓w_aload_1, ↓w_iload_2, ↓w_iv, ↓pm_cl2_4, ↓w_ifne, ↓pm_cl2_2, ↓w_lstore_4, ↓w_istore_6, ↓w_iload_6, ↓w_laload, ↓w_lload_4, ↓w_land, ↓w_lcmp, ↓w_ifeq, ↓w_dup2, ↓w_lconst1, ↓w_lshl, ↓w_lor, ↓w_iinc_6, ↓w_vret, if_neg ht])
          | (simp only [w_in])
          | (intro _))
        all_goals first | (with_reducible exact w6) | omega | grind
    · intro x y z
      obtain ⟨q1, q2⟩ := hP2
      have q := hQ J3 q1 q2
      clear q2 p2 h48 hQ w3
      refine bX8_hearQuiet_3 ?_
      simp (disch := first | omega | decide) only [w_nl0, w_nli, w_nlr, ↓w_ts1, ↓w_ts0, w_rcv, w_rfv, w_cs, true_and, and_true, List.length_nil, List.length_cons, Nat.reduceAdd, Nat.reduceLeDiff, Nat.zero_le, Nat.reduceLT, ↓w_nil, ix_nI, nI_leP, nI_ltP, nI_eqP, nI_1, ↓i_inN, i_inN, l_le, l_lt, l_eq, r_le, r_lt, r_eq, sh42, sh43, sh37, sh9, sh23, ↓w_iload_3, ↓w_aload_1, ↓w_gf0, ↓w_icge, ↓w_iload_2, ↓w_iconst, ↓w_iv, ↓pm_cl2_4, ↓w_ifne, ↓w_goto, w1]
      repeat' (first
        | (apply And.intro)
        | (with_reducible refine bX8_hearQuiet_8 ?_; simp (disch := first | omega | decide) only [w_nl0, w_nli, w_nlr, ↓w_ts1, ↓w_ts0, w_rcv, w_rfv, w_cs, true_and, and_true, List.length_nil, List.length_cons, Nat.reduceAdd, Nat.reduceLeDiff, Nat.zero_le, Nat.reduceLT, ↓w_nil, ix_nI, nI_leP, nI_ltP, nI_eqP, nI_1, ↓i_inN, i_inN, l_le, l_lt, l_eq, r_le, r_lt, r_eq, sh42, sh43, sh37, sh9, sh23, ↓w_iconst, ↓w_istore_3, ↓w_iload_3, ↓w_aload_0, ↓w_gf3, ↓w_gf0, ↓w_icge, ↓w_lconst0, ↓w_lastore, ↓w_iinc_3, ↓w_goto, ↓w_aload_1, ↓w_iload_2, ↓w_iv, ↓pm_cl2_4, ↓w_ifne, ↓pm_cl2_2, ↓w_lstore_4, ↓w_istore_6, ↓w_iload_6, ↓w_laload, ↓w_lload_4, ↓w_land, ↓w_lcmp, ↓w_ifeq, ↓w_dup2, ↓w_lconst1, ↓w_lshl, ↓w_lor, ↓w_iinc_6, ↓w_vret])
        | (simp only [w_in])
        | (intro _))
      all_goals first | (with_reducible exact q) | omega | grind
  clear hQ w3
  refine eX8_hearQuiet (by omega) ?_
  refine bX8_hearQuiet_0 ?_
  simp (disch := first | omega | decide) only [w_nl0, w_nli, w_nlr, ↓w_ts1, ↓w_ts0, w_rcv, w_rfv, w_cs, true_and, and_true, List.length_nil, List.length_cons, Nat.reduceAdd, Nat.reduceLeDiff, Nat.zero_le, Nat.reduceLT, ↓w_nil, ix_nI, nI_leP, nI_ltP, nI_eqP, nI_1, ↓i_inN, i_inN, l_le, l_lt, l_eq, r_le, r_lt, r_eq, sh42, sh43, sh37, sh9, sh23, ↓w_iconst, ↓w_istore_3]
  refine lp (α := pm_ML) (U := fun k J3 => UU g (d - 1) 93 kX8_hearQuiet (pm_rm d 93) Q 1 [some (.ref 42), some (.ref 37), some (.int t), some (.int (nI k)), none, none, none] [] SH I J3 (0, 0)) (fun k J3 => (∀ a, a ≠ 50 → J3 a = J a) ∧ ∀ p, p < k → J3 50 p = 0) P (fun k J3 hk hP2 w4 => ?_) (fun J3 hP2 => ?_) (a := J) ⟨fun _ _ => rfl, fun p hp => by omega⟩
  · obtain ⟨q1, q2⟩ := hP2
    have w6 := w4 (pm_upL J3 50 k 0) ⟨fun a ha => by rw [pm_upL_o ha]; exact q1 a ha, fun p hp => by
      by_cases e : p = k
      · subst e; rw [pm_upL_s]
      · rw [pm_upL_n e]; exact q2 p (by omega)⟩
    clear w4 q2 ph2 h48
    refine bX8_hearQuiet_1 ?_
    simp (disch := first | omega | decide) only [w_nl0, w_nli, w_nlr, ↓w_ts1, ↓w_ts0, w_rcv, w_rfv, w_cs, true_and, and_true, List.length_nil, List.length_cons, Nat.reduceAdd, Nat.reduceLeDiff, Nat.zero_le, Nat.reduceLT, ↓w_nil, ix_nI, nI_leP, nI_ltP, nI_eqP, nI_1, ↓i_inN, i_inN, l_le, l_lt, l_eq, r_le, r_lt, r_eq, sh42, sh43, sh37, sh9, sh23, ↓w_iload_3, ↓w_aload_0, ↓w_gf3, ↓w_gf0, ↓w_icge, ↓w_lconst0, ↓w_lastore, ↓w_iinc_3, ↓w_goto, h43]
    repeat' (first
      | (apply And.intro)
      | (simp only [w_in])
      | (intro _))
    all_goals first | (with_reducible exact w6) | omega | grind
  · obtain ⟨q1, q2⟩ := hP2
    have w6 := ph2 J3 q1 q2
    clear q2 ph2 h48
    refine bX8_hearQuiet_1 ?_
    simp (disch := first | omega | decide) only [w_nl0, w_nli, w_nlr, ↓w_ts1, ↓w_ts0, w_rcv, w_rfv, w_cs, true_and, and_true, List.length_nil, List.length_cons, Nat.reduceAdd, Nat.reduceLeDiff, Nat.zero_le, Nat.reduceLT, ↓w_nil, ix_nI, nI_leP, nI_ltP, nI_eqP, nI_1, ↓i_inN, i_inN, l_le, l_lt, l_eq, r_le, r_lt, r_eq, sh42, sh43, sh37, sh9, sh23, ↓w_iload_3, ↓w_aload_0, ↓w_gf3, ↓w_gf0, ↓w_icge, ↓w_lconst0, ↓w_lastore, ↓w_iinc_3, ↓w_goto, h43]
    repeat' (first
      | (apply And.intro)
      | (with_reducible refine bX8_hearQuiet_2 ?_; simp (disch := first | omega | decide) only [w_nl0, w_nli, w_nlr, ↓w_ts1, ↓w_ts0, w_rcv, w_rfv, w_cs, true_and, and_true, List.length_nil, List.length_cons, Nat.reduceAdd, Nat.reduceLeDiff, Nat.zero_le, Nat.reduceLT, ↓w_nil, ix_nI, nI_leP, nI_ltP, nI_eqP, nI_1, ↓i_inN, i_inN, l_le, l_lt, l_eq, r_le, r_lt, r_eq, sh42, sh43, sh37, sh9, sh23, ↓w_iconst, ↓w_istore_3, ↓w_iload_3, ↓w_aload_0, ↓w_gf3, ↓w_gf0, ↓w_icge, ↓w_lconst0, ↓w_lastore, ↓w_iinc_3, ↓w_goto, ↓w_aload_1, ↓w_iload_2, ↓w_iv, ↓pm_cl2_4, ↓w_ifne, ↓pm_cl2_2, ↓w_lstore_4, ↓w_istore_6, ↓w_iload_6, ↓w_laload, ↓w_lload_4, ↓w_land, ↓w_lcmp, ↓w_ifeq, ↓w_dup2, ↓w_lconst1, ↓w_lshl, ↓w_lor, ↓w_iinc_6, ↓w_vret])
      | (simp only [w_in])
      | (intro _))
    all_goals first | (with_reducible exact w6) | omega | grind
set_option maxHeartbeats 4000000 in
theorem c_pickUseful {P ms : Nat} {need : Int64} {c q : Nat → Int64} (hd : 2 ≤ d) (h43 : I 43 6 = nI P) (hP : P ≤ 160) (h48 : ∀ p, p < P → J 48 p = c p) (h50 : ∀ p, p < P → J 50 p = q p) (hms : I 42 8 = nI ms) (hms2 : ms ≤ 60) (hnd : J 42 9 = need) (hQ : ∀ I', (∀ a, a ≠ 42 → a ≠ 51 → I' a = I a) → (∀ j, j ≠ 7 → I' 42 j = I 42 j) → I' 42 7 = nI (ufL P c q need ms).length → (∀ u p, (ufL P c q need ms)[u]? = some p → I' 51 u = nI p) → Q none SH I' J) : pm_C g d 94 [.ref 42] Q SH I J := by
  have hlen : ∀ k, ((List.range k).filter (fun p => decide (¬ (c p &&& need = 0) ∧ pc (q p) ≤ ms))).length ≤ k := fun k => by
    have := List.length_filter_le (fun p => decide (¬ (c p &&& need = 0) ∧ pc (q p) ≤ ms)) (List.range k)
    rw [List.length_range] at this; exact this
  refine eX8_pickUseful (by omega) ?_
  refine bX8_pickUseful_0 ?_
  simp (disch := first | omega | decide) only [w_nl0, w_nli, w_nlr, ↓w_ts1, ↓w_ts0, w_rcv, w_rfv, w_cs, true_and, and_true, List.length_nil, List.length_cons, Nat.reduceAdd, Nat.reduceLeDiff, Nat.zero_le, Nat.reduceLT, ↓w_nil, ix_nI, nI_leP, nI_ltP, nI_eqP, nI_1, ↓i_inN, i_inN, l_le, l_lt, l_eq, r_le, r_lt, r_eq, sh42, sh43, sh37, sh9, sh23, ↓w_aload_0, ↓w_iconst, ↓w_pf0, ↓w_istore_1]
  refine lp (α := pm_MI) (U := fun k I2 => UU g (d - 1) 94 kX8_pickUseful (pm_rm d 94) Q 1 [some (.ref 42), some (.int (nI k))] [] SH I2 J (0, 0)) (fun k I2 => ((∀ a, a ≠ 42 → a ≠ 51 → I2 a = I a) ∧ ∀ j, j ≠ 7 → I2 42 j = I 42 j) ∧ I2 42 7 = nI ((List.range k).filter (fun p => decide (¬ (c p &&& need = 0) ∧ pc (q p) ≤ ms))).length ∧ ∀ u p, ((List.range k).filter (fun p => decide (¬ (c p &&& need = 0) ∧ pc (q p) ≤ ms)))[u]? = some p → I2 51 u = nI p) P (fun k I2 hk hP2 w4 => ?_) (fun I2 hP2 => ?_) (a := pm_up I 42 7 0) ⟨⟨fun a ha _ => pm_up_o ha, fun j hj => pm_up_n hj⟩, by rw [pm_up_s]; rfl, fun u p h => by simp at h⟩
  · obtain ⟨⟨f1, f2⟩, f3, f4⟩ := hP2
    have hl := hlen k
    have e43 : I2 43 6 = nI P := by rw [f1 43 (by decide) (by decide)]; exact h43
    have e8 : I2 42 8 = nI ms := by rw [f2 8 (by decide)]; exact hms
    have e48 := h48 k hk
    have e50 := h50 k hk
    have hp64 := pc_le (x := q k)
    generalize hL : (List.range k).filter (fun p => decide (¬ (c p &&& need = 0) ∧ pc (q p) ≤ ms)) = L at f3 f4 hl
    by_cases hc : ¬ (c k &&& need = 0) ∧ pc (q k) ≤ ms
    · have hs : (List.range (k + 1)).filter (fun p => decide (¬ (c p &&& need = 0) ∧ pc (q p) ≤ ms)) = L ++ [k] := by
        rw [List.range_succ, List.filter_append, hL]
        congr 1
        simp [hc.1, hc.2]
      have w6 := w4 (pm_up (pm_up I2 42 7 (nI (L.length + 1))) 51 L.length (nI k)) ⟨⟨fun a h1 h2 => by rw [pm_up_o h2, pm_up_o h1]; exact f1 a h1 h2, fun j hj => by rw [pm_up_o (by decide), pm_up_n hj]; exact f2 j hj⟩, by
        rw [pm_up_o (by decide), pm_up_s, hs, List.length_append]; rfl, fun u p h => by
        rw [hs] at h
        by_cases e : u = L.length
        · subst e
          rw [List.getElem?_append_right (Nat.le_refl _), Nat.sub_self] at h
          cases h
          rw [pm_up_s]
        · have hp : u < L.length := by
            have := (List.getElem?_eq_some_iff.mp h).1
            rw [List.length_append, List.length_singleton] at this
            omega
          rw [List.getElem?_append_left hp] at h
          rw [pm_up_n e, pm_up_o (by decide)]
          exact f4 u p h⟩
      obtain ⟨hc1, hc2⟩ := hc
      have w7 : UU g (d - 1) 94 kX8_pickUseful (pm_rm d 94) Q 2 [some (.ref 42), some (.int (nI k))] [] SH (pm_up (pm_up I2 42 7 (nI (L.length + 1))) 51 L.length (nI k)) J (0, 0) := by
        clear w4 f4 f1 f2 h48 h50 hQ hlen hs hL
        refine bX8_pickUseful_2 ?_
        simp (disch := first | omega | decide) only [w_nl0, w_nli, w_nlr, ↓w_ts1, ↓w_ts0, w_rcv, w_rfv, w_cs, true_and, and_true, List.length_nil, List.length_cons, Nat.reduceAdd, Nat.reduceLeDiff, Nat.zero_le, Nat.reduceLT, ↓w_nil, ix_nI, nI_leP, nI_ltP, nI_eqP, nI_1, ↓i_inN, i_inN, l_le, l_lt, l_eq, r_le, r_lt, r_eq, sh42, sh43, sh37, sh9, sh23, ↓w_iinc_1, ↓w_goto]
        repeat' (first
          | (apply And.intro)
          | (simp only [w_in])
          | (intro _))
        all_goals first | (with_reducible exact w6) | omega | grind
      clear w4 w6 f4 f1 f2 h48 h50 hQ hlen hs hL
      refine bX8_pickUseful_1 ?_
      simp (disch := first | omega | decide) only [w_nl0, w_nli, w_nlr, ↓w_ts1, ↓w_ts0, w_rcv, w_rfv, w_cs, true_and, and_true, List.length_nil, List.length_cons, Nat.reduceAdd, Nat.reduceLeDiff, Nat.zero_le, Nat.reduceLT, ↓w_nil, ix_nI, nI_leP, nI_ltP, nI_eqP, nI_1, ↓i_inN, i_inN, l_le, l_lt, l_eq, r_le, r_lt, r_eq, sh42, sh43, sh37, sh9, sh23, ↓w_iload_1, ↓w_aload_0, ↓w_gf3, ↓w_gf0, ↓w_icge, ↓w_laload, ↓w_gf1, ↓w_land, ↓w_lconst0, ↓w_lcmp, ↓w_ifeq, ↓w_is, ↓pm_cl1_1, ↓w_icgt, ↓w_dup_i, ↓w_dup_r, ↓w_dup_x1, ↓w_iconst, ↓w_iadd, ↓w_pf0, ↓w_iastore, e43, e48, hnd, lg_eq0]
      repeat' (first
        | (apply And.intro)
        | (with_reducible refine c_bitL (by omega) ?_ ; simp (disch := first | omega | decide) only [w_nl0, w_nli, w_nlr, ↓w_ts1, ↓w_ts0, w_rcv, w_rfv, w_cs, true_and, and_true, List.length_nil, List.length_cons, Nat.reduceAdd, Nat.reduceLeDiff, Nat.zero_le, Nat.reduceLT, ↓w_nil, ix_nI, nI_leP, nI_ltP, nI_eqP, nI_1, ↓i_inN, i_inN, l_le, l_lt, l_eq, r_le, r_lt, r_eq, sh42, sh43, sh37, sh9, sh23, ↓w_aload_0, ↓w_iconst, ↓w_pf0, ↓w_istore_1, ↓w_iload_1, ↓w_gf3, ↓w_gf0, ↓w_icge, ↓w_laload, ↓w_gf1, ↓w_land, ↓w_lconst0, ↓w_lcmp, ↓w_ifeq, ↓w_is, ↓pm_cl1_1, ↓w_icgt, ↓w_dup_i, ↓w_dup_r, ↓w_dup_x1, ↓w_iadd, ↓w_iastore, ↓w_iinc_1, ↓w_goto, ↓w_vret, e43, e8, e50, e48, hnd, lg_eq0, f3, pm_up_s])
        | (simp only [w_in])
        | (intro _))
      all_goals first | (with_reducible exact w7) | omega | grind
    · have hs : (List.range (k + 1)).filter (fun p => decide (¬ (c p &&& need = 0) ∧ pc (q p) ≤ ms)) = L := by
        rw [List.range_succ, List.filter_append, hL]
        have : List.filter (fun p => decide (¬ (c p &&& need = 0) ∧ pc (q p) ≤ ms)) [k] = [] := by
          rw [List.filter_cons_of_neg (by rw [decide_eq_true_eq]; exact hc), List.filter_nil]
        rw [this, List.append_nil]
      have w6 := w4 I2 ⟨⟨f1, f2⟩, by rw [hs]; exact f3, by rw [hs]; exact f4⟩
      clear w4 f4 f1 f2 h48 h50 hQ hlen hs hL
      refine bX8_pickUseful_1 ?_
      simp (disch := first | omega | decide) only [w_nl0, w_nli, w_nlr, ↓w_ts1, ↓w_ts0, w_rcv, w_rfv, w_cs, true_and, and_true, List.length_nil, List.length_cons, Nat.reduceAdd, Nat.reduceLeDiff, Nat.zero_le, Nat.reduceLT, ↓w_nil, ix_nI, nI_leP, nI_ltP, nI_eqP, nI_1, ↓i_inN, i_inN, l_le, l_lt, l_eq, r_le, r_lt, r_eq, sh42, sh43, sh37, sh9, sh23, ↓w_iload_1, ↓w_aload_0, ↓w_gf3, ↓w_gf0, ↓w_icge, ↓w_laload, ↓w_gf1, ↓w_land, ↓w_lconst0, ↓w_lcmp, ↓w_ifeq, ↓w_is, ↓pm_cl1_1, ↓w_icgt, ↓w_dup_i, ↓w_dup_r, ↓w_dup_x1, ↓w_iconst, ↓w_iadd, ↓w_pf0, ↓w_iastore, e43, e48, hnd, lg_eq0]
      repeat' (first
        | (apply And.intro)
        | (with_reducible refine bX8_pickUseful_2 ?_; simp (disch := first | omega | decide) only [w_nl0, w_nli, w_nlr, ↓w_ts1, ↓w_ts0, w_rcv, w_rfv, w_cs, true_and, and_true, List.length_nil, List.length_cons, Nat.reduceAdd, Nat.reduceLeDiff, Nat.zero_le, Nat.reduceLT, ↓w_nil, ix_nI, nI_leP, nI_ltP, nI_eqP, nI_1, ↓i_inN, i_inN, l_le, l_lt, l_eq, r_le, r_lt, r_eq, sh42, sh43, sh37, sh9, sh23, ↓w_aload_0, ↓w_iconst, ↓w_pf0, ↓w_istore_1, ↓w_iload_1, ↓w_gf3, ↓w_gf0, ↓w_icge, ↓w_laload, ↓w_gf1, ↓w_land, ↓w_lconst0, ↓w_lcmp, ↓w_ifeq, ↓w_is, ↓pm_cl1_1, ↓w_icgt, ↓w_dup_i, ↓w_dup_r, ↓w_dup_x1, ↓w_iadd, ↓w_iastore, ↓w_iinc_1, ↓w_goto, ↓w_vret, e43, e8, e50, e48, hnd, lg_eq0, f3])
        | (with_reducible refine c_bitL (by omega) ?_ ; simp (disch := first | omega | decide) only [w_nl0, w_nli, w_nlr, ↓w_ts1, ↓w_ts0, w_rcv, w_rfv, w_cs, true_and, and_true, List.length_nil, List.length_cons, Nat.reduceAdd, Nat.reduceLeDiff, Nat.zero_le, Nat.reduceLT, ↓w_nil, ix_nI, nI_leP, nI_ltP, nI_eqP, nI_1, ↓i_inN, i_inN, l_le, l_lt, l_eq, r_le, r_lt, r_eq, sh42, sh43, sh37, sh9, sh23, ↓w_aload_0, ↓w_iconst, ↓w_pf0, ↓w_istore_1, ↓w_iload_1, ↓w_gf3, ↓w_gf0, ↓w_icge, ↓w_laload, ↓w_gf1, ↓w_land, ↓w_lconst0, ↓w_lcmp, ↓w_ifeq, ↓w_is, ↓pm_cl1_1, ↓w_icgt, ↓w_dup_i, ↓w_dup_r, ↓w_dup_x1, ↓w_iadd, ↓w_iastore, ↓w_iinc_1, ↓w_goto, ↓w_vret, e43, e8, e50, e48, hnd, lg_eq0, f3])
        | (simp only [w_in])
        | (intro _))
      all_goals first | (with_reducible exact w6) | omega | grind
  · obtain ⟨⟨f1, f2⟩, f3, f4⟩ := hP2
    have q1 := hQ I2 f1 f2 f3 f4
    have e43 : I2 43 6 = nI P := by rw [f1 43 (by decide) (by decide)]; exact h43
    clear f4 f1 f2 h48 h50 hQ hlen
    refine bX8_pickUseful_1 ?_
    simp (disch := first | omega | decide) only [w_nl0, w_nli, w_nlr, ↓w_ts1, ↓w_ts0, w_rcv, w_rfv, w_cs, true_and, and_true, List.length_nil, List.length_cons, Nat.reduceAdd, Nat.reduceLeDiff, Nat.zero_le, Nat.reduceLT, ↓w_nil, ix_nI, nI_leP, nI_ltP, nI_eqP, nI_1, ↓i_inN, i_inN, l_le, l_lt, l_eq, r_le, r_lt, r_eq, sh42, sh43, sh37, sh9, sh23, ↓w_iload_1, ↓w_aload_0, ↓w_gf3, ↓w_gf0, ↓w_icge, ↓w_laload, ↓w_gf1, ↓w_land, ↓w_lconst0, ↓w_lcmp, ↓w_ifeq, ↓w_is, ↓pm_cl1_1, ↓w_icgt, ↓w_dup_i, ↓w_dup_r, ↓w_dup_x1, ↓w_iconst, ↓w_iadd, ↓w_pf0, ↓w_iastore, e43]
    repeat' (first
      | (apply And.intro)
      | (with_reducible refine bX8_pickUseful_3 ?_; simp (disch := first | omega | decide) only [w_nl0, w_nli, w_nlr, ↓w_ts1, ↓w_ts0, w_rcv, w_rfv, w_cs, true_and, and_true, List.length_nil, List.length_cons, Nat.reduceAdd, Nat.reduceLeDiff, Nat.zero_le, Nat.reduceLT, ↓w_nil, ix_nI, nI_leP, nI_ltP, nI_eqP, nI_1, ↓i_inN, i_inN, l_le, l_lt, l_eq, r_le, r_lt, r_eq, sh42, sh43, sh37, sh9, sh23, ↓w_aload_0, ↓w_iconst, ↓w_pf0, ↓w_istore_1, ↓w_iload_1, ↓w_gf3, ↓w_gf0, ↓w_icge, ↓w_laload, ↓w_gf1, ↓w_land, ↓w_lconst0, ↓w_lcmp, ↓w_ifeq, ↓w_is, ↓pm_cl1_1, ↓w_icgt, ↓w_dup_i, ↓w_dup_r, ↓w_dup_x1, ↓w_iadd, ↓w_iastore, ↓w_iinc_1, ↓w_goto, ↓w_vret])
      | (simp only [w_in])
      | (intro _))
    all_goals first | (with_reducible exact q1) | omega | grind
end C91h
