section C91o
variable {g : pm_G} {d : Nat} {Q : pm_Po} {S : pm_SS} {I : pm_MI} {J : pm_ML}
def cvL (L : List plT) (p : Nat) : Int64 := match L[p]? with
  | some x => x.2.2.2.2
  | none => 0
theorem cvL_at {L : List plT} {p : Nat} {x : plT} (h : L[p]? = some x) : cvL L p = x.2.2.2.2 := by unfold cvL; rw [h]
theorem plH_cv {L : List plT} (h : plH I J L) {p : Nat} (hp : p < L.length) : J 108 p = cvL L p := by
  have e := List.getElem?_eq_getElem hp
  rw [cvL_at e]
  exact (h.2 p _ e).2.2.2.2
theorem clH_cv {L : List plT} (h : clH I J L) {p : Nat} (hp : p < L.length) : J 48 p = cvL L p := by
  have e := List.getElem?_eq_getElem hp
  rw [cvL_at e]
  exact (h.2 p _ e).2.2.2.2
theorem plH_cg {L : List plT} {I2 : pm_MI} {J2 : pm_ML} (h : plH I J L) (h1 : ∀ a, 104 ≤ a → a ≤ 107 → I2 a = I a) (h2 : I2 68 52 = I 68 52) (h3 : J2 108 = J 108) : plH I2 J2 L := by
  unfold plH at h ⊢
  rw [h1 104 (by omega) (by omega), h1 105 (by omega) (by omega), h1 106 (by omega) (by omega), h1 107 (by omega) (by omega), h2, h3]
  exact h
theorem frM.W {I2 I3 : pm_MI} (h : frM I I2) (h2 : frW I2 I3) : frM I I3 := ⟨fun a p1 p2 => (h2.1 a p1 (by omega) (by omega)).trans (h.1 a p1 p2), fun j p1 p2 p3 p4 => (h2.2 j p2 p3 p4).trans (h.2 j p1 p2 p3 p4)⟩
set_option maxHeartbeats 4000000 in
theorem m_seekCause {n N Ty R ms : Nat} {t : Int32} (hd : 8 ≤ d) (w : wld I n N Ty) (wr : rpW I N R) (e47 : I 68 47 = nI R) (e100 : I 100 = I 38) (e101 : I 101 = I 39) (e102 : I 102 = I 40) (e103 : I 103 = I 41) (hQ : ∀ I' J' (st : mdT), frM I I' → frMJ J J' → plH I' J' (plL I n N) → J' 68 58 = ndI I t R → (∀ j, j < 60 → I' 109 j = nI (nhI I t R j)) → st.1 = 0 → (∀ k, k < 60 → st.2.2.2.2 k = 0) → mdH I' N (fiS (plL I n N).length (wgT (cvL (plL I n N)) (ndI I t R) ms (moI I t R)) st) → (0 < (fiS (plL I n N).length (wgT (cvL (plL I n N)) (ndI I t R) ms (moI I t R)) st).1 → Q (some (.int 1)) SH I' J') ∧ (¬ 0 < (fiS (plL I n N).length (wgT (cvL (plL I n N)) (ndI I t R) ms (moI I t R)) st).1 → Q (some (.int 0)) SH I' J')) : pm_C g d 258 [.ref 68, .int t, .int (nI ms)] Q SH I J := by
  have hN : N ≤ 30 := w.2.1.2
  have hn : n ≤ 40 := w.1.2.1
  have hLen : (plL I n N).length ≤ 160 := plL_len hn hN
  have hN38 : I 68 38 = nI N := w.2.2.1.2.1
  obtain ⟨w1, hR, w3⟩ := wr
  have hf : ∀ i, i < R → fcI I i < 2 * N := fun i hi => (w3 i hi).1.2
  -- behind the reports
  have ph9 : ∀ I2 J2 z3 z4, frM I I2 → frMJ J J2 → plH I2 J2 (plL I n N) → J2 68 58 = ndI I t R → (∀ j, j < 60 → I2 109 j = nI (nhI I t R j)) → (∀ j, j < 60 → I2 111 j = 0) → UU g (d - 1) 258 kX12_seekCause (pm_rm d 258) Q 9 [some (.ref 68), some (.int t), some (.int (nI ms)), z3, z4, none, none, none] [] SH I2 J2 (0, 0) := by
    intro I2 J2 z3 z4 f1 f2 f3 f4 f5 f6
    have hE : smE I2 J2 N (plL I n N).length (cvL (plL I n N)) (ndI I t R) (moI I t R) := ⟨⟨by rw [f1.2 38 (by decide) (by decide) (by decide) (by decide)]; exact hN38, hN⟩, ⟨f3.1, hLen⟩, fun p hp => plH_cv f3 hp, f4, fun x => mo_eq (fun j hj => f5 j (by omega)) hf x⟩
    exact m_seek9 (by omega) hE (fun I' r1 r2 => hQ I' J2 _ (f1.W r1) f2 (plH_cg f3 (fun a h1 h2 => r1.1 a (by omega) (by omega) (by omega)) (r1.2 52 (by decide) (by decide) (by decide)) rfl) f4 (fun j hj => by rw [r1.1 109 (by decide) (by decide) (by decide)]; exact f5 j hj) rfl f6 r2)
  clear hQ
  have ph3 : ∀ I2 J2, frM I I2 → frMJ J J2 → plH I2 J2 (plL I n N) → J2 68 58 = 0 → (∀ j, j < 60 → I2 109 j = 0) → (∀ j, j < 60 → I2 111 j = 0) → UU g (d - 1) 258 kX12_seekCause (pm_rm d 258) Q 3 [some (.ref 68), some (.int t), some (.int (nI ms)), some (.int 0), none, none, none, none] [] SH I2 J2 (0, 0) := by
    intro I2 J2 f1 f2 f3 f4 f5 f6
    refine lp (α := pm_MI × pm_ML) (U := fun k a => ∀ z4, UU g (d - 1) 258 kX12_seekCause (pm_rm d 258) Q 3 [some (.ref 68), some (.int t), some (.int (nI ms)), some (.int (nI k)), z4, none, none, none] [] SH a.1 a.2 (0, 0)) (fun k a => (frM I a.1 ∧ frMJ J a.2 ∧ plH a.1 a.2 (plL I n N)) ∧ a.2 68 58 = ndI I t k ∧ (∀ j, j < 60 → a.1 109 j = nI (nhI I t k j)) ∧ ∀ j, j < 60 → a.1 111 j = 0) R (fun k a hk hP w2 => ?_) (fun a hP => ?_) (a := (I2, J2)) ⟨⟨f1, f2, f3⟩, f4, f5, f6⟩ none
    · intro z4
      clear f1 f2 f3 f4 f5 f6
      obtain ⟨I3, J3⟩ := a
      obtain ⟨⟨p1, p2, p3⟩, p4, p5, p6⟩ := hP
      have p1 : frM I I3 := p1
      have p2 : frMJ J J3 := p2
      have p3 : plH I3 J3 _ := p3
      have p4 : J3 68 58 = ndI I t k := p4
      have p5 : ∀ j, j < 60 → I3 109 j = nI (nhI I t k j) := p5
      have p6 : ∀ j, j < 60 → I3 111 j = 0 := p6
      obtain ⟨⟨c1, c2⟩, c3⟩ := w3 k hk
      have k47 : I3 68 47 = nI R := by rw [p1.2 47 (by decide) (by decide) (by decide) (by decide)]; exact e47
      have k100 : I3 100 k = I 38 k := by rw [p1.1 100 (by decide) (by decide), e100]
      have k101 : I3 101 k = I 39 k := by rw [p1.1 101 (by decide) (by decide), e101]
      have k102 : I3 102 k = I 40 k := by rw [p1.1 102 (by decide) (by decide), e102]
      have k103 : I3 103 k = I 41 k := by rw [p1.1 103 (by decide) (by decide), e103]
      have k109 := p5 (fcI I k) (by omega)
      have ndS : ndI I t (k + 1) = if I 40 k = t ∧ I 41 k = 1 then ndI I t k ||| bitL (fcI I k) else ndI I t k := rfl
      have nhS : ∀ j, nhI I t (k + 1) j = nhI I t k j + (decide ((I 40 k = t ∧ I 41 k = 0) ∧ fcI I k = j)).toNat := fun j => rfl
      have hpl : ∀ X Y, plH (pm_up I3 109 (fcI I k) X) (pm_upL J3 68 58 Y) (plL I n N) := fun X Y => plH_cg p3 (fun a h1 h2 => pm_up_o (by omega)) (by rw [pm_up_o (by decide)]) (pm_upL_o (by decide))
      by_cases ht : I 40 k = t
      · rcases c3 with h0 | h1
        · have hne : ¬ I 41 k = 1 := by rw [h0]; decide
          have g4 : pm_upL J3 68 58 (ndI I t k ||| 0) 68 58 = ndI I t (k + 1) := by rw [pm_upL_s, ndS, if_neg (fun z => hne z.2), l_or0]
          have g5 : ∀ j, j < 60 → pm_up I3 109 (fcI I k) (nI (nhI I t k (fcI I k) + 1)) 109 j = nI (nhI I t (k + 1) j) := fun j hj => by
            rw [nhS]
            by_cases z : j = fcI I k
            · rw [z, pm_up_s, decide_eq_true ⟨⟨ht, h0⟩, rfl⟩]
              rfl
            · rw [pm_up_n z, p5 j hj, decide_eq_false (fun y => z y.2.symm)]
              rfl
          have g6 : ∀ j, j < 60 → pm_up I3 109 (fcI I k) (nI (nhI I t k (fcI I k) + 1)) 111 j = 0 := fun j hj => by rw [pm_up_o (by decide)]; exact p6 j hj
          have w9 := w2 (pm_up I3 109 (fcI I k) (nI (nhI I t k (fcI I k) + 1)), pm_upL J3 68 58 (ndI I t k ||| 0)) ⟨⟨p1.up (by omega), p2.fl, hpl _ _⟩, g4, g5, g6⟩ (some (.int (nI (fcI I k))))
          clear g4 g5 g6
          clear w2 p3 p5 p6 ph9 w3 hf w ndS nhS hpl
          refine bX12_seekCause_3 ?_
          simp (disch := first | omega | decide) only [w_nl0, w_nli, w_nlr, ↓w_ts1, ↓w_ts0, w_rcv, w_rfv, w_cs, true_and, and_true, List.length_nil, List.length_cons, Nat.reduceAdd, Nat.reduceLeDiff, Nat.zero_le, Nat.reduceLT, ↓w_nil, ix_nI, nI_leP, nI_ltP, nI_eqP, nI_1, ↓i_inN, i_inN, l_le, l_lt, l_eq, r_le, r_lt, r_eq, sh68_0, sh68_1, sh68_2, sh68_3, sh68_4, ↓w_iload_3, ↓w_aload_0, ↓w_gf0, ↓w_icge, ↓w_gf3, ↓w_iaload, ↓w_iload_1, ↓w_icne, ↓w_iconst, ↓w_imul, ↓w_iadd, ↓w_istore_4, ↓w_dup_i, ↓w_dup_r, ↓w_gf1, ↓w_baload, ↓w_ifeq, ↓w_lconst1, ↓w_iload_4, ↓w_lshl, ↓w_goto, k47, k102, k100, k101, k103, c1, h0, p4, bitL_f]
          repeat' (first
            | (apply And.intro)
            | (with_reducible refine bX12_seekCause_4 ?_; simp (disch := first | omega | decide) only [w_nl0, w_nli, w_nlr, ↓w_ts1, ↓w_ts0, w_rcv, w_rfv, w_cs, true_and, and_true, List.length_nil, List.length_cons, Nat.reduceAdd, Nat.reduceLeDiff, Nat.zero_le, Nat.reduceLT, ↓w_nil, ix_nI, nI_leP, nI_ltP, nI_eqP, nI_1, ↓i_inN, i_inN, l_le, l_lt, l_eq, r_le, r_lt, r_eq, sh68_0, sh68_1, sh68_2, sh68_3, sh68_4, ↓w_aload_0, ↓w_iv, ↓pm_cl2_1, ↓w_lconst0, ↓w_pf1, ↓w_iconst, ↓w_istore_3, ↓w_iload_3, ↓w_bipush, ↓w_icge, ↓w_gf3, ↓w_iastore, ↓w_iinc_3, ↓w_goto, ↓w_gf0, ↓w_iaload, ↓w_iload_1, ↓w_icne, ↓w_imul, ↓w_iadd, ↓w_istore_4, ↓w_dup_i, ↓w_dup_r, ↓w_gf1, ↓w_baload, ↓w_ifeq, ↓w_lconst1, ↓w_iload_4, ↓w_lshl, ↓w_lor, ↓w_dup2, ↓w_pf0, ↓w_iload_2, ↓pm_cl2_6, ↓w_iinc_4, ↓w_laload, ↓w_lstore_5, ↓w_istore_7, ↓w_iload_7, ↓w_lload_5, ↓w_ldc2_17, ↓w_lxor, ↓w_land, ↓w_lcmp, ↓w_ifne, ↓w_iinc_7, ↓w_ifle, ↓w_zret, k103, h0, p4, k109, bitL_f, c1])
            | (with_reducible refine bX12_seekCause_5 ?_; simp (disch := first | omega | decide) only [w_nl0, w_nli, w_nlr, ↓w_ts1, ↓w_ts0, w_rcv, w_rfv, w_cs, true_and, and_true, List.length_nil, List.length_cons, Nat.reduceAdd, Nat.reduceLeDiff, Nat.zero_le, Nat.reduceLT, ↓w_nil, ix_nI, nI_leP, nI_ltP, nI_eqP, nI_1, ↓i_inN, i_inN, l_le, l_lt, l_eq, r_le, r_lt, r_eq, sh68_0, sh68_1, sh68_2, sh68_3, sh68_4, ↓w_aload_0, ↓w_iv, ↓pm_cl2_1, ↓w_lconst0, ↓w_pf1, ↓w_iconst, ↓w_istore_3, ↓w_iload_3, ↓w_bipush, ↓w_icge, ↓w_gf3, ↓w_iastore, ↓w_iinc_3, ↓w_goto, ↓w_gf0, ↓w_iaload, ↓w_iload_1, ↓w_icne, ↓w_imul, ↓w_iadd, ↓w_istore_4, ↓w_dup_i, ↓w_dup_r, ↓w_gf1, ↓w_baload, ↓w_ifeq, ↓w_lconst1, ↓w_iload_4, ↓w_lshl, ↓w_lor, ↓w_dup2, ↓w_pf0, ↓w_iload_2, ↓pm_cl2_6, ↓w_iinc_4, ↓w_laload, ↓w_lstore_5, ↓w_istore_7, ↓w_iload_7, ↓w_lload_5, ↓w_ldc2_17, ↓w_lxor, ↓w_land, ↓w_lcmp, ↓w_ifne, ↓w_iinc_7, ↓w_ifle, ↓w_zret, k103, h0, p4, k109, bitL_f, c1])
            | (with_reducible refine bX12_seekCause_6 ?_; simp (disch := first | omega | decide) only [w_nl0, w_nli, w_nlr, ↓w_ts1, ↓w_ts0, w_rcv, w_rfv, w_cs, true_and, and_true, List.length_nil, List.length_cons, Nat.reduceAdd, Nat.reduceLeDiff, Nat.zero_le, Nat.reduceLT, ↓w_nil, ix_nI, nI_leP, nI_ltP, nI_eqP, nI_1, ↓i_inN, i_inN, l_le, l_lt, l_eq, r_le, r_lt, r_eq, sh68_0, sh68_1, sh68_2, sh68_3, sh68_4, ↓w_aload_0, ↓w_iv, ↓pm_cl2_1, ↓w_lconst0, ↓w_pf1, ↓w_iconst, ↓w_istore_3, ↓w_iload_3, ↓w_bipush, ↓w_icge, ↓w_gf3, ↓w_iastore, ↓w_iinc_3, ↓w_goto, ↓w_gf0, ↓w_iaload, ↓w_iload_1, ↓w_icne, ↓w_imul, ↓w_iadd, ↓w_istore_4, ↓w_dup_i, ↓w_dup_r, ↓w_gf1, ↓w_baload, ↓w_ifeq, ↓w_lconst1, ↓w_iload_4, ↓w_lshl, ↓w_lor, ↓w_dup2, ↓w_pf0, ↓w_iload_2, ↓pm_cl2_6, ↓w_iinc_4, ↓w_laload, ↓w_lstore_5, ↓w_istore_7, ↓w_iload_7, ↓w_lload_5, ↓w_ldc2_17, ↓w_lxor, ↓w_land, ↓w_lcmp, ↓w_ifne, ↓w_iinc_7, ↓w_ifle, ↓w_zret, k103, h0, p4, k109, bitL_f, c1])
            | (with_reducible refine bX12_seekCause_7 ?_; simp (disch := first | omega | decide) only [w_nl0, w_nli, w_nlr, ↓w_ts1, ↓w_ts0, w_rcv, w_rfv, w_cs, true_and, and_true, List.length_nil, List.length_cons, Nat.reduceAdd, Nat.reduceLeDiff, Nat.zero_le, Nat.reduceLT, ↓w_nil, ix_nI, nI_leP, nI_ltP, nI_eqP, nI_1, ↓i_inN, i_inN, l_le, l_lt, l_eq, r_le, r_lt, r_eq, sh68_0, sh68_1, sh68_2, sh68_3, sh68_4, ↓w_aload_0, ↓w_iv, ↓pm_cl2_1, ↓w_lconst0, ↓w_pf1, ↓w_iconst, ↓w_istore_3, ↓w_iload_3, ↓w_bipush, ↓w_icge, ↓w_gf3, ↓w_iastore, ↓w_iinc_3, ↓w_goto, ↓w_gf0, ↓w_iaload, ↓w_iload_1, ↓w_icne, ↓w_imul, ↓w_iadd, ↓w_istore_4, ↓w_dup_i, ↓w_dup_r, ↓w_gf1, ↓w_baload, ↓w_ifeq, ↓w_lconst1, ↓w_iload_4, ↓w_lshl, ↓w_lor, ↓w_dup2, ↓w_pf0, ↓w_iload_2, ↓pm_cl2_6, ↓w_iinc_4, ↓w_laload, ↓w_lstore_5, ↓w_istore_7, ↓w_iload_7, ↓w_lload_5, ↓w_ldc2_17, ↓w_lxor, ↓w_land, ↓w_lcmp, ↓w_ifne, ↓w_iinc_7, ↓w_ifle, ↓w_zret, k103, h0, p4, k109, bitL_f, c1])
            | (with_reducible refine bX12_seekCause_8 ?_; simp (disch := first | omega | decide) only [w_nl0, w_nli, w_nlr, ↓w_ts1, ↓w_ts0, w_rcv, w_rfv, w_cs, true_and, and_true, List.length_nil, List.length_cons, Nat.reduceAdd, Nat.reduceLeDiff, Nat.zero_le, Nat.reduceLT, ↓w_nil, ix_nI, nI_leP, nI_ltP, nI_eqP, nI_1, ↓i_inN, i_inN, l_le, l_lt, l_eq, r_le, r_lt, r_eq, sh68_0, sh68_1, sh68_2, sh68_3, sh68_4, ↓w_aload_0, ↓w_iv, ↓pm_cl2_1, ↓w_lconst0, ↓w_pf1, ↓w_iconst, ↓w_istore_3, ↓w_iload_3, ↓w_bipush, ↓w_icge, ↓w_gf3, ↓w_iastore, ↓w_iinc_3, ↓w_goto, ↓w_gf0, ↓w_iaload, ↓w_iload_1, ↓w_icne, ↓w_imul, ↓w_iadd, ↓w_istore_4, ↓w_dup_i, ↓w_dup_r, ↓w_gf1, ↓w_baload, ↓w_ifeq, ↓w_lconst1, ↓w_iload_4, ↓w_lshl, ↓w_lor, ↓w_dup2, ↓w_pf0, ↓w_iload_2, ↓pm_cl2_6, ↓w_iinc_4, ↓w_laload, ↓w_lstore_5, ↓w_istore_7, ↓w_iload_7, ↓w_lload_5, ↓w_ldc2_17, ↓w_lxor, ↓w_land, ↓w_lcmp, ↓w_ifne, ↓w_iinc_7, ↓w_ifle, ↓w_zret, k103, h0, p4, k109, bitL_f, c1])
            | (simp only [w_in])
            | (intro _))
          all_goals first | (with_reducible exact w9) | omega | grind
        · have hne : ¬ I 41 k = 0 := by rw [h1]; decide
          have g4 : pm_upL J3 68 58 (ndI I t k ||| bitL (fcI I k)) 68 58 = ndI I t (k + 1) := by rw [pm_upL_s, ndS, if_pos ⟨ht, h1⟩]
          have g5 : ∀ j, j < 60 → pm_up I3 109 (fcI I k) (nI (nhI I t k (fcI I k)) + 0) 109 j = nI (nhI I t (k + 1) j) := fun j hj => by
            rw [nhS, decide_eq_false (fun y => hne y.1.2)]
            by_cases z : j = fcI I k
            · rw [z, pm_up_s, Int32.add_zero]
              rfl
            · rw [pm_up_n z, p5 j hj]
              rfl
          have g6 : ∀ j, j < 60 → pm_up I3 109 (fcI I k) (nI (nhI I t k (fcI I k)) + 0) 111 j = 0 := fun j hj => by rw [pm_up_o (by decide)]; exact p6 j hj
          have w9 := w2 (pm_up I3 109 (fcI I k) (nI (nhI I t k (fcI I k)) + 0), pm_upL J3 68 58 (ndI I t k ||| bitL (fcI I k))) ⟨⟨p1.up (by omega), p2.fl, hpl _ _⟩, g4, g5, g6⟩ (some (.int (nI (fcI I k))))
          clear g4 g5 g6
          clear w2 p3 p5 p6 ph9 w3 hf w ndS nhS hpl
          refine bX12_seekCause_3 ?_
          simp (disch := first | omega | decide) only [w_nl0, w_nli, w_nlr, ↓w_ts1, ↓w_ts0, w_rcv, w_rfv, w_cs, true_and, and_true, List.length_nil, List.length_cons, Nat.reduceAdd, Nat.reduceLeDiff, Nat.zero_le, Nat.reduceLT, ↓w_nil, ix_nI, nI_leP, nI_ltP, nI_eqP, nI_1, ↓i_inN, i_inN, l_le, l_lt, l_eq, r_le, r_lt, r_eq, sh68_0, sh68_1, sh68_2, sh68_3, sh68_4, ↓w_iload_3, ↓w_aload_0, ↓w_gf0, ↓w_icge, ↓w_gf3, ↓w_iaload, ↓w_iload_1, ↓w_icne, ↓w_iconst, ↓w_imul, ↓w_iadd, ↓w_istore_4, ↓w_dup_i, ↓w_dup_r, ↓w_gf1, ↓w_baload, ↓w_ifeq, ↓w_lconst1, ↓w_iload_4, ↓w_lshl, ↓w_goto, k47, k102, k100, k101, k103, c1, h1, p4, bitL_f]
          repeat' (first
            | (apply And.intro)
            | (with_reducible refine bX12_seekCause_4 ?_; simp (disch := first | omega | decide) only [w_nl0, w_nli, w_nlr, ↓w_ts1, ↓w_ts0, w_rcv, w_rfv, w_cs, true_and, and_true, List.length_nil, List.length_cons, Nat.reduceAdd, Nat.reduceLeDiff, Nat.zero_le, Nat.reduceLT, ↓w_nil, ix_nI, nI_leP, nI_ltP, nI_eqP, nI_1, ↓i_inN, i_inN, l_le, l_lt, l_eq, r_le, r_lt, r_eq, sh68_0, sh68_1, sh68_2, sh68_3, sh68_4, ↓w_aload_0, ↓w_iv, ↓pm_cl2_1, ↓w_lconst0, ↓w_pf1, ↓w_iconst, ↓w_istore_3, ↓w_iload_3, ↓w_bipush, ↓w_icge, ↓w_gf3, ↓w_iastore, ↓w_iinc_3, ↓w_goto, ↓w_gf0, ↓w_iaload, ↓w_iload_1, ↓w_icne, ↓w_imul, ↓w_iadd, ↓w_istore_4, ↓w_dup_i, ↓w_dup_r, ↓w_gf1, ↓w_baload, ↓w_ifeq, ↓w_lconst1, ↓w_iload_4, ↓w_lshl, ↓w_lor, ↓w_dup2, ↓w_pf0, ↓w_iload_2, ↓pm_cl2_6, ↓w_iinc_4, ↓w_laload, ↓w_lstore_5, ↓w_istore_7, ↓w_iload_7, ↓w_lload_5, ↓w_ldc2_17, ↓w_lxor, ↓w_land, ↓w_lcmp, ↓w_ifne, ↓w_iinc_7, ↓w_ifle, ↓w_zret, k103, h1, p4, k109, bitL_f, c1])
            | (with_reducible refine bX12_seekCause_5 ?_; simp (disch := first | omega | decide) only [w_nl0, w_nli, w_nlr, ↓w_ts1, ↓w_ts0, w_rcv, w_rfv, w_cs, true_and, and_true, List.length_nil, List.length_cons, Nat.reduceAdd, Nat.reduceLeDiff, Nat.zero_le, Nat.reduceLT, ↓w_nil, ix_nI, nI_leP, nI_ltP, nI_eqP, nI_1, ↓i_inN, i_inN, l_le, l_lt, l_eq, r_le, r_lt, r_eq, sh68_0, sh68_1, sh68_2, sh68_3, sh68_4, ↓w_aload_0, ↓w_iv, ↓pm_cl2_1, ↓w_lconst0, ↓w_pf1, ↓w_iconst, ↓w_istore_3, ↓w_iload_3, ↓w_bipush, ↓w_icge, ↓w_gf3, ↓w_iastore, ↓w_iinc_3, ↓w_goto, ↓w_gf0, ↓w_iaload, ↓w_iload_1, ↓w_icne, ↓w_imul, ↓w_iadd, ↓w_istore_4, ↓w_dup_i, ↓w_dup_r, ↓w_gf1, ↓w_baload, ↓w_ifeq, ↓w_lconst1, ↓w_iload_4, ↓w_lshl, ↓w_lor, ↓w_dup2, ↓w_pf0, ↓w_iload_2, ↓pm_cl2_6, ↓w_iinc_4, ↓w_laload, ↓w_lstore_5, ↓w_istore_7, ↓w_iload_7, ↓w_lload_5, ↓w_ldc2_17, ↓w_lxor, ↓w_land, ↓w_lcmp, ↓w_ifne, ↓w_iinc_7, ↓w_ifle, ↓w_zret, k103, h1, p4, k109, bitL_f, c1])
            | (with_reducible refine bX12_seekCause_6 ?_; simp (disch := first | omega | decide) only [w_nl0, w_nli, w_nlr, ↓w_ts1, ↓w_ts0, w_rcv, w_rfv, w_cs, true_and, and_true, List.length_nil, List.length_cons, Nat.reduceAdd, Nat.reduceLeDiff, Nat.zero_le, Nat.reduceLT, ↓w_nil, ix_nI, nI_leP, nI_ltP, nI_eqP, nI_1, ↓i_inN, i_inN, l_le, l_lt, l_eq, r_le, r_lt, r_eq, sh68_0, sh68_1, sh68_2, sh68_3, sh68_4, ↓w_aload_0, ↓w_iv, ↓pm_cl2_1, ↓w_lconst0, ↓w_pf1, ↓w_iconst, ↓w_istore_3, ↓w_iload_3, ↓w_bipush, ↓w_icge, ↓w_gf3, ↓w_iastore, ↓w_iinc_3, ↓w_goto, ↓w_gf0, ↓w_iaload, ↓w_iload_1, ↓w_icne, ↓w_imul, ↓w_iadd, ↓w_istore_4, ↓w_dup_i, ↓w_dup_r, ↓w_gf1, ↓w_baload, ↓w_ifeq, ↓w_lconst1, ↓w_iload_4, ↓w_lshl, ↓w_lor, ↓w_dup2, ↓w_pf0, ↓w_iload_2, ↓pm_cl2_6, ↓w_iinc_4, ↓w_laload, ↓w_lstore_5, ↓w_istore_7, ↓w_iload_7, ↓w_lload_5, ↓w_ldc2_17, ↓w_lxor, ↓w_land, ↓w_lcmp, ↓w_ifne, ↓w_iinc_7, ↓w_ifle, ↓w_zret, k103, h1, p4, k109, bitL_f, c1])
            | (with_reducible refine bX12_seekCause_7 ?_; simp (disch := first | omega | decide) only [w_nl0, w_nli, w_nlr, ↓w_ts1, ↓w_ts0, w_rcv, w_rfv, w_cs, true_and, and_true, List.length_nil, List.length_cons, Nat.reduceAdd, Nat.reduceLeDiff, Nat.zero_le, Nat.reduceLT, ↓w_nil, ix_nI, nI_leP, nI_ltP, nI_eqP, nI_1, ↓i_inN, i_inN, l_le, l_lt, l_eq, r_le, r_lt, r_eq, sh68_0, sh68_1, sh68_2, sh68_3, sh68_4, ↓w_aload_0, ↓w_iv, ↓pm_cl2_1, ↓w_lconst0, ↓w_pf1, ↓w_iconst, ↓w_istore_3, ↓w_iload_3, ↓w_bipush, ↓w_icge, ↓w_gf3, ↓w_iastore, ↓w_iinc_3, ↓w_goto, ↓w_gf0, ↓w_iaload, ↓w_iload_1, ↓w_icne, ↓w_imul, ↓w_iadd, ↓w_istore_4, ↓w_dup_i, ↓w_dup_r, ↓w_gf1, ↓w_baload, ↓w_ifeq, ↓w_lconst1, ↓w_iload_4, ↓w_lshl, ↓w_lor, ↓w_dup2, ↓w_pf0, ↓w_iload_2, ↓pm_cl2_6, ↓w_iinc_4, ↓w_laload, ↓w_lstore_5, ↓w_istore_7, ↓w_iload_7, ↓w_lload_5, ↓w_ldc2_17, ↓w_lxor, ↓w_land, ↓w_lcmp, ↓w_ifne, ↓w_iinc_7, ↓w_ifle, ↓w_zret, k103, h1, p4, k109, bitL_f, c1])
            | (with_reducible refine bX12_seekCause_8 ?_; simp (disch := first | omega | decide) only [w_nl0, w_nli, w_nlr, ↓w_ts1, ↓w_ts0, w_rcv, w_rfv, w_cs, true_and, and_true, List.length_nil, List.length_cons, Nat.reduceAdd, Nat.reduceLeDiff, Nat.zero_le, Nat.reduceLT, ↓w_nil, ix_nI, nI_leP, nI_ltP, nI_eqP, nI_1, ↓i_inN, i_inN, l_le, l_lt, l_eq, r_le, r_lt, r_eq, sh68_0, sh68_1, sh68_2, sh68_3, sh68_4, ↓w_aload_0, ↓w_iv, ↓pm_cl2_1, ↓w_lconst0, ↓w_pf1, ↓w_iconst, ↓w_istore_3, ↓w_iload_3, ↓w_bipush, ↓w_icge, ↓w_gf3, ↓w_iastore, ↓w_iinc_3, ↓w_goto, ↓w_gf0, ↓w_iaload, ↓w_iload_1, ↓w_icne, ↓w_imul, ↓w_iadd, ↓w_istore_4, ↓w_dup_i, ↓w_dup_r, ↓w_gf1, ↓w_baload, ↓w_ifeq, ↓w_lconst1, ↓w_iload_4, ↓w_lshl, ↓w_lor, ↓w_dup2, ↓w_pf0, ↓w_iload_2, ↓pm_cl2_6, ↓w_iinc_4, ↓w_laload, ↓w_lstore_5, ↓w_istore_7, ↓w_iload_7, ↓w_lload_5, ↓w_ldc2_17, ↓w_lxor, ↓w_land, ↓w_lcmp, ↓w_ifne, ↓w_iinc_7, ↓w_ifle, ↓w_zret, k103, h1, p4, k109, bitL_f, c1])
            | (simp only [w_in])
            | (intro _))
          all_goals first | (with_reducible exact w9) | omega | grind
      · have w9 := w2 (I3, J3) ⟨⟨p1, p2, p3⟩, by
          show J3 68 58 = _
          rw [ndS, if_neg (fun z => ht z.1)]; exact p4, fun j hj => by
          show I3 109 j = _
          rw [nhS, decide_eq_false (fun y => ht y.1.1)]; exact p5 j hj, p6⟩ z4
        clear w2 p3 p5 p6 ph9 w3 hf w ndS nhS hpl
        refine bX12_seekCause_3 ?_
        simp (disch := first | omega | decide) only [w_nl0, w_nli, w_nlr, ↓w_ts1, ↓w_ts0, w_rcv, w_rfv, w_cs, true_and, and_true, List.length_nil, List.length_cons, Nat.reduceAdd, Nat.reduceLeDiff, Nat.zero_le, Nat.reduceLT, ↓w_nil, ix_nI, nI_leP, nI_ltP, nI_eqP, nI_1, ↓i_inN, i_inN, l_le, l_lt, l_eq, r_le, r_lt, r_eq, sh68_0, sh68_1, sh68_2, sh68_3, sh68_4, ↓w_iload_3, ↓w_aload_0, ↓w_gf0, ↓w_icge, ↓w_gf3, ↓w_iaload, ↓w_iload_1, ↓w_icne, ↓w_iconst, ↓w_imul, ↓w_iadd, ↓w_istore_4, ↓w_dup_i, ↓w_dup_r, ↓w_gf1, ↓w_baload, ↓w_ifeq, ↓w_lconst1, ↓w_iload_4, ↓w_lshl, ↓w_goto, k47, k102]
        repeat' (first
          | (apply And.intro)
          | (with_reducible refine bX12_seekCause_8 ?_; simp (disch := first | omega | decide) only [w_nl0, w_nli, w_nlr, ↓w_ts1, ↓w_ts0, w_rcv, w_rfv, w_cs, true_and, and_true, List.length_nil, List.length_cons, Nat.reduceAdd, Nat.reduceLeDiff, Nat.zero_le, Nat.reduceLT, ↓w_nil, ix_nI, nI_leP, nI_ltP, nI_eqP, nI_1, ↓i_inN, i_inN, l_le, l_lt, l_eq, r_le, r_lt, r_eq, sh68_0, sh68_1, sh68_2, sh68_3, sh68_4, ↓w_aload_0, ↓w_iv, ↓pm_cl2_1, ↓w_lconst0, ↓w_pf1, ↓w_iconst, ↓w_istore_3, ↓w_iload_3, ↓w_bipush, ↓w_icge, ↓w_gf3, ↓w_iastore, ↓w_iinc_3, ↓w_goto, ↓w_gf0, ↓w_iaload, ↓w_iload_1, ↓w_icne, ↓w_imul, ↓w_iadd, ↓w_istore_4, ↓w_dup_i, ↓w_dup_r, ↓w_gf1, ↓w_baload, ↓w_ifeq, ↓w_lconst1, ↓w_iload_4, ↓w_lshl, ↓w_lor, ↓w_dup2, ↓w_pf0, ↓w_iload_2, ↓pm_cl2_6, ↓w_iinc_4, ↓w_laload, ↓w_lstore_5, ↓w_istore_7, ↓w_iload_7, ↓w_lload_5, ↓w_ldc2_17, ↓w_lxor, ↓w_land, ↓w_lcmp, ↓w_ifne, ↓w_iinc_7, ↓w_ifle, ↓w_zret, k102])
          | (simp only [w_in])
          | (intro _))
        all_goals first | (with_reducible exact w9) | omega | grind
    · intro z4
      clear f1 f2 f3 f4 f5 f6
      obtain ⟨I3, J3⟩ := a
      obtain ⟨⟨p1, p2, p3⟩, p4, p5, p6⟩ := hP
      have p1 : frM I I3 := p1
      have w9 := ph9 I3 J3 (some (.int (nI R))) z4 p1 p2 p3 p4 p5 p6
      have k47 : I3 68 47 = nI R := by rw [p1.2 47 (by decide) (by decide) (by decide) (by decide)]; exact e47
      clear p3 p5 p6 ph9 w3 hf w
      refine bX12_seekCause_3 ?_
      simp (disch := first | omega | decide) only [w_nl0, w_nli, w_nlr, ↓w_ts1, ↓w_ts0, w_rcv, w_rfv, w_cs, true_and, and_true, List.length_nil, List.length_cons, Nat.reduceAdd, Nat.reduceLeDiff, Nat.zero_le, Nat.reduceLT, ↓w_nil, ix_nI, nI_leP, nI_ltP, nI_eqP, nI_1, ↓i_inN, i_inN, l_le, l_lt, l_eq, r_le, r_lt, r_eq, sh68_0, sh68_1, sh68_2, sh68_3, sh68_4, ↓w_iload_3, ↓w_aload_0, ↓w_gf0, ↓w_icge, ↓w_gf3, ↓w_iaload, ↓w_iload_1, ↓w_icne, ↓w_iconst, ↓w_imul, ↓w_iadd, ↓w_istore_4, ↓w_dup_i, ↓w_dup_r, ↓w_gf1, ↓w_baload, ↓w_ifeq, ↓w_lconst1, ↓w_iload_4, ↓w_lshl, ↓w_goto, k47]
      repeat' (first
        | (apply And.intro)
        | (simp only [w_in])
        | (intro _))
      all_goals first | (with_reducible exact w9) | omega | grind
  clear ph9 w3 hf
  have ph1 : ∀ I2 J2, frM I I2 → frMJ J J2 → plH I2 J2 (plL I n N) → J2 68 58 = 0 → UU g (d - 1) 258 kX12_seekCause (pm_rm d 258) Q 1 [some (.ref 68), some (.int t), some (.int (nI ms)), some (.int 0), none, none, none, none] [] SH I2 J2 (0, 0) := by
    intro I2 J2 f1 f2 f3 f4
    refine lp (α := pm_MI) (U := fun k I3 => UU g (d - 1) 258 kX12_seekCause (pm_rm d 258) Q 1 [some (.ref 68), some (.int t), some (.int (nI ms)), some (.int (nI k)), none, none, none, none] [] SH I3 J2 (0, 0)) (fun k I3 => (frM I I3 ∧ plH I3 J2 (plL I n N)) ∧ (∀ j, j < k → I3 109 j = 0) ∧ ∀ j, j < k → I3 111 j = 0) 60 (fun k I3 hk hP w2 => ?_) (fun I3 hP => ?_) (a := I2) ⟨⟨f1, f3⟩, fun j hj => by omega, fun j hj => by omega⟩
    · obtain ⟨⟨p1, p3⟩, p5, p6⟩ := hP
      have w9 := w2 (pm_up (pm_up I3 109 k 0) 111 k 0) ⟨⟨(p1.up (by omega)).up (by omega), plH_cg p3 (fun a h1 h2 => by rw [pm_up_o (by omega), pm_up_o (by omega)]) (by rw [pm_up_o (by decide), pm_up_o (by decide)]) rfl⟩, fun j hj => by
        rw [pm_up_o (by decide)]
        by_cases z : j = k
        · rw [z, pm_up_s]
        · rw [pm_up_n z]; exact p5 j (by omega), fun j hj => by
        by_cases z : j = k
        · rw [z, pm_up_s]
        · rw [pm_up_n z, pm_up_o (by decide)]; exact p6 j (by omega)⟩
      clear w2 p3 p5 p6 ph3 w f3
      refine bX12_seekCause_1 ?_
      simp (disch := first | omega | decide) only [w_nl0, w_nli, w_nlr, ↓w_ts1, ↓w_ts0, w_rcv, w_rfv, w_cs, true_and, and_true, List.length_nil, List.length_cons, Nat.reduceAdd, Nat.reduceLeDiff, Nat.zero_le, Nat.reduceLT, ↓w_nil, ix_nI, nI_leP, nI_ltP, nI_eqP, nI_1, ↓i_inN, i_inN, l_le, l_lt, l_eq, r_le, r_lt, r_eq, sh68_0, sh68_1, sh68_2, sh68_3, sh68_4, ↓w_iload_3, ↓w_bipush, ↓w_icge, ↓w_aload_0, ↓w_gf3, ↓w_iconst, ↓w_iastore, ↓w_iinc_3, ↓w_goto]
      repeat' (first
        | (apply And.intro)
        | (simp only [w_in])
        | (intro _))
      all_goals first | (with_reducible exact w9) | omega | grind
    · obtain ⟨⟨p1, p3⟩, p5, p6⟩ := hP
      have w9 := ph3 I3 J2 p1 f2 p3 f4 p5 p6
      clear p3 p5 p6 ph3 w f3
      refine bX12_seekCause_1 ?_
      simp (disch := first | omega | decide) only [w_nl0, w_nli, w_nlr, ↓w_ts1, ↓w_ts0, w_rcv, w_rfv, w_cs, true_and, and_true, List.length_nil, List.length_cons, Nat.reduceAdd, Nat.reduceLeDiff, Nat.zero_le, Nat.reduceLT, ↓w_nil, ix_nI, nI_leP, nI_ltP, nI_eqP, nI_1, ↓i_inN, i_inN, l_le, l_lt, l_eq, r_le, r_lt, r_eq, sh68_0, sh68_1, sh68_2, sh68_3, sh68_4, ↓w_iload_3, ↓w_bipush, ↓w_icge, ↓w_aload_0, ↓w_gf3, ↓w_iconst, ↓w_iastore, ↓w_iinc_3, ↓w_goto]
      repeat' (first
        | (apply And.intro)
        | (with_reducible refine bX12_seekCause_2 ?_; simp (disch := first | omega | decide) only [w_nl0, w_nli, w_nlr, ↓w_ts1, ↓w_ts0, w_rcv, w_rfv, w_cs, true_and, and_true, List.length_nil, List.length_cons, Nat.reduceAdd, Nat.reduceLeDiff, Nat.zero_le, Nat.reduceLT, ↓w_nil, ix_nI, nI_leP, nI_ltP, nI_eqP, nI_1, ↓i_inN, i_inN, l_le, l_lt, l_eq, r_le, r_lt, r_eq, sh68_0, sh68_1, sh68_2, sh68_3, sh68_4, ↓w_aload_0, ↓w_iv, ↓pm_cl2_1, ↓w_lconst0, ↓w_pf1, ↓w_iconst, ↓w_istore_3, ↓w_iload_3, ↓w_bipush, ↓w_icge, ↓w_gf3, ↓w_iastore, ↓w_iinc_3, ↓w_goto, ↓w_gf0, ↓w_iaload, ↓w_iload_1, ↓w_icne, ↓w_imul, ↓w_iadd, ↓w_istore_4, ↓w_dup_i, ↓w_dup_r, ↓w_gf1, ↓w_baload, ↓w_ifeq, ↓w_lconst1, ↓w_iload_4, ↓w_lshl, ↓w_lor, ↓w_dup2, ↓w_pf0, ↓w_iload_2, ↓pm_cl2_6, ↓w_iinc_4, ↓w_laload, ↓w_lstore_5, ↓w_istore_7, ↓w_iload_7, ↓w_lload_5, ↓w_ldc2_17, ↓w_lxor, ↓w_land, ↓w_lcmp, ↓w_ifne, ↓w_iinc_7, ↓w_ifle, ↓w_zret])
        | (simp only [w_in])
        | (intro _))
      all_goals first | (with_reducible exact w9) | omega | grind
  clear ph3
  have hl := fun Q2 d2 hd2 => m_layPlaces (g := g) (Q := Q2) (d := d2) (J := J) hd2 w
  have fin : ∀ I' J', frM I I' → frMJ J J' → plH I' J' (plL I n N) → UU g (d - 1) 258 kX12_seekCause (pm_rm d 258) Q 1 [some (.ref 68), some (.int t), some (.int (nI ms)), some (.int 0), none, none, none, none] [] SH I' (pm_upL J' 68 58 0) (0, 0) := fun I' J' r1 r2 r3 => ph1 I' (pm_upL J' 68 58 0) r1 r2.fl (plH_cg r3 (fun _ _ _ => rfl) rfl (pm_upL_o (by decide))) pm_upL_s
  clear ph1 w
  refine eX12_seekCause (by omega) ?_
  repeat' (first
    | (apply And.intro)
    | (with_reducible refine bX12_seekCause_0 ?_; simp (disch := first | omega | decide) only [w_nl0, w_nli, w_nlr, ↓w_ts1, ↓w_ts0, w_rcv, w_rfv, w_cs, true_and, and_true, List.length_nil, List.length_cons, Nat.reduceAdd, Nat.reduceLeDiff, Nat.zero_le, Nat.reduceLT, ↓w_nil, ix_nI, nI_leP, nI_ltP, nI_eqP, nI_1, ↓i_inN, i_inN, l_le, l_lt, l_eq, r_le, r_lt, r_eq, sh68_0, sh68_1, sh68_2, sh68_3, sh68_4, ↓w_aload_0, ↓w_iv, ↓pm_cl2_1, ↓w_lconst0, ↓w_pf1, ↓w_iconst, ↓w_istore_3, ↓w_iload_3, ↓w_bipush, ↓w_icge, ↓w_gf3, ↓w_iastore, ↓w_iinc_3, ↓w_goto, ↓w_gf0, ↓w_iaload, ↓w_iload_1, ↓w_icne, ↓w_imul, ↓w_iadd, ↓w_istore_4, ↓w_dup_i, ↓w_dup_r, ↓w_gf1, ↓w_baload, ↓w_ifeq, ↓w_lconst1, ↓w_iload_4, ↓w_lshl, ↓w_lor, ↓w_dup2, ↓w_pf0, ↓w_iload_2, ↓pm_cl2_6, ↓w_iinc_4, ↓w_laload, ↓w_lstore_5, ↓w_istore_7, ↓w_iload_7, ↓w_lload_5, ↓w_ldc2_17, ↓w_lxor, ↓w_land, ↓w_lcmp, ↓w_ifne, ↓w_iinc_7, ↓w_ifle, ↓w_zret])
    | (with_reducible refine hl _ _ (by omega) (fun I' J' r1 r2 r3 => ?_) <;> simp (disch := first | omega | decide) only [w_nl0, w_nli, w_nlr, ↓w_ts1, ↓w_ts0, w_rcv, w_rfv, w_cs, true_and, and_true, List.length_nil, List.length_cons, Nat.reduceAdd, Nat.reduceLeDiff, Nat.zero_le, Nat.reduceLT, ↓w_nil, ix_nI, nI_leP, nI_ltP, nI_eqP, nI_1, ↓i_inN, i_inN, l_le, l_lt, l_eq, r_le, r_lt, r_eq, sh68_0, sh68_1, sh68_2, sh68_3, sh68_4, ↓w_aload_0, ↓w_iv, ↓pm_cl2_1, ↓w_lconst0, ↓w_pf1, ↓w_iconst, ↓w_istore_3, ↓w_iload_3, ↓w_bipush, ↓w_icge, ↓w_gf3, ↓w_iastore, ↓w_iinc_3, ↓w_goto, ↓w_gf0, ↓w_iaload, ↓w_iload_1, ↓w_icne, ↓w_imul, ↓w_iadd, ↓w_istore_4, ↓w_dup_i, ↓w_dup_r, ↓w_gf1, ↓w_baload, ↓w_ifeq, ↓w_lconst1, ↓w_iload_4, ↓w_lshl, ↓w_lor, ↓w_dup2, ↓w_pf0, ↓w_iload_2, ↓pm_cl2_6, ↓w_iinc_4, ↓w_laload, ↓w_lstore_5, ↓w_istore_7, ↓w_iload_7, ↓w_lload_5, ↓w_ldc2_17, ↓w_lxor, ↓w_land, ↓w_lcmp, ↓w_ifne, ↓w_iinc_7, ↓w_ifle, ↓w_zret])
    | (simp only [w_in])
    | (intro _))
  all_goals first | (with_reducible exact fin _ _ r1 r2 r3) | omega | grind
end C91o
