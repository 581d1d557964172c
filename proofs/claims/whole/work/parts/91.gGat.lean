section C91g
variable {g : pm_G} {d : Nat} {Q : pm_Po} {S : pm_SS} {I : pm_MI} {J : pm_ML}
theorem frC.up {I2 : pm_MI} {a i : Nat} {x : Int32} (h : frC I I2) (ha : 43 ≤ a ∧ a ≤ 53) : frC I (pm_up I2 a i x) := ⟨fun b hb => by rw [pm_up_o (by omega)]; exact h.1 b hb, by rw [pm_up_o (by omega)]; exact h.2⟩
theorem frC.fl {I2 : pm_MI} {i : Nat} {x : Int32} (h : frC I I2) (ha : i ≠ 6) : frC I (pm_up I2 42 i x) := ⟨fun b hb => by rw [pm_up_o (by omega)]; exact h.1 b hb, by rw [pm_up_n (Ne.symm ha)]; exact h.2⟩
theorem frCJ.up {J2 : pm_ML} {a i : Nat} {x : Int64} (h : frCJ J J2) (ha : 42 ≤ a ∧ a ≤ 53) : frCJ J (pm_upL J2 a i x) := fun b hb => by rw [pm_upL_o (by omega)]; exact h b hb
theorem frC.A {I2 I3 : pm_MI} {J2 J3 : pm_ML} {b : Nat} (h : frC I I2) (h2 : frA I2 J2 I3 J3 b) : frC I I3 := ⟨fun a ha => by rw [h2.1 a (by omega) (by omega) (by omega) (by omega) (by omega)]; exact h.1 a ha, by rw [h2.1 42 (by decide) (by decide) (by decide) (by decide) (by decide)]; exact h.2⟩
theorem frCJ.A {I2 I3 : pm_MI} {J2 J3 : pm_ML} {b : Nat} (h : frCJ J J2) (h2 : frA I2 J2 I3 J3 b) : frCJ J J3 := fun a ha => by rw [h2.2.2 a (by omega)]; exact h a ha
theorem wld.cgC {I2 : pm_MI} {n N Ty : Nat} (w : wld I n N Ty) (h : frC I I2) : wld I2 n N Ty := by
  have e := h.lo
  have f := h.1
  obtain ⟨⟨a1, a2, a3⟩, ⟨b1, b2⟩, ⟨c1, c2, c3, c4⟩, ⟨d1, d2, d3⟩, e1, f1, g1⟩ := w
  refine ⟨⟨by rw [e 9 (by omega)]; exact a1, a2, by rw [e 12 (by omega)]; exact a3⟩, ⟨by rw [e 23 (by omega)]; exact b1, b2⟩, ⟨by rw [f 68 (by omega)]; exact c1, by rw [f 68 (by omega)]; exact c2, by rw [f 68 (by omega)]; exact c3, c4⟩, ⟨by rw [e 12 (by omega), f 81 (by omega)]; exact d1, by rw [e 14 (by omega), f 83 (by omega)]; exact d2, by rw [e 25 (by omega), f 93 (by omega)]; exact d3⟩, ?_, ?_, ?_⟩
  · rw [f 96 (by omega), f 97 (by omega), e 28 (by omega), e 25 (by omega)]; exact e1
  · rw [e 14 (by omega)]; exact f1
  · intro m hm k b; rw [mdB_cg e, e 14 (by omega)]; exact g1 m hm k b
theorem clH_add {L : List plT} {x1 x2 x3 x4 : Int32} {x5 : Int64} (h : clH I J L) : clH (pm_up (pm_up (pm_up (pm_up (pm_up I 44 L.length x1) 45 L.length x2) 46 L.length x3) 47 L.length x4) 43 6 (nI (L.length + 1))) (pm_upL J 48 L.length x5) (L ++ [(x1, x2, x3, x4, x5)]) := by
  refine ⟨by rw [pm_up_s, List.length_append]; rfl, fun p x hx => ?_⟩
  simp (disch := decide) only [pm_up_o]
  by_cases e : p = L.length
  · subst e
    rw [List.getElem?_append_right (Nat.le_refl _), Nat.sub_self] at hx
    cases hx
    simp only [pm_up_s, pm_upL_s, and_self]
  · have hp : p < L.length := by
      have := (List.getElem?_eq_some_iff.mp hx).1
      rw [List.length_append, List.length_singleton] at this
      omega
    rw [List.getElem?_append_left hp] at hx
    simp only [pm_up_n e, pm_upL_n e]
    exact h.2 p x hx
theorem c_Pl_add10 {c r : Nat} {x1 x2 : Int32} (hd : 1 ≤ d) (hc : I 43 6 = nI c) (hc2 : c < 160) (hr : r < 30) (hQ : Q none SH (pm_up (pm_up (pm_up (pm_up (pm_up I 44 c x1) 45 c x2) 46 c (nI r)) 47 c 0) 43 6 (nI (c + 1))) (pm_upL J 48 c (bitL (2 * r)))) : pm_C g d 38 [.ref 43, .int x1, .int x2, .int (nI r), .int 0] Q SH I J := c_Pl_add1 (f := 0) hd hc hc2 hr (by omega) hQ
theorem c_Pl_add11 {c r : Nat} {x1 x2 : Int32} (hd : 1 ≤ d) (hc : I 43 6 = nI c) (hc2 : c < 160) (hr : r < 30) (hQ : Q none SH (pm_up (pm_up (pm_up (pm_up (pm_up I 44 c x1) 45 c x2) 46 c (nI r)) 47 c 1) 43 6 (nI (c + 1))) (pm_upL J 48 c (bitL (2 * r + 1)))) : pm_C g d 38 [.ref 43, .int x1, .int x2, .int (nI r), .int 1] Q SH I J := c_Pl_add1 (f := 1) hd hc hc2 hr (by omega) hQ
set_option maxHeartbeats 4000000 in
theorem c_gather {n N Ty : Nat} (hd : 5 ≤ d) (w : wld I n N Ty) (hQ : ∀ I' J', frC I I' → frCJ J J' → clH I' J' (plL I n N) → Q none SH I' J') : pm_C g d 35 [.ref 43, .ref 9, .ref 23] Q SH I J := by
  obtain ⟨⟨a1, a2, a3⟩, ⟨n1, n2⟩, _, _, e1, _, _⟩ := id w
  have hlen : ∀ k, k ≤ n → (plQ I n N k).length ≤ 100 := fun k hk => plQ_len (by omega) a2 n2
  -- behind the metals' covers: the runs' own places
  have ph3 : ∀ I2 J2, frC I I2 → frCJ J J2 → clH I2 J2 (plA I n N n) → ∀ z, UU g (d - 1) 35 kX2_gather (pm_rm d 35) Q 7 [some (.ref 43), some (.ref 9), some (.ref 23), some (.int 0), z] [] SH I2 J2 (0, 0) := by
    intro I2 J2 p1 p2 p3 z
    refine lp (α := pm_MI × pm_ML) (U := fun k a => ∀ z, UU g (d - 1) 35 kX2_gather (pm_rm d 35) Q 7 [some (.ref 43), some (.ref 9), some (.ref 23), some (.int (nI k)), z] [] SH a.1 a.2 (0, 0)) (fun k a => frC I a.1 ∧ frCJ J a.2 ∧ clH a.1 a.2 (plA I n N n ++ plB I k)) N (fun k a hk hP w2 => ?_) (fun a hP => ?_) (a := (I2, J2)) ⟨p1, p2, by simpa [plB] using p3⟩ z
    · intro z
      obtain ⟨I3, J3⟩ := a
      obtain ⟨q1, q2, q3⟩ := hP
      have q1 : frC I I3 := q1
      have q2 : frCJ J J3 := q2
      have q3 : clH I3 J3 (plA I n N n ++ plB I k) := q3
      have hl := hlen n (Nat.le_refl n)
      rw [← List.length_map (f := (fun x => (nI x.1, nI x.2, -9, -9, cvI I N (nI x.1) (nI x.2)) : Nat × Nat → plT)), ← plA_Q] at hl
      have hix : (nI k).toNatClampNeg = k := ix_nI (by omega)
      have facts : ∀ I4, frC I I4 → I4 23 7 = nI N ∧ hasR I4 (nI k) ∧ I4 25 k = I 25 k := fun I4 h4 => by
        have e23 : I4 23 7 = nI N := by rw [h4.lo 23 (by omega)]; exact n1
        exact ⟨e23, hasR_nI e23 hk n2, by rw [h4.lo 25 (by omega)]⟩
      have s2 : ∀ I4 J4, frC I I4 → frCJ J J4 → clH I4 J4 (plA I n N n ++ plB I (k + 1)) → UU g (d - 1) 35 kX2_gather (pm_rm d 35) Q 8 [some (.ref 43), some (.ref 9), some (.ref 23), some (.int (nI k)), some (.int 2)] [] SH I4 J4 (0, 0) := by
        intro I4 J4 r1 r2 r3
        have q6 := w2 (I4, J4) ⟨r1, r2, r3⟩ (some (.int 2))
        clear w2 w hQ e1 facts hlen
        refine bX2_gather_8 ?_
        simp (disch := first | omega | decide) only [w_nl0, w_nli, w_nlr, ↓w_ts1, ↓w_ts0, w_rcv, w_rfv, w_cs, true_and, and_true, List.length_nil, List.length_cons, Nat.reduceAdd, Nat.reduceLeDiff, Nat.zero_le, Nat.reduceLT, ↓w_nil, ix_nI, nI_leP, nI_ltP, nI_eqP, nI_1, ↓i_inN, i_inN, l_le, l_lt, l_eq, r_le, r_lt, r_eq, sh43, sh9, sh23, ↓w_iload_4, ↓w_iconst, ↓w_icge, ↓w_aload_0, ↓w_bipush, ↓w_aload_2, ↓w_iload_3, ↓w_iv, ↓pm_cl2_2, ↓pm_cl2_5, ↓w_iinc_4, ↓w_goto]
        repeat' (first
          | (apply And.intro)
          | (with_reducible refine bX2_gather_9 ?_; simp (disch := first | omega | decide) only [w_nl0, w_nli, w_nlr, ↓w_ts1, ↓w_ts0, w_rcv, w_rfv, w_cs, true_and, and_true, List.length_nil, List.length_cons, Nat.reduceAdd, Nat.reduceLeDiff, Nat.zero_le, Nat.reduceLT, ↓w_nil, ix_nI, nI_leP, nI_ltP, nI_eqP, nI_1, ↓i_inN, i_inN, l_le, l_lt, l_eq, r_le, r_lt, r_eq, sh43, sh9, sh23, ↓w_aload_0, ↓w_iconst, ↓w_pf0, ↓w_istore_3, ↓w_iload_3, ↓w_aload_1, ↓w_gf0, ↓w_icge, ↓w_gf3, ↓w_iastore, ↓w_aload_2, ↓w_iv, ↓pm_cl2_4, ↓w_iadd, ↓w_iinc_3, ↓w_goto, ↓w_istore_4, ↓w_iload_4, ↓pm_cl2_5, ↓w_iinc_4, ↓w_bipush, ↓pm_cl2_2, ↓w_vret])
          | (simp only [w_in])
          | (intro _))
        all_goals first | (with_reducible exact q6) | omega | grind
      have s1 : ∀ I4 J4, frC I I4 → frCJ J J4 → clH I4 J4 ((plA I n N n ++ plB I k) ++ [(-9, I 25 k, nI k, 0, bitL (2 * k))]) → UU g (d - 1) 35 kX2_gather (pm_rm d 35) Q 8 [some (.ref 43), some (.ref 9), some (.ref 23), some (.int (nI k)), some (.int 1)] [] SH I4 J4 (0, 0) := by
        intro I4 J4 r1 r2 r3
        obtain ⟨f1, f2, f3⟩ := facts I4 r1
        have hl4 : ((plA I n N n ++ plB I k) ++ [(-9, I 25 k, nI k, 0, bitL (2 * k))]).length < 160 := by rw [List.length_append, List.length_append, plB_len, List.length_singleton]; omega
        have eL : plA I n N n ++ plB I (k + 1) = ((plA I n N n ++ plB I k) ++ [(-9, I 25 k, nI k, 0, bitL (2 * k))]) ++ [(-9, I 25 k, nI k, 1, bitL (2 * k + 1))] := by rw [plB_s]; simp [plR]
        generalize ((plA I n N n ++ plB I k) ++ [(-9, I 25 k, nI k, 0, bitL (2 * k))]) = L at hl4 eL r3
        have q6 := s2 (pm_up (pm_up (pm_up (pm_up (pm_up I4 44 L.length (-9)) 45 L.length (I 25 k)) 46 L.length (nI k)) 47 L.length 1) 43 6 (nI (L.length + 1))) (pm_upL J4 48 L.length (bitL (2 * k + 1))) (((((r1.up (a := 44) (by omega)).up (a := 45) (by omega)).up (a := 46) (by omega)).up (a := 47) (by omega)).up (a := 43) (by omega)) (r2.up (a := 48) (by omega)) (by rw [eL]; exact clH_add r3)
        have r4 := r3.1
        clear w2 w hQ e1 facts hlen s2 r3 q3
        refine bX2_gather_8 ?_
        simp (disch := first | omega | decide) only [w_nl0, w_nli, w_nlr, ↓w_ts1, ↓w_ts0, w_rcv, w_rfv, w_cs, true_and, and_true, List.length_nil, List.length_cons, Nat.reduceAdd, Nat.reduceLeDiff, Nat.zero_le, Nat.reduceLT, ↓w_nil, ix_nI, nI_leP, nI_ltP, nI_eqP, nI_1, ↓i_inN, i_inN, l_le, l_lt, l_eq, r_le, r_lt, r_eq, sh43, sh9, sh23, ↓w_iload_4, ↓w_iconst, ↓w_icge, ↓w_aload_0, ↓w_bipush, ↓w_aload_2, ↓w_iload_3, ↓w_iv, ↓pm_cl2_2, ↓pm_cl2_5, ↓w_iinc_4, ↓w_goto]
        repeat' (first
          | (apply And.intro)
          | (with_reducible refine c_R_dayOf (by omega) ?_ ; simp (disch := first | omega | decide) only [w_nl0, w_nli, w_nlr, ↓w_ts1, ↓w_ts0, w_rcv, w_rfv, w_cs, true_and, and_true, List.length_nil, List.length_cons, Nat.reduceAdd, Nat.reduceLeDiff, Nat.zero_le, Nat.reduceLT, ↓w_nil, ix_nI, nI_leP, nI_ltP, nI_eqP, nI_1, ↓i_inN, i_inN, l_le, l_lt, l_eq, r_le, r_lt, r_eq, sh43, sh9, sh23, ↓w_aload_0, ↓w_iconst, ↓w_pf0, ↓w_istore_3, ↓w_iload_3, ↓w_aload_1, ↓w_gf0, ↓w_icge, ↓w_gf3, ↓w_iastore, ↓w_aload_2, ↓w_iv, ↓pm_cl2_4, ↓w_iadd, ↓w_iinc_3, ↓w_goto, ↓w_istore_4, ↓w_iload_4, ↓pm_cl2_5, ↓w_iinc_4, ↓w_bipush, ↓pm_cl2_2, ↓w_vret, if_pos f2, hix, f3])
          | (with_reducible refine c_Pl_add11 (by omega) r4 hl4 (by omega) ?_ ; simp (disch := first | omega | decide) only [w_nl0, w_nli, w_nlr, ↓w_ts1, ↓w_ts0, w_rcv, w_rfv, w_cs, true_and, and_true, List.length_nil, List.length_cons, Nat.reduceAdd, Nat.reduceLeDiff, Nat.zero_le, Nat.reduceLT, ↓w_nil, ix_nI, nI_leP, nI_ltP, nI_eqP, nI_1, ↓i_inN, i_inN, l_le, l_lt, l_eq, r_le, r_lt, r_eq, sh43, sh9, sh23, ↓w_aload_0, ↓w_iconst, ↓w_pf0, ↓w_istore_3, ↓w_iload_3, ↓w_aload_1, ↓w_gf0, ↓w_icge, ↓w_gf3, ↓w_iastore, ↓w_aload_2, ↓w_iv, ↓pm_cl2_4, ↓w_iadd, ↓w_iinc_3, ↓w_goto, ↓w_istore_4, ↓w_iload_4, ↓pm_cl2_5, ↓w_iinc_4, ↓w_bipush, ↓pm_cl2_2, ↓w_vret, if_pos f2, hix, f3])
          | (simp only [w_in])
          | (intro _))
        all_goals first | (with_reducible exact q6) | omega | grind
      have s0 : UU g (d - 1) 35 kX2_gather (pm_rm d 35) Q 8 [some (.ref 43), some (.ref 9), some (.ref 23), some (.int (nI k)), some (.int 0)] [] SH I3 J3 (0, 0) := by
        obtain ⟨f1, f2, f3⟩ := facts I3 q1
        have hl4 : (plA I n N n ++ plB I k).length < 160 := by rw [List.length_append, plB_len]; omega
        have q6 := s1 _ _ (((((q1.up (a := 44) (by omega)).up (a := 45) (by omega)).up (a := 46) (by omega)).up (a := 47) (by omega)).up (a := 43) (by omega)) (q2.up (a := 48) (by omega)) (clH_add (x1 := -9) (x2 := I 25 k) (x3 := nI k) (x4 := 0) (x5 := bitL (2 * k)) q3)
        have r4 := q3.1
        clear w2 w hQ e1 facts hlen s2 s1 q3
        refine bX2_gather_8 ?_
        simp (disch := first | omega | decide) only [w_nl0, w_nli, w_nlr, ↓w_ts1, ↓w_ts0, w_rcv, w_rfv, w_cs, true_and, and_true, List.length_nil, List.length_cons, Nat.reduceAdd, Nat.reduceLeDiff, Nat.zero_le, Nat.reduceLT, ↓w_nil, ix_nI, nI_leP, nI_ltP, nI_eqP, nI_1, ↓i_inN, i_inN, l_le, l_lt, l_eq, r_le, r_lt, r_eq, sh43, sh9, sh23, ↓w_iload_4, ↓w_iconst, ↓w_icge, ↓w_aload_0, ↓w_bipush, ↓w_aload_2, ↓w_iload_3, ↓w_iv, ↓pm_cl2_2, ↓pm_cl2_5, ↓w_iinc_4, ↓w_goto]
        repeat' (first
          | (apply And.intro)
          | (with_reducible refine c_R_dayOf (by omega) ?_ ; simp (disch := first | omega | decide) only [w_nl0, w_nli, w_nlr, ↓w_ts1, ↓w_ts0, w_rcv, w_rfv, w_cs, true_and, and_true, List.length_nil, List.length_cons, Nat.reduceAdd, Nat.reduceLeDiff, Nat.zero_le, Nat.reduceLT, ↓w_nil, ix_nI, nI_leP, nI_ltP, nI_eqP, nI_1, ↓i_inN, i_inN, l_le, l_lt, l_eq, r_le, r_lt, r_eq, sh43, sh9, sh23, ↓w_aload_0, ↓w_iconst, ↓w_pf0, ↓w_istore_3, ↓w_iload_3, ↓w_aload_1, ↓w_gf0, ↓w_icge, ↓w_gf3, ↓w_iastore, ↓w_aload_2, ↓w_iv, ↓pm_cl2_4, ↓w_iadd, ↓w_iinc_3, ↓w_goto, ↓w_istore_4, ↓w_iload_4, ↓pm_cl2_5, ↓w_iinc_4, ↓w_bipush, ↓pm_cl2_2, ↓w_vret, if_pos f2, hix, f3])
          | (with_reducible refine c_Pl_add10 (by omega) r4 hl4 (by omega) ?_ ; simp (disch := first | omega | decide) only [w_nl0, w_nli, w_nlr, ↓w_ts1, ↓w_ts0, w_rcv, w_rfv, w_cs, true_and, and_true, List.length_nil, List.length_cons, Nat.reduceAdd, Nat.reduceLeDiff, Nat.zero_le, Nat.reduceLT, ↓w_nil, ix_nI, nI_leP, nI_ltP, nI_eqP, nI_1, ↓i_inN, i_inN, l_le, l_lt, l_eq, r_le, r_lt, r_eq, sh43, sh9, sh23, ↓w_aload_0, ↓w_iconst, ↓w_pf0, ↓w_istore_3, ↓w_iload_3, ↓w_aload_1, ↓w_gf0, ↓w_icge, ↓w_gf3, ↓w_iastore, ↓w_aload_2, ↓w_iv, ↓pm_cl2_4, ↓w_iadd, ↓w_iinc_3, ↓w_goto, ↓w_istore_4, ↓w_iload_4, ↓pm_cl2_5, ↓w_iinc_4, ↓w_bipush, ↓pm_cl2_2, ↓w_vret, if_pos f2, hix, f3])
          | (simp only [w_in])
          | (intro _))
        all_goals first | (with_reducible exact q6) | omega | grind
      obtain ⟨f1, f2, f3⟩ := facts I3 q1
      clear w2 w hQ e1 facts hlen s2 s1 q3
      refine bX2_gather_7 ?_
      simp (disch := first | omega | decide) only [w_nl0, w_nli, w_nlr, ↓w_ts1, ↓w_ts0, w_rcv, w_rfv, w_cs, true_and, and_true, List.length_nil, List.length_cons, Nat.reduceAdd, Nat.reduceLeDiff, Nat.zero_le, Nat.reduceLT, ↓w_nil, ix_nI, nI_leP, nI_ltP, nI_eqP, nI_1, ↓i_inN, i_inN, l_le, l_lt, l_eq, r_le, r_lt, r_eq, sh43, sh9, sh23, ↓w_iload_3, ↓w_aload_2, ↓w_gf0, ↓w_icge, ↓w_iconst, ↓w_istore_4, f1]
      repeat' (first
        | (apply And.intro)
        | (simp only [w_in])
        | (intro _))
      all_goals first | (with_reducible exact s0) | omega | grind
    · intro z
      obtain ⟨I3, J3⟩ := a
      obtain ⟨q1, q2, q3⟩ := hP
      have q := hQ I3 J3 q1 q2 q3
      have q1 : frC I I3 := q1
      have f1 : I3 23 7 = nI N := by rw [frC.lo q1 23 (by omega)]; exact n1
      clear w hQ e1 hlen q3
      refine bX2_gather_7 ?_
      simp (disch := first | omega | decide) only [w_nl0, w_nli, w_nlr, ↓w_ts1, ↓w_ts0, w_rcv, w_rfv, w_cs, true_and, and_true, List.length_nil, List.length_cons, Nat.reduceAdd, Nat.reduceLeDiff, Nat.zero_le, Nat.reduceLT, ↓w_nil, ix_nI, nI_leP, nI_ltP, nI_eqP, nI_1, ↓i_inN, i_inN, l_le, l_lt, l_eq, r_le, r_lt, r_eq, sh43, sh9, sh23, ↓w_iload_3, ↓w_aload_2, ↓w_gf0, ↓w_icge, ↓w_iconst, ↓w_istore_4, f1]
      repeat' (first
        | (apply And.intro)
        | (with_reducible refine bX2_gather_10 ?_; simp (disch := first | omega | decide) only [w_nl0, w_nli, w_nlr, ↓w_ts1, ↓w_ts0, w_rcv, w_rfv, w_cs, true_and, and_true, List.length_nil, List.length_cons, Nat.reduceAdd, Nat.reduceLeDiff, Nat.zero_le, Nat.reduceLT, ↓w_nil, ix_nI, nI_leP, nI_ltP, nI_eqP, nI_1, ↓i_inN, i_inN, l_le, l_lt, l_eq, r_le, r_lt, r_eq, sh43, sh9, sh23, ↓w_aload_0, ↓w_iconst, ↓w_pf0, ↓w_istore_3, ↓w_iload_3, ↓w_aload_1, ↓w_gf0, ↓w_icge, ↓w_gf3, ↓w_iastore, ↓w_aload_2, ↓w_iv, ↓pm_cl2_4, ↓w_iadd, ↓w_iinc_3, ↓w_goto, ↓w_istore_4, ↓w_iload_4, ↓pm_cl2_5, ↓w_iinc_4, ↓w_bipush, ↓pm_cl2_2, ↓w_vret])
        | (simp only [w_in])
        | (intro _))
      all_goals first | (with_reducible exact q) | omega | grind
  -- behind the days: the covers
  have ph2 : ∀ I2 J2, frC I I2 → frCJ J J2 → clH I2 J2 ((plQ I n N n).map z0) → (∀ m, m < n → I2 49 m = nI (plQ I n N m).length ∧ I2 49 (m + 1) = nI (plQ I n N (m + 1)).length) → ∀ z, UU g (d - 1) 35 kX2_gather (pm_rm d 35) Q 3 [some (.ref 43), some (.ref 9), some (.ref 23), some (.int 0), z] [] SH I2 J2 (0, 0) := by
    intro I2 J2 p1 p2 p3 p4 z
    have e9 : I2 9 9 = nI n := by rw [p1.lo 9 (by omega)]; exact a1
    have e12 : fOk (I2 12) n := by rw [p1.lo 12 (by omega)]; exact a3
    have e23 : I2 23 7 = nI N := by rw [p1.lo 23 (by omega)]; exact n1
    have e28 : I2 28 = I 28 := p1.lo 28 (by omega)
    have e25 : I2 25 = I 25 := p1.lo 25 (by omega)
    have k45 : ∀ p x, (plQ I n N n)[p]? = some x → I2 45 p = nI x.2 := fun p x hx => by
      have := p3.2 p (z0 x) (by rw [List.getElem?_map, hx]; rfl)
      exact this.2.1
    refine lp (α := pm_ML) (U := fun k J3 => ∀ z, UU g (d - 1) 35 kX2_gather (pm_rm d 35) Q 3 [some (.ref 43), some (.ref 9), some (.ref 23), some (.int (nI k)), z] [] SH I2 J3 (0, 0)) (fun k J3 => (∀ a, a ≠ 48 → J3 a = J2 a) ∧ ∀ p x, (plQ I n N n)[p]? = some x → J3 48 p = itr (fun e a => a ||| (if nI x.2 ≤ mfr I (nI x.1) 40 (I 25 (e / 2)) (I 28 e) then bitL e else 0)) 0 (2 * k)) N (fun k J3 hk hP w2 => ?_) (fun J3 hP => ?_) (a := J2) ⟨fun _ _ => rfl, fun p x hx => by
      have := p3.2 p (z0 x) (by rw [List.getElem?_map, hx]; rfl)
      exact this.2.2.2.2⟩ z
    · intro z
      obtain ⟨q1, q2⟩ := hP
      obtain ⟨_, x3, x4, _⟩ := e1 k hk
      have cvr : ∀ (f : Nat) (J4 : pm_ML) (Q2 : pm_Po) (d2 : Nat), 3 ≤ d2 → f < 2 → (∃ i, i < n ∧ I 28 (2 * k + f) = nI i) → (∀ J', (∀ a, a ≠ 48 → J' a = J4 a) → (∀ p x, (plQ I n N n)[p]? = some x → J' 48 p = J4 48 p ||| (if nI x.2 ≤ mfr I (nI x.1) 40 (I 25 k) (I 28 (2 * k + f)) then bitL (2 * k + f) else 0)) → Q2 none SH I2 J') → pm_C g d2 39 [.ref 43, .ref 9, .ref 23, .int (nI k), .int (nI f)] Q2 SH I2 J4 := by
        intro f J4 Q2 d2 hd2 hf hs hq
        refine c_coverMetals (K := plQ I n N n) (st := fun m => (plQ I n N m).length) hd2 e9 a2 e12 e23 n2 hk hf (by rw [e28]; exact hs) k45 p4 (fun m p h1 h2 h3 => plQ_in h1 h2 h3) (fun p x hx => plQ_at hx) (fun m hm => ⟨plQ_mono (by omega), hlen (m + 1) (by omega)⟩) (fun J' h1 h2 => hq J' h1 (fun p x hx => ?_))
        have := h2 p x hx
        rw [mfr_cg p1.lo, e25, e28] at this
        exact this
      have s2 : ∀ J4, (∀ a, a ≠ 48 → J4 a = J2 a) → (∀ p x, (plQ I n N n)[p]? = some x → J4 48 p = itr (fun e a => a ||| (if nI x.2 ≤ mfr I (nI x.1) 40 (I 25 (e / 2)) (I 28 e) then bitL e else 0)) 0 (2 * k + 1 + 1)) → UU g (d - 1) 35 kX2_gather (pm_rm d 35) Q 4 [some (.ref 43), some (.ref 9), some (.ref 23), some (.int (nI k)), some (.int 2)] [] SH I2 J4 (0, 0) := by
        intro J4 r1 r2
        have q6 := w2 J4 ⟨r1, r2⟩ (some (.int 2))
        clear w2 w hQ e1 hlen cvr ph3 k45 p4 q2 r2
        refine bX2_gather_4 ?_
        simp (disch := first | omega | decide) only [w_nl0, w_nli, w_nlr, ↓w_ts1, ↓w_ts0, w_rcv, w_rfv, w_cs, true_and, and_true, List.length_nil, List.length_cons, Nat.reduceAdd, Nat.reduceLeDiff, Nat.zero_le, Nat.reduceLT, ↓w_nil, ix_nI, nI_leP, nI_ltP, nI_eqP, nI_1, ↓i_inN, i_inN, l_le, l_lt, l_eq, r_le, r_lt, r_eq, sh43, sh9, sh23, ↓w_iload_4, ↓w_iconst, ↓w_icge, ↓w_aload_0, ↓w_aload_1, ↓w_aload_2, ↓w_iload_3, ↓w_iv, ↓pm_cl2_5, ↓w_iinc_4, ↓w_goto]
        repeat' (first
          | (apply And.intro)
          | (with_reducible refine bX2_gather_5 ?_; simp (disch := first | omega | decide) only [w_nl0, w_nli, w_nlr, ↓w_ts1, ↓w_ts0, w_rcv, w_rfv, w_cs, true_and, and_true, List.length_nil, List.length_cons, Nat.reduceAdd, Nat.reduceLeDiff, Nat.zero_le, Nat.reduceLT, ↓w_nil, ix_nI, nI_leP, nI_ltP, nI_eqP, nI_1, ↓i_inN, i_inN, l_le, l_lt, l_eq, r_le, r_lt, r_eq, sh43, sh9, sh23, ↓w_aload_0, ↓w_iconst, ↓w_pf0, ↓w_istore_3, ↓w_iload_3, ↓w_aload_1, ↓w_gf0, ↓w_icge, ↓w_gf3, ↓w_iastore, ↓w_aload_2, ↓w_iv, ↓pm_cl2_4, ↓w_iadd, ↓w_iinc_3, ↓w_goto, ↓w_istore_4, ↓w_iload_4, ↓pm_cl2_5, ↓w_iinc_4, ↓w_bipush, ↓pm_cl2_2, ↓w_vret])
          | (simp only [w_in])
          | (intro _))
        all_goals first | (with_reducible exact q6) | omega | grind
      have s1 : ∀ J4, (∀ a, a ≠ 48 → J4 a = J2 a) → (∀ p x, (plQ I n N n)[p]? = some x → J4 48 p = itr (fun e a => a ||| (if nI x.2 ≤ mfr I (nI x.1) 40 (I 25 (e / 2)) (I 28 e) then bitL e else 0)) 0 (2 * k + 1)) → UU g (d - 1) 35 kX2_gather (pm_rm d 35) Q 4 [some (.ref 43), some (.ref 9), some (.ref 23), some (.int (nI k)), some (.int 1)] [] SH I2 J4 (0, 0) := by
        intro J4 r1 r2
        have q6 : ∀ J', (∀ a, a ≠ 48 → J' a = J4 a) → (∀ p x, (plQ I n N n)[p]? = some x → J' 48 p = J4 48 p ||| (if nI x.2 ≤ mfr I (nI x.1) 40 (I 25 k) (I 28 (2 * k + 1)) then bitL (2 * k + 1) else 0)) → UU g (d - 1) 35 kX2_gather (pm_rm d 35) Q 4 [some (.ref 43), some (.ref 9), some (.ref 23), some (.int (nI k)), some (.int 2)] [] SH I2 J' (0, 0) := fun J' t1 t2 => s2 J' (fun a ha => (t1 a ha).trans (r1 a ha)) (fun p x hx => by
          rw [t2 p x hx, itr_s, r2 p x hx, show (2 * k + 1) / 2 = k by omega])
        have cv : ∀ (Q2 : pm_Po) (d2 : Nat), 3 ≤ d2 → (∀ J', (∀ a, a ≠ 48 → J' a = J4 a) → (∀ p x, (plQ I n N n)[p]? = some x → J' 48 p = J4 48 p ||| (if nI x.2 ≤ mfr I (nI x.1) 40 (I 25 k) (I 28 (2 * k + 1)) then bitL (2 * k + 1) else 0)) → Q2 none SH I2 J') → pm_C g d2 39 [.ref 43, .ref 9, .ref 23, .int (nI k), .int 1] Q2 SH I2 J4 := fun Q2 d2 h hq => cvr 1 J4 Q2 d2 h (by omega) x4 hq
        clear w2 w hQ e1 hlen cvr ph3 k45 p4 q2 r2 s2
        refine bX2_gather_4 ?_
        simp (disch := first | omega | decide) only [w_nl0, w_nli, w_nlr, ↓w_ts1, ↓w_ts0, w_rcv, w_rfv, w_cs, true_and, and_true, List.length_nil, List.length_cons, Nat.reduceAdd, Nat.reduceLeDiff, Nat.zero_le, Nat.reduceLT, ↓w_nil, ix_nI, nI_leP, nI_ltP, nI_eqP, nI_1, ↓i_inN, i_inN, l_le, l_lt, l_eq, r_le, r_lt, r_eq, sh43, sh9, sh23, ↓w_iload_4, ↓w_iconst, ↓w_icge, ↓w_aload_0, ↓w_aload_1, ↓w_aload_2, ↓w_iload_3, ↓w_iv, ↓pm_cl2_5, ↓w_iinc_4, ↓w_goto]
        repeat' (first
          | (apply And.intro)
          | (with_reducible refine cv _ _ (by omega) (fun J' t1 t2 => ?_) <;> simp (disch := first | omega | decide) only [w_nl0, w_nli, w_nlr, ↓w_ts1, ↓w_ts0, w_rcv, w_rfv, w_cs, true_and, and_true, List.length_nil, List.length_cons, Nat.reduceAdd, Nat.reduceLeDiff, Nat.zero_le, Nat.reduceLT, ↓w_nil, ix_nI, nI_leP, nI_ltP, nI_eqP, nI_1, ↓i_inN, i_inN, l_le, l_lt, l_eq, r_le, r_lt, r_eq, sh43, sh9, sh23, ↓w_aload_0, ↓w_iconst, ↓w_pf0, ↓w_istore_3, ↓w_iload_3, ↓w_aload_1, ↓w_gf0, ↓w_icge, ↓w_gf3, ↓w_iastore, ↓w_aload_2, ↓w_iv, ↓pm_cl2_4, ↓w_iadd, ↓w_iinc_3, ↓w_goto, ↓w_istore_4, ↓w_iload_4, ↓pm_cl2_5, ↓w_iinc_4, ↓w_bipush, ↓pm_cl2_2, ↓w_vret])
          | (simp only [w_in])
          | (intro _))
        all_goals first | (exact q6 _ t1 t2) | omega | grind
      have s0 : UU g (d - 1) 35 kX2_gather (pm_rm d 35) Q 4 [some (.ref 43), some (.ref 9), some (.ref 23), some (.int (nI k)), some (.int 0)] [] SH I2 J3 (0, 0) := by
        have q6 : ∀ J', (∀ a, a ≠ 48 → J' a = J3 a) → (∀ p x, (plQ I n N n)[p]? = some x → J' 48 p = J3 48 p ||| (if nI x.2 ≤ mfr I (nI x.1) 40 (I 25 k) (I 28 (2 * k + 0)) then bitL (2 * k + 0) else 0)) → UU g (d - 1) 35 kX2_gather (pm_rm d 35) Q 4 [some (.ref 43), some (.ref 9), some (.ref 23), some (.int (nI k)), some (.int 1)] [] SH I2 J' (0, 0) := fun J' t1 t2 => s1 J' (fun a ha => (t1 a ha).trans (q1 a ha)) (fun p x hx => by
          rw [t2 p x hx, itr_s, q2 p x hx, show 2 * k / 2 = k by omega]
          rfl)
        have cv : ∀ (Q2 : pm_Po) (d2 : Nat), 3 ≤ d2 → (∀ J', (∀ a, a ≠ 48 → J' a = J3 a) → (∀ p x, (plQ I n N n)[p]? = some x → J' 48 p = J3 48 p ||| (if nI x.2 ≤ mfr I (nI x.1) 40 (I 25 k) (I 28 (2 * k + 0)) then bitL (2 * k + 0) else 0)) → Q2 none SH I2 J') → pm_C g d2 39 [.ref 43, .ref 9, .ref 23, .int (nI k), .int 0] Q2 SH I2 J3 := fun Q2 d2 h hq => cvr 0 J3 Q2 d2 h (by omega) x3 hq
        clear w2 w hQ e1 hlen cvr ph3 k45 p4 q2 s2 s1
        refine bX2_gather_4 ?_
        simp (disch := first | omega | decide) only [w_nl0, w_nli, w_nlr, ↓w_ts1, ↓w_ts0, w_rcv, w_rfv, w_cs, true_and, and_true, List.length_nil, List.length_cons, Nat.reduceAdd, Nat.reduceLeDiff, Nat.zero_le, Nat.reduceLT, ↓w_nil, ix_nI, nI_leP, nI_ltP, nI_eqP, nI_1, ↓i_inN, i_inN, l_le, l_lt, l_eq, r_le, r_lt, r_eq, sh43, sh9, sh23, ↓w_iload_4, ↓w_iconst, ↓w_icge, ↓w_aload_0, ↓w_aload_1, ↓w_aload_2, ↓w_iload_3, ↓w_iv, ↓pm_cl2_5, ↓w_iinc_4, ↓w_goto]
        repeat' (first
          | (apply And.intro)
          | (with_reducible refine cv _ _ (by omega) (fun J' t1 t2 => ?_) <;> simp (disch := first | omega | decide) only [w_nl0, w_nli, w_nlr, ↓w_ts1, ↓w_ts0, w_rcv, w_rfv, w_cs, true_and, and_true, List.length_nil, List.length_cons, Nat.reduceAdd, Nat.reduceLeDiff, Nat.zero_le, Nat.reduceLT, ↓w_nil, ix_nI, nI_leP, nI_ltP, nI_eqP, nI_1, ↓i_inN, i_inN, l_le, l_lt, l_eq, r_le, r_lt, r_eq, sh43, sh9, sh23, ↓w_aload_0, ↓w_iconst, ↓w_pf0, ↓w_istore_3, ↓w_iload_3, ↓w_aload_1, ↓w_gf0, ↓w_icge, ↓w_gf3, ↓w_iastore, ↓w_aload_2, ↓w_iv, ↓pm_cl2_4, ↓w_iadd, ↓w_iinc_3, ↓w_goto, ↓w_istore_4, ↓w_iload_4, ↓pm_cl2_5, ↓w_iinc_4, ↓w_bipush, ↓pm_cl2_2, ↓w_vret])
          | (simp only [w_in])
          | (intro _))
        all_goals first | (exact q6 _ t1 t2) | omega | grind
      clear w2 w hQ e1 hlen cvr ph3 k45 p4 q2 s2 s1
      refine bX2_gather_3 ?_
      simp (disch := first | omega | decide) only [w_nl0, w_nli, w_nlr, ↓w_ts1, ↓w_ts0, w_rcv, w_rfv, w_cs, true_and, and_true, List.length_nil, List.length_cons, Nat.reduceAdd, Nat.reduceLeDiff, Nat.zero_le, Nat.reduceLT, ↓w_nil, ix_nI, nI_leP, nI_ltP, nI_eqP, nI_1, ↓i_inN, i_inN, l_le, l_lt, l_eq, r_le, r_lt, r_eq, sh43, sh9, sh23, ↓w_iload_3, ↓w_aload_2, ↓w_gf0, ↓w_icge, ↓w_iconst, ↓w_istore_4, e23]
      repeat' (first
        | (apply And.intro)
        | (simp only [w_in])
        | (intro _))
      all_goals first | (with_reducible exact s0) | omega | grind
    · intro z
      obtain ⟨q1, q2⟩ := hP
      have q := ph3 I2 J3 p1 (fun a ha => by rw [q1 a (by omega)]; exact p2 a ha) ⟨by rw [plA_Q, List.length_map]; have := p3.1; rw [List.length_map] at this; exact this, fun p x hx => by
        rw [plA_Q, List.getElem?_map] at hx
        cases hy : (plQ I n N n)[p]? with
        | none => rw [hy] at hx; cases hx
        | some y =>
          rw [hy] at hx
          have hx : some (nI y.1, nI y.2, -9, -9, cvI I N (nI y.1) (nI y.2)) = some x := hx
          cases hx
          obtain ⟨h1, h2, h3, h4, h5⟩ := p3.2 p (z0 y) (by rw [List.getElem?_map, hy]; rfl)
          exact ⟨h1, h2, h3, h4, q2 p y hy⟩⟩ z
      clear w hQ e1 hlen ph3 k45 p4 q2
      refine bX2_gather_3 ?_
      simp (disch := first | omega | decide) only [w_nl0, w_nli, w_nlr, ↓w_ts1, ↓w_ts0, w_rcv, w_rfv, w_cs, true_and, and_true, List.length_nil, List.length_cons, Nat.reduceAdd, Nat.reduceLeDiff, Nat.zero_le, Nat.reduceLT, ↓w_nil, ix_nI, nI_leP, nI_ltP, nI_eqP, nI_1, ↓i_inN, i_inN, l_le, l_lt, l_eq, r_le, r_lt, r_eq, sh43, sh9, sh23, ↓w_iload_3, ↓w_aload_2, ↓w_gf0, ↓w_icge, ↓w_iconst, ↓w_istore_4, e23]
      repeat' (first
        | (apply And.intro)
        | (with_reducible refine bX2_gather_6 ?_; simp (disch := first | omega | decide) only [w_nl0, w_nli, w_nlr, ↓w_ts1, ↓w_ts0, w_rcv, w_rfv, w_cs, true_and, and_true, List.length_nil, List.length_cons, Nat.reduceAdd, Nat.reduceLeDiff, Nat.zero_le, Nat.reduceLT, ↓w_nil, ix_nI, nI_leP, nI_ltP, nI_eqP, nI_1, ↓i_inN, i_inN, l_le, l_lt, l_eq, r_le, r_lt, r_eq, sh43, sh9, sh23, ↓w_aload_0, ↓w_iconst, ↓w_pf0, ↓w_istore_3, ↓w_iload_3, ↓w_aload_1, ↓w_gf0, ↓w_icge, ↓w_gf3, ↓w_iastore, ↓w_aload_2, ↓w_iv, ↓pm_cl2_4, ↓w_iadd, ↓w_iinc_3, ↓w_goto, ↓w_istore_4, ↓w_iload_4, ↓pm_cl2_5, ↓w_iinc_4, ↓w_bipush, ↓pm_cl2_2, ↓w_vret])
        | (simp only [w_in])
        | (intro _))
      all_goals first | (with_reducible exact q) | omega | grind
  -- the days
  refine eX2_gather (by omega) ?_
  refine bX2_gather_0 ?_
  simp (disch := first | omega | decide) only [w_nl0, w_nli, w_nlr, ↓w_ts1, ↓w_ts0, w_rcv, w_rfv, w_cs, true_and, and_true, List.length_nil, List.length_cons, Nat.reduceAdd, Nat.reduceLeDiff, Nat.zero_le, Nat.reduceLT, ↓w_nil, ix_nI, nI_leP, nI_ltP, nI_eqP, nI_1, ↓i_inN, i_inN, l_le, l_lt, l_eq, r_le, r_lt, r_eq, sh43, sh9, sh23, ↓w_aload_0, ↓w_iconst, ↓w_pf0, ↓w_istore_3]
  refine lp (α := pm_MI × pm_ML) (U := fun k a => UU g (d - 1) 35 kX2_gather (pm_rm d 35) Q 1 [some (.ref 43), some (.ref 9), some (.ref 23), some (.int (nI k)), none] [] SH a.1 a.2 (0, 0)) (fun k a => frC I a.1 ∧ frCJ J a.2 ∧ clH a.1 a.2 ((plQ I n N k).map z0) ∧ ∀ m, m < k → a.1 49 m = nI (plQ I n N m).length ∧ a.1 49 (m + 1) = nI (plQ I n N (m + 1)).length) n (fun k a hk hP w2 => ?_) (fun a hP => ?_) (a := (pm_up I 43 6 0, J)) ⟨frC.rf.up (by omega), frCJ.rf, ⟨by show pm_up I 43 6 0 43 6 = _; rw [pm_up_s]; rfl, fun p x hx => by simp [plQ] at hx⟩, fun m hm => by omega⟩
  · clear ph2 ph3 hQ
    obtain ⟨I2, J2⟩ := a
    obtain ⟨p1, p2, p3, p4⟩ := hP
    have p1 : frC I I2 := p1
    have p2 : frCJ J J2 := p2
    have p3 : clH I2 J2 ((plQ I n N k).map z0) := p3
    have p4 : ∀ m, m < k → I2 49 m = nI (plQ I n N m).length ∧ I2 49 (m + 1) = nI (plQ I n N (m + 1)).length := p4
    have e9 : I2 9 9 = nI n := by rw [p1.lo 9 (by omega)]; exact a1
    have e43 : I2 43 6 = nI (plQ I n N k).length := by have := p3.1; rw [List.length_map] at this; exact this
    have hl1 := hlen (k + 1) (by omega)
    rw [plQ_s, List.length_append, List.length_map] at hl1
    have p1' := p1.up (a := 49) (i := k) (x := nI (plQ I n N k).length) (by omega)
    have w3 : wld (pm_up I2 49 k (nI (plQ I n N k).length)) n N Ty := w.cgC p1'
    have gd : ∀ (Q2 : pm_Po) (d2 : Nat), 4 ≤ d2 → (∀ I' J', frC I I' → frCJ J J' → I' 43 6 = nI (plQ I n N (k + 1)).length → clH I' J' ((plQ I n N (k + 1)).map z0) → I' 49 k = nI (plQ I n N k).length → (∀ m, m < k → I' 49 m = nI (plQ I n N m).length ∧ I' 49 (m + 1) = nI (plQ I n N (m + 1)).length) → Q2 none SH I' J') → pm_C g d2 36 [.ref 43, .ref 9, .ref 23, .int (nI k)] Q2 SH (pm_up I2 49 k (nI (plQ I n N k).length)) J2 := by
      intro Q2 d2 hd2 hq
      refine c_gatherDays (base := (plQ I n N k).length) hd2 w3 hk (by
        have e : dsc (mdB (pm_up I2 49 k (nI (plQ I n N k).length)) n N k) 1000 = dsc (mdB I n N k) 1000 := by
          congr 1
          funext y
          exact mdB_cg p1'.lo
        rw [e]; exact hl1) pm_up_s (by rw [pm_up_o (by decide)]; exact e43) (fun I' J' len D r1 r2 r3 => ?_)
      obtain ⟨h1, h2⟩ := clH_days (I := I) (n := n) (N := N) (k := k) rfl p3 (I3 := pm_up I2 49 k (nI (plQ I n N k).length)) (fun a ha => pm_up_o ha) r1 r2 (fun y => by rw [r3 y, mdB_cg p1'.lo])
      have e49 : I' 49 = (pm_up I2 49 k (nI (plQ I n N k).length)) 49 := r1.1 49 (by decide) (by decide) (by decide) (by decide) (by decide)
      refine hq I' J' (p1'.A r1) (p2.A r1) (by have := h2.1; rw [List.length_map] at this; exact this) h2 (by rw [e49, pm_up_s]) (fun m hm => ?_)
      rw [e49, pm_up_n (by omega)]
      refine ⟨(p4 m hm).1, ?_⟩
      by_cases e : m + 1 = k
      · rw [e, pm_up_s]
      · rw [pm_up_n (by omega)]; exact (p4 m hm).2
    have fin : ∀ I' J', frC I I' → frCJ J J' → I' 43 6 = nI (plQ I n N (k + 1)).length → clH I' J' ((plQ I n N (k + 1)).map z0) → I' 49 k = nI (plQ I n N k).length → (∀ m, m < k → I' 49 m = nI (plQ I n N m).length ∧ I' 49 (m + 1) = nI (plQ I n N (m + 1)).length) → UU g (d - 1) 35 kX2_gather (pm_rm d 35) Q 1 [some (.ref 43), some (.ref 9), some (.ref 23), some (.int (nI (k + 1))), none] [] SH (pm_up I' 49 (k + 1) (nI (plQ I n N (k + 1)).length)) J' (0, 0) := by
      intro I' J' r1 r2 r3 r4 r5 r6
      have hcl : clH (pm_up I' 49 (k + 1) (nI (plQ I n N (k + 1)).length)) J' ((plQ I n N (k + 1)).map z0) := ⟨by rw [pm_up_o (by decide)]; exact r4.1, fun p x hx => by
        rw [pm_up_o (by decide), pm_up_o (by decide), pm_up_o (by decide), pm_up_o (by decide)]; exact r4.2 p x hx⟩
      refine w2 (pm_up I' 49 (k + 1) (nI (plQ I n N (k + 1)).length), J') ⟨r1.up (by omega), r2, hcl, fun m hm => ?_⟩
      show (pm_up I' 49 (k + 1) _) 49 m = _ ∧ (pm_up I' 49 (k + 1) _) 49 (m + 1) = _
      by_cases e : m = k
      · rw [e, pm_up_s, pm_up_n (by omega)]; exact ⟨r5, rfl⟩
      · rw [pm_up_n (by omega), pm_up_n (by omega)]; exact r6 m (by omega)
    clear w2 p3 p4 w3 hlen e1 w p1'
    refine bX2_gather_1 ?_
    simp (disch := first | omega | decide) only [w_nl0, w_nli, w_nlr, ↓w_ts1, ↓w_ts0, w_rcv, w_rfv, w_cs, true_and, and_true, List.length_nil, List.length_cons, Nat.reduceAdd, Nat.reduceLeDiff, Nat.zero_le, Nat.reduceLT, ↓w_nil, ix_nI, nI_leP, nI_ltP, nI_eqP, nI_1, ↓i_inN, i_inN, l_le, l_lt, l_eq, r_le, r_lt, r_eq, sh43, sh9, sh23, ↓w_iload_3, ↓w_aload_1, ↓w_gf0, ↓w_icge, ↓w_aload_0, ↓w_gf3, ↓w_iastore, ↓w_aload_2, ↓w_iv, ↓pm_cl2_4, ↓w_iconst, ↓w_iadd, ↓w_iinc_3, ↓w_goto, e9, e43]
    repeat' (first
      | (apply And.intro)
      | (with_reducible refine gd _ _ (by omega) (fun I' J' r1 r2 r3 r4 r5 r6 => ?_) <;> simp (disch := first | omega | decide) only [w_nl0, w_nli, w_nlr, ↓w_ts1, ↓w_ts0, w_rcv, w_rfv, w_cs, true_and, and_true, List.length_nil, List.length_cons, Nat.reduceAdd, Nat.reduceLeDiff, Nat.zero_le, Nat.reduceLT, ↓w_nil, ix_nI, nI_leP, nI_ltP, nI_eqP, nI_1, ↓i_inN, i_inN, l_le, l_lt, l_eq, r_le, r_lt, r_eq, sh43, sh9, sh23, ↓w_aload_0, ↓w_iconst, ↓w_pf0, ↓w_istore_3, ↓w_iload_3, ↓w_aload_1, ↓w_gf0, ↓w_icge, ↓w_gf3, ↓w_iastore, ↓w_aload_2, ↓w_iv, ↓pm_cl2_4, ↓w_iadd, ↓w_iinc_3, ↓w_goto, ↓w_istore_4, ↓w_iload_4, ↓pm_cl2_5, ↓w_iinc_4, ↓w_bipush, ↓pm_cl2_2, ↓w_vret, pm_up_o])
      | (simp only [w_in])
      | (intro _))
    all_goals first | (rw [r3]; with_reducible exact fin _ _ r1 r2 r3 r4 r5 r6) | omega | grind
  · obtain ⟨I2, J2⟩ := a
    obtain ⟨p1, p2, p3, p4⟩ := hP
    have q := ph2 I2 J2 p1 p2 p3 p4 none
    have p1 : frC I I2 := p1
    have e9 : I2 9 9 = nI n := by rw [frC.lo p1 9 (by omega)]; exact a1
    clear ph2 ph3 hQ w e1 hlen p3 p4
    refine bX2_gather_1 ?_
    simp (disch := first | omega | decide) only [w_nl0, w_nli, w_nlr, ↓w_ts1, ↓w_ts0, w_rcv, w_rfv, w_cs, true_and, and_true, List.length_nil, List.length_cons, Nat.reduceAdd, Nat.reduceLeDiff, Nat.zero_le, Nat.reduceLT, ↓w_nil, ix_nI, nI_leP, nI_ltP, nI_eqP, nI_1, ↓i_inN, i_inN, l_le, l_lt, l_eq, r_le, r_lt, r_eq, sh43, sh9, sh23, ↓w_iload_3, ↓w_aload_1, ↓w_gf0, ↓w_icge, ↓w_aload_0, ↓w_gf3, ↓w_iastore, ↓w_aload_2, ↓w_iv, ↓pm_cl2_4, ↓w_iconst, ↓w_iadd, ↓w_iinc_3, ↓w_goto, e9]
    repeat' (first
      | (apply And.intro)
      | (with_reducible refine bX2_gather_2 ?_; simp (disch := first | omega | decide) only [w_nl0, w_nli, w_nlr, ↓w_ts1, ↓w_ts0, w_rcv, w_rfv, w_cs, true_and, and_true, List.length_nil, List.length_cons, Nat.reduceAdd, Nat.reduceLeDiff, Nat.zero_le, Nat.reduceLT, ↓w_nil, ix_nI, nI_leP, nI_ltP, nI_eqP, nI_1, ↓i_inN, i_inN, l_le, l_lt, l_eq, r_le, r_lt, r_eq, sh43, sh9, sh23, ↓w_aload_0, ↓w_iconst, ↓w_pf0, ↓w_istore_3, ↓w_iload_3, ↓w_aload_1, ↓w_gf0, ↓w_icge, ↓w_gf3, ↓w_iastore, ↓w_aload_2, ↓w_iv, ↓pm_cl2_4, ↓w_iadd, ↓w_iinc_3, ↓w_goto, ↓w_istore_4, ↓w_iload_4, ↓pm_cl2_5, ↓w_iinc_4, ↓w_bipush, ↓pm_cl2_2, ↓w_vret])
      | (simp only [w_in])
      | (intro _))
    all_goals first | (with_reducible exact q) | omega | grind
end C91g
