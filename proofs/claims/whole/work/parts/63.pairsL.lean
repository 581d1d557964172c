section C63
variable {g : pm_G} {d : Nat} {Q : pm_Po} {S : pm_SS} {I : pm_MI} {J : pm_ML}
def shS (I : pm_MI) (s : Int32) (k : Nat) (a : Int64 × Int64) : Int64 × Int64 := if fwV I (I 56 k) s = 0 then a else if 0 < I 57 k then (a.1 + (I 57 k).toInt64, a.2) else (a.1, a.2 - (I 57 k).toInt64)
def mshS (I : pm_MI) (s : Int32) (k : Nat) (a : Int64 × Int64) : Int64 × Int64 := if 0 < foV I (I 113 k) s then (a.1 + (if 0 < I 114 k then (I 114 k).toInt64 else 0), a.2 - (if I 114 k < 0 then (I 114 k).toInt64 else 0)) else a
theorem fw_pos {x s : Int32} : (fwV I x s = 0) = ¬ (0 < fwV I x s) := by
  unfold fwV
  split <;> split <;> simp <;> decide
theorem sh_eq {s : Int32} {N M : Nat} (hN : N ≤ 30) (hfk : FK I N M) (s1 : I 80 = I 11) (q2 : I 113 = I 56) (q3 : I 114 = I 57) : itr (mshS I s) (0, 0) M = itr (shS I s) (0, 0) M := by
  refine itr_cong (fun k hk b => ?_)
  obtain ⟨r, a1, b1, hr, e1, i1, i2, f1, f2, ha1, g1, hb1, g2⟩ := hfk k hk
  have hfo := fo_fw (I := I) (s := s) s1 e1 (by omega) f1 f2
  unfold mshS shS
  rw [q2, q3, hfo]
  simp only [fw_pos]
  by_cases h1 : 0 < fwV I (I 56 k) s
  · simp only [h1, not_true_eq_false, if_true, if_false]
    by_cases h2 : 0 < I 57 k
    · have h3 : ¬ I 57 k < 0 := by grind
      simp only [h2, h3, if_true, if_false, Int64.sub_zero]
    · simp only [h2, if_false]
      by_cases h3 : I 57 k < 0
      · simp only [h3, if_true, Int64.add_zero]
      · have h4 : I 57 k = 0 := by grind
        rw [h4]
        simp
  · simp only [h1, not_false_eq_true, if_true, if_false]
theorem nI_L {n : Nat} (h : n < 1000000) : (nI n).toInt64 = Int64.ofNat n := Int32.toInt64_ofNat' (by
  have : Int32.maxValue.toInt = 2147483647 := by decide
  omega)
theorem sh_rng {s : Int32} {M : Nat} (hM : M ≤ 60) (hc : ∀ k, k < M → -10000 ≤ I 57 k ∧ I 57 k ≤ 10000) : ∃ p q, p ≤ 10000 * M ∧ q ≤ 10000 * M ∧ itr (shS I s) (0, 0) M = (Int64.ofNat p, Int64.ofNat q) := by
  refine itr_inv (n := M) (fun k (a : Int64 × Int64) => ∃ p q, p ≤ 10000 * k ∧ q ≤ 10000 * k ∧ a = (Int64.ofNat p, Int64.ofNat q)) ⟨0, 0, by omega, by omega, rfl⟩ (fun k hk b hb => ?_)
  obtain ⟨p, q, hp, hq, rfl⟩ := hb
  have hck := hc k hk
  unfold shS
  by_cases h1 : fwV I (I 56 k) s = 0
  · rw [if_pos h1]
    exact ⟨p, q, by omega, by omega, rfl⟩
  · rw [if_neg h1]
    by_cases h2 : 0 < I 57 k
    · rw [if_pos h2]
      obtain ⟨c, hc1, e⟩ := i_q (x := I 57 k) (n := 10001) (by decide) (by grind) (by have : nI 10001 = (10001 : Int32) := rfl; grind)
      refine ⟨p + c, q, by omega, by omega, ?_⟩
      rw [e, nI_L (by omega), ← Int64.ofNat_add]
    · rw [if_neg h2]
      obtain ⟨c, hc1, e⟩ := i_q (x := - I 57 k) (n := 10001) (by decide) (by grind) (by have : nI 10001 = (10001 : Int32) := rfl; grind)
      have e2 : I 57 k = - nI c := by rw [← e]; grind
      refine ⟨p, q + c, by omega, by omega, ?_⟩
      have h3 : ¬ nI c = -2147483648 := by
        intro h
        have h4 : (0 : Int32) ≤ nI c := nI_pos' (by omega)
        rw [h] at h4
        exact absurd h4 (by decide)
      rw [e2, Int32.toInt64_neg_of_ne h3, nI_L (by omega), Int64.ofNat_add]
      simp only [Prod.mk.injEq, true_and]
      grind
theorem rel_frac {I : pm_MI} {J : pm_ML} {u v : Int64} (h : RelW I J) : RelW I (pm_upL (pm_upL (pm_upL (pm_upL J 1 3 u) 1 4 v) 68 3 u) 68 4 v) := by
  obtain ⟨_, a1, a2, a3, a4, a5, a6, a7, a8, a9, a10, a11, a12⟩ := h
  obtain ⟨b1, b2, b3, b4, b5, b6⟩ := a1
  refine ⟨trivial, ?_, a2, a3, a4, a5, a6, a7, a8, a9, a10, a11, a12⟩
  simp (disch := decide) only [pm_upL_o, pm_upL_n, pm_upL_s]
  exact ⟨b1, b2, b3, rfl, rfl, b6⟩
theorem c_share {s : Int32} {N M : Nat} (hd : 8 ≤ d) (hs : 0 ≤ s ∧ s < 20) (hN2 : I 23 7 = nI N) (hN : N ≤ 30) (hM2 : I 55 4 = nI M) (hM : M ≤ 60) (hfk : FK I N M) (p : Int64 × Int64) (hp : itr (shS I s) (0, 0) M = p) (h0 : p.1 = 0 → Q (some (.int (-3))) SH (pm_up (pm_up I 1 1 4) 2 (4 : Int32).toNatClampNeg (I 2 (4 : Int32).toNatClampNeg + 1)) J) (h1 : ¬ p.1 = 0 → 0 < (euI 200 (p.2, p.1)).1 ∧ Q (some (.int 1)) SH I (pm_upL (pm_upL J 1 3 (p.2 / (euI 200 (p.2, p.1)).1)) 1 4 (p.1 / (euI 200 (p.2, p.1)).1))) : pm_C g d 170 [.ref 0, .int s] Q SH I J := by
  refine eX11_share (by omega) ?_
  repeat' (first
    | (apply And.intro)
    | (with_reducible refine bX11_share_0 ?_; simp (disch := first | omega | decide) only [w_nl0, w_nli, w_nlr, ↓w_ts1, ↓w_ts0, w_rcv, w_rfv, w_cs, true_and, and_true, List.length_nil, List.length_cons, Nat.reduceAdd, Nat.reduceLeDiff, Nat.zero_le, Nat.reduceLT, ↓w_nil, ix_nI, nI_leP, nI_ltP, nI_eqP, nI_1, ↓i_inN, i_inN, l_le, l_lt, l_eq, r_le, r_lt, r_eq, sh0, sh1, sh55, sh60, sh9, sh31, sh23, sh37, sh42, sh43, sh19, sh3, sh6, ↓w_iload_1, ↓w_bipush, ↓w_is, ↓pm_cl1_2, ↓w_ifne, ↓w_iconst, ↓w_ret, ↓w_lconst0, ↓w_lstore_2, ↓w_lstore_4, ↓w_istore_6, ↓w_iload_6, ↓w_aload_0, ↓w_gf3, ↓w_gf0, ↓w_icge, ↓w_iaload, ↓w_istore_7, ↓w_iv, ↓pm_cl2_3, ↓w_goto, ↓w_iload_7, ↓w_ifle, ↓w_lload_2, ↓w_i2l, ↓w_ladd, ↓w_lload_4, ↓w_lsub, ↓w_iinc_6, ↓w_lcmp, ↓pm_cl2_2])
    | (with_reducible refine bX11_share_1 ?_; simp (disch := first | omega | decide) only [w_nl0, w_nli, w_nlr, ↓w_ts1, ↓w_ts0, w_rcv, w_rfv, w_cs, true_and, and_true, List.length_nil, List.length_cons, Nat.reduceAdd, Nat.reduceLeDiff, Nat.zero_le, Nat.reduceLT, ↓w_nil, ix_nI, nI_leP, nI_ltP, nI_eqP, nI_1, ↓i_inN, i_inN, l_le, l_lt, l_eq, r_le, r_lt, r_eq, sh0, sh1, sh55, sh60, sh9, sh31, sh23, sh37, sh42, sh43, sh19, sh3, sh6, ↓w_iload_1, ↓w_bipush, ↓w_is, ↓pm_cl1_2, ↓w_ifne, ↓w_iconst, ↓w_ret, ↓w_lconst0, ↓w_lstore_2, ↓w_lstore_4, ↓w_istore_6, ↓w_iload_6, ↓w_aload_0, ↓w_gf3, ↓w_gf0, ↓w_icge, ↓w_iaload, ↓w_istore_7, ↓w_iv, ↓pm_cl2_3, ↓w_goto, ↓w_iload_7, ↓w_ifle, ↓w_lload_2, ↓w_i2l, ↓w_ladd, ↓w_lload_4, ↓w_lsub, ↓w_iinc_6, ↓w_lcmp, ↓pm_cl2_2])
    | (with_reducible refine c_below (by omega) ?_ ; simp (disch := first | omega | decide) only [w_nl0, w_nli, w_nlr, ↓w_ts1, ↓w_ts0, w_rcv, w_rfv, w_cs, true_and, and_true, List.length_nil, List.length_cons, Nat.reduceAdd, Nat.reduceLeDiff, Nat.zero_le, Nat.reduceLT, ↓w_nil, ix_nI, nI_leP, nI_ltP, nI_eqP, nI_1, ↓i_inN, i_inN, l_le, l_lt, l_eq, r_le, r_lt, r_eq, sh0, sh1, sh55, sh60, sh9, sh31, sh23, sh37, sh42, sh43, sh19, sh3, sh6, ↓w_iload_1, ↓w_bipush, ↓w_is, ↓pm_cl1_2, ↓w_ifne, ↓w_iconst, ↓w_ret, ↓w_lconst0, ↓w_lstore_2, ↓w_lstore_4, ↓w_istore_6, ↓w_iload_6, ↓w_aload_0, ↓w_gf3, ↓w_gf0, ↓w_icge, ↓w_iaload, ↓w_istore_7, ↓w_iv, ↓pm_cl2_3, ↓w_goto, ↓w_iload_7, ↓w_ifle, ↓w_lload_2, ↓w_i2l, ↓w_ladd, ↓w_lload_4, ↓w_lsub, ↓w_iinc_6, ↓w_lcmp, ↓pm_cl2_2])
    | (simp only [w_in])
    | (intro _))
  all_goals try grind
  refine pm_for (f := shS I s) (U := fun k (a : Int64 × Int64) => UU g (d - 1) 170 kX11_share (pm_rm d 170) Q 2 [some (.ref 0), some (.int s), some (.long a.1), none, some (.long a.2), none, some (.int (nI k)), none] [] SH I J (0, 0)) (a := (0, 0)) M (fun k b hk hb w => ?_) ?_
  · replace w : ∀ x, UU g (d - 1) 170 kX11_share (pm_rm d 170) Q 2 [some (.ref 0), some (.int s), some (.long (shS I s k b).1), none, some (.long (shS I s k b).2), none, some (.int (nI (k + 1))), x] [] SH I J (0, 0) := fun x => u_less _ (by simp [pm_le]) w
    obtain ⟨r, a1, b1, hr, e1, i1, i2, _⟩ := hfk k hk
    clear hb hfk h0 h1 hp
    unfold shS at w
    by_cases c1 : fwV I (I 56 k) s = 0
    · simp only [c1, if_true] at w
      refine bX11_share_2 ?_
      simp (disch := first | omega | decide) only [w_nl0, w_nli, w_nlr, ↓w_ts1, ↓w_ts0, w_rcv, w_rfv, w_cs, true_and, and_true, List.length_nil, List.length_cons, Nat.reduceAdd, Nat.reduceLeDiff, Nat.zero_le, Nat.reduceLT, ↓w_nil, ix_nI, nI_leP, nI_ltP, nI_eqP, nI_1, ↓i_inN, i_inN, l_le, l_lt, l_eq, r_le, r_lt, r_eq, sh0, sh1, sh55, sh60, sh9, sh31, sh23, sh37, sh42, sh43, sh19, sh3, sh6, ↓w_iload_6, ↓w_aload_0, ↓w_gf3, ↓w_gf0, ↓w_icge, ↓w_iaload, ↓w_istore_7, ↓w_iload_1, ↓w_iv, ↓pm_cl2_3, ↓w_ifne, ↓w_goto, hM2]
      repeat' (first
        | (apply And.intro)
        | (with_reducible refine bX11_share_3 ?_; simp (disch := first | omega | decide) only [w_nl0, w_nli, w_nlr, ↓w_ts1, ↓w_ts0, w_rcv, w_rfv, w_cs, true_and, and_true, List.length_nil, List.length_cons, Nat.reduceAdd, Nat.reduceLeDiff, Nat.zero_le, Nat.reduceLT, ↓w_nil, ix_nI, nI_leP, nI_ltP, nI_eqP, nI_1, ↓i_inN, i_inN, l_le, l_lt, l_eq, r_le, r_lt, r_eq, sh0, sh1, sh55, sh60, sh9, sh31, sh23, sh37, sh42, sh43, sh19, sh3, sh6, ↓w_iload_1, ↓w_bipush, ↓w_is, ↓pm_cl1_2, ↓w_ifne, ↓w_iconst, ↓w_ret, ↓w_lconst0, ↓w_lstore_2, ↓w_lstore_4, ↓w_istore_6, ↓w_iload_6, ↓w_aload_0, ↓w_gf3, ↓w_gf0, ↓w_icge, ↓w_iaload, ↓w_istore_7, ↓w_iv, ↓pm_cl2_3, ↓w_goto, ↓w_iload_7, ↓w_ifle, ↓w_lload_2, ↓w_i2l, ↓w_ladd, ↓w_lload_4, ↓w_lsub, ↓w_iinc_6, ↓w_lcmp, ↓pm_cl2_2])
        | (with_reducible refine bX11_share_4 ?_; simp (disch := first | omega | decide) only [w_nl0, w_nli, w_nlr, ↓w_ts1, ↓w_ts0, w_rcv, w_rfv, w_cs, true_and, and_true, List.length_nil, List.length_cons, Nat.reduceAdd, Nat.reduceLeDiff, Nat.zero_le, Nat.reduceLT, ↓w_nil, ix_nI, nI_leP, nI_ltP, nI_eqP, nI_1, ↓i_inN, i_inN, l_le, l_lt, l_eq, r_le, r_lt, r_eq, sh0, sh1, sh55, sh60, sh9, sh31, sh23, sh37, sh42, sh43, sh19, sh3, sh6, ↓w_iload_1, ↓w_bipush, ↓w_is, ↓pm_cl1_2, ↓w_ifne, ↓w_iconst, ↓w_ret, ↓w_lconst0, ↓w_lstore_2, ↓w_lstore_4, ↓w_istore_6, ↓w_iload_6, ↓w_aload_0, ↓w_gf3, ↓w_gf0, ↓w_icge, ↓w_iaload, ↓w_istore_7, ↓w_iv, ↓pm_cl2_3, ↓w_goto, ↓w_iload_7, ↓w_ifle, ↓w_lload_2, ↓w_i2l, ↓w_ladd, ↓w_lload_4, ↓w_lsub, ↓w_iinc_6, ↓w_lcmp, ↓pm_cl2_2])
        | (with_reducible refine bX11_share_5 ?_; simp (disch := first | omega | decide) only [w_nl0, w_nli, w_nlr, ↓w_ts1, ↓w_ts0, w_rcv, w_rfv, w_cs, true_and, and_true, List.length_nil, List.length_cons, Nat.reduceAdd, Nat.reduceLeDiff, Nat.zero_le, Nat.reduceLT, ↓w_nil, ix_nI, nI_leP, nI_ltP, nI_eqP, nI_1, ↓i_inN, i_inN, l_le, l_lt, l_eq, r_le, r_lt, r_eq, sh0, sh1, sh55, sh60, sh9, sh31, sh23, sh37, sh42, sh43, sh19, sh3, sh6, ↓w_iload_1, ↓w_bipush, ↓w_is, ↓pm_cl1_2, ↓w_ifne, ↓w_iconst, ↓w_ret, ↓w_lconst0, ↓w_lstore_2, ↓w_lstore_4, ↓w_istore_6, ↓w_iload_6, ↓w_aload_0, ↓w_gf3, ↓w_gf0, ↓w_icge, ↓w_iaload, ↓w_istore_7, ↓w_iv, ↓pm_cl2_3, ↓w_goto, ↓w_iload_7, ↓w_ifle, ↓w_lload_2, ↓w_i2l, ↓w_ladd, ↓w_lload_4, ↓w_lsub, ↓w_iinc_6, ↓w_lcmp, ↓pm_cl2_2])
        | (with_reducible refine c_facesWith (by omega) hN2 hN e1 hr i1 i2 ?_ ; simp (disch := first | omega | decide) only [w_nl0, w_nli, w_nlr, ↓w_ts1, ↓w_ts0, w_rcv, w_rfv, w_cs, true_and, and_true, List.length_nil, List.length_cons, Nat.reduceAdd, Nat.reduceLeDiff, Nat.zero_le, Nat.reduceLT, ↓w_nil, ix_nI, nI_leP, nI_ltP, nI_eqP, nI_1, ↓i_inN, i_inN, l_le, l_lt, l_eq, r_le, r_lt, r_eq, sh0, sh1, sh55, sh60, sh9, sh31, sh23, sh37, sh42, sh43, sh19, sh3, sh6, ↓w_iload_1, ↓w_bipush, ↓w_is, ↓pm_cl1_2, ↓w_ifne, ↓w_iconst, ↓w_ret, ↓w_lconst0, ↓w_lstore_2, ↓w_lstore_4, ↓w_istore_6, ↓w_iload_6, ↓w_aload_0, ↓w_gf3, ↓w_gf0, ↓w_icge, ↓w_iaload, ↓w_istore_7, ↓w_iv, ↓pm_cl2_3, ↓w_goto, ↓w_iload_7, ↓w_ifle, ↓w_lload_2, ↓w_i2l, ↓w_ladd, ↓w_lload_4, ↓w_lsub, ↓w_iinc_6, ↓w_lcmp, ↓pm_cl2_2])
        | (simp only [w_in])
        | (intro _))
      all_goals grind
    · by_cases c2 : 0 < I 57 k
      · simp only [c1, c2, if_true, if_false] at w
        refine bX11_share_2 ?_
        simp (disch := first | omega | decide) only [w_nl0, w_nli, w_nlr, ↓w_ts1, ↓w_ts0, w_rcv, w_rfv, w_cs, true_and, and_true, List.length_nil, List.length_cons, Nat.reduceAdd, Nat.reduceLeDiff, Nat.zero_le, Nat.reduceLT, ↓w_nil, ix_nI, nI_leP, nI_ltP, nI_eqP, nI_1, ↓i_inN, i_inN, l_le, l_lt, l_eq, r_le, r_lt, r_eq, sh0, sh1, sh55, sh60, sh9, sh31, sh23, sh37, sh42, sh43, sh19, sh3, sh6, ↓w_iload_6, ↓w_aload_0, ↓w_gf3, ↓w_gf0, ↓w_icge, ↓w_iaload, ↓w_istore_7, ↓w_iload_1, ↓w_iv, ↓pm_cl2_3, ↓w_ifne, ↓w_goto, hM2]
        repeat' (first
          | (apply And.intro)
          | (with_reducible refine bX11_share_3 ?_; simp (disch := first | omega | decide) only [w_nl0, w_nli, w_nlr, ↓w_ts1, ↓w_ts0, w_rcv, w_rfv, w_cs, true_and, and_true, List.length_nil, List.length_cons, Nat.reduceAdd, Nat.reduceLeDiff, Nat.zero_le, Nat.reduceLT, ↓w_nil, ix_nI, nI_leP, nI_ltP, nI_eqP, nI_1, ↓i_inN, i_inN, l_le, l_lt, l_eq, r_le, r_lt, r_eq, sh0, sh1, sh55, sh60, sh9, sh31, sh23, sh37, sh42, sh43, sh19, sh3, sh6, ↓w_iload_1, ↓w_bipush, ↓w_is, ↓pm_cl1_2, ↓w_ifne, ↓w_iconst, ↓w_ret, ↓w_lconst0, ↓w_lstore_2, ↓w_lstore_4, ↓w_istore_6, ↓w_iload_6, ↓w_aload_0, ↓w_gf3, ↓w_gf0, ↓w_icge, ↓w_iaload, ↓w_istore_7, ↓w_iv, ↓pm_cl2_3, ↓w_goto, ↓w_iload_7, ↓w_ifle, ↓w_lload_2, ↓w_i2l, ↓w_ladd, ↓w_lload_4, ↓w_lsub, ↓w_iinc_6, ↓w_lcmp, ↓pm_cl2_2])
          | (with_reducible refine bX11_share_4 ?_; simp (disch := first | omega | decide) only [w_nl0, w_nli, w_nlr, ↓w_ts1, ↓w_ts0, w_rcv, w_rfv, w_cs, true_and, and_true, List.length_nil, List.length_cons, Nat.reduceAdd, Nat.reduceLeDiff, Nat.zero_le, Nat.reduceLT, ↓w_nil, ix_nI, nI_leP, nI_ltP, nI_eqP, nI_1, ↓i_inN, i_inN, l_le, l_lt, l_eq, r_le, r_lt, r_eq, sh0, sh1, sh55, sh60, sh9, sh31, sh23, sh37, sh42, sh43, sh19, sh3, sh6, ↓w_iload_1, ↓w_bipush, ↓w_is, ↓pm_cl1_2, ↓w_ifne, ↓w_iconst, ↓w_ret, ↓w_lconst0, ↓w_lstore_2, ↓w_lstore_4, ↓w_istore_6, ↓w_iload_6, ↓w_aload_0, ↓w_gf3, ↓w_gf0, ↓w_icge, ↓w_iaload, ↓w_istore_7, ↓w_iv, ↓pm_cl2_3, ↓w_goto, ↓w_iload_7, ↓w_ifle, ↓w_lload_2, ↓w_i2l, ↓w_ladd, ↓w_lload_4, ↓w_lsub, ↓w_iinc_6, ↓w_lcmp, ↓pm_cl2_2])
          | (with_reducible refine bX11_share_5 ?_; simp (disch := first | omega | decide) only [w_nl0, w_nli, w_nlr, ↓w_ts1, ↓w_ts0, w_rcv, w_rfv, w_cs, true_and, and_true, List.length_nil, List.length_cons, Nat.reduceAdd, Nat.reduceLeDiff, Nat.zero_le, Nat.reduceLT, ↓w_nil, ix_nI, nI_leP, nI_ltP, nI_eqP, nI_1, ↓i_inN, i_inN, l_le, l_lt, l_eq, r_le, r_lt, r_eq, sh0, sh1, sh55, sh60, sh9, sh31, sh23, sh37, sh42, sh43, sh19, sh3, sh6, ↓w_iload_1, ↓w_bipush, ↓w_is, ↓pm_cl1_2, ↓w_ifne, ↓w_iconst, ↓w_ret, ↓w_lconst0, ↓w_lstore_2, ↓w_lstore_4, ↓w_istore_6, ↓w_iload_6, ↓w_aload_0, ↓w_gf3, ↓w_gf0, ↓w_icge, ↓w_iaload, ↓w_istore_7, ↓w_iv, ↓pm_cl2_3, ↓w_goto, ↓w_iload_7, ↓w_ifle, ↓w_lload_2, ↓w_i2l, ↓w_ladd, ↓w_lload_4, ↓w_lsub, ↓w_iinc_6, ↓w_lcmp, ↓pm_cl2_2])
          | (with_reducible refine c_facesWith (by omega) hN2 hN e1 hr i1 i2 ?_ ; simp (disch := first | omega | decide) only [w_nl0, w_nli, w_nlr, ↓w_ts1, ↓w_ts0, w_rcv, w_rfv, w_cs, true_and, and_true, List.length_nil, List.length_cons, Nat.reduceAdd, Nat.reduceLeDiff, Nat.zero_le, Nat.reduceLT, ↓w_nil, ix_nI, nI_leP, nI_ltP, nI_eqP, nI_1, ↓i_inN, i_inN, l_le, l_lt, l_eq, r_le, r_lt, r_eq, sh0, sh1, sh55, sh60, sh9, sh31, sh23, sh37, sh42, sh43, sh19, sh3, sh6, ↓w_iload_1, ↓w_bipush, ↓w_is, ↓pm_cl1_2, ↓w_ifne, ↓w_iconst, ↓w_ret, ↓w_lconst0, ↓w_lstore_2, ↓w_lstore_4, ↓w_istore_6, ↓w_iload_6, ↓w_aload_0, ↓w_gf3, ↓w_gf0, ↓w_icge, ↓w_iaload, ↓w_istore_7, ↓w_iv, ↓pm_cl2_3, ↓w_goto, ↓w_iload_7, ↓w_ifle, ↓w_lload_2, ↓w_i2l, ↓w_ladd, ↓w_lload_4, ↓w_lsub, ↓w_iinc_6, ↓w_lcmp, ↓pm_cl2_2])
          | (simp only [w_in])
          | (intro _))
        all_goals grind
      · simp only [c1, c2, if_false] at w
        refine bX11_share_2 ?_
        simp (disch := first | omega | decide) only [w_nl0, w_nli, w_nlr, ↓w_ts1, ↓w_ts0, w_rcv, w_rfv, w_cs, true_and, and_true, List.length_nil, List.length_cons, Nat.reduceAdd, Nat.reduceLeDiff, Nat.zero_le, Nat.reduceLT, ↓w_nil, ix_nI, nI_leP, nI_ltP, nI_eqP, nI_1, ↓i_inN, i_inN, l_le, l_lt, l_eq, r_le, r_lt, r_eq, sh0, sh1, sh55, sh60, sh9, sh31, sh23, sh37, sh42, sh43, sh19, sh3, sh6, ↓w_iload_6, ↓w_aload_0, ↓w_gf3, ↓w_gf0, ↓w_icge, ↓w_iaload, ↓w_istore_7, ↓w_iload_1, ↓w_iv, ↓pm_cl2_3, ↓w_ifne, ↓w_goto, hM2]
        repeat' (first
          | (apply And.intro)
          | (with_reducible refine bX11_share_3 ?_; simp (disch := first | omega | decide) only [w_nl0, w_nli, w_nlr, ↓w_ts1, ↓w_ts0, w_rcv, w_rfv, w_cs, true_and, and_true, List.length_nil, List.length_cons, Nat.reduceAdd, Nat.reduceLeDiff, Nat.zero_le, Nat.reduceLT, ↓w_nil, ix_nI, nI_leP, nI_ltP, nI_eqP, nI_1, ↓i_inN, i_inN, l_le, l_lt, l_eq, r_le, r_lt, r_eq, sh0, sh1, sh55, sh60, sh9, sh31, sh23, sh37, sh42, sh43, sh19, sh3, sh6, ↓w_iload_1, ↓w_bipush, ↓w_is, ↓pm_cl1_2, ↓w_ifne, ↓w_iconst, ↓w_ret, ↓w_lconst0, ↓w_lstore_2, ↓w_lstore_4, ↓w_istore_6, ↓w_iload_6, ↓w_aload_0, ↓w_gf3, ↓w_gf0, ↓w_icge, ↓w_iaload, ↓w_istore_7, ↓w_iv, ↓pm_cl2_3, ↓w_goto, ↓w_iload_7, ↓w_ifle, ↓w_lload_2, ↓w_i2l, ↓w_ladd, ↓w_lload_4, ↓w_lsub, ↓w_iinc_6, ↓w_lcmp, ↓pm_cl2_2])
          | (with_reducible refine bX11_share_4 ?_; simp (disch := first | omega | decide) only [w_nl0, w_nli, w_nlr, ↓w_ts1, ↓w_ts0, w_rcv, w_rfv, w_cs, true_and, and_true, List.length_nil, List.length_cons, Nat.reduceAdd, Nat.reduceLeDiff, Nat.zero_le, Nat.reduceLT, ↓w_nil, ix_nI, nI_leP, nI_ltP, nI_eqP, nI_1, ↓i_inN, i_inN, l_le, l_lt, l_eq, r_le, r_lt, r_eq, sh0, sh1, sh55, sh60, sh9, sh31, sh23, sh37, sh42, sh43, sh19, sh3, sh6, ↓w_iload_1, ↓w_bipush, ↓w_is, ↓pm_cl1_2, ↓w_ifne, ↓w_iconst, ↓w_ret, ↓w_lconst0, ↓w_lstore_2, ↓w_lstore_4, ↓w_istore_6, ↓w_iload_6, ↓w_aload_0, ↓w_gf3, ↓w_gf0, ↓w_icge, ↓w_iaload, ↓w_istore_7, ↓w_iv, ↓pm_cl2_3, ↓w_goto, ↓w_iload_7, ↓w_ifle, ↓w_lload_2, ↓w_i2l, ↓w_ladd, ↓w_lload_4, ↓w_lsub, ↓w_iinc_6, ↓w_lcmp, ↓pm_cl2_2])
          | (with_reducible refine bX11_share_5 ?_; simp (disch := first | omega | decide) only [w_nl0, w_nli, w_nlr, ↓w_ts1, ↓w_ts0, w_rcv, w_rfv, w_cs, true_and, and_true, List.length_nil, List.length_cons, Nat.reduceAdd, Nat.reduceLeDiff, Nat.zero_le, Nat.reduceLT, ↓w_nil, ix_nI, nI_leP, nI_ltP, nI_eqP, nI_1, ↓i_inN, i_inN, l_le, l_lt, l_eq, r_le, r_lt, r_eq, sh0, sh1, sh55, sh60, sh9, sh31, sh23, sh37, sh42, sh43, sh19, sh3, sh6, ↓w_iload_1, ↓w_bipush, ↓w_is, ↓pm_cl1_2, ↓w_ifne, ↓w_iconst, ↓w_ret, ↓w_lconst0, ↓w_lstore_2, ↓w_lstore_4, ↓w_istore_6, ↓w_iload_6, ↓w_aload_0, ↓w_gf3, ↓w_gf0, ↓w_icge, ↓w_iaload, ↓w_istore_7, ↓w_iv, ↓pm_cl2_3, ↓w_goto, ↓w_iload_7, ↓w_ifle, ↓w_lload_2, ↓w_i2l, ↓w_ladd, ↓w_lload_4, ↓w_lsub, ↓w_iinc_6, ↓w_lcmp, ↓pm_cl2_2])
          | (with_reducible refine c_facesWith (by omega) hN2 hN e1 hr i1 i2 ?_ ; simp (disch := first | omega | decide) only [w_nl0, w_nli, w_nlr, ↓w_ts1, ↓w_ts0, w_rcv, w_rfv, w_cs, true_and, and_true, List.length_nil, List.length_cons, Nat.reduceAdd, Nat.reduceLeDiff, Nat.zero_le, Nat.reduceLT, ↓w_nil, ix_nI, nI_leP, nI_ltP, nI_eqP, nI_1, ↓i_inN, i_inN, l_le, l_lt, l_eq, r_le, r_lt, r_eq, sh0, sh1, sh55, sh60, sh9, sh31, sh23, sh37, sh42, sh43, sh19, sh3, sh6, ↓w_iload_1, ↓w_bipush, ↓w_is, ↓pm_cl1_2, ↓w_ifne, ↓w_iconst, ↓w_ret, ↓w_lconst0, ↓w_lstore_2, ↓w_lstore_4, ↓w_istore_6, ↓w_iload_6, ↓w_aload_0, ↓w_gf3, ↓w_gf0, ↓w_icge, ↓w_iaload, ↓w_istore_7, ↓w_iv, ↓pm_cl2_3, ↓w_goto, ↓w_iload_7, ↓w_ifle, ↓w_lload_2, ↓w_i2l, ↓w_ladd, ↓w_lload_4, ↓w_lsub, ↓w_iinc_6, ↓w_lcmp, ↓pm_cl2_2])
          | (simp only [w_in])
          | (intro _))
        all_goals grind
  · rw [hp]
    clear hfk hp
    by_cases hz : p.1 = 0
    · have h0 := h0 hz
      clear h1
      refine bX11_share_2 ?_
      simp (disch := first | omega | decide) only [w_nl0, w_nli, w_nlr, ↓w_ts1, ↓w_ts0, w_rcv, w_rfv, w_cs, true_and, and_true, List.length_nil, List.length_cons, Nat.reduceAdd, Nat.reduceLeDiff, Nat.zero_le, Nat.reduceLT, ↓w_nil, ix_nI, nI_leP, nI_ltP, nI_eqP, nI_1, ↓i_inN, i_inN, l_le, l_lt, l_eq, r_le, r_lt, r_eq, sh0, sh1, sh55, sh60, sh9, sh31, sh23, sh37, sh42, sh43, sh19, sh3, sh6, ↓w_iload_6, ↓w_aload_0, ↓w_gf3, ↓w_gf0, ↓w_icge, ↓w_iaload, ↓w_istore_7, ↓w_iload_1, ↓w_iv, ↓pm_cl2_3, ↓w_ifne, ↓w_goto, hM2]
      repeat' (first
        | (apply And.intro)
        | (with_reducible refine bX11_share_6 ?_; simp (disch := first | omega | decide) only [w_nl0, w_nli, w_nlr, ↓w_ts1, ↓w_ts0, w_rcv, w_rfv, w_cs, true_and, and_true, List.length_nil, List.length_cons, Nat.reduceAdd, Nat.reduceLeDiff, Nat.zero_le, Nat.reduceLT, ↓w_nil, ix_nI, nI_leP, nI_ltP, nI_eqP, nI_1, ↓i_inN, i_inN, l_le, l_lt, l_eq, r_le, r_lt, r_eq, sh0, sh1, sh55, sh60, sh9, sh31, sh23, sh37, sh42, sh43, sh19, sh3, sh6, ↓w_iload_1, ↓w_bipush, ↓w_is, ↓pm_cl1_2, ↓w_ifne, ↓w_iconst, ↓w_ret, ↓w_lconst0, ↓w_lstore_2, ↓w_lstore_4, ↓w_istore_6, ↓w_iload_6, ↓w_aload_0, ↓w_gf3, ↓w_gf0, ↓w_icge, ↓w_iaload, ↓w_istore_7, ↓w_iv, ↓pm_cl2_3, ↓w_goto, ↓w_iload_7, ↓w_ifle, ↓w_lload_2, ↓w_i2l, ↓w_ladd, ↓w_lload_4, ↓w_lsub, ↓w_iinc_6, ↓w_lcmp, ↓pm_cl2_2, lg_eq0])
        | (with_reducible refine c_found (by omega) (by decide) (by decide) ?_ ; simp (disch := first | omega | decide) only [w_nl0, w_nli, w_nlr, ↓w_ts1, ↓w_ts0, w_rcv, w_rfv, w_cs, true_and, and_true, List.length_nil, List.length_cons, Nat.reduceAdd, Nat.reduceLeDiff, Nat.zero_le, Nat.reduceLT, ↓w_nil, ix_nI, nI_leP, nI_ltP, nI_eqP, nI_1, ↓i_inN, i_inN, l_le, l_lt, l_eq, r_le, r_lt, r_eq, sh0, sh1, sh55, sh60, sh9, sh31, sh23, sh37, sh42, sh43, sh19, sh3, sh6, ↓w_iload_1, ↓w_bipush, ↓w_is, ↓pm_cl1_2, ↓w_ifne, ↓w_iconst, ↓w_ret, ↓w_lconst0, ↓w_lstore_2, ↓w_lstore_4, ↓w_istore_6, ↓w_iload_6, ↓w_aload_0, ↓w_gf3, ↓w_gf0, ↓w_icge, ↓w_iaload, ↓w_istore_7, ↓w_iv, ↓pm_cl2_3, ↓w_goto, ↓w_iload_7, ↓w_ifle, ↓w_lload_2, ↓w_i2l, ↓w_ladd, ↓w_lload_4, ↓w_lsub, ↓w_iinc_6, ↓w_lcmp, ↓pm_cl2_2, lg_eq0])
        | (simp only [w_in])
        | (intro _))
      all_goals grind
    · obtain ⟨h2, h3⟩ := h1 hz
      clear h0 h1
      refine bX11_share_2 ?_
      simp (disch := first | omega | decide) only [w_nl0, w_nli, w_nlr, ↓w_ts1, ↓w_ts0, w_rcv, w_rfv, w_cs, true_and, and_true, List.length_nil, List.length_cons, Nat.reduceAdd, Nat.reduceLeDiff, Nat.zero_le, Nat.reduceLT, ↓w_nil, ix_nI, nI_leP, nI_ltP, nI_eqP, nI_1, ↓i_inN, i_inN, l_le, l_lt, l_eq, r_le, r_lt, r_eq, sh0, sh1, sh55, sh60, sh9, sh31, sh23, sh37, sh42, sh43, sh19, sh3, sh6, ↓w_iload_6, ↓w_aload_0, ↓w_gf3, ↓w_gf0, ↓w_icge, ↓w_iaload, ↓w_istore_7, ↓w_iload_1, ↓w_iv, ↓pm_cl2_3, ↓w_ifne, ↓w_goto, hM2]
      repeat' (first
        | (apply And.intro)
        | (with_reducible refine bX11_share_6 ?_; simp (disch := first | omega | decide) only [w_nl0, w_nli, w_nlr, ↓w_ts1, ↓w_ts0, w_rcv, w_rfv, w_cs, true_and, and_true, List.length_nil, List.length_cons, Nat.reduceAdd, Nat.reduceLeDiff, Nat.zero_le, Nat.reduceLT, ↓w_nil, ix_nI, nI_leP, nI_ltP, nI_eqP, nI_1, ↓i_inN, i_inN, l_le, l_lt, l_eq, r_le, r_lt, r_eq, sh0, sh1, sh55, sh60, sh9, sh31, sh23, sh37, sh42, sh43, sh19, sh3, sh6, ↓w_iload_1, ↓w_bipush, ↓w_is, ↓pm_cl1_2, ↓w_ifne, ↓w_iconst, ↓w_ret, ↓w_lconst0, ↓w_lstore_2, ↓w_lstore_4, ↓w_istore_6, ↓w_iload_6, ↓w_aload_0, ↓w_gf3, ↓w_gf0, ↓w_icge, ↓w_iaload, ↓w_istore_7, ↓w_iv, ↓pm_cl2_3, ↓w_goto, ↓w_iload_7, ↓w_ifle, ↓w_lload_2, ↓w_i2l, ↓w_ladd, ↓w_lload_4, ↓w_lsub, ↓w_iinc_6, ↓w_lcmp, ↓pm_cl2_2, lg_eq0])
        | (with_reducible refine bX11_share_7 ?_; simp (disch := first | omega | decide) only [w_nl0, w_nli, w_nlr, ↓w_ts1, ↓w_ts0, w_rcv, w_rfv, w_cs, true_and, and_true, List.length_nil, List.length_cons, Nat.reduceAdd, Nat.reduceLeDiff, Nat.zero_le, Nat.reduceLT, ↓w_nil, ix_nI, nI_leP, nI_ltP, nI_eqP, nI_1, ↓i_inN, i_inN, l_le, l_lt, l_eq, r_le, r_lt, r_eq, sh0, sh1, sh55, sh60, sh9, sh31, sh23, sh37, sh42, sh43, sh19, sh3, sh6, ↓w_iload_1, ↓w_bipush, ↓w_is, ↓pm_cl1_2, ↓w_ifne, ↓w_iconst, ↓w_ret, ↓w_lconst0, ↓w_lstore_2, ↓w_lstore_4, ↓w_istore_6, ↓w_iload_6, ↓w_aload_0, ↓w_gf3, ↓w_gf0, ↓w_icge, ↓w_iaload, ↓w_istore_7, ↓w_iv, ↓pm_cl2_3, ↓w_goto, ↓w_iload_7, ↓w_ifle, ↓w_lload_2, ↓w_i2l, ↓w_ladd, ↓w_lload_4, ↓w_lsub, ↓w_iinc_6, ↓w_lcmp, ↓pm_cl2_2, lg_eq0])
        | (with_reducible refine c_fraction (by omega) h2 ?_ ; simp (disch := first | omega | decide) only [w_nl0, w_nli, w_nlr, ↓w_ts1, ↓w_ts0, w_rcv, w_rfv, w_cs, true_and, and_true, List.length_nil, List.length_cons, Nat.reduceAdd, Nat.reduceLeDiff, Nat.zero_le, Nat.reduceLT, ↓w_nil, ix_nI, nI_leP, nI_ltP, nI_eqP, nI_1, ↓i_inN, i_inN, l_le, l_lt, l_eq, r_le, r_lt, r_eq, sh0, sh1, sh55, sh60, sh9, sh31, sh23, sh37, sh42, sh43, sh19, sh3, sh6, ↓w_iload_1, ↓w_bipush, ↓w_is, ↓pm_cl1_2, ↓w_ifne, ↓w_iconst, ↓w_ret, ↓w_lconst0, ↓w_lstore_2, ↓w_lstore_4, ↓w_istore_6, ↓w_iload_6, ↓w_aload_0, ↓w_gf3, ↓w_gf0, ↓w_icge, ↓w_iaload, ↓w_istore_7, ↓w_iv, ↓pm_cl2_3, ↓w_goto, ↓w_iload_7, ↓w_ifle, ↓w_lload_2, ↓w_i2l, ↓w_ladd, ↓w_lload_4, ↓w_lsub, ↓w_iinc_6, ↓w_lcmp, ↓pm_cl2_2, lg_eq0])
        | (simp only [w_in])
        | (intro _))
      all_goals grind
theorem m_share {s : Int32} {N M n : Nat} (hd : 8 ≤ d) (hs : 0 ≤ s ∧ s < 20) (hN : N ≤ 30) (hM2 : I 68 67 = nI M) (hM : M ≤ 60) (hfk : FK I N M) (e56 : I 113 = I 56) (p : Int64 × Int64) (hp : itr (mshS I s) (0, 0) M = p) (h0 : p.1 = 0 → Q (some (.int (-3))) SH (pm_up (pm_up I 68 0 4) 69 (4 : Int32).toNatClampNeg (I 69 (4 : Int32).toNatClampNeg + 1)) J) (h1 : ¬ p.1 = 0 → (euI n (p.2, p.1)).2 = 0 ∧ ¬ (euI n (p.2, p.1)).1 = 0 ∧ Q (some (.int 1)) SH I (pm_upL (pm_upL J 68 3 (p.2 / (euI n (p.2, p.1)).1)) 68 4 (p.1 / (euI n (p.2, p.1)).1))) : pm_C g d 279 [.ref 68, .int s] Q SH I J := by
  refine eX12_share (by omega) ?_
  repeat' (first
    | (apply And.intro)
    | (with_reducible refine bX12_share_0 ?_; simp (disch := first | omega | decide) only [w_nl0, w_nli, w_nlr, ↓w_ts1, ↓w_ts0, w_rcv, w_rfv, w_cs, true_and, and_true, List.length_nil, List.length_cons, Nat.reduceAdd, Nat.reduceLeDiff, Nat.zero_le, Nat.reduceLT, ↓w_nil, ix_nI, nI_leP, nI_ltP, nI_eqP, nI_1, ↓i_inN, i_inN, l_le, l_lt, l_eq, r_le, r_lt, r_eq, sh68_0, sh68_1, sh68_2, sh68_3, sh68_4, ↓w_iload_1, ↓w_is, ↓pm_cl1_1, ↓w_ifne, ↓w_iconst, ↓w_ret, ↓w_lconst0, ↓w_lstore_2, ↓w_lstore_4, ↓w_istore_6, ↓w_iload_6, ↓w_aload_0, ↓w_gf0, ↓w_icge, ↓w_gf3, ↓w_iaload, ↓w_iv, ↓pm_cl2_3, ↓w_ifle, ↓w_lload_2, ↓w_i2l, ↓w_goto, ↓w_ladd, ↓w_lload_4, ↓w_ifge, ↓w_lsub, ↓w_iinc_6, ↓w_lcmp, ↓pm_cl2_2, ↓pm_cl2_4])
    | (with_reducible refine bX12_share_1 ?_; simp (disch := first | omega | decide) only [w_nl0, w_nli, w_nlr, ↓w_ts1, ↓w_ts0, w_rcv, w_rfv, w_cs, true_and, and_true, List.length_nil, List.length_cons, Nat.reduceAdd, Nat.reduceLeDiff, Nat.zero_le, Nat.reduceLT, ↓w_nil, ix_nI, nI_leP, nI_ltP, nI_eqP, nI_1, ↓i_inN, i_inN, l_le, l_lt, l_eq, r_le, r_lt, r_eq, sh68_0, sh68_1, sh68_2, sh68_3, sh68_4, ↓w_iload_1, ↓w_is, ↓pm_cl1_1, ↓w_ifne, ↓w_iconst, ↓w_ret, ↓w_lconst0, ↓w_lstore_2, ↓w_lstore_4, ↓w_istore_6, ↓w_iload_6, ↓w_aload_0, ↓w_gf0, ↓w_icge, ↓w_gf3, ↓w_iaload, ↓w_iv, ↓pm_cl2_3, ↓w_ifle, ↓w_lload_2, ↓w_i2l, ↓w_goto, ↓w_ladd, ↓w_lload_4, ↓w_ifge, ↓w_lsub, ↓w_iinc_6, ↓w_lcmp, ↓pm_cl2_2, ↓pm_cl2_4])
    | (with_reducible refine m_isSide (by omega) ?_ ; simp (disch := first | omega | decide) only [w_nl0, w_nli, w_nlr, ↓w_ts1, ↓w_ts0, w_rcv, w_rfv, w_cs, true_and, and_true, List.length_nil, List.length_cons, Nat.reduceAdd, Nat.reduceLeDiff, Nat.zero_le, Nat.reduceLT, ↓w_nil, ix_nI, nI_leP, nI_ltP, nI_eqP, nI_1, ↓i_inN, i_inN, l_le, l_lt, l_eq, r_le, r_lt, r_eq, sh68_0, sh68_1, sh68_2, sh68_3, sh68_4, ↓w_iload_1, ↓w_is, ↓pm_cl1_1, ↓w_ifne, ↓w_iconst, ↓w_ret, ↓w_lconst0, ↓w_lstore_2, ↓w_lstore_4, ↓w_istore_6, ↓w_iload_6, ↓w_aload_0, ↓w_gf0, ↓w_icge, ↓w_gf3, ↓w_iaload, ↓w_iv, ↓pm_cl2_3, ↓w_ifle, ↓w_lload_2, ↓w_i2l, ↓w_goto, ↓w_ladd, ↓w_lload_4, ↓w_ifge, ↓w_lsub, ↓w_iinc_6, ↓w_lcmp, ↓pm_cl2_2, ↓pm_cl2_4])
    | (simp only [w_in])
    | (intro _))
  all_goals try grind
  refine pm_for (f := mshS I s) (U := fun k (a : Int64 × Int64) => UU g (d - 1) 279 kX12_share (pm_rm d 279) Q 2 [some (.ref 68), some (.int s), some (.long a.1), none, some (.long a.2), none, some (.int (nI k))] [] SH I J (0, 0)) (a := (0, 0)) M (fun k b hk hb w => ?_) ?_
  · obtain ⟨r, a1, b1, hr, e1, i1, i2, f1, f2, ha1, g1, hb1, g2⟩ := hfk k hk
    rw [← e56] at e1
    clear hb hfk h0 h1 hp
    unfold mshS at w
    by_cases c1 : 0 < foV I (I 113 k) s
    · simp only [c1, if_true] at w
      refine bX12_share_2 ?_
      simp (disch := first | omega | decide) only [w_nl0, w_nli, w_nlr, ↓w_ts1, ↓w_ts0, w_rcv, w_rfv, w_cs, true_and, and_true, List.length_nil, List.length_cons, Nat.reduceAdd, Nat.reduceLeDiff, Nat.zero_le, Nat.reduceLT, ↓w_nil, ix_nI, nI_leP, nI_ltP, nI_eqP, nI_1, ↓i_inN, i_inN, l_le, l_lt, l_eq, r_le, r_lt, r_eq, sh68_0, sh68_1, sh68_2, sh68_3, sh68_4, ↓w_iload_6, ↓w_aload_0, ↓w_gf0, ↓w_icge, ↓w_gf3, ↓w_iaload, ↓w_iload_1, ↓w_iv, ↓pm_cl2_3, ↓w_ifle, ↓w_lload_2, ↓w_i2l, ↓w_goto, hM2]
      repeat' (first
        | (apply And.intro)
        | (with_reducible refine bX12_share_3 ?_; simp (disch := first | omega | decide) only [w_nl0, w_nli, w_nlr, ↓w_ts1, ↓w_ts0, w_rcv, w_rfv, w_cs, true_and, and_true, List.length_nil, List.length_cons, Nat.reduceAdd, Nat.reduceLeDiff, Nat.zero_le, Nat.reduceLT, ↓w_nil, ix_nI, nI_leP, nI_ltP, nI_eqP, nI_1, ↓i_inN, i_inN, l_le, l_lt, l_eq, r_le, r_lt, r_eq, sh68_0, sh68_1, sh68_2, sh68_3, sh68_4, ↓w_iload_1, ↓w_is, ↓pm_cl1_1, ↓w_ifne, ↓w_iconst, ↓w_ret, ↓w_lconst0, ↓w_lstore_2, ↓w_lstore_4, ↓w_istore_6, ↓w_iload_6, ↓w_aload_0, ↓w_gf0, ↓w_icge, ↓w_gf3, ↓w_iaload, ↓w_iv, ↓pm_cl2_3, ↓w_ifle, ↓w_lload_2, ↓w_i2l, ↓w_goto, ↓w_ladd, ↓w_lload_4, ↓w_ifge, ↓w_lsub, ↓w_iinc_6, ↓w_lcmp, ↓pm_cl2_2, ↓pm_cl2_4])
        | (with_reducible refine bX12_share_4 ?_; simp (disch := first | omega | decide) only [w_nl0, w_nli, w_nlr, ↓w_ts1, ↓w_ts0, w_rcv, w_rfv, w_cs, true_and, and_true, List.length_nil, List.length_cons, Nat.reduceAdd, Nat.reduceLeDiff, Nat.zero_le, Nat.reduceLT, ↓w_nil, ix_nI, nI_leP, nI_ltP, nI_eqP, nI_1, ↓i_inN, i_inN, l_le, l_lt, l_eq, r_le, r_lt, r_eq, sh68_0, sh68_1, sh68_2, sh68_3, sh68_4, ↓w_iload_1, ↓w_is, ↓pm_cl1_1, ↓w_ifne, ↓w_iconst, ↓w_ret, ↓w_lconst0, ↓w_lstore_2, ↓w_lstore_4, ↓w_istore_6, ↓w_iload_6, ↓w_aload_0, ↓w_gf0, ↓w_icge, ↓w_gf3, ↓w_iaload, ↓w_iv, ↓pm_cl2_3, ↓w_ifle, ↓w_lload_2, ↓w_i2l, ↓w_goto, ↓w_ladd, ↓w_lload_4, ↓w_ifge, ↓w_lsub, ↓w_iinc_6, ↓w_lcmp, ↓pm_cl2_2, ↓pm_cl2_4])
        | (with_reducible refine bX12_share_5 ?_; simp (disch := first | omega | decide) only [w_nl0, w_nli, w_nlr, ↓w_ts1, ↓w_ts0, w_rcv, w_rfv, w_cs, true_and, and_true, List.length_nil, List.length_cons, Nat.reduceAdd, Nat.reduceLeDiff, Nat.zero_le, Nat.reduceLT, ↓w_nil, ix_nI, nI_leP, nI_ltP, nI_eqP, nI_1, ↓i_inN, i_inN, l_le, l_lt, l_eq, r_le, r_lt, r_eq, sh68_0, sh68_1, sh68_2, sh68_3, sh68_4, ↓w_iload_1, ↓w_is, ↓pm_cl1_1, ↓w_ifne, ↓w_iconst, ↓w_ret, ↓w_lconst0, ↓w_lstore_2, ↓w_lstore_4, ↓w_istore_6, ↓w_iload_6, ↓w_aload_0, ↓w_gf0, ↓w_icge, ↓w_gf3, ↓w_iaload, ↓w_iv, ↓pm_cl2_3, ↓w_ifle, ↓w_lload_2, ↓w_i2l, ↓w_goto, ↓w_ladd, ↓w_lload_4, ↓w_ifge, ↓w_lsub, ↓w_iinc_6, ↓w_lcmp, ↓pm_cl2_2, ↓pm_cl2_4])
        | (with_reducible refine bX12_share_6 ?_; simp (disch := first | omega | decide) only [w_nl0, w_nli, w_nlr, ↓w_ts1, ↓w_ts0, w_rcv, w_rfv, w_cs, true_and, and_true, List.length_nil, List.length_cons, Nat.reduceAdd, Nat.reduceLeDiff, Nat.zero_le, Nat.reduceLT, ↓w_nil, ix_nI, nI_leP, nI_ltP, nI_eqP, nI_1, ↓i_inN, i_inN, l_le, l_lt, l_eq, r_le, r_lt, r_eq, sh68_0, sh68_1, sh68_2, sh68_3, sh68_4, ↓w_iload_1, ↓w_is, ↓pm_cl1_1, ↓w_ifne, ↓w_iconst, ↓w_ret, ↓w_lconst0, ↓w_lstore_2, ↓w_lstore_4, ↓w_istore_6, ↓w_iload_6, ↓w_aload_0, ↓w_gf0, ↓w_icge, ↓w_gf3, ↓w_iaload, ↓w_iv, ↓pm_cl2_3, ↓w_ifle, ↓w_lload_2, ↓w_i2l, ↓w_goto, ↓w_ladd, ↓w_lload_4, ↓w_ifge, ↓w_lsub, ↓w_iinc_6, ↓w_lcmp, ↓pm_cl2_2, ↓pm_cl2_4])
        | (with_reducible refine bX12_share_7 ?_; simp (disch := first | omega | decide) only [w_nl0, w_nli, w_nlr, ↓w_ts1, ↓w_ts0, w_rcv, w_rfv, w_cs, true_and, and_true, List.length_nil, List.length_cons, Nat.reduceAdd, Nat.reduceLeDiff, Nat.zero_le, Nat.reduceLT, ↓w_nil, ix_nI, nI_leP, nI_ltP, nI_eqP, nI_1, ↓i_inN, i_inN, l_le, l_lt, l_eq, r_le, r_lt, r_eq, sh68_0, sh68_1, sh68_2, sh68_3, sh68_4, ↓w_iload_1, ↓w_is, ↓pm_cl1_1, ↓w_ifne, ↓w_iconst, ↓w_ret, ↓w_lconst0, ↓w_lstore_2, ↓w_lstore_4, ↓w_istore_6, ↓w_iload_6, ↓w_aload_0, ↓w_gf0, ↓w_icge, ↓w_gf3, ↓w_iaload, ↓w_iv, ↓pm_cl2_3, ↓w_ifle, ↓w_lload_2, ↓w_i2l, ↓w_goto, ↓w_ladd, ↓w_lload_4, ↓w_ifge, ↓w_lsub, ↓w_iinc_6, ↓w_lcmp, ↓pm_cl2_2, ↓pm_cl2_4])
        | (with_reducible refine m_facesOf (r := r) (a := a1) (b := b1) (by omega) e1 (by omega) g1 ha1 g2 hb1 ?_ ; simp (disch := first | omega | decide) only [w_nl0, w_nli, w_nlr, ↓w_ts1, ↓w_ts0, w_rcv, w_rfv, w_cs, true_and, and_true, List.length_nil, List.length_cons, Nat.reduceAdd, Nat.reduceLeDiff, Nat.zero_le, Nat.reduceLT, ↓w_nil, ix_nI, nI_leP, nI_ltP, nI_eqP, nI_1, ↓i_inN, i_inN, l_le, l_lt, l_eq, r_le, r_lt, r_eq, sh68_0, sh68_1, sh68_2, sh68_3, sh68_4, ↓w_iload_1, ↓w_is, ↓pm_cl1_1, ↓w_ifne, ↓w_iconst, ↓w_ret, ↓w_lconst0, ↓w_lstore_2, ↓w_lstore_4, ↓w_istore_6, ↓w_iload_6, ↓w_aload_0, ↓w_gf0, ↓w_icge, ↓w_gf3, ↓w_iaload, ↓w_iv, ↓pm_cl2_3, ↓w_ifle, ↓w_lload_2, ↓w_i2l, ↓w_goto, ↓w_ladd, ↓w_lload_4, ↓w_ifge, ↓w_lsub, ↓w_iinc_6, ↓w_lcmp, ↓pm_cl2_2, ↓pm_cl2_4])
        | (simp only [w_in])
        | (intro _))
      all_goals grind
    · simp only [c1, if_false] at w
      refine bX12_share_2 ?_
      simp (disch := first | omega | decide) only [w_nl0, w_nli, w_nlr, ↓w_ts1, ↓w_ts0, w_rcv, w_rfv, w_cs, true_and, and_true, List.length_nil, List.length_cons, Nat.reduceAdd, Nat.reduceLeDiff, Nat.zero_le, Nat.reduceLT, ↓w_nil, ix_nI, nI_leP, nI_ltP, nI_eqP, nI_1, ↓i_inN, i_inN, l_le, l_lt, l_eq, r_le, r_lt, r_eq, sh68_0, sh68_1, sh68_2, sh68_3, sh68_4, ↓w_iload_6, ↓w_aload_0, ↓w_gf0, ↓w_icge, ↓w_gf3, ↓w_iaload, ↓w_iload_1, ↓w_iv, ↓pm_cl2_3, ↓w_ifle, ↓w_lload_2, ↓w_i2l, ↓w_goto, hM2]
      repeat' (first
        | (apply And.intro)
        | (with_reducible refine bX12_share_3 ?_; simp (disch := first | omega | decide) only [w_nl0, w_nli, w_nlr, ↓w_ts1, ↓w_ts0, w_rcv, w_rfv, w_cs, true_and, and_true, List.length_nil, List.length_cons, Nat.reduceAdd, Nat.reduceLeDiff, Nat.zero_le, Nat.reduceLT, ↓w_nil, ix_nI, nI_leP, nI_ltP, nI_eqP, nI_1, ↓i_inN, i_inN, l_le, l_lt, l_eq, r_le, r_lt, r_eq, sh68_0, sh68_1, sh68_2, sh68_3, sh68_4, ↓w_iload_1, ↓w_is, ↓pm_cl1_1, ↓w_ifne, ↓w_iconst, ↓w_ret, ↓w_lconst0, ↓w_lstore_2, ↓w_lstore_4, ↓w_istore_6, ↓w_iload_6, ↓w_aload_0, ↓w_gf0, ↓w_icge, ↓w_gf3, ↓w_iaload, ↓w_iv, ↓pm_cl2_3, ↓w_ifle, ↓w_lload_2, ↓w_i2l, ↓w_goto, ↓w_ladd, ↓w_lload_4, ↓w_ifge, ↓w_lsub, ↓w_iinc_6, ↓w_lcmp, ↓pm_cl2_2, ↓pm_cl2_4])
        | (with_reducible refine bX12_share_4 ?_; simp (disch := first | omega | decide) only [w_nl0, w_nli, w_nlr, ↓w_ts1, ↓w_ts0, w_rcv, w_rfv, w_cs, true_and, and_true, List.length_nil, List.length_cons, Nat.reduceAdd, Nat.reduceLeDiff, Nat.zero_le, Nat.reduceLT, ↓w_nil, ix_nI, nI_leP, nI_ltP, nI_eqP, nI_1, ↓i_inN, i_inN, l_le, l_lt, l_eq, r_le, r_lt, r_eq, sh68_0, sh68_1, sh68_2, sh68_3, sh68_4, ↓w_iload_1, ↓w_is, ↓pm_cl1_1, ↓w_ifne, ↓w_iconst, ↓w_ret, ↓w_lconst0, ↓w_lstore_2, ↓w_lstore_4, ↓w_istore_6, ↓w_iload_6, ↓w_aload_0, ↓w_gf0, ↓w_icge, ↓w_gf3, ↓w_iaload, ↓w_iv, ↓pm_cl2_3, ↓w_ifle, ↓w_lload_2, ↓w_i2l, ↓w_goto, ↓w_ladd, ↓w_lload_4, ↓w_ifge, ↓w_lsub, ↓w_iinc_6, ↓w_lcmp, ↓pm_cl2_2, ↓pm_cl2_4])
        | (with_reducible refine bX12_share_5 ?_; simp (disch := first | omega | decide) only [w_nl0, w_nli, w_nlr, ↓w_ts1, ↓w_ts0, w_rcv, w_rfv, w_cs, true_and, and_true, List.length_nil, List.length_cons, Nat.reduceAdd, Nat.reduceLeDiff, Nat.zero_le, Nat.reduceLT, ↓w_nil, ix_nI, nI_leP, nI_ltP, nI_eqP, nI_1, ↓i_inN, i_inN, l_le, l_lt, l_eq, r_le, r_lt, r_eq, sh68_0, sh68_1, sh68_2, sh68_3, sh68_4, ↓w_iload_1, ↓w_is, ↓pm_cl1_1, ↓w_ifne, ↓w_iconst, ↓w_ret, ↓w_lconst0, ↓w_lstore_2, ↓w_lstore_4, ↓w_istore_6, ↓w_iload_6, ↓w_aload_0, ↓w_gf0, ↓w_icge, ↓w_gf3, ↓w_iaload, ↓w_iv, ↓pm_cl2_3, ↓w_ifle, ↓w_lload_2, ↓w_i2l, ↓w_goto, ↓w_ladd, ↓w_lload_4, ↓w_ifge, ↓w_lsub, ↓w_iinc_6, ↓w_lcmp, ↓pm_cl2_2, ↓pm_cl2_4])
        | (with_reducible refine bX12_share_6 ?_; simp (disch := first | omega | decide) only [w_nl0, w_nli, w_nlr, ↓w_ts1, ↓w_ts0, w_rcv, w_rfv, w_cs, true_and, and_true, List.length_nil, List.length_cons, Nat.reduceAdd, Nat.reduceLeDiff, Nat.zero_le, Nat.reduceLT, ↓w_nil, ix_nI, nI_leP, nI_ltP, nI_eqP, nI_1, ↓i_inN, i_inN, l_le, l_lt, l_eq, r_le, r_lt, r_eq, sh68_0, sh68_1, sh68_2, sh68_3, sh68_4, ↓w_iload_1, ↓w_is, ↓pm_cl1_1, ↓w_ifne, ↓w_iconst, ↓w_ret, ↓w_lconst0, ↓w_lstore_2, ↓w_lstore_4, ↓w_istore_6, ↓w_iload_6, ↓w_aload_0, ↓w_gf0, ↓w_icge, ↓w_gf3, ↓w_iaload, ↓w_iv, ↓pm_cl2_3, ↓w_ifle, ↓w_lload_2, ↓w_i2l, ↓w_goto, ↓w_ladd, ↓w_lload_4, ↓w_ifge, ↓w_lsub, ↓w_iinc_6, ↓w_lcmp, ↓pm_cl2_2, ↓pm_cl2_4])
        | (with_reducible refine bX12_share_7 ?_; simp (disch := first | omega | decide) only [w_nl0, w_nli, w_nlr, ↓w_ts1, ↓w_ts0, w_rcv, w_rfv, w_cs, true_and, and_true, List.length_nil, List.length_cons, Nat.reduceAdd, Nat.reduceLeDiff, Nat.zero_le, Nat.reduceLT, ↓w_nil, ix_nI, nI_leP, nI_ltP, nI_eqP, nI_1, ↓i_inN, i_inN, l_le, l_lt, l_eq, r_le, r_lt, r_eq, sh68_0, sh68_1, sh68_2, sh68_3, sh68_4, ↓w_iload_1, ↓w_is, ↓pm_cl1_1, ↓w_ifne, ↓w_iconst, ↓w_ret, ↓w_lconst0, ↓w_lstore_2, ↓w_lstore_4, ↓w_istore_6, ↓w_iload_6, ↓w_aload_0, ↓w_gf0, ↓w_icge, ↓w_gf3, ↓w_iaload, ↓w_iv, ↓pm_cl2_3, ↓w_ifle, ↓w_lload_2, ↓w_i2l, ↓w_goto, ↓w_ladd, ↓w_lload_4, ↓w_ifge, ↓w_lsub, ↓w_iinc_6, ↓w_lcmp, ↓pm_cl2_2, ↓pm_cl2_4])
        | (with_reducible refine m_facesOf (r := r) (a := a1) (b := b1) (by omega) e1 (by omega) g1 ha1 g2 hb1 ?_ ; simp (disch := first | omega | decide) only [w_nl0, w_nli, w_nlr, ↓w_ts1, ↓w_ts0, w_rcv, w_rfv, w_cs, true_and, and_true, List.length_nil, List.length_cons, Nat.reduceAdd, Nat.reduceLeDiff, Nat.zero_le, Nat.reduceLT, ↓w_nil, ix_nI, nI_leP, nI_ltP, nI_eqP, nI_1, ↓i_inN, i_inN, l_le, l_lt, l_eq, r_le, r_lt, r_eq, sh68_0, sh68_1, sh68_2, sh68_3, sh68_4, ↓w_iload_1, ↓w_is, ↓pm_cl1_1, ↓w_ifne, ↓w_iconst, ↓w_ret, ↓w_lconst0, ↓w_lstore_2, ↓w_lstore_4, ↓w_istore_6, ↓w_iload_6, ↓w_aload_0, ↓w_gf0, ↓w_icge, ↓w_gf3, ↓w_iaload, ↓w_iv, ↓pm_cl2_3, ↓w_ifle, ↓w_lload_2, ↓w_i2l, ↓w_goto, ↓w_ladd, ↓w_lload_4, ↓w_ifge, ↓w_lsub, ↓w_iinc_6, ↓w_lcmp, ↓pm_cl2_2, ↓pm_cl2_4])
        | (simp only [w_in])
        | (intro _))
      all_goals grind
  · rw [hp]
    clear hfk hp
    by_cases hz : p.1 = 0
    · have h0 := h0 hz
      clear h1
      refine bX12_share_2 ?_
      simp (disch := first | omega | decide) only [w_nl0, w_nli, w_nlr, ↓w_ts1, ↓w_ts0, w_rcv, w_rfv, w_cs, true_and, and_true, List.length_nil, List.length_cons, Nat.reduceAdd, Nat.reduceLeDiff, Nat.zero_le, Nat.reduceLT, ↓w_nil, ix_nI, nI_leP, nI_ltP, nI_eqP, nI_1, ↓i_inN, i_inN, l_le, l_lt, l_eq, r_le, r_lt, r_eq, sh68_0, sh68_1, sh68_2, sh68_3, sh68_4, ↓w_iload_6, ↓w_aload_0, ↓w_gf0, ↓w_icge, ↓w_gf3, ↓w_iaload, ↓w_iload_1, ↓w_iv, ↓pm_cl2_3, ↓w_ifle, ↓w_lload_2, ↓w_i2l, ↓w_goto, hM2]
      repeat' (first
        | (apply And.intro)
        | (with_reducible refine bX12_share_8 ?_; simp (disch := first | omega | decide) only [w_nl0, w_nli, w_nlr, ↓w_ts1, ↓w_ts0, w_rcv, w_rfv, w_cs, true_and, and_true, List.length_nil, List.length_cons, Nat.reduceAdd, Nat.reduceLeDiff, Nat.zero_le, Nat.reduceLT, ↓w_nil, ix_nI, nI_leP, nI_ltP, nI_eqP, nI_1, ↓i_inN, i_inN, l_le, l_lt, l_eq, r_le, r_lt, r_eq, sh68_0, sh68_1, sh68_2, sh68_3, sh68_4, ↓w_iload_1, ↓w_is, ↓pm_cl1_1, ↓w_ifne, ↓w_iconst, ↓w_ret, ↓w_lconst0, ↓w_lstore_2, ↓w_lstore_4, ↓w_istore_6, ↓w_iload_6, ↓w_aload_0, ↓w_gf0, ↓w_icge, ↓w_gf3, ↓w_iaload, ↓w_iv, ↓pm_cl2_3, ↓w_ifle, ↓w_lload_2, ↓w_i2l, ↓w_goto, ↓w_ladd, ↓w_lload_4, ↓w_ifge, ↓w_lsub, ↓w_iinc_6, ↓w_lcmp, ↓pm_cl2_2, ↓pm_cl2_4, lg_eq0])
        | (with_reducible refine bX12_share_10 ?_; simp (disch := first | omega | decide) only [w_nl0, w_nli, w_nlr, ↓w_ts1, ↓w_ts0, w_rcv, w_rfv, w_cs, true_and, and_true, List.length_nil, List.length_cons, Nat.reduceAdd, Nat.reduceLeDiff, Nat.zero_le, Nat.reduceLT, ↓w_nil, ix_nI, nI_leP, nI_ltP, nI_eqP, nI_1, ↓i_inN, i_inN, l_le, l_lt, l_eq, r_le, r_lt, r_eq, sh68_0, sh68_1, sh68_2, sh68_3, sh68_4, ↓w_iload_1, ↓w_is, ↓pm_cl1_1, ↓w_ifne, ↓w_iconst, ↓w_ret, ↓w_lconst0, ↓w_lstore_2, ↓w_lstore_4, ↓w_istore_6, ↓w_iload_6, ↓w_aload_0, ↓w_gf0, ↓w_icge, ↓w_gf3, ↓w_iaload, ↓w_iv, ↓pm_cl2_3, ↓w_ifle, ↓w_lload_2, ↓w_i2l, ↓w_goto, ↓w_ladd, ↓w_lload_4, ↓w_ifge, ↓w_lsub, ↓w_iinc_6, ↓w_lcmp, ↓pm_cl2_2, ↓pm_cl2_4, lg_eq0])
        | (with_reducible refine m_meets (by omega) (by decide) (by decide) ?_ ; simp (disch := first | omega | decide) only [w_nl0, w_nli, w_nlr, ↓w_ts1, ↓w_ts0, w_rcv, w_rfv, w_cs, true_and, and_true, List.length_nil, List.length_cons, Nat.reduceAdd, Nat.reduceLeDiff, Nat.zero_le, Nat.reduceLT, ↓w_nil, ix_nI, nI_leP, nI_ltP, nI_eqP, nI_1, ↓i_inN, i_inN, l_le, l_lt, l_eq, r_le, r_lt, r_eq, sh68_0, sh68_1, sh68_2, sh68_3, sh68_4, ↓w_iload_1, ↓w_is, ↓pm_cl1_1, ↓w_ifne, ↓w_iconst, ↓w_ret, ↓w_lconst0, ↓w_lstore_2, ↓w_lstore_4, ↓w_istore_6, ↓w_iload_6, ↓w_aload_0, ↓w_gf0, ↓w_icge, ↓w_gf3, ↓w_iaload, ↓w_iv, ↓pm_cl2_3, ↓w_ifle, ↓w_lload_2, ↓w_i2l, ↓w_goto, ↓w_ladd, ↓w_lload_4, ↓w_ifge, ↓w_lsub, ↓w_iinc_6, ↓w_lcmp, ↓pm_cl2_2, ↓pm_cl2_4, lg_eq0])
        | (simp only [w_in])
        | (intro _))
      all_goals grind
    · obtain ⟨h2, h3, h4⟩ := h1 hz
      clear h0 h1
      refine bX12_share_2 ?_
      simp (disch := first | omega | decide) only [w_nl0, w_nli, w_nlr, ↓w_ts1, ↓w_ts0, w_rcv, w_rfv, w_cs, true_and, and_true, List.length_nil, List.length_cons, Nat.reduceAdd, Nat.reduceLeDiff, Nat.zero_le, Nat.reduceLT, ↓w_nil, ix_nI, nI_leP, nI_ltP, nI_eqP, nI_1, ↓i_inN, i_inN, l_le, l_lt, l_eq, r_le, r_lt, r_eq, sh68_0, sh68_1, sh68_2, sh68_3, sh68_4, ↓w_iload_6, ↓w_aload_0, ↓w_gf0, ↓w_icge, ↓w_gf3, ↓w_iaload, ↓w_iload_1, ↓w_iv, ↓pm_cl2_3, ↓w_ifle, ↓w_lload_2, ↓w_i2l, ↓w_goto, hM2]
      repeat' (first
        | (apply And.intro)
        | (with_reducible refine bX12_share_8 ?_; simp (disch := first | omega | decide) only [w_nl0, w_nli, w_nlr, ↓w_ts1, ↓w_ts0, w_rcv, w_rfv, w_cs, true_and, and_true, List.length_nil, List.length_cons, Nat.reduceAdd, Nat.reduceLeDiff, Nat.zero_le, Nat.reduceLT, ↓w_nil, ix_nI, nI_leP, nI_ltP, nI_eqP, nI_1, ↓i_inN, i_inN, l_le, l_lt, l_eq, r_le, r_lt, r_eq, sh68_0, sh68_1, sh68_2, sh68_3, sh68_4, ↓w_iload_1, ↓w_is, ↓pm_cl1_1, ↓w_ifne, ↓w_iconst, ↓w_ret, ↓w_lconst0, ↓w_lstore_2, ↓w_lstore_4, ↓w_istore_6, ↓w_iload_6, ↓w_aload_0, ↓w_gf0, ↓w_icge, ↓w_gf3, ↓w_iaload, ↓w_iv, ↓pm_cl2_3, ↓w_ifle, ↓w_lload_2, ↓w_i2l, ↓w_goto, ↓w_ladd, ↓w_lload_4, ↓w_ifge, ↓w_lsub, ↓w_iinc_6, ↓w_lcmp, ↓pm_cl2_2, ↓pm_cl2_4, lg_eq0])
        | (with_reducible refine bX12_share_9 ?_; simp (disch := first | omega | decide) only [w_nl0, w_nli, w_nlr, ↓w_ts1, ↓w_ts0, w_rcv, w_rfv, w_cs, true_and, and_true, List.length_nil, List.length_cons, Nat.reduceAdd, Nat.reduceLeDiff, Nat.zero_le, Nat.reduceLT, ↓w_nil, ix_nI, nI_leP, nI_ltP, nI_eqP, nI_1, ↓i_inN, i_inN, l_le, l_lt, l_eq, r_le, r_lt, r_eq, sh68_0, sh68_1, sh68_2, sh68_3, sh68_4, ↓w_iload_1, ↓w_is, ↓pm_cl1_1, ↓w_ifne, ↓w_iconst, ↓w_ret, ↓w_lconst0, ↓w_lstore_2, ↓w_lstore_4, ↓w_istore_6, ↓w_iload_6, ↓w_aload_0, ↓w_gf0, ↓w_icge, ↓w_gf3, ↓w_iaload, ↓w_iv, ↓pm_cl2_3, ↓w_ifle, ↓w_lload_2, ↓w_i2l, ↓w_goto, ↓w_ladd, ↓w_lload_4, ↓w_ifge, ↓w_lsub, ↓w_iinc_6, ↓w_lcmp, ↓pm_cl2_2, ↓pm_cl2_4, lg_eq0])
        | (with_reducible refine bX12_share_10 ?_; simp (disch := first | omega | decide) only [w_nl0, w_nli, w_nlr, ↓w_ts1, ↓w_ts0, w_rcv, w_rfv, w_cs, true_and, and_true, List.length_nil, List.length_cons, Nat.reduceAdd, Nat.reduceLeDiff, Nat.zero_le, Nat.reduceLT, ↓w_nil, ix_nI, nI_leP, nI_ltP, nI_eqP, nI_1, ↓i_inN, i_inN, l_le, l_lt, l_eq, r_le, r_lt, r_eq, sh68_0, sh68_1, sh68_2, sh68_3, sh68_4, ↓w_iload_1, ↓w_is, ↓pm_cl1_1, ↓w_ifne, ↓w_iconst, ↓w_ret, ↓w_lconst0, ↓w_lstore_2, ↓w_lstore_4, ↓w_istore_6, ↓w_iload_6, ↓w_aload_0, ↓w_gf0, ↓w_icge, ↓w_gf3, ↓w_iaload, ↓w_iv, ↓pm_cl2_3, ↓w_ifle, ↓w_lload_2, ↓w_i2l, ↓w_goto, ↓w_ladd, ↓w_lload_4, ↓w_ifge, ↓w_lsub, ↓w_iinc_6, ↓w_lcmp, ↓pm_cl2_2, ↓pm_cl2_4, lg_eq0])
        | (with_reducible refine m_fraction (n := n) (by omega) h2 h3 ?_ ; simp (disch := first | omega | decide) only [w_nl0, w_nli, w_nlr, ↓w_ts1, ↓w_ts0, w_rcv, w_rfv, w_cs, true_and, and_true, List.length_nil, List.length_cons, Nat.reduceAdd, Nat.reduceLeDiff, Nat.zero_le, Nat.reduceLT, ↓w_nil, ix_nI, nI_leP, nI_ltP, nI_eqP, nI_1, ↓i_inN, i_inN, l_le, l_lt, l_eq, r_le, r_lt, r_eq, sh68_0, sh68_1, sh68_2, sh68_3, sh68_4, ↓w_iload_1, ↓w_is, ↓pm_cl1_1, ↓w_ifne, ↓w_iconst, ↓w_ret, ↓w_lconst0, ↓w_lstore_2, ↓w_lstore_4, ↓w_istore_6, ↓w_iload_6, ↓w_aload_0, ↓w_gf0, ↓w_icge, ↓w_gf3, ↓w_iaload, ↓w_iv, ↓pm_cl2_3, ↓w_ifle, ↓w_lload_2, ↓w_i2l, ↓w_goto, ↓w_ladd, ↓w_lload_4, ↓w_ifge, ↓w_lsub, ↓w_iinc_6, ↓w_lcmp, ↓pm_cl2_2, ↓pm_cl2_4, lg_eq0])
        | (simp only [w_in])
        | (intro _))
      all_goals grind
theorem p_share {s : Int32} (hd : 10 ≤ d) : PC g d 170 279 [.int s] := by
  intro I J h
  have hw := relw h
  by_cases hg : 0 ≤ s ∧ s < 20
  · obtain ⟨n1, p1, p2, p3, p4, p5, p6, N, hN, hN2, hr⟩ := h.2.2.2.2.2.2.1
    clear hr
    obtain ⟨q1, q2, q3, q4, q5, M, hM, hM2, hs⟩ := h.2.2.2.2.2.2.2.2.2.1
    have hfk := rel_fk h hN2 hN hM2 hM
    have s1 : I 80 = I 11 := h.2.2.2.2.1.2.2.2.1
    have e := sh_eq (s := s) hN hfk s1 q2 q3
    obtain ⟨p, q, hp, hq, e2⟩ := sh_rng (s := s) hM (fun k hk => (hs k hk).2.1)
    clear hs
    have e3 := eu_N 200 q p (by omega) (by omega)
    refine c_share (N := N) (M := M) (by omega) hg hN2 hN hM2 hM hfk _ e2 (fun hz => ?_) (fun hz => ?_)
    · refine ⟨rfl, MC.of ?_⟩
      have hfk2 : FK (pm_up (pm_up I 1 1 4) 2 (4 : Int32).toNatClampNeg (I 2 (4 : Int32).toNatClampNeg + 1)) N M := by
        unfold FK hasM
        simp (disch := decide) only [pm_up_o]
        exact hfk
      have e4 : itr (mshS (pm_up (pm_up I 1 1 4) 2 (4 : Int32).toNatClampNeg (I 2 (4 : Int32).toNatClampNeg + 1)) s) (0, 0) M = (Int64.ofNat p, Int64.ofNat q) := by
        rw [← e2, ← e]
        unfold mshS foV
        simp (disch := decide) only [pm_up_o]
      refine m_share (N := N) (M := M) (n := 0) (by omega) hg hN (by simp (disch := decide) only [pm_up_o, q1, hM2]) hM hfk2 (by simp (disch := decide) only [pm_up_o, q2]) _ e4 (fun _ => ?_) (fun z => absurd hz z)
      refine ⟨rfl, rfl, ?_⟩
      simp (disch := decide) only [pm_up_o]
      exact relw_found hw
    · have hp0 : 0 < p := by
        rcases Nat.eq_zero_or_pos p with h | h
        · rw [h] at hz
          exact absurd rfl hz
        · exact h
      have f1 := eu_end 20 200 q p (by omega) (by omega)
      have f2 := eu_pos 200 q p (Or.inr hp0) f1
      have f3 := eu_le 200 q p 1000000 (by omega) (by omega)
      have f4 : (0 : Int64) < (euI 200 (Int64.ofNat q, Int64.ofNat p)).1 := by
        rw [e3]
        exact (Int64.ofNat_lt_iff_lt (a := 0) (by omega) (by omega)).2 f2
      have f5 : (euI 200 (Int64.ofNat q, Int64.ofNat p)).2 = 0 := by
        rw [e3, f1]
        rfl
      refine ⟨f4, rfl, MC.of ?_⟩
      refine m_share (N := N) (M := M) (n := 200) (by omega) hg hN (by rw [q1, hM2]) hM hfk q2 _ (e.trans e2) (fun z => absurd z hz) (fun _ => ⟨f5, ?_, rfl, rfl, rel_frac hw⟩)
      intro z
      rw [z] at f4
      exact Int64.lt_irrefl f4
  · refine eX11_share (by omega) ?_
    repeat' (first
      | (apply And.intro)
      | (with_reducible refine bX11_share_0 ?_; simp (disch := first | omega | decide) only [w_nl0, w_nli, w_nlr, ↓w_ts1, ↓w_ts0, w_rcv, w_rfv, w_cs, true_and, and_true, List.length_nil, List.length_cons, Nat.reduceAdd, Nat.reduceLeDiff, Nat.zero_le, Nat.reduceLT, ↓w_nil, ix_nI, nI_leP, nI_ltP, nI_eqP, nI_1, ↓i_inN, i_inN, l_le, l_lt, l_eq, r_le, r_lt, r_eq, sh0, sh1, sh55, sh60, sh9, sh31, sh23, sh37, sh42, sh43, sh19, sh3, sh6, ↓w_iload_1, ↓w_bipush, ↓w_is, ↓pm_cl1_2, ↓w_ifne, ↓w_iconst, ↓w_ret, ↓w_lconst0, ↓w_lstore_2, ↓w_lstore_4, ↓w_istore_6, ↓w_iload_6, ↓w_aload_0, ↓w_gf3, ↓w_gf0, ↓w_icge, ↓w_iaload, ↓w_istore_7, ↓w_iv, ↓pm_cl2_3, ↓w_goto, ↓w_iload_7, ↓w_ifle, ↓w_lload_2, ↓w_i2l, ↓w_ladd, ↓w_lload_4, ↓w_lsub, ↓w_iinc_6, ↓w_lcmp, ↓pm_cl2_2])
      | (with_reducible refine c_below (by omega) ?_ ; simp (disch := first | omega | decide) only [w_nl0, w_nli, w_nlr, ↓w_ts1, ↓w_ts0, w_rcv, w_rfv, w_cs, true_and, and_true, List.length_nil, List.length_cons, Nat.reduceAdd, Nat.reduceLeDiff, Nat.zero_le, Nat.reduceLT, ↓w_nil, ix_nI, nI_leP, nI_ltP, nI_eqP, nI_1, ↓i_inN, i_inN, l_le, l_lt, l_eq, r_le, r_lt, r_eq, sh0, sh1, sh55, sh60, sh9, sh31, sh23, sh37, sh42, sh43, sh19, sh3, sh6, ↓w_iload_1, ↓w_bipush, ↓w_is, ↓pm_cl1_2, ↓w_ifne, ↓w_iconst, ↓w_ret, ↓w_lconst0, ↓w_lstore_2, ↓w_lstore_4, ↓w_istore_6, ↓w_iload_6, ↓w_aload_0, ↓w_gf3, ↓w_gf0, ↓w_icge, ↓w_iaload, ↓w_istore_7, ↓w_iv, ↓pm_cl2_3, ↓w_goto, ↓w_iload_7, ↓w_ifle, ↓w_lload_2, ↓w_i2l, ↓w_ladd, ↓w_lload_4, ↓w_lsub, ↓w_iinc_6, ↓w_lcmp, ↓pm_cl2_2])
      | (simp only [w_in])
      | (intro _))
    all_goals try rfl
    all_goals try grind
    all_goals try refine MC.of (eX12_share (by omega) ?_)
    all_goals
      repeat' (first
        | (apply And.intro)
        | (with_reducible refine bX12_share_0 ?_; simp (disch := first | omega | decide) only [w_nl0, w_nli, w_nlr, ↓w_ts1, ↓w_ts0, w_rcv, w_rfv, w_cs, true_and, and_true, List.length_nil, List.length_cons, Nat.reduceAdd, Nat.reduceLeDiff, Nat.zero_le, Nat.reduceLT, ↓w_nil, ix_nI, nI_leP, nI_ltP, nI_eqP, nI_1, ↓i_inN, i_inN, l_le, l_lt, l_eq, r_le, r_lt, r_eq, sh68_0, sh68_1, sh68_2, sh68_3, sh68_4, ↓w_iload_1, ↓w_is, ↓pm_cl1_1, ↓w_ifne, ↓w_iconst, ↓w_ret, ↓w_lconst0, ↓w_lstore_2, ↓w_lstore_4, ↓w_istore_6, ↓w_iload_6, ↓w_aload_0, ↓w_gf0, ↓w_icge, ↓w_gf3, ↓w_iaload, ↓w_iv, ↓pm_cl2_3, ↓w_ifle, ↓w_lload_2, ↓w_i2l, ↓w_goto, ↓w_ladd, ↓w_lload_4, ↓w_ifge, ↓w_lsub, ↓w_iinc_6, ↓w_lcmp, ↓pm_cl2_2, ↓pm_cl2_4])
        | (with_reducible refine m_isSide (by omega) ?_ ; simp (disch := first | omega | decide) only [w_nl0, w_nli, w_nlr, ↓w_ts1, ↓w_ts0, w_rcv, w_rfv, w_cs, true_and, and_true, List.length_nil, List.length_cons, Nat.reduceAdd, Nat.reduceLeDiff, Nat.zero_le, Nat.reduceLT, ↓w_nil, ix_nI, nI_leP, nI_ltP, nI_eqP, nI_1, ↓i_inN, i_inN, l_le, l_lt, l_eq, r_le, r_lt, r_eq, sh68_0, sh68_1, sh68_2, sh68_3, sh68_4, ↓w_iload_1, ↓w_is, ↓pm_cl1_1, ↓w_ifne, ↓w_iconst, ↓w_ret, ↓w_lconst0, ↓w_lstore_2, ↓w_lstore_4, ↓w_istore_6, ↓w_iload_6, ↓w_aload_0, ↓w_gf0, ↓w_icge, ↓w_gf3, ↓w_iaload, ↓w_iv, ↓pm_cl2_3, ↓w_ifle, ↓w_lload_2, ↓w_i2l, ↓w_goto, ↓w_ladd, ↓w_lload_4, ↓w_ifge, ↓w_lsub, ↓w_iinc_6, ↓w_lcmp, ↓pm_cl2_2, ↓pm_cl2_4])
        | (simp only [w_in])
        | (intro _))
    all_goals first | rfl | exact hw | exact relw_found hw | exact relw_asks hw | grind
end C63
