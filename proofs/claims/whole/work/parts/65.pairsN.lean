section C65
variable {g : pm_G} {d : Nat} {Q : pm_Po} {S : pm_SS} {I : pm_MI} {J : pm_ML}
theorem r_shelf_move {W N : Nat} {B w b : Int32} {s c s' c' : Nat → Int32} (h : r_shelf W B N w b s c s' c') {r a dp m sr : Nat} (hW : W < 1000) (hr : r < N) (hs : s r = nI sr) (hsr : sr ≤ W) (ham : a + m ≤ sr) {c2 c2' : Nat → Int32} (e1 : ∀ j, c2 j = if dp ≤ j ∧ j < dp + m then c (W * r + a + (j - dp)) else c j) (e2 : ∀ j, c2' j = if dp ≤ j ∧ j < dp + m then c' (W * r + a + (j - dp)) else c' j) : r_shelf W B N w b s c2 s' c2' := by
  obtain ⟨a1, a2, a3, a4⟩ := h
  refine ⟨a1, a2, a3, fun q hq => ?_⟩
  rcases a4 q hq with h | ⟨k, hk, h1, h2⟩
  · exact Or.inl h
  · refine Or.inr ⟨k, hk, h1, fun i hi => ?_⟩
    rw [e1, e2]
    by_cases hc : dp ≤ W * q + i ∧ W * q + i < dp + m
    · rw [if_pos hc, if_pos hc]
      rcases a4 r hr with h | ⟨k2, hk2, h3, h4⟩
      · exfalso
        rw [hs] at h
        have h5 : (0 : Int32) ≤ nI sr := nI_pos' (by omega)
        rw [h] at h5
        exact absurd h5 (by decide)
      · have := nI_inj (by omega) (by omega) (hs.symm.trans h3)
        subst this
        have h5 := h4 (a + (W * q + i - dp)) (by omega)
        rw [show W * r + a + (W * q + i - dp) = W * r + (a + (W * q + i - dp)) by omega]
        exact h5
    · rw [if_neg hc, if_neg hc, h2 i hi]
theorem c_move {r a t b m sr st : Nat} (hd : 5 ≤ d) (hw : I 3 0 = 24) (hr : r < 6) (ht : t < 6) (hs1 : I 4 r = nI sr) (hs2 : I 4 t = nI st) (h1 : sr ≤ 24) (h2 : st ≤ 24) (ham : a + m ≤ sr) (hbm : b + m ≤ st) (hQ : Q none SH (pm_cpy I 5 5 (24 * r + a) (24 * t + b) m) J) : pm_C g d 114 [.ref 3, .int (nI r), .int (nI a), .int (nI t), .int (nI b), .int (nI m)] Q SH I J := by
  have e1 : nI r * 24 + nI a = nI (24 * r + a) := by
    rw [show (24 : Int32) = nI 24 from rfl, pk_mul, nI_add, Nat.mul_comm]
  have e2 : nI t * 24 + nI b = nI (24 * t + b) := by
    rw [show (24 : Int32) = nI 24 from rfl, pk_mul, nI_add, Nat.mul_comm]
  have f1 : nI sr - nI a = nI (sr - a) := by
    rw [show sr = (sr - a) + a by omega, ← nI_add (sr - a) a]
    have : sr - a + a - a = sr - a := by omega
    rw [this]
    grind
  have f2 : nI st - nI b = nI (st - b) := by
    rw [show st = (st - b) + b by omega, ← nI_add (st - b) b]
    have : st - b + b - b = st - b := by omega
    rw [this]
    grind
  have g1 : (if (0 : Int32) ≤ nI a ∧ nI a ≤ (if (0 : Int32) ≤ nI r ∧ nI r < 6 then I 4 (nI r).toNatClampNeg else -1) ∧ (0 : Int32) ≤ nI m ∧ nI m ≤ (if (0 : Int32) ≤ nI r ∧ nI r < 6 then I 4 (nI r).toNatClampNeg else -1) - nI a then (1 : Int32) else 0) = 1 := by
    rw [if_pos (show (0 : Int32) ≤ nI r ∧ nI r < 6 from ⟨nI_pos' (by omega), nI_lt (b := 6) hr (by omega)⟩), ix_nI (by omega), hs1, f1, if_pos ⟨nI_pos' (by omega), nI_le (by omega) (by omega), nI_pos' (by omega), nI_le (by omega) (by omega)⟩]
  have g2 : (if (0 : Int32) ≤ nI b ∧ nI b ≤ (if (0 : Int32) ≤ nI t ∧ nI t < 6 then I 4 (nI t).toNatClampNeg else -1) ∧ (0 : Int32) ≤ nI m ∧ nI m ≤ (if (0 : Int32) ≤ nI t ∧ nI t < 6 then I 4 (nI t).toNatClampNeg else -1) - nI b then (1 : Int32) else 0) = 1 := by
    rw [if_pos (show (0 : Int32) ≤ nI t ∧ nI t < 6 from ⟨nI_pos' (by omega), nI_lt (b := 6) ht (by omega)⟩), ix_nI (by omega), hs2, f2, if_pos ⟨nI_pos' (by omega), nI_le (by omega) (by omega), nI_pos' (by omega), nI_le (by omega) (by omega)⟩]
  have n1 : ¬ nI (24 * r + a) < (0 : Int32) := Int32.not_lt.2 (nI_pos' (by omega))
  have n2 : ¬ nI (24 * t + b) < (0 : Int32) := Int32.not_lt.2 (nI_pos' (by omega))
  have n3 : ¬ nI m < (0 : Int32) := Int32.not_lt.2 (nI_pos' (by omega))
  refine eX9_move (by omega) ?_
  refine bX9_move_0 ?_
  simp (disch := first | omega | decide) only [w_nl0, w_nli, w_nlr, ↓w_ts1, ↓w_ts0, w_rcv, w_rfv, w_cs, true_and, and_true, List.length_nil, List.length_cons, Nat.reduceAdd, Nat.reduceLeDiff, Nat.zero_le, Nat.reduceLT, ↓w_nil, ix_nI, nI_leP, nI_ltP, nI_eqP, nI_1, ↓i_inN, i_inN, l_le, l_lt, l_eq, r_le, r_lt, r_eq, sh3, sh6, ↓w_aload_0, ↓w_iload_1, ↓w_iload_2, ↓w_iload_5, ↓w_iv, ↓pm_cl2_4, ↓w_ifeq, ↓w_iload_3, ↓w_iload_4, ↓w_ifne]
  refine c_spansR (by omega) ?_
  rw [g1]
  simp (disch := first | omega | decide) only [w_nl0, w_nli, w_nlr, ↓w_ts1, ↓w_ts0, w_rcv, w_rfv, w_cs, true_and, and_true, List.length_nil, List.length_cons, Nat.reduceAdd, Nat.reduceLeDiff, Nat.zero_le, Nat.reduceLT, ↓w_nil, ix_nI, nI_leP, nI_ltP, nI_eqP, nI_1, ↓i_inN, i_inN, l_le, l_lt, l_eq, r_le, r_lt, r_eq, sh3, sh6, ↓w_aload_0, ↓w_iload_1, ↓w_iload_2, ↓w_iload_5, ↓w_iv, ↓pm_cl2_4, ↓w_ifeq, ↓w_iload_3, ↓w_iload_4, ↓w_ifne]
  refine ⟨fun z => absurd z (by decide), fun _ => ?_⟩
  refine c_spansR (by omega) ?_
  rw [g2]
  simp (disch := first | omega | decide) only [w_nl0, w_nli, w_nlr, ↓w_ts1, ↓w_ts0, w_rcv, w_rfv, w_cs, true_and, and_true, List.length_nil, List.length_cons, Nat.reduceAdd, Nat.reduceLeDiff, Nat.zero_le, Nat.reduceLT, ↓w_nil, ix_nI, nI_leP, nI_ltP, nI_eqP, nI_1, ↓i_inN, i_inN, l_le, l_lt, l_eq, r_le, r_lt, r_eq, sh3, sh6, ↓w_aload_0, ↓w_iload_1, ↓w_iload_2, ↓w_iload_5, ↓w_iv, ↓pm_cl2_4, ↓w_ifeq, ↓w_iload_3, ↓w_iload_4, ↓w_ifne]
  refine ⟨fun _ => ?_, fun z => absurd z (by decide)⟩
  refine bX9_move_2 ?_
  simp -implicitDefEqProofs (disch := first | omega | decide) only [w_nl0, w_nli, w_nlr, ↓w_ts1, ↓w_ts0, w_rcv, w_rfv, w_cs, true_and, and_true, List.length_nil, List.length_cons, Nat.reduceAdd, Nat.reduceLeDiff, Nat.zero_le, Nat.reduceLT, ↓w_nil, ix_nI, nI_leP, nI_ltP, nI_eqP, nI_1, ↓i_inN, i_inN, l_le, l_lt, l_eq, r_le, r_lt, r_eq, sh3, sh6, ↓w_aload_0, ↓w_gf3, ↓w_iload_1, ↓w_gf0, ↓w_imul, ↓w_iload_2, ↓w_iadd, ↓w_iload_3, ↓w_iload_4, ↓w_iload_5, ↓w_cp, ↓w_vret, hw, e1, e2, n1, n2, n3, not_false_eq_true]
  exact ⟨by omega, by omega, hQ⟩
theorem sp_eq {i n s : Int32} (hs : 0 ≤ s ∧ s ≤ 24) (hn : 0 ≤ n) : (0 ≤ i ∧ i ≤ s ∧ 0 ≤ n ∧ n ≤ s - i) ↔ (0 ≤ i ∧ i.toInt64 + n.toInt64 ≤ s.toInt64) := by
  have s0 : 0 ≤ s.toInt := by have := hs.1; rw [i_le] at this; exact this
  have s1 : s.toInt ≤ 24 := by have := hs.2; rw [i_le] at this; exact this
  have n0 : 0 ≤ n.toInt := by have := hn; rw [i_le] at this; exact this
  have nm : n.toInt < 2147483648 := Int32.toInt_lt n
  have im : i.toInt < 2147483648 := Int32.toInt_lt i
  have z0 : (0 : Int32).toInt = 0 := rfl
  by_cases hi : 0 ≤ i
  · have i0 : 0 ≤ i.toInt := by have := hi; rw [i_le] at this; exact this
    have u1 : (s - i).toInt = s.toInt - i.toInt := i_sub (by omega) (by omega)
    have u2 : (i.toInt64 + n.toInt64).toInt = i.toInt + n.toInt := by
      rw [Int64.toInt_add, Int32.toInt_toInt64, Int32.toInt_toInt64]
      exact Int.bmod_eq_of_le (by omega) (by omega)
    rw [Int64.le_iff_toInt_le, u2, Int32.toInt_toInt64, i_le, i_le, i_le, i_le, u1, z0]
    constructor
    · intro h
      exact ⟨h.1, by omega⟩
    · intro h
      exact ⟨h.1, by omega, by omega, by omega⟩
  · exact ⟨fun h => absurd h.1 hi, fun h => absurd h.1 hi⟩
theorem m_copy {r a t b m sr st : Nat} (hd : 5 ≤ d) (hr : r < 6) (ht : t < 6) (hs1 : I 70 r = nI sr) (hs2 : I 70 t = nI st) (h1 : sr ≤ 24) (h2 : st ≤ 24) (ham : a + m ≤ sr) (hbm : b + m ≤ st) (hQ : Q (some (.int 1)) SH (itr (fun k (M : pm_MI) => pm_up M 71 (24 * t + b + k) (I 71 (24 * r + a + k))) (itr (fun k (M : pm_MI) => pm_up M 72 (0 + k) (I 71 (24 * r + a + k))) I m) m) J) : pm_C g d 202 [.ref 68, .int (nI r), .int (nI a), .int (nI t), .int (nI b), .int (nI m)] Q SH I J := by
  have q1 : (nI a).toInt64 + (nI m).toInt64 ≤ (nI sr).toInt64 := by
    rw [nI_L (by omega), nI_L (by omega), nI_L (by omega), ← Int64.ofNat_add]
    exact (Int64.ofNat_le_iff_le (by omega) (by omega)).2 (by omega)
  have q2 : (nI b).toInt64 + (nI m).toInt64 ≤ (nI st).toInt64 := by
    rw [nI_L (by omega), nI_L (by omega), nI_L (by omega), ← Int64.ofNat_add]
    exact (Int64.ofNat_le_iff_le (by omega) (by omega)).2 (by omega)
  have e1 : ∀ k, 24 * nI t + nI b + nI k = nI (24 * t + b + k) := by
    intro k
    rw [show (24 : Int32) = nI 24 from rfl, pk_mul, nI_add, nI_add]
  have v1 := nI_rng (n := r) (N := 5) (by omega) (by decide)
  have v2 := nI_rng (n := t) (N := 5) (by omega) (by decide)
  have v3 : nI 5 = (5 : Int32) := rfl
  have v4 : (0 : Int32) ≤ nI m := nI_pos' (by omega)
  have v5 : (0 : Int32) ≤ nI sr := nI_pos' (by omega)
  have v6 : (0 : Int32) ≤ nI st := nI_pos' (by omega)
  have v7 : (0 : Int32) ≤ nI a := nI_pos' (by omega)
  have v8 : (0 : Int32) ≤ nI b := nI_pos' (by omega)
  refine eX12_copy (by omega) ?_
  repeat' (first
    | (apply And.intro)
    | (with_reducible refine bX12_copy_0 ?_; simp (disch := first | omega | decide) only [w_nl0, w_nli, w_nlr, ↓w_ts1, ↓w_ts0, w_rcv, w_rfv, w_cs, true_and, and_true, List.length_nil, List.length_cons, Nat.reduceAdd, Nat.reduceLeDiff, Nat.zero_le, Nat.reduceLT, ↓w_nil, ix_nI, nI_leP, nI_ltP, nI_eqP, nI_1, ↓i_inN, i_inN, l_le, l_lt, l_eq, r_le, r_lt, r_eq, sh68_0, sh68_1, sh68_2, sh68_3, sh68_4, ↓w_iload_1, ↓w_is, ↓pm_cl1_1, ↓w_ifeq, ↓w_iload_3, ↓w_ifne, ↓w_iconst, ↓w_ret, ↓w_iload_5, ↓w_ifge, ↓w_aload_0, ↓w_iv, ↓pm_cl2_2, ↓w_gf3, ↓w_iaload, ↓w_iflt, ↓w_iload_2, ↓w_iload_4, ↓w_i2l, ↓w_ladd, ↓w_lcmp, ↓w_ifgt, ↓w_ifle, ↓w_istore_6, ↓w_iload_6, ↓w_icge, ↓w_iadd, ↓pm_cl2_3, ↓w_iastore, ↓w_iinc_6, ↓w_goto, ↓w_bipush, ↓w_imul, hs1, hs2, lg_gt0, lg_le0])
    | (with_reducible refine bX12_copy_1 ?_; simp (disch := first | omega | decide) only [w_nl0, w_nli, w_nlr, ↓w_ts1, ↓w_ts0, w_rcv, w_rfv, w_cs, true_and, and_true, List.length_nil, List.length_cons, Nat.reduceAdd, Nat.reduceLeDiff, Nat.zero_le, Nat.reduceLT, ↓w_nil, ix_nI, nI_leP, nI_ltP, nI_eqP, nI_1, ↓i_inN, i_inN, l_le, l_lt, l_eq, r_le, r_lt, r_eq, sh68_0, sh68_1, sh68_2, sh68_3, sh68_4, ↓w_iload_1, ↓w_is, ↓pm_cl1_1, ↓w_ifeq, ↓w_iload_3, ↓w_ifne, ↓w_iconst, ↓w_ret, ↓w_iload_5, ↓w_ifge, ↓w_aload_0, ↓w_iv, ↓pm_cl2_2, ↓w_gf3, ↓w_iaload, ↓w_iflt, ↓w_iload_2, ↓w_iload_4, ↓w_i2l, ↓w_ladd, ↓w_lcmp, ↓w_ifgt, ↓w_ifle, ↓w_istore_6, ↓w_iload_6, ↓w_icge, ↓w_iadd, ↓pm_cl2_3, ↓w_iastore, ↓w_iinc_6, ↓w_goto, ↓w_bipush, ↓w_imul, hs1, hs2, lg_gt0, lg_le0])
    | (with_reducible refine bX12_copy_2 ?_; simp (disch := first | omega | decide) only [w_nl0, w_nli, w_nlr, ↓w_ts1, ↓w_ts0, w_rcv, w_rfv, w_cs, true_and, and_true, List.length_nil, List.length_cons, Nat.reduceAdd, Nat.reduceLeDiff, Nat.zero_le, Nat.reduceLT, ↓w_nil, ix_nI, nI_leP, nI_ltP, nI_eqP, nI_1, ↓i_inN, i_inN, l_le, l_lt, l_eq, r_le, r_lt, r_eq, sh68_0, sh68_1, sh68_2, sh68_3, sh68_4, ↓w_iload_1, ↓w_is, ↓pm_cl1_1, ↓w_ifeq, ↓w_iload_3, ↓w_ifne, ↓w_iconst, ↓w_ret, ↓w_iload_5, ↓w_ifge, ↓w_aload_0, ↓w_iv, ↓pm_cl2_2, ↓w_gf3, ↓w_iaload, ↓w_iflt, ↓w_iload_2, ↓w_iload_4, ↓w_i2l, ↓w_ladd, ↓w_lcmp, ↓w_ifgt, ↓w_ifle, ↓w_istore_6, ↓w_iload_6, ↓w_icge, ↓w_iadd, ↓pm_cl2_3, ↓w_iastore, ↓w_iinc_6, ↓w_goto, ↓w_bipush, ↓w_imul, hs1, hs2, lg_gt0, lg_le0])
    | (with_reducible refine bX12_copy_3 ?_; simp (disch := first | omega | decide) only [w_nl0, w_nli, w_nlr, ↓w_ts1, ↓w_ts0, w_rcv, w_rfv, w_cs, true_and, and_true, List.length_nil, List.length_cons, Nat.reduceAdd, Nat.reduceLeDiff, Nat.zero_le, Nat.reduceLT, ↓w_nil, ix_nI, nI_leP, nI_ltP, nI_eqP, nI_1, ↓i_inN, i_inN, l_le, l_lt, l_eq, r_le, r_lt, r_eq, sh68_0, sh68_1, sh68_2, sh68_3, sh68_4, ↓w_iload_1, ↓w_is, ↓pm_cl1_1, ↓w_ifeq, ↓w_iload_3, ↓w_ifne, ↓w_iconst, ↓w_ret, ↓w_iload_5, ↓w_ifge, ↓w_aload_0, ↓w_iv, ↓pm_cl2_2, ↓w_gf3, ↓w_iaload, ↓w_iflt, ↓w_iload_2, ↓w_iload_4, ↓w_i2l, ↓w_ladd, ↓w_lcmp, ↓w_ifgt, ↓w_ifle, ↓w_istore_6, ↓w_iload_6, ↓w_icge, ↓w_iadd, ↓pm_cl2_3, ↓w_iastore, ↓w_iinc_6, ↓w_goto, ↓w_bipush, ↓w_imul, hs1, hs2, lg_gt0, lg_le0])
    | (with_reducible refine bX12_copy_4 ?_; simp (disch := first | omega | decide) only [w_nl0, w_nli, w_nlr, ↓w_ts1, ↓w_ts0, w_rcv, w_rfv, w_cs, true_and, and_true, List.length_nil, List.length_cons, Nat.reduceAdd, Nat.reduceLeDiff, Nat.zero_le, Nat.reduceLT, ↓w_nil, ix_nI, nI_leP, nI_ltP, nI_eqP, nI_1, ↓i_inN, i_inN, l_le, l_lt, l_eq, r_le, r_lt, r_eq, sh68_0, sh68_1, sh68_2, sh68_3, sh68_4, ↓w_iload_1, ↓w_is, ↓pm_cl1_1, ↓w_ifeq, ↓w_iload_3, ↓w_ifne, ↓w_iconst, ↓w_ret, ↓w_iload_5, ↓w_ifge, ↓w_aload_0, ↓w_iv, ↓pm_cl2_2, ↓w_gf3, ↓w_iaload, ↓w_iflt, ↓w_iload_2, ↓w_iload_4, ↓w_i2l, ↓w_ladd, ↓w_lcmp, ↓w_ifgt, ↓w_ifle, ↓w_istore_6, ↓w_iload_6, ↓w_icge, ↓w_iadd, ↓pm_cl2_3, ↓w_iastore, ↓w_iinc_6, ↓w_goto, ↓w_bipush, ↓w_imul, hs1, hs2, lg_gt0, lg_le0])
    | (with_reducible refine bX12_copy_5 ?_; simp (disch := first | omega | decide) only [w_nl0, w_nli, w_nlr, ↓w_ts1, ↓w_ts0, w_rcv, w_rfv, w_cs, true_and, and_true, List.length_nil, List.length_cons, Nat.reduceAdd, Nat.reduceLeDiff, Nat.zero_le, Nat.reduceLT, ↓w_nil, ix_nI, nI_leP, nI_ltP, nI_eqP, nI_1, ↓i_inN, i_inN, l_le, l_lt, l_eq, r_le, r_lt, r_eq, sh68_0, sh68_1, sh68_2, sh68_3, sh68_4, ↓w_iload_1, ↓w_is, ↓pm_cl1_1, ↓w_ifeq, ↓w_iload_3, ↓w_ifne, ↓w_iconst, ↓w_ret, ↓w_iload_5, ↓w_ifge, ↓w_aload_0, ↓w_iv, ↓pm_cl2_2, ↓w_gf3, ↓w_iaload, ↓w_iflt, ↓w_iload_2, ↓w_iload_4, ↓w_i2l, ↓w_ladd, ↓w_lcmp, ↓w_ifgt, ↓w_ifle, ↓w_istore_6, ↓w_iload_6, ↓w_icge, ↓w_iadd, ↓pm_cl2_3, ↓w_iastore, ↓w_iinc_6, ↓w_goto, ↓w_bipush, ↓w_imul, hs1, hs2, lg_gt0, lg_le0])
    | (with_reducible refine bX12_copy_6 ?_; simp (disch := first | omega | decide) only [w_nl0, w_nli, w_nlr, ↓w_ts1, ↓w_ts0, w_rcv, w_rfv, w_cs, true_and, and_true, List.length_nil, List.length_cons, Nat.reduceAdd, Nat.reduceLeDiff, Nat.zero_le, Nat.reduceLT, ↓w_nil, ix_nI, nI_leP, nI_ltP, nI_eqP, nI_1, ↓i_inN, i_inN, l_le, l_lt, l_eq, r_le, r_lt, r_eq, sh68_0, sh68_1, sh68_2, sh68_3, sh68_4, ↓w_iload_1, ↓w_is, ↓pm_cl1_1, ↓w_ifeq, ↓w_iload_3, ↓w_ifne, ↓w_iconst, ↓w_ret, ↓w_iload_5, ↓w_ifge, ↓w_aload_0, ↓w_iv, ↓pm_cl2_2, ↓w_gf3, ↓w_iaload, ↓w_iflt, ↓w_iload_2, ↓w_iload_4, ↓w_i2l, ↓w_ladd, ↓w_lcmp, ↓w_ifgt, ↓w_ifle, ↓w_istore_6, ↓w_iload_6, ↓w_icge, ↓w_iadd, ↓pm_cl2_3, ↓w_iastore, ↓w_iinc_6, ↓w_goto, ↓w_bipush, ↓w_imul, hs1, hs2, lg_gt0, lg_le0])
    | (with_reducible refine bX12_copy_7 ?_; simp (disch := first | omega | decide) only [w_nl0, w_nli, w_nlr, ↓w_ts1, ↓w_ts0, w_rcv, w_rfv, w_cs, true_and, and_true, List.length_nil, List.length_cons, Nat.reduceAdd, Nat.reduceLeDiff, Nat.zero_le, Nat.reduceLT, ↓w_nil, ix_nI, nI_leP, nI_ltP, nI_eqP, nI_1, ↓i_inN, i_inN, l_le, l_lt, l_eq, r_le, r_lt, r_eq, sh68_0, sh68_1, sh68_2, sh68_3, sh68_4, ↓w_iload_1, ↓w_is, ↓pm_cl1_1, ↓w_ifeq, ↓w_iload_3, ↓w_ifne, ↓w_iconst, ↓w_ret, ↓w_iload_5, ↓w_ifge, ↓w_aload_0, ↓w_iv, ↓pm_cl2_2, ↓w_gf3, ↓w_iaload, ↓w_iflt, ↓w_iload_2, ↓w_iload_4, ↓w_i2l, ↓w_ladd, ↓w_lcmp, ↓w_ifgt, ↓w_ifle, ↓w_istore_6, ↓w_iload_6, ↓w_icge, ↓w_iadd, ↓pm_cl2_3, ↓w_iastore, ↓w_iinc_6, ↓w_goto, ↓w_bipush, ↓w_imul, hs1, hs2, lg_gt0, lg_le0])
    | (with_reducible refine m_isRow (by omega) ?_ ; simp (disch := first | omega | decide) only [w_nl0, w_nli, w_nlr, ↓w_ts1, ↓w_ts0, w_rcv, w_rfv, w_cs, true_and, and_true, List.length_nil, List.length_cons, Nat.reduceAdd, Nat.reduceLeDiff, Nat.zero_le, Nat.reduceLT, ↓w_nil, ix_nI, nI_leP, nI_ltP, nI_eqP, nI_1, ↓i_inN, i_inN, l_le, l_lt, l_eq, r_le, r_lt, r_eq, sh68_0, sh68_1, sh68_2, sh68_3, sh68_4, ↓w_iload_1, ↓w_is, ↓pm_cl1_1, ↓w_ifeq, ↓w_iload_3, ↓w_ifne, ↓w_iconst, ↓w_ret, ↓w_iload_5, ↓w_ifge, ↓w_aload_0, ↓w_iv, ↓pm_cl2_2, ↓w_gf3, ↓w_iaload, ↓w_iflt, ↓w_iload_2, ↓w_iload_4, ↓w_i2l, ↓w_ladd, ↓w_lcmp, ↓w_ifgt, ↓w_ifle, ↓w_istore_6, ↓w_iload_6, ↓w_icge, ↓w_iadd, ↓pm_cl2_3, ↓w_iastore, ↓w_iinc_6, ↓w_goto, ↓w_bipush, ↓w_imul, hs1, hs2, lg_gt0, lg_le0])
    | (simp only [w_in])
    | (intro _))
  all_goals try grind
  refine pm_for (f := fun k (M : pm_MI) => pm_up M 72 (0 + k) (I 71 (24 * r + a + k))) (U := fun k (M : pm_MI) => UU g (d - 1) 202 kX12_copy (pm_rm d 202) Q 8 [some (.ref 68), some (.int (nI r)), some (.int (nI a)), some (.int (nI t)), some (.int (nI b)), some (.int (nI m)), some (.int (nI k))] [] SH M J (0, 0)) (a := I) m (fun k M hk hM w => ?_) ?_
  · have h71 : M 71 = I 71 := by rw [hM]; exact itr_o (by decide) k
    clear hM
    rw [Nat.zero_add] at w
    refine bX12_copy_8 ?_
    simp (disch := first | omega | decide) only [w_nl0, w_nli, w_nlr, ↓w_ts1, ↓w_ts0, w_rcv, w_rfv, w_cs, true_and, and_true, List.length_nil, List.length_cons, Nat.reduceAdd, Nat.reduceLeDiff, Nat.zero_le, Nat.reduceLT, ↓w_nil, ix_nI, nI_leP, nI_ltP, nI_eqP, nI_1, ↓i_inN, i_inN, l_le, l_lt, l_eq, r_le, r_lt, r_eq, sh68_0, sh68_1, sh68_2, sh68_3, sh68_4, ↓w_iload_6, ↓w_iload_5, ↓w_icge, ↓w_aload_0, ↓w_gf3, ↓w_iload_1, ↓w_iload_2, ↓w_iadd, ↓w_iv, ↓pm_cl2_3, ↓w_iastore, ↓w_iinc_6, ↓w_goto, nI_add]
    repeat' (first
      | (apply And.intro)
      | (with_reducible refine m_at (by omega) (by omega) ?_ ; simp (disch := first | omega | decide) only [w_nl0, w_nli, w_nlr, ↓w_ts1, ↓w_ts0, w_rcv, w_rfv, w_cs, true_and, and_true, List.length_nil, List.length_cons, Nat.reduceAdd, Nat.reduceLeDiff, Nat.zero_le, Nat.reduceLT, ↓w_nil, ix_nI, nI_leP, nI_ltP, nI_eqP, nI_1, ↓i_inN, i_inN, l_le, l_lt, l_eq, r_le, r_lt, r_eq, sh68_0, sh68_1, sh68_2, sh68_3, sh68_4, ↓w_iload_1, ↓w_is, ↓pm_cl1_1, ↓w_ifeq, ↓w_iload_3, ↓w_ifne, ↓w_iconst, ↓w_ret, ↓w_iload_5, ↓w_ifge, ↓w_aload_0, ↓w_iv, ↓pm_cl2_2, ↓w_gf3, ↓w_iaload, ↓w_iflt, ↓w_iload_2, ↓w_iload_4, ↓w_i2l, ↓w_ladd, ↓w_lcmp, ↓w_ifgt, ↓w_ifle, ↓w_istore_6, ↓w_iload_6, ↓w_icge, ↓w_iadd, ↓pm_cl2_3, ↓w_iastore, ↓w_iinc_6, ↓w_goto, ↓w_bipush, ↓w_imul, nI_add, h71, ← Nat.add_assoc])
      | (simp only [w_in])
      | (intro _))
    all_goals grind
  · refine bX12_copy_8 ?_
    simp (disch := first | omega | decide) only [w_nl0, w_nli, w_nlr, ↓w_ts1, ↓w_ts0, w_rcv, w_rfv, w_cs, true_and, and_true, List.length_nil, List.length_cons, Nat.reduceAdd, Nat.reduceLeDiff, Nat.zero_le, Nat.reduceLT, ↓w_nil, ix_nI, nI_leP, nI_ltP, nI_eqP, nI_1, ↓i_inN, i_inN, l_le, l_lt, l_eq, r_le, r_lt, r_eq, sh68_0, sh68_1, sh68_2, sh68_3, sh68_4, ↓w_iload_6, ↓w_iload_5, ↓w_icge, ↓w_aload_0, ↓w_gf3, ↓w_iload_1, ↓w_iload_2, ↓w_iadd, ↓w_iv, ↓pm_cl2_3, ↓w_iastore, ↓w_iinc_6, ↓w_goto]
    repeat' (first
      | (apply And.intro)
      | (with_reducible refine bX12_copy_9 ?_; simp (disch := first | omega | decide) only [w_nl0, w_nli, w_nlr, ↓w_ts1, ↓w_ts0, w_rcv, w_rfv, w_cs, true_and, and_true, List.length_nil, List.length_cons, Nat.reduceAdd, Nat.reduceLeDiff, Nat.zero_le, Nat.reduceLT, ↓w_nil, ix_nI, nI_leP, nI_ltP, nI_eqP, nI_1, ↓i_inN, i_inN, l_le, l_lt, l_eq, r_le, r_lt, r_eq, sh68_0, sh68_1, sh68_2, sh68_3, sh68_4, ↓w_iload_1, ↓w_is, ↓pm_cl1_1, ↓w_ifeq, ↓w_iload_3, ↓w_ifne, ↓w_iconst, ↓w_ret, ↓w_iload_5, ↓w_ifge, ↓w_aload_0, ↓w_iv, ↓pm_cl2_2, ↓w_gf3, ↓w_iaload, ↓w_iflt, ↓w_iload_2, ↓w_iload_4, ↓w_i2l, ↓w_ladd, ↓w_lcmp, ↓w_ifgt, ↓w_ifle, ↓w_istore_6, ↓w_iload_6, ↓w_icge, ↓w_iadd, ↓pm_cl2_3, ↓w_iastore, ↓w_iinc_6, ↓w_goto, ↓w_bipush, ↓w_imul])
      | (simp only [w_in])
      | (intro _))
    all_goals try grind
    have e72 : ∀ k, k < m → itr (fun k (M : pm_MI) => pm_up M 72 (0 + k) (I 71 (24 * r + a + k))) I m 72 k = I 71 (24 * r + a + k) := by
      intro k hk
      rw [fill_s, if_pos (by omega), Nat.sub_zero]
    generalize hI2 : itr (fun k (M : pm_MI) => pm_up M 72 (0 + k) (I 71 (24 * r + a + k))) I m = I2 at *
    refine pm_for (f := fun k (M : pm_MI) => pm_up M 71 (24 * t + b + k) (I 71 (24 * r + a + k))) (U := fun k (M : pm_MI) => UU g (d - 1) 202 kX12_copy (pm_rm d 202) Q 10 [some (.ref 68), some (.int (nI r)), some (.int (nI a)), some (.int (nI t)), some (.int (nI b)), some (.int (nI m)), some (.int (nI k))] [] SH M J (0, 0)) (a := I2) m (fun k M hk hM w => ?_) ?_
    · have h72 : M 72 k = I 71 (24 * r + a + k) := by
        rw [hM, itr_o (by decide) k]
        exact e72 k hk
      clear hM e72 hI2
      refine bX12_copy_10 ?_
      simp (disch := first | omega | decide) only [w_nl0, w_nli, w_nlr, ↓w_ts1, ↓w_ts0, w_rcv, w_rfv, w_cs, true_and, and_true, List.length_nil, List.length_cons, Nat.reduceAdd, Nat.reduceLeDiff, Nat.zero_le, Nat.reduceLT, ↓w_nil, ix_nI, nI_leP, nI_ltP, nI_eqP, nI_1, ↓i_inN, i_inN, l_le, l_lt, l_eq, r_le, r_lt, r_eq, sh68_0, sh68_1, sh68_2, sh68_3, sh68_4, ↓w_iload_6, ↓w_iload_5, ↓w_icge, ↓w_aload_0, ↓w_gf3, ↓w_bipush, ↓w_iload_3, ↓w_imul, ↓w_iload_4, ↓w_iadd, ↓w_iaload, ↓w_iastore, ↓w_iinc_6, ↓w_goto, e1, h72]
      repeat' (first
        | (apply And.intro)
        | (simp only [w_in])
        | (intro _))
      all_goals grind
    · refine bX12_copy_10 ?_
      simp (disch := first | omega | decide) only [w_nl0, w_nli, w_nlr, ↓w_ts1, ↓w_ts0, w_rcv, w_rfv, w_cs, true_and, and_true, List.length_nil, List.length_cons, Nat.reduceAdd, Nat.reduceLeDiff, Nat.zero_le, Nat.reduceLT, ↓w_nil, ix_nI, nI_leP, nI_ltP, nI_eqP, nI_1, ↓i_inN, i_inN, l_le, l_lt, l_eq, r_le, r_lt, r_eq, sh68_0, sh68_1, sh68_2, sh68_3, sh68_4, ↓w_iload_6, ↓w_iload_5, ↓w_icge, ↓w_aload_0, ↓w_gf3, ↓w_bipush, ↓w_iload_3, ↓w_imul, ↓w_iload_4, ↓w_iadd, ↓w_iaload, ↓w_iastore, ↓w_iinc_6, ↓w_goto]
      repeat' (first
        | (apply And.intro)
        | (with_reducible refine bX12_copy_11 ?_; simp (disch := first | omega | decide) only [w_nl0, w_nli, w_nlr, ↓w_ts1, ↓w_ts0, w_rcv, w_rfv, w_cs, true_and, and_true, List.length_nil, List.length_cons, Nat.reduceAdd, Nat.reduceLeDiff, Nat.zero_le, Nat.reduceLT, ↓w_nil, ix_nI, nI_leP, nI_ltP, nI_eqP, nI_1, ↓i_inN, i_inN, l_le, l_lt, l_eq, r_le, r_lt, r_eq, sh68_0, sh68_1, sh68_2, sh68_3, sh68_4, ↓w_iload_1, ↓w_is, ↓pm_cl1_1, ↓w_ifeq, ↓w_iload_3, ↓w_ifne, ↓w_iconst, ↓w_ret, ↓w_iload_5, ↓w_ifge, ↓w_aload_0, ↓w_iv, ↓pm_cl2_2, ↓w_gf3, ↓w_iaload, ↓w_iflt, ↓w_iload_2, ↓w_iload_4, ↓w_i2l, ↓w_ladd, ↓w_lcmp, ↓w_ifgt, ↓w_ifle, ↓w_istore_6, ↓w_iload_6, ↓w_icge, ↓w_iadd, ↓pm_cl2_3, ↓w_iastore, ↓w_iinc_6, ↓w_goto, ↓w_bipush, ↓w_imul])
        | (simp only [w_in])
        | (intro _))
      all_goals grind
theorem rel_copy {I : pm_MI} {J : pm_ML} {r a t b m sr : Nat} (h : Rel I J) (hr : r < 6) (hs : I 4 r = nI sr) (hsr : sr ≤ 24) (ham : a + m ≤ sr) : RelW (itr (fun k (M : pm_MI) => pm_up M 71 (24 * t + b + k) (I 71 (24 * r + a + k))) (itr (fun k (M : pm_MI) => pm_up M 72 (0 + k) (I 71 (24 * r + a + k))) (pm_cpy I 5 5 (24 * r + a) (24 * t + b) m) m) m) J := by
  have o1 : ∀ q, q ≠ 71 → q ≠ 72 → q ≠ 5 → itr (fun k (M : pm_MI) => pm_up M 71 (24 * t + b + k) (I 71 (24 * r + a + k))) (itr (fun k (M : pm_MI) => pm_up M 72 (0 + k) (I 71 (24 * r + a + k))) (pm_cpy I 5 5 (24 * r + a) (24 * t + b) m) m) m q = I q := by
    intro q h1 h2 h3
    rw [itr_o h1, itr_o h2]
    unfold pm_cpy
    rw [if_neg h3]
  have o5 : itr (fun k (M : pm_MI) => pm_up M 71 (24 * t + b + k) (I 71 (24 * r + a + k))) (itr (fun k (M : pm_MI) => pm_up M 72 (0 + k) (I 71 (24 * r + a + k))) (pm_cpy I 5 5 (24 * r + a) (24 * t + b) m) m) m 5 = va_cpy (I 5) (I 5) (24 * r + a) (24 * t + b) m := by
    rw [itr_o (by decide), itr_o (by decide)]
    unfold pm_cpy
    rw [if_pos rfl]
  have o71 : ∀ j, itr (fun k (M : pm_MI) => pm_up M 71 (24 * t + b + k) (I 71 (24 * r + a + k))) (itr (fun k (M : pm_MI) => pm_up M 72 (0 + k) (I 71 (24 * r + a + k))) (pm_cpy I 5 5 (24 * r + a) (24 * t + b) m) m) m 71 j = if 24 * t + b ≤ j ∧ j < 24 * t + b + m then I 71 (24 * r + a + (j - (24 * t + b))) else I 71 j := by
    intro j
    have hz : pm_cpy I 5 5 (24 * r + a) (24 * t + b) m 71 = I 71 := by
      unfold pm_cpy
      rw [if_neg (by decide)]
    rw [fill_s, itr_o (by decide), hz]
  generalize itr (fun k (M : pm_MI) => pm_up M 71 (24 * t + b + k) (I 71 (24 * r + a + k))) (itr (fun k (M : pm_MI) => pm_up M 72 (0 + k) (I 71 (24 * r + a + k))) (pm_cpy I 5 5 (24 * r + a) (24 * t + b) m) m) m = M at *
  obtain ⟨a1, a2, a3, a4, a5, a6, a7, a8, a9, a10, a11, a12⟩ := h
  have b3 := r_shelf_move (a := a) (m := m) (dp := 24 * t + b) (c2 := M 5) (c2' := M 71) a3 (by omega) hr hs hsr ham (fun j => by rw [o5]; rfl) o71
  refine ⟨trivial, ?_⟩
  unfold Rel
  simp (disch := decide) only [o1]
  exact ⟨a1, a2, b3, a4, a5, a6, a7, a8, a9, a10, a11, a12⟩
theorem p_copy {x i y j n : Int32} (hd : 10 ≤ d) : PC g d 126 202 [.int x, .int i, .int y, .int j, .int n] := by
  intro I J h
  have hw := relw h
  obtain ⟨s1, s2, s3, s4⟩ := h.2.2.1
  have s1 : I 3 0 = 24 := s1
  by_cases hc : (0 ≤ x ∧ x < 6) ∧ (0 ≤ y ∧ y < 6)
  · obtain ⟨r, hr, rfl⟩ : ∃ q, q < 6 ∧ x = nI q := i_q (n := 6) (by decide) hc.1.1 hc.1.2
    obtain ⟨t, ht, rfl⟩ : ∃ q, q < 6 ∧ y = nI q := i_q (n := 6) (by decide) hc.2.1 hc.2.2
    have hrx : (nI r).toNatClampNeg = r := ix_nI (by omega)
    have htx : (nI t).toNatClampNeg = t := ix_nI (by omega)
    by_cases hn0 : n < 0
    · refine eX11_copy (by omega) ?_
      repeat' (first
        | (apply And.intro)
        | (with_reducible refine bX11_copy_0 ?_; simp (disch := first | omega | decide) only [w_nl0, w_nli, w_nlr, ↓w_ts1, ↓w_ts0, w_rcv, w_rfv, w_cs, true_and, and_true, List.length_nil, List.length_cons, Nat.reduceAdd, Nat.reduceLeDiff, Nat.zero_le, Nat.reduceLT, ↓w_nil, ix_nI, nI_leP, nI_ltP, nI_eqP, nI_1, ↓i_inN, i_inN, l_le, l_lt, l_eq, r_le, r_lt, r_eq, sh0, sh1, sh55, sh60, sh9, sh31, sh23, sh37, sh42, sh43, sh19, sh3, sh6, ↓w_aload_0, ↓w_gf3, ↓w_iload_1, ↓w_iv, ↓pm_cl2_2, ↓w_ifeq, ↓w_iload_3, ↓w_ifne, ↓w_iconst, ↓w_ret, ↓w_iload_5, ↓w_ifge, ↓w_iload_2, ↓pm_cl2_4, ↓w_iload_4, ↓pm_cl2_6])
        | (with_reducible refine bX11_copy_1 ?_; simp (disch := first | omega | decide) only [w_nl0, w_nli, w_nlr, ↓w_ts1, ↓w_ts0, w_rcv, w_rfv, w_cs, true_and, and_true, List.length_nil, List.length_cons, Nat.reduceAdd, Nat.reduceLeDiff, Nat.zero_le, Nat.reduceLT, ↓w_nil, ix_nI, nI_leP, nI_ltP, nI_eqP, nI_1, ↓i_inN, i_inN, l_le, l_lt, l_eq, r_le, r_lt, r_eq, sh0, sh1, sh55, sh60, sh9, sh31, sh23, sh37, sh42, sh43, sh19, sh3, sh6, ↓w_aload_0, ↓w_gf3, ↓w_iload_1, ↓w_iv, ↓pm_cl2_2, ↓w_ifeq, ↓w_iload_3, ↓w_ifne, ↓w_iconst, ↓w_ret, ↓w_iload_5, ↓w_ifge, ↓w_iload_2, ↓pm_cl2_4, ↓w_iload_4, ↓pm_cl2_6])
        | (with_reducible refine bX11_copy_2 ?_; simp (disch := first | omega | decide) only [w_nl0, w_nli, w_nlr, ↓w_ts1, ↓w_ts0, w_rcv, w_rfv, w_cs, true_and, and_true, List.length_nil, List.length_cons, Nat.reduceAdd, Nat.reduceLeDiff, Nat.zero_le, Nat.reduceLT, ↓w_nil, ix_nI, nI_leP, nI_ltP, nI_eqP, nI_1, ↓i_inN, i_inN, l_le, l_lt, l_eq, r_le, r_lt, r_eq, sh0, sh1, sh55, sh60, sh9, sh31, sh23, sh37, sh42, sh43, sh19, sh3, sh6, ↓w_aload_0, ↓w_gf3, ↓w_iload_1, ↓w_iv, ↓pm_cl2_2, ↓w_ifeq, ↓w_iload_3, ↓w_ifne, ↓w_iconst, ↓w_ret, ↓w_iload_5, ↓w_ifge, ↓w_iload_2, ↓pm_cl2_4, ↓w_iload_4, ↓pm_cl2_6])
        | (with_reducible refine c_hasR (by omega) ?_ ; simp (disch := first | omega | decide) only [w_nl0, w_nli, w_nlr, ↓w_ts1, ↓w_ts0, w_rcv, w_rfv, w_cs, true_and, and_true, List.length_nil, List.length_cons, Nat.reduceAdd, Nat.reduceLeDiff, Nat.zero_le, Nat.reduceLT, ↓w_nil, ix_nI, nI_leP, nI_ltP, nI_eqP, nI_1, ↓i_inN, i_inN, l_le, l_lt, l_eq, r_le, r_lt, r_eq, sh0, sh1, sh55, sh60, sh9, sh31, sh23, sh37, sh42, sh43, sh19, sh3, sh6, ↓w_aload_0, ↓w_gf3, ↓w_iload_1, ↓w_iv, ↓pm_cl2_2, ↓w_ifeq, ↓w_iload_3, ↓w_ifne, ↓w_iconst, ↓w_ret, ↓w_iload_5, ↓w_ifge, ↓w_iload_2, ↓pm_cl2_4, ↓w_iload_4, ↓pm_cl2_6])
        | (with_reducible refine c_found (by omega) (by decide) (by decide) ?_ ; simp (disch := first | omega | decide) only [w_nl0, w_nli, w_nlr, ↓w_ts1, ↓w_ts0, w_rcv, w_rfv, w_cs, true_and, and_true, List.length_nil, List.length_cons, Nat.reduceAdd, Nat.reduceLeDiff, Nat.zero_le, Nat.reduceLT, ↓w_nil, ix_nI, nI_leP, nI_ltP, nI_eqP, nI_1, ↓i_inN, i_inN, l_le, l_lt, l_eq, r_le, r_lt, r_eq, sh0, sh1, sh55, sh60, sh9, sh31, sh23, sh37, sh42, sh43, sh19, sh3, sh6, ↓w_aload_0, ↓w_gf3, ↓w_iload_1, ↓w_iv, ↓pm_cl2_2, ↓w_ifeq, ↓w_iload_3, ↓w_ifne, ↓w_iconst, ↓w_ret, ↓w_iload_5, ↓w_ifge, ↓w_iload_2, ↓pm_cl2_4, ↓w_iload_4, ↓pm_cl2_6])
        | (simp only [w_in])
        | (intro _))
      all_goals try rfl
      all_goals try grind
      all_goals try refine MC.of (eX12_copy (by omega) ?_)
      all_goals
        repeat' (first
          | (apply And.intro)
          | (with_reducible refine bX12_copy_0 ?_; simp (disch := first | omega | decide) only [w_nl0, w_nli, w_nlr, ↓w_ts1, ↓w_ts0, w_rcv, w_rfv, w_cs, true_and, and_true, List.length_nil, List.length_cons, Nat.reduceAdd, Nat.reduceLeDiff, Nat.zero_le, Nat.reduceLT, ↓w_nil, ix_nI, nI_leP, nI_ltP, nI_eqP, nI_1, ↓i_inN, i_inN, l_le, l_lt, l_eq, r_le, r_lt, r_eq, sh68_0, sh68_1, sh68_2, sh68_3, sh68_4, ↓w_iload_1, ↓w_is, ↓pm_cl1_1, ↓w_ifeq, ↓w_iload_3, ↓w_ifne, ↓w_iconst, ↓w_ret, ↓w_iload_5, ↓w_ifge, ↓w_aload_0, ↓w_iv, ↓pm_cl2_2, ↓w_gf3, ↓w_iaload, ↓w_iflt, ↓w_iload_2, ↓w_iload_4, ↓w_i2l, ↓w_ladd, ↓w_lcmp, ↓w_ifgt, ↓w_ifle, ↓w_istore_6, ↓w_iload_6, ↓w_icge, ↓w_iadd, ↓pm_cl2_3, ↓w_iastore, ↓w_iinc_6, ↓w_goto, ↓w_bipush, ↓w_imul, pm_up_o, s3])
          | (with_reducible refine bX12_copy_1 ?_; simp (disch := first | omega | decide) only [w_nl0, w_nli, w_nlr, ↓w_ts1, ↓w_ts0, w_rcv, w_rfv, w_cs, true_and, and_true, List.length_nil, List.length_cons, Nat.reduceAdd, Nat.reduceLeDiff, Nat.zero_le, Nat.reduceLT, ↓w_nil, ix_nI, nI_leP, nI_ltP, nI_eqP, nI_1, ↓i_inN, i_inN, l_le, l_lt, l_eq, r_le, r_lt, r_eq, sh68_0, sh68_1, sh68_2, sh68_3, sh68_4, ↓w_iload_1, ↓w_is, ↓pm_cl1_1, ↓w_ifeq, ↓w_iload_3, ↓w_ifne, ↓w_iconst, ↓w_ret, ↓w_iload_5, ↓w_ifge, ↓w_aload_0, ↓w_iv, ↓pm_cl2_2, ↓w_gf3, ↓w_iaload, ↓w_iflt, ↓w_iload_2, ↓w_iload_4, ↓w_i2l, ↓w_ladd, ↓w_lcmp, ↓w_ifgt, ↓w_ifle, ↓w_istore_6, ↓w_iload_6, ↓w_icge, ↓w_iadd, ↓pm_cl2_3, ↓w_iastore, ↓w_iinc_6, ↓w_goto, ↓w_bipush, ↓w_imul, pm_up_o, s3])
          | (with_reducible refine bX12_copy_2 ?_; simp (disch := first | omega | decide) only [w_nl0, w_nli, w_nlr, ↓w_ts1, ↓w_ts0, w_rcv, w_rfv, w_cs, true_and, and_true, List.length_nil, List.length_cons, Nat.reduceAdd, Nat.reduceLeDiff, Nat.zero_le, Nat.reduceLT, ↓w_nil, ix_nI, nI_leP, nI_ltP, nI_eqP, nI_1, ↓i_inN, i_inN, l_le, l_lt, l_eq, r_le, r_lt, r_eq, sh68_0, sh68_1, sh68_2, sh68_3, sh68_4, ↓w_iload_1, ↓w_is, ↓pm_cl1_1, ↓w_ifeq, ↓w_iload_3, ↓w_ifne, ↓w_iconst, ↓w_ret, ↓w_iload_5, ↓w_ifge, ↓w_aload_0, ↓w_iv, ↓pm_cl2_2, ↓w_gf3, ↓w_iaload, ↓w_iflt, ↓w_iload_2, ↓w_iload_4, ↓w_i2l, ↓w_ladd, ↓w_lcmp, ↓w_ifgt, ↓w_ifle, ↓w_istore_6, ↓w_iload_6, ↓w_icge, ↓w_iadd, ↓pm_cl2_3, ↓w_iastore, ↓w_iinc_6, ↓w_goto, ↓w_bipush, ↓w_imul, pm_up_o, s3])
          | (with_reducible refine m_isRow (by omega) ?_ ; simp (disch := first | omega | decide) only [w_nl0, w_nli, w_nlr, ↓w_ts1, ↓w_ts0, w_rcv, w_rfv, w_cs, true_and, and_true, List.length_nil, List.length_cons, Nat.reduceAdd, Nat.reduceLeDiff, Nat.zero_le, Nat.reduceLT, ↓w_nil, ix_nI, nI_leP, nI_ltP, nI_eqP, nI_1, ↓i_inN, i_inN, l_le, l_lt, l_eq, r_le, r_lt, r_eq, sh68_0, sh68_1, sh68_2, sh68_3, sh68_4, ↓w_iload_1, ↓w_is, ↓pm_cl1_1, ↓w_ifeq, ↓w_iload_3, ↓w_ifne, ↓w_iconst, ↓w_ret, ↓w_iload_5, ↓w_ifge, ↓w_aload_0, ↓w_iv, ↓pm_cl2_2, ↓w_gf3, ↓w_iaload, ↓w_iflt, ↓w_iload_2, ↓w_iload_4, ↓w_i2l, ↓w_ladd, ↓w_lcmp, ↓w_ifgt, ↓w_ifle, ↓w_istore_6, ↓w_iload_6, ↓w_icge, ↓w_iadd, ↓pm_cl2_3, ↓w_iastore, ↓w_iinc_6, ↓w_goto, ↓w_bipush, ↓w_imul, pm_up_o, s3])
          | (with_reducible refine m_meets (by omega) (by decide) (by decide) ?_ ; simp (disch := first | omega | decide) only [w_nl0, w_nli, w_nlr, ↓w_ts1, ↓w_ts0, w_rcv, w_rfv, w_cs, true_and, and_true, List.length_nil, List.length_cons, Nat.reduceAdd, Nat.reduceLeDiff, Nat.zero_le, Nat.reduceLT, ↓w_nil, ix_nI, nI_leP, nI_ltP, nI_eqP, nI_1, ↓i_inN, i_inN, l_le, l_lt, l_eq, r_le, r_lt, r_eq, sh68_0, sh68_1, sh68_2, sh68_3, sh68_4, ↓w_iload_1, ↓w_is, ↓pm_cl1_1, ↓w_ifeq, ↓w_iload_3, ↓w_ifne, ↓w_iconst, ↓w_ret, ↓w_iload_5, ↓w_ifge, ↓w_aload_0, ↓w_iv, ↓pm_cl2_2, ↓w_gf3, ↓w_iaload, ↓w_iflt, ↓w_iload_2, ↓w_iload_4, ↓w_i2l, ↓w_ladd, ↓w_lcmp, ↓w_ifgt, ↓w_ifle, ↓w_istore_6, ↓w_iload_6, ↓w_icge, ↓w_iadd, ↓pm_cl2_3, ↓w_iastore, ↓w_iinc_6, ↓w_goto, ↓w_bipush, ↓w_imul, pm_up_o, s3])
          | (simp only [w_in])
          | (intro _))
      all_goals first | rfl | exact hw | exact relw_found hw | exact relw_asks hw | grind
    · have hn1 : 0 ≤ n := by grind
      by_cases hmis : I 4 r < 0 ∨ I 4 t < 0
      · clear s4
        refine eX11_copy (by omega) ?_
        repeat' (first
          | (apply And.intro)
          | (with_reducible refine bX11_copy_0 ?_; simp (disch := first | omega | decide) only [w_nl0, w_nli, w_nlr, ↓w_ts1, ↓w_ts0, w_rcv, w_rfv, w_cs, true_and, and_true, List.length_nil, List.length_cons, Nat.reduceAdd, Nat.reduceLeDiff, Nat.zero_le, Nat.reduceLT, ↓w_nil, ix_nI, nI_leP, nI_ltP, nI_eqP, nI_1, ↓i_inN, i_inN, l_le, l_lt, l_eq, r_le, r_lt, r_eq, sh0, sh1, sh55, sh60, sh9, sh31, sh23, sh37, sh42, sh43, sh19, sh3, sh6, ↓w_aload_0, ↓w_gf3, ↓w_iload_1, ↓w_iv, ↓pm_cl2_2, ↓w_ifeq, ↓w_iload_3, ↓w_ifne, ↓w_iconst, ↓w_ret, ↓w_iload_5, ↓w_ifge, ↓w_iload_2, ↓pm_cl2_4, ↓w_iload_4, ↓pm_cl2_6, hrx, htx])
          | (with_reducible refine bX11_copy_1 ?_; simp (disch := first | omega | decide) only [w_nl0, w_nli, w_nlr, ↓w_ts1, ↓w_ts0, w_rcv, w_rfv, w_cs, true_and, and_true, List.length_nil, List.length_cons, Nat.reduceAdd, Nat.reduceLeDiff, Nat.zero_le, Nat.reduceLT, ↓w_nil, ix_nI, nI_leP, nI_ltP, nI_eqP, nI_1, ↓i_inN, i_inN, l_le, l_lt, l_eq, r_le, r_lt, r_eq, sh0, sh1, sh55, sh60, sh9, sh31, sh23, sh37, sh42, sh43, sh19, sh3, sh6, ↓w_aload_0, ↓w_gf3, ↓w_iload_1, ↓w_iv, ↓pm_cl2_2, ↓w_ifeq, ↓w_iload_3, ↓w_ifne, ↓w_iconst, ↓w_ret, ↓w_iload_5, ↓w_ifge, ↓w_iload_2, ↓pm_cl2_4, ↓w_iload_4, ↓pm_cl2_6, hrx, htx])
          | (with_reducible refine bX11_copy_2 ?_; simp (disch := first | omega | decide) only [w_nl0, w_nli, w_nlr, ↓w_ts1, ↓w_ts0, w_rcv, w_rfv, w_cs, true_and, and_true, List.length_nil, List.length_cons, Nat.reduceAdd, Nat.reduceLeDiff, Nat.zero_le, Nat.reduceLT, ↓w_nil, ix_nI, nI_leP, nI_ltP, nI_eqP, nI_1, ↓i_inN, i_inN, l_le, l_lt, l_eq, r_le, r_lt, r_eq, sh0, sh1, sh55, sh60, sh9, sh31, sh23, sh37, sh42, sh43, sh19, sh3, sh6, ↓w_aload_0, ↓w_gf3, ↓w_iload_1, ↓w_iv, ↓pm_cl2_2, ↓w_ifeq, ↓w_iload_3, ↓w_ifne, ↓w_iconst, ↓w_ret, ↓w_iload_5, ↓w_ifge, ↓w_iload_2, ↓pm_cl2_4, ↓w_iload_4, ↓pm_cl2_6, hrx, htx])
          | (with_reducible refine bX11_copy_3 ?_; simp (disch := first | omega | decide) only [w_nl0, w_nli, w_nlr, ↓w_ts1, ↓w_ts0, w_rcv, w_rfv, w_cs, true_and, and_true, List.length_nil, List.length_cons, Nat.reduceAdd, Nat.reduceLeDiff, Nat.zero_le, Nat.reduceLT, ↓w_nil, ix_nI, nI_leP, nI_ltP, nI_eqP, nI_1, ↓i_inN, i_inN, l_le, l_lt, l_eq, r_le, r_lt, r_eq, sh0, sh1, sh55, sh60, sh9, sh31, sh23, sh37, sh42, sh43, sh19, sh3, sh6, ↓w_aload_0, ↓w_gf3, ↓w_iload_1, ↓w_iv, ↓pm_cl2_2, ↓w_ifeq, ↓w_iload_3, ↓w_ifne, ↓w_iconst, ↓w_ret, ↓w_iload_5, ↓w_ifge, ↓w_iload_2, ↓pm_cl2_4, ↓w_iload_4, ↓pm_cl2_6, hrx, htx])
          | (with_reducible refine bX11_copy_4 ?_; simp (disch := first | omega | decide) only [w_nl0, w_nli, w_nlr, ↓w_ts1, ↓w_ts0, w_rcv, w_rfv, w_cs, true_and, and_true, List.length_nil, List.length_cons, Nat.reduceAdd, Nat.reduceLeDiff, Nat.zero_le, Nat.reduceLT, ↓w_nil, ix_nI, nI_leP, nI_ltP, nI_eqP, nI_1, ↓i_inN, i_inN, l_le, l_lt, l_eq, r_le, r_lt, r_eq, sh0, sh1, sh55, sh60, sh9, sh31, sh23, sh37, sh42, sh43, sh19, sh3, sh6, ↓w_aload_0, ↓w_gf3, ↓w_iload_1, ↓w_iv, ↓pm_cl2_2, ↓w_ifeq, ↓w_iload_3, ↓w_ifne, ↓w_iconst, ↓w_ret, ↓w_iload_5, ↓w_ifge, ↓w_iload_2, ↓pm_cl2_4, ↓w_iload_4, ↓pm_cl2_6, hrx, htx])
          | (with_reducible refine c_hasR (by omega) ?_ ; simp (disch := first | omega | decide) only [w_nl0, w_nli, w_nlr, ↓w_ts1, ↓w_ts0, w_rcv, w_rfv, w_cs, true_and, and_true, List.length_nil, List.length_cons, Nat.reduceAdd, Nat.reduceLeDiff, Nat.zero_le, Nat.reduceLT, ↓w_nil, ix_nI, nI_leP, nI_ltP, nI_eqP, nI_1, ↓i_inN, i_inN, l_le, l_lt, l_eq, r_le, r_lt, r_eq, sh0, sh1, sh55, sh60, sh9, sh31, sh23, sh37, sh42, sh43, sh19, sh3, sh6, ↓w_aload_0, ↓w_gf3, ↓w_iload_1, ↓w_iv, ↓pm_cl2_2, ↓w_ifeq, ↓w_iload_3, ↓w_ifne, ↓w_iconst, ↓w_ret, ↓w_iload_5, ↓w_ifge, ↓w_iload_2, ↓pm_cl2_4, ↓w_iload_4, ↓pm_cl2_6, hrx, htx])
          | (with_reducible refine c_missingR (by omega) ?_ ; simp (disch := first | omega | decide) only [w_nl0, w_nli, w_nlr, ↓w_ts1, ↓w_ts0, w_rcv, w_rfv, w_cs, true_and, and_true, List.length_nil, List.length_cons, Nat.reduceAdd, Nat.reduceLeDiff, Nat.zero_le, Nat.reduceLT, ↓w_nil, ix_nI, nI_leP, nI_ltP, nI_eqP, nI_1, ↓i_inN, i_inN, l_le, l_lt, l_eq, r_le, r_lt, r_eq, sh0, sh1, sh55, sh60, sh9, sh31, sh23, sh37, sh42, sh43, sh19, sh3, sh6, ↓w_aload_0, ↓w_gf3, ↓w_iload_1, ↓w_iv, ↓pm_cl2_2, ↓w_ifeq, ↓w_iload_3, ↓w_ifne, ↓w_iconst, ↓w_ret, ↓w_iload_5, ↓w_ifge, ↓w_iload_2, ↓pm_cl2_4, ↓w_iload_4, ↓pm_cl2_6, hrx, htx])
          | (with_reducible refine c_found (by omega) (by decide) (by decide) ?_ ; simp (disch := first | omega | decide) only [w_nl0, w_nli, w_nlr, ↓w_ts1, ↓w_ts0, w_rcv, w_rfv, w_cs, true_and, and_true, List.length_nil, List.length_cons, Nat.reduceAdd, Nat.reduceLeDiff, Nat.zero_le, Nat.reduceLT, ↓w_nil, ix_nI, nI_leP, nI_ltP, nI_eqP, nI_1, ↓i_inN, i_inN, l_le, l_lt, l_eq, r_le, r_lt, r_eq, sh0, sh1, sh55, sh60, sh9, sh31, sh23, sh37, sh42, sh43, sh19, sh3, sh6, ↓w_aload_0, ↓w_gf3, ↓w_iload_1, ↓w_iv, ↓pm_cl2_2, ↓w_ifeq, ↓w_iload_3, ↓w_ifne, ↓w_iconst, ↓w_ret, ↓w_iload_5, ↓w_ifge, ↓w_iload_2, ↓pm_cl2_4, ↓w_iload_4, ↓pm_cl2_6, hrx, htx])
          | (simp only [w_in])
          | (intro _))
        all_goals try rfl
        all_goals try grind
        all_goals try refine MC.of (eX12_copy (by omega) ?_)
        all_goals
          repeat' (first
            | (apply And.intro)
            | (with_reducible refine bX12_copy_0 ?_; simp (disch := first | omega | decide) only [w_nl0, w_nli, w_nlr, ↓w_ts1, ↓w_ts0, w_rcv, w_rfv, w_cs, true_and, and_true, List.length_nil, List.length_cons, Nat.reduceAdd, Nat.reduceLeDiff, Nat.zero_le, Nat.reduceLT, ↓w_nil, ix_nI, nI_leP, nI_ltP, nI_eqP, nI_1, ↓i_inN, i_inN, l_le, l_lt, l_eq, r_le, r_lt, r_eq, sh68_0, sh68_1, sh68_2, sh68_3, sh68_4, ↓w_iload_1, ↓w_is, ↓pm_cl1_1, ↓w_ifeq, ↓w_iload_3, ↓w_ifne, ↓w_iconst, ↓w_ret, ↓w_iload_5, ↓w_ifge, ↓w_aload_0, ↓w_iv, ↓pm_cl2_2, ↓w_gf3, ↓w_iaload, ↓w_iflt, ↓w_iload_2, ↓w_iload_4, ↓w_i2l, ↓w_ladd, ↓w_lcmp, ↓w_ifgt, ↓w_ifle, ↓w_istore_6, ↓w_iload_6, ↓w_icge, ↓w_iadd, ↓pm_cl2_3, ↓w_iastore, ↓w_iinc_6, ↓w_goto, ↓w_bipush, ↓w_imul, pm_up_o, s3, hrx, htx])
            | (with_reducible refine bX12_copy_1 ?_; simp (disch := first | omega | decide) only [w_nl0, w_nli, w_nlr, ↓w_ts1, ↓w_ts0, w_rcv, w_rfv, w_cs, true_and, and_true, List.length_nil, List.length_cons, Nat.reduceAdd, Nat.reduceLeDiff, Nat.zero_le, Nat.reduceLT, ↓w_nil, ix_nI, nI_leP, nI_ltP, nI_eqP, nI_1, ↓i_inN, i_inN, l_le, l_lt, l_eq, r_le, r_lt, r_eq, sh68_0, sh68_1, sh68_2, sh68_3, sh68_4, ↓w_iload_1, ↓w_is, ↓pm_cl1_1, ↓w_ifeq, ↓w_iload_3, ↓w_ifne, ↓w_iconst, ↓w_ret, ↓w_iload_5, ↓w_ifge, ↓w_aload_0, ↓w_iv, ↓pm_cl2_2, ↓w_gf3, ↓w_iaload, ↓w_iflt, ↓w_iload_2, ↓w_iload_4, ↓w_i2l, ↓w_ladd, ↓w_lcmp, ↓w_ifgt, ↓w_ifle, ↓w_istore_6, ↓w_iload_6, ↓w_icge, ↓w_iadd, ↓pm_cl2_3, ↓w_iastore, ↓w_iinc_6, ↓w_goto, ↓w_bipush, ↓w_imul, pm_up_o, s3, hrx, htx])
            | (with_reducible refine bX12_copy_2 ?_; simp (disch := first | omega | decide) only [w_nl0, w_nli, w_nlr, ↓w_ts1, ↓w_ts0, w_rcv, w_rfv, w_cs, true_and, and_true, List.length_nil, List.length_cons, Nat.reduceAdd, Nat.reduceLeDiff, Nat.zero_le, Nat.reduceLT, ↓w_nil, ix_nI, nI_leP, nI_ltP, nI_eqP, nI_1, ↓i_inN, i_inN, l_le, l_lt, l_eq, r_le, r_lt, r_eq, sh68_0, sh68_1, sh68_2, sh68_3, sh68_4, ↓w_iload_1, ↓w_is, ↓pm_cl1_1, ↓w_ifeq, ↓w_iload_3, ↓w_ifne, ↓w_iconst, ↓w_ret, ↓w_iload_5, ↓w_ifge, ↓w_aload_0, ↓w_iv, ↓pm_cl2_2, ↓w_gf3, ↓w_iaload, ↓w_iflt, ↓w_iload_2, ↓w_iload_4, ↓w_i2l, ↓w_ladd, ↓w_lcmp, ↓w_ifgt, ↓w_ifle, ↓w_istore_6, ↓w_iload_6, ↓w_icge, ↓w_iadd, ↓pm_cl2_3, ↓w_iastore, ↓w_iinc_6, ↓w_goto, ↓w_bipush, ↓w_imul, pm_up_o, s3, hrx, htx])
            | (with_reducible refine bX12_copy_3 ?_; simp (disch := first | omega | decide) only [w_nl0, w_nli, w_nlr, ↓w_ts1, ↓w_ts0, w_rcv, w_rfv, w_cs, true_and, and_true, List.length_nil, List.length_cons, Nat.reduceAdd, Nat.reduceLeDiff, Nat.zero_le, Nat.reduceLT, ↓w_nil, ix_nI, nI_leP, nI_ltP, nI_eqP, nI_1, ↓i_inN, i_inN, l_le, l_lt, l_eq, r_le, r_lt, r_eq, sh68_0, sh68_1, sh68_2, sh68_3, sh68_4, ↓w_iload_1, ↓w_is, ↓pm_cl1_1, ↓w_ifeq, ↓w_iload_3, ↓w_ifne, ↓w_iconst, ↓w_ret, ↓w_iload_5, ↓w_ifge, ↓w_aload_0, ↓w_iv, ↓pm_cl2_2, ↓w_gf3, ↓w_iaload, ↓w_iflt, ↓w_iload_2, ↓w_iload_4, ↓w_i2l, ↓w_ladd, ↓w_lcmp, ↓w_ifgt, ↓w_ifle, ↓w_istore_6, ↓w_iload_6, ↓w_icge, ↓w_iadd, ↓pm_cl2_3, ↓w_iastore, ↓w_iinc_6, ↓w_goto, ↓w_bipush, ↓w_imul, pm_up_o, s3, hrx, htx])
            | (with_reducible refine bX12_copy_4 ?_; simp (disch := first | omega | decide) only [w_nl0, w_nli, w_nlr, ↓w_ts1, ↓w_ts0, w_rcv, w_rfv, w_cs, true_and, and_true, List.length_nil, List.length_cons, Nat.reduceAdd, Nat.reduceLeDiff, Nat.zero_le, Nat.reduceLT, ↓w_nil, ix_nI, nI_leP, nI_ltP, nI_eqP, nI_1, ↓i_inN, i_inN, l_le, l_lt, l_eq, r_le, r_lt, r_eq, sh68_0, sh68_1, sh68_2, sh68_3, sh68_4, ↓w_iload_1, ↓w_is, ↓pm_cl1_1, ↓w_ifeq, ↓w_iload_3, ↓w_ifne, ↓w_iconst, ↓w_ret, ↓w_iload_5, ↓w_ifge, ↓w_aload_0, ↓w_iv, ↓pm_cl2_2, ↓w_gf3, ↓w_iaload, ↓w_iflt, ↓w_iload_2, ↓w_iload_4, ↓w_i2l, ↓w_ladd, ↓w_lcmp, ↓w_ifgt, ↓w_ifle, ↓w_istore_6, ↓w_iload_6, ↓w_icge, ↓w_iadd, ↓pm_cl2_3, ↓w_iastore, ↓w_iinc_6, ↓w_goto, ↓w_bipush, ↓w_imul, pm_up_o, s3, hrx, htx])
            | (with_reducible refine m_isRow (by omega) ?_ ; simp (disch := first | omega | decide) only [w_nl0, w_nli, w_nlr, ↓w_ts1, ↓w_ts0, w_rcv, w_rfv, w_cs, true_and, and_true, List.length_nil, List.length_cons, Nat.reduceAdd, Nat.reduceLeDiff, Nat.zero_le, Nat.reduceLT, ↓w_nil, ix_nI, nI_leP, nI_ltP, nI_eqP, nI_1, ↓i_inN, i_inN, l_le, l_lt, l_eq, r_le, r_lt, r_eq, sh68_0, sh68_1, sh68_2, sh68_3, sh68_4, ↓w_iload_1, ↓w_is, ↓pm_cl1_1, ↓w_ifeq, ↓w_iload_3, ↓w_ifne, ↓w_iconst, ↓w_ret, ↓w_iload_5, ↓w_ifge, ↓w_aload_0, ↓w_iv, ↓pm_cl2_2, ↓w_gf3, ↓w_iaload, ↓w_iflt, ↓w_iload_2, ↓w_iload_4, ↓w_i2l, ↓w_ladd, ↓w_lcmp, ↓w_ifgt, ↓w_ifle, ↓w_istore_6, ↓w_iload_6, ↓w_icge, ↓w_iadd, ↓pm_cl2_3, ↓w_iastore, ↓w_iinc_6, ↓w_goto, ↓w_bipush, ↓w_imul, pm_up_o, s3, hrx, htx])
            | (with_reducible refine m_meets (by omega) (by decide) (by decide) ?_ ; simp (disch := first | omega | decide) only [w_nl0, w_nli, w_nlr, ↓w_ts1, ↓w_ts0, w_rcv, w_rfv, w_cs, true_and, and_true, List.length_nil, List.length_cons, Nat.reduceAdd, Nat.reduceLeDiff, Nat.zero_le, Nat.reduceLT, ↓w_nil, ix_nI, nI_leP, nI_ltP, nI_eqP, nI_1, ↓i_inN, i_inN, l_le, l_lt, l_eq, r_le, r_lt, r_eq, sh68_0, sh68_1, sh68_2, sh68_3, sh68_4, ↓w_iload_1, ↓w_is, ↓pm_cl1_1, ↓w_ifeq, ↓w_iload_3, ↓w_ifne, ↓w_iconst, ↓w_ret, ↓w_iload_5, ↓w_ifge, ↓w_aload_0, ↓w_iv, ↓pm_cl2_2, ↓w_gf3, ↓w_iaload, ↓w_iflt, ↓w_iload_2, ↓w_iload_4, ↓w_i2l, ↓w_ladd, ↓w_lcmp, ↓w_ifgt, ↓w_ifle, ↓w_istore_6, ↓w_iload_6, ↓w_icge, ↓w_iadd, ↓pm_cl2_3, ↓w_iastore, ↓w_iinc_6, ↓w_goto, ↓w_bipush, ↓w_imul, pm_up_o, s3, hrx, htx])
            | (simp only [w_in])
            | (intro _))
        all_goals first | rfl | exact hw | exact relw_found hw | exact relw_asks hw | grind
      · have hr4 : ∃ k, k ≤ 24 ∧ I 4 r = nI k := by
          rcases s4 r hr with h1 | ⟨k, hk, h1, h2⟩
          · exfalso
            rw [h1] at hmis
            exact hmis (Or.inl (by decide))
          · exact ⟨k, hk, h1⟩
        have ht4 : ∃ k, k ≤ 24 ∧ I 4 t = nI k := by
          rcases s4 t ht with h1 | ⟨k, hk, h1, h2⟩
          · exfalso
            rw [h1] at hmis
            exact hmis (Or.inr (by decide))
          · exact ⟨k, hk, h1⟩
        clear s4
        obtain ⟨sr, hsr, es⟩ := hr4
        obtain ⟨st, hst, et⟩ := ht4
        have v24 : nI 24 = (24 : Int32) := rfl
        have rs := nI_rng (n := sr) (N := 24) hsr (by decide)
        have rt := nI_rng (n := st) (N := 24) hst (by decide)
        rw [v24] at rs rt
        have p1 := sp_eq (i := i) (n := n) (s := nI sr) rs hn1
        have p2 := sp_eq (i := j) (n := n) (s := nI st) rt hn1
        by_cases hsp : (0 ≤ i ∧ i ≤ nI sr ∧ 0 ≤ n ∧ n ≤ nI sr - i) ∧ (0 ≤ j ∧ j ≤ nI st ∧ 0 ≤ n ∧ n ≤ nI st - j)
        · obtain ⟨a, ha, rfl⟩ := i_q (x := i) (n := sr + 1) (by omega) hsp.1.1 (Int32.lt_of_le_of_lt hsp.1.2.1 (nI_lt (by omega) (by omega)))
          obtain ⟨b, hb, rfl⟩ := i_q (x := j) (n := st + 1) (by omega) hsp.2.1 (Int32.lt_of_le_of_lt hsp.2.2.1 (nI_lt (by omega) (by omega)))
          have f1 : nI sr - nI a = nI (sr - a) := by
            rw [show sr = (sr - a) + a by omega, ← nI_add (sr - a) a]
            have : sr - a + a - a = sr - a := by omega
            rw [this]
            grind
          have f2 : nI st - nI b = nI (st - b) := by
            rw [show st = (st - b) + b by omega, ← nI_add (st - b) b]
            have : st - b + b - b = st - b := by omega
            rw [this]
            grind
          have hm1 := hsp.1.2.2.2
          have hm2 := hsp.2.2.2.2
          rw [f1] at hm1
          rw [f2] at hm2
          obtain ⟨m, hm, rfl⟩ := i_q (x := n) (n := sr - a + 1) (by omega) hn1 (Int32.lt_of_le_of_lt hm1 (nI_lt (by omega) (by omega)))
          have hm3 : m ≤ st - b := by
            rw [nI_leP (by omega) (by omega)] at hm2
            exact hm2
          have hn := rel_copy (a := a) (t := t) (b := b) (m := m) h hr es hsr (by omega)
          have hg : ∀ k, (I 4 k < 0) = (I 4 k < 0) := fun _ => rfl
          clear f1 f2 hm1 hm2 hn0 hn1 p1 p2 v24
          have hcp : pm_cpy I 5 5 (24 * r + a) (24 * t + b) m 70 = I 4 := by
            unfold pm_cpy
            rw [if_neg (by decide), s3]
          have hcp1 : pm_cpy I 5 5 (24 * r + a) (24 * t + b) m 71 = I 71 := by
            unfold pm_cpy
            rw [if_neg (by decide)]
          refine eX11_copy (by omega) ?_
          repeat' (first
            | (apply And.intro)
            | (with_reducible refine bX11_copy_0 ?_; simp (disch := first | omega | decide) only [w_nl0, w_nli, w_nlr, ↓w_ts1, ↓w_ts0, w_rcv, w_rfv, w_cs, true_and, and_true, List.length_nil, List.length_cons, Nat.reduceAdd, Nat.reduceLeDiff, Nat.zero_le, Nat.reduceLT, ↓w_nil, ix_nI, nI_leP, nI_ltP, nI_eqP, nI_1, ↓i_inN, i_inN, l_le, l_lt, l_eq, r_le, r_lt, r_eq, sh0, sh1, sh55, sh60, sh9, sh31, sh23, sh37, sh42, sh43, sh19, sh3, sh6, ↓w_aload_0, ↓w_gf3, ↓w_iload_1, ↓w_iv, ↓pm_cl2_2, ↓w_ifeq, ↓w_iload_3, ↓w_ifne, ↓w_iconst, ↓w_ret, ↓w_iload_5, ↓w_ifge, ↓w_iload_2, ↓pm_cl2_4, ↓w_iload_4, ↓pm_cl2_6, hrx, htx, es, et])
            | (with_reducible refine bX11_copy_1 ?_; simp (disch := first | omega | decide) only [w_nl0, w_nli, w_nlr, ↓w_ts1, ↓w_ts0, w_rcv, w_rfv, w_cs, true_and, and_true, List.length_nil, List.length_cons, Nat.reduceAdd, Nat.reduceLeDiff, Nat.zero_le, Nat.reduceLT, ↓w_nil, ix_nI, nI_leP, nI_ltP, nI_eqP, nI_1, ↓i_inN, i_inN, l_le, l_lt, l_eq, r_le, r_lt, r_eq, sh0, sh1, sh55, sh60, sh9, sh31, sh23, sh37, sh42, sh43, sh19, sh3, sh6, ↓w_aload_0, ↓w_gf3, ↓w_iload_1, ↓w_iv, ↓pm_cl2_2, ↓w_ifeq, ↓w_iload_3, ↓w_ifne, ↓w_iconst, ↓w_ret, ↓w_iload_5, ↓w_ifge, ↓w_iload_2, ↓pm_cl2_4, ↓w_iload_4, ↓pm_cl2_6, hrx, htx, es, et])
            | (with_reducible refine bX11_copy_2 ?_; simp (disch := first | omega | decide) only [w_nl0, w_nli, w_nlr, ↓w_ts1, ↓w_ts0, w_rcv, w_rfv, w_cs, true_and, and_true, List.length_nil, List.length_cons, Nat.reduceAdd, Nat.reduceLeDiff, Nat.zero_le, Nat.reduceLT, ↓w_nil, ix_nI, nI_leP, nI_ltP, nI_eqP, nI_1, ↓i_inN, i_inN, l_le, l_lt, l_eq, r_le, r_lt, r_eq, sh0, sh1, sh55, sh60, sh9, sh31, sh23, sh37, sh42, sh43, sh19, sh3, sh6, ↓w_aload_0, ↓w_gf3, ↓w_iload_1, ↓w_iv, ↓pm_cl2_2, ↓w_ifeq, ↓w_iload_3, ↓w_ifne, ↓w_iconst, ↓w_ret, ↓w_iload_5, ↓w_ifge, ↓w_iload_2, ↓pm_cl2_4, ↓w_iload_4, ↓pm_cl2_6, hrx, htx, es, et])
            | (with_reducible refine bX11_copy_3 ?_; simp (disch := first | omega | decide) only [w_nl0, w_nli, w_nlr, ↓w_ts1, ↓w_ts0, w_rcv, w_rfv, w_cs, true_and, and_true, List.length_nil, List.length_cons, Nat.reduceAdd, Nat.reduceLeDiff, Nat.zero_le, Nat.reduceLT, ↓w_nil, ix_nI, nI_leP, nI_ltP, nI_eqP, nI_1, ↓i_inN, i_inN, l_le, l_lt, l_eq, r_le, r_lt, r_eq, sh0, sh1, sh55, sh60, sh9, sh31, sh23, sh37, sh42, sh43, sh19, sh3, sh6, ↓w_aload_0, ↓w_gf3, ↓w_iload_1, ↓w_iv, ↓pm_cl2_2, ↓w_ifeq, ↓w_iload_3, ↓w_ifne, ↓w_iconst, ↓w_ret, ↓w_iload_5, ↓w_ifge, ↓w_iload_2, ↓pm_cl2_4, ↓w_iload_4, ↓pm_cl2_6, hrx, htx, es, et])
            | (with_reducible refine bX11_copy_4 ?_; simp (disch := first | omega | decide) only [w_nl0, w_nli, w_nlr, ↓w_ts1, ↓w_ts0, w_rcv, w_rfv, w_cs, true_and, and_true, List.length_nil, List.length_cons, Nat.reduceAdd, Nat.reduceLeDiff, Nat.zero_le, Nat.reduceLT, ↓w_nil, ix_nI, nI_leP, nI_ltP, nI_eqP, nI_1, ↓i_inN, i_inN, l_le, l_lt, l_eq, r_le, r_lt, r_eq, sh0, sh1, sh55, sh60, sh9, sh31, sh23, sh37, sh42, sh43, sh19, sh3, sh6, ↓w_aload_0, ↓w_gf3, ↓w_iload_1, ↓w_iv, ↓pm_cl2_2, ↓w_ifeq, ↓w_iload_3, ↓w_ifne, ↓w_iconst, ↓w_ret, ↓w_iload_5, ↓w_ifge, ↓w_iload_2, ↓pm_cl2_4, ↓w_iload_4, ↓pm_cl2_6, hrx, htx, es, et])
            | (with_reducible refine bX11_copy_5 ?_; simp (disch := first | omega | decide) only [w_nl0, w_nli, w_nlr, ↓w_ts1, ↓w_ts0, w_rcv, w_rfv, w_cs, true_and, and_true, List.length_nil, List.length_cons, Nat.reduceAdd, Nat.reduceLeDiff, Nat.zero_le, Nat.reduceLT, ↓w_nil, ix_nI, nI_leP, nI_ltP, nI_eqP, nI_1, ↓i_inN, i_inN, l_le, l_lt, l_eq, r_le, r_lt, r_eq, sh0, sh1, sh55, sh60, sh9, sh31, sh23, sh37, sh42, sh43, sh19, sh3, sh6, ↓w_aload_0, ↓w_gf3, ↓w_iload_1, ↓w_iv, ↓pm_cl2_2, ↓w_ifeq, ↓w_iload_3, ↓w_ifne, ↓w_iconst, ↓w_ret, ↓w_iload_5, ↓w_ifge, ↓w_iload_2, ↓pm_cl2_4, ↓w_iload_4, ↓pm_cl2_6, hrx, htx, es, et])
            | (with_reducible refine bX11_copy_6 ?_; simp (disch := first | omega | decide) only [w_nl0, w_nli, w_nlr, ↓w_ts1, ↓w_ts0, w_rcv, w_rfv, w_cs, true_and, and_true, List.length_nil, List.length_cons, Nat.reduceAdd, Nat.reduceLeDiff, Nat.zero_le, Nat.reduceLT, ↓w_nil, ix_nI, nI_leP, nI_ltP, nI_eqP, nI_1, ↓i_inN, i_inN, l_le, l_lt, l_eq, r_le, r_lt, r_eq, sh0, sh1, sh55, sh60, sh9, sh31, sh23, sh37, sh42, sh43, sh19, sh3, sh6, ↓w_aload_0, ↓w_gf3, ↓w_iload_1, ↓w_iv, ↓pm_cl2_2, ↓w_ifeq, ↓w_iload_3, ↓w_ifne, ↓w_iconst, ↓w_ret, ↓w_iload_5, ↓w_ifge, ↓w_iload_2, ↓pm_cl2_4, ↓w_iload_4, ↓pm_cl2_6, hrx, htx, es, et])
            | (with_reducible refine bX11_copy_7 ?_; simp (disch := first | omega | decide) only [w_nl0, w_nli, w_nlr, ↓w_ts1, ↓w_ts0, w_rcv, w_rfv, w_cs, true_and, and_true, List.length_nil, List.length_cons, Nat.reduceAdd, Nat.reduceLeDiff, Nat.zero_le, Nat.reduceLT, ↓w_nil, ix_nI, nI_leP, nI_ltP, nI_eqP, nI_1, ↓i_inN, i_inN, l_le, l_lt, l_eq, r_le, r_lt, r_eq, sh0, sh1, sh55, sh60, sh9, sh31, sh23, sh37, sh42, sh43, sh19, sh3, sh6, ↓w_aload_0, ↓w_gf3, ↓w_iload_1, ↓w_iv, ↓pm_cl2_2, ↓w_ifeq, ↓w_iload_3, ↓w_ifne, ↓w_iconst, ↓w_ret, ↓w_iload_5, ↓w_ifge, ↓w_iload_2, ↓pm_cl2_4, ↓w_iload_4, ↓pm_cl2_6, hrx, htx, es, et])
            | (with_reducible refine c_hasR (by omega) ?_ ; simp (disch := first | omega | decide) only [w_nl0, w_nli, w_nlr, ↓w_ts1, ↓w_ts0, w_rcv, w_rfv, w_cs, true_and, and_true, List.length_nil, List.length_cons, Nat.reduceAdd, Nat.reduceLeDiff, Nat.zero_le, Nat.reduceLT, ↓w_nil, ix_nI, nI_leP, nI_ltP, nI_eqP, nI_1, ↓i_inN, i_inN, l_le, l_lt, l_eq, r_le, r_lt, r_eq, sh0, sh1, sh55, sh60, sh9, sh31, sh23, sh37, sh42, sh43, sh19, sh3, sh6, ↓w_aload_0, ↓w_gf3, ↓w_iload_1, ↓w_iv, ↓pm_cl2_2, ↓w_ifeq, ↓w_iload_3, ↓w_ifne, ↓w_iconst, ↓w_ret, ↓w_iload_5, ↓w_ifge, ↓w_iload_2, ↓pm_cl2_4, ↓w_iload_4, ↓pm_cl2_6, hrx, htx, es, et])
            | (with_reducible refine c_missingR (by omega) ?_ ; simp (disch := first | omega | decide) only [w_nl0, w_nli, w_nlr, ↓w_ts1, ↓w_ts0, w_rcv, w_rfv, w_cs, true_and, and_true, List.length_nil, List.length_cons, Nat.reduceAdd, Nat.reduceLeDiff, Nat.zero_le, Nat.reduceLT, ↓w_nil, ix_nI, nI_leP, nI_ltP, nI_eqP, nI_1, ↓i_inN, i_inN, l_le, l_lt, l_eq, r_le, r_lt, r_eq, sh0, sh1, sh55, sh60, sh9, sh31, sh23, sh37, sh42, sh43, sh19, sh3, sh6, ↓w_aload_0, ↓w_gf3, ↓w_iload_1, ↓w_iv, ↓pm_cl2_2, ↓w_ifeq, ↓w_iload_3, ↓w_ifne, ↓w_iconst, ↓w_ret, ↓w_iload_5, ↓w_ifge, ↓w_iload_2, ↓pm_cl2_4, ↓w_iload_4, ↓pm_cl2_6, hrx, htx, es, et])
            | (with_reducible refine c_spansR (by omega) ?_ ; simp (disch := first | omega | decide) only [w_nl0, w_nli, w_nlr, ↓w_ts1, ↓w_ts0, w_rcv, w_rfv, w_cs, true_and, and_true, List.length_nil, List.length_cons, Nat.reduceAdd, Nat.reduceLeDiff, Nat.zero_le, Nat.reduceLT, ↓w_nil, ix_nI, nI_leP, nI_ltP, nI_eqP, nI_1, ↓i_inN, i_inN, l_le, l_lt, l_eq, r_le, r_lt, r_eq, sh0, sh1, sh55, sh60, sh9, sh31, sh23, sh37, sh42, sh43, sh19, sh3, sh6, ↓w_aload_0, ↓w_gf3, ↓w_iload_1, ↓w_iv, ↓pm_cl2_2, ↓w_ifeq, ↓w_iload_3, ↓w_ifne, ↓w_iconst, ↓w_ret, ↓w_iload_5, ↓w_ifge, ↓w_iload_2, ↓pm_cl2_4, ↓w_iload_4, ↓pm_cl2_6, hrx, htx, es, et])
            | (with_reducible refine c_move (by omega) s1 hr ht es et hsr hst (by omega) (by omega) ?_ ; simp (disch := first | omega | decide) only [w_nl0, w_nli, w_nlr, ↓w_ts1, ↓w_ts0, w_rcv, w_rfv, w_cs, true_and, and_true, List.length_nil, List.length_cons, Nat.reduceAdd, Nat.reduceLeDiff, Nat.zero_le, Nat.reduceLT, ↓w_nil, ix_nI, nI_leP, nI_ltP, nI_eqP, nI_1, ↓i_inN, i_inN, l_le, l_lt, l_eq, r_le, r_lt, r_eq, sh0, sh1, sh55, sh60, sh9, sh31, sh23, sh37, sh42, sh43, sh19, sh3, sh6, ↓w_aload_0, ↓w_gf3, ↓w_iload_1, ↓w_iv, ↓pm_cl2_2, ↓w_ifeq, ↓w_iload_3, ↓w_ifne, ↓w_iconst, ↓w_ret, ↓w_iload_5, ↓w_ifge, ↓w_iload_2, ↓pm_cl2_4, ↓w_iload_4, ↓pm_cl2_6, hrx, htx, es, et])
            | (simp only [w_in])
            | (intro _))
          all_goals try rfl
          all_goals try grind
          all_goals
            refine MC.of ?_
            refine m_copy (sr := sr) (st := st) (by omega) hr ht (by rw [hcp, es]) (by rw [hcp, et]) hsr hst (by omega) (by omega) ?_
            rw [hcp1]
            exact ⟨by trivial, by trivial, hn⟩
        · have hsp2 : ¬ ((0 ≤ i ∧ i.toInt64 + n.toInt64 ≤ (nI sr).toInt64) ∧ (0 ≤ j ∧ j.toInt64 + n.toInt64 ≤ (nI st).toInt64)) := by
            rw [← p1, ← p2]
            exact hsp
          clear p1 p2
          refine eX11_copy (by omega) ?_
          repeat' (first
            | (apply And.intro)
            | (with_reducible refine bX11_copy_0 ?_; simp (disch := first | omega | decide) only [w_nl0, w_nli, w_nlr, ↓w_ts1, ↓w_ts0, w_rcv, w_rfv, w_cs, true_and, and_true, List.length_nil, List.length_cons, Nat.reduceAdd, Nat.reduceLeDiff, Nat.zero_le, Nat.reduceLT, ↓w_nil, ix_nI, nI_leP, nI_ltP, nI_eqP, nI_1, ↓i_inN, i_inN, l_le, l_lt, l_eq, r_le, r_lt, r_eq, sh0, sh1, sh55, sh60, sh9, sh31, sh23, sh37, sh42, sh43, sh19, sh3, sh6, ↓w_aload_0, ↓w_gf3, ↓w_iload_1, ↓w_iv, ↓pm_cl2_2, ↓w_ifeq, ↓w_iload_3, ↓w_ifne, ↓w_iconst, ↓w_ret, ↓w_iload_5, ↓w_ifge, ↓w_iload_2, ↓pm_cl2_4, ↓w_iload_4, ↓pm_cl2_6, hrx, htx, es, et])
            | (with_reducible refine bX11_copy_1 ?_; simp (disch := first | omega | decide) only [w_nl0, w_nli, w_nlr, ↓w_ts1, ↓w_ts0, w_rcv, w_rfv, w_cs, true_and, and_true, List.length_nil, List.length_cons, Nat.reduceAdd, Nat.reduceLeDiff, Nat.zero_le, Nat.reduceLT, ↓w_nil, ix_nI, nI_leP, nI_ltP, nI_eqP, nI_1, ↓i_inN, i_inN, l_le, l_lt, l_eq, r_le, r_lt, r_eq, sh0, sh1, sh55, sh60, sh9, sh31, sh23, sh37, sh42, sh43, sh19, sh3, sh6, ↓w_aload_0, ↓w_gf3, ↓w_iload_1, ↓w_iv, ↓pm_cl2_2, ↓w_ifeq, ↓w_iload_3, ↓w_ifne, ↓w_iconst, ↓w_ret, ↓w_iload_5, ↓w_ifge, ↓w_iload_2, ↓pm_cl2_4, ↓w_iload_4, ↓pm_cl2_6, hrx, htx, es, et])
            | (with_reducible refine bX11_copy_2 ?_; simp (disch := first | omega | decide) only [w_nl0, w_nli, w_nlr, ↓w_ts1, ↓w_ts0, w_rcv, w_rfv, w_cs, true_and, and_true, List.length_nil, List.length_cons, Nat.reduceAdd, Nat.reduceLeDiff, Nat.zero_le, Nat.reduceLT, ↓w_nil, ix_nI, nI_leP, nI_ltP, nI_eqP, nI_1, ↓i_inN, i_inN, l_le, l_lt, l_eq, r_le, r_lt, r_eq, sh0, sh1, sh55, sh60, sh9, sh31, sh23, sh37, sh42, sh43, sh19, sh3, sh6, ↓w_aload_0, ↓w_gf3, ↓w_iload_1, ↓w_iv, ↓pm_cl2_2, ↓w_ifeq, ↓w_iload_3, ↓w_ifne, ↓w_iconst, ↓w_ret, ↓w_iload_5, ↓w_ifge, ↓w_iload_2, ↓pm_cl2_4, ↓w_iload_4, ↓pm_cl2_6, hrx, htx, es, et])
            | (with_reducible refine bX11_copy_3 ?_; simp (disch := first | omega | decide) only [w_nl0, w_nli, w_nlr, ↓w_ts1, ↓w_ts0, w_rcv, w_rfv, w_cs, true_and, and_true, List.length_nil, List.length_cons, Nat.reduceAdd, Nat.reduceLeDiff, Nat.zero_le, Nat.reduceLT, ↓w_nil, ix_nI, nI_leP, nI_ltP, nI_eqP, nI_1, ↓i_inN, i_inN, l_le, l_lt, l_eq, r_le, r_lt, r_eq, sh0, sh1, sh55, sh60, sh9, sh31, sh23, sh37, sh42, sh43, sh19, sh3, sh6, ↓w_aload_0, ↓w_gf3, ↓w_iload_1, ↓w_iv, ↓pm_cl2_2, ↓w_ifeq, ↓w_iload_3, ↓w_ifne, ↓w_iconst, ↓w_ret, ↓w_iload_5, ↓w_ifge, ↓w_iload_2, ↓pm_cl2_4, ↓w_iload_4, ↓pm_cl2_6, hrx, htx, es, et])
            | (with_reducible refine bX11_copy_4 ?_; simp (disch := first | omega | decide) only [w_nl0, w_nli, w_nlr, ↓w_ts1, ↓w_ts0, w_rcv, w_rfv, w_cs, true_and, and_true, List.length_nil, List.length_cons, Nat.reduceAdd, Nat.reduceLeDiff, Nat.zero_le, Nat.reduceLT, ↓w_nil, ix_nI, nI_leP, nI_ltP, nI_eqP, nI_1, ↓i_inN, i_inN, l_le, l_lt, l_eq, r_le, r_lt, r_eq, sh0, sh1, sh55, sh60, sh9, sh31, sh23, sh37, sh42, sh43, sh19, sh3, sh6, ↓w_aload_0, ↓w_gf3, ↓w_iload_1, ↓w_iv, ↓pm_cl2_2, ↓w_ifeq, ↓w_iload_3, ↓w_ifne, ↓w_iconst, ↓w_ret, ↓w_iload_5, ↓w_ifge, ↓w_iload_2, ↓pm_cl2_4, ↓w_iload_4, ↓pm_cl2_6, hrx, htx, es, et])
            | (with_reducible refine bX11_copy_5 ?_; simp (disch := first | omega | decide) only [w_nl0, w_nli, w_nlr, ↓w_ts1, ↓w_ts0, w_rcv, w_rfv, w_cs, true_and, and_true, List.length_nil, List.length_cons, Nat.reduceAdd, Nat.reduceLeDiff, Nat.zero_le, Nat.reduceLT, ↓w_nil, ix_nI, nI_leP, nI_ltP, nI_eqP, nI_1, ↓i_inN, i_inN, l_le, l_lt, l_eq, r_le, r_lt, r_eq, sh0, sh1, sh55, sh60, sh9, sh31, sh23, sh37, sh42, sh43, sh19, sh3, sh6, ↓w_aload_0, ↓w_gf3, ↓w_iload_1, ↓w_iv, ↓pm_cl2_2, ↓w_ifeq, ↓w_iload_3, ↓w_ifne, ↓w_iconst, ↓w_ret, ↓w_iload_5, ↓w_ifge, ↓w_iload_2, ↓pm_cl2_4, ↓w_iload_4, ↓pm_cl2_6, hrx, htx, es, et])
            | (with_reducible refine bX11_copy_6 ?_; simp (disch := first | omega | decide) only [w_nl0, w_nli, w_nlr, ↓w_ts1, ↓w_ts0, w_rcv, w_rfv, w_cs, true_and, and_true, List.length_nil, List.length_cons, Nat.reduceAdd, Nat.reduceLeDiff, Nat.zero_le, Nat.reduceLT, ↓w_nil, ix_nI, nI_leP, nI_ltP, nI_eqP, nI_1, ↓i_inN, i_inN, l_le, l_lt, l_eq, r_le, r_lt, r_eq, sh0, sh1, sh55, sh60, sh9, sh31, sh23, sh37, sh42, sh43, sh19, sh3, sh6, ↓w_aload_0, ↓w_gf3, ↓w_iload_1, ↓w_iv, ↓pm_cl2_2, ↓w_ifeq, ↓w_iload_3, ↓w_ifne, ↓w_iconst, ↓w_ret, ↓w_iload_5, ↓w_ifge, ↓w_iload_2, ↓pm_cl2_4, ↓w_iload_4, ↓pm_cl2_6, hrx, htx, es, et])
            | (with_reducible refine c_hasR (by omega) ?_ ; simp (disch := first | omega | decide) only [w_nl0, w_nli, w_nlr, ↓w_ts1, ↓w_ts0, w_rcv, w_rfv, w_cs, true_and, and_true, List.length_nil, List.length_cons, Nat.reduceAdd, Nat.reduceLeDiff, Nat.zero_le, Nat.reduceLT, ↓w_nil, ix_nI, nI_leP, nI_ltP, nI_eqP, nI_1, ↓i_inN, i_inN, l_le, l_lt, l_eq, r_le, r_lt, r_eq, sh0, sh1, sh55, sh60, sh9, sh31, sh23, sh37, sh42, sh43, sh19, sh3, sh6, ↓w_aload_0, ↓w_gf3, ↓w_iload_1, ↓w_iv, ↓pm_cl2_2, ↓w_ifeq, ↓w_iload_3, ↓w_ifne, ↓w_iconst, ↓w_ret, ↓w_iload_5, ↓w_ifge, ↓w_iload_2, ↓pm_cl2_4, ↓w_iload_4, ↓pm_cl2_6, hrx, htx, es, et])
            | (with_reducible refine c_missingR (by omega) ?_ ; simp (disch := first | omega | decide) only [w_nl0, w_nli, w_nlr, ↓w_ts1, ↓w_ts0, w_rcv, w_rfv, w_cs, true_and, and_true, List.length_nil, List.length_cons, Nat.reduceAdd, Nat.reduceLeDiff, Nat.zero_le, Nat.reduceLT, ↓w_nil, ix_nI, nI_leP, nI_ltP, nI_eqP, nI_1, ↓i_inN, i_inN, l_le, l_lt, l_eq, r_le, r_lt, r_eq, sh0, sh1, sh55, sh60, sh9, sh31, sh23, sh37, sh42, sh43, sh19, sh3, sh6, ↓w_aload_0, ↓w_gf3, ↓w_iload_1, ↓w_iv, ↓pm_cl2_2, ↓w_ifeq, ↓w_iload_3, ↓w_ifne, ↓w_iconst, ↓w_ret, ↓w_iload_5, ↓w_ifge, ↓w_iload_2, ↓pm_cl2_4, ↓w_iload_4, ↓pm_cl2_6, hrx, htx, es, et])
            | (with_reducible refine c_spansR (by omega) ?_ ; simp (disch := first | omega | decide) only [w_nl0, w_nli, w_nlr, ↓w_ts1, ↓w_ts0, w_rcv, w_rfv, w_cs, true_and, and_true, List.length_nil, List.length_cons, Nat.reduceAdd, Nat.reduceLeDiff, Nat.zero_le, Nat.reduceLT, ↓w_nil, ix_nI, nI_leP, nI_ltP, nI_eqP, nI_1, ↓i_inN, i_inN, l_le, l_lt, l_eq, r_le, r_lt, r_eq, sh0, sh1, sh55, sh60, sh9, sh31, sh23, sh37, sh42, sh43, sh19, sh3, sh6, ↓w_aload_0, ↓w_gf3, ↓w_iload_1, ↓w_iv, ↓pm_cl2_2, ↓w_ifeq, ↓w_iload_3, ↓w_ifne, ↓w_iconst, ↓w_ret, ↓w_iload_5, ↓w_ifge, ↓w_iload_2, ↓pm_cl2_4, ↓w_iload_4, ↓pm_cl2_6, hrx, htx, es, et])
            | (with_reducible refine c_found (by omega) (by decide) (by decide) ?_ ; simp (disch := first | omega | decide) only [w_nl0, w_nli, w_nlr, ↓w_ts1, ↓w_ts0, w_rcv, w_rfv, w_cs, true_and, and_true, List.length_nil, List.length_cons, Nat.reduceAdd, Nat.reduceLeDiff, Nat.zero_le, Nat.reduceLT, ↓w_nil, ix_nI, nI_leP, nI_ltP, nI_eqP, nI_1, ↓i_inN, i_inN, l_le, l_lt, l_eq, r_le, r_lt, r_eq, sh0, sh1, sh55, sh60, sh9, sh31, sh23, sh37, sh42, sh43, sh19, sh3, sh6, ↓w_aload_0, ↓w_gf3, ↓w_iload_1, ↓w_iv, ↓pm_cl2_2, ↓w_ifeq, ↓w_iload_3, ↓w_ifne, ↓w_iconst, ↓w_ret, ↓w_iload_5, ↓w_ifge, ↓w_iload_2, ↓pm_cl2_4, ↓w_iload_4, ↓pm_cl2_6, hrx, htx, es, et])
            | (simp only [w_in])
            | (intro _))
          all_goals try rfl
          all_goals try grind
          all_goals try refine MC.of (eX12_copy (by omega) ?_)
          all_goals
            repeat' (first
              | (apply And.intro)
              | (with_reducible refine bX12_copy_0 ?_; simp (disch := first | omega | decide) only [w_nl0, w_nli, w_nlr, ↓w_ts1, ↓w_ts0, w_rcv, w_rfv, w_cs, true_and, and_true, List.length_nil, List.length_cons, Nat.reduceAdd, Nat.reduceLeDiff, Nat.zero_le, Nat.reduceLT, ↓w_nil, ix_nI, nI_leP, nI_ltP, nI_eqP, nI_1, ↓i_inN, i_inN, l_le, l_lt, l_eq, r_le, r_lt, r_eq, sh68_0, sh68_1, sh68_2, sh68_3, sh68_4, ↓w_iload_1, ↓w_is, ↓pm_cl1_1, ↓w_ifeq, ↓w_iload_3, ↓w_ifne, ↓w_iconst, ↓w_ret, ↓w_iload_5, ↓w_ifge, ↓w_aload_0, ↓w_iv, ↓pm_cl2_2, ↓w_gf3, ↓w_iaload, ↓w_iflt, ↓w_iload_2, ↓w_iload_4, ↓w_i2l, ↓w_ladd, ↓w_lcmp, ↓w_ifgt, ↓w_ifle, ↓w_istore_6, ↓w_iload_6, ↓w_icge, ↓w_iadd, ↓pm_cl2_3, ↓w_iastore, ↓w_iinc_6, ↓w_goto, ↓w_bipush, ↓w_imul, pm_up_o, s3, hrx, htx, es, et, lg_gt0, lg_le0])
              | (with_reducible refine bX12_copy_1 ?_; simp (disch := first | omega | decide) only [w_nl0, w_nli, w_nlr, ↓w_ts1, ↓w_ts0, w_rcv, w_rfv, w_cs, true_and, and_true, List.length_nil, List.length_cons, Nat.reduceAdd, Nat.reduceLeDiff, Nat.zero_le, Nat.reduceLT, ↓w_nil, ix_nI, nI_leP, nI_ltP, nI_eqP, nI_1, ↓i_inN, i_inN, l_le, l_lt, l_eq, r_le, r_lt, r_eq, sh68_0, sh68_1, sh68_2, sh68_3, sh68_4, ↓w_iload_1, ↓w_is, ↓pm_cl1_1, ↓w_ifeq, ↓w_iload_3, ↓w_ifne, ↓w_iconst, ↓w_ret, ↓w_iload_5, ↓w_ifge, ↓w_aload_0, ↓w_iv, ↓pm_cl2_2, ↓w_gf3, ↓w_iaload, ↓w_iflt, ↓w_iload_2, ↓w_iload_4, ↓w_i2l, ↓w_ladd, ↓w_lcmp, ↓w_ifgt, ↓w_ifle, ↓w_istore_6, ↓w_iload_6, ↓w_icge, ↓w_iadd, ↓pm_cl2_3, ↓w_iastore, ↓w_iinc_6, ↓w_goto, ↓w_bipush, ↓w_imul, pm_up_o, s3, hrx, htx, es, et, lg_gt0, lg_le0])
              | (with_reducible refine bX12_copy_2 ?_; simp (disch := first | omega | decide) only [w_nl0, w_nli, w_nlr, ↓w_ts1, ↓w_ts0, w_rcv, w_rfv, w_cs, true_and, and_true, List.length_nil, List.length_cons, Nat.reduceAdd, Nat.reduceLeDiff, Nat.zero_le, Nat.reduceLT, ↓w_nil, ix_nI, nI_leP, nI_ltP, nI_eqP, nI_1, ↓i_inN, i_inN, l_le, l_lt, l_eq, r_le, r_lt, r_eq, sh68_0, sh68_1, sh68_2, sh68_3, sh68_4, ↓w_iload_1, ↓w_is, ↓pm_cl1_1, ↓w_ifeq, ↓w_iload_3, ↓w_ifne, ↓w_iconst, ↓w_ret, ↓w_iload_5, ↓w_ifge, ↓w_aload_0, ↓w_iv, ↓pm_cl2_2, ↓w_gf3, ↓w_iaload, ↓w_iflt, ↓w_iload_2, ↓w_iload_4, ↓w_i2l, ↓w_ladd, ↓w_lcmp, ↓w_ifgt, ↓w_ifle, ↓w_istore_6, ↓w_iload_6, ↓w_icge, ↓w_iadd, ↓pm_cl2_3, ↓w_iastore, ↓w_iinc_6, ↓w_goto, ↓w_bipush, ↓w_imul, pm_up_o, s3, hrx, htx, es, et, lg_gt0, lg_le0])
              | (with_reducible refine bX12_copy_3 ?_; simp (disch := first | omega | decide) only [w_nl0, w_nli, w_nlr, ↓w_ts1, ↓w_ts0, w_rcv, w_rfv, w_cs, true_and, and_true, List.length_nil, List.length_cons, Nat.reduceAdd, Nat.reduceLeDiff, Nat.zero_le, Nat.reduceLT, ↓w_nil, ix_nI, nI_leP, nI_ltP, nI_eqP, nI_1, ↓i_inN, i_inN, l_le, l_lt, l_eq, r_le, r_lt, r_eq, sh68_0, sh68_1, sh68_2, sh68_3, sh68_4, ↓w_iload_1, ↓w_is, ↓pm_cl1_1, ↓w_ifeq, ↓w_iload_3, ↓w_ifne, ↓w_iconst, ↓w_ret, ↓w_iload_5, ↓w_ifge, ↓w_aload_0, ↓w_iv, ↓pm_cl2_2, ↓w_gf3, ↓w_iaload, ↓w_iflt, ↓w_iload_2, ↓w_iload_4, ↓w_i2l, ↓w_ladd, ↓w_lcmp, ↓w_ifgt, ↓w_ifle, ↓w_istore_6, ↓w_iload_6, ↓w_icge, ↓w_iadd, ↓pm_cl2_3, ↓w_iastore, ↓w_iinc_6, ↓w_goto, ↓w_bipush, ↓w_imul, pm_up_o, s3, hrx, htx, es, et, lg_gt0, lg_le0])
              | (with_reducible refine bX12_copy_4 ?_; simp (disch := first | omega | decide) only [w_nl0, w_nli, w_nlr, ↓w_ts1, ↓w_ts0, w_rcv, w_rfv, w_cs, true_and, and_true, List.length_nil, List.length_cons, Nat.reduceAdd, Nat.reduceLeDiff, Nat.zero_le, Nat.reduceLT, ↓w_nil, ix_nI, nI_leP, nI_ltP, nI_eqP, nI_1, ↓i_inN, i_inN, l_le, l_lt, l_eq, r_le, r_lt, r_eq, sh68_0, sh68_1, sh68_2, sh68_3, sh68_4, ↓w_iload_1, ↓w_is, ↓pm_cl1_1, ↓w_ifeq, ↓w_iload_3, ↓w_ifne, ↓w_iconst, ↓w_ret, ↓w_iload_5, ↓w_ifge, ↓w_aload_0, ↓w_iv, ↓pm_cl2_2, ↓w_gf3, ↓w_iaload, ↓w_iflt, ↓w_iload_2, ↓w_iload_4, ↓w_i2l, ↓w_ladd, ↓w_lcmp, ↓w_ifgt, ↓w_ifle, ↓w_istore_6, ↓w_iload_6, ↓w_icge, ↓w_iadd, ↓pm_cl2_3, ↓w_iastore, ↓w_iinc_6, ↓w_goto, ↓w_bipush, ↓w_imul, pm_up_o, s3, hrx, htx, es, et, lg_gt0, lg_le0])
              | (with_reducible refine bX12_copy_5 ?_; simp (disch := first | omega | decide) only [w_nl0, w_nli, w_nlr, ↓w_ts1, ↓w_ts0, w_rcv, w_rfv, w_cs, true_and, and_true, List.length_nil, List.length_cons, Nat.reduceAdd, Nat.reduceLeDiff, Nat.zero_le, Nat.reduceLT, ↓w_nil, ix_nI, nI_leP, nI_ltP, nI_eqP, nI_1, ↓i_inN, i_inN, l_le, l_lt, l_eq, r_le, r_lt, r_eq, sh68_0, sh68_1, sh68_2, sh68_3, sh68_4, ↓w_iload_1, ↓w_is, ↓pm_cl1_1, ↓w_ifeq, ↓w_iload_3, ↓w_ifne, ↓w_iconst, ↓w_ret, ↓w_iload_5, ↓w_ifge, ↓w_aload_0, ↓w_iv, ↓pm_cl2_2, ↓w_gf3, ↓w_iaload, ↓w_iflt, ↓w_iload_2, ↓w_iload_4, ↓w_i2l, ↓w_ladd, ↓w_lcmp, ↓w_ifgt, ↓w_ifle, ↓w_istore_6, ↓w_iload_6, ↓w_icge, ↓w_iadd, ↓pm_cl2_3, ↓w_iastore, ↓w_iinc_6, ↓w_goto, ↓w_bipush, ↓w_imul, pm_up_o, s3, hrx, htx, es, et, lg_gt0, lg_le0])
              | (with_reducible refine bX12_copy_6 ?_; simp (disch := first | omega | decide) only [w_nl0, w_nli, w_nlr, ↓w_ts1, ↓w_ts0, w_rcv, w_rfv, w_cs, true_and, and_true, List.length_nil, List.length_cons, Nat.reduceAdd, Nat.reduceLeDiff, Nat.zero_le, Nat.reduceLT, ↓w_nil, ix_nI, nI_leP, nI_ltP, nI_eqP, nI_1, ↓i_inN, i_inN, l_le, l_lt, l_eq, r_le, r_lt, r_eq, sh68_0, sh68_1, sh68_2, sh68_3, sh68_4, ↓w_iload_1, ↓w_is, ↓pm_cl1_1, ↓w_ifeq, ↓w_iload_3, ↓w_ifne, ↓w_iconst, ↓w_ret, ↓w_iload_5, ↓w_ifge, ↓w_aload_0, ↓w_iv, ↓pm_cl2_2, ↓w_gf3, ↓w_iaload, ↓w_iflt, ↓w_iload_2, ↓w_iload_4, ↓w_i2l, ↓w_ladd, ↓w_lcmp, ↓w_ifgt, ↓w_ifle, ↓w_istore_6, ↓w_iload_6, ↓w_icge, ↓w_iadd, ↓pm_cl2_3, ↓w_iastore, ↓w_iinc_6, ↓w_goto, ↓w_bipush, ↓w_imul, pm_up_o, s3, hrx, htx, es, et, lg_gt0, lg_le0])
              | (with_reducible refine m_isRow (by omega) ?_ ; simp (disch := first | omega | decide) only [w_nl0, w_nli, w_nlr, ↓w_ts1, ↓w_ts0, w_rcv, w_rfv, w_cs, true_and, and_true, List.length_nil, List.length_cons, Nat.reduceAdd, Nat.reduceLeDiff, Nat.zero_le, Nat.reduceLT, ↓w_nil, ix_nI, nI_leP, nI_ltP, nI_eqP, nI_1, ↓i_inN, i_inN, l_le, l_lt, l_eq, r_le, r_lt, r_eq, sh68_0, sh68_1, sh68_2, sh68_3, sh68_4, ↓w_iload_1, ↓w_is, ↓pm_cl1_1, ↓w_ifeq, ↓w_iload_3, ↓w_ifne, ↓w_iconst, ↓w_ret, ↓w_iload_5, ↓w_ifge, ↓w_aload_0, ↓w_iv, ↓pm_cl2_2, ↓w_gf3, ↓w_iaload, ↓w_iflt, ↓w_iload_2, ↓w_iload_4, ↓w_i2l, ↓w_ladd, ↓w_lcmp, ↓w_ifgt, ↓w_ifle, ↓w_istore_6, ↓w_iload_6, ↓w_icge, ↓w_iadd, ↓pm_cl2_3, ↓w_iastore, ↓w_iinc_6, ↓w_goto, ↓w_bipush, ↓w_imul, pm_up_o, s3, hrx, htx, es, et, lg_gt0, lg_le0])
              | (with_reducible refine m_meets (by omega) (by decide) (by decide) ?_ ; simp (disch := first | omega | decide) only [w_nl0, w_nli, w_nlr, ↓w_ts1, ↓w_ts0, w_rcv, w_rfv, w_cs, true_and, and_true, List.length_nil, List.length_cons, Nat.reduceAdd, Nat.reduceLeDiff, Nat.zero_le, Nat.reduceLT, ↓w_nil, ix_nI, nI_leP, nI_ltP, nI_eqP, nI_1, ↓i_inN, i_inN, l_le, l_lt, l_eq, r_le, r_lt, r_eq, sh68_0, sh68_1, sh68_2, sh68_3, sh68_4, ↓w_iload_1, ↓w_is, ↓pm_cl1_1, ↓w_ifeq, ↓w_iload_3, ↓w_ifne, ↓w_iconst, ↓w_ret, ↓w_iload_5, ↓w_ifge, ↓w_aload_0, ↓w_iv, ↓pm_cl2_2, ↓w_gf3, ↓w_iaload, ↓w_iflt, ↓w_iload_2, ↓w_iload_4, ↓w_i2l, ↓w_ladd, ↓w_lcmp, ↓w_ifgt, ↓w_ifle, ↓w_istore_6, ↓w_iload_6, ↓w_icge, ↓w_iadd, ↓pm_cl2_3, ↓w_iastore, ↓w_iinc_6, ↓w_goto, ↓w_bipush, ↓w_imul, pm_up_o, s3, hrx, htx, es, et, lg_gt0, lg_le0])
              | (simp only [w_in])
              | (intro _))
          all_goals first | rfl | exact hw | exact relw_found hw | exact relw_asks hw | grind
  · clear s4
    refine eX11_copy (by omega) ?_
    repeat' (first
      | (apply And.intro)
      | (with_reducible refine bX11_copy_0 ?_; simp (disch := first | omega | decide) only [w_nl0, w_nli, w_nlr, ↓w_ts1, ↓w_ts0, w_rcv, w_rfv, w_cs, true_and, and_true, List.length_nil, List.length_cons, Nat.reduceAdd, Nat.reduceLeDiff, Nat.zero_le, Nat.reduceLT, ↓w_nil, ix_nI, nI_leP, nI_ltP, nI_eqP, nI_1, ↓i_inN, i_inN, l_le, l_lt, l_eq, r_le, r_lt, r_eq, sh0, sh1, sh55, sh60, sh9, sh31, sh23, sh37, sh42, sh43, sh19, sh3, sh6, ↓w_aload_0, ↓w_gf3, ↓w_iload_1, ↓w_iv, ↓pm_cl2_2, ↓w_ifeq, ↓w_iload_3, ↓w_ifne, ↓w_iconst, ↓w_ret, ↓w_iload_5, ↓w_ifge, ↓w_iload_2, ↓pm_cl2_4, ↓w_iload_4, ↓pm_cl2_6])
      | (with_reducible refine bX11_copy_1 ?_; simp (disch := first | omega | decide) only [w_nl0, w_nli, w_nlr, ↓w_ts1, ↓w_ts0, w_rcv, w_rfv, w_cs, true_and, and_true, List.length_nil, List.length_cons, Nat.reduceAdd, Nat.reduceLeDiff, Nat.zero_le, Nat.reduceLT, ↓w_nil, ix_nI, nI_leP, nI_ltP, nI_eqP, nI_1, ↓i_inN, i_inN, l_le, l_lt, l_eq, r_le, r_lt, r_eq, sh0, sh1, sh55, sh60, sh9, sh31, sh23, sh37, sh42, sh43, sh19, sh3, sh6, ↓w_aload_0, ↓w_gf3, ↓w_iload_1, ↓w_iv, ↓pm_cl2_2, ↓w_ifeq, ↓w_iload_3, ↓w_ifne, ↓w_iconst, ↓w_ret, ↓w_iload_5, ↓w_ifge, ↓w_iload_2, ↓pm_cl2_4, ↓w_iload_4, ↓pm_cl2_6])
      | (with_reducible refine c_hasR (by omega) ?_ ; simp (disch := first | omega | decide) only [w_nl0, w_nli, w_nlr, ↓w_ts1, ↓w_ts0, w_rcv, w_rfv, w_cs, true_and, and_true, List.length_nil, List.length_cons, Nat.reduceAdd, Nat.reduceLeDiff, Nat.zero_le, Nat.reduceLT, ↓w_nil, ix_nI, nI_leP, nI_ltP, nI_eqP, nI_1, ↓i_inN, i_inN, l_le, l_lt, l_eq, r_le, r_lt, r_eq, sh0, sh1, sh55, sh60, sh9, sh31, sh23, sh37, sh42, sh43, sh19, sh3, sh6, ↓w_aload_0, ↓w_gf3, ↓w_iload_1, ↓w_iv, ↓pm_cl2_2, ↓w_ifeq, ↓w_iload_3, ↓w_ifne, ↓w_iconst, ↓w_ret, ↓w_iload_5, ↓w_ifge, ↓w_iload_2, ↓pm_cl2_4, ↓w_iload_4, ↓pm_cl2_6])
      | (simp only [w_in])
      | (intro _))
    all_goals try rfl
    all_goals try grind
    all_goals try refine MC.of (eX12_copy (by omega) ?_)
    all_goals
      repeat' (first
        | (apply And.intro)
        | (with_reducible refine bX12_copy_0 ?_; simp (disch := first | omega | decide) only [w_nl0, w_nli, w_nlr, ↓w_ts1, ↓w_ts0, w_rcv, w_rfv, w_cs, true_and, and_true, List.length_nil, List.length_cons, Nat.reduceAdd, Nat.reduceLeDiff, Nat.zero_le, Nat.reduceLT, ↓w_nil, ix_nI, nI_leP, nI_ltP, nI_eqP, nI_1, ↓i_inN, i_inN, l_le, l_lt, l_eq, r_le, r_lt, r_eq, sh68_0, sh68_1, sh68_2, sh68_3, sh68_4, ↓w_iload_1, ↓w_is, ↓pm_cl1_1, ↓w_ifeq, ↓w_iload_3, ↓w_ifne, ↓w_iconst, ↓w_ret, ↓w_iload_5, ↓w_ifge, ↓w_aload_0, ↓w_iv, ↓pm_cl2_2, ↓w_gf3, ↓w_iaload, ↓w_iflt, ↓w_iload_2, ↓w_iload_4, ↓w_i2l, ↓w_ladd, ↓w_lcmp, ↓w_ifgt, ↓w_ifle, ↓w_istore_6, ↓w_iload_6, ↓w_icge, ↓w_iadd, ↓pm_cl2_3, ↓w_iastore, ↓w_iinc_6, ↓w_goto, ↓w_bipush, ↓w_imul])
        | (with_reducible refine bX12_copy_1 ?_; simp (disch := first | omega | decide) only [w_nl0, w_nli, w_nlr, ↓w_ts1, ↓w_ts0, w_rcv, w_rfv, w_cs, true_and, and_true, List.length_nil, List.length_cons, Nat.reduceAdd, Nat.reduceLeDiff, Nat.zero_le, Nat.reduceLT, ↓w_nil, ix_nI, nI_leP, nI_ltP, nI_eqP, nI_1, ↓i_inN, i_inN, l_le, l_lt, l_eq, r_le, r_lt, r_eq, sh68_0, sh68_1, sh68_2, sh68_3, sh68_4, ↓w_iload_1, ↓w_is, ↓pm_cl1_1, ↓w_ifeq, ↓w_iload_3, ↓w_ifne, ↓w_iconst, ↓w_ret, ↓w_iload_5, ↓w_ifge, ↓w_aload_0, ↓w_iv, ↓pm_cl2_2, ↓w_gf3, ↓w_iaload, ↓w_iflt, ↓w_iload_2, ↓w_iload_4, ↓w_i2l, ↓w_ladd, ↓w_lcmp, ↓w_ifgt, ↓w_ifle, ↓w_istore_6, ↓w_iload_6, ↓w_icge, ↓w_iadd, ↓pm_cl2_3, ↓w_iastore, ↓w_iinc_6, ↓w_goto, ↓w_bipush, ↓w_imul])
        | (with_reducible refine m_isRow (by omega) ?_ ; simp (disch := first | omega | decide) only [w_nl0, w_nli, w_nlr, ↓w_ts1, ↓w_ts0, w_rcv, w_rfv, w_cs, true_and, and_true, List.length_nil, List.length_cons, Nat.reduceAdd, Nat.reduceLeDiff, Nat.zero_le, Nat.reduceLT, ↓w_nil, ix_nI, nI_leP, nI_ltP, nI_eqP, nI_1, ↓i_inN, i_inN, l_le, l_lt, l_eq, r_le, r_lt, r_eq, sh68_0, sh68_1, sh68_2, sh68_3, sh68_4, ↓w_iload_1, ↓w_is, ↓pm_cl1_1, ↓w_ifeq, ↓w_iload_3, ↓w_ifne, ↓w_iconst, ↓w_ret, ↓w_iload_5, ↓w_ifge, ↓w_aload_0, ↓w_iv, ↓pm_cl2_2, ↓w_gf3, ↓w_iaload, ↓w_iflt, ↓w_iload_2, ↓w_iload_4, ↓w_i2l, ↓w_ladd, ↓w_lcmp, ↓w_ifgt, ↓w_ifle, ↓w_istore_6, ↓w_iload_6, ↓w_icge, ↓w_iadd, ↓pm_cl2_3, ↓w_iastore, ↓w_iinc_6, ↓w_goto, ↓w_bipush, ↓w_imul])
        | (simp only [w_in])
        | (intro _))
    all_goals first | rfl | exact hw | exact relw_found hw | exact relw_asks hw | grind
end C65
