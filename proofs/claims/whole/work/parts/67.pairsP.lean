section C67
variable {g : pm_G} {d : Nat} {Q : pm_Po} {S : pm_SS} {I : pm_MI} {J : pm_ML}
def swV (x y t : Int32) : Int32 := (if 0 ≤ (if t - t / 2 * 2 = 0 then x else y) then (if t - t / 2 * 2 = 0 then x else y) else 0 - (if t - t / 2 * 2 = 0 then x else y)) * (1000 - t) / 1000
def ab64 (x : Int64) : Int64 := if x < 0 then -x else x
theorem ab64_c {x : Int64} : (if 0 < x then x else -x) = ab64 x := by
  unfold ab64
  by_cases h : 0 < x
  · have h2 : ¬ x < 0 := by grind
    rw [if_pos h, if_neg h2]
  · rw [if_neg h]
    by_cases h2 : x < 0
    · rw [if_pos h2]
    · have h3 : x = 0 := by grind
      rw [if_neg h2, h3]
      rfl
def tuOk (c : Nat → Int32) (a s : Nat) : Prop := ∀ k, k < s → 0 ≤ c (24 * a + k) ∧ c (24 * a + k) ≤ 999
def swD (c x y : Nat → Int32) (a b s r : Nat) : Int64 := itr (fun k z => z + ab64 ((swV (x r) (y r) (c (24 * a + k))).toInt64 - (c (24 * b + k)).toInt64)) 0 s
def swR (c x y : Nat → Int32) (a b s : Nat) (N : Nat) : Int32 × Int64 := itr (fun r (p : Int32 × Int64) => if p.1 = -9 ∨ swD c x y a b s r < p.2 then (nI r, swD c x y a b s r) else p) (-9, 0) N
theorem swD_eq {c c' x y : Nat → Int32} {a b s r : Nat} (h : ∀ k, k < s → c' (24 * a + k) = c (24 * a + k) ∧ c' (24 * b + k) = c (24 * b + k)) : swD c' x y a b s r = swD c x y a b s r := by
  unfold swD
  refine itr_cong (fun k hk z => ?_)
  rw [(h k hk).1, (h k hk).2]
theorem swR_eq {c c' x y : Nat → Int32} {a b s N : Nat} (h : ∀ k, k < s → c' (24 * a + k) = c (24 * a + k) ∧ c' (24 * b + k) = c (24 * b + k)) : swR c' x y a b s N = swR c x y a b s N := by
  unfold swR
  refine itr_cong (fun k hk z => ?_)
  rw [swD_eq h]
theorem tu_t {c : Nat → Int32} {a s k : Nat} (h : tuOk c a s) (hk : k < s) : ∃ t, t ≤ 999 ∧ c (24 * a + k) = nI t := by
  have h1 := h k hk
  obtain ⟨t, ht, e⟩ := i_q (x := c (24 * a + k)) (n := 1000) (by decide) h1.1 (by have : nI 1000 = (1000 : Int32) := rfl; grind)
  exact ⟨t, by omega, e⟩
theorem c_swA {r n t : Nat} {v : Int32} (hd : 2 ≤ d) (hn : I 23 7 = nI n) (hn30 : n ≤ 30) (hr : r < n) (hv : v = nI t) (hQ : Q (some (.int (swV (I 29 r) (I 30 r) v))) SH I J) : pm_C g d 83 [.ref 23, .int (nI r), .int v] Q SH I J := by
  subst hv
  exact c_swishAt hd hn hn30 hr hQ
theorem m_swO {r t : Nat} {v : Int32} (hd : 3 ≤ d) (hr : r < 30) (hv : v = nI t) (hQ : Q (some (.int (swV (I 98 r) (I 99 r) v))) SH I J) : pm_C g d 266 [.ref 68, .int (nI r), .int v] Q SH I J := by
  subst hv
  exact m_swishOf hd hr hQ
theorem c_sizeN {r s : Nat} (hd : 2 ≤ d) (hr : r < 6) (hs : I 4 r = nI s) (hQ : Q (some (.int (nI s))) SH I J) : pm_C g d 106 [.ref 3, .int (nI r)] Q SH I J := by
  refine c_sizeR hd ?_
  rw [if_pos (show (0 : Int32) ≤ nI r ∧ nI r < 6 from ⟨nI_pos' (by omega), nI_lt (b := 6) hr (by omega)⟩), ix_nI (by omega), hs]
  exact hQ
theorem c_areTurns {a s : Nat} (hd : 6 ≤ d) (hw : I 3 0 = 24) (ha : a < 6) (hs : I 4 a = nI s) (hs2 : s ≤ 24) (h1 : tuOk (I 5) a s → Q (some (.int 1)) SH I J) (h0 : ¬ tuOk (I 5) a s → Q (some (.int 0)) SH I J) : pm_C g d 163 [.ref 0, .int (nI a)] Q SH I J := by
  refine eX11_areTurns (by omega) ?_
  refine bX11_areTurns_0 ?_
  simp (disch := first | omega | decide) only [w_nl0, w_nli, w_nlr, ↓w_ts1, ↓w_ts0, w_rcv, w_rfv, w_cs, true_and, and_true, List.length_nil, List.length_cons, Nat.reduceAdd, Nat.reduceLeDiff, Nat.zero_le, Nat.reduceLT, ↓w_nil, ix_nI, nI_leP, nI_ltP, nI_eqP, nI_1, ↓i_inN, i_inN, l_le, l_lt, l_eq, r_le, r_lt, r_eq, sh0, sh1, sh55, sh60, sh9, sh31, sh23, sh37, sh42, sh43, sh19, sh3, sh6, ↓w_iconst, ↓w_istore_2]
  refine pm_find (U := fun k => UU g (d - 1) 163 kX11_areTurns (pm_rm d 163) Q 1 [some (.ref 0), some (.int (nI a)), some (.int (nI k))] [] SH I J (0, 0)) s (fun k => ¬ (0 ≤ I 5 (24 * a + k) ∧ I 5 (24 * a + k) ≤ 999)) (fun k hk hj w => ?_) (fun hj => ?_)
  · by_cases hc : 0 ≤ I 5 (24 * a + k) ∧ I 5 (24 * a + k) ≤ 999
    · have w := w (fun z => z hc)
      clear h0 h1 hj
      refine bX11_areTurns_1 ?_
      simp (disch := first | omega | decide) only [w_nl0, w_nli, w_nlr, ↓w_ts1, ↓w_ts0, w_rcv, w_rfv, w_cs, true_and, and_true, List.length_nil, List.length_cons, Nat.reduceAdd, Nat.reduceLeDiff, Nat.zero_le, Nat.reduceLT, ↓w_nil, ix_nI, nI_leP, nI_ltP, nI_eqP, nI_1, ↓i_inN, i_inN, l_le, l_lt, l_eq, r_le, r_lt, r_eq, sh0, sh1, sh55, sh60, sh9, sh31, sh23, sh37, sh42, sh43, sh19, sh3, sh6, ↓w_iload_2, ↓w_aload_0, ↓w_gf3, ↓w_iload_1, ↓w_iv, ↓pm_cl2_2, ↓w_icge, ↓pm_cl2_3, ↓w_is, ↓pm_cl1_1, ↓w_ifne, ↓w_iconst, ↓w_zret]
      repeat' (first
        | (apply And.intro)
        | (with_reducible refine bX11_areTurns_2 ?_; simp (disch := first | omega | decide) only [w_nl0, w_nli, w_nlr, ↓w_ts1, ↓w_ts0, w_rcv, w_rfv, w_cs, true_and, and_true, List.length_nil, List.length_cons, Nat.reduceAdd, Nat.reduceLeDiff, Nat.zero_le, Nat.reduceLT, ↓w_nil, ix_nI, nI_leP, nI_ltP, nI_eqP, nI_1, ↓i_inN, i_inN, l_le, l_lt, l_eq, r_le, r_lt, r_eq, sh0, sh1, sh55, sh60, sh9, sh31, sh23, sh37, sh42, sh43, sh19, sh3, sh6, ↓w_iconst, ↓w_istore_2, ↓w_iload_2, ↓w_aload_0, ↓w_gf3, ↓w_iload_1, ↓w_iv, ↓pm_cl2_2, ↓w_icge, ↓pm_cl2_3, ↓w_is, ↓pm_cl1_1, ↓w_ifne, ↓w_zret, ↓w_iinc_2, ↓w_goto])
        | (with_reducible refine c_sizeN (by omega) ha hs ?_ ; simp (disch := first | omega | decide) only [w_nl0, w_nli, w_nlr, ↓w_ts1, ↓w_ts0, w_rcv, w_rfv, w_cs, true_and, and_true, List.length_nil, List.length_cons, Nat.reduceAdd, Nat.reduceLeDiff, Nat.zero_le, Nat.reduceLT, ↓w_nil, ix_nI, nI_leP, nI_ltP, nI_eqP, nI_1, ↓i_inN, i_inN, l_le, l_lt, l_eq, r_le, r_lt, r_eq, sh0, sh1, sh55, sh60, sh9, sh31, sh23, sh37, sh42, sh43, sh19, sh3, sh6, ↓w_iconst, ↓w_istore_2, ↓w_iload_2, ↓w_aload_0, ↓w_gf3, ↓w_iload_1, ↓w_iv, ↓pm_cl2_2, ↓w_icge, ↓pm_cl2_3, ↓w_is, ↓pm_cl1_1, ↓w_ifne, ↓w_zret, ↓w_iinc_2, ↓w_goto])
        | (with_reducible refine c_atR (by omega) hw ha hs hs2 hk ?_ ; simp (disch := first | omega | decide) only [w_nl0, w_nli, w_nlr, ↓w_ts1, ↓w_ts0, w_rcv, w_rfv, w_cs, true_and, and_true, List.length_nil, List.length_cons, Nat.reduceAdd, Nat.reduceLeDiff, Nat.zero_le, Nat.reduceLT, ↓w_nil, ix_nI, nI_leP, nI_ltP, nI_eqP, nI_1, ↓i_inN, i_inN, l_le, l_lt, l_eq, r_le, r_lt, r_eq, sh0, sh1, sh55, sh60, sh9, sh31, sh23, sh37, sh42, sh43, sh19, sh3, sh6, ↓w_iconst, ↓w_istore_2, ↓w_iload_2, ↓w_aload_0, ↓w_gf3, ↓w_iload_1, ↓w_iv, ↓pm_cl2_2, ↓w_icge, ↓pm_cl2_3, ↓w_is, ↓pm_cl1_1, ↓w_ifne, ↓w_zret, ↓w_iinc_2, ↓w_goto])
        | (with_reducible refine c_isTurn (by omega) ?_ ; simp (disch := first | omega | decide) only [w_nl0, w_nli, w_nlr, ↓w_ts1, ↓w_ts0, w_rcv, w_rfv, w_cs, true_and, and_true, List.length_nil, List.length_cons, Nat.reduceAdd, Nat.reduceLeDiff, Nat.zero_le, Nat.reduceLT, ↓w_nil, ix_nI, nI_leP, nI_ltP, nI_eqP, nI_1, ↓i_inN, i_inN, l_le, l_lt, l_eq, r_le, r_lt, r_eq, sh0, sh1, sh55, sh60, sh9, sh31, sh23, sh37, sh42, sh43, sh19, sh3, sh6, ↓w_iconst, ↓w_istore_2, ↓w_iload_2, ↓w_aload_0, ↓w_gf3, ↓w_iload_1, ↓w_iv, ↓pm_cl2_2, ↓w_icge, ↓pm_cl2_3, ↓w_is, ↓pm_cl1_1, ↓w_ifne, ↓w_zret, ↓w_iinc_2, ↓w_goto])
        | (simp only [w_in])
        | (intro _))
      all_goals grind
    · have h0 := h0 (fun z => hc (z k hk))
      clear h1 hj w
      refine bX11_areTurns_1 ?_
      simp (disch := first | omega | decide) only [w_nl0, w_nli, w_nlr, ↓w_ts1, ↓w_ts0, w_rcv, w_rfv, w_cs, true_and, and_true, List.length_nil, List.length_cons, Nat.reduceAdd, Nat.reduceLeDiff, Nat.zero_le, Nat.reduceLT, ↓w_nil, ix_nI, nI_leP, nI_ltP, nI_eqP, nI_1, ↓i_inN, i_inN, l_le, l_lt, l_eq, r_le, r_lt, r_eq, sh0, sh1, sh55, sh60, sh9, sh31, sh23, sh37, sh42, sh43, sh19, sh3, sh6, ↓w_iload_2, ↓w_aload_0, ↓w_gf3, ↓w_iload_1, ↓w_iv, ↓pm_cl2_2, ↓w_icge, ↓pm_cl2_3, ↓w_is, ↓pm_cl1_1, ↓w_ifne, ↓w_iconst, ↓w_zret]
      repeat' (first
        | (apply And.intro)
        | (with_reducible refine c_sizeN (by omega) ha hs ?_ ; simp (disch := first | omega | decide) only [w_nl0, w_nli, w_nlr, ↓w_ts1, ↓w_ts0, w_rcv, w_rfv, w_cs, true_and, and_true, List.length_nil, List.length_cons, Nat.reduceAdd, Nat.reduceLeDiff, Nat.zero_le, Nat.reduceLT, ↓w_nil, ix_nI, nI_leP, nI_ltP, nI_eqP, nI_1, ↓i_inN, i_inN, l_le, l_lt, l_eq, r_le, r_lt, r_eq, sh0, sh1, sh55, sh60, sh9, sh31, sh23, sh37, sh42, sh43, sh19, sh3, sh6, ↓w_iconst, ↓w_istore_2, ↓w_iload_2, ↓w_aload_0, ↓w_gf3, ↓w_iload_1, ↓w_iv, ↓pm_cl2_2, ↓w_icge, ↓pm_cl2_3, ↓w_is, ↓pm_cl1_1, ↓w_ifne, ↓w_zret, ↓w_iinc_2, ↓w_goto])
        | (with_reducible refine c_atR (by omega) hw ha hs hs2 hk ?_ ; simp (disch := first | omega | decide) only [w_nl0, w_nli, w_nlr, ↓w_ts1, ↓w_ts0, w_rcv, w_rfv, w_cs, true_and, and_true, List.length_nil, List.length_cons, Nat.reduceAdd, Nat.reduceLeDiff, Nat.zero_le, Nat.reduceLT, ↓w_nil, ix_nI, nI_leP, nI_ltP, nI_eqP, nI_1, ↓i_inN, i_inN, l_le, l_lt, l_eq, r_le, r_lt, r_eq, sh0, sh1, sh55, sh60, sh9, sh31, sh23, sh37, sh42, sh43, sh19, sh3, sh6, ↓w_iconst, ↓w_istore_2, ↓w_iload_2, ↓w_aload_0, ↓w_gf3, ↓w_iload_1, ↓w_iv, ↓pm_cl2_2, ↓w_icge, ↓pm_cl2_3, ↓w_is, ↓pm_cl1_1, ↓w_ifne, ↓w_zret, ↓w_iinc_2, ↓w_goto])
        | (with_reducible refine c_isTurn (by omega) ?_ ; simp (disch := first | omega | decide) only [w_nl0, w_nli, w_nlr, ↓w_ts1, ↓w_ts0, w_rcv, w_rfv, w_cs, true_and, and_true, List.length_nil, List.length_cons, Nat.reduceAdd, Nat.reduceLeDiff, Nat.zero_le, Nat.reduceLT, ↓w_nil, ix_nI, nI_leP, nI_ltP, nI_eqP, nI_1, ↓i_inN, i_inN, l_le, l_lt, l_eq, r_le, r_lt, r_eq, sh0, sh1, sh55, sh60, sh9, sh31, sh23, sh37, sh42, sh43, sh19, sh3, sh6, ↓w_iconst, ↓w_istore_2, ↓w_iload_2, ↓w_aload_0, ↓w_gf3, ↓w_iload_1, ↓w_iv, ↓pm_cl2_2, ↓w_icge, ↓pm_cl2_3, ↓w_is, ↓pm_cl1_1, ↓w_ifne, ↓w_zret, ↓w_iinc_2, ↓w_goto])
        | (simp only [w_in])
        | (intro _))
      all_goals grind
  · have h1 := h1 (fun k hk => Classical.not_not.1 (hj k hk))
    clear h0 hj
    refine bX11_areTurns_1 ?_
    simp (disch := first | omega | decide) only [w_nl0, w_nli, w_nlr, ↓w_ts1, ↓w_ts0, w_rcv, w_rfv, w_cs, true_and, and_true, List.length_nil, List.length_cons, Nat.reduceAdd, Nat.reduceLeDiff, Nat.zero_le, Nat.reduceLT, ↓w_nil, ix_nI, nI_leP, nI_ltP, nI_eqP, nI_1, ↓i_inN, i_inN, l_le, l_lt, l_eq, r_le, r_lt, r_eq, sh0, sh1, sh55, sh60, sh9, sh31, sh23, sh37, sh42, sh43, sh19, sh3, sh6, ↓w_iload_2, ↓w_aload_0, ↓w_gf3, ↓w_iload_1, ↓w_iv, ↓pm_cl2_2, ↓w_icge, ↓pm_cl2_3, ↓w_is, ↓pm_cl1_1, ↓w_ifne, ↓w_iconst, ↓w_zret]
    repeat' (first
      | (apply And.intro)
      | (with_reducible refine bX11_areTurns_3 ?_; simp (disch := first | omega | decide) only [w_nl0, w_nli, w_nlr, ↓w_ts1, ↓w_ts0, w_rcv, w_rfv, w_cs, true_and, and_true, List.length_nil, List.length_cons, Nat.reduceAdd, Nat.reduceLeDiff, Nat.zero_le, Nat.reduceLT, ↓w_nil, ix_nI, nI_leP, nI_ltP, nI_eqP, nI_1, ↓i_inN, i_inN, l_le, l_lt, l_eq, r_le, r_lt, r_eq, sh0, sh1, sh55, sh60, sh9, sh31, sh23, sh37, sh42, sh43, sh19, sh3, sh6, ↓w_iconst, ↓w_istore_2, ↓w_iload_2, ↓w_aload_0, ↓w_gf3, ↓w_iload_1, ↓w_iv, ↓pm_cl2_2, ↓w_icge, ↓pm_cl2_3, ↓w_is, ↓pm_cl1_1, ↓w_ifne, ↓w_zret, ↓w_iinc_2, ↓w_goto])
      | (with_reducible refine c_sizeN (by omega) ha hs ?_ ; simp (disch := first | omega | decide) only [w_nl0, w_nli, w_nlr, ↓w_ts1, ↓w_ts0, w_rcv, w_rfv, w_cs, true_and, and_true, List.length_nil, List.length_cons, Nat.reduceAdd, Nat.reduceLeDiff, Nat.zero_le, Nat.reduceLT, ↓w_nil, ix_nI, nI_leP, nI_ltP, nI_eqP, nI_1, ↓i_inN, i_inN, l_le, l_lt, l_eq, r_le, r_lt, r_eq, sh0, sh1, sh55, sh60, sh9, sh31, sh23, sh37, sh42, sh43, sh19, sh3, sh6, ↓w_iconst, ↓w_istore_2, ↓w_iload_2, ↓w_aload_0, ↓w_gf3, ↓w_iload_1, ↓w_iv, ↓pm_cl2_2, ↓w_icge, ↓pm_cl2_3, ↓w_is, ↓pm_cl1_1, ↓w_ifne, ↓w_zret, ↓w_iinc_2, ↓w_goto])
      | (simp only [w_in])
      | (intro _))
    all_goals grind
theorem c_difference {r n a b s : Nat} (hd : 6 ≤ d) (hw : I 3 0 = 24) (ha : a < 6) (hb : b < 6) (hsa : I 4 a = nI s) (hsb : I 4 b = nI s) (hs : s ≤ 24) (hn : I 23 7 = nI n) (hn30 : n ≤ 30) (hr : r < n) (ht : tuOk (I 5) a s) (hQ : Q (some (.long (swD (I 5) (I 29) (I 30) a b s r))) SH I J) : pm_C g d 164 [.ref 0, .int (nI r), .int (nI a), .int (nI b)] Q SH I J := by
  unfold swD at hQ
  refine eX11_difference (by omega) ?_
  refine bX11_difference_0 ?_
  simp (disch := first | omega | decide) only [w_nl0, w_nli, w_nlr, ↓w_ts1, ↓w_ts0, w_rcv, w_rfv, w_cs, true_and, and_true, List.length_nil, List.length_cons, Nat.reduceAdd, Nat.reduceLeDiff, Nat.zero_le, Nat.reduceLT, ↓w_nil, ix_nI, nI_leP, nI_ltP, nI_eqP, nI_1, ↓i_inN, i_inN, l_le, l_lt, l_eq, r_le, r_lt, r_eq, sh0, sh1, sh55, sh60, sh9, sh31, sh23, sh37, sh42, sh43, sh19, sh3, sh6, ↓w_lconst0, ↓w_lstore_4, ↓w_iconst, ↓w_istore_6]
  refine pm_for (f := fun k (z : Int64) => z + ab64 ((swV (I 29 r) (I 30 r) (I 5 (24 * a + k))).toInt64 - (I 5 (24 * b + k)).toInt64)) (U := fun k (z : Int64) => UU g (d - 1) 164 kX11_difference (pm_rm d 164) Q 1 [some (.ref 0), some (.int (nI r)), some (.int (nI a)), some (.int (nI b)), some (.long z), none, some (.int (nI k)), none, none] [] SH I J (0, 0)) s (fun k z hk hz w => ?_) ?_
  · replace w : ∀ x, UU g (d - 1) 164 kX11_difference (pm_rm d 164) Q 1 [some (.ref 0), some (.int (nI r)), some (.int (nI a)), some (.int (nI b)), some (.long (z + ab64 ((swV (I 29 r) (I 30 r) (I 5 (24 * a + k))).toInt64 - (I 5 (24 * b + k)).toInt64))), none, some (.int (nI (k + 1))), x, none] [] SH I J (0, 0) := fun x => u_less _ (by simp [pm_le]) w
    obtain ⟨t, ht9, e⟩ := tu_t ht hk
    clear ht hz hQ
    refine bX11_difference_1 ?_
    simp -implicitDefEqProofs (disch := first | omega | decide) only [w_nl0, w_nli, w_nlr, ↓w_ts1, ↓w_ts0, w_rcv, w_rfv, w_cs, true_and, and_true, List.length_nil, List.length_cons, Nat.reduceAdd, Nat.reduceLeDiff, Nat.zero_le, Nat.reduceLT, ↓w_nil, ix_nI, nI_leP, nI_ltP, nI_eqP, nI_1, ↓i_inN, i_inN, l_le, l_lt, l_eq, r_le, r_lt, r_eq, sh0, sh1, sh55, sh60, sh9, sh31, sh23, sh37, sh42, sh43, sh19, sh3, sh6, ↓w_iload_6, ↓w_aload_0, ↓w_gf3, ↓w_iload_2, ↓w_iv, ↓pm_cl2_2, ↓w_icge, ↓w_iload_1, ↓pm_cl2_3, ↓w_i2l, ↓w_lstore_7, ↓w_lload_4, ↓w_lload_7, ↓w_iload_3, ↓w_lsub, ↓w_mabsLT, ↓w_ladd, ↓w_lstore_4, ↓w_iinc_6, ↓w_goto]
    repeat' (first
      | (apply And.intro)
      | (with_reducible refine c_sizeN (by omega) ha hsa ?_ ; simp -implicitDefEqProofs (disch := first | omega | decide) only [w_nl0, w_nli, w_nlr, ↓w_ts1, ↓w_ts0, w_rcv, w_rfv, w_cs, true_and, and_true, List.length_nil, List.length_cons, Nat.reduceAdd, Nat.reduceLeDiff, Nat.zero_le, Nat.reduceLT, ↓w_nil, ix_nI, nI_leP, nI_ltP, nI_eqP, nI_1, ↓i_inN, i_inN, l_le, l_lt, l_eq, r_le, r_lt, r_eq, sh0, sh1, sh55, sh60, sh9, sh31, sh23, sh37, sh42, sh43, sh19, sh3, sh6, ↓w_lconst0, ↓w_lstore_4, ↓w_iconst, ↓w_istore_6, ↓w_iload_6, ↓w_aload_0, ↓w_gf3, ↓w_iload_2, ↓w_iv, ↓pm_cl2_2, ↓w_icge, ↓w_iload_1, ↓pm_cl2_3, ↓w_i2l, ↓w_lstore_7, ↓w_lload_4, ↓w_lload_7, ↓w_iload_3, ↓w_lsub, ↓w_mabsLT, ↓w_ladd, ↓w_iinc_6, ↓w_goto, ↓w_lret, ab64_c])
      | (with_reducible refine c_atR (by omega) hw ha hsa hs hk ?_ ; simp -implicitDefEqProofs (disch := first | omega | decide) only [w_nl0, w_nli, w_nlr, ↓w_ts1, ↓w_ts0, w_rcv, w_rfv, w_cs, true_and, and_true, List.length_nil, List.length_cons, Nat.reduceAdd, Nat.reduceLeDiff, Nat.zero_le, Nat.reduceLT, ↓w_nil, ix_nI, nI_leP, nI_ltP, nI_eqP, nI_1, ↓i_inN, i_inN, l_le, l_lt, l_eq, r_le, r_lt, r_eq, sh0, sh1, sh55, sh60, sh9, sh31, sh23, sh37, sh42, sh43, sh19, sh3, sh6, ↓w_lconst0, ↓w_lstore_4, ↓w_iconst, ↓w_istore_6, ↓w_iload_6, ↓w_aload_0, ↓w_gf3, ↓w_iload_2, ↓w_iv, ↓pm_cl2_2, ↓w_icge, ↓w_iload_1, ↓pm_cl2_3, ↓w_i2l, ↓w_lstore_7, ↓w_lload_4, ↓w_lload_7, ↓w_iload_3, ↓w_lsub, ↓w_mabsLT, ↓w_ladd, ↓w_iinc_6, ↓w_goto, ↓w_lret, ab64_c])
      | (with_reducible refine c_atR (by omega) hw hb hsb hs hk ?_ ; simp -implicitDefEqProofs (disch := first | omega | decide) only [w_nl0, w_nli, w_nlr, ↓w_ts1, ↓w_ts0, w_rcv, w_rfv, w_cs, true_and, and_true, List.length_nil, List.length_cons, Nat.reduceAdd, Nat.reduceLeDiff, Nat.zero_le, Nat.reduceLT, ↓w_nil, ix_nI, nI_leP, nI_ltP, nI_eqP, nI_1, ↓i_inN, i_inN, l_le, l_lt, l_eq, r_le, r_lt, r_eq, sh0, sh1, sh55, sh60, sh9, sh31, sh23, sh37, sh42, sh43, sh19, sh3, sh6, ↓w_lconst0, ↓w_lstore_4, ↓w_iconst, ↓w_istore_6, ↓w_iload_6, ↓w_aload_0, ↓w_gf3, ↓w_iload_2, ↓w_iv, ↓pm_cl2_2, ↓w_icge, ↓w_iload_1, ↓pm_cl2_3, ↓w_i2l, ↓w_lstore_7, ↓w_lload_4, ↓w_lload_7, ↓w_iload_3, ↓w_lsub, ↓w_mabsLT, ↓w_ladd, ↓w_iinc_6, ↓w_goto, ↓w_lret, ab64_c])
      | (with_reducible refine c_swA (t := t) (by omega) hn hn30 hr e ?_ ; simp -implicitDefEqProofs (disch := first | omega | decide) only [w_nl0, w_nli, w_nlr, ↓w_ts1, ↓w_ts0, w_rcv, w_rfv, w_cs, true_and, and_true, List.length_nil, List.length_cons, Nat.reduceAdd, Nat.reduceLeDiff, Nat.zero_le, Nat.reduceLT, ↓w_nil, ix_nI, nI_leP, nI_ltP, nI_eqP, nI_1, ↓i_inN, i_inN, l_le, l_lt, l_eq, r_le, r_lt, r_eq, sh0, sh1, sh55, sh60, sh9, sh31, sh23, sh37, sh42, sh43, sh19, sh3, sh6, ↓w_lconst0, ↓w_lstore_4, ↓w_iconst, ↓w_istore_6, ↓w_iload_6, ↓w_aload_0, ↓w_gf3, ↓w_iload_2, ↓w_iv, ↓pm_cl2_2, ↓w_icge, ↓w_iload_1, ↓pm_cl2_3, ↓w_i2l, ↓w_lstore_7, ↓w_lload_4, ↓w_lload_7, ↓w_iload_3, ↓w_lsub, ↓w_mabsLT, ↓w_ladd, ↓w_iinc_6, ↓w_goto, ↓w_lret, ab64_c])
      | (simp only [w_in])
      | (intro _))
    all_goals first | omega | exact w _ | grind
  · clear ht
    refine bX11_difference_1 ?_
    simp -implicitDefEqProofs (disch := first | omega | decide) only [w_nl0, w_nli, w_nlr, ↓w_ts1, ↓w_ts0, w_rcv, w_rfv, w_cs, true_and, and_true, List.length_nil, List.length_cons, Nat.reduceAdd, Nat.reduceLeDiff, Nat.zero_le, Nat.reduceLT, ↓w_nil, ix_nI, nI_leP, nI_ltP, nI_eqP, nI_1, ↓i_inN, i_inN, l_le, l_lt, l_eq, r_le, r_lt, r_eq, sh0, sh1, sh55, sh60, sh9, sh31, sh23, sh37, sh42, sh43, sh19, sh3, sh6, ↓w_iload_6, ↓w_aload_0, ↓w_gf3, ↓w_iload_2, ↓w_iv, ↓pm_cl2_2, ↓w_icge, ↓w_iload_1, ↓pm_cl2_3, ↓w_i2l, ↓w_lstore_7, ↓w_lload_4, ↓w_lload_7, ↓w_iload_3, ↓w_lsub, ↓w_mabsLT, ↓w_ladd, ↓w_lstore_4, ↓w_iinc_6, ↓w_goto]
    repeat' (first
      | (apply And.intro)
      | (with_reducible refine bX11_difference_2 ?_; simp -implicitDefEqProofs (disch := first | omega | decide) only [w_nl0, w_nli, w_nlr, ↓w_ts1, ↓w_ts0, w_rcv, w_rfv, w_cs, true_and, and_true, List.length_nil, List.length_cons, Nat.reduceAdd, Nat.reduceLeDiff, Nat.zero_le, Nat.reduceLT, ↓w_nil, ix_nI, nI_leP, nI_ltP, nI_eqP, nI_1, ↓i_inN, i_inN, l_le, l_lt, l_eq, r_le, r_lt, r_eq, sh0, sh1, sh55, sh60, sh9, sh31, sh23, sh37, sh42, sh43, sh19, sh3, sh6, ↓w_lconst0, ↓w_lstore_4, ↓w_iconst, ↓w_istore_6, ↓w_iload_6, ↓w_aload_0, ↓w_gf3, ↓w_iload_2, ↓w_iv, ↓pm_cl2_2, ↓w_icge, ↓w_iload_1, ↓pm_cl2_3, ↓w_i2l, ↓w_lstore_7, ↓w_lload_4, ↓w_lload_7, ↓w_iload_3, ↓w_lsub, ↓w_mabsLT, ↓w_ladd, ↓w_iinc_6, ↓w_goto, ↓w_lret])
      | (with_reducible refine c_sizeN (by omega) ha hsa ?_ ; simp -implicitDefEqProofs (disch := first | omega | decide) only [w_nl0, w_nli, w_nlr, ↓w_ts1, ↓w_ts0, w_rcv, w_rfv, w_cs, true_and, and_true, List.length_nil, List.length_cons, Nat.reduceAdd, Nat.reduceLeDiff, Nat.zero_le, Nat.reduceLT, ↓w_nil, ix_nI, nI_leP, nI_ltP, nI_eqP, nI_1, ↓i_inN, i_inN, l_le, l_lt, l_eq, r_le, r_lt, r_eq, sh0, sh1, sh55, sh60, sh9, sh31, sh23, sh37, sh42, sh43, sh19, sh3, sh6, ↓w_lconst0, ↓w_lstore_4, ↓w_iconst, ↓w_istore_6, ↓w_iload_6, ↓w_aload_0, ↓w_gf3, ↓w_iload_2, ↓w_iv, ↓pm_cl2_2, ↓w_icge, ↓w_iload_1, ↓pm_cl2_3, ↓w_i2l, ↓w_lstore_7, ↓w_lload_4, ↓w_lload_7, ↓w_iload_3, ↓w_lsub, ↓w_mabsLT, ↓w_ladd, ↓w_iinc_6, ↓w_goto, ↓w_lret])
      | (simp only [w_in])
      | (intro _))
    all_goals first | omega | exact hQ | grind
end C67
