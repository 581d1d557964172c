section C70
variable {g : pm_G} {d : Nat} {Q : pm_Po} {S : pm_SS} {I : pm_MI} {J : pm_ML}
def dgC (I : pm_MI) (n : Nat) (h : Int64) : Int64 := itr (fun k h => 31 * h + (ccnV I n (nI k)).toInt64) h 11
def dgE (r f t s : Nat → Int32) (n : Nat) (h : Int64) : Int64 := itr (fun k h => 31 * (31 * (31 * (31 * h + (r k).toInt64) + (f k).toInt64) + (t k).toInt64) + (if s k = 0 then 0 else 1 : Int32).toInt64) h n
def dgS (r f t s : Nat → Int32) (n : Nat) (h : Int64) : Int64 := itr (fun k h => 31 * (31 * (31 * (31 * h + (r k).toInt64) + (f k).toInt64) + (t k).toInt64) + (s k).toInt64) h n
def dgO (r f : Nat → Int32) (n : Nat) (h : Int64) : Int64 := itr (fun k h => 31 * (31 * h + (r k).toInt64) + (f k).toInt64) h n
theorem c_digest {n N M R P O : Nat} (hd : 9 ≤ d) (hn : I 9 9 = nI n) (hn40 : n ≤ 40) (hN : I 23 7 = nI N) (hN30 : N ≤ 30) (hM : I 55 4 = nI M) (hM60 : M ≤ 60) (hR : I 31 5 = nI R) (hR24 : R ≤ 24) (hP : I 37 4 = nI P) (hP60 : P ≤ 60) (hO : I 60 7 = nI O) (hO9 : O ≤ 9) (hw1 : I 3 0 = 24) (hw2 : I 6 0 = 48) (hs1 : ∀ r, r < 6 → I 4 r = -1 ∨ ∃ k, k ≤ 24 ∧ I 4 r = nI k) (hs2 : ∀ r, r < 4 → I 7 r = -1 ∨ ∃ k, k ≤ 48 ∧ I 7 r = nI k) (hQ : Q (some (.long (itr (smT I) (itr (smR I) (dgO (I 61) (I 62) O (dgS (I 56) (I 57) (I 58) (I 59) M (dgE (I 38) (I 39) (I 40) (I 41) P (dgU I (I 0 11) R (dgR I M N (dgP I (dgM I n (dgC I n 17)))))))) 6) 4))) SH I J) : pm_C g d 183 [.ref 0] Q SH I J := by
  refine eX11_digest (by omega) ?_
  refine bX11_digest_0 ?_
  simp (disch := first | omega | decide) only [w_nl0, w_nli, w_nlr, ↓w_ts1, ↓w_ts0, w_rcv, w_rfv, w_cs, true_and, and_true, List.length_nil, List.length_cons, Nat.reduceAdd, Nat.reduceLeDiff, Nat.zero_le, Nat.reduceLT, ↓w_nil, ix_nI, nI_leP, nI_ltP, nI_eqP, nI_1, ↓i_inN, i_inN, l_le, l_lt, l_eq, r_le, r_lt, r_eq, sh0, sh1, sh55, sh60, sh9, sh31, sh23, sh37, sh42, sh43, sh19, sh3, sh6, ↓w_ldc2_8, ↓w_lstore_1, ↓w_iconst, ↓w_istore_3]
  refine pm_for (f := fun k (h : Int64) => 31 * h + (ccnV I n (nI k)).toInt64) (U := fun k (z : Int64) => UU g (d - 1) 183 kX11_digest (pm_rm d 183) Q 1 [some (.ref 0), some (.long z), none, some (.int (nI k)), none] [] SH I J (0, 0)) (a := 17) 11 (fun k z hk hz w => ?_) ?_
  · have hk2 : (0 : Int32) ≤ nI k ∧ nI k ≤ 10 := nI_rng (N := 10) (by omega) (by decide)
    clear hz hQ hs1 hs2
    refine bX11_digest_1 ?_
    simp (disch := first | omega | decide) only [w_nl0, w_nli, w_nlr, ↓w_ts1, ↓w_ts0, w_rcv, w_rfv, w_cs, true_and, and_true, List.length_nil, List.length_cons, Nat.reduceAdd, Nat.reduceLeDiff, Nat.zero_le, Nat.reduceLT, ↓w_nil, ix_nI, nI_leP, nI_ltP, nI_eqP, nI_1, ↓i_inN, i_inN, l_le, l_lt, l_eq, r_le, r_lt, r_eq, sh0, sh1, sh55, sh60, sh9, sh31, sh23, sh37, sh42, sh43, sh19, sh3, sh6, ↓w_iload_3, ↓w_bipush, ↓w_icgt, ↓w_ldc2_9, ↓w_lload_1, ↓w_lmul, ↓w_aload_0, ↓w_iv, ↓pm_cl2_2, ↓w_i2l, ↓w_ladd, ↓w_lstore_1, ↓w_iinc_3, ↓w_goto]
    repeat' (first
      | (apply And.intro)
      | (with_reducible refine c_count (n := n) (by omega) hn hn40 hk2 ?_ ; simp (disch := first | omega | decide) only [w_nl0, w_nli, w_nlr, ↓w_ts1, ↓w_ts0, w_rcv, w_rfv, w_cs, true_and, and_true, List.length_nil, List.length_cons, Nat.reduceAdd, Nat.reduceLeDiff, Nat.zero_le, Nat.reduceLT, ↓w_nil, ix_nI, nI_leP, nI_ltP, nI_eqP, nI_1, ↓i_inN, i_inN, l_le, l_lt, l_eq, r_le, r_lt, r_eq, sh0, sh1, sh55, sh60, sh9, sh31, sh23, sh37, sh42, sh43, sh19, sh3, sh6, ↓w_ldc2_8, ↓w_lstore_1, ↓w_iconst, ↓w_istore_3, ↓w_iload_3, ↓w_bipush, ↓w_icgt, ↓w_ldc2_9, ↓w_lload_1, ↓w_lmul, ↓w_aload_0, ↓w_iv, ↓pm_cl2_2, ↓w_i2l, ↓w_ladd, ↓w_iinc_3, ↓w_goto, ↓w_gf3, ↓w_gf0, ↓w_icge, ↓w_istore_4, ↓w_iload_4, ↓pm_cl2_3, ↓w_iinc_4, ↓w_lret])
      | (simp only [w_in])
      | (intro _))
    all_goals grind
  · have e1 : itr (fun k (h : Int64) => 31 * h + (ccnV I n (nI k)).toInt64) 17 11 = dgC I n 17 := rfl
    rw [e1]
    clear e1
    generalize dgC I n 17 = h1 at hQ ⊢
    refine bX11_digest_1 ?_
    simp (disch := first | omega | decide) only [w_nl0, w_nli, w_nlr, ↓w_ts1, ↓w_ts0, w_rcv, w_rfv, w_cs, true_and, and_true, List.length_nil, List.length_cons, Nat.reduceAdd, Nat.reduceLeDiff, Nat.zero_le, Nat.reduceLT, ↓w_nil, ix_nI, nI_leP, nI_ltP, nI_eqP, nI_1, ↓i_inN, i_inN, l_le, l_lt, l_eq, r_le, r_lt, r_eq, sh0, sh1, sh55, sh60, sh9, sh31, sh23, sh37, sh42, sh43, sh19, sh3, sh6, ↓w_iload_3, ↓w_bipush, ↓w_icgt, ↓w_ldc2_9, ↓w_lload_1, ↓w_lmul, ↓w_aload_0, ↓w_iv, ↓pm_cl2_2, ↓w_i2l, ↓w_ladd, ↓w_lstore_1, ↓w_iinc_3, ↓w_goto]
    repeat' (first
      | (apply And.intro)
      | (with_reducible refine bX11_digest_2 ?_; simp (disch := first | omega | decide) only [w_nl0, w_nli, w_nlr, ↓w_ts1, ↓w_ts0, w_rcv, w_rfv, w_cs, true_and, and_true, List.length_nil, List.length_cons, Nat.reduceAdd, Nat.reduceLeDiff, Nat.zero_le, Nat.reduceLT, ↓w_nil, ix_nI, nI_leP, nI_ltP, nI_eqP, nI_1, ↓i_inN, i_inN, l_le, l_lt, l_eq, r_le, r_lt, r_eq, sh0, sh1, sh55, sh60, sh9, sh31, sh23, sh37, sh42, sh43, sh19, sh3, sh6, ↓w_ldc2_8, ↓w_lstore_1, ↓w_iconst, ↓w_istore_3, ↓w_iload_3, ↓w_bipush, ↓w_icgt, ↓w_ldc2_9, ↓w_lload_1, ↓w_lmul, ↓w_aload_0, ↓w_iv, ↓pm_cl2_2, ↓w_i2l, ↓w_ladd, ↓w_iinc_3, ↓w_goto, ↓w_gf3, ↓w_gf0, ↓w_icge, ↓w_istore_4, ↓w_iload_4, ↓pm_cl2_3, ↓w_iinc_4, ↓w_lret])
      | (with_reducible refine c_M_mix (by omega) hn hn40 ?_ ; simp (disch := first | omega | decide) only [w_nl0, w_nli, w_nlr, ↓w_ts1, ↓w_ts0, w_rcv, w_rfv, w_cs, true_and, and_true, List.length_nil, List.length_cons, Nat.reduceAdd, Nat.reduceLeDiff, Nat.zero_le, Nat.reduceLT, ↓w_nil, ix_nI, nI_leP, nI_ltP, nI_eqP, nI_1, ↓i_inN, i_inN, l_le, l_lt, l_eq, r_le, r_lt, r_eq, sh0, sh1, sh55, sh60, sh9, sh31, sh23, sh37, sh42, sh43, sh19, sh3, sh6, ↓w_ldc2_8, ↓w_lstore_1, ↓w_iconst, ↓w_istore_3, ↓w_iload_3, ↓w_bipush, ↓w_icgt, ↓w_ldc2_9, ↓w_lload_1, ↓w_lmul, ↓w_aload_0, ↓w_iv, ↓pm_cl2_2, ↓w_i2l, ↓w_ladd, ↓w_iinc_3, ↓w_goto, ↓w_gf3, ↓w_gf0, ↓w_icge, ↓w_istore_4, ↓w_iload_4, ↓pm_cl2_3, ↓w_iinc_4, ↓w_lret])
      | (with_reducible refine c_P_mix (by omega) ?_ ; simp (disch := first | omega | decide) only [w_nl0, w_nli, w_nlr, ↓w_ts1, ↓w_ts0, w_rcv, w_rfv, w_cs, true_and, and_true, List.length_nil, List.length_cons, Nat.reduceAdd, Nat.reduceLeDiff, Nat.zero_le, Nat.reduceLT, ↓w_nil, ix_nI, nI_leP, nI_ltP, nI_eqP, nI_1, ↓i_inN, i_inN, l_le, l_lt, l_eq, r_le, r_lt, r_eq, sh0, sh1, sh55, sh60, sh9, sh31, sh23, sh37, sh42, sh43, sh19, sh3, sh6, ↓w_ldc2_8, ↓w_lstore_1, ↓w_iconst, ↓w_istore_3, ↓w_iload_3, ↓w_bipush, ↓w_icgt, ↓w_ldc2_9, ↓w_lload_1, ↓w_lmul, ↓w_aload_0, ↓w_iv, ↓pm_cl2_2, ↓w_i2l, ↓w_ladd, ↓w_iinc_3, ↓w_goto, ↓w_gf3, ↓w_gf0, ↓w_icge, ↓w_istore_4, ↓w_iload_4, ↓pm_cl2_3, ↓w_iinc_4, ↓w_lret])
      | (simp only [w_in])
      | (intro _))
    all_goals try (clear hs1 hs2 hQ; grind)
    have e2 : itr (fun m h => itr (fun w h => 31 * h + (factV I m n (nI w)).toInt64) h 7) h1 n = dgM I n h1 := rfl
    have e3 : ∀ h, itr (fun p h => 31 * (31 * (31 * (31 * h + (I 20 (2 * p)).toInt64) + (I 20 (2 * p + 1)).toInt64) + (I 21 p).toInt64) + (I 22 p).toInt64) h 6 = dgP I h := fun _ => rfl
    rw [e2, e3]
    clear e2 e3
    generalize dgP I (dgM I n h1) = h2 at hQ ⊢
    refine pm_for (f := fun r h => itr (fun w h => 31 * h + (rtV I r M (nI w)).toInt64) h 7) (U := fun k (z : Int64) => UU g (d - 1) 183 kX11_digest (pm_rm d 183) Q 3 [some (.ref 0), some (.long z), none, some (.int (nI k)), none] [] SH I J (0, 0)) (a := h2) N (fun r z hr hz w => ?_) ?_
    · replace w : ∀ x, UU g (d - 1) 183 kX11_digest (pm_rm d 183) Q 3 [some (.ref 0), some (.long (itr (fun w h => 31 * h + (rtV I r M (nI w)).toInt64) z 7)), none, some (.int (nI (r + 1))), x] [] SH I J (0, 0) := fun x => u_less _ (by simp [pm_le]) w
      clear hz hQ hs1 hs2
      refine bX11_digest_3 ?_
      simp (disch := first | omega | decide) only [w_nl0, w_nli, w_nlr, ↓w_ts1, ↓w_ts0, w_rcv, w_rfv, w_cs, true_and, and_true, List.length_nil, List.length_cons, Nat.reduceAdd, Nat.reduceLeDiff, Nat.zero_le, Nat.reduceLT, ↓w_nil, ix_nI, nI_leP, nI_ltP, nI_eqP, nI_1, ↓i_inN, i_inN, l_le, l_lt, l_eq, r_le, r_lt, r_eq, sh0, sh1, sh55, sh60, sh9, sh31, sh23, sh37, sh42, sh43, sh19, sh3, sh6, ↓w_iload_3, ↓w_aload_0, ↓w_gf3, ↓w_gf0, ↓w_icge, ↓w_iconst, ↓w_istore_4, hN]
      repeat' (first
        | (apply And.intro)
        | (simp only [w_in])
        | (intro _))
      all_goals try grind
      refine pm_for (f := fun w h => 31 * h + (rtV I r M (nI w)).toInt64) (U := fun k (z : Int64) => UU g (d - 1) 183 kX11_digest (pm_rm d 183) Q 4 [some (.ref 0), some (.long z), none, some (.int (nI r)), some (.int (nI k))] [] SH I J (0, 0)) (a := z) 7 (fun j y hj hy w2 => ?_) ?_
      · clear hy w
        refine bX11_digest_4 ?_
        simp (disch := first | omega | decide) only [w_nl0, w_nli, w_nlr, ↓w_ts1, ↓w_ts0, w_rcv, w_rfv, w_cs, true_and, and_true, List.length_nil, List.length_cons, Nat.reduceAdd, Nat.reduceLeDiff, Nat.zero_le, Nat.reduceLT, ↓w_nil, ix_nI, nI_leP, nI_ltP, nI_eqP, nI_1, ↓i_inN, i_inN, l_le, l_lt, l_eq, r_le, r_lt, r_eq, sh0, sh1, sh55, sh60, sh9, sh31, sh23, sh37, sh42, sh43, sh19, sh3, sh6, ↓w_iload_4, ↓w_bipush, ↓w_icgt, ↓w_ldc2_9, ↓w_lload_1, ↓w_lmul, ↓w_aload_0, ↓w_iload_3, ↓w_iv, ↓pm_cl2_3, ↓w_i2l, ↓w_ladd, ↓w_lstore_1, ↓w_iinc_4, ↓w_goto]
        repeat' (first
          | (apply And.intro)
          | (with_reducible refine c_runFact (by omega) hN hN30 hr hM hM60 ?_ ; simp (disch := first | omega | decide) only [w_nl0, w_nli, w_nlr, ↓w_ts1, ↓w_ts0, w_rcv, w_rfv, w_cs, true_and, and_true, List.length_nil, List.length_cons, Nat.reduceAdd, Nat.reduceLeDiff, Nat.zero_le, Nat.reduceLT, ↓w_nil, ix_nI, nI_leP, nI_ltP, nI_eqP, nI_1, ↓i_inN, i_inN, l_le, l_lt, l_eq, r_le, r_lt, r_eq, sh0, sh1, sh55, sh60, sh9, sh31, sh23, sh37, sh42, sh43, sh19, sh3, sh6, ↓w_ldc2_8, ↓w_lstore_1, ↓w_iconst, ↓w_istore_3, ↓w_iload_3, ↓w_bipush, ↓w_icgt, ↓w_ldc2_9, ↓w_lload_1, ↓w_lmul, ↓w_aload_0, ↓w_iv, ↓pm_cl2_2, ↓w_i2l, ↓w_ladd, ↓w_iinc_3, ↓w_goto, ↓w_gf3, ↓w_gf0, ↓w_icge, ↓w_istore_4, ↓w_iload_4, ↓pm_cl2_3, ↓w_iinc_4, ↓w_lret])
          | (simp only [w_in])
          | (intro _))
        all_goals grind
      · refine bX11_digest_4 ?_
        simp (disch := first | omega | decide) only [w_nl0, w_nli, w_nlr, ↓w_ts1, ↓w_ts0, w_rcv, w_rfv, w_cs, true_and, and_true, List.length_nil, List.length_cons, Nat.reduceAdd, Nat.reduceLeDiff, Nat.zero_le, Nat.reduceLT, ↓w_nil, ix_nI, nI_leP, nI_ltP, nI_eqP, nI_1, ↓i_inN, i_inN, l_le, l_lt, l_eq, r_le, r_lt, r_eq, sh0, sh1, sh55, sh60, sh9, sh31, sh23, sh37, sh42, sh43, sh19, sh3, sh6, ↓w_iload_4, ↓w_bipush, ↓w_icgt, ↓w_ldc2_9, ↓w_lload_1, ↓w_lmul, ↓w_aload_0, ↓w_iload_3, ↓w_iv, ↓pm_cl2_3, ↓w_i2l, ↓w_ladd, ↓w_lstore_1, ↓w_iinc_4, ↓w_goto]
        repeat' (first
          | (apply And.intro)
          | (with_reducible refine bX11_digest_5 ?_; simp (disch := first | omega | decide) only [w_nl0, w_nli, w_nlr, ↓w_ts1, ↓w_ts0, w_rcv, w_rfv, w_cs, true_and, and_true, List.length_nil, List.length_cons, Nat.reduceAdd, Nat.reduceLeDiff, Nat.zero_le, Nat.reduceLT, ↓w_nil, ix_nI, nI_leP, nI_ltP, nI_eqP, nI_1, ↓i_inN, i_inN, l_le, l_lt, l_eq, r_le, r_lt, r_eq, sh0, sh1, sh55, sh60, sh9, sh31, sh23, sh37, sh42, sh43, sh19, sh3, sh6, ↓w_ldc2_8, ↓w_lstore_1, ↓w_iconst, ↓w_istore_3, ↓w_iload_3, ↓w_bipush, ↓w_icgt, ↓w_ldc2_9, ↓w_lload_1, ↓w_lmul, ↓w_aload_0, ↓w_iv, ↓pm_cl2_2, ↓w_i2l, ↓w_ladd, ↓w_iinc_3, ↓w_goto, ↓w_gf3, ↓w_gf0, ↓w_icge, ↓w_istore_4, ↓w_iload_4, ↓pm_cl2_3, ↓w_iinc_4, ↓w_lret])
          | (simp only [w_in])
          | (intro _))
        all_goals first | exact w _ | grind
    · have e4 : itr (fun r h => itr (fun w h => 31 * h + (rtV I r M (nI w)).toInt64) h 7) h2 N = dgR I M N h2 := rfl
      rw [e4]
      clear e4
      generalize dgR I M N h2 = h3 at hQ ⊢
      refine bX11_digest_3 ?_
      simp (disch := first | omega | decide) only [w_nl0, w_nli, w_nlr, ↓w_ts1, ↓w_ts0, w_rcv, w_rfv, w_cs, true_and, and_true, List.length_nil, List.length_cons, Nat.reduceAdd, Nat.reduceLeDiff, Nat.zero_le, Nat.reduceLT, ↓w_nil, ix_nI, nI_leP, nI_ltP, nI_eqP, nI_1, ↓i_inN, i_inN, l_le, l_lt, l_eq, r_le, r_lt, r_eq, sh0, sh1, sh55, sh60, sh9, sh31, sh23, sh37, sh42, sh43, sh19, sh3, sh6, ↓w_iload_3, ↓w_aload_0, ↓w_gf3, ↓w_gf0, ↓w_icge, ↓w_iconst, ↓w_istore_4, hN]
      repeat' (first
        | (apply And.intro)
        | (with_reducible refine bX11_digest_6 ?_; simp (disch := first | omega | decide) only [w_nl0, w_nli, w_nlr, ↓w_ts1, ↓w_ts0, w_rcv, w_rfv, w_cs, true_and, and_true, List.length_nil, List.length_cons, Nat.reduceAdd, Nat.reduceLeDiff, Nat.zero_le, Nat.reduceLT, ↓w_nil, ix_nI, nI_leP, nI_ltP, nI_eqP, nI_1, ↓i_inN, i_inN, l_le, l_lt, l_eq, r_le, r_lt, r_eq, sh0, sh1, sh55, sh60, sh9, sh31, sh23, sh37, sh42, sh43, sh19, sh3, sh6, ↓w_ldc2_8, ↓w_lstore_1, ↓w_iconst, ↓w_istore_3, ↓w_iload_3, ↓w_bipush, ↓w_icgt, ↓w_ldc2_9, ↓w_lload_1, ↓w_lmul, ↓w_aload_0, ↓w_iv, ↓pm_cl2_2, ↓w_i2l, ↓w_ladd, ↓w_iinc_3, ↓w_goto, ↓w_gf3, ↓w_gf0, ↓w_icge, ↓w_istore_4, ↓w_iload_4, ↓pm_cl2_3, ↓w_iinc_4, ↓w_lret])
        | (with_reducible refine c_Ru_mix (by omega) hR hR24 ?_ ; simp (disch := first | omega | decide) only [w_nl0, w_nli, w_nlr, ↓w_ts1, ↓w_ts0, w_rcv, w_rfv, w_cs, true_and, and_true, List.length_nil, List.length_cons, Nat.reduceAdd, Nat.reduceLeDiff, Nat.zero_le, Nat.reduceLT, ↓w_nil, ix_nI, nI_leP, nI_ltP, nI_eqP, nI_1, ↓i_inN, i_inN, l_le, l_lt, l_eq, r_le, r_lt, r_eq, sh0, sh1, sh55, sh60, sh9, sh31, sh23, sh37, sh42, sh43, sh19, sh3, sh6, ↓w_ldc2_8, ↓w_lstore_1, ↓w_iconst, ↓w_istore_3, ↓w_iload_3, ↓w_bipush, ↓w_icgt, ↓w_ldc2_9, ↓w_lload_1, ↓w_lmul, ↓w_aload_0, ↓w_iv, ↓pm_cl2_2, ↓w_i2l, ↓w_ladd, ↓w_iinc_3, ↓w_goto, ↓w_gf3, ↓w_gf0, ↓w_icge, ↓w_istore_4, ↓w_iload_4, ↓pm_cl2_3, ↓w_iinc_4, ↓w_lret])
        | (with_reducible refine c_Rp_mix (by omega) hP hP60 ?_ ; simp (disch := first | omega | decide) only [w_nl0, w_nli, w_nlr, ↓w_ts1, ↓w_ts0, w_rcv, w_rfv, w_cs, true_and, and_true, List.length_nil, List.length_cons, Nat.reduceAdd, Nat.reduceLeDiff, Nat.zero_le, Nat.reduceLT, ↓w_nil, ix_nI, nI_leP, nI_ltP, nI_eqP, nI_1, ↓i_inN, i_inN, l_le, l_lt, l_eq, r_le, r_lt, r_eq, sh0, sh1, sh55, sh60, sh9, sh31, sh23, sh37, sh42, sh43, sh19, sh3, sh6, ↓w_ldc2_8, ↓w_lstore_1, ↓w_iconst, ↓w_istore_3, ↓w_iload_3, ↓w_bipush, ↓w_icgt, ↓w_ldc2_9, ↓w_lload_1, ↓w_lmul, ↓w_aload_0, ↓w_iv, ↓pm_cl2_2, ↓w_i2l, ↓w_ladd, ↓w_iinc_3, ↓w_goto, ↓w_gf3, ↓w_gf0, ↓w_icge, ↓w_istore_4, ↓w_iload_4, ↓pm_cl2_3, ↓w_iinc_4, ↓w_lret])
        | (with_reducible refine c_Sa_mix (by omega) hM hM60 ?_ ; simp (disch := first | omega | decide) only [w_nl0, w_nli, w_nlr, ↓w_ts1, ↓w_ts0, w_rcv, w_rfv, w_cs, true_and, and_true, List.length_nil, List.length_cons, Nat.reduceAdd, Nat.reduceLeDiff, Nat.zero_le, Nat.reduceLT, ↓w_nil, ix_nI, nI_leP, nI_ltP, nI_eqP, nI_1, ↓i_inN, i_inN, l_le, l_lt, l_eq, r_le, r_lt, r_eq, sh0, sh1, sh55, sh60, sh9, sh31, sh23, sh37, sh42, sh43, sh19, sh3, sh6, ↓w_ldc2_8, ↓w_lstore_1, ↓w_iconst, ↓w_istore_3, ↓w_iload_3, ↓w_bipush, ↓w_icgt, ↓w_ldc2_9, ↓w_lload_1, ↓w_lmul, ↓w_aload_0, ↓w_iv, ↓pm_cl2_2, ↓w_i2l, ↓w_ladd, ↓w_iinc_3, ↓w_goto, ↓w_gf3, ↓w_gf0, ↓w_icge, ↓w_istore_4, ↓w_iload_4, ↓pm_cl2_3, ↓w_iinc_4, ↓w_lret])
        | (with_reducible refine c_O_mix (by omega) hO hO9 ?_ ; simp (disch := first | omega | decide) only [w_nl0, w_nli, w_nlr, ↓w_ts1, ↓w_ts0, w_rcv, w_rfv, w_cs, true_and, and_true, List.length_nil, List.length_cons, Nat.reduceAdd, Nat.reduceLeDiff, Nat.zero_le, Nat.reduceLT, ↓w_nil, ix_nI, nI_leP, nI_ltP, nI_eqP, nI_1, ↓i_inN, i_inN, l_le, l_lt, l_eq, r_le, r_lt, r_eq, sh0, sh1, sh55, sh60, sh9, sh31, sh23, sh37, sh42, sh43, sh19, sh3, sh6, ↓w_ldc2_8, ↓w_lstore_1, ↓w_iconst, ↓w_istore_3, ↓w_iload_3, ↓w_bipush, ↓w_icgt, ↓w_ldc2_9, ↓w_lload_1, ↓w_lmul, ↓w_aload_0, ↓w_iv, ↓pm_cl2_2, ↓w_i2l, ↓w_ladd, ↓w_iinc_3, ↓w_goto, ↓w_gf3, ↓w_gf0, ↓w_icge, ↓w_istore_4, ↓w_iload_4, ↓pm_cl2_3, ↓w_iinc_4, ↓w_lret])
        | (with_reducible refine c_mixR (by omega) hw1 hs1 ?_ ; simp (disch := first | omega | decide) only [w_nl0, w_nli, w_nlr, ↓w_ts1, ↓w_ts0, w_rcv, w_rfv, w_cs, true_and, and_true, List.length_nil, List.length_cons, Nat.reduceAdd, Nat.reduceLeDiff, Nat.zero_le, Nat.reduceLT, ↓w_nil, ix_nI, nI_leP, nI_ltP, nI_eqP, nI_1, ↓i_inN, i_inN, l_le, l_lt, l_eq, r_le, r_lt, r_eq, sh0, sh1, sh55, sh60, sh9, sh31, sh23, sh37, sh42, sh43, sh19, sh3, sh6, ↓w_ldc2_8, ↓w_lstore_1, ↓w_iconst, ↓w_istore_3, ↓w_iload_3, ↓w_bipush, ↓w_icgt, ↓w_ldc2_9, ↓w_lload_1, ↓w_lmul, ↓w_aload_0, ↓w_iv, ↓pm_cl2_2, ↓w_i2l, ↓w_ladd, ↓w_iinc_3, ↓w_goto, ↓w_gf3, ↓w_gf0, ↓w_icge, ↓w_istore_4, ↓w_iload_4, ↓pm_cl2_3, ↓w_iinc_4, ↓w_lret])
        | (with_reducible refine c_mixT (by omega) hw2 hs2 ?_ ; simp (disch := first | omega | decide) only [w_nl0, w_nli, w_nlr, ↓w_ts1, ↓w_ts0, w_rcv, w_rfv, w_cs, true_and, and_true, List.length_nil, List.length_cons, Nat.reduceAdd, Nat.reduceLeDiff, Nat.zero_le, Nat.reduceLT, ↓w_nil, ix_nI, nI_leP, nI_ltP, nI_eqP, nI_1, ↓i_inN, i_inN, l_le, l_lt, l_eq, r_le, r_lt, r_eq, sh0, sh1, sh55, sh60, sh9, sh31, sh23, sh37, sh42, sh43, sh19, sh3, sh6, ↓w_ldc2_8, ↓w_lstore_1, ↓w_iconst, ↓w_istore_3, ↓w_iload_3, ↓w_bipush, ↓w_icgt, ↓w_ldc2_9, ↓w_lload_1, ↓w_lmul, ↓w_aload_0, ↓w_iv, ↓pm_cl2_2, ↓w_i2l, ↓w_ladd, ↓w_iinc_3, ↓w_goto, ↓w_gf3, ↓w_gf0, ↓w_icge, ↓w_istore_4, ↓w_iload_4, ↓pm_cl2_3, ↓w_iinc_4, ↓w_lret])
        | (simp only [w_in])
        | (intro _))
      all_goals first | exact hQ | (clear hs1 hs2 hQ; grind)
theorem m_digest {y : Int32} {n N M R P O : Nat} (hd : 9 ≤ d) (hy : I 68 15 = y) (hn : I 68 23 = nI n) (hn40 : n ≤ 40) (hN : I 68 38 = nI N) (hN30 : N ≤ 30) (hM : I 68 67 = nI M) (hM60 : M ≤ 60) (hR : I 68 16 = nI R) (hR24 : R ≤ 24) (hP : I 68 47 = nI P) (hP60 : P ≤ 60) (hO : I 68 73 = nI O) (hO9 : O ≤ 9) (hcn : ∀ w, mcnV I n w = ccnV I n w) (hit : ∀ r, r < R → ∃ M, M ≤ 24 ∧ I 77 r = nI M) (hfe : ∀ m w, mfactV I m n w = factV I m n w) (hpr : ∀ p, p < 6 → I 88 p = I 20 (2 * p) ∧ I 89 p = I 20 (2 * p + 1)) (x90 : I 90 = I 21) (x91 : I 91 = I 22) (hrt : ∀ r, r < N → ∀ w, w < 7 → mrtV I r M (nI w) = rtV I r M (nI w)) (x75 : I 75 = I 32) (x76 : I 76 = I 33) (hf1 : (sfV I 1 0 0 y y R).1 = ifV I 16 y y R) (hf2 : ∀ l, l < 8 → (sfV I 2 (nI l) 0 y y R).1 = ifV I (17 + l) y y R) (hf3 : ∀ l, l < 8 → (sfV I 3 (nI l) 0 y y R).1 = ifV I (25 + l) y y R) (x100 : I 100 = I 38) (x101 : I 101 = I 39) (x102 : I 102 = I 40) (x103 : I 103 = I 41) (x113 : I 113 = I 56) (x114 : I 114 = I 57) (x115 : I 115 = I 58) (x116 : I 116 = I 59) (x117 : I 117 = I 61) (x118 : I 118 = I 62) (x70 : I 70 = I 4) (x73 : I 73 = I 7) (hs1 : ∀ r, r < 6 → I 4 r = -1 ∨ ∃ k, k ≤ 24 ∧ I 4 r = nI k ∧ ∀ i, i < k → I 71 (24 * r + i) = I 5 (24 * r + i)) (hs2 : ∀ r, r < 4 → I 7 r = -1 ∨ ∃ k, k ≤ 48 ∧ I 7 r = nI k ∧ ∀ i, i < k → I 74 (48 * r + i) = I 8 (48 * r + i)) (hQ : ∀ x1 x2 h, h = itr (smT I) (itr (smR I) (dgO (I 61) (I 62) O (dgS (I 56) (I 57) (I 58) (I 59) M (dgE (I 38) (I 39) (I 40) (I 41) P (dgU I y R (dgR I M N (dgP I (dgM I n (dgC I n 17)))))))) 6) 4 → Q (some (.long h)) SH (pm_up (pm_up I 68 21 x1) 68 22 x2) (pm_upL J 68 80 h)) : pm_C g d 294 [.ref 68] Q SH I J := by
  refine eX12_digest (by omega) ?_
  refine bX12_digest_0 ?_
  simp (disch := first | omega | decide) only [w_nl0, w_nli, w_nlr, ↓w_ts1, ↓w_ts0, w_rcv, w_rfv, w_cs, true_and, and_true, List.length_nil, List.length_cons, Nat.reduceAdd, Nat.reduceLeDiff, Nat.zero_le, Nat.reduceLT, ↓w_nil, ix_nI, nI_leP, nI_ltP, nI_eqP, nI_1, ↓i_inN, i_inN, l_le, l_lt, l_eq, r_le, r_lt, r_eq, sh68_0, sh68_1, sh68_2, sh68_3, sh68_4, ↓w_aload_0, ↓w_ldc2_20, ↓w_pf1, ↓w_iconst, ↓w_istore_1]
  refine pm_for (f := fun k (h : Int64) => 31 * h + (ccnV I n (nI k)).toInt64) (U := fun k (z : Int64) => UU g (d - 1) 294 kX12_digest (pm_rm d 294) Q 1 [some (.ref 68), some (.int (nI k)), none] [] SH I (pm_upL J 68 80 z) (0, 0)) (a := 17) 11 (fun k z hk hz w => ?_) ?_
  · have hk2 : (0 : Int32) ≤ nI k ∧ nI k ≤ 10 := nI_rng (N := 10) (by omega) (by decide)
    have hc2 := hcn (nI k)
    clear hz hQ hs1 hs2 hit hfe hpr hrt hf2 hf3 hcn
    refine bX12_digest_1 ?_
    simp (disch := first | omega | decide) only [w_nl0, w_nli, w_nlr, ↓w_ts1, ↓w_ts0, w_rcv, w_rfv, w_cs, true_and, and_true, List.length_nil, List.length_cons, Nat.reduceAdd, Nat.reduceLeDiff, Nat.zero_le, Nat.reduceLT, ↓w_nil, ix_nI, nI_leP, nI_ltP, nI_eqP, nI_1, ↓i_inN, i_inN, l_le, l_lt, l_eq, r_le, r_lt, r_eq, sh68_0, sh68_1, sh68_2, sh68_3, sh68_4, ↓w_iload_1, ↓w_bipush, ↓w_icge, ↓w_aload_0, ↓w_iv, ↓pm_cl2_2, ↓w_i2l, ↓w_iinc_1, ↓w_goto]
    repeat' (first
      | (apply And.intro)
      | (with_reducible refine m_counted (n := n) (by omega) hn hn40 hk2 ?_ ; simp (disch := first | omega | decide) only [w_nl0, w_nli, w_nlr, ↓w_ts1, ↓w_ts0, w_rcv, w_rfv, w_cs, true_and, and_true, List.length_nil, List.length_cons, Nat.reduceAdd, Nat.reduceLeDiff, Nat.zero_le, Nat.reduceLT, ↓w_nil, ix_nI, nI_leP, nI_ltP, nI_eqP, nI_1, ↓i_inN, i_inN, l_le, l_lt, l_eq, r_le, r_lt, r_eq, sh68_0, sh68_1, sh68_2, sh68_3, sh68_4, ↓w_aload_0, ↓w_ldc2_20, ↓w_pf1, ↓w_iconst, ↓w_istore_1, ↓w_iload_1, ↓w_bipush, ↓w_icge, ↓w_iv, ↓pm_cl2_2, ↓w_i2l, ↓w_iinc_1, ↓w_goto, ↓pm_cl2_1, ↓w_gf0, ↓w_gf3, ↓w_iaload, ↓w_baload, ↓w_ifeq, ↓w_lconst1, ↓w_lconst0, ↓w_istore_2, ↓w_iload_2, ↓pm_cl2_3, ↓w_iinc_2, ↓w_gf1, ↓w_lret, hc2])
      | (with_reducible refine m_tell (by omega) ?_ ; simp (disch := first | omega | decide) only [w_nl0, w_nli, w_nlr, ↓w_ts1, ↓w_ts0, w_rcv, w_rfv, w_cs, true_and, and_true, List.length_nil, List.length_cons, Nat.reduceAdd, Nat.reduceLeDiff, Nat.zero_le, Nat.reduceLT, ↓w_nil, ix_nI, nI_leP, nI_ltP, nI_eqP, nI_1, ↓i_inN, i_inN, l_le, l_lt, l_eq, r_le, r_lt, r_eq, sh68_0, sh68_1, sh68_2, sh68_3, sh68_4, ↓w_aload_0, ↓w_ldc2_20, ↓w_pf1, ↓w_iconst, ↓w_istore_1, ↓w_iload_1, ↓w_bipush, ↓w_icge, ↓w_iv, ↓pm_cl2_2, ↓w_i2l, ↓w_iinc_1, ↓w_goto, ↓pm_cl2_1, ↓w_gf0, ↓w_gf3, ↓w_iaload, ↓w_baload, ↓w_ifeq, ↓w_lconst1, ↓w_lconst0, ↓w_istore_2, ↓w_iload_2, ↓pm_cl2_3, ↓w_iinc_2, ↓w_gf1, ↓w_lret, hc2])
      | (simp only [w_in])
      | (intro _))
    all_goals grind
  · have e1 : itr (fun k (h : Int64) => 31 * h + (ccnV I n (nI k)).toInt64) 17 11 = dgC I n 17 := rfl
    rw [e1]
    clear e1 hcn
    generalize dgC I n 17 = h1 at hQ ⊢
    have key : ∀ x1 x2, UU g (d - 1) 294 kX12_digest (pm_rm d 294) Q 3 [some (.ref 68), some (.int (nI 0)), none] [] SH (pm_up (pm_up I 68 21 x1) 68 22 x2) (pm_upL J 68 80 (dgU I y R (dgR I M N (dgP I (dgM I n h1))))) (0, 0) := by
      intro x1 x2
      replace hQ := hQ x1 x2
      clear hit hfe hpr hrt hf1 hf2 hf3
      generalize dgU I y R (dgR I M N (dgP I (dgM I n h1))) = h2 at hQ ⊢
      refine pm_for (f := fun k h => 31 * (31 * (31 * (31 * h + (I 38 k).toInt64) + (I 39 k).toInt64) + (I 40 k).toInt64) + (if I 41 k = 0 then 0 else 1 : Int32).toInt64) (U := fun k (z : Int64) => UU g (d - 1) 294 kX12_digest (pm_rm d 294) Q 3 [some (.ref 68), some (.int (nI k)), none] [] SH (pm_up (pm_up I 68 21 x1) 68 22 x2) (pm_upL J 68 80 z) (0, 0)) (a := h2) P (fun k z hk hz w => ?_) ?_
      · clear hz hQ hs1 hs2
        by_cases h41 : I 41 k = 0
        · rw [if_pos h41] at w
          have t0 : (0 : Int32).toInt64 = 0 := rfl
          rw [t0] at w
          refine bX12_digest_3 ?_
          simp (disch := first | omega | decide) only [w_nl0, w_nli, w_nlr, ↓w_ts1, ↓w_ts0, w_rcv, w_rfv, w_cs, true_and, and_true, List.length_nil, List.length_cons, Nat.reduceAdd, Nat.reduceLeDiff, Nat.zero_le, Nat.reduceLT, ↓w_nil, ix_nI, nI_leP, nI_ltP, nI_eqP, nI_1, ↓i_inN, i_inN, l_le, l_lt, l_eq, r_le, r_lt, r_eq, sh68_0, sh68_1, sh68_2, sh68_3, sh68_4, ↓w_iload_1, ↓w_aload_0, ↓w_gf0, ↓w_icge, ↓w_gf3, ↓w_iaload, ↓w_i2l, ↓w_iv, ↓pm_cl2_2, ↓w_baload, ↓w_ifeq, ↓w_lconst1, ↓w_goto, hP, pm_up_o, pm_up_n]
          repeat' (first
            | (apply And.intro)
            | (with_reducible refine bX12_digest_4 ?_; simp (disch := first | omega | decide) only [w_nl0, w_nli, w_nlr, ↓w_ts1, ↓w_ts0, w_rcv, w_rfv, w_cs, true_and, and_true, List.length_nil, List.length_cons, Nat.reduceAdd, Nat.reduceLeDiff, Nat.zero_le, Nat.reduceLT, ↓w_nil, ix_nI, nI_leP, nI_ltP, nI_eqP, nI_1, ↓i_inN, i_inN, l_le, l_lt, l_eq, r_le, r_lt, r_eq, sh68_0, sh68_1, sh68_2, sh68_3, sh68_4, ↓w_aload_0, ↓w_ldc2_20, ↓w_pf1, ↓w_iconst, ↓w_istore_1, ↓w_iload_1, ↓w_bipush, ↓w_icge, ↓w_iv, ↓pm_cl2_2, ↓w_i2l, ↓w_iinc_1, ↓w_goto, ↓pm_cl2_1, ↓w_gf0, ↓w_gf3, ↓w_iaload, ↓w_baload, ↓w_ifeq, ↓w_lconst1, ↓w_lconst0, ↓w_istore_2, ↓w_iload_2, ↓pm_cl2_3, ↓w_iinc_2, ↓w_gf1, ↓w_lret, pm_up_o, pm_up_n, x100, x101, x102, x103])
            | (with_reducible refine bX12_digest_5 ?_; simp (disch := first | omega | decide) only [w_nl0, w_nli, w_nlr, ↓w_ts1, ↓w_ts0, w_rcv, w_rfv, w_cs, true_and, and_true, List.length_nil, List.length_cons, Nat.reduceAdd, Nat.reduceLeDiff, Nat.zero_le, Nat.reduceLT, ↓w_nil, ix_nI, nI_leP, nI_ltP, nI_eqP, nI_1, ↓i_inN, i_inN, l_le, l_lt, l_eq, r_le, r_lt, r_eq, sh68_0, sh68_1, sh68_2, sh68_3, sh68_4, ↓w_aload_0, ↓w_ldc2_20, ↓w_pf1, ↓w_iconst, ↓w_istore_1, ↓w_iload_1, ↓w_bipush, ↓w_icge, ↓w_iv, ↓pm_cl2_2, ↓w_i2l, ↓w_iinc_1, ↓w_goto, ↓pm_cl2_1, ↓w_gf0, ↓w_gf3, ↓w_iaload, ↓w_baload, ↓w_ifeq, ↓w_lconst1, ↓w_lconst0, ↓w_istore_2, ↓w_iload_2, ↓pm_cl2_3, ↓w_iinc_2, ↓w_gf1, ↓w_lret, pm_up_o, pm_up_n, x100, x101, x102, x103])
            | (with_reducible refine m_tell (by omega) ?_ ; simp (disch := first | omega | decide) only [w_nl0, w_nli, w_nlr, ↓w_ts1, ↓w_ts0, w_rcv, w_rfv, w_cs, true_and, and_true, List.length_nil, List.length_cons, Nat.reduceAdd, Nat.reduceLeDiff, Nat.zero_le, Nat.reduceLT, ↓w_nil, ix_nI, nI_leP, nI_ltP, nI_eqP, nI_1, ↓i_inN, i_inN, l_le, l_lt, l_eq, r_le, r_lt, r_eq, sh68_0, sh68_1, sh68_2, sh68_3, sh68_4, ↓w_aload_0, ↓w_ldc2_20, ↓w_pf1, ↓w_iconst, ↓w_istore_1, ↓w_iload_1, ↓w_bipush, ↓w_icge, ↓w_iv, ↓pm_cl2_2, ↓w_i2l, ↓w_iinc_1, ↓w_goto, ↓pm_cl2_1, ↓w_gf0, ↓w_gf3, ↓w_iaload, ↓w_baload, ↓w_ifeq, ↓w_lconst1, ↓w_lconst0, ↓w_istore_2, ↓w_iload_2, ↓pm_cl2_3, ↓w_iinc_2, ↓w_gf1, ↓w_lret, pm_up_o, pm_up_n, x100, x101, x102, x103])
            | (simp only [w_in])
            | (intro _))
          all_goals grind
        · rw [if_neg h41] at w
          have t0 : (1 : Int32).toInt64 = 1 := by decide
          rw [t0] at w
          refine bX12_digest_3 ?_
          simp (disch := first | omega | decide) only [w_nl0, w_nli, w_nlr, ↓w_ts1, ↓w_ts0, w_rcv, w_rfv, w_cs, true_and, and_true, List.length_nil, List.length_cons, Nat.reduceAdd, Nat.reduceLeDiff, Nat.zero_le, Nat.reduceLT, ↓w_nil, ix_nI, nI_leP, nI_ltP, nI_eqP, nI_1, ↓i_inN, i_inN, l_le, l_lt, l_eq, r_le, r_lt, r_eq, sh68_0, sh68_1, sh68_2, sh68_3, sh68_4, ↓w_iload_1, ↓w_aload_0, ↓w_gf0, ↓w_icge, ↓w_gf3, ↓w_iaload, ↓w_i2l, ↓w_iv, ↓pm_cl2_2, ↓w_baload, ↓w_ifeq, ↓w_lconst1, ↓w_goto, hP, pm_up_o, pm_up_n]
          repeat' (first
            | (apply And.intro)
            | (with_reducible refine bX12_digest_4 ?_; simp (disch := first | omega | decide) only [w_nl0, w_nli, w_nlr, ↓w_ts1, ↓w_ts0, w_rcv, w_rfv, w_cs, true_and, and_true, List.length_nil, List.length_cons, Nat.reduceAdd, Nat.reduceLeDiff, Nat.zero_le, Nat.reduceLT, ↓w_nil, ix_nI, nI_leP, nI_ltP, nI_eqP, nI_1, ↓i_inN, i_inN, l_le, l_lt, l_eq, r_le, r_lt, r_eq, sh68_0, sh68_1, sh68_2, sh68_3, sh68_4, ↓w_aload_0, ↓w_ldc2_20, ↓w_pf1, ↓w_iconst, ↓w_istore_1, ↓w_iload_1, ↓w_bipush, ↓w_icge, ↓w_iv, ↓pm_cl2_2, ↓w_i2l, ↓w_iinc_1, ↓w_goto, ↓pm_cl2_1, ↓w_gf0, ↓w_gf3, ↓w_iaload, ↓w_baload, ↓w_ifeq, ↓w_lconst1, ↓w_lconst0, ↓w_istore_2, ↓w_iload_2, ↓pm_cl2_3, ↓w_iinc_2, ↓w_gf1, ↓w_lret, pm_up_o, pm_up_n, x100, x101, x102, x103])
            | (with_reducible refine bX12_digest_5 ?_; simp (disch := first | omega | decide) only [w_nl0, w_nli, w_nlr, ↓w_ts1, ↓w_ts0, w_rcv, w_rfv, w_cs, true_and, and_true, List.length_nil, List.length_cons, Nat.reduceAdd, Nat.reduceLeDiff, Nat.zero_le, Nat.reduceLT, ↓w_nil, ix_nI, nI_leP, nI_ltP, nI_eqP, nI_1, ↓i_inN, i_inN, l_le, l_lt, l_eq, r_le, r_lt, r_eq, sh68_0, sh68_1, sh68_2, sh68_3, sh68_4, ↓w_aload_0, ↓w_ldc2_20, ↓w_pf1, ↓w_iconst, ↓w_istore_1, ↓w_iload_1, ↓w_bipush, ↓w_icge, ↓w_iv, ↓pm_cl2_2, ↓w_i2l, ↓w_iinc_1, ↓w_goto, ↓pm_cl2_1, ↓w_gf0, ↓w_gf3, ↓w_iaload, ↓w_baload, ↓w_ifeq, ↓w_lconst1, ↓w_lconst0, ↓w_istore_2, ↓w_iload_2, ↓pm_cl2_3, ↓w_iinc_2, ↓w_gf1, ↓w_lret, pm_up_o, pm_up_n, x100, x101, x102, x103])
            | (with_reducible refine m_tell (by omega) ?_ ; simp (disch := first | omega | decide) only [w_nl0, w_nli, w_nlr, ↓w_ts1, ↓w_ts0, w_rcv, w_rfv, w_cs, true_and, and_true, List.length_nil, List.length_cons, Nat.reduceAdd, Nat.reduceLeDiff, Nat.zero_le, Nat.reduceLT, ↓w_nil, ix_nI, nI_leP, nI_ltP, nI_eqP, nI_1, ↓i_inN, i_inN, l_le, l_lt, l_eq, r_le, r_lt, r_eq, sh68_0, sh68_1, sh68_2, sh68_3, sh68_4, ↓w_aload_0, ↓w_ldc2_20, ↓w_pf1, ↓w_iconst, ↓w_istore_1, ↓w_iload_1, ↓w_bipush, ↓w_icge, ↓w_iv, ↓pm_cl2_2, ↓w_i2l, ↓w_iinc_1, ↓w_goto, ↓pm_cl2_1, ↓w_gf0, ↓w_gf3, ↓w_iaload, ↓w_baload, ↓w_ifeq, ↓w_lconst1, ↓w_lconst0, ↓w_istore_2, ↓w_iload_2, ↓pm_cl2_3, ↓w_iinc_2, ↓w_gf1, ↓w_lret, pm_up_o, pm_up_n, x100, x101, x102, x103])
            | (simp only [w_in])
            | (intro _))
          all_goals grind
      · have e3 : itr (fun k h => 31 * (31 * (31 * (31 * h + (I 38 k).toInt64) + (I 39 k).toInt64) + (I 40 k).toInt64) + (if I 41 k = 0 then 0 else 1 : Int32).toInt64) h2 P = dgE (I 38) (I 39) (I 40) (I 41) P h2 := rfl
        rw [e3]
        clear e3
        generalize dgE (I 38) (I 39) (I 40) (I 41) P h2 = h3 at hQ ⊢
        refine bX12_digest_3 ?_
        simp (disch := first | omega | decide) only [w_nl0, w_nli, w_nlr, ↓w_ts1, ↓w_ts0, w_rcv, w_rfv, w_cs, true_and, and_true, List.length_nil, List.length_cons, Nat.reduceAdd, Nat.reduceLeDiff, Nat.zero_le, Nat.reduceLT, ↓w_nil, ix_nI, nI_leP, nI_ltP, nI_eqP, nI_1, ↓i_inN, i_inN, l_le, l_lt, l_eq, r_le, r_lt, r_eq, sh68_0, sh68_1, sh68_2, sh68_3, sh68_4, ↓w_iload_1, ↓w_aload_0, ↓w_gf0, ↓w_icge, ↓w_gf3, ↓w_iaload, ↓w_i2l, ↓w_iv, ↓pm_cl2_2, ↓w_baload, ↓w_ifeq, ↓w_lconst1, ↓w_goto, hP, pm_up_o, pm_up_n]
        repeat' (first
          | (apply And.intro)
          | (with_reducible refine bX12_digest_6 ?_; simp (disch := first | omega | decide) only [w_nl0, w_nli, w_nlr, ↓w_ts1, ↓w_ts0, w_rcv, w_rfv, w_cs, true_and, and_true, List.length_nil, List.length_cons, Nat.reduceAdd, Nat.reduceLeDiff, Nat.zero_le, Nat.reduceLT, ↓w_nil, ix_nI, nI_leP, nI_ltP, nI_eqP, nI_1, ↓i_inN, i_inN, l_le, l_lt, l_eq, r_le, r_lt, r_eq, sh68_0, sh68_1, sh68_2, sh68_3, sh68_4, ↓w_aload_0, ↓w_ldc2_20, ↓w_pf1, ↓w_iconst, ↓w_istore_1, ↓w_iload_1, ↓w_bipush, ↓w_icge, ↓w_iv, ↓pm_cl2_2, ↓w_i2l, ↓w_iinc_1, ↓w_goto, ↓pm_cl2_1, ↓w_gf0, ↓w_gf3, ↓w_iaload, ↓w_baload, ↓w_ifeq, ↓w_lconst1, ↓w_lconst0, ↓w_istore_2, ↓w_iload_2, ↓pm_cl2_3, ↓w_iinc_2, ↓w_gf1, ↓w_lret])
          | (simp only [w_in])
          | (intro _))
        all_goals try (clear hQ hs1 hs2; grind)
        refine pm_for (f := fun k h => 31 * (31 * (31 * (31 * h + (I 56 k).toInt64) + (I 57 k).toInt64) + (I 58 k).toInt64) + (I 59 k).toInt64) (U := fun k (z : Int64) => UU g (d - 1) 294 kX12_digest (pm_rm d 294) Q 7 [some (.ref 68), some (.int (nI k)), none] [] SH (pm_up (pm_up I 68 21 x1) 68 22 x2) (pm_upL J 68 80 z) (0, 0)) (a := h3) M (fun k z hk hz w => ?_) ?_
        · clear hz hQ hs1 hs2
          refine bX12_digest_7 ?_
          simp (disch := first | omega | decide) only [w_nl0, w_nli, w_nlr, ↓w_ts1, ↓w_ts0, w_rcv, w_rfv, w_cs, true_and, and_true, List.length_nil, List.length_cons, Nat.reduceAdd, Nat.reduceLeDiff, Nat.zero_le, Nat.reduceLT, ↓w_nil, ix_nI, nI_leP, nI_ltP, nI_eqP, nI_1, ↓i_inN, i_inN, l_le, l_lt, l_eq, r_le, r_lt, r_eq, sh68_0, sh68_1, sh68_2, sh68_3, sh68_4, ↓w_iload_1, ↓w_aload_0, ↓w_gf0, ↓w_icge, ↓w_gf3, ↓w_iaload, ↓w_i2l, ↓w_iv, ↓pm_cl2_2, ↓w_iinc_1, ↓w_goto, hM, pm_up_o, pm_up_n]
          repeat' (first
            | (apply And.intro)
            | (with_reducible refine m_tell (by omega) ?_ ; simp (disch := first | omega | decide) only [w_nl0, w_nli, w_nlr, ↓w_ts1, ↓w_ts0, w_rcv, w_rfv, w_cs, true_and, and_true, List.length_nil, List.length_cons, Nat.reduceAdd, Nat.reduceLeDiff, Nat.zero_le, Nat.reduceLT, ↓w_nil, ix_nI, nI_leP, nI_ltP, nI_eqP, nI_1, ↓i_inN, i_inN, l_le, l_lt, l_eq, r_le, r_lt, r_eq, sh68_0, sh68_1, sh68_2, sh68_3, sh68_4, ↓w_aload_0, ↓w_ldc2_20, ↓w_pf1, ↓w_iconst, ↓w_istore_1, ↓w_iload_1, ↓w_bipush, ↓w_icge, ↓w_iv, ↓pm_cl2_2, ↓w_i2l, ↓w_iinc_1, ↓w_goto, ↓pm_cl2_1, ↓w_gf0, ↓w_gf3, ↓w_iaload, ↓w_baload, ↓w_ifeq, ↓w_lconst1, ↓w_lconst0, ↓w_istore_2, ↓w_iload_2, ↓pm_cl2_3, ↓w_iinc_2, ↓w_gf1, ↓w_lret, pm_up_o, pm_up_n, x113, x114, x115, x116])
            | (simp only [w_in])
            | (intro _))
          all_goals grind
        · have e4 : itr (fun k h => 31 * (31 * (31 * (31 * h + (I 56 k).toInt64) + (I 57 k).toInt64) + (I 58 k).toInt64) + (I 59 k).toInt64) h3 M = dgS (I 56) (I 57) (I 58) (I 59) M h3 := rfl
          rw [e4]
          clear e4
          generalize dgS (I 56) (I 57) (I 58) (I 59) M h3 = h4 at hQ ⊢
          refine bX12_digest_7 ?_
          simp (disch := first | omega | decide) only [w_nl0, w_nli, w_nlr, ↓w_ts1, ↓w_ts0, w_rcv, w_rfv, w_cs, true_and, and_true, List.length_nil, List.length_cons, Nat.reduceAdd, Nat.reduceLeDiff, Nat.zero_le, Nat.reduceLT, ↓w_nil, ix_nI, nI_leP, nI_ltP, nI_eqP, nI_1, ↓i_inN, i_inN, l_le, l_lt, l_eq, r_le, r_lt, r_eq, sh68_0, sh68_1, sh68_2, sh68_3, sh68_4, ↓w_iload_1, ↓w_aload_0, ↓w_gf0, ↓w_icge, ↓w_gf3, ↓w_iaload, ↓w_i2l, ↓w_iv, ↓pm_cl2_2, ↓w_iinc_1, ↓w_goto, hM, pm_up_o, pm_up_n]
          repeat' (first
            | (apply And.intro)
            | (with_reducible refine bX12_digest_8 ?_; simp (disch := first | omega | decide) only [w_nl0, w_nli, w_nlr, ↓w_ts1, ↓w_ts0, w_rcv, w_rfv, w_cs, true_and, and_true, List.length_nil, List.length_cons, Nat.reduceAdd, Nat.reduceLeDiff, Nat.zero_le, Nat.reduceLT, ↓w_nil, ix_nI, nI_leP, nI_ltP, nI_eqP, nI_1, ↓i_inN, i_inN, l_le, l_lt, l_eq, r_le, r_lt, r_eq, sh68_0, sh68_1, sh68_2, sh68_3, sh68_4, ↓w_aload_0, ↓w_ldc2_20, ↓w_pf1, ↓w_iconst, ↓w_istore_1, ↓w_iload_1, ↓w_bipush, ↓w_icge, ↓w_iv, ↓pm_cl2_2, ↓w_i2l, ↓w_iinc_1, ↓w_goto, ↓pm_cl2_1, ↓w_gf0, ↓w_gf3, ↓w_iaload, ↓w_baload, ↓w_ifeq, ↓w_lconst1, ↓w_lconst0, ↓w_istore_2, ↓w_iload_2, ↓pm_cl2_3, ↓w_iinc_2, ↓w_gf1, ↓w_lret])
            | (simp only [w_in])
            | (intro _))
          all_goals try (clear hQ hs1 hs2; grind)
          refine pm_for (f := fun k h => 31 * (31 * h + (I 61 k).toInt64) + (I 62 k).toInt64) (U := fun k (z : Int64) => UU g (d - 1) 294 kX12_digest (pm_rm d 294) Q 9 [some (.ref 68), some (.int (nI k)), none] [] SH (pm_up (pm_up I 68 21 x1) 68 22 x2) (pm_upL J 68 80 z) (0, 0)) (a := h4) O (fun k z hk hz w => ?_) ?_
          · clear hz hQ hs1 hs2
            refine bX12_digest_9 ?_
            simp (disch := first | omega | decide) only [w_nl0, w_nli, w_nlr, ↓w_ts1, ↓w_ts0, w_rcv, w_rfv, w_cs, true_and, and_true, List.length_nil, List.length_cons, Nat.reduceAdd, Nat.reduceLeDiff, Nat.zero_le, Nat.reduceLT, ↓w_nil, ix_nI, nI_leP, nI_ltP, nI_eqP, nI_1, ↓i_inN, i_inN, l_le, l_lt, l_eq, r_le, r_lt, r_eq, sh68_0, sh68_1, sh68_2, sh68_3, sh68_4, ↓w_iload_1, ↓w_aload_0, ↓w_gf0, ↓w_icge, ↓w_gf3, ↓w_iaload, ↓w_i2l, ↓w_iv, ↓pm_cl2_2, ↓w_iinc_1, ↓w_goto, hO, pm_up_o, pm_up_n]
            repeat' (first
              | (apply And.intro)
              | (with_reducible refine m_tell (by omega) ?_ ; simp (disch := first | omega | decide) only [w_nl0, w_nli, w_nlr, ↓w_ts1, ↓w_ts0, w_rcv, w_rfv, w_cs, true_and, and_true, List.length_nil, List.length_cons, Nat.reduceAdd, Nat.reduceLeDiff, Nat.zero_le, Nat.reduceLT, ↓w_nil, ix_nI, nI_leP, nI_ltP, nI_eqP, nI_1, ↓i_inN, i_inN, l_le, l_lt, l_eq, r_le, r_lt, r_eq, sh68_0, sh68_1, sh68_2, sh68_3, sh68_4, ↓w_aload_0, ↓w_ldc2_20, ↓w_pf1, ↓w_iconst, ↓w_istore_1, ↓w_iload_1, ↓w_bipush, ↓w_icge, ↓w_iv, ↓pm_cl2_2, ↓w_i2l, ↓w_iinc_1, ↓w_goto, ↓pm_cl2_1, ↓w_gf0, ↓w_gf3, ↓w_iaload, ↓w_baload, ↓w_ifeq, ↓w_lconst1, ↓w_lconst0, ↓w_istore_2, ↓w_iload_2, ↓pm_cl2_3, ↓w_iinc_2, ↓w_gf1, ↓w_lret, pm_up_o, pm_up_n, x117, x118])
              | (simp only [w_in])
              | (intro _))
            all_goals grind
          · have e5 : itr (fun k h => 31 * (31 * h + (I 61 k).toInt64) + (I 62 k).toInt64) h4 O = dgO (I 61) (I 62) O h4 := rfl
            rw [e5]
            clear e5
            generalize dgO (I 61) (I 62) O h4 = h5 at hQ ⊢
            refine bX12_digest_9 ?_
            simp (disch := first | omega | decide) only [w_nl0, w_nli, w_nlr, ↓w_ts1, ↓w_ts0, w_rcv, w_rfv, w_cs, true_and, and_true, List.length_nil, List.length_cons, Nat.reduceAdd, Nat.reduceLeDiff, Nat.zero_le, Nat.reduceLT, ↓w_nil, ix_nI, nI_leP, nI_ltP, nI_eqP, nI_1, ↓i_inN, i_inN, l_le, l_lt, l_eq, r_le, r_lt, r_eq, sh68_0, sh68_1, sh68_2, sh68_3, sh68_4, ↓w_iload_1, ↓w_aload_0, ↓w_gf0, ↓w_icge, ↓w_gf3, ↓w_iaload, ↓w_i2l, ↓w_iv, ↓pm_cl2_2, ↓w_iinc_1, ↓w_goto, hO, pm_up_o, pm_up_n]
            repeat' (first
              | (apply And.intro)
              | (with_reducible refine bX12_digest_10 ?_; simp (disch := first | omega | decide) only [w_nl0, w_nli, w_nlr, ↓w_ts1, ↓w_ts0, w_rcv, w_rfv, w_cs, true_and, and_true, List.length_nil, List.length_cons, Nat.reduceAdd, Nat.reduceLeDiff, Nat.zero_le, Nat.reduceLT, ↓w_nil, ix_nI, nI_leP, nI_ltP, nI_eqP, nI_1, ↓i_inN, i_inN, l_le, l_lt, l_eq, r_le, r_lt, r_eq, sh68_0, sh68_1, sh68_2, sh68_3, sh68_4, ↓w_aload_0, ↓w_ldc2_20, ↓w_pf1, ↓w_iconst, ↓w_istore_1, ↓w_iload_1, ↓w_bipush, ↓w_icge, ↓w_iv, ↓pm_cl2_2, ↓w_i2l, ↓w_iinc_1, ↓w_goto, ↓pm_cl2_1, ↓w_gf0, ↓w_gf3, ↓w_iaload, ↓w_baload, ↓w_ifeq, ↓w_lconst1, ↓w_lconst0, ↓w_istore_2, ↓w_iload_2, ↓pm_cl2_3, ↓w_iinc_2, ↓w_gf1, ↓w_lret])
              | (simp only [w_in])
              | (intro _))
            all_goals try (clear hQ hs1 hs2; grind)
            refine pm_for (f := smR I) (U := fun k (z : Int64) => UU g (d - 1) 294 kX12_digest (pm_rm d 294) Q 11 [some (.ref 68), some (.int (nI k)), none] [] SH (pm_up (pm_up I 68 21 x1) 68 22 x2) (pm_upL J 68 80 z) (0, 0)) (a := h5) 6 (fun r z hr hz w => ?_) ?_
            · replace w : ∀ x, UU g (d - 1) 294 kX12_digest (pm_rm d 294) Q 11 [some (.ref 68), some (.int (nI (r + 1))), x] [] SH (pm_up (pm_up I 68 21 x1) 68 22 x2) (pm_upL J 68 80 (smR I r z)) (0, 0) := fun x => u_less _ (by simp [pm_le]) w
              clear hz hQ hs2
              rcases hs1 r hr with e | ⟨k, hk, e, hi⟩
              · have e0 : smR I r z = 31 * z + (-1 : Int32).toInt64 := by
                  unfold smR
                  rw [e]
                  rfl
                rw [e0] at w
                clear hs1 e0
                refine bX12_digest_11 ?_
                simp (disch := first | omega | decide) only [w_nl0, w_nli, w_nlr, ↓w_ts1, ↓w_ts0, w_rcv, w_rfv, w_cs, true_and, and_true, List.length_nil, List.length_cons, Nat.reduceAdd, Nat.reduceLeDiff, Nat.zero_le, Nat.reduceLT, ↓w_nil, ix_nI, nI_leP, nI_ltP, nI_eqP, nI_1, ↓i_inN, i_inN, l_le, l_lt, l_eq, r_le, r_lt, r_eq, sh68_0, sh68_1, sh68_2, sh68_3, sh68_4, ↓w_iload_1, ↓w_bipush, ↓w_icge, ↓w_aload_0, ↓w_gf3, ↓w_iaload, ↓w_i2l, ↓w_iv, ↓pm_cl2_2, ↓w_iconst, ↓w_istore_2, pm_up_o, pm_up_n, x70, e]
                repeat' (first
                  | (apply And.intro)
                  | (with_reducible refine m_tell (by omega) ?_ ; simp (disch := first | omega | decide) only [w_nl0, w_nli, w_nlr, ↓w_ts1, ↓w_ts0, w_rcv, w_rfv, w_cs, true_and, and_true, List.length_nil, List.length_cons, Nat.reduceAdd, Nat.reduceLeDiff, Nat.zero_le, Nat.reduceLT, ↓w_nil, ix_nI, nI_leP, nI_ltP, nI_eqP, nI_1, ↓i_inN, i_inN, l_le, l_lt, l_eq, r_le, r_lt, r_eq, sh68_0, sh68_1, sh68_2, sh68_3, sh68_4, ↓w_aload_0, ↓w_ldc2_20, ↓w_pf1, ↓w_iconst, ↓w_istore_1, ↓w_iload_1, ↓w_bipush, ↓w_icge, ↓w_iv, ↓pm_cl2_2, ↓w_i2l, ↓w_iinc_1, ↓w_goto, ↓pm_cl2_1, ↓w_gf0, ↓w_gf3, ↓w_iaload, ↓w_baload, ↓w_ifeq, ↓w_lconst1, ↓w_lconst0, ↓w_istore_2, ↓w_iload_2, ↓pm_cl2_3, ↓w_iinc_2, ↓w_gf1, ↓w_lret, pm_up_o, pm_up_n, x70, e])
                  | (simp only [w_in])
                  | (intro _))
                all_goals try grind
                all_goals
                  refine bX12_digest_12 ?_
                  simp (disch := first | omega | decide) only [w_nl0, w_nli, w_nlr, ↓w_ts1, ↓w_ts0, w_rcv, w_rfv, w_cs, true_and, and_true, List.length_nil, List.length_cons, Nat.reduceAdd, Nat.reduceLeDiff, Nat.zero_le, Nat.reduceLT, ↓w_nil, ix_nI, nI_leP, nI_ltP, nI_eqP, nI_1, ↓i_inN, i_inN, l_le, l_lt, l_eq, r_le, r_lt, r_eq, sh68_0, sh68_1, sh68_2, sh68_3, sh68_4, ↓w_iload_2, ↓w_aload_0, ↓w_gf3, ↓w_iload_1, ↓w_iaload, ↓w_icge, ↓w_iv, ↓pm_cl2_3, ↓w_i2l, ↓pm_cl2_2, ↓w_iinc_2, ↓w_goto, pm_up_o, pm_up_n, x70, e]
                  repeat' (first
                    | (apply And.intro)
                    | (with_reducible refine bX12_digest_13 ?_; simp (disch := first | omega | decide) only [w_nl0, w_nli, w_nlr, ↓w_ts1, ↓w_ts0, w_rcv, w_rfv, w_cs, true_and, and_true, List.length_nil, List.length_cons, Nat.reduceAdd, Nat.reduceLeDiff, Nat.zero_le, Nat.reduceLT, ↓w_nil, ix_nI, nI_leP, nI_ltP, nI_eqP, nI_1, ↓i_inN, i_inN, l_le, l_lt, l_eq, r_le, r_lt, r_eq, sh68_0, sh68_1, sh68_2, sh68_3, sh68_4, ↓w_aload_0, ↓w_ldc2_20, ↓w_pf1, ↓w_iconst, ↓w_istore_1, ↓w_iload_1, ↓w_bipush, ↓w_icge, ↓w_iv, ↓pm_cl2_2, ↓w_i2l, ↓w_iinc_1, ↓w_goto, ↓pm_cl2_1, ↓w_gf0, ↓w_gf3, ↓w_iaload, ↓w_baload, ↓w_ifeq, ↓w_lconst1, ↓w_lconst0, ↓w_istore_2, ↓w_iload_2, ↓pm_cl2_3, ↓w_iinc_2, ↓w_gf1, ↓w_lret, pm_up_o, pm_up_n, x70, e])
                    | (simp only [w_in])
                    | (intro _))
                  all_goals grind
              · have e0 : smR I r z = itr (fun i h => 31 * h + (I 5 (24 * r + i)).toInt64) (31 * z + (nI k).toInt64) k := by
                  unfold smR
                  rw [e, ix_nI (by omega)]
                rw [e0] at w
                clear hs1 e0
                refine bX12_digest_11 ?_
                simp (disch := first | omega | decide) only [w_nl0, w_nli, w_nlr, ↓w_ts1, ↓w_ts0, w_rcv, w_rfv, w_cs, true_and, and_true, List.length_nil, List.length_cons, Nat.reduceAdd, Nat.reduceLeDiff, Nat.zero_le, Nat.reduceLT, ↓w_nil, ix_nI, nI_leP, nI_ltP, nI_eqP, nI_1, ↓i_inN, i_inN, l_le, l_lt, l_eq, r_le, r_lt, r_eq, sh68_0, sh68_1, sh68_2, sh68_3, sh68_4, ↓w_iload_1, ↓w_bipush, ↓w_icge, ↓w_aload_0, ↓w_gf3, ↓w_iaload, ↓w_i2l, ↓w_iv, ↓pm_cl2_2, ↓w_iconst, ↓w_istore_2, pm_up_o, pm_up_n, x70, e]
                repeat' (first
                  | (apply And.intro)
                  | (with_reducible refine m_tell (by omega) ?_ ; simp (disch := first | omega | decide) only [w_nl0, w_nli, w_nlr, ↓w_ts1, ↓w_ts0, w_rcv, w_rfv, w_cs, true_and, and_true, List.length_nil, List.length_cons, Nat.reduceAdd, Nat.reduceLeDiff, Nat.zero_le, Nat.reduceLT, ↓w_nil, ix_nI, nI_leP, nI_ltP, nI_eqP, nI_1, ↓i_inN, i_inN, l_le, l_lt, l_eq, r_le, r_lt, r_eq, sh68_0, sh68_1, sh68_2, sh68_3, sh68_4, ↓w_aload_0, ↓w_ldc2_20, ↓w_pf1, ↓w_iconst, ↓w_istore_1, ↓w_iload_1, ↓w_bipush, ↓w_icge, ↓w_iv, ↓pm_cl2_2, ↓w_i2l, ↓w_iinc_1, ↓w_goto, ↓pm_cl2_1, ↓w_gf0, ↓w_gf3, ↓w_iaload, ↓w_baload, ↓w_ifeq, ↓w_lconst1, ↓w_lconst0, ↓w_istore_2, ↓w_iload_2, ↓pm_cl2_3, ↓w_iinc_2, ↓w_gf1, ↓w_lret, pm_up_o, pm_up_n, x70, e])
                  | (simp only [w_in])
                  | (intro _))
                all_goals try (clear hi; grind)
                refine pm_for (f := fun i (h : Int64) => 31 * h + (I 5 (24 * r + i)).toInt64) (U := fun i (v : Int64) => UU g (d - 1) 294 kX12_digest (pm_rm d 294) Q 12 [some (.ref 68), some (.int (nI r)), some (.int (nI i))] [] SH (pm_up (pm_up I 68 21 x1) 68 22 x2) (pm_upL J 68 80 v) (0, 0)) (a := 31 * z + (nI k).toInt64) k (fun i v hik hv w2 => ?_) ?_
                · have hi2 := hi i hik
                  clear hv w hi
                  refine bX12_digest_12 ?_
                  simp (disch := first | omega | decide) only [w_nl0, w_nli, w_nlr, ↓w_ts1, ↓w_ts0, w_rcv, w_rfv, w_cs, true_and, and_true, List.length_nil, List.length_cons, Nat.reduceAdd, Nat.reduceLeDiff, Nat.zero_le, Nat.reduceLT, ↓w_nil, ix_nI, nI_leP, nI_ltP, nI_eqP, nI_1, ↓i_inN, i_inN, l_le, l_lt, l_eq, r_le, r_lt, r_eq, sh68_0, sh68_1, sh68_2, sh68_3, sh68_4, ↓w_iload_2, ↓w_aload_0, ↓w_gf3, ↓w_iload_1, ↓w_iaload, ↓w_icge, ↓w_iv, ↓pm_cl2_3, ↓w_i2l, ↓pm_cl2_2, ↓w_iinc_2, ↓w_goto, pm_up_o, pm_up_n, x70, e]
                  repeat' (first
                    | (apply And.intro)
                    | (with_reducible refine m_at (by omega) (by omega) ?_ ; simp (disch := first | omega | decide) only [w_nl0, w_nli, w_nlr, ↓w_ts1, ↓w_ts0, w_rcv, w_rfv, w_cs, true_and, and_true, List.length_nil, List.length_cons, Nat.reduceAdd, Nat.reduceLeDiff, Nat.zero_le, Nat.reduceLT, ↓w_nil, ix_nI, nI_leP, nI_ltP, nI_eqP, nI_1, ↓i_inN, i_inN, l_le, l_lt, l_eq, r_le, r_lt, r_eq, sh68_0, sh68_1, sh68_2, sh68_3, sh68_4, ↓w_aload_0, ↓w_ldc2_20, ↓w_pf1, ↓w_iconst, ↓w_istore_1, ↓w_iload_1, ↓w_bipush, ↓w_icge, ↓w_iv, ↓pm_cl2_2, ↓w_i2l, ↓w_iinc_1, ↓w_goto, ↓pm_cl2_1, ↓w_gf0, ↓w_gf3, ↓w_iaload, ↓w_baload, ↓w_ifeq, ↓w_lconst1, ↓w_lconst0, ↓w_istore_2, ↓w_iload_2, ↓pm_cl2_3, ↓w_iinc_2, ↓w_gf1, ↓w_lret, pm_up_o, pm_up_n, x70, e, hi2])
                    | (with_reducible refine m_tell (by omega) ?_ ; simp (disch := first | omega | decide) only [w_nl0, w_nli, w_nlr, ↓w_ts1, ↓w_ts0, w_rcv, w_rfv, w_cs, true_and, and_true, List.length_nil, List.length_cons, Nat.reduceAdd, Nat.reduceLeDiff, Nat.zero_le, Nat.reduceLT, ↓w_nil, ix_nI, nI_leP, nI_ltP, nI_eqP, nI_1, ↓i_inN, i_inN, l_le, l_lt, l_eq, r_le, r_lt, r_eq, sh68_0, sh68_1, sh68_2, sh68_3, sh68_4, ↓w_aload_0, ↓w_ldc2_20, ↓w_pf1, ↓w_iconst, ↓w_istore_1, ↓w_iload_1, ↓w_bipush, ↓w_icge, ↓w_iv, ↓pm_cl2_2, ↓w_i2l, ↓w_iinc_1, ↓w_goto, ↓pm_cl2_1, ↓w_gf0, ↓w_gf3, ↓w_iaload, ↓w_baload, ↓w_ifeq, ↓w_lconst1, ↓w_lconst0, ↓w_istore_2, ↓w_iload_2, ↓pm_cl2_3, ↓w_iinc_2, ↓w_gf1, ↓w_lret, pm_up_o, pm_up_n, x70, e, hi2])
                    | (simp only [w_in])
                    | (intro _))
                  all_goals grind
                · clear hi
                  refine bX12_digest_12 ?_
                  simp (disch := first | omega | decide) only [w_nl0, w_nli, w_nlr, ↓w_ts1, ↓w_ts0, w_rcv, w_rfv, w_cs, true_and, and_true, List.length_nil, List.length_cons, Nat.reduceAdd, Nat.reduceLeDiff, Nat.zero_le, Nat.reduceLT, ↓w_nil, ix_nI, nI_leP, nI_ltP, nI_eqP, nI_1, ↓i_inN, i_inN, l_le, l_lt, l_eq, r_le, r_lt, r_eq, sh68_0, sh68_1, sh68_2, sh68_3, sh68_4, ↓w_iload_2, ↓w_aload_0, ↓w_gf3, ↓w_iload_1, ↓w_iaload, ↓w_icge, ↓w_iv, ↓pm_cl2_3, ↓w_i2l, ↓pm_cl2_2, ↓w_iinc_2, ↓w_goto, pm_up_o, pm_up_n, x70, e]
                  repeat' (first
                    | (apply And.intro)
                    | (with_reducible refine bX12_digest_13 ?_; simp (disch := first | omega | decide) only [w_nl0, w_nli, w_nlr, ↓w_ts1, ↓w_ts0, w_rcv, w_rfv, w_cs, true_and, and_true, List.length_nil, List.length_cons, Nat.reduceAdd, Nat.reduceLeDiff, Nat.zero_le, Nat.reduceLT, ↓w_nil, ix_nI, nI_leP, nI_ltP, nI_eqP, nI_1, ↓i_inN, i_inN, l_le, l_lt, l_eq, r_le, r_lt, r_eq, sh68_0, sh68_1, sh68_2, sh68_3, sh68_4, ↓w_aload_0, ↓w_ldc2_20, ↓w_pf1, ↓w_iconst, ↓w_istore_1, ↓w_iload_1, ↓w_bipush, ↓w_icge, ↓w_iv, ↓pm_cl2_2, ↓w_i2l, ↓w_iinc_1, ↓w_goto, ↓pm_cl2_1, ↓w_gf0, ↓w_gf3, ↓w_iaload, ↓w_baload, ↓w_ifeq, ↓w_lconst1, ↓w_lconst0, ↓w_istore_2, ↓w_iload_2, ↓pm_cl2_3, ↓w_iinc_2, ↓w_gf1, ↓w_lret])
                    | (simp only [w_in])
                    | (intro _))
                  all_goals first | exact w _ | grind
            · generalize itr (smR I) h5 6 = h6 at hQ ⊢
              clear hs1
              refine bX12_digest_11 ?_
              simp (disch := first | omega | decide) only [w_nl0, w_nli, w_nlr, ↓w_ts1, ↓w_ts0, w_rcv, w_rfv, w_cs, true_and, and_true, List.length_nil, List.length_cons, Nat.reduceAdd, Nat.reduceLeDiff, Nat.zero_le, Nat.reduceLT, ↓w_nil, ix_nI, nI_leP, nI_ltP, nI_eqP, nI_1, ↓i_inN, i_inN, l_le, l_lt, l_eq, r_le, r_lt, r_eq, sh68_0, sh68_1, sh68_2, sh68_3, sh68_4, ↓w_iload_1, ↓w_bipush, ↓w_icge, ↓w_aload_0, ↓w_gf3, ↓w_iaload, ↓w_i2l, ↓w_iv, ↓pm_cl2_2, ↓w_iconst, ↓w_istore_2, pm_up_o, pm_up_n]
              repeat' (first
                | (apply And.intro)
                | (with_reducible refine bX12_digest_14 ?_; simp (disch := first | omega | decide) only [w_nl0, w_nli, w_nlr, ↓w_ts1, ↓w_ts0, w_rcv, w_rfv, w_cs, true_and, and_true, List.length_nil, List.length_cons, Nat.reduceAdd, Nat.reduceLeDiff, Nat.zero_le, Nat.reduceLT, ↓w_nil, ix_nI, nI_leP, nI_ltP, nI_eqP, nI_1, ↓i_inN, i_inN, l_le, l_lt, l_eq, r_le, r_lt, r_eq, sh68_0, sh68_1, sh68_2, sh68_3, sh68_4, ↓w_aload_0, ↓w_ldc2_20, ↓w_pf1, ↓w_iconst, ↓w_istore_1, ↓w_iload_1, ↓w_bipush, ↓w_icge, ↓w_iv, ↓pm_cl2_2, ↓w_i2l, ↓w_iinc_1, ↓w_goto, ↓pm_cl2_1, ↓w_gf0, ↓w_gf3, ↓w_iaload, ↓w_baload, ↓w_ifeq, ↓w_lconst1, ↓w_lconst0, ↓w_istore_2, ↓w_iload_2, ↓pm_cl2_3, ↓w_iinc_2, ↓w_gf1, ↓w_lret])
                | (simp only [w_in])
                | (intro _))
              all_goals try (clear hQ hs2; grind)
              refine pm_for (f := smT I) (U := fun k (z : Int64) => UU g (d - 1) 294 kX12_digest (pm_rm d 294) Q 15 [some (.ref 68), some (.int (nI k)), none] [] SH (pm_up (pm_up I 68 21 x1) 68 22 x2) (pm_upL J 68 80 z) (0, 0)) (a := h6) 4 (fun r z hr hz w => ?_) ?_
              · replace w : ∀ x, UU g (d - 1) 294 kX12_digest (pm_rm d 294) Q 15 [some (.ref 68), some (.int (nI (r + 1))), x] [] SH (pm_up (pm_up I 68 21 x1) 68 22 x2) (pm_upL J 68 80 (smT I r z)) (0, 0) := fun x => u_less _ (by simp [pm_le]) w
                clear hz hQ
                rcases hs2 r hr with e | ⟨k, hk, e, hi⟩
                · have e0 : smT I r z = 31 * z + (-1 : Int32).toInt64 := by
                    unfold smT
                    rw [e]
                    rfl
                  rw [e0] at w
                  clear hs2 e0
                  refine bX12_digest_15 ?_
                  simp (disch := first | omega | decide) only [w_nl0, w_nli, w_nlr, ↓w_ts1, ↓w_ts0, w_rcv, w_rfv, w_cs, true_and, and_true, List.length_nil, List.length_cons, Nat.reduceAdd, Nat.reduceLeDiff, Nat.zero_le, Nat.reduceLT, ↓w_nil, ix_nI, nI_leP, nI_ltP, nI_eqP, nI_1, ↓i_inN, i_inN, l_le, l_lt, l_eq, r_le, r_lt, r_eq, sh68_0, sh68_1, sh68_2, sh68_3, sh68_4, ↓w_iload_1, ↓w_iconst, ↓w_icge, ↓w_aload_0, ↓w_gf3, ↓w_iaload, ↓w_i2l, ↓w_iv, ↓pm_cl2_2, ↓w_istore_2, pm_up_o, pm_up_n, x73, e]
                  repeat' (first
                    | (apply And.intro)
                    | (with_reducible refine m_tell (by omega) ?_ ; simp (disch := first | omega | decide) only [w_nl0, w_nli, w_nlr, ↓w_ts1, ↓w_ts0, w_rcv, w_rfv, w_cs, true_and, and_true, List.length_nil, List.length_cons, Nat.reduceAdd, Nat.reduceLeDiff, Nat.zero_le, Nat.reduceLT, ↓w_nil, ix_nI, nI_leP, nI_ltP, nI_eqP, nI_1, ↓i_inN, i_inN, l_le, l_lt, l_eq, r_le, r_lt, r_eq, sh68_0, sh68_1, sh68_2, sh68_3, sh68_4, ↓w_aload_0, ↓w_ldc2_20, ↓w_pf1, ↓w_iconst, ↓w_istore_1, ↓w_iload_1, ↓w_bipush, ↓w_icge, ↓w_iv, ↓pm_cl2_2, ↓w_i2l, ↓w_iinc_1, ↓w_goto, ↓pm_cl2_1, ↓w_gf0, ↓w_gf3, ↓w_iaload, ↓w_baload, ↓w_ifeq, ↓w_lconst1, ↓w_lconst0, ↓w_istore_2, ↓w_iload_2, ↓pm_cl2_3, ↓w_iinc_2, ↓w_gf1, ↓w_lret, pm_up_o, pm_up_n, x73, e])
                    | (simp only [w_in])
                    | (intro _))
                  all_goals try grind
                  all_goals
                    refine bX12_digest_16 ?_
                    simp (disch := first | omega | decide) only [w_nl0, w_nli, w_nlr, ↓w_ts1, ↓w_ts0, w_rcv, w_rfv, w_cs, true_and, and_true, List.length_nil, List.length_cons, Nat.reduceAdd, Nat.reduceLeDiff, Nat.zero_le, Nat.reduceLT, ↓w_nil, ix_nI, nI_leP, nI_ltP, nI_eqP, nI_1, ↓i_inN, i_inN, l_le, l_lt, l_eq, r_le, r_lt, r_eq, sh68_0, sh68_1, sh68_2, sh68_3, sh68_4, ↓w_iload_2, ↓w_aload_0, ↓w_gf3, ↓w_iload_1, ↓w_iaload, ↓w_icge, ↓w_iv, ↓pm_cl2_3, ↓w_i2l, ↓pm_cl2_2, ↓w_iinc_2, ↓w_goto, pm_up_o, pm_up_n, x73, e]
                    repeat' (first
                      | (apply And.intro)
                      | (with_reducible refine bX12_digest_17 ?_; simp (disch := first | omega | decide) only [w_nl0, w_nli, w_nlr, ↓w_ts1, ↓w_ts0, w_rcv, w_rfv, w_cs, true_and, and_true, List.length_nil, List.length_cons, Nat.reduceAdd, Nat.reduceLeDiff, Nat.zero_le, Nat.reduceLT, ↓w_nil, ix_nI, nI_leP, nI_ltP, nI_eqP, nI_1, ↓i_inN, i_inN, l_le, l_lt, l_eq, r_le, r_lt, r_eq, sh68_0, sh68_1, sh68_2, sh68_3, sh68_4, ↓w_aload_0, ↓w_ldc2_20, ↓w_pf1, ↓w_iconst, ↓w_istore_1, ↓w_iload_1, ↓w_bipush, ↓w_icge, ↓w_iv, ↓pm_cl2_2, ↓w_i2l, ↓w_iinc_1, ↓w_goto, ↓pm_cl2_1, ↓w_gf0, ↓w_gf3, ↓w_iaload, ↓w_baload, ↓w_ifeq, ↓w_lconst1, ↓w_lconst0, ↓w_istore_2, ↓w_iload_2, ↓pm_cl2_3, ↓w_iinc_2, ↓w_gf1, ↓w_lret, pm_up_o, pm_up_n, x73, e])
                      | (simp only [w_in])
                      | (intro _))
                    all_goals grind
                · have e0 : smT I r z = itr (fun i h => 31 * h + (I 8 (48 * r + i)).toInt64) (31 * z + (nI k).toInt64) k := by
                    unfold smT
                    rw [e, ix_nI (by omega)]
                  rw [e0] at w
                  clear hs2 e0
                  refine bX12_digest_15 ?_
                  simp (disch := first | omega | decide) only [w_nl0, w_nli, w_nlr, ↓w_ts1, ↓w_ts0, w_rcv, w_rfv, w_cs, true_and, and_true, List.length_nil, List.length_cons, Nat.reduceAdd, Nat.reduceLeDiff, Nat.zero_le, Nat.reduceLT, ↓w_nil, ix_nI, nI_leP, nI_ltP, nI_eqP, nI_1, ↓i_inN, i_inN, l_le, l_lt, l_eq, r_le, r_lt, r_eq, sh68_0, sh68_1, sh68_2, sh68_3, sh68_4, ↓w_iload_1, ↓w_iconst, ↓w_icge, ↓w_aload_0, ↓w_gf3, ↓w_iaload, ↓w_i2l, ↓w_iv, ↓pm_cl2_2, ↓w_istore_2, pm_up_o, pm_up_n, x73, e]
                  repeat' (first
                    | (apply And.intro)
                    | (with_reducible refine m_tell (by omega) ?_ ; simp (disch := first | omega | decide) only [w_nl0, w_nli, w_nlr, ↓w_ts1, ↓w_ts0, w_rcv, w_rfv, w_cs, true_and, and_true, List.length_nil, List.length_cons, Nat.reduceAdd, Nat.reduceLeDiff, Nat.zero_le, Nat.reduceLT, ↓w_nil, ix_nI, nI_leP, nI_ltP, nI_eqP, nI_1, ↓i_inN, i_inN, l_le, l_lt, l_eq, r_le, r_lt, r_eq, sh68_0, sh68_1, sh68_2, sh68_3, sh68_4, ↓w_aload_0, ↓w_ldc2_20, ↓w_pf1, ↓w_iconst, ↓w_istore_1, ↓w_iload_1, ↓w_bipush, ↓w_icge, ↓w_iv, ↓pm_cl2_2, ↓w_i2l, ↓w_iinc_1, ↓w_goto, ↓pm_cl2_1, ↓w_gf0, ↓w_gf3, ↓w_iaload, ↓w_baload, ↓w_ifeq, ↓w_lconst1, ↓w_lconst0, ↓w_istore_2, ↓w_iload_2, ↓pm_cl2_3, ↓w_iinc_2, ↓w_gf1, ↓w_lret, pm_up_o, pm_up_n, x73, e])
                    | (simp only [w_in])
                    | (intro _))
                  all_goals try (clear hi; grind)
                  refine pm_for (f := fun i (h : Int64) => 31 * h + (I 8 (48 * r + i)).toInt64) (U := fun i (v : Int64) => UU g (d - 1) 294 kX12_digest (pm_rm d 294) Q 16 [some (.ref 68), some (.int (nI r)), some (.int (nI i))] [] SH (pm_up (pm_up I 68 21 x1) 68 22 x2) (pm_upL J 68 80 v) (0, 0)) (a := 31 * z + (nI k).toInt64) k (fun i v hik hv w2 => ?_) ?_
                  · have hi2 := hi i hik
                    clear hv w hi
                    refine bX12_digest_16 ?_
                    simp (disch := first | omega | decide) only [w_nl0, w_nli, w_nlr, ↓w_ts1, ↓w_ts0, w_rcv, w_rfv, w_cs, true_and, and_true, List.length_nil, List.length_cons, Nat.reduceAdd, Nat.reduceLeDiff, Nat.zero_le, Nat.reduceLT, ↓w_nil, ix_nI, nI_leP, nI_ltP, nI_eqP, nI_1, ↓i_inN, i_inN, l_le, l_lt, l_eq, r_le, r_lt, r_eq, sh68_0, sh68_1, sh68_2, sh68_3, sh68_4, ↓w_iload_2, ↓w_aload_0, ↓w_gf3, ↓w_iload_1, ↓w_iaload, ↓w_icge, ↓w_iv, ↓pm_cl2_3, ↓w_i2l, ↓pm_cl2_2, ↓w_iinc_2, ↓w_goto, pm_up_o, pm_up_n, x73, e]
                    repeat' (first
                      | (apply And.intro)
                      | (with_reducible refine m_byteAt (s := k) (by omega) hr (by simp (disch := decide) only [pm_up_o, x73, e]) hk (by omega) ?_ ; simp (disch := first | omega | decide) only [w_nl0, w_nli, w_nlr, ↓w_ts1, ↓w_ts0, w_rcv, w_rfv, w_cs, true_and, and_true, List.length_nil, List.length_cons, Nat.reduceAdd, Nat.reduceLeDiff, Nat.zero_le, Nat.reduceLT, ↓w_nil, ix_nI, nI_leP, nI_ltP, nI_eqP, nI_1, ↓i_inN, i_inN, l_le, l_lt, l_eq, r_le, r_lt, r_eq, sh68_0, sh68_1, sh68_2, sh68_3, sh68_4, ↓w_aload_0, ↓w_ldc2_20, ↓w_pf1, ↓w_iconst, ↓w_istore_1, ↓w_iload_1, ↓w_bipush, ↓w_icge, ↓w_iv, ↓pm_cl2_2, ↓w_i2l, ↓w_iinc_1, ↓w_goto, ↓pm_cl2_1, ↓w_gf0, ↓w_gf3, ↓w_iaload, ↓w_baload, ↓w_ifeq, ↓w_lconst1, ↓w_lconst0, ↓w_istore_2, ↓w_iload_2, ↓pm_cl2_3, ↓w_iinc_2, ↓w_gf1, ↓w_lret, pm_up_o, pm_up_n, x73, e, hi2, if_pos hik])
                      | (with_reducible refine m_tell (by omega) ?_ ; simp (disch := first | omega | decide) only [w_nl0, w_nli, w_nlr, ↓w_ts1, ↓w_ts0, w_rcv, w_rfv, w_cs, true_and, and_true, List.length_nil, List.length_cons, Nat.reduceAdd, Nat.reduceLeDiff, Nat.zero_le, Nat.reduceLT, ↓w_nil, ix_nI, nI_leP, nI_ltP, nI_eqP, nI_1, ↓i_inN, i_inN, l_le, l_lt, l_eq, r_le, r_lt, r_eq, sh68_0, sh68_1, sh68_2, sh68_3, sh68_4, ↓w_aload_0, ↓w_ldc2_20, ↓w_pf1, ↓w_iconst, ↓w_istore_1, ↓w_iload_1, ↓w_bipush, ↓w_icge, ↓w_iv, ↓pm_cl2_2, ↓w_i2l, ↓w_iinc_1, ↓w_goto, ↓pm_cl2_1, ↓w_gf0, ↓w_gf3, ↓w_iaload, ↓w_baload, ↓w_ifeq, ↓w_lconst1, ↓w_lconst0, ↓w_istore_2, ↓w_iload_2, ↓pm_cl2_3, ↓w_iinc_2, ↓w_gf1, ↓w_lret, pm_up_o, pm_up_n, x73, e, hi2, if_pos hik])
                      | (simp only [w_in])
                      | (intro _))
                    all_goals grind
                  · clear hi
                    refine bX12_digest_16 ?_
                    simp (disch := first | omega | decide) only [w_nl0, w_nli, w_nlr, ↓w_ts1, ↓w_ts0, w_rcv, w_rfv, w_cs, true_and, and_true, List.length_nil, List.length_cons, Nat.reduceAdd, Nat.reduceLeDiff, Nat.zero_le, Nat.reduceLT, ↓w_nil, ix_nI, nI_leP, nI_ltP, nI_eqP, nI_1, ↓i_inN, i_inN, l_le, l_lt, l_eq, r_le, r_lt, r_eq, sh68_0, sh68_1, sh68_2, sh68_3, sh68_4, ↓w_iload_2, ↓w_aload_0, ↓w_gf3, ↓w_iload_1, ↓w_iaload, ↓w_icge, ↓w_iv, ↓pm_cl2_3, ↓w_i2l, ↓pm_cl2_2, ↓w_iinc_2, ↓w_goto, pm_up_o, pm_up_n, x73, e]
                    repeat' (first
                      | (apply And.intro)
                      | (with_reducible refine bX12_digest_17 ?_; simp (disch := first | omega | decide) only [w_nl0, w_nli, w_nlr, ↓w_ts1, ↓w_ts0, w_rcv, w_rfv, w_cs, true_and, and_true, List.length_nil, List.length_cons, Nat.reduceAdd, Nat.reduceLeDiff, Nat.zero_le, Nat.reduceLT, ↓w_nil, ix_nI, nI_leP, nI_ltP, nI_eqP, nI_1, ↓i_inN, i_inN, l_le, l_lt, l_eq, r_le, r_lt, r_eq, sh68_0, sh68_1, sh68_2, sh68_3, sh68_4, ↓w_aload_0, ↓w_ldc2_20, ↓w_pf1, ↓w_iconst, ↓w_istore_1, ↓w_iload_1, ↓w_bipush, ↓w_icge, ↓w_iv, ↓pm_cl2_2, ↓w_i2l, ↓w_iinc_1, ↓w_goto, ↓pm_cl2_1, ↓w_gf0, ↓w_gf3, ↓w_iaload, ↓w_baload, ↓w_ifeq, ↓w_lconst1, ↓w_lconst0, ↓w_istore_2, ↓w_iload_2, ↓pm_cl2_3, ↓w_iinc_2, ↓w_gf1, ↓w_lret])
                      | (simp only [w_in])
                      | (intro _))
                    all_goals first | exact w _ | grind
              · have hQ2 := hQ _ rfl
                clear hQ hs2
                refine bX12_digest_15 ?_
                simp (disch := first | omega | decide) only [w_nl0, w_nli, w_nlr, ↓w_ts1, ↓w_ts0, w_rcv, w_rfv, w_cs, true_and, and_true, List.length_nil, List.length_cons, Nat.reduceAdd, Nat.reduceLeDiff, Nat.zero_le, Nat.reduceLT, ↓w_nil, ix_nI, nI_leP, nI_ltP, nI_eqP, nI_1, ↓i_inN, i_inN, l_le, l_lt, l_eq, r_le, r_lt, r_eq, sh68_0, sh68_1, sh68_2, sh68_3, sh68_4, ↓w_iload_1, ↓w_iconst, ↓w_icge, ↓w_aload_0, ↓w_gf3, ↓w_iaload, ↓w_i2l, ↓w_iv, ↓pm_cl2_2, ↓w_istore_2, pm_up_o, pm_up_n]
                repeat' (first
                  | (apply And.intro)
                  | (with_reducible refine bX12_digest_18 ?_; simp (disch := first | omega | decide) only [w_nl0, w_nli, w_nlr, ↓w_ts1, ↓w_ts0, w_rcv, w_rfv, w_cs, true_and, and_true, List.length_nil, List.length_cons, Nat.reduceAdd, Nat.reduceLeDiff, Nat.zero_le, Nat.reduceLT, ↓w_nil, ix_nI, nI_leP, nI_ltP, nI_eqP, nI_1, ↓i_inN, i_inN, l_le, l_lt, l_eq, r_le, r_lt, r_eq, sh68_0, sh68_1, sh68_2, sh68_3, sh68_4, ↓w_aload_0, ↓w_ldc2_20, ↓w_pf1, ↓w_iconst, ↓w_istore_1, ↓w_iload_1, ↓w_bipush, ↓w_icge, ↓w_iv, ↓pm_cl2_2, ↓w_i2l, ↓w_iinc_1, ↓w_goto, ↓pm_cl2_1, ↓w_gf0, ↓w_gf3, ↓w_iaload, ↓w_baload, ↓w_ifeq, ↓w_lconst1, ↓w_lconst0, ↓w_istore_2, ↓w_iload_2, ↓pm_cl2_3, ↓w_iinc_2, ↓w_gf1, ↓w_lret, pm_upL_s])
                  | (simp only [w_in])
                  | (intro _))
                all_goals first | exact hQ2 | grind
    have key2 : ∀ x1 x2, UU g (d - 1) 294 kX12_digest (pm_rm d 294) Q 3 [some (.ref 68), some (.int 0), none] [] SH (pm_up (pm_up I 68 21 x1) 68 22 x2) (pm_upL J 68 80 (dgU I y R (dgR I M N (dgP I (dgM I n h1))))) (0, 0) := key
    clear hQ hs1 hs2 key
    refine bX12_digest_1 ?_
    simp (disch := first | omega | decide) only [w_nl0, w_nli, w_nlr, ↓w_ts1, ↓w_ts0, w_rcv, w_rfv, w_cs, true_and, and_true, List.length_nil, List.length_cons, Nat.reduceAdd, Nat.reduceLeDiff, Nat.zero_le, Nat.reduceLT, ↓w_nil, ix_nI, nI_leP, nI_ltP, nI_eqP, nI_1, ↓i_inN, i_inN, l_le, l_lt, l_eq, r_le, r_lt, r_eq, sh68_0, sh68_1, sh68_2, sh68_3, sh68_4, ↓w_iload_1, ↓w_bipush, ↓w_icge, ↓w_aload_0, ↓w_iv, ↓pm_cl2_2, ↓w_i2l, ↓w_iinc_1, ↓w_goto]
    repeat' (first
      | (apply And.intro)
      | (with_reducible refine bX12_digest_2 ?_; simp (disch := first | omega | decide) only [w_nl0, w_nli, w_nlr, ↓w_ts1, ↓w_ts0, w_rcv, w_rfv, w_cs, true_and, and_true, List.length_nil, List.length_cons, Nat.reduceAdd, Nat.reduceLeDiff, Nat.zero_le, Nat.reduceLT, ↓w_nil, ix_nI, nI_leP, nI_ltP, nI_eqP, nI_1, ↓i_inN, i_inN, l_le, l_lt, l_eq, r_le, r_lt, r_eq, sh68_0, sh68_1, sh68_2, sh68_3, sh68_4, ↓w_aload_0, ↓w_ldc2_20, ↓w_pf1, ↓w_iconst, ↓w_istore_1, ↓w_iload_1, ↓w_bipush, ↓w_icge, ↓w_iv, ↓pm_cl2_2, ↓w_i2l, ↓w_iinc_1, ↓w_goto, ↓pm_cl2_1, ↓w_gf0, ↓w_gf3, ↓w_iaload, ↓w_baload, ↓w_ifeq, ↓w_lconst1, ↓w_lconst0, ↓w_istore_2, ↓w_iload_2, ↓pm_cl2_3, ↓w_iinc_2, ↓w_gf1, ↓w_lret])
      | (with_reducible refine m_tellWorks (y := y) (n := n) (N := N) (M := M) (R := R) (by omega) hy hn hn40 hN hN30 hM hM60 hR hR24 hit hfe hpr x90 x91 hrt x75 x76 hf1 hf2 hf3 (fun x1 x2 => ?_) <;> simp (disch := first | omega | decide) only [w_nl0, w_nli, w_nlr, ↓w_ts1, ↓w_ts0, w_rcv, w_rfv, w_cs, true_and, and_true, List.length_nil, List.length_cons, Nat.reduceAdd, Nat.reduceLeDiff, Nat.zero_le, Nat.reduceLT, ↓w_nil, ix_nI, nI_leP, nI_ltP, nI_eqP, nI_1, ↓i_inN, i_inN, l_le, l_lt, l_eq, r_le, r_lt, r_eq, sh68_0, sh68_1, sh68_2, sh68_3, sh68_4, ↓w_aload_0, ↓w_ldc2_20, ↓w_pf1, ↓w_iconst, ↓w_istore_1, ↓w_iload_1, ↓w_bipush, ↓w_icge, ↓w_iv, ↓pm_cl2_2, ↓w_i2l, ↓w_iinc_1, ↓w_goto, ↓pm_cl2_1, ↓w_gf0, ↓w_gf3, ↓w_iaload, ↓w_baload, ↓w_ifeq, ↓w_lconst1, ↓w_lconst0, ↓w_istore_2, ↓w_iload_2, ↓pm_cl2_3, ↓w_iinc_2, ↓w_gf1, ↓w_lret])
      | (simp only [w_in])
      | (intro _))
    all_goals (clear hit hfe hpr hrt hf2 hf3; grind)
end C70
