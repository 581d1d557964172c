section C80
variable {g : pm_G} {d : Nat} {Q : pm_Po} {S : pm_SS} {I : pm_MI} {J : pm_ML}
theorem bt0 : ∀ x, x < 512 → ∀ i, i < 9 → (nI x >>> (nI i &&& 31)) &&& 1 = if x.testBit i = true then 1 else 0 := by decide +kernel
theorem bt {x i : Nat} (hx : x < 512) (hi : i < 9) : (nI x >>> (nI i &&& 31)) &&& 1 = if x.testBit i = true then 1 else 0 := bt0 x hx i hi
theorem sl0 : ∀ i, i < 10 → (1 : Int32) <<< (nI i &&& 31) = nI (2 ^ i) := by decide +kernel
theorem sl1 {i : Nat} (hi : i < 10) : (1 : Int32) <<< (nI i &&& 31) = nI (2 ^ i) := sl0 i hi
theorem lo0 : ∀ x, x < 512 → 0 < x → nI x &&& -nI x = nI (nI x &&& -nI x).toNatClampNeg ∧ ((nI x &&& -nI x).toNatClampNeg &&& x) = (nI x &&& -nI x).toNatClampNeg ∧ ¬ (nI x &&& -nI x).toNatClampNeg = 0 ∧ (nI x &&& -nI x).toNatClampNeg < 512 := by decide +kernel
theorem an_nI {a b : Nat} : nI a &&& nI b = nI (a &&& b) := by
  show Int32.ofNat a &&& Int32.ofNat b = Int32.ofNat (a &&& b)
  apply Int32.toBitVec.inj
  simp [BitVec.ofNat_and]
theorem xo_nI {a b : Nat} : nI a ^^^ nI b = nI (a ^^^ b) := by
  show Int32.ofNat a ^^^ Int32.ofNat b = Int32.ofNat (a ^^^ b)
  apply Int32.toBitVec.inj
  simp [BitVec.ofNat_xor]
theorem or_nI {a b : Nat} : nI a ||| nI b = nI (a ||| b) := by
  show Int32.ofNat a ||| Int32.ofNat b = Int32.ofNat (a ||| b)
  apply Int32.toBitVec.inj
  simp [BitVec.ofNat_or]
theorem nt_nI {m s : Nat} (h : subS s m) : nI m &&& (nI s ^^^ -1) = nI (m ^^^ s) := by
  show Int32.ofNat m &&& (Int32.ofNat s ^^^ -1) = Int32.ofNat (m ^^^ s)
  apply Int32.toBitVec.inj
  have e : (-1 : Int32).toBitVec = BitVec.allOnes 32 := by decide
  rw [Int32.toBitVec_and, Int32.toBitVec_xor, e]
  refine BitVec.eq_of_getLsbD_eq (fun i hi => ?_)
  simp only [Int32.toBitVec_ofNat', BitVec.getLsbD_and, BitVec.getLsbD_xor, BitVec.getLsbD_allOnes, BitVec.getLsbD_ofNat, hi, decide_true, Bool.true_and, Nat.testBit_xor]
  have := h i
  cases hs : s.testBit i <;> cases hm : m.testBit i <;> simp_all
theorem s1_nI {a : Nat} (h : 0 < a) (h2 : a < 1000000) : nI a - 1 = nI (a - 1) := by
  obtain ⟨b, rfl⟩ : ∃ b, a = b + 1 := ⟨a - 1, by omega⟩
  rw [← nI_add b 1]
  have : nI 1 = (1 : Int32) := rfl
  have e : b + 1 - 1 = b := by omega
  rw [e]
  grind
/-- the orders -/
def OC (I : pm_MI) (n : Nat) (dy cp : Nat → Nat) : Prop := I 60 7 = nI n ∧ ∀ i, i < n → I 62 i = nI (dy i) ∧ dy i ≤ 999 ∧ I 61 i = nI (cp i) ∧ 1 ≤ cp i ∧ cp i ≤ 100000
theorem sm_ins {h : Nat → Nat} {c j : Nat} : ∀ i, j ≤ i → sm (fun k => if k < j then h k else if k = j then c else h (k - 1)) (i + 1) = sm h i + c
  | 0, hj => by
    have : j = 0 := by omega
    subst this
    simp [sm]
  | i + 1, hj => by
    by_cases e : j = i + 1
    · subst e
      rw [sm]
      rw [if_neg (by omega), if_pos rfl]
      congr 1
      exact sm_congr (fun k hk => if_pos hk)
    · rw [sm, sm_ins i (by omega), if_neg (by omega), if_neg (by omega), sm]
      simp only [Nat.add_sub_cancel]
      omega
theorem byD_ins {i j : Nat} {dy bd : Nat → Nat} (h : byD i dy bd) (hj : j ≤ i) (h1 : 0 < j → dy (bd (j - 1)) ≤ dy i) (h2 : ∀ k, j ≤ k → k < i → dy i < dy (bd k)) : byD (i + 1) dy (fun k => if k < j then bd k else if k = j then i else bd (k - 1)) := by
  obtain ⟨a1, a2, a3⟩ := h
  refine ⟨fun k hk => ?_, fun a b hab hb => ?_, fun f => ?_⟩
  · by_cases c1 : k < j
    · simp only [c1, if_true]
      have := a1 k (by omega)
      omega
    · by_cases c2 : k = j
      · simp only [c1, c2, if_true, if_false]
        split <;> omega
      · simp only [c1, c2, if_false]
        have := a1 (k - 1) (by omega)
        omega
  · by_cases b1 : b < j
    · simp only [show a < j by omega, b1, if_true]
      exact a2 a b hab (by omega)
    · by_cases b2 : b = j
      · simp only [b2, show a < j by omega, if_true, Nat.lt_irrefl, if_false]
        have q := h1 (by omega)
        by_cases e : a = j - 1
        · rw [e]; exact q
        · exact Nat.le_trans (a2 a (j - 1) (by omega) (by omega)) q
      · by_cases c1 : a < j
        · simp only [c1, b1, b2, if_true, if_false]
          by_cases e : a = b - 1
          · omega
          · exact a2 a (b - 1) (by omega) (by omega)
        · by_cases c2 : a = j
          · simp only [b1, b2, c2, if_true, Nat.lt_irrefl, if_false]
            exact Nat.le_of_lt (h2 (b - 1) (by omega) (by omega))
          · simp only [b1, b2, c1, c2, if_false]
            exact a2 (a - 1) (b - 1) (by omega) (by omega)
  · have e : (fun k => f (if k < j then bd k else if k = j then i else bd (k - 1))) = (fun k => if k < j then (fun k => f (bd k)) k else if k = j then f i else (fun k => f (bd k)) (k - 1)) := by
      funext k
      by_cases c1 : k < j
      · simp only [c1, if_true]
      · by_cases c2 : k = j
        · simp only [c1, c2, if_true, if_false]
          simp
        · simp only [c1, c2, if_false]
    rw [e, sm_ins i hj, a3 f, sm]
theorem c_sortByDay {n : Nat} {dy cp : Nat → Nat} (hd : 2 ≤ d) (hn : n ≤ 9) (hO : OC I n dy cp) (hQ : ∀ I2 bd, (∀ a, a ≠ 63 → I2 a = I a) → (∀ k, k < n → I2 63 k = nI (bd k)) → byD n dy bd → Q none SH I2 J) : pm_C g d 27 [.ref 60] Q SH I J := by
  obtain ⟨hc, hv⟩ := hO
  have key : ∀ j i I2 bd x, j + i = n → (∀ a, a ≠ 63 → I2 a = I a) → (∀ k, k < i → I2 63 k = nI (bd k)) → byD i dy bd → UU g (d - 1) 27 kX1_sortByDay (pm_rm d 27) Q 1 [some (.ref 60), some (.int (nI i)), x] [] SH I2 J (0, 0) := by
    intro j
    induction j with
    | zero =>
      intro i I2 bd x hi ha hk hb
      have hin : i = n := by omega
      subst hin
      have hQ2 := hQ I2 bd ha hk hb
      have e7 : I2 60 7 = nI i := by rw [ha 60 (by decide), hc]
      clear hQ hv ha hk hb hc
      refine bX1_sortByDay_1 ?_
      simp (disch := first | omega | decide) only [w_nl0, w_nli, w_nlr, ↓w_ts1, ↓w_ts0, w_rcv, w_rfv, w_cs, true_and, and_true, List.length_nil, List.length_cons, Nat.reduceAdd, Nat.reduceLeDiff, Nat.zero_le, Nat.reduceLT, ↓w_nil, ix_nI, nI_leP, nI_ltP, nI_eqP, nI_1, ↓i_inN, i_inN, l_le, l_lt, l_eq, r_le, r_lt, r_eq, sh60, ↓w_iload_1, ↓w_aload_0, ↓w_gf0, ↓w_icge, ↓w_istore_2, e7]
      repeat' (first
        | (apply And.intro)
        | (with_reducible refine bX1_sortByDay_4 ?_; simp (disch := first | omega | decide) only [w_nl0, w_nli, w_nlr, ↓w_ts1, ↓w_ts0, w_rcv, w_rfv, w_cs, true_and, and_true, List.length_nil, List.length_cons, Nat.reduceAdd, Nat.reduceLeDiff, Nat.zero_le, Nat.reduceLT, ↓w_nil, ix_nI, nI_leP, nI_ltP, nI_eqP, nI_1, ↓i_inN, i_inN, l_le, l_lt, l_eq, r_le, r_lt, r_eq, sh60, ↓w_iconst, ↓w_istore_1, ↓w_iload_1, ↓w_aload_0, ↓w_gf0, ↓w_icge, ↓w_istore_2, ↓w_iload_2, ↓w_ifle, ↓w_gf3, ↓w_isub, ↓w_iaload, ↓w_icle, ↓w_iastore, ↓w_iinc_2, ↓w_goto, ↓w_iinc_1, ↓w_vret])
        | (simp only [w_in])
        | (intro _))
      all_goals grind
    | succ j ih =>
      intro i I2 bd x hi ha hk hb
      have e7 : I2 60 7 = nI n := by rw [ha 60 (by decide), hc]
      have key2 : ∀ q I3, q ≤ i → (∀ a, a ≠ 63 → I3 a = I a) → (∀ k, k < q → I3 63 k = nI (bd k)) → (∀ k, q < k → k ≤ i → I3 63 k = nI (bd (k - 1))) → (∀ k, q ≤ k → k < i → dy i < dy (bd k)) → UU g (d - 1) 27 kX1_sortByDay (pm_rm d 27) Q 2 [some (.ref 60), some (.int (nI i)), some (.int (nI q))] [] SH I3 J (0, 0) := by
        intro q
        induction q with
        | zero =>
          intro I3 hq ha3 h1 h2 h3
          have w := ih (i + 1) (pm_up I3 63 0 (nI i)) _ (some (.int (nI 0))) (by omega) (fun a hna => by rw [pm_up_o hna]; exact ha3 a hna) (fun k hk => by
            rw [up_at]
            by_cases c : k = 0
            · simp only [c, if_true, Nat.lt_irrefl, if_false]
            · simp only [c, if_false, Nat.not_lt_zero]
              exact h2 k (by omega) (by omega)) (byD_ins hb (j := 0) (by omega) (fun z => by omega) h3)
          have w : UU g (d - 1) 27 kX1_sortByDay (pm_rm d 27) Q 1 [some (.ref 60), some (.int (nI (i + 1))), some (.int 0)] [] SH (pm_up I3 63 0 (nI i)) J (0, 0) := w
          clear ih h1 h2 h3 hb hv hQ ha ha3 hk
          refine bX1_sortByDay_2 ?_
          simp (disch := first | omega | decide) only [w_nl0, w_nli, w_nlr, ↓w_ts1, ↓w_ts0, w_rcv, w_rfv, w_cs, true_and, and_true, List.length_nil, List.length_cons, Nat.reduceAdd, Nat.reduceLeDiff, Nat.zero_le, Nat.reduceLT, ↓w_nil, ix_nI, nI_leP, nI_ltP, nI_eqP, nI_1, ↓i_inN, i_inN, l_le, l_lt, l_eq, r_le, r_lt, r_eq, sh60, ↓w_iload_2, ↓w_ifle, ↓w_aload_0, ↓w_gf3, ↓w_iconst, ↓w_isub, ↓w_iaload, ↓w_iload_1, ↓w_icle, ↓w_iastore, ↓w_iinc_2, ↓w_goto]
          repeat' (first
            | (apply And.intro)
            | (with_reducible refine bX1_sortByDay_3 ?_; simp (disch := first | omega | decide) only [w_nl0, w_nli, w_nlr, ↓w_ts1, ↓w_ts0, w_rcv, w_rfv, w_cs, true_and, and_true, List.length_nil, List.length_cons, Nat.reduceAdd, Nat.reduceLeDiff, Nat.zero_le, Nat.reduceLT, ↓w_nil, ix_nI, nI_leP, nI_ltP, nI_eqP, nI_1, ↓i_inN, i_inN, l_le, l_lt, l_eq, r_le, r_lt, r_eq, sh60, ↓w_iconst, ↓w_istore_1, ↓w_iload_1, ↓w_aload_0, ↓w_gf0, ↓w_icge, ↓w_istore_2, ↓w_iload_2, ↓w_ifle, ↓w_gf3, ↓w_isub, ↓w_iaload, ↓w_icle, ↓w_iastore, ↓w_iinc_2, ↓w_goto, ↓w_iinc_1, ↓w_vret, nI_add])
            | (simp only [w_in])
            | (intro _))
          all_goals grind
        | succ q ihq =>
          intro I3 hq ha3 h1 h2 h3
          have hbq : bd q < n := by have := hb.1 q (by omega); omega
          have v1 := hv (bd q) hbq
          have v2 := hv i (by omega)
          have f1 := h1 q (by omega)
          have f62 : I3 62 = I 62 := ha3 62 (by decide)
          have d1 : I3 62 (bd q) = nI (dy (bd q)) := by rw [f62, v1.1]
          have d2 : I3 62 i = nI (dy i) := by rw [f62, v2.1]
          have l1 := v1.2.1
          have l2 := v2.2.1
          have e1 : nI (q + 1) - 1 = nI q := s1_nI (a := q + 1) (by omega) (by omega)
          have e2 : nI (q + 1) + -1 = nI q := by rw [← e1]; grind
          by_cases hc2 : dy i < dy (bd q)
          · have w := ihq (pm_up I3 63 (q + 1) (nI (bd q))) (by omega) (fun a hna => by rw [pm_up_o hna]; exact ha3 a hna) (fun k hk => by rw [pm_up_n (by omega)]; exact h1 k (by omega)) (fun k hk1 hk2 => by
              rw [up_at]
              by_cases c : k = q + 1
              · rw [if_pos c, c]; rfl
              · rw [if_neg c]; exact h2 k (by omega) hk2) (fun k hk1 hk2 => by
              by_cases c : k = q
              · rw [c]; exact hc2
              · exact h3 k (by omega) hk2)
            clear ih ihq h1 h2 h3 hb hv hQ ha ha3 hk v1 v2
            refine bX1_sortByDay_2 ?_
            simp (disch := first | omega | decide) only [w_nl0, w_nli, w_nlr, ↓w_ts1, ↓w_ts0, w_rcv, w_rfv, w_cs, true_and, and_true, List.length_nil, List.length_cons, Nat.reduceAdd, Nat.reduceLeDiff, Nat.zero_le, Nat.reduceLT, ↓w_nil, ix_nI, nI_leP, nI_ltP, nI_eqP, nI_1, ↓i_inN, i_inN, l_le, l_lt, l_eq, r_le, r_lt, r_eq, sh60, ↓w_iload_2, ↓w_ifle, ↓w_aload_0, ↓w_gf3, ↓w_iconst, ↓w_isub, ↓w_iaload, ↓w_iload_1, ↓w_icle, ↓w_iastore, ↓w_iinc_2, ↓w_goto, e1, e2, f1, d1, d2]
            repeat' (first
              | (apply And.intro)
              | (simp only [w_in])
              | (intro _))
            all_goals grind
          · have w := fun x => ih (i + 1) (pm_up I3 63 (q + 1) (nI i)) _ x (by omega) (fun a hna => by rw [pm_up_o hna]; exact ha3 a hna) (fun k hk => by
              rw [up_at]
              by_cases c : k < q + 1
              · simp only [c, if_true, show ¬ k = q + 1 by omega, if_false]
                exact h1 k c
              · by_cases c2 : k = q + 1
                · simp only [c2, if_true, Nat.lt_irrefl, if_false]
                · simp only [c, c2, if_false]
                  exact h2 k (by omega) (by omega)) (byD_ins hb (j := q + 1) hq (fun _ => by simp only [Nat.add_sub_cancel]; omega) h3)
            clear ih ihq h1 h2 h3 hb hv hQ ha ha3 hk v1 v2
            refine bX1_sortByDay_2 ?_
            simp (disch := first | omega | decide) only [w_nl0, w_nli, w_nlr, ↓w_ts1, ↓w_ts0, w_rcv, w_rfv, w_cs, true_and, and_true, List.length_nil, List.length_cons, Nat.reduceAdd, Nat.reduceLeDiff, Nat.zero_le, Nat.reduceLT, ↓w_nil, ix_nI, nI_leP, nI_ltP, nI_eqP, nI_1, ↓i_inN, i_inN, l_le, l_lt, l_eq, r_le, r_lt, r_eq, sh60, ↓w_iload_2, ↓w_ifle, ↓w_aload_0, ↓w_gf3, ↓w_iconst, ↓w_isub, ↓w_iaload, ↓w_iload_1, ↓w_icle, ↓w_iastore, ↓w_iinc_2, ↓w_goto, e1, e2, f1, d1, d2]
            repeat' (first
              | (apply And.intro)
              | (with_reducible refine bX1_sortByDay_3 ?_; simp (disch := first | omega | decide) only [w_nl0, w_nli, w_nlr, ↓w_ts1, ↓w_ts0, w_rcv, w_rfv, w_cs, true_and, and_true, List.length_nil, List.length_cons, Nat.reduceAdd, Nat.reduceLeDiff, Nat.zero_le, Nat.reduceLT, ↓w_nil, ix_nI, nI_leP, nI_ltP, nI_eqP, nI_1, ↓i_inN, i_inN, l_le, l_lt, l_eq, r_le, r_lt, r_eq, sh60, ↓w_iconst, ↓w_istore_1, ↓w_iload_1, ↓w_aload_0, ↓w_gf0, ↓w_icge, ↓w_istore_2, ↓w_iload_2, ↓w_ifle, ↓w_gf3, ↓w_isub, ↓w_iaload, ↓w_icle, ↓w_iastore, ↓w_iinc_2, ↓w_goto, ↓w_iinc_1, ↓w_vret, nI_add])
              | (simp only [w_in])
              | (intro _))
            all_goals grind
      have w := key2 i I2 (by omega) ha hk (fun k h1 h2 => by omega) (fun k h1 h2 => by omega)
      clear key2 ih hv hQ ha hk hb
      refine bX1_sortByDay_1 ?_
      simp (disch := first | omega | decide) only [w_nl0, w_nli, w_nlr, ↓w_ts1, ↓w_ts0, w_rcv, w_rfv, w_cs, true_and, and_true, List.length_nil, List.length_cons, Nat.reduceAdd, Nat.reduceLeDiff, Nat.zero_le, Nat.reduceLT, ↓w_nil, ix_nI, nI_leP, nI_ltP, nI_eqP, nI_1, ↓i_inN, i_inN, l_le, l_lt, l_eq, r_le, r_lt, r_eq, sh60, ↓w_iload_1, ↓w_aload_0, ↓w_gf0, ↓w_icge, ↓w_istore_2, e7]
      repeat' (first
        | (apply And.intro)
        | (simp only [w_in])
        | (intro _))
      all_goals grind
  have w : UU g (d - 1) 27 kX1_sortByDay (pm_rm d 27) Q 1 [some (.ref 60), some (.int 0), none] [] SH I J (0, 0) := key n 0 I id none (by omega) (fun _ _ => rfl) (fun k hk => by omega) ⟨fun k hk => by omega, fun a b _ hb => by omega, fun _ => rfl⟩
  clear key hQ hv
  refine eX1_sortByDay (by omega) ?_
  repeat' (first
    | (apply And.intro)
    | (with_reducible refine bX1_sortByDay_0 ?_; simp (disch := first | omega | decide) only [w_nl0, w_nli, w_nlr, ↓w_ts1, ↓w_ts0, w_rcv, w_rfv, w_cs, true_and, and_true, List.length_nil, List.length_cons, Nat.reduceAdd, Nat.reduceLeDiff, Nat.zero_le, Nat.reduceLT, ↓w_nil, ix_nI, nI_leP, nI_ltP, nI_eqP, nI_1, ↓i_inN, i_inN, l_le, l_lt, l_eq, r_le, r_lt, r_eq, sh60, ↓w_iconst, ↓w_istore_1, ↓w_iload_1, ↓w_aload_0, ↓w_gf0, ↓w_icge, ↓w_istore_2, ↓w_iload_2, ↓w_ifle, ↓w_gf3, ↓w_isub, ↓w_iaload, ↓w_icle, ↓w_iastore, ↓w_iinc_2, ↓w_goto, ↓w_iinc_1, ↓w_vret])
    | (simp only [w_in])
    | (intro _))
  all_goals grind
end C80
