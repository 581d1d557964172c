section C89
variable {g : pm_G} {d : Nat} {Q : pm_Po} {S : pm_SS} {I : pm_MI} {J : pm_ML}
def usV (v k : Int32) : Int32 := (v.toUInt32 >>> (k.toUInt32 &&& Int32.toUInt32 31)).toInt32
def bc1 (v : Int32) : Int32 := v - (usV v 1 &&& 1431655765)
def bc2 (a : Int32) : Int32 := (a &&& 858993459) + (usV a 2 &&& 858993459)
def bc3 (b : Int32) : Int32 := (b + usV b 4) &&& 252645135
def bc4 (c : Int32) : Int32 := c + usV c 8
def bc5 (c : Int32) : Int32 := c + usV c 16
theorem bc0 : ∀ x, x < 512 → bc5 (bc4 (bc3 (bc2 (bc1 (nI x))))) &&& 63 = nI (ctV 9 x) := by decide +kernel
theorem c_bitT {x : Nat} (hd : 1 ≤ d) (hx : x < 512) (hQ : Q (some (.int (nI (ctV 9 x)))) S I J) : pm_C g d 295 [.int (nI x)] Q S I J := by
  rw [← bc0 x hx] at hQ
  unfold bc5 bc4 bc3 bc2 bc1 usV at hQ
  refine eJ6_bitCount_0f7a4 (by omega) ?_
  repeat' (first
    | (apply And.intro)
    | (with_reducible refine bJ6_bitCount_0f7a4_0 ?_; simp (disch := first | omega | decide) only [w_nl0, w_nli, w_nlr, ↓w_ts1, ↓w_ts0, w_rcv, w_rfv, w_cs, true_and, and_true, List.length_nil, List.length_cons, Nat.reduceAdd, Nat.reduceLeDiff, Nat.zero_le, Nat.reduceLT, ↓w_nil, ix_nI, nI_leP, nI_ltP, nI_eqP, nI_1, ↓i_inN, i_inN, l_le, l_lt, l_eq, r_le, r_lt, r_eq, ↓w_iload_0, ↓w_iconst, ↓w_iushr, ↓w_ldcw1, ↓w_iand, ↓w_isub, ↓w_istore_0, ↓w_ldcw2, ↓w_iadd, ↓w_ldcw3, ↓w_bipush, ↓w_ret])
    | (simp only [w_in])
    | (intro _))
  all_goals exact hQ
theorem cpV_itr {n x : Nat} {cp : Nat → Nat} (hn : n ≤ 9) (hx : x < 512) (h : ∀ i, i < n → I 61 i = nI (cp i)) : itr (fun k (a : Int32) => if nI x >>> (nI k &&& 31) &&& 1 = 0 then a else a + I 61 k) 0 n = nI (cpV n cp x) := by
  have key : ∀ q, q ≤ n → itr (fun k (a : Int32) => if nI x >>> (nI k &&& 31) &&& 1 = 0 then a else a + I 61 k) 0 q = nI (sm (fun k => if x.testBit k = true then cp k else 0) q) := by
    intro q
    induction q with
    | zero => intro _; rfl
    | succ q ih =>
      intro hq
      rw [itr_s, ih (by omega), sm]
      have hb := bt (x := x) (i := q) hx (by omega)
      rw [hb, h q (by omega)]
      by_cases c : x.testBit q = true
      · rw [if_pos c, if_pos c, if_neg (by decide), nI_add]
      · rw [if_neg c, if_neg c, if_pos rfl, Nat.add_zero]
  exact key n (Nat.le_refl n)
theorem c_cpIn {n x : Nat} {cp : Nat → Nat} (hd : 1 ≤ d) (hn : n ≤ 9) (hx : x < 512) (h7 : I 60 7 = nI n) (h : ∀ i, i < n → I 61 i = nI (cp i)) (hQ : Q (some (.int (nI (cpV n cp x)))) SH I J) : pm_C g d 28 [.ref 60, .int (nI x)] Q SH I J := by
  refine c_copiesIn hd h7 hn ?_
  rw [cpV_itr hn hx h]
  exact hQ
abbrev UC (g : pm_G) (d : Nat) (Q : pm_Po) (b : Nat) (ls : pm_LS) (I : pm_MI) (J : pm_ML) : Prop := UU g (d - 1) 26 kX1_choose (pm_rm d 26) Q b ls [] SH I J (0, 0)
theorem pf_can {n y P x w : Nat} {dy tk : Nat → Nat} (hP : 1 ≤ P ∧ P ≤ 3) (h1 : w ≤ 1 ↔ oneP n y dy tk x) (h2 : w ≤ 2 ↔ twoP n y dy tk x) (h3 : w ≤ 3 ↔ threeP n y dy tk x) : w ≤ P ↔ canP n y dy tk P x := by
  unfold canP
  rcases (show P = 1 ∨ P = 2 ∨ P = 3 by omega) with e | e | e
  · subst e
    rw [h1]
    exact ⟨fun h => Or.inl ⟨rfl, h⟩, fun h => by rcases h with h | h | h; exact h.2; omega; omega⟩
  · subst e
    rw [h2]
    exact ⟨fun h => Or.inr (Or.inl ⟨rfl, h⟩), fun h => by rcases h with h | h | h; omega; exact h.2; omega⟩
  · subst e
    rw [h3]
    exact ⟨fun h => Or.inr (Or.inr ⟨rfl, h⟩), fun h => by rcases h with h | h | h; omega; omega; exact h.2⟩
theorem c_chSel {n y r P : Nat} {dy tk cp : Nat → Nat} (hd : 4 ≤ d) (hn : n ≤ 9) (hP : 1 ≤ P ∧ P ≤ 3) (h7 : I 60 7 = nI n) (h61 : ∀ i, i < n → I 61 i = nI (cp i) ∧ cp i ≤ 100000) (h67 : ∀ p, 0 < p → p < 2 ^ n → PF n y dy tk p (I 67 p)) (hc : UC g d Q 7 [some (.ref 60), some (.int (nI P)), some (.int (nI r)), some (.int (nI y)), some (.int (nI (2 ^ n)))] (pm_up I 60 8 (nI (sel (canP n y dy tk P) (cpV n cp) (2 ^ n)))) J) : UC g d Q 5 [some (.ref 60), some (.int (nI P)), some (.int (nI r)), some (.int (nI y)), some (.int 1)] (pm_up I 60 8 0) J := by
  have hp9 : 2 ^ n ≤ 512 := Nat.pow_le_pow_right (by omega) hn
  have hp0 : 0 < 2 ^ n := Nat.pow_pos (by omega)
  have hsl : (1 : Int32) <<< (nI n &&& 31) = nI (2 ^ n) := sl1 (by omega)
  have hbd := cpV_bd (n := n) (cp := cp) (fun i hi => (h61 i hi).2)
  have h61' : ∀ i, i < n → I 61 i = nI (cp i) := fun i hi => (h61 i hi).1
  have key : ∀ j X, j + X = 2 ^ n → 0 < X → UC g d Q 5 [some (.ref 60), some (.int (nI P)), some (.int (nI r)), some (.int (nI y)), some (.int (nI X))] (pm_up I 60 8 (nI (sel (canP n y dy tk P) (cpV n cp) X))) J := by
    intro j
    induction j with
    | zero =>
      intro X hX hX0
      have e : X = 2 ^ n := by omega
      rw [e]
      have e7 : (pm_up I 60 8 (nI (sel (canP n y dy tk P) (cpV n cp) (2 ^ n)))) 60 7 = nI n := by rw [pm_up_n (by decide), h7]
      generalize pm_up I 60 8 (nI (sel (canP n y dy tk P) (cpV n cp) (2 ^ n))) = M at *
      clear h67 hbd h61 h61'
      refine bX1_choose_5 ?_
      simp (disch := first | omega | decide) only [w_nl0, w_nli, w_nlr, ↓w_ts1, ↓w_ts0, w_rcv, w_rfv, w_cs, true_and, and_true, List.length_nil, List.length_cons, Nat.reduceAdd, Nat.reduceLeDiff, Nat.zero_le, Nat.reduceLT, ↓w_nil, ix_nI, nI_leP, nI_ltP, nI_eqP, nI_1, ↓i_inN, i_inN, l_le, l_lt, l_eq, r_le, r_lt, r_eq, sh60, ↓w_iload_4, ↓w_iconst, ↓w_aload_0, ↓w_gf0, ↓w_ishl, ↓w_icge, ↓w_sipush, ↓w_gf3, ↓w_baload, ↓w_iload_1, ↓w_icgt, ↓w_iv, ↓pm_cl2_2, ↓w_icle, ↓w_pf0, e7, hsl]
      repeat' (first
        | (apply And.intro)
        | (simp only [w_in])
        | (intro _))
      all_goals grind
    | succ j ih =>
      intro X hX hX0
      have w := ih (X + 1) (by omega) (by omega)
      simp only [sel] at w
      have hB := sel_lt (can := canP n y dy tk P) (C := cpV n cp) X hX0
      generalize sel (canP n y dy tk P) (cpV n cp) X = B at *
      have hb1 := hbd B
      have hb2 := hbd X
      obtain ⟨v, ev, v1, v4, i1, i2, i3⟩ := h67 X hX0 (by omega)
      have hcan := pf_can hP i1 i2 i3
      have e7 : (pm_up I 60 8 (nI B)) 60 7 = nI n := by rw [pm_up_n (by decide), h7]
      have e67 : (pm_up I 60 8 (nI B)) 67 X = nI v := by rw [pm_up_o (by decide), ev]
      have e61 : ∀ i, i < n → (pm_up I 60 8 (nI B)) 61 i = nI (cp i) := fun i hi => by rw [pm_up_o (by decide)]; exact h61' i hi
      have e8 : (pm_up I 60 8 (nI B)) 60 8 = nI B := pm_up_s
      have eup : pm_up (pm_up I 60 8 (nI B)) 60 8 (nI X) = pm_up I 60 8 (nI X) := by
        funext a q
        by_cases ha : a = 60
        · subst ha
          rw [up_at, up_at, up_at]
          by_cases hq : q = 8
          · rw [if_pos hq, if_pos hq]
          · rw [if_neg hq, if_neg hq, if_neg hq]
        · rw [pm_up_o ha, pm_up_o ha, pm_up_o ha]
      by_cases c : cpV n cp B < cpV n cp X ∧ canP n y dy tk P X
      · rw [if_pos c, ← eup] at w
        have cc := c.1
        have cv := hcan.2 c.2
        clear ih hc h67 hbd h61 h61' i1 i2 i3 hcan c eup
        generalize pm_up I 60 8 (nI B) = M at *
        refine bX1_choose_5 ?_
        simp (disch := first | omega | decide) only [w_nl0, w_nli, w_nlr, ↓w_ts1, ↓w_ts0, w_rcv, w_rfv, w_cs, true_and, and_true, List.length_nil, List.length_cons, Nat.reduceAdd, Nat.reduceLeDiff, Nat.zero_le, Nat.reduceLT, ↓w_nil, ix_nI, nI_leP, nI_ltP, nI_eqP, nI_1, ↓i_inN, i_inN, l_le, l_lt, l_eq, r_le, r_lt, r_eq, sh60, ↓w_iload_4, ↓w_iconst, ↓w_aload_0, ↓w_gf0, ↓w_ishl, ↓w_icge, ↓w_sipush, ↓w_gf3, ↓w_baload, ↓w_iload_1, ↓w_icgt, ↓w_iv, ↓pm_cl2_2, ↓w_icle, ↓w_pf0, e7, hsl, e67]
        repeat' (first
          | (apply And.intro)
          | (with_reducible refine bX1_choose_6 ?_; simp (disch := first | omega | decide) only [w_nl0, w_nli, w_nlr, ↓w_ts1, ↓w_ts0, w_rcv, w_rfv, w_cs, true_and, and_true, List.length_nil, List.length_cons, Nat.reduceAdd, Nat.reduceLeDiff, Nat.zero_le, Nat.reduceLT, ↓w_nil, ix_nI, nI_leP, nI_ltP, nI_eqP, nI_1, ↓i_inN, i_inN, l_le, l_lt, l_eq, r_le, r_lt, r_eq, sh60, ↓w_aload_0, ↓w_iv, ↓pm_cl2_1, ↓w_iconst, ↓w_istore_4, ↓w_iload_4, ↓w_gf0, ↓w_icge, ↓w_gf3, ↓w_iload_2, ↓w_ifle, ↓w_iaload, ↓w_iadd, ↓w_isub, ↓w_idiv, ↓w_goto, ↓w_iastore, ↓w_iinc_4, ↓w_iload_3, ↓pm_cl2_2, ↓w_pf0, ↓w_ishl, ↓w_sipush, ↓w_baload, ↓w_iload_1, ↓w_icgt, ↓w_icle, ↓w_bipush, ↓pm_cl2_3, ↓w_pop, ↓w_vret, e67, e8, nI_add])
          | (with_reducible refine c_cpIn (cp := cp) (x := X) (by omega) hn (by omega) e7 e61 ?_ ; simp (disch := first | omega | decide) only [w_nl0, w_nli, w_nlr, ↓w_ts1, ↓w_ts0, w_rcv, w_rfv, w_cs, true_and, and_true, List.length_nil, List.length_cons, Nat.reduceAdd, Nat.reduceLeDiff, Nat.zero_le, Nat.reduceLT, ↓w_nil, ix_nI, nI_leP, nI_ltP, nI_eqP, nI_1, ↓i_inN, i_inN, l_le, l_lt, l_eq, r_le, r_lt, r_eq, sh60, ↓w_aload_0, ↓w_iv, ↓pm_cl2_1, ↓w_iconst, ↓w_istore_4, ↓w_iload_4, ↓w_gf0, ↓w_icge, ↓w_gf3, ↓w_iload_2, ↓w_ifle, ↓w_iaload, ↓w_iadd, ↓w_isub, ↓w_idiv, ↓w_goto, ↓w_iastore, ↓w_iinc_4, ↓w_iload_3, ↓pm_cl2_2, ↓w_pf0, ↓w_ishl, ↓w_sipush, ↓w_baload, ↓w_iload_1, ↓w_icgt, ↓w_icle, ↓w_bipush, ↓pm_cl2_3, ↓w_pop, ↓w_vret, e67, e8, nI_add])
          | (with_reducible refine c_cpIn (cp := cp) (x := B) (by omega) hn (by omega) e7 e61 ?_ ; simp (disch := first | omega | decide) only [w_nl0, w_nli, w_nlr, ↓w_ts1, ↓w_ts0, w_rcv, w_rfv, w_cs, true_and, and_true, List.length_nil, List.length_cons, Nat.reduceAdd, Nat.reduceLeDiff, Nat.zero_le, Nat.reduceLT, ↓w_nil, ix_nI, nI_leP, nI_ltP, nI_eqP, nI_1, ↓i_inN, i_inN, l_le, l_lt, l_eq, r_le, r_lt, r_eq, sh60, ↓w_aload_0, ↓w_iv, ↓pm_cl2_1, ↓w_iconst, ↓w_istore_4, ↓w_iload_4, ↓w_gf0, ↓w_icge, ↓w_gf3, ↓w_iload_2, ↓w_ifle, ↓w_iaload, ↓w_iadd, ↓w_isub, ↓w_idiv, ↓w_goto, ↓w_iastore, ↓w_iinc_4, ↓w_iload_3, ↓pm_cl2_2, ↓w_pf0, ↓w_ishl, ↓w_sipush, ↓w_baload, ↓w_iload_1, ↓w_icgt, ↓w_icle, ↓w_bipush, ↓pm_cl2_3, ↓w_pop, ↓w_vret, e67, e8, nI_add])
          | (simp only [w_in])
          | (intro _))
        all_goals (clear e61; grind)
      · rw [if_neg c] at w
        have cc : ¬ v ≤ P ∨ cpV n cp X ≤ cpV n cp B := by
          by_cases z : v ≤ P
          · right
            refine Classical.byContradiction (fun zz => c ⟨by omega, hcan.1 z⟩)
          · exact Or.inl z
        clear ih hc h67 hbd h61 h61' i1 i2 i3 hcan c eup
        generalize pm_up I 60 8 (nI B) = M at *
        refine bX1_choose_5 ?_
        simp (disch := first | omega | decide) only [w_nl0, w_nli, w_nlr, ↓w_ts1, ↓w_ts0, w_rcv, w_rfv, w_cs, true_and, and_true, List.length_nil, List.length_cons, Nat.reduceAdd, Nat.reduceLeDiff, Nat.zero_le, Nat.reduceLT, ↓w_nil, ix_nI, nI_leP, nI_ltP, nI_eqP, nI_1, ↓i_inN, i_inN, l_le, l_lt, l_eq, r_le, r_lt, r_eq, sh60, ↓w_iload_4, ↓w_iconst, ↓w_aload_0, ↓w_gf0, ↓w_ishl, ↓w_icge, ↓w_sipush, ↓w_gf3, ↓w_baload, ↓w_iload_1, ↓w_icgt, ↓w_iv, ↓pm_cl2_2, ↓w_icle, ↓w_pf0, e7, hsl, e67]
        repeat' (first
          | (apply And.intro)
          | (with_reducible refine bX1_choose_6 ?_; simp (disch := first | omega | decide) only [w_nl0, w_nli, w_nlr, ↓w_ts1, ↓w_ts0, w_rcv, w_rfv, w_cs, true_and, and_true, List.length_nil, List.length_cons, Nat.reduceAdd, Nat.reduceLeDiff, Nat.zero_le, Nat.reduceLT, ↓w_nil, ix_nI, nI_leP, nI_ltP, nI_eqP, nI_1, ↓i_inN, i_inN, l_le, l_lt, l_eq, r_le, r_lt, r_eq, sh60, ↓w_aload_0, ↓w_iv, ↓pm_cl2_1, ↓w_iconst, ↓w_istore_4, ↓w_iload_4, ↓w_gf0, ↓w_icge, ↓w_gf3, ↓w_iload_2, ↓w_ifle, ↓w_iaload, ↓w_iadd, ↓w_isub, ↓w_idiv, ↓w_goto, ↓w_iastore, ↓w_iinc_4, ↓w_iload_3, ↓pm_cl2_2, ↓w_pf0, ↓w_ishl, ↓w_sipush, ↓w_baload, ↓w_iload_1, ↓w_icgt, ↓w_icle, ↓w_bipush, ↓pm_cl2_3, ↓w_pop, ↓w_vret, e67, e8, nI_add])
          | (with_reducible refine c_cpIn (cp := cp) (x := X) (by omega) hn (by omega) e7 e61 ?_ ; simp (disch := first | omega | decide) only [w_nl0, w_nli, w_nlr, ↓w_ts1, ↓w_ts0, w_rcv, w_rfv, w_cs, true_and, and_true, List.length_nil, List.length_cons, Nat.reduceAdd, Nat.reduceLeDiff, Nat.zero_le, Nat.reduceLT, ↓w_nil, ix_nI, nI_leP, nI_ltP, nI_eqP, nI_1, ↓i_inN, i_inN, l_le, l_lt, l_eq, r_le, r_lt, r_eq, sh60, ↓w_aload_0, ↓w_iv, ↓pm_cl2_1, ↓w_iconst, ↓w_istore_4, ↓w_iload_4, ↓w_gf0, ↓w_icge, ↓w_gf3, ↓w_iload_2, ↓w_ifle, ↓w_iaload, ↓w_iadd, ↓w_isub, ↓w_idiv, ↓w_goto, ↓w_iastore, ↓w_iinc_4, ↓w_iload_3, ↓pm_cl2_2, ↓w_pf0, ↓w_ishl, ↓w_sipush, ↓w_baload, ↓w_iload_1, ↓w_icgt, ↓w_icle, ↓w_bipush, ↓pm_cl2_3, ↓w_pop, ↓w_vret, e67, e8, nI_add])
          | (with_reducible refine c_cpIn (cp := cp) (x := B) (by omega) hn (by omega) e7 e61 ?_ ; simp (disch := first | omega | decide) only [w_nl0, w_nli, w_nlr, ↓w_ts1, ↓w_ts0, w_rcv, w_rfv, w_cs, true_and, and_true, List.length_nil, List.length_cons, Nat.reduceAdd, Nat.reduceLeDiff, Nat.zero_le, Nat.reduceLT, ↓w_nil, ix_nI, nI_leP, nI_ltP, nI_eqP, nI_1, ↓i_inN, i_inN, l_le, l_lt, l_eq, r_le, r_lt, r_eq, sh60, ↓w_aload_0, ↓w_iv, ↓pm_cl2_1, ↓w_iconst, ↓w_istore_4, ↓w_iload_4, ↓w_gf0, ↓w_icge, ↓w_gf3, ↓w_iload_2, ↓w_ifle, ↓w_iaload, ↓w_iadd, ↓w_isub, ↓w_idiv, ↓w_goto, ↓w_iastore, ↓w_iinc_4, ↓w_iload_3, ↓pm_cl2_2, ↓w_pf0, ↓w_ishl, ↓w_sipush, ↓w_baload, ↓w_iload_1, ↓w_icgt, ↓w_icle, ↓w_bipush, ↓pm_cl2_3, ↓w_pop, ↓w_vret, e67, e8, nI_add])
          | (simp only [w_in])
          | (intro _))
        all_goals (clear e61; grind)
  have k := key (2 ^ n - 1) 1 (by omega) (by omega)
  have e1 : sel (canP n y dy tk P) (cpV n cp) 1 = 0 := by
    have := sel_lt (can := canP n y dy tk P) (C := cpV n cp) 1 (by omega)
    omega
  rw [e1] at k
  exact k
end C89
