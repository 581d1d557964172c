section C91u
variable {g : pm_G} {d : Nat} {Q : pm_Po} {S : pm_SS} {I : pm_MI} {J : pm_ML}
/-! ===== behind a told answer ===== -/
theorem mfr_cg1 {I2 : pm_MI} (h : ∀ a, a ≠ 1 → a < 42 → I2 a = I a) {m : Int32} : ∀ (q : Nat) (on k : Int32), mfr I2 m q on k = mfr I m q on k
  | 0, _, _ => rfl
  | q + 1, on, k => by
    have e : hasM I2 k = hasM I k := by unfold hasM; rw [h 9 (by omega) (by omega)]
    simp only [mfr, e, h 14 (by omega) (by omega), h 12 (by omega) (by omega), mfr_cg1 h q]
theorem plL_cg1 {I2 : pm_MI} (h : ∀ a, a ≠ 1 → a < 42 → I2 a = I a) {n N : Nat} : plL I2 n N = plL I n N := by
  have e1 : ∀ m, mdB I2 n N m = mdB I n N m := fun m => funext (fun y => by
    unfold mdB
    rw [h 12 (by omega) (by omega), h 14 (by omega) (by omega), h 28 (by omega) (by omega), h 25 (by omega) (by omega)])
  have e2 : ∀ m k, cvI I2 N m k = cvI I N m k := fun m k => by
    unfold cvI
    refine itr_cong (fun e _ b => ?_)
    rw [h 25 (by omega) (by omega), h 28 (by omega) (by omega), mfr_cg1 h]
  unfold plL plA plB
  congr 1
  · congr 1
    funext m
    unfold plM
    rw [e1]
    congr 1
    funext y
    rw [e2]
  · congr 1
    funext r
    unfold plR
    rw [h 25 (by omega) (by omega)]
theorem mo_cg1 {I2 : pm_MI} (h : ∀ a, a ≠ 1 → a < 42 → I2 a = I a) {t : Int32} {R : Nat} : moI I2 t R = moI I t R ∧ ∀ j, nhI I2 t R j = nhI I t R j := by
  have ef : fcI I2 = fcI I := by funext i; unfold fcI; rw [h 38 (by omega) (by omega), h 39 (by omega) (by omega)]
  refine ⟨funext fun x => ?_, fun j => ?_⟩
  · unfold moI; rw [h 40 (by omega) (by omega), h 41 (by omega) (by omega), ef]
  · unfold nhI; rw [h 40 (by omega) (by omega), h 41 (by omega) (by omega), ef]
theorem relZ.up {I2 : pm_MI} {n N Ty R : Nat} (z : relZ I n N Ty R) (h : ∀ a, a ≠ 1 → a ≠ 42 → a ≠ 54 → I2 a = I a) : relZ I2 n N Ty R := by
  have e : ∀ a, (a ≠ 1 ∧ a ≠ 42 ∧ a ≠ 54) → I2 a = I a := fun a ha => h a ha.1 ha.2.1 ha.2.2
  obtain ⟨z1, z2, z3, z4, z5, z6, z7⟩ := z
  obtain ⟨g1, _, _⟩ := rp_cg (I := I) (I2 := I2) (fun a h1 h2 => e a (by omega))
  refine ⟨?_, g1 z2, by rw [e 68 (by omega)]; exact z3, by rw [e 100 (by omega), e 38 (by omega)]; exact z4, by rw [e 101 (by omega), e 39 (by omega)]; exact z5, by rw [e 102 (by omega), e 40 (by omega)]; exact z6, by rw [e 103 (by omega), e 41 (by omega)]; exact z7⟩
  have em : ∀ m k, mdB I2 n N m k = mdB I n N m k := fun m k => by
    unfold mdB
    rw [e 12 (by omega), e 14 (by omega), e 28 (by omega), e 25 (by omega)]
  unfold wld at z1 ⊢
  simp only [em]
  rw [e 9 (by omega), e 12 (by omega), e 23 (by omega), e 68 (by omega), e 81 (by omega), e 83 (by omega), e 93 (by omega), e 14 (by omega), e 25 (by omega), e 96 (by omega), e 97 (by omega), e 28 (by omega)]
  exact z1
theorem m_seekT {I1 : pm_MI} {n N Ty R ms s : Nat} {t : Int32} {tal b : Int64} (hd : 8 ≤ d) (z : relZ I n N Ty R) (zz : relZ I1 n N Ty R) (f : ∀ a, a ≠ 1 → a < 42 → I1 a = I a) (hms : ms ≤ 60) (hs : s ≤ 3) (hmin : ∀ s', s' < s → pth (plL I n N).length (cvL (plL I n N)) (fun p => qtI I t (cvL (plL I n N) p) R) (ndI I t R) ms s' 0 0 = []) (hne : pth (plL I n N).length (cvL (plL I n N)) (fun p => qtI I t (cvL (plL I n N) p) R) (ndI I t R) ms s 0 0 ≠ []) (hQ : ∀ I' J' K Tm, frM I1 I' → frMJ J J' → plH I' J' (plL I n N) → J' 68 58 = ndI I t R → (∀ j, j < 60 → I' 109 j = nI (nhI I t R j)) → (0 < K ∧ K ≤ 4096000) → (Tm.length = s ∧ ∀ x, x ∈ Tm → x < (plL I n N).length) → (((pth (plL I n N).length (cvL (plL I n N)) (fun p => qtI I t (cvL (plL I n N) p) R) (ndI I t R) ms s 0 0).foldl (tkS (cvL (plL I n N)) (fun p => qtI I t (cvL (plL I n N) p) R) tal s) (0, b, fun _ => 0)).1 = nI K ∧ ((pth (plL I n N).length (cvL (plL I n N)) (fun p => qtI I t (cvL (plL I n N) p) R) (ndI I t R) ms s 0 0).foldl (tkS (cvL (plL I n N)) (fun p => qtI I t (cvL (plL I n N) p) R) tal s) (0, b, fun _ => 0)).2.1 = lN (rkQ (fun p => qtI I t (cvL (plL I n N) p) R) Tm)) → (I' 68 63 = nI K ∧ I' 68 61 = nI (pc (orL (fun p => qtI I t (cvL (plL I n N) p) R) Tm)) ∧ I' 68 60 = nI s ∧ ∀ i, i < 3 → I' 110 i = at3 (chM Tm 0) (chM Tm 1) (chM Tm 2) i) → (∀ k, k < 2 * N → ∃ z, z ≤ K ∧ I' 111 k = nI z ∧ (tb tal k = true → ((pth (plL I n N).length (cvL (plL I n N)) (fun p => qtI I t (cvL (plL I n N) p) R) (ndI I t R) ms s 0 0).foldl (tkS (cvL (plL I n N)) (fun p => qtI I t (cvL (plL I n N) p) R) tal s) (0, b, fun _ => 0)).2.2 k = nI z)) → Q (some (.int 1)) SH I' J') : pm_C g d 258 [.ref 68, .int t, .int (nI ms)] Q SH I1 J := by
  obtain ⟨y1, y2, y3, y4, y5, y6, y7⟩ := zz
  obtain ⟨_, g2, _⟩ := rp_cg (I := I) (I2 := I1) (fun a h1 h2 => f a (by omega) (by omega))
  have eL : plL I1 n N = plL I n N := plL_cg1 f
  obtain ⟨eM, eH⟩ := mo_cg1 f (t := t) (R := R)
  have hl := pl_lam z.1
  have hN := z.1.2.1.2
  have hLen := plL_len (I := I) (n := n) (N := N) z.1.1.2.1 z.1.2.1.2
  have hmo : ∀ T, moI I t R (orL (cvL (plL I n N)) T) = pc (orL (fun p => qtI I t (cvL (plL I n N) p) R) T) := fun T => mo_pc z.2.1.2.1
  refine m_seekCause (ms := ms) hd y1 y2 y3 y4 y5 y6 y7 (fun I' J' st f1 f2 f3 f4 f5 f6 f7 f8 => ?_)
  rw [eL] at f3
  rw [g2] at f4
  rw [eL, g2, eM] at f8 ⊢
  obtain ⟨K, Tm, k1, k2, k3, ⟨k4, k5, k6, k7⟩, k8⟩ := both (tal := tal) (b := b) (st := st) hLen hl hms hmo f6 hs hmin hne
  obtain ⟨v1, v2, v3, v4, v5⟩ := f8
  refine ⟨fun _ => hQ I' J' K Tm f1 f2 f3 f4 (fun j hj => by rw [f5 j hj, eH]) k1 k2 k3 ⟨v1.trans k4, v2.trans k5, v3.trans k6, fun i hi => (v4 i hi).trans (congrFun k7 i)⟩ (fun k hk => ?_), fun h => absurd ?_ h⟩
  · obtain ⟨z, z1, z2, z3⟩ := k8 k
    refine ⟨z, z1, ?_, z3⟩
    rw [v5 k hk, z2, f7 k (by omega), Int32.zero_add]
  · rw [k4, l_lt (n := 0) (by omega) (by omega)]
    exact k1.1
theorem frM.up2 {I2 : pm_MI} {v : Int32} (h : frM I I2) : frM (pm_up I 68 2 v) (pm_up I2 68 2 v) := ⟨fun a h1 h2 => by rw [pm_up_o h1, pm_up_o h1]; exact h.1 a h1 h2, fun j h1 h2 h3 h4 => by
  by_cases e : j = 2
  · rw [e, pm_up_s, pm_up_s]
  · rw [pm_up_n e, pm_up_n e]; exact h.2 j h1 h2 h3 h4⟩
/-! ===== which face to hear next: the class ===== -/
def nqI (I : pm_MI) (t : Int32) (R : Nat) : Int64 := itr (fun k a => if I 40 k = t ∧ I 41 k = 0 then a ||| bitL (fcI I k) else a) 0 R
theorem c_quietF {N R : Nat} {t : Int32} (hd : 3 ≤ d) (w : rpW I N R) (hQ : Q (some (.long (nqI I t R))) SH I J) : pm_C g d 51 [.ref 37, .int t, .int 0] Q SH I J := by
  refine c_faces hd w.1 w.2.1 ?_
  have e : itr (fun k a => if I 40 k = t ∧ I 41 k = 0 then a ||| 1 <<< ((2 * I 38 k + I 39 k).toInt64 &&& 63) else a) (0 : Int64) R = nqI I t R := itr_cong (fun k hk b => by
    rw [(w.2.2 k hk).1.1]; rfl)
  rw [e]; exact hQ
theorem bct_pos {p : Nat → Bool} : ∀ {n : Nat}, 0 < bct p n ↔ ∃ k, k < n ∧ p k = true
  | 0 => by simp [bct]
  | n + 1 => by
    have ih := bct_pos (p := p) (n := n)
    rw [bct]
    constructor
    · intro h
      cases hp : p n with
      | true => exact ⟨n, by omega, hp⟩
      | false =>
        rw [hp] at h
        obtain ⟨k, h1, h2⟩ := ih.mp h
        exact ⟨k, by omega, h2⟩
    · rintro ⟨k, h1, h2⟩
      by_cases e : k = n
      · subst e; rw [h2]; simp
      · have := ih.mpr ⟨k, by omega, h2⟩; omega
theorem tb_all {M k : Nat} (hM : M ≤ 60) : tb (bitL M - 1) k = decide (k < M) := by
  have key : ∀ M : Fin 61, ∀ k : Fin 64, tb (bitL M.val - 1) k.val = decide (k.val < M.val) := by decide +kernel
  rcases Nat.lt_or_ge k 64 with z | z
  · exact key ⟨M, by omega⟩ ⟨k, z⟩
  · rw [tb_ge z]; exact (decide_eq_false (by omega)).symm
def utI (I : pm_MI) (t : Int32) (N R : Nat) : Int64 := ((bitL (2 * N) - 1) &&& (ndI I t R ^^^ -1)) &&& (nqI I t R ^^^ -1)
theorem tb_ut {t : Int32} {N R k : Nat} (hN : N ≤ 30) (hf : ∀ i, i < R → fcI I i < 2 * N) : tb (utI I t N R) k = true ↔ k < 2 * N ∧ ¬ tb (ndI I t R) k = true ∧ ¬ 0 < nhI I t R k := by
  have e : tb (nqI I t R) k = true ↔ 0 < nhI I t R k := by
    unfold nqI nhI
    rw [tb_ito (fun i hi => by have := hf i hi; omega), bct_pos]
    constructor
    · rintro ⟨i, h1, h2, h3⟩; exact ⟨i, h1, decide_eq_true ⟨h2, h3⟩⟩
    · rintro ⟨i, h1, h2⟩; exact ⟨i, h1, (of_decide_eq_true h2).1, (of_decide_eq_true h2).2⟩
  unfold utI
  rw [tb_and, tb_and, tb_all (by omega), Bool.and_eq_true, Bool.and_eq_true, decide_eq_true_eq]
  constructor
  · rintro ⟨⟨h1, h2⟩, h3⟩
    rw [tb_not (by omega)] at h2 h3
    exact ⟨h1, by simpa using h2, fun z => by rw [e.mpr z] at h3; cases h3⟩
  · rintro ⟨h1, h2, h3⟩
    rw [tb_not (by omega), tb_not (by omega)]
    refine ⟨⟨h1, by simpa using h2⟩, ?_⟩
    cases hq : tb (nqI I t R) k with
    | false => rfl
    | true => exact absurd (e.mp hq) h3
def gpI (I : pm_MI) (f : Nat) : Int32 := if I 53 f < I 42 13 - I 53 f then I 42 13 - I 53 f else I 53 f
theorem c_greaterPart {f : Nat} (hd : 2 ≤ d) (hf : f < 60) (hQ : Q (some (.int (gpI I f))) SH I J) : pm_C g d 103 [.ref 42, .int (nI f)] Q SH I J := by
  unfold gpI at hQ
  have h1 : (0 : Int32) ≤ nI f ∧ nI f < nI 60 := ⟨nI_pos' (by omega), nI_lt hf (by omega)⟩
  refine eX8_greaterPart (by omega) ?_
  repeat' (first
    | (apply And.intro)
    | (with_reducible refine bX8_greaterPart_0 ?_; simp -implicitDefEqProofs (disch := first | omega | decide) only [w_nl0, w_nli, w_nlr, ↓w_ts1, ↓w_ts0, w_rcv, w_rfv, w_cs, true_and, and_true, List.length_nil, List.length_cons, Nat.reduceAdd, Nat.reduceLeDiff, Nat.zero_le, Nat.reduceLT, ↓w_nil, ix_nI, nI_leP, nI_ltP, nI_eqP, nI_1, ↓i_inN, i_inN, l_le, l_lt, l_eq, r_le, r_lt, r_eq, sh42, sh43, sh37, sh9, sh23, ↓w_iload_1, ↓w_aload_0, ↓w_gf3, ↓w_alen, ↓w_slen, ↓w_is, ↓pm_cl1_2, ↓w_ifeq, ↓w_iaload, ↓w_gf0, ↓w_isub, ↓w_mmaxT, ↓w_goto, ↓w_iconst, ↓w_ret, l_onI, if_pos h1])
    | (with_reducible refine bX8_greaterPart_1 ?_; simp -implicitDefEqProofs (disch := first | omega | decide) only [w_nl0, w_nli, w_nlr, ↓w_ts1, ↓w_ts0, w_rcv, w_rfv, w_cs, true_and, and_true, List.length_nil, List.length_cons, Nat.reduceAdd, Nat.reduceLeDiff, Nat.zero_le, Nat.reduceLT, ↓w_nil, ix_nI, nI_leP, nI_ltP, nI_eqP, nI_1, ↓i_inN, i_inN, l_le, l_lt, l_eq, r_le, r_lt, r_eq, sh42, sh43, sh37, sh9, sh23, ↓w_iload_1, ↓w_aload_0, ↓w_gf3, ↓w_alen, ↓w_slen, ↓w_is, ↓pm_cl1_2, ↓w_ifeq, ↓w_iaload, ↓w_gf0, ↓w_isub, ↓w_mmaxT, ↓w_goto, ↓w_iconst, ↓w_ret, l_onI, if_pos h1])
    | (with_reducible refine bX8_greaterPart_2 ?_; simp -implicitDefEqProofs (disch := first | omega | decide) only [w_nl0, w_nli, w_nlr, ↓w_ts1, ↓w_ts0, w_rcv, w_rfv, w_cs, true_and, and_true, List.length_nil, List.length_cons, Nat.reduceAdd, Nat.reduceLeDiff, Nat.zero_le, Nat.reduceLT, ↓w_nil, ix_nI, nI_leP, nI_ltP, nI_eqP, nI_1, ↓i_inN, i_inN, l_le, l_lt, l_eq, r_le, r_lt, r_eq, sh42, sh43, sh37, sh9, sh23, ↓w_iload_1, ↓w_aload_0, ↓w_gf3, ↓w_alen, ↓w_slen, ↓w_is, ↓pm_cl1_2, ↓w_ifeq, ↓w_iaload, ↓w_gf0, ↓w_isub, ↓w_mmaxT, ↓w_goto, ↓w_iconst, ↓w_ret, l_onI, if_pos h1])
    | (with_reducible refine c_below (by omega) ?_ ; simp -implicitDefEqProofs (disch := first | omega | decide) only [w_nl0, w_nli, w_nlr, ↓w_ts1, ↓w_ts0, w_rcv, w_rfv, w_cs, true_and, and_true, List.length_nil, List.length_cons, Nat.reduceAdd, Nat.reduceLeDiff, Nat.zero_le, Nat.reduceLT, ↓w_nil, ix_nI, nI_leP, nI_ltP, nI_eqP, nI_1, ↓i_inN, i_inN, l_le, l_lt, l_eq, r_le, r_lt, r_eq, sh42, sh43, sh37, sh9, sh23, ↓w_iload_1, ↓w_aload_0, ↓w_gf3, ↓w_alen, ↓w_slen, ↓w_is, ↓pm_cl1_2, ↓w_ifeq, ↓w_iaload, ↓w_gf0, ↓w_isub, ↓w_mmaxT, ↓w_goto, ↓w_iconst, ↓w_ret, l_onI, if_pos h1])
    | (simp only [w_in])
    | (intro _))
  all_goals first | (with_reducible exact hQ) | omega | grind
def evF (I : pm_MI) (tal : Int64) (f : Nat) (nx : Int32) : Int32 := if tb tal f = true ∧ (nx = -9 ∨ gpI I f < gpI I nx.toNatClampNeg) then nI f else nx
theorem ev_in {tal : Int64} : ∀ {n : Nat}, itr (evF I tal) (-9) n = -9 ∨ ∃ j, j < n ∧ itr (evF I tal) (-9) n = nI j
  | 0 => Or.inl rfl
  | n + 1 => by
    rw [itr_s]
    generalize hy : itr (evF I tal) (-9) n = y
    have ih := ev_in (tal := tal) (n := n)
    rw [hy] at ih
    unfold evF
    split
    · exact Or.inr ⟨n, by omega, rfl⟩
    · rcases ih with ih | ⟨j, hj, e⟩
      · exact Or.inl ih
      · exact Or.inr ⟨j, by omega, e⟩
theorem c_evenest {tal : Int64} (hd : 4 ≤ d) (h10 : J 42 10 = tal) (hQ : Q (some (.int (itr (evF I tal) (-9) 60))) SH I J) : pm_C g d 102 [.ref 42] Q SH I J := by
  refine eX8_evenest (by omega) ?_
  refine bX8_evenest_0 ?_
  simp (disch := first | omega | decide) only [w_nl0, w_nli, w_nlr, ↓w_ts1, ↓w_ts0, w_rcv, w_rfv, w_cs, true_and, and_true, List.length_nil, List.length_cons, Nat.reduceAdd, Nat.reduceLeDiff, Nat.zero_le, Nat.reduceLT, ↓w_nil, ix_nI, nI_leP, nI_ltP, nI_eqP, nI_1, ↓i_inN, i_inN, l_le, l_lt, l_eq, r_le, r_lt, r_eq, sh42, sh43, sh37, sh9, sh23, ↓w_bipush, ↓w_istore_1, ↓w_iconst, ↓w_istore_2]
  refine pm_for (f := evF I tal) (U := fun k a => UU g (d - 1) 102 kX8_evenest (pm_rm d 102) Q 1 [some (.ref 42), some (.int a), some (.int (nI k))] [] SH I J (0, 0)) 60 (fun k b hk hb w => ?_) ?_
  · have hin : b = -9 ∨ ∃ j, j < 60 ∧ b = nI j := by
      rcases ev_in (I := I) (tal := tal) (n := k) with e | ⟨j, hj, e⟩
      · exact Or.inl (hb.trans e)
      · exact Or.inr ⟨j, by omega, hb.trans e⟩
    have hz : us tal (nI k) &&& 1 = 0 ↔ ¬ tb tal k = true := by rw [and_1, tb_us (by omega), Nat.add_zero]
    clear hQ hb
    unfold evF at w
    by_cases hc : tb tal k = true
    · have hz2 : ¬ us tal (nI k) &&& 1 = 0 := fun y => hz.mp y hc
      rcases hin with rfl | ⟨j, hj, rfl⟩
      · rw [if_pos ⟨hc, Or.inl rfl⟩] at w
        clear hz
        refine bX8_evenest_1 ?_
        simp (disch := first | omega | decide) only [w_nl0, w_nli, w_nlr, ↓w_ts1, ↓w_ts0, w_rcv, w_rfv, w_cs, true_and, and_true, List.length_nil, List.length_cons, Nat.reduceAdd, Nat.reduceLeDiff, Nat.zero_le, Nat.reduceLT, ↓w_nil, ix_nI, nI_leP, nI_ltP, nI_eqP, nI_1, ↓i_inN, i_inN, l_le, l_lt, l_eq, r_le, r_lt, r_eq, sh42, sh43, sh37, sh9, sh23, ↓w_iload_2, ↓w_aload_0, ↓w_gf3, ↓w_alen, ↓w_slen, ↓w_icge, ↓w_gf1, ↓w_lushr, ↓w_lconst1, ↓w_land, ↓w_lconst0, ↓w_lcmp, ↓w_ifne, ↓w_goto, l_onI, h10, us_f, lg_eq0]
        repeat' (first
          | (apply And.intro)
          | (with_reducible refine bX8_evenest_2 ?_; simp (disch := first | omega | decide) only [w_nl0, w_nli, w_nlr, ↓w_ts1, ↓w_ts0, w_rcv, w_rfv, w_cs, true_and, and_true, List.length_nil, List.length_cons, Nat.reduceAdd, Nat.reduceLeDiff, Nat.zero_le, Nat.reduceLT, ↓w_nil, ix_nI, nI_leP, nI_ltP, nI_eqP, nI_1, ↓i_inN, i_inN, l_le, l_lt, l_eq, r_le, r_lt, r_eq, sh42, sh43, sh37, sh9, sh23, ↓w_bipush, ↓w_istore_1, ↓w_iconst, ↓w_istore_2, ↓w_iload_2, ↓w_aload_0, ↓w_gf3, ↓w_alen, ↓w_slen, ↓w_icge, ↓w_gf1, ↓w_lushr, ↓w_lconst1, ↓w_land, ↓w_lconst0, ↓w_lcmp, ↓w_ifne, ↓w_goto, ↓w_iload_1, ↓w_iceq, ↓w_iv, ↓pm_cl2_2, ↓w_iinc_2, ↓w_ret, l_onI, h10, us_f, lg_eq0])
          | (with_reducible refine bX8_evenest_3 ?_; simp (disch := first | omega | decide) only [w_nl0, w_nli, w_nlr, ↓w_ts1, ↓w_ts0, w_rcv, w_rfv, w_cs, true_and, and_true, List.length_nil, List.length_cons, Nat.reduceAdd, Nat.reduceLeDiff, Nat.zero_le, Nat.reduceLT, ↓w_nil, ix_nI, nI_leP, nI_ltP, nI_eqP, nI_1, ↓i_inN, i_inN, l_le, l_lt, l_eq, r_le, r_lt, r_eq, sh42, sh43, sh37, sh9, sh23, ↓w_bipush, ↓w_istore_1, ↓w_iconst, ↓w_istore_2, ↓w_iload_2, ↓w_aload_0, ↓w_gf3, ↓w_alen, ↓w_slen, ↓w_icge, ↓w_gf1, ↓w_lushr, ↓w_lconst1, ↓w_land, ↓w_lconst0, ↓w_lcmp, ↓w_ifne, ↓w_goto, ↓w_iload_1, ↓w_iceq, ↓w_iv, ↓pm_cl2_2, ↓w_iinc_2, ↓w_ret, l_onI, h10, us_f, lg_eq0])
          | (with_reducible refine bX8_evenest_4 ?_; simp (disch := first | omega | decide) only [w_nl0, w_nli, w_nlr, ↓w_ts1, ↓w_ts0, w_rcv, w_rfv, w_cs, true_and, and_true, List.length_nil, List.length_cons, Nat.reduceAdd, Nat.reduceLeDiff, Nat.zero_le, Nat.reduceLT, ↓w_nil, ix_nI, nI_leP, nI_ltP, nI_eqP, nI_1, ↓i_inN, i_inN, l_le, l_lt, l_eq, r_le, r_lt, r_eq, sh42, sh43, sh37, sh9, sh23, ↓w_bipush, ↓w_istore_1, ↓w_iconst, ↓w_istore_2, ↓w_iload_2, ↓w_aload_0, ↓w_gf3, ↓w_alen, ↓w_slen, ↓w_icge, ↓w_gf1, ↓w_lushr, ↓w_lconst1, ↓w_land, ↓w_lconst0, ↓w_lcmp, ↓w_ifne, ↓w_goto, ↓w_iload_1, ↓w_iceq, ↓w_iv, ↓pm_cl2_2, ↓w_iinc_2, ↓w_ret, l_onI, h10, us_f, lg_eq0])
          | (simp only [w_in])
          | (intro _))
        all_goals first | (with_reducible exact w) | omega | grind
      · have h9 := n9 (j := j) (by omega)
        have hix : (nI j).toNatClampNeg = j := ix_nI (by omega)
        rw [hix] at w
        by_cases hl : gpI I k < gpI I j
        · rw [if_pos ⟨hc, Or.inr hl⟩] at w
          clear hz
          refine bX8_evenest_1 ?_
          simp (disch := first | omega | decide) only [w_nl0, w_nli, w_nlr, ↓w_ts1, ↓w_ts0, w_rcv, w_rfv, w_cs, true_and, and_true, List.length_nil, List.length_cons, Nat.reduceAdd, Nat.reduceLeDiff, Nat.zero_le, Nat.reduceLT, ↓w_nil, ix_nI, nI_leP, nI_ltP, nI_eqP, nI_1, ↓i_inN, i_inN, l_le, l_lt, l_eq, r_le, r_lt, r_eq, sh42, sh43, sh37, sh9, sh23, ↓w_iload_2, ↓w_aload_0, ↓w_gf3, ↓w_alen, ↓w_slen, ↓w_icge, ↓w_gf1, ↓w_lushr, ↓w_lconst1, ↓w_land, ↓w_lconst0, ↓w_lcmp, ↓w_ifne, ↓w_goto, l_onI, h10, us_f, lg_eq0]
          repeat' (first
            | (apply And.intro)
            | (with_reducible refine bX8_evenest_2 ?_; simp (disch := first | omega | decide) only [w_nl0, w_nli, w_nlr, ↓w_ts1, ↓w_ts0, w_rcv, w_rfv, w_cs, true_and, and_true, List.length_nil, List.length_cons, Nat.reduceAdd, Nat.reduceLeDiff, Nat.zero_le, Nat.reduceLT, ↓w_nil, ix_nI, nI_leP, nI_ltP, nI_eqP, nI_1, ↓i_inN, i_inN, l_le, l_lt, l_eq, r_le, r_lt, r_eq, sh42, sh43, sh37, sh9, sh23, ↓w_bipush, ↓w_istore_1, ↓w_iconst, ↓w_istore_2, ↓w_iload_2, ↓w_aload_0, ↓w_gf3, ↓w_alen, ↓w_slen, ↓w_icge, ↓w_gf1, ↓w_lushr, ↓w_lconst1, ↓w_land, ↓w_lconst0, ↓w_lcmp, ↓w_ifne, ↓w_goto, ↓w_iload_1, ↓w_iceq, ↓w_iv, ↓pm_cl2_2, ↓w_iinc_2, ↓w_ret, l_onI, h10, us_f, lg_eq0])
            | (with_reducible refine bX8_evenest_3 ?_; simp (disch := first | omega | decide) only [w_nl0, w_nli, w_nlr, ↓w_ts1, ↓w_ts0, w_rcv, w_rfv, w_cs, true_and, and_true, List.length_nil, List.length_cons, Nat.reduceAdd, Nat.reduceLeDiff, Nat.zero_le, Nat.reduceLT, ↓w_nil, ix_nI, nI_leP, nI_ltP, nI_eqP, nI_1, ↓i_inN, i_inN, l_le, l_lt, l_eq, r_le, r_lt, r_eq, sh42, sh43, sh37, sh9, sh23, ↓w_bipush, ↓w_istore_1, ↓w_iconst, ↓w_istore_2, ↓w_iload_2, ↓w_aload_0, ↓w_gf3, ↓w_alen, ↓w_slen, ↓w_icge, ↓w_gf1, ↓w_lushr, ↓w_lconst1, ↓w_land, ↓w_lconst0, ↓w_lcmp, ↓w_ifne, ↓w_goto, ↓w_iload_1, ↓w_iceq, ↓w_iv, ↓pm_cl2_2, ↓w_iinc_2, ↓w_ret, l_onI, h10, us_f, lg_eq0])
            | (with_reducible refine bX8_evenest_4 ?_; simp (disch := first | omega | decide) only [w_nl0, w_nli, w_nlr, ↓w_ts1, ↓w_ts0, w_rcv, w_rfv, w_cs, true_and, and_true, List.length_nil, List.length_cons, Nat.reduceAdd, Nat.reduceLeDiff, Nat.zero_le, Nat.reduceLT, ↓w_nil, ix_nI, nI_leP, nI_ltP, nI_eqP, nI_1, ↓i_inN, i_inN, l_le, l_lt, l_eq, r_le, r_lt, r_eq, sh42, sh43, sh37, sh9, sh23, ↓w_bipush, ↓w_istore_1, ↓w_iconst, ↓w_istore_2, ↓w_iload_2, ↓w_aload_0, ↓w_gf3, ↓w_alen, ↓w_slen, ↓w_icge, ↓w_gf1, ↓w_lushr, ↓w_lconst1, ↓w_land, ↓w_lconst0, ↓w_lcmp, ↓w_ifne, ↓w_goto, ↓w_iload_1, ↓w_iceq, ↓w_iv, ↓pm_cl2_2, ↓w_iinc_2, ↓w_ret, l_onI, h10, us_f, lg_eq0])
            | (with_reducible refine c_greaterPart (by omega) (by omega) ?_ ; simp (disch := first | omega | decide) only [w_nl0, w_nli, w_nlr, ↓w_ts1, ↓w_ts0, w_rcv, w_rfv, w_cs, true_and, and_true, List.length_nil, List.length_cons, Nat.reduceAdd, Nat.reduceLeDiff, Nat.zero_le, Nat.reduceLT, ↓w_nil, ix_nI, nI_leP, nI_ltP, nI_eqP, nI_1, ↓i_inN, i_inN, l_le, l_lt, l_eq, r_le, r_lt, r_eq, sh42, sh43, sh37, sh9, sh23, ↓w_bipush, ↓w_istore_1, ↓w_iconst, ↓w_istore_2, ↓w_iload_2, ↓w_aload_0, ↓w_gf3, ↓w_alen, ↓w_slen, ↓w_icge, ↓w_gf1, ↓w_lushr, ↓w_lconst1, ↓w_land, ↓w_lconst0, ↓w_lcmp, ↓w_ifne, ↓w_goto, ↓w_iload_1, ↓w_iceq, ↓w_iv, ↓pm_cl2_2, ↓w_iinc_2, ↓w_ret, l_onI, h10, us_f, lg_eq0])
            | (simp only [w_in])
            | (intro _))
          all_goals first | (with_reducible exact w) | omega | grind
        · rw [if_neg (fun y => by rcases y.2 with y | y; exact h9 y; exact hl y)] at w
          clear hz
          refine bX8_evenest_1 ?_
          simp (disch := first | omega | decide) only [w_nl0, w_nli, w_nlr, ↓w_ts1, ↓w_ts0, w_rcv, w_rfv, w_cs, true_and, and_true, List.length_nil, List.length_cons, Nat.reduceAdd, Nat.reduceLeDiff, Nat.zero_le, Nat.reduceLT, ↓w_nil, ix_nI, nI_leP, nI_ltP, nI_eqP, nI_1, ↓i_inN, i_inN, l_le, l_lt, l_eq, r_le, r_lt, r_eq, sh42, sh43, sh37, sh9, sh23, ↓w_iload_2, ↓w_aload_0, ↓w_gf3, ↓w_alen, ↓w_slen, ↓w_icge, ↓w_gf1, ↓w_lushr, ↓w_lconst1, ↓w_land, ↓w_lconst0, ↓w_lcmp, ↓w_ifne, ↓w_goto, l_onI, h10, us_f, lg_eq0]
          repeat' (first
            | (apply And.intro)
            | (with_reducible refine bX8_evenest_2 ?_; simp (disch := first | omega | decide) only [w_nl0, w_nli, w_nlr, ↓w_ts1, ↓w_ts0, w_rcv, w_rfv, w_cs, true_and, and_true, List.length_nil, List.length_cons, Nat.reduceAdd, Nat.reduceLeDiff, Nat.zero_le, Nat.reduceLT, ↓w_nil, ix_nI, nI_leP, nI_ltP, nI_eqP, nI_1, ↓i_inN, i_inN, l_le, l_lt, l_eq, r_le, r_lt, r_eq, sh42, sh43, sh37, sh9, sh23, ↓w_bipush, ↓w_istore_1, ↓w_iconst, ↓w_istore_2, ↓w_iload_2, ↓w_aload_0, ↓w_gf3, ↓w_alen, ↓w_slen, ↓w_icge, ↓w_gf1, ↓w_lushr, ↓w_lconst1, ↓w_land, ↓w_lconst0, ↓w_lcmp, ↓w_ifne, ↓w_goto, ↓w_iload_1, ↓w_iceq, ↓w_iv, ↓pm_cl2_2, ↓w_iinc_2, ↓w_ret, l_onI, h10, us_f, lg_eq0])
            | (with_reducible refine bX8_evenest_3 ?_; simp (disch := first | omega | decide) only [w_nl0, w_nli, w_nlr, ↓w_ts1, ↓w_ts0, w_rcv, w_rfv, w_cs, true_and, and_true, List.length_nil, List.length_cons, Nat.reduceAdd, Nat.reduceLeDiff, Nat.zero_le, Nat.reduceLT, ↓w_nil, ix_nI, nI_leP, nI_ltP, nI_eqP, nI_1, ↓i_inN, i_inN, l_le, l_lt, l_eq, r_le, r_lt, r_eq, sh42, sh43, sh37, sh9, sh23, ↓w_bipush, ↓w_istore_1, ↓w_iconst, ↓w_istore_2, ↓w_iload_2, ↓w_aload_0, ↓w_gf3, ↓w_alen, ↓w_slen, ↓w_icge, ↓w_gf1, ↓w_lushr, ↓w_lconst1, ↓w_land, ↓w_lconst0, ↓w_lcmp, ↓w_ifne, ↓w_goto, ↓w_iload_1, ↓w_iceq, ↓w_iv, ↓pm_cl2_2, ↓w_iinc_2, ↓w_ret, l_onI, h10, us_f, lg_eq0])
            | (with_reducible refine bX8_evenest_4 ?_; simp (disch := first | omega | decide) only [w_nl0, w_nli, w_nlr, ↓w_ts1, ↓w_ts0, w_rcv, w_rfv, w_cs, true_and, and_true, List.length_nil, List.length_cons, Nat.reduceAdd, Nat.reduceLeDiff, Nat.zero_le, Nat.reduceLT, ↓w_nil, ix_nI, nI_leP, nI_ltP, nI_eqP, nI_1, ↓i_inN, i_inN, l_le, l_lt, l_eq, r_le, r_lt, r_eq, sh42, sh43, sh37, sh9, sh23, ↓w_bipush, ↓w_istore_1, ↓w_iconst, ↓w_istore_2, ↓w_iload_2, ↓w_aload_0, ↓w_gf3, ↓w_alen, ↓w_slen, ↓w_icge, ↓w_gf1, ↓w_lushr, ↓w_lconst1, ↓w_land, ↓w_lconst0, ↓w_lcmp, ↓w_ifne, ↓w_goto, ↓w_iload_1, ↓w_iceq, ↓w_iv, ↓pm_cl2_2, ↓w_iinc_2, ↓w_ret, l_onI, h10, us_f, lg_eq0])
            | (with_reducible refine c_greaterPart (by omega) (by omega) ?_ ; simp (disch := first | omega | decide) only [w_nl0, w_nli, w_nlr, ↓w_ts1, ↓w_ts0, w_rcv, w_rfv, w_cs, true_and, and_true, List.length_nil, List.length_cons, Nat.reduceAdd, Nat.reduceLeDiff, Nat.zero_le, Nat.reduceLT, ↓w_nil, ix_nI, nI_leP, nI_ltP, nI_eqP, nI_1, ↓i_inN, i_inN, l_le, l_lt, l_eq, r_le, r_lt, r_eq, sh42, sh43, sh37, sh9, sh23, ↓w_bipush, ↓w_istore_1, ↓w_iconst, ↓w_istore_2, ↓w_iload_2, ↓w_aload_0, ↓w_gf3, ↓w_alen, ↓w_slen, ↓w_icge, ↓w_gf1, ↓w_lushr, ↓w_lconst1, ↓w_land, ↓w_lconst0, ↓w_lcmp, ↓w_ifne, ↓w_goto, ↓w_iload_1, ↓w_iceq, ↓w_iv, ↓pm_cl2_2, ↓w_iinc_2, ↓w_ret, l_onI, h10, us_f, lg_eq0])
            | (simp only [w_in])
            | (intro _))
          all_goals first | (with_reducible exact w) | omega | grind
    · have hz2 := hz.mpr hc
      rw [if_neg (fun y => hc y.1)] at w
      clear hz hin
      refine bX8_evenest_1 ?_
      simp (disch := first | omega | decide) only [w_nl0, w_nli, w_nlr, ↓w_ts1, ↓w_ts0, w_rcv, w_rfv, w_cs, true_and, and_true, List.length_nil, List.length_cons, Nat.reduceAdd, Nat.reduceLeDiff, Nat.zero_le, Nat.reduceLT, ↓w_nil, ix_nI, nI_leP, nI_ltP, nI_eqP, nI_1, ↓i_inN, i_inN, l_le, l_lt, l_eq, r_le, r_lt, r_eq, sh42, sh43, sh37, sh9, sh23, ↓w_iload_2, ↓w_aload_0, ↓w_gf3, ↓w_alen, ↓w_slen, ↓w_icge, ↓w_gf1, ↓w_lushr, ↓w_lconst1, ↓w_land, ↓w_lconst0, ↓w_lcmp, ↓w_ifne, ↓w_goto, l_onI, h10, us_f, lg_eq0, hz2]
      repeat' (first
        | (apply And.intro)
        | (with_reducible refine bX8_evenest_2 ?_; simp (disch := first | omega | decide) only [w_nl0, w_nli, w_nlr, ↓w_ts1, ↓w_ts0, w_rcv, w_rfv, w_cs, true_and, and_true, List.length_nil, List.length_cons, Nat.reduceAdd, Nat.reduceLeDiff, Nat.zero_le, Nat.reduceLT, ↓w_nil, ix_nI, nI_leP, nI_ltP, nI_eqP, nI_1, ↓i_inN, i_inN, l_le, l_lt, l_eq, r_le, r_lt, r_eq, sh42, sh43, sh37, sh9, sh23, ↓w_bipush, ↓w_istore_1, ↓w_iconst, ↓w_istore_2, ↓w_iload_2, ↓w_aload_0, ↓w_gf3, ↓w_alen, ↓w_slen, ↓w_icge, ↓w_gf1, ↓w_lushr, ↓w_lconst1, ↓w_land, ↓w_lconst0, ↓w_lcmp, ↓w_ifne, ↓w_goto, ↓w_iload_1, ↓w_iceq, ↓w_iv, ↓pm_cl2_2, ↓w_iinc_2, ↓w_ret, l_onI, h10, us_f, lg_eq0, hz2])
        | (with_reducible refine bX8_evenest_3 ?_; simp (disch := first | omega | decide) only [w_nl0, w_nli, w_nlr, ↓w_ts1, ↓w_ts0, w_rcv, w_rfv, w_cs, true_and, and_true, List.length_nil, List.length_cons, Nat.reduceAdd, Nat.reduceLeDiff, Nat.zero_le, Nat.reduceLT, ↓w_nil, ix_nI, nI_leP, nI_ltP, nI_eqP, nI_1, ↓i_inN, i_inN, l_le, l_lt, l_eq, r_le, r_lt, r_eq, sh42, sh43, sh37, sh9, sh23, ↓w_bipush, ↓w_istore_1, ↓w_iconst, ↓w_istore_2, ↓w_iload_2, ↓w_aload_0, ↓w_gf3, ↓w_alen, ↓w_slen, ↓w_icge, ↓w_gf1, ↓w_lushr, ↓w_lconst1, ↓w_land, ↓w_lconst0, ↓w_lcmp, ↓w_ifne, ↓w_goto, ↓w_iload_1, ↓w_iceq, ↓w_iv, ↓pm_cl2_2, ↓w_iinc_2, ↓w_ret, l_onI, h10, us_f, lg_eq0, hz2])
        | (with_reducible refine bX8_evenest_4 ?_; simp (disch := first | omega | decide) only [w_nl0, w_nli, w_nlr, ↓w_ts1, ↓w_ts0, w_rcv, w_rfv, w_cs, true_and, and_true, List.length_nil, List.length_cons, Nat.reduceAdd, Nat.reduceLeDiff, Nat.zero_le, Nat.reduceLT, ↓w_nil, ix_nI, nI_leP, nI_ltP, nI_eqP, nI_1, ↓i_inN, i_inN, l_le, l_lt, l_eq, r_le, r_lt, r_eq, sh42, sh43, sh37, sh9, sh23, ↓w_bipush, ↓w_istore_1, ↓w_iconst, ↓w_istore_2, ↓w_iload_2, ↓w_aload_0, ↓w_gf3, ↓w_alen, ↓w_slen, ↓w_icge, ↓w_gf1, ↓w_lushr, ↓w_lconst1, ↓w_land, ↓w_lconst0, ↓w_lcmp, ↓w_ifne, ↓w_goto, ↓w_iload_1, ↓w_iceq, ↓w_iv, ↓pm_cl2_2, ↓w_iinc_2, ↓w_ret, l_onI, h10, us_f, lg_eq0, hz2])
        | (simp only [w_in])
        | (intro _))
      all_goals first | (with_reducible exact w) | omega | grind
  · refine bX8_evenest_1 ?_
    simp (disch := first | omega | decide) only [w_nl0, w_nli, w_nlr, ↓w_ts1, ↓w_ts0, w_rcv, w_rfv, w_cs, true_and, and_true, List.length_nil, List.length_cons, Nat.reduceAdd, Nat.reduceLeDiff, Nat.zero_le, Nat.reduceLT, ↓w_nil, ix_nI, nI_leP, nI_ltP, nI_eqP, nI_1, ↓i_inN, i_inN, l_le, l_lt, l_eq, r_le, r_lt, r_eq, sh42, sh43, sh37, sh9, sh23, ↓w_iload_2, ↓w_aload_0, ↓w_gf3, ↓w_alen, ↓w_slen, ↓w_icge, ↓w_gf1, ↓w_lushr, ↓w_lconst1, ↓w_land, ↓w_lconst0, ↓w_lcmp, ↓w_ifne, ↓w_goto, l_onI]
    repeat' (first
      | (apply And.intro)
      | (with_reducible refine bX8_evenest_5 ?_; simp (disch := first | omega | decide) only [w_nl0, w_nli, w_nlr, ↓w_ts1, ↓w_ts0, w_rcv, w_rfv, w_cs, true_and, and_true, List.length_nil, List.length_cons, Nat.reduceAdd, Nat.reduceLeDiff, Nat.zero_le, Nat.reduceLT, ↓w_nil, ix_nI, nI_leP, nI_ltP, nI_eqP, nI_1, ↓i_inN, i_inN, l_le, l_lt, l_eq, r_le, r_lt, r_eq, sh42, sh43, sh37, sh9, sh23, ↓w_bipush, ↓w_istore_1, ↓w_iconst, ↓w_istore_2, ↓w_iload_2, ↓w_aload_0, ↓w_gf3, ↓w_alen, ↓w_slen, ↓w_icge, ↓w_gf1, ↓w_lushr, ↓w_lconst1, ↓w_land, ↓w_lconst0, ↓w_lcmp, ↓w_ifne, ↓w_goto, ↓w_iload_1, ↓w_iceq, ↓w_iv, ↓pm_cl2_2, ↓w_iinc_2, ↓w_ret])
      | (simp only [w_in])
      | (intro _))
    all_goals first | (with_reducible exact hQ) | omega | grind
end C91u
