section C91s
variable {g : pm_G} {d : Nat} {Q : pm_Po} {S : pm_SS} {I : pm_MI} {J : pm_ML}
/-! ===== what the relation says for the search ===== -/
theorem rel_wld (h : Rel I J) : ∃ n N Ty R, wld I n N Ty ∧ rpW I N R ∧ I 68 47 = nI R ∧ I 100 = I 38 ∧ I 101 = I 39 ∧ I 102 = I 40 ∧ I 103 = I 41 := by
  obtain ⟨dy1, Ty, hTy, dy2⟩ := h.2.1
  obtain ⟨n1, c1, k1, s1, f1, h1, b1, w1, x1, t1, o1, _, n, hn, hn2, hm, hmono⟩ := h.2.2.2.2.1
  obtain ⟨r1, p1, p2, p3, p4, p5, p6, N, hN, hN2, hr⟩ := h.2.2.2.2.2.2.1
  obtain ⟨q1, q2, q3, q4, q5, R, hR, hR2, hp⟩ := h.2.2.2.2.2.2.2.2.1
  rw [hn2] at hr
  rw [dy2] at hm hr
  rw [hN2] at hp
  have hF : fOk (I 12) n := fun i hi => (hm i hi).2.2.1
  have hst : ∀ r, r < N → (∃ i, i < n ∧ I 28 (2 * r) = nI i) ∧ (∃ i, i < n ∧ I 28 (2 * r + 1) = nI i) ∧ ∃ y, y ≤ Ty ∧ I 25 r = nI y := fun r hrN => by
    obtain ⟨u1, u2, u3, u4, ⟨y, hy, u5⟩, u6, _⟩ := hr r hrN
    rw [u5, nI_leP (by omega) (by omega)] at u6
    exact ⟨i_q (by omega) u3.1 u3.2, i_q (by omega) u4.1 u4.2, y, u6, u5⟩
  have hbo : ∀ m, m < n → ∃ b, b ≤ Ty ∧ I 14 m = nI b := fun m hm' => by
    obtain ⟨_, _, _, ⟨b, hb, u1⟩, u2⟩ := hm m hm'
    rw [u1, nI_leP (by omega) (by omega)] at u2
    exact ⟨b, u2, u1⟩
  refine ⟨n, N, Ty, R, ⟨⟨hn2, hn, hF⟩, ⟨hN2, hN⟩, ⟨by rw [n1, hn2], by rw [r1, hN2], by rw [dy1, dy2], hTy⟩, ⟨f1, b1, p2⟩, fun r hrN => ?_, hbo, fun m hm' k b hk hb hb9 hk9 => ?_⟩, ⟨hR2, hR, fun i hi => ?_⟩, by rw [q1, hR2], q2, q3, q4, q5⟩
  · obtain ⟨v1, v2, v3⟩ := hst r hrN
    obtain ⟨u1, u2, _⟩ := hr r hrN
    exact ⟨⟨u1, u2⟩, v1, v2, v3⟩
  · rcases mdB_iff.mp hk with ⟨x, hx, e1, e2⟩ | ⟨r, hrN, e1, e2⟩
    · rcases hF x hx with z | ⟨j, hj, z⟩
      · rw [e1] at z
        have := nI_pos' (n := m) (by omega)
        rw [z] at this
        exact absurd this (by decide)
      · rw [e1] at z
        have hjm : m = j := nI_inj (by omega) (by omega) z
        subst hjm
        have c := hmono m x hj hx
        rw [hb, e2, nI_leP (by omega) (by omega)] at c
        obtain ⟨b', hb', e3⟩ := hbo x hx
        rw [e2] at e3
        have := nI_inj (by omega) (by omega) e3
        omega
    · obtain ⟨_, _, y, hy, e3⟩ := hst r hrN
      have hky : k = y := nI_inj (by omega) (by omega) (e2.symm.trans e3)
      obtain ⟨_, _, _, _, _, _, u7, u8, _⟩ := hr r hrN
      have hix : (nI m).toNatClampNeg = m := ix_nI (by omega)
      have c : I 14 m ≤ I 25 r := by
        rcases e1 with e1 | e1
        · rw [e1, hix] at u7; exact u7
        · rw [e1, hix] at u8; exact u8
      rw [hb, e2, nI_leP (by omega) (by omega)] at c
      omega
  · obtain ⟨u1, u2, u3⟩ := hp i hi
    obtain ⟨r, hr', e1⟩ := i_q (by omega) u1.1 u1.2
    have e2 : ∃ f, f < 2 ∧ I 39 i = nI f := by
      rcases u2 with u2 | u2
      · exact ⟨0, by omega, u2⟩
      · exact ⟨1, by omega, u2⟩
    obtain ⟨f, hf, e2⟩ := e2
    have e3 : 2 * I 38 i + I 39 i = nI (2 * r + f) := by rw [e1, e2, nI_2m, nI_add]
    have e4 : fcI I i = 2 * r + f := by
      unfold fcI
      rw [e3]
      exact ix_nI (by omega)
    refine ⟨⟨by rw [e3, e4], by omega⟩, u3⟩
theorem rel_frC {I1 : pm_MI} {J1 : pm_ML} (h : Rel I J) (f : frC I I1) (fJ : frCJ J J1) : Rel I1 J1 := by
  have e := f.1
  unfold Rel at h ⊢
  rw [fJ 1 (by omega), fJ 68 (by omega), f.2, e 1 (by omega), e 2 (by omega), e 0 (by omega), e 3 (by omega), e 4 (by omega), e 5 (by omega), e 6 (by omega), e 7 (by omega), e 8 (by omega), e 9 (by omega), e 10 (by omega), e 11 (by omega), e 12 (by omega), e 13 (by omega), e 14 (by omega), e 15 (by omega), e 16 (by omega), e 17 (by omega), e 18 (by omega), e 20 (by omega), e 21 (by omega), e 22 (by omega), e 23 (by omega), e 24 (by omega), e 25 (by omega), e 26 (by omega), e 27 (by omega), e 28 (by omega), e 29 (by omega), e 30 (by omega), e 31 (by omega), e 32 (by omega), e 33 (by omega), e 34 (by omega), e 37 (by omega), e 38 (by omega), e 39 (by omega), e 40 (by omega), e 41 (by omega), e 55 (by omega), e 56 (by omega), e 57 (by omega), e 58 (by omega), e 59 (by omega), e 60 (by omega), e 61 (by omega), e 62 (by omega), e 65 (by omega), e 54 (by omega), e 68 (by omega), e 69 (by omega), e 70 (by omega), e 71 (by omega), e 73 (by omega), e 74 (by omega), e 79 (by omega), e 80 (by omega), e 81 (by omega), e 82 (by omega), e 83 (by omega), e 84 (by omega), e 85 (by omega), e 87 (by omega), e 86 (by omega), e 88 (by omega), e 89 (by omega), e 90 (by omega), e 91 (by omega), e 92 (by omega), e 93 (by omega), e 94 (by omega), e 95 (by omega), e 96 (by omega), e 97 (by omega), e 98 (by omega), e 99 (by omega), e 75 (by omega), e 76 (by omega), e 77 (by omega), e 78 (by omega), e 100 (by omega), e 101 (by omega), e 102 (by omega), e 103 (by omega), e 113 (by omega), e 114 (by omega), e 115 (by omega), e 116 (by omega), e 117 (by omega), e 118 (by omega), e 121 (by omega), e 112 (by omega)]
  exact h
theorem rel_frM {I1 : pm_MI} {J1 : pm_ML} (h : Rel I J) (f : frM I I1) (fJ : frMJ J J1) : Rel I1 J1 := by
  have e := f.1
  have e8 := f.2
  unfold Rel at h ⊢
  rw [fJ.1 1 (by decide) (by decide), fJ.2 3 (by decide), fJ.2 4 (by decide), fJ.2 72 (by decide), e8 0 (by decide) (by decide) (by decide) (by decide), e8 2 (by decide) (by decide) (by decide) (by decide), e8 15 (by decide) (by decide) (by decide) (by decide), e8 23 (by decide) (by decide) (by decide) (by decide), e8 30 (by decide) (by decide) (by decide) (by decide), e8 38 (by decide) (by decide) (by decide) (by decide), e8 16 (by decide) (by decide) (by decide) (by decide), e8 47 (by decide) (by decide) (by decide) (by decide), e8 67 (by decide) (by decide) (by decide) (by decide), e8 73 (by decide) (by decide) (by decide) (by decide), e8 65 (by decide) (by decide) (by decide) (by decide), e 42 (by decide) (by omega), e 1 (by decide) (by omega), e 2 (by decide) (by omega), e 0 (by decide) (by omega), e 3 (by decide) (by omega), e 4 (by decide) (by omega), e 5 (by decide) (by omega), e 6 (by decide) (by omega), e 7 (by decide) (by omega), e 8 (by decide) (by omega), e 9 (by decide) (by omega), e 10 (by decide) (by omega), e 11 (by decide) (by omega), e 12 (by decide) (by omega), e 13 (by decide) (by omega), e 14 (by decide) (by omega), e 15 (by decide) (by omega), e 16 (by decide) (by omega), e 17 (by decide) (by omega), e 18 (by decide) (by omega), e 20 (by decide) (by omega), e 21 (by decide) (by omega), e 22 (by decide) (by omega), e 23 (by decide) (by omega), e 24 (by decide) (by omega), e 25 (by decide) (by omega), e 26 (by decide) (by omega), e 27 (by decide) (by omega), e 28 (by decide) (by omega), e 29 (by decide) (by omega), e 30 (by decide) (by omega), e 31 (by decide) (by omega), e 32 (by decide) (by omega), e 33 (by decide) (by omega), e 34 (by decide) (by omega), e 37 (by decide) (by omega), e 38 (by decide) (by omega), e 39 (by decide) (by omega), e 40 (by decide) (by omega), e 41 (by decide) (by omega), e 55 (by decide) (by omega), e 56 (by decide) (by omega), e 57 (by decide) (by omega), e 58 (by decide) (by omega), e 59 (by decide) (by omega), e 60 (by decide) (by omega), e 61 (by decide) (by omega), e 62 (by decide) (by omega), e 65 (by decide) (by omega), e 54 (by decide) (by omega), e 69 (by decide) (by omega), e 70 (by decide) (by omega), e 71 (by decide) (by omega), e 73 (by decide) (by omega), e 74 (by decide) (by omega), e 79 (by decide) (by omega), e 80 (by decide) (by omega), e 81 (by decide) (by omega), e 82 (by decide) (by omega), e 83 (by decide) (by omega), e 84 (by decide) (by omega), e 85 (by decide) (by omega), e 87 (by decide) (by omega), e 86 (by decide) (by omega), e 88 (by decide) (by omega), e 89 (by decide) (by omega), e 90 (by decide) (by omega), e 91 (by decide) (by omega), e 92 (by decide) (by omega), e 93 (by decide) (by omega), e 94 (by decide) (by omega), e 95 (by decide) (by omega), e 96 (by decide) (by omega), e 97 (by decide) (by omega), e 98 (by decide) (by omega), e 99 (by decide) (by omega), e 75 (by decide) (by omega), e 76 (by decide) (by omega), e 77 (by decide) (by omega), e 78 (by decide) (by omega), e 100 (by decide) (by omega), e 101 (by decide) (by omega), e 102 (by decide) (by omega), e 103 (by decide) (by omega), e 113 (by decide) (by omega), e 114 (by decide) (by omega), e 115 (by decide) (by omega), e 116 (by decide) (by omega), e 117 (by decide) (by omega), e 118 (by decide) (by omega), e 121 (by decide) (by omega), e 112 (by decide) (by omega)]
  exact h
theorem plL_cg {I2 : pm_MI} (h : ∀ a, a < 42 → I2 a = I a) {n N : Nat} : plL I2 n N = plL I n N := by
  have e1 : ∀ m, mdB I2 n N m = mdB I n N m := fun m => funext (fun y => mdB_cg h)
  unfold plL plA plB
  congr 1
  · congr 1
    funext m
    unfold plM
    rw [e1]
    congr 1
    funext y
    rw [cvI_cg h]
  · congr 1
    funext r
    unfold plR
    rw [h 25 (by omega)]
theorem mo_cg {I2 : pm_MI} (h : ∀ a, a < 42 → I2 a = I a) {t : Int32} {R : Nat} : moI I2 t R = moI I t R ∧ ∀ j, nhI I2 t R j = nhI I t R j := by
  have ef : fcI I2 = fcI I := by funext i; unfold fcI; rw [h 38 (by omega), h 39 (by omega)]
  refine ⟨funext fun x => ?_, fun j => ?_⟩
  · unfold moI; rw [h 40 (by omega), h 41 (by omega), ef]
  · unfold nhI; rw [h 40 (by omega), h 41 (by omega), ef]
theorem frC.X {I2 I3 : pm_MI} {J2 J3 : pm_ML} (h : frC I I2) (h2 : frX I2 J2 I3 J3) : frC I I3 := ⟨fun a ha => (h2.1 a (by omega) (by omega) (by omega) (by omega)).trans (h.1 a ha), h2.2.1.trans h.2⟩
theorem frCJ.X {I2 I3 : pm_MI} {J2 J3 : pm_ML} (h : frCJ J J2) (h2 : frX I2 J2 I3 J3) : frCJ J J3 := fun a ha => (h2.2.2 a (by omega) (by omega)).trans (h a ha)
theorem clH.X {L : List plT} {I2 : pm_MI} {J2 : pm_ML} (h : clH I J L) (f : frX I J I2 J2) : clH I2 J2 L := by
  unfold clH at h ⊢
  rw [f.1 43 (by decide) (by decide) (by decide) (by decide), f.1 44 (by decide) (by decide) (by decide) (by decide), f.1 45 (by decide) (by decide) (by decide) (by decide), f.1 46 (by decide) (by decide) (by decide) (by decide), f.1 47 (by decide) (by decide) (by decide) (by decide), f.2.2 48 (by decide) (by decide)]
  exact h
/-- the class's search behind the gathering -/
theorem c_P_explain {n N Ty R ms : Nat} {t : Int32} {tal : Int64} (hd : 10 ≤ d) (w : wld I n N Ty) (wr : rpW I N R) (hms : ms ≤ 60) (h0 : (∀ s, s ≤ 3 → pth (plL I n N).length (cvL (plL I n N)) (fun p => qtI I t (cvL (plL I n N) p) R) (ndI I t R) ms s 0 0 = []) → ∀ I' J', frC I I' → frCJ J J' → Q (some (.int 0)) SH I' J') (h1 : ∀ s, s ≤ 3 → (∀ s', s' < s → pth (plL I n N).length (cvL (plL I n N)) (fun p => qtI I t (cvL (plL I n N) p) R) (ndI I t R) ms s' 0 0 = []) → pth (plL I n N).length (cvL (plL I n N)) (fun p => qtI I t (cvL (plL I n N) p) R) (ndI I t R) ms s 0 0 ≠ [] → ∀ I' J' b, frC I I' → frCJ J J' → clH I' J' (plL I n N) → I' 42 12 = nI s → J' 42 10 = tal → stH I' J' ((pth (plL I n N).length (cvL (plL I n N)) (fun p => qtI I t (cvL (plL I n N) p) R) (ndI I t R) ms s 0 0).foldl (tkS (cvL (plL I n N)) (fun p => qtI I t (cvL (plL I n N) p) R) tal s) (0, b, fun _ => 0)) → Q (some (.int 1)) SH I' J') : pm_C g d 155 [.ref 0, .int t, .int (nI ms), .long tal] Q SH I J := by
  have hLen := plL_len (I := I) (n := n) (N := N) w.1.2.1 w.2.1.2
  have hN := w.2.1.2
  have ex : ∀ I1 J1 (Q2 : pm_Po) (d2 : Nat), frC I I1 → frCJ J J1 → clH I1 J1 (plL I n N) → 9 ≤ d2 → (∀ x I' J', (x = 0 ∨ x = 1) → Q (some (.int x)) SH I' J' → Q2 (some (.int x)) SH I' J') → pm_C g d2 92 [.ref 42, .ref 37, .int t, .int (nI ms), .long tal] Q2 SH I1 J1 := by
    intro I1 J1 Q2 d2 f1 f2 f3 hd2 hq
    obtain ⟨g1, g2, g3⟩ := rp_cg (I := I) (I2 := I1) (fun a _ h => f1.lo a (by omega))
    exact c_S_explain (P := (plL I n N).length) (c := cvL (plL I n N)) (q := fun p => qtI I t (cvL (plL I n N) p) R) (need := ndI I t R) (ms := ms) hd2 (g1 wr) hN f3.1 hLen (fun p hp => clH_cv f3 hp) hms (g2 t R) (fun p => g3 t _ R) (fun k I' J' r => hq _ I' J' (Or.inl rfl) (h0 k I' J' (f1.X r) (f2.X r))) (fun s k1 k2 k3 I' J' b r k4 k5 k6 => hq _ I' J' (Or.inr rfl) (h1 s k1 k2 k3 I' J' b (f1.X r) (f2.X r) (f3.X r) k4 k5 k6))
  have gt := fun Q2 d2 h => c_gather (g := g) (Q := Q2) (d := d2) (J := J) h w
  clear h0 h1 w wr
  refine eX11_explain (by omega) ?_
  repeat' (first
    | (apply And.intro)
    | (with_reducible refine bX11_explain_0 ?_; simp (disch := first | omega | decide) only [w_nl0, w_nli, w_nlr, ↓w_ts1, ↓w_ts0, w_rcv, w_rfv, w_cs, true_and, and_true, List.length_nil, List.length_cons, Nat.reduceAdd, Nat.reduceLeDiff, Nat.zero_le, Nat.reduceLT, ↓w_nil, ix_nI, nI_leP, nI_ltP, nI_eqP, nI_1, ↓i_inN, i_inN, l_le, l_lt, l_eq, r_le, r_lt, r_eq, sh0, sh1, sh55, sh60, sh9, sh31, sh23, sh37, sh42, sh43, sh19, sh3, sh6, ↓w_aload_0, ↓w_gf3, ↓w_iv, ↓pm_cl2_3, ↓w_iload_1, ↓w_iload_2, ↓w_lload_3, ↓pm_cl2_5, ↓w_zret])
    | (with_reducible refine gt _ _ (by omega) (fun I1 J1 f1 f2 f3 => ?_) <;> simp (disch := first | omega | decide) only [w_nl0, w_nli, w_nlr, ↓w_ts1, ↓w_ts0, w_rcv, w_rfv, w_cs, true_and, and_true, List.length_nil, List.length_cons, Nat.reduceAdd, Nat.reduceLeDiff, Nat.zero_le, Nat.reduceLT, ↓w_nil, ix_nI, nI_leP, nI_ltP, nI_eqP, nI_1, ↓i_inN, i_inN, l_le, l_lt, l_eq, r_le, r_lt, r_eq, sh0, sh1, sh55, sh60, sh9, sh31, sh23, sh37, sh42, sh43, sh19, sh3, sh6, ↓w_aload_0, ↓w_gf3, ↓w_iv, ↓pm_cl2_3, ↓w_iload_1, ↓w_iload_2, ↓w_lload_3, ↓pm_cl2_5, ↓w_zret])
    | (with_reducible refine ex _ _ _ _ f1 f2 f3 (by omega) (fun x I' J' hx hq => ?_) <;> simp (disch := first | omega | decide) only [w_nl0, w_nli, w_nlr, ↓w_ts1, ↓w_ts0, w_rcv, w_rfv, w_cs, true_and, and_true, List.length_nil, List.length_cons, Nat.reduceAdd, Nat.reduceLeDiff, Nat.zero_le, Nat.reduceLT, ↓w_nil, ix_nI, nI_leP, nI_ltP, nI_eqP, nI_1, ↓i_inN, i_inN, l_le, l_lt, l_eq, r_le, r_lt, r_eq, sh0, sh1, sh55, sh60, sh9, sh31, sh23, sh37, sh42, sh43, sh19, sh3, sh6, ↓w_aload_0, ↓w_gf3, ↓w_iv, ↓pm_cl2_3, ↓w_iload_1, ↓w_iload_2, ↓w_lload_3, ↓pm_cl2_5, ↓w_zret])
    | (simp only [w_in])
    | (intro _))
  all_goals first | (with_reducible exact hq) | omega | grind
end C91s
