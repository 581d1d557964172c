section C91j
variable {g : pm_G} {d : Nat} {Q : pm_Po} {S : pm_SS} {I : pm_MI} {J : pm_ML}
variable {P : Nat} {c q : Nat → Int64} {need tal : Int64} {ms s : Nat}
def chT (T : List Nat) (i : Nat) : Int32 := nI (T.getD i 0)
def tkS (c q : Nat → Int64) (tal : Int64) (s : Nat) (st : seT) (T : List Nat) : seT := (st.1 + 1, if st.1 = 0 ∨ rkF (chT T) s (orL q T) < st.2.1 then rkF (chT T) s (orL q T) else st.2.1, fun k => if tb (orL c T &&& tal) k = true then st.2.2 k + 1 else st.2.2 k)
def seE (I : pm_MI) (J : pm_ML) (P : Nat) (c q : Nat → Int64) (need tal : Int64) (ms s : Nat) : Prop := (I 43 6 = nI P ∧ P ≤ 160) ∧ (∀ p, p < P → J 48 p = c p ∧ J 50 p = q p) ∧ (I 42 7 = nI (ufL P c q need ms).length ∧ ∀ u p, (ufL P c q need ms)[u]? = some p → I 51 u = nI p) ∧ (I 42 8 = nI ms ∧ ms ≤ 60) ∧ (J 42 9 = need ∧ J 42 10 = tal) ∧ I 42 12 = nI s ∧ s ≤ 3
theorem seE.cg {I2 : pm_MI} {J2 : pm_ML} (h : seE I J P c q need tal ms s) (f : frE I J I2 J2) : seE I2 J2 P c q need tal ms s := by
  obtain ⟨⟨a1, a2⟩, b, ⟨c1, c2⟩, ⟨d1, d2⟩, ⟨e1, e2⟩, f1, f2⟩ := h
  refine ⟨⟨by rw [f.1 43 (by decide) (by decide) (by decide)]; exact a1, a2⟩, fun p hp => ?_, ⟨by rw [f.2.1 7 (by decide)]; exact c1, fun u p h => ?_⟩, ⟨by rw [f.2.1 8 (by decide)]; exact d1, d2⟩, ⟨by rw [f.2.2.2 9 (by decide)]; exact e1, by rw [f.2.2.2 10 (by decide)]; exact e2⟩, by rw [f.2.1 12 (by decide)]; exact f1, f2⟩
  · rw [f.2.2.1 48 (by decide), f.2.2.1 50 (by decide)]; exact b p hp
  · rw [f.1 51 (by decide) (by decide) (by decide)]; exact c2 u p h
theorem orL_snoc {f : Nat → Int64} {T : List Nat} {p : Nat} : orL f (T ++ [p]) = orL f T ||| f p := by
  refine tb_ext (fun e _ => ?_)
  rw [Bool.eq_iff_iff, tb_or, Bool.or_eq_true, tb_orL, tb_orL]
  constructor
  · rintro ⟨x, hx, h⟩
    rcases List.mem_append.mp hx with hx | hx
    · exact Or.inl ⟨x, hx, h⟩
    · rw [List.mem_singleton] at hx; subst hx; exact Or.inr h
  · rintro (⟨x, hx, h⟩ | h)
    · exact ⟨x, List.mem_append_left _ hx, h⟩
    · exact ⟨p, List.mem_append_right _ (List.mem_singleton.mpr rfl), h⟩
theorem ufL_len : (ufL P c q need ms).length ≤ P := by
  unfold ufL
  have := List.length_filter_le (fun p => decide (¬ (c p &&& need = 0) ∧ pc (q p) ≤ ms)) (List.range P)
  rw [List.length_range] at this; exact this
def pthF (P : Nat) (c q : Nat → Int64) (need : Int64) (ms r : Nat) (cov mis : Int64) (p : Nat) : List (List Nat) := if ¬ (c p &&& wn need cov = 0) ∧ pc (mis ||| q p) ≤ ms then (pth P c q need ms r (cov ||| c p) (mis ||| q p)).map (fun t => p :: t) else []
theorem pth_F {r : Nat} {cov mis : Int64} : pth P c q need ms (r + 1) cov mis = (ufL P c q need ms).flatMap (pthF P c q need ms r cov mis) := rfl
theorem fm_take {α : Type} {l : List Nat} {f : Nat → List α} {k p : Nat} (h : l[k]? = some p) : (l.take (k + 1)).flatMap f = (l.take k).flatMap f ++ f p := by
  rw [List.take_add_one, h, List.flatMap_append]
  simp
set_option maxHeartbeats 4000000 in
theorem c_extend : ∀ (r depth d : Nat) (pre : List Nat) (cov mis : Int64) (st : seT) (I : pm_MI) (J : pm_ML) (Q : pm_Po), depth + r = s → 4 + r ≤ d → seE I J P c q need tal ms s → pre.length = depth → (∀ i, i < depth → I 52 i = chT pre i) → cov = orL c pre → mis = orL q pre → stH I J st → (∀ I' J', frE I J I' J' → (∀ i, i < depth → I' 52 i = I 52 i) → stH I' J' (((pth P c q need ms r cov mis).map (fun t => pre ++ t)).foldl (tkS c q tal s) st) → Q none SH I' J') → pm_C g d 95 [.ref 42, .int (nI depth), .long cov, .long mis] Q SH I J := by
  intro r
  induction r with
  | zero =>
    intro depth d pre cov mis st I J Q hr hd hE hl hpre hcov hmis hst hQ
    have hds : depth = s := by omega
    subst hds
    obtain ⟨_, _, _, _, ⟨e1, e2⟩, f1, f2⟩ := hE
    by_cases ho : opn need cov = 0
    · have hq : ∀ I' J', frE I J I' J' → I' 52 = I 52 → stH I' J' (st.1 + 1, if st.1 = 0 ∨ rkF (I 52) depth mis < st.2.1 then rkF (I 52) depth mis else st.2.1, fun k => if tb (cov &&& J 42 10) k = true then st.2.2 k + 1 else st.2.2 k) → Q none SH I' J' := by
        intro I' J' r1 r2 r3
        refine hQ I' J' r1 (fun i _ => by rw [r2]) ?_
        rw [pth, if_pos ho]
        simp only [List.map_cons, List.map_nil, List.foldl_cons, List.foldl_nil, List.append_nil]
        unfold tkS
        rw [e2, hcov, hmis, rkF_cg hpre] at r3
        exact r3
      unfold opn at ho
      clear hQ hpre hcov hmis
      refine eX8_extend (by omega) ?_
      repeat' (first
        | (apply And.intro)
        | (with_reducible refine bX8_extend_0 ?_; simp (disch := first | omega | decide) only [w_nl0, w_nli, w_nlr, ↓w_ts1, ↓w_ts0, w_rcv, w_rfv, w_cs, true_and, and_true, List.length_nil, List.length_cons, Nat.reduceAdd, Nat.reduceLeDiff, Nat.zero_le, Nat.reduceLT, ↓w_nil, ix_nI, nI_leP, nI_ltP, nI_eqP, nI_1, ↓i_inN, i_inN, l_le, l_lt, l_eq, r_le, r_lt, r_eq, sh42, sh43, sh37, sh9, sh23, ↓w_aload_0, ↓w_gf1, ↓w_lload_2, ↓w_ldc2_3, ↓w_lxor, ↓w_land, ↓w_lstore_6, ↓w_iload_1, ↓w_gf0, ↓w_icge, ↓w_iconst, ↓w_iclt, ↓w_lload_6, ↓w_lconst0, ↓w_lcmp, ↓w_ifne, ↓w_lload_4, ↓w_iv, ↓pm_cl2_3, ↓w_vret, ↓w_lneg, ↓w_lstore_8, ↓w_istore_10, ↓w_iload_10, ↓w_gf3, ↓w_iaload, ↓w_istore_11, ↓w_iload_11, ↓w_laload, ↓w_lload_8, ↓w_goto, ↓w_lor, ↓w_is, ↓pm_cl1_1, ↓w_icle, ↓w_iastore, ↓w_iadd, ↓pm_cl2_4, ↓w_iinc_10, e1, f1, lg_eq0, ho])
        | (with_reducible refine bX8_extend_1 ?_; simp (disch := first | omega | decide) only [w_nl0, w_nli, w_nlr, ↓w_ts1, ↓w_ts0, w_rcv, w_rfv, w_cs, true_and, and_true, List.length_nil, List.length_cons, Nat.reduceAdd, Nat.reduceLeDiff, Nat.zero_le, Nat.reduceLT, ↓w_nil, ix_nI, nI_leP, nI_ltP, nI_eqP, nI_1, ↓i_inN, i_inN, l_le, l_lt, l_eq, r_le, r_lt, r_eq, sh42, sh43, sh37, sh9, sh23, ↓w_aload_0, ↓w_gf1, ↓w_lload_2, ↓w_ldc2_3, ↓w_lxor, ↓w_land, ↓w_lstore_6, ↓w_iload_1, ↓w_gf0, ↓w_icge, ↓w_iconst, ↓w_iclt, ↓w_lload_6, ↓w_lconst0, ↓w_lcmp, ↓w_ifne, ↓w_lload_4, ↓w_iv, ↓pm_cl2_3, ↓w_vret, ↓w_lneg, ↓w_lstore_8, ↓w_istore_10, ↓w_iload_10, ↓w_gf3, ↓w_iaload, ↓w_istore_11, ↓w_iload_11, ↓w_laload, ↓w_lload_8, ↓w_goto, ↓w_lor, ↓w_is, ↓pm_cl1_1, ↓w_icle, ↓w_iastore, ↓w_iadd, ↓pm_cl2_4, ↓w_iinc_10, e1, f1, lg_eq0, ho])
        | (with_reducible refine bX8_extend_2 ?_; simp (disch := first | omega | decide) only [w_nl0, w_nli, w_nlr, ↓w_ts1, ↓w_ts0, w_rcv, w_rfv, w_cs, true_and, and_true, List.length_nil, List.length_cons, Nat.reduceAdd, Nat.reduceLeDiff, Nat.zero_le, Nat.reduceLT, ↓w_nil, ix_nI, nI_leP, nI_ltP, nI_eqP, nI_1, ↓i_inN, i_inN, l_le, l_lt, l_eq, r_le, r_lt, r_eq, sh42, sh43, sh37, sh9, sh23, ↓w_aload_0, ↓w_gf1, ↓w_lload_2, ↓w_ldc2_3, ↓w_lxor, ↓w_land, ↓w_lstore_6, ↓w_iload_1, ↓w_gf0, ↓w_icge, ↓w_iconst, ↓w_iclt, ↓w_lload_6, ↓w_lconst0, ↓w_lcmp, ↓w_ifne, ↓w_lload_4, ↓w_iv, ↓pm_cl2_3, ↓w_vret, ↓w_lneg, ↓w_lstore_8, ↓w_istore_10, ↓w_iload_10, ↓w_gf3, ↓w_iaload, ↓w_istore_11, ↓w_iload_11, ↓w_laload, ↓w_lload_8, ↓w_goto, ↓w_lor, ↓w_is, ↓pm_cl1_1, ↓w_icle, ↓w_iastore, ↓w_iadd, ↓pm_cl2_4, ↓w_iinc_10, e1, f1, lg_eq0, ho])
        | (with_reducible refine c_take (st := st) (by omega) f1 f2 hst (fun I' J' r1 r2 r3 => ?_) <;> simp (disch := first | omega | decide) only [w_nl0, w_nli, w_nlr, ↓w_ts1, ↓w_ts0, w_rcv, w_rfv, w_cs, true_and, and_true, List.length_nil, List.length_cons, Nat.reduceAdd, Nat.reduceLeDiff, Nat.zero_le, Nat.reduceLT, ↓w_nil, ix_nI, nI_leP, nI_ltP, nI_eqP, nI_1, ↓i_inN, i_inN, l_le, l_lt, l_eq, r_le, r_lt, r_eq, sh42, sh43, sh37, sh9, sh23, ↓w_aload_0, ↓w_gf1, ↓w_lload_2, ↓w_ldc2_3, ↓w_lxor, ↓w_land, ↓w_lstore_6, ↓w_iload_1, ↓w_gf0, ↓w_icge, ↓w_iconst, ↓w_iclt, ↓w_lload_6, ↓w_lconst0, ↓w_lcmp, ↓w_ifne, ↓w_lload_4, ↓w_iv, ↓pm_cl2_3, ↓w_vret, ↓w_lneg, ↓w_lstore_8, ↓w_istore_10, ↓w_iload_10, ↓w_gf3, ↓w_iaload, ↓w_istore_11, ↓w_iload_11, ↓w_laload, ↓w_lload_8, ↓w_goto, ↓w_lor, ↓w_is, ↓pm_cl1_1, ↓w_icle, ↓w_iastore, ↓w_iadd, ↓pm_cl2_4, ↓w_iinc_10, e1, f1, lg_eq0, ho])
        | (simp only [w_in])
        | (intro _))
      all_goals first | (with_reducible exact hq _ _ r1 r2 r3) | omega | grind
    · have hq := hQ I J frE.rf (fun _ _ => rfl) (by rw [pth, if_neg ho]; exact hst)
      unfold opn at ho
      clear hQ hpre hcov hmis hst
      refine eX8_extend (by omega) ?_
      repeat' (first
        | (apply And.intro)
        | (with_reducible refine bX8_extend_0 ?_; simp (disch := first | omega | decide) only [w_nl0, w_nli, w_nlr, ↓w_ts1, ↓w_ts0, w_rcv, w_rfv, w_cs, true_and, and_true, List.length_nil, List.length_cons, Nat.reduceAdd, Nat.reduceLeDiff, Nat.zero_le, Nat.reduceLT, ↓w_nil, ix_nI, nI_leP, nI_ltP, nI_eqP, nI_1, ↓i_inN, i_inN, l_le, l_lt, l_eq, r_le, r_lt, r_eq, sh42, sh43, sh37, sh9, sh23, ↓w_aload_0, ↓w_gf1, ↓w_lload_2, ↓w_ldc2_3, ↓w_lxor, ↓w_land, ↓w_lstore_6, ↓w_iload_1, ↓w_gf0, ↓w_icge, ↓w_iconst, ↓w_iclt, ↓w_lload_6, ↓w_lconst0, ↓w_lcmp, ↓w_ifne, ↓w_lload_4, ↓w_iv, ↓pm_cl2_3, ↓w_vret, ↓w_lneg, ↓w_lstore_8, ↓w_istore_10, ↓w_iload_10, ↓w_gf3, ↓w_iaload, ↓w_istore_11, ↓w_iload_11, ↓w_laload, ↓w_lload_8, ↓w_goto, ↓w_lor, ↓w_is, ↓pm_cl1_1, ↓w_icle, ↓w_iastore, ↓w_iadd, ↓pm_cl2_4, ↓w_iinc_10, e1, f1, lg_eq0])
        | (with_reducible refine bX8_extend_1 ?_; simp (disch := first | omega | decide) only [w_nl0, w_nli, w_nlr, ↓w_ts1, ↓w_ts0, w_rcv, w_rfv, w_cs, true_and, and_true, List.length_nil, List.length_cons, Nat.reduceAdd, Nat.reduceLeDiff, Nat.zero_le, Nat.reduceLT, ↓w_nil, ix_nI, nI_leP, nI_ltP, nI_eqP, nI_1, ↓i_inN, i_inN, l_le, l_lt, l_eq, r_le, r_lt, r_eq, sh42, sh43, sh37, sh9, sh23, ↓w_aload_0, ↓w_gf1, ↓w_lload_2, ↓w_ldc2_3, ↓w_lxor, ↓w_land, ↓w_lstore_6, ↓w_iload_1, ↓w_gf0, ↓w_icge, ↓w_iconst, ↓w_iclt, ↓w_lload_6, ↓w_lconst0, ↓w_lcmp, ↓w_ifne, ↓w_lload_4, ↓w_iv, ↓pm_cl2_3, ↓w_vret, ↓w_lneg, ↓w_lstore_8, ↓w_istore_10, ↓w_iload_10, ↓w_gf3, ↓w_iaload, ↓w_istore_11, ↓w_iload_11, ↓w_laload, ↓w_lload_8, ↓w_goto, ↓w_lor, ↓w_is, ↓pm_cl1_1, ↓w_icle, ↓w_iastore, ↓w_iadd, ↓pm_cl2_4, ↓w_iinc_10, e1, f1, lg_eq0])
        | (with_reducible refine bX8_extend_2 ?_; simp (disch := first | omega | decide) only [w_nl0, w_nli, w_nlr, ↓w_ts1, ↓w_ts0, w_rcv, w_rfv, w_cs, true_and, and_true, List.length_nil, List.length_cons, Nat.reduceAdd, Nat.reduceLeDiff, Nat.zero_le, Nat.reduceLT, ↓w_nil, ix_nI, nI_leP, nI_ltP, nI_eqP, nI_1, ↓i_inN, i_inN, l_le, l_lt, l_eq, r_le, r_lt, r_eq, sh42, sh43, sh37, sh9, sh23, ↓w_aload_0, ↓w_gf1, ↓w_lload_2, ↓w_ldc2_3, ↓w_lxor, ↓w_land, ↓w_lstore_6, ↓w_iload_1, ↓w_gf0, ↓w_icge, ↓w_iconst, ↓w_iclt, ↓w_lload_6, ↓w_lconst0, ↓w_lcmp, ↓w_ifne, ↓w_lload_4, ↓w_iv, ↓pm_cl2_3, ↓w_vret, ↓w_lneg, ↓w_lstore_8, ↓w_istore_10, ↓w_iload_10, ↓w_gf3, ↓w_iaload, ↓w_istore_11, ↓w_iload_11, ↓w_laload, ↓w_lload_8, ↓w_goto, ↓w_lor, ↓w_is, ↓pm_cl1_1, ↓w_icle, ↓w_iastore, ↓w_iadd, ↓pm_cl2_4, ↓w_iinc_10, e1, f1, lg_eq0])
        | (simp only [w_in])
        | (intro _))
      all_goals first | (with_reducible exact hq) | omega | grind
  | succ r ih =>
    intro depth d pre cov mis st I J Q hr hd hE hl hpre hcov hmis hst hQ
    have hlen := ufL_len (P := P) (c := c) (q := q) (need := need) (ms := ms)
    have hP := hE.1.2
    have e1 := hE.2.2.2.2.1.1
    have f1 := hE.2.2.2.2.2.1
    have f2 := hE.2.2.2.2.2.2
    have w4 : UU g (d - 1) 95 kX8_extend (pm_rm d 95) Q 4 [some (.ref 42), some (.int (nI depth)), some (.long cov), none, some (.long mis), none, some (.long (opn need cov)), none, some (.long (wn need cov)), none, some (.int 0), none] [] SH I J (0, 0) := by
      refine lp (α := pm_MI × pm_ML) (U := fun k a => ∀ z, UU g (d - 1) 95 kX8_extend (pm_rm d 95) Q 4 [some (.ref 42), some (.int (nI depth)), some (.long cov), none, some (.long mis), none, some (.long (opn need cov)), none, some (.long (wn need cov)), none, some (.int (nI k)), z] [] SH a.1 a.2 (0, 0)) (fun k a => frE I J a.1 a.2 ∧ (∀ i, i < depth → a.1 52 i = I 52 i) ∧ stH a.1 a.2 (((((ufL P c q need ms).take k).flatMap (pthF P c q need ms r cov mis)).map (fun t => pre ++ t)).foldl (tkS c q tal s) st)) (ufL P c q need ms).length (fun k a hk hP2 w => ?_) (fun a hP2 => ?_) (a := (I, J)) ⟨frE.rf, fun _ _ => rfl, hst⟩ none
      · intro z
        obtain ⟨I2, J2⟩ := a
        obtain ⟨p1, p2, p3⟩ := hP2
        have p1 : frE I J I2 J2 := p1
        have p2 : ∀ i, i < depth → I2 52 i = I 52 i := p2
        have p3 : stH I2 J2 _ := p3
        obtain ⟨p, hp⟩ : ∃ p, (ufL P c q need ms)[k]? = some p := ⟨_, List.getElem?_eq_getElem hk⟩
        have hpP : p < P := (ufL_mem.mp (List.mem_of_getElem? hp)).1
        have hE2 := hE.cg p1
        obtain ⟨⟨a1, a2⟩, b, ⟨c1, c2⟩, ⟨d1, d2⟩, _, _, _⟩ := id hE2
        obtain ⟨b1, b2⟩ := b p hpP
        have c3 := c2 k p hp
        have hft := fm_take (f := pthF P c q need ms r cov mis) hp
        have hpc := pc_le (x := mis ||| q p)
        by_cases hc : ¬ (c p &&& wn need cov = 0) ∧ pc (mis ||| q p) ≤ ms
        · have hF : pthF P c q need ms r cov mis p = (pth P c q need ms r (cov ||| c p) (mis ||| q p)).map (fun t => p :: t) := if_pos hc
          have hE3 : seE (pm_up I2 52 depth (nI p)) J2 P c q need tal ms s := hE2.cg frE.rf.ch
          have rc : ∀ (Q2 : pm_Po) (d2 : Nat), 4 + r ≤ d2 → (∀ I' J', (∀ z, UU g (d - 1) 95 kX8_extend (pm_rm d 95) Q 4 [some (.ref 42), some (.int (nI depth)), some (.long cov), none, some (.long mis), none, some (.long (opn need cov)), none, some (.long (wn need cov)), none, some (.int (nI (k + 1))), z] [] SH I' J' (0, 0)) → Q2 none SH I' J') → pm_C g d2 95 [.ref 42, .int (nI (depth + 1)), .long (cov ||| c p), .long (mis ||| q p)] Q2 SH (pm_up I2 52 depth (nI p)) J2 := by
            intro Q2 d2 hd2 hq2
            refine ih (depth + 1) d2 (pre ++ [p]) (cov ||| c p) (mis ||| q p) (((((ufL P c q need ms).take k).flatMap (pthF P c q need ms r cov mis)).map (fun t => pre ++ t)).foldl (tkS c q tal s) st) (pm_up I2 52 depth (nI p)) J2 Q2 (by omega) hd2 hE3 (by rw [List.length_append, hl]; rfl) (fun i hi => ?_) (by rw [orL_snoc, hcov]) (by rw [orL_snoc, hmis]) ⟨by rw [pm_up_o (by decide)]; exact p3.1, p3.2.1, fun k hk => by rw [pm_up_o (by decide)]; exact p3.2.2 k hk⟩ (fun I' J' r1 r2 r3 => hq2 I' J' (w (I', J') ⟨p1.ch.tr r1, fun i hi => ?_, ?_⟩))
            · by_cases e : i = depth
              · subst e
                rw [pm_up_s]
                unfold chT
                rw [← hl, List.getD_eq_getElem?_getD, List.getElem?_append_right (Nat.le_refl _), Nat.sub_self]
                rfl
              · rw [pm_up_n e, p2 i (by omega), hpre i (by omega)]
                unfold chT
                rw [List.getD_eq_getElem?_getD, List.getD_eq_getElem?_getD, List.getElem?_append_left (by omega)]
            · show I' 52 i = I 52 i
              rw [r2 i (by omega), pm_up_n (by omega)]
              exact p2 i hi
            · show stH I' J' _
              rw [hft, List.map_append, List.foldl_append, hF, List.map_map]
              have e : ((fun t => pre ++ t) ∘ fun t => p :: t) = (fun t => pre ++ [p] ++ t) := by
                funext t
                show pre ++ p :: t = pre ++ [p] ++ t
                rw [List.append_assoc]
                rfl
              rw [e]
              exact r3
          obtain ⟨hc1, hc2⟩ := hc
          clear ih hQ p3 p2 hpre hcov hmis hE hE2 hE3 hft hF w hst b c2
          generalize wn need cov = W at hc1 rc ⊢
          generalize opn need cov = O at rc ⊢
          have w7 : ∀ I' J', (∀ z, UU g (d - 1) 95 kX8_extend (pm_rm d 95) Q 4 [some (.ref 42), some (.int (nI depth)), some (.long cov), none, some (.long mis), none, some (.long O), none, some (.long W), none, some (.int (nI (k + 1))), z] [] SH I' J' (0, 0)) → UU g (d - 1) 95 kX8_extend (pm_rm d 95) Q 7 [some (.ref 42), some (.int (nI depth)), some (.long cov), none, some (.long mis), none, some (.long O), none, some (.long W), none, some (.int (nI k)), some (.int (nI p))] [] SH I' J' (0, 0) := by
            intro I' J' t1
            have t2 := t1 (some (.int (nI p)))
            clear rc
            refine bX8_extend_7 ?_
            simp (disch := first | omega | decide) only [w_nl0, w_nli, w_nlr, ↓w_ts1, ↓w_ts0, w_rcv, w_rfv, w_cs, true_and, and_true, List.length_nil, List.length_cons, Nat.reduceAdd, Nat.reduceLeDiff, Nat.zero_le, Nat.reduceLT, ↓w_nil, ix_nI, nI_leP, nI_ltP, nI_eqP, nI_1, ↓i_inN, i_inN, l_le, l_lt, l_eq, r_le, r_lt, r_eq, sh42, sh43, sh37, sh9, sh23, ↓w_iinc_10, ↓w_goto]
            repeat' (first
              | (apply And.intro)
              | (simp only [w_in])
              | (intro _))
            all_goals first | (with_reducible exact t2) | omega | grind
          refine bX8_extend_4 ?_
          simp (disch := first | omega | decide) only [w_nl0, w_nli, w_nlr, ↓w_ts1, ↓w_ts0, w_rcv, w_rfv, w_cs, true_and, and_true, List.length_nil, List.length_cons, Nat.reduceAdd, Nat.reduceLeDiff, Nat.zero_le, Nat.reduceLT, ↓w_nil, ix_nI, nI_leP, nI_ltP, nI_eqP, nI_1, ↓i_inN, i_inN, l_le, l_lt, l_eq, r_le, r_lt, r_eq, sh42, sh43, sh37, sh9, sh23, ↓w_iload_10, ↓w_aload_0, ↓w_gf0, ↓w_icge, ↓w_gf3, ↓w_iaload, ↓w_istore_11, ↓w_iload_11, ↓w_laload, ↓w_lload_8, ↓w_land, ↓w_lconst0, ↓w_lcmp, ↓w_ifne, ↓w_goto, c1, c3, b1, lg_eq0]
          repeat' (first
            | (apply And.intro)
            | (with_reducible refine bX8_extend_5 ?_; simp (disch := first | omega | decide) only [w_nl0, w_nli, w_nlr, ↓w_ts1, ↓w_ts0, w_rcv, w_rfv, w_cs, true_and, and_true, List.length_nil, List.length_cons, Nat.reduceAdd, Nat.reduceLeDiff, Nat.zero_le, Nat.reduceLT, ↓w_nil, ix_nI, nI_leP, nI_ltP, nI_eqP, nI_1, ↓i_inN, i_inN, l_le, l_lt, l_eq, r_le, r_lt, r_eq, sh42, sh43, sh37, sh9, sh23, ↓w_aload_0, ↓w_gf1, ↓w_lload_2, ↓w_ldc2_3, ↓w_lxor, ↓w_land, ↓w_lstore_6, ↓w_iload_1, ↓w_gf0, ↓w_icge, ↓w_iconst, ↓w_iclt, ↓w_lload_6, ↓w_lconst0, ↓w_lcmp, ↓w_ifne, ↓w_lload_4, ↓w_iv, ↓pm_cl2_3, ↓w_vret, ↓w_lneg, ↓w_lstore_8, ↓w_istore_10, ↓w_iload_10, ↓w_gf3, ↓w_iaload, ↓w_istore_11, ↓w_iload_11, ↓w_laload, ↓w_lload_8, ↓w_goto, ↓w_lor, ↓w_is, ↓pm_cl1_1, ↓w_icle, ↓w_iastore, ↓w_iadd, ↓pm_cl2_4, ↓w_iinc_10, d1, b1, b2, lg_eq0, c1, c3, nI_add])
            | (with_reducible refine bX8_extend_6 ?_; simp (disch := first | omega | decide) only [w_nl0, w_nli, w_nlr, ↓w_ts1, ↓w_ts0, w_rcv, w_rfv, w_cs, true_and, and_true, List.length_nil, List.length_cons, Nat.reduceAdd, Nat.reduceLeDiff, Nat.zero_le, Nat.reduceLT, ↓w_nil, ix_nI, nI_leP, nI_ltP, nI_eqP, nI_1, ↓i_inN, i_inN, l_le, l_lt, l_eq, r_le, r_lt, r_eq, sh42, sh43, sh37, sh9, sh23, ↓w_aload_0, ↓w_gf1, ↓w_lload_2, ↓w_ldc2_3, ↓w_lxor, ↓w_land, ↓w_lstore_6, ↓w_iload_1, ↓w_gf0, ↓w_icge, ↓w_iconst, ↓w_iclt, ↓w_lload_6, ↓w_lconst0, ↓w_lcmp, ↓w_ifne, ↓w_lload_4, ↓w_iv, ↓pm_cl2_3, ↓w_vret, ↓w_lneg, ↓w_lstore_8, ↓w_istore_10, ↓w_iload_10, ↓w_gf3, ↓w_iaload, ↓w_istore_11, ↓w_iload_11, ↓w_laload, ↓w_lload_8, ↓w_goto, ↓w_lor, ↓w_is, ↓pm_cl1_1, ↓w_icle, ↓w_iastore, ↓w_iadd, ↓pm_cl2_4, ↓w_iinc_10, d1, b1, b2, lg_eq0, c1, c3, nI_add])
            | (with_reducible refine c_bitL (by omega) ?_ ; simp (disch := first | omega | decide) only [w_nl0, w_nli, w_nlr, ↓w_ts1, ↓w_ts0, w_rcv, w_rfv, w_cs, true_and, and_true, List.length_nil, List.length_cons, Nat.reduceAdd, Nat.reduceLeDiff, Nat.zero_le, Nat.reduceLT, ↓w_nil, ix_nI, nI_leP, nI_ltP, nI_eqP, nI_1, ↓i_inN, i_inN, l_le, l_lt, l_eq, r_le, r_lt, r_eq, sh42, sh43, sh37, sh9, sh23, ↓w_aload_0, ↓w_gf1, ↓w_lload_2, ↓w_ldc2_3, ↓w_lxor, ↓w_land, ↓w_lstore_6, ↓w_iload_1, ↓w_gf0, ↓w_icge, ↓w_iconst, ↓w_iclt, ↓w_lload_6, ↓w_lconst0, ↓w_lcmp, ↓w_ifne, ↓w_lload_4, ↓w_iv, ↓pm_cl2_3, ↓w_vret, ↓w_lneg, ↓w_lstore_8, ↓w_istore_10, ↓w_iload_10, ↓w_gf3, ↓w_iaload, ↓w_istore_11, ↓w_iload_11, ↓w_laload, ↓w_lload_8, ↓w_goto, ↓w_lor, ↓w_is, ↓pm_cl1_1, ↓w_icle, ↓w_iastore, ↓w_iadd, ↓pm_cl2_4, ↓w_iinc_10, d1, b1, b2, lg_eq0, c1, c3, nI_add])
            | (with_reducible refine rc _ _ (by omega) (fun I' J' t1 => ?_) <;> simp (disch := first | omega | decide) only [w_nl0, w_nli, w_nlr, ↓w_ts1, ↓w_ts0, w_rcv, w_rfv, w_cs, true_and, and_true, List.length_nil, List.length_cons, Nat.reduceAdd, Nat.reduceLeDiff, Nat.zero_le, Nat.reduceLT, ↓w_nil, ix_nI, nI_leP, nI_ltP, nI_eqP, nI_1, ↓i_inN, i_inN, l_le, l_lt, l_eq, r_le, r_lt, r_eq, sh42, sh43, sh37, sh9, sh23, ↓w_aload_0, ↓w_gf1, ↓w_lload_2, ↓w_ldc2_3, ↓w_lxor, ↓w_land, ↓w_lstore_6, ↓w_iload_1, ↓w_gf0, ↓w_icge, ↓w_iconst, ↓w_iclt, ↓w_lload_6, ↓w_lconst0, ↓w_lcmp, ↓w_ifne, ↓w_lload_4, ↓w_iv, ↓pm_cl2_3, ↓w_vret, ↓w_lneg, ↓w_lstore_8, ↓w_istore_10, ↓w_iload_10, ↓w_gf3, ↓w_iaload, ↓w_istore_11, ↓w_iload_11, ↓w_laload, ↓w_lload_8, ↓w_goto, ↓w_lor, ↓w_is, ↓pm_cl1_1, ↓w_icle, ↓w_iastore, ↓w_iadd, ↓pm_cl2_4, ↓w_iinc_10, d1, b1, b2, lg_eq0, c1, c3, nI_add])
            | (simp only [w_in])
            | (intro _))
          all_goals first | (with_reducible exact w7 _ _ t1) | omega | grind
        · have hF : pthF P c q need ms r cov mis p = [] := if_neg hc
          have w7 := w (I2, J2) ⟨p1, p2, by
            show stH I2 J2 _
            rw [hft, hF, List.append_nil]
            exact p3⟩ (some (.int (nI p)))
          clear ih hQ p3 p2 hpre hcov hmis hE hE2 hft hF w hst b c2
          generalize wn need cov = W at hc w7 ⊢
          generalize opn need cov = O at w7 ⊢
          refine bX8_extend_4 ?_
          simp (disch := first | omega | decide) only [w_nl0, w_nli, w_nlr, ↓w_ts1, ↓w_ts0, w_rcv, w_rfv, w_cs, true_and, and_true, List.length_nil, List.length_cons, Nat.reduceAdd, Nat.reduceLeDiff, Nat.zero_le, Nat.reduceLT, ↓w_nil, ix_nI, nI_leP, nI_ltP, nI_eqP, nI_1, ↓i_inN, i_inN, l_le, l_lt, l_eq, r_le, r_lt, r_eq, sh42, sh43, sh37, sh9, sh23, ↓w_iload_10, ↓w_aload_0, ↓w_gf0, ↓w_icge, ↓w_gf3, ↓w_iaload, ↓w_istore_11, ↓w_iload_11, ↓w_laload, ↓w_lload_8, ↓w_land, ↓w_lconst0, ↓w_lcmp, ↓w_ifne, ↓w_goto, c1, c3, b1, lg_eq0]
          repeat' (first
            | (apply And.intro)
            | (with_reducible refine bX8_extend_5 ?_; simp (disch := first | omega | decide) only [w_nl0, w_nli, w_nlr, ↓w_ts1, ↓w_ts0, w_rcv, w_rfv, w_cs, true_and, and_true, List.length_nil, List.length_cons, Nat.reduceAdd, Nat.reduceLeDiff, Nat.zero_le, Nat.reduceLT, ↓w_nil, ix_nI, nI_leP, nI_ltP, nI_eqP, nI_1, ↓i_inN, i_inN, l_le, l_lt, l_eq, r_le, r_lt, r_eq, sh42, sh43, sh37, sh9, sh23, ↓w_aload_0, ↓w_gf1, ↓w_lload_2, ↓w_ldc2_3, ↓w_lxor, ↓w_land, ↓w_lstore_6, ↓w_iload_1, ↓w_gf0, ↓w_icge, ↓w_iconst, ↓w_iclt, ↓w_lload_6, ↓w_lconst0, ↓w_lcmp, ↓w_ifne, ↓w_lload_4, ↓w_iv, ↓pm_cl2_3, ↓w_vret, ↓w_lneg, ↓w_lstore_8, ↓w_istore_10, ↓w_iload_10, ↓w_gf3, ↓w_iaload, ↓w_istore_11, ↓w_iload_11, ↓w_laload, ↓w_lload_8, ↓w_goto, ↓w_lor, ↓w_is, ↓pm_cl1_1, ↓w_icle, ↓w_iastore, ↓w_iadd, ↓pm_cl2_4, ↓w_iinc_10, d1, b1, b2, lg_eq0, c1, c3])
            | (with_reducible refine bX8_extend_7 ?_; simp (disch := first | omega | decide) only [w_nl0, w_nli, w_nlr, ↓w_ts1, ↓w_ts0, w_rcv, w_rfv, w_cs, true_and, and_true, List.length_nil, List.length_cons, Nat.reduceAdd, Nat.reduceLeDiff, Nat.zero_le, Nat.reduceLT, ↓w_nil, ix_nI, nI_leP, nI_ltP, nI_eqP, nI_1, ↓i_inN, i_inN, l_le, l_lt, l_eq, r_le, r_lt, r_eq, sh42, sh43, sh37, sh9, sh23, ↓w_aload_0, ↓w_gf1, ↓w_lload_2, ↓w_ldc2_3, ↓w_lxor, ↓w_land, ↓w_lstore_6, ↓w_iload_1, ↓w_gf0, ↓w_icge, ↓w_iconst, ↓w_iclt, ↓w_lload_6, ↓w_lconst0, ↓w_lcmp, ↓w_ifne, ↓w_lload_4, ↓w_iv, ↓pm_cl2_3, ↓w_vret, ↓w_lneg, ↓w_lstore_8, ↓w_istore_10, ↓w_iload_10, ↓w_gf3, ↓w_iaload, ↓w_istore_11, ↓w_iload_11, ↓w_laload, ↓w_lload_8, ↓w_goto, ↓w_lor, ↓w_is, ↓pm_cl1_1, ↓w_icle, ↓w_iastore, ↓w_iadd, ↓pm_cl2_4, ↓w_iinc_10, d1, b1, b2, lg_eq0, c1, c3])
            | (with_reducible refine c_bitL (by omega) ?_ ; simp (disch := first | omega | decide) only [w_nl0, w_nli, w_nlr, ↓w_ts1, ↓w_ts0, w_rcv, w_rfv, w_cs, true_and, and_true, List.length_nil, List.length_cons, Nat.reduceAdd, Nat.reduceLeDiff, Nat.zero_le, Nat.reduceLT, ↓w_nil, ix_nI, nI_leP, nI_ltP, nI_eqP, nI_1, ↓i_inN, i_inN, l_le, l_lt, l_eq, r_le, r_lt, r_eq, sh42, sh43, sh37, sh9, sh23, ↓w_aload_0, ↓w_gf1, ↓w_lload_2, ↓w_ldc2_3, ↓w_lxor, ↓w_land, ↓w_lstore_6, ↓w_iload_1, ↓w_gf0, ↓w_icge, ↓w_iconst, ↓w_iclt, ↓w_lload_6, ↓w_lconst0, ↓w_lcmp, ↓w_ifne, ↓w_lload_4, ↓w_iv, ↓pm_cl2_3, ↓w_vret, ↓w_lneg, ↓w_lstore_8, ↓w_istore_10, ↓w_iload_10, ↓w_gf3, ↓w_iaload, ↓w_istore_11, ↓w_iload_11, ↓w_laload, ↓w_lload_8, ↓w_goto, ↓w_lor, ↓w_is, ↓pm_cl1_1, ↓w_icle, ↓w_iastore, ↓w_iadd, ↓pm_cl2_4, ↓w_iinc_10, d1, b1, b2, lg_eq0, c1, c3])
            | (simp only [w_in])
            | (intro _))
          all_goals first | (with_reducible exact w7) | omega | grind
      · intro z
        obtain ⟨I2, J2⟩ := a
        obtain ⟨p1, p2, p3⟩ := hP2
        have p1 : frE I J I2 J2 := p1
        have hq := hQ I2 J2 p1 p2 (by rw [pth_F]; rw [List.take_length] at p3; exact p3)
        have c1 := (hE.cg p1).2.2.1.1
        clear ih hQ p3 p2 hpre hcov hmis hE hst
        refine bX8_extend_4 ?_
        simp (disch := first | omega | decide) only [w_nl0, w_nli, w_nlr, ↓w_ts1, ↓w_ts0, w_rcv, w_rfv, w_cs, true_and, and_true, List.length_nil, List.length_cons, Nat.reduceAdd, Nat.reduceLeDiff, Nat.zero_le, Nat.reduceLT, ↓w_nil, ix_nI, nI_leP, nI_ltP, nI_eqP, nI_1, ↓i_inN, i_inN, l_le, l_lt, l_eq, r_le, r_lt, r_eq, sh42, sh43, sh37, sh9, sh23, ↓w_iload_10, ↓w_aload_0, ↓w_gf0, ↓w_icge, ↓w_gf3, ↓w_iaload, ↓w_istore_11, ↓w_iload_11, ↓w_laload, ↓w_lload_8, ↓w_land, ↓w_lconst0, ↓w_lcmp, ↓w_ifne, ↓w_goto, c1]
        repeat' (first
          | (apply And.intro)
          | (with_reducible refine bX8_extend_8 ?_; simp (disch := first | omega | decide) only [w_nl0, w_nli, w_nlr, ↓w_ts1, ↓w_ts0, w_rcv, w_rfv, w_cs, true_and, and_true, List.length_nil, List.length_cons, Nat.reduceAdd, Nat.reduceLeDiff, Nat.zero_le, Nat.reduceLT, ↓w_nil, ix_nI, nI_leP, nI_ltP, nI_eqP, nI_1, ↓i_inN, i_inN, l_le, l_lt, l_eq, r_le, r_lt, r_eq, sh42, sh43, sh37, sh9, sh23, ↓w_aload_0, ↓w_gf1, ↓w_lload_2, ↓w_ldc2_3, ↓w_lxor, ↓w_land, ↓w_lstore_6, ↓w_iload_1, ↓w_gf0, ↓w_icge, ↓w_iconst, ↓w_iclt, ↓w_lload_6, ↓w_lconst0, ↓w_lcmp, ↓w_ifne, ↓w_lload_4, ↓w_iv, ↓pm_cl2_3, ↓w_vret, ↓w_lneg, ↓w_lstore_8, ↓w_istore_10, ↓w_iload_10, ↓w_gf3, ↓w_iaload, ↓w_istore_11, ↓w_iload_11, ↓w_laload, ↓w_lload_8, ↓w_goto, ↓w_lor, ↓w_is, ↓pm_cl1_1, ↓w_icle, ↓w_iastore, ↓w_iadd, ↓pm_cl2_4, ↓w_iinc_10])
          | (simp only [w_in])
          | (intro _))
        all_goals first | (with_reducible exact hq) | omega | grind
    clear ih hQ hpre hcov hmis hst
    unfold wn opn at w4
    refine eX8_extend (by omega) ?_
    repeat' (first
      | (apply And.intro)
      | (with_reducible refine bX8_extend_0 ?_; simp (disch := first | omega | decide) only [w_nl0, w_nli, w_nlr, ↓w_ts1, ↓w_ts0, w_rcv, w_rfv, w_cs, true_and, and_true, List.length_nil, List.length_cons, Nat.reduceAdd, Nat.reduceLeDiff, Nat.zero_le, Nat.reduceLT, ↓w_nil, ix_nI, nI_leP, nI_ltP, nI_eqP, nI_1, ↓i_inN, i_inN, l_le, l_lt, l_eq, r_le, r_lt, r_eq, sh42, sh43, sh37, sh9, sh23, ↓w_aload_0, ↓w_gf1, ↓w_lload_2, ↓w_ldc2_3, ↓w_lxor, ↓w_land, ↓w_lstore_6, ↓w_iload_1, ↓w_gf0, ↓w_icge, ↓w_iconst, ↓w_iclt, ↓w_lload_6, ↓w_lconst0, ↓w_lcmp, ↓w_ifne, ↓w_lload_4, ↓w_iv, ↓pm_cl2_3, ↓w_vret, ↓w_lneg, ↓w_lstore_8, ↓w_istore_10, ↓w_iload_10, ↓w_gf3, ↓w_iaload, ↓w_istore_11, ↓w_iload_11, ↓w_laload, ↓w_lload_8, ↓w_goto, ↓w_lor, ↓w_is, ↓pm_cl1_1, ↓w_icle, ↓w_iastore, ↓w_iadd, ↓pm_cl2_4, ↓w_iinc_10, e1, f1])
      | (with_reducible refine bX8_extend_3 ?_; simp (disch := first | omega | decide) only [w_nl0, w_nli, w_nlr, ↓w_ts1, ↓w_ts0, w_rcv, w_rfv, w_cs, true_and, and_true, List.length_nil, List.length_cons, Nat.reduceAdd, Nat.reduceLeDiff, Nat.zero_le, Nat.reduceLT, ↓w_nil, ix_nI, nI_leP, nI_ltP, nI_eqP, nI_1, ↓i_inN, i_inN, l_le, l_lt, l_eq, r_le, r_lt, r_eq, sh42, sh43, sh37, sh9, sh23, ↓w_aload_0, ↓w_gf1, ↓w_lload_2, ↓w_ldc2_3, ↓w_lxor, ↓w_land, ↓w_lstore_6, ↓w_iload_1, ↓w_gf0, ↓w_icge, ↓w_iconst, ↓w_iclt, ↓w_lload_6, ↓w_lconst0, ↓w_lcmp, ↓w_ifne, ↓w_lload_4, ↓w_iv, ↓pm_cl2_3, ↓w_vret, ↓w_lneg, ↓w_lstore_8, ↓w_istore_10, ↓w_iload_10, ↓w_gf3, ↓w_iaload, ↓w_istore_11, ↓w_iload_11, ↓w_laload, ↓w_lload_8, ↓w_goto, ↓w_lor, ↓w_is, ↓pm_cl1_1, ↓w_icle, ↓w_iastore, ↓w_iadd, ↓pm_cl2_4, ↓w_iinc_10, e1, f1])
      | (simp only [w_in])
      | (intro _))
    all_goals first | (with_reducible exact w4) | omega | grind
end C91j
