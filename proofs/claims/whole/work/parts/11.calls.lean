/-! ===== arrays made, calls ===== -/
theorem pm_K.at {g : pm_G} {s U : State} {H : Heap} {locs : List Loc} (hK : pm_K g s) (hS : va_S (pm_A g) s.heap H locs) (hU : U.heap = H) (hW : s.WarmedH U.vm) : pm_K g U := by
  obtain ⟨h1, h2, h3, h4, h5⟩ := hK
  refine ⟨va_K.moved hW.alike h1, fun w hw => ?_, ?_, h4, by rw [hU]; exact Nat.le_trans h5 hS.1⟩
  · have hn := (List.mem_filter.mp hw).2
    have hz := h2 w hw
    cases w <;> first | (simp [pm_isN] at hn; done) | exact va_Nw.warmM hW hz
  · rw [hU]
    exact (h3.kept (hS.2.1 g.2.2.1 (Nat.lt_of_lt_of_le h4 h5) (Nat.not_le.mpr h4))).moved hW.alike
theorem pm_P_blind {g : pm_G} {args : List Value} {S : pm_SS} {I : pm_MI} {J : pm_ML} : FrameBlind (pm_P g args S I J) := by
  intro a U jf mk q
  obtain ⟨q0, q1, h1, h2, h3, h4, h5⟩ := q
  refine ⟨q0, q1, va_K.moved (u := U) (U := U.calling jf mk a) (Vm.Alike.refl U.vm) h1, fun w hw => ?_, va_X.moved (u := U) (U := U.calling jf mk a) (Vm.Alike.refl U.vm) h3, h4, h5⟩
  have hn := (List.mem_filter.mp hw).2
  have hz := h2 w hw
  cases w <;> first | (simp [pm_isN] at hn; done) | exact va_Nw.same (u := U) (U := U.calling jf mk a) rfl rfl hz
theorem pm_good {f : Nat} (h : Cond.code (pm_y f) (pm_bc f) (pm_mx f) (pm_rt f) ∈ pm_w) : GoodIn pm_w (pm_ww f) := by
  intro w hw
  rcases List.mem_cons.mp hw with rfl | hw
  · exact ⟨h, Or.inl rfl⟩
  · exact ⟨hw, good_of_word (List.mem_filter.mp hw).2⟩
theorem pm_fmIn {ws : List Cond} {is : List Nat} (h : ws = is.filterMap (fun i => lw_tbl[i]?)) {w : Cond} (hw : w ∈ ws) : w ∈ lw_tbl := by
  rw [h] at hw
  obtain ⟨i, -, hi⟩ := List.mem_filterMap.mp hw
  exact List.mem_of_getElem? hi
set_option maxRecDepth 100000 in
theorem pm_codeIn {f : Nat} (hf : f < 302) : Cond.code (pm_y f) (pm_bc f) (pm_mx f) (pm_rt f) ∈ pm_w := by
  refine List.mem_filter.mpr ⟨?_, rfl⟩
  have hall : ∀ q ∈ pm_mt.take 302, pm_cw q ∈ lw_tbl := by
    have e : pm_mt.take 302 = pm_mt0 ++ (pm_mt1 ++ (pm_mt2 ++ (pm_mt3 ++ (pm_mt4 ++ (pm_mt5 ++ (pm_mt6 ++ (pm_mt7 ++ (pm_mt8 ++ pm_mt9.take 14)))))))) := rfl
    rw [e]
    have key : ∀ {l : List (MethodName × ByteArray × Nat × Option FieldType × Nat × Nat × Nat × Nat × Nat)} {is : List Nat}, l.map pm_cw = is.filterMap (fun i => lw_tbl[i]?) → ∀ q ∈ l, pm_cw q ∈ lw_tbl := fun h q hq => pm_fmIn h (List.mem_map_of_mem hq)
    intro q hq
    simp only [List.mem_append] at hq
    rcases hq with hq | hq | hq | hq | hq | hq | hq | hq | hq | hq
    · exact key pm_codes0 q hq
    · exact key pm_codes1 q hq
    · exact key pm_codes2 q hq
    · exact key pm_codes3 q hq
    · exact key pm_codes4 q hq
    · exact key pm_codes5 q hq
    · exact key pm_codes6 q hq
    · exact key pm_codes7 q hq
    · exact key pm_codes8 q hq
    · exact key pm_codes9 q hq
  have hl : f < pm_mt.length := by rw [pm_len_mt]; omega
  have hm : pm_mt[f]? = some (pm_m f) := by
    unfold pm_m
    rw [List.getD_eq_getElem?_getD, List.getElem?_eq_getElem hl]
    rfl
  have hm2 : (pm_mt.take 302)[f]? = some (pm_m f) := by
    rw [List.getElem?_take_of_lt hf]
    exact hm
  exact hall _ (List.mem_of_getElem? hm2)
/-- what the tables say of a method -/
theorem pm_mfacts {f : Nat} (hf : f < 297) : (pm_y f).cls = pm_cn (pm_ow f) ∧ ((pm_y f).cls ≠ "java/lang/invoke/MethodHandle" ∧ (pm_y f).cls ≠ "java/lang/invoke/VarHandle") ∧ plainName (pm_y f).cls = true ∧ (parseMethodDescriptor (pm_y f).desc).map (fun d => d.parameters.length) = some (pm_na f) ∧ pm_mx f ≤ 21 ∧ Cond.initialized (pm_y f).cls ∈ pm_w ∧ (pm_kn f = 0 → Cond.instanceMethod (pm_y f) ∈ pm_w ∧ Cond.selects (pm_y f).cls (pm_y f) (pm_y f) ∈ pm_w ∧ pm_ow f < 13) ∧ (pm_kn f = 1 → Cond.static (pm_y f) ∈ pm_w) ∧ (pm_kn f = 2 → Cond.instanceMethod (pm_y f) ∈ pm_w ∧ (pm_y f).name = "<init>" ∧ pm_rt f = none) := by
  have h := pm_mok_all hf
  unfold pm_mok at h
  obtain ⟨h0, h1, h2, h3⟩ := pm_mh.getD f (0, 0, 0, 0)
  simp only [Bool.and_eq_true, decide_eq_true_eq] at h
  obtain ⟨⟨⟨⟨⟨a1, a2⟩, a3⟩, a4⟩, a5⟩, a6⟩ := h
  have hc := pm_allr pm_cls_all a2
  simp only [Bool.and_eq_true, decide_eq_true_eq] at hc
  refine ⟨a1, ⟨by rw [a1]; exact hc.1.2, by rw [a1]; exact hc.2⟩, by rw [a1]; exact hc.1.1, a3, a4, pm_wIn a5 rfl, fun hk => ?_, fun hk => ?_, fun hk => ?_⟩
  · rw [hk] at a6
    simp only [Bool.and_eq_true, decide_eq_true_eq] at a6
    exact ⟨pm_wIn a6.1.1 rfl, pm_wIn a6.1.2 rfl, a6.2⟩
  · rw [hk] at a6
    simp only [decide_eq_true_eq] at a6
    exact pm_wIn a6 rfl
  · rw [hk] at a6
    simp only [Bool.and_eq_true, decide_eq_true_eq] at a6
    exact ⟨pm_wIn a6.1.1 rfl, a6.1.2, a6.2⟩
theorem pm_lkfacts {h own i f2 x y : Nat} (hl : h < pm_lk.length) (he : pm_lk.getD h (999, 0, 0, 0, 0) = (own, i, f2, x, y)) : Cond.methodLink (pm_cn own) i (pm_y f2) ∈ pm_w ∨ Cond.methodLinkNest (pm_cn own) i (pm_y f2) RX11 ∈ pm_nest := by
  rw [List.getD_eq_getElem?_getD, List.getElem?_eq_getElem hl] at he
  simp only [Option.getD_some] at he
  have hm := List.all_eq_true.mp pm_lk_all _ (List.getElem_mem hl)
  rw [he] at hm
  simp only [decide_eq_true_eq] at hm
  by_cases hx : x = 0
  · rw [if_pos hx] at hm
    exact Or.inl (pm_wIn hm rfl)
  · rw [if_neg hx] at hm
    exact Or.inr (pm_nIn hm rfl)
theorem pm_sum8 : ∀ (l : List Value) (g : pm_G), ((l.map (pm_v g)).map fun v => v.category).sum ≤ 2 * l.length
  | [], _ => by simp
  | v :: l, g => by
    have h1 := pm_sum8 l g
    have h2 := lv_cat (pm_v g v)
    simp only [List.map_cons, List.sum_cons, List.length_cons]
    omega
theorem pm_sl_len (g : pm_G) : ∀ l : List Value, (lg_sl (l.map (pm_v g))).length = (lg_sl l).length
  | [] => rfl
  | v :: l => by
    have ih := pm_sl_len g l
    unfold lg_sl at ih ⊢
    simp only [List.map_cons, List.flatMap_cons, List.length_append, pm_v_cat, ih]
    split <;> rfl
section PMC
variable {g : pm_G} {d f : Nat} {R : Room} {Q : pm_Po} {pc : Nat} {ls : pm_LS} {S : pm_SS} {I : pm_MI} {J : pm_ML} {k : Nat × Nat}
theorem pm_r_newa {kd : Nat} {t : ArrayType} {n : Int32} {st : List Value} (ht : (t = .int ∧ kd = 0) ∨ (t = .long ∧ kd = 1) ∨ (t = .byte ∧ kd = 2) ∨ (t = .boolean ∧ kd = 3)) (hn : ¬ n < 0) (hm : n.toNatClampNeg ≤ 100000) (hc : k.1 + 1 ≤ R.cells) (hs : k.2 + n.toNatClampNeg ≤ R.slots) (hdg : decode (pm_bc f) pc = .ok (.newarray t, 2))
    (w : pm_V g d f R Q (pc + 2) ls (.ref S.length :: st) (S ++ [(kd, n.toNatClampNeg, [])]) (pm_z I S.length) (pm_zL J S.length) (k.1 + 1, k.2 + n.toNatClampNeg)) : pm_V g d f R Q pc ls (.int n :: st) S I J k := by
  intro hR p e s m args below meth c H locs lsA hB hK hP hS hl2
  obtain ⟨hx, hb, hml, hr, hlk, hown, hts, hnm⟩ := id hB
  have hah := pm_ah_all
  simp only [Bool.and_eq_true, decide_eq_true_eq] at hah
  rcases ht with ⟨rfl, rfl⟩ | ⟨rfl, rfl⟩ | ⟨rfl, rfl⟩ | ⟨rfl, rfl⟩
  · refine va_newaK hx hb (hts _ (pm_wIn hah.1.1.1 rfl)) rfl hdg rfl hn rfl (by show _ * 4 ≤ _; omega) hc hs hP.1 fun H1 cA e1 z1 o1 hAr hNm => ?_
    rw [← hP.1] at z1 o1
    have hcA : cA = g.2.2.2.2.2.2 0 := Option.some.inj (hNm.symm.trans (hK.1.2 0 _ rfl).2)
    subst hcA
    exact w ⟨hR.1, hR.2.1, hc, hs⟩ p e s m args below meth c H1 locs lsA hB hK (hP.push z1 o1 (by show H1[_]? = some (vp_cell _ (_, .inl _)); rw [e1, vp_cell_i]; simp [pm_z]; rfl) pm_z_ne pm_zL_ne) (pm_S_push hS z1 o1) hl2
  · refine va_newaK hx hb (hts _ (pm_wIn hah.1.1.2 rfl)) rfl hdg rfl hn rfl (by show _ * 8 ≤ _; omega) hc hs hP.1 fun H1 cA e1 z1 o1 hAr hNm => ?_
    rw [← hP.1] at z1 o1
    have hcA : cA = g.2.2.2.2.2.2 1 := Option.some.inj (hNm.symm.trans (hK.1.2 1 _ rfl).2)
    subst hcA
    exact w ⟨hR.1, hR.2.1, hc, hs⟩ p e s m args below meth c H1 locs lsA hB hK (hP.push z1 o1 (by show H1[_]? = some (vp_cell _ (_, .inr (.inl _))); rw [e1, vp_cell_l]; simp [pm_zL]; rfl) pm_z_ne pm_zL_ne) (pm_S_push hS z1 o1) hl2
  · refine va_newaK hx hb (hts _ (pm_wIn hah.1.2 rfl)) rfl hdg rfl hn rfl (by show _ * 1 ≤ _; omega) hc hs hP.1 fun H1 cA e1 z1 o1 hAr hNm => ?_
    rw [← hP.1] at z1 o1
    have hcA : cA = g.2.2.2.2.2.2 2 := Option.some.inj (hNm.symm.trans (hK.1.2 2 _ rfl).2)
    subst hcA
    exact w ⟨hR.1, hR.2.1, hc, hs⟩ p e s m args below meth c H1 locs lsA hB hK (hP.push z1 o1 (by show H1[_]? = some (vp_cell _ (_, .inl _)); rw [e1, vp_cell_i]; simp [pm_z]; rfl) pm_z_ne pm_zL_ne) (pm_S_push hS z1 o1) hl2
  · refine va_newaK hx hb (hts _ (pm_wIn hah.2 rfl)) rfl hdg rfl hn rfl (by show _ * 1 ≤ _; omega) hc hs hP.1 fun H1 cA e1 z1 o1 hAr hNm => ?_
    rw [← hP.1] at z1 o1
    have hcA : cA = g.2.2.2.2.2.2 3 := Option.some.inj (hNm.symm.trans (hK.1.2 3 _ rfl).2)
    subst hcA
    exact w ⟨hR.1, hR.2.1, hc, hs⟩ p e s m args below meth c H1 locs lsA hB hK (hP.push z1 o1 (by show H1[_]? = some (vp_cell _ (_, .inl _)); rw [e1, vp_cell_i]; simp [pm_z]; rfl) pm_z_ne pm_zL_ne) (pm_S_push hS z1 o1) hl2
/-- behind a call -/
theorem pm_after {mc ms : Nat} {Q2 : pm_Po} {rest st0 : List Value} {lsA : Array Slot} {p : Program} {e : Env} {s : State} {m : MethodId} {args a : Array Value} {below : List Frame} {meth : Method} {c : Code} {H : Heap} {locs : List Loc} (hR : d + 1 ≤ R.frames ∧ 40 * (d + 1) ≤ R.locals ∧ k.1 ≤ R.cells ∧ k.2 ≤ R.slots) (hB : pm_B f p s m args meth c) (hK : pm_K g s) (hS : va_S (pm_A g) s.heap H locs) (hl : pm_ls g (pm_mx f) ls lsA) (hc : k.1 + mc ≤ R.cells) (hs : k.2 + ms ≤ R.slots)
    (hr : va_Run p g.1 e R s m args below meth c H locs k.1 k.2 mc ms (F0 m pc lsA st0) (rest.map (pm_v g)) (pm_Q g Q2 a) (pm_A g)) (w : ∀ r S I J, Q2 r S I J → pm_V g d f R Q (pc + 3) ls (r.toList ++ rest) S I J (k.1 + mc, k.2 + ms)) :
    W p g.1 e R s m args below meth c H locs k.1 k.2 (MQ below (pm_Q g Q) args s R.cells R.slots (pm_A g)) (F0 m pc lsA st0) := by
  intro T hT X
  obtain ⟨v, st₀, t, T', L, h0, X', hL, e1, e2, ⟨r, S2, I2, J2, hv, hq, hR2, hz, hk⟩, st⟩ := hr T hT X
  have hv : v = r.map (pm_v g) := Outcome.returned.inj hv
  subst hv
  rw [h0] at hz hk
  have hS2 : va_S (pm_A g) s.heap T'.heap (locs ++ L) := by
    refine ⟨Nat.le_trans hS.1 (by rw [e1]; exact hz), fun q h1 h2 => by rw [e1, hk q (Nat.lt_of_lt_of_le h1 hS.1) h2]; exact hS.2.1 q h1 h2, fun q hq2 => ?_⟩
    rcases List.mem_append.mp hq2 with h | h
    · exact hS.2.2 q h
    · exact hL q h
  have W2 := w r S2 I2 J2 hq ⟨hR.1, hR.2.1, hc, hs⟩ p e s m args below meth c T'.heap (locs ++ L) lsA hB hK (by rw [e1]; exact hR2) hS2 hl
  have e3 : (r.toList ++ rest).map (pm_v g) = (r.map (pm_v g)).toList ++ rest.map (pm_v g) := by cases r <;> rfl
  rw [e3] at W2
  obtain ⟨t2, a1, b1⟩ := W2 T' rfl X'
  exact ⟨t2, st t2 a1, b1⟩
theorem pm_rcv_s {c : Nat} {args : List Value} (h : pm_rcv S c args) : ∃ q As, args = .ref q :: As ∧ pm_kd S q = c + 4 := by
  unfold pm_rcv at h
  split at h
  · exact ⟨_, _, rfl, h⟩
  · exact h.elim
theorem pm_split {n : Nat} (st : List Value) : st = (st.take n).reverse.reverse ++ st.drop n := by rw [List.reverse_reverse, List.take_append_drop]
theorem pm_len_args {n : Nat} {st : List Value} (h : n ≤ st.length) : (st.take n).reverse.length = n := by rw [List.length_reverse, List.length_take]; omega
/-- invokevirtual, invokespecial -/
theorem pm_r_call {f2 n idx : Nat} {st : List Value} {Q2 : pm_Po} (kn : Nat) (hkn2 : kn = 0 ∨ kn = 2) (hf2 : f2 < 297) (hkn : pm_kn f2 = kn) (hl : Cond.methodLink (pm_cn (pm_ow f)) idx (pm_y f2) ∈ pm_w ∨ Cond.methodLinkNest (pm_cn (pm_ow f)) idx (pm_y f2) RX11 ∈ pm_nest) (hn : n = 1 + pm_na f2) (h1 : n ≤ st.length) (h2 : (st.drop n).length ≤ 4) (h3 : pm_rcv S (pm_ow f2) (st.take n).reverse) (hC : pm_C g d f2 (st.take n).reverse Q2 S I J) (hc : k.1 + pm_mc f2 ≤ R.cells) (hs : k.2 + pm_ms f2 ≤ R.slots)
    (hdg : decode (pm_bc f) pc = .ok (if kn = 0 then .invokevirtual idx else .invokespecial idx, 3)) (w : ∀ r S I J, Q2 r S I J → pm_V g d f R Q (pc + 3) ls (r.toList ++ st.drop n) S I J (k.1 + pm_mc f2, k.2 + pm_ms f2)) : pm_V g d f R Q pc ls st S I J k := by
  intro hR p e s m args below meth c H locs lsA hB hK hP hS hl2
  obtain ⟨hx, hb, hml, hr, hlk, hown, hts, hnm⟩ := id hB
  obtain ⟨a1, a2, a3, a4, a5, a6, a7, a8, a9⟩ := pm_mfacts hf2
  obtain ⟨q, As, hargs, hq⟩ := pm_rcv_s h3
  have hlen := pm_len_args h1
  rw [hargs] at hC hlen
  have hAs : (As.map (pm_v g)).length = pm_na f2 := by simp at hlen ⊢; omega
  have hst : st.map (pm_v g) = (As.map (pm_v g)).reverse ++ .ref (g.2.1 + q) :: (st.drop n).map (pm_v g) := by
    conv => lhs; rw [pm_split (n := n) st, hargs]
    simp [pm_v]
  have hroom : 2 * (F0 m pc lsA (st.map (pm_v g))).monitorRoom + (((st.drop n).map (pm_v g)).map fun v => v.category).sum ≤ 8 := lv_room (by have := pm_sum8 (st.drop n) g; omega)
  have hcode := pm_codeIn (show f2 < 302 by omega)
  have hRm : (pm_rm d f2).frames + 1 ≤ R.frames ∧ 8 + (pm_mx f2 + 11) + (pm_rm d f2).locals ≤ R.locals := ⟨hR.1, by have := hR.2.1; show 8 + (pm_mx f2 + 11) + 40 * d ≤ R.locals; omega⟩
  have hpre : ∀ U : State, U.heap = H → s.WarmedH U.vm → pm_P g (.ref q :: As) S I J (Value.ref (g.2.1 + q) :: As.map (pm_v g)).toArray U := fun U hU hW => ⟨rfl, by rw [hU]; exact hP, hK.at hS hU hW⟩
  have hfix : CallFix p m c (pm_bc f) (pm_mx f) s args pm_w (pm_cn (pm_ow f)) := ⟨hx, hb, hml, hown, hts⟩
  rcases hkn2 with rfl | rfl
  · obtain ⟨b1, b2, b3⟩ := a7 hkn
    have hrecv := va_recv hK.1 hP.2 (pm_vw (pm_ow f2) b3) (pm_ws_at (pm_sh hq (show pm_ow f2 + 4 ≠ 999 by omega)))
    rcases hl with hl | hl
    · refine pm_after hR hB hK hS hl2 hc hs (va_runV (As := As.map (pm_v g)) (b := g.2.1 + q) hfix hC ⟨callB_of (pm_na f2) hts (pm_good hcode) rfl rfl rfl (hts _ a6) (hts _ hl) ⟨a2.1, a2.2, a4⟩ hRm, hts _ b1, hts _ b2⟩ ⟨pm_P_blind, by rw [a1]; exact hrecv, hpre⟩ rfl hAs hl2.1 hst hroom hdg ⟨hc, hs⟩) w
    · refine pm_after hR hB hK hS hl2 hc hs (va_runVN (As := As.map (pm_v g)) (b := g.2.1 + q) hfix hC ⟨va_cnB (pm_na f2) hts (pm_good hcode) rfl rfl rfl (hK.2.1 _ hl) (hts _ a6) ⟨a2.1, a2.2, a4⟩ hRm, hts _ b1, hts _ b2⟩ ⟨pm_P_blind, by rw [a1]; exact hrecv, hpre⟩ rfl hAs hl2.1 hst hroom hdg ⟨hc, hs⟩) w
  · obtain ⟨b1, b2, b3⟩ := a9 hkn
    have hcode2 := hcode
    rw [b3] at hcode2
    have hww : pm_ww f2 = Cond.code (pm_y f2) (pm_bc f2) (pm_mx f2) none :: pm_w := by rw [← b3]; rfl
    rcases hl with hl | hl
    · refine pm_after hR hB hK hS hl2 hc hs (va_runI (As := As.map (pm_v g)) (b := g.2.1 + q) hfix hC ⟨callB_of (pm_na f2) hts (pm_good hcode) hww rfl rfl (hts _ a6) (hts _ hl) ⟨a2.1, a2.2, a4⟩ hRm, b2, hts _ b1⟩ ⟨pm_P_blind, hpre⟩ rfl hAs hl2.1 hst hroom hdg ⟨hc, hs⟩) w
    · refine pm_after hR hB hK hS hl2 hc hs (va_runIN (As := As.map (pm_v g)) (b := g.2.1 + q) hfix hC ⟨va_cnB (pm_na f2) hts (pm_good hcode) hww rfl rfl (hK.2.1 _ hl) (hts _ a6) ⟨a2.1, a2.2, a4⟩ hRm, b2, hts _ b1⟩ ⟨pm_P_blind, hpre⟩ rfl hAs hl2.1 hst hroom hdg ⟨hc, hs⟩) w
/-- invokestatic -/
theorem pm_r_callS {f2 n idx : Nat} {st : List Value} {Q2 : pm_Po} (hf2 : f2 < 297) (hkn : pm_kn f2 = 1) (hl : Cond.methodLink (pm_cn (pm_ow f)) idx (pm_y f2) ∈ pm_w ∨ Cond.methodLinkNest (pm_cn (pm_ow f)) idx (pm_y f2) RX11 ∈ pm_nest) (hn : n = pm_na f2) (h1 : n ≤ st.length) (h2 : (st.drop n).length ≤ 4) (hC : pm_C g d f2 (st.take n).reverse Q2 S I J) (hc : k.1 + pm_mc f2 ≤ R.cells) (hs : k.2 + pm_ms f2 ≤ R.slots)
    (hdg : decode (pm_bc f) pc = .ok (.invokestatic idx, 3)) (w : ∀ r S I J, Q2 r S I J → pm_V g d f R Q (pc + 3) ls (r.toList ++ st.drop n) S I J (k.1 + pm_mc f2, k.2 + pm_ms f2)) : pm_V g d f R Q pc ls st S I J k := by
  intro hR p e s m args below meth c H locs lsA hB hK hP hS hl2
  obtain ⟨hx, hb, hml, hr, hlk, hown, hts, hnm⟩ := id hB
  obtain ⟨a1, a2, a3, a4, a5, a6, a7, a8, a9⟩ := pm_mfacts hf2
  have hlen := pm_len_args h1
  have hAs : ((st.take n).reverse.map (pm_v g)).length = pm_na f2 := by rw [List.length_map, hlen, hn]
  have hst : st.map (pm_v g) = ((st.take n).reverse.map (pm_v g)).reverse ++ (st.drop n).map (pm_v g) := by
    conv => lhs; rw [pm_split (n := n) st]
    simp
  have hroom : 2 * (F0 m pc lsA (st.map (pm_v g))).monitorRoom + (((st.drop n).map (pm_v g)).map fun v => v.category).sum ≤ 8 := lv_room (by have := pm_sum8 (st.drop n) g; omega)
  have hcode := pm_codeIn (show f2 < 302 by omega)
  have hRm : (pm_rm d f2).frames + 1 ≤ R.frames ∧ 8 + (pm_mx f2 + 11) + (pm_rm d f2).locals ≤ R.locals := ⟨hR.1, by have := hR.2.1; show 8 + (pm_mx f2 + 11) + 40 * d ≤ R.locals; omega⟩
  have hpre : ∀ U : State, U.heap = H → s.WarmedH U.vm → pm_P g (st.take n).reverse S I J ((st.take n).reverse.map (pm_v g)).toArray U := fun U hU hW => ⟨rfl, by rw [hU]; exact hP, hK.at hS hU hW⟩
  have hfix : CallFix p m c (pm_bc f) (pm_mx f) s args pm_w (pm_cn (pm_ow f)) := ⟨hx, hb, hml, hown, hts⟩
  rcases hl with hl | hl
  · refine pm_after hR hB hK hS hl2 hc hs (va_runS (As := (st.take n).reverse.map (pm_v g)) hfix hC ⟨callB_of (pm_na f2) hts (pm_good hcode) rfl rfl rfl (hts _ a6) (hts _ hl) ⟨a2.1, a2.2, a4⟩ hRm, hts _ (a8 hkn)⟩ ⟨pm_P_blind, hpre⟩ rfl hAs hl2.1 hst hroom hdg ⟨hc, hs⟩) w
  · refine pm_after hR hB hK hS hl2 hc hs (va_runSN (As := (st.take n).reverse.map (pm_v g)) hfix hC ⟨va_cnB (pm_na f2) hts (pm_good hcode) rfl rfl rfl (hK.2.1 _ hl) (hts _ a6) ⟨a2.1, a2.2, a4⟩ hRm, hts _ (a8 hkn), trivial⟩ ⟨pm_P_blind, hpre⟩ rfl hAs hl2.1 hst hroom hdg ⟨hc, hs⟩) w
/-- a method's body gives its contract -/
theorem pm_ent0 {args : List Value} {ls0 : pm_LS} (hf : f < 297) (hd : 1 ≤ d) (hls : ∀ (i : Nat) (v : Value), ls0[i]? = some (some v) → (i, v) ∈ lv_args 0 args) (hlen : (lg_sl args).length ≤ pm_mx f) (w : pm_V g (d - 1) f (pm_rm d f) Q 0 ls0 [] S I J (0, 0)) : pm_C g d f args Q S I J := by
  obtain ⟨a1, a2, a3, a4, a5, a6, a7, a8, a9⟩ := pm_mfacts hf
  refine Met.ofW (cc := pm_bc f) (maxL := pm_mx f) (ret := pm_rt f) a3 rfl ?_
  intro p e s m args' below meth c s₁ B hml hv
  obtain ⟨rfl, hP, hK⟩ := hv
  have hts := atoms_spec (ws := pm_ww f) B.pre
  have hlen2 : (lg_sl (args.map (pm_v g))).length ≤ pm_mx f := by rw [pm_sl_len]; exact hlen
  have hl := lv_entry (args.map (pm_v g)) (n := pm_mx f) hlen2
  rw [lg_entry_eq]
  have key : ∀ (l : List Value) (j i : Nat) (v : Value), (i, v) ∈ lv_args j l → (i, pm_v g v) ∈ lv_args j (l.map (pm_v g)) := by
    intro l
    induction l with
    | nil => intro j i v h; simp [lv_args] at h
    | cons x l ih =>
      intro j i v h
      simp only [lv_args, List.map_cons, List.mem_cons, pm_v_cat] at h ⊢
      rcases h with h | h
      · cases h; exact Or.inl rfl
      · exact Or.inr (ih _ _ _ h)
  refine w ⟨by show d - 1 + 1 ≤ d; omega, by show 40 * (d - 1 + 1) ≤ 40 * d; omega, Nat.zero_le _, Nat.zero_le _⟩ p e s m _ below meth c s.heap [] _ ⟨B.exec, B.bytes, hml, B.returns, B.notSynchronized, by rw [← a1]; exact findClass_of_methodNamed B.named, fun w hw => hts w (List.mem_cons_of_mem _ hw), (name_of_methodNamed B.named B.method).1⟩ hK hP va_S.rf ⟨hl.1, hl.2.1, fun i v hv => hl.2.2 (i, pm_v g v) (key _ _ _ _ (hls i v hv))⟩
end PMC
