section PMV
variable {g : pm_G} {d f : Nat} {R : Room} {Q : pm_Po} {pc : Nat} {ls : pm_LS} {S : pm_SS} {I : pm_MI} {J : pm_ML} {k : Nat × Nat}
theorem pm_lift {pc' : Nat} {st st' : List Value} (h : ∀ (p : Program) (e : Env) (s : State) (m : MethodId) (args : Array Value) (below : List Frame) (meth : Method) (c : Code) (H : Heap) (locs : List Loc) (lsA : Array Slot) (Qs : State → Prop), pm_B f p s m args meth c → pm_ls g (pm_mx f) ls lsA → W p g.1 e R s m args below meth c H locs k.1 k.2 Qs (F0 m pc' lsA (st'.map (pm_v g))) → W p g.1 e R s m args below meth c H locs k.1 k.2 Qs (F0 m pc lsA (st.map (pm_v g)))) (w : pm_V g d f R Q pc' ls st' S I J k) : pm_V g d f R Q pc ls st S I J k :=
  fun hR p e s m args below meth c H locs lsA hB hK hP hS hl => h p e s m args below meth c H locs lsA _ hB hl (w hR p e s m args below meth c H locs lsA hB hK hP hS hl)
theorem pm_lst {pc' : Nat} {st st' : List Value} {ls' : pm_LS} (h : ∀ (p : Program) (e : Env) (s : State) (m : MethodId) (args : Array Value) (below : List Frame) (meth : Method) (c : Code) (H : Heap) (locs : List Loc) (lsA : Array Slot) (Qs : State → Prop), pm_B f p s m args meth c → pm_ls g (pm_mx f) ls lsA → (∀ lsB : Array Slot, pm_ls g (pm_mx f) ls' lsB → W p g.1 e R s m args below meth c H locs k.1 k.2 Qs (F0 m pc' lsB (st'.map (pm_v g)))) → W p g.1 e R s m args below meth c H locs k.1 k.2 Qs (F0 m pc lsA (st.map (pm_v g)))) (w : pm_V g d f R Q pc' ls' st' S I J k) : pm_V g d f R Q pc ls st S I J k :=
  fun hR p e s m args below meth c H locs lsA hB hK hP hS hl => h p e s m args below meth c H locs lsA _ hB hl (fun lsB hlB => w hR p e s m args below meth c H locs lsB hB hK hP hS hlB)
theorem pm_R.set {S' : pm_SS} {I' : pm_MI} {J' : pm_ML} {H H1 : Heap} {a : Nat} {sh sh' : pm_Sh} (hP : pm_R g S I J H) (ha : S[a]? = some sh) (hS' : S' = S.set a sh') (z : H1.size = H.size) (oq : ∀ q : Nat, q ≠ g.2.1 + a → H1[q]? = H[q]?) (hat : va_at g.2.2.2.2.2.1 vwCl (g.2.1 + a, pm_e g I' J' a sh') H1) (hI : ∀ b, b ≠ a → I' b = I b) (hJ : ∀ b, b ≠ a → J' b = J b) : pm_R g S' I' J' H1 := by
  refine ⟨by rw [z, hP.1, hS', List.length_set], ?_⟩
  rw [← pm_ws_set (pm_lt ha) hS' rfl hI hJ]
  exact hP.2.set (pm_ws_D g S I J) (pm_ws_at ha) hat oq
theorem pm_S_put {s : State} {H H1 : Heap} {locs : List Loc} {a i : Nat} (hS : va_S (pm_A g) s.heap H locs) (z : H1.size = H.size) (oq : ∀ q : Nat, q ≠ g.2.1 + a → H1[q]? = H[q]?) : va_S (pm_A g) s.heap H1 (locs ++ [⟨g.2.1 + a, i⟩]) := hS.put z oq (Nat.le_add_right _ _)
theorem pm_r_iaload {a : Nat} {i : Int32} {st : List Value} (hk : pm_kd S a = 0) (hin : vp_in i (pm_n S a)) (hdg : decode (pm_bc f) pc = .ok (.iaload, 1)) (w : pm_V g d f R Q (pc + 1) ls (.int (I a i.toNatClampNeg) :: st) S I J k) : pm_V g d f R Q pc ls (.int i :: .ref a :: st) S I J k := by
  intro hR p e s m args below meth c H locs lsA hB hK hP hS hl
  exact va_iald hB.1 hB.2.1 hK.1 hP.2 a 0 (pm_ws_at (pm_sh hk (by decide))) rfl hin hdg (w hR p e s m args below meth c H locs lsA hB hK hP hS hl)
theorem pm_r_laload {a : Nat} {i : Int32} {st : List Value} (hk : pm_kd S a = 1) (hin : vp_in i (pm_n S a)) (hdg : decode (pm_bc f) pc = .ok (.laload, 1)) (w : pm_V g d f R Q (pc + 1) ls (.long (J a i.toNatClampNeg) :: st) S I J k) : pm_V g d f R Q pc ls (.int i :: .ref a :: st) S I J k := by
  intro hR p e s m args below meth c H locs lsA hB hK hP hS hl
  exact va_lald hB.1 hB.2.1 hK.1 hP.2 a 1 (pm_ws_at (pm_sh hk (by decide))) rfl hin hdg (w hR p e s m args below meth c H locs lsA hB hK hP hS hl)
theorem pm_r_baload {a : Nat} {i : Int32} {st : List Value} (hk : pm_kd S a = 2 ∨ pm_kd S a = 3) (hin : vp_in i (pm_n S a)) (hdg : decode (pm_bc f) pc = .ok (.baload, 1)) (w : pm_V g d f R Q (pc + 1) ls (.int (I a i.toNatClampNeg) :: st) S I J k) : pm_V g d f R Q pc ls (.int i :: .ref a :: st) S I J k := by
  intro hR p e s m args below meth c H locs lsA hB hK hP hS hl
  rcases hk with hk | hk
  · exact va_bald hB.1 hB.2.1 hK.1 hP.2 a 2 (pm_ws_at (pm_sh hk (by decide))) rfl hin hdg (w hR p e s m args below meth c H locs lsA hB hK hP hS hl)
  · exact va_zald hB.1 hB.2.1 hK.1 hP.2 a 3 (pm_ws_at (pm_sh hk (by decide))) rfl hin hdg (w hR p e s m args below meth c H locs lsA hB hK hP hS hl)
theorem pm_r_sld {i : Int32} {st : List Value} (hin : vp_in i g.2.2.2.1) (hdg : decode (pm_bc f) pc = .ok (.iaload, 1)) (w : pm_V g d f R Q (pc + 1) ls (.int (g.2.2.2.2.1 i.toNatClampNeg) :: st) S I J k) : pm_V g d f R Q pc ls (.int i :: .null :: st) S I J k := by
  intro hR p e s m args below meth c H locs lsA hB hK hP hS hl
  exact va_sld hB.1 hB.2.1 hK.2.2.1 (Nat.lt_of_lt_of_le hK.2.2.2.1 hK.2.2.2.2) (Nat.not_le.mpr hK.2.2.2.1) hS hin hdg (w hR p e s m args below meth c H locs lsA hB hK hP hS hl)
theorem pm_r_slen {st : List Value} (hdg : decode (pm_bc f) pc = .ok (.arraylength, 1)) (w : pm_V g d f R Q (pc + 1) ls (.int (Int32.ofNat g.2.2.2.1) :: st) S I J k) : pm_V g d f R Q pc ls (.null :: st) S I J k := by
  intro hR p e s m args below meth c H locs lsA hB hK hP hS hl
  exact va_slen hB.1 hB.2.1 hK.2.2.1 (Nat.lt_of_lt_of_le hK.2.2.2.1 hK.2.2.2.2) (Nat.not_le.mpr hK.2.2.2.1) hS hdg (w hR p e s m args below meth c H locs lsA hB hK hP hS hl)
theorem pm_r_alen {a : Nat} {st : List Value} (hk : pm_kd S a < 4) (hdg : decode (pm_bc f) pc = .ok (.arraylength, 1)) (w : pm_V g d f R Q (pc + 1) ls (.int (Int32.ofNat (pm_n S a)) :: st) S I J k) : pm_V g d f R Q pc ls (.ref a :: st) S I J k := by
  intro hR p e s m args below meth c H locs lsA hB hK hP hS hl
  have w' := w hR p e s m args below meth c H locs lsA hB hK hP hS hl
  rcases (show pm_kd S a = 0 ∨ pm_kd S a = 1 ∨ pm_kd S a = 2 ∨ pm_kd S a = 3 by omega) with h | h | h | h
  · exact va_alen hB.1 hB.2.1 hK.1 hP.2 a 0 (pm_ws_at (pm_sh h (by decide))) rfl rfl hdg w'
  · exact va_alen hB.1 hB.2.1 hK.1 hP.2 a 1 (pm_ws_at (pm_sh h (by decide))) rfl rfl hdg w'
  · exact va_alen hB.1 hB.2.1 hK.1 hP.2 a 2 (pm_ws_at (pm_sh h (by decide))) rfl rfl hdg w'
  · exact va_alen hB.1 hB.2.1 hK.1 hP.2 a 3 (pm_ws_at (pm_sh h (by decide))) rfl rfl hdg w'
theorem pm_updV_i (fn : Nat → Int32) (i : Nat) (x : Int32) : updV (fun j => Value.int (fn j)) i (.int x) = fun j => Value.int (upd fn i x j) := by
  funext q
  by_cases hq : q = i
  · simp [updV, upd, hq]
  · simp [updV, upd, hq]
theorem pm_updV_l (fn : Nat → Int64) (i : Nat) (x : Int64) : updV (fun j => Value.long (fn j)) i (.long x) = fun j => Value.long (vp_updL fn i x j) := by
  funext q
  by_cases hq : q = i
  · simp [updV, vp_updL, hq]
  · simp [updV, vp_updL, hq]
theorem pm_stc_i (cA : ClassId) (n : Nat) (fn : Nat → Int32) (i : Nat) (x : Int32) : (vp_cell cA (n, .inl fn)).setSlot i (.int x) = vp_cell cA (n, .inl (upd fn i x)) := by rw [vp_cell_i, vp_cell_i, arrV_store, pm_updV_i]
theorem pm_stc_l (cA : ClassId) (n : Nat) (fn : Nat → Int64) (i : Nat) (x : Int64) : (vp_cell cA (n, .inr (.inl fn))).setSlot i (.long x) = vp_cell cA (n, .inr (.inl (vp_updL fn i x))) := by rw [vp_cell_l, vp_cell_l, arrV_store, pm_updV_l]
theorem pm_r_iastore {a : Nat} {i x : Int32} {st : List Value} (hk : pm_kd S a = 0) (hin : vp_in i (pm_n S a)) (hdg : decode (pm_bc f) pc = .ok (.iastore, 1)) (w : pm_V g d f R Q (pc + 1) ls st S (pm_up I a i.toNatClampNeg x) J k) : pm_V g d f R Q pc ls (.int x :: .int i :: .ref a :: st) S I J k := by
  intro hR p e s m args below meth c H locs lsA hB hK hP hS hl
  have hs := pm_sh hk (by decide)
  refine W.iast hB.1 hB.2.1 (hP.2 a _ (pm_ws_at hs)) ((hK.1.2 0 _ rfl).1 (pm_n S a) (fun j => .int (I a j))) (fun q => by cases q) (by show ¬ (i < 0 ∨ (arrV _ _ _).slots.size ≤ _); rw [arrV_size]; exact hin) rfl rfl hdg fun H1 e1 z oq => ?_
  refine w hR p e s m args below meth c H1 _ lsA hB hK (hP.set hs (pm_set_self hs) z oq ?_ pm_up_ne (fun _ _ => rfl)) (pm_S_put hS z oq) hl
  show H1[g.2.1 + a]? = some (vp_cell _ (_, .inl _))
  rw [pm_up_k]
  exact e1.trans (congrArg some (pm_stc_i _ _ _ _ _))
theorem pm_r_lastore {a : Nat} {i : Int32} {x : Int64} {st : List Value} (hk : pm_kd S a = 1) (hin : vp_in i (pm_n S a)) (hdg : decode (pm_bc f) pc = .ok (.lastore, 1)) (w : pm_V g d f R Q (pc + 1) ls st S I (pm_upL J a i.toNatClampNeg x) k) : pm_V g d f R Q pc ls (.long x :: .int i :: .ref a :: st) S I J k := by
  intro hR p e s m args below meth c H locs lsA hB hK hP hS hl
  have hs := pm_sh hk (by decide)
  refine W.last hB.1 hB.2.1 (hP.2 a _ (pm_ws_at hs)) ((hK.1.2 1 _ rfl).1 (pm_n S a) (fun j => .long (J a j))) (fun q => by cases q) (by show ¬ (i < 0 ∨ (arrV _ _ _).slots.size ≤ _); rw [arrV_size]; exact hin) rfl rfl hdg fun H1 e1 z oq => ?_
  refine w hR p e s m args below meth c H1 _ lsA hB hK (hP.set hs (pm_set_self hs) z oq ?_ (fun _ _ => rfl) pm_upL_ne) (pm_S_put hS z oq) hl
  show H1[g.2.1 + a]? = some (vp_cell _ (_, .inr (.inl _)))
  rw [pm_upL_k]
  exact e1.trans (congrArg some (pm_stc_l _ _ _ _ _))
theorem pm_r_bastore {a : Nat} {i x : Int32} {st : List Value} (hk : pm_kd S a = 2) (hin : vp_in i (pm_n S a)) (hdg : decode (pm_bc f) pc = .ok (.bastore, 1)) (w : pm_V g d f R Q (pc + 1) ls st S (pm_up I a i.toNatClampNeg x.toInt8.toInt32) J k) : pm_V g d f R Q pc ls (.int x :: .int i :: .ref a :: st) S I J k := by
  intro hR p e s m args below meth c H locs lsA hB hK hP hS hl
  have hs := pm_sh hk (by decide)
  refine W.bast hB.1 hB.2.1 (hP.2 a _ (pm_ws_at hs)) ((hK.1.2 2 _ rfl).1 (pm_n S a) (fun j => .int (I a j))) (fun q => by cases q) (by show ¬ (i < 0 ∨ (arrV _ _ _).slots.size ≤ _); rw [arrV_size]; exact hin) rfl rfl hdg fun H1 e1 z oq => ?_
  refine w hR p e s m args below meth c H1 _ lsA hB hK (hP.set hs (pm_set_self hs) z oq ?_ pm_up_ne (fun _ _ => rfl)) (pm_S_put hS z oq) hl
  show H1[g.2.1 + a]? = some (vp_cell _ (_, .inl _))
  rw [pm_up_k]
  exact e1.trans (congrArg some (pm_stc_i _ _ _ _ _))
theorem pm_r_zastore {a : Nat} {i x : Int32} {st : List Value} (hk : pm_kd S a = 3) (hin : vp_in i (pm_n S a)) (hdg : decode (pm_bc f) pc = .ok (.bastore, 1)) (w : pm_V g d f R Q (pc + 1) ls st S (pm_up I a i.toNatClampNeg (x &&& 1)) J k) : pm_V g d f R Q pc ls (.int x :: .int i :: .ref a :: st) S I J k := by
  intro hR p e s m args below meth c H locs lsA hB hK hP hS hl
  have hs := pm_sh hk (by decide)
  refine W.zast hB.1 hB.2.1 (hP.2 a _ (pm_ws_at hs)) ((hK.1.2 3 _ rfl).1 (pm_n S a) (fun j => .int (I a j))) (fun q => by cases q) (by show ¬ (i < 0 ∨ (arrV _ _ _).slots.size ≤ _); rw [arrV_size]; exact hin) rfl rfl hdg fun H1 e1 z oq => ?_
  refine w hR p e s m args below meth c H1 _ lsA hB hK (hP.set hs (pm_set_self hs) z oq ?_ pm_up_ne (fun _ _ => rfl)) (pm_S_put hS z oq) hl
  show H1[g.2.1 + a]? = some (vp_cell _ (_, .inl _))
  rw [pm_up_k]
  exact e1.trans (congrArg some (pm_stc_i _ _ _ _ _))
end PMV
/-! ===== classes, fields ===== -/
theorem pm_lay_all : ((List.range 13).all fun ci => (List.range (pm_fks ci).length).all fun j => decide (lw_tbl[(pm_lh.getD ci []).getD j 0]? = some (u_lay (pm_cn ci) (pm_tf ci) j))) = true := by decide +kernel
theorem pm_ty_all : ((List.range 13).all fun ci => (List.range (pm_fks ci).length).all fun j => decide (parseFieldDescriptor (pm_tf ci j).2.2.1 = some (pm_ty ci j)) && (match (pm_fks ci).getD j 9 with
  | 0 => decide (pm_ty ci j = .int)
  | 1 => decide (pm_ty ci j = .long)
  | 2 => decide (pm_ty ci j = .boolean)
  | _ => (match pm_ty ci j with
    | .object _ => true
    | .array _ => true
    | _ => false))) = true := by decide +kernel
theorem pm_nm_all : ((List.range 13).all fun ci => (List.range (pm_fks ci).length).all fun a => (List.range (pm_fks ci).length).all fun b => decide (a = b) || decide ((pm_tf ci a).2.1 ≠ (pm_tf ci b).2.1)) = true := by decide +kernel
theorem pm_ih_all : ((List.range 13).all fun ci => decide (lw_tbl[(pm_ih.getD ci (0, 0)).1]? = some (.instantiable (pm_cn ci) (pm_fks ci).length)) && decide (lw_tbl[(pm_ih.getD ci (0, 0)).2]? = some (.initialized (pm_cn ci)))) = true := by decide +kernel
theorem pm_vw : ∀ ci, ci < 13 → vwCl[ci]? = some (pm_cn ci, pm_tf ci, (pm_fks ci).length)
  | 0, _ => rfl
  | 1, _ => rfl
  | 2, _ => rfl
  | 3, _ => rfl
  | 4, _ => rfl
  | 5, _ => rfl
  | 6, _ => rfl
  | 7, _ => rfl
  | 8, _ => rfl
  | 9, _ => rfl
  | 10, _ => rfl
  | 11, _ => rfl
  | 12, _ => rfl
  | n + 13, h => absurd h (by omega)
theorem pm_allr {n : Nat} {p : Nat → Bool} (h : ((List.range n).all p) = true) {i : Nat} (hi : i < n) : p i = true := List.all_eq_true.mp h i (List.mem_range.mpr hi)
theorem pm_ci {ci j kd : Nat} (h : (pm_fks ci)[j]? = some kd) : ci < 13 ∧ j < (pm_fks ci).length := by
  refine ⟨?_, (List.getElem?_eq_some_iff.mp h).1⟩
  rcases Nat.lt_or_ge ci 13 with q | q
  · exact q
  · have e : pm_fks ci = [] := by
      unfold pm_fks
      rw [List.getD_eq_getElem?_getD, List.getElem?_eq_none (show pm_fk.length ≤ ci from q)]
      rfl
    rw [e] at h
    cases h
theorem pm_uin {ci : Nat} (hc : ci < 13) : ∀ w ∈ u_ws (pm_cn ci) (pm_tf ci) (pm_fks ci).length, w ∈ pm_w := by
  intro w hw
  obtain ⟨j, hj, rfl⟩ := List.mem_map.mp hw
  have h := pm_allr (pm_allr pm_lay_all hc) (List.mem_range.mp hj)
  simp only [decide_eq_true_eq] at h
  refine pm_wIn h ?_
  unfold u_lay
  split <;> rfl
theorem pm_tyok {ci : Nat} (hc : ci < 13) : ∀ k, k < (pm_fks ci).length → parseFieldDescriptor (pm_tf ci k).2.2.1 = some (pm_ty ci k) := by
  intro k hk
  have h := pm_allr (pm_allr pm_ty_all hc) hk
  simp only [Bool.and_eq_true, decide_eq_true_eq] at h
  exact h.1
theorem pm_tyk {ci j kd : Nat} (h : (pm_fks ci)[j]? = some kd) : (kd = 0 → pm_ty ci j = .int) ∧ (kd = 1 → pm_ty ci j = .long) ∧ (kd = 2 → pm_ty ci j = .boolean) ∧ (3 ≤ kd → (∃ x, pm_ty ci j = .object x) ∨ ∃ x, pm_ty ci j = .array x) := by
  obtain ⟨h1, h2⟩ := pm_ci h
  have h3 := pm_allr (pm_allr pm_ty_all h1) h2
  simp only [Bool.and_eq_true, decide_eq_true_eq] at h3
  have e : (pm_fks ci).getD j 9 = kd := by rw [List.getD_eq_getElem?_getD, h]; rfl
  rw [e] at h3
  obtain ⟨-, h4⟩ := h3
  refine ⟨fun q => ?_, fun q => ?_, fun q => ?_, fun q => ?_⟩
  · subst q; simpa using h4
  · subst q; simpa using h4
  · subst q; simpa using h4
  · match kd, q, h4 with
    | n + 3, _, h4 =>
      simp only at h4
      split at h4
      · rename_i x hx; exact Or.inl ⟨x, hx⟩
      · rename_i x hx; exact Or.inr ⟨x, hx⟩
      · cases h4
theorem pm_nm {ci : Nat} (hc : ci < 13) : ∀ a, a < (pm_fks ci).length → ∀ b, b < (pm_fks ci).length → a ≠ b → (pm_tf ci a).2.1 ≠ (pm_tf ci b).2.1 := by
  intro a ha b hb hab
  have h := pm_allr (pm_allr (pm_allr pm_nm_all hc) ha) hb
  simp only [Bool.or_eq_true, decide_eq_true_eq] at h
  exact h.resolve_left hab
section PMF
variable {g : pm_G} {d f : Nat} {R : Room} {Q : pm_Po} {pc : Nat} {ls : pm_LS} {S : pm_SS} {I : pm_MI} {J : pm_ML} {k : Nat × Nat}
theorem pm_r_get {a ci j kd idx : Nat} {v : Value} {st : List Value} (hk : pm_kd S a = ci + 4) (hf : (pm_fks ci)[j]? = some kd) (hl : Cond.fieldLink (pm_cn (pm_ow f)) idx (pm_tf ci j).1 (pm_tf ci j).2.1 (pm_tf ci j).2.2.1 ∈ pm_w) (hv : pm_fv g I J a (S.getD a (999, 0, [])).2.2 j kd = pm_v g v) (hdg : decode (pm_bc f) pc = .ok (.getfield idx, 3)) (w : pm_V g d f R Q (pc + 3) ls (v :: st) S I J k) : pm_V g d f R Q pc ls (.ref a :: st) S I J k := by
  intro hR p e s m args below meth c H locs lsA hB hK hP hS hl2
  obtain ⟨hx, hb, hml, hr, hlk, hown, hts, hnm⟩ := id hB
  obtain ⟨h1, h2⟩ := pm_ci hf
  refine va_get hx hb hts (pm_uin h1) hown hK.1 hP.2 a (fs := pm_fs g I J a ci (S.getD a (999, 0, [])).2.2) (pm_ws_at (pm_sh hk (by omega))) (pm_vw ci h1) j h2 (ref := (pm_tf ci j).1) (hts _ hl) (fun _ h => h) (v := pm_v g v) (by rw [pm_fs_get hf, hv]) hdg ?_
  exact w hR p e s m args below meth c H locs lsA hB hK hP hS hl2
theorem pm_r_put {a ci j kd idx : Nat} {v : Value} {S' : pm_SS} {I' : pm_MI} {J' : pm_ML} {rs' : List (Option Nat)} {st : List Value} (hk : pm_kd S a = ci + 4) (hf : (pm_fks ci)[j]? = some kd) (hl : Cond.fieldLink (pm_cn (pm_ow f)) idx (pm_tf ci j).1 (pm_tf ci j).2.1 (pm_tf ci j).2.2.1 ∈ pm_w)
    (hfin : (pm_tf ci j).2.2.2 = true → (pm_y f).name = "<init>" ∧ (pm_tf ci j).1 = pm_cn (pm_ow f)) (hn : narrow (pm_ty ci j) (pm_v g v) = pm_v g v) (hfit : fits (pm_ty ci j) (pm_v g v) = true) (hset : (pm_fs g I J a ci (S.getD a (999, 0, [])).2.2).set j (pm_v g v) = pm_fs g I' J' a ci rs') (hS' : S' = S.set a (ci + 4, pm_n S a, rs')) (hI : ∀ b, b ≠ a → I' b = I b) (hJ : ∀ b, b ≠ a → J' b = J b)
    (hdg : decode (pm_bc f) pc = .ok (.putfield idx, 3)) (w : pm_V g d f R Q (pc + 3) ls st S' I' J' k) : pm_V g d f R Q pc ls (v :: .ref a :: st) S I J k := by
  intro hR p e s m args below meth c H locs lsA hB hK hP hS hl2
  obtain ⟨hx, hb, hml, hr, hlk, hown, hts, hnm⟩ := id hB
  obtain ⟨h1, h2⟩ := pm_ci hf
  have hs := pm_sh hk (show ci + 4 ≠ 999 by omega)
  have hap := va_apart (own := pm_cn (pm_ow f)) hts (pm_uin h1) (pm_ty ci) (pm_tyok h1) (pm_nm h1) hK.1 (pm_vw ci h1)
  obtain ⟨r, q0, cell, q1, q2, q3, q4⟩ := hP.2 a _ (pm_ws_at hs)
  have hre : r = (pm_cn ci, pm_tf ci, (pm_fks ci).length) := Option.some.inj (q0.symm.trans (pm_vw ci h1))
  subst hre
  obtain ⟨hSl, hfc, kC, hkC, hkind⟩ := hK.1.1 ci _ (pm_vw ci h1)
  obtain ⟨cf, kf, fi, fd, hi, hsl⟩ := hSl j h2
  have hst := (u_facts hfc hkC (u_lays hts (pm_uin h1) h2) hi).1
  have hlay := hts _ (pm_uin h1 _ (u_in_lay h2))
  have hfl : j < (pm_fs g I J a ci (S.getD a (999, 0, [])).2.2).length := by rw [pm_fs_len]; exact h2
  have fin : ∀ (H1 : Heap), H1[g.2.1 + a]? = some (cell.setSlot fd.slot (pm_v g v)) → H1.size = H.size → (∀ q, q ≠ g.2.1 + a → H1[q]? = H[q]?) → pm_R g S' I' J' H1 := by
    intro H1 e1 z oq
    refine hP.set hs hS' z oq ?_ hI hJ
    show ∃ r : vw_C, _ ∧ _
    refine ⟨_, pm_vw ci h1, ?_⟩
    rw [hsl] at e1
    refine t_OB.to (V := updV (vp_V (pm_fs g I J a ci (S.getD a (999, 0, [])).2.2)) j (pm_v g v)) ⟨_, e1, q2, q3, t_set q4 hap h2 _⟩ (fun i _ => ?_)
    show _ = vp_V (pm_fs g I' J' a ci rs') i
    rw [← hset]
    exact vp_updV_set hfl (pm_v g v) i
  by_cases hfn : (pm_tf ci j).2.2.2 = true
  · obtain ⟨hin2, hdecl⟩ := hfin hfn
    unfold u_lay at hlay
    rw [if_pos hfn] at hlay
    have hcf : m.cls = cf := by
      obtain ⟨_, _, c', _, _, _, -, -, hf', -, -, -, hown2, -⟩ := Cond.laysFinal_spec hlay
      have e1 : c' = cf := by have := hi.symm.trans hf'; simp at this; exact this.1.symm
      rw [hdecl] at hown2
      rw [← e1]; exact Option.some.inj (hown.symm.trans hown2)
    have h6 := u_fits hfc hkC hkind (Or.inr hlay) hi (pm_tyok h1 j h2) hn hfit
    refine W.putFinK hx hb hown (hts _ hl) hi hst hcf (hnm.trans hin2) (by rw [q2]; exact h6) q1 q3 (by rw [hsl]; exact k2_hasslot (q4 j h2)) rfl rfl hdg fun H1 e1 z oq => ?_
    exact w hR p e s m args below meth c H1 _ lsA hB hK (fin H1 e1 z oq) (pm_S_put hS z oq) hl2
  · have hfn : (pm_tf ci j).2.2.2 = false := by simpa using hfn
    unfold u_lay at hlay
    rw [if_neg (by rw [hfn]; decide)] at hlay
    have h6 := u_store hfc hkC hkind hlay hi (pm_tyok h1 j h2) hn hfit
    refine W.putK hx hb (f := fd) ⟨hown, hts _ hl, ⟨_, _, _, hi⟩, hst⟩ (by rw [q2]; exact h6) q1 q3 (by rw [hsl]; exact k2_hasslot (q4 j h2)) rfl rfl hdg fun H1 e1 z oq => ?_
    exact w hR p e s m args below meth c H1 _ lsA hB hK (fin H1 e1 z oq) (pm_S_put hS z oq) hl2
theorem pm_R.push {I' : pm_MI} {J' : pm_ML} {H H1 : Heap} {sh : pm_Sh} (hP : pm_R g S I J H) (z : H1.size = H.size + 1) (oq : ∀ q : Nat, q < H.size → H1[q]? = H[q]?) (hat : va_at g.2.2.2.2.2.1 vwCl (g.2.1 + S.length, pm_e g I' J' S.length sh) H1) (hI : ∀ b, b ≠ S.length → I' b = I b) (hJ : ∀ b, b ≠ S.length → J' b = J b) : pm_R g (S ++ [sh]) I' J' H1 := by
  refine ⟨by rw [z, hP.1, List.length_append]; rfl, fun i q hq => ?_⟩
  rw [pm_ws_get] at hq
  rcases Nat.lt_trichotomy i S.length with h | h | h
  · rw [List.getElem?_append_left h, List.getElem?_eq_getElem h] at hq
    cases hq
    have h2 : S[i]? = some S[i] := List.getElem?_eq_getElem h
    have h3 := hP.2 i _ (pm_ws_at h2)
    have e : pm_e g I' J' i S[i] = pm_e g I J i S[i] := by
      have hi : i ≠ S.length := by omega
      generalize S[i] = sh2
      obtain ⟨c, n, rs⟩ := sh2
      match c with
      | 0 => simp [pm_e, hI i hi]
      | 1 => simp [pm_e, hJ i hi]
      | 2 => simp [pm_e, hI i hi]
      | 3 => simp [pm_e, hI i hi]
      | ci + 4 =>
        simp only [pm_e, pm_fs]
        congr 3
        funext j kd
        unfold pm_fv
        rw [hI i hi, hJ i hi]
    show va_at g.2.2.2.2.2.1 vwCl (g.2.1 + i, pm_e g I' J' i S[i]) H1
    rw [e]
    exact h3.kept (oq _ (by rw [hP.1]; show g.2.1 + i < _; omega))
  · subst h
    rw [List.getElem?_append_right (Nat.le_refl _), Nat.sub_self] at hq
    cases hq
    exact hat
  · rw [List.getElem?_append_right (by omega), List.getElem?_eq_none (by simp; omega)] at hq
    cases hq
theorem pm_z_ne {I : pm_MI} {n : Nat} : ∀ a, a ≠ n → pm_z I n a = I a := fun a h => by simp [pm_z, h]
theorem pm_zL_ne {I : pm_ML} {n : Nat} : ∀ a, a ≠ n → pm_zL I n a = I a := fun a h => by simp [pm_zL, h]
theorem pm_S_push {s : State} {H H1 : Heap} {locs : List Loc} (hS : va_S (pm_A g) s.heap H locs) (z : H1.size = H.size + 1) (oq : ∀ q : Nat, q < H.size → H1[q]? = H[q]?) : va_S (pm_A g) s.heap H1 locs := by
  obtain ⟨h1, h2, h3⟩ := hS
  exact ⟨by omega, fun x g1 g2 => (oq x (by omega)).trans (h2 x g1 g2), h3⟩
theorem pm_r_new {ci idx : Nat} {st : List Value} (hci : ci < 13) (hl : Cond.classLink (pm_cn (pm_ow f)) idx (pm_cn ci) ∈ pm_w) (hc : k.1 + 1 ≤ R.cells) (hs : k.2 + (pm_fks ci).length ≤ R.slots) (hdg : decode (pm_bc f) pc = .ok (.new idx, 3)) (w : pm_V g d f R Q (pc + 3) ls (.ref S.length :: st) (S ++ [(ci + 4, (pm_fks ci).length, List.replicate (pm_fks ci).length none)]) (pm_z I S.length) (pm_zL J S.length) (k.1 + 1, k.2 + (pm_fks ci).length)) : pm_V g d f R Q pc ls st S I J k := by
  intro hR p e s m args below meth c H locs lsA hB hK hP hS hl2
  obtain ⟨hx, hb, hml, hr, hlk, hown, hts, hnm⟩ := id hB
  have hih := pm_allr pm_ih_all hci
  simp only [Bool.and_eq_true, decide_eq_true_eq] at hih
  have hKn := hK.1.1 ci _ (pm_vw ci hci)
  refine W.newcK hx hb hown (hts _ hl) (hts _ (pm_wIn hih.1 rfl)) (hts _ (pm_wIn hih.2 rfl)) rfl hdg hc hs hKn.2.1 hP.1 fun H1 kC hkC e1 z1 o1 => ?_
  rw [← hP.1] at z1 o1
  have hP1 : pm_R g (S ++ [(ci + 4, (pm_fks ci).length, List.replicate (pm_fks ci).length none)]) (pm_z I S.length) (pm_zL J S.length) H1 := by
    refine hP.push z1 o1 ?_ pm_z_ne pm_zL_ne
    refine ⟨_, pm_vw ci hci, (u_born (pm_ty ci) hts (pm_uin hci) hKn hkC e1 (pm_tyok hci)).to (fun j hj => ?_)⟩
    have hj2 : (pm_fks ci)[j]? = some (pm_fks ci)[j] := List.getElem?_eq_getElem hj
    show defaultValue (pm_ty ci j) = (pm_fs g _ _ _ ci _).getD j .null
    rw [List.getD_eq_getElem?_getD, pm_fs_get hj2]
    have ht := pm_tyk hj2
    generalize (pm_fks ci)[j] = kd at ht
    match kd with
    | 0 => rw [ht.1 rfl]; simp [pm_fv, pm_z, defaultValue]
    | 1 => rw [ht.2.1 rfl]; simp [pm_fv, pm_zL, defaultValue]
    | 2 => rw [ht.2.2.1 rfl]; simp [pm_fv, pm_z, defaultValue]
    | q + 3 =>
      have e2 : (List.replicate (pm_fks ci).length (none : Option Nat)).getD j none = none := by
        rw [List.getD_eq_getElem?_getD]
        simp only [List.getElem?_replicate]
        split <;> rfl
      rcases ht.2.2.2 (by omega) with ⟨x, hx2⟩ | ⟨x, hx2⟩
      · rw [hx2]; simp only [pm_fv, e2]; rfl
      · rw [hx2]; simp only [pm_fv, e2]; rfl
  exact w ⟨hR.1, hR.2.1, hc, hs⟩ p e s m args below meth c H1 locs lsA hB hK hP1 (pm_S_push hS z1 o1) hl2
end PMF
