/-! ===== the machine's law ===== -/
theorem pm_flf {f i : Nat} {ax : List Nat} (h : pm_ckf f i ax = true) : (pm_fks (ax.getD 0 0))[ax.getD 1 0]? = some (ax.getD 2 0) ∧ Cond.fieldLink (pm_cn (pm_ow f)) i (pm_tf (ax.getD 0 0) (ax.getD 1 0)).1 (pm_tf (ax.getD 0 0) (ax.getD 1 0)).2.1 (pm_tf (ax.getD 0 0) (ax.getD 1 0)).2.2.1 ∈ pm_w := by
  unfold pm_ckf at h
  simp only [Bool.and_eq_true, decide_eq_true_eq] at h
  obtain ⟨⟨h1, h2⟩, h3⟩ := h
  refine ⟨h3, ?_⟩
  have hm := List.all_eq_true.mp pm_fl_all _ (List.getElem_mem h2)
  rw [List.getD_eq_getElem?_getD, List.getElem?_eq_getElem h2, Option.getD_some] at h1
  rw [h1] at hm
  simp only [decide_eq_true_eq] at hm
  exact pm_wIn hm rfl
theorem pm_ckcf {f i kn : Nat} {ax : List Nat} (h : pm_ckc f i kn ax = true) : ax.getD 0 0 < 297 ∧ pm_kn (ax.getD 0 0) = kn ∧ pm_mc (ax.getD 0 0) = ax.getD 3 0 ∧ pm_ms (ax.getD 0 0) = ax.getD 4 0 ∧ ax.getD 1 0 = (if kn = 1 then 0 else 1) + pm_na (ax.getD 0 0) ∧ (kn = 1 ∨ ax.getD 5 0 = pm_ow (ax.getD 0 0)) ∧ (Cond.methodLink (pm_cn (pm_ow f)) i (pm_y (ax.getD 0 0)) ∈ pm_w ∨ Cond.methodLinkNest (pm_cn (pm_ow f)) i (pm_y (ax.getD 0 0)) RX11 ∈ pm_nest) := by
  unfold pm_ckc at h
  simp only [Bool.and_eq_true, decide_eq_true_eq] at h
  obtain ⟨⟨⟨⟨⟨⟨⟨h1, h2⟩, h3⟩, h4⟩, h5⟩, h6⟩, h7⟩, h8⟩ := h
  exact ⟨h3, h4, h5, h6, h7, h8, pm_lkfacts h1 h2⟩
theorem pm_swk {D : Prop} {x : Int32} : ∀ {l : List (Int × Prop)}, pm_sw D x l → (∃ q ∈ l, q.1 = x.toInt ∧ q.2) ∨ ((∀ q ∈ l, ¬ q.1 = x.toInt) ∧ D)
  | [], h => Or.inr ⟨(fun q hq => absurd hq List.not_mem_nil), h⟩
  | (c, B) :: r, h => by
    obtain ⟨h1, h2⟩ := h
    by_cases hc : x.toInt = c
    · exact Or.inl ⟨_, List.mem_cons_self, hc.symm, h1 hc⟩
    · rcases pm_swk (h2 hc) with ⟨q, hq, h3⟩ | ⟨h3, h4⟩
      · exact Or.inl ⟨q, List.mem_cons_of_mem _ hq, h3⟩
      · refine Or.inr ⟨fun q hq => ?_, h4⟩
        rcases List.mem_cons.mp hq with rfl | hq
        · exact fun z => hc z.symm
        · exact h3 q hq
section PMS
variable {g : pm_G} {d f : Nat} {R : Room} {Q : pm_Po} {S : pm_SS} {I : pm_MI} {J : pm_ML} {k : Nat × Nat}

theorem pm_r_if {pc tgt : Nat} {ls : pm_LS} {c : Jvm.ClassFile.Cond} {x : Int32} {off : Int} {st : List Value} (hdg : decode (pm_bc f) pc = .ok (.ifCond c off, 3)) (ht : (pc : Int) + off = (tgt : Int)) (w1 : pm_cz c x → pm_V g d f R Q tgt ls st S I J k) (w2 : ¬ pm_cz c x → pm_V g d f R Q (pc + 3) ls st S I J k) : pm_V g d f R Q pc ls (.int x :: st) S I J k := by
  intro hR p e s m args below meth cc H locs lsA hB hK hP hS hl
  cases c with
  | eq => exact lv_if_eq hB.1 hB.2.1 hdg ht (fun h => w1 h hR p e s m args below meth cc H locs lsA hB hK hP hS hl) (fun h => w2 h hR p e s m args below meth cc H locs lsA hB hK hP hS hl)
  | ne => exact lv_if_ne hB.1 hB.2.1 hdg ht (fun h => w1 h hR p e s m args below meth cc H locs lsA hB hK hP hS hl) (fun h => w2 (fun z => z h) hR p e s m args below meth cc H locs lsA hB hK hP hS hl)
  | lt => exact lv_if_lt hB.1 hB.2.1 hdg ht (fun h => w1 h hR p e s m args below meth cc H locs lsA hB hK hP hS hl) (fun h => w2 h hR p e s m args below meth cc H locs lsA hB hK hP hS hl)
  | ge => exact lv_if_ge hB.1 hB.2.1 hdg ht (fun h => w1 h hR p e s m args below meth cc H locs lsA hB hK hP hS hl) (fun h => w2 h hR p e s m args below meth cc H locs lsA hB hK hP hS hl)
  | gt => exact lv_if_gt hB.1 hB.2.1 hdg ht (fun h => w1 h hR p e s m args below meth cc H locs lsA hB hK hP hS hl) (fun h => w2 h hR p e s m args below meth cc H locs lsA hB hK hP hS hl)
  | le => exact lv_if_le hB.1 hB.2.1 hdg ht (fun h => w1 h hR p e s m args below meth cc H locs lsA hB hK hP hS hl) (fun h => w2 h hR p e s m args below meth cc H locs lsA hB hK hP hS hl)
theorem pm_r_icmp {pc tgt : Nat} {ls : pm_LS} {c : Jvm.ClassFile.Cond} {x y : Int32} {off : Int} {st : List Value} (hdg : decode (pm_bc f) pc = .ok (.if_icmp c off, 3)) (ht : (pc : Int) + off = (tgt : Int)) (w1 : pm_cc c x y → pm_V g d f R Q tgt ls st S I J k) (w2 : ¬ pm_cc c x y → pm_V g d f R Q (pc + 3) ls st S I J k) : pm_V g d f R Q pc ls (.int y :: .int x :: st) S I J k := by
  intro hR p e s m args below meth cc H locs lsA hB hK hP hS hl
  cases c with
  | eq => exact lv_icmp_eq hB.1 hB.2.1 hdg ht (fun h => w1 h hR p e s m args below meth cc H locs lsA hB hK hP hS hl) (fun h => w2 h hR p e s m args below meth cc H locs lsA hB hK hP hS hl)
  | ne => exact lv_icmp_ne hB.1 hB.2.1 hdg ht (fun h => w1 h hR p e s m args below meth cc H locs lsA hB hK hP hS hl) (fun h => w2 (fun z => z h) hR p e s m args below meth cc H locs lsA hB hK hP hS hl)
  | lt => exact lv_icmp_lt hB.1 hB.2.1 hdg ht (fun h => w1 h hR p e s m args below meth cc H locs lsA hB hK hP hS hl) (fun h => w2 h hR p e s m args below meth cc H locs lsA hB hK hP hS hl)
  | ge => exact lv_icmp_ge hB.1 hB.2.1 hdg ht (fun h => w1 h hR p e s m args below meth cc H locs lsA hB hK hP hS hl) (fun h => w2 h hR p e s m args below meth cc H locs lsA hB hK hP hS hl)
  | gt => exact lv_icmp_gt hB.1 hB.2.1 hdg ht (fun h => w1 h hR p e s m args below meth cc H locs lsA hB hK hP hS hl) (fun h => w2 h hR p e s m args below meth cc H locs lsA hB hK hP hS hl)
  | le => exact lv_icmp_le hB.1 hB.2.1 hdg ht (fun h => w1 h hR p e s m args below meth cc H locs lsA hB hK hP hS hl) (fun h => w2 h hR p e s m args below meth cc H locs lsA hB hK hP hS hl)

theorem pm_fv_up {i j a kd : Nat} {x : Int32} {rs : List (Option Nat)} (hi : i ≠ j) : pm_fv g (pm_up I a j x) J a rs i kd = pm_fv g I J a rs i kd := by
  have e : pm_up I a j x a i = I a i := by simp [pm_up, upd, hi]
  unfold pm_fv
  rw [e]
theorem pm_fv_upL {i j a kd : Nat} {x : Int64} {rs : List (Option Nat)} (hi : i ≠ j) : pm_fv g I (pm_upL J a j x) a rs i kd = pm_fv g I J a rs i kd := by
  have e : pm_upL J a j x a i = J a i := by simp [pm_upL, vp_updL, hi]
  unfold pm_fv
  rw [e]
theorem pm_fv_rs {i j a kd : Nat} {v : Option Nat} {rs : List (Option Nat)} (hi : i ≠ j) : pm_fv g I J a (rs.set j v) i kd = pm_fv g I J a rs i kd := by
  have e : (rs.set j v).getD i none = rs.getD i none := by rw [List.getD_eq_getElem?_getD, List.getD_eq_getElem?_getD, List.getElem?_set_ne (Ne.symm hi)]
  unfold pm_fv
  rw [e]
theorem pm_fv_get {j a q n : Nat} {rs : List (Option Nat)} (h : rs.getD j none = some q) : pm_fv g I J a rs j (n + 3) = pm_v g (.ref q) := by
  show (match rs.getD j none with
    | some q => Value.ref (g.2.1 + q)
    | none => .null) = _
  rw [h]
  rfl
theorem pm_fv_r {j a x n : Nat} {rs : List (Option Nat)} (h : j < rs.length) : pm_fv g I J a (rs.set j (some x)) j (n + 3) = pm_v g (.ref x) := pm_fv_get (by rw [List.getD_eq_getElem?_getD, List.getElem?_set_self h]; rfl)
theorem pm_nc_lt : (pm_nc.all fun q => decide (q.2.2.1 < 13)) = true := by decide +kernel
theorem pm_mlf {f i w : Nat} {ax : List Nat} (h : pm_ckm f i w ax = true) : Cond.methodLink (pm_cn (pm_ow f)) i (([Lib.Math.abs.name, Lib.MathLoose.abs_long.x, Lib.Math.max.name, Lib.Math.min.name, Lib.MathLoose.min_long.x] : List MethodName).getD w Lib.Math.abs.name) ∈ pm_w := by
  unfold pm_ckm at h
  simp only [Bool.and_eq_true, decide_eq_true_eq] at h
  obtain ⟨h2, h1⟩ := h
  have hm := List.all_eq_true.mp pm_ml_all _ (List.getElem_mem h2)
  rw [List.getD_eq_getElem?_getD, List.getElem?_eq_getElem h2, Option.getD_some] at h1
  rw [h1] at hm
  simp only [decide_eq_true_eq] at hm
  exact pm_wIn hm rfl
theorem pm_copied {a b sp dp n : Nat} {I : pm_MI} : ∀ q, q ≠ b → pm_cpy I a b sp dp n q = I q := fun q h => by simp [pm_cpy, h]
theorem pm_r_copy {pc idx a b : Nat} {ls : pm_LS} {sp dp n : Int32} {st : List Value} (hacp : (pm_ow f, idx) = pm_acp) (hlen : st.length ≤ 4) (ha : pm_kd S a = 0) (hb0 : pm_kd S b = 0) (h1 : ¬ sp < 0) (h2 : ¬ dp < 0) (h3 : ¬ n < 0) (h4 : sp.toNatClampNeg + n.toNatClampNeg ≤ pm_n S a) (h5 : dp.toNatClampNeg + n.toNatClampNeg ≤ pm_n S b) (hdg : decode (pm_bc f) pc = .ok (.invokestatic idx, 3)) (w : pm_V g d f R Q (pc + 3) ls st S (pm_cpy I a b sp.toNatClampNeg dp.toNatClampNeg n.toNatClampNeg) J k) : pm_V g d f R Q pc ls (.int n :: .int dp :: .ref b :: .int sp :: .ref a :: st) S I J k := by
  intro hR p e s m args below meth c H locs lsA hB hK hP hS hl
  have hcp := pm_cp_all
  simp only [Bool.and_eq_true, decide_eq_true_eq] at hcp
  obtain ⟨⟨⟨c1, c2⟩, c3⟩, c4⟩ := hcp
  rw [← hacp] at c1
  have hts := hB.2.2.2.2.2.2.1
  have nn : ∀ z : Int32, ¬ z < 0 → z.toInt = (z.toNatClampNeg : Int) := by
    intro z hz
    have hz0 : (0 : Int) ≤ z.toInt := by
      have := Int32.not_lt.mp hz
      simpa using Int32.le_iff_toInt_le.mp this
    show z.toInt = ((z.toInt.toNat : Nat) : Int)
    omega
  have hsa := pm_sh ha (by decide)
  have hsb := pm_sh hb0 (by decide)
  have hc0 : H[g.2.1 + a]? = some (vp_cell (g.2.2.2.2.2.2 0) (pm_n S a, .inl (I a))) := hP.2 a _ (pm_ws_at hsa)
  have hc1 : H[g.2.1 + b]? = some (vp_cell (g.2.2.2.2.2.2 0) (pm_n S b, .inl (I b))) := hP.2 b _ (pm_ws_at hsb)
  obtain ⟨-, k0, hk0, cm0, hkk0⟩ := (hK.1.2 0 _ rfl).1 (pm_n S a) (fun j => .int (I a j))
  obtain ⟨-, k1, hk1, cm1, hkk1⟩ := (hK.1.2 0 _ rfl).1 (pm_n S b) (fun j => .int (I b j))
  intro T hT X
  obtain ⟨vm', X', step⟩ := X.arraycopy hB.1 hB.2.2.2.2.2.1 (hts _ (pm_wIn c1 rfl)) (hts _ (pm_wIn c2 rfl)) (hts _ (pm_wIn c3 rfl)) (hts _ (pm_wIn c4 rfl)) (src := g.2.1 + a) (dst := g.2.1 + b) (cs := vp_cell (g.2.2.2.2.2.2 0) (pm_n S a, .inl (I a))) (cd := vp_cell (g.2.2.2.2.2.2 0) (pm_n S b, .inl (I b))) (srcPos := sp) (destPos := dp) (n := n) (by rw [hT]; exact hc0) (by rw [hT]; exact hc1)
    (fun _ h => by cases h) (fun _ h => by cases h) (fun h => by cases h) (fun h => by cases h) hk0 hk1 hkk0 hkk1 (by simp) h1 h2 h3
    (by rw [nn sp h1, nn n h3]; show ¬ _ > ((arrV (g.2.2.2.2.2.2 0) (pm_n S a) (fun j => .int (I a j))).slots.size : Int); rw [arrV_size]; omega)
    (by rw [nn dp h2, nn n h3]; show ¬ _ > ((arrV (g.2.2.2.2.2.2 0) (pm_n S b) (fun j => .int (I b j))).slots.size : Int); rw [arrV_size]; omega)
    (fun vm₁ _ i hi => by
      have e : (vp_cell (g.2.2.2.2.2.2 0) (pm_n S a, .inl (I a))).slots.getD (sp.toNatClampNeg + i) .null = .int (I a (sp.toNatClampNeg + i)) := by
        show (arrV (g.2.2.2.2.2.2 0) (pm_n S a) (fun j => .int (I a j))).slots.getD _ _ = _
        rw [Array.getD_eq_getD_getElem?, arrV_read _ _ (by omega)]
        rfl
      refine ⟨?_, ?_⟩
      · rw [e]
        rfl
      · rw [e]
        exact trivial)
    (g := F0 m pc lsA ((.int n :: .int dp :: .ref b :: .int sp :: .ref a :: st).map (pm_v g))) rfl (by rw [hB.2.2.1]; exact hl.1) (rest := st.map (pm_v g)) rfl (by rw [hB.2.1]; exact hdg) (by have := hR.1; omega) (by
      have := pm_sum8 st g
      have h9 := hR.2.1
      have h10 : nativeFrameWords "java/lang/System" "arraycopy" 5 ≤ 20 := by decide +kernel
      show 2 * 0 + _ + _ ≤ _
      omega)
  have e1 : copied (vp_cell (g.2.2.2.2.2.2 0) (pm_n S a, .inl (I a))) (vp_cell (g.2.2.2.2.2.2 0) (pm_n S b, .inl (I b))) sp dp n = vp_cell (g.2.2.2.2.2.2 0) (pm_n S b, .inl (va_cpy (I a) (I b) sp.toNatClampNeg dp.toNatClampNeg n.toNatClampNeg)) := va_copied (fun z => .int z) _ _ (I a) (I b) h4
  rw [e1] at X' step
  have hlt : g.2.1 + b < H.size := (Array.getElem?_eq_some_iff.mp hc1).1
  have hheap : ((T.setVm vm').setCell (g.2.1 + b) (vp_cell (g.2.2.2.2.2.2 0) (pm_n S b, .inl (va_cpy (I a) (I b) sp.toNatClampNeg dp.toNatClampNeg n.toNatClampNeg)))).heap = H.setIfInBounds (g.2.1 + b) (vp_cell (g.2.2.2.2.2.2 0) (pm_n S b, .inl (va_cpy (I a) (I b) sp.toNatClampNeg dp.toNatClampNeg n.toNatClampNeg))) := by rw [← hT]; rfl
  have oq : ∀ q : Nat, q ≠ g.2.1 + b → (H.setIfInBounds (g.2.1 + b) (vp_cell (g.2.2.2.2.2.2 0) (pm_n S b, .inl (va_cpy (I a) (I b) sp.toNatClampNeg dp.toNatClampNeg n.toNatClampNeg))))[q]? = H[q]? := fun q hq => by simp [Array.getElem?_setIfInBounds, Ne.symm hq]
  have z : (H.setIfInBounds (g.2.1 + b) (vp_cell (g.2.2.2.2.2.2 0) (pm_n S b, .inl (va_cpy (I a) (I b) sp.toNatClampNeg dp.toNatClampNeg n.toNatClampNeg)))).size = H.size := by simp
  have hP1 : pm_R g S (pm_cpy I a b sp.toNatClampNeg dp.toNatClampNeg n.toNatClampNeg) J (H.setIfInBounds (g.2.1 + b) (vp_cell (g.2.2.2.2.2.2 0) (pm_n S b, .inl (va_cpy (I a) (I b) sp.toNatClampNeg dp.toNatClampNeg n.toNatClampNeg)))) := by
    refine hP.set hsb (pm_set_self hsb) z oq ?_ pm_copied (fun _ _ => rfl)
    show (H.setIfInBounds (g.2.1 + b) _)[g.2.1 + b]? = some (vp_cell _ (_, .inl (pm_cpy I a b _ _ _ b)))
    simp [Array.getElem?_setIfInBounds, hlt, pm_cpy]
  have hS1 := fun locs1 (hloc : ∀ q ∈ locs1, pm_A g q.base) => (show va_S (pm_A g) s.heap (H.setIfInBounds (g.2.1 + b) (vp_cell (g.2.2.2.2.2.2 0) (pm_n S b, .inl (va_cpy (I a) (I b) sp.toNatClampNeg dp.toNatClampNeg n.toNatClampNeg)))) locs1 from ⟨by rw [z]; exact hS.1, fun q g1 g2 => by
      rw [oq q (fun e => g2 (by rw [e]; exact Nat.le_add_right _ _))]
      exact hS.2.1 q g1 g2, hloc⟩)
  obtain ⟨t, a1, b1⟩ := w hR p e s m args below meth c _ _ lsA hB hK hP1 (hS1 _ (fun q hq => by
      rcases List.mem_append.mp hq with h | h
      · exact hS.2.2 q h
      · obtain ⟨z, -, hz⟩ := List.mem_map.mp h
        rw [← hz]
        exact Nat.le_add_right _ _)) hl _ hheap X'
  exact ⟨t, step t a1, b1⟩
theorem pm_sound_static {Jm : Nat → pm_T} {nx : Nat} {pcs : List Nat} {is : List pm_I} {ax : List Nat} {pc i0 : Nat} {ls : pm_LS} {st : List Value} (ih : ∀ (pc : Nat) (ls : pm_LS) (st : List Value) (S : pm_SS) (I : pm_MI) (J : pm_ML) (k : Nat × Nat), pm_ckL f pcs nx pc is = true → pm_wp g d R Q Jm nx is ls st S I J k → pm_V g d f R Q pc ls st S I J k)
    (h1 : pm_ck1 f pcs pc (.invokestatic i0) ax = true) (h2 : pm_ckL f pcs nx (pc + 3) is = true) (hdg : decode (pm_bc f) pc = .ok (.invokestatic i0, 3)) (hw : pm_wp g d R Q Jm nx ((.invokestatic i0, ax) :: is) ls st S I J k) : pm_V g d f R Q pc ls st S I J k := by
  have hw : (match ax.getD 0 0 with
              | 9999 => pm_cp (fun a sp b dp n st => st.length ≤ 4 ∧ pm_kd S a = 0 ∧ pm_kd S b = 0 ∧ ¬ sp < 0 ∧ ¬ dp < 0 ∧ ¬ n < 0 ∧ sp.toNatClampNeg + n.toNatClampNeg ≤ pm_n S a ∧ dp.toNatClampNeg + n.toNatClampNeg ≤ pm_n S b ∧ pm_wp g d R Q Jm nx is ls st S (pm_cpy I a b sp.toNatClampNeg dp.toNatClampNeg n.toNatClampNeg) J k) st
              | 9990 => pm_i1 (fun x st => st.length ≤ 4 ∧ pm_wp g d R Q Jm nx is ls (.int (if 0 ≤ x then x else 0 - x) :: st) S I J k) st
              | 9991 => pm_l1 (fun x st => st.length ≤ 4 ∧ pm_wp g d R Q Jm nx is ls (.long (if 0 < x then x else -x) :: st) S I J k) st
              | 9992 => pm_i2 (fun x y st => st.length ≤ 4 ∧ pm_wp g d R Q Jm nx is ls (.int (if x < y then y else x) :: st) S I J k) st
              | 9993 => pm_i2 (fun x y st => st.length ≤ 4 ∧ pm_wp g d R Q Jm nx is ls (.int (if y < x then y else x) :: st) S I J k) st
              | 9994 => pm_l2 (fun x y st => st.length ≤ 4 ∧ pm_wp g d R Q Jm nx is ls (.long (if y < x then y else x) :: st) S I J k) st
              | f => k.1 + ax.getD 3 0 ≤ R.cells ∧ k.2 + ax.getD 4 0 ≤ R.slots ∧ pm_cl1 g d f (ax.getD 1 0) (fun r st S I J => pm_wp g d R Q Jm nx is ls (r.toList ++ st) S I J (k.1 + ax.getD 3 0, k.2 + ax.getD 4 0)) st S I J) := hw
  have h1 : (match ax.getD 0 0 with
    | 9999 => decide ((pm_ow f, i0) = pm_acp)
    | 9990 => pm_ckm f i0 0 ax
    | 9991 => pm_ckm f i0 1 ax
    | 9992 => pm_ckm f i0 2 ax
    | 9993 => pm_ckm f i0 3 ax
    | 9994 => pm_ckm f i0 4 ax
    | _ => pm_ckc f i0 1 ax) = true := h1
  have hmm := pm_mm_all
  simp only [Bool.and_eq_true, decide_eq_true_eq] at hmm
  obtain ⟨⟨⟨⟨⟨m0, m1⟩, m2⟩, m3⟩, m4⟩, m5⟩ := hmm
  split at hw
  · rename_i he
    rw [he] at h1
    obtain ⟨a, sp, b, dp, n, t, rfl, e0, e1, e2, e3, e4, e5, e6, e7, hw⟩ := pm_cp_s hw
    exact pm_r_copy (of_decide_eq_true h1) e0 e1 e2 e3 e4 e5 e6 e7 hdg (ih _ _ _ _ _ _ _ h2 hw)
  · rename_i he
    rw [he] at h1
    obtain ⟨x, t, rfl, hlen, hw⟩ := pm_i1_s hw
    intro hR p e s m args below meth c H locs lsA hB hK hP hS hl
    exact va_mabs hB.1 hB.2.1 (hB.2.2.1.trans hl.1.symm) hB.2.2.2.2.2.1 (hB.2.2.2.2.2.2.1 _ (pm_mlf h1)) (hB.2.2.2.2.2.2.1 _ (pm_wIn m0 rfl)) (hB.2.2.2.2.2.2.1 _ (pm_wIn m5 rfl)) (hB.2.2.2.2.2.2.1 _ (pm_wIn pm_mc0 rfl)) (by have := hR.1; omega) (by have := pm_sum8 t g; have := hR.2.1; omega) hR.2.2.1 hR.2.2.2 hdg (ih _ _ _ _ _ _ _ h2 hw hR p e s m args below meth c H locs lsA hB hK hP hS hl)
  · rename_i he
    rw [he] at h1
    obtain ⟨x, t, rfl, hlen, hw⟩ := pm_l1_s hw
    intro hR p e s m args below meth c H locs lsA hB hK hP hS hl
    exact va_mabs_long hB.1 hB.2.1 (hB.2.2.1.trans hl.1.symm) hB.2.2.2.2.2.1 (hB.2.2.2.2.2.2.1 _ (pm_mlf h1)) (hB.2.2.2.2.2.2.1 _ (pm_wIn m1 rfl)) (hB.2.2.2.2.2.2.1 _ (pm_wIn m5 rfl)) (hB.2.2.2.2.2.2.1 _ (pm_wIn pm_mc1 rfl)) (by have := hR.1; omega) (by have := pm_sum8 t g; have := hR.2.1; omega) hR.2.2.1 hR.2.2.2 hdg (ih _ _ _ _ _ _ _ h2 hw hR p e s m args below meth c H locs lsA hB hK hP hS hl)
  · rename_i he
    rw [he] at h1
    obtain ⟨x, y, t, rfl, hlen, hw⟩ := pm_i2_s hw
    intro hR p e s m args below meth c H locs lsA hB hK hP hS hl
    exact va_mmax hB.1 hB.2.1 (hB.2.2.1.trans hl.1.symm) hB.2.2.2.2.2.1 (hB.2.2.2.2.2.2.1 _ (pm_mlf h1)) (hB.2.2.2.2.2.2.1 _ (pm_wIn m2 rfl)) (hB.2.2.2.2.2.2.1 _ (pm_wIn m5 rfl)) (hB.2.2.2.2.2.2.1 _ (pm_wIn pm_mc2 rfl)) (by have := hR.1; omega) (by have := pm_sum8 t g; have := hR.2.1; omega) hR.2.2.1 hR.2.2.2 hdg (ih _ _ _ _ _ _ _ h2 hw hR p e s m args below meth c H locs lsA hB hK hP hS hl)
  · rename_i he
    rw [he] at h1
    obtain ⟨x, y, t, rfl, hlen, hw⟩ := pm_i2_s hw
    intro hR p e s m args below meth c H locs lsA hB hK hP hS hl
    exact va_mmin hB.1 hB.2.1 (hB.2.2.1.trans hl.1.symm) hB.2.2.2.2.2.1 (hB.2.2.2.2.2.2.1 _ (pm_mlf h1)) (hB.2.2.2.2.2.2.1 _ (pm_wIn m3 rfl)) (hB.2.2.2.2.2.2.1 _ (pm_wIn m5 rfl)) (hB.2.2.2.2.2.2.1 _ (pm_wIn pm_mc3 rfl)) (by have := hR.1; omega) (by have := pm_sum8 t g; have := hR.2.1; omega) hR.2.2.1 hR.2.2.2 hdg (ih _ _ _ _ _ _ _ h2 hw hR p e s m args below meth c H locs lsA hB hK hP hS hl)
  · rename_i he
    rw [he] at h1
    obtain ⟨x, y, t, rfl, hlen, hw⟩ := pm_l2_s hw
    intro hR p e s m args below meth c H locs lsA hB hK hP hS hl
    exact va_mmin_long hB.1 hB.2.1 (hB.2.2.1.trans hl.1.symm) hB.2.2.2.2.2.1 (hB.2.2.2.2.2.2.1 _ (pm_mlf h1)) (hB.2.2.2.2.2.2.1 _ (pm_wIn m4 rfl)) (hB.2.2.2.2.2.2.1 _ (pm_wIn m5 rfl)) (hB.2.2.2.2.2.2.1 _ (pm_wIn pm_mc4 rfl)) (by have := hR.1; omega) (by have := pm_sum8 t g; have := hR.2.1; omega) hR.2.2.1 hR.2.2.2 hdg (ih _ _ _ _ _ _ _ h2 hw hR p e s m args below meth c H locs lsA hB hK hP hS hl)
  · have h1 : pm_ckc f i0 1 ax = true := by
      split at h1 <;> first | (rename_i hh; exact absurd hh (by assumption)) | exact h1
    obtain ⟨e1, e2, e3, e4, e5, e6, e7⟩ := pm_ckcf h1
    obtain ⟨hc1, hs1, hn1, hn2, hC⟩ := hw
    rw [← e3] at hc1 hC
    rw [← e4] at hs1 hC
    exact pm_r_callS e1 e2 e7 (by rw [e5]; simp) hn1 hn2 hC hc1 hs1 hdg (fun r S I J h => ih _ _ _ _ _ _ _ h2 h)
theorem pm_sound_ts {Jm : Nat → pm_T} {pcs : List Nat} {ax : List Nat} {pc n : Nat} {d0 lo hi : Int} {offs : Array Int} {ls : pm_LS} {st : List Value} (hJ : ∀ b ls st S I J k, Jm b ls st S I J k → pm_V g d f R Q (pcs.getD b 0) ls st S I J k)
    (h1 : pm_ck1 f pcs pc (.tableswitch d0 lo hi offs) ax = true) (hdg : decode (pm_bc f) pc = .ok (.tableswitch d0 lo hi offs, n)) (hw : pm_i1 (fun x st => pm_sw (Jm (ax.getD 0 0) ls st S I J k) x ((ax.drop 1).mapIdx (fun i b => (lo + (i : Int), Jm b ls st S I J k)))) st) : pm_V g d f R Q pc ls st S I J k := by
  have h1 : (decide ((pc : Int) + d0 = ((pcs.getD (ax.getD 0 0) 0 : Nat) : Int)) && decide (lo + (offs.size : Int) = hi + 1) && decide ((ax.drop 1).map (fun b => ((pcs.getD b 0 : Nat) : Int)) = offs.toList.map (fun o => (pc : Int) + o))) = true := h1
  simp only [Bool.and_eq_true, decide_eq_true_eq] at h1
  obtain ⟨⟨e1, e2⟩, e3⟩ := h1
  obtain ⟨x, t, rfl, hw⟩ := pm_i1_s hw
  have hlen : (ax.drop 1).length = offs.size := by
    have := congrArg List.length e3
    rw [List.length_map, List.length_map, Array.length_toList] at this
    exact this
  rcases pm_swk hw with ⟨q, hq, hq1, hq2⟩ | ⟨hno, hd⟩
  · obtain ⟨i, hi⟩ := List.getElem?_of_mem hq
    rw [List.getElem?_mapIdx] at hi
    cases hb : (ax.drop 1)[i]? with
    | none => rw [hb] at hi; cases hi
    | some b =>
      rw [hb] at hi
      simp only [Option.map_some, Option.some.injEq] at hi
      subst hi
      have hil : i < (ax.drop 1).length := (List.getElem?_eq_some_iff.mp hb).1
      have e4 := congrArg (fun l => l[i]?) e3
      simp only [List.getElem?_map, hb, Option.map_some, Array.getElem?_toList] at e4
      cases ho : offs[i]? with
      | none => rw [ho] at e4; cases e4
      | some o =>
        rw [ho] at e4
        simp only [Option.map_some, Option.some.injEq] at e4
        have hq1 : lo + (i : Int) = x.toInt := hq1
        intro hR p e s m args below meth c H locs lsA hB hK hP hS hl
        exact lv_tableIn hB.1 hB.2.1 hdg (by omega) (by omega) (off := o) (by rw [show (x.toInt - lo).toNat = i by omega]; exact ho) e4.symm (hJ _ _ _ _ _ _ _ hq2 hR p e s m args below meth c H locs lsA hB hK hP hS hl)
  · have hout : x.toInt < lo ∨ hi < x.toInt := by
      by_cases h : x.toInt < lo
      · exact Or.inl h
      · by_cases h3 : hi < x.toInt
        · exact Or.inr h3
        · exfalso
          have hil : (x.toInt - lo).toNat < (ax.drop 1).length := by rw [hlen]; omega
          refine hno _ (List.mem_of_getElem? (i := (x.toInt - lo).toNat) (by rw [List.getElem?_mapIdx, List.getElem?_eq_getElem hil]; rfl)) ?_
          show lo + ((x.toInt - lo).toNat : Int) = x.toInt
          omega
    intro hR p e s m args below meth c H locs lsA hB hK hP hS hl
    exact lv_tableOut hB.1 hB.2.1 hdg hout e1 (hJ _ _ _ _ _ _ _ hd hR p e s m args below meth c H locs lsA hB hK hP hS hl)
theorem pm_loff {d0 : Int} {x : Int} : ∀ (ps : List (Int × Int)), (∃ o, (x, o) ∈ ps ∧ Op.lookupswitch.offset ps d0 x = o) ∨ ((∀ q ∈ ps, ¬ q.1 = x) ∧ Op.lookupswitch.offset ps d0 x = d0)
  | [] => Or.inr ⟨fun q hq => absurd hq List.not_mem_nil, rfl⟩
  | (a, o) :: r => by
    rw [Op.lookupswitch.offset_cons]
    by_cases h : x = a
    · refine Or.inl ⟨o, ?_, ?_⟩
      · rw [h]; exact List.mem_cons_self
      · first | rw [if_pos h] | rw [if_pos h.symm]
    · rcases pm_loff (d0 := d0) (x := x) r with ⟨o2, h1, h2⟩ | ⟨h1, h2⟩
      · exact Or.inl ⟨o2, List.mem_cons_of_mem _ h1, by first | (rw [if_neg h]; exact h2) | (rw [if_neg (fun z => h z.symm)]; exact h2)⟩
      · refine Or.inr ⟨fun q hq => ?_, by first | (rw [if_neg h]; exact h2) | (rw [if_neg (fun z => h z.symm)]; exact h2)⟩
        rcases List.mem_cons.mp hq with rfl | hq
        · exact fun z => h z.symm
        · exact h1 q hq
theorem pm_lk_sorted : ∀ (l : List (Int × Int)), ((l.zip (l.drop 1)).all (fun (a, next) => a.1 < next.1)) = true → ∀ (i j : Nat) (a b : Int × Int), l[i]? = some a → l[j]? = some b → i < j → a.1 < b.1
  | [], _, i, j, a, b, h1, _, _ => by simp at h1
  | [x], _, i, j, a, b, h1, h2, h3 => by
    cases j with
    | zero => omega
    | succ j => simp at h2
  | x :: y :: l, h, i, j, a, b, h1, h2, h3 => by
    have h : (decide (x.1 < y.1) && (((y :: l).zip l).all (fun (a, next) => a.1 < next.1))) = true := h
    simp only [Bool.and_eq_true, decide_eq_true_eq] at h
    have ih := pm_lk_sorted (y :: l) h.2
    cases j with
    | zero => omega
    | succ j =>
      cases i with
      | zero =>
        rw [List.getElem?_cons_zero] at h1
        rw [List.getElem?_cons_succ] at h2
        cases h1
        cases j with
        | zero =>
          rw [List.getElem?_cons_zero] at h2
          cases h2
          exact h.1
        | succ j => exact Int.lt_trans h.1 (ih 0 (j + 1) y b rfl h2 (by omega))
      | succ i =>
        rw [List.getElem?_cons_succ] at h1 h2
        exact ih i j a b h1 h2 (by omega)
theorem pm_lk_inj {l : List (Int × Int)} (h : ((l.zip (l.drop 1)).all (fun (a, next) => a.1 < next.1)) = true) {i j : Nat} {z : Int × Int} {x o : Int} (h1 : l[i]? = some z) (h2 : l[j]? = some (x, o)) (hx : z.1 = x) : z.2 = o := by
  rcases Nat.lt_trichotomy i j with q | q | q
  · have := pm_lk_sorted l h i j _ _ h1 h2 q
    simp only at this
    omega
  · subst q
    rw [h1] at h2
    cases h2
    rfl
  · have := pm_lk_sorted l h j i _ _ h2 h1 q
    simp only at this
    omega
theorem pm_sound_ls {Jm : Nat → pm_T} {pcs : List Nat} {ax : List Nat} {pc n : Nat} {d0 : Int} {ps : Array (Int × Int)} {ls : pm_LS} {st : List Value} (hJ : ∀ b ls st S I J k, Jm b ls st S I J k → pm_V g d f R Q (pcs.getD b 0) ls st S I J k)
    (h1 : pm_ck1 f pcs pc (.lookupswitch d0 ps) ax = true) (hdg : decode (pm_bc f) pc = .ok (.lookupswitch d0 ps, n)) (hw : pm_i1 (fun x st => pm_sw (Jm (ax.getD 0 0) ls st S I J k) x ((ps.toList.zip (ax.drop 1)).map (fun q => (q.1.1, Jm q.2 ls st S I J k)))) st) : pm_V g d f R Q pc ls st S I J k := by
  have h1 : (decide ((pc : Int) + d0 = ((pcs.getD (ax.getD 0 0) 0 : Nat) : Int)) && ((ps.toList.zip (ps.toList.drop 1)).all (fun (a, next) => a.1 < next.1)) && decide ((ax.drop 1).map (fun b => ((pcs.getD b 0 : Nat) : Int)) = ps.toList.map (fun q => (pc : Int) + q.2))) = true := h1
  simp only [Bool.and_eq_true, decide_eq_true_eq] at h1
  obtain ⟨⟨e1, e2⟩, e3⟩ := h1
  obtain ⟨x, t, rfl, hw⟩ := pm_i1_s hw
  have key : ∀ (i : Nat) (q : Int × Int), ps.toList[i]? = some q → ∃ b, (ax.drop 1)[i]? = some b ∧ ((pcs.getD b 0 : Nat) : Int) = (pc : Int) + q.2 := by
    intro i q hq
    have e4 := congrArg (fun l => l[i]?) e3
    simp only [List.getElem?_map, hq, Option.map_some] at e4
    cases hb : (ax.drop 1)[i]? with
    | none => rw [hb] at e4; cases e4
    | some b =>
      rw [hb] at e4
      simp only [Option.map_some, Option.some.injEq] at e4
      exact ⟨b, rfl, e4⟩
  rcases pm_loff (d0 := d0) (x := x.toInt) ps.toList with ⟨o, ho, hoff⟩ | ⟨hno, hoff⟩
  · rcases pm_swk hw with ⟨q, hq, hq1, hq2⟩ | ⟨hno, hd⟩
    · obtain ⟨⟨z, b⟩, hz, rfl⟩ := List.mem_map.mp hq
      obtain ⟨i, hi⟩ := List.getElem?_of_mem hz
      rw [List.getElem?_zip_eq_some] at hi
      obtain ⟨hi1, hi2⟩ := hi
      obtain ⟨b2, hb2, hb3⟩ := key i z hi1
      have hbb : b = b2 := Option.some.inj (hi2.symm.trans hb2)
      subst hbb
      obtain ⟨j, hj⟩ := List.getElem?_of_mem ho
      have hzo : z.2 = o := pm_lk_inj e2 hi1 hj hq1
      intro hR p e s m args below meth c H locs lsA hB hK hP hS hl
      exact lv_lookup hB.1 hB.2.1 hdg e2 hoff (by rw [← hzo]; exact hb3.symm) (hJ _ _ _ _ _ _ _ hq2 hR p e s m args below meth c H locs lsA hB hK hP hS hl)
    · exfalso
      obtain ⟨j, hj⟩ := List.getElem?_of_mem ho
      obtain ⟨b2, hb2, hb3⟩ := key j _ hj
      exact hno _ (List.mem_map.mpr ⟨((x.toInt, o), b2), List.mem_of_getElem? (i := j) (by rw [List.getElem?_zip_eq_some]; exact ⟨hj, hb2⟩), rfl⟩) rfl
  · rcases pm_swk hw with ⟨q, hq, hq1, hq2⟩ | ⟨hno2, hd⟩
    · exfalso
      obtain ⟨⟨z, b⟩, hz, rfl⟩ := List.mem_map.mp hq
      exact hno z (List.of_mem_zip hz).1 hq1
    · intro hR p e s m args below meth c H locs lsA hB hK hP hS hl
      exact lv_lookup hB.1 hB.2.1 hdg e2 hoff e1 (hJ _ _ _ _ _ _ _ hd hR p e s m args below meth c H locs lsA hB hK hP hS hl)
set_option maxHeartbeats 4000000 in
theorem pm_sound {Jm : Nat → pm_T} {nx : Nat} {pcs : List Nat} (hJ : ∀ b ls st S I J k, Jm b ls st S I J k → pm_V g d f R Q (pcs.getD b 0) ls st S I J k) : ∀ (is : List pm_I) (pc : Nat) (ls : pm_LS) (st : List Value) (S : pm_SS) (I : pm_MI) (J : pm_ML) (k : Nat × Nat), pm_ckL f pcs nx pc is = true → pm_wp g d R Q Jm nx is ls st S I J k → pm_V g d f R Q pc ls st S I J k := by
  intro is
  induction is with
  | nil =>
    intro pc ls st S I J k hc hw
    have hc : pc = pcs.getD nx 0 := of_decide_eq_true hc
    rw [hc]
    exact hJ _ _ _ _ _ _ _ hw
  | cons q is ih =>
    obtain ⟨ins, ax⟩ := q
    intro pc ls st S I J k hc hw
    have hc : (pm_dc (pm_bc f) pc ins && (pm_ck1 f pcs pc ins ax && (pm_end ins || pm_ckL f pcs nx (pc + pm_len ins) is))) = true := hc
    simp only [Bool.and_eq_true] at hc
    obtain ⟨hd, h1, h2⟩ := hc
    obtain ⟨n, hdg, hn⟩ := pm_dc_s hd
    cases ins with
    | iconst n0 =>
      obtain rfl : n = 1 := hn rfl
      have h2 : pm_ckL f pcs nx (pc + 1) is = true := h2
      have hw : pm_wp g d R Q Jm nx is ls (.int (Int32.ofInt n0) :: st) S I J k := hw
      exact pm_lift (fun _ _ _ _ _ _ _ _ _ _ _ _ B _ w => lv_iconst B.1 B.2.1 hdg rfl w) (ih _ _ _ _ _ _ _ h2 hw)
    | bipush n0 =>
      obtain rfl : n = 2 := hn rfl
      have h2 : pm_ckL f pcs nx (pc + 2) is = true := h2
      have hw : pm_wp g d R Q Jm nx is ls (.int (Int8.ofInt n0).toInt32 :: st) S I J k := hw
      exact pm_lift (fun _ _ _ _ _ _ _ _ _ _ _ _ B _ w => lv_bipush B.1 B.2.1 hdg rfl w) (ih _ _ _ _ _ _ _ h2 hw)
    | sipush n0 =>
      obtain rfl : n = 3 := hn rfl
      have h2 : pm_ckL f pcs nx (pc + 3) is = true := h2
      have hw : pm_wp g d R Q Jm nx is ls (.int (Int16.ofInt n0).toInt32 :: st) S I J k := hw
      exact pm_lift (fun _ _ _ _ _ _ _ _ _ _ _ _ B _ w => lv_sipush B.1 B.2.1 hdg rfl w) (ih _ _ _ _ _ _ _ h2 hw)
    | lconst n0 =>
      obtain rfl : n = 1 := hn rfl
      have h2 : pm_ckL f pcs nx (pc + 1) is = true := h2
      have hw : pm_wp g d R Q Jm nx is ls (.long (Int64.ofNat n0.val) :: st) S I J k := hw
      exact pm_lift (fun _ _ _ _ _ _ _ _ _ _ _ _ B _ w => lv_lconst B.1 B.2.1 hdg rfl w) (ih _ _ _ _ _ _ _ h2 hw)
    | ldc_w i0 =>
      obtain rfl : n = 3 := hn rfl
      have h2 : pm_ckL f pcs nx (pc + 3) is = true := h2
      have hw : pm_wp g d R Q Jm nx is ls (.int (pm_kc.getD (ax.getD 0 0) (0, 0, 0, 0)).2.2.1 :: st) S I J k := hw
      have h1 : (decide (ax.getD 0 0 < pm_kc.length) && decide ((pm_kc.getD (ax.getD 0 0) (0, 0, 0, 0)).1 = pm_ow f) && decide ((pm_kc.getD (ax.getD 0 0) (0, 0, 0, 0)).2.1 = i0)) = true := h1
      simp only [Bool.and_eq_true, decide_eq_true_eq] at h1
      obtain ⟨⟨e1, e2⟩, e3⟩ := h1
      have hm := List.all_eq_true.mp pm_kc_all _ (List.getElem_mem e1)
      have eg : pm_kc.getD (ax.getD 0 0) (0, 0, 0, 0) = pm_kc[ax.getD 0 0] := by rw [List.getD_eq_getElem?_getD, List.getElem?_eq_getElem e1, Option.getD_some]
      rw [eg] at e2 e3 hw
      simp only [decide_eq_true_eq] at hm
      rw [e2, e3] at hm
      exact pm_lift (fun _ _ _ _ _ _ _ _ _ _ _ _ B _ w => lv_ldcw B.1 B.2.1 B.2.2.2.2.2.1 (B.2.2.2.2.2.2.1 _ (pm_wIn hm rfl)) hdg w) (ih _ _ _ _ _ _ _ h2 hw)
    | ldc2_w i0 =>
      obtain rfl : n = 3 := hn rfl
      have h2 : pm_ckL f pcs nx (pc + 3) is = true := h2
      have hw : pm_wp g d R Q Jm nx is ls (.long (pm_kl.getD (ax.getD 0 0) (0, 0, 0, 0)).2.2.1 :: st) S I J k := hw
      have h1 : (decide (ax.getD 0 0 < pm_kl.length) && decide ((pm_kl.getD (ax.getD 0 0) (0, 0, 0, 0)).1 = pm_ow f) && decide ((pm_kl.getD (ax.getD 0 0) (0, 0, 0, 0)).2.1 = i0)) = true := h1
      simp only [Bool.and_eq_true, decide_eq_true_eq] at h1
      obtain ⟨⟨e1, e2⟩, e3⟩ := h1
      have hm := List.all_eq_true.mp pm_kl_all _ (List.getElem_mem e1)
      have eg : pm_kl.getD (ax.getD 0 0) (0, 0, 0, 0) = pm_kl[ax.getD 0 0] := by rw [List.getD_eq_getElem?_getD, List.getElem?_eq_getElem e1, Option.getD_some]
      rw [eg] at e2 e3 hw
      simp only [decide_eq_true_eq] at hm
      rw [e2, e3] at hm
      exact pm_lift (fun _ _ _ _ _ _ _ _ _ _ _ _ B _ w => lv_ldc2 B.1 B.2.1 B.2.2.2.2.2.1 (B.2.2.2.2.2.2.1 _ (pm_wIn hm rfl)) hdg w) (ih _ _ _ _ _ _ _ h2 hw)
    | iload i0 =>
      obtain rfl : n = 2 := hn rfl
      have h2 : pm_ckL f pcs nx (pc + 2) is = true := h2
      have hw : pm_li (fun x => pm_wp g d R Q Jm nx is ls (.int x :: st) S I J k) (ls.getD i0 none) := hw
      obtain ⟨x, hx, hw⟩ := pm_li_s hw
      exact pm_lift (fun _ _ _ _ _ _ _ _ _ _ _ _ B L w => lv_iload B.1 B.2.1 hdg (L.2.2 _ _ (pm_lget hx)) w) (ih _ _ _ _ _ _ _ h2 hw)
    | iload_n i0 =>
      obtain rfl : n = 1 := hn rfl
      have h2 : pm_ckL f pcs nx (pc + 1) is = true := h2
      have hw : pm_li (fun x => pm_wp g d R Q Jm nx is ls (.int x :: st) S I J k) (ls.getD i0.val none) := hw
      obtain ⟨x, hx, hw⟩ := pm_li_s hw
      exact pm_lift (fun _ _ _ _ _ _ _ _ _ _ _ _ B L w => lv_iload_n B.1 B.2.1 hdg rfl (L.2.2 _ _ (pm_lget hx)) w) (ih _ _ _ _ _ _ _ h2 hw)
    | lload i0 =>
      obtain rfl : n = 2 := hn rfl
      have h2 : pm_ckL f pcs nx (pc + 2) is = true := h2
      have hw : pm_ll (fun x => pm_wp g d R Q Jm nx is ls (.long x :: st) S I J k) (ls.getD i0 none) := hw
      obtain ⟨x, hx, hw⟩ := pm_ll_s hw
      exact pm_lift (fun _ _ _ _ _ _ _ _ _ _ _ _ B L w => lv_lload B.1 B.2.1 hdg (L.2.2 _ _ (pm_lget hx)) w) (ih _ _ _ _ _ _ _ h2 hw)
    | lload_n i0 =>
      obtain rfl : n = 1 := hn rfl
      have h2 : pm_ckL f pcs nx (pc + 1) is = true := h2
      have hw : pm_ll (fun x => pm_wp g d R Q Jm nx is ls (.long x :: st) S I J k) (ls.getD i0.val none) := hw
      obtain ⟨x, hx, hw⟩ := pm_ll_s hw
      exact pm_lift (fun _ _ _ _ _ _ _ _ _ _ _ _ B L w => lv_lload_n B.1 B.2.1 hdg rfl (L.2.2 _ _ (pm_lget hx)) w) (ih _ _ _ _ _ _ _ h2 hw)
    | aload_n i0 =>
      obtain rfl : n = 1 := hn rfl
      have h2 : pm_ckL f pcs nx (pc + 1) is = true := h2
      have hw : pm_la (fun x => pm_wp g d R Q Jm nx is ls (x :: st) S I J k) (ls.getD i0.val none) := hw
      obtain ⟨v, hx, ⟨x, hv⟩, hw⟩ := pm_la_s hw
      rcases hv with rfl | rfl
      · exact pm_lift (fun _ _ _ _ _ _ _ _ _ _ _ _ B L w => lv_aload_n B.1 B.2.1 hdg rfl (L.2.2 _ _ (pm_lget hx)) w) (ih _ _ _ _ _ _ _ h2 hw)
      · exact pm_lift (fun _ _ _ _ _ _ _ _ _ _ _ _ B L w => lv_aload_n B.1 B.2.1 hdg rfl (L.2.2 _ _ (pm_lget hx)) w) (ih _ _ _ _ _ _ _ h2 hw)
    | istore i0 =>
      obtain rfl : n = 2 := hn rfl
      have h2 : pm_ckL f pcs nx (pc + 2) is = true := h2
      have hw : pm_ok ls i0 = true ∧ pm_i1 (fun x st => pm_wp g d R Q Jm nx is (ls.set i0 (some (.int x))) st S I J k) st := hw
      obtain ⟨hok, hw⟩ := hw
      obtain ⟨x, t, rfl, hw⟩ := pm_i1_s hw
      have h1 := of_decide_eq_true h1
      exact pm_lst (fun _ _ _ _ _ _ _ _ _ _ _ _ B L w => lv_istore B.1 B.2.1 hdg L.has h1 rfl (fun lsB hB => w lsB (pm_ls.st1 (v := .int x) hok hB))) (ih _ _ _ _ _ _ _ h2 hw)
    | istore_n i0 =>
      obtain rfl : n = 1 := hn rfl
      have h2 : pm_ckL f pcs nx (pc + 1) is = true := h2
      have hw : pm_ok ls i0.val = true ∧ pm_i1 (fun x st => pm_wp g d R Q Jm nx is (ls.set i0.val (some (.int x))) st S I J k) st := hw
      obtain ⟨hok, hw⟩ := hw
      obtain ⟨x, t, rfl, hw⟩ := pm_i1_s hw
      have h1 := of_decide_eq_true h1
      exact pm_lst (fun _ _ _ _ _ _ _ _ _ _ _ _ B L w => lv_istore_n B.1 B.2.1 hdg rfl L.has h1 rfl (fun lsB hB => w lsB (pm_ls.st1 (v := .int x) hok hB))) (ih _ _ _ _ _ _ _ h2 hw)
    | lstore i0 =>
      obtain rfl : n = 2 := hn rfl
      have h2 : pm_ckL f pcs nx (pc + 2) is = true := h2
      have hw : pm_ok ls i0 = true ∧ pm_l1 (fun x st => pm_wp g d R Q Jm nx is ((ls.set i0 (some (.long x))).set (i0 + 1) none) st S I J k) st := hw
      obtain ⟨hok, hw⟩ := hw
      obtain ⟨x, t, rfl, hw⟩ := pm_l1_s hw
      have h1 := of_decide_eq_true h1
      exact pm_lst (fun _ _ _ _ _ _ _ _ _ _ _ _ B L w => lv_lstore B.1 B.2.1 hdg L.has h1 rfl (fun lsB hB => w lsB (pm_ls.st2 (v := .long x) hok hB))) (ih _ _ _ _ _ _ _ h2 hw)
    | lstore_n i0 =>
      obtain rfl : n = 1 := hn rfl
      have h2 : pm_ckL f pcs nx (pc + 1) is = true := h2
      have hw : pm_ok ls i0.val = true ∧ pm_l1 (fun x st => pm_wp g d R Q Jm nx is ((ls.set i0.val (some (.long x))).set (i0.val + 1) none) st S I J k) st := hw
      obtain ⟨hok, hw⟩ := hw
      obtain ⟨x, t, rfl, hw⟩ := pm_l1_s hw
      have h1 := of_decide_eq_true h1
      exact pm_lst (fun _ _ _ _ _ _ _ _ _ _ _ _ B L w => lv_lstore_n B.1 B.2.1 hdg rfl L.has h1 rfl (fun lsB hB => w lsB (pm_ls.st2 (v := .long x) hok hB))) (ih _ _ _ _ _ _ _ h2 hw)
    | astore_n i0 =>
      obtain rfl : n = 1 := hn rfl
      have h2 : pm_ckL f pcs nx (pc + 1) is = true := h2
      have hw : pm_ok ls i0.val = true ∧ pm_as (fun x st => pm_wp g d R Q Jm nx is (ls.set i0.val (some (.ref x))) st S I J k) st := hw
      obtain ⟨hok, hw⟩ := hw
      obtain ⟨x, t, rfl, hw⟩ := pm_as_s hw
      have h1 := of_decide_eq_true h1
      exact pm_lst (fun _ _ _ _ _ _ _ _ _ _ _ _ B L w => lv_astore_n B.1 B.2.1 hdg rfl L.has h1 rfl (fun lsB hB => w lsB (pm_ls.st1 (v := .ref x) hok hB))) (ih _ _ _ _ _ _ _ h2 hw)
    | iinc i0 n0 =>
      obtain rfl : n = 3 := hn rfl
      have h2 : pm_ckL f pcs nx (pc + 3) is = true := h2
      have hw : pm_ok ls i0 = true ∧ pm_li (fun x => pm_wp g d R Q Jm nx is (ls.set i0 (some (.int (x + Int32.ofInt n0)))) st S I J k) (ls.getD i0 none) := hw
      obtain ⟨hok, hw⟩ := hw
      obtain ⟨x, hx, hw⟩ := pm_li_s hw
      have h1 := of_decide_eq_true h1
      refine pm_lst (fun _ _ _ _ _ _ _ _ _ _ _ _ B L w => ?_) (ih _ _ _ _ _ _ _ h2 hw)
      obtain ⟨j, hj⟩ := List.getElem?_of_mem (pm_prs_mem.mpr ⟨_, pm_lget hx, rfl⟩)
      exact lv_iinc B.1 B.2.1 hdg L.has hj rfl h1 rfl (fun lsB hB => w lsB (pm_ls.st1 (v := .int _) hok hB))
    | iadd =>
      obtain rfl : n = 1 := hn rfl
      have h2 : pm_ckL f pcs nx (pc + 1) is = true := h2
      have hw : pm_i2 (fun x y st => pm_wp g d R Q Jm nx is ls (.int (x + y) :: st) S I J k) st := hw
      obtain ⟨x, y, t, rfl, hw⟩ := pm_i2_s hw
      exact pm_lift (fun _ _ _ _ _ _ _ _ _ _ _ _ B _ w => lv_iadd B.1 B.2.1 hdg w) (ih _ _ _ _ _ _ _ h2 hw)
    | isub =>
      obtain rfl : n = 1 := hn rfl
      have h2 : pm_ckL f pcs nx (pc + 1) is = true := h2
      have hw : pm_i2 (fun x y st => pm_wp g d R Q Jm nx is ls (.int (x - y) :: st) S I J k) st := hw
      obtain ⟨x, y, t, rfl, hw⟩ := pm_i2_s hw
      exact pm_lift (fun _ _ _ _ _ _ _ _ _ _ _ _ B _ w => lv_isub B.1 B.2.1 hdg w) (ih _ _ _ _ _ _ _ h2 hw)
    | imul =>
      obtain rfl : n = 1 := hn rfl
      have h2 : pm_ckL f pcs nx (pc + 1) is = true := h2
      have hw : pm_i2 (fun x y st => pm_wp g d R Q Jm nx is ls (.int (x * y) :: st) S I J k) st := hw
      obtain ⟨x, y, t, rfl, hw⟩ := pm_i2_s hw
      exact pm_lift (fun _ _ _ _ _ _ _ _ _ _ _ _ B _ w => lv_imul B.1 B.2.1 hdg w) (ih _ _ _ _ _ _ _ h2 hw)
    | iand =>
      obtain rfl : n = 1 := hn rfl
      have h2 : pm_ckL f pcs nx (pc + 1) is = true := h2
      have hw : pm_i2 (fun x y st => pm_wp g d R Q Jm nx is ls (.int (x &&& y) :: st) S I J k) st := hw
      obtain ⟨x, y, t, rfl, hw⟩ := pm_i2_s hw
      exact pm_lift (fun _ _ _ _ _ _ _ _ _ _ _ _ B _ w => lv_iand B.1 B.2.1 hdg w) (ih _ _ _ _ _ _ _ h2 hw)
    | ior =>
      obtain rfl : n = 1 := hn rfl
      have h2 : pm_ckL f pcs nx (pc + 1) is = true := h2
      have hw : pm_i2 (fun x y st => pm_wp g d R Q Jm nx is ls (.int (x ||| y) :: st) S I J k) st := hw
      obtain ⟨x, y, t, rfl, hw⟩ := pm_i2_s hw
      exact pm_lift (fun _ _ _ _ _ _ _ _ _ _ _ _ B _ w => lv_ior B.1 B.2.1 hdg w) (ih _ _ _ _ _ _ _ h2 hw)
    | ixor =>
      obtain rfl : n = 1 := hn rfl
      have h2 : pm_ckL f pcs nx (pc + 1) is = true := h2
      have hw : pm_i2 (fun x y st => pm_wp g d R Q Jm nx is ls (.int (x ^^^ y) :: st) S I J k) st := hw
      obtain ⟨x, y, t, rfl, hw⟩ := pm_i2_s hw
      exact pm_lift (fun _ _ _ _ _ _ _ _ _ _ _ _ B _ w => lv_ixor B.1 B.2.1 hdg w) (ih _ _ _ _ _ _ _ h2 hw)
    | idiv =>
      obtain rfl : n = 1 := hn rfl
      have h2 : pm_ckL f pcs nx (pc + 1) is = true := h2
      have hw : pm_i2 (fun x y st => ¬ y = 0 ∧ pm_wp g d R Q Jm nx is ls (.int (x / y) :: st) S I J k) st := hw
      obtain ⟨x, y, t, rfl, hne, hw⟩ := pm_i2_s hw
      exact pm_lift (fun _ _ _ _ _ _ _ _ _ _ _ _ B _ w => lv_idiv B.1 B.2.1 hdg hne w) (ih _ _ _ _ _ _ _ h2 hw)
    | irem =>
      obtain rfl : n = 1 := hn rfl
      have h2 : pm_ckL f pcs nx (pc + 1) is = true := h2
      have hw : pm_i2 (fun x y st => ¬ y = 0 ∧ pm_wp g d R Q Jm nx is ls (.int (x - x / y * y) :: st) S I J k) st := hw
      obtain ⟨x, y, t, rfl, hne, hw⟩ := pm_i2_s hw
      exact pm_lift (fun _ _ _ _ _ _ _ _ _ _ _ _ B _ w => lv_irem B.1 B.2.1 hdg hne w) (ih _ _ _ _ _ _ _ h2 hw)
    | ineg =>
      obtain rfl : n = 1 := hn rfl
      have h2 : pm_ckL f pcs nx (pc + 1) is = true := h2
      have hw : pm_i1 (fun x st => pm_wp g d R Q Jm nx is ls (.int (-x) :: st) S I J k) st := hw
      obtain ⟨x, t, rfl, hw⟩ := pm_i1_s hw
      exact pm_lift (fun _ _ _ _ _ _ _ _ _ _ _ _ B _ w => lv_ineg B.1 B.2.1 hdg w) (ih _ _ _ _ _ _ _ h2 hw)
    | ishl =>
      obtain rfl : n = 1 := hn rfl
      have h2 : pm_ckL f pcs nx (pc + 1) is = true := h2
      have hw : pm_i2 (fun x y st => pm_wp g d R Q Jm nx is ls (.int (x <<< (y &&& 31)) :: st) S I J k) st := hw
      obtain ⟨x, y, t, rfl, hw⟩ := pm_i2_s hw
      exact pm_lift (fun _ _ _ _ _ _ _ _ _ _ _ _ B _ w => lv_ishl B.1 B.2.1 hdg w) (ih _ _ _ _ _ _ _ h2 hw)
    | ishr =>
      obtain rfl : n = 1 := hn rfl
      have h2 : pm_ckL f pcs nx (pc + 1) is = true := h2
      have hw : pm_i2 (fun x y st => pm_wp g d R Q Jm nx is ls (.int (x >>> (y &&& 31)) :: st) S I J k) st := hw
      obtain ⟨x, y, t, rfl, hw⟩ := pm_i2_s hw
      exact pm_lift (fun _ _ _ _ _ _ _ _ _ _ _ _ B _ w => lv_ishr B.1 B.2.1 hdg w) (ih _ _ _ _ _ _ _ h2 hw)
    | iushr =>
      obtain rfl : n = 1 := hn rfl
      have h2 : pm_ckL f pcs nx (pc + 1) is = true := h2
      have hw : pm_i2 (fun x y st => pm_wp g d R Q Jm nx is ls (.int (x.toUInt32 >>> (y.toUInt32 &&& Int32.toUInt32 31)).toInt32 :: st) S I J k) st := hw
      obtain ⟨x, y, t, rfl, hw⟩ := pm_i2_s hw
      exact pm_lift (fun _ _ _ _ _ _ _ _ _ _ _ _ B _ w => lv_iushr B.1 B.2.1 hdg rfl w) (ih _ _ _ _ _ _ _ h2 hw)
    | ladd =>
      obtain rfl : n = 1 := hn rfl
      have h2 : pm_ckL f pcs nx (pc + 1) is = true := h2
      have hw : pm_l2 (fun x y st => pm_wp g d R Q Jm nx is ls (.long (x + y) :: st) S I J k) st := hw
      obtain ⟨x, y, t, rfl, hw⟩ := pm_l2_s hw
      exact pm_lift (fun _ _ _ _ _ _ _ _ _ _ _ _ B _ w => lv_ladd B.1 B.2.1 hdg w) (ih _ _ _ _ _ _ _ h2 hw)
    | lsub =>
      obtain rfl : n = 1 := hn rfl
      have h2 : pm_ckL f pcs nx (pc + 1) is = true := h2
      have hw : pm_l2 (fun x y st => pm_wp g d R Q Jm nx is ls (.long (x - y) :: st) S I J k) st := hw
      obtain ⟨x, y, t, rfl, hw⟩ := pm_l2_s hw
      exact pm_lift (fun _ _ _ _ _ _ _ _ _ _ _ _ B _ w => lv_lsub B.1 B.2.1 hdg w) (ih _ _ _ _ _ _ _ h2 hw)
    | lmul =>
      obtain rfl : n = 1 := hn rfl
      have h2 : pm_ckL f pcs nx (pc + 1) is = true := h2
      have hw : pm_l2 (fun x y st => pm_wp g d R Q Jm nx is ls (.long (x * y) :: st) S I J k) st := hw
      obtain ⟨x, y, t, rfl, hw⟩ := pm_l2_s hw
      exact pm_lift (fun _ _ _ _ _ _ _ _ _ _ _ _ B _ w => lv_lmul B.1 B.2.1 hdg w) (ih _ _ _ _ _ _ _ h2 hw)
    | land =>
      obtain rfl : n = 1 := hn rfl
      have h2 : pm_ckL f pcs nx (pc + 1) is = true := h2
      have hw : pm_l2 (fun x y st => pm_wp g d R Q Jm nx is ls (.long (x &&& y) :: st) S I J k) st := hw
      obtain ⟨x, y, t, rfl, hw⟩ := pm_l2_s hw
      exact pm_lift (fun _ _ _ _ _ _ _ _ _ _ _ _ B _ w => lv_land B.1 B.2.1 hdg w) (ih _ _ _ _ _ _ _ h2 hw)
    | lor =>
      obtain rfl : n = 1 := hn rfl
      have h2 : pm_ckL f pcs nx (pc + 1) is = true := h2
      have hw : pm_l2 (fun x y st => pm_wp g d R Q Jm nx is ls (.long (x ||| y) :: st) S I J k) st := hw
      obtain ⟨x, y, t, rfl, hw⟩ := pm_l2_s hw
      exact pm_lift (fun _ _ _ _ _ _ _ _ _ _ _ _ B _ w => lv_lor B.1 B.2.1 hdg w) (ih _ _ _ _ _ _ _ h2 hw)
    | lxor =>
      obtain rfl : n = 1 := hn rfl
      have h2 : pm_ckL f pcs nx (pc + 1) is = true := h2
      have hw : pm_l2 (fun x y st => pm_wp g d R Q Jm nx is ls (.long (x ^^^ y) :: st) S I J k) st := hw
      obtain ⟨x, y, t, rfl, hw⟩ := pm_l2_s hw
      exact pm_lift (fun _ _ _ _ _ _ _ _ _ _ _ _ B _ w => lv_lxor B.1 B.2.1 hdg w) (ih _ _ _ _ _ _ _ h2 hw)
    | ldiv =>
      obtain rfl : n = 1 := hn rfl
      have h2 : pm_ckL f pcs nx (pc + 1) is = true := h2
      have hw : pm_l2 (fun x y st => ¬ y = 0 ∧ pm_wp g d R Q Jm nx is ls (.long (x / y) :: st) S I J k) st := hw
      obtain ⟨x, y, t, rfl, hne, hw⟩ := pm_l2_s hw
      exact pm_lift (fun _ _ _ _ _ _ _ _ _ _ _ _ B _ w => lv_ldiv B.1 B.2.1 hdg hne w) (ih _ _ _ _ _ _ _ h2 hw)
    | lrem =>
      obtain rfl : n = 1 := hn rfl
      have h2 : pm_ckL f pcs nx (pc + 1) is = true := h2
      have hw : pm_l2 (fun x y st => ¬ y = 0 ∧ pm_wp g d R Q Jm nx is ls (.long (x - x / y * y) :: st) S I J k) st := hw
      obtain ⟨x, y, t, rfl, hne, hw⟩ := pm_l2_s hw
      exact pm_lift (fun _ _ _ _ _ _ _ _ _ _ _ _ B _ w => lv_lrem B.1 B.2.1 hdg hne w) (ih _ _ _ _ _ _ _ h2 hw)
    | lneg =>
      obtain rfl : n = 1 := hn rfl
      have h2 : pm_ckL f pcs nx (pc + 1) is = true := h2
      have hw : pm_l1 (fun x st => pm_wp g d R Q Jm nx is ls (.long (-x) :: st) S I J k) st := hw
      obtain ⟨x, t, rfl, hw⟩ := pm_l1_s hw
      exact pm_lift (fun _ _ _ _ _ _ _ _ _ _ _ _ B _ w => lv_lneg B.1 B.2.1 hdg w) (ih _ _ _ _ _ _ _ h2 hw)
    | lshl =>
      obtain rfl : n = 1 := hn rfl
      have h2 : pm_ckL f pcs nx (pc + 1) is = true := h2
      have hw : pm_il (fun x y st => pm_wp g d R Q Jm nx is ls (.long (x <<< (y.toInt64 &&& 63)) :: st) S I J k) st := hw
      obtain ⟨x, y, t, rfl, hw⟩ := pm_il_s hw
      exact pm_lift (fun _ _ _ _ _ _ _ _ _ _ _ _ B _ w => lv_lshl B.1 B.2.1 hdg rfl w) (ih _ _ _ _ _ _ _ h2 hw)
    | lshr =>
      obtain rfl : n = 1 := hn rfl
      have h2 : pm_ckL f pcs nx (pc + 1) is = true := h2
      have hw : pm_il (fun x y st => pm_wp g d R Q Jm nx is ls (.long (x >>> (y.toInt64 &&& 63)) :: st) S I J k) st := hw
      obtain ⟨x, y, t, rfl, hw⟩ := pm_il_s hw
      exact pm_lift (fun _ _ _ _ _ _ _ _ _ _ _ _ B _ w => lv_lshr B.1 B.2.1 hdg rfl w) (ih _ _ _ _ _ _ _ h2 hw)
    | lushr =>
      obtain rfl : n = 1 := hn rfl
      have h2 : pm_ckL f pcs nx (pc + 1) is = true := h2
      have hw : pm_il (fun x y st => pm_wp g d R Q Jm nx is ls (.long (x.toUInt64 >>> (y.toInt64.toUInt64 &&& Int64.toUInt64 63)).toInt64 :: st) S I J k) st := hw
      obtain ⟨x, y, t, rfl, hw⟩ := pm_il_s hw
      exact pm_lift (fun _ _ _ _ _ _ _ _ _ _ _ _ B _ w => lv_lushr B.1 B.2.1 hdg rfl w) (ih _ _ _ _ _ _ _ h2 hw)
    | lcmp =>
      obtain rfl : n = 1 := hn rfl
      have h2 : pm_ckL f pcs nx (pc + 1) is = true := h2
      have hw : pm_l2 (fun x y st => pm_wp g d R Q Jm nx is ls (.int (lg_cmp x y) :: st) S I J k) st := hw
      obtain ⟨x, y, t, rfl, hw⟩ := pm_l2_s hw
      exact pm_lift (fun _ _ _ _ _ _ _ _ _ _ _ _ B _ w => W.lcmp B.1 B.2.1 hdg w) (ih _ _ _ _ _ _ _ h2 hw)
    | i2l =>
      obtain rfl : n = 1 := hn rfl
      have h2 : pm_ckL f pcs nx (pc + 1) is = true := h2
      have hw : pm_i1 (fun x st => pm_wp g d R Q Jm nx is ls (.long x.toInt64 :: st) S I J k) st := hw
      obtain ⟨x, t, rfl, hw⟩ := pm_i1_s hw
      exact pm_lift (fun _ _ _ _ _ _ _ _ _ _ _ _ B _ w => lv_i2l B.1 B.2.1 hdg rfl w) (ih _ _ _ _ _ _ _ h2 hw)
    | l2i =>
      obtain rfl : n = 1 := hn rfl
      have h2 : pm_ckL f pcs nx (pc + 1) is = true := h2
      have hw : pm_l1 (fun x st => pm_wp g d R Q Jm nx is ls (.int x.toInt32 :: st) S I J k) st := hw
      obtain ⟨x, t, rfl, hw⟩ := pm_l1_s hw
      exact pm_lift (fun _ _ _ _ _ _ _ _ _ _ _ _ B _ w => lv_l2i B.1 B.2.1 hdg rfl w) (ih _ _ _ _ _ _ _ h2 hw)
    | i2b =>
      obtain rfl : n = 1 := hn rfl
      have h2 : pm_ckL f pcs nx (pc + 1) is = true := h2
      have hw : pm_i1 (fun x st => pm_wp g d R Q Jm nx is ls (.int x.toInt8.toInt32 :: st) S I J k) st := hw
      obtain ⟨x, t, rfl, hw⟩ := pm_i1_s hw
      exact pm_lift (fun _ _ _ _ _ _ _ _ _ _ _ _ B _ w => lv_i2b B.1 B.2.1 hdg rfl w) (ih _ _ _ _ _ _ _ h2 hw)
    | dup =>
      obtain rfl : n = 1 := hn rfl
      have h2 : pm_ckL f pcs nx (pc + 1) is = true := h2
      have hw : pm_c1 (fun v st => pm_wp g d R Q Jm nx is ls (v :: v :: st) S I J k) st := hw
      obtain ⟨v, t, rfl, hv, hw⟩ := pm_c1_s hw
      exact pm_lift (fun _ _ _ _ _ _ _ _ _ _ _ _ B _ w => lv_dup B.1 B.2.1 hdg (by rw [pm_v_cat]; exact hv) w) (ih _ _ _ _ _ _ _ h2 hw)
    | pop =>
      obtain rfl : n = 1 := hn rfl
      have h2 : pm_ckL f pcs nx (pc + 1) is = true := h2
      have hw : pm_c1 (fun _ st => pm_wp g d R Q Jm nx is ls st S I J k) st := hw
      obtain ⟨v, t, rfl, hv, hw⟩ := pm_c1_s hw
      exact pm_lift (fun _ _ _ _ _ _ _ _ _ _ _ _ B _ w => lv_pop B.1 B.2.1 hdg (by rw [pm_v_cat]; exact hv) w) (ih _ _ _ _ _ _ _ h2 hw)
    | dup_x1 =>
      obtain rfl : n = 1 := hn rfl
      have h2 : pm_ckL f pcs nx (pc + 1) is = true := h2
      have hw : pm_c2 (fun v w st => pm_wp g d R Q Jm nx is ls (v :: w :: v :: st) S I J k) st := hw
      obtain ⟨v, v2, t, rfl, hv, hv2, hw⟩ := pm_c2_s hw
      exact pm_lift (fun _ _ _ _ _ _ _ _ _ _ _ _ B _ w => lv_dup_x1 B.1 B.2.1 hdg (by rw [pm_v_cat]; exact hv) (by rw [pm_v_cat]; exact hv2) w) (ih _ _ _ _ _ _ _ h2 hw)
    | dup2 =>
      obtain rfl : n = 1 := hn rfl
      have h2 : pm_ckL f pcs nx (pc + 1) is = true := h2
      have hw : pm_c2 (fun v w st => pm_wp g d R Q Jm nx is ls (v :: w :: v :: w :: st) S I J k) st := hw
      obtain ⟨v, v2, t, rfl, hv, hv2, hw⟩ := pm_c2_s hw
      exact pm_lift (fun _ _ _ _ _ _ _ _ _ _ _ _ B _ w => lv_dup2_11 B.1 B.2.1 hdg (by rw [pm_v_cat]; exact hv) (by rw [pm_v_cat]; exact hv2) w) (ih _ _ _ _ _ _ _ h2 hw)
    | iaload =>
      obtain rfl : n = 1 := hn rfl
      have h2 : pm_ckL f pcs nx (pc + 1) is = true := h2
      have hw : pm_a2 (fun a i st => pm_kd S a = 0 ∧ vp_in i (pm_n S a) ∧ pm_wp g d R Q Jm nx is ls (.int (I a i.toNatClampNeg) :: st) S I J k) (fun i st => vp_in i g.2.2.2.1 ∧ pm_wp g d R Q Jm nx is ls (.int (g.2.2.2.2.1 i.toNatClampNeg) :: st) S I J k) st := hw
      rcases pm_a2_s hw with ⟨a, i, t, rfl, hk, hin, hw⟩ | ⟨i, t, rfl, hin, hw⟩
      · exact pm_r_iaload hk hin hdg (ih _ _ _ _ _ _ _ h2 hw)
      · exact pm_r_sld hin hdg (ih _ _ _ _ _ _ _ h2 hw)
    | laload =>
      obtain rfl : n = 1 := hn rfl
      have h2 : pm_ckL f pcs nx (pc + 1) is = true := h2
      have hw : pm_a2 (fun a i st => pm_kd S a = 1 ∧ vp_in i (pm_n S a) ∧ pm_wp g d R Q Jm nx is ls (.long (J a i.toNatClampNeg) :: st) S I J k) (fun _ _ => False) st := hw
      rcases pm_a2_s hw with ⟨a, i, t, rfl, hk, hin, hw⟩ | ⟨i, t, rfl, hw⟩
      · exact pm_r_laload hk hin hdg (ih _ _ _ _ _ _ _ h2 hw)
      · exact hw.elim
    | baload =>
      obtain rfl : n = 1 := hn rfl
      have h2 : pm_ckL f pcs nx (pc + 1) is = true := h2
      have hw : pm_a2 (fun a i st => (pm_kd S a = 2 ∨ pm_kd S a = 3) ∧ vp_in i (pm_n S a) ∧ pm_wp g d R Q Jm nx is ls (.int (I a i.toNatClampNeg) :: st) S I J k) (fun _ _ => False) st := hw
      rcases pm_a2_s hw with ⟨a, i, t, rfl, hk, hin, hw⟩ | ⟨i, t, rfl, hw⟩
      · exact pm_r_baload hk hin hdg (ih _ _ _ _ _ _ _ h2 hw)
      · exact hw.elim
    | iastore =>
      obtain rfl : n = 1 := hn rfl
      have h2 : pm_ckL f pcs nx (pc + 1) is = true := h2
      have hw : pm_a3 (fun a i x st => pm_kd S a = 0 ∧ vp_in i (pm_n S a) ∧ pm_wp g d R Q Jm nx is ls st S (pm_up I a i.toNatClampNeg x) J k) st := hw
      obtain ⟨a, i, x, t, rfl, hk, hin, hw⟩ := pm_a3_s hw
      exact pm_r_iastore hk hin hdg (ih _ _ _ _ _ _ _ h2 hw)
    | lastore =>
      obtain rfl : n = 1 := hn rfl
      have h2 : pm_ckL f pcs nx (pc + 1) is = true := h2
      have hw : pm_a3L (fun a i x st => pm_kd S a = 1 ∧ vp_in i (pm_n S a) ∧ pm_wp g d R Q Jm nx is ls st S I (pm_upL J a i.toNatClampNeg x) k) st := hw
      obtain ⟨a, i, x, t, rfl, hk, hin, hw⟩ := pm_a3L_s hw
      exact pm_r_lastore hk hin hdg (ih _ _ _ _ _ _ _ h2 hw)
    | bastore =>
      obtain rfl : n = 1 := hn rfl
      have h2 : pm_ckL f pcs nx (pc + 1) is = true := h2
      have hw : pm_a3 (fun a i x st => vp_in i (pm_n S a) ∧ ((pm_kd S a = 2 ∧ pm_wp g d R Q Jm nx is ls st S (pm_up I a i.toNatClampNeg x.toInt8.toInt32) J k) ∨ (pm_kd S a = 3 ∧ pm_wp g d R Q Jm nx is ls st S (pm_up I a i.toNatClampNeg (x &&& 1)) J k))) st := hw
      obtain ⟨a, i, x, t, rfl, hin, ⟨hk, hw⟩ | ⟨hk, hw⟩⟩ := pm_a3_s hw
      · exact pm_r_bastore hk hin hdg (ih _ _ _ _ _ _ _ h2 hw)
      · exact pm_r_zastore hk hin hdg (ih _ _ _ _ _ _ _ h2 hw)
    | arraylength =>
      obtain rfl : n = 1 := hn rfl
      have h2 : pm_ckL f pcs nx (pc + 1) is = true := h2
      have hw : pm_a1 (fun a st => pm_kd S a < 4 ∧ pm_wp g d R Q Jm nx is ls (.int (Int32.ofNat (pm_n S a)) :: st) S I J k) (fun st => pm_wp g d R Q Jm nx is ls (.int (Int32.ofNat g.2.2.2.1) :: st) S I J k) st := hw
      rcases pm_a1_s hw with ⟨a, t, rfl, hk, hw⟩ | ⟨t, rfl, hw⟩
      · exact pm_r_alen hk hdg (ih _ _ _ _ _ _ _ h2 hw)
      · exact pm_r_slen hdg (ih _ _ _ _ _ _ _ h2 hw)
    | getfield i0 =>
      obtain rfl : n = 3 := hn rfl
      have h2 : pm_ckL f pcs nx (pc + 3) is = true := h2
      have hw : pm_r1 (fun a st => pm_kd S a = ax.getD 0 0 + 4 ∧ (match ax.getD 2 0 with
              | 0 => pm_wp g d R Q Jm nx is ls (.int (I a (ax.getD 1 0)) :: st) S I J k
              | 1 => pm_wp g d R Q Jm nx is ls (.long (J a (ax.getD 1 0)) :: st) S I J k
              | 2 => pm_wp g d R Q Jm nx is ls (.int (I a (ax.getD 1 0)) :: st) S I J k
              | _ => pm_rf S a (ax.getD 1 0) = some (pm_rfv (pm_rf S a (ax.getD 1 0))) ∧ pm_wp g d R Q Jm nx is ls (.ref (pm_rfv (pm_rf S a (ax.getD 1 0))) :: st) S I J k)) st := hw
      obtain ⟨hf, hl⟩ := pm_flf h1
      obtain ⟨a, t, rfl, hk, hw⟩ := pm_r1_s hw
      generalize hkd : ax.getD 2 0 = kd at hf hw
      match kd, hf, hw with
      | 0, hf, hw => exact pm_r_get hk hf hl rfl hdg (ih _ _ _ _ _ _ _ h2 hw)
      | 1, hf, hw => exact pm_r_get hk hf hl rfl hdg (ih _ _ _ _ _ _ _ h2 hw)
      | 2, hf, hw => exact pm_r_get hk hf hl rfl hdg (ih _ _ _ _ _ _ _ h2 hw)
      | q + 3, hf, hw =>
        obtain ⟨hr, hw⟩ := hw
        exact pm_r_get hk hf hl (pm_fv_get hr) hdg (ih _ _ _ _ _ _ _ h2 hw)
    | putfield i0 =>
      obtain rfl : n = 3 := hn rfl
      have h2 : pm_ckL f pcs nx (pc + 3) is = true := h2
      have h1 : (pm_ckf f i0 ax && decide ((pm_tf (ax.getD 0 0) (ax.getD 1 0)).2.2.2 = true → (pm_y f).name = "<init>" ∧ (pm_tf (ax.getD 0 0) (ax.getD 1 0)).1 = pm_cn (pm_ow f))) = true := h1
      simp only [Bool.and_eq_true, decide_eq_true_eq] at h1
      obtain ⟨h1, hfin⟩ := h1
      obtain ⟨hf, hl⟩ := pm_flf h1
      have hw : match ax.getD 2 0 with
              | 0 => pm_pi (fun a x st => pm_kd S a = ax.getD 0 0 + 4 ∧ pm_wp g d R Q Jm nx is ls st S (pm_up I a (ax.getD 1 0) x) J k) st
              | 1 => pm_pl (fun a x st => pm_kd S a = ax.getD 0 0 + 4 ∧ pm_wp g d R Q Jm nx is ls st S I (pm_upL J a (ax.getD 1 0) x) k) st
              | 2 => pm_pi (fun a x st => pm_kd S a = ax.getD 0 0 + 4 ∧ (x = 0 ∨ x = 1) ∧ pm_wp g d R Q Jm nx is ls st S (pm_up I a (ax.getD 1 0) x) J k) st
              | _ => pm_pr (fun a x st => pm_kd S a = ax.getD 0 0 + 4 ∧ ax.getD 1 0 < (S.getD a (999, 0, [])).2.2.length ∧ pm_wp g d R Q Jm nx is ls st (pm_sr S a (ax.getD 1 0) x) I J k) st := hw
      have ht := pm_tyk hf
      generalize hkd : ax.getD 2 0 = kd at hf hw ht
      match kd, hf, hw, ht with
      | 0, hf, hw, ht =>
        obtain ⟨a, x, t, rfl, hk, hw⟩ := pm_pi_s hw
        refine pm_r_put hk hf hl hfin (by rw [ht.1 rfl]; rfl) (by rw [ht.1 rfl]; rfl) (pm_fs_set hf ?_ ?_) (pm_set_self (pm_sh hk (by have := (pm_ci hf).1; omega))) pm_up_ne (fun _ _ => rfl) hdg (ih _ _ _ _ _ _ _ h2 hw)
        · simp [pm_fv, pm_up_k, upd, pm_v]
        · exact fun i kd hi => pm_fv_up hi
      | 1, hf, hw, ht =>
        obtain ⟨a, x, t, rfl, hk, hw⟩ := pm_pl_s hw
        refine pm_r_put hk hf hl hfin (by rw [ht.2.1 rfl]; rfl) (by rw [ht.2.1 rfl]; rfl) (pm_fs_set hf ?_ ?_) (pm_set_self (pm_sh hk (by have := (pm_ci hf).1; omega))) (fun _ _ => rfl) pm_upL_ne hdg (ih _ _ _ _ _ _ _ h2 hw)
        · simp [pm_fv, pm_upL_k, vp_updL, pm_v]
        · exact fun i kd hi => pm_fv_upL hi
      | 2, hf, hw, ht =>
        obtain ⟨a, x, t, rfl, hk, hx, hw⟩ := pm_pi_s hw
        refine pm_r_put hk hf hl hfin (by rw [ht.2.2.1 rfl]; rcases hx with rfl | rfl <;> rfl) (by rw [ht.2.2.1 rfl]; rcases hx with rfl | rfl <;> rfl) (pm_fs_set hf ?_ ?_) (pm_set_self (pm_sh hk (by have := (pm_ci hf).1; omega))) pm_up_ne (fun _ _ => rfl) hdg (ih _ _ _ _ _ _ _ h2 hw)
        · simp [pm_fv, pm_up_k, upd, pm_v]
        · exact fun i kd hi => pm_fv_up hi
      | q + 3, hf, hw, ht =>
        obtain ⟨a, x, t, rfl, hk, hlen, hw⟩ := pm_pr_s hw
        have ht3 := ht.2.2.2 (by omega)
        refine pm_r_put hk hf hl hfin (by rcases ht3 with ⟨z, hz⟩ | ⟨z, hz⟩ <;> rw [hz] <;> rfl) (by rcases ht3 with ⟨z, hz⟩ | ⟨z, hz⟩ <;> rw [hz] <;> rfl) (pm_fs_set hf ?_ ?_) (show pm_sr S a (ax.getD 1 0) x = _ by unfold pm_sr; rw [hk]) (fun _ _ => rfl) (fun _ _ => rfl) hdg (ih _ _ _ _ _ _ _ h2 hw)
        · exact pm_fv_r hlen
        · exact fun i kd hi => pm_fv_rs hi
    | new i0 =>
      obtain rfl : n = 3 := hn rfl
      have h2 : pm_ckL f pcs nx (pc + 3) is = true := h2
      have hw : k.1 + 1 ≤ R.cells ∧ k.2 + (pm_fks (ax.getD 0 0)).length ≤ R.slots ∧ pm_wp g d R Q Jm nx is ls (.ref S.length :: st) (S ++ [(ax.getD 0 0 + 4, (pm_fks (ax.getD 0 0)).length, List.replicate (pm_fks (ax.getD 0 0)).length none)]) (pm_z I S.length) (pm_zL J S.length) (k.1 + 1, k.2 + (pm_fks (ax.getD 0 0)).length) := hw
      have h1 : (decide (ax.getD 1 9999 < pm_nc.length) && decide (pm_nc.getD (ax.getD 1 9999) (999, 0, 0, 0) = (pm_ow f, i0, ax.getD 0 0, (pm_nc.getD (ax.getD 1 9999) (999, 0, 0, 0)).2.2.2))) = true := h1
      simp only [Bool.and_eq_true, decide_eq_true_eq] at h1
      obtain ⟨e1, e2⟩ := h1
      obtain ⟨hc1, hs1, hw⟩ := hw
      rw [List.getD_eq_getElem?_getD, List.getElem?_eq_getElem e1, Option.getD_some] at e2
      have hm := List.all_eq_true.mp pm_nc_all _ (List.getElem_mem e1)
      have hb := List.all_eq_true.mp pm_nc_lt _ (List.getElem_mem e1)
      rw [e2] at hm hb
      simp only [decide_eq_true_eq] at hm hb
      exact pm_r_new hb (pm_wIn hm rfl) hc1 hs1 hdg (ih _ _ _ _ _ _ _ h2 hw)
    | newarray t0 =>
      obtain rfl : n = 2 := hn rfl
      have h2 : pm_ckL f pcs nx (pc + 2) is = true := h2
      have hw : pm_i1 (fun n st => ¬ n < 0 ∧ n.toNatClampNeg ≤ 100000 ∧ k.1 + 1 ≤ R.cells ∧ k.2 + n.toNatClampNeg ≤ R.slots ∧ pm_wp g d R Q Jm nx is ls (.ref S.length :: st) (S ++ [(ax.getD 0 0, n.toNatClampNeg, [])]) (pm_z I S.length) (pm_zL J S.length) (k.1 + 1, k.2 + n.toNatClampNeg)) st := hw
      obtain ⟨x, t, rfl, e1, e2, e3, e4, hw⟩ := pm_i1_s hw
      exact pm_r_newa (of_decide_eq_true h1) e1 e2 e3 e4 hdg (ih _ _ _ _ _ _ _ h2 hw)
    | invokevirtual i0 =>
      obtain rfl : n = 3 := hn rfl
      have h2 : pm_ckL f pcs nx (pc + 3) is = true := h2
      have hw : k.1 + ax.getD 3 0 ≤ R.cells ∧ k.2 + ax.getD 4 0 ≤ R.slots ∧ pm_cl2 g d (ax.getD 0 0) (ax.getD 1 0) (ax.getD 5 0) (fun r st S I J => pm_wp g d R Q Jm nx is ls (r.toList ++ st) S I J (k.1 + ax.getD 3 0, k.2 + ax.getD 4 0)) st S I J := hw
      obtain ⟨e1, e2, e3, e4, e5, e6, e7⟩ := pm_ckcf h1
      obtain ⟨hc1, hs1, hn1, hn2, hrc, hC⟩ := hw
      rw [← e3] at hc1 hC
      rw [← e4] at hs1 hC
      rw [e6.resolve_left (by decide)] at hrc
      exact pm_r_call 0 (Or.inl rfl) e1 e2 e7 (by rw [e5]; rfl) hn1 hn2 hrc hC hc1 hs1 hdg (fun r S I J h => ih _ _ _ _ _ _ _ h2 h)
    | invokestatic i0 =>
      obtain rfl : n = 3 := hn rfl
      have h2 : pm_ckL f pcs nx (pc + 3) is = true := h2
      exact pm_sound_static ih h1 h2 hdg hw
    | invokespecial i0 =>
      obtain rfl : n = 3 := hn rfl
      have h2 : pm_ckL f pcs nx (pc + 3) is = true := h2
      generalize hf2 : ax.getD 0 0 = f2
      by_cases hz : f2 = 9999
      · subst hz
        have hw : pm_r1 (fun _ st => st.length ≤ 4 ∧ pm_wp g d R Q Jm nx is ls st S I J k) st := by have hw : (match ax.getD 0 0 with
              | 9999 => pm_r1 (fun _ st => st.length ≤ 4 ∧ pm_wp g d R Q Jm nx is ls st S I J k) st
              | f => k.1 + ax.getD 3 0 ≤ R.cells ∧ k.2 + ax.getD 4 0 ≤ R.slots ∧ pm_cl2 g d f (ax.getD 1 0) (ax.getD 5 0) (fun r st S I J => pm_wp g d R Q Jm nx is ls (r.toList ++ st) S I J (k.1 + ax.getD 3 0, k.2 + ax.getD 4 0)) st S I J) := hw; rw [hf2] at hw; exact hw
        have h1 : (decide (ax.getD 1 9999 < pm_oi.length) && decide (pm_oi.getD (ax.getD 1 9999) (999, 0, 0) = (pm_ow f, i0, (pm_oi.getD (ax.getD 1 9999) (999, 0, 0)).2.2))) = true := by unfold pm_ck1 at h1; rw [hf2] at h1; exact h1
        simp only [Bool.and_eq_true, decide_eq_true_eq] at h1
        obtain ⟨e1, e2⟩ := h1
        rw [List.getD_eq_getElem?_getD, List.getElem?_eq_getElem e1, Option.getD_some] at e2
        have hm := List.all_eq_true.mp pm_oi_all _ (List.getElem_mem e1)
        rw [e2] at hm
        simp only [decide_eq_true_eq] at hm
        obtain ⟨a, t, rfl, hlen, hw⟩ := pm_r1_s hw
        have hob := pm_ob_all
        simp only [Bool.and_eq_true, decide_eq_true_eq] at hob
        intro hR p e s m args below meth c H locs lsA hB hK hP hS hl
        refine W.objInit hB.1 hB.2.1 hB.2.2.2.2.2.1 (hB.2.2.2.2.2.2.1 _ (pm_wIn hm rfl)) (hB.2.2.2.2.2.2.1 _ (pm_wIn hob.1 rfl)) (hB.2.2.2.2.2.2.1 _ (pm_wIn hob.2 rfl)) rfl (hl.1.trans hB.2.2.1.symm) (rest := t.map (pm_v g)) rfl hdg (by have := hR.1; omega) (by have := pm_sum8 t g; have := hR.2.1; show 2 * 0 + _ + 12 ≤ _; omega) ?_
        exact ih _ _ _ _ _ _ _ h2 hw hR p e s m args below meth c H locs lsA hB hK hP hS hl
      · have hw : k.1 + ax.getD 3 0 ≤ R.cells ∧ k.2 + ax.getD 4 0 ≤ R.slots ∧ pm_cl2 g d f2 (ax.getD 1 0) (ax.getD 5 0) (fun r st S I J => pm_wp g d R Q Jm nx is ls (r.toList ++ st) S I J (k.1 + ax.getD 3 0, k.2 + ax.getD 4 0)) st S I J := by
          have hw : (match ax.getD 0 0 with
              | 9999 => pm_r1 (fun _ st => st.length ≤ 4 ∧ pm_wp g d R Q Jm nx is ls st S I J k) st
              | f => k.1 + ax.getD 3 0 ≤ R.cells ∧ k.2 + ax.getD 4 0 ≤ R.slots ∧ pm_cl2 g d f (ax.getD 1 0) (ax.getD 5 0) (fun r st S I J => pm_wp g d R Q Jm nx is ls (r.toList ++ st) S I J (k.1 + ax.getD 3 0, k.2 + ax.getD 4 0)) st S I J) := hw
          rw [hf2] at hw
          split at hw
          · exact absurd rfl hz
          · exact hw
        have h1 : pm_ckc f i0 2 ax = true := by
          unfold pm_ck1 at h1
          simp only [] at h1
          rw [hf2] at h1
          split at h1
          · exact absurd rfl hz
          · exact h1
        obtain ⟨e1, e2, e3, e4, e5, e6, e7⟩ := pm_ckcf h1
        rw [hf2] at e1 e2 e3 e4 e5 e6 e7
        obtain ⟨hc1, hs1, hn1, hn2, hrc, hC⟩ := hw
        rw [← e3] at hc1 hC
        rw [← e4] at hs1 hC
        rw [e6.resolve_left (by decide)] at hrc
        exact pm_r_call 2 (Or.inr rfl) e1 e2 e7 (by rw [e5]; rfl) hn1 hn2 hrc hC hc1 hs1 hdg (fun r S I J h => ih _ _ _ _ _ _ _ h2 h)
    | ifCond c0 o0 =>
      obtain rfl : n = 3 := hn rfl
      have h2 : pm_ckL f pcs nx (pc + 3) is = true := h2
      have hw : pm_i1 (fun x st => pm_br (pm_cz c0 x) (Jm (ax.getD 0 0) ls st S I J k) (pm_wp g d R Q Jm nx is ls st S I J k)) st := hw
      have h1 := of_decide_eq_true h1
      obtain ⟨x, t, rfl, hw1, hw2⟩ := pm_i1_s hw
      exact pm_r_if hdg h1 (fun h => hJ _ _ _ _ _ _ _ (hw1 h)) (fun h => ih _ _ _ _ _ _ _ h2 (hw2 h))
    | if_icmp c0 o0 =>
      obtain rfl : n = 3 := hn rfl
      have h2 : pm_ckL f pcs nx (pc + 3) is = true := h2
      have hw : pm_i2 (fun x y st => pm_br (pm_cc c0 x y) (Jm (ax.getD 0 0) ls st S I J k) (pm_wp g d R Q Jm nx is ls st S I J k)) st := hw
      have h1 := of_decide_eq_true h1
      obtain ⟨x, y, t, rfl, hw1, hw2⟩ := pm_i2_s hw
      exact pm_r_icmp hdg h1 (fun h => hJ _ _ _ _ _ _ _ (hw1 h)) (fun h => ih _ _ _ _ _ _ _ h2 (hw2 h))
    | goto o0 =>
      obtain rfl : n = 3 := hn rfl
      have hw : Jm (ax.getD 0 0) ls st S I J k := hw
      have h1 := of_decide_eq_true h1
      exact pm_lift (fun _ _ _ _ _ _ _ _ _ _ _ _ B _ w => lv_goto B.1 B.2.1 hdg h1 w) (hJ _ _ _ _ _ _ _ hw)
    | tableswitch d0 lo hi offs =>
      have hw : pm_i1 (fun x st => pm_sw (Jm (ax.getD 0 0) ls st S I J k) x ((ax.drop 1).mapIdx (fun i b => (lo + (i : Int), Jm b ls st S I J k)))) st := hw
      exact pm_sound_ts hJ h1 hdg hw
    | lookupswitch d0 ps =>
      have hw : pm_i1 (fun x st => pm_sw (Jm (ax.getD 0 0) ls st S I J k) x ((ps.toList.zip (ax.drop 1)).map (fun q => (q.1.1, Jm q.2 ls st S I J k)))) st := hw
      exact pm_sound_ls hJ h1 hdg hw
    | ireturn =>
      obtain rfl : n = 1 := hn rfl
      have hw : pm_i1 (fun x st => st = [] ∧ (ax.getD 0 0 = 1 → x = 0 ∨ x = 1) ∧ Q (some (.int x)) S I J) st := hw
      obtain ⟨x, t, rfl, rfl, hz, hq⟩ := pm_i1_s hw
      have h1 : pm_rt f = some .int ∨ (pm_rt f = some .boolean ∧ ax.getD 0 0 = 1) := of_decide_eq_true h1
      intro hR p e s m args below meth c H locs lsA hB hK hP hS hl
      refine W.widen hR.2.2.1 hR.2.2.2 ?_
      rcases h1 with h1 | ⟨h1, h3⟩
      · exact W.iret hB.1 hB.2.1 (hB.2.2.2.1.trans h1) (fun t ht hW => ⟨some (.int x), S, I, J, rfl, hq, by rw [ht]; exact hP, hS.F ht⟩) hS.2.2 hdg (hlocks := hB.2.2.2.2.1)
      · exact W.zret (ty := .boolean) hB.1 hB.2.1 (hB.2.2.2.1.trans h1) (by rcases hz h3 with rfl | rfl <;> rfl) (fun t ht hW => ⟨some (.int x), S, I, J, rfl, hq, by rw [ht]; exact hP, hS.F ht⟩) hS.2.2 hdg (hlocks := hB.2.2.2.2.1)
    | lreturn =>
      obtain rfl : n = 1 := hn rfl
      have hw : pm_l1 (fun x st => st = [] ∧ Q (some (.long x)) S I J) st := hw
      obtain ⟨x, t, rfl, rfl, hq⟩ := pm_l1_s hw
      have h1 : pm_rt f = some .long := of_decide_eq_true h1
      intro hR p e s m args below meth c H locs lsA hB hK hP hS hl
      refine W.widen hR.2.2.1 hR.2.2.2 ?_
      exact W.lret hB.1 hB.2.1 (hB.2.2.2.1.trans h1) (fun t ht hW => ⟨some (.long x), S, I, J, rfl, hq, by rw [ht]; exact hP, hS.F ht⟩) hS.2.2 hdg (hlocks := hB.2.2.2.2.1)
    | return_ =>
      obtain rfl : n = 1 := hn rfl
      have hw : st = [] ∧ Q none S I J := hw
      obtain ⟨rfl, hq⟩ := hw
      have h1 : pm_rt f = none := of_decide_eq_true h1
      intro hR p e s m args below meth c H locs lsA hB hK hP hS hl
      refine W.widen hR.2.2.1 hR.2.2.2 ?_
      exact W.vret hB.1 hB.2.1 (hB.2.2.2.1.trans h1) (fun t ht hW => ⟨none, S, I, J, rfl, hq, by rw [ht]; exact hP, hS.F ht⟩) hS.2.2 hdg (hlocks := hB.2.2.2.2.1)
    | _ => exact False.elim hw
end PMS
/-! ===== how it is used ===== -/
theorem pm_ck_at {f : Nat} {K : List pm_Bl} (h : pm_ck f K = true) {b : Nat} {q : pm_Bl} (hb : K[b]? = some q) : pm_ckb f K b = true := by
  unfold pm_ckb
  rw [hb]
  exact List.all_eq_true.mp h q (List.mem_of_getElem? hb)
section PMG
variable {g : pm_G} {d f : Nat} {R : Room} {Q : pm_Po} {S : pm_SS} {I : pm_MI} {J : pm_ML} {k : Nat × Nat}
/-- fewer locals known -/
theorem pm_V.less {pc : Nat} {ls ls' : pm_LS} {st : List Value} (h : ∀ (i : Nat) (v : Value), ls'[i]? = some (some v) → ls[i]? = some (some v)) (w : pm_V g d f R Q pc ls' st S I J k) : pm_V g d f R Q pc ls st S I J k :=
  fun hR p e s m args below meth c H locs lsA hB hK hP hS hl => w hR p e s m args below meth c H locs lsA hB hK hP hS ⟨hl.1, hl.2.1, fun i v hv => hl.2.2 i v (h i v hv)⟩
def pm_le : pm_LS → pm_LS → Prop
  | [], _ => True
  | none :: l, [] => pm_le l []
  | none :: l, _ :: m => pm_le l m
  | some _ :: _, [] => False
  | some v :: l, w :: m => w = some v ∧ pm_le l m
theorem pm_le_s : ∀ {l m : pm_LS}, pm_le l m → ∀ (i : Nat) (v : Value), l[i]? = some (some v) → m[i]? = some (some v)
  | [], _, _, i, v, h => by simp at h
  | none :: l, [], hl, i, v, h => by
    cases i with
    | zero => simp at h
    | succ i =>
      rw [List.getElem?_cons_succ] at h
      have := pm_le_s (l := l) (m := []) hl i v h
      simp at this
  | none :: l, _ :: m, hl, i, v, h => by
    cases i with
    | zero => simp at h
    | succ i =>
      rw [List.getElem?_cons_succ] at h ⊢
      exact pm_le_s (l := l) (m := m) hl i v h
  | some _ :: _, [], hl, _, _, _ => hl.elim
  | some x :: l, w :: m, hl, i, v, h => by
    cases i with
    | zero =>
      rw [List.getElem?_cons_zero] at h ⊢
      cases h
      exact congrArg some hl.1
    | succ i =>
      rw [List.getElem?_cons_succ] at h ⊢
      exact pm_le_s (l := l) (m := m) hl.2 i v h
theorem pm_U.less {K : List pm_Bl} {b : Nat} {ls : pm_LS} {st : List Value} (ls' : pm_LS) (h : pm_le ls' ls) (w : pm_U g d f K R Q b ls' st S I J k) : pm_U g d f K R Q b ls st S I J k := pm_V.less (pm_le_s h) w
/-- block b of method f: by what its instructions do -/
theorem pm_go {K : List pm_Bl} {b pc nx : Nat} {is : List pm_I} {ls : pm_LS} {st : List Value} (hck : pm_ckb f K b = true) (hb : K[b]? = some (pc, nx, is)) (w : pm_wp g d R Q (pm_U g d f K R Q) nx is ls st S I J k) : pm_U g d f K R Q b ls st S I J k := by
  unfold pm_ckb at hck
  rw [hb] at hck
  have e : (K.map (fun b => b.1)).getD b 0 = pc := by rw [List.getD_eq_getElem?_getD, List.getElem?_map, hb]; rfl
  show pm_V g d f R Q ((K.map (fun b => b.1)).getD b 0) ls st S I J k
  rw [e]
  exact pm_sound (Jm := pm_U g d f K R Q) (pcs := K.map (fun b : pm_Bl => b.1)) (fun b ls st S I J k h => h) is pc ls st S I J k hck w
def pm_el : List Value → pm_LS
  | [] => []
  | .long x :: l => some (.long x) :: none :: pm_el l
  | .double x :: l => some (.double x) :: none :: pm_el l
  | v :: l => some v :: pm_el l
theorem pm_el_s : ∀ (l : List Value) (j i : Nat) (v : Value), (pm_el l)[i]? = some (some v) → (j + i, v) ∈ lv_args j l
  | [], j, i, v, h => by simp [pm_el] at h
  | x :: l, j, i, v, h => by
    have one : ∀ (e : pm_el (x :: l) = some x :: pm_el l) (c : ¬ x.category = 2), (j + i, v) ∈ lv_args j (x :: l) := by
      intro e c
      rw [e] at h
      simp only [lv_args, if_neg c]
      cases i with
      | zero =>
        rw [List.getElem?_cons_zero] at h
        cases h
        exact List.mem_cons_self
      | succ i =>
        rw [List.getElem?_cons_succ] at h
        have := pm_el_s l (j + 1) i v h
        rw [show j + (i + 1) = j + 1 + i by omega]
        exact List.mem_cons_of_mem _ this
    have two : ∀ (e : pm_el (x :: l) = some x :: none :: pm_el l) (c : x.category = 2), (j + i, v) ∈ lv_args j (x :: l) := by
      intro e c
      rw [e] at h
      simp only [lv_args, if_pos c]
      match i, h with
      | 0, h =>
        rw [List.getElem?_cons_zero] at h
        cases h
        exact List.mem_cons_self
      | 1, h => simp at h
      | i + 2, h =>
        rw [List.getElem?_cons_succ, List.getElem?_cons_succ] at h
        have := pm_el_s l (j + 2) i v h
        rw [show j + (i + 2) = j + 2 + i by omega]
        exact List.mem_cons_of_mem _ this
    cases x with
    | long y => exact two rfl rfl
    | double y => exact two rfl rfl
    | int y => exact one rfl (by simp [Value.category])
    | float y => exact one rfl (by simp [Value.category])
    | null => exact one rfl (by decide)
    | ref y => exact one rfl (by simp [Value.category])
    | retAddr y => exact one rfl (by simp [Value.category])
/-- a call of method f, by its body's first block -/
theorem pm_ent {K : List pm_Bl} {args : List Value} {q : pm_Bl} (hf : f < 297) (hq : K[0]? = some q) (hz : q.1 = 0) (hd : 1 ≤ d) (hlen : (lg_sl args).length ≤ pm_mx f) (w : pm_U g (d - 1) f K (pm_rm d f) Q 0 (pm_el args ++ List.replicate (pm_mx f - (lg_sl args).length) none) [] S I J (0, 0)) : pm_C g d f args Q S I J := by
  refine pm_ent0 hf hd (fun i v h => ?_) hlen (?_ : pm_V g (d - 1) f (pm_rm d f) Q 0 (pm_el args ++ List.replicate (pm_mx f - (lg_sl args).length) none) [] S I J (0, 0))
  · have h2 : (pm_el args)[i]? = some (some v) := by
      rcases Nat.lt_or_ge i (pm_el args).length with q | q
      · rw [List.getElem?_append_left q] at h
        exact h
      · rw [List.getElem?_append_right q, List.getElem?_replicate] at h
        split at h <;> cases h
    have := pm_el_s args 0 i v h2
    rw [Nat.zero_add] at this
    exact this
  · have e : (K.map (fun b => b.1)).getD 0 0 = 0 := by rw [List.getD_eq_getElem?_getD, List.getElem?_map, hq]; exact hz
    have w2 : pm_V g (d - 1) f (pm_rm d f) Q ((K.map (fun b => b.1)).getD 0 0) _ [] S I J (0, 0) := w
    rw [e] at w2
    exact w2
end PMG
