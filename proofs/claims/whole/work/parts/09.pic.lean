/-! ===== the picture of a heap ===== -/
theorem pm_getD {α : Type} {l : List α} {i : Nat} {d v : α} (h : l.getD i d = v) (hne : d ≠ v) : l[i]? = some v := by
  rw [List.getD_eq_getElem?_getD] at h
  cases hi : l[i]? with
  | none => rw [hi] at h; exact absurd h hne
  | some x => rw [hi] at h; exact congrArg some h
theorem pm_sh {S : pm_SS} {k c : Nat} (h : pm_kd S k = c) (hc : c ≠ 999) : S[k]? = some (c, pm_n S k, (S.getD k (999, 0, [])).2.2) := by
  unfold pm_kd at h
  unfold pm_n
  rw [List.getD_eq_getElem?_getD] at h ⊢
  cases hi : S[k]? with
  | none => rw [hi] at h; exact absurd h.symm hc
  | some x => rw [hi] at h; subst h; rfl
theorem pm_ws_len {g : pm_G} {S : pm_SS} {I : pm_MI} {J : pm_ML} : (pm_ws g S I J).length = S.length := by simp [pm_ws]
theorem pm_ws_get (g : pm_G) (S : pm_SS) (I : pm_MI) (J : pm_ML) (k : Nat) : (pm_ws g S I J)[k]? = S[k]?.map (fun sh => (g.2.1 + k, pm_e g I J k sh)) := by simp [pm_ws, List.getElem?_mapIdx]
theorem pm_ws_at {g : pm_G} {S : pm_SS} {I : pm_MI} {J : pm_ML} {k : Nat} {sh : pm_Sh} (h : S[k]? = some sh) : (pm_ws g S I J)[k]? = some (g.2.1 + k, pm_e g I J k sh) := by
  rw [pm_ws_get, h]; rfl
theorem pm_ws_D (g : pm_G) (S : pm_SS) (I : pm_MI) (J : pm_ML) : va_D (pm_A g) (pm_ws g S I J) := by
  have key : ∀ (k : Nat) (q : Nat × va_E), (pm_ws g S I J)[k]? = some q → q.1 = g.2.1 + k := by
    intro k q h
    rw [pm_ws_get] at h
    cases hs : S[k]? with
    | none => rw [hs] at h; cases h
    | some x => rw [hs] at h; cases h; rfl
  refine ⟨fun i j p q hp hq he => ?_, fun k q h => ?_⟩
  · have h1 := key i p hp
    have h2 := key j q hq
    omega
  · have h1 := key k q h
    show g.2.1 ≤ q.1
    omega
theorem pm_ws_set {g : pm_G} {S S' : pm_SS} {I I' : pm_MI} {J J' : pm_ML} {k : Nat} {e : va_E} {sh : pm_Sh} (hk : k < S.length) (hS : S' = S.set k sh) (he : pm_e g I' J' k sh = e) (hI : ∀ a, a ≠ k → I' a = I a) (hJ : ∀ a, a ≠ k → J' a = J a) : (pm_ws g S I J).set k (g.2.1 + k, e) = pm_ws g S' I' J' := by
  subst hS
  apply List.ext_getElem?
  intro i
  rw [pm_ws_get]
  by_cases hi : i = k
  · subst hi
    rw [List.getElem?_set_self (by rw [pm_ws_len]; exact hk), List.getElem?_set_self hk]
    simp [he]
  · rw [List.getElem?_set_ne (Ne.symm hi), List.getElem?_set_ne (Ne.symm hi), pm_ws_get]
    cases S[i]? with
    | none => rfl
    | some sh2 =>
      simp only [Option.map_some]
      have : pm_e g I J i sh2 = pm_e g I' J' i sh2 := by
        obtain ⟨c, n, rs⟩ := sh2
        match c with
        | 0 => simp [pm_e, hI i hi]
        | 1 => simp [pm_e, hJ i hi]
        | 2 => simp [pm_e, hI i hi]
        | 3 => simp [pm_e, hI i hi]
        | ci + 4 =>
          simp only [pm_e, pm_fs]
          congr 3
          funext j kd
          unfold pm_fv
          rw [hI i hi, hJ i hi]
      rw [this]
theorem pm_set_self {S : pm_SS} {k : Nat} {sh : pm_Sh} (h : S[k]? = some sh) : S = S.set k sh := by
  apply List.ext_getElem?
  intro i
  by_cases hi : i = k
  · subst hi
    rw [List.getElem?_set_self (List.getElem?_eq_some_iff.mp h).1, h]
  · rw [List.getElem?_set_ne (Ne.symm hi)]
theorem pm_lt {S : pm_SS} {k : Nat} {sh : pm_Sh} (h : S[k]? = some sh) : k < S.length := (List.getElem?_eq_some_iff.mp h).1
theorem pm_up_ne {I : pm_MI} {k i : Nat} {x : Int32} : ∀ a, a ≠ k → pm_up I k i x a = I a := fun a h => by simp [pm_up, h]
theorem pm_upL_ne {I : pm_ML} {k i : Nat} {x : Int64} : ∀ a, a ≠ k → pm_upL I k i x a = I a := fun a h => by simp [pm_upL, h]
theorem pm_up_k {I : pm_MI} {k i : Nat} {x : Int32} : pm_up I k i x k = upd (I k) i x := by simp [pm_up]
theorem pm_upL_k {I : pm_ML} {k i : Nat} {x : Int64} : pm_upL I k i x k = vp_updL (I k) i x := by simp [pm_upL]
/-- a field's value changes -/
theorem pm_fs_set {g : pm_G} {I I' : pm_MI} {J J' : pm_ML} {k ci j kd : Nat} {rs rs' : List (Option Nat)} {v : Value} (hj : (pm_fks ci)[j]? = some kd) (hv : pm_fv g I' J' k rs' j kd = v) (hne : ∀ i kd, i ≠ j → pm_fv g I' J' k rs' i kd = pm_fv g I J k rs i kd) : (pm_fs g I J k ci rs).set j v = pm_fs g I' J' k ci rs' := by
  apply List.ext_getElem?
  intro i
  have hl : j < (pm_fs g I J k ci rs).length := by
    simp only [pm_fs, List.length_mapIdx]
    exact (List.getElem?_eq_some_iff.mp hj).1
  by_cases hi : i = j
  · subst hi
    rw [List.getElem?_set_self hl]
    simp [pm_fs, List.getElem?_mapIdx, hj, hv]
  · rw [List.getElem?_set_ne (Ne.symm hi)]
    simp only [pm_fs, List.getElem?_mapIdx]
    cases (pm_fks ci)[i]? with
    | none => rfl
    | some kd2 => simp [hne i kd2 hi]
theorem pm_fs_get {g : pm_G} {I : pm_MI} {J : pm_ML} {k ci j kd : Nat} {rs : List (Option Nat)} (hj : (pm_fks ci)[j]? = some kd) : (pm_fs g I J k ci rs)[j]? = some (pm_fv g I J k rs j kd) := by
  simp [pm_fs, List.getElem?_mapIdx, hj]
theorem pm_fs_len {g : pm_G} {I : pm_MI} {J : pm_ML} {k ci : Nat} {rs : List (Option Nat)} : (pm_fs g I J k ci rs).length = (pm_fks ci).length := by simp [pm_fs]
/-! ===== locals ===== -/
def pm_prs (g : pm_G) (ls : pm_LS) : List (Nat × Value) := ls.zipIdx.filterMap fun q => q.1.map fun v => (q.2, pm_v g v)
theorem pm_prs_mem {g : pm_G} {ls : pm_LS} {i : Nat} {w : Value} : (i, w) ∈ pm_prs g ls ↔ ∃ v, ls[i]? = some (some v) ∧ w = pm_v g v := by
  unfold pm_prs
  rw [List.mem_filterMap]
  constructor
  · rintro ⟨⟨a, n⟩, hm, he⟩
    have h2 : ls[n]? = some a := by simpa using List.mem_zipIdx_iff_getElem?.mp hm
    cases a with
    | none => cases he
    | some v =>
      simp only [Option.map_some, Option.some.injEq, Prod.mk.injEq] at he
      obtain ⟨rfl, rfl⟩ := he
      exact ⟨v, h2, rfl⟩
  · rintro ⟨v, hv, rfl⟩
    exact ⟨(some v, i), List.mem_zipIdx_iff_getElem?.mpr (by simpa using hv), rfl⟩
theorem pm_ls.has {g : pm_G} {nL : Nat} {ls : pm_LS} {a : Array Slot} (h : pm_ls g nL ls a) : lv_has a nL (pm_prs g ls) := by
  refine ⟨h.1, h.2.1, fun q hq => ?_⟩
  obtain ⟨i, w⟩ := q
  obtain ⟨v, hv, rfl⟩ := pm_prs_mem.mp hq
  exact h.2.2 i v hv
theorem pm_v_cat (g : pm_G) (v : Value) : (pm_v g v).category = v.category := by cases v <;> rfl
theorem pm_ok_spec {ls : pm_LS} {i j : Nat} {v : Value} (h : pm_ok ls i = true) (hj : j + 1 = i) (hv : ls[j]? = some (some v)) : ¬ v.category = 2 := by
  subst hj
  have e : ls.getD j none = some v := by rw [List.getD_eq_getElem?_getD, hv]; rfl
  simp only [pm_ok, e] at h
  cases v <;> simp_all [Value.category]
theorem pm_ls.st1 {g : pm_G} {nL i : Nat} {ls : pm_LS} {v : Value} {a : Array Slot} (hok : pm_ok ls i = true) (h : lv_has a nL ((i, pm_v g v) :: (pm_prs g ls).filter (fun q => !(q.1 == i) && !(q.1 + 1 == i && q.2.category == 2)))) : pm_ls g nL (ls.set i (some v)) a := by
  refine ⟨h.1, h.2.1, fun j w hj => ?_⟩
  by_cases hi : j = i
  · subst hi
    have hl : j < ls.length := by
      rcases Nat.lt_or_ge j ls.length with q | q
      · exact q
      · rw [List.set_eq_of_length_le q] at hj
        rw [List.getElem?_eq_none q] at hj
        cases hj
    rw [List.getElem?_set_self hl] at hj
    cases hj
    exact h.2.2 (j, _) List.mem_cons_self
  · rw [List.getElem?_set_ne (Ne.symm hi)] at hj
    refine h.2.2 (j, pm_v g w) (List.mem_cons_of_mem _ (List.mem_filter.mpr ⟨pm_prs_mem.mpr ⟨w, hj, rfl⟩, ?_⟩))
    have h1 : ¬ (j + 1 = i ∧ w.category = 2) := fun q => pm_ok_spec hok q.1 hj q.2
    simp only [Bool.and_eq_true, Bool.not_eq_true', beq_eq_false_iff_ne, ne_eq, hi, not_false_eq_true, true_and, Bool.and_eq_false_iff, pm_v_cat]
    by_cases h2 : j + 1 = i
    · exact Or.inr (fun q => h1 ⟨h2, q⟩)
    · exact Or.inl h2
theorem pm_ls.st2 {g : pm_G} {nL i : Nat} {ls : pm_LS} {v : Value} {a : Array Slot} (hok : pm_ok ls i = true) (h : lv_has a nL ((i, pm_v g v) :: (pm_prs g ls).filter (fun q => !(q.1 == i) && (!(q.1 == i + 1) && !(q.1 + 1 == i && q.2.category == 2))))) : pm_ls g nL ((ls.set i (some v)).set (i + 1) none) a := by
  refine ⟨h.1, h.2.1, fun j w hj => ?_⟩
  by_cases hi1 : j = i + 1
  · subst hi1
    rcases Nat.lt_or_ge (i + 1) (ls.set i (some v)).length with q | q
    · rw [List.getElem?_set_self q] at hj
      cases hj
    · rw [List.set_eq_of_length_le q, List.getElem?_eq_none q] at hj
      cases hj
  · rw [List.getElem?_set_ne (Ne.symm hi1)] at hj
    by_cases hi : j = i
    · subst hi
      have hl : j < ls.length := by
        rcases Nat.lt_or_ge j ls.length with q | q
        · exact q
        · rw [List.set_eq_of_length_le q] at hj
          rw [List.getElem?_eq_none q] at hj
          cases hj
      rw [List.getElem?_set_self hl] at hj
      cases hj
      exact h.2.2 (j, _) List.mem_cons_self
    · rw [List.getElem?_set_ne (Ne.symm hi)] at hj
      refine h.2.2 (j, pm_v g w) (List.mem_cons_of_mem _ (List.mem_filter.mpr ⟨pm_prs_mem.mpr ⟨w, hj, rfl⟩, ?_⟩))
      have h1 : ¬ (j + 1 = i ∧ w.category = 2) := fun q => pm_ok_spec hok q.1 hj q.2
      simp only [Bool.and_eq_true, Bool.not_eq_true', beq_eq_false_iff_ne, ne_eq, hi, hi1, not_false_eq_true, true_and, Bool.and_eq_false_iff, pm_v_cat]
      by_cases h2 : j + 1 = i
      · exact Or.inr (fun q => h1 ⟨h2, q⟩)
      · exact Or.inl h2
theorem pm_lget {ls : pm_LS} {i : Nat} {v : Value} (h : ls.getD i none = some v) : ls[i]? = some (some v) := pm_getD h (by simp)
/-! ===== what the stack must hold ===== -/
theorem pm_i1_s {k : Int32 → List Value → Prop} {st : List Value} (h : pm_i1 k st) : ∃ x t, st = .int x :: t ∧ k x t := by
  unfold pm_i1 at h; split at h
  · exact ⟨_, _, rfl, h⟩
  · exact h.elim
theorem pm_i2_s {k : Int32 → Int32 → List Value → Prop} {st : List Value} (h : pm_i2 k st) : ∃ x y t, st = .int y :: .int x :: t ∧ k x y t := by
  unfold pm_i2 at h; split at h
  · exact ⟨_, _, _, rfl, h⟩
  · exact h.elim
theorem pm_l1_s {k : Int64 → List Value → Prop} {st : List Value} (h : pm_l1 k st) : ∃ x t, st = .long x :: t ∧ k x t := by
  unfold pm_l1 at h; split at h
  · exact ⟨_, _, rfl, h⟩
  · exact h.elim
theorem pm_l2_s {k : Int64 → Int64 → List Value → Prop} {st : List Value} (h : pm_l2 k st) : ∃ x y t, st = .long y :: .long x :: t ∧ k x y t := by
  unfold pm_l2 at h; split at h
  · exact ⟨_, _, _, rfl, h⟩
  · exact h.elim
theorem pm_il_s {k : Int64 → Int32 → List Value → Prop} {st : List Value} (h : pm_il k st) : ∃ x y t, st = .int y :: .long x :: t ∧ k x y t := by
  unfold pm_il at h; split at h
  · exact ⟨_, _, _, rfl, h⟩
  · exact h.elim
theorem pm_r1_s {k : Nat → List Value → Prop} {st : List Value} (h : pm_r1 k st) : ∃ a t, st = .ref a :: t ∧ k a t := by
  unfold pm_r1 at h; split at h
  · exact ⟨_, _, rfl, h⟩
  · exact h.elim
theorem pm_a1_s {k : Nat → List Value → Prop} {k2 : List Value → Prop} {st : List Value} (h : pm_a1 k k2 st) : (∃ a t, st = .ref a :: t ∧ k a t) ∨ ∃ t, st = .null :: t ∧ k2 t := by
  unfold pm_a1 at h; split at h
  · exact Or.inl ⟨_, _, rfl, h⟩
  · exact Or.inr ⟨_, rfl, h⟩
  · exact h.elim
theorem pm_a2_s {k : Nat → Int32 → List Value → Prop} {k2 : Int32 → List Value → Prop} {st : List Value} (h : pm_a2 k k2 st) : (∃ a i t, st = .int i :: .ref a :: t ∧ k a i t) ∨ ∃ i t, st = .int i :: .null :: t ∧ k2 i t := by
  unfold pm_a2 at h; split at h
  · exact Or.inl ⟨_, _, _, rfl, h⟩
  · exact Or.inr ⟨_, _, rfl, h⟩
  · exact h.elim
theorem pm_a3_s {k : Nat → Int32 → Int32 → List Value → Prop} {st : List Value} (h : pm_a3 k st) : ∃ a i x t, st = .int x :: .int i :: .ref a :: t ∧ k a i x t := by
  unfold pm_a3 at h; split at h
  · exact ⟨_, _, _, _, rfl, h⟩
  · exact h.elim
theorem pm_a3L_s {k : Nat → Int32 → Int64 → List Value → Prop} {st : List Value} (h : pm_a3L k st) : ∃ a i x t, st = .long x :: .int i :: .ref a :: t ∧ k a i x t := by
  unfold pm_a3L at h; split at h
  · exact ⟨_, _, _, _, rfl, h⟩
  · exact h.elim
theorem pm_pi_s {k : Nat → Int32 → List Value → Prop} {st : List Value} (h : pm_pi k st) : ∃ a x t, st = .int x :: .ref a :: t ∧ k a x t := by
  unfold pm_pi at h; split at h
  · exact ⟨_, _, _, rfl, h⟩
  · exact h.elim
theorem pm_pl_s {k : Nat → Int64 → List Value → Prop} {st : List Value} (h : pm_pl k st) : ∃ a x t, st = .long x :: .ref a :: t ∧ k a x t := by
  unfold pm_pl at h; split at h
  · exact ⟨_, _, _, rfl, h⟩
  · exact h.elim
theorem pm_pr_s {k : Nat → Nat → List Value → Prop} {st : List Value} (h : pm_pr k st) : ∃ a x t, st = .ref x :: .ref a :: t ∧ k a x t := by
  unfold pm_pr at h; split at h
  · exact ⟨_, _, _, rfl, h⟩
  · exact h.elim
theorem pm_cp_s {k : Nat → Int32 → Nat → Int32 → Int32 → List Value → Prop} {st : List Value} (h : pm_cp k st) : ∃ a sp b dp n t, st = .int n :: .int dp :: .ref b :: .int sp :: .ref a :: t ∧ k a sp b dp n t := by
  unfold pm_cp at h; split at h
  · exact ⟨_, _, _, _, _, _, rfl, h⟩
  · exact h.elim
theorem pm_c1_s {k : Value → List Value → Prop} {st : List Value} (h : pm_c1 k st) : ∃ v t, st = v :: t ∧ v.category = 1 ∧ k v t := by
  unfold pm_c1 at h; split at h
  · exact ⟨_, _, rfl, h⟩
  · exact h.elim
theorem pm_c2_s {k : Value → Value → List Value → Prop} {st : List Value} (h : pm_c2 k st) : ∃ v w t, st = v :: w :: t ∧ v.category = 1 ∧ w.category = 1 ∧ k v w t := by
  unfold pm_c2 at h; split at h
  · exact ⟨_, _, _, rfl, h⟩
  · exact h.elim
theorem pm_li_s {k : Int32 → Prop} {o : Option Value} (h : pm_li k o) : ∃ x, o = some (.int x) ∧ k x := by
  unfold pm_li at h; split at h
  · exact ⟨_, rfl, h⟩
  · exact h.elim
theorem pm_ll_s {k : Int64 → Prop} {o : Option Value} (h : pm_ll k o) : ∃ x, o = some (.long x) ∧ k x := by
  unfold pm_ll at h; split at h
  · exact ⟨_, rfl, h⟩
  · exact h.elim
theorem pm_la_s {k : Value → Prop} {o : Option Value} (h : pm_la k o) : ∃ v, o = some v ∧ (∃ x, v = .ref x ∨ v = .null) ∧ k v := by
  unfold pm_la at h; split at h
  · exact ⟨_, rfl, ⟨_, Or.inl rfl⟩, h⟩
  · exact ⟨_, rfl, ⟨0, Or.inr rfl⟩, h⟩
  · exact h.elim
theorem pm_as_s {k : Nat → List Value → Prop} {st : List Value} (h : pm_as k st) : ∃ a t, st = .ref a :: t ∧ k a t := by
  unfold pm_as at h; split at h
  · exact ⟨_, _, rfl, h⟩
  · exact h.elim
theorem pm_dc_s {b : ByteArray} {pc : Nat} {ins : Instr} (h : pm_dc b pc ins = true) : ∃ n, decode b pc = .ok (ins, n) ∧ (pm_isw ins = false → n = pm_len ins) := by
  unfold pm_dc at h
  split at h
  · rename_i i n heq
    simp only [Bool.and_eq_true, decide_eq_true_eq, Bool.or_eq_true] at h
    obtain ⟨rfl, h2⟩ := h
    refine ⟨n, heq, fun h3 => ?_⟩
    rcases h2 with h2 | h2
    · rw [h3] at h2; cases h2
    · exact h2
  · cases h
