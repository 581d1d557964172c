section C91q
variable {P ms s : Nat} {c q : Nat → Int64} {need tal : Int64} {mo : Int64 → Nat}
/-! ===== both come to the same ===== -/
def wgU (c q : Nat → Int64) (st : mdT) (T : List Nat) : mdT := wgV (nI T.length) (chM T 0) (chM T 1) (chM T 2) (orL c T) (nI (pc (orL q T))) st
theorem wgT_ex {st : mdT} {T : List Nat} (hms : ms ≤ 60) (hmo : ∀ T, mo (orL c T) = pc (orL q T)) : wgT c need ms mo st T = if exB c q need ms T = true then wgU c q st T else st := by
  have hp := pc_le (x := orL q T)
  unfold wgT wgU exB
  rw [hmo T]
  have e : nI (pc (orL q T)) ≤ nI ms ↔ pc (orL q T) ≤ ms := by rw [nI_leP (by omega) (by omega)]
  by_cases h : opn need (orL c T) = 0 ∧ pc (orL q T) ≤ ms
  · rw [if_pos ⟨h.1, e.mpr h.2⟩, if_pos (by rw [Bool.and_eq_true, decide_eq_true_eq, decide_eq_true_eq]; exact h)]
  · rw [if_neg (fun z => h ⟨z.1, e.mp z.2⟩), if_neg (by rw [Bool.and_eq_true, decide_eq_true_eq, decide_eq_true_eq]; exact h)]
theorem fo_fil (hms : ms ≤ 60) (hmo : ∀ T, mo (orL c T) = pc (orL q T)) : ∀ {L : List (List Nat)} {st : mdT}, L.foldl (wgT c need ms mo) st = (L.filter (exB c q need ms)).foldl (wgU c q) st
  | [], _ => rfl
  | T :: L, st => by
    rw [List.foldl_cons, wgT_ex hms hmo, fo_fil hms hmo, List.filter_cons]
    by_cases h : exB c q need ms T = true
    · rw [if_pos h, if_pos h, List.foldl_cons]
    · rw [if_neg h, if_neg h]
theorem fm_map {α : Type} {f : Nat → α} : ∀ {l : List Nat}, l.flatMap (fun a => [f a]) = l.map f
  | [] => rfl
  | a :: l => by rw [List.flatMap_cons, fm_map, List.map_cons]; rfl
theorem sb_1 {lo : Nat} : sb P 1 lo = L1 lo (P - lo) := by
  rw [sb, L1]
  exact fm_map
theorem sb_2 {lo : Nat} : sb P 2 lo = L2 P lo (P - lo) := by
  rw [sb, L2]
  congr 1
  funext a
  rw [sb_1, L1, List.map_map]
  rfl
theorem sb_3 {lo : Nat} : sb P 3 lo = L3 P lo (P - lo) := by
  rw [sb, L3]
  congr 1
  funext a
  rw [sb_2, L2, List.map_flatMap, L3m]
  congr 1
  funext b
  rw [L2i, List.map_map]
  rfl
theorem fiS_sb {st : mdT} (W : mdT → List Nat → mdT) : fiS P W st = sgS W (nI 3) (sb P 3 0) (sgS W (nI 2) (sb P 2 0) (sgS W (nI 1) (sb P 1 0) (W st []))) := by
  rw [sb_3, sb_2, sb_1, Nat.sub_zero]
  rfl
theorem fU_1 : ∀ (L : List (List Nat)) (st : mdT), (L.foldl (wgU c q) st).1 = st.1 + nI L.length
  | [], st => by
    show st.1 = st.1 + 0
    rw [Int32.add_zero]
  | T :: L, st => by
    rw [List.foldl_cons, fU_1 L, List.length_cons]
    show st.1 + 1 + nI L.length = _
    rw [Int32.add_assoc, Nat.add_comm, ← nI_add]
    rfl
theorem fU_on {k : Nat} : ∀ (L : List (List Nat)) (st : mdT), (L.foldl (wgU c q) st).2.2.2.2 k = st.2.2.2.2 k + nI (L.countP (fun T => tb (orL c T) k))
  | [], st => by
    show _ = st.2.2.2.2 k + 0
    rw [Int32.add_zero]
    rfl
  | T :: L, st => by
    rw [List.foldl_cons, fU_on L]
    show st.2.2.2.2 k + (if tb (orL c T) k = true then 1 else 0) + _ = _
    rw [List.countP_cons, Int32.add_assoc]
    by_cases h : tb (orL c T) k = true
    · rw [if_pos h, if_pos h, Nat.add_comm, ← nI_add]
      rfl
    · rw [if_neg h, if_neg h, Int32.zero_add]
      rfl
theorem fU_sz : ∀ (L : List (List Nat)) (st : mdT), L ≠ [] → (∀ T, T ∈ L → T.length = s) → (L.foldl (wgU c q) st).2.2.1 = nI s
  | [], _, h, _ => absurd rfl h
  | [T], st, _, h => by
    show nI T.length = nI s
    rw [h T List.mem_cons_self]
  | T :: U :: L, st, _, h => by
    rw [List.foldl_cons]
    exact fU_sz (U :: L) _ (by simp) (fun V hV => h V (List.mem_cons_of_mem _ hV))
def rkQ (q : Nat → Int64) (T : List Nat) : Nat := rkT (pc (orL q T)) T
theorem cdr2_lt {T : List Nat} (h3 : T.length ≤ 3) (hT : ∀ x, x ∈ T → x < 256) : cdr 2 T < 16777216 := by
  have c1 := cdr_lt T 3 h3 hT
  have e3 : (256 : Nat) ^ 3 = 16777216 := by decide
  rw [e3] at c1
  exact c1
def okT (T : List Nat) : Prop := T.length ≤ 3 ∧ ∀ x, x ∈ T → x < 160
theorem okT.cd {T : List Nat} (h : okT T) : cdr 2 T < 16777216 := cdr2_lt h.1 (fun x hx => by have := h.2 x hx; omega)
theorem rkQ_lt {T : List Nat} (h : okT T) : rkQ q T < 2 ^ 62 := by
  have := h.cd
  have := pc_le (x := orL q T)
  unfold rkQ rkT
  omega
theorem fU_go : ∀ (L : List (List Nat)) (j : Nat) (st : mdT) (Tm : List Nat), st.1 = nI j → 1 ≤ j → j + L.length < 2000000000 → st.2.1 = nI (pc (orL q Tm)) → st.2.2.2.1 = at3 (chM Tm 0) (chM Tm 1) (chM Tm 2) → (∀ T, T ∈ L → cdr 2 Tm < cdr 2 T) → L.Pairwise (fun T U => cdr 2 T < cdr 2 U) → okT Tm → (∀ T, T ∈ L → okT T) → ∃ U, (U = Tm ∨ U ∈ L) ∧ (L.foldl (wgU c q) st).2.1 = nI (pc (orL q U)) ∧ (L.foldl (wgU c q) st).2.2.2.1 = at3 (chM U 0) (chM U 1) (chM U 2) ∧ rkQ q U ≤ rkQ q Tm ∧ ∀ T, T ∈ L → rkQ q U ≤ rkQ q T
  | [], _, _, Tm, _, _, _, h2, h4, _, _, _, _ => ⟨Tm, Or.inl rfl, h2, h4, Nat.le_refl _, fun T hT => by cases hT⟩
  | T :: L, j, st, Tm, h1, hj, hl, h2, h4, h5, h6, h7, h8 => by
    rw [List.pairwise_cons] at h6
    rw [List.length_cons] at hl
    have hpT := pc_le (x := orL q T)
    have hpm := pc_le (x := orL q Tm)
    have oT := h8 T List.mem_cons_self
    have cT := oT.cd
    have cm := h7.cd
    have hlt := h5 T List.mem_cons_self
    have hne : ¬ nI j = 0 := by rw [r_eq (n := 0) (by omega) (by omega)]; omega
    have hs1 : (wgU c q st T).1 = nI (j + 1) := by
      show st.1 + 1 = _
      rw [h1]; exact nI_1 j
    rw [List.foldl_cons]
    by_cases hc : pc (orL q T) < pc (orL q Tm)
    · have hcc : st.1 = 0 ∨ nI (pc (orL q T)) < st.2.1 := Or.inr (by rw [h2, nI_ltP (by omega) (by omega)]; exact hc)
      have hs2 : (wgU c q st T).2.1 = nI (pc (orL q T)) := if_pos hcc
      have hs4 : (wgU c q st T).2.2.2.1 = at3 (chM T 0) (chM T 1) (chM T 2) := if_pos hcc
      obtain ⟨U, u1, u2, u3, u4, u5⟩ := fU_go L (j + 1) (wgU c q st T) T hs1 (by omega) (by omega) hs2 hs4 h6.1 h6.2 oT (fun V hV => h8 V (List.mem_cons_of_mem _ hV))
      refine ⟨U, Or.inr ?_, u2, u3, Nat.le_trans u4 ?_, fun V hV => ?_⟩
      · rcases u1 with u1 | u1
        · rw [u1]; exact List.mem_cons_self
        · exact List.mem_cons_of_mem _ u1
      · unfold rkQ rkT; omega
      · rcases List.mem_cons.mp hV with e | e
        · rw [e]; exact u4
        · exact u5 V e
    · have hcc : ¬ (st.1 = 0 ∨ nI (pc (orL q T)) < st.2.1) := fun z => by
        rcases z with z | z
        · rw [h1] at z; exact hne z
        · rw [h2, nI_ltP (by omega) (by omega)] at z; exact hc z
      have hs2 : (wgU c q st T).2.1 = nI (pc (orL q Tm)) := (if_neg hcc).trans h2
      have hs4 : (wgU c q st T).2.2.2.1 = at3 (chM Tm 0) (chM Tm 1) (chM Tm 2) := (if_neg hcc).trans h4
      obtain ⟨U, u1, u2, u3, u4, u5⟩ := fU_go L (j + 1) (wgU c q st T) Tm hs1 (by omega) (by omega) hs2 hs4 (fun V hV => h5 V (List.mem_cons_of_mem _ hV)) h6.2 h7 (fun V hV => h8 V (List.mem_cons_of_mem _ hV))
      refine ⟨U, ?_, u2, u3, u4, fun V hV => ?_⟩
      · rcases u1 with u1 | u1
        · exact Or.inl u1
        · exact Or.inr (List.mem_cons_of_mem _ u1)
      · rcases List.mem_cons.mp hV with e | e
        · rw [e]
          refine Nat.le_trans u4 ?_
          unfold rkQ rkT; omega
        · exact u5 V e
theorem fU_min {L : List (List Nat)} {st : mdT} (h0 : st.1 = 0) (hne : L ≠ []) (hl : L.length < 1000000000) (hp : L.Pairwise (fun T U => cdr 2 T < cdr 2 U)) (ho : ∀ T, T ∈ L → okT T) : ∃ U, U ∈ L ∧ (L.foldl (wgU c q) st).2.1 = nI (pc (orL q U)) ∧ (L.foldl (wgU c q) st).2.2.2.1 = at3 (chM U 0) (chM U 1) (chM U 2) ∧ ∀ T, T ∈ L → rkQ q U ≤ rkQ q T := by
  cases L with
  | nil => exact absurd rfl hne
  | cons T L =>
    rw [List.pairwise_cons] at hp
    rw [List.length_cons] at hl
    obtain ⟨U, u1, u2, u3, u4, u5⟩ := fU_go (c := c) (q := q) L 1 (wgU c q st T) T (by show st.1 + 1 = _; rw [h0]; rfl) (by omega) (by omega) (if_pos (Or.inl h0)) (if_pos (Or.inl h0)) hp.1 hp.2 (ho T List.mem_cons_self) (fun V hV => ho V (List.mem_cons_of_mem _ hV))
    refine ⟨U, ?_, u2, u3, fun V hV => ?_⟩
    · rcases u1 with u1 | u1
      · rw [u1]; exact List.mem_cons_self
      · exact List.mem_cons_of_mem _ u1
    · rcases List.mem_cons.mp hV with e | e
      · rw [e]; exact u4
      · exact u5 V e
/-! the class -/
theorem tk_on {k : Nat} : ∀ (L : List (List Nat)) (st : seT), (L.foldl (tkS c q tal s) st).2.2 k = st.2.2 k + nI (L.countP (fun T => tb (orL c T &&& tal) k))
  | [], st => by
    show _ = st.2.2 k + 0
    rw [Int32.add_zero]
    rfl
  | T :: L, st => by
    rw [List.foldl_cons, tk_on L, List.countP_cons]
    show (if tb (orL c T &&& tal) k = true then st.2.2 k + 1 else st.2.2 k) + _ = _
    by_cases h : tb (orL c T &&& tal) k = true
    · rw [if_pos h, if_pos h, Int32.add_assoc, Nat.add_comm, ← nI_add]
      rfl
    · rw [if_neg h, if_neg h]
      rfl
def okP (s : Nat) (T : List Nat) : Prop := T.length = s ∧ T.Nodup ∧ ∀ x, x ∈ T → x < 160
theorem okP.so {T : List Nat} (hs : s ≤ 3) (h : okP s T) : okT (srt T) := ⟨by rw [srt_perm.length_eq, h.1]; exact hs, fun x hx => h.2.2 x (srt_perm.mem_iff.mp hx)⟩
theorem orL_srt {f : Nat → Int64} {T : List Nat} : orL f (srt T) = orL f T := orL_mem (fun _ => srt_perm.mem_iff)
theorem okP.rk {T : List Nat} (hs : s ≤ 3) (h : okP s T) : rkF (chT T) s (orL q T) = lN (rkQ q (srt T)) := by
  rw [rkF_eq h.1 hs h.2.1 h.2.2, rkQ, orL_srt]
theorem tk_go (hs : s ≤ 3) : ∀ (L : List (List Nat)) (j : Nat) (st : seT) (r0 : Nat), st.1 = nI j → 1 ≤ j → j + L.length < 2000000000 → st.2.1 = lN r0 → r0 < 2 ^ 62 → (∀ T, T ∈ L → okP s T) → ∃ r, (L.foldl (tkS c q tal s) st).2.1 = lN r ∧ (r = r0 ∨ ∃ T, T ∈ L ∧ r = rkQ q (srt T)) ∧ r ≤ r0 ∧ ∀ T, T ∈ L → r ≤ rkQ q (srt T)
  | [], _, _, r0, _, _, _, h2, _, _ => ⟨r0, h2, Or.inl rfl, Nat.le_refl _, fun T hT => by cases hT⟩
  | T :: L, j, st, r0, h1, hj, hl, h2, h3, ho => by
    rw [List.length_cons] at hl
    have oT := ho T List.mem_cons_self
    have hr := oT.rk (q := q) hs
    have hr2 := rkQ_lt (q := q) (oT.so hs)
    have hne : ¬ nI j = 0 := by rw [r_eq (n := 0) (by omega) (by omega)]; omega
    have hs1 : (tkS c q tal s st T).1 = nI (j + 1) := by
      show st.1 + 1 = _
      rw [h1]; exact nI_1 j
    rw [List.foldl_cons]
    by_cases hc : rkQ q (srt T) < r0
    · have hs2 : (tkS c q tal s st T).2.1 = lN (rkQ q (srt T)) := by
        show (if st.1 = 0 ∨ rkF (chT T) s (orL q T) < st.2.1 then rkF (chT T) s (orL q T) else st.2.1) = _
        rw [hr, h2, if_pos (Or.inr ((lN_lt6 (by omega) (by omega)).mpr hc))]
      obtain ⟨r, u1, u2, u3, u4⟩ := tk_go hs L (j + 1) (tkS c q tal s st T) _ hs1 (by omega) (by omega) hs2 hr2 (fun V hV => ho V (List.mem_cons_of_mem _ hV))
      refine ⟨r, u1, Or.inr ?_, by omega, fun V hV => ?_⟩
      · rcases u2 with u2 | ⟨V, hV, e⟩
        · exact ⟨T, List.mem_cons_self, u2⟩
        · exact ⟨V, List.mem_cons_of_mem _ hV, e⟩
      · rcases List.mem_cons.mp hV with e | e
        · rw [e]; exact u3
        · exact u4 V e
    · have hs2 : (tkS c q tal s st T).2.1 = lN r0 := by
        show (if st.1 = 0 ∨ rkF (chT T) s (orL q T) < st.2.1 then rkF (chT T) s (orL q T) else st.2.1) = _
        rw [hr, h2, if_neg (fun z => by
          rcases z with z | z
          · rw [h1] at z; exact hne z
          · exact hc ((lN_lt6 (by omega) (by omega)).mp z))]
      obtain ⟨r, u1, u2, u3, u4⟩ := tk_go hs L (j + 1) (tkS c q tal s st T) r0 hs1 (by omega) (by omega) hs2 h3 (fun V hV => ho V (List.mem_cons_of_mem _ hV))
      refine ⟨r, u1, ?_, u3, fun V hV => ?_⟩
      · rcases u2 with u2 | ⟨V, hV, e⟩
        · exact Or.inl u2
        · exact Or.inr ⟨V, List.mem_cons_of_mem _ hV, e⟩
      · rcases List.mem_cons.mp hV with e | e
        · rw [e]; omega
        · exact u4 V e
theorem tk_min {L : List (List Nat)} {st : seT} (hs : s ≤ 3) (h0 : st.1 = 0) (hne : L ≠ []) (hl : L.length < 1000000000) (ho : ∀ T, T ∈ L → okP s T) : ∃ T, T ∈ L ∧ (L.foldl (tkS c q tal s) st).2.1 = lN (rkQ q (srt T)) ∧ ∀ V, V ∈ L → rkQ q (srt T) ≤ rkQ q (srt V) := by
  cases L with
  | nil => exact absurd rfl hne
  | cons T L =>
    rw [List.length_cons] at hl
    have oT := ho T List.mem_cons_self
    obtain ⟨r, u1, u2, u3, u4⟩ := tk_go (c := c) (q := q) (tal := tal) hs L 1 (tkS c q tal s st T) (rkQ q (srt T)) (by show st.1 + 1 = _; rw [h0]; rfl) (by omega) (by omega) (by
      show (if st.1 = 0 ∨ rkF (chT T) s (orL q T) < st.2.1 then rkF (chT T) s (orL q T) else st.2.1) = _
      rw [if_pos (Or.inl h0), oT.rk hs]) (rkQ_lt (oT.so hs)) (fun V hV => ho V (List.mem_cons_of_mem _ hV))
    rcases u2 with u2 | ⟨V, hV, e⟩
    · refine ⟨T, List.mem_cons_self, by rw [List.foldl_cons, u1, u2], fun V hV => ?_⟩
      rcases List.mem_cons.mp hV with e | e
      · rw [e]; exact Nat.le_refl _
      · rw [← u2]; exact u4 V e
    · refine ⟨V, List.mem_cons_of_mem _ hV, by rw [List.foldl_cons, u1, e], fun U hU => ?_⟩
      rw [← e]
      rcases List.mem_cons.mp hU with e2 | e2
      · rw [e2]; exact u3
      · exact u4 U e2
end C91q
