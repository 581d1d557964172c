section C91c
variable {g : pm_G} {d : Nat} {Q : pm_Po} {S : pm_SS} {I : pm_MI} {J : pm_ML}
/-! ===== loops over memory that changes ===== -/
theorem lp {α : Type} {U : Nat → α → Prop} (P : Nat → α → Prop) (n : Nat) (hs : ∀ k a, k < n → P k a → (∀ b, P (k + 1) b → U (k + 1) b) → U k a) (he : ∀ a, P n a → U n a) {a : α} (h : P 0 a) : U 0 a := by
  have key : ∀ j k a, k + j = n → P k a → U k a := by
    intro j
    induction j with
    | zero => intro k a e h; have : k = n := by omega
              subst this; exact he a h
    | succ j ih => intro k a e h; exact hs k a (by omega) h (fun b hb => ih (k + 1) b (by omega) hb)
  exact key n 0 a (by omega) h
/-! ===== what may change ===== -/
def frC (I I' : pm_MI) : Prop := (∀ a, a < 42 ∨ 54 ≤ a → I' a = I a) ∧ I' 42 6 = I 42 6
def frCJ (J J' : pm_ML) : Prop := ∀ a, a < 42 ∨ 54 ≤ a → J' a = J a
def frM (I I' : pm_MI) : Prop := (∀ a, a ≠ 68 → a < 104 ∨ 111 < a → I' a = I a) ∧ ∀ j, j ≠ 52 → j ≠ 60 → j ≠ 61 → j ≠ 63 → I' 68 j = I 68 j
def frMJ (J J' : pm_ML) : Prop := (∀ a, a ≠ 68 → a ≠ 108 → J' a = J a) ∧ ∀ j, j ≠ 58 → J' 68 j = J 68 j
theorem frC.rf : frC I I := ⟨fun _ _ => rfl, rfl⟩
theorem frCJ.rf : frCJ J J := fun _ _ => rfl
theorem frM.rf : frM I I := ⟨fun _ _ _ => rfl, fun _ _ _ _ _ => rfl⟩
theorem frMJ.rf : frMJ J J := ⟨fun _ _ _ => rfl, fun _ _ => rfl⟩
theorem frC.tr {I2 I3 : pm_MI} (h : frC I I2) (h2 : frC I2 I3) : frC I I3 := ⟨fun a ha => (h2.1 a ha).trans (h.1 a ha), h2.2.trans h.2⟩
theorem frCJ.tr {J2 J3 : pm_ML} (h : frCJ J J2) (h2 : frCJ J2 J3) : frCJ J J3 := fun a ha => (h2 a ha).trans (h a ha)
theorem frM.tr {I2 I3 : pm_MI} (h : frM I I2) (h2 : frM I2 I3) : frM I I3 := ⟨fun a ha hb => (h2.1 a ha hb).trans (h.1 a ha hb), fun j a b c e => (h2.2 j a b c e).trans (h.2 j a b c e)⟩
theorem frMJ.tr {J2 J3 : pm_ML} (h : frMJ J J2) (h2 : frMJ J2 J3) : frMJ J J3 := ⟨fun a ha hb => (h2.1 a ha hb).trans (h.1 a ha hb), fun j a => (h2.2 j a).trans (h.2 j a)⟩
theorem frM.up {I2 : pm_MI} {a i : Nat} {x : Int32} (h : frM I I2) (ha : 104 ≤ a ∧ a ≤ 111) : frM I (pm_up I2 a i x) := ⟨fun b hb hc => by rw [pm_up_o (by omega)]; exact h.1 b hb hc, fun j p1 p2 p3 p4 => by rw [pm_up_o (by omega)]; exact h.2 j p1 p2 p3 p4⟩
theorem frM.fl {I2 : pm_MI} {i : Nat} {x : Int32} (h : frM I I2) (ha : i = 52 ∨ i = 60 ∨ i = 61 ∨ i = 63) : frM I (pm_up I2 68 i x) := ⟨fun b hb hc => by rw [pm_up_o hb]; exact h.1 b hb hc, fun j p1 p2 p3 p4 => by rw [pm_up_n (by omega)]; exact h.2 j p1 p2 p3 p4⟩
theorem frMJ.up {J2 : pm_ML} {i : Nat} {x : Int64} (h : frMJ J J2) : frMJ J (pm_upL J2 108 i x) := ⟨fun b hb hc => by rw [pm_upL_o hc]; exact h.1 b hb hc, fun j p1 => by rw [pm_upL_o (by omega)]; exact h.2 j p1⟩
theorem frMJ.fl {J2 : pm_ML} {x : Int64} (h : frMJ J J2) : frMJ J (pm_upL J2 68 58 x) := ⟨fun b hb hc => by rw [pm_upL_o hb]; exact h.1 b hb hc, fun j p1 => by rw [pm_upL_n p1]; exact h.2 j p1⟩
/-! ===== the places ===== -/
def mdB (I : pm_MI) (n N m k : Nat) : Bool := (List.range n).any (fun x => decide (I 12 x = nI m ∧ I 14 x = nI k)) || (List.range N).any (fun r => decide ((I 28 (2 * r) = nI m ∨ I 28 (2 * r + 1) = nI m) ∧ I 25 r = nI k))
theorem mdB_iff {n N m k : Nat} : mdB I n N m k = true ↔ (∃ x, x < n ∧ I 12 x = nI m ∧ I 14 x = nI k) ∨ ∃ r, r < N ∧ (I 28 (2 * r) = nI m ∨ I 28 (2 * r + 1) = nI m) ∧ I 25 r = nI k := by
  unfold mdB
  rw [Bool.or_eq_true, List.any_eq_true, List.any_eq_true]
  simp only [List.mem_range, decide_eq_true_eq]
def dsc (b : Nat → Bool) : Nat → List Nat
  | 0 => []
  | k + 1 => if b k = true then k :: dsc b k else dsc b k
theorem dsc_mem {b : Nat → Bool} {x : Nat} : ∀ {k : Nat}, x ∈ dsc b k ↔ x < k ∧ b x = true
  | 0 => by simp [dsc]
  | k + 1 => by
    rw [dsc]
    by_cases h : b k = true
    · rw [if_pos h, List.mem_cons, dsc_mem (k := k)]
      constructor
      · rintro (e | e)
        · subst e; exact ⟨by omega, h⟩
        · exact ⟨by omega, e.2⟩
      · rintro ⟨h1, h2⟩
        by_cases e : x = k
        · exact Or.inl e
        · exact Or.inr ⟨by omega, h2⟩
    · rw [if_neg h, dsc_mem (k := k)]
      constructor
      · rintro ⟨h1, h2⟩; exact ⟨by omega, h2⟩
      · rintro ⟨h1, h2⟩
        by_cases e : x = k
        · subst e; exact absurd h2 h
        · exact ⟨by omega, h2⟩
theorem dsc_so {b : Nat → Bool} : ∀ {k : Nat}, (dsc b k).Pairwise (fun x y => y < x)
  | 0 => List.Pairwise.nil
  | k + 1 => by
    rw [dsc]
    split
    · exact List.pairwise_cons.mpr ⟨fun x hx => (dsc_mem.mp hx).1, dsc_so⟩
    · exact dsc_so
theorem dsc_eq {b : Nat → Bool} {k j : Nat} (h : ∀ x, b x = true → (x < k ↔ x < j)) : dsc b k = dsc b j := so_ext (R := fun x y => y < x) (fun a b h1 h2 => by omega) dsc_so dsc_so (fun x => by
  rw [dsc_mem, dsc_mem]
  constructor
  · rintro ⟨h1, h2⟩; exact ⟨(h x h2).mp h1, h2⟩
  · rintro ⟨h1, h2⟩; exact ⟨(h x h2).mpr h1, h2⟩)
abbrev plT : Type := Int32 × Int32 × Int32 × Int32 × Int64
def cvI (I : pm_MI) (N : Nat) (m k : Int32) : Int64 := itr (fun e a => a ||| (if k ≤ mfr I m 40 (I 25 (e / 2)) (I 28 e) then bitL e else 0)) 0 (2 * N)
def plM (I : pm_MI) (n N m : Nat) : List plT := (dsc (mdB I n N m) 1000).map (fun k => (nI m, nI k, -9, -9, cvI I N (nI m) (nI k)))
def plR (I : pm_MI) (r : Nat) : List plT := [(-9, I 25 r, nI r, 0, bitL (2 * r)), (-9, I 25 r, nI r, 1, bitL (2 * r + 1))]
def plA (I : pm_MI) (n N k : Nat) : List plT := (List.range k).flatMap (plM I n N)
def plB (I : pm_MI) (k : Nat) : List plT := (List.range k).flatMap (plR I)
def plL (I : pm_MI) (n N : Nat) : List plT := plA I n N n ++ plB I N
theorem plA_s {n N k : Nat} : plA I n N (k + 1) = plA I n N k ++ plM I n N k := by unfold plA; rw [List.range_succ, List.flatMap_append, List.flatMap_singleton]
theorem plB_s {k : Nat} : plB I (k + 1) = plB I k ++ plR I k := by unfold plB; rw [List.range_succ, List.flatMap_append, List.flatMap_singleton]
theorem plB_len : ∀ {k : Nat}, (plB I k).length = 2 * k
  | 0 => rfl
  | k + 1 => by rw [plB_s, List.length_append, plB_len]; show 2 * k + 2 = 2 * (k + 1); omega
theorem nd_len {α : Type} [DecidableEq α] : ∀ {l m : List α}, l.Nodup → (∀ x, x ∈ l → x ∈ m) → l.length ≤ m.length
  | [], m, _, _ => Nat.zero_le _
  | a :: l, m, hn, h => by
    rw [List.nodup_cons] at hn
    have ha := h a List.mem_cons_self
    have ih := nd_len (l := l) (m := m.erase a) hn.2 (fun x hx => (List.mem_erase_of_ne (fun (e : x = a) => hn.1 (e ▸ hx))).mpr (h x (List.mem_cons_of_mem _ hx)))
    rw [List.length_erase_of_mem ha] at ih
    have := List.length_pos_of_mem ha
    rw [List.length_cons]
    omega
theorem sp_len {f : Nat → Int32} {K M : Nat} (hM : M ≤ 2000) : ((List.range M).flatMap (fun m => (List.range K).filter (fun x => decide (f x = nI m)))).length ≤ K := by
  have h := nd_len (l := (List.range M).flatMap (fun m => (List.range K).filter (fun x => decide (f x = nI m)))) (m := List.range K) (by
    unfold List.Nodup
    rw [List.pairwise_flatMap]
    refine ⟨fun a _ => List.Pairwise.filter _ List.nodup_range, (List.pairwise_lt_range (n := M)).imp_of_mem ?_⟩
    intro a b ha hb hab x hx y hy e
    subst e
    rw [List.mem_range] at ha hb
    have h1 := (List.mem_filter.mp hx).2
    have h2 := (List.mem_filter.mp hy).2
    simp only [decide_eq_true_eq] at h1 h2
    have := nI_inj (by omega) (by omega) (h1.symm.trans h2)
    omega) (fun x hx => by
    obtain ⟨m, _, h⟩ := List.mem_flatMap.mp hx
    exact (List.mem_filter.mp h).1)
  rw [List.length_range] at h
  exact h
theorem fm_len {α β : Type} {f : Nat → List α} {g1 g2 g3 : Nat → List β} : ∀ {l : List Nat}, (∀ m, m ∈ l → (f m).length ≤ (g1 m).length + (g2 m).length + (g3 m).length) → (l.flatMap f).length ≤ (l.flatMap g1).length + (l.flatMap g2).length + (l.flatMap g3).length
  | [], _ => Nat.le_refl _
  | a :: l, h => by
    have ih := fm_len (l := l) (fun m hm => h m (List.mem_cons_of_mem _ hm))
    have h1 := h a List.mem_cons_self
    simp only [List.flatMap_cons, List.length_append]
    omega
theorem plA_len {n N k : Nat} (hk : k ≤ 40) : (plA I n N k).length ≤ n + 2 * N := by
  have h := fm_len (f := plM I n N) (g1 := fun m => (List.range n).filter (fun x => decide (I 12 x = nI m))) (g2 := fun m => (List.range N).filter (fun r => decide (I 28 (2 * r) = nI m))) (g3 := fun m => (List.range N).filter (fun r => decide (I 28 (2 * r + 1) = nI m))) (l := List.range k) (fun m _ => by
    unfold plM
    rw [List.length_map]
    have h := nd_len (l := (dsc (mdB I n N m) 1000).map nI) (m := ((List.range n).filter (fun x => decide (I 12 x = nI m))).map (fun x => I 14 x) ++ ((List.range N).filter (fun r => decide (I 28 (2 * r) = nI m))).map (fun r => I 25 r) ++ ((List.range N).filter (fun r => decide (I 28 (2 * r + 1) = nI m))).map (fun r => I 25 r)) (by
      unfold List.Nodup
      rw [List.pairwise_map]
      refine dsc_so.imp_of_mem ?_
      intro a b ha hb hab e
      have h1 := (dsc_mem.mp ha).1
      have h2 := (dsc_mem.mp hb).1
      have := nI_inj (by omega) (by omega) e
      omega) (fun x hx => by
      obtain ⟨y, hy, rfl⟩ := List.mem_map.mp hx
      rw [List.mem_append, List.mem_append, List.mem_map, List.mem_map, List.mem_map]
      rcases mdB_iff.mp (dsc_mem.mp hy).2 with ⟨x, h1, h2, h3⟩ | ⟨r, h1, h2, h3⟩
      · exact Or.inl (Or.inl ⟨x, List.mem_filter.mpr ⟨List.mem_range.mpr h1, decide_eq_true h2⟩, h3⟩)
      · rcases h2 with h2 | h2
        · exact Or.inl (Or.inr ⟨r, List.mem_filter.mpr ⟨List.mem_range.mpr h1, decide_eq_true h2⟩, h3⟩)
        · exact Or.inr ⟨r, List.mem_filter.mpr ⟨List.mem_range.mpr h1, decide_eq_true h2⟩, h3⟩)
    simp only [List.length_append, List.length_map] at h
    exact h)
  have h1 := sp_len (f := I 12) (K := n) (M := k) (by omega)
  have h2 := sp_len (f := fun r => I 28 (2 * r)) (K := N) (M := k) (by omega)
  have h3 := sp_len (f := fun r => I 28 (2 * r + 1)) (K := N) (M := k) (by omega)
  unfold plA
  omega
theorem plL_len {n N : Nat} (hn : n ≤ 40) (hN : N ≤ 30) : (plL I n N).length ≤ 160 := by
  unfold plL
  have := plA_len (I := I) (n := n) (N := N) (k := n) hn
  rw [List.length_append, plB_len]
  omega
/-! what these rest on -/
theorem mfr_cg {I2 : pm_MI} (h : ∀ a, a < 42 → I2 a = I a) {m : Int32} : ∀ (q : Nat) (on k : Int32), mfr I2 m q on k = mfr I m q on k
  | 0, _, _ => rfl
  | q + 1, on, k => by
    have e : hasM I2 k = hasM I k := by unfold hasM; rw [h 9 (by omega)]
    simp only [mfr, e, h 14 (by omega), h 12 (by omega), mfr_cg h q]
theorem cvI_cg {I2 : pm_MI} (h : ∀ a, a < 42 → I2 a = I a) {N : Nat} {m k : Int32} : cvI I2 N m k = cvI I N m k := by
  unfold cvI
  refine itr_cong (fun e _ b => ?_)
  rw [h 25 (by omega), h 28 (by omega), mfr_cg h]
theorem mdB_cg {I2 : pm_MI} (h : ∀ a, a < 42 → I2 a = I a) {n N m k : Nat} : mdB I2 n N m k = mdB I n N m k := by
  unfold mdB
  rw [h 12 (by omega), h 14 (by omega), h 28 (by omega), h 25 (by omega)]
theorem frM.lo {I2 : pm_MI} (h : frM I I2) : ∀ a, a < 42 → I2 a = I a := fun a ha => h.1 a (by omega) (by omega)
theorem frC.lo {I2 : pm_MI} (h : frC I I2) : ∀ a, a < 42 → I2 a = I a := fun a ha => h.1 a (by omega)
/-- what the metals, runs and the model's copies of them say -/
def wld (I : pm_MI) (n N Ty : Nat) : Prop := (I 9 9 = nI n ∧ n ≤ 40 ∧ fOk (I 12) n) ∧ (I 23 7 = nI N ∧ N ≤ 30) ∧ (I 68 23 = nI n ∧ I 68 38 = nI N ∧ I 68 15 = nI Ty ∧ Ty ≤ 999) ∧ (I 81 = I 12 ∧ I 83 = I 14 ∧ I 93 = I 25) ∧ (∀ r, r < N → (I 96 r = I 28 (2 * r) ∧ I 97 r = I 28 (2 * r + 1)) ∧ (∃ i, i < n ∧ I 28 (2 * r) = nI i) ∧ (∃ i, i < n ∧ I 28 (2 * r + 1) = nI i) ∧ ∃ y, y ≤ Ty ∧ I 25 r = nI y) ∧ (∀ m, m < n → ∃ b, b ≤ Ty ∧ I 14 m = nI b) ∧ (∀ m, m < n → ∀ k b, mdB I n N m k = true → I 14 m = nI b → b ≤ 999 → k < 1000 → b ≤ k ∧ k ≤ Ty)
theorem wld.cg {I2 : pm_MI} {n N Ty : Nat} (w : wld I n N Ty) (h : frM I I2) : wld I2 n N Ty := by
  have e := h.lo
  obtain ⟨⟨a1, a2, a3⟩, ⟨b1, b2⟩, ⟨c1, c2, c3, c4⟩, ⟨d1, d2, d3⟩, e1, f1, g1⟩ := w
  refine ⟨⟨by rw [e 9 (by omega)]; exact a1, a2, by rw [e 12 (by omega)]; exact a3⟩, ⟨by rw [e 23 (by omega)]; exact b1, b2⟩, ⟨by rw [h.2 23 (by decide) (by decide) (by decide) (by decide)]; exact c1, by rw [h.2 38 (by decide) (by decide) (by decide) (by decide)]; exact c2, by rw [h.2 15 (by decide) (by decide) (by decide) (by decide)]; exact c3, c4⟩, ⟨by rw [e 12 (by omega), h.1 81 (by decide) (by decide)]; exact d1, by rw [e 14 (by omega), h.1 83 (by decide) (by decide)]; exact d2, by rw [e 25 (by omega), h.1 93 (by decide) (by decide)]; exact d3⟩, ?_, ?_, ?_⟩
  · rw [h.1 96 (by decide) (by decide), h.1 97 (by decide) (by decide), e 28 (by omega), e 25 (by omega)]; exact e1
  · rw [e 14 (by omega)]; exact f1
  · intro m hm k b; rw [mdB_cg e, e 14 (by omega)]; exact g1 m hm k b
/-! ===== the reference lays the places ===== -/
theorem itr_any {p : Nat → Prop} [DecidablePred p] {a : Int32} (ha : a = 0 ∨ a = 1) : ∀ {n : Nat}, itr (fun k (b : Int32) => if ¬ b = 0 ∨ p k then (1 : Int32) else 0) a n = 0 ∨ itr (fun k (b : Int32) => if ¬ b = 0 ∨ p k then (1 : Int32) else 0) a n = 1
  | 0 => ha
  | n + 1 => by rw [itr_s]; split; exact Or.inr rfl; exact Or.inl rfl
theorem itr_any1 {p : Nat → Prop} [DecidablePred p] {a : Int32} (ha : a = 0 ∨ a = 1) : ∀ {n : Nat}, ¬ itr (fun k (b : Int32) => if ¬ b = 0 ∨ p k then (1 : Int32) else 0) a n = 0 ↔ ¬ a = 0 ∨ ∃ k, k < n ∧ p k
  | 0 => by rw [itr_0]; simp
  | n + 1 => by
    rw [itr_s]
    have ih := itr_any1 (p := p) ha (n := n)
    split
    · rename_i h
      refine ⟨fun _ => ?_, fun _ => by decide⟩
      rcases h with h | h
      · rcases ih.mp h with k | ⟨k, hk, hp⟩
        · exact Or.inl k
        · exact Or.inr ⟨k, by omega, hp⟩
      · exact Or.inr ⟨n, by omega, h⟩
    · rename_i h
      refine ⟨fun z => absurd rfl z, fun z => ?_⟩
      refine absurd ?_ h
      rcases z with z | ⟨k, hk, hp⟩
      · exact Or.inl (ih.mpr (Or.inl z))
      · by_cases e : k = n
        · subst e; exact Or.inr hp
        · exact Or.inl (ih.mpr (Or.inr ⟨k, by omega, hp⟩))
theorem m_madeOn {n N m y Ty : Nat} (hd : 1 ≤ d) (w : wld I n N Ty) (h1 : mdB I n N m y = true → Q (some (.int 1)) SH I J) (h0 : mdB I n N m y = false → Q (some (.int 0)) SH I J) : pm_C g d 253 [.ref 68, .int (nI m), .int (nI y)] Q SH I J := by
  obtain ⟨⟨a1, a2, a3⟩, ⟨b1, b2⟩, ⟨c1, c2, c3, c4⟩, ⟨d1, d2, d3⟩, e1, f1, g1⟩ := w
  have v1 := itr_any (p := fun x => I 12 x = nI m ∧ I 14 x = nI y) (a := 0) (Or.inl rfl) (n := n)
  have v2 := itr_any1 (p := fun x => I 12 x = nI m ∧ I 14 x = nI y) (a := 0) (Or.inl rfl) (n := n)
  have u1 := itr_any (p := fun r => (I 28 (2 * r) = nI m ∨ I 28 (2 * r + 1) = nI m) ∧ I 25 r = nI y) v1 (n := N)
  have u2 := itr_any1 (p := fun r => (I 28 (2 * r) = nI m ∨ I 28 (2 * r + 1) = nI m) ∧ I 25 r = nI y) v1 (n := N)
  have hQ : Q (some (.int (itr (fun r (b : Int32) => if ¬ b = 0 ∨ ((I 28 (2 * r) = nI m ∨ I 28 (2 * r + 1) = nI m) ∧ I 25 r = nI y) then (1 : Int32) else 0) (itr (fun x (b : Int32) => if ¬ b = 0 ∨ (I 12 x = nI m ∧ I 14 x = nI y) then (1 : Int32) else 0) 0 n) N))) SH I J := by
    rcases u1 with z | z
    · rw [z]
      refine h0 ?_
      cases hb : mdB I n N m y with
      | false => rfl
      | true =>
        refine absurd z (u2.mpr ?_)
        rcases mdB_iff.mp hb with ⟨x, q1, q2⟩ | ⟨r, q1, q2⟩
        · exact Or.inl (v2.mpr (Or.inr ⟨x, q1, q2⟩))
        · exact Or.inr ⟨r, q1, q2⟩
    · rw [z]
      refine h1 (mdB_iff.mpr ?_)
      have z2 := u2.mp (by rw [z]; decide)
      rcases z2 with z2 | ⟨r, q1, q2⟩
      · rcases v2.mp z2 with z3 | ⟨x, q1, q2⟩
        · exact absurd rfl z3
        · exact Or.inl ⟨x, q1, q2⟩
      · exact Or.inr ⟨r, q1, q2⟩
  have er : ∀ r, r < N → I 96 r = I 28 (2 * r) ∧ I 97 r = I 28 (2 * r + 1) := fun r hr => (e1 r hr).1
  clear e1 f1 g1 h1 h0 v2 u2 a3
  refine eX12_madeOn (by omega) ?_
  refine bX12_madeOn_0 ?_
  simp (disch := first | omega | decide) only [w_nl0, w_nli, w_nlr, ↓w_ts1, ↓w_ts0, w_rcv, w_rfv, w_cs, true_and, and_true, List.length_nil, List.length_cons, Nat.reduceAdd, Nat.reduceLeDiff, Nat.zero_le, Nat.reduceLT, ↓w_nil, ix_nI, nI_leP, nI_ltP, nI_eqP, nI_1, ↓i_inN, i_inN, l_le, l_lt, l_eq, r_le, r_lt, r_eq, sh68_0, sh68_1, sh68_2, sh68_3, sh68_4, ↓w_iconst, ↓w_istore_3, ↓w_istore_4]
  refine pm_for (f := fun x (b : Int32) => if ¬ b = 0 ∨ (I 12 x = nI m ∧ I 14 x = nI y) then (1 : Int32) else 0) (U := fun k a => UU g (d - 1) 253 kX12_madeOn (pm_rm d 253) Q 1 [some (.ref 68), some (.int (nI m)), some (.int (nI y)), some (.int a), some (.int (nI k))] [] SH I J (0, 0)) n (fun k b hk hb w => ?_) ?_
  · clear hQ er v1 u1 hb
    refine bX12_madeOn_1 ?_
    simp (disch := first | omega | decide) only [w_nl0, w_nli, w_nlr, ↓w_ts1, ↓w_ts0, w_rcv, w_rfv, w_cs, true_and, and_true, List.length_nil, List.length_cons, Nat.reduceAdd, Nat.reduceLeDiff, Nat.zero_le, Nat.reduceLT, ↓w_nil, ix_nI, nI_leP, nI_ltP, nI_eqP, nI_1, ↓i_inN, i_inN, l_le, l_lt, l_eq, r_le, r_lt, r_eq, sh68_0, sh68_1, sh68_2, sh68_3, sh68_4, ↓w_iload_4, ↓w_aload_0, ↓w_gf0, ↓w_icge, ↓w_iload_3, ↓w_ifne, ↓w_gf3, ↓w_iaload, ↓w_iload_1, ↓w_icne, ↓w_iload_2, c1, d1, d2]
    repeat' (first
      | (apply And.intro)
      | (with_reducible refine bX12_madeOn_2 ?_; simp (disch := first | omega | decide) only [w_nl0, w_nli, w_nlr, ↓w_ts1, ↓w_ts0, w_rcv, w_rfv, w_cs, true_and, and_true, List.length_nil, List.length_cons, Nat.reduceAdd, Nat.reduceLeDiff, Nat.zero_le, Nat.reduceLT, ↓w_nil, ix_nI, nI_leP, nI_ltP, nI_eqP, nI_1, ↓i_inN, i_inN, l_le, l_lt, l_eq, r_le, r_lt, r_eq, sh68_0, sh68_1, sh68_2, sh68_3, sh68_4, ↓w_iconst, ↓w_istore_3, ↓w_istore_4, ↓w_iload_4, ↓w_aload_0, ↓w_gf0, ↓w_icge, ↓w_iload_3, ↓w_ifne, ↓w_gf3, ↓w_iaload, ↓w_iload_1, ↓w_icne, ↓w_iload_2, ↓w_goto, ↓w_iinc_4, ↓w_iceq, ↓w_zret, d1, d2])
      | (with_reducible refine bX12_madeOn_3 ?_; simp (disch := first | omega | decide) only [w_nl0, w_nli, w_nlr, ↓w_ts1, ↓w_ts0, w_rcv, w_rfv, w_cs, true_and, and_true, List.length_nil, List.length_cons, Nat.reduceAdd, Nat.reduceLeDiff, Nat.zero_le, Nat.reduceLT, ↓w_nil, ix_nI, nI_leP, nI_ltP, nI_eqP, nI_1, ↓i_inN, i_inN, l_le, l_lt, l_eq, r_le, r_lt, r_eq, sh68_0, sh68_1, sh68_2, sh68_3, sh68_4, ↓w_iconst, ↓w_istore_3, ↓w_istore_4, ↓w_iload_4, ↓w_aload_0, ↓w_gf0, ↓w_icge, ↓w_iload_3, ↓w_ifne, ↓w_gf3, ↓w_iaload, ↓w_iload_1, ↓w_icne, ↓w_iload_2, ↓w_goto, ↓w_iinc_4, ↓w_iceq, ↓w_zret, d1, d2])
      | (with_reducible refine bX12_madeOn_4 ?_; simp (disch := first | omega | decide) only [w_nl0, w_nli, w_nlr, ↓w_ts1, ↓w_ts0, w_rcv, w_rfv, w_cs, true_and, and_true, List.length_nil, List.length_cons, Nat.reduceAdd, Nat.reduceLeDiff, Nat.zero_le, Nat.reduceLT, ↓w_nil, ix_nI, nI_leP, nI_ltP, nI_eqP, nI_1, ↓i_inN, i_inN, l_le, l_lt, l_eq, r_le, r_lt, r_eq, sh68_0, sh68_1, sh68_2, sh68_3, sh68_4, ↓w_iconst, ↓w_istore_3, ↓w_istore_4, ↓w_iload_4, ↓w_aload_0, ↓w_gf0, ↓w_icge, ↓w_iload_3, ↓w_ifne, ↓w_gf3, ↓w_iaload, ↓w_iload_1, ↓w_icne, ↓w_iload_2, ↓w_goto, ↓w_iinc_4, ↓w_iceq, ↓w_zret, d1, d2])
      | (simp only [w_in])
      | (intro _))
    all_goals grind
  · generalize itr (fun x (b : Int32) => if ¬ b = 0 ∨ (I 12 x = nI m ∧ I 14 x = nI y) then (1 : Int32) else 0) 0 n = z at v1 u1 hQ ⊢
    refine bX12_madeOn_1 ?_
    simp (disch := first | omega | decide) only [w_nl0, w_nli, w_nlr, ↓w_ts1, ↓w_ts0, w_rcv, w_rfv, w_cs, true_and, and_true, List.length_nil, List.length_cons, Nat.reduceAdd, Nat.reduceLeDiff, Nat.zero_le, Nat.reduceLT, ↓w_nil, ix_nI, nI_leP, nI_ltP, nI_eqP, nI_1, ↓i_inN, i_inN, l_le, l_lt, l_eq, r_le, r_lt, r_eq, sh68_0, sh68_1, sh68_2, sh68_3, sh68_4, ↓w_iload_4, ↓w_aload_0, ↓w_gf0, ↓w_icge, ↓w_iload_3, ↓w_ifne, ↓w_gf3, ↓w_iaload, ↓w_iload_1, ↓w_icne, ↓w_iload_2, c1]
    refine ⟨fun _ => ?_, fun z => absurd (Nat.le_refl n) z⟩
    refine bX12_madeOn_5 ?_
    simp (disch := first | omega | decide) only [w_nl0, w_nli, w_nlr, ↓w_ts1, ↓w_ts0, w_rcv, w_rfv, w_cs, true_and, and_true, List.length_nil, List.length_cons, Nat.reduceAdd, Nat.reduceLeDiff, Nat.zero_le, Nat.reduceLT, ↓w_nil, ix_nI, nI_leP, nI_ltP, nI_eqP, nI_1, ↓i_inN, i_inN, l_le, l_lt, l_eq, r_le, r_lt, r_eq, sh68_0, sh68_1, sh68_2, sh68_3, sh68_4, ↓w_iconst, ↓w_istore_4]
    refine pm_for (f := fun r (b : Int32) => if ¬ b = 0 ∨ ((I 28 (2 * r) = nI m ∨ I 28 (2 * r + 1) = nI m) ∧ I 25 r = nI y) then (1 : Int32) else 0) (U := fun k a => UU g (d - 1) 253 kX12_madeOn (pm_rm d 253) Q 6 [some (.ref 68), some (.int (nI m)), some (.int (nI y)), some (.int a), some (.int (nI k))] [] SH I J (0, 0)) N (fun k b hk hb w => ?_) ?_
    · obtain ⟨er1, er2⟩ := er k hk
      clear hQ er v1 u1 hb
      refine bX12_madeOn_6 ?_
      simp (disch := first | omega | decide) only [w_nl0, w_nli, w_nlr, ↓w_ts1, ↓w_ts0, w_rcv, w_rfv, w_cs, true_and, and_true, List.length_nil, List.length_cons, Nat.reduceAdd, Nat.reduceLeDiff, Nat.zero_le, Nat.reduceLT, ↓w_nil, ix_nI, nI_leP, nI_ltP, nI_eqP, nI_1, ↓i_inN, i_inN, l_le, l_lt, l_eq, r_le, r_lt, r_eq, sh68_0, sh68_1, sh68_2, sh68_3, sh68_4, ↓w_iload_4, ↓w_aload_0, ↓w_gf0, ↓w_icge, ↓w_iload_3, ↓w_ifne, ↓w_gf3, ↓w_iaload, ↓w_iload_1, ↓w_iceq, ↓w_icne, c2, d3, er1, er2]
      repeat' (first
        | (apply And.intro)
        | (with_reducible refine bX12_madeOn_7 ?_; simp (disch := first | omega | decide) only [w_nl0, w_nli, w_nlr, ↓w_ts1, ↓w_ts0, w_rcv, w_rfv, w_cs, true_and, and_true, List.length_nil, List.length_cons, Nat.reduceAdd, Nat.reduceLeDiff, Nat.zero_le, Nat.reduceLT, ↓w_nil, ix_nI, nI_leP, nI_ltP, nI_eqP, nI_1, ↓i_inN, i_inN, l_le, l_lt, l_eq, r_le, r_lt, r_eq, sh68_0, sh68_1, sh68_2, sh68_3, sh68_4, ↓w_iconst, ↓w_istore_3, ↓w_istore_4, ↓w_iload_4, ↓w_aload_0, ↓w_gf0, ↓w_icge, ↓w_iload_3, ↓w_ifne, ↓w_gf3, ↓w_iaload, ↓w_iload_1, ↓w_icne, ↓w_iload_2, ↓w_goto, ↓w_iinc_4, ↓w_iceq, ↓w_zret, d3, er1, er2])
        | (with_reducible refine bX12_madeOn_8 ?_; simp (disch := first | omega | decide) only [w_nl0, w_nli, w_nlr, ↓w_ts1, ↓w_ts0, w_rcv, w_rfv, w_cs, true_and, and_true, List.length_nil, List.length_cons, Nat.reduceAdd, Nat.reduceLeDiff, Nat.zero_le, Nat.reduceLT, ↓w_nil, ix_nI, nI_leP, nI_ltP, nI_eqP, nI_1, ↓i_inN, i_inN, l_le, l_lt, l_eq, r_le, r_lt, r_eq, sh68_0, sh68_1, sh68_2, sh68_3, sh68_4, ↓w_iconst, ↓w_istore_3, ↓w_istore_4, ↓w_iload_4, ↓w_aload_0, ↓w_gf0, ↓w_icge, ↓w_iload_3, ↓w_ifne, ↓w_gf3, ↓w_iaload, ↓w_iload_1, ↓w_icne, ↓w_iload_2, ↓w_goto, ↓w_iinc_4, ↓w_iceq, ↓w_zret, d3, er1, er2])
        | (with_reducible refine bX12_madeOn_9 ?_; simp (disch := first | omega | decide) only [w_nl0, w_nli, w_nlr, ↓w_ts1, ↓w_ts0, w_rcv, w_rfv, w_cs, true_and, and_true, List.length_nil, List.length_cons, Nat.reduceAdd, Nat.reduceLeDiff, Nat.zero_le, Nat.reduceLT, ↓w_nil, ix_nI, nI_leP, nI_ltP, nI_eqP, nI_1, ↓i_inN, i_inN, l_le, l_lt, l_eq, r_le, r_lt, r_eq, sh68_0, sh68_1, sh68_2, sh68_3, sh68_4, ↓w_iconst, ↓w_istore_3, ↓w_istore_4, ↓w_iload_4, ↓w_aload_0, ↓w_gf0, ↓w_icge, ↓w_iload_3, ↓w_ifne, ↓w_gf3, ↓w_iaload, ↓w_iload_1, ↓w_icne, ↓w_iload_2, ↓w_goto, ↓w_iinc_4, ↓w_iceq, ↓w_zret, d3, er1, er2])
        | (with_reducible refine bX12_madeOn_10 ?_; simp (disch := first | omega | decide) only [w_nl0, w_nli, w_nlr, ↓w_ts1, ↓w_ts0, w_rcv, w_rfv, w_cs, true_and, and_true, List.length_nil, List.length_cons, Nat.reduceAdd, Nat.reduceLeDiff, Nat.zero_le, Nat.reduceLT, ↓w_nil, ix_nI, nI_leP, nI_ltP, nI_eqP, nI_1, ↓i_inN, i_inN, l_le, l_lt, l_eq, r_le, r_lt, r_eq, sh68_0, sh68_1, sh68_2, sh68_3, sh68_4, ↓w_iconst, ↓w_istore_3, ↓w_istore_4, ↓w_iload_4, ↓w_aload_0, ↓w_gf0, ↓w_icge, ↓w_iload_3, ↓w_ifne, ↓w_gf3, ↓w_iaload, ↓w_iload_1, ↓w_icne, ↓w_iload_2, ↓w_goto, ↓w_iinc_4, ↓w_iceq, ↓w_zret, d3, er1, er2])
        | (simp only [w_in])
        | (intro _))
      all_goals grind
    · refine bX12_madeOn_6 ?_
      simp (disch := first | omega | decide) only [w_nl0, w_nli, w_nlr, ↓w_ts1, ↓w_ts0, w_rcv, w_rfv, w_cs, true_and, and_true, List.length_nil, List.length_cons, Nat.reduceAdd, Nat.reduceLeDiff, Nat.zero_le, Nat.reduceLT, ↓w_nil, ix_nI, nI_leP, nI_ltP, nI_eqP, nI_1, ↓i_inN, i_inN, l_le, l_lt, l_eq, r_le, r_lt, r_eq, sh68_0, sh68_1, sh68_2, sh68_3, sh68_4, ↓w_iload_4, ↓w_aload_0, ↓w_gf0, ↓w_icge, ↓w_iload_3, ↓w_ifne, ↓w_gf3, ↓w_iaload, ↓w_iload_1, ↓w_iceq, ↓w_icne, c2]
      repeat' (first
        | (apply And.intro)
        | (with_reducible refine bX12_madeOn_11 ?_; simp (disch := first | omega | decide) only [w_nl0, w_nli, w_nlr, ↓w_ts1, ↓w_ts0, w_rcv, w_rfv, w_cs, true_and, and_true, List.length_nil, List.length_cons, Nat.reduceAdd, Nat.reduceLeDiff, Nat.zero_le, Nat.reduceLT, ↓w_nil, ix_nI, nI_leP, nI_ltP, nI_eqP, nI_1, ↓i_inN, i_inN, l_le, l_lt, l_eq, r_le, r_lt, r_eq, sh68_0, sh68_1, sh68_2, sh68_3, sh68_4, ↓w_iconst, ↓w_istore_3, ↓w_istore_4, ↓w_iload_4, ↓w_aload_0, ↓w_gf0, ↓w_icge, ↓w_iload_3, ↓w_ifne, ↓w_gf3, ↓w_iaload, ↓w_iload_1, ↓w_icne, ↓w_iload_2, ↓w_goto, ↓w_iinc_4, ↓w_iceq, ↓w_zret])
        | (simp only [w_in])
        | (intro _))
      all_goals first | exact hQ | exact u1 | omega | grind
theorem itr_two {α : Type} {f : Nat → α → α} {a : α} : ∀ {n : Nat}, itr f a (2 * n) = itr (fun k b => f (2 * k + 1) (f (2 * k) b)) a n
  | 0 => rfl
  | n + 1 => by rw [show 2 * (n + 1) = 2 * n + 1 + 1 by omega, itr_s, itr_s, itr_s, itr_two]
theorem bitL_f {k : Nat} : (1 : Int64) <<< ((nI k).toInt64 &&& 63) = bitL k := rfl
end C91c
