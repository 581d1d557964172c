section C91b
/-! ===== sets of places: what both look for ===== -/
theorem so_ext {α : Type} {R : α → α → Prop} (irr : ∀ a b, R a b → R b a → False) : ∀ {l m : List α}, l.Pairwise R → m.Pairwise R → (∀ x, x ∈ l ↔ x ∈ m) → l = m
  | [], [], _, _, _ => rfl
  | [], b :: m, _, _, h => by have := (h b).mpr List.mem_cons_self; cases this
  | a :: l, [], _, _, h => by have := (h a).mp List.mem_cons_self; cases this
  | a :: l, b :: m, h1, h2, h => by
    rw [List.pairwise_cons] at h1 h2
    have ab : a = b := by
      have p := (h a).mp List.mem_cons_self
      have q := (h b).mpr List.mem_cons_self
      rcases List.mem_cons.mp p with p | p
      · exact p
      · rcases List.mem_cons.mp q with q | q
        · exact q.symm
        · exact (irr _ _ (h1.1 b q) (h2.1 a p)).elim
    subst ab
    have e : l = m := so_ext irr h1.2 h2.2 (fun x => by
      constructor
      · intro hx
        have := (h x).mp (List.mem_cons_of_mem _ hx)
        rcases List.mem_cons.mp this with e | e
        · subst e; exact (irr _ _ (h1.1 x hx) (h1.1 x hx)).elim
        · exact e
      · intro hx
        have := (h x).mpr (List.mem_cons_of_mem _ hx)
        rcases List.mem_cons.mp this with e | e
        · subst e; exact (irr _ _ (h2.1 x hx) (h2.1 x hx)).elim
        · exact e)
    rw [e]
def opn (need cov : Int64) : Int64 := need &&& (cov ^^^ -1)
def wn (need cov : Int64) : Int64 := opn need cov &&& -opn need cov
theorem tb_opn {need cov : Int64} {e : Nat} : tb (opn need cov) e = true ↔ tb need e = true ∧ tb cov e = false := by
  unfold opn
  rw [tb_and]
  constructor
  · intro h
    rw [Bool.and_eq_true] at h
    rw [tb_not (tb_lt h.1)] at h
    exact ⟨h.1, by simpa using h.2⟩
  · rintro ⟨h1, h2⟩
    rw [tb_not (tb_lt h1), h1, h2]
    rfl
theorem opn_z {need cov : Int64} : opn need cov = 0 ↔ ∀ e, tb need e = true → tb cov e = true := by
  rw [tb_z]
  constructor
  · intro h e he
    cases hc : tb cov e with
    | true => rfl
    | false => have := h e; rw [tb_opn.mpr ⟨he, hc⟩] at this; cases this
  · intro h e
    cases ho : tb (opn need cov) e with
    | false => rfl
    | true => have := tb_opn.mp ho; rw [h e this.1] at this; cases this.2
def orL (f : Nat → Int64) : List Nat → Int64
  | [] => 0
  | p :: t => f p ||| orL f t
theorem tb_orL {f : Nat → Int64} {e : Nat} : ∀ {T : List Nat}, tb (orL f T) e = true ↔ ∃ p, p ∈ T ∧ tb (f p) e = true
  | [] => by rw [orL, tb_0]; simp
  | p :: t => by
    rw [orL, tb_or, Bool.or_eq_true, tb_orL (T := t)]
    constructor
    · rintro (h | ⟨q, hq, h⟩)
      · exact ⟨p, List.mem_cons_self, h⟩
      · exact ⟨q, List.mem_cons_of_mem _ hq, h⟩
    · rintro ⟨q, hq, h⟩
      rcases List.mem_cons.mp hq with e | e
      · subst e; exact Or.inl h
      · exact Or.inr ⟨q, e, h⟩
theorem orL_mem {f : Nat → Int64} {T U : List Nat} (h : ∀ x, x ∈ T ↔ x ∈ U) : orL f T = orL f U := by
  refine tb_ext (fun e _ => ?_)
  rw [Bool.eq_iff_iff, tb_orL, tb_orL]
  constructor
  · rintro ⟨p, hp, he⟩; exact ⟨p, (h p).mp hp, he⟩
  · rintro ⟨p, hp, he⟩; exact ⟨p, (h p).mpr hp, he⟩
theorem pc_orL {f : Nat → Int64} {T U : List Nat} (h : ∀ x, x ∈ T → x ∈ U) : pc (orL f T) ≤ pc (orL f U) := by
  refine pc_sub (fun e he => ?_)
  rw [tb_orL] at he ⊢
  obtain ⟨p, hp, he⟩ := he
  exact ⟨p, h p hp, he⟩
theorem orL_app {f : Nat → Int64} {x : Int64} : ∀ {T : List Nat} {p : Nat}, x ||| f p ||| orL f T = x ||| orL f (p :: T) := by
  intro T p
  refine tb_ext (fun e _ => ?_)
  rw [orL, tb_or, tb_or, tb_or, tb_or, Bool.or_assoc]
def ufL (P : Nat) (c q : Nat → Int64) (need : Int64) (ms : Nat) : List Nat := (List.range P).filter (fun p => decide (¬ (c p &&& need = 0) ∧ pc (q p) ≤ ms))
/-- the rows of places that the class takes, one behind another -/
def pth (P : Nat) (c q : Nat → Int64) (need : Int64) (ms : Nat) : Nat → Int64 → Int64 → List (List Nat)
  | 0, cov, _ => if opn need cov = 0 then [[]] else []
  | r + 1, cov, mis => (ufL P c q need ms).flatMap (fun p => if ¬ (c p &&& wn need cov = 0) ∧ pc (mis ||| q p) ≤ ms then (pth P c q need ms r (cov ||| c p) (mis ||| q p)).map (fun t => p :: t) else [])
/-- the sets of s places from lo on, in order -/
def sb (P : Nat) : Nat → Nat → List (List Nat)
  | 0, _ => [[]]
  | s + 1, lo => (List.range' lo (P - lo)).flatMap (fun a => (sb P s (a + 1)).map (fun t => a :: t))
def exB (c q : Nat → Int64) (need : Int64) (ms : Nat) (T : List Nat) : Bool := decide (opn need (orL c T) = 0) && decide (pc (orL q T) ≤ ms)
/-- the sets of s places that explain -/
def exA (P : Nat) (c q : Nat → Int64) (need : Int64) (ms s : Nat) : List (List Nat) := (sb P s 0).filter (exB c q need ms)
section
variable {P : Nat} {c q : Nat → Int64} {need : Int64} {ms : Nat}
theorem pth_s {r : Nat} {cov mis : Int64} {T : List Nat} : T ∈ pth P c q need ms (r + 1) cov mis ↔ ∃ p t, T = p :: t ∧ p ∈ ufL P c q need ms ∧ (¬ (c p &&& wn need cov = 0) ∧ pc (mis ||| q p) ≤ ms) ∧ t ∈ pth P c q need ms r (cov ||| c p) (mis ||| q p) := by
  rw [pth, List.mem_flatMap]
  constructor
  · rintro ⟨p, hp, h⟩
    split at h
    · rename_i hc
      obtain ⟨t, ht, e⟩ := List.mem_map.mp h
      exact ⟨p, t, e.symm, hp, hc, ht⟩
    · cases h
  · rintro ⟨p, t, e, hp, hc, ht⟩
    refine ⟨p, hp, ?_⟩
    rw [if_pos hc]
    exact List.mem_map.mpr ⟨t, ht, e.symm⟩
theorem pth_0 {cov mis : Int64} {T : List Nat} : T ∈ pth P c q need ms 0 cov mis ↔ T = [] ∧ opn need cov = 0 := by
  rw [pth]
  split
  · rename_i h; simp [h]
  · rename_i h; simp [h]
theorem wn_tb {cov x : Int64} : ¬ (x &&& wn need cov = 0) ↔ ∃ e, tb x e = true ∧ tb (wn need cov) e = true := by
  rw [tb_nz]
  constructor
  · rintro ⟨e, h⟩; rw [tb_and, Bool.and_eq_true] at h; exact ⟨e, h⟩
  · rintro ⟨e, h⟩; exact ⟨e, by rw [tb_and, Bool.and_eq_true]; exact h⟩
theorem wn_opn {cov : Int64} {e : Nat} (h : tb (wn need cov) e = true) : tb need e = true ∧ tb cov e = false := tb_opn.mp (tb_low.mp h).1
theorem ufL_mem {p : Nat} : p ∈ ufL P c q need ms ↔ p < P ∧ (∃ e, tb (c p) e = true ∧ tb need e = true) ∧ pc (q p) ≤ ms := by
  unfold ufL
  rw [List.mem_filter, List.mem_range, decide_eq_true_eq, tb_nz]
  constructor
  · rintro ⟨h1, ⟨e, h2⟩, h3⟩; rw [tb_and, Bool.and_eq_true] at h2; exact ⟨h1, ⟨e, h2⟩, h3⟩
  · rintro ⟨h1, ⟨e, h2⟩, h3⟩; exact ⟨h1, ⟨e, by rw [tb_and, Bool.and_eq_true]; exact h2⟩, h3⟩
theorem pth_spec : ∀ (r : Nat) (cov mis : Int64) (T : List Nat), pc mis ≤ ms → T ∈ pth P c q need ms r cov mis → T.length = r ∧ T.Nodup ∧ (∀ p, p ∈ T → p < P ∧ ∃ e, tb cov e = false ∧ tb (c p) e = true) ∧ (∀ e, tb need e = true → tb cov e = true ∨ ∃ p, p ∈ T ∧ tb (c p) e = true) ∧ pc (mis ||| orL q T) ≤ ms := by
  intro r
  induction r with
  | zero =>
    intro cov mis T hm h
    obtain ⟨rfl, ho⟩ := pth_0.mp h
    refine ⟨rfl, List.Pairwise.nil, fun p hp => (by cases hp), fun e he => Or.inl (opn_z.mp ho e he), ?_⟩
    have e : mis ||| orL q [] = mis := tb_ext (fun e _ => by rw [tb_or, orL, tb_0, Bool.or_false])
    rw [e]; exact hm
  | succ r ih =>
    intro cov mis T hm h
    obtain ⟨p, t, rfl, hp, ⟨hw, hq⟩, ht⟩ := pth_s.mp h
    obtain ⟨h1, h2, h3, h4, h5⟩ := ih _ _ _ hq ht
    obtain ⟨e, he1, he2⟩ := wn_tb.mp hw
    have hop := wn_opn he2
    refine ⟨by rw [List.length_cons, h1], ?_, ?_, ?_, ?_⟩
    · rw [List.nodup_cons]
      refine ⟨fun hm => ?_, h2⟩
      obtain ⟨_, e2, k1, k2⟩ := h3 p hm
      rw [tb_or, k2, Bool.or_true] at k1
      cases k1
    · intro x hx
      rcases List.mem_cons.mp hx with rfl | hx
      · exact ⟨(ufL_mem.mp hp).1, e, hop.2, he1⟩
      · obtain ⟨k0, e2, k1, k2⟩ := h3 x hx
        rw [tb_or, Bool.or_eq_false_iff] at k1
        exact ⟨k0, e2, k1.1, k2⟩
    · intro e he
      rcases h4 e he with k | ⟨x, hx, k⟩
      · rw [tb_or, Bool.or_eq_true] at k
        rcases k with k | k
        · exact Or.inl k
        · exact Or.inr ⟨p, List.mem_cons_self, k⟩
      · exact Or.inr ⟨x, List.mem_cons_of_mem _ hx, k⟩
    · rw [← orL_app]; exact h5
theorem pth_ex : ∀ (r : Nat) (cov mis : Int64) (T : List Nat), T.length = r → T.Nodup → (∀ p, p ∈ T → p ∈ ufL P c q need ms) → (∀ p p', p ∈ T → p' ∈ T → p ≠ p' → ∀ e, tb (c p) e = true → tb (c p') e = true → False) → (∀ p, p ∈ T → ∃ e, tb need e = true ∧ tb cov e = false ∧ tb (c p) e = true) → (∀ e, tb need e = true → tb cov e = true ∨ ∃ p, p ∈ T ∧ tb (c p) e = true) → pc (mis ||| orL q T) ≤ ms → ∃ U, U ∈ pth P c q need ms r cov mis ∧ U.Perm T := by
  intro r
  induction r with
  | zero =>
    intro cov mis T hl _ _ _ _ hc _
    have : T = [] := List.length_eq_zero_iff.mp hl
    subst this
    refine ⟨[], pth_0.mpr ⟨rfl, opn_z.mpr fun e he => ?_⟩, List.Perm.refl _⟩
    rcases hc e he with h | ⟨p, hp, _⟩
    · exact h
    · cases hp
  | succ r ih =>
    intro cov mis T hl hn hu hdj hx hc hm
    have hne : ∃ a, a ∈ T := by
      cases T with
      | nil => cases hl
      | cons a t => exact ⟨a, List.mem_cons_self⟩
    obtain ⟨a, ha⟩ := hne
    obtain ⟨ea, k1, k2, k3⟩ := hx a ha
    have ho : ¬ opn need cov = 0 := by
      rw [tb_nz]
      exact ⟨ea, tb_opn.mpr ⟨k1, k2⟩⟩
    obtain ⟨w, hw⟩ := low_ex ho
    have hww := wn_opn (need := need) (cov := cov) hw
    obtain ⟨p, hp, hpw⟩ : ∃ p, p ∈ T ∧ tb (c p) w = true := by
      rcases hc w hww.1 with h | h
      · rw [hww.2] at h; cases h
      · exact h
    have hpe : (p :: T.erase p).Perm T := (List.perm_cons_erase hp).symm
    have hn2 : (p :: T.erase p).Nodup := hpe.nodup_iff.mpr hn
    rw [List.nodup_cons] at hn2
    have hq1 : pc (mis ||| q p) ≤ ms := by
      refine Nat.le_trans (pc_sub fun e he => ?_) hm
      rw [tb_or, Bool.or_eq_true] at he ⊢
      rcases he with he | he
      · exact Or.inl he
      · exact Or.inr (tb_orL.mpr ⟨p, hp, he⟩)
    have hsub : ∀ x, x ∈ T.erase p → x ∈ T := fun x hx => List.mem_of_mem_erase hx
    have hne2 : ∀ x, x ∈ T.erase p → x ≠ p := fun x hx e => hn2.1 (e ▸ hx)
    obtain ⟨U, hU, hUp⟩ := ih (cov ||| c p) (mis ||| q p) (T.erase p) (by rw [List.length_erase_of_mem hp, hl]; rfl) hn2.2 (fun x hx => hu x (hsub x hx)) (fun x y hx hy => hdj x y (hsub x hx) (hsub y hy)) (fun x hx' => by
        obtain ⟨e, j1, j2, j3⟩ := hx x (hsub x hx')
        refine ⟨e, j1, ?_, j3⟩
        rw [tb_or, j2, Bool.false_or]
        cases hcp : tb (c p) e with
        | false => rfl
        | true => exact (hdj x p (hsub x hx') hp (hne2 x hx') e j3 hcp).elim) (fun e he => by
        rw [tb_or, Bool.or_eq_true]
        rcases hc e he with h | ⟨x, hx', h⟩
        · exact Or.inl (Or.inl h)
        · by_cases z : x = p
          · subst z; exact Or.inl (Or.inr h)
          · exact Or.inr ⟨x, (List.mem_erase_of_ne z).mpr hx', h⟩) (by
        rw [orL_app, orL_mem (U := T) (fun x => hpe.mem_iff)]
        exact hm)
    exact ⟨p :: U, pth_s.mpr ⟨p, U, rfl, hu p hp, ⟨wn_tb.mpr ⟨w, hpw, hw⟩, hq1⟩, hU⟩, (List.Perm.cons p hUp).trans hpe⟩
theorem pth_inj : ∀ (r : Nat) (cov mis : Int64) (T U : List Nat), pc mis ≤ ms → T ∈ pth P c q need ms r cov mis → U ∈ pth P c q need ms r cov mis → (∀ x, x ∈ T ↔ x ∈ U) → (∀ p p', p ∈ T → p' ∈ T → p ≠ p' → ∀ e, tb (c p) e = true → tb (c p') e = true → False) → T = U := by
  intro r
  induction r with
  | zero =>
    intro cov mis T U _ hT hU _ _
    rw [(pth_0.mp hT).1, (pth_0.mp hU).1]
  | succ r ih =>
    intro cov mis T U hm hT hU h hdj
    have nT := (pth_spec _ _ _ _ hm hT).2.1
    have nU := (pth_spec _ _ _ _ hm hU).2.1
    obtain ⟨p, t, rfl, hp, ⟨hw, hq⟩, ht⟩ := pth_s.mp hT
    obtain ⟨p2, u, rfl, hp2, ⟨hw2, hq2⟩, hu⟩ := pth_s.mp hU
    obtain ⟨e, he1, he2⟩ := wn_tb.mp hw
    obtain ⟨e', he1', he2'⟩ := wn_tb.mp hw2
    have ee : e = e' := low_one he2 he2'
    subst ee
    have pp : p = p2 := Classical.byContradiction fun z => hdj p p2 List.mem_cons_self ((h p2).mpr List.mem_cons_self) z e he1 he1'
    subst pp
    rw [List.nodup_cons] at nT nU
    have e2 : t = u := ih _ _ _ _ hq ht hu (fun x => by
      constructor
      · intro hx
        rcases List.mem_cons.mp ((h x).mp (List.mem_cons_of_mem _ hx)) with z | z
        · subst z; exact absurd hx nT.1
        · exact z
      · intro hx
        rcases List.mem_cons.mp ((h x).mpr (List.mem_cons_of_mem _ hx)) with z | z
        · subst z; exact absurd hx nU.1
        · exact z) (fun a b ha hb => hdj a b (List.mem_cons_of_mem _ ha) (List.mem_cons_of_mem _ hb))
    rw [e2]
theorem ufL_so : (ufL P c q need ms).Pairwise (· < ·) := List.Pairwise.filter _ List.pairwise_lt_range
theorem pth_nodup : ∀ (r : Nat) (cov mis : Int64), (pth P c q need ms r cov mis).Nodup := by
  intro r
  induction r with
  | zero =>
    intro cov mis
    rw [pth]
    split
    · exact List.nodup_cons.mpr ⟨fun h => (by cases h), List.Pairwise.nil⟩
    · exact List.Pairwise.nil
  | succ r ih =>
    intro cov mis
    rw [pth]
    unfold List.Nodup
    rw [List.pairwise_flatMap]
    refine ⟨fun p _ => ?_, ufL_so.imp ?_⟩
    · split
      · rw [List.pairwise_map]
        exact (ih _ _).imp fun h z => h (List.cons.inj z).2
      · exact List.Pairwise.nil
    · intro a b hab x hx y hy e
      subst e
      split at hx
      · split at hy
        · obtain ⟨t, _, e1⟩ := List.mem_map.mp hx
          obtain ⟨u, _, e2⟩ := List.mem_map.mp hy
          rw [← e2] at e1
          have := (List.cons.inj e1).1
          omega
        · cases hy
      · cases hx
theorem sb_mem : ∀ {s lo : Nat} {T : List Nat}, T ∈ sb P s lo ↔ T.length = s ∧ T.Pairwise (· < ·) ∧ ∀ x, x ∈ T → lo ≤ x ∧ x < P := by
  intro s
  induction s with
  | zero =>
    intro lo T
    rw [sb, List.mem_singleton]
    constructor
    · rintro rfl; exact ⟨rfl, List.Pairwise.nil, fun x hx => by cases hx⟩
    · rintro ⟨h, _⟩; exact List.length_eq_zero_iff.mp h
  | succ s ih =>
    intro lo T
    rw [sb, List.mem_flatMap]
    constructor
    · rintro ⟨a, ha, h⟩
      obtain ⟨t, ht, rfl⟩ := List.mem_map.mp h
      rw [List.mem_range'_1] at ha
      obtain ⟨h1, h2, h3⟩ := ih.mp ht
      refine ⟨by rw [List.length_cons, h1], List.pairwise_cons.mpr ⟨fun x hx => by have := h3 x hx; omega, h2⟩, fun x hx => ?_⟩
      rcases List.mem_cons.mp hx with rfl | hx
      · omega
      · have := h3 x hx; omega
    · rintro ⟨h1, h2, h3⟩
      cases T with
      | nil => cases h1
      | cons a t =>
        rw [List.pairwise_cons] at h2
        have ha := h3 a List.mem_cons_self
        refine ⟨a, by rw [List.mem_range'_1]; omega, List.mem_map.mpr ⟨t, ih.mpr ⟨by rw [List.length_cons] at h1; omega, h2.2, fun x hx => ?_⟩, rfl⟩⟩
        have := h2.1 x hx
        have := h3 x (List.mem_cons_of_mem _ hx)
        omega
theorem exB_iff {T : List Nat} : exB c q need ms T = true ↔ (∀ e, tb need e = true → ∃ p, p ∈ T ∧ tb (c p) e = true) ∧ pc (orL q T) ≤ ms := by
  unfold exB
  rw [Bool.and_eq_true, decide_eq_true_eq, decide_eq_true_eq, opn_z]
  constructor
  · rintro ⟨h1, h2⟩; exact ⟨fun e he => tb_orL.mp (h1 e he), h2⟩
  · rintro ⟨h1, h2⟩; exact ⟨fun e he => tb_orL.mpr (h1 e he), h2⟩
theorem exA_mem {s : Nat} {T : List Nat} : T ∈ exA P c q need ms s ↔ (T.length = s ∧ T.Pairwise (· < ·) ∧ ∀ x, x ∈ T → x < P) ∧ (∀ e, tb need e = true → ∃ p, p ∈ T ∧ tb (c p) e = true) ∧ pc (orL q T) ≤ ms := by
  unfold exA
  rw [List.mem_filter, sb_mem, exB_iff]
  constructor
  · rintro ⟨⟨h1, h2, h3⟩, h4⟩; exact ⟨⟨h1, h2, fun x hx => (h3 x hx).2⟩, h4⟩
  · rintro ⟨⟨h1, h2, h3⟩, h4⟩; exact ⟨⟨h1, h2, fun x hx => ⟨Nat.zero_le _, h3 x hx⟩⟩, h4⟩
/-- covers are nested or apart -/
def lamC (P : Nat) (c : Nat → Int64) : Prop := ∀ p p', p < P → p' < P → ∀ e, tb (c p) e = true → tb (c p') e = true → (∀ f, tb (c p) f = true → tb (c p') f = true) ∨ (∀ f, tb (c p') f = true → tb (c p) f = true)
theorem exA_drop {s : Nat} {T : List Nat} (hmin : ∀ s', s' < s → exA P c q need ms s' = []) (hT : T ∈ exA P c q need ms s) {p : Nat} (hp : p ∈ T) (h : ∀ e, tb need e = true → tb (c p) e = true → ∃ p', p' ∈ T ∧ p' ≠ p ∧ tb (c p') e = true) : False := by
  obtain ⟨⟨h1, h2, h3⟩, h4, h5⟩ := exA_mem.mp hT
  have hpos : 0 < T.length := List.length_pos_of_mem hp
  have hm : T.erase p ∈ exA P c q need ms (s - 1) := by
    refine exA_mem.mpr ⟨⟨by rw [List.length_erase_of_mem hp, h1], h2.sublist List.erase_sublist, fun x hx => h3 x (List.mem_of_mem_erase hx)⟩, fun e he => ?_, Nat.le_trans (pc_orL fun x hx => List.mem_of_mem_erase hx) h5⟩
    obtain ⟨x, hx, hxe⟩ := h4 e he
    by_cases z : x = p
    · subst z
      obtain ⟨p', k1, k2, k3⟩ := h e he hxe
      exact ⟨p', (List.mem_erase_of_ne k2).mpr k1, k3⟩
    · exact ⟨x, (List.mem_erase_of_ne z).mpr hx, hxe⟩
  rw [hmin (s - 1) (by omega)] at hm
  cases hm
theorem exA_dis {s : Nat} {T : List Nat} (hl : lamC P c) (hmin : ∀ s', s' < s → exA P c q need ms s' = []) (hT : T ∈ exA P c q need ms s) : (∀ p p', p ∈ T → p' ∈ T → p ≠ p' → ∀ e, tb (c p) e = true → tb (c p') e = true → False) ∧ ∀ p, p ∈ T → ∃ e, tb need e = true ∧ tb (c p) e = true := by
  have h3 := (exA_mem.mp hT).1.2.2
  constructor
  · intro p p' hp hp' hne e h1 h2
    rcases hl p p' (h3 p hp) (h3 p' hp') e h1 h2 with h | h
    · exact exA_drop hmin hT hp (fun e _ he => ⟨p', hp', fun z => hne z.symm, h e he⟩)
    · exact exA_drop hmin hT hp' (fun e _ he => ⟨p, hp, hne, h e he⟩)
  · intro p hp
    refine Classical.byContradiction fun z => exA_drop hmin hT hp (fun e h1 h2 => absurd ⟨e, h1, h2⟩ z)
def srt (T : List Nat) : List Nat := T.mergeSort (fun a b => decide (a ≤ b))
theorem srt_perm {T : List Nat} : (srt T).Perm T := List.mergeSort_perm T _
theorem srt_so {T : List Nat} (h : T.Nodup) : (srt T).Pairwise (· < ·) := by
  have h1 : (srt T).Pairwise (fun a b => decide (a ≤ b) = true) := List.pairwise_mergeSort (fun a b c h1 h2 => by simp only [decide_eq_true_eq] at *; omega) (fun a b => by simp only [Bool.or_eq_true, decide_eq_true_eq]; omega) T
  have h2 : (srt T).Nodup := srt_perm.nodup_iff.mpr h
  refine (h1.and h2).imp ?_
  intro a b h
  have h3 := of_decide_eq_true h.1
  have h4 := h.2
  omega
theorem pth_exA {s : Nat} {T : List Nat} (h : T ∈ pth P c q need ms s 0 0) (h0 : pc 0 ≤ ms) : srt T ∈ exA P c q need ms s := by
  obtain ⟨h1, h2, h3, h4, h5⟩ := pth_spec _ _ _ _ h0 h
  have hm : ∀ x, x ∈ srt T ↔ x ∈ T := fun x => srt_perm.mem_iff
  refine exA_mem.mpr ⟨⟨by rw [srt_perm.length_eq, h1], srt_so h2, fun x hx => (h3 x ((hm x).mp hx)).1⟩, fun e he => ?_, ?_⟩
  · rcases h4 e he with k | ⟨p, hp, k⟩
    · rw [tb_0] at k; cases k
    · exact ⟨p, (hm p).mpr hp, k⟩
  · rw [orL_mem hm]
    have e : (0 : Int64) ||| orL q T = orL q T := tb_ext (fun e _ => by rw [tb_or, tb_0, Bool.false_or])
    rw [e] at h5; exact h5
/-- both find the same sets, each once -/
theorem comb {s : Nat} (hl : lamC P c) (hmin : ∀ s', s' < s → exA P c q need ms s' = []) : ((pth P c q need ms s 0 0).map srt).Perm (exA P c q need ms s) := by
  have h0 : pc 0 ≤ ms ∨ ms < pc 0 := by omega
  have hpc0 : pc 0 = 0 := by decide +kernel
  have h0 : pc 0 ≤ ms := by omega
  have hnA : (exA P c q need ms s).Nodup := by
    unfold exA
    refine List.Pairwise.filter _ ?_
    have key : ∀ s lo, (sb P s lo).Nodup := by
      intro s
      induction s with
      | zero => intro lo; rw [sb]; exact List.nodup_cons.mpr ⟨fun h => (by cases h), List.Pairwise.nil⟩
      | succ s ih =>
        intro lo
        rw [sb]
        unfold List.Nodup
        rw [List.pairwise_flatMap]
        refine ⟨fun p _ => ?_, (List.pairwise_lt_range' (s := lo) (n := P - lo)).imp ?_⟩
        · rw [List.pairwise_map]
          exact (ih _).imp fun h z => h (List.cons.inj z).2
        · intro a b hab x hx y hy e
          subst e
          obtain ⟨t, _, e1⟩ := List.mem_map.mp hx
          obtain ⟨u, _, e2⟩ := List.mem_map.mp hy
          rw [← e2] at e1
          have := (List.cons.inj e1).1
          omega
    exact key s 0
  have hnB : ((pth P c q need ms s 0 0).map srt).Nodup := by
    unfold List.Nodup
    rw [List.pairwise_map]
    refine (pth_nodup (P := P) (c := c) (q := q) (need := need) (ms := ms) s 0 0).imp_of_mem ?_
    intro T U hT hU hne e
    have hA := pth_exA hT h0
    have hd := (exA_dis hl hmin hA).1
    have hm : ∀ x, x ∈ srt T ↔ x ∈ T := fun x => srt_perm.mem_iff
    refine hne (pth_inj s 0 0 T U h0 hT hU (fun x => ?_) (fun p p' hp hp' => hd p p' ((hm p).mpr hp) ((hm p').mpr hp')))
    rw [← hm x, e]
    exact srt_perm.mem_iff
  refine (List.perm_ext_iff_of_nodup hnB hnA).mpr (fun T => ?_)
  constructor
  · intro h
    obtain ⟨U, hU, rfl⟩ := List.mem_map.mp h
    exact pth_exA hU h0
  · intro hT
    obtain ⟨⟨h1, h2, h3⟩, h4, h5⟩ := exA_mem.mp hT
    obtain ⟨hd, hx⟩ := exA_dis hl hmin hT
    have hn : T.Nodup := h2.imp fun h => by omega
    have e0 : (0 : Int64) ||| orL q T = orL q T := tb_ext (fun e _ => by rw [tb_or, tb_0, Bool.false_or])
    obtain ⟨U, hU, hp⟩ := pth_ex (P := P) (c := c) (q := q) (need := need) (ms := ms) s 0 0 T h1 hn (fun p hp => by
        obtain ⟨e, k1, k2⟩ := hx p hp
        refine ufL_mem.mpr ⟨h3 p hp, ⟨e, k2, k1⟩, Nat.le_trans (pc_sub fun e he => ?_) h5⟩
        exact tb_orL.mpr ⟨p, hp, he⟩) hd (fun p hp => by
        obtain ⟨e, k1, k2⟩ := hx p hp
        exact ⟨e, k1, tb_0, k2⟩) (fun e he => Or.inr (h4 e he)) (by rw [e0]; exact h5)
    refine List.mem_map.mpr ⟨U, hU, ?_⟩
    have hnU : U.Nodup := hp.nodup_iff.mpr hn
    exact so_ext (R := (· < ·)) (fun a b h1 h2 => by omega) (srt_so hnU) h2 (fun x => by rw [srt_perm.mem_iff, hp.mem_iff])
end
/-! ===== the least of them ===== -/
def cdr : Nat → List Nat → Nat
  | _, [] => 0
  | w, a :: t => a * 256 ^ w + cdr (w - 1) t
theorem cdr_lt : ∀ (t : List Nat) (w : Nat), t.length ≤ w → (∀ x, x ∈ t → x < 256) → cdr (w - 1) t < 256 ^ w
  | [], w, _, _ => Nat.pow_pos (by omega)
  | a :: t, 0, h, _ => by simp at h
  | a :: t, w + 1, h, hx => by
    have ih := cdr_lt t w (by rw [List.length_cons] at h; omega) (fun x hx' => hx x (List.mem_cons_of_mem _ hx'))
    have ha := hx a List.mem_cons_self
    show a * 256 ^ w + cdr (w - 1) t < 256 ^ (w + 1)
    rw [Nat.pow_succ]
    have : (a + 1) * 256 ^ w ≤ 256 * 256 ^ w := Nat.mul_le_mul_right _ (by omega)
    rw [Nat.add_mul, Nat.one_mul] at this
    rw [Nat.mul_comm (256 ^ w)]
    omega
theorem sb_cd {P : Nat} (hP : P ≤ 256) : ∀ (s w lo : Nat), s ≤ w + 1 → (sb P s lo).Pairwise (fun T U => cdr w T < cdr w U)
  | 0, w, lo, _ => by rw [sb]; exact List.pairwise_cons.mpr ⟨fun x hx => (by cases hx), List.Pairwise.nil⟩
  | s + 1, w, lo, h => by
    rw [sb, List.pairwise_flatMap]
    refine ⟨fun a _ => ?_, (List.pairwise_lt_range' (s := lo) (n := P - lo)).imp ?_⟩
    · rw [List.pairwise_map]
      cases w with
      | zero =>
        have : s = 0 := by omega
        subst this
        rw [sb]
        exact List.pairwise_cons.mpr ⟨fun x hx => (by cases hx), List.Pairwise.nil⟩
      | succ w =>
        refine (sb_cd hP s w (a + 1) (by omega)).imp ?_
        intro T U hTU
        show a * 256 ^ (w + 1) + cdr w T < a * 256 ^ (w + 1) + cdr w U
        omega
    · intro a b hab x hx y hy
      obtain ⟨t, ht, rfl⟩ := List.mem_map.mp hx
      obtain ⟨u, hu, rfl⟩ := List.mem_map.mp hy
      obtain ⟨h1, _, h3⟩ := sb_mem.mp ht
      have k := cdr_lt t w (by omega) (fun x hx => by have := h3 x hx; omega)
      show a * 256 ^ w + cdr (w - 1) t < b * 256 ^ w + cdr (w - 1) u
      have : (a + 1) * 256 ^ w ≤ b * 256 ^ w := Nat.mul_le_mul_right _ hab
      rw [Nat.add_mul, Nat.one_mul] at this
      omega
/-- misses first, then the places -/
def rkT (m : Nat) (T : List Nat) : Nat := m * 16777216 + cdr 2 T
theorem rk_inj {m m' : Nat} {T U : List Nat} (hl : T.length = U.length) (h3 : T.length ≤ 3) (hT : ∀ x, x ∈ T → x < 256) (hU : ∀ x, x ∈ U → x < 256) (h : rkT m T = rkT m' U) : m = m' ∧ T = U := by
  have key : ∀ (w : Nat) (T U : List Nat), T.length = U.length → T.length ≤ w + 1 → (∀ x, x ∈ T → x < 256) → (∀ x, x ∈ U → x < 256) → cdr w T = cdr w U → T = U := by
    intro w T
    induction T generalizing w with
    | nil => intro U hl _ _ _ _; exact (List.length_eq_zero_iff.mp hl.symm).symm
    | cons a t ih =>
      intro U hl h3 hT hU h
      cases U with
      | nil => cases hl
      | cons b u =>
        rw [List.length_cons] at hl h3
        rw [List.length_cons] at hl
        have k1 := cdr_lt t w (by omega) (fun x hx => hT x (List.mem_cons_of_mem _ hx))
        have k2 := cdr_lt u w (by omega) (fun x hx => hU x (List.mem_cons_of_mem _ hx))
        have h : a * 256 ^ w + cdr (w - 1) t = b * 256 ^ w + cdr (w - 1) u := h
        have hp : 0 < 256 ^ w := Nat.pow_pos (by omega)
        have hab : a = b := by
          have e1 : (a * 256 ^ w + cdr (w - 1) t) / 256 ^ w = a := by rw [Nat.mul_comm, Nat.mul_add_div hp, Nat.div_eq_of_lt k1, Nat.add_zero]
          have e2 : (b * 256 ^ w + cdr (w - 1) u) / 256 ^ w = b := by rw [Nat.mul_comm, Nat.mul_add_div hp, Nat.div_eq_of_lt k2, Nat.add_zero]
          rw [← e1, ← e2, h]
        subst hab
        cases w with
        | zero =>
          have h1 : t = [] := List.length_eq_zero_iff.mp (by omega)
          have h2 : u = [] := List.length_eq_zero_iff.mp (by omega)
          rw [h1, h2]
        | succ w =>
          rw [ih w u (by omega) (by omega) (fun x hx => hT x (List.mem_cons_of_mem _ hx)) (fun x hx => hU x (List.mem_cons_of_mem _ hx)) (by simp only [Nat.add_sub_cancel] at h; omega)]
  have c1 := cdr_lt T 3 h3 hT
  have c2 := cdr_lt U 3 (by omega) hU
  have e3 : (256 : Nat) ^ 3 = 16777216 := by decide
  unfold rkT at h
  simp only [Nat.add_one_sub_one, e3] at c1 c2
  have c1 : cdr 2 T < 16777216 := c1
  have c2 : cdr 2 U < 16777216 := c2
  have hm : m = m' := by omega
  exact ⟨hm, key 2 T U hl h3 hT hU (by omega)⟩
end C91b
