section C79
/-! sets of orders as bits, and what presses can meet: numbers alone -/
def sm (f : Nat → Nat) : Nat → Nat
  | 0 => 0
  | n + 1 => sm f n + f n
theorem sm_congr {f h : Nat → Nat} : ∀ {n}, (∀ k, k < n → f k = h k) → sm f n = sm h n
  | 0, _ => rfl
  | n + 1, e => by rw [sm, sm, sm_congr (fun k hk => e k (by omega)), e n (by omega)]
theorem sm_le {f h : Nat → Nat} : ∀ {n}, (∀ k, k < n → f k ≤ h k) → sm f n ≤ sm h n
  | 0, _ => Nat.le_refl _
  | n + 1, e => by
    have h1 := sm_le (f := f) (h := h) (n := n) (fun k hk => e k (by omega))
    have h2 := e n (by omega)
    simp only [sm]
    omega
theorem sm_bd {f : Nat → Nat} {c : Nat} : ∀ {n}, (∀ k, k < n → f k ≤ c) → sm f n ≤ c * n
  | 0, _ => Nat.le_refl _
  | n + 1, e => by
    have h1 := sm_bd (f := f) (c := c) (n := n) (fun k hk => e k (by omega))
    have h2 := e n (by omega)
    simp only [sm, Nat.mul_add, Nat.mul_one]
    omega
theorem sm_mono {f : Nat → Nat} {m : Nat} : ∀ {n}, m ≤ n → sm f m ≤ sm f n
  | 0, h => by
    have : m = 0 := by omega
    subst this
    exact Nat.le_refl _
  | n + 1, h => by
    by_cases e : m = n + 1
    · subst e; exact Nat.le_refl _
    · have := sm_mono (f := f) (m := m) (n := n) (by omega)
      simp only [sm]
      omega
theorem sm_zero {f : Nat → Nat} : ∀ {n}, (∀ k, k < n → f k = 0) → sm f n = 0
  | 0, _ => rfl
  | n + 1, e => by rw [sm, sm_zero (fun k hk => e k (by omega)), e n (by omega)]
/-- beyond k nothing: the sum ends there -/
theorem sm_cut {f : Nat → Nat} {m : Nat} : ∀ {n}, m ≤ n → (∀ k, m ≤ k → k < n → f k = 0) → sm f n = sm f m
  | 0, h, _ => by
    have : m = 0 := by omega
    subst this
    rfl
  | n + 1, h, e => by
    by_cases q : m = n + 1
    · subst q; rfl
    · rw [sm, sm_cut (n := n) (by omega) (fun k h1 h2 => e k h1 (by omega)), e n (by omega) (by omega), Nat.add_zero]
def oneP (n y : Nat) (dy tk : Nat → Nat) (x : Nat) : Prop := ∀ k, k < n → x.testBit k = true → y + sm (fun i => if x.testBit i = true ∧ dy i ≤ dy k then tk i else 0) n ≤ dy k
theorem one_0 {n y : Nat} {dy tk : Nat → Nat} : oneP n y dy tk 0 := by
  intro k _ h
  rw [Nat.zero_testBit] at h
  exact absurd h (by decide)
theorem one_sub {n y : Nat} {dy tk : Nat → Nat} {a b : Nat} (h : oneP n y dy tk a) (hs : ∀ i, b.testBit i = true → a.testBit i = true) : oneP n y dy tk b := by
  intro k hk hb
  refine Nat.le_trans (Nat.add_le_add_left (sm_le (fun i _ => ?_)) y) (h k hk (hs k hb))
  by_cases c : b.testBit i = true ∧ dy i ≤ dy k
  · rw [if_pos c, if_pos ⟨hs i c.1, c.2⟩]
    exact Nat.le_refl _
  · rw [if_neg c]
    exact Nat.zero_le _
/-- an order of the orders by their days -/
def byD (n : Nat) (dy bd : Nat → Nat) : Prop := (∀ k, k < n → bd k < n) ∧ (∀ a b, a < b → b < n → dy (bd a) ≤ dy (bd b)) ∧ ∀ f : Nat → Nat, sm (fun k => f (bd k)) n = sm f n
theorem byD_surj {n : Nat} {dy bd : Nat → Nat} (h : byD n dy bd) {v : Nat} (hv : v < n) : ∃ k, k < n ∧ bd k = v := by
  refine Classical.byContradiction (fun hc => ?_)
  have e := h.2.2 (fun i => if i = v then 1 else 0)
  have z : sm (fun k => if bd k = v then 1 else 0) n = 0 := sm_zero (fun k hk => if_neg (fun q => hc ⟨k, hk, q⟩))
  have w : sm (fun i => if i = v then 1 else 0) n ≠ 0 := by
    have q : ∀ m, v < m → sm (fun i => if i = v then 1 else 0) m ≠ 0 := by
      intro m
      induction m with
      | zero => intro h; omega
      | succ m ih =>
        intro hm
        simp only [sm]
        by_cases e : m = v
        · rw [if_pos e]; omega
        · have := ih (by omega)
          omega
    exact q n hv
  rw [z] at e
  exact w e.symm
/-- one press meets a set if it makes first what is due first -/
theorem opm_iff {n y : Nat} {dy tk bd : Nat → Nat} {x : Nat} (h : byD n dy bd) : (∀ k, k < n → x.testBit (bd k) = true → y + sm (fun j => if x.testBit (bd j) = true then tk (bd j) else 0) (k + 1) ≤ dy (bd k)) ↔ oneP n y dy tk x := by
  constructor
  · intro ho i hi hb
    obtain ⟨k0, hk0, e0⟩ := byD_surj h hi
    have hp := h.2.2 (fun j => if x.testBit j = true ∧ dy j ≤ dy i then tk j else 0)
    rw [← hp]
    have key : ∀ K, K ≤ n → (∃ k, k < K ∧ x.testBit (bd k) = true ∧ dy (bd k) ≤ dy i) → ∃ k, k < K ∧ dy (bd k) ≤ dy i ∧ y + sm (fun j => if x.testBit (bd j) = true ∧ dy (bd j) ≤ dy i then tk (bd j) else 0) K ≤ dy (bd k) := by
      intro K
      induction K with
      | zero => intro _ ⟨k, hk, _⟩; omega
      | succ K ih =>
        intro hK hex
        by_cases hc : x.testBit (bd K) = true ∧ dy (bd K) ≤ dy i
        · refine ⟨K, by omega, hc.2, ?_⟩
          refine Nat.le_trans (Nat.add_le_add_left (sm_le (fun j hj => ?_)) y) (ho K (by omega) hc.1)
          by_cases hq : x.testBit (bd j) = true
          · rw [if_pos hq]
            split
            · exact Nat.le_refl _
            · exact Nat.zero_le _
          · rw [if_neg hq, if_neg (fun z => hq z.1)]
            exact Nat.le_refl _
        · have hex2 : ∃ k, k < K ∧ x.testBit (bd k) = true ∧ dy (bd k) ≤ dy i := by
            obtain ⟨k, hk, q⟩ := hex
            by_cases e : k = K
            · subst e; exact absurd q hc
            · exact ⟨k, by omega, q⟩
          obtain ⟨k, hk, q1, q2⟩ := ih (by omega) hex2
          refine ⟨k, by omega, q1, ?_⟩
          rw [sm, if_neg hc, Nat.add_zero]
          exact q2
    obtain ⟨k, hk, q1, q2⟩ := key n (Nat.le_refl n) ⟨k0, hk0, by rw [e0]; exact hb, by rw [e0]; exact Nat.le_refl _⟩
    exact Nat.le_trans q2 q1
  · intro ho k hk hb
    have hp := h.2.2 (fun j => if x.testBit j = true ∧ dy j ≤ dy (bd k) then tk j else 0)
    have h1 := ho (bd k) (h.1 k hk) hb
    rw [← hp] at h1
    refine Nat.le_trans (Nat.add_le_add_left ?_ y) h1
    refine Nat.le_trans (sm_le (h := fun j => if x.testBit (bd j) = true ∧ dy (bd j) ≤ dy (bd k) then tk (bd j) else 0) (fun j hj => ?_)) (sm_mono (by omega))
    by_cases hq : x.testBit (bd j) = true
    · have hd : dy (bd j) ≤ dy (bd k) := by
        by_cases e : j = k
        · rw [e]; exact Nat.le_refl _
        · exact h.2.1 j k (by omega) hk
      simp only [hq, hd, and_self, if_true]
      exact Nat.le_refl _
    · rw [if_neg hq]
      exact Nat.zero_le _
abbrev subS (s x : Nat) : Prop := ∀ i, s.testBit i = true → x.testBit i = true
theorem sub_and {s x : Nat} (h : subS s x) : s &&& x = s := by
  refine Nat.eq_of_testBit_eq (fun i => ?_)
  rw [Nat.testBit_and]
  cases hs : s.testBit i
  · rfl
  · rw [h i hs]; rfl
theorem and_sub {p x : Nat} : subS (p &&& x) x := by
  intro i h
  rw [Nat.testBit_and, Bool.and_eq_true] at h
  exact h.2
theorem sub_le {s x : Nat} (h : subS s x) : s ≤ x := by
  rw [← sub_and h]
  exact Nat.and_le_right
theorem sub_xor {s x : Nat} (h : subS s x) : subS (x ^^^ s) x := by
  intro i hi
  rw [Nat.testBit_xor] at hi
  cases hs : s.testBit i
  · rw [hs] at hi
    simpa using hi
  · exact h i hs
theorem xor_xor {s x : Nat} : (x ^^^ s) ^^^ s = x := by rw [Nat.xor_assoc, Nat.xor_self, Nat.xor_zero]
theorem sub_next : ∀ (p q m : Nat), subS p m → subS q m → q < p → q ≤ (p - 1) &&& m := by
  intro p
  induction p using Nat.strongRecOn with
  | ind p ih =>
    intro q m hp hq hlt
    have dv : ∀ a, subS a m → subS (a / 2) (m / 2) := by
      intro a ha i hi
      rw [Nat.testBit_div_two] at hi ⊢
      exact ha _ hi
    have b0 : ∀ a, subS a m → a % 2 ≤ m % 2 := by
      intro a ha
      have h0 := ha 0
      rw [Nat.testBit_zero, Nat.testBit_zero] at h0
      rcases Nat.mod_two_eq_zero_or_one a with e | e
      · omega
      · have := h0 (by rw [e]; rfl)
        simp at this
        omega
    have h2 : ((p - 1) &&& m) / 2 = (p - 1) / 2 &&& m / 2 := Nat.and_div_two
    have h3 : ((p - 1) &&& m) % 2 = (p - 1) % 2 * (m % 2) := by
      have := Nat.and_mod_two_pow (a := p - 1) (b := m) (n := 1)
      rw [Nat.pow_one] at this
      rw [this]
      rcases Nat.mod_two_eq_zero_or_one (p - 1) with e | e <;> rcases Nat.mod_two_eq_zero_or_one m with e2 | e2 <;> rw [e, e2] <;> rfl
    have q0 := b0 q hq
    rcases Nat.mod_two_eq_zero_or_one p with e | e
    · have i1 := ih (p / 2) (by omega) (q / 2) (m / 2) (dv p hp) (dv q hq) (by omega)
      have e1 : (p - 1) / 2 = p / 2 - 1 := by omega
      have e2 : (p - 1) % 2 = 1 := by omega
      rw [e1] at h2
      rw [e2, Nat.one_mul] at h3
      omega
    · have e1 : (p - 1) / 2 = p / 2 := by omega
      have e2 : p / 2 &&& m / 2 = p / 2 := sub_and (dv p hp)
      rw [e1, e2] at h2
      omega
def twoP (n y : Nat) (dy tk : Nat → Nat) (x : Nat) : Prop := ∃ s, subS s x ∧ oneP n y dy tk s ∧ oneP n y dy tk (x ^^^ s)
def threeP (n y : Nat) (dy tk : Nat → Nat) (x : Nat) : Prop := ∃ s, subS s x ∧ oneP n y dy tk s ∧ twoP n y dy tk (x ^^^ s)
theorem two_one {n y : Nat} {dy tk : Nat → Nat} {x : Nat} (h : oneP n y dy tk x) : twoP n y dy tk x := ⟨x, fun _ z => z, h, by rw [Nat.xor_self]; exact one_0⟩
theorem three_one {n y : Nat} {dy tk : Nat → Nat} {x : Nat} (h : oneP n y dy tk x) : threeP n y dy tk x := ⟨x, fun _ z => z, h, by rw [Nat.xor_self]; exact two_one one_0⟩
theorem three_two {n y : Nat} {dy tk : Nat → Nat} {x : Nat} (h : twoP n y dy tk x) : threeP n y dy tk x := by
  obtain ⟨s, h1, h2, h3⟩ := h
  exact ⟨s, h1, h2, two_one h3⟩
theorem low_part {s x l : Nat} (hl : subS l x) (h : s &&& l = 0) : (x ^^^ s) &&& l = l := by
  refine Nat.eq_of_testBit_eq (fun i => ?_)
  have h0 : (s &&& l).testBit i = false := by rw [h, Nat.zero_testBit]
  rw [Nat.testBit_and] at h0
  rw [Nat.testBit_and, Nat.testBit_xor]
  cases hli : l.testBit i
  · simp
  · rw [hli] at h0
    rw [hl i hli]
    simp at h0 ⊢
    exact h0
theorem two_iff {n y : Nat} {dy tk : Nat → Nat} {x l : Nat} (hl : subS l x) (hl0 : l ≠ 0) : twoP n y dy tk x ↔ oneP n y dy tk x ∨ ∃ p, 0 < p ∧ p < x ∧ subS p x ∧ p &&& l ≠ 0 ∧ oneP n y dy tk p ∧ oneP n y dy tk (x ^^^ p) := by
  have fin : ∀ p, subS p x → p &&& l ≠ 0 → oneP n y dy tk p → oneP n y dy tk (x ^^^ p) → oneP n y dy tk x ∨ ∃ p, 0 < p ∧ p < x ∧ subS p x ∧ p &&& l ≠ 0 ∧ oneP n y dy tk p ∧ oneP n y dy tk (x ^^^ p) := by
    intro p h1 h2 h3 h4
    by_cases e : p = x
    · rw [← e]; exact Or.inl h3
    · refine Or.inr ⟨p, ?_, ?_, h1, h2, h3, h4⟩
      · rcases Nat.eq_zero_or_pos p with z | z
        · rw [z, Nat.zero_and] at h2; exact absurd rfl h2
        · exact z
      · have := sub_le h1
        omega
  constructor
  · intro ⟨s, h1, h2, h3⟩
    by_cases c : s &&& l = 0
    · have e := low_part hl c
      refine fin (x ^^^ s) (sub_xor h1) (by rw [e]; exact hl0) h3 ?_
      have : x ^^^ (x ^^^ s) = s := by rw [← Nat.xor_assoc, Nat.xor_self, Nat.zero_xor]
      rw [this]
      exact h2
    · exact fin s h1 c h2 h3
  · intro h
    rcases h with h | ⟨p, _, _, h1, _, h2, h3⟩
    · exact two_one h
    · exact ⟨p, h1, h2, h3⟩
theorem three_iff {n y : Nat} {dy tk : Nat → Nat} {x l : Nat} (hl : subS l x) (hl0 : l ≠ 0) : threeP n y dy tk x ↔ oneP n y dy tk x ∨ ∃ p, 0 < p ∧ p < x ∧ subS p x ∧ p &&& l ≠ 0 ∧ oneP n y dy tk p ∧ twoP n y dy tk (x ^^^ p) := by
  have fin : ∀ p, subS p x → p &&& l ≠ 0 → oneP n y dy tk p → twoP n y dy tk (x ^^^ p) → oneP n y dy tk x ∨ ∃ p, 0 < p ∧ p < x ∧ subS p x ∧ p &&& l ≠ 0 ∧ oneP n y dy tk p ∧ twoP n y dy tk (x ^^^ p) := by
    intro p h1 h2 h3 h4
    by_cases e : p = x
    · rw [← e]; exact Or.inl h3
    · refine Or.inr ⟨p, ?_, ?_, h1, h2, h3, h4⟩
      · rcases Nat.eq_zero_or_pos p with z | z
        · rw [z, Nat.zero_and] at h2; exact absurd rfl h2
        · exact z
      · have := sub_le h1
        omega
  constructor
  · intro ⟨s, h1, h2, s2, h3, h4, h5⟩
    by_cases c : s &&& l = 0
    · have e := low_part hl c
      have hx := sub_xor h1
      have hl2 : subS l (x ^^^ s) := by
        intro i hi
        have : ((x ^^^ s) &&& l).testBit i = true := by rw [e]; exact hi
        rw [Nat.testBit_and, Bool.and_eq_true] at this
        exact this.1
      have hs2 : subS s2 x := fun i hi => hx i (h3 i hi)
      have hd : ∀ i, s.testBit i = true → s2.testBit i = false := by
        intro i hi
        cases q : s2.testBit i
        · rfl
        · have := h3 i q
          rw [Nat.testBit_xor, h1 i hi, hi] at this
          exact absurd this (by decide)
      by_cases c2 : s2 &&& l = 0
      · have e2 := low_part hl2 c2
        have hC : subS ((x ^^^ s) ^^^ s2) x := fun i hi => hx i (sub_xor h3 i hi)
        refine fin _ hC (by rw [e2]; exact hl0) h5 ⟨s, ?_, h2, ?_⟩
        · intro i hi
          have := hd i hi
          rw [Nat.testBit_xor, Nat.testBit_xor, Nat.testBit_xor, h1 i hi, hi, this]
          rfl
        · have : (x ^^^ ((x ^^^ s) ^^^ s2)) ^^^ s = s2 := by
            refine Nat.eq_of_testBit_eq (fun i => ?_)
            simp only [Nat.testBit_xor]
            cases x.testBit i <;> cases s.testBit i <;> cases s2.testBit i <;> rfl
          rw [this]
          exact h4
      · refine fin s2 hs2 c2 h4 ⟨s, ?_, h2, ?_⟩
        · intro i hi
          rw [Nat.testBit_xor, h1 i hi, hd i hi]
          rfl
        · have : (x ^^^ s2) ^^^ s = (x ^^^ s) ^^^ s2 := by
            refine Nat.eq_of_testBit_eq (fun i => ?_)
            simp only [Nat.testBit_xor]
            cases x.testBit i <;> cases s.testBit i <;> cases s2.testBit i <;> rfl
          rw [this]
          exact h5
    · exact fin s h1 c h2 ⟨s2, h3, h4, h5⟩
  · intro h
    rcases h with h | ⟨p, _, _, h1, _, h2, h3⟩
    · exact three_one h
    · exact ⟨p, h1, h2, h3⟩
end C79
