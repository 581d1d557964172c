section C91m
variable {g : pm_G} {d : Nat} {Q : pm_Po} {S : pm_SS} {I : pm_MI} {J : pm_ML}
/-! ===== misses counted by faces and by reports ===== -/
def smQ (f : Nat → Nat) : Nat → Nat
  | 0 => 0
  | n + 1 => smQ f n + f n
theorem smQ_cong {f h : Nat → Nat} : ∀ {n : Nat}, (∀ k, k < n → f k = h k) → smQ f n = smQ h n
  | 0, _ => rfl
  | n + 1, e => by rw [smQ, smQ, smQ_cong (fun k hk => e k (by omega)), e n (by omega)]
theorem smQ_add {f h : Nat → Nat} : ∀ {n : Nat}, smQ (fun k => f k + h k) n = smQ f n + smQ h n
  | 0 => rfl
  | n + 1 => by rw [smQ, smQ, smQ, smQ_add]; omega
theorem smQ_zero : ∀ {n : Nat}, smQ (fun _ => 0) n = 0
  | 0 => rfl
  | n + 1 => by rw [smQ, smQ_zero]
theorem smQ_one {j v : Nat} : ∀ {n : Nat}, smQ (fun k => if k = j then v else 0) n = if j < n then v else 0
  | 0 => by simp [smQ]
  | n + 1 => by
    rw [smQ, smQ_one]
    by_cases h : n = j
    · subst h; rw [if_neg (by omega), if_pos rfl, if_pos (by omega)]; omega
    · rw [if_neg h]
      by_cases h2 : j < n
      · rw [if_pos h2, if_pos (by omega), Nat.add_zero]
      · rw [if_neg h2, if_neg (by omega)]
def nhI (I : pm_MI) (t : Int32) (R j : Nat) : Nat := bct (fun i => decide ((I 40 i = t ∧ I 41 i = 0) ∧ fcI I i = j)) R
def moI (I : pm_MI) (t : Int32) (R : Nat) (x : Int64) : Nat := bct (fun i => decide ((I 40 i = t ∧ I 41 i = 0) ∧ tb x (fcI I i) = true)) R
theorem mo_sum {t : Int32} {x : Int64} {M : Nat} : ∀ {R : Nat}, (∀ i, i < R → fcI I i < M) → smQ (fun k => if tb x k = true then nhI I t R k else 0) M = moI I t R x
  | 0, _ => by
    rw [smQ_cong (h := fun _ => 0) (fun k _ => by show (if tb x k = true then 0 else 0) = 0; split <;> rfl), smQ_zero]
    rfl
  | R + 1, h => by
    have ih := mo_sum (t := t) (x := x) (M := M) (R := R) (fun i hi => h i (by omega))
    have e : smQ (fun k => if tb x k = true then nhI I t (R + 1) k else 0) M = smQ (fun k => (if tb x k = true then nhI I t R k else 0) + (if k = fcI I R then (decide ((I 40 R = t ∧ I 41 R = 0) ∧ tb x (fcI I R) = true)).toNat else 0)) M := smQ_cong (fun k _ => by
      have e2 : nhI I t (R + 1) k = nhI I t R k + (decide ((I 40 R = t ∧ I 41 R = 0) ∧ fcI I R = k)).toNat := rfl
      by_cases hx : tb x k = true
      · rw [if_pos hx, if_pos hx, e2]
        by_cases hk : k = fcI I R
        · rw [if_pos hk, ← hk]
          congr 2
          simp [hx]
        · rw [if_neg hk]
          have : decide ((I 40 R = t ∧ I 41 R = 0) ∧ fcI I R = k) = false := decide_eq_false (fun z => hk z.2.symm)
          rw [this]
          rfl
      · rw [if_neg hx, if_neg hx]
        by_cases hk : k = fcI I R
        · rw [if_pos hk, ← hk]
          have : decide ((I 40 R = t ∧ I 41 R = 0) ∧ tb x k = true) = false := decide_eq_false (fun z => hx z.2)
          rw [this]
          rfl
        · rw [if_neg hk])
    rw [e, smQ_add, ih, smQ_one, if_pos (h R (by omega))]
    rfl
theorem mo_itr {f : Nat → Nat} {h : Nat → Int32} {x : Int64} : ∀ {M : Nat}, (∀ k, k < M → h k = nI (f k)) → itr (fun k (z : Int32) => z + (if tb x k = true then h k else 0)) 0 M = nI (smQ (fun k => if tb x k = true then f k else 0) M)
  | 0, _ => rfl
  | M + 1, e => by
    rw [itr_s, mo_itr (M := M) (fun k hk => e k (by omega)), smQ]
    by_cases hx : tb x M = true
    · rw [if_pos hx, if_pos hx, e M (by omega), nI_add]
    · rw [if_neg hx, if_neg hx, Int32.add_zero]
      rfl
theorem mo_eq {I2 : pm_MI} {t : Int32} {R N : Nat} (h : ∀ j, j < 2 * N → I2 109 j = nI (nhI I t R j)) (hf : ∀ i, i < R → fcI I i < 2 * N) (x : Int64) : itr (fun k (z : Int32) => z + (if tb x k = true then I2 109 k else 0)) 0 (2 * N) = nI (moI I t R x) := by
  rw [mo_itr h, mo_sum hf]
theorem mo_le {t : Int32} {R : Nat} {x : Int64} : moI I t R x ≤ R := bct_le
/-- both count the same -/
theorem mo_pc {t : Int32} {R : Nat} {c : Nat → Int64} {T : List Nat} (hR : R ≤ 60) : moI I t R (orL c T) = pc (orL (fun p => qtI I t (c p) R) T) := by
  have key : ∀ e, tb (orL (fun p => qtI I t (c p) R) T) e = true ↔ e < R ∧ (I 40 e = t ∧ I 41 e = 0) ∧ tb (orL c T) (fcI I e) = true := by
    intro e
    rw [tb_orL, tb_orL]
    constructor
    · rintro ⟨p, hp, h⟩
      obtain ⟨h1, h2, h3⟩ := (tb_qt hR).mp h
      exact ⟨h1, h2, p, hp, h3⟩
    · rintro ⟨h1, h2, p, hp, h3⟩
      exact ⟨p, hp, (tb_qt hR).mpr ⟨h1, h2, h3⟩⟩
  unfold moI pc
  rw [bct_tail (m := R) (n := 64) (by omega) (fun k h1 _ => by
    cases hk : tb (orL (fun p => qtI I t (c p) R) T) k with
    | false => rfl
    | true => have := ((key k).mp hk).1; omega)]
  refine bct_cong (fun k hk => ?_)
  rw [Bool.eq_iff_iff, decide_eq_true_eq, key]
  constructor
  · intro h; exact ⟨hk, h⟩
  · intro h; exact h.2
/-! ===== the reference's fold ===== -/
def chM (T : List Nat) (i : Nat) : Int32 := match T[i]? with
  | some p => nI p
  | none => -9
def wgT (c : Nat → Int64) (need : Int64) (ms : Nat) (mo : Int64 → Nat) (st : mdT) (T : List Nat) : mdT := if opn need (orL c T) = 0 ∧ nI (mo (orL c T)) ≤ nI ms then wgV (nI T.length) (chM T 0) (chM T 1) (chM T 2) (orL c T) (nI (mo (orL c T))) st else st
def smE (I : pm_MI) (J : pm_ML) (N P : Nat) (c : Nat → Int64) (need : Int64) (mo : Int64 → Nat) : Prop := (I 68 38 = nI N ∧ N ≤ 30) ∧ (I 68 52 = nI P ∧ P ≤ 160) ∧ (∀ p, p < P → J 108 p = c p) ∧ J 68 58 = need ∧ ∀ x, itr (fun k (z : Int32) => z + (if tb x k = true then I 109 k else 0)) 0 (2 * N) = nI (mo x)
theorem smE.cg {I2 : pm_MI} {N P : Nat} {c : Nat → Int64} {need : Int64} {mo : Int64 → Nat} (h : smE I J N P c need mo) (f : frW I I2) : smE I2 J N P c need mo := by
  obtain ⟨⟨a1, a2⟩, ⟨b1, b2⟩, c1, d1, e1⟩ := h
  refine ⟨⟨by rw [f.2 38 (by decide) (by decide) (by decide)]; exact a1, a2⟩, ⟨by rw [f.2 52 (by decide) (by decide) (by decide)]; exact b1, b2⟩, c1, d1, fun x => ?_⟩
  rw [f.1 109 (by decide) (by decide) (by decide)]; exact e1 x
section
variable {N P ms : Nat} {c : Nat → Int64} {need : Int64} {mo : Int64 → Nat} {st : mdT}
theorem m_w0 (hd : 3 ≤ d) (hE : smE I J N P c need mo) (hst : mdH I N st) (hQ : ∀ I', frW I I' → mdH I' N (wgT c need ms mo st []) → Q none SH I' J) : pm_C g d 257 [.ref 68, .int 0, .int (-9), .int (-9), .int (-9), .int (nI ms)] Q SH I J := by
  have e : orL c [] = 0 ||| 0 ||| 0 := rfl
  refine m_weigh (va := 0) (vb := 0) (ve := 0) hd hE.1.1 hE.1.2 (Or.inl ⟨rfl, rfl⟩) (Or.inl ⟨rfl, rfl⟩) (Or.inl ⟨rfl, rfl⟩) hE.2.2.2.1 (hE.2.2.2.2 _) hst ?_
  unfold wgT at hQ
  rw [e] at hQ
  exact hQ
theorem m_w1 {a : Nat} (hd : 3 ≤ d) (hE : smE I J N P c need mo) (ha : a < P) (hst : mdH I N st) (hQ : ∀ I', frW I I' → mdH I' N (wgT c need ms mo st [a]) → Q none SH I' J) : pm_C g d 257 [.ref 68, .int 1, .int (nI a), .int (-9), .int (-9), .int (nI ms)] Q SH I J := by
  have hP := hE.2.1.2
  have e : orL c [a] = c a ||| 0 ||| 0 := by rw [l_or0]; rfl
  refine m_weigh (va := c a) (vb := 0) (ve := 0) hd hE.1.1 hE.1.2 (Or.inr ⟨a, by omega, rfl, hE.2.2.1 a ha⟩) (Or.inl ⟨rfl, rfl⟩) (Or.inl ⟨rfl, rfl⟩) hE.2.2.2.1 (hE.2.2.2.2 _) hst ?_
  unfold wgT at hQ
  rw [e] at hQ
  exact hQ
theorem m_w2 {a b : Nat} (hd : 3 ≤ d) (hE : smE I J N P c need mo) (ha : a < P) (hb : b < P) (hst : mdH I N st) (hQ : ∀ I', frW I I' → mdH I' N (wgT c need ms mo st [a, b]) → Q none SH I' J) : pm_C g d 257 [.ref 68, .int 2, .int (nI a), .int (nI b), .int (-9), .int (nI ms)] Q SH I J := by
  have hP := hE.2.1.2
  have e : orL c [a, b] = c a ||| c b ||| 0 := by rw [l_or0, orL, orL, orL, l_or0]
  refine m_weigh (va := c a) (vb := c b) (ve := 0) hd hE.1.1 hE.1.2 (Or.inr ⟨a, by omega, rfl, hE.2.2.1 a ha⟩) (Or.inr ⟨b, by omega, rfl, hE.2.2.1 b hb⟩) (Or.inl ⟨rfl, rfl⟩) hE.2.2.2.1 (hE.2.2.2.2 _) hst ?_
  unfold wgT at hQ
  rw [e] at hQ
  exact hQ
theorem orL_3 {a b e : Nat} : orL c [a, b, e] = c a ||| c b ||| c e := tb_ext (fun k _ => by rw [orL, orL, orL, orL, l_or0, tb_or, tb_or, tb_or, tb_or, Bool.or_assoc])
theorem m_w3 {a b e : Nat} (hd : 3 ≤ d) (hE : smE I J N P c need mo) (ha : a < P) (hb : b < P) (he : e < P) (hst : mdH I N st) (hQ : ∀ I', frW I I' → mdH I' N (wgT c need ms mo st [a, b, e]) → Q none SH I' J) : pm_C g d 257 [.ref 68, .int 3, .int (nI a), .int (nI b), .int (nI e), .int (nI ms)] Q SH I J := by
  have hP := hE.2.1.2
  refine m_weigh (va := c a) (vb := c b) (ve := c e) hd hE.1.1 hE.1.2 (Or.inr ⟨a, by omega, rfl, hE.2.2.1 a ha⟩) (Or.inr ⟨b, by omega, rfl, hE.2.2.1 b hb⟩) (Or.inr ⟨e, by omega, rfl, hE.2.2.1 e he⟩) hE.2.2.2.1 (hE.2.2.2.2 _) hst ?_
  unfold wgT at hQ
  rw [orL_3] at hQ
  exact hQ
theorem wgT_g {s : Int32} {T : List Nat} (hT : nI T.length = s) (h : st.1 = 0 ∨ st.2.2.1 = s) : (wgT c need ms mo st T).1 = 0 ∨ (wgT c need ms mo st T).2.2.1 = s := by
  unfold wgT
  split
  · exact Or.inr hT
  · exact h
end
end C91m
