section C54
variable {g : pm_G} {d : Nat} {Q : pm_Po} {S : pm_SS} {I : pm_MI} {J : pm_ML}
def abR (w a b : Int32) : Prop := (w = 0 ∧ (0 ≤ a ∧ a ≤ 3) ∧ (0 ≤ b ∧ b ≤ 3)) ∨ w = 1 ∨ ((w = 2 ∨ w = 3) ∧ (0 ≤ a ∧ a ≤ 7))
theorem abo_iff {w a b x y z : Int32} (h1 : abR w a b) (h2 : abR x y z) : (x = w ∧ (w = 1 ∨ y = a) ∧ (¬ w = 0 ∨ z = b)) ↔ itT x y z = itT w a b := by
  unfold abR at h1 h2
  unfold itT
  rcases h1 with ⟨rfl, h1⟩ | rfl | ⟨rfl | rfl, h1⟩ <;> rcases h2 with ⟨rfl, h2⟩ | rfl | ⟨rfl | rfl, h2⟩ <;> simp <;> grind
theorem itOk_abR {it : Nat → Int32} {k : Nat} (h : itOk it k) : abR (it k) (it (k + 1)) (it (k + 2)) ∧ 0 ≤ it (k + 3) := by
  refine ⟨?_, h.2⟩
  rcases h.1 with ⟨h1, ⟨p, hp, e1⟩, ⟨q, hq, e2⟩⟩ | h1 | ⟨h1, ⟨p, hp, e1⟩⟩
  · refine Or.inl ⟨h1, ?_, ?_⟩
    · rw [e1]; exact nI_rng (N := 3) (by omega) (by decide)
    · rw [e2]; exact nI_rng (N := 3) (by omega) (by decide)
  · exact Or.inr (Or.inl h1)
  · refine Or.inr (Or.inr ⟨h1, ?_⟩)
    rw [e1]; exact nI_rng (N := 7) (by omega) (by decide)
theorem si_eq {w a b : Int32} {r : Nat} {s : Int32 × Int32} (hr : r < 24) (hab : abR w a b) : ∀ M, (∀ j, j < M → itOk (I 78) (96 * r + 4 * j)) → itr (siS I w a b r) s M = if (s.2 = -9 ∨ I 76 s.2.toNatClampNeg ≤ I 76 r) ∧ ¬ itV (I 78) r (itT w a b) (-1) M = -1 then (itV (I 78) r (itT w a b) (-1) M, nI r) else s
  | 0, _ => by simp [itr_0, itV]
  | M + 1, hk => by
    have ih := si_eq (s := s) hr hab M (fun j hj => hk j (by omega))
    obtain ⟨h1, h2⟩ := itOk_abR (hk M (by omega))
    have h3 := abo_iff hab h1
    have hx : (nI r).toNatClampNeg = r := ix_nI (by omega)
    rw [itr_s, ih]
    simp only [siS, itV]
    by_cases hC : s.2 = -9 ∨ I 76 s.2.toNatClampNeg ≤ I 76 r
    · simp only [hC, true_and]
      have hle : I 76 r ≤ I 76 r := Int32.le_refl _
      by_cases hm : itT (I 78 (96 * r + 4 * M)) (I 78 (96 * r + 4 * M + 1)) (I 78 (96 * r + 4 * M + 2)) = itT w a b
      · have hn1 : ¬ I 78 (96 * r + 4 * M + 3) = -1 := by grind
        have h4 := h3.2 hm
        by_cases hv : itV (I 78) r (itT w a b) (-1) M = -1
        · simp only [hv, not_true_eq_false, if_false, hm, if_true, hn1, not_false_eq_true]
          rw [if_pos ⟨h4, hC⟩]
        · simp only [hv, not_false_eq_true, if_true, hm, hn1, hx]
          rw [if_pos ⟨h4, Or.inr hle⟩]
      · have h4 : ¬ _ := fun h => hm (h3.1 h)
        simp only [hm, if_false]
        rw [if_neg (fun h => h4 h.1)]
    · simp only [hC, false_and, and_false, if_false]
theorem sf_rf {w a b day known : Int32} {t n : Nat} (hn : n ≤ 24) (hab : abR w a b) (ht : itT w a b = nI t) (e1 : I 75 = I 32) (e2 : I 76 = I 33) (hf : ∀ r, r < n → 0 ≤ I 33 r) (hR : ∀ r, r < n → ∃ M, M ≤ 24 ∧ I 77 r = nI M ∧ (∀ j, j < M → itOk (I 78) (96 * r + 4 * j)) ∧ I 34 (33 * r + t) = itV (I 78) r (nI t) (-1) M) : (sfV I w a b day known n).2 = rfV I t day known n ∧ (rfV I t day known n = -9 ∧ (sfV I w a b day known n).1 = plV w a b ∨ ∃ j, j < n ∧ rfV I t day known n = nI j ∧ (sfV I w a b day known n).1 = I 34 (33 * j + t)) := by
  have key := itr_rel (f := soS I w a b day known) (h := rfS I t day known) (a := (plV w a b, -9)) (b := (-9, -1)) (n := n) (fun k (s c : Int32 × Int32) => s.2 = c.1 ∧ (c.1 = -9 ∧ c.2 = -1 ∧ s.1 = plV w a b ∨ ∃ j, j < k ∧ c.1 = nI j ∧ c.2 = I 33 j ∧ s.1 = I 34 (33 * j + t))) ⟨rfl, Or.inl ⟨rfl, rfl, rfl⟩⟩ (fun r hr s c hP => by
    obtain ⟨M, hM, hM2, hit, hv⟩ := hR r hr
    obtain ⟨hP1, hP2⟩ := hP
    have hf0 := hf r hr
    have hsi := si_eq (I := I) (s := s) (show r < 24 by omega) hab M hit
    rw [ht, ← hv, e2] at hsi
    have hcc : (s.2 = -9 ∨ I 33 s.2.toNatClampNeg ≤ I 33 r) ↔ c.2 ≤ I 33 r := by
      rcases hP2 with ⟨c1, c2, _⟩ | ⟨j, hj, c1, c2, _⟩
      · rw [hP1, c1, c2]
        simp only [true_or, true_iff]
        grind
      · rw [hP1, c1, c2, ix_nI (by omega)]
        have := n9 (j := j) (by omega)
        simp only [this, false_or]
    have hstep : soS I w a b day known r s = if I 32 r ≤ known ∧ I 33 r ≤ day ∧ (¬ I 34 (33 * r + t) = -1) ∧ c.2 ≤ I 33 r then (I 34 (33 * r + t), nI r) else s := by
      unfold soS
      rw [hM2, ix_nI (by omega), hsi, e1, e2]
      by_cases q1 : I 32 r ≤ known <;> by_cases q2 : I 33 r ≤ day <;> by_cases q3 : I 34 (33 * r + t) = -1 <;> by_cases q4 : c.2 ≤ I 33 r <;> simp [q1, q2, q3, q4, hcc]
    rw [hstep]
    unfold rfS
    split
    · exact ⟨rfl, Or.inr ⟨r, by omega, rfl, rfl, rfl⟩⟩
    · refine ⟨hP1, ?_⟩
      rcases hP2 with h | ⟨j, hj, h⟩
      · exact Or.inl h
      · exact Or.inr ⟨j, by omega, h⟩)
  obtain ⟨k1, k2⟩ := key
  refine ⟨k1, ?_⟩
  rcases k2 with ⟨h1, _, h3⟩ | ⟨j, hj, h1, _, h3⟩
  · exact Or.inl ⟨h1, h3⟩
  · exact Or.inr ⟨j, hj, h1, h3⟩
end C54
