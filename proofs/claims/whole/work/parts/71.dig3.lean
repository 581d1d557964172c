section C71
variable {g : pm_G} {d : Nat} {Q : pm_Po} {S : pm_SS} {I : pm_MI} {J : pm_ML}
theorem rel_mix {I : pm_MI} {J : pm_ML} {v : Int64} (h : RelW I J) : RelW I (pm_upL J 68 80 v) := by
  obtain ⟨_, a1, a2, a3, a4, a5, a6, a7, a8, a9, a10, a11, a12⟩ := h
  refine ⟨trivial, ?_, a2, a3, a4, a5, a6, a7, a8, a9, a10, a11, a12⟩
  simp (disch := decide) only [pm_upL_o, pm_upL_n]
  exact a1
theorem p_digest (hd : 10 ≤ d) : PC g d 183 294 [] := by
  intro I J h
  have hw := relw h
  have hy1 : I 68 15 = I 0 11 := h.2.1.1
  have hcn := fun n w => cn_eq (n := n) (w := w) h
  obtain ⟨n1, c1, k1, s1, f1, h1, b1, w1, x1, t1, o1, ⟨C, hC, hC2⟩, n, hn, hn2, hm, hmono⟩ := h.2.2.2.2.1
  clear hm hmono
  obtain ⟨r1, p1, p2, p3, p4, p5, p6, N, hN, hN2, hr⟩ := h.2.2.2.2.2.2.1
  obtain ⟨u1, u2, u3, R, hR, hR2, hRR⟩ := h.2.2.2.2.2.2.2.1
  clear hRR
  have hit := rel_items h hR2 hR
  obtain ⟨v1, v2, v3, v4, v5, P, hP, hP2, hPP⟩ := h.2.2.2.2.2.2.2.2.1
  clear hPP
  obtain ⟨q1, q2, q3, q4, q5, M, hM, hM2, hs⟩ := h.2.2.2.2.2.2.2.2.2.1
  clear hs
  obtain ⟨o2, o3, o4, o5, O, hO, hO2, hOO⟩ := h.2.2.2.2.2.2.2.2.2.2.1
  clear hOO
  obtain ⟨z1, z2, hpr⟩ := h.2.2.2.2.2.1
  obtain ⟨e1, e2, e3, e4⟩ := h.2.2.1
  have e1 : I 3 0 = 24 := e1
  obtain ⟨g1, g2, g3, g4⟩ := h.2.2.2.1
  have g1 : I 6 0 = 48 := g1
  have hfe : ∀ m w, mfactV I m n w = factV I m n w := fun m w => fact_eq k1 s1 f1 h1 b1 w1
  have hrt : ∀ r, r < N → ∀ w, w < 7 → mrtV I r M (nI w) = rtV I r M (nI w) := fun r hrN w hw7 => mrt_eq q2 q3 p1 p2 p3 p4 (hr r hrN).1 (hr r hrN).2.1 ⟨nI_pos' (by omega), nI_lt (b := 7) hw7 (by omega)⟩
  have hf1 := (rel_force (t := 16) (day := I 0 11) (known := I 0 11) h hR2 hR (w := 1) (a := 0) (b := 0) (Or.inr (Or.inl rfl)) rfl (by omega)).2
  have hf2 : ∀ l, l < 8 → (sfV I 2 (nI l) 0 (I 0 11) (I 0 11) R).1 = ifV I (17 + l) (I 0 11) (I 0 11) R := by
    intro l hl
    have hl2 := nI_rng (n := l) (N := 7) (by omega) (by decide)
    exact (rel_force (t := 17 + l) (day := I 0 11) (known := I 0 11) h hR2 hR (w := 2) (a := nI l) (b := 0) (Or.inr (Or.inr ⟨Or.inl rfl, hl2⟩)) (nI_add 17 l) (by omega)).2
  have hf3 : ∀ l, l < 8 → (sfV I 3 (nI l) 0 (I 0 11) (I 0 11) R).1 = ifV I (25 + l) (I 0 11) (I 0 11) R := by
    intro l hl
    have hl2 := nI_rng (n := l) (N := 7) (by omega) (by decide)
    exact (rel_force (t := 25 + l) (day := I 0 11) (known := I 0 11) h hR2 hR (w := 3) (a := nI l) (b := 0) (Or.inr (Or.inr ⟨Or.inr rfl, hl2⟩)) (nI_add 25 l) (by omega)).2
  refine c_digest (n := n) (N := N) (M := M) (R := R) (P := P) (O := O) (by omega) hn2 hn hN2 hN hM2 hM hR2 hR hP2 hP hO2 hO e1 g1 ?_ ?_ ?_
  · intro r hr6
    rcases e4 r hr6 with e | ⟨k, hk, e, _⟩
    · exact Or.inl e
    · exact Or.inr ⟨k, hk, e⟩
  · intro r hr6
    rcases g4 r hr6 with e | ⟨k, hk, e, _⟩
    · exact Or.inl e
    · exact Or.inr ⟨k, hk, e⟩
  refine ⟨rfl, MC.of ?_⟩
  refine m_digest (y := I 0 11) (n := n) (N := N) (M := M) (R := R) (P := P) (O := O) (by omega) hy1 (by rw [n1, hn2]) hn (by rw [r1, hN2]) hN (by rw [q1, hM2]) hM (by rw [u1, hR2]) hR (by rw [v1, hP2]) hP (by rw [o2, hO2]) hO (hcn n) hit hfe (fun p hp => ⟨(hpr p hp).1, (hpr p hp).2.1⟩) z1 z2 hrt u2 u3 hf1 hf2 hf3 v2 v3 v4 v5 q2 q3 q4 q5 o3 o4 e3 g3 e4 g4 ?_
  intro a b v hv
  rw [← hv]
  exact ⟨rfl, rfl, rel_mix (rel_sf h)⟩
end C71
