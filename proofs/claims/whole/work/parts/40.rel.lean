section C40
variable {g : pm_G} {d : Nat} {Q : pm_Po} {S : pm_SS} {I : pm_MI} {J : pm_ML}
/-! ===== the relation of the class's cells and the reference's ===== -/
def r_told (f a f' a' : Int32) (t t' : Nat → Int32) (u l p u' l' p' : Int64) : Prop := f' = f ∧ a' = a ∧ t' = t ∧ u' = u ∧ l' = l ∧ p' = p
def r_day (y y' : Int32) : Prop := y' = y ∧ ∃ t, t ≤ 999 ∧ y = nI t
def r_shelf (W : Nat) (B : Int32) (N : Nat) (w b : Int32) (s c s' c' : Nat → Int32) : Prop := w = nI W ∧ b = B ∧ s' = s ∧ ∀ r, r < N → s r = -1 ∨ ∃ k, k ≤ W ∧ s r = nI k ∧ ∀ i, i < k → c' (W * r + i) = c (W * r + i)
def r_met (y n c n' c' : Int32) (k s f h b w x t o k' s' f' h' b' w' x' t' o' : Nat → Int32) : Prop := n' = n ∧ c' = c ∧ k' = k ∧ s' = s ∧ f' = f ∧ h' = h ∧ b' = b ∧ w' = w ∧ x' = x ∧ t' = t ∧ o' = o ∧ (∃ C, C ≤ 120 ∧ c = nI C) ∧ ∃ N, N ≤ 40 ∧ n = nI N ∧ (∀ i, i < N → (∃ q, q < 4 ∧ k i = nI q) ∧ (∃ q, q < 20 ∧ s i = nI q) ∧ (f i = -9 ∨ ∃ j, j < i ∧ f i = nI j) ∧ (∃ q, q ≤ 999 ∧ b i = nI q) ∧ b i ≤ y) ∧ ∀ i j, i < j → j < N → b i ≤ b j
def r_prs (n : Int32) (st x y a b x' y' : Nat → Int32) : Prop := x' = x ∧ y' = y ∧ ∀ p, p < 6 → a p = st (2 * p) ∧ b p = st (2 * p + 1) ∧ (st (2 * p) = -9 ∧ st (2 * p + 1) = -9 ∨ (0 ≤ st (2 * p) ∧ st (2 * p) < n) ∧ (0 ≤ st (2 * p + 1) ∧ st (2 * p + 1) < n))
def r_run (y m n n' : Int32) (b p dy c ht st x z p' dy' c' ht' a' b' x' z' : Nat → Int32) : Prop := n' = n ∧ p' = p ∧ dy' = dy ∧ c' = c ∧ ht' = ht ∧ x' = x ∧ z' = z ∧ ∃ N, N ≤ 30 ∧ n = nI N ∧ ∀ r, r < N → a' r = st (2 * r) ∧ b' r = st (2 * r + 1) ∧ (0 ≤ st (2 * r) ∧ st (2 * r) < m) ∧ (0 ≤ st (2 * r + 1) ∧ st (2 * r + 1) < m) ∧ (∃ q, q ≤ 999 ∧ dy r = nI q) ∧ dy r ≤ y ∧ b (st (2 * r)).toNatClampNeg ≤ dy r ∧ b (st (2 * r + 1)).toNatClampNeg ≤ dy r ∧ (∃ q, 1 ≤ q ∧ q ≤ 10000 ∧ c r = nI q) ∧ (ht r = 0 ∨ ht r = 1)
def r_rep (m n n' : Int32) (r f t h r' f' t' h' : Nat → Int32) : Prop := n' = n ∧ r' = r ∧ f' = f ∧ t' = t ∧ h' = h ∧ ∃ N, N ≤ 60 ∧ n = nI N ∧ ∀ k, k < N → (0 ≤ r k ∧ r k < m) ∧ (f k = 0 ∨ f k = 1) ∧ (h k = 0 ∨ h k = 1)
def r_sal (y m n n' : Int32) (r c l o r' c' l' o' : Nat → Int32) : Prop := n' = n ∧ r' = r ∧ c' = c ∧ l' = l ∧ o' = o ∧ ∃ N, N ≤ 60 ∧ n = nI N ∧ ∀ k, k < N → (0 ≤ r k ∧ r k < m) ∧ (-10000 ≤ c k ∧ c k ≤ 10000) ∧ (∃ q, q < 8 ∧ l k = nI q) ∧ (∃ q, q ≤ 999 ∧ o k = nI q) ∧ o k ≤ y
def r_ord (n n' : Int32) (c o p c' o' p' : Nat → Int32) : Prop := n' = n ∧ c' = c ∧ o' = o ∧ (∀ k, k < 9 → p' k = p k) ∧ ∃ N, N ≤ 9 ∧ n = nI N ∧ ∀ k, k < N → (∃ q, 1 ≤ q ∧ q ≤ 100000 ∧ c k = nI q) ∧ (∃ q, q ≤ 999 ∧ o k = nI q)
def r_cau (n n' : Int32) (p p' : Nat → Int32) : Prop := n' = n ∧ ∃ N, N ≤ 3 ∧ n = nI N ∧ ∀ k, k < 6 * N → p' k = p k
/-- the thing a rule's item speaks of, by its number in the class's table -/
def itT (w a b : Int32) : Int32 := if w = 0 then a * 4 + b else if w = 1 then 16 else if w = 2 then 17 + a else 25 + a
/-- the last of n items that speaks of thing t says this, or z -/
def itV (it : Nat → Int32) (r : Nat) (t : Int32) (z : Int32) : Nat → Int32
  | 0 => z
  | n + 1 => if itT (it (96 * r + 4 * n)) (it (96 * r + 4 * n + 1)) (it (96 * r + 4 * n + 2)) = t then it (96 * r + 4 * n + 3) else itV it r t z n
def itOk (it : Nat → Int32) (k : Nat) : Prop := (it k = 0 ∧ (∃ q, q < 4 ∧ it (k + 1) = nI q) ∧ (∃ q, q < 4 ∧ it (k + 2) = nI q) ∨ it k = 1 ∨ (it k = 2 ∨ it k = 3) ∧ ∃ q, q < 8 ∧ it (k + 1) = nI q) ∧ 0 ≤ it (k + 3)
def r_rul (n n' : Int32) (o f v o' f' m it : Nat → Int32) : Prop := n' = n ∧ o' = o ∧ f' = f ∧ ∃ N, N ≤ 24 ∧ n = nI N ∧ ∀ r, r < N → (∃ q, q ≤ 999 ∧ f r = nI q) ∧ ∃ M, M ≤ 24 ∧ m r = nI M ∧ (∀ j, j < M → itOk it (96 * r + 4 * j)) ∧ ∀ t, t < 33 → v (33 * r + t) = itV it r (nI t) (-1) M
def Rel (I : pm_MI) (J : pm_ML) : Prop :=
  r_told (I 1 1) (I 1 2) (I 68 0) (I 68 2) (I 2) (I 69) (J 1 3) (J 1 4) (J 1 5) (J 68 3) (J 68 4) (J 68 72)
  ∧ r_day (I 0 11) (I 68 15)
  ∧ r_shelf 24 0 6 (I 3 0) (I 3 1) (I 4) (I 5) (I 70) (I 71)
  ∧ r_shelf 48 32 4 (I 6 0) (I 6 1) (I 7) (I 8) (I 73) (I 74)
  ∧ r_met (I 0 11) (I 9 9) (I 9 10) (I 68 23) (I 68 30) (I 10) (I 11) (I 12) (I 13) (I 14) (I 15) (I 16) (I 17) (I 18) (I 79) (I 80) (I 81) (I 82) (I 83) (I 84) (I 85) (I 87) (I 86)
  ∧ r_prs (I 9 9) (I 20) (I 21) (I 22) (I 88) (I 89) (I 90) (I 91)
  ∧ r_run (I 0 11) (I 9 9) (I 23 7) (I 68 38) (I 14) (I 24) (I 25) (I 26) (I 27) (I 28) (I 29) (I 30) (I 92) (I 93) (I 94) (I 95) (I 96) (I 97) (I 98) (I 99)
  ∧ r_rul (I 31 5) (I 68 16) (I 32) (I 33) (I 34) (I 75) (I 76) (I 77) (I 78)
  ∧ r_rep (I 23 7) (I 37 4) (I 68 47) (I 38) (I 39) (I 40) (I 41) (I 100) (I 101) (I 102) (I 103)
  ∧ r_sal (I 0 11) (I 23 7) (I 55 4) (I 68 67) (I 56) (I 57) (I 58) (I 59) (I 113) (I 114) (I 115) (I 116)
  ∧ r_ord (I 60 7) (I 68 73) (I 61) (I 62) (I 65) (I 117) (I 118) (I 121)
  ∧ r_cau (I 42 6) (I 68 65) (I 54) (I 112)
def RelW (I : pm_MI) (J : pm_ML) : Prop := ∃ _ : True, Rel I J
def tyV : Option Value → Nat
  | some (.int _) => 1
  | some (.long _) => 2
  | _ => 0
def tyOf (f : Nat) : Nat := if f = 276 then 2 else if f = 195 then 2 else if f = 196 then 2 else if f = 294 then 2 else 1
def MC (g : pm_G) (d f : Nat) (args : List Value) (v : Option Value) (I : pm_MI) (J : pm_ML) : Prop := ∃ _ : True, pm_C g d f args (fun w S2 I2 J2 => (S2, tyV w) = (SH, tyOf f) ∧ w = v ∧ RelW I2 J2) SH I J
theorem MC.of {g : pm_G} {d f : Nat} {args : List Value} {v : Option Value} {I : pm_MI} {J : pm_ML} (h : pm_C g d f args (fun w S2 I2 J2 => (S2, tyV w) = (SH, tyOf f) ∧ w = v ∧ RelW I2 J2) SH I J) : MC g d f args v I J := ⟨trivial, h⟩
def PC (g : pm_G) (d f f' : Nat) (args : List Value) : Prop := ∀ I J, Rel I J → pm_C g d f (.ref 0 :: args) (fun v S1 I1 J1 => S1 = SH ∧ MC g d f' (.ref 68 :: args) v I1 J1) SH I J
theorem rel_found {I : pm_MI} {J : pm_ML} {x : Nat} {v : Int32} (h : Rel I J) : Rel (pm_up (pm_up (pm_up (pm_up I 1 1 v) 2 x (I 2 x + 1)) 68 0 v) 69 x (I 69 x + 1)) J := by
  obtain ⟨h1, h2, h3, h4, h5, h6, h7, h8, h9, h10, h11, h12⟩ := h
  obtain ⟨a1, a2, a3, a4, a5, a6⟩ := h1
  refine ⟨?_, ?_, ?_, ?_, ?_, ?_, ?_, ?_, ?_, ?_, ?_, ?_⟩
  all_goals (simp (disch := decide) only [pm_up_o, pm_up_n, pm_up_s]; try assumption)
  refine ⟨rfl, a2, ?_, a4, a5, a6⟩
  simp [pm_up, a3]
theorem rel_asks {I : pm_MI} {J : pm_ML} {v : Int32} (h : Rel I J) : Rel (pm_up (pm_up I 1 2 v) 68 2 v) J := by
  obtain ⟨h1, h2, h3, h4, h5, h6, h7, h8, h9, h10, h11, h12⟩ := h
  obtain ⟨a1, a2, a3, a4, a5, a6⟩ := h1
  refine ⟨?_, ?_, ?_, ?_, ?_, ?_, ?_, ?_, ?_, ?_, ?_, ?_⟩
  all_goals (simp (disch := decide) only [pm_up_o, pm_up_n, pm_up_s]; try assumption)
  exact ⟨a1, rfl, a3, a4, a5, a6⟩
end C40
