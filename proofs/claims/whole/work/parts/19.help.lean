/-! ===== loops as repeated steps ===== -/
def itr {α : Type} (f : Nat → α → α) (a : α) : Nat → α
  | 0 => a
  | n + 1 => f n (itr f a n)
theorem itr_0 {α : Type} {f : Nat → α → α} {a : α} : itr f a 0 = a := rfl
theorem itr_s {α : Type} {f : Nat → α → α} {a : α} {n : Nat} : itr f a (n + 1) = f n (itr f a n) := rfl
theorem itr_cong {α : Type} {f h : Nat → α → α} {a : α} : ∀ {n : Nat}, (∀ k, k < n → ∀ b, f k b = h k b) → itr f a n = itr h a n
  | 0, _ => rfl
  | n + 1, hc => by rw [itr_s, itr_s, itr_cong (fun k hk b => hc k (by omega) b), hc n (by omega)]
theorem itr_inv {α : Type} {f : Nat → α → α} {a : α} (P : Nat → α → Prop) (h0 : P 0 a) : ∀ {n : Nat}, (∀ k, k < n → ∀ b, P k b → P (k + 1) (f k b)) → P n (itr f a n)
  | 0, _ => h0
  | n + 1, hs => hs n (by omega) _ (itr_inv P h0 (fun k hk b => hs k (by omega) b))
/-- two loops side by side -/
theorem itr_rel {α β : Type} {f : Nat → α → α} {h : Nat → β → β} {a : α} {b : β} (P : Nat → α → β → Prop) (h0 : P 0 a b) : ∀ {n : Nat}, (∀ k, k < n → ∀ x y, P k x y → P (k + 1) (f k x) (h k y)) → P n (itr f a n) (itr h b n)
  | 0, _ => h0
  | n + 1, hs => hs n (by omega) _ _ (itr_rel P h0 (fun k hk x y => hs k (by omega) x y))
theorem pm_for {α : Type} {U : Nat → α → Prop} {f : Nat → α → α} {a : α} (n : Nat) (hs : ∀ k b, k < n → b = itr f a k → U (k + 1) (f k b) → U k b) (he : U n (itr f a n)) : U 0 a := by
  have key : ∀ j, j ≤ n → U (n - j) (itr f a (n - j)) := by
    intro j
    induction j with
    | zero => intro _; exact he
    | succ j ih =>
      intro hj
      refine hs (n - (j + 1)) _ (by omega) rfl ?_
      have e := ih (by omega)
      rw [show n - j = n - (j + 1) + 1 by omega] at e
      exact e
  have h := key n (Nat.le_refl n)
  rw [Nat.sub_self] at h
  exact h
/-! ===== numbers ===== -/
theorem nI_num (n : Nat) : (OfNat.ofNat n : Int32) = nI n := rfl
theorem i_lt {x y : Int32} : (x < y) = (x.toInt < y.toInt) := propext Int32.lt_iff_toInt_lt
theorem i_le {x y : Int32} : (x ≤ y) = (x.toInt ≤ y.toInt) := propext Int32.le_iff_toInt_le
theorem i_eq {x y : Int32} : (x = y) = (x.toInt = y.toInt) := propext Int32.toInt_inj.symm
theorem i_in {x : Int32} {n : Nat} : vp_in x n = (0 ≤ x.toInt ∧ x.toInt < n) := propext vp_in_iff
theorem i_ix {x : Int32} (h : 0 ≤ x.toInt) : (x.toNatClampNeg : Int) = x.toInt := by
  show ((x.toInt.toNat : Nat) : Int) = x.toInt
  omega
theorem i_of {x : Int32} {n : Nat} (h0 : 0 ≤ x.toInt) (h1 : x.toInt < n) (hn : n ≤ 2147483648) : ∃ j, j < n ∧ x = nI j := by
  refine ⟨x.toInt.toNat, by omega, ?_⟩
  rw [i_eq, tI_nI (by omega)]
  omega
theorem pm_up_o {I : pm_MI} {k i a : Nat} {x : Int32} (h : a ≠ k) : pm_up I k i x a = I a := by simp [pm_up, h]
theorem pm_up_s {I : pm_MI} {k i : Nat} {x : Int32} : pm_up I k i x k i = x := by simp [pm_up, upd]
theorem pm_up_n {I : pm_MI} {k i j : Nat} {x : Int32} (h : j ≠ i) : pm_up I k i x k j = I k j := by simp [pm_up, upd, h]
theorem pm_upL_o {J : pm_ML} {k i a : Nat} {x : Int64} (h : a ≠ k) : pm_upL J k i x a = J a := by simp [pm_upL, h]
theorem pm_upL_s {J : pm_ML} {k i : Nat} {x : Int64} : pm_upL J k i x k i = x := by simp [pm_upL, vp_updL]
theorem pm_upL_n {J : pm_ML} {k i j : Nat} {x : Int64} (h : j ≠ i) : pm_upL J k i x k j = J k j := by simp [pm_upL, vp_updL, h]
theorem l_onI (n : Nat) : Int32.ofNat n = nI n := rfl
theorem l_le {n k : Nat} (hn : n < 2147483648) (hk : k < 2147483648) : (no_index (OfNat.ofNat n : Int32) ≤ nI k) = (n ≤ k) := nI_leP (a := n) hn hk
theorem l_lt {n k : Nat} (hn : n < 2147483648) (hk : k < 2147483648) : ((no_index (OfNat.ofNat n : Int32)) < nI k) = (n < k) := nI_ltP (a := n) hn hk
theorem l_eq {n k : Nat} (hn : n < 2147483648) (hk : k < 2147483648) : ((no_index (OfNat.ofNat n : Int32)) = nI k) = (n = k) := nI_eqP (a := n) hn hk
theorem r_le {n k : Nat} (hn : n < 2147483648) (hk : k < 2147483648) : (nI k ≤ (no_index (OfNat.ofNat n : Int32))) = (k ≤ n) := nI_leP (b := n) hk hn
theorem r_lt {n k : Nat} (hn : n < 2147483648) (hk : k < 2147483648) : (nI k < (no_index (OfNat.ofNat n : Int32))) = (k < n) := nI_ltP (b := n) hk hn
theorem r_eq {n k : Nat} (hn : n < 2147483648) (hk : k < 2147483648) : (nI k = (no_index (OfNat.ofNat n : Int32))) = (k = n) := nI_eqP (b := n) hk hn
theorem pm_find {U : Nat → Prop} (n : Nat) (p : Nat → Prop) (hs : ∀ k, k < n → (∀ j, j < k → ¬ p j) → (¬ p k → U (k + 1)) → U k) (he : (∀ j, j < n → ¬ p j) → U n) : U 0 := by
  have key : ∀ j, j ≤ n → (∀ i, i < n - j → ¬ p i) → U (n - j) := by
    intro j
    induction j with
    | zero => intro _ h; exact he h
    | succ j ih =>
      intro hj h
      refine hs (n - (j + 1)) (by omega) h (fun hp => ?_)
      have e := ih (by omega) (fun i hi => by
        rcases Nat.lt_or_ge i (n - (j + 1)) with q | q
        · exact h i q
        · rw [show i = n - (j + 1) by omega]; exact hp)
      rw [show n - j = n - (j + 1) + 1 by omega] at e
      exact e
  have h := key n (Nat.le_refl n) (fun i hi => by omega)
  rw [Nat.sub_self] at h
  exact h
theorem pm_rec {α : Type} {U : Nat → α → Prop} {P : Nat → α → Prop} (N : Nat) (hs : ∀ k a q, k < N → N - k = q + 1 → P (q + 1) a → (∀ b, P q b → U (k + 1) b) → U k a) (he : ∀ a, P 0 a → U N a) {a : α} (h : P N a) : U 0 a := by
  have key : ∀ q k a, N - k = q → k ≤ N → P q a → U k a := by
    intro q
    induction q with
    | zero =>
      intro k a h1 h2 h3
      rw [show k = N by omega]
      exact he a h3
    | succ q ih =>
      intro k a h1 h2 h3
      exact hs k a q (by omega) h1 h3 (fun b hb => ih (k + 1) b (by omega) (by omega) hb)
  exact key N 0 a (by omega) (Nat.zero_le N) h
