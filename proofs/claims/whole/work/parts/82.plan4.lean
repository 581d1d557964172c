section C82
variable {g : pm_G} {d : Nat} {Q : pm_Po} {S : pm_SS} {I : pm_MI} {J : pm_ML}
theorem b40 : ∀ w, w < 5 → (nI w).toInt8.toInt32 = nI w := by decide +kernel
theorem pf_1 {n y x : Nat} {dy tk : Nat → Nat} (h : oneP n y dy tk x) : PF n y dy tk x 1 := ⟨1, rfl, by omega, by omega, ⟨fun _ => h, fun _ => by omega⟩, ⟨fun _ => two_one h, fun _ => by omega⟩, ⟨fun _ => three_one h, fun _ => by omega⟩⟩
theorem c_countPresses {n y : Nat} {dy tk bd : Nat → Nat} (hd : 3 ≤ d) (hn : n ≤ 9) (hy : y ≤ 999) (hC : CC I n dy tk bd) (hQ : ∀ I2, (∀ a, a ≠ 67 → I2 a = I a) → (∀ p, 0 < p → p < 2 ^ n → PF n y dy tk p (I2 67 p)) → Q none SH I2 J) : pm_C g d 29 [.ref 60, .int (nI y)] Q SH I J := by
  have hp9 : 2 ^ n ≤ 512 := Nat.pow_le_pow_right (by omega) hn
  have hsl : (1 : Int32) <<< (nI n &&& 31) = nI (2 ^ n) := sl1 (by omega)
  have key : ∀ j x I2, j + x = 2 ^ n → 0 < x → (∀ a, a ≠ 67 → I2 a = I a) → (∀ p, 0 < p → p < x → PF n y dy tk p (I2 67 p)) → UU g (d - 1) 29 kX1_countPresses (pm_rm d 29) Q 1 [some (.ref 60), some (.int (nI y)), some (.int (nI x))] [] SH I2 J (0, 0) := by
    intro j
    induction j with
    | zero =>
      intro x I2 hx hx0 ha hP
      have e7 : I2 60 7 = nI n := by rw [ha 60 (by decide), hC.1]
      have hxe : x = 2 ^ n := by omega
      subst hxe
      have hQ2 := hQ I2 ha hP
      clear hQ hP ha hC
      refine bX1_countPresses_1 ?_
      simp (disch := first | omega | decide) only [w_nl0, w_nli, w_nlr, ↓w_ts1, ↓w_ts0, w_rcv, w_rfv, w_cs, true_and, and_true, List.length_nil, List.length_cons, Nat.reduceAdd, Nat.reduceLeDiff, Nat.zero_le, Nat.reduceLT, ↓w_nil, ix_nI, nI_leP, nI_ltP, nI_eqP, nI_1, ↓i_inN, i_inN, l_le, l_lt, l_eq, r_le, r_lt, r_eq, sh60, ↓w_iload_2, ↓w_iconst, ↓w_aload_0, ↓w_gf0, ↓w_ishl, ↓w_icge, ↓w_sipush, ↓w_gf3, ↓w_iload_1, ↓w_iv, ↓pm_cl2_3, ↓w_ifeq, ↓w_goto, e7, hsl]
      repeat' (first
        | (apply And.intro)
        | (with_reducible refine bX1_countPresses_4 ?_; simp (disch := first | omega | decide) only [w_nl0, w_nli, w_nlr, ↓w_ts1, ↓w_ts0, w_rcv, w_rfv, w_cs, true_and, and_true, List.length_nil, List.length_cons, Nat.reduceAdd, Nat.reduceLeDiff, Nat.zero_le, Nat.reduceLT, ↓w_nil, ix_nI, nI_leP, nI_ltP, nI_eqP, nI_1, ↓i_inN, i_inN, l_le, l_lt, l_eq, r_le, r_lt, r_eq, sh60, ↓w_iconst, ↓w_istore_2, ↓w_iload_2, ↓w_aload_0, ↓w_gf0, ↓w_ishl, ↓w_icge, ↓w_sipush, ↓w_gf3, ↓w_iload_1, ↓w_iv, ↓pm_cl2_3, ↓w_ifeq, ↓w_goto, ↓pm_cl2_2, ↓w_i2b, ↓w_bastore, ↓w_iinc_2, ↓w_vret, e7, hsl])
        | (simp only [w_in])
        | (intro _))
      all_goals grind
    | succ j ih =>
      intro x I2 hx hx0 ha hP
      have e7 : I2 60 7 = nI n := by rw [ha 60 (by decide), hC.1]
      have hC2 : CC I2 n dy tk bd := by
        unfold CC
        rw [ha 60 (by decide), ha 63 (by decide), ha 62 (by decide), ha 64 (by decide)]
        exact hC
      have w : ∀ v, PF n y dy tk x v → UU g (d - 1) 29 kX1_countPresses (pm_rm d 29) Q 1 [some (.ref 60), some (.int (nI y)), some (.int (nI (x + 1)))] [] SH (pm_up I2 67 x v) J (0, 0) := by
        intro v hv
        refine ih (x + 1) _ (by omega) (by omega) (fun a hna => by rw [pm_up_o hna]; exact ha a hna) (fun p h1 h2 => ?_)
        rw [up_at]
        by_cases e : p = x
        · rw [if_pos e, e]; exact hv
        · rw [if_neg e]; exact hP p h1 (by omega)
      clear ih hQ
      by_cases ho : oneP n y dy tk x
      · have w1 := w 1 (pf_1 ho)
        have t1 : (1 : Int32).toInt8.toInt32 = 1 := by decide
        clear w hP hC ha
        refine bX1_countPresses_1 ?_
        simp (disch := first | omega | decide) only [w_nl0, w_nli, w_nlr, ↓w_ts1, ↓w_ts0, w_rcv, w_rfv, w_cs, true_and, and_true, List.length_nil, List.length_cons, Nat.reduceAdd, Nat.reduceLeDiff, Nat.zero_le, Nat.reduceLT, ↓w_nil, ix_nI, nI_leP, nI_ltP, nI_eqP, nI_1, ↓i_inN, i_inN, l_le, l_lt, l_eq, r_le, r_lt, r_eq, sh60, ↓w_iload_2, ↓w_iconst, ↓w_aload_0, ↓w_gf0, ↓w_ishl, ↓w_icge, ↓w_sipush, ↓w_gf3, ↓w_iload_1, ↓w_iv, ↓pm_cl2_3, ↓w_ifeq, ↓w_goto, e7, hsl]
        repeat' (first
          | (apply And.intro)
          | (with_reducible refine bX1_countPresses_3 ?_; simp (disch := first | omega | decide) only [w_nl0, w_nli, w_nlr, ↓w_ts1, ↓w_ts0, w_rcv, w_rfv, w_cs, true_and, and_true, List.length_nil, List.length_cons, Nat.reduceAdd, Nat.reduceLeDiff, Nat.zero_le, Nat.reduceLT, ↓w_nil, ix_nI, nI_leP, nI_ltP, nI_eqP, nI_1, ↓i_inN, i_inN, l_le, l_lt, l_eq, r_le, r_lt, r_eq, sh60, ↓w_iconst, ↓w_istore_2, ↓w_iload_2, ↓w_aload_0, ↓w_gf0, ↓w_ishl, ↓w_icge, ↓w_sipush, ↓w_gf3, ↓w_iload_1, ↓w_iv, ↓pm_cl2_3, ↓w_ifeq, ↓w_goto, ↓pm_cl2_2, ↓w_i2b, ↓w_bastore, ↓w_iinc_2, ↓w_vret, t1])
          | (with_reducible refine c_onePress (by omega) hn (by omega) hy hC2 (fun _ => ?_) (fun z => absurd ho z) <;> simp (disch := first | omega | decide) only [w_nl0, w_nli, w_nlr, ↓w_ts1, ↓w_ts0, w_rcv, w_rfv, w_cs, true_and, and_true, List.length_nil, List.length_cons, Nat.reduceAdd, Nat.reduceLeDiff, Nat.zero_le, Nat.reduceLT, ↓w_nil, ix_nI, nI_leP, nI_ltP, nI_eqP, nI_1, ↓i_inN, i_inN, l_le, l_lt, l_eq, r_le, r_lt, r_eq, sh60, ↓w_iconst, ↓w_istore_2, ↓w_iload_2, ↓w_aload_0, ↓w_gf0, ↓w_ishl, ↓w_icge, ↓w_sipush, ↓w_gf3, ↓w_iload_1, ↓w_iv, ↓pm_cl2_3, ↓w_ifeq, ↓w_goto, ↓pm_cl2_2, ↓w_i2b, ↓w_bastore, ↓w_iinc_2, ↓w_vret, t1])
          | (simp only [w_in])
          | (intro _))
        all_goals (clear hC2; grind)
      · have w1 : ∀ v, 2 ≤ v → v ≤ 4 → (v ≤ 2 ↔ twoP n y dy tk x) → (v ≤ 3 ↔ threeP n y dy tk x) → UU g (d - 1) 29 kX1_countPresses (pm_rm d 29) Q 1 [some (.ref 60), some (.int (nI y)), some (.int (nI (x + 1)))] [] SH (pm_up I2 67 x ((nI v).toInt8.toInt32.toInt8.toInt32)) J (0, 0) := by
          intro v v2 v4 i2 i3
          rw [b40 v (by omega), b40 v (by omega)]
          exact w (nI v) ⟨v, rfl, by omega, v4, ⟨fun z => by omega, fun z => absurd z ho⟩, i2, i3⟩
        clear w hC ha
        refine bX1_countPresses_1 ?_
        simp (disch := first | omega | decide) only [w_nl0, w_nli, w_nlr, ↓w_ts1, ↓w_ts0, w_rcv, w_rfv, w_cs, true_and, and_true, List.length_nil, List.length_cons, Nat.reduceAdd, Nat.reduceLeDiff, Nat.zero_le, Nat.reduceLT, ↓w_nil, ix_nI, nI_leP, nI_ltP, nI_eqP, nI_1, ↓i_inN, i_inN, l_le, l_lt, l_eq, r_le, r_lt, r_eq, sh60, ↓w_iload_2, ↓w_iconst, ↓w_aload_0, ↓w_gf0, ↓w_ishl, ↓w_icge, ↓w_sipush, ↓w_gf3, ↓w_iload_1, ↓w_iv, ↓pm_cl2_3, ↓w_ifeq, ↓w_goto, e7, hsl]
        repeat' (first
          | (apply And.intro)
          | (with_reducible refine bX1_countPresses_2 ?_; simp (disch := first | omega | decide) only [w_nl0, w_nli, w_nlr, ↓w_ts1, ↓w_ts0, w_rcv, w_rfv, w_cs, true_and, and_true, List.length_nil, List.length_cons, Nat.reduceAdd, Nat.reduceLeDiff, Nat.zero_le, Nat.reduceLT, ↓w_nil, ix_nI, nI_leP, nI_ltP, nI_eqP, nI_1, ↓i_inN, i_inN, l_le, l_lt, l_eq, r_le, r_lt, r_eq, sh60, ↓w_iconst, ↓w_istore_2, ↓w_iload_2, ↓w_aload_0, ↓w_gf0, ↓w_ishl, ↓w_icge, ↓w_sipush, ↓w_gf3, ↓w_iload_1, ↓w_iv, ↓pm_cl2_3, ↓w_ifeq, ↓w_goto, ↓pm_cl2_2, ↓w_i2b, ↓w_bastore, ↓w_iinc_2, ↓w_vret])
          | (with_reducible refine bX1_countPresses_3 ?_; simp (disch := first | omega | decide) only [w_nl0, w_nli, w_nlr, ↓w_ts1, ↓w_ts0, w_rcv, w_rfv, w_cs, true_and, and_true, List.length_nil, List.length_cons, Nat.reduceAdd, Nat.reduceLeDiff, Nat.zero_le, Nat.reduceLT, ↓w_nil, ix_nI, nI_leP, nI_ltP, nI_eqP, nI_1, ↓i_inN, i_inN, l_le, l_lt, l_eq, r_le, r_lt, r_eq, sh60, ↓w_iconst, ↓w_istore_2, ↓w_iload_2, ↓w_aload_0, ↓w_gf0, ↓w_ishl, ↓w_icge, ↓w_sipush, ↓w_gf3, ↓w_iload_1, ↓w_iv, ↓pm_cl2_3, ↓w_ifeq, ↓w_goto, ↓pm_cl2_2, ↓w_i2b, ↓w_bastore, ↓w_iinc_2, ↓w_vret])
          | (with_reducible refine c_onePress (by omega) hn (by omega) hy hC2 (fun z => absurd z ho) (fun _ => ?_) <;> simp (disch := first | omega | decide) only [w_nl0, w_nli, w_nlr, ↓w_ts1, ↓w_ts0, w_rcv, w_rfv, w_cs, true_and, and_true, List.length_nil, List.length_cons, Nat.reduceAdd, Nat.reduceLeDiff, Nat.zero_le, Nat.reduceLT, ↓w_nil, ix_nI, nI_leP, nI_ltP, nI_eqP, nI_1, ↓i_inN, i_inN, l_le, l_lt, l_eq, r_le, r_lt, r_eq, sh60, ↓w_iconst, ↓w_istore_2, ↓w_iload_2, ↓w_aload_0, ↓w_gf0, ↓w_ishl, ↓w_icge, ↓w_sipush, ↓w_gf3, ↓w_iload_1, ↓w_iv, ↓pm_cl2_3, ↓w_ifeq, ↓w_goto, ↓pm_cl2_2, ↓w_i2b, ↓w_bastore, ↓w_iinc_2, ↓w_vret])
          | (with_reducible refine c_fewest (by omega) hx0 (by omega) hP ho (fun v v2 v4 i2 i3 => ?_) <;> simp (disch := first | omega | decide) only [w_nl0, w_nli, w_nlr, ↓w_ts1, ↓w_ts0, w_rcv, w_rfv, w_cs, true_and, and_true, List.length_nil, List.length_cons, Nat.reduceAdd, Nat.reduceLeDiff, Nat.zero_le, Nat.reduceLT, ↓w_nil, ix_nI, nI_leP, nI_ltP, nI_eqP, nI_1, ↓i_inN, i_inN, l_le, l_lt, l_eq, r_le, r_lt, r_eq, sh60, ↓w_iconst, ↓w_istore_2, ↓w_iload_2, ↓w_aload_0, ↓w_gf0, ↓w_ishl, ↓w_icge, ↓w_sipush, ↓w_gf3, ↓w_iload_1, ↓w_iv, ↓pm_cl2_3, ↓w_ifeq, ↓w_goto, ↓pm_cl2_2, ↓w_i2b, ↓w_bastore, ↓w_iinc_2, ↓w_vret])
          | (simp only [w_in])
          | (intro _))
        all_goals try (clear hC2 hP w1; grind)
        exact Or.inl (w1 v v2 v4 i2 i3)
  have w : UU g (d - 1) 29 kX1_countPresses (pm_rm d 29) Q 1 [some (.ref 60), some (.int (nI y)), some (.int 1)] [] SH I J (0, 0) := key (2 ^ n - 1) 1 I (by have : 0 < 2 ^ n := Nat.pow_pos (by omega); omega) (by omega) (fun _ _ => rfl) (fun p h1 h2 => by omega)
  clear key hQ hC
  refine eX1_countPresses (by omega) ?_
  repeat' (first
    | (apply And.intro)
    | (with_reducible refine bX1_countPresses_0 ?_; simp (disch := first | omega | decide) only [w_nl0, w_nli, w_nlr, ↓w_ts1, ↓w_ts0, w_rcv, w_rfv, w_cs, true_and, and_true, List.length_nil, List.length_cons, Nat.reduceAdd, Nat.reduceLeDiff, Nat.zero_le, Nat.reduceLT, ↓w_nil, ix_nI, nI_leP, nI_ltP, nI_eqP, nI_1, ↓i_inN, i_inN, l_le, l_lt, l_eq, r_le, r_lt, r_eq, sh60, ↓w_iconst, ↓w_istore_2, ↓w_iload_2, ↓w_aload_0, ↓w_gf0, ↓w_ishl, ↓w_icge, ↓w_sipush, ↓w_gf3, ↓w_iload_1, ↓w_iv, ↓pm_cl2_3, ↓w_ifeq, ↓w_goto, ↓pm_cl2_2, ↓w_i2b, ↓w_bastore, ↓w_iinc_2, ↓w_vret])
    | (simp only [w_in])
    | (intro _))
  all_goals grind
/-! the first row of presses: both look for it alike -/
def updN (f : Nat → Nat) (k v : Nat) : Nat → Nat := fun j => if j = k then v else f j
noncomputable def srP (ok : Nat → Prop) (rec : (Nat → Nat) → Option (Nat → Nat)) (k : Nat) (L : Nat → Nat) : Nat → Nat → Option (Nat → Nat)
  | 0, _ => none
  | r + 1, p => @ite _ (ok (L p ||| 2 ^ k)) (Classical.propDecidable _) (match rec (updN L p (L p ||| 2 ^ k)) with | some f => some (updN f k p) | none => srP ok rec k L r (p + 1)) (srP ok rec k L r (p + 1))
noncomputable def srF (ok : Nat → Prop) (x P : Nat) : Nat → Nat → (Nat → Nat) → Option (Nat → Nat)
  | 0, _, _ => some (fun _ => 0)
  | m + 1, k, L => if x.testBit k = true then srP ok (srF ok x P m (k + 1)) k L P 0 else srF ok x P m (k + 1) L
theorem srF_some {ok : Nat → Prop} {x P n : Nat} (hsub : ∀ a b, ok a → subS b a → ok b) {A : Nat → Nat} (hA : ∀ p, p < P → ok (A p)) : ∀ m k L, m + k = n → (∀ p, p < P → subS (L p) (A p)) → (∀ j, k ≤ j → j < n → x.testBit j = true → ∃ p, p < P ∧ (A p).testBit j = true) → ∃ f, srF ok x P m k L = some f := by
  intro m
  induction m with
  | zero => intro k L _ _ _; exact ⟨_, rfl⟩
  | succ m ih =>
    intro k L hk hL hc
    by_cases hx : x.testBit k = true
    · simp only [srF, if_pos hx]
      obtain ⟨p0, hp0, hb0⟩ := hc k (Nat.le_refl k) (by omega) hx
      have hrec : ∀ p, p < P → (A p).testBit k = true → ∃ f, srF ok x P m (k + 1) (updN L p (L p ||| 2 ^ k)) = some f := by
        intro p hp hpk
        refine ih (k + 1) _ (by omega) (fun q hq => ?_) (fun j h1 h2 h3 => hc j (by omega) h2 h3)
        unfold updN
        by_cases e : q = p
        · rw [if_pos e, e]
          intro i hi
          rw [Nat.testBit_or, Nat.testBit_two_pow] at hi
          by_cases ek : k = i
          · rw [← ek]; exact hpk
          · simp [ek] at hi
            exact hL p hp i hi
        · rw [if_neg e]
          exact hL q hq
      have key : ∀ r p, r + p = P → p ≤ p0 → ∃ f, srP ok (srF ok x P m (k + 1)) k L r p = some f := by
        intro r
        induction r with
        | zero => intro p h1 h2; omega
        | succ r ihr =>
          intro p h1 h2
          simp only [srP]
          by_cases hok : ok (L p ||| 2 ^ k)
          · rw [if_pos hok]
            cases hq : srF ok x P m (k + 1) (updN L p (L p ||| 2 ^ k)) with
            | some f => exact ⟨_, rfl⟩
            | none =>
              by_cases e : p = p0
              · obtain ⟨f, hf⟩ := hrec p (by omega) (by rw [e]; exact hb0)
                rw [hf] at hq
                exact absurd hq (by simp)
              · exact ihr (p + 1) (by omega) (by omega)
          · rw [if_neg hok]
            by_cases e : p = p0
            · refine absurd (hsub (A p) _ (hA p (by omega)) (fun i hi => ?_)) hok
              rw [Nat.testBit_or, Nat.testBit_two_pow] at hi
              by_cases ek : k = i
              · rw [← ek, e]; exact hb0
              · simp [ek] at hi
                exact hL p (by omega) i hi
            · exact ihr (p + 1) (by omega) (by omega)
      exact key P 0 (by omega) (by omega)
    · simp only [srF, if_neg hx]
      exact ih (k + 1) L (by omega) hL (fun j h1 h2 h3 => hc j (by omega) h2 h3)
end C82
