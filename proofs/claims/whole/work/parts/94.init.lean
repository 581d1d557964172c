section C94
variable {g : pm_G} {d : Nat} {Q : pm_Po} {S : pm_SS} {I : pm_MI} {J : pm_ML} {k : Nat}
def rlS (S : pm_SS) (k : Nat) : Nat := (S.getD k (999, 0, [])).2.2.length
theorem kd_app {L : pm_SS} {a : Nat} (h : a < S.length) : pm_kd (S ++ L) a = pm_kd S a := by unfold pm_kd; rw [List.getD_eq_getElem?_getD, List.getD_eq_getElem?_getD, List.getElem?_append_left h]
theorem rl_app {L : pm_SS} {a : Nat} (h : a < S.length) : rlS (S ++ L) a = rlS S a := by unfold rlS; rw [List.getD_eq_getElem?_getD, List.getD_eq_getElem?_getD, List.getElem?_append_left h]
theorem len_sr {a j q : Nat} : (pm_sr S a j q).length = S.length := by unfold pm_sr; rw [List.length_set]
theorem kd_sr {a j q b : Nat} : pm_kd (pm_sr S a j q) b = pm_kd S b := by
  unfold pm_sr pm_kd
  by_cases h : b = a
  · subst h
    by_cases hl : b < S.length
    · simp [List.getD_eq_getElem?_getD, hl]
    · simp [List.getD_eq_getElem?_getD, hl]
  · simp [List.getD_eq_getElem?_getD, List.getElem?_set, Ne.symm h]
theorem rl_sr {a j q b : Nat} : rlS (pm_sr S a j q) b = rlS S b := by
  unfold pm_sr rlS
  by_cases h : b = a
  · subst h
    by_cases hl : b < S.length
    · simp [List.getD_eq_getElem?_getD, hl]
    · simp [List.getD_eq_getElem?_getD, hl]
  · simp [List.getD_eq_getElem?_getD, List.getElem?_set, Ne.symm h]
theorem rl_un {a : Nat} : (S.getD a (999, 0, [])).2.2.length = rlS S a := rfl
theorem z_id {a : Nat} (h : I a = fun _ => 0) : pm_z I a = I := by
  funext b
  unfold pm_z
  by_cases e : b = a
  · rw [if_pos e, e, h]
  · rw [if_neg e]
theorem zL_id {a : Nat} (h : J a = fun _ => 0) : pm_zL J a = J := by
  funext b
  unfold pm_zL
  by_cases e : b = a
  · rw [if_pos e, e, h]
  · rw [if_neg e]
theorem up_0 {a j : Nat} (h : I a = fun _ => 0) : pm_up I a j 0 = I := by
  have := up_id (I := I) (a := a) (i := j)
  rw [h] at this
  exact this
theorem upL_0 {a j : Nat} (h : J a = fun _ => 0) : pm_upL J a j 0 = J := by
  funext b i
  by_cases e : b = a
  · subst e
    by_cases e2 : i = j
    · subst e2
      rw [pm_upL_s, h]
    · rw [pm_upL_n e2]
  · rw [pm_upL_o e]
theorem rm_c {f : Nat} : (pm_rm d f).cells = pm_mc f := rfl
theorem rm_s {f : Nat} : (pm_rm d f).slots = pm_ms f := rfl
theorem mc_47 : pm_mc 47 = 4 := by decide +kernel
theorem ms_47 : pm_ms 47 = 240 := by decide +kernel
theorem i_Reports (hd : 1 ≤ d) (hl : S.length = k + 1) (hk : pm_kd S k = 8) (hr : rlS S k = 5) (hz : ∀ a, k ≤ a → I a = fun _ => 0) (hzJ : ∀ a, k ≤ a → J a = fun _ => 0) (hQ : Q none (pm_sr ((pm_sr ((pm_sr ((pm_sr (S ++ [(0, 60, [])]) k 0 (k + 1)) ++ [(0, 60, [])]) k 1 (k + 2)) ++ [(0, 60, [])]) k 2 (k + 3)) ++ [(3, 60, [])]) k 3 (k + 4)) I J) : pm_C g d 47 [.ref k] Q S I J := by
  have hl0 : k < S.length := by omega
  have hz1 : ∀ a, k ≤ a → pm_z I a = I := fun a h => z_id (hz a h)
  have hz2 : ∀ a, k ≤ a → pm_zL J a = J := fun a h => zL_id (hzJ a h)
  have hu1 : ∀ a j, k ≤ a → pm_up I a j 0 = I := fun a j h => up_0 (hz a h)
  have hu2 : ∀ a j, k ≤ a → pm_upL J a j 0 = J := fun a j h => upL_0 (hzJ a h)
  refine eX4_init (by omega) ?_
  refine bX4_init_0 ?_
  simp (disch := first | omega | decide | (simp only [len_sr, List.length_append, List.length_cons, List.length_nil]; omega)) only [w_nl0, w_nli, w_nlr, ↓w_ts1, ↓w_ts0, w_rcv, w_rfv, w_cs, true_and, and_true, List.length_nil, List.length_cons, Nat.reduceAdd, Nat.reduceLeDiff, Nat.zero_le, Nat.reduceLT, ↓w_nil, ix_nI, nI_leP, nI_ltP, nI_eqP, nI_1, ↓i_inN, i_inN, l_le, l_lt, l_eq, r_le, r_lt, r_eq, sh37, ↓w_aload_0, ↓w_io, ↓w_bipush, ↓w_newarray, ↓w_pf3, ↓w_iconst, ↓w_pf0, ↓w_vret, rm_c, rm_s, rl_un, kd_sr, kd_app, rl_sr, rl_app, len_sr, List.length_append, hl, hk, hr, hz1, hz2, hu1, hu2, (show (0 : Int32).toNatClampNeg = 0 by decide), (show (60 : Int32).toNatClampNeg = 60 by decide), (show ((60 : Int32) < 0) = False by decide), mc_47, ms_47, not_false_eq_true]
  exact hQ
theorem mc_86 : pm_mc 86 = 4 := by decide +kernel
theorem ms_86 : pm_ms 86 = 240 := by decide +kernel
theorem i_Sales (hd : 1 ≤ d) (hl : S.length = k + 1) (hk : pm_kd S k = 11) (hr : rlS S k = 5) (hz : ∀ a, k ≤ a → I a = fun _ => 0) (hzJ : ∀ a, k ≤ a → J a = fun _ => 0) (hQ : Q none (pm_sr ((pm_sr ((pm_sr ((pm_sr (S ++ [(0, 60, [])]) k 0 (k + 1)) ++ [(0, 60, [])]) k 1 (k + 2)) ++ [(0, 60, [])]) k 2 (k + 3)) ++ [(0, 60, [])]) k 3 (k + 4)) I J) : pm_C g d 86 [.ref k] Q S I J := by
  have hl0 : k < S.length := by omega
  have hz1 : ∀ a, k ≤ a → pm_z I a = I := fun a h => z_id (hz a h)
  have hz2 : ∀ a, k ≤ a → pm_zL J a = J := fun a h => zL_id (hzJ a h)
  have hu1 : ∀ a j, k ≤ a → pm_up I a j 0 = I := fun a j h => up_0 (hz a h)
  have hu2 : ∀ a j, k ≤ a → pm_upL J a j 0 = J := fun a j h => upL_0 (hzJ a h)
  refine eX7_init (by omega) ?_
  refine bX7_init_0 ?_
  simp (disch := first | omega | decide | (simp only [len_sr, List.length_append, List.length_cons, List.length_nil]; omega)) only [w_nl0, w_nli, w_nlr, ↓w_ts1, ↓w_ts0, w_rcv, w_rfv, w_cs, true_and, and_true, List.length_nil, List.length_cons, Nat.reduceAdd, Nat.reduceLeDiff, Nat.zero_le, Nat.reduceLT, ↓w_nil, ix_nI, nI_leP, nI_ltP, nI_eqP, nI_1, ↓i_inN, i_inN, l_le, l_lt, l_eq, r_le, r_lt, r_eq, sh55, ↓w_aload_0, ↓w_io, ↓w_bipush, ↓w_newarray, ↓w_pf3, ↓w_iconst, ↓w_pf0, ↓w_vret, rm_c, rm_s, rl_un, kd_sr, kd_app, rl_sr, rl_app, len_sr, List.length_append, hl, hk, hr, hz1, hz2, hu1, hu2, (show (0 : Int32).toNatClampNeg = 0 by decide), (show (60 : Int32).toNatClampNeg = 60 by decide), (show ((60 : Int32) < 0) = False by decide), mc_86, ms_86, not_false_eq_true]
  exact hQ
end C94
