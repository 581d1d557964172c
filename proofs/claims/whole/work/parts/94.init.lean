section C94
variable {g : pm_G} {d : Nat} {Q : pm_Po} {S : pm_SS} {I : pm_MI} {J : pm_ML} {k : Nat}
def rlS (S : pm_SS) (k : Nat) : Nat := (S.getD k (999, 0, [])).2.2.length
theorem kd_app {L : pm_SS} {a : Nat} (h : a < S.length) : pm_kd (S ++ L) a = pm_kd S a := by unfold pm_kd; rw [List.getD_eq_getElem?_getD, List.getD_eq_getElem?_getD, List.getElem?_append_left h]
theorem rl_app {L : pm_SS} {a : Nat} (h : a < S.length) : rlS (S ++ L) a = rlS S a := by unfold rlS; rw [List.getD_eq_getElem?_getD, List.getD_eq_getElem?_getD, List.getElem?_append_left h]
theorem len_sr {a j q : Nat} : (pm_sr S a j q).length = S.length := by unfold pm_sr; rw [List.length_set]
theorem kd_sr {a j q b : Nat} : pm_kd (pm_sr S a j q) b = pm_kd S b := by
  unfold pm_sr pm_kd
  by_cases h : b = a
  · subst h
    by_cases hl : b < S.length
    · simp [List.getD_eq_getElem?_getD, hl]
    · simp [List.getD_eq_getElem?_getD, hl]
  · simp [List.getD_eq_getElem?_getD, List.getElem?_set, Ne.symm h]
theorem rl_sr {a j q b : Nat} : rlS (pm_sr S a j q) b = rlS S b := by
  unfold pm_sr rlS
  by_cases h : b = a
  · subst h
    by_cases hl : b < S.length
    · simp [List.getD_eq_getElem?_getD, hl]
    · simp [List.getD_eq_getElem?_getD, hl]
  · simp [List.getD_eq_getElem?_getD, List.getElem?_set, Ne.symm h]
theorem rl_un {a : Nat} : (S.getD a (999, 0, [])).2.2.length = rlS S a := rfl
theorem z_id {a : Nat} (h : I a = fun _ => 0) : pm_z I a = I := by
  funext b
  unfold pm_z
  by_cases e : b = a
  · rw [if_pos e, e, h]
  · rw [if_neg e]
theorem zL_id {a : Nat} (h : J a = fun _ => 0) : pm_zL J a = J := by
  funext b
  unfold pm_zL
  by_cases e : b = a
  · rw [if_pos e, e, h]
  · rw [if_neg e]
theorem up_0 {a j : Nat} (h : I a = fun _ => 0) : pm_up I a j 0 = I := by
  have := up_id (I := I) (a := a) (i := j)
  rw [h] at this
  exact this
theorem upL_0 {a j : Nat} (h : J a = fun _ => 0) : pm_upL J a j 0 = J := by
  funext b i
  by_cases e : b = a
  · subst e
    by_cases e2 : i = j
    · subst e2
      rw [pm_upL_s, h]
    · rw [pm_upL_n e2]
  · rw [pm_upL_o e]
theorem rm_c {f : Nat} : (pm_rm d f).cells = pm_mc f := rfl
theorem rm_s {f : Nat} : (pm_rm d f).slots = pm_ms f := rfl
end C94
