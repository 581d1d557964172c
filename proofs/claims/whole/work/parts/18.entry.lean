theorem eX0_init {g : pm_G} {d : Nat} {Q : pm_Po} {S : pm_SS} {I : pm_MI} {J : pm_ML} {a0 : Nat} (hd : 1 ≤ d) (w : UU g (d - 1) 0 kX0_init (pm_rm d 0) Q 0 [some (.ref a0)] [] S I J (0, 0)) : pm_C g d 0 [.ref a0] Q S I J := by
  have hm : pm_mx 0 = 1 := by decide +kernel
  refine pm_ent (K := kX0_init) (by decide) rfl rfl hd (by rw [hm]; exact Nat.le_of_ble_eq_true rfl) ?_
  rw [hm]
  exact w.2
theorem eX0_has {g : pm_G} {d : Nat} {Q : pm_Po} {S : pm_SS} {I : pm_MI} {J : pm_ML} {a0 : Nat} {a1 : Int32} (hd : 1 ≤ d) (w : UU g (d - 1) 1 kX0_has (pm_rm d 1) Q 0 [some (.ref a0), some (.int a1)] [] S I J (0, 0)) : pm_C g d 1 [.ref a0, .int a1] Q S I J := by
  have hm : pm_mx 1 = 2 := by decide +kernel
  refine pm_ent (K := kX0_has) (by decide) rfl rfl hd (by rw [hm]; exact Nat.le_of_ble_eq_true rfl) ?_
  rw [hm]
  exact w.2
theorem eX0_kindOf {g : pm_G} {d : Nat} {Q : pm_Po} {S : pm_SS} {I : pm_MI} {J : pm_ML} {a0 : Nat} {a1 : Int32} (hd : 1 ≤ d) (w : UU g (d - 1) 2 kX0_kindOf (pm_rm d 2) Q 0 [some (.ref a0), some (.int a1)] [] S I J (0, 0)) : pm_C g d 2 [.ref a0, .int a1] Q S I J := by
  have hm : pm_mx 2 = 2 := by decide +kernel
  refine pm_ent (K := kX0_kindOf) (by decide) rfl rfl hd (by rw [hm]; exact Nat.le_of_ble_eq_true rfl) ?_
  rw [hm]
  exact w.2
theorem eX0_sideOf {g : pm_G} {d : Nat} {Q : pm_Po} {S : pm_SS} {I : pm_MI} {J : pm_ML} {a0 : Nat} {a1 : Int32} (hd : 1 ≤ d) (w : UU g (d - 1) 3 kX0_sideOf (pm_rm d 3) Q 0 [some (.ref a0), some (.int a1)] [] S I J (0, 0)) : pm_C g d 3 [.ref a0, .int a1] Q S I J := by
  have hm : pm_mx 3 = 2 := by decide +kernel
  refine pm_ent (K := kX0_sideOf) (by decide) rfl rfl hd (by rw [hm]; exact Nat.le_of_ble_eq_true rfl) ?_
  rw [hm]
  exact w.2
theorem eX0_fatherOf {g : pm_G} {d : Nat} {Q : pm_Po} {S : pm_SS} {I : pm_MI} {J : pm_ML} {a0 : Nat} {a1 : Int32} (hd : 1 ≤ d) (w : UU g (d - 1) 4 kX0_fatherOf (pm_rm d 4) Q 0 [some (.ref a0), some (.int a1)] [] S I J (0, 0)) : pm_C g d 4 [.ref a0, .int a1] Q S I J := by
  have hm : pm_mx 4 = 2 := by decide +kernel
  refine pm_ent (K := kX0_fatherOf) (by decide) rfl rfl hd (by rw [hm]; exact Nat.le_of_ble_eq_true rfl) ?_
  rw [hm]
  exact w.2
theorem eX0_bornOn {g : pm_G} {d : Nat} {Q : pm_Po} {S : pm_SS} {I : pm_MI} {J : pm_ML} {a0 : Nat} {a1 : Int32} (hd : 1 ≤ d) (w : UU g (d - 1) 5 kX0_bornOn (pm_rm d 5) Q 0 [some (.ref a0), some (.int a1)] [] S I J (0, 0)) : pm_C g d 5 [.ref a0, .int a1] Q S I J := by
  have hm : pm_mx 5 = 2 := by decide +kernel
  refine pm_ent (K := kX0_bornOn) (by decide) rfl rfl hd (by rw [hm]; exact Nat.le_of_ble_eq_true rfl) ?_
  rw [hm]
  exact w.2
theorem eX0_howOf {g : pm_G} {d : Nat} {Q : pm_Po} {S : pm_SS} {I : pm_MI} {J : pm_ML} {a0 : Nat} {a1 : Int32} (hd : 1 ≤ d) (w : UU g (d - 1) 6 kX0_howOf (pm_rm d 6) Q 0 [some (.ref a0), some (.int a1)] [] S I J (0, 0)) : pm_C g d 6 [.ref a0, .int a1] Q S I J := by
  have hm : pm_mx 6 = 2 := by decide +kernel
  refine pm_ent (K := kX0_howOf) (by decide) rfl rfl hd (by rw [hm]; exact Nat.le_of_ble_eq_true rfl) ?_
  rw [hm]
  exact w.2
theorem eX0_isCut {g : pm_G} {d : Nat} {Q : pm_Po} {S : pm_SS} {I : pm_MI} {J : pm_ML} {a0 : Nat} {a1 : Int32} (hd : 1 ≤ d) (w : UU g (d - 1) 7 kX0_isCut (pm_rm d 7) Q 0 [some (.ref a0), some (.int a1), none] [] S I J (0, 0)) : pm_C g d 7 [.ref a0, .int a1] Q S I J := by
  have hm : pm_mx 7 = 3 := by decide +kernel
  refine pm_ent (K := kX0_isCut) (by decide) rfl rfl hd (by rw [hm]; exact Nat.le_of_ble_eq_true rfl) ?_
  rw [hm]
  exact w.2
theorem eX0_make {g : pm_G} {d : Nat} {Q : pm_Po} {S : pm_SS} {I : pm_MI} {J : pm_ML} {a0 : Nat} {a1 : Int32} {a2 : Int32} {a3 : Int32} {a4 : Int32} {a5 : Int32} (hd : 1 ≤ d) (w : UU g (d - 1) 8 kX0_make (pm_rm d 8) Q 0 [some (.ref a0), some (.int a1), some (.int a2), some (.int a3), some (.int a4), some (.int a5), none] [] S I J (0, 0)) : pm_C g d 8 [.ref a0, .int a1, .int a2, .int a3, .int a4, .int a5] Q S I J := by
  have hm : pm_mx 8 = 7 := by decide +kernel
  refine pm_ent (K := kX0_make) (by decide) rfl rfl hd (by rw [hm]; exact Nat.le_of_ble_eq_true rfl) ?_
  rw [hm]
  exact w.2
theorem eX0_change {g : pm_G} {d : Nat} {Q : pm_Po} {S : pm_SS} {I : pm_MI} {J : pm_ML} {a0 : Nat} {a1 : Int32} {a2 : Int32} {a3 : Int32} (hd : 1 ≤ d) (w : UU g (d - 1) 9 kX0_change (pm_rm d 9) Q 0 [some (.ref a0), some (.int a1), some (.int a2), some (.int a3), none] [] S I J (0, 0)) : pm_C g d 9 [.ref a0, .int a1, .int a2, .int a3] Q S I J := by
  have hm : pm_mx 9 = 5 := by decide +kernel
  refine pm_ent (K := kX0_change) (by decide) rfl rfl hd (by rw [hm]; exact Nat.le_of_ble_eq_true rfl) ?_
  rw [hm]
  exact w.2
theorem eX0_howOn {g : pm_G} {d : Nat} {Q : pm_Po} {S : pm_SS} {I : pm_MI} {J : pm_ML} {a0 : Nat} {a1 : Int32} {a2 : Int32} (hd : 1 ≤ d) (w : UU g (d - 1) 10 kX0_howOn (pm_rm d 10) Q 0 [some (.ref a0), some (.int a1), some (.int a2), none, none] [] S I J (0, 0)) : pm_C g d 10 [.ref a0, .int a1, .int a2] Q S I J := by
  have hm : pm_mx 10 = 5 := by decide +kernel
  refine pm_ent (K := kX0_howOn) (by decide) rfl rfl hd (by rw [hm]; exact Nat.le_of_ble_eq_true rfl) ?_
  rw [hm]
  exact w.2
theorem eX0_grown {g : pm_G} {d : Nat} {Q : pm_Po} {S : pm_SS} {I : pm_MI} {J : pm_ML} {a0 : Nat} {a1 : Int32} (hd : 1 ≤ d) (w : UU g (d - 1) 11 kX0_grown (pm_rm d 11) Q 0 [some (.ref a0), some (.int a1), none, none] [] S I J (0, 0)) : pm_C g d 11 [.ref a0, .int a1] Q S I J := by
  have hm : pm_mx 11 = 4 := by decide +kernel
  refine pm_ent (K := kX0_grown) (by decide) rfl rfl hd (by rw [hm]; exact Nat.le_of_ble_eq_true rfl) ?_
  rw [hm]
  exact w.2
theorem eX0_grownOf {g : pm_G} {d : Nat} {Q : pm_Po} {S : pm_SS} {I : pm_MI} {J : pm_ML} {a0 : Nat} {a1 : Int32} {a2 : Int32} (hd : 1 ≤ d) (w : UU g (d - 1) 12 kX0_grownOf (pm_rm d 12) Q 0 [some (.ref a0), some (.int a1), some (.int a2), none, none] [] S I J (0, 0)) : pm_C g d 12 [.ref a0, .int a1, .int a2] Q S I J := by
  have hm : pm_mx 12 = 5 := by decide +kernel
  refine pm_ent (K := kX0_grownOf) (by decide) rfl rfl hd (by rw [hm]; exact Nat.le_of_ble_eq_true rfl) ?_
  rw [hm]
  exact w.2
theorem eX0_thereOf {g : pm_G} {d : Nat} {Q : pm_Po} {S : pm_SS} {I : pm_MI} {J : pm_ML} {a0 : Nat} {a1 : Int32} {a2 : Int32} (hd : 1 ≤ d) (w : UU g (d - 1) 13 kX0_thereOf (pm_rm d 13) Q 0 [some (.ref a0), some (.int a1), some (.int a2), none, none] [] S I J (0, 0)) : pm_C g d 13 [.ref a0, .int a1, .int a2] Q S I J := by
  have hm : pm_mx 13 = 5 := by decide +kernel
  refine pm_ent (K := kX0_thereOf) (by decide) rfl rfl hd (by rw [hm]; exact Nat.le_of_ble_eq_true rfl) ?_
  rw [hm]
  exact w.2
theorem eX0_there {g : pm_G} {d : Nat} {Q : pm_Po} {S : pm_SS} {I : pm_MI} {J : pm_ML} {a0 : Nat} (hd : 1 ≤ d) (w : UU g (d - 1) 14 kX0_there (pm_rm d 14) Q 0 [some (.ref a0), none, none] [] S I J (0, 0)) : pm_C g d 14 [.ref a0] Q S I J := by
  have hm : pm_mx 14 = 3 := by decide +kernel
  refine pm_ent (K := kX0_there) (by decide) rfl rfl hd (by rw [hm]; exact Nat.le_of_ble_eq_true rfl) ?_
  rw [hm]
  exact w.2
theorem eX0_madeFrom {g : pm_G} {d : Nat} {Q : pm_Po} {S : pm_SS} {I : pm_MI} {J : pm_ML} {a0 : Nat} {a1 : Int32} {a2 : Int32} {a3 : Int32} (hd : 1 ≤ d) (w : UU g (d - 1) 15 kX0_madeFrom (pm_rm d 15) Q 0 [some (.ref a0), some (.int a1), some (.int a2), some (.int a3), none, none, none] [] S I J (0, 0)) : pm_C g d 15 [.ref a0, .int a1, .int a2, .int a3] Q S I J := by
  have hm : pm_mx 15 = 7 := by decide +kernel
  refine pm_ent (K := kX0_madeFrom) (by decide) rfl rfl hd (by rw [hm]; exact Nat.le_of_ble_eq_true rfl) ?_
  rw [hm]
  exact w.2
theorem eX0_madeOf {g : pm_G} {d : Nat} {Q : pm_Po} {S : pm_SS} {I : pm_MI} {J : pm_ML} {a0 : Nat} {a1 : Int32} (hd : 1 ≤ d) (w : UU g (d - 1) 16 kX0_madeOf (pm_rm d 16) Q 0 [some (.ref a0), some (.int a1), none, none] [] S I J (0, 0)) : pm_C g d 16 [.ref a0, .int a1] Q S I J := by
  have hm : pm_mx 16 = 4 := by decide +kernel
  refine pm_ent (K := kX0_madeOf) (by decide) rfl rfl hd (by rw [hm]; exact Nat.le_of_ble_eq_true rfl) ?_
  rw [hm]
  exact w.2
theorem eX0_depth {g : pm_G} {d : Nat} {Q : pm_Po} {S : pm_SS} {I : pm_MI} {J : pm_ML} {a0 : Nat} {a1 : Int32} (hd : 1 ≤ d) (w : UU g (d - 1) 17 kX0_depth (pm_rm d 17) Q 0 [some (.ref a0), some (.int a1), none, none] [] S I J (0, 0)) : pm_C g d 17 [.ref a0, .int a1] Q S I J := by
  have hm : pm_mx 17 = 4 := by decide +kernel
  refine pm_ent (K := kX0_depth) (by decide) rfl rfl hd (by rw [hm]; exact Nat.le_of_ble_eq_true rfl) ?_
  rw [hm]
  exact w.2
theorem eX0_firstAbove {g : pm_G} {d : Nat} {Q : pm_Po} {S : pm_SS} {I : pm_MI} {J : pm_ML} {a0 : Nat} {a1 : Int32} (hd : 1 ≤ d) (w : UU g (d - 1) 18 kX0_firstAbove (pm_rm d 18) Q 0 [some (.ref a0), some (.int a1), none, none] [] S I J (0, 0)) : pm_C g d 18 [.ref a0, .int a1] Q S I J := by
  have hm : pm_mx 18 = 4 := by decide +kernel
  refine pm_ent (K := kX0_firstAbove) (by decide) rfl rfl hd (by rw [hm]; exact Nat.le_of_ble_eq_true rfl) ?_
  rw [hm]
  exact w.2
theorem eX0_fact {g : pm_G} {d : Nat} {Q : pm_Po} {S : pm_SS} {I : pm_MI} {J : pm_ML} {a0 : Nat} {a1 : Int32} {a2 : Int32} (hd : 1 ≤ d) (w : UU g (d - 1) 19 kX0_fact (pm_rm d 19) Q 0 [some (.ref a0), some (.int a1), some (.int a2)] [] S I J (0, 0)) : pm_C g d 19 [.ref a0, .int a1, .int a2] Q S I J := by
  have hm : pm_mx 19 = 3 := by decide +kernel
  refine pm_ent (K := kX0_fact) (by decide) rfl rfl hd (by rw [hm]; exact Nat.le_of_ble_eq_true rfl) ?_
  rw [hm]
  exact w.2
theorem eX0_turnOn {g : pm_G} {d : Nat} {Q : pm_Po} {S : pm_SS} {I : pm_MI} {J : pm_ML} {a0 : Nat} {a1 : Int32} {a2 : Int32} (hd : 1 ≤ d) (w : UU g (d - 1) 20 kX0_turnOn (pm_rm d 20) Q 0 [some (.ref a0), some (.int a1), some (.int a2), none] [] S I J (0, 0)) : pm_C g d 20 [.ref a0, .int a1, .int a2] Q S I J := by
  have hm : pm_mx 20 = 4 := by decide +kernel
  refine pm_ent (K := kX0_turnOn) (by decide) rfl rfl hd (by rw [hm]; exact Nat.le_of_ble_eq_true rfl) ?_
  rw [hm]
  exact w.2
theorem eX0_mix {g : pm_G} {d : Nat} {Q : pm_Po} {S : pm_SS} {I : pm_MI} {J : pm_ML} {a0 : Nat} {a1 : Int64} (hd : 1 ≤ d) (w : UU g (d - 1) 21 kX0_mix (pm_rm d 21) Q 0 [some (.ref a0), some (.long a1), none, none, none] [] S I J (0, 0)) : pm_C g d 21 [.ref a0, .long a1] Q S I J := by
  have hm : pm_mx 21 = 5 := by decide +kernel
  refine pm_ent (K := kX0_mix) (by decide) rfl rfl hd (by rw [hm]; exact Nat.le_of_ble_eq_true rfl) ?_
  rw [hm]
  exact w.2
theorem eX1_init {g : pm_G} {d : Nat} {Q : pm_Po} {S : pm_SS} {I : pm_MI} {J : pm_ML} {a0 : Nat} (hd : 1 ≤ d) (w : UU g (d - 1) 22 kX1_init (pm_rm d 22) Q 0 [some (.ref a0), none] [] S I J (0, 0)) : pm_C g d 22 [.ref a0] Q S I J := by
  have hm : pm_mx 22 = 2 := by decide +kernel
  refine pm_ent (K := kX1_init) (by decide) rfl rfl hd (by rw [hm]; exact Nat.le_of_ble_eq_true rfl) ?_
  rw [hm]
  exact w.2
theorem eX1_has {g : pm_G} {d : Nat} {Q : pm_Po} {S : pm_SS} {I : pm_MI} {J : pm_ML} {a0 : Nat} {a1 : Int32} (hd : 1 ≤ d) (w : UU g (d - 1) 23 kX1_has (pm_rm d 23) Q 0 [some (.ref a0), some (.int a1)] [] S I J (0, 0)) : pm_C g d 23 [.ref a0, .int a1] Q S I J := by
  have hm : pm_mx 23 = 2 := by decide +kernel
  refine pm_ent (K := kX1_has) (by decide) rfl rfl hd (by rw [hm]; exact Nat.le_of_ble_eq_true rfl) ?_
  rw [hm]
  exact w.2
theorem eX1_make {g : pm_G} {d : Nat} {Q : pm_Po} {S : pm_SS} {I : pm_MI} {J : pm_ML} {a0 : Nat} {a1 : Int32} {a2 : Int32} (hd : 1 ≤ d) (w : UU g (d - 1) 24 kX1_make (pm_rm d 24) Q 0 [some (.ref a0), some (.int a1), some (.int a2), none] [] S I J (0, 0)) : pm_C g d 24 [.ref a0, .int a1, .int a2] Q S I J := by
  have hm : pm_mx 24 = 4 := by decide +kernel
  refine pm_ent (K := kX1_make) (by decide) rfl rfl hd (by rw [hm]; exact Nat.le_of_ble_eq_true rfl) ?_
  rw [hm]
  exact w.2
theorem eX1_pressOf {g : pm_G} {d : Nat} {Q : pm_Po} {S : pm_SS} {I : pm_MI} {J : pm_ML} {a0 : Nat} {a1 : Int32} (hd : 1 ≤ d) (w : UU g (d - 1) 25 kX1_pressOf (pm_rm d 25) Q 0 [some (.ref a0), some (.int a1)] [] S I J (0, 0)) : pm_C g d 25 [.ref a0, .int a1] Q S I J := by
  have hm : pm_mx 25 = 2 := by decide +kernel
  refine pm_ent (K := kX1_pressOf) (by decide) rfl rfl hd (by rw [hm]; exact Nat.le_of_ble_eq_true rfl) ?_
  rw [hm]
  exact w.2
theorem eX1_choose {g : pm_G} {d : Nat} {Q : pm_Po} {S : pm_SS} {I : pm_MI} {J : pm_ML} {a0 : Nat} {a1 : Int32} {a2 : Int32} {a3 : Int32} (hd : 1 ≤ d) (w : UU g (d - 1) 26 kX1_choose (pm_rm d 26) Q 0 [some (.ref a0), some (.int a1), some (.int a2), some (.int a3), none] [] S I J (0, 0)) : pm_C g d 26 [.ref a0, .int a1, .int a2, .int a3] Q S I J := by
  have hm : pm_mx 26 = 5 := by decide +kernel
  refine pm_ent (K := kX1_choose) (by decide) rfl rfl hd (by rw [hm]; exact Nat.le_of_ble_eq_true rfl) ?_
  rw [hm]
  exact w.2
theorem eX1_sortByDay {g : pm_G} {d : Nat} {Q : pm_Po} {S : pm_SS} {I : pm_MI} {J : pm_ML} {a0 : Nat} (hd : 1 ≤ d) (w : UU g (d - 1) 27 kX1_sortByDay (pm_rm d 27) Q 0 [some (.ref a0), none, none] [] S I J (0, 0)) : pm_C g d 27 [.ref a0] Q S I J := by
  have hm : pm_mx 27 = 3 := by decide +kernel
  refine pm_ent (K := kX1_sortByDay) (by decide) rfl rfl hd (by rw [hm]; exact Nat.le_of_ble_eq_true rfl) ?_
  rw [hm]
  exact w.2
theorem eX1_copiesIn {g : pm_G} {d : Nat} {Q : pm_Po} {S : pm_SS} {I : pm_MI} {J : pm_ML} {a0 : Nat} {a1 : Int32} (hd : 1 ≤ d) (w : UU g (d - 1) 28 kX1_copiesIn (pm_rm d 28) Q 0 [some (.ref a0), some (.int a1), none, none] [] S I J (0, 0)) : pm_C g d 28 [.ref a0, .int a1] Q S I J := by
  have hm : pm_mx 28 = 4 := by decide +kernel
  refine pm_ent (K := kX1_copiesIn) (by decide) rfl rfl hd (by rw [hm]; exact Nat.le_of_ble_eq_true rfl) ?_
  rw [hm]
  exact w.2
theorem eX1_countPresses {g : pm_G} {d : Nat} {Q : pm_Po} {S : pm_SS} {I : pm_MI} {J : pm_ML} {a0 : Nat} {a1 : Int32} (hd : 1 ≤ d) (w : UU g (d - 1) 29 kX1_countPresses (pm_rm d 29) Q 0 [some (.ref a0), some (.int a1), none] [] S I J (0, 0)) : pm_C g d 29 [.ref a0, .int a1] Q S I J := by
  have hm : pm_mx 29 = 3 := by decide +kernel
  refine pm_ent (K := kX1_countPresses) (by decide) rfl rfl hd (by rw [hm]; exact Nat.le_of_ble_eq_true rfl) ?_
  rw [hm]
  exact w.2
theorem eX1_onePressMeets {g : pm_G} {d : Nat} {Q : pm_Po} {S : pm_SS} {I : pm_MI} {J : pm_ML} {a0 : Nat} {a1 : Int32} {a2 : Int32} (hd : 1 ≤ d) (w : UU g (d - 1) 30 kX1_onePressMeets (pm_rm d 30) Q 0 [some (.ref a0), some (.int a1), some (.int a2), none, none, none] [] S I J (0, 0)) : pm_C g d 30 [.ref a0, .int a1, .int a2] Q S I J := by
  have hm : pm_mx 30 = 6 := by decide +kernel
  refine pm_ent (K := kX1_onePressMeets) (by decide) rfl rfl hd (by rw [hm]; exact Nat.le_of_ble_eq_true rfl) ?_
  rw [hm]
  exact w.2
theorem eX1_fewestPresses {g : pm_G} {d : Nat} {Q : pm_Po} {S : pm_SS} {I : pm_MI} {J : pm_ML} {a0 : Nat} {a1 : Int32} (hd : 1 ≤ d) (w : UU g (d - 1) 31 kX1_fewestPresses (pm_rm d 31) Q 0 [some (.ref a0), some (.int a1), none, none, none] [] S I J (0, 0)) : pm_C g d 31 [.ref a0, .int a1] Q S I J := by
  have hm : pm_mx 31 = 5 := by decide +kernel
  refine pm_ent (K := kX1_fewestPresses) (by decide) rfl rfl hd (by rw [hm]; exact Nat.le_of_ble_eq_true rfl) ?_
  rw [hm]
  exact w.2
theorem eX1_assign {g : pm_G} {d : Nat} {Q : pm_Po} {S : pm_SS} {I : pm_MI} {J : pm_ML} {a0 : Nat} {a1 : Int32} {a2 : Int32} (hd : 1 ≤ d) (w : UU g (d - 1) 32 kX1_assign (pm_rm d 32) Q 0 [some (.ref a0), some (.int a1), some (.int a2), none, none] [] S I J (0, 0)) : pm_C g d 32 [.ref a0, .int a1, .int a2] Q S I J := by
  have hm : pm_mx 32 = 5 := by decide +kernel
  refine pm_ent (K := kX1_assign) (by decide) rfl rfl hd (by rw [hm]; exact Nat.le_of_ble_eq_true rfl) ?_
  rw [hm]
  exact w.2
theorem eX1_mix {g : pm_G} {d : Nat} {Q : pm_Po} {S : pm_SS} {I : pm_MI} {J : pm_ML} {a0 : Nat} {a1 : Int64} (hd : 1 ≤ d) (w : UU g (d - 1) 33 kX1_mix (pm_rm d 33) Q 0 [some (.ref a0), some (.long a1), none, none] [] S I J (0, 0)) : pm_C g d 33 [.ref a0, .long a1] Q S I J := by
  have hm : pm_mx 33 = 4 := by decide +kernel
  refine pm_ent (K := kX1_mix) (by decide) rfl rfl hd (by rw [hm]; exact Nat.le_of_ble_eq_true rfl) ?_
  rw [hm]
  exact w.2
theorem eX2_init {g : pm_G} {d : Nat} {Q : pm_Po} {S : pm_SS} {I : pm_MI} {J : pm_ML} {a0 : Nat} (hd : 1 ≤ d) (w : UU g (d - 1) 34 kX2_init (pm_rm d 34) Q 0 [some (.ref a0)] [] S I J (0, 0)) : pm_C g d 34 [.ref a0] Q S I J := by
  have hm : pm_mx 34 = 1 := by decide +kernel
  refine pm_ent (K := kX2_init) (by decide) rfl rfl hd (by rw [hm]; exact Nat.le_of_ble_eq_true rfl) ?_
  rw [hm]
  exact w.2
theorem eX2_gather {g : pm_G} {d : Nat} {Q : pm_Po} {S : pm_SS} {I : pm_MI} {J : pm_ML} {a0 : Nat} {a1 : Nat} {a2 : Nat} (hd : 1 ≤ d) (w : UU g (d - 1) 35 kX2_gather (pm_rm d 35) Q 0 [some (.ref a0), some (.ref a1), some (.ref a2), none, none] [] S I J (0, 0)) : pm_C g d 35 [.ref a0, .ref a1, .ref a2] Q S I J := by
  have hm : pm_mx 35 = 5 := by decide +kernel
  refine pm_ent (K := kX2_gather) (by decide) rfl rfl hd (by rw [hm]; exact Nat.le_of_ble_eq_true rfl) ?_
  rw [hm]
  exact w.2
theorem eX2_gatherDays {g : pm_G} {d : Nat} {Q : pm_Po} {S : pm_SS} {I : pm_MI} {J : pm_ML} {a0 : Nat} {a1 : Nat} {a2 : Nat} {a3 : Int32} (hd : 1 ≤ d) (w : UU g (d - 1) 36 kX2_gatherDays (pm_rm d 36) Q 0 [some (.ref a0), some (.ref a1), some (.ref a2), some (.int a3), none] [] S I J (0, 0)) : pm_C g d 36 [.ref a0, .ref a1, .ref a2, .int a3] Q S I J := by
  have hm : pm_mx 36 = 5 := by decide +kernel
  refine pm_ent (K := kX2_gatherDays) (by decide) rfl rfl hd (by rw [hm]; exact Nat.le_of_ble_eq_true rfl) ?_
  rw [hm]
  exact w.2
theorem eX2_addDay {g : pm_G} {d : Nat} {Q : pm_Po} {S : pm_SS} {I : pm_MI} {J : pm_ML} {a0 : Nat} {a1 : Int32} {a2 : Int32} (hd : 1 ≤ d) (w : UU g (d - 1) 37 kX2_addDay (pm_rm d 37) Q 0 [some (.ref a0), some (.int a1), some (.int a2), none, none] [] S I J (0, 0)) : pm_C g d 37 [.ref a0, .int a1, .int a2] Q S I J := by
  have hm : pm_mx 37 = 5 := by decide +kernel
  refine pm_ent (K := kX2_addDay) (by decide) rfl rfl hd (by rw [hm]; exact Nat.le_of_ble_eq_true rfl) ?_
  rw [hm]
  exact w.2
theorem eX2_add {g : pm_G} {d : Nat} {Q : pm_Po} {S : pm_SS} {I : pm_MI} {J : pm_ML} {a0 : Nat} {a1 : Int32} {a2 : Int32} {a3 : Int32} {a4 : Int32} (hd : 1 ≤ d) (w : UU g (d - 1) 38 kX2_add (pm_rm d 38) Q 0 [some (.ref a0), some (.int a1), some (.int a2), some (.int a3), some (.int a4)] [] S I J (0, 0)) : pm_C g d 38 [.ref a0, .int a1, .int a2, .int a3, .int a4] Q S I J := by
  have hm : pm_mx 38 = 5 := by decide +kernel
  refine pm_ent (K := kX2_add) (by decide) rfl rfl hd (by rw [hm]; exact Nat.le_of_ble_eq_true rfl) ?_
  rw [hm]
  exact w.2
theorem eX2_coverMetals {g : pm_G} {d : Nat} {Q : pm_Po} {S : pm_SS} {I : pm_MI} {J : pm_ML} {a0 : Nat} {a1 : Nat} {a2 : Nat} {a3 : Int32} {a4 : Int32} (hd : 1 ≤ d) (w : UU g (d - 1) 39 kX2_coverMetals (pm_rm d 39) Q 0 [some (.ref a0), some (.ref a1), some (.ref a2), some (.int a3), some (.int a4), none, none, none, none] [] S I J (0, 0)) : pm_C g d 39 [.ref a0, .ref a1, .ref a2, .int a3, .int a4] Q S I J := by
  have hm : pm_mx 39 = 9 := by decide +kernel
  refine pm_ent (K := kX2_coverMetals) (by decide) rfl rfl hd (by rw [hm]; exact Nat.le_of_ble_eq_true rfl) ?_
  rw [hm]
  exact w.2
theorem eX3_init {g : pm_G} {d : Nat} {Q : pm_Po} {S : pm_SS} {I : pm_MI} {J : pm_ML} {a0 : Nat} (hd : 1 ≤ d) (w : UU g (d - 1) 40 kX3_init (pm_rm d 40) Q 0 [some (.ref a0), none] [] S I J (0, 0)) : pm_C g d 40 [.ref a0] Q S I J := by
  have hm : pm_mx 40 = 2 := by decide +kernel
  refine pm_ent (K := kX3_init) (by decide) rfl rfl hd (by rw [hm]; exact Nat.le_of_ble_eq_true rfl) ?_
  rw [hm]
  exact w.2
theorem eX3_stamper {g : pm_G} {d : Nat} {Q : pm_Po} {S : pm_SS} {I : pm_MI} {J : pm_ML} {a0 : Nat} {a1 : Int32} {a2 : Int32} (hd : 1 ≤ d) (w : UU g (d - 1) 41 kX3_stamper (pm_rm d 41) Q 0 [some (.ref a0), some (.int a1), some (.int a2)] [] S I J (0, 0)) : pm_C g d 41 [.ref a0, .int a1, .int a2] Q S I J := by
  have hm : pm_mx 41 = 3 := by decide +kernel
  refine pm_ent (K := kX3_stamper) (by decide) rfl rfl hd (by rw [hm]; exact Nat.le_of_ble_eq_true rfl) ?_
  rw [hm]
  exact w.2
theorem eX3_empty {g : pm_G} {d : Nat} {Q : pm_Po} {S : pm_SS} {I : pm_MI} {J : pm_ML} {a0 : Nat} {a1 : Int32} (hd : 1 ≤ d) (w : UU g (d - 1) 42 kX3_empty (pm_rm d 42) Q 0 [some (.ref a0), some (.int a1)] [] S I J (0, 0)) : pm_C g d 42 [.ref a0, .int a1] Q S I J := by
  have hm : pm_mx 42 = 2 := by decide +kernel
  refine pm_ent (K := kX3_empty) (by decide) rfl rfl hd (by rw [hm]; exact Nat.le_of_ble_eq_true rfl) ?_
  rw [hm]
  exact w.2
theorem eX3_hold {g : pm_G} {d : Nat} {Q : pm_Po} {S : pm_SS} {I : pm_MI} {J : pm_ML} {a0 : Nat} {a1 : Int32} (hd : 1 ≤ d) (w : UU g (d - 1) 43 kX3_hold (pm_rm d 43) Q 0 [some (.ref a0), some (.int a1), none] [] S I J (0, 0)) : pm_C g d 43 [.ref a0, .int a1] Q S I J := by
  have hm : pm_mx 43 = 3 := by decide +kernel
  refine pm_ent (K := kX3_hold) (by decide) rfl rfl hd (by rw [hm]; exact Nat.le_of_ble_eq_true rfl) ?_
  rw [hm]
  exact w.2
theorem eX3_load {g : pm_G} {d : Nat} {Q : pm_Po} {S : pm_SS} {I : pm_MI} {J : pm_ML} {a0 : Nat} {a1 : Int32} {a2 : Int32} {a3 : Int32} (hd : 1 ≤ d) (w : UU g (d - 1) 44 kX3_load (pm_rm d 44) Q 0 [some (.ref a0), some (.int a1), some (.int a2), some (.int a3)] [] S I J (0, 0)) : pm_C g d 44 [.ref a0, .int a1, .int a2, .int a3] Q S I J := by
  have hm : pm_mx 44 = 4 := by decide +kernel
  refine pm_ent (K := kX3_load) (by decide) rfl rfl hd (by rw [hm]; exact Nat.le_of_ble_eq_true rfl) ?_
  rw [hm]
  exact w.2
theorem eX3_shift {g : pm_G} {d : Nat} {Q : pm_Po} {S : pm_SS} {I : pm_MI} {J : pm_ML} {a0 : Nat} {a1 : Int32} {a2 : Int32} {a3 : Int32} (hd : 1 ≤ d) (w : UU g (d - 1) 45 kX3_shift (pm_rm d 45) Q 0 [some (.ref a0), some (.int a1), some (.int a2), some (.int a3)] [] S I J (0, 0)) : pm_C g d 45 [.ref a0, .int a1, .int a2, .int a3] Q S I J := by
  have hm : pm_mx 45 = 4 := by decide +kernel
  refine pm_ent (K := kX3_shift) (by decide) rfl rfl hd (by rw [hm]; exact Nat.le_of_ble_eq_true rfl) ?_
  rw [hm]
  exact w.2
theorem eX3_mix {g : pm_G} {d : Nat} {Q : pm_Po} {S : pm_SS} {I : pm_MI} {J : pm_ML} {a0 : Nat} {a1 : Int64} (hd : 1 ≤ d) (w : UU g (d - 1) 46 kX3_mix (pm_rm d 46) Q 0 [some (.ref a0), some (.long a1), none, none] [] S I J (0, 0)) : pm_C g d 46 [.ref a0, .long a1] Q S I J := by
  have hm : pm_mx 46 = 4 := by decide +kernel
  refine pm_ent (K := kX3_mix) (by decide) rfl rfl hd (by rw [hm]; exact Nat.le_of_ble_eq_true rfl) ?_
  rw [hm]
  exact w.2
theorem eX4_init {g : pm_G} {d : Nat} {Q : pm_Po} {S : pm_SS} {I : pm_MI} {J : pm_ML} {a0 : Nat} (hd : 1 ≤ d) (w : UU g (d - 1) 47 kX4_init (pm_rm d 47) Q 0 [some (.ref a0)] [] S I J (0, 0)) : pm_C g d 47 [.ref a0] Q S I J := by
  have hm : pm_mx 47 = 1 := by decide +kernel
  refine pm_ent (K := kX4_init) (by decide) rfl rfl hd (by rw [hm]; exact Nat.le_of_ble_eq_true rfl) ?_
  rw [hm]
  exact w.2
theorem eX4_make {g : pm_G} {d : Nat} {Q : pm_Po} {S : pm_SS} {I : pm_MI} {J : pm_ML} {a0 : Nat} {a1 : Int32} {a2 : Int32} {a3 : Int32} {a4 : Int32} (hd : 1 ≤ d) (w : UU g (d - 1) 48 kX4_make (pm_rm d 48) Q 0 [some (.ref a0), some (.int a1), some (.int a2), some (.int a3), some (.int a4), none] [] S I J (0, 0)) : pm_C g d 48 [.ref a0, .int a1, .int a2, .int a3, .int a4] Q S I J := by
  have hm : pm_mx 48 = 6 := by decide +kernel
  refine pm_ent (K := kX4_make) (by decide) rfl rfl hd (by rw [hm]; exact Nat.le_of_ble_eq_true rfl) ?_
  rw [hm]
  exact w.2
theorem eX4_faceBit {g : pm_G} {d : Nat} {Q : pm_Po} {S : pm_SS} {I : pm_MI} {J : pm_ML} {a0 : Nat} {a1 : Int32} (hd : 1 ≤ d) (w : UU g (d - 1) 49 kX4_faceBit (pm_rm d 49) Q 0 [some (.ref a0), some (.int a1)] [] S I J (0, 0)) : pm_C g d 49 [.ref a0, .int a1] Q S I J := by
  have hm : pm_mx 49 = 2 := by decide +kernel
  refine pm_ent (K := kX4_faceBit) (by decide) rfl rfl hd (by rw [hm]; exact Nat.le_of_ble_eq_true rfl) ?_
  rw [hm]
  exact w.2
theorem eX4_tells {g : pm_G} {d : Nat} {Q : pm_Po} {S : pm_SS} {I : pm_MI} {J : pm_ML} {a0 : Nat} {a1 : Int32} {a2 : Int32} {a3 : Int32} (hd : 1 ≤ d) (w : UU g (d - 1) 50 kX4_tells (pm_rm d 50) Q 0 [some (.ref a0), some (.int a1), some (.int a2), some (.int a3)] [] S I J (0, 0)) : pm_C g d 50 [.ref a0, .int a1, .int a2, .int a3] Q S I J := by
  have hm : pm_mx 50 = 4 := by decide +kernel
  refine pm_ent (K := kX4_tells) (by decide) rfl rfl hd (by rw [hm]; exact Nat.le_of_ble_eq_true rfl) ?_
  rw [hm]
  exact w.2
theorem eX4_faces {g : pm_G} {d : Nat} {Q : pm_Po} {S : pm_SS} {I : pm_MI} {J : pm_ML} {a0 : Nat} {a1 : Int32} {a2 : Int32} (hd : 1 ≤ d) (w : UU g (d - 1) 51 kX4_faces (pm_rm d 51) Q 0 [some (.ref a0), some (.int a1), some (.int a2), none, none, none] [] S I J (0, 0)) : pm_C g d 51 [.ref a0, .int a1, .int a2] Q S I J := by
  have hm : pm_mx 51 = 6 := by decide +kernel
  refine pm_ent (K := kX4_faces) (by decide) rfl rfl hd (by rw [hm]; exact Nat.le_of_ble_eq_true rfl) ?_
  rw [hm]
  exact w.2
theorem eX4_mix {g : pm_G} {d : Nat} {Q : pm_Po} {S : pm_SS} {I : pm_MI} {J : pm_ML} {a0 : Nat} {a1 : Int64} (hd : 1 ≤ d) (w : UU g (d - 1) 52 kX4_mix (pm_rm d 52) Q 0 [some (.ref a0), some (.long a1), none, none] [] S I J (0, 0)) : pm_C g d 52 [.ref a0, .long a1] Q S I J := by
  have hm : pm_mx 52 = 4 := by decide +kernel
  refine pm_ent (K := kX4_mix) (by decide) rfl rfl hd (by rw [hm]; exact Nat.le_of_ble_eq_true rfl) ?_
  rw [hm]
  exact w.2
theorem eX5_init {g : pm_G} {d : Nat} {Q : pm_Po} {S : pm_SS} {I : pm_MI} {J : pm_ML} {a0 : Nat} (hd : 1 ≤ d) (w : UU g (d - 1) 53 kX5_init (pm_rm d 53) Q 0 [some (.ref a0)] [] S I J (0, 0)) : pm_C g d 53 [.ref a0] Q S I J := by
  have hm : pm_mx 53 = 1 := by decide +kernel
  refine pm_ent (K := kX5_init) (by decide) rfl rfl hd (by rw [hm]; exact Nat.le_of_ble_eq_true rfl) ?_
  rw [hm]
  exact w.2
theorem eX5_growing {g : pm_G} {d : Nat} {Q : pm_Po} {S : pm_SS} {I : pm_MI} {J : pm_ML} {a0 : Int32} {a1 : Int32} (hd : 1 ≤ d) (w : UU g (d - 1) 54 kX5_growing (pm_rm d 54) Q 0 [some (.int a0), some (.int a1)] [] S I J (0, 0)) : pm_C g d 54 [.int a0, .int a1] Q S I J := by
  have hm : pm_mx 54 = 2 := by decide +kernel
  refine pm_ent (K := kX5_growing) (by decide) rfl rfl hd (by rw [hm]; exact Nat.le_of_ble_eq_true rfl) ?_
  rw [hm]
  exact w.2
theorem eX5_paying {g : pm_G} {d : Nat} {Q : pm_Po} {S : pm_SS} {I : pm_MI} {J : pm_ML} {a0 : Int32} (hd : 1 ≤ d) (w : UU g (d - 1) 55 kX5_paying (pm_rm d 55) Q 0 [some (.int a0)] [] S I J (0, 0)) : pm_C g d 55 [.int a0] Q S I J := by
  have hm : pm_mx 55 = 1 := by decide +kernel
  refine pm_ent (K := kX5_paying) (by decide) rfl rfl hd (by rw [hm]; exact Nat.le_of_ble_eq_true rfl) ?_
  rw [hm]
  exact w.2
theorem eX5_selling {g : pm_G} {d : Nat} {Q : pm_Po} {S : pm_SS} {I : pm_MI} {J : pm_ML} {a0 : Int32} (hd : 1 ≤ d) (w : UU g (d - 1) 56 kX5_selling (pm_rm d 56) Q 0 [some (.int a0)] [] S I J (0, 0)) : pm_C g d 56 [.int a0] Q S I J := by
  have hm : pm_mx 56 = 1 := by decide +kernel
  refine pm_ent (K := kX5_selling) (by decide) rfl rfl hd (by rw [hm]; exact Nat.le_of_ble_eq_true rfl) ?_
  rw [hm]
  exact w.2
theorem eX5_thing {g : pm_G} {d : Nat} {Q : pm_Po} {S : pm_SS} {I : pm_MI} {J : pm_ML} {a0 : Int32} {a1 : Int32} {a2 : Int32} (hd : 1 ≤ d) (w : UU g (d - 1) 57 kX5_thing (pm_rm d 57) Q 0 [some (.int a0), some (.int a1), some (.int a2)] [] S I J (0, 0)) : pm_C g d 57 [.int a0, .int a1, .int a2] Q S I J := by
  have hm : pm_mx 57 = 3 := by decide +kernel
  refine pm_ent (K := kX5_thing) (by decide) rfl rfl hd (by rw [hm]; exact Nat.le_of_ble_eq_true rfl) ?_
  rw [hm]
  exact w.2
theorem eX5_unruled {g : pm_G} {d : Nat} {Q : pm_Po} {S : pm_SS} {I : pm_MI} {J : pm_ML} {a0 : Int32} (hd : 1 ≤ d) (w : UU g (d - 1) 58 kX5_unruled (pm_rm d 58) Q 0 [some (.int a0)] [] S I J (0, 0)) : pm_C g d 58 [.int a0] Q S I J := by
  have hm : pm_mx 58 = 1 := by decide +kernel
  refine pm_ent (K := kX5_unruled) (by decide) rfl rfl hd (by rw [hm]; exact Nat.le_of_ble_eq_true rfl) ?_
  rw [hm]
  exact w.2
theorem eX5_ruleFor {g : pm_G} {d : Nat} {Q : pm_Po} {S : pm_SS} {I : pm_MI} {J : pm_ML} {a0 : Nat} {a1 : Int32} {a2 : Int32} {a3 : Int32} (hd : 1 ≤ d) (w : UU g (d - 1) 59 kX5_ruleFor (pm_rm d 59) Q 0 [some (.ref a0), some (.int a1), some (.int a2), some (.int a3), none, none, none, none] [] S I J (0, 0)) : pm_C g d 59 [.ref a0, .int a1, .int a2, .int a3] Q S I J := by
  have hm : pm_mx 59 = 8 := by decide +kernel
  refine pm_ent (K := kX5_ruleFor) (by decide) rfl rfl hd (by rw [hm]; exact Nat.le_of_ble_eq_true rfl) ?_
  rw [hm]
  exact w.2
theorem eX5_inForce {g : pm_G} {d : Nat} {Q : pm_Po} {S : pm_SS} {I : pm_MI} {J : pm_ML} {a0 : Nat} {a1 : Int32} {a2 : Int32} {a3 : Int32} (hd : 1 ≤ d) (w : UU g (d - 1) 60 kX5_inForce (pm_rm d 60) Q 0 [some (.ref a0), some (.int a1), some (.int a2), some (.int a3), none] [] S I J (0, 0)) : pm_C g d 60 [.ref a0, .int a1, .int a2, .int a3] Q S I J := by
  have hm : pm_mx 60 = 5 := by decide +kernel
  refine pm_ent (K := kX5_inForce) (by decide) rfl rfl hd (by rw [hm]; exact Nat.le_of_ble_eq_true rfl) ?_
  rw [hm]
  exact w.2
theorem eX5_value {g : pm_G} {d : Nat} {Q : pm_Po} {S : pm_SS} {I : pm_MI} {J : pm_ML} {a0 : Nat} {a1 : Int32} {a2 : Int32} (hd : 1 ≤ d) (w : UU g (d - 1) 61 kX5_value (pm_rm d 61) Q 0 [some (.ref a0), some (.int a1), some (.int a2)] [] S I J (0, 0)) : pm_C g d 61 [.ref a0, .int a1, .int a2] Q S I J := by
  have hm : pm_mx 61 = 3 := by decide +kernel
  refine pm_ent (K := kX5_value) (by decide) rfl rfl hd (by rw [hm]; exact Nat.le_of_ble_eq_true rfl) ?_
  rw [hm]
  exact w.2
theorem eX5_make {g : pm_G} {d : Nat} {Q : pm_Po} {S : pm_SS} {I : pm_MI} {J : pm_ML} {a0 : Nat} {a1 : Int32} {a2 : Int32} (hd : 1 ≤ d) (w : UU g (d - 1) 62 kX5_make (pm_rm d 62) Q 0 [some (.ref a0), some (.int a1), some (.int a2), none, none] [] S I J (0, 0)) : pm_C g d 62 [.ref a0, .int a1, .int a2] Q S I J := by
  have hm : pm_mx 62 = 5 := by decide +kernel
  refine pm_ent (K := kX5_make) (by decide) rfl rfl hd (by rw [hm]; exact Nat.le_of_ble_eq_true rfl) ?_
  rw [hm]
  exact w.2
theorem eX5_read {g : pm_G} {d : Nat} {Q : pm_Po} {S : pm_SS} {I : pm_MI} {J : pm_ML} {a0 : Nat} {a1 : Nat} {a2 : Int32} (hd : 1 ≤ d) (w : UU g (d - 1) 63 kX5_read (pm_rm d 63) Q 0 [some (.ref a0), some (.ref a1), some (.int a2), none] [] S I J (0, 0)) : pm_C g d 63 [.ref a0, .ref a1, .int a2] Q S I J := by
  have hm : pm_mx 63 = 4 := by decide +kernel
  refine pm_ent (K := kX5_read) (by decide) rfl rfl hd (by rw [hm]; exact Nat.le_of_ble_eq_true rfl) ?_
  rw [hm]
  exact w.2
theorem eX5_readItem {g : pm_G} {d : Nat} {Q : pm_Po} {S : pm_SS} {I : pm_MI} {J : pm_ML} {a0 : Nat} (hd : 1 ≤ d) (w : UU g (d - 1) 64 kX5_readItem (pm_rm d 64) Q 0 [some (.ref a0), none] [] S I J (0, 0)) : pm_C g d 64 [.ref a0] Q S I J := by
  have hm : pm_mx 64 = 2 := by decide +kernel
  refine pm_ent (K := kX5_readItem) (by decide) rfl rfl hd (by rw [hm]; exact Nat.le_of_ble_eq_true rfl) ?_
  rw [hm]
  exact w.2
theorem eX5_readGrowth {g : pm_G} {d : Nat} {Q : pm_Po} {S : pm_SS} {I : pm_MI} {J : pm_ML} {a0 : Nat} (hd : 1 ≤ d) (w : UU g (d - 1) 65 kX5_readGrowth (pm_rm d 65) Q 0 [some (.ref a0), none, none, none] [] S I J (0, 0)) : pm_C g d 65 [.ref a0] Q S I J := by
  have hm : pm_mx 65 = 4 := by decide +kernel
  refine pm_ent (K := kX5_readGrowth) (by decide) rfl rfl hd (by rw [hm]; exact Nat.le_of_ble_eq_true rfl) ?_
  rw [hm]
  exact w.2
theorem eX5_readWear {g : pm_G} {d : Nat} {Q : pm_Po} {S : pm_SS} {I : pm_MI} {J : pm_ML} {a0 : Nat} (hd : 1 ≤ d) (w : UU g (d - 1) 66 kX5_readWear (pm_rm d 66) Q 0 [some (.ref a0), none] [] S I J (0, 0)) : pm_C g d 66 [.ref a0] Q S I J := by
  have hm : pm_mx 66 = 2 := by decide +kernel
  refine pm_ent (K := kX5_readWear) (by decide) rfl rfl hd (by rw [hm]; exact Nat.le_of_ble_eq_true rfl) ?_
  rw [hm]
  exact w.2
theorem eX5_readPence {g : pm_G} {d : Nat} {Q : pm_Po} {S : pm_SS} {I : pm_MI} {J : pm_ML} {a0 : Nat} (hd : 1 ≤ d) (w : UU g (d - 1) 67 kX5_readPence (pm_rm d 67) Q 0 [some (.ref a0), none, none] [] S I J (0, 0)) : pm_C g d 67 [.ref a0] Q S I J := by
  have hm : pm_mx 67 = 3 := by decide +kernel
  refine pm_ent (K := kX5_readPence) (by decide) rfl rfl hd (by rw [hm]; exact Nat.le_of_ble_eq_true rfl) ?_
  rw [hm]
  exact w.2
theorem eX5_readLand {g : pm_G} {d : Nat} {Q : pm_Po} {S : pm_SS} {I : pm_MI} {J : pm_ML} {a0 : Nat} {a1 : Int32} (hd : 1 ≤ d) (w : UU g (d - 1) 68 kX5_readLand (pm_rm d 68) Q 0 [some (.ref a0), some (.int a1), none] [] S I J (0, 0)) : pm_C g d 68 [.ref a0, .int a1] Q S I J := by
  have hm : pm_mx 68 = 3 := by decide +kernel
  refine pm_ent (K := kX5_readLand) (by decide) rfl rfl hd (by rw [hm]; exact Nat.le_of_ble_eq_true rfl) ?_
  rw [hm]
  exact w.2
theorem eX5_note {g : pm_G} {d : Nat} {Q : pm_Po} {S : pm_SS} {I : pm_MI} {J : pm_ML} {a0 : Nat} {a1 : Int32} {a2 : Int32} (hd : 1 ≤ d) (w : UU g (d - 1) 69 kX5_note (pm_rm d 69) Q 0 [some (.ref a0), some (.int a1), some (.int a2)] [] S I J (0, 0)) : pm_C g d 69 [.ref a0, .int a1, .int a2] Q S I J := by
  have hm : pm_mx 69 = 3 := by decide +kernel
  refine pm_ent (K := kX5_note) (by decide) rfl rfl hd (by rw [hm]; exact Nat.le_of_ble_eq_true rfl) ?_
  rw [hm]
  exact w.2
theorem eX5_digits {g : pm_G} {d : Nat} {Q : pm_Po} {S : pm_SS} {I : pm_MI} {J : pm_ML} {a0 : Nat} {a1 : Int32} {a2 : Int32} (hd : 1 ≤ d) (w : UU g (d - 1) 70 kX5_digits (pm_rm d 70) Q 0 [some (.ref a0), some (.int a1), some (.int a2), none, none, none] [] S I J (0, 0)) : pm_C g d 70 [.ref a0, .int a1, .int a2] Q S I J := by
  have hm : pm_mx 70 = 6 := by decide +kernel
  refine pm_ent (K := kX5_digits) (by decide) rfl rfl hd (by rw [hm]; exact Nat.le_of_ble_eq_true rfl) ?_
  rw [hm]
  exact w.2
theorem eX5_mix {g : pm_G} {d : Nat} {Q : pm_Po} {S : pm_SS} {I : pm_MI} {J : pm_ML} {a0 : Nat} {a1 : Int64} {a2 : Int32} (hd : 1 ≤ d) (w : UU g (d - 1) 71 kX5_mix (pm_rm d 71) Q 0 [some (.ref a0), some (.long a1), none, some (.int a2), none] [] S I J (0, 0)) : pm_C g d 71 [.ref a0, .long a1, .int a2] Q S I J := by
  have hm : pm_mx 71 = 5 := by decide +kernel
  refine pm_ent (K := kX5_mix) (by decide) rfl rfl hd (by rw [hm]; exact Nat.le_of_ble_eq_true rfl) ?_
  rw [hm]
  exact w.2
theorem eX6_init {g : pm_G} {d : Nat} {Q : pm_Po} {S : pm_SS} {I : pm_MI} {J : pm_ML} {a0 : Nat} (hd : 1 ≤ d) (w : UU g (d - 1) 72 kX6_init (pm_rm d 72) Q 0 [some (.ref a0)] [] S I J (0, 0)) : pm_C g d 72 [.ref a0] Q S I J := by
  have hm : pm_mx 72 = 1 := by decide +kernel
  refine pm_ent (K := kX6_init) (by decide) rfl rfl hd (by rw [hm]; exact Nat.le_of_ble_eq_true rfl) ?_
  rw [hm]
  exact w.2
theorem eX6_has {g : pm_G} {d : Nat} {Q : pm_Po} {S : pm_SS} {I : pm_MI} {J : pm_ML} {a0 : Nat} {a1 : Int32} (hd : 1 ≤ d) (w : UU g (d - 1) 73 kX6_has (pm_rm d 73) Q 0 [some (.ref a0), some (.int a1)] [] S I J (0, 0)) : pm_C g d 73 [.ref a0, .int a1] Q S I J := by
  have hm : pm_mx 73 = 2 := by decide +kernel
  refine pm_ent (K := kX6_has) (by decide) rfl rfl hd (by rw [hm]; exact Nat.le_of_ble_eq_true rfl) ?_
  rw [hm]
  exact w.2
theorem eX6_make {g : pm_G} {d : Nat} {Q : pm_Po} {S : pm_SS} {I : pm_MI} {J : pm_ML} {a0 : Nat} {a1 : Nat} {a2 : Int32} {a3 : Int32} {a4 : Int32} {a5 : Int32} (hd : 1 ≤ d) (w : UU g (d - 1) 74 kX6_make (pm_rm d 74) Q 0 [some (.ref a0), some (.ref a1), some (.int a2), some (.int a3), some (.int a4), some (.int a5), none] [] S I J (0, 0)) : pm_C g d 74 [.ref a0, .ref a1, .int a2, .int a3, .int a4, .int a5] Q S I J := by
  have hm : pm_mx 74 = 7 := by decide +kernel
  refine pm_ent (K := kX6_make) (by decide) rfl rfl hd (by rw [hm]; exact Nat.le_of_ble_eq_true rfl) ?_
  rw [hm]
  exact w.2
theorem eX6_copies {g : pm_G} {d : Nat} {Q : pm_Po} {S : pm_SS} {I : pm_MI} {J : pm_ML} {a0 : Nat} {a1 : Int32} (hd : 1 ≤ d) (w : UU g (d - 1) 75 kX6_copies (pm_rm d 75) Q 0 [some (.ref a0), some (.int a1)] [] S I J (0, 0)) : pm_C g d 75 [.ref a0, .int a1] Q S I J := by
  have hm : pm_mx 75 = 2 := by decide +kernel
  refine pm_ent (K := kX6_copies) (by decide) rfl rfl hd (by rw [hm]; exact Nat.le_of_ble_eq_true rfl) ?_
  rw [hm]
  exact w.2
theorem eX6_dayOf {g : pm_G} {d : Nat} {Q : pm_Po} {S : pm_SS} {I : pm_MI} {J : pm_ML} {a0 : Nat} {a1 : Int32} (hd : 1 ≤ d) (w : UU g (d - 1) 76 kX6_dayOf (pm_rm d 76) Q 0 [some (.ref a0), some (.int a1)] [] S I J (0, 0)) : pm_C g d 76 [.ref a0, .int a1] Q S I J := by
  have hm : pm_mx 76 = 2 := by decide +kernel
  refine pm_ent (K := kX6_dayOf) (by decide) rfl rfl hd (by rw [hm]; exact Nat.le_of_ble_eq_true rfl) ?_
  rw [hm]
  exact w.2
theorem eX6_stamper {g : pm_G} {d : Nat} {Q : pm_Po} {S : pm_SS} {I : pm_MI} {J : pm_ML} {a0 : Nat} {a1 : Int32} {a2 : Int32} (hd : 1 ≤ d) (w : UU g (d - 1) 77 kX6_stamper (pm_rm d 77) Q 0 [some (.ref a0), some (.int a1), some (.int a2)] [] S I J (0, 0)) : pm_C g d 77 [.ref a0, .int a1, .int a2] Q S I J := by
  have hm : pm_mx 77 = 3 := by decide +kernel
  refine pm_ent (K := kX6_stamper) (by decide) rfl rfl hd (by rw [hm]; exact Nat.le_of_ble_eq_true rfl) ?_
  rw [hm]
  exact w.2
theorem eX6_uses {g : pm_G} {d : Nat} {Q : pm_Po} {S : pm_SS} {I : pm_MI} {J : pm_ML} {a0 : Nat} {a1 : Int32} {a2 : Int32} (hd : 1 ≤ d) (w : UU g (d - 1) 78 kX6_uses (pm_rm d 78) Q 0 [some (.ref a0), some (.int a1), some (.int a2)] [] S I J (0, 0)) : pm_C g d 78 [.ref a0, .int a1, .int a2] Q S I J := by
  have hm : pm_mx 78 = 3 := by decide +kernel
  refine pm_ent (K := kX6_uses) (by decide) rfl rfl hd (by rw [hm]; exact Nat.le_of_ble_eq_true rfl) ?_
  rw [hm]
  exact w.2
theorem eX6_wear {g : pm_G} {d : Nat} {Q : pm_Po} {S : pm_SS} {I : pm_MI} {J : pm_ML} {a0 : Nat} {a1 : Int32} (hd : 1 ≤ d) (w : UU g (d - 1) 79 kX6_wear (pm_rm d 79) Q 0 [some (.ref a0), some (.int a1), none, none] [] S I J (0, 0)) : pm_C g d 79 [.ref a0, .int a1] Q S I J := by
  have hm : pm_mx 79 = 4 := by decide +kernel
  refine pm_ent (K := kX6_wear) (by decide) rfl rfl hd (by rw [hm]; exact Nat.le_of_ble_eq_true rfl) ?_
  rw [hm]
  exact w.2
theorem eX6_numberOf {g : pm_G} {d : Nat} {Q : pm_Po} {S : pm_SS} {I : pm_MI} {J : pm_ML} {a0 : Nat} {a1 : Int32} (hd : 1 ≤ d) (w : UU g (d - 1) 80 kX6_numberOf (pm_rm d 80) Q 0 [some (.ref a0), some (.int a1), none, none] [] S I J (0, 0)) : pm_C g d 80 [.ref a0, .int a1] Q S I J := by
  have hm : pm_mx 80 = 4 := by decide +kernel
  refine pm_ent (K := kX6_numberOf) (by decide) rfl rfl hd (by rw [hm]; exact Nat.le_of_ble_eq_true rfl) ?_
  rw [hm]
  exact w.2
theorem eX6_copiesOf {g : pm_G} {d : Nat} {Q : pm_Po} {S : pm_SS} {I : pm_MI} {J : pm_ML} {a0 : Nat} {a1 : Int32} (hd : 1 ≤ d) (w : UU g (d - 1) 81 kX6_copiesOf (pm_rm d 81) Q 0 [some (.ref a0), some (.int a1), none, none] [] S I J (0, 0)) : pm_C g d 81 [.ref a0, .int a1] Q S I J := by
  have hm : pm_mx 81 = 4 := by decide +kernel
  refine pm_ent (K := kX6_copiesOf) (by decide) rfl rfl hd (by rw [hm]; exact Nat.le_of_ble_eq_true rfl) ?_
  rw [hm]
  exact w.2
theorem eX6_fact {g : pm_G} {d : Nat} {Q : pm_Po} {S : pm_SS} {I : pm_MI} {J : pm_ML} {a0 : Nat} {a1 : Int32} {a2 : Int32} (hd : 1 ≤ d) (w : UU g (d - 1) 82 kX6_fact (pm_rm d 82) Q 0 [some (.ref a0), some (.int a1), some (.int a2)] [] S I J (0, 0)) : pm_C g d 82 [.ref a0, .int a1, .int a2] Q S I J := by
  have hm : pm_mx 82 = 3 := by decide +kernel
  refine pm_ent (K := kX6_fact) (by decide) rfl rfl hd (by rw [hm]; exact Nat.le_of_ble_eq_true rfl) ?_
  rw [hm]
  exact w.2
theorem eX6_swishAt {g : pm_G} {d : Nat} {Q : pm_Po} {S : pm_SS} {I : pm_MI} {J : pm_ML} {a0 : Nat} {a1 : Int32} {a2 : Int32} (hd : 1 ≤ d) (w : UU g (d - 1) 83 kX6_swishAt (pm_rm d 83) Q 0 [some (.ref a0), some (.int a1), some (.int a2), none] [] S I J (0, 0)) : pm_C g d 83 [.ref a0, .int a1, .int a2] Q S I J := by
  have hm : pm_mx 83 = 4 := by decide +kernel
  refine pm_ent (K := kX6_swishAt) (by decide) rfl rfl hd (by rw [hm]; exact Nat.le_of_ble_eq_true rfl) ?_
  rw [hm]
  exact w.2
theorem eX6_allFaces {g : pm_G} {d : Nat} {Q : pm_Po} {S : pm_SS} {I : pm_MI} {J : pm_ML} {a0 : Nat} (hd : 1 ≤ d) (w : UU g (d - 1) 84 kX6_allFaces (pm_rm d 84) Q 0 [some (.ref a0)] [] S I J (0, 0)) : pm_C g d 84 [.ref a0] Q S I J := by
  have hm : pm_mx 84 = 1 := by decide +kernel
  refine pm_ent (K := kX6_allFaces) (by decide) rfl rfl hd (by rw [hm]; exact Nat.le_of_ble_eq_true rfl) ?_
  rw [hm]
  exact w.2
theorem eX6_copiesOn {g : pm_G} {d : Nat} {Q : pm_Po} {S : pm_SS} {I : pm_MI} {J : pm_ML} {a0 : Nat} {a1 : Int64} (hd : 1 ≤ d) (w : UU g (d - 1) 85 kX6_copiesOn (pm_rm d 85) Q 0 [some (.ref a0), some (.long a1), none, none, none] [] S I J (0, 0)) : pm_C g d 85 [.ref a0, .long a1] Q S I J := by
  have hm : pm_mx 85 = 5 := by decide +kernel
  refine pm_ent (K := kX6_copiesOn) (by decide) rfl rfl hd (by rw [hm]; exact Nat.le_of_ble_eq_true rfl) ?_
  rw [hm]
  exact w.2
theorem eX7_init {g : pm_G} {d : Nat} {Q : pm_Po} {S : pm_SS} {I : pm_MI} {J : pm_ML} {a0 : Nat} (hd : 1 ≤ d) (w : UU g (d - 1) 86 kX7_init (pm_rm d 86) Q 0 [some (.ref a0)] [] S I J (0, 0)) : pm_C g d 86 [.ref a0] Q S I J := by
  have hm : pm_mx 86 = 1 := by decide +kernel
  refine pm_ent (K := kX7_init) (by decide) rfl rfl hd (by rw [hm]; exact Nat.le_of_ble_eq_true rfl) ?_
  rw [hm]
  exact w.2
theorem eX7_make {g : pm_G} {d : Nat} {Q : pm_Po} {S : pm_SS} {I : pm_MI} {J : pm_ML} {a0 : Nat} {a1 : Int32} {a2 : Int32} {a3 : Int32} {a4 : Int32} (hd : 1 ≤ d) (w : UU g (d - 1) 87 kX7_make (pm_rm d 87) Q 0 [some (.ref a0), some (.int a1), some (.int a2), some (.int a3), some (.int a4), none] [] S I J (0, 0)) : pm_C g d 87 [.ref a0, .int a1, .int a2, .int a3, .int a4] Q S I J := by
  have hm : pm_mx 87 = 6 := by decide +kernel
  refine pm_ent (K := kX7_make) (by decide) rfl rfl hd (by rw [hm]; exact Nat.le_of_ble_eq_true rfl) ?_
  rw [hm]
  exact w.2
theorem eX7_kept {g : pm_G} {d : Nat} {Q : pm_Po} {S : pm_SS} {I : pm_MI} {J : pm_ML} {a0 : Nat} {a1 : Int32} (hd : 1 ≤ d) (w : UU g (d - 1) 88 kX7_kept (pm_rm d 88) Q 0 [some (.ref a0), some (.int a1), none, none] [] S I J (0, 0)) : pm_C g d 88 [.ref a0, .int a1] Q S I J := by
  have hm : pm_mx 88 = 4 := by decide +kernel
  refine pm_ent (K := kX7_kept) (by decide) rfl rfl hd (by rw [hm]; exact Nat.le_of_ble_eq_true rfl) ?_
  rw [hm]
  exact w.2
theorem eX7_keptIn {g : pm_G} {d : Nat} {Q : pm_Po} {S : pm_SS} {I : pm_MI} {J : pm_ML} {a0 : Nat} {a1 : Int32} {a2 : Int32} (hd : 1 ≤ d) (w : UU g (d - 1) 89 kX7_keptIn (pm_rm d 89) Q 0 [some (.ref a0), some (.int a1), some (.int a2), none, none] [] S I J (0, 0)) : pm_C g d 89 [.ref a0, .int a1, .int a2] Q S I J := by
  have hm : pm_mx 89 = 5 := by decide +kernel
  refine pm_ent (K := kX7_keptIn) (by decide) rfl rfl hd (by rw [hm]; exact Nat.le_of_ble_eq_true rfl) ?_
  rw [hm]
  exact w.2
theorem eX7_mix {g : pm_G} {d : Nat} {Q : pm_Po} {S : pm_SS} {I : pm_MI} {J : pm_ML} {a0 : Nat} {a1 : Int64} (hd : 1 ≤ d) (w : UU g (d - 1) 90 kX7_mix (pm_rm d 90) Q 0 [some (.ref a0), some (.long a1), none, none] [] S I J (0, 0)) : pm_C g d 90 [.ref a0, .long a1] Q S I J := by
  have hm : pm_mx 90 = 4 := by decide +kernel
  refine pm_ent (K := kX7_mix) (by decide) rfl rfl hd (by rw [hm]; exact Nat.le_of_ble_eq_true rfl) ?_
  rw [hm]
  exact w.2
theorem eX8_init {g : pm_G} {d : Nat} {Q : pm_Po} {S : pm_SS} {I : pm_MI} {J : pm_ML} {a0 : Nat} (hd : 1 ≤ d) (w : UU g (d - 1) 91 kX8_init (pm_rm d 91) Q 0 [some (.ref a0)] [] S I J (0, 0)) : pm_C g d 91 [.ref a0] Q S I J := by
  have hm : pm_mx 91 = 1 := by decide +kernel
  refine pm_ent (K := kX8_init) (by decide) rfl rfl hd (by rw [hm]; exact Nat.le_of_ble_eq_true rfl) ?_
  rw [hm]
  exact w.2
theorem eX8_explain {g : pm_G} {d : Nat} {Q : pm_Po} {S : pm_SS} {I : pm_MI} {J : pm_ML} {a0 : Nat} {a1 : Nat} {a2 : Int32} {a3 : Int32} {a4 : Int64} (hd : 1 ≤ d) (w : UU g (d - 1) 92 kX8_explain (pm_rm d 92) Q 0 [some (.ref a0), some (.ref a1), some (.int a2), some (.int a3), some (.long a4), none, none] [] S I J (0, 0)) : pm_C g d 92 [.ref a0, .ref a1, .int a2, .int a3, .long a4] Q S I J := by
  have hm : pm_mx 92 = 7 := by decide +kernel
  refine pm_ent (K := kX8_explain) (by decide) rfl rfl hd (by rw [hm]; exact Nat.le_of_ble_eq_true rfl) ?_
  rw [hm]
  exact w.2
theorem eX8_hearQuiet {g : pm_G} {d : Nat} {Q : pm_Po} {S : pm_SS} {I : pm_MI} {J : pm_ML} {a0 : Nat} {a1 : Nat} {a2 : Int32} (hd : 1 ≤ d) (w : UU g (d - 1) 93 kX8_hearQuiet (pm_rm d 93) Q 0 [some (.ref a0), some (.ref a1), some (.int a2), none, none, none, none] [] S I J (0, 0)) : pm_C g d 93 [.ref a0, .ref a1, .int a2] Q S I J := by
  have hm : pm_mx 93 = 7 := by decide +kernel
  refine pm_ent (K := kX8_hearQuiet) (by decide) rfl rfl hd (by rw [hm]; exact Nat.le_of_ble_eq_true rfl) ?_
  rw [hm]
  exact w.2
theorem eX8_pickUseful {g : pm_G} {d : Nat} {Q : pm_Po} {S : pm_SS} {I : pm_MI} {J : pm_ML} {a0 : Nat} (hd : 1 ≤ d) (w : UU g (d - 1) 94 kX8_pickUseful (pm_rm d 94) Q 0 [some (.ref a0), none] [] S I J (0, 0)) : pm_C g d 94 [.ref a0] Q S I J := by
  have hm : pm_mx 94 = 2 := by decide +kernel
  refine pm_ent (K := kX8_pickUseful) (by decide) rfl rfl hd (by rw [hm]; exact Nat.le_of_ble_eq_true rfl) ?_
  rw [hm]
  exact w.2
theorem eX8_extend {g : pm_G} {d : Nat} {Q : pm_Po} {S : pm_SS} {I : pm_MI} {J : pm_ML} {a0 : Nat} {a1 : Int32} {a2 : Int64} {a3 : Int64} (hd : 1 ≤ d) (w : UU g (d - 1) 95 kX8_extend (pm_rm d 95) Q 0 [some (.ref a0), some (.int a1), some (.long a2), none, some (.long a3), none, none, none, none, none, none, none] [] S I J (0, 0)) : pm_C g d 95 [.ref a0, .int a1, .long a2, .long a3] Q S I J := by
  have hm : pm_mx 95 = 12 := by decide +kernel
  refine pm_ent (K := kX8_extend) (by decide) rfl rfl hd (by rw [hm]; exact Nat.le_of_ble_eq_true rfl) ?_
  rw [hm]
  exact w.2
theorem eX8_take {g : pm_G} {d : Nat} {Q : pm_Po} {S : pm_SS} {I : pm_MI} {J : pm_ML} {a0 : Nat} {a1 : Int64} {a2 : Int64} (hd : 1 ≤ d) (w : UU g (d - 1) 96 kX8_take (pm_rm d 96) Q 0 [some (.ref a0), some (.long a1), none, some (.long a2), none, none, none, none, none, none] [] S I J (0, 0)) : pm_C g d 96 [.ref a0, .long a1, .long a2] Q S I J := by
  have hm : pm_mx 96 = 10 := by decide +kernel
  refine pm_ent (K := kX8_take) (by decide) rfl rfl hd (by rw [hm]; exact Nat.le_of_ble_eq_true rfl) ?_
  rw [hm]
  exact w.2
theorem eX8_rank {g : pm_G} {d : Nat} {Q : pm_Po} {S : pm_SS} {I : pm_MI} {J : pm_ML} {a0 : Nat} {a1 : Int64} (hd : 1 ≤ d) (w : UU g (d - 1) 97 kX8_rank (pm_rm d 97) Q 0 [some (.ref a0), some (.long a1), none, none, none, none, none] [] S I J (0, 0)) : pm_C g d 97 [.ref a0, .long a1] Q S I J := by
  have hm : pm_mx 97 = 7 := by decide +kernel
  refine pm_ent (K := kX8_rank) (by decide) rfl rfl hd (by rw [hm]; exact Nat.le_of_ble_eq_true rfl) ?_
  rw [hm]
  exact w.2
theorem eX8_nextChosen {g : pm_G} {d : Nat} {Q : pm_Po} {S : pm_SS} {I : pm_MI} {J : pm_ML} {a0 : Nat} {a1 : Int32} (hd : 1 ≤ d) (w : UU g (d - 1) 98 kX8_nextChosen (pm_rm d 98) Q 0 [some (.ref a0), some (.int a1), none, none] [] S I J (0, 0)) : pm_C g d 98 [.ref a0, .int a1] Q S I J := by
  have hm : pm_mx 98 = 4 := by decide +kernel
  refine pm_ent (K := kX8_nextChosen) (by decide) rfl rfl hd (by rw [hm]; exact Nat.le_of_ble_eq_true rfl) ?_
  rw [hm]
  exact w.2
theorem eX8_causeMisses {g : pm_G} {d : Nat} {Q : pm_Po} {S : pm_SS} {I : pm_MI} {J : pm_ML} {a0 : Nat} (hd : 1 ≤ d) (w : UU g (d - 1) 99 kX8_causeMisses (pm_rm d 99) Q 0 [some (.ref a0)] [] S I J (0, 0)) : pm_C g d 99 [.ref a0] Q S I J := by
  have hm : pm_mx 99 = 1 := by decide +kernel
  refine pm_ent (K := kX8_causeMisses) (by decide) rfl rfl hd (by rw [hm]; exact Nat.le_of_ble_eq_true rfl) ?_
  rw [hm]
  exact w.2
theorem eX8_keepCause {g : pm_G} {d : Nat} {Q : pm_Po} {S : pm_SS} {I : pm_MI} {J : pm_ML} {a0 : Nat} {a1 : Nat} {a2 : Nat} {a3 : Int32} (hd : 1 ≤ d) (w : UU g (d - 1) 100 kX8_keepCause (pm_rm d 100) Q 0 [some (.ref a0), some (.ref a1), some (.ref a2), some (.int a3), none, none, none] [] S I J (0, 0)) : pm_C g d 100 [.ref a0, .ref a1, .ref a2, .int a3] Q S I J := by
  have hm : pm_mx 100 = 7 := by decide +kernel
  refine pm_ent (K := kX8_keepCause) (by decide) rfl rfl hd (by rw [hm]; exact Nat.le_of_ble_eq_true rfl) ?_
  rw [hm]
  exact w.2
theorem eX8_causeFact {g : pm_G} {d : Nat} {Q : pm_Po} {S : pm_SS} {I : pm_MI} {J : pm_ML} {a0 : Nat} {a1 : Int32} {a2 : Int32} (hd : 1 ≤ d) (w : UU g (d - 1) 101 kX8_causeFact (pm_rm d 101) Q 0 [some (.ref a0), some (.int a1), some (.int a2)] [] S I J (0, 0)) : pm_C g d 101 [.ref a0, .int a1, .int a2] Q S I J := by
  have hm : pm_mx 101 = 3 := by decide +kernel
  refine pm_ent (K := kX8_causeFact) (by decide) rfl rfl hd (by rw [hm]; exact Nat.le_of_ble_eq_true rfl) ?_
  rw [hm]
  exact w.2
theorem eX8_evenest {g : pm_G} {d : Nat} {Q : pm_Po} {S : pm_SS} {I : pm_MI} {J : pm_ML} {a0 : Nat} (hd : 1 ≤ d) (w : UU g (d - 1) 102 kX8_evenest (pm_rm d 102) Q 0 [some (.ref a0), none, none] [] S I J (0, 0)) : pm_C g d 102 [.ref a0] Q S I J := by
  have hm : pm_mx 102 = 3 := by decide +kernel
  refine pm_ent (K := kX8_evenest) (by decide) rfl rfl hd (by rw [hm]; exact Nat.le_of_ble_eq_true rfl) ?_
  rw [hm]
  exact w.2
theorem eX8_greaterPart {g : pm_G} {d : Nat} {Q : pm_Po} {S : pm_SS} {I : pm_MI} {J : pm_ML} {a0 : Nat} {a1 : Int32} (hd : 1 ≤ d) (w : UU g (d - 1) 103 kX8_greaterPart (pm_rm d 103) Q 0 [some (.ref a0), some (.int a1)] [] S I J (0, 0)) : pm_C g d 103 [.ref a0, .int a1] Q S I J := by
  have hm : pm_mx 103 = 2 := by decide +kernel
  refine pm_ent (K := kX8_greaterPart) (by decide) rfl rfl hd (by rw [hm]; exact Nat.le_of_ble_eq_true rfl) ?_
  rw [hm]
  exact w.2
theorem eX9_init {g : pm_G} {d : Nat} {Q : pm_Po} {S : pm_SS} {I : pm_MI} {J : pm_ML} {a0 : Nat} {a1 : Int32} {a2 : Int32} {a3 : Int32} (hd : 1 ≤ d) (w : UU g (d - 1) 104 kX9_init (pm_rm d 104) Q 0 [some (.ref a0), some (.int a1), some (.int a2), some (.int a3), none] [] S I J (0, 0)) : pm_C g d 104 [.ref a0, .int a1, .int a2, .int a3] Q S I J := by
  have hm : pm_mx 104 = 5 := by decide +kernel
  refine pm_ent (K := kX9_init) (by decide) rfl rfl hd (by rw [hm]; exact Nat.le_of_ble_eq_true rfl) ?_
  rw [hm]
  exact w.2
theorem eX9_has {g : pm_G} {d : Nat} {Q : pm_Po} {S : pm_SS} {I : pm_MI} {J : pm_ML} {a0 : Nat} {a1 : Int32} (hd : 1 ≤ d) (w : UU g (d - 1) 105 kX9_has (pm_rm d 105) Q 0 [some (.ref a0), some (.int a1)] [] S I J (0, 0)) : pm_C g d 105 [.ref a0, .int a1] Q S I J := by
  have hm : pm_mx 105 = 2 := by decide +kernel
  refine pm_ent (K := kX9_has) (by decide) rfl rfl hd (by rw [hm]; exact Nat.le_of_ble_eq_true rfl) ?_
  rw [hm]
  exact w.2
theorem eX9_size {g : pm_G} {d : Nat} {Q : pm_Po} {S : pm_SS} {I : pm_MI} {J : pm_ML} {a0 : Nat} {a1 : Int32} (hd : 1 ≤ d) (w : UU g (d - 1) 106 kX9_size (pm_rm d 106) Q 0 [some (.ref a0), some (.int a1)] [] S I J (0, 0)) : pm_C g d 106 [.ref a0, .int a1] Q S I J := by
  have hm : pm_mx 106 = 2 := by decide +kernel
  refine pm_ent (K := kX9_size) (by decide) rfl rfl hd (by rw [hm]; exact Nat.le_of_ble_eq_true rfl) ?_
  rw [hm]
  exact w.2
theorem eX9_missing {g : pm_G} {d : Nat} {Q : pm_Po} {S : pm_SS} {I : pm_MI} {J : pm_ML} {a0 : Nat} {a1 : Int32} (hd : 1 ≤ d) (w : UU g (d - 1) 107 kX9_missing (pm_rm d 107) Q 0 [some (.ref a0), some (.int a1)] [] S I J (0, 0)) : pm_C g d 107 [.ref a0, .int a1] Q S I J := by
  have hm : pm_mx 107 = 2 := by decide +kernel
  refine pm_ent (K := kX9_missing) (by decide) rfl rfl hd (by rw [hm]; exact Nat.le_of_ble_eq_true rfl) ?_
  rw [hm]
  exact w.2
theorem eX9_inside {g : pm_G} {d : Nat} {Q : pm_Po} {S : pm_SS} {I : pm_MI} {J : pm_ML} {a0 : Nat} {a1 : Int32} {a2 : Int32} (hd : 1 ≤ d) (w : UU g (d - 1) 108 kX9_inside (pm_rm d 108) Q 0 [some (.ref a0), some (.int a1), some (.int a2)] [] S I J (0, 0)) : pm_C g d 108 [.ref a0, .int a1, .int a2] Q S I J := by
  have hm : pm_mx 108 = 3 := by decide +kernel
  refine pm_ent (K := kX9_inside) (by decide) rfl rfl hd (by rw [hm]; exact Nat.le_of_ble_eq_true rfl) ?_
  rw [hm]
  exact w.2
theorem eX9_spans {g : pm_G} {d : Nat} {Q : pm_Po} {S : pm_SS} {I : pm_MI} {J : pm_ML} {a0 : Nat} {a1 : Int32} {a2 : Int32} {a3 : Int32} (hd : 1 ≤ d) (w : UU g (d - 1) 109 kX9_spans (pm_rm d 109) Q 0 [some (.ref a0), some (.int a1), some (.int a2), some (.int a3)] [] S I J (0, 0)) : pm_C g d 109 [.ref a0, .int a1, .int a2, .int a3] Q S I J := by
  have hm : pm_mx 109 = 4 := by decide +kernel
  refine pm_ent (K := kX9_spans) (by decide) rfl rfl hd (by rw [hm]; exact Nat.le_of_ble_eq_true rfl) ?_
  rw [hm]
  exact w.2
theorem eX9_at {g : pm_G} {d : Nat} {Q : pm_Po} {S : pm_SS} {I : pm_MI} {J : pm_ML} {a0 : Nat} {a1 : Int32} {a2 : Int32} (hd : 1 ≤ d) (w : UU g (d - 1) 110 kX9_at (pm_rm d 110) Q 0 [some (.ref a0), some (.int a1), some (.int a2)] [] S I J (0, 0)) : pm_C g d 110 [.ref a0, .int a1, .int a2] Q S I J := by
  have hm : pm_mx 110 = 3 := by decide +kernel
  refine pm_ent (K := kX9_at) (by decide) rfl rfl hd (by rw [hm]; exact Nat.le_of_ble_eq_true rfl) ?_
  rw [hm]
  exact w.2
theorem eX9_bring {g : pm_G} {d : Nat} {Q : pm_Po} {S : pm_SS} {I : pm_MI} {J : pm_ML} {a0 : Nat} {a1 : Int32} {a2 : Int32} (hd : 1 ≤ d) (w : UU g (d - 1) 111 kX9_bring (pm_rm d 111) Q 0 [some (.ref a0), some (.int a1), some (.int a2), none] [] S I J (0, 0)) : pm_C g d 111 [.ref a0, .int a1, .int a2] Q S I J := by
  have hm : pm_mx 111 = 4 := by decide +kernel
  refine pm_ent (K := kX9_bring) (by decide) rfl rfl hd (by rw [hm]; exact Nat.le_of_ble_eq_true rfl) ?_
  rw [hm]
  exact w.2
theorem eX9_drop {g : pm_G} {d : Nat} {Q : pm_Po} {S : pm_SS} {I : pm_MI} {J : pm_ML} {a0 : Nat} {a1 : Int32} (hd : 1 ≤ d) (w : UU g (d - 1) 112 kX9_drop (pm_rm d 112) Q 0 [some (.ref a0), some (.int a1)] [] S I J (0, 0)) : pm_C g d 112 [.ref a0, .int a1] Q S I J := by
  have hm : pm_mx 112 = 2 := by decide +kernel
  refine pm_ent (K := kX9_drop) (by decide) rfl rfl hd (by rw [hm]; exact Nat.le_of_ble_eq_true rfl) ?_
  rw [hm]
  exact w.2
theorem eX9_change {g : pm_G} {d : Nat} {Q : pm_Po} {S : pm_SS} {I : pm_MI} {J : pm_ML} {a0 : Nat} {a1 : Int32} {a2 : Int32} {a3 : Int32} (hd : 1 ≤ d) (w : UU g (d - 1) 113 kX9_change (pm_rm d 113) Q 0 [some (.ref a0), some (.int a1), some (.int a2), some (.int a3), none] [] S I J (0, 0)) : pm_C g d 113 [.ref a0, .int a1, .int a2, .int a3] Q S I J := by
  have hm : pm_mx 113 = 5 := by decide +kernel
  refine pm_ent (K := kX9_change) (by decide) rfl rfl hd (by rw [hm]; exact Nat.le_of_ble_eq_true rfl) ?_
  rw [hm]
  exact w.2
theorem eX9_move {g : pm_G} {d : Nat} {Q : pm_Po} {S : pm_SS} {I : pm_MI} {J : pm_ML} {a0 : Nat} {a1 : Int32} {a2 : Int32} {a3 : Int32} {a4 : Int32} {a5 : Int32} (hd : 1 ≤ d) (w : UU g (d - 1) 114 kX9_move (pm_rm d 114) Q 0 [some (.ref a0), some (.int a1), some (.int a2), some (.int a3), some (.int a4), some (.int a5)] [] S I J (0, 0)) : pm_C g d 114 [.ref a0, .int a1, .int a2, .int a3, .int a4, .int a5] Q S I J := by
  have hm : pm_mx 114 = 6 := by decide +kernel
  refine pm_ent (K := kX9_move) (by decide) rfl rfl hd (by rw [hm]; exact Nat.le_of_ble_eq_true rfl) ?_
  rw [hm]
  exact w.2
theorem eX9_present {g : pm_G} {d : Nat} {Q : pm_Po} {S : pm_SS} {I : pm_MI} {J : pm_ML} {a0 : Nat} (hd : 1 ≤ d) (w : UU g (d - 1) 115 kX9_present (pm_rm d 115) Q 0 [some (.ref a0), none, none] [] S I J (0, 0)) : pm_C g d 115 [.ref a0] Q S I J := by
  have hm : pm_mx 115 = 3 := by decide +kernel
  refine pm_ent (K := kX9_present) (by decide) rfl rfl hd (by rw [hm]; exact Nat.le_of_ble_eq_true rfl) ?_
  rw [hm]
  exact w.2
theorem eX9_mix {g : pm_G} {d : Nat} {Q : pm_Po} {S : pm_SS} {I : pm_MI} {J : pm_ML} {a0 : Nat} {a1 : Int64} (hd : 1 ≤ d) (w : UU g (d - 1) 116 kX9_mix (pm_rm d 116) Q 0 [some (.ref a0), some (.long a1), none, none, none] [] S I J (0, 0)) : pm_C g d 116 [.ref a0, .long a1] Q S I J := by
  have hm : pm_mx 116 = 5 := by decide +kernel
  refine pm_ent (K := kX9_mix) (by decide) rfl rfl hd (by rw [hm]; exact Nat.le_of_ble_eq_true rfl) ?_
  rw [hm]
  exact w.2
theorem eX10_init {g : pm_G} {d : Nat} {Q : pm_Po} {S : pm_SS} {I : pm_MI} {J : pm_ML} {a0 : Nat} (hd : 1 ≤ d) (w : UU g (d - 1) 117 kX10_init (pm_rm d 117) Q 0 [some (.ref a0)] [] S I J (0, 0)) : pm_C g d 117 [.ref a0] Q S I J := by
  have hm : pm_mx 117 = 1 := by decide +kernel
  refine pm_ent (K := kX10_init) (by decide) rfl rfl hd (by rw [hm]; exact Nat.le_of_ble_eq_true rfl) ?_
  rw [hm]
  exact w.2
theorem eX10_found {g : pm_G} {d : Nat} {Q : pm_Po} {S : pm_SS} {I : pm_MI} {J : pm_ML} {a0 : Nat} {a1 : Int32} (hd : 1 ≤ d) (w : UU g (d - 1) 118 kX10_found (pm_rm d 118) Q 0 [some (.ref a0), some (.int a1)] [] S I J (0, 0)) : pm_C g d 118 [.ref a0, .int a1] Q S I J := by
  have hm : pm_mx 118 = 2 := by decide +kernel
  refine pm_ent (K := kX10_found) (by decide) rfl rfl hd (by rw [hm]; exact Nat.le_of_ble_eq_true rfl) ?_
  rw [hm]
  exact w.2
theorem eX10_asks {g : pm_G} {d : Nat} {Q : pm_Po} {S : pm_SS} {I : pm_MI} {J : pm_ML} {a0 : Nat} {a1 : Int32} (hd : 1 ≤ d) (w : UU g (d - 1) 119 kX10_asks (pm_rm d 119) Q 0 [some (.ref a0), some (.int a1)] [] S I J (0, 0)) : pm_C g d 119 [.ref a0, .int a1] Q S I J := by
  have hm : pm_mx 119 = 2 := by decide +kernel
  refine pm_ent (K := kX10_asks) (by decide) rfl rfl hd (by rw [hm]; exact Nat.le_of_ble_eq_true rfl) ?_
  rw [hm]
  exact w.2
theorem eX10_fraction {g : pm_G} {d : Nat} {Q : pm_Po} {S : pm_SS} {I : pm_MI} {J : pm_ML} {a0 : Nat} {a1 : Int64} {a2 : Int64} (hd : 1 ≤ d) (w : UU g (d - 1) 120 kX10_fraction (pm_rm d 120) Q 0 [some (.ref a0), some (.long a1), none, some (.long a2), none, none, none] [] S I J (0, 0)) : pm_C g d 120 [.ref a0, .long a1, .long a2] Q S I J := by
  have hm : pm_mx 120 = 7 := by decide +kernel
  refine pm_ent (K := kX10_fraction) (by decide) rfl rfl hd (by rw [hm]; exact Nat.le_of_ble_eq_true rfl) ?_
  rw [hm]
  exact w.2
theorem eX10_commonDivisor {g : pm_G} {d : Nat} {Q : pm_Po} {S : pm_SS} {I : pm_MI} {J : pm_ML} {a0 : Int64} {a1 : Int64} (hd : 1 ≤ d) (w : UU g (d - 1) 121 kX10_commonDivisor (pm_rm d 121) Q 0 [some (.long a0), none, some (.long a1), none, none, none, none] [] S I J (0, 0)) : pm_C g d 121 [.long a0, .long a1] Q S I J := by
  have hm : pm_mx 121 = 7 := by decide +kernel
  refine pm_ent (K := kX10_commonDivisor) (by decide) rfl rfl hd (by rw [hm]; exact Nat.le_of_ble_eq_true rfl) ?_
  rw [hm]
  exact w.2
theorem eX11_init {g : pm_G} {d : Nat} {Q : pm_Po} {S : pm_SS} {I : pm_MI} {J : pm_ML} {a0 : Nat} (hd : 1 ≤ d) (w : UU g (d - 1) 122 kX11_init (pm_rm d 122) Q 0 [some (.ref a0)] [] S I J (0, 0)) : pm_C g d 122 [.ref a0] Q S I J := by
  have hm : pm_mx 122 = 1 := by decide +kernel
  refine pm_ent (K := kX11_init) (by decide) rfl rfl hd (by rw [hm]; exact Nat.le_of_ble_eq_true rfl) ?_
  rw [hm]
  exact w.2
theorem eX11_row {g : pm_G} {d : Nat} {Q : pm_Po} {S : pm_SS} {I : pm_MI} {J : pm_ML} {a0 : Nat} {a1 : Int32} {a2 : Int32} (hd : 1 ≤ d) (w : UU g (d - 1) 123 kX11_row (pm_rm d 123) Q 0 [some (.ref a0), some (.int a1), some (.int a2)] [] S I J (0, 0)) : pm_C g d 123 [.ref a0, .int a1, .int a2] Q S I J := by
  have hm : pm_mx 123 = 3 := by decide +kernel
  refine pm_ent (K := kX11_row) (by decide) rfl rfl hd (by rw [hm]; exact Nat.le_of_ble_eq_true rfl) ?_
  rw [hm]
  exact w.2
theorem eX11_lay {g : pm_G} {d : Nat} {Q : pm_Po} {S : pm_SS} {I : pm_MI} {J : pm_ML} {a0 : Nat} {a1 : Int32} {a2 : Int32} {a3 : Int32} (hd : 1 ≤ d) (w : UU g (d - 1) 124 kX11_lay (pm_rm d 124) Q 0 [some (.ref a0), some (.int a1), some (.int a2), some (.int a3)] [] S I J (0, 0)) : pm_C g d 124 [.ref a0, .int a1, .int a2, .int a3] Q S I J := by
  have hm : pm_mx 124 = 4 := by decide +kernel
  refine pm_ent (K := kX11_lay) (by decide) rfl rfl hd (by rw [hm]; exact Nat.le_of_ble_eq_true rfl) ?_
  rw [hm]
  exact w.2
theorem eX11_tear {g : pm_G} {d : Nat} {Q : pm_Po} {S : pm_SS} {I : pm_MI} {J : pm_ML} {a0 : Nat} {a1 : Int32} (hd : 1 ≤ d) (w : UU g (d - 1) 125 kX11_tear (pm_rm d 125) Q 0 [some (.ref a0), some (.int a1)] [] S I J (0, 0)) : pm_C g d 125 [.ref a0, .int a1] Q S I J := by
  have hm : pm_mx 125 = 2 := by decide +kernel
  refine pm_ent (K := kX11_tear) (by decide) rfl rfl hd (by rw [hm]; exact Nat.le_of_ble_eq_true rfl) ?_
  rw [hm]
  exact w.2
theorem eX11_copy {g : pm_G} {d : Nat} {Q : pm_Po} {S : pm_SS} {I : pm_MI} {J : pm_ML} {a0 : Nat} {a1 : Int32} {a2 : Int32} {a3 : Int32} {a4 : Int32} {a5 : Int32} (hd : 1 ≤ d) (w : UU g (d - 1) 126 kX11_copy (pm_rm d 126) Q 0 [some (.ref a0), some (.int a1), some (.int a2), some (.int a3), some (.int a4), some (.int a5)] [] S I J (0, 0)) : pm_C g d 126 [.ref a0, .int a1, .int a2, .int a3, .int a4, .int a5] Q S I J := by
  have hm : pm_mx 126 = 6 := by decide +kernel
  refine pm_ent (K := kX11_copy) (by decide) rfl rfl hd (by rw [hm]; exact Nat.le_of_ble_eq_true rfl) ?_
  rw [hm]
  exact w.2
theorem eX11_text {g : pm_G} {d : Nat} {Q : pm_Po} {S : pm_SS} {I : pm_MI} {J : pm_ML} {a0 : Nat} {a1 : Int32} {a2 : Int32} (hd : 1 ≤ d) (w : UU g (d - 1) 127 kX11_text (pm_rm d 127) Q 0 [some (.ref a0), some (.int a1), some (.int a2)] [] S I J (0, 0)) : pm_C g d 127 [.ref a0, .int a1, .int a2] Q S I J := by
  have hm : pm_mx 127 = 3 := by decide +kernel
  refine pm_ent (K := kX11_text) (by decide) rfl rfl hd (by rw [hm]; exact Nat.le_of_ble_eq_true rfl) ?_
  rw [hm]
  exact w.2
theorem eX11_put {g : pm_G} {d : Nat} {Q : pm_Po} {S : pm_SS} {I : pm_MI} {J : pm_ML} {a0 : Nat} {a1 : Int32} {a2 : Int32} {a3 : Int32} (hd : 1 ≤ d) (w : UU g (d - 1) 128 kX11_put (pm_rm d 128) Q 0 [some (.ref a0), some (.int a1), some (.int a2), some (.int a3)] [] S I J (0, 0)) : pm_C g d 128 [.ref a0, .int a1, .int a2, .int a3] Q S I J := by
  have hm : pm_mx 128 = 4 := by decide +kernel
  refine pm_ent (K := kX11_put) (by decide) rfl rfl hd (by rw [hm]; exact Nat.le_of_ble_eq_true rfl) ?_
  rw [hm]
  exact w.2
theorem eX11_burn {g : pm_G} {d : Nat} {Q : pm_Po} {S : pm_SS} {I : pm_MI} {J : pm_ML} {a0 : Nat} {a1 : Int32} (hd : 1 ≤ d) (w : UU g (d - 1) 129 kX11_burn (pm_rm d 129) Q 0 [some (.ref a0), some (.int a1)] [] S I J (0, 0)) : pm_C g d 129 [.ref a0, .int a1] Q S I J := by
  have hm : pm_mx 129 = 2 := by decide +kernel
  refine pm_ent (K := kX11_burn) (by decide) rfl rfl hd (by rw [hm]; exact Nat.le_of_ble_eq_true rfl) ?_
  rw [hm]
  exact w.2
theorem eX11_fault {g : pm_G} {d : Nat} {Q : pm_Po} {S : pm_SS} {I : pm_MI} {J : pm_ML} {a0 : Nat} {a1 : Int32} (hd : 1 ≤ d) (w : UU g (d - 1) 130 kX11_fault (pm_rm d 130) Q 0 [some (.ref a0), some (.int a1)] [] S I J (0, 0)) : pm_C g d 130 [.ref a0, .int a1] Q S I J := by
  have hm : pm_mx 130 = 2 := by decide +kernel
  refine pm_ent (K := kX11_fault) (by decide) rfl rfl hd (by rw [hm]; exact Nat.le_of_ble_eq_true rfl) ?_
  rw [hm]
  exact w.2
theorem eX11_later {g : pm_G} {d : Nat} {Q : pm_Po} {S : pm_SS} {I : pm_MI} {J : pm_ML} {a0 : Nat} {a1 : Int32} (hd : 1 ≤ d) (w : UU g (d - 1) 131 kX11_later (pm_rm d 131) Q 0 [some (.ref a0), some (.int a1)] [] S I J (0, 0)) : pm_C g d 131 [.ref a0, .int a1] Q S I J := by
  have hm : pm_mx 131 = 2 := by decide +kernel
  refine pm_ent (K := kX11_later) (by decide) rfl rfl hd (by rw [hm]; exact Nat.le_of_ble_eq_true rfl) ?_
  rw [hm]
  exact w.2
theorem eX11_lacquer {g : pm_G} {d : Nat} {Q : pm_Po} {S : pm_SS} {I : pm_MI} {J : pm_ML} {a0 : Nat} {a1 : Int32} {a2 : Int32} (hd : 1 ≤ d) (w : UU g (d - 1) 132 kX11_lacquer (pm_rm d 132) Q 0 [some (.ref a0), some (.int a1), some (.int a2)] [] S I J (0, 0)) : pm_C g d 132 [.ref a0, .int a1, .int a2] Q S I J := by
  have hm : pm_mx 132 = 3 := by decide +kernel
  refine pm_ent (K := kX11_lacquer) (by decide) rfl rfl hd (by rw [hm]; exact Nat.le_of_ble_eq_true rfl) ?_
  rw [hm]
  exact w.2
theorem eX11_grow {g : pm_G} {d : Nat} {Q : pm_Po} {S : pm_SS} {I : pm_MI} {J : pm_ML} {a0 : Nat} {a1 : Int32} {a2 : Int32} {a3 : Int32} (hd : 1 ≤ d) (w : UU g (d - 1) 133 kX11_grow (pm_rm d 133) Q 0 [some (.ref a0), some (.int a1), some (.int a2), some (.int a3), none] [] S I J (0, 0)) : pm_C g d 133 [.ref a0, .int a1, .int a2, .int a3] Q S I J := by
  have hm : pm_mx 133 = 5 := by decide +kernel
  refine pm_ent (K := kX11_grow) (by decide) rfl rfl hd (by rw [hm]; exact Nat.le_of_ble_eq_true rfl) ?_
  rw [hm]
  exact w.2
theorem eX11_state {g : pm_G} {d : Nat} {Q : pm_Po} {S : pm_SS} {I : pm_MI} {J : pm_ML} {a0 : Nat} {a1 : Int32} {a2 : Int32} (hd : 1 ≤ d) (w : UU g (d - 1) 134 kX11_state (pm_rm d 134) Q 0 [some (.ref a0), some (.int a1), some (.int a2), none] [] S I J (0, 0)) : pm_C g d 134 [.ref a0, .int a1, .int a2] Q S I J := by
  have hm : pm_mx 134 = 4 := by decide +kernel
  refine pm_ent (K := kX11_state) (by decide) rfl rfl hd (by rw [hm]; exact Nat.le_of_ble_eq_true rfl) ?_
  rw [hm]
  exact w.2
theorem eX11_told {g : pm_G} {d : Nat} {Q : pm_Po} {S : pm_SS} {I : pm_MI} {J : pm_ML} {a0 : Nat} {a1 : Int32} {a2 : Int32} (hd : 1 ≤ d) (w : UU g (d - 1) 135 kX11_told (pm_rm d 135) Q 0 [some (.ref a0), some (.int a1), some (.int a2)] [] S I J (0, 0)) : pm_C g d 135 [.ref a0, .int a1, .int a2] Q S I J := by
  have hm : pm_mx 135 = 3 := by decide +kernel
  refine pm_ent (K := kX11_told) (by decide) rfl rfl hd (by rw [hm]; exact Nat.le_of_ble_eq_true rfl) ?_
  rw [hm]
  exact w.2
theorem eX11_mark {g : pm_G} {d : Nat} {Q : pm_Po} {S : pm_SS} {I : pm_MI} {J : pm_ML} {a0 : Nat} {a1 : Int32} {a2 : Int32} (hd : 1 ≤ d) (w : UU g (d - 1) 136 kX11_mark (pm_rm d 136) Q 0 [some (.ref a0), some (.int a1), some (.int a2)] [] S I J (0, 0)) : pm_C g d 136 [.ref a0, .int a1, .int a2] Q S I J := by
  have hm : pm_mx 136 = 3 := by decide +kernel
  refine pm_ent (K := kX11_mark) (by decide) rfl rfl hd (by rw [hm]; exact Nat.le_of_ble_eq_true rfl) ?_
  rw [hm]
  exact w.2
theorem eX11_asOf {g : pm_G} {d : Nat} {Q : pm_Po} {S : pm_SS} {I : pm_MI} {J : pm_ML} {a0 : Nat} {a1 : Int32} {a2 : Int32} (hd : 1 ≤ d) (w : UU g (d - 1) 137 kX11_asOf (pm_rm d 137) Q 0 [some (.ref a0), some (.int a1), some (.int a2)] [] S I J (0, 0)) : pm_C g d 137 [.ref a0, .int a1, .int a2] Q S I J := by
  have hm : pm_mx 137 = 3 := by decide +kernel
  refine pm_ent (K := kX11_asOf) (by decide) rfl rfl hd (by rw [hm]; exact Nat.le_of_ble_eq_true rfl) ?_
  rw [hm]
  exact w.2
theorem eX11_lead {g : pm_G} {d : Nat} {Q : pm_Po} {S : pm_SS} {I : pm_MI} {J : pm_ML} {a0 : Nat} {a1 : Int32} (hd : 1 ≤ d) (w : UU g (d - 1) 138 kX11_lead (pm_rm d 138) Q 0 [some (.ref a0), some (.int a1)] [] S I J (0, 0)) : pm_C g d 138 [.ref a0, .int a1] Q S I J := by
  have hm : pm_mx 138 = 2 := by decide +kernel
  refine pm_ent (K := kX11_lead) (by decide) rfl rfl hd (by rw [hm]; exact Nat.le_of_ble_eq_true rfl) ?_
  rw [hm]
  exact w.2
theorem eX11_marry {g : pm_G} {d : Nat} {Q : pm_Po} {S : pm_SS} {I : pm_MI} {J : pm_ML} {a0 : Nat} {a1 : Int32} {a2 : Int32} {a3 : Int32} (hd : 1 ≤ d) (w : UU g (d - 1) 139 kX11_marry (pm_rm d 139) Q 0 [some (.ref a0), some (.int a1), some (.int a2), some (.int a3)] [] S I J (0, 0)) : pm_C g d 139 [.ref a0, .int a1, .int a2, .int a3] Q S I J := by
  have hm : pm_mx 139 = 4 := by decide +kernel
  refine pm_ent (K := kX11_marry) (by decide) rfl rfl hd (by rw [hm]; exact Nat.le_of_ble_eq_true rfl) ?_
  rw [hm]
  exact w.2
theorem eX11_isFree {g : pm_G} {d : Nat} {Q : pm_Po} {S : pm_SS} {I : pm_MI} {J : pm_ML} {a0 : Nat} {a1 : Int32} (hd : 1 ≤ d) (w : UU g (d - 1) 140 kX11_isFree (pm_rm d 140) Q 0 [some (.ref a0), some (.int a1)] [] S I J (0, 0)) : pm_C g d 140 [.ref a0, .int a1] Q S I J := by
  have hm : pm_mx 140 = 2 := by decide +kernel
  refine pm_ent (K := kX11_isFree) (by decide) rfl rfl hd (by rw [hm]; exact Nat.le_of_ble_eq_true rfl) ?_
  rw [hm]
  exact w.2
theorem eX11_part {g : pm_G} {d : Nat} {Q : pm_Po} {S : pm_SS} {I : pm_MI} {J : pm_ML} {a0 : Nat} {a1 : Int32} (hd : 1 ≤ d) (w : UU g (d - 1) 141 kX11_part (pm_rm d 141) Q 0 [some (.ref a0), some (.int a1), none] [] S I J (0, 0)) : pm_C g d 141 [.ref a0, .int a1] Q S I J := by
  have hm : pm_mx 141 = 3 := by decide +kernel
  refine pm_ent (K := kX11_part) (by decide) rfl rfl hd (by rw [hm]; exact Nat.le_of_ble_eq_true rfl) ?_
  rw [hm]
  exact w.2
theorem eX11_held {g : pm_G} {d : Nat} {Q : pm_Po} {S : pm_SS} {I : pm_MI} {J : pm_ML} {a0 : Nat} {a1 : Int32} {a2 : Int32} (hd : 1 ≤ d) (w : UU g (d - 1) 142 kX11_held (pm_rm d 142) Q 0 [some (.ref a0), some (.int a1), some (.int a2)] [] S I J (0, 0)) : pm_C g d 142 [.ref a0, .int a1, .int a2] Q S I J := by
  have hm : pm_mx 142 = 3 := by decide +kernel
  refine pm_ent (K := kX11_held) (by decide) rfl rfl hd (by rw [hm]; exact Nat.le_of_ble_eq_true rfl) ?_
  rw [hm]
  exact w.2
theorem eX11_off {g : pm_G} {d : Nat} {Q : pm_Po} {S : pm_SS} {I : pm_MI} {J : pm_ML} {a0 : Nat} {a1 : Int32} {a2 : Int32} {a3 : Int32} (hd : 1 ≤ d) (w : UU g (d - 1) 143 kX11_off (pm_rm d 143) Q 0 [some (.ref a0), some (.int a1), some (.int a2), some (.int a3)] [] S I J (0, 0)) : pm_C g d 143 [.ref a0, .int a1, .int a2, .int a3] Q S I J := by
  have hm : pm_mx 143 = 4 := by decide +kernel
  refine pm_ent (K := kX11_off) (by decide) rfl rfl hd (by rw [hm]; exact Nat.le_of_ble_eq_true rfl) ?_
  rw [hm]
  exact w.2
theorem eX11_isOff {g : pm_G} {d : Nat} {Q : pm_Po} {S : pm_SS} {I : pm_MI} {J : pm_ML} {a0 : Int32} (hd : 1 ≤ d) (w : UU g (d - 1) 144 kX11_isOff (pm_rm d 144) Q 0 [some (.int a0)] [] S I J (0, 0)) : pm_C g d 144 [.int a0] Q S I J := by
  have hm : pm_mx 144 = 1 := by decide +kernel
  refine pm_ent (K := kX11_isOff) (by decide) rfl rfl hd (by rw [hm]; exact Nat.le_of_ble_eq_true rfl) ?_
  rw [hm]
  exact w.2
theorem eX11_run {g : pm_G} {d : Nat} {Q : pm_Po} {S : pm_SS} {I : pm_MI} {J : pm_ML} {a0 : Nat} {a1 : Int32} {a2 : Int32} {a3 : Int32} (hd : 1 ≤ d) (w : UU g (d - 1) 145 kX11_run (pm_rm d 145) Q 0 [some (.ref a0), some (.int a1), some (.int a2), some (.int a3), none, none] [] S I J (0, 0)) : pm_C g d 145 [.ref a0, .int a1, .int a2, .int a3] Q S I J := by
  have hm : pm_mx 145 = 6 := by decide +kernel
  refine pm_ent (K := kX11_run) (by decide) rfl rfl hd (by rw [hm]; exact Nat.le_of_ble_eq_true rfl) ?_
  rw [hm]
  exact w.2
theorem eX11_runTold {g : pm_G} {d : Nat} {Q : pm_Po} {S : pm_SS} {I : pm_MI} {J : pm_ML} {a0 : Nat} {a1 : Int32} {a2 : Int32} (hd : 1 ≤ d) (w : UU g (d - 1) 146 kX11_runTold (pm_rm d 146) Q 0 [some (.ref a0), some (.int a1), some (.int a2)] [] S I J (0, 0)) : pm_C g d 146 [.ref a0, .int a1, .int a2] Q S I J := by
  have hm : pm_mx 146 = 3 := by decide +kernel
  refine pm_ent (K := kX11_runTold) (by decide) rfl rfl hd (by rw [hm]; exact Nat.le_of_ble_eq_true rfl) ?_
  rw [hm]
  exact w.2
theorem eX11_runFact {g : pm_G} {d : Nat} {Q : pm_Po} {S : pm_SS} {I : pm_MI} {J : pm_ML} {a0 : Nat} {a1 : Int32} {a2 : Int32} (hd : 1 ≤ d) (w : UU g (d - 1) 147 kX11_runFact (pm_rm d 147) Q 0 [some (.ref a0), some (.int a1), some (.int a2)] [] S I J (0, 0)) : pm_C g d 147 [.ref a0, .int a1, .int a2] Q S I J := by
  have hm : pm_mx 147 = 3 := by decide +kernel
  refine pm_ent (K := kX11_runFact) (by decide) rfl rfl hd (by rw [hm]; exact Nat.le_of_ble_eq_true rfl) ?_
  rw [hm]
  exact w.2
theorem eX11_mean {g : pm_G} {d : Nat} {Q : pm_Po} {S : pm_SS} {I : pm_MI} {J : pm_ML} {a0 : Nat} {a1 : Int32} (hd : 1 ≤ d) (w : UU g (d - 1) 148 kX11_mean (pm_rm d 148) Q 0 [some (.ref a0), some (.int a1), none] [] S I J (0, 0)) : pm_C g d 148 [.ref a0, .int a1] Q S I J := by
  have hm : pm_mx 148 = 3 := by decide +kernel
  refine pm_ent (K := kX11_mean) (by decide) rfl rfl hd (by rw [hm]; exact Nat.le_of_ble_eq_true rfl) ?_
  rw [hm]
  exact w.2
theorem eX11_rule {g : pm_G} {d : Nat} {Q : pm_Po} {S : pm_SS} {I : pm_MI} {J : pm_ML} {a0 : Nat} {a1 : Int32} {a2 : Int32} (hd : 1 ≤ d) (w : UU g (d - 1) 149 kX11_rule (pm_rm d 149) Q 0 [some (.ref a0), some (.int a1), some (.int a2)] [] S I J (0, 0)) : pm_C g d 149 [.ref a0, .int a1, .int a2] Q S I J := by
  have hm : pm_mx 149 = 3 := by decide +kernel
  refine pm_ent (K := kX11_rule) (by decide) rfl rfl hd (by rw [hm]; exact Nat.le_of_ble_eq_true rfl) ?_
  rw [hm]
  exact w.2
theorem eX11_force {g : pm_G} {d : Nat} {Q : pm_Po} {S : pm_SS} {I : pm_MI} {J : pm_ML} {a0 : Nat} {a1 : Int32} {a2 : Int32} {a3 : Int32} {a4 : Int32} {a5 : Int32} (hd : 1 ≤ d) (w : UU g (d - 1) 150 kX11_force (pm_rm d 150) Q 0 [some (.ref a0), some (.int a1), some (.int a2), some (.int a3), some (.int a4), some (.int a5), none] [] S I J (0, 0)) : pm_C g d 150 [.ref a0, .int a1, .int a2, .int a3, .int a4, .int a5] Q S I J := by
  have hm : pm_mx 150 = 7 := by decide +kernel
  refine pm_ent (K := kX11_force) (by decide) rfl rfl hd (by rw [hm]; exact Nat.le_of_ble_eq_true rfl) ?_
  rw [hm]
  exact w.2
theorem eX11_why {g : pm_G} {d : Nat} {Q : pm_Po} {S : pm_SS} {I : pm_MI} {J : pm_ML} {a0 : Nat} {a1 : Int32} {a2 : Int32} {a3 : Int32} {a4 : Int32} {a5 : Int32} (hd : 1 ≤ d) (w : UU g (d - 1) 151 kX11_why (pm_rm d 151) Q 0 [some (.ref a0), some (.int a1), some (.int a2), some (.int a3), some (.int a4), some (.int a5), none] [] S I J (0, 0)) : pm_C g d 151 [.ref a0, .int a1, .int a2, .int a3, .int a4, .int a5] Q S I J := by
  have hm : pm_mx 151 = 7 := by decide +kernel
  refine pm_ent (K := kX11_why) (by decide) rfl rfl hd (by rw [hm]; exact Nat.le_of_ble_eq_true rfl) ?_
  rw [hm]
  exact w.2
theorem eX11_report {g : pm_G} {d : Nat} {Q : pm_Po} {S : pm_SS} {I : pm_MI} {J : pm_ML} {a0 : Nat} {a1 : Int32} {a2 : Int32} {a3 : Int32} {a4 : Int32} (hd : 1 ≤ d) (w : UU g (d - 1) 152 kX11_report (pm_rm d 152) Q 0 [some (.ref a0), some (.int a1), some (.int a2), some (.int a3), some (.int a4)] [] S I J (0, 0)) : pm_C g d 152 [.ref a0, .int a1, .int a2, .int a3, .int a4] Q S I J := by
  have hm : pm_mx 152 = 5 := by decide +kernel
  refine pm_ent (K := kX11_report) (by decide) rfl rfl hd (by rw [hm]; exact Nat.le_of_ble_eq_true rfl) ?_
  rw [hm]
  exact w.2
theorem eX11_cause {g : pm_G} {d : Nat} {Q : pm_Po} {S : pm_SS} {I : pm_MI} {J : pm_ML} {a0 : Nat} {a1 : Int32} {a2 : Int32} (hd : 1 ≤ d) (w : UU g (d - 1) 153 kX11_cause (pm_rm d 153) Q 0 [some (.ref a0), some (.int a1), some (.int a2)] [] S I J (0, 0)) : pm_C g d 153 [.ref a0, .int a1, .int a2] Q S I J := by
  have hm : pm_mx 153 = 3 := by decide +kernel
  refine pm_ent (K := kX11_cause) (by decide) rfl rfl hd (by rw [hm]; exact Nat.le_of_ble_eq_true rfl) ?_
  rw [hm]
  exact w.2
theorem eX11_areMisses {g : pm_G} {d : Nat} {Q : pm_Po} {S : pm_SS} {I : pm_MI} {J : pm_ML} {a0 : Int32} (hd : 1 ≤ d) (w : UU g (d - 1) 154 kX11_areMisses (pm_rm d 154) Q 0 [some (.int a0)] [] S I J (0, 0)) : pm_C g d 154 [.int a0] Q S I J := by
  have hm : pm_mx 154 = 1 := by decide +kernel
  refine pm_ent (K := kX11_areMisses) (by decide) rfl rfl hd (by rw [hm]; exact Nat.le_of_ble_eq_true rfl) ?_
  rw [hm]
  exact w.2
theorem eX11_explain {g : pm_G} {d : Nat} {Q : pm_Po} {S : pm_SS} {I : pm_MI} {J : pm_ML} {a0 : Nat} {a1 : Int32} {a2 : Int32} {a3 : Int64} (hd : 1 ≤ d) (w : UU g (d - 1) 155 kX11_explain (pm_rm d 155) Q 0 [some (.ref a0), some (.int a1), some (.int a2), some (.long a3), none] [] S I J (0, 0)) : pm_C g d 155 [.ref a0, .int a1, .int a2, .long a3] Q S I J := by
  have hm : pm_mx 155 = 5 := by decide +kernel
  refine pm_ent (K := kX11_explain) (by decide) rfl rfl hd (by rw [hm]; exact Nat.le_of_ble_eq_true rfl) ?_
  rw [hm]
  exact w.2
theorem eX11_causeTold {g : pm_G} {d : Nat} {Q : pm_Po} {S : pm_SS} {I : pm_MI} {J : pm_ML} {a0 : Nat} {a1 : Int32} {a2 : Int32} (hd : 1 ≤ d) (w : UU g (d - 1) 156 kX11_causeTold (pm_rm d 156) Q 0 [some (.ref a0), some (.int a1), some (.int a2)] [] S I J (0, 0)) : pm_C g d 156 [.ref a0, .int a1, .int a2] Q S I J := by
  have hm : pm_mx 156 = 3 := by decide +kernel
  refine pm_ent (K := kX11_causeTold) (by decide) rfl rfl hd (by rw [hm]; exact Nat.le_of_ble_eq_true rfl) ?_
  rw [hm]
  exact w.2
theorem eX11_rivals {g : pm_G} {d : Nat} {Q : pm_Po} {S : pm_SS} {I : pm_MI} {J : pm_ML} {a0 : Nat} {a1 : Int32} {a2 : Int32} (hd : 1 ≤ d) (w : UU g (d - 1) 157 kX11_rivals (pm_rm d 157) Q 0 [some (.ref a0), some (.int a1), some (.int a2)] [] S I J (0, 0)) : pm_C g d 157 [.ref a0, .int a1, .int a2] Q S I J := by
  have hm : pm_mx 157 = 3 := by decide +kernel
  refine pm_ent (K := kX11_rivals) (by decide) rfl rfl hd (by rw [hm]; exact Nat.le_of_ble_eq_true rfl) ?_
  rw [hm]
  exact w.2
theorem eX11_nextTest {g : pm_G} {d : Nat} {Q : pm_Po} {S : pm_SS} {I : pm_MI} {J : pm_ML} {a0 : Nat} {a1 : Int32} {a2 : Int32} (hd : 1 ≤ d) (w : UU g (d - 1) 158 kX11_nextTest (pm_rm d 158) Q 0 [some (.ref a0), some (.int a1), some (.int a2), none, none, none] [] S I J (0, 0)) : pm_C g d 158 [.ref a0, .int a1, .int a2] Q S I J := by
  have hm : pm_mx 158 = 6 := by decide +kernel
  refine pm_ent (K := kX11_nextTest) (by decide) rfl rfl hd (by rw [hm]; exact Nat.le_of_ble_eq_true rfl) ?_
  rw [hm]
  exact w.2
theorem eX11_recall {g : pm_G} {d : Nat} {Q : pm_Po} {S : pm_SS} {I : pm_MI} {J : pm_ML} {a0 : Nat} {a1 : Int32} {a2 : Int32} {a3 : Int32} (hd : 1 ≤ d) (w : UU g (d - 1) 159 kX11_recall (pm_rm d 159) Q 0 [some (.ref a0), some (.int a1), some (.int a2), some (.int a3), none, none] [] S I J (0, 0)) : pm_C g d 159 [.ref a0, .int a1, .int a2, .int a3] Q S I J := by
  have hm : pm_mx 159 = 6 := by decide +kernel
  refine pm_ent (K := kX11_recall) (by decide) rfl rfl hd (by rw [hm]; exact Nat.le_of_ble_eq_true rfl) ?_
  rw [hm]
  exact w.2
theorem eX11_runIsOn {g : pm_G} {d : Nat} {Q : pm_Po} {S : pm_SS} {I : pm_MI} {J : pm_ML} {a0 : Nat} {a1 : Int32} {a2 : Int32} {a3 : Int32} (hd : 1 ≤ d) (w : UU g (d - 1) 160 kX11_runIsOn (pm_rm d 160) Q 0 [some (.ref a0), some (.int a1), some (.int a2), some (.int a3), none] [] S I J (0, 0)) : pm_C g d 160 [.ref a0, .int a1, .int a2, .int a3] Q S I J := by
  have hm : pm_mx 160 = 5 := by decide +kernel
  refine pm_ent (K := kX11_runIsOn) (by decide) rfl rfl hd (by rw [hm]; exact Nat.le_of_ble_eq_true rfl) ?_
  rw [hm]
  exact w.2
theorem eX11_swish {g : pm_G} {d : Nat} {Q : pm_Po} {S : pm_SS} {I : pm_MI} {J : pm_ML} {a0 : Nat} {a1 : Int32} {a2 : Int32} (hd : 1 ≤ d) (w : UU g (d - 1) 161 kX11_swish (pm_rm d 161) Q 0 [some (.ref a0), some (.int a1), some (.int a2)] [] S I J (0, 0)) : pm_C g d 161 [.ref a0, .int a1, .int a2] Q S I J := by
  have hm : pm_mx 161 = 3 := by decide +kernel
  refine pm_ent (K := kX11_swish) (by decide) rfl rfl hd (by rw [hm]; exact Nat.le_of_ble_eq_true rfl) ?_
  rw [hm]
  exact w.2
theorem eX11_swishRun {g : pm_G} {d : Nat} {Q : pm_Po} {S : pm_SS} {I : pm_MI} {J : pm_ML} {a0 : Nat} {a1 : Int32} {a2 : Int32} (hd : 1 ≤ d) (w : UU g (d - 1) 162 kX11_swishRun (pm_rm d 162) Q 0 [some (.ref a0), some (.int a1), some (.int a2), none, none, none, none, none, none] [] S I J (0, 0)) : pm_C g d 162 [.ref a0, .int a1, .int a2] Q S I J := by
  have hm : pm_mx 162 = 9 := by decide +kernel
  refine pm_ent (K := kX11_swishRun) (by decide) rfl rfl hd (by rw [hm]; exact Nat.le_of_ble_eq_true rfl) ?_
  rw [hm]
  exact w.2
theorem eX11_areTurns {g : pm_G} {d : Nat} {Q : pm_Po} {S : pm_SS} {I : pm_MI} {J : pm_ML} {a0 : Nat} {a1 : Int32} (hd : 1 ≤ d) (w : UU g (d - 1) 163 kX11_areTurns (pm_rm d 163) Q 0 [some (.ref a0), some (.int a1), none] [] S I J (0, 0)) : pm_C g d 163 [.ref a0, .int a1] Q S I J := by
  have hm : pm_mx 163 = 3 := by decide +kernel
  refine pm_ent (K := kX11_areTurns) (by decide) rfl rfl hd (by rw [hm]; exact Nat.le_of_ble_eq_true rfl) ?_
  rw [hm]
  exact w.2
theorem eX11_difference {g : pm_G} {d : Nat} {Q : pm_Po} {S : pm_SS} {I : pm_MI} {J : pm_ML} {a0 : Nat} {a1 : Int32} {a2 : Int32} {a3 : Int32} (hd : 1 ≤ d) (w : UU g (d - 1) 164 kX11_difference (pm_rm d 164) Q 0 [some (.ref a0), some (.int a1), some (.int a2), some (.int a3), none, none, none, none, none] [] S I J (0, 0)) : pm_C g d 164 [.ref a0, .int a1, .int a2, .int a3] Q S I J := by
  have hm : pm_mx 164 = 9 := by decide +kernel
  refine pm_ent (K := kX11_difference) (by decide) rfl rfl hd (by rw [hm]; exact Nat.le_of_ble_eq_true rfl) ?_
  rw [hm]
  exact w.2
theorem eX11_sell {g : pm_G} {d : Nat} {Q : pm_Po} {S : pm_SS} {I : pm_MI} {J : pm_ML} {a0 : Nat} {a1 : Int32} {a2 : Int32} {a3 : Int32} (hd : 1 ≤ d) (w : UU g (d - 1) 165 kX11_sell (pm_rm d 165) Q 0 [some (.ref a0), some (.int a1), some (.int a2), some (.int a3), none] [] S I J (0, 0)) : pm_C g d 165 [.ref a0, .int a1, .int a2, .int a3] Q S I J := by
  have hm : pm_mx 165 = 5 := by decide +kernel
  refine pm_ent (K := kX11_sell) (by decide) rfl rfl hd (by rw [hm]; exact Nat.le_of_ble_eq_true rfl) ?_
  rw [hm]
  exact w.2
theorem eX11_back {g : pm_G} {d : Nat} {Q : pm_Po} {S : pm_SS} {I : pm_MI} {J : pm_ML} {a0 : Nat} {a1 : Int32} {a2 : Int32} {a3 : Int32} (hd : 1 ≤ d) (w : UU g (d - 1) 166 kX11_back (pm_rm d 166) Q 0 [some (.ref a0), some (.int a1), some (.int a2), some (.int a3)] [] S I J (0, 0)) : pm_C g d 166 [.ref a0, .int a1, .int a2, .int a3] Q S I J := by
  have hm : pm_mx 166 = 4 := by decide +kernel
  refine pm_ent (K := kX11_back) (by decide) rfl rfl hd (by rw [hm]; exact Nat.le_of_ble_eq_true rfl) ?_
  rw [hm]
  exact w.2
theorem eX11_owe {g : pm_G} {d : Nat} {Q : pm_Po} {S : pm_SS} {I : pm_MI} {J : pm_ML} {a0 : Nat} {a1 : Int32} {a2 : Int32} {a3 : Int32} {a4 : Int32} (hd : 1 ≤ d) (w : UU g (d - 1) 167 kX11_owe (pm_rm d 167) Q 0 [some (.ref a0), some (.int a1), some (.int a2), some (.int a3), some (.int a4), none, none, none, none, none, none] [] S I J (0, 0)) : pm_C g d 167 [.ref a0, .int a1, .int a2, .int a3, .int a4] Q S I J := by
  have hm : pm_mx 167 = 11 := by decide +kernel
  refine pm_ent (K := kX11_owe) (by decide) rfl rfl hd (by rw [hm]; exact Nat.le_of_ble_eq_true rfl) ?_
  rw [hm]
  exact w.2
theorem eX11_facesWith {g : pm_G} {d : Nat} {Q : pm_Po} {S : pm_SS} {I : pm_MI} {J : pm_ML} {a0 : Nat} {a1 : Int32} {a2 : Int32} (hd : 1 ≤ d) (w : UU g (d - 1) 168 kX11_facesWith (pm_rm d 168) Q 0 [some (.ref a0), some (.int a1), some (.int a2), none, none] [] S I J (0, 0)) : pm_C g d 168 [.ref a0, .int a1, .int a2] Q S I J := by
  have hm : pm_mx 168 = 5 := by decide +kernel
  refine pm_ent (K := kX11_facesWith) (by decide) rfl rfl hd (by rw [hm]; exact Nat.le_of_ble_eq_true rfl) ?_
  rw [hm]
  exact w.2
theorem eX11_pence {g : pm_G} {d : Nat} {Q : pm_Po} {S : pm_SS} {I : pm_MI} {J : pm_ML} {a0 : Nat} (hd : 1 ≤ d) (w : UU g (d - 1) 169 kX11_pence (pm_rm d 169) Q 0 [some (.ref a0)] [] S I J (0, 0)) : pm_C g d 169 [.ref a0] Q S I J := by
  have hm : pm_mx 169 = 1 := by decide +kernel
  refine pm_ent (K := kX11_pence) (by decide) rfl rfl hd (by rw [hm]; exact Nat.le_of_ble_eq_true rfl) ?_
  rw [hm]
  exact w.2
theorem eX11_share {g : pm_G} {d : Nat} {Q : pm_Po} {S : pm_SS} {I : pm_MI} {J : pm_ML} {a0 : Nat} {a1 : Int32} (hd : 1 ≤ d) (w : UU g (d - 1) 170 kX11_share (pm_rm d 170) Q 0 [some (.ref a0), some (.int a1), none, none, none, none, none, none] [] S I J (0, 0)) : pm_C g d 170 [.ref a0, .int a1] Q S I J := by
  have hm : pm_mx 170 = 8 := by decide +kernel
  refine pm_ent (K := kX11_share) (by decide) rfl rfl hd (by rw [hm]; exact Nat.le_of_ble_eq_true rfl) ?_
  rw [hm]
  exact w.2
theorem eX11_order {g : pm_G} {d : Nat} {Q : pm_Po} {S : pm_SS} {I : pm_MI} {J : pm_ML} {a0 : Nat} {a1 : Int32} {a2 : Int32} (hd : 1 ≤ d) (w : UU g (d - 1) 171 kX11_order (pm_rm d 171) Q 0 [some (.ref a0), some (.int a1), some (.int a2)] [] S I J (0, 0)) : pm_C g d 171 [.ref a0, .int a1, .int a2] Q S I J := by
  have hm : pm_mx 171 = 3 := by decide +kernel
  refine pm_ent (K := kX11_order) (by decide) rfl rfl hd (by rw [hm]; exact Nat.le_of_ble_eq_true rfl) ?_
  rw [hm]
  exact w.2
theorem eX11_plan {g : pm_G} {d : Nat} {Q : pm_Po} {S : pm_SS} {I : pm_MI} {J : pm_ML} {a0 : Nat} {a1 : Int32} {a2 : Int32} (hd : 1 ≤ d) (w : UU g (d - 1) 172 kX11_plan (pm_rm d 172) Q 0 [some (.ref a0), some (.int a1), some (.int a2)] [] S I J (0, 0)) : pm_C g d 172 [.ref a0, .int a1, .int a2] Q S I J := by
  have hm : pm_mx 172 = 3 := by decide +kernel
  refine pm_ent (K := kX11_plan) (by decide) rfl rfl hd (by rw [hm]; exact Nat.le_of_ble_eq_true rfl) ?_
  rw [hm]
  exact w.2
theorem eX11_planned {g : pm_G} {d : Nat} {Q : pm_Po} {S : pm_SS} {I : pm_MI} {J : pm_ML} {a0 : Nat} {a1 : Int32} (hd : 1 ≤ d) (w : UU g (d - 1) 173 kX11_planned (pm_rm d 173) Q 0 [some (.ref a0), some (.int a1)] [] S I J (0, 0)) : pm_C g d 173 [.ref a0, .int a1] Q S I J := by
  have hm : pm_mx 173 = 2 := by decide +kernel
  refine pm_ent (K := kX11_planned) (by decide) rfl rfl hd (by rw [hm]; exact Nat.le_of_ble_eq_true rfl) ?_
  rw [hm]
  exact w.2
theorem eX11_guess {g : pm_G} {d : Nat} {Q : pm_Po} {S : pm_SS} {I : pm_MI} {J : pm_ML} {a0 : Nat} {a1 : Int32} (hd : 1 ≤ d) (w : UU g (d - 1) 174 kX11_guess (pm_rm d 174) Q 0 [some (.ref a0), some (.int a1), none, none] [] S I J (0, 0)) : pm_C g d 174 [.ref a0, .int a1] Q S I J := by
  have hm : pm_mx 174 = 4 := by decide +kernel
  refine pm_ent (K := kX11_guess) (by decide) rfl rfl hd (by rw [hm]; exact Nat.le_of_ble_eq_true rfl) ?_
  rw [hm]
  exact w.2
theorem eX11_keptOf {g : pm_G} {d : Nat} {Q : pm_Po} {S : pm_SS} {I : pm_MI} {J : pm_ML} {a0 : Nat} {a1 : Int32} {a2 : Int32} {a3 : Int32} (hd : 1 ≤ d) (w : UU g (d - 1) 175 kX11_keptOf (pm_rm d 175) Q 0 [some (.ref a0), some (.int a1), some (.int a2), some (.int a3), none, none, none] [] S I J (0, 0)) : pm_C g d 175 [.ref a0, .int a1, .int a2, .int a3] Q S I J := by
  have hm : pm_mx 175 = 7 := by decide +kernel
  refine pm_ent (K := kX11_keptOf) (by decide) rfl rfl hd (by rw [hm]; exact Nat.le_of_ble_eq_true rfl) ?_
  rw [hm]
  exact w.2
theorem eX11_cost {g : pm_G} {d : Nat} {Q : pm_Po} {S : pm_SS} {I : pm_MI} {J : pm_ML} {a0 : Nat} {a1 : Int32} {a2 : Int32} {a3 : Int32} {a4 : Int32} (hd : 1 ≤ d) (w : UU g (d - 1) 176 kX11_cost (pm_rm d 176) Q 0 [some (.ref a0), some (.int a1), some (.int a2), some (.int a3), some (.int a4), none, none] [] S I J (0, 0)) : pm_C g d 176 [.ref a0, .int a1, .int a2, .int a3, .int a4] Q S I J := by
  have hm : pm_mx 176 = 7 := by decide +kernel
  refine pm_ent (K := kX11_cost) (by decide) rfl rfl hd (by rw [hm]; exact Nat.le_of_ble_eq_true rfl) ?_
  rw [hm]
  exact w.2
theorem eX11_asked {g : pm_G} {d : Nat} {Q : pm_Po} {S : pm_SS} {I : pm_MI} {J : pm_ML} {a0 : Nat} (hd : 1 ≤ d) (w : UU g (d - 1) 177 kX11_asked (pm_rm d 177) Q 0 [some (.ref a0)] [] S I J (0, 0)) : pm_C g d 177 [.ref a0] Q S I J := by
  have hm : pm_mx 177 = 1 := by decide +kernel
  refine pm_ent (K := kX11_asked) (by decide) rfl rfl hd (by rw [hm]; exact Nat.le_of_ble_eq_true rfl) ?_
  rw [hm]
  exact w.2
theorem eX11_upper {g : pm_G} {d : Nat} {Q : pm_Po} {S : pm_SS} {I : pm_MI} {J : pm_ML} {a0 : Nat} (hd : 1 ≤ d) (w : UU g (d - 1) 178 kX11_upper (pm_rm d 178) Q 0 [some (.ref a0)] [] S I J (0, 0)) : pm_C g d 178 [.ref a0] Q S I J := by
  have hm : pm_mx 178 = 1 := by decide +kernel
  refine pm_ent (K := kX11_upper) (by decide) rfl rfl hd (by rw [hm]; exact Nat.le_of_ble_eq_true rfl) ?_
  rw [hm]
  exact w.2
theorem eX11_lower {g : pm_G} {d : Nat} {Q : pm_Po} {S : pm_SS} {I : pm_MI} {J : pm_ML} {a0 : Nat} (hd : 1 ≤ d) (w : UU g (d - 1) 179 kX11_lower (pm_rm d 179) Q 0 [some (.ref a0)] [] S I J (0, 0)) : pm_C g d 179 [.ref a0] Q S I J := by
  have hm : pm_mx 179 = 1 := by decide +kernel
  refine pm_ent (K := kX11_lower) (by decide) rfl rfl hd (by rw [hm]; exact Nat.le_of_ble_eq_true rfl) ?_
  rw [hm]
  exact w.2
theorem eX11_count {g : pm_G} {d : Nat} {Q : pm_Po} {S : pm_SS} {I : pm_MI} {J : pm_ML} {a0 : Nat} {a1 : Int32} (hd : 1 ≤ d) (w : UU g (d - 1) 180 kX11_count (pm_rm d 180) Q 0 [some (.ref a0), some (.int a1)] [] S I J (0, 0)) : pm_C g d 180 [.ref a0, .int a1] Q S I J := by
  have hm : pm_mx 180 = 2 := by decide +kernel
  refine pm_ent (K := kX11_count) (by decide) rfl rfl hd (by rw [hm]; exact Nat.le_of_ble_eq_true rfl) ?_
  rw [hm]
  exact w.2
theorem eX11_finding {g : pm_G} {d : Nat} {Q : pm_Po} {S : pm_SS} {I : pm_MI} {J : pm_ML} {a0 : Nat} (hd : 1 ≤ d) (w : UU g (d - 1) 181 kX11_finding (pm_rm d 181) Q 0 [some (.ref a0)] [] S I J (0, 0)) : pm_C g d 181 [.ref a0] Q S I J := by
  have hm : pm_mx 181 = 1 := by decide +kernel
  refine pm_ent (K := kX11_finding) (by decide) rfl rfl hd (by rw [hm]; exact Nat.le_of_ble_eq_true rfl) ?_
  rw [hm]
  exact w.2
theorem eX11_findings {g : pm_G} {d : Nat} {Q : pm_Po} {S : pm_SS} {I : pm_MI} {J : pm_ML} {a0 : Nat} {a1 : Int32} (hd : 1 ≤ d) (w : UU g (d - 1) 182 kX11_findings (pm_rm d 182) Q 0 [some (.ref a0), some (.int a1)] [] S I J (0, 0)) : pm_C g d 182 [.ref a0, .int a1] Q S I J := by
  have hm : pm_mx 182 = 2 := by decide +kernel
  refine pm_ent (K := kX11_findings) (by decide) rfl rfl hd (by rw [hm]; exact Nat.le_of_ble_eq_true rfl) ?_
  rw [hm]
  exact w.2
theorem eX11_digest {g : pm_G} {d : Nat} {Q : pm_Po} {S : pm_SS} {I : pm_MI} {J : pm_ML} {a0 : Nat} (hd : 1 ≤ d) (w : UU g (d - 1) 183 kX11_digest (pm_rm d 183) Q 0 [some (.ref a0), none, none, none, none] [] S I J (0, 0)) : pm_C g d 183 [.ref a0] Q S I J := by
  have hm : pm_mx 183 = 5 := by decide +kernel
  refine pm_ent (K := kX11_digest) (by decide) rfl rfl hd (by rw [hm]; exact Nat.le_of_ble_eq_true rfl) ?_
  rw [hm]
  exact w.2
theorem eX11_below {g : pm_G} {d : Nat} {Q : pm_Po} {S : pm_SS} {I : pm_MI} {J : pm_ML} {a0 : Int32} {a1 : Int32} (hd : 1 ≤ d) (w : UU g (d - 1) 184 kX11_below (pm_rm d 184) Q 0 [some (.int a0), some (.int a1)] [] S I J (0, 0)) : pm_C g d 184 [.int a0, .int a1] Q S I J := by
  have hm : pm_mx 184 = 2 := by decide +kernel
  refine pm_ent (K := kX11_below) (by decide) rfl rfl hd (by rw [hm]; exact Nat.le_of_ble_eq_true rfl) ?_
  rw [hm]
  exact w.2
theorem eX11_isDay {g : pm_G} {d : Nat} {Q : pm_Po} {S : pm_SS} {I : pm_MI} {J : pm_ML} {a0 : Int32} (hd : 1 ≤ d) (w : UU g (d - 1) 185 kX11_isDay (pm_rm d 185) Q 0 [some (.int a0)] [] S I J (0, 0)) : pm_C g d 185 [.int a0] Q S I J := by
  have hm : pm_mx 185 = 1 := by decide +kernel
  refine pm_ent (K := kX11_isDay) (by decide) rfl rfl hd (by rw [hm]; exact Nat.le_of_ble_eq_true rfl) ?_
  rw [hm]
  exact w.2
theorem eX11_isTurn {g : pm_G} {d : Nat} {Q : pm_Po} {S : pm_SS} {I : pm_MI} {J : pm_ML} {a0 : Int32} (hd : 1 ≤ d) (w : UU g (d - 1) 186 kX11_isTurn (pm_rm d 186) Q 0 [some (.int a0)] [] S I J (0, 0)) : pm_C g d 186 [.int a0] Q S I J := by
  have hm : pm_mx 186 = 1 := by decide +kernel
  refine pm_ent (K := kX11_isTurn) (by decide) rfl rfl hd (by rw [hm]; exact Nat.le_of_ble_eq_true rfl) ?_
  rw [hm]
  exact w.2
theorem eX12_init {g : pm_G} {d : Nat} {Q : pm_Po} {S : pm_SS} {I : pm_MI} {J : pm_ML} {a0 : Nat} (hd : 1 ≤ d) (w : UU g (d - 1) 187 kX12_init (pm_rm d 187) Q 0 [some (.ref a0), none] [] S I J (0, 0)) : pm_C g d 187 [.ref a0] Q S I J := by
  have hm : pm_mx 187 = 2 := by decide +kernel
  refine pm_ent (K := kX12_init) (by decide) rfl rfl hd (by rw [hm]; exact Nat.le_of_ble_eq_true rfl) ?_
  rw [hm]
  exact w.2
theorem eX12_in {g : pm_G} {d : Nat} {Q : pm_Po} {S : pm_SS} {I : pm_MI} {J : pm_ML} {a0 : Int32} {a1 : Int32} {a2 : Int32} (hd : 1 ≤ d) (w : UU g (d - 1) 188 kX12_in (pm_rm d 188) Q 0 [some (.int a0), some (.int a1), some (.int a2)] [] S I J (0, 0)) : pm_C g d 188 [.int a0, .int a1, .int a2] Q S I J := by
  have hm : pm_mx 188 = 3 := by decide +kernel
  refine pm_ent (K := kX12_in) (by decide) rfl rfl hd (by rw [hm]; exact Nat.le_of_ble_eq_true rfl) ?_
  rw [hm]
  exact w.2
theorem eX12_meets {g : pm_G} {d : Nat} {Q : pm_Po} {S : pm_SS} {I : pm_MI} {J : pm_ML} {a0 : Nat} {a1 : Int32} (hd : 1 ≤ d) (w : UU g (d - 1) 189 kX12_meets (pm_rm d 189) Q 0 [some (.ref a0), some (.int a1)] [] S I J (0, 0)) : pm_C g d 189 [.ref a0, .int a1] Q S I J := by
  have hm : pm_mx 189 = 2 := by decide +kernel
  refine pm_ent (K := kX12_meets) (by decide) rfl rfl hd (by rw [hm]; exact Nat.le_of_ble_eq_true rfl) ?_
  rw [hm]
  exact w.2
theorem eX12_finding {g : pm_G} {d : Nat} {Q : pm_Po} {S : pm_SS} {I : pm_MI} {J : pm_ML} {a0 : Nat} (hd : 1 ≤ d) (w : UU g (d - 1) 190 kX12_finding (pm_rm d 190) Q 0 [some (.ref a0)] [] S I J (0, 0)) : pm_C g d 190 [.ref a0] Q S I J := by
  have hm : pm_mx 190 = 1 := by decide +kernel
  refine pm_ent (K := kX12_finding) (by decide) rfl rfl hd (by rw [hm]; exact Nat.le_of_ble_eq_true rfl) ?_
  rw [hm]
  exact w.2
theorem eX12_findings {g : pm_G} {d : Nat} {Q : pm_Po} {S : pm_SS} {I : pm_MI} {J : pm_ML} {a0 : Nat} {a1 : Int32} (hd : 1 ≤ d) (w : UU g (d - 1) 191 kX12_findings (pm_rm d 191) Q 0 [some (.ref a0), some (.int a1)] [] S I J (0, 0)) : pm_C g d 191 [.ref a0, .int a1] Q S I J := by
  have hm : pm_mx 191 = 2 := by decide +kernel
  refine pm_ent (K := kX12_findings) (by decide) rfl rfl hd (by rw [hm]; exact Nat.le_of_ble_eq_true rfl) ?_
  rw [hm]
  exact w.2
theorem eX12_tells {g : pm_G} {d : Nat} {Q : pm_Po} {S : pm_SS} {I : pm_MI} {J : pm_ML} {a0 : Nat} {a1 : Int32} {a2 : Int32} (hd : 1 ≤ d) (w : UU g (d - 1) 192 kX12_tells (pm_rm d 192) Q 0 [some (.ref a0), some (.int a1), some (.int a2)] [] S I J (0, 0)) : pm_C g d 192 [.ref a0, .int a1, .int a2] Q S I J := by
  have hm : pm_mx 192 = 3 := by decide +kernel
  refine pm_ent (K := kX12_tells) (by decide) rfl rfl hd (by rw [hm]; exact Nat.le_of_ble_eq_true rfl) ?_
  rw [hm]
  exact w.2
theorem eX12_asked {g : pm_G} {d : Nat} {Q : pm_Po} {S : pm_SS} {I : pm_MI} {J : pm_ML} {a0 : Nat} (hd : 1 ≤ d) (w : UU g (d - 1) 193 kX12_asked (pm_rm d 193) Q 0 [some (.ref a0)] [] S I J (0, 0)) : pm_C g d 193 [.ref a0] Q S I J := by
  have hm : pm_mx 193 = 1 := by decide +kernel
  refine pm_ent (K := kX12_asked) (by decide) rfl rfl hd (by rw [hm]; exact Nat.le_of_ble_eq_true rfl) ?_
  rw [hm]
  exact w.2
theorem eX12_fraction {g : pm_G} {d : Nat} {Q : pm_Po} {S : pm_SS} {I : pm_MI} {J : pm_ML} {a0 : Nat} {a1 : Int64} {a2 : Int64} {a3 : Int32} (hd : 1 ≤ d) (w : UU g (d - 1) 194 kX12_fraction (pm_rm d 194) Q 0 [some (.ref a0), some (.long a1), none, some (.long a2), none, some (.int a3), none, none, none, none, none, none] [] S I J (0, 0)) : pm_C g d 194 [.ref a0, .long a1, .long a2, .int a3] Q S I J := by
  have hm : pm_mx 194 = 12 := by decide +kernel
  refine pm_ent (K := kX12_fraction) (by decide) rfl rfl hd (by rw [hm]; exact Nat.le_of_ble_eq_true rfl) ?_
  rw [hm]
  exact w.2
theorem eX12_upper {g : pm_G} {d : Nat} {Q : pm_Po} {S : pm_SS} {I : pm_MI} {J : pm_ML} {a0 : Nat} (hd : 1 ≤ d) (w : UU g (d - 1) 195 kX12_upper (pm_rm d 195) Q 0 [some (.ref a0)] [] S I J (0, 0)) : pm_C g d 195 [.ref a0] Q S I J := by
  have hm : pm_mx 195 = 1 := by decide +kernel
  refine pm_ent (K := kX12_upper) (by decide) rfl rfl hd (by rw [hm]; exact Nat.le_of_ble_eq_true rfl) ?_
  rw [hm]
  exact w.2
theorem eX12_lower {g : pm_G} {d : Nat} {Q : pm_Po} {S : pm_SS} {I : pm_MI} {J : pm_ML} {a0 : Nat} (hd : 1 ≤ d) (w : UU g (d - 1) 196 kX12_lower (pm_rm d 196) Q 0 [some (.ref a0)] [] S I J (0, 0)) : pm_C g d 196 [.ref a0] Q S I J := by
  have hm : pm_mx 196 = 1 := by decide +kernel
  refine pm_ent (K := kX12_lower) (by decide) rfl rfl hd (by rw [hm]; exact Nat.le_of_ble_eq_true rfl) ?_
  rw [hm]
  exact w.2
theorem eX12_isRow {g : pm_G} {d : Nat} {Q : pm_Po} {S : pm_SS} {I : pm_MI} {J : pm_ML} {a0 : Int32} (hd : 1 ≤ d) (w : UU g (d - 1) 197 kX12_isRow (pm_rm d 197) Q 0 [some (.int a0)] [] S I J (0, 0)) : pm_C g d 197 [.int a0] Q S I J := by
  have hm : pm_mx 197 = 1 := by decide +kernel
  refine pm_ent (K := kX12_isRow) (by decide) rfl rfl hd (by rw [hm]; exact Nat.le_of_ble_eq_true rfl) ?_
  rw [hm]
  exact w.2
theorem eX12_at {g : pm_G} {d : Nat} {Q : pm_Po} {S : pm_SS} {I : pm_MI} {J : pm_ML} {a0 : Nat} {a1 : Int32} {a2 : Int32} (hd : 1 ≤ d) (w : UU g (d - 1) 198 kX12_at (pm_rm d 198) Q 0 [some (.ref a0), some (.int a1), some (.int a2)] [] S I J (0, 0)) : pm_C g d 198 [.ref a0, .int a1, .int a2] Q S I J := by
  have hm : pm_mx 198 = 3 := by decide +kernel
  refine pm_ent (K := kX12_at) (by decide) rfl rfl hd (by rw [hm]; exact Nat.le_of_ble_eq_true rfl) ?_
  rw [hm]
  exact w.2
theorem eX12_row {g : pm_G} {d : Nat} {Q : pm_Po} {S : pm_SS} {I : pm_MI} {J : pm_ML} {a0 : Nat} {a1 : Int32} {a2 : Int32} (hd : 1 ≤ d) (w : UU g (d - 1) 199 kX12_row (pm_rm d 199) Q 0 [some (.ref a0), some (.int a1), some (.int a2), none] [] S I J (0, 0)) : pm_C g d 199 [.ref a0, .int a1, .int a2] Q S I J := by
  have hm : pm_mx 199 = 4 := by decide +kernel
  refine pm_ent (K := kX12_row) (by decide) rfl rfl hd (by rw [hm]; exact Nat.le_of_ble_eq_true rfl) ?_
  rw [hm]
  exact w.2
theorem eX12_lay {g : pm_G} {d : Nat} {Q : pm_Po} {S : pm_SS} {I : pm_MI} {J : pm_ML} {a0 : Nat} {a1 : Int32} {a2 : Int32} {a3 : Int32} (hd : 1 ≤ d) (w : UU g (d - 1) 200 kX12_lay (pm_rm d 200) Q 0 [some (.ref a0), some (.int a1), some (.int a2), some (.int a3), none] [] S I J (0, 0)) : pm_C g d 200 [.ref a0, .int a1, .int a2, .int a3] Q S I J := by
  have hm : pm_mx 200 = 5 := by decide +kernel
  refine pm_ent (K := kX12_lay) (by decide) rfl rfl hd (by rw [hm]; exact Nat.le_of_ble_eq_true rfl) ?_
  rw [hm]
  exact w.2
theorem eX12_tear {g : pm_G} {d : Nat} {Q : pm_Po} {S : pm_SS} {I : pm_MI} {J : pm_ML} {a0 : Nat} {a1 : Int32} (hd : 1 ≤ d) (w : UU g (d - 1) 201 kX12_tear (pm_rm d 201) Q 0 [some (.ref a0), some (.int a1)] [] S I J (0, 0)) : pm_C g d 201 [.ref a0, .int a1] Q S I J := by
  have hm : pm_mx 201 = 2 := by decide +kernel
  refine pm_ent (K := kX12_tear) (by decide) rfl rfl hd (by rw [hm]; exact Nat.le_of_ble_eq_true rfl) ?_
  rw [hm]
  exact w.2
theorem eX12_copy {g : pm_G} {d : Nat} {Q : pm_Po} {S : pm_SS} {I : pm_MI} {J : pm_ML} {a0 : Nat} {a1 : Int32} {a2 : Int32} {a3 : Int32} {a4 : Int32} {a5 : Int32} (hd : 1 ≤ d) (w : UU g (d - 1) 202 kX12_copy (pm_rm d 202) Q 0 [some (.ref a0), some (.int a1), some (.int a2), some (.int a3), some (.int a4), some (.int a5), none] [] S I J (0, 0)) : pm_C g d 202 [.ref a0, .int a1, .int a2, .int a3, .int a4, .int a5] Q S I J := by
  have hm : pm_mx 202 = 7 := by decide +kernel
  refine pm_ent (K := kX12_copy) (by decide) rfl rfl hd (by rw [hm]; exact Nat.le_of_ble_eq_true rfl) ?_
  rw [hm]
  exact w.2
theorem eX12_isText {g : pm_G} {d : Nat} {Q : pm_Po} {S : pm_SS} {I : pm_MI} {J : pm_ML} {a0 : Int32} (hd : 1 ≤ d) (w : UU g (d - 1) 203 kX12_isText (pm_rm d 203) Q 0 [some (.int a0)] [] S I J (0, 0)) : pm_C g d 203 [.int a0] Q S I J := by
  have hm : pm_mx 203 = 1 := by decide +kernel
  refine pm_ent (K := kX12_isText) (by decide) rfl rfl hd (by rw [hm]; exact Nat.le_of_ble_eq_true rfl) ?_
  rw [hm]
  exact w.2
theorem eX12_text {g : pm_G} {d : Nat} {Q : pm_Po} {S : pm_SS} {I : pm_MI} {J : pm_ML} {a0 : Nat} {a1 : Int32} {a2 : Int32} (hd : 1 ≤ d) (w : UU g (d - 1) 204 kX12_text (pm_rm d 204) Q 0 [some (.ref a0), some (.int a1), some (.int a2), none] [] S I J (0, 0)) : pm_C g d 204 [.ref a0, .int a1, .int a2] Q S I J := by
  have hm : pm_mx 204 = 4 := by decide +kernel
  refine pm_ent (K := kX12_text) (by decide) rfl rfl hd (by rw [hm]; exact Nat.le_of_ble_eq_true rfl) ?_
  rw [hm]
  exact w.2
theorem eX12_put {g : pm_G} {d : Nat} {Q : pm_Po} {S : pm_SS} {I : pm_MI} {J : pm_ML} {a0 : Nat} {a1 : Int32} {a2 : Int32} {a3 : Int32} (hd : 1 ≤ d) (w : UU g (d - 1) 205 kX12_put (pm_rm d 205) Q 0 [some (.ref a0), some (.int a1), some (.int a2), some (.int a3), none] [] S I J (0, 0)) : pm_C g d 205 [.ref a0, .int a1, .int a2, .int a3] Q S I J := by
  have hm : pm_mx 205 = 5 := by decide +kernel
  refine pm_ent (K := kX12_put) (by decide) rfl rfl hd (by rw [hm]; exact Nat.le_of_ble_eq_true rfl) ?_
  rw [hm]
  exact w.2
theorem eX12_burn {g : pm_G} {d : Nat} {Q : pm_Po} {S : pm_SS} {I : pm_MI} {J : pm_ML} {a0 : Nat} {a1 : Int32} (hd : 1 ≤ d) (w : UU g (d - 1) 206 kX12_burn (pm_rm d 206) Q 0 [some (.ref a0), some (.int a1)] [] S I J (0, 0)) : pm_C g d 206 [.ref a0, .int a1] Q S I J := by
  have hm : pm_mx 206 = 2 := by decide +kernel
  refine pm_ent (K := kX12_burn) (by decide) rfl rfl hd (by rw [hm]; exact Nat.le_of_ble_eq_true rfl) ?_
  rw [hm]
  exact w.2
theorem eX12_byteAt {g : pm_G} {d : Nat} {Q : pm_Po} {S : pm_SS} {I : pm_MI} {J : pm_ML} {a0 : Nat} {a1 : Int32} {a2 : Int32} (hd : 1 ≤ d) (w : UU g (d - 1) 207 kX12_byteAt (pm_rm d 207) Q 0 [some (.ref a0), some (.int a1), some (.int a2)] [] S I J (0, 0)) : pm_C g d 207 [.ref a0, .int a1, .int a2] Q S I J := by
  have hm : pm_mx 207 = 3 := by decide +kernel
  refine pm_ent (K := kX12_byteAt) (by decide) rfl rfl hd (by rw [hm]; exact Nat.le_of_ble_eq_true rfl) ?_
  rw [hm]
  exact w.2
theorem eX12_isFigure {g : pm_G} {d : Nat} {Q : pm_Po} {S : pm_SS} {I : pm_MI} {J : pm_ML} {a0 : Nat} {a1 : Int32} {a2 : Int32} {a3 : Int32} (hd : 1 ≤ d) (w : UU g (d - 1) 208 kX12_isFigure (pm_rm d 208) Q 0 [some (.ref a0), some (.int a1), some (.int a2), some (.int a3)] [] S I J (0, 0)) : pm_C g d 208 [.ref a0, .int a1, .int a2, .int a3] Q S I J := by
  have hm : pm_mx 208 = 4 := by decide +kernel
  refine pm_ent (K := kX12_isFigure) (by decide) rfl rfl hd (by rw [hm]; exact Nat.le_of_ble_eq_true rfl) ?_
  rw [hm]
  exact w.2
theorem eX12_readNumber {g : pm_G} {d : Nat} {Q : pm_Po} {S : pm_SS} {I : pm_MI} {J : pm_ML} {a0 : Nat} {a1 : Int32} {a2 : Int32} {a3 : Int32} (hd : 1 ≤ d) (w : UU g (d - 1) 209 kX12_readNumber (pm_rm d 209) Q 0 [some (.ref a0), some (.int a1), some (.int a2), some (.int a3)] [] S I J (0, 0)) : pm_C g d 209 [.ref a0, .int a1, .int a2, .int a3] Q S I J := by
  have hm : pm_mx 209 = 4 := by decide +kernel
  refine pm_ent (K := kX12_readNumber) (by decide) rfl rfl hd (by rw [hm]; exact Nat.le_of_ble_eq_true rfl) ?_
  rw [hm]
  exact w.2
theorem eX12_readItem {g : pm_G} {d : Nat} {Q : pm_Po} {S : pm_SS} {I : pm_MI} {J : pm_ML} {a0 : Nat} {a1 : Int32} {a2 : Int32} (hd : 1 ≤ d) (w : UU g (d - 1) 210 kX12_readItem (pm_rm d 210) Q 0 [some (.ref a0), some (.int a1), some (.int a2), none] [] S I J (0, 0)) : pm_C g d 210 [.ref a0, .int a1, .int a2] Q S I J := by
  have hm : pm_mx 210 = 4 := by decide +kernel
  refine pm_ent (K := kX12_readItem) (by decide) rfl rfl hd (by rw [hm]; exact Nat.le_of_ble_eq_true rfl) ?_
  rw [hm]
  exact w.2
theorem eX12_faultOf {g : pm_G} {d : Nat} {Q : pm_Po} {S : pm_SS} {I : pm_MI} {J : pm_ML} {a0 : Nat} {a1 : Int32} (hd : 1 ≤ d) (w : UU g (d - 1) 211 kX12_faultOf (pm_rm d 211) Q 0 [some (.ref a0), some (.int a1), none, none] [] S I J (0, 0)) : pm_C g d 211 [.ref a0, .int a1] Q S I J := by
  have hm : pm_mx 211 = 4 := by decide +kernel
  refine pm_ent (K := kX12_faultOf) (by decide) rfl rfl hd (by rw [hm]; exact Nat.le_of_ble_eq_true rfl) ?_
  rw [hm]
  exact w.2
theorem eX12_fault {g : pm_G} {d : Nat} {Q : pm_Po} {S : pm_SS} {I : pm_MI} {J : pm_ML} {a0 : Nat} {a1 : Int32} (hd : 1 ≤ d) (w : UU g (d - 1) 212 kX12_fault (pm_rm d 212) Q 0 [some (.ref a0), some (.int a1)] [] S I J (0, 0)) : pm_C g d 212 [.ref a0, .int a1] Q S I J := by
  have hm : pm_mx 212 = 2 := by decide +kernel
  refine pm_ent (K := kX12_fault) (by decide) rfl rfl hd (by rw [hm]; exact Nat.le_of_ble_eq_true rfl) ?_
  rw [hm]
  exact w.2
theorem eX12_isDay {g : pm_G} {d : Nat} {Q : pm_Po} {S : pm_SS} {I : pm_MI} {J : pm_ML} {a0 : Int32} (hd : 1 ≤ d) (w : UU g (d - 1) 213 kX12_isDay (pm_rm d 213) Q 0 [some (.int a0)] [] S I J (0, 0)) : pm_C g d 213 [.int a0] Q S I J := by
  have hm : pm_mx 213 = 1 := by decide +kernel
  refine pm_ent (K := kX12_isDay) (by decide) rfl rfl hd (by rw [hm]; exact Nat.le_of_ble_eq_true rfl) ?_
  rw [hm]
  exact w.2
theorem eX12_later {g : pm_G} {d : Nat} {Q : pm_Po} {S : pm_SS} {I : pm_MI} {J : pm_ML} {a0 : Nat} {a1 : Int32} (hd : 1 ≤ d) (w : UU g (d - 1) 214 kX12_later (pm_rm d 214) Q 0 [some (.ref a0), some (.int a1)] [] S I J (0, 0)) : pm_C g d 214 [.ref a0, .int a1] Q S I J := by
  have hm : pm_mx 214 = 2 := by decide +kernel
  refine pm_ent (K := kX12_later) (by decide) rfl rfl hd (by rw [hm]; exact Nat.le_of_ble_eq_true rfl) ?_
  rw [hm]
  exact w.2
theorem eX12_rule {g : pm_G} {d : Nat} {Q : pm_Po} {S : pm_SS} {I : pm_MI} {J : pm_ML} {a0 : Nat} {a1 : Int32} {a2 : Int32} (hd : 1 ≤ d) (w : UU g (d - 1) 215 kX12_rule (pm_rm d 215) Q 0 [some (.ref a0), some (.int a1), some (.int a2), none, none, none] [] S I J (0, 0)) : pm_C g d 215 [.ref a0, .int a1, .int a2] Q S I J := by
  have hm : pm_mx 215 = 6 := by decide +kernel
  refine pm_ent (K := kX12_rule) (by decide) rfl rfl hd (by rw [hm]; exact Nat.le_of_ble_eq_true rfl) ?_
  rw [hm]
  exact w.2
theorem eX12_plainOf {g : pm_G} {d : Nat} {Q : pm_Po} {S : pm_SS} {I : pm_MI} {J : pm_ML} {a0 : Int32} {a1 : Int32} {a2 : Int32} (hd : 1 ≤ d) (w : UU g (d - 1) 216 kX12_plainOf (pm_rm d 216) Q 0 [some (.int a0), some (.int a1), some (.int a2)] [] S I J (0, 0)) : pm_C g d 216 [.int a0, .int a1, .int a2] Q S I J := by
  have hm : pm_mx 216 = 3 := by decide +kernel
  refine pm_ent (K := kX12_plainOf) (by decide) rfl rfl hd (by rw [hm]; exact Nat.le_of_ble_eq_true rfl) ?_
  rw [hm]
  exact w.2
theorem eX12_seekForce {g : pm_G} {d : Nat} {Q : pm_Po} {S : pm_SS} {I : pm_MI} {J : pm_ML} {a0 : Nat} {a1 : Int32} {a2 : Int32} {a3 : Int32} {a4 : Int32} {a5 : Int32} (hd : 1 ≤ d) (w : UU g (d - 1) 217 kX12_seekForce (pm_rm d 217) Q 0 [some (.ref a0), some (.int a1), some (.int a2), some (.int a3), some (.int a4), some (.int a5), none, none, none] [] S I J (0, 0)) : pm_C g d 217 [.ref a0, .int a1, .int a2, .int a3, .int a4, .int a5] Q S I J := by
  have hm : pm_mx 217 = 9 := by decide +kernel
  refine pm_ent (K := kX12_seekForce) (by decide) rfl rfl hd (by rw [hm]; exact Nat.le_of_ble_eq_true rfl) ?_
  rw [hm]
  exact w.2
theorem eX12_isAbout {g : pm_G} {d : Nat} {Q : pm_Po} {S : pm_SS} {I : pm_MI} {J : pm_ML} {a0 : Int32} {a1 : Int32} {a2 : Int32} (hd : 1 ≤ d) (w : UU g (d - 1) 218 kX12_isAbout (pm_rm d 218) Q 0 [some (.int a0), some (.int a1), some (.int a2)] [] S I J (0, 0)) : pm_C g d 218 [.int a0, .int a1, .int a2] Q S I J := by
  have hm : pm_mx 218 = 3 := by decide +kernel
  refine pm_ent (K := kX12_isAbout) (by decide) rfl rfl hd (by rw [hm]; exact Nat.le_of_ble_eq_true rfl) ?_
  rw [hm]
  exact w.2
theorem eX12_force {g : pm_G} {d : Nat} {Q : pm_Po} {S : pm_SS} {I : pm_MI} {J : pm_ML} {a0 : Nat} {a1 : Int32} {a2 : Int32} {a3 : Int32} {a4 : Int32} {a5 : Int32} (hd : 1 ≤ d) (w : UU g (d - 1) 219 kX12_force (pm_rm d 219) Q 0 [some (.ref a0), some (.int a1), some (.int a2), some (.int a3), some (.int a4), some (.int a5)] [] S I J (0, 0)) : pm_C g d 219 [.ref a0, .int a1, .int a2, .int a3, .int a4, .int a5] Q S I J := by
  have hm : pm_mx 219 = 6 := by decide +kernel
  refine pm_ent (K := kX12_force) (by decide) rfl rfl hd (by rw [hm]; exact Nat.le_of_ble_eq_true rfl) ?_
  rw [hm]
  exact w.2
theorem eX12_why {g : pm_G} {d : Nat} {Q : pm_Po} {S : pm_SS} {I : pm_MI} {J : pm_ML} {a0 : Nat} {a1 : Int32} {a2 : Int32} {a3 : Int32} {a4 : Int32} {a5 : Int32} (hd : 1 ≤ d) (w : UU g (d - 1) 220 kX12_why (pm_rm d 220) Q 0 [some (.ref a0), some (.int a1), some (.int a2), some (.int a3), some (.int a4), some (.int a5)] [] S I J (0, 0)) : pm_C g d 220 [.ref a0, .int a1, .int a2, .int a3, .int a4, .int a5] Q S I J := by
  have hm : pm_mx 220 = 6 := by decide +kernel
  refine pm_ent (K := kX12_why) (by decide) rfl rfl hd (by rw [hm]; exact Nat.le_of_ble_eq_true rfl) ?_
  rw [hm]
  exact w.2
theorem eX12_forceNow {g : pm_G} {d : Nat} {Q : pm_Po} {S : pm_SS} {I : pm_MI} {J : pm_ML} {a0 : Nat} {a1 : Int32} {a2 : Int32} {a3 : Int32} (hd : 1 ≤ d) (w : UU g (d - 1) 221 kX12_forceNow (pm_rm d 221) Q 0 [some (.ref a0), some (.int a1), some (.int a2), some (.int a3)] [] S I J (0, 0)) : pm_C g d 221 [.ref a0, .int a1, .int a2, .int a3] Q S I J := by
  have hm : pm_mx 221 = 4 := by decide +kernel
  refine pm_ent (K := kX12_forceNow) (by decide) rfl rfl hd (by rw [hm]; exact Nat.le_of_ble_eq_true rfl) ?_
  rw [hm]
  exact w.2
theorem eX12_isMetal {g : pm_G} {d : Nat} {Q : pm_Po} {S : pm_SS} {I : pm_MI} {J : pm_ML} {a0 : Nat} {a1 : Int32} (hd : 1 ≤ d) (w : UU g (d - 1) 222 kX12_isMetal (pm_rm d 222) Q 0 [some (.ref a0), some (.int a1)] [] S I J (0, 0)) : pm_C g d 222 [.ref a0, .int a1] Q S I J := by
  have hm : pm_mx 222 = 2 := by decide +kernel
  refine pm_ent (K := kX12_isMetal) (by decide) rfl rfl hd (by rw [hm]; exact Nat.le_of_ble_eq_true rfl) ?_
  rw [hm]
  exact w.2
theorem eX12_isHand {g : pm_G} {d : Nat} {Q : pm_Po} {S : pm_SS} {I : pm_MI} {J : pm_ML} {a0 : Int32} (hd : 1 ≤ d) (w : UU g (d - 1) 223 kX12_isHand (pm_rm d 223) Q 0 [some (.int a0)] [] S I J (0, 0)) : pm_C g d 223 [.int a0] Q S I J := by
  have hm : pm_mx 223 = 1 := by decide +kernel
  refine pm_ent (K := kX12_isHand) (by decide) rfl rfl hd (by rw [hm]; exact Nat.le_of_ble_eq_true rfl) ?_
  rw [hm]
  exact w.2
theorem eX12_isSide {g : pm_G} {d : Nat} {Q : pm_Po} {S : pm_SS} {I : pm_MI} {J : pm_ML} {a0 : Int32} (hd : 1 ≤ d) (w : UU g (d - 1) 224 kX12_isSide (pm_rm d 224) Q 0 [some (.int a0)] [] S I J (0, 0)) : pm_C g d 224 [.int a0] Q S I J := by
  have hm : pm_mx 224 = 1 := by decide +kernel
  refine pm_ent (K := kX12_isSide) (by decide) rfl rfl hd (by rw [hm]; exact Nat.le_of_ble_eq_true rfl) ?_
  rw [hm]
  exact w.2
theorem eX12_comes {g : pm_G} {d : Nat} {Q : pm_Po} {S : pm_SS} {I : pm_MI} {J : pm_ML} {a0 : Nat} {a1 : Int32} {a2 : Int32} {a3 : Int32} {a4 : Int32} (hd : 1 ≤ d) (w : UU g (d - 1) 225 kX12_comes (pm_rm d 225) Q 0 [some (.ref a0), some (.int a1), some (.int a2), some (.int a3), some (.int a4)] [] S I J (0, 0)) : pm_C g d 225 [.ref a0, .int a1, .int a2, .int a3, .int a4] Q S I J := by
  have hm : pm_mx 225 = 5 := by decide +kernel
  refine pm_ent (K := kX12_comes) (by decide) rfl rfl hd (by rw [hm]; exact Nat.le_of_ble_eq_true rfl) ?_
  rw [hm]
  exact w.2
theorem eX12_lacquer {g : pm_G} {d : Nat} {Q : pm_Po} {S : pm_SS} {I : pm_MI} {J : pm_ML} {a0 : Nat} {a1 : Int32} {a2 : Int32} (hd : 1 ≤ d) (w : UU g (d - 1) 226 kX12_lacquer (pm_rm d 226) Q 0 [some (.ref a0), some (.int a1), some (.int a2), none] [] S I J (0, 0)) : pm_C g d 226 [.ref a0, .int a1, .int a2] Q S I J := by
  have hm : pm_mx 226 = 4 := by decide +kernel
  refine pm_ent (K := kX12_lacquer) (by decide) rfl rfl hd (by rw [hm]; exact Nat.le_of_ble_eq_true rfl) ?_
  rw [hm]
  exact w.2
theorem eX12_grownOf {g : pm_G} {d : Nat} {Q : pm_Po} {S : pm_SS} {I : pm_MI} {J : pm_ML} {a0 : Nat} {a1 : Int32} {a2 : Int32} (hd : 1 ≤ d) (w : UU g (d - 1) 227 kX12_grownOf (pm_rm d 227) Q 0 [some (.ref a0), some (.int a1), some (.int a2), none, none] [] S I J (0, 0)) : pm_C g d 227 [.ref a0, .int a1, .int a2] Q S I J := by
  have hm : pm_mx 227 = 5 := by decide +kernel
  refine pm_ent (K := kX12_grownOf) (by decide) rfl rfl hd (by rw [hm]; exact Nat.le_of_ble_eq_true rfl) ?_
  rw [hm]
  exact w.2
theorem eX12_isPressed {g : pm_G} {d : Nat} {Q : pm_Po} {S : pm_SS} {I : pm_MI} {J : pm_ML} {a0 : Nat} {a1 : Int32} (hd : 1 ≤ d) (w : UU g (d - 1) 228 kX12_isPressed (pm_rm d 228) Q 0 [some (.ref a0), some (.int a1), none, none] [] S I J (0, 0)) : pm_C g d 228 [.ref a0, .int a1] Q S I J := by
  have hm : pm_mx 228 = 4 := by decide +kernel
  refine pm_ent (K := kX12_isPressed) (by decide) rfl rfl hd (by rw [hm]; exact Nat.le_of_ble_eq_true rfl) ?_
  rw [hm]
  exact w.2
theorem eX12_grow {g : pm_G} {d : Nat} {Q : pm_Po} {S : pm_SS} {I : pm_MI} {J : pm_ML} {a0 : Nat} {a1 : Int32} {a2 : Int32} {a3 : Int32} (hd : 1 ≤ d) (w : UU g (d - 1) 229 kX12_grow (pm_rm d 229) Q 0 [some (.ref a0), some (.int a1), some (.int a2), some (.int a3)] [] S I J (0, 0)) : pm_C g d 229 [.ref a0, .int a1, .int a2, .int a3] Q S I J := by
  have hm : pm_mx 229 = 4 := by decide +kernel
  refine pm_ent (K := kX12_grow) (by decide) rfl rfl hd (by rw [hm]; exact Nat.le_of_ble_eq_true rfl) ?_
  rw [hm]
  exact w.2
theorem eX12_state {g : pm_G} {d : Nat} {Q : pm_Po} {S : pm_SS} {I : pm_MI} {J : pm_ML} {a0 : Nat} {a1 : Int32} {a2 : Int32} (hd : 1 ≤ d) (w : UU g (d - 1) 230 kX12_state (pm_rm d 230) Q 0 [some (.ref a0), some (.int a1), some (.int a2), none] [] S I J (0, 0)) : pm_C g d 230 [.ref a0, .int a1, .int a2] Q S I J := by
  have hm : pm_mx 230 = 4 := by decide +kernel
  refine pm_ent (K := kX12_state) (by decide) rfl rfl hd (by rw [hm]; exact Nat.le_of_ble_eq_true rfl) ?_
  rw [hm]
  exact w.2
theorem eX12_toldOf {g : pm_G} {d : Nat} {Q : pm_Po} {S : pm_SS} {I : pm_MI} {J : pm_ML} {a0 : Nat} {a1 : Int32} {a2 : Int32} (hd : 1 ≤ d) (w : UU g (d - 1) 231 kX12_toldOf (pm_rm d 231) Q 0 [some (.ref a0), some (.int a1), some (.int a2)] [] S I J (0, 0)) : pm_C g d 231 [.ref a0, .int a1, .int a2] Q S I J := by
  have hm : pm_mx 231 = 3 := by decide +kernel
  refine pm_ent (K := kX12_toldOf) (by decide) rfl rfl hd (by rw [hm]; exact Nat.le_of_ble_eq_true rfl) ?_
  rw [hm]
  exact w.2
theorem eX12_told {g : pm_G} {d : Nat} {Q : pm_Po} {S : pm_SS} {I : pm_MI} {J : pm_ML} {a0 : Nat} {a1 : Int32} {a2 : Int32} (hd : 1 ≤ d) (w : UU g (d - 1) 232 kX12_told (pm_rm d 232) Q 0 [some (.ref a0), some (.int a1), some (.int a2)] [] S I J (0, 0)) : pm_C g d 232 [.ref a0, .int a1, .int a2] Q S I J := by
  have hm : pm_mx 232 = 3 := by decide +kernel
  refine pm_ent (K := kX12_told) (by decide) rfl rfl hd (by rw [hm]; exact Nat.le_of_ble_eq_true rfl) ?_
  rw [hm]
  exact w.2
theorem eX12_isMadeOf {g : pm_G} {d : Nat} {Q : pm_Po} {S : pm_SS} {I : pm_MI} {J : pm_ML} {a0 : Nat} {a1 : Int32} {a2 : Int32} (hd : 1 ≤ d) (w : UU g (d - 1) 233 kX12_isMadeOf (pm_rm d 233) Q 0 [some (.ref a0), some (.int a1), some (.int a2), none] [] S I J (0, 0)) : pm_C g d 233 [.ref a0, .int a1, .int a2] Q S I J := by
  have hm : pm_mx 233 = 4 := by decide +kernel
  refine pm_ent (K := kX12_isMadeOf) (by decide) rfl rfl hd (by rw [hm]; exact Nat.le_of_ble_eq_true rfl) ?_
  rw [hm]
  exact w.2
theorem eX12_wearOf {g : pm_G} {d : Nat} {Q : pm_Po} {S : pm_SS} {I : pm_MI} {J : pm_ML} {a0 : Nat} {a1 : Int32} (hd : 1 ≤ d) (w : UU g (d - 1) 234 kX12_wearOf (pm_rm d 234) Q 0 [some (.ref a0), some (.int a1), none, none] [] S I J (0, 0)) : pm_C g d 234 [.ref a0, .int a1] Q S I J := by
  have hm : pm_mx 234 = 4 := by decide +kernel
  refine pm_ent (K := kX12_wearOf) (by decide) rfl rfl hd (by rw [hm]; exact Nat.le_of_ble_eq_true rfl) ?_
  rw [hm]
  exact w.2
theorem eX12_mark {g : pm_G} {d : Nat} {Q : pm_Po} {S : pm_SS} {I : pm_MI} {J : pm_ML} {a0 : Nat} {a1 : Int32} {a2 : Int32} (hd : 1 ≤ d) (w : UU g (d - 1) 235 kX12_mark (pm_rm d 235) Q 0 [some (.ref a0), some (.int a1), some (.int a2), none, none] [] S I J (0, 0)) : pm_C g d 235 [.ref a0, .int a1, .int a2] Q S I J := by
  have hm : pm_mx 235 = 5 := by decide +kernel
  refine pm_ent (K := kX12_mark) (by decide) rfl rfl hd (by rw [hm]; exact Nat.le_of_ble_eq_true rfl) ?_
  rw [hm]
  exact w.2
theorem eX12_asOf {g : pm_G} {d : Nat} {Q : pm_Po} {S : pm_SS} {I : pm_MI} {J : pm_ML} {a0 : Nat} {a1 : Int32} {a2 : Int32} (hd : 1 ≤ d) (w : UU g (d - 1) 236 kX12_asOf (pm_rm d 236) Q 0 [some (.ref a0), some (.int a1), some (.int a2), none, none] [] S I J (0, 0)) : pm_C g d 236 [.ref a0, .int a1, .int a2] Q S I J := by
  have hm : pm_mx 236 = 5 := by decide +kernel
  refine pm_ent (K := kX12_asOf) (by decide) rfl rfl hd (by rw [hm]; exact Nat.le_of_ble_eq_true rfl) ?_
  rw [hm]
  exact w.2
theorem eX12_lead {g : pm_G} {d : Nat} {Q : pm_Po} {S : pm_SS} {I : pm_MI} {J : pm_ML} {a0 : Nat} {a1 : Int32} (hd : 1 ≤ d) (w : UU g (d - 1) 237 kX12_lead (pm_rm d 237) Q 0 [some (.ref a0), some (.int a1), none, none] [] S I J (0, 0)) : pm_C g d 237 [.ref a0, .int a1] Q S I J := by
  have hm : pm_mx 237 = 4 := by decide +kernel
  refine pm_ent (K := kX12_lead) (by decide) rfl rfl hd (by rw [hm]; exact Nat.le_of_ble_eq_true rfl) ?_
  rw [hm]
  exact w.2
theorem eX12_isPress {g : pm_G} {d : Nat} {Q : pm_Po} {S : pm_SS} {I : pm_MI} {J : pm_ML} {a0 : Int32} (hd : 1 ≤ d) (w : UU g (d - 1) 238 kX12_isPress (pm_rm d 238) Q 0 [some (.int a0)] [] S I J (0, 0)) : pm_C g d 238 [.int a0] Q S I J := by
  have hm : pm_mx 238 = 1 := by decide +kernel
  refine pm_ent (K := kX12_isPress) (by decide) rfl rfl hd (by rw [hm]; exact Nat.le_of_ble_eq_true rfl) ?_
  rw [hm]
  exact w.2
theorem eX12_marry {g : pm_G} {d : Nat} {Q : pm_Po} {S : pm_SS} {I : pm_MI} {J : pm_ML} {a0 : Nat} {a1 : Int32} {a2 : Int32} {a3 : Int32} (hd : 1 ≤ d) (w : UU g (d - 1) 239 kX12_marry (pm_rm d 239) Q 0 [some (.ref a0), some (.int a1), some (.int a2), some (.int a3)] [] S I J (0, 0)) : pm_C g d 239 [.ref a0, .int a1, .int a2, .int a3] Q S I J := by
  have hm : pm_mx 239 = 4 := by decide +kernel
  refine pm_ent (K := kX12_marry) (by decide) rfl rfl hd (by rw [hm]; exact Nat.le_of_ble_eq_true rfl) ?_
  rw [hm]
  exact w.2
theorem eX12_needPress {g : pm_G} {d : Nat} {Q : pm_Po} {S : pm_SS} {I : pm_MI} {J : pm_ML} {a0 : Nat} {a1 : Int32} {a2 : Int32} (hd : 1 ≤ d) (w : UU g (d - 1) 240 kX12_needPress (pm_rm d 240) Q 0 [some (.ref a0), some (.int a1), some (.int a2)] [] S I J (0, 0)) : pm_C g d 240 [.ref a0, .int a1, .int a2] Q S I J := by
  have hm : pm_mx 240 = 3 := by decide +kernel
  refine pm_ent (K := kX12_needPress) (by decide) rfl rfl hd (by rw [hm]; exact Nat.le_of_ble_eq_true rfl) ?_
  rw [hm]
  exact w.2
theorem eX12_part {g : pm_G} {d : Nat} {Q : pm_Po} {S : pm_SS} {I : pm_MI} {J : pm_ML} {a0 : Nat} {a1 : Int32} (hd : 1 ≤ d) (w : UU g (d - 1) 241 kX12_part (pm_rm d 241) Q 0 [some (.ref a0), some (.int a1), none, none] [] S I J (0, 0)) : pm_C g d 241 [.ref a0, .int a1] Q S I J := by
  have hm : pm_mx 241 = 4 := by decide +kernel
  refine pm_ent (K := kX12_part) (by decide) rfl rfl hd (by rw [hm]; exact Nat.le_of_ble_eq_true rfl) ?_
  rw [hm]
  exact w.2
theorem eX12_isFace {g : pm_G} {d : Nat} {Q : pm_Po} {S : pm_SS} {I : pm_MI} {J : pm_ML} {a0 : Int32} (hd : 1 ≤ d) (w : UU g (d - 1) 242 kX12_isFace (pm_rm d 242) Q 0 [some (.int a0)] [] S I J (0, 0)) : pm_C g d 242 [.int a0] Q S I J := by
  have hm : pm_mx 242 = 1 := by decide +kernel
  refine pm_ent (K := kX12_isFace) (by decide) rfl rfl hd (by rw [hm]; exact Nat.le_of_ble_eq_true rfl) ?_
  rw [hm]
  exact w.2
theorem eX12_held {g : pm_G} {d : Nat} {Q : pm_Po} {S : pm_SS} {I : pm_MI} {J : pm_ML} {a0 : Nat} {a1 : Int32} {a2 : Int32} (hd : 1 ≤ d) (w : UU g (d - 1) 243 kX12_held (pm_rm d 243) Q 0 [some (.ref a0), some (.int a1), some (.int a2), none] [] S I J (0, 0)) : pm_C g d 243 [.ref a0, .int a1, .int a2] Q S I J := by
  have hm : pm_mx 243 = 4 := by decide +kernel
  refine pm_ent (K := kX12_held) (by decide) rfl rfl hd (by rw [hm]; exact Nat.le_of_ble_eq_true rfl) ?_
  rw [hm]
  exact w.2
theorem eX12_off {g : pm_G} {d : Nat} {Q : pm_Po} {S : pm_SS} {I : pm_MI} {J : pm_ML} {a0 : Nat} {a1 : Int32} {a2 : Int32} {a3 : Int32} (hd : 1 ≤ d) (w : UU g (d - 1) 244 kX12_off (pm_rm d 244) Q 0 [some (.ref a0), some (.int a1), some (.int a2), some (.int a3)] [] S I J (0, 0)) : pm_C g d 244 [.ref a0, .int a1, .int a2, .int a3] Q S I J := by
  have hm : pm_mx 244 = 4 := by decide +kernel
  refine pm_ent (K := kX12_off) (by decide) rfl rfl hd (by rw [hm]; exact Nat.le_of_ble_eq_true rfl) ?_
  rw [hm]
  exact w.2
theorem eX12_run {g : pm_G} {d : Nat} {Q : pm_Po} {S : pm_SS} {I : pm_MI} {J : pm_ML} {a0 : Nat} {a1 : Int32} {a2 : Int32} {a3 : Int32} (hd : 1 ≤ d) (w : UU g (d - 1) 245 kX12_run (pm_rm d 245) Q 0 [some (.ref a0), some (.int a1), some (.int a2), some (.int a3), none, none, none] [] S I J (0, 0)) : pm_C g d 245 [.ref a0, .int a1, .int a2, .int a3] Q S I J := by
  have hm : pm_mx 245 = 7 := by decide +kernel
  refine pm_ent (K := kX12_run) (by decide) rfl rfl hd (by rw [hm]; exact Nat.le_of_ble_eq_true rfl) ?_
  rw [hm]
  exact w.2
theorem eX12_isRun {g : pm_G} {d : Nat} {Q : pm_Po} {S : pm_SS} {I : pm_MI} {J : pm_ML} {a0 : Nat} {a1 : Int32} (hd : 1 ≤ d) (w : UU g (d - 1) 246 kX12_isRun (pm_rm d 246) Q 0 [some (.ref a0), some (.int a1)] [] S I J (0, 0)) : pm_C g d 246 [.ref a0, .int a1] Q S I J := by
  have hm : pm_mx 246 = 2 := by decide +kernel
  refine pm_ent (K := kX12_isRun) (by decide) rfl rfl hd (by rw [hm]; exact Nat.le_of_ble_eq_true rfl) ?_
  rw [hm]
  exact w.2
theorem eX12_runTells {g : pm_G} {d : Nat} {Q : pm_Po} {S : pm_SS} {I : pm_MI} {J : pm_ML} {a0 : Nat} {a1 : Int32} {a2 : Int32} (hd : 1 ≤ d) (w : UU g (d - 1) 247 kX12_runTells (pm_rm d 247) Q 0 [some (.ref a0), some (.int a1), some (.int a2)] [] S I J (0, 0)) : pm_C g d 247 [.ref a0, .int a1, .int a2] Q S I J := by
  have hm : pm_mx 247 = 3 := by decide +kernel
  refine pm_ent (K := kX12_runTells) (by decide) rfl rfl hd (by rw [hm]; exact Nat.le_of_ble_eq_true rfl) ?_
  rw [hm]
  exact w.2
theorem eX12_runTold {g : pm_G} {d : Nat} {Q : pm_Po} {S : pm_SS} {I : pm_MI} {J : pm_ML} {a0 : Nat} {a1 : Int32} {a2 : Int32} (hd : 1 ≤ d) (w : UU g (d - 1) 248 kX12_runTold (pm_rm d 248) Q 0 [some (.ref a0), some (.int a1), some (.int a2)] [] S I J (0, 0)) : pm_C g d 248 [.ref a0, .int a1, .int a2] Q S I J := by
  have hm : pm_mx 248 = 3 := by decide +kernel
  refine pm_ent (K := kX12_runTold) (by decide) rfl rfl hd (by rw [hm]; exact Nat.le_of_ble_eq_true rfl) ?_
  rw [hm]
  exact w.2
theorem eX12_mean {g : pm_G} {d : Nat} {Q : pm_Po} {S : pm_SS} {I : pm_MI} {J : pm_ML} {a0 : Nat} {a1 : Int32} (hd : 1 ≤ d) (w : UU g (d - 1) 249 kX12_mean (pm_rm d 249) Q 0 [some (.ref a0), some (.int a1), none, none, none, none] [] S I J (0, 0)) : pm_C g d 249 [.ref a0, .int a1] Q S I J := by
  have hm : pm_mx 249 = 6 := by decide +kernel
  refine pm_ent (K := kX12_mean) (by decide) rfl rfl hd (by rw [hm]; exact Nat.le_of_ble_eq_true rfl) ?_
  rw [hm]
  exact w.2
theorem eX12_report {g : pm_G} {d : Nat} {Q : pm_Po} {S : pm_SS} {I : pm_MI} {J : pm_ML} {a0 : Nat} {a1 : Int32} {a2 : Int32} {a3 : Int32} {a4 : Int32} (hd : 1 ≤ d) (w : UU g (d - 1) 250 kX12_report (pm_rm d 250) Q 0 [some (.ref a0), some (.int a1), some (.int a2), some (.int a3), some (.int a4)] [] S I J (0, 0)) : pm_C g d 250 [.ref a0, .int a1, .int a2, .int a3, .int a4] Q S I J := by
  have hm : pm_mx 250 = 5 := by decide +kernel
  refine pm_ent (K := kX12_report) (by decide) rfl rfl hd (by rw [hm]; exact Nat.le_of_ble_eq_true rfl) ?_
  rw [hm]
  exact w.2
theorem eX12_isOn {g : pm_G} {d : Nat} {Q : pm_Po} {S : pm_SS} {I : pm_MI} {J : pm_ML} {a0 : Nat} {a1 : Int32} {a2 : Int32} {a3 : Int32} {a4 : Int32} (hd : 1 ≤ d) (w : UU g (d - 1) 251 kX12_isOn (pm_rm d 251) Q 0 [some (.ref a0), some (.int a1), some (.int a2), some (.int a3), some (.int a4), none] [] S I J (0, 0)) : pm_C g d 251 [.ref a0, .int a1, .int a2, .int a3, .int a4] Q S I J := by
  have hm : pm_mx 251 = 6 := by decide +kernel
  refine pm_ent (K := kX12_isOn) (by decide) rfl rfl hd (by rw [hm]; exact Nat.le_of_ble_eq_true rfl) ?_
  rw [hm]
  exact w.2
theorem eX12_onOf {g : pm_G} {d : Nat} {Q : pm_Po} {S : pm_SS} {I : pm_MI} {J : pm_ML} {a0 : Nat} {a1 : Int32} {a2 : Int32} (hd : 1 ≤ d) (w : UU g (d - 1) 252 kX12_onOf (pm_rm d 252) Q 0 [some (.ref a0), some (.int a1), some (.int a2), none, none, none, none] [] S I J (0, 0)) : pm_C g d 252 [.ref a0, .int a1, .int a2] Q S I J := by
  have hm : pm_mx 252 = 7 := by decide +kernel
  refine pm_ent (K := kX12_onOf) (by decide) rfl rfl hd (by rw [hm]; exact Nat.le_of_ble_eq_true rfl) ?_
  rw [hm]
  exact w.2
theorem eX12_madeOn {g : pm_G} {d : Nat} {Q : pm_Po} {S : pm_SS} {I : pm_MI} {J : pm_ML} {a0 : Nat} {a1 : Int32} {a2 : Int32} (hd : 1 ≤ d) (w : UU g (d - 1) 253 kX12_madeOn (pm_rm d 253) Q 0 [some (.ref a0), some (.int a1), some (.int a2), none, none] [] S I J (0, 0)) : pm_C g d 253 [.ref a0, .int a1, .int a2] Q S I J := by
  have hm : pm_mx 253 = 5 := by decide +kernel
  refine pm_ent (K := kX12_madeOn) (by decide) rfl rfl hd (by rw [hm]; exact Nat.le_of_ble_eq_true rfl) ?_
  rw [hm]
  exact w.2
theorem eX12_addPlace {g : pm_G} {d : Nat} {Q : pm_Po} {S : pm_SS} {I : pm_MI} {J : pm_ML} {a0 : Nat} {a1 : Int32} {a2 : Int32} {a3 : Int32} {a4 : Int32} {a5 : Int64} (hd : 1 ≤ d) (w : UU g (d - 1) 254 kX12_addPlace (pm_rm d 254) Q 0 [some (.ref a0), some (.int a1), some (.int a2), some (.int a3), some (.int a4), some (.long a5), none] [] S I J (0, 0)) : pm_C g d 254 [.ref a0, .int a1, .int a2, .int a3, .int a4, .long a5] Q S I J := by
  have hm : pm_mx 254 = 7 := by decide +kernel
  refine pm_ent (K := kX12_addPlace) (by decide) rfl rfl hd (by rw [hm]; exact Nat.le_of_ble_eq_true rfl) ?_
  rw [hm]
  exact w.2
theorem eX12_layPlaces {g : pm_G} {d : Nat} {Q : pm_Po} {S : pm_SS} {I : pm_MI} {J : pm_ML} {a0 : Nat} (hd : 1 ≤ d) (w : UU g (d - 1) 255 kX12_layPlaces (pm_rm d 255) Q 0 [some (.ref a0), none, none] [] S I J (0, 0)) : pm_C g d 255 [.ref a0] Q S I J := by
  have hm : pm_mx 255 = 3 := by decide +kernel
  refine pm_ent (K := kX12_layPlaces) (by decide) rfl rfl hd (by rw [hm]; exact Nat.le_of_ble_eq_true rfl) ?_
  rw [hm]
  exact w.2
theorem eX12_missesOf {g : pm_G} {d : Nat} {Q : pm_Po} {S : pm_SS} {I : pm_MI} {J : pm_ML} {a0 : Nat} {a1 : Int64} (hd : 1 ≤ d) (w : UU g (d - 1) 256 kX12_missesOf (pm_rm d 256) Q 0 [some (.ref a0), some (.long a1), none, none, none] [] S I J (0, 0)) : pm_C g d 256 [.ref a0, .long a1] Q S I J := by
  have hm : pm_mx 256 = 5 := by decide +kernel
  refine pm_ent (K := kX12_missesOf) (by decide) rfl rfl hd (by rw [hm]; exact Nat.le_of_ble_eq_true rfl) ?_
  rw [hm]
  exact w.2
theorem eX12_weigh {g : pm_G} {d : Nat} {Q : pm_Po} {S : pm_SS} {I : pm_MI} {J : pm_ML} {a0 : Nat} {a1 : Int32} {a2 : Int32} {a3 : Int32} {a4 : Int32} {a5 : Int32} (hd : 1 ≤ d) (w : UU g (d - 1) 257 kX12_weigh (pm_rm d 257) Q 0 [some (.ref a0), some (.int a1), some (.int a2), some (.int a3), some (.int a4), some (.int a5), none, none, none, none] [] S I J (0, 0)) : pm_C g d 257 [.ref a0, .int a1, .int a2, .int a3, .int a4, .int a5] Q S I J := by
  have hm : pm_mx 257 = 10 := by decide +kernel
  refine pm_ent (K := kX12_weigh) (by decide) rfl rfl hd (by rw [hm]; exact Nat.le_of_ble_eq_true rfl) ?_
  rw [hm]
  exact w.2
theorem eX12_seekCause {g : pm_G} {d : Nat} {Q : pm_Po} {S : pm_SS} {I : pm_MI} {J : pm_ML} {a0 : Nat} {a1 : Int32} {a2 : Int32} (hd : 1 ≤ d) (w : UU g (d - 1) 258 kX12_seekCause (pm_rm d 258) Q 0 [some (.ref a0), some (.int a1), some (.int a2), none, none, none, none, none] [] S I J (0, 0)) : pm_C g d 258 [.ref a0, .int a1, .int a2] Q S I J := by
  have hm : pm_mx 258 = 8 := by decide +kernel
  refine pm_ent (K := kX12_seekCause) (by decide) rfl rfl hd (by rw [hm]; exact Nat.le_of_ble_eq_true rfl) ?_
  rw [hm]
  exact w.2
theorem eX12_copiesOn {g : pm_G} {d : Nat} {Q : pm_Po} {S : pm_SS} {I : pm_MI} {J : pm_ML} {a0 : Nat} {a1 : Int64} (hd : 1 ≤ d) (w : UU g (d - 1) 259 kX12_copiesOn (pm_rm d 259) Q 0 [some (.ref a0), some (.long a1), none, none, none] [] S I J (0, 0)) : pm_C g d 259 [.ref a0, .long a1] Q S I J := by
  have hm : pm_mx 259 = 5 := by decide +kernel
  refine pm_ent (K := kX12_copiesOn) (by decide) rfl rfl hd (by rw [hm]; exact Nat.le_of_ble_eq_true rfl) ?_
  rw [hm]
  exact w.2
theorem eX12_isMisses {g : pm_G} {d : Nat} {Q : pm_Po} {S : pm_SS} {I : pm_MI} {J : pm_ML} {a0 : Int32} (hd : 1 ≤ d) (w : UU g (d - 1) 260 kX12_isMisses (pm_rm d 260) Q 0 [some (.int a0)] [] S I J (0, 0)) : pm_C g d 260 [.int a0] Q S I J := by
  have hm : pm_mx 260 = 1 := by decide +kernel
  refine pm_ent (K := kX12_isMisses) (by decide) rfl rfl hd (by rw [hm]; exact Nat.le_of_ble_eq_true rfl) ?_
  rw [hm]
  exact w.2
theorem eX12_cause {g : pm_G} {d : Nat} {Q : pm_Po} {S : pm_SS} {I : pm_MI} {J : pm_ML} {a0 : Nat} {a1 : Int32} {a2 : Int32} (hd : 1 ≤ d) (w : UU g (d - 1) 261 kX12_cause (pm_rm d 261) Q 0 [some (.ref a0), some (.int a1), some (.int a2), none, none, none, none] [] S I J (0, 0)) : pm_C g d 261 [.ref a0, .int a1, .int a2] Q S I J := by
  have hm : pm_mx 261 = 7 := by decide +kernel
  refine pm_ent (K := kX12_cause) (by decide) rfl rfl hd (by rw [hm]; exact Nat.le_of_ble_eq_true rfl) ?_
  rw [hm]
  exact w.2
theorem eX12_causeTold {g : pm_G} {d : Nat} {Q : pm_Po} {S : pm_SS} {I : pm_MI} {J : pm_ML} {a0 : Nat} {a1 : Int32} {a2 : Int32} (hd : 1 ≤ d) (w : UU g (d - 1) 262 kX12_causeTold (pm_rm d 262) Q 0 [some (.ref a0), some (.int a1), some (.int a2)] [] S I J (0, 0)) : pm_C g d 262 [.ref a0, .int a1, .int a2] Q S I J := by
  have hm : pm_mx 262 = 3 := by decide +kernel
  refine pm_ent (K := kX12_causeTold) (by decide) rfl rfl hd (by rw [hm]; exact Nat.le_of_ble_eq_true rfl) ?_
  rw [hm]
  exact w.2
theorem eX12_rivals {g : pm_G} {d : Nat} {Q : pm_Po} {S : pm_SS} {I : pm_MI} {J : pm_ML} {a0 : Nat} {a1 : Int32} {a2 : Int32} (hd : 1 ≤ d) (w : UU g (d - 1) 263 kX12_rivals (pm_rm d 263) Q 0 [some (.ref a0), some (.int a1), some (.int a2)] [] S I J (0, 0)) : pm_C g d 263 [.ref a0, .int a1, .int a2] Q S I J := by
  have hm : pm_mx 263 = 3 := by decide +kernel
  refine pm_ent (K := kX12_rivals) (by decide) rfl rfl hd (by rw [hm]; exact Nat.le_of_ble_eq_true rfl) ?_
  rw [hm]
  exact w.2
theorem eX12_nextTest {g : pm_G} {d : Nat} {Q : pm_Po} {S : pm_SS} {I : pm_MI} {J : pm_ML} {a0 : Nat} {a1 : Int32} {a2 : Int32} (hd : 1 ≤ d) (w : UU g (d - 1) 264 kX12_nextTest (pm_rm d 264) Q 0 [some (.ref a0), some (.int a1), some (.int a2), none, none, none, none, none, none] [] S I J (0, 0)) : pm_C g d 264 [.ref a0, .int a1, .int a2] Q S I J := by
  have hm : pm_mx 264 = 9 := by decide +kernel
  refine pm_ent (K := kX12_nextTest) (by decide) rfl rfl hd (by rw [hm]; exact Nat.le_of_ble_eq_true rfl) ?_
  rw [hm]
  exact w.2
theorem eX12_recall {g : pm_G} {d : Nat} {Q : pm_Po} {S : pm_SS} {I : pm_MI} {J : pm_ML} {a0 : Nat} {a1 : Int32} {a2 : Int32} {a3 : Int32} (hd : 1 ≤ d) (w : UU g (d - 1) 265 kX12_recall (pm_rm d 265) Q 0 [some (.ref a0), some (.int a1), some (.int a2), some (.int a3), none, none] [] S I J (0, 0)) : pm_C g d 265 [.ref a0, .int a1, .int a2, .int a3] Q S I J := by
  have hm : pm_mx 265 = 6 := by decide +kernel
  refine pm_ent (K := kX12_recall) (by decide) rfl rfl hd (by rw [hm]; exact Nat.le_of_ble_eq_true rfl) ?_
  rw [hm]
  exact w.2
theorem eX12_swishOf {g : pm_G} {d : Nat} {Q : pm_Po} {S : pm_SS} {I : pm_MI} {J : pm_ML} {a0 : Nat} {a1 : Int32} {a2 : Int32} (hd : 1 ≤ d) (w : UU g (d - 1) 266 kX12_swishOf (pm_rm d 266) Q 0 [some (.ref a0), some (.int a1), some (.int a2), none] [] S I J (0, 0)) : pm_C g d 266 [.ref a0, .int a1, .int a2] Q S I J := by
  have hm : pm_mx 266 = 4 := by decide +kernel
  refine pm_ent (K := kX12_swishOf) (by decide) rfl rfl hd (by rw [hm]; exact Nat.le_of_ble_eq_true rfl) ?_
  rw [hm]
  exact w.2
theorem eX12_swish {g : pm_G} {d : Nat} {Q : pm_Po} {S : pm_SS} {I : pm_MI} {J : pm_ML} {a0 : Nat} {a1 : Int32} {a2 : Int32} (hd : 1 ≤ d) (w : UU g (d - 1) 267 kX12_swish (pm_rm d 267) Q 0 [some (.ref a0), some (.int a1), some (.int a2)] [] S I J (0, 0)) : pm_C g d 267 [.ref a0, .int a1, .int a2] Q S I J := by
  have hm : pm_mx 267 = 3 := by decide +kernel
  refine pm_ent (K := kX12_swish) (by decide) rfl rfl hd (by rw [hm]; exact Nat.le_of_ble_eq_true rfl) ?_
  rw [hm]
  exact w.2
theorem eX12_swishRun {g : pm_G} {d : Nat} {Q : pm_Po} {S : pm_SS} {I : pm_MI} {J : pm_ML} {a0 : Nat} {a1 : Int32} {a2 : Int32} (hd : 1 ≤ d) (w : UU g (d - 1) 268 kX12_swishRun (pm_rm d 268) Q 0 [some (.ref a0), some (.int a1), some (.int a2), none, none, none, none, none, none, none, none, none, none] [] S I J (0, 0)) : pm_C g d 268 [.ref a0, .int a1, .int a2] Q S I J := by
  have hm : pm_mx 268 = 13 := by decide +kernel
  refine pm_ent (K := kX12_swishRun) (by decide) rfl rfl hd (by rw [hm]; exact Nat.le_of_ble_eq_true rfl) ?_
  rw [hm]
  exact w.2
theorem eX12_isLand {g : pm_G} {d : Nat} {Q : pm_Po} {S : pm_SS} {I : pm_MI} {J : pm_ML} {a0 : Int32} (hd : 1 ≤ d) (w : UU g (d - 1) 269 kX12_isLand (pm_rm d 269) Q 0 [some (.int a0)] [] S I J (0, 0)) : pm_C g d 269 [.int a0] Q S I J := by
  have hm : pm_mx 269 = 1 := by decide +kernel
  refine pm_ent (K := kX12_isLand) (by decide) rfl rfl hd (by rw [hm]; exact Nat.le_of_ble_eq_true rfl) ?_
  rw [hm]
  exact w.2
theorem eX12_outOf {g : pm_G} {d : Nat} {Q : pm_Po} {S : pm_SS} {I : pm_MI} {J : pm_ML} {a0 : Nat} {a1 : Int32} {a2 : Int32} (hd : 1 ≤ d) (w : UU g (d - 1) 270 kX12_outOf (pm_rm d 270) Q 0 [some (.ref a0), some (.int a1), some (.int a2), none, none] [] S I J (0, 0)) : pm_C g d 270 [.ref a0, .int a1, .int a2] Q S I J := by
  have hm : pm_mx 270 = 5 := by decide +kernel
  refine pm_ent (K := kX12_outOf) (by decide) rfl rfl hd (by rw [hm]; exact Nat.le_of_ble_eq_true rfl) ?_
  rw [hm]
  exact w.2
theorem eX12_leftOf {g : pm_G} {d : Nat} {Q : pm_Po} {S : pm_SS} {I : pm_MI} {J : pm_ML} {a0 : Nat} {a1 : Int32} (hd : 1 ≤ d) (w : UU g (d - 1) 271 kX12_leftOf (pm_rm d 271) Q 0 [some (.ref a0), some (.int a1)] [] S I J (0, 0)) : pm_C g d 271 [.ref a0, .int a1] Q S I J := by
  have hm : pm_mx 271 = 2 := by decide +kernel
  refine pm_ent (K := kX12_leftOf) (by decide) rfl rfl hd (by rw [hm]; exact Nat.le_of_ble_eq_true rfl) ?_
  rw [hm]
  exact w.2
theorem eX12_sale {g : pm_G} {d : Nat} {Q : pm_Po} {S : pm_SS} {I : pm_MI} {J : pm_ML} {a0 : Nat} {a1 : Int32} {a2 : Int32} {a3 : Int32} (hd : 1 ≤ d) (w : UU g (d - 1) 272 kX12_sale (pm_rm d 272) Q 0 [some (.ref a0), some (.int a1), some (.int a2), some (.int a3)] [] S I J (0, 0)) : pm_C g d 272 [.ref a0, .int a1, .int a2, .int a3] Q S I J := by
  have hm : pm_mx 272 = 4 := by decide +kernel
  refine pm_ent (K := kX12_sale) (by decide) rfl rfl hd (by rw [hm]; exact Nat.le_of_ble_eq_true rfl) ?_
  rw [hm]
  exact w.2
theorem eX12_isSale {g : pm_G} {d : Nat} {Q : pm_Po} {S : pm_SS} {I : pm_MI} {J : pm_ML} {a0 : Nat} {a1 : Int32} {a2 : Int32} {a3 : Int32} (hd : 1 ≤ d) (w : UU g (d - 1) 273 kX12_isSale (pm_rm d 273) Q 0 [some (.ref a0), some (.int a1), some (.int a2), some (.int a3)] [] S I J (0, 0)) : pm_C g d 273 [.ref a0, .int a1, .int a2, .int a3] Q S I J := by
  have hm : pm_mx 273 = 4 := by decide +kernel
  refine pm_ent (K := kX12_isSale) (by decide) rfl rfl hd (by rw [hm]; exact Nat.le_of_ble_eq_true rfl) ?_
  rw [hm]
  exact w.2
theorem eX12_sell {g : pm_G} {d : Nat} {Q : pm_Po} {S : pm_SS} {I : pm_MI} {J : pm_ML} {a0 : Nat} {a1 : Int32} {a2 : Int32} {a3 : Int32} (hd : 1 ≤ d) (w : UU g (d - 1) 274 kX12_sell (pm_rm d 274) Q 0 [some (.ref a0), some (.int a1), some (.int a2), some (.int a3)] [] S I J (0, 0)) : pm_C g d 274 [.ref a0, .int a1, .int a2, .int a3] Q S I J := by
  have hm : pm_mx 274 = 4 := by decide +kernel
  refine pm_ent (K := kX12_sell) (by decide) rfl rfl hd (by rw [hm]; exact Nat.le_of_ble_eq_true rfl) ?_
  rw [hm]
  exact w.2
theorem eX12_back {g : pm_G} {d : Nat} {Q : pm_Po} {S : pm_SS} {I : pm_MI} {J : pm_ML} {a0 : Nat} {a1 : Int32} {a2 : Int32} {a3 : Int32} (hd : 1 ≤ d) (w : UU g (d - 1) 275 kX12_back (pm_rm d 275) Q 0 [some (.ref a0), some (.int a1), some (.int a2), some (.int a3)] [] S I J (0, 0)) : pm_C g d 275 [.ref a0, .int a1, .int a2, .int a3] Q S I J := by
  have hm : pm_mx 275 = 4 := by decide +kernel
  refine pm_ent (K := kX12_back) (by decide) rfl rfl hd (by rw [hm]; exact Nat.le_of_ble_eq_true rfl) ?_
  rw [hm]
  exact w.2
theorem eX12_pence {g : pm_G} {d : Nat} {Q : pm_Po} {S : pm_SS} {I : pm_MI} {J : pm_ML} {a0 : Nat} (hd : 1 ≤ d) (w : UU g (d - 1) 276 kX12_pence (pm_rm d 276) Q 0 [some (.ref a0)] [] S I J (0, 0)) : pm_C g d 276 [.ref a0] Q S I J := by
  have hm : pm_mx 276 = 1 := by decide +kernel
  refine pm_ent (K := kX12_pence) (by decide) rfl rfl hd (by rw [hm]; exact Nat.le_of_ble_eq_true rfl) ?_
  rw [hm]
  exact w.2
theorem eX12_facesOf {g : pm_G} {d : Nat} {Q : pm_Po} {S : pm_SS} {I : pm_MI} {J : pm_ML} {a0 : Nat} {a1 : Int32} {a2 : Int32} (hd : 1 ≤ d) (w : UU g (d - 1) 277 kX12_facesOf (pm_rm d 277) Q 0 [some (.ref a0), some (.int a1), some (.int a2)] [] S I J (0, 0)) : pm_C g d 277 [.ref a0, .int a1, .int a2] Q S I J := by
  have hm : pm_mx 277 = 3 := by decide +kernel
  refine pm_ent (K := kX12_facesOf) (by decide) rfl rfl hd (by rw [hm]; exact Nat.le_of_ble_eq_true rfl) ?_
  rw [hm]
  exact w.2
theorem eX12_owe {g : pm_G} {d : Nat} {Q : pm_Po} {S : pm_SS} {I : pm_MI} {J : pm_ML} {a0 : Nat} {a1 : Int32} {a2 : Int32} {a3 : Int32} {a4 : Int32} (hd : 1 ≤ d) (w : UU g (d - 1) 278 kX12_owe (pm_rm d 278) Q 0 [some (.ref a0), some (.int a1), some (.int a2), some (.int a3), some (.int a4), none, none, none] [] S I J (0, 0)) : pm_C g d 278 [.ref a0, .int a1, .int a2, .int a3, .int a4] Q S I J := by
  have hm : pm_mx 278 = 8 := by decide +kernel
  refine pm_ent (K := kX12_owe) (by decide) rfl rfl hd (by rw [hm]; exact Nat.le_of_ble_eq_true rfl) ?_
  rw [hm]
  exact w.2
theorem eX12_share {g : pm_G} {d : Nat} {Q : pm_Po} {S : pm_SS} {I : pm_MI} {J : pm_ML} {a0 : Nat} {a1 : Int32} (hd : 1 ≤ d) (w : UU g (d - 1) 279 kX12_share (pm_rm d 279) Q 0 [some (.ref a0), some (.int a1), none, none, none, none, none] [] S I J (0, 0)) : pm_C g d 279 [.ref a0, .int a1] Q S I J := by
  have hm : pm_mx 279 = 7 := by decide +kernel
  refine pm_ent (K := kX12_share) (by decide) rfl rfl hd (by rw [hm]; exact Nat.le_of_ble_eq_true rfl) ?_
  rw [hm]
  exact w.2
theorem eX12_order {g : pm_G} {d : Nat} {Q : pm_Po} {S : pm_SS} {I : pm_MI} {J : pm_ML} {a0 : Nat} {a1 : Int32} {a2 : Int32} (hd : 1 ≤ d) (w : UU g (d - 1) 280 kX12_order (pm_rm d 280) Q 0 [some (.ref a0), some (.int a1), some (.int a2)] [] S I J (0, 0)) : pm_C g d 280 [.ref a0, .int a1, .int a2] Q S I J := by
  have hm : pm_mx 280 = 3 := by decide +kernel
  refine pm_ent (K := kX12_order) (by decide) rfl rfl hd (by rw [hm]; exact Nat.le_of_ble_eq_true rfl) ?_
  rw [hm]
  exact w.2
theorem eX12_meetsAll {g : pm_G} {d : Nat} {Q : pm_Po} {S : pm_SS} {I : pm_MI} {J : pm_ML} {a0 : Nat} {a1 : Int32} {a2 : Int32} (hd : 1 ≤ d) (w : UU g (d - 1) 281 kX12_meetsAll (pm_rm d 281) Q 0 [some (.ref a0), some (.int a1), some (.int a2), none, none, none, none, none] [] S I J (0, 0)) : pm_C g d 281 [.ref a0, .int a1, .int a2] Q S I J := by
  have hm : pm_mx 281 = 8 := by decide +kernel
  refine pm_ent (K := kX12_meetsAll) (by decide) rfl rfl hd (by rw [hm]; exact Nat.le_of_ble_eq_true rfl) ?_
  rw [hm]
  exact w.2
theorem eX12_canMeet {g : pm_G} {d : Nat} {Q : pm_Po} {S : pm_SS} {I : pm_MI} {J : pm_ML} {a0 : Nat} {a1 : Int32} {a2 : Int32} (hd : 1 ≤ d) (w : UU g (d - 1) 282 kX12_canMeet (pm_rm d 282) Q 0 [some (.ref a0), some (.int a1), some (.int a2), none, none] [] S I J (0, 0)) : pm_C g d 282 [.ref a0, .int a1, .int a2] Q S I J := by
  have hm : pm_mx 282 = 5 := by decide +kernel
  refine pm_ent (K := kX12_canMeet) (by decide) rfl rfl hd (by rw [hm]; exact Nat.le_of_ble_eq_true rfl) ?_
  rw [hm]
  exact w.2
theorem eX12_plan {g : pm_G} {d : Nat} {Q : pm_Po} {S : pm_SS} {I : pm_MI} {J : pm_ML} {a0 : Nat} {a1 : Int32} {a2 : Int32} (hd : 1 ≤ d) (w : UU g (d - 1) 283 kX12_plan (pm_rm d 283) Q 0 [some (.ref a0), some (.int a1), some (.int a2), none, none, none, none, none, none, none, none] [] S I J (0, 0)) : pm_C g d 283 [.ref a0, .int a1, .int a2] Q S I J := by
  have hm : pm_mx 283 = 11 := by decide +kernel
  refine pm_ent (K := kX12_plan) (by decide) rfl rfl hd (by rw [hm]; exact Nat.le_of_ble_eq_true rfl) ?_
  rw [hm]
  exact w.2
theorem eX12_layPresses {g : pm_G} {d : Nat} {Q : pm_Po} {S : pm_SS} {I : pm_MI} {J : pm_ML} {a0 : Nat} {a1 : Int32} {a2 : Int32} (hd : 1 ≤ d) (w : UU g (d - 1) 284 kX12_layPresses (pm_rm d 284) Q 0 [some (.ref a0), some (.int a1), some (.int a2), none] [] S I J (0, 0)) : pm_C g d 284 [.ref a0, .int a1, .int a2] Q S I J := by
  have hm : pm_mx 284 = 4 := by decide +kernel
  refine pm_ent (K := kX12_layPresses) (by decide) rfl rfl hd (by rw [hm]; exact Nat.le_of_ble_eq_true rfl) ?_
  rw [hm]
  exact w.2
theorem eX12_settle {g : pm_G} {d : Nat} {Q : pm_Po} {S : pm_SS} {I : pm_MI} {J : pm_ML} {a0 : Nat} {a1 : Int32} {a2 : Int32} {a3 : Int32} (hd : 1 ≤ d) (w : UU g (d - 1) 285 kX12_settle (pm_rm d 285) Q 0 [some (.ref a0), some (.int a1), some (.int a2), some (.int a3), none] [] S I J (0, 0)) : pm_C g d 285 [.ref a0, .int a1, .int a2, .int a3] Q S I J := by
  have hm : pm_mx 285 = 5 := by decide +kernel
  refine pm_ent (K := kX12_settle) (by decide) rfl rfl hd (by rw [hm]; exact Nat.le_of_ble_eq_true rfl) ?_
  rw [hm]
  exact w.2
theorem eX12_planned {g : pm_G} {d : Nat} {Q : pm_Po} {S : pm_SS} {I : pm_MI} {J : pm_ML} {a0 : Nat} {a1 : Int32} (hd : 1 ≤ d) (w : UU g (d - 1) 286 kX12_planned (pm_rm d 286) Q 0 [some (.ref a0), some (.int a1)] [] S I J (0, 0)) : pm_C g d 286 [.ref a0, .int a1] Q S I J := by
  have hm : pm_mx 286 = 2 := by decide +kernel
  refine pm_ent (K := kX12_planned) (by decide) rfl rfl hd (by rw [hm]; exact Nat.le_of_ble_eq_true rfl) ?_
  rw [hm]
  exact w.2
theorem eX12_guessOf {g : pm_G} {d : Nat} {Q : pm_Po} {S : pm_SS} {I : pm_MI} {J : pm_ML} {a0 : Nat} {a1 : Int32} (hd : 1 ≤ d) (w : UU g (d - 1) 287 kX12_guessOf (pm_rm d 287) Q 0 [some (.ref a0), some (.int a1), none, none, none, none] [] S I J (0, 0)) : pm_C g d 287 [.ref a0, .int a1] Q S I J := by
  have hm : pm_mx 287 = 6 := by decide +kernel
  refine pm_ent (K := kX12_guessOf) (by decide) rfl rfl hd (by rw [hm]; exact Nat.le_of_ble_eq_true rfl) ?_
  rw [hm]
  exact w.2
theorem eX12_guess {g : pm_G} {d : Nat} {Q : pm_Po} {S : pm_SS} {I : pm_MI} {J : pm_ML} {a0 : Nat} {a1 : Int32} (hd : 1 ≤ d) (w : UU g (d - 1) 288 kX12_guess (pm_rm d 288) Q 0 [some (.ref a0), some (.int a1)] [] S I J (0, 0)) : pm_C g d 288 [.ref a0, .int a1] Q S I J := by
  have hm : pm_mx 288 = 2 := by decide +kernel
  refine pm_ent (K := kX12_guess) (by decide) rfl rfl hd (by rw [hm]; exact Nat.le_of_ble_eq_true rfl) ?_
  rw [hm]
  exact w.2
theorem eX12_cost {g : pm_G} {d : Nat} {Q : pm_Po} {S : pm_SS} {I : pm_MI} {J : pm_ML} {a0 : Nat} {a1 : Int32} {a2 : Int32} {a3 : Int32} {a4 : Int32} (hd : 1 ≤ d) (w : UU g (d - 1) 289 kX12_cost (pm_rm d 289) Q 0 [some (.ref a0), some (.int a1), some (.int a2), some (.int a3), some (.int a4), none, none] [] S I J (0, 0)) : pm_C g d 289 [.ref a0, .int a1, .int a2, .int a3, .int a4] Q S I J := by
  have hm : pm_mx 289 = 7 := by decide +kernel
  refine pm_ent (K := kX12_cost) (by decide) rfl rfl hd (by rw [hm]; exact Nat.le_of_ble_eq_true rfl) ?_
  rw [hm]
  exact w.2
theorem eX12_counted {g : pm_G} {d : Nat} {Q : pm_Po} {S : pm_SS} {I : pm_MI} {J : pm_ML} {a0 : Nat} {a1 : Int32} (hd : 1 ≤ d) (w : UU g (d - 1) 290 kX12_counted (pm_rm d 290) Q 0 [some (.ref a0), some (.int a1), none, none] [] S I J (0, 0)) : pm_C g d 290 [.ref a0, .int a1] Q S I J := by
  have hm : pm_mx 290 = 4 := by decide +kernel
  refine pm_ent (K := kX12_counted) (by decide) rfl rfl hd (by rw [hm]; exact Nat.le_of_ble_eq_true rfl) ?_
  rw [hm]
  exact w.2
theorem eX12_count {g : pm_G} {d : Nat} {Q : pm_Po} {S : pm_SS} {I : pm_MI} {J : pm_ML} {a0 : Nat} {a1 : Int32} (hd : 1 ≤ d) (w : UU g (d - 1) 291 kX12_count (pm_rm d 291) Q 0 [some (.ref a0), some (.int a1)] [] S I J (0, 0)) : pm_C g d 291 [.ref a0, .int a1] Q S I J := by
  have hm : pm_mx 291 = 2 := by decide +kernel
  refine pm_ent (K := kX12_count) (by decide) rfl rfl hd (by rw [hm]; exact Nat.le_of_ble_eq_true rfl) ?_
  rw [hm]
  exact w.2
theorem eX12_tell {g : pm_G} {d : Nat} {Q : pm_Po} {S : pm_SS} {I : pm_MI} {J : pm_ML} {a0 : Nat} {a1 : Int64} (hd : 1 ≤ d) (w : UU g (d - 1) 292 kX12_tell (pm_rm d 292) Q 0 [some (.ref a0), some (.long a1), none] [] S I J (0, 0)) : pm_C g d 292 [.ref a0, .long a1] Q S I J := by
  have hm : pm_mx 292 = 3 := by decide +kernel
  refine pm_ent (K := kX12_tell) (by decide) rfl rfl hd (by rw [hm]; exact Nat.le_of_ble_eq_true rfl) ?_
  rw [hm]
  exact w.2
theorem eX12_tellWorks {g : pm_G} {d : Nat} {Q : pm_Po} {S : pm_SS} {I : pm_MI} {J : pm_ML} {a0 : Nat} (hd : 1 ≤ d) (w : UU g (d - 1) 293 kX12_tellWorks (pm_rm d 293) Q 0 [some (.ref a0), none, none] [] S I J (0, 0)) : pm_C g d 293 [.ref a0] Q S I J := by
  have hm : pm_mx 293 = 3 := by decide +kernel
  refine pm_ent (K := kX12_tellWorks) (by decide) rfl rfl hd (by rw [hm]; exact Nat.le_of_ble_eq_true rfl) ?_
  rw [hm]
  exact w.2
theorem eX12_digest {g : pm_G} {d : Nat} {Q : pm_Po} {S : pm_SS} {I : pm_MI} {J : pm_ML} {a0 : Nat} (hd : 1 ≤ d) (w : UU g (d - 1) 294 kX12_digest (pm_rm d 294) Q 0 [some (.ref a0), none, none] [] S I J (0, 0)) : pm_C g d 294 [.ref a0] Q S I J := by
  have hm : pm_mx 294 = 3 := by decide +kernel
  refine pm_ent (K := kX12_digest) (by decide) rfl rfl hd (by rw [hm]; exact Nat.le_of_ble_eq_true rfl) ?_
  rw [hm]
  exact w.2
theorem eJ6_bitCount_0f7a4 {g : pm_G} {d : Nat} {Q : pm_Po} {S : pm_SS} {I : pm_MI} {J : pm_ML} {a0 : Int32} (hd : 1 ≤ d) (w : UU g (d - 1) 295 kJ6_bitCount_0f7a4 (pm_rm d 295) Q 0 [some (.int a0)] [] S I J (0, 0)) : pm_C g d 295 [.int a0] Q S I J := by
  have hm : pm_mx 295 = 1 := by decide +kernel
  refine pm_ent (K := kJ6_bitCount_0f7a4) (by decide) rfl rfl hd (by rw [hm]; exact Nat.le_of_ble_eq_true rfl) ?_
  rw [hm]
  exact w.2
theorem eJ13_bitCount_95d88 {g : pm_G} {d : Nat} {Q : pm_Po} {S : pm_SS} {I : pm_MI} {J : pm_ML} {a0 : Int64} (hd : 1 ≤ d) (w : UU g (d - 1) 296 kJ13_bitCount_95d88 (pm_rm d 296) Q 0 [some (.long a0), none] [] S I J (0, 0)) : pm_C g d 296 [.long a0] Q S I J := by
  have hm : pm_mx 296 = 2 := by decide +kernel
  refine pm_ent (K := kJ13_bitCount_95d88) (by decide) rfl rfl hd (by rw [hm]; exact Nat.le_of_ble_eq_true rfl) ?_
  rw [hm]
  exact w.2
