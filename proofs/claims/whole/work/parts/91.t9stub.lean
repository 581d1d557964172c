section C91t9
variable {g : pm_G} {d : Nat} {R : Room} {Q : pm_Po} {Jm : Nat → pm_T} {nx : Nat} {is : List pm_I} {ls : pm_LS} {st : List Value} {S : pm_SS} {I : pm_MI} {J : pm_ML} {k : Nat × Nat} {ax : List Nat}
theorem w_mmaxT {i h : Nat} {x y : Int32} : (pm_wp g d R Q Jm nx ((.invokestatic i, [9992, h]) :: is) ls (.int y :: .int x :: st) S I J k) = (st.length ≤ 4 ∧ pm_wp g d R Q Jm nx is ls (.int (if x < y then y else x) :: st) S I J k) := Eq.trans w_mmax (Eq.refl _)
end C91t9
