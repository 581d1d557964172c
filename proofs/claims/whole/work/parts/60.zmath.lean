section C60z
variable {g : pm_G} {d : Nat} {R : Room} {Q : pm_Po} {Jm : Nat → pm_T} {nx : Nat} {is : List pm_I} {ls : pm_LS} {st : List Value} {S : pm_SS} {I : pm_MI} {J : pm_ML} {k : Nat × Nat} {ax : List Nat}
theorem w_mabsT {i h : Nat} {x : Int32} : (pm_wp g d R Q Jm nx ((.invokestatic i, [9990, h]) :: is) ls (.int x :: st) S I J k) = (st.length ≤ 4 ∧ pm_wp g d R Q Jm nx is ls (.int (if 0 ≤ x then x else 0 - x) :: st) S I J k) := Eq.trans w_mabs (Eq.refl _)
theorem w_mabsLT {i h : Nat} {x : Int64} : (pm_wp g d R Q Jm nx ((.invokestatic i, [9991, h]) :: is) ls (.long x :: st) S I J k) = (st.length ≤ 4 ∧ pm_wp g d R Q Jm nx is ls (.long (if 0 < x then x else -x) :: st) S I J k) := Eq.trans w_mabsL (Eq.refl _)
theorem w_mmaxT {i h : Nat} {x y : Int32} : (pm_wp g d R Q Jm nx ((.invokestatic i, [9992, h]) :: is) ls (.int y :: .int x :: st) S I J k) = (st.length ≤ 4 ∧ pm_wp g d R Q Jm nx is ls (.int (if x < y then y else x) :: st) S I J k) := Eq.trans w_mmax (Eq.refl _)
theorem w_mminT {i h : Nat} {x y : Int32} : (pm_wp g d R Q Jm nx ((.invokestatic i, [9993, h]) :: is) ls (.int y :: .int x :: st) S I J k) = (st.length ≤ 4 ∧ pm_wp g d R Q Jm nx is ls (.int (if y < x then y else x) :: st) S I J k) := Eq.trans w_mmin (Eq.refl _)
theorem w_mminLT {i h : Nat} {x y : Int64} : (pm_wp g d R Q Jm nx ((.invokestatic i, [9994, h]) :: is) ls (.long y :: .long x :: st) S I J k) = (st.length ≤ 4 ∧ pm_wp g d R Q Jm nx is ls (.long (if y < x then y else x) :: st) S I J k) := Eq.trans w_mminL (Eq.refl _)
end C60z
