section C91x
variable {g : pm_G} {d : Nat}
theorem p_cause {x y : Int32} (hd : 12 ≤ d) : PC g d 153 261 [.int x, .int y] := sorry
end C91x
