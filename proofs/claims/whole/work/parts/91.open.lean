section C91
variable {g : pm_G} {d : Nat}
theorem p_cause {x y : Int32} (hd : 10 ≤ d) : PC g d 153 261 [.int x, .int y] := sorry
theorem p_rivals {x y : Int32} (hd : 10 ≤ d) : PC g d 157 263 [.int x, .int y] := sorry
theorem p_nextTest {x y : Int32} (hd : 10 ≤ d) : PC g d 158 264 [.int x, .int y] := sorry
end C91
