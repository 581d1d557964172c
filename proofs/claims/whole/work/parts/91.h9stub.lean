section C91h9
theorem lg_ge0 {x y : Int64} : (0 ≤ lg_cmp x y) = (y ≤ x) := sorry
end C91h9
