section C95
variable {g : pm_G}
theorem lw_init (hL : g.2.2.2.1 ≤ 3072) : UU g 100 302 kL_law room_1 (fun r _ _ _ => r = some (.int 1)) 0 [some .null, none, none, none] [] [] (fun _ _ => 0) (fun _ _ => 0) (0, 0) := sorry
end C95
