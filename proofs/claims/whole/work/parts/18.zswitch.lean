section WSW
variable {g : pm_G} {d : Nat} {R : Room} {Q : pm_Po} {Jm : Nat → pm_T} {nx : Nat} {ls : pm_LS} {st : List Value} {S : pm_SS} {I : pm_MI} {J : pm_ML} {k : Nat × Nat} {is : List pm_I}
set_option maxRecDepth 100000 in
theorem w_sw_X0_fact_12 {x : Int32} : (pm_wp g d R Q Jm nx ((.tableswitch 82 0 5 #[40, 47, 54, 61, 68, 75], [8, 2, 3, 4, 5, 6, 7]) :: is) ls (.int x :: st) S I J k) = ((x = 0 → Jm 2 ls st S I J k) ∧ (¬ x = 0 → (x = 1 → Jm 3 ls st S I J k) ∧ (¬ x = 1 → (x = 2 → Jm 4 ls st S I J k) ∧ (¬ x = 2 → (x = 3 → Jm 5 ls st S I J k) ∧ (¬ x = 3 → (x = 4 → Jm 6 ls st S I J k) ∧ (¬ x = 4 → (x = 5 → Jm 7 ls st S I J k) ∧ (¬ x = 5 → Jm 8 ls st S I J k))))))) := by
  rw [w_ts]
  simp [List.mapIdx_cons, w_swc, w_sw0, ← Int32.toInt_inj]
set_option maxRecDepth 100000 in
theorem w_sw_X5_thing_1 {x : Int32} : (pm_wp g d R Q Jm nx ((.tableswitch 96 0 3 #[31, 57, 60, 78], [11, 1, 4, 5, 8]) :: is) ls (.int x :: st) S I J k) = ((x = 0 → Jm 1 ls st S I J k) ∧ (¬ x = 0 → (x = 1 → Jm 4 ls st S I J k) ∧ (¬ x = 1 → (x = 2 → Jm 5 ls st S I J k) ∧ (¬ x = 2 → (x = 3 → Jm 8 ls st S I J k) ∧ (¬ x = 3 → Jm 11 ls st S I J k))))) := by
  rw [w_ts]
  simp [List.mapIdx_cons, w_swc, w_sw0, ← Int32.toInt_inj]
set_option maxRecDepth 100000 in
theorem w_sw_X5_readItem_30 {x : Int32} : (pm_wp g d R Q Jm nx ((.lookupswitch 108 #[(32, 58), (71, 71), (78, 92), (80, 85), (87, 78), (89, 100)], [9, 3, 4, 7, 6, 5, 8]) :: is) ls (.int x :: st) S I J k) = ((x = 32 → Jm 3 ls st S I J k) ∧ (¬ x = 32 → (x = 71 → Jm 4 ls st S I J k) ∧ (¬ x = 71 → (x = 78 → Jm 7 ls st S I J k) ∧ (¬ x = 78 → (x = 80 → Jm 6 ls st S I J k) ∧ (¬ x = 80 → (x = 87 → Jm 5 ls st S I J k) ∧ (¬ x = 87 → (x = 89 → Jm 8 ls st S I J k) ∧ (¬ x = 89 → Jm 9 ls st S I J k))))))) := by
  rw [w_ls]
  simp [List.mapIdx_cons, w_swc, w_sw0, ← Int32.toInt_inj]
set_option maxRecDepth 100000 in
theorem w_sw_X6_fact_12 {x : Int32} : (pm_wp g d R Q Jm nx ((.tableswitch 71 0 4 #[36, 43, 50, 57, 64], [7, 2, 3, 4, 5, 6]) :: is) ls (.int x :: st) S I J k) = ((x = 0 → Jm 2 ls st S I J k) ∧ (¬ x = 0 → (x = 1 → Jm 3 ls st S I J k) ∧ (¬ x = 1 → (x = 2 → Jm 4 ls st S I J k) ∧ (¬ x = 2 → (x = 3 → Jm 5 ls st S I J k) ∧ (¬ x = 3 → (x = 4 → Jm 6 ls st S I J k) ∧ (¬ x = 4 → Jm 7 ls st S I J k)))))) := by
  rw [w_ts]
  simp [List.mapIdx_cons, w_swc, w_sw0, ← Int32.toInt_inj]
set_option maxRecDepth 100000 in
theorem w_sw_X11_mark_43 {x : Int32} : (pm_wp g d R Q Jm nx ((.tableswitch 54 0 2 #[25, 34, 44], [7, 4, 5, 6]) :: is) ls (.int x :: st) S I J k) = ((x = 0 → Jm 4 ls st S I J k) ∧ (¬ x = 0 → (x = 1 → Jm 5 ls st S I J k) ∧ (¬ x = 1 → (x = 2 → Jm 6 ls st S I J k) ∧ (¬ x = 2 → Jm 7 ls st S I J k)))) := by
  rw [w_ts]
  simp [List.mapIdx_cons, w_swc, w_sw0, ← Int32.toInt_inj]
set_option maxRecDepth 100000 in
theorem w_sw_X11_count_1 {x : Int32} : (pm_wp g d R Q Jm nx ((.tableswitch 144 0 10 #[59, 64, 72, 80, 88, 96, 104, 112, 120, 128, 136], [12, 1, 2, 3, 4, 5, 6, 7, 8, 9, 10, 11]) :: is) ls (.int x :: st) S I J k) = ((x = 0 → Jm 1 ls st S I J k) ∧ (¬ x = 0 → (x = 1 → Jm 2 ls st S I J k) ∧ (¬ x = 1 → (x = 2 → Jm 3 ls st S I J k) ∧ (¬ x = 2 → (x = 3 → Jm 4 ls st S I J k) ∧ (¬ x = 3 → (x = 4 → Jm 5 ls st S I J k) ∧ (¬ x = 4 → (x = 5 → Jm 6 ls st S I J k) ∧ (¬ x = 5 → (x = 6 → Jm 7 ls st S I J k) ∧ (¬ x = 6 → (x = 7 → Jm 8 ls st S I J k) ∧ (¬ x = 7 → (x = 8 → Jm 9 ls st S I J k) ∧ (¬ x = 8 → (x = 9 → Jm 10 ls st S I J k) ∧ (¬ x = 9 → (x = 10 → Jm 11 ls st S I J k) ∧ (¬ x = 10 → Jm 12 ls st S I J k)))))))))))) := by
  rw [w_ts]
  simp [List.mapIdx_cons, w_swc, w_sw0, ← Int32.toInt_inj]
set_option maxRecDepth 100000 in
theorem w_sw_X12_readItem_18 {x : Int32} : (pm_wp g d R Q Jm nx ((.lookupswitch 284 #[(71, 50), (78, 222), (80, 164), (87, 138), (89, 222)], [17, 1, 13, 9, 6, 13]) :: is) ls (.int x :: st) S I J k) = ((x = 71 → Jm 1 ls st S I J k) ∧ (¬ x = 71 → (x = 78 → Jm 13 ls st S I J k) ∧ (¬ x = 78 → (x = 80 → Jm 9 ls st S I J k) ∧ (¬ x = 80 → (x = 87 → Jm 6 ls st S I J k) ∧ (¬ x = 87 → (x = 89 → Jm 13 ls st S I J k) ∧ (¬ x = 89 → Jm 17 ls st S I J k)))))) := by
  rw [w_ls]
  simp [List.mapIdx_cons, w_swc, w_sw0, ← Int32.toInt_inj]
set_option maxRecDepth 100000 in
theorem w_sw_X12_toldOf_1 {x : Int32} : (pm_wp g d R Q Jm nx ((.tableswitch 81 0 5 #[39, 46, 53, 60, 67, 74], [7, 1, 2, 3, 4, 5, 6]) :: is) ls (.int x :: st) S I J k) = ((x = 0 → Jm 1 ls st S I J k) ∧ (¬ x = 0 → (x = 1 → Jm 2 ls st S I J k) ∧ (¬ x = 1 → (x = 2 → Jm 3 ls st S I J k) ∧ (¬ x = 2 → (x = 3 → Jm 4 ls st S I J k) ∧ (¬ x = 3 → (x = 4 → Jm 5 ls st S I J k) ∧ (¬ x = 4 → (x = 5 → Jm 6 ls st S I J k) ∧ (¬ x = 5 → Jm 7 ls st S I J k))))))) := by
  rw [w_ts]
  simp [List.mapIdx_cons, w_swc, w_sw0, ← Int32.toInt_inj]
set_option maxRecDepth 100000 in
theorem w_sw_X12_runTells_1 {x : Int32} : (pm_wp g d R Q Jm nx ((.tableswitch 81 0 5 #[39, 46, 53, 60, 67, 74], [7, 1, 2, 3, 4, 5, 6]) :: is) ls (.int x :: st) S I J k) = ((x = 0 → Jm 1 ls st S I J k) ∧ (¬ x = 0 → (x = 1 → Jm 2 ls st S I J k) ∧ (¬ x = 1 → (x = 2 → Jm 3 ls st S I J k) ∧ (¬ x = 2 → (x = 3 → Jm 4 ls st S I J k) ∧ (¬ x = 3 → (x = 4 → Jm 5 ls st S I J k) ∧ (¬ x = 4 → (x = 5 → Jm 6 ls st S I J k) ∧ (¬ x = 5 → Jm 7 ls st S I J k))))))) := by
  rw [w_ts]
  simp [List.mapIdx_cons, w_swc, w_sw0, ← Int32.toInt_inj]
set_option maxRecDepth 100000 in
theorem w_sw_X12_counted_3 {x : Int32} : (pm_wp g d R Q Jm nx ((.tableswitch 161 0 9 #[53, 58, 63, 98, 103, 108, 113, 118, 123, 128], [19, 1, 2, 3, 8, 9, 10, 11, 12, 13, 14]) :: is) ls (.int x :: st) S I J k) = ((x = 0 → Jm 1 ls st S I J k) ∧ (¬ x = 0 → (x = 1 → Jm 2 ls st S I J k) ∧ (¬ x = 1 → (x = 2 → Jm 3 ls st S I J k) ∧ (¬ x = 2 → (x = 3 → Jm 8 ls st S I J k) ∧ (¬ x = 3 → (x = 4 → Jm 9 ls st S I J k) ∧ (¬ x = 4 → (x = 5 → Jm 10 ls st S I J k) ∧ (¬ x = 5 → (x = 6 → Jm 11 ls st S I J k) ∧ (¬ x = 6 → (x = 7 → Jm 12 ls st S I J k) ∧ (¬ x = 7 → (x = 8 → Jm 13 ls st S I J k) ∧ (¬ x = 8 → (x = 9 → Jm 14 ls st S I J k) ∧ (¬ x = 9 → Jm 19 ls st S I J k))))))))))) := by
  rw [w_ts]
  simp [List.mapIdx_cons, w_swc, w_sw0, ← Int32.toInt_inj]
set_option maxRecDepth 100000 in
theorem w_sw_L_law_33 {x : Int32} : (pm_wp g d R Q Jm nx ((.tableswitch 1938 0 50 #[219, 252, 295, 318, 381, 414, 457, 480, 503, 526, 559, 602, 635, 668, 701, 734, 757, 800, 823, 856, 899, 958, 991, 1014, 1047, 1110, 1173, 1242, 1275, 1308, 1341, 1374, 1417, 1450, 1483, 1526, 1569, 1622, 1636, 1659, 1692, 1725, 1748, 1771, 1824, 1837, 1851, 1865, 1888, 1901, 1924], [61, 2, 3, 4, 5, 6, 7, 8, 9, 10, 11, 12, 13, 14, 15, 16, 17, 18, 19, 20, 21, 22, 27, 28, 29, 30, 31, 32, 37, 38, 39, 40, 41, 42, 43, 44, 45, 46, 47, 48, 49, 50, 51, 52, 53, 54, 55, 56, 57, 58, 59, 60]) :: is) ls (.int x :: st) S I J k) = ((x = 0 → Jm 2 ls st S I J k) ∧ (¬ x = 0 → (x = 1 → Jm 3 ls st S I J k) ∧ (¬ x = 1 → (x = 2 → Jm 4 ls st S I J k) ∧ (¬ x = 2 → (x = 3 → Jm 5 ls st S I J k) ∧ (¬ x = 3 → (x = 4 → Jm 6 ls st S I J k) ∧ (¬ x = 4 → (x = 5 → Jm 7 ls st S I J k) ∧ (¬ x = 5 → (x = 6 → Jm 8 ls st S I J k) ∧ (¬ x = 6 → (x = 7 → Jm 9 ls st S I J k) ∧ (¬ x = 7 → (x = 8 → Jm 10 ls st S I J k) ∧ (¬ x = 8 → (x = 9 → Jm 11 ls st S I J k) ∧ (¬ x = 9 → (x = 10 → Jm 12 ls st S I J k) ∧ (¬ x = 10 → (x = 11 → Jm 13 ls st S I J k) ∧ (¬ x = 11 → (x = 12 → Jm 14 ls st S I J k) ∧ (¬ x = 12 → (x = 13 → Jm 15 ls st S I J k) ∧ (¬ x = 13 → (x = 14 → Jm 16 ls st S I J k) ∧ (¬ x = 14 → (x = 15 → Jm 17 ls st S I J k) ∧ (¬ x = 15 → (x = 16 → Jm 18 ls st S I J k) ∧ (¬ x = 16 → (x = 17 → Jm 19 ls st S I J k) ∧ (¬ x = 17 → (x = 18 → Jm 20 ls st S I J k) ∧ (¬ x = 18 → (x = 19 → Jm 21 ls st S I J k) ∧ (¬ x = 19 → (x = 20 → Jm 22 ls st S I J k) ∧ (¬ x = 20 → (x = 21 → Jm 27 ls st S I J k) ∧ (¬ x = 21 → (x = 22 → Jm 28 ls st S I J k) ∧ (¬ x = 22 → (x = 23 → Jm 29 ls st S I J k) ∧ (¬ x = 23 → (x = 24 → Jm 30 ls st S I J k) ∧ (¬ x = 24 → (x = 25 → Jm 31 ls st S I J k) ∧ (¬ x = 25 → (x = 26 → Jm 32 ls st S I J k) ∧ (¬ x = 26 → (x = 27 → Jm 37 ls st S I J k) ∧ (¬ x = 27 → (x = 28 → Jm 38 ls st S I J k) ∧ (¬ x = 28 → (x = 29 → Jm 39 ls st S I J k) ∧ (¬ x = 29 → (x = 30 → Jm 40 ls st S I J k) ∧ (¬ x = 30 → (x = 31 → Jm 41 ls st S I J k) ∧ (¬ x = 31 → (x = 32 → Jm 42 ls st S I J k) ∧ (¬ x = 32 → (x = 33 → Jm 43 ls st S I J k) ∧ (¬ x = 33 → (x = 34 → Jm 44 ls st S I J k) ∧ (¬ x = 34 → (x = 35 → Jm 45 ls st S I J k) ∧ (¬ x = 35 → (x = 36 → Jm 46 ls st S I J k) ∧ (¬ x = 36 → (x = 37 → Jm 47 ls st S I J k) ∧ (¬ x = 37 → (x = 38 → Jm 48 ls st S I J k) ∧ (¬ x = 38 → (x = 39 → Jm 49 ls st S I J k) ∧ (¬ x = 39 → (x = 40 → Jm 50 ls st S I J k) ∧ (¬ x = 40 → (x = 41 → Jm 51 ls st S I J k) ∧ (¬ x = 41 → (x = 42 → Jm 52 ls st S I J k) ∧ (¬ x = 42 → (x = 43 → Jm 53 ls st S I J k) ∧ (¬ x = 43 → (x = 44 → Jm 54 ls st S I J k) ∧ (¬ x = 44 → (x = 45 → Jm 55 ls st S I J k) ∧ (¬ x = 45 → (x = 46 → Jm 56 ls st S I J k) ∧ (¬ x = 46 → (x = 47 → Jm 57 ls st S I J k) ∧ (¬ x = 47 → (x = 48 → Jm 58 ls st S I J k) ∧ (¬ x = 48 → (x = 49 → Jm 59 ls st S I J k) ∧ (¬ x = 49 → (x = 50 → Jm 60 ls st S I J k) ∧ (¬ x = 50 → Jm 61 ls st S I J k)))))))))))))))))))))))))))))))))))))))))))))))))))) := by
  rw [w_ts]
  simp [List.mapIdx_cons, w_swc, w_sw0, ← Int32.toInt_inj]
end WSW
