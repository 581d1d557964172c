def kX0_init : List pm_Bl := [
  (0, 0, [(.aload_n 0, []), (.invokespecial 3, [9999, 3]), (.aload_n 0, []), (.bipush 40, []), (.newarray .int, [0]), (.putfield 9, [0, 0, 3, 16]), (.aload_n 0, []), (.bipush 40, []), (.newarray .int, [0]), (.putfield 15, [0, 1, 3, 17]), (.aload_n 0, []), (.bipush 40, []), (.newarray .int, [0]), (.putfield 18, [0, 2, 3, 18]), (.aload_n 0, []), (.bipush 40, []), (.newarray .int, [0]), (.putfield 21, [0, 3, 3, 19]), (.aload_n 0, []), (.bipush 40, []), (.newarray .int, [0]), (.putfield 24, [0, 4, 3, 20]), (.aload_n 0, []), (.bipush 40, []), (.newarray .int, [0]), (.putfield 27, [0, 5, 3, 21]), (.aload_n 0, []), (.bipush 120, []), (.newarray .int, [0]), (.putfield 30, [0, 6, 3, 22]), (.aload_n 0, []), (.bipush 120, []), (.newarray .int, [0]), (.putfield 33, [0, 7, 3, 23]), (.aload_n 0, []), (.bipush 120, []), (.newarray .int, [0]), (.putfield 36, [0, 8, 3, 24]), (.aload_n 0, []), (.iconst 0, []), (.putfield 39, [0, 9, 0, 25]), (.aload_n 0, []), (.iconst 0, []), (.putfield 43, [0, 10, 0, 28]), (.return_, [])])]
theorem kX0_init_ok : pm_ck 0 kX0_init = true := by decide +kernel
def kX0_has : List pm_Bl := [
  (0, 0, [(.iload_n 1, []), (.ifCond .lt 21, [1]), (.iload_n 1, []), (.aload_n 0, []), (.getfield 39, [0, 9, 0, 25]), (.if_icmp .ge 13, [1]), (.iload_n 1, []), (.bipush 40, []), (.if_icmp .ge 7, [1]), (.iconst 1, []), (.goto 4, [2])]),
  (22, 2, [(.iconst 0, [])]),
  (23, 0, [(.ireturn, [1])])]
theorem kX0_has_ok : pm_ck 1 kX0_has = true := by decide +kernel
def kX0_kindOf : List pm_Bl := [
  (0, 0, [(.aload_n 0, []), (.iload_n 1, []), (.invokevirtual 46, [1, 2, 57, 0, 0, 0]), (.ifCond .eq 12, [1]), (.aload_n 0, []), (.getfield 9, [0, 0, 3, 16]), (.iload_n 1, []), (.iaload, []), (.goto 5, [2])]),
  (17, 2, [(.bipush (-9), [])]),
  (19, 0, [(.ireturn, [0])])]
theorem kX0_kindOf_ok : pm_ck 2 kX0_kindOf = true := by decide +kernel
def kX0_sideOf : List pm_Bl := [
  (0, 0, [(.aload_n 0, []), (.iload_n 1, []), (.invokevirtual 46, [1, 2, 57, 0, 0, 0]), (.ifCond .eq 12, [1]), (.aload_n 0, []), (.getfield 15, [0, 1, 3, 17]), (.iload_n 1, []), (.iaload, []), (.goto 5, [2])]),
  (17, 2, [(.bipush (-9), [])]),
  (19, 0, [(.ireturn, [0])])]
theorem kX0_sideOf_ok : pm_ck 3 kX0_sideOf = true := by decide +kernel
def kX0_fatherOf : List pm_Bl := [
  (0, 0, [(.aload_n 0, []), (.iload_n 1, []), (.invokevirtual 46, [1, 2, 57, 0, 0, 0]), (.ifCond .eq 12, [1]), (.aload_n 0, []), (.getfield 18, [0, 2, 3, 18]), (.iload_n 1, []), (.iaload, []), (.goto 5, [2])]),
  (17, 2, [(.bipush (-9), [])]),
  (19, 0, [(.ireturn, [0])])]
theorem kX0_fatherOf_ok : pm_ck 4 kX0_fatherOf = true := by decide +kernel
def kX0_bornOn : List pm_Bl := [
  (0, 0, [(.aload_n 0, []), (.iload_n 1, []), (.invokevirtual 46, [1, 2, 57, 0, 0, 0]), (.ifCond .eq 12, [1]), (.aload_n 0, []), (.getfield 24, [0, 4, 3, 20]), (.iload_n 1, []), (.iaload, []), (.goto 5, [2])]),
  (17, 2, [(.bipush (-9), [])]),
  (19, 0, [(.ireturn, [0])])]
theorem kX0_bornOn_ok : pm_ck 5 kX0_bornOn = true := by decide +kernel
def kX0_howOf : List pm_Bl := [
  (0, 0, [(.aload_n 0, []), (.iload_n 1, []), (.invokevirtual 46, [1, 2, 57, 0, 0, 0]), (.ifCond .eq 12, [1]), (.aload_n 0, []), (.getfield 27, [0, 5, 3, 21]), (.iload_n 1, []), (.iaload, []), (.goto 5, [2])]),
  (17, 2, [(.bipush (-9), [])]),
  (19, 0, [(.ireturn, [0])])]
theorem kX0_howOf_ok : pm_ck 6 kX0_howOf = true := by decide +kernel
def kX0_isCut : List pm_Bl := [
  (0, 1, [(.iconst 0, []), (.istore_n 2, [])]),
  (2, 0, [(.iload_n 2, []), (.aload_n 0, []), (.getfield 39, [0, 9, 0, 25]), (.if_icmp .ge 30, [3]), (.aload_n 0, []), (.getfield 9, [0, 0, 3, 16]), (.iload_n 2, []), (.iaload, []), (.ifCond .ne 15, [2]), (.aload_n 0, []), (.getfield 15, [0, 1, 3, 17]), (.iload_n 2, []), (.iaload, []), (.iload_n 1, []), (.if_icmp .ne 5, [2]), (.iconst 1, []), (.ireturn, [1])]),
  (31, 0, [(.iinc 2 1, []), (.goto (-32), [1])]),
  (37, 0, [(.iconst 0, []), (.ireturn, [1])])]
theorem kX0_isCut_ok : pm_ck 7 kX0_isCut = true := by decide +kernel
def kX0_make : List pm_Bl := [
  (0, 1, [(.aload_n 0, []), (.getfield 39, [0, 9, 0, 25]), (.istore 6, []), (.iload 6, []), (.ifCond .lt 10, [1]), (.iload 6, []), (.bipush 40, []), (.if_icmp .lt 6, [2])]),
  (18, 0, [(.bipush (-2), []), (.ireturn, [0])]),
  (21, 0, [(.aload_n 0, []), (.getfield 9, [0, 0, 3, 16]), (.iload 6, []), (.iload_n 1, []), (.iastore, []), (.aload_n 0, []), (.getfield 15, [0, 1, 3, 17]), (.iload 6, []), (.iload_n 2, []), (.iastore, []), (.aload_n 0, []), (.getfield 18, [0, 2, 3, 18]), (.iload 6, []), (.iload_n 3, []), (.iastore, []), (.aload_n 0, []), (.getfield 21, [0, 3, 3, 19]), (.iload 6, []), (.iload 4, []), (.iastore, []), (.aload_n 0, []), (.getfield 24, [0, 4, 3, 20]), (.iload 6, []), (.iload 5, []), (.iastore, []), (.aload_n 0, []), (.getfield 27, [0, 5, 3, 21]), (.iload 6, []), (.iconst 0, []), (.iastore, []), (.aload_n 0, []), (.iload 6, []), (.iconst 1, []), (.iadd, []), (.putfield 39, [0, 9, 0, 25]), (.iload 6, []), (.ireturn, [0])])]
theorem kX0_make_ok : pm_ck 8 kX0_make = true := by decide +kernel
def kX0_change : List pm_Bl := [
  (0, 1, [(.aload_n 0, []), (.getfield 43, [0, 10, 0, 28]), (.istore 4, []), (.aload_n 0, []), (.iload_n 1, []), (.invokevirtual 46, [1, 2, 57, 0, 0, 0]), (.ifCond .eq 15, [1]), (.iload 4, []), (.ifCond .lt 10, [1]), (.iload 4, []), (.bipush 120, []), (.if_icmp .lt 4, [2])]),
  (26, 0, [(.return_, [])]),
  (27, 0, [(.aload_n 0, []), (.getfield 30, [0, 6, 3, 22]), (.iload 4, []), (.iload_n 1, []), (.iastore, []), (.aload_n 0, []), (.getfield 33, [0, 7, 3, 23]), (.iload 4, []), (.iload_n 2, []), (.iastore, []), (.aload_n 0, []), (.getfield 36, [0, 8, 3, 24]), (.iload 4, []), (.iload_n 3, []), (.iastore, []), (.aload_n 0, []), (.iload 4, []), (.iconst 1, []), (.iadd, []), (.putfield 43, [0, 10, 0, 28]), (.aload_n 0, []), (.getfield 27, [0, 5, 3, 21]), (.iload_n 1, []), (.iload_n 2, []), (.iastore, []), (.return_, [])])]
theorem kX0_change_ok : pm_ck 9 kX0_change = true := by decide +kernel
def kX0_howOn : List pm_Bl := [
  (0, 1, [(.aload_n 0, []), (.iload_n 1, []), (.invokevirtual 46, [1, 2, 57, 0, 0, 0]), (.ifCond .eq 13, [1]), (.iload_n 2, []), (.aload_n 0, []), (.getfield 24, [0, 4, 3, 20]), (.iload_n 1, []), (.iaload, []), (.if_icmp .ge 6, [2])]),
  (18, 0, [(.bipush (-9), []), (.ireturn, [0])]),
  (21, 3, [(.iconst 0, []), (.istore_n 3, []), (.iconst 0, []), (.istore 4, [])]),
  (26, 4, [(.iload 4, []), (.aload_n 0, []), (.getfield 43, [0, 10, 0, 28]), (.if_icmp .ge 39, [5]), (.aload_n 0, []), (.getfield 30, [0, 6, 3, 22]), (.iload 4, []), (.iaload, []), (.iload_n 1, []), (.if_icmp .ne 22, [4]), (.aload_n 0, []), (.getfield 36, [0, 8, 3, 24]), (.iload 4, []), (.iaload, []), (.iload_n 2, []), (.if_icmp .gt 11, [4]), (.aload_n 0, []), (.getfield 33, [0, 7, 3, 23]), (.iload 4, []), (.iaload, []), (.istore_n 3, [])]),
  (65, 0, [(.iinc 4 1, []), (.goto (-42), [3])]),
  (71, 0, [(.iload_n 3, []), (.ireturn, [0])])]
theorem kX0_howOn_ok : pm_ck 10 kX0_howOn = true := by decide +kernel
def kX0_grown : List pm_Bl := [
  (0, 1, [(.iconst 0, []), (.istore_n 2, []), (.iconst 0, []), (.istore_n 3, [])]),
  (4, 2, [(.iload_n 3, []), (.aload_n 0, []), (.getfield 39, [0, 9, 0, 25]), (.if_icmp .ge 22, [3]), (.aload_n 0, []), (.getfield 18, [0, 2, 3, 18]), (.iload_n 3, []), (.iaload, []), (.iload_n 1, []), (.if_icmp .ne 6, [2]), (.iinc 2 1, [])]),
  (25, 0, [(.iinc 3 1, []), (.goto (-24), [1])]),
  (31, 0, [(.iload_n 2, []), (.ireturn, [0])])]
theorem kX0_grown_ok : pm_ck 11 kX0_grown = true := by decide +kernel
def kX0_grownOf : List pm_Bl := [
  (0, 1, [(.iconst 0, []), (.istore_n 3, []), (.iconst 0, []), (.istore 4, [])]),
  (5, 2, [(.iload 4, []), (.aload_n 0, []), (.getfield 39, [0, 9, 0, 25]), (.if_icmp .ge 34, [3]), (.aload_n 0, []), (.getfield 18, [0, 2, 3, 18]), (.iload 4, []), (.iaload, []), (.iload_n 1, []), (.if_icmp .ne 17, [2]), (.aload_n 0, []), (.getfield 9, [0, 0, 3, 16]), (.iload 4, []), (.iaload, []), (.iload_n 2, []), (.if_icmp .ne 6, [2]), (.iinc 3 1, [])]),
  (39, 0, [(.iinc 4 1, []), (.goto (-37), [1])]),
  (45, 0, [(.iload_n 3, []), (.ireturn, [0])])]
theorem kX0_grownOf_ok : pm_ck 12 kX0_grownOf = true := by decide +kernel
def kX0_thereOf : List pm_Bl := [
  (0, 1, [(.iconst 0, []), (.istore_n 3, []), (.iconst 0, []), (.istore 4, [])]),
  (5, 2, [(.iload 4, []), (.aload_n 0, []), (.getfield 39, [0, 9, 0, 25]), (.if_icmp .ge 44, [3]), (.aload_n 0, []), (.getfield 18, [0, 2, 3, 18]), (.iload 4, []), (.iaload, []), (.iload_n 1, []), (.if_icmp .ne 27, [2]), (.aload_n 0, []), (.getfield 9, [0, 0, 3, 16]), (.iload 4, []), (.iaload, []), (.iload_n 2, []), (.if_icmp .ne 16, [2]), (.aload_n 0, []), (.getfield 27, [0, 5, 3, 21]), (.iload 4, []), (.iaload, []), (.ifCond .ne 6, [2]), (.iinc 3 1, [])]),
  (49, 0, [(.iinc 4 1, []), (.goto (-47), [1])]),
  (55, 0, [(.iload_n 3, []), (.ireturn, [0])])]
theorem kX0_thereOf_ok : pm_ck 13 kX0_thereOf = true := by decide +kernel
def kX0_there : List pm_Bl := [
  (0, 1, [(.iconst 0, []), (.istore_n 1, []), (.iconst 0, []), (.istore_n 2, [])]),
  (4, 2, [(.iload_n 2, []), (.aload_n 0, []), (.getfield 39, [0, 9, 0, 25]), (.if_icmp .ge 21, [3]), (.aload_n 0, []), (.getfield 27, [0, 5, 3, 21]), (.iload_n 2, []), (.iaload, []), (.ifCond .ne 6, [2]), (.iinc 1 1, [])]),
  (24, 0, [(.iinc 2 1, []), (.goto (-23), [1])]),
  (30, 0, [(.iload_n 1, []), (.ireturn, [0])])]
theorem kX0_there_ok : pm_ck 14 kX0_there = true := by decide +kernel
def kX0_madeFrom : List pm_Bl := [
  (0, 1, [(.iload_n 2, []), (.istore 4, []), (.iload_n 1, []), (.istore 5, []), (.iconst 0, []), (.istore 6, [])]),
  (9, 0, [(.iload 6, []), (.bipush 40, []), (.if_icmp .ge 45, [3]), (.aload_n 0, []), (.iload 5, []), (.invokevirtual 46, [1, 2, 57, 0, 0, 0]), (.ifCond .eq 36, [3]), (.iload 5, []), (.iload_n 3, []), (.if_icmp .ne 6, [2]), (.iload 4, []), (.ireturn, [0])]),
  (34, 0, [(.aload_n 0, []), (.getfield 24, [0, 4, 3, 20]), (.iload 5, []), (.iaload, []), (.istore 4, []), (.aload_n 0, []), (.getfield 18, [0, 2, 3, 18]), (.iload 5, []), (.iaload, []), (.istore 5, []), (.iinc 6 1, []), (.goto (-46), [1])]),
  (58, 0, [(.bipush (-9), []), (.ireturn, [0])])]
theorem kX0_madeFrom_ok : pm_ck 15 kX0_madeFrom = true := by decide +kernel
def kX0_madeOf : List pm_Bl := [
  (0, 1, [(.iconst 0, []), (.istore_n 2, []), (.iconst 0, []), (.istore_n 3, [])]),
  (4, 2, [(.iload_n 3, []), (.aload_n 0, []), (.getfield 39, [0, 9, 0, 25]), (.if_icmp .ge 29, [3]), (.iload_n 3, []), (.iload_n 1, []), (.if_icmp .eq 18, [2]), (.aload_n 0, []), (.iload_n 3, []), (.iconst 0, []), (.iload_n 1, []), (.invokevirtual 50, [15, 4, 74, 0, 0, 0]), (.bipush (-9), []), (.if_icmp .eq 6, [2]), (.iinc 2 1, [])]),
  (32, 0, [(.iinc 3 1, []), (.goto (-31), [1])]),
  (38, 0, [(.iload_n 2, []), (.ireturn, [0])])]
theorem kX0_madeOf_ok : pm_ck 16 kX0_madeOf = true := by decide +kernel
def kX0_depth : List pm_Bl := [
  (0, 1, [(.iconst 0, []), (.istore_n 2, []), (.aload_n 0, []), (.iload_n 1, []), (.invokevirtual 54, [4, 2, 86, 0, 0, 0]), (.istore_n 3, [])]),
  (8, 0, [(.aload_n 0, []), (.iload_n 3, []), (.invokevirtual 46, [1, 2, 57, 0, 0, 0]), (.ifCond .eq 22, [2]), (.iload_n 2, []), (.bipush 40, []), (.if_icmp .ge 16, [2]), (.iinc 2 1, []), (.aload_n 0, []), (.getfield 18, [0, 2, 3, 18]), (.iload_n 3, []), (.iaload, []), (.istore_n 3, []), (.goto (-24), [1])]),
  (35, 0, [(.iload_n 2, []), (.ireturn, [0])])]
theorem kX0_depth_ok : pm_ck 17 kX0_depth = true := by decide +kernel
def kX0_firstAbove : List pm_Bl := [
  (0, 1, [(.iload_n 1, []), (.istore_n 2, []), (.iconst 0, []), (.istore_n 3, [])]),
  (4, 0, [(.iload_n 3, []), (.bipush 40, []), (.if_icmp .ge 27, [2]), (.aload_n 0, []), (.aload_n 0, []), (.iload_n 2, []), (.invokevirtual 54, [4, 2, 86, 0, 0, 0]), (.invokevirtual 46, [1, 2, 57, 0, 0, 0]), (.ifCond .eq 15, [2]), (.aload_n 0, []), (.iload_n 2, []), (.invokevirtual 54, [4, 2, 86, 0, 0, 0]), (.istore_n 2, []), (.iinc 3 1, []), (.goto (-27), [1])]),
  (34, 0, [(.iload_n 2, []), (.ireturn, [0])])]
theorem kX0_firstAbove_ok : pm_ck 18 kX0_firstAbove = true := by decide +kernel
def kX0_fact : List pm_Bl := [
  (0, 0, [(.aload_n 0, []), (.iload_n 1, []), (.invokevirtual 46, [1, 2, 57, 0, 0, 0]), (.ifCond .ne 6, [1]), (.bipush (-9), []), (.ireturn, [0])]),
  (11, 0, [(.iload_n 2, []), (.tableswitch 82 0 5 #[40, 47, 54, 61, 68, 75], [8, 2, 3, 4, 5, 6, 7])]),
  (52, 0, [(.aload_n 0, []), (.getfield 9, [0, 0, 3, 16]), (.iload_n 1, []), (.iaload, []), (.ireturn, [0])]),
  (59, 0, [(.aload_n 0, []), (.getfield 15, [0, 1, 3, 17]), (.iload_n 1, []), (.iaload, []), (.ireturn, [0])]),
  (66, 0, [(.aload_n 0, []), (.getfield 18, [0, 2, 3, 18]), (.iload_n 1, []), (.iaload, []), (.ireturn, [0])]),
  (73, 0, [(.aload_n 0, []), (.getfield 21, [0, 3, 3, 19]), (.iload_n 1, []), (.iaload, []), (.ireturn, [0])]),
  (80, 0, [(.aload_n 0, []), (.getfield 24, [0, 4, 3, 20]), (.iload_n 1, []), (.iaload, []), (.ireturn, [0])]),
  (87, 0, [(.aload_n 0, []), (.getfield 27, [0, 5, 3, 21]), (.iload_n 1, []), (.iaload, []), (.ireturn, [0])]),
  (94, 0, [(.aload_n 0, []), (.iload_n 1, []), (.invokevirtual 58, [11, 2, 71, 0, 0, 0]), (.ireturn, [0])])]
theorem kX0_fact_ok : pm_ck 19 kX0_fact = true := by decide +kernel
def kX0_turnOn : List pm_Bl := [
  (0, 1, [(.aload_n 0, []), (.iload_n 1, []), (.invokevirtual 61, [2, 2, 151, 0, 0, 0]), (.istore_n 3, []), (.iload_n 3, []), (.iconst 1, []), (.if_icmp .eq 8, [1]), (.iload_n 3, []), (.iconst 3, []), (.if_icmp .ne 11, [2])]),
  (16, 0, [(.sipush 999, []), (.iload_n 2, []), (.isub, []), (.goto 4, [3])]),
  (24, 3, [(.iload_n 2, [])]),
  (25, 0, [(.ireturn, [0])])]
theorem kX0_turnOn_ok : pm_ck 20 kX0_turnOn = true := by decide +kernel
def kX0_mix : List pm_Bl := [
  (0, 1, [(.iconst 0, []), (.istore_n 3, [])]),
  (2, 2, [(.iload_n 3, []), (.aload_n 0, []), (.getfield 39, [0, 9, 0, 25]), (.if_icmp .ge 40, [4]), (.iconst 0, []), (.istore 4, [])]),
  (13, 0, [(.iload 4, []), (.bipush 6, []), (.if_icmp .gt 24, [3]), (.ldc2_w 64, [10]), (.lload_n 1, []), (.lmul, []), (.aload_n 0, []), (.iload_n 3, []), (.iload 4, []), (.invokevirtual 66, [19, 3, 218, 0, 0, 0]), (.i2l, []), (.ladd, []), (.lstore_n 1, []), (.iinc 4 1, []), (.goto (-25), [2])]),
  (41, 0, [(.iinc 3 1, []), (.goto (-42), [1])]),
  (47, 0, [(.lload_n 1, []), (.lreturn, [])])]
theorem kX0_mix_ok : pm_ck 21 kX0_mix = true := by decide +kernel
def kX1_init : List pm_Bl := [
  (0, 1, [(.aload_n 0, []), (.invokespecial 3, [9999, 11]), (.aload_n 0, []), (.bipush 9, []), (.newarray .int, [0]), (.putfield 9, [1, 0, 3, 102]), (.aload_n 0, []), (.bipush 9, []), (.newarray .int, [0]), (.putfield 15, [1, 1, 3, 103]), (.aload_n 0, []), (.bipush 9, []), (.newarray .int, [0]), (.putfield 18, [1, 2, 3, 104]), (.aload_n 0, []), (.bipush 9, []), (.newarray .int, [0]), (.putfield 21, [1, 3, 3, 105]), (.aload_n 0, []), (.bipush 9, []), (.newarray .int, [0]), (.putfield 24, [1, 4, 3, 106]), (.aload_n 0, []), (.iconst 3, []), (.newarray .int, [0]), (.putfield 27, [1, 5, 3, 107]), (.aload_n 0, []), (.sipush 512, []), (.newarray .byte, [2]), (.putfield 30, [1, 6, 3, 108]), (.aload_n 0, []), (.iconst 0, []), (.putfield 34, [1, 7, 0, 109]), (.aload_n 0, []), (.iconst 0, []), (.putfield 38, [1, 8, 0, 111]), (.iconst 0, []), (.istore_n 1, [])]),
  (72, 0, [(.iload_n 1, []), (.bipush 9, []), (.if_icmp .ge 17, [2]), (.aload_n 0, []), (.getfield 24, [1, 4, 3, 106]), (.iload_n 1, []), (.bipush (-9), []), (.iastore, []), (.iinc 1 1, []), (.goto (-17), [1])]),
  (92, 0, [(.return_, [])])]
theorem kX1_init_ok : pm_ck 22 kX1_init = true := by decide +kernel
def kX1_has : List pm_Bl := [
  (0, 0, [(.iload_n 1, []), (.ifCond .lt 21, [1]), (.iload_n 1, []), (.aload_n 0, []), (.getfield 34, [1, 7, 0, 109]), (.if_icmp .ge 13, [1]), (.iload_n 1, []), (.bipush 9, []), (.if_icmp .ge 7, [1]), (.iconst 1, []), (.goto 4, [2])]),
  (22, 2, [(.iconst 0, [])]),
  (23, 0, [(.ireturn, [1])])]
theorem kX1_has_ok : pm_ck 23 kX1_has = true := by decide +kernel
def kX1_make : List pm_Bl := [
  (0, 1, [(.aload_n 0, []), (.getfield 34, [1, 7, 0, 109]), (.istore_n 3, []), (.iload_n 3, []), (.ifCond .lt 9, [1]), (.iload_n 3, []), (.bipush 9, []), (.if_icmp .lt 6, [2])]),
  (15, 0, [(.bipush (-2), []), (.ireturn, [0])]),
  (18, 0, [(.aload_n 0, []), (.getfield 9, [1, 0, 3, 102]), (.iload_n 3, []), (.iload_n 1, []), (.iastore, []), (.aload_n 0, []), (.getfield 15, [1, 1, 3, 103]), (.iload_n 3, []), (.iload_n 2, []), (.iastore, []), (.aload_n 0, []), (.iload_n 3, []), (.iconst 1, []), (.iadd, []), (.putfield 34, [1, 7, 0, 109]), (.iload_n 3, []), (.ireturn, [0])])]
theorem kX1_make_ok : pm_ck 24 kX1_make = true := by decide +kernel
def kX1_pressOf : List pm_Bl := [
  (0, 0, [(.aload_n 0, []), (.iload_n 1, []), (.invokevirtual 41, [23, 2, 202, 0, 0, 1]), (.ifCond .eq 12, [1]), (.aload_n 0, []), (.getfield 24, [1, 4, 3, 106]), (.iload_n 1, []), (.iaload, []), (.goto 5, [2])]),
  (17, 2, [(.bipush (-9), [])]),
  (19, 0, [(.ireturn, [0])])]
theorem kX1_pressOf_ok : pm_ck 25 kX1_pressOf = true := by decide +kernel
def kX1_choose : List pm_Bl := [
  (0, 1, [(.aload_n 0, []), (.invokevirtual 45, [27, 1, 192, 0, 0, 1]), (.iconst 0, []), (.istore 4, [])]),
  (7, 0, [(.iload 4, []), (.aload_n 0, []), (.getfield 34, [1, 7, 0, 109]), (.if_icmp .ge 37, [4]), (.aload_n 0, []), (.getfield 21, [1, 3, 3, 105]), (.iload 4, []), (.iload_n 2, []), (.ifCond .le 19, [2]), (.aload_n 0, []), (.getfield 9, [1, 0, 3, 102]), (.iload 4, []), (.iaload, []), (.iload_n 2, []), (.iadd, []), (.iconst 1, []), (.isub, []), (.iload_n 2, []), (.idiv, []), (.goto 4, [3])]),
  (42, 3, [(.iconst 0, [])]),
  (43, 0, [(.iastore, []), (.iinc 4 1, []), (.goto (-40), [1])]),
  (50, 5, [(.aload_n 0, []), (.iload_n 3, []), (.invokevirtual 48, [29, 2, 193, 0, 0, 1]), (.aload_n 0, []), (.iconst 0, []), (.putfield 38, [1, 8, 0, 111]), (.iconst 1, []), (.istore 4, [])]),
  (63, 6, [(.iload 4, []), (.iconst 1, []), (.aload_n 0, []), (.getfield 34, [1, 7, 0, 109]), (.ishl, []), (.if_icmp .ge 51, [7]), (.iload 4, []), (.sipush 512, []), (.if_icmp .ge 43, [7]), (.aload_n 0, []), (.getfield 30, [1, 6, 3, 108]), (.iload 4, []), (.baload, []), (.iload_n 1, []), (.if_icmp .gt 26, [6]), (.aload_n 0, []), (.iload 4, []), (.invokevirtual 52, [28, 2, 196, 0, 0, 1]), (.aload_n 0, []), (.aload_n 0, []), (.getfield 38, [1, 8, 0, 111]), (.invokevirtual 52, [28, 2, 196, 0, 0, 1]), (.if_icmp .le 9, [6]), (.aload_n 0, []), (.iload 4, []), (.putfield 38, [1, 8, 0, 111])]),
  (116, 0, [(.iinc 4 1, []), (.goto (-56), [5])]),
  (122, 8, [(.iconst 0, []), (.istore 4, [])]),
  (125, 0, [(.iload 4, []), (.bipush 9, []), (.if_icmp .ge 18, [9]), (.aload_n 0, []), (.getfield 24, [1, 4, 3, 106]), (.iload 4, []), (.bipush (-9), []), (.iastore, []), (.iinc 4 1, []), (.goto (-19), [8])]),
  (147, 10, [(.iconst 0, []), (.istore 4, [])]),
  (150, 0, [(.iload 4, []), (.iconst 3, []), (.if_icmp .ge 17, [11]), (.aload_n 0, []), (.getfield 27, [1, 5, 3, 107]), (.iload 4, []), (.iconst 0, []), (.iastore, []), (.iinc 4 1, []), (.goto (-17), [10])]),
  (170, 0, [(.aload_n 0, []), (.iconst 0, []), (.iload_n 1, []), (.invokevirtual 56, [32, 3, 197, 0, 0, 1]), (.pop, []), (.return_, [])])]
theorem kX1_choose_ok : pm_ck 26 kX1_choose = true := by decide +kernel
def kX1_sortByDay : List pm_Bl := [
  (0, 1, [(.iconst 0, []), (.istore_n 1, [])]),
  (2, 2, [(.iload_n 1, []), (.aload_n 0, []), (.getfield 34, [1, 7, 0, 109]), (.if_icmp .ge 64, [4]), (.iload_n 1, []), (.istore_n 2, [])]),
  (12, 0, [(.iload_n 2, []), (.ifCond .le 45, [3]), (.aload_n 0, []), (.getfield 15, [1, 1, 3, 103]), (.aload_n 0, []), (.getfield 18, [1, 2, 3, 104]), (.iload_n 2, []), (.iconst 1, []), (.isub, []), (.iaload, []), (.iaload, []), (.aload_n 0, []), (.getfield 15, [1, 1, 3, 103]), (.iload_n 1, []), (.iaload, []), (.if_icmp .le 23, [3]), (.aload_n 0, []), (.getfield 18, [1, 2, 3, 104]), (.iload_n 2, []), (.aload_n 0, []), (.getfield 18, [1, 2, 3, 104]), (.iload_n 2, []), (.iconst 1, []), (.isub, []), (.iaload, []), (.iastore, []), (.iinc 2 (-1), []), (.goto (-43), [2])]),
  (58, 0, [(.aload_n 0, []), (.getfield 18, [1, 2, 3, 104]), (.iload_n 2, []), (.iload_n 1, []), (.iastore, []), (.iinc 1 1, []), (.goto (-66), [1])]),
  (71, 0, [(.return_, [])])]
theorem kX1_sortByDay_ok : pm_ck 27 kX1_sortByDay = true := by decide +kernel
def kX1_copiesIn : List pm_Bl := [
  (0, 1, [(.iconst 0, []), (.istore_n 2, []), (.iconst 0, []), (.istore_n 3, [])]),
  (4, 2, [(.iload_n 3, []), (.aload_n 0, []), (.getfield 34, [1, 7, 0, 109]), (.if_icmp .ge 26, [3]), (.iload_n 1, []), (.iload_n 3, []), (.ishr, []), (.iconst 1, []), (.iand, []), (.ifCond .eq 12, [2]), (.iload_n 2, []), (.aload_n 0, []), (.getfield 9, [1, 0, 3, 102]), (.iload_n 3, []), (.iaload, []), (.iadd, []), (.istore_n 2, [])]),
  (29, 0, [(.iinc 3 1, []), (.goto (-28), [1])]),
  (35, 0, [(.iload_n 2, []), (.ireturn, [0])])]
theorem kX1_copiesIn_ok : pm_ck 28 kX1_copiesIn = true := by decide +kernel
def kX1_countPresses : List pm_Bl := [
  (0, 1, [(.iconst 1, []), (.istore_n 2, [])]),
  (2, 0, [(.iload_n 2, []), (.iconst 1, []), (.aload_n 0, []), (.getfield 34, [1, 7, 0, 109]), (.ishl, []), (.if_icmp .ge 41, [4]), (.iload_n 2, []), (.sipush 512, []), (.if_icmp .ge 34, [4]), (.aload_n 0, []), (.getfield 30, [1, 6, 3, 108]), (.iload_n 2, []), (.aload_n 0, []), (.iload_n 2, []), (.iload_n 1, []), (.invokevirtual 60, [30, 3, 194, 0, 0, 1]), (.ifCond .eq 7, [2]), (.iconst 1, []), (.goto 8, [3])]),
  (37, 3, [(.aload_n 0, []), (.iload_n 2, []), (.invokevirtual 63, [31, 2, 195, 0, 0, 1])]),
  (42, 0, [(.i2b, []), (.bastore, []), (.iinc 2 1, []), (.goto (-45), [1])]),
  (50, 0, [(.return_, [])])]
theorem kX1_countPresses_ok : pm_ck 29 kX1_countPresses = true := by decide +kernel
def kX1_onePressMeets : List pm_Bl := [
  (0, 1, [(.iload_n 2, []), (.istore_n 3, []), (.iconst 0, []), (.istore 4, [])]),
  (5, 0, [(.iload 4, []), (.aload_n 0, []), (.getfield 34, [1, 7, 0, 109]), (.if_icmp .ge 53, [4]), (.aload_n 0, []), (.getfield 18, [1, 2, 3, 104]), (.iload 4, []), (.iaload, []), (.istore 5, []), (.iload_n 1, []), (.iload 5, []), (.ishr, []), (.iconst 1, []), (.iand, []), (.ifCond .ne 6, [2]), (.goto 26, [3])]),
  (35, 0, [(.iload_n 3, []), (.aload_n 0, []), (.getfield 21, [1, 3, 3, 105]), (.iload 5, []), (.iaload, []), (.iadd, []), (.istore_n 3, []), (.iload_n 3, []), (.aload_n 0, []), (.getfield 15, [1, 1, 3, 103]), (.iload 5, []), (.iaload, []), (.if_icmp .le 5, [3]), (.iconst 0, []), (.ireturn, [1])]),
  (58, 0, [(.iinc 4 1, []), (.goto (-56), [1])]),
  (64, 0, [(.iconst 1, []), (.ireturn, [1])])]
theorem kX1_onePressMeets_ok : pm_ck 30 kX1_onePressMeets = true := by decide +kernel
def kX1_fewestPresses : List pm_Bl := [
  (0, 1, [(.iconst 4, []), (.istore_n 2, []), (.iload_n 1, []), (.iload_n 1, []), (.ineg, []), (.iand, []), (.istore_n 3, []), (.iload_n 1, []), (.iconst 1, []), (.isub, []), (.iload_n 1, []), (.iand, []), (.istore 4, [])]),
  (14, 2, [(.iload 4, []), (.ifCond .le 48, [3]), (.iload 4, []), (.iload_n 3, []), (.iand, []), (.ifCond .eq 30, [2]), (.aload_n 0, []), (.getfield 30, [1, 6, 3, 108]), (.iload 4, []), (.baload, []), (.iconst 1, []), (.if_icmp .ne 19, [2]), (.iload_n 2, []), (.iconst 1, []), (.aload_n 0, []), (.getfield 30, [1, 6, 3, 108]), (.iload_n 1, []), (.iload 4, []), (.ixor, []), (.baload, []), (.iadd, []), (.invokestatic 66, [9993, 5]), (.istore_n 2, [])]),
  (53, 0, [(.iload 4, []), (.iconst 1, []), (.isub, []), (.iload_n 1, []), (.iand, []), (.istore 4, []), (.goto (-47), [1])]),
  (64, 0, [(.iload_n 2, []), (.ireturn, [0])])]
theorem kX1_fewestPresses_ok : pm_ck 31 kX1_fewestPresses = true := by decide +kernel
def kX1_assign : List pm_Bl := [
  (0, 1, [(.iload_n 1, []), (.aload_n 0, []), (.getfield 34, [1, 7, 0, 109]), (.if_icmp .ge 9, [1]), (.iload_n 1, []), (.bipush 9, []), (.if_icmp .lt 5, [2])]),
  (14, 0, [(.iconst 1, []), (.ireturn, [1])]),
  (16, 0, [(.aload_n 0, []), (.getfield 38, [1, 8, 0, 111]), (.iload_n 1, []), (.ishr, []), (.iconst 1, []), (.iand, []), (.ifCond .ne 12, [3]), (.aload_n 0, []), (.iload_n 1, []), (.iconst 1, []), (.iadd, []), (.iload_n 2, []), (.invokevirtual 56, [32, 3, 197, 0, 0, 1]), (.ireturn, [1])]),
  (36, 4, [(.iconst 0, []), (.istore_n 3, [])]),
  (38, 0, [(.iload_n 3, []), (.iload_n 2, []), (.if_icmp .ge 80, [8]), (.iload_n 3, []), (.iconst 3, []), (.if_icmp .ge 75, [8]), (.aload_n 0, []), (.getfield 27, [1, 5, 3, 107]), (.iload_n 3, []), (.iaload, []), (.istore 4, []), (.aload_n 0, []), (.getfield 30, [1, 6, 3, 108]), (.iload 4, []), (.iconst 1, []), (.iload_n 1, []), (.ishl, []), (.ior, []), (.baload, []), (.iconst 1, []), (.if_icmp .eq 6, [5]), (.goto 43, [7])]),
  (74, 0, [(.aload_n 0, []), (.getfield 27, [1, 5, 3, 107]), (.iload_n 3, []), (.iload 4, []), (.iconst 1, []), (.iload_n 1, []), (.ishl, []), (.ior, []), (.iastore, []), (.aload_n 0, []), (.getfield 24, [1, 4, 3, 106]), (.iload_n 1, []), (.iload_n 3, []), (.iastore, []), (.aload_n 0, []), (.iload_n 1, []), (.iconst 1, []), (.iadd, []), (.iload_n 2, []), (.invokevirtual 56, [32, 3, 197, 0, 0, 1]), (.ifCond .eq 5, [6]), (.iconst 1, []), (.ireturn, [1])]),
  (106, 7, [(.aload_n 0, []), (.getfield 27, [1, 5, 3, 107]), (.iload_n 3, []), (.iload 4, []), (.iastore, [])]),
  (114, 0, [(.iinc 3 1, []), (.goto (-79), [4])]),
  (120, 0, [(.iconst 0, []), (.ireturn, [1])])]
theorem kX1_assign_ok : pm_ck 32 kX1_assign = true := by decide +kernel
def kX1_mix : List pm_Bl := [
  (0, 1, [(.iconst 0, []), (.istore_n 3, [])]),
  (2, 0, [(.iload_n 3, []), (.aload_n 0, []), (.getfield 34, [1, 7, 0, 109]), (.if_icmp .ge 37, [2]), (.ldc2_w 72, [15]), (.lload_n 1, []), (.lmul, []), (.aload_n 0, []), (.getfield 9, [1, 0, 3, 102]), (.iload_n 3, []), (.iaload, []), (.i2l, []), (.ladd, []), (.lstore_n 1, []), (.ldc2_w 72, [15]), (.lload_n 1, []), (.lmul, []), (.aload_n 0, []), (.getfield 15, [1, 1, 3, 103]), (.iload_n 3, []), (.iaload, []), (.i2l, []), (.ladd, []), (.lstore_n 1, []), (.iinc 3 1, []), (.goto (-39), [1])]),
  (44, 0, [(.lload_n 1, []), (.lreturn, [])])]
theorem kX1_mix_ok : pm_ck 33 kX1_mix = true := by decide +kernel
def kX2_init : List pm_Bl := [
  (0, 0, [(.aload_n 0, []), (.invokespecial 3, [9999, 9]), (.aload_n 0, []), (.sipush 160, []), (.newarray .int, [0]), (.putfield 9, [2, 0, 3, 62]), (.aload_n 0, []), (.sipush 160, []), (.newarray .int, [0]), (.putfield 15, [2, 1, 3, 64]), (.aload_n 0, []), (.sipush 160, []), (.newarray .int, [0]), (.putfield 18, [2, 2, 3, 66]), (.aload_n 0, []), (.sipush 160, []), (.newarray .int, [0]), (.putfield 21, [2, 3, 3, 68]), (.aload_n 0, []), (.sipush 160, []), (.newarray .long, [1]), (.putfield 24, [2, 4, 3, 70]), (.aload_n 0, []), (.bipush 41, []), (.newarray .int, [0]), (.putfield 28, [2, 5, 3, 72]), (.aload_n 0, []), (.iconst 0, []), (.putfield 31, [2, 6, 0, 73]), (.return_, [])])]
theorem kX2_init_ok : pm_ck 34 kX2_init = true := by decide +kernel
def kX2_gather : List pm_Bl := [
  (0, 1, [(.aload_n 0, []), (.iconst 0, []), (.putfield 31, [2, 6, 0, 73]), (.iconst 0, []), (.istore_n 3, [])]),
  (7, 0, [(.iload_n 3, []), (.aload_n 1, []), (.getfield 35, [0, 9, 0, 26]), (.if_icmp .ge 38, [2]), (.aload_n 0, []), (.getfield 28, [2, 5, 3, 72]), (.iload_n 3, []), (.aload_n 0, []), (.getfield 31, [2, 6, 0, 73]), (.iastore, []), (.aload_n 0, []), (.aload_n 1, []), (.aload_n 2, []), (.iload_n 3, []), (.invokevirtual 38, [36, 4, 124, 0, 0, 2]), (.aload_n 0, []), (.getfield 28, [2, 5, 3, 72]), (.iload_n 3, []), (.iconst 1, []), (.iadd, []), (.aload_n 0, []), (.getfield 31, [2, 6, 0, 73]), (.iastore, []), (.iinc 3 1, []), (.goto (-40), [1])]),
  (50, 3, [(.iconst 0, []), (.istore_n 3, [])]),
  (52, 4, [(.iload_n 3, []), (.aload_n 2, []), (.getfield 42, [6, 7, 0, 43]), (.if_icmp .ge 33, [6]), (.iconst 0, []), (.istore 4, [])]),
  (63, 0, [(.iload 4, []), (.iconst 2, []), (.if_icmp .ge 18, [5]), (.aload_n 0, []), (.aload_n 1, []), (.aload_n 2, []), (.iload_n 3, []), (.iload 4, []), (.invokevirtual 45, [39, 5, 131, 0, 0, 2]), (.iinc 4 1, []), (.goto (-18), [4])]),
  (84, 0, [(.iinc 3 1, []), (.goto (-35), [3])]),
  (90, 7, [(.iconst 0, []), (.istore_n 3, [])]),
  (92, 8, [(.iload_n 3, []), (.aload_n 2, []), (.getfield 42, [6, 7, 0, 43]), (.if_icmp .ge 38, [10]), (.iconst 0, []), (.istore 4, [])]),
  (103, 0, [(.iload 4, []), (.iconst 2, []), (.if_icmp .ge 23, [9]), (.aload_n 0, []), (.bipush (-9), []), (.aload_n 2, []), (.iload_n 3, []), (.invokevirtual 49, [76, 2, 130, 0, 0, 6]), (.iload_n 3, []), (.iload 4, []), (.invokevirtual 53, [38, 5, 128, 0, 0, 2]), (.iinc 4 1, []), (.goto (-23), [8])]),
  (129, 0, [(.iinc 3 1, []), (.goto (-40), [7])]),
  (135, 0, [(.return_, [])])]
theorem kX2_gather_ok : pm_ck 35 kX2_gather = true := by decide +kernel
def kX2_gatherDays : List pm_Bl := [
  (0, 1, [(.iconst 0, []), (.istore 4, [])]),
  (3, 2, [(.iload 4, []), (.aload_n 1, []), (.getfield 35, [0, 9, 0, 26]), (.if_icmp .ge 30, [3]), (.aload_n 1, []), (.iload 4, []), (.invokevirtual 57, [4, 2, 125, 0, 0, 0]), (.iload_n 3, []), (.if_icmp .ne 14, [2]), (.aload_n 0, []), (.iload_n 3, []), (.aload_n 1, []), (.iload 4, []), (.invokevirtual 60, [5, 2, 126, 0, 0, 0]), (.invokevirtual 63, [37, 3, 127, 0, 0, 2])]),
  (33, 0, [(.iinc 4 1, []), (.goto (-33), [1])]),
  (39, 4, [(.iconst 0, []), (.istore 4, [])]),
  (42, 5, [(.iload 4, []), (.aload_n 2, []), (.getfield 42, [6, 7, 0, 43]), (.if_icmp .ge 30, [6]), (.aload_n 2, []), (.iload 4, []), (.iload_n 3, []), (.invokevirtual 67, [78, 3, 129, 0, 0, 6]), (.ifCond .eq 14, [5]), (.aload_n 0, []), (.iload_n 3, []), (.aload_n 2, []), (.iload 4, []), (.invokevirtual 49, [76, 2, 130, 0, 0, 6]), (.invokevirtual 63, [37, 3, 127, 0, 0, 2])]),
  (72, 0, [(.iinc 4 1, []), (.goto (-33), [4])]),
  (78, 0, [(.return_, [])])]
theorem kX2_gatherDays_ok : pm_ck 36 kX2_gatherDays = true := by decide +kernel
def kX2_addDay : List pm_Bl := [
  (0, 1, [(.aload_n 0, []), (.getfield 31, [2, 6, 0, 73]), (.istore_n 3, []), (.aload_n 0, []), (.getfield 28, [2, 5, 3, 72]), (.iload_n 1, []), (.iaload, []), (.istore 4, [])]),
  (13, 0, [(.iload 4, []), (.aload_n 0, []), (.getfield 31, [2, 6, 0, 73]), (.if_icmp .ge 21, [3]), (.aload_n 0, []), (.getfield 15, [2, 1, 3, 64]), (.iload 4, []), (.iaload, []), (.iload_n 2, []), (.if_icmp .ne 4, [2]), (.return_, [])]),
  (34, 0, [(.iinc 4 1, []), (.goto (-24), [1])]),
  (40, 4, [(.aload_n 0, []), (.iload_n 1, []), (.iload_n 2, []), (.bipush (-9), []), (.bipush (-9), []), (.invokevirtual 53, [38, 5, 128, 0, 0, 2])]),
  (50, 0, [(.iload_n 3, []), (.aload_n 0, []), (.getfield 28, [2, 5, 3, 72]), (.iload_n 1, []), (.iaload, []), (.if_icmp .le 51, [5]), (.iload_n 3, []), (.sipush 160, []), (.if_icmp .ge 44, [5]), (.aload_n 0, []), (.getfield 15, [2, 1, 3, 64]), (.iload_n 3, []), (.iconst 1, []), (.isub, []), (.iaload, []), (.iload_n 2, []), (.if_icmp .ge 32, [5]), (.aload_n 0, []), (.getfield 15, [2, 1, 3, 64]), (.iload_n 3, []), (.aload_n 0, []), (.getfield 15, [2, 1, 3, 64]), (.iload_n 3, []), (.iconst 1, []), (.isub, []), (.iaload, []), (.iastore, []), (.aload_n 0, []), (.getfield 15, [2, 1, 3, 64]), (.iload_n 3, []), (.iconst 1, []), (.isub, []), (.iload_n 2, []), (.iastore, []), (.iinc 3 (-1), []), (.goto (-55), [4])]),
  (108, 0, [(.return_, [])])]
theorem kX2_addDay_ok : pm_ck 37 kX2_addDay = true := by decide +kernel
def kX2_add : List pm_Bl := [
  (0, 1, [(.aload_n 0, []), (.getfield 31, [2, 6, 0, 73]), (.ifCond .lt 13, [1]), (.aload_n 0, []), (.getfield 31, [2, 6, 0, 73]), (.sipush 160, []), (.if_icmp .lt 4, [2])]),
  (17, 0, [(.return_, [])]),
  (18, 0, [(.aload_n 0, []), (.getfield 9, [2, 0, 3, 62]), (.aload_n 0, []), (.getfield 31, [2, 6, 0, 73]), (.iload_n 1, []), (.iastore, []), (.aload_n 0, []), (.getfield 15, [2, 1, 3, 64]), (.aload_n 0, []), (.getfield 31, [2, 6, 0, 73]), (.iload_n 2, []), (.iastore, []), (.aload_n 0, []), (.getfield 18, [2, 2, 3, 66]), (.aload_n 0, []), (.getfield 31, [2, 6, 0, 73]), (.iload_n 3, []), (.iastore, []), (.aload_n 0, []), (.getfield 21, [2, 3, 3, 68]), (.aload_n 0, []), (.getfield 31, [2, 6, 0, 73]), (.iload 4, []), (.iastore, []), (.aload_n 0, []), (.getfield 24, [2, 4, 3, 70]), (.aload_n 0, []), (.getfield 31, [2, 6, 0, 73]), (.iload_n 3, []), (.bipush (-9), []), (.if_icmp .ne 7, [3]), (.lconst 0, []), (.goto 11, [4])]),
  (77, 4, [(.lconst 1, []), (.iconst 2, []), (.iload_n 3, []), (.imul, []), (.iload 4, []), (.iadd, []), (.lshl, [])]),
  (85, 0, [(.lastore, []), (.aload_n 0, []), (.dup, []), (.getfield 31, [2, 6, 0, 73]), (.iconst 1, []), (.iadd, []), (.putfield 31, [2, 6, 0, 73]), (.return_, [])])]
theorem kX2_add_ok : pm_ck 38 kX2_add = true := by decide +kernel
def kX2_coverMetals : List pm_Bl := [
  (0, 1, [(.aload_n 2, []), (.iload_n 3, []), (.invokevirtual 49, [76, 2, 130, 0, 0, 6]), (.istore 5, []), (.aload_n 2, []), (.iload_n 3, []), (.iload 4, []), (.invokevirtual 71, [77, 3, 132, 0, 0, 6]), (.istore 6, []), (.iconst 0, []), (.istore 7, [])]),
  (19, 2, [(.iload 7, []), (.bipush 40, []), (.if_icmp .ge 93, [5]), (.aload_n 1, []), (.iload 6, []), (.invokevirtual 75, [1, 2, 133, 0, 0, 0]), (.ifCond .eq 84, [5]), (.aload_n 0, []), (.getfield 28, [2, 5, 3, 72]), (.iload 6, []), (.iaload, []), (.istore 8, [])]),
  (44, 3, [(.iload 8, []), (.aload_n 0, []), (.getfield 28, [2, 5, 3, 72]), (.iload 6, []), (.iconst 1, []), (.iadd, []), (.iaload, []), (.if_icmp .ge 39, [4]), (.aload_n 0, []), (.getfield 15, [2, 1, 3, 64]), (.iload 8, []), (.iaload, []), (.iload 5, []), (.if_icmp .gt 21, [3]), (.aload_n 0, []), (.getfield 24, [2, 4, 3, 70]), (.iload 8, []), (.dup2, []), (.laload, []), (.lconst 1, []), (.iconst 2, []), (.iload_n 3, []), (.imul, []), (.iload 4, []), (.iadd, []), (.lshl, []), (.lor, []), (.lastore, [])]),
  (88, 0, [(.iinc 8 1, []), (.goto (-47), [2])]),
  (94, 0, [(.aload_n 1, []), (.iload 6, []), (.invokevirtual 60, [5, 2, 126, 0, 0, 0]), (.istore 5, []), (.aload_n 1, []), (.iload 6, []), (.invokevirtual 57, [4, 2, 125, 0, 0, 0]), (.istore 6, []), (.iinc 7 1, []), (.goto (-94), [1])]),
  (116, 0, [(.return_, [])])]
theorem kX2_coverMetals_ok : pm_ck 39 kX2_coverMetals = true := by decide +kernel
def kX3_init : List pm_Bl := [
  (0, 1, [(.aload_n 0, []), (.invokespecial 3, [9999, 4]), (.aload_n 0, []), (.bipush 12, []), (.newarray .int, [0]), (.putfield 9, [3, 0, 3, 30]), (.aload_n 0, []), (.bipush 6, []), (.newarray .int, [0]), (.putfield 15, [3, 1, 3, 31]), (.aload_n 0, []), (.bipush 6, []), (.newarray .int, [0]), (.putfield 18, [3, 2, 3, 33]), (.iconst 0, []), (.istore_n 1, [])]),
  (30, 0, [(.iload_n 1, []), (.aload_n 0, []), (.getfield 9, [3, 0, 3, 30]), (.arraylength, []), (.if_icmp .ge 17, [2]), (.aload_n 0, []), (.getfield 9, [3, 0, 3, 30]), (.iload_n 1, []), (.bipush (-9), []), (.iastore, []), (.iinc 1 1, []), (.goto (-20), [1])]),
  (53, 0, [(.return_, [])])]
theorem kX3_init_ok : pm_ck 40 kX3_init = true := by decide +kernel
def kX3_stamper : List pm_Bl := [
  (0, 1, [(.iload_n 1, []), (.bipush 6, []), (.invokestatic 21, [184, 2, 91]), (.ifCond .eq 11, [1]), (.iload_n 2, []), (.iconst 2, []), (.invokestatic 21, [184, 2, 91]), (.ifCond .ne 6, [2])]),
  (17, 0, [(.bipush (-9), []), (.ireturn, [0])]),
  (20, 0, [(.aload_n 0, []), (.getfield 9, [3, 0, 3, 30]), (.iload_n 1, []), (.iconst 2, []), (.imul, []), (.iload_n 2, []), (.iadd, []), (.iaload, []), (.ireturn, [0])])]
theorem kX3_stamper_ok : pm_ck 41 kX3_stamper = true := by decide +kernel
def kX3_empty : List pm_Bl := [
  (0, 0, [(.aload_n 0, []), (.iload_n 1, []), (.iconst 0, []), (.invokevirtual 25, [41, 3, 90, 0, 0, 3]), (.bipush (-9), []), (.if_icmp .ne 7, [1]), (.iconst 1, []), (.goto 4, [2])]),
  (15, 2, [(.iconst 0, [])]),
  (16, 0, [(.ireturn, [1])])]
theorem kX3_empty_ok : pm_ck 42 kX3_empty = true := by decide +kernel
def kX3_hold : List pm_Bl := [
  (0, 1, [(.iconst 0, []), (.istore_n 2, [])]),
  (2, 0, [(.iload_n 2, []), (.aload_n 0, []), (.getfield 9, [3, 0, 3, 30]), (.arraylength, []), (.if_icmp .ge 21, [3]), (.aload_n 0, []), (.getfield 9, [3, 0, 3, 30]), (.iload_n 2, []), (.iaload, []), (.iload_n 1, []), (.if_icmp .ne 5, [2]), (.iconst 1, []), (.ireturn, [1])]),
  (23, 0, [(.iinc 2 1, []), (.goto (-24), [1])]),
  (29, 0, [(.iconst 0, []), (.ireturn, [1])])]
theorem kX3_hold_ok : pm_ck 43 kX3_hold = true := by decide +kernel
def kX3_load : List pm_Bl := [
  (0, 0, [(.iload_n 1, []), (.bipush 6, []), (.invokestatic 21, [184, 2, 91]), (.ifCond .ne 4, [1]), (.return_, [])]),
  (10, 0, [(.aload_n 0, []), (.getfield 9, [3, 0, 3, 30]), (.iload_n 1, []), (.iconst 2, []), (.imul, []), (.iload_n 2, []), (.iastore, []), (.aload_n 0, []), (.getfield 9, [3, 0, 3, 30]), (.iload_n 1, []), (.iconst 2, []), (.imul, []), (.iconst 1, []), (.iadd, []), (.iload_n 3, []), (.iastore, []), (.return_, [])])]
theorem kX3_load_ok : pm_ck 44 kX3_load = true := by decide +kernel
def kX3_shift : List pm_Bl := [
  (0, 0, [(.iload_n 1, []), (.bipush 6, []), (.invokestatic 21, [184, 2, 91]), (.ifCond .ne 4, [1]), (.return_, [])]),
  (10, 0, [(.aload_n 0, []), (.getfield 15, [3, 1, 3, 31]), (.iload_n 1, []), (.iload_n 2, []), (.iastore, []), (.aload_n 0, []), (.getfield 18, [3, 2, 3, 33]), (.iload_n 1, []), (.iload_n 3, []), (.iastore, []), (.return_, [])])]
theorem kX3_shift_ok : pm_ck 45 kX3_shift = true := by decide +kernel
def kX3_mix : List pm_Bl := [
  (0, 1, [(.iconst 0, []), (.istore_n 3, [])]),
  (2, 0, [(.iload_n 3, []), (.bipush 6, []), (.if_icmp .ge 65, [2]), (.ldc2_w 29, [11]), (.lload_n 1, []), (.lmul, []), (.aload_n 0, []), (.iload_n 3, []), (.iconst 0, []), (.invokevirtual 25, [41, 3, 90, 0, 0, 3]), (.i2l, []), (.ladd, []), (.lstore_n 1, []), (.ldc2_w 29, [11]), (.lload_n 1, []), (.lmul, []), (.aload_n 0, []), (.iload_n 3, []), (.iconst 1, []), (.invokevirtual 25, [41, 3, 90, 0, 0, 3]), (.i2l, []), (.ladd, []), (.lstore_n 1, []), (.ldc2_w 29, [11]), (.lload_n 1, []), (.lmul, []), (.aload_n 0, []), (.getfield 15, [3, 1, 3, 31]), (.iload_n 3, []), (.iaload, []), (.i2l, []), (.ladd, []), (.lstore_n 1, []), (.ldc2_w 29, [11]), (.lload_n 1, []), (.lmul, []), (.aload_n 0, []), (.getfield 18, [3, 2, 3, 33]), (.iload_n 3, []), (.iaload, []), (.i2l, []), (.ladd, []), (.lstore_n 1, []), (.iinc 3 1, []), (.goto (-65), [1])]),
  (70, 0, [(.lload_n 1, []), (.lreturn, [])])]
theorem kX3_mix_ok : pm_ck 46 kX3_mix = true := by decide +kernel
def kX4_init : List pm_Bl := [
  (0, 0, [(.aload_n 0, []), (.invokespecial 3, [9999, 7]), (.aload_n 0, []), (.bipush 60, []), (.newarray .int, [0]), (.putfield 9, [4, 0, 3, 55]), (.aload_n 0, []), (.bipush 60, []), (.newarray .int, [0]), (.putfield 15, [4, 1, 3, 56]), (.aload_n 0, []), (.bipush 60, []), (.newarray .int, [0]), (.putfield 18, [4, 2, 3, 57]), (.aload_n 0, []), (.bipush 60, []), (.newarray .boolean, [3]), (.putfield 21, [4, 3, 3, 58]), (.aload_n 0, []), (.iconst 0, []), (.putfield 25, [4, 4, 0, 59]), (.return_, [])])]
theorem kX4_init_ok : pm_ck 47 kX4_init = true := by decide +kernel
def kX4_make : List pm_Bl := [
  (0, 1, [(.aload_n 0, []), (.getfield 25, [4, 4, 0, 59]), (.istore 5, []), (.iload 5, []), (.ifCond .lt 10, [1]), (.iload 5, []), (.bipush 60, []), (.if_icmp .lt 6, [2])]),
  (18, 0, [(.bipush (-2), []), (.ireturn, [0])]),
  (21, 0, [(.aload_n 0, []), (.getfield 9, [4, 0, 3, 55]), (.iload 5, []), (.iload_n 1, []), (.iastore, []), (.aload_n 0, []), (.getfield 15, [4, 1, 3, 56]), (.iload 5, []), (.iload_n 2, []), (.iastore, []), (.aload_n 0, []), (.getfield 18, [4, 2, 3, 57]), (.iload 5, []), (.iload_n 3, []), (.iastore, []), (.aload_n 0, []), (.getfield 21, [4, 3, 3, 58]), (.iload 5, []), (.iload 4, []), (.bastore, []), (.aload_n 0, []), (.iload 5, []), (.iconst 1, []), (.iadd, []), (.putfield 25, [4, 4, 0, 59]), (.aload_n 0, []), (.getfield 25, [4, 4, 0, 59]), (.ireturn, [0])])]
theorem kX4_make_ok : pm_ck 48 kX4_make = true := by decide +kernel
def kX4_faceBit : List pm_Bl := [
  (0, 0, [(.iload_n 1, []), (.bipush 60, []), (.invokestatic 29, [184, 2, 137]), (.ifCond .eq 23, [1]), (.lconst 1, []), (.iconst 2, []), (.aload_n 0, []), (.getfield 9, [4, 0, 3, 55]), (.iload_n 1, []), (.iaload, []), (.imul, []), (.aload_n 0, []), (.getfield 15, [4, 1, 3, 56]), (.iload_n 1, []), (.iaload, []), (.iadd, []), (.lshl, []), (.goto 4, [2])]),
  (29, 2, [(.lconst 0, [])]),
  (30, 0, [(.lreturn, [])])]
theorem kX4_faceBit_ok : pm_ck 49 kX4_faceBit = true := by decide +kernel
def kX4_tells : List pm_Bl := [
  (0, 0, [(.iload_n 1, []), (.aload_n 0, []), (.getfield 25, [4, 4, 0, 59]), (.invokestatic 29, [184, 2, 137]), (.ifCond .eq 27, [1]), (.aload_n 0, []), (.getfield 18, [4, 2, 3, 57]), (.iload_n 1, []), (.iaload, []), (.iload_n 2, []), (.if_icmp .ne 17, [1]), (.aload_n 0, []), (.getfield 21, [4, 3, 3, 58]), (.iload_n 1, []), (.baload, []), (.iload_n 3, []), (.if_icmp .ne 7, [1]), (.iconst 1, []), (.goto 4, [2])]),
  (35, 2, [(.iconst 0, [])]),
  (36, 0, [(.ireturn, [1])])]
theorem kX4_tells_ok : pm_ck 50 kX4_tells = true := by decide +kernel
def kX4_faces : List pm_Bl := [
  (0, 1, [(.lconst 0, []), (.lstore_n 3, []), (.iconst 0, []), (.istore 5, [])]),
  (5, 2, [(.iload 5, []), (.aload_n 0, []), (.getfield 25, [4, 4, 0, 59]), (.if_icmp .ge 29, [3]), (.aload_n 0, []), (.iload 5, []), (.iload_n 1, []), (.iload_n 2, []), (.invokevirtual 33, [50, 4, 136, 0, 0, 4]), (.ifCond .eq 12, [2]), (.lload_n 3, []), (.aload_n 0, []), (.iload 5, []), (.invokevirtual 37, [49, 2, 138, 0, 0, 4]), (.lor, []), (.lstore_n 3, [])]),
  (34, 0, [(.iinc 5 1, []), (.goto (-32), [1])]),
  (40, 0, [(.lload_n 3, []), (.lreturn, [])])]
theorem kX4_faces_ok : pm_ck 51 kX4_faces = true := by decide +kernel
def kX4_mix : List pm_Bl := [
  (0, 1, [(.iconst 0, []), (.istore_n 3, [])]),
  (2, 0, [(.iload_n 3, []), (.aload_n 0, []), (.getfield 25, [4, 4, 0, 59]), (.if_icmp .ge 73, [4]), (.ldc2_w 41, [13]), (.lload_n 1, []), (.lmul, []), (.aload_n 0, []), (.getfield 9, [4, 0, 3, 55]), (.iload_n 3, []), (.iaload, []), (.i2l, []), (.ladd, []), (.lstore_n 1, []), (.ldc2_w 41, [13]), (.lload_n 1, []), (.lmul, []), (.aload_n 0, []), (.getfield 15, [4, 1, 3, 56]), (.iload_n 3, []), (.iaload, []), (.i2l, []), (.ladd, []), (.lstore_n 1, []), (.ldc2_w 41, [13]), (.lload_n 1, []), (.lmul, []), (.aload_n 0, []), (.getfield 18, [4, 2, 3, 57]), (.iload_n 3, []), (.iaload, []), (.i2l, []), (.ladd, []), (.lstore_n 1, []), (.ldc2_w 41, [13]), (.lload_n 1, []), (.lmul, []), (.aload_n 0, []), (.getfield 21, [4, 3, 3, 58]), (.iload_n 3, []), (.baload, []), (.ifCond .eq 7, [2]), (.iconst 1, []), (.goto 4, [3])]),
  (70, 3, [(.iconst 0, [])]),
  (71, 0, [(.i2l, []), (.ladd, []), (.lstore_n 1, []), (.iinc 3 1, []), (.goto (-75), [1])]),
  (80, 0, [(.lload_n 1, []), (.lreturn, [])])]
theorem kX4_mix_ok : pm_ck 52 kX4_mix = true := by decide +kernel
def kX5_init : List pm_Bl := [
  (0, 0, [(.aload_n 0, []), (.invokespecial 3, [9999, 6]), (.aload_n 0, []), (.bipush 24, []), (.newarray .int, [0]), (.putfield 9, [5, 0, 3, 45]), (.aload_n 0, []), (.bipush 24, []), (.newarray .int, [0]), (.putfield 15, [5, 1, 3, 46]), (.aload_n 0, []), (.sipush 792, []), (.newarray .int, [0]), (.putfield 18, [5, 2, 3, 47]), (.aload_n 0, []), (.bipush 33, []), (.newarray .int, [0]), (.putfield 21, [5, 3, 3, 48]), (.aload_n 0, []), (.bipush 48, []), (.newarray .int, [0]), (.putfield 24, [5, 4, 3, 49]), (.aload_n 0, []), (.iconst 0, []), (.putfield 27, [5, 5, 0, 50]), (.aload_n 0, []), (.iconst 0, []), (.putfield 31, [5, 6, 0, 52]), (.aload_n 0, []), (.iconst 0, []), (.putfield 34, [5, 7, 0, 53]), (.aload_n 0, []), (.iconst 1, []), (.putfield 37, [5, 8, 2, 54]), (.return_, [])])]
theorem kX5_init_ok : pm_ck 53 kX5_init = true := by decide +kernel
def kX5_growing : List pm_Bl := [
  (0, 0, [(.iload_n 0, []), (.iconst 4, []), (.imul, []), (.iload_n 1, []), (.iadd, []), (.ireturn, [0])])]
theorem kX5_growing_ok : pm_ck 54 kX5_growing = true := by decide +kernel
def kX5_paying : List pm_Bl := [
  (0, 0, [(.bipush 17, []), (.iload_n 0, []), (.iadd, []), (.ireturn, [0])])]
theorem kX5_paying_ok : pm_ck 55 kX5_paying = true := by decide +kernel
def kX5_selling : List pm_Bl := [
  (0, 0, [(.bipush 25, []), (.iload_n 0, []), (.iadd, []), (.ireturn, [0])])]
theorem kX5_selling_ok : pm_ck 56 kX5_selling = true := by decide +kernel
def kX5_thing : List pm_Bl := [
  (0, 0, [(.iload_n 0, []), (.tableswitch 96 0 3 #[31, 57, 60, 78], [11, 1, 4, 5, 8])]),
  (32, 0, [(.iload_n 1, []), (.iconst 4, []), (.invokestatic 41, [184, 2, 39]), (.ifCond .eq 19, [2]), (.iload_n 2, []), (.iconst 4, []), (.invokestatic 41, [184, 2, 39]), (.ifCond .eq 11, [2]), (.iload_n 1, []), (.iload_n 2, []), (.invokestatic 45, [54, 2, 42]), (.goto 4, [3])]),
  (56, 3, [(.iconst (-1), [])]),
  (57, 0, [(.ireturn, [0])]),
  (58, 0, [(.bipush 16, []), (.ireturn, [0])]),
  (61, 0, [(.iload_n 1, []), (.bipush 8, []), (.invokestatic 41, [184, 2, 39]), (.ifCond .eq 10, [6]), (.iload_n 1, []), (.invokestatic 49, [55, 1, 46]), (.goto 4, [7])]),
  (77, 7, [(.iconst (-1), [])]),
  (78, 0, [(.ireturn, [0])]),
  (79, 0, [(.iload_n 1, []), (.bipush 8, []), (.invokestatic 41, [184, 2, 39]), (.ifCond .eq 10, [9]), (.iload_n 1, []), (.invokestatic 53, [56, 1, 48]), (.goto 4, [10])]),
  (95, 10, [(.iconst (-1), [])]),
  (96, 0, [(.ireturn, [0])]),
  (97, 0, [(.iconst (-1), []), (.ireturn, [0])])]
theorem kX5_thing_ok : pm_ck 57 kX5_thing = true := by decide +kernel
def kX5_unruled : List pm_Bl := [
  (0, 0, [(.iload_n 0, []), (.iconst 0, []), (.iconst 1, []), (.invokestatic 45, [54, 2, 42]), (.if_icmp .ne 5, [1]), (.iconst 1, []), (.ireturn, [0])]),
  (11, 0, [(.iload_n 0, []), (.iconst 1, []), (.iconst 2, []), (.invokestatic 45, [54, 2, 42]), (.if_icmp .ne 6, [2]), (.bipush 6, []), (.ireturn, [0])]),
  (23, 0, [(.iload_n 0, []), (.iconst 2, []), (.iconst 3, []), (.invokestatic 45, [54, 2, 42]), (.if_icmp .ne 6, [3]), (.bipush 9, []), (.ireturn, [0])]),
  (35, 0, [(.iload_n 0, []), (.bipush 16, []), (.if_icmp .ne 7, [4]), (.sipush 1000, []), (.ireturn, [0])]),
  (45, 0, [(.iload_n 0, []), (.iconst 0, []), (.invokestatic 53, [56, 1, 48]), (.if_icmp .lt 7, [5]), (.iconst 1, []), (.goto 4, [6])]),
  (57, 6, [(.iconst 0, [])]),
  (58, 0, [(.ireturn, [0])])]
theorem kX5_unruled_ok : pm_ck 58 kX5_unruled = true := by decide +kernel
def kX5_ruleFor : List pm_Bl := [
  (0, 1, [(.bipush (-9), []), (.istore 4, []), (.iconst (-1), []), (.istore 5, []), (.iconst 0, []), (.istore 6, [])]),
  (10, 0, [(.iload 6, []), (.aload_n 0, []), (.getfield 27, [5, 5, 0, 50]), (.if_icmp .ge 79, [5]), (.aload_n 0, []), (.getfield 9, [5, 0, 3, 45]), (.iload 6, []), (.iaload, []), (.iload_n 3, []), (.if_icmp .gt 29, [2]), (.aload_n 0, []), (.getfield 15, [5, 1, 3, 46]), (.iload 6, []), (.iaload, []), (.iload_n 2, []), (.if_icmp .gt 18, [2]), (.aload_n 0, []), (.iload 6, []), (.iload_n 1, []), (.invokevirtual 56, [61, 3, 63, 0, 0, 5]), (.iconst (-1), []), (.if_icmp .eq 7, [2]), (.iconst 1, []), (.goto 4, [3])]),
  (56, 3, [(.iconst 0, [])]),
  (57, 4, [(.istore 7, []), (.iload 7, []), (.ifCond .eq 28, [4]), (.aload_n 0, []), (.getfield 15, [5, 1, 3, 46]), (.iload 6, []), (.iaload, []), (.iload 5, []), (.if_icmp .lt 16, [4]), (.aload_n 0, []), (.getfield 15, [5, 1, 3, 46]), (.iload 6, []), (.iaload, []), (.istore 5, []), (.iload 6, []), (.istore 4, [])]),
  (89, 0, [(.iinc 6 1, []), (.goto (-82), [1])]),
  (95, 0, [(.iload 4, []), (.ireturn, [0])])]
theorem kX5_ruleFor_ok : pm_ck 59 kX5_ruleFor = true := by decide +kernel
def kX5_inForce : List pm_Bl := [
  (0, 0, [(.aload_n 0, []), (.iload_n 1, []), (.iload_n 2, []), (.iload_n 3, []), (.invokevirtual 59, [59, 4, 62, 0, 0, 5]), (.istore 4, []), (.iload 4, []), (.bipush (-9), []), (.if_icmp .ne 10, [1]), (.iload_n 1, []), (.invokestatic 63, [58, 1, 64]), (.goto 10, [2])]),
  (23, 2, [(.aload_n 0, []), (.iload 4, []), (.iload_n 1, []), (.invokevirtual 56, [61, 3, 63, 0, 0, 5])]),
  (30, 0, [(.ireturn, [0])])]
theorem kX5_inForce_ok : pm_ck 60 kX5_inForce = true := by decide +kernel
def kX5_value : List pm_Bl := [
  (0, 0, [(.iload_n 1, []), (.bipush 24, []), (.invokestatic 41, [184, 2, 39]), (.ifCond .eq 26, [1]), (.iload_n 2, []), (.bipush 33, []), (.invokestatic 41, [184, 2, 39]), (.ifCond .eq 17, [1]), (.aload_n 0, []), (.getfield 18, [5, 2, 3, 47]), (.iload_n 1, []), (.bipush 33, []), (.imul, []), (.iload_n 2, []), (.iadd, []), (.iaload, []), (.goto 4, [2])]),
  (32, 2, [(.iconst (-1), [])]),
  (33, 0, [(.ireturn, [0])])]
theorem kX5_value_ok : pm_ck 61 kX5_value = true := by decide +kernel
def kX5_make : List pm_Bl := [
  (0, 1, [(.aload_n 0, []), (.getfield 27, [5, 5, 0, 50]), (.istore_n 3, []), (.iload_n 3, []), (.ifCond .lt 9, [1]), (.iload_n 3, []), (.bipush 24, []), (.if_icmp .lt 6, [2])]),
  (15, 0, [(.bipush (-2), []), (.ireturn, [0])]),
  (18, 3, [(.aload_n 0, []), (.getfield 9, [5, 0, 3, 45]), (.iload_n 3, []), (.iload_n 1, []), (.iastore, []), (.aload_n 0, []), (.getfield 15, [5, 1, 3, 46]), (.iload_n 3, []), (.iload_n 2, []), (.iastore, []), (.iconst 0, []), (.istore 4, [])]),
  (35, 0, [(.iload 4, []), (.bipush 33, []), (.if_icmp .ge 28, [4]), (.aload_n 0, []), (.getfield 18, [5, 2, 3, 47]), (.iload_n 3, []), (.bipush 33, []), (.imul, []), (.iload 4, []), (.iadd, []), (.aload_n 0, []), (.getfield 21, [5, 3, 3, 48]), (.iload 4, []), (.iaload, []), (.iastore, []), (.iinc 4 1, []), (.goto (-29), [3])]),
  (67, 0, [(.aload_n 0, []), (.iload_n 3, []), (.iconst 1, []), (.iadd, []), (.putfield 27, [5, 5, 0, 50]), (.iload_n 3, []), (.ireturn, [0])])]
theorem kX5_make_ok : pm_ck 62 kX5_make = true := by decide +kernel
def kX5_read : List pm_Bl := [
  (0, 1, [(.aload_n 0, []), (.aload_n 1, []), (.iload_n 2, []), (.invokevirtual 66, [106, 2, 36, 0, 0, 9]), (.bipush 48, []), (.invokestatic 70, [9993, 0]), (.putfield 31, [5, 6, 0, 52]), (.iconst 0, []), (.istore_n 3, [])]),
  (16, 0, [(.iload_n 3, []), (.aload_n 0, []), (.getfield 31, [5, 6, 0, 52]), (.if_icmp .ge 21, [2]), (.aload_n 0, []), (.getfield 24, [5, 4, 3, 49]), (.iload_n 3, []), (.aload_n 1, []), (.iload_n 2, []), (.iload_n 3, []), (.invokevirtual 75, [110, 3, 37, 0, 0, 9]), (.iastore, []), (.iinc 3 1, []), (.goto (-23), [1])]),
  (42, 3, [(.iconst 0, []), (.istore_n 3, [])]),
  (44, 0, [(.iload_n 3, []), (.bipush 33, []), (.if_icmp .ge 16, [4]), (.aload_n 0, []), (.getfield 21, [5, 3, 3, 48]), (.iload_n 3, []), (.iconst (-1), []), (.iastore, []), (.iinc 3 1, []), (.goto (-16), [3])]),
  (63, 5, [(.aload_n 0, []), (.iconst 0, []), (.putfield 34, [5, 7, 0, 53]), (.aload_n 0, []), (.iconst 1, []), (.putfield 37, [5, 8, 2, 54]), (.iconst 0, []), (.istore_n 3, [])]),
  (75, 0, [(.iload_n 3, []), (.bipush 48, []), (.if_icmp .ge 31, [6]), (.aload_n 0, []), (.getfield 37, [5, 8, 2, 54]), (.ifCond .eq 24, [6]), (.aload_n 0, []), (.getfield 34, [5, 7, 0, 53]), (.aload_n 0, []), (.getfield 31, [5, 6, 0, 52]), (.if_icmp .ge 13, [6]), (.aload_n 0, []), (.invokevirtual 78, [64, 1, 38, 0, 0, 5]), (.iinc 3 1, []), (.goto (-31), [5])]),
  (109, 0, [(.aload_n 0, []), (.getfield 37, [5, 8, 2, 54]), (.ifCond .eq 8, [7]), (.bipush (-9), []), (.goto 7, [8])]),
  (121, 8, [(.aload_n 0, []), (.getfield 34, [5, 7, 0, 53])]),
  (125, 0, [(.ireturn, [0])])]
theorem kX5_read_ok : pm_ck 63 kX5_read = true := by decide +kernel
def kX5_readItem : List pm_Bl := [
  (0, 0, [(.aload_n 0, []), (.getfield 34, [5, 7, 0, 53]), (.aload_n 0, []), (.getfield 31, [5, 6, 0, 52]), (.invokestatic 41, [184, 2, 39]), (.ifCond .eq 15, [1]), (.aload_n 0, []), (.getfield 24, [5, 4, 3, 49]), (.aload_n 0, []), (.getfield 34, [5, 7, 0, 53]), (.iaload, []), (.goto 5, [2])]),
  (26, 2, [(.bipush 32, [])]),
  (28, 0, [(.istore_n 1, []), (.iload_n 1, []), (.lookupswitch 108 #[(32, 58), (71, 71), (78, 92), (80, 85), (87, 78), (89, 100)], [9, 3, 4, 7, 6, 5, 8])]),
  (88, 0, [(.aload_n 0, []), (.dup, []), (.getfield 34, [5, 7, 0, 53]), (.iconst 1, []), (.iadd, []), (.putfield 34, [5, 7, 0, 53]), (.goto 45, [10])]),
  (101, 0, [(.aload_n 0, []), (.invokevirtual 81, [65, 1, 40, 0, 0, 5]), (.goto 38, [10])]),
  (108, 0, [(.aload_n 0, []), (.invokevirtual 84, [66, 1, 44, 0, 0, 5]), (.goto 31, [10])]),
  (115, 0, [(.aload_n 0, []), (.invokevirtual 87, [67, 1, 45, 0, 0, 5]), (.goto 24, [10])]),
  (122, 0, [(.aload_n 0, []), (.iconst 0, []), (.invokevirtual 90, [68, 2, 47, 0, 0, 5]), (.goto 16, [10])]),
  (130, 0, [(.aload_n 0, []), (.iconst 1, []), (.invokevirtual 90, [68, 2, 47, 0, 0, 5]), (.goto 8, [10])]),
  (138, 10, [(.aload_n 0, []), (.iconst 0, []), (.putfield 37, [5, 8, 2, 54])]),
  (143, 0, [(.return_, [])])]
theorem kX5_readItem_ok : pm_ck 64 kX5_readItem = true := by decide +kernel
def kX5_readGrowth : List pm_Bl := [
  (0, 0, [(.aload_n 0, []), (.dup, []), (.getfield 34, [5, 7, 0, 53]), (.iconst 1, []), (.iadd, []), (.putfield 34, [5, 7, 0, 53]), (.aload_n 0, []), (.iconst 1, []), (.iconst 4, []), (.invokevirtual 94, [70, 3, 41, 0, 0, 5]), (.istore_n 1, []), (.aload_n 0, []), (.iconst 1, []), (.iconst 4, []), (.invokevirtual 94, [70, 3, 41, 0, 0, 5]), (.istore_n 2, []), (.aload_n 0, []), (.iconst 2, []), (.bipush 10, []), (.invokevirtual 94, [70, 3, 41, 0, 0, 5]), (.istore_n 3, []), (.aload_n 0, []), (.iload_n 1, []), (.iload_n 2, []), (.invokestatic 45, [54, 2, 42]), (.iload_n 3, []), (.invokevirtual 97, [69, 3, 43, 0, 0, 5]), (.return_, [])])]
theorem kX5_readGrowth_ok : pm_ck 65 kX5_readGrowth = true := by decide +kernel
def kX5_readWear : List pm_Bl := [
  (0, 0, [(.aload_n 0, []), (.dup, []), (.getfield 34, [5, 7, 0, 53]), (.iconst 1, []), (.iadd, []), (.putfield 34, [5, 7, 0, 53]), (.aload_n 0, []), (.iconst 5, []), (.bipush 10, []), (.invokevirtual 94, [70, 3, 41, 0, 0, 5]), (.istore_n 1, []), (.aload_n 0, []), (.bipush 16, []), (.iload_n 1, []), (.invokevirtual 97, [69, 3, 43, 0, 0, 5]), (.return_, [])])]
theorem kX5_readWear_ok : pm_ck 66 kX5_readWear = true := by decide +kernel
def kX5_readPence : List pm_Bl := [
  (0, 0, [(.aload_n 0, []), (.dup, []), (.getfield 34, [5, 7, 0, 53]), (.iconst 1, []), (.iadd, []), (.putfield 34, [5, 7, 0, 53]), (.aload_n 0, []), (.iconst 1, []), (.bipush 8, []), (.invokevirtual 94, [70, 3, 41, 0, 0, 5]), (.istore_n 1, []), (.aload_n 0, []), (.iconst 4, []), (.bipush 10, []), (.invokevirtual 94, [70, 3, 41, 0, 0, 5]), (.istore_n 2, []), (.aload_n 0, []), (.iload_n 1, []), (.invokestatic 49, [55, 1, 46]), (.iload_n 2, []), (.invokevirtual 97, [69, 3, 43, 0, 0, 5]), (.return_, [])])]
theorem kX5_readPence_ok : pm_ck 67 kX5_readPence = true := by decide +kernel
def kX5_readLand : List pm_Bl := [
  (0, 0, [(.aload_n 0, []), (.dup, []), (.getfield 34, [5, 7, 0, 53]), (.iconst 1, []), (.iadd, []), (.putfield 34, [5, 7, 0, 53]), (.aload_n 0, []), (.iconst 1, []), (.bipush 8, []), (.invokevirtual 94, [70, 3, 41, 0, 0, 5]), (.istore_n 2, []), (.aload_n 0, []), (.iload_n 2, []), (.invokestatic 53, [56, 1, 48]), (.iload_n 1, []), (.invokevirtual 97, [69, 3, 43, 0, 0, 5]), (.return_, [])])]
theorem kX5_readLand_ok : pm_ck 68 kX5_readLand = true := by decide +kernel
def kX5_note : List pm_Bl := [
  (0, 1, [(.aload_n 0, []), (.getfield 37, [5, 8, 2, 54]), (.ifCond .eq 19, [1]), (.iload_n 1, []), (.bipush 33, []), (.invokestatic 41, [184, 2, 39]), (.ifCond .eq 10, [1]), (.aload_n 0, []), (.getfield 21, [5, 3, 3, 48]), (.iload_n 1, []), (.iload_n 2, []), (.iastore, [])]),
  (23, 0, [(.return_, [])])]
theorem kX5_note_ok : pm_ck 69 kX5_note = true := by decide +kernel
def kX5_digits : List pm_Bl := [
  (0, 1, [(.iconst 0, []), (.istore_n 3, []), (.iconst 0, []), (.istore 4, [])]),
  (5, 0, [(.aload_n 0, []), (.getfield 37, [5, 8, 2, 54]), (.ifCond .eq 73, [3]), (.iload 4, []), (.iload_n 1, []), (.if_icmp .ge 67, [3]), (.aload_n 0, []), (.getfield 34, [5, 7, 0, 53]), (.aload_n 0, []), (.getfield 31, [5, 6, 0, 52]), (.invokestatic 41, [184, 2, 39]), (.ifCond .eq 53, [3]), (.aload_n 0, []), (.getfield 24, [5, 4, 3, 49]), (.aload_n 0, []), (.getfield 34, [5, 7, 0, 53]), (.iaload, []), (.bipush 48, []), (.isub, []), (.istore 5, []), (.iload 5, []), (.iload_n 2, []), (.invokestatic 41, [184, 2, 39]), (.ifCond .ne 6, [2]), (.goto 27, [3])]),
  (58, 0, [(.bipush 10, []), (.iload_n 3, []), (.imul, []), (.iload 5, []), (.iadd, []), (.istore_n 3, []), (.aload_n 0, []), (.dup, []), (.getfield 34, [5, 7, 0, 53]), (.iconst 1, []), (.iadd, []), (.putfield 34, [5, 7, 0, 53]), (.iinc 4 1, []), (.goto (-74), [1])]),
  (82, 4, [(.iload 4, []), (.ifCond .ne 8, [4]), (.aload_n 0, []), (.iconst 0, []), (.putfield 37, [5, 8, 2, 54])]),
  (92, 0, [(.iload_n 3, []), (.ireturn, [0])])]
theorem kX5_digits_ok : pm_ck 70 kX5_digits = true := by decide +kernel
def kX5_mix : List pm_Bl := [
  (0, 1, [(.iconst 0, []), (.istore 4, [])]),
  (3, 0, [(.iload 4, []), (.aload_n 0, []), (.getfield 27, [5, 5, 0, 50]), (.if_icmp .ge 39, [2]), (.ldc2_w 101, [12]), (.lload_n 1, []), (.lmul, []), (.aload_n 0, []), (.getfield 9, [5, 0, 3, 45]), (.iload 4, []), (.iaload, []), (.i2l, []), (.ladd, []), (.lstore_n 1, []), (.ldc2_w 101, [12]), (.lload_n 1, []), (.lmul, []), (.aload_n 0, []), (.getfield 15, [5, 1, 3, 46]), (.iload 4, []), (.iaload, []), (.i2l, []), (.ladd, []), (.lstore_n 1, []), (.iinc 4 1, []), (.goto (-42), [1])]),
  (48, 3, [(.ldc2_w 101, [12]), (.lload_n 1, []), (.lmul, []), (.aload_n 0, []), (.bipush 16, []), (.iload_n 3, []), (.iload_n 3, []), (.invokevirtual 103, [60, 4, 221, 0, 0, 5]), (.i2l, []), (.ladd, []), (.lstore_n 1, []), (.iconst 0, []), (.istore 4, [])]),
  (67, 0, [(.iload 4, []), (.bipush 8, []), (.if_icmp .ge 47, [4]), (.ldc2_w 101, [12]), (.lload_n 1, []), (.lmul, []), (.aload_n 0, []), (.iload 4, []), (.invokestatic 49, [55, 1, 46]), (.iload_n 3, []), (.iload_n 3, []), (.invokevirtual 103, [60, 4, 221, 0, 0, 5]), (.i2l, []), (.ladd, []), (.lstore_n 1, []), (.ldc2_w 101, [12]), (.lload_n 1, []), (.lmul, []), (.aload_n 0, []), (.iload 4, []), (.invokestatic 53, [56, 1, 48]), (.iload_n 3, []), (.iload_n 3, []), (.invokevirtual 103, [60, 4, 221, 0, 0, 5]), (.i2l, []), (.ladd, []), (.lstore_n 1, []), (.iinc 4 1, []), (.goto (-48), [3])]),
  (118, 0, [(.lload_n 1, []), (.lreturn, [])])]
theorem kX5_mix_ok : pm_ck 71 kX5_mix = true := by decide +kernel
def kX6_init : List pm_Bl := [
  (0, 0, [(.aload_n 0, []), (.invokespecial 3, [9999, 5]), (.aload_n 0, []), (.bipush 30, []), (.newarray .int, [0]), (.putfield 9, [6, 0, 3, 35]), (.aload_n 0, []), (.bipush 30, []), (.newarray .int, [0]), (.putfield 15, [6, 1, 3, 36]), (.aload_n 0, []), (.bipush 30, []), (.newarray .int, [0]), (.putfield 18, [6, 2, 3, 37]), (.aload_n 0, []), (.bipush 30, []), (.newarray .int, [0]), (.putfield 21, [6, 3, 3, 38]), (.aload_n 0, []), (.bipush 60, []), (.newarray .int, [0]), (.putfield 24, [6, 4, 3, 39]), (.aload_n 0, []), (.bipush 30, []), (.newarray .int, [0]), (.putfield 27, [6, 5, 3, 40]), (.aload_n 0, []), (.bipush 30, []), (.newarray .int, [0]), (.putfield 30, [6, 6, 3, 41]), (.aload_n 0, []), (.iconst 0, []), (.putfield 33, [6, 7, 0, 42]), (.return_, [])])]
theorem kX6_init_ok : pm_ck 72 kX6_init = true := by decide +kernel
def kX6_has : List pm_Bl := [
  (0, 0, [(.iload_n 1, []), (.ifCond .lt 21, [1]), (.iload_n 1, []), (.aload_n 0, []), (.getfield 33, [6, 7, 0, 42]), (.if_icmp .ge 13, [1]), (.iload_n 1, []), (.bipush 30, []), (.if_icmp .ge 7, [1]), (.iconst 1, []), (.goto 4, [2])]),
  (22, 2, [(.iconst 0, [])]),
  (23, 0, [(.ireturn, [1])])]
theorem kX6_has_ok : pm_ck 73 kX6_has = true := by decide +kernel
def kX6_make : List pm_Bl := [
  (0, 1, [(.aload_n 0, []), (.getfield 33, [6, 7, 0, 42]), (.istore 6, []), (.iload 6, []), (.ifCond .lt 19, [1]), (.iload 6, []), (.bipush 30, []), (.if_icmp .ge 12, [1]), (.iload_n 2, []), (.bipush 6, []), (.invokestatic 37, [184, 2, 80]), (.ifCond .ne 6, [2])]),
  (27, 0, [(.bipush (-2), []), (.ireturn, [0])]),
  (30, 0, [(.aload_n 0, []), (.getfield 9, [6, 0, 3, 35]), (.iload 6, []), (.iload_n 2, []), (.iastore, []), (.aload_n 0, []), (.getfield 15, [6, 1, 3, 36]), (.iload 6, []), (.iload 5, []), (.iastore, []), (.aload_n 0, []), (.getfield 18, [6, 2, 3, 37]), (.iload 6, []), (.iload_n 3, []), (.iastore, []), (.aload_n 0, []), (.getfield 21, [6, 3, 3, 38]), (.iload 6, []), (.iload 4, []), (.ifCond .eq 7, [3]), (.iconst 1, []), (.goto 4, [4])]),
  (70, 4, [(.iconst 0, [])]),
  (71, 0, [(.iastore, []), (.aload_n 0, []), (.getfield 24, [6, 4, 3, 39]), (.iload 6, []), (.iconst 2, []), (.imul, []), (.aload_n 1, []), (.iload_n 2, []), (.iconst 0, []), (.invokevirtual 41, [41, 3, 102, 0, 0, 3]), (.iastore, []), (.aload_n 0, []), (.getfield 24, [6, 4, 3, 39]), (.iload 6, []), (.iconst 2, []), (.imul, []), (.iconst 1, []), (.iadd, []), (.aload_n 1, []), (.iload_n 2, []), (.iconst 1, []), (.invokevirtual 41, [41, 3, 102, 0, 0, 3]), (.iastore, []), (.aload_n 0, []), (.getfield 27, [6, 5, 3, 40]), (.iload 6, []), (.aload_n 1, []), (.getfield 47, [3, 1, 3, 32]), (.iload_n 2, []), (.iaload, []), (.iastore, []), (.aload_n 0, []), (.getfield 30, [6, 6, 3, 41]), (.iload 6, []), (.aload_n 1, []), (.getfield 48, [3, 2, 3, 34]), (.iload_n 2, []), (.iaload, []), (.iastore, []), (.aload_n 0, []), (.iload 6, []), (.iconst 1, []), (.iadd, []), (.putfield 33, [6, 7, 0, 42]), (.iload 6, []), (.ireturn, [0])])]
theorem kX6_make_ok : pm_ck 74 kX6_make = true := by decide +kernel
def kX6_copies : List pm_Bl := [
  (0, 0, [(.aload_n 0, []), (.iload_n 1, []), (.invokevirtual 49, [73, 2, 79, 0, 0, 6]), (.ifCond .eq 12, [1]), (.aload_n 0, []), (.getfield 18, [6, 2, 3, 37]), (.iload_n 1, []), (.iaload, []), (.goto 4, [2])]),
  (17, 2, [(.iconst 0, [])]),
  (18, 0, [(.ireturn, [0])])]
theorem kX6_copies_ok : pm_ck 75 kX6_copies = true := by decide +kernel
def kX6_dayOf : List pm_Bl := [
  (0, 0, [(.aload_n 0, []), (.iload_n 1, []), (.invokevirtual 49, [73, 2, 79, 0, 0, 6]), (.ifCond .eq 12, [1]), (.aload_n 0, []), (.getfield 15, [6, 1, 3, 36]), (.iload_n 1, []), (.iaload, []), (.goto 5, [2])]),
  (17, 2, [(.bipush (-9), [])]),
  (19, 0, [(.ireturn, [0])])]
theorem kX6_dayOf_ok : pm_ck 76 kX6_dayOf = true := by decide +kernel
def kX6_stamper : List pm_Bl := [
  (0, 0, [(.aload_n 0, []), (.iload_n 1, []), (.invokevirtual 49, [73, 2, 79, 0, 0, 6]), (.ifCond .eq 24, [1]), (.iload_n 2, []), (.iconst 2, []), (.invokestatic 37, [184, 2, 80]), (.ifCond .eq 16, [1]), (.aload_n 0, []), (.getfield 24, [6, 4, 3, 39]), (.iload_n 1, []), (.iconst 2, []), (.imul, []), (.iload_n 2, []), (.iadd, []), (.iaload, []), (.goto 5, [2])]),
  (29, 2, [(.bipush (-9), [])]),
  (31, 0, [(.ireturn, [0])])]
theorem kX6_stamper_ok : pm_ck 77 kX6_stamper = true := by decide +kernel
def kX6_uses : List pm_Bl := [
  (0, 1, [(.aload_n 0, []), (.iload_n 1, []), (.iconst 0, []), (.invokevirtual 53, [77, 3, 78, 0, 0, 6]), (.iload_n 2, []), (.if_icmp .eq 13, [1]), (.aload_n 0, []), (.iload_n 1, []), (.iconst 1, []), (.invokevirtual 53, [77, 3, 78, 0, 0, 6]), (.iload_n 2, []), (.if_icmp .ne 7, [2])]),
  (20, 0, [(.iconst 1, []), (.goto 4, [3])]),
  (24, 3, [(.iconst 0, [])]),
  (25, 0, [(.ireturn, [1])])]
theorem kX6_uses_ok : pm_ck 78 kX6_uses = true := by decide +kernel
def kX6_wear : List pm_Bl := [
  (0, 1, [(.iconst 0, []), (.istore_n 2, []), (.iconst 0, []), (.istore_n 3, [])]),
  (4, 2, [(.iload_n 3, []), (.aload_n 0, []), (.getfield 33, [6, 7, 0, 42]), (.if_icmp .ge 36, [3]), (.aload_n 0, []), (.iload_n 3, []), (.iload_n 1, []), (.invokevirtual 54, [78, 3, 77, 0, 0, 6]), (.ifCond .eq 21, [2]), (.iload_n 2, []), (.aload_n 0, []), (.getfield 18, [6, 2, 3, 37]), (.iload_n 3, []), (.iaload, []), (.iconst 1, []), (.aload_n 0, []), (.getfield 21, [6, 3, 3, 38]), (.iload_n 3, []), (.iaload, []), (.iadd, []), (.imul, []), (.iadd, []), (.istore_n 2, [])]),
  (39, 0, [(.iinc 3 1, []), (.goto (-38), [1])]),
  (45, 0, [(.iload_n 2, []), (.ireturn, [0])])]
theorem kX6_wear_ok : pm_ck 79 kX6_wear = true := by decide +kernel
def kX6_numberOf : List pm_Bl := [
  (0, 1, [(.iconst 0, []), (.istore_n 2, []), (.iconst 0, []), (.istore_n 3, [])]),
  (4, 2, [(.iload_n 3, []), (.aload_n 0, []), (.getfield 33, [6, 7, 0, 42]), (.if_icmp .ge 21, [3]), (.aload_n 0, []), (.iload_n 3, []), (.iload_n 1, []), (.invokevirtual 54, [78, 3, 77, 0, 0, 6]), (.ifCond .eq 6, [2]), (.iinc 2 1, [])]),
  (24, 0, [(.iinc 3 1, []), (.goto (-23), [1])]),
  (30, 0, [(.iload_n 2, []), (.ireturn, [0])])]
theorem kX6_numberOf_ok : pm_ck 80 kX6_numberOf = true := by decide +kernel
def kX6_copiesOf : List pm_Bl := [
  (0, 1, [(.iconst 0, []), (.istore_n 2, []), (.iconst 0, []), (.istore_n 3, [])]),
  (4, 2, [(.iload_n 3, []), (.aload_n 0, []), (.getfield 33, [6, 7, 0, 42]), (.if_icmp .ge 27, [3]), (.aload_n 0, []), (.iload_n 3, []), (.iload_n 1, []), (.invokevirtual 54, [78, 3, 77, 0, 0, 6]), (.ifCond .eq 12, [2]), (.iload_n 2, []), (.aload_n 0, []), (.getfield 18, [6, 2, 3, 37]), (.iload_n 3, []), (.iaload, []), (.iadd, []), (.istore_n 2, [])]),
  (30, 0, [(.iinc 3 1, []), (.goto (-29), [1])]),
  (36, 0, [(.iload_n 2, []), (.ireturn, [0])])]
theorem kX6_copiesOf_ok : pm_ck 81 kX6_copiesOf = true := by decide +kernel
def kX6_fact : List pm_Bl := [
  (0, 0, [(.aload_n 0, []), (.iload_n 1, []), (.invokevirtual 49, [73, 2, 79, 0, 0, 6]), (.ifCond .ne 6, [1]), (.bipush (-9), []), (.ireturn, [0])]),
  (11, 0, [(.iload_n 2, []), (.tableswitch 71 0 4 #[36, 43, 50, 57, 64], [7, 2, 3, 4, 5, 6])]),
  (48, 0, [(.aload_n 0, []), (.getfield 9, [6, 0, 3, 35]), (.iload_n 1, []), (.iaload, []), (.ireturn, [0])]),
  (55, 0, [(.aload_n 0, []), (.getfield 15, [6, 1, 3, 36]), (.iload_n 1, []), (.iaload, []), (.ireturn, [0])]),
  (62, 0, [(.aload_n 0, []), (.getfield 18, [6, 2, 3, 37]), (.iload_n 1, []), (.iaload, []), (.ireturn, [0])]),
  (69, 0, [(.aload_n 0, []), (.getfield 21, [6, 3, 3, 38]), (.iload_n 1, []), (.iaload, []), (.ireturn, [0])]),
  (76, 0, [(.aload_n 0, []), (.iload_n 1, []), (.iconst 0, []), (.invokevirtual 53, [77, 3, 78, 0, 0, 6]), (.ireturn, [0])]),
  (83, 0, [(.aload_n 0, []), (.iload_n 1, []), (.iconst 1, []), (.invokevirtual 53, [77, 3, 78, 0, 0, 6]), (.ireturn, [0])])]
theorem kX6_fact_ok : pm_ck 82 kX6_fact = true := by decide +kernel
def kX6_swishAt : List pm_Bl := [
  (0, 0, [(.aload_n 0, []), (.iload_n 1, []), (.invokevirtual 49, [73, 2, 79, 0, 0, 6]), (.ifCond .ne 5, [1]), (.iconst 0, []), (.ireturn, [0])]),
  (10, 0, [(.iload_n 2, []), (.iconst 2, []), (.irem, []), (.ifCond .ne 12, [2]), (.aload_n 0, []), (.getfield 27, [6, 5, 3, 40]), (.iload_n 1, []), (.iaload, []), (.goto 9, [3])]),
  (25, 3, [(.aload_n 0, []), (.getfield 30, [6, 6, 3, 41]), (.iload_n 1, []), (.iaload, [])]),
  (31, 0, [(.istore_n 3, []), (.iload_n 3, []), (.invokestatic 57, [9990, 2]), (.sipush 1000, []), (.iload_n 2, []), (.isub, []), (.imul, []), (.sipush 1000, []), (.idiv, []), (.ireturn, [0])])]
theorem kX6_swishAt_ok : pm_ck 83 kX6_swishAt = true := by decide +kernel
def kX6_allFaces : List pm_Bl := [
  (0, 0, [(.lconst 1, []), (.iconst 2, []), (.aload_n 0, []), (.getfield 33, [6, 7, 0, 42]), (.imul, []), (.lshl, []), (.lconst 1, []), (.lsub, []), (.lreturn, [])])]
theorem kX6_allFaces_ok : pm_ck 84 kX6_allFaces = true := by decide +kernel
def kX6_copiesOn : List pm_Bl := [
  (0, 1, [(.iconst 0, []), (.istore_n 3, []), (.iconst 0, []), (.istore 4, [])]),
  (5, 2, [(.iload 4, []), (.aload_n 0, []), (.getfield 33, [6, 7, 0, 42]), (.if_icmp .ge 34, [3]), (.lload_n 1, []), (.iconst 2, []), (.iload 4, []), (.imul, []), (.lshr, []), (.ldc2_w 63, [5]), (.land, []), (.lconst 0, []), (.lcmp, []), (.ifCond .eq 13, [2]), (.iload_n 3, []), (.aload_n 0, []), (.getfield 18, [6, 2, 3, 37]), (.iload 4, []), (.iaload, []), (.iadd, []), (.istore_n 3, [])]),
  (39, 0, [(.iinc 4 1, []), (.goto (-37), [1])]),
  (45, 0, [(.iload_n 3, []), (.ireturn, [0])])]
theorem kX6_copiesOn_ok : pm_ck 85 kX6_copiesOn = true := by decide +kernel
def kX7_init : List pm_Bl := [
  (0, 0, [(.aload_n 0, []), (.invokespecial 3, [9999, 10]), (.aload_n 0, []), (.bipush 60, []), (.newarray .int, [0]), (.putfield 9, [7, 0, 3, 92]), (.aload_n 0, []), (.bipush 60, []), (.newarray .int, [0]), (.putfield 15, [7, 1, 3, 94]), (.aload_n 0, []), (.bipush 60, []), (.newarray .int, [0]), (.putfield 18, [7, 2, 3, 96]), (.aload_n 0, []), (.bipush 60, []), (.newarray .int, [0]), (.putfield 21, [7, 3, 3, 98]), (.aload_n 0, []), (.iconst 0, []), (.putfield 24, [7, 4, 0, 100]), (.return_, [])])]
theorem kX7_init_ok : pm_ck 86 kX7_init = true := by decide +kernel
def kX7_make : List pm_Bl := [
  (0, 1, [(.aload_n 0, []), (.getfield 24, [7, 4, 0, 100]), (.istore 5, []), (.iload 5, []), (.ifCond .lt 10, [1]), (.iload 5, []), (.bipush 60, []), (.if_icmp .lt 4, [2])]),
  (18, 0, [(.return_, [])]),
  (19, 0, [(.aload_n 0, []), (.getfield 9, [7, 0, 3, 92]), (.iload 5, []), (.iload_n 1, []), (.iastore, []), (.aload_n 0, []), (.getfield 15, [7, 1, 3, 94]), (.iload 5, []), (.iload_n 2, []), (.iastore, []), (.aload_n 0, []), (.getfield 18, [7, 2, 3, 96]), (.iload 5, []), (.iload_n 3, []), (.iastore, []), (.aload_n 0, []), (.getfield 21, [7, 3, 3, 98]), (.iload 5, []), (.iload 4, []), (.iastore, []), (.aload_n 0, []), (.iload 5, []), (.iconst 1, []), (.iadd, []), (.putfield 24, [7, 4, 0, 100]), (.return_, [])])]
theorem kX7_make_ok : pm_ck 87 kX7_make = true := by decide +kernel
def kX7_kept : List pm_Bl := [
  (0, 1, [(.iconst 0, []), (.istore_n 2, []), (.iconst 0, []), (.istore_n 3, [])]),
  (4, 2, [(.iload_n 3, []), (.aload_n 0, []), (.getfield 24, [7, 4, 0, 100]), (.if_icmp .ge 28, [3]), (.aload_n 0, []), (.getfield 9, [7, 0, 3, 92]), (.iload_n 3, []), (.iaload, []), (.iload_n 1, []), (.if_icmp .ne 12, [2]), (.iload_n 2, []), (.aload_n 0, []), (.getfield 15, [7, 1, 3, 94]), (.iload_n 3, []), (.iaload, []), (.iadd, []), (.istore_n 2, [])]),
  (31, 0, [(.iinc 3 1, []), (.goto (-30), [1])]),
  (37, 0, [(.iload_n 2, []), (.ireturn, [0])])]
theorem kX7_kept_ok : pm_ck 88 kX7_kept = true := by decide +kernel
def kX7_keptIn : List pm_Bl := [
  (0, 1, [(.iconst 0, []), (.istore_n 3, []), (.iconst 0, []), (.istore 4, [])]),
  (5, 2, [(.iload 4, []), (.aload_n 0, []), (.getfield 24, [7, 4, 0, 100]), (.if_icmp .ge 41, [3]), (.aload_n 0, []), (.getfield 9, [7, 0, 3, 92]), (.iload 4, []), (.iaload, []), (.iload_n 1, []), (.if_icmp .ne 24, [2]), (.aload_n 0, []), (.getfield 18, [7, 2, 3, 96]), (.iload 4, []), (.iaload, []), (.iload_n 2, []), (.if_icmp .ne 13, [2]), (.iload_n 3, []), (.aload_n 0, []), (.getfield 15, [7, 1, 3, 94]), (.iload 4, []), (.iaload, []), (.iadd, []), (.istore_n 3, [])]),
  (46, 0, [(.iinc 4 1, []), (.goto (-44), [1])]),
  (52, 0, [(.iload_n 3, []), (.ireturn, [0])])]
theorem kX7_keptIn_ok : pm_ck 89 kX7_keptIn = true := by decide +kernel
def kX7_mix : List pm_Bl := [
  (0, 1, [(.iconst 0, []), (.istore_n 3, [])]),
  (2, 0, [(.iload_n 3, []), (.aload_n 0, []), (.getfield 24, [7, 4, 0, 100]), (.if_icmp .ge 65, [2]), (.ldc2_w 28, [14]), (.lload_n 1, []), (.lmul, []), (.aload_n 0, []), (.getfield 9, [7, 0, 3, 92]), (.iload_n 3, []), (.iaload, []), (.i2l, []), (.ladd, []), (.lstore_n 1, []), (.ldc2_w 28, [14]), (.lload_n 1, []), (.lmul, []), (.aload_n 0, []), (.getfield 15, [7, 1, 3, 94]), (.iload_n 3, []), (.iaload, []), (.i2l, []), (.ladd, []), (.lstore_n 1, []), (.ldc2_w 28, [14]), (.lload_n 1, []), (.lmul, []), (.aload_n 0, []), (.getfield 18, [7, 2, 3, 96]), (.iload_n 3, []), (.iaload, []), (.i2l, []), (.ladd, []), (.lstore_n 1, []), (.ldc2_w 28, [14]), (.lload_n 1, []), (.lmul, []), (.aload_n 0, []), (.getfield 21, [7, 3, 3, 98]), (.iload_n 3, []), (.iaload, []), (.i2l, []), (.ladd, []), (.lstore_n 1, []), (.iinc 3 1, []), (.goto (-67), [1])]),
  (72, 0, [(.lload_n 1, []), (.lreturn, [])])]
theorem kX7_mix_ok : pm_ck 90 kX7_mix = true := by decide +kernel
def kX8_init : List pm_Bl := [
  (0, 0, [(.aload_n 0, []), (.invokespecial 3, [9999, 8]), (.aload_n 0, []), (.new 9, [2, 9]), (.dup, []), (.invokespecial 11, [34, 1, 9, 6, 841, 2]), (.putfield 12, [8, 0, 3, 75]), (.aload_n 0, []), (.sipush 160, []), (.newarray .long, [1]), (.putfield 18, [8, 1, 3, 77]), (.aload_n 0, []), (.sipush 160, []), (.newarray .int, [0]), (.putfield 22, [8, 2, 3, 78]), (.aload_n 0, []), (.iconst 3, []), (.newarray .int, [0]), (.putfield 26, [8, 3, 3, 79]), (.aload_n 0, []), (.bipush 60, []), (.newarray .int, [0]), (.putfield 29, [8, 4, 3, 80]), (.aload_n 0, []), (.bipush 18, []), (.newarray .int, [0]), (.putfield 32, [8, 5, 3, 81]), (.aload_n 0, []), (.iconst 0, []), (.putfield 35, [8, 6, 0, 82]), (.aload_n 0, []), (.iconst 0, []), (.putfield 39, [8, 7, 0, 83]), (.aload_n 0, []), (.iconst 0, []), (.putfield 42, [8, 8, 0, 84]), (.aload_n 0, []), (.lconst 0, []), (.putfield 45, [8, 9, 1, 85]), (.aload_n 0, []), (.lconst 0, []), (.putfield 49, [8, 10, 1, 86]), (.aload_n 0, []), (.lconst 0, []), (.putfield 52, [8, 11, 1, 87]), (.aload_n 0, []), (.iconst 0, []), (.putfield 55, [8, 12, 0, 88]), (.aload_n 0, []), (.iconst 0, []), (.putfield 58, [8, 13, 0, 90]), (.return_, [])])]
theorem kX8_init_ok : pm_ck 91 kX8_init = true := by decide +kernel
def kX8_explain : List pm_Bl := [
  (0, 1, [(.aload_n 0, []), (.aload_n 1, []), (.iload_n 2, []), (.iconst 1, []), (.invokevirtual 61, [51, 3, 135, 0, 0, 4]), (.putfield 45, [8, 9, 1, 85]), (.aload_n 0, []), (.iload_n 3, []), (.putfield 42, [8, 8, 0, 84]), (.aload_n 0, []), (.lload 4, []), (.putfield 49, [8, 10, 1, 86]), (.iconst 0, []), (.istore 6, [])]),
  (24, 0, [(.iload 6, []), (.aload_n 0, []), (.getfield 29, [8, 4, 3, 80]), (.arraylength, []), (.if_icmp .ge 17, [2]), (.aload_n 0, []), (.getfield 29, [8, 4, 3, 80]), (.iload 6, []), (.iconst 0, []), (.iastore, []), (.iinc 6 1, []), (.goto (-21), [1])]),
  (48, 3, [(.aload_n 0, []), (.aload_n 1, []), (.iload_n 2, []), (.invokevirtual 67, [93, 3, 139, 0, 0, 8]), (.aload_n 0, []), (.invokevirtual 71, [94, 1, 142, 0, 0, 8]), (.aload_n 0, []), (.iconst 0, []), (.putfield 58, [8, 13, 0, 90]), (.iconst 0, []), (.istore 6, [])]),
  (66, 0, [(.iload 6, []), (.iconst 3, []), (.if_icmp .gt 29, [4]), (.aload_n 0, []), (.getfield 58, [8, 13, 0, 90]), (.ifCond .ne 22, [4]), (.aload_n 0, []), (.iload 6, []), (.putfield 55, [8, 12, 0, 88]), (.aload_n 0, []), (.iconst 0, []), (.lconst 0, []), (.lconst 0, []), (.invokevirtual 74, [95, 4, 144, 0, 0, 8]), (.iinc 6 1, []), (.goto (-29), [3])]),
  (98, 0, [(.aload_n 0, []), (.getfield 58, [8, 13, 0, 90]), (.ifCond .le 7, [5]), (.iconst 1, []), (.goto 4, [6])]),
  (109, 6, [(.iconst 0, [])]),
  (110, 0, [(.ireturn, [1])])]
theorem kX8_explain_ok : pm_ck 92 kX8_explain = true := by decide +kernel
def kX8_hearQuiet : List pm_Bl := [
  (0, 1, [(.iconst 0, []), (.istore_n 3, [])]),
  (2, 0, [(.iload_n 3, []), (.aload_n 0, []), (.getfield 12, [8, 0, 3, 75]), (.getfield 78, [2, 6, 0, 74]), (.if_icmp .ge 16, [2]), (.aload_n 0, []), (.getfield 18, [8, 1, 3, 77]), (.iload_n 3, []), (.lconst 0, []), (.lastore, []), (.iinc 3 1, []), (.goto (-21), [1])]),
  (26, 3, [(.iconst 0, []), (.istore_n 3, [])]),
  (28, 0, [(.iload_n 3, []), (.aload_n 1, []), (.getfield 81, [4, 4, 0, 60]), (.if_icmp .ge 81, [8]), (.aload_n 1, []), (.iload_n 3, []), (.iload_n 2, []), (.iconst 0, []), (.invokevirtual 82, [50, 4, 140, 0, 0, 4]), (.ifCond .ne 6, [4]), (.goto 62, [7])]),
  (49, 5, [(.aload_n 1, []), (.iload_n 3, []), (.invokevirtual 86, [49, 2, 141, 0, 0, 4]), (.lstore 4, []), (.iconst 0, []), (.istore 6, [])]),
  (59, 6, [(.iload 6, []), (.aload_n 0, []), (.getfield 12, [8, 0, 3, 75]), (.getfield 78, [2, 6, 0, 74]), (.if_icmp .ge 40, [7]), (.aload_n 0, []), (.getfield 12, [8, 0, 3, 75]), (.getfield 90, [2, 4, 3, 71]), (.iload 6, []), (.laload, []), (.lload 4, []), (.land, []), (.lconst 0, []), (.lcmp, []), (.ifCond .eq 16, [6]), (.aload_n 0, []), (.getfield 18, [8, 1, 3, 77]), (.iload 6, []), (.dup2, []), (.laload, []), (.lconst 1, []), (.iload_n 3, []), (.lshl, []), (.lor, []), (.lastore, [])]),
  (102, 0, [(.iinc 6 1, []), (.goto (-46), [5])]),
  (108, 0, [(.iinc 3 1, []), (.goto (-83), [3])]),
  (114, 0, [(.return_, [])])]
theorem kX8_hearQuiet_ok : pm_ck 93 kX8_hearQuiet = true := by decide +kernel
def kX8_pickUseful : List pm_Bl := [
  (0, 1, [(.aload_n 0, []), (.iconst 0, []), (.putfield 39, [8, 7, 0, 83]), (.iconst 0, []), (.istore_n 1, [])]),
  (7, 2, [(.iload_n 1, []), (.aload_n 0, []), (.getfield 12, [8, 0, 3, 75]), (.getfield 78, [2, 6, 0, 74]), (.if_icmp .ge 61, [3]), (.aload_n 0, []), (.getfield 12, [8, 0, 3, 75]), (.getfield 90, [2, 4, 3, 71]), (.iload_n 1, []), (.laload, []), (.aload_n 0, []), (.getfield 45, [8, 9, 1, 85]), (.land, []), (.lconst 0, []), (.lcmp, []), (.ifCond .eq 36, [2]), (.aload_n 0, []), (.getfield 18, [8, 1, 3, 77]), (.iload_n 1, []), (.laload, []), (.invokestatic 93, [296, 1, 143]), (.aload_n 0, []), (.getfield 42, [8, 8, 0, 84]), (.if_icmp .gt 20, [2]), (.aload_n 0, []), (.getfield 22, [8, 2, 3, 78]), (.aload_n 0, []), (.dup, []), (.getfield 39, [8, 7, 0, 83]), (.dup_x1, []), (.iconst 1, []), (.iadd, []), (.putfield 39, [8, 7, 0, 83]), (.iload_n 1, []), (.iastore, [])]),
  (70, 0, [(.iinc 1 1, []), (.goto (-66), [1])]),
  (76, 0, [(.return_, [])])]
theorem kX8_pickUseful_ok : pm_ck 94 kX8_pickUseful = true := by decide +kernel
def kX8_extend : List pm_Bl := [
  (0, 1, [(.aload_n 0, []), (.getfield 45, [8, 9, 1, 85]), (.lload_n 2, []), (.ldc2_w 99, [3]), (.lxor, []), (.land, []), (.lstore 6, []), (.iload_n 1, []), (.aload_n 0, []), (.getfield 55, [8, 12, 0, 88]), (.if_icmp .ge 8, [1]), (.iload_n 1, []), (.iconst 3, []), (.if_icmp .lt 18, [3])]),
  (25, 2, [(.lload 6, []), (.lconst 0, []), (.lcmp, []), (.ifCond .ne 10, [2]), (.aload_n 0, []), (.lload_n 2, []), (.lload 4, []), (.invokevirtual 101, [96, 3, 145, 0, 0, 8])]),
  (39, 0, [(.return_, [])]),
  (40, 4, [(.lload 6, []), (.lload 6, []), (.lneg, []), (.land, []), (.lstore 8, []), (.iconst 0, []), (.istore 10, [])]),
  (51, 0, [(.iload 10, []), (.aload_n 0, []), (.getfield 39, [8, 7, 0, 83]), (.if_icmp .ge 99, [8]), (.aload_n 0, []), (.getfield 22, [8, 2, 3, 78]), (.iload 10, []), (.iaload, []), (.istore 11, []), (.aload_n 0, []), (.getfield 12, [8, 0, 3, 75]), (.getfield 90, [2, 4, 3, 71]), (.iload 11, []), (.laload, []), (.lload 8, []), (.land, []), (.lconst 0, []), (.lcmp, []), (.ifCond .ne 6, [5]), (.goto 63, [7])]),
  (90, 0, [(.lload 4, []), (.aload_n 0, []), (.getfield 18, [8, 1, 3, 77]), (.iload 11, []), (.laload, []), (.lor, []), (.invokestatic 93, [296, 1, 143]), (.aload_n 0, []), (.getfield 42, [8, 8, 0, 84]), (.if_icmp .le 6, [6]), (.goto 40, [7])]),
  (113, 7, [(.aload_n 0, []), (.getfield 26, [8, 3, 3, 79]), (.iload_n 1, []), (.iload 11, []), (.iastore, []), (.aload_n 0, []), (.iload_n 1, []), (.iconst 1, []), (.iadd, []), (.lload_n 2, []), (.aload_n 0, []), (.getfield 12, [8, 0, 3, 75]), (.getfield 90, [2, 4, 3, 71]), (.iload 11, []), (.laload, []), (.lor, []), (.lload 4, []), (.aload_n 0, []), (.getfield 18, [8, 1, 3, 77]), (.iload 11, []), (.laload, []), (.lor, []), (.invokevirtual 74, [95, 4, 144, 0, 0, 8])]),
  (150, 0, [(.iinc 10 1, []), (.goto (-102), [4])]),
  (156, 0, [(.return_, [])])]
theorem kX8_extend_ok : pm_ck 95 kX8_extend = true := by decide +kernel
def kX8_take : List pm_Bl := [
  (0, 1, [(.aload_n 0, []), (.lload_n 3, []), (.invokevirtual 105, [97, 2, 146, 0, 0, 8]), (.lstore 5, []), (.aload_n 0, []), (.getfield 58, [8, 13, 0, 90]), (.ifCond .eq 13, [1]), (.lload 5, []), (.aload_n 0, []), (.getfield 52, [8, 11, 1, 87]), (.lcmp, []), (.ifCond .ge 9, [2])]),
  (24, 2, [(.aload_n 0, []), (.lload 5, []), (.putfield 52, [8, 11, 1, 87])]),
  (30, 3, [(.aload_n 0, []), (.dup, []), (.getfield 58, [8, 13, 0, 90]), (.iconst 1, []), (.iadd, []), (.putfield 58, [8, 13, 0, 90]), (.lload_n 1, []), (.aload_n 0, []), (.getfield 49, [8, 10, 1, 86]), (.land, []), (.lstore 7, []), (.iconst 0, []), (.istore 9, [])]),
  (51, 4, [(.iload 9, []), (.aload_n 0, []), (.getfield 29, [8, 4, 3, 80]), (.arraylength, []), (.if_icmp .ge 42, [5]), (.lload 7, []), (.lconst 0, []), (.lcmp, []), (.ifCond .eq 35, [5]), (.lload 7, []), (.lconst 1, []), (.land, []), (.lconst 0, []), (.lcmp, []), (.ifCond .eq 14, [4]), (.aload_n 0, []), (.getfield 29, [8, 4, 3, 80]), (.iload 9, []), (.dup2, []), (.iaload, []), (.iconst 1, []), (.iadd, []), (.iastore, [])]),
  (88, 0, [(.lload 7, []), (.iconst 1, []), (.lushr, []), (.lstore 7, []), (.iinc 9 1, []), (.goto (-46), [3])]),
  (100, 0, [(.return_, [])])]
theorem kX8_take_ok : pm_ck 96 kX8_take = true := by decide +kernel
def kX8_rank : List pm_Bl := [
  (0, 1, [(.lload_n 1, []), (.invokestatic 93, [296, 1, 143]), (.i2l, []), (.lstore_n 3, []), (.iconst (-1), []), (.istore 5, []), (.iconst 0, []), (.istore 6, [])]),
  (12, 0, [(.iload 6, []), (.iconst 3, []), (.if_icmp .ge 39, [4]), (.iload 6, []), (.aload_n 0, []), (.getfield 55, [8, 12, 0, 88]), (.if_icmp .ge 12, [2]), (.aload_n 0, []), (.iload 5, []), (.invokevirtual 109, [98, 2, 147, 0, 0, 8]), (.goto 4, [3])]),
  (36, 3, [(.iconst 0, [])]),
  (37, 0, [(.istore 5, []), (.lload_n 3, []), (.bipush 8, []), (.lshl, []), (.iload 5, []), (.i2l, []), (.lor, []), (.lstore_n 3, []), (.iinc 6 1, []), (.goto (-39), [1])]),
  (54, 0, [(.lload_n 3, []), (.lreturn, [])])]
theorem kX8_rank_ok : pm_ck 97 kX8_rank = true := by decide +kernel
def kX8_nextChosen : List pm_Bl := [
  (0, 1, [(.sipush 160, []), (.istore_n 2, []), (.iconst 0, []), (.istore_n 3, [])]),
  (6, 2, [(.iload_n 3, []), (.aload_n 0, []), (.getfield 55, [8, 12, 0, 88]), (.if_icmp .ge 41, [3]), (.iload_n 3, []), (.iconst 3, []), (.if_icmp .ge 36, [3]), (.aload_n 0, []), (.getfield 26, [8, 3, 3, 79]), (.iload_n 3, []), (.iaload, []), (.iload_n 1, []), (.if_icmp .le 20, [2]), (.aload_n 0, []), (.getfield 26, [8, 3, 3, 79]), (.iload_n 3, []), (.iaload, []), (.iload_n 2, []), (.if_icmp .ge 10, [2]), (.aload_n 0, []), (.getfield 26, [8, 3, 3, 79]), (.iload_n 3, []), (.iaload, []), (.istore_n 2, [])]),
  (46, 0, [(.iinc 3 1, []), (.goto (-43), [1])]),
  (52, 0, [(.iload_n 2, []), (.ireturn, [0])])]
theorem kX8_nextChosen_ok : pm_ck 98 kX8_nextChosen = true := by decide +kernel
def kX8_causeMisses : List pm_Bl := [
  (0, 0, [(.aload_n 0, []), (.getfield 52, [8, 11, 1, 87]), (.bipush 24, []), (.lshr, []), (.l2i, []), (.ireturn, [0])])]
theorem kX8_causeMisses_ok : pm_ck 99 kX8_causeMisses = true := by decide +kernel
def kX8_keepCause : List pm_Bl := [
  (0, 1, [(.aload_n 0, []), (.aload_n 0, []), (.getfield 55, [8, 12, 0, 88]), (.putfield 35, [8, 6, 0, 82]), (.iconst 0, []), (.istore 4, [])]),
  (11, 0, [(.iload 4, []), (.aload_n 0, []), (.getfield 55, [8, 12, 0, 88]), (.if_icmp .ge 174, [3]), (.iload 4, []), (.iconst 3, []), (.if_icmp .ge 168, [3]), (.aload_n 0, []), (.getfield 52, [8, 11, 1, 87]), (.bipush 8, []), (.iconst 2, []), (.iload 4, []), (.isub, []), (.imul, []), (.lshr, []), (.ldc2_w 113, [4]), (.land, []), (.l2i, []), (.istore 5, []), (.iload 5, []), (.sipush 160, []), (.invokestatic 115, [184, 2, 149]), (.ifCond .ne 4, [2]), (.return_, [])]),
  (57, 0, [(.iload 4, []), (.bipush 6, []), (.imul, []), (.istore 6, []), (.aload_n 0, []), (.getfield 32, [8, 5, 3, 81]), (.iload 6, []), (.aload_n 0, []), (.getfield 12, [8, 0, 3, 75]), (.getfield 119, [2, 0, 3, 63]), (.iload 5, []), (.iaload, []), (.iastore, []), (.aload_n 0, []), (.getfield 32, [8, 5, 3, 81]), (.iload 6, []), (.iconst 1, []), (.iadd, []), (.aload_n 0, []), (.getfield 12, [8, 0, 3, 75]), (.getfield 122, [2, 1, 3, 65]), (.iload 5, []), (.iaload, []), (.iastore, []), (.aload_n 0, []), (.getfield 32, [8, 5, 3, 81]), (.iload 6, []), (.iconst 2, []), (.iadd, []), (.aload_n 0, []), (.getfield 12, [8, 0, 3, 75]), (.getfield 125, [2, 2, 3, 67]), (.iload 5, []), (.iaload, []), (.iastore, []), (.aload_n 0, []), (.getfield 32, [8, 5, 3, 81]), (.iload 6, []), (.iconst 3, []), (.iadd, []), (.aload_n 0, []), (.getfield 12, [8, 0, 3, 75]), (.getfield 128, [2, 3, 3, 69]), (.iload 5, []), (.iaload, []), (.iastore, []), (.aload_n 0, []), (.getfield 32, [8, 5, 3, 81]), (.iload 6, []), (.iconst 4, []), (.iadd, []), (.aload_n 1, []), (.aload_n 0, []), (.getfield 12, [8, 0, 3, 75]), (.getfield 119, [2, 0, 3, 63]), (.iload 5, []), (.iaload, []), (.iload_n 3, []), (.invokevirtual 131, [20, 3, 150, 0, 0, 0]), (.iastore, []), (.aload_n 0, []), (.getfield 32, [8, 5, 3, 81]), (.iload 6, []), (.iconst 5, []), (.iadd, []), (.aload_n 2, []), (.aload_n 0, []), (.getfield 12, [8, 0, 3, 75]), (.getfield 90, [2, 4, 3, 71]), (.iload 5, []), (.laload, []), (.invokevirtual 137, [85, 2, 152, 0, 0, 6]), (.iastore, []), (.iinc 4 1, []), (.goto (-177), [1])]),
  (191, 0, [(.return_, [])])]
theorem kX8_keepCause_ok : pm_ck 100 kX8_keepCause = true := by decide +kernel
def kX8_causeFact : List pm_Bl := [
  (0, 1, [(.iload_n 1, []), (.aload_n 0, []), (.getfield 35, [8, 6, 0, 82]), (.invokestatic 115, [184, 2, 149]), (.ifCond .eq 17, [1]), (.iload_n 1, []), (.iconst 3, []), (.if_icmp .ge 12, [1]), (.iload_n 2, []), (.bipush 6, []), (.invokestatic 115, [184, 2, 149]), (.ifCond .ne 6, [2])]),
  (25, 0, [(.bipush (-9), []), (.ireturn, [0])]),
  (28, 0, [(.aload_n 0, []), (.getfield 32, [8, 5, 3, 81]), (.iload_n 1, []), (.bipush 6, []), (.imul, []), (.iload_n 2, []), (.iadd, []), (.iaload, []), (.ireturn, [0])])]
theorem kX8_causeFact_ok : pm_ck 101 kX8_causeFact = true := by decide +kernel
def kX8_evenest : List pm_Bl := [
  (0, 1, [(.bipush (-9), []), (.istore_n 1, []), (.iconst 0, []), (.istore_n 2, [])]),
  (5, 0, [(.iload_n 2, []), (.aload_n 0, []), (.getfield 29, [8, 4, 3, 80]), (.arraylength, []), (.if_icmp .ge 46, [5]), (.aload_n 0, []), (.getfield 49, [8, 10, 1, 86]), (.iload_n 2, []), (.lushr, []), (.lconst 1, []), (.land, []), (.lconst 0, []), (.lcmp, []), (.ifCond .ne 6, [2]), (.goto 24, [4])]),
  (30, 3, [(.iload_n 1, []), (.bipush (-9), []), (.if_icmp .eq 16, [3]), (.aload_n 0, []), (.iload_n 2, []), (.invokevirtual 142, [103, 2, 161, 0, 0, 8]), (.aload_n 0, []), (.iload_n 1, []), (.invokevirtual 142, [103, 2, 161, 0, 0, 8]), (.if_icmp .ge 5, [4])]),
  (49, 4, [(.iload_n 2, []), (.istore_n 1, [])]),
  (51, 0, [(.iinc 2 1, []), (.goto (-49), [1])]),
  (57, 0, [(.iload_n 1, []), (.ireturn, [0])])]
theorem kX8_evenest_ok : pm_ck 102 kX8_evenest = true := by decide +kernel
def kX8_greaterPart : List pm_Bl := [
  (0, 0, [(.iload_n 1, []), (.aload_n 0, []), (.getfield 29, [8, 4, 3, 80]), (.arraylength, []), (.invokestatic 115, [184, 2, 149]), (.ifCond .eq 26, [1]), (.aload_n 0, []), (.getfield 29, [8, 4, 3, 80]), (.iload_n 1, []), (.iaload, []), (.aload_n 0, []), (.getfield 58, [8, 13, 0, 90]), (.aload_n 0, []), (.getfield 29, [8, 4, 3, 80]), (.iload_n 1, []), (.iaload, []), (.isub, []), (.invokestatic 145, [9992, 1]), (.goto 4, [2])]),
  (35, 2, [(.iconst 0, [])]),
  (36, 0, [(.ireturn, [0])])]
theorem kX8_greaterPart_ok : pm_ck 103 kX8_greaterPart = true := by decide +kernel
def kX9_init : List pm_Bl := [
  (0, 1, [(.aload_n 0, []), (.invokespecial 1, [9999, 2]), (.aload_n 0, []), (.iload_n 2, []), (.putfield 7, [9, 0, 0, 12]), (.aload_n 0, []), (.iload_n 3, []), (.putfield 13, [9, 1, 0, 13]), (.aload_n 0, []), (.iload_n 1, []), (.newarray .int, [0]), (.putfield 16, [9, 2, 3, 14]), (.aload_n 0, []), (.iload_n 1, []), (.iload_n 2, []), (.imul, []), (.newarray .int, [0]), (.putfield 20, [9, 3, 3, 15]), (.iconst 0, []), (.istore 4, [])]),
  (33, 0, [(.iload 4, []), (.iload_n 1, []), (.if_icmp .ge 17, [2]), (.aload_n 0, []), (.getfield 16, [9, 2, 3, 14]), (.iload 4, []), (.iconst (-1), []), (.iastore, []), (.iinc 4 1, []), (.goto (-17), [1])]),
  (53, 0, [(.return_, [])])]
theorem kX9_init_ok : pm_ck 104 kX9_init = true := by decide +kernel
def kX9_has : List pm_Bl := [
  (0, 0, [(.iload_n 1, []), (.ifCond .lt 16, [1]), (.iload_n 1, []), (.aload_n 0, []), (.getfield 16, [9, 2, 3, 14]), (.arraylength, []), (.if_icmp .ge 7, [1]), (.iconst 1, []), (.goto 4, [2])]),
  (17, 2, [(.iconst 0, [])]),
  (18, 0, [(.ireturn, [1])])]
theorem kX9_has_ok : pm_ck 105 kX9_has = true := by decide +kernel
def kX9_size : List pm_Bl := [
  (0, 0, [(.aload_n 0, []), (.iload_n 1, []), (.invokevirtual 23, [105, 2, 16, 0, 0, 9]), (.ifCond .eq 12, [1]), (.aload_n 0, []), (.getfield 16, [9, 2, 3, 14]), (.iload_n 1, []), (.iaload, []), (.goto 4, [2])]),
  (17, 2, [(.iconst (-1), [])]),
  (18, 0, [(.ireturn, [0])])]
theorem kX9_size_ok : pm_ck 106 kX9_size = true := by decide +kernel
def kX9_missing : List pm_Bl := [
  (0, 0, [(.aload_n 0, []), (.iload_n 1, []), (.invokevirtual 27, [106, 2, 19, 0, 0, 9]), (.ifCond .ge 7, [1]), (.iconst 1, []), (.goto 4, [2])]),
  (12, 2, [(.iconst 0, [])]),
  (13, 0, [(.ireturn, [1])])]
theorem kX9_missing_ok : pm_ck 107 kX9_missing = true := by decide +kernel
def kX9_inside : List pm_Bl := [
  (0, 0, [(.iload_n 2, []), (.ifCond .lt 16, [1]), (.iload_n 2, []), (.aload_n 0, []), (.iload_n 1, []), (.invokevirtual 27, [106, 2, 19, 0, 0, 9]), (.if_icmp .ge 7, [1]), (.iconst 1, []), (.goto 4, [2])]),
  (17, 2, [(.iconst 0, [])]),
  (18, 0, [(.ireturn, [1])])]
theorem kX9_inside_ok : pm_ck 108 kX9_inside = true := by decide +kernel
def kX9_spans : List pm_Bl := [
  (0, 0, [(.iload_n 2, []), (.ifCond .lt 31, [1]), (.iload_n 2, []), (.aload_n 0, []), (.iload_n 1, []), (.invokevirtual 27, [106, 2, 19, 0, 0, 9]), (.if_icmp .gt 22, [1]), (.iload_n 3, []), (.ifCond .lt 18, [1]), (.iload_n 3, []), (.aload_n 0, []), (.iload_n 1, []), (.invokevirtual 27, [106, 2, 19, 0, 0, 9]), (.iload_n 2, []), (.isub, []), (.if_icmp .gt 7, [1]), (.iconst 1, []), (.goto 4, [2])]),
  (32, 2, [(.iconst 0, [])]),
  (33, 0, [(.ireturn, [1])])]
theorem kX9_spans_ok : pm_ck 109 kX9_spans = true := by decide +kernel
def kX9_at : List pm_Bl := [
  (0, 0, [(.aload_n 0, []), (.iload_n 1, []), (.iload_n 2, []), (.invokevirtual 31, [108, 3, 23, 0, 0, 9]), (.ifCond .eq 19, [1]), (.aload_n 0, []), (.getfield 20, [9, 3, 3, 15]), (.iload_n 1, []), (.aload_n 0, []), (.getfield 7, [9, 0, 0, 12]), (.imul, []), (.iload_n 2, []), (.iadd, []), (.iaload, []), (.goto 7, [2])]),
  (25, 2, [(.aload_n 0, []), (.getfield 13, [9, 1, 0, 13])]),
  (29, 0, [(.ireturn, [0])])]
theorem kX9_at_ok : pm_ck 110 kX9_at = true := by decide +kernel
def kX9_bring : List pm_Bl := [
  (0, 1, [(.aload_n 0, []), (.iload_n 1, []), (.invokevirtual 23, [105, 2, 16, 0, 0, 9]), (.ifCond .eq 15, [1]), (.iload_n 2, []), (.ifCond .lt 11, [1]), (.iload_n 2, []), (.aload_n 0, []), (.getfield 7, [9, 0, 0, 12]), (.if_icmp .le 4, [2])]),
  (20, 0, [(.return_, [])]),
  (21, 3, [(.aload_n 0, []), (.getfield 16, [9, 2, 3, 14]), (.iload_n 1, []), (.iload_n 2, []), (.iastore, []), (.iconst 0, []), (.istore_n 3, [])]),
  (30, 0, [(.iload_n 3, []), (.iload_n 2, []), (.if_icmp .ge 26, [4]), (.aload_n 0, []), (.getfield 20, [9, 3, 3, 15]), (.iload_n 1, []), (.aload_n 0, []), (.getfield 7, [9, 0, 0, 12]), (.imul, []), (.iload_n 3, []), (.iadd, []), (.aload_n 0, []), (.getfield 13, [9, 1, 0, 13]), (.iastore, []), (.iinc 3 1, []), (.goto (-25), [3])]),
  (58, 0, [(.return_, [])])]
theorem kX9_bring_ok : pm_ck 111 kX9_bring = true := by decide +kernel
def kX9_drop : List pm_Bl := [
  (0, 1, [(.aload_n 0, []), (.iload_n 1, []), (.invokevirtual 23, [105, 2, 16, 0, 0, 9]), (.ifCond .eq 10, [1]), (.aload_n 0, []), (.getfield 16, [9, 2, 3, 14]), (.iload_n 1, []), (.iconst (-1), []), (.iastore, [])]),
  (15, 0, [(.return_, [])])]
theorem kX9_drop_ok : pm_ck 112 kX9_drop = true := by decide +kernel
def kX9_change : List pm_Bl := [
  (0, 1, [(.aload_n 0, []), (.iload_n 1, []), (.iload_n 2, []), (.invokevirtual 35, [110, 3, 22, 0, 0, 9]), (.istore 4, []), (.aload_n 0, []), (.iload_n 1, []), (.iload_n 2, []), (.invokevirtual 31, [108, 3, 23, 0, 0, 9]), (.ifCond .eq 17, [1]), (.aload_n 0, []), (.getfield 20, [9, 3, 3, 15]), (.iload_n 1, []), (.aload_n 0, []), (.getfield 7, [9, 0, 0, 12]), (.imul, []), (.iload_n 2, []), (.iadd, []), (.iload_n 3, []), (.iastore, [])]),
  (31, 0, [(.iload 4, []), (.ireturn, [0])])]
theorem kX9_change_ok : pm_ck 113 kX9_change = true := by decide +kernel
def kX9_move : List pm_Bl := [
  (0, 1, [(.aload_n 0, []), (.iload_n 1, []), (.iload_n 2, []), (.iload 5, []), (.invokevirtual 39, [109, 4, 30, 0, 0, 9]), (.ifCond .eq 15, [1]), (.aload_n 0, []), (.iload_n 3, []), (.iload 4, []), (.iload 5, []), (.invokevirtual 39, [109, 4, 30, 0, 0, 9]), (.ifCond .ne 4, [2])]),
  (23, 0, [(.return_, [])]),
  (24, 0, [(.aload_n 0, []), (.getfield 20, [9, 3, 3, 15]), (.iload_n 1, []), (.aload_n 0, []), (.getfield 7, [9, 0, 0, 12]), (.imul, []), (.iload_n 2, []), (.iadd, []), (.aload_n 0, []), (.getfield 20, [9, 3, 3, 15]), (.iload_n 3, []), (.aload_n 0, []), (.getfield 7, [9, 0, 0, 12]), (.imul, []), (.iload 4, []), (.iadd, []), (.iload 5, []), (.invokestatic 43, [9999]), (.return_, [])])]
theorem kX9_move_ok : pm_ck 114 kX9_move = true := by decide +kernel
def kX9_present : List pm_Bl := [
  (0, 1, [(.iconst 0, []), (.istore_n 1, []), (.iconst 0, []), (.istore_n 2, [])]),
  (4, 2, [(.iload_n 2, []), (.aload_n 0, []), (.getfield 16, [9, 2, 3, 14]), (.arraylength, []), (.if_icmp .ge 21, [3]), (.aload_n 0, []), (.getfield 16, [9, 2, 3, 14]), (.iload_n 2, []), (.iaload, []), (.ifCond .lt 6, [2]), (.iinc 1 1, [])]),
  (25, 0, [(.iinc 2 1, []), (.goto (-24), [1])]),
  (31, 0, [(.iload_n 1, []), (.ireturn, [0])])]
theorem kX9_present_ok : pm_ck 115 kX9_present = true := by decide +kernel
def kX9_mix : List pm_Bl := [
  (0, 1, [(.iconst 0, []), (.istore_n 3, [])]),
  (2, 2, [(.iload_n 3, []), (.aload_n 0, []), (.getfield 16, [9, 2, 3, 14]), (.arraylength, []), (.if_icmp .ge 58, [4]), (.ldc2_w 49, [16]), (.lload_n 1, []), (.lmul, []), (.aload_n 0, []), (.getfield 16, [9, 2, 3, 14]), (.iload_n 3, []), (.iaload, []), (.i2l, []), (.ladd, []), (.lstore_n 1, []), (.iconst 0, []), (.istore 4, [])]),
  (28, 0, [(.iload 4, []), (.aload_n 0, []), (.getfield 16, [9, 2, 3, 14]), (.iload_n 3, []), (.iaload, []), (.if_icmp .ge 24, [3]), (.ldc2_w 49, [16]), (.lload_n 1, []), (.lmul, []), (.aload_n 0, []), (.iload_n 3, []), (.iload 4, []), (.invokevirtual 35, [110, 3, 22, 0, 0, 9]), (.i2l, []), (.ladd, []), (.lstore_n 1, []), (.iinc 4 1, []), (.goto (-29), [2])]),
  (60, 0, [(.iinc 3 1, []), (.goto (-61), [1])]),
  (66, 0, [(.lload_n 1, []), (.lreturn, [])])]
theorem kX9_mix_ok : pm_ck 116 kX9_mix = true := by decide +kernel
def kX10_init : List pm_Bl := [
  (0, 0, [(.aload_n 0, []), (.invokespecial 3, [9999, 1]), (.aload_n 0, []), (.bipush 6, []), (.newarray .int, [0]), (.putfield 9, [10, 0, 3, 0]), (.aload_n 0, []), (.iconst 0, []), (.putfield 15, [10, 1, 0, 2]), (.aload_n 0, []), (.iconst 0, []), (.putfield 19, [10, 2, 0, 4]), (.aload_n 0, []), (.lconst 0, []), (.putfield 22, [10, 3, 1, 6]), (.aload_n 0, []), (.lconst 1, []), (.putfield 26, [10, 4, 1, 8]), (.aload_n 0, []), (.lconst 0, []), (.putfield 29, [10, 5, 1, 10]), (.return_, [])])]
theorem kX10_init_ok : pm_ck 117 kX10_init = true := by decide +kernel
def kX10_found : List pm_Bl := [
  (0, 1, [(.aload_n 0, []), (.iload_n 1, []), (.putfield 15, [10, 1, 0, 2]), (.iload_n 1, []), (.ifCond .lt 22, [1]), (.iload_n 1, []), (.aload_n 0, []), (.getfield 9, [10, 0, 3, 0]), (.arraylength, []), (.if_icmp .ge 13, [1]), (.aload_n 0, []), (.getfield 9, [10, 0, 3, 0]), (.iload_n 1, []), (.dup2, []), (.iaload, []), (.iconst 1, []), (.iadd, []), (.iastore, [])]),
  (28, 0, [(.bipush (-3), []), (.ireturn, [0])])]
theorem kX10_found_ok : pm_ck 118 kX10_found = true := by decide +kernel
def kX10_asks : List pm_Bl := [
  (0, 0, [(.aload_n 0, []), (.iload_n 1, []), (.putfield 19, [10, 2, 0, 4]), (.iconst 1, []), (.ireturn, [0])])]
theorem kX10_asks_ok : pm_ck 119 kX10_asks = true := by decide +kernel
def kX10_fraction : List pm_Bl := [
  (0, 0, [(.lload_n 1, []), (.lload_n 3, []), (.invokestatic 32, [121, 2, 187]), (.lstore 5, []), (.lload 5, []), (.lconst 0, []), (.lcmp, []), (.ifCond .gt 4, [1]), (.return_, [])]),
  (15, 0, [(.aload_n 0, []), (.lload_n 1, []), (.lload 5, []), (.ldiv, []), (.putfield 22, [10, 3, 1, 6]), (.aload_n 0, []), (.lload_n 3, []), (.lload 5, []), (.ldiv, []), (.putfield 26, [10, 4, 1, 8]), (.return_, [])])]
theorem kX10_fraction_ok : pm_ck 120 kX10_fraction = true := by decide +kernel
def kX10_commonDivisor : List pm_Bl := [
  (0, 1, [(.iconst 0, []), (.istore 4, [])]),
  (3, 0, [(.iload 4, []), (.sipush 200, []), (.if_icmp .ge 25, [2]), (.lload_n 2, []), (.lconst 0, []), (.lcmp, []), (.ifCond .eq 19, [2]), (.lload_n 0, []), (.lload_n 2, []), (.lrem, []), (.lstore 5, []), (.lload_n 2, []), (.lstore_n 0, []), (.lload 5, []), (.lstore_n 2, []), (.iinc 4 1, []), (.goto (-27), [1])]),
  (33, 0, [(.lload_n 0, []), (.lreturn, [])])]
theorem kX10_commonDivisor_ok : pm_ck 121 kX10_commonDivisor = true := by decide +kernel
