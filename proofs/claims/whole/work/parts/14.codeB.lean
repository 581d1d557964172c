def kX11_init : List pm_Bl := [
  (0, 0, [(.aload_n 0, []), (.invokespecial 1, [9999, 0]), (.aload_n 0, []), (.new 7, [10, 1]), (.dup, []), (.invokespecial 9, [117, 1, 1, 1, 6, 10]), (.putfield 10, [11, 0, 3, 113]), (.aload_n 0, []), (.new 16, [9, 2]), (.dup, []), (.bipush 6, []), (.bipush 24, []), (.iconst 0, []), (.invokespecial 18, [104, 4, 2, 2, 200, 9]), (.putfield 21, [11, 1, 3, 114]), (.aload_n 0, []), (.new 16, [9, 2]), (.dup, []), (.iconst 4, []), (.bipush 48, []), (.bipush 32, []), (.invokespecial 18, [104, 4, 2, 2, 200, 9]), (.putfield 25, [11, 2, 3, 115]), (.aload_n 0, []), (.new 28, [0, 3]), (.dup, []), (.invokespecial 30, [0, 1, 3, 9, 600, 0]), (.putfield 31, [11, 3, 3, 116]), (.aload_n 0, []), (.new 35, [3, 4]), (.dup, []), (.invokespecial 37, [40, 1, 4, 3, 24, 3]), (.putfield 38, [11, 4, 3, 117]), (.aload_n 0, []), (.new 42, [6, 5]), (.dup, []), (.invokespecial 44, [72, 1, 5, 7, 240, 6]), (.putfield 45, [11, 5, 3, 118]), (.aload_n 0, []), (.new 49, [5, 6]), (.dup, []), (.invokespecial 51, [53, 1, 6, 5, 921, 5]), (.putfield 52, [11, 6, 3, 119]), (.aload_n 0, []), (.new 56, [4, 7]), (.dup, []), (.invokespecial 58, [47, 1, 7, 4, 240, 4]), (.putfield 59, [11, 7, 3, 120]), (.aload_n 0, []), (.new 63, [8, 8]), (.dup, []), (.invokespecial 65, [91, 1, 8, 12, 1249, 8]), (.putfield 66, [11, 8, 3, 121]), (.aload_n 0, []), (.new 70, [7, 10]), (.dup, []), (.invokespecial 72, [86, 1, 10, 4, 240, 7]), (.putfield 73, [11, 9, 3, 122]), (.aload_n 0, []), (.new 77, [1, 11]), (.dup, []), (.invokespecial 79, [22, 1, 11, 7, 560, 1]), (.putfield 80, [11, 10, 3, 123]), (.aload_n 0, []), (.iconst 0, []), (.putfield 84, [11, 11, 0, 124]), (.return_, [])])]
theorem kX11_init_ok : pm_ck 122 kX11_init = true := by decide +kernel
def kX11_row : List pm_Bl := [
  (0, 1, [(.aload_n 0, []), (.getfield 21, [11, 1, 3, 114]), (.iload_n 1, []), (.invokevirtual 88, [105, 2, 13, 0, 0, 9]), (.ifCond .eq 9, [1]), (.iload_n 2, []), (.bipush 24, []), (.if_icmp .le 5, [2])]),
  (17, 0, [(.iconst (-1), []), (.ireturn, [0])]),
  (19, 0, [(.iload_n 2, []), (.ifCond .ge 12, [3]), (.aload_n 0, []), (.getfield 10, [11, 0, 3, 113]), (.iconst 5, []), (.invokevirtual 92, [118, 2, 14, 0, 0, 10]), (.ireturn, [0])]),
  (32, 0, [(.aload_n 0, []), (.getfield 21, [11, 1, 3, 114]), (.iload_n 1, []), (.iload_n 2, []), (.invokevirtual 96, [111, 3, 15, 0, 0, 9]), (.iload_n 2, []), (.ireturn, [0])])]
theorem kX11_row_ok : pm_ck 123 kX11_row = true := by decide +kernel
def kX11_lay : List pm_Bl := [
  (0, 0, [(.aload_n 0, []), (.getfield 21, [11, 1, 3, 114]), (.iload_n 1, []), (.invokevirtual 88, [105, 2, 13, 0, 0, 9]), (.ifCond .ne 5, [1]), (.iconst (-1), []), (.ireturn, [0])]),
  (13, 0, [(.aload_n 0, []), (.getfield 21, [11, 1, 3, 114]), (.iload_n 1, []), (.invokevirtual 100, [107, 2, 18, 0, 0, 9]), (.ifCond .eq 12, [2]), (.aload_n 0, []), (.getfield 10, [11, 0, 3, 113]), (.iconst 1, []), (.invokevirtual 92, [118, 2, 14, 0, 0, 10]), (.ireturn, [0])]),
  (33, 0, [(.aload_n 0, []), (.getfield 21, [11, 1, 3, 114]), (.iload_n 1, []), (.iload_n 2, []), (.invokevirtual 103, [108, 3, 20, 0, 0, 9]), (.ifCond .ne 12, [3]), (.aload_n 0, []), (.getfield 10, [11, 0, 3, 113]), (.iconst 2, []), (.invokevirtual 92, [118, 2, 14, 0, 0, 10]), (.ireturn, [0])]),
  (54, 0, [(.aload_n 0, []), (.getfield 10, [11, 0, 3, 113]), (.aload_n 0, []), (.getfield 21, [11, 1, 3, 114]), (.iload_n 1, []), (.iload_n 2, []), (.iload_n 3, []), (.invokevirtual 107, [113, 4, 21, 0, 0, 9]), (.invokevirtual 111, [119, 2, 24, 0, 0, 10]), (.ireturn, [0])])]
theorem kX11_lay_ok : pm_ck 124 kX11_lay = true := by decide +kernel
def kX11_tear : List pm_Bl := [
  (0, 0, [(.aload_n 0, []), (.getfield 21, [11, 1, 3, 114]), (.iload_n 1, []), (.invokevirtual 88, [105, 2, 13, 0, 0, 9]), (.ifCond .ne 5, [1]), (.iconst (-1), []), (.ireturn, [0])]),
  (13, 0, [(.aload_n 0, []), (.getfield 21, [11, 1, 3, 114]), (.iload_n 1, []), (.invokevirtual 100, [107, 2, 18, 0, 0, 9]), (.ifCond .eq 12, [2]), (.aload_n 0, []), (.getfield 10, [11, 0, 3, 113]), (.iconst 1, []), (.invokevirtual 92, [118, 2, 14, 0, 0, 10]), (.ireturn, [0])]),
  (33, 0, [(.aload_n 0, []), (.getfield 21, [11, 1, 3, 114]), (.iload_n 1, []), (.invokevirtual 114, [112, 2, 26, 0, 0, 9]), (.iconst 1, []), (.ireturn, [0])])]
theorem kX11_tear_ok : pm_ck 125 kX11_tear = true := by decide +kernel
def kX11_copy : List pm_Bl := [
  (0, 1, [(.aload_n 0, []), (.getfield 21, [11, 1, 3, 114]), (.iload_n 1, []), (.invokevirtual 88, [105, 2, 13, 0, 0, 9]), (.ifCond .eq 14, [1]), (.aload_n 0, []), (.getfield 21, [11, 1, 3, 114]), (.iload_n 3, []), (.invokevirtual 88, [105, 2, 13, 0, 0, 9]), (.ifCond .ne 5, [2])]),
  (22, 0, [(.iconst (-1), []), (.ireturn, [0])]),
  (24, 0, [(.iload 5, []), (.ifCond .ge 12, [3]), (.aload_n 0, []), (.getfield 10, [11, 0, 3, 113]), (.iconst 5, []), (.invokevirtual 92, [118, 2, 14, 0, 0, 10]), (.ireturn, [0])]),
  (38, 4, [(.aload_n 0, []), (.getfield 21, [11, 1, 3, 114]), (.iload_n 1, []), (.invokevirtual 100, [107, 2, 18, 0, 0, 9]), (.ifCond .ne 14, [4]), (.aload_n 0, []), (.getfield 21, [11, 1, 3, 114]), (.iload_n 3, []), (.invokevirtual 100, [107, 2, 18, 0, 0, 9]), (.ifCond .eq 12, [5])]),
  (60, 0, [(.aload_n 0, []), (.getfield 10, [11, 0, 3, 113]), (.iconst 1, []), (.invokevirtual 92, [118, 2, 14, 0, 0, 10]), (.ireturn, [0])]),
  (69, 6, [(.aload_n 0, []), (.getfield 21, [11, 1, 3, 114]), (.iload_n 1, []), (.iload_n 2, []), (.iload 5, []), (.invokevirtual 118, [109, 4, 28, 0, 0, 9]), (.ifCond .eq 18, [6]), (.aload_n 0, []), (.getfield 21, [11, 1, 3, 114]), (.iload_n 3, []), (.iload 4, []), (.iload 5, []), (.invokevirtual 118, [109, 4, 28, 0, 0, 9]), (.ifCond .ne 12, [7])]),
  (98, 0, [(.aload_n 0, []), (.getfield 10, [11, 0, 3, 113]), (.iconst 2, []), (.invokevirtual 92, [118, 2, 14, 0, 0, 10]), (.ireturn, [0])]),
  (107, 0, [(.aload_n 0, []), (.getfield 21, [11, 1, 3, 114]), (.iload_n 1, []), (.iload_n 2, []), (.iload_n 3, []), (.iload 4, []), (.iload 5, []), (.invokevirtual 122, [114, 6, 29, 0, 0, 9]), (.iconst 1, []), (.ireturn, [0])])]
theorem kX11_copy_ok : pm_ck 126 kX11_copy = true := by decide +kernel
def kX11_text : List pm_Bl := [
  (0, 1, [(.aload_n 0, []), (.getfield 25, [11, 2, 3, 115]), (.iload_n 1, []), (.invokevirtual 88, [105, 2, 13, 0, 0, 9]), (.ifCond .eq 9, [1]), (.iload_n 2, []), (.bipush 48, []), (.if_icmp .le 5, [2])]),
  (17, 0, [(.iconst (-1), []), (.ireturn, [0])]),
  (19, 0, [(.iload_n 2, []), (.ifCond .ge 12, [3]), (.aload_n 0, []), (.getfield 10, [11, 0, 3, 113]), (.iconst 5, []), (.invokevirtual 92, [118, 2, 14, 0, 0, 10]), (.ireturn, [0])]),
  (32, 0, [(.aload_n 0, []), (.getfield 25, [11, 2, 3, 115]), (.iload_n 1, []), (.iload_n 2, []), (.invokevirtual 96, [111, 3, 15, 0, 0, 9]), (.iload_n 2, []), (.ireturn, [0])])]
theorem kX11_text_ok : pm_ck 127 kX11_text = true := by decide +kernel
def kX11_put : List pm_Bl := [
  (0, 0, [(.aload_n 0, []), (.getfield 25, [11, 2, 3, 115]), (.iload_n 1, []), (.invokevirtual 88, [105, 2, 13, 0, 0, 9]), (.ifCond .ne 5, [1]), (.iconst (-1), []), (.ireturn, [0])]),
  (13, 0, [(.aload_n 0, []), (.getfield 25, [11, 2, 3, 115]), (.iload_n 1, []), (.invokevirtual 100, [107, 2, 18, 0, 0, 9]), (.ifCond .eq 12, [2]), (.aload_n 0, []), (.getfield 10, [11, 0, 3, 113]), (.iconst 1, []), (.invokevirtual 92, [118, 2, 14, 0, 0, 10]), (.ireturn, [0])]),
  (33, 0, [(.aload_n 0, []), (.getfield 25, [11, 2, 3, 115]), (.iload_n 1, []), (.iload_n 2, []), (.invokevirtual 103, [108, 3, 20, 0, 0, 9]), (.ifCond .ne 12, [3]), (.aload_n 0, []), (.getfield 10, [11, 0, 3, 113]), (.iconst 2, []), (.invokevirtual 92, [118, 2, 14, 0, 0, 10]), (.ireturn, [0])]),
  (54, 0, [(.sipush 1000, []), (.aload_n 0, []), (.getfield 25, [11, 2, 3, 115]), (.iload_n 1, []), (.iload_n 2, []), (.iload_n 3, []), (.i2b, []), (.invokevirtual 107, [113, 4, 21, 0, 0, 9]), (.iadd, []), (.ireturn, [0])])]
theorem kX11_put_ok : pm_ck 128 kX11_put = true := by decide +kernel
def kX11_burn : List pm_Bl := [
  (0, 0, [(.aload_n 0, []), (.getfield 25, [11, 2, 3, 115]), (.iload_n 1, []), (.invokevirtual 88, [105, 2, 13, 0, 0, 9]), (.ifCond .ne 5, [1]), (.iconst (-1), []), (.ireturn, [0])]),
  (13, 0, [(.aload_n 0, []), (.getfield 25, [11, 2, 3, 115]), (.iload_n 1, []), (.invokevirtual 100, [107, 2, 18, 0, 0, 9]), (.ifCond .eq 12, [2]), (.aload_n 0, []), (.getfield 10, [11, 0, 3, 113]), (.iconst 1, []), (.invokevirtual 92, [118, 2, 14, 0, 0, 10]), (.ireturn, [0])]),
  (33, 0, [(.aload_n 0, []), (.getfield 25, [11, 2, 3, 115]), (.iload_n 1, []), (.invokevirtual 114, [112, 2, 26, 0, 0, 9]), (.iconst 1, []), (.ireturn, [0])])]
theorem kX11_burn_ok : pm_ck 129 kX11_burn = true := by decide +kernel
def kX11_fault : List pm_Bl := [
  (0, 0, [(.aload_n 0, []), (.getfield 25, [11, 2, 3, 115]), (.iload_n 1, []), (.invokevirtual 88, [105, 2, 13, 0, 0, 9]), (.ifCond .ne 5, [1]), (.iconst (-1), []), (.ireturn, [0])]),
  (13, 0, [(.aload_n 0, []), (.getfield 25, [11, 2, 3, 115]), (.iload_n 1, []), (.invokevirtual 100, [107, 2, 18, 0, 0, 9]), (.ifCond .eq 12, [2]), (.aload_n 0, []), (.getfield 10, [11, 0, 3, 113]), (.iconst 1, []), (.invokevirtual 92, [118, 2, 14, 0, 0, 10]), (.ireturn, [0])]),
  (33, 0, [(.aload_n 0, []), (.getfield 52, [11, 6, 3, 119]), (.aload_n 0, []), (.getfield 25, [11, 2, 3, 115]), (.iload_n 1, []), (.invokevirtual 126, [63, 3, 35, 0, 0, 5]), (.ireturn, [0])])]
theorem kX11_fault_ok : pm_ck 130 kX11_fault = true := by decide +kernel
def kX11_later : List pm_Bl := [
  (0, 1, [(.iload_n 1, []), (.ifCond .lt 15, [1]), (.iload_n 1, []), (.sipush 999, []), (.aload_n 0, []), (.getfield 84, [11, 11, 0, 124]), (.isub, []), (.if_icmp .le 5, [2])]),
  (16, 0, [(.iconst (-1), []), (.ireturn, [0])]),
  (18, 0, [(.aload_n 0, []), (.dup, []), (.getfield 84, [11, 11, 0, 124]), (.iload_n 1, []), (.iadd, []), (.putfield 84, [11, 11, 0, 124]), (.aload_n 0, []), (.getfield 84, [11, 11, 0, 124]), (.ireturn, [0])])]
theorem kX11_later_ok : pm_ck 131 kX11_later = true := by decide +kernel
def kX11_lacquer : List pm_Bl := [
  (0, 1, [(.iload_n 1, []), (.bipush 20, []), (.invokestatic 130, [184, 2, 51]), (.ifCond .eq 12, [1]), (.iload_n 2, []), (.bipush 10, []), (.invokestatic 130, [184, 2, 51]), (.ifCond .ne 5, [2])]),
  (18, 0, [(.iconst (-1), []), (.ireturn, [0])]),
  (20, 0, [(.aload_n 0, []), (.getfield 31, [11, 3, 3, 116]), (.getfield 133, [0, 9, 0, 27]), (.bipush 40, []), (.if_icmp .lt 6, [3]), (.bipush (-2), []), (.ireturn, [0])]),
  (35, 0, [(.aload_n 0, []), (.getfield 31, [11, 3, 3, 116]), (.iload_n 1, []), (.invokevirtual 136, [7, 2, 52, 0, 0, 0]), (.ifCond .eq 6, [4]), (.bipush (-4), []), (.ireturn, [0])]),
  (49, 0, [(.aload_n 0, []), (.getfield 31, [11, 3, 3, 116]), (.iconst 0, []), (.iload_n 1, []), (.bipush (-9), []), (.iload_n 2, []), (.aload_n 0, []), (.getfield 84, [11, 11, 0, 124]), (.invokevirtual 139, [8, 6, 53, 0, 0, 0]), (.ireturn, [0])])]
theorem kX11_lacquer_ok : pm_ck 132 kX11_lacquer = true := by decide +kernel
def kX11_grow : List pm_Bl := [
  (0, 1, [(.aload_n 0, []), (.getfield 31, [11, 3, 3, 116]), (.iload_n 1, []), (.invokevirtual 143, [1, 2, 55, 0, 0, 0]), (.ifCond .eq 22, [1]), (.iload_n 2, []), (.iconst 1, []), (.if_icmp .lt 17, [1]), (.iload_n 2, []), (.iconst 3, []), (.if_icmp .gt 12, [1]), (.iload_n 3, []), (.bipush 10, []), (.invokestatic 130, [184, 2, 51]), (.ifCond .ne 5, [2])]),
  (30, 0, [(.iconst (-1), []), (.ireturn, [0])]),
  (32, 0, [(.aload_n 0, []), (.getfield 31, [11, 3, 3, 116]), (.getfield 133, [0, 9, 0, 27]), (.bipush 40, []), (.if_icmp .lt 6, [3]), (.bipush (-2), []), (.ireturn, [0])]),
  (47, 4, [(.aload_n 0, []), (.getfield 31, [11, 3, 3, 116]), (.iload_n 1, []), (.invokevirtual 144, [6, 2, 56, 0, 0, 0]), (.ifCond .ne 14, [4]), (.aload_n 0, []), (.getfield 38, [11, 4, 3, 117]), (.iload_n 1, []), (.invokevirtual 147, [43, 2, 58, 0, 0, 3]), (.ifCond .eq 6, [5])]),
  (69, 0, [(.bipush (-4), []), (.ireturn, [0])]),
  (72, 0, [(.aload_n 0, []), (.getfield 52, [11, 6, 3, 119]), (.aload_n 0, []), (.getfield 31, [11, 3, 3, 116]), (.iload_n 1, []), (.invokevirtual 150, [2, 2, 59, 0, 0, 0]), (.iload_n 2, []), (.invokestatic 153, [54, 2, 60]), (.aload_n 0, []), (.getfield 84, [11, 11, 0, 124]), (.aload_n 0, []), (.getfield 84, [11, 11, 0, 124]), (.invokevirtual 157, [60, 4, 61, 0, 0, 5]), (.istore 4, []), (.aload_n 0, []), (.getfield 31, [11, 3, 3, 116]), (.iload_n 1, []), (.iload_n 2, []), (.invokevirtual 160, [12, 3, 65, 0, 0, 0]), (.iload 4, []), (.if_icmp .lt 6, [6]), (.bipush (-4), []), (.ireturn, [0])]),
  (118, 0, [(.aload_n 0, []), (.getfield 31, [11, 3, 3, 116]), (.iload_n 2, []), (.aload_n 0, []), (.getfield 31, [11, 3, 3, 116]), (.iload_n 1, []), (.invokevirtual 163, [3, 2, 66, 0, 0, 0]), (.iload_n 1, []), (.iload_n 3, []), (.aload_n 0, []), (.getfield 84, [11, 11, 0, 124]), (.invokevirtual 139, [8, 6, 53, 0, 0, 0]), (.ireturn, [0])])]
theorem kX11_grow_ok : pm_ck 133 kX11_grow = true := by decide +kernel
def kX11_state : List pm_Bl := [
  (0, 1, [(.aload_n 0, []), (.getfield 31, [11, 3, 3, 116]), (.iload_n 1, []), (.invokevirtual 143, [1, 2, 55, 0, 0, 0]), (.ifCond .eq 12, [1]), (.iload_n 2, []), (.ifCond .lt 8, [1]), (.iload_n 2, []), (.iconst 3, []), (.if_icmp .le 5, [2])]),
  (20, 0, [(.iconst (-1), []), (.ireturn, [0])]),
  (22, 3, [(.aload_n 0, []), (.getfield 31, [11, 3, 3, 116]), (.iload_n 1, []), (.invokevirtual 144, [6, 2, 56, 0, 0, 0]), (.istore_n 3, []), (.aload_n 0, []), (.getfield 38, [11, 4, 3, 117]), (.iload_n 1, []), (.invokevirtual 147, [43, 2, 58, 0, 0, 3]), (.ifCond .ne 8, [3]), (.iload_n 3, []), (.iconst 1, []), (.if_icmp .ne 6, [4])]),
  (47, 0, [(.bipush (-4), []), (.ireturn, [0])]),
  (50, 0, [(.aload_n 0, []), (.getfield 31, [11, 3, 3, 116]), (.getfield 166, [0, 10, 0, 29]), (.bipush 120, []), (.if_icmp .lt 6, [5]), (.bipush (-2), []), (.ireturn, [0])]),
  (65, 0, [(.aload_n 0, []), (.getfield 31, [11, 3, 3, 116]), (.iload_n 1, []), (.iload_n 2, []), (.aload_n 0, []), (.getfield 84, [11, 11, 0, 124]), (.invokevirtual 169, [9, 4, 68, 0, 0, 0]), (.iload_n 3, []), (.ireturn, [0])])]
theorem kX11_state_ok : pm_ck 134 kX11_state = true := by decide +kernel
def kX11_told : List pm_Bl := [
  (0, 1, [(.aload_n 0, []), (.getfield 31, [11, 3, 3, 116]), (.iload_n 1, []), (.invokevirtual 143, [1, 2, 55, 0, 0, 0]), (.ifCond .eq 12, [1]), (.iload_n 2, []), (.bipush 7, []), (.invokestatic 130, [184, 2, 51]), (.ifCond .ne 5, [2])]),
  (20, 0, [(.iconst (-1), []), (.ireturn, [0])]),
  (22, 0, [(.aload_n 0, []), (.getfield 10, [11, 0, 3, 113]), (.aload_n 0, []), (.getfield 31, [11, 3, 3, 116]), (.iload_n 1, []), (.iload_n 2, []), (.invokevirtual 171, [19, 3, 70, 0, 0, 0]), (.invokevirtual 111, [119, 2, 24, 0, 0, 10]), (.ireturn, [0])])]
theorem kX11_told_ok : pm_ck 135 kX11_told = true := by decide +kernel
def kX11_mark : List pm_Bl := [
  (0, 1, [(.aload_n 0, []), (.getfield 31, [11, 3, 3, 116]), (.iload_n 1, []), (.invokevirtual 143, [1, 2, 55, 0, 0, 0]), (.ifCond .eq 11, [1]), (.iload_n 2, []), (.iconst 4, []), (.invokestatic 130, [184, 2, 51]), (.ifCond .ne 5, [2])]),
  (19, 0, [(.iconst (-1), []), (.ireturn, [0])]),
  (21, 0, [(.aload_n 0, []), (.getfield 31, [11, 3, 3, 116]), (.iload_n 1, []), (.invokevirtual 150, [2, 2, 59, 0, 0, 0]), (.iload_n 2, []), (.if_icmp .eq 12, [3]), (.aload_n 0, []), (.getfield 10, [11, 0, 3, 113]), (.iconst 3, []), (.invokevirtual 92, [118, 2, 14, 0, 0, 10]), (.ireturn, [0])]),
  (42, 0, [(.iload_n 2, []), (.tableswitch 54 0 2 #[25, 34, 44], [7, 4, 5, 6])]),
  (68, 0, [(.aload_n 0, []), (.getfield 31, [11, 3, 3, 116]), (.iload_n 1, []), (.invokevirtual 174, [16, 2, 73, 0, 0, 0]), (.ireturn, [0])]),
  (77, 0, [(.aload_n 0, []), (.getfield 31, [11, 3, 3, 116]), (.iload_n 1, []), (.iconst 2, []), (.invokevirtual 177, [13, 3, 75, 0, 0, 0]), (.ireturn, [0])]),
  (87, 0, [(.aload_n 0, []), (.getfield 31, [11, 3, 3, 116]), (.iload_n 1, []), (.iconst 3, []), (.invokevirtual 177, [13, 3, 75, 0, 0, 0]), (.ireturn, [0])]),
  (97, 0, [(.aload_n 0, []), (.getfield 45, [11, 5, 3, 118]), (.iload_n 1, []), (.invokevirtual 180, [79, 2, 76, 0, 0, 6]), (.ireturn, [0])])]
theorem kX11_mark_ok : pm_ck 136 kX11_mark = true := by decide +kernel
def kX11_asOf : List pm_Bl := [
  (0, 1, [(.aload_n 0, []), (.getfield 31, [11, 3, 3, 116]), (.iload_n 1, []), (.invokevirtual 143, [1, 2, 55, 0, 0, 0]), (.ifCond .eq 10, [1]), (.iload_n 2, []), (.invokestatic 183, [185, 1, 82]), (.ifCond .ne 5, [2])]),
  (18, 0, [(.iconst (-1), []), (.ireturn, [0])]),
  (20, 0, [(.aload_n 0, []), (.getfield 31, [11, 3, 3, 116]), (.iload_n 1, []), (.iload_n 2, []), (.invokevirtual 186, [10, 3, 83, 0, 0, 0]), (.ireturn, [0])])]
theorem kX11_asOf_ok : pm_ck 137 kX11_asOf = true := by decide +kernel
def kX11_lead : List pm_Bl := [
  (0, 0, [(.aload_n 0, []), (.getfield 31, [11, 3, 3, 116]), (.iload_n 1, []), (.invokevirtual 143, [1, 2, 55, 0, 0, 0]), (.ifCond .ne 5, [1]), (.iconst (-1), []), (.ireturn, [0])]),
  (13, 0, [(.aload_n 0, []), (.getfield 10, [11, 0, 3, 113]), (.aload_n 0, []), (.getfield 31, [11, 3, 3, 116]), (.iload_n 1, []), (.invokevirtual 189, [18, 2, 85, 0, 0, 0]), (.invokevirtual 111, [119, 2, 24, 0, 0, 10]), (.pop, []), (.aload_n 0, []), (.getfield 31, [11, 3, 3, 116]), (.iload_n 1, []), (.invokevirtual 192, [17, 2, 87, 0, 0, 0]), (.ireturn, [0])])]
theorem kX11_lead_ok : pm_ck 138 kX11_lead = true := by decide +kernel
def kX11_marry : List pm_Bl := [
  (0, 1, [(.iload_n 1, []), (.bipush 6, []), (.invokestatic 130, [184, 2, 51]), (.ifCond .eq 30, [1]), (.aload_n 0, []), (.getfield 31, [11, 3, 3, 116]), (.iload_n 2, []), (.invokevirtual 143, [1, 2, 55, 0, 0, 0]), (.ifCond .eq 19, [1]), (.aload_n 0, []), (.getfield 31, [11, 3, 3, 116]), (.iload_n 3, []), (.invokevirtual 143, [1, 2, 55, 0, 0, 0]), (.ifCond .eq 8, [1]), (.iload_n 2, []), (.iload_n 3, []), (.if_icmp .ne 5, [2])]),
  (36, 0, [(.iconst (-1), []), (.ireturn, [0])]),
  (38, 3, [(.aload_n 0, []), (.getfield 31, [11, 3, 3, 116]), (.iload_n 2, []), (.invokevirtual 150, [2, 2, 59, 0, 0, 0]), (.iconst 3, []), (.if_icmp .ne 15, [3]), (.aload_n 0, []), (.getfield 31, [11, 3, 3, 116]), (.iload_n 3, []), (.invokevirtual 150, [2, 2, 59, 0, 0, 0]), (.iconst 3, []), (.if_icmp .eq 12, [4])]),
  (62, 0, [(.aload_n 0, []), (.getfield 10, [11, 0, 3, 113]), (.iconst 3, []), (.invokevirtual 92, [118, 2, 14, 0, 0, 10]), (.ireturn, [0])]),
  (71, 5, [(.aload_n 0, []), (.getfield 38, [11, 4, 3, 117]), (.iload_n 1, []), (.invokevirtual 195, [42, 2, 89, 0, 0, 3]), (.ifCond .eq 19, [5]), (.aload_n 0, []), (.iload_n 2, []), (.invokevirtual 198, [140, 2, 92, 0, 0, 11]), (.ifCond .eq 11, [5]), (.aload_n 0, []), (.iload_n 3, []), (.invokevirtual 198, [140, 2, 92, 0, 0, 11]), (.ifCond .ne 6, [6])]),
  (98, 0, [(.bipush (-4), []), (.ireturn, [0])]),
  (101, 0, [(.aload_n 0, []), (.getfield 38, [11, 4, 3, 117]), (.iload_n 1, []), (.iload_n 2, []), (.iload_n 3, []), (.invokevirtual 201, [44, 4, 93, 0, 0, 3]), (.iconst 1, []), (.ireturn, [0])])]
theorem kX11_marry_ok : pm_ck 139 kX11_marry = true := by decide +kernel
def kX11_isFree : List pm_Bl := [
  (0, 0, [(.aload_n 0, []), (.getfield 31, [11, 3, 3, 116]), (.iload_n 1, []), (.invokevirtual 144, [6, 2, 56, 0, 0, 0]), (.ifCond .ne 18, [1]), (.aload_n 0, []), (.getfield 38, [11, 4, 3, 117]), (.iload_n 1, []), (.invokevirtual 147, [43, 2, 58, 0, 0, 3]), (.ifCond .ne 7, [1]), (.iconst 1, []), (.goto 4, [2])]),
  (26, 2, [(.iconst 0, [])]),
  (27, 0, [(.ireturn, [1])])]
theorem kX11_isFree_ok : pm_ck 140 kX11_isFree = true := by decide +kernel
def kX11_part : List pm_Bl := [
  (0, 0, [(.iload_n 1, []), (.bipush 6, []), (.invokestatic 130, [184, 2, 51]), (.ifCond .ne 5, [1]), (.iconst (-1), []), (.ireturn, [0])]),
  (11, 0, [(.aload_n 0, []), (.getfield 38, [11, 4, 3, 117]), (.iload_n 1, []), (.invokevirtual 195, [42, 2, 89, 0, 0, 3]), (.ifCond .eq 12, [2]), (.aload_n 0, []), (.getfield 10, [11, 0, 3, 113]), (.iconst 1, []), (.invokevirtual 92, [118, 2, 14, 0, 0, 10]), (.ireturn, [0])]),
  (31, 0, [(.aload_n 0, []), (.getfield 38, [11, 4, 3, 117]), (.iload_n 1, []), (.iconst 0, []), (.invokevirtual 204, [41, 3, 95, 0, 0, 3]), (.istore_n 2, []), (.aload_n 0, []), (.getfield 38, [11, 4, 3, 117]), (.iload_n 1, []), (.bipush (-9), []), (.bipush (-9), []), (.invokevirtual 201, [44, 4, 93, 0, 0, 3]), (.iload_n 2, []), (.ireturn, [0])])]
theorem kX11_part_ok : pm_ck 141 kX11_part = true := by decide +kernel
def kX11_held : List pm_Bl := [
  (0, 1, [(.iload_n 1, []), (.bipush 6, []), (.invokestatic 130, [184, 2, 51]), (.ifCond .eq 11, [1]), (.iload_n 2, []), (.iconst 2, []), (.invokestatic 130, [184, 2, 51]), (.ifCond .ne 5, [2])]),
  (17, 0, [(.iconst (-1), []), (.ireturn, [0])]),
  (19, 0, [(.aload_n 0, []), (.getfield 38, [11, 4, 3, 117]), (.iload_n 1, []), (.invokevirtual 195, [42, 2, 89, 0, 0, 3]), (.ifCond .eq 12, [3]), (.aload_n 0, []), (.getfield 10, [11, 0, 3, 113]), (.iconst 1, []), (.invokevirtual 92, [118, 2, 14, 0, 0, 10]), (.ireturn, [0])]),
  (39, 0, [(.aload_n 0, []), (.getfield 38, [11, 4, 3, 117]), (.iload_n 1, []), (.iload_n 2, []), (.invokevirtual 204, [41, 3, 95, 0, 0, 3]), (.ireturn, [0])])]
theorem kX11_held_ok : pm_ck 142 kX11_held = true := by decide +kernel
def kX11_off : List pm_Bl := [
  (0, 1, [(.iload_n 1, []), (.bipush 6, []), (.invokestatic 130, [184, 2, 51]), (.ifCond .eq 17, [1]), (.iload_n 2, []), (.invokestatic 207, [144, 1, 98]), (.ifCond .eq 10, [1]), (.iload_n 3, []), (.invokestatic 207, [144, 1, 98]), (.ifCond .ne 5, [2])]),
  (23, 0, [(.iconst (-1), []), (.ireturn, [0])]),
  (25, 0, [(.aload_n 0, []), (.getfield 38, [11, 4, 3, 117]), (.iload_n 1, []), (.iload_n 2, []), (.iload_n 3, []), (.invokevirtual 210, [45, 4, 99, 0, 0, 3]), (.iconst 1, []), (.ireturn, [0])])]
theorem kX11_off_ok : pm_ck 143 kX11_off = true := by decide +kernel
def kX11_isOff : List pm_Bl := [
  (0, 0, [(.iload_n 0, []), (.bipush (-8), []), (.if_icmp .lt 13, [1]), (.iload_n 0, []), (.bipush 8, []), (.if_icmp .gt 7, [1]), (.iconst 1, []), (.goto 4, [2])]),
  (16, 2, [(.iconst 0, [])]),
  (17, 0, [(.ireturn, [1])])]
theorem kX11_isOff_ok : pm_ck 144 kX11_isOff = true := by decide +kernel
def kX11_run : List pm_Bl := [
  (0, 1, [(.iload_n 1, []), (.bipush 6, []), (.invokestatic 130, [184, 2, 51]), (.ifCond .eq 15, [1]), (.iload_n 2, []), (.iconst 1, []), (.if_icmp .lt 10, [1]), (.iload_n 2, []), (.sipush 10000, []), (.if_icmp .le 5, [2])]),
  (21, 0, [(.iconst (-1), []), (.ireturn, [0])]),
  (23, 0, [(.aload_n 0, []), (.getfield 38, [11, 4, 3, 117]), (.iload_n 1, []), (.invokevirtual 195, [42, 2, 89, 0, 0, 3]), (.ifCond .eq 12, [3]), (.aload_n 0, []), (.getfield 10, [11, 0, 3, 113]), (.iconst 1, []), (.invokevirtual 92, [118, 2, 14, 0, 0, 10]), (.ireturn, [0])]),
  (43, 0, [(.aload_n 0, []), (.getfield 45, [11, 5, 3, 118]), (.getfield 213, [6, 7, 0, 44]), (.bipush 30, []), (.if_icmp .lt 6, [4]), (.bipush (-2), []), (.ireturn, [0])]),
  (58, 0, [(.iload_n 3, []), (.ifCond .eq 9, [5]), (.iconst 2, []), (.iload_n 2, []), (.imul, []), (.goto 4, [6])]),
  (68, 6, [(.iload_n 2, [])]),
  (69, 0, [(.istore 4, []), (.aload_n 0, []), (.getfield 52, [11, 6, 3, 119]), (.bipush 16, []), (.aload_n 0, []), (.getfield 84, [11, 11, 0, 124]), (.aload_n 0, []), (.getfield 84, [11, 11, 0, 124]), (.invokevirtual 157, [60, 4, 61, 0, 0, 5]), (.istore 5, []), (.aload_n 0, []), (.getfield 45, [11, 5, 3, 118]), (.aload_n 0, []), (.getfield 38, [11, 4, 3, 117]), (.iload_n 1, []), (.iconst 0, []), (.invokevirtual 204, [41, 3, 95, 0, 0, 3]), (.invokevirtual 180, [79, 2, 76, 0, 0, 6]), (.iload 4, []), (.iadd, []), (.iload 5, []), (.if_icmp .le 6, [7]), (.bipush (-4), []), (.ireturn, [0])]),
  (117, 0, [(.aload_n 0, []), (.getfield 45, [11, 5, 3, 118]), (.aload_n 0, []), (.getfield 38, [11, 4, 3, 117]), (.iload_n 1, []), (.iconst 1, []), (.invokevirtual 204, [41, 3, 95, 0, 0, 3]), (.invokevirtual 180, [79, 2, 76, 0, 0, 6]), (.iload 4, []), (.iadd, []), (.iload 5, []), (.if_icmp .le 6, [8]), (.bipush (-4), []), (.ireturn, [0])]),
  (144, 0, [(.aload_n 0, []), (.getfield 45, [11, 5, 3, 118]), (.aload_n 0, []), (.getfield 38, [11, 4, 3, 117]), (.iload_n 1, []), (.iload_n 2, []), (.iload_n 3, []), (.aload_n 0, []), (.getfield 84, [11, 11, 0, 124]), (.invokevirtual 214, [74, 6, 101, 0, 0, 6]), (.ireturn, [0])])]
theorem kX11_run_ok : pm_ck 145 kX11_run = true := by decide +kernel
def kX11_runTold : List pm_Bl := [
  (0, 1, [(.aload_n 0, []), (.getfield 45, [11, 5, 3, 118]), (.iload_n 1, []), (.invokevirtual 217, [73, 2, 104, 0, 0, 6]), (.ifCond .eq 12, [1]), (.iload_n 2, []), (.bipush 7, []), (.invokestatic 130, [184, 2, 51]), (.ifCond .ne 5, [2])]),
  (20, 0, [(.iconst (-1), []), (.ireturn, [0])]),
  (22, 0, [(.aload_n 0, []), (.getfield 10, [11, 0, 3, 113]), (.aload_n 0, []), (.iload_n 1, []), (.iload_n 2, []), (.invokevirtual 218, [147, 3, 105, 0, 0, 11]), (.invokevirtual 111, [119, 2, 24, 0, 0, 10]), (.ireturn, [0])])]
theorem kX11_runTold_ok : pm_ck 146 kX11_runTold = true := by decide +kernel
def kX11_runFact : List pm_Bl := [
  (0, 0, [(.iload_n 2, []), (.bipush 6, []), (.if_icmp .ne 14, [1]), (.aload_n 0, []), (.getfield 73, [11, 9, 3, 122]), (.iload_n 1, []), (.invokevirtual 221, [88, 2, 106, 0, 0, 7]), (.goto 12, [2])]),
  (17, 2, [(.aload_n 0, []), (.getfield 45, [11, 5, 3, 118]), (.iload_n 1, []), (.iload_n 2, []), (.invokevirtual 224, [82, 3, 107, 0, 0, 6])]),
  (26, 0, [(.ireturn, [0])])]
theorem kX11_runFact_ok : pm_ck 147 kX11_runFact = true := by decide +kernel
def kX11_mean : List pm_Bl := [
  (0, 0, [(.aload_n 0, []), (.getfield 31, [11, 3, 3, 116]), (.iload_n 1, []), (.invokevirtual 143, [1, 2, 55, 0, 0, 0]), (.ifCond .ne 5, [1]), (.iconst (-1), []), (.ireturn, [0])]),
  (13, 0, [(.aload_n 0, []), (.getfield 31, [11, 3, 3, 116]), (.iload_n 1, []), (.invokevirtual 150, [2, 2, 59, 0, 0, 0]), (.iconst 3, []), (.if_icmp .eq 12, [2]), (.aload_n 0, []), (.getfield 10, [11, 0, 3, 113]), (.iconst 3, []), (.invokevirtual 92, [118, 2, 14, 0, 0, 10]), (.ireturn, [0])]),
  (34, 0, [(.aload_n 0, []), (.getfield 45, [11, 5, 3, 118]), (.iload_n 1, []), (.invokevirtual 225, [80, 2, 109, 0, 0, 6]), (.istore_n 2, []), (.iload_n 2, []), (.ifCond .gt 12, [3]), (.aload_n 0, []), (.getfield 10, [11, 0, 3, 113]), (.iconst 4, []), (.invokevirtual 92, [118, 2, 14, 0, 0, 10]), (.ireturn, [0])]),
  (56, 0, [(.aload_n 0, []), (.getfield 10, [11, 0, 3, 113]), (.aload_n 0, []), (.getfield 45, [11, 5, 3, 118]), (.iload_n 1, []), (.invokevirtual 228, [81, 2, 110, 0, 0, 6]), (.iload_n 2, []), (.idiv, []), (.invokevirtual 111, [119, 2, 24, 0, 0, 10]), (.ireturn, [0])])]
theorem kX11_mean_ok : pm_ck 148 kX11_mean = true := by decide +kernel
def kX11_rule : List pm_Bl := [
  (0, 1, [(.aload_n 0, []), (.getfield 25, [11, 2, 3, 115]), (.iload_n 1, []), (.invokevirtual 88, [105, 2, 13, 0, 0, 9]), (.ifCond .eq 10, [1]), (.iload_n 2, []), (.invokestatic 183, [185, 1, 82]), (.ifCond .ne 5, [2])]),
  (18, 0, [(.iconst (-1), []), (.ireturn, [0])]),
  (20, 0, [(.aload_n 0, []), (.getfield 52, [11, 6, 3, 119]), (.getfield 231, [5, 5, 0, 51]), (.bipush 24, []), (.if_icmp .lt 6, [3]), (.bipush (-2), []), (.ireturn, [0])]),
  (35, 0, [(.aload_n 0, []), (.getfield 25, [11, 2, 3, 115]), (.iload_n 1, []), (.invokevirtual 100, [107, 2, 18, 0, 0, 9]), (.ifCond .eq 12, [4]), (.aload_n 0, []), (.getfield 10, [11, 0, 3, 113]), (.iconst 1, []), (.invokevirtual 92, [118, 2, 14, 0, 0, 10]), (.ireturn, [0])]),
  (55, 0, [(.aload_n 0, []), (.getfield 52, [11, 6, 3, 119]), (.aload_n 0, []), (.getfield 25, [11, 2, 3, 115]), (.iload_n 1, []), (.invokevirtual 126, [63, 3, 35, 0, 0, 5]), (.bipush (-9), []), (.if_icmp .eq 6, [5]), (.bipush (-4), []), (.ireturn, [0])]),
  (75, 0, [(.aload_n 0, []), (.getfield 52, [11, 6, 3, 119]), (.aload_n 0, []), (.getfield 84, [11, 11, 0, 124]), (.iload_n 2, []), (.invokevirtual 232, [62, 3, 112, 0, 0, 5]), (.ireturn, [0])])]
theorem kX11_rule_ok : pm_ck 149 kX11_rule = true := by decide +kernel
def kX11_force : List pm_Bl := [
  (0, 1, [(.iload_n 1, []), (.iload_n 2, []), (.iload_n 3, []), (.invokestatic 234, [57, 3, 114]), (.istore 6, []), (.iload 6, []), (.ifCond .lt 19, [1]), (.iload 4, []), (.invokestatic 183, [185, 1, 82]), (.ifCond .eq 11, [1]), (.iload 5, []), (.invokestatic 183, [185, 1, 82]), (.ifCond .ne 5, [2])]),
  (29, 0, [(.iconst (-1), []), (.ireturn, [0])]),
  (31, 0, [(.aload_n 0, []), (.getfield 52, [11, 6, 3, 119]), (.iload 6, []), (.iload 4, []), (.iload 5, []), (.invokevirtual 157, [60, 4, 61, 0, 0, 5]), (.ireturn, [0])])]
theorem kX11_force_ok : pm_ck 150 kX11_force = true := by decide +kernel
def kX11_why : List pm_Bl := [
  (0, 1, [(.iload_n 1, []), (.iload_n 2, []), (.iload_n 3, []), (.invokestatic 234, [57, 3, 114]), (.istore 6, []), (.iload 6, []), (.ifCond .lt 19, [1]), (.iload 4, []), (.invokestatic 183, [185, 1, 82]), (.ifCond .eq 11, [1]), (.iload 5, []), (.invokestatic 183, [185, 1, 82]), (.ifCond .ne 5, [2])]),
  (29, 0, [(.iconst (-1), []), (.ireturn, [0])]),
  (31, 0, [(.aload_n 0, []), (.getfield 52, [11, 6, 3, 119]), (.iload 6, []), (.iload 4, []), (.iload 5, []), (.invokevirtual 237, [59, 4, 116, 0, 0, 5]), (.ireturn, [0])])]
theorem kX11_why_ok : pm_ck 151 kX11_why = true := by decide +kernel
def kX11_report : List pm_Bl := [
  (0, 1, [(.aload_n 0, []), (.getfield 45, [11, 5, 3, 118]), (.iload_n 1, []), (.invokevirtual 217, [73, 2, 104, 0, 0, 6]), (.ifCond .eq 18, [1]), (.iload_n 2, []), (.iconst 2, []), (.invokestatic 130, [184, 2, 51]), (.ifCond .eq 10, [1]), (.iload_n 3, []), (.invokestatic 240, [186, 1, 118]), (.ifCond .ne 5, [2])]),
  (26, 0, [(.iconst (-1), []), (.ireturn, [0])]),
  (28, 0, [(.aload_n 0, []), (.getfield 59, [11, 7, 3, 120]), (.getfield 243, [4, 4, 0, 61]), (.bipush 60, []), (.if_icmp .lt 6, [3]), (.bipush (-2), []), (.ireturn, [0])]),
  (43, 0, [(.aload_n 0, []), (.getfield 59, [11, 7, 3, 120]), (.iload_n 1, []), (.iload_n 2, []), (.iload_n 3, []), (.iload 4, []), (.invokevirtual 244, [48, 5, 119, 0, 0, 4]), (.ireturn, [0])])]
theorem kX11_report_ok : pm_ck 152 kX11_report = true := by decide +kernel
def kX11_cause : List pm_Bl := [
  (0, 1, [(.iload_n 1, []), (.invokestatic 240, [186, 1, 118]), (.ifCond .eq 10, [1]), (.iload_n 2, []), (.invokestatic 247, [154, 1, 121]), (.ifCond .ne 5, [2])]),
  (14, 0, [(.iconst (-1), []), (.ireturn, [0])]),
  (16, 0, [(.aload_n 0, []), (.iload_n 1, []), (.iload_n 2, []), (.lconst 0, []), (.invokevirtual 250, [155, 4, 122, 0, 0, 11]), (.ifCond .ne 6, [3]), (.bipush (-9), []), (.ireturn, [0])]),
  (29, 0, [(.aload_n 0, []), (.getfield 66, [11, 8, 3, 121]), (.aload_n 0, []), (.getfield 31, [11, 3, 3, 116]), (.aload_n 0, []), (.getfield 45, [11, 5, 3, 118]), (.iload_n 1, []), (.invokevirtual 254, [100, 4, 148, 0, 0, 8]), (.aload_n 0, []), (.getfield 10, [11, 0, 3, 113]), (.aload_n 0, []), (.getfield 66, [11, 8, 3, 121]), (.invokevirtual 258, [99, 1, 153, 0, 0, 8]), (.invokevirtual 111, [119, 2, 24, 0, 0, 10]), (.pop, []), (.aload_n 0, []), (.getfield 66, [11, 8, 3, 121]), (.getfield 262, [8, 12, 0, 89]), (.ireturn, [0])])]
theorem kX11_cause_ok : pm_ck 153 kX11_cause = true := by decide +kernel
def kX11_areMisses : List pm_Bl := [
  (0, 0, [(.iload_n 0, []), (.ifCond .lt 13, [1]), (.iload_n 0, []), (.bipush 60, []), (.if_icmp .gt 7, [1]), (.iconst 1, []), (.goto 4, [2])]),
  (14, 2, [(.iconst 0, [])]),
  (15, 0, [(.ireturn, [1])])]
theorem kX11_areMisses_ok : pm_ck 154 kX11_areMisses = true := by decide +kernel
def kX11_explain : List pm_Bl := [
  (0, 0, [(.aload_n 0, []), (.getfield 66, [11, 8, 3, 121]), (.getfield 265, [8, 0, 3, 76]), (.aload_n 0, []), (.getfield 31, [11, 3, 3, 116]), (.aload_n 0, []), (.getfield 45, [11, 5, 3, 118]), (.invokevirtual 269, [35, 3, 123, 0, 0, 2]), (.aload_n 0, []), (.getfield 66, [11, 8, 3, 121]), (.aload_n 0, []), (.getfield 59, [11, 7, 3, 120]), (.iload_n 1, []), (.iload_n 2, []), (.lload_n 3, []), (.invokevirtual 275, [92, 5, 134, 0, 0, 8]), (.ireturn, [1])])]
theorem kX11_explain_ok : pm_ck 155 kX11_explain = true := by decide +kernel
def kX11_causeTold : List pm_Bl := [
  (0, 0, [(.iload_n 2, []), (.bipush 6, []), (.invokestatic 130, [184, 2, 51]), (.ifCond .ne 5, [1]), (.iconst (-1), []), (.ireturn, [0])]),
  (11, 0, [(.aload_n 0, []), (.getfield 66, [11, 8, 3, 121]), (.iload_n 1, []), (.iload_n 2, []), (.invokevirtual 278, [101, 3, 155, 0, 0, 8]), (.ireturn, [0])])]
theorem kX11_causeTold_ok : pm_ck 156 kX11_causeTold = true := by decide +kernel
def kX11_rivals : List pm_Bl := [
  (0, 1, [(.iload_n 1, []), (.invokestatic 240, [186, 1, 118]), (.ifCond .eq 10, [1]), (.iload_n 2, []), (.invokestatic 247, [154, 1, 121]), (.ifCond .ne 5, [2])]),
  (14, 0, [(.iconst (-1), []), (.ireturn, [0])]),
  (16, 0, [(.aload_n 0, []), (.iload_n 1, []), (.iload_n 2, []), (.lconst 0, []), (.invokevirtual 250, [155, 4, 122, 0, 0, 11]), (.ifCond .eq 13, [3]), (.aload_n 0, []), (.getfield 66, [11, 8, 3, 121]), (.getfield 281, [8, 13, 0, 91]), (.goto 5, [4])]),
  (36, 4, [(.bipush (-9), [])]),
  (38, 0, [(.ireturn, [0])])]
theorem kX11_rivals_ok : pm_ck 157 kX11_rivals = true := by decide +kernel
def kX11_nextTest : List pm_Bl := [
  (0, 1, [(.iload_n 1, []), (.invokestatic 240, [186, 1, 118]), (.ifCond .eq 10, [1]), (.iload_n 2, []), (.invokestatic 247, [154, 1, 121]), (.ifCond .ne 5, [2])]),
  (14, 0, [(.iconst (-1), []), (.ireturn, [0])]),
  (16, 0, [(.aload_n 0, []), (.getfield 45, [11, 5, 3, 118]), (.invokevirtual 284, [84, 1, 158, 0, 0, 6]), (.aload_n 0, []), (.getfield 59, [11, 7, 3, 120]), (.iload_n 1, []), (.iconst 1, []), (.invokevirtual 288, [51, 3, 159, 0, 0, 4]), (.ldc2_w 292, [6]), (.lxor, []), (.land, []), (.aload_n 0, []), (.getfield 59, [11, 7, 3, 120]), (.iload_n 1, []), (.iconst 0, []), (.invokevirtual 288, [51, 3, 159, 0, 0, 4]), (.ldc2_w 292, [6]), (.lxor, []), (.land, []), (.lstore_n 3, []), (.aload_n 0, []), (.iload_n 1, []), (.iload_n 2, []), (.lload_n 3, []), (.invokevirtual 250, [155, 4, 122, 0, 0, 11]), (.ifCond .ne 6, [3]), (.bipush (-9), []), (.ireturn, [0])]),
  (65, 0, [(.aload_n 0, []), (.getfield 66, [11, 8, 3, 121]), (.invokevirtual 294, [102, 1, 160, 0, 0, 8]), (.istore 5, []), (.iload 5, []), (.bipush (-9), []), (.if_icmp .ne 6, [4]), (.bipush (-9), []), (.ireturn, [0])]),
  (84, 0, [(.aload_n 0, []), (.getfield 10, [11, 0, 3, 113]), (.aload_n 0, []), (.getfield 66, [11, 8, 3, 121]), (.iload 5, []), (.invokevirtual 297, [103, 2, 162, 0, 0, 8]), (.invokevirtual 111, [119, 2, 24, 0, 0, 10]), (.pop, []), (.bipush 10, []), (.iload 5, []), (.iconst 2, []), (.idiv, []), (.imul, []), (.iload 5, []), (.iconst 2, []), (.irem, []), (.iadd, []), (.ireturn, [0])])]
theorem kX11_nextTest_ok : pm_ck 158 kX11_nextTest = true := by decide +kernel
def kX11_recall : List pm_Bl := [
  (0, 1, [(.aload_n 0, []), (.getfield 31, [11, 3, 3, 116]), (.iload_n 1, []), (.invokevirtual 143, [1, 2, 55, 0, 0, 0]), (.ifCond .eq 19, [1]), (.iload_n 2, []), (.invokestatic 183, [185, 1, 82]), (.ifCond .eq 12, [1]), (.iload_n 3, []), (.bipush 8, []), (.invokestatic 130, [184, 2, 51]), (.ifCond .ne 5, [2])]),
  (27, 0, [(.iconst (-1), []), (.ireturn, [0])]),
  (29, 3, [(.iconst 0, []), (.istore 4, []), (.iconst 0, []), (.istore 5, [])]),
  (35, 4, [(.iload 5, []), (.aload_n 0, []), (.getfield 45, [11, 5, 3, 118]), (.getfield 213, [6, 7, 0, 44]), (.if_icmp .ge 35, [5]), (.aload_n 0, []), (.iload 5, []), (.iload_n 1, []), (.iload_n 2, []), (.invokevirtual 300, [160, 4, 164, 0, 0, 11]), (.ifCond .eq 18, [4]), (.iload 4, []), (.aload_n 0, []), (.getfield 73, [11, 9, 3, 122]), (.iload 5, []), (.iload_n 3, []), (.invokevirtual 303, [89, 3, 168, 0, 0, 7]), (.iadd, []), (.istore 4, [])]),
  (73, 0, [(.iinc 5 1, []), (.goto (-41), [3])]),
  (79, 0, [(.iload 4, []), (.ireturn, [0])])]
theorem kX11_recall_ok : pm_ck 159 kX11_recall = true := by decide +kernel
def kX11_runIsOn : List pm_Bl := [
  (0, 1, [(.aload_n 0, []), (.getfield 45, [11, 5, 3, 118]), (.iload_n 1, []), (.invokevirtual 306, [76, 2, 165, 0, 0, 6]), (.istore 4, []), (.aload_n 0, []), (.getfield 31, [11, 3, 3, 116]), (.aload_n 0, []), (.getfield 45, [11, 5, 3, 118]), (.iload_n 1, []), (.iconst 0, []), (.invokevirtual 309, [77, 3, 166, 0, 0, 6]), (.iload 4, []), (.iload_n 2, []), (.invokevirtual 310, [15, 4, 167, 0, 0, 0]), (.iload_n 3, []), (.if_icmp .ge 26, [1]), (.aload_n 0, []), (.getfield 31, [11, 3, 3, 116]), (.aload_n 0, []), (.getfield 45, [11, 5, 3, 118]), (.iload_n 1, []), (.iconst 1, []), (.invokevirtual 309, [77, 3, 166, 0, 0, 6]), (.iload 4, []), (.iload_n 2, []), (.invokevirtual 310, [15, 4, 167, 0, 0, 0]), (.iload_n 3, []), (.if_icmp .lt 7, [2])]),
  (56, 0, [(.iconst 1, []), (.goto 4, [3])]),
  (60, 3, [(.iconst 0, [])]),
  (61, 0, [(.ireturn, [1])])]
theorem kX11_runIsOn_ok : pm_ck 160 kX11_runIsOn = true := by decide +kernel
def kX11_swish : List pm_Bl := [
  (0, 1, [(.aload_n 0, []), (.getfield 45, [11, 5, 3, 118]), (.iload_n 1, []), (.invokevirtual 217, [73, 2, 104, 0, 0, 6]), (.ifCond .eq 10, [1]), (.iload_n 2, []), (.invokestatic 240, [186, 1, 118]), (.ifCond .ne 5, [2])]),
  (18, 0, [(.iconst (-1), []), (.ireturn, [0])]),
  (20, 0, [(.aload_n 0, []), (.getfield 45, [11, 5, 3, 118]), (.iload_n 1, []), (.iload_n 2, []), (.invokevirtual 313, [83, 3, 170, 0, 0, 6]), (.ireturn, [0])])]
theorem kX11_swish_ok : pm_ck 161 kX11_swish = true := by decide +kernel
def kX11_swishRun : List pm_Bl := [
  (0, 1, [(.aload_n 0, []), (.getfield 21, [11, 1, 3, 114]), (.iload_n 1, []), (.invokevirtual 88, [105, 2, 13, 0, 0, 9]), (.ifCond .eq 14, [1]), (.aload_n 0, []), (.getfield 21, [11, 1, 3, 114]), (.iload_n 2, []), (.invokevirtual 88, [105, 2, 13, 0, 0, 9]), (.ifCond .ne 5, [2])]),
  (22, 0, [(.iconst (-1), []), (.ireturn, [0])]),
  (24, 3, [(.aload_n 0, []), (.getfield 21, [11, 1, 3, 114]), (.iload_n 1, []), (.invokevirtual 100, [107, 2, 18, 0, 0, 9]), (.ifCond .ne 14, [3]), (.aload_n 0, []), (.getfield 21, [11, 1, 3, 114]), (.iload_n 2, []), (.invokevirtual 100, [107, 2, 18, 0, 0, 9]), (.ifCond .eq 12, [4])]),
  (46, 0, [(.aload_n 0, []), (.getfield 10, [11, 0, 3, 113]), (.iconst 1, []), (.invokevirtual 92, [118, 2, 14, 0, 0, 10]), (.ireturn, [0])]),
  (55, 0, [(.aload_n 0, []), (.getfield 21, [11, 1, 3, 114]), (.iload_n 1, []), (.invokevirtual 316, [106, 2, 172, 0, 0, 9]), (.aload_n 0, []), (.getfield 21, [11, 1, 3, 114]), (.iload_n 2, []), (.invokevirtual 316, [106, 2, 172, 0, 0, 9]), (.if_icmp .eq 12, [5]), (.aload_n 0, []), (.getfield 10, [11, 0, 3, 113]), (.iconst 5, []), (.invokevirtual 92, [118, 2, 14, 0, 0, 10]), (.ireturn, [0])]),
  (83, 0, [(.aload_n 0, []), (.iload_n 1, []), (.invokevirtual 318, [163, 2, 173, 0, 0, 11]), (.ifCond .ne 12, [6]), (.aload_n 0, []), (.getfield 10, [11, 0, 3, 113]), (.iconst 3, []), (.invokevirtual 92, [118, 2, 14, 0, 0, 10]), (.ireturn, [0])]),
  (100, 7, [(.bipush (-9), []), (.istore_n 3, []), (.lconst 0, []), (.lstore 4, []), (.iconst 0, []), (.istore 6, [])]),
  (109, 8, [(.iload 6, []), (.aload_n 0, []), (.getfield 45, [11, 5, 3, 118]), (.getfield 213, [6, 7, 0, 44]), (.if_icmp .ge 40, [10]), (.aload_n 0, []), (.iload 6, []), (.iload_n 1, []), (.iload_n 2, []), (.invokevirtual 321, [164, 4, 175, 0, 0, 11]), (.lstore 7, []), (.iload_n 3, []), (.bipush (-9), []), (.if_icmp .eq 11, [8]), (.lload 7, []), (.lload 4, []), (.lcmp, []), (.ifCond .ge 10, [9])]),
  (145, 9, [(.lload 7, []), (.lstore 4, []), (.iload 6, []), (.istore_n 3, [])]),
  (152, 0, [(.iinc 6 1, []), (.goto (-46), [7])]),
  (158, 0, [(.iload_n 3, []), (.bipush (-9), []), (.if_icmp .ne 6, [11]), (.bipush (-9), []), (.ireturn, [0])]),
  (167, 0, [(.aload_n 0, []), (.getfield 10, [11, 0, 3, 113]), (.lload 4, []), (.ldc2_w 325, [7]), (.invokestatic 327, [9994, 4]), (.l2i, []), (.invokevirtual 111, [119, 2, 24, 0, 0, 10]), (.pop, []), (.iload_n 3, []), (.ireturn, [0])])]
theorem kX11_swishRun_ok : pm_ck 162 kX11_swishRun = true := by decide +kernel
def kX11_areTurns : List pm_Bl := [
  (0, 1, [(.iconst 0, []), (.istore_n 2, [])]),
  (2, 0, [(.iload_n 2, []), (.aload_n 0, []), (.getfield 21, [11, 1, 3, 114]), (.iload_n 1, []), (.invokevirtual 316, [106, 2, 172, 0, 0, 9]), (.if_icmp .ge 26, [3]), (.aload_n 0, []), (.getfield 21, [11, 1, 3, 114]), (.iload_n 1, []), (.iload_n 2, []), (.invokevirtual 333, [110, 3, 174, 0, 0, 9]), (.invokestatic 240, [186, 1, 118]), (.ifCond .ne 5, [2]), (.iconst 0, []), (.ireturn, [1])]),
  (31, 0, [(.iinc 2 1, []), (.goto (-32), [1])]),
  (37, 0, [(.iconst 1, []), (.ireturn, [1])])]
theorem kX11_areTurns_ok : pm_ck 163 kX11_areTurns = true := by decide +kernel
def kX11_difference : List pm_Bl := [
  (0, 1, [(.lconst 0, []), (.lstore 4, []), (.iconst 0, []), (.istore 6, [])]),
  (6, 0, [(.iload 6, []), (.aload_n 0, []), (.getfield 21, [11, 1, 3, 114]), (.iload_n 2, []), (.invokevirtual 316, [106, 2, 172, 0, 0, 9]), (.if_icmp .ge 52, [2]), (.aload_n 0, []), (.getfield 45, [11, 5, 3, 118]), (.iload_n 1, []), (.aload_n 0, []), (.getfield 21, [11, 1, 3, 114]), (.iload_n 2, []), (.iload 6, []), (.invokevirtual 333, [110, 3, 174, 0, 0, 9]), (.invokevirtual 313, [83, 3, 170, 0, 0, 6]), (.i2l, []), (.lstore 7, []), (.lload 4, []), (.lload 7, []), (.aload_n 0, []), (.getfield 21, [11, 1, 3, 114]), (.iload_n 3, []), (.iload 6, []), (.invokevirtual 333, [110, 3, 174, 0, 0, 9]), (.i2l, []), (.lsub, []), (.invokestatic 336, [9991, 3]), (.ladd, []), (.lstore 4, []), (.iinc 6 1, []), (.goto (-59), [1])]),
  (68, 0, [(.lload 4, []), (.lreturn, [])])]
theorem kX11_difference_ok : pm_ck 164 kX11_difference = true := by decide +kernel
def kX11_sell : List pm_Bl := [
  (0, 1, [(.aload_n 0, []), (.getfield 45, [11, 5, 3, 118]), (.iload_n 1, []), (.invokevirtual 217, [73, 2, 104, 0, 0, 6]), (.ifCond .eq 24, [1]), (.iload_n 2, []), (.iconst 1, []), (.if_icmp .lt 19, [1]), (.iload_n 2, []), (.sipush 10000, []), (.if_icmp .gt 12, [1]), (.iload_n 3, []), (.bipush 8, []), (.invokestatic 130, [184, 2, 51]), (.ifCond .ne 5, [2])]),
  (32, 0, [(.iconst (-1), []), (.ireturn, [0])]),
  (34, 0, [(.aload_n 0, []), (.getfield 73, [11, 9, 3, 122]), (.getfield 340, [7, 4, 0, 101]), (.bipush 60, []), (.if_icmp .lt 6, [3]), (.bipush (-2), []), (.ireturn, [0])]),
  (49, 4, [(.aload_n 0, []), (.getfield 45, [11, 5, 3, 118]), (.iload_n 1, []), (.invokevirtual 341, [75, 2, 177, 0, 0, 6]), (.aload_n 0, []), (.getfield 73, [11, 9, 3, 122]), (.iload_n 1, []), (.invokevirtual 221, [88, 2, 106, 0, 0, 7]), (.isub, []), (.istore 4, []), (.iload_n 2, []), (.iload 4, []), (.if_icmp .gt 25, [4]), (.aload_n 0, []), (.getfield 52, [11, 6, 3, 119]), (.iload_n 3, []), (.invokestatic 344, [56, 1, 178]), (.aload_n 0, []), (.getfield 84, [11, 11, 0, 124]), (.aload_n 0, []), (.getfield 84, [11, 11, 0, 124]), (.invokevirtual 157, [60, 4, 61, 0, 0, 5]), (.ifCond .ne 6, [5])]),
  (96, 0, [(.bipush (-4), []), (.ireturn, [0])]),
  (99, 0, [(.aload_n 0, []), (.getfield 73, [11, 9, 3, 122]), (.iload_n 1, []), (.iload_n 2, []), (.iload_n 3, []), (.aload_n 0, []), (.getfield 84, [11, 11, 0, 124]), (.invokevirtual 347, [87, 5, 179, 0, 0, 7]), (.iload 4, []), (.iload_n 2, []), (.isub, []), (.ireturn, [0])])]
theorem kX11_sell_ok : pm_ck 165 kX11_sell = true := by decide +kernel
def kX11_back : List pm_Bl := [
  (0, 1, [(.aload_n 0, []), (.getfield 45, [11, 5, 3, 118]), (.iload_n 1, []), (.invokevirtual 217, [73, 2, 104, 0, 0, 6]), (.ifCond .eq 24, [1]), (.iload_n 2, []), (.iconst 1, []), (.if_icmp .lt 19, [1]), (.iload_n 2, []), (.sipush 10000, []), (.if_icmp .gt 12, [1]), (.iload_n 3, []), (.bipush 8, []), (.invokestatic 130, [184, 2, 51]), (.ifCond .ne 5, [2])]),
  (32, 0, [(.iconst (-1), []), (.ireturn, [0])]),
  (34, 0, [(.aload_n 0, []), (.getfield 73, [11, 9, 3, 122]), (.getfield 340, [7, 4, 0, 101]), (.bipush 60, []), (.if_icmp .lt 6, [3]), (.bipush (-2), []), (.ireturn, [0])]),
  (49, 0, [(.iload_n 2, []), (.aload_n 0, []), (.getfield 73, [11, 9, 3, 122]), (.iload_n 1, []), (.iload_n 3, []), (.invokevirtual 303, [89, 3, 168, 0, 0, 7]), (.if_icmp .le 6, [4]), (.bipush (-4), []), (.ireturn, [0])]),
  (65, 0, [(.aload_n 0, []), (.getfield 73, [11, 9, 3, 122]), (.iload_n 1, []), (.iload_n 2, []), (.ineg, []), (.iload_n 3, []), (.aload_n 0, []), (.getfield 84, [11, 11, 0, 124]), (.invokevirtual 347, [87, 5, 179, 0, 0, 7]), (.aload_n 0, []), (.getfield 45, [11, 5, 3, 118]), (.iload_n 1, []), (.invokevirtual 341, [75, 2, 177, 0, 0, 6]), (.aload_n 0, []), (.getfield 73, [11, 9, 3, 122]), (.iload_n 1, []), (.invokevirtual 221, [88, 2, 106, 0, 0, 7]), (.isub, []), (.ireturn, [0])])]
theorem kX11_back_ok : pm_ck 166 kX11_back = true := by decide +kernel
def kX11_owe : List pm_Bl := [
  (0, 1, [(.iload_n 1, []), (.bipush 20, []), (.invokestatic 130, [184, 2, 51]), (.ifCond .eq 27, [1]), (.iload_n 2, []), (.bipush 8, []), (.invokestatic 130, [184, 2, 51]), (.ifCond .eq 18, [1]), (.iload_n 3, []), (.invokestatic 183, [185, 1, 82]), (.ifCond .eq 11, [1]), (.iload 4, []), (.invokestatic 183, [185, 1, 82]), (.ifCond .ne 5, [2])]),
  (33, 0, [(.iconst (-1), []), (.ireturn, [0])]),
  (35, 0, [(.iload_n 3, []), (.iload 4, []), (.if_icmp .le 5, [3]), (.iconst (-1), []), (.ireturn, [0])]),
  (43, 4, [(.lconst 0, []), (.lstore 5, []), (.iconst 0, []), (.istore 7, [])]),
  (49, 5, [(.iload 7, []), (.aload_n 0, []), (.getfield 73, [11, 9, 3, 122]), (.getfield 340, [7, 4, 0, 101]), (.if_icmp .ge 102, [6]), (.aload_n 0, []), (.getfield 73, [11, 9, 3, 122]), (.getfield 350, [7, 3, 3, 99]), (.iload 7, []), (.iaload, []), (.istore 8, []), (.aload_n 0, []), (.getfield 73, [11, 9, 3, 122]), (.getfield 354, [7, 2, 3, 97]), (.iload 7, []), (.iaload, []), (.iload_n 2, []), (.if_icmp .ne 70, [5]), (.iload 8, []), (.iload_n 3, []), (.if_icmp .lt 64, [5]), (.iload 8, []), (.iload 4, []), (.if_icmp .gt 57, [5]), (.aload_n 0, []), (.getfield 52, [11, 6, 3, 119]), (.iload_n 2, []), (.invokestatic 357, [55, 1, 182]), (.iload 8, []), (.iload 8, []), (.invokevirtual 157, [60, 4, 61, 0, 0, 5]), (.i2l, []), (.lstore 9, []), (.lload 5, []), (.lload 9, []), (.aload_n 0, []), (.getfield 73, [11, 9, 3, 122]), (.getfield 360, [7, 1, 3, 95]), (.iload 7, []), (.iaload, []), (.i2l, []), (.lmul, []), (.aload_n 0, []), (.aload_n 0, []), (.getfield 73, [11, 9, 3, 122]), (.getfield 362, [7, 0, 3, 93]), (.iload 7, []), (.iaload, []), (.iload_n 1, []), (.invokevirtual 365, [168, 3, 183, 0, 0, 11]), (.i2l, []), (.lmul, []), (.ladd, []), (.lstore 5, [])]),
  (154, 0, [(.iinc 7 1, []), (.goto (-108), [4])]),
  (160, 0, [(.aload_n 0, []), (.getfield 10, [11, 0, 3, 113]), (.lload 5, []), (.putfield 368, [10, 5, 1, 11]), (.iconst 1, []), (.ireturn, [0])])]
theorem kX11_owe_ok : pm_ck 167 kX11_owe = true := by decide +kernel
def kX11_facesWith : List pm_Bl := [
  (0, 1, [(.iconst 0, []), (.istore_n 3, []), (.iconst 0, []), (.istore 4, [])]),
  (5, 2, [(.iload 4, []), (.iconst 2, []), (.if_icmp .ge 33, [3]), (.aload_n 0, []), (.getfield 31, [11, 3, 3, 116]), (.aload_n 0, []), (.getfield 45, [11, 5, 3, 118]), (.iload_n 1, []), (.iload 4, []), (.invokevirtual 309, [77, 3, 166, 0, 0, 6]), (.invokevirtual 163, [3, 2, 66, 0, 0, 0]), (.iload_n 2, []), (.if_icmp .ne 6, [2]), (.iinc 3 1, [])]),
  (35, 0, [(.iinc 4 1, []), (.goto (-33), [1])]),
  (41, 0, [(.iload_n 3, []), (.ireturn, [0])])]
theorem kX11_facesWith_ok : pm_ck 168 kX11_facesWith = true := by decide +kernel
def kX11_pence : List pm_Bl := [
  (0, 0, [(.aload_n 0, []), (.getfield 10, [11, 0, 3, 113]), (.getfield 368, [10, 5, 1, 11]), (.lreturn, [])])]
theorem kX11_pence_ok : pm_ck 169 kX11_pence = true := by decide +kernel
def kX11_share : List pm_Bl := [
  (0, 0, [(.iload_n 1, []), (.bipush 20, []), (.invokestatic 130, [184, 2, 51]), (.ifCond .ne 5, [1]), (.iconst (-1), []), (.ireturn, [0])]),
  (11, 2, [(.lconst 0, []), (.lstore_n 2, []), (.lconst 0, []), (.lstore 4, []), (.iconst 0, []), (.istore 6, [])]),
  (19, 0, [(.iload 6, []), (.aload_n 0, []), (.getfield 73, [11, 9, 3, 122]), (.getfield 340, [7, 4, 0, 101]), (.if_icmp .ge 64, [6]), (.aload_n 0, []), (.getfield 73, [11, 9, 3, 122]), (.getfield 360, [7, 1, 3, 95]), (.iload 6, []), (.iaload, []), (.istore 7, []), (.aload_n 0, []), (.aload_n 0, []), (.getfield 73, [11, 9, 3, 122]), (.getfield 362, [7, 0, 3, 93]), (.iload 6, []), (.iaload, []), (.iload_n 1, []), (.invokevirtual 365, [168, 3, 183, 0, 0, 11]), (.ifCond .ne 6, [3]), (.goto 25, [5])]),
  (64, 0, [(.iload 7, []), (.ifCond .le 12, [4]), (.lload_n 2, []), (.iload 7, []), (.i2l, []), (.ladd, []), (.lstore_n 2, []), (.goto 11, [5])]),
  (78, 5, [(.lload 4, []), (.iload 7, []), (.i2l, []), (.lsub, []), (.lstore 4, [])]),
  (86, 0, [(.iinc 6 1, []), (.goto (-70), [2])]),
  (92, 0, [(.lload_n 2, []), (.lconst 0, []), (.lcmp, []), (.ifCond .ne 12, [7]), (.aload_n 0, []), (.getfield 10, [11, 0, 3, 113]), (.iconst 4, []), (.invokevirtual 92, [118, 2, 14, 0, 0, 10]), (.ireturn, [0])]),
  (107, 0, [(.aload_n 0, []), (.getfield 10, [11, 0, 3, 113]), (.lload 4, []), (.lload_n 2, []), (.invokevirtual 372, [120, 3, 186, 0, 0, 10]), (.iconst 1, []), (.ireturn, [0])])]
theorem kX11_share_ok : pm_ck 170 kX11_share = true := by decide +kernel
def kX11_order : List pm_Bl := [
  (0, 1, [(.iload_n 1, []), (.iconst 1, []), (.if_icmp .lt 17, [1]), (.iload_n 1, []), (.ldc_w 376, [0]), (.if_icmp .gt 10, [1]), (.iload_n 2, []), (.invokestatic 183, [185, 1, 82]), (.ifCond .ne 5, [2])]),
  (19, 0, [(.iconst (-1), []), (.ireturn, [0])]),
  (21, 0, [(.aload_n 0, []), (.getfield 80, [11, 10, 3, 123]), (.getfield 377, [1, 7, 0, 110]), (.bipush 9, []), (.if_icmp .lt 6, [3]), (.bipush (-2), []), (.ireturn, [0])]),
  (36, 0, [(.aload_n 0, []), (.getfield 80, [11, 10, 3, 123]), (.iload_n 1, []), (.iload_n 2, []), (.invokevirtual 378, [24, 3, 189, 0, 0, 1]), (.ireturn, [0])])]
theorem kX11_order_ok : pm_ck 171 kX11_order = true := by decide +kernel
def kX11_plan : List pm_Bl := [
  (0, 1, [(.iload_n 1, []), (.iconst 1, []), (.if_icmp .lt 20, [1]), (.iload_n 1, []), (.iconst 3, []), (.if_icmp .gt 15, [1]), (.iload_n 2, []), (.iconst 1, []), (.if_icmp .lt 10, [1]), (.iload_n 2, []), (.sipush 10000, []), (.if_icmp .le 5, [2])]),
  (22, 0, [(.iconst (-1), []), (.ireturn, [0])]),
  (24, 0, [(.aload_n 0, []), (.getfield 80, [11, 10, 3, 123]), (.iload_n 1, []), (.iload_n 2, []), (.aload_n 0, []), (.getfield 84, [11, 11, 0, 124]), (.invokevirtual 379, [26, 4, 191, 0, 0, 1]), (.aload_n 0, []), (.getfield 10, [11, 0, 3, 113]), (.aload_n 0, []), (.getfield 80, [11, 10, 3, 123]), (.getfield 382, [1, 8, 0, 112]), (.invokevirtual 111, [119, 2, 24, 0, 0, 10]), (.pop, []), (.aload_n 0, []), (.getfield 80, [11, 10, 3, 123]), (.getfield 382, [1, 8, 0, 112]), (.invokestatic 385, [295, 1, 198]), (.ireturn, [0])])]
theorem kX11_plan_ok : pm_ck 172 kX11_plan = true := by decide +kernel
def kX11_planned : List pm_Bl := [
  (0, 0, [(.aload_n 0, []), (.getfield 80, [11, 10, 3, 123]), (.iload_n 1, []), (.invokevirtual 390, [23, 2, 200, 0, 0, 1]), (.ifCond .ne 5, [1]), (.iconst (-1), []), (.ireturn, [0])]),
  (13, 0, [(.aload_n 0, []), (.getfield 80, [11, 10, 3, 123]), (.iload_n 1, []), (.invokevirtual 391, [25, 2, 201, 0, 0, 1]), (.ireturn, [0])])]
theorem kX11_planned_ok : pm_ck 173 kX11_planned = true := by decide +kernel
def kX11_guess : List pm_Bl := [
  (0, 0, [(.iload_n 1, []), (.bipush 20, []), (.invokestatic 130, [184, 2, 51]), (.ifCond .ne 5, [1]), (.iconst (-1), []), (.ireturn, [0])]),
  (11, 0, [(.aload_n 0, []), (.iload_n 1, []), (.aload_n 0, []), (.getfield 84, [11, 11, 0, 124]), (.bipush 6, []), (.isub, []), (.aload_n 0, []), (.getfield 84, [11, 11, 0, 124]), (.invokevirtual 394, [175, 4, 204, 0, 0, 11]), (.istore_n 2, []), (.aload_n 0, []), (.iload_n 1, []), (.aload_n 0, []), (.getfield 84, [11, 11, 0, 124]), (.bipush 13, []), (.isub, []), (.aload_n 0, []), (.getfield 84, [11, 11, 0, 124]), (.bipush 7, []), (.isub, []), (.invokevirtual 394, [175, 4, 204, 0, 0, 11]), (.istore_n 3, []), (.iconst 0, []), (.iload_n 2, []), (.iload_n 2, []), (.iload_n 3, []), (.isub, []), (.iconst 2, []), (.idiv, []), (.iadd, []), (.invokestatic 397, [9992, 6]), (.ireturn, [0])])]
theorem kX11_guess_ok : pm_ck 174 kX11_guess = true := by decide +kernel
def kX11_keptOf : List pm_Bl := [
  (0, 1, [(.iconst 0, []), (.istore 4, []), (.iconst 0, []), (.istore 5, [])]),
  (6, 0, [(.iload 5, []), (.aload_n 0, []), (.getfield 73, [11, 9, 3, 122]), (.getfield 340, [7, 4, 0, 101]), (.if_icmp .ge 82, [5]), (.aload_n 0, []), (.getfield 73, [11, 9, 3, 122]), (.getfield 350, [7, 3, 3, 99]), (.iload 5, []), (.iaload, []), (.iload_n 2, []), (.if_icmp .lt 21, [2]), (.aload_n 0, []), (.getfield 73, [11, 9, 3, 122]), (.getfield 350, [7, 3, 3, 99]), (.iload 5, []), (.iaload, []), (.iload_n 3, []), (.if_icmp .gt 7, [2]), (.iconst 1, []), (.goto 4, [3])]),
  (50, 3, [(.iconst 0, [])]),
  (51, 4, [(.istore 6, []), (.iload 6, []), (.ifCond .eq 36, [4]), (.aload_n 0, []), (.aload_n 0, []), (.getfield 73, [11, 9, 3, 122]), (.getfield 362, [7, 0, 3, 93]), (.iload 5, []), (.iaload, []), (.iload_n 1, []), (.invokevirtual 365, [168, 3, 183, 0, 0, 11]), (.ifCond .le 18, [4]), (.iload 4, []), (.aload_n 0, []), (.getfield 73, [11, 9, 3, 122]), (.getfield 360, [7, 1, 3, 95]), (.iload 5, []), (.iaload, []), (.iadd, []), (.istore 4, [])]),
  (91, 0, [(.iinc 5 1, []), (.goto (-88), [1])]),
  (97, 0, [(.iload 4, []), (.ireturn, [0])])]
theorem kX11_keptOf_ok : pm_ck 175 kX11_keptOf = true := by decide +kernel
def kX11_cost : List pm_Bl := [
  (0, 1, [(.iload_n 1, []), (.bipush 20, []), (.invokestatic 130, [184, 2, 51]), (.ifCond .eq 14, [1]), (.iload_n 2, []), (.ifCond .lt 10, [1]), (.iload_n 2, []), (.ldc_w 376, [0]), (.if_icmp .le 5, [2])]),
  (20, 0, [(.iconst (-1), []), (.ireturn, [0])]),
  (22, 3, [(.iload_n 3, []), (.ifCond .lt 23, [3]), (.iload_n 3, []), (.sipush 1000, []), (.if_icmp .gt 16, [3]), (.iload 4, []), (.ifCond .lt 11, [3]), (.iload 4, []), (.sipush 1000, []), (.if_icmp .le 5, [4])]),
  (46, 0, [(.iconst (-1), []), (.ireturn, [0])]),
  (48, 0, [(.aload_n 0, []), (.iload_n 1, []), (.invokevirtual 400, [174, 2, 206, 0, 0, 11]), (.i2l, []), (.iload_n 2, []), (.i2l, []), (.lsub, []), (.lstore 5, []), (.aload_n 0, []), (.getfield 10, [11, 0, 3, 113]), (.lload 5, []), (.lconst 0, []), (.lcmp, []), (.ifCond .le 11, [5]), (.lload 5, []), (.iload_n 3, []), (.i2l, []), (.lmul, []), (.goto 10, [6])]),
  (78, 6, [(.lload 5, []), (.lneg, []), (.iload 4, []), (.i2l, []), (.lmul, [])]),
  (85, 0, [(.putfield 368, [10, 5, 1, 11]), (.lload 5, []), (.lconst 0, []), (.lcmp, []), (.ifCond .ne 5, [7]), (.iconst 0, []), (.ireturn, [0])]),
  (97, 0, [(.lload 5, []), (.lconst 0, []), (.lcmp, []), (.ifCond .le 7, [8]), (.iconst 1, []), (.goto 4, [9])]),
  (108, 9, [(.iconst 2, [])]),
  (109, 0, [(.ireturn, [0])])]
theorem kX11_cost_ok : pm_ck 176 kX11_cost = true := by decide +kernel
def kX11_asked : List pm_Bl := [
  (0, 0, [(.aload_n 0, []), (.getfield 10, [11, 0, 3, 113]), (.getfield 403, [10, 2, 0, 5]), (.ireturn, [0])])]
theorem kX11_asked_ok : pm_ck 177 kX11_asked = true := by decide +kernel
def kX11_upper : List pm_Bl := [
  (0, 0, [(.aload_n 0, []), (.getfield 10, [11, 0, 3, 113]), (.getfield 406, [10, 3, 1, 7]), (.lreturn, [])])]
theorem kX11_upper_ok : pm_ck 178 kX11_upper = true := by decide +kernel
def kX11_lower : List pm_Bl := [
  (0, 0, [(.aload_n 0, []), (.getfield 10, [11, 0, 3, 113]), (.getfield 409, [10, 4, 1, 9]), (.lreturn, [])])]
theorem kX11_lower_ok : pm_ck 179 kX11_lower = true := by decide +kernel
def kX11_count : List pm_Bl := [
  (0, 0, [(.iload_n 1, []), (.tableswitch 144 0 10 #[59, 64, 72, 80, 88, 96, 104, 112, 120, 128, 136], [12, 1, 2, 3, 4, 5, 6, 7, 8, 9, 10, 11])]),
  (60, 0, [(.aload_n 0, []), (.getfield 84, [11, 11, 0, 124]), (.ireturn, [0])]),
  (65, 0, [(.aload_n 0, []), (.getfield 31, [11, 3, 3, 116]), (.getfield 133, [0, 9, 0, 27]), (.ireturn, [0])]),
  (73, 0, [(.aload_n 0, []), (.getfield 31, [11, 3, 3, 116]), (.invokevirtual 412, [14, 1, 211, 0, 0, 0]), (.ireturn, [0])]),
  (81, 0, [(.aload_n 0, []), (.getfield 45, [11, 5, 3, 118]), (.getfield 213, [6, 7, 0, 44]), (.ireturn, [0])]),
  (89, 0, [(.aload_n 0, []), (.getfield 52, [11, 6, 3, 119]), (.getfield 231, [5, 5, 0, 51]), (.ireturn, [0])]),
  (97, 0, [(.aload_n 0, []), (.getfield 59, [11, 7, 3, 120]), (.getfield 243, [4, 4, 0, 61]), (.ireturn, [0])]),
  (105, 0, [(.aload_n 0, []), (.getfield 73, [11, 9, 3, 122]), (.getfield 340, [7, 4, 0, 101]), (.ireturn, [0])]),
  (113, 0, [(.aload_n 0, []), (.getfield 80, [11, 10, 3, 123]), (.getfield 377, [1, 7, 0, 110]), (.ireturn, [0])]),
  (121, 0, [(.aload_n 0, []), (.getfield 31, [11, 3, 3, 116]), (.getfield 166, [0, 10, 0, 29]), (.ireturn, [0])]),
  (129, 0, [(.aload_n 0, []), (.getfield 21, [11, 1, 3, 114]), (.invokevirtual 415, [115, 1, 212, 0, 0, 9]), (.ireturn, [0])]),
  (137, 0, [(.aload_n 0, []), (.getfield 25, [11, 2, 3, 115]), (.invokevirtual 415, [115, 1, 212, 0, 0, 9]), (.ireturn, [0])]),
  (145, 0, [(.iconst (-1), []), (.ireturn, [0])])]
theorem kX11_count_ok : pm_ck 180 kX11_count = true := by decide +kernel
def kX11_finding : List pm_Bl := [
  (0, 0, [(.aload_n 0, []), (.getfield 10, [11, 0, 3, 113]), (.getfield 418, [10, 1, 0, 3]), (.ireturn, [0])])]
theorem kX11_finding_ok : pm_ck 181 kX11_finding = true := by decide +kernel
def kX11_findings : List pm_Bl := [
  (0, 1, [(.iload_n 1, []), (.iconst 1, []), (.if_icmp .lt 8, [1]), (.iload_n 1, []), (.iconst 5, []), (.if_icmp .le 7, [2])]),
  (10, 0, [(.iconst (-1), []), (.goto 12, [3])]),
  (14, 3, [(.aload_n 0, []), (.getfield 10, [11, 0, 3, 113]), (.getfield 421, [10, 0, 3, 1]), (.iload_n 1, []), (.iaload, [])]),
  (23, 0, [(.ireturn, [0])])]
theorem kX11_findings_ok : pm_ck 182 kX11_findings = true := by decide +kernel
def kX11_digest : List pm_Bl := [
  (0, 1, [(.ldc2_w 424, [8]), (.lstore_n 1, []), (.iconst 0, []), (.istore_n 3, [])]),
  (6, 0, [(.iload_n 3, []), (.bipush 10, []), (.if_icmp .gt 22, [2]), (.ldc2_w 426, [9]), (.lload_n 1, []), (.lmul, []), (.aload_n 0, []), (.iload_n 3, []), (.invokevirtual 428, [180, 2, 216, 0, 0, 11]), (.i2l, []), (.ladd, []), (.lstore_n 1, []), (.iinc 3 1, []), (.goto (-22), [1])]),
  (31, 3, [(.aload_n 0, []), (.getfield 31, [11, 3, 3, 116]), (.lload_n 1, []), (.invokevirtual 430, [21, 2, 217, 0, 0, 0]), (.lstore_n 1, []), (.aload_n 0, []), (.getfield 38, [11, 4, 3, 117]), (.lload_n 1, []), (.invokevirtual 433, [46, 2, 219, 0, 0, 3]), (.lstore_n 1, []), (.iconst 0, []), (.istore_n 3, [])]),
  (51, 4, [(.iload_n 3, []), (.aload_n 0, []), (.getfield 45, [11, 5, 3, 118]), (.getfield 213, [6, 7, 0, 44]), (.if_icmp .ge 40, [6]), (.iconst 0, []), (.istore 4, [])]),
  (65, 0, [(.iload 4, []), (.bipush 6, []), (.if_icmp .gt 24, [5]), (.ldc2_w 426, [9]), (.lload_n 1, []), (.lmul, []), (.aload_n 0, []), (.iload_n 3, []), (.iload 4, []), (.invokevirtual 218, [147, 3, 105, 0, 0, 11]), (.i2l, []), (.ladd, []), (.lstore_n 1, []), (.iinc 4 1, []), (.goto (-25), [4])]),
  (93, 0, [(.iinc 3 1, []), (.goto (-45), [3])]),
  (99, 0, [(.aload_n 0, []), (.getfield 52, [11, 6, 3, 119]), (.lload_n 1, []), (.aload_n 0, []), (.getfield 84, [11, 11, 0, 124]), (.invokevirtual 434, [71, 3, 220, 0, 0, 5]), (.lstore_n 1, []), (.aload_n 0, []), (.getfield 59, [11, 7, 3, 120]), (.lload_n 1, []), (.invokevirtual 437, [52, 2, 222, 0, 0, 4]), (.lstore_n 1, []), (.aload_n 0, []), (.getfield 73, [11, 9, 3, 122]), (.lload_n 1, []), (.invokevirtual 438, [90, 2, 223, 0, 0, 7]), (.lstore_n 1, []), (.aload_n 0, []), (.getfield 80, [11, 10, 3, 123]), (.lload_n 1, []), (.invokevirtual 439, [33, 2, 224, 0, 0, 1]), (.lstore_n 1, []), (.aload_n 0, []), (.getfield 21, [11, 1, 3, 114]), (.lload_n 1, []), (.invokevirtual 440, [116, 2, 225, 0, 0, 9]), (.lstore_n 1, []), (.aload_n 0, []), (.getfield 25, [11, 2, 3, 115]), (.lload_n 1, []), (.invokevirtual 440, [116, 2, 225, 0, 0, 9]), (.lreturn, [])])]
theorem kX11_digest_ok : pm_ck 183 kX11_digest = true := by decide +kernel
def kX11_below : List pm_Bl := [
  (0, 0, [(.iload_n 0, []), (.ifCond .lt 12, [1]), (.iload_n 0, []), (.iload_n 1, []), (.if_icmp .ge 7, [1]), (.iconst 1, []), (.goto 4, [2])]),
  (13, 2, [(.iconst 0, [])]),
  (14, 0, [(.ireturn, [1])])]
theorem kX11_below_ok : pm_ck 184 kX11_below = true := by decide +kernel
def kX11_isDay : List pm_Bl := [
  (0, 0, [(.iload_n 0, []), (.ifCond .lt 14, [1]), (.iload_n 0, []), (.sipush 999, []), (.if_icmp .gt 7, [1]), (.iconst 1, []), (.goto 4, [2])]),
  (15, 2, [(.iconst 0, [])]),
  (16, 0, [(.ireturn, [1])])]
theorem kX11_isDay_ok : pm_ck 185 kX11_isDay = true := by decide +kernel
def kX11_isTurn : List pm_Bl := [
  (0, 0, [(.iload_n 0, []), (.ifCond .lt 14, [1]), (.iload_n 0, []), (.sipush 999, []), (.if_icmp .gt 7, [1]), (.iconst 1, []), (.goto 4, [2])]),
  (15, 2, [(.iconst 0, [])]),
  (16, 0, [(.ireturn, [1])])]
theorem kX11_isTurn_ok : pm_ck 186 kX11_isTurn = true := by decide +kernel
def kJ6_bitCount_0f7a4 : List pm_Bl := [
  (0, 0, [(.iload_n 0, []), (.iload_n 0, []), (.iconst 1, []), (.iushr, []), (.ldc_w 265, [1]), (.iand, []), (.isub, []), (.istore_n 0, []), (.iload_n 0, []), (.ldc_w 266, [2]), (.iand, []), (.iload_n 0, []), (.iconst 2, []), (.iushr, []), (.ldc_w 266, [2]), (.iand, []), (.iadd, []), (.istore_n 0, []), (.iload_n 0, []), (.iload_n 0, []), (.iconst 4, []), (.iushr, []), (.iadd, []), (.ldc_w 267, [3]), (.iand, []), (.istore_n 0, []), (.iload_n 0, []), (.iload_n 0, []), (.bipush 8, []), (.iushr, []), (.iadd, []), (.istore_n 0, []), (.iload_n 0, []), (.iload_n 0, []), (.bipush 16, []), (.iushr, []), (.iadd, []), (.istore_n 0, []), (.iload_n 0, []), (.bipush 63, []), (.iand, []), (.ireturn, [0])])]
theorem kJ6_bitCount_0f7a4_ok : pm_ck 295 kJ6_bitCount_0f7a4 = true := by decide +kernel
def kJ13_bitCount_95d88 : List pm_Bl := [
  (0, 0, [(.lload_n 0, []), (.lload_n 0, []), (.iconst 1, []), (.lushr, []), (.ldc2_w 314, [0]), (.land, []), (.lsub, []), (.lstore_n 0, []), (.lload_n 0, []), (.ldc2_w 316, [1]), (.land, []), (.lload_n 0, []), (.iconst 2, []), (.lushr, []), (.ldc2_w 316, [1]), (.land, []), (.ladd, []), (.lstore_n 0, []), (.lload_n 0, []), (.lload_n 0, []), (.iconst 4, []), (.lushr, []), (.ladd, []), (.ldc2_w 318, [2]), (.land, []), (.lstore_n 0, []), (.lload_n 0, []), (.lload_n 0, []), (.bipush 8, []), (.lushr, []), (.ladd, []), (.lstore_n 0, []), (.lload_n 0, []), (.lload_n 0, []), (.bipush 16, []), (.lushr, []), (.ladd, []), (.lstore_n 0, []), (.lload_n 0, []), (.lload_n 0, []), (.bipush 32, []), (.lushr, []), (.ladd, []), (.lstore_n 0, []), (.lload_n 0, []), (.l2i, []), (.bipush 127, []), (.iand, []), (.ireturn, [0])])]
theorem kJ13_bitCount_95d88_ok : pm_ck 296 kJ13_bitCount_95d88 = true := by decide +kernel
def kJ9_abs_0f7a4 : List pm_Bl := [
  (0, 0, [(.iload_n 0, []), (.ifCond .ge 8, [1]), (.iload_n 0, []), (.ineg, []), (.goto 4, [2])]),
  (9, 2, [(.iload_n 0, [])]),
  (10, 0, [(.ireturn, [0])])]
def kJ9_abs_067f4 : List pm_Bl := [
  (0, 0, [(.lload_n 0, []), (.lconst 0, []), (.lcmp, []), (.ifCond .ge 8, [1]), (.lload_n 0, []), (.lneg, []), (.goto 4, [2])]),
  (11, 2, [(.lload_n 0, [])]),
  (12, 0, [(.lreturn, [])])]
def kJ9_max_7cf53 : List pm_Bl := [
  (0, 0, [(.iload_n 0, []), (.iload_n 1, []), (.if_icmp .lt 7, [1]), (.iload_n 0, []), (.goto 4, [2])]),
  (9, 2, [(.iload_n 1, [])]),
  (10, 0, [(.ireturn, [0])])]
def kJ9_min_7cf53 : List pm_Bl := [
  (0, 0, [(.iload_n 0, []), (.iload_n 1, []), (.if_icmp .gt 7, [1]), (.iload_n 0, []), (.goto 4, [2])]),
  (9, 2, [(.iload_n 1, [])]),
  (10, 0, [(.ireturn, [0])])]
def kJ9_min_f86c9 : List pm_Bl := [
  (0, 0, [(.lload_n 0, []), (.lload_n 2, []), (.lcmp, []), (.ifCond .gt 7, [1]), (.lload_n 0, []), (.goto 4, [2])]),
  (10, 2, [(.lload_n 2, [])]),
  (11, 0, [(.lreturn, [])])]
