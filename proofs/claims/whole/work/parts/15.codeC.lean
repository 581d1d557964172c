def kX12_init : List pm_Bl := [
  (0, 1, [(.aload_n 0, []), (.invokespecial 1, [9999, 12]), (.aload_n 0, []), (.bipush 6, []), (.newarray .int, [0]), (.putfield 7, [12, 1, 3, 126]), (.aload_n 0, []), (.bipush 6, []), (.newarray .int, [0]), (.putfield 13, [12, 5, 3, 130]), (.aload_n 0, []), (.sipush 144, []), (.newarray .int, [0]), (.putfield 16, [12, 6, 3, 131]), (.aload_n 0, []), (.bipush 24, []), (.newarray .int, [0]), (.putfield 19, [12, 7, 3, 132]), (.aload_n 0, []), (.iconst 4, []), (.newarray .int, [0]), (.putfield 22, [12, 8, 3, 133]), (.aload_n 0, []), (.sipush 192, []), (.newarray .byte, [2]), (.putfield 25, [12, 9, 3, 134]), (.aload_n 0, []), (.bipush 24, []), (.newarray .int, [0]), (.putfield 29, [12, 17, 3, 142]), (.aload_n 0, []), (.bipush 24, []), (.newarray .int, [0]), (.putfield 32, [12, 18, 3, 143]), (.aload_n 0, []), (.bipush 24, []), (.newarray .int, [0]), (.putfield 35, [12, 19, 3, 144]), (.aload_n 0, []), (.sipush 2304, []), (.newarray .int, [0]), (.putfield 38, [12, 20, 3, 145]), (.aload_n 0, []), (.bipush 40, []), (.newarray .int, [0]), (.putfield 41, [12, 24, 3, 149]), (.aload_n 0, []), (.bipush 40, []), (.newarray .int, [0]), (.putfield 44, [12, 25, 3, 150]), (.aload_n 0, []), (.bipush 40, []), (.newarray .int, [0]), (.putfield 47, [12, 26, 3, 151]), (.aload_n 0, []), (.bipush 40, []), (.newarray .int, [0]), (.putfield 50, [12, 27, 3, 152]), (.aload_n 0, []), (.bipush 40, []), (.newarray .int, [0]), (.putfield 53, [12, 28, 3, 153]), (.aload_n 0, []), (.bipush 40, []), (.newarray .int, [0]), (.putfield 56, [12, 29, 3, 154]), (.aload_n 0, []), (.bipush 120, []), (.newarray .int, [0]), (.putfield 59, [12, 31, 3, 156]), (.aload_n 0, []), (.bipush 120, []), (.newarray .int, [0]), (.putfield 62, [12, 32, 3, 157]), (.aload_n 0, []), (.bipush 120, []), (.newarray .int, [0]), (.putfield 65, [12, 33, 3, 158]), (.aload_n 0, []), (.bipush 6, []), (.newarray .int, [0]), (.putfield 68, [12, 34, 3, 159]), (.aload_n 0, []), (.bipush 6, []), (.newarray .int, [0]), (.putfield 71, [12, 35, 3, 160]), (.aload_n 0, []), (.bipush 6, []), (.newarray .int, [0]), (.putfield 74, [12, 36, 3, 161]), (.aload_n 0, []), (.bipush 6, []), (.newarray .int, [0]), (.putfield 77, [12, 37, 3, 162]), (.aload_n 0, []), (.bipush 30, []), (.newarray .int, [0]), (.putfield 80, [12, 39, 3, 164]), (.aload_n 0, []), (.bipush 30, []), (.newarray .int, [0]), (.putfield 83, [12, 40, 3, 165]), (.aload_n 0, []), (.bipush 30, []), (.newarray .int, [0]), (.putfield 86, [12, 41, 3, 166]), (.aload_n 0, []), (.bipush 30, []), (.newarray .int, [0]), (.putfield 89, [12, 42, 3, 167]), (.aload_n 0, []), (.bipush 30, []), (.newarray .int, [0]), (.putfield 92, [12, 43, 3, 168]), (.aload_n 0, []), (.bipush 30, []), (.newarray .int, [0]), (.putfield 95, [12, 44, 3, 169]), (.aload_n 0, []), (.bipush 30, []), (.newarray .int, [0]), (.putfield 98, [12, 45, 3, 170]), (.aload_n 0, []), (.bipush 30, []), (.newarray .int, [0]), (.putfield 101, [12, 46, 3, 171]), (.aload_n 0, []), (.bipush 60, []), (.newarray .int, [0]), (.putfield 104, [12, 48, 3, 173]), (.aload_n 0, []), (.bipush 60, []), (.newarray .int, [0]), (.putfield 107, [12, 49, 3, 174]), (.aload_n 0, []), (.bipush 60, []), (.newarray .int, [0]), (.putfield 110, [12, 50, 3, 175]), (.aload_n 0, []), (.bipush 60, []), (.newarray .boolean, [3]), (.putfield 113, [12, 51, 3, 176]), (.aload_n 0, []), (.sipush 200, []), (.newarray .int, [0]), (.putfield 117, [12, 53, 3, 178]), (.aload_n 0, []), (.sipush 200, []), (.newarray .int, [0]), (.putfield 120, [12, 54, 3, 179]), (.aload_n 0, []), (.sipush 200, []), (.newarray .int, [0]), (.putfield 123, [12, 55, 3, 180]), (.aload_n 0, []), (.sipush 200, []), (.newarray .int, [0]), (.putfield 126, [12, 56, 3, 181]), (.aload_n 0, []), (.sipush 200, []), (.newarray .long, [1]), (.putfield 129, [12, 57, 3, 182]), (.aload_n 0, []), (.bipush 60, []), (.newarray .int, [0]), (.putfield 133, [12, 59, 3, 184]), (.aload_n 0, []), (.iconst 3, []), (.newarray .int, [0]), (.putfield 136, [12, 62, 3, 187]), (.aload_n 0, []), (.bipush 60, []), (.newarray .int, [0]), (.putfield 139, [12, 64, 3, 189]), (.aload_n 0, []), (.bipush 18, []), (.newarray .int, [0]), (.putfield 142, [12, 66, 3, 191]), (.aload_n 0, []), (.bipush 60, []), (.newarray .int, [0]), (.putfield 145, [12, 68, 3, 193]), (.aload_n 0, []), (.bipush 60, []), (.newarray .int, [0]), (.putfield 148, [12, 69, 3, 194]), (.aload_n 0, []), (.bipush 60, []), (.newarray .int, [0]), (.putfield 151, [12, 70, 3, 195]), (.aload_n 0, []), (.bipush 60, []), (.newarray .int, [0]), (.putfield 154, [12, 71, 3, 196]), (.aload_n 0, []), (.bipush 9, []), (.newarray .int, [0]), (.putfield 157, [12, 74, 3, 199]), (.aload_n 0, []), (.bipush 9, []), (.newarray .int, [0]), (.putfield 160, [12, 75, 3, 200]), (.aload_n 0, []), (.sipush 512, []), (.newarray .boolean, [3]), (.putfield 163, [12, 76, 3, 201]), (.aload_n 0, []), (.sipush 512, []), (.newarray .boolean, [3]), (.putfield 166, [12, 77, 3, 202]), (.aload_n 0, []), (.bipush 9, []), (.newarray .int, [0]), (.putfield 169, [12, 78, 3, 203]), (.aload_n 0, []), (.iconst 3, []), (.newarray .int, [0]), (.putfield 172, [12, 79, 3, 204]), (.aload_n 0, []), (.lconst 1, []), (.putfield 175, [12, 4, 1, 129]), (.iconst 0, []), (.istore_n 1, [])]),
  (450, 0, [(.iload_n 1, []), (.bipush 6, []), (.if_icmp .ge 32, [2]), (.aload_n 0, []), (.getfield 13, [12, 5, 3, 130]), (.iload_n 1, []), (.iconst (-1), []), (.iastore, []), (.aload_n 0, []), (.getfield 68, [12, 34, 3, 159]), (.iload_n 1, []), (.bipush (-9), []), (.iastore, []), (.aload_n 0, []), (.getfield 71, [12, 35, 3, 160]), (.iload_n 1, []), (.bipush (-9), []), (.iastore, []), (.iinc 1 1, []), (.goto (-32), [1])]),
  (485, 3, [(.iconst 0, []), (.istore_n 1, [])]),
  (487, 0, [(.iload_n 1, []), (.iconst 4, []), (.if_icmp .ge 16, [4]), (.aload_n 0, []), (.getfield 22, [12, 8, 3, 133]), (.iload_n 1, []), (.iconst (-1), []), (.iastore, []), (.iinc 1 1, []), (.goto (-15), [3])]),
  (505, 5, [(.iconst 0, []), (.istore_n 1, [])]),
  (507, 0, [(.iload_n 1, []), (.bipush 9, []), (.if_icmp .ge 17, [6]), (.aload_n 0, []), (.getfield 169, [12, 78, 3, 203]), (.iload_n 1, []), (.bipush (-9), []), (.iastore, []), (.iinc 1 1, []), (.goto (-17), [5])]),
  (527, 0, [(.return_, [])])]
theorem kX12_init_ok : pm_ck 187 kX12_init = true := by decide +kernel
def kX12_in : List pm_Bl := [
  (0, 0, [(.iload_n 0, []), (.iload_n 1, []), (.if_icmp .lt 12, [1]), (.iload_n 0, []), (.iload_n 2, []), (.if_icmp .gt 7, [1]), (.iconst 1, []), (.goto 4, [2])]),
  (14, 2, [(.iconst 0, [])]),
  (15, 0, [(.ireturn, [1])])]
theorem kX12_in_ok : pm_ck 188 kX12_in = true := by decide +kernel
def kX12_meets : List pm_Bl := [
  (0, 0, [(.aload_n 0, []), (.iload_n 1, []), (.putfield 179, [12, 0, 0, 125]), (.aload_n 0, []), (.getfield 7, [12, 1, 3, 126]), (.iload_n 1, []), (.dup2, []), (.iaload, []), (.iconst 1, []), (.iadd, []), (.iastore, []), (.bipush (-3), []), (.ireturn, [0])])]
theorem kX12_meets_ok : pm_ck 189 kX12_meets = true := by decide +kernel
def kX12_finding : List pm_Bl := [
  (0, 0, [(.aload_n 0, []), (.getfield 179, [12, 0, 0, 125]), (.ireturn, [0])])]
theorem kX12_finding_ok : pm_ck 190 kX12_finding = true := by decide +kernel
def kX12_findings : List pm_Bl := [
  (0, 0, [(.iload_n 1, []), (.iconst 1, []), (.iconst 5, []), (.invokestatic 183, [188, 3, 229]), (.ifCond .eq 12, [1]), (.aload_n 0, []), (.getfield 7, [12, 1, 3, 126]), (.iload_n 1, []), (.iaload, []), (.goto 4, [2])]),
  (18, 2, [(.iconst (-1), [])]),
  (19, 0, [(.ireturn, [0])])]
theorem kX12_findings_ok : pm_ck 191 kX12_findings = true := by decide +kernel
def kX12_tells : List pm_Bl := [
  (0, 0, [(.aload_n 0, []), (.iload_n 1, []), (.putfield 187, [12, 2, 0, 127]), (.iload_n 2, []), (.ireturn, [0])])]
theorem kX12_tells_ok : pm_ck 192 kX12_tells = true := by decide +kernel
def kX12_asked : List pm_Bl := [
  (0, 0, [(.aload_n 0, []), (.getfield 187, [12, 2, 0, 127]), (.ireturn, [0])])]
theorem kX12_asked_ok : pm_ck 193 kX12_asked = true := by decide +kernel
def kX12_fraction : List pm_Bl := [
  (0, 1, [(.lload_n 1, []), (.lstore 6, []), (.lload_n 3, []), (.lstore 8, [])]),
  (6, 0, [(.lload 8, []), (.lconst 0, []), (.lcmp, []), (.ifCond .eq 21, [2]), (.lload 6, []), (.lload 8, []), (.lrem, []), (.lstore 10, []), (.lload 8, []), (.lstore 6, []), (.lload 10, []), (.lstore 8, []), (.goto (-22), [1])]),
  (31, 0, [(.aload_n 0, []), (.lload_n 1, []), (.lload 6, []), (.ldiv, []), (.putfield 190, [12, 3, 1, 128]), (.aload_n 0, []), (.lload_n 3, []), (.lload 6, []), (.ldiv, []), (.putfield 175, [12, 4, 1, 129]), (.iload 5, []), (.ireturn, [0])])]
theorem kX12_fraction_ok : pm_ck 194 kX12_fraction = true := by decide +kernel
def kX12_upper : List pm_Bl := [
  (0, 0, [(.aload_n 0, []), (.getfield 190, [12, 3, 1, 128]), (.lreturn, [])])]
theorem kX12_upper_ok : pm_ck 195 kX12_upper = true := by decide +kernel
def kX12_lower : List pm_Bl := [
  (0, 0, [(.aload_n 0, []), (.getfield 175, [12, 4, 1, 129]), (.lreturn, [])])]
theorem kX12_lower_ok : pm_ck 196 kX12_lower = true := by decide +kernel
def kX12_isRow : List pm_Bl := [
  (0, 0, [(.iload_n 0, []), (.iconst 0, []), (.iconst 5, []), (.invokestatic 183, [188, 3, 229]), (.ireturn, [1])])]
theorem kX12_isRow_ok : pm_ck 197 kX12_isRow = true := by decide +kernel
def kX12_at : List pm_Bl := [
  (0, 0, [(.aload_n 0, []), (.getfield 16, [12, 6, 3, 131]), (.bipush 24, []), (.iload_n 1, []), (.imul, []), (.iload_n 2, []), (.iadd, []), (.iaload, []), (.ireturn, [0])])]
theorem kX12_at_ok : pm_ck 198 kX12_at = true := by decide +kernel
def kX12_row : List pm_Bl := [
  (0, 1, [(.iload_n 1, []), (.invokestatic 193, [197, 1, 234]), (.ifCond .eq 9, [1]), (.iload_n 2, []), (.bipush 24, []), (.if_icmp .le 5, [2])]),
  (13, 0, [(.iconst (-1), []), (.ireturn, [0])]),
  (15, 0, [(.iload_n 2, []), (.ifCond .ge 9, [3]), (.aload_n 0, []), (.iconst 5, []), (.invokevirtual 197, [189, 2, 235, 0, 0, 12]), (.ireturn, [0])]),
  (25, 4, [(.aload_n 0, []), (.getfield 13, [12, 5, 3, 130]), (.iload_n 1, []), (.iload_n 2, []), (.iastore, []), (.iconst 0, []), (.istore_n 3, [])]),
  (34, 0, [(.iload_n 3, []), (.bipush 24, []), (.if_icmp .ge 21, [5]), (.aload_n 0, []), (.getfield 16, [12, 6, 3, 131]), (.bipush 24, []), (.iload_n 1, []), (.imul, []), (.iload_n 3, []), (.iadd, []), (.iconst 0, []), (.iastore, []), (.iinc 3 1, []), (.goto (-21), [4])]),
  (58, 0, [(.iload_n 2, []), (.ireturn, [0])])]
theorem kX12_row_ok : pm_ck 199 kX12_row = true := by decide +kernel
def kX12_lay : List pm_Bl := [
  (0, 0, [(.iload_n 1, []), (.invokestatic 193, [197, 1, 234]), (.ifCond .ne 5, [1]), (.iconst (-1), []), (.ireturn, [0])]),
  (9, 0, [(.aload_n 0, []), (.getfield 13, [12, 5, 3, 130]), (.iload_n 1, []), (.iaload, []), (.ifCond .ge 9, [2]), (.aload_n 0, []), (.iconst 1, []), (.invokevirtual 197, [189, 2, 235, 0, 0, 12]), (.ireturn, [0])]),
  (24, 0, [(.iload_n 2, []), (.iconst 0, []), (.aload_n 0, []), (.getfield 13, [12, 5, 3, 130]), (.iload_n 1, []), (.iaload, []), (.iconst 1, []), (.isub, []), (.invokestatic 183, [188, 3, 229]), (.ifCond .ne 9, [3]), (.aload_n 0, []), (.iconst 2, []), (.invokevirtual 197, [189, 2, 235, 0, 0, 12]), (.ireturn, [0])]),
  (46, 0, [(.aload_n 0, []), (.iload_n 1, []), (.iload_n 2, []), (.invokevirtual 201, [198, 3, 237, 0, 0, 12]), (.istore 4, []), (.aload_n 0, []), (.getfield 16, [12, 6, 3, 131]), (.bipush 24, []), (.iload_n 1, []), (.imul, []), (.iload_n 2, []), (.iadd, []), (.iload_n 3, []), (.iastore, []), (.aload_n 0, []), (.iload 4, []), (.iconst 1, []), (.invokevirtual 205, [192, 3, 238, 0, 0, 12]), (.ireturn, [0])])]
theorem kX12_lay_ok : pm_ck 200 kX12_lay = true := by decide +kernel
def kX12_tear : List pm_Bl := [
  (0, 0, [(.iload_n 1, []), (.invokestatic 193, [197, 1, 234]), (.ifCond .ne 5, [1]), (.iconst (-1), []), (.ireturn, [0])]),
  (9, 0, [(.aload_n 0, []), (.getfield 13, [12, 5, 3, 130]), (.iload_n 1, []), (.iaload, []), (.ifCond .ge 9, [2]), (.aload_n 0, []), (.iconst 1, []), (.invokevirtual 197, [189, 2, 235, 0, 0, 12]), (.ireturn, [0])]),
  (24, 0, [(.aload_n 0, []), (.getfield 13, [12, 5, 3, 130]), (.iload_n 1, []), (.iconst (-1), []), (.iastore, []), (.iconst 1, []), (.ireturn, [0])])]
theorem kX12_tear_ok : pm_ck 201 kX12_tear = true := by decide +kernel
def kX12_copy : List pm_Bl := [
  (0, 1, [(.iload_n 1, []), (.invokestatic 193, [197, 1, 234]), (.ifCond .eq 10, [1]), (.iload_n 3, []), (.invokestatic 193, [197, 1, 234]), (.ifCond .ne 5, [2])]),
  (14, 0, [(.iconst (-1), []), (.ireturn, [0])]),
  (16, 0, [(.iload 5, []), (.ifCond .ge 9, [3]), (.aload_n 0, []), (.iconst 5, []), (.invokevirtual 197, [189, 2, 235, 0, 0, 12]), (.ireturn, [0])]),
  (27, 4, [(.aload_n 0, []), (.getfield 13, [12, 5, 3, 130]), (.iload_n 1, []), (.iaload, []), (.ifCond .lt 12, [4]), (.aload_n 0, []), (.getfield 13, [12, 5, 3, 130]), (.iload_n 3, []), (.iaload, []), (.ifCond .ge 9, [5])]),
  (45, 0, [(.aload_n 0, []), (.iconst 1, []), (.invokevirtual 197, [189, 2, 235, 0, 0, 12]), (.ireturn, [0])]),
  (51, 6, [(.iload_n 2, []), (.ifCond .lt 43, [6]), (.iload 4, []), (.ifCond .lt 38, [6]), (.iload_n 2, []), (.i2l, []), (.iload 5, []), (.i2l, []), (.ladd, []), (.aload_n 0, []), (.getfield 13, [12, 5, 3, 130]), (.iload_n 1, []), (.iaload, []), (.i2l, []), (.lcmp, []), (.ifCond .gt 21, [6]), (.iload 4, []), (.i2l, []), (.iload 5, []), (.i2l, []), (.ladd, []), (.aload_n 0, []), (.getfield 13, [12, 5, 3, 130]), (.iload_n 3, []), (.iaload, []), (.i2l, []), (.lcmp, []), (.ifCond .le 9, [7])]),
  (95, 0, [(.aload_n 0, []), (.iconst 2, []), (.invokevirtual 197, [189, 2, 235, 0, 0, 12]), (.ireturn, [0])]),
  (101, 8, [(.iconst 0, []), (.istore 6, [])]),
  (104, 0, [(.iload 6, []), (.iload 5, []), (.if_icmp .ge 25, [9]), (.aload_n 0, []), (.getfield 19, [12, 7, 3, 132]), (.iload 6, []), (.aload_n 0, []), (.iload_n 1, []), (.iload_n 2, []), (.iload 6, []), (.iadd, []), (.invokevirtual 201, [198, 3, 237, 0, 0, 12]), (.iastore, []), (.iinc 6 1, []), (.goto (-26), [8])]),
  (133, 10, [(.iconst 0, []), (.istore 6, [])]),
  (136, 0, [(.iload 6, []), (.iload 5, []), (.if_icmp .ge 31, [11]), (.aload_n 0, []), (.getfield 16, [12, 6, 3, 131]), (.bipush 24, []), (.iload_n 3, []), (.imul, []), (.iload 4, []), (.iadd, []), (.iload 6, []), (.iadd, []), (.aload_n 0, []), (.getfield 19, [12, 7, 3, 132]), (.iload 6, []), (.iaload, []), (.iastore, []), (.iinc 6 1, []), (.goto (-32), [10])]),
  (171, 0, [(.iconst 1, []), (.ireturn, [0])])]
theorem kX12_copy_ok : pm_ck 202 kX12_copy = true := by decide +kernel
def kX12_isText : List pm_Bl := [
  (0, 0, [(.iload_n 0, []), (.iconst 0, []), (.iconst 3, []), (.invokestatic 183, [188, 3, 229]), (.ireturn, [1])])]
theorem kX12_isText_ok : pm_ck 203 kX12_isText = true := by decide +kernel
def kX12_text : List pm_Bl := [
  (0, 1, [(.iload_n 1, []), (.invokestatic 208, [203, 1, 242]), (.ifCond .eq 9, [1]), (.iload_n 2, []), (.bipush 48, []), (.if_icmp .le 5, [2])]),
  (13, 0, [(.iconst (-1), []), (.ireturn, [0])]),
  (15, 0, [(.iload_n 2, []), (.ifCond .ge 9, [3]), (.aload_n 0, []), (.iconst 5, []), (.invokevirtual 197, [189, 2, 235, 0, 0, 12]), (.ireturn, [0])]),
  (25, 4, [(.aload_n 0, []), (.getfield 22, [12, 8, 3, 133]), (.iload_n 1, []), (.iload_n 2, []), (.iastore, []), (.iconst 0, []), (.istore_n 3, [])]),
  (34, 0, [(.iload_n 3, []), (.bipush 48, []), (.if_icmp .ge 22, [5]), (.aload_n 0, []), (.getfield 25, [12, 9, 3, 134]), (.bipush 48, []), (.iload_n 1, []), (.imul, []), (.iload_n 3, []), (.iadd, []), (.bipush 32, []), (.bastore, []), (.iinc 3 1, []), (.goto (-22), [4])]),
  (59, 0, [(.iload_n 2, []), (.ireturn, [0])])]
theorem kX12_text_ok : pm_ck 204 kX12_text = true := by decide +kernel
def kX12_put : List pm_Bl := [
  (0, 0, [(.iload_n 1, []), (.invokestatic 208, [203, 1, 242]), (.ifCond .ne 5, [1]), (.iconst (-1), []), (.ireturn, [0])]),
  (9, 0, [(.aload_n 0, []), (.getfield 22, [12, 8, 3, 133]), (.iload_n 1, []), (.iaload, []), (.ifCond .ge 9, [2]), (.aload_n 0, []), (.iconst 1, []), (.invokevirtual 197, [189, 2, 235, 0, 0, 12]), (.ireturn, [0])]),
  (24, 0, [(.iload_n 2, []), (.iconst 0, []), (.aload_n 0, []), (.getfield 22, [12, 8, 3, 133]), (.iload_n 1, []), (.iaload, []), (.iconst 1, []), (.isub, []), (.invokestatic 183, [188, 3, 229]), (.ifCond .ne 9, [3]), (.aload_n 0, []), (.iconst 2, []), (.invokevirtual 197, [189, 2, 235, 0, 0, 12]), (.ireturn, [0])]),
  (46, 0, [(.aload_n 0, []), (.getfield 25, [12, 9, 3, 134]), (.bipush 48, []), (.iload_n 1, []), (.imul, []), (.iload_n 2, []), (.iadd, []), (.baload, []), (.istore 4, []), (.aload_n 0, []), (.getfield 25, [12, 9, 3, 134]), (.bipush 48, []), (.iload_n 1, []), (.imul, []), (.iload_n 2, []), (.iadd, []), (.iload_n 3, []), (.i2b, []), (.bastore, []), (.sipush 1000, []), (.iload 4, []), (.iadd, []), (.ireturn, [0])])]
theorem kX12_put_ok : pm_ck 205 kX12_put = true := by decide +kernel
def kX12_burn : List pm_Bl := [
  (0, 0, [(.iload_n 1, []), (.invokestatic 208, [203, 1, 242]), (.ifCond .ne 5, [1]), (.iconst (-1), []), (.ireturn, [0])]),
  (9, 0, [(.aload_n 0, []), (.getfield 22, [12, 8, 3, 133]), (.iload_n 1, []), (.iaload, []), (.ifCond .ge 9, [2]), (.aload_n 0, []), (.iconst 1, []), (.invokevirtual 197, [189, 2, 235, 0, 0, 12]), (.ireturn, [0])]),
  (24, 0, [(.aload_n 0, []), (.getfield 22, [12, 8, 3, 133]), (.iload_n 1, []), (.iconst (-1), []), (.iastore, []), (.iconst 1, []), (.ireturn, [0])])]
theorem kX12_burn_ok : pm_ck 206 kX12_burn = true := by decide +kernel
def kX12_byteAt : List pm_Bl := [
  (0, 0, [(.iload_n 2, []), (.aload_n 0, []), (.getfield 22, [12, 8, 3, 133]), (.iload_n 1, []), (.iaload, []), (.if_icmp .ge 17, [1]), (.aload_n 0, []), (.getfield 25, [12, 9, 3, 134]), (.bipush 48, []), (.iload_n 1, []), (.imul, []), (.iload_n 2, []), (.iadd, []), (.baload, []), (.goto 4, [2])]),
  (24, 2, [(.iconst 0, [])]),
  (25, 0, [(.ireturn, [0])])]
theorem kX12_byteAt_ok : pm_ck 207 kX12_byteAt = true := by decide +kernel
def kX12_isFigure : List pm_Bl := [
  (0, 0, [(.aload_n 0, []), (.iload_n 1, []), (.iload_n 2, []), (.invokevirtual 211, [207, 3, 247, 0, 0, 12]), (.bipush 48, []), (.bipush 48, []), (.iload_n 3, []), (.iadd, []), (.invokestatic 183, [188, 3, 229]), (.ireturn, [1])])]
theorem kX12_isFigure_ok : pm_ck 208 kX12_isFigure = true := by decide +kernel
def kX12_readNumber : List pm_Bl := [
  (0, 1, [(.aload_n 0, []), (.iconst 0, []), (.putfield 214, [12, 13, 0, 138]), (.aload_n 0, []), (.iload_n 2, []), (.putfield 217, [12, 14, 0, 139])]),
  (10, 0, [(.aload_n 0, []), (.getfield 217, [12, 14, 0, 139]), (.iload_n 2, []), (.iload_n 3, []), (.iadd, []), (.if_icmp .ge 54, [2]), (.aload_n 0, []), (.iload_n 1, []), (.aload_n 0, []), (.getfield 217, [12, 14, 0, 139]), (.bipush 9, []), (.invokevirtual 220, [208, 4, 249, 0, 0, 12]), (.ifCond .eq 40, [2]), (.aload_n 0, []), (.bipush 10, []), (.aload_n 0, []), (.getfield 214, [12, 13, 0, 138]), (.imul, []), (.aload_n 0, []), (.iload_n 1, []), (.aload_n 0, []), (.getfield 217, [12, 14, 0, 139]), (.invokevirtual 211, [207, 3, 247, 0, 0, 12]), (.iadd, []), (.bipush 48, []), (.isub, []), (.putfield 214, [12, 13, 0, 138]), (.aload_n 0, []), (.dup, []), (.getfield 217, [12, 14, 0, 139]), (.iconst 1, []), (.iadd, []), (.putfield 217, [12, 14, 0, 139]), (.goto (-58), [1])]),
  (71, 0, [(.aload_n 0, []), (.getfield 217, [12, 14, 0, 139]), (.iload_n 2, []), (.if_icmp .le 7, [3]), (.iconst 1, []), (.goto 4, [4])]),
  (83, 4, [(.iconst 0, [])]),
  (84, 0, [(.ireturn, [1])])]
theorem kX12_readNumber_ok : pm_ck 209 kX12_readNumber = true := by decide +kernel
def kX12_readItem : List pm_Bl := [
  (0, 0, [(.aload_n 0, []), (.iload_n 1, []), (.iload_n 2, []), (.invokevirtual 211, [207, 3, 247, 0, 0, 12]), (.istore_n 3, []), (.aload_n 0, []), (.iconst 0, []), (.putfield 223, [12, 11, 0, 136]), (.aload_n 0, []), (.iconst 0, []), (.putfield 226, [12, 12, 0, 137]), (.iload_n 3, []), (.lookupswitch 284 #[(71, 50), (78, 222), (80, 164), (87, 138), (89, 222)], [17, 1, 13, 9, 6, 13])]),
  (68, 0, [(.aload_n 0, []), (.iconst 0, []), (.putfield 229, [12, 10, 0, 135]), (.aload_n 0, []), (.iload_n 1, []), (.iload_n 2, []), (.iconst 1, []), (.iadd, []), (.iconst 3, []), (.invokevirtual 220, [208, 4, 249, 0, 0, 12]), (.ifCond .ne 7, [2]), (.iload_n 2, []), (.iconst 1, []), (.iadd, []), (.ireturn, [0])]),
  (89, 0, [(.aload_n 0, []), (.iload_n 1, []), (.iload_n 2, []), (.iconst 2, []), (.iadd, []), (.iconst 3, []), (.invokevirtual 220, [208, 4, 249, 0, 0, 12]), (.ifCond .ne 7, [3]), (.iload_n 2, []), (.iconst 2, []), (.iadd, []), (.ireturn, [0])]),
  (105, 0, [(.aload_n 0, []), (.aload_n 0, []), (.iload_n 1, []), (.iload_n 2, []), (.iconst 1, []), (.iadd, []), (.invokevirtual 211, [207, 3, 247, 0, 0, 12]), (.bipush 48, []), (.isub, []), (.putfield 223, [12, 11, 0, 136]), (.aload_n 0, []), (.aload_n 0, []), (.iload_n 1, []), (.iload_n 2, []), (.iconst 2, []), (.iadd, []), (.invokevirtual 211, [207, 3, 247, 0, 0, 12]), (.bipush 48, []), (.isub, []), (.putfield 226, [12, 12, 0, 137]), (.aload_n 0, []), (.iload_n 1, []), (.iload_n 2, []), (.iconst 3, []), (.iadd, []), (.iconst 2, []), (.invokevirtual 232, [209, 4, 250, 0, 0, 12]), (.ifCond .eq 8, [4]), (.bipush (-9), []), (.goto 6, [5])]),
  (152, 5, [(.iload_n 2, []), (.iconst 3, []), (.iadd, [])]),
  (155, 0, [(.ireturn, [0])]),
  (156, 0, [(.aload_n 0, []), (.iconst 1, []), (.putfield 229, [12, 10, 0, 135]), (.aload_n 0, []), (.iload_n 1, []), (.iload_n 2, []), (.iconst 1, []), (.iadd, []), (.iconst 5, []), (.invokevirtual 232, [209, 4, 250, 0, 0, 12]), (.ifCond .eq 8, [7]), (.bipush (-9), []), (.goto 6, [8])]),
  (178, 8, [(.iload_n 2, []), (.iconst 1, []), (.iadd, [])]),
  (181, 0, [(.ireturn, [0])]),
  (182, 0, [(.aload_n 0, []), (.iconst 2, []), (.putfield 229, [12, 10, 0, 135]), (.aload_n 0, []), (.iload_n 1, []), (.iload_n 2, []), (.iconst 1, []), (.iadd, []), (.bipush 7, []), (.invokevirtual 220, [208, 4, 249, 0, 0, 12]), (.ifCond .ne 7, [10]), (.iload_n 2, []), (.iconst 1, []), (.iadd, []), (.ireturn, [0])]),
  (204, 0, [(.aload_n 0, []), (.aload_n 0, []), (.iload_n 1, []), (.iload_n 2, []), (.iconst 1, []), (.iadd, []), (.invokevirtual 211, [207, 3, 247, 0, 0, 12]), (.bipush 48, []), (.isub, []), (.putfield 223, [12, 11, 0, 136]), (.aload_n 0, []), (.iload_n 1, []), (.iload_n 2, []), (.iconst 2, []), (.iadd, []), (.iconst 4, []), (.invokevirtual 232, [209, 4, 250, 0, 0, 12]), (.ifCond .eq 8, [11]), (.bipush (-9), []), (.goto 6, [12])]),
  (236, 12, [(.iload_n 2, []), (.iconst 2, []), (.iadd, [])]),
  (239, 0, [(.ireturn, [0])]),
  (240, 0, [(.aload_n 0, []), (.iconst 3, []), (.putfield 229, [12, 10, 0, 135]), (.aload_n 0, []), (.iload_n 1, []), (.iload_n 2, []), (.iconst 1, []), (.iadd, []), (.bipush 7, []), (.invokevirtual 220, [208, 4, 249, 0, 0, 12]), (.ifCond .ne 7, [14]), (.iload_n 2, []), (.iconst 1, []), (.iadd, []), (.ireturn, [0])]),
  (262, 0, [(.aload_n 0, []), (.aload_n 0, []), (.iload_n 1, []), (.iload_n 2, []), (.iconst 1, []), (.iadd, []), (.invokevirtual 211, [207, 3, 247, 0, 0, 12]), (.bipush 48, []), (.isub, []), (.putfield 223, [12, 11, 0, 136]), (.aload_n 0, []), (.iload_n 3, []), (.bipush 89, []), (.if_icmp .ne 7, [15]), (.iconst 1, []), (.goto 4, [16])]),
  (288, 16, [(.iconst 0, [])]),
  (289, 0, [(.putfield 214, [12, 13, 0, 138]), (.aload_n 0, []), (.iload_n 2, []), (.iconst 2, []), (.iadd, []), (.putfield 217, [12, 14, 0, 139]), (.bipush (-9), []), (.ireturn, [0])]),
  (302, 0, [(.iload_n 2, []), (.ireturn, [0])])]
theorem kX12_readItem_ok : pm_ck 210 kX12_readItem = true := by decide +kernel
def kX12_faultOf : List pm_Bl := [
  (0, 1, [(.iconst 0, []), (.istore_n 2, [])]),
  (2, 0, [(.iload_n 2, []), (.aload_n 0, []), (.getfield 22, [12, 8, 3, 133]), (.iload_n 1, []), (.iaload, []), (.if_icmp .ge 43, [4]), (.aload_n 0, []), (.iload_n 1, []), (.iload_n 2, []), (.invokevirtual 211, [207, 3, 247, 0, 0, 12]), (.bipush 32, []), (.if_icmp .ne 9, [2]), (.iinc 2 1, []), (.goto (-24), [1])]),
  (29, 0, [(.aload_n 0, []), (.iload_n 1, []), (.iload_n 2, []), (.invokevirtual 235, [210, 3, 248, 0, 0, 12]), (.istore_n 3, []), (.iload_n 3, []), (.bipush (-9), []), (.if_icmp .eq 5, [3]), (.iload_n 3, []), (.ireturn, [0])]),
  (44, 0, [(.aload_n 0, []), (.getfield 217, [12, 14, 0, 139]), (.istore_n 2, []), (.goto (-47), [1])]),
  (52, 0, [(.bipush (-9), []), (.ireturn, [0])])]
theorem kX12_faultOf_ok : pm_ck 211 kX12_faultOf = true := by decide +kernel
def kX12_fault : List pm_Bl := [
  (0, 0, [(.iload_n 1, []), (.invokestatic 208, [203, 1, 242]), (.ifCond .ne 5, [1]), (.iconst (-1), []), (.ireturn, [0])]),
  (9, 0, [(.aload_n 0, []), (.getfield 22, [12, 8, 3, 133]), (.iload_n 1, []), (.iaload, []), (.ifCond .ge 11, [2]), (.aload_n 0, []), (.iconst 1, []), (.invokevirtual 197, [189, 2, 235, 0, 0, 12]), (.goto 8, [3])]),
  (26, 3, [(.aload_n 0, []), (.iload_n 1, []), (.invokevirtual 238, [211, 2, 246, 0, 0, 12])]),
  (31, 0, [(.ireturn, [0])])]
theorem kX12_fault_ok : pm_ck 212 kX12_fault = true := by decide +kernel
def kX12_isDay : List pm_Bl := [
  (0, 0, [(.iload_n 0, []), (.iconst 0, []), (.sipush 999, []), (.invokestatic 183, [188, 3, 229]), (.ireturn, [1])])]
theorem kX12_isDay_ok : pm_ck 213 kX12_isDay = true := by decide +kernel
def kX12_later : List pm_Bl := [
  (0, 1, [(.iload_n 1, []), (.ifCond .lt 15, [1]), (.iload_n 1, []), (.sipush 999, []), (.aload_n 0, []), (.getfield 241, [12, 15, 0, 140]), (.isub, []), (.if_icmp .le 5, [2])]),
  (16, 0, [(.iconst (-1), []), (.ireturn, [0])]),
  (18, 0, [(.aload_n 0, []), (.dup, []), (.getfield 241, [12, 15, 0, 140]), (.iload_n 1, []), (.iadd, []), (.putfield 241, [12, 15, 0, 140]), (.aload_n 0, []), (.getfield 241, [12, 15, 0, 140]), (.ireturn, [0])])]
theorem kX12_later_ok : pm_ck 214 kX12_later = true := by decide +kernel
def kX12_rule : List pm_Bl := [
  (0, 1, [(.iload_n 1, []), (.invokestatic 208, [203, 1, 242]), (.ifCond .eq 10, [1]), (.iload_n 2, []), (.invokestatic 244, [213, 1, 253]), (.ifCond .ne 5, [2])]),
  (14, 0, [(.iconst (-1), []), (.ireturn, [0])]),
  (16, 0, [(.aload_n 0, []), (.getfield 247, [12, 16, 0, 141]), (.bipush 24, []), (.if_icmp .ne 6, [3]), (.bipush (-2), []), (.ireturn, [0])]),
  (28, 0, [(.aload_n 0, []), (.getfield 22, [12, 8, 3, 133]), (.iload_n 1, []), (.iaload, []), (.ifCond .ge 9, [4]), (.aload_n 0, []), (.iconst 1, []), (.invokevirtual 197, [189, 2, 235, 0, 0, 12]), (.ireturn, [0])]),
  (43, 0, [(.aload_n 0, []), (.iload_n 1, []), (.invokevirtual 238, [211, 2, 246, 0, 0, 12]), (.bipush (-9), []), (.if_icmp .eq 6, [5]), (.bipush (-4), []), (.ireturn, [0])]),
  (56, 6, [(.iconst 0, []), (.istore_n 3, []), (.iconst 0, []), (.istore 4, [])]),
  (61, 0, [(.iload 4, []), (.aload_n 0, []), (.getfield 22, [12, 8, 3, 133]), (.iload_n 1, []), (.iaload, []), (.if_icmp .ge 104, [8]), (.aload_n 0, []), (.iload_n 1, []), (.iload 4, []), (.invokevirtual 211, [207, 3, 247, 0, 0, 12]), (.bipush 32, []), (.if_icmp .ne 9, [7]), (.iinc 4 1, []), (.goto (-26), [6])]),
  (90, 0, [(.aload_n 0, []), (.iload_n 1, []), (.iload 4, []), (.invokevirtual 235, [210, 3, 248, 0, 0, 12]), (.pop, []), (.iconst 4, []), (.bipush 24, []), (.aload_n 0, []), (.getfield 247, [12, 16, 0, 141]), (.imul, []), (.iload_n 3, []), (.iadd, []), (.imul, []), (.istore 5, []), (.aload_n 0, []), (.getfield 38, [12, 20, 3, 145]), (.iload 5, []), (.aload_n 0, []), (.getfield 229, [12, 10, 0, 135]), (.iastore, []), (.aload_n 0, []), (.getfield 38, [12, 20, 3, 145]), (.iload 5, []), (.iconst 1, []), (.iadd, []), (.aload_n 0, []), (.getfield 223, [12, 11, 0, 136]), (.iastore, []), (.aload_n 0, []), (.getfield 38, [12, 20, 3, 145]), (.iload 5, []), (.iconst 2, []), (.iadd, []), (.aload_n 0, []), (.getfield 226, [12, 12, 0, 137]), (.iastore, []), (.aload_n 0, []), (.getfield 38, [12, 20, 3, 145]), (.iload 5, []), (.iconst 3, []), (.iadd, []), (.aload_n 0, []), (.getfield 214, [12, 13, 0, 138]), (.iastore, []), (.iinc 3 1, []), (.aload_n 0, []), (.getfield 217, [12, 14, 0, 139]), (.istore 4, []), (.goto (-109), [6])]),
  (173, 0, [(.aload_n 0, []), (.getfield 29, [12, 17, 3, 142]), (.aload_n 0, []), (.getfield 247, [12, 16, 0, 141]), (.aload_n 0, []), (.getfield 241, [12, 15, 0, 140]), (.iastore, []), (.aload_n 0, []), (.getfield 32, [12, 18, 3, 143]), (.aload_n 0, []), (.getfield 247, [12, 16, 0, 141]), (.iload_n 2, []), (.iastore, []), (.aload_n 0, []), (.getfield 35, [12, 19, 3, 144]), (.aload_n 0, []), (.getfield 247, [12, 16, 0, 141]), (.iload_n 3, []), (.iastore, []), (.aload_n 0, []), (.dup, []), (.getfield 247, [12, 16, 0, 141]), (.iconst 1, []), (.iadd, []), (.putfield 247, [12, 16, 0, 141]), (.aload_n 0, []), (.getfield 247, [12, 16, 0, 141]), (.iconst 1, []), (.isub, []), (.ireturn, [0])])]
theorem kX12_rule_ok : pm_ck 215 kX12_rule = true := by decide +kernel
def kX12_plainOf : List pm_Bl := [
  (0, 0, [(.iload_n 0, []), (.ifCond .ne 50, [4]), (.iload_n 1, []), (.ifCond .ne 12, [1]), (.iload_n 2, []), (.iconst 1, []), (.if_icmp .ne 7, [1]), (.iconst 1, []), (.goto 58, [7])]),
  (17, 0, [(.iload_n 1, []), (.iconst 1, []), (.if_icmp .ne 13, [2]), (.iload_n 2, []), (.iconst 2, []), (.if_icmp .ne 8, [2]), (.bipush 6, []), (.goto 43, [7])]),
  (32, 0, [(.iload_n 1, []), (.iconst 2, []), (.if_icmp .ne 13, [3]), (.iload_n 2, []), (.iconst 3, []), (.if_icmp .ne 8, [3]), (.bipush 9, []), (.goto 28, [7])]),
  (47, 0, [(.iconst 0, []), (.goto 24, [7])]),
  (51, 0, [(.iload_n 0, []), (.iconst 1, []), (.if_icmp .ne 9, [5]), (.sipush 1000, []), (.goto 13, [7])]),
  (62, 0, [(.iload_n 0, []), (.iconst 2, []), (.if_icmp .ne 7, [6]), (.iconst 0, []), (.goto 4, [7])]),
  (71, 7, [(.iconst 1, [])]),
  (72, 0, [(.ireturn, [0])])]
theorem kX12_plainOf_ok : pm_ck 216 kX12_plainOf = true := by decide +kernel
def kX12_seekForce : List pm_Bl := [
  (0, 1, [(.aload_n 0, []), (.iload_n 1, []), (.iload_n 2, []), (.iload_n 3, []), (.invokestatic 250, [216, 3, 257]), (.putfield 254, [12, 21, 0, 146]), (.aload_n 0, []), (.bipush (-9), []), (.putfield 257, [12, 22, 0, 147]), (.iconst 0, []), (.istore 6, [])]),
  (19, 2, [(.iload 6, []), (.aload_n 0, []), (.getfield 247, [12, 16, 0, 141]), (.if_icmp .ge 171, [10]), (.aload_n 0, []), (.getfield 29, [12, 17, 3, 142]), (.iload 6, []), (.iaload, []), (.iload 5, []), (.if_icmp .gt 153, [9]), (.aload_n 0, []), (.getfield 32, [12, 18, 3, 143]), (.iload 6, []), (.iaload, []), (.iload 4, []), (.if_icmp .gt 141, [9]), (.bipush 96, []), (.iload 6, []), (.imul, []), (.istore 7, [])]),
  (59, 3, [(.iload 7, []), (.iconst 4, []), (.bipush 24, []), (.iload 6, []), (.imul, []), (.aload_n 0, []), (.getfield 35, [12, 19, 3, 144]), (.iload 6, []), (.iaload, []), (.iadd, []), (.imul, []), (.if_icmp .ge 114, [9]), (.aload_n 0, []), (.getfield 38, [12, 20, 3, 145]), (.iload 7, []), (.iaload, []), (.iload_n 1, []), (.if_icmp .ne 42, [5]), (.iload_n 1, []), (.iconst 1, []), (.if_icmp .eq 16, [3]), (.aload_n 0, []), (.getfield 38, [12, 20, 3, 145]), (.iload 7, []), (.iconst 1, []), (.iadd, []), (.iaload, []), (.iload_n 2, []), (.if_icmp .ne 24, [5])]),
  (108, 4, [(.iload_n 1, []), (.ifCond .ne 16, [4]), (.aload_n 0, []), (.getfield 38, [12, 20, 3, 145]), (.iload 7, []), (.iconst 2, []), (.iadd, []), (.iaload, []), (.iload_n 3, []), (.if_icmp .ne 7, [5])]),
  (125, 0, [(.iconst 1, []), (.goto 4, [6])]),
  (129, 6, [(.iconst 0, [])]),
  (130, 7, [(.istore 8, []), (.iload 8, []), (.ifCond .eq 50, [8]), (.aload_n 0, []), (.getfield 257, [12, 22, 0, 147]), (.bipush (-9), []), (.if_icmp .eq 22, [7]), (.aload_n 0, []), (.getfield 32, [12, 18, 3, 143]), (.iload 6, []), (.iaload, []), (.aload_n 0, []), (.getfield 32, [12, 18, 3, 143]), (.aload_n 0, []), (.getfield 257, [12, 22, 0, 147]), (.iaload, []), (.if_icmp .lt 22, [8])]),
  (165, 8, [(.aload_n 0, []), (.aload_n 0, []), (.getfield 38, [12, 20, 3, 145]), (.iload 7, []), (.iconst 3, []), (.iadd, []), (.iaload, []), (.putfield 254, [12, 21, 0, 146]), (.aload_n 0, []), (.iload 6, []), (.putfield 257, [12, 22, 0, 147])]),
  (184, 0, [(.iinc 7 4, []), (.goto (-128), [2])]),
  (190, 0, [(.iinc 6 1, []), (.goto (-174), [1])]),
  (196, 0, [(.aload_n 0, []), (.getfield 254, [12, 21, 0, 146]), (.ireturn, [0])])]
theorem kX12_seekForce_ok : pm_ck 217 kX12_seekForce = true := by decide +kernel
def kX12_isAbout : List pm_Bl := [
  (0, 1, [(.iload_n 0, []), (.ifCond .ne 21, [1]), (.iload_n 1, []), (.iconst 0, []), (.iconst 3, []), (.invokestatic 183, [188, 3, 229]), (.ifCond .eq 12, [1]), (.iload_n 2, []), (.iconst 0, []), (.iconst 3, []), (.invokestatic 183, [188, 3, 229]), (.ifCond .ne 28, [3])]),
  (22, 2, [(.iload_n 0, []), (.iconst 1, []), (.if_icmp .eq 23, [3]), (.iload_n 0, []), (.iconst 2, []), (.if_icmp .eq 8, [2]), (.iload_n 0, []), (.iconst 3, []), (.if_icmp .ne 17, [4])]),
  (37, 3, [(.iload_n 1, []), (.iconst 0, []), (.bipush 7, []), (.invokestatic 183, [188, 3, 229]), (.ifCond .eq 7, [4])]),
  (47, 0, [(.iconst 1, []), (.goto 4, [5])]),
  (51, 5, [(.iconst 0, [])]),
  (52, 0, [(.ireturn, [1])])]
theorem kX12_isAbout_ok : pm_ck 218 kX12_isAbout = true := by decide +kernel
def kX12_force : List pm_Bl := [
  (0, 0, [(.iload_n 1, []), (.iload_n 2, []), (.iload_n 3, []), (.invokestatic 260, [218, 3, 255]), (.ifCond .eq 33, [1]), (.iload 4, []), (.invokestatic 244, [213, 1, 253]), (.ifCond .eq 25, [1]), (.iload 5, []), (.invokestatic 244, [213, 1, 253]), (.ifCond .eq 17, [1]), (.aload_n 0, []), (.iload_n 1, []), (.iload_n 2, []), (.iload_n 3, []), (.iload 4, []), (.iload 5, []), (.invokevirtual 263, [217, 6, 256, 0, 0, 12]), (.goto 4, [2])]),
  (39, 2, [(.iconst (-1), [])]),
  (40, 0, [(.ireturn, [0])])]
theorem kX12_force_ok : pm_ck 219 kX12_force = true := by decide +kernel
def kX12_why : List pm_Bl := [
  (0, 1, [(.iload_n 1, []), (.iload_n 2, []), (.iload_n 3, []), (.invokestatic 260, [218, 3, 255]), (.ifCond .eq 19, [1]), (.iload 4, []), (.invokestatic 244, [213, 1, 253]), (.ifCond .eq 11, [1]), (.iload 5, []), (.invokestatic 244, [213, 1, 253]), (.ifCond .ne 5, [2])]),
  (25, 0, [(.iconst (-1), []), (.ireturn, [0])]),
  (27, 0, [(.aload_n 0, []), (.iload_n 1, []), (.iload_n 2, []), (.iload_n 3, []), (.iload 4, []), (.iload 5, []), (.invokevirtual 263, [217, 6, 256, 0, 0, 12]), (.pop, []), (.aload_n 0, []), (.getfield 257, [12, 22, 0, 147]), (.ireturn, [0])])]
theorem kX12_why_ok : pm_ck 220 kX12_why = true := by decide +kernel
def kX12_forceNow : List pm_Bl := [
  (0, 0, [(.aload_n 0, []), (.iload_n 1, []), (.iload_n 2, []), (.iload_n 3, []), (.aload_n 0, []), (.getfield 241, [12, 15, 0, 140]), (.aload_n 0, []), (.getfield 241, [12, 15, 0, 140]), (.invokevirtual 263, [217, 6, 256, 0, 0, 12]), (.ireturn, [0])])]
theorem kX12_forceNow_ok : pm_ck 221 kX12_forceNow = true := by decide +kernel
def kX12_isMetal : List pm_Bl := [
  (0, 0, [(.iload_n 1, []), (.iconst 0, []), (.aload_n 0, []), (.getfield 267, [12, 23, 0, 148]), (.iconst 1, []), (.isub, []), (.invokestatic 183, [188, 3, 229]), (.ireturn, [1])])]
theorem kX12_isMetal_ok : pm_ck 222 kX12_isMetal = true := by decide +kernel
def kX12_isHand : List pm_Bl := [
  (0, 0, [(.iload_n 0, []), (.iconst 0, []), (.bipush 9, []), (.invokestatic 183, [188, 3, 229]), (.ireturn, [1])])]
theorem kX12_isHand_ok : pm_ck 223 kX12_isHand = true := by decide +kernel
def kX12_isSide : List pm_Bl := [
  (0, 0, [(.iload_n 0, []), (.iconst 0, []), (.bipush 19, []), (.invokestatic 183, [188, 3, 229]), (.ireturn, [1])])]
theorem kX12_isSide_ok : pm_ck 224 kX12_isSide = true := by decide +kernel
def kX12_comes : List pm_Bl := [
  (0, 0, [(.aload_n 0, []), (.getfield 41, [12, 24, 3, 149]), (.aload_n 0, []), (.getfield 267, [12, 23, 0, 148]), (.iload_n 1, []), (.iastore, []), (.aload_n 0, []), (.getfield 44, [12, 25, 3, 150]), (.aload_n 0, []), (.getfield 267, [12, 23, 0, 148]), (.iload_n 2, []), (.iastore, []), (.aload_n 0, []), (.getfield 47, [12, 26, 3, 151]), (.aload_n 0, []), (.getfield 267, [12, 23, 0, 148]), (.iload_n 3, []), (.iastore, []), (.aload_n 0, []), (.getfield 50, [12, 27, 3, 152]), (.aload_n 0, []), (.getfield 267, [12, 23, 0, 148]), (.iload 4, []), (.iastore, []), (.aload_n 0, []), (.getfield 53, [12, 28, 3, 153]), (.aload_n 0, []), (.getfield 267, [12, 23, 0, 148]), (.aload_n 0, []), (.getfield 241, [12, 15, 0, 140]), (.iastore, []), (.aload_n 0, []), (.getfield 56, [12, 29, 3, 154]), (.aload_n 0, []), (.getfield 267, [12, 23, 0, 148]), (.iconst 0, []), (.iastore, []), (.aload_n 0, []), (.dup, []), (.getfield 267, [12, 23, 0, 148]), (.iconst 1, []), (.iadd, []), (.putfield 267, [12, 23, 0, 148]), (.aload_n 0, []), (.getfield 267, [12, 23, 0, 148]), (.iconst 1, []), (.isub, []), (.ireturn, [0])])]
theorem kX12_comes_ok : pm_ck 225 kX12_comes = true := by decide +kernel
def kX12_lacquer : List pm_Bl := [
  (0, 1, [(.iload_n 1, []), (.invokestatic 270, [224, 1, 260]), (.ifCond .eq 10, [1]), (.iload_n 2, []), (.invokestatic 273, [223, 1, 261]), (.ifCond .ne 5, [2])]),
  (14, 0, [(.iconst (-1), []), (.ireturn, [0])]),
  (16, 0, [(.aload_n 0, []), (.getfield 267, [12, 23, 0, 148]), (.bipush 40, []), (.if_icmp .ne 6, [3]), (.bipush (-2), []), (.ireturn, [0])]),
  (28, 4, [(.iconst 0, []), (.istore_n 3, [])]),
  (30, 0, [(.iload_n 3, []), (.aload_n 0, []), (.getfield 267, [12, 23, 0, 148]), (.if_icmp .ge 31, [6]), (.aload_n 0, []), (.getfield 41, [12, 24, 3, 149]), (.iload_n 3, []), (.iaload, []), (.ifCond .ne 16, [5]), (.aload_n 0, []), (.getfield 44, [12, 25, 3, 150]), (.iload_n 3, []), (.iaload, []), (.iload_n 1, []), (.if_icmp .ne 6, [5]), (.bipush (-4), []), (.ireturn, [0])]),
  (60, 0, [(.iinc 3 1, []), (.goto (-33), [4])]),
  (66, 0, [(.aload_n 0, []), (.iconst 0, []), (.iload_n 1, []), (.bipush (-9), []), (.iload_n 2, []), (.invokevirtual 276, [225, 5, 262, 0, 0, 12]), (.ireturn, [0])])]
theorem kX12_lacquer_ok : pm_ck 226 kX12_lacquer = true := by decide +kernel
def kX12_grownOf : List pm_Bl := [
  (0, 1, [(.iconst 0, []), (.istore_n 3, []), (.iconst 0, []), (.istore 4, [])]),
  (5, 2, [(.iload 4, []), (.aload_n 0, []), (.getfield 267, [12, 23, 0, 148]), (.if_icmp .ge 45, [5]), (.iload_n 3, []), (.aload_n 0, []), (.getfield 47, [12, 26, 3, 151]), (.iload 4, []), (.iaload, []), (.iload_n 1, []), (.if_icmp .ne 24, [3]), (.iload_n 2, []), (.bipush (-9), []), (.if_icmp .eq 14, [2]), (.aload_n 0, []), (.getfield 41, [12, 24, 3, 149]), (.iload 4, []), (.iaload, []), (.iload_n 2, []), (.if_icmp .ne 7, [3])]),
  (43, 0, [(.iconst 1, []), (.goto 4, [4])]),
  (47, 4, [(.iconst 0, [])]),
  (48, 0, [(.iadd, []), (.istore_n 3, []), (.iinc 4 1, []), (.goto (-48), [1])]),
  (56, 0, [(.iload_n 3, []), (.ireturn, [0])])]
theorem kX12_grownOf_ok : pm_ck 227 kX12_grownOf = true := by decide +kernel
def kX12_isPressed : List pm_Bl := [
  (0, 1, [(.iconst 0, []), (.istore_n 2, []), (.iconst 0, []), (.istore_n 3, [])]),
  (4, 2, [(.iload_n 3, []), (.bipush 6, []), (.if_icmp .ge 39, [5]), (.iload_n 2, []), (.ifCond .ne 23, [2]), (.aload_n 0, []), (.getfield 68, [12, 34, 3, 159]), (.iload_n 3, []), (.iaload, []), (.iload_n 1, []), (.if_icmp .eq 13, [2]), (.aload_n 0, []), (.getfield 71, [12, 35, 3, 160]), (.iload_n 3, []), (.iaload, []), (.iload_n 1, []), (.if_icmp .ne 7, [3])]),
  (34, 0, [(.iconst 1, []), (.goto 4, [4])]),
  (38, 4, [(.iconst 0, [])]),
  (39, 0, [(.istore_n 2, []), (.iinc 3 1, []), (.goto (-39), [1])]),
  (46, 0, [(.iload_n 2, []), (.ireturn, [1])])]
theorem kX12_isPressed_ok : pm_ck 228 kX12_isPressed = true := by decide +kernel
def kX12_grow : List pm_Bl := [
  (0, 1, [(.aload_n 0, []), (.iload_n 1, []), (.invokevirtual 280, [222, 2, 264, 0, 0, 12]), (.ifCond .eq 19, [1]), (.iload_n 2, []), (.iconst 1, []), (.iconst 3, []), (.invokestatic 183, [188, 3, 229]), (.ifCond .eq 10, [1]), (.iload_n 3, []), (.invokestatic 273, [223, 1, 261]), (.ifCond .ne 5, [2])]),
  (24, 0, [(.iconst (-1), []), (.ireturn, [0])]),
  (26, 0, [(.aload_n 0, []), (.getfield 267, [12, 23, 0, 148]), (.bipush 40, []), (.if_icmp .ne 6, [3]), (.bipush (-2), []), (.ireturn, [0])]),
  (38, 4, [(.aload_n 0, []), (.getfield 56, [12, 29, 3, 154]), (.iload_n 1, []), (.iaload, []), (.ifCond .ne 32, [4]), (.aload_n 0, []), (.iload_n 1, []), (.invokevirtual 283, [228, 2, 265, 0, 0, 12]), (.ifCond .ne 24, [4]), (.aload_n 0, []), (.iload_n 1, []), (.iload_n 2, []), (.invokevirtual 286, [227, 3, 266, 0, 0, 12]), (.aload_n 0, []), (.iconst 0, []), (.aload_n 0, []), (.getfield 41, [12, 24, 3, 149]), (.iload_n 1, []), (.iaload, []), (.iload_n 2, []), (.invokevirtual 289, [221, 4, 267, 0, 0, 12]), (.if_icmp .lt 6, [5])]),
  (76, 0, [(.bipush (-4), []), (.ireturn, [0])]),
  (79, 0, [(.aload_n 0, []), (.iload_n 2, []), (.aload_n 0, []), (.getfield 44, [12, 25, 3, 150]), (.iload_n 1, []), (.iaload, []), (.iload_n 1, []), (.iload_n 3, []), (.invokevirtual 276, [225, 5, 262, 0, 0, 12]), (.ireturn, [0])])]
theorem kX12_grow_ok : pm_ck 229 kX12_grow = true := by decide +kernel
def kX12_state : List pm_Bl := [
  (0, 1, [(.aload_n 0, []), (.iload_n 1, []), (.invokevirtual 280, [222, 2, 264, 0, 0, 12]), (.ifCond .eq 12, [1]), (.iload_n 2, []), (.iconst 0, []), (.iconst 3, []), (.invokestatic 183, [188, 3, 229]), (.ifCond .ne 5, [2])]),
  (17, 0, [(.iconst (-1), []), (.ireturn, [0])]),
  (19, 3, [(.aload_n 0, []), (.iload_n 1, []), (.invokevirtual 283, [228, 2, 265, 0, 0, 12]), (.ifCond .ne 13, [3]), (.aload_n 0, []), (.getfield 56, [12, 29, 3, 154]), (.iload_n 1, []), (.iaload, []), (.iconst 1, []), (.if_icmp .ne 6, [4])]),
  (37, 0, [(.bipush (-4), []), (.ireturn, [0])]),
  (40, 0, [(.aload_n 0, []), (.getfield 292, [12, 30, 0, 155]), (.bipush 120, []), (.if_icmp .ne 6, [5]), (.bipush (-2), []), (.ireturn, [0])]),
  (52, 0, [(.aload_n 0, []), (.getfield 56, [12, 29, 3, 154]), (.iload_n 1, []), (.iaload, []), (.istore_n 3, []), (.aload_n 0, []), (.getfield 59, [12, 31, 3, 156]), (.aload_n 0, []), (.getfield 292, [12, 30, 0, 155]), (.iload_n 1, []), (.iastore, []), (.aload_n 0, []), (.getfield 62, [12, 32, 3, 157]), (.aload_n 0, []), (.getfield 292, [12, 30, 0, 155]), (.aload_n 0, []), (.getfield 241, [12, 15, 0, 140]), (.iastore, []), (.aload_n 0, []), (.getfield 65, [12, 33, 3, 158]), (.aload_n 0, []), (.getfield 292, [12, 30, 0, 155]), (.iload_n 2, []), (.iastore, []), (.aload_n 0, []), (.dup, []), (.getfield 292, [12, 30, 0, 155]), (.iconst 1, []), (.iadd, []), (.putfield 292, [12, 30, 0, 155]), (.aload_n 0, []), (.getfield 56, [12, 29, 3, 154]), (.iload_n 1, []), (.iload_n 2, []), (.iastore, []), (.iload_n 3, []), (.ireturn, [0])])]
theorem kX12_state_ok : pm_ck 230 kX12_state = true := by decide +kernel
def kX12_toldOf : List pm_Bl := [
  (0, 0, [(.iload_n 2, []), (.tableswitch 81 0 5 #[39, 46, 53, 60, 67, 74], [7, 1, 2, 3, 4, 5, 6])]),
  (40, 0, [(.aload_n 0, []), (.getfield 41, [12, 24, 3, 149]), (.iload_n 1, []), (.iaload, []), (.ireturn, [0])]),
  (47, 0, [(.aload_n 0, []), (.getfield 44, [12, 25, 3, 150]), (.iload_n 1, []), (.iaload, []), (.ireturn, [0])]),
  (54, 0, [(.aload_n 0, []), (.getfield 47, [12, 26, 3, 151]), (.iload_n 1, []), (.iaload, []), (.ireturn, [0])]),
  (61, 0, [(.aload_n 0, []), (.getfield 50, [12, 27, 3, 152]), (.iload_n 1, []), (.iaload, []), (.ireturn, [0])]),
  (68, 0, [(.aload_n 0, []), (.getfield 53, [12, 28, 3, 153]), (.iload_n 1, []), (.iaload, []), (.ireturn, [0])]),
  (75, 0, [(.aload_n 0, []), (.getfield 56, [12, 29, 3, 154]), (.iload_n 1, []), (.iaload, []), (.ireturn, [0])]),
  (82, 0, [(.aload_n 0, []), (.iload_n 1, []), (.bipush (-9), []), (.invokevirtual 286, [227, 3, 266, 0, 0, 12]), (.ireturn, [0])])]
theorem kX12_toldOf_ok : pm_ck 231 kX12_toldOf = true := by decide +kernel
def kX12_told : List pm_Bl := [
  (0, 0, [(.aload_n 0, []), (.iload_n 1, []), (.invokevirtual 280, [222, 2, 264, 0, 0, 12]), (.ifCond .eq 27, [1]), (.iload_n 2, []), (.iconst 0, []), (.bipush 6, []), (.invokestatic 183, [188, 3, 229]), (.ifCond .eq 17, [1]), (.aload_n 0, []), (.aload_n 0, []), (.iload_n 1, []), (.iload_n 2, []), (.invokevirtual 295, [231, 3, 270, 0, 0, 12]), (.iconst 1, []), (.invokevirtual 205, [192, 3, 238, 0, 0, 12]), (.goto 4, [2])]),
  (32, 2, [(.iconst (-1), [])]),
  (33, 0, [(.ireturn, [0])])]
theorem kX12_told_ok : pm_ck 232 kX12_told = true := by decide +kernel
def kX12_isMadeOf : List pm_Bl := [
  (0, 1, [(.aload_n 0, []), (.getfield 47, [12, 26, 3, 151]), (.iload_n 1, []), (.iaload, []), (.istore_n 3, [])]),
  (7, 0, [(.iload_n 3, []), (.bipush (-9), []), (.if_icmp .eq 18, [2]), (.iload_n 3, []), (.iload_n 2, []), (.if_icmp .eq 13, [2]), (.aload_n 0, []), (.getfield 47, [12, 26, 3, 151]), (.iload_n 3, []), (.iaload, []), (.istore_n 3, []), (.goto (-18), [1])]),
  (28, 0, [(.iload_n 3, []), (.iload_n 2, []), (.if_icmp .ne 7, [3]), (.iconst 1, []), (.goto 4, [4])]),
  (37, 4, [(.iconst 0, [])]),
  (38, 0, [(.ireturn, [1])])]
theorem kX12_isMadeOf_ok : pm_ck 233 kX12_isMadeOf = true := by decide +kernel
def kX12_wearOf : List pm_Bl := [
  (0, 1, [(.iconst 0, []), (.istore_n 2, []), (.iconst 0, []), (.istore_n 3, [])]),
  (4, 2, [(.iload_n 3, []), (.aload_n 0, []), (.getfield 298, [12, 38, 0, 163]), (.if_icmp .ge 63, [6]), (.iload_n 2, []), (.aload_n 0, []), (.getfield 92, [12, 43, 3, 168]), (.iload_n 3, []), (.iaload, []), (.iload_n 1, []), (.if_icmp .eq 13, [2]), (.aload_n 0, []), (.getfield 95, [12, 44, 3, 169]), (.iload_n 3, []), (.iaload, []), (.iload_n 1, []), (.if_icmp .ne 33, [4])]),
  (33, 0, [(.aload_n 0, []), (.getfield 89, [12, 42, 3, 167]), (.iload_n 3, []), (.iaload, []), (.iconst 1, []), (.if_icmp .ne 14, [3]), (.iconst 2, []), (.aload_n 0, []), (.getfield 86, [12, 41, 3, 166]), (.iload_n 3, []), (.iaload, []), (.imul, []), (.goto 13, [5])]),
  (54, 0, [(.aload_n 0, []), (.getfield 86, [12, 41, 3, 166]), (.iload_n 3, []), (.iaload, []), (.goto 4, [5])]),
  (63, 5, [(.iconst 0, [])]),
  (64, 0, [(.iadd, []), (.istore_n 2, []), (.iinc 3 1, []), (.goto (-65), [1])]),
  (72, 0, [(.iload_n 2, []), (.ireturn, [0])])]
theorem kX12_wearOf_ok : pm_ck 234 kX12_wearOf = true := by decide +kernel
def kX12_mark : List pm_Bl := [
  (0, 1, [(.aload_n 0, []), (.iload_n 1, []), (.invokevirtual 280, [222, 2, 264, 0, 0, 12]), (.ifCond .eq 12, [1]), (.iload_n 2, []), (.iconst 0, []), (.iconst 3, []), (.invokestatic 183, [188, 3, 229]), (.ifCond .ne 5, [2])]),
  (17, 0, [(.iconst (-1), []), (.ireturn, [0])]),
  (19, 0, [(.aload_n 0, []), (.getfield 41, [12, 24, 3, 149]), (.iload_n 1, []), (.iaload, []), (.iload_n 2, []), (.if_icmp .eq 9, [3]), (.aload_n 0, []), (.iconst 3, []), (.invokevirtual 197, [189, 2, 235, 0, 0, 12]), (.ireturn, [0])]),
  (35, 0, [(.iload_n 2, []), (.iconst 3, []), (.if_icmp .ne 9, [4]), (.aload_n 0, []), (.iload_n 1, []), (.invokevirtual 301, [234, 2, 272, 0, 0, 12]), (.ireturn, [0])]),
  (46, 5, [(.iconst 0, []), (.istore_n 3, []), (.iconst 0, []), (.istore 4, [])]),
  (51, 0, [(.iload 4, []), (.aload_n 0, []), (.getfield 267, [12, 23, 0, 148]), (.if_icmp .ge 73, [10]), (.iload_n 3, []), (.iload_n 2, []), (.ifCond .ne 21, [7]), (.aload_n 0, []), (.iload 4, []), (.iload_n 1, []), (.invokevirtual 304, [233, 3, 273, 0, 0, 12]), (.ifCond .eq 7, [6]), (.iconst 1, []), (.goto 46, [9])]),
  (79, 0, [(.iconst 0, []), (.goto 42, [9])]),
  (83, 0, [(.aload_n 0, []), (.getfield 47, [12, 26, 3, 151]), (.iload 4, []), (.iaload, []), (.iload_n 1, []), (.if_icmp .ne 30, [8]), (.aload_n 0, []), (.getfield 41, [12, 24, 3, 149]), (.iload 4, []), (.iaload, []), (.iload_n 2, []), (.iconst 1, []), (.iadd, []), (.if_icmp .ne 17, [8]), (.aload_n 0, []), (.getfield 56, [12, 29, 3, 154]), (.iload 4, []), (.iaload, []), (.ifCond .ne 7, [8]), (.iconst 1, []), (.goto 4, [9])]),
  (121, 9, [(.iconst 0, [])]),
  (122, 0, [(.iadd, []), (.istore_n 3, []), (.iinc 4 1, []), (.goto (-76), [5])]),
  (130, 0, [(.iload_n 3, []), (.ireturn, [0])])]
theorem kX12_mark_ok : pm_ck 235 kX12_mark = true := by decide +kernel
def kX12_asOf : List pm_Bl := [
  (0, 1, [(.aload_n 0, []), (.iload_n 1, []), (.invokevirtual 280, [222, 2, 264, 0, 0, 12]), (.ifCond .eq 10, [1]), (.iload_n 2, []), (.invokestatic 244, [213, 1, 253]), (.ifCond .ne 5, [2])]),
  (15, 0, [(.iconst (-1), []), (.ireturn, [0])]),
  (17, 0, [(.iload_n 2, []), (.aload_n 0, []), (.getfield 53, [12, 28, 3, 153]), (.iload_n 1, []), (.iaload, []), (.if_icmp .ge 6, [3]), (.bipush (-9), []), (.ireturn, [0])]),
  (30, 4, [(.iconst 0, []), (.istore_n 3, []), (.iconst 0, []), (.istore 4, [])]),
  (35, 0, [(.iload 4, []), (.aload_n 0, []), (.getfield 292, [12, 30, 0, 155]), (.if_icmp .ge 43, [7]), (.aload_n 0, []), (.getfield 59, [12, 31, 3, 156]), (.iload 4, []), (.iaload, []), (.iload_n 1, []), (.if_icmp .ne 24, [5]), (.aload_n 0, []), (.getfield 62, [12, 32, 3, 157]), (.iload 4, []), (.iaload, []), (.iload_n 2, []), (.if_icmp .gt 13, [5]), (.aload_n 0, []), (.getfield 65, [12, 33, 3, 158]), (.iload 4, []), (.iaload, []), (.goto 4, [6])]),
  (76, 6, [(.iload_n 3, [])]),
  (77, 0, [(.istore_n 3, []), (.iinc 4 1, []), (.goto (-46), [4])]),
  (84, 0, [(.iload_n 3, []), (.ireturn, [0])])]
theorem kX12_asOf_ok : pm_ck 236 kX12_asOf = true := by decide +kernel
def kX12_lead : List pm_Bl := [
  (0, 0, [(.aload_n 0, []), (.iload_n 1, []), (.invokevirtual 280, [222, 2, 264, 0, 0, 12]), (.ifCond .ne 5, [1]), (.iconst (-1), []), (.ireturn, [0])]),
  (10, 2, [(.iconst 0, []), (.istore_n 2, []), (.iload_n 1, []), (.istore_n 3, [])]),
  (14, 0, [(.aload_n 0, []), (.getfield 47, [12, 26, 3, 151]), (.iload_n 3, []), (.iaload, []), (.bipush (-9), []), (.if_icmp .eq 16, [3]), (.aload_n 0, []), (.getfield 47, [12, 26, 3, 151]), (.iload_n 3, []), (.iaload, []), (.istore_n 3, []), (.iinc 2 1, []), (.goto (-21), [2])]),
  (38, 0, [(.aload_n 0, []), (.iload_n 3, []), (.iload_n 2, []), (.invokevirtual 205, [192, 3, 238, 0, 0, 12]), (.ireturn, [0])])]
theorem kX12_lead_ok : pm_ck 237 kX12_lead = true := by decide +kernel
def kX12_isPress : List pm_Bl := [
  (0, 0, [(.iload_n 0, []), (.iconst 0, []), (.iconst 5, []), (.invokestatic 183, [188, 3, 229]), (.ireturn, [1])])]
theorem kX12_isPress_ok : pm_ck 238 kX12_isPress = true := by decide +kernel
def kX12_marry : List pm_Bl := [
  (0, 1, [(.iload_n 1, []), (.invokestatic 308, [238, 1, 277]), (.ifCond .eq 24, [1]), (.aload_n 0, []), (.iload_n 2, []), (.invokevirtual 280, [222, 2, 264, 0, 0, 12]), (.ifCond .eq 16, [1]), (.aload_n 0, []), (.iload_n 3, []), (.invokevirtual 280, [222, 2, 264, 0, 0, 12]), (.ifCond .eq 8, [1]), (.iload_n 2, []), (.iload_n 3, []), (.if_icmp .ne 5, [2])]),
  (28, 0, [(.iconst (-1), []), (.ireturn, [0])]),
  (30, 3, [(.aload_n 0, []), (.getfield 41, [12, 24, 3, 149]), (.iload_n 2, []), (.iaload, []), (.iconst 3, []), (.if_icmp .ne 13, [3]), (.aload_n 0, []), (.getfield 41, [12, 24, 3, 149]), (.iload_n 3, []), (.iaload, []), (.iconst 3, []), (.if_icmp .eq 9, [4])]),
  (50, 0, [(.aload_n 0, []), (.iconst 3, []), (.invokevirtual 197, [189, 2, 235, 0, 0, 12]), (.ireturn, [0])]),
  (56, 5, [(.aload_n 0, []), (.getfield 68, [12, 34, 3, 159]), (.iload_n 1, []), (.iaload, []), (.bipush (-9), []), (.if_icmp .ne 37, [5]), (.aload_n 0, []), (.iload_n 2, []), (.invokevirtual 283, [228, 2, 265, 0, 0, 12]), (.ifCond .ne 29, [5]), (.aload_n 0, []), (.iload_n 3, []), (.invokevirtual 283, [228, 2, 265, 0, 0, 12]), (.ifCond .ne 21, [5]), (.aload_n 0, []), (.getfield 56, [12, 29, 3, 154]), (.iload_n 2, []), (.iaload, []), (.ifCond .ne 12, [5]), (.aload_n 0, []), (.getfield 56, [12, 29, 3, 154]), (.iload_n 3, []), (.iaload, []), (.ifCond .eq 6, [6])]),
  (101, 0, [(.bipush (-4), []), (.ireturn, [0])]),
  (104, 0, [(.aload_n 0, []), (.getfield 68, [12, 34, 3, 159]), (.iload_n 1, []), (.iload_n 2, []), (.iastore, []), (.aload_n 0, []), (.getfield 71, [12, 35, 3, 160]), (.iload_n 1, []), (.iload_n 3, []), (.iastore, []), (.iconst 1, []), (.ireturn, [0])])]
theorem kX12_marry_ok : pm_ck 239 kX12_marry = true := by decide +kernel
def kX12_needPress : List pm_Bl := [
  (0, 1, [(.iload_n 2, []), (.invokestatic 308, [238, 1, 277]), (.ifCond .eq 7, [1]), (.iload_n 1, []), (.ifCond .ne 7, [2])]),
  (11, 0, [(.iconst (-1), []), (.goto 23, [4])]),
  (15, 0, [(.aload_n 0, []), (.getfield 68, [12, 34, 3, 159]), (.iload_n 2, []), (.iaload, []), (.bipush (-9), []), (.if_icmp .ne 11, [3]), (.aload_n 0, []), (.iconst 1, []), (.invokevirtual 197, [189, 2, 235, 0, 0, 12]), (.goto 4, [4])]),
  (34, 4, [(.iconst 0, [])]),
  (35, 0, [(.ireturn, [0])])]
theorem kX12_needPress_ok : pm_ck 240 kX12_needPress = true := by decide +kernel
def kX12_part : List pm_Bl := [
  (0, 0, [(.aload_n 0, []), (.iconst 1, []), (.iload_n 1, []), (.invokevirtual 311, [240, 3, 279, 0, 0, 12]), (.istore_n 2, []), (.iload_n 2, []), (.ifCond .ge 5, [1]), (.iload_n 2, []), (.ireturn, [0])]),
  (13, 0, [(.aload_n 0, []), (.getfield 68, [12, 34, 3, 159]), (.iload_n 1, []), (.iaload, []), (.istore_n 3, []), (.aload_n 0, []), (.getfield 68, [12, 34, 3, 159]), (.iload_n 1, []), (.bipush (-9), []), (.iastore, []), (.aload_n 0, []), (.getfield 71, [12, 35, 3, 160]), (.iload_n 1, []), (.bipush (-9), []), (.iastore, []), (.iload_n 3, []), (.ireturn, [0])])]
theorem kX12_part_ok : pm_ck 241 kX12_part = true := by decide +kernel
def kX12_isFace : List pm_Bl := [
  (0, 0, [(.iload_n 0, []), (.iconst 0, []), (.iconst 1, []), (.invokestatic 183, [188, 3, 229]), (.ireturn, [1])])]
theorem kX12_isFace_ok : pm_ck 242 kX12_isFace = true := by decide +kernel
def kX12_held : List pm_Bl := [
  (0, 0, [(.aload_n 0, []), (.iload_n 2, []), (.invokestatic 315, [242, 1, 281]), (.iload_n 1, []), (.invokevirtual 311, [240, 3, 279, 0, 0, 12]), (.istore_n 3, []), (.iload_n 3, []), (.ifCond .ge 7, [1]), (.iload_n 3, []), (.goto 22, [3])]),
  (18, 0, [(.iload_n 2, []), (.ifCond .ne 12, [2]), (.aload_n 0, []), (.getfield 68, [12, 34, 3, 159]), (.iload_n 1, []), (.iaload, []), (.goto 9, [3])]),
  (31, 3, [(.aload_n 0, []), (.getfield 71, [12, 35, 3, 160]), (.iload_n 1, []), (.iaload, [])]),
  (37, 0, [(.ireturn, [0])])]
theorem kX12_held_ok : pm_ck 243 kX12_held = true := by decide +kernel
def kX12_off : List pm_Bl := [
  (0, 1, [(.iload_n 1, []), (.invokestatic 308, [238, 1, 277]), (.ifCond .eq 25, [1]), (.iload_n 2, []), (.bipush (-8), []), (.bipush 8, []), (.invokestatic 183, [188, 3, 229]), (.ifCond .eq 14, [1]), (.iload_n 3, []), (.bipush (-8), []), (.bipush 8, []), (.invokestatic 183, [188, 3, 229]), (.ifCond .ne 5, [2])]),
  (29, 0, [(.iconst (-1), []), (.ireturn, [0])]),
  (31, 0, [(.aload_n 0, []), (.getfield 74, [12, 36, 3, 161]), (.iload_n 1, []), (.iload_n 2, []), (.iastore, []), (.aload_n 0, []), (.getfield 77, [12, 37, 3, 162]), (.iload_n 1, []), (.iload_n 3, []), (.iastore, []), (.iconst 1, []), (.ireturn, [0])])]
theorem kX12_off_ok : pm_ck 244 kX12_off = true := by decide +kernel
def kX12_run : List pm_Bl := [
  (0, 0, [(.aload_n 0, []), (.iload_n 2, []), (.iconst 1, []), (.sipush 10000, []), (.invokestatic 183, [188, 3, 229]), (.iload_n 1, []), (.invokevirtual 311, [240, 3, 279, 0, 0, 12]), (.istore 4, []), (.iload 4, []), (.ifCond .ge 6, [1]), (.iload 4, []), (.ireturn, [0])]),
  (23, 0, [(.aload_n 0, []), (.getfield 298, [12, 38, 0, 163]), (.bipush 30, []), (.if_icmp .ne 6, [2]), (.bipush (-2), []), (.ireturn, [0])]),
  (35, 0, [(.aload_n 0, []), (.iconst 1, []), (.iconst 0, []), (.iconst 0, []), (.invokevirtual 289, [221, 4, 267, 0, 0, 12]), (.istore 5, []), (.iload_n 3, []), (.ifCond .eq 9, [3]), (.iconst 2, []), (.iload_n 2, []), (.imul, []), (.goto 4, [4])]),
  (54, 4, [(.iload_n 2, [])]),
  (55, 5, [(.istore 6, []), (.aload_n 0, []), (.aload_n 0, []), (.getfield 68, [12, 34, 3, 159]), (.iload_n 1, []), (.iaload, []), (.invokevirtual 301, [234, 2, 272, 0, 0, 12]), (.iload 6, []), (.iadd, []), (.iload 5, []), (.if_icmp .gt 21, [5]), (.aload_n 0, []), (.aload_n 0, []), (.getfield 71, [12, 35, 3, 160]), (.iload_n 1, []), (.iaload, []), (.invokevirtual 301, [234, 2, 272, 0, 0, 12]), (.iload 6, []), (.iadd, []), (.iload 5, []), (.if_icmp .le 6, [6])]),
  (93, 0, [(.bipush (-4), []), (.ireturn, [0])]),
  (96, 0, [(.aload_n 0, []), (.getfield 80, [12, 39, 3, 164]), (.aload_n 0, []), (.getfield 298, [12, 38, 0, 163]), (.iload_n 1, []), (.iastore, []), (.aload_n 0, []), (.getfield 83, [12, 40, 3, 165]), (.aload_n 0, []), (.getfield 298, [12, 38, 0, 163]), (.aload_n 0, []), (.getfield 241, [12, 15, 0, 140]), (.iastore, []), (.aload_n 0, []), (.getfield 86, [12, 41, 3, 166]), (.aload_n 0, []), (.getfield 298, [12, 38, 0, 163]), (.iload_n 2, []), (.iastore, []), (.aload_n 0, []), (.getfield 89, [12, 42, 3, 167]), (.aload_n 0, []), (.getfield 298, [12, 38, 0, 163]), (.iload_n 3, []), (.ifCond .eq 7, [7]), (.iconst 1, []), (.goto 4, [8])]),
  (145, 8, [(.iconst 0, [])]),
  (146, 0, [(.iastore, []), (.aload_n 0, []), (.getfield 92, [12, 43, 3, 168]), (.aload_n 0, []), (.getfield 298, [12, 38, 0, 163]), (.aload_n 0, []), (.getfield 68, [12, 34, 3, 159]), (.iload_n 1, []), (.iaload, []), (.iastore, []), (.aload_n 0, []), (.getfield 95, [12, 44, 3, 169]), (.aload_n 0, []), (.getfield 298, [12, 38, 0, 163]), (.aload_n 0, []), (.getfield 71, [12, 35, 3, 160]), (.iload_n 1, []), (.iaload, []), (.iastore, []), (.aload_n 0, []), (.getfield 98, [12, 45, 3, 170]), (.aload_n 0, []), (.getfield 298, [12, 38, 0, 163]), (.aload_n 0, []), (.getfield 74, [12, 36, 3, 161]), (.iload_n 1, []), (.iaload, []), (.iastore, []), (.aload_n 0, []), (.getfield 101, [12, 46, 3, 171]), (.aload_n 0, []), (.getfield 298, [12, 38, 0, 163]), (.aload_n 0, []), (.getfield 77, [12, 37, 3, 162]), (.iload_n 1, []), (.iaload, []), (.iastore, []), (.aload_n 0, []), (.dup, []), (.getfield 298, [12, 38, 0, 163]), (.iconst 1, []), (.iadd, []), (.putfield 298, [12, 38, 0, 163]), (.aload_n 0, []), (.getfield 298, [12, 38, 0, 163]), (.iconst 1, []), (.isub, []), (.ireturn, [0])])]
theorem kX12_run_ok : pm_ck 245 kX12_run = true := by decide +kernel
def kX12_isRun : List pm_Bl := [
  (0, 0, [(.iload_n 1, []), (.iconst 0, []), (.aload_n 0, []), (.getfield 298, [12, 38, 0, 163]), (.iconst 1, []), (.isub, []), (.invokestatic 183, [188, 3, 229]), (.ireturn, [1])])]
theorem kX12_isRun_ok : pm_ck 246 kX12_isRun = true := by decide +kernel
def kX12_runTells : List pm_Bl := [
  (0, 0, [(.iload_n 2, []), (.tableswitch 81 0 5 #[39, 46, 53, 60, 67, 74], [7, 1, 2, 3, 4, 5, 6])]),
  (40, 0, [(.aload_n 0, []), (.getfield 80, [12, 39, 3, 164]), (.iload_n 1, []), (.iaload, []), (.ireturn, [0])]),
  (47, 0, [(.aload_n 0, []), (.getfield 83, [12, 40, 3, 165]), (.iload_n 1, []), (.iaload, []), (.ireturn, [0])]),
  (54, 0, [(.aload_n 0, []), (.getfield 86, [12, 41, 3, 166]), (.iload_n 1, []), (.iaload, []), (.ireturn, [0])]),
  (61, 0, [(.aload_n 0, []), (.getfield 89, [12, 42, 3, 167]), (.iload_n 1, []), (.iaload, []), (.ireturn, [0])]),
  (68, 0, [(.aload_n 0, []), (.getfield 92, [12, 43, 3, 168]), (.iload_n 1, []), (.iaload, []), (.ireturn, [0])]),
  (75, 0, [(.aload_n 0, []), (.getfield 95, [12, 44, 3, 169]), (.iload_n 1, []), (.iaload, []), (.ireturn, [0])]),
  (82, 0, [(.aload_n 0, []), (.iload_n 1, []), (.bipush (-9), []), (.invokevirtual 318, [270, 3, 287, 0, 0, 12]), (.ireturn, [0])])]
theorem kX12_runTells_ok : pm_ck 247 kX12_runTells = true := by decide +kernel
def kX12_runTold : List pm_Bl := [
  (0, 0, [(.aload_n 0, []), (.iload_n 1, []), (.invokevirtual 321, [246, 2, 285, 0, 0, 12]), (.ifCond .eq 27, [1]), (.iload_n 2, []), (.iconst 0, []), (.bipush 6, []), (.invokestatic 183, [188, 3, 229]), (.ifCond .eq 17, [1]), (.aload_n 0, []), (.aload_n 0, []), (.iload_n 1, []), (.iload_n 2, []), (.invokevirtual 324, [247, 3, 286, 0, 0, 12]), (.iconst 1, []), (.invokevirtual 205, [192, 3, 238, 0, 0, 12]), (.goto 4, [2])]),
  (32, 2, [(.iconst (-1), [])]),
  (33, 0, [(.ireturn, [0])])]
theorem kX12_runTold_ok : pm_ck 248 kX12_runTold = true := by decide +kernel
def kX12_mean : List pm_Bl := [
  (0, 0, [(.aload_n 0, []), (.iload_n 1, []), (.invokevirtual 280, [222, 2, 264, 0, 0, 12]), (.ifCond .ne 5, [1]), (.iconst (-1), []), (.ireturn, [0])]),
  (10, 0, [(.aload_n 0, []), (.getfield 41, [12, 24, 3, 149]), (.iload_n 1, []), (.iaload, []), (.iconst 3, []), (.if_icmp .eq 9, [2]), (.aload_n 0, []), (.iconst 3, []), (.invokevirtual 197, [189, 2, 235, 0, 0, 12]), (.ireturn, [0])]),
  (26, 3, [(.iconst 0, []), (.istore_n 2, []), (.iconst 0, []), (.istore_n 3, []), (.iconst 0, []), (.istore 4, [])]),
  (33, 4, [(.iload 4, []), (.aload_n 0, []), (.getfield 298, [12, 38, 0, 163]), (.if_icmp .ge 70, [11]), (.aload_n 0, []), (.getfield 92, [12, 43, 3, 168]), (.iload 4, []), (.iaload, []), (.iload_n 1, []), (.if_icmp .eq 14, [4]), (.aload_n 0, []), (.getfield 95, [12, 44, 3, 169]), (.iload 4, []), (.iaload, []), (.iload_n 1, []), (.if_icmp .ne 7, [5])]),
  (64, 0, [(.iconst 1, []), (.goto 4, [6])]),
  (68, 6, [(.iconst 0, [])]),
  (69, 0, [(.istore 5, []), (.iload_n 2, []), (.iload 5, []), (.ifCond .eq 13, [7]), (.aload_n 0, []), (.getfield 86, [12, 41, 3, 166]), (.iload 4, []), (.iaload, []), (.goto 4, [8])]),
  (87, 8, [(.iconst 0, [])]),
  (88, 0, [(.iadd, []), (.istore_n 2, []), (.iload_n 3, []), (.iload 5, []), (.ifCond .eq 7, [9]), (.iconst 1, []), (.goto 4, [10])]),
  (100, 10, [(.iconst 0, [])]),
  (101, 0, [(.iadd, []), (.istore_n 3, []), (.iinc 4 1, []), (.goto (-73), [3])]),
  (109, 0, [(.iload_n 3, []), (.ifCond .ne 11, [12]), (.aload_n 0, []), (.iconst 4, []), (.invokevirtual 197, [189, 2, 235, 0, 0, 12]), (.goto 11, [13])]),
  (121, 13, [(.aload_n 0, []), (.iload_n 2, []), (.iload_n 3, []), (.idiv, []), (.iconst 1, []), (.invokevirtual 205, [192, 3, 238, 0, 0, 12])]),
  (129, 0, [(.ireturn, [0])])]
theorem kX12_mean_ok : pm_ck 249 kX12_mean = true := by decide +kernel
def kX12_report : List pm_Bl := [
  (0, 1, [(.aload_n 0, []), (.iload_n 1, []), (.invokevirtual 321, [246, 2, 285, 0, 0, 12]), (.ifCond .eq 17, [1]), (.iload_n 2, []), (.invokestatic 315, [242, 1, 281]), (.ifCond .eq 10, [1]), (.iload_n 3, []), (.invokestatic 244, [213, 1, 253]), (.ifCond .ne 5, [2])]),
  (22, 0, [(.iconst (-1), []), (.ireturn, [0])]),
  (24, 0, [(.aload_n 0, []), (.getfield 327, [12, 47, 0, 172]), (.bipush 60, []), (.if_icmp .ne 6, [3]), (.bipush (-2), []), (.ireturn, [0])]),
  (36, 0, [(.aload_n 0, []), (.getfield 104, [12, 48, 3, 173]), (.aload_n 0, []), (.getfield 327, [12, 47, 0, 172]), (.iload_n 1, []), (.iastore, []), (.aload_n 0, []), (.getfield 107, [12, 49, 3, 174]), (.aload_n 0, []), (.getfield 327, [12, 47, 0, 172]), (.iload_n 2, []), (.iastore, []), (.aload_n 0, []), (.getfield 110, [12, 50, 3, 175]), (.aload_n 0, []), (.getfield 327, [12, 47, 0, 172]), (.iload_n 3, []), (.iastore, []), (.aload_n 0, []), (.getfield 113, [12, 51, 3, 176]), (.aload_n 0, []), (.getfield 327, [12, 47, 0, 172]), (.iload 4, []), (.bastore, []), (.aload_n 0, []), (.dup, []), (.getfield 327, [12, 47, 0, 172]), (.iconst 1, []), (.iadd, []), (.putfield 327, [12, 47, 0, 172]), (.aload_n 0, []), (.getfield 327, [12, 47, 0, 172]), (.ireturn, [0])])]
theorem kX12_report_ok : pm_ck 250 kX12_report = true := by decide +kernel
def kX12_isOn : List pm_Bl := [
  (0, 0, [(.iload 4, []), (.ifCond .ne 12, [1]), (.aload_n 0, []), (.getfield 92, [12, 43, 3, 168]), (.iload_n 3, []), (.iaload, []), (.goto 9, [2])]),
  (14, 2, [(.aload_n 0, []), (.getfield 95, [12, 44, 3, 169]), (.iload_n 3, []), (.iaload, [])]),
  (20, 0, [(.istore 5, []), (.iload 5, []), (.iload_n 1, []), (.if_icmp .ne 19, [5]), (.aload_n 0, []), (.getfield 83, [12, 40, 3, 165]), (.iload_n 3, []), (.iaload, []), (.iload_n 2, []), (.if_icmp .lt 7, [3]), (.iconst 1, []), (.goto 4, [4])]),
  (42, 4, [(.iconst 0, [])]),
  (43, 0, [(.ireturn, [1])]),
  (44, 0, [(.iload 5, []), (.bipush (-9), []), (.if_icmp .eq 26, [6]), (.aload_n 0, []), (.getfield 47, [12, 26, 3, 151]), (.iload 5, []), (.iaload, []), (.iload_n 1, []), (.if_icmp .eq 15, [6]), (.aload_n 0, []), (.getfield 47, [12, 26, 3, 151]), (.iload 5, []), (.iaload, []), (.istore 5, []), (.goto (-27), [5])]),
  (74, 0, [(.iload 5, []), (.bipush (-9), []), (.if_icmp .eq 18, [7]), (.aload_n 0, []), (.getfield 53, [12, 28, 3, 153]), (.iload 5, []), (.iaload, []), (.iload_n 2, []), (.if_icmp .lt 7, [7]), (.iconst 1, []), (.goto 4, [8])]),
  (96, 8, [(.iconst 0, [])]),
  (97, 0, [(.ireturn, [1])])]
theorem kX12_isOn_ok : pm_ck 251 kX12_isOn = true := by decide +kernel
def kX12_onOf : List pm_Bl := [
  (0, 1, [(.lconst 0, []), (.lstore_n 3, []), (.iconst 0, []), (.istore 5, [])]),
  (5, 2, [(.iload 5, []), (.aload_n 0, []), (.getfield 298, [12, 38, 0, 163]), (.if_icmp .ge 53, [6]), (.iconst 0, []), (.istore 6, [])]),
  (17, 0, [(.iload 6, []), (.iconst 2, []), (.if_icmp .ge 38, [5]), (.lload_n 3, []), (.aload_n 0, []), (.iload_n 1, []), (.iload_n 2, []), (.iload 5, []), (.iload 6, []), (.invokevirtual 330, [251, 5, 296, 0, 0, 12]), (.ifCond .eq 15, [3]), (.lconst 1, []), (.iconst 2, []), (.iload 5, []), (.imul, []), (.iload 6, []), (.iadd, []), (.lshl, []), (.goto 4, [4])]),
  (49, 4, [(.lconst 0, [])]),
  (50, 0, [(.lor, []), (.lstore_n 3, []), (.iinc 6 1, []), (.goto (-38), [2])]),
  (58, 0, [(.iinc 5 1, []), (.goto (-56), [1])]),
  (64, 0, [(.lload_n 3, []), (.lreturn, [])])]
theorem kX12_onOf_ok : pm_ck 252 kX12_onOf = true := by decide +kernel
def kX12_madeOn : List pm_Bl := [
  (0, 1, [(.iconst 0, []), (.istore_n 3, []), (.iconst 0, []), (.istore 4, [])]),
  (5, 2, [(.iload 4, []), (.aload_n 0, []), (.getfield 267, [12, 23, 0, 148]), (.if_icmp .ge 41, [5]), (.iload_n 3, []), (.ifCond .ne 25, [2]), (.aload_n 0, []), (.getfield 47, [12, 26, 3, 151]), (.iload 4, []), (.iaload, []), (.iload_n 1, []), (.if_icmp .ne 18, [3]), (.aload_n 0, []), (.getfield 53, [12, 28, 3, 153]), (.iload 4, []), (.iaload, []), (.iload_n 2, []), (.if_icmp .ne 7, [3])]),
  (40, 0, [(.iconst 1, []), (.goto 4, [4])]),
  (44, 4, [(.iconst 0, [])]),
  (45, 0, [(.istore_n 3, []), (.iinc 4 1, []), (.goto (-44), [1])]),
  (52, 6, [(.iconst 0, []), (.istore 4, [])]),
  (55, 7, [(.iload 4, []), (.aload_n 0, []), (.getfield 298, [12, 38, 0, 163]), (.if_icmp .ge 52, [11]), (.iload_n 3, []), (.ifCond .ne 36, [8]), (.aload_n 0, []), (.getfield 92, [12, 43, 3, 168]), (.iload 4, []), (.iaload, []), (.iload_n 1, []), (.if_icmp .eq 14, [7]), (.aload_n 0, []), (.getfield 95, [12, 44, 3, 169]), (.iload 4, []), (.iaload, []), (.iload_n 1, []), (.if_icmp .ne 18, [9])]),
  (90, 8, [(.aload_n 0, []), (.getfield 83, [12, 40, 3, 165]), (.iload 4, []), (.iaload, []), (.iload_n 2, []), (.if_icmp .ne 7, [9])]),
  (101, 0, [(.iconst 1, []), (.goto 4, [10])]),
  (105, 10, [(.iconst 0, [])]),
  (106, 0, [(.istore_n 3, []), (.iinc 4 1, []), (.goto (-55), [6])]),
  (113, 0, [(.iload_n 3, []), (.ireturn, [1])])]
theorem kX12_madeOn_ok : pm_ck 253 kX12_madeOn = true := by decide +kernel
def kX12_addPlace : List pm_Bl := [
  (0, 0, [(.aload_n 0, []), (.getfield 117, [12, 53, 3, 178]), (.aload_n 0, []), (.getfield 334, [12, 52, 0, 177]), (.iload_n 1, []), (.iastore, []), (.aload_n 0, []), (.getfield 120, [12, 54, 3, 179]), (.aload_n 0, []), (.getfield 334, [12, 52, 0, 177]), (.iload_n 2, []), (.iastore, []), (.aload_n 0, []), (.getfield 123, [12, 55, 3, 180]), (.aload_n 0, []), (.getfield 334, [12, 52, 0, 177]), (.iload_n 3, []), (.iastore, []), (.aload_n 0, []), (.getfield 126, [12, 56, 3, 181]), (.aload_n 0, []), (.getfield 334, [12, 52, 0, 177]), (.iload 4, []), (.iastore, []), (.aload_n 0, []), (.getfield 129, [12, 57, 3, 182]), (.aload_n 0, []), (.getfield 334, [12, 52, 0, 177]), (.lload 5, []), (.lastore, []), (.aload_n 0, []), (.dup, []), (.getfield 334, [12, 52, 0, 177]), (.iconst 1, []), (.iadd, []), (.putfield 334, [12, 52, 0, 177]), (.return_, [])])]
theorem kX12_addPlace_ok : pm_ck 254 kX12_addPlace = true := by decide +kernel
def kX12_layPlaces : List pm_Bl := [
  (0, 1, [(.aload_n 0, []), (.iconst 0, []), (.putfield 334, [12, 52, 0, 177]), (.iconst 0, []), (.istore_n 1, [])]),
  (7, 2, [(.iload_n 1, []), (.aload_n 0, []), (.getfield 267, [12, 23, 0, 148]), (.if_icmp .ge 55, [5]), (.aload_n 0, []), (.getfield 241, [12, 15, 0, 140]), (.istore_n 2, [])]),
  (20, 3, [(.iload_n 2, []), (.aload_n 0, []), (.getfield 53, [12, 28, 3, 153]), (.iload_n 1, []), (.iaload, []), (.if_icmp .lt 34, [4]), (.aload_n 0, []), (.iload_n 1, []), (.iload_n 2, []), (.invokevirtual 337, [253, 3, 294, 0, 0, 12]), (.ifCond .eq 19, [3]), (.aload_n 0, []), (.iload_n 1, []), (.iload_n 2, []), (.bipush (-9), []), (.bipush (-9), []), (.aload_n 0, []), (.iload_n 1, []), (.iload_n 2, []), (.invokevirtual 340, [252, 3, 295, 0, 0, 12]), (.invokevirtual 344, [254, 6, 297, 0, 0, 12])]),
  (55, 0, [(.iinc 2 (-1), []), (.goto (-38), [2])]),
  (61, 0, [(.iinc 1 1, []), (.goto (-57), [1])]),
  (67, 6, [(.iconst 0, []), (.istore_n 1, [])]),
  (69, 7, [(.iload_n 1, []), (.aload_n 0, []), (.getfield 298, [12, 38, 0, 163]), (.if_icmp .ge 43, [9]), (.iconst 0, []), (.istore_n 2, [])]),
  (79, 0, [(.iload_n 2, []), (.iconst 2, []), (.if_icmp .ge 30, [8]), (.aload_n 0, []), (.bipush (-9), []), (.aload_n 0, []), (.getfield 83, [12, 40, 3, 165]), (.iload_n 1, []), (.iaload, []), (.iload_n 1, []), (.iload_n 2, []), (.lconst 1, []), (.iconst 2, []), (.iload_n 1, []), (.imul, []), (.iload_n 2, []), (.iadd, []), (.lshl, []), (.invokevirtual 344, [254, 6, 297, 0, 0, 12]), (.iinc 2 1, []), (.goto (-29), [7])]),
  (111, 0, [(.iinc 1 1, []), (.goto (-45), [6])]),
  (117, 0, [(.return_, [])])]
theorem kX12_layPlaces_ok : pm_ck 255 kX12_layPlaces = true := by decide +kernel
def kX12_missesOf : List pm_Bl := [
  (0, 1, [(.iconst 0, []), (.istore_n 3, []), (.iconst 0, []), (.istore 4, [])]),
  (5, 0, [(.iload 4, []), (.iconst 2, []), (.aload_n 0, []), (.getfield 298, [12, 38, 0, 163]), (.imul, []), (.if_icmp .ge 34, [4]), (.iload_n 3, []), (.lload_n 1, []), (.iload 4, []), (.lshr, []), (.lconst 1, []), (.land, []), (.lconst 1, []), (.lcmp, []), (.ifCond .ne 13, [2]), (.aload_n 0, []), (.getfield 133, [12, 59, 3, 184]), (.iload 4, []), (.iaload, []), (.goto 4, [3])]),
  (38, 3, [(.iconst 0, [])]),
  (39, 0, [(.iadd, []), (.istore_n 3, []), (.iinc 4 1, []), (.goto (-39), [1])]),
  (47, 0, [(.iload_n 3, []), (.ireturn, [0])])]
theorem kX12_missesOf_ok : pm_ck 256 kX12_missesOf = true := by decide +kernel
def kX12_weigh : List pm_Bl := [
  (0, 0, [(.iload_n 2, []), (.ifCond .ge 7, [1]), (.lconst 0, []), (.goto 9, [2])]),
  (8, 2, [(.aload_n 0, []), (.getfield 129, [12, 57, 3, 182]), (.iload_n 2, []), (.laload, [])]),
  (14, 0, [(.iload_n 3, []), (.ifCond .ge 7, [3]), (.lconst 0, []), (.goto 9, [4])]),
  (22, 4, [(.aload_n 0, []), (.getfield 129, [12, 57, 3, 182]), (.iload_n 3, []), (.laload, [])]),
  (28, 0, [(.lor, []), (.iload 4, []), (.ifCond .ge 7, [5]), (.lconst 0, []), (.goto 10, [6])]),
  (38, 6, [(.aload_n 0, []), (.getfield 129, [12, 57, 3, 182]), (.iload 4, []), (.laload, [])]),
  (45, 0, [(.lor, []), (.lstore 6, []), (.aload_n 0, []), (.getfield 348, [12, 58, 1, 183]), (.lload 6, []), (.ldc2_w 351, [17]), (.lxor, []), (.land, []), (.lconst 0, []), (.lcmp, []), (.ifCond .eq 4, [7]), (.return_, [])]),
  (65, 0, [(.aload_n 0, []), (.lload 6, []), (.invokevirtual 353, [256, 2, 299, 0, 0, 12]), (.istore 8, []), (.iload 8, []), (.iload 5, []), (.if_icmp .le 4, [8]), (.return_, [])]),
  (81, 9, [(.aload_n 0, []), (.getfield 357, [12, 63, 0, 188]), (.ifCond .eq 12, [9]), (.iload 8, []), (.aload_n 0, []), (.getfield 360, [12, 61, 0, 186]), (.if_icmp .ge 31, [10])]),
  (97, 10, [(.aload_n 0, []), (.iload 8, []), (.putfield 360, [12, 61, 0, 186]), (.aload_n 0, []), (.getfield 136, [12, 62, 3, 187]), (.iconst 0, []), (.iload_n 2, []), (.iastore, []), (.aload_n 0, []), (.getfield 136, [12, 62, 3, 187]), (.iconst 1, []), (.iload_n 3, []), (.iastore, []), (.aload_n 0, []), (.getfield 136, [12, 62, 3, 187]), (.iconst 2, []), (.iload 4, []), (.iastore, [])]),
  (125, 11, [(.aload_n 0, []), (.iload_n 1, []), (.putfield 363, [12, 60, 0, 185]), (.aload_n 0, []), (.dup, []), (.getfield 357, [12, 63, 0, 188]), (.iconst 1, []), (.iadd, []), (.putfield 357, [12, 63, 0, 188]), (.iconst 0, []), (.istore 9, [])]),
  (143, 0, [(.iload 9, []), (.iconst 2, []), (.aload_n 0, []), (.getfield 298, [12, 38, 0, 163]), (.imul, []), (.if_icmp .ge 27, [12]), (.aload_n 0, []), (.getfield 139, [12, 64, 3, 189]), (.iload 9, []), (.dup2, []), (.iaload, []), (.lload 6, []), (.iload 9, []), (.lshr, []), (.lconst 1, []), (.land, []), (.l2i, []), (.iadd, []), (.iastore, []), (.iinc 9 1, []), (.goto (-32), [11])]),
  (178, 0, [(.return_, [])])]
theorem kX12_weigh_ok : pm_ck 257 kX12_weigh = true := by decide +kernel
def kX12_seekCause : List pm_Bl := [
  (0, 1, [(.aload_n 0, []), (.invokevirtual 366, [255, 1, 293, 0, 0, 12]), (.aload_n 0, []), (.lconst 0, []), (.putfield 348, [12, 58, 1, 183]), (.iconst 0, []), (.istore_n 3, [])]),
  (11, 0, [(.iload_n 3, []), (.bipush 60, []), (.if_icmp .ge 23, [2]), (.aload_n 0, []), (.getfield 133, [12, 59, 3, 184]), (.iload_n 3, []), (.iconst 0, []), (.iastore, []), (.aload_n 0, []), (.getfield 139, [12, 64, 3, 189]), (.iload_n 3, []), (.iconst 0, []), (.iastore, []), (.iinc 3 1, []), (.goto (-23), [1])]),
  (37, 3, [(.iconst 0, []), (.istore_n 3, [])]),
  (39, 0, [(.iload_n 3, []), (.aload_n 0, []), (.getfield 327, [12, 47, 0, 172]), (.if_icmp .ge 86, [9]), (.aload_n 0, []), (.getfield 110, [12, 50, 3, 175]), (.iload_n 3, []), (.iaload, []), (.iload_n 1, []), (.if_icmp .ne 70, [8]), (.iconst 2, []), (.aload_n 0, []), (.getfield 104, [12, 48, 3, 173]), (.iload_n 3, []), (.iaload, []), (.imul, []), (.aload_n 0, []), (.getfield 107, [12, 49, 3, 174]), (.iload_n 3, []), (.iaload, []), (.iadd, []), (.istore 4, []), (.aload_n 0, []), (.dup, []), (.getfield 348, [12, 58, 1, 183]), (.aload_n 0, []), (.getfield 113, [12, 51, 3, 176]), (.iload_n 3, []), (.baload, []), (.ifCond .eq 10, [4]), (.lconst 1, []), (.iload 4, []), (.lshl, []), (.goto 4, [5])]),
  (95, 5, [(.lconst 0, [])]),
  (96, 0, [(.lor, []), (.putfield 348, [12, 58, 1, 183]), (.aload_n 0, []), (.getfield 133, [12, 59, 3, 184]), (.iload 4, []), (.dup2, []), (.iaload, []), (.aload_n 0, []), (.getfield 113, [12, 51, 3, 176]), (.iload_n 3, []), (.baload, []), (.ifCond .eq 7, [6]), (.iconst 0, []), (.goto 4, [7])]),
  (121, 7, [(.iconst 1, [])]),
  (122, 8, [(.iadd, []), (.iastore, [])]),
  (124, 0, [(.iinc 3 1, []), (.goto (-88), [3])]),
  (130, 10, [(.aload_n 0, []), (.iconst 0, []), (.putfield 357, [12, 63, 0, 188]), (.aload_n 0, []), (.iconst 0, []), (.bipush (-9), []), (.bipush (-9), []), (.bipush (-9), []), (.iload_n 2, []), (.invokevirtual 369, [257, 6, 298, 0, 0, 12]), (.iconst 0, []), (.istore_n 3, [])]),
  (149, 11, [(.iload_n 3, []), (.aload_n 0, []), (.getfield 334, [12, 52, 0, 177]), (.if_icmp .ge 35, [12]), (.aload_n 0, []), (.getfield 357, [12, 63, 0, 188]), (.ifCond .eq 11, [11]), (.aload_n 0, []), (.getfield 363, [12, 60, 0, 185]), (.iconst 1, []), (.if_icmp .ne 20, [12])]),
  (172, 0, [(.aload_n 0, []), (.iconst 1, []), (.iload_n 3, []), (.bipush (-9), []), (.bipush (-9), []), (.iload_n 2, []), (.invokevirtual 369, [257, 6, 298, 0, 0, 12]), (.iinc 3 1, []), (.goto (-37), [10])]),
  (189, 13, [(.iconst 0, []), (.istore_n 3, [])]),
  (191, 14, [(.iload_n 3, []), (.aload_n 0, []), (.getfield 334, [12, 52, 0, 177]), (.if_icmp .ge 55, [17]), (.aload_n 0, []), (.getfield 357, [12, 63, 0, 188]), (.ifCond .eq 11, [14]), (.aload_n 0, []), (.getfield 363, [12, 60, 0, 185]), (.iconst 2, []), (.if_icmp .ne 40, [17])]),
  (214, 15, [(.iload_n 3, []), (.iconst 1, []), (.iadd, []), (.istore 4, [])]),
  (219, 0, [(.iload 4, []), (.aload_n 0, []), (.getfield 334, [12, 52, 0, 177]), (.if_icmp .ge 20, [16]), (.aload_n 0, []), (.iconst 2, []), (.iload_n 3, []), (.iload 4, []), (.bipush (-9), []), (.iload_n 2, []), (.invokevirtual 369, [257, 6, 298, 0, 0, 12]), (.iinc 4 1, []), (.goto (-23), [15])]),
  (245, 0, [(.iinc 3 1, []), (.goto (-57), [13])]),
  (251, 18, [(.iconst 0, []), (.istore_n 3, [])]),
  (253, 19, [(.iload_n 3, []), (.aload_n 0, []), (.getfield 334, [12, 52, 0, 177]), (.if_icmp .ge 116, [25]), (.aload_n 0, []), (.getfield 357, [12, 63, 0, 188]), (.ifCond .eq 11, [19]), (.aload_n 0, []), (.getfield 363, [12, 60, 0, 185]), (.iconst 3, []), (.if_icmp .ne 101, [25])]),
  (276, 20, [(.iload_n 3, []), (.iconst 1, []), (.iadd, []), (.istore 4, [])]),
  (281, 21, [(.iload 4, []), (.aload_n 0, []), (.getfield 334, [12, 52, 0, 177]), (.if_icmp .ge 81, [24]), (.aload_n 0, []), (.getfield 129, [12, 57, 3, 182]), (.iload_n 3, []), (.laload, []), (.aload_n 0, []), (.getfield 129, [12, 57, 3, 182]), (.iload 4, []), (.laload, []), (.lor, []), (.lstore 5, []), (.iload 4, []), (.iconst 1, []), (.iadd, []), (.istore 7, [])]),
  (312, 22, [(.iload 7, []), (.aload_n 0, []), (.getfield 334, [12, 52, 0, 177]), (.if_icmp .ge 44, [23]), (.aload_n 0, []), (.getfield 348, [12, 58, 1, 183]), (.lload 5, []), (.aload_n 0, []), (.getfield 129, [12, 57, 3, 182]), (.iload 7, []), (.laload, []), (.lor, []), (.ldc2_w 351, [17]), (.lxor, []), (.land, []), (.lconst 0, []), (.lcmp, []), (.ifCond .ne 14, [22]), (.aload_n 0, []), (.iconst 3, []), (.iload_n 3, []), (.iload 4, []), (.iload 7, []), (.iload_n 2, []), (.invokevirtual 369, [257, 6, 298, 0, 0, 12])]),
  (356, 0, [(.iinc 7 1, []), (.goto (-47), [21])]),
  (362, 0, [(.iinc 4 1, []), (.goto (-84), [20])]),
  (368, 0, [(.iinc 3 1, []), (.goto (-118), [18])]),
  (374, 0, [(.aload_n 0, []), (.getfield 357, [12, 63, 0, 188]), (.ifCond .le 7, [26]), (.iconst 1, []), (.goto 4, [27])]),
  (385, 27, [(.iconst 0, [])]),
  (386, 0, [(.ireturn, [1])])]
theorem kX12_seekCause_ok : pm_ck 258 kX12_seekCause = true := by decide +kernel
def kX12_copiesOn : List pm_Bl := [
  (0, 1, [(.iconst 0, []), (.istore_n 3, []), (.iconst 0, []), (.istore 4, [])]),
  (5, 0, [(.iload 4, []), (.aload_n 0, []), (.getfield 298, [12, 38, 0, 163]), (.if_icmp .ge 38, [4]), (.iload_n 3, []), (.lload_n 1, []), (.iconst 2, []), (.iload 4, []), (.imul, []), (.lshr, []), (.ldc2_w 373, [18]), (.land, []), (.lconst 0, []), (.lcmp, []), (.ifCond .eq 13, [2]), (.aload_n 0, []), (.getfield 86, [12, 41, 3, 166]), (.iload 4, []), (.iaload, []), (.goto 4, [3])]),
  (40, 3, [(.iconst 0, [])]),
  (41, 0, [(.iadd, []), (.istore_n 3, []), (.iinc 4 1, []), (.goto (-41), [1])]),
  (49, 0, [(.iload_n 3, []), (.ireturn, [0])])]
theorem kX12_copiesOn_ok : pm_ck 259 kX12_copiesOn = true := by decide +kernel
def kX12_isMisses : List pm_Bl := [
  (0, 0, [(.iload_n 0, []), (.iconst 0, []), (.bipush 60, []), (.invokestatic 183, [188, 3, 229]), (.ireturn, [1])])]
theorem kX12_isMisses_ok : pm_ck 260 kX12_isMisses = true := by decide +kernel
def kX12_cause : List pm_Bl := [
  (0, 1, [(.iload_n 1, []), (.invokestatic 244, [213, 1, 253]), (.ifCond .eq 10, [1]), (.iload_n 2, []), (.invokestatic 375, [260, 1, 291]), (.ifCond .ne 5, [2])]),
  (14, 0, [(.iconst (-1), []), (.ireturn, [0])]),
  (16, 0, [(.aload_n 0, []), (.iload_n 1, []), (.iload_n 2, []), (.invokevirtual 378, [258, 3, 292, 0, 0, 12]), (.ifCond .ne 6, [3]), (.bipush (-9), []), (.ireturn, [0])]),
  (28, 4, [(.aload_n 0, []), (.aload_n 0, []), (.getfield 363, [12, 60, 0, 185]), (.putfield 381, [12, 65, 0, 190]), (.iconst 0, []), (.istore_n 3, [])]),
  (38, 5, [(.iload_n 3, []), (.aload_n 0, []), (.getfield 363, [12, 60, 0, 185]), (.if_icmp .ge 174, [10]), (.aload_n 0, []), (.getfield 136, [12, 62, 3, 187]), (.iload_n 3, []), (.iaload, []), (.istore 4, []), (.aload_n 0, []), (.getfield 117, [12, 53, 3, 178]), (.iload 4, []), (.iaload, []), (.istore 5, []), (.iload 5, []), (.bipush (-9), []), (.if_icmp .eq 29, [6]), (.aload_n 0, []), (.getfield 41, [12, 24, 3, 149]), (.iload 5, []), (.iaload, []), (.iconst 1, []), (.if_icmp .eq 14, [5]), (.aload_n 0, []), (.getfield 41, [12, 24, 3, 149]), (.iload 5, []), (.iaload, []), (.iconst 3, []), (.if_icmp .ne 7, [6])]),
  (92, 0, [(.iconst 1, []), (.goto 4, [7])]),
  (96, 7, [(.iconst 0, [])]),
  (97, 0, [(.istore 6, []), (.aload_n 0, []), (.getfield 142, [12, 66, 3, 191]), (.bipush 6, []), (.iload_n 3, []), (.imul, []), (.iload 5, []), (.iastore, []), (.aload_n 0, []), (.getfield 142, [12, 66, 3, 191]), (.bipush 6, []), (.iload_n 3, []), (.imul, []), (.iconst 1, []), (.iadd, []), (.aload_n 0, []), (.getfield 120, [12, 54, 3, 179]), (.iload 4, []), (.iaload, []), (.iastore, []), (.aload_n 0, []), (.getfield 142, [12, 66, 3, 191]), (.bipush 6, []), (.iload_n 3, []), (.imul, []), (.iconst 2, []), (.iadd, []), (.aload_n 0, []), (.getfield 123, [12, 55, 3, 180]), (.iload 4, []), (.iaload, []), (.iastore, []), (.aload_n 0, []), (.getfield 142, [12, 66, 3, 191]), (.bipush 6, []), (.iload_n 3, []), (.imul, []), (.iconst 3, []), (.iadd, []), (.aload_n 0, []), (.getfield 126, [12, 56, 3, 181]), (.iload 4, []), (.iaload, []), (.iastore, []), (.aload_n 0, []), (.getfield 142, [12, 66, 3, 191]), (.bipush 6, []), (.iload_n 3, []), (.imul, []), (.iconst 4, []), (.iadd, []), (.iload 6, []), (.ifCond .eq 11, [8]), (.sipush 999, []), (.iload_n 1, []), (.isub, []), (.goto 4, [9])]),
  (187, 9, [(.iload_n 1, [])]),
  (188, 0, [(.iastore, []), (.aload_n 0, []), (.getfield 142, [12, 66, 3, 191]), (.bipush 6, []), (.iload_n 3, []), (.imul, []), (.iconst 5, []), (.iadd, []), (.aload_n 0, []), (.aload_n 0, []), (.getfield 129, [12, 57, 3, 182]), (.iload 4, []), (.laload, []), (.invokevirtual 384, [259, 2, 300, 0, 0, 12]), (.iastore, []), (.iinc 3 1, []), (.goto (-176), [4])]),
  (217, 0, [(.aload_n 0, []), (.aload_n 0, []), (.getfield 360, [12, 61, 0, 186]), (.aload_n 0, []), (.getfield 363, [12, 60, 0, 185]), (.invokevirtual 205, [192, 3, 238, 0, 0, 12]), (.ireturn, [0])])]
theorem kX12_cause_ok : pm_ck 261 kX12_cause = true := by decide +kernel
def kX12_causeTold : List pm_Bl := [
  (0, 0, [(.iload_n 2, []), (.iconst 0, []), (.iconst 5, []), (.invokestatic 183, [188, 3, 229]), (.ifCond .ne 7, [1]), (.iconst (-1), []), (.goto 33, [3])]),
  (13, 0, [(.iload_n 1, []), (.iconst 0, []), (.aload_n 0, []), (.getfield 381, [12, 65, 0, 190]), (.iconst 1, []), (.isub, []), (.invokestatic 183, [188, 3, 229]), (.ifCond .eq 17, [2]), (.aload_n 0, []), (.getfield 142, [12, 66, 3, 191]), (.bipush 6, []), (.iload_n 1, []), (.imul, []), (.iload_n 2, []), (.iadd, []), (.iaload, []), (.goto 5, [3])]),
  (41, 3, [(.bipush (-9), [])]),
  (43, 0, [(.ireturn, [0])])]
theorem kX12_causeTold_ok : pm_ck 262 kX12_causeTold = true := by decide +kernel
def kX12_rivals : List pm_Bl := [
  (0, 1, [(.iload_n 1, []), (.invokestatic 244, [213, 1, 253]), (.ifCond .eq 10, [1]), (.iload_n 2, []), (.invokestatic 375, [260, 1, 291]), (.ifCond .ne 5, [2])]),
  (14, 0, [(.iconst (-1), []), (.ireturn, [0])]),
  (16, 0, [(.aload_n 0, []), (.iload_n 1, []), (.iload_n 2, []), (.invokevirtual 378, [258, 3, 292, 0, 0, 12]), (.ifCond .eq 10, [3]), (.aload_n 0, []), (.getfield 357, [12, 63, 0, 188]), (.goto 5, [4])]),
  (32, 4, [(.bipush (-9), [])]),
  (34, 0, [(.ireturn, [0])])]
theorem kX12_rivals_ok : pm_ck 263 kX12_rivals = true := by decide +kernel
def kX12_nextTest : List pm_Bl := [
  (0, 1, [(.iload_n 1, []), (.invokestatic 244, [213, 1, 253]), (.ifCond .eq 10, [1]), (.iload_n 2, []), (.invokestatic 375, [260, 1, 291]), (.ifCond .ne 5, [2])]),
  (14, 0, [(.iconst (-1), []), (.ireturn, [0])]),
  (16, 0, [(.aload_n 0, []), (.iload_n 1, []), (.iload_n 2, []), (.invokevirtual 378, [258, 3, 292, 0, 0, 12]), (.ifCond .ne 6, [3]), (.bipush (-9), []), (.ireturn, [0])]),
  (28, 4, [(.bipush (-9), []), (.istore_n 3, []), (.iconst 0, []), (.istore 4, []), (.iconst 0, []), (.istore 5, [])]),
  (37, 5, [(.iload 5, []), (.iconst 2, []), (.aload_n 0, []), (.getfield 298, [12, 38, 0, 163]), (.imul, []), (.if_icmp .ge 105, [12]), (.aload_n 0, []), (.getfield 133, [12, 59, 3, 184]), (.iload 5, []), (.iaload, []), (.ifCond .gt 17, [5]), (.aload_n 0, []), (.getfield 348, [12, 58, 1, 183]), (.iload 5, []), (.lshr, []), (.lconst 1, []), (.land, []), (.lconst 1, []), (.lcmp, []), (.ifCond .ne 7, [6])]),
  (72, 0, [(.iconst 1, []), (.goto 4, [7])]),
  (76, 7, [(.iconst 0, [])]),
  (77, 0, [(.istore 6, []), (.aload_n 0, []), (.getfield 357, [12, 63, 0, 188]), (.aload_n 0, []), (.getfield 139, [12, 64, 3, 189]), (.iload 5, []), (.iaload, []), (.isub, []), (.istore 7, []), (.iload 7, []), (.aload_n 0, []), (.getfield 139, [12, 64, 3, 189]), (.iload 5, []), (.iaload, []), (.if_icmp .le 8, [8]), (.iload 7, []), (.goto 10, [9])]),
  (110, 9, [(.aload_n 0, []), (.getfield 139, [12, 64, 3, 189]), (.iload 5, []), (.iaload, [])]),
  (117, 10, [(.istore 8, []), (.iload 6, []), (.ifCond .ne 23, [11]), (.iload_n 3, []), (.bipush (-9), []), (.if_icmp .eq 10, [10]), (.iload 8, []), (.iload 4, []), (.if_icmp .ge 10, [11])]),
  (137, 11, [(.iload 5, []), (.istore_n 3, []), (.iload 8, []), (.istore 4, [])]),
  (144, 0, [(.iinc 5 1, []), (.goto (-110), [4])]),
  (150, 0, [(.iload_n 3, []), (.bipush (-9), []), (.if_icmp .ne 8, [13]), (.bipush (-9), []), (.goto 19, [14])]),
  (161, 14, [(.aload_n 0, []), (.iload 4, []), (.bipush 10, []), (.iload_n 3, []), (.iconst 2, []), (.idiv, []), (.imul, []), (.iload_n 3, []), (.iconst 2, []), (.irem, []), (.iadd, []), (.invokevirtual 205, [192, 3, 238, 0, 0, 12])]),
  (177, 0, [(.ireturn, [0])])]
theorem kX12_nextTest_ok : pm_ck 264 kX12_nextTest = true := by decide +kernel
def kX12_recall : List pm_Bl := [
  (0, 1, [(.aload_n 0, []), (.iload_n 1, []), (.invokevirtual 280, [222, 2, 264, 0, 0, 12]), (.ifCond .eq 17, [1]), (.iload_n 2, []), (.invokestatic 244, [213, 1, 253]), (.ifCond .eq 10, [1]), (.iload_n 3, []), (.invokestatic 387, [269, 1, 305]), (.ifCond .ne 5, [2])]),
  (22, 0, [(.iconst (-1), []), (.ireturn, [0])]),
  (24, 3, [(.iconst 0, []), (.istore 4, []), (.iconst 0, []), (.istore 5, [])]),
  (30, 4, [(.iload 5, []), (.aload_n 0, []), (.getfield 298, [12, 38, 0, 163]), (.if_icmp .ge 49, [7]), (.iload 4, []), (.aload_n 0, []), (.iload_n 1, []), (.iload_n 2, []), (.iload 5, []), (.iconst 0, []), (.invokevirtual 330, [251, 5, 296, 0, 0, 12]), (.ifCond .ne 15, [4]), (.aload_n 0, []), (.iload_n 1, []), (.iload_n 2, []), (.iload 5, []), (.iconst 1, []), (.invokevirtual 330, [251, 5, 296, 0, 0, 12]), (.ifCond .eq 13, [5])]),
  (65, 0, [(.aload_n 0, []), (.iload 5, []), (.iload_n 3, []), (.invokevirtual 318, [270, 3, 287, 0, 0, 12]), (.goto 4, [6])]),
  (75, 6, [(.iconst 0, [])]),
  (76, 0, [(.iadd, []), (.istore 4, []), (.iinc 5 1, []), (.goto (-52), [3])]),
  (85, 0, [(.iload 4, []), (.ireturn, [0])])]
theorem kX12_recall_ok : pm_ck 265 kX12_recall = true := by decide +kernel
def kX12_swishOf : List pm_Bl := [
  (0, 0, [(.iload_n 2, []), (.iconst 2, []), (.irem, []), (.ifCond .ne 12, [1]), (.aload_n 0, []), (.getfield 98, [12, 45, 3, 170]), (.iload_n 1, []), (.iaload, []), (.goto 9, [2])]),
  (15, 2, [(.aload_n 0, []), (.getfield 101, [12, 46, 3, 171]), (.iload_n 1, []), (.iaload, [])]),
  (21, 0, [(.istore_n 3, []), (.iload_n 3, []), (.ifCond .ge 8, [3]), (.iload_n 3, []), (.ineg, []), (.goto 4, [4])]),
  (31, 4, [(.iload_n 3, [])]),
  (32, 0, [(.istore_n 3, []), (.iload_n 3, []), (.sipush 1000, []), (.iload_n 2, []), (.isub, []), (.imul, []), (.sipush 1000, []), (.idiv, []), (.ireturn, [0])])]
theorem kX12_swishOf_ok : pm_ck 266 kX12_swishOf = true := by decide +kernel
def kX12_swish : List pm_Bl := [
  (0, 0, [(.aload_n 0, []), (.iload_n 1, []), (.invokevirtual 321, [246, 2, 285, 0, 0, 12]), (.ifCond .eq 19, [1]), (.iload_n 2, []), (.invokestatic 244, [213, 1, 253]), (.ifCond .eq 12, [1]), (.aload_n 0, []), (.iload_n 1, []), (.iload_n 2, []), (.invokevirtual 390, [266, 3, 307, 0, 0, 12]), (.goto 4, [2])]),
  (24, 2, [(.iconst (-1), [])]),
  (25, 0, [(.ireturn, [0])])]
theorem kX12_swish_ok : pm_ck 267 kX12_swish = true := by decide +kernel
def kX12_swishRun : List pm_Bl := [
  (0, 1, [(.iload_n 1, []), (.invokestatic 193, [197, 1, 234]), (.ifCond .eq 10, [1]), (.iload_n 2, []), (.invokestatic 193, [197, 1, 234]), (.ifCond .ne 5, [2])]),
  (14, 0, [(.iconst (-1), []), (.ireturn, [0])]),
  (16, 3, [(.aload_n 0, []), (.getfield 13, [12, 5, 3, 130]), (.iload_n 1, []), (.iaload, []), (.ifCond .lt 12, [3]), (.aload_n 0, []), (.getfield 13, [12, 5, 3, 130]), (.iload_n 2, []), (.iaload, []), (.ifCond .ge 9, [4])]),
  (34, 0, [(.aload_n 0, []), (.iconst 1, []), (.invokevirtual 197, [189, 2, 235, 0, 0, 12]), (.ireturn, [0])]),
  (40, 0, [(.aload_n 0, []), (.getfield 13, [12, 5, 3, 130]), (.iload_n 1, []), (.iaload, []), (.aload_n 0, []), (.getfield 13, [12, 5, 3, 130]), (.iload_n 2, []), (.iaload, []), (.if_icmp .eq 9, [5]), (.aload_n 0, []), (.iconst 5, []), (.invokevirtual 197, [189, 2, 235, 0, 0, 12]), (.ireturn, [0])]),
  (61, 6, [(.iconst 1, []), (.istore_n 3, []), (.iconst 0, []), (.istore 4, [])]),
  (66, 0, [(.iload 4, []), (.aload_n 0, []), (.getfield 13, [12, 5, 3, 130]), (.iload_n 1, []), (.iaload, []), (.if_icmp .ge 32, [9]), (.iload_n 3, []), (.ifCond .eq 20, [7]), (.aload_n 0, []), (.iload_n 1, []), (.iload 4, []), (.invokevirtual 201, [198, 3, 237, 0, 0, 12]), (.invokestatic 244, [213, 1, 253]), (.ifCond .eq 7, [7]), (.iconst 1, []), (.goto 4, [8])]),
  (98, 8, [(.iconst 0, [])]),
  (99, 0, [(.istore_n 3, []), (.iinc 4 1, []), (.goto (-37), [6])]),
  (106, 0, [(.iload_n 3, []), (.ifCond .ne 9, [10]), (.aload_n 0, []), (.iconst 3, []), (.invokevirtual 197, [189, 2, 235, 0, 0, 12]), (.ireturn, [0])]),
  (116, 11, [(.bipush (-9), []), (.istore 4, []), (.lconst 0, []), (.lstore 5, []), (.iconst 0, []), (.istore 7, [])]),
  (126, 12, [(.iload 7, []), (.aload_n 0, []), (.getfield 298, [12, 38, 0, 163]), (.if_icmp .ge 100, [18]), (.lconst 0, []), (.lstore 8, []), (.iconst 0, []), (.istore 10, [])]),
  (141, 0, [(.iload 10, []), (.aload_n 0, []), (.getfield 13, [12, 5, 3, 130]), (.iload_n 1, []), (.iaload, []), (.if_icmp .ge 54, [15]), (.aload_n 0, []), (.iload 7, []), (.aload_n 0, []), (.iload_n 1, []), (.iload 10, []), (.invokevirtual 201, [198, 3, 237, 0, 0, 12]), (.invokevirtual 390, [266, 3, 307, 0, 0, 12]), (.i2l, []), (.aload_n 0, []), (.iload_n 2, []), (.iload 10, []), (.invokevirtual 201, [198, 3, 237, 0, 0, 12]), (.i2l, []), (.lsub, []), (.lstore 11, []), (.lload 8, []), (.lload 11, []), (.lconst 0, []), (.lcmp, []), (.ifCond .ge 9, [13]), (.lload 11, []), (.lneg, []), (.goto 5, [14])]),
  (192, 14, [(.lload 11, [])]),
  (194, 0, [(.ladd, []), (.lstore 8, []), (.iinc 10 1, []), (.goto (-59), [12])]),
  (203, 16, [(.iload 4, []), (.bipush (-9), []), (.if_icmp .eq 11, [16]), (.lload 8, []), (.lload 5, []), (.lcmp, []), (.ifCond .ge 11, [17])]),
  (218, 17, [(.iload 7, []), (.istore 4, []), (.lload 8, []), (.lstore 5, [])]),
  (226, 0, [(.iinc 7 1, []), (.goto (-103), [11])]),
  (232, 0, [(.iload 4, []), (.bipush (-9), []), (.if_icmp .ne 8, [19]), (.bipush (-9), []), (.goto 27, [22])]),
  (244, 0, [(.aload_n 0, []), (.lload 5, []), (.ldc2_w 393, [19]), (.lcmp, []), (.ifCond .le 9, [20]), (.ldc_w 395, [4]), (.goto 6, [21])]),
  (260, 21, [(.lload 5, []), (.l2i, [])]),
  (263, 22, [(.iload 4, []), (.invokevirtual 205, [192, 3, 238, 0, 0, 12])]),
  (268, 0, [(.ireturn, [0])])]
theorem kX12_swishRun_ok : pm_ck 268 kX12_swishRun = true := by decide +kernel
def kX12_isLand : List pm_Bl := [
  (0, 0, [(.iload_n 0, []), (.iconst 0, []), (.bipush 7, []), (.invokestatic 183, [188, 3, 229]), (.ireturn, [1])])]
theorem kX12_isLand_ok : pm_ck 269 kX12_isLand = true := by decide +kernel
def kX12_outOf : List pm_Bl := [
  (0, 1, [(.iconst 0, []), (.istore_n 3, []), (.iconst 0, []), (.istore 4, [])]),
  (5, 2, [(.iload 4, []), (.aload_n 0, []), (.getfield 396, [12, 67, 0, 192]), (.if_icmp .ge 51, [5]), (.iload_n 3, []), (.aload_n 0, []), (.getfield 145, [12, 68, 3, 193]), (.iload 4, []), (.iaload, []), (.iload_n 1, []), (.if_icmp .ne 30, [3]), (.iload_n 2, []), (.bipush (-9), []), (.if_icmp .eq 14, [2]), (.aload_n 0, []), (.getfield 151, [12, 70, 3, 195]), (.iload 4, []), (.iaload, []), (.iload_n 2, []), (.if_icmp .ne 13, [3])]),
  (43, 0, [(.aload_n 0, []), (.getfield 148, [12, 69, 3, 194]), (.iload 4, []), (.iaload, []), (.goto 4, [4])]),
  (53, 4, [(.iconst 0, [])]),
  (54, 0, [(.iadd, []), (.istore_n 3, []), (.iinc 4 1, []), (.goto (-54), [1])]),
  (62, 0, [(.iload_n 3, []), (.ireturn, [0])])]
theorem kX12_outOf_ok : pm_ck 270 kX12_outOf = true := by decide +kernel
def kX12_leftOf : List pm_Bl := [
  (0, 0, [(.aload_n 0, []), (.getfield 86, [12, 41, 3, 166]), (.iload_n 1, []), (.iaload, []), (.aload_n 0, []), (.iload_n 1, []), (.bipush (-9), []), (.invokevirtual 318, [270, 3, 287, 0, 0, 12]), (.isub, []), (.ireturn, [0])])]
theorem kX12_leftOf_ok : pm_ck 271 kX12_leftOf = true := by decide +kernel
def kX12_sale : List pm_Bl := [
  (0, 0, [(.aload_n 0, []), (.getfield 145, [12, 68, 3, 193]), (.aload_n 0, []), (.getfield 396, [12, 67, 0, 192]), (.iload_n 1, []), (.iastore, []), (.aload_n 0, []), (.getfield 148, [12, 69, 3, 194]), (.aload_n 0, []), (.getfield 396, [12, 67, 0, 192]), (.iload_n 2, []), (.iastore, []), (.aload_n 0, []), (.getfield 151, [12, 70, 3, 195]), (.aload_n 0, []), (.getfield 396, [12, 67, 0, 192]), (.iload_n 3, []), (.iastore, []), (.aload_n 0, []), (.getfield 154, [12, 71, 3, 196]), (.aload_n 0, []), (.getfield 396, [12, 67, 0, 192]), (.aload_n 0, []), (.getfield 241, [12, 15, 0, 140]), (.iastore, []), (.aload_n 0, []), (.dup, []), (.getfield 396, [12, 67, 0, 192]), (.iconst 1, []), (.iadd, []), (.putfield 396, [12, 67, 0, 192]), (.aload_n 0, []), (.iload_n 1, []), (.invokevirtual 399, [271, 2, 311, 0, 0, 12]), (.ireturn, [0])])]
theorem kX12_sale_ok : pm_ck 272 kX12_sale = true := by decide +kernel
def kX12_isSale : List pm_Bl := [
  (0, 0, [(.aload_n 0, []), (.iload_n 1, []), (.invokevirtual 321, [246, 2, 285, 0, 0, 12]), (.ifCond .eq 25, [1]), (.iload_n 2, []), (.iconst 1, []), (.sipush 10000, []), (.invokestatic 183, [188, 3, 229]), (.ifCond .eq 14, [1]), (.iload_n 3, []), (.invokestatic 387, [269, 1, 305]), (.ifCond .eq 7, [1]), (.iconst 1, []), (.goto 4, [2])]),
  (30, 2, [(.iconst 0, [])]),
  (31, 0, [(.ireturn, [1])])]
theorem kX12_isSale_ok : pm_ck 273 kX12_isSale = true := by decide +kernel
def kX12_sell : List pm_Bl := [
  (0, 0, [(.aload_n 0, []), (.iload_n 1, []), (.iload_n 2, []), (.iload_n 3, []), (.invokevirtual 402, [273, 4, 310, 0, 0, 12]), (.ifCond .ne 5, [1]), (.iconst (-1), []), (.ireturn, [0])]),
  (12, 0, [(.aload_n 0, []), (.getfield 396, [12, 67, 0, 192]), (.bipush 60, []), (.if_icmp .ne 6, [2]), (.bipush (-2), []), (.ireturn, [0])]),
  (24, 3, [(.iload_n 2, []), (.aload_n 0, []), (.iload_n 1, []), (.invokevirtual 399, [271, 2, 311, 0, 0, 12]), (.if_icmp .gt 13, [3]), (.aload_n 0, []), (.iconst 3, []), (.iload_n 3, []), (.iconst 0, []), (.invokevirtual 289, [221, 4, 267, 0, 0, 12]), (.ifCond .ne 8, [4])]),
  (43, 0, [(.bipush (-4), []), (.goto 10, [5])]),
  (48, 5, [(.aload_n 0, []), (.iload_n 1, []), (.iload_n 2, []), (.iload_n 3, []), (.invokevirtual 405, [272, 4, 312, 0, 0, 12])]),
  (55, 0, [(.ireturn, [0])])]
theorem kX12_sell_ok : pm_ck 274 kX12_sell = true := by decide +kernel
def kX12_back : List pm_Bl := [
  (0, 0, [(.aload_n 0, []), (.iload_n 1, []), (.iload_n 2, []), (.iload_n 3, []), (.invokevirtual 402, [273, 4, 310, 0, 0, 12]), (.ifCond .ne 5, [1]), (.iconst (-1), []), (.ireturn, [0])]),
  (12, 0, [(.aload_n 0, []), (.getfield 396, [12, 67, 0, 192]), (.bipush 60, []), (.if_icmp .ne 6, [2]), (.bipush (-2), []), (.ireturn, [0])]),
  (24, 0, [(.iload_n 2, []), (.aload_n 0, []), (.iload_n 1, []), (.iload_n 3, []), (.invokevirtual 318, [270, 3, 287, 0, 0, 12]), (.if_icmp .le 8, [3]), (.bipush (-4), []), (.goto 11, [4])]),
  (39, 4, [(.aload_n 0, []), (.iload_n 1, []), (.iload_n 2, []), (.ineg, []), (.iload_n 3, []), (.invokevirtual 405, [272, 4, 312, 0, 0, 12])]),
  (47, 0, [(.ireturn, [0])])]
theorem kX12_back_ok : pm_ck 275 kX12_back = true := by decide +kernel
def kX12_pence : List pm_Bl := [
  (0, 0, [(.aload_n 0, []), (.getfield 408, [12, 72, 1, 197]), (.lreturn, [])])]
theorem kX12_pence_ok : pm_ck 276 kX12_pence = true := by decide +kernel
def kX12_facesOf : List pm_Bl := [
  (0, 0, [(.aload_n 0, []), (.getfield 44, [12, 25, 3, 150]), (.aload_n 0, []), (.getfield 92, [12, 43, 3, 168]), (.iload_n 1, []), (.iaload, []), (.iaload, []), (.iload_n 2, []), (.if_icmp .ne 7, [1]), (.iconst 1, []), (.goto 4, [2])]),
  (19, 2, [(.iconst 0, [])]),
  (20, 0, [(.aload_n 0, []), (.getfield 44, [12, 25, 3, 150]), (.aload_n 0, []), (.getfield 95, [12, 44, 3, 169]), (.iload_n 1, []), (.iaload, []), (.iaload, []), (.iload_n 2, []), (.if_icmp .ne 7, [3]), (.iconst 1, []), (.goto 4, [4])]),
  (39, 4, [(.iconst 0, [])]),
  (40, 0, [(.iadd, []), (.ireturn, [0])])]
theorem kX12_facesOf_ok : pm_ck 277 kX12_facesOf = true := by decide +kernel
def kX12_owe : List pm_Bl := [
  (0, 1, [(.iload_n 1, []), (.invokestatic 270, [224, 1, 260]), (.ifCond .eq 29, [1]), (.iload_n 2, []), (.invokestatic 387, [269, 1, 305]), (.ifCond .eq 22, [1]), (.iload_n 3, []), (.invokestatic 244, [213, 1, 253]), (.ifCond .eq 15, [1]), (.iload 4, []), (.iload_n 3, []), (.sipush 999, []), (.invokestatic 183, [188, 3, 229]), (.ifCond .ne 5, [2])]),
  (33, 0, [(.iconst (-1), []), (.ireturn, [0])]),
  (35, 3, [(.lconst 0, []), (.lstore 5, []), (.iconst 0, []), (.istore 7, [])]),
  (41, 4, [(.iload 7, []), (.aload_n 0, []), (.getfield 396, [12, 67, 0, 192]), (.if_icmp .ge 86, [5]), (.aload_n 0, []), (.getfield 151, [12, 70, 3, 195]), (.iload 7, []), (.iaload, []), (.iload_n 2, []), (.if_icmp .ne 69, [4]), (.aload_n 0, []), (.getfield 154, [12, 71, 3, 196]), (.iload 7, []), (.iaload, []), (.iload_n 3, []), (.iload 4, []), (.invokestatic 183, [188, 3, 229]), (.ifCond .eq 53, [4]), (.lload 5, []), (.aload_n 0, []), (.getfield 148, [12, 69, 3, 194]), (.iload 7, []), (.iaload, []), (.i2l, []), (.aload_n 0, []), (.aload_n 0, []), (.getfield 145, [12, 68, 3, 193]), (.iload 7, []), (.iaload, []), (.iload_n 1, []), (.invokevirtual 411, [277, 3, 316, 0, 0, 12]), (.i2l, []), (.lmul, []), (.aload_n 0, []), (.iconst 2, []), (.iload_n 2, []), (.iconst 0, []), (.aload_n 0, []), (.getfield 154, [12, 71, 3, 196]), (.iload 7, []), (.iaload, []), (.aload_n 0, []), (.getfield 154, [12, 71, 3, 196]), (.iload 7, []), (.iaload, []), (.invokevirtual 263, [217, 6, 256, 0, 0, 12]), (.i2l, []), (.lmul, []), (.ladd, []), (.lstore 5, [])]),
  (127, 0, [(.iinc 7 1, []), (.goto (-89), [3])]),
  (133, 0, [(.aload_n 0, []), (.lload 5, []), (.putfield 408, [12, 72, 1, 197]), (.iconst 1, []), (.ireturn, [0])])]
theorem kX12_owe_ok : pm_ck 278 kX12_owe = true := by decide +kernel
def kX12_share : List pm_Bl := [
  (0, 0, [(.iload_n 1, []), (.invokestatic 270, [224, 1, 260]), (.ifCond .ne 5, [1]), (.iconst (-1), []), (.ireturn, [0])]),
  (9, 2, [(.lconst 0, []), (.lstore_n 2, []), (.lconst 0, []), (.lstore 4, []), (.iconst 0, []), (.istore 6, [])]),
  (17, 0, [(.iload 6, []), (.aload_n 0, []), (.getfield 396, [12, 67, 0, 192]), (.if_icmp .ge 76, [8]), (.aload_n 0, []), (.aload_n 0, []), (.getfield 145, [12, 68, 3, 193]), (.iload 6, []), (.iaload, []), (.iload_n 1, []), (.invokevirtual 411, [277, 3, 316, 0, 0, 12]), (.ifCond .le 55, [7]), (.lload_n 2, []), (.aload_n 0, []), (.getfield 148, [12, 69, 3, 194]), (.iload 6, []), (.iaload, []), (.ifCond .le 14, [3]), (.aload_n 0, []), (.getfield 148, [12, 69, 3, 194]), (.iload 6, []), (.iaload, []), (.i2l, []), (.goto 4, [4])]),
  (63, 4, [(.lconst 0, [])]),
  (64, 0, [(.ladd, []), (.lstore_n 2, []), (.lload 4, []), (.aload_n 0, []), (.getfield 148, [12, 69, 3, 194]), (.iload 6, []), (.iaload, []), (.ifCond .ge 14, [5]), (.aload_n 0, []), (.getfield 148, [12, 69, 3, 194]), (.iload 6, []), (.iaload, []), (.i2l, []), (.goto 4, [6])]),
  (89, 6, [(.lconst 0, [])]),
  (90, 7, [(.lsub, []), (.lstore 4, [])]),
  (93, 0, [(.iinc 6 1, []), (.goto (-79), [2])]),
  (99, 0, [(.lload_n 2, []), (.lconst 0, []), (.lcmp, []), (.ifCond .ne 11, [9]), (.aload_n 0, []), (.iconst 4, []), (.invokevirtual 197, [189, 2, 235, 0, 0, 12]), (.goto 11, [10])]),
  (113, 10, [(.aload_n 0, []), (.lload 4, []), (.lload_n 2, []), (.iconst 1, []), (.invokevirtual 414, [194, 4, 318, 0, 0, 12])]),
  (121, 0, [(.ireturn, [0])])]
theorem kX12_share_ok : pm_ck 279 kX12_share = true := by decide +kernel
def kX12_order : List pm_Bl := [
  (0, 1, [(.iload_n 1, []), (.iconst 1, []), (.ldc_w 418, [5]), (.invokestatic 183, [188, 3, 229]), (.ifCond .eq 10, [1]), (.iload_n 2, []), (.invokestatic 244, [213, 1, 253]), (.ifCond .ne 5, [2])]),
  (18, 0, [(.iconst (-1), []), (.ireturn, [0])]),
  (20, 0, [(.aload_n 0, []), (.getfield 419, [12, 73, 0, 198]), (.bipush 9, []), (.if_icmp .ne 6, [3]), (.bipush (-2), []), (.ireturn, [0])]),
  (32, 0, [(.aload_n 0, []), (.getfield 157, [12, 74, 3, 199]), (.aload_n 0, []), (.getfield 419, [12, 73, 0, 198]), (.iload_n 1, []), (.iastore, []), (.aload_n 0, []), (.getfield 160, [12, 75, 3, 200]), (.aload_n 0, []), (.getfield 419, [12, 73, 0, 198]), (.iload_n 2, []), (.iastore, []), (.aload_n 0, []), (.dup, []), (.getfield 419, [12, 73, 0, 198]), (.iconst 1, []), (.iadd, []), (.putfield 419, [12, 73, 0, 198]), (.aload_n 0, []), (.getfield 419, [12, 73, 0, 198]), (.iconst 1, []), (.isub, []), (.ireturn, [0])])]
theorem kX12_order_ok : pm_ck 280 kX12_order = true := by decide +kernel
def kX12_meetsAll : List pm_Bl := [
  (0, 1, [(.iconst 1, []), (.istore_n 3, []), (.iconst 0, []), (.istore 4, [])]),
  (5, 2, [(.iload 4, []), (.aload_n 0, []), (.getfield 419, [12, 73, 0, 198]), (.if_icmp .ge 120, [9]), (.iload_n 3, []), (.ifCond .eq 116, [9]), (.iload_n 1, []), (.iload 4, []), (.ishr, []), (.iconst 1, []), (.iand, []), (.iconst 1, []), (.if_icmp .ne 100, [8]), (.lconst 0, []), (.lstore 5, []), (.iconst 0, []), (.istore 7, [])]),
  (34, 0, [(.iload 7, []), (.aload_n 0, []), (.getfield 419, [12, 73, 0, 198]), (.if_icmp .ge 59, [5]), (.lload 5, []), (.iload_n 1, []), (.iload 7, []), (.ishr, []), (.iconst 1, []), (.iand, []), (.iconst 1, []), (.if_icmp .ne 37, [3]), (.aload_n 0, []), (.getfield 160, [12, 75, 3, 200]), (.iload 7, []), (.iaload, []), (.aload_n 0, []), (.getfield 160, [12, 75, 3, 200]), (.iload 4, []), (.iaload, []), (.if_icmp .gt 20, [3]), (.aload_n 0, []), (.getfield 157, [12, 74, 3, 199]), (.iload 7, []), (.iaload, []), (.iload_n 2, []), (.iadd, []), (.iconst 1, []), (.isub, []), (.iload_n 2, []), (.idiv, []), (.i2l, []), (.goto 4, [4])]),
  (89, 4, [(.lconst 0, [])]),
  (90, 0, [(.ladd, []), (.lstore 5, []), (.iinc 7 1, []), (.goto (-62), [2])]),
  (99, 0, [(.aload_n 0, []), (.getfield 241, [12, 15, 0, 140]), (.i2l, []), (.lload 5, []), (.ladd, []), (.aload_n 0, []), (.getfield 160, [12, 75, 3, 200]), (.iload 4, []), (.iaload, []), (.i2l, []), (.lcmp, []), (.ifCond .gt 7, [6]), (.iconst 1, []), (.goto 4, [7])]),
  (123, 7, [(.iconst 0, [])]),
  (124, 8, [(.istore_n 3, [])]),
  (125, 0, [(.iinc 4 1, []), (.goto (-123), [1])]),
  (131, 0, [(.iload_n 3, []), (.ireturn, [1])])]
theorem kX12_meetsAll_ok : pm_ck 281 kX12_meetsAll = true := by decide +kernel
def kX12_canMeet : List pm_Bl := [
  (0, 0, [(.iload_n 2, []), (.iconst 1, []), (.if_icmp .ne 10, [1]), (.aload_n 0, []), (.getfield 163, [12, 76, 3, 201]), (.iload_n 1, []), (.baload, []), (.ireturn, [1])]),
  (12, 0, [(.iload_n 2, []), (.iconst 2, []), (.if_icmp .ne 10, [2]), (.aload_n 0, []), (.getfield 166, [12, 77, 3, 202]), (.iload_n 1, []), (.baload, []), (.ireturn, [1])]),
  (24, 3, [(.iconst 0, []), (.istore_n 3, []), (.iload_n 1, []), (.istore 4, [])]),
  (29, 0, [(.iload 4, []), (.ifCond .lt 57, [8]), (.iload_n 3, []), (.ifCond .ne 53, [8]), (.aload_n 0, []), (.getfield 163, [12, 76, 3, 201]), (.iload 4, []), (.baload, []), (.ifCond .eq 21, [4]), (.aload_n 0, []), (.getfield 166, [12, 77, 3, 202]), (.iload_n 1, []), (.iload 4, []), (.iconst (-1), []), (.ixor, []), (.iand, []), (.baload, []), (.ifCond .eq 7, [4]), (.iconst 1, []), (.goto 4, [5])]),
  (66, 5, [(.iconst 0, [])]),
  (67, 0, [(.istore_n 3, []), (.iload 4, []), (.ifCond .ne 7, [6]), (.iconst (-1), []), (.goto 9, [7])]),
  (77, 7, [(.iload 4, []), (.iconst 1, []), (.isub, []), (.iload_n 1, []), (.iand, [])]),
  (83, 0, [(.istore 4, []), (.goto (-56), [3])]),
  (88, 0, [(.iload_n 3, []), (.ireturn, [1])])]
theorem kX12_canMeet_ok : pm_ck 282 kX12_canMeet = true := by decide +kernel
def kX12_plan : List pm_Bl := [
  (0, 1, [(.iload_n 1, []), (.iconst 1, []), (.iconst 3, []), (.invokestatic 183, [188, 3, 229]), (.ifCond .eq 14, [1]), (.iload_n 2, []), (.iconst 1, []), (.sipush 10000, []), (.invokestatic 183, [188, 3, 229]), (.ifCond .ne 5, [2])]),
  (20, 0, [(.iconst (-1), []), (.ireturn, [0])]),
  (22, 3, [(.iconst 1, []), (.aload_n 0, []), (.getfield 419, [12, 73, 0, 198]), (.ishl, []), (.istore_n 3, []), (.iconst 0, []), (.istore 4, [])]),
  (32, 0, [(.iload 4, []), (.iload_n 3, []), (.if_icmp .ge 23, [4]), (.aload_n 0, []), (.getfield 163, [12, 76, 3, 201]), (.iload 4, []), (.aload_n 0, []), (.iload 4, []), (.iload_n 2, []), (.invokevirtual 422, [281, 3, 321, 0, 0, 12]), (.bastore, []), (.iinc 4 1, []), (.goto (-23), [3])]),
  (58, 5, [(.iconst 0, []), (.istore 4, [])]),
  (61, 6, [(.iload 4, []), (.iload_n 3, []), (.if_icmp .ge 94, [12]), (.aload_n 0, []), (.getfield 166, [12, 77, 3, 202]), (.iload 4, []), (.iconst 0, []), (.bastore, []), (.iload 4, []), (.istore 5, [])]),
  (79, 0, [(.iload 5, []), (.ifCond .lt 71, [11]), (.aload_n 0, []), (.getfield 166, [12, 77, 3, 202]), (.iload 4, []), (.baload, []), (.ifCond .ne 61, [11]), (.aload_n 0, []), (.getfield 166, [12, 77, 3, 202]), (.iload 4, []), (.aload_n 0, []), (.getfield 163, [12, 76, 3, 201]), (.iload 5, []), (.baload, []), (.ifCond .eq 22, [7]), (.aload_n 0, []), (.getfield 163, [12, 76, 3, 201]), (.iload 4, []), (.iload 5, []), (.iconst (-1), []), (.ixor, []), (.iand, []), (.baload, []), (.ifCond .eq 7, [7]), (.iconst 1, []), (.goto 4, [8])]),
  (129, 8, [(.iconst 0, [])]),
  (130, 0, [(.bastore, []), (.iload 5, []), (.ifCond .ne 7, [9]), (.iconst (-1), []), (.goto 10, [10])]),
  (140, 10, [(.iload 5, []), (.iconst 1, []), (.isub, []), (.iload 4, []), (.iand, [])]),
  (147, 0, [(.istore 5, []), (.goto (-70), [6])]),
  (152, 0, [(.iinc 4 1, []), (.goto (-94), [5])]),
  (158, 13, [(.iconst 0, []), (.istore 4, []), (.lconst 0, []), (.lstore 5, []), (.iconst 0, []), (.istore 7, [])]),
  (167, 14, [(.iload 7, []), (.iload_n 3, []), (.if_icmp .ge 84, [19]), (.lconst 0, []), (.lstore 8, []), (.iconst 0, []), (.istore 10, [])]),
  (179, 0, [(.iload 10, []), (.aload_n 0, []), (.getfield 419, [12, 73, 0, 198]), (.if_icmp .ge 37, [17]), (.lload 8, []), (.iload 7, []), (.iload 10, []), (.ishr, []), (.iconst 1, []), (.iand, []), (.iconst 1, []), (.if_icmp .ne 14, [15]), (.aload_n 0, []), (.getfield 157, [12, 74, 3, 199]), (.iload 10, []), (.iaload, []), (.i2l, []), (.goto 4, [16])]),
  (212, 16, [(.lconst 0, [])]),
  (213, 0, [(.ladd, []), (.lstore 8, []), (.iinc 10 1, []), (.goto (-40), [14])]),
  (222, 18, [(.lload 8, []), (.lload 5, []), (.lcmp, []), (.ifCond .le 21, [18]), (.aload_n 0, []), (.iload 7, []), (.iload_n 1, []), (.invokevirtual 425, [282, 3, 322, 0, 0, 12]), (.ifCond .eq 11, [18]), (.iload 7, []), (.istore 4, []), (.lload 8, []), (.lstore 5, [])]),
  (248, 0, [(.iinc 7 1, []), (.goto (-84), [13])]),
  (254, 20, [(.aload_n 0, []), (.iload 4, []), (.iload_n 1, []), (.invokevirtual 428, [284, 3, 323, 0, 0, 12]), (.iconst 0, []), (.istore 7, []), (.iconst 0, []), (.istore 8, [])]),
  (267, 0, [(.iload 8, []), (.aload_n 0, []), (.getfield 419, [12, 73, 0, 198]), (.if_icmp .ge 21, [21]), (.iload 7, []), (.iload 4, []), (.iload 8, []), (.ishr, []), (.iconst 1, []), (.iand, []), (.iadd, []), (.istore 7, []), (.iinc 8 1, []), (.goto (-24), [20])]),
  (294, 0, [(.aload_n 0, []), (.iload 4, []), (.iload 7, []), (.invokevirtual 205, [192, 3, 238, 0, 0, 12]), (.ireturn, [0])])]
theorem kX12_plan_ok : pm_ck 283 kX12_plan = true := by decide +kernel
def kX12_layPresses : List pm_Bl := [
  (0, 1, [(.iconst 0, []), (.istore_n 3, [])]),
  (2, 0, [(.iload_n 3, []), (.bipush 9, []), (.if_icmp .ge 17, [2]), (.aload_n 0, []), (.getfield 169, [12, 78, 3, 203]), (.iload_n 3, []), (.bipush (-9), []), (.iastore, []), (.iinc 3 1, []), (.goto (-17), [1])]),
  (22, 3, [(.iconst 0, []), (.istore_n 3, [])]),
  (24, 0, [(.iload_n 3, []), (.iconst 3, []), (.if_icmp .ge 16, [4]), (.aload_n 0, []), (.getfield 172, [12, 79, 3, 204]), (.iload_n 3, []), (.iconst 0, []), (.iastore, []), (.iinc 3 1, []), (.goto (-15), [3])]),
  (42, 0, [(.aload_n 0, []), (.iconst 0, []), (.iload_n 1, []), (.iload_n 2, []), (.invokevirtual 432, [285, 4, 324, 0, 0, 12]), (.pop, []), (.return_, [])])]
theorem kX12_layPresses_ok : pm_ck 284 kX12_layPresses = true := by decide +kernel
def kX12_settle : List pm_Bl := [
  (0, 0, [(.iload_n 1, []), (.aload_n 0, []), (.getfield 419, [12, 73, 0, 198]), (.if_icmp .ne 51, [3]), (.aload_n 0, []), (.getfield 163, [12, 76, 3, 201]), (.aload_n 0, []), (.getfield 172, [12, 79, 3, 204]), (.iconst 0, []), (.iaload, []), (.baload, []), (.ifCond .eq 35, [1]), (.aload_n 0, []), (.getfield 163, [12, 76, 3, 201]), (.aload_n 0, []), (.getfield 172, [12, 79, 3, 204]), (.iconst 1, []), (.iaload, []), (.baload, []), (.ifCond .eq 21, [1]), (.aload_n 0, []), (.getfield 163, [12, 76, 3, 201]), (.aload_n 0, []), (.getfield 172, [12, 79, 3, 204]), (.iconst 2, []), (.iaload, []), (.baload, []), (.ifCond .eq 7, [1]), (.iconst 1, []), (.goto 4, [2])]),
  (54, 2, [(.iconst 0, [])]),
  (55, 0, [(.ireturn, [1])]),
  (56, 0, [(.iload_n 2, []), (.iload_n 1, []), (.ishr, []), (.iconst 1, []), (.iand, []), (.ifCond .ne 13, [4]), (.aload_n 0, []), (.iload_n 1, []), (.iconst 1, []), (.iadd, []), (.iload_n 2, []), (.iload_n 3, []), (.invokevirtual 432, [285, 4, 324, 0, 0, 12]), (.ireturn, [1])]),
  (74, 5, [(.iconst 0, []), (.istore 4, [])]),
  (77, 0, [(.iload 4, []), (.iload_n 3, []), (.if_icmp .ge 74, [7]), (.aload_n 0, []), (.getfield 172, [12, 79, 3, 204]), (.iload 4, []), (.dup2, []), (.iaload, []), (.iconst 1, []), (.iload_n 1, []), (.ishl, []), (.ior, []), (.iastore, []), (.aload_n 0, []), (.getfield 169, [12, 78, 3, 203]), (.iload_n 1, []), (.iload 4, []), (.iastore, []), (.aload_n 0, []), (.getfield 163, [12, 76, 3, 201]), (.aload_n 0, []), (.getfield 172, [12, 79, 3, 204]), (.iload 4, []), (.iaload, []), (.baload, []), (.ifCond .eq 17, [6]), (.aload_n 0, []), (.iload_n 1, []), (.iconst 1, []), (.iadd, []), (.iload_n 2, []), (.iload_n 3, []), (.invokevirtual 432, [285, 4, 324, 0, 0, 12]), (.ifCond .eq 5, [6]), (.iconst 1, []), (.ireturn, [1])]),
  (133, 0, [(.aload_n 0, []), (.getfield 172, [12, 79, 3, 204]), (.iload 4, []), (.dup2, []), (.iaload, []), (.iconst 1, []), (.iload_n 1, []), (.ishl, []), (.iconst (-1), []), (.ixor, []), (.iand, []), (.iastore, []), (.iinc 4 1, []), (.goto (-74), [5])]),
  (154, 0, [(.aload_n 0, []), (.getfield 169, [12, 78, 3, 203]), (.iload_n 1, []), (.bipush (-9), []), (.iastore, []), (.iconst 0, []), (.ireturn, [1])])]
theorem kX12_settle_ok : pm_ck 285 kX12_settle = true := by decide +kernel
def kX12_planned : List pm_Bl := [
  (0, 0, [(.iload_n 1, []), (.iconst 0, []), (.aload_n 0, []), (.getfield 419, [12, 73, 0, 198]), (.iconst 1, []), (.isub, []), (.invokestatic 183, [188, 3, 229]), (.ifCond .eq 12, [1]), (.aload_n 0, []), (.getfield 169, [12, 78, 3, 203]), (.iload_n 1, []), (.iaload, []), (.goto 4, [2])]),
  (23, 2, [(.iconst (-1), [])]),
  (24, 0, [(.ireturn, [0])])]
theorem kX12_planned_ok : pm_ck 286 kX12_planned = true := by decide +kernel
def kX12_guessOf : List pm_Bl := [
  (0, 1, [(.iconst 0, []), (.istore_n 2, []), (.iconst 0, []), (.istore_n 3, []), (.iconst 0, []), (.istore 4, [])]),
  (7, 0, [(.iload 4, []), (.aload_n 0, []), (.getfield 396, [12, 67, 0, 192]), (.if_icmp .ge 87, [7]), (.aload_n 0, []), (.aload_n 0, []), (.getfield 145, [12, 68, 3, 193]), (.iload 4, []), (.iaload, []), (.iload_n 1, []), (.invokevirtual 411, [277, 3, 316, 0, 0, 12]), (.ifCond .le 66, [6]), (.aload_n 0, []), (.getfield 241, [12, 15, 0, 140]), (.aload_n 0, []), (.getfield 154, [12, 71, 3, 196]), (.iload 4, []), (.iaload, []), (.isub, []), (.istore 5, []), (.iload_n 2, []), (.iload 5, []), (.bipush 7, []), (.if_icmp .ge 13, [2]), (.aload_n 0, []), (.getfield 148, [12, 69, 3, 194]), (.iload 4, []), (.iaload, []), (.goto 4, [3])]),
  (63, 3, [(.iconst 0, [])]),
  (64, 0, [(.iadd, []), (.istore_n 2, []), (.iload_n 3, []), (.iload 5, []), (.bipush 7, []), (.if_icmp .lt 20, [4]), (.iload 5, []), (.bipush 14, []), (.if_icmp .ge 13, [4]), (.aload_n 0, []), (.getfield 148, [12, 69, 3, 194]), (.iload 4, []), (.iaload, []), (.goto 4, [5])]),
  (91, 5, [(.iconst 0, [])]),
  (92, 6, [(.iadd, []), (.istore_n 3, [])]),
  (94, 0, [(.iinc 4 1, []), (.goto (-90), [1])]),
  (100, 0, [(.iload_n 2, []), (.iload_n 2, []), (.iload_n 3, []), (.isub, []), (.iconst 2, []), (.idiv, []), (.iadd, []), (.istore 4, []), (.iload 4, []), (.ifCond .ge 7, [8]), (.iconst 0, []), (.goto 5, [9])]),
  (118, 9, [(.iload 4, [])]),
  (120, 0, [(.ireturn, [0])])]
theorem kX12_guessOf_ok : pm_ck 287 kX12_guessOf = true := by decide +kernel
def kX12_guess : List pm_Bl := [
  (0, 0, [(.iload_n 1, []), (.invokestatic 270, [224, 1, 260]), (.ifCond .eq 11, [1]), (.aload_n 0, []), (.iload_n 1, []), (.invokevirtual 435, [287, 2, 327, 0, 0, 12]), (.goto 4, [2])]),
  (15, 2, [(.iconst (-1), [])]),
  (16, 0, [(.ireturn, [0])])]
theorem kX12_guess_ok : pm_ck 288 kX12_guess = true := by decide +kernel
def kX12_cost : List pm_Bl := [
  (0, 1, [(.iload_n 1, []), (.invokestatic 270, [224, 1, 260]), (.ifCond .eq 37, [1]), (.iload_n 2, []), (.iconst 0, []), (.ldc_w 418, [5]), (.invokestatic 183, [188, 3, 229]), (.ifCond .eq 26, [1]), (.iload_n 3, []), (.iconst 0, []), (.sipush 1000, []), (.invokestatic 183, [188, 3, 229]), (.ifCond .eq 15, [1]), (.iload 4, []), (.iconst 0, []), (.sipush 1000, []), (.invokestatic 183, [188, 3, 229]), (.ifCond .ne 5, [2])]),
  (41, 0, [(.iconst (-1), []), (.ireturn, [0])]),
  (43, 0, [(.aload_n 0, []), (.iload_n 1, []), (.invokevirtual 435, [287, 2, 327, 0, 0, 12]), (.i2l, []), (.iload_n 2, []), (.i2l, []), (.lsub, []), (.lstore 5, []), (.aload_n 0, []), (.lload 5, []), (.lconst 0, []), (.lcmp, []), (.ifCond .le 11, [3]), (.lload 5, []), (.iload_n 3, []), (.i2l, []), (.lmul, []), (.goto 10, [4])]),
  (70, 4, [(.lload 5, []), (.lneg, []), (.iload 4, []), (.i2l, []), (.lmul, [])]),
  (77, 0, [(.putfield 408, [12, 72, 1, 197]), (.lload 5, []), (.lconst 0, []), (.lcmp, []), (.ifCond .le 7, [5]), (.iconst 1, []), (.goto 15, [7])]),
  (91, 0, [(.lload 5, []), (.lconst 0, []), (.lcmp, []), (.ifCond .ge 7, [6]), (.iconst 2, []), (.goto 4, [7])]),
  (102, 7, [(.iconst 0, [])]),
  (103, 0, [(.ireturn, [0])])]
theorem kX12_cost_ok : pm_ck 289 kX12_cost = true := by decide +kernel
def kX12_counted : List pm_Bl := [
  (0, 0, [(.iconst 0, []), (.istore_n 2, []), (.iload_n 1, []), (.tableswitch 161 0 9 #[53, 58, 63, 98, 103, 108, 113, 118, 123, 128], [19, 1, 2, 3, 8, 9, 10, 11, 12, 13, 14])]),
  (56, 0, [(.aload_n 0, []), (.getfield 241, [12, 15, 0, 140]), (.ireturn, [0])]),
  (61, 0, [(.aload_n 0, []), (.getfield 267, [12, 23, 0, 148]), (.ireturn, [0])]),
  (66, 4, [(.iconst 0, []), (.istore_n 3, [])]),
  (68, 0, [(.iload_n 3, []), (.aload_n 0, []), (.getfield 267, [12, 23, 0, 148]), (.if_icmp .ge 26, [7]), (.iload_n 2, []), (.aload_n 0, []), (.getfield 56, [12, 29, 3, 154]), (.iload_n 3, []), (.iaload, []), (.ifCond .ne 7, [5]), (.iconst 1, []), (.goto 4, [6])]),
  (90, 6, [(.iconst 0, [])]),
  (91, 0, [(.iadd, []), (.istore_n 2, []), (.iinc 3 1, []), (.goto (-28), [4])]),
  (99, 0, [(.iload_n 2, []), (.ireturn, [0])]),
  (101, 0, [(.aload_n 0, []), (.getfield 298, [12, 38, 0, 163]), (.ireturn, [0])]),
  (106, 0, [(.aload_n 0, []), (.getfield 247, [12, 16, 0, 141]), (.ireturn, [0])]),
  (111, 0, [(.aload_n 0, []), (.getfield 327, [12, 47, 0, 172]), (.ireturn, [0])]),
  (116, 0, [(.aload_n 0, []), (.getfield 396, [12, 67, 0, 192]), (.ireturn, [0])]),
  (121, 0, [(.aload_n 0, []), (.getfield 419, [12, 73, 0, 198]), (.ireturn, [0])]),
  (126, 0, [(.aload_n 0, []), (.getfield 292, [12, 30, 0, 155]), (.ireturn, [0])]),
  (131, 15, [(.iconst 0, []), (.istore_n 3, [])]),
  (133, 0, [(.iload_n 3, []), (.bipush 6, []), (.if_icmp .ge 26, [18]), (.iload_n 2, []), (.aload_n 0, []), (.getfield 13, [12, 5, 3, 130]), (.iload_n 3, []), (.iaload, []), (.ifCond .ge 7, [16]), (.iconst 0, []), (.goto 4, [17])]),
  (153, 17, [(.iconst 1, [])]),
  (154, 0, [(.iadd, []), (.istore_n 2, []), (.iinc 3 1, []), (.goto (-26), [15])]),
  (162, 0, [(.iload_n 2, []), (.ireturn, [0])]),
  (164, 20, [(.iconst 0, []), (.istore_n 3, [])]),
  (166, 0, [(.iload_n 3, []), (.iconst 4, []), (.if_icmp .ge 26, [23]), (.iload_n 2, []), (.aload_n 0, []), (.getfield 22, [12, 8, 3, 133]), (.iload_n 3, []), (.iaload, []), (.ifCond .ge 7, [21]), (.iconst 0, []), (.goto 4, [22])]),
  (185, 22, [(.iconst 1, [])]),
  (186, 0, [(.iadd, []), (.istore_n 2, []), (.iinc 3 1, []), (.goto (-25), [20])]),
  (194, 0, [(.iload_n 2, []), (.ireturn, [0])])]
theorem kX12_counted_ok : pm_ck 290 kX12_counted = true := by decide +kernel
def kX12_count : List pm_Bl := [
  (0, 0, [(.iload_n 1, []), (.iconst 0, []), (.bipush 10, []), (.invokestatic 183, [188, 3, 229]), (.ifCond .eq 11, [1]), (.aload_n 0, []), (.iload_n 1, []), (.invokevirtual 438, [290, 2, 330, 0, 0, 12]), (.goto 4, [2])]),
  (18, 2, [(.iconst (-1), [])]),
  (19, 0, [(.ireturn, [0])])]
theorem kX12_count_ok : pm_ck 291 kX12_count = true := by decide +kernel
def kX12_tell : List pm_Bl := [
  (0, 0, [(.aload_n 0, []), (.ldc2_w 441, [21]), (.aload_n 0, []), (.getfield 443, [12, 80, 1, 205]), (.lmul, []), (.lload_n 1, []), (.ladd, []), (.putfield 443, [12, 80, 1, 205]), (.return_, [])])]
theorem kX12_tell_ok : pm_ck 292 kX12_tell = true := by decide +kernel
def kX12_tellWorks : List pm_Bl := [
  (0, 1, [(.iconst 0, []), (.istore_n 1, [])]),
  (2, 2, [(.iload_n 1, []), (.aload_n 0, []), (.getfield 267, [12, 23, 0, 148]), (.if_icmp .ge 34, [4]), (.iconst 0, []), (.istore_n 2, [])]),
  (12, 0, [(.iload_n 2, []), (.bipush 7, []), (.if_icmp .ge 20, [3]), (.aload_n 0, []), (.aload_n 0, []), (.iload_n 1, []), (.iload_n 2, []), (.invokevirtual 295, [231, 3, 270, 0, 0, 12]), (.i2l, []), (.invokevirtual 446, [292, 2, 332, 0, 0, 12]), (.iinc 2 1, []), (.goto (-20), [2])]),
  (35, 0, [(.iinc 1 1, []), (.goto (-36), [1])]),
  (41, 5, [(.iconst 0, []), (.istore_n 1, [])]),
  (43, 0, [(.iload_n 1, []), (.bipush 6, []), (.if_icmp .ge 53, [6]), (.aload_n 0, []), (.aload_n 0, []), (.getfield 68, [12, 34, 3, 159]), (.iload_n 1, []), (.iaload, []), (.i2l, []), (.invokevirtual 446, [292, 2, 332, 0, 0, 12]), (.aload_n 0, []), (.aload_n 0, []), (.getfield 71, [12, 35, 3, 160]), (.iload_n 1, []), (.iaload, []), (.i2l, []), (.invokevirtual 446, [292, 2, 332, 0, 0, 12]), (.aload_n 0, []), (.aload_n 0, []), (.getfield 74, [12, 36, 3, 161]), (.iload_n 1, []), (.iaload, []), (.i2l, []), (.invokevirtual 446, [292, 2, 332, 0, 0, 12]), (.aload_n 0, []), (.aload_n 0, []), (.getfield 77, [12, 37, 3, 162]), (.iload_n 1, []), (.iaload, []), (.i2l, []), (.invokevirtual 446, [292, 2, 332, 0, 0, 12]), (.iinc 1 1, []), (.goto (-53), [5])]),
  (99, 7, [(.iconst 0, []), (.istore_n 1, [])]),
  (101, 8, [(.iload_n 1, []), (.aload_n 0, []), (.getfield 298, [12, 38, 0, 163]), (.if_icmp .ge 34, [10]), (.iconst 0, []), (.istore_n 2, [])]),
  (111, 0, [(.iload_n 2, []), (.bipush 7, []), (.if_icmp .ge 20, [9]), (.aload_n 0, []), (.aload_n 0, []), (.iload_n 1, []), (.iload_n 2, []), (.invokevirtual 324, [247, 3, 286, 0, 0, 12]), (.i2l, []), (.invokevirtual 446, [292, 2, 332, 0, 0, 12]), (.iinc 2 1, []), (.goto (-20), [8])]),
  (134, 0, [(.iinc 1 1, []), (.goto (-36), [7])]),
  (140, 11, [(.iconst 0, []), (.istore_n 1, [])]),
  (142, 0, [(.iload_n 1, []), (.aload_n 0, []), (.getfield 247, [12, 16, 0, 141]), (.if_icmp .ge 31, [12]), (.aload_n 0, []), (.aload_n 0, []), (.getfield 29, [12, 17, 3, 142]), (.iload_n 1, []), (.iaload, []), (.i2l, []), (.invokevirtual 446, [292, 2, 332, 0, 0, 12]), (.aload_n 0, []), (.aload_n 0, []), (.getfield 32, [12, 18, 3, 143]), (.iload_n 1, []), (.iaload, []), (.i2l, []), (.invokevirtual 446, [292, 2, 332, 0, 0, 12]), (.iinc 1 1, []), (.goto (-33), [11])]),
  (178, 13, [(.aload_n 0, []), (.aload_n 0, []), (.iconst 1, []), (.iconst 0, []), (.iconst 0, []), (.invokevirtual 289, [221, 4, 267, 0, 0, 12]), (.i2l, []), (.invokevirtual 446, [292, 2, 332, 0, 0, 12]), (.iconst 0, []), (.istore_n 1, [])]),
  (192, 0, [(.iload_n 1, []), (.bipush 8, []), (.if_icmp .ge 33, [14]), (.aload_n 0, []), (.aload_n 0, []), (.iconst 2, []), (.iload_n 1, []), (.iconst 0, []), (.invokevirtual 289, [221, 4, 267, 0, 0, 12]), (.i2l, []), (.invokevirtual 446, [292, 2, 332, 0, 0, 12]), (.aload_n 0, []), (.aload_n 0, []), (.iconst 3, []), (.iload_n 1, []), (.iconst 0, []), (.invokevirtual 289, [221, 4, 267, 0, 0, 12]), (.i2l, []), (.invokevirtual 446, [292, 2, 332, 0, 0, 12]), (.iinc 1 1, []), (.goto (-33), [13])]),
  (228, 0, [(.return_, [])])]
theorem kX12_tellWorks_ok : pm_ck 293 kX12_tellWorks = true := by decide +kernel
def kX12_digest : List pm_Bl := [
  (0, 1, [(.aload_n 0, []), (.ldc2_w 450, [20]), (.putfield 443, [12, 80, 1, 205]), (.iconst 0, []), (.istore_n 1, [])]),
  (9, 0, [(.iload_n 1, []), (.bipush 11, []), (.if_icmp .ge 19, [2]), (.aload_n 0, []), (.aload_n 0, []), (.iload_n 1, []), (.invokevirtual 438, [290, 2, 330, 0, 0, 12]), (.i2l, []), (.invokevirtual 446, [292, 2, 332, 0, 0, 12]), (.iinc 1 1, []), (.goto (-19), [1])]),
  (31, 3, [(.aload_n 0, []), (.invokevirtual 452, [293, 1, 333, 0, 0, 12]), (.iconst 0, []), (.istore_n 1, [])]),
  (37, 0, [(.iload_n 1, []), (.aload_n 0, []), (.getfield 327, [12, 47, 0, 172]), (.if_icmp .ge 60, [6]), (.aload_n 0, []), (.aload_n 0, []), (.getfield 104, [12, 48, 3, 173]), (.iload_n 1, []), (.iaload, []), (.i2l, []), (.invokevirtual 446, [292, 2, 332, 0, 0, 12]), (.aload_n 0, []), (.aload_n 0, []), (.getfield 107, [12, 49, 3, 174]), (.iload_n 1, []), (.iaload, []), (.i2l, []), (.invokevirtual 446, [292, 2, 332, 0, 0, 12]), (.aload_n 0, []), (.aload_n 0, []), (.getfield 110, [12, 50, 3, 175]), (.iload_n 1, []), (.iaload, []), (.i2l, []), (.invokevirtual 446, [292, 2, 332, 0, 0, 12]), (.aload_n 0, []), (.aload_n 0, []), (.getfield 113, [12, 51, 3, 176]), (.iload_n 1, []), (.baload, []), (.ifCond .eq 7, [4]), (.lconst 1, []), (.goto 4, [5])]),
  (92, 5, [(.lconst 0, [])]),
  (93, 0, [(.invokevirtual 446, [292, 2, 332, 0, 0, 12]), (.iinc 1 1, []), (.goto (-62), [3])]),
  (102, 7, [(.iconst 0, []), (.istore_n 1, [])]),
  (104, 0, [(.iload_n 1, []), (.aload_n 0, []), (.getfield 396, [12, 67, 0, 192]), (.if_icmp .ge 53, [8]), (.aload_n 0, []), (.aload_n 0, []), (.getfield 145, [12, 68, 3, 193]), (.iload_n 1, []), (.iaload, []), (.i2l, []), (.invokevirtual 446, [292, 2, 332, 0, 0, 12]), (.aload_n 0, []), (.aload_n 0, []), (.getfield 148, [12, 69, 3, 194]), (.iload_n 1, []), (.iaload, []), (.i2l, []), (.invokevirtual 446, [292, 2, 332, 0, 0, 12]), (.aload_n 0, []), (.aload_n 0, []), (.getfield 151, [12, 70, 3, 195]), (.iload_n 1, []), (.iaload, []), (.i2l, []), (.invokevirtual 446, [292, 2, 332, 0, 0, 12]), (.aload_n 0, []), (.aload_n 0, []), (.getfield 154, [12, 71, 3, 196]), (.iload_n 1, []), (.iaload, []), (.i2l, []), (.invokevirtual 446, [292, 2, 332, 0, 0, 12]), (.iinc 1 1, []), (.goto (-55), [7])]),
  (162, 9, [(.iconst 0, []), (.istore_n 1, [])]),
  (164, 0, [(.iload_n 1, []), (.aload_n 0, []), (.getfield 419, [12, 73, 0, 198]), (.if_icmp .ge 31, [10]), (.aload_n 0, []), (.aload_n 0, []), (.getfield 157, [12, 74, 3, 199]), (.iload_n 1, []), (.iaload, []), (.i2l, []), (.invokevirtual 446, [292, 2, 332, 0, 0, 12]), (.aload_n 0, []), (.aload_n 0, []), (.getfield 160, [12, 75, 3, 200]), (.iload_n 1, []), (.iaload, []), (.i2l, []), (.invokevirtual 446, [292, 2, 332, 0, 0, 12]), (.iinc 1 1, []), (.goto (-33), [9])]),
  (200, 11, [(.iconst 0, []), (.istore_n 1, [])]),
  (202, 12, [(.iload_n 1, []), (.bipush 6, []), (.if_icmp .ge 49, [14]), (.aload_n 0, []), (.aload_n 0, []), (.getfield 13, [12, 5, 3, 130]), (.iload_n 1, []), (.iaload, []), (.i2l, []), (.invokevirtual 446, [292, 2, 332, 0, 0, 12]), (.iconst 0, []), (.istore_n 2, [])]),
  (221, 0, [(.iload_n 2, []), (.aload_n 0, []), (.getfield 13, [12, 5, 3, 130]), (.iload_n 1, []), (.iaload, []), (.if_icmp .ge 20, [13]), (.aload_n 0, []), (.aload_n 0, []), (.iload_n 1, []), (.iload_n 2, []), (.invokevirtual 201, [198, 3, 237, 0, 0, 12]), (.i2l, []), (.invokevirtual 446, [292, 2, 332, 0, 0, 12]), (.iinc 2 1, []), (.goto (-24), [12])]),
  (248, 0, [(.iinc 1 1, []), (.goto (-49), [11])]),
  (254, 15, [(.iconst 0, []), (.istore_n 1, [])]),
  (256, 16, [(.iload_n 1, []), (.iconst 4, []), (.if_icmp .ge 49, [18]), (.aload_n 0, []), (.aload_n 0, []), (.getfield 22, [12, 8, 3, 133]), (.iload_n 1, []), (.iaload, []), (.i2l, []), (.invokevirtual 446, [292, 2, 332, 0, 0, 12]), (.iconst 0, []), (.istore_n 2, [])]),
  (274, 0, [(.iload_n 2, []), (.aload_n 0, []), (.getfield 22, [12, 8, 3, 133]), (.iload_n 1, []), (.iaload, []), (.if_icmp .ge 20, [17]), (.aload_n 0, []), (.aload_n 0, []), (.iload_n 1, []), (.iload_n 2, []), (.invokevirtual 211, [207, 3, 247, 0, 0, 12]), (.i2l, []), (.invokevirtual 446, [292, 2, 332, 0, 0, 12]), (.iinc 2 1, []), (.goto (-24), [16])]),
  (301, 0, [(.iinc 1 1, []), (.goto (-48), [15])]),
  (307, 0, [(.aload_n 0, []), (.getfield 443, [12, 80, 1, 205]), (.lreturn, [])])]
theorem kX12_digest_ok : pm_ck 294 kX12_digest = true := by decide +kernel
