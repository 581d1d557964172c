/-! ===== words of the tables ===== -/
theorem pm_wIn {w : Cond} {i : Nat} (h : lw_tbl[i]? = some w) (hg : goodWord w = true) : w ∈ pm_w := List.mem_filter.mpr ⟨List.mem_of_getElem? h, hg⟩
theorem pm_nIn {w : Cond} {i : Nat} (h : lw_tbl[i]? = some w) (hg : pm_isN w = true) : w ∈ pm_nest := List.mem_filter.mpr ⟨List.mem_of_getElem? h, hg⟩
theorem pm_fl_all : (pm_fl.all fun q => decide (lw_tbl[q.2.2.2.2]? = some (.fieldLink (pm_cn q.1) q.2.1 (pm_tf q.2.2.1 q.2.2.2.1).1 (pm_tf q.2.2.1 q.2.2.2.1).2.1 (pm_tf q.2.2.1 q.2.2.2.1).2.2.1))) = true := by decide +kernel
theorem pm_lk_all : (pm_lk.all fun q => decide (lw_tbl[q.2.2.2.2]? = some (if q.2.2.2.1 = 0 then .methodLink (pm_cn q.1) q.2.1 (pm_y q.2.2.1) else .methodLinkNest (pm_cn q.1) q.2.1 (pm_y q.2.2.1) RX11))) = true := by decide +kernel
theorem pm_kc_all : (pm_kc.all fun q => decide (lw_tbl[q.2.2.2]? = some (.constant (pm_cn q.1) q.2.1 q.2.2.1))) = true := by decide +kernel
theorem pm_kl_all : (pm_kl.all fun q => decide (lw_tbl[q.2.2.2]? = some (.constantLong (pm_cn q.1) q.2.1 q.2.2.1))) = true := by decide +kernel
theorem pm_nc_all : (pm_nc.all fun q => decide (lw_tbl[q.2.2.2]? = some (.classLink (pm_cn q.1) q.2.1 (pm_cn q.2.2.1)))) = true := by decide +kernel
theorem pm_oi_all : (pm_oi.all fun q => decide (lw_tbl[q.2.2]? = some (.methodLink (pm_cn q.1) q.2.1 objectInit))) = true := by decide +kernel
def pm_mok (f : Nat) : Bool := match pm_mh.getD f (0, 0, 0, 0) with
  | (_, h1, h2, h3) => decide ((pm_y f).cls = pm_cn (pm_ow f)) && decide (pm_ow f < 15) && decide ((parseMethodDescriptor (pm_y f).desc).map (fun d => d.parameters.length) = some (pm_na f)) && decide (pm_mx f ≤ 21) && decide (lw_tbl[h3]? = some (.initialized (pm_y f).cls)) &&
    (match pm_kn f with
      | 0 => decide (lw_tbl[h1]? = some (.instanceMethod (pm_y f))) && decide (lw_tbl[h2]? = some (.selects (pm_y f).cls (pm_y f) (pm_y f))) && decide (pm_ow f < 13)
      | 1 => decide (lw_tbl[h1]? = some (.static (pm_y f)))
      | _ => decide (lw_tbl[h1]? = some (.instanceMethod (pm_y f))) && decide ((pm_y f).name = "<init>") && decide (pm_rt f = none))
theorem pm_cls_all : ((List.range 15).all fun i => decide (plainName (pm_cn i) = true) && decide (pm_cn i ≠ "java/lang/invoke/MethodHandle") && decide (pm_cn i ≠ "java/lang/invoke/VarHandle")) = true := by decide +kernel
theorem pm_mok_0 : ((List.range 32).all fun i => pm_mok (0 + i)) = true := by decide +kernel
theorem pm_mok_32 : ((List.range 32).all fun i => pm_mok (32 + i)) = true := by decide +kernel
theorem pm_mok_64 : ((List.range 32).all fun i => pm_mok (64 + i)) = true := by decide +kernel
theorem pm_mok_96 : ((List.range 32).all fun i => pm_mok (96 + i)) = true := by decide +kernel
theorem pm_mok_128 : ((List.range 32).all fun i => pm_mok (128 + i)) = true := by decide +kernel
theorem pm_mok_160 : ((List.range 32).all fun i => pm_mok (160 + i)) = true := by decide +kernel
theorem pm_mok_192 : ((List.range 32).all fun i => pm_mok (192 + i)) = true := by decide +kernel
theorem pm_mok_224 : ((List.range 32).all fun i => pm_mok (224 + i)) = true := by decide +kernel
theorem pm_mok_256 : ((List.range 32).all fun i => pm_mok (256 + i)) = true := by decide +kernel
theorem pm_mok_288 : ((List.range 9).all fun i => pm_mok (288 + i)) = true := by decide +kernel
theorem pm_mok_all {f : Nat} (hf : f < 297) : pm_mok f = true := by
  rcases Nat.lt_or_ge f 32 with h0 | h0
  · have h := List.all_eq_true.mp pm_mok_0 (f - 0) (List.mem_range.mpr (by omega))
    rw [show 0 + (f - 0) = f by omega] at h
    exact h
  rcases Nat.lt_or_ge f 64 with h32 | h32
  · have h := List.all_eq_true.mp pm_mok_32 (f - 32) (List.mem_range.mpr (by omega))
    rw [show 32 + (f - 32) = f by omega] at h
    exact h
  rcases Nat.lt_or_ge f 96 with h64 | h64
  · have h := List.all_eq_true.mp pm_mok_64 (f - 64) (List.mem_range.mpr (by omega))
    rw [show 64 + (f - 64) = f by omega] at h
    exact h
  rcases Nat.lt_or_ge f 128 with h96 | h96
  · have h := List.all_eq_true.mp pm_mok_96 (f - 96) (List.mem_range.mpr (by omega))
    rw [show 96 + (f - 96) = f by omega] at h
    exact h
  rcases Nat.lt_or_ge f 160 with h128 | h128
  · have h := List.all_eq_true.mp pm_mok_128 (f - 128) (List.mem_range.mpr (by omega))
    rw [show 128 + (f - 128) = f by omega] at h
    exact h
  rcases Nat.lt_or_ge f 192 with h160 | h160
  · have h := List.all_eq_true.mp pm_mok_160 (f - 160) (List.mem_range.mpr (by omega))
    rw [show 160 + (f - 160) = f by omega] at h
    exact h
  rcases Nat.lt_or_ge f 224 with h192 | h192
  · have h := List.all_eq_true.mp pm_mok_192 (f - 192) (List.mem_range.mpr (by omega))
    rw [show 192 + (f - 192) = f by omega] at h
    exact h
  rcases Nat.lt_or_ge f 256 with h224 | h224
  · have h := List.all_eq_true.mp pm_mok_224 (f - 224) (List.mem_range.mpr (by omega))
    rw [show 224 + (f - 224) = f by omega] at h
    exact h
  rcases Nat.lt_or_ge f 288 with h256 | h256
  · have h := List.all_eq_true.mp pm_mok_256 (f - 256) (List.mem_range.mpr (by omega))
    rw [show 256 + (f - 256) = f by omega] at h
    exact h
  rcases Nat.lt_or_ge f 297 with h288 | h288
  · have h := List.all_eq_true.mp pm_mok_288 (f - 288) (List.mem_range.mpr (by omega))
    rw [show 288 + (f - 288) = f by omega] at h
    exact h
  omega
theorem pm_len_mt : pm_mt.length = 303 := by decide +kernel
abbrev pm_cw (q : MethodName × ByteArray × Nat × Option FieldType × Nat × Nat × Nat × Nat × Nat) : Cond := .code q.1 q.2.1 q.2.2.1 q.2.2.2.1
set_option maxRecDepth 100000 in
theorem pm_codes0 : (pm_mt0).map pm_cw = ([157, 654, 667, 691, 767, 905, 658, 642, 646, 699, 755, 711, 687, 727, 1211, 723, 719, 771, 763, 707, 984, 1234, 425, 1172, 1125, 1176, 1133, 1137, 1154, 1141, 1145, 1149] : List Nat).filterMap (fun i => lw_tbl[i]?) := rfl
set_option maxRecDepth 100000 in
theorem pm_codes1 : (pm_mt1).map pm_cw = ([1158, 1261, 317, 896, 900, 909, 913, 922, 200, 783, 779, 663, 792, 812, 1240, 286, 881, 941, 936, 932, 1251, 251, 607, 622, 629, 865, 683, 676, 672, 680, 858, 584] : List Nat).filterMap (fun i => lw_tbl[i]?) := rfl
set_option maxRecDepth 100000 in
theorem pm_codes2 : (pm_mt2).map pm_cw = ([593, 600, 615, 619, 626, 611, 604, 1245, 218, 743, 820, 1083, 918, 739, 735, 731, 846, 850, 838, 1051, 1014, 989, 398, 1088, 834, 1043, 1256, 311, 928, 945, 951, 961] : List Nat).filterMap (fun i => lw_tbl[i]?) := rfl
set_option maxRecDepth 100000 in
theorem pm_codes3 : (pm_mt3).map pm_cw = ([966, 970, 974, 994, 978, 1002, 1020, 1024, 138, 502, 523, 519, 527, 556, 535, 510, 548, 531, 560, 1215, 1266, 106, 506, 540, 1113, 1116, 98, 498, 515, 544, 552, 568] : List Nat).filterMap (fun i => lw_tbl[i]?) := rfl
set_option maxRecDepth 100000 in
theorem pm_codes4 : (pm_mt4).map pm_cw = ([572, 576, 580, 633, 637, 650, 695, 703, 715, 748, 759, 775, 788, 796, 801, 805, 808, 816, 825, 830, 842, 854, 862, 869, 874, 885, 888, 892, 998, 1006, 1010, 1032] : List Nat).filterMap (fun i => lw_tbl[i]?) := rfl
set_option maxRecDepth 100000 in
theorem pm_codes5 : (pm_mt5).map pm_cw = ([1036, 1047, 1058, 1063, 1068, 1079, 1092, 1096, 1101, 1105, 1109, 1120, 1129, 1168, 1181, 1185, 1190, 1195, 1199, 1203, 1207, 1219, 1223, 1227, 596, 751, 877, 1272, 1528, 1551, 1521, 1525] : List Nat).filterMap (fun i => lw_tbl[i]?) := rfl
set_option maxRecDepth 100000 in
theorem pm_codes6 : (pm_mt6).map pm_cw = ([1563, 1532, 1877, 1536, 1540, 1547, 1559, 1544, 1555, 1567, 1571, 1578, 1575, 1582, 1586, 1598, 1606, 1610, 1602, 1594, 1590, 1621, 1614, 1618, 1635, 1632, 1628, 1625, 1639, 1673, 1661, 1649] : List Nat).filterMap (fun i => lw_tbl[i]?) := rfl
set_option maxRecDepth 100000 in
theorem pm_codes7 : (pm_mt7).map pm_cw = ([1646, 1653, 1643, 1669, 1665, 1657, 1677, 1685, 1681, 1697, 1693, 1689, 1701, 1705, 1712, 1709, 1720, 1716, 1727, 1724, 1731, 1735, 1743, 1747, 1739, 1755, 1759, 1786, 1782, 1778, 1790, 1774] : List Nat).filterMap (fun i => lw_tbl[i]?) := rfl
set_option maxRecDepth 100000 in
theorem pm_codes8 : (pm_mt8).map pm_cw = ([1799, 1794, 1770, 1803, 1766, 1763, 1808, 1812, 1816, 1820, 1831, 1827, 1835, 1823, 1751, 1849, 1853, 1845, 1841, 1857, 1861, 1869, 1865, 1873, 1881, 1890, 1894, 1886, 1898, 1902, 1906, 1914] : List Nat).filterMap (fun i => lw_tbl[i]?) := rfl
set_option maxRecDepth 100000 in
theorem pm_codes9 : (pm_mt9.take 14).map pm_cw = ([1910, 1918, 1926, 1922, 1935, 1940, 1930, 1161, 954, 1054, 1071, 1027, 588, 1075] : List Nat).filterMap (fun i => lw_tbl[i]?) := rfl
theorem pm_ml_all : (pm_ml.all fun q => decide (lw_tbl[q.2.2.2]? = some (.methodLink (pm_cn q.1) q.2.1 (([Lib.Math.abs.name, Lib.MathLoose.abs_long.x, Lib.Math.max.name, Lib.Math.min.name, Lib.MathLoose.min_long.x] : List MethodName).getD q.2.2.1 Lib.Math.abs.name)))) = true := by decide +kernel
theorem pm_mm_all : (decide (lw_tbl[(pm_mmh.getD 0 (0, 0)).1]? = some (.static Lib.Math.abs.name)) && decide (lw_tbl[(pm_mmh.getD 1 (0, 0)).1]? = some (.static Lib.MathLoose.abs_long.x)) && decide (lw_tbl[(pm_mmh.getD 2 (0, 0)).1]? = some (.static Lib.Math.max.name)) && decide (lw_tbl[(pm_mmh.getD 3 (0, 0)).1]? = some (.static Lib.Math.min.name)) && decide (lw_tbl[(pm_mmh.getD 4 (0, 0)).1]? = some (.static Lib.MathLoose.min_long.x)) && decide (lw_tbl[pm_mih]? = some (.initialized "java/lang/Math"))) = true := by decide +kernel
theorem pm_mc0 : lw_tbl[(pm_mmh.getD 0 (0, 0)).2]? = some (.code Lib.Math.abs.name Lib.Math.abs.code 1 (some .int)) := by decide +kernel
theorem pm_mc1 : lw_tbl[(pm_mmh.getD 1 (0, 0)).2]? = some (.code Lib.MathLoose.abs_long.x Lib.MathLoose.abs_long.code 2 (some .long)) := by decide +kernel
theorem pm_mc2 : lw_tbl[(pm_mmh.getD 2 (0, 0)).2]? = some (.code Lib.Math.max.name Lib.Math.max.code 2 (some .int)) := by decide +kernel
theorem pm_mc3 : lw_tbl[(pm_mmh.getD 3 (0, 0)).2]? = some (.code Lib.Math.min.name Lib.Math.min.code 2 (some .int)) := by decide +kernel
theorem pm_mc4 : lw_tbl[(pm_mmh.getD 4 (0, 0)).2]? = some (.code Lib.MathLoose.min_long.x Lib.MathLoose.min_long.code 4 (some .long)) := by decide +kernel
theorem pm_cp_all : (decide (lw_tbl[pm_cph.getD 0 0]? = some (.methodLink (pm_cn pm_acp.1) pm_acp.2 arraycopyName)) && decide (lw_tbl[pm_cph.getD 1 0]? = some (.native arraycopyName)) && decide (lw_tbl[pm_cph.getD 2 0]? = some (.static arraycopyName)) && decide (lw_tbl[pm_cph.getD 3 0]? = some (.initialized "java/lang/System"))) = true := by decide +kernel
theorem pm_ob_all : (decide (lw_tbl[pm_obh.getD 0 0]? = some (.instanceMethod objectInit)) && decide (lw_tbl[pm_obh.getD 1 0]? = some (.code objectInit ⟨#[0xb1]⟩ 1 none))) = true := by decide +kernel
theorem pm_ah_all : (decide (lw_tbl[pm_ah.getD 0 0]? = some (.arrayClass .int)) && decide (lw_tbl[pm_ah.getD 1 0]? = some (.arrayClass .long)) && decide (lw_tbl[pm_ah.getD 2 0]? = some (.arrayClass .byte)) && decide (lw_tbl[pm_ah.getD 3 0]? = some (.arrayClass .boolean))) = true := by decide +kernel
