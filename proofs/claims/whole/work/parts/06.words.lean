theorem zw_of {w : Cond} (i : Nat) (h : lw_tbl[i]? = some w) (g : goodWord w = true) : w ∈ zw := List.mem_filter.mpr ⟨List.mem_of_getElem? h, g⟩
theorem zin_of {ws : List Cond} (ps : List Nat) (h : ws = ps.filterMap (fun i => lw_tbl[i]?)) (g : ws.all goodWord = true) : ∀ w ∈ ws, w ∈ zw := fun w hw => by
  have h1 := List.all_eq_true.mp g w hw
  rw [h] at hw
  obtain ⟨i, -, hi⟩ := List.mem_filterMap.mp hw
  exact List.mem_filter.mpr ⟨List.mem_of_getElem? hi, h1⟩
theorem zw_1 {w : Cond} (i : Nat) (h : tables_1_1[i]? = some w) (g : goodWord w = true) : w ∈ zw := List.mem_filter.mpr ⟨List.mem_append_right _ (List.mem_append_left _ (List.mem_of_getElem? h)), g⟩
theorem zw_2 {w : Cond} (i : Nat) (h : tables_1_2[i]? = some w) (g : goodWord w = true) : w ∈ zw := List.mem_filter.mpr ⟨List.mem_append_right _ (List.mem_append_right _ (List.mem_append_left _ (List.mem_of_getElem? h))), g⟩
theorem zw_3 {w : Cond} (i : Nat) (h : tables_1_3[i]? = some w) (g : goodWord w = true) : w ∈ zw := List.mem_filter.mpr ⟨List.mem_append_right _ (List.mem_append_right _ (List.mem_append_right _ (List.mem_append_left _ (List.mem_of_getElem? h)))), g⟩
theorem zw_4 {w : Cond} (i : Nat) (h : tables_1_4[i]? = some w) (g : goodWord w = true) : w ∈ zw := List.mem_filter.mpr ⟨List.mem_append_right _ (List.mem_append_right _ (List.mem_append_right _ (List.mem_append_right _ (List.mem_append_left _ (List.mem_of_getElem? h))))), g⟩
theorem zw_5 {w : Cond} (i : Nat) (h : tables_1_5[i]? = some w) (g : goodWord w = true) : w ∈ zw := List.mem_filter.mpr ⟨List.mem_append_right _ (List.mem_append_right _ (List.mem_append_right _ (List.mem_append_right _ (List.mem_append_right _ (List.mem_append_left _ (List.mem_of_getElem? h)))))), g⟩
theorem zw_6 {w : Cond} (i : Nat) (h : tables_1_6[i]? = some w) (g : goodWord w = true) : w ∈ zw := List.mem_filter.mpr ⟨List.mem_append_right _ (List.mem_append_right _ (List.mem_append_right _ (List.mem_append_right _ (List.mem_append_right _ (List.mem_append_right _ (List.mem_append_left _ (List.mem_of_getElem? h))))))), g⟩
theorem zw_7 {w : Cond} (i : Nat) (h : tables_1_7[i]? = some w) (g : goodWord w = true) : w ∈ zw := List.mem_filter.mpr ⟨List.mem_append_right _ (List.mem_append_right _ (List.mem_append_right _ (List.mem_append_right _ (List.mem_append_right _ (List.mem_append_right _ (List.mem_append_right _ (List.mem_append_left _ (List.mem_of_getElem? h)))))))), g⟩
theorem zw_8 {w : Cond} (i : Nat) (h : tables_1_8[i]? = some w) (g : goodWord w = true) : w ∈ zw := List.mem_filter.mpr ⟨List.mem_append_right _ (List.mem_append_right _ (List.mem_append_right _ (List.mem_append_right _ (List.mem_append_right _ (List.mem_append_right _ (List.mem_append_right _ (List.mem_append_right _ (List.mem_append_left _ (List.mem_of_getElem? h))))))))), g⟩
theorem zw_9 {w : Cond} (i : Nat) (h : tables_1_9[i]? = some w) (g : goodWord w = true) : w ∈ zw := List.mem_filter.mpr ⟨List.mem_append_right _ (List.mem_append_right _ (List.mem_append_right _ (List.mem_append_right _ (List.mem_append_right _ (List.mem_append_right _ (List.mem_append_right _ (List.mem_append_right _ (List.mem_append_right _ (List.mem_append_left _ (List.mem_of_getElem? h)))))))))), g⟩
theorem zw_10 {w : Cond} (i : Nat) (h : tables_1_10[i]? = some w) (g : goodWord w = true) : w ∈ zw := List.mem_filter.mpr ⟨List.mem_append_right _ (List.mem_append_right _ (List.mem_append_right _ (List.mem_append_right _ (List.mem_append_right _ (List.mem_append_right _ (List.mem_append_right _ (List.mem_append_right _ (List.mem_append_right _ (List.mem_append_right _ (List.mem_of_getElem? h)))))))))), g⟩
theorem zw_0 {w : Cond} (i : Nat) (h : (k2_sels lw_privs)[i]? = some w) (g : goodWord w = true) : w ∈ zw := List.mem_filter.mpr ⟨List.mem_append_left _ (List.mem_of_getElem? h), g⟩
theorem in_Jx4a65c : ∀ w ∈ u_ws RJx4a65c TJx4a65c 3, w ∈ zw := zin_of [148, 144, 146] (by decide +kernel) (by decide +kernel)
theorem in_X1 : ∀ w ∈ u_ws RX1 TX1 9, w ∈ zw := zin_of [166, 168, 170, 172, 174, 176, 178, 180, 182] (by decide +kernel) (by decide +kernel)
theorem in_X2 : ∀ w ∈ u_ws RX2 TX2 3, w ∈ zw := zin_of [1439, 1441, 1443] (by decide +kernel) (by decide +kernel)
theorem in_X3 : ∀ w ∈ u_ws RX3 TX3 4, w ∈ zw := zin_of [196, 198, 200, 202] (by decide +kernel) (by decide +kernel)
theorem in_X4 : ∀ w ∈ u_ws RX4 TX4 3, w ∈ zw := zin_of [1073, 1075, 1077] (by decide +kernel) (by decide +kernel)
theorem in_X5 : ∀ w ∈ u_ws RX5 TX5 14, w ∈ zw := zin_of [257, 259, 261, 263, 265, 267, 269, 271, 273, 275, 277, 279, 281, 283] (by decide +kernel) (by decide +kernel)
theorem in_X6 : ∀ w ∈ u_ws RX6 TX6 13, w ∈ zw := zin_of [300, 302, 304, 306, 308, 310, 312, 314, 316, 318, 320, 322, 324] (by decide +kernel) (by decide +kernel)
theorem in_X7 : ∀ w ∈ u_ws RX7 TX7 4, w ∈ zw := zin_of [1332, 1334, 1336, 1338] (by decide +kernel) (by decide +kernel)
theorem in_X8 : ∀ w ∈ u_ws RX8 TX8 6, w ∈ zw := zin_of [530, 532, 534, 536, 538, 540] (by decide +kernel) (by decide +kernel)
theorem in_X10 : ∀ w ∈ u_ws RX10 TX10 18, w ∈ zw := zin_of [908, 910, 912, 914, 916, 918, 920, 922, 924, 926, 928, 930, 932, 934, 936, 938, 940, 942] (by decide +kernel) (by decide +kernel)
theorem in_X11 : ∀ w ∈ u_ws RX11 TX11 17, w ∈ zw := zin_of [346, 348, 350, 352, 354, 356, 358, 360, 362, 364, 366, 368, 370, 372, 374, 376, 378] (by decide +kernel) (by decide +kernel)
theorem in_X12 : ∀ w ∈ u_ws RX12 TX12 80, w ∈ zw := zin_of [1608, 1610, 1612, 1614, 1616, 1618, 1620, 1622, 1624, 1626, 1628, 1630, 1632, 1634, 1636, 1638, 1640, 1642, 1644, 1646, 1648, 1650, 1652, 1654, 1656, 1658, 1660, 1662, 1664, 1666, 1668, 1670, 1672, 1674, 1676, 1678, 1680, 1682, 1684, 1686, 1688, 1690, 1692, 1694, 1696, 1698, 1700, 1702, 1704, 1706, 1708, 1710, 1712, 1714, 1716, 1718, 1720, 1722, 1724, 1726, 1728, 1730, 1732, 1734, 1736, 1738, 1740, 1742, 1744, 1746, 1748, 1750, 1752, 1754, 1756, 1758, 1760, 1762, 1764, 1766] (by decide +kernel) (by decide +kernel)
theorem fw_X11_10 : Cond.fieldLink RX11 10 (TX11 0).1 (TX11 0).2.1 (TX11 0).2.2.1 ∈ zw := zw_2 5 (by decide +kernel) (by decide +kernel)
theorem fl_X11_10 : zFl RX11 10 10 0 := ⟨RX11, TX11, 17, rfl, in_X11, by decide, fw_X11_10⟩
theorem fq_X11_10 : zPl RX11 10 10 0 (.object "java/util/ArrayList") true := ⟨RX11, TX11, 17, tyX11, rfl, in_X11, by decide, fw_X11_10, tyX11_ok, nmX11, tyX11_ok 0 (by decide), rfl, fun _ => rfl⟩
theorem fw_X11_16 : Cond.fieldLink RX11 16 (TX11 1).1 (TX11 1).2.1 (TX11 1).2.2.1 ∈ zw := zw_2 6 (by decide +kernel) (by decide +kernel)
theorem fl_X11_16 : zFl RX11 16 10 1 := ⟨RX11, TX11, 17, rfl, in_X11, by decide, fw_X11_16⟩
theorem fq_X11_16 : zPl RX11 16 10 1 (.object "java/util/ArrayList") true := ⟨RX11, TX11, 17, tyX11, rfl, in_X11, by decide, fw_X11_16, tyX11_ok, nmX11, tyX11_ok 1 (by decide), rfl, fun _ => rfl⟩
theorem fw_X11_19 : Cond.fieldLink RX11 19 (TX11 2).1 (TX11 2).2.1 (TX11 2).2.2.1 ∈ zw := zw_2 7 (by decide +kernel) (by decide +kernel)
theorem fl_X11_19 : zFl RX11 19 10 2 := ⟨RX11, TX11, 17, rfl, in_X11, by decide, fw_X11_19⟩
theorem fq_X11_19 : zPl RX11 19 10 2 (.object "java/util/ArrayList") true := ⟨RX11, TX11, 17, tyX11, rfl, in_X11, by decide, fw_X11_19, tyX11_ok, nmX11, tyX11_ok 2 (by decide), rfl, fun _ => rfl⟩
theorem fw_X11_22 : Cond.fieldLink RX11 22 (TX11 3).1 (TX11 3).2.1 (TX11 3).2.2.1 ∈ zw := zw_2 8 (by decide +kernel) (by decide +kernel)
theorem fl_X11_22 : zFl RX11 22 10 3 := ⟨RX11, TX11, 17, rfl, in_X11, by decide, fw_X11_22⟩
theorem fq_X11_22 : zPl RX11 22 10 3 (.object "java/util/ArrayList") true := ⟨RX11, TX11, 17, tyX11, rfl, in_X11, by decide, fw_X11_22, tyX11_ok, nmX11, tyX11_ok 3 (by decide), rfl, fun _ => rfl⟩
theorem fw_X11_25 : Cond.fieldLink RX11 25 (TX11 4).1 (TX11 4).2.1 (TX11 4).2.2.1 ∈ zw := zw_2 9 (by decide +kernel) (by decide +kernel)
theorem fl_X11_25 : zFl RX11 25 10 4 := ⟨RX11, TX11, 17, rfl, in_X11, by decide, fw_X11_25⟩
theorem fq_X11_25 : zPl RX11 25 10 4 (.array .int) true := ⟨RX11, TX11, 17, tyX11, rfl, in_X11, by decide, fw_X11_25, tyX11_ok, nmX11, tyX11_ok 4 (by decide), rfl, fun _ => rfl⟩
theorem fw_X11_29 : Cond.fieldLink RX11 29 (TX11 5).1 (TX11 5).2.1 (TX11 5).2.2.1 ∈ zw := zw_2 10 (by decide +kernel) (by decide +kernel)
theorem fl_X11_29 : zFl RX11 29 10 5 := ⟨RX11, TX11, 17, rfl, in_X11, by decide, fw_X11_29⟩
theorem fq_X11_29 : zPl RX11 29 10 5 (.array .int) true := ⟨RX11, TX11, 17, tyX11, rfl, in_X11, by decide, fw_X11_29, tyX11_ok, nmX11, tyX11_ok 5 (by decide), rfl, fun _ => rfl⟩
theorem fw_X11_32 : Cond.fieldLink RX11 32 (TX11 6).1 (TX11 6).2.1 (TX11 6).2.2.1 ∈ zw := zw_2 11 (by decide +kernel) (by decide +kernel)
theorem fl_X11_32 : zFl RX11 32 10 6 := ⟨RX11, TX11, 17, rfl, in_X11, by decide, fw_X11_32⟩
theorem fq_X11_32 : zPl RX11 32 10 6 (.array .int) true := ⟨RX11, TX11, 17, tyX11, rfl, in_X11, by decide, fw_X11_32, tyX11_ok, nmX11, tyX11_ok 6 (by decide), rfl, fun _ => rfl⟩
theorem fw_X11_38 : Cond.fieldLink RX11 38 (TX11 7).1 (TX11 7).2.1 (TX11 7).2.2.1 ∈ zw := zw_2 12 (by decide +kernel) (by decide +kernel)
theorem fl_X11_38 : zFl RX11 38 10 7 := ⟨RX11, TX11, 17, rfl, in_X11, by decide, fw_X11_38⟩
theorem fq_X11_38 : zPl RX11 38 10 7 (.object "PartyWalls$Book") true := ⟨RX11, TX11, 17, tyX11, rfl, in_X11, by decide, fw_X11_38, tyX11_ok, nmX11, tyX11_ok 7 (by decide), rfl, fun _ => rfl⟩
theorem fw_X11_45 : Cond.fieldLink RX11 45 (TX11 8).1 (TX11 8).2.1 (TX11 8).2.2.1 ∈ zw := zw_2 13 (by decide +kernel) (by decide +kernel)
theorem fl_X11_45 : zFl RX11 45 10 8 := ⟨RX11, TX11, 17, rfl, in_X11, by decide, fw_X11_45⟩
theorem fq_X11_45 : zPl RX11 45 10 8 (.object "PartyWalls$Joining") true := ⟨RX11, TX11, 17, tyX11, rfl, in_X11, by decide, fw_X11_45, tyX11_ok, nmX11, tyX11_ok 8 (by decide), rfl, fun _ => rfl⟩
theorem fw_X11_49 : Cond.fieldLink RX11 49 (TX11 9).1 (TX11 9).2.1 (TX11 9).2.2.1 ∈ zw := zw_2 14 (by decide +kernel) (by decide +kernel)
theorem fl_X11_49 : zFl RX11 49 10 9 := ⟨RX11, TX11, 17, rfl, in_X11, by decide, fw_X11_49⟩
theorem fq_X11_49 : zPl RX11 49 10 9 (.array .byte) true := ⟨RX11, TX11, 17, tyX11, rfl, in_X11, by decide, fw_X11_49, tyX11_ok, nmX11, tyX11_ok 9 (by decide), rfl, fun _ => rfl⟩
theorem fw_X11_58 : Cond.fieldLink RX11 58 (TX11 10).1 (TX11 10).2.1 (TX11 10).2.2.1 ∈ zw := zw_2 15 (by decide +kernel) (by decide +kernel)
theorem fl_X11_58 : zFl RX11 58 10 10 := ⟨RX11, TX11, 17, rfl, in_X11, by decide, fw_X11_58⟩
theorem fq_X11_58 : zPl RX11 58 10 10 (.object "PartyWalls$RuleReader") true := ⟨RX11, TX11, 17, tyX11, rfl, in_X11, by decide, fw_X11_58, tyX11_ok, nmX11, tyX11_ok 10 (by decide), rfl, fun _ => rfl⟩
theorem fw_X11_65 : Cond.fieldLink RX11 65 (TX11 16).1 (TX11 16).2.1 (TX11 16).2.2.1 ∈ zw := zw_2 21 (by decide +kernel) (by decide +kernel)
theorem fl_X11_65 : zFl RX11 65 10 16 := ⟨RX11, TX11, 17, rfl, in_X11, by decide, fw_X11_65⟩
theorem fq_X11_65 : zPl RX11 65 10 16 (.object "PartyWalls$Rule") false := ⟨RX11, TX11, 17, tyX11, rfl, in_X11, by decide, fw_X11_65, tyX11_ok, nmX11, tyX11_ok 16 (by decide), rfl, fun h => nomatch h⟩
theorem fw_X11_69 : Cond.fieldLink RX11 69 (TX11 12).1 (TX11 12).2.1 (TX11 12).2.2.1 ∈ zw := zw_2 17 (by decide +kernel) (by decide +kernel)
theorem fl_X11_69 : zFl RX11 69 10 12 := ⟨RX11, TX11, 17, rfl, in_X11, by decide, fw_X11_69⟩
theorem fq_X11_69 : zPl RX11 69 10 12 .int false := ⟨RX11, TX11, 17, tyX11, rfl, in_X11, by decide, fw_X11_69, tyX11_ok, nmX11, tyX11_ok 12 (by decide), rfl, fun h => nomatch h⟩
theorem fw_X11_111 : Cond.fieldLink RX11 111 (TX11 15).1 (TX11 15).2.1 (TX11 15).2.2.1 ∈ zw := zw_2 20 (by decide +kernel) (by decide +kernel)
theorem fl_X11_111 : zFl RX11 111 10 15 := ⟨RX11, TX11, 17, rfl, in_X11, by decide, fw_X11_111⟩
theorem fq_X11_111 : zPl RX11 111 10 15 .int false := ⟨RX11, TX11, 17, tyX11, rfl, in_X11, by decide, fw_X11_111, tyX11_ok, nmX11, tyX11_ok 15 (by decide), rfl, fun h => nomatch h⟩
theorem fw_X11_122 : Cond.fieldLink RX11 122 (TX11 11).1 (TX11 11).2.1 (TX11 11).2.2.1 ∈ zw := zw_2 16 (by decide +kernel) (by decide +kernel)
theorem fl_X11_122 : zFl RX11 122 10 11 := ⟨RX11, TX11, 17, rfl, in_X11, by decide, fw_X11_122⟩
theorem fq_X11_122 : zPl RX11 122 10 11 .int false := ⟨RX11, TX11, 17, tyX11, rfl, in_X11, by decide, fw_X11_122, tyX11_ok, nmX11, tyX11_ok 11 (by decide), rfl, fun h => nomatch h⟩
theorem fw_X11_135 : Cond.fieldLink RX11 135 (TX5 0).1 (TX5 0).2.1 (TX5 0).2.2.1 ∈ zw := zw_1 137 (by decide +kernel) (by decide +kernel)
theorem fl_X11_135 : zFl RX11 135 5 0 := ⟨RX5, TX5, 14, rfl, in_X5, by decide, fw_X11_135⟩
theorem fq_X11_135 : zPl RX11 135 5 0 .int false := ⟨RX5, TX5, 14, tyX5, rfl, in_X5, by decide, fw_X11_135, tyX5_ok, nmX5, tyX5_ok 0 (by decide), rfl, fun h => nomatch h⟩
theorem fw_X11_164 : Cond.fieldLink RX11 164 (TX10 4).1 (TX10 4).2.1 (TX10 4).2.2.1 ∈ zw := zw_4 82 (by decide +kernel) (by decide +kernel)
theorem fl_X11_164 : zFl RX11 164 9 4 := ⟨RX10, TX10, 18, rfl, in_X10, by decide, fw_X11_164⟩
theorem fq_X11_164 : zPl RX11 164 9 4 .int false := ⟨RX10, TX10, 18, tyX10, rfl, in_X10, by decide, fw_X11_164, tyX10_ok, nmX10, tyX10_ok 4 (by decide), rfl, fun h => nomatch h⟩
theorem fw_X11_170 : Cond.fieldLink RX11 170 (TX10 5).1 (TX10 5).2.1 (TX10 5).2.2.1 ∈ zw := zw_4 84 (by decide +kernel) (by decide +kernel)
theorem fl_X11_170 : zFl RX11 170 9 5 := ⟨RX10, TX10, 18, rfl, in_X10, by decide, fw_X11_170⟩
theorem fq_X11_170 : zPl RX11 170 9 5 .int false := ⟨RX10, TX10, 18, tyX10, rfl, in_X10, by decide, fw_X11_170, tyX10_ok, nmX10, tyX10_ok 5 (by decide), rfl, fun h => nomatch h⟩
theorem fw_X11_179 : Cond.fieldLink RX11 179 (TX10 7).1 (TX10 7).2.1 (TX10 7).2.2.1 ∈ zw := zw_4 88 (by decide +kernel) (by decide +kernel)
theorem fl_X11_179 : zFl RX11 179 9 7 := ⟨RX10, TX10, 18, rfl, in_X10, by decide, fw_X11_179⟩
theorem fq_X11_179 : zPl RX11 179 9 7 .int false := ⟨RX10, TX10, 18, tyX10, rfl, in_X10, by decide, fw_X11_179, tyX10_ok, nmX10, tyX10_ok 7 (by decide), rfl, fun h => nomatch h⟩
theorem fw_X11_182 : Cond.fieldLink RX11 182 (TX10 8).1 (TX10 8).2.1 (TX10 8).2.2.1 ∈ zw := zw_4 90 (by decide +kernel) (by decide +kernel)
theorem fl_X11_182 : zFl RX11 182 9 8 := ⟨RX10, TX10, 18, rfl, in_X10, by decide, fw_X11_182⟩
theorem fq_X11_182 : zPl RX11 182 9 8 .int false := ⟨RX10, TX10, 18, tyX10, rfl, in_X10, by decide, fw_X11_182, tyX10_ok, nmX10, tyX10_ok 8 (by decide), rfl, fun h => nomatch h⟩
theorem fw_X11_194 : Cond.fieldLink RX11 194 (TX10 6).1 (TX10 6).2.1 (TX10 6).2.2.1 ∈ zw := zw_4 86 (by decide +kernel) (by decide +kernel)
theorem fl_X11_194 : zFl RX11 194 9 6 := ⟨RX10, TX10, 18, rfl, in_X10, by decide, fw_X11_194⟩
theorem fq_X11_194 : zPl RX11 194 9 6 .int false := ⟨RX10, TX10, 18, tyX10, rfl, in_X10, by decide, fw_X11_194, tyX10_ok, nmX10, tyX10_ok 6 (by decide), rfl, fun h => nomatch h⟩
theorem fw_X11_203 : Cond.fieldLink RX11 203 (TX10 9).1 (TX10 9).2.1 (TX10 9).2.2.1 ∈ zw := zw_4 92 (by decide +kernel) (by decide +kernel)
theorem fl_X11_203 : zFl RX11 203 9 9 := ⟨RX10, TX10, 18, rfl, in_X10, by decide, fw_X11_203⟩
theorem fq_X11_203 : zPl RX11 203 9 9 .int false := ⟨RX10, TX10, 18, tyX10, rfl, in_X10, by decide, fw_X11_203, tyX10_ok, nmX10, tyX10_ok 9 (by decide), rfl, fun h => nomatch h⟩
theorem fw_X11_206 : Cond.fieldLink RX11 206 (TX11 13).1 (TX11 13).2.1 (TX11 13).2.2.1 ∈ zw := zw_2 18 (by decide +kernel) (by decide +kernel)
theorem fl_X11_206 : zFl RX11 206 10 13 := ⟨RX11, TX11, 17, rfl, in_X11, by decide, fw_X11_206⟩
theorem fq_X11_206 : zPl RX11 206 10 13 .int false := ⟨RX11, TX11, 17, tyX11, rfl, in_X11, by decide, fw_X11_206, tyX11_ok, nmX11, tyX11_ok 13 (by decide), rfl, fun h => nomatch h⟩
theorem fw_X11_209 : Cond.fieldLink RX11 209 (TX10 13).1 (TX10 13).2.1 (TX10 13).2.2.1 ∈ zw := zw_4 98 (by decide +kernel) (by decide +kernel)
theorem fl_X11_209 : zFl RX11 209 9 13 := ⟨RX10, TX10, 18, rfl, in_X10, by decide, fw_X11_209⟩
theorem fw_X11_214 : Cond.fieldLink RX11 214 (TX10 0).1 (TX10 0).2.1 (TX10 0).2.2.1 ∈ zw := zw_4 75 (by decide +kernel) (by decide +kernel)
theorem fl_X11_214 : zFl RX11 214 9 0 := ⟨RX10, TX10, 18, rfl, in_X10, by decide, fw_X11_214⟩
theorem fw_X11_241 : Cond.fieldLink RX11 241 (TX10 12).1 (TX10 12).2.1 (TX10 12).2.2.1 ∈ zw := zw_4 96 (by decide +kernel) (by decide +kernel)
theorem fl_X11_241 : zFl RX11 241 9 12 := ⟨RX10, TX10, 18, rfl, in_X10, by decide, fw_X11_241⟩
theorem fw_X11_255 : Cond.fieldLink RX11 255 (TX10 14).1 (TX10 14).2.1 (TX10 14).2.2.1 ∈ zw := zw_4 99 (by decide +kernel) (by decide +kernel)
theorem fl_X11_255 : zFl RX11 255 9 14 := ⟨RX10, TX10, 18, rfl, in_X10, by decide, fw_X11_255⟩
theorem fq_X11_255 : zPl RX11 255 9 14 .int false := ⟨RX10, TX10, 18, tyX10, rfl, in_X10, by decide, fw_X11_255, tyX10_ok, nmX10, tyX10_ok 14 (by decide), rfl, fun h => nomatch h⟩
theorem fw_X11_261 : Cond.fieldLink RX11 261 (TX10 15).1 (TX10 15).2.1 (TX10 15).2.2.1 ∈ zw := zw_4 100 (by decide +kernel) (by decide +kernel)
theorem fl_X11_261 : zFl RX11 261 9 15 := ⟨RX10, TX10, 18, rfl, in_X10, by decide, fw_X11_261⟩
theorem fq_X11_261 : zPl RX11 261 9 15 .int false := ⟨RX10, TX10, 18, tyX10, rfl, in_X10, by decide, fw_X11_261, tyX10_ok, nmX10, tyX10_ok 15 (by decide), rfl, fun h => nomatch h⟩
theorem fw_X11_278 : Cond.fieldLink RX11 278 (TX10 2).1 (TX10 2).2.1 (TX10 2).2.2.1 ∈ zw := zw_4 79 (by decide +kernel) (by decide +kernel)
theorem fl_X11_278 : zFl RX11 278 9 2 := ⟨RX10, TX10, 18, rfl, in_X10, by decide, fw_X11_278⟩
theorem fw_X11_284 : Cond.fieldLink RX11 284 (TX10 1).1 (TX10 1).2.1 (TX10 1).2.2.1 ∈ zw := zw_4 77 (by decide +kernel) (by decide +kernel)
theorem fl_X11_284 : zFl RX11 284 9 1 := ⟨RX10, TX10, 18, rfl, in_X10, by decide, fw_X11_284⟩
theorem fw_X11_296 : Cond.fieldLink RX11 296 (TX5 9).1 (TX5 9).2.1 (TX5 9).2.2.1 ∈ zw := zw_1 160 (by decide +kernel) (by decide +kernel)
theorem fl_X11_296 : zFl RX11 296 5 9 := ⟨RX5, TX5, 14, rfl, in_X5, by decide, fw_X11_296⟩
theorem fq_X11_296 : zPl RX11 296 5 9 .int false := ⟨RX5, TX5, 14, tyX5, rfl, in_X5, by decide, fw_X11_296, tyX5_ok, nmX5, tyX5_ok 9 (by decide), rfl, fun h => nomatch h⟩
theorem fw_X11_323 : Cond.fieldLink RX11 323 (TX10 16).1 (TX10 16).2.1 (TX10 16).2.2.1 ∈ zw := zw_4 102 (by decide +kernel) (by decide +kernel)
theorem fl_X11_323 : zFl RX11 323 9 16 := ⟨RX10, TX10, 18, rfl, in_X10, by decide, fw_X11_323⟩
theorem fq_X11_323 : zPl RX11 323 9 16 .int false := ⟨RX10, TX10, 18, tyX10, rfl, in_X10, by decide, fw_X11_323, tyX10_ok, nmX10, tyX10_ok 16 (by decide), rfl, fun h => nomatch h⟩
theorem fw_X11_326 : Cond.fieldLink RX11 326 (TX10 17).1 (TX10 17).2.1 (TX10 17).2.2.1 ∈ zw := zw_4 103 (by decide +kernel) (by decide +kernel)
theorem fl_X11_326 : zFl RX11 326 9 17 := ⟨RX10, TX10, 18, rfl, in_X10, by decide, fw_X11_326⟩
theorem fq_X11_326 : zPl RX11 326 9 17 .boolean false := ⟨RX10, TX10, 18, tyX10, rfl, in_X10, by decide, fw_X11_326, tyX10_ok, nmX10, tyX10_ok 17 (by decide), rfl, fun h => nomatch h⟩
theorem fw_X11_361 : Cond.fieldLink RX11 361 (TX11 14).1 (TX11 14).2.1 (TX11 14).2.2.1 ∈ zw := zw_2 19 (by decide +kernel) (by decide +kernel)
theorem fl_X11_361 : zFl RX11 361 10 14 := ⟨RX11, TX11, 17, rfl, in_X11, by decide, fw_X11_361⟩
theorem fq_X11_361 : zPl RX11 361 10 14 .int false := ⟨RX11, TX11, 17, tyX11, rfl, in_X11, by decide, fw_X11_361, tyX11_ok, nmX11, tyX11_ok 14 (by decide), rfl, fun h => nomatch h⟩
theorem fw_X11_382 : Cond.fieldLink RX11 382 (TX5 11).1 (TX5 11).2.1 (TX5 11).2.2.1 ∈ zw := zw_1 166 (by decide +kernel) (by decide +kernel)
theorem fl_X11_382 : zFl RX11 382 5 11 := ⟨RX5, TX5, 14, rfl, in_X5, by decide, fw_X11_382⟩
theorem fq_X11_382 : zPl RX11 382 5 11 .int false := ⟨RX5, TX5, 14, tyX5, rfl, in_X5, by decide, fw_X11_382, tyX5_ok, nmX5, tyX5_ok 11 (by decide), rfl, fun h => nomatch h⟩
theorem fw_X11_389 : Cond.fieldLink RX11 389 (TX5 10).1 (TX5 10).2.1 (TX5 10).2.2.1 ∈ zw := zw_1 163 (by decide +kernel) (by decide +kernel)
theorem fl_X11_389 : zFl RX11 389 5 10 := ⟨RX5, TX5, 14, rfl, in_X5, by decide, fw_X11_389⟩
theorem fq_X11_389 : zPl RX11 389 5 10 .int false := ⟨RX5, TX5, 14, tyX5, rfl, in_X5, by decide, fw_X11_389, tyX5_ok, nmX5, tyX5_ok 10 (by decide), rfl, fun h => nomatch h⟩
theorem fw_X1_9 : Cond.fieldLink RX1 9 (TX1 0).1 (TX1 0).2.1 (TX1 0).2.2.1 ∈ zw := zw_1 73 (by decide +kernel) (by decide +kernel)
theorem fl_X1_9 : zFl RX1 9 1 0 := ⟨RX1, TX1, 9, rfl, in_X1, by decide, fw_X1_9⟩
theorem fq_X1_9 : zPl RX1 9 1 0 (.array .int) true := ⟨RX1, TX1, 9, tyX1, rfl, in_X1, by decide, fw_X1_9, tyX1_ok, nmX1, tyX1_ok 0 (by decide), rfl, fun _ => rfl⟩
theorem fw_X1_15 : Cond.fieldLink RX1 15 (TX1 1).1 (TX1 1).2.1 (TX1 1).2.2.1 ∈ zw := zw_1 74 (by decide +kernel) (by decide +kernel)
theorem fl_X1_15 : zFl RX1 15 1 1 := ⟨RX1, TX1, 9, rfl, in_X1, by decide, fw_X1_15⟩
theorem fq_X1_15 : zPl RX1 15 1 1 (.array .int) true := ⟨RX1, TX1, 9, tyX1, rfl, in_X1, by decide, fw_X1_15, tyX1_ok, nmX1, tyX1_ok 1 (by decide), rfl, fun _ => rfl⟩
theorem fw_X1_18 : Cond.fieldLink RX1 18 (TX1 2).1 (TX1 2).2.1 (TX1 2).2.2.1 ∈ zw := zw_1 75 (by decide +kernel) (by decide +kernel)
theorem fl_X1_18 : zFl RX1 18 1 2 := ⟨RX1, TX1, 9, rfl, in_X1, by decide, fw_X1_18⟩
theorem fq_X1_18 : zPl RX1 18 1 2 (.array .int) true := ⟨RX1, TX1, 9, tyX1, rfl, in_X1, by decide, fw_X1_18, tyX1_ok, nmX1, tyX1_ok 2 (by decide), rfl, fun _ => rfl⟩
theorem fw_X1_21 : Cond.fieldLink RX1 21 (TX1 3).1 (TX1 3).2.1 (TX1 3).2.2.1 ∈ zw := zw_1 76 (by decide +kernel) (by decide +kernel)
theorem fl_X1_21 : zFl RX1 21 1 3 := ⟨RX1, TX1, 9, rfl, in_X1, by decide, fw_X1_21⟩
theorem fq_X1_21 : zPl RX1 21 1 3 (.array .int) true := ⟨RX1, TX1, 9, tyX1, rfl, in_X1, by decide, fw_X1_21, tyX1_ok, nmX1, tyX1_ok 3 (by decide), rfl, fun _ => rfl⟩
theorem fw_X1_24 : Cond.fieldLink RX1 24 (TX1 5).1 (TX1 5).2.1 (TX1 5).2.2.1 ∈ zw := zw_1 78 (by decide +kernel) (by decide +kernel)
theorem fl_X1_24 : zFl RX1 24 1 5 := ⟨RX1, TX1, 9, rfl, in_X1, by decide, fw_X1_24⟩
theorem fq_X1_24 : zPl RX1 24 1 5 (.array .int) true := ⟨RX1, TX1, 9, tyX1, rfl, in_X1, by decide, fw_X1_24, tyX1_ok, nmX1, tyX1_ok 5 (by decide), rfl, fun _ => rfl⟩
theorem fw_X1_27 : Cond.fieldLink RX1 27 (TX1 6).1 (TX1 6).2.1 (TX1 6).2.2.1 ∈ zw := zw_1 79 (by decide +kernel) (by decide +kernel)
theorem fl_X1_27 : zFl RX1 27 1 6 := ⟨RX1, TX1, 9, rfl, in_X1, by decide, fw_X1_27⟩
theorem fq_X1_27 : zPl RX1 27 1 6 (.array .int) true := ⟨RX1, TX1, 9, tyX1, rfl, in_X1, by decide, fw_X1_27, tyX1_ok, nmX1, tyX1_ok 6 (by decide), rfl, fun _ => rfl⟩
theorem fw_X1_30 : Cond.fieldLink RX1 30 (TX1 7).1 (TX1 7).2.1 (TX1 7).2.2.1 ∈ zw := zw_1 80 (by decide +kernel) (by decide +kernel)
theorem fl_X1_30 : zFl RX1 30 1 7 := ⟨RX1, TX1, 9, rfl, in_X1, by decide, fw_X1_30⟩
theorem fq_X1_30 : zPl RX1 30 1 7 (.array .int) true := ⟨RX1, TX1, 9, tyX1, rfl, in_X1, by decide, fw_X1_30, tyX1_ok, nmX1, tyX1_ok 7 (by decide), rfl, fun _ => rfl⟩
theorem fw_X1_33 : Cond.fieldLink RX1 33 (TX1 4).1 (TX1 4).2.1 (TX1 4).2.2.1 ∈ zw := zw_1 77 (by decide +kernel) (by decide +kernel)
theorem fl_X1_33 : zFl RX1 33 1 4 := ⟨RX1, TX1, 9, rfl, in_X1, by decide, fw_X1_33⟩
theorem fq_X1_33 : zPl RX1 33 1 4 .int false := ⟨RX1, TX1, 9, tyX1, rfl, in_X1, by decide, fw_X1_33, tyX1_ok, nmX1, tyX1_ok 4 (by decide), rfl, fun h => nomatch h⟩
theorem fw_X1_37 : Cond.fieldLink RX1 37 (TX1 8).1 (TX1 8).2.1 (TX1 8).2.2.1 ∈ zw := zw_1 81 (by decide +kernel) (by decide +kernel)
theorem fl_X1_37 : zFl RX1 37 1 8 := ⟨RX1, TX1, 9, rfl, in_X1, by decide, fw_X1_37⟩
theorem fq_X1_37 : zPl RX1 37 1 8 .int false := ⟨RX1, TX1, 9, tyX1, rfl, in_X1, by decide, fw_X1_37, tyX1_ok, nmX1, tyX1_ok 8 (by decide), rfl, fun h => nomatch h⟩
theorem fw_X2_9 : Cond.fieldLink RX2 9 (TX2 0).1 (TX2 0).2.1 (TX2 0).2.2.1 ∈ zw := zw_6 152 (by decide +kernel) (by decide +kernel)
theorem fl_X2_9 : zFl RX2 9 2 0 := ⟨RX2, TX2, 3, rfl, in_X2, by decide, fw_X2_9⟩
theorem fq_X2_9 : zPl RX2 9 2 0 (.array .int) true := ⟨RX2, TX2, 3, tyX2, rfl, in_X2, by decide, fw_X2_9, tyX2_ok, nmX2, tyX2_ok 0 (by decide), rfl, fun _ => rfl⟩
theorem fw_X2_15 : Cond.fieldLink RX2 15 (TX2 1).1 (TX2 1).2.1 (TX2 1).2.2.1 ∈ zw := zw_6 153 (by decide +kernel) (by decide +kernel)
theorem fl_X2_15 : zFl RX2 15 2 1 := ⟨RX2, TX2, 3, rfl, in_X2, by decide, fw_X2_15⟩
theorem fq_X2_15 : zPl RX2 15 2 1 (.array .int) true := ⟨RX2, TX2, 3, tyX2, rfl, in_X2, by decide, fw_X2_15, tyX2_ok, nmX2, tyX2_ok 1 (by decide), rfl, fun _ => rfl⟩
theorem fw_X2_18 : Cond.fieldLink RX2 18 (TX2 2).1 (TX2 2).2.1 (TX2 2).2.2.1 ∈ zw := zw_6 154 (by decide +kernel) (by decide +kernel)
theorem fl_X2_18 : zFl RX2 18 2 2 := ⟨RX2, TX2, 3, rfl, in_X2, by decide, fw_X2_18⟩
theorem fq_X2_18 : zPl RX2 18 2 2 .int false := ⟨RX2, TX2, 3, tyX2, rfl, in_X2, by decide, fw_X2_18, tyX2_ok, nmX2, tyX2_ok 2 (by decide), rfl, fun h => nomatch h⟩
theorem fw_X3_11 : Cond.fieldLink RX3 11 (TX3 0).1 (TX3 0).2.1 (TX3 0).2.2.1 ∈ zw := zw_1 108 (by decide +kernel) (by decide +kernel)
theorem fl_X3_11 : zFl RX3 11 3 0 := ⟨RX3, TX3, 4, rfl, in_X3, by decide, fw_X3_11⟩
theorem fq_X3_11 : zPl RX3 11 3 0 (.array .int) true := ⟨RX3, TX3, 4, tyX3, rfl, in_X3, by decide, fw_X3_11, tyX3_ok, nmX3, tyX3_ok 0 (by decide), rfl, fun _ => rfl⟩
theorem fw_X3_15 : Cond.fieldLink RX3 15 (TX3 1).1 (TX3 1).2.1 (TX3 1).2.2.1 ∈ zw := zw_1 109 (by decide +kernel) (by decide +kernel)
theorem fl_X3_15 : zFl RX3 15 3 1 := ⟨RX3, TX3, 4, rfl, in_X3, by decide, fw_X3_15⟩
theorem fq_X3_15 : zPl RX3 15 3 1 (.array .int) true := ⟨RX3, TX3, 4, tyX3, rfl, in_X3, by decide, fw_X3_15, tyX3_ok, nmX3, tyX3_ok 1 (by decide), rfl, fun _ => rfl⟩
theorem fw_X3_18 : Cond.fieldLink RX3 18 (TX3 2).1 (TX3 2).2.1 (TX3 2).2.2.1 ∈ zw := zw_1 110 (by decide +kernel) (by decide +kernel)
theorem fl_X3_18 : zFl RX3 18 3 2 := ⟨RX3, TX3, 4, rfl, in_X3, by decide, fw_X3_18⟩
theorem fq_X3_18 : zPl RX3 18 3 2 (.array .int) true := ⟨RX3, TX3, 4, tyX3, rfl, in_X3, by decide, fw_X3_18, tyX3_ok, nmX3, tyX3_ok 2 (by decide), rfl, fun _ => rfl⟩
theorem fw_X3_27 : Cond.fieldLink RX3 27 (TX3 3).1 (TX3 3).2.1 (TX3 3).2.2.1 ∈ zw := zw_1 111 (by decide +kernel) (by decide +kernel)
theorem fl_X3_27 : zFl RX3 27 3 3 := ⟨RX3, TX3, 4, rfl, in_X3, by decide, fw_X3_27⟩
theorem fq_X3_27 : zPl RX3 27 3 3 .int false := ⟨RX3, TX3, 4, tyX3, rfl, in_X3, by decide, fw_X3_27, tyX3_ok, nmX3, tyX3_ok 3 (by decide), rfl, fun h => nomatch h⟩
theorem fw_X4_7 : Cond.fieldLink RX4 7 (TX4 0).1 (TX4 0).2.1 (TX4 0).2.2.1 ∈ zw := zw_5 23 (by decide +kernel) (by decide +kernel)
theorem fl_X4_7 : zFl RX4 7 4 0 := ⟨RX4, TX4, 3, rfl, in_X4, by decide, fw_X4_7⟩
theorem fq_X4_7 : zPl RX4 7 4 0 .int true := ⟨RX4, TX4, 3, tyX4, rfl, in_X4, by decide, fw_X4_7, tyX4_ok, nmX4, tyX4_ok 0 (by decide), rfl, fun _ => rfl⟩
theorem fw_X4_13 : Cond.fieldLink RX4 13 (TX4 1).1 (TX4 1).2.1 (TX4 1).2.2.1 ∈ zw := zw_5 25 (by decide +kernel) (by decide +kernel)
theorem fl_X4_13 : zFl RX4 13 4 1 := ⟨RX4, TX4, 3, rfl, in_X4, by decide, fw_X4_13⟩
theorem fq_X4_13 : zPl RX4 13 4 1 .int true := ⟨RX4, TX4, 3, tyX4, rfl, in_X4, by decide, fw_X4_13, tyX4_ok, nmX4, tyX4_ok 1 (by decide), rfl, fun _ => rfl⟩
theorem fw_X4_16 : Cond.fieldLink RX4 16 (TX4 2).1 (TX4 2).2.1 (TX4 2).2.2.1 ∈ zw := zw_5 27 (by decide +kernel) (by decide +kernel)
theorem fl_X4_16 : zFl RX4 16 4 2 := ⟨RX4, TX4, 3, rfl, in_X4, by decide, fw_X4_16⟩
theorem fq_X4_16 : zPl RX4 16 4 2 .int true := ⟨RX4, TX4, 3, tyX4, rfl, in_X4, by decide, fw_X4_16, tyX4_ok, nmX4, tyX4_ok 2 (by decide), rfl, fun _ => rfl⟩
theorem fw_X5_9 : Cond.fieldLink RX5 9 (TX5 1).1 (TX5 1).2.1 (TX5 1).2.2.1 ∈ zw := zw_1 139 (by decide +kernel) (by decide +kernel)
theorem fl_X5_9 : zFl RX5 9 5 1 := ⟨RX5, TX5, 14, rfl, in_X5, by decide, fw_X5_9⟩
theorem fq_X5_9 : zPl RX5 9 5 1 (.array .int) true := ⟨RX5, TX5, 14, tyX5, rfl, in_X5, by decide, fw_X5_9, tyX5_ok, nmX5, tyX5_ok 1 (by decide), rfl, fun _ => rfl⟩
theorem fw_X5_17 : Cond.fieldLink RX5 17 (TX5 2).1 (TX5 2).2.1 (TX5 2).2.2.1 ∈ zw := zw_1 142 (by decide +kernel) (by decide +kernel)
theorem fl_X5_17 : zFl RX5 17 5 2 := ⟨RX5, TX5, 14, rfl, in_X5, by decide, fw_X5_17⟩
theorem fq_X5_17 : zPl RX5 17 5 2 (.array (.array .int)) true := ⟨RX5, TX5, 14, tyX5, rfl, in_X5, by decide, fw_X5_17, tyX5_ok, nmX5, tyX5_ok 2 (by decide), rfl, fun _ => rfl⟩
theorem fw_X5_20 : Cond.fieldLink RX5 20 (TX5 5).1 (TX5 5).2.1 (TX5 5).2.2.1 ∈ zw := zw_1 148 (by decide +kernel) (by decide +kernel)
theorem fl_X5_20 : zFl RX5 20 5 5 := ⟨RX5, TX5, 14, rfl, in_X5, by decide, fw_X5_20⟩
theorem fq_X5_20 : zPl RX5 20 5 5 .int false := ⟨RX5, TX5, 14, tyX5, rfl, in_X5, by decide, fw_X5_20, tyX5_ok, nmX5, tyX5_ok 5 (by decide), rfl, fun h => nomatch h⟩
theorem fw_X5_24 : Cond.fieldLink RX5 24 (TX5 7).1 (TX5 7).2.1 (TX5 7).2.2.1 ∈ zw := zw_1 153 (by decide +kernel) (by decide +kernel)
theorem fl_X5_24 : zFl RX5 24 5 7 := ⟨RX5, TX5, 14, rfl, in_X5, by decide, fw_X5_24⟩
theorem fq_X5_24 : zPl RX5 24 5 7 .int false := ⟨RX5, TX5, 14, tyX5, rfl, in_X5, by decide, fw_X5_24, tyX5_ok, nmX5, tyX5_ok 7 (by decide), rfl, fun h => nomatch h⟩
theorem fw_X5_27 : Cond.fieldLink RX5 27 (TX5 8).1 (TX5 8).2.1 (TX5 8).2.2.1 ∈ zw := zw_1 156 (by decide +kernel) (by decide +kernel)
theorem fl_X5_27 : zFl RX5 27 5 8 := ⟨RX5, TX5, 14, rfl, in_X5, by decide, fw_X5_27⟩
theorem fq_X5_27 : zPl RX5 27 5 8 .int false := ⟨RX5, TX5, 14, tyX5, rfl, in_X5, by decide, fw_X5_27, tyX5_ok, nmX5, tyX5_ok 8 (by decide), rfl, fun h => nomatch h⟩
theorem fw_X5_30 : Cond.fieldLink RX5 30 (TX5 10).1 (TX5 10).2.1 (TX5 10).2.2.1 ∈ zw := zw_1 161 (by decide +kernel) (by decide +kernel)
theorem fl_X5_30 : zFl RX5 30 5 10 := ⟨RX5, TX5, 14, rfl, in_X5, by decide, fw_X5_30⟩
theorem fq_X5_30 : zPl RX5 30 5 10 .int false := ⟨RX5, TX5, 14, tyX5, rfl, in_X5, by decide, fw_X5_30, tyX5_ok, nmX5, tyX5_ok 10 (by decide), rfl, fun h => nomatch h⟩
theorem fw_X5_33 : Cond.fieldLink RX5 33 (TX5 11).1 (TX5 11).2.1 (TX5 11).2.2.1 ∈ zw := zw_1 164 (by decide +kernel) (by decide +kernel)
theorem fl_X5_33 : zFl RX5 33 5 11 := ⟨RX5, TX5, 14, rfl, in_X5, by decide, fw_X5_33⟩
theorem fq_X5_33 : zPl RX5 33 5 11 .int false := ⟨RX5, TX5, 14, tyX5, rfl, in_X5, by decide, fw_X5_33, tyX5_ok, nmX5, tyX5_ok 11 (by decide), rfl, fun h => nomatch h⟩
theorem fw_X5_36 : Cond.fieldLink RX5 36 (TX5 12).1 (TX5 12).2.1 (TX5 12).2.2.1 ∈ zw := zw_1 167 (by decide +kernel) (by decide +kernel)
theorem fl_X5_36 : zFl RX5 36 5 12 := ⟨RX5, TX5, 14, rfl, in_X5, by decide, fw_X5_36⟩
theorem fq_X5_36 : zPl RX5 36 5 12 .int false := ⟨RX5, TX5, 14, tyX5, rfl, in_X5, by decide, fw_X5_36, tyX5_ok, nmX5, tyX5_ok 12 (by decide), rfl, fun h => nomatch h⟩
theorem fw_X5_39 : Cond.fieldLink RX5 39 (TX5 13).1 (TX5 13).2.1 (TX5 13).2.2.1 ∈ zw := zw_1 170 (by decide +kernel) (by decide +kernel)
theorem fl_X5_39 : zFl RX5 39 5 13 := ⟨RX5, TX5, 14, rfl, in_X5, by decide, fw_X5_39⟩
theorem fq_X5_39 : zPl RX5 39 5 13 .int false := ⟨RX5, TX5, 14, tyX5, rfl, in_X5, by decide, fw_X5_39, tyX5_ok, nmX5, tyX5_ok 13 (by decide), rfl, fun h => nomatch h⟩
theorem fw_X5_42 : Cond.fieldLink RX5 42 (TX5 4).1 (TX5 4).2.1 (TX5 4).2.2.1 ∈ zw := zw_1 146 (by decide +kernel) (by decide +kernel)
theorem fl_X5_42 : zFl RX5 42 5 4 := ⟨RX5, TX5, 14, rfl, in_X5, by decide, fw_X5_42⟩
theorem fq_X5_42 : zPl RX5 42 5 4 .int false := ⟨RX5, TX5, 14, tyX5, rfl, in_X5, by decide, fw_X5_42, tyX5_ok, nmX5, tyX5_ok 4 (by decide), rfl, fun h => nomatch h⟩
theorem fw_X6_9 : Cond.fieldLink RX6 9 (TX6 1).1 (TX6 1).2.1 (TX6 1).2.2.1 ∈ zw := zw_1 204 (by decide +kernel) (by decide +kernel)
theorem fl_X6_9 : zFl RX6 9 6 1 := ⟨RX6, TX6, 13, rfl, in_X6, by decide, fw_X6_9⟩
theorem fq_X6_9 : zPl RX6 9 6 1 (.array .int) true := ⟨RX6, TX6, 13, tyX6, rfl, in_X6, by decide, fw_X6_9, tyX6_ok, nmX6, tyX6_ok 1 (by decide), rfl, fun _ => rfl⟩
theorem fw_X6_21 : Cond.fieldLink RX6 21 (TX6 6).1 (TX6 6).2.1 (TX6 6).2.2.1 ∈ zw := zw_1 209 (by decide +kernel) (by decide +kernel)
theorem fl_X6_21 : zFl RX6 21 6 6 := ⟨RX6, TX6, 13, rfl, in_X6, by decide, fw_X6_21⟩
theorem fq_X6_21 : zPl RX6 21 6 6 (.object "PartyWalls$Word") false := ⟨RX6, TX6, 13, tyX6, rfl, in_X6, by decide, fw_X6_21, tyX6_ok, nmX6, tyX6_ok 6 (by decide), rfl, fun h => nomatch h⟩
theorem fw_X6_24 : Cond.fieldLink RX6 24 (TX6 7).1 (TX6 7).2.1 (TX6 7).2.2.1 ∈ zw := zw_1 210 (by decide +kernel) (by decide +kernel)
theorem fl_X6_24 : zFl RX6 24 6 7 := ⟨RX6, TX6, 13, rfl, in_X6, by decide, fw_X6_24⟩
theorem fq_X6_24 : zPl RX6 24 6 7 .int false := ⟨RX6, TX6, 13, tyX6, rfl, in_X6, by decide, fw_X6_24, tyX6_ok, nmX6, tyX6_ok 7 (by decide), rfl, fun h => nomatch h⟩
theorem fw_X6_28 : Cond.fieldLink RX6 28 (TX6 8).1 (TX6 8).2.1 (TX6 8).2.2.1 ∈ zw := zw_1 211 (by decide +kernel) (by decide +kernel)
theorem fl_X6_28 : zFl RX6 28 6 8 := ⟨RX6, TX6, 13, rfl, in_X6, by decide, fw_X6_28⟩
theorem fq_X6_28 : zPl RX6 28 6 8 .char false := ⟨RX6, TX6, 13, tyX6, rfl, in_X6, by decide, fw_X6_28, tyX6_ok, nmX6, tyX6_ok 8 (by decide), rfl, fun h => nomatch h⟩
theorem fw_X6_35 : Cond.fieldLink RX6 35 (TX6 10).1 (TX6 10).2.1 (TX6 10).2.2.1 ∈ zw := zw_1 213 (by decide +kernel) (by decide +kernel)
theorem fl_X6_35 : zFl RX6 35 6 10 := ⟨RX6, TX6, 13, rfl, in_X6, by decide, fw_X6_35⟩
theorem fq_X6_35 : zPl RX6 35 6 10 (.object "PartyWalls$Rule") false := ⟨RX6, TX6, 13, tyX6, rfl, in_X6, by decide, fw_X6_35, tyX6_ok, nmX6, tyX6_ok 10 (by decide), rfl, fun h => nomatch h⟩
theorem fw_X6_39 : Cond.fieldLink RX6 39 (TX6 12).1 (TX6 12).2.1 (TX6 12).2.2.1 ∈ zw := zw_1 215 (by decide +kernel) (by decide +kernel)
theorem fl_X6_39 : zFl RX6 39 6 12 := ⟨RX6, TX6, 13, rfl, in_X6, by decide, fw_X6_39⟩
theorem fq_X6_39 : zPl RX6 39 6 12 .int false := ⟨RX6, TX6, 13, tyX6, rfl, in_X6, by decide, fw_X6_39, tyX6_ok, nmX6, tyX6_ok 12 (by decide), rfl, fun h => nomatch h⟩
theorem fw_X6_42 : Cond.fieldLink RX6 42 (TX6 0).1 (TX6 0).2.1 (TX6 0).2.2.1 ∈ zw := zw_1 203 (by decide +kernel) (by decide +kernel)
theorem fl_X6_42 : zFl RX6 42 6 0 := ⟨RX6, TX6, 13, rfl, in_X6, by decide, fw_X6_42⟩
theorem fq_X6_42 : zPl RX6 42 6 0 (.array .byte) true := ⟨RX6, TX6, 13, tyX6, rfl, in_X6, by decide, fw_X6_42, tyX6_ok, nmX6, tyX6_ok 0 (by decide), rfl, fun _ => rfl⟩
theorem fw_X6_46 : Cond.fieldLink RX6 46 (TX6 11).1 (TX6 11).2.1 (TX6 11).2.2.1 ∈ zw := zw_1 214 (by decide +kernel) (by decide +kernel)
theorem fl_X6_46 : zFl RX6 46 6 11 := ⟨RX6, TX6, 13, rfl, in_X6, by decide, fw_X6_46⟩
theorem fq_X6_46 : zPl RX6 46 6 11 .int false := ⟨RX6, TX6, 13, tyX6, rfl, in_X6, by decide, fw_X6_46, tyX6_ok, nmX6, tyX6_ok 11 (by decide), rfl, fun h => nomatch h⟩
theorem fw_X6_55 : Cond.fieldLink RX6 55 (TX6 3).1 (TX6 3).2.1 (TX6 3).2.2.1 ∈ zw := zw_1 206 (by decide +kernel) (by decide +kernel)
theorem fl_X6_55 : zFl RX6 55 6 3 := ⟨RX6, TX6, 13, rfl, in_X6, by decide, fw_X6_55⟩
theorem fq_X6_55 : zPl RX6 55 6 3 .int false := ⟨RX6, TX6, 13, tyX6, rfl, in_X6, by decide, fw_X6_55, tyX6_ok, nmX6, tyX6_ok 3 (by decide), rfl, fun h => nomatch h⟩
theorem fw_X6_58 : Cond.fieldLink RX6 58 (TX6 5).1 (TX6 5).2.1 (TX6 5).2.2.1 ∈ zw := zw_1 208 (by decide +kernel) (by decide +kernel)
theorem fl_X6_58 : zFl RX6 58 6 5 := ⟨RX6, TX6, 13, rfl, in_X6, by decide, fw_X6_58⟩
theorem fq_X6_58 : zPl RX6 58 6 5 .int false := ⟨RX6, TX6, 13, tyX6, rfl, in_X6, by decide, fw_X6_58, tyX6_ok, nmX6, tyX6_ok 5 (by decide), rfl, fun h => nomatch h⟩
theorem fw_X6_64 : Cond.fieldLink RX6 64 (TX6 4).1 (TX6 4).2.1 (TX6 4).2.2.1 ∈ zw := zw_1 207 (by decide +kernel) (by decide +kernel)
theorem fl_X6_64 : zFl RX6 64 6 4 := ⟨RX6, TX6, 13, rfl, in_X6, by decide, fw_X6_64⟩
theorem fq_X6_64 : zPl RX6 64 6 4 .int false := ⟨RX6, TX6, 13, tyX6, rfl, in_X6, by decide, fw_X6_64, tyX6_ok, nmX6, tyX6_ok 4 (by decide), rfl, fun h => nomatch h⟩
theorem fw_X6_83 : Cond.fieldLink RX6 83 (TX6 9).1 (TX6 9).2.1 (TX6 9).2.2.1 ∈ zw := zw_1 212 (by decide +kernel) (by decide +kernel)
theorem fl_X6_83 : zFl RX6 83 6 9 := ⟨RX6, TX6, 13, rfl, in_X6, by decide, fw_X6_83⟩
theorem fq_X6_83 : zPl RX6 83 6 9 .int false := ⟨RX6, TX6, 13, tyX6, rfl, in_X6, by decide, fw_X6_83, tyX6_ok, nmX6, tyX6_ok 9 (by decide), rfl, fun h => nomatch h⟩
theorem fw_X6_90 : Cond.fieldLink RX6 90 (TX5 0).1 (TX5 0).2.1 (TX5 0).2.2.1 ∈ zw := zw_1 138 (by decide +kernel) (by decide +kernel)
theorem fl_X6_90 : zFl RX6 90 5 0 := ⟨RX5, TX5, 14, rfl, in_X5, by decide, fw_X6_90⟩
theorem fq_X6_90 : zPl RX6 90 5 0 .int false := ⟨RX5, TX5, 14, tyX5, rfl, in_X5, by decide, fw_X6_90, tyX5_ok, nmX5, tyX5_ok 0 (by decide), rfl, fun h => nomatch h⟩
theorem fw_X6_129 : Cond.fieldLink RX6 129 (TX5 3).1 (TX5 3).2.1 (TX5 3).2.2.1 ∈ zw := zw_1 145 (by decide +kernel) (by decide +kernel)
theorem fl_X6_129 : zFl RX6 129 5 3 := ⟨RX5, TX5, 14, rfl, in_X5, by decide, fw_X6_129⟩
theorem fq_X6_129 : zPl RX6 129 5 3 .int false := ⟨RX5, TX5, 14, tyX5, rfl, in_X5, by decide, fw_X6_129, tyX5_ok, nmX5, tyX5_ok 3 (by decide), rfl, fun h => nomatch h⟩
theorem fw_X6_132 : Cond.fieldLink RX6 132 (TX5 5).1 (TX5 5).2.1 (TX5 5).2.2.1 ∈ zw := zw_1 150 (by decide +kernel) (by decide +kernel)
theorem fl_X6_132 : zFl RX6 132 5 5 := ⟨RX5, TX5, 14, rfl, in_X5, by decide, fw_X6_132⟩
theorem fq_X6_132 : zPl RX6 132 5 5 .int false := ⟨RX5, TX5, 14, tyX5, rfl, in_X5, by decide, fw_X6_132, tyX5_ok, nmX5, tyX5_ok 5 (by decide), rfl, fun h => nomatch h⟩
theorem fw_X6_135 : Cond.fieldLink RX6 135 (TX5 7).1 (TX5 7).2.1 (TX5 7).2.2.1 ∈ zw := zw_1 155 (by decide +kernel) (by decide +kernel)
theorem fl_X6_135 : zFl RX6 135 5 7 := ⟨RX5, TX5, 14, rfl, in_X5, by decide, fw_X6_135⟩
theorem fq_X6_135 : zPl RX6 135 5 7 .int false := ⟨RX5, TX5, 14, tyX5, rfl, in_X5, by decide, fw_X6_135, tyX5_ok, nmX5, tyX5_ok 7 (by decide), rfl, fun h => nomatch h⟩
theorem fw_X6_138 : Cond.fieldLink RX6 138 (TX5 8).1 (TX5 8).2.1 (TX5 8).2.2.1 ∈ zw := zw_1 157 (by decide +kernel) (by decide +kernel)
theorem fl_X6_138 : zFl RX6 138 5 8 := ⟨RX5, TX5, 14, rfl, in_X5, by decide, fw_X6_138⟩
theorem fq_X6_138 : zPl RX6 138 5 8 .int false := ⟨RX5, TX5, 14, tyX5, rfl, in_X5, by decide, fw_X6_138, tyX5_ok, nmX5, tyX5_ok 8 (by decide), rfl, fun h => nomatch h⟩
theorem fw_X6_141 : Cond.fieldLink RX6 141 (TX5 9).1 (TX5 9).2.1 (TX5 9).2.2.1 ∈ zw := zw_1 159 (by decide +kernel) (by decide +kernel)
theorem fl_X6_141 : zFl RX6 141 5 9 := ⟨RX5, TX5, 14, rfl, in_X5, by decide, fw_X6_141⟩
theorem fq_X6_141 : zPl RX6 141 5 9 .int false := ⟨RX5, TX5, 14, tyX5, rfl, in_X5, by decide, fw_X6_141, tyX5_ok, nmX5, tyX5_ok 9 (by decide), rfl, fun h => nomatch h⟩
theorem fw_X6_144 : Cond.fieldLink RX6 144 (TX5 10).1 (TX5 10).2.1 (TX5 10).2.2.1 ∈ zw := zw_1 162 (by decide +kernel) (by decide +kernel)
theorem fl_X6_144 : zFl RX6 144 5 10 := ⟨RX5, TX5, 14, rfl, in_X5, by decide, fw_X6_144⟩
theorem fq_X6_144 : zPl RX6 144 5 10 .int false := ⟨RX5, TX5, 14, tyX5, rfl, in_X5, by decide, fw_X6_144, tyX5_ok, nmX5, tyX5_ok 10 (by decide), rfl, fun h => nomatch h⟩
theorem fw_X6_147 : Cond.fieldLink RX6 147 (TX5 11).1 (TX5 11).2.1 (TX5 11).2.2.1 ∈ zw := zw_1 165 (by decide +kernel) (by decide +kernel)
theorem fl_X6_147 : zFl RX6 147 5 11 := ⟨RX5, TX5, 14, rfl, in_X5, by decide, fw_X6_147⟩
theorem fq_X6_147 : zPl RX6 147 5 11 .int false := ⟨RX5, TX5, 14, tyX5, rfl, in_X5, by decide, fw_X6_147, tyX5_ok, nmX5, tyX5_ok 11 (by decide), rfl, fun h => nomatch h⟩
theorem fw_X6_150 : Cond.fieldLink RX6 150 (TX5 4).1 (TX5 4).2.1 (TX5 4).2.2.1 ∈ zw := zw_1 147 (by decide +kernel) (by decide +kernel)
theorem fl_X6_150 : zFl RX6 150 5 4 := ⟨RX5, TX5, 14, rfl, in_X5, by decide, fw_X6_150⟩
theorem fq_X6_150 : zPl RX6 150 5 4 .int false := ⟨RX5, TX5, 14, tyX5, rfl, in_X5, by decide, fw_X6_150, tyX5_ok, nmX5, tyX5_ok 4 (by decide), rfl, fun h => nomatch h⟩
theorem fw_X6_159 : Cond.fieldLink RX6 159 (TX5 6).1 (TX5 6).2.1 (TX5 6).2.2.1 ∈ zw := zw_1 152 (by decide +kernel) (by decide +kernel)
theorem fl_X6_159 : zFl RX6 159 5 6 := ⟨RX5, TX5, 14, rfl, in_X5, by decide, fw_X6_159⟩
theorem fq_X6_159 : zPl RX6 159 5 6 .boolean false := ⟨RX5, TX5, 14, tyX5, rfl, in_X5, by decide, fw_X6_159, tyX5_ok, nmX5, tyX5_ok 6 (by decide), rfl, fun h => nomatch h⟩
theorem fw_X6_162 : Cond.fieldLink RX6 162 (TX5 12).1 (TX5 12).2.1 (TX5 12).2.2.1 ∈ zw := zw_1 168 (by decide +kernel) (by decide +kernel)
theorem fl_X6_162 : zFl RX6 162 5 12 := ⟨RX5, TX5, 14, rfl, in_X5, by decide, fw_X6_162⟩
theorem fq_X6_162 : zPl RX6 162 5 12 .int false := ⟨RX5, TX5, 14, tyX5, rfl, in_X5, by decide, fw_X6_162, tyX5_ok, nmX5, tyX5_ok 12 (by decide), rfl, fun h => nomatch h⟩
theorem fw_X6_165 : Cond.fieldLink RX6 165 (TX5 13).1 (TX5 13).2.1 (TX5 13).2.2.1 ∈ zw := zw_1 171 (by decide +kernel) (by decide +kernel)
theorem fl_X6_165 : zFl RX6 165 5 13 := ⟨RX5, TX5, 14, rfl, in_X5, by decide, fw_X6_165⟩
theorem fq_X6_165 : zPl RX6 165 5 13 .int false := ⟨RX5, TX5, 14, tyX5, rfl, in_X5, by decide, fw_X6_165, tyX5_ok, nmX5, tyX5_ok 13 (by decide), rfl, fun h => nomatch h⟩
theorem fw_X6_168 : Cond.fieldLink RX6 168 (TX5 1).1 (TX5 1).2.1 (TX5 1).2.2.1 ∈ zw := zw_1 141 (by decide +kernel) (by decide +kernel)
theorem fl_X6_168 : zFl RX6 168 5 1 := ⟨RX5, TX5, 14, rfl, in_X5, by decide, fw_X6_168⟩
theorem fw_X6_171 : Cond.fieldLink RX6 171 (TX6 2).1 (TX6 2).2.1 (TX6 2).2.2.1 ∈ zw := zw_1 205 (by decide +kernel) (by decide +kernel)
theorem fl_X6_171 : zFl RX6 171 6 2 := ⟨RX6, TX6, 13, rfl, in_X6, by decide, fw_X6_171⟩
theorem fq_X6_171 : zPl RX6 171 6 2 .int false := ⟨RX6, TX6, 13, tyX6, rfl, in_X6, by decide, fw_X6_171, tyX6_ok, nmX6, tyX6_ok 2 (by decide), rfl, fun h => nomatch h⟩
theorem fw_X6_180 : Cond.fieldLink RX6 180 (TX5 2).1 (TX5 2).2.1 (TX5 2).2.2.1 ∈ zw := zw_1 143 (by decide +kernel) (by decide +kernel)
theorem fl_X6_180 : zFl RX6 180 5 2 := ⟨RX5, TX5, 14, rfl, in_X5, by decide, fw_X6_180⟩
theorem fw_X7_9 : Cond.fieldLink RX7 9 (TX7 1).1 (TX7 1).2.1 (TX7 1).2.2.1 ∈ zw := zw_6 45 (by decide +kernel) (by decide +kernel)
theorem fl_X7_9 : zFl RX7 9 7 1 := ⟨RX7, TX7, 4, rfl, in_X7, by decide, fw_X7_9⟩
theorem fq_X7_9 : zPl RX7 9 7 1 (.array .int) true := ⟨RX7, TX7, 4, tyX7, rfl, in_X7, by decide, fw_X7_9, tyX7_ok, nmX7, tyX7_ok 1 (by decide), rfl, fun _ => rfl⟩
theorem fw_X7_15 : Cond.fieldLink RX7 15 (TX7 2).1 (TX7 2).2.1 (TX7 2).2.2.1 ∈ zw := zw_6 46 (by decide +kernel) (by decide +kernel)
theorem fl_X7_15 : zFl RX7 15 7 2 := ⟨RX7, TX7, 4, rfl, in_X7, by decide, fw_X7_15⟩
theorem fq_X7_15 : zPl RX7 15 7 2 (.array .int) true := ⟨RX7, TX7, 4, tyX7, rfl, in_X7, by decide, fw_X7_15, tyX7_ok, nmX7, tyX7_ok 2 (by decide), rfl, fun _ => rfl⟩
theorem fw_X7_18 : Cond.fieldLink RX7 18 (TX7 0).1 (TX7 0).2.1 (TX7 0).2.2.1 ∈ zw := zw_6 44 (by decide +kernel) (by decide +kernel)
theorem fl_X7_18 : zFl RX7 18 7 0 := ⟨RX7, TX7, 4, rfl, in_X7, by decide, fw_X7_18⟩
theorem fq_X7_18 : zPl RX7 18 7 0 .int true := ⟨RX7, TX7, 4, tyX7, rfl, in_X7, by decide, fw_X7_18, tyX7_ok, nmX7, tyX7_ok 0 (by decide), rfl, fun _ => rfl⟩
theorem fw_X7_22 : Cond.fieldLink RX7 22 (TX7 3).1 (TX7 3).2.1 (TX7 3).2.2.1 ∈ zw := zw_6 47 (by decide +kernel) (by decide +kernel)
theorem fl_X7_22 : zFl RX7 22 7 3 := ⟨RX7, TX7, 4, rfl, in_X7, by decide, fw_X7_22⟩
theorem fq_X7_22 : zPl RX7 22 7 3 .int false := ⟨RX7, TX7, 4, tyX7, rfl, in_X7, by decide, fw_X7_22, tyX7_ok, nmX7, tyX7_ok 3 (by decide), rfl, fun h => nomatch h⟩
theorem fw_X8_9 : Cond.fieldLink RX8 9 (TX8 0).1 (TX8 0).2.1 (TX8 0).2.2.1 ∈ zw := zw_2 200 (by decide +kernel) (by decide +kernel)
theorem fl_X8_9 : zFl RX8 9 8 0 := ⟨RX8, TX8, 6, rfl, in_X8, by decide, fw_X8_9⟩
theorem fq_X8_9 : zPl RX8 9 8 0 (.array .int) true := ⟨RX8, TX8, 6, tyX8, rfl, in_X8, by decide, fw_X8_9, tyX8_ok, nmX8, tyX8_ok 0 (by decide), rfl, fun _ => rfl⟩
theorem fw_X8_15 : Cond.fieldLink RX8 15 (TX8 1).1 (TX8 1).2.1 (TX8 1).2.2.1 ∈ zw := zw_2 201 (by decide +kernel) (by decide +kernel)
theorem fl_X8_15 : zFl RX8 15 8 1 := ⟨RX8, TX8, 6, rfl, in_X8, by decide, fw_X8_15⟩
theorem fq_X8_15 : zPl RX8 15 8 1 (.array .int) true := ⟨RX8, TX8, 6, tyX8, rfl, in_X8, by decide, fw_X8_15, tyX8_ok, nmX8, tyX8_ok 1 (by decide), rfl, fun _ => rfl⟩
theorem fw_X8_18 : Cond.fieldLink RX8 18 (TX8 2).1 (TX8 2).2.1 (TX8 2).2.2.1 ∈ zw := zw_2 202 (by decide +kernel) (by decide +kernel)
theorem fl_X8_18 : zFl RX8 18 8 2 := ⟨RX8, TX8, 6, rfl, in_X8, by decide, fw_X8_18⟩
theorem fq_X8_18 : zPl RX8 18 8 2 (.array .int) true := ⟨RX8, TX8, 6, tyX8, rfl, in_X8, by decide, fw_X8_18, tyX8_ok, nmX8, tyX8_ok 2 (by decide), rfl, fun _ => rfl⟩
theorem fw_X8_21 : Cond.fieldLink RX8 21 (TX8 3).1 (TX8 3).2.1 (TX8 3).2.2.1 ∈ zw := zw_2 203 (by decide +kernel) (by decide +kernel)
theorem fl_X8_21 : zFl RX8 21 8 3 := ⟨RX8, TX8, 6, rfl, in_X8, by decide, fw_X8_21⟩
theorem fq_X8_21 : zPl RX8 21 8 3 (.array .int) true := ⟨RX8, TX8, 6, tyX8, rfl, in_X8, by decide, fw_X8_21, tyX8_ok, nmX8, tyX8_ok 3 (by decide), rfl, fun _ => rfl⟩
theorem fw_X8_24 : Cond.fieldLink RX8 24 (TX8 4).1 (TX8 4).2.1 (TX8 4).2.2.1 ∈ zw := zw_2 204 (by decide +kernel) (by decide +kernel)
theorem fl_X8_24 : zFl RX8 24 8 4 := ⟨RX8, TX8, 6, rfl, in_X8, by decide, fw_X8_24⟩
theorem fq_X8_24 : zPl RX8 24 8 4 (.array .int) true := ⟨RX8, TX8, 6, tyX8, rfl, in_X8, by decide, fw_X8_24, tyX8_ok, nmX8, tyX8_ok 4 (by decide), rfl, fun _ => rfl⟩
theorem fw_X8_27 : Cond.fieldLink RX8 27 (TX8 5).1 (TX8 5).2.1 (TX8 5).2.2.1 ∈ zw := zw_2 205 (by decide +kernel) (by decide +kernel)
theorem fl_X8_27 : zFl RX8 27 8 5 := ⟨RX8, TX8, 6, rfl, in_X8, by decide, fw_X8_27⟩
theorem fq_X8_27 : zPl RX8 27 8 5 (.array .int) true := ⟨RX8, TX8, 6, tyX8, rfl, in_X8, by decide, fw_X8_27, tyX8_ok, nmX8, tyX8_ok 5 (by decide), rfl, fun _ => rfl⟩
theorem fw_X10_9 : Cond.fieldLink RX10 9 (TX10 5).1 (TX10 5).2.1 (TX10 5).2.2.1 ∈ zw := zw_4 83 (by decide +kernel) (by decide +kernel)
theorem fl_X10_9 : zFl RX10 9 9 5 := ⟨RX10, TX10, 18, rfl, in_X10, by decide, fw_X10_9⟩
theorem fq_X10_9 : zPl RX10 9 9 5 .int false := ⟨RX10, TX10, 18, tyX10, rfl, in_X10, by decide, fw_X10_9, tyX10_ok, nmX10, tyX10_ok 5 (by decide), rfl, fun h => nomatch h⟩
theorem fw_X10_15 : Cond.fieldLink RX10 15 (TX10 6).1 (TX10 6).2.1 (TX10 6).2.2.1 ∈ zw := zw_4 85 (by decide +kernel) (by decide +kernel)
theorem fl_X10_15 : zFl RX10 15 9 6 := ⟨RX10, TX10, 18, rfl, in_X10, by decide, fw_X10_15⟩
theorem fq_X10_15 : zPl RX10 15 9 6 .int false := ⟨RX10, TX10, 18, tyX10, rfl, in_X10, by decide, fw_X10_15, tyX10_ok, nmX10, tyX10_ok 6 (by decide), rfl, fun h => nomatch h⟩
theorem fw_X10_18 : Cond.fieldLink RX10 18 (TX10 7).1 (TX10 7).2.1 (TX10 7).2.2.1 ∈ zw := zw_4 87 (by decide +kernel) (by decide +kernel)
theorem fl_X10_18 : zFl RX10 18 9 7 := ⟨RX10, TX10, 18, rfl, in_X10, by decide, fw_X10_18⟩
theorem fq_X10_18 : zPl RX10 18 9 7 .int false := ⟨RX10, TX10, 18, tyX10, rfl, in_X10, by decide, fw_X10_18, tyX10_ok, nmX10, tyX10_ok 7 (by decide), rfl, fun h => nomatch h⟩
theorem fw_X10_21 : Cond.fieldLink RX10 21 (TX10 8).1 (TX10 8).2.1 (TX10 8).2.2.1 ∈ zw := zw_4 89 (by decide +kernel) (by decide +kernel)
theorem fl_X10_21 : zFl RX10 21 9 8 := ⟨RX10, TX10, 18, rfl, in_X10, by decide, fw_X10_21⟩
theorem fq_X10_21 : zPl RX10 21 9 8 .int false := ⟨RX10, TX10, 18, tyX10, rfl, in_X10, by decide, fw_X10_21, tyX10_ok, nmX10, tyX10_ok 8 (by decide), rfl, fun h => nomatch h⟩
theorem fw_X10_24 : Cond.fieldLink RX10 24 (TX10 9).1 (TX10 9).2.1 (TX10 9).2.2.1 ∈ zw := zw_4 91 (by decide +kernel) (by decide +kernel)
theorem fl_X10_24 : zFl RX10 24 9 9 := ⟨RX10, TX10, 18, rfl, in_X10, by decide, fw_X10_24⟩
theorem fq_X10_24 : zPl RX10 24 9 9 .int false := ⟨RX10, TX10, 18, tyX10, rfl, in_X10, by decide, fw_X10_24, tyX10_ok, nmX10, tyX10_ok 9 (by decide), rfl, fun h => nomatch h⟩
theorem fw_X10_27 : Cond.fieldLink RX10 27 (TX10 11).1 (TX10 11).2.1 (TX10 11).2.2.1 ∈ zw := zw_4 94 (by decide +kernel) (by decide +kernel)
theorem fl_X10_27 : zFl RX10 27 9 11 := ⟨RX10, TX10, 18, rfl, in_X10, by decide, fw_X10_27⟩
theorem fq_X10_27 : zPl RX10 27 9 11 .int false := ⟨RX10, TX10, 18, tyX10, rfl, in_X10, by decide, fw_X10_27, tyX10_ok, nmX10, tyX10_ok 11 (by decide), rfl, fun h => nomatch h⟩
theorem fw_X10_32 : Cond.fieldLink RX10 32 (TX10 12).1 (TX10 12).2.1 (TX10 12).2.2.1 ∈ zw := zw_4 95 (by decide +kernel) (by decide +kernel)
theorem fl_X10_32 : zFl RX10 32 9 12 := ⟨RX10, TX10, 18, rfl, in_X10, by decide, fw_X10_32⟩
theorem fq_X10_32 : zPl RX10 32 9 12 (.array (.object "PartyWalls$Proposal")) true := ⟨RX10, TX10, 18, tyX10, rfl, in_X10, by decide, fw_X10_32, tyX10_ok, nmX10, tyX10_ok 12 (by decide), rfl, fun _ => rfl⟩
theorem fw_X10_36 : Cond.fieldLink RX10 36 (TX10 13).1 (TX10 13).2.1 (TX10 13).2.2.1 ∈ zw := zw_4 97 (by decide +kernel) (by decide +kernel)
theorem fl_X10_36 : zFl RX10 36 9 13 := ⟨RX10, TX10, 18, rfl, in_X10, by decide, fw_X10_36⟩
theorem fq_X10_36 : zPl RX10 36 9 13 (.array .int) true := ⟨RX10, TX10, 18, tyX10, rfl, in_X10, by decide, fw_X10_36, tyX10_ok, nmX10, tyX10_ok 13 (by decide), rfl, fun _ => rfl⟩
theorem fw_X10_40 : Cond.fieldLink RX10 40 (TX10 16).1 (TX10 16).2.1 (TX10 16).2.2.1 ∈ zw := zw_4 101 (by decide +kernel) (by decide +kernel)
theorem fl_X10_40 : zFl RX10 40 9 16 := ⟨RX10, TX10, 18, rfl, in_X10, by decide, fw_X10_40⟩
theorem fq_X10_40 : zPl RX10 40 9 16 .int false := ⟨RX10, TX10, 18, tyX10, rfl, in_X10, by decide, fw_X10_40, tyX10_ok, nmX10, tyX10_ok 16 (by decide), rfl, fun h => nomatch h⟩
theorem fw_X10_43 : Cond.fieldLink RX10 43 (TX10 0).1 (TX10 0).2.1 (TX10 0).2.2.1 ∈ zw := zw_4 74 (by decide +kernel) (by decide +kernel)
theorem fl_X10_43 : zFl RX10 43 9 0 := ⟨RX10, TX10, 18, rfl, in_X10, by decide, fw_X10_43⟩
theorem fq_X10_43 : zPl RX10 43 9 0 (.object "PartyWalls$Wall") true := ⟨RX10, TX10, 18, tyX10, rfl, in_X10, by decide, fw_X10_43, tyX10_ok, nmX10, tyX10_ok 0 (by decide), rfl, fun _ => rfl⟩
theorem fw_X10_47 : Cond.fieldLink RX10 47 (TX10 1).1 (TX10 1).2.1 (TX10 1).2.2.1 ∈ zw := zw_4 76 (by decide +kernel) (by decide +kernel)
theorem fl_X10_47 : zFl RX10 47 9 1 := ⟨RX10, TX10, 18, rfl, in_X10, by decide, fw_X10_47⟩
theorem fq_X10_47 : zPl RX10 47 9 1 .int true := ⟨RX10, TX10, 18, tyX10, rfl, in_X10, by decide, fw_X10_47, tyX10_ok, nmX10, tyX10_ok 1 (by decide), rfl, fun _ => rfl⟩
theorem fw_X10_50 : Cond.fieldLink RX10 50 (TX10 2).1 (TX10 2).2.1 (TX10 2).2.2.1 ∈ zw := zw_4 78 (by decide +kernel) (by decide +kernel)
theorem fl_X10_50 : zFl RX10 50 9 2 := ⟨RX10, TX10, 18, rfl, in_X10, by decide, fw_X10_50⟩
theorem fq_X10_50 : zPl RX10 50 9 2 .int true := ⟨RX10, TX10, 18, tyX10, rfl, in_X10, by decide, fw_X10_50, tyX10_ok, nmX10, tyX10_ok 2 (by decide), rfl, fun _ => rfl⟩
theorem fw_X10_53 : Cond.fieldLink RX10 53 (TX10 3).1 (TX10 3).2.1 (TX10 3).2.2.1 ∈ zw := zw_4 80 (by decide +kernel) (by decide +kernel)
theorem fl_X10_53 : zFl RX10 53 9 3 := ⟨RX10, TX10, 18, rfl, in_X10, by decide, fw_X10_53⟩
theorem fq_X10_53 : zPl RX10 53 9 3 (.object "PartyWalls$Rule") true := ⟨RX10, TX10, 18, tyX10, rfl, in_X10, by decide, fw_X10_53, tyX10_ok, nmX10, tyX10_ok 3 (by decide), rfl, fun _ => rfl⟩
theorem fw_X10_57 : Cond.fieldLink RX10 57 (TX10 4).1 (TX10 4).2.1 (TX10 4).2.2.1 ∈ zw := zw_4 81 (by decide +kernel) (by decide +kernel)
theorem fl_X10_57 : zFl RX10 57 9 4 := ⟨RX10, TX10, 18, rfl, in_X10, by decide, fw_X10_57⟩
theorem fq_X10_57 : zPl RX10 57 9 4 .int false := ⟨RX10, TX10, 18, tyX10, rfl, in_X10, by decide, fw_X10_57, tyX10_ok, nmX10, tyX10_ok 4 (by decide), rfl, fun h => nomatch h⟩
theorem fw_X10_66 : Cond.fieldLink RX10 66 (TX5 3).1 (TX5 3).2.1 (TX5 3).2.2.1 ∈ zw := zw_1 144 (by decide +kernel) (by decide +kernel)
theorem fl_X10_66 : zFl RX10 66 5 3 := ⟨RX5, TX5, 14, rfl, in_X5, by decide, fw_X10_66⟩
theorem fq_X10_66 : zPl RX10 66 5 3 .int false := ⟨RX5, TX5, 14, tyX5, rfl, in_X5, by decide, fw_X10_66, tyX5_ok, nmX5, tyX5_ok 3 (by decide), rfl, fun h => nomatch h⟩
theorem fw_X10_71 : Cond.fieldLink RX10 71 (TX5 5).1 (TX5 5).2.1 (TX5 5).2.2.1 ∈ zw := zw_1 149 (by decide +kernel) (by decide +kernel)
theorem fl_X10_71 : zFl RX10 71 5 5 := ⟨RX5, TX5, 14, rfl, in_X5, by decide, fw_X10_71⟩
theorem fq_X10_71 : zPl RX10 71 5 5 .int false := ⟨RX5, TX5, 14, tyX5, rfl, in_X5, by decide, fw_X10_71, tyX5_ok, nmX5, tyX5_ok 5 (by decide), rfl, fun h => nomatch h⟩
theorem fw_X10_78 : Cond.fieldLink RX10 78 (TX5 6).1 (TX5 6).2.1 (TX5 6).2.2.1 ∈ zw := zw_1 151 (by decide +kernel) (by decide +kernel)
theorem fl_X10_78 : zFl RX10 78 5 6 := ⟨RX5, TX5, 14, rfl, in_X5, by decide, fw_X10_78⟩
theorem fq_X10_78 : zPl RX10 78 5 6 .boolean false := ⟨RX5, TX5, 14, tyX5, rfl, in_X5, by decide, fw_X10_78, tyX5_ok, nmX5, tyX5_ok 6 (by decide), rfl, fun h => nomatch h⟩
theorem fw_X10_89 : Cond.fieldLink RX10 89 (TX5 1).1 (TX5 1).2.1 (TX5 1).2.2.1 ∈ zw := zw_1 140 (by decide +kernel) (by decide +kernel)
theorem fl_X10_89 : zFl RX10 89 5 1 := ⟨RX5, TX5, 14, rfl, in_X5, by decide, fw_X10_89⟩
theorem fw_X10_92 : Cond.fieldLink RX10 92 (TX5 7).1 (TX5 7).2.1 (TX5 7).2.2.1 ∈ zw := zw_1 154 (by decide +kernel) (by decide +kernel)
theorem fl_X10_92 : zFl RX10 92 5 7 := ⟨RX5, TX5, 14, rfl, in_X5, by decide, fw_X10_92⟩
theorem fq_X10_92 : zPl RX10 92 5 7 .int false := ⟨RX5, TX5, 14, tyX5, rfl, in_X5, by decide, fw_X10_92, tyX5_ok, nmX5, tyX5_ok 7 (by decide), rfl, fun h => nomatch h⟩
theorem fw_X10_99 : Cond.fieldLink RX10 99 (TX10 10).1 (TX10 10).2.1 (TX10 10).2.2.1 ∈ zw := zw_4 93 (by decide +kernel) (by decide +kernel)
theorem fl_X10_99 : zFl RX10 99 9 10 := ⟨RX10, TX10, 18, rfl, in_X10, by decide, fw_X10_99⟩
theorem fq_X10_99 : zPl RX10 99 9 10 (.object "PartyWalls$Proposal") false := ⟨RX10, TX10, 18, tyX10, rfl, in_X10, by decide, fw_X10_99, tyX10_ok, nmX10, tyX10_ok 10 (by decide), rfl, fun h => nomatch h⟩
theorem fw_X10_103 : Cond.fieldLink RX10 103 (TX4 0).1 (TX4 0).2.1 (TX4 0).2.2.1 ∈ zw := zw_5 24 (by decide +kernel) (by decide +kernel)
theorem fl_X10_103 : zFl RX10 103 4 0 := ⟨RX4, TX4, 3, rfl, in_X4, by decide, fw_X10_103⟩
theorem fw_X10_106 : Cond.fieldLink RX10 106 (TX5 8).1 (TX5 8).2.1 (TX5 8).2.2.1 ∈ zw := zw_1 158 (by decide +kernel) (by decide +kernel)
theorem fl_X10_106 : zFl RX10 106 5 8 := ⟨RX5, TX5, 14, rfl, in_X5, by decide, fw_X10_106⟩
theorem fq_X10_106 : zPl RX10 106 5 8 .int false := ⟨RX5, TX5, 14, tyX5, rfl, in_X5, by decide, fw_X10_106, tyX5_ok, nmX5, tyX5_ok 8 (by decide), rfl, fun h => nomatch h⟩
theorem fw_X10_120 : Cond.fieldLink RX10 120 (TX4 1).1 (TX4 1).2.1 (TX4 1).2.2.1 ∈ zw := zw_5 26 (by decide +kernel) (by decide +kernel)
theorem fl_X10_120 : zFl RX10 120 4 1 := ⟨RX4, TX4, 3, rfl, in_X4, by decide, fw_X10_120⟩
theorem fw_X10_123 : Cond.fieldLink RX10 123 (TX5 12).1 (TX5 12).2.1 (TX5 12).2.2.1 ∈ zw := zw_1 169 (by decide +kernel) (by decide +kernel)
theorem fl_X10_123 : zFl RX10 123 5 12 := ⟨RX5, TX5, 14, rfl, in_X5, by decide, fw_X10_123⟩
theorem fq_X10_123 : zPl RX10 123 5 12 .int false := ⟨RX5, TX5, 14, tyX5, rfl, in_X5, by decide, fw_X10_123, tyX5_ok, nmX5, tyX5_ok 12 (by decide), rfl, fun h => nomatch h⟩
theorem fw_X10_125 : Cond.fieldLink RX10 125 (TX5 13).1 (TX5 13).2.1 (TX5 13).2.2.1 ∈ zw := zw_1 172 (by decide +kernel) (by decide +kernel)
theorem fl_X10_125 : zFl RX10 125 5 13 := ⟨RX5, TX5, 14, rfl, in_X5, by decide, fw_X10_125⟩
theorem fq_X10_125 : zPl RX10 125 5 13 .int false := ⟨RX5, TX5, 14, tyX5, rfl, in_X5, by decide, fw_X10_125, tyX5_ok, nmX5, tyX5_ok 13 (by decide), rfl, fun h => nomatch h⟩
theorem fw_X10_127 : Cond.fieldLink RX10 127 (TX4 2).1 (TX4 2).2.1 (TX4 2).2.2.1 ∈ zw := zw_5 28 (by decide +kernel) (by decide +kernel)
theorem fl_X10_127 : zFl RX10 127 4 2 := ⟨RX4, TX4, 3, rfl, in_X4, by decide, fw_X10_127⟩
theorem fw_X12_9 : Cond.fieldLink RX12 9 (TX12 4).1 (TX12 4).2.1 (TX12 4).2.2.1 ∈ zw := zw_7 8 (by decide +kernel) (by decide +kernel)
theorem fl_X12_9 : zFl RX12 9 11 4 := ⟨RX12, TX12, 80, rfl, in_X12, by decide, fw_X12_9⟩
theorem fq_X12_9 : zPl RX12 9 11 4 (.array .int) true := ⟨RX12, TX12, 80, tyX12, rfl, in_X12, by decide, fw_X12_9, tyX12_ok, nmX12, tyX12_ok 4 (by decide), rfl, fun _ => rfl⟩
theorem fw_X12_13 : Cond.fieldLink RX12 13 (TX12 5).1 (TX12 5).2.1 (TX12 5).2.2.1 ∈ zw := zw_7 9 (by decide +kernel) (by decide +kernel)
theorem fl_X12_13 : zFl RX12 13 11 5 := ⟨RX12, TX12, 80, rfl, in_X12, by decide, fw_X12_13⟩
theorem fq_X12_13 : zPl RX12 13 11 5 (.array .byte) true := ⟨RX12, TX12, 80, tyX12, rfl, in_X12, by decide, fw_X12_13, tyX12_ok, nmX12, tyX12_ok 5 (by decide), rfl, fun _ => rfl⟩
theorem fw_X12_17 : Cond.fieldLink RX12 17 (TX12 10).1 (TX12 10).2.1 (TX12 10).2.2.1 ∈ zw := zw_7 14 (by decide +kernel) (by decide +kernel)
theorem fl_X12_17 : zFl RX12 17 11 10 := ⟨RX12, TX12, 80, rfl, in_X12, by decide, fw_X12_17⟩
theorem fq_X12_17 : zPl RX12 17 11 10 .int false := ⟨RX12, TX12, 80, tyX12, rfl, in_X12, by decide, fw_X12_17, tyX12_ok, nmX12, tyX12_ok 10 (by decide), rfl, fun h => nomatch h⟩
theorem fw_X12_21 : Cond.fieldLink RX12 21 (TX12 13).1 (TX12 13).2.1 (TX12 13).2.2.1 ∈ zw := zw_7 17 (by decide +kernel) (by decide +kernel)
theorem fl_X12_21 : zFl RX12 21 11 13 := ⟨RX12, TX12, 80, rfl, in_X12, by decide, fw_X12_21⟩
theorem fq_X12_21 : zPl RX12 21 11 13 (.array .int) true := ⟨RX12, TX12, 80, tyX12, rfl, in_X12, by decide, fw_X12_21, tyX12_ok, nmX12, tyX12_ok 13 (by decide), rfl, fun _ => rfl⟩
theorem fw_X12_24 : Cond.fieldLink RX12 24 (TX12 14).1 (TX12 14).2.1 (TX12 14).2.2.1 ∈ zw := zw_7 18 (by decide +kernel) (by decide +kernel)
theorem fl_X12_24 : zFl RX12 24 11 14 := ⟨RX12, TX12, 80, rfl, in_X12, by decide, fw_X12_24⟩
theorem fq_X12_24 : zPl RX12 24 11 14 (.array .int) true := ⟨RX12, TX12, 80, tyX12, rfl, in_X12, by decide, fw_X12_24, tyX12_ok, nmX12, tyX12_ok 14 (by decide), rfl, fun _ => rfl⟩
theorem fw_X12_27 : Cond.fieldLink RX12 27 (TX12 15).1 (TX12 15).2.1 (TX12 15).2.2.1 ∈ zw := zw_7 19 (by decide +kernel) (by decide +kernel)
theorem fl_X12_27 : zFl RX12 27 11 15 := ⟨RX12, TX12, 80, rfl, in_X12, by decide, fw_X12_27⟩
theorem fq_X12_27 : zPl RX12 27 11 15 (.array .int) true := ⟨RX12, TX12, 80, tyX12, rfl, in_X12, by decide, fw_X12_27, tyX12_ok, nmX12, tyX12_ok 15 (by decide), rfl, fun _ => rfl⟩
theorem fw_X12_30 : Cond.fieldLink RX12 30 (TX12 16).1 (TX12 16).2.1 (TX12 16).2.2.1 ∈ zw := zw_7 20 (by decide +kernel) (by decide +kernel)
theorem fl_X12_30 : zFl RX12 30 11 16 := ⟨RX12, TX12, 80, rfl, in_X12, by decide, fw_X12_30⟩
theorem fq_X12_30 : zPl RX12 30 11 16 (.array .int) true := ⟨RX12, TX12, 80, tyX12, rfl, in_X12, by decide, fw_X12_30, tyX12_ok, nmX12, tyX12_ok 16 (by decide), rfl, fun _ => rfl⟩
theorem fw_X12_33 : Cond.fieldLink RX12 33 (TX12 17).1 (TX12 17).2.1 (TX12 17).2.2.1 ∈ zw := zw_7 21 (by decide +kernel) (by decide +kernel)
theorem fl_X12_33 : zFl RX12 33 11 17 := ⟨RX12, TX12, 80, rfl, in_X12, by decide, fw_X12_33⟩
theorem fq_X12_33 : zPl RX12 33 11 17 (.array .int) true := ⟨RX12, TX12, 80, tyX12, rfl, in_X12, by decide, fw_X12_33, tyX12_ok, nmX12, tyX12_ok 17 (by decide), rfl, fun _ => rfl⟩
theorem fw_X12_36 : Cond.fieldLink RX12 36 (TX12 18).1 (TX12 18).2.1 (TX12 18).2.2.1 ∈ zw := zw_7 22 (by decide +kernel) (by decide +kernel)
theorem fl_X12_36 : zFl RX12 36 11 18 := ⟨RX12, TX12, 80, rfl, in_X12, by decide, fw_X12_36⟩
theorem fq_X12_36 : zPl RX12 36 11 18 (.array .int) true := ⟨RX12, TX12, 80, tyX12, rfl, in_X12, by decide, fw_X12_36, tyX12_ok, nmX12, tyX12_ok 18 (by decide), rfl, fun _ => rfl⟩
theorem fw_X12_39 : Cond.fieldLink RX12 39 (TX12 19).1 (TX12 19).2.1 (TX12 19).2.2.1 ∈ zw := zw_7 23 (by decide +kernel) (by decide +kernel)
theorem fl_X12_39 : zFl RX12 39 11 19 := ⟨RX12, TX12, 80, rfl, in_X12, by decide, fw_X12_39⟩
theorem fq_X12_39 : zPl RX12 39 11 19 (.array .int) true := ⟨RX12, TX12, 80, tyX12, rfl, in_X12, by decide, fw_X12_39, tyX12_ok, nmX12, tyX12_ok 19 (by decide), rfl, fun _ => rfl⟩
theorem fw_X12_42 : Cond.fieldLink RX12 42 (TX12 20).1 (TX12 20).2.1 (TX12 20).2.2.1 ∈ zw := zw_7 24 (by decide +kernel) (by decide +kernel)
theorem fl_X12_42 : zFl RX12 42 11 20 := ⟨RX12, TX12, 80, rfl, in_X12, by decide, fw_X12_42⟩
theorem fq_X12_42 : zPl RX12 42 11 20 (.array .int) true := ⟨RX12, TX12, 80, tyX12, rfl, in_X12, by decide, fw_X12_42, tyX12_ok, nmX12, tyX12_ok 20 (by decide), rfl, fun _ => rfl⟩
theorem fw_X12_45 : Cond.fieldLink RX12 45 (TX12 22).1 (TX12 22).2.1 (TX12 22).2.2.1 ∈ zw := zw_7 26 (by decide +kernel) (by decide +kernel)
theorem fl_X12_45 : zFl RX12 45 11 22 := ⟨RX12, TX12, 80, rfl, in_X12, by decide, fw_X12_45⟩
theorem fq_X12_45 : zPl RX12 45 11 22 (.array .boolean) true := ⟨RX12, TX12, 80, tyX12, rfl, in_X12, by decide, fw_X12_45, tyX12_ok, nmX12, tyX12_ok 22 (by decide), rfl, fun _ => rfl⟩
theorem fw_X12_49 : Cond.fieldLink RX12 49 (TX12 24).1 (TX12 24).2.1 (TX12 24).2.2.1 ∈ zw := zw_7 28 (by decide +kernel) (by decide +kernel)
theorem fl_X12_49 : zFl RX12 49 11 24 := ⟨RX12, TX12, 80, rfl, in_X12, by decide, fw_X12_49⟩
theorem fq_X12_49 : zPl RX12 49 11 24 (.array .int) true := ⟨RX12, TX12, 80, tyX12, rfl, in_X12, by decide, fw_X12_49, tyX12_ok, nmX12, tyX12_ok 24 (by decide), rfl, fun _ => rfl⟩
theorem fw_X12_52 : Cond.fieldLink RX12 52 (TX12 25).1 (TX12 25).2.1 (TX12 25).2.2.1 ∈ zw := zw_7 29 (by decide +kernel) (by decide +kernel)
theorem fl_X12_52 : zFl RX12 52 11 25 := ⟨RX12, TX12, 80, rfl, in_X12, by decide, fw_X12_52⟩
theorem fq_X12_52 : zPl RX12 52 11 25 (.array .int) true := ⟨RX12, TX12, 80, tyX12, rfl, in_X12, by decide, fw_X12_52, tyX12_ok, nmX12, tyX12_ok 25 (by decide), rfl, fun _ => rfl⟩
theorem fw_X12_55 : Cond.fieldLink RX12 55 (TX12 26).1 (TX12 26).2.1 (TX12 26).2.2.1 ∈ zw := zw_7 30 (by decide +kernel) (by decide +kernel)
theorem fl_X12_55 : zFl RX12 55 11 26 := ⟨RX12, TX12, 80, rfl, in_X12, by decide, fw_X12_55⟩
theorem fq_X12_55 : zPl RX12 55 11 26 (.array .int) true := ⟨RX12, TX12, 80, tyX12, rfl, in_X12, by decide, fw_X12_55, tyX12_ok, nmX12, tyX12_ok 26 (by decide), rfl, fun _ => rfl⟩
theorem fw_X12_58 : Cond.fieldLink RX12 58 (TX12 27).1 (TX12 27).2.1 (TX12 27).2.2.1 ∈ zw := zw_7 31 (by decide +kernel) (by decide +kernel)
theorem fl_X12_58 : zFl RX12 58 11 27 := ⟨RX12, TX12, 80, rfl, in_X12, by decide, fw_X12_58⟩
theorem fq_X12_58 : zPl RX12 58 11 27 (.array .boolean) true := ⟨RX12, TX12, 80, tyX12, rfl, in_X12, by decide, fw_X12_58, tyX12_ok, nmX12, tyX12_ok 27 (by decide), rfl, fun _ => rfl⟩
theorem fw_X12_61 : Cond.fieldLink RX12 61 (TX12 28).1 (TX12 28).2.1 (TX12 28).2.2.1 ∈ zw := zw_7 32 (by decide +kernel) (by decide +kernel)
theorem fl_X12_61 : zFl RX12 61 11 28 := ⟨RX12, TX12, 80, rfl, in_X12, by decide, fw_X12_61⟩
theorem fq_X12_61 : zPl RX12 61 11 28 (.array .int) true := ⟨RX12, TX12, 80, tyX12, rfl, in_X12, by decide, fw_X12_61, tyX12_ok, nmX12, tyX12_ok 28 (by decide), rfl, fun _ => rfl⟩
theorem fw_X12_64 : Cond.fieldLink RX12 64 (TX12 29).1 (TX12 29).2.1 (TX12 29).2.2.1 ∈ zw := zw_7 33 (by decide +kernel) (by decide +kernel)
theorem fl_X12_64 : zFl RX12 64 11 29 := ⟨RX12, TX12, 80, rfl, in_X12, by decide, fw_X12_64⟩
theorem fq_X12_64 : zPl RX12 64 11 29 (.array .int) true := ⟨RX12, TX12, 80, tyX12, rfl, in_X12, by decide, fw_X12_64, tyX12_ok, nmX12, tyX12_ok 29 (by decide), rfl, fun _ => rfl⟩
theorem fw_X12_67 : Cond.fieldLink RX12 67 (TX12 30).1 (TX12 30).2.1 (TX12 30).2.2.1 ∈ zw := zw_7 34 (by decide +kernel) (by decide +kernel)
theorem fl_X12_67 : zFl RX12 67 11 30 := ⟨RX12, TX12, 80, rfl, in_X12, by decide, fw_X12_67⟩
theorem fq_X12_67 : zPl RX12 67 11 30 (.array .int) true := ⟨RX12, TX12, 80, tyX12, rfl, in_X12, by decide, fw_X12_67, tyX12_ok, nmX12, tyX12_ok 30 (by decide), rfl, fun _ => rfl⟩
theorem fw_X12_70 : Cond.fieldLink RX12 70 (TX12 31).1 (TX12 31).2.1 (TX12 31).2.2.1 ∈ zw := zw_7 35 (by decide +kernel) (by decide +kernel)
theorem fl_X12_70 : zFl RX12 70 11 31 := ⟨RX12, TX12, 80, rfl, in_X12, by decide, fw_X12_70⟩
theorem fq_X12_70 : zPl RX12 70 11 31 (.array .int) true := ⟨RX12, TX12, 80, tyX12, rfl, in_X12, by decide, fw_X12_70, tyX12_ok, nmX12, tyX12_ok 31 (by decide), rfl, fun _ => rfl⟩
theorem fw_X12_73 : Cond.fieldLink RX12 73 (TX12 32).1 (TX12 32).2.1 (TX12 32).2.2.1 ∈ zw := zw_7 36 (by decide +kernel) (by decide +kernel)
theorem fl_X12_73 : zFl RX12 73 11 32 := ⟨RX12, TX12, 80, rfl, in_X12, by decide, fw_X12_73⟩
theorem fq_X12_73 : zPl RX12 73 11 32 (.array .boolean) true := ⟨RX12, TX12, 80, tyX12, rfl, in_X12, by decide, fw_X12_73, tyX12_ok, nmX12, tyX12_ok 32 (by decide), rfl, fun _ => rfl⟩
theorem fw_X12_76 : Cond.fieldLink RX12 76 (TX12 33).1 (TX12 33).2.1 (TX12 33).2.2.1 ∈ zw := zw_7 37 (by decide +kernel) (by decide +kernel)
theorem fl_X12_76 : zFl RX12 76 11 33 := ⟨RX12, TX12, 80, rfl, in_X12, by decide, fw_X12_76⟩
theorem fq_X12_76 : zPl RX12 76 11 33 (.array .int) true := ⟨RX12, TX12, 80, tyX12, rfl, in_X12, by decide, fw_X12_76, tyX12_ok, nmX12, tyX12_ok 33 (by decide), rfl, fun _ => rfl⟩
theorem fw_X12_79 : Cond.fieldLink RX12 79 (TX12 34).1 (TX12 34).2.1 (TX12 34).2.2.1 ∈ zw := zw_7 38 (by decide +kernel) (by decide +kernel)
theorem fl_X12_79 : zFl RX12 79 11 34 := ⟨RX12, TX12, 80, rfl, in_X12, by decide, fw_X12_79⟩
theorem fq_X12_79 : zPl RX12 79 11 34 (.array .int) true := ⟨RX12, TX12, 80, tyX12, rfl, in_X12, by decide, fw_X12_79, tyX12_ok, nmX12, tyX12_ok 34 (by decide), rfl, fun _ => rfl⟩
theorem fw_X12_82 : Cond.fieldLink RX12 82 (TX12 35).1 (TX12 35).2.1 (TX12 35).2.2.1 ∈ zw := zw_7 39 (by decide +kernel) (by decide +kernel)
theorem fl_X12_82 : zFl RX12 82 11 35 := ⟨RX12, TX12, 80, rfl, in_X12, by decide, fw_X12_82⟩
theorem fq_X12_82 : zPl RX12 82 11 35 (.array .int) true := ⟨RX12, TX12, 80, tyX12, rfl, in_X12, by decide, fw_X12_82, tyX12_ok, nmX12, tyX12_ok 35 (by decide), rfl, fun _ => rfl⟩
theorem fw_X12_85 : Cond.fieldLink RX12 85 (TX12 36).1 (TX12 36).2.1 (TX12 36).2.2.1 ∈ zw := zw_7 40 (by decide +kernel) (by decide +kernel)
theorem fl_X12_85 : zFl RX12 85 11 36 := ⟨RX12, TX12, 80, rfl, in_X12, by decide, fw_X12_85⟩
theorem fq_X12_85 : zPl RX12 85 11 36 (.array .int) true := ⟨RX12, TX12, 80, tyX12, rfl, in_X12, by decide, fw_X12_85, tyX12_ok, nmX12, tyX12_ok 36 (by decide), rfl, fun _ => rfl⟩
theorem fw_X12_88 : Cond.fieldLink RX12 88 (TX12 37).1 (TX12 37).2.1 (TX12 37).2.2.1 ∈ zw := zw_7 41 (by decide +kernel) (by decide +kernel)
theorem fl_X12_88 : zFl RX12 88 11 37 := ⟨RX12, TX12, 80, rfl, in_X12, by decide, fw_X12_88⟩
theorem fq_X12_88 : zPl RX12 88 11 37 (.array .int) true := ⟨RX12, TX12, 80, tyX12, rfl, in_X12, by decide, fw_X12_88, tyX12_ok, nmX12, tyX12_ok 37 (by decide), rfl, fun _ => rfl⟩
theorem fw_X12_91 : Cond.fieldLink RX12 91 (TX12 38).1 (TX12 38).2.1 (TX12 38).2.2.1 ∈ zw := zw_7 42 (by decide +kernel) (by decide +kernel)
theorem fl_X12_91 : zFl RX12 91 11 38 := ⟨RX12, TX12, 80, rfl, in_X12, by decide, fw_X12_91⟩
theorem fq_X12_91 : zPl RX12 91 11 38 (.array .int) true := ⟨RX12, TX12, 80, tyX12, rfl, in_X12, by decide, fw_X12_91, tyX12_ok, nmX12, tyX12_ok 38 (by decide), rfl, fun _ => rfl⟩
theorem fw_X12_94 : Cond.fieldLink RX12 94 (TX12 39).1 (TX12 39).2.1 (TX12 39).2.2.1 ∈ zw := zw_7 43 (by decide +kernel) (by decide +kernel)
theorem fl_X12_94 : zFl RX12 94 11 39 := ⟨RX12, TX12, 80, rfl, in_X12, by decide, fw_X12_94⟩
theorem fq_X12_94 : zPl RX12 94 11 39 (.array .int) true := ⟨RX12, TX12, 80, tyX12, rfl, in_X12, by decide, fw_X12_94, tyX12_ok, nmX12, tyX12_ok 39 (by decide), rfl, fun _ => rfl⟩
theorem fw_X12_97 : Cond.fieldLink RX12 97 (TX12 40).1 (TX12 40).2.1 (TX12 40).2.2.1 ∈ zw := zw_7 44 (by decide +kernel) (by decide +kernel)
theorem fl_X12_97 : zFl RX12 97 11 40 := ⟨RX12, TX12, 80, rfl, in_X12, by decide, fw_X12_97⟩
theorem fq_X12_97 : zPl RX12 97 11 40 (.array .int) true := ⟨RX12, TX12, 80, tyX12, rfl, in_X12, by decide, fw_X12_97, tyX12_ok, nmX12, tyX12_ok 40 (by decide), rfl, fun _ => rfl⟩
theorem fw_X12_100 : Cond.fieldLink RX12 100 (TX12 42).1 (TX12 42).2.1 (TX12 42).2.2.1 ∈ zw := zw_7 46 (by decide +kernel) (by decide +kernel)
theorem fl_X12_100 : zFl RX12 100 11 42 := ⟨RX12, TX12, 80, rfl, in_X12, by decide, fw_X12_100⟩
theorem fq_X12_100 : zPl RX12 100 11 42 (.array .int) true := ⟨RX12, TX12, 80, tyX12, rfl, in_X12, by decide, fw_X12_100, tyX12_ok, nmX12, tyX12_ok 42 (by decide), rfl, fun _ => rfl⟩
theorem fw_X12_103 : Cond.fieldLink RX12 103 (TX12 43).1 (TX12 43).2.1 (TX12 43).2.2.1 ∈ zw := zw_7 47 (by decide +kernel) (by decide +kernel)
theorem fl_X12_103 : zFl RX12 103 11 43 := ⟨RX12, TX12, 80, rfl, in_X12, by decide, fw_X12_103⟩
theorem fq_X12_103 : zPl RX12 103 11 43 (.array .int) true := ⟨RX12, TX12, 80, tyX12, rfl, in_X12, by decide, fw_X12_103, tyX12_ok, nmX12, tyX12_ok 43 (by decide), rfl, fun _ => rfl⟩
theorem fw_X12_106 : Cond.fieldLink RX12 106 (TX12 44).1 (TX12 44).2.1 (TX12 44).2.2.1 ∈ zw := zw_7 48 (by decide +kernel) (by decide +kernel)
theorem fl_X12_106 : zFl RX12 106 11 44 := ⟨RX12, TX12, 80, rfl, in_X12, by decide, fw_X12_106⟩
theorem fq_X12_106 : zPl RX12 106 11 44 (.array .int) true := ⟨RX12, TX12, 80, tyX12, rfl, in_X12, by decide, fw_X12_106, tyX12_ok, nmX12, tyX12_ok 44 (by decide), rfl, fun _ => rfl⟩
theorem fw_X12_109 : Cond.fieldLink RX12 109 (TX12 45).1 (TX12 45).2.1 (TX12 45).2.2.1 ∈ zw := zw_7 49 (by decide +kernel) (by decide +kernel)
theorem fl_X12_109 : zFl RX12 109 11 45 := ⟨RX12, TX12, 80, rfl, in_X12, by decide, fw_X12_109⟩
theorem fq_X12_109 : zPl RX12 109 11 45 (.array .int) true := ⟨RX12, TX12, 80, tyX12, rfl, in_X12, by decide, fw_X12_109, tyX12_ok, nmX12, tyX12_ok 45 (by decide), rfl, fun _ => rfl⟩
theorem fw_X12_112 : Cond.fieldLink RX12 112 (TX12 46).1 (TX12 46).2.1 (TX12 46).2.2.1 ∈ zw := zw_7 50 (by decide +kernel) (by decide +kernel)
theorem fl_X12_112 : zFl RX12 112 11 46 := ⟨RX12, TX12, 80, rfl, in_X12, by decide, fw_X12_112⟩
theorem fq_X12_112 : zPl RX12 112 11 46 (.array .int) true := ⟨RX12, TX12, 80, tyX12, rfl, in_X12, by decide, fw_X12_112, tyX12_ok, nmX12, tyX12_ok 46 (by decide), rfl, fun _ => rfl⟩
theorem fw_X12_115 : Cond.fieldLink RX12 115 (TX12 47).1 (TX12 47).2.1 (TX12 47).2.2.1 ∈ zw := zw_7 51 (by decide +kernel) (by decide +kernel)
theorem fl_X12_115 : zFl RX12 115 11 47 := ⟨RX12, TX12, 80, rfl, in_X12, by decide, fw_X12_115⟩
theorem fq_X12_115 : zPl RX12 115 11 47 (.array .int) true := ⟨RX12, TX12, 80, tyX12, rfl, in_X12, by decide, fw_X12_115, tyX12_ok, nmX12, tyX12_ok 47 (by decide), rfl, fun _ => rfl⟩
theorem fw_X12_118 : Cond.fieldLink RX12 118 (TX12 50).1 (TX12 50).2.1 (TX12 50).2.2.1 ∈ zw := zw_7 54 (by decide +kernel) (by decide +kernel)
theorem fl_X12_118 : zFl RX12 118 11 50 := ⟨RX12, TX12, 80, rfl, in_X12, by decide, fw_X12_118⟩
theorem fq_X12_118 : zPl RX12 118 11 50 (.array .int) true := ⟨RX12, TX12, 80, tyX12, rfl, in_X12, by decide, fw_X12_118, tyX12_ok, nmX12, tyX12_ok 50 (by decide), rfl, fun _ => rfl⟩
theorem fw_X12_121 : Cond.fieldLink RX12 121 (TX12 51).1 (TX12 51).2.1 (TX12 51).2.2.1 ∈ zw := zw_7 55 (by decide +kernel) (by decide +kernel)
theorem fl_X12_121 : zFl RX12 121 11 51 := ⟨RX12, TX12, 80, rfl, in_X12, by decide, fw_X12_121⟩
theorem fq_X12_121 : zPl RX12 121 11 51 (.array .int) true := ⟨RX12, TX12, 80, tyX12, rfl, in_X12, by decide, fw_X12_121, tyX12_ok, nmX12, tyX12_ok 51 (by decide), rfl, fun _ => rfl⟩
theorem fw_X12_124 : Cond.fieldLink RX12 124 (TX12 52).1 (TX12 52).2.1 (TX12 52).2.2.1 ∈ zw := zw_7 56 (by decide +kernel) (by decide +kernel)
theorem fl_X12_124 : zFl RX12 124 11 52 := ⟨RX12, TX12, 80, rfl, in_X12, by decide, fw_X12_124⟩
theorem fq_X12_124 : zPl RX12 124 11 52 (.array .int) true := ⟨RX12, TX12, 80, tyX12, rfl, in_X12, by decide, fw_X12_124, tyX12_ok, nmX12, tyX12_ok 52 (by decide), rfl, fun _ => rfl⟩
theorem fw_X12_127 : Cond.fieldLink RX12 127 (TX12 53).1 (TX12 53).2.1 (TX12 53).2.2.1 ∈ zw := zw_7 57 (by decide +kernel) (by decide +kernel)
theorem fl_X12_127 : zFl RX12 127 11 53 := ⟨RX12, TX12, 80, rfl, in_X12, by decide, fw_X12_127⟩
theorem fq_X12_127 : zPl RX12 127 11 53 (.array .int) true := ⟨RX12, TX12, 80, tyX12, rfl, in_X12, by decide, fw_X12_127, tyX12_ok, nmX12, tyX12_ok 53 (by decide), rfl, fun _ => rfl⟩
theorem fw_X12_130 : Cond.fieldLink RX12 130 (TX12 54).1 (TX12 54).2.1 (TX12 54).2.2.1 ∈ zw := zw_7 58 (by decide +kernel) (by decide +kernel)
theorem fl_X12_130 : zFl RX12 130 11 54 := ⟨RX12, TX12, 80, rfl, in_X12, by decide, fw_X12_130⟩
theorem fq_X12_130 : zPl RX12 130 11 54 (.array .int) true := ⟨RX12, TX12, 80, tyX12, rfl, in_X12, by decide, fw_X12_130, tyX12_ok, nmX12, tyX12_ok 54 (by decide), rfl, fun _ => rfl⟩
theorem fw_X12_133 : Cond.fieldLink RX12 133 (TX12 55).1 (TX12 55).2.1 (TX12 55).2.2.1 ∈ zw := zw_7 59 (by decide +kernel) (by decide +kernel)
theorem fl_X12_133 : zFl RX12 133 11 55 := ⟨RX12, TX12, 80, rfl, in_X12, by decide, fw_X12_133⟩
theorem fq_X12_133 : zPl RX12 133 11 55 (.array .int) true := ⟨RX12, TX12, 80, tyX12, rfl, in_X12, by decide, fw_X12_133, tyX12_ok, nmX12, tyX12_ok 55 (by decide), rfl, fun _ => rfl⟩
theorem fw_X12_136 : Cond.fieldLink RX12 136 (TX12 56).1 (TX12 56).2.1 (TX12 56).2.2.1 ∈ zw := zw_7 60 (by decide +kernel) (by decide +kernel)
theorem fl_X12_136 : zFl RX12 136 11 56 := ⟨RX12, TX12, 80, rfl, in_X12, by decide, fw_X12_136⟩
theorem fq_X12_136 : zPl RX12 136 11 56 (.array .int) true := ⟨RX12, TX12, 80, tyX12, rfl, in_X12, by decide, fw_X12_136, tyX12_ok, nmX12, tyX12_ok 56 (by decide), rfl, fun _ => rfl⟩
theorem fw_X12_139 : Cond.fieldLink RX12 139 (TX12 57).1 (TX12 57).2.1 (TX12 57).2.2.1 ∈ zw := zw_7 61 (by decide +kernel) (by decide +kernel)
theorem fl_X12_139 : zFl RX12 139 11 57 := ⟨RX12, TX12, 80, rfl, in_X12, by decide, fw_X12_139⟩
theorem fq_X12_139 : zPl RX12 139 11 57 (.array .int) true := ⟨RX12, TX12, 80, tyX12, rfl, in_X12, by decide, fw_X12_139, tyX12_ok, nmX12, tyX12_ok 57 (by decide), rfl, fun _ => rfl⟩
theorem fw_X12_142 : Cond.fieldLink RX12 142 (TX12 58).1 (TX12 58).2.1 (TX12 58).2.2.1 ∈ zw := zw_7 62 (by decide +kernel) (by decide +kernel)
theorem fl_X12_142 : zFl RX12 142 11 58 := ⟨RX12, TX12, 80, rfl, in_X12, by decide, fw_X12_142⟩
theorem fq_X12_142 : zPl RX12 142 11 58 (.array .int) true := ⟨RX12, TX12, 80, tyX12, rfl, in_X12, by decide, fw_X12_142, tyX12_ok, nmX12, tyX12_ok 58 (by decide), rfl, fun _ => rfl⟩
theorem fw_X12_145 : Cond.fieldLink RX12 145 (TX12 59).1 (TX12 59).2.1 (TX12 59).2.2.1 ∈ zw := zw_7 63 (by decide +kernel) (by decide +kernel)
theorem fl_X12_145 : zFl RX12 145 11 59 := ⟨RX12, TX12, 80, rfl, in_X12, by decide, fw_X12_145⟩
theorem fq_X12_145 : zPl RX12 145 11 59 (.array .int) true := ⟨RX12, TX12, 80, tyX12, rfl, in_X12, by decide, fw_X12_145, tyX12_ok, nmX12, tyX12_ok 59 (by decide), rfl, fun _ => rfl⟩
theorem fw_X12_148 : Cond.fieldLink RX12 148 (TX12 60).1 (TX12 60).2.1 (TX12 60).2.2.1 ∈ zw := zw_7 64 (by decide +kernel) (by decide +kernel)
theorem fl_X12_148 : zFl RX12 148 11 60 := ⟨RX12, TX12, 80, rfl, in_X12, by decide, fw_X12_148⟩
theorem fq_X12_148 : zPl RX12 148 11 60 (.array .int) true := ⟨RX12, TX12, 80, tyX12, rfl, in_X12, by decide, fw_X12_148, tyX12_ok, nmX12, tyX12_ok 60 (by decide), rfl, fun _ => rfl⟩
theorem fw_X12_151 : Cond.fieldLink RX12 151 (TX12 61).1 (TX12 61).2.1 (TX12 61).2.2.1 ∈ zw := zw_7 65 (by decide +kernel) (by decide +kernel)
theorem fl_X12_151 : zFl RX12 151 11 61 := ⟨RX12, TX12, 80, rfl, in_X12, by decide, fw_X12_151⟩
theorem fq_X12_151 : zPl RX12 151 11 61 (.array .int) true := ⟨RX12, TX12, 80, tyX12, rfl, in_X12, by decide, fw_X12_151, tyX12_ok, nmX12, tyX12_ok 61 (by decide), rfl, fun _ => rfl⟩
theorem fw_X12_154 : Cond.fieldLink RX12 154 (TX12 62).1 (TX12 62).2.1 (TX12 62).2.2.1 ∈ zw := zw_7 66 (by decide +kernel) (by decide +kernel)
theorem fl_X12_154 : zFl RX12 154 11 62 := ⟨RX12, TX12, 80, rfl, in_X12, by decide, fw_X12_154⟩
theorem fq_X12_154 : zPl RX12 154 11 62 (.array .int) true := ⟨RX12, TX12, 80, tyX12, rfl, in_X12, by decide, fw_X12_154, tyX12_ok, nmX12, tyX12_ok 62 (by decide), rfl, fun _ => rfl⟩
theorem fw_X12_157 : Cond.fieldLink RX12 157 (TX12 63).1 (TX12 63).2.1 (TX12 63).2.2.1 ∈ zw := zw_7 67 (by decide +kernel) (by decide +kernel)
theorem fl_X12_157 : zFl RX12 157 11 63 := ⟨RX12, TX12, 80, rfl, in_X12, by decide, fw_X12_157⟩
theorem fq_X12_157 : zPl RX12 157 11 63 (.array .int) true := ⟨RX12, TX12, 80, tyX12, rfl, in_X12, by decide, fw_X12_157, tyX12_ok, nmX12, tyX12_ok 63 (by decide), rfl, fun _ => rfl⟩
theorem fw_X12_160 : Cond.fieldLink RX12 160 (TX12 64).1 (TX12 64).2.1 (TX12 64).2.2.1 ∈ zw := zw_7 68 (by decide +kernel) (by decide +kernel)
theorem fl_X12_160 : zFl RX12 160 11 64 := ⟨RX12, TX12, 80, rfl, in_X12, by decide, fw_X12_160⟩
theorem fq_X12_160 : zPl RX12 160 11 64 (.array .int) true := ⟨RX12, TX12, 80, tyX12, rfl, in_X12, by decide, fw_X12_160, tyX12_ok, nmX12, tyX12_ok 64 (by decide), rfl, fun _ => rfl⟩
theorem fw_X12_163 : Cond.fieldLink RX12 163 (TX12 65).1 (TX12 65).2.1 (TX12 65).2.2.1 ∈ zw := zw_7 69 (by decide +kernel) (by decide +kernel)
theorem fl_X12_163 : zFl RX12 163 11 65 := ⟨RX12, TX12, 80, rfl, in_X12, by decide, fw_X12_163⟩
theorem fq_X12_163 : zPl RX12 163 11 65 (.array .boolean) true := ⟨RX12, TX12, 80, tyX12, rfl, in_X12, by decide, fw_X12_163, tyX12_ok, nmX12, tyX12_ok 65 (by decide), rfl, fun _ => rfl⟩
theorem fw_X12_166 : Cond.fieldLink RX12 166 (TX12 68).1 (TX12 68).2.1 (TX12 68).2.2.1 ∈ zw := zw_7 72 (by decide +kernel) (by decide +kernel)
theorem fl_X12_166 : zFl RX12 166 11 68 := ⟨RX12, TX12, 80, rfl, in_X12, by decide, fw_X12_166⟩
theorem fq_X12_166 : zPl RX12 166 11 68 (.array .int) true := ⟨RX12, TX12, 80, tyX12, rfl, in_X12, by decide, fw_X12_166, tyX12_ok, nmX12, tyX12_ok 68 (by decide), rfl, fun _ => rfl⟩
theorem fw_X12_169 : Cond.fieldLink RX12 169 (TX12 69).1 (TX12 69).2.1 (TX12 69).2.2.1 ∈ zw := zw_7 73 (by decide +kernel) (by decide +kernel)
theorem fl_X12_169 : zFl RX12 169 11 69 := ⟨RX12, TX12, 80, rfl, in_X12, by decide, fw_X12_169⟩
theorem fq_X12_169 : zPl RX12 169 11 69 (.array .int) true := ⟨RX12, TX12, 80, tyX12, rfl, in_X12, by decide, fw_X12_169, tyX12_ok, nmX12, tyX12_ok 69 (by decide), rfl, fun _ => rfl⟩
theorem fw_X12_172 : Cond.fieldLink RX12 172 (TX12 70).1 (TX12 70).2.1 (TX12 70).2.2.1 ∈ zw := zw_7 74 (by decide +kernel) (by decide +kernel)
theorem fl_X12_172 : zFl RX12 172 11 70 := ⟨RX12, TX12, 80, rfl, in_X12, by decide, fw_X12_172⟩
theorem fq_X12_172 : zPl RX12 172 11 70 (.array .int) true := ⟨RX12, TX12, 80, tyX12, rfl, in_X12, by decide, fw_X12_172, tyX12_ok, nmX12, tyX12_ok 70 (by decide), rfl, fun _ => rfl⟩
theorem fw_X12_175 : Cond.fieldLink RX12 175 (TX12 71).1 (TX12 71).2.1 (TX12 71).2.2.1 ∈ zw := zw_7 75 (by decide +kernel) (by decide +kernel)
theorem fl_X12_175 : zFl RX12 175 11 71 := ⟨RX12, TX12, 80, rfl, in_X12, by decide, fw_X12_175⟩
theorem fq_X12_175 : zPl RX12 175 11 71 (.array .int) true := ⟨RX12, TX12, 80, tyX12, rfl, in_X12, by decide, fw_X12_175, tyX12_ok, nmX12, tyX12_ok 71 (by decide), rfl, fun _ => rfl⟩
theorem fw_X12_178 : Cond.fieldLink RX12 178 (TX12 72).1 (TX12 72).2.1 (TX12 72).2.2.1 ∈ zw := zw_7 76 (by decide +kernel) (by decide +kernel)
theorem fl_X12_178 : zFl RX12 178 11 72 := ⟨RX12, TX12, 80, rfl, in_X12, by decide, fw_X12_178⟩
theorem fq_X12_178 : zPl RX12 178 11 72 (.array .int) true := ⟨RX12, TX12, 80, tyX12, rfl, in_X12, by decide, fw_X12_178, tyX12_ok, nmX12, tyX12_ok 72 (by decide), rfl, fun _ => rfl⟩
theorem fw_X12_181 : Cond.fieldLink RX12 181 (TX12 73).1 (TX12 73).2.1 (TX12 73).2.2.1 ∈ zw := zw_7 77 (by decide +kernel) (by decide +kernel)
theorem fl_X12_181 : zFl RX12 181 11 73 := ⟨RX12, TX12, 80, rfl, in_X12, by decide, fw_X12_181⟩
theorem fq_X12_181 : zPl RX12 181 11 73 (.array .int) true := ⟨RX12, TX12, 80, tyX12, rfl, in_X12, by decide, fw_X12_181, tyX12_ok, nmX12, tyX12_ok 73 (by decide), rfl, fun _ => rfl⟩
theorem fw_X12_184 : Cond.fieldLink RX12 184 (TX12 74).1 (TX12 74).2.1 (TX12 74).2.2.1 ∈ zw := zw_7 78 (by decide +kernel) (by decide +kernel)
theorem fl_X12_184 : zFl RX12 184 11 74 := ⟨RX12, TX12, 80, rfl, in_X12, by decide, fw_X12_184⟩
theorem fq_X12_184 : zPl RX12 184 11 74 (.array .int) true := ⟨RX12, TX12, 80, tyX12, rfl, in_X12, by decide, fw_X12_184, tyX12_ok, nmX12, tyX12_ok 74 (by decide), rfl, fun _ => rfl⟩
theorem fw_X12_187 : Cond.fieldLink RX12 187 (TX12 75).1 (TX12 75).2.1 (TX12 75).2.2.1 ∈ zw := zw_7 79 (by decide +kernel) (by decide +kernel)
theorem fl_X12_187 : zFl RX12 187 11 75 := ⟨RX12, TX12, 80, rfl, in_X12, by decide, fw_X12_187⟩
theorem fq_X12_187 : zPl RX12 187 11 75 (.array .int) true := ⟨RX12, TX12, 80, tyX12, rfl, in_X12, by decide, fw_X12_187, tyX12_ok, nmX12, tyX12_ok 75 (by decide), rfl, fun _ => rfl⟩
theorem fw_X12_190 : Cond.fieldLink RX12 190 (TX12 77).1 (TX12 77).2.1 (TX12 77).2.2.1 ∈ zw := zw_7 81 (by decide +kernel) (by decide +kernel)
theorem fl_X12_190 : zFl RX12 190 11 77 := ⟨RX12, TX12, 80, rfl, in_X12, by decide, fw_X12_190⟩
theorem fq_X12_190 : zPl RX12 190 11 77 (.array .int) true := ⟨RX12, TX12, 80, tyX12, rfl, in_X12, by decide, fw_X12_190, tyX12_ok, nmX12, tyX12_ok 77 (by decide), rfl, fun _ => rfl⟩
theorem fw_X12_193 : Cond.fieldLink RX12 193 (TX12 78).1 (TX12 78).2.1 (TX12 78).2.2.1 ∈ zw := zw_7 82 (by decide +kernel) (by decide +kernel)
theorem fl_X12_193 : zFl RX12 193 11 78 := ⟨RX12, TX12, 80, rfl, in_X12, by decide, fw_X12_193⟩
theorem fq_X12_193 : zPl RX12 193 11 78 (.array .int) true := ⟨RX12, TX12, 80, tyX12, rfl, in_X12, by decide, fw_X12_193, tyX12_ok, nmX12, tyX12_ok 78 (by decide), rfl, fun _ => rfl⟩
theorem fw_X12_196 : Cond.fieldLink RX12 196 (TX12 79).1 (TX12 79).2.1 (TX12 79).2.2.1 ∈ zw := zw_7 83 (by decide +kernel) (by decide +kernel)
theorem fl_X12_196 : zFl RX12 196 11 79 := ⟨RX12, TX12, 80, rfl, in_X12, by decide, fw_X12_196⟩
theorem fq_X12_196 : zPl RX12 196 11 79 (.array .int) true := ⟨RX12, TX12, 80, tyX12, rfl, in_X12, by decide, fw_X12_196, tyX12_ok, nmX12, tyX12_ok 79 (by decide), rfl, fun _ => rfl⟩
theorem fw_X12_199 : Cond.fieldLink RX12 199 (TX12 0).1 (TX12 0).2.1 (TX12 0).2.2.1 ∈ zw := zw_7 4 (by decide +kernel) (by decide +kernel)
theorem fl_X12_199 : zFl RX12 199 11 0 := ⟨RX12, TX12, 80, rfl, in_X12, by decide, fw_X12_199⟩
theorem fq_X12_199 : zPl RX12 199 11 0 .int false := ⟨RX12, TX12, 80, tyX12, rfl, in_X12, by decide, fw_X12_199, tyX12_ok, nmX12, tyX12_ok 0 (by decide), rfl, fun h => nomatch h⟩
theorem fw_X12_202 : Cond.fieldLink RX12 202 (TX12 1).1 (TX12 1).2.1 (TX12 1).2.2.1 ∈ zw := zw_7 5 (by decide +kernel) (by decide +kernel)
theorem fl_X12_202 : zFl RX12 202 11 1 := ⟨RX12, TX12, 80, rfl, in_X12, by decide, fw_X12_202⟩
theorem fq_X12_202 : zPl RX12 202 11 1 .int false := ⟨RX12, TX12, 80, tyX12, rfl, in_X12, by decide, fw_X12_202, tyX12_ok, nmX12, tyX12_ok 1 (by decide), rfl, fun h => nomatch h⟩
theorem fw_X12_209 : Cond.fieldLink RX12 209 (TX12 2).1 (TX12 2).2.1 (TX12 2).2.2.1 ∈ zw := zw_7 6 (by decide +kernel) (by decide +kernel)
theorem fl_X12_209 : zFl RX12 209 11 2 := ⟨RX12, TX12, 80, rfl, in_X12, by decide, fw_X12_209⟩
theorem fq_X12_209 : zPl RX12 209 11 2 .int false := ⟨RX12, TX12, 80, tyX12, rfl, in_X12, by decide, fw_X12_209, tyX12_ok, nmX12, tyX12_ok 2 (by decide), rfl, fun h => nomatch h⟩
theorem fw_X12_222 : Cond.fieldLink RX12 222 (TX12 3).1 (TX12 3).2.1 (TX12 3).2.2.1 ∈ zw := zw_7 7 (by decide +kernel) (by decide +kernel)
theorem fl_X12_222 : zFl RX12 222 11 3 := ⟨RX12, TX12, 80, rfl, in_X12, by decide, fw_X12_222⟩
theorem fq_X12_222 : zPl RX12 222 11 3 .int false := ⟨RX12, TX12, 80, tyX12, rfl, in_X12, by decide, fw_X12_222, tyX12_ok, nmX12, tyX12_ok 3 (by decide), rfl, fun h => nomatch h⟩
theorem fw_X12_226 : Cond.fieldLink RX12 226 (TX12 6).1 (TX12 6).2.1 (TX12 6).2.2.1 ∈ zw := zw_7 10 (by decide +kernel) (by decide +kernel)
theorem fl_X12_226 : zFl RX12 226 11 6 := ⟨RX12, TX12, 80, rfl, in_X12, by decide, fw_X12_226⟩
theorem fq_X12_226 : zPl RX12 226 11 6 .int false := ⟨RX12, TX12, 80, tyX12, rfl, in_X12, by decide, fw_X12_226, tyX12_ok, nmX12, tyX12_ok 6 (by decide), rfl, fun h => nomatch h⟩
theorem fw_X12_229 : Cond.fieldLink RX12 229 (TX12 7).1 (TX12 7).2.1 (TX12 7).2.2.1 ∈ zw := zw_7 11 (by decide +kernel) (by decide +kernel)
theorem fl_X12_229 : zFl RX12 229 11 7 := ⟨RX12, TX12, 80, rfl, in_X12, by decide, fw_X12_229⟩
theorem fq_X12_229 : zPl RX12 229 11 7 .int false := ⟨RX12, TX12, 80, tyX12, rfl, in_X12, by decide, fw_X12_229, tyX12_ok, nmX12, tyX12_ok 7 (by decide), rfl, fun h => nomatch h⟩
theorem fw_X12_232 : Cond.fieldLink RX12 232 (TX12 8).1 (TX12 8).2.1 (TX12 8).2.2.1 ∈ zw := zw_7 12 (by decide +kernel) (by decide +kernel)
theorem fl_X12_232 : zFl RX12 232 11 8 := ⟨RX12, TX12, 80, rfl, in_X12, by decide, fw_X12_232⟩
theorem fq_X12_232 : zPl RX12 232 11 8 .int false := ⟨RX12, TX12, 80, tyX12, rfl, in_X12, by decide, fw_X12_232, tyX12_ok, nmX12, tyX12_ok 8 (by decide), rfl, fun h => nomatch h⟩
theorem fw_X12_239 : Cond.fieldLink RX12 239 (TX12 9).1 (TX12 9).2.1 (TX12 9).2.2.1 ∈ zw := zw_7 13 (by decide +kernel) (by decide +kernel)
theorem fl_X12_239 : zFl RX12 239 11 9 := ⟨RX12, TX12, 80, rfl, in_X12, by decide, fw_X12_239⟩
theorem fq_X12_239 : zPl RX12 239 11 9 .int false := ⟨RX12, TX12, 80, tyX12, rfl, in_X12, by decide, fw_X12_239, tyX12_ok, nmX12, tyX12_ok 9 (by decide), rfl, fun h => nomatch h⟩
theorem fw_X12_305 : Cond.fieldLink RX12 305 (TX12 21).1 (TX12 21).2.1 (TX12 21).2.2.1 ∈ zw := zw_7 25 (by decide +kernel) (by decide +kernel)
theorem fl_X12_305 : zFl RX12 305 11 21 := ⟨RX12, TX12, 80, rfl, in_X12, by decide, fw_X12_305⟩
theorem fq_X12_305 : zPl RX12 305 11 21 .int false := ⟨RX12, TX12, 80, tyX12, rfl, in_X12, by decide, fw_X12_305, tyX12_ok, nmX12, tyX12_ok 21 (by decide), rfl, fun h => nomatch h⟩
theorem fw_X12_324 : Cond.fieldLink RX12 324 (TX12 12).1 (TX12 12).2.1 (TX12 12).2.2.1 ∈ zw := zw_7 16 (by decide +kernel) (by decide +kernel)
theorem fl_X12_324 : zFl RX12 324 11 12 := ⟨RX12, TX12, 80, rfl, in_X12, by decide, fw_X12_324⟩
theorem fq_X12_324 : zPl RX12 324 11 12 .int false := ⟨RX12, TX12, 80, tyX12, rfl, in_X12, by decide, fw_X12_324, tyX12_ok, nmX12, tyX12_ok 12 (by decide), rfl, fun h => nomatch h⟩
theorem fw_X12_361 : Cond.fieldLink RX12 361 (TX12 11).1 (TX12 11).2.1 (TX12 11).2.2.1 ∈ zw := zw_7 15 (by decide +kernel) (by decide +kernel)
theorem fl_X12_361 : zFl RX12 361 11 11 := ⟨RX12, TX12, 80, rfl, in_X12, by decide, fw_X12_361⟩
theorem fq_X12_361 : zPl RX12 361 11 11 .int false := ⟨RX12, TX12, 80, tyX12, rfl, in_X12, by decide, fw_X12_361, tyX12_ok, nmX12, tyX12_ok 11 (by decide), rfl, fun h => nomatch h⟩
theorem fw_X12_368 : Cond.fieldLink RX12 368 (TX12 23).1 (TX12 23).2.1 (TX12 23).2.2.1 ∈ zw := zw_7 27 (by decide +kernel) (by decide +kernel)
theorem fl_X12_368 : zFl RX12 368 11 23 := ⟨RX12, TX12, 80, rfl, in_X12, by decide, fw_X12_368⟩
theorem fq_X12_368 : zPl RX12 368 11 23 .int false := ⟨RX12, TX12, 80, tyX12, rfl, in_X12, by decide, fw_X12_368, tyX12_ok, nmX12, tyX12_ok 23 (by decide), rfl, fun h => nomatch h⟩
theorem fw_X12_414 : Cond.fieldLink RX12 414 (TX12 41).1 (TX12 41).2.1 (TX12 41).2.2.1 ∈ zw := zw_7 45 (by decide +kernel) (by decide +kernel)
theorem fl_X12_414 : zFl RX12 414 11 41 := ⟨RX12, TX12, 80, rfl, in_X12, by decide, fw_X12_414⟩
theorem fq_X12_414 : zPl RX12 414 11 41 .int false := ⟨RX12, TX12, 80, tyX12, rfl, in_X12, by decide, fw_X12_414, tyX12_ok, nmX12, tyX12_ok 41 (by decide), rfl, fun h => nomatch h⟩
theorem fw_X12_427 : Cond.fieldLink RX12 427 (TX12 48).1 (TX12 48).2.1 (TX12 48).2.2.1 ∈ zw := zw_7 52 (by decide +kernel) (by decide +kernel)
theorem fl_X12_427 : zFl RX12 427 11 48 := ⟨RX12, TX12, 80, rfl, in_X12, by decide, fw_X12_427⟩
theorem fq_X12_427 : zPl RX12 427 11 48 .int false := ⟨RX12, TX12, 80, tyX12, rfl, in_X12, by decide, fw_X12_427, tyX12_ok, nmX12, tyX12_ok 48 (by decide), rfl, fun h => nomatch h⟩
theorem fw_X12_430 : Cond.fieldLink RX12 430 (TX12 49).1 (TX12 49).2.1 (TX12 49).2.2.1 ∈ zw := zw_7 53 (by decide +kernel) (by decide +kernel)
theorem fl_X12_430 : zFl RX12 430 11 49 := ⟨RX12, TX12, 80, rfl, in_X12, by decide, fw_X12_430⟩
theorem fq_X12_430 : zPl RX12 430 11 49 .int false := ⟨RX12, TX12, 80, tyX12, rfl, in_X12, by decide, fw_X12_430, tyX12_ok, nmX12, tyX12_ok 49 (by decide), rfl, fun h => nomatch h⟩
theorem fw_X12_465 : Cond.fieldLink RX12 465 (TX12 66).1 (TX12 66).2.1 (TX12 66).2.2.1 ∈ zw := zw_7 70 (by decide +kernel) (by decide +kernel)
theorem fl_X12_465 : zFl RX12 465 11 66 := ⟨RX12, TX12, 80, rfl, in_X12, by decide, fw_X12_465⟩
theorem fq_X12_465 : zPl RX12 465 11 66 .int false := ⟨RX12, TX12, 80, tyX12, rfl, in_X12, by decide, fw_X12_465, tyX12_ok, nmX12, tyX12_ok 66 (by decide), rfl, fun h => nomatch h⟩
theorem fw_X12_468 : Cond.fieldLink RX12 468 (TX12 67).1 (TX12 67).2.1 (TX12 67).2.2.1 ∈ zw := zw_7 71 (by decide +kernel) (by decide +kernel)
theorem fl_X12_468 : zFl RX12 468 11 67 := ⟨RX12, TX12, 80, rfl, in_X12, by decide, fw_X12_468⟩
theorem fq_X12_468 : zPl RX12 468 11 67 .int false := ⟨RX12, TX12, 80, tyX12, rfl, in_X12, by decide, fw_X12_468, tyX12_ok, nmX12, tyX12_ok 67 (by decide), rfl, fun h => nomatch h⟩
theorem fw_X12_490 : Cond.fieldLink RX12 490 (TX12 76).1 (TX12 76).2.1 (TX12 76).2.2.1 ∈ zw := zw_7 80 (by decide +kernel) (by decide +kernel)
