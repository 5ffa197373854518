theorem zw_of {w : Cond} (i : Nat) (h : lw_tbl[i]? = some w) (g : goodWord w = true) : w ∈ zw := List.mem_filter.mpr ⟨List.mem_of_getElem? h, g⟩
theorem zin_of {ws : List Cond} (ps : List Nat) (h : ws = ps.filterMap (fun i => lw_tbl[i]?)) (g : ws.all goodWord = true) : ∀ w ∈ ws, w ∈ zw := fun w hw => by
  have h1 := List.all_eq_true.mp g w hw
  rw [h] at hw
  obtain ⟨i, -, hi⟩ := List.mem_filterMap.mp hw
  exact List.mem_filter.mpr ⟨List.mem_of_getElem? hi, h1⟩
theorem zw_1 {w : Cond} (i : Nat) (h : tables_1_1[i]? = some w) (g : goodWord w = true) : w ∈ zw := List.mem_filter.mpr ⟨List.mem_append_right _ (List.mem_append_left _ (List.mem_of_getElem? h)), g⟩
theorem zw_2 {w : Cond} (i : Nat) (h : tables_1_2[i]? = some w) (g : goodWord w = true) : w ∈ zw := List.mem_filter.mpr ⟨List.mem_append_right _ (List.mem_append_right _ (List.mem_append_left _ (List.mem_of_getElem? h))), g⟩
theorem zw_3 {w : Cond} (i : Nat) (h : tables_1_3[i]? = some w) (g : goodWord w = true) : w ∈ zw := List.mem_filter.mpr ⟨List.mem_append_right _ (List.mem_append_right _ (List.mem_append_right _ (List.mem_append_left _ (List.mem_of_getElem? h)))), g⟩
theorem zw_4 {w : Cond} (i : Nat) (h : tables_1_4[i]? = some w) (g : goodWord w = true) : w ∈ zw := List.mem_filter.mpr ⟨List.mem_append_right _ (List.mem_append_right _ (List.mem_append_right _ (List.mem_append_right _ (List.mem_append_left _ (List.mem_of_getElem? h))))), g⟩
theorem zw_5 {w : Cond} (i : Nat) (h : tables_1_5[i]? = some w) (g : goodWord w = true) : w ∈ zw := List.mem_filter.mpr ⟨List.mem_append_right _ (List.mem_append_right _ (List.mem_append_right _ (List.mem_append_right _ (List.mem_append_right _ (List.mem_append_left _ (List.mem_of_getElem? h)))))), g⟩
theorem zw_6 {w : Cond} (i : Nat) (h : tables_1_6[i]? = some w) (g : goodWord w = true) : w ∈ zw := List.mem_filter.mpr ⟨List.mem_append_right _ (List.mem_append_right _ (List.mem_append_right _ (List.mem_append_right _ (List.mem_append_right _ (List.mem_append_right _ (List.mem_append_left _ (List.mem_of_getElem? h))))))), g⟩
theorem zw_7 {w : Cond} (i : Nat) (h : tables_1_7[i]? = some w) (g : goodWord w = true) : w ∈ zw := List.mem_filter.mpr ⟨List.mem_append_right _ (List.mem_append_right _ (List.mem_append_right _ (List.mem_append_right _ (List.mem_append_right _ (List.mem_append_right _ (List.mem_append_right _ (List.mem_append_left _ (List.mem_of_getElem? h)))))))), g⟩
theorem zw_8 {w : Cond} (i : Nat) (h : tables_1_8[i]? = some w) (g : goodWord w = true) : w ∈ zw := List.mem_filter.mpr ⟨List.mem_append_right _ (List.mem_append_right _ (List.mem_append_right _ (List.mem_append_right _ (List.mem_append_right _ (List.mem_append_right _ (List.mem_append_right _ (List.mem_append_right _ (List.mem_append_left _ (List.mem_of_getElem? h))))))))), g⟩
theorem zw_9 {w : Cond} (i : Nat) (h : tables_1_9[i]? = some w) (g : goodWord w = true) : w ∈ zw := List.mem_filter.mpr ⟨List.mem_append_right _ (List.mem_append_right _ (List.mem_append_right _ (List.mem_append_right _ (List.mem_append_right _ (List.mem_append_right _ (List.mem_append_right _ (List.mem_append_right _ (List.mem_append_right _ (List.mem_append_left _ (List.mem_of_getElem? h)))))))))), g⟩
theorem zw_10 {w : Cond} (i : Nat) (h : tables_1_10[i]? = some w) (g : goodWord w = true) : w ∈ zw := List.mem_filter.mpr ⟨List.mem_append_right _ (List.mem_append_right _ (List.mem_append_right _ (List.mem_append_right _ (List.mem_append_right _ (List.mem_append_right _ (List.mem_append_right _ (List.mem_append_right _ (List.mem_append_right _ (List.mem_append_right _ (List.mem_of_getElem? h)))))))))), g⟩
theorem zw_0 {w : Cond} (i : Nat) (h : (k2_sels lw_privs)[i]? = some w) (g : goodWord w = true) : w ∈ zw := List.mem_filter.mpr ⟨List.mem_append_left _ (List.mem_of_getElem? h), g⟩
theorem in_Jx4a65c : ∀ w ∈ u_ws RJx4a65c TJx4a65c 3, w ∈ zw := zin_of [148, 144, 146] (by decide +kernel) (by decide +kernel)
theorem in_X1 : ∀ w ∈ u_ws RX1 TX1 9, w ∈ zw := zin_of [166, 168, 170, 172, 174, 176, 178, 180, 182] (by decide +kernel) (by decide +kernel)
theorem in_X2 : ∀ w ∈ u_ws RX2 TX2 3, w ∈ zw := zin_of [1439, 1441, 1443] (by decide +kernel) (by decide +kernel)
theorem in_X3 : ∀ w ∈ u_ws RX3 TX3 4, w ∈ zw := zin_of [196, 198, 200, 202] (by decide +kernel) (by decide +kernel)
theorem in_X4 : ∀ w ∈ u_ws RX4 TX4 3, w ∈ zw := zin_of [1073, 1075, 1077] (by decide +kernel) (by decide +kernel)
theorem in_X5 : ∀ w ∈ u_ws RX5 TX5 14, w ∈ zw := zin_of [257, 259, 261, 263, 265, 267, 269, 271, 273, 275, 277, 279, 281, 283] (by decide +kernel) (by decide +kernel)
theorem in_X6 : ∀ w ∈ u_ws RX6 TX6 13, w ∈ zw := zin_of [300, 302, 304, 306, 308, 310, 312, 314, 316, 318, 320, 322, 324] (by decide +kernel) (by decide +kernel)
theorem in_X7 : ∀ w ∈ u_ws RX7 TX7 4, w ∈ zw := zin_of [1332, 1334, 1336, 1338] (by decide +kernel) (by decide +kernel)
theorem in_X8 : ∀ w ∈ u_ws RX8 TX8 6, w ∈ zw := zin_of [530, 532, 534, 536, 538, 540] (by decide +kernel) (by decide +kernel)
theorem in_X10 : ∀ w ∈ u_ws RX10 TX10 18, w ∈ zw := zin_of [908, 910, 912, 914, 916, 918, 920, 922, 924, 926, 928, 930, 932, 934, 936, 938, 940, 942] (by decide +kernel) (by decide +kernel)
theorem in_X11 : ∀ w ∈ u_ws RX11 TX11 17, w ∈ zw := zin_of [346, 348, 350, 352, 354, 356, 358, 360, 362, 364, 366, 368, 370, 372, 374, 376, 378] (by decide +kernel) (by decide +kernel)
theorem in_X12 : ∀ w ∈ u_ws RX12 TX12 80, w ∈ zw := zin_of [1608, 1610, 1612, 1614, 1616, 1618, 1620, 1622, 1624, 1626, 1628, 1630, 1632, 1634, 1636, 1638, 1640, 1642, 1644, 1646, 1648, 1650, 1652, 1654, 1656, 1658, 1660, 1662, 1664, 1666, 1668, 1670, 1672, 1674, 1676, 1678, 1680, 1682, 1684, 1686, 1688, 1690, 1692, 1694, 1696, 1698, 1700, 1702, 1704, 1706, 1708, 1710, 1712, 1714, 1716, 1718, 1720, 1722, 1724, 1726, 1728, 1730, 1732, 1734, 1736, 1738, 1740, 1742, 1744, 1746, 1748, 1750, 1752, 1754, 1756, 1758, 1760, 1762, 1764, 1766] (by decide +kernel) (by decide +kernel)
theorem fw_X11_10 : Cond.fieldLink RX11 10 (TX11 0).1 (TX11 0).2.1 (TX11 0).2.2.1 ∈ zw := zw_2 5 (by decide +kernel) (by decide +kernel)
theorem fl_X11_10 : zFl RX11 10 10 0 := ⟨RX11, TX11, 17, rfl, in_X11, by decide, fw_X11_10⟩
theorem fq_X11_10 : zPl RX11 10 10 0 (.object "java/util/ArrayList") true := ⟨RX11, TX11, 17, tyX11, rfl, in_X11, by decide, fw_X11_10, tyX11_ok, nmX11, tyX11_ok 0 (by decide), rfl, fun _ => rfl⟩
theorem fw_X11_16 : Cond.fieldLink RX11 16 (TX11 1).1 (TX11 1).2.1 (TX11 1).2.2.1 ∈ zw := zw_2 6 (by decide +kernel) (by decide +kernel)
theorem fl_X11_16 : zFl RX11 16 10 1 := ⟨RX11, TX11, 17, rfl, in_X11, by decide, fw_X11_16⟩
theorem fq_X11_16 : zPl RX11 16 10 1 (.object "java/util/ArrayList") true := ⟨RX11, TX11, 17, tyX11, rfl, in_X11, by decide, fw_X11_16, tyX11_ok, nmX11, tyX11_ok 1 (by decide), rfl, fun _ => rfl⟩
theorem fw_X11_19 : Cond.fieldLink RX11 19 (TX11 2).1 (TX11 2).2.1 (TX11 2).2.2.1 ∈ zw := zw_2 7 (by decide +kernel) (by decide +kernel)
theorem fl_X11_19 : zFl RX11 19 10 2 := ⟨RX11, TX11, 17, rfl, in_X11, by decide, fw_X11_19⟩
theorem fq_X11_19 : zPl RX11 19 10 2 (.object "java/util/ArrayList") true := ⟨RX11, TX11, 17, tyX11, rfl, in_X11, by decide, fw_X11_19, tyX11_ok, nmX11, tyX11_ok 2 (by decide), rfl, fun _ => rfl⟩
theorem fw_X11_22 : Cond.fieldLink RX11 22 (TX11 3).1 (TX11 3).2.1 (TX11 3).2.2.1 ∈ zw := zw_2 8 (by decide +kernel) (by decide +kernel)
theorem fl_X11_22 : zFl RX11 22 10 3 := ⟨RX11, TX11, 17, rfl, in_X11, by decide, fw_X11_22⟩
theorem fq_X11_22 : zPl RX11 22 10 3 (.object "java/util/ArrayList") true := ⟨RX11, TX11, 17, tyX11, rfl, in_X11, by decide, fw_X11_22, tyX11_ok, nmX11, tyX11_ok 3 (by decide), rfl, fun _ => rfl⟩
theorem fw_X11_25 : Cond.fieldLink RX11 25 (TX11 4).1 (TX11 4).2.1 (TX11 4).2.2.1 ∈ zw := zw_2 9 (by decide +kernel) (by decide +kernel)
theorem fl_X11_25 : zFl RX11 25 10 4 := ⟨RX11, TX11, 17, rfl, in_X11, by decide, fw_X11_25⟩
theorem fq_X11_25 : zPl RX11 25 10 4 (.array .int) true := ⟨RX11, TX11, 17, tyX11, rfl, in_X11, by decide, fw_X11_25, tyX11_ok, nmX11, tyX11_ok 4 (by decide), rfl, fun _ => rfl⟩
theorem fw_X11_29 : Cond.fieldLink RX11 29 (TX11 5).1 (TX11 5).2.1 (TX11 5).2.2.1 ∈ zw := zw_2 10 (by decide +kernel) (by decide +kernel)
theorem fl_X11_29 : zFl RX11 29 10 5 := ⟨RX11, TX11, 17, rfl, in_X11, by decide, fw_X11_29⟩
theorem fq_X11_29 : zPl RX11 29 10 5 (.array .int) true := ⟨RX11, TX11, 17, tyX11, rfl, in_X11, by decide, fw_X11_29, tyX11_ok, nmX11, tyX11_ok 5 (by decide), rfl, fun _ => rfl⟩
theorem fw_X11_32 : Cond.fieldLink RX11 32 (TX11 6).1 (TX11 6).2.1 (TX11 6).2.2.1 ∈ zw := zw_2 11 (by decide +kernel) (by decide +kernel)
theorem fl_X11_32 : zFl RX11 32 10 6 := ⟨RX11, TX11, 17, rfl, in_X11, by decide, fw_X11_32⟩
theorem fq_X11_32 : zPl RX11 32 10 6 (.array .int) true := ⟨RX11, TX11, 17, tyX11, rfl, in_X11, by decide, fw_X11_32, tyX11_ok, nmX11, tyX11_ok 6 (by decide), rfl, fun _ => rfl⟩
theorem fw_X11_38 : Cond.fieldLink RX11 38 (TX11 7).1 (TX11 7).2.1 (TX11 7).2.2.1 ∈ zw := zw_2 12 (by decide +kernel) (by decide +kernel)
theorem fl_X11_38 : zFl RX11 38 10 7 := ⟨RX11, TX11, 17, rfl, in_X11, by decide, fw_X11_38⟩
theorem fq_X11_38 : zPl RX11 38 10 7 (.object "PartyWalls$Book") true := ⟨RX11, TX11, 17, tyX11, rfl, in_X11, by decide, fw_X11_38, tyX11_ok, nmX11, tyX11_ok 7 (by decide), rfl, fun _ => rfl⟩
theorem fw_X11_45 : Cond.fieldLink RX11 45 (TX11 8).1 (TX11 8).2.1 (TX11 8).2.2.1 ∈ zw := zw_2 13 (by decide +kernel) (by decide +kernel)
theorem fl_X11_45 : zFl RX11 45 10 8 := ⟨RX11, TX11, 17, rfl, in_X11, by decide, fw_X11_45⟩
theorem fq_X11_45 : zPl RX11 45 10 8 (.object "PartyWalls$Joining") true := ⟨RX11, TX11, 17, tyX11, rfl, in_X11, by decide, fw_X11_45, tyX11_ok, nmX11, tyX11_ok 8 (by decide), rfl, fun _ => rfl⟩
theorem fw_X11_49 : Cond.fieldLink RX11 49 (TX11 9).1 (TX11 9).2.1 (TX11 9).2.2.1 ∈ zw := zw_2 14 (by decide +kernel) (by decide +kernel)
theorem fl_X11_49 : zFl RX11 49 10 9 := ⟨RX11, TX11, 17, rfl, in_X11, by decide, fw_X11_49⟩
theorem fq_X11_49 : zPl RX11 49 10 9 (.array .byte) true := ⟨RX11, TX11, 17, tyX11, rfl, in_X11, by decide, fw_X11_49, tyX11_ok, nmX11, tyX11_ok 9 (by decide), rfl, fun _ => rfl⟩
theorem fw_X11_58 : Cond.fieldLink RX11 58 (TX11 10).1 (TX11 10).2.1 (TX11 10).2.2.1 ∈ zw := zw_2 15 (by decide +kernel) (by decide +kernel)
theorem fl_X11_58 : zFl RX11 58 10 10 := ⟨RX11, TX11, 17, rfl, in_X11, by decide, fw_X11_58⟩
theorem fq_X11_58 : zPl RX11 58 10 10 (.object "PartyWalls$RuleReader") true := ⟨RX11, TX11, 17, tyX11, rfl, in_X11, by decide, fw_X11_58, tyX11_ok, nmX11, tyX11_ok 10 (by decide), rfl, fun _ => rfl⟩
theorem fw_X11_65 : Cond.fieldLink RX11 65 (TX11 16).1 (TX11 16).2.1 (TX11 16).2.2.1 ∈ zw := zw_2 21 (by decide +kernel) (by decide +kernel)
theorem fl_X11_65 : zFl RX11 65 10 16 := ⟨RX11, TX11, 17, rfl, in_X11, by decide, fw_X11_65⟩
theorem fq_X11_65 : zPl RX11 65 10 16 (.object "PartyWalls$Rule") false := ⟨RX11, TX11, 17, tyX11, rfl, in_X11, by decide, fw_X11_65, tyX11_ok, nmX11, tyX11_ok 16 (by decide), rfl, fun h => nomatch h⟩
theorem fw_X11_69 : Cond.fieldLink RX11 69 (TX11 12).1 (TX11 12).2.1 (TX11 12).2.2.1 ∈ zw := zw_2 17 (by decide +kernel) (by decide +kernel)
theorem fl_X11_69 : zFl RX11 69 10 12 := ⟨RX11, TX11, 17, rfl, in_X11, by decide, fw_X11_69⟩
theorem fq_X11_69 : zPl RX11 69 10 12 .int false := ⟨RX11, TX11, 17, tyX11, rfl, in_X11, by decide, fw_X11_69, tyX11_ok, nmX11, tyX11_ok 12 (by decide), rfl, fun h => nomatch h⟩
theorem fw_X11_111 : Cond.fieldLink RX11 111 (TX11 15).1 (TX11 15).2.1 (TX11 15).2.2.1 ∈ zw := zw_2 20 (by decide +kernel) (by decide +kernel)
theorem fl_X11_111 : zFl RX11 111 10 15 := ⟨RX11, TX11, 17, rfl, in_X11, by decide, fw_X11_111⟩
theorem fq_X11_111 : zPl RX11 111 10 15 .int false := ⟨RX11, TX11, 17, tyX11, rfl, in_X11, by decide, fw_X11_111, tyX11_ok, nmX11, tyX11_ok 15 (by decide), rfl, fun h => nomatch h⟩
theorem fw_X11_122 : Cond.fieldLink RX11 122 (TX11 11).1 (TX11 11).2.1 (TX11 11).2.2.1 ∈ zw := zw_2 16 (by decide +kernel) (by decide +kernel)
theorem fl_X11_122 : zFl RX11 122 10 11 := ⟨RX11, TX11, 17, rfl, in_X11, by decide, fw_X11_122⟩
theorem fq_X11_122 : zPl RX11 122 10 11 .int false := ⟨RX11, TX11, 17, tyX11, rfl, in_X11, by decide, fw_X11_122, tyX11_ok, nmX11, tyX11_ok 11 (by decide), rfl, fun h => nomatch h⟩
theorem fw_X11_135 : Cond.fieldLink RX11 135 (TX5 0).1 (TX5 0).2.1 (TX5 0).2.2.1 ∈ zw := zw_1 137 (by decide +kernel) (by decide +kernel)
theorem fl_X11_135 : zFl RX11 135 5 0 := ⟨RX5, TX5, 14, rfl, in_X5, by decide, fw_X11_135⟩
theorem fq_X11_135 : zPl RX11 135 5 0 .int false := ⟨RX5, TX5, 14, tyX5, rfl, in_X5, by decide, fw_X11_135, tyX5_ok, nmX5, tyX5_ok 0 (by decide), rfl, fun h => nomatch h⟩
theorem fw_X11_164 : Cond.fieldLink RX11 164 (TX10 4).1 (TX10 4).2.1 (TX10 4).2.2.1 ∈ zw := zw_4 82 (by decide +kernel) (by decide +kernel)
theorem fl_X11_164 : zFl RX11 164 9 4 := ⟨RX10, TX10, 18, rfl, in_X10, by decide, fw_X11_164⟩
theorem fq_X11_164 : zPl RX11 164 9 4 .int false := ⟨RX10, TX10, 18, tyX10, rfl, in_X10, by decide, fw_X11_164, tyX10_ok, nmX10, tyX10_ok 4 (by decide), rfl, fun h => nomatch h⟩
theorem fw_X11_170 : Cond.fieldLink RX11 170 (TX10 5).1 (TX10 5).2.1 (TX10 5).2.2.1 ∈ zw := zw_4 84 (by decide +kernel) (by decide +kernel)
theorem fl_X11_170 : zFl RX11 170 9 5 := ⟨RX10, TX10, 18, rfl, in_X10, by decide, fw_X11_170⟩
theorem fq_X11_170 : zPl RX11 170 9 5 .int false := ⟨RX10, TX10, 18, tyX10, rfl, in_X10, by decide, fw_X11_170, tyX10_ok, nmX10, tyX10_ok 5 (by decide), rfl, fun h => nomatch h⟩
theorem fw_X11_179 : Cond.fieldLink RX11 179 (TX10 7).1 (TX10 7).2.1 (TX10 7).2.2.1 ∈ zw := zw_4 88 (by decide +kernel) (by decide +kernel)
theorem fl_X11_179 : zFl RX11 179 9 7 := ⟨RX10, TX10, 18, rfl, in_X10, by decide, fw_X11_179⟩
theorem fq_X11_179 : zPl RX11 179 9 7 .int false := ⟨RX10, TX10, 18, tyX10, rfl, in_X10, by decide, fw_X11_179, tyX10_ok, nmX10, tyX10_ok 7 (by decide), rfl, fun h => nomatch h⟩
theorem fw_X11_182 : Cond.fieldLink RX11 182 (TX10 8).1 (TX10 8).2.1 (TX10 8).2.2.1 ∈ zw := zw_4 90 (by decide +kernel) (by decide +kernel)
theorem fl_X11_182 : zFl RX11 182 9 8 := ⟨RX10, TX10, 18, rfl, in_X10, by decide, fw_X11_182⟩
theorem fq_X11_182 : zPl RX11 182 9 8 .int false := ⟨RX10, TX10, 18, tyX10, rfl, in_X10, by decide, fw_X11_182, tyX10_ok, nmX10, tyX10_ok 8 (by decide), rfl, fun h => nomatch h⟩
theorem fw_X11_194 : Cond.fieldLink RX11 194 (TX10 6).1 (TX10 6).2.1 (TX10 6).2.2.1 ∈ zw := zw_4 86 (by decide +kernel) (by decide +kernel)
theorem fl_X11_194 : zFl RX11 194 9 6 := ⟨RX10, TX10, 18, rfl, in_X10, by decide, fw_X11_194⟩
theorem fq_X11_194 : zPl RX11 194 9 6 .int false := ⟨RX10, TX10, 18, tyX10, rfl, in_X10, by decide, fw_X11_194, tyX10_ok, nmX10, tyX10_ok 6 (by decide), rfl, fun h => nomatch h⟩
theorem fw_X11_203 : Cond.fieldLink RX11 203 (TX10 9).1 (TX10 9).2.1 (TX10 9).2.2.1 ∈ zw := zw_4 92 (by decide +kernel) (by decide +kernel)
theorem fl_X11_203 : zFl RX11 203 9 9 := ⟨RX10, TX10, 18, rfl, in_X10, by decide, fw_X11_203⟩
theorem fq_X11_203 : zPl RX11 203 9 9 .int false := ⟨RX10, TX10, 18, tyX10, rfl, in_X10, by decide, fw_X11_203, tyX10_ok, nmX10, tyX10_ok 9 (by decide), rfl, fun h => nomatch h⟩
theorem fw_X11_206 : Cond.fieldLink RX11 206 (TX11 13).1 (TX11 13).2.1 (TX11 13).2.2.1 ∈ zw := zw_2 18 (by decide +kernel) (by decide +kernel)
theorem fl_X11_206 : zFl RX11 206 10 13 := ⟨RX11, TX11, 17, rfl, in_X11, by decide, fw_X11_206⟩
theorem fq_X11_206 : zPl RX11 206 10 13 .int false := ⟨RX11, TX11, 17, tyX11, rfl, in_X11, by decide, fw_X11_206, tyX11_ok, nmX11, tyX11_ok 13 (by decide), rfl, fun h => nomatch h⟩
theorem fw_X11_209 : Cond.fieldLink RX11 209 (TX10 13).1 (TX10 13).2.1 (TX10 13).2.2.1 ∈ zw := zw_4 98 (by decide +kernel) (by decide +kernel)
theorem fl_X11_209 : zFl RX11 209 9 13 := ⟨RX10, TX10, 18, rfl, in_X10, by decide, fw_X11_209⟩
theorem fw_X11_214 : Cond.fieldLink RX11 214 (TX10 0).1 (TX10 0).2.1 (TX10 0).2.2.1 ∈ zw := zw_4 75 (by decide +kernel) (by decide +kernel)
theorem fl_X11_214 : zFl RX11 214 9 0 := ⟨RX10, TX10, 18, rfl, in_X10, by decide, fw_X11_214⟩
theorem fw_X11_241 : Cond.fieldLink RX11 241 (TX10 12).1 (TX10 12).2.1 (TX10 12).2.2.1 ∈ zw := zw_4 96 (by decide +kernel) (by decide +kernel)
theorem fl_X11_241 : zFl RX11 241 9 12 := ⟨RX10, TX10, 18, rfl, in_X10, by decide, fw_X11_241⟩
theorem fw_X11_255 : Cond.fieldLink RX11 255 (TX10 14).1 (TX10 14).2.1 (TX10 14).2.2.1 ∈ zw := zw_4 99 (by decide +kernel) (by decide +kernel)
theorem fl_X11_255 : zFl RX11 255 9 14 := ⟨RX10, TX10, 18, rfl, in_X10, by decide, fw_X11_255⟩
theorem fq_X11_255 : zPl RX11 255 9 14 .int false := ⟨RX10, TX10, 18, tyX10, rfl, in_X10, by decide, fw_X11_255, tyX10_ok, nmX10, tyX10_ok 14 (by decide), rfl, fun h => nomatch h⟩
theorem fw_X11_261 : Cond.fieldLink RX11 261 (TX10 15).1 (TX10 15).2.1 (TX10 15).2.2.1 ∈ zw := zw_4 100 (by decide +kernel) (by decide +kernel)
theorem fl_X11_261 : zFl RX11 261 9 15 := ⟨RX10, TX10, 18, rfl, in_X10, by decide, fw_X11_261⟩
theorem fq_X11_261 : zPl RX11 261 9 15 .int false := ⟨RX10, TX10, 18, tyX10, rfl, in_X10, by decide, fw_X11_261, tyX10_ok, nmX10, tyX10_ok 15 (by decide), rfl, fun h => nomatch h⟩
theorem fw_X11_278 : Cond.fieldLink RX11 278 (TX10 2).1 (TX10 2).2.1 (TX10 2).2.2.1 ∈ zw := zw_4 79 (by decide +kernel) (by decide +kernel)
theorem fl_X11_278 : zFl RX11 278 9 2 := ⟨RX10, TX10, 18, rfl, in_X10, by decide, fw_X11_278⟩
theorem fw_X11_284 : Cond.fieldLink RX11 284 (TX10 1).1 (TX10 1).2.1 (TX10 1).2.2.1 ∈ zw := zw_4 77 (by decide +kernel) (by decide +kernel)
theorem fl_X11_284 : zFl RX11 284 9 1 := ⟨RX10, TX10, 18, rfl, in_X10, by decide, fw_X11_284⟩
theorem fw_X11_296 : Cond.fieldLink RX11 296 (TX5 9).1 (TX5 9).2.1 (TX5 9).2.2.1 ∈ zw := zw_1 160 (by decide +kernel) (by decide +kernel)
theorem fl_X11_296 : zFl RX11 296 5 9 := ⟨RX5, TX5, 14, rfl, in_X5, by decide, fw_X11_296⟩
theorem fq_X11_296 : zPl RX11 296 5 9 .int false := ⟨RX5, TX5, 14, tyX5, rfl, in_X5, by decide, fw_X11_296, tyX5_ok, nmX5, tyX5_ok 9 (by decide), rfl, fun h => nomatch h⟩
theorem fw_X11_323 : Cond.fieldLink RX11 323 (TX10 16).1 (TX10 16).2.1 (TX10 16).2.2.1 ∈ zw := zw_4 102 (by decide +kernel) (by decide +kernel)
theorem fl_X11_323 : zFl RX11 323 9 16 := ⟨RX10, TX10, 18, rfl, in_X10, by decide, fw_X11_323⟩
theorem fq_X11_323 : zPl RX11 323 9 16 .int false := ⟨RX10, TX10, 18, tyX10, rfl, in_X10, by decide, fw_X11_323, tyX10_ok, nmX10, tyX10_ok 16 (by decide), rfl, fun h => nomatch h⟩
theorem fw_X11_326 : Cond.fieldLink RX11 326 (TX10 17).1 (TX10 17).2.1 (TX10 17).2.2.1 ∈ zw := zw_4 103 (by decide +kernel) (by decide +kernel)
theorem fl_X11_326 : zFl RX11 326 9 17 := ⟨RX10, TX10, 18, rfl, in_X10, by decide, fw_X11_326⟩
theorem fq_X11_326 : zPl RX11 326 9 17 .boolean false := ⟨RX10, TX10, 18, tyX10, rfl, in_X10, by decide, fw_X11_326, tyX10_ok, nmX10, tyX10_ok 17 (by decide), rfl, fun h => nomatch h⟩
theorem fw_X11_361 : Cond.fieldLink RX11 361 (TX11 14).1 (TX11 14).2.1 (TX11 14).2.2.1 ∈ zw := zw_2 19 (by decide +kernel) (by decide +kernel)
theorem fl_X11_361 : zFl RX11 361 10 14 := ⟨RX11, TX11, 17, rfl, in_X11, by decide, fw_X11_361⟩
theorem fq_X11_361 : zPl RX11 361 10 14 .int false := ⟨RX11, TX11, 17, tyX11, rfl, in_X11, by decide, fw_X11_361, tyX11_ok, nmX11, tyX11_ok 14 (by decide), rfl, fun h => nomatch h⟩
theorem fw_X11_382 : Cond.fieldLink RX11 382 (TX5 11).1 (TX5 11).2.1 (TX5 11).2.2.1 ∈ zw := zw_1 166 (by decide +kernel) (by decide +kernel)
theorem fl_X11_382 : zFl RX11 382 5 11 := ⟨RX5, TX5, 14, rfl, in_X5, by decide, fw_X11_382⟩
theorem fq_X11_382 : zPl RX11 382 5 11 .int false := ⟨RX5, TX5, 14, tyX5, rfl, in_X5, by decide, fw_X11_382, tyX5_ok, nmX5, tyX5_ok 11 (by decide), rfl, fun h => nomatch h⟩
theorem fw_X11_389 : Cond.fieldLink RX11 389 (TX5 10).1 (TX5 10).2.1 (TX5 10).2.2.1 ∈ zw := zw_1 163 (by decide +kernel) (by decide +kernel)
theorem fl_X11_389 : zFl RX11 389 5 10 := ⟨RX5, TX5, 14, rfl, in_X5, by decide, fw_X11_389⟩
theorem fq_X11_389 : zPl RX11 389 5 10 .int false := ⟨RX5, TX5, 14, tyX5, rfl, in_X5, by decide, fw_X11_389, tyX5_ok, nmX5, tyX5_ok 10 (by decide), rfl, fun h => nomatch h⟩
theorem fw_X1_9 : Cond.fieldLink RX1 9 (TX1 0).1 (TX1 0).2.1 (TX1 0).2.2.1 ∈ zw := zw_1 73 (by decide +kernel) (by decide +kernel)
theorem fl_X1_9 : zFl RX1 9 1 0 := ⟨RX1, TX1, 9, rfl, in_X1, by decide, fw_X1_9⟩
theorem fq_X1_9 : zPl RX1 9 1 0 (.array .int) true := ⟨RX1, TX1, 9, tyX1, rfl, in_X1, by decide, fw_X1_9, tyX1_ok, nmX1, tyX1_ok 0 (by decide), rfl, fun _ => rfl⟩
theorem fw_X1_15 : Cond.fieldLink RX1 15 (TX1 1).1 (TX1 1).2.1 (TX1 1).2.2.1 ∈ zw := zw_1 74 (by decide +kernel) (by decide +kernel)
theorem fl_X1_15 : zFl RX1 15 1 1 := ⟨RX1, TX1, 9, rfl, in_X1, by decide, fw_X1_15⟩
theorem fq_X1_15 : zPl RX1 15 1 1 (.array .int) true := ⟨RX1, TX1, 9, tyX1, rfl, in_X1, by decide, fw_X1_15, tyX1_ok, nmX1, tyX1_ok 1 (by decide), rfl, fun _ => rfl⟩
theorem fw_X1_18 : Cond.fieldLink RX1 18 (TX1 2).1 (TX1 2).2.1 (TX1 2).2.2.1 ∈ zw := zw_1 75 (by decide +kernel) (by decide +kernel)
theorem fl_X1_18 : zFl RX1 18 1 2 := ⟨RX1, TX1, 9, rfl, in_X1, by decide, fw_X1_18⟩
theorem fq_X1_18 : zPl RX1 18 1 2 (.array .int) true := ⟨RX1, TX1, 9, tyX1, rfl, in_X1, by decide, fw_X1_18, tyX1_ok, nmX1, tyX1_ok 2 (by decide), rfl, fun _ => rfl⟩
theorem fw_X1_21 : Cond.fieldLink RX1 21 (TX1 3).1 (TX1 3).2.1 (TX1 3).2.2.1 ∈ zw := zw_1 76 (by decide +kernel) (by decide +kernel)
theorem fl_X1_21 : zFl RX1 21 1 3 := ⟨RX1, TX1, 9, rfl, in_X1, by decide, fw_X1_21⟩
theorem fq_X1_21 : zPl RX1 21 1 3 (.array .int) true := ⟨RX1, TX1, 9, tyX1, rfl, in_X1, by decide, fw_X1_21, tyX1_ok, nmX1, tyX1_ok 3 (by decide), rfl, fun _ => rfl⟩
theorem fw_X1_24 : Cond.fieldLink RX1 24 (TX1 5).1 (TX1 5).2.1 (TX1 5).2.2.1 ∈ zw := zw_1 78 (by decide +kernel) (by decide +kernel)
theorem fl_X1_24 : zFl RX1 24 1 5 := ⟨RX1, TX1, 9, rfl, in_X1, by decide, fw_X1_24⟩
theorem fq_X1_24 : zPl RX1 24 1 5 (.array .int) true := ⟨RX1, TX1, 9, tyX1, rfl, in_X1, by decide, fw_X1_24, tyX1_ok, nmX1, tyX1_ok 5 (by decide), rfl, fun _ => rfl⟩
theorem fw_X1_27 : Cond.fieldLink RX1 27 (TX1 6).1 (TX1 6).2.1 (TX1 6).2.2.1 ∈ zw := zw_1 79 (by decide +kernel) (by decide +kernel)
theorem fl_X1_27 : zFl RX1 27 1 6 := ⟨RX1, TX1, 9, rfl, in_X1, by decide, fw_X1_27⟩
theorem fq_X1_27 : zPl RX1 27 1 6 (.array .int) true := ⟨RX1, TX1, 9, tyX1, rfl, in_X1, by decide, fw_X1_27, tyX1_ok, nmX1, tyX1_ok 6 (by decide), rfl, fun _ => rfl⟩
theorem fw_X1_30 : Cond.fieldLink RX1 30 (TX1 7).1 (TX1 7).2.1 (TX1 7).2.2.1 ∈ zw := zw_1 80 (by decide +kernel) (by decide +kernel)
theorem fl_X1_30 : zFl RX1 30 1 7 := ⟨RX1, TX1, 9, rfl, in_X1, by decide, fw_X1_30⟩
theorem fq_X1_30 : zPl RX1 30 1 7 (.array .int) true := ⟨RX1, TX1, 9, tyX1, rfl, in_X1, by decide, fw_X1_30, tyX1_ok, nmX1, tyX1_ok 7 (by decide), rfl, fun _ => rfl⟩
theorem fw_X1_33 : Cond.fieldLink RX1 33 (TX1 4).1 (TX1 4).2.1 (TX1 4).2.2.1 ∈ zw := zw_1 77 (by decide +kernel) (by decide +kernel)
theorem fl_X1_33 : zFl RX1 33 1 4 := ⟨RX1, TX1, 9, rfl, in_X1, by decide, fw_X1_33⟩
theorem fq_X1_33 : zPl RX1 33 1 4 .int false := ⟨RX1, TX1, 9, tyX1, rfl, in_X1, by decide, fw_X1_33, tyX1_ok, nmX1, tyX1_ok 4 (by decide), rfl, fun h => nomatch h⟩
theorem fw_X1_37 : Cond.fieldLink RX1 37 (TX1 8).1 (TX1 8).2.1 (TX1 8).2.2.1 ∈ zw := zw_1 81 (by decide +kernel) (by decide +kernel)
theorem fl_X1_37 : zFl RX1 37 1 8 := ⟨RX1, TX1, 9, rfl, in_X1, by decide, fw_X1_37⟩
theorem fq_X1_37 : zPl RX1 37 1 8 .int false := ⟨RX1, TX1, 9, tyX1, rfl, in_X1, by decide, fw_X1_37, tyX1_ok, nmX1, tyX1_ok 8 (by decide), rfl, fun h => nomatch h⟩
theorem fw_X2_9 : Cond.fieldLink RX2 9 (TX2 0).1 (TX2 0).2.1 (TX2 0).2.2.1 ∈ zw := zw_6 152 (by decide +kernel) (by decide +kernel)
theorem fl_X2_9 : zFl RX2 9 2 0 := ⟨RX2, TX2, 3, rfl, in_X2, by decide, fw_X2_9⟩
theorem fq_X2_9 : zPl RX2 9 2 0 (.array .int) true := ⟨RX2, TX2, 3, tyX2, rfl, in_X2, by decide, fw_X2_9, tyX2_ok, nmX2, tyX2_ok 0 (by decide), rfl, fun _ => rfl⟩
theorem fw_X2_15 : Cond.fieldLink RX2 15 (TX2 1).1 (TX2 1).2.1 (TX2 1).2.2.1 ∈ zw := zw_6 153 (by decide +kernel) (by decide +kernel)
theorem fl_X2_15 : zFl RX2 15 2 1 := ⟨RX2, TX2, 3, rfl, in_X2, by decide, fw_X2_15⟩
theorem fq_X2_15 : zPl RX2 15 2 1 (.array .int) true := ⟨RX2, TX2, 3, tyX2, rfl, in_X2, by decide, fw_X2_15, tyX2_ok, nmX2, tyX2_ok 1 (by decide), rfl, fun _ => rfl⟩
theorem fw_X2_18 : Cond.fieldLink RX2 18 (TX2 2).1 (TX2 2).2.1 (TX2 2).2.2.1 ∈ zw := zw_6 154 (by decide +kernel) (by decide +kernel)
theorem fl_X2_18 : zFl RX2 18 2 2 := ⟨RX2, TX2, 3, rfl, in_X2, by decide, fw_X2_18⟩
theorem fq_X2_18 : zPl RX2 18 2 2 .int false := ⟨RX2, TX2, 3, tyX2, rfl, in_X2, by decide, fw_X2_18, tyX2_ok, nmX2, tyX2_ok 2 (by decide), rfl, fun h => nomatch h⟩
theorem fw_X3_11 : Cond.fieldLink RX3 11 (TX3 0).1 (TX3 0).2.1 (TX3 0).2.2.1 ∈ zw := zw_1 108 (by decide +kernel) (by decide +kernel)
theorem fl_X3_11 : zFl RX3 11 3 0 := ⟨RX3, TX3, 4, rfl, in_X3, by decide, fw_X3_11⟩
theorem fq_X3_11 : zPl RX3 11 3 0 (.array .int) true := ⟨RX3, TX3, 4, tyX3, rfl, in_X3, by decide, fw_X3_11, tyX3_ok, nmX3, tyX3_ok 0 (by decide), rfl, fun _ => rfl⟩
theorem fw_X3_15 : Cond.fieldLink RX3 15 (TX3 1).1 (TX3 1).2.1 (TX3 1).2.2.1 ∈ zw := zw_1 109 (by decide +kernel) (by decide +kernel)
theorem fl_X3_15 : zFl RX3 15 3 1 := ⟨RX3, TX3, 4, rfl, in_X3, by decide, fw_X3_15⟩
theorem fq_X3_15 : zPl RX3 15 3 1 (.array .int) true := ⟨RX3, TX3, 4, tyX3, rfl, in_X3, by decide, fw_X3_15, tyX3_ok, nmX3, tyX3_ok 1 (by decide), rfl, fun _ => rfl⟩
theorem fw_X3_18 : Cond.fieldLink RX3 18 (TX3 2).1 (TX3 2).2.1 (TX3 2).2.2.1 ∈ zw := zw_1 110 (by decide +kernel) (by decide +kernel)
theorem fl_X3_18 : zFl RX3 18 3 2 := ⟨RX3, TX3, 4, rfl, in_X3, by decide, fw_X3_18⟩
theorem fq_X3_18 : zPl RX3 18 3 2 (.array .int) true := ⟨RX3, TX3, 4, tyX3, rfl, in_X3, by decide, fw_X3_18, tyX3_ok, nmX3, tyX3_ok 2 (by decide), rfl, fun _ => rfl⟩
theorem fw_X3_27 : Cond.fieldLink RX3 27 (TX3 3).1 (TX3 3).2.1 (TX3 3).2.2.1 ∈ zw := zw_1 111 (by decide +kernel) (by decide +kernel)
theorem fl_X3_27 : zFl RX3 27 3 3 := ⟨RX3, TX3, 4, rfl, in_X3, by decide, fw_X3_27⟩
theorem fq_X3_27 : zPl RX3 27 3 3 .int false := ⟨RX3, TX3, 4, tyX3, rfl, in_X3, by decide, fw_X3_27, tyX3_ok, nmX3, tyX3_ok 3 (by decide), rfl, fun h => nomatch h⟩
theorem fw_X4_7 : Cond.fieldLink RX4 7 (TX4 0).1 (TX4 0).2.1 (TX4 0).2.2.1 ∈ zw := zw_5 23 (by decide +kernel) (by decide +kernel)
theorem fl_X4_7 : zFl RX4 7 4 0 := ⟨RX4, TX4, 3, rfl, in_X4, by decide, fw_X4_7⟩
theorem fq_X4_7 : zPl RX4 7 4 0 .int true := ⟨RX4, TX4, 3, tyX4, rfl, in_X4, by decide, fw_X4_7, tyX4_ok, nmX4, tyX4_ok 0 (by decide), rfl, fun _ => rfl⟩
theorem fw_X4_13 : Cond.fieldLink RX4 13 (TX4 1).1 (TX4 1).2.1 (TX4 1).2.2.1 ∈ zw := zw_5 25 (by decide +kernel) (by decide +kernel)
theorem fl_X4_13 : zFl RX4 13 4 1 := ⟨RX4, TX4, 3, rfl, in_X4, by decide, fw_X4_13⟩
theorem fq_X4_13 : zPl RX4 13 4 1 .int true := ⟨RX4, TX4, 3, tyX4, rfl, in_X4, by decide, fw_X4_13, tyX4_ok, nmX4, tyX4_ok 1 (by decide), rfl, fun _ => rfl⟩
theorem fw_X4_16 : Cond.fieldLink RX4 16 (TX4 2).1 (TX4 2).2.1 (TX4 2).2.2.1 ∈ zw := zw_5 27 (by decide +kernel) (by decide +kernel)
theorem fl_X4_16 : zFl RX4 16 4 2 := ⟨RX4, TX4, 3, rfl, in_X4, by decide, fw_X4_16⟩
theorem fq_X4_16 : zPl RX4 16 4 2 .int true := ⟨RX4, TX4, 3, tyX4, rfl, in_X4, by decide, fw_X4_16, tyX4_ok, nmX4, tyX4_ok 2 (by decide), rfl, fun _ => rfl⟩
theorem fw_X5_9 : Cond.fieldLink RX5 9 (TX5 1).1 (TX5 1).2.1 (TX5 1).2.2.1 ∈ zw := zw_1 139 (by decide +kernel) (by decide +kernel)
theorem fl_X5_9 : zFl RX5 9 5 1 := ⟨RX5, TX5, 14, rfl, in_X5, by decide, fw_X5_9⟩
theorem fq_X5_9 : zPl RX5 9 5 1 (.array .int) true := ⟨RX5, TX5, 14, tyX5, rfl, in_X5, by decide, fw_X5_9, tyX5_ok, nmX5, tyX5_ok 1 (by decide), rfl, fun _ => rfl⟩
theorem fw_X5_17 : Cond.fieldLink RX5 17 (TX5 2).1 (TX5 2).2.1 (TX5 2).2.2.1 ∈ zw := zw_1 142 (by decide +kernel) (by decide +kernel)
theorem fl_X5_17 : zFl RX5 17 5 2 := ⟨RX5, TX5, 14, rfl, in_X5, by decide, fw_X5_17⟩
theorem fq_X5_17 : zPl RX5 17 5 2 (.array (.array .int)) true := ⟨RX5, TX5, 14, tyX5, rfl, in_X5, by decide, fw_X5_17, tyX5_ok, nmX5, tyX5_ok 2 (by decide), rfl, fun _ => rfl⟩
theorem fw_X5_20 : Cond.fieldLink RX5 20 (TX5 5).1 (TX5 5).2.1 (TX5 5).2.2.1 ∈ zw := zw_1 148 (by decide +kernel) (by decide +kernel)
theorem fl_X5_20 : zFl RX5 20 5 5 := ⟨RX5, TX5, 14, rfl, in_X5, by decide, fw_X5_20⟩
theorem fq_X5_20 : zPl RX5 20 5 5 .int false := ⟨RX5, TX5, 14, tyX5, rfl, in_X5, by decide, fw_X5_20, tyX5_ok, nmX5, tyX5_ok 5 (by decide), rfl, fun h => nomatch h⟩
theorem fw_X5_24 : Cond.fieldLink RX5 24 (TX5 7).1 (TX5 7).2.1 (TX5 7).2.2.1 ∈ zw := zw_1 153 (by decide +kernel) (by decide +kernel)
theorem fl_X5_24 : zFl RX5 24 5 7 := ⟨RX5, TX5, 14, rfl, in_X5, by decide, fw_X5_24⟩
theorem fq_X5_24 : zPl RX5 24 5 7 .int false := ⟨RX5, TX5, 14, tyX5, rfl, in_X5, by decide, fw_X5_24, tyX5_ok, nmX5, tyX5_ok 7 (by decide), rfl, fun h => nomatch h⟩
theorem fw_X5_27 : Cond.fieldLink RX5 27 (TX5 8).1 (TX5 8).2.1 (TX5 8).2.2.1 ∈ zw := zw_1 156 (by decide +kernel) (by decide +kernel)
theorem fl_X5_27 : zFl RX5 27 5 8 := ⟨RX5, TX5, 14, rfl, in_X5, by decide, fw_X5_27⟩
theorem fq_X5_27 : zPl RX5 27 5 8 .int false := ⟨RX5, TX5, 14, tyX5, rfl, in_X5, by decide, fw_X5_27, tyX5_ok, nmX5, tyX5_ok 8 (by decide), rfl, fun h => nomatch h⟩
theorem fw_X5_30 : Cond.fieldLink RX5 30 (TX5 10).1 (TX5 10).2.1 (TX5 10).2.2.1 ∈ zw := zw_1 161 (by decide +kernel) (by decide +kernel)
theorem fl_X5_30 : zFl RX5 30 5 10 := ⟨RX5, TX5, 14, rfl, in_X5, by decide, fw_X5_30⟩
theorem fq_X5_30 : zPl RX5 30 5 10 .int false := ⟨RX5, TX5, 14, tyX5, rfl, in_X5, by decide, fw_X5_30, tyX5_ok, nmX5, tyX5_ok 10 (by decide), rfl, fun h => nomatch h⟩
theorem fw_X5_33 : Cond.fieldLink RX5 33 (TX5 11).1 (TX5 11).2.1 (TX5 11).2.2.1 ∈ zw := zw_1 164 (by decide +kernel) (by decide +kernel)
theorem fl_X5_33 : zFl RX5 33 5 11 := ⟨RX5, TX5, 14, rfl, in_X5, by decide, fw_X5_33⟩
theorem fq_X5_33 : zPl RX5 33 5 11 .int false := ⟨RX5, TX5, 14, tyX5, rfl, in_X5, by decide, fw_X5_33, tyX5_ok, nmX5, tyX5_ok 11 (by decide), rfl, fun h => nomatch h⟩
theorem fw_X5_36 : Cond.fieldLink RX5 36 (TX5 12).1 (TX5 12).2.1 (TX5 12).2.2.1 ∈ zw := zw_1 167 (by decide +kernel) (by decide +kernel)
theorem fl_X5_36 : zFl RX5 36 5 12 := ⟨RX5, TX5, 14, rfl, in_X5, by decide, fw_X5_36⟩
theorem fq_X5_36 : zPl RX5 36 5 12 .int false := ⟨RX5, TX5, 14, tyX5, rfl, in_X5, by decide, fw_X5_36, tyX5_ok, nmX5, tyX5_ok 12 (by decide), rfl, fun h => nomatch h⟩
theorem fw_X5_39 : Cond.fieldLink RX5 39 (TX5 13).1 (TX5 13).2.1 (TX5 13).2.2.1 ∈ zw := zw_1 170 (by decide +kernel) (by decide +kernel)
theorem fl_X5_39 : zFl RX5 39 5 13 := ⟨RX5, TX5, 14, rfl, in_X5, by decide, fw_X5_39⟩
theorem fq_X5_39 : zPl RX5 39 5 13 .int false := ⟨RX5, TX5, 14, tyX5, rfl, in_X5, by decide, fw_X5_39, tyX5_ok, nmX5, tyX5_ok 13 (by decide), rfl, fun h => nomatch h⟩
theorem fw_X5_42 : Cond.fieldLink RX5 42 (TX5 4).1 (TX5 4).2.1 (TX5 4).2.2.1 ∈ zw := zw_1 146 (by decide +kernel) (by decide +kernel)
theorem fl_X5_42 : zFl RX5 42 5 4 := ⟨RX5, TX5, 14, rfl, in_X5, by decide, fw_X5_42⟩
theorem fq_X5_42 : zPl RX5 42 5 4 .int false := ⟨RX5, TX5, 14, tyX5, rfl, in_X5, by decide, fw_X5_42, tyX5_ok, nmX5, tyX5_ok 4 (by decide), rfl, fun h => nomatch h⟩
theorem fw_X6_9 : Cond.fieldLink RX6 9 (TX6 1).1 (TX6 1).2.1 (TX6 1).2.2.1 ∈ zw := zw_1 204 (by decide +kernel) (by decide +kernel)
theorem fl_X6_9 : zFl RX6 9 6 1 := ⟨RX6, TX6, 13, rfl, in_X6, by decide, fw_X6_9⟩
theorem fq_X6_9 : zPl RX6 9 6 1 (.array .int) true := ⟨RX6, TX6, 13, tyX6, rfl, in_X6, by decide, fw_X6_9, tyX6_ok, nmX6, tyX6_ok 1 (by decide), rfl, fun _ => rfl⟩
theorem fw_X6_21 : Cond.fieldLink RX6 21 (TX6 6).1 (TX6 6).2.1 (TX6 6).2.2.1 ∈ zw := zw_1 209 (by decide +kernel) (by decide +kernel)
theorem fl_X6_21 : zFl RX6 21 6 6 := ⟨RX6, TX6, 13, rfl, in_X6, by decide, fw_X6_21⟩
theorem fq_X6_21 : zPl RX6 21 6 6 (.object "PartyWalls$Word") false := ⟨RX6, TX6, 13, tyX6, rfl, in_X6, by decide, fw_X6_21, tyX6_ok, nmX6, tyX6_ok 6 (by decide), rfl, fun h => nomatch h⟩
theorem fw_X6_24 : Cond.fieldLink RX6 24 (TX6 7).1 (TX6 7).2.1 (TX6 7).2.2.1 ∈ zw := zw_1 210 (by decide +kernel) (by decide +kernel)
theorem fl_X6_24 : zFl RX6 24 6 7 := ⟨RX6, TX6, 13, rfl, in_X6, by decide, fw_X6_24⟩
theorem fq_X6_24 : zPl RX6 24 6 7 .int false := ⟨RX6, TX6, 13, tyX6, rfl, in_X6, by decide, fw_X6_24, tyX6_ok, nmX6, tyX6_ok 7 (by decide), rfl, fun h => nomatch h⟩
theorem fw_X6_28 : Cond.fieldLink RX6 28 (TX6 8).1 (TX6 8).2.1 (TX6 8).2.2.1 ∈ zw := zw_1 211 (by decide +kernel) (by decide +kernel)
theorem fl_X6_28 : zFl RX6 28 6 8 := ⟨RX6, TX6, 13, rfl, in_X6, by decide, fw_X6_28⟩
theorem fq_X6_28 : zPl RX6 28 6 8 .char false := ⟨RX6, TX6, 13, tyX6, rfl, in_X6, by decide, fw_X6_28, tyX6_ok, nmX6, tyX6_ok 8 (by decide), rfl, fun h => nomatch h⟩
theorem fw_X6_35 : Cond.fieldLink RX6 35 (TX6 10).1 (TX6 10).2.1 (TX6 10).2.2.1 ∈ zw := zw_1 213 (by decide +kernel) (by decide +kernel)
theorem fl_X6_35 : zFl RX6 35 6 10 := ⟨RX6, TX6, 13, rfl, in_X6, by decide, fw_X6_35⟩
theorem fq_X6_35 : zPl RX6 35 6 10 (.object "PartyWalls$Rule") false := ⟨RX6, TX6, 13, tyX6, rfl, in_X6, by decide, fw_X6_35, tyX6_ok, nmX6, tyX6_ok 10 (by decide), rfl, fun h => nomatch h⟩
theorem fw_X6_39 : Cond.fieldLink RX6 39 (TX6 12).1 (TX6 12).2.1 (TX6 12).2.2.1 ∈ zw := zw_1 215 (by decide +kernel) (by decide +kernel)
theorem fl_X6_39 : zFl RX6 39 6 12 := ⟨RX6, TX6, 13, rfl, in_X6, by decide, fw_X6_39⟩
theorem fq_X6_39 : zPl RX6 39 6 12 .int false := ⟨RX6, TX6, 13, tyX6, rfl, in_X6, by decide, fw_X6_39, tyX6_ok, nmX6, tyX6_ok 12 (by decide), rfl, fun h => nomatch h⟩
theorem fw_X6_42 : Cond.fieldLink RX6 42 (TX6 0).1 (TX6 0).2.1 (TX6 0).2.2.1 ∈ zw := zw_1 203 (by decide +kernel) (by decide +kernel)
theorem fl_X6_42 : zFl RX6 42 6 0 := ⟨RX6, TX6, 13, rfl, in_X6, by decide, fw_X6_42⟩
theorem fq_X6_42 : zPl RX6 42 6 0 (.array .byte) true := ⟨RX6, TX6, 13, tyX6, rfl, in_X6, by decide, fw_X6_42, tyX6_ok, nmX6, tyX6_ok 0 (by decide), rfl, fun _ => rfl⟩
theorem fw_X6_46 : Cond.fieldLink RX6 46 (TX6 11).1 (TX6 11).2.1 (TX6 11).2.2.1 ∈ zw := zw_1 214 (by decide +kernel) (by decide +kernel)
theorem fl_X6_46 : zFl RX6 46 6 11 := ⟨RX6, TX6, 13, rfl, in_X6, by decide, fw_X6_46⟩
theorem fq_X6_46 : zPl RX6 46 6 11 .int false := ⟨RX6, TX6, 13, tyX6, rfl, in_X6, by decide, fw_X6_46, tyX6_ok, nmX6, tyX6_ok 11 (by decide), rfl, fun h => nomatch h⟩
theorem fw_X6_55 : Cond.fieldLink RX6 55 (TX6 3).1 (TX6 3).2.1 (TX6 3).2.2.1 ∈ zw := zw_1 206 (by decide +kernel) (by decide +kernel)
theorem fl_X6_55 : zFl RX6 55 6 3 := ⟨RX6, TX6, 13, rfl, in_X6, by decide, fw_X6_55⟩
theorem fq_X6_55 : zPl RX6 55 6 3 .int false := ⟨RX6, TX6, 13, tyX6, rfl, in_X6, by decide, fw_X6_55, tyX6_ok, nmX6, tyX6_ok 3 (by decide), rfl, fun h => nomatch h⟩
theorem fw_X6_58 : Cond.fieldLink RX6 58 (TX6 5).1 (TX6 5).2.1 (TX6 5).2.2.1 ∈ zw := zw_1 208 (by decide +kernel) (by decide +kernel)
theorem fl_X6_58 : zFl RX6 58 6 5 := ⟨RX6, TX6, 13, rfl, in_X6, by decide, fw_X6_58⟩
theorem fq_X6_58 : zPl RX6 58 6 5 .int false := ⟨RX6, TX6, 13, tyX6, rfl, in_X6, by decide, fw_X6_58, tyX6_ok, nmX6, tyX6_ok 5 (by decide), rfl, fun h => nomatch h⟩
theorem fw_X6_64 : Cond.fieldLink RX6 64 (TX6 4).1 (TX6 4).2.1 (TX6 4).2.2.1 ∈ zw := zw_1 207 (by decide +kernel) (by decide +kernel)
theorem fl_X6_64 : zFl RX6 64 6 4 := ⟨RX6, TX6, 13, rfl, in_X6, by decide, fw_X6_64⟩
theorem fq_X6_64 : zPl RX6 64 6 4 .int false := ⟨RX6, TX6, 13, tyX6, rfl, in_X6, by decide, fw_X6_64, tyX6_ok, nmX6, tyX6_ok 4 (by decide), rfl, fun h => nomatch h⟩
theorem fw_X6_83 : Cond.fieldLink RX6 83 (TX6 9).1 (TX6 9).2.1 (TX6 9).2.2.1 ∈ zw := zw_1 212 (by decide +kernel) (by decide +kernel)
theorem fl_X6_83 : zFl RX6 83 6 9 := ⟨RX6, TX6, 13, rfl, in_X6, by decide, fw_X6_83⟩
theorem fq_X6_83 : zPl RX6 83 6 9 .int false := ⟨RX6, TX6, 13, tyX6, rfl, in_X6, by decide, fw_X6_83, tyX6_ok, nmX6, tyX6_ok 9 (by decide), rfl, fun h => nomatch h⟩
theorem fw_X6_90 : Cond.fieldLink RX6 90 (TX5 0).1 (TX5 0).2.1 (TX5 0).2.2.1 ∈ zw := zw_1 138 (by decide +kernel) (by decide +kernel)
theorem fl_X6_90 : zFl RX6 90 5 0 := ⟨RX5, TX5, 14, rfl, in_X5, by decide, fw_X6_90⟩
theorem fq_X6_90 : zPl RX6 90 5 0 .int false := ⟨RX5, TX5, 14, tyX5, rfl, in_X5, by decide, fw_X6_90, tyX5_ok, nmX5, tyX5_ok 0 (by decide), rfl, fun h => nomatch h⟩
theorem fw_X6_129 : Cond.fieldLink RX6 129 (TX5 3).1 (TX5 3).2.1 (TX5 3).2.2.1 ∈ zw := zw_1 145 (by decide +kernel) (by decide +kernel)
theorem fl_X6_129 : zFl RX6 129 5 3 := ⟨RX5, TX5, 14, rfl, in_X5, by decide, fw_X6_129⟩
theorem fq_X6_129 : zPl RX6 129 5 3 .int false := ⟨RX5, TX5, 14, tyX5, rfl, in_X5, by decide, fw_X6_129, tyX5_ok, nmX5, tyX5_ok 3 (by decide), rfl, fun h => nomatch h⟩
theorem fw_X6_132 : Cond.fieldLink RX6 132 (TX5 5).1 (TX5 5).2.1 (TX5 5).2.2.1 ∈ zw := zw_1 150 (by decide +kernel) (by decide +kernel)
theorem fl_X6_132 : zFl RX6 132 5 5 := ⟨RX5, TX5, 14, rfl, in_X5, by decide, fw_X6_132⟩
theorem fq_X6_132 : zPl RX6 132 5 5 .int false := ⟨RX5, TX5, 14, tyX5, rfl, in_X5, by decide, fw_X6_132, tyX5_ok, nmX5, tyX5_ok 5 (by decide), rfl, fun h => nomatch h⟩
theorem fw_X6_135 : Cond.fieldLink RX6 135 (TX5 7).1 (TX5 7).2.1 (TX5 7).2.2.1 ∈ zw := zw_1 155 (by decide +kernel) (by decide +kernel)
theorem fl_X6_135 : zFl RX6 135 5 7 := ⟨RX5, TX5, 14, rfl, in_X5, by decide, fw_X6_135⟩
theorem fq_X6_135 : zPl RX6 135 5 7 .int false := ⟨RX5, TX5, 14, tyX5, rfl, in_X5, by decide, fw_X6_135, tyX5_ok, nmX5, tyX5_ok 7 (by decide), rfl, fun h => nomatch h⟩
theorem fw_X6_138 : Cond.fieldLink RX6 138 (TX5 8).1 (TX5 8).2.1 (TX5 8).2.2.1 ∈ zw := zw_1 157 (by decide +kernel) (by decide +kernel)
theorem fl_X6_138 : zFl RX6 138 5 8 := ⟨RX5, TX5, 14, rfl, in_X5, by decide, fw_X6_138⟩
theorem fq_X6_138 : zPl RX6 138 5 8 .int false := ⟨RX5, TX5, 14, tyX5, rfl, in_X5, by decide, fw_X6_138, tyX5_ok, nmX5, tyX5_ok 8 (by decide), rfl, fun h => nomatch h⟩
theorem fw_X6_141 : Cond.fieldLink RX6 141 (TX5 9).1 (TX5 9).2.1 (TX5 9).2.2.1 ∈ zw := zw_1 159 (by decide +kernel) (by decide +kernel)
theorem fl_X6_141 : zFl RX6 141 5 9 := ⟨RX5, TX5, 14, rfl, in_X5, by decide, fw_X6_141⟩
theorem fq_X6_141 : zPl RX6 141 5 9 .int false := ⟨RX5, TX5, 14, tyX5, rfl, in_X5, by decide, fw_X6_141, tyX5_ok, nmX5, tyX5_ok 9 (by decide), rfl, fun h => nomatch h⟩
theorem fw_X6_144 : Cond.fieldLink RX6 144 (TX5 10).1 (TX5 10).2.1 (TX5 10).2.2.1 ∈ zw := zw_1 162 (by decide +kernel) (by decide +kernel)
theorem fl_X6_144 : zFl RX6 144 5 10 := ⟨RX5, TX5, 14, rfl, in_X5, by decide, fw_X6_144⟩
theorem fq_X6_144 : zPl RX6 144 5 10 .int false := ⟨RX5, TX5, 14, tyX5, rfl, in_X5, by decide, fw_X6_144, tyX5_ok, nmX5, tyX5_ok 10 (by decide), rfl, fun h => nomatch h⟩
theorem fw_X6_147 : Cond.fieldLink RX6 147 (TX5 11).1 (TX5 11).2.1 (TX5 11).2.2.1 ∈ zw := zw_1 165 (by decide +kernel) (by decide +kernel)
theorem fl_X6_147 : zFl RX6 147 5 11 := ⟨RX5, TX5, 14, rfl, in_X5, by decide, fw_X6_147⟩
theorem fq_X6_147 : zPl RX6 147 5 11 .int false := ⟨RX5, TX5, 14, tyX5, rfl, in_X5, by decide, fw_X6_147, tyX5_ok, nmX5, tyX5_ok 11 (by decide), rfl, fun h => nomatch h⟩
theorem fw_X6_150 : Cond.fieldLink RX6 150 (TX5 4).1 (TX5 4).2.1 (TX5 4).2.2.1 ∈ zw := zw_1 147 (by decide +kernel) (by decide +kernel)
theorem fl_X6_150 : zFl RX6 150 5 4 := ⟨RX5, TX5, 14, rfl, in_X5, by decide, fw_X6_150⟩
theorem fq_X6_150 : zPl RX6 150 5 4 .int false := ⟨RX5, TX5, 14, tyX5, rfl, in_X5, by decide, fw_X6_150, tyX5_ok, nmX5, tyX5_ok 4 (by decide), rfl, fun h => nomatch h⟩
theorem fw_X6_159 : Cond.fieldLink RX6 159 (TX5 6).1 (TX5 6).2.1 (TX5 6).2.2.1 ∈ zw := zw_1 152 (by decide +kernel) (by decide +kernel)
theorem fl_X6_159 : zFl RX6 159 5 6 := ⟨RX5, TX5, 14, rfl, in_X5, by decide, fw_X6_159⟩
theorem fq_X6_159 : zPl RX6 159 5 6 .boolean false := ⟨RX5, TX5, 14, tyX5, rfl, in_X5, by decide, fw_X6_159, tyX5_ok, nmX5, tyX5_ok 6 (by decide), rfl, fun h => nomatch h⟩
theorem fw_X6_162 : Cond.fieldLink RX6 162 (TX5 12).1 (TX5 12).2.1 (TX5 12).2.2.1 ∈ zw := zw_1 168 (by decide +kernel) (by decide +kernel)
theorem fl_X6_162 : zFl RX6 162 5 12 := ⟨RX5, TX5, 14, rfl, in_X5, by decide, fw_X6_162⟩
theorem fq_X6_162 : zPl RX6 162 5 12 .int false := ⟨RX5, TX5, 14, tyX5, rfl, in_X5, by decide, fw_X6_162, tyX5_ok, nmX5, tyX5_ok 12 (by decide), rfl, fun h => nomatch h⟩
theorem fw_X6_165 : Cond.fieldLink RX6 165 (TX5 13).1 (TX5 13).2.1 (TX5 13).2.2.1 ∈ zw := zw_1 171 (by decide +kernel) (by decide +kernel)
theorem fl_X6_165 : zFl RX6 165 5 13 := ⟨RX5, TX5, 14, rfl, in_X5, by decide, fw_X6_165⟩
theorem fq_X6_165 : zPl RX6 165 5 13 .int false := ⟨RX5, TX5, 14, tyX5, rfl, in_X5, by decide, fw_X6_165, tyX5_ok, nmX5, tyX5_ok 13 (by decide), rfl, fun h => nomatch h⟩
theorem fw_X6_168 : Cond.fieldLink RX6 168 (TX5 1).1 (TX5 1).2.1 (TX5 1).2.2.1 ∈ zw := zw_1 141 (by decide +kernel) (by decide +kernel)
theorem fl_X6_168 : zFl RX6 168 5 1 := ⟨RX5, TX5, 14, rfl, in_X5, by decide, fw_X6_168⟩
theorem fw_X6_171 : Cond.fieldLink RX6 171 (TX6 2).1 (TX6 2).2.1 (TX6 2).2.2.1 ∈ zw := zw_1 205 (by decide +kernel) (by decide +kernel)
theorem fl_X6_171 : zFl RX6 171 6 2 := ⟨RX6, TX6, 13, rfl, in_X6, by decide, fw_X6_171⟩
theorem fq_X6_171 : zPl RX6 171 6 2 .int false := ⟨RX6, TX6, 13, tyX6, rfl, in_X6, by decide, fw_X6_171, tyX6_ok, nmX6, tyX6_ok 2 (by decide), rfl, fun h => nomatch h⟩
theorem fw_X6_180 : Cond.fieldLink RX6 180 (TX5 2).1 (TX5 2).2.1 (TX5 2).2.2.1 ∈ zw := zw_1 143 (by decide +kernel) (by decide +kernel)
theorem fl_X6_180 : zFl RX6 180 5 2 := ⟨RX5, TX5, 14, rfl, in_X5, by decide, fw_X6_180⟩
theorem fw_X7_9 : Cond.fieldLink RX7 9 (TX7 1).1 (TX7 1).2.1 (TX7 1).2.2.1 ∈ zw := zw_6 45 (by decide +kernel) (by decide +kernel)
theorem fl_X7_9 : zFl RX7 9 7 1 := ⟨RX7, TX7, 4, rfl, in_X7, by decide, fw_X7_9⟩
theorem fq_X7_9 : zPl RX7 9 7 1 (.array .int) true := ⟨RX7, TX7, 4, tyX7, rfl, in_X7, by decide, fw_X7_9, tyX7_ok, nmX7, tyX7_ok 1 (by decide), rfl, fun _ => rfl⟩
theorem fw_X7_15 : Cond.fieldLink RX7 15 (TX7 2).1 (TX7 2).2.1 (TX7 2).2.2.1 ∈ zw := zw_6 46 (by decide +kernel) (by decide +kernel)
theorem fl_X7_15 : zFl RX7 15 7 2 := ⟨RX7, TX7, 4, rfl, in_X7, by decide, fw_X7_15⟩
theorem fq_X7_15 : zPl RX7 15 7 2 (.array .int) true := ⟨RX7, TX7, 4, tyX7, rfl, in_X7, by decide, fw_X7_15, tyX7_ok, nmX7, tyX7_ok 2 (by decide), rfl, fun _ => rfl⟩
theorem fw_X7_18 : Cond.fieldLink RX7 18 (TX7 0).1 (TX7 0).2.1 (TX7 0).2.2.1 ∈ zw := zw_6 44 (by decide +kernel) (by decide +kernel)
theorem fl_X7_18 : zFl RX7 18 7 0 := ⟨RX7, TX7, 4, rfl, in_X7, by decide, fw_X7_18⟩
theorem fq_X7_18 : zPl RX7 18 7 0 .int true := ⟨RX7, TX7, 4, tyX7, rfl, in_X7, by decide, fw_X7_18, tyX7_ok, nmX7, tyX7_ok 0 (by decide), rfl, fun _ => rfl⟩
theorem fw_X7_22 : Cond.fieldLink RX7 22 (TX7 3).1 (TX7 3).2.1 (TX7 3).2.2.1 ∈ zw := zw_6 47 (by decide +kernel) (by decide +kernel)
theorem fl_X7_22 : zFl RX7 22 7 3 := ⟨RX7, TX7, 4, rfl, in_X7, by decide, fw_X7_22⟩
theorem fq_X7_22 : zPl RX7 22 7 3 .int false := ⟨RX7, TX7, 4, tyX7, rfl, in_X7, by decide, fw_X7_22, tyX7_ok, nmX7, tyX7_ok 3 (by decide), rfl, fun h => nomatch h⟩
theorem fw_X8_9 : Cond.fieldLink RX8 9 (TX8 0).1 (TX8 0).2.1 (TX8 0).2.2.1 ∈ zw := zw_2 200 (by decide +kernel) (by decide +kernel)
theorem fl_X8_9 : zFl RX8 9 8 0 := ⟨RX8, TX8, 6, rfl, in_X8, by decide, fw_X8_9⟩
theorem fq_X8_9 : zPl RX8 9 8 0 (.array .int) true := ⟨RX8, TX8, 6, tyX8, rfl, in_X8, by decide, fw_X8_9, tyX8_ok, nmX8, tyX8_ok 0 (by decide), rfl, fun _ => rfl⟩
theorem fw_X8_15 : Cond.fieldLink RX8 15 (TX8 1).1 (TX8 1).2.1 (TX8 1).2.2.1 ∈ zw := zw_2 201 (by decide +kernel) (by decide +kernel)
theorem fl_X8_15 : zFl RX8 15 8 1 := ⟨RX8, TX8, 6, rfl, in_X8, by decide, fw_X8_15⟩
theorem fq_X8_15 : zPl RX8 15 8 1 (.array .int) true := ⟨RX8, TX8, 6, tyX8, rfl, in_X8, by decide, fw_X8_15, tyX8_ok, nmX8, tyX8_ok 1 (by decide), rfl, fun _ => rfl⟩
theorem fw_X8_18 : Cond.fieldLink RX8 18 (TX8 2).1 (TX8 2).2.1 (TX8 2).2.2.1 ∈ zw := zw_2 202 (by decide +kernel) (by decide +kernel)
theorem fl_X8_18 : zFl RX8 18 8 2 := ⟨RX8, TX8, 6, rfl, in_X8, by decide, fw_X8_18⟩
theorem fq_X8_18 : zPl RX8 18 8 2 (.array .int) true := ⟨RX8, TX8, 6, tyX8, rfl, in_X8, by decide, fw_X8_18, tyX8_ok, nmX8, tyX8_ok 2 (by decide), rfl, fun _ => rfl⟩
theorem fw_X8_21 : Cond.fieldLink RX8 21 (TX8 3).1 (TX8 3).2.1 (TX8 3).2.2.1 ∈ zw := zw_2 203 (by decide +kernel) (by decide +kernel)
theorem fl_X8_21 : zFl RX8 21 8 3 := ⟨RX8, TX8, 6, rfl, in_X8, by decide, fw_X8_21⟩
theorem fq_X8_21 : zPl RX8 21 8 3 (.array .int) true := ⟨RX8, TX8, 6, tyX8, rfl, in_X8, by decide, fw_X8_21, tyX8_ok, nmX8, tyX8_ok 3 (by decide), rfl, fun _ => rfl⟩
theorem fw_X8_24 : Cond.fieldLink RX8 24 (TX8 4).1 (TX8 4).2.1 (TX8 4).2.2.1 ∈ zw := zw_2 204 (by decide +kernel) (by decide +kernel)
theorem fl_X8_24 : zFl RX8 24 8 4 := ⟨RX8, TX8, 6, rfl, in_X8, by decide, fw_X8_24⟩
theorem fq_X8_24 : zPl RX8 24 8 4 (.array .int) true := ⟨RX8, TX8, 6, tyX8, rfl, in_X8, by decide, fw_X8_24, tyX8_ok, nmX8, tyX8_ok 4 (by decide), rfl, fun _ => rfl⟩
theorem fw_X8_27 : Cond.fieldLink RX8 27 (TX8 5).1 (TX8 5).2.1 (TX8 5).2.2.1 ∈ zw := zw_2 205 (by decide +kernel) (by decide +kernel)
theorem fl_X8_27 : zFl RX8 27 8 5 := ⟨RX8, TX8, 6, rfl, in_X8, by decide, fw_X8_27⟩
theorem fq_X8_27 : zPl RX8 27 8 5 (.array .int) true := ⟨RX8, TX8, 6, tyX8, rfl, in_X8, by decide, fw_X8_27, tyX8_ok, nmX8, tyX8_ok 5 (by decide), rfl, fun _ => rfl⟩
theorem fw_X10_9 : Cond.fieldLink RX10 9 (TX10 5).1 (TX10 5).2.1 (TX10 5).2.2.1 ∈ zw := zw_4 83 (by decide +kernel) (by decide +kernel)
theorem fl_X10_9 : zFl RX10 9 9 5 := ⟨RX10, TX10, 18, rfl, in_X10, by decide, fw_X10_9⟩
theorem fq_X10_9 : zPl RX10 9 9 5 .int false := ⟨RX10, TX10, 18, tyX10, rfl, in_X10, by decide, fw_X10_9, tyX10_ok, nmX10, tyX10_ok 5 (by decide), rfl, fun h => nomatch h⟩
theorem fw_X10_15 : Cond.fieldLink RX10 15 (TX10 6).1 (TX10 6).2.1 (TX10 6).2.2.1 ∈ zw := zw_4 85 (by decide +kernel) (by decide +kernel)
theorem fl_X10_15 : zFl RX10 15 9 6 := ⟨RX10, TX10, 18, rfl, in_X10, by decide, fw_X10_15⟩
theorem fq_X10_15 : zPl RX10 15 9 6 .int false := ⟨RX10, TX10, 18, tyX10, rfl, in_X10, by decide, fw_X10_15, tyX10_ok, nmX10, tyX10_ok 6 (by decide), rfl, fun h => nomatch h⟩
theorem fw_X10_18 : Cond.fieldLink RX10 18 (TX10 7).1 (TX10 7).2.1 (TX10 7).2.2.1 ∈ zw := zw_4 87 (by decide +kernel) (by decide +kernel)
theorem fl_X10_18 : zFl RX10 18 9 7 := ⟨RX10, TX10, 18, rfl, in_X10, by decide, fw_X10_18⟩
theorem fq_X10_18 : zPl RX10 18 9 7 .int false := ⟨RX10, TX10, 18, tyX10, rfl, in_X10, by decide, fw_X10_18, tyX10_ok, nmX10, tyX10_ok 7 (by decide), rfl, fun h => nomatch h⟩
theorem fw_X10_21 : Cond.fieldLink RX10 21 (TX10 8).1 (TX10 8).2.1 (TX10 8).2.2.1 ∈ zw := zw_4 89 (by decide +kernel) (by decide +kernel)
theorem fl_X10_21 : zFl RX10 21 9 8 := ⟨RX10, TX10, 18, rfl, in_X10, by decide, fw_X10_21⟩
theorem fq_X10_21 : zPl RX10 21 9 8 .int false := ⟨RX10, TX10, 18, tyX10, rfl, in_X10, by decide, fw_X10_21, tyX10_ok, nmX10, tyX10_ok 8 (by decide), rfl, fun h => nomatch h⟩
theorem fw_X10_24 : Cond.fieldLink RX10 24 (TX10 9).1 (TX10 9).2.1 (TX10 9).2.2.1 ∈ zw := zw_4 91 (by decide +kernel) (by decide +kernel)
theorem fl_X10_24 : zFl RX10 24 9 9 := ⟨RX10, TX10, 18, rfl, in_X10, by decide, fw_X10_24⟩
theorem fq_X10_24 : zPl RX10 24 9 9 .int false := ⟨RX10, TX10, 18, tyX10, rfl, in_X10, by decide, fw_X10_24, tyX10_ok, nmX10, tyX10_ok 9 (by decide), rfl, fun h => nomatch h⟩
theorem fw_X10_27 : Cond.fieldLink RX10 27 (TX10 11).1 (TX10 11).2.1 (TX10 11).2.2.1 ∈ zw := zw_4 94 (by decide +kernel) (by decide +kernel)
theorem fl_X10_27 : zFl RX10 27 9 11 := ⟨RX10, TX10, 18, rfl, in_X10, by decide, fw_X10_27⟩
theorem fq_X10_27 : zPl RX10 27 9 11 .int false := ⟨RX10, TX10, 18, tyX10, rfl, in_X10, by decide, fw_X10_27, tyX10_ok, nmX10, tyX10_ok 11 (by decide), rfl, fun h => nomatch h⟩
theorem fw_X10_32 : Cond.fieldLink RX10 32 (TX10 12).1 (TX10 12).2.1 (TX10 12).2.2.1 ∈ zw := zw_4 95 (by decide +kernel) (by decide +kernel)
theorem fl_X10_32 : zFl RX10 32 9 12 := ⟨RX10, TX10, 18, rfl, in_X10, by decide, fw_X10_32⟩
theorem fq_X10_32 : zPl RX10 32 9 12 (.array (.object "PartyWalls$Proposal")) true := ⟨RX10, TX10, 18, tyX10, rfl, in_X10, by decide, fw_X10_32, tyX10_ok, nmX10, tyX10_ok 12 (by decide), rfl, fun _ => rfl⟩
theorem fw_X10_36 : Cond.fieldLink RX10 36 (TX10 13).1 (TX10 13).2.1 (TX10 13).2.2.1 ∈ zw := zw_4 97 (by decide +kernel) (by decide +kernel)
theorem fl_X10_36 : zFl RX10 36 9 13 := ⟨RX10, TX10, 18, rfl, in_X10, by decide, fw_X10_36⟩
theorem fq_X10_36 : zPl RX10 36 9 13 (.array .int) true := ⟨RX10, TX10, 18, tyX10, rfl, in_X10, by decide, fw_X10_36, tyX10_ok, nmX10, tyX10_ok 13 (by decide), rfl, fun _ => rfl⟩
theorem fw_X10_40 : Cond.fieldLink RX10 40 (TX10 16).1 (TX10 16).2.1 (TX10 16).2.2.1 ∈ zw := zw_4 101 (by decide +kernel) (by decide +kernel)
theorem fl_X10_40 : zFl RX10 40 9 16 := ⟨RX10, TX10, 18, rfl, in_X10, by decide, fw_X10_40⟩
theorem fq_X10_40 : zPl RX10 40 9 16 .int false := ⟨RX10, TX10, 18, tyX10, rfl, in_X10, by decide, fw_X10_40, tyX10_ok, nmX10, tyX10_ok 16 (by decide), rfl, fun h => nomatch h⟩
theorem fw_X10_43 : Cond.fieldLink RX10 43 (TX10 0).1 (TX10 0).2.1 (TX10 0).2.2.1 ∈ zw := zw_4 74 (by decide +kernel) (by decide +kernel)
theorem fl_X10_43 : zFl RX10 43 9 0 := ⟨RX10, TX10, 18, rfl, in_X10, by decide, fw_X10_43⟩
theorem fq_X10_43 : zPl RX10 43 9 0 (.object "PartyWalls$Wall") true := ⟨RX10, TX10, 18, tyX10, rfl, in_X10, by decide, fw_X10_43, tyX10_ok, nmX10, tyX10_ok 0 (by decide), rfl, fun _ => rfl⟩
theorem fw_X10_47 : Cond.fieldLink RX10 47 (TX10 1).1 (TX10 1).2.1 (TX10 1).2.2.1 ∈ zw := zw_4 76 (by decide +kernel) (by decide +kernel)
theorem fl_X10_47 : zFl RX10 47 9 1 := ⟨RX10, TX10, 18, rfl, in_X10, by decide, fw_X10_47⟩
theorem fq_X10_47 : zPl RX10 47 9 1 .int true := ⟨RX10, TX10, 18, tyX10, rfl, in_X10, by decide, fw_X10_47, tyX10_ok, nmX10, tyX10_ok 1 (by decide), rfl, fun _ => rfl⟩
theorem fw_X10_50 : Cond.fieldLink RX10 50 (TX10 2).1 (TX10 2).2.1 (TX10 2).2.2.1 ∈ zw := zw_4 78 (by decide +kernel) (by decide +kernel)
theorem fl_X10_50 : zFl RX10 50 9 2 := ⟨RX10, TX10, 18, rfl, in_X10, by decide, fw_X10_50⟩
theorem fq_X10_50 : zPl RX10 50 9 2 .int true := ⟨RX10, TX10, 18, tyX10, rfl, in_X10, by decide, fw_X10_50, tyX10_ok, nmX10, tyX10_ok 2 (by decide), rfl, fun _ => rfl⟩
theorem fw_X10_53 : Cond.fieldLink RX10 53 (TX10 3).1 (TX10 3).2.1 (TX10 3).2.2.1 ∈ zw := zw_4 80 (by decide +kernel) (by decide +kernel)
theorem fl_X10_53 : zFl RX10 53 9 3 := ⟨RX10, TX10, 18, rfl, in_X10, by decide, fw_X10_53⟩
theorem fq_X10_53 : zPl RX10 53 9 3 (.object "PartyWalls$Rule") true := ⟨RX10, TX10, 18, tyX10, rfl, in_X10, by decide, fw_X10_53, tyX10_ok, nmX10, tyX10_ok 3 (by decide), rfl, fun _ => rfl⟩
theorem fw_X10_57 : Cond.fieldLink RX10 57 (TX10 4).1 (TX10 4).2.1 (TX10 4).2.2.1 ∈ zw := zw_4 81 (by decide +kernel) (by decide +kernel)
theorem fl_X10_57 : zFl RX10 57 9 4 := ⟨RX10, TX10, 18, rfl, in_X10, by decide, fw_X10_57⟩
theorem fq_X10_57 : zPl RX10 57 9 4 .int false := ⟨RX10, TX10, 18, tyX10, rfl, in_X10, by decide, fw_X10_57, tyX10_ok, nmX10, tyX10_ok 4 (by decide), rfl, fun h => nomatch h⟩
theorem fw_X10_66 : Cond.fieldLink RX10 66 (TX5 3).1 (TX5 3).2.1 (TX5 3).2.2.1 ∈ zw := zw_1 144 (by decide +kernel) (by decide +kernel)
theorem fl_X10_66 : zFl RX10 66 5 3 := ⟨RX5, TX5, 14, rfl, in_X5, by decide, fw_X10_66⟩
theorem fq_X10_66 : zPl RX10 66 5 3 .int false := ⟨RX5, TX5, 14, tyX5, rfl, in_X5, by decide, fw_X10_66, tyX5_ok, nmX5, tyX5_ok 3 (by decide), rfl, fun h => nomatch h⟩
theorem fw_X10_71 : Cond.fieldLink RX10 71 (TX5 5).1 (TX5 5).2.1 (TX5 5).2.2.1 ∈ zw := zw_1 149 (by decide +kernel) (by decide +kernel)
theorem fl_X10_71 : zFl RX10 71 5 5 := ⟨RX5, TX5, 14, rfl, in_X5, by decide, fw_X10_71⟩
theorem fq_X10_71 : zPl RX10 71 5 5 .int false := ⟨RX5, TX5, 14, tyX5, rfl, in_X5, by decide, fw_X10_71, tyX5_ok, nmX5, tyX5_ok 5 (by decide), rfl, fun h => nomatch h⟩
theorem fw_X10_78 : Cond.fieldLink RX10 78 (TX5 6).1 (TX5 6).2.1 (TX5 6).2.2.1 ∈ zw := zw_1 151 (by decide +kernel) (by decide +kernel)
theorem fl_X10_78 : zFl RX10 78 5 6 := ⟨RX5, TX5, 14, rfl, in_X5, by decide, fw_X10_78⟩
theorem fq_X10_78 : zPl RX10 78 5 6 .boolean false := ⟨RX5, TX5, 14, tyX5, rfl, in_X5, by decide, fw_X10_78, tyX5_ok, nmX5, tyX5_ok 6 (by decide), rfl, fun h => nomatch h⟩
theorem fw_X10_89 : Cond.fieldLink RX10 89 (TX5 1).1 (TX5 1).2.1 (TX5 1).2.2.1 ∈ zw := zw_1 140 (by decide +kernel) (by decide +kernel)
theorem fl_X10_89 : zFl RX10 89 5 1 := ⟨RX5, TX5, 14, rfl, in_X5, by decide, fw_X10_89⟩
theorem fw_X10_92 : Cond.fieldLink RX10 92 (TX5 7).1 (TX5 7).2.1 (TX5 7).2.2.1 ∈ zw := zw_1 154 (by decide +kernel) (by decide +kernel)
theorem fl_X10_92 : zFl RX10 92 5 7 := ⟨RX5, TX5, 14, rfl, in_X5, by decide, fw_X10_92⟩
theorem fq_X10_92 : zPl RX10 92 5 7 .int false := ⟨RX5, TX5, 14, tyX5, rfl, in_X5, by decide, fw_X10_92, tyX5_ok, nmX5, tyX5_ok 7 (by decide), rfl, fun h => nomatch h⟩
theorem fw_X10_99 : Cond.fieldLink RX10 99 (TX10 10).1 (TX10 10).2.1 (TX10 10).2.2.1 ∈ zw := zw_4 93 (by decide +kernel) (by decide +kernel)
theorem fl_X10_99 : zFl RX10 99 9 10 := ⟨RX10, TX10, 18, rfl, in_X10, by decide, fw_X10_99⟩
theorem fq_X10_99 : zPl RX10 99 9 10 (.object "PartyWalls$Proposal") false := ⟨RX10, TX10, 18, tyX10, rfl, in_X10, by decide, fw_X10_99, tyX10_ok, nmX10, tyX10_ok 10 (by decide), rfl, fun h => nomatch h⟩
theorem fw_X10_103 : Cond.fieldLink RX10 103 (TX4 0).1 (TX4 0).2.1 (TX4 0).2.2.1 ∈ zw := zw_5 24 (by decide +kernel) (by decide +kernel)
theorem fl_X10_103 : zFl RX10 103 4 0 := ⟨RX4, TX4, 3, rfl, in_X4, by decide, fw_X10_103⟩
theorem fw_X10_106 : Cond.fieldLink RX10 106 (TX5 8).1 (TX5 8).2.1 (TX5 8).2.2.1 ∈ zw := zw_1 158 (by decide +kernel) (by decide +kernel)
theorem fl_X10_106 : zFl RX10 106 5 8 := ⟨RX5, TX5, 14, rfl, in_X5, by decide, fw_X10_106⟩
theorem fq_X10_106 : zPl RX10 106 5 8 .int false := ⟨RX5, TX5, 14, tyX5, rfl, in_X5, by decide, fw_X10_106, tyX5_ok, nmX5, tyX5_ok 8 (by decide), rfl, fun h => nomatch h⟩
theorem fw_X10_120 : Cond.fieldLink RX10 120 (TX4 1).1 (TX4 1).2.1 (TX4 1).2.2.1 ∈ zw := zw_5 26 (by decide +kernel) (by decide +kernel)
theorem fl_X10_120 : zFl RX10 120 4 1 := ⟨RX4, TX4, 3, rfl, in_X4, by decide, fw_X10_120⟩
theorem fw_X10_123 : Cond.fieldLink RX10 123 (TX5 12).1 (TX5 12).2.1 (TX5 12).2.2.1 ∈ zw := zw_1 169 (by decide +kernel) (by decide +kernel)
theorem fl_X10_123 : zFl RX10 123 5 12 := ⟨RX5, TX5, 14, rfl, in_X5, by decide, fw_X10_123⟩
theorem fq_X10_123 : zPl RX10 123 5 12 .int false := ⟨RX5, TX5, 14, tyX5, rfl, in_X5, by decide, fw_X10_123, tyX5_ok, nmX5, tyX5_ok 12 (by decide), rfl, fun h => nomatch h⟩
theorem fw_X10_125 : Cond.fieldLink RX10 125 (TX5 13).1 (TX5 13).2.1 (TX5 13).2.2.1 ∈ zw := zw_1 172 (by decide +kernel) (by decide +kernel)
theorem fl_X10_125 : zFl RX10 125 5 13 := ⟨RX5, TX5, 14, rfl, in_X5, by decide, fw_X10_125⟩
theorem fq_X10_125 : zPl RX10 125 5 13 .int false := ⟨RX5, TX5, 14, tyX5, rfl, in_X5, by decide, fw_X10_125, tyX5_ok, nmX5, tyX5_ok 13 (by decide), rfl, fun h => nomatch h⟩
theorem fw_X10_127 : Cond.fieldLink RX10 127 (TX4 2).1 (TX4 2).2.1 (TX4 2).2.2.1 ∈ zw := zw_5 28 (by decide +kernel) (by decide +kernel)
theorem fl_X10_127 : zFl RX10 127 4 2 := ⟨RX4, TX4, 3, rfl, in_X4, by decide, fw_X10_127⟩
theorem fw_X12_9 : Cond.fieldLink RX12 9 (TX12 4).1 (TX12 4).2.1 (TX12 4).2.2.1 ∈ zw := zw_7 8 (by decide +kernel) (by decide +kernel)
theorem fl_X12_9 : zFl RX12 9 11 4 := ⟨RX12, TX12, 80, rfl, in_X12, by decide, fw_X12_9⟩
theorem fq_X12_9 : zPl RX12 9 11 4 (.array .int) true := ⟨RX12, TX12, 80, tyX12, rfl, in_X12, by decide, fw_X12_9, tyX12_ok, nmX12, tyX12_ok 4 (by decide), rfl, fun _ => rfl⟩
theorem fw_X12_13 : Cond.fieldLink RX12 13 (TX12 5).1 (TX12 5).2.1 (TX12 5).2.2.1 ∈ zw := zw_7 9 (by decide +kernel) (by decide +kernel)
theorem fl_X12_13 : zFl RX12 13 11 5 := ⟨RX12, TX12, 80, rfl, in_X12, by decide, fw_X12_13⟩
theorem fq_X12_13 : zPl RX12 13 11 5 (.array .byte) true := ⟨RX12, TX12, 80, tyX12, rfl, in_X12, by decide, fw_X12_13, tyX12_ok, nmX12, tyX12_ok 5 (by decide), rfl, fun _ => rfl⟩
theorem fw_X12_17 : Cond.fieldLink RX12 17 (TX12 10).1 (TX12 10).2.1 (TX12 10).2.2.1 ∈ zw := zw_7 14 (by decide +kernel) (by decide +kernel)
theorem fl_X12_17 : zFl RX12 17 11 10 := ⟨RX12, TX12, 80, rfl, in_X12, by decide, fw_X12_17⟩
theorem fq_X12_17 : zPl RX12 17 11 10 .int false := ⟨RX12, TX12, 80, tyX12, rfl, in_X12, by decide, fw_X12_17, tyX12_ok, nmX12, tyX12_ok 10 (by decide), rfl, fun h => nomatch h⟩
theorem fw_X12_21 : Cond.fieldLink RX12 21 (TX12 13).1 (TX12 13).2.1 (TX12 13).2.2.1 ∈ zw := zw_7 17 (by decide +kernel) (by decide +kernel)
theorem fl_X12_21 : zFl RX12 21 11 13 := ⟨RX12, TX12, 80, rfl, in_X12, by decide, fw_X12_21⟩
theorem fq_X12_21 : zPl RX12 21 11 13 (.array .int) true := ⟨RX12, TX12, 80, tyX12, rfl, in_X12, by decide, fw_X12_21, tyX12_ok, nmX12, tyX12_ok 13 (by decide), rfl, fun _ => rfl⟩
theorem fw_X12_24 : Cond.fieldLink RX12 24 (TX12 14).1 (TX12 14).2.1 (TX12 14).2.2.1 ∈ zw := zw_7 18 (by decide +kernel) (by decide +kernel)
theorem fl_X12_24 : zFl RX12 24 11 14 := ⟨RX12, TX12, 80, rfl, in_X12, by decide, fw_X12_24⟩
theorem fq_X12_24 : zPl RX12 24 11 14 (.array .int) true := ⟨RX12, TX12, 80, tyX12, rfl, in_X12, by decide, fw_X12_24, tyX12_ok, nmX12, tyX12_ok 14 (by decide), rfl, fun _ => rfl⟩
theorem fw_X12_27 : Cond.fieldLink RX12 27 (TX12 15).1 (TX12 15).2.1 (TX12 15).2.2.1 ∈ zw := zw_7 19 (by decide +kernel) (by decide +kernel)
theorem fl_X12_27 : zFl RX12 27 11 15 := ⟨RX12, TX12, 80, rfl, in_X12, by decide, fw_X12_27⟩
theorem fq_X12_27 : zPl RX12 27 11 15 (.array .int) true := ⟨RX12, TX12, 80, tyX12, rfl, in_X12, by decide, fw_X12_27, tyX12_ok, nmX12, tyX12_ok 15 (by decide), rfl, fun _ => rfl⟩
theorem fw_X12_30 : Cond.fieldLink RX12 30 (TX12 16).1 (TX12 16).2.1 (TX12 16).2.2.1 ∈ zw := zw_7 20 (by decide +kernel) (by decide +kernel)
theorem fl_X12_30 : zFl RX12 30 11 16 := ⟨RX12, TX12, 80, rfl, in_X12, by decide, fw_X12_30⟩
theorem fq_X12_30 : zPl RX12 30 11 16 (.array .int) true := ⟨RX12, TX12, 80, tyX12, rfl, in_X12, by decide, fw_X12_30, tyX12_ok, nmX12, tyX12_ok 16 (by decide), rfl, fun _ => rfl⟩
theorem fw_X12_33 : Cond.fieldLink RX12 33 (TX12 17).1 (TX12 17).2.1 (TX12 17).2.2.1 ∈ zw := zw_7 21 (by decide +kernel) (by decide +kernel)
theorem fl_X12_33 : zFl RX12 33 11 17 := ⟨RX12, TX12, 80, rfl, in_X12, by decide, fw_X12_33⟩
theorem fq_X12_33 : zPl RX12 33 11 17 (.array .int) true := ⟨RX12, TX12, 80, tyX12, rfl, in_X12, by decide, fw_X12_33, tyX12_ok, nmX12, tyX12_ok 17 (by decide), rfl, fun _ => rfl⟩
theorem fw_X12_36 : Cond.fieldLink RX12 36 (TX12 18).1 (TX12 18).2.1 (TX12 18).2.2.1 ∈ zw := zw_7 22 (by decide +kernel) (by decide +kernel)
theorem fl_X12_36 : zFl RX12 36 11 18 := ⟨RX12, TX12, 80, rfl, in_X12, by decide, fw_X12_36⟩
theorem fq_X12_36 : zPl RX12 36 11 18 (.array .int) true := ⟨RX12, TX12, 80, tyX12, rfl, in_X12, by decide, fw_X12_36, tyX12_ok, nmX12, tyX12_ok 18 (by decide), rfl, fun _ => rfl⟩
theorem fw_X12_39 : Cond.fieldLink RX12 39 (TX12 19).1 (TX12 19).2.1 (TX12 19).2.2.1 ∈ zw := zw_7 23 (by decide +kernel) (by decide +kernel)
theorem fl_X12_39 : zFl RX12 39 11 19 := ⟨RX12, TX12, 80, rfl, in_X12, by decide, fw_X12_39⟩
theorem fq_X12_39 : zPl RX12 39 11 19 (.array .int) true := ⟨RX12, TX12, 80, tyX12, rfl, in_X12, by decide, fw_X12_39, tyX12_ok, nmX12, tyX12_ok 19 (by decide), rfl, fun _ => rfl⟩
theorem fw_X12_42 : Cond.fieldLink RX12 42 (TX12 20).1 (TX12 20).2.1 (TX12 20).2.2.1 ∈ zw := zw_7 24 (by decide +kernel) (by decide +kernel)
theorem fl_X12_42 : zFl RX12 42 11 20 := ⟨RX12, TX12, 80, rfl, in_X12, by decide, fw_X12_42⟩
theorem fq_X12_42 : zPl RX12 42 11 20 (.array .int) true := ⟨RX12, TX12, 80, tyX12, rfl, in_X12, by decide, fw_X12_42, tyX12_ok, nmX12, tyX12_ok 20 (by decide), rfl, fun _ => rfl⟩
theorem fw_X12_45 : Cond.fieldLink RX12 45 (TX12 22).1 (TX12 22).2.1 (TX12 22).2.2.1 ∈ zw := zw_7 26 (by decide +kernel) (by decide +kernel)
theorem fl_X12_45 : zFl RX12 45 11 22 := ⟨RX12, TX12, 80, rfl, in_X12, by decide, fw_X12_45⟩
theorem fq_X12_45 : zPl RX12 45 11 22 (.array .boolean) true := ⟨RX12, TX12, 80, tyX12, rfl, in_X12, by decide, fw_X12_45, tyX12_ok, nmX12, tyX12_ok 22 (by decide), rfl, fun _ => rfl⟩
theorem fw_X12_49 : Cond.fieldLink RX12 49 (TX12 24).1 (TX12 24).2.1 (TX12 24).2.2.1 ∈ zw := zw_7 28 (by decide +kernel) (by decide +kernel)
theorem fl_X12_49 : zFl RX12 49 11 24 := ⟨RX12, TX12, 80, rfl, in_X12, by decide, fw_X12_49⟩
theorem fq_X12_49 : zPl RX12 49 11 24 (.array .int) true := ⟨RX12, TX12, 80, tyX12, rfl, in_X12, by decide, fw_X12_49, tyX12_ok, nmX12, tyX12_ok 24 (by decide), rfl, fun _ => rfl⟩
theorem fw_X12_52 : Cond.fieldLink RX12 52 (TX12 25).1 (TX12 25).2.1 (TX12 25).2.2.1 ∈ zw := zw_7 29 (by decide +kernel) (by decide +kernel)
theorem fl_X12_52 : zFl RX12 52 11 25 := ⟨RX12, TX12, 80, rfl, in_X12, by decide, fw_X12_52⟩
theorem fq_X12_52 : zPl RX12 52 11 25 (.array .int) true := ⟨RX12, TX12, 80, tyX12, rfl, in_X12, by decide, fw_X12_52, tyX12_ok, nmX12, tyX12_ok 25 (by decide), rfl, fun _ => rfl⟩
theorem fw_X12_55 : Cond.fieldLink RX12 55 (TX12 26).1 (TX12 26).2.1 (TX12 26).2.2.1 ∈ zw := zw_7 30 (by decide +kernel) (by decide +kernel)
theorem fl_X12_55 : zFl RX12 55 11 26 := ⟨RX12, TX12, 80, rfl, in_X12, by decide, fw_X12_55⟩
theorem fq_X12_55 : zPl RX12 55 11 26 (.array .int) true := ⟨RX12, TX12, 80, tyX12, rfl, in_X12, by decide, fw_X12_55, tyX12_ok, nmX12, tyX12_ok 26 (by decide), rfl, fun _ => rfl⟩
theorem fw_X12_58 : Cond.fieldLink RX12 58 (TX12 27).1 (TX12 27).2.1 (TX12 27).2.2.1 ∈ zw := zw_7 31 (by decide +kernel) (by decide +kernel)
theorem fl_X12_58 : zFl RX12 58 11 27 := ⟨RX12, TX12, 80, rfl, in_X12, by decide, fw_X12_58⟩
theorem fq_X12_58 : zPl RX12 58 11 27 (.array .boolean) true := ⟨RX12, TX12, 80, tyX12, rfl, in_X12, by decide, fw_X12_58, tyX12_ok, nmX12, tyX12_ok 27 (by decide), rfl, fun _ => rfl⟩
theorem fw_X12_61 : Cond.fieldLink RX12 61 (TX12 28).1 (TX12 28).2.1 (TX12 28).2.2.1 ∈ zw := zw_7 32 (by decide +kernel) (by decide +kernel)
theorem fl_X12_61 : zFl RX12 61 11 28 := ⟨RX12, TX12, 80, rfl, in_X12, by decide, fw_X12_61⟩
theorem fq_X12_61 : zPl RX12 61 11 28 (.array .int) true := ⟨RX12, TX12, 80, tyX12, rfl, in_X12, by decide, fw_X12_61, tyX12_ok, nmX12, tyX12_ok 28 (by decide), rfl, fun _ => rfl⟩
theorem fw_X12_64 : Cond.fieldLink RX12 64 (TX12 29).1 (TX12 29).2.1 (TX12 29).2.2.1 ∈ zw := zw_7 33 (by decide +kernel) (by decide +kernel)
theorem fl_X12_64 : zFl RX12 64 11 29 := ⟨RX12, TX12, 80, rfl, in_X12, by decide, fw_X12_64⟩
theorem fq_X12_64 : zPl RX12 64 11 29 (.array .int) true := ⟨RX12, TX12, 80, tyX12, rfl, in_X12, by decide, fw_X12_64, tyX12_ok, nmX12, tyX12_ok 29 (by decide), rfl, fun _ => rfl⟩
theorem fw_X12_67 : Cond.fieldLink RX12 67 (TX12 30).1 (TX12 30).2.1 (TX12 30).2.2.1 ∈ zw := zw_7 34 (by decide +kernel) (by decide +kernel)
theorem fl_X12_67 : zFl RX12 67 11 30 := ⟨RX12, TX12, 80, rfl, in_X12, by decide, fw_X12_67⟩
theorem fq_X12_67 : zPl RX12 67 11 30 (.array .int) true := ⟨RX12, TX12, 80, tyX12, rfl, in_X12, by decide, fw_X12_67, tyX12_ok, nmX12, tyX12_ok 30 (by decide), rfl, fun _ => rfl⟩
theorem fw_X12_70 : Cond.fieldLink RX12 70 (TX12 31).1 (TX12 31).2.1 (TX12 31).2.2.1 ∈ zw := zw_7 35 (by decide +kernel) (by decide +kernel)
theorem fl_X12_70 : zFl RX12 70 11 31 := ⟨RX12, TX12, 80, rfl, in_X12, by decide, fw_X12_70⟩
theorem fq_X12_70 : zPl RX12 70 11 31 (.array .int) true := ⟨RX12, TX12, 80, tyX12, rfl, in_X12, by decide, fw_X12_70, tyX12_ok, nmX12, tyX12_ok 31 (by decide), rfl, fun _ => rfl⟩
theorem fw_X12_73 : Cond.fieldLink RX12 73 (TX12 32).1 (TX12 32).2.1 (TX12 32).2.2.1 ∈ zw := zw_7 36 (by decide +kernel) (by decide +kernel)
theorem fl_X12_73 : zFl RX12 73 11 32 := ⟨RX12, TX12, 80, rfl, in_X12, by decide, fw_X12_73⟩
theorem fq_X12_73 : zPl RX12 73 11 32 (.array .boolean) true := ⟨RX12, TX12, 80, tyX12, rfl, in_X12, by decide, fw_X12_73, tyX12_ok, nmX12, tyX12_ok 32 (by decide), rfl, fun _ => rfl⟩
theorem fw_X12_76 : Cond.fieldLink RX12 76 (TX12 33).1 (TX12 33).2.1 (TX12 33).2.2.1 ∈ zw := zw_7 37 (by decide +kernel) (by decide +kernel)
theorem fl_X12_76 : zFl RX12 76 11 33 := ⟨RX12, TX12, 80, rfl, in_X12, by decide, fw_X12_76⟩
theorem fq_X12_76 : zPl RX12 76 11 33 (.array .int) true := ⟨RX12, TX12, 80, tyX12, rfl, in_X12, by decide, fw_X12_76, tyX12_ok, nmX12, tyX12_ok 33 (by decide), rfl, fun _ => rfl⟩
theorem fw_X12_79 : Cond.fieldLink RX12 79 (TX12 34).1 (TX12 34).2.1 (TX12 34).2.2.1 ∈ zw := zw_7 38 (by decide +kernel) (by decide +kernel)
theorem fl_X12_79 : zFl RX12 79 11 34 := ⟨RX12, TX12, 80, rfl, in_X12, by decide, fw_X12_79⟩
theorem fq_X12_79 : zPl RX12 79 11 34 (.array .int) true := ⟨RX12, TX12, 80, tyX12, rfl, in_X12, by decide, fw_X12_79, tyX12_ok, nmX12, tyX12_ok 34 (by decide), rfl, fun _ => rfl⟩
theorem fw_X12_82 : Cond.fieldLink RX12 82 (TX12 35).1 (TX12 35).2.1 (TX12 35).2.2.1 ∈ zw := zw_7 39 (by decide +kernel) (by decide +kernel)
theorem fl_X12_82 : zFl RX12 82 11 35 := ⟨RX12, TX12, 80, rfl, in_X12, by decide, fw_X12_82⟩
theorem fq_X12_82 : zPl RX12 82 11 35 (.array .int) true := ⟨RX12, TX12, 80, tyX12, rfl, in_X12, by decide, fw_X12_82, tyX12_ok, nmX12, tyX12_ok 35 (by decide), rfl, fun _ => rfl⟩
theorem fw_X12_85 : Cond.fieldLink RX12 85 (TX12 36).1 (TX12 36).2.1 (TX12 36).2.2.1 ∈ zw := zw_7 40 (by decide +kernel) (by decide +kernel)
theorem fl_X12_85 : zFl RX12 85 11 36 := ⟨RX12, TX12, 80, rfl, in_X12, by decide, fw_X12_85⟩
theorem fq_X12_85 : zPl RX12 85 11 36 (.array .int) true := ⟨RX12, TX12, 80, tyX12, rfl, in_X12, by decide, fw_X12_85, tyX12_ok, nmX12, tyX12_ok 36 (by decide), rfl, fun _ => rfl⟩
theorem fw_X12_88 : Cond.fieldLink RX12 88 (TX12 37).1 (TX12 37).2.1 (TX12 37).2.2.1 ∈ zw := zw_7 41 (by decide +kernel) (by decide +kernel)
theorem fl_X12_88 : zFl RX12 88 11 37 := ⟨RX12, TX12, 80, rfl, in_X12, by decide, fw_X12_88⟩
theorem fq_X12_88 : zPl RX12 88 11 37 (.array .int) true := ⟨RX12, TX12, 80, tyX12, rfl, in_X12, by decide, fw_X12_88, tyX12_ok, nmX12, tyX12_ok 37 (by decide), rfl, fun _ => rfl⟩
theorem fw_X12_91 : Cond.fieldLink RX12 91 (TX12 38).1 (TX12 38).2.1 (TX12 38).2.2.1 ∈ zw := zw_7 42 (by decide +kernel) (by decide +kernel)
theorem fl_X12_91 : zFl RX12 91 11 38 := ⟨RX12, TX12, 80, rfl, in_X12, by decide, fw_X12_91⟩
theorem fq_X12_91 : zPl RX12 91 11 38 (.array .int) true := ⟨RX12, TX12, 80, tyX12, rfl, in_X12, by decide, fw_X12_91, tyX12_ok, nmX12, tyX12_ok 38 (by decide), rfl, fun _ => rfl⟩
theorem fw_X12_94 : Cond.fieldLink RX12 94 (TX12 39).1 (TX12 39).2.1 (TX12 39).2.2.1 ∈ zw := zw_7 43 (by decide +kernel) (by decide +kernel)
theorem fl_X12_94 : zFl RX12 94 11 39 := ⟨RX12, TX12, 80, rfl, in_X12, by decide, fw_X12_94⟩
theorem fq_X12_94 : zPl RX12 94 11 39 (.array .int) true := ⟨RX12, TX12, 80, tyX12, rfl, in_X12, by decide, fw_X12_94, tyX12_ok, nmX12, tyX12_ok 39 (by decide), rfl, fun _ => rfl⟩
theorem fw_X12_97 : Cond.fieldLink RX12 97 (TX12 40).1 (TX12 40).2.1 (TX12 40).2.2.1 ∈ zw := zw_7 44 (by decide +kernel) (by decide +kernel)
theorem fl_X12_97 : zFl RX12 97 11 40 := ⟨RX12, TX12, 80, rfl, in_X12, by decide, fw_X12_97⟩
theorem fq_X12_97 : zPl RX12 97 11 40 (.array .int) true := ⟨RX12, TX12, 80, tyX12, rfl, in_X12, by decide, fw_X12_97, tyX12_ok, nmX12, tyX12_ok 40 (by decide), rfl, fun _ => rfl⟩
theorem fw_X12_100 : Cond.fieldLink RX12 100 (TX12 42).1 (TX12 42).2.1 (TX12 42).2.2.1 ∈ zw := zw_7 46 (by decide +kernel) (by decide +kernel)
theorem fl_X12_100 : zFl RX12 100 11 42 := ⟨RX12, TX12, 80, rfl, in_X12, by decide, fw_X12_100⟩
theorem fq_X12_100 : zPl RX12 100 11 42 (.array .int) true := ⟨RX12, TX12, 80, tyX12, rfl, in_X12, by decide, fw_X12_100, tyX12_ok, nmX12, tyX12_ok 42 (by decide), rfl, fun _ => rfl⟩
theorem fw_X12_103 : Cond.fieldLink RX12 103 (TX12 43).1 (TX12 43).2.1 (TX12 43).2.2.1 ∈ zw := zw_7 47 (by decide +kernel) (by decide +kernel)
theorem fl_X12_103 : zFl RX12 103 11 43 := ⟨RX12, TX12, 80, rfl, in_X12, by decide, fw_X12_103⟩
theorem fq_X12_103 : zPl RX12 103 11 43 (.array .int) true := ⟨RX12, TX12, 80, tyX12, rfl, in_X12, by decide, fw_X12_103, tyX12_ok, nmX12, tyX12_ok 43 (by decide), rfl, fun _ => rfl⟩
theorem fw_X12_106 : Cond.fieldLink RX12 106 (TX12 44).1 (TX12 44).2.1 (TX12 44).2.2.1 ∈ zw := zw_7 48 (by decide +kernel) (by decide +kernel)
theorem fl_X12_106 : zFl RX12 106 11 44 := ⟨RX12, TX12, 80, rfl, in_X12, by decide, fw_X12_106⟩
theorem fq_X12_106 : zPl RX12 106 11 44 (.array .int) true := ⟨RX12, TX12, 80, tyX12, rfl, in_X12, by decide, fw_X12_106, tyX12_ok, nmX12, tyX12_ok 44 (by decide), rfl, fun _ => rfl⟩
theorem fw_X12_109 : Cond.fieldLink RX12 109 (TX12 45).1 (TX12 45).2.1 (TX12 45).2.2.1 ∈ zw := zw_7 49 (by decide +kernel) (by decide +kernel)
theorem fl_X12_109 : zFl RX12 109 11 45 := ⟨RX12, TX12, 80, rfl, in_X12, by decide, fw_X12_109⟩
theorem fq_X12_109 : zPl RX12 109 11 45 (.array .int) true := ⟨RX12, TX12, 80, tyX12, rfl, in_X12, by decide, fw_X12_109, tyX12_ok, nmX12, tyX12_ok 45 (by decide), rfl, fun _ => rfl⟩
theorem fw_X12_112 : Cond.fieldLink RX12 112 (TX12 46).1 (TX12 46).2.1 (TX12 46).2.2.1 ∈ zw := zw_7 50 (by decide +kernel) (by decide +kernel)
theorem fl_X12_112 : zFl RX12 112 11 46 := ⟨RX12, TX12, 80, rfl, in_X12, by decide, fw_X12_112⟩
theorem fq_X12_112 : zPl RX12 112 11 46 (.array .int) true := ⟨RX12, TX12, 80, tyX12, rfl, in_X12, by decide, fw_X12_112, tyX12_ok, nmX12, tyX12_ok 46 (by decide), rfl, fun _ => rfl⟩
theorem fw_X12_115 : Cond.fieldLink RX12 115 (TX12 47).1 (TX12 47).2.1 (TX12 47).2.2.1 ∈ zw := zw_7 51 (by decide +kernel) (by decide +kernel)
theorem fl_X12_115 : zFl RX12 115 11 47 := ⟨RX12, TX12, 80, rfl, in_X12, by decide, fw_X12_115⟩
theorem fq_X12_115 : zPl RX12 115 11 47 (.array .int) true := ⟨RX12, TX12, 80, tyX12, rfl, in_X12, by decide, fw_X12_115, tyX12_ok, nmX12, tyX12_ok 47 (by decide), rfl, fun _ => rfl⟩
theorem fw_X12_118 : Cond.fieldLink RX12 118 (TX12 50).1 (TX12 50).2.1 (TX12 50).2.2.1 ∈ zw := zw_7 54 (by decide +kernel) (by decide +kernel)
theorem fl_X12_118 : zFl RX12 118 11 50 := ⟨RX12, TX12, 80, rfl, in_X12, by decide, fw_X12_118⟩
theorem fq_X12_118 : zPl RX12 118 11 50 (.array .int) true := ⟨RX12, TX12, 80, tyX12, rfl, in_X12, by decide, fw_X12_118, tyX12_ok, nmX12, tyX12_ok 50 (by decide), rfl, fun _ => rfl⟩
theorem fw_X12_121 : Cond.fieldLink RX12 121 (TX12 51).1 (TX12 51).2.1 (TX12 51).2.2.1 ∈ zw := zw_7 55 (by decide +kernel) (by decide +kernel)
theorem fl_X12_121 : zFl RX12 121 11 51 := ⟨RX12, TX12, 80, rfl, in_X12, by decide, fw_X12_121⟩
theorem fq_X12_121 : zPl RX12 121 11 51 (.array .int) true := ⟨RX12, TX12, 80, tyX12, rfl, in_X12, by decide, fw_X12_121, tyX12_ok, nmX12, tyX12_ok 51 (by decide), rfl, fun _ => rfl⟩
theorem fw_X12_124 : Cond.fieldLink RX12 124 (TX12 52).1 (TX12 52).2.1 (TX12 52).2.2.1 ∈ zw := zw_7 56 (by decide +kernel) (by decide +kernel)
theorem fl_X12_124 : zFl RX12 124 11 52 := ⟨RX12, TX12, 80, rfl, in_X12, by decide, fw_X12_124⟩
theorem fq_X12_124 : zPl RX12 124 11 52 (.array .int) true := ⟨RX12, TX12, 80, tyX12, rfl, in_X12, by decide, fw_X12_124, tyX12_ok, nmX12, tyX12_ok 52 (by decide), rfl, fun _ => rfl⟩
theorem fw_X12_127 : Cond.fieldLink RX12 127 (TX12 53).1 (TX12 53).2.1 (TX12 53).2.2.1 ∈ zw := zw_7 57 (by decide +kernel) (by decide +kernel)
theorem fl_X12_127 : zFl RX12 127 11 53 := ⟨RX12, TX12, 80, rfl, in_X12, by decide, fw_X12_127⟩
theorem fq_X12_127 : zPl RX12 127 11 53 (.array .int) true := ⟨RX12, TX12, 80, tyX12, rfl, in_X12, by decide, fw_X12_127, tyX12_ok, nmX12, tyX12_ok 53 (by decide), rfl, fun _ => rfl⟩
theorem fw_X12_130 : Cond.fieldLink RX12 130 (TX12 54).1 (TX12 54).2.1 (TX12 54).2.2.1 ∈ zw := zw_7 58 (by decide +kernel) (by decide +kernel)
theorem fl_X12_130 : zFl RX12 130 11 54 := ⟨RX12, TX12, 80, rfl, in_X12, by decide, fw_X12_130⟩
theorem fq_X12_130 : zPl RX12 130 11 54 (.array .int) true := ⟨RX12, TX12, 80, tyX12, rfl, in_X12, by decide, fw_X12_130, tyX12_ok, nmX12, tyX12_ok 54 (by decide), rfl, fun _ => rfl⟩
theorem fw_X12_133 : Cond.fieldLink RX12 133 (TX12 55).1 (TX12 55).2.1 (TX12 55).2.2.1 ∈ zw := zw_7 59 (by decide +kernel) (by decide +kernel)
theorem fl_X12_133 : zFl RX12 133 11 55 := ⟨RX12, TX12, 80, rfl, in_X12, by decide, fw_X12_133⟩
theorem fq_X12_133 : zPl RX12 133 11 55 (.array .int) true := ⟨RX12, TX12, 80, tyX12, rfl, in_X12, by decide, fw_X12_133, tyX12_ok, nmX12, tyX12_ok 55 (by decide), rfl, fun _ => rfl⟩
theorem fw_X12_136 : Cond.fieldLink RX12 136 (TX12 56).1 (TX12 56).2.1 (TX12 56).2.2.1 ∈ zw := zw_7 60 (by decide +kernel) (by decide +kernel)
theorem fl_X12_136 : zFl RX12 136 11 56 := ⟨RX12, TX12, 80, rfl, in_X12, by decide, fw_X12_136⟩
theorem fq_X12_136 : zPl RX12 136 11 56 (.array .int) true := ⟨RX12, TX12, 80, tyX12, rfl, in_X12, by decide, fw_X12_136, tyX12_ok, nmX12, tyX12_ok 56 (by decide), rfl, fun _ => rfl⟩
theorem fw_X12_139 : Cond.fieldLink RX12 139 (TX12 57).1 (TX12 57).2.1 (TX12 57).2.2.1 ∈ zw := zw_7 61 (by decide +kernel) (by decide +kernel)
theorem fl_X12_139 : zFl RX12 139 11 57 := ⟨RX12, TX12, 80, rfl, in_X12, by decide, fw_X12_139⟩
theorem fq_X12_139 : zPl RX12 139 11 57 (.array .int) true := ⟨RX12, TX12, 80, tyX12, rfl, in_X12, by decide, fw_X12_139, tyX12_ok, nmX12, tyX12_ok 57 (by decide), rfl, fun _ => rfl⟩
theorem fw_X12_142 : Cond.fieldLink RX12 142 (TX12 58).1 (TX12 58).2.1 (TX12 58).2.2.1 ∈ zw := zw_7 62 (by decide +kernel) (by decide +kernel)
theorem fl_X12_142 : zFl RX12 142 11 58 := ⟨RX12, TX12, 80, rfl, in_X12, by decide, fw_X12_142⟩
theorem fq_X12_142 : zPl RX12 142 11 58 (.array .int) true := ⟨RX12, TX12, 80, tyX12, rfl, in_X12, by decide, fw_X12_142, tyX12_ok, nmX12, tyX12_ok 58 (by decide), rfl, fun _ => rfl⟩
theorem fw_X12_145 : Cond.fieldLink RX12 145 (TX12 59).1 (TX12 59).2.1 (TX12 59).2.2.1 ∈ zw := zw_7 63 (by decide +kernel) (by decide +kernel)
theorem fl_X12_145 : zFl RX12 145 11 59 := ⟨RX12, TX12, 80, rfl, in_X12, by decide, fw_X12_145⟩
theorem fq_X12_145 : zPl RX12 145 11 59 (.array .int) true := ⟨RX12, TX12, 80, tyX12, rfl, in_X12, by decide, fw_X12_145, tyX12_ok, nmX12, tyX12_ok 59 (by decide), rfl, fun _ => rfl⟩
theorem fw_X12_148 : Cond.fieldLink RX12 148 (TX12 60).1 (TX12 60).2.1 (TX12 60).2.2.1 ∈ zw := zw_7 64 (by decide +kernel) (by decide +kernel)
theorem fl_X12_148 : zFl RX12 148 11 60 := ⟨RX12, TX12, 80, rfl, in_X12, by decide, fw_X12_148⟩
theorem fq_X12_148 : zPl RX12 148 11 60 (.array .int) true := ⟨RX12, TX12, 80, tyX12, rfl, in_X12, by decide, fw_X12_148, tyX12_ok, nmX12, tyX12_ok 60 (by decide), rfl, fun _ => rfl⟩
theorem fw_X12_151 : Cond.fieldLink RX12 151 (TX12 61).1 (TX12 61).2.1 (TX12 61).2.2.1 ∈ zw := zw_7 65 (by decide +kernel) (by decide +kernel)
theorem fl_X12_151 : zFl RX12 151 11 61 := ⟨RX12, TX12, 80, rfl, in_X12, by decide, fw_X12_151⟩
theorem fq_X12_151 : zPl RX12 151 11 61 (.array .int) true := ⟨RX12, TX12, 80, tyX12, rfl, in_X12, by decide, fw_X12_151, tyX12_ok, nmX12, tyX12_ok 61 (by decide), rfl, fun _ => rfl⟩
theorem fw_X12_154 : Cond.fieldLink RX12 154 (TX12 62).1 (TX12 62).2.1 (TX12 62).2.2.1 ∈ zw := zw_7 66 (by decide +kernel) (by decide +kernel)
theorem fl_X12_154 : zFl RX12 154 11 62 := ⟨RX12, TX12, 80, rfl, in_X12, by decide, fw_X12_154⟩
theorem fq_X12_154 : zPl RX12 154 11 62 (.array .int) true := ⟨RX12, TX12, 80, tyX12, rfl, in_X12, by decide, fw_X12_154, tyX12_ok, nmX12, tyX12_ok 62 (by decide), rfl, fun _ => rfl⟩
theorem fw_X12_157 : Cond.fieldLink RX12 157 (TX12 63).1 (TX12 63).2.1 (TX12 63).2.2.1 ∈ zw := zw_7 67 (by decide +kernel) (by decide +kernel)
theorem fl_X12_157 : zFl RX12 157 11 63 := ⟨RX12, TX12, 80, rfl, in_X12, by decide, fw_X12_157⟩
theorem fq_X12_157 : zPl RX12 157 11 63 (.array .int) true := ⟨RX12, TX12, 80, tyX12, rfl, in_X12, by decide, fw_X12_157, tyX12_ok, nmX12, tyX12_ok 63 (by decide), rfl, fun _ => rfl⟩
theorem fw_X12_160 : Cond.fieldLink RX12 160 (TX12 64).1 (TX12 64).2.1 (TX12 64).2.2.1 ∈ zw := zw_7 68 (by decide +kernel) (by decide +kernel)
theorem fl_X12_160 : zFl RX12 160 11 64 := ⟨RX12, TX12, 80, rfl, in_X12, by decide, fw_X12_160⟩
theorem fq_X12_160 : zPl RX12 160 11 64 (.array .int) true := ⟨RX12, TX12, 80, tyX12, rfl, in_X12, by decide, fw_X12_160, tyX12_ok, nmX12, tyX12_ok 64 (by decide), rfl, fun _ => rfl⟩
theorem fw_X12_163 : Cond.fieldLink RX12 163 (TX12 65).1 (TX12 65).2.1 (TX12 65).2.2.1 ∈ zw := zw_7 69 (by decide +kernel) (by decide +kernel)
theorem fl_X12_163 : zFl RX12 163 11 65 := ⟨RX12, TX12, 80, rfl, in_X12, by decide, fw_X12_163⟩
theorem fq_X12_163 : zPl RX12 163 11 65 (.array .boolean) true := ⟨RX12, TX12, 80, tyX12, rfl, in_X12, by decide, fw_X12_163, tyX12_ok, nmX12, tyX12_ok 65 (by decide), rfl, fun _ => rfl⟩
theorem fw_X12_166 : Cond.fieldLink RX12 166 (TX12 68).1 (TX12 68).2.1 (TX12 68).2.2.1 ∈ zw := zw_7 72 (by decide +kernel) (by decide +kernel)
theorem fl_X12_166 : zFl RX12 166 11 68 := ⟨RX12, TX12, 80, rfl, in_X12, by decide, fw_X12_166⟩
theorem fq_X12_166 : zPl RX12 166 11 68 (.array .int) true := ⟨RX12, TX12, 80, tyX12, rfl, in_X12, by decide, fw_X12_166, tyX12_ok, nmX12, tyX12_ok 68 (by decide), rfl, fun _ => rfl⟩
theorem fw_X12_169 : Cond.fieldLink RX12 169 (TX12 69).1 (TX12 69).2.1 (TX12 69).2.2.1 ∈ zw := zw_7 73 (by decide +kernel) (by decide +kernel)
theorem fl_X12_169 : zFl RX12 169 11 69 := ⟨RX12, TX12, 80, rfl, in_X12, by decide, fw_X12_169⟩
theorem fq_X12_169 : zPl RX12 169 11 69 (.array .int) true := ⟨RX12, TX12, 80, tyX12, rfl, in_X12, by decide, fw_X12_169, tyX12_ok, nmX12, tyX12_ok 69 (by decide), rfl, fun _ => rfl⟩
theorem fw_X12_172 : Cond.fieldLink RX12 172 (TX12 70).1 (TX12 70).2.1 (TX12 70).2.2.1 ∈ zw := zw_7 74 (by decide +kernel) (by decide +kernel)
theorem fl_X12_172 : zFl RX12 172 11 70 := ⟨RX12, TX12, 80, rfl, in_X12, by decide, fw_X12_172⟩
theorem fq_X12_172 : zPl RX12 172 11 70 (.array .int) true := ⟨RX12, TX12, 80, tyX12, rfl, in_X12, by decide, fw_X12_172, tyX12_ok, nmX12, tyX12_ok 70 (by decide), rfl, fun _ => rfl⟩
theorem fw_X12_175 : Cond.fieldLink RX12 175 (TX12 71).1 (TX12 71).2.1 (TX12 71).2.2.1 ∈ zw := zw_7 75 (by decide +kernel) (by decide +kernel)
theorem fl_X12_175 : zFl RX12 175 11 71 := ⟨RX12, TX12, 80, rfl, in_X12, by decide, fw_X12_175⟩
theorem fq_X12_175 : zPl RX12 175 11 71 (.array .int) true := ⟨RX12, TX12, 80, tyX12, rfl, in_X12, by decide, fw_X12_175, tyX12_ok, nmX12, tyX12_ok 71 (by decide), rfl, fun _ => rfl⟩
theorem fw_X12_178 : Cond.fieldLink RX12 178 (TX12 72).1 (TX12 72).2.1 (TX12 72).2.2.1 ∈ zw := zw_7 76 (by decide +kernel) (by decide +kernel)
theorem fl_X12_178 : zFl RX12 178 11 72 := ⟨RX12, TX12, 80, rfl, in_X12, by decide, fw_X12_178⟩
theorem fq_X12_178 : zPl RX12 178 11 72 (.array .int) true := ⟨RX12, TX12, 80, tyX12, rfl, in_X12, by decide, fw_X12_178, tyX12_ok, nmX12, tyX12_ok 72 (by decide), rfl, fun _ => rfl⟩
theorem fw_X12_181 : Cond.fieldLink RX12 181 (TX12 73).1 (TX12 73).2.1 (TX12 73).2.2.1 ∈ zw := zw_7 77 (by decide +kernel) (by decide +kernel)
theorem fl_X12_181 : zFl RX12 181 11 73 := ⟨RX12, TX12, 80, rfl, in_X12, by decide, fw_X12_181⟩
theorem fq_X12_181 : zPl RX12 181 11 73 (.array .int) true := ⟨RX12, TX12, 80, tyX12, rfl, in_X12, by decide, fw_X12_181, tyX12_ok, nmX12, tyX12_ok 73 (by decide), rfl, fun _ => rfl⟩
theorem fw_X12_184 : Cond.fieldLink RX12 184 (TX12 74).1 (TX12 74).2.1 (TX12 74).2.2.1 ∈ zw := zw_7 78 (by decide +kernel) (by decide +kernel)
theorem fl_X12_184 : zFl RX12 184 11 74 := ⟨RX12, TX12, 80, rfl, in_X12, by decide, fw_X12_184⟩
theorem fq_X12_184 : zPl RX12 184 11 74 (.array .int) true := ⟨RX12, TX12, 80, tyX12, rfl, in_X12, by decide, fw_X12_184, tyX12_ok, nmX12, tyX12_ok 74 (by decide), rfl, fun _ => rfl⟩
theorem fw_X12_187 : Cond.fieldLink RX12 187 (TX12 75).1 (TX12 75).2.1 (TX12 75).2.2.1 ∈ zw := zw_7 79 (by decide +kernel) (by decide +kernel)
theorem fl_X12_187 : zFl RX12 187 11 75 := ⟨RX12, TX12, 80, rfl, in_X12, by decide, fw_X12_187⟩
theorem fq_X12_187 : zPl RX12 187 11 75 (.array .int) true := ⟨RX12, TX12, 80, tyX12, rfl, in_X12, by decide, fw_X12_187, tyX12_ok, nmX12, tyX12_ok 75 (by decide), rfl, fun _ => rfl⟩
theorem fw_X12_190 : Cond.fieldLink RX12 190 (TX12 77).1 (TX12 77).2.1 (TX12 77).2.2.1 ∈ zw := zw_7 81 (by decide +kernel) (by decide +kernel)
theorem fl_X12_190 : zFl RX12 190 11 77 := ⟨RX12, TX12, 80, rfl, in_X12, by decide, fw_X12_190⟩
theorem fq_X12_190 : zPl RX12 190 11 77 (.array .int) true := ⟨RX12, TX12, 80, tyX12, rfl, in_X12, by decide, fw_X12_190, tyX12_ok, nmX12, tyX12_ok 77 (by decide), rfl, fun _ => rfl⟩
theorem fw_X12_193 : Cond.fieldLink RX12 193 (TX12 78).1 (TX12 78).2.1 (TX12 78).2.2.1 ∈ zw := zw_7 82 (by decide +kernel) (by decide +kernel)
theorem fl_X12_193 : zFl RX12 193 11 78 := ⟨RX12, TX12, 80, rfl, in_X12, by decide, fw_X12_193⟩
theorem fq_X12_193 : zPl RX12 193 11 78 (.array .int) true := ⟨RX12, TX12, 80, tyX12, rfl, in_X12, by decide, fw_X12_193, tyX12_ok, nmX12, tyX12_ok 78 (by decide), rfl, fun _ => rfl⟩
theorem fw_X12_196 : Cond.fieldLink RX12 196 (TX12 79).1 (TX12 79).2.1 (TX12 79).2.2.1 ∈ zw := zw_7 83 (by decide +kernel) (by decide +kernel)
theorem fl_X12_196 : zFl RX12 196 11 79 := ⟨RX12, TX12, 80, rfl, in_X12, by decide, fw_X12_196⟩
theorem fq_X12_196 : zPl RX12 196 11 79 (.array .int) true := ⟨RX12, TX12, 80, tyX12, rfl, in_X12, by decide, fw_X12_196, tyX12_ok, nmX12, tyX12_ok 79 (by decide), rfl, fun _ => rfl⟩
theorem fw_X12_199 : Cond.fieldLink RX12 199 (TX12 0).1 (TX12 0).2.1 (TX12 0).2.2.1 ∈ zw := zw_7 4 (by decide +kernel) (by decide +kernel)
theorem fl_X12_199 : zFl RX12 199 11 0 := ⟨RX12, TX12, 80, rfl, in_X12, by decide, fw_X12_199⟩
theorem fq_X12_199 : zPl RX12 199 11 0 .int false := ⟨RX12, TX12, 80, tyX12, rfl, in_X12, by decide, fw_X12_199, tyX12_ok, nmX12, tyX12_ok 0 (by decide), rfl, fun h => nomatch h⟩
theorem fw_X12_202 : Cond.fieldLink RX12 202 (TX12 1).1 (TX12 1).2.1 (TX12 1).2.2.1 ∈ zw := zw_7 5 (by decide +kernel) (by decide +kernel)
theorem fl_X12_202 : zFl RX12 202 11 1 := ⟨RX12, TX12, 80, rfl, in_X12, by decide, fw_X12_202⟩
theorem fq_X12_202 : zPl RX12 202 11 1 .int false := ⟨RX12, TX12, 80, tyX12, rfl, in_X12, by decide, fw_X12_202, tyX12_ok, nmX12, tyX12_ok 1 (by decide), rfl, fun h => nomatch h⟩
theorem fw_X12_209 : Cond.fieldLink RX12 209 (TX12 2).1 (TX12 2).2.1 (TX12 2).2.2.1 ∈ zw := zw_7 6 (by decide +kernel) (by decide +kernel)
theorem fl_X12_209 : zFl RX12 209 11 2 := ⟨RX12, TX12, 80, rfl, in_X12, by decide, fw_X12_209⟩
theorem fq_X12_209 : zPl RX12 209 11 2 .int false := ⟨RX12, TX12, 80, tyX12, rfl, in_X12, by decide, fw_X12_209, tyX12_ok, nmX12, tyX12_ok 2 (by decide), rfl, fun h => nomatch h⟩
theorem fw_X12_222 : Cond.fieldLink RX12 222 (TX12 3).1 (TX12 3).2.1 (TX12 3).2.2.1 ∈ zw := zw_7 7 (by decide +kernel) (by decide +kernel)
theorem fl_X12_222 : zFl RX12 222 11 3 := ⟨RX12, TX12, 80, rfl, in_X12, by decide, fw_X12_222⟩
theorem fq_X12_222 : zPl RX12 222 11 3 .int false := ⟨RX12, TX12, 80, tyX12, rfl, in_X12, by decide, fw_X12_222, tyX12_ok, nmX12, tyX12_ok 3 (by decide), rfl, fun h => nomatch h⟩
theorem fw_X12_226 : Cond.fieldLink RX12 226 (TX12 6).1 (TX12 6).2.1 (TX12 6).2.2.1 ∈ zw := zw_7 10 (by decide +kernel) (by decide +kernel)
theorem fl_X12_226 : zFl RX12 226 11 6 := ⟨RX12, TX12, 80, rfl, in_X12, by decide, fw_X12_226⟩
theorem fq_X12_226 : zPl RX12 226 11 6 .int false := ⟨RX12, TX12, 80, tyX12, rfl, in_X12, by decide, fw_X12_226, tyX12_ok, nmX12, tyX12_ok 6 (by decide), rfl, fun h => nomatch h⟩
theorem fw_X12_229 : Cond.fieldLink RX12 229 (TX12 7).1 (TX12 7).2.1 (TX12 7).2.2.1 ∈ zw := zw_7 11 (by decide +kernel) (by decide +kernel)
theorem fl_X12_229 : zFl RX12 229 11 7 := ⟨RX12, TX12, 80, rfl, in_X12, by decide, fw_X12_229⟩
theorem fq_X12_229 : zPl RX12 229 11 7 .int false := ⟨RX12, TX12, 80, tyX12, rfl, in_X12, by decide, fw_X12_229, tyX12_ok, nmX12, tyX12_ok 7 (by decide), rfl, fun h => nomatch h⟩
theorem fw_X12_232 : Cond.fieldLink RX12 232 (TX12 8).1 (TX12 8).2.1 (TX12 8).2.2.1 ∈ zw := zw_7 12 (by decide +kernel) (by decide +kernel)
theorem fl_X12_232 : zFl RX12 232 11 8 := ⟨RX12, TX12, 80, rfl, in_X12, by decide, fw_X12_232⟩
theorem fq_X12_232 : zPl RX12 232 11 8 .int false := ⟨RX12, TX12, 80, tyX12, rfl, in_X12, by decide, fw_X12_232, tyX12_ok, nmX12, tyX12_ok 8 (by decide), rfl, fun h => nomatch h⟩
theorem fw_X12_239 : Cond.fieldLink RX12 239 (TX12 9).1 (TX12 9).2.1 (TX12 9).2.2.1 ∈ zw := zw_7 13 (by decide +kernel) (by decide +kernel)
theorem fl_X12_239 : zFl RX12 239 11 9 := ⟨RX12, TX12, 80, rfl, in_X12, by decide, fw_X12_239⟩
theorem fq_X12_239 : zPl RX12 239 11 9 .int false := ⟨RX12, TX12, 80, tyX12, rfl, in_X12, by decide, fw_X12_239, tyX12_ok, nmX12, tyX12_ok 9 (by decide), rfl, fun h => nomatch h⟩
theorem fw_X12_305 : Cond.fieldLink RX12 305 (TX12 21).1 (TX12 21).2.1 (TX12 21).2.2.1 ∈ zw := zw_7 25 (by decide +kernel) (by decide +kernel)
theorem fl_X12_305 : zFl RX12 305 11 21 := ⟨RX12, TX12, 80, rfl, in_X12, by decide, fw_X12_305⟩
theorem fq_X12_305 : zPl RX12 305 11 21 .int false := ⟨RX12, TX12, 80, tyX12, rfl, in_X12, by decide, fw_X12_305, tyX12_ok, nmX12, tyX12_ok 21 (by decide), rfl, fun h => nomatch h⟩
theorem fw_X12_324 : Cond.fieldLink RX12 324 (TX12 12).1 (TX12 12).2.1 (TX12 12).2.2.1 ∈ zw := zw_7 16 (by decide +kernel) (by decide +kernel)
theorem fl_X12_324 : zFl RX12 324 11 12 := ⟨RX12, TX12, 80, rfl, in_X12, by decide, fw_X12_324⟩
theorem fq_X12_324 : zPl RX12 324 11 12 .int false := ⟨RX12, TX12, 80, tyX12, rfl, in_X12, by decide, fw_X12_324, tyX12_ok, nmX12, tyX12_ok 12 (by decide), rfl, fun h => nomatch h⟩
theorem fw_X12_361 : Cond.fieldLink RX12 361 (TX12 11).1 (TX12 11).2.1 (TX12 11).2.2.1 ∈ zw := zw_7 15 (by decide +kernel) (by decide +kernel)
theorem fl_X12_361 : zFl RX12 361 11 11 := ⟨RX12, TX12, 80, rfl, in_X12, by decide, fw_X12_361⟩
theorem fq_X12_361 : zPl RX12 361 11 11 .int false := ⟨RX12, TX12, 80, tyX12, rfl, in_X12, by decide, fw_X12_361, tyX12_ok, nmX12, tyX12_ok 11 (by decide), rfl, fun h => nomatch h⟩
theorem fw_X12_368 : Cond.fieldLink RX12 368 (TX12 23).1 (TX12 23).2.1 (TX12 23).2.2.1 ∈ zw := zw_7 27 (by decide +kernel) (by decide +kernel)
theorem fl_X12_368 : zFl RX12 368 11 23 := ⟨RX12, TX12, 80, rfl, in_X12, by decide, fw_X12_368⟩
theorem fq_X12_368 : zPl RX12 368 11 23 .int false := ⟨RX12, TX12, 80, tyX12, rfl, in_X12, by decide, fw_X12_368, tyX12_ok, nmX12, tyX12_ok 23 (by decide), rfl, fun h => nomatch h⟩
theorem fw_X12_414 : Cond.fieldLink RX12 414 (TX12 41).1 (TX12 41).2.1 (TX12 41).2.2.1 ∈ zw := zw_7 45 (by decide +kernel) (by decide +kernel)
theorem fl_X12_414 : zFl RX12 414 11 41 := ⟨RX12, TX12, 80, rfl, in_X12, by decide, fw_X12_414⟩
theorem fq_X12_414 : zPl RX12 414 11 41 .int false := ⟨RX12, TX12, 80, tyX12, rfl, in_X12, by decide, fw_X12_414, tyX12_ok, nmX12, tyX12_ok 41 (by decide), rfl, fun h => nomatch h⟩
theorem fw_X12_427 : Cond.fieldLink RX12 427 (TX12 48).1 (TX12 48).2.1 (TX12 48).2.2.1 ∈ zw := zw_7 52 (by decide +kernel) (by decide +kernel)
theorem fl_X12_427 : zFl RX12 427 11 48 := ⟨RX12, TX12, 80, rfl, in_X12, by decide, fw_X12_427⟩
theorem fq_X12_427 : zPl RX12 427 11 48 .int false := ⟨RX12, TX12, 80, tyX12, rfl, in_X12, by decide, fw_X12_427, tyX12_ok, nmX12, tyX12_ok 48 (by decide), rfl, fun h => nomatch h⟩
theorem fw_X12_430 : Cond.fieldLink RX12 430 (TX12 49).1 (TX12 49).2.1 (TX12 49).2.2.1 ∈ zw := zw_7 53 (by decide +kernel) (by decide +kernel)
theorem fl_X12_430 : zFl RX12 430 11 49 := ⟨RX12, TX12, 80, rfl, in_X12, by decide, fw_X12_430⟩
theorem fq_X12_430 : zPl RX12 430 11 49 .int false := ⟨RX12, TX12, 80, tyX12, rfl, in_X12, by decide, fw_X12_430, tyX12_ok, nmX12, tyX12_ok 49 (by decide), rfl, fun h => nomatch h⟩
theorem fw_X12_465 : Cond.fieldLink RX12 465 (TX12 66).1 (TX12 66).2.1 (TX12 66).2.2.1 ∈ zw := zw_7 70 (by decide +kernel) (by decide +kernel)
theorem fl_X12_465 : zFl RX12 465 11 66 := ⟨RX12, TX12, 80, rfl, in_X12, by decide, fw_X12_465⟩
theorem fq_X12_465 : zPl RX12 465 11 66 .int false := ⟨RX12, TX12, 80, tyX12, rfl, in_X12, by decide, fw_X12_465, tyX12_ok, nmX12, tyX12_ok 66 (by decide), rfl, fun h => nomatch h⟩
theorem fw_X12_468 : Cond.fieldLink RX12 468 (TX12 67).1 (TX12 67).2.1 (TX12 67).2.2.1 ∈ zw := zw_7 71 (by decide +kernel) (by decide +kernel)
theorem fl_X12_468 : zFl RX12 468 11 67 := ⟨RX12, TX12, 80, rfl, in_X12, by decide, fw_X12_468⟩
theorem fq_X12_468 : zPl RX12 468 11 67 .int false := ⟨RX12, TX12, 80, tyX12, rfl, in_X12, by decide, fw_X12_468, tyX12_ok, nmX12, tyX12_ok 67 (by decide), rfl, fun h => nomatch h⟩
theorem fw_X12_490 : Cond.fieldLink RX12 490 (TX12 76).1 (TX12 76).2.1 (TX12 76).2.2.1 ∈ zw := zw_7 80 (by decide +kernel) (by decide +kernel)
theorem fl_X12_490 : zFl RX12 490 11 76 := ⟨RX12, TX12, 80, rfl, in_X12, by decide, fw_X12_490⟩
theorem fq_X12_490 : zPl RX12 490 11 76 .int false := ⟨RX12, TX12, 80, tyX12, rfl, in_X12, by decide, fw_X12_490, tyX12_ok, nmX12, tyX12_ok 76 (by decide), rfl, fun h => nomatch h⟩
theorem fw_Jx4a65c_9 : Cond.fieldLink RJx4a65c 9 (TJx4a65c 1).1 (TJx4a65c 1).2.1 (TJx4a65c 1).2.2.1 ∈ zw := zw_1 55 (by decide +kernel) (by decide +kernel)
theorem fl_Jx4a65c_9 : zFl RJx4a65c 9 0 1 := ⟨RJx4a65c, TJx4a65c, 3, rfl, in_Jx4a65c, by decide, fw_Jx4a65c_9⟩
theorem fq_Jx4a65c_9 : zPl RJx4a65c 9 0 1 (.array (.object "java/lang/Object")) false := ⟨RJx4a65c, TJx4a65c, 3, tyJx4a65c, rfl, in_Jx4a65c, by decide, fw_Jx4a65c_9, tyJx4a65c_ok, nmJx4a65c, tyJx4a65c_ok 1 (by decide), rfl, fun h => nomatch h⟩
theorem fw_Jx4a65c_48 : Cond.fieldLink RJx4a65c 48 (TJx4a65c 2).1 (TJx4a65c 2).2.1 (TJx4a65c 2).2.2.1 ∈ zw := zw_1 56 (by decide +kernel) (by decide +kernel)
theorem fl_Jx4a65c_48 : zFl RJx4a65c 48 0 2 := ⟨RJx4a65c, TJx4a65c, 3, rfl, in_Jx4a65c, by decide, fw_Jx4a65c_48⟩
theorem fq_Jx4a65c_48 : zPl RJx4a65c 48 0 2 .int false := ⟨RJx4a65c, TJx4a65c, 3, tyJx4a65c, rfl, in_Jx4a65c, by decide, fw_Jx4a65c_48, tyJx4a65c_ok, nmJx4a65c, tyJx4a65c_ok 2 (by decide), rfl, fun h => nomatch h⟩
theorem lc_Jx4a65c_init_da8c8 : Cond.code yJx4a65c_init_da8c8 cJx4a65c_init_da8c8 1 none ∈ zw := zw_1 45 (by decide +kernel) (by decide +kernel)
theorem li_Jx4a65c_init_da8c8 : Cond.instanceMethod yJx4a65c_init_da8c8 ∈ zw := zw_1 44 (by decide +kernel) (by decide +kernel)
theorem lk_X11_9 : zLk RX11 9 yJx4a65c_init_da8c8 cJx4a65c_init_da8c8 1 none 0 := ⟨lc_Jx4a65c_init_da8c8, zw_1 4 (by decide +kernel) (by decide +kernel), by decide +kernel, zw_1 43 (by decide +kernel) (by decide +kernel)⟩
theorem lc_X6_init : Cond.code yX6_init cX6_init 2 none ∈ zw := zw_1 125 (by decide +kernel) (by decide +kernel)
theorem li_X6_init : Cond.instanceMethod yX6_init ∈ zw := zw_1 124 (by decide +kernel) (by decide +kernel)
theorem lk_X11_55 : zLk RX11 55 yX6_init cX6_init 2 none 1 := ⟨lc_X6_init, zw_1 7 (by decide +kernel) (by decide +kernel), by decide +kernel, zw_1 123 (by decide +kernel) (by decide +kernel)⟩
theorem lc_X11_checkRoom : Cond.code yX11_checkRoom cX11_checkRoom 2 none ∈ zw := zw_2 99 (by decide +kernel) (by decide +kernel)
theorem ls_X11_checkRoom : Cond.static yX11_checkRoom ∈ zw := zw_2 98 (by decide +kernel) (by decide +kernel)
theorem lk_X11_73 : zLk RX11 73 yX11_checkRoom cX11_checkRoom 2 none 2 := ⟨lc_X11_checkRoom, zw_1 1 (by decide +kernel) (by decide +kernel), by decide +kernel, zw_2 97 (by decide +kernel) (by decide +kernel)⟩
theorem lc_X11_checkIndex : Cond.code yX11_checkIndex cX11_checkIndex 2 none ∈ zw := zw_2 177 (by decide +kernel) (by decide +kernel)
theorem ls_X11_checkIndex : Cond.static yX11_checkIndex ∈ zw := zw_2 176 (by decide +kernel) (by decide +kernel)
theorem lk_X11_77 : zLk RX11 77 yX11_checkIndex cX11_checkIndex 2 none 2 := ⟨lc_X11_checkIndex, zw_1 1 (by decide +kernel) (by decide +kernel), by decide +kernel, zw_2 175 (by decide +kernel) (by decide +kernel)⟩
theorem lc_Jx4a65c_size_8abf5 : Cond.code yJx4a65c_size_8abf5 cJx4a65c_size_8abf5 1 (some .int) ∈ zw := zw_2 80 (by decide +kernel) (by decide +kernel)
theorem li_Jx4a65c_size_8abf5 : Cond.instanceMethod yJx4a65c_size_8abf5 ∈ zw := zw_2 78 (by decide +kernel) (by decide +kernel)
theorem le_Jx4a65c_size_8abf5 : Cond.selects yJx4a65c_size_8abf5.cls yJx4a65c_size_8abf5 yJx4a65c_size_8abf5 ∈ zw := zw_2 79 (by decide +kernel) (by decide +kernel)
theorem lk_X11_80 : zLk RX11 80 yJx4a65c_size_8abf5 cJx4a65c_size_8abf5 1 (some .int) 0 := ⟨lc_Jx4a65c_size_8abf5, zw_1 4 (by decide +kernel) (by decide +kernel), by decide +kernel, zw_2 77 (by decide +kernel) (by decide +kernel)⟩
theorem lc_X8_init : Cond.code yX8_init cX8_init 3 none ∈ zw := zw_2 198 (by decide +kernel) (by decide +kernel)
theorem li_X8_init : Cond.instanceMethod yX8_init ∈ zw := zw_2 197 (by decide +kernel) (by decide +kernel)
theorem lk_X11_86 : zLk RX11 86 yX8_init cX8_init 3 none 2 := ⟨lc_X8_init, zw_1 17 (by decide +kernel) (by decide +kernel), by decide +kernel, zw_2 196 (by decide +kernel) (by decide +kernel)⟩
theorem lc_Jx4a65c_add_9ea2d : Cond.code yJx4a65c_add_9ea2d cJx4a65c_add_9ea2d 2 (some .boolean) ∈ zw := zw_2 222 (by decide +kernel) (by decide +kernel)
theorem li_Jx4a65c_add_9ea2d : Cond.instanceMethod yJx4a65c_add_9ea2d ∈ zw := zw_2 220 (by decide +kernel) (by decide +kernel)
theorem le_Jx4a65c_add_9ea2d : Cond.selects yJx4a65c_add_9ea2d.cls yJx4a65c_add_9ea2d yJx4a65c_add_9ea2d ∈ zw := zw_2 221 (by decide +kernel) (by decide +kernel)
theorem lk_X11_88 : zLk RX11 88 yJx4a65c_add_9ea2d cJx4a65c_add_9ea2d 2 (some .boolean) 1 := ⟨lc_Jx4a65c_add_9ea2d, zw_1 4 (by decide +kernel) (by decide +kernel), by decide +kernel, zw_2 219 (by decide +kernel) (by decide +kernel)⟩
theorem lc_X11_wallAt : Cond.code yX11_wallAt cX11_wallAt 2 (some (.object "PartyWalls$Wall")) ∈ zw := zw_3 53 (by decide +kernel) (by decide +kernel)
theorem li_X11_wallAt : Cond.instanceMethod yX11_wallAt ∈ zw := zw_3 52 (by decide +kernel) (by decide +kernel)
theorem le_X11_wallAt : Cond.selects yX11_wallAt.cls yX11_wallAt yX11_wallAt ∈ zw := zw_0 5 (by decide +kernel) (by decide +kernel)
theorem lk_X11_92 : zLk RX11 92 yX11_wallAt cX11_wallAt 2 (some (.object "PartyWalls$Wall")) 1 := ⟨lc_X11_wallAt, zw_1 1 (by decide +kernel) (by decide +kernel), by decide +kernel, zw_3 50 (by decide +kernel) (by decide +kernel)⟩
theorem lc_X11_checkSide : Cond.code yX11_checkSide cX11_checkSide 1 none ∈ zw := zw_3 71 (by decide +kernel) (by decide +kernel)
theorem ls_X11_checkSide : Cond.static yX11_checkSide ∈ zw := zw_3 70 (by decide +kernel) (by decide +kernel)
theorem lk_X11_96 : zLk RX11 96 yX11_checkSide cX11_checkSide 1 none 1 := ⟨lc_X11_checkSide, zw_1 1 (by decide +kernel) (by decide +kernel), by decide +kernel, zw_3 69 (by decide +kernel) (by decide +kernel)⟩
theorem lc_X8_ownerOf : Cond.code yX8_ownerOf cX8_ownerOf 2 (some .int) ∈ zw := zw_3 94 (by decide +kernel) (by decide +kernel)
theorem li_X8_ownerOf : Cond.instanceMethod yX8_ownerOf ∈ zw := zw_3 92 (by decide +kernel) (by decide +kernel)
theorem le_X8_ownerOf : Cond.selects yX8_ownerOf.cls yX8_ownerOf yX8_ownerOf ∈ zw := zw_3 93 (by decide +kernel) (by decide +kernel)
theorem lk_X11_100 : zLk RX11 100 yX8_ownerOf cX8_ownerOf 2 (some .int) 1 := ⟨lc_X8_ownerOf, zw_1 17 (by decide +kernel) (by decide +kernel), by decide +kernel, zw_3 91 (by decide +kernel) (by decide +kernel)⟩
theorem lc_X8_giveTo : Cond.code yX8_giveTo cX8_giveTo 3 none ∈ zw := zw_3 98 (by decide +kernel) (by decide +kernel)
theorem li_X8_giveTo : Cond.instanceMethod yX8_giveTo ∈ zw := zw_3 96 (by decide +kernel) (by decide +kernel)
theorem le_X8_giveTo : Cond.selects yX8_giveTo.cls yX8_giveTo yX8_giveTo ∈ zw := zw_3 97 (by decide +kernel) (by decide +kernel)
theorem lk_X11_104 : zLk RX11 104 yX8_giveTo cX8_giveTo 3 none 2 := ⟨lc_X8_giveTo, zw_1 17 (by decide +kernel) (by decide +kernel), by decide +kernel, zw_3 95 (by decide +kernel) (by decide +kernel)⟩
theorem lc_X11_checkRange : Cond.code yX11_checkRange cX11_checkRange 3 none ∈ zw := zw_3 74 (by decide +kernel) (by decide +kernel)
theorem ls_X11_checkRange : Cond.static yX11_checkRange ∈ zw := zw_3 73 (by decide +kernel) (by decide +kernel)
theorem lk_X11_107 : zLk RX11 107 yX11_checkRange cX11_checkRange 3 none 3 := ⟨lc_X11_checkRange, zw_1 1 (by decide +kernel) (by decide +kernel), by decide +kernel, zw_3 72 (by decide +kernel) (by decide +kernel)⟩
theorem lc_X11_putOnTape : Cond.code yX11_putOnTape cX11_putOnTape 3 none ∈ zw := zw_2 64 (by decide +kernel) (by decide +kernel)
theorem li_X11_putOnTape : Cond.instanceMethod yX11_putOnTape ∈ zw := zw_2 63 (by decide +kernel) (by decide +kernel)
theorem le_X11_putOnTape : Cond.selects yX11_putOnTape.cls yX11_putOnTape yX11_putOnTape ∈ zw := zw_0 0 (by decide +kernel) (by decide +kernel)
theorem lk_X11_125 : zLk RX11 125 yX11_putOnTape cX11_putOnTape 3 none 1 := ⟨lc_X11_putOnTape, zw_1 1 (by decide +kernel) (by decide +kernel), by decide +kernel, zw_2 61 (by decide +kernel) (by decide +kernel)⟩
theorem lc_X6_readRule : Cond.code yX6_readRule cX6_readRule 4 (some (.object "PartyWalls$Rule")) ∈ zw := zw_3 118 (by decide +kernel) (by decide +kernel)
theorem li_X6_readRule : Cond.instanceMethod yX6_readRule ∈ zw := zw_3 116 (by decide +kernel) (by decide +kernel)
theorem le_X6_readRule : Cond.selects yX6_readRule.cls yX6_readRule yX6_readRule ∈ zw := zw_3 117 (by decide +kernel) (by decide +kernel)
theorem lk_X11_128 : zLk RX11 128 yX6_readRule cX6_readRule 4 (some (.object "PartyWalls$Rule")) 1 := ⟨lc_X6_readRule, zw_1 7 (by decide +kernel) (by decide +kernel), by decide +kernel, zw_3 115 (by decide +kernel) (by decide +kernel)⟩
theorem lc_X6_faultKind : Cond.code yX6_faultKind cX6_faultKind 1 (some .int) ∈ zw := zw_4 30 (by decide +kernel) (by decide +kernel)
theorem li_X6_faultKind : Cond.instanceMethod yX6_faultKind ∈ zw := zw_4 28 (by decide +kernel) (by decide +kernel)
theorem le_X6_faultKind : Cond.selects yX6_faultKind.cls yX6_faultKind yX6_faultKind ∈ zw := zw_4 29 (by decide +kernel) (by decide +kernel)
theorem lk_X11_132 : zLk RX11 132 yX6_faultKind cX6_faultKind 1 (some .int) 0 := ⟨lc_X6_faultKind, zw_1 7 (by decide +kernel) (by decide +kernel), by decide +kernel, zw_4 27 (by decide +kernel) (by decide +kernel)⟩
theorem lc_X6_faultPlace : Cond.code yX6_faultPlace cX6_faultPlace 1 (some .int) ∈ zw := zw_2 72 (by decide +kernel) (by decide +kernel)
theorem li_X6_faultPlace : Cond.instanceMethod yX6_faultPlace ∈ zw := zw_2 70 (by decide +kernel) (by decide +kernel)
theorem le_X6_faultPlace : Cond.selects yX6_faultPlace.cls yX6_faultPlace yX6_faultPlace ∈ zw := zw_2 71 (by decide +kernel) (by decide +kernel)
theorem lk_X11_138 : zLk RX11 138 yX6_faultPlace cX6_faultPlace 1 (some .int) 0 := ⟨lc_X6_faultPlace, zw_1 7 (by decide +kernel) (by decide +kernel), by decide +kernel, zw_2 69 (by decide +kernel) (by decide +kernel)⟩
theorem lc_X5_restsAlways : Cond.code yX5_restsAlways cX5_restsAlways 1 (some .boolean) ∈ zw := zw_4 41 (by decide +kernel) (by decide +kernel)
theorem li_X5_restsAlways : Cond.instanceMethod yX5_restsAlways ∈ zw := zw_4 39 (by decide +kernel) (by decide +kernel)
theorem le_X5_restsAlways : Cond.selects yX5_restsAlways.cls yX5_restsAlways yX5_restsAlways ∈ zw := zw_4 40 (by decide +kernel) (by decide +kernel)
theorem lk_X11_141 : zLk RX11 141 yX5_restsAlways cX5_restsAlways 1 (some .boolean) 0 := ⟨lc_X5_restsAlways, zw_1 10 (by decide +kernel) (by decide +kernel), by decide +kernel, zw_4 38 (by decide +kernel) (by decide +kernel)⟩
theorem lc_X5_countFrom : Cond.code yX5_countFrom cX5_countFrom 6 (some .int) ∈ zw := zw_4 46 (by decide +kernel) (by decide +kernel)
theorem li_X5_countFrom : Cond.instanceMethod yX5_countFrom ∈ zw := zw_4 44 (by decide +kernel) (by decide +kernel)
theorem le_X5_countFrom : Cond.selects yX5_countFrom.cls yX5_countFrom yX5_countFrom ∈ zw := zw_4 45 (by decide +kernel) (by decide +kernel)
theorem lk_X11_147 : zLk RX11 147 yX5_countFrom cX5_countFrom 6 (some .int) 2 := ⟨lc_X5_countFrom, zw_1 10 (by decide +kernel) (by decide +kernel), by decide +kernel, zw_4 43 (by decide +kernel) (by decide +kernel)⟩
theorem lc_X5_needsNotice : Cond.code yX5_needsNotice cX5_needsNotice 11 (some .boolean) ∈ zw := zw_4 61 (by decide +kernel) (by decide +kernel)
theorem li_X5_needsNotice : Cond.instanceMethod yX5_needsNotice ∈ zw := zw_4 59 (by decide +kernel) (by decide +kernel)
theorem le_X5_needsNotice : Cond.selects yX5_needsNotice.cls yX5_needsNotice yX5_needsNotice ∈ zw := zw_4 60 (by decide +kernel) (by decide +kernel)
theorem lk_X11_151 : zLk RX11 151 yX5_needsNotice cX5_needsNotice 11 (some .boolean) 4 := ⟨lc_X5_needsNotice, zw_1 10 (by decide +kernel) (by decide +kernel), by decide +kernel, zw_4 58 (by decide +kernel) (by decide +kernel)⟩
theorem lc_X10_init : Cond.code yX10_init cX10_init 6 none ∈ zw := zw_4 70 (by decide +kernel) (by decide +kernel)
theorem li_X10_init : Cond.instanceMethod yX10_init ∈ zw := zw_4 69 (by decide +kernel) (by decide +kernel)
theorem lk_X11_157 : zLk RX11 157 yX10_init cX10_init 6 none 5 := ⟨lc_X10_init, zw_1 29 (by decide +kernel) (by decide +kernel), by decide +kernel, zw_4 68 (by decide +kernel) (by decide +kernel)⟩
theorem lc_X11_workAt : Cond.code yX11_workAt cX11_workAt 3 (some (.object "PartyWalls$Work")) ∈ zw := zw_4 151 (by decide +kernel) (by decide +kernel)
theorem li_X11_workAt : Cond.instanceMethod yX11_workAt ∈ zw := zw_4 150 (by decide +kernel) (by decide +kernel)
theorem le_X11_workAt : Cond.selects yX11_workAt.cls yX11_workAt yX11_workAt ∈ zw := zw_0 21 (by decide +kernel) (by decide +kernel)
theorem lk_X11_160 : zLk RX11 160 yX11_workAt cX11_workAt 3 (some (.object "PartyWalls$Work")) 1 := ⟨lc_X11_workAt, zw_1 1 (by decide +kernel) (by decide +kernel), by decide +kernel, zw_4 148 (by decide +kernel) (by decide +kernel)⟩
theorem lc_X10_ask : Cond.code yX10_ask cX10_ask 2 none ∈ zw := zw_4 175 (by decide +kernel) (by decide +kernel)
theorem li_X10_ask : Cond.instanceMethod yX10_ask ∈ zw := zw_4 173 (by decide +kernel) (by decide +kernel)
theorem le_X10_ask : Cond.selects yX10_ask.cls yX10_ask yX10_ask ∈ zw := zw_4 174 (by decide +kernel) (by decide +kernel)
theorem lk_X11_167 : zLk RX11 167 yX10_ask cX10_ask 2 none 1 := ⟨lc_X10_ask, zw_1 29 (by decide +kernel) (by decide +kernel), by decide +kernel, zw_4 172 (by decide +kernel) (by decide +kernel)⟩
theorem lc_X10_allowByNotice : Cond.code yX10_allowByNotice cX10_allowByNotice 1 none ∈ zw := zw_4 160 (by decide +kernel) (by decide +kernel)
theorem li_X10_allowByNotice : Cond.instanceMethod yX10_allowByNotice ∈ zw := zw_4 158 (by decide +kernel) (by decide +kernel)
theorem le_X10_allowByNotice : Cond.selects yX10_allowByNotice.cls yX10_allowByNotice yX10_allowByNotice ∈ zw := zw_4 159 (by decide +kernel) (by decide +kernel)
theorem lk_X11_173 : zLk RX11 173 yX10_allowByNotice cX10_allowByNotice 1 none 0 := ⟨lc_X10_allowByNotice, zw_1 29 (by decide +kernel) (by decide +kernel), by decide +kernel, zw_4 184 (by decide +kernel) (by decide +kernel)⟩
theorem lc_X10_disputeFromDay : Cond.code yX10_disputeFromDay cX10_disputeFromDay 2 none ∈ zw := zw_4 164 (by decide +kernel) (by decide +kernel)
theorem li_X10_disputeFromDay : Cond.instanceMethod yX10_disputeFromDay ∈ zw := zw_4 162 (by decide +kernel) (by decide +kernel)
theorem le_X10_disputeFromDay : Cond.selects yX10_disputeFromDay.cls yX10_disputeFromDay yX10_disputeFromDay ∈ zw := zw_4 163 (by decide +kernel) (by decide +kernel)
theorem lk_X11_176 : zLk RX11 176 yX10_disputeFromDay cX10_disputeFromDay 2 none 1 := ⟨lc_X10_disputeFromDay, zw_1 29 (by decide +kernel) (by decide +kernel), by decide +kernel, zw_4 185 (by decide +kernel) (by decide +kernel)⟩
theorem lc_X10_firstHour : Cond.code yX10_firstHour cX10_firstHour 1 (some .int) ∈ zw := zw_4 196 (by decide +kernel) (by decide +kernel)
theorem li_X10_firstHour : Cond.instanceMethod yX10_firstHour ∈ zw := zw_4 194 (by decide +kernel) (by decide +kernel)
theorem le_X10_firstHour : Cond.selects yX10_firstHour.cls yX10_firstHour yX10_firstHour ∈ zw := zw_4 195 (by decide +kernel) (by decide +kernel)
theorem lk_X11_185 : zLk RX11 185 yX10_firstHour cX10_firstHour 1 (some .int) 0 := ⟨lc_X10_firstHour, zw_1 29 (by decide +kernel) (by decide +kernel), by decide +kernel, zw_4 193 (by decide +kernel) (by decide +kernel)⟩
theorem lc_X10_endHour : Cond.code yX10_endHour cX10_endHour 1 (some .int) ∈ zw := zw_4 200 (by decide +kernel) (by decide +kernel)
theorem li_X10_endHour : Cond.instanceMethod yX10_endHour ∈ zw := zw_4 198 (by decide +kernel) (by decide +kernel)
theorem le_X10_endHour : Cond.selects yX10_endHour.cls yX10_endHour yX10_endHour ∈ zw := zw_4 199 (by decide +kernel) (by decide +kernel)
theorem lk_X11_188 : zLk RX11 188 yX10_endHour cX10_endHour 1 (some .int) 0 := ⟨lc_X10_endHour, zw_1 29 (by decide +kernel) (by decide +kernel), by decide +kernel, zw_4 197 (by decide +kernel) (by decide +kernel)⟩
theorem lc_X10_share : Cond.code yX10_share cX10_share 1 (some .int) ∈ zw := zw_4 204 (by decide +kernel) (by decide +kernel)
theorem li_X10_share : Cond.instanceMethod yX10_share ∈ zw := zw_4 202 (by decide +kernel) (by decide +kernel)
theorem le_X10_share : Cond.selects yX10_share.cls yX10_share yX10_share ∈ zw := zw_4 203 (by decide +kernel) (by decide +kernel)
theorem lk_X11_191 : zLk RX11 191 yX10_share cX10_share 1 (some .int) 0 := ⟨lc_X10_share, zw_1 29 (by decide +kernel) (by decide +kernel), by decide +kernel, zw_4 201 (by decide +kernel) (by decide +kernel)⟩
theorem lc_X10_mayBeAppealed : Cond.code yX10_mayBeAppealed cX10_mayBeAppealed 1 (some .boolean) ∈ zw := zw_4 208 (by decide +kernel) (by decide +kernel)
theorem li_X10_mayBeAppealed : Cond.instanceMethod yX10_mayBeAppealed ∈ zw := zw_4 206 (by decide +kernel) (by decide +kernel)
theorem le_X10_mayBeAppealed : Cond.selects yX10_mayBeAppealed.cls yX10_mayBeAppealed yX10_mayBeAppealed ∈ zw := zw_4 207 (by decide +kernel) (by decide +kernel)
theorem lk_X11_197 : zLk RX11 197 yX10_mayBeAppealed cX10_mayBeAppealed 1 (some .boolean) 0 := ⟨lc_X10_mayBeAppealed, zw_1 29 (by decide +kernel) (by decide +kernel), by decide +kernel, zw_4 205 (by decide +kernel) (by decide +kernel)⟩
theorem lc_X10_appealBy : Cond.code yX10_appealBy cX10_appealBy 1 (some .int) ∈ zw := zw_4 212 (by decide +kernel) (by decide +kernel)
theorem li_X10_appealBy : Cond.instanceMethod yX10_appealBy ∈ zw := zw_4 210 (by decide +kernel) (by decide +kernel)
theorem le_X10_appealBy : Cond.selects yX10_appealBy.cls yX10_appealBy yX10_appealBy ∈ zw := zw_4 211 (by decide +kernel) (by decide +kernel)
theorem lk_X11_200 : zLk RX11 200 yX10_appealBy cX10_appealBy 1 (some .int) 0 := ⟨lc_X10_appealBy, zw_1 29 (by decide +kernel) (by decide +kernel), by decide +kernel, zw_4 209 (by decide +kernel) (by decide +kernel)⟩
theorem lc_X10_appointBy : Cond.code yX10_appointBy cX10_appointBy 1 (some .int) ∈ zw := zw_4 230 (by decide +kernel) (by decide +kernel)
theorem li_X10_appointBy : Cond.instanceMethod yX10_appointBy ∈ zw := zw_4 228 (by decide +kernel) (by decide +kernel)
theorem le_X10_appointBy : Cond.selects yX10_appointBy.cls yX10_appointBy yX10_appointBy ∈ zw := zw_4 229 (by decide +kernel) (by decide +kernel)
theorem lk_X11_211 : zLk RX11 211 yX10_appointBy cX10_appointBy 1 (some .int) 0 := ⟨lc_X10_appointBy, zw_1 29 (by decide +kernel) (by decide +kernel), by decide +kernel, zw_4 227 (by decide +kernel) (by decide +kernel)⟩
theorem lc_X11_isBarred : Cond.code yX11_isBarred cX11_isBarred 3 (some .boolean) ∈ zw := zw_4 234 (by decide +kernel) (by decide +kernel)
theorem li_X11_isBarred : Cond.instanceMethod yX11_isBarred ∈ zw := zw_4 233 (by decide +kernel) (by decide +kernel)
theorem le_X11_isBarred : Cond.selects yX11_isBarred.cls yX11_isBarred yX11_isBarred ∈ zw := zw_0 22 (by decide +kernel) (by decide +kernel)
theorem lk_X11_218 : zLk RX11 218 yX11_isBarred cX11_isBarred 3 (some .boolean) 2 := ⟨lc_X11_isBarred, zw_1 1 (by decide +kernel) (by decide +kernel), by decide +kernel, zw_4 231 (by decide +kernel) (by decide +kernel)⟩
theorem lc_X11_chooseThird : Cond.code yX11_chooseThird cX11_chooseThird 5 none ∈ zw := zw_4 238 (by decide +kernel) (by decide +kernel)
theorem li_X11_chooseThird : Cond.instanceMethod yX11_chooseThird ∈ zw := zw_4 237 (by decide +kernel) (by decide +kernel)
theorem le_X11_chooseThird : Cond.selects yX11_chooseThird.cls yX11_chooseThird yX11_chooseThird ∈ zw := zw_0 23 (by decide +kernel) (by decide +kernel)
theorem lk_X11_222 : zLk RX11 222 yX11_chooseThird cX11_chooseThird 5 none 1 := ⟨lc_X11_chooseThird, zw_1 1 (by decide +kernel) (by decide +kernel), by decide +kernel, zw_4 235 (by decide +kernel) (by decide +kernel)⟩
theorem lc_X11_checkLeast : Cond.code yX11_checkLeast cX11_checkLeast 2 none ∈ zw := zw_5 15 (by decide +kernel) (by decide +kernel)
theorem ls_X11_checkLeast : Cond.static yX11_checkLeast ∈ zw := zw_5 14 (by decide +kernel) (by decide +kernel)
theorem lk_X11_226 : zLk RX11 226 yX11_checkLeast cX11_checkLeast 2 none 2 := ⟨lc_X11_checkLeast, zw_1 1 (by decide +kernel) (by decide +kernel), by decide +kernel, zw_5 13 (by decide +kernel) (by decide +kernel)⟩
theorem lc_X4_init : Cond.code yX4_init cX4_init 4 none ∈ zw := zw_5 21 (by decide +kernel) (by decide +kernel)
theorem li_X4_init : Cond.instanceMethod yX4_init ∈ zw := zw_5 20 (by decide +kernel) (by decide +kernel)
theorem lk_X11_231 : zLk RX11 231 yX4_init cX4_init 4 none 3 := ⟨lc_X4_init, zw_1 30 (by decide +kernel) (by decide +kernel), by decide +kernel, zw_5 19 (by decide +kernel) (by decide +kernel)⟩
theorem lc_X10_hasAlike : Cond.code yX10_hasAlike cX10_hasAlike 5 (some .boolean) ∈ zw := zw_5 39 (by decide +kernel) (by decide +kernel)
theorem li_X10_hasAlike : Cond.instanceMethod yX10_hasAlike ∈ zw := zw_5 37 (by decide +kernel) (by decide +kernel)
theorem le_X10_hasAlike : Cond.selects yX10_hasAlike.cls yX10_hasAlike yX10_hasAlike ∈ zw := zw_5 38 (by decide +kernel) (by decide +kernel)
theorem lk_X11_233 : zLk RX11 233 yX10_hasAlike cX10_hasAlike 5 (some .boolean) 2 := ⟨lc_X10_hasAlike, zw_1 29 (by decide +kernel) (by decide +kernel), by decide +kernel, zw_5 36 (by decide +kernel) (by decide +kernel)⟩
theorem lc_X10_awardAs : Cond.code yX10_awardAs cX10_awardAs 4 none ∈ zw := zw_5 47 (by decide +kernel) (by decide +kernel)
theorem li_X10_awardAs : Cond.instanceMethod yX10_awardAs ∈ zw := zw_5 45 (by decide +kernel) (by decide +kernel)
theorem le_X10_awardAs : Cond.selects yX10_awardAs.cls yX10_awardAs yX10_awardAs ∈ zw := zw_5 46 (by decide +kernel) (by decide +kernel)
theorem lk_X11_237 : zLk RX11 237 yX10_awardAs cX10_awardAs 4 none 2 := ⟨lc_X10_awardAs, zw_1 29 (by decide +kernel) (by decide +kernel), by decide +kernel, zw_5 44 (by decide +kernel) (by decide +kernel)⟩
theorem lc_X10_undoAward : Cond.code yX10_undoAward cX10_undoAward 2 none ∈ zw := zw_5 58 (by decide +kernel) (by decide +kernel)
theorem li_X10_undoAward : Cond.instanceMethod yX10_undoAward ∈ zw := zw_5 56 (by decide +kernel) (by decide +kernel)
theorem le_X10_undoAward : Cond.selects yX10_undoAward.cls yX10_undoAward yX10_undoAward ∈ zw := zw_5 57 (by decide +kernel) (by decide +kernel)
theorem lk_X11_245 : zLk RX11 245 yX10_undoAward cX10_undoAward 2 none 1 := ⟨lc_X10_undoAward, zw_1 29 (by decide +kernel) (by decide +kernel), by decide +kernel, zw_5 55 (by decide +kernel) (by decide +kernel)⟩
theorem lc_X10_beginOn : Cond.code yX10_beginOn cX10_beginOn 3 none ∈ zw := zw_5 69 (by decide +kernel) (by decide +kernel)
theorem li_X10_beginOn : Cond.instanceMethod yX10_beginOn ∈ zw := zw_5 67 (by decide +kernel) (by decide +kernel)
theorem le_X10_beginOn : Cond.selects yX10_beginOn.cls yX10_beginOn yX10_beginOn ∈ zw := zw_5 68 (by decide +kernel) (by decide +kernel)
theorem lk_X11_248 : zLk RX11 248 yX10_beginOn cX10_beginOn 3 none 1 := ⟨lc_X10_beginOn, zw_1 29 (by decide +kernel) (by decide +kernel), by decide +kernel, zw_5 66 (by decide +kernel) (by decide +kernel)⟩
theorem lc_X10_mayBeEntered : Cond.code yX10_mayBeEntered cX10_mayBeEntered 3 (some .boolean) ∈ zw := zw_5 87 (by decide +kernel) (by decide +kernel)
theorem li_X10_mayBeEntered : Cond.instanceMethod yX10_mayBeEntered ∈ zw := zw_5 85 (by decide +kernel) (by decide +kernel)
theorem le_X10_mayBeEntered : Cond.selects yX10_mayBeEntered.cls yX10_mayBeEntered yX10_mayBeEntered ∈ zw := zw_5 86 (by decide +kernel) (by decide +kernel)
theorem lk_X11_251 : zLk RX11 251 yX10_mayBeEntered cX10_mayBeEntered 3 (some .boolean) 2 := ⟨lc_X10_mayBeEntered, zw_1 29 (by decide +kernel) (by decide +kernel), by decide +kernel, zw_5 84 (by decide +kernel) (by decide +kernel)⟩
theorem lc_X1_isFull : Cond.code yX1_isFull cX1_isFull 1 (some .boolean) ∈ zw := zw_5 94 (by decide +kernel) (by decide +kernel)
theorem li_X1_isFull : Cond.instanceMethod yX1_isFull ∈ zw := zw_5 92 (by decide +kernel) (by decide +kernel)
theorem le_X1_isFull : Cond.selects yX1_isFull.cls yX1_isFull yX1_isFull ∈ zw := zw_5 93 (by decide +kernel) (by decide +kernel)
theorem lk_X11_258 : zLk RX11 258 yX1_isFull cX1_isFull 1 (some .boolean) 0 := ⟨lc_X1_isFull, zw_1 5 (by decide +kernel) (by decide +kernel), by decide +kernel, zw_5 91 (by decide +kernel) (by decide +kernel)⟩
theorem lc_X10_ownerThere : Cond.code yX10_ownerThere cX10_ownerThere 1 (some .int) ∈ zw := zw_5 98 (by decide +kernel) (by decide +kernel)
theorem li_X10_ownerThere : Cond.instanceMethod yX10_ownerThere ∈ zw := zw_5 96 (by decide +kernel) (by decide +kernel)
theorem le_X10_ownerThere : Cond.selects yX10_ownerThere.cls yX10_ownerThere yX10_ownerThere ∈ zw := zw_5 97 (by decide +kernel) (by decide +kernel)
theorem lk_X11_264 : zLk RX11 264 yX10_ownerThere cX10_ownerThere 1 (some .int) 0 := ⟨lc_X10_ownerThere, zw_1 29 (by decide +kernel) (by decide +kernel), by decide +kernel, zw_5 95 (by decide +kernel) (by decide +kernel)⟩
theorem lc_X10_neighbour : Cond.code yX10_neighbour cX10_neighbour 1 (some .int) ∈ zw := zw_5 103 (by decide +kernel) (by decide +kernel)
theorem li_X10_neighbour : Cond.instanceMethod yX10_neighbour ∈ zw := zw_5 101 (by decide +kernel) (by decide +kernel)
theorem le_X10_neighbour : Cond.selects yX10_neighbour.cls yX10_neighbour yX10_neighbour ∈ zw := zw_5 102 (by decide +kernel) (by decide +kernel)
theorem lk_X11_267 : zLk RX11 267 yX10_neighbour cX10_neighbour 1 (some .int) 0 := ⟨lc_X10_neighbour, zw_1 29 (by decide +kernel) (by decide +kernel), by decide +kernel, zw_5 100 (by decide +kernel) (by decide +kernel)⟩
theorem lc_X1_write : Cond.code yX1_write cX1_write 5 none ∈ zw := zw_5 107 (by decide +kernel) (by decide +kernel)
theorem li_X1_write : Cond.instanceMethod yX1_write ∈ zw := zw_5 105 (by decide +kernel) (by decide +kernel)
theorem le_X1_write : Cond.selects yX1_write.cls yX1_write yX1_write ∈ zw := zw_5 106 (by decide +kernel) (by decide +kernel)
theorem lk_X11_270 : zLk RX11 270 yX1_write cX1_write 5 none 4 := ⟨lc_X1_write, zw_1 5 (by decide +kernel) (by decide +kernel), by decide +kernel, zw_5 104 (by decide +kernel) (by decide +kernel)⟩
theorem lc_X11_checkSegments : Cond.code yX11_checkSegments cX11_checkSegments 2 none ∈ zw := zw_5 124 (by decide +kernel) (by decide +kernel)
theorem ls_X11_checkSegments : Cond.static yX11_checkSegments ∈ zw := zw_5 123 (by decide +kernel) (by decide +kernel)
theorem lk_X11_274 : zLk RX11 274 yX11_checkSegments cX11_checkSegments 2 none 2 := ⟨lc_X11_checkSegments, zw_1 1 (by decide +kernel) (by decide +kernel), by decide +kernel, zw_5 122 (by decide +kernel) (by decide +kernel)⟩
theorem lc_X8_highest : Cond.code yX8_highest cX8_highest 5 (some .int) ∈ zw := zw_5 129 (by decide +kernel) (by decide +kernel)
theorem li_X8_highest : Cond.instanceMethod yX8_highest ∈ zw := zw_5 127 (by decide +kernel) (by decide +kernel)
theorem le_X8_highest : Cond.selects yX8_highest.cls yX8_highest yX8_highest ∈ zw := zw_5 128 (by decide +kernel) (by decide +kernel)
theorem lk_X11_281 : zLk RX11 281 yX8_highest cX8_highest 5 (some .int) 2 := ⟨lc_X8_highest, zw_1 17 (by decide +kernel) (by decide +kernel), by decide +kernel, zw_5 126 (by decide +kernel) (by decide +kernel)⟩
theorem lc_X8_addCell : Cond.code yX8_addCell cX8_addCell 6 none ∈ zw := zw_5 134 (by decide +kernel) (by decide +kernel)
theorem li_X8_addCell : Cond.instanceMethod yX8_addCell ∈ zw := zw_5 132 (by decide +kernel) (by decide +kernel)
theorem le_X8_addCell : Cond.selects yX8_addCell.cls yX8_addCell yX8_addCell ∈ zw := zw_5 133 (by decide +kernel) (by decide +kernel)
theorem lk_X11_287 : zLk RX11 287 yX8_addCell cX8_addCell 6 none 4 := ⟨lc_X8_addCell, zw_1 17 (by decide +kernel) (by decide +kernel), by decide +kernel, zw_5 131 (by decide +kernel) (by decide +kernel)⟩
theorem lc_X8_cellsInAll : Cond.code yX8_cellsInAll cX8_cellsInAll 3 (some .int) ∈ zw := zw_5 138 (by decide +kernel) (by decide +kernel)
theorem li_X8_cellsInAll : Cond.instanceMethod yX8_cellsInAll ∈ zw := zw_5 136 (by decide +kernel) (by decide +kernel)
theorem le_X8_cellsInAll : Cond.selects yX8_cellsInAll.cls yX8_cellsInAll yX8_cellsInAll ∈ zw := zw_5 137 (by decide +kernel) (by decide +kernel)
theorem lk_X11_290 : zLk RX11 290 yX8_cellsInAll cX8_cellsInAll 3 (some .int) 0 := ⟨lc_X8_cellsInAll, zw_1 17 (by decide +kernel) (by decide +kernel), by decide +kernel, zw_5 135 (by decide +kernel) (by decide +kernel)⟩
theorem lc_X8_takeHighestOff : Cond.code yX8_takeHighestOff cX8_takeHighestOff 5 (some .int) ∈ zw := zw_5 149 (by decide +kernel) (by decide +kernel)
theorem li_X8_takeHighestOff : Cond.instanceMethod yX8_takeHighestOff ∈ zw := zw_5 147 (by decide +kernel) (by decide +kernel)
theorem le_X8_takeHighestOff : Cond.selects yX8_takeHighestOff.cls yX8_takeHighestOff yX8_takeHighestOff ∈ zw := zw_5 148 (by decide +kernel) (by decide +kernel)
theorem lk_X11_293 : zLk RX11 293 yX8_takeHighestOff cX8_takeHighestOff 5 (some .int) 2 := ⟨lc_X8_takeHighestOff, zw_1 17 (by decide +kernel) (by decide +kernel), by decide +kernel, zw_5 146 (by decide +kernel) (by decide +kernel)⟩
theorem lc_X8_dueForUse : Cond.code yX8_dueForUse cX8_dueForUse 8 (some .int) ∈ zw := zw_5 160 (by decide +kernel) (by decide +kernel)
theorem li_X8_dueForUse : Cond.instanceMethod yX8_dueForUse ∈ zw := zw_5 158 (by decide +kernel) (by decide +kernel)
theorem le_X8_dueForUse : Cond.selects yX8_dueForUse.cls yX8_dueForUse yX8_dueForUse ∈ zw := zw_5 159 (by decide +kernel) (by decide +kernel)
theorem lk_X11_299 : zLk RX11 299 yX8_dueForUse cX8_dueForUse 8 (some .int) 5 := ⟨lc_X8_dueForUse, zw_1 17 (by decide +kernel) (by decide +kernel), by decide +kernel, zw_5 157 (by decide +kernel) (by decide +kernel)⟩
theorem lc_X11_payUnlessFull : Cond.code yX11_payUnlessFull cX11_payUnlessFull 4 (some .boolean) ∈ zw := zw_5 173 (by decide +kernel) (by decide +kernel)
theorem li_X11_payUnlessFull : Cond.instanceMethod yX11_payUnlessFull ∈ zw := zw_5 172 (by decide +kernel) (by decide +kernel)
theorem le_X11_payUnlessFull : Cond.selects yX11_payUnlessFull.cls yX11_payUnlessFull yX11_payUnlessFull ∈ zw := zw_0 24 (by decide +kernel) (by decide +kernel)
theorem lk_X11_303 : zLk RX11 303 yX11_payUnlessFull cX11_payUnlessFull 4 (some .boolean) 3 := ⟨lc_X11_payUnlessFull, zw_1 1 (by decide +kernel) (by decide +kernel), by decide +kernel, zw_5 170 (by decide +kernel) (by decide +kernel)⟩
theorem lc_X8_markUsed : Cond.code yX8_markUsed cX8_markUsed 5 none ∈ zw := zw_5 177 (by decide +kernel) (by decide +kernel)
theorem li_X8_markUsed : Cond.instanceMethod yX8_markUsed ∈ zw := zw_5 175 (by decide +kernel) (by decide +kernel)
theorem le_X8_markUsed : Cond.selects yX8_markUsed.cls yX8_markUsed yX8_markUsed ∈ zw := zw_5 176 (by decide +kernel) (by decide +kernel)
theorem lk_X11_307 : zLk RX11 307 yX8_markUsed cX8_markUsed 5 none 3 := ⟨lc_X8_markUsed, zw_1 17 (by decide +kernel) (by decide +kernel), by decide +kernel, zw_5 174 (by decide +kernel) (by decide +kernel)⟩
theorem lc_X8_hasCell : Cond.code yX8_hasCell cX8_hasCell 3 (some .boolean) ∈ zw := zw_5 188 (by decide +kernel) (by decide +kernel)
theorem li_X8_hasCell : Cond.instanceMethod yX8_hasCell ∈ zw := zw_5 186 (by decide +kernel) (by decide +kernel)
theorem le_X8_hasCell : Cond.selects yX8_hasCell.cls yX8_hasCell yX8_hasCell ∈ zw := zw_5 187 (by decide +kernel) (by decide +kernel)
theorem lk_X11_310 : zLk RX11 310 yX8_hasCell cX8_hasCell 3 (some .boolean) 2 := ⟨lc_X8_hasCell, zw_1 17 (by decide +kernel) (by decide +kernel), by decide +kernel, zw_5 185 (by decide +kernel) (by decide +kernel)⟩
theorem lc_X8_builderOf : Cond.code yX8_builderOf cX8_builderOf 3 (some .int) ∈ zw := zw_5 192 (by decide +kernel) (by decide +kernel)
theorem li_X8_builderOf : Cond.instanceMethod yX8_builderOf ∈ zw := zw_5 190 (by decide +kernel) (by decide +kernel)
theorem le_X8_builderOf : Cond.selects yX8_builderOf.cls yX8_builderOf yX8_builderOf ∈ zw := zw_5 191 (by decide +kernel) (by decide +kernel)
theorem lk_X11_313 : zLk RX11 313 yX8_builderOf cX8_builderOf 3 (some .int) 2 := ⟨lc_X8_builderOf, zw_1 17 (by decide +kernel) (by decide +kernel), by decide +kernel, zw_5 189 (by decide +kernel) (by decide +kernel)⟩
theorem lc_X8_valueOf : Cond.code yX8_valueOf cX8_valueOf 7 (some .int) ∈ zw := zw_5 169 (by decide +kernel) (by decide +kernel)
theorem li_X8_valueOf : Cond.instanceMethod yX8_valueOf ∈ zw := zw_5 167 (by decide +kernel) (by decide +kernel)
theorem le_X8_valueOf : Cond.selects yX8_valueOf.cls yX8_valueOf yX8_valueOf ∈ zw := zw_5 168 (by decide +kernel) (by decide +kernel)
theorem lk_X11_316 : zLk RX11 316 yX8_valueOf cX8_valueOf 7 (some .int) 4 := ⟨lc_X8_valueOf, zw_1 17 (by decide +kernel) (by decide +kernel), by decide +kernel, zw_5 193 (by decide +kernel) (by decide +kernel)⟩
theorem lc_X8_usersOf : Cond.code yX8_usersOf cX8_usersOf 3 (some .int) ∈ zw := zw_5 165 (by decide +kernel) (by decide +kernel)
theorem li_X8_usersOf : Cond.instanceMethod yX8_usersOf ∈ zw := zw_5 163 (by decide +kernel) (by decide +kernel)
theorem le_X8_usersOf : Cond.selects yX8_usersOf.cls yX8_usersOf yX8_usersOf ∈ zw := zw_5 164 (by decide +kernel) (by decide +kernel)
theorem lk_X11_320 : zLk RX11 320 yX8_usersOf cX8_usersOf 3 (some .int) 2 := ⟨lc_X8_usersOf, zw_1 17 (by decide +kernel) (by decide +kernel), by decide +kernel, zw_5 194 (by decide +kernel) (by decide +kernel)⟩
theorem lc_J9_min_7cf53 : Cond.code yJ9_min_7cf53 cJ9_min_7cf53 2 (some .int) ∈ zw := zw_3 36 (by decide +kernel) (by decide +kernel)
theorem ls_J9_min_7cf53 : Cond.static yJ9_min_7cf53 ∈ zw := zw_3 35 (by decide +kernel) (by decide +kernel)
theorem lk_X11_330 : zLk RX11 330 yJ9_min_7cf53 cJ9_min_7cf53 2 (some .int) 2 := ⟨lc_J9_min_7cf53, zw_1 19 (by decide +kernel) (by decide +kernel), by decide +kernel, zw_5 216 (by decide +kernel) (by decide +kernel)⟩
theorem lc_X1_payments : Cond.code yX1_payments cX1_payments 1 (some .int) ∈ zw := zw_2 84 (by decide +kernel) (by decide +kernel)
theorem li_X1_payments : Cond.instanceMethod yX1_payments ∈ zw := zw_2 82 (by decide +kernel) (by decide +kernel)
theorem le_X1_payments : Cond.selects yX1_payments.cls yX1_payments yX1_payments ∈ zw := zw_2 83 (by decide +kernel) (by decide +kernel)
theorem lk_X11_335 : zLk RX11 335 yX1_payments cX1_payments 1 (some .int) 0 := ⟨lc_X1_payments, zw_1 5 (by decide +kernel) (by decide +kernel), by decide +kernel, zw_2 81 (by decide +kernel) (by decide +kernel)⟩
theorem lc_X1_mendings : Cond.code yX1_mendings cX1_mendings 1 (some .int) ∈ zw := zw_2 88 (by decide +kernel) (by decide +kernel)
theorem li_X1_mendings : Cond.instanceMethod yX1_mendings ∈ zw := zw_2 86 (by decide +kernel) (by decide +kernel)
theorem le_X1_mendings : Cond.selects yX1_mendings.cls yX1_mendings yX1_mendings ∈ zw := zw_2 87 (by decide +kernel) (by decide +kernel)
theorem lk_X11_339 : zLk RX11 339 yX1_mendings cX1_mendings 1 (some .int) 0 := ⟨lc_X1_mendings, zw_1 5 (by decide +kernel) (by decide +kernel), by decide +kernel, zw_2 85 (by decide +kernel) (by decide +kernel)⟩
theorem lc_X1_sumKnown : Cond.code yX1_sumKnown cX1_sumKnown 5 (some .int) ∈ zw := zw_5 228 (by decide +kernel) (by decide +kernel)
theorem li_X1_sumKnown : Cond.instanceMethod yX1_sumKnown ∈ zw := zw_5 226 (by decide +kernel) (by decide +kernel)
theorem le_X1_sumKnown : Cond.selects yX1_sumKnown.cls yX1_sumKnown yX1_sumKnown ∈ zw := zw_5 227 (by decide +kernel) (by decide +kernel)
theorem lk_X11_342 : zLk RX11 342 yX1_sumKnown cX1_sumKnown 5 (some .int) 2 := ⟨lc_X1_sumKnown, zw_1 5 (by decide +kernel) (by decide +kernel), by decide +kernel, zw_5 225 (by decide +kernel) (by decide +kernel)⟩
theorem lc_X1_mendSum : Cond.code yX1_mendSum cX1_mendSum 4 none ∈ zw := zw_5 232 (by decide +kernel) (by decide +kernel)
theorem li_X1_mendSum : Cond.instanceMethod yX1_mendSum ∈ zw := zw_5 230 (by decide +kernel) (by decide +kernel)
theorem le_X1_mendSum : Cond.selects yX1_mendSum.cls yX1_mendSum yX1_mendSum ∈ zw := zw_5 231 (by decide +kernel) (by decide +kernel)
theorem lk_X11_345 : zLk RX11 345 yX1_mendSum cX1_mendSum 4 none 3 := ⟨lc_X1_mendSum, zw_1 5 (by decide +kernel) (by decide +kernel), by decide +kernel, zw_5 229 (by decide +kernel) (by decide +kernel)⟩
theorem lc_X1_payerOf : Cond.code yX1_payerOf cX1_payerOf 2 (some .int) ∈ zw := zw_6 3 (by decide +kernel) (by decide +kernel)
theorem li_X1_payerOf : Cond.instanceMethod yX1_payerOf ∈ zw := zw_6 1 (by decide +kernel) (by decide +kernel)
theorem le_X1_payerOf : Cond.selects yX1_payerOf.cls yX1_payerOf yX1_payerOf ∈ zw := zw_6 2 (by decide +kernel) (by decide +kernel)
theorem lk_X11_348 : zLk RX11 348 yX1_payerOf cX1_payerOf 2 (some .int) 1 := ⟨lc_X1_payerOf, zw_1 5 (by decide +kernel) (by decide +kernel), by decide +kernel, zw_6 0 (by decide +kernel) (by decide +kernel)⟩
theorem lc_X1_receiverOf : Cond.code yX1_receiverOf cX1_receiverOf 2 (some .int) ∈ zw := zw_6 7 (by decide +kernel) (by decide +kernel)
theorem li_X1_receiverOf : Cond.instanceMethod yX1_receiverOf ∈ zw := zw_6 5 (by decide +kernel) (by decide +kernel)
theorem le_X1_receiverOf : Cond.selects yX1_receiverOf.cls yX1_receiverOf yX1_receiverOf ∈ zw := zw_6 6 (by decide +kernel) (by decide +kernel)
theorem lk_X11_351 : zLk RX11 351 yX1_receiverOf cX1_receiverOf 2 (some .int) 1 := ⟨lc_X1_receiverOf, zw_1 5 (by decide +kernel) (by decide +kernel), by decide +kernel, zw_6 4 (by decide +kernel) (by decide +kernel)⟩
theorem lc_X1_dayOf : Cond.code yX1_dayOf cX1_dayOf 2 (some .int) ∈ zw := zw_6 11 (by decide +kernel) (by decide +kernel)
theorem li_X1_dayOf : Cond.instanceMethod yX1_dayOf ∈ zw := zw_6 9 (by decide +kernel) (by decide +kernel)
theorem le_X1_dayOf : Cond.selects yX1_dayOf.cls yX1_dayOf yX1_dayOf ∈ zw := zw_6 10 (by decide +kernel) (by decide +kernel)
theorem lk_X11_354 : zLk RX11 354 yX1_dayOf cX1_dayOf 2 (some .int) 1 := ⟨lc_X1_dayOf, zw_1 5 (by decide +kernel) (by decide +kernel), by decide +kernel, zw_6 8 (by decide +kernel) (by decide +kernel)⟩
theorem lc_X1_balanceOf : Cond.code yX1_balanceOf cX1_balanceOf 7 (some .long) ∈ zw := zw_6 22 (by decide +kernel) (by decide +kernel)
theorem li_X1_balanceOf : Cond.instanceMethod yX1_balanceOf ∈ zw := zw_6 20 (by decide +kernel) (by decide +kernel)
theorem le_X1_balanceOf : Cond.selects yX1_balanceOf.cls yX1_balanceOf yX1_balanceOf ∈ zw := zw_6 21 (by decide +kernel) (by decide +kernel)
theorem lk_X11_357 : zLk RX11 357 yX1_balanceOf cX1_balanceOf 7 (some .long) 3 := ⟨lc_X1_balanceOf, zw_1 5 (by decide +kernel) (by decide +kernel), by decide +kernel, zw_6 19 (by decide +kernel) (by decide +kernel)⟩
theorem lc_X7_init : Cond.code yX7_init cX7_init 2 none ∈ zw := zw_6 42 (by decide +kernel) (by decide +kernel)
theorem li_X7_init : Cond.instanceMethod yX7_init ∈ zw := zw_6 41 (by decide +kernel) (by decide +kernel)
theorem lk_X11_366 : zLk RX11 366 yX7_init cX7_init 2 none 1 := ⟨lc_X7_init, zw_1 31 (by decide +kernel) (by decide +kernel), by decide +kernel, zw_6 40 (by decide +kernel) (by decide +kernel)⟩
theorem lc_X11_surveyAt : Cond.code yX11_surveyAt cX11_surveyAt 2 (some (.object "PartyWalls$Survey")) ∈ zw := zw_6 67 (by decide +kernel) (by decide +kernel)
theorem li_X11_surveyAt : Cond.instanceMethod yX11_surveyAt ∈ zw := zw_6 66 (by decide +kernel) (by decide +kernel)
theorem le_X11_surveyAt : Cond.selects yX11_surveyAt.cls yX11_surveyAt yX11_surveyAt ∈ zw := zw_0 25 (by decide +kernel) (by decide +kernel)
theorem lk_X11_368 : zLk RX11 368 yX11_surveyAt cX11_surveyAt 2 (some (.object "PartyWalls$Survey")) 1 := ⟨lc_X11_surveyAt, zw_1 1 (by decide +kernel) (by decide +kernel), by decide +kernel, zw_6 64 (by decide +kernel) (by decide +kernel)⟩
theorem lc_X7_cracks : Cond.code yX7_cracks cX7_cracks 1 (some .int) ∈ zw := zw_6 72 (by decide +kernel) (by decide +kernel)
theorem li_X7_cracks : Cond.instanceMethod yX7_cracks ∈ zw := zw_6 70 (by decide +kernel) (by decide +kernel)
theorem le_X7_cracks : Cond.selects yX7_cracks.cls yX7_cracks yX7_cracks ∈ zw := zw_6 71 (by decide +kernel) (by decide +kernel)
theorem lk_X11_372 : zLk RX11 372 yX7_cracks cX7_cracks 1 (some .int) 0 := ⟨lc_X7_cracks, zw_1 31 (by decide +kernel) (by decide +kernel), by decide +kernel, zw_6 69 (by decide +kernel) (by decide +kernel)⟩
theorem lc_X7_isBehind : Cond.code yX7_isBehind cX7_isBehind 2 (some .boolean) ∈ zw := zw_6 76 (by decide +kernel) (by decide +kernel)
theorem li_X7_isBehind : Cond.instanceMethod yX7_isBehind ∈ zw := zw_6 74 (by decide +kernel) (by decide +kernel)
theorem le_X7_isBehind : Cond.selects yX7_isBehind.cls yX7_isBehind yX7_isBehind ∈ zw := zw_6 75 (by decide +kernel) (by decide +kernel)
theorem lk_X11_375 : zLk RX11 375 yX7_isBehind cX7_isBehind 2 (some .boolean) 1 := ⟨lc_X7_isBehind, zw_1 31 (by decide +kernel) (by decide +kernel), by decide +kernel, zw_6 73 (by decide +kernel) (by decide +kernel)⟩
theorem lc_X7_addCrack : Cond.code yX7_addCrack cX7_addCrack 3 none ∈ zw := zw_6 80 (by decide +kernel) (by decide +kernel)
theorem li_X7_addCrack : Cond.instanceMethod yX7_addCrack ∈ zw := zw_6 78 (by decide +kernel) (by decide +kernel)
theorem le_X7_addCrack : Cond.selects yX7_addCrack.cls yX7_addCrack yX7_addCrack ∈ zw := zw_6 79 (by decide +kernel) (by decide +kernel)
theorem lk_X11_379 : zLk RX11 379 yX7_addCrack cX7_addCrack 3 none 2 := ⟨lc_X7_addCrack, zw_1 31 (by decide +kernel) (by decide +kernel), by decide +kernel, zw_6 77 (by decide +kernel) (by decide +kernel)⟩
theorem lc_X3_join : Cond.code yX3_join cX3_join 4 none ∈ zw := zw_6 91 (by decide +kernel) (by decide +kernel)
theorem li_X3_join : Cond.instanceMethod yX3_join ∈ zw := zw_6 89 (by decide +kernel) (by decide +kernel)
theorem le_X3_join : Cond.selects yX3_join.cls yX3_join yX3_join ∈ zw := zw_6 90 (by decide +kernel) (by decide +kernel)
theorem lk_X11_385 : zLk RX11 385 yX3_join cX3_join 4 none 3 := ⟨lc_X3_join, zw_1 6 (by decide +kernel) (by decide +kernel), by decide +kernel, zw_6 88 (by decide +kernel) (by decide +kernel)⟩
theorem lc_X3_grownByMoreThan : Cond.code yX3_grownByMoreThan cX3_grownByMoreThan 7 (some .int) ∈ zw := zw_6 115 (by decide +kernel) (by decide +kernel)
theorem li_X3_grownByMoreThan : Cond.instanceMethod yX3_grownByMoreThan ∈ zw := zw_6 113 (by decide +kernel) (by decide +kernel)
theorem le_X3_grownByMoreThan : Cond.selects yX3_grownByMoreThan.cls yX3_grownByMoreThan yX3_grownByMoreThan ∈ zw := zw_6 114 (by decide +kernel) (by decide +kernel)
theorem lk_X11_392 : zLk RX11 392 yX3_grownByMoreThan cX3_grownByMoreThan 7 (some .int) 3 := ⟨lc_X3_grownByMoreThan, zw_1 6 (by decide +kernel) (by decide +kernel), by decide +kernel, zw_6 112 (by decide +kernel) (by decide +kernel)⟩
theorem lc_X3_pairs : Cond.code yX3_pairs cX3_pairs 1 (some .int) ∈ zw := zw_6 123 (by decide +kernel) (by decide +kernel)
theorem li_X3_pairs : Cond.instanceMethod yX3_pairs ∈ zw := zw_6 121 (by decide +kernel) (by decide +kernel)
theorem le_X3_pairs : Cond.selects yX3_pairs.cls yX3_pairs yX3_pairs ∈ zw := zw_6 122 (by decide +kernel) (by decide +kernel)
theorem lk_X11_396 : zLk RX11 396 yX3_pairs cX3_pairs 1 (some .int) 0 := ⟨lc_X3_pairs, zw_1 6 (by decide +kernel) (by decide +kernel), by decide +kernel, zw_6 120 (by decide +kernel) (by decide +kernel)⟩
theorem lc_X3_apart : Cond.code yX3_apart cX3_apart 1 (some .int) ∈ zw := zw_6 127 (by decide +kernel) (by decide +kernel)
theorem li_X3_apart : Cond.instanceMethod yX3_apart ∈ zw := zw_6 125 (by decide +kernel) (by decide +kernel)
theorem le_X3_apart : Cond.selects yX3_apart.cls yX3_apart yX3_apart ∈ zw := zw_6 126 (by decide +kernel) (by decide +kernel)
theorem lk_X11_399 : zLk RX11 399 yX3_apart cX3_apart 1 (some .int) 0 := ⟨lc_X3_apart, zw_1 6 (by decide +kernel) (by decide +kernel), by decide +kernel, zw_6 124 (by decide +kernel) (by decide +kernel)⟩
theorem lc_X3_partnerOf : Cond.code yX3_partnerOf cX3_partnerOf 2 (some .int) ∈ zw := zw_6 138 (by decide +kernel) (by decide +kernel)
theorem li_X3_partnerOf : Cond.instanceMethod yX3_partnerOf ∈ zw := zw_6 136 (by decide +kernel) (by decide +kernel)
theorem le_X3_partnerOf : Cond.selects yX3_partnerOf.cls yX3_partnerOf yX3_partnerOf ∈ zw := zw_6 137 (by decide +kernel) (by decide +kernel)
theorem lk_X11_402 : zLk RX11 402 yX3_partnerOf cX3_partnerOf 2 (some .int) 1 := ⟨lc_X3_partnerOf, zw_1 6 (by decide +kernel) (by decide +kernel), by decide +kernel, zw_6 135 (by decide +kernel) (by decide +kernel)⟩
theorem lc_X11_gaugeAt : Cond.code yX11_gaugeAt cX11_gaugeAt 2 (some (.object "PartyWalls$Gauge")) ∈ zw := zw_6 172 (by decide +kernel) (by decide +kernel)
theorem li_X11_gaugeAt : Cond.instanceMethod yX11_gaugeAt ∈ zw := zw_6 171 (by decide +kernel) (by decide +kernel)
theorem le_X11_gaugeAt : Cond.selects yX11_gaugeAt.cls yX11_gaugeAt yX11_gaugeAt ∈ zw := zw_0 29 (by decide +kernel) (by decide +kernel)
theorem lk_X11_408 : zLk RX11 408 yX11_gaugeAt cX11_gaugeAt 2 (some (.object "PartyWalls$Gauge")) 1 := ⟨lc_X11_gaugeAt, zw_1 1 (by decide +kernel) (by decide +kernel), by decide +kernel, zw_6 169 (by decide +kernel) (by decide +kernel)⟩
theorem lc_X2_readings : Cond.code yX2_readings cX2_readings 1 (some .int) ∈ zw := zw_6 177 (by decide +kernel) (by decide +kernel)
theorem li_X2_readings : Cond.instanceMethod yX2_readings ∈ zw := zw_6 175 (by decide +kernel) (by decide +kernel)
theorem le_X2_readings : Cond.selects yX2_readings.cls yX2_readings yX2_readings ∈ zw := zw_6 176 (by decide +kernel) (by decide +kernel)
theorem lk_X11_412 : zLk RX11 412 yX2_readings cX2_readings 1 (some .int) 0 := ⟨lc_X2_readings, zw_1 32 (by decide +kernel) (by decide +kernel), by decide +kernel, zw_6 174 (by decide +kernel) (by decide +kernel)⟩
theorem lc_X2_isBehindLast : Cond.code yX2_isBehindLast cX2_isBehindLast 2 (some .boolean) ∈ zw := zw_6 181 (by decide +kernel) (by decide +kernel)
theorem li_X2_isBehindLast : Cond.instanceMethod yX2_isBehindLast ∈ zw := zw_6 179 (by decide +kernel) (by decide +kernel)
theorem le_X2_isBehindLast : Cond.selects yX2_isBehindLast.cls yX2_isBehindLast yX2_isBehindLast ∈ zw := zw_6 180 (by decide +kernel) (by decide +kernel)
theorem lk_X11_415 : zLk RX11 415 yX2_isBehindLast cX2_isBehindLast 2 (some .boolean) 1 := ⟨lc_X2_isBehindLast, zw_1 32 (by decide +kernel) (by decide +kernel), by decide +kernel, zw_6 178 (by decide +kernel) (by decide +kernel)⟩
theorem lc_X2_addReading : Cond.code yX2_addReading cX2_addReading 3 none ∈ zw := zw_6 185 (by decide +kernel) (by decide +kernel)
theorem li_X2_addReading : Cond.instanceMethod yX2_addReading ∈ zw := zw_6 183 (by decide +kernel) (by decide +kernel)
theorem le_X2_addReading : Cond.selects yX2_addReading.cls yX2_addReading yX2_addReading ∈ zw := zw_6 184 (by decide +kernel) (by decide +kernel)
theorem lk_X11_418 : zLk RX11 418 yX2_addReading cX2_addReading 3 none 2 := ⟨lc_X2_addReading, zw_1 32 (by decide +kernel) (by decide +kernel), by decide +kernel, zw_6 182 (by decide +kernel) (by decide +kernel)⟩
theorem lc_X2_covers : Cond.code yX2_covers cX2_covers 2 (some .boolean) ∈ zw := zw_6 196 (by decide +kernel) (by decide +kernel)
theorem li_X2_covers : Cond.instanceMethod yX2_covers ∈ zw := zw_6 194 (by decide +kernel) (by decide +kernel)
theorem le_X2_covers : Cond.selects yX2_covers.cls yX2_covers yX2_covers ∈ zw := zw_6 195 (by decide +kernel) (by decide +kernel)
theorem lk_X11_421 : zLk RX11 421 yX2_covers cX2_covers 2 (some .boolean) 1 := ⟨lc_X2_covers, zw_1 32 (by decide +kernel) (by decide +kernel), by decide +kernel, zw_6 193 (by decide +kernel) (by decide +kernel)⟩
theorem lc_X2_valueOn : Cond.code yX2_valueOn cX2_valueOn 6 (some .int) ∈ zw := zw_6 200 (by decide +kernel) (by decide +kernel)
theorem li_X2_valueOn : Cond.instanceMethod yX2_valueOn ∈ zw := zw_6 198 (by decide +kernel) (by decide +kernel)
theorem le_X2_valueOn : Cond.selects yX2_valueOn.cls yX2_valueOn yX2_valueOn ∈ zw := zw_6 199 (by decide +kernel) (by decide +kernel)
theorem lk_X11_424 : zLk RX11 424 yX2_valueOn cX2_valueOn 6 (some .int) 1 := ⟨lc_X2_valueOn, zw_1 32 (by decide +kernel) (by decide +kernel), by decide +kernel, zw_6 197 (by decide +kernel) (by decide +kernel)⟩
theorem lc_X11_hasCauses : Cond.code yX11_hasCauses cX11_hasCauses 5 (some .boolean) ∈ zw := zw_6 217 (by decide +kernel) (by decide +kernel)
theorem ls_X11_hasCauses : Cond.static yX11_hasCauses ∈ zw := zw_6 216 (by decide +kernel) (by decide +kernel)
theorem lk_X11_428 : zLk RX11 428 yX11_hasCauses cX11_hasCauses 5 (some .boolean) 4 := ⟨lc_X11_hasCauses, zw_1 1 (by decide +kernel) (by decide +kernel), by decide +kernel, zw_6 215 (by decide +kernel) (by decide +kernel)⟩
theorem lc_X2_change : Cond.code yX2_change cX2_change 3 (some .long) ∈ zw := zw_6 222 (by decide +kernel) (by decide +kernel)
theorem li_X2_change : Cond.instanceMethod yX2_change ∈ zw := zw_6 220 (by decide +kernel) (by decide +kernel)
theorem le_X2_change : Cond.selects yX2_change.cls yX2_change yX2_change ∈ zw := zw_6 221 (by decide +kernel) (by decide +kernel)
theorem lk_X11_434 : zLk RX11 434 yX2_change cX2_change 3 (some .long) 2 := ⟨lc_X2_change, zw_1 32 (by decide +kernel) (by decide +kernel), by decide +kernel, zw_6 219 (by decide +kernel) (by decide +kernel)⟩
theorem lc_X2_ageing : Cond.code yX2_ageing cX2_ageing 3 (some .long) ∈ zw := zw_6 227 (by decide +kernel) (by decide +kernel)
theorem li_X2_ageing : Cond.instanceMethod yX2_ageing ∈ zw := zw_6 225 (by decide +kernel) (by decide +kernel)
theorem le_X2_ageing : Cond.selects yX2_ageing.cls yX2_ageing yX2_ageing ∈ zw := zw_6 226 (by decide +kernel) (by decide +kernel)
theorem lk_X11_438 : zLk RX11 438 yX2_ageing cX2_ageing 3 (some .long) 2 := ⟨lc_X2_ageing, zw_1 32 (by decide +kernel) (by decide +kernel), by decide +kernel, zw_6 224 (by decide +kernel) (by decide +kernel)⟩
theorem lc_X11_byWorks : Cond.code yX11_byWorks cX11_byWorks 4 (some .long) ∈ zw := zw_6 230 (by decide +kernel) (by decide +kernel)
theorem ls_X11_byWorks : Cond.static yX11_byWorks ∈ zw := zw_6 229 (by decide +kernel) (by decide +kernel)
theorem lk_X11_441 : zLk RX11 441 yX11_byWorks cX11_byWorks 4 (some .long) 4 := ⟨lc_X11_byWorks, zw_1 1 (by decide +kernel) (by decide +kernel), by decide +kernel, zw_6 228 (by decide +kernel) (by decide +kernel)⟩
theorem lc_Jx4a65c_get_915e3 : Cond.code yJx4a65c_get_915e3 cJx4a65c_get_915e3 2 (some (.object "java/lang/Object")) ∈ zw := zw_3 58 (by decide +kernel) (by decide +kernel)
theorem li_Jx4a65c_get_915e3 : Cond.instanceMethod yJx4a65c_get_915e3 ∈ zw := zw_3 56 (by decide +kernel) (by decide +kernel)
theorem le_Jx4a65c_get_915e3 : Cond.selects yJx4a65c_get_915e3.cls yJx4a65c_get_915e3 yJx4a65c_get_915e3 ∈ zw := zw_3 57 (by decide +kernel) (by decide +kernel)
theorem lk_X11_450 : zLk RX11 450 yJx4a65c_get_915e3 cJx4a65c_get_915e3 2 (some (.object "java/lang/Object")) 1 := ⟨lc_Jx4a65c_get_915e3, zw_1 4 (by decide +kernel) (by decide +kernel), by decide +kernel, zw_3 55 (by decide +kernel) (by decide +kernel)⟩
theorem lc_X10_hearSilence : Cond.code yX10_hearSilence cX10_hearSilence 2 none ∈ zw := zw_4 156 (by decide +kernel) (by decide +kernel)
theorem li_X10_hearSilence : Cond.instanceMethod yX10_hearSilence ∈ zw := zw_4 154 (by decide +kernel) (by decide +kernel)
theorem le_X10_hearSilence : Cond.selects yX10_hearSilence.cls yX10_hearSilence yX10_hearSilence ∈ zw := zw_4 155 (by decide +kernel) (by decide +kernel)
theorem lk_X11_456 : zLk RX11 456 yX10_hearSilence cX10_hearSilence 2 none 1 := ⟨lc_X10_hearSilence, zw_1 29 (by decide +kernel) (by decide +kernel), by decide +kernel, zw_4 153 (by decide +kernel) (by decide +kernel)⟩
theorem lk_X1_40 : zLk RX1 40 yX1_sumKnown cX1_sumKnown 5 (some .int) 2 := ⟨lc_X1_sumKnown, zw_1 5 (by decide +kernel) (by decide +kernel), by decide +kernel, zw_6 23 (by decide +kernel) (by decide +kernel)⟩
theorem lc_X2_portion : Cond.code yX2_portion cX2_portion 4 (some .long) ∈ zw := zw_6 203 (by decide +kernel) (by decide +kernel)
theorem ls_X2_portion : Cond.static yX2_portion ∈ zw := zw_6 202 (by decide +kernel) (by decide +kernel)
theorem lk_X2_22 : zLk RX2 22 yX2_portion cX2_portion 4 (some .long) 3 := ⟨lc_X2_portion, zw_1 32 (by decide +kernel) (by decide +kernel), by decide +kernel, zw_6 201 (by decide +kernel) (by decide +kernel)⟩
theorem lk_X2_26 : zLk RX2 26 yX2_valueOn cX2_valueOn 6 (some .int) 1 := ⟨lc_X2_valueOn, zw_1 32 (by decide +kernel) (by decide +kernel), by decide +kernel, zw_6 223 (by decide +kernel) (by decide +kernel)⟩
theorem lc_J9_floorDiv_f86c9 : Cond.code yJ9_floorDiv_f86c9 cJ9_floorDiv_f86c9 6 (some .long) ∈ zw := zw_6 206 (by decide +kernel) (by decide +kernel)
theorem ls_J9_floorDiv_f86c9 : Cond.static yJ9_floorDiv_f86c9 ∈ zw := zw_6 205 (by decide +kernel) (by decide +kernel)
theorem lk_X2_30 : zLk RX2 30 yJ9_floorDiv_f86c9 cJ9_floorDiv_f86c9 6 (some .long) 2 := ⟨lc_J9_floorDiv_f86c9, zw_1 19 (by decide +kernel) (by decide +kernel), by decide +kernel, zw_6 204 (by decide +kernel) (by decide +kernel)⟩
theorem lk_X3_21 : zLk RX3 21 yX7_cracks cX7_cracks 1 (some .int) 0 := ⟨lc_X7_cracks, zw_1 31 (by decide +kernel) (by decide +kernel), by decide +kernel, zw_6 92 (by decide +kernel) (by decide +kernel)⟩
theorem lc_X3_fillFromTheEnd : Cond.code yX3_fillFromTheEnd cX3_fillFromTheEnd 9 none ∈ zw := zw_6 96 (by decide +kernel) (by decide +kernel)
theorem li_X3_fillFromTheEnd : Cond.instanceMethod yX3_fillFromTheEnd ∈ zw := zw_6 95 (by decide +kernel) (by decide +kernel)
theorem le_X3_fillFromTheEnd : Cond.selects yX3_fillFromTheEnd.cls yX3_fillFromTheEnd yX3_fillFromTheEnd ∈ zw := zw_0 26 (by decide +kernel) (by decide +kernel)
theorem lk_X3_31 : zLk RX3 31 yX3_fillFromTheEnd cX3_fillFromTheEnd 9 none 3 := ⟨lc_X3_fillFromTheEnd, zw_1 6 (by decide +kernel) (by decide +kernel), by decide +kernel, zw_6 93 (by decide +kernel) (by decide +kernel)⟩
theorem lc_X3_choosePairs : Cond.code yX3_choosePairs cX3_choosePairs 10 none ∈ zw := zw_6 111 (by decide +kernel) (by decide +kernel)
theorem li_X3_choosePairs : Cond.instanceMethod yX3_choosePairs ∈ zw := zw_6 110 (by decide +kernel) (by decide +kernel)
theorem le_X3_choosePairs : Cond.selects yX3_choosePairs.cls yX3_choosePairs yX3_choosePairs ∈ zw := zw_0 28 (by decide +kernel) (by decide +kernel)
theorem lk_X3_35 : zLk RX3 35 yX3_choosePairs cX3_choosePairs 10 none 3 := ⟨lc_X3_choosePairs, zw_1 6 (by decide +kernel) (by decide +kernel), by decide +kernel, zw_6 108 (by decide +kernel) (by decide +kernel)⟩
theorem lc_X3_offer : Cond.code yX3_offer cX3_offer 4 none ∈ zw := zw_6 100 (by decide +kernel) (by decide +kernel)
theorem li_X3_offer : Cond.instanceMethod yX3_offer ∈ zw := zw_6 99 (by decide +kernel) (by decide +kernel)
theorem le_X3_offer : Cond.selects yX3_offer.cls yX3_offer yX3_offer ∈ zw := zw_0 27 (by decide +kernel) (by decide +kernel)
theorem lk_X3_38 : zLk RX3 38 yX3_offer cX3_offer 4 none 3 := ⟨lc_X3_offer, zw_1 6 (by decide +kernel) (by decide +kernel), by decide +kernel, zw_6 97 (by decide +kernel) (by decide +kernel)⟩
theorem lc_X7_placeOf : Cond.code yX7_placeOf cX7_placeOf 2 (some .int) ∈ zw := zw_6 104 (by decide +kernel) (by decide +kernel)
theorem li_X7_placeOf : Cond.instanceMethod yX7_placeOf ∈ zw := zw_6 102 (by decide +kernel) (by decide +kernel)
theorem le_X7_placeOf : Cond.selects yX7_placeOf.cls yX7_placeOf yX7_placeOf ∈ zw := zw_6 103 (by decide +kernel) (by decide +kernel)
theorem lk_X3_42 : zLk RX3 42 yX7_placeOf cX7_placeOf 2 (some .int) 1 := ⟨lc_X7_placeOf, zw_1 31 (by decide +kernel) (by decide +kernel), by decide +kernel, zw_6 101 (by decide +kernel) (by decide +kernel)⟩
theorem lc_J9_abs_0f7a4 : Cond.code yJ9_abs_0f7a4 cJ9_abs_0f7a4 1 (some .int) ∈ zw := zw_6 107 (by decide +kernel) (by decide +kernel)
theorem ls_J9_abs_0f7a4 : Cond.static yJ9_abs_0f7a4 ∈ zw := zw_6 106 (by decide +kernel) (by decide +kernel)
theorem lk_X3_46 : zLk RX3 46 yJ9_abs_0f7a4 cJ9_abs_0f7a4 1 (some .int) 1 := ⟨lc_J9_abs_0f7a4, zw_1 19 (by decide +kernel) (by decide +kernel), by decide +kernel, zw_6 105 (by decide +kernel) (by decide +kernel)⟩
theorem lc_X7_trueWidthOf : Cond.code yX7_trueWidthOf cX7_trueWidthOf 2 (some .int) ∈ zw := zw_6 119 (by decide +kernel) (by decide +kernel)
theorem li_X7_trueWidthOf : Cond.instanceMethod yX7_trueWidthOf ∈ zw := zw_6 117 (by decide +kernel) (by decide +kernel)
theorem le_X7_trueWidthOf : Cond.selects yX7_trueWidthOf.cls yX7_trueWidthOf yX7_trueWidthOf ∈ zw := zw_6 118 (by decide +kernel) (by decide +kernel)
theorem lk_X3_51 : zLk RX3 51 yX7_trueWidthOf cX7_trueWidthOf 2 (some .int) 1 := ⟨lc_X7_trueWidthOf, zw_1 31 (by decide +kernel) (by decide +kernel), by decide +kernel, zw_6 116 (by decide +kernel) (by decide +kernel)⟩
theorem lc_X5_restsOn : Cond.code yX5_restsOn cX5_restsOn 2 (some .boolean) ∈ zw := zw_4 50 (by decide +kernel) (by decide +kernel)
theorem li_X5_restsOn : Cond.instanceMethod yX5_restsOn ∈ zw := zw_4 48 (by decide +kernel) (by decide +kernel)
theorem le_X5_restsOn : Cond.selects yX5_restsOn.cls yX5_restsOn yX5_restsOn ∈ zw := zw_4 49 (by decide +kernel) (by decide +kernel)
theorem lk_X5_45 : zLk RX5 45 yX5_restsOn cX5_restsOn 2 (some .boolean) 1 := ⟨lc_X5_restsOn, zw_1 10 (by decide +kernel) (by decide +kernel), by decide +kernel, zw_4 47 (by decide +kernel) (by decide +kernel)⟩
theorem lc_X5_compares : Cond.code yX5_compares cX5_compares 7 (some .boolean) ∈ zw := zw_4 65 (by decide +kernel) (by decide +kernel)
theorem ls_X5_compares : Cond.static yX5_compares ∈ zw := zw_4 64 (by decide +kernel) (by decide +kernel)
theorem lk_X5_51 : zLk RX5 51 yX5_compares cX5_compares 7 (some .boolean) 4 := ⟨lc_X5_compares, zw_1 10 (by decide +kernel) (by decide +kernel), by decide +kernel, zw_4 63 (by decide +kernel) (by decide +kernel)⟩
theorem lk_X6_49 : zLk RX6 49 yJ9_min_7cf53 cJ9_min_7cf53 2 (some .int) 2 := ⟨lc_J9_min_7cf53, zw_1 19 (by decide +kernel) (by decide +kernel), by decide +kernel, zw_3 119 (by decide +kernel) (by decide +kernel)⟩
theorem lc_X6_advance : Cond.code yX6_advance cX6_advance 1 none ∈ zw := zw_3 123 (by decide +kernel) (by decide +kernel)
theorem li_X6_advance : Cond.instanceMethod yX6_advance ∈ zw := zw_3 122 (by decide +kernel) (by decide +kernel)
theorem le_X6_advance : Cond.selects yX6_advance.cls yX6_advance yX6_advance ∈ zw := zw_0 6 (by decide +kernel) (by decide +kernel)
theorem lk_X6_61 : zLk RX6 61 yX6_advance cX6_advance 1 none 0 := ⟨lc_X6_advance, zw_1 7 (by decide +kernel) (by decide +kernel), by decide +kernel, zw_3 120 (by decide +kernel) (by decide +kernel)⟩
theorem lc_X6_readClause : Cond.code yX6_readClause cX6_readClause 3 (some .boolean) ∈ zw := zw_3 183 (by decide +kernel) (by decide +kernel)
theorem li_X6_readClause : Cond.instanceMethod yX6_readClause ∈ zw := zw_3 182 (by decide +kernel) (by decide +kernel)
theorem le_X6_readClause : Cond.selects yX6_readClause.cls yX6_readClause yX6_readClause ∈ zw := zw_0 8 (by decide +kernel) (by decide +kernel)
theorem lk_X6_67 : zLk RX6 67 yX6_readClause cX6_readClause 3 (some .boolean) 0 := ⟨lc_X6_readClause, zw_1 7 (by decide +kernel) (by decide +kernel), by decide +kernel, zw_3 180 (by decide +kernel) (by decide +kernel)⟩
theorem lc_X6_isWithin : Cond.code yX6_isWithin cX6_isWithin 3 (some .boolean) ∈ zw := zw_3 127 (by decide +kernel) (by decide +kernel)
theorem li_X6_isWithin : Cond.instanceMethod yX6_isWithin ∈ zw := zw_3 126 (by decide +kernel) (by decide +kernel)
theorem le_X6_isWithin : Cond.selects yX6_isWithin.cls yX6_isWithin yX6_isWithin ∈ zw := zw_0 7 (by decide +kernel) (by decide +kernel)
theorem lk_X6_71 : zLk RX6 71 yX6_isWithin cX6_isWithin 3 (some .boolean) 2 := ⟨lc_X6_isWithin, zw_1 7 (by decide +kernel) (by decide +kernel), by decide +kernel, zw_3 124 (by decide +kernel) (by decide +kernel)⟩
theorem lc_X9_of : Cond.code yX9_of cX9_of 6 (some (.object "PartyWalls$Word")) ∈ zw := zw_3 130 (by decide +kernel) (by decide +kernel)
theorem ls_X9_of : Cond.static yX9_of ∈ zw := zw_3 129 (by decide +kernel) (by decide +kernel)
theorem lk_X6_75 : zLk RX6 75 yX9_of cX9_of 6 (some (.object "PartyWalls$Word")) 3 := ⟨lc_X9_of, zw_1 9 (by decide +kernel) (by decide +kernel), by decide +kernel, zw_3 128 (by decide +kernel) (by decide +kernel)⟩
theorem lc_X6_fail : Cond.code yX6_fail cX6_fail 2 (some .boolean) ∈ zw := zw_3 187 (by decide +kernel) (by decide +kernel)
theorem li_X6_fail : Cond.instanceMethod yX6_fail ∈ zw := zw_3 186 (by decide +kernel) (by decide +kernel)
theorem le_X6_fail : Cond.selects yX6_fail.cls yX6_fail yX6_fail ∈ zw := zw_0 9 (by decide +kernel) (by decide +kernel)
theorem lk_X6_79 : zLk RX6 79 yX6_fail cX6_fail 2 (some .boolean) 1 := ⟨lc_X6_fail, zw_1 7 (by decide +kernel) (by decide +kernel), by decide +kernel, zw_3 184 (by decide +kernel) (by decide +kernel)⟩
theorem lc_X6_readNotice : Cond.code yX6_readNotice cX6_readNotice 3 (some .boolean) ∈ zw := zw_3 199 (by decide +kernel) (by decide +kernel)
theorem li_X6_readNotice : Cond.instanceMethod yX6_readNotice ∈ zw := zw_3 198 (by decide +kernel) (by decide +kernel)
theorem le_X6_readNotice : Cond.selects yX6_readNotice.cls yX6_readNotice yX6_readNotice ∈ zw := zw_0 10 (by decide +kernel) (by decide +kernel)
theorem lk_X6_102 : zLk RX6 102 yX6_readNotice cX6_readNotice 3 (some .boolean) 1 := ⟨lc_X6_readNotice, zw_1 7 (by decide +kernel) (by decide +kernel), by decide +kernel, zw_3 196 (by decide +kernel) (by decide +kernel)⟩
theorem lc_X6_readRestDays : Cond.code yX6_readRestDays cX6_readRestDays 4 (some .boolean) ∈ zw := zw_4 8 (by decide +kernel) (by decide +kernel)
theorem li_X6_readRestDays : Cond.instanceMethod yX6_readRestDays ∈ zw := zw_4 7 (by decide +kernel) (by decide +kernel)
theorem le_X6_readRestDays : Cond.selects yX6_readRestDays.cls yX6_readRestDays yX6_readRestDays ∈ zw := zw_0 17 (by decide +kernel) (by decide +kernel)
theorem lk_X6_105 : zLk RX6 105 yX6_readRestDays cX6_readRestDays 4 (some .boolean) 0 := ⟨lc_X6_readRestDays, zw_1 7 (by decide +kernel) (by decide +kernel), by decide +kernel, zw_4 5 (by decide +kernel) (by decide +kernel)⟩
theorem lc_X6_readSilence : Cond.code yX6_readSilence cX6_readSilence 1 (some .boolean) ∈ zw := zw_4 12 (by decide +kernel) (by decide +kernel)
theorem li_X6_readSilence : Cond.instanceMethod yX6_readSilence ∈ zw := zw_4 11 (by decide +kernel) (by decide +kernel)
theorem le_X6_readSilence : Cond.selects yX6_readSilence.cls yX6_readSilence yX6_readSilence ∈ zw := zw_0 18 (by decide +kernel) (by decide +kernel)
theorem lk_X6_108 : zLk RX6 108 yX6_readSilence cX6_readSilence 1 (some .boolean) 0 := ⟨lc_X6_readSilence, zw_1 7 (by decide +kernel) (by decide +kernel), by decide +kernel, zw_4 9 (by decide +kernel) (by decide +kernel)⟩
theorem lc_X6_readHours : Cond.code yX6_readHours cX6_readHours 1 (some .boolean) ∈ zw := zw_4 20 (by decide +kernel) (by decide +kernel)
theorem li_X6_readHours : Cond.instanceMethod yX6_readHours ∈ zw := zw_4 19 (by decide +kernel) (by decide +kernel)
theorem le_X6_readHours : Cond.selects yX6_readHours.cls yX6_readHours yX6_readHours ∈ zw := zw_0 19 (by decide +kernel) (by decide +kernel)
theorem lk_X6_111 : zLk RX6 111 yX6_readHours cX6_readHours 1 (some .boolean) 0 := ⟨lc_X6_readHours, zw_1 7 (by decide +kernel) (by decide +kernel), by decide +kernel, zw_4 17 (by decide +kernel) (by decide +kernel)⟩
theorem lc_X6_readSetting : Cond.code yX6_readSetting cX6_readSetting 2 (some .boolean) ∈ zw := zw_4 24 (by decide +kernel) (by decide +kernel)
theorem li_X6_readSetting : Cond.instanceMethod yX6_readSetting ∈ zw := zw_4 23 (by decide +kernel) (by decide +kernel)
theorem le_X6_readSetting : Cond.selects yX6_readSetting.cls yX6_readSetting yX6_readSetting ∈ zw := zw_0 20 (by decide +kernel) (by decide +kernel)
theorem lk_X6_114 : zLk RX6 114 yX6_readSetting cX6_readSetting 2 (some .boolean) 1 := ⟨lc_X6_readSetting, zw_1 7 (by decide +kernel) (by decide +kernel), by decide +kernel, zw_4 21 (by decide +kernel) (by decide +kernel)⟩
theorem lc_X6_takeSign : Cond.code yX6_takeSign cX6_takeSign 2 (some .boolean) ∈ zw := zw_3 227 (by decide +kernel) (by decide +kernel)
theorem li_X6_takeSign : Cond.instanceMethod yX6_takeSign ∈ zw := zw_3 226 (by decide +kernel) (by decide +kernel)
theorem le_X6_takeSign : Cond.selects yX6_takeSign.cls yX6_takeSign yX6_takeSign ∈ zw := zw_0 16 (by decide +kernel) (by decide +kernel)
theorem lk_X6_118 : zLk RX6 118 yX6_takeSign cX6_takeSign 2 (some .boolean) 1 := ⟨lc_X6_takeSign, zw_1 7 (by decide +kernel) (by decide +kernel), by decide +kernel, zw_3 224 (by decide +kernel) (by decide +kernel)⟩
theorem lc_X6_takeNumber : Cond.code yX6_takeNumber cX6_takeNumber 3 (some .boolean) ∈ zw := zw_3 203 (by decide +kernel) (by decide +kernel)
theorem li_X6_takeNumber : Cond.instanceMethod yX6_takeNumber ∈ zw := zw_3 202 (by decide +kernel) (by decide +kernel)
theorem le_X6_takeNumber : Cond.selects yX6_takeNumber.cls yX6_takeNumber yX6_takeNumber ∈ zw := zw_0 11 (by decide +kernel) (by decide +kernel)
theorem lk_X6_125 : zLk RX6 125 yX6_takeNumber cX6_takeNumber 3 (some .boolean) 2 := ⟨lc_X6_takeNumber, zw_1 7 (by decide +kernel) (by decide +kernel), by decide +kernel, zw_3 200 (by decide +kernel) (by decide +kernel)⟩
theorem lc_X6_readAnyOf : Cond.code yX6_readAnyOf cX6_readAnyOf 4 (some .boolean) ∈ zw := zw_3 209 (by decide +kernel) (by decide +kernel)
theorem li_X6_readAnyOf : Cond.instanceMethod yX6_readAnyOf ∈ zw := zw_3 208 (by decide +kernel) (by decide +kernel)
theorem le_X6_readAnyOf : Cond.selects yX6_readAnyOf.cls yX6_readAnyOf yX6_readAnyOf ∈ zw := zw_0 12 (by decide +kernel) (by decide +kernel)
theorem lk_X6_177 : zLk RX6 177 yX6_readAnyOf cX6_readAnyOf 4 (some .boolean) 1 := ⟨lc_X6_readAnyOf, zw_1 7 (by decide +kernel) (by decide +kernel), by decide +kernel, zw_3 206 (by decide +kernel) (by decide +kernel)⟩
theorem lc_J7_copyOf_59c91 : Cond.code yJ7_copyOf_59c91 cJ7_copyOf_59c91 3 (some (.array .int)) ∈ zw := zw_3 237 (by decide +kernel) (by decide +kernel)
theorem ls_J7_copyOf_59c91 : Cond.static yJ7_copyOf_59c91 ∈ zw := zw_3 236 (by decide +kernel) (by decide +kernel)
theorem lk_X6_184 : zLk RX6 184 yJ7_copyOf_59c91 cJ7_copyOf_59c91 3 (some (.array .int)) 2 := ⟨lc_J7_copyOf_59c91, zw_1 20 (by decide +kernel) (by decide +kernel), by decide +kernel, zw_3 235 (by decide +kernel) (by decide +kernel)⟩
theorem lc_X6_readAllOf : Cond.code yX6_readAllOf cX6_readAllOf 4 (some .boolean) ∈ zw := zw_3 213 (by decide +kernel) (by decide +kernel)
theorem li_X6_readAllOf : Cond.instanceMethod yX6_readAllOf ∈ zw := zw_3 212 (by decide +kernel) (by decide +kernel)
theorem le_X6_readAllOf : Cond.selects yX6_readAllOf.cls yX6_readAllOf yX6_readAllOf ∈ zw := zw_0 13 (by decide +kernel) (by decide +kernel)
theorem lk_X6_190 : zLk RX6 190 yX6_readAllOf cX6_readAllOf 4 (some .boolean) 1 := ⟨lc_X6_readAllOf, zw_1 7 (by decide +kernel) (by decide +kernel), by decide +kernel, zw_3 210 (by decide +kernel) (by decide +kernel)⟩
theorem lc_X6_addStep : Cond.code yX6_addStep cX6_addStep 2 (some .boolean) ∈ zw := zw_3 223 (by decide +kernel) (by decide +kernel)
theorem li_X6_addStep : Cond.instanceMethod yX6_addStep ∈ zw := zw_3 222 (by decide +kernel) (by decide +kernel)
theorem le_X6_addStep : Cond.selects yX6_addStep.cls yX6_addStep yX6_addStep ∈ zw := zw_0 15 (by decide +kernel) (by decide +kernel)
theorem lk_X6_196 : zLk RX6 196 yX6_addStep cX6_addStep 2 (some .boolean) 1 := ⟨lc_X6_addStep, zw_1 7 (by decide +kernel) (by decide +kernel), by decide +kernel, zw_3 220 (by decide +kernel) (by decide +kernel)⟩
theorem lc_X6_readOne : Cond.code yX6_readOne cX6_readOne 5 (some .boolean) ∈ zw := zw_3 217 (by decide +kernel) (by decide +kernel)
theorem li_X6_readOne : Cond.instanceMethod yX6_readOne ∈ zw := zw_3 216 (by decide +kernel) (by decide +kernel)
theorem le_X6_readOne : Cond.selects yX6_readOne.cls yX6_readOne yX6_readOne ∈ zw := zw_0 14 (by decide +kernel) (by decide +kernel)
theorem lk_X6_199 : zLk RX6 199 yX6_readOne cX6_readOne 5 (some .boolean) 1 := ⟨lc_X6_readOne, zw_1 7 (by decide +kernel) (by decide +kernel), by decide +kernel, zw_3 214 (by decide +kernel) (by decide +kernel)⟩
theorem lc_X6_measureOf : Cond.code yX6_measureOf cX6_measureOf 1 (some .int) ∈ zw := zw_3 230 (by decide +kernel) (by decide +kernel)
theorem ls_X6_measureOf : Cond.static yX6_measureOf ∈ zw := zw_3 229 (by decide +kernel) (by decide +kernel)
theorem lk_X6_208 : zLk RX6 208 yX6_measureOf cX6_measureOf 1 (some .int) 1 := ⟨lc_X6_measureOf, zw_1 7 (by decide +kernel) (by decide +kernel), by decide +kernel, zw_3 228 (by decide +kernel) (by decide +kernel)⟩
theorem lc_J9_max_7cf53 : Cond.code yJ9_max_7cf53 cJ9_max_7cf53 2 (some .int) ∈ zw := zw_3 0 (by decide +kernel) (by decide +kernel)
theorem ls_J9_max_7cf53 : Cond.static yJ9_max_7cf53 ∈ zw := zw_2 239 (by decide +kernel) (by decide +kernel)
theorem lk_X8_30 : zLk RX8 30 yJ9_max_7cf53 cJ9_max_7cf53 2 (some .int) 2 := ⟨lc_J9_max_7cf53, zw_1 19 (by decide +kernel) (by decide +kernel), by decide +kernel, zw_5 130 (by decide +kernel) (by decide +kernel)⟩
theorem lk_X8_36 : zLk RX8 36 yJ9_min_7cf53 cJ9_min_7cf53 2 (some .int) 2 := ⟨lc_J9_min_7cf53, zw_1 19 (by decide +kernel) (by decide +kernel), by decide +kernel, zw_5 161 (by decide +kernel) (by decide +kernel)⟩
theorem lk_X8_39 : zLk RX8 39 yX8_usersOf cX8_usersOf 3 (some .int) 2 := ⟨lc_X8_usersOf, zw_1 17 (by decide +kernel) (by decide +kernel), by decide +kernel, zw_5 162 (by decide +kernel) (by decide +kernel)⟩
theorem lk_X8_42 : zLk RX8 42 yX8_valueOf cX8_valueOf 7 (some .int) 4 := ⟨lc_X8_valueOf, zw_1 17 (by decide +kernel) (by decide +kernel), by decide +kernel, zw_5 166 (by decide +kernel) (by decide +kernel)⟩
theorem lc_J0_length_8abf5 : Cond.code yJ0_length_8abf5 cJ0_length_8abf5 1 (some .int) ∈ zw := zw_3 137 (by decide +kernel) (by decide +kernel)
theorem li_J0_length_8abf5 : Cond.instanceMethod yJ0_length_8abf5 ∈ zw := zw_3 135 (by decide +kernel) (by decide +kernel)
theorem le_J0_length_8abf5 : Cond.selects yJ0_length_8abf5.cls yJ0_length_8abf5 yJ0_length_8abf5 ∈ zw := zw_3 136 (by decide +kernel) (by decide +kernel)
theorem lk_X9_106 : zLk RX9 106 yJ0_length_8abf5 cJ0_length_8abf5 1 (some .int) 0 := ⟨lc_J0_length_8abf5, zw_1 25 (by decide +kernel) (by decide +kernel), by decide +kernel, zw_3 134 (by decide +kernel) (by decide +kernel)⟩
theorem lc_J0_charAt_5068e : Cond.code yJ0_charAt_5068e cJ0_charAt_5068e 2 (some .char) ∈ zw := zw_3 147 (by decide +kernel) (by decide +kernel)
theorem li_J0_charAt_5068e : Cond.instanceMethod yJ0_charAt_5068e ∈ zw := zw_3 145 (by decide +kernel) (by decide +kernel)
theorem le_J0_charAt_5068e : Cond.selects yJ0_charAt_5068e.cls yJ0_charAt_5068e yJ0_charAt_5068e ∈ zw := zw_3 146 (by decide +kernel) (by decide +kernel)
theorem lk_X9_112 : zLk RX9 112 yJ0_charAt_5068e cJ0_charAt_5068e 2 (some .char) 1 := ⟨lc_J0_charAt_5068e, zw_1 25 (by decide +kernel) (by decide +kernel), by decide +kernel, zw_3 144 (by decide +kernel) (by decide +kernel)⟩
theorem lk_X10_60 : zLk RX10 60 yX8_ownerOf cX8_ownerOf 2 (some .int) 1 := ⟨lc_X8_ownerOf, zw_1 17 (by decide +kernel) (by decide +kernel), by decide +kernel, zw_5 99 (by decide +kernel) (by decide +kernel)⟩
theorem lk_X10_74 : zLk RX10 74 yX5_countFrom cX5_countFrom 6 (some .int) 2 := ⟨lc_X5_countFrom, zw_1 10 (by decide +kernel) (by decide +kernel), by decide +kernel, zw_4 176 (by decide +kernel) (by decide +kernel)⟩
theorem lk_X10_82 : zLk RX10 82 yX10_allowByNotice cX10_allowByNotice 1 none 0 := ⟨lc_X10_allowByNotice, zw_1 29 (by decide +kernel) (by decide +kernel), by decide +kernel, zw_4 157 (by decide +kernel) (by decide +kernel)⟩
theorem lk_X10_85 : zLk RX10 85 yX10_disputeFromDay cX10_disputeFromDay 2 none 1 := ⟨lc_X10_disputeFromDay, zw_1 29 (by decide +kernel) (by decide +kernel), by decide +kernel, zw_4 161 (by decide +kernel) (by decide +kernel)⟩
theorem lc_X4_isLike : Cond.code yX4_isLike cX4_isLike 2 (some .boolean) ∈ zw := zw_5 43 (by decide +kernel) (by decide +kernel)
theorem li_X4_isLike : Cond.instanceMethod yX4_isLike ∈ zw := zw_5 41 (by decide +kernel) (by decide +kernel)
theorem le_X4_isLike : Cond.selects yX4_isLike.cls yX4_isLike yX4_isLike ∈ zw := zw_5 42 (by decide +kernel) (by decide +kernel)
theorem lk_X10_95 : zLk RX10 95 yX4_isLike cX4_isLike 2 (some .boolean) 1 := ⟨lc_X4_isLike, zw_1 30 (by decide +kernel) (by decide +kernel), by decide +kernel, zw_5 40 (by decide +kernel) (by decide +kernel)⟩
theorem lk_X10_109 : zLk RX10 109 yX5_restsOn cX5_restsOn 2 (some .boolean) 1 := ⟨lc_X5_restsOn, zw_1 10 (by decide +kernel) (by decide +kernel), by decide +kernel, zw_5 88 (by decide +kernel) (by decide +kernel)⟩
theorem lk_X10_113 : zLk RX10 113 yX10_firstHour cX10_firstHour 1 (some .int) 0 := ⟨lc_X10_firstHour, zw_1 29 (by decide +kernel) (by decide +kernel), by decide +kernel, zw_5 89 (by decide +kernel) (by decide +kernel)⟩
theorem lk_X10_117 : zLk RX10 117 yX10_endHour cX10_endHour 1 (some .int) 0 := ⟨lc_X10_endHour, zw_1 29 (by decide +kernel) (by decide +kernel), by decide +kernel, zw_5 90 (by decide +kernel) (by decide +kernel)⟩
theorem lc_X11_owner : Cond.code yX11_owner cX11_owner 1 (some .int) ∈ zw := zw_2 96 (by decide +kernel) (by decide +kernel)
theorem li_X11_owner : Cond.instanceMethod yX11_owner ∈ zw := zw_2 94 (by decide +kernel) (by decide +kernel)
theorem le_X11_owner : Cond.selects yX11_owner.cls yX11_owner yX11_owner ∈ zw := zw_2 95 (by decide +kernel) (by decide +kernel)
theorem lk_L_7 : zLk RL 7 yX11_owner cX11_owner 1 (some .int) 0 := ⟨lc_X11_owner, zw_1 1 (by decide +kernel) (by decide +kernel), by decide +kernel, zw_2 93 (by decide +kernel) (by decide +kernel)⟩
theorem lc_X11_wall : Cond.code yX11_wall cX11_wall 3 (some .int) ∈ zw := zw_2 174 (by decide +kernel) (by decide +kernel)
theorem li_X11_wall : Cond.instanceMethod yX11_wall ∈ zw := zw_2 172 (by decide +kernel) (by decide +kernel)
theorem le_X11_wall : Cond.selects yX11_wall.cls yX11_wall yX11_wall ∈ zw := zw_2 173 (by decide +kernel) (by decide +kernel)
theorem lk_L_15 : zLk RL 15 yX11_wall cX11_wall 3 (some .int) 2 := ⟨lc_X11_wall, zw_1 1 (by decide +kernel) (by decide +kernel), by decide +kernel, zw_2 171 (by decide +kernel) (by decide +kernel)⟩
theorem lc_X11_sell : Cond.code yX11_sell cX11_sell 6 (some .int) ∈ zw := zw_3 49 (by decide +kernel) (by decide +kernel)
theorem li_X11_sell : Cond.instanceMethod yX11_sell ∈ zw := zw_3 47 (by decide +kernel) (by decide +kernel)
theorem le_X11_sell : Cond.selects yX11_sell.cls yX11_sell yX11_sell ∈ zw := zw_3 48 (by decide +kernel) (by decide +kernel)
theorem lk_L_21 : zLk RL 21 yX11_sell cX11_sell 6 (some .int) 3 := ⟨lc_X11_sell, zw_1 1 (by decide +kernel) (by decide +kernel), by decide +kernel, zw_3 46 (by decide +kernel) (by decide +kernel)⟩
theorem lc_X11_wait : Cond.code yX11_wait cX11_wait 2 (some .int) ∈ zw := zw_3 105 (by decide +kernel) (by decide +kernel)
theorem li_X11_wait : Cond.instanceMethod yX11_wait ∈ zw := zw_3 103 (by decide +kernel) (by decide +kernel)
theorem le_X11_wait : Cond.selects yX11_wait.cls yX11_wait yX11_wait ∈ zw := zw_3 104 (by decide +kernel) (by decide +kernel)
theorem lk_L_27 : zLk RL 27 yX11_wait cX11_wait 2 (some .int) 1 := ⟨lc_X11_wait, zw_1 1 (by decide +kernel) (by decide +kernel), by decide +kernel, zw_3 102 (by decide +kernel) (by decide +kernel)⟩
theorem lc_X11_rule : Cond.code yX11_rule cX11_rule 3 (some .int) ∈ zw := zw_3 114 (by decide +kernel) (by decide +kernel)
theorem li_X11_rule : Cond.instanceMethod yX11_rule ∈ zw := zw_3 112 (by decide +kernel) (by decide +kernel)
theorem le_X11_rule : Cond.selects yX11_rule.cls yX11_rule yX11_rule ∈ zw := zw_3 113 (by decide +kernel) (by decide +kernel)
theorem lk_L_31 : zLk RL 31 yX11_rule cX11_rule 3 (some .int) 1 := ⟨lc_X11_rule, zw_1 1 (by decide +kernel) (by decide +kernel), by decide +kernel, zw_3 111 (by decide +kernel) (by decide +kernel)⟩
theorem lc_X11_counted : Cond.code yX11_counted cX11_counted 3 (some .int) ∈ zw := zw_4 37 (by decide +kernel) (by decide +kernel)
theorem li_X11_counted : Cond.instanceMethod yX11_counted ∈ zw := zw_4 35 (by decide +kernel) (by decide +kernel)
theorem le_X11_counted : Cond.selects yX11_counted.cls yX11_counted yX11_counted ∈ zw := zw_4 36 (by decide +kernel) (by decide +kernel)
theorem lk_L_34 : zLk RL 34 yX11_counted cX11_counted 3 (some .int) 2 := ⟨lc_X11_counted, zw_1 1 (by decide +kernel) (by decide +kernel), by decide +kernel, zw_4 34 (by decide +kernel) (by decide +kernel)⟩
theorem lc_X11_work : Cond.code yX11_work cX11_work 9 (some .int) ∈ zw := zw_4 57 (by decide +kernel) (by decide +kernel)
theorem li_X11_work : Cond.instanceMethod yX11_work ∈ zw := zw_4 55 (by decide +kernel) (by decide +kernel)
theorem le_X11_work : Cond.selects yX11_work.cls yX11_work yX11_work ∈ zw := zw_4 56 (by decide +kernel) (by decide +kernel)
theorem lk_L_37 : zLk RL 37 yX11_work cX11_work 9 (some .int) 6 := ⟨lc_X11_work, zw_1 1 (by decide +kernel) (by decide +kernel), by decide +kernel, zw_4 54 (by decide +kernel) (by decide +kernel)⟩
theorem lc_X11_state : Cond.code yX11_state cX11_state 2 (some .int) ∈ zw := zw_4 147 (by decide +kernel) (by decide +kernel)
theorem li_X11_state : Cond.instanceMethod yX11_state ∈ zw := zw_4 145 (by decide +kernel) (by decide +kernel)
theorem le_X11_state : Cond.selects yX11_state.cls yX11_state yX11_state ∈ zw := zw_4 146 (by decide +kernel) (by decide +kernel)
theorem lk_L_41 : zLk RL 41 yX11_state cX11_state 2 (some .int) 1 := ⟨lc_X11_state, zw_1 1 (by decide +kernel) (by decide +kernel), by decide +kernel, zw_4 144 (by decide +kernel) (by decide +kernel)⟩
theorem lc_X11_notice : Cond.code yX11_notice cX11_notice 3 (some .int) ∈ zw := zw_4 171 (by decide +kernel) (by decide +kernel)
theorem li_X11_notice : Cond.instanceMethod yX11_notice ∈ zw := zw_4 169 (by decide +kernel) (by decide +kernel)
theorem le_X11_notice : Cond.selects yX11_notice.cls yX11_notice yX11_notice ∈ zw := zw_4 170 (by decide +kernel) (by decide +kernel)
theorem lk_L_44 : zLk RL 44 yX11_notice cX11_notice 3 (some .int) 1 := ⟨lc_X11_notice, zw_1 1 (by decide +kernel) (by decide +kernel), by decide +kernel, zw_4 168 (by decide +kernel) (by decide +kernel)⟩
theorem lc_X11_answer : Cond.code yX11_answer cX11_answer 4 (some .int) ∈ zw := zw_4 183 (by decide +kernel) (by decide +kernel)
theorem li_X11_answer : Cond.instanceMethod yX11_answer ∈ zw := zw_4 181 (by decide +kernel) (by decide +kernel)
theorem le_X11_answer : Cond.selects yX11_answer.cls yX11_answer yX11_answer ∈ zw := zw_4 182 (by decide +kernel) (by decide +kernel)
theorem lk_L_47 : zLk RL 47 yX11_answer cX11_answer 4 (some .int) 2 := ⟨lc_X11_answer, zw_1 1 (by decide +kernel) (by decide +kernel), by decide +kernel, zw_4 180 (by decide +kernel) (by decide +kernel)⟩
theorem lc_X11_told : Cond.code yX11_told cX11_told 4 (some .int) ∈ zw := zw_4 192 (by decide +kernel) (by decide +kernel)
theorem li_X11_told : Cond.instanceMethod yX11_told ∈ zw := zw_4 190 (by decide +kernel) (by decide +kernel)
theorem le_X11_told : Cond.selects yX11_told.cls yX11_told yX11_told ∈ zw := zw_4 191 (by decide +kernel) (by decide +kernel)
theorem lk_L_51 : zLk RL 51 yX11_told cX11_told 4 (some .int) 2 := ⟨lc_X11_told, zw_1 1 (by decide +kernel) (by decide +kernel), by decide +kernel, zw_4 189 (by decide +kernel) (by decide +kernel)⟩
theorem lc_X11_surveyor : Cond.code yX11_surveyor cX11_surveyor 2 (some .int) ∈ zw := zw_4 219 (by decide +kernel) (by decide +kernel)
theorem li_X11_surveyor : Cond.instanceMethod yX11_surveyor ∈ zw := zw_4 217 (by decide +kernel) (by decide +kernel)
theorem le_X11_surveyor : Cond.selects yX11_surveyor.cls yX11_surveyor yX11_surveyor ∈ zw := zw_4 218 (by decide +kernel) (by decide +kernel)
theorem lk_L_54 : zLk RL 54 yX11_surveyor cX11_surveyor 2 (some .int) 1 := ⟨lc_X11_surveyor, zw_1 1 (by decide +kernel) (by decide +kernel), by decide +kernel, zw_4 216 (by decide +kernel) (by decide +kernel)⟩
theorem lc_X11_appoint : Cond.code yX11_appoint cX11_appoint 6 (some .int) ∈ zw := zw_4 226 (by decide +kernel) (by decide +kernel)
theorem li_X11_appoint : Cond.instanceMethod yX11_appoint ∈ zw := zw_4 224 (by decide +kernel) (by decide +kernel)
theorem le_X11_appoint : Cond.selects yX11_appoint.cls yX11_appoint yX11_appoint ∈ zw := zw_4 225 (by decide +kernel) (by decide +kernel)
theorem lk_L_57 : zLk RL 57 yX11_appoint cX11_appoint 6 (some .int) 4 := ⟨lc_X11_appoint, zw_1 1 (by decide +kernel) (by decide +kernel), by decide +kernel, zw_4 223 (by decide +kernel) (by decide +kernel)⟩
theorem lc_X11_surveys : Cond.code yX11_surveys cX11_surveys 4 (some .int) ∈ zw := zw_5 5 (by decide +kernel) (by decide +kernel)
theorem li_X11_surveys : Cond.instanceMethod yX11_surveys ∈ zw := zw_5 3 (by decide +kernel) (by decide +kernel)
theorem le_X11_surveys : Cond.selects yX11_surveys.cls yX11_surveys yX11_surveys ∈ zw := zw_5 4 (by decide +kernel) (by decide +kernel)
theorem lk_L_61 : zLk RL 61 yX11_surveys cX11_surveys 4 (some .int) 2 := ⟨lc_X11_surveys, zw_1 1 (by decide +kernel) (by decide +kernel), by decide +kernel, zw_5 2 (by decide +kernel) (by decide +kernel)⟩
theorem lc_X11_propose : Cond.code yX11_propose cX11_propose 8 (some .int) ∈ zw := zw_5 12 (by decide +kernel) (by decide +kernel)
theorem li_X11_propose : Cond.instanceMethod yX11_propose ∈ zw := zw_5 10 (by decide +kernel) (by decide +kernel)
theorem le_X11_propose : Cond.selects yX11_propose.cls yX11_propose yX11_propose ∈ zw := zw_5 11 (by decide +kernel) (by decide +kernel)
theorem lk_L_64 : zLk RL 64 yX11_propose cX11_propose 8 (some .int) 5 := ⟨lc_X11_propose, zw_1 1 (by decide +kernel) (by decide +kernel), by decide +kernel, zw_5 9 (by decide +kernel) (by decide +kernel)⟩
theorem lc_X11_appeal : Cond.code yX11_appeal cX11_appeal 3 (some .int) ∈ zw := zw_5 54 (by decide +kernel) (by decide +kernel)
theorem li_X11_appeal : Cond.instanceMethod yX11_appeal ∈ zw := zw_5 52 (by decide +kernel) (by decide +kernel)
theorem le_X11_appeal : Cond.selects yX11_appeal.cls yX11_appeal yX11_appeal ∈ zw := zw_5 53 (by decide +kernel) (by decide +kernel)
theorem lk_L_68 : zLk RL 68 yX11_appeal cX11_appeal 3 (some .int) 1 := ⟨lc_X11_appeal, zw_1 1 (by decide +kernel) (by decide +kernel), by decide +kernel, zw_5 51 (by decide +kernel) (by decide +kernel)⟩
theorem lc_X11_begin : Cond.code yX11_begin cX11_begin 3 (some .int) ∈ zw := zw_5 65 (by decide +kernel) (by decide +kernel)
theorem li_X11_begin : Cond.instanceMethod yX11_begin ∈ zw := zw_5 63 (by decide +kernel) (by decide +kernel)
theorem le_X11_begin : Cond.selects yX11_begin.cls yX11_begin yX11_begin ∈ zw := zw_5 64 (by decide +kernel) (by decide +kernel)
theorem lk_L_71 : zLk RL 71 yX11_begin cX11_begin 3 (some .int) 1 := ⟨lc_X11_begin, zw_1 1 (by decide +kernel) (by decide +kernel), by decide +kernel, zw_5 62 (by decide +kernel) (by decide +kernel)⟩
theorem lc_X11_done : Cond.code yX11_done cX11_done 3 (some .int) ∈ zw := zw_5 76 (by decide +kernel) (by decide +kernel)
theorem li_X11_done : Cond.instanceMethod yX11_done ∈ zw := zw_5 74 (by decide +kernel) (by decide +kernel)
theorem le_X11_done : Cond.selects yX11_done.cls yX11_done yX11_done ∈ zw := zw_5 75 (by decide +kernel) (by decide +kernel)
theorem lk_L_74 : zLk RL 74 yX11_done cX11_done 3 (some .int) 1 := ⟨lc_X11_done, zw_1 1 (by decide +kernel) (by decide +kernel), by decide +kernel, zw_5 73 (by decide +kernel) (by decide +kernel)⟩
theorem lc_X11_enter : Cond.code yX11_enter cX11_enter 4 (some .int) ∈ zw := zw_5 83 (by decide +kernel) (by decide +kernel)
theorem li_X11_enter : Cond.instanceMethod yX11_enter ∈ zw := zw_5 81 (by decide +kernel) (by decide +kernel)
theorem le_X11_enter : Cond.selects yX11_enter.cls yX11_enter yX11_enter ∈ zw := zw_5 82 (by decide +kernel) (by decide +kernel)
theorem lk_L_77 : zLk RL 77 yX11_enter cX11_enter 4 (some .int) 2 := ⟨lc_X11_enter, zw_1 1 (by decide +kernel) (by decide +kernel), by decide +kernel, zw_5 80 (by decide +kernel) (by decide +kernel)⟩
theorem lc_X11_entries : Cond.code yX11_entries cX11_entries 4 (some .int) ∈ zw := zw_5 114 (by decide +kernel) (by decide +kernel)
theorem li_X11_entries : Cond.instanceMethod yX11_entries ∈ zw := zw_5 112 (by decide +kernel) (by decide +kernel)
theorem le_X11_entries : Cond.selects yX11_entries.cls yX11_entries yX11_entries ∈ zw := zw_5 113 (by decide +kernel) (by decide +kernel)
theorem lk_L_80 : zLk RL 80 yX11_entries cX11_entries 4 (some .int) 2 := ⟨lc_X11_entries, zw_1 1 (by decide +kernel) (by decide +kernel), by decide +kernel, zw_5 111 (by decide +kernel) (by decide +kernel)⟩
theorem lc_X11_build : Cond.code yX11_build cX11_build 9 (some .int) ∈ zw := zw_5 121 (by decide +kernel) (by decide +kernel)
theorem li_X11_build : Cond.instanceMethod yX11_build ∈ zw := zw_5 119 (by decide +kernel) (by decide +kernel)
theorem le_X11_build : Cond.selects yX11_build.cls yX11_build yX11_build ∈ zw := zw_5 120 (by decide +kernel) (by decide +kernel)
theorem lk_L_83 : zLk RL 83 yX11_build cX11_build 9 (some .int) 5 := ⟨lc_X11_build, zw_1 1 (by decide +kernel) (by decide +kernel), by decide +kernel, zw_5 118 (by decide +kernel) (by decide +kernel)⟩
theorem lc_X11_lower : Cond.code yX11_lower cX11_lower 5 (some .int) ∈ zw := zw_5 145 (by decide +kernel) (by decide +kernel)
theorem li_X11_lower : Cond.instanceMethod yX11_lower ∈ zw := zw_5 143 (by decide +kernel) (by decide +kernel)
theorem le_X11_lower : Cond.selects yX11_lower.cls yX11_lower yX11_lower ∈ zw := zw_5 144 (by decide +kernel) (by decide +kernel)
theorem lk_L_86 : zLk RL 86 yX11_lower cX11_lower 5 (some .int) 3 := ⟨lc_X11_lower, zw_1 1 (by decide +kernel) (by decide +kernel), by decide +kernel, zw_5 142 (by decide +kernel) (by decide +kernel)⟩
theorem lc_X11_use : Cond.code yX11_use cX11_use 9 (some .int) ∈ zw := zw_5 156 (by decide +kernel) (by decide +kernel)
theorem li_X11_use : Cond.instanceMethod yX11_use ∈ zw := zw_5 154 (by decide +kernel) (by decide +kernel)
theorem le_X11_use : Cond.selects yX11_use.cls yX11_use yX11_use ∈ zw := zw_5 155 (by decide +kernel) (by decide +kernel)
theorem lk_L_89 : zLk RL 89 yX11_use cX11_use 9 (some .int) 5 := ⟨lc_X11_use, zw_1 1 (by decide +kernel) (by decide +kernel), by decide +kernel, zw_5 153 (by decide +kernel) (by decide +kernel)⟩
theorem lc_X11_cell : Cond.code yX11_cell cX11_cell 6 (some .int) ∈ zw := zw_5 184 (by decide +kernel) (by decide +kernel)
theorem li_X11_cell : Cond.instanceMethod yX11_cell ∈ zw := zw_5 182 (by decide +kernel) (by decide +kernel)
theorem le_X11_cell : Cond.selects yX11_cell.cls yX11_cell yX11_cell ∈ zw := zw_5 183 (by decide +kernel) (by decide +kernel)
theorem lk_L_92 : zLk RL 92 yX11_cell cX11_cell 6 (some .int) 4 := ⟨lc_X11_cell, zw_1 1 (by decide +kernel) (by decide +kernel), by decide +kernel, zw_5 181 (by decide +kernel) (by decide +kernel)⟩
theorem lc_X11_spend : Cond.code yX11_spend cX11_spend 5 (some .int) ∈ zw := zw_5 201 (by decide +kernel) (by decide +kernel)
theorem li_X11_spend : Cond.instanceMethod yX11_spend ∈ zw := zw_5 199 (by decide +kernel) (by decide +kernel)
theorem le_X11_spend : Cond.selects yX11_spend.cls yX11_spend yX11_spend ∈ zw := zw_5 200 (by decide +kernel) (by decide +kernel)
theorem lk_L_95 : zLk RL 95 yX11_spend cX11_spend 5 (some .int) 2 := ⟨lc_X11_spend, zw_1 1 (by decide +kernel) (by decide +kernel), by decide +kernel, zw_5 198 (by decide +kernel) (by decide +kernel)⟩
theorem lc_X11_secure : Cond.code yX11_secure cX11_secure 4 (some .int) ∈ zw := zw_5 208 (by decide +kernel) (by decide +kernel)
theorem li_X11_secure : Cond.instanceMethod yX11_secure ∈ zw := zw_5 206 (by decide +kernel) (by decide +kernel)
theorem le_X11_secure : Cond.selects yX11_secure.cls yX11_secure yX11_secure ∈ zw := zw_5 207 (by decide +kernel) (by decide +kernel)
theorem lk_L_98 : zLk RL 98 yX11_secure cX11_secure 4 (some .int) 2 := ⟨lc_X11_secure, zw_1 1 (by decide +kernel) (by decide +kernel), by decide +kernel, zw_5 205 (by decide +kernel) (by decide +kernel)⟩
theorem lc_X11_settle : Cond.code yX11_settle cX11_settle 5 (some .int) ∈ zw := zw_5 215 (by decide +kernel) (by decide +kernel)
theorem li_X11_settle : Cond.instanceMethod yX11_settle ∈ zw := zw_5 213 (by decide +kernel) (by decide +kernel)
theorem le_X11_settle : Cond.selects yX11_settle.cls yX11_settle yX11_settle ∈ zw := zw_5 214 (by decide +kernel) (by decide +kernel)
theorem lk_L_101 : zLk RL 101 yX11_settle cX11_settle 5 (some .int) 2 := ⟨lc_X11_settle, zw_1 1 (by decide +kernel) (by decide +kernel), by decide +kernel, zw_5 212 (by decide +kernel) (by decide +kernel)⟩
theorem lc_X11_mend : Cond.code yX11_mend cX11_mend 4 (some .int) ∈ zw := zw_5 223 (by decide +kernel) (by decide +kernel)
theorem li_X11_mend : Cond.instanceMethod yX11_mend ∈ zw := zw_5 221 (by decide +kernel) (by decide +kernel)
theorem le_X11_mend : Cond.selects yX11_mend.cls yX11_mend yX11_mend ∈ zw := zw_5 222 (by decide +kernel) (by decide +kernel)
theorem lk_L_104 : zLk RL 104 yX11_mend cX11_mend 4 (some .int) 2 := ⟨lc_X11_mend, zw_1 1 (by decide +kernel) (by decide +kernel), by decide +kernel, zw_5 220 (by decide +kernel) (by decide +kernel)⟩
theorem lc_X11_payment : Cond.code yX11_payment cX11_payment 3 (some .int) ∈ zw := zw_5 239 (by decide +kernel) (by decide +kernel)
theorem li_X11_payment : Cond.instanceMethod yX11_payment ∈ zw := zw_5 237 (by decide +kernel) (by decide +kernel)
theorem le_X11_payment : Cond.selects yX11_payment.cls yX11_payment yX11_payment ∈ zw := zw_5 238 (by decide +kernel) (by decide +kernel)
theorem lk_L_107 : zLk RL 107 yX11_payment cX11_payment 3 (some .int) 2 := ⟨lc_X11_payment, zw_1 1 (by decide +kernel) (by decide +kernel), by decide +kernel, zw_5 236 (by decide +kernel) (by decide +kernel)⟩
theorem lc_X11_balance : Cond.code yX11_balance cX11_balance 4 (some .long) ∈ zw := zw_6 18 (by decide +kernel) (by decide +kernel)
theorem li_X11_balance : Cond.instanceMethod yX11_balance ∈ zw := zw_6 16 (by decide +kernel) (by decide +kernel)
theorem le_X11_balance : Cond.selects yX11_balance.cls yX11_balance yX11_balance ∈ zw := zw_6 17 (by decide +kernel) (by decide +kernel)
theorem lk_L_110 : zLk RL 110 yX11_balance cX11_balance 4 (some .long) 3 := ⟨lc_X11_balance, zw_1 1 (by decide +kernel) (by decide +kernel), by decide +kernel, zw_6 15 (by decide +kernel) (by decide +kernel)⟩
theorem lc_X11_hand : Cond.code yX11_hand cX11_hand 2 (some .int) ∈ zw := zw_6 30 (by decide +kernel) (by decide +kernel)
theorem li_X11_hand : Cond.instanceMethod yX11_hand ∈ zw := zw_6 28 (by decide +kernel) (by decide +kernel)
theorem le_X11_hand : Cond.selects yX11_hand.cls yX11_hand yX11_hand ∈ zw := zw_6 29 (by decide +kernel) (by decide +kernel)
theorem lk_L_114 : zLk RL 114 yX11_hand cX11_hand 2 (some .int) 1 := ⟨lc_X11_hand, zw_1 1 (by decide +kernel) (by decide +kernel), by decide +kernel, zw_6 27 (by decide +kernel) (by decide +kernel)⟩
theorem lc_X11_survey : Cond.code yX11_survey cX11_survey 2 (some .int) ∈ zw := zw_6 37 (by decide +kernel) (by decide +kernel)
theorem li_X11_survey : Cond.instanceMethod yX11_survey ∈ zw := zw_6 35 (by decide +kernel) (by decide +kernel)
theorem le_X11_survey : Cond.selects yX11_survey.cls yX11_survey yX11_survey ∈ zw := zw_6 36 (by decide +kernel) (by decide +kernel)
theorem lk_L_117 : zLk RL 117 yX11_survey cX11_survey 2 (some .int) 1 := ⟨lc_X11_survey, zw_1 1 (by decide +kernel) (by decide +kernel), by decide +kernel, zw_6 34 (by decide +kernel) (by decide +kernel)⟩
theorem lc_X11_crack : Cond.code yX11_crack cX11_crack 5 (some .int) ∈ zw := zw_6 63 (by decide +kernel) (by decide +kernel)
theorem li_X11_crack : Cond.instanceMethod yX11_crack ∈ zw := zw_6 61 (by decide +kernel) (by decide +kernel)
theorem le_X11_crack : Cond.selects yX11_crack.cls yX11_crack yX11_crack ∈ zw := zw_6 62 (by decide +kernel) (by decide +kernel)
theorem lk_L_120 : zLk RL 120 yX11_crack cX11_crack 5 (some .int) 3 := ⟨lc_X11_crack, zw_1 1 (by decide +kernel) (by decide +kernel), by decide +kernel, zw_6 60 (by decide +kernel) (by decide +kernel)⟩
theorem lc_X11_joined : Cond.code yX11_joined cX11_joined 7 (some .int) ∈ zw := zw_6 87 (by decide +kernel) (by decide +kernel)
theorem li_X11_joined : Cond.instanceMethod yX11_joined ∈ zw := zw_6 85 (by decide +kernel) (by decide +kernel)
theorem le_X11_joined : Cond.selects yX11_joined.cls yX11_joined yX11_joined ∈ zw := zw_6 86 (by decide +kernel) (by decide +kernel)
theorem lk_L_123 : zLk RL 123 yX11_joined cX11_joined 7 (some .int) 3 := ⟨lc_X11_joined, zw_1 1 (by decide +kernel) (by decide +kernel), by decide +kernel, zw_6 84 (by decide +kernel) (by decide +kernel)⟩
theorem lc_X11_pair : Cond.code yX11_pair cX11_pair 6 (some .int) ∈ zw := zw_6 134 (by decide +kernel) (by decide +kernel)
theorem li_X11_pair : Cond.instanceMethod yX11_pair ∈ zw := zw_6 132 (by decide +kernel) (by decide +kernel)
theorem le_X11_pair : Cond.selects yX11_pair.cls yX11_pair yX11_pair ∈ zw := zw_6 133 (by decide +kernel) (by decide +kernel)
theorem lk_L_126 : zLk RL 126 yX11_pair cX11_pair 6 (some .int) 3 := ⟨lc_X11_pair, zw_1 1 (by decide +kernel) (by decide +kernel), by decide +kernel, zw_6 131 (by decide +kernel) (by decide +kernel)⟩
theorem lc_X11_gauge : Cond.code yX11_gauge cX11_gauge 1 (some .int) ∈ zw := zw_6 145 (by decide +kernel) (by decide +kernel)
theorem li_X11_gauge : Cond.instanceMethod yX11_gauge ∈ zw := zw_6 143 (by decide +kernel) (by decide +kernel)
theorem le_X11_gauge : Cond.selects yX11_gauge.cls yX11_gauge yX11_gauge ∈ zw := zw_6 144 (by decide +kernel) (by decide +kernel)
theorem lk_L_129 : zLk RL 129 yX11_gauge cX11_gauge 1 (some .int) 0 := ⟨lc_X11_gauge, zw_1 1 (by decide +kernel) (by decide +kernel), by decide +kernel, zw_6 142 (by decide +kernel) (by decide +kernel)⟩
theorem lc_X11_read : Cond.code yX11_read cX11_read 5 (some .int) ∈ zw := zw_6 168 (by decide +kernel) (by decide +kernel)
theorem li_X11_read : Cond.instanceMethod yX11_read ∈ zw := zw_6 166 (by decide +kernel) (by decide +kernel)
theorem le_X11_read : Cond.selects yX11_read.cls yX11_read yX11_read ∈ zw := zw_6 167 (by decide +kernel) (by decide +kernel)
theorem lk_L_132 : zLk RL 132 yX11_read cX11_read 5 (some .int) 3 := ⟨lc_X11_read, zw_1 1 (by decide +kernel) (by decide +kernel), by decide +kernel, zw_6 165 (by decide +kernel) (by decide +kernel)⟩
theorem lc_X11_at : Cond.code yX11_at cX11_at 4 (some .int) ∈ zw := zw_6 192 (by decide +kernel) (by decide +kernel)
theorem li_X11_at : Cond.instanceMethod yX11_at ∈ zw := zw_6 190 (by decide +kernel) (by decide +kernel)
theorem le_X11_at : Cond.selects yX11_at.cls yX11_at yX11_at ∈ zw := zw_6 191 (by decide +kernel) (by decide +kernel)
theorem lk_L_135 : zLk RL 135 yX11_at cX11_at 4 (some .int) 2 := ⟨lc_X11_at, zw_1 1 (by decide +kernel) (by decide +kernel), by decide +kernel, zw_6 189 (by decide +kernel) (by decide +kernel)⟩
theorem lc_X11_cause : Cond.code yX11_cause cX11_cause 10 (some .long) ∈ zw := zw_6 214 (by decide +kernel) (by decide +kernel)
theorem li_X11_cause : Cond.instanceMethod yX11_cause ∈ zw := zw_6 212 (by decide +kernel) (by decide +kernel)
theorem le_X11_cause : Cond.selects yX11_cause.cls yX11_cause yX11_cause ∈ zw := zw_6 213 (by decide +kernel) (by decide +kernel)
theorem lk_L_138 : zLk RL 138 yX11_cause cX11_cause 10 (some .long) 5 := ⟨lc_X11_cause, zw_1 1 (by decide +kernel) (by decide +kernel), by decide +kernel, zw_6 211 (by decide +kernel) (by decide +kernel)⟩
theorem lc_X11_blamed : Cond.code yX11_blamed cX11_blamed 8 (some .boolean) ∈ zw := zw_6 237 (by decide +kernel) (by decide +kernel)
theorem li_X11_blamed : Cond.instanceMethod yX11_blamed ∈ zw := zw_6 235 (by decide +kernel) (by decide +kernel)
theorem le_X11_blamed : Cond.selects yX11_blamed.cls yX11_blamed yX11_blamed ∈ zw := zw_6 236 (by decide +kernel) (by decide +kernel)
theorem lk_L_142 : zLk RL 142 yX11_blamed cX11_blamed 8 (some .boolean) 4 := ⟨lc_X11_blamed, zw_1 1 (by decide +kernel) (by decide +kernel), by decide +kernel, zw_6 234 (by decide +kernel) (by decide +kernel)⟩
theorem lc_X11_init : Cond.code yX11_init cX11_init 1 none ∈ zw := zw_1 37 (by decide +kernel) (by decide +kernel)
theorem li_X11_init : Cond.instanceMethod yX11_init ∈ zw := zw_1 36 (by decide +kernel) (by decide +kernel)
theorem lk_L_146 : zLk RL 146 yX11_init cX11_init 1 none 0 := ⟨lc_X11_init, zw_1 1 (by decide +kernel) (by decide +kernel), by decide +kernel, zw_1 35 (by decide +kernel) (by decide +kernel)⟩
theorem lc_X12_init : Cond.code yX12_init cX12_init 1 none ∈ zw := zw_7 2 (by decide +kernel) (by decide +kernel)
theorem li_X12_init : Cond.instanceMethod yX12_init ∈ zw := zw_7 1 (by decide +kernel) (by decide +kernel)
theorem lk_L_149 : zLk RL 149 yX12_init cX12_init 1 none 0 := ⟨lc_X12_init, zw_1 11 (by decide +kernel) (by decide +kernel), by decide +kernel, zw_7 0 (by decide +kernel) (by decide +kernel)⟩
theorem lc_X12_owner : Cond.code yX12_owner cX12_owner 1 (some .int) ∈ zw := zw_8 13 (by decide +kernel) (by decide +kernel)
theorem li_X12_owner : Cond.instanceMethod yX12_owner ∈ zw := zw_8 11 (by decide +kernel) (by decide +kernel)
theorem le_X12_owner : Cond.selects yX12_owner.cls yX12_owner yX12_owner ∈ zw := zw_8 12 (by decide +kernel) (by decide +kernel)
theorem lk_L_155 : zLk RL 155 yX12_owner cX12_owner 1 (some .int) 0 := ⟨lc_X12_owner, zw_1 11 (by decide +kernel) (by decide +kernel), by decide +kernel, zw_8 10 (by decide +kernel) (by decide +kernel)⟩
theorem lc_X12_thrown : Cond.code yX12_thrown cX12_thrown 1 (some .int) ∈ zw := zw_8 9 (by decide +kernel) (by decide +kernel)
theorem li_X12_thrown : Cond.instanceMethod yX12_thrown ∈ zw := zw_8 7 (by decide +kernel) (by decide +kernel)
theorem le_X12_thrown : Cond.selects yX12_thrown.cls yX12_thrown yX12_thrown ∈ zw := zw_8 8 (by decide +kernel) (by decide +kernel)
theorem lk_L_156 : zLk RL 156 yX12_thrown cX12_thrown 1 (some .int) 0 := ⟨lc_X12_thrown, zw_1 11 (by decide +kernel) (by decide +kernel), by decide +kernel, zw_8 6 (by decide +kernel) (by decide +kernel)⟩
theorem lc_X12_wall : Cond.code yX12_wall cX12_wall 3 (some .int) ∈ zw := zw_8 21 (by decide +kernel) (by decide +kernel)
theorem li_X12_wall : Cond.instanceMethod yX12_wall ∈ zw := zw_8 19 (by decide +kernel) (by decide +kernel)
theorem le_X12_wall : Cond.selects yX12_wall.cls yX12_wall yX12_wall ∈ zw := zw_8 20 (by decide +kernel) (by decide +kernel)
theorem lk_L_162 : zLk RL 162 yX12_wall cX12_wall 3 (some .int) 2 := ⟨lc_X12_wall, zw_1 11 (by decide +kernel) (by decide +kernel), by decide +kernel, zw_8 18 (by decide +kernel) (by decide +kernel)⟩
theorem lc_X12_sell : Cond.code yX12_sell cX12_sell 5 (some .int) ∈ zw := zw_8 29 (by decide +kernel) (by decide +kernel)
theorem li_X12_sell : Cond.instanceMethod yX12_sell ∈ zw := zw_8 27 (by decide +kernel) (by decide +kernel)
theorem le_X12_sell : Cond.selects yX12_sell.cls yX12_sell yX12_sell ∈ zw := zw_8 28 (by decide +kernel) (by decide +kernel)
theorem lk_L_166 : zLk RL 166 yX12_sell cX12_sell 5 (some .int) 3 := ⟨lc_X12_sell, zw_1 11 (by decide +kernel) (by decide +kernel), by decide +kernel, zw_8 26 (by decide +kernel) (by decide +kernel)⟩
theorem lc_X12_wait : Cond.code yX12_wait cX12_wait 2 (some .int) ∈ zw := zw_8 40 (by decide +kernel) (by decide +kernel)
theorem li_X12_wait : Cond.instanceMethod yX12_wait ∈ zw := zw_8 38 (by decide +kernel) (by decide +kernel)
theorem le_X12_wait : Cond.selects yX12_wait.cls yX12_wait yX12_wait ∈ zw := zw_8 39 (by decide +kernel) (by decide +kernel)
theorem lk_L_170 : zLk RL 170 yX12_wait cX12_wait 2 (some .int) 1 := ⟨lc_X12_wait, zw_1 11 (by decide +kernel) (by decide +kernel), by decide +kernel, zw_8 37 (by decide +kernel) (by decide +kernel)⟩
theorem lc_X11_feed : Cond.code yX11_feed cX11_feed 6 (some .int) ∈ zw := zw_2 60 (by decide +kernel) (by decide +kernel)
theorem li_X11_feed : Cond.instanceMethod yX11_feed ∈ zw := zw_2 58 (by decide +kernel) (by decide +kernel)
theorem le_X11_feed : Cond.selects yX11_feed.cls yX11_feed yX11_feed ∈ zw := zw_2 59 (by decide +kernel) (by decide +kernel)
theorem lk_L_171 : zLk RL 171 yX11_feed cX11_feed 6 (some .int) 5 := ⟨lc_X11_feed, zw_1 1 (by decide +kernel) (by decide +kernel), by decide +kernel, zw_2 57 (by decide +kernel) (by decide +kernel)⟩
theorem lc_X12_feed : Cond.code yX12_feed cX12_feed 9 (some .int) ∈ zw := zw_8 45 (by decide +kernel) (by decide +kernel)
theorem li_X12_feed : Cond.instanceMethod yX12_feed ∈ zw := zw_8 43 (by decide +kernel) (by decide +kernel)
theorem le_X12_feed : Cond.selects yX12_feed.cls yX12_feed yX12_feed ∈ zw := zw_8 44 (by decide +kernel) (by decide +kernel)
theorem lk_L_174 : zLk RL 174 yX12_feed cX12_feed 9 (some .int) 5 := ⟨lc_X12_feed, zw_1 11 (by decide +kernel) (by decide +kernel), by decide +kernel, zw_8 42 (by decide +kernel) (by decide +kernel)⟩
theorem lc_X12_rule : Cond.code yX12_rule cX12_rule 4 (some .int) ∈ zw := zw_8 49 (by decide +kernel) (by decide +kernel)
theorem li_X12_rule : Cond.instanceMethod yX12_rule ∈ zw := zw_8 47 (by decide +kernel) (by decide +kernel)
theorem le_X12_rule : Cond.selects yX12_rule.cls yX12_rule yX12_rule ∈ zw := zw_8 48 (by decide +kernel) (by decide +kernel)
theorem lk_L_177 : zLk RL 177 yX12_rule cX12_rule 4 (some .int) 1 := ⟨lc_X12_rule, zw_1 11 (by decide +kernel) (by decide +kernel), by decide +kernel, zw_8 46 (by decide +kernel) (by decide +kernel)⟩
theorem lc_X11_fault : Cond.code yX11_fault cX11_fault 1 (some .int) ∈ zw := zw_2 68 (by decide +kernel) (by decide +kernel)
theorem li_X11_fault : Cond.instanceMethod yX11_fault ∈ zw := zw_2 66 (by decide +kernel) (by decide +kernel)
theorem le_X11_fault : Cond.selects yX11_fault.cls yX11_fault yX11_fault ∈ zw := zw_2 67 (by decide +kernel) (by decide +kernel)
theorem lk_L_178 : zLk RL 178 yX11_fault cX11_fault 1 (some .int) 0 := ⟨lc_X11_fault, zw_1 1 (by decide +kernel) (by decide +kernel), by decide +kernel, zw_2 65 (by decide +kernel) (by decide +kernel)⟩
theorem lc_X12_fault : Cond.code yX12_fault cX12_fault 1 (some .int) ∈ zw := zw_8 148 (by decide +kernel) (by decide +kernel)
theorem li_X12_fault : Cond.instanceMethod yX12_fault ∈ zw := zw_8 146 (by decide +kernel) (by decide +kernel)
theorem le_X12_fault : Cond.selects yX12_fault.cls yX12_fault yX12_fault ∈ zw := zw_8 147 (by decide +kernel) (by decide +kernel)
theorem lk_L_181 : zLk RL 181 yX12_fault cX12_fault 1 (some .int) 0 := ⟨lc_X12_fault, zw_1 11 (by decide +kernel) (by decide +kernel), by decide +kernel, zw_8 145 (by decide +kernel) (by decide +kernel)⟩
theorem lc_X12_counted : Cond.code yX12_counted cX12_counted 3 (some .int) ∈ zw := zw_8 152 (by decide +kernel) (by decide +kernel)
theorem li_X12_counted : Cond.instanceMethod yX12_counted ∈ zw := zw_8 150 (by decide +kernel) (by decide +kernel)
theorem le_X12_counted : Cond.selects yX12_counted.cls yX12_counted yX12_counted ∈ zw := zw_8 151 (by decide +kernel) (by decide +kernel)
theorem lk_L_184 : zLk RL 184 yX12_counted cX12_counted 3 (some .int) 2 := ⟨lc_X12_counted, zw_1 11 (by decide +kernel) (by decide +kernel), by decide +kernel, zw_8 149 (by decide +kernel) (by decide +kernel)⟩
theorem lc_X12_work : Cond.code yX12_work cX12_work 10 (some .int) ∈ zw := zw_8 159 (by decide +kernel) (by decide +kernel)
theorem li_X12_work : Cond.instanceMethod yX12_work ∈ zw := zw_8 157 (by decide +kernel) (by decide +kernel)
theorem le_X12_work : Cond.selects yX12_work.cls yX12_work yX12_work ∈ zw := zw_8 158 (by decide +kernel) (by decide +kernel)
theorem lk_L_188 : zLk RL 188 yX12_work cX12_work 10 (some .int) 6 := ⟨lc_X12_work, zw_1 11 (by decide +kernel) (by decide +kernel), by decide +kernel, zw_8 156 (by decide +kernel) (by decide +kernel)⟩
theorem lc_X12_state : Cond.code yX12_state cX12_state 2 (some .int) ∈ zw := zw_8 167 (by decide +kernel) (by decide +kernel)
theorem li_X12_state : Cond.instanceMethod yX12_state ∈ zw := zw_8 165 (by decide +kernel) (by decide +kernel)
theorem le_X12_state : Cond.selects yX12_state.cls yX12_state yX12_state ∈ zw := zw_8 166 (by decide +kernel) (by decide +kernel)
theorem lk_L_191 : zLk RL 191 yX12_state cX12_state 2 (some .int) 1 := ⟨lc_X12_state, zw_1 11 (by decide +kernel) (by decide +kernel), by decide +kernel, zw_8 164 (by decide +kernel) (by decide +kernel)⟩
theorem lc_X12_notice : Cond.code yX12_notice cX12_notice 2 (some .int) ∈ zw := zw_8 195 (by decide +kernel) (by decide +kernel)
theorem li_X12_notice : Cond.instanceMethod yX12_notice ∈ zw := zw_8 193 (by decide +kernel) (by decide +kernel)
theorem le_X12_notice : Cond.selects yX12_notice.cls yX12_notice yX12_notice ∈ zw := zw_8 194 (by decide +kernel) (by decide +kernel)
theorem lk_L_194 : zLk RL 194 yX12_notice cX12_notice 2 (some .int) 1 := ⟨lc_X12_notice, zw_1 11 (by decide +kernel) (by decide +kernel), by decide +kernel, zw_8 192 (by decide +kernel) (by decide +kernel)⟩
theorem lc_X12_answer : Cond.code yX12_answer cX12_answer 3 (some .int) ∈ zw := zw_8 199 (by decide +kernel) (by decide +kernel)
theorem li_X12_answer : Cond.instanceMethod yX12_answer ∈ zw := zw_8 197 (by decide +kernel) (by decide +kernel)
theorem le_X12_answer : Cond.selects yX12_answer.cls yX12_answer yX12_answer ∈ zw := zw_8 198 (by decide +kernel) (by decide +kernel)
theorem lk_L_198 : zLk RL 198 yX12_answer cX12_answer 3 (some .int) 2 := ⟨lc_X12_answer, zw_1 11 (by decide +kernel) (by decide +kernel), by decide +kernel, zw_8 196 (by decide +kernel) (by decide +kernel)⟩
theorem lc_X12_told : Cond.code yX12_told cX12_told 3 (some .int) ∈ zw := zw_8 203 (by decide +kernel) (by decide +kernel)
theorem li_X12_told : Cond.instanceMethod yX12_told ∈ zw := zw_8 201 (by decide +kernel) (by decide +kernel)
theorem le_X12_told : Cond.selects yX12_told.cls yX12_told yX12_told ∈ zw := zw_8 202 (by decide +kernel) (by decide +kernel)
theorem lk_L_201 : zLk RL 201 yX12_told cX12_told 3 (some .int) 2 := ⟨lc_X12_told, zw_1 11 (by decide +kernel) (by decide +kernel), by decide +kernel, zw_8 200 (by decide +kernel) (by decide +kernel)⟩
theorem lc_X12_surveyor : Cond.code yX12_surveyor cX12_surveyor 2 (some .int) ∈ zw := zw_8 235 (by decide +kernel) (by decide +kernel)
theorem li_X12_surveyor : Cond.instanceMethod yX12_surveyor ∈ zw := zw_8 233 (by decide +kernel) (by decide +kernel)
theorem le_X12_surveyor : Cond.selects yX12_surveyor.cls yX12_surveyor yX12_surveyor ∈ zw := zw_8 234 (by decide +kernel) (by decide +kernel)
theorem lk_L_204 : zLk RL 204 yX12_surveyor cX12_surveyor 2 (some .int) 1 := ⟨lc_X12_surveyor, zw_1 11 (by decide +kernel) (by decide +kernel), by decide +kernel, zw_8 232 (by decide +kernel) (by decide +kernel)⟩
theorem lc_X12_appoint : Cond.code yX12_appoint cX12_appoint 5 (some .int) ∈ zw := zw_8 239 (by decide +kernel) (by decide +kernel)
theorem li_X12_appoint : Cond.instanceMethod yX12_appoint ∈ zw := zw_8 237 (by decide +kernel) (by decide +kernel)
theorem le_X12_appoint : Cond.selects yX12_appoint.cls yX12_appoint yX12_appoint ∈ zw := zw_8 238 (by decide +kernel) (by decide +kernel)
theorem lk_L_208 : zLk RL 208 yX12_appoint cX12_appoint 5 (some .int) 4 := ⟨lc_X12_appoint, zw_1 11 (by decide +kernel) (by decide +kernel), by decide +kernel, zw_8 236 (by decide +kernel) (by decide +kernel)⟩
theorem lc_X12_surveys : Cond.code yX12_surveys cX12_surveys 3 (some .int) ∈ zw := zw_9 11 (by decide +kernel) (by decide +kernel)
theorem li_X12_surveys : Cond.instanceMethod yX12_surveys ∈ zw := zw_9 9 (by decide +kernel) (by decide +kernel)
theorem le_X12_surveys : Cond.selects yX12_surveys.cls yX12_surveys yX12_surveys ∈ zw := zw_9 10 (by decide +kernel) (by decide +kernel)
theorem lk_L_211 : zLk RL 211 yX12_surveys cX12_surveys 3 (some .int) 2 := ⟨lc_X12_surveys, zw_1 11 (by decide +kernel) (by decide +kernel), by decide +kernel, zw_9 8 (by decide +kernel) (by decide +kernel)⟩
theorem lc_X12_propose : Cond.code yX12_propose cX12_propose 11 (some .int) ∈ zw := zw_9 18 (by decide +kernel) (by decide +kernel)
theorem li_X12_propose : Cond.instanceMethod yX12_propose ∈ zw := zw_9 16 (by decide +kernel) (by decide +kernel)
theorem le_X12_propose : Cond.selects yX12_propose.cls yX12_propose yX12_propose ∈ zw := zw_9 17 (by decide +kernel) (by decide +kernel)
theorem lk_L_215 : zLk RL 215 yX12_propose cX12_propose 11 (some .int) 5 := ⟨lc_X12_propose, zw_1 11 (by decide +kernel) (by decide +kernel), by decide +kernel, zw_9 15 (by decide +kernel) (by decide +kernel)⟩
theorem lc_X12_appeal : Cond.code yX12_appeal cX12_appeal 2 (some .int) ∈ zw := zw_9 22 (by decide +kernel) (by decide +kernel)
theorem li_X12_appeal : Cond.instanceMethod yX12_appeal ∈ zw := zw_9 20 (by decide +kernel) (by decide +kernel)
theorem le_X12_appeal : Cond.selects yX12_appeal.cls yX12_appeal yX12_appeal ∈ zw := zw_9 21 (by decide +kernel) (by decide +kernel)
theorem lk_L_218 : zLk RL 218 yX12_appeal cX12_appeal 2 (some .int) 1 := ⟨lc_X12_appeal, zw_1 11 (by decide +kernel) (by decide +kernel), by decide +kernel, zw_9 19 (by decide +kernel) (by decide +kernel)⟩
theorem lc_X12_begin : Cond.code yX12_begin cX12_begin 4 (some .int) ∈ zw := zw_9 26 (by decide +kernel) (by decide +kernel)
theorem li_X12_begin : Cond.instanceMethod yX12_begin ∈ zw := zw_9 24 (by decide +kernel) (by decide +kernel)
theorem le_X12_begin : Cond.selects yX12_begin.cls yX12_begin yX12_begin ∈ zw := zw_9 25 (by decide +kernel) (by decide +kernel)
theorem lk_L_221 : zLk RL 221 yX12_begin cX12_begin 4 (some .int) 1 := ⟨lc_X12_begin, zw_1 11 (by decide +kernel) (by decide +kernel), by decide +kernel, zw_9 23 (by decide +kernel) (by decide +kernel)⟩
theorem lc_X12_done : Cond.code yX12_done cX12_done 2 (some .int) ∈ zw := zw_9 30 (by decide +kernel) (by decide +kernel)
theorem li_X12_done : Cond.instanceMethod yX12_done ∈ zw := zw_9 28 (by decide +kernel) (by decide +kernel)
theorem le_X12_done : Cond.selects yX12_done.cls yX12_done yX12_done ∈ zw := zw_9 29 (by decide +kernel) (by decide +kernel)
theorem lk_L_224 : zLk RL 224 yX12_done cX12_done 2 (some .int) 1 := ⟨lc_X12_done, zw_1 11 (by decide +kernel) (by decide +kernel), by decide +kernel, zw_9 27 (by decide +kernel) (by decide +kernel)⟩
theorem lc_X12_enter : Cond.code yX12_enter cX12_enter 4 (some .int) ∈ zw := zw_9 55 (by decide +kernel) (by decide +kernel)
theorem li_X12_enter : Cond.instanceMethod yX12_enter ∈ zw := zw_9 53 (by decide +kernel) (by decide +kernel)
theorem le_X12_enter : Cond.selects yX12_enter.cls yX12_enter yX12_enter ∈ zw := zw_9 54 (by decide +kernel) (by decide +kernel)
theorem lk_L_227 : zLk RL 227 yX12_enter cX12_enter 4 (some .int) 2 := ⟨lc_X12_enter, zw_1 11 (by decide +kernel) (by decide +kernel), by decide +kernel, zw_9 52 (by decide +kernel) (by decide +kernel)⟩
theorem lc_X12_entries : Cond.code yX12_entries cX12_entries 3 (some .int) ∈ zw := zw_9 75 (by decide +kernel) (by decide +kernel)
theorem li_X12_entries : Cond.instanceMethod yX12_entries ∈ zw := zw_9 73 (by decide +kernel) (by decide +kernel)
theorem le_X12_entries : Cond.selects yX12_entries.cls yX12_entries yX12_entries ∈ zw := zw_9 74 (by decide +kernel) (by decide +kernel)
theorem lk_L_230 : zLk RL 230 yX12_entries cX12_entries 3 (some .int) 2 := ⟨lc_X12_entries, zw_1 11 (by decide +kernel) (by decide +kernel), by decide +kernel, zw_9 72 (by decide +kernel) (by decide +kernel)⟩
theorem lc_X12_build : Cond.code yX12_build cX12_build 11 (some .int) ∈ zw := zw_9 79 (by decide +kernel) (by decide +kernel)
theorem li_X12_build : Cond.instanceMethod yX12_build ∈ zw := zw_9 77 (by decide +kernel) (by decide +kernel)
theorem le_X12_build : Cond.selects yX12_build.cls yX12_build yX12_build ∈ zw := zw_9 78 (by decide +kernel) (by decide +kernel)
theorem lk_L_233 : zLk RL 233 yX12_build cX12_build 11 (some .int) 5 := ⟨lc_X12_build, zw_1 11 (by decide +kernel) (by decide +kernel), by decide +kernel, zw_9 76 (by decide +kernel) (by decide +kernel)⟩
theorem lc_X12_lower : Cond.code yX12_lower cX12_lower 6 (some .int) ∈ zw := zw_9 86 (by decide +kernel) (by decide +kernel)
theorem li_X12_lower : Cond.instanceMethod yX12_lower ∈ zw := zw_9 84 (by decide +kernel) (by decide +kernel)
theorem le_X12_lower : Cond.selects yX12_lower.cls yX12_lower yX12_lower ∈ zw := zw_9 85 (by decide +kernel) (by decide +kernel)
theorem lk_L_236 : zLk RL 236 yX12_lower cX12_lower 6 (some .int) 3 := ⟨lc_X12_lower, zw_1 11 (by decide +kernel) (by decide +kernel), by decide +kernel, zw_9 83 (by decide +kernel) (by decide +kernel)⟩
theorem lc_X12_use : Cond.code yX12_use cX12_use 10 (some .int) ∈ zw := zw_9 90 (by decide +kernel) (by decide +kernel)
theorem li_X12_use : Cond.instanceMethod yX12_use ∈ zw := zw_9 88 (by decide +kernel) (by decide +kernel)
theorem le_X12_use : Cond.selects yX12_use.cls yX12_use yX12_use ∈ zw := zw_9 89 (by decide +kernel) (by decide +kernel)
theorem lk_L_239 : zLk RL 239 yX12_use cX12_use 10 (some .int) 5 := ⟨lc_X12_use, zw_1 11 (by decide +kernel) (by decide +kernel), by decide +kernel, zw_9 87 (by decide +kernel) (by decide +kernel)⟩
theorem lc_X12_cell : Cond.code yX12_cell cX12_cell 6 (some .int) ∈ zw := zw_9 103 (by decide +kernel) (by decide +kernel)
theorem li_X12_cell : Cond.instanceMethod yX12_cell ∈ zw := zw_9 101 (by decide +kernel) (by decide +kernel)
theorem le_X12_cell : Cond.selects yX12_cell.cls yX12_cell yX12_cell ∈ zw := zw_9 102 (by decide +kernel) (by decide +kernel)
theorem lk_L_242 : zLk RL 242 yX12_cell cX12_cell 6 (some .int) 4 := ⟨lc_X12_cell, zw_1 11 (by decide +kernel) (by decide +kernel), by decide +kernel, zw_9 100 (by decide +kernel) (by decide +kernel)⟩
theorem lc_X12_spend : Cond.code yX12_spend cX12_spend 4 (some .int) ∈ zw := zw_9 107 (by decide +kernel) (by decide +kernel)
theorem li_X12_spend : Cond.instanceMethod yX12_spend ∈ zw := zw_9 105 (by decide +kernel) (by decide +kernel)
theorem le_X12_spend : Cond.selects yX12_spend.cls yX12_spend yX12_spend ∈ zw := zw_9 106 (by decide +kernel) (by decide +kernel)
theorem lk_L_245 : zLk RL 245 yX12_spend cX12_spend 4 (some .int) 2 := ⟨lc_X12_spend, zw_1 11 (by decide +kernel) (by decide +kernel), by decide +kernel, zw_9 104 (by decide +kernel) (by decide +kernel)⟩
theorem lc_X12_secure : Cond.code yX12_secure cX12_secure 3 (some .int) ∈ zw := zw_9 111 (by decide +kernel) (by decide +kernel)
theorem li_X12_secure : Cond.instanceMethod yX12_secure ∈ zw := zw_9 109 (by decide +kernel) (by decide +kernel)
theorem le_X12_secure : Cond.selects yX12_secure.cls yX12_secure yX12_secure ∈ zw := zw_9 110 (by decide +kernel) (by decide +kernel)
theorem lk_L_248 : zLk RL 248 yX12_secure cX12_secure 3 (some .int) 2 := ⟨lc_X12_secure, zw_1 11 (by decide +kernel) (by decide +kernel), by decide +kernel, zw_9 108 (by decide +kernel) (by decide +kernel)⟩
theorem lc_X12_settle : Cond.code yX12_settle cX12_settle 4 (some .int) ∈ zw := zw_9 115 (by decide +kernel) (by decide +kernel)
theorem li_X12_settle : Cond.instanceMethod yX12_settle ∈ zw := zw_9 113 (by decide +kernel) (by decide +kernel)
theorem le_X12_settle : Cond.selects yX12_settle.cls yX12_settle yX12_settle ∈ zw := zw_9 114 (by decide +kernel) (by decide +kernel)
theorem lk_L_251 : zLk RL 251 yX12_settle cX12_settle 4 (some .int) 2 := ⟨lc_X12_settle, zw_1 11 (by decide +kernel) (by decide +kernel), by decide +kernel, zw_9 112 (by decide +kernel) (by decide +kernel)⟩
theorem lc_X12_mend : Cond.code yX12_mend cX12_mend 4 (some .int) ∈ zw := zw_9 34 (by decide +kernel) (by decide +kernel)
theorem li_X12_mend : Cond.instanceMethod yX12_mend ∈ zw := zw_9 32 (by decide +kernel) (by decide +kernel)
theorem le_X12_mend : Cond.selects yX12_mend.cls yX12_mend yX12_mend ∈ zw := zw_9 33 (by decide +kernel) (by decide +kernel)
theorem lk_L_254 : zLk RL 254 yX12_mend cX12_mend 4 (some .int) 2 := ⟨lc_X12_mend, zw_1 11 (by decide +kernel) (by decide +kernel), by decide +kernel, zw_9 31 (by decide +kernel) (by decide +kernel)⟩
theorem lc_X12_payment : Cond.code yX12_payment cX12_payment 3 (some .int) ∈ zw := zw_9 47 (by decide +kernel) (by decide +kernel)
theorem li_X12_payment : Cond.instanceMethod yX12_payment ∈ zw := zw_9 45 (by decide +kernel) (by decide +kernel)
theorem le_X12_payment : Cond.selects yX12_payment.cls yX12_payment yX12_payment ∈ zw := zw_9 46 (by decide +kernel) (by decide +kernel)
theorem lk_L_257 : zLk RL 257 yX12_payment cX12_payment 3 (some .int) 2 := ⟨lc_X12_payment, zw_1 11 (by decide +kernel) (by decide +kernel), by decide +kernel, zw_9 44 (by decide +kernel) (by decide +kernel)⟩
theorem lc_X12_balance : Cond.code yX12_balance cX12_balance 7 (some .long) ∈ zw := zw_9 51 (by decide +kernel) (by decide +kernel)
theorem li_X12_balance : Cond.instanceMethod yX12_balance ∈ zw := zw_9 49 (by decide +kernel) (by decide +kernel)
theorem le_X12_balance : Cond.selects yX12_balance.cls yX12_balance yX12_balance ∈ zw := zw_9 50 (by decide +kernel) (by decide +kernel)
theorem lk_L_260 : zLk RL 260 yX12_balance cX12_balance 7 (some .long) 3 := ⟨lc_X12_balance, zw_1 11 (by decide +kernel) (by decide +kernel), by decide +kernel, zw_9 48 (by decide +kernel) (by decide +kernel)⟩
theorem lc_X12_hand : Cond.code yX12_hand cX12_hand 2 (some .int) ∈ zw := zw_9 119 (by decide +kernel) (by decide +kernel)
theorem li_X12_hand : Cond.instanceMethod yX12_hand ∈ zw := zw_9 117 (by decide +kernel) (by decide +kernel)
theorem le_X12_hand : Cond.selects yX12_hand.cls yX12_hand yX12_hand ∈ zw := zw_9 118 (by decide +kernel) (by decide +kernel)
theorem lk_L_263 : zLk RL 263 yX12_hand cX12_hand 2 (some .int) 1 := ⟨lc_X12_hand, zw_1 11 (by decide +kernel) (by decide +kernel), by decide +kernel, zw_9 116 (by decide +kernel) (by decide +kernel)⟩
theorem lc_X12_survey : Cond.code yX12_survey cX12_survey 2 (some .int) ∈ zw := zw_9 123 (by decide +kernel) (by decide +kernel)
theorem li_X12_survey : Cond.instanceMethod yX12_survey ∈ zw := zw_9 121 (by decide +kernel) (by decide +kernel)
theorem le_X12_survey : Cond.selects yX12_survey.cls yX12_survey yX12_survey ∈ zw := zw_9 122 (by decide +kernel) (by decide +kernel)
theorem lk_L_266 : zLk RL 266 yX12_survey cX12_survey 2 (some .int) 1 := ⟨lc_X12_survey, zw_1 11 (by decide +kernel) (by decide +kernel), by decide +kernel, zw_9 120 (by decide +kernel) (by decide +kernel)⟩
theorem lc_X12_crack : Cond.code yX12_crack cX12_crack 5 (some .int) ∈ zw := zw_9 127 (by decide +kernel) (by decide +kernel)
theorem li_X12_crack : Cond.instanceMethod yX12_crack ∈ zw := zw_9 125 (by decide +kernel) (by decide +kernel)
theorem le_X12_crack : Cond.selects yX12_crack.cls yX12_crack yX12_crack ∈ zw := zw_9 126 (by decide +kernel) (by decide +kernel)
theorem lk_L_269 : zLk RL 269 yX12_crack cX12_crack 5 (some .int) 3 := ⟨lc_X12_crack, zw_1 11 (by decide +kernel) (by decide +kernel), by decide +kernel, zw_9 124 (by decide +kernel) (by decide +kernel)⟩
theorem lc_X12_joined : Cond.code yX12_joined cX12_joined 7 (some .int) ∈ zw := zw_9 135 (by decide +kernel) (by decide +kernel)
theorem li_X12_joined : Cond.instanceMethod yX12_joined ∈ zw := zw_9 133 (by decide +kernel) (by decide +kernel)
theorem le_X12_joined : Cond.selects yX12_joined.cls yX12_joined yX12_joined ∈ zw := zw_9 134 (by decide +kernel) (by decide +kernel)
theorem lk_L_272 : zLk RL 272 yX12_joined cX12_joined 7 (some .int) 3 := ⟨lc_X12_joined, zw_1 11 (by decide +kernel) (by decide +kernel), by decide +kernel, zw_9 132 (by decide +kernel) (by decide +kernel)⟩
theorem lc_X12_pair : Cond.code yX12_pair cX12_pair 4 (some .int) ∈ zw := zw_9 158 (by decide +kernel) (by decide +kernel)
theorem li_X12_pair : Cond.instanceMethod yX12_pair ∈ zw := zw_9 156 (by decide +kernel) (by decide +kernel)
theorem le_X12_pair : Cond.selects yX12_pair.cls yX12_pair yX12_pair ∈ zw := zw_9 157 (by decide +kernel) (by decide +kernel)
theorem lk_L_275 : zLk RL 275 yX12_pair cX12_pair 4 (some .int) 3 := ⟨lc_X12_pair, zw_1 11 (by decide +kernel) (by decide +kernel), by decide +kernel, zw_9 155 (by decide +kernel) (by decide +kernel)⟩
theorem lc_X12_gauge : Cond.code yX12_gauge cX12_gauge 1 (some .int) ∈ zw := zw_9 162 (by decide +kernel) (by decide +kernel)
theorem li_X12_gauge : Cond.instanceMethod yX12_gauge ∈ zw := zw_9 160 (by decide +kernel) (by decide +kernel)
theorem le_X12_gauge : Cond.selects yX12_gauge.cls yX12_gauge yX12_gauge ∈ zw := zw_9 161 (by decide +kernel) (by decide +kernel)
theorem lk_L_278 : zLk RL 278 yX12_gauge cX12_gauge 1 (some .int) 0 := ⟨lc_X12_gauge, zw_1 11 (by decide +kernel) (by decide +kernel), by decide +kernel, zw_9 159 (by decide +kernel) (by decide +kernel)⟩
theorem lc_X12_read : Cond.code yX12_read cX12_read 5 (some .int) ∈ zw := zw_9 166 (by decide +kernel) (by decide +kernel)
theorem li_X12_read : Cond.instanceMethod yX12_read ∈ zw := zw_9 164 (by decide +kernel) (by decide +kernel)
theorem le_X12_read : Cond.selects yX12_read.cls yX12_read yX12_read ∈ zw := zw_9 165 (by decide +kernel) (by decide +kernel)
theorem lk_L_281 : zLk RL 281 yX12_read cX12_read 5 (some .int) 3 := ⟨lc_X12_read, zw_1 11 (by decide +kernel) (by decide +kernel), by decide +kernel, zw_9 163 (by decide +kernel) (by decide +kernel)⟩
theorem lc_X12_at : Cond.code yX12_at cX12_at 3 (some .int) ∈ zw := zw_9 174 (by decide +kernel) (by decide +kernel)
theorem li_X12_at : Cond.instanceMethod yX12_at ∈ zw := zw_9 172 (by decide +kernel) (by decide +kernel)
theorem le_X12_at : Cond.selects yX12_at.cls yX12_at yX12_at ∈ zw := zw_9 173 (by decide +kernel) (by decide +kernel)
theorem lk_L_284 : zLk RL 284 yX12_at cX12_at 3 (some .int) 2 := ⟨lc_X12_at, zw_1 11 (by decide +kernel) (by decide +kernel), by decide +kernel, zw_9 171 (by decide +kernel) (by decide +kernel)⟩
theorem lc_X12_cause : Cond.code yX12_cause cX12_cause 6 (some .long) ∈ zw := zw_9 186 (by decide +kernel) (by decide +kernel)
theorem li_X12_cause : Cond.instanceMethod yX12_cause ∈ zw := zw_9 184 (by decide +kernel) (by decide +kernel)
theorem le_X12_cause : Cond.selects yX12_cause.cls yX12_cause yX12_cause ∈ zw := zw_9 185 (by decide +kernel) (by decide +kernel)
theorem lk_L_287 : zLk RL 287 yX12_cause cX12_cause 6 (some .long) 5 := ⟨lc_X12_cause, zw_1 11 (by decide +kernel) (by decide +kernel), by decide +kernel, zw_9 183 (by decide +kernel) (by decide +kernel)⟩
theorem lc_X12_blamed : Cond.code yX12_blamed cX12_blamed 5 (some .boolean) ∈ zw := zw_9 211 (by decide +kernel) (by decide +kernel)
theorem li_X12_blamed : Cond.instanceMethod yX12_blamed ∈ zw := zw_9 209 (by decide +kernel) (by decide +kernel)
theorem le_X12_blamed : Cond.selects yX12_blamed.cls yX12_blamed yX12_blamed ∈ zw := zw_9 210 (by decide +kernel) (by decide +kernel)
theorem lk_L_290 : zLk RL 290 yX12_blamed cX12_blamed 5 (some .boolean) 4 := ⟨lc_X12_blamed, zw_1 11 (by decide +kernel) (by decide +kernel), by decide +kernel, zw_9 208 (by decide +kernel) (by decide +kernel)⟩
theorem lc_X11_count : Cond.code yX11_count cX11_count 2 (some .int) ∈ zw := zw_2 76 (by decide +kernel) (by decide +kernel)
theorem li_X11_count : Cond.instanceMethod yX11_count ∈ zw := zw_2 74 (by decide +kernel) (by decide +kernel)
theorem le_X11_count : Cond.selects yX11_count.cls yX11_count yX11_count ∈ zw := zw_2 75 (by decide +kernel) (by decide +kernel)
theorem lk_L_291 : zLk RL 291 yX11_count cX11_count 2 (some .int) 1 := ⟨lc_X11_count, zw_1 1 (by decide +kernel) (by decide +kernel), by decide +kernel, zw_2 73 (by decide +kernel) (by decide +kernel)⟩
theorem lc_X12_count : Cond.code yX12_count cX12_count 2 (some .int) ∈ zw := zw_9 215 (by decide +kernel) (by decide +kernel)
theorem li_X12_count : Cond.instanceMethod yX12_count ∈ zw := zw_9 213 (by decide +kernel) (by decide +kernel)
theorem le_X12_count : Cond.selects yX12_count.cls yX12_count yX12_count ∈ zw := zw_9 214 (by decide +kernel) (by decide +kernel)
theorem lk_L_294 : zLk RL 294 yX12_count cX12_count 2 (some .int) 1 := ⟨lc_X12_count, zw_1 11 (by decide +kernel) (by decide +kernel), by decide +kernel, zw_9 212 (by decide +kernel) (by decide +kernel)⟩
theorem lc_X12_bad : Cond.code yX12_bad cX12_bad 3 (some .boolean) ∈ zw := zw_8 17 (by decide +kernel) (by decide +kernel)
theorem li_X12_bad : Cond.instanceMethod yX12_bad ∈ zw := zw_8 16 (by decide +kernel) (by decide +kernel)
theorem le_X12_bad : Cond.selects yX12_bad.cls yX12_bad yX12_bad ∈ zw := zw_0 30 (by decide +kernel) (by decide +kernel)
theorem lk_X12_205 : zLk RX12 205 yX12_bad cX12_bad 3 (some .boolean) 2 := ⟨lc_X12_bad, zw_1 11 (by decide +kernel) (by decide +kernel), by decide +kernel, zw_8 14 (by decide +kernel) (by decide +kernel)⟩
theorem lc_X12_isOwner : Cond.code yX12_isOwner cX12_isOwner 2 (some .boolean) ∈ zw := zw_8 25 (by decide +kernel) (by decide +kernel)
theorem li_X12_isOwner : Cond.instanceMethod yX12_isOwner ∈ zw := zw_8 24 (by decide +kernel) (by decide +kernel)
theorem le_X12_isOwner : Cond.selects yX12_isOwner.cls yX12_isOwner yX12_isOwner ∈ zw := zw_0 31 (by decide +kernel) (by decide +kernel)
theorem lk_X12_212 : zLk RX12 212 yX12_isOwner cX12_isOwner 2 (some .boolean) 1 := ⟨lc_X12_isOwner, zw_1 11 (by decide +kernel) (by decide +kernel), by decide +kernel, zw_8 22 (by decide +kernel) (by decide +kernel)⟩
theorem lc_X12_isWall : Cond.code yX12_isWall cX12_isWall 2 (some .boolean) ∈ zw := zw_8 33 (by decide +kernel) (by decide +kernel)
theorem li_X12_isWall : Cond.instanceMethod yX12_isWall ∈ zw := zw_8 32 (by decide +kernel) (by decide +kernel)
theorem le_X12_isWall : Cond.selects yX12_isWall.cls yX12_isWall yX12_isWall ∈ zw := zw_0 32 (by decide +kernel) (by decide +kernel)
theorem lk_X12_216 : zLk RX12 216 yX12_isWall cX12_isWall 2 (some .boolean) 1 := ⟨lc_X12_isWall, zw_1 11 (by decide +kernel) (by decide +kernel), by decide +kernel, zw_8 30 (by decide +kernel) (by decide +kernel)⟩
theorem lc_X12_isSide : Cond.code yX12_isSide cX12_isSide 1 (some .boolean) ∈ zw := zw_8 36 (by decide +kernel) (by decide +kernel)
theorem ls_X12_isSide : Cond.static yX12_isSide ∈ zw := zw_8 35 (by decide +kernel) (by decide +kernel)
theorem lk_X12_219 : zLk RX12 219 yX12_isSide cX12_isSide 1 (some .boolean) 1 := ⟨lc_X12_isSide, zw_1 11 (by decide +kernel) (by decide +kernel), by decide +kernel, zw_8 34 (by decide +kernel) (by decide +kernel)⟩
theorem lc_X12_byteAt : Cond.code yX12_byteAt cX12_byteAt 2 (some .int) ∈ zw := zw_8 61 (by decide +kernel) (by decide +kernel)
theorem li_X12_byteAt : Cond.instanceMethod yX12_byteAt ∈ zw := zw_8 60 (by decide +kernel) (by decide +kernel)
theorem le_X12_byteAt : Cond.selects yX12_byteAt.cls yX12_byteAt yX12_byteAt ∈ zw := zw_0 35 (by decide +kernel) (by decide +kernel)
theorem lk_X12_235 : zLk RX12 235 yX12_byteAt cX12_byteAt 2 (some .int) 1 := ⟨lc_X12_byteAt, zw_1 11 (by decide +kernel) (by decide +kernel), by decide +kernel, zw_8 58 (by decide +kernel) (by decide +kernel)⟩
theorem lc_X12_blanks : Cond.code yX12_blanks cX12_blanks 1 none ∈ zw := zw_8 57 (by decide +kernel) (by decide +kernel)
theorem li_X12_blanks : Cond.instanceMethod yX12_blanks ∈ zw := zw_8 56 (by decide +kernel) (by decide +kernel)
theorem le_X12_blanks : Cond.selects yX12_blanks.cls yX12_blanks yX12_blanks ∈ zw := zw_0 34 (by decide +kernel) (by decide +kernel)
theorem lk_X12_242 : zLk RX12 242 yX12_blanks cX12_blanks 1 none 0 := ⟨lc_X12_blanks, zw_1 11 (by decide +kernel) (by decide +kernel), by decide +kernel, zw_8 54 (by decide +kernel) (by decide +kernel)⟩
theorem lk_X12_245 : zLk RX12 245 yJ0_length_8abf5 cJ0_length_8abf5 1 (some .int) 0 := ⟨lc_J0_length_8abf5, zw_1 25 (by decide +kernel) (by decide +kernel), by decide +kernel, zw_8 87 (by decide +kernel) (by decide +kernel)⟩
theorem lk_X12_251 : zLk RX12 251 yJ0_charAt_5068e cJ0_charAt_5068e 2 (some .char) 1 := ⟨lc_J0_charAt_5068e, zw_1 25 (by decide +kernel) (by decide +kernel), by decide +kernel, zw_8 88 (by decide +kernel) (by decide +kernel)⟩
theorem lc_X12_isWord : Cond.code yX12_isWord cX12_isWord 3 (some .boolean) ∈ zw := zw_8 86 (by decide +kernel) (by decide +kernel)
theorem li_X12_isWord : Cond.instanceMethod yX12_isWord ∈ zw := zw_8 85 (by decide +kernel) (by decide +kernel)
theorem le_X12_isWord : Cond.selects yX12_isWord.cls yX12_isWord yX12_isWord ∈ zw := zw_0 37 (by decide +kernel) (by decide +kernel)
theorem lk_X12_255 : zLk RX12 255 yX12_isWord cX12_isWord 3 (some .boolean) 1 := ⟨lc_X12_isWord, zw_1 11 (by decide +kernel) (by decide +kernel), by decide +kernel, zw_8 83 (by decide +kernel) (by decide +kernel)⟩
theorem lc_X12_wordOf : Cond.code yX12_wordOf cX12_wordOf 1 (some (.object "java/lang/String")) ∈ zw := zw_8 68 (by decide +kernel) (by decide +kernel)
theorem ls_X12_wordOf : Cond.static yX12_wordOf ∈ zw := zw_8 67 (by decide +kernel) (by decide +kernel)
theorem lk_X12_287 : zLk RX12 287 yX12_wordOf cX12_wordOf 1 (some (.object "java/lang/String")) 1 := ⟨lc_X12_wordOf, zw_1 11 (by decide +kernel) (by decide +kernel), by decide +kernel, zw_8 66 (by decide +kernel) (by decide +kernel)⟩
theorem lc_X12_isDigit : Cond.code yX12_isDigit cX12_isDigit 1 (some .boolean) ∈ zw := zw_8 103 (by decide +kernel) (by decide +kernel)
theorem ls_X12_isDigit : Cond.static yX12_isDigit ∈ zw := zw_8 102 (by decide +kernel) (by decide +kernel)
theorem lk_X12_297 : zLk RX12 297 yX12_isDigit cX12_isDigit 1 (some .boolean) 1 := ⟨lc_X12_isDigit, zw_1 11 (by decide +kernel) (by decide +kernel), by decide +kernel, zw_8 101 (by decide +kernel) (by decide +kernel)⟩
theorem lc_X12_wrong : Cond.code yX12_wrong cX12_wrong 3 none ∈ zw := zw_8 92 (by decide +kernel) (by decide +kernel)
theorem li_X12_wrong : Cond.instanceMethod yX12_wrong ∈ zw := zw_8 91 (by decide +kernel) (by decide +kernel)
theorem le_X12_wrong : Cond.selects yX12_wrong.cls yX12_wrong yX12_wrong ∈ zw := zw_0 38 (by decide +kernel) (by decide +kernel)
theorem lk_X12_300 : zLk RX12 300 yX12_wrong cX12_wrong 3 none 2 := ⟨lc_X12_wrong, zw_1 11 (by decide +kernel) (by decide +kernel), by decide +kernel, zw_8 89 (by decide +kernel) (by decide +kernel)⟩
theorem lc_X12_ands : Cond.code yX12_ands cX12_ands 1 none ∈ zw := zw_8 117 (by decide +kernel) (by decide +kernel)
theorem li_X12_ands : Cond.instanceMethod yX12_ands ∈ zw := zw_8 116 (by decide +kernel) (by decide +kernel)
theorem le_X12_ands : Cond.selects yX12_ands.cls yX12_ands yX12_ands ∈ zw := zw_0 43 (by decide +kernel) (by decide +kernel)
theorem lk_X12_308 : zLk RX12 308 yX12_ands cX12_ands 1 none 0 := ⟨lc_X12_ands, zw_1 11 (by decide +kernel) (by decide +kernel), by decide +kernel, zw_8 114 (by decide +kernel) (by decide +kernel)⟩
theorem lc_X12_eat : Cond.code yX12_eat cX12_eat 3 (some .boolean) ∈ zw := zw_8 109 (by decide +kernel) (by decide +kernel)
theorem li_X12_eat : Cond.instanceMethod yX12_eat ∈ zw := zw_8 108 (by decide +kernel) (by decide +kernel)
theorem le_X12_eat : Cond.selects yX12_eat.cls yX12_eat yX12_eat ∈ zw := zw_0 41 (by decide +kernel) (by decide +kernel)
theorem lk_X12_313 : zLk RX12 313 yX12_eat cX12_eat 3 (some .boolean) 1 := ⟨lc_X12_eat, zw_1 11 (by decide +kernel) (by decide +kernel), by decide +kernel, zw_8 106 (by decide +kernel) (by decide +kernel)⟩
theorem lc_X12_emits : Cond.code yX12_emits cX12_emits 3 none ∈ zw := zw_8 130 (by decide +kernel) (by decide +kernel)
theorem li_X12_emits : Cond.instanceMethod yX12_emits ∈ zw := zw_8 129 (by decide +kernel) (by decide +kernel)
theorem le_X12_emits : Cond.selects yX12_emits.cls yX12_emits yX12_emits ∈ zw := zw_0 46 (by decide +kernel) (by decide +kernel)
theorem lk_X12_316 : zLk RX12 316 yX12_emits cX12_emits 3 none 2 := ⟨lc_X12_emits, zw_1 11 (by decide +kernel) (by decide +kernel), by decide +kernel, zw_8 127 (by decide +kernel) (by decide +kernel)⟩
theorem lc_X12_one : Cond.code yX12_one cX12_one 4 none ∈ zw := zw_8 121 (by decide +kernel) (by decide +kernel)
theorem li_X12_one : Cond.instanceMethod yX12_one ∈ zw := zw_8 120 (by decide +kernel) (by decide +kernel)
theorem le_X12_one : Cond.selects yX12_one.cls yX12_one yX12_one ∈ zw := zw_0 44 (by decide +kernel) (by decide +kernel)
theorem lk_X12_319 : zLk RX12 319 yX12_one cX12_one 4 none 0 := ⟨lc_X12_one, zw_1 11 (by decide +kernel) (by decide +kernel), by decide +kernel, zw_8 118 (by decide +kernel) (by decide +kernel)⟩
theorem lc_X12_opens : Cond.code yX12_opens cX12_opens 2 none ∈ zw := zw_8 126 (by decide +kernel) (by decide +kernel)
theorem li_X12_opens : Cond.instanceMethod yX12_opens ∈ zw := zw_8 125 (by decide +kernel) (by decide +kernel)
theorem le_X12_opens : Cond.selects yX12_opens.cls yX12_opens yX12_opens ∈ zw := zw_0 45 (by decide +kernel) (by decide +kernel)
theorem lk_X12_329 : zLk RX12 329 yX12_opens cX12_opens 2 none 1 := ⟨lc_X12_opens, zw_1 11 (by decide +kernel) (by decide +kernel), by decide +kernel, zw_8 123 (by decide +kernel) (by decide +kernel)⟩
theorem lc_X12_ors : Cond.code yX12_ors cX12_ors 1 none ∈ zw := zw_8 113 (by decide +kernel) (by decide +kernel)
theorem li_X12_ors : Cond.instanceMethod yX12_ors ∈ zw := zw_8 112 (by decide +kernel) (by decide +kernel)
theorem le_X12_ors : Cond.selects yX12_ors.cls yX12_ors yX12_ors ∈ zw := zw_0 42 (by decide +kernel) (by decide +kernel)
theorem lk_X12_333 : zLk RX12 333 yX12_ors cX12_ors 1 none 0 := ⟨lc_X12_ors, zw_1 11 (by decide +kernel) (by decide +kernel), by decide +kernel, zw_8 110 (by decide +kernel) (by decide +kernel)⟩
theorem lc_X12_sign : Cond.code yX12_sign cX12_sign 2 none ∈ zw := zw_8 134 (by decide +kernel) (by decide +kernel)
theorem li_X12_sign : Cond.instanceMethod yX12_sign ∈ zw := zw_8 133 (by decide +kernel) (by decide +kernel)
theorem le_X12_sign : Cond.selects yX12_sign.cls yX12_sign yX12_sign ∈ zw := zw_0 47 (by decide +kernel) (by decide +kernel)
theorem lk_X12_336 : zLk RX12 336 yX12_sign cX12_sign 2 none 1 := ⟨lc_X12_sign, zw_1 11 (by decide +kernel) (by decide +kernel), by decide +kernel, zw_8 131 (by decide +kernel) (by decide +kernel)⟩
theorem lc_X12_measureOf : Cond.code yX12_measureOf cX12_measureOf 1 (some (.object "java/lang/String")) ∈ zw := zw_8 137 (by decide +kernel) (by decide +kernel)
theorem ls_X12_measureOf : Cond.static yX12_measureOf ∈ zw := zw_8 136 (by decide +kernel) (by decide +kernel)
theorem lk_X12_339 : zLk RX12 339 yX12_measureOf cX12_measureOf 1 (some (.object "java/lang/String")) 1 := ⟨lc_X12_measureOf, zw_1 11 (by decide +kernel) (by decide +kernel), by decide +kernel, zw_8 135 (by decide +kernel) (by decide +kernel)⟩
theorem lc_X12_number : Cond.code yX12_number cX12_number 5 (some .int) ∈ zw := zw_8 100 (by decide +kernel) (by decide +kernel)
theorem li_X12_number : Cond.instanceMethod yX12_number ∈ zw := zw_8 99 (by decide +kernel) (by decide +kernel)
theorem le_X12_number : Cond.selects yX12_number.cls yX12_number yX12_number ∈ zw := zw_0 40 (by decide +kernel) (by decide +kernel)
theorem lk_X12_342 : zLk RX12 342 yX12_number cX12_number 5 (some .int) 2 := ⟨lc_X12_number, zw_1 11 (by decide +kernel) (by decide +kernel), by decide +kernel, zw_8 97 (by decide +kernel) (by decide +kernel)⟩
theorem lc_X12_wordHere : Cond.code yX12_wordHere cX12_wordHere 2 (some .int) ∈ zw := zw_8 65 (by decide +kernel) (by decide +kernel)
theorem li_X12_wordHere : Cond.instanceMethod yX12_wordHere ∈ zw := zw_8 64 (by decide +kernel) (by decide +kernel)
theorem le_X12_wordHere : Cond.selects yX12_wordHere.cls yX12_wordHere yX12_wordHere ∈ zw := zw_0 36 (by decide +kernel) (by decide +kernel)
theorem lk_X12_346 : zLk RX12 346 yX12_wordHere cX12_wordHere 2 (some .int) 0 := ⟨lc_X12_wordHere, zw_1 11 (by decide +kernel) (by decide +kernel), by decide +kernel, zw_8 62 (by decide +kernel) (by decide +kernel)⟩
theorem lc_X12_starts : Cond.code yX12_starts cX12_starts 2 none ∈ zw := zw_8 53 (by decide +kernel) (by decide +kernel)
theorem li_X12_starts : Cond.instanceMethod yX12_starts ∈ zw := zw_8 52 (by decide +kernel) (by decide +kernel)
theorem le_X12_starts : Cond.selects yX12_starts.cls yX12_starts yX12_starts ∈ zw := zw_0 33 (by decide +kernel) (by decide +kernel)
theorem lk_X12_355 : zLk RX12 355 yX12_starts cX12_starts 2 none 0 := ⟨lc_X12_starts, zw_1 11 (by decide +kernel) (by decide +kernel), by decide +kernel, zw_8 50 (by decide +kernel) (by decide +kernel)⟩
theorem lc_X12_clause : Cond.code yX12_clause cX12_clause 4 none ∈ zw := zw_8 96 (by decide +kernel) (by decide +kernel)
theorem li_X12_clause : Cond.instanceMethod yX12_clause ∈ zw := zw_8 95 (by decide +kernel) (by decide +kernel)
theorem le_X12_clause : Cond.selects yX12_clause.cls yX12_clause yX12_clause ∈ zw := zw_0 39 (by decide +kernel) (by decide +kernel)
theorem lk_X12_358 : zLk RX12 358 yX12_clause cX12_clause 4 none 0 := ⟨lc_X12_clause, zw_1 11 (by decide +kernel) (by decide +kernel), by decide +kernel, zw_8 93 (by decide +kernel) (by decide +kernel)⟩
theorem lc_X12_countedFrom : Cond.code yX12_countedFrom cX12_countedFrom 5 (some .int) ∈ zw := zw_8 155 (by decide +kernel) (by decide +kernel)
theorem ls_X12_countedFrom : Cond.static yX12_countedFrom ∈ zw := zw_8 154 (by decide +kernel) (by decide +kernel)
theorem lk_X12_364 : zLk RX12 364 yX12_countedFrom cX12_countedFrom 5 (some .int) 3 := ⟨lc_X12_countedFrom, zw_1 11 (by decide +kernel) (by decide +kernel), by decide +kernel, zw_8 153 (by decide +kernel) (by decide +kernel)⟩
theorem lc_X12_holds : Cond.code yX12_holds cX12_holds 11 (some .boolean) ∈ zw := zw_8 163 (by decide +kernel) (by decide +kernel)
theorem li_X12_holds : Cond.instanceMethod yX12_holds ∈ zw := zw_8 162 (by decide +kernel) (by decide +kernel)
theorem le_X12_holds : Cond.selects yX12_holds.cls yX12_holds yX12_holds ∈ zw := zw_0 48 (by decide +kernel) (by decide +kernel)
theorem lk_X12_371 : zLk RX12 371 yX12_holds cX12_holds 11 (some .boolean) 4 := ⟨lc_X12_holds, zw_1 11 (by decide +kernel) (by decide +kernel), by decide +kernel, zw_8 160 (by decide +kernel) (by decide +kernel)⟩
theorem lc_X12_keptOf : Cond.code yX12_keptOf cX12_keptOf 3 (some .int) ∈ zw := zw_8 191 (by decide +kernel) (by decide +kernel)
theorem li_X12_keptOf : Cond.instanceMethod yX12_keptOf ∈ zw := zw_8 190 (by decide +kernel) (by decide +kernel)
theorem le_X12_keptOf : Cond.selects yX12_keptOf.cls yX12_keptOf yX12_keptOf ∈ zw := zw_0 54 (by decide +kernel) (by decide +kernel)
theorem lk_X12_375 : zLk RX12 375 yX12_keptOf cX12_keptOf 3 (some .int) 2 := ⟨lc_X12_keptOf, zw_1 11 (by decide +kernel) (by decide +kernel), by decide +kernel, zw_8 188 (by decide +kernel) (by decide +kernel)⟩
theorem lc_X12_arrives : Cond.code yX12_arrives cX12_arrives 2 (some .int) ∈ zw := zw_8 187 (by decide +kernel) (by decide +kernel)
theorem li_X12_arrives : Cond.instanceMethod yX12_arrives ∈ zw := zw_8 186 (by decide +kernel) (by decide +kernel)
theorem le_X12_arrives : Cond.selects yX12_arrives.cls yX12_arrives yX12_arrives ∈ zw := zw_0 53 (by decide +kernel) (by decide +kernel)
theorem lk_X12_378 : zLk RX12 378 yX12_arrives cX12_arrives 2 (some .int) 1 := ⟨lc_X12_arrives, zw_1 11 (by decide +kernel) (by decide +kernel), by decide +kernel, zw_8 184 (by decide +kernel) (by decide +kernel)⟩
theorem lc_X12_lastAnswer : Cond.code yX12_lastAnswer cX12_lastAnswer 2 (some .int) ∈ zw := zw_8 183 (by decide +kernel) (by decide +kernel)
theorem li_X12_lastAnswer : Cond.instanceMethod yX12_lastAnswer ∈ zw := zw_8 182 (by decide +kernel) (by decide +kernel)
theorem le_X12_lastAnswer : Cond.selects yX12_lastAnswer.cls yX12_lastAnswer yX12_lastAnswer ∈ zw := zw_0 52 (by decide +kernel) (by decide +kernel)
theorem lk_X12_381 : zLk RX12 381 yX12_lastAnswer cX12_lastAnswer 2 (some .int) 1 := ⟨lc_X12_lastAnswer, zw_1 11 (by decide +kernel) (by decide +kernel), by decide +kernel, zw_8 180 (by decide +kernel) (by decide +kernel)⟩
theorem lc_X12_ahead : Cond.code yX12_ahead cX12_ahead 2 (some .int) ∈ zw := zw_8 179 (by decide +kernel) (by decide +kernel)
theorem li_X12_ahead : Cond.instanceMethod yX12_ahead ∈ zw := zw_8 178 (by decide +kernel) (by decide +kernel)
theorem le_X12_ahead : Cond.selects yX12_ahead.cls yX12_ahead yX12_ahead ∈ zw := zw_0 51 (by decide +kernel) (by decide +kernel)
theorem lk_X12_384 : zLk RX12 384 yX12_ahead cX12_ahead 2 (some .int) 1 := ⟨lc_X12_ahead, zw_1 11 (by decide +kernel) (by decide +kernel), by decide +kernel, zw_8 176 (by decide +kernel) (by decide +kernel)⟩
theorem lc_X12_isWork : Cond.code yX12_isWork cX12_isWork 2 (some .boolean) ∈ zw := zw_8 171 (by decide +kernel) (by decide +kernel)
theorem li_X12_isWork : Cond.instanceMethod yX12_isWork ∈ zw := zw_8 170 (by decide +kernel) (by decide +kernel)
theorem le_X12_isWork : Cond.selects yX12_isWork.cls yX12_isWork yX12_isWork ∈ zw := zw_0 49 (by decide +kernel) (by decide +kernel)
theorem lk_X12_387 : zLk RX12 387 yX12_isWork cX12_isWork 2 (some .boolean) 1 := ⟨lc_X12_isWork, zw_1 11 (by decide +kernel) (by decide +kernel), by decide +kernel, zw_8 168 (by decide +kernel) (by decide +kernel)⟩
theorem lc_X12_stateOf : Cond.code yX12_stateOf cX12_stateOf 2 (some .int) ∈ zw := zw_8 175 (by decide +kernel) (by decide +kernel)
theorem li_X12_stateOf : Cond.instanceMethod yX12_stateOf ∈ zw := zw_8 174 (by decide +kernel) (by decide +kernel)
theorem le_X12_stateOf : Cond.selects yX12_stateOf.cls yX12_stateOf yX12_stateOf ∈ zw := zw_0 50 (by decide +kernel) (by decide +kernel)
theorem lk_X12_390 : zLk RX12 390 yX12_stateOf cX12_stateOf 2 (some .int) 1 := ⟨lc_X12_stateOf, zw_1 11 (by decide +kernel) (by decide +kernel), by decide +kernel, zw_8 172 (by decide +kernel) (by decide +kernel)⟩
theorem lc_X12_allowedFrom : Cond.code yX12_allowedFrom cX12_allowedFrom 2 (some .int) ∈ zw := zw_8 207 (by decide +kernel) (by decide +kernel)
theorem li_X12_allowedFrom : Cond.instanceMethod yX12_allowedFrom ∈ zw := zw_8 206 (by decide +kernel) (by decide +kernel)
theorem le_X12_allowedFrom : Cond.selects yX12_allowedFrom.cls yX12_allowedFrom yX12_allowedFrom ∈ zw := zw_0 55 (by decide +kernel) (by decide +kernel)
theorem lk_X12_393 : zLk RX12 393 yX12_allowedFrom cX12_allowedFrom 2 (some .int) 1 := ⟨lc_X12_allowedFrom, zw_1 11 (by decide +kernel) (by decide +kernel), by decide +kernel, zw_8 204 (by decide +kernel) (by decide +kernel)⟩
theorem lc_X12_disputeFrom : Cond.code yX12_disputeFrom cX12_disputeFrom 2 (some .int) ∈ zw := zw_8 211 (by decide +kernel) (by decide +kernel)
theorem li_X12_disputeFrom : Cond.instanceMethod yX12_disputeFrom ∈ zw := zw_8 210 (by decide +kernel) (by decide +kernel)
theorem le_X12_disputeFrom : Cond.selects yX12_disputeFrom.cls yX12_disputeFrom yX12_disputeFrom ∈ zw := zw_0 56 (by decide +kernel) (by decide +kernel)
theorem lk_X12_396 : zLk RX12 396 yX12_disputeFrom cX12_disputeFrom 2 (some .int) 1 := ⟨lc_X12_disputeFrom, zw_1 11 (by decide +kernel) (by decide +kernel), by decide +kernel, zw_8 208 (by decide +kernel) (by decide +kernel)⟩
theorem lc_X12_hoursFrom : Cond.code yX12_hoursFrom cX12_hoursFrom 2 (some .int) ∈ zw := zw_8 215 (by decide +kernel) (by decide +kernel)
theorem li_X12_hoursFrom : Cond.instanceMethod yX12_hoursFrom ∈ zw := zw_8 214 (by decide +kernel) (by decide +kernel)
theorem le_X12_hoursFrom : Cond.selects yX12_hoursFrom.cls yX12_hoursFrom yX12_hoursFrom ∈ zw := zw_0 57 (by decide +kernel) (by decide +kernel)
theorem lk_X12_399 : zLk RX12 399 yX12_hoursFrom cX12_hoursFrom 2 (some .int) 1 := ⟨lc_X12_hoursFrom, zw_1 11 (by decide +kernel) (by decide +kernel), by decide +kernel, zw_8 212 (by decide +kernel) (by decide +kernel)⟩
theorem lc_X12_hoursTo : Cond.code yX12_hoursTo cX12_hoursTo 2 (some .int) ∈ zw := zw_8 219 (by decide +kernel) (by decide +kernel)
theorem li_X12_hoursTo : Cond.instanceMethod yX12_hoursTo ∈ zw := zw_8 218 (by decide +kernel) (by decide +kernel)
theorem le_X12_hoursTo : Cond.selects yX12_hoursTo.cls yX12_hoursTo yX12_hoursTo ∈ zw := zw_0 58 (by decide +kernel) (by decide +kernel)
theorem lk_X12_402 : zLk RX12 402 yX12_hoursTo cX12_hoursTo 2 (some .int) 1 := ⟨lc_X12_hoursTo, zw_1 11 (by decide +kernel) (by decide +kernel), by decide +kernel, zw_8 216 (by decide +kernel) (by decide +kernel)⟩
theorem lc_X12_shareOf : Cond.code yX12_shareOf cX12_shareOf 2 (some .int) ∈ zw := zw_8 223 (by decide +kernel) (by decide +kernel)
theorem li_X12_shareOf : Cond.instanceMethod yX12_shareOf ∈ zw := zw_8 222 (by decide +kernel) (by decide +kernel)
theorem le_X12_shareOf : Cond.selects yX12_shareOf.cls yX12_shareOf yX12_shareOf ∈ zw := zw_0 59 (by decide +kernel) (by decide +kernel)
theorem lk_X12_405 : zLk RX12 405 yX12_shareOf cX12_shareOf 2 (some .int) 1 := ⟨lc_X12_shareOf, zw_1 11 (by decide +kernel) (by decide +kernel), by decide +kernel, zw_8 220 (by decide +kernel) (by decide +kernel)⟩
theorem lc_X12_mayAppeal : Cond.code yX12_mayAppeal cX12_mayAppeal 2 (some .boolean) ∈ zw := zw_8 227 (by decide +kernel) (by decide +kernel)
theorem li_X12_mayAppeal : Cond.instanceMethod yX12_mayAppeal ∈ zw := zw_8 226 (by decide +kernel) (by decide +kernel)
theorem le_X12_mayAppeal : Cond.selects yX12_mayAppeal.cls yX12_mayAppeal yX12_mayAppeal ∈ zw := zw_0 60 (by decide +kernel) (by decide +kernel)
theorem lk_X12_408 : zLk RX12 408 yX12_mayAppeal cX12_mayAppeal 2 (some .boolean) 1 := ⟨lc_X12_mayAppeal, zw_1 11 (by decide +kernel) (by decide +kernel), by decide +kernel, zw_8 224 (by decide +kernel) (by decide +kernel)⟩
theorem lc_X12_lastAppeal : Cond.code yX12_lastAppeal cX12_lastAppeal 2 (some .int) ∈ zw := zw_8 231 (by decide +kernel) (by decide +kernel)
theorem li_X12_lastAppeal : Cond.instanceMethod yX12_lastAppeal ∈ zw := zw_8 230 (by decide +kernel) (by decide +kernel)
theorem le_X12_lastAppeal : Cond.selects yX12_lastAppeal.cls yX12_lastAppeal yX12_lastAppeal ∈ zw := zw_0 61 (by decide +kernel) (by decide +kernel)
theorem lk_X12_411 : zLk RX12 411 yX12_lastAppeal cX12_lastAppeal 2 (some .int) 1 := ⟨lc_X12_lastAppeal, zw_1 11 (by decide +kernel) (by decide +kernel), by decide +kernel, zw_8 228 (by decide +kernel) (by decide +kernel)⟩
theorem lc_X12_isBarred : Cond.code yX12_isBarred cX12_isBarred 4 (some .boolean) ∈ zw := zw_9 3 (by decide +kernel) (by decide +kernel)
theorem li_X12_isBarred : Cond.instanceMethod yX12_isBarred ∈ zw := zw_9 2 (by decide +kernel) (by decide +kernel)
theorem le_X12_isBarred : Cond.selects yX12_isBarred.cls yX12_isBarred yX12_isBarred ∈ zw := zw_0 62 (by decide +kernel) (by decide +kernel)
theorem lk_X12_417 : zLk RX12 417 yX12_isBarred cX12_isBarred 4 (some .boolean) 2 := ⟨lc_X12_isBarred, zw_1 11 (by decide +kernel) (by decide +kernel), by decide +kernel, zw_9 0 (by decide +kernel) (by decide +kernel)⟩
theorem lc_X12_thirdFor : Cond.code yX12_thirdFor cX12_thirdFor 4 none ∈ zw := zw_9 7 (by decide +kernel) (by decide +kernel)
theorem li_X12_thirdFor : Cond.instanceMethod yX12_thirdFor ∈ zw := zw_9 6 (by decide +kernel) (by decide +kernel)
theorem le_X12_thirdFor : Cond.selects yX12_thirdFor.cls yX12_thirdFor yX12_thirdFor ∈ zw := zw_0 63 (by decide +kernel) (by decide +kernel)
theorem lk_X12_421 : zLk RX12 421 yX12_thirdFor cX12_thirdFor 4 none 1 := ⟨lc_X12_thirdFor, zw_1 11 (by decide +kernel) (by decide +kernel), by decide +kernel, zw_9 4 (by decide +kernel) (by decide +kernel)⟩
theorem lc_X12_isWhich : Cond.code yX12_isWhich cX12_isWhich 1 (some .boolean) ∈ zw := zw_9 14 (by decide +kernel) (by decide +kernel)
theorem ls_X12_isWhich : Cond.static yX12_isWhich ∈ zw := zw_9 13 (by decide +kernel) (by decide +kernel)
theorem lk_X12_424 : zLk RX12 424 yX12_isWhich cX12_isWhich 1 (some .boolean) 1 := ⟨lc_X12_isWhich, zw_1 11 (by decide +kernel) (by decide +kernel), by decide +kernel, zw_9 12 (by decide +kernel) (by decide +kernel)⟩
theorem lc_X12_isPayment : Cond.code yX12_isPayment cX12_isPayment 2 (some .boolean) ∈ zw := zw_9 38 (by decide +kernel) (by decide +kernel)
theorem li_X12_isPayment : Cond.instanceMethod yX12_isPayment ∈ zw := zw_9 37 (by decide +kernel) (by decide +kernel)
theorem le_X12_isPayment : Cond.selects yX12_isPayment.cls yX12_isPayment yX12_isPayment ∈ zw := zw_0 64 (by decide +kernel) (by decide +kernel)
theorem lk_X12_433 : zLk RX12 433 yX12_isPayment cX12_isPayment 2 (some .boolean) 1 := ⟨lc_X12_isPayment, zw_1 11 (by decide +kernel) (by decide +kernel), by decide +kernel, zw_9 35 (by decide +kernel) (by decide +kernel)⟩
theorem lc_X12_knownSum : Cond.code yX12_knownSum cX12_knownSum 5 (some .int) ∈ zw := zw_9 43 (by decide +kernel) (by decide +kernel)
theorem li_X12_knownSum : Cond.instanceMethod yX12_knownSum ∈ zw := zw_9 42 (by decide +kernel) (by decide +kernel)
theorem le_X12_knownSum : Cond.selects yX12_knownSum.cls yX12_knownSum yX12_knownSum ∈ zw := zw_0 65 (by decide +kernel) (by decide +kernel)
theorem lk_X12_437 : zLk RX12 437 yX12_knownSum cX12_knownSum 5 (some .int) 2 := ⟨lc_X12_knownSum, zw_1 11 (by decide +kernel) (by decide +kernel), by decide +kernel, zw_9 40 (by decide +kernel) (by decide +kernel)⟩
theorem lc_X12_isFull : Cond.code yX12_isFull cX12_isFull 1 (some .boolean) ∈ zw := zw_9 59 (by decide +kernel) (by decide +kernel)
theorem li_X12_isFull : Cond.instanceMethod yX12_isFull ∈ zw := zw_9 58 (by decide +kernel) (by decide +kernel)
theorem le_X12_isFull : Cond.selects yX12_isFull.cls yX12_isFull yX12_isFull ∈ zw := zw_0 66 (by decide +kernel) (by decide +kernel)
theorem lk_X12_440 : zLk RX12 440 yX12_isFull cX12_isFull 1 (some .boolean) 0 := ⟨lc_X12_isFull, zw_1 11 (by decide +kernel) (by decide +kernel), by decide +kernel, zw_9 56 (by decide +kernel) (by decide +kernel)⟩
theorem lc_X12_ownOwner : Cond.code yX12_ownOwner cX12_ownOwner 2 (some .int) ∈ zw := zw_9 63 (by decide +kernel) (by decide +kernel)
theorem li_X12_ownOwner : Cond.instanceMethod yX12_ownOwner ∈ zw := zw_9 62 (by decide +kernel) (by decide +kernel)
theorem le_X12_ownOwner : Cond.selects yX12_ownOwner.cls yX12_ownOwner yX12_ownOwner ∈ zw := zw_0 67 (by decide +kernel) (by decide +kernel)
theorem lk_X12_444 : zLk RX12 444 yX12_ownOwner cX12_ownOwner 2 (some .int) 1 := ⟨lc_X12_ownOwner, zw_1 11 (by decide +kernel) (by decide +kernel), by decide +kernel, zw_9 60 (by decide +kernel) (by decide +kernel)⟩
theorem lc_X12_otherOwner : Cond.code yX12_otherOwner cX12_otherOwner 2 (some .int) ∈ zw := zw_9 67 (by decide +kernel) (by decide +kernel)
theorem li_X12_otherOwner : Cond.instanceMethod yX12_otherOwner ∈ zw := zw_9 66 (by decide +kernel) (by decide +kernel)
theorem le_X12_otherOwner : Cond.selects yX12_otherOwner.cls yX12_otherOwner yX12_otherOwner ∈ zw := zw_0 68 (by decide +kernel) (by decide +kernel)
theorem lk_X12_447 : zLk RX12 447 yX12_otherOwner cX12_otherOwner 2 (some .int) 1 := ⟨lc_X12_otherOwner, zw_1 11 (by decide +kernel) (by decide +kernel), by decide +kernel, zw_9 64 (by decide +kernel) (by decide +kernel)⟩
theorem lc_X12_pays : Cond.code yX12_pays cX12_pays 4 none ∈ zw := zw_9 71 (by decide +kernel) (by decide +kernel)
theorem li_X12_pays : Cond.instanceMethod yX12_pays ∈ zw := zw_9 70 (by decide +kernel) (by decide +kernel)
theorem le_X12_pays : Cond.selects yX12_pays.cls yX12_pays yX12_pays ∈ zw := zw_0 69 (by decide +kernel) (by decide +kernel)
theorem lk_X12_450 : zLk RX12 450 yX12_pays cX12_pays 4 none 3 := ⟨lc_X12_pays, zw_1 11 (by decide +kernel) (by decide +kernel), by decide +kernel, zw_9 68 (by decide +kernel) (by decide +kernel)⟩
theorem lc_X12_isSpan : Cond.code yX12_isSpan cX12_isSpan 2 (some .boolean) ∈ zw := zw_9 82 (by decide +kernel) (by decide +kernel)
theorem ls_X12_isSpan : Cond.static yX12_isSpan ∈ zw := zw_9 81 (by decide +kernel) (by decide +kernel)
theorem lk_X12_454 : zLk RX12 454 yX12_isSpan cX12_isSpan 2 (some .boolean) 2 := ⟨lc_X12_isSpan, zw_1 11 (by decide +kernel) (by decide +kernel), by decide +kernel, zw_9 80 (by decide +kernel) (by decide +kernel)⟩
theorem lc_X12_isDue : Cond.code yX12_isDue cX12_isDue 3 (some .boolean) ∈ zw := zw_9 94 (by decide +kernel) (by decide +kernel)
theorem li_X12_isDue : Cond.instanceMethod yX12_isDue ∈ zw := zw_9 93 (by decide +kernel) (by decide +kernel)
theorem le_X12_isDue : Cond.selects yX12_isDue.cls yX12_isDue yX12_isDue ∈ zw := zw_0 70 (by decide +kernel) (by decide +kernel)
theorem lk_X12_459 : zLk RX12 459 yX12_isDue cX12_isDue 3 (some .boolean) 2 := ⟨lc_X12_isDue, zw_1 11 (by decide +kernel) (by decide +kernel), by decide +kernel, zw_9 91 (by decide +kernel) (by decide +kernel)⟩
theorem lc_X12_valueOf : Cond.code yX12_valueOf cX12_valueOf 3 (some .int) ∈ zw := zw_9 98 (by decide +kernel) (by decide +kernel)
theorem li_X12_valueOf : Cond.instanceMethod yX12_valueOf ∈ zw := zw_9 97 (by decide +kernel) (by decide +kernel)
theorem le_X12_valueOf : Cond.selects yX12_valueOf.cls yX12_valueOf yX12_valueOf ∈ zw := zw_0 71 (by decide +kernel) (by decide +kernel)
theorem lk_X12_462 : zLk RX12 462 yX12_valueOf cX12_valueOf 3 (some .int) 1 := ⟨lc_X12_valueOf, zw_1 11 (by decide +kernel) (by decide +kernel), by decide +kernel, zw_9 95 (by decide +kernel) (by decide +kernel)⟩
theorem lc_X12_isSurvey : Cond.code yX12_isSurvey cX12_isSurvey 2 (some .boolean) ∈ zw := zw_9 131 (by decide +kernel) (by decide +kernel)
theorem li_X12_isSurvey : Cond.instanceMethod yX12_isSurvey ∈ zw := zw_9 130 (by decide +kernel) (by decide +kernel)
theorem le_X12_isSurvey : Cond.selects yX12_isSurvey.cls yX12_isSurvey yX12_isSurvey ∈ zw := zw_0 72 (by decide +kernel) (by decide +kernel)
theorem lk_X12_471 : zLk RX12 471 yX12_isSurvey cX12_isSurvey 2 (some .boolean) 1 := ⟨lc_X12_isSurvey, zw_1 11 (by decide +kernel) (by decide +kernel), by decide +kernel, zw_9 128 (by decide +kernel) (by decide +kernel)⟩
theorem lc_X12_cellOf : Cond.code yX12_cellOf cX12_cellOf 2 (some .int) ∈ zw := zw_9 142 (by decide +kernel) (by decide +kernel)
theorem ls_X12_cellOf : Cond.static yX12_cellOf ∈ zw := zw_9 141 (by decide +kernel) (by decide +kernel)
theorem lk_X12_474 : zLk RX12 474 yX12_cellOf cX12_cellOf 2 (some .int) 2 := ⟨lc_X12_cellOf, zw_1 11 (by decide +kernel) (by decide +kernel), by decide +kernel, zw_9 140 (by decide +kernel) (by decide +kernel)⟩
theorem lc_X12_takes : Cond.code yX12_takes cX12_takes 4 none ∈ zw := zw_9 146 (by decide +kernel) (by decide +kernel)
theorem li_X12_takes : Cond.instanceMethod yX12_takes ∈ zw := zw_9 145 (by decide +kernel) (by decide +kernel)
theorem le_X12_takes : Cond.selects yX12_takes.cls yX12_takes yX12_takes ∈ zw := zw_0 74 (by decide +kernel) (by decide +kernel)
theorem lk_X12_477 : zLk RX12 477 yX12_takes cX12_takes 4 none 3 := ⟨lc_X12_takes, zw_1 11 (by decide +kernel) (by decide +kernel), by decide +kernel, zw_9 143 (by decide +kernel) (by decide +kernel)⟩
theorem lc_X12_far : Cond.code yX12_far cX12_far 6 (some .int) ∈ zw := zw_9 150 (by decide +kernel) (by decide +kernel)
theorem li_X12_far : Cond.instanceMethod yX12_far ∈ zw := zw_9 149 (by decide +kernel) (by decide +kernel)
theorem le_X12_far : Cond.selects yX12_far.cls yX12_far yX12_far ∈ zw := zw_0 75 (by decide +kernel) (by decide +kernel)
theorem lk_X12_480 : zLk RX12 480 yX12_far cX12_far 6 (some .int) 4 := ⟨lc_X12_far, zw_1 11 (by decide +kernel) (by decide +kernel), by decide +kernel, zw_9 147 (by decide +kernel) (by decide +kernel)⟩
theorem lc_X12_joins : Cond.code yX12_joins cX12_joins 11 none ∈ zw := zw_9 139 (by decide +kernel) (by decide +kernel)
theorem li_X12_joins : Cond.instanceMethod yX12_joins ∈ zw := zw_9 138 (by decide +kernel) (by decide +kernel)
theorem le_X12_joins : Cond.selects yX12_joins.cls yX12_joins yX12_joins ∈ zw := zw_0 73 (by decide +kernel) (by decide +kernel)
theorem lk_X12_484 : zLk RX12 484 yX12_joins cX12_joins 11 none 2 := ⟨lc_X12_joins, zw_1 11 (by decide +kernel) (by decide +kernel), by decide +kernel, zw_9 136 (by decide +kernel) (by decide +kernel)⟩
theorem lc_X12_trueOf : Cond.code yX12_trueOf cX12_trueOf 3 (some .int) ∈ zw := zw_9 154 (by decide +kernel) (by decide +kernel)
theorem li_X12_trueOf : Cond.instanceMethod yX12_trueOf ∈ zw := zw_9 153 (by decide +kernel) (by decide +kernel)
theorem le_X12_trueOf : Cond.selects yX12_trueOf.cls yX12_trueOf yX12_trueOf ∈ zw := zw_0 76 (by decide +kernel) (by decide +kernel)
theorem lk_X12_487 : zLk RX12 487 yX12_trueOf cX12_trueOf 3 (some .int) 2 := ⟨lc_X12_trueOf, zw_1 11 (by decide +kernel) (by decide +kernel), by decide +kernel, zw_9 151 (by decide +kernel) (by decide +kernel)⟩
theorem lc_X12_isGauge : Cond.code yX12_isGauge cX12_isGauge 2 (some .boolean) ∈ zw := zw_9 170 (by decide +kernel) (by decide +kernel)
theorem li_X12_isGauge : Cond.instanceMethod yX12_isGauge ∈ zw := zw_9 169 (by decide +kernel) (by decide +kernel)
theorem le_X12_isGauge : Cond.selects yX12_isGauge.cls yX12_isGauge yX12_isGauge ∈ zw := zw_0 77 (by decide +kernel) (by decide +kernel)
theorem lk_X12_493 : zLk RX12 493 yX12_isGauge cX12_isGauge 2 (some .boolean) 1 := ⟨lc_X12_isGauge, zw_1 11 (by decide +kernel) (by decide +kernel), by decide +kernel, zw_9 167 (by decide +kernel) (by decide +kernel)⟩
theorem lc_X12_floor : Cond.code yX12_floor cX12_floor 6 (some .long) ∈ zw := zw_9 181 (by decide +kernel) (by decide +kernel)
theorem ls_X12_floor : Cond.static yX12_floor ∈ zw := zw_9 180 (by decide +kernel) (by decide +kernel)
theorem lk_X12_496 : zLk RX12 496 yX12_floor cX12_floor 6 (some .long) 2 := ⟨lc_X12_floor, zw_1 11 (by decide +kernel) (by decide +kernel), by decide +kernel, zw_9 179 (by decide +kernel) (by decide +kernel)⟩
theorem lc_X12_atDay : Cond.code yX12_atDay cX12_atDay 5 (some .int) ∈ zw := zw_9 178 (by decide +kernel) (by decide +kernel)
theorem li_X12_atDay : Cond.instanceMethod yX12_atDay ∈ zw := zw_9 177 (by decide +kernel) (by decide +kernel)
theorem le_X12_atDay : Cond.selects yX12_atDay.cls yX12_atDay yX12_atDay ∈ zw := zw_0 78 (by decide +kernel) (by decide +kernel)
theorem lk_X12_501 : zLk RX12 501 yX12_atDay cX12_atDay 5 (some .int) 2 := ⟨lc_X12_atDay, zw_1 11 (by decide +kernel) (by decide +kernel), by decide +kernel, zw_9 175 (by decide +kernel) (by decide +kernel)⟩
theorem lc_X12_grewOf : Cond.code yX12_grewOf cX12_grewOf 4 (some .long) ∈ zw := zw_9 199 (by decide +kernel) (by decide +kernel)
theorem li_X12_grewOf : Cond.instanceMethod yX12_grewOf ∈ zw := zw_9 198 (by decide +kernel) (by decide +kernel)
theorem le_X12_grewOf : Cond.selects yX12_grewOf.cls yX12_grewOf yX12_grewOf ∈ zw := zw_0 81 (by decide +kernel) (by decide +kernel)
theorem lk_X12_504 : zLk RX12 504 yX12_grewOf cX12_grewOf 4 (some .long) 3 := ⟨lc_X12_grewOf, zw_1 11 (by decide +kernel) (by decide +kernel), by decide +kernel, zw_9 196 (by decide +kernel) (by decide +kernel)⟩
theorem lc_X12_ageOf : Cond.code yX12_ageOf cX12_ageOf 6 (some .long) ∈ zw := zw_9 203 (by decide +kernel) (by decide +kernel)
theorem li_X12_ageOf : Cond.instanceMethod yX12_ageOf ∈ zw := zw_9 202 (by decide +kernel) (by decide +kernel)
theorem le_X12_ageOf : Cond.selects yX12_ageOf.cls yX12_ageOf yX12_ageOf ∈ zw := zw_0 82 (by decide +kernel) (by decide +kernel)
theorem lk_X12_508 : zLk RX12 508 yX12_ageOf cX12_ageOf 6 (some .long) 3 := ⟨lc_X12_ageOf, zw_1 11 (by decide +kernel) (by decide +kernel), by decide +kernel, zw_9 200 (by decide +kernel) (by decide +kernel)⟩
theorem lc_X12_isAsked : Cond.code yX12_isAsked cX12_isAsked 4 (some .boolean) ∈ zw := zw_9 190 (by decide +kernel) (by decide +kernel)
theorem li_X12_isAsked : Cond.instanceMethod yX12_isAsked ∈ zw := zw_9 189 (by decide +kernel) (by decide +kernel)
theorem le_X12_isAsked : Cond.selects yX12_isAsked.cls yX12_isAsked yX12_isAsked ∈ zw := zw_0 79 (by decide +kernel) (by decide +kernel)
theorem lk_X12_511 : zLk RX12 511 yX12_isAsked cX12_isAsked 4 (some .boolean) 3 := ⟨lc_X12_isAsked, zw_1 11 (by decide +kernel) (by decide +kernel), by decide +kernel, zw_9 187 (by decide +kernel) (by decide +kernel)⟩
theorem lc_X12_isToldCause : Cond.code yX12_isToldCause cX12_isToldCause 6 (some .boolean) ∈ zw := zw_9 194 (by decide +kernel) (by decide +kernel)
theorem li_X12_isToldCause : Cond.instanceMethod yX12_isToldCause ∈ zw := zw_9 193 (by decide +kernel) (by decide +kernel)
theorem le_X12_isToldCause : Cond.selects yX12_isToldCause.cls yX12_isToldCause yX12_isToldCause ∈ zw := zw_0 80 (by decide +kernel) (by decide +kernel)
theorem lk_X12_515 : zLk RX12 515 yX12_isToldCause cX12_isToldCause 6 (some .boolean) 4 := ⟨lc_X12_isToldCause, zw_1 11 (by decide +kernel) (by decide +kernel), by decide +kernel, zw_9 191 (by decide +kernel) (by decide +kernel)⟩
theorem lc_X12_worksOf : Cond.code yX12_worksOf cX12_worksOf 5 (some .long) ∈ zw := zw_9 207 (by decide +kernel) (by decide +kernel)
theorem li_X12_worksOf : Cond.instanceMethod yX12_worksOf ∈ zw := zw_9 206 (by decide +kernel) (by decide +kernel)
theorem le_X12_worksOf : Cond.selects yX12_worksOf.cls yX12_worksOf yX12_worksOf ∈ zw := zw_0 83 (by decide +kernel) (by decide +kernel)
theorem lk_X12_520 : zLk RX12 520 yX12_worksOf cX12_worksOf 5 (some .long) 4 := ⟨lc_X12_worksOf, zw_1 11 (by decide +kernel) (by decide +kernel), by decide +kernel, zw_9 204 (by decide +kernel) (by decide +kernel)⟩
theorem lc_J0_coder_7d493 : Cond.code yJ0_coder_7d493 cJ0_coder_7d493 1 (some .byte) ∈ zw := zw_3 141 (by decide +kernel) (by decide +kernel)
theorem li_J0_coder_7d493 : Cond.instanceMethod yJ0_coder_7d493 ∈ zw := zw_3 139 (by decide +kernel) (by decide +kernel)
theorem le_J0_coder_7d493 : Cond.selects yJ0_coder_7d493.cls yJ0_coder_7d493 yJ0_coder_7d493 ∈ zw := zw_3 140 (by decide +kernel) (by decide +kernel)
theorem lk_J0_335 : zLk RJ0 335 yJ0_coder_7d493 cJ0_coder_7d493 1 (some .byte) 0 := ⟨lc_J0_coder_7d493, zw_1 25 (by decide +kernel) (by decide +kernel), by decide +kernel, zw_3 138 (by decide +kernel) (by decide +kernel)⟩
theorem lc_J0_isLatin1_aae02 : Cond.code yJ0_isLatin1_aae02 cJ0_isLatin1_aae02 1 (some .boolean) ∈ zw := zw_3 151 (by decide +kernel) (by decide +kernel)
theorem li_J0_isLatin1_aae02 : Cond.instanceMethod yJ0_isLatin1_aae02 ∈ zw := zw_3 149 (by decide +kernel) (by decide +kernel)
theorem le_J0_isLatin1_aae02 : Cond.selects yJ0_isLatin1_aae02.cls yJ0_isLatin1_aae02 yJ0_isLatin1_aae02 ∈ zw := zw_3 150 (by decide +kernel) (by decide +kernel)
theorem lk_J0_492 : zLk RJ0 492 yJ0_isLatin1_aae02 cJ0_isLatin1_aae02 1 (some .boolean) 0 := ⟨lc_J0_isLatin1_aae02, zw_1 25 (by decide +kernel) (by decide +kernel), by decide +kernel, zw_3 148 (by decide +kernel) (by decide +kernel)⟩
theorem lc_J1_charAt_3b067 : Cond.code yJ1_charAt_3b067 cJ1_charAt_3b067 2 (some .char) ∈ zw := zw_3 154 (by decide +kernel) (by decide +kernel)
theorem ls_J1_charAt_3b067 : Cond.static yJ1_charAt_3b067 ∈ zw := zw_3 153 (by decide +kernel) (by decide +kernel)
theorem lk_J0_495 : zLk RJ0 495 yJ1_charAt_3b067 cJ1_charAt_3b067 2 (some .char) 2 := ⟨lc_J1_charAt_3b067, zw_1 26 (by decide +kernel) (by decide +kernel), by decide +kernel, zw_3 152 (by decide +kernel) (by decide +kernel)⟩
theorem lc_J2_charAt_3b067 : Cond.code yJ2_charAt_3b067 cJ2_charAt_3b067 2 (some .char) ∈ zw := zw_3 163 (by decide +kernel) (by decide +kernel)
theorem ls_J2_charAt_3b067 : Cond.static yJ2_charAt_3b067 ∈ zw := zw_3 162 (by decide +kernel) (by decide +kernel)
theorem lk_J0_498 : zLk RJ0 498 yJ2_charAt_3b067 cJ2_charAt_3b067 2 (some .char) 2 := ⟨lc_J2_charAt_3b067, zw_1 27 (by decide +kernel) (by decide +kernel), by decide +kernel, zw_3 161 (by decide +kernel) (by decide +kernel)⟩
theorem lc_J3_checkIndex_8e157 : Cond.code yJ3_checkIndex_8e157 cJ3_checkIndex_8e157 3 (some .int) ∈ zw := zw_3 64 (by decide +kernel) (by decide +kernel)
theorem ls_J3_checkIndex_8e157 : Cond.static yJ3_checkIndex_8e157 ∈ zw := zw_3 63 (by decide +kernel) (by decide +kernel)
theorem lk_J0_1059 : zLk RJ0 1059 yJ3_checkIndex_8e157 cJ3_checkIndex_8e157 3 (some .int) 3 := ⟨lc_J3_checkIndex_8e157, zw_1 23 (by decide +kernel) (by decide +kernel), by decide +kernel, zw_3 160 (by decide +kernel) (by decide +kernel)⟩
theorem lc_J0_checkIndex_df160 : Cond.code yJ0_checkIndex_df160 cJ0_checkIndex_df160 2 none ∈ zw := zw_3 157 (by decide +kernel) (by decide +kernel)
theorem ls_J0_checkIndex_df160 : Cond.static yJ0_checkIndex_df160 ∈ zw := zw_3 156 (by decide +kernel) (by decide +kernel)
theorem lk_J1_9 : zLk RJ1 9 yJ0_checkIndex_df160 cJ0_checkIndex_df160 2 none 2 := ⟨lc_J0_checkIndex_df160, zw_1 25 (by decide +kernel) (by decide +kernel), by decide +kernel, zw_3 155 (by decide +kernel) (by decide +kernel)⟩
theorem lc_J2_length_9d52b : Cond.code yJ2_length_9d52b cJ2_length_9d52b 1 (some .int) ∈ zw := zw_3 169 (by decide +kernel) (by decide +kernel)
theorem ls_J2_length_9d52b : Cond.static yJ2_length_9d52b ∈ zw := zw_3 168 (by decide +kernel) (by decide +kernel)
theorem lk_J2_48 : zLk RJ2 48 yJ2_length_9d52b cJ2_length_9d52b 1 (some .int) 1 := ⟨lc_J2_length_9d52b, zw_1 27 (by decide +kernel) (by decide +kernel), by decide +kernel, zw_3 167 (by decide +kernel) (by decide +kernel)⟩
theorem lc_J2_checkIndex_2214a : Cond.code yJ2_checkIndex_2214a cJ2_checkIndex_2214a 2 none ∈ zw := zw_3 166 (by decide +kernel) (by decide +kernel)
theorem ls_J2_checkIndex_2214a : Cond.static yJ2_checkIndex_2214a ∈ zw := zw_3 165 (by decide +kernel) (by decide +kernel)
theorem lk_J2_67 : zLk RJ2 67 yJ2_checkIndex_2214a cJ2_checkIndex_2214a 2 none 2 := ⟨lc_J2_checkIndex_2214a, zw_1 27 (by decide +kernel) (by decide +kernel), by decide +kernel, zw_3 164 (by decide +kernel) (by decide +kernel)⟩
theorem lc_J2_getChar_3b067 : Cond.code yJ2_getChar_3b067 cJ2_getChar_3b067 2 (some .char) ∈ zw := zw_3 173 (by decide +kernel) (by decide +kernel)
theorem ls_J2_getChar_3b067 : Cond.static yJ2_getChar_3b067 ∈ zw := zw_3 172 (by decide +kernel) (by decide +kernel)
theorem lk_J2_71 : zLk RJ2 71 yJ2_getChar_3b067 cJ2_getChar_3b067 2 (some .char) 2 := ⟨lc_J2_getChar_3b067, zw_1 27 (by decide +kernel) (by decide +kernel), by decide +kernel, zw_3 171 (by decide +kernel) (by decide +kernel)⟩
theorem lk_J2_414 : zLk RJ2 414 yJ0_checkIndex_df160 cJ0_checkIndex_df160 2 none 2 := ⟨lc_J0_checkIndex_df160, zw_1 25 (by decide +kernel) (by decide +kernel), by decide +kernel, zw_3 170 (by decide +kernel) (by decide +kernel)⟩
theorem lc_Jxa1e45_init_da8c8 : Cond.code yJxa1e45_init_da8c8 cJxa1e45_init_da8c8 1 none ∈ zw := zw_1 51 (by decide +kernel) (by decide +kernel)
theorem li_Jxa1e45_init_da8c8 : Cond.instanceMethod yJxa1e45_init_da8c8 ∈ zw := zw_1 50 (by decide +kernel) (by decide +kernel)
theorem lk_Jxc12de_1 : zLk RJxc12de 1 yJxa1e45_init_da8c8 cJxa1e45_init_da8c8 1 none 0 := ⟨lc_Jxa1e45_init_da8c8, zw_1 2 (by decide +kernel) (by decide +kernel), by decide +kernel, zw_1 49 (by decide +kernel) (by decide +kernel)⟩
theorem lc_Jxc12de_init_da8c8 : Cond.code yJxc12de_init_da8c8 cJxc12de_init_da8c8 1 none ∈ zw := zw_1 48 (by decide +kernel) (by decide +kernel)
theorem li_Jxc12de_init_da8c8 : Cond.instanceMethod yJxc12de_init_da8c8 ∈ zw := zw_1 47 (by decide +kernel) (by decide +kernel)
theorem lk_Jx4a65c_1 : zLk RJx4a65c 1 yJxc12de_init_da8c8 cJxc12de_init_da8c8 1 none 0 := ⟨lc_Jxc12de_init_da8c8, zw_1 3 (by decide +kernel) (by decide +kernel), by decide +kernel, zw_1 46 (by decide +kernel) (by decide +kernel)⟩
theorem lc_J7_copyOf_1904c : Cond.code yJ7_copyOf_1904c cJ7_copyOf_1904c 2 (some (.array (.object "java/lang/Object"))) ∈ zw := zw_3 7 (by decide +kernel) (by decide +kernel)
theorem ls_J7_copyOf_1904c : Cond.static yJ7_copyOf_1904c ∈ zw := zw_3 6 (by decide +kernel) (by decide +kernel)
theorem lk_Jx4a65c_66 : zLk RJx4a65c 66 yJ7_copyOf_1904c cJ7_copyOf_1904c 2 (some (.array (.object "java/lang/Object"))) 2 := ⟨lc_J7_copyOf_1904c, zw_1 20 (by decide +kernel) (by decide +kernel), by decide +kernel, zw_3 5 (by decide +kernel) (by decide +kernel)⟩
theorem lc_Jx4a65c_grow_92f84 : Cond.code yJx4a65c_grow_92f84 cJx4a65c_grow_92f84 4 (some (.array (.object "java/lang/Object"))) ∈ zw := zw_2 234 (by decide +kernel) (by decide +kernel)
theorem li_Jx4a65c_grow_92f84 : Cond.instanceMethod yJx4a65c_grow_92f84 ∈ zw := zw_2 233 (by decide +kernel) (by decide +kernel)
theorem le_Jx4a65c_grow_92f84 : Cond.selects yJx4a65c_grow_92f84.cls yJx4a65c_grow_92f84 yJx4a65c_grow_92f84 ∈ zw := zw_0 4 (by decide +kernel) (by decide +kernel)
theorem lk_Jx4a65c_69 : zLk RJx4a65c 69 yJx4a65c_grow_92f84 cJx4a65c_grow_92f84 4 (some (.array (.object "java/lang/Object"))) 1 := ⟨lc_Jx4a65c_grow_92f84, zw_1 4 (by decide +kernel) (by decide +kernel), by decide +kernel, zw_2 231 (by decide +kernel) (by decide +kernel)⟩
theorem lc_J8_newLength_cabcc : Cond.code yJ8_newLength_cabcc cJ8_newLength_cabcc 4 (some .int) ∈ zw := zw_2 237 (by decide +kernel) (by decide +kernel)
theorem ls_J8_newLength_cabcc : Cond.static yJ8_newLength_cabcc ∈ zw := zw_2 236 (by decide +kernel) (by decide +kernel)
theorem lk_Jx4a65c_73 : zLk RJx4a65c 73 yJ8_newLength_cabcc cJ8_newLength_cabcc 4 (some .int) 3 := ⟨lc_J8_newLength_cabcc, zw_1 18 (by decide +kernel) (by decide +kernel), by decide +kernel, zw_2 235 (by decide +kernel) (by decide +kernel)⟩
theorem lk_Jx4a65c_79 : zLk RJx4a65c 79 yJ9_max_7cf53 cJ9_max_7cf53 2 (some .int) 2 := ⟨lc_J9_max_7cf53, zw_1 19 (by decide +kernel) (by decide +kernel), by decide +kernel, zw_3 40 (by decide +kernel) (by decide +kernel)⟩
theorem lc_J15_checkIndex_7cf53 : Cond.code yJ15_checkIndex_7cf53 cJ15_checkIndex_7cf53 2 (some .int) ∈ zw := zw_3 61 (by decide +kernel) (by decide +kernel)
theorem ls_J15_checkIndex_7cf53 : Cond.static yJ15_checkIndex_7cf53 ∈ zw := zw_3 60 (by decide +kernel) (by decide +kernel)
theorem lk_Jx4a65c_118 : zLk RJx4a65c 118 yJ15_checkIndex_7cf53 cJ15_checkIndex_7cf53 2 (some .int) 2 := ⟨lc_J15_checkIndex_7cf53, zw_1 22 (by decide +kernel) (by decide +kernel), by decide +kernel, zw_3 59 (by decide +kernel) (by decide +kernel)⟩
theorem lc_Jx4a65c_elementData_915e3 : Cond.code yJx4a65c_elementData_915e3 cJx4a65c_elementData_915e3 2 (some (.object "java/lang/Object")) ∈ zw := zw_3 68 (by decide +kernel) (by decide +kernel)
theorem li_Jx4a65c_elementData_915e3 : Cond.instanceMethod yJx4a65c_elementData_915e3 ∈ zw := zw_3 66 (by decide +kernel) (by decide +kernel)
theorem le_Jx4a65c_elementData_915e3 : Cond.selects yJx4a65c_elementData_915e3.cls yJx4a65c_elementData_915e3 yJx4a65c_elementData_915e3 ∈ zw := zw_3 67 (by decide +kernel) (by decide +kernel)
theorem lk_Jx4a65c_123 : zLk RJx4a65c 123 yJx4a65c_elementData_915e3 cJx4a65c_elementData_915e3 2 (some (.object "java/lang/Object")) 1 := ⟨lc_Jx4a65c_elementData_915e3, zw_1 4 (by decide +kernel) (by decide +kernel), by decide +kernel, zw_3 65 (by decide +kernel) (by decide +kernel)⟩
theorem lc_Jx4a65c_grow_d5877 : Cond.code yJx4a65c_grow_d5877 cJx4a65c_grow_d5877 1 (some (.array (.object "java/lang/Object"))) ∈ zw := zw_2 230 (by decide +kernel) (by decide +kernel)
theorem li_Jx4a65c_grow_d5877 : Cond.instanceMethod yJx4a65c_grow_d5877 ∈ zw := zw_2 229 (by decide +kernel) (by decide +kernel)
theorem le_Jx4a65c_grow_d5877 : Cond.selects yJx4a65c_grow_d5877.cls yJx4a65c_grow_d5877 yJx4a65c_grow_d5877 ∈ zw := zw_0 3 (by decide +kernel) (by decide +kernel)
theorem lk_Jx4a65c_129 : zLk RJx4a65c 129 yJx4a65c_grow_d5877 cJx4a65c_grow_d5877 1 (some (.array (.object "java/lang/Object"))) 0 := ⟨lc_Jx4a65c_grow_d5877, zw_1 4 (by decide +kernel) (by decide +kernel), by decide +kernel, zw_2 227 (by decide +kernel) (by decide +kernel)⟩
theorem lc_Jx4a65c_add_72be8 : Cond.code yJx4a65c_add_72be8 cJx4a65c_add_72be8 4 none ∈ zw := zw_2 226 (by decide +kernel) (by decide +kernel)
theorem li_Jx4a65c_add_72be8 : Cond.instanceMethod yJx4a65c_add_72be8 ∈ zw := zw_2 225 (by decide +kernel) (by decide +kernel)
theorem le_Jx4a65c_add_72be8 : Cond.selects yJx4a65c_add_72be8.cls yJx4a65c_add_72be8 yJx4a65c_add_72be8 ∈ zw := zw_0 2 (by decide +kernel) (by decide +kernel)
theorem lk_Jx4a65c_131 : zLk RJx4a65c 131 yJx4a65c_add_72be8 cJx4a65c_add_72be8 4 none 3 := ⟨lc_Jx4a65c_add_72be8, zw_1 4 (by decide +kernel) (by decide +kernel), by decide +kernel, zw_2 223 (by decide +kernel) (by decide +kernel)⟩
theorem lc_J7_copyOf_6403c : Cond.code yJ7_copyOf_6403c cJ7_copyOf_6403c 4 (some (.array (.object "java/lang/Object"))) ∈ zw := zw_3 30 (by decide +kernel) (by decide +kernel)
theorem ls_J7_copyOf_6403c : Cond.static yJ7_copyOf_6403c ∈ zw := zw_3 29 (by decide +kernel) (by decide +kernel)
theorem lk_J7_300 : zLk RJ7 300 yJ7_copyOf_6403c cJ7_copyOf_6403c 4 (some (.array (.object "java/lang/Object"))) 3 := ⟨lc_J7_copyOf_6403c, zw_1 20 (by decide +kernel) (by decide +kernel), by decide +kernel, zw_3 28 (by decide +kernel) (by decide +kernel)⟩
theorem lk_J7_304 : zLk RJ7 304 yJ9_min_7cf53 cJ9_min_7cf53 2 (some .int) 2 := ⟨lc_J9_min_7cf53, zw_1 19 (by decide +kernel) (by decide +kernel), by decide +kernel, zw_3 34 (by decide +kernel) (by decide +kernel)⟩
theorem lk_J15_105 : zLk RJ15 105 yJ3_checkIndex_8e157 cJ3_checkIndex_8e157 3 (some .int) 3 := ⟨lc_J3_checkIndex_8e157, zw_1 23 (by decide +kernel) (by decide +kernel), by decide +kernel, zw_3 62 (by decide +kernel) (by decide +kernel)⟩
theorem lk_J8_194 : zLk RJ8 194 yJ9_max_7cf53 cJ9_max_7cf53 2 (some .int) 2 := ⟨lc_J9_max_7cf53, zw_1 19 (by decide +kernel) (by decide +kernel), by decide +kernel, zw_2 238 (by decide +kernel) (by decide +kernel)⟩
theorem lc_J8_hugeLength_7cf53 : Cond.code yJ8_hugeLength_7cf53 cJ8_hugeLength_7cf53 3 (some .int) ∈ zw := zw_3 4 (by decide +kernel) (by decide +kernel)
theorem ls_J8_hugeLength_7cf53 : Cond.static yJ8_hugeLength_7cf53 ∈ zw := zw_3 3 (by decide +kernel) (by decide +kernel)
theorem lk_J8_201 : zLk RJ8 201 yJ8_hugeLength_7cf53 cJ8_hugeLength_7cf53 3 (some .int) 2 := ⟨lc_J8_hugeLength_7cf53, zw_1 18 (by decide +kernel) (by decide +kernel), by decide +kernel, zw_3 2 (by decide +kernel) (by decide +kernel)⟩
theorem kc_X11_114 : Cond.constant RX11 114 (1000000) ∈ zw := zw_3 106 (by decide +kernel) (by decide +kernel)
theorem kc_X11_277 : Cond.constant RX11 277 (100000) ∈ zw := zw_5 125 (by decide +kernel) (by decide +kernel)
theorem kc_X11_338 : Cond.constant RX11 338 (1000000000) ∈ zw := zw_5 224 (by decide +kernel) (by decide +kernel)
theorem kc_X11_427 : Cond.constant RX11 427 (-2000000000) ∈ zw := zw_6 207 (by decide +kernel) (by decide +kernel)
theorem kc_X12_225 : Cond.constant RX12 225 (1000000) ∈ zw := zw_8 41 (by decide +kernel) (by decide +kernel)
theorem kc_X12_304 : Cond.constant RX12 304 (100000) ∈ zw := zw_8 104 (by decide +kernel) (by decide +kernel)
theorem kc_X12_436 : Cond.constant RX12 436 (1000000000) ∈ zw := zw_9 39 (by decide +kernel) (by decide +kernel)
theorem kc_X12_500 : Cond.constant RX12 500 (-2000000000) ∈ zw := zw_9 182 (by decide +kernel) (by decide +kernel)
theorem kc_J8_200 : Cond.constant RJ8 200 (2147483639) ∈ zw := zw_3 1 (by decide +kernel) (by decide +kernel)
theorem kj_X11_432 : Cond.constantLong RX11 432 (-2000000000) ∈ zw := zw_6 218 (by decide +kernel) (by decide +kernel)
theorem kj_X5_49 : Cond.constantLong RX5 49 (-2) ∈ zw := zw_4 62 (by decide +kernel) (by decide +kernel)
theorem kj_X12_457 : Cond.constantLong RX12 457 (100) ∈ zw := zw_9 99 (by decide +kernel) (by decide +kernel)
theorem kj_X12_518 : Cond.constantLong RX12 518 (-2000000000) ∈ zw := zw_9 195 (by decide +kernel) (by decide +kernel)
