
theorem by_places {big ws : List Cond} (ps : List Nat) (hp : ws = ps.filterMap (fun i => big[i]?)) : ∀ w ∈ ws, w ∈ big := by
  intro w hw
  rw [hp] at hw
  obtain ⟨i, -, hi⟩ := List.mem_filterMap.mp hw
  exact List.mem_of_getElem? hi
theorem tX0 : ∀ w ∈ wsX00, w ∈ lw_tbl := by_places [236, 238, 240, 242, 244, 246, 248] (by decide +kernel)
theorem tX1 : ∀ w ∈ wsX10, w ∈ lw_tbl := by_places [1115, 1117, 1119, 1121, 1123, 1125, 1127] (by decide +kernel)
theorem tX2 : ∀ w ∈ wsX20, w ∈ lw_tbl := by_places [1215, 1217, 1219, 1221, 1223, 1225, 1227, 1229] (by decide +kernel)
theorem tX3 : ∀ w ∈ wsX30, w ∈ lw_tbl := by_places [178, 180, 182, 184, 186, 188, 190, 192] (by decide +kernel)
theorem tX4 : ∀ w ∈ wsX40, w ∈ lw_tbl := by_places [430, 432, 434, 436] (by decide +kernel)
theorem tX5 : ∀ w ∈ wsX50, w ∈ lw_tbl := by_places [596, 598, 600, 602, 604] (by decide +kernel)
theorem tX6 : ∀ w ∈ wsX60, w ∈ lw_tbl := by_places [408, 410, 412, 414, 416, 418, 420] (by decide +kernel)
theorem tX7 : ∀ w ∈ wsX70, w ∈ lw_tbl := by_places [211, 213, 215] (by decide +kernel)
theorem tX8 : ∀ w ∈ wsX80, w ∈ lw_tbl := by_places [269, 271, 273, 275, 277, 279, 281, 283, 285] (by decide +kernel)
theorem tX9 : ∀ w ∈ wsX90, w ∈ lw_tbl := by_places [696, 698, 700, 702, 704, 706, 708, 710, 712, 714, 716] (by decide +kernel)
theorem tX10 : ∀ w ∈ wsX100, w ∈ lw_tbl := by_places [301, 303, 305, 307, 309] (by decide +kernel)
theorem tX11 : ∀ w ∈ wsX110, w ∈ lw_tbl := by_places [329, 331, 333, 335, 337, 339, 341, 343, 345, 347, 349, 351, 353, 355, 357, 359, 361] (by decide +kernel)
theorem tX12 : ∀ w ∈ wsX120, w ∈ lw_tbl := by_places [1341, 1343, 1345, 1347, 1349, 1351, 1353, 1355, 1357, 1359, 1361, 1363, 1365, 1367, 1369, 1371, 1373, 1375, 1377, 1379, 1381, 1383, 1385, 1387, 1389, 1391, 1393, 1395, 1397, 1399, 1401, 1403, 1405, 1407, 1409, 1411, 1413, 1415, 1417, 1419, 1421, 1423, 1425, 1427, 1429, 1431, 1433, 1435, 1437, 1439, 1441, 1443, 1445, 1447, 1449, 1451, 1453, 1455, 1457] (by decide +kernel)

theorem tbo_c_Program_init : ∀ w ∈ ow_c_Program_init, w ∈ lw_tbl := by_places [146, 139, 140, 147, 151, 149, 154, 196, 159, 163, 165, 167, 171, 175] (by decide +kernel)
theorem tb_c_Program_init : ∀ w ∈ vs_c_Program_init, w ∈ lw_tbl := List.forall_mem_cons.mpr ⟨List.mem_of_getElem? (i := 145) (by decide +kernel), fun w h => (List.mem_append.mp h).elim (tbo_c_Program_init w) (fun h => tX3 w h)⟩

theorem tbo_c_Sheets_init : ∀ w ∈ ow_c_Sheets_init, w ∈ lw_tbl := by_places [202, 139, 140, 196, 203, 218, 206, 208] (by decide +kernel)
theorem tb_c_Sheets_init : ∀ w ∈ vs_c_Sheets_init, w ∈ lw_tbl := List.forall_mem_cons.mpr ⟨List.mem_of_getElem? (i := 201) (by decide +kernel), fun w h => (List.mem_append.mp h).elim (tbo_c_Sheets_init w) (fun h => tX7 w h)⟩

theorem tbo_c_Changes_init : ∀ w ∈ ow_c_Changes_init, w ∈ lw_tbl := by_places [224, 139, 140, 196, 225, 226, 227, 228, 229, 230, 232] (by decide +kernel)
theorem tb_c_Changes_init : ∀ w ∈ vs_c_Changes_init, w ∈ lw_tbl := List.forall_mem_cons.mpr ⟨List.mem_of_getElem? (i := 223) (by decide +kernel), fun w h => (List.mem_append.mp h).elim (tbo_c_Changes_init w) (fun h => tX0 w h)⟩

theorem tbo_c_Shown_init : ∀ w ∈ ow_c_Shown_init, w ∈ lw_tbl := by_places [256, 139, 140, 288, 259, 261, 263, 264, 265, 266, 267, 257, 258] (by decide +kernel)
theorem tb_c_Shown_init : ∀ w ∈ vs_c_Shown_init, w ∈ lw_tbl := List.forall_mem_cons.mpr ⟨List.mem_of_getElem? (i := 255) (by decide +kernel), fun w h => (List.mem_append.mp h).elim (tbo_c_Shown_init w) (fun h => tX8 w h)⟩

theorem tbo_c_Worker_init : ∀ w ∈ ow_c_Worker_init, w ∈ lw_tbl := by_places [294, 139, 140, 288, 298, 299, 295, 296, 297] (by decide +kernel)
theorem tb_c_Worker_init : ∀ w ∈ vs_c_Worker_init, w ∈ lw_tbl := List.forall_mem_cons.mpr ⟨List.mem_of_getElem? (i := 293) (by decide +kernel), fun w h => (List.mem_append.mp h).elim (tbo_c_Worker_init w) (fun h => tX10 w h)⟩

theorem tbo_c_X_init : ∀ w ∈ ow_c_X_init, w ∈ lw_tbl := by_places [138, 139, 140, 195, 312, 313, 314, 315, 141, 142, 113, 144, 316, 197, 198, 114, 200, 317, 219, 220, 115, 222, 318, 251, 252, 116, 253, 254, 319, 289, 290, 117, 291, 292, 320, 196, 321, 322, 323, 324, 325, 288, 326, 327, 328] (by decide +kernel)
theorem tb_c_X_init : ∀ w ∈ vs_c_X_init, w ∈ lw_tbl := List.forall_mem_cons.mpr ⟨List.mem_of_getElem? (i := 137) (by decide +kernel), fun w h => (List.mem_append.mp h).elim (tbo_c_X_init w) (fun h => (List.mem_append.mp h).elim (tb_c_Program_init w) (fun h => (List.mem_append.mp h).elim (tb_c_Sheets_init w) (fun h => (List.mem_append.mp h).elim (tb_c_Changes_init w) (fun h => (List.mem_append.mp h).elim (tb_c_Shown_init w) (fun h => (List.mem_append.mp h).elim (tb_c_Worker_init w) (fun h => (List.mem_append.mp h).elim (tX0 w) (fun h => (List.mem_append.mp h).elim (tX3 w) (fun h => (List.mem_append.mp h).elim (tX7 w) (fun h => (List.mem_append.mp h).elim (tX8 w) (fun h => (List.mem_append.mp h).elim (tX10 w) (fun h => tX11 w h)))))))))))⟩

theorem tbo_c_M_init : ∀ w ∈ ow_c_M_init, w ∈ lw_tbl := by_places [1281, 139, 140, 195, 1282, 1283, 1287, 196, 1293, 1294, 1295, 1296, 1297, 1298, 1299, 1300, 1301, 1302, 1303, 1304, 1305, 1306, 288, 1307, 1308, 1309, 1310, 1313, 1314, 1315, 1316, 1317, 1318, 1319, 218, 1320, 1323, 1324, 1325, 1326, 1329, 1332, 1333, 1334, 1336, 1337, 1338, 1339] (by decide +kernel)
theorem tb_c_M_init : ∀ w ∈ vs_c_M_init, w ∈ lw_tbl := List.forall_mem_cons.mpr ⟨List.mem_of_getElem? (i := 1280) (by decide +kernel), fun w h => (List.mem_append.mp h).elim (tbo_c_M_init w) (fun h => tX12 w h)⟩

theorem tbo_c_fill : ∀ w ∈ ow_c_fill, w ∈ lw_tbl := by_places [] (by decide +kernel)
theorem tb_c_fill : ∀ w ∈ vs_c_fill, w ∈ lw_tbl := List.forall_mem_cons.mpr ⟨List.mem_of_getElem? (i := 784) (by decide +kernel), fun w h => tbo_c_fill w h⟩

theorem tbo_c_take0 : ∀ w ∈ ow_c_take0, w ∈ lw_tbl := by_places [229, 232, 230] (by decide +kernel)
theorem tb_c_take0 : ∀ w ∈ vs_c_take0, w ∈ lw_tbl := List.forall_mem_cons.mpr ⟨List.mem_of_getElem? (i := 781) (by decide +kernel), fun w h => (List.mem_append.mp h).elim (tbo_c_take0 w) (fun h => (List.mem_append.mp h).elim ((show ∀ w ∈ ([.methodLink RX0 40 yJ7_fill_53178, .static yJ7_fill_53178, .initialized yJ7_fill_53178.cls] : List Cond), w ∈ lw_tbl from by_places [782, 783, 129] (by decide +kernel)) w) (fun h => (List.mem_append.mp h).elim (tb_c_fill w) (fun h => tX0 w h)))⟩

theorem tbo_c_take : ∀ w ∈ ow_c_take, w ∈ lw_tbl := by_places [229, 232, 230] (by decide +kernel)
theorem tb_c_take : ∀ w ∈ vs_c_take, w ∈ lw_tbl := List.forall_mem_cons.mpr ⟨List.mem_of_getElem? (i := 781) (by decide +kernel), fun w h => (List.mem_append.mp h).elim (tbo_c_take w) (fun h => (List.mem_append.mp h).elim ((show ∀ w ∈ ([.methodLink RX0 40 yJ7_fill_53178, .static yJ7_fill_53178, .initialized yJ7_fill_53178.cls] : List Cond), w ∈ lw_tbl from by_places [782, 783, 129] (by decide +kernel)) w) (fun h => (List.mem_append.mp h).elim (tb_c_fill w) (fun h => tX0 w h)))⟩

theorem tbo_c_clear : ∀ w ∈ ow_c_clear, w ∈ lw_tbl := by_places [230] (by decide +kernel)
theorem tb_c_clear : ∀ w ∈ vs_c_clear, w ∈ lw_tbl := List.forall_mem_cons.mpr ⟨List.mem_of_getElem? (i := 777) (by decide +kernel), fun w h => (List.mem_append.mp h).elim (tbo_c_clear w) (fun h => (List.mem_append.mp h).elim ((show ∀ w ∈ ([.methodLink RX0 34 yX0_take, .instanceMethod yX0_take, .selects RX0 yX0_take yX0_take, .initialized RX0] : List Cond), w ∈ lw_tbl from by_places [778, 779, 780, 115] (by decide +kernel)) w) (fun h => (List.mem_append.mp h).elim (tb_c_take0 w) (fun h => tX0 w h)))⟩

theorem tbo_c_savedBy : ∀ w ∈ ow_c_savedBy, w ∈ lw_tbl := by_places [230] (by decide +kernel)
theorem tb_c_savedBy : ∀ w ∈ vs_c_savedBy, w ∈ lw_tbl := List.forall_mem_cons.mpr ⟨List.mem_of_getElem? (i := 1024) (by decide +kernel), fun w h => (List.mem_append.mp h).elim (tbo_c_savedBy w) (fun h => tX0 w h)⟩

theorem tbo_c_advance : ∀ w ∈ ow_c_advance, w ∈ lw_tbl := by_places [] (by decide +kernel)
theorem tb_c_advance : ∀ w ∈ vs_c_advance, w ∈ lw_tbl := List.forall_mem_cons.mpr ⟨List.mem_of_getElem? (i := 1075) (by decide +kernel), fun w h => tbo_c_advance w h⟩

theorem tbo_c_hasStep : ∀ w ∈ ow_c_hasStep, w ∈ lw_tbl := by_places [171] (by decide +kernel)
theorem tb_c_hasStep : ∀ w ∈ vs_c_hasStep, w ∈ lw_tbl := List.forall_mem_cons.mpr ⟨List.mem_of_getElem? (i := 812) (by decide +kernel), fun w h => (List.mem_append.mp h).elim (tbo_c_hasStep w) (fun h => tX3 w h)⟩

theorem tbo_c_hasEnd : ∀ w ∈ ow_c_hasEnd, w ∈ lw_tbl := by_places [175] (by decide +kernel)
theorem tb_c_hasEnd : ∀ w ∈ vs_c_hasEnd, w ∈ lw_tbl := List.forall_mem_cons.mpr ⟨List.mem_of_getElem? (i := 977) (by decide +kernel), fun w h => (List.mem_append.mp h).elim (tbo_c_hasEnd w) (fun h => tX3 w h)⟩

theorem tbo_c_has : ∀ w ∈ ow_c_has, w ∈ lw_tbl := by_places [208] (by decide +kernel)
theorem tb_c_has : ∀ w ∈ vs_c_has, w ∈ lw_tbl := List.forall_mem_cons.mpr ⟨List.mem_of_getElem? (i := 876) (by decide +kernel), fun w h => (List.mem_append.mp h).elim (tbo_c_has w) (fun h => tX7 w h)⟩

theorem tbo_c_lay : ∀ w ∈ ow_c_lay, w ∈ lw_tbl := by_places [168] (by decide +kernel)
theorem tb_c_lay : ∀ w ∈ vs_c_lay, w ∈ lw_tbl := List.forall_mem_cons.mpr ⟨List.mem_of_getElem? (i := 820) (by decide +kernel), fun w h => (List.mem_append.mp h).elim (tbo_c_lay w) (fun h => tX3 w h)⟩

theorem tbo_c_workPlain : ∀ w ∈ ow_c_workPlain, w ∈ lw_tbl := by_places [] (by decide +kernel)
theorem tb_c_workPlain : ∀ w ∈ vs_c_workPlain, w ∈ lw_tbl := List.forall_mem_cons.mpr ⟨List.mem_of_getElem? (i := 828) (by decide +kernel), fun w h => tbo_c_workPlain w h⟩

theorem tbo_c_show : ∀ w ∈ ow_c_show, w ∈ lw_tbl := by_places [257, 172] (by decide +kernel)
theorem tb_c_show : ∀ w ∈ vs_c_show, w ∈ lw_tbl := List.forall_mem_cons.mpr ⟨List.mem_of_getElem? (i := 900) (by decide +kernel), fun w h => (List.mem_append.mp h).elim (tbo_c_show w) (fun h => (List.mem_append.mp h).elim (tX3 w) (fun h => tX8 w h))⟩

theorem tbo_c_restart : ∀ w ∈ ow_c_restart, w ∈ lw_tbl := by_places [258, 265] (by decide +kernel)
theorem tb_c_restart : ∀ w ∈ vs_c_restart, w ∈ lw_tbl := List.forall_mem_cons.mpr ⟨List.mem_of_getElem? (i := 1066) (by decide +kernel), fun w h => (List.mem_append.mp h).elim (tbo_c_restart w) (fun h => (List.mem_append.mp h).elim ((show ∀ w ∈ ([.methodLink RX8 44 yX0_take, .instanceMethod yX0_take, .selects RX0 yX0_take yX0_take, .initialized RX0] : List Cond), w ∈ lw_tbl from by_places [1067, 779, 780, 115] (by decide +kernel)) w) (fun h => (List.mem_append.mp h).elim (tb_c_take0 w) (fun h => tX8 w h)))⟩

theorem tbo_c_next1 : ∀ w ∈ ow_c_next1, w ∈ lw_tbl := by_places [267, 265, 1080, 395, 121, 396, 257, 172, 266] (by decide +kernel)
theorem tb_c_next1 : ∀ w ∈ vs_c_next1, w ∈ lw_tbl := List.forall_mem_cons.mpr ⟨List.mem_of_getElem? (i := 1071) (by decide +kernel), fun w h => (List.mem_append.mp h).elim (tbo_c_next1 w) (fun h => (List.mem_append.mp h).elim ((show ∀ w ∈ ([.methodLink RX8 60 yX8_show, .instanceMethod yX8_show, .selects RX8 yX8_show yX8_show, .initialized RX8] : List Cond), w ∈ lw_tbl from by_places [1081, 898, 899, 116] (by decide +kernel)) w) (fun h => (List.mem_append.mp h).elim (tb_c_show w) (fun h => (List.mem_append.mp h).elim (tX3 w) (fun h => tX8 w h))))⟩

theorem tbo_c_next2 : ∀ w ∈ ow_c_next2, w ∈ lw_tbl := by_places [267, 265, 258, 266] (by decide +kernel)
theorem tb_c_next2 : ∀ w ∈ vs_c_next2, w ∈ lw_tbl := List.forall_mem_cons.mpr ⟨List.mem_of_getElem? (i := 1071) (by decide +kernel), fun w h => (List.mem_append.mp h).elim (tbo_c_next2 w) (fun h => (List.mem_append.mp h).elim ((show ∀ w ∈ ([.methodLink RX8 50 yX0_advance, .instanceMethod yX0_advance, .selects RX0 yX0_advance yX0_advance, .initialized RX0] : List Cond), w ∈ lw_tbl from by_places [1072, 1073, 1074, 115] (by decide +kernel)) w) (fun h => (List.mem_append.mp h).elim (tb_c_advance w) (fun h => tX8 w h)))⟩

theorem tbo_c_bitCount0 : ∀ w ∈ ow_c_bitCount0, w ∈ lw_tbl := by_places [1088, 1089, 1090] (by decide +kernel)
theorem tb_c_bitCount0 : ∀ w ∈ vs_c_bitCount0, w ∈ lw_tbl := List.forall_mem_cons.mpr ⟨List.mem_of_getElem? (i := 1087) (by decide +kernel), fun w h => tbo_c_bitCount0 w h⟩

theorem tbo_c_isBetter0 : ∀ w ∈ ow_c_isBetter0, w ∈ lw_tbl := by_places [] (by decide +kernel)
theorem tb_c_isBetter0 : ∀ w ∈ vs_c_isBetter0, w ∈ lw_tbl := List.forall_mem_cons.mpr ⟨List.mem_of_getElem? (i := 1084) (by decide +kernel), fun w h => (List.mem_append.mp h).elim (tbo_c_isBetter0 w) (fun h => (List.mem_append.mp h).elim ((show ∀ w ∈ ([.methodLink RX11 321 yJ6_bitCount_0f7a4, .static yJ6_bitCount_0f7a4, .initialized yJ6_bitCount_0f7a4.cls] : List Cond), w ∈ lw_tbl from by_places [1085, 1086, 130] (by decide +kernel)) w) (fun h => tb_c_bitCount0 w h))⟩

theorem tbo_c_forgetFront : ∀ w ∈ ow_c_forgetFront, w ∈ lw_tbl := by_places [327] (by decide +kernel)
theorem tb_c_forgetFront : ∀ w ∈ vs_c_forgetFront, w ∈ lw_tbl := List.forall_mem_cons.mpr ⟨List.mem_of_getElem? (i := 788) (by decide +kernel), fun w h => (List.mem_append.mp h).elim (tbo_c_forgetFront w) (fun h => tX11 w h)⟩

theorem tbo_c_forgetPlan : ∀ w ∈ ow_c_forgetPlan, w ∈ lw_tbl := by_places [328] (by decide +kernel)
theorem tb_c_forgetPlan : ∀ w ∈ vs_c_forgetPlan, w ∈ lw_tbl := List.forall_mem_cons.mpr ⟨List.mem_of_getElem? (i := 796) (by decide +kernel), fun w h => (List.mem_append.mp h).elim (tbo_c_forgetPlan w) (fun h => tX11 w h)⟩

theorem tbo_c_lastStep : ∀ w ∈ ow_c_lastStep, w ∈ lw_tbl := by_places [316, 173] (by decide +kernel)
theorem tb_c_lastStep : ∀ w ∈ vs_c_lastStep, w ∈ lw_tbl := List.forall_mem_cons.mpr ⟨List.mem_of_getElem? (i := 824) (by decide +kernel), fun w h => (List.mem_append.mp h).elim (tbo_c_lastStep w) (fun h => (List.mem_append.mp h).elim (tX3 w) (fun h => tX11 w h))⟩

theorem tbo_c_append0 : ∀ w ∈ ow_c_append0, w ∈ lw_tbl := by_places [313, 312] (by decide +kernel)
theorem tb_c_append0 : ∀ w ∈ vs_c_append0, w ∈ lw_tbl := List.forall_mem_cons.mpr ⟨List.mem_of_getElem? (i := 371) (by decide +kernel), fun w h => (List.mem_append.mp h).elim (tbo_c_append0 w) (fun h => tX11 w h)⟩

theorem tbo_c_append4 : ∀ w ∈ ow_c_append4, w ∈ lw_tbl := by_places [313, 312] (by decide +kernel)
theorem tb_c_append4 : ∀ w ∈ vs_c_append4, w ∈ lw_tbl := List.forall_mem_cons.mpr ⟨List.mem_of_getElem? (i := 371) (by decide +kernel), fun w h => (List.mem_append.mp h).elim (tbo_c_append4 w) (fun h => tX11 w h)⟩

theorem tbo_c_append8 : ∀ w ∈ ow_c_append8, w ∈ lw_tbl := by_places [313, 312] (by decide +kernel)
theorem tb_c_append8 : ∀ w ∈ vs_c_append8, w ∈ lw_tbl := List.forall_mem_cons.mpr ⟨List.mem_of_getElem? (i := 371) (by decide +kernel), fun w h => (List.mem_append.mp h).elim (tbo_c_append8 w) (fun h => tX11 w h)⟩

theorem tbo_c_append12 : ∀ w ∈ ow_c_append12, w ∈ lw_tbl := by_places [313, 312] (by decide +kernel)
theorem tb_c_append12 : ∀ w ∈ vs_c_append12, w ∈ lw_tbl := List.forall_mem_cons.mpr ⟨List.mem_of_getElem? (i := 371) (by decide +kernel), fun w h => (List.mem_append.mp h).elim (tbo_c_append12 w) (fun h => tX11 w h)⟩

theorem tbo_c_append16 : ∀ w ∈ ow_c_append16, w ∈ lw_tbl := by_places [313, 312] (by decide +kernel)
theorem tb_c_append16 : ∀ w ∈ vs_c_append16, w ∈ lw_tbl := List.forall_mem_cons.mpr ⟨List.mem_of_getElem? (i := 371) (by decide +kernel), fun w h => (List.mem_append.mp h).elim (tbo_c_append16 w) (fun h => tX11 w h)⟩

theorem tbo_c_feed : ∀ w ∈ ow_c_feed, w ∈ lw_tbl := by_places [313] (by decide +kernel)
theorem tb_c_feed : ∀ w ∈ vs_c_feed, w ∈ lw_tbl := List.forall_mem_cons.mpr ⟨List.mem_of_getElem? (i := 367) (by decide +kernel), fun w h => (List.mem_append.mp h).elim (tbo_c_feed w) (fun h => (List.mem_append.mp h).elim ((show ∀ w ∈ ([.methodLink RX11 90 yX11_append, .instanceMethod yX11_append, .selects RX11 yX11_append yX11_append, .initialized RX11] : List Cond), w ∈ lw_tbl from by_places [368, 370, 0, 112] (by decide +kernel)) w) (fun h => (List.mem_append.mp h).elim (tb_c_append0 w) (fun h => (List.mem_append.mp h).elim (tb_c_append4 w) (fun h => (List.mem_append.mp h).elim (tb_c_append8 w) (fun h => (List.mem_append.mp h).elim (tb_c_append12 w) (fun h => (List.mem_append.mp h).elim (tb_c_append16 w) (fun h => tX11 w h)))))))⟩

theorem tbo_c_end : ∀ w ∈ ow_c_end, w ∈ lw_tbl := by_places [313] (by decide +kernel)
theorem tb_c_end : ∀ w ∈ vs_c_end, w ∈ lw_tbl := List.forall_mem_cons.mpr ⟨List.mem_of_getElem? (i := 375) (by decide +kernel), fun w h => (List.mem_append.mp h).elim (tbo_c_end w) (fun h => tX11 w h)⟩

theorem tbo_c_fault : ∀ w ∈ ow_c_fault, w ∈ lw_tbl := by_places [315, 314] (by decide +kernel)
theorem tb_c_fault : ∀ w ∈ vs_c_fault, w ∈ lw_tbl := List.forall_mem_cons.mpr ⟨List.mem_of_getElem? (i := 804) (by decide +kernel), fun w h => (List.mem_append.mp h).elim (tbo_c_fault w) (fun h => tX11 w h)⟩

theorem tbo_c_span : ∀ w ∈ ow_c_span, w ∈ lw_tbl := by_places [316] (by decide +kernel)
theorem tb_c_span : ∀ w ∈ vs_c_span, w ∈ lw_tbl := List.forall_mem_cons.mpr ⟨List.mem_of_getElem? (i := 808) (by decide +kernel), fun w h => (List.mem_append.mp h).elim (tbo_c_span w) (fun h => (List.mem_append.mp h).elim ((show ∀ w ∈ ([.methodLink RX11 134 yX3_hasStep, .instanceMethod yX3_hasStep, .selects RX3 yX3_hasStep yX3_hasStep, .initialized RX3] : List Cond), w ∈ lw_tbl from by_places [809, 810, 811, 113] (by decide +kernel)) w) (fun h => (List.mem_append.mp h).elim (tb_c_hasStep w) (fun h => tX11 w h)))⟩

theorem tbo_c_sheet : ∀ w ∈ ow_c_sheet, w ∈ lw_tbl := by_places [317, 210, 207, 316, 320] (by decide +kernel)
theorem tb_c_sheet : ∀ w ∈ vs_c_sheet, w ∈ lw_tbl := List.forall_mem_cons.mpr ⟨List.mem_of_getElem? (i := 816) (by decide +kernel), fun w h => (List.mem_append.mp h).elim (tbo_c_sheet w) (fun h => (List.mem_append.mp h).elim ((show ∀ w ∈ ([.methodLink RX11 155 yX7_lay, .instanceMethod yX7_lay, .selects RX7 yX7_lay yX7_lay, .initialized RX7] : List Cond), w ∈ lw_tbl from by_places [817, 818, 819, 114] (by decide +kernel)) w) (fun h => (List.mem_append.mp h).elim (tb_c_lay w) (fun h => (List.mem_append.mp h).elim ((show ∀ w ∈ ([.methodLink RX11 159 yX11_lastStep, .instanceMethod yX11_lastStep, .selects RX11 yX11_lastStep yX11_lastStep, .initialized RX11] : List Cond), w ∈ lw_tbl from by_places [821, 823, 23, 112] (by decide +kernel)) w) (fun h => (List.mem_append.mp h).elim (tb_c_lastStep w) (fun h => (List.mem_append.mp h).elim ((show ∀ w ∈ ([.methodLink RX11 163 yX10_workPlain, .instanceMethod yX10_workPlain, .selects RX10 yX10_workPlain yX10_workPlain, .initialized RX10] : List Cond), w ∈ lw_tbl from by_places [825, 826, 827, 117] (by decide +kernel)) w) (fun h => (List.mem_append.mp h).elim (tb_c_workPlain w) (fun h => (List.mem_append.mp h).elim ((show ∀ w ∈ ([.methodLink RX11 120 yX11_forgetPlan, .instanceMethod yX11_forgetPlan, .selects RX11 yX11_forgetPlan yX11_forgetPlan, .initialized RX11] : List Cond), w ∈ lw_tbl from by_places [793, 795, 22, 112] (by decide +kernel)) w) (fun h => (List.mem_append.mp h).elim (tb_c_forgetPlan w) (fun h => (List.mem_append.mp h).elim (tX7 w) (fun h => tX11 w h))))))))))⟩

theorem tbo_c_put : ∀ w ∈ ow_c_put, w ∈ lw_tbl := by_places [317] (by decide +kernel)
theorem tb_c_put : ∀ w ∈ vs_c_put, w ∈ lw_tbl := List.forall_mem_cons.mpr ⟨List.mem_of_getElem? (i := 872) (by decide +kernel), fun w h => (List.mem_append.mp h).elim (tbo_c_put w) (fun h => (List.mem_append.mp h).elim ((show ∀ w ∈ ([.methodLink RX11 167 yX7_has, .instanceMethod yX7_has, .selects RX7 yX7_has yX7_has, .initialized RX7] : List Cond), w ∈ lw_tbl from by_places [873, 874, 875, 114] (by decide +kernel)) w) (fun h => (List.mem_append.mp h).elim (tb_c_has w) (fun h => tX11 w h)))⟩

theorem tbo_c_change : ∀ w ∈ ow_c_change, w ∈ lw_tbl := by_places [316] (by decide +kernel)
theorem tb_c_change : ∀ w ∈ vs_c_change, w ∈ lw_tbl := List.forall_mem_cons.mpr ⟨List.mem_of_getElem? (i := 880) (by decide +kernel), fun w h => (List.mem_append.mp h).elim (tbo_c_change w) (fun h => (List.mem_append.mp h).elim ((show ∀ w ∈ ([.methodLink RX11 134 yX3_hasStep, .instanceMethod yX3_hasStep, .selects RX3 yX3_hasStep yX3_hasStep, .initialized RX3] : List Cond), w ∈ lw_tbl from by_places [809, 810, 811, 113] (by decide +kernel)) w) (fun h => (List.mem_append.mp h).elim (tb_c_hasStep w) (fun h => tX11 w h)))⟩

theorem tbo_c_value : ∀ w ∈ ow_c_value, w ∈ lw_tbl := by_places [316, 958] (by decide +kernel)
theorem tb_c_value : ∀ w ∈ vs_c_value, w ∈ lw_tbl := List.forall_mem_cons.mpr ⟨List.mem_of_getElem? (i := 891) (by decide +kernel), fun w h => (List.mem_append.mp h).elim (tbo_c_value w) (fun h => (List.mem_append.mp h).elim ((show ∀ w ∈ ([.methodLink RX11 134 yX3_hasStep, .instanceMethod yX3_hasStep, .selects RX3 yX3_hasStep yX3_hasStep, .initialized RX3] : List Cond), w ∈ lw_tbl from by_places [809, 810, 811, 113] (by decide +kernel)) w) (fun h => (List.mem_append.mp h).elim (tb_c_hasStep w) (fun h => tX11 w h)))⟩

theorem tbo_c_error : ∀ w ∈ ow_c_error, w ∈ lw_tbl := by_places [316, 969] (by decide +kernel)
theorem tb_c_error : ∀ w ∈ vs_c_error, w ∈ lw_tbl := List.forall_mem_cons.mpr ⟨List.mem_of_getElem? (i := 968) (by decide +kernel), fun w h => (List.mem_append.mp h).elim (tbo_c_error w) (fun h => (List.mem_append.mp h).elim ((show ∀ w ∈ ([.methodLink RX11 134 yX3_hasStep, .instanceMethod yX3_hasStep, .selects RX3 yX3_hasStep yX3_hasStep, .initialized RX3] : List Cond), w ∈ lw_tbl from by_places [809, 810, 811, 113] (by decide +kernel)) w) (fun h => (List.mem_append.mp h).elim (tb_c_hasStep w) (fun h => tX11 w h)))⟩

theorem tbo_c_off : ∀ w ∈ ow_c_off, w ∈ lw_tbl := by_places [316, 958] (by decide +kernel)
theorem tb_c_off : ∀ w ∈ vs_c_off, w ∈ lw_tbl := List.forall_mem_cons.mpr ⟨List.mem_of_getElem? (i := 973) (by decide +kernel), fun w h => (List.mem_append.mp h).elim (tbo_c_off w) (fun h => (List.mem_append.mp h).elim ((show ∀ w ∈ ([.methodLink RX11 227 yX3_hasEnd, .instanceMethod yX3_hasEnd, .selects RX3 yX3_hasEnd yX3_hasEnd, .initialized RX3] : List Cond), w ∈ lw_tbl from by_places [974, 975, 976, 113] (by decide +kernel)) w) (fun h => (List.mem_append.mp h).elim (tb_c_hasEnd w) (fun h => tX11 w h)))⟩

theorem tbo_c_barred : ∀ w ∈ ow_c_barred, w ∈ lw_tbl := by_places [318, 319] (by decide +kernel)
theorem tb_c_barred : ∀ w ∈ vs_c_barred, w ∈ lw_tbl := List.forall_mem_cons.mpr ⟨List.mem_of_getElem? (i := 985) (by decide +kernel), fun w h => (List.mem_append.mp h).elim (tbo_c_barred w) (fun h => (List.mem_append.mp h).elim ((show ∀ w ∈ ([.methodLink RX11 202 yX0_take, .instanceMethod yX0_take, .selects RX0 yX0_take yX0_take, .initialized RX0] : List Cond), w ∈ lw_tbl from by_places [896, 779, 780, 115] (by decide +kernel)) w) (fun h => (List.mem_append.mp h).elim (tb_c_take w) (fun h => (List.mem_append.mp h).elim ((show ∀ w ∈ ([.methodLink RX11 205 yX8_show, .instanceMethod yX8_show, .selects RX8 yX8_show yX8_show, .initialized RX8] : List Cond), w ∈ lw_tbl from by_places [897, 898, 899, 116] (by decide +kernel)) w) (fun h => (List.mem_append.mp h).elim (tb_c_show w) (fun h => tX11 w h)))))⟩

theorem tbo_c_measured : ∀ w ∈ ow_c_measured, w ∈ lw_tbl := by_places [316, 958] (by decide +kernel)
theorem tb_c_measured : ∀ w ∈ vs_c_measured, w ∈ lw_tbl := List.forall_mem_cons.mpr ⟨List.mem_of_getElem? (i := 989) (by decide +kernel), fun w h => (List.mem_append.mp h).elim (tbo_c_measured w) (fun h => (List.mem_append.mp h).elim ((show ∀ w ∈ ([.methodLink RX11 227 yX3_hasEnd, .instanceMethod yX3_hasEnd, .selects RX3 yX3_hasEnd yX3_hasEnd, .initialized RX3] : List Cond), w ∈ lw_tbl from by_places [974, 975, 976, 113] (by decide +kernel)) w) (fun h => (List.mem_append.mp h).elim (tb_c_hasEnd w) (fun h => tX11 w h)))⟩

theorem tbo_c_passed : ∀ w ∈ ow_c_passed, w ∈ lw_tbl := by_places [316] (by decide +kernel)
theorem tb_c_passed : ∀ w ∈ vs_c_passed, w ∈ lw_tbl := List.forall_mem_cons.mpr ⟨List.mem_of_getElem? (i := 1009) (by decide +kernel), fun w h => (List.mem_append.mp h).elim (tbo_c_passed w) (fun h => (List.mem_append.mp h).elim ((show ∀ w ∈ ([.methodLink RX11 227 yX3_hasEnd, .instanceMethod yX3_hasEnd, .selects RX3 yX3_hasEnd yX3_hasEnd, .initialized RX3] : List Cond), w ∈ lw_tbl from by_places [974, 975, 976, 113] (by decide +kernel)) w) (fun h => (List.mem_append.mp h).elim (tb_c_hasEnd w) (fun h => tX11 w h)))⟩

theorem tbo_c_mean : ∀ w ∈ ow_c_mean, w ∈ lw_tbl := by_places [316, 958] (by decide +kernel)
theorem tb_c_mean : ∀ w ∈ vs_c_mean, w ∈ lw_tbl := List.forall_mem_cons.mpr ⟨List.mem_of_getElem? (i := 1013) (by decide +kernel), fun w h => (List.mem_append.mp h).elim (tbo_c_mean w) (fun h => (List.mem_append.mp h).elim ((show ∀ w ∈ ([.methodLink RX11 227 yX3_hasEnd, .instanceMethod yX3_hasEnd, .selects RX3 yX3_hasEnd yX3_hasEnd, .initialized RX3] : List Cond), w ∈ lw_tbl from by_places [974, 975, 976, 113] (by decide +kernel)) w) (fun h => (List.mem_append.mp h).elim (tb_c_hasEnd w) (fun h => tX11 w h)))⟩

theorem tbo_c_saved : ∀ w ∈ ow_c_saved, w ∈ lw_tbl := by_places [318] (by decide +kernel)
theorem tb_c_saved : ∀ w ∈ vs_c_saved, w ∈ lw_tbl := List.forall_mem_cons.mpr ⟨List.mem_of_getElem? (i := 1020) (by decide +kernel), fun w h => (List.mem_append.mp h).elim (tbo_c_saved w) (fun h => (List.mem_append.mp h).elim ((show ∀ w ∈ ([.methodLink RX11 202 yX0_take, .instanceMethod yX0_take, .selects RX0 yX0_take yX0_take, .initialized RX0] : List Cond), w ∈ lw_tbl from by_places [896, 779, 780, 115] (by decide +kernel)) w) (fun h => (List.mem_append.mp h).elim (tb_c_take w) (fun h => (List.mem_append.mp h).elim ((show ∀ w ∈ ([.methodLink RX11 260 yX0_savedBy, .instanceMethod yX0_savedBy, .selects RX0 yX0_savedBy yX0_savedBy, .initialized RX0] : List Cond), w ∈ lw_tbl from by_places [1021, 1022, 1023, 115] (by decide +kernel)) w) (fun h => (List.mem_append.mp h).elim (tb_c_savedBy w) (fun h => tX11 w h)))))⟩

theorem tbo_c_ticks : ∀ w ∈ ow_c_ticks, w ∈ lw_tbl := by_places [318, 316, 173] (by decide +kernel)
theorem tb_c_ticks : ∀ w ∈ vs_c_ticks, w ∈ lw_tbl := List.forall_mem_cons.mpr ⟨List.mem_of_getElem? (i := 1028) (by decide +kernel), fun w h => (List.mem_append.mp h).elim (tbo_c_ticks w) (fun h => (List.mem_append.mp h).elim ((show ∀ w ∈ ([.methodLink RX11 202 yX0_take, .instanceMethod yX0_take, .selects RX0 yX0_take yX0_take, .initialized RX0] : List Cond), w ∈ lw_tbl from by_places [896, 779, 780, 115] (by decide +kernel)) w) (fun h => (List.mem_append.mp h).elim (tb_c_take w) (fun h => (List.mem_append.mp h).elim (tX3 w) (fun h => tX11 w h))))⟩

theorem tbo_c_isLet : ∀ w ∈ ow_c_isLet, w ∈ lw_tbl := by_places [316, 177] (by decide +kernel)
theorem tb_c_isLet : ∀ w ∈ vs_c_isLet, w ∈ lw_tbl := List.forall_mem_cons.mpr ⟨List.mem_of_getElem? (i := 1042) (by decide +kernel), fun w h => (List.mem_append.mp h).elim (tbo_c_isLet w) (fun h => (List.mem_append.mp h).elim (tX3 w) (fun h => tX11 w h))⟩

theorem tbo_c_let : ∀ w ∈ ow_c_let, w ∈ lw_tbl := by_places [318, 319] (by decide +kernel)
theorem tb_c_let : ∀ w ∈ vs_c_let, w ∈ lw_tbl := List.forall_mem_cons.mpr ⟨List.mem_of_getElem? (i := 1038) (by decide +kernel), fun w h => (List.mem_append.mp h).elim (tbo_c_let w) (fun h => (List.mem_append.mp h).elim ((show ∀ w ∈ ([.methodLink RX11 202 yX0_take, .instanceMethod yX0_take, .selects RX0 yX0_take yX0_take, .initialized RX0] : List Cond), w ∈ lw_tbl from by_places [896, 779, 780, 115] (by decide +kernel)) w) (fun h => (List.mem_append.mp h).elim (tb_c_take w) (fun h => (List.mem_append.mp h).elim ((show ∀ w ∈ ([.methodLink RX11 205 yX8_show, .instanceMethod yX8_show, .selects RX8 yX8_show yX8_show, .initialized RX8] : List Cond), w ∈ lw_tbl from by_places [897, 898, 899, 116] (by decide +kernel)) w) (fun h => (List.mem_append.mp h).elim (tb_c_show w) (fun h => (List.mem_append.mp h).elim ((show ∀ w ∈ ([.methodLink RX11 277 yX11_isLet, .instanceMethod yX11_isLet, .selects RX11 yX11_isLet yX11_isLet, .initialized RX11] : List Cond), w ∈ lw_tbl from by_places [1039, 1041, 40, 112] (by decide +kernel)) w) (fun h => (List.mem_append.mp h).elim (tb_c_isLet w) (fun h => tX11 w h)))))))⟩

theorem tbo_c_best : ∀ w ∈ ow_c_best, w ∈ lw_tbl := by_places [319, 318, 235] (by decide +kernel)
theorem tb_c_best : ∀ w ∈ vs_c_best, w ∈ lw_tbl := List.forall_mem_cons.mpr ⟨List.mem_of_getElem? (i := 1062) (by decide +kernel), fun w h => (List.mem_append.mp h).elim (tbo_c_best w) (fun h => (List.mem_append.mp h).elim ((show ∀ w ∈ ([.methodLink RX11 308 yX8_restart, .instanceMethod yX8_restart, .selects RX8 yX8_restart yX8_restart, .initialized RX8] : List Cond), w ∈ lw_tbl from by_places [1063, 1064, 1065, 116] (by decide +kernel)) w) (fun h => (List.mem_append.mp h).elim (tb_c_restart w) (fun h => (List.mem_append.mp h).elim ((show ∀ w ∈ ([.methodLink RX11 311 yX8_next, .instanceMethod yX8_next, .selects RX8 yX8_next yX8_next, .initialized RX8] : List Cond), w ∈ lw_tbl from by_places [1068, 1069, 1070, 116] (by decide +kernel)) w) (fun h => (List.mem_append.mp h).elim (tb_c_next1 w) (fun h => (List.mem_append.mp h).elim ((show ∀ w ∈ ([.methodLink RX11 260 yX0_savedBy, .instanceMethod yX0_savedBy, .selects RX0 yX0_savedBy yX0_savedBy, .initialized RX0] : List Cond), w ∈ lw_tbl from by_places [1021, 1022, 1023, 115] (by decide +kernel)) w) (fun h => (List.mem_append.mp h).elim (tb_c_savedBy w) (fun h => (List.mem_append.mp h).elim ((show ∀ w ∈ ([.methodLink RX11 317 yX11_isBetter, .static yX11_isBetter, .initialized yX11_isBetter.cls] : List Cond), w ∈ lw_tbl from by_places [1082, 1083, 112] (by decide +kernel)) w) (fun h => (List.mem_append.mp h).elim (tb_c_isBetter0 w) (fun h => (List.mem_append.mp h).elim (tb_c_next2 w) (fun h => (List.mem_append.mp h).elim (tX0 w) (fun h => tX11 w h)))))))))))⟩

theorem tbo_c_front : ∀ w ∈ ow_c_front, w ∈ lw_tbl := by_places [316] (by decide +kernel)
theorem tb_c_front : ∀ w ∈ vs_c_front, w ∈ lw_tbl := List.forall_mem_cons.mpr ⟨List.mem_of_getElem? (i := 1094) (by decide +kernel), fun w h => (List.mem_append.mp h).elim (tbo_c_front w) (fun h => (List.mem_append.mp h).elim ((show ∀ w ∈ ([.methodLink RX11 227 yX3_hasEnd, .instanceMethod yX3_hasEnd, .selects RX3 yX3_hasEnd yX3_hasEnd, .initialized RX3] : List Cond), w ∈ lw_tbl from by_places [974, 975, 976, 113] (by decide +kernel)) w) (fun h => (List.mem_append.mp h).elim (tb_c_hasEnd w) (fun h => tX11 w h)))⟩

theorem tbo_c_pair : ∀ w ∈ ow_c_pair, w ∈ lw_tbl := by_places [316, 958] (by decide +kernel)
theorem tb_c_pair : ∀ w ∈ vs_c_pair, w ∈ lw_tbl := List.forall_mem_cons.mpr ⟨List.mem_of_getElem? (i := 1150) (by decide +kernel), fun w h => (List.mem_append.mp h).elim (tbo_c_pair w) (fun h => (List.mem_append.mp h).elim ((show ∀ w ∈ ([.methodLink RX11 227 yX3_hasEnd, .instanceMethod yX3_hasEnd, .selects RX3 yX3_hasEnd yX3_hasEnd, .initialized RX3] : List Cond), w ∈ lw_tbl from by_places [974, 975, 976, 113] (by decide +kernel)) w) (fun h => (List.mem_append.mp h).elim (tb_c_hasEnd w) (fun h => tX11 w h)))⟩

theorem tbo_c_guard : ∀ w ∈ ow_c_guard, w ∈ lw_tbl := by_places [316] (by decide +kernel)
theorem tb_c_guard : ∀ w ∈ vs_c_guard, w ∈ lw_tbl := List.forall_mem_cons.mpr ⟨List.mem_of_getElem? (i := 1154) (by decide +kernel), fun w h => (List.mem_append.mp h).elim (tbo_c_guard w) (fun h => (List.mem_append.mp h).elim ((show ∀ w ∈ ([.methodLink RX11 227 yX3_hasEnd, .instanceMethod yX3_hasEnd, .selects RX3 yX3_hasEnd yX3_hasEnd, .initialized RX3] : List Cond), w ∈ lw_tbl from by_places [974, 975, 976, 113] (by decide +kernel)) w) (fun h => (List.mem_append.mp h).elim (tb_c_hasEnd w) (fun h => tX11 w h)))⟩

theorem tbo_c_through : ∀ w ∈ ow_c_through, w ∈ lw_tbl := by_places [316] (by decide +kernel)
theorem tb_c_through : ∀ w ∈ vs_c_through, w ∈ lw_tbl := List.forall_mem_cons.mpr ⟨List.mem_of_getElem? (i := 1158) (by decide +kernel), fun w h => (List.mem_append.mp h).elim (tbo_c_through w) (fun h => (List.mem_append.mp h).elim ((show ∀ w ∈ ([.methodLink RX11 227 yX3_hasEnd, .instanceMethod yX3_hasEnd, .selects RX3 yX3_hasEnd yX3_hasEnd, .initialized RX3] : List Cond), w ∈ lw_tbl from by_places [974, 975, 976, 113] (by decide +kernel)) w) (fun h => (List.mem_append.mp h).elim (tb_c_hasEnd w) (fun h => tX11 w h)))⟩

theorem tbo_c_turned : ∀ w ∈ ow_c_turned, w ∈ lw_tbl := by_places [316] (by decide +kernel)
theorem tb_c_turned : ∀ w ∈ vs_c_turned, w ∈ lw_tbl := List.forall_mem_cons.mpr ⟨List.mem_of_getElem? (i := 1166) (by decide +kernel), fun w h => (List.mem_append.mp h).elim (tbo_c_turned w) (fun h => (List.mem_append.mp h).elim ((show ∀ w ∈ ([.methodLink RX11 227 yX3_hasEnd, .instanceMethod yX3_hasEnd, .selects RX3 yX3_hasEnd yX3_hasEnd, .initialized RX3] : List Cond), w ∈ lw_tbl from by_places [974, 975, 976, 113] (by decide +kernel)) w) (fun h => (List.mem_append.mp h).elim (tb_c_hasEnd w) (fun h => tX11 w h)))⟩

theorem tbo_c_worst : ∀ w ∈ ow_c_worst, w ∈ lw_tbl := by_places [316, 969] (by decide +kernel)
theorem tb_c_worst : ∀ w ∈ vs_c_worst, w ∈ lw_tbl := List.forall_mem_cons.mpr ⟨List.mem_of_getElem? (i := 1170) (by decide +kernel), fun w h => (List.mem_append.mp h).elim (tbo_c_worst w) (fun h => (List.mem_append.mp h).elim ((show ∀ w ∈ ([.methodLink RX11 227 yX3_hasEnd, .instanceMethod yX3_hasEnd, .selects RX3 yX3_hasEnd yX3_hasEnd, .initialized RX3] : List Cond), w ∈ lw_tbl from by_places [974, 975, 976, 113] (by decide +kernel)) w) (fun h => (List.mem_append.mp h).elim (tb_c_hasEnd w) (fun h => tX11 w h)))⟩

theorem tbo_c_led : ∀ w ∈ ow_c_led, w ∈ lw_tbl := by_places [316, 969] (by decide +kernel)
theorem tb_c_led : ∀ w ∈ vs_c_led, w ∈ lw_tbl := List.forall_mem_cons.mpr ⟨List.mem_of_getElem? (i := 1179) (by decide +kernel), fun w h => (List.mem_append.mp h).elim (tbo_c_led w) (fun h => (List.mem_append.mp h).elim ((show ∀ w ∈ ([.methodLink RX11 227 yX3_hasEnd, .instanceMethod yX3_hasEnd, .selects RX3 yX3_hasEnd yX3_hasEnd, .initialized RX3] : List Cond), w ∈ lw_tbl from by_places [974, 975, 976, 113] (by decide +kernel)) w) (fun h => (List.mem_append.mp h).elim (tb_c_hasEnd w) (fun h => tX11 w h)))⟩

theorem tbo_c_purse : ∀ w ∈ ow_c_purse, w ∈ lw_tbl := by_places [1184, 325] (by decide +kernel)
theorem tb_c_purse : ∀ w ∈ vs_c_purse, w ∈ lw_tbl := List.forall_mem_cons.mpr ⟨List.mem_of_getElem? (i := 1183) (by decide +kernel), fun w h => (List.mem_append.mp h).elim (tbo_c_purse w) (fun h => tX11 w h)⟩

theorem tbo_c_day : ∀ w ∈ ow_c_day, w ∈ lw_tbl := by_places [316] (by decide +kernel)
theorem tb_c_day : ∀ w ∈ vs_c_day, w ∈ lw_tbl := List.forall_mem_cons.mpr ⟨List.mem_of_getElem? (i := 1188) (by decide +kernel), fun w h => (List.mem_append.mp h).elim (tbo_c_day w) (fun h => (List.mem_append.mp h).elim ((show ∀ w ∈ ([.methodLink RX11 227 yX3_hasEnd, .instanceMethod yX3_hasEnd, .selects RX3 yX3_hasEnd yX3_hasEnd, .initialized RX3] : List Cond), w ∈ lw_tbl from by_places [974, 975, 976, 113] (by decide +kernel)) w) (fun h => (List.mem_append.mp h).elim (tb_c_hasEnd w) (fun h => tX11 w h)))⟩

theorem tbo_c_canPlan : ∀ w ∈ ow_c_canPlan, w ∈ lw_tbl := by_places [316] (by decide +kernel)
theorem tb_c_canPlan : ∀ w ∈ vs_c_canPlan, w ∈ lw_tbl := List.forall_mem_cons.mpr ⟨List.mem_of_getElem? (i := 1196) (by decide +kernel), fun w h => (List.mem_append.mp h).elim (tbo_c_canPlan w) (fun h => (List.mem_append.mp h).elim ((show ∀ w ∈ ([.methodLink RX11 227 yX3_hasEnd, .instanceMethod yX3_hasEnd, .selects RX3 yX3_hasEnd yX3_hasEnd, .initialized RX3] : List Cond), w ∈ lw_tbl from by_places [974, 975, 976, 113] (by decide +kernel)) w) (fun h => (List.mem_append.mp h).elim (tb_c_hasEnd w) (fun h => tX11 w h)))⟩

theorem tbo_c_plan : ∀ w ∈ ow_c_plan, w ∈ lw_tbl := by_places [] (by decide +kernel)
theorem tb_c_plan : ∀ w ∈ vs_c_plan, w ∈ lw_tbl := List.forall_mem_cons.mpr ⟨List.mem_of_getElem? (i := 1192) (by decide +kernel), fun w h => (List.mem_append.mp h).elim (tbo_c_plan w) (fun h => (List.mem_append.mp h).elim ((show ∀ w ∈ ([.methodLink RX11 357 yX11_canPlan, .instanceMethod yX11_canPlan, .selects RX11 yX11_canPlan yX11_canPlan, .initialized RX11] : List Cond), w ∈ lw_tbl from by_places [1193, 1195, 50, 112] (by decide +kernel)) w) (fun h => tb_c_canPlan w h))⟩

theorem tbo_c_planned : ∀ w ∈ ow_c_planned, w ∈ lw_tbl := by_places [] (by decide +kernel)
theorem tb_c_planned : ∀ w ∈ vs_c_planned, w ∈ lw_tbl := List.forall_mem_cons.mpr ⟨List.mem_of_getElem? (i := 1260) (by decide +kernel), fun w h => (List.mem_append.mp h).elim (tbo_c_planned w) (fun h => (List.mem_append.mp h).elim ((show ∀ w ∈ ([.methodLink RX11 357 yX11_canPlan, .instanceMethod yX11_canPlan, .selects RX11 yX11_canPlan yX11_canPlan, .initialized RX11] : List Cond), w ∈ lw_tbl from by_places [1193, 1195, 50, 112] (by decide +kernel)) w) (fun h => tb_c_canPlan w h))⟩

theorem tbo_c_Scanner_init : ∀ w ∈ ow_c_Scanner_init, w ∈ lw_tbl := by_places [393, 139, 140, 399, 400, 402, 404, 406, 397, 394, 395, 121, 396, 398] (by decide +kernel)
theorem tb_c_Scanner_init : ∀ w ∈ vs_c_Scanner_init, w ∈ lw_tbl := List.forall_mem_cons.mpr ⟨List.mem_of_getElem? (i := 392) (by decide +kernel), fun w h => (List.mem_append.mp h).elim (tbo_c_Scanner_init w) (fun h => tX6 w h)⟩

theorem tbo_c_Scanner_advance : ∀ w ∈ ow_c_Scanner_advance, w ∈ lw_tbl := by_places [399, 398, 402, 400] (by decide +kernel)
theorem tb_c_Scanner_advance : ∀ w ∈ vs_c_Scanner_advance, w ∈ lw_tbl := List.forall_mem_cons.mpr ⟨List.mem_of_getElem? (i := 446) (by decide +kernel), fun w h => (List.mem_append.mp h).elim (tbo_c_Scanner_advance w) (fun h => tX6 w h)⟩

theorem tbo_c_Reader_init : ∀ w ∈ ow_c_Reader_init, w ∈ lw_tbl := by_places [385, 139, 140, 386, 142, 113, 144, 424, 426, 428, 388, 389, 120, 390, 391, 423] (by decide +kernel)
theorem tb_c_Reader_init : ∀ w ∈ vs_c_Reader_init, w ∈ lw_tbl := List.forall_mem_cons.mpr ⟨List.mem_of_getElem? (i := 384) (by decide +kernel), fun w h => (List.mem_append.mp h).elim (tbo_c_Reader_init w) (fun h => (List.mem_append.mp h).elim (tb_c_Program_init w) (fun h => (List.mem_append.mp h).elim (tb_c_Scanner_init w) (fun h => (List.mem_append.mp h).elim (tX3 w) (fun h => (List.mem_append.mp h).elim (tX4 w) (fun h => tX6 w h)))))⟩

theorem tbo_c_readAll : ∀ w ∈ ow_c_readAll, w ∈ lw_tbl := by_places [423, 426, 401] (by decide +kernel)
theorem tb_c_readAll : ∀ w ∈ vs_c_readAll, w ∈ lw_tbl := List.forall_mem_cons.mpr ⟨List.mem_of_getElem? (i := 442) (by decide +kernel), fun w h => (List.mem_append.mp h).elim (tbo_c_readAll w) (fun h => (List.mem_append.mp h).elim ((show ∀ w ∈ ([.methodLink RX4 34 yX6_advance, .instanceMethod yX6_advance, .selects RX6 yX6_advance yX6_advance, .initialized RX6] : List Cond), w ∈ lw_tbl from by_places [443, 444, 445, 120] (by decide +kernel)) w) (fun h => (List.mem_append.mp h).elim (tb_c_Scanner_advance w) (fun h => (List.mem_append.mp h).elim (tX4 w) (fun h => tX6 w h))))⟩

theorem tbo_c_become : ∀ w ∈ ow_c_become, w ∈ lw_tbl := by_places [167, 171, 175, 151, 154, 159, 771, 773, 772, 128, 163, 165] (by decide +kernel)
theorem tb_c_become : ∀ w ∈ vs_c_become, w ∈ lw_tbl := List.forall_mem_cons.mpr ⟨List.mem_of_getElem? (i := 770) (by decide +kernel), fun w h => (List.mem_append.mp h).elim (tbo_c_become w) (fun h => tX3 w h)⟩

theorem tbo_c_program : ∀ w ∈ ow_c_program, w ∈ lw_tbl := by_places [380, 381, 119, 312, 313, 382, 383, 427, 314, 429, 315, 316, 425, 317, 210, 318, 324, 325, 173] (by decide +kernel)
theorem tb_c_program : ∀ w ∈ vs_c_program, w ∈ lw_tbl := List.forall_mem_cons.mpr ⟨List.mem_of_getElem? (i := 379) (by decide +kernel), fun w h => (List.mem_append.mp h).elim (tbo_c_program w) (fun h => (List.mem_append.mp h).elim (tb_c_Reader_init w) (fun h => (List.mem_append.mp h).elim ((show ∀ w ∈ ([.methodLink RX11 99 yX4_readAll, .instanceMethod yX4_readAll, .selects RX4 yX4_readAll yX4_readAll, .initialized RX4] : List Cond), w ∈ lw_tbl from by_places [439, 440, 441, 119] (by decide +kernel)) w) (fun h => (List.mem_append.mp h).elim (tb_c_readAll w) (fun h => (List.mem_append.mp h).elim ((show ∀ w ∈ ([.methodLink RX11 107 yX3_become, .instanceMethod yX3_become, .selects RX3 yX3_become yX3_become, .initialized RX3] : List Cond), w ∈ lw_tbl from by_places [767, 768, 769, 113] (by decide +kernel)) w) (fun h => (List.mem_append.mp h).elim (tb_c_become w) (fun h => (List.mem_append.mp h).elim ((show ∀ w ∈ ([.methodLink RX11 114 yX0_clear, .instanceMethod yX0_clear, .selects RX0 yX0_clear yX0_clear, .initialized RX0] : List Cond), w ∈ lw_tbl from by_places [774, 775, 776, 115] (by decide +kernel)) w) (fun h => (List.mem_append.mp h).elim (tb_c_clear w) (fun h => (List.mem_append.mp h).elim ((show ∀ w ∈ ([.methodLink RX11 117 yX11_forgetFront, .instanceMethod yX11_forgetFront, .selects RX11 yX11_forgetFront yX11_forgetFront, .initialized RX11] : List Cond), w ∈ lw_tbl from by_places [785, 787, 21, 112] (by decide +kernel)) w) (fun h => (List.mem_append.mp h).elim (tb_c_forgetFront w) (fun h => (List.mem_append.mp h).elim ((show ∀ w ∈ ([.methodLink RX11 120 yX11_forgetPlan, .instanceMethod yX11_forgetPlan, .selects RX11 yX11_forgetPlan yX11_forgetPlan, .initialized RX11] : List Cond), w ∈ lw_tbl from by_places [793, 795, 22, 112] (by decide +kernel)) w) (fun h => (List.mem_append.mp h).elim (tb_c_forgetPlan w) (fun h => (List.mem_append.mp h).elim (tX3 w) (fun h => (List.mem_append.mp h).elim (tX4 w) (fun h => (List.mem_append.mp h).elim (tX7 w) (fun h => tX11 w h)))))))))))))))⟩

theorem tbo_c_about : ∀ w ∈ ow_c_about, w ∈ lw_tbl := by_places [316, 169, 173, 177, 317, 210, 318, 231, 324, 325, 313] (by decide +kernel)
theorem tb_c_about : ∀ w ∈ vs_c_about, w ∈ lw_tbl := List.forall_mem_cons.mpr ⟨List.mem_of_getElem? (i := 1275) (by decide +kernel), fun w h => (List.mem_append.mp h).elim (tbo_c_about w) (fun h => (List.mem_append.mp h).elim (tX0 w) (fun h => (List.mem_append.mp h).elim (tX3 w) (fun h => (List.mem_append.mp h).elim (tX7 w) (fun h => tX11 w h))))⟩

theorem tbo_m_sign : ∀ w ∈ ow_m_sign, w ∈ lw_tbl := by_places [1285] (by decide +kernel)
theorem tb_m_sign : ∀ w ∈ vs_m_sign, w ∈ lw_tbl := List.forall_mem_cons.mpr ⟨List.mem_of_getElem? (i := 1471) (by decide +kernel), fun w h => (List.mem_append.mp h).elim (tbo_m_sign w) (fun h => tX12 w h)⟩

theorem tbo_m_isGood : ∀ w ∈ ow_m_isGood, w ∈ lw_tbl := by_places [1286] (by decide +kernel)
theorem tb_m_isGood : ∀ w ∈ vs_m_isGood, w ∈ lw_tbl := List.forall_mem_cons.mpr ⟨List.mem_of_getElem? (i := 1507) (by decide +kernel), fun w h => (List.mem_append.mp h).elim (tbo_m_isGood w) (fun h => tX12 w h)⟩

theorem tbo_m_next : ∀ w ∈ ow_m_next, w ∈ lw_tbl := by_places [1289, 1288, 1285, 1290] (by decide +kernel)
theorem tb_m_next : ∀ w ∈ vs_m_next, w ∈ lw_tbl := List.forall_mem_cons.mpr ⟨List.mem_of_getElem? (i := 1467) (by decide +kernel), fun w h => (List.mem_append.mp h).elim (tbo_m_next w) (fun h => (List.mem_append.mp h).elim ((show ∀ w ∈ ([.methodLink RX12 195 yX12_sign, .instanceMethod yX12_sign, .selects RX12 yX12_sign yX12_sign, .initialized RX12] : List Cond), w ∈ lw_tbl from by_places [1468, 1470, 56, 118] (by decide +kernel)) w) (fun h => (List.mem_append.mp h).elim (tb_m_sign w) (fun h => tX12 w h)))⟩

theorem tbo_m_program : ∀ w ∈ ow_m_program, w ∈ lw_tbl := by_places [1286, 1287, 1284, 1285, 1289, 1311, 1312, 1293, 1294, 1295, 1290, 1321, 1322, 1335, 1340] (by decide +kernel)
theorem tb_m_program : ∀ w ∈ vs_m_program, w ∈ lw_tbl := List.forall_mem_cons.mpr ⟨List.mem_of_getElem? (i := 1463) (by decide +kernel), fun w h => (List.mem_append.mp h).elim (tbo_m_program w) (fun h => (List.mem_append.mp h).elim ((show ∀ w ∈ ([.methodLink RX12 228 yX12_next, .instanceMethod yX12_next, .selects RX12 yX12_next yX12_next, .initialized RX12] : List Cond), w ∈ lw_tbl from by_places [1464, 1466, 55, 118] (by decide +kernel)) w) (fun h => (List.mem_append.mp h).elim (tb_m_next w) (fun h => (List.mem_append.mp h).elim ((show ∀ w ∈ ([.methodLink RX12 224 yX12_isGood, .instanceMethod yX12_isGood, .selects RX12 yX12_isGood yX12_isGood, .initialized RX12] : List Cond), w ∈ lw_tbl from by_places [1504, 1506, 57, 118] (by decide +kernel)) w) (fun h => (List.mem_append.mp h).elim (tb_m_isGood w) (fun h => tX12 w h)))))⟩

theorem tbo_m_isIn0 : ∀ w ∈ ow_m_isIn0, w ∈ lw_tbl := by_places [] (by decide +kernel)
theorem tb_m_isIn0 : ∀ w ∈ vs_m_isIn0, w ∈ lw_tbl := List.forall_mem_cons.mpr ⟨List.mem_of_getElem? (i := 1610) (by decide +kernel), fun w h => tbo_m_isIn0 w h⟩

theorem tbo_m_isIn : ∀ w ∈ ow_m_isIn, w ∈ lw_tbl := by_places [] (by decide +kernel)
theorem tb_m_isIn : ∀ w ∈ vs_m_isIn, w ∈ lw_tbl := List.forall_mem_cons.mpr ⟨List.mem_of_getElem? (i := 1610) (by decide +kernel), fun w h => tbo_m_isIn w h⟩

theorem tbo_m_steps : ∀ w ∈ ow_m_steps, w ∈ lw_tbl := by_places [1294, 1311] (by decide +kernel)
theorem tb_m_steps : ∀ w ∈ vs_m_steps, w ∈ lw_tbl := List.forall_mem_cons.mpr ⟨List.mem_of_getElem? (i := 1607) (by decide +kernel), fun w h => (List.mem_append.mp h).elim (tbo_m_steps w) (fun h => tX12 w h)⟩

theorem tbo_m_isStep : ∀ w ∈ ow_m_isStep, w ∈ lw_tbl := by_places [] (by decide +kernel)
theorem tb_m_isStep : ∀ w ∈ vs_m_isStep, w ∈ lw_tbl := List.forall_mem_cons.mpr ⟨List.mem_of_getElem? (i := 1603) (by decide +kernel), fun w h => (List.mem_append.mp h).elim (tbo_m_isStep w) (fun h => (List.mem_append.mp h).elim ((show ∀ w ∈ ([.methodLink RX12 321 yX12_steps, .instanceMethod yX12_steps, .selects RX12 yX12_steps yX12_steps, .initialized RX12] : List Cond), w ∈ lw_tbl from by_places [1604, 1606, 78, 118] (by decide +kernel)) w) (fun h => (List.mem_append.mp h).elim (tb_m_steps w) (fun h => (List.mem_append.mp h).elim ((show ∀ w ∈ ([.methodLink RX12 324 yX12_isIn, .static yX12_isIn, .initialized yX12_isIn.cls] : List Cond), w ∈ lw_tbl from by_places [1608, 1609, 118] (by decide +kernel)) w) (fun h => tb_m_isIn0 w h))))⟩

theorem tbo_m_isEnd : ∀ w ∈ ow_m_isEnd, w ∈ lw_tbl := by_places [1295, 1311] (by decide +kernel)
theorem tb_m_isEnd : ∀ w ∈ vs_m_isEnd, w ∈ lw_tbl := List.forall_mem_cons.mpr ⟨List.mem_of_getElem? (i := 1736) (by decide +kernel), fun w h => (List.mem_append.mp h).elim (tbo_m_isEnd w) (fun h => (List.mem_append.mp h).elim ((show ∀ w ∈ ([.methodLink RX12 324 yX12_isIn, .static yX12_isIn, .initialized yX12_isIn.cls] : List Cond), w ∈ lw_tbl from by_places [1608, 1609, 118] (by decide +kernel)) w) (fun h => (List.mem_append.mp h).elim (tb_m_isIn0 w) (fun h => tX12 w h)))⟩

theorem tbo_m_isChoice : ∀ w ∈ ow_m_isChoice, w ∈ lw_tbl := by_places [1322, 1319] (by decide +kernel)
theorem tb_m_isChoice : ∀ w ∈ vs_m_isChoice, w ∈ lw_tbl := List.forall_mem_cons.mpr ⟨List.mem_of_getElem? (i := 1642) (by decide +kernel), fun w h => (List.mem_append.mp h).elim (tbo_m_isChoice w) (fun h => tX12 w h)⟩

theorem tbo_m_bars : ∀ w ∈ ow_m_bars, w ∈ lw_tbl := by_places [] (by decide +kernel)
theorem tb_m_bars : ∀ w ∈ vs_m_bars, w ∈ lw_tbl := List.forall_mem_cons.mpr ⟨List.mem_of_getElem? (i := 1646) (by decide +kernel), fun w h => (List.mem_append.mp h).elim (tbo_m_bars w) (fun h => (List.mem_append.mp h).elim ((show ∀ w ∈ ([.methodLink RX12 321 yX12_steps, .instanceMethod yX12_steps, .selects RX12 yX12_steps yX12_steps, .initialized RX12] : List Cond), w ∈ lw_tbl from by_places [1604, 1606, 78, 118] (by decide +kernel)) w) (fun h => tb_m_steps w h))⟩

theorem tbo_m_savedBy : ∀ w ∈ ow_m_savedBy, w ∈ lw_tbl := by_places [1322] (by decide +kernel)
theorem tb_m_savedBy : ∀ w ∈ vs_m_savedBy, w ∈ lw_tbl := List.forall_mem_cons.mpr ⟨List.mem_of_getElem? (i := 1775) (by decide +kernel), fun w h => (List.mem_append.mp h).elim (tbo_m_savedBy w) (fun h => tX12 w h)⟩

theorem tbo_m_isOpen : ∀ w ∈ ow_m_isOpen, w ∈ lw_tbl := by_places [] (by decide +kernel)
theorem tb_m_isOpen : ∀ w ∈ vs_m_isOpen, w ∈ lw_tbl := List.forall_mem_cons.mpr ⟨List.mem_of_getElem? (i := 1638) (by decide +kernel), fun w h => (List.mem_append.mp h).elim (tbo_m_isOpen w) (fun h => (List.mem_append.mp h).elim ((show ∀ w ∈ ([.methodLink RX12 423 yX12_isChoice, .instanceMethod yX12_isChoice, .selects RX12 yX12_isChoice yX12_isChoice, .initialized RX12] : List Cond), w ∈ lw_tbl from by_places [1639, 1641, 82, 118] (by decide +kernel)) w) (fun h => (List.mem_append.mp h).elim (tb_m_isChoice w) (fun h => (List.mem_append.mp h).elim ((show ∀ w ∈ ([.methodLink RX12 426 yX12_bars, .instanceMethod yX12_bars, .selects RX12 yX12_bars yX12_bars, .initialized RX12] : List Cond), w ∈ lw_tbl from by_places [1643, 1645, 83, 118] (by decide +kernel)) w) (fun h => tb_m_bars w h))))⟩

theorem tbo_m_isLet : ∀ w ∈ ow_m_isLet, w ∈ lw_tbl := by_places [1295, 1311] (by decide +kernel)
theorem tb_m_isLet : ∀ w ∈ vs_m_isLet, w ∈ lw_tbl := List.forall_mem_cons.mpr ⟨List.mem_of_getElem? (i := 1787) (by decide +kernel), fun w h => (List.mem_append.mp h).elim (tbo_m_isLet w) (fun h => (List.mem_append.mp h).elim ((show ∀ w ∈ ([.methodLink RX12 370 yX12_isOpen, .instanceMethod yX12_isOpen, .selects RX12 yX12_isOpen yX12_isOpen, .initialized RX12] : List Cond), w ∈ lw_tbl from by_places [1635, 1637, 81, 118] (by decide +kernel)) w) (fun h => (List.mem_append.mp h).elim (tb_m_isOpen w) (fun h => tX12 w h)))⟩

theorem tbo_m_feed : ∀ w ∈ ow_m_feed, w ∈ lw_tbl := by_places [1284, 1282] (by decide +kernel)
theorem tb_m_feed : ∀ w ∈ vs_m_feed, w ∈ lw_tbl := List.forall_mem_cons.mpr ⟨List.mem_of_getElem? (i := 1877) (by decide +kernel), fun w h => (List.mem_append.mp h).elim (tbo_m_feed w) (fun h => tX12 w h)⟩

theorem tbo_m_end : ∀ w ∈ ow_m_end, w ∈ lw_tbl := by_places [1284] (by decide +kernel)
theorem tb_m_end : ∀ w ∈ vs_m_end, w ∈ lw_tbl := List.forall_mem_cons.mpr ⟨List.mem_of_getElem? (i := 1881) (by decide +kernel), fun w h => (List.mem_append.mp h).elim (tbo_m_end w) (fun h => tX12 w h)⟩

theorem tbo_m_fault : ∀ w ∈ ow_m_fault, w ∈ lw_tbl := by_places [1287, 1286] (by decide +kernel)
theorem tb_m_fault : ∀ w ∈ vs_m_fault, w ∈ lw_tbl := List.forall_mem_cons.mpr ⟨List.mem_of_getElem? (i := 1595) (by decide +kernel), fun w h => (List.mem_append.mp h).elim (tbo_m_fault w) (fun h => tX12 w h)⟩

theorem tbo_m_span : ∀ w ∈ ow_m_span, w ∈ lw_tbl := by_places [] (by decide +kernel)
theorem tb_m_span : ∀ w ∈ vs_m_span, w ∈ lw_tbl := List.forall_mem_cons.mpr ⟨List.mem_of_getElem? (i := 1599) (by decide +kernel), fun w h => (List.mem_append.mp h).elim (tbo_m_span w) (fun h => (List.mem_append.mp h).elim ((show ∀ w ∈ ([.methodLink RX12 328 yX12_isStep, .instanceMethod yX12_isStep, .selects RX12 yX12_isStep yX12_isStep, .initialized RX12] : List Cond), w ∈ lw_tbl from by_places [1600, 1602, 77, 118] (by decide +kernel)) w) (fun h => tb_m_isStep w h))⟩

theorem tbo_m_sheet : ∀ w ∈ ow_m_sheet, w ∈ lw_tbl := by_places [1321, 1320, 1293, 1311] (by decide +kernel)
theorem tb_m_sheet : ∀ w ∈ vs_m_sheet, w ∈ lw_tbl := List.forall_mem_cons.mpr ⟨List.mem_of_getElem? (i := 1618) (by decide +kernel), fun w h => (List.mem_append.mp h).elim (tbo_m_sheet w) (fun h => tX12 w h)⟩

theorem tbo_m_put : ∀ w ∈ ow_m_put, w ∈ lw_tbl := by_places [1321] (by decide +kernel)
theorem tb_m_put : ∀ w ∈ vs_m_put, w ∈ lw_tbl := List.forall_mem_cons.mpr ⟨List.mem_of_getElem? (i := 1622) (by decide +kernel), fun w h => (List.mem_append.mp h).elim (tbo_m_put w) (fun h => (List.mem_append.mp h).elim ((show ∀ w ∈ ([.methodLink RX12 324 yX12_isIn, .static yX12_isIn, .initialized yX12_isIn.cls] : List Cond), w ∈ lw_tbl from by_places [1608, 1609, 118] (by decide +kernel)) w) (fun h => (List.mem_append.mp h).elim (tb_m_isIn0 w) (fun h => tX12 w h)))⟩

theorem tbo_m_change : ∀ w ∈ ow_m_change, w ∈ lw_tbl := by_places [] (by decide +kernel)
theorem tb_m_change : ∀ w ∈ vs_m_change, w ∈ lw_tbl := List.forall_mem_cons.mpr ⟨List.mem_of_getElem? (i := 1626) (by decide +kernel), fun w h => (List.mem_append.mp h).elim (tbo_m_change w) (fun h => (List.mem_append.mp h).elim ((show ∀ w ∈ ([.methodLink RX12 328 yX12_isStep, .instanceMethod yX12_isStep, .selects RX12 yX12_isStep yX12_isStep, .initialized RX12] : List Cond), w ∈ lw_tbl from by_places [1600, 1602, 77, 118] (by decide +kernel)) w) (fun h => tb_m_isStep w h))⟩

theorem tbo_m_value : ∀ w ∈ ow_m_value, w ∈ lw_tbl := by_places [1692] (by decide +kernel)
theorem tb_m_value : ∀ w ∈ vs_m_value, w ∈ lw_tbl := List.forall_mem_cons.mpr ⟨List.mem_of_getElem? (i := 1634) (by decide +kernel), fun w h => (List.mem_append.mp h).elim (tbo_m_value w) (fun h => (List.mem_append.mp h).elim ((show ∀ w ∈ ([.methodLink RX12 328 yX12_isStep, .instanceMethod yX12_isStep, .selects RX12 yX12_isStep yX12_isStep, .initialized RX12] : List Cond), w ∈ lw_tbl from by_places [1600, 1602, 77, 118] (by decide +kernel)) w) (fun h => tb_m_isStep w h))⟩

theorem tbo_m_error : ∀ w ∈ ow_m_error, w ∈ lw_tbl := by_places [1728] (by decide +kernel)
theorem tb_m_error : ∀ w ∈ vs_m_error, w ∈ lw_tbl := List.forall_mem_cons.mpr ⟨List.mem_of_getElem? (i := 1727) (by decide +kernel), fun w h => (List.mem_append.mp h).elim (tbo_m_error w) (fun h => (List.mem_append.mp h).elim ((show ∀ w ∈ ([.methodLink RX12 328 yX12_isStep, .instanceMethod yX12_isStep, .selects RX12 yX12_isStep yX12_isStep, .initialized RX12] : List Cond), w ∈ lw_tbl from by_places [1600, 1602, 77, 118] (by decide +kernel)) w) (fun h => tb_m_isStep w h))⟩

theorem tbo_m_off : ∀ w ∈ ow_m_off, w ∈ lw_tbl := by_places [1692] (by decide +kernel)
theorem tb_m_off : ∀ w ∈ vs_m_off, w ∈ lw_tbl := List.forall_mem_cons.mpr ⟨List.mem_of_getElem? (i := 1732) (by decide +kernel), fun w h => (List.mem_append.mp h).elim (tbo_m_off w) (fun h => (List.mem_append.mp h).elim ((show ∀ w ∈ ([.methodLink RX12 431 yX12_isEnd, .instanceMethod yX12_isEnd, .selects RX12 yX12_isEnd yX12_isEnd, .initialized RX12] : List Cond), w ∈ lw_tbl from by_places [1733, 1735, 98, 118] (by decide +kernel)) w) (fun h => tb_m_isEnd w h))⟩

theorem tbo_m_barred : ∀ w ∈ ow_m_barred, w ∈ lw_tbl := by_places [] (by decide +kernel)
theorem tb_m_barred : ∀ w ∈ vs_m_barred, w ∈ lw_tbl := List.forall_mem_cons.mpr ⟨List.mem_of_getElem? (i := 1744) (by decide +kernel), fun w h => (List.mem_append.mp h).elim (tbo_m_barred w) (fun h => (List.mem_append.mp h).elim ((show ∀ w ∈ ([.methodLink RX12 423 yX12_isChoice, .instanceMethod yX12_isChoice, .selects RX12 yX12_isChoice yX12_isChoice, .initialized RX12] : List Cond), w ∈ lw_tbl from by_places [1639, 1641, 82, 118] (by decide +kernel)) w) (fun h => (List.mem_append.mp h).elim (tb_m_isChoice w) (fun h => (List.mem_append.mp h).elim ((show ∀ w ∈ ([.methodLink RX12 426 yX12_bars, .instanceMethod yX12_bars, .selects RX12 yX12_bars yX12_bars, .initialized RX12] : List Cond), w ∈ lw_tbl from by_places [1643, 1645, 83, 118] (by decide +kernel)) w) (fun h => tb_m_bars w h))))⟩

theorem tbo_m_measured : ∀ w ∈ ow_m_measured, w ∈ lw_tbl := by_places [1692] (by decide +kernel)
theorem tb_m_measured : ∀ w ∈ vs_m_measured, w ∈ lw_tbl := List.forall_mem_cons.mpr ⟨List.mem_of_getElem? (i := 1748) (by decide +kernel), fun w h => (List.mem_append.mp h).elim (tbo_m_measured w) (fun h => (List.mem_append.mp h).elim ((show ∀ w ∈ ([.methodLink RX12 431 yX12_isEnd, .instanceMethod yX12_isEnd, .selects RX12 yX12_isEnd yX12_isEnd, .initialized RX12] : List Cond), w ∈ lw_tbl from by_places [1733, 1735, 98, 118] (by decide +kernel)) w) (fun h => tb_m_isEnd w h))⟩

theorem tbo_m_passed : ∀ w ∈ ow_m_passed, w ∈ lw_tbl := by_places [] (by decide +kernel)
theorem tb_m_passed : ∀ w ∈ vs_m_passed, w ∈ lw_tbl := List.forall_mem_cons.mpr ⟨List.mem_of_getElem? (i := 1760) (by decide +kernel), fun w h => (List.mem_append.mp h).elim (tbo_m_passed w) (fun h => (List.mem_append.mp h).elim ((show ∀ w ∈ ([.methodLink RX12 431 yX12_isEnd, .instanceMethod yX12_isEnd, .selects RX12 yX12_isEnd yX12_isEnd, .initialized RX12] : List Cond), w ∈ lw_tbl from by_places [1733, 1735, 98, 118] (by decide +kernel)) w) (fun h => tb_m_isEnd w h))⟩

theorem tbo_m_mean : ∀ w ∈ ow_m_mean, w ∈ lw_tbl := by_places [1692] (by decide +kernel)
theorem tb_m_mean : ∀ w ∈ vs_m_mean, w ∈ lw_tbl := List.forall_mem_cons.mpr ⟨List.mem_of_getElem? (i := 1764) (by decide +kernel), fun w h => (List.mem_append.mp h).elim (tbo_m_mean w) (fun h => (List.mem_append.mp h).elim ((show ∀ w ∈ ([.methodLink RX12 431 yX12_isEnd, .instanceMethod yX12_isEnd, .selects RX12 yX12_isEnd yX12_isEnd, .initialized RX12] : List Cond), w ∈ lw_tbl from by_places [1733, 1735, 98, 118] (by decide +kernel)) w) (fun h => tb_m_isEnd w h))⟩

theorem tbo_m_saved : ∀ w ∈ ow_m_saved, w ∈ lw_tbl := by_places [] (by decide +kernel)
theorem tb_m_saved : ∀ w ∈ vs_m_saved, w ∈ lw_tbl := List.forall_mem_cons.mpr ⟨List.mem_of_getElem? (i := 1771) (by decide +kernel), fun w h => (List.mem_append.mp h).elim (tbo_m_saved w) (fun h => (List.mem_append.mp h).elim ((show ∀ w ∈ ([.methodLink RX12 423 yX12_isChoice, .instanceMethod yX12_isChoice, .selects RX12 yX12_isChoice yX12_isChoice, .initialized RX12] : List Cond), w ∈ lw_tbl from by_places [1639, 1641, 82, 118] (by decide +kernel)) w) (fun h => (List.mem_append.mp h).elim (tb_m_isChoice w) (fun h => (List.mem_append.mp h).elim ((show ∀ w ∈ ([.methodLink RX12 447 yX12_savedBy, .instanceMethod yX12_savedBy, .selects RX12 yX12_savedBy yX12_savedBy, .initialized RX12] : List Cond), w ∈ lw_tbl from by_places [1772, 1774, 102, 118] (by decide +kernel)) w) (fun h => tb_m_savedBy w h))))⟩

theorem tbo_m_ticks : ∀ w ∈ ow_m_ticks, w ∈ lw_tbl := by_places [] (by decide +kernel)
theorem tb_m_ticks : ∀ w ∈ vs_m_ticks, w ∈ lw_tbl := List.forall_mem_cons.mpr ⟨List.mem_of_getElem? (i := 1779) (by decide +kernel), fun w h => (List.mem_append.mp h).elim (tbo_m_ticks w) (fun h => (List.mem_append.mp h).elim ((show ∀ w ∈ ([.methodLink RX12 423 yX12_isChoice, .instanceMethod yX12_isChoice, .selects RX12 yX12_isChoice yX12_isChoice, .initialized RX12] : List Cond), w ∈ lw_tbl from by_places [1639, 1641, 82, 118] (by decide +kernel)) w) (fun h => (List.mem_append.mp h).elim (tb_m_isChoice w) (fun h => (List.mem_append.mp h).elim ((show ∀ w ∈ ([.methodLink RX12 321 yX12_steps, .instanceMethod yX12_steps, .selects RX12 yX12_steps yX12_steps, .initialized RX12] : List Cond), w ∈ lw_tbl from by_places [1604, 1606, 78, 118] (by decide +kernel)) w) (fun h => tb_m_steps w h))))⟩

theorem tbo_m_let : ∀ w ∈ ow_m_let, w ∈ lw_tbl := by_places [] (by decide +kernel)
theorem tb_m_let : ∀ w ∈ vs_m_let, w ∈ lw_tbl := List.forall_mem_cons.mpr ⟨List.mem_of_getElem? (i := 1783) (by decide +kernel), fun w h => (List.mem_append.mp h).elim (tbo_m_let w) (fun h => (List.mem_append.mp h).elim ((show ∀ w ∈ ([.methodLink RX12 423 yX12_isChoice, .instanceMethod yX12_isChoice, .selects RX12 yX12_isChoice yX12_isChoice, .initialized RX12] : List Cond), w ∈ lw_tbl from by_places [1639, 1641, 82, 118] (by decide +kernel)) w) (fun h => (List.mem_append.mp h).elim (tb_m_isChoice w) (fun h => (List.mem_append.mp h).elim ((show ∀ w ∈ ([.methodLink RX12 450 yX12_isLet, .instanceMethod yX12_isLet, .selects RX12 yX12_isLet yX12_isLet, .initialized RX12] : List Cond), w ∈ lw_tbl from by_places [1784, 1786, 103, 118] (by decide +kernel)) w) (fun h => tb_m_isLet w h))))⟩

theorem tbo_m_best : ∀ w ∈ ow_m_best, w ∈ lw_tbl := by_places [1322] (by decide +kernel)
theorem tb_m_best : ∀ w ∈ vs_m_best, w ∈ lw_tbl := List.forall_mem_cons.mpr ⟨List.mem_of_getElem? (i := 1791) (by decide +kernel), fun w h => (List.mem_append.mp h).elim (tbo_m_best w) (fun h => tX12 w h)⟩

theorem tbo_m_front : ∀ w ∈ ow_m_front, w ∈ lw_tbl := by_places [] (by decide +kernel)
theorem tb_m_front : ∀ w ∈ vs_m_front, w ∈ lw_tbl := List.forall_mem_cons.mpr ⟨List.mem_of_getElem? (i := 1798) (by decide +kernel), fun w h => (List.mem_append.mp h).elim (tbo_m_front w) (fun h => (List.mem_append.mp h).elim ((show ∀ w ∈ ([.methodLink RX12 431 yX12_isEnd, .instanceMethod yX12_isEnd, .selects RX12 yX12_isEnd yX12_isEnd, .initialized RX12] : List Cond), w ∈ lw_tbl from by_places [1733, 1735, 98, 118] (by decide +kernel)) w) (fun h => tb_m_isEnd w h))⟩

theorem tbo_m_pair : ∀ w ∈ ow_m_pair, w ∈ lw_tbl := by_places [1692] (by decide +kernel)
theorem tb_m_pair : ∀ w ∈ vs_m_pair, w ∈ lw_tbl := List.forall_mem_cons.mpr ⟨List.mem_of_getElem? (i := 1810) (by decide +kernel), fun w h => (List.mem_append.mp h).elim (tbo_m_pair w) (fun h => (List.mem_append.mp h).elim ((show ∀ w ∈ ([.methodLink RX12 431 yX12_isEnd, .instanceMethod yX12_isEnd, .selects RX12 yX12_isEnd yX12_isEnd, .initialized RX12] : List Cond), w ∈ lw_tbl from by_places [1733, 1735, 98, 118] (by decide +kernel)) w) (fun h => tb_m_isEnd w h))⟩

theorem tbo_m_guard : ∀ w ∈ ow_m_guard, w ∈ lw_tbl := by_places [] (by decide +kernel)
theorem tb_m_guard : ∀ w ∈ vs_m_guard, w ∈ lw_tbl := List.forall_mem_cons.mpr ⟨List.mem_of_getElem? (i := 1814) (by decide +kernel), fun w h => (List.mem_append.mp h).elim (tbo_m_guard w) (fun h => (List.mem_append.mp h).elim ((show ∀ w ∈ ([.methodLink RX12 431 yX12_isEnd, .instanceMethod yX12_isEnd, .selects RX12 yX12_isEnd yX12_isEnd, .initialized RX12] : List Cond), w ∈ lw_tbl from by_places [1733, 1735, 98, 118] (by decide +kernel)) w) (fun h => tb_m_isEnd w h))⟩

theorem tbo_m_through : ∀ w ∈ ow_m_through, w ∈ lw_tbl := by_places [] (by decide +kernel)
theorem tb_m_through : ∀ w ∈ vs_m_through, w ∈ lw_tbl := List.forall_mem_cons.mpr ⟨List.mem_of_getElem? (i := 1818) (by decide +kernel), fun w h => (List.mem_append.mp h).elim (tbo_m_through w) (fun h => (List.mem_append.mp h).elim ((show ∀ w ∈ ([.methodLink RX12 431 yX12_isEnd, .instanceMethod yX12_isEnd, .selects RX12 yX12_isEnd yX12_isEnd, .initialized RX12] : List Cond), w ∈ lw_tbl from by_places [1733, 1735, 98, 118] (by decide +kernel)) w) (fun h => tb_m_isEnd w h))⟩

theorem tbo_m_turned : ∀ w ∈ ow_m_turned, w ∈ lw_tbl := by_places [] (by decide +kernel)
theorem tb_m_turned : ∀ w ∈ vs_m_turned, w ∈ lw_tbl := List.forall_mem_cons.mpr ⟨List.mem_of_getElem? (i := 1826) (by decide +kernel), fun w h => (List.mem_append.mp h).elim (tbo_m_turned w) (fun h => (List.mem_append.mp h).elim ((show ∀ w ∈ ([.methodLink RX12 431 yX12_isEnd, .instanceMethod yX12_isEnd, .selects RX12 yX12_isEnd yX12_isEnd, .initialized RX12] : List Cond), w ∈ lw_tbl from by_places [1733, 1735, 98, 118] (by decide +kernel)) w) (fun h => tb_m_isEnd w h))⟩

theorem tbo_m_worst : ∀ w ∈ ow_m_worst, w ∈ lw_tbl := by_places [1728] (by decide +kernel)
theorem tb_m_worst : ∀ w ∈ vs_m_worst, w ∈ lw_tbl := List.forall_mem_cons.mpr ⟨List.mem_of_getElem? (i := 1830) (by decide +kernel), fun w h => (List.mem_append.mp h).elim (tbo_m_worst w) (fun h => (List.mem_append.mp h).elim ((show ∀ w ∈ ([.methodLink RX12 431 yX12_isEnd, .instanceMethod yX12_isEnd, .selects RX12 yX12_isEnd yX12_isEnd, .initialized RX12] : List Cond), w ∈ lw_tbl from by_places [1733, 1735, 98, 118] (by decide +kernel)) w) (fun h => tb_m_isEnd w h))⟩

theorem tbo_m_led : ∀ w ∈ ow_m_led, w ∈ lw_tbl := by_places [1728] (by decide +kernel)
theorem tb_m_led : ∀ w ∈ vs_m_led, w ∈ lw_tbl := List.forall_mem_cons.mpr ⟨List.mem_of_getElem? (i := 1842) (by decide +kernel), fun w h => (List.mem_append.mp h).elim (tbo_m_led w) (fun h => (List.mem_append.mp h).elim ((show ∀ w ∈ ([.methodLink RX12 431 yX12_isEnd, .instanceMethod yX12_isEnd, .selects RX12 yX12_isEnd yX12_isEnd, .initialized RX12] : List Cond), w ∈ lw_tbl from by_places [1733, 1735, 98, 118] (by decide +kernel)) w) (fun h => tb_m_isEnd w h))⟩

theorem tbo_m_purse : ∀ w ∈ ow_m_purse, w ∈ lw_tbl := by_places [1865, 1340] (by decide +kernel)
theorem tb_m_purse : ∀ w ∈ vs_m_purse, w ∈ lw_tbl := List.forall_mem_cons.mpr ⟨List.mem_of_getElem? (i := 1864) (by decide +kernel), fun w h => (List.mem_append.mp h).elim (tbo_m_purse w) (fun h => (List.mem_append.mp h).elim ((show ∀ w ∈ ([.methodLink RX12 324 yX12_isIn, .static yX12_isIn, .initialized yX12_isIn.cls] : List Cond), w ∈ lw_tbl from by_places [1608, 1609, 118] (by decide +kernel)) w) (fun h => (List.mem_append.mp h).elim (tb_m_isIn w) (fun h => tX12 w h)))⟩

theorem tbo_m_day : ∀ w ∈ ow_m_day, w ∈ lw_tbl := by_places [] (by decide +kernel)
theorem tb_m_day : ∀ w ∈ vs_m_day, w ∈ lw_tbl := List.forall_mem_cons.mpr ⟨List.mem_of_getElem? (i := 1869) (by decide +kernel), fun w h => (List.mem_append.mp h).elim (tbo_m_day w) (fun h => (List.mem_append.mp h).elim ((show ∀ w ∈ ([.methodLink RX12 431 yX12_isEnd, .instanceMethod yX12_isEnd, .selects RX12 yX12_isEnd yX12_isEnd, .initialized RX12] : List Cond), w ∈ lw_tbl from by_places [1733, 1735, 98, 118] (by decide +kernel)) w) (fun h => tb_m_isEnd w h))⟩

theorem tbo_m_plan : ∀ w ∈ ow_m_plan, w ∈ lw_tbl := by_places [] (by decide +kernel)
theorem tb_m_plan : ∀ w ∈ vs_m_plan, w ∈ lw_tbl := List.forall_mem_cons.mpr ⟨List.mem_of_getElem? (i := 1850) (by decide +kernel), fun w h => (List.mem_append.mp h).elim (tbo_m_plan w) (fun h => (List.mem_append.mp h).elim ((show ∀ w ∈ ([.methodLink RX12 431 yX12_isEnd, .instanceMethod yX12_isEnd, .selects RX12 yX12_isEnd yX12_isEnd, .initialized RX12] : List Cond), w ∈ lw_tbl from by_places [1733, 1735, 98, 118] (by decide +kernel)) w) (fun h => tb_m_isEnd w h))⟩

theorem tbo_m_planned : ∀ w ∈ ow_m_planned, w ∈ lw_tbl := by_places [] (by decide +kernel)
theorem tb_m_planned : ∀ w ∈ vs_m_planned, w ∈ lw_tbl := List.forall_mem_cons.mpr ⟨List.mem_of_getElem? (i := 1860) (by decide +kernel), fun w h => (List.mem_append.mp h).elim (tbo_m_planned w) (fun h => (List.mem_append.mp h).elim ((show ∀ w ∈ ([.methodLink RX12 431 yX12_isEnd, .instanceMethod yX12_isEnd, .selects RX12 yX12_isEnd yX12_isEnd, .initialized RX12] : List Cond), w ∈ lw_tbl from by_places [1733, 1735, 98, 118] (by decide +kernel)) w) (fun h => tb_m_isEnd w h))⟩

theorem tbo_m_about : ∀ w ∈ ow_m_about, w ∈ lw_tbl := by_places [1293, 1311, 1295, 1321, 1322, 1335, 1340, 1284] (by decide +kernel)
theorem tb_m_about : ∀ w ∈ vs_m_about, w ∈ lw_tbl := List.forall_mem_cons.mpr ⟨List.mem_of_getElem? (i := 1873) (by decide +kernel), fun w h => (List.mem_append.mp h).elim (tbo_m_about w) (fun h => (List.mem_append.mp h).elim ((show ∀ w ∈ ([.methodLink RX12 321 yX12_steps, .instanceMethod yX12_steps, .selects RX12 yX12_steps yX12_steps, .initialized RX12] : List Cond), w ∈ lw_tbl from by_places [1604, 1606, 78, 118] (by decide +kernel)) w) (fun h => (List.mem_append.mp h).elim (tb_m_steps w) (fun h => tX12 w h)))⟩

