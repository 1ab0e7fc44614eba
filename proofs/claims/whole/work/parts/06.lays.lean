theorem zby {ws : List Cond} (ps : List Nat) (h : ws = ps.filterMap (fun i => lw_tbl[i]?)) : ∀ w ∈ ws, w ∈ lw_tbl := by
  intro w hw
  rw [h] at hw
  obtain ⟨i, -, hi⟩ := List.mem_filterMap.mp hw
  exact List.mem_of_getElem? hi
set_option maxRecDepth 100000 in
theorem zlaysIn0 : ∀ w ∈ u_ws RX0 TX0 5, w ∈ lw_tbl := zby [428, 430, 432, 434, 436] (by decide +kernel)
set_option maxRecDepth 100000 in
theorem zlaysIn1 : ∀ w ∈ u_ws RX1 TX1 2, w ∈ lw_tbl := zby [128, 130] (by decide +kernel)
set_option maxRecDepth 100000 in
theorem zlaysIn2 : ∀ w ∈ u_ws RX2 TX2 6, w ∈ lw_tbl := zby [508, 510, 512, 514, 516, 518] (by decide +kernel)
set_option maxRecDepth 100000 in
theorem zlaysIn3 : ∀ w ∈ u_ws RX3 TX3 5, w ∈ lw_tbl := zby [378, 380, 382, 384, 386] (by decide +kernel)
set_option maxRecDepth 100000 in
theorem zlaysIn4 : ∀ w ∈ u_ws RX4 TX4 9, w ∈ lw_tbl := zby [236, 238, 240, 242, 244, 246, 248, 250, 252] (by decide +kernel)
set_option maxRecDepth 100000 in
theorem zlaysIn5 : ∀ w ∈ u_ws RX5 TX5 4, w ∈ lw_tbl := zby [527, 529, 531, 533] (by decide +kernel)
set_option maxRecDepth 100000 in
theorem zlaysIn6 : ∀ w ∈ u_ws RX6 TX6 9, w ∈ lw_tbl := zby [281, 283, 285, 287, 289, 291, 293, 295, 297] (by decide +kernel)
set_option maxRecDepth 100000 in
theorem zlaysIn7 : ∀ w ∈ u_ws RX7 TX7 4, w ∈ lw_tbl := zby [154, 156, 158, 160] (by decide +kernel)
set_option maxRecDepth 100000 in
theorem zlaysIn8 : ∀ w ∈ u_ws RX8 TX8 5, w ∈ lw_tbl := zby [403, 405, 407, 409, 411] (by decide +kernel)
set_option maxRecDepth 100000 in
theorem zlaysIn9 : ∀ w ∈ u_ws RX9 TX9 9, w ∈ lw_tbl := zby [468, 470, 472, 474, 476, 478, 480, 482, 484] (by decide +kernel)
set_option maxRecDepth 100000 in
theorem zlaysIn10 : ∀ w ∈ u_ws RX10 TX10 11, w ∈ lw_tbl := zby [190, 192, 194, 196, 198, 200, 202, 204, 206, 208, 210] (by decide +kernel)
set_option maxRecDepth 100000 in
theorem zlaysIn11 : ∀ w ∈ u_ws RX11 TX11 9, w ∈ lw_tbl := zby [309, 311, 313, 315, 317, 319, 321, 323, 325] (by decide +kernel)
set_option maxRecDepth 100000 in
theorem zlaysIn12 : ∀ w ∈ u_ws RX12 TX12 64, w ∈ lw_tbl := zby [1217, 1219, 1221, 1223, 1225, 1227, 1229, 1231, 1233, 1235, 1237, 1239, 1241, 1243, 1245, 1247, 1249, 1251, 1253, 1255, 1257, 1259, 1261, 1263, 1265, 1267, 1269, 1271, 1273, 1275, 1277, 1279, 1281, 1283, 1285, 1287, 1289, 1291, 1293, 1295, 1297, 1299, 1301, 1303, 1305, 1307, 1309, 1311, 1313, 1315, 1317, 1319, 1321, 1323, 1325, 1327, 1329, 1331, 1333, 1335, 1337, 1339, 1341, 1343] (by decide +kernel)
theorem zlaysIn : ∀ t, t < 13 → ∀ w ∈ u_ws (zC t) (zT t) (zN t), w ∈ lw_tbl := z_13 zlaysIn0 zlaysIn1 zlaysIn2 zlaysIn3 zlaysIn4 zlaysIn5 zlaysIn6 zlaysIn7 zlaysIn8 zlaysIn9 zlaysIn10 zlaysIn11 zlaysIn12
