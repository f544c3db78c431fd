theorem in_r {big : List Cond} (ws : List Cond) (ps : List Nat) (hp : ws = ps.filterMap (fun i => big[i]?)) : ∀ w ∈ ws, w ∈ big := by
  intro w hw
  rw [hp] at hw
  obtain ⟨i, -, hi⟩ := List.mem_filterMap.mp hw
  exact List.mem_of_getElem? hi
theorem in_app {a b big : List Cond} (ha : ∀ w ∈ a, w ∈ big) (hb : ∀ w ∈ b, w ∈ big) : ∀ w ∈ a ++ b, w ∈ big := fun w h => (List.mem_append.mp h).elim (ha w) (hb w)
theorem im_nil {big : List Cond} : ∀ w ∈ ([] : List Cond), w ∈ big := fun _ h => absurd h List.not_mem_nil
theorem im_c {x : Cond} {a big : List Cond} (hx : ∀ w ∈ [x], w ∈ big) (ha : ∀ w ∈ a, w ∈ big) : ∀ w ∈ x :: a, w ∈ big := fun w h => (List.mem_cons.mp h).elim (fun e => hx w (by rw [e]; exact List.mem_singleton_self _)) (ha w)
theorem gd_nil : ∀ w ∈ ([] : List Cond), goodWord w = true := fun _ h => absurd h List.not_mem_nil
theorem gd_a {a b : List Cond} (ha : ∀ w ∈ a, goodWord w = true) (hb : ∀ w ∈ b, goodWord w = true) : ∀ w ∈ a ++ b, goodWord w = true := fun w h => (List.mem_append.mp h).elim (ha w) (hb w)
theorem gd_c {x : Cond} {a : List Cond} (hx : goodWord x = true) (ha : ∀ w ∈ a, goodWord w = true) : ∀ w ∈ x :: a, goodWord w = true := fun w h => (List.mem_cons.mp h).elim (fun e => by rw [e]; exact hx) (ha w)

set_option maxRecDepth 20000 in
theorem im_wsX00 : ∀ w ∈ wsX00, w ∈ lw_tbl := in_r _ [645, 647, 649] (by decide +kernel)
theorem gd_wsX00 : ∀ w ∈ wsX00, goodWord w = true := by decide +kernel
set_option maxRecDepth 20000 in
theorem im_wsX10 : ∀ w ∈ wsX10, w ∈ lw_tbl := in_r _ [138, 140, 142, 144, 146, 148, 150, 152] (by decide +kernel)
theorem gd_wsX10 : ∀ w ∈ wsX10, goodWord w = true := by decide +kernel
set_option maxRecDepth 20000 in
theorem im_wsX20 : ∀ w ∈ wsX20, w ∈ lw_tbl := in_r _ [919, 921, 923, 925, 927, 929] (by decide +kernel)
theorem gd_wsX20 : ∀ w ∈ wsX20, goodWord w = true := by decide +kernel
set_option maxRecDepth 20000 in
theorem im_wsX30 : ∀ w ∈ wsX30, w ∈ lw_tbl := in_r _ [454, 456, 458, 460, 462, 464, 466, 468, 470, 472, 474, 476] (by decide +kernel)
theorem gd_wsX30 : ∀ w ∈ wsX30, goodWord w = true := by decide +kernel
set_option maxRecDepth 20000 in
theorem im_wsX40 : ∀ w ∈ wsX40, w ∈ lw_tbl := in_r _ [614, 616, 618] (by decide +kernel)
theorem gd_wsX40 : ∀ w ∈ wsX40, goodWord w = true := by decide +kernel
set_option maxRecDepth 20000 in
theorem im_wsX50 : ∀ w ∈ wsX50, w ∈ lw_tbl := in_r _ [496, 498, 500, 502, 504, 506] (by decide +kernel)
theorem gd_wsX50 : ∀ w ∈ wsX50, goodWord w = true := by decide +kernel
set_option maxRecDepth 20000 in
theorem im_wsX60 : ∀ w ∈ wsX60, w ∈ lw_tbl := in_r _ [696, 698, 700, 702, 704, 706, 708, 710, 712, 714, 716] (by decide +kernel)
theorem gd_wsX60 : ∀ w ∈ wsX60, goodWord w = true := by decide +kernel
set_option maxRecDepth 20000 in
theorem im_wsX70 : ∀ w ∈ wsX70, w ∈ lw_tbl := in_r _ [532, 534, 536, 538, 540, 542, 544, 546, 548, 550, 552, 554, 556] (by decide +kernel)
theorem gd_wsX70 : ∀ w ∈ wsX70, goodWord w = true := by decide +kernel
set_option maxRecDepth 20000 in
theorem im_wsX80 : ∀ w ∈ wsX80, w ∈ lw_tbl := in_r _ [178, 180, 182, 184, 186, 188, 190, 192] (by decide +kernel)
theorem gd_wsX80 : ∀ w ∈ wsX80, goodWord w = true := by decide +kernel
set_option maxRecDepth 20000 in
theorem im_wsX90 : ∀ w ∈ wsX90, w ∈ lw_tbl := in_r _ [389, 391, 393] (by decide +kernel)
theorem gd_wsX90 : ∀ w ∈ wsX90, goodWord w = true := by decide +kernel
set_option maxRecDepth 20000 in
theorem im_wsX100 : ∀ w ∈ wsX100, w ∈ lw_tbl := in_r _ [407, 409, 411, 413, 415, 417] (by decide +kernel)
theorem gd_wsX100 : ∀ w ∈ wsX100, goodWord w = true := by decide +kernel
set_option maxRecDepth 20000 in
theorem im_wsX110 : ∀ w ∈ wsX110, w ∈ lw_tbl := in_r _ [569, 571, 573, 575, 577, 579, 581, 583, 585, 587] (by decide +kernel)
theorem gd_wsX110 : ∀ w ∈ wsX110, goodWord w = true := by decide +kernel
set_option maxRecDepth 20000 in
theorem im_wsX120 : ∀ w ∈ wsX120, w ∈ lw_tbl := in_r _ [1299, 1301, 1303, 1305, 1307, 1309, 1311, 1313, 1315, 1317, 1319, 1321, 1323, 1325, 1327, 1329, 1331, 1333, 1335, 1337, 1339, 1341, 1343, 1345, 1347, 1349, 1351, 1353, 1355, 1357, 1359, 1361, 1363, 1365, 1367, 1369, 1371, 1373, 1375, 1377, 1379, 1381, 1383, 1385, 1387, 1389, 1391, 1393, 1395, 1397, 1399, 1401, 1403, 1405, 1407, 1409, 1411, 1413] (by decide +kernel)
theorem gd_wsX120 : ∀ w ∈ wsX120, goodWord w = true := by decide +kernel
set_option maxRecDepth 20000 in
theorem im_ux_at : ∀ w ∈ ux_at, w ∈ lw_tbl := by decide +kernel
theorem gd_ux_at : ∀ w ∈ ux_at, goodWord w = true := fun _ h => (List.mem_filter.mp h).2
