def tyOf (ci k : Nat) : FieldType := match ci with
  | 0 => tyX0 k
  | 1 => tyX1 k
  | 2 => tyX2 k
  | 3 => tyX3 k
  | 4 => tyX4 k
  | 5 => tyX5 k
  | 6 => tyX6 k
  | 7 => tyX7 k
  | 8 => tyX8 k
  | 9 => tyX9 k
  | _ => tyX10 k
set_option maxRecDepth 100000 in
theorem inX0 : ∀ w ∈ u_ws RX0 TX0 4, w ∈ ssTbl := by
  have h : (List.range 4).all (fun k => inT (([477, 479, 481, 483] : List Nat).getD k 0) (u_lay RX0 TX0 k)) = true := by decide +kernel
  intro w hw
  obtain ⟨k, hk, rfl⟩ := List.mem_map.mp hw
  exact inT_mem (List.all_eq_true.mp h k hk)
set_option maxRecDepth 100000 in
theorem inI0 : inT 465 (.instantiable RX0 4) = true := by decide +kernel
set_option maxRecDepth 100000 in
theorem inN0 : inT 121 (.initialized RX0) = true := by decide +kernel
set_option maxRecDepth 100000 in
theorem inX1 : ∀ w ∈ u_ws RX1 TX1 9, w ∈ ssTbl := by
  have h : (List.range 9).all (fun k => inT (([445, 447, 449, 451, 453, 455, 457, 459, 461] : List Nat).getD k 0) (u_lay RX1 TX1 k)) = true := by decide +kernel
  intro w hw
  obtain ⟨k, hk, rfl⟩ := List.mem_map.mp hw
  exact inT_mem (List.all_eq_true.mp h k hk)
set_option maxRecDepth 100000 in
theorem inI1 : inT 427 (.instantiable RX1 9) = true := by decide +kernel
set_option maxRecDepth 100000 in
theorem inN1 : inT 120 (.initialized RX1) = true := by decide +kernel
set_option maxRecDepth 100000 in
theorem inX2 : ∀ w ∈ u_ws RX2 TX2 7, w ∈ ssTbl := by
  have h : (List.range 7).all (fun k => inT (([242, 244, 246, 248, 250, 252, 254] : List Nat).getD k 0) (u_lay RX2 TX2 k)) = true := by decide +kernel
  intro w hw
  obtain ⟨k, hk, rfl⟩ := List.mem_map.mp hw
  exact inT_mem (List.all_eq_true.mp h k hk)
set_option maxRecDepth 100000 in
theorem inI2 : inT 210 (.instantiable RX2 7) = true := by decide +kernel
set_option maxRecDepth 100000 in
theorem inN2 : inT 117 (.initialized RX2) = true := by decide +kernel
set_option maxRecDepth 100000 in
theorem inX3 : ∀ w ∈ u_ws RX3 TX3 11, w ∈ ssTbl := by
  have h : (List.range 11).all (fun k => inT (([366, 368, 370, 372, 374, 376, 378, 380, 382, 384, 386] : List Nat).getD k 0) (u_lay RX3 TX3 k)) = true := by decide +kernel
  intro w hw
  obtain ⟨k, hk, rfl⟩ := List.mem_map.mp hw
  exact inT_mem (List.all_eq_true.mp h k hk)
set_option maxRecDepth 100000 in
theorem inI3 : inT 144 (.instantiable RX3 11) = true := by decide +kernel
set_option maxRecDepth 100000 in
theorem inN3 : inT 114 (.initialized RX3) = true := by decide +kernel
set_option maxRecDepth 100000 in
theorem inX4 : ∀ w ∈ u_ws RX4 TX4 17, w ∈ ssTbl := by
  have h : (List.range 17).all (fun k => inT (([317, 319, 321, 323, 325, 327, 329, 331, 333, 335, 337, 339, 341, 343, 345, 347, 349] : List Nat).getD k 0) (u_lay RX4 TX4 k)) = true := by decide +kernel
  intro w hw
  obtain ⟨k, hk, rfl⟩ := List.mem_map.mp hw
  exact inT_mem (List.all_eq_true.mp h k hk)
set_option maxRecDepth 100000 in
theorem inI4 : inT 204 (.instantiable RX4 17) = true := by decide +kernel
set_option maxRecDepth 100000 in
theorem inN4 : inT 116 (.initialized RX4) = true := by decide +kernel
set_option maxRecDepth 100000 in
theorem inX5 : ∀ w ∈ u_ws RX5 TX5 13, w ∈ ssTbl := by
  have h : (List.range 13).all (fun k => inT (([173, 175, 177, 179, 181, 183, 185, 187, 189, 191, 193, 195, 197] : List Nat).getD k 0) (u_lay RX5 TX5 k)) = true := by decide +kernel
  intro w hw
  obtain ⟨k, hk, rfl⟩ := List.mem_map.mp hw
  exact inT_mem (List.all_eq_true.mp h k hk)
set_option maxRecDepth 100000 in
theorem inI5 : inT 150 (.instantiable RX5 13) = true := by decide +kernel
set_option maxRecDepth 100000 in
theorem inN5 : inT 115 (.initialized RX5) = true := by decide +kernel
set_option maxRecDepth 100000 in
theorem inX6 : ∀ w ∈ u_ws RX6 TX6 1, w ∈ ssTbl := by
  have h : (List.range 1).all (fun k => inT (([423] : List Nat).getD k 0) (u_lay RX6 TX6 k)) = true := by decide +kernel
  intro w hw
  obtain ⟨k, hk, rfl⟩ := List.mem_map.mp hw
  exact inT_mem (List.all_eq_true.mp h k hk)
set_option maxRecDepth 100000 in
theorem inI6 : inT 414 (.instantiable RX6 1) = true := by decide +kernel
set_option maxRecDepth 100000 in
theorem inN6 : inT 119 (.initialized RX6) = true := by decide +kernel
set_option maxRecDepth 100000 in
theorem inX7 : ∀ w ∈ u_ws RX7 TX7 3, w ∈ ssTbl := by
  have h : (List.range 3).all (fun k => inT (([406, 408, 410] : List Nat).getD k 0) (u_lay RX7 TX7 k)) = true := by decide +kernel
  intro w hw
  obtain ⟨k, hk, rfl⟩ := List.mem_map.mp hw
  exact inT_mem (List.all_eq_true.mp h k hk)
set_option maxRecDepth 100000 in
theorem inI7 : inT 394 (.instantiable RX7 3) = true := by decide +kernel
set_option maxRecDepth 100000 in
theorem inN7 : inT 118 (.initialized RX7) = true := by decide +kernel
set_option maxRecDepth 100000 in
theorem inX8 : ∀ w ∈ u_ws RX8 TX8 12, w ∈ ssTbl := by
  have h : (List.range 12).all (fun k => inT (([498, 500, 502, 504, 506, 508, 510, 512, 514, 516, 518, 520] : List Nat).getD k 0) (u_lay RX8 TX8 k)) = true := by decide +kernel
  intro w hw
  obtain ⟨k, hk, rfl⟩ := List.mem_map.mp hw
  exact inT_mem (List.all_eq_true.mp h k hk)
set_option maxRecDepth 100000 in
theorem inI8 : inT 136 (.instantiable RX8 12) = true := by decide +kernel
set_option maxRecDepth 100000 in
theorem inN8 : inT 113 (.initialized RX8) = true := by decide +kernel
set_option maxRecDepth 100000 in
theorem inX9 : ∀ w ∈ u_ws RX9 TX9 24, w ∈ ssTbl := by
  have h : (List.range 24).all (fun k => inT (([1424, 1426, 1428, 1430, 1432, 1434, 1436, 1438, 1440, 1442, 1444, 1446, 1448, 1450, 1452, 1454, 1456, 1458, 1460, 1462, 1464, 1466, 1468, 1470] : List Nat).getD k 0) (u_lay RX9 TX9 k)) = true := by decide +kernel
  intro w hw
  obtain ⟨k, hk, rfl⟩ := List.mem_map.mp hw
  exact inT_mem (List.all_eq_true.mp h k hk)
set_option maxRecDepth 100000 in
theorem inI9 : inT 1380 (.instantiable RX9 24) = true := by decide +kernel
set_option maxRecDepth 100000 in
theorem inN9 : inT 129 (.initialized RX9) = true := by decide +kernel
set_option maxRecDepth 100000 in
theorem inX10 : ∀ w ∈ u_ws RX10 TX10 29, w ∈ ssTbl := by
  have h : (List.range 29).all (fun k => inT (([1304, 1306, 1308, 1310, 1312, 1314, 1316, 1318, 1320, 1322, 1324, 1326, 1328, 1330, 1332, 1334, 1336, 1338, 1340, 1342, 1344, 1346, 1348, 1350, 1352, 1354, 1356, 1358, 1360] : List Nat).getD k 0) (u_lay RX10 TX10 k)) = true := by decide +kernel
  intro w hw
  obtain ⟨k, hk, rfl⟩ := List.mem_map.mp hw
  exact inT_mem (List.all_eq_true.mp h k hk)
set_option maxRecDepth 100000 in
theorem inI10 : inT 1270 (.instantiable RX10 29) = true := by decide +kernel
set_option maxRecDepth 100000 in
theorem inN10 : inT 122 (.initialized RX10) = true := by decide +kernel
theorem ss_cls : ∀ (ci : Nat) (r : vw_C), vwCl[ci]? = some r → (∀ w ∈ u_ws r.1 r.2.1 r.2.2, w ∈ ssTbl) ∧ (∀ k, k < r.2.2 → parseFieldDescriptor (r.2.1 k).2.2.1 = some (tyOf ci k)) ∧ (∀ a, a < r.2.2 → ∀ b, b < r.2.2 → a ≠ b → (r.2.1 a).2.1 ≠ (r.2.1 b).2.1) ∧ Cond.instantiable r.1 r.2.2 ∈ ssTbl ∧ Cond.initialized r.1 ∈ ssTbl := by
  intro ci r h
  match ci, h with
  | 0, h => cases h; exact ⟨inX0, tyX0_ok, nmX0, inT_mem inI0, inT_mem inN0⟩
  | 1, h => cases h; exact ⟨inX1, tyX1_ok, nmX1, inT_mem inI1, inT_mem inN1⟩
  | 2, h => cases h; exact ⟨inX2, tyX2_ok, nmX2, inT_mem inI2, inT_mem inN2⟩
  | 3, h => cases h; exact ⟨inX3, tyX3_ok, nmX3, inT_mem inI3, inT_mem inN3⟩
  | 4, h => cases h; exact ⟨inX4, tyX4_ok, nmX4, inT_mem inI4, inT_mem inN4⟩
  | 5, h => cases h; exact ⟨inX5, tyX5_ok, nmX5, inT_mem inI5, inT_mem inN5⟩
  | 6, h => cases h; exact ⟨inX6, tyX6_ok, nmX6, inT_mem inI6, inT_mem inN6⟩
  | 7, h => cases h; exact ⟨inX7, tyX7_ok, nmX7, inT_mem inI7, inT_mem inN7⟩
  | 8, h => cases h; exact ⟨inX8, tyX8_ok, nmX8, inT_mem inI8, inT_mem inN8⟩
  | 9, h => cases h; exact ⟨inX9, tyX9_ok, nmX9, inT_mem inI9, inT_mem inN9⟩
  | 10, h => cases h; exact ⟨inX10, tyX10_ok, nmX10, inT_mem inI10, inT_mem inN10⟩
  | n + 11, h => simp [vwCl] at h
set_option maxRecDepth 100000 in
theorem inAI : inT 201 (.arrayClass .int) = true := by decide +kernel
set_option maxRecDepth 100000 in
theorem inAB : inT 200 (.arrayClass .byte) = true := by decide +kernel
set_option maxRecDepth 100000 in
theorem inAJ : inT 202 (.arrayClass .long) = true := by decide +kernel
set_option maxRecDepth 100000 in
theorem inOI : inT 141 (.instanceMethod objectInit) = true := by decide +kernel
set_option maxRecDepth 100000 in
theorem inOC : inT 142 (.code objectInit ⟨#[0xb1]⟩ 1 none) = true := by decide +kernel
set_option maxRecDepth 100000 in
theorem inMS : inT 782 (.static Lib.Math.max.name) = true := by decide +kernel
set_option maxRecDepth 100000 in
theorem inMI : inT 123 (.initialized "java/lang/Math") = true := by decide +kernel
set_option maxRecDepth 100000 in
theorem inMC : inT 783 (.code Lib.Math.max.name Lib.Math.max.code 2 (some .int)) = true := by decide +kernel
set_option maxRecDepth 100000 in
theorem inmS : inT 555 (.static Lib.Math.min.name) = true := by decide +kernel
set_option maxRecDepth 100000 in
theorem inmC : inT 556 (.code Lib.Math.min.name Lib.Math.min.code 2 (some .int)) = true := by decide +kernel
set_option maxRecDepth 100000 in
theorem inCN : inT 740 (.native arraycopyName) = true := by decide +kernel
set_option maxRecDepth 100000 in
theorem inCS : inT 739 (.static arraycopyName) = true := by decide +kernel
set_option maxRecDepth 100000 in
theorem inCI : inT 128 (.initialized "java/lang/System") = true := by decide +kernel
