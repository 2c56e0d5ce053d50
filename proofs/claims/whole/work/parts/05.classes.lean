def tyOf (ci k : Nat) : FieldType := match ci with
  | 0 => tyX0 k
  | 1 => tyX1 k
  | 2 => tyX2 k
  | 3 => tyX3 k
  | 4 => tyX4 k
  | 5 => tyX5 k
  | 6 => tyX6 k
  | 7 => tyX7 k
  | 8 => tyX8 k
  | 9 => tyX9 k
  | _ => tyX10 k
set_option maxRecDepth 100000 in
theorem inX0 : ∀ w ∈ u_ws RX0 TX0 4, w ∈ ssTbl := by
  have h : (List.range 4).all (fun k => inT (([532, 534, 536, 538] : List Nat).getD k 0) (u_lay RX0 TX0 k)) = true := by decide +kernel
  intro w hw
  obtain ⟨k, hk, rfl⟩ := List.mem_map.mp hw
  exact inT_mem (List.all_eq_true.mp h k hk)
set_option maxRecDepth 100000 in
theorem inI0 : inT 520 (.instantiable RX0 4) = true := by decide +kernel
set_option maxRecDepth 100000 in
theorem inN0 : inT 125 (.initialized RX0) = true := by decide +kernel
set_option maxRecDepth 100000 in
theorem inX1 : ∀ w ∈ u_ws RX1 TX1 9, w ∈ ssTbl := by
  have h : (List.range 9).all (fun k => inT (([500, 502, 504, 506, 508, 510, 512, 514, 516] : List Nat).getD k 0) (u_lay RX1 TX1 k)) = true := by decide +kernel
  intro w hw
  obtain ⟨k, hk, rfl⟩ := List.mem_map.mp hw
  exact inT_mem (List.all_eq_true.mp h k hk)
set_option maxRecDepth 100000 in
theorem inI1 : inT 482 (.instantiable RX1 9) = true := by decide +kernel
set_option maxRecDepth 100000 in
theorem inN1 : inT 124 (.initialized RX1) = true := by decide +kernel
set_option maxRecDepth 100000 in
theorem inX2 : ∀ w ∈ u_ws RX2 TX2 7, w ∈ ssTbl := by
  have h : (List.range 7).all (fun k => inT (([297, 299, 301, 303, 305, 307, 309] : List Nat).getD k 0) (u_lay RX2 TX2 k)) = true := by decide +kernel
  intro w hw
  obtain ⟨k, hk, rfl⟩ := List.mem_map.mp hw
  exact inT_mem (List.all_eq_true.mp h k hk)
set_option maxRecDepth 100000 in
theorem inI2 : inT 265 (.instantiable RX2 7) = true := by decide +kernel
set_option maxRecDepth 100000 in
theorem inN2 : inT 121 (.initialized RX2) = true := by decide +kernel
set_option maxRecDepth 100000 in
theorem inX3 : ∀ w ∈ u_ws RX3 TX3 11, w ∈ ssTbl := by
  have h : (List.range 11).all (fun k => inT (([421, 423, 425, 427, 429, 431, 433, 435, 437, 439, 441] : List Nat).getD k 0) (u_lay RX3 TX3 k)) = true := by decide +kernel
  intro w hw
  obtain ⟨k, hk, rfl⟩ := List.mem_map.mp hw
  exact inT_mem (List.all_eq_true.mp h k hk)
set_option maxRecDepth 100000 in
theorem inI3 : inT 144 (.instantiable RX3 11) = true := by decide +kernel
set_option maxRecDepth 100000 in
theorem inN3 : inT 114 (.initialized RX3) = true := by decide +kernel
set_option maxRecDepth 100000 in
theorem inX4 : ∀ w ∈ u_ws RX4 TX4 17, w ∈ ssTbl := by
  have h : (List.range 17).all (fun k => inT (([372, 374, 376, 378, 380, 382, 384, 386, 388, 390, 392, 394, 396, 398, 400, 402, 404] : List Nat).getD k 0) (u_lay RX4 TX4 k)) = true := by decide +kernel
  intro w hw
  obtain ⟨k, hk, rfl⟩ := List.mem_map.mp hw
  exact inT_mem (List.all_eq_true.mp h k hk)
set_option maxRecDepth 100000 in
theorem inI4 : inT 259 (.instantiable RX4 17) = true := by decide +kernel
set_option maxRecDepth 100000 in
theorem inN4 : inT 120 (.initialized RX4) = true := by decide +kernel
set_option maxRecDepth 100000 in
theorem inX5 : ∀ w ∈ u_ws RX5 TX5 14, w ∈ ssTbl := by
  have h : (List.range 14).all (fun k => inT (([226, 228, 230, 232, 234, 236, 238, 240, 242, 244, 246, 248, 250, 252] : List Nat).getD k 0) (u_lay RX5 TX5 k)) = true := by decide +kernel
  intro w hw
  obtain ⟨k, hk, rfl⟩ := List.mem_map.mp hw
  exact inT_mem (List.all_eq_true.mp h k hk)
set_option maxRecDepth 100000 in
theorem inI5 : inT 150 (.instantiable RX5 14) = true := by decide +kernel
set_option maxRecDepth 100000 in
theorem inN5 : inT 115 (.initialized RX5) = true := by decide +kernel
set_option maxRecDepth 100000 in
theorem inX6 : ∀ w ∈ u_ws RX6 TX6 1, w ∈ ssTbl := by
  have h : (List.range 1).all (fun k => inT (([478] : List Nat).getD k 0) (u_lay RX6 TX6 k)) = true := by decide +kernel
  intro w hw
  obtain ⟨k, hk, rfl⟩ := List.mem_map.mp hw
  exact inT_mem (List.all_eq_true.mp h k hk)
set_option maxRecDepth 100000 in
theorem inI6 : inT 469 (.instantiable RX6 1) = true := by decide +kernel
set_option maxRecDepth 100000 in
theorem inN6 : inT 123 (.initialized RX6) = true := by decide +kernel
set_option maxRecDepth 100000 in
theorem inX7 : ∀ w ∈ u_ws RX7 TX7 3, w ∈ ssTbl := by
  have h : (List.range 3).all (fun k => inT (([461, 463, 465] : List Nat).getD k 0) (u_lay RX7 TX7 k)) = true := by decide +kernel
  intro w hw
  obtain ⟨k, hk, rfl⟩ := List.mem_map.mp hw
  exact inT_mem (List.all_eq_true.mp h k hk)
set_option maxRecDepth 100000 in
theorem inI7 : inT 449 (.instantiable RX7 3) = true := by decide +kernel
set_option maxRecDepth 100000 in
theorem inN7 : inT 122 (.initialized RX7) = true := by decide +kernel
set_option maxRecDepth 100000 in
theorem inX8 : ∀ w ∈ u_ws RX8 TX8 12, w ∈ ssTbl := by
  have h : (List.range 12).all (fun k => inT (([553, 555, 557, 559, 561, 563, 565, 567, 569, 571, 573, 575] : List Nat).getD k 0) (u_lay RX8 TX8 k)) = true := by decide +kernel
  intro w hw
  obtain ⟨k, hk, rfl⟩ := List.mem_map.mp hw
  exact inT_mem (List.all_eq_true.mp h k hk)
set_option maxRecDepth 100000 in
theorem inI8 : inT 136 (.instantiable RX8 12) = true := by decide +kernel
set_option maxRecDepth 100000 in
theorem inN8 : inT 113 (.initialized RX8) = true := by decide +kernel
set_option maxRecDepth 100000 in
theorem inX9 : ∀ w ∈ u_ws RX9 TX9 24, w ∈ ssTbl := by
  have h : (List.range 24).all (fun k => inT (([1407, 1409, 1411, 1413, 1415, 1417, 1419, 1421, 1423, 1425, 1427, 1429, 1431, 1433, 1435, 1437, 1439, 1441, 1443, 1445, 1447, 1449, 1451, 1453] : List Nat).getD k 0) (u_lay RX9 TX9 k)) = true := by decide +kernel
  intro w hw
  obtain ⟨k, hk, rfl⟩ := List.mem_map.mp hw
  exact inT_mem (List.all_eq_true.mp h k hk)
set_option maxRecDepth 100000 in
theorem inI9 : inT 1363 (.instantiable RX9 24) = true := by decide +kernel
set_option maxRecDepth 100000 in
theorem inN9 : inT 129 (.initialized RX9) = true := by decide +kernel
set_option maxRecDepth 100000 in
theorem inX10 : ∀ w ∈ u_ws RX10 TX10 29, w ∈ ssTbl := by
  have h : (List.range 29).all (fun k => inT (([1287, 1289, 1291, 1293, 1295, 1297, 1299, 1301, 1303, 1305, 1307, 1309, 1311, 1313, 1315, 1317, 1319, 1321, 1323, 1325, 1327, 1329, 1331, 1333, 1335, 1337, 1339, 1341, 1343] : List Nat).getD k 0) (u_lay RX10 TX10 k)) = true := by decide +kernel
  intro w hw
  obtain ⟨k, hk, rfl⟩ := List.mem_map.mp hw
  exact inT_mem (List.all_eq_true.mp h k hk)
set_option maxRecDepth 100000 in
theorem inI10 : inT 1253 (.instantiable RX10 29) = true := by decide +kernel
set_option maxRecDepth 100000 in
theorem inN10 : inT 126 (.initialized RX10) = true := by decide +kernel
theorem ss_cls : ∀ (ci : Nat) (r : vw_C), vwCl[ci]? = some r → (∀ w ∈ u_ws r.1 r.2.1 r.2.2, w ∈ ssTbl) ∧ (∀ k, k < r.2.2 → parseFieldDescriptor (r.2.1 k).2.2.1 = some (tyOf ci k)) ∧ (∀ a, a < r.2.2 → ∀ b, b < r.2.2 → a ≠ b → (r.2.1 a).2.1 ≠ (r.2.1 b).2.1) ∧ Cond.instantiable r.1 r.2.2 ∈ ssTbl ∧ Cond.initialized r.1 ∈ ssTbl := by
  intro ci r h
  match ci, h with
  | 0, h => cases h; exact ⟨inX0, tyX0_ok, nmX0, inT_mem inI0, inT_mem inN0⟩
  | 1, h => cases h; exact ⟨inX1, tyX1_ok, nmX1, inT_mem inI1, inT_mem inN1⟩
  | 2, h => cases h; exact ⟨inX2, tyX2_ok, nmX2, inT_mem inI2, inT_mem inN2⟩
  | 3, h => cases h; exact ⟨inX3, tyX3_ok, nmX3, inT_mem inI3, inT_mem inN3⟩
  | 4, h => cases h; exact ⟨inX4, tyX4_ok, nmX4, inT_mem inI4, inT_mem inN4⟩
  | 5, h => cases h; exact ⟨inX5, tyX5_ok, nmX5, inT_mem inI5, inT_mem inN5⟩
  | 6, h => cases h; exact ⟨inX6, tyX6_ok, nmX6, inT_mem inI6, inT_mem inN6⟩
  | 7, h => cases h; exact ⟨inX7, tyX7_ok, nmX7, inT_mem inI7, inT_mem inN7⟩
  | 8, h => cases h; exact ⟨inX8, tyX8_ok, nmX8, inT_mem inI8, inT_mem inN8⟩
  | 9, h => cases h; exact ⟨inX9, tyX9_ok, nmX9, inT_mem inI9, inT_mem inN9⟩
  | 10, h => cases h; exact ⟨inX10, tyX10_ok, nmX10, inT_mem inI10, inT_mem inN10⟩
  | n + 11, h => simp [vwCl] at h
set_option maxRecDepth 100000 in
theorem inAI : inT 256 (.arrayClass .int) = true := by decide +kernel
set_option maxRecDepth 100000 in
theorem inAB : inT 255 (.arrayClass .byte) = true := by decide +kernel
set_option maxRecDepth 100000 in
theorem inAJ : inT 257 (.arrayClass .long) = true := by decide +kernel
set_option maxRecDepth 100000 in
theorem inOI : inT 141 (.instanceMethod objectInit) = true := by decide +kernel
set_option maxRecDepth 100000 in
theorem inOC : inT 142 (.code objectInit ⟨#[0xb1]⟩ 1 none) = true := by decide +kernel
set_option maxRecDepth 100000 in
theorem inMS : inT 765 (.static Lib.Math.max.name) = true := by decide +kernel
set_option maxRecDepth 100000 in
theorem inMI : inT 127 (.initialized "java/lang/Math") = true := by decide +kernel
set_option maxRecDepth 100000 in
theorem inMC : inT 766 (.code Lib.Math.max.name Lib.Math.max.code 2 (some .int)) = true := by decide +kernel
set_option maxRecDepth 100000 in
theorem inmS : inT 610 (.static Lib.Math.min.name) = true := by decide +kernel
set_option maxRecDepth 100000 in
theorem inmC : inT 611 (.code Lib.Math.min.name Lib.Math.min.code 2 (some .int)) = true := by decide +kernel
set_option maxRecDepth 100000 in
theorem inCN : inT 723 (.native arraycopyName) = true := by decide +kernel
set_option maxRecDepth 100000 in
theorem inCS : inT 722 (.static arraycopyName) = true := by decide +kernel
set_option maxRecDepth 100000 in
theorem inCI : inT 128 (.initialized "java/lang/System") = true := by decide +kernel
