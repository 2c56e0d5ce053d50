def mJ0_coder_7d493 : ssM := (13, yJ0_coder_7d493, cJ0_coder_7d493, 1, (some .byte), [163, 161, 162, 116, 0, 0, 293, 0], [
  (0, .getstatic 38, 3, [], .null),
  (3, .ifCond .eq 10, 3, [13], .null),
  (6, .aload_n 0, 1, [], .null),
  (7, .getfield 15, 3, [], .null),
  (10, .goto 4, 3, [14], .null),
  (13, .iconst 1, 1, [], .int (zI 1)),
  (14, .ireturn, 1, [], .null)])
set_option maxRecDepth 100000 in
theorem okJ0_coder_7d493 : ssOk mJ0_coder_7d493 = true := by decide +kernel
set_option maxRecDepth 100000 in
theorem caJ0_coder_7d493 : ssCa mJ0_coder_7d493 = true := by decide +kernel
def mJ0_length_8abf5 : ssM := (13, yJ0_length_8abf5, cJ0_length_8abf5, 1, (some .int), [159, 157, 158, 116, 0, 0, 286, 0], [
  (0, .aload_n 0, 1, [], .null),
  (1, .getfield 9, 3, [], .null),
  (4, .arraylength, 1, [], .null),
  (5, .aload_n 0, 1, [], .null),
  (6, .invokevirtual 335, 3, [293, 160, 0], .null),
  (9, .ishr, 1, [], .null),
  (10, .ireturn, 1, [], .null)])
set_option maxRecDepth 100000 in
theorem okJ0_length_8abf5 : ssOk mJ0_length_8abf5 = true := by decide +kernel
set_option maxRecDepth 100000 in
theorem caJ0_length_8abf5 : ssCa mJ0_length_8abf5 = true := by decide +kernel
def mJ0_isLatin1_aae02 : ssM := (13, yJ0_isLatin1_aae02, cJ0_isLatin1_aae02, 1, (some .boolean), [173, 171, 172, 116, 0, 0, 294, 0], [
  (0, .getstatic 38, 3, [], .null),
  (3, .ifCond .eq 14, 3, [17], .null),
  (6, .aload_n 0, 1, [], .null),
  (7, .getfield 15, 3, [], .null),
  (10, .ifCond .ne 7, 3, [17], .null),
  (13, .iconst 1, 1, [], .int (zI 1)),
  (14, .goto 4, 3, [18], .null),
  (17, .iconst 0, 1, [], .int (zI 0)),
  (18, .ireturn, 1, [], .null)])
set_option maxRecDepth 100000 in
theorem okJ0_isLatin1_aae02 : ssOk mJ0_isLatin1_aae02 = true := by decide +kernel
set_option maxRecDepth 100000 in
theorem caJ0_isLatin1_aae02 : ssCa mJ0_isLatin1_aae02 = true := by decide +kernel
def mJ3_checkIndex_8e157 : ssM := (15, yJ3_checkIndex_8e157, cJ3_checkIndex_8e157, 3, (some .int), [184, 183, 0, 118, 1, 3, 297, 0], [
  (0, .iload_n 0, 1, [], .null),
  (1, .ifCond .lt 8, 3, [9], .null),
  (4, .iload_n 0, 1, [], .null),
  (5, .iload_n 1, 1, [], .null),
  (6, .if_icmp .lt 10, 3, [16], .null),
  (9, .aload_n 2, 1, [], .null),
  (10, .iload_n 0, 1, [], .null),
  (11, .iload_n 1, 1, [], .null),
  (12, .invokestatic 95, 3, [], .null),
  (15, .athrow, 1, [], .null),
  (16, .iload_n 0, 1, [], .null),
  (17, .ireturn, 1, [], .null)])
set_option maxRecDepth 100000 in
theorem okJ3_checkIndex_8e157 : ssOk mJ3_checkIndex_8e157 = true := by decide +kernel
set_option maxRecDepth 100000 in
theorem caJ3_checkIndex_8e157 : ssCa mJ3_checkIndex_8e157 = true := by decide +kernel
def mJ0_checkIndex_df160 : ssM := (13, yJ0_checkIndex_df160, cJ0_checkIndex_df160, 2, none, [179, 178, 0, 116, 1, 2, 296, 0], [
  (0, .iload_n 0, 1, [], .null),
  (1, .iload_n 1, 1, [], .null),
  (2, .getstatic 1053, 3, [], .null),
  (5, .invokestatic 1059, 3, [297, 182, 0], .null),
  (8, .pop, 1, [], .null),
  (9, .return_, 1, [], .null)])
set_option maxRecDepth 100000 in
theorem okJ0_checkIndex_df160 : ssOk mJ0_checkIndex_df160 = true := by decide +kernel
set_option maxRecDepth 100000 in
theorem caJ0_checkIndex_df160 : ssCa mJ0_checkIndex_df160 = true := by decide +kernel
def mJ1_charAt_3b067 : ssM := (14, yJ1_charAt_3b067, cJ1_charAt_3b067, 2, (some .char), [176, 175, 0, 117, 1, 2, 295, 0], [
  (0, .iload_n 1, 1, [], .null),
  (1, .aload_n 0, 1, [], .null),
  (2, .arraylength, 1, [], .null),
  (3, .invokestatic 9, 3, [296, 177, 0], .null),
  (6, .aload_n 0, 1, [], .null),
  (7, .iload_n 1, 1, [], .null),
  (8, .baload, 1, [], .null),
  (9, .sipush 255, 3, [], .int (zI 255)),
  (12, .iand, 1, [], .null),
  (13, .i2c, 1, [], .null),
  (14, .ireturn, 1, [], .null)])
set_option maxRecDepth 100000 in
theorem okJ1_charAt_3b067 : ssOk mJ1_charAt_3b067 = true := by decide +kernel
set_option maxRecDepth 100000 in
theorem caJ1_charAt_3b067 : ssCa mJ1_charAt_3b067 = true := by decide +kernel
def mJ0_charAt_5068e : ssM := (13, yJ0_charAt_5068e, cJ0_charAt_5068e, 2, (some .char), [169, 167, 168, 116, 0, 1, 287, 0], [
  (0, .aload_n 0, 1, [], .null),
  (1, .invokevirtual 492, 3, [294, 170, 0], .null),
  (4, .ifCond .eq 12, 3, [16], .null),
  (7, .aload_n 0, 1, [], .null),
  (8, .getfield 9, 3, [], .null),
  (11, .iload_n 1, 1, [], .null),
  (12, .invokestatic 495, 3, [295, 174, 0], .null),
  (15, .ireturn, 1, [], .null),
  (16, .aload_n 0, 1, [], .null),
  (17, .getfield 9, 3, [], .null),
  (20, .iload_n 1, 1, [], .null),
  (21, .invokestatic 498, 3, [], .null),
  (24, .ireturn, 1, [], .null)])
set_option maxRecDepth 100000 in
theorem okJ0_charAt_5068e : ssOk mJ0_charAt_5068e = true := by decide +kernel
set_option maxRecDepth 100000 in
theorem caJ0_charAt_5068e : ssCa mJ0_charAt_5068e = true := by decide +kernel
section SSTR
variable {G : ssG} {M My : ssM} {D D1 mc ms mc1 ms1 : Nat} {Q Q1 : Option Value → ssH → Prop} {pc : Nat} {ls : List (Option Value)} {st As rest : List Value} {h : ssH} {v0 : Value} {r0 : List Nat} {i j n pl : Nat}
theorem v_strV (hj : j < 22) (hl : ssLk M pc = some (.getfield i, 3, r0, v0)) (hk : inT pl (.fieldLink (ssY M).cls i "java/lang/String" "value" "[B") = true) (kk : ssV G M D mc ms Q (pc + 3) ls (.ref (gV G j) :: st) h) : ssV G M D mc ms Q pc ls (.ref (gK G j) :: st) h := by
  intro p e s m args below meth c R H locs cells slots MC MS la hC hR hW hS hL
  have hok := hC.2.2.2.2.2.2.2.2.2.2.2
  have hX := hC.2.2.2.2.2.2.2.2.2.1
  have hts := hC.2.2.2.2.2.1
  exact vk_getf hC.1 hC.2.1 (hX.1.1 j hj).2.2.1 hS hC.2.2.2.2.1 (hts _ (inT_mem hk)) (fun _ q => q) (ssLk_ok hok hl).1 (kk p e s m args below meth c R H locs cells slots MC MS la hC hR hW hS hL)
theorem v_strC (hj : j < 22) (hl : ssLk M pc = some (.getfield i, 3, r0, v0)) (hk : inT pl (.fieldLink (ssY M).cls i "java/lang/String" "coder" "B") = true) (kk : ssV G M D mc ms Q (pc + 3) ls (.int (zI 0) :: st) h) : ssV G M D mc ms Q pc ls (.ref (gK G j) :: st) h := by
  intro p e s m args below meth c R H locs cells slots MC MS la hC hR hW hS hL
  have hok := hC.2.2.2.2.2.2.2.2.2.2.2
  have hX := hC.2.2.2.2.2.2.2.2.2.1
  have hts := hC.2.2.2.2.2.1
  exact vk_getf hC.1 hC.2.1 (hX.1.1 j hj).2.1 hS hC.2.2.2.2.1 (hts _ (inT_mem hk)) (fun _ q => q) (ssLk_ok hok hl).1 (kk p e s m args below meth c R H locs cells slots MC MS la hC hR hW hS hL)
theorem v_strK (hl : ssLk M pc = some (.getstatic i, 3, r0, v0)) (hk : inT pl (.fieldLink (ssY M).cls i "java/lang/String" "COMPACT_STRINGS" "Z") = true) (kk : ssV G M D mc ms Q (pc + 3) ls (.int (zI 1) :: st) h) : ssV G M D mc ms Q pc ls st h := by
  intro p e s m args below meth c R H locs cells slots MC MS la hC hR hW hS hL
  have hok := hC.2.2.2.2.2.2.2.2.2.2.2
  have hX := hC.2.2.2.2.2.2.2.2.2.1
  have hts := hC.2.2.2.2.2.1
  exact va_gets hC.1 hC.2.1 hX.2.2.1.1 hS hC.2.2.2.2.1 (hts _ (inT_mem hk)) (fun _ q => q) (ssLk_ok hok hl).1 (kk p e s m args below meth c R H locs cells slots MC MS la hC hR hW hS hL)
theorem v_strF (hl : ssLk M pc = some (.getstatic i, 3, r0, v0)) (hk : inT pl (.fieldLink (ssY M).cls i "jdk/internal/util/Preconditions" "SIOOBE_FORMATTER" "Ljava/util/function/BiFunction;") = true) (k1 : ssV G M D mc ms Q (pc + 3) ls (.null :: st) h) (k2 : ∀ t : Nat, ssV G M D mc ms Q (pc + 3) ls (.ref t :: st) h) : ssV G M D mc ms Q pc ls st h := by
  intro p e s m args below meth c R H locs cells slots MC MS la hC hR hW hS hL
  have hok := hC.2.2.2.2.2.2.2.2.2.2.2
  have hX := hC.2.2.2.2.2.2.2.2.2.1
  have hts := hC.2.2.2.2.2.1
  rcases hX.2.2.1.2.1 with hz | ⟨t, hz⟩
  · exact va_gets hC.1 hC.2.1 hz hS hC.2.2.2.2.1 (hts _ (inT_mem hk)) (fun _ q => q) (ssLk_ok hok hl).1 (k1 p e s m args below meth c R H locs cells slots MC MS la hC hR hW hS hL)
  · exact va_gets hC.1 hC.2.1 hz hS hC.2.2.2.2.1 (hts _ (inT_mem hk)) (fun _ q => q) (ssLk_ok hok hl).1 (k2 t p e s m args below meth c R H locs cells slots MC MS la hC hR hW hS hL)
theorem v_strL (hj : j < 22) (hl : ssLk M pc = some (.arraylength, 1, r0, v0)) (kk : ssV G M D mc ms Q (pc + 1) ls (.int (zI ↑(ssSl.getD j 0)) :: st) h) : ssV G M D mc ms Q pc ls (.ref (gV G j) :: st) h := by
  intro p e s m args below meth c R H locs cells slots MC MS la hC hR hW hS hL
  have hok := hC.2.2.2.2.2.2.2.2.2.2.2
  have hX := hC.2.2.2.2.2.2.2.2.2.1
  exact va_tlen hC.1 hC.2.1 (hX.1.1 j hj).2.2.2 hS (by rw [← nI_zI]; rfl) (ssLk_ok hok hl).1 (kk p e s m args below meth c R H locs cells slots MC MS la hC hR hW hS hL)
theorem v_strB {k : Nat} (hj : j < 22) (hk : k < ssSl.getD j 0) (hk2 : ssSl.getD j 0 < 1000) (hl : ssLk M pc = some (.baload, 1, r0, v0)) (kk : ssV G M D mc ms Q (pc + 1) ls (.int ((ssSb.getD j []).getD k 0) :: st) h) : ssV G M D mc ms Q pc ls (.int (zI ↑k) :: .ref (gV G j) :: st) h := by
  intro p e s m args below meth c R H locs cells slots MC MS la hC hR hW hS hL
  have hok := hC.2.2.2.2.2.2.2.2.2.2.2
  have hX := hC.2.2.2.2.2.2.2.2.2.1
  exact va_tb hC.1 hC.2.1 (hX.1.1 j hj).2.2.2 hS (zI_in hk (by omega)) (by rw [zI_clamp (by omega)]) (ssLk_ok hok hl).1 (kk p e s m args below meth c R H locs cells slots MC MS la hC hR hW hS hL)
theorem v_i2c {x : Int32} (hl : ssLk M pc = some (.i2c, 1, r0, v0)) (kk : ssV G M D mc ms Q (pc + 1) ls (.int (x.toUInt32 % 65536).toInt32 :: st) h) : ssV G M D mc ms Q pc ls (.int x :: st) h := by
  intro p e s m args below meth c R H locs cells slots MC MS la hC hR hW hS hL
  have hok := hC.2.2.2.2.2.2.2.2.2.2.2
  exact lv_i2c hC.1 hC.2.1 (ssLk_ok hok hl).1 rfl (kk p e s m args below meth c R H locs cells slots MC MS la hC hR hW hS hL)
theorem v_callT (hj : j < 22) (hl : ssLk M pc = some (.invokevirtual i, 3, [n, pl, 0], v0)) (hca : ssCa My = true) (hmn : ssPl My 6 = n) (h40 : ssPl My 4 = 0) (hni : ssPl My 7 = 0) (hrc : (ssY My).cls = "java/lang/String") (hc : ssC G My D1 mc1 ms1 (.ref (gK G j) :: As) h Q1) (hAs : ssPl My 5 = As.length) (hst : st = As.reverse ++ .ref (gK G j) :: rest) (hcat : (rest.map fun v => v.category).sum ≤ 8) (hD : D1 + 1 ≤ D)
    (kk : ∀ r h', Q1 r h' → ssV G M D mc ms Q (pc + 3) ls (r.toList ++ rest) h') : ssV G M D (mc1 + mc) (ms1 + ms) Q pc ls st h := by
  intro p e s m args below meth c R H locs cells slots MC MS la hC hR hW hS hL
  subst hst
  have hok := hC.2.2.2.2.2.2.2.2.2.2.2
  have hX := hC.2.2.2.2.2.2.2.2.2.1
  have hts := hC.2.2.2.2.2.1
  have hK := hC.2.2.2.2.2.2.2.2.1
  have hz := hC.2.2.2.2.2.2.2.2.2.2.1
  obtain ⟨hd, h2⟩ := ssLk_ok hok hl
  obtain ⟨k1, k2, k3, k4, k5, k6, k7, k8, -, k10⟩ := ssCa_ok hca
  obtain ⟨k11, -, k12⟩ := k10 h40
  have k13 := k12 hni
  have e1 : ssMN.getD n Lib.objectInit = ssY My := by rw [List.getD_eq_getElem?_getD, ← hmn, k7]; rfl
  simp only [chk2, e1] at h2
  have hrecv : ∃ cell : Cell, H[gK G j]? = some cell ∧ cell.vm.isStatics = false ∧ s.vm.findClass (ssY My).cls = some cell.cls := by
    rw [hrc]
    exact vk_recv hX.1 hj hS
  refine ss_cont (rest := rest) (va_runV (Ts := ssTbl) (own := (ssY M).cls) (nL := ssML M) (As := As) (rest := rest) (n := As.length) ⟨hC.1, hC.2.1, hC.2.2.2.1, hC.2.2.2.2.1, hts⟩ hc
    (cwV As.length hts (good_all (fun w hw => by
      simp only [wsV, List.mem_append, List.mem_cons, List.not_mem_nil, or_false] at hw
      rcases hw with (rfl | rfl | rfl | rfl) | hw
      · exact inT_mem h2
      · exact k11
      · exact k13
      · exact k2
      · exact hw.elim (fun q => q ▸ k1) id)) rfl rfl rfl ⟨rfl, k4, k5, hAs ▸ k8⟩ ⟨Nat.le_trans hD hR.1, ?_⟩)
    ⟨ssP_blind G _ h, hrecv, fun U hU hWm => ⟨rfl, by rw [hU]; exact Nat.le_trans hz hS.1, by rw [hU]; exact hW, va_K.moved hWm.alike hK, by rw [hU]; exact (hX.kept (fun q q1 q2 => hS.2.1 q q1 q2)).warm hWm⟩⟩
    rfl rfl hL.1 rfl (lv_room hcat) hd ⟨by omega, by omega⟩) hS (fun r h' H1 locs1 q1 q2 q3 => kk r h' q1 p e s m args below meth c R H1 locs1 _ _ MC MS la hC ⟨hR.1, hR.2.1, by omega, hR.2.2.2.1, by omega, hR.2.2.2.2.2⟩ q2 q3 hL)
  have := hR.2.1
  show 8 + (ssML My + 11) + 64 * D1 ≤ R.locals
  omega
end SSTR
theorem chS_ok : ∀ j : Fin 22, ssSl.getD j.val 0 ≤ 114 ∧ ∀ k : Fin 114, (((ssSb.getD j.val []).getD k.val 0 &&& zI 255).toUInt32 % 65536).toInt32 = (ssSb.getD j.val []).getD k.val 0 ∧ narrow .char (.int ((ssSb.getD j.val []).getD k.val 0)) = .int ((ssSb.getD j.val []).getD k.val 0) := by decide +kernel
set_option maxRecDepth 100000 in
set_option maxHeartbeats 400000 in
theorem s_coder (G : ssG) (h : ssH) {j : Nat} (hj : j < 22) : ssC G mJ0_coder_7d493 0 0 0 [.ref (gK G j)] h (rI (zI 0) h) := by
  refine c_of_v okJ0_coder_7d493 (by decide +kernel) (ls := [some (.ref (gK G j))]) rfl (Nat.le_of_ble_eq_true rfl) ?_
  refine v_strK (pl := 164) rfl (by decide +kernel) ?_
  refine v_if_eq rfl (fun c => absurd c (by decide)) (fun _ => ?_)
  refine v_run 1 (pc' := 7) (ls' := [some (.ref (gK G j))]) (st' := [.ref (gK G j)]) rfl ?_
  refine v_strC (pl := 1996) hj rfl (by decide +kernel) ?_
  refine v_run 1 (pc' := 14) (ls' := [some (.ref (gK G j))]) (st' := [.int (zI 0)]) rfl ?_
  exact v_iret rfl rfl rfl ⟨rfl, rfl⟩
set_option maxRecDepth 100000 in
set_option maxHeartbeats 400000 in
theorem s_length (G : ssG) (h : ssH) {j : Nat} (hj : j < 22) : ssC G mJ0_length_8abf5 1 0 0 [.ref (gK G j)] h (rI (zI ↑(ssSl.getD j 0)) h) := by
  refine c_of_v okJ0_length_8abf5 (by decide +kernel) (ls := [some (.ref (gK G j))]) rfl (Nat.le_of_ble_eq_true rfl) ?_
  have hb := (chS_ok ⟨j, hj⟩).1
  simp only at hb
  refine v_run 1 (pc' := 1) (ls' := [some (.ref (gK G j))]) (st' := [.ref (gK G j)]) rfl ?_
  refine v_strV (pl := 1995) hj rfl (by decide +kernel) ?_
  refine v_strL hj rfl ?_
  refine v_run 1 (pc' := 6) (ls' := [some (.ref (gK G j))]) (st' := [.ref (gK G j), .int (zI ↑(ssSl.getD j 0))]) rfl ?_
  refine v_callT (My := mJ0_coder_7d493) (As := []) (rest := [.int (zI ↑(ssSl.getD j 0))]) (mc := 0) (ms := 0) hj rfl caJ0_coder_7d493 rfl rfl rfl rfl (s_coder G h hj) rfl rfl (Nat.le_of_ble_eq_true rfl) (by omega) ?_
  rintro _ _ ⟨rfl, rfl⟩
  refine v_run 1 (pc' := 10) (ls' := [some (.ref (gK G j))]) (st' := [.int ((zI ↑(ssSl.getD j 0)) >>> ((zI 0) &&& 31))]) rfl ?_
  rw [show (zI ↑(ssSl.getD j 0)) >>> ((zI 0) &&& 31) = zI ↑(ssSl.getD j 0) from (zI_shr (k := 0) (by omega) (by omega)).trans (by simp)]
  exact v_iret rfl rfl rfl ⟨rfl, rfl⟩
set_option maxRecDepth 100000 in
set_option maxHeartbeats 400000 in
theorem s_latin (G : ssG) (h : ssH) {j : Nat} (hj : j < 22) : ssC G mJ0_isLatin1_aae02 0 0 0 [.ref (gK G j)] h (rI (zI 1) h) := by
  refine c_of_v okJ0_isLatin1_aae02 (by decide +kernel) (ls := [some (.ref (gK G j))]) rfl (Nat.le_of_ble_eq_true rfl) ?_
  refine v_strK (pl := 164) rfl (by decide +kernel) ?_
  refine v_if_eq rfl (fun c => absurd c (by decide)) (fun _ => ?_)
  refine v_run 1 (pc' := 7) (ls' := [some (.ref (gK G j))]) (st' := [.ref (gK G j)]) rfl ?_
  refine v_strC (pl := 1996) hj rfl (by decide +kernel) ?_
  refine v_if_ne rfl (fun c => absurd rfl c) (fun _ => ?_)
  refine v_run 2 (pc' := 18) (ls' := [some (.ref (gK G j))]) (st' := [.int (zI 1)]) rfl ?_
  exact v_iret rfl rfl rfl ⟨rfl, rfl⟩
set_option maxRecDepth 100000 in
set_option maxHeartbeats 400000 in
theorem s_chk3n (G : ssG) (h : ssH)  {k n : Nat} (hk : k < n) (hn : n < 1000) : ssC G mJ3_checkIndex_8e157 0 0 0 [.int (zI ↑k), .int (zI ↑n), .null] h (rI (zI ↑k) h) := by
  refine c_of_v okJ3_checkIndex_8e157 (by decide +kernel) (ls := [some (.int (zI ↑k)), some (.int (zI ↑n)), some (.null)]) rfl (Nat.le_of_ble_eq_true rfl) ?_
  refine v_run 1 (pc' := 1) (ls' := [some (.int (zI ↑k)), some (.int (zI ↑n)), some (.null)]) (st' := [.int (zI ↑k)]) rfl ?_
  refine v_if_lt rfl (fun c => ?_) (fun _ => ?_)
  · exfalso; revert c; simp (disch := omega) only [zI_lt0] <;> omega
  · refine v_run 2 (pc' := 6) (ls' := [some (.int (zI ↑k)), some (.int (zI ↑n)), some (.null)]) (st' := [.int (zI ↑n), .int (zI ↑k)]) rfl ?_
    refine v_icmp_lt rfl (fun _ => ?_) (fun c => ?_)
    · refine v_run 1 (pc' := 17) (ls' := [some (.int (zI ↑k)), some (.int (zI ↑n)), some (.null)]) (st' := [.int (zI ↑k)]) rfl ?_
      exact v_iret rfl rfl rfl ⟨rfl, rfl⟩
    · exfalso; revert c; simp (disch := omega) only [zI_lt] <;> omega
set_option maxRecDepth 100000 in
set_option maxHeartbeats 400000 in
theorem s_chk3r (G : ssG) (h : ssH) {t : Nat} {k n : Nat} (hk : k < n) (hn : n < 1000) : ssC G mJ3_checkIndex_8e157 0 0 0 [.int (zI ↑k), .int (zI ↑n), .ref t] h (rI (zI ↑k) h) := by
  refine c_of_v okJ3_checkIndex_8e157 (by decide +kernel) (ls := [some (.int (zI ↑k)), some (.int (zI ↑n)), some (.ref t)]) rfl (Nat.le_of_ble_eq_true rfl) ?_
  refine v_run 1 (pc' := 1) (ls' := [some (.int (zI ↑k)), some (.int (zI ↑n)), some (.ref t)]) (st' := [.int (zI ↑k)]) rfl ?_
  refine v_if_lt rfl (fun c => ?_) (fun _ => ?_)
  · exfalso; revert c; simp (disch := omega) only [zI_lt0] <;> omega
  · refine v_run 2 (pc' := 6) (ls' := [some (.int (zI ↑k)), some (.int (zI ↑n)), some (.ref t)]) (st' := [.int (zI ↑n), .int (zI ↑k)]) rfl ?_
    refine v_icmp_lt rfl (fun _ => ?_) (fun c => ?_)
    · refine v_run 1 (pc' := 17) (ls' := [some (.int (zI ↑k)), some (.int (zI ↑n)), some (.ref t)]) (st' := [.int (zI ↑k)]) rfl ?_
      exact v_iret rfl rfl rfl ⟨rfl, rfl⟩
    · exfalso; revert c; simp (disch := omega) only [zI_lt] <;> omega
set_option maxRecDepth 100000 in
set_option maxHeartbeats 400000 in
theorem s_chk (G : ssG) (h : ssH) {k n : Nat} (hk : k < n) (hn : n < 1000) : ssC G mJ0_checkIndex_df160 1 0 0 [.int (zI ↑k), .int (zI ↑n)] h (rV h) := by
  refine c_of_v okJ0_checkIndex_df160 (by decide +kernel) (ls := [some (.int (zI ↑k)), some (.int (zI ↑n))]) rfl (Nat.le_of_ble_eq_true rfl) ?_
  refine v_run 2 (pc' := 2) (ls' := [some (.int (zI ↑k)), some (.int (zI ↑n))]) (st' := [.int (zI ↑n), .int (zI ↑k)]) rfl ?_
  refine v_strF (pl := 180) rfl (by decide +kernel) ?_ (fun t => ?_)
  · refine v_callS (My := mJ3_checkIndex_8e157) (As := [.int (zI ↑k), .int (zI ↑n), .null]) (rest := []) (mc := 0) (ms := 0) rfl caJ3_checkIndex_8e157 rfl rfl (s_chk3n G h hk hn) rfl rfl (Nat.le_of_ble_eq_true rfl) (by omega) ?_
    rintro _ _ ⟨rfl, rfl⟩
    refine v_run 1 (pc' := 9) (ls' := [some (.int (zI ↑k)), some (.int (zI ↑n))]) (st' := []) rfl ?_
    exact v_vret rfl rfl ⟨rfl, rfl⟩
  · refine v_callS (My := mJ3_checkIndex_8e157) (As := [.int (zI ↑k), .int (zI ↑n), .ref t]) (rest := []) (mc := 0) (ms := 0) rfl caJ3_checkIndex_8e157 rfl rfl (s_chk3r G h hk hn) rfl rfl (Nat.le_of_ble_eq_true rfl) (by omega) ?_
    rintro _ _ ⟨rfl, rfl⟩
    refine v_run 1 (pc' := 9) (ls' := [some (.int (zI ↑k)), some (.int (zI ↑n))]) (st' := []) rfl ?_
    exact v_vret rfl rfl ⟨rfl, rfl⟩
set_option maxRecDepth 100000 in
set_option maxHeartbeats 400000 in
theorem s_char1 (G : ssG) (h : ssH) {j k : Nat} (hj : j < 22) (hk : k < ssSl.getD j 0) : ssC G mJ1_charAt_3b067 2 0 0 [.ref (gV G j), .int (zI ↑k)] h (rI ((ssSb.getD j []).getD k 0) h) := by
  refine c_of_v okJ1_charAt_3b067 (by decide +kernel) (ls := [some (.ref (gV G j)), some (.int (zI ↑k))]) rfl (Nat.le_of_ble_eq_true rfl) ?_
  have hb := (chS_ok ⟨j, hj⟩).1
  simp only at hb
  have hc := (chS_ok ⟨j, hj⟩).2 ⟨k, by omega⟩
  simp only at hc
  refine v_run 2 (pc' := 2) (ls' := [some (.ref (gV G j)), some (.int (zI ↑k))]) (st' := [.ref (gV G j), .int (zI ↑k)]) rfl ?_
  refine v_strL hj rfl ?_
  refine v_callS (My := mJ0_checkIndex_df160) (As := [.int (zI ↑k), .int (zI ↑(ssSl.getD j 0))]) (rest := []) (mc := 0) (ms := 0) rfl caJ0_checkIndex_df160 rfl rfl (s_chk G h hk (by omega)) rfl rfl (Nat.le_of_ble_eq_true rfl) (by omega) ?_
  rintro _ _ ⟨rfl, rfl⟩
  refine v_run 2 (pc' := 8) (ls' := [some (.ref (gV G j)), some (.int (zI ↑k))]) (st' := [.int (zI ↑k), .ref (gV G j)]) rfl ?_
  refine v_strB hj hk (by omega) rfl ?_
  refine v_run 2 (pc' := 13) (ls' := [some (.ref (gV G j)), some (.int (zI ↑k))]) (st' := [.int ((ssSb.getD j []).getD k 0 &&& zI 255)]) rfl ?_
  refine v_i2c rfl ?_
  rw [hc.1]
  exact v_iret rfl rfl hc.2 ⟨rfl, rfl⟩
set_option maxRecDepth 100000 in
set_option maxHeartbeats 400000 in
theorem s_charAt (G : ssG) (h : ssH) {j k : Nat} (hj : j < 22) (hk : k < ssSl.getD j 0) : ssC G mJ0_charAt_5068e 3 0 0 [.ref (gK G j), .int (zI ↑k)] h (rI ((ssSb.getD j []).getD k 0) h) := by
  refine c_of_v okJ0_charAt_5068e (by decide +kernel) (ls := [some (.ref (gK G j)), some (.int (zI ↑k))]) rfl (Nat.le_of_ble_eq_true rfl) ?_
  have hb := (chS_ok ⟨j, hj⟩).1
  simp only at hb
  have hc := (chS_ok ⟨j, hj⟩).2 ⟨k, by omega⟩
  simp only at hc
  refine v_run 1 (pc' := 1) (ls' := [some (.ref (gK G j)), some (.int (zI ↑k))]) (st' := [.ref (gK G j)]) rfl ?_
  refine v_callT (My := mJ0_isLatin1_aae02) (As := []) (rest := []) (mc := 0) (ms := 0) hj rfl caJ0_isLatin1_aae02 rfl rfl rfl rfl (s_latin G h hj) rfl rfl (Nat.le_of_ble_eq_true rfl) (by omega) ?_
  rintro _ _ ⟨rfl, rfl⟩
  refine v_if_eq rfl (fun c => absurd c (by decide)) (fun _ => ?_)
  refine v_run 1 (pc' := 8) (ls' := [some (.ref (gK G j)), some (.int (zI ↑k))]) (st' := [.ref (gK G j)]) rfl ?_
  refine v_strV (pl := 1995) hj rfl (by decide +kernel) ?_
  refine v_run 1 (pc' := 12) (ls' := [some (.ref (gK G j)), some (.int (zI ↑k))]) (st' := [.int (zI ↑k), .ref (gV G j)]) rfl ?_
  refine v_callS (My := mJ1_charAt_3b067) (As := [.ref (gV G j), .int (zI ↑k)]) (rest := []) (mc := 0) (ms := 0) rfl caJ1_charAt_3b067 rfl rfl (s_char1 G h hj hk) rfl rfl (Nat.le_of_ble_eq_true rfl) (by omega) ?_
  rintro _ _ ⟨rfl, rfl⟩
  exact v_iret rfl rfl hc.2 ⟨rfl, rfl⟩
