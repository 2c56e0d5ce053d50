/-! ===== the law's loop ===== -/
theorem and63 (x : Int32) : ∃ k : Nat, k < 64 ∧ x &&& zI 63 = zI ↑k := by
  refine ⟨x.toBitVec.toNat % 64, by omega, ?_⟩
  apply Int32.toBitVec_inj.mp
  rw [Int32.toBitVec_and]
  apply BitVec.eq_of_toNat_eq
  rw [BitVec.toNat_and]
  have e1 : (zI 63).toBitVec.toNat = 2 ^ 6 - 1 := by decide +kernel
  have e2 : (zI ↑(x.toBitVec.toNat % 64)).toBitVec = BitVec.ofNat 32 (x.toBitVec.toNat % 64) := by
    show (Int32.ofInt ↑(x.toBitVec.toNat % 64)).toBitVec = _
    rw [Int32.toBitVec_ofInt, BitVec.ofInt_natCast]
  rw [e1, e2, Nat.and_two_pow_sub_one_eq_mod, BitVec.toNat_ofNat]
  show _ = (x.toBitVec.toNat % 64) % 4294967296
  omega
set_option maxRecDepth 100000 in
set_option maxHeartbeats 1000000 in
theorem law_sw {G : ssG} (hst : (gL G).stackTraces = false) {mc ms : Nat} {Q : Option Value → ssH → Prop} (hb : gV G 24 ≤ 3072) {ax am ao j k : Nat} {h : ssH} (hk : k < 64) (hj : 6 * j + 6 ≤ gV G 24) (li : LI ax am ao h) (kk : ∀ h', LI ax am ao h' → ssV G mL_law 13 mc ms Q 1658 (lL G ax am ao j) [] h') : ssV G mL_law 13 (mc + 13) (ms + 125) Q 40 (lL G ax am ao j) [.int (zI ↑k)] h := by
  by_cases h50 : 50 < k
  · refine v_tabOut (t := 1658) rfl (Or.inr ?_) (by decide) ((kk h li).wk (by omega) (by omega))
    rw [zI_toInt (by omega) (by omega)]
    omega
  · rcases (show k = 0 ∨ k = 1 ∨ k = 2 ∨ k = 3 ∨ k = 4 ∨ k = 5 ∨ k = 6 ∨ k = 7 ∨ k = 8 ∨ k = 9 ∨ k = 10 ∨ k = 11 ∨ k = 12 ∨ k = 13 ∨ k = 14 ∨ k = 15 ∨ k = 16 ∨ k = 17 ∨ k = 18 ∨ k = 19 ∨ k = 20 ∨ k = 21 ∨ k = 22 ∨ k = 23 ∨ k = 24 ∨ k = 25 ∨ k = 26 ∨ k = 27 ∨ k = 28 ∨ k = 29 ∨ k = 30 ∨ k = 31 ∨ k = 32 ∨ k = 33 ∨ k = 34 ∨ k = 35 ∨ k = 36 ∨ k = 37 ∨ k = 38 ∨ k = 39 ∨ k = 40 ∨ k = 41 ∨ k = 42 ∨ k = 43 ∨ k = 44 ∨ k = 45 ∨ k = 46 ∨ k = 47 ∨ k = 48 ∨ k = 49 ∨ k = 50 by omega) with rfl | rfl | rfl | rfl | rfl | rfl | rfl | rfl | rfl | rfl | rfl | rfl | rfl | rfl | rfl | rfl | rfl | rfl | rfl | rfl | rfl | rfl | rfl | rfl | rfl | rfl | rfl | rfl | rfl | rfl | rfl | rfl | rfl | rfl | rfl | rfl | rfl | rfl | rfl | rfl | rfl | rfl | rfl | rfl | rfl | rfl | rfl | rfl | rfl | rfl | rfl
    · refine v_tabIn (off := 220) (t := 260) rfl (by decide +kernel) (by decide +kernel) (by decide +kernel) (by decide) ?_
      exact (cs_0 hb hj li kk).wk (by omega) (by omega)
    · refine v_tabIn (off := 293) (t := 333) rfl (by decide +kernel) (by decide +kernel) (by decide +kernel) (by decide) ?_
      exact (cs_1 hb hj li kk).wk (by omega) (by omega)
    · refine v_tabIn (off := 318) (t := 358) rfl (by decide +kernel) (by decide +kernel) (by decide +kernel) (by decide) ?_
      exact (cs_2 hb hj li kk).wk (by omega) (by omega)
    · refine v_tabIn (off := 331) (t := 371) rfl (by decide +kernel) (by decide +kernel) (by decide +kernel) (by decide) ?_
      exact (cs_3 hb hj li kk).wk (by omega) (by omega)
    · refine v_tabIn (off := 344) (t := 384) rfl (by decide +kernel) (by decide +kernel) (by decide +kernel) (by decide) ?_
      exact (cs_4 hb hj li kk).wk (by omega) (by omega)
    · refine v_tabIn (off := 381) (t := 421) rfl (by decide +kernel) (by decide +kernel) (by decide +kernel) (by decide) ?_
      exact (cs_5 hb hj li kk).wk (by omega) (by omega)
    · refine v_tabIn (off := 418) (t := 458) rfl (by decide +kernel) (by decide +kernel) (by decide +kernel) (by decide) ?_
      exact (cs_6 hb hj li kk).wk (by omega) (by omega)
    · refine v_tabIn (off := 455) (t := 495) rfl (by decide +kernel) (by decide +kernel) (by decide +kernel) (by decide) ?_
      exact (cs_7 hb hj li kk).wk (by omega) (by omega)
    · refine v_tabIn (off := 468) (t := 508) rfl (by decide +kernel) (by decide +kernel) (by decide +kernel) (by decide) ?_
      exact (cs_8 hb hj li kk).wk (by omega) (by omega)
    · refine v_tabIn (off := 481) (t := 521) rfl (by decide +kernel) (by decide +kernel) (by decide +kernel) (by decide) ?_
      exact (cs_9 hb hj li kk).wk (by omega) (by omega)
    · refine v_tabIn (off := 518) (t := 558) rfl (by decide +kernel) (by decide +kernel) (by decide +kernel) (by decide) ?_
      exact (cs_10 hb hj li kk).wk (by omega) (by omega)
    · refine v_tabIn (off := 543) (t := 583) rfl (by decide +kernel) (by decide +kernel) (by decide +kernel) (by decide) ?_
      exact (cs_11 hb hj li kk).wk (by omega) (by omega)
    · refine v_tabIn (off := 556) (t := 596) rfl (by decide +kernel) (by decide +kernel) (by decide +kernel) (by decide) ?_
      exact (cs_12 hb hj li kk).wk (by omega) (by omega)
    · refine v_tabIn (off := 569) (t := 609) rfl (by decide +kernel) (by decide +kernel) (by decide +kernel) (by decide) ?_
      exact (cs_13 hb hj li kk).wk (by omega) (by omega)
    · refine v_tabIn (off := 582) (t := 622) rfl (by decide +kernel) (by decide +kernel) (by decide +kernel) (by decide) ?_
      exact (cs_14 hb hj li kk).wk (by omega) (by omega)
    · refine v_tabIn (off := 607) (t := 647) rfl (by decide +kernel) (by decide +kernel) (by decide +kernel) (by decide) ?_
      exact (cs_15 hb hj li kk).wk (by omega) (by omega)
    · refine v_tabIn (off := 632) (t := 672) rfl (by decide +kernel) (by decide +kernel) (by decide +kernel) (by decide) ?_
      exact (cs_16 hb hj li kk).wk (by omega) (by omega)
    · refine v_tabIn (off := 669) (t := 709) rfl (by decide +kernel) (by decide +kernel) (by decide +kernel) (by decide) ?_
      exact (cs_17 hb hj li kk).wk (by omega) (by omega)
    · refine v_tabIn (off := 682) (t := 722) rfl (by decide +kernel) (by decide +kernel) (by decide +kernel) (by decide) ?_
      exact (cs_18 hb hj li kk).wk (by omega) (by omega)
    · refine v_tabIn (off := 707) (t := 747) rfl (by decide +kernel) (by decide +kernel) (by decide +kernel) (by decide) ?_
      exact (cs_19 hb hj li kk).wk (by omega) (by omega)
    · refine v_tabIn (off := 720) (t := 760) rfl (by decide +kernel) (by decide +kernel) (by decide +kernel) (by decide) ?_
      exact (cs_20 hb hj li kk).wk (by omega) (by omega)
    · refine v_tabIn (off := 733) (t := 773) rfl (by decide +kernel) (by decide +kernel) (by decide +kernel) (by decide) ?_
      exact (cs_21 hb hj li kk).wk (by omega) (by omega)
    · refine v_tabIn (off := 746) (t := 786) rfl (by decide +kernel) (by decide +kernel) (by decide +kernel) (by decide) ?_
      exact (cs_22 hb hj li kk).wk (by omega) (by omega)
    · refine v_tabIn (off := 759) (t := 799) rfl (by decide +kernel) (by decide +kernel) (by decide +kernel) (by decide) ?_
      exact (cs_23 hb hj li kk).wk (by omega) (by omega)
    · refine v_tabIn (off := 784) (t := 824) rfl (by decide +kernel) (by decide +kernel) (by decide +kernel) (by decide) ?_
      exact (cs_24 hb hj li kk).wk (by omega) (by omega)
    · refine v_tabIn (off := 797) (t := 837) rfl (by decide +kernel) (by decide +kernel) (by decide +kernel) (by decide) ?_
      exact (cs_25 hb hj li kk).wk (by omega) (by omega)
    · refine v_tabIn (off := 810) (t := 850) rfl (by decide +kernel) (by decide +kernel) (by decide +kernel) (by decide) ?_
      exact (cs_26 hb hj li kk).wk (by omega) (by omega)
    · refine v_tabIn (off := 823) (t := 863) rfl (by decide +kernel) (by decide +kernel) (by decide +kernel) (by decide) ?_
      exact (cs_27 hb hj li kk).wk (by omega) (by omega)
    · refine v_tabIn (off := 848) (t := 888) rfl (by decide +kernel) (by decide +kernel) (by decide +kernel) (by decide) ?_
      exact (cs_28 hb hj li kk).wk (by omega) (by omega)
    · refine v_tabIn (off := 873) (t := 913) rfl (by decide +kernel) (by decide +kernel) (by decide +kernel) (by decide) ?_
      exact (cs_29 hb hj li kk).wk (by omega) (by omega)
    · refine v_tabIn (off := 886) (t := 926) rfl (by decide +kernel) (by decide +kernel) (by decide +kernel) (by decide) ?_
      exact (cs_30 hb hj li kk).wk (by omega) (by omega)
    · refine v_tabIn (off := 899) (t := 939) rfl (by decide +kernel) (by decide +kernel) (by decide +kernel) (by decide) ?_
      exact (cs_31 hb hj li kk).wk (by omega) (by omega)
    · refine v_tabIn (off := 953) (t := 993) rfl (by decide +kernel) (by decide +kernel) (by decide +kernel) (by decide) ?_
      exact (cs_32 hb hj li kk).wk (by omega) (by omega)
    · refine v_tabIn (off := 966) (t := 1006) rfl (by decide +kernel) (by decide +kernel) (by decide +kernel) (by decide) ?_
      exact (cs_33 hb hj li kk).wk (by omega) (by omega)
    · refine v_tabIn (off := 1075) (t := 1115) rfl (by decide +kernel) (by decide +kernel) (by decide +kernel) (by decide) ?_
      exact (cs_34 hb hj li kk).wk (by omega) (by omega)
    · refine v_tabIn (off := 1100) (t := 1140) rfl (by decide +kernel) (by decide +kernel) (by decide +kernel) (by decide) ?_
      exact (cs_35 hb hj li kk).wk (by omega) (by omega)
    · refine v_tabIn (off := 1125) (t := 1165) rfl (by decide +kernel) (by decide +kernel) (by decide +kernel) (by decide) ?_
      exact (cs_36 hb hj li kk).wk (by omega) (by omega)
    · refine v_tabIn (off := 1179) (t := 1219) rfl (by decide +kernel) (by decide +kernel) (by decide +kernel) (by decide) ?_
      exact (cs_37 hb hj li kk).wk (by omega) (by omega)
    · refine v_tabIn (off := 1245) (t := 1285) rfl (by decide +kernel) (by decide +kernel) (by decide +kernel) (by decide) ?_
      exact (cs_38 hb hj li kk).wk (by omega) (by omega)
    · refine v_tabIn (off := 1299) (t := 1339) rfl (by decide +kernel) (by decide +kernel) (by decide +kernel) (by decide) ?_
      exact (cs_39 hb hj li kk).wk (by omega) (by omega)
    · refine v_tabIn (off := 1336) (t := 1376) rfl (by decide +kernel) (by decide +kernel) (by decide +kernel) (by decide) ?_
      exact (cs_40 hb hj li kk).wk (by omega) (by omega)
    · refine v_tabIn (off := 1373) (t := 1413) rfl (by decide +kernel) (by decide +kernel) (by decide +kernel) (by decide) ?_
      exact (cs_41 hb hj li kk).wk (by omega) (by omega)
    · refine v_tabIn (off := 1386) (t := 1426) rfl (by decide +kernel) (by decide +kernel) (by decide +kernel) (by decide) ?_
      exact (cs_42 hb hj li kk).wk (by omega) (by omega)
    · refine v_tabIn (off := 1423) (t := 1463) rfl (by decide +kernel) (by decide +kernel) (by decide +kernel) (by decide) ?_
      exact (cs_43 hb hj li kk).wk (by omega) (by omega)
    · refine v_tabIn (off := 1448) (t := 1488) rfl (by decide +kernel) (by decide +kernel) (by decide +kernel) (by decide) ?_
      exact (cs_44 hb hj li kk).wk (by omega) (by omega)
    · refine v_tabIn (off := 1473) (t := 1513) rfl (by decide +kernel) (by decide +kernel) (by decide +kernel) (by decide) ?_
      exact (cs_45 hb hj li kk).wk (by omega) (by omega)
    · refine v_tabIn (off := 1486) (t := 1526) rfl (by decide +kernel) (by decide +kernel) (by decide +kernel) (by decide) ?_
      exact (cs_46 hb hj li kk).wk (by omega) (by omega)
    · refine v_tabIn (off := 1499) (t := 1539) rfl (by decide +kernel) (by decide +kernel) (by decide +kernel) (by decide) ?_
      exact (cs_47 hb hj li kk).wk (by omega) (by omega)
    · refine v_tabIn (off := 1524) (t := 1564) rfl (by decide +kernel) (by decide +kernel) (by decide +kernel) (by decide) ?_
      exact (cs_48 hst hb hj li kk).wk (by omega) (by omega)
    · refine v_tabIn (off := 1580) (t := 1620) rfl (by decide +kernel) (by decide +kernel) (by decide +kernel) (by decide) ?_
      exact (cs_49 hb hj li kk).wk (by omega) (by omega)
    · refine v_tabIn (off := 1605) (t := 1645) rfl (by decide +kernel) (by decide +kernel) (by decide +kernel) (by decide) ?_
      exact (cs_50 hb hj li kk).wk (by omega) (by omega)
set_option maxRecDepth 100000 in
theorem law_loop {G : ssG} (hst : (gL G).stackTraces = false) {Q : Option Value → ssH → Prop} (hQ : ∀ h, Q (some (.int (zI 1))) h) (hb : gV G 24 ≤ 3072) {ax am ao : Nat} : ∀ (n j : Nat) (h : ssH), 6 * j ≤ 3072 → gV G 24 < 6 * (j + n) + 6 → LI ax am ao h → ssV G mL_law 13 (13 * n) (125 * n) Q 23 (lL G ax am ao j) [] h := by
  have hd : ∀ (mc ms j : Nat) (h : ssH), 6 * j ≤ 3072 → (gV G 24 < 6 * j + 6 → True) → (¬ gV G 24 < 6 * j + 6 → ssV G mL_law 13 mc ms Q 33 (lL G ax am ao j) [] h) → ssV G mL_law 13 mc ms Q 23 (lL G ax am ao j) [] h := by
    intro mc ms j h hj _ kf
    refine v_run 2 (pc' := 26) (ls' := lL G ax am ao j) (st' := [.ref (gV G 23), .int (zI ↑(6 * j))]) rfl ?_
    refine v_slen rfl ?_
    refine v_run 2 (pc' := 30) (ls' := lL G ax am ao j) (st' := [.int (zI ↑(gV G 24) - zI 6), .int (zI ↑(6 * j))]) rfl ?_
    rw [zI_sub]
    refine v_icmp_gt rfl (fun c => ?_) (fun c => ?_)
    · refine v_run 1 (pc' := 1665) (ls' := lL G ax am ao j) (st' := [.int (zI 1)]) rfl ?_
      exact v_iret rfl rfl rfl (hQ h)
    · rw [zI_lt (by omega) (by omega) (by omega) (by omega)] at c
      exact kf (by omega)
  intro n
  induction n with
  | zero =>
    intro j h h6 hn li
    exact hd _ _ j h h6 (fun _ => trivial) (fun z => absurd hn (by omega))
  | succ n ih =>
    intro j h h6 hn li
    refine hd _ _ j h h6 (fun _ => trivial) (fun z => ?_)
    refine v_run 2 (pc' := 36) (ls' := lL G ax am ao j) (st' := [.int (zI ↑(6 * j)), .ref (gV G 23)]) rfl ?_
    refine v_scr rfl (6 * j) rfl (by omega) hb ?_
    refine v_run 2 (pc' := 40) (ls' := lL G ax am ao j) (st' := [.int (zI (scI G (6 * j)) &&& zI 63)]) rfl ?_
    obtain ⟨k, hk, ek⟩ := and63 (zI (scI G (6 * j)))
    rw [ek]
    refine law_sw (mc := 13 * n) (ms := 125 * n) hst hb hk (by omega) li (fun h' li' => ?_)
    refine v_run 2 (pc' := 23) (ls' := [some (.ref (gV G 23)), some (.ref ax), some (.ref am), some (.ref ao), some (.int (zI ↑(6 * j) + zI 6)), none, none]) (st' := []) rfl ?_
    rw [zI_add, show (↑(6 * j) + 6 : Int) = ↑(6 * (j + 1)) by omega]
    exact ih (j + 1) h' (by omega) (by omega) li'

