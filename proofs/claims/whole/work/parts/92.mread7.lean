set_option maxRecDepth 100000 in
set_option maxHeartbeats 400000 in
theorem g_lFor (G : ssG) (h : ssH) {ad : Nat → Nat} {sv : Value} {m : Nat → Int} {B : Nat → Int} {n : Nat} {ζ : zT} {i : Nat}  (hA : ∀ k l, ad k = ad l → k = l) (hB : ∀ k, -128 ≤ B k ∧ B k ≤ 127) (hn : n ≤ 900) (hm : MRd h ad sv m B n ζ (.inr i)) (hzo : zOk ζ)  : ssC G mX10_readFor 9 0 0 [.ref (ad 200)] h (GL ad sv m B n ζ (lq B n ζ i (lFor B n ζ i)) h) := by
  refine c_of_v okX10_readFor (by decide +kernel) (ls := [some (.ref (ad 200)), none, none]) rfl (Nat.le_of_ble_eq_true rfl) ?_
  obtain ⟨⟨z0, z1, z2, z3, z4, z5, z6, z7, z8, z9, z11⟩, ⟨r12, r13, r14, r15, r16, r17, r18, r19, r20⟩, ⟨n1, n2, n3, n4⟩, zd, ze⟩ := id hzo
  have h11 : ζ 11 0 ≤ 17 := by omega
  refine v_run 2 (pc' := 2) (ls' := [some (.ref (ad 200)), none, none]) (st' := [.ref (ad 200), .ref (ad 200)]) rfl ?_
  refine v_get rfl hm.1 rfl ?_
  refine v_run 0 (pc' := 5) (ls' := [some (.ref (ad 200)), none, none]) (st' := [.ref (ad 230), .ref (ad 200)]) rfl ?_
  refine v_get rfl hm.2.2.1.1.1 rfl ?_
  refine v_run 1 (pc' := 10) (ls' := [some (.ref (ad 200)), none, none]) (st' := [.int (zI 15), .int (zI ↑(ζ 7 0)), .ref (ad 200)]) rfl ?_
  refine v_callV (My := mX10_lineBegins) (As := [.int (zI ↑(ζ 7 0)), .int (zI 15)]) (rest := []) (mc := 0) (ms := 0) rfl caX10_lineBegins rfl rfl rfl hm.1 rfl rfl (g_begins G _ (a := ζ 7 0) (b := 15) hA hB hn hm (by omega) (by omega) (by omega)) rfl rfl (Nat.le_of_ble_eq_true rfl) (by omega) ?_
  rintro _ h1 ⟨rfl, m1, hm1, hk1, hf1⟩
  refine v_run 0 (pc' := 13) (ls' := [some (.ref (ad 200)), none, none]) (st' := []) rfl ?_
  by_cases hq0 : ζ 0 0 = 0
  · have hcz := hzo.2.2.2.1 hq0
    have hm1 : MRd h1 ad sv m1 B n ζ (.inl (6, tP B n i)) := by have hh := hm1; rw [show sb (.inr i) (fun i => if ζ 7 0 = 15 then .inl (5, tP B n i) else if ζ 0 0 = 0 then .inl (6, tP B n i) else .inr (i + 1)) = (.inl (6, tP B n i) : pR Nat) from (if_neg (by omega)).trans (if_pos hq0)] at hh; exact hh
    have hm1 : MRd h1 ad sv m1 B n ζ (.inl (6, tP B n i)) := hm1
    refine v_run 2 (pc' := 15) (ls' := [some (.ref (ad 200)), none, none]) (st' := [.int (zI 1), .ref (ad 200)]) rfl ?_
    refine v_callV (My := mX10_readKnown) (As := [.int (zI 1)]) (rest := []) (mc := 0) (ms := 0) rfl caX10_readKnown rfl rfl rfl hm1.1 rfl rfl (g_rknown G _ (s := 1) hA hB hn hm1 h11 n1 n2 n3 (by decide)) rfl rfl (Nat.le_of_ble_eq_true rfl) (by omega) ?_
    rintro _ h2 ⟨rfl, m2, hm2, hk2, hf2⟩
    refine v_run 0 (pc' := 18) (ls' := [some (.ref (ad 200)), none, none]) (st' := [.int (zI ↑(vT (sb (.inl (6, tP B n i)) (fun i => pTold B n ζ 1 i))))]) rfl ?_
    have hm2 : MRd h2 ad sv m2 B n ζ (.inl (6, tP B n i)) := hm2
    refine v_run 3 (pc' := 21) (ls' := [some (.ref (ad 200)), some (.int (zI ↑(vT (sb (.inl (6, tP B n i)) (fun i => pTold B n ζ 1 i))))), none]) (st' := [.int (zI 2), .ref (ad 200)]) rfl ?_
    refine v_callV (My := mX10_knownOne) (As := [.int (zI 2)]) (rest := []) (mc := 0) (ms := 0) rfl caX10_knownOne rfl rfl rfl hm2.1 rfl rfl (g_known G _ (s := 2) hA hB hn hm2 h11 n1 n2 n3 (by decide)) rfl rfl (Nat.le_of_ble_eq_true rfl) (by omega) ?_
    rintro _ h3 ⟨rfl, m3, hm3, hk3, hf3⟩
    refine v_run 0 (pc' := 24) (ls' := [some (.ref (ad 200)), some (.int (zI ↑(vT (sb (.inl (6, tP B n i)) (fun i => pTold B n ζ 1 i))))), none]) (st' := [.int (zI ↑(vT (sb (.inl (6, tP B n i)) (fun i => pTold B n ζ 2 i))))]) rfl ?_
    have hm3 : MRd h3 ad sv m3 B n ζ (.inl (6, tP B n i)) := hm3
    refine v_run 2 (pc' := 26) (ls' := [some (.ref (ad 200)), some (.int (zI ↑(vT (sb (.inl (6, tP B n i)) (fun i => pTold B n ζ 1 i))))), some (.int (zI ↑(vT (sb (.inl (6, tP B n i)) (fun i => pTold B n ζ 2 i)))))]) (st' := [.ref (ad 200)]) rfl ?_
    refine v_get rfl hm3.1 rfl ?_
    refine v_run 1 (pc' := 30) (ls' := [some (.ref (ad 200)), some (.int (zI ↑(vT (sb (.inl (6, tP B n i)) (fun i => pTold B n ζ 1 i))))), some (.int (zI ↑(vT (sb (.inl (6, tP B n i)) (fun i => pTold B n ζ 2 i)))))]) (st' := [.int (zI 5), .int (zI (m3 9))]) rfl ?_
    refine v_icmp_eq rfl (fun c30 => ?_) (fun c30 => ?_)
    · refine v_run 1 (pc' := 55) (ls' := [some (.ref (ad 200)), some (.int (zI ↑(vT (sb (.inl (6, tP B n i)) (fun i => pTold B n ζ 1 i))))), some (.int (zI ↑(vT (sb (.inl (6, tP B n i)) (fun i => pTold B n ζ 2 i)))))]) (st' := [.ref (ad 200)]) rfl ?_
      refine v_callV (My := mX10_goesOn) (As := []) (rest := []) (mc := 0) (ms := 0) rfl caX10_goesOn rfl rfl rfl hm3.1 rfl rfl (g_on G _ hA hB hn hm3) rfl rfl (Nat.le_of_ble_eq_true rfl) (by omega) ?_
      rintro _ h4 ⟨rfl, m4, hm4, hk4, hf4⟩
      refine v_run 0 (pc' := 58) (ls' := [some (.ref (ad 200)), some (.int (zI ↑(vT (sb (.inl (6, tP B n i)) (fun i => pTold B n ζ 1 i))))), some (.int (zI ↑(vT (sb (.inl (6, tP B n i)) (fun i => pTold B n ζ 2 i)))))]) (st' := []) rfl ?_
      have hm4 : MRd h4 ad sv m4 B n ζ (.inl (6, tP B n i)) := hm4
      refine v_run 1 (pc' := 59) (ls' := [some (.ref (ad 200)), some (.int (zI ↑(vT (sb (.inl (6, tP B n i)) (fun i => pTold B n ζ 1 i))))), some (.int (zI ↑(vT (sb (.inl (6, tP B n i)) (fun i => pTold B n ζ 2 i)))))]) (st' := [.ref (ad 200)]) rfl ?_
      refine v_get rfl hm4.1 rfl ?_
      refine v_run 1 (pc' := 63) (ls' := [some (.ref (ad 200)), some (.int (zI ↑(vT (sb (.inl (6, tP B n i)) (fun i => pTold B n ζ 1 i))))), some (.int (zI ↑(vT (sb (.inl (6, tP B n i)) (fun i => pTold B n ζ 2 i)))))]) (st' := [.int (zI 5), .int (zI (m4 9))]) rfl ?_
      refine v_icmp_ne rfl (fun c63 => ?_) (fun c63 => ?_)
      · exact absurd (by rw [hm4.2.2.2.2.1]) c63
      · rw [show lq B n ζ i (lFor B n ζ i) = .inl (6, tP B n i) from by simp only [lq, if_pos hq0, sb]]; exact v_vret rfl rfl ⟨rfl, m4, hm4, (((hk1.tr hk2).tr hk3).tr hk4), (((hf1.tr hf2).tr hf3).tr hf4)⟩
    · exact absurd (by rw [hm3.2.2.2.2.1]) c30
  · by_cases hcap : ζ 7 0 = 15
    · have hm1 : MRd h1 ad sv m1 B n ζ (.inl (5, tP B n i)) := by have hh := hm1; rw [show sb (.inr i) (fun i => if ζ 7 0 = 15 then .inl (5, tP B n i) else if ζ 0 0 = 0 then .inl (6, tP B n i) else .inr (i + 1)) = (.inl (5, tP B n i) : pR Nat) from if_pos hcap] at hh; exact hh
      have hm1 : MRd h1 ad sv m1 B n ζ (.inl (5, tP B n i)) := hm1
      refine v_run 2 (pc' := 15) (ls' := [some (.ref (ad 200)), none, none]) (st' := [.int (zI 1), .ref (ad 200)]) rfl ?_
      refine v_callV (My := mX10_readKnown) (As := [.int (zI 1)]) (rest := []) (mc := 0) (ms := 0) rfl caX10_readKnown rfl rfl rfl hm1.1 rfl rfl (g_rknown G _ (s := 1) hA hB hn hm1 h11 n1 n2 n3 (by decide)) rfl rfl (Nat.le_of_ble_eq_true rfl) (by omega) ?_
      rintro _ h2 ⟨rfl, m2, hm2, hk2, hf2⟩
      refine v_run 0 (pc' := 18) (ls' := [some (.ref (ad 200)), none, none]) (st' := [.int (zI ↑(vT (sb (.inl (5, tP B n i)) (fun i => pTold B n ζ 1 i))))]) rfl ?_
      have hm2 : MRd h2 ad sv m2 B n ζ (.inl (5, tP B n i)) := hm2
      refine v_run 3 (pc' := 21) (ls' := [some (.ref (ad 200)), some (.int (zI ↑(vT (sb (.inl (5, tP B n i)) (fun i => pTold B n ζ 1 i))))), none]) (st' := [.int (zI 2), .ref (ad 200)]) rfl ?_
      refine v_callV (My := mX10_knownOne) (As := [.int (zI 2)]) (rest := []) (mc := 0) (ms := 0) rfl caX10_knownOne rfl rfl rfl hm2.1 rfl rfl (g_known G _ (s := 2) hA hB hn hm2 h11 n1 n2 n3 (by decide)) rfl rfl (Nat.le_of_ble_eq_true rfl) (by omega) ?_
      rintro _ h3 ⟨rfl, m3, hm3, hk3, hf3⟩
      refine v_run 0 (pc' := 24) (ls' := [some (.ref (ad 200)), some (.int (zI ↑(vT (sb (.inl (5, tP B n i)) (fun i => pTold B n ζ 1 i))))), none]) (st' := [.int (zI ↑(vT (sb (.inl (5, tP B n i)) (fun i => pTold B n ζ 2 i))))]) rfl ?_
      have hm3 : MRd h3 ad sv m3 B n ζ (.inl (5, tP B n i)) := hm3
      refine v_run 2 (pc' := 26) (ls' := [some (.ref (ad 200)), some (.int (zI ↑(vT (sb (.inl (5, tP B n i)) (fun i => pTold B n ζ 1 i))))), some (.int (zI ↑(vT (sb (.inl (5, tP B n i)) (fun i => pTold B n ζ 2 i)))))]) (st' := [.ref (ad 200)]) rfl ?_
      refine v_get rfl hm3.1 rfl ?_
      refine v_run 1 (pc' := 30) (ls' := [some (.ref (ad 200)), some (.int (zI ↑(vT (sb (.inl (5, tP B n i)) (fun i => pTold B n ζ 1 i))))), some (.int (zI ↑(vT (sb (.inl (5, tP B n i)) (fun i => pTold B n ζ 2 i)))))]) (st' := [.int (zI 5), .int (zI (m3 9))]) rfl ?_
      refine v_icmp_eq rfl (fun c30 => ?_) (fun c30 => ?_)
      · refine v_run 1 (pc' := 55) (ls' := [some (.ref (ad 200)), some (.int (zI ↑(vT (sb (.inl (5, tP B n i)) (fun i => pTold B n ζ 1 i))))), some (.int (zI ↑(vT (sb (.inl (5, tP B n i)) (fun i => pTold B n ζ 2 i)))))]) (st' := [.ref (ad 200)]) rfl ?_
        refine v_callV (My := mX10_goesOn) (As := []) (rest := []) (mc := 0) (ms := 0) rfl caX10_goesOn rfl rfl rfl hm3.1 rfl rfl (g_on G _ hA hB hn hm3) rfl rfl (Nat.le_of_ble_eq_true rfl) (by omega) ?_
        rintro _ h4 ⟨rfl, m4, hm4, hk4, hf4⟩
        refine v_run 0 (pc' := 58) (ls' := [some (.ref (ad 200)), some (.int (zI ↑(vT (sb (.inl (5, tP B n i)) (fun i => pTold B n ζ 1 i))))), some (.int (zI ↑(vT (sb (.inl (5, tP B n i)) (fun i => pTold B n ζ 2 i)))))]) (st' := []) rfl ?_
        have hm4 : MRd h4 ad sv m4 B n ζ (.inl (5, tP B n i)) := hm4
        refine v_run 1 (pc' := 59) (ls' := [some (.ref (ad 200)), some (.int (zI ↑(vT (sb (.inl (5, tP B n i)) (fun i => pTold B n ζ 1 i))))), some (.int (zI ↑(vT (sb (.inl (5, tP B n i)) (fun i => pTold B n ζ 2 i)))))]) (st' := [.ref (ad 200)]) rfl ?_
        refine v_get rfl hm4.1 rfl ?_
        refine v_run 1 (pc' := 63) (ls' := [some (.ref (ad 200)), some (.int (zI ↑(vT (sb (.inl (5, tP B n i)) (fun i => pTold B n ζ 1 i))))), some (.int (zI ↑(vT (sb (.inl (5, tP B n i)) (fun i => pTold B n ζ 2 i)))))]) (st' := [.int (zI 5), .int (zI (m4 9))]) rfl ?_
        refine v_icmp_ne rfl (fun c63 => ?_) (fun c63 => ?_)
        · exact absurd (by rw [hm4.2.2.2.2.1]) c63
        · rw [show lq B n ζ i (lFor B n ζ i) = .inl (5, tP B n i) from by simp only [lq, if_neg hq0, lFor, if_pos hcap, sb]]; exact v_vret rfl rfl ⟨rfl, m4, hm4, (((hk1.tr hk2).tr hk3).tr hk4), (((hf1.tr hf2).tr hf3).tr hf4)⟩
      · exact absurd (by rw [hm3.2.2.2.2.1]) c30
    · have hm1 : MRd h1 ad sv m1 B n ζ (.inr (i + 1)) := by have hh := hm1; rw [show sb (.inr i) (fun i => if ζ 7 0 = 15 then .inl (5, tP B n i) else if ζ 0 0 = 0 then .inl (6, tP B n i) else .inr (i + 1)) = (.inr (i + 1) : pR Nat) from (if_neg hcap).trans (if_neg hq0)] at hh; exact hh
      refine v_run 2 (pc' := 15) (ls' := [some (.ref (ad 200)), none, none]) (st' := [.int (zI 1), .ref (ad 200)]) rfl ?_
      refine v_callV (My := mX10_readKnown) (As := [.int (zI 1)]) (rest := []) (mc := 0) (ms := 0) rfl caX10_readKnown rfl rfl rfl hm1.1 rfl rfl (g_rknown G _ (s := 1) hA hB hn hm1 h11 n1 n2 n3 (by decide)) rfl rfl (Nat.le_of_ble_eq_true rfl) (by omega) ?_
      rintro _ h2 ⟨rfl, m2, hm2, hk2, hf2⟩
      refine v_run 0 (pc' := 18) (ls' := [some (.ref (ad 200)), none, none]) (st' := [.int (zI ↑(vT (sb (.inr (i + 1)) (fun i => pTold B n ζ 1 i))))]) rfl ?_
      rcases hr2 : pTold B n ζ 1 (i + 1) with e | x
      · rw [show vT (sb (.inr (i + 1)) (fun i => pTold B n ζ 1 i)) = 0 from by show vT (pTold B n ζ 1 (i + 1)) = _; rw [hr2]; rfl]
        have hm2 : MRd h2 ad sv m2 B n ζ (.inl e) := by have hh := hm2; rw [show sb (.inr (i + 1)) (fun i => sb (pTold B n ζ 1 i) (fun _ => .inr (i + 1))) = (.inl e : pR Nat) from by show sb (pTold B n ζ 1 (i + 1)) _ = _; rw [hr2]; rfl] at hh; exact hh
        have hm2 : MRd h2 ad sv m2 B n ζ (.inl e) := hm2
        refine v_run 3 (pc' := 21) (ls' := [some (.ref (ad 200)), some (.int (zI ↑((0 : Nat)))), none]) (st' := [.int (zI 2), .ref (ad 200)]) rfl ?_
        refine v_callV (My := mX10_knownOne) (As := [.int (zI 2)]) (rest := []) (mc := 0) (ms := 0) rfl caX10_knownOne rfl rfl rfl hm2.1 rfl rfl (g_known G _ (s := 2) hA hB hn hm2 h11 n1 n2 n3 (by decide)) rfl rfl (Nat.le_of_ble_eq_true rfl) (by omega) ?_
        rintro _ h3 ⟨rfl, m3, hm3, hk3, hf3⟩
        refine v_run 0 (pc' := 24) (ls' := [some (.ref (ad 200)), some (.int (zI ↑((0 : Nat)))), none]) (st' := [.int (zI ↑(vT (sb (.inl e) (fun i => pTold B n ζ 2 i))))]) rfl ?_
        have hm3 : MRd h3 ad sv m3 B n ζ (.inl e) := hm3
        refine v_run 2 (pc' := 26) (ls' := [some (.ref (ad 200)), some (.int (zI ↑((0 : Nat)))), some (.int (zI ↑(vT (sb (.inl e) (fun i => pTold B n ζ 2 i)))))]) (st' := [.ref (ad 200)]) rfl ?_
        refine v_get rfl hm3.1 rfl ?_
        refine v_run 1 (pc' := 30) (ls' := [some (.ref (ad 200)), some (.int (zI ↑((0 : Nat)))), some (.int (zI ↑(vT (sb (.inl e) (fun i => pTold B n ζ 2 i)))))]) (st' := [.int (zI 5), .int (zI (m3 9))]) rfl ?_
        refine v_icmp_eq rfl (fun c30 => ?_) (fun c30 => ?_)
        · refine v_run 1 (pc' := 55) (ls' := [some (.ref (ad 200)), some (.int (zI ↑((0 : Nat)))), some (.int (zI ↑(vT (sb (.inl e) (fun i => pTold B n ζ 2 i)))))]) (st' := [.ref (ad 200)]) rfl ?_
          refine v_callV (My := mX10_goesOn) (As := []) (rest := []) (mc := 0) (ms := 0) rfl caX10_goesOn rfl rfl rfl hm3.1 rfl rfl (g_on G _ hA hB hn hm3) rfl rfl (Nat.le_of_ble_eq_true rfl) (by omega) ?_
          rintro _ h4 ⟨rfl, m4, hm4, hk4, hf4⟩
          refine v_run 0 (pc' := 58) (ls' := [some (.ref (ad 200)), some (.int (zI ↑((0 : Nat)))), some (.int (zI ↑(vT (sb (.inl e) (fun i => pTold B n ζ 2 i)))))]) (st' := []) rfl ?_
          have hm4 : MRd h4 ad sv m4 B n ζ (.inl e) := hm4
          refine v_run 1 (pc' := 59) (ls' := [some (.ref (ad 200)), some (.int (zI ↑((0 : Nat)))), some (.int (zI ↑(vT (sb (.inl e) (fun i => pTold B n ζ 2 i)))))]) (st' := [.ref (ad 200)]) rfl ?_
          refine v_get rfl hm4.1 rfl ?_
          refine v_run 1 (pc' := 63) (ls' := [some (.ref (ad 200)), some (.int (zI ↑((0 : Nat)))), some (.int (zI ↑(vT (sb (.inl e) (fun i => pTold B n ζ 2 i)))))]) (st' := [.int (zI 5), .int (zI (m4 9))]) rfl ?_
          refine v_icmp_ne rfl (fun c63 => ?_) (fun c63 => ?_)
          · exact absurd (by rw [hm4.2.2.2.2.1]) c63
          · rw [show lq B n ζ i (lFor B n ζ i) = .inl e from by simp only [lq, if_neg hq0, lFor, if_neg hcap, hr2, sb]]; exact v_vret rfl rfl ⟨rfl, m4, hm4, (((hk1.tr hk2).tr hk3).tr hk4), (((hf1.tr hf2).tr hf3).tr hf4)⟩
        · exact absurd (by rw [hm3.2.2.2.2.1]) c30
      · rw [show vT (sb (.inr (i + 1)) (fun i => pTold B n ζ 1 i)) = x from by show vT (pTold B n ζ 1 (i + 1)) = _; rw [hr2]; rfl]
        have ht2 := pTold_z hzo hr2
        have hm2 : MRd h2 ad sv m2 B n ζ (.inr ((i + 1) + 1)) := by have hh := hm2; rw [show sb (.inr (i + 1)) (fun i => sb (pTold B n ζ 1 i) (fun _ => .inr (i + 1))) = (.inr ((i + 1) + 1) : pR Nat) from by show sb (pTold B n ζ 1 (i + 1)) _ = _; rw [hr2]; rfl] at hh; exact hh
        skip
        have hm2 : MRd h2 ad sv m2 B n ζ (.inr (i + 2)) := hm2
        refine v_run 3 (pc' := 21) (ls' := [some (.ref (ad 200)), some (.int (zI ↑x)), none]) (st' := [.int (zI 2), .ref (ad 200)]) rfl ?_
        refine v_callV (My := mX10_knownOne) (As := [.int (zI 2)]) (rest := []) (mc := 0) (ms := 0) rfl caX10_knownOne rfl rfl rfl hm2.1 rfl rfl (g_known G _ (s := 2) hA hB hn hm2 h11 n1 n2 n3 (by decide)) rfl rfl (Nat.le_of_ble_eq_true rfl) (by omega) ?_
        rintro _ h3 ⟨rfl, m3, hm3, hk3, hf3⟩
        refine v_run 0 (pc' := 24) (ls' := [some (.ref (ad 200)), some (.int (zI ↑x)), none]) (st' := [.int (zI ↑(vT (sb (.inr (i + 2)) (fun i => pTold B n ζ 2 i))))]) rfl ?_
        rcases hr3 : pTold B n ζ 2 (i + 2) with e | y
        · rw [show vT (sb (.inr (i + 2)) (fun i => pTold B n ζ 2 i)) = 0 from by show vT (pTold B n ζ 2 (i + 2)) = _; rw [hr3]; rfl]
          have hm3 : MRd h3 ad sv m3 B n ζ (.inl e) := by have hh := hm3; rw [show sb (.inr (i + 2)) (fun i => sb (pTold B n ζ 2 i) (fun _ => .inr i)) = (.inl e : pR Nat) from by show sb (pTold B n ζ 2 (i + 2)) _ = _; rw [hr3]; rfl] at hh; exact hh
          have hm3 : MRd h3 ad sv m3 B n ζ (.inl e) := hm3
          refine v_run 2 (pc' := 26) (ls' := [some (.ref (ad 200)), some (.int (zI ↑x)), some (.int (zI ↑((0 : Nat))))]) (st' := [.ref (ad 200)]) rfl ?_
          refine v_get rfl hm3.1 rfl ?_
          refine v_run 1 (pc' := 30) (ls' := [some (.ref (ad 200)), some (.int (zI ↑x)), some (.int (zI ↑((0 : Nat))))]) (st' := [.int (zI 5), .int (zI (m3 9))]) rfl ?_
          refine v_icmp_eq rfl (fun c30 => ?_) (fun c30 => ?_)
          · refine v_run 1 (pc' := 55) (ls' := [some (.ref (ad 200)), some (.int (zI ↑x)), some (.int (zI ↑((0 : Nat))))]) (st' := [.ref (ad 200)]) rfl ?_
            refine v_callV (My := mX10_goesOn) (As := []) (rest := []) (mc := 0) (ms := 0) rfl caX10_goesOn rfl rfl rfl hm3.1 rfl rfl (g_on G _ hA hB hn hm3) rfl rfl (Nat.le_of_ble_eq_true rfl) (by omega) ?_
            rintro _ h4 ⟨rfl, m4, hm4, hk4, hf4⟩
            refine v_run 0 (pc' := 58) (ls' := [some (.ref (ad 200)), some (.int (zI ↑x)), some (.int (zI ↑((0 : Nat))))]) (st' := []) rfl ?_
            have hm4 : MRd h4 ad sv m4 B n ζ (.inl e) := hm4
            refine v_run 1 (pc' := 59) (ls' := [some (.ref (ad 200)), some (.int (zI ↑x)), some (.int (zI ↑((0 : Nat))))]) (st' := [.ref (ad 200)]) rfl ?_
            refine v_get rfl hm4.1 rfl ?_
            refine v_run 1 (pc' := 63) (ls' := [some (.ref (ad 200)), some (.int (zI ↑x)), some (.int (zI ↑((0 : Nat))))]) (st' := [.int (zI 5), .int (zI (m4 9))]) rfl ?_
            refine v_icmp_ne rfl (fun c63 => ?_) (fun c63 => ?_)
            · exact absurd (by rw [hm4.2.2.2.2.1]) c63
            · rw [show lq B n ζ i (lFor B n ζ i) = .inl e from by simp only [lq, if_neg hq0, lFor, if_neg hcap, hr2, hr3, sb]]; exact v_vret rfl rfl ⟨rfl, m4, hm4, (((hk1.tr hk2).tr hk3).tr hk4), (((hf1.tr hf2).tr hf3).tr hf4)⟩
          · exact absurd (by rw [hm3.2.2.2.2.1]) c30
        · rw [show vT (sb (.inr (i + 2)) (fun i => pTold B n ζ 2 i)) = y from by show vT (pTold B n ζ 2 (i + 2)) = _; rw [hr3]; rfl]
          have ht3 := pTold_z hzo hr3
          have hm3 : MRd h3 ad sv m3 B n ζ (.inr (i + 2)) := by have hh := hm3; rw [show sb (.inr (i + 2)) (fun i => sb (pTold B n ζ 2 i) (fun _ => .inr i)) = (.inr (i + 2) : pR Nat) from by show sb (pTold B n ζ 2 (i + 2)) _ = _; rw [hr3]; rfl] at hh; exact hh
          have ha5 : y < 5 := by omega
          have qr := r18 y
          refine v_run 2 (pc' := 26) (ls' := [some (.ref (ad 200)), some (.int (zI ↑x)), some (.int (zI ↑y))]) (st' := [.ref (ad 200)]) rfl ?_
          refine v_get rfl hm3.1 rfl ?_
          refine v_run 1 (pc' := 30) (ls' := [some (.ref (ad 200)), some (.int (zI ↑x)), some (.int (zI ↑y))]) (st' := [.int (zI 5), .int (zI (m3 9))]) rfl ?_
          refine v_icmp_eq rfl (fun c30 => ?_) (fun c30 => ?_)
          · exact absurd (hm3.2.2.2.2.2.1 ▸ c30) (m9_ne (i + 2))
          · refine v_run 1 (pc' := 34) (ls' := [some (.ref (ad 200)), some (.int (zI ↑x)), some (.int (zI ↑y))]) (st' := [.ref (ad 200)]) rfl ?_
            refine v_get rfl hm3.1 rfl ?_
            refine v_run 0 (pc' := 37) (ls' := [some (.ref (ad 200)), some (.int (zI ↑x)), some (.int (zI ↑y))]) (st' := [.ref (ad 230)]) rfl ?_
            refine v_get rfl hm3.2.2.1.1.1 rfl ?_
            refine v_run 1 (pc' := 41) (ls' := [some (.ref (ad 200)), some (.int (zI ↑x)), some (.int (zI ↑y))]) (st' := [.int (zI ↑y), .ref (Sf ad 230 18)]) rfl ?_
            refine v_iaload' rfl hm3.2.2.1.1.2.2.2.2.2.2.2.1 (i := y) rfl (by omega) ?_
            refine v_run 1 (pc' := 43) (ls' := [some (.ref (ad 200)), some (.int (zI ↑x)), some (.int (zI ↑y))]) (st' := [.int (zI ↑x), .int (zI ↑(ζ 18 y))]) rfl ?_
            refine v_callS (My := mX10_bit) (As := [.int (zI ↑(ζ 18 y)), .int (zI ↑x)]) (rest := []) (mc := 0) (ms := 0) rfl caX10_bit rfl rfl (q_bit G _ (ζ 18 y) x (by omega) (by omega)) rfl rfl (Nat.le_of_ble_eq_true rfl) (by omega) ?_
            rintro _ _ ⟨rfl, rfl⟩
            refine v_run 0 (pc' := 46) (ls' := [some (.ref (ad 200)), some (.int (zI ↑x)), some (.int (zI ↑y))]) (st' := [.int (zb (bitN (ζ 18 y) x))]) rfl ?_
            refine v_if_eq rfl (fun c46 => ?_) (fun c46 => ?_)
            · rw [zb_n] at c46
              have hnb : ¬ bitN (ζ 18 y) x = true := by rw [c46]; decide
              refine v_run 1 (pc' := 55) (ls' := [some (.ref (ad 200)), some (.int (zI ↑x)), some (.int (zI ↑y))]) (st' := [.ref (ad 200)]) rfl ?_
              refine v_callV (My := mX10_goesOn) (As := []) (rest := []) (mc := 0) (ms := 0) rfl caX10_goesOn rfl rfl rfl hm3.1 rfl rfl (g_on G _ hA hB hn hm3) rfl rfl (Nat.le_of_ble_eq_true rfl) (by omega) ?_
              rintro _ h4 ⟨rfl, m4, hm4, hk4, hf4⟩
              refine v_run 0 (pc' := 58) (ls' := [some (.ref (ad 200)), some (.int (zI ↑x)), some (.int (zI ↑y))]) (st' := []) rfl ?_
              have hm4 : MRd h4 ad sv m4 B n ζ (.inr (i + 3)) := hm4
              refine v_run 1 (pc' := 59) (ls' := [some (.ref (ad 200)), some (.int (zI ↑x)), some (.int (zI ↑y))]) (st' := [.ref (ad 200)]) rfl ?_
              refine v_get rfl hm4.1 rfl ?_
              refine v_run 1 (pc' := 63) (ls' := [some (.ref (ad 200)), some (.int (zI ↑x)), some (.int (zI ↑y))]) (st' := [.int (zI 5), .int (zI (m4 9))]) rfl ?_
              refine v_icmp_ne rfl (fun c63 => ?_) (fun c63 => ?_)
              · refine v_run 1 (pc' := 68) (ls' := [some (.ref (ad 200)), some (.int (zI ↑x)), some (.int (zI ↑y))]) (st' := [.ref (ad 200)]) rfl ?_
                refine v_get rfl hm4.1 rfl ?_
                refine v_run 0 (pc' := 71) (ls' := [some (.ref (ad 200)), some (.int (zI ↑x)), some (.int (zI ↑y))]) (st' := [.ref (ad 230)]) rfl ?_
                refine v_get rfl hm4.2.2.1.1.1 rfl ?_
                refine v_run 2 (pc' := 76) (ls' := [some (.ref (ad 200)), some (.int (zI ↑x)), some (.int (zI ↑y))]) (st' := [.int (zI ↑y), .ref (Sf ad 230 18), .int (zI ↑y), .ref (Sf ad 230 18)]) rfl ?_
                refine v_iaload' rfl hm4.2.2.1.1.2.2.2.2.2.2.2.1 (i := y) rfl (by omega) ?_
                refine v_run 4 (pc' := 81) (ls' := [some (.ref (ad 200)), some (.int (zI ↑x)), some (.int (zI ↑y))]) (st' := [.int ((zI ↑(ζ 18 y)) ||| ((zI 1) <<< ((zI ↑x) &&& 31))), .int (zI ↑y), .ref (Sf ad 230 18)]) rfl ?_
                rw [show (((zI ↑(ζ 18 y)) ||| ((zI 1) <<< ((zI ↑x) &&& 31))) : Int32) = zI ↑(ζ 18 y ||| 2 ^ x) from zI_or2 (by omega) (by omega)]
                refine v_iastore' rfl hm4.2.2.1.1.2.2.2.2.2.2.2.1 (i := y) rfl (by omega) ?_
                rw [ar_upd]
                have hm5 := hm4.r18 hA y (ζ 18 y ||| 2 ^ x)
                generalize e5 : hset h4 (Sf ad 230 18) _ = h5 at hm5 ⊢
                have hf5 : frN ad h4 h5 := e5 ▸ frN.set (Or.inr ⟨by decide, by decide⟩) _
                refine v_run 1 (pc' := 83) (ls' := [some (.ref (ad 200)), some (.int (zI ↑x)), some (.int (zI ↑y))]) (st' := [.ref (ad 200)]) rfl ?_
                refine v_get rfl hm5.1 rfl ?_
                refine v_run 1 (pc' := 87) (ls' := [some (.ref (ad 200)), some (.int (zI ↑x)), some (.int (zI ↑y))]) (st' := [.ref (ad 230), .ref (ad 230)]) rfl ?_
                refine v_get rfl hm5.2.2.1.1.1 rfl ?_
                refine v_run 2 (pc' := 92) (ls' := [some (.ref (ad 200)), some (.int (zI ↑x)), some (.int (zI ↑y))]) (st' := [.int ((zI ↑(ζ 7 0)) + (zI 1)), .ref (ad 230)]) rfl ?_
                rw [show (((zI ↑(ζ 7 0)) + (zI 1)) : Int32) = zI ↑(ζ 7 0 + 1) from zI_s1 _]
                refine v_put rfl hm5.2.2.1.1.1 rfl rfl (Nat.le_of_ble_eq_true rfl) ?_
                have hm6 := hm5.i hA 7 (ζ 7 0 + 1) (by decide)
                generalize e6 : hset h5 (ad 230) _ = h6 at hm6 ⊢
                have hf6 : frN ad h5 h6 := e6 ▸ frN.set (Or.inr ⟨by decide, by decide⟩) _
                refine v_run 0 (pc' := 95) (ls' := [some (.ref (ad 200)), some (.int (zI ↑x)), some (.int (zI ↑y))]) (st' := []) rfl ?_
                rw [show lq B n ζ i (lFor B n ζ i) = .inr (i + 3, (zU (zU ζ 18 y (ζ 18 y ||| 2 ^ x)) 7 0 (ζ 7 0 + 1))) from by simp only [lq, if_neg hq0, lFor, if_neg hcap, hr2, hr3, if_neg hnb, sb]]; exact v_vret rfl rfl ⟨rfl, m4, hm6, (((hk1.tr hk2).tr hk3).tr hk4), (((((hf1.tr hf2).tr hf3).tr hf4).tr hf5).tr hf6)⟩
              · exact absurd (hm4.2.2.2.2.2.1 ▸ c63) (m9_ne (i + 3))
            · rw [zb_n, Bool.not_eq_false] at c46
              refine v_run 2 (pc' := 51) (ls' := [some (.ref (ad 200)), some (.int (zI ↑x)), some (.int (zI ↑y))]) (st' := [.int (zI 3), .ref (ad 200)]) rfl ?_
              refine v_callV (My := mX10_flaw) (As := [.int (zI 3)]) (rest := []) (mc := 0) (ms := 0) rfl caX10_flaw rfl rfl rfl hm3.1 rfl rfl (g_flaw G _ (f := 3) hA hB hn hm3) rfl rfl (Nat.le_of_ble_eq_true rfl) (by omega) ?_
              rintro _ h4 ⟨rfl, m4, hm4, hk4, hf4⟩
              refine v_run 0 (pc' := 54) (ls' := [some (.ref (ad 200)), some (.int (zI ↑x)), some (.int (zI ↑y))]) (st' := []) rfl ?_
              have hm4 : MRd h4 ad sv m4 B n ζ (.inl (3, tP B n (i + 2))) := hm4
              refine v_run 1 (pc' := 55) (ls' := [some (.ref (ad 200)), some (.int (zI ↑x)), some (.int (zI ↑y))]) (st' := [.ref (ad 200)]) rfl ?_
              refine v_callV (My := mX10_goesOn) (As := []) (rest := []) (mc := 0) (ms := 0) rfl caX10_goesOn rfl rfl rfl hm4.1 rfl rfl (g_on G _ hA hB hn hm4) rfl rfl (Nat.le_of_ble_eq_true rfl) (by omega) ?_
              rintro _ h5 ⟨rfl, m5, hm5, hk5, hf5⟩
              refine v_run 0 (pc' := 58) (ls' := [some (.ref (ad 200)), some (.int (zI ↑x)), some (.int (zI ↑y))]) (st' := []) rfl ?_
              have hm5 : MRd h5 ad sv m5 B n ζ (.inl (3, tP B n (i + 2))) := hm5
              refine v_run 1 (pc' := 59) (ls' := [some (.ref (ad 200)), some (.int (zI ↑x)), some (.int (zI ↑y))]) (st' := [.ref (ad 200)]) rfl ?_
              refine v_get rfl hm5.1 rfl ?_
              refine v_run 1 (pc' := 63) (ls' := [some (.ref (ad 200)), some (.int (zI ↑x)), some (.int (zI ↑y))]) (st' := [.int (zI 5), .int (zI (m5 9))]) rfl ?_
              refine v_icmp_ne rfl (fun c63 => ?_) (fun c63 => ?_)
              · exact absurd (by rw [hm5.2.2.2.2.1]) c63
              · rw [show lq B n ζ i (lFor B n ζ i) = .inl (3, tP B n (i + 2)) from by simp only [lq, if_neg hq0, lFor, if_neg hcap, hr2, hr3, if_pos c46, sb]]; exact v_vret rfl rfl ⟨rfl, m5, hm5, ((((hk1.tr hk2).tr hk3).tr hk4).tr hk5), ((((hf1.tr hf2).tr hf3).tr hf4).tr hf5)⟩

set_option maxRecDepth 100000 in
set_option maxHeartbeats 400000 in
theorem g_lRests (G : ssG) (h : ssH) {ad : Nat → Nat} {sv : Value} {m : Nat → Int} {B : Nat → Int} {n : Nat} {ζ : zT} {i : Nat}  (hA : ∀ k l, ad k = ad l → k = l) (hB : ∀ k, -128 ≤ B k ∧ B k ≤ 127) (hn : n ≤ 900) (hm : MRd h ad sv m B n ζ (.inr i)) (hzo : zOk ζ)  : ssC G mX10_readRests 9 0 0 [.ref (ad 200)] h (GL ad sv m B n ζ (lq B n ζ i (lRests B n ζ i)) h) := by
  refine c_of_v okX10_readRests (by decide +kernel) (ls := [some (.ref (ad 200)), none, none]) rfl (Nat.le_of_ble_eq_true rfl) ?_
  obtain ⟨⟨z0, z1, z2, z3, z4, z5, z6, z7, z8, z9, z11⟩, ⟨r12, r13, r14, r15, r16, r17, r18, r19, r20⟩, ⟨n1, n2, n3, n4⟩, zd, ze⟩ := id hzo
  have h11 : ζ 11 0 ≤ 17 := by omega
  refine v_run 2 (pc' := 2) (ls' := [some (.ref (ad 200)), none, none]) (st' := [.ref (ad 200), .ref (ad 200)]) rfl ?_
  refine v_get rfl hm.1 rfl ?_
  refine v_run 0 (pc' := 5) (ls' := [some (.ref (ad 200)), none, none]) (st' := [.ref (ad 230), .ref (ad 200)]) rfl ?_
  refine v_get rfl hm.2.2.1.1.1 rfl ?_
  refine v_run 1 (pc' := 10) (ls' := [some (.ref (ad 200)), none, none]) (st' := [.int (zI 6), .int (zI ↑(ζ 8 0)), .ref (ad 200)]) rfl ?_
  refine v_callV (My := mX10_lineBegins) (As := [.int (zI ↑(ζ 8 0)), .int (zI 6)]) (rest := []) (mc := 0) (ms := 0) rfl caX10_lineBegins rfl rfl rfl hm.1 rfl rfl (g_begins G _ (a := ζ 8 0) (b := 6) hA hB hn hm (by omega) (by omega) (by omega)) rfl rfl (Nat.le_of_ble_eq_true rfl) (by omega) ?_
  rintro _ h1 ⟨rfl, m1, hm1, hk1, hf1⟩
  refine v_run 0 (pc' := 13) (ls' := [some (.ref (ad 200)), none, none]) (st' := []) rfl ?_
  by_cases hq0 : ζ 0 0 = 0
  · have hcz := hzo.2.2.2.1 hq0
    have hm1 : MRd h1 ad sv m1 B n ζ (.inl (6, tP B n i)) := by have hh := hm1; rw [show sb (.inr i) (fun i => if ζ 8 0 = 6 then .inl (5, tP B n i) else if ζ 0 0 = 0 then .inl (6, tP B n i) else .inr (i + 1)) = (.inl (6, tP B n i) : pR Nat) from (if_neg (by omega)).trans (if_pos hq0)] at hh; exact hh
    have hm1 : MRd h1 ad sv m1 B n ζ (.inl (6, tP B n i)) := hm1
    refine v_run 2 (pc' := 15) (ls' := [some (.ref (ad 200)), none, none]) (st' := [.int (zI 2), .ref (ad 200)]) rfl ?_
    refine v_callV (My := mX10_readKnown) (As := [.int (zI 2)]) (rest := []) (mc := 0) (ms := 0) rfl caX10_readKnown rfl rfl rfl hm1.1 rfl rfl (g_rknown G _ (s := 2) hA hB hn hm1 h11 n1 n2 n3 (by decide)) rfl rfl (Nat.le_of_ble_eq_true rfl) (by omega) ?_
    rintro _ h2 ⟨rfl, m2, hm2, hk2, hf2⟩
    refine v_run 0 (pc' := 18) (ls' := [some (.ref (ad 200)), none, none]) (st' := [.int (zI ↑(vT (sb (.inl (6, tP B n i)) (fun i => pTold B n ζ 2 i))))]) rfl ?_
    have hm2 : MRd h2 ad sv m2 B n ζ (.inl (6, tP B n i)) := hm2
    refine v_run 3 (pc' := 21) (ls' := [some (.ref (ad 200)), some (.int (zI ↑(vT (sb (.inl (6, tP B n i)) (fun i => pTold B n ζ 2 i))))), none]) (st' := [.int (zI 2), .ref (ad 200)]) rfl ?_
    refine v_callV (My := mX10_knownOne) (As := [.int (zI 2)]) (rest := []) (mc := 0) (ms := 0) rfl caX10_knownOne rfl rfl rfl hm2.1 rfl rfl (g_known G _ (s := 2) hA hB hn hm2 h11 n1 n2 n3 (by decide)) rfl rfl (Nat.le_of_ble_eq_true rfl) (by omega) ?_
    rintro _ h3 ⟨rfl, m3, hm3, hk3, hf3⟩
    refine v_run 0 (pc' := 24) (ls' := [some (.ref (ad 200)), some (.int (zI ↑(vT (sb (.inl (6, tP B n i)) (fun i => pTold B n ζ 2 i))))), none]) (st' := [.int (zI ↑(vT (sb (.inl (6, tP B n i)) (fun i => pTold B n ζ 2 i))))]) rfl ?_
    have hm3 : MRd h3 ad sv m3 B n ζ (.inl (6, tP B n i)) := hm3
    refine v_run 2 (pc' := 26) (ls' := [some (.ref (ad 200)), some (.int (zI ↑(vT (sb (.inl (6, tP B n i)) (fun i => pTold B n ζ 2 i))))), some (.int (zI ↑(vT (sb (.inl (6, tP B n i)) (fun i => pTold B n ζ 2 i)))))]) (st' := [.ref (ad 200)]) rfl ?_
    refine v_get rfl hm3.1 rfl ?_
    refine v_run 1 (pc' := 30) (ls' := [some (.ref (ad 200)), some (.int (zI ↑(vT (sb (.inl (6, tP B n i)) (fun i => pTold B n ζ 2 i))))), some (.int (zI ↑(vT (sb (.inl (6, tP B n i)) (fun i => pTold B n ζ 2 i)))))]) (st' := [.int (zI 5), .int (zI (m3 9))]) rfl ?_
    refine v_icmp_eq rfl (fun c30 => ?_) (fun c30 => ?_)
    · refine v_run 1 (pc' := 60) (ls' := [some (.ref (ad 200)), some (.int (zI ↑(vT (sb (.inl (6, tP B n i)) (fun i => pTold B n ζ 2 i))))), some (.int (zI ↑(vT (sb (.inl (6, tP B n i)) (fun i => pTold B n ζ 2 i)))))]) (st' := [.ref (ad 200)]) rfl ?_
      refine v_callV (My := mX10_goesOn) (As := []) (rest := []) (mc := 0) (ms := 0) rfl caX10_goesOn rfl rfl rfl hm3.1 rfl rfl (g_on G _ hA hB hn hm3) rfl rfl (Nat.le_of_ble_eq_true rfl) (by omega) ?_
      rintro _ h4 ⟨rfl, m4, hm4, hk4, hf4⟩
      refine v_run 0 (pc' := 63) (ls' := [some (.ref (ad 200)), some (.int (zI ↑(vT (sb (.inl (6, tP B n i)) (fun i => pTold B n ζ 2 i))))), some (.int (zI ↑(vT (sb (.inl (6, tP B n i)) (fun i => pTold B n ζ 2 i)))))]) (st' := []) rfl ?_
      have hm4 : MRd h4 ad sv m4 B n ζ (.inl (6, tP B n i)) := hm4
      refine v_run 1 (pc' := 64) (ls' := [some (.ref (ad 200)), some (.int (zI ↑(vT (sb (.inl (6, tP B n i)) (fun i => pTold B n ζ 2 i))))), some (.int (zI ↑(vT (sb (.inl (6, tP B n i)) (fun i => pTold B n ζ 2 i)))))]) (st' := [.ref (ad 200)]) rfl ?_
      refine v_get rfl hm4.1 rfl ?_
      refine v_run 1 (pc' := 68) (ls' := [some (.ref (ad 200)), some (.int (zI ↑(vT (sb (.inl (6, tP B n i)) (fun i => pTold B n ζ 2 i))))), some (.int (zI ↑(vT (sb (.inl (6, tP B n i)) (fun i => pTold B n ζ 2 i)))))]) (st' := [.int (zI 5), .int (zI (m4 9))]) rfl ?_
      refine v_icmp_ne rfl (fun c68 => ?_) (fun c68 => ?_)
      · exact absurd (by rw [hm4.2.2.2.2.1]) c68
      · rw [show lq B n ζ i (lRests B n ζ i) = .inl (6, tP B n i) from by simp only [lq, if_pos hq0, sb]]; exact v_vret rfl rfl ⟨rfl, m4, hm4, (((hk1.tr hk2).tr hk3).tr hk4), (((hf1.tr hf2).tr hf3).tr hf4)⟩
    · exact absurd (by rw [hm3.2.2.2.2.1]) c30
  · by_cases hcap : ζ 8 0 = 6
    · have hm1 : MRd h1 ad sv m1 B n ζ (.inl (5, tP B n i)) := by have hh := hm1; rw [show sb (.inr i) (fun i => if ζ 8 0 = 6 then .inl (5, tP B n i) else if ζ 0 0 = 0 then .inl (6, tP B n i) else .inr (i + 1)) = (.inl (5, tP B n i) : pR Nat) from if_pos hcap] at hh; exact hh
      have hm1 : MRd h1 ad sv m1 B n ζ (.inl (5, tP B n i)) := hm1
      refine v_run 2 (pc' := 15) (ls' := [some (.ref (ad 200)), none, none]) (st' := [.int (zI 2), .ref (ad 200)]) rfl ?_
      refine v_callV (My := mX10_readKnown) (As := [.int (zI 2)]) (rest := []) (mc := 0) (ms := 0) rfl caX10_readKnown rfl rfl rfl hm1.1 rfl rfl (g_rknown G _ (s := 2) hA hB hn hm1 h11 n1 n2 n3 (by decide)) rfl rfl (Nat.le_of_ble_eq_true rfl) (by omega) ?_
      rintro _ h2 ⟨rfl, m2, hm2, hk2, hf2⟩
      refine v_run 0 (pc' := 18) (ls' := [some (.ref (ad 200)), none, none]) (st' := [.int (zI ↑(vT (sb (.inl (5, tP B n i)) (fun i => pTold B n ζ 2 i))))]) rfl ?_
      have hm2 : MRd h2 ad sv m2 B n ζ (.inl (5, tP B n i)) := hm2
      refine v_run 3 (pc' := 21) (ls' := [some (.ref (ad 200)), some (.int (zI ↑(vT (sb (.inl (5, tP B n i)) (fun i => pTold B n ζ 2 i))))), none]) (st' := [.int (zI 2), .ref (ad 200)]) rfl ?_
      refine v_callV (My := mX10_knownOne) (As := [.int (zI 2)]) (rest := []) (mc := 0) (ms := 0) rfl caX10_knownOne rfl rfl rfl hm2.1 rfl rfl (g_known G _ (s := 2) hA hB hn hm2 h11 n1 n2 n3 (by decide)) rfl rfl (Nat.le_of_ble_eq_true rfl) (by omega) ?_
      rintro _ h3 ⟨rfl, m3, hm3, hk3, hf3⟩
      refine v_run 0 (pc' := 24) (ls' := [some (.ref (ad 200)), some (.int (zI ↑(vT (sb (.inl (5, tP B n i)) (fun i => pTold B n ζ 2 i))))), none]) (st' := [.int (zI ↑(vT (sb (.inl (5, tP B n i)) (fun i => pTold B n ζ 2 i))))]) rfl ?_
      have hm3 : MRd h3 ad sv m3 B n ζ (.inl (5, tP B n i)) := hm3
      refine v_run 2 (pc' := 26) (ls' := [some (.ref (ad 200)), some (.int (zI ↑(vT (sb (.inl (5, tP B n i)) (fun i => pTold B n ζ 2 i))))), some (.int (zI ↑(vT (sb (.inl (5, tP B n i)) (fun i => pTold B n ζ 2 i)))))]) (st' := [.ref (ad 200)]) rfl ?_
      refine v_get rfl hm3.1 rfl ?_
      refine v_run 1 (pc' := 30) (ls' := [some (.ref (ad 200)), some (.int (zI ↑(vT (sb (.inl (5, tP B n i)) (fun i => pTold B n ζ 2 i))))), some (.int (zI ↑(vT (sb (.inl (5, tP B n i)) (fun i => pTold B n ζ 2 i)))))]) (st' := [.int (zI 5), .int (zI (m3 9))]) rfl ?_
      refine v_icmp_eq rfl (fun c30 => ?_) (fun c30 => ?_)
      · refine v_run 1 (pc' := 60) (ls' := [some (.ref (ad 200)), some (.int (zI ↑(vT (sb (.inl (5, tP B n i)) (fun i => pTold B n ζ 2 i))))), some (.int (zI ↑(vT (sb (.inl (5, tP B n i)) (fun i => pTold B n ζ 2 i)))))]) (st' := [.ref (ad 200)]) rfl ?_
        refine v_callV (My := mX10_goesOn) (As := []) (rest := []) (mc := 0) (ms := 0) rfl caX10_goesOn rfl rfl rfl hm3.1 rfl rfl (g_on G _ hA hB hn hm3) rfl rfl (Nat.le_of_ble_eq_true rfl) (by omega) ?_
        rintro _ h4 ⟨rfl, m4, hm4, hk4, hf4⟩
        refine v_run 0 (pc' := 63) (ls' := [some (.ref (ad 200)), some (.int (zI ↑(vT (sb (.inl (5, tP B n i)) (fun i => pTold B n ζ 2 i))))), some (.int (zI ↑(vT (sb (.inl (5, tP B n i)) (fun i => pTold B n ζ 2 i)))))]) (st' := []) rfl ?_
        have hm4 : MRd h4 ad sv m4 B n ζ (.inl (5, tP B n i)) := hm4
        refine v_run 1 (pc' := 64) (ls' := [some (.ref (ad 200)), some (.int (zI ↑(vT (sb (.inl (5, tP B n i)) (fun i => pTold B n ζ 2 i))))), some (.int (zI ↑(vT (sb (.inl (5, tP B n i)) (fun i => pTold B n ζ 2 i)))))]) (st' := [.ref (ad 200)]) rfl ?_
        refine v_get rfl hm4.1 rfl ?_
        refine v_run 1 (pc' := 68) (ls' := [some (.ref (ad 200)), some (.int (zI ↑(vT (sb (.inl (5, tP B n i)) (fun i => pTold B n ζ 2 i))))), some (.int (zI ↑(vT (sb (.inl (5, tP B n i)) (fun i => pTold B n ζ 2 i)))))]) (st' := [.int (zI 5), .int (zI (m4 9))]) rfl ?_
        refine v_icmp_ne rfl (fun c68 => ?_) (fun c68 => ?_)
        · exact absurd (by rw [hm4.2.2.2.2.1]) c68
        · rw [show lq B n ζ i (lRests B n ζ i) = .inl (5, tP B n i) from by simp only [lq, if_neg hq0, lRests, if_pos hcap, sb]]; exact v_vret rfl rfl ⟨rfl, m4, hm4, (((hk1.tr hk2).tr hk3).tr hk4), (((hf1.tr hf2).tr hf3).tr hf4)⟩
      · exact absurd (by rw [hm3.2.2.2.2.1]) c30
    · have hm1 : MRd h1 ad sv m1 B n ζ (.inr (i + 1)) := by have hh := hm1; rw [show sb (.inr i) (fun i => if ζ 8 0 = 6 then .inl (5, tP B n i) else if ζ 0 0 = 0 then .inl (6, tP B n i) else .inr (i + 1)) = (.inr (i + 1) : pR Nat) from (if_neg hcap).trans (if_neg hq0)] at hh; exact hh
      refine v_run 2 (pc' := 15) (ls' := [some (.ref (ad 200)), none, none]) (st' := [.int (zI 2), .ref (ad 200)]) rfl ?_
      refine v_callV (My := mX10_readKnown) (As := [.int (zI 2)]) (rest := []) (mc := 0) (ms := 0) rfl caX10_readKnown rfl rfl rfl hm1.1 rfl rfl (g_rknown G _ (s := 2) hA hB hn hm1 h11 n1 n2 n3 (by decide)) rfl rfl (Nat.le_of_ble_eq_true rfl) (by omega) ?_
      rintro _ h2 ⟨rfl, m2, hm2, hk2, hf2⟩
      refine v_run 0 (pc' := 18) (ls' := [some (.ref (ad 200)), none, none]) (st' := [.int (zI ↑(vT (sb (.inr (i + 1)) (fun i => pTold B n ζ 2 i))))]) rfl ?_
      rcases hr2 : pTold B n ζ 2 (i + 1) with e | x
      · rw [show vT (sb (.inr (i + 1)) (fun i => pTold B n ζ 2 i)) = 0 from by show vT (pTold B n ζ 2 (i + 1)) = _; rw [hr2]; rfl]
        have hm2 : MRd h2 ad sv m2 B n ζ (.inl e) := by have hh := hm2; rw [show sb (.inr (i + 1)) (fun i => sb (pTold B n ζ 2 i) (fun _ => .inr (i + 1))) = (.inl e : pR Nat) from by show sb (pTold B n ζ 2 (i + 1)) _ = _; rw [hr2]; rfl] at hh; exact hh
        have hm2 : MRd h2 ad sv m2 B n ζ (.inl e) := hm2
        refine v_run 3 (pc' := 21) (ls' := [some (.ref (ad 200)), some (.int (zI ↑((0 : Nat)))), none]) (st' := [.int (zI 2), .ref (ad 200)]) rfl ?_
        refine v_callV (My := mX10_knownOne) (As := [.int (zI 2)]) (rest := []) (mc := 0) (ms := 0) rfl caX10_knownOne rfl rfl rfl hm2.1 rfl rfl (g_known G _ (s := 2) hA hB hn hm2 h11 n1 n2 n3 (by decide)) rfl rfl (Nat.le_of_ble_eq_true rfl) (by omega) ?_
        rintro _ h3 ⟨rfl, m3, hm3, hk3, hf3⟩
        refine v_run 0 (pc' := 24) (ls' := [some (.ref (ad 200)), some (.int (zI ↑((0 : Nat)))), none]) (st' := [.int (zI ↑(vT (sb (.inl e) (fun i => pTold B n ζ 2 i))))]) rfl ?_
        have hm3 : MRd h3 ad sv m3 B n ζ (.inl e) := hm3
        refine v_run 2 (pc' := 26) (ls' := [some (.ref (ad 200)), some (.int (zI ↑((0 : Nat)))), some (.int (zI ↑(vT (sb (.inl e) (fun i => pTold B n ζ 2 i)))))]) (st' := [.ref (ad 200)]) rfl ?_
        refine v_get rfl hm3.1 rfl ?_
        refine v_run 1 (pc' := 30) (ls' := [some (.ref (ad 200)), some (.int (zI ↑((0 : Nat)))), some (.int (zI ↑(vT (sb (.inl e) (fun i => pTold B n ζ 2 i)))))]) (st' := [.int (zI 5), .int (zI (m3 9))]) rfl ?_
        refine v_icmp_eq rfl (fun c30 => ?_) (fun c30 => ?_)
        · refine v_run 1 (pc' := 60) (ls' := [some (.ref (ad 200)), some (.int (zI ↑((0 : Nat)))), some (.int (zI ↑(vT (sb (.inl e) (fun i => pTold B n ζ 2 i)))))]) (st' := [.ref (ad 200)]) rfl ?_
          refine v_callV (My := mX10_goesOn) (As := []) (rest := []) (mc := 0) (ms := 0) rfl caX10_goesOn rfl rfl rfl hm3.1 rfl rfl (g_on G _ hA hB hn hm3) rfl rfl (Nat.le_of_ble_eq_true rfl) (by omega) ?_
          rintro _ h4 ⟨rfl, m4, hm4, hk4, hf4⟩
          refine v_run 0 (pc' := 63) (ls' := [some (.ref (ad 200)), some (.int (zI ↑((0 : Nat)))), some (.int (zI ↑(vT (sb (.inl e) (fun i => pTold B n ζ 2 i)))))]) (st' := []) rfl ?_
          have hm4 : MRd h4 ad sv m4 B n ζ (.inl e) := hm4
          refine v_run 1 (pc' := 64) (ls' := [some (.ref (ad 200)), some (.int (zI ↑((0 : Nat)))), some (.int (zI ↑(vT (sb (.inl e) (fun i => pTold B n ζ 2 i)))))]) (st' := [.ref (ad 200)]) rfl ?_
          refine v_get rfl hm4.1 rfl ?_
          refine v_run 1 (pc' := 68) (ls' := [some (.ref (ad 200)), some (.int (zI ↑((0 : Nat)))), some (.int (zI ↑(vT (sb (.inl e) (fun i => pTold B n ζ 2 i)))))]) (st' := [.int (zI 5), .int (zI (m4 9))]) rfl ?_
          refine v_icmp_ne rfl (fun c68 => ?_) (fun c68 => ?_)
          · exact absurd (by rw [hm4.2.2.2.2.1]) c68
          · rw [show lq B n ζ i (lRests B n ζ i) = .inl e from by simp only [lq, if_neg hq0, lRests, if_neg hcap, hr2, sb]]; exact v_vret rfl rfl ⟨rfl, m4, hm4, (((hk1.tr hk2).tr hk3).tr hk4), (((hf1.tr hf2).tr hf3).tr hf4)⟩
        · exact absurd (by rw [hm3.2.2.2.2.1]) c30
      · rw [show vT (sb (.inr (i + 1)) (fun i => pTold B n ζ 2 i)) = x from by show vT (pTold B n ζ 2 (i + 1)) = _; rw [hr2]; rfl]
        have ht2 := pTold_z hzo hr2
        have hm2 : MRd h2 ad sv m2 B n ζ (.inr ((i + 1) + 1)) := by have hh := hm2; rw [show sb (.inr (i + 1)) (fun i => sb (pTold B n ζ 2 i) (fun _ => .inr (i + 1))) = (.inr ((i + 1) + 1) : pR Nat) from by show sb (pTold B n ζ 2 (i + 1)) _ = _; rw [hr2]; rfl] at hh; exact hh
        skip
        have hm2 : MRd h2 ad sv m2 B n ζ (.inr (i + 2)) := hm2
        refine v_run 3 (pc' := 21) (ls' := [some (.ref (ad 200)), some (.int (zI ↑x)), none]) (st' := [.int (zI 2), .ref (ad 200)]) rfl ?_
        refine v_callV (My := mX10_knownOne) (As := [.int (zI 2)]) (rest := []) (mc := 0) (ms := 0) rfl caX10_knownOne rfl rfl rfl hm2.1 rfl rfl (g_known G _ (s := 2) hA hB hn hm2 h11 n1 n2 n3 (by decide)) rfl rfl (Nat.le_of_ble_eq_true rfl) (by omega) ?_
        rintro _ h3 ⟨rfl, m3, hm3, hk3, hf3⟩
        refine v_run 0 (pc' := 24) (ls' := [some (.ref (ad 200)), some (.int (zI ↑x)), none]) (st' := [.int (zI ↑(vT (sb (.inr (i + 2)) (fun i => pTold B n ζ 2 i))))]) rfl ?_
        rcases hr3 : pTold B n ζ 2 (i + 2) with e | y
        · rw [show vT (sb (.inr (i + 2)) (fun i => pTold B n ζ 2 i)) = 0 from by show vT (pTold B n ζ 2 (i + 2)) = _; rw [hr3]; rfl]
          have hm3 : MRd h3 ad sv m3 B n ζ (.inl e) := by have hh := hm3; rw [show sb (.inr (i + 2)) (fun i => sb (pTold B n ζ 2 i) (fun _ => .inr i)) = (.inl e : pR Nat) from by show sb (pTold B n ζ 2 (i + 2)) _ = _; rw [hr3]; rfl] at hh; exact hh
          have hm3 : MRd h3 ad sv m3 B n ζ (.inl e) := hm3
          refine v_run 2 (pc' := 26) (ls' := [some (.ref (ad 200)), some (.int (zI ↑x)), some (.int (zI ↑((0 : Nat))))]) (st' := [.ref (ad 200)]) rfl ?_
          refine v_get rfl hm3.1 rfl ?_
          refine v_run 1 (pc' := 30) (ls' := [some (.ref (ad 200)), some (.int (zI ↑x)), some (.int (zI ↑((0 : Nat))))]) (st' := [.int (zI 5), .int (zI (m3 9))]) rfl ?_
          refine v_icmp_eq rfl (fun c30 => ?_) (fun c30 => ?_)
          · refine v_run 1 (pc' := 60) (ls' := [some (.ref (ad 200)), some (.int (zI ↑x)), some (.int (zI ↑((0 : Nat))))]) (st' := [.ref (ad 200)]) rfl ?_
            refine v_callV (My := mX10_goesOn) (As := []) (rest := []) (mc := 0) (ms := 0) rfl caX10_goesOn rfl rfl rfl hm3.1 rfl rfl (g_on G _ hA hB hn hm3) rfl rfl (Nat.le_of_ble_eq_true rfl) (by omega) ?_
            rintro _ h4 ⟨rfl, m4, hm4, hk4, hf4⟩
            refine v_run 0 (pc' := 63) (ls' := [some (.ref (ad 200)), some (.int (zI ↑x)), some (.int (zI ↑((0 : Nat))))]) (st' := []) rfl ?_
            have hm4 : MRd h4 ad sv m4 B n ζ (.inl e) := hm4
            refine v_run 1 (pc' := 64) (ls' := [some (.ref (ad 200)), some (.int (zI ↑x)), some (.int (zI ↑((0 : Nat))))]) (st' := [.ref (ad 200)]) rfl ?_
            refine v_get rfl hm4.1 rfl ?_
            refine v_run 1 (pc' := 68) (ls' := [some (.ref (ad 200)), some (.int (zI ↑x)), some (.int (zI ↑((0 : Nat))))]) (st' := [.int (zI 5), .int (zI (m4 9))]) rfl ?_
            refine v_icmp_ne rfl (fun c68 => ?_) (fun c68 => ?_)
            · exact absurd (by rw [hm4.2.2.2.2.1]) c68
            · rw [show lq B n ζ i (lRests B n ζ i) = .inl e from by simp only [lq, if_neg hq0, lRests, if_neg hcap, hr2, hr3, sb]]; exact v_vret rfl rfl ⟨rfl, m4, hm4, (((hk1.tr hk2).tr hk3).tr hk4), (((hf1.tr hf2).tr hf3).tr hf4)⟩
          · exact absurd (by rw [hm3.2.2.2.2.1]) c30
        · rw [show vT (sb (.inr (i + 2)) (fun i => pTold B n ζ 2 i)) = y from by show vT (pTold B n ζ 2 (i + 2)) = _; rw [hr3]; rfl]
          have ht3 := pTold_z hzo hr3
          have hm3 : MRd h3 ad sv m3 B n ζ (.inr (i + 2)) := by have hh := hm3; rw [show sb (.inr (i + 2)) (fun i => sb (pTold B n ζ 2 i) (fun _ => .inr i)) = (.inr (i + 2) : pR Nat) from by show sb (pTold B n ζ 2 (i + 2)) _ = _; rw [hr3]; rfl] at hh; exact hh
          have ha5 : x < 5 := by omega
          have qr := r19 x
          refine v_run 2 (pc' := 26) (ls' := [some (.ref (ad 200)), some (.int (zI ↑x)), some (.int (zI ↑y))]) (st' := [.ref (ad 200)]) rfl ?_
          refine v_get rfl hm3.1 rfl ?_
          refine v_run 1 (pc' := 30) (ls' := [some (.ref (ad 200)), some (.int (zI ↑x)), some (.int (zI ↑y))]) (st' := [.int (zI 5), .int (zI (m3 9))]) rfl ?_
          refine v_icmp_eq rfl (fun c30 => ?_) (fun c30 => ?_)
          · exact absurd (hm3.2.2.2.2.2.1 ▸ c30) (m9_ne (i + 2))
          · refine v_run 2 (pc' := 35) (ls' := [some (.ref (ad 200)), some (.int (zI ↑x)), some (.int (zI ↑y))]) (st' := [.int (zI ↑y), .int (zI ↑x)]) rfl ?_
            refine v_icmp_eq rfl (fun c35 => ?_) (fun c35 => ?_)
            · simp (disch := omega) only [zI_lt, zI_le, zI_eq, zI_lt0, zI_le0, zI_0lt, zI_0le, zI_eq0] at c35
              refine v_run 2 (pc' := 56) (ls' := [some (.ref (ad 200)), some (.int (zI ↑x)), some (.int (zI ↑y))]) (st' := [.int (zI 3), .ref (ad 200)]) rfl ?_
              refine v_callV (My := mX10_flaw) (As := [.int (zI 3)]) (rest := []) (mc := 0) (ms := 0) rfl caX10_flaw rfl rfl rfl hm3.1 rfl rfl (g_flaw G _ (f := 3) hA hB hn hm3) rfl rfl (Nat.le_of_ble_eq_true rfl) (by omega) ?_
              rintro _ h4 ⟨rfl, m4, hm4, hk4, hf4⟩
              refine v_run 0 (pc' := 59) (ls' := [some (.ref (ad 200)), some (.int (zI ↑x)), some (.int (zI ↑y))]) (st' := []) rfl ?_
              have hm4 : MRd h4 ad sv m4 B n ζ (.inl (3, tP B n (i + 2))) := hm4
              refine v_run 1 (pc' := 60) (ls' := [some (.ref (ad 200)), some (.int (zI ↑x)), some (.int (zI ↑y))]) (st' := [.ref (ad 200)]) rfl ?_
              refine v_callV (My := mX10_goesOn) (As := []) (rest := []) (mc := 0) (ms := 0) rfl caX10_goesOn rfl rfl rfl hm4.1 rfl rfl (g_on G _ hA hB hn hm4) rfl rfl (Nat.le_of_ble_eq_true rfl) (by omega) ?_
              rintro _ h5 ⟨rfl, m5, hm5, hk5, hf5⟩
              refine v_run 0 (pc' := 63) (ls' := [some (.ref (ad 200)), some (.int (zI ↑x)), some (.int (zI ↑y))]) (st' := []) rfl ?_
              have hm5 : MRd h5 ad sv m5 B n ζ (.inl (3, tP B n (i + 2))) := hm5
              refine v_run 1 (pc' := 64) (ls' := [some (.ref (ad 200)), some (.int (zI ↑x)), some (.int (zI ↑y))]) (st' := [.ref (ad 200)]) rfl ?_
              refine v_get rfl hm5.1 rfl ?_
              refine v_run 1 (pc' := 68) (ls' := [some (.ref (ad 200)), some (.int (zI ↑x)), some (.int (zI ↑y))]) (st' := [.int (zI 5), .int (zI (m5 9))]) rfl ?_
              refine v_icmp_ne rfl (fun c68 => ?_) (fun c68 => ?_)
              · exact absurd (by rw [hm5.2.2.2.2.1]) c68
              · rw [show lq B n ζ i (lRests B n ζ i) = .inl (3, tP B n (i + 2)) from by simp only [lq, if_neg hq0, lRests, if_neg hcap, hr2, hr3, if_pos (Or.inl (show x = y by omega) : x = y ∨ bitN (ζ 19 x) y = true), sb]]; exact v_vret rfl rfl ⟨rfl, m5, hm5, ((((hk1.tr hk2).tr hk3).tr hk4).tr hk5), ((((hf1.tr hf2).tr hf3).tr hf4).tr hf5)⟩
            · simp (disch := omega) only [zI_lt, zI_le, zI_eq, zI_lt0, zI_le0, zI_0lt, zI_0le, zI_eq0] at c35
              refine v_run 1 (pc' := 39) (ls' := [some (.ref (ad 200)), some (.int (zI ↑x)), some (.int (zI ↑y))]) (st' := [.ref (ad 200)]) rfl ?_
              refine v_get rfl hm3.1 rfl ?_
              refine v_run 0 (pc' := 42) (ls' := [some (.ref (ad 200)), some (.int (zI ↑x)), some (.int (zI ↑y))]) (st' := [.ref (ad 230)]) rfl ?_
              refine v_get rfl hm3.2.2.1.1.1 rfl ?_
              refine v_run 1 (pc' := 46) (ls' := [some (.ref (ad 200)), some (.int (zI ↑x)), some (.int (zI ↑y))]) (st' := [.int (zI ↑x), .ref (Sf ad 230 19)]) rfl ?_
              refine v_iaload' rfl hm3.2.2.1.1.2.2.2.2.2.2.2.2.1 (i := x) rfl (by omega) ?_
              refine v_run 1 (pc' := 48) (ls' := [some (.ref (ad 200)), some (.int (zI ↑x)), some (.int (zI ↑y))]) (st' := [.int (zI ↑y), .int (zI ↑(ζ 19 x))]) rfl ?_
              refine v_callS (My := mX10_bit) (As := [.int (zI ↑(ζ 19 x)), .int (zI ↑y)]) (rest := []) (mc := 0) (ms := 0) rfl caX10_bit rfl rfl (q_bit G _ (ζ 19 x) y (by omega) (by omega)) rfl rfl (Nat.le_of_ble_eq_true rfl) (by omega) ?_
              rintro _ _ ⟨rfl, rfl⟩
              refine v_run 0 (pc' := 51) (ls' := [some (.ref (ad 200)), some (.int (zI ↑x)), some (.int (zI ↑y))]) (st' := [.int (zb (bitN (ζ 19 x) y))]) rfl ?_
              refine v_if_eq rfl (fun c51 => ?_) (fun c51 => ?_)
              · rw [zb_n] at c51
                have hnb : ¬ bitN (ζ 19 x) y = true := by rw [c51]; decide
                have hxy : ¬ (x = y ∨ bitN (ζ 19 x) y = true) := fun z => z.elim (fun z => by omega) hnb
                refine v_run 1 (pc' := 60) (ls' := [some (.ref (ad 200)), some (.int (zI ↑x)), some (.int (zI ↑y))]) (st' := [.ref (ad 200)]) rfl ?_
                refine v_callV (My := mX10_goesOn) (As := []) (rest := []) (mc := 0) (ms := 0) rfl caX10_goesOn rfl rfl rfl hm3.1 rfl rfl (g_on G _ hA hB hn hm3) rfl rfl (Nat.le_of_ble_eq_true rfl) (by omega) ?_
                rintro _ h4 ⟨rfl, m4, hm4, hk4, hf4⟩
                refine v_run 0 (pc' := 63) (ls' := [some (.ref (ad 200)), some (.int (zI ↑x)), some (.int (zI ↑y))]) (st' := []) rfl ?_
                have hm4 : MRd h4 ad sv m4 B n ζ (.inr (i + 3)) := hm4
                refine v_run 1 (pc' := 64) (ls' := [some (.ref (ad 200)), some (.int (zI ↑x)), some (.int (zI ↑y))]) (st' := [.ref (ad 200)]) rfl ?_
                refine v_get rfl hm4.1 rfl ?_
                refine v_run 1 (pc' := 68) (ls' := [some (.ref (ad 200)), some (.int (zI ↑x)), some (.int (zI ↑y))]) (st' := [.int (zI 5), .int (zI (m4 9))]) rfl ?_
                refine v_icmp_ne rfl (fun c68 => ?_) (fun c68 => ?_)
                · refine v_run 1 (pc' := 73) (ls' := [some (.ref (ad 200)), some (.int (zI ↑x)), some (.int (zI ↑y))]) (st' := [.ref (ad 200)]) rfl ?_
                  refine v_get rfl hm4.1 rfl ?_
                  refine v_run 0 (pc' := 76) (ls' := [some (.ref (ad 200)), some (.int (zI ↑x)), some (.int (zI ↑y))]) (st' := [.ref (ad 230)]) rfl ?_
                  refine v_get rfl hm4.2.2.1.1.1 rfl ?_
                  refine v_run 2 (pc' := 81) (ls' := [some (.ref (ad 200)), some (.int (zI ↑x)), some (.int (zI ↑y))]) (st' := [.int (zI ↑x), .ref (Sf ad 230 19), .int (zI ↑x), .ref (Sf ad 230 19)]) rfl ?_
                  refine v_iaload' rfl hm4.2.2.1.1.2.2.2.2.2.2.2.2.1 (i := x) rfl (by omega) ?_
                  refine v_run 4 (pc' := 86) (ls' := [some (.ref (ad 200)), some (.int (zI ↑x)), some (.int (zI ↑y))]) (st' := [.int ((zI ↑(ζ 19 x)) ||| ((zI 1) <<< ((zI ↑y) &&& 31))), .int (zI ↑x), .ref (Sf ad 230 19)]) rfl ?_
                  rw [show (((zI ↑(ζ 19 x)) ||| ((zI 1) <<< ((zI ↑y) &&& 31))) : Int32) = zI ↑(ζ 19 x ||| 2 ^ y) from zI_or2 (by omega) (by omega)]
                  refine v_iastore' rfl hm4.2.2.1.1.2.2.2.2.2.2.2.2.1 (i := x) rfl (by omega) ?_
                  rw [ar_upd]
                  have hm5 := hm4.r19 hA x (ζ 19 x ||| 2 ^ y)
                  generalize e5 : hset h4 (Sf ad 230 19) _ = h5 at hm5 ⊢
                  have hf5 : frN ad h4 h5 := e5 ▸ frN.set (Or.inr ⟨by decide, by decide⟩) _
                  refine v_run 1 (pc' := 88) (ls' := [some (.ref (ad 200)), some (.int (zI ↑x)), some (.int (zI ↑y))]) (st' := [.ref (ad 200)]) rfl ?_
                  refine v_get rfl hm5.1 rfl ?_
                  refine v_run 1 (pc' := 92) (ls' := [some (.ref (ad 200)), some (.int (zI ↑x)), some (.int (zI ↑y))]) (st' := [.ref (ad 230), .ref (ad 230)]) rfl ?_
                  refine v_get rfl hm5.2.2.1.1.1 rfl ?_
                  refine v_run 2 (pc' := 97) (ls' := [some (.ref (ad 200)), some (.int (zI ↑x)), some (.int (zI ↑y))]) (st' := [.int ((zI ↑(ζ 8 0)) + (zI 1)), .ref (ad 230)]) rfl ?_
                  rw [show (((zI ↑(ζ 8 0)) + (zI 1)) : Int32) = zI ↑(ζ 8 0 + 1) from zI_s1 _]
                  refine v_put rfl hm5.2.2.1.1.1 rfl rfl (Nat.le_of_ble_eq_true rfl) ?_
                  have hm6 := hm5.i hA 8 (ζ 8 0 + 1) (by decide)
                  generalize e6 : hset h5 (ad 230) _ = h6 at hm6 ⊢
                  have hf6 : frN ad h5 h6 := e6 ▸ frN.set (Or.inr ⟨by decide, by decide⟩) _
                  refine v_run 0 (pc' := 100) (ls' := [some (.ref (ad 200)), some (.int (zI ↑x)), some (.int (zI ↑y))]) (st' := []) rfl ?_
                  rw [show lq B n ζ i (lRests B n ζ i) = .inr (i + 3, (zU (zU ζ 19 x (ζ 19 x ||| 2 ^ y)) 8 0 (ζ 8 0 + 1))) from by simp only [lq, if_neg hq0, lRests, if_neg hcap, hr2, hr3, if_neg hxy, sb]]; exact v_vret rfl rfl ⟨rfl, m4, hm6, (((hk1.tr hk2).tr hk3).tr hk4), (((((hf1.tr hf2).tr hf3).tr hf4).tr hf5).tr hf6)⟩
                · exact absurd (hm4.2.2.2.2.2.1 ▸ c68) (m9_ne (i + 3))
              · rw [zb_n, Bool.not_eq_false] at c51
                refine v_run 2 (pc' := 56) (ls' := [some (.ref (ad 200)), some (.int (zI ↑x)), some (.int (zI ↑y))]) (st' := [.int (zI 3), .ref (ad 200)]) rfl ?_
                refine v_callV (My := mX10_flaw) (As := [.int (zI 3)]) (rest := []) (mc := 0) (ms := 0) rfl caX10_flaw rfl rfl rfl hm3.1 rfl rfl (g_flaw G _ (f := 3) hA hB hn hm3) rfl rfl (Nat.le_of_ble_eq_true rfl) (by omega) ?_
                rintro _ h4 ⟨rfl, m4, hm4, hk4, hf4⟩
                refine v_run 0 (pc' := 59) (ls' := [some (.ref (ad 200)), some (.int (zI ↑x)), some (.int (zI ↑y))]) (st' := []) rfl ?_
                have hm4 : MRd h4 ad sv m4 B n ζ (.inl (3, tP B n (i + 2))) := hm4
                refine v_run 1 (pc' := 60) (ls' := [some (.ref (ad 200)), some (.int (zI ↑x)), some (.int (zI ↑y))]) (st' := [.ref (ad 200)]) rfl ?_
                refine v_callV (My := mX10_goesOn) (As := []) (rest := []) (mc := 0) (ms := 0) rfl caX10_goesOn rfl rfl rfl hm4.1 rfl rfl (g_on G _ hA hB hn hm4) rfl rfl (Nat.le_of_ble_eq_true rfl) (by omega) ?_
                rintro _ h5 ⟨rfl, m5, hm5, hk5, hf5⟩
                refine v_run 0 (pc' := 63) (ls' := [some (.ref (ad 200)), some (.int (zI ↑x)), some (.int (zI ↑y))]) (st' := []) rfl ?_
                have hm5 : MRd h5 ad sv m5 B n ζ (.inl (3, tP B n (i + 2))) := hm5
                refine v_run 1 (pc' := 64) (ls' := [some (.ref (ad 200)), some (.int (zI ↑x)), some (.int (zI ↑y))]) (st' := [.ref (ad 200)]) rfl ?_
                refine v_get rfl hm5.1 rfl ?_
                refine v_run 1 (pc' := 68) (ls' := [some (.ref (ad 200)), some (.int (zI ↑x)), some (.int (zI ↑y))]) (st' := [.int (zI 5), .int (zI (m5 9))]) rfl ?_
                refine v_icmp_ne rfl (fun c68 => ?_) (fun c68 => ?_)
                · exact absurd (by rw [hm5.2.2.2.2.1]) c68
                · rw [show lq B n ζ i (lRests B n ζ i) = .inl (3, tP B n (i + 2)) from by simp only [lq, if_neg hq0, lRests, if_neg hcap, hr2, hr3, if_pos (Or.inr c51 : x = y ∨ bitN (ζ 19 x) y = true), sb]]; exact v_vret rfl rfl ⟨rfl, m5, hm5, ((((hk1.tr hk2).tr hk3).tr hk4).tr hk5), ((((hf1.tr hf2).tr hf3).tr hf4).tr hf5)⟩

set_option maxRecDepth 100000 in
set_option maxHeartbeats 400000 in
theorem g_lDoubt (G : ssG) (h : ssH) {ad : Nat → Nat} {sv : Value} {m : Nat → Int} {B : Nat → Int} {n : Nat} {ζ : zT} {i : Nat}  (hA : ∀ k l, ad k = ad l → k = l) (hB : ∀ k, -128 ≤ B k ∧ B k ≤ 127) (hn : n ≤ 900) (hm : MRd h ad sv m B n ζ (.inr i)) (hzo : zOk ζ)  : ssC G mX10_readDoubted 9 0 0 [.ref (ad 200)] h (GL ad sv m B n ζ (lq B n ζ i (lDoubt B n ζ i)) h) := by
  refine c_of_v okX10_readDoubted (by decide +kernel) (ls := [some (.ref (ad 200)), none]) rfl (Nat.le_of_ble_eq_true rfl) ?_
  obtain ⟨⟨z0, z1, z2, z3, z4, z5, z6, z7, z8, z9, z11⟩, ⟨r12, r13, r14, r15, r16, r17, r18, r19, r20⟩, ⟨n1, n2, n3, n4⟩, zd, ze⟩ := id hzo
  have h11 : ζ 11 0 ≤ 17 := by omega
  refine v_run 1 (pc' := 1) (ls' := [some (.ref (ad 200)), none]) (st' := [.ref (ad 200)]) rfl ?_
  refine v_get rfl hm.1 rfl ?_
  refine v_run 0 (pc' := 4) (ls' := [some (.ref (ad 200)), none]) (st' := [.ref (ad 230)]) rfl ?_
  refine v_get rfl hm.2.2.1.1.1 rfl ?_
  refine v_run 1 (pc' := 8) (ls' := [some (.ref (ad 200)), none]) (st' := [.int (zI (-1)), .int (zI (↑(ζ 9 0) - 1))]) rfl ?_
  refine v_icmp_eq rfl (fun c8 => ?_) (fun c8 => ?_)
  · simp (disch := omega) only [zI_lt, zI_le, zI_eq, zI_lt0, zI_le0, zI_0lt, zI_0le, zI_eq0] at c8
    have h9 : ¬ 0 < ζ 9 0 := by omega
    refine v_run 3 (pc' := 19) (ls' := [some (.ref (ad 200)), none]) (st' := [.int (zI 1), .int (zI 0), .ref (ad 200)]) rfl ?_
    refine v_callV (My := mX10_lineBegins) (As := [.int (zI 0), .int (zI 1)]) (rest := []) (mc := 0) (ms := 0) rfl caX10_lineBegins rfl rfl rfl hm.1 rfl rfl (g_begins G _ (a := 0) (b := 1) hA hB hn hm (by omega) (by omega) (by omega)) rfl rfl (Nat.le_of_ble_eq_true rfl) (by omega) ?_
    rintro _ h1 ⟨rfl, m1, hm1, hk1, hf1⟩
    refine v_run 0 (pc' := 22) (ls' := [some (.ref (ad 200)), none]) (st' := []) rfl ?_
    by_cases hq0 : ζ 0 0 = 0
    · have hcz := hzo.2.2.2.1 hq0
      have hm1 : MRd h1 ad sv m1 B n ζ (.inl (6, tP B n i)) := by have hh := hm1; rw [show sb (.inr i) (fun i => if (0 : Nat) = 1 then .inl (5, tP B n i) else if ζ 0 0 = 0 then .inl (6, tP B n i) else .inr (i + 1)) = (.inl (6, tP B n i) : pR Nat) from by simp only [sb, Nat.zero_ne_one, if_false, if_pos hq0]] at hh; exact hh
      have hm1 : MRd h1 ad sv m1 B n ζ (.inl (6, tP B n i)) := hm1
      refine v_run 2 (pc' := 24) (ls' := [some (.ref (ad 200)), none]) (st' := [.int (zI 1), .ref (ad 200)]) rfl ?_
      refine v_callV (My := mX10_readKnown) (As := [.int (zI 1)]) (rest := []) (mc := 0) (ms := 0) rfl caX10_readKnown rfl rfl rfl hm1.1 rfl rfl (g_rknown G _ (s := 1) hA hB hn hm1 h11 n1 n2 n3 (by decide)) rfl rfl (Nat.le_of_ble_eq_true rfl) (by omega) ?_
      rintro _ h2 ⟨rfl, m2, hm2, hk2, hf2⟩
      refine v_run 0 (pc' := 27) (ls' := [some (.ref (ad 200)), none]) (st' := [.int (zI ↑(vT (sb (.inl (6, tP B n i)) (fun i => pTold B n ζ 1 i))))]) rfl ?_
      have hm2 : MRd h2 ad sv m2 B n ζ (.inl (6, tP B n i)) := hm2
      refine v_run 2 (pc' := 29) (ls' := [some (.ref (ad 200)), some (.int (zI ↑(vT (sb (.inl (6, tP B n i)) (fun i => pTold B n ζ 1 i)))))]) (st' := [.ref (ad 200)]) rfl ?_
      refine v_get rfl hm2.1 rfl ?_
      refine v_run 1 (pc' := 33) (ls' := [some (.ref (ad 200)), some (.int (zI ↑(vT (sb (.inl (6, tP B n i)) (fun i => pTold B n ζ 1 i)))))]) (st' := [.int (zI 5), .int (zI (m2 9))]) rfl ?_
      refine v_icmp_eq rfl (fun c33 => ?_) (fun c33 => ?_)
      · rw [show lq B n ζ i (lDoubt B n ζ i) = .inl (6, tP B n i) from by simp only [lq, if_pos hq0, sb]]; exact v_vret rfl rfl ⟨rfl, m2, hm2, (hk1.tr hk2), (hf1.tr hf2)⟩
      · exact absurd (by rw [hm2.2.2.2.2.1]) c33
    · have hm1 : MRd h1 ad sv m1 B n ζ (.inr (i + 1)) := by have hh := hm1; rw [show sb (.inr i) (fun i => if (0 : Nat) = 1 then .inl (5, tP B n i) else if ζ 0 0 = 0 then .inl (6, tP B n i) else .inr (i + 1)) = (.inr (i + 1) : pR Nat) from by simp only [sb, Nat.zero_ne_one, if_false, if_neg hq0]] at hh; exact hh
      refine v_run 2 (pc' := 24) (ls' := [some (.ref (ad 200)), none]) (st' := [.int (zI 1), .ref (ad 200)]) rfl ?_
      refine v_callV (My := mX10_readKnown) (As := [.int (zI 1)]) (rest := []) (mc := 0) (ms := 0) rfl caX10_readKnown rfl rfl rfl hm1.1 rfl rfl (g_rknown G _ (s := 1) hA hB hn hm1 h11 n1 n2 n3 (by decide)) rfl rfl (Nat.le_of_ble_eq_true rfl) (by omega) ?_
      rintro _ h2 ⟨rfl, m2, hm2, hk2, hf2⟩
      refine v_run 0 (pc' := 27) (ls' := [some (.ref (ad 200)), none]) (st' := [.int (zI ↑(vT (sb (.inr (i + 1)) (fun i => pTold B n ζ 1 i))))]) rfl ?_
      rcases hr2 : pTold B n ζ 1 (i + 1) with e | x
      · rw [show vT (sb (.inr (i + 1)) (fun i => pTold B n ζ 1 i)) = 0 from by show vT (pTold B n ζ 1 (i + 1)) = _; rw [hr2]; rfl]
        have hm2 : MRd h2 ad sv m2 B n ζ (.inl e) := by have hh := hm2; rw [show sb (.inr (i + 1)) (fun i => sb (pTold B n ζ 1 i) (fun _ => .inr (i + 1))) = (.inl e : pR Nat) from by show sb (pTold B n ζ 1 (i + 1)) _ = _; rw [hr2]; rfl] at hh; exact hh
        have hm2 : MRd h2 ad sv m2 B n ζ (.inl e) := hm2
        refine v_run 2 (pc' := 29) (ls' := [some (.ref (ad 200)), some (.int (zI ↑((0 : Nat))))]) (st' := [.ref (ad 200)]) rfl ?_
        refine v_get rfl hm2.1 rfl ?_
        refine v_run 1 (pc' := 33) (ls' := [some (.ref (ad 200)), some (.int (zI ↑((0 : Nat))))]) (st' := [.int (zI 5), .int (zI (m2 9))]) rfl ?_
        refine v_icmp_eq rfl (fun c33 => ?_) (fun c33 => ?_)
        · rw [show lq B n ζ i (lDoubt B n ζ i) = .inl e from by simp only [lq, if_neg hq0, lDoubt, if_neg h9, hr2, sb]]; exact v_vret rfl rfl ⟨rfl, m2, hm2, (hk1.tr hk2), (hf1.tr hf2)⟩
        · exact absurd (by rw [hm2.2.2.2.2.1]) c33
      · rw [show vT (sb (.inr (i + 1)) (fun i => pTold B n ζ 1 i)) = x from by show vT (pTold B n ζ 1 (i + 1)) = _; rw [hr2]; rfl]
        have ht2 := pTold_z hzo hr2
        have hm2 : MRd h2 ad sv m2 B n ζ (.inr ((i + 1) + 1)) := by have hh := hm2; rw [show sb (.inr (i + 1)) (fun i => sb (pTold B n ζ 1 i) (fun _ => .inr (i + 1))) = (.inr ((i + 1) + 1) : pR Nat) from by show sb (pTold B n ζ 1 (i + 1)) _ = _; rw [hr2]; rfl] at hh; exact hh
        refine v_run 2 (pc' := 29) (ls' := [some (.ref (ad 200)), some (.int (zI ↑x))]) (st' := [.ref (ad 200)]) rfl ?_
        refine v_get rfl hm2.1 rfl ?_
        refine v_run 1 (pc' := 33) (ls' := [some (.ref (ad 200)), some (.int (zI ↑x))]) (st' := [.int (zI 5), .int (zI (m2 9))]) rfl ?_
        refine v_icmp_eq rfl (fun c33 => ?_) (fun c33 => ?_)
        · exact absurd (hm2.2.2.2.2.2.1 ▸ c33) (m9_ne ((i + 1) + 1))
        · refine v_run 1 (pc' := 37) (ls' := [some (.ref (ad 200)), some (.int (zI ↑x))]) (st' := [.ref (ad 200)]) rfl ?_
          refine v_get rfl hm2.1 rfl ?_
          refine v_run 1 (pc' := 41) (ls' := [some (.ref (ad 200)), some (.int (zI ↑x))]) (st' := [.int (zI ↑x), .ref (ad 230)]) rfl ?_
          refine v_put rfl hm2.2.2.1.1.1 rfl rfl (Nat.le_of_ble_eq_true rfl) ?_
          have hm3 := hm2.d hA (x + 1) (x := ↑x) (by omega)
          generalize e3 : hset h2 (ad 230) _ = h3 at hm3 ⊢
          have hf3 : frN ad h2 h3 := e3 ▸ frN.set (Or.inr ⟨by decide, by decide⟩) _
          refine v_run 0 (pc' := 44) (ls' := [some (.ref (ad 200)), some (.int (zI ↑x))]) (st' := []) rfl ?_
          rw [show lq B n ζ i (lDoubt B n ζ i) = .inr (i + 2, (zU ζ 9 0 (x + 1))) from by simp only [lq, if_neg hq0, lDoubt, if_neg h9, hr2, sb]]; exact v_vret rfl rfl ⟨rfl, m2, hm3, (hk1.tr hk2), ((hf1.tr hf2).tr hf3)⟩
  · simp (disch := omega) only [zI_lt, zI_le, zI_eq, zI_lt0, zI_le0, zI_0lt, zI_0le, zI_eq0] at c8
    have h9 : 0 < ζ 9 0 := by omega
    have hq0 : ¬ ζ 0 0 = 0 := fun z => by have := zd z; omega
    refine v_run 2 (pc' := 13) (ls' := [some (.ref (ad 200)), none]) (st' := [.int (zI 3), .ref (ad 200)]) rfl ?_
    refine v_callV (My := mX10_flaw) (As := [.int (zI 3)]) (rest := []) (mc := 0) (ms := 0) rfl caX10_flaw rfl rfl rfl hm.1 rfl rfl (g_flaw G _ (f := 3) hA hB hn hm) rfl rfl (Nat.le_of_ble_eq_true rfl) (by omega) ?_
    rintro _ h1 ⟨rfl, m1, hm1, hk1, hf1⟩
    refine v_run 0 (pc' := 16) (ls' := [some (.ref (ad 200)), none]) (st' := []) rfl ?_
    have hm1 : MRd h1 ad sv m1 B n ζ (.inl (3, tP B n i)) := hm1
    refine v_run 3 (pc' := 19) (ls' := [some (.ref (ad 200)), none]) (st' := [.int (zI 1), .int (zI 0), .ref (ad 200)]) rfl ?_
    refine v_callV (My := mX10_lineBegins) (As := [.int (zI 0), .int (zI 1)]) (rest := []) (mc := 0) (ms := 0) rfl caX10_lineBegins rfl rfl rfl hm1.1 rfl rfl (g_begins G _ (a := 0) (b := 1) hA hB hn hm1 (by omega) (by omega) (by omega)) rfl rfl (Nat.le_of_ble_eq_true rfl) (by omega) ?_
    rintro _ h2 ⟨rfl, m2, hm2, hk2, hf2⟩
    refine v_run 0 (pc' := 22) (ls' := [some (.ref (ad 200)), none]) (st' := []) rfl ?_
    have hm2 : MRd h2 ad sv m2 B n ζ (.inl (3, tP B n i)) := hm2
    refine v_run 2 (pc' := 24) (ls' := [some (.ref (ad 200)), none]) (st' := [.int (zI 1), .ref (ad 200)]) rfl ?_
    refine v_callV (My := mX10_readKnown) (As := [.int (zI 1)]) (rest := []) (mc := 0) (ms := 0) rfl caX10_readKnown rfl rfl rfl hm2.1 rfl rfl (g_rknown G _ (s := 1) hA hB hn hm2 h11 n1 n2 n3 (by decide)) rfl rfl (Nat.le_of_ble_eq_true rfl) (by omega) ?_
    rintro _ h3 ⟨rfl, m3, hm3, hk3, hf3⟩
    refine v_run 0 (pc' := 27) (ls' := [some (.ref (ad 200)), none]) (st' := [.int (zI ↑(vT (sb (.inl (3, tP B n i)) (fun i => pTold B n ζ 1 i))))]) rfl ?_
    have hm3 : MRd h3 ad sv m3 B n ζ (.inl (3, tP B n i)) := hm3
    refine v_run 2 (pc' := 29) (ls' := [some (.ref (ad 200)), some (.int (zI ↑(vT (sb (.inl (3, tP B n i)) (fun i => pTold B n ζ 1 i)))))]) (st' := [.ref (ad 200)]) rfl ?_
    refine v_get rfl hm3.1 rfl ?_
    refine v_run 1 (pc' := 33) (ls' := [some (.ref (ad 200)), some (.int (zI ↑(vT (sb (.inl (3, tP B n i)) (fun i => pTold B n ζ 1 i)))))]) (st' := [.int (zI 5), .int (zI (m3 9))]) rfl ?_
    refine v_icmp_eq rfl (fun c33 => ?_) (fun c33 => ?_)
    · rw [show lq B n ζ i (lDoubt B n ζ i) = .inl (3, tP B n i) from by simp only [lq, if_neg hq0, lDoubt, if_pos h9, sb]]; exact v_vret rfl rfl ⟨rfl, m3, hm3, ((hk1.tr hk2).tr hk3), ((hf1.tr hf2).tr hf3)⟩
    · exact absurd (by rw [hm3.2.2.2.2.1]) c33

set_option maxRecDepth 100000 in
set_option maxHeartbeats 400000 in
theorem g_lEnd (G : ssG) (h : ssH) {ad : Nat → Nat} {sv : Value} {m : Nat → Int} {B : Nat → Int} {n : Nat} {ζ : zT} {i : Nat} {q : Nat} (hA : ∀ k l, ad k = ad l → k = l) (hB : ∀ k, -128 ≤ B k ∧ B k ≤ 127) (hn : n ≤ 900) (hm : MRd h ad sv m B n ζ (.inr i)) (hzo : zOk ζ) (he : q ≤ 2) : ssC G mX10_readEnd 8 0 0 [.ref (ad 200), .int (zI ↑q)] h (GL ad sv m B n ζ (lq B n ζ i (lEnd B n q ζ i)) h) := by
  refine c_of_v okX10_readEnd (by decide +kernel) (ls := [some (.ref (ad 200)), some (.int (zI ↑q)), none]) rfl (Nat.le_of_ble_eq_true rfl) ?_
  obtain ⟨⟨z0, z1, z2, z3, z4, z5, z6, z7, z8, z9, z11⟩, ⟨r12, r13, r14, r15, r16, r17, r18, r19, r20⟩, ⟨n1, n2, n3, n4⟩, zd, ze⟩ := id hzo
  have h11 : ζ 11 0 ≤ 17 := by omega
  refine v_run 3 (pc' := 3) (ls' := [some (.ref (ad 200)), some (.int (zI ↑q)), none]) (st' := [.int (zI 1), .int (zI 0), .ref (ad 200)]) rfl ?_
  refine v_callV (My := mX10_lineBegins) (As := [.int (zI 0), .int (zI 1)]) (rest := []) (mc := 0) (ms := 0) rfl caX10_lineBegins rfl rfl rfl hm.1 rfl rfl (g_begins G _ (a := 0) (b := 1) hA hB hn hm (by omega) (by omega) (by omega)) rfl rfl (Nat.le_of_ble_eq_true rfl) (by omega) ?_
  rintro _ h1 ⟨rfl, m1, hm1, hk1, hf1⟩
  refine v_run 0 (pc' := 6) (ls' := [some (.ref (ad 200)), some (.int (zI ↑q)), none]) (st' := []) rfl ?_
  by_cases hq0 : ζ 0 0 = 0
  · have hcz := hzo.2.2.2.1 hq0
    have hm1 : MRd h1 ad sv m1 B n ζ (.inl (6, tP B n i)) := by have hh := hm1; rw [show sb (.inr i) (fun i => if (0 : Nat) = 1 then .inl (5, tP B n i) else if ζ 0 0 = 0 then .inl (6, tP B n i) else .inr (i + 1)) = (.inl (6, tP B n i) : pR Nat) from by simp only [sb, Nat.zero_ne_one, if_false, if_pos hq0]] at hh; exact hh
    have hm1 : MRd h1 ad sv m1 B n ζ (.inl (6, tP B n i)) := hm1
    refine v_run 2 (pc' := 8) (ls' := [some (.ref (ad 200)), some (.int (zI ↑q)), none]) (st' := [.int (zI 2), .ref (ad 200)]) rfl ?_
    refine v_callV (My := mX10_knownOne) (As := [.int (zI 2)]) (rest := []) (mc := 0) (ms := 0) rfl caX10_knownOne rfl rfl rfl hm1.1 rfl rfl (g_known G _ (s := 2) hA hB hn hm1 h11 n1 n2 n3 (by decide)) rfl rfl (Nat.le_of_ble_eq_true rfl) (by omega) ?_
    rintro _ h2 ⟨rfl, m2, hm2, hk2, hf2⟩
    refine v_run 0 (pc' := 11) (ls' := [some (.ref (ad 200)), some (.int (zI ↑q)), none]) (st' := [.int (zI ↑(vT (sb (.inl (6, tP B n i)) (fun i => pTold B n ζ 2 i))))]) rfl ?_
    have hm2 : MRd h2 ad sv m2 B n ζ (.inl (6, tP B n i)) := hm2
    refine v_run 2 (pc' := 13) (ls' := [some (.ref (ad 200)), some (.int (zI ↑q)), some (.int (zI ↑(vT (sb (.inl (6, tP B n i)) (fun i => pTold B n ζ 2 i)))))]) (st' := [.ref (ad 200)]) rfl ?_
    refine v_get rfl hm2.1 rfl ?_
    refine v_run 1 (pc' := 17) (ls' := [some (.ref (ad 200)), some (.int (zI ↑q)), some (.int (zI ↑(vT (sb (.inl (6, tP B n i)) (fun i => pTold B n ζ 2 i)))))]) (st' := [.int (zI 5), .int (zI (m2 9))]) rfl ?_
    refine v_icmp_eq rfl (fun c17 => ?_) (fun c17 => ?_)
    · refine v_run 1 (pc' := 38) (ls' := [some (.ref (ad 200)), some (.int (zI ↑q)), some (.int (zI ↑(vT (sb (.inl (6, tP B n i)) (fun i => pTold B n ζ 2 i)))))]) (st' := [.ref (ad 200)]) rfl ?_
      refine v_callV (My := mX10_goesOn) (As := []) (rest := []) (mc := 0) (ms := 0) rfl caX10_goesOn rfl rfl rfl hm2.1 rfl rfl (g_on G _ hA hB hn hm2) rfl rfl (Nat.le_of_ble_eq_true rfl) (by omega) ?_
      rintro _ h3 ⟨rfl, m3, hm3, hk3, hf3⟩
      refine v_run 0 (pc' := 41) (ls' := [some (.ref (ad 200)), some (.int (zI ↑q)), some (.int (zI ↑(vT (sb (.inl (6, tP B n i)) (fun i => pTold B n ζ 2 i)))))]) (st' := []) rfl ?_
      have hm3 : MRd h3 ad sv m3 B n ζ (.inl (6, tP B n i)) := hm3
      refine v_run 1 (pc' := 42) (ls' := [some (.ref (ad 200)), some (.int (zI ↑q)), some (.int (zI ↑(vT (sb (.inl (6, tP B n i)) (fun i => pTold B n ζ 2 i)))))]) (st' := [.ref (ad 200)]) rfl ?_
      refine v_get rfl hm3.1 rfl ?_
      refine v_run 1 (pc' := 46) (ls' := [some (.ref (ad 200)), some (.int (zI ↑q)), some (.int (zI ↑(vT (sb (.inl (6, tP B n i)) (fun i => pTold B n ζ 2 i)))))]) (st' := [.int (zI 5), .int (zI (m3 9))]) rfl ?_
      refine v_icmp_ne rfl (fun c46 => ?_) (fun c46 => ?_)
      · exact absurd (by rw [hm3.2.2.2.2.1]) c46
      · rw [show lq B n ζ i (lEnd B n q ζ i) = .inl (6, tP B n i) from by simp only [lq, if_pos hq0, sb]]; exact v_vret rfl rfl ⟨rfl, m3, hm3, ((hk1.tr hk2).tr hk3), ((hf1.tr hf2).tr hf3)⟩
    · exact absurd (by rw [hm2.2.2.2.2.1]) c17
  · have hm1 : MRd h1 ad sv m1 B n ζ (.inr (i + 1)) := by have hh := hm1; rw [show sb (.inr i) (fun i => if (0 : Nat) = 1 then .inl (5, tP B n i) else if ζ 0 0 = 0 then .inl (6, tP B n i) else .inr (i + 1)) = (.inr (i + 1) : pR Nat) from by simp only [sb, Nat.zero_ne_one, if_false, if_neg hq0]] at hh; exact hh
    refine v_run 2 (pc' := 8) (ls' := [some (.ref (ad 200)), some (.int (zI ↑q)), none]) (st' := [.int (zI 2), .ref (ad 200)]) rfl ?_
    refine v_callV (My := mX10_knownOne) (As := [.int (zI 2)]) (rest := []) (mc := 0) (ms := 0) rfl caX10_knownOne rfl rfl rfl hm1.1 rfl rfl (g_known G _ (s := 2) hA hB hn hm1 h11 n1 n2 n3 (by decide)) rfl rfl (Nat.le_of_ble_eq_true rfl) (by omega) ?_
    rintro _ h2 ⟨rfl, m2, hm2, hk2, hf2⟩
    refine v_run 0 (pc' := 11) (ls' := [some (.ref (ad 200)), some (.int (zI ↑q)), none]) (st' := [.int (zI ↑(vT (sb (.inr (i + 1)) (fun i => pTold B n ζ 2 i))))]) rfl ?_
    rcases hr2 : pTold B n ζ 2 (i + 1) with e | x
    · rw [show vT (sb (.inr (i + 1)) (fun i => pTold B n ζ 2 i)) = 0 from by show vT (pTold B n ζ 2 (i + 1)) = _; rw [hr2]; rfl]
      have hm2 : MRd h2 ad sv m2 B n ζ (.inl e) := by have hh := hm2; rw [show sb (.inr (i + 1)) (fun i => sb (pTold B n ζ 2 i) (fun _ => .inr i)) = (.inl e : pR Nat) from by show sb (pTold B n ζ 2 (i + 1)) _ = _; rw [hr2]; rfl] at hh; exact hh
      have hm2 : MRd h2 ad sv m2 B n ζ (.inl e) := hm2
      refine v_run 2 (pc' := 13) (ls' := [some (.ref (ad 200)), some (.int (zI ↑q)), some (.int (zI ↑((0 : Nat))))]) (st' := [.ref (ad 200)]) rfl ?_
      refine v_get rfl hm2.1 rfl ?_
      refine v_run 1 (pc' := 17) (ls' := [some (.ref (ad 200)), some (.int (zI ↑q)), some (.int (zI ↑((0 : Nat))))]) (st' := [.int (zI 5), .int (zI (m2 9))]) rfl ?_
      refine v_icmp_eq rfl (fun c17 => ?_) (fun c17 => ?_)
      · refine v_run 1 (pc' := 38) (ls' := [some (.ref (ad 200)), some (.int (zI ↑q)), some (.int (zI ↑((0 : Nat))))]) (st' := [.ref (ad 200)]) rfl ?_
        refine v_callV (My := mX10_goesOn) (As := []) (rest := []) (mc := 0) (ms := 0) rfl caX10_goesOn rfl rfl rfl hm2.1 rfl rfl (g_on G _ hA hB hn hm2) rfl rfl (Nat.le_of_ble_eq_true rfl) (by omega) ?_
        rintro _ h3 ⟨rfl, m3, hm3, hk3, hf3⟩
        refine v_run 0 (pc' := 41) (ls' := [some (.ref (ad 200)), some (.int (zI ↑q)), some (.int (zI ↑((0 : Nat))))]) (st' := []) rfl ?_
        have hm3 : MRd h3 ad sv m3 B n ζ (.inl e) := hm3
        refine v_run 1 (pc' := 42) (ls' := [some (.ref (ad 200)), some (.int (zI ↑q)), some (.int (zI ↑((0 : Nat))))]) (st' := [.ref (ad 200)]) rfl ?_
        refine v_get rfl hm3.1 rfl ?_
        refine v_run 1 (pc' := 46) (ls' := [some (.ref (ad 200)), some (.int (zI ↑q)), some (.int (zI ↑((0 : Nat))))]) (st' := [.int (zI 5), .int (zI (m3 9))]) rfl ?_
        refine v_icmp_ne rfl (fun c46 => ?_) (fun c46 => ?_)
        · exact absurd (by rw [hm3.2.2.2.2.1]) c46
        · rw [show lq B n ζ i (lEnd B n q ζ i) = .inl e from by simp only [lq, if_neg hq0, lEnd, hr2, sb]]; exact v_vret rfl rfl ⟨rfl, m3, hm3, ((hk1.tr hk2).tr hk3), ((hf1.tr hf2).tr hf3)⟩
      · exact absurd (by rw [hm2.2.2.2.2.1]) c17
    · rw [show vT (sb (.inr (i + 1)) (fun i => pTold B n ζ 2 i)) = x from by show vT (pTold B n ζ 2 (i + 1)) = _; rw [hr2]; rfl]
      have ht2 := pTold_z hzo hr2
      have hm2 : MRd h2 ad sv m2 B n ζ (.inr (i + 1)) := by have hh := hm2; rw [show sb (.inr (i + 1)) (fun i => sb (pTold B n ζ 2 i) (fun _ => .inr i)) = (.inr (i + 1) : pR Nat) from by show sb (pTold B n ζ 2 (i + 1)) _ = _; rw [hr2]; rfl] at hh; exact hh
      have ha5 : x < 5 := by omega
      have qr := r20 x
      refine v_run 2 (pc' := 13) (ls' := [some (.ref (ad 200)), some (.int (zI ↑q)), some (.int (zI ↑x))]) (st' := [.ref (ad 200)]) rfl ?_
      refine v_get rfl hm2.1 rfl ?_
      refine v_run 1 (pc' := 17) (ls' := [some (.ref (ad 200)), some (.int (zI ↑q)), some (.int (zI ↑x))]) (st' := [.int (zI 5), .int (zI (m2 9))]) rfl ?_
      refine v_icmp_eq rfl (fun c17 => ?_) (fun c17 => ?_)
      · exact absurd (hm2.2.2.2.2.2.1 ▸ c17) (m9_ne (i + 1))
      · refine v_run 1 (pc' := 21) (ls' := [some (.ref (ad 200)), some (.int (zI ↑q)), some (.int (zI ↑x))]) (st' := [.ref (ad 200)]) rfl ?_
        refine v_get rfl hm2.1 rfl ?_
        refine v_run 0 (pc' := 24) (ls' := [some (.ref (ad 200)), some (.int (zI ↑q)), some (.int (zI ↑x))]) (st' := [.ref (ad 230)]) rfl ?_
        refine v_get rfl hm2.2.2.1.1.1 rfl ?_
        refine v_run 1 (pc' := 28) (ls' := [some (.ref (ad 200)), some (.int (zI ↑q)), some (.int (zI ↑x))]) (st' := [.int (zI ↑x), .ref (Sf ad 230 20)]) rfl ?_
        refine v_iaload' rfl hm2.2.2.1.1.2.2.2.2.2.2.2.2.2 (i := x) rfl (by omega) ?_
        refine v_run 0 (pc' := 29) (ls' := [some (.ref (ad 200)), some (.int (zI ↑q)), some (.int (zI ↑x))]) (st' := [.int (zI ↑(ζ 20 x))]) rfl ?_
        refine v_if_le rfl (fun c29 => ?_) (fun c29 => ?_)
        · simp (disch := omega) only [zI_lt, zI_le, zI_eq, zI_lt0, zI_le0, zI_0lt, zI_0le, zI_eq0] at c29
          refine v_run 1 (pc' := 38) (ls' := [some (.ref (ad 200)), some (.int (zI ↑q)), some (.int (zI ↑x))]) (st' := [.ref (ad 200)]) rfl ?_
          refine v_callV (My := mX10_goesOn) (As := []) (rest := []) (mc := 0) (ms := 0) rfl caX10_goesOn rfl rfl rfl hm2.1 rfl rfl (g_on G _ hA hB hn hm2) rfl rfl (Nat.le_of_ble_eq_true rfl) (by omega) ?_
          rintro _ h3 ⟨rfl, m3, hm3, hk3, hf3⟩
          refine v_run 0 (pc' := 41) (ls' := [some (.ref (ad 200)), some (.int (zI ↑q)), some (.int (zI ↑x))]) (st' := []) rfl ?_
          have hm3 : MRd h3 ad sv m3 B n ζ (.inr (i + 2)) := hm3
          refine v_run 1 (pc' := 42) (ls' := [some (.ref (ad 200)), some (.int (zI ↑q)), some (.int (zI ↑x))]) (st' := [.ref (ad 200)]) rfl ?_
          refine v_get rfl hm3.1 rfl ?_
          refine v_run 1 (pc' := 46) (ls' := [some (.ref (ad 200)), some (.int (zI ↑q)), some (.int (zI ↑x))]) (st' := [.int (zI 5), .int (zI (m3 9))]) rfl ?_
          refine v_icmp_ne rfl (fun c46 => ?_) (fun c46 => ?_)
          · refine v_run 1 (pc' := 51) (ls' := [some (.ref (ad 200)), some (.int (zI ↑q)), some (.int (zI ↑x))]) (st' := [.ref (ad 200)]) rfl ?_
            refine v_get rfl hm3.1 rfl ?_
            refine v_run 0 (pc' := 54) (ls' := [some (.ref (ad 200)), some (.int (zI ↑q)), some (.int (zI ↑x))]) (st' := [.ref (ad 230)]) rfl ?_
            refine v_get rfl hm3.2.2.1.1.1 rfl ?_
            refine v_run 2 (pc' := 59) (ls' := [some (.ref (ad 200)), some (.int (zI ↑q)), some (.int (zI ↑x))]) (st' := [.int (zI ↑q), .int (zI ↑x), .ref (Sf ad 230 20)]) rfl ?_
            refine v_iastore' rfl hm3.2.2.1.1.2.2.2.2.2.2.2.2.2 (i := x) rfl (by omega) ?_
            rw [ar_upd]
            have hm4 := hm3.r20 hA x q
            generalize e4 : hset h3 (Sf ad 230 20) _ = h4 at hm4 ⊢
            have hf4 : frN ad h3 h4 := e4 ▸ frN.set (Or.inr ⟨by decide, by decide⟩) _
            refine v_run 1 (pc' := 61) (ls' := [some (.ref (ad 200)), some (.int (zI ↑q)), some (.int (zI ↑x))]) (st' := [.ref (ad 200)]) rfl ?_
            refine v_get rfl hm4.1 rfl ?_
            refine v_run 1 (pc' := 65) (ls' := [some (.ref (ad 200)), some (.int (zI ↑q)), some (.int (zI ↑x))]) (st' := [.ref (ad 230), .ref (ad 230)]) rfl ?_
            refine v_get rfl hm4.2.2.1.1.1 rfl ?_
            refine v_run 2 (pc' := 70) (ls' := [some (.ref (ad 200)), some (.int (zI ↑q)), some (.int (zI ↑x))]) (st' := [.int ((zI ↑(ζ 10 0)) + (zI 1)), .ref (ad 230)]) rfl ?_
            rw [show (((zI ↑(ζ 10 0)) + (zI 1)) : Int32) = zI ↑(ζ 10 0 + 1) from zI_s1 _]
            refine v_put rfl hm4.2.2.1.1.1 rfl rfl (Nat.le_of_ble_eq_true rfl) ?_
            have hm5 := hm4.i hA 10 (ζ 10 0 + 1) (by decide)
            generalize e5 : hset h4 (ad 230) _ = h5 at hm5 ⊢
            have hf5 : frN ad h4 h5 := e5 ▸ frN.set (Or.inr ⟨by decide, by decide⟩) _
            refine v_run 0 (pc' := 73) (ls' := [some (.ref (ad 200)), some (.int (zI ↑q)), some (.int (zI ↑x))]) (st' := []) rfl ?_
            rw [show lq B n ζ i (lEnd B n q ζ i) = .inr (i + 2, (zU (zU ζ 20 x q) 10 0 (ζ 10 0 + 1))) from by simp only [lq, if_neg hq0, lEnd, hr2, if_neg (show ¬ 0 < ζ 20 x by omega), sb]]; exact v_vret rfl rfl ⟨rfl, m3, hm5, ((hk1.tr hk2).tr hk3), ((((hf1.tr hf2).tr hf3).tr hf4).tr hf5)⟩
          · exact absurd (hm3.2.2.2.2.2.1 ▸ c46) (m9_ne (i + 2))
        · simp (disch := omega) only [zI_lt, zI_le, zI_eq, zI_lt0, zI_le0, zI_0lt, zI_0le, zI_eq0] at c29
          refine v_run 2 (pc' := 34) (ls' := [some (.ref (ad 200)), some (.int (zI ↑q)), some (.int (zI ↑x))]) (st' := [.int (zI 3), .ref (ad 200)]) rfl ?_
          refine v_callV (My := mX10_flaw) (As := [.int (zI 3)]) (rest := []) (mc := 0) (ms := 0) rfl caX10_flaw rfl rfl rfl hm2.1 rfl rfl (g_flaw G _ (f := 3) hA hB hn hm2) rfl rfl (Nat.le_of_ble_eq_true rfl) (by omega) ?_
          rintro _ h3 ⟨rfl, m3, hm3, hk3, hf3⟩
          refine v_run 0 (pc' := 37) (ls' := [some (.ref (ad 200)), some (.int (zI ↑q)), some (.int (zI ↑x))]) (st' := []) rfl ?_
          have hm3 : MRd h3 ad sv m3 B n ζ (.inl (3, tP B n (i + 1))) := hm3
          refine v_run 1 (pc' := 38) (ls' := [some (.ref (ad 200)), some (.int (zI ↑q)), some (.int (zI ↑x))]) (st' := [.ref (ad 200)]) rfl ?_
          refine v_callV (My := mX10_goesOn) (As := []) (rest := []) (mc := 0) (ms := 0) rfl caX10_goesOn rfl rfl rfl hm3.1 rfl rfl (g_on G _ hA hB hn hm3) rfl rfl (Nat.le_of_ble_eq_true rfl) (by omega) ?_
          rintro _ h4 ⟨rfl, m4, hm4, hk4, hf4⟩
          refine v_run 0 (pc' := 41) (ls' := [some (.ref (ad 200)), some (.int (zI ↑q)), some (.int (zI ↑x))]) (st' := []) rfl ?_
          have hm4 : MRd h4 ad sv m4 B n ζ (.inl (3, tP B n (i + 1))) := hm4
          refine v_run 1 (pc' := 42) (ls' := [some (.ref (ad 200)), some (.int (zI ↑q)), some (.int (zI ↑x))]) (st' := [.ref (ad 200)]) rfl ?_
          refine v_get rfl hm4.1 rfl ?_
          refine v_run 1 (pc' := 46) (ls' := [some (.ref (ad 200)), some (.int (zI ↑q)), some (.int (zI ↑x))]) (st' := [.int (zI 5), .int (zI (m4 9))]) rfl ?_
          refine v_icmp_ne rfl (fun c46 => ?_) (fun c46 => ?_)
          · exact absurd (by rw [hm4.2.2.2.2.1]) c46
          · rw [show lq B n ζ i (lEnd B n q ζ i) = .inl (3, tP B n (i + 1)) from by simp only [lq, if_neg hq0, lEnd, hr2, if_pos (show 0 < ζ 20 x by omega), sb]]; exact v_vret rfl rfl ⟨rfl, m4, hm4, (((hk1.tr hk2).tr hk3).tr hk4), (((hf1.tr hf2).tr hf3).tr hf4)⟩

set_option maxRecDepth 100000 in
set_option maxHeartbeats 400000 in
theorem g_lSen (G : ssG) (h : ssH) {ad : Nat → Nat} {sv : Value} {m : Nat → Int} {B : Nat → Int} {n : Nat} {ζ : zT} {i : Nat}  (hA : ∀ k l, ad k = ad l → k = l) (hB : ∀ k, -128 ≤ B k ∧ B k ≤ 127) (hn : n ≤ 900) (hm : MRd h ad sv m B n ζ (.inr i)) (hzo : zOk ζ)  : ssC G mX10_readSenator 9 0 0 [.ref (ad 200)] h (GL ad sv m B n ζ (lq B n ζ i (lSen B n ζ i)) h) := by
  refine c_of_v okX10_readSenator (by decide +kernel) (ls := [some (.ref (ad 200)), none, none, none, none, none, none, none]) rfl (Nat.le_of_ble_eq_true rfl) ?_
  obtain ⟨⟨z0, z1, z2, z3, z4, z5, z6, z7, z8, z9, z11⟩, ⟨r12, r13, r14, r15, r16, r17, r18, r19, r20⟩, ⟨n1, n2, n3, n4⟩, zd, ze⟩ := id hzo
  have h11 : ζ 11 0 ≤ 17 := by omega
  refine v_run 2 (pc' := 2) (ls' := [some (.ref (ad 200)), none, none, none, none, none, none, none]) (st' := [.ref (ad 200), .ref (ad 200)]) rfl ?_
  refine v_get rfl hm.1 rfl ?_
  refine v_run 0 (pc' := 5) (ls' := [some (.ref (ad 200)), none, none, none, none, none, none, none]) (st' := [.ref (ad 230), .ref (ad 200)]) rfl ?_
  refine v_get rfl hm.2.2.1.1.1 rfl ?_
  refine v_run 1 (pc' := 10) (ls' := [some (.ref (ad 200)), none, none, none, none, none, none, none]) (st' := [.int (zI 6), .int (zI ↑(ζ 5 0)), .ref (ad 200)]) rfl ?_
  refine v_callV (My := mX10_lineBegins) (As := [.int (zI ↑(ζ 5 0)), .int (zI 6)]) (rest := []) (mc := 0) (ms := 0) rfl caX10_lineBegins rfl rfl rfl hm.1 rfl rfl (g_begins G _ (a := ζ 5 0) (b := 6) hA hB hn hm (by omega) (by omega) (by omega)) rfl rfl (Nat.le_of_ble_eq_true rfl) (by omega) ?_
  rintro _ h1 ⟨rfl, m1, hm1, hk1, hf1⟩
  refine v_run 0 (pc' := 13) (ls' := [some (.ref (ad 200)), none, none, none, none, none, none, none]) (st' := []) rfl ?_
  by_cases hq0 : ζ 0 0 = 0
  · have hcz := hzo.2.2.2.1 hq0
    have hm1 : MRd h1 ad sv m1 B n ζ (.inl (6, tP B n i)) := by have hh := hm1; rw [show sb (.inr i) (fun i => if ζ 5 0 = 6 then .inl (5, tP B n i) else if ζ 0 0 = 0 then .inl (6, tP B n i) else .inr (i + 1)) = (.inl (6, tP B n i) : pR Nat) from (if_neg (by omega)).trans (if_pos hq0)] at hh; exact hh
    have hm1 : MRd h1 ad sv m1 B n ζ (.inl (6, tP B n i)) := hm1
    refine v_run 1 (pc' := 14) (ls' := [some (.ref (ad 200)), none, none, none, none, none, none, none]) (st' := [.ref (ad 200)]) rfl ?_
    refine v_callV (My := mX10_readFresh) (As := []) (rest := []) (mc := 0) (ms := 0) rfl caX10_readFresh rfl rfl rfl hm1.1 rfl rfl (g_fresh G _ hA hB hn hm1 h11 n1) rfl rfl (Nat.le_of_ble_eq_true rfl) (by omega) ?_
    rintro _ h2 ⟨x2, rfl, px2, m2, hm2, hk2, hf2⟩
    refine v_run 0 (pc' := 17) (ls' := [some (.ref (ad 200)), none, none, none, none, none, none, none]) (st' := [.long x2]) rfl ?_
    have hm2 : MRd h2 ad sv m2 B n ζ (.inl (6, tP B n i)) := hm2
    refine v_run 2 (pc' := 19) (ls' := [some (.ref (ad 200)), some (.long x2), none, none, none, none, none, none]) (st' := [.ref (ad 200)]) rfl ?_
    refine v_ldcS rfl ?_
    refine v_run 0 (pc' := 21) (ls' := [some (.ref (ad 200)), some (.long x2), none, none, none, none, none, none]) (st' := [.ref (gK G 18), .ref (ad 200)]) rfl ?_
    refine v_callV (My := mX10_isWord) (As := [.ref (gK G 18)]) (rest := []) (mc := 0) (ms := 0) rfl caX10_isWord rfl rfl rfl hm2.1 rfl rfl (g_isWord G _ (q := 19) hA hB hn hm2 (by decide)) rfl rfl (Nat.le_of_ble_eq_true rfl) (by omega) ?_
    rintro _ _ ⟨rfl, rfl⟩
    refine v_run 0 (pc' := 24) (ls' := [some (.ref (ad 200)), some (.long x2), none, none, none, none, none, none]) (st' := [.int (zb (isU B n 19 (.inl (6, tP B n i))))]) rfl ?_
    refine v_if_eq rfl (fun c24 => ?_) (fun c24 => ?_)
    · have hm2 : MRd h2 ad sv m2 B n ζ (.inl (6, tP B n i)) := hm2
      refine v_run 1 (pc' := 32) (ls' := [some (.ref (ad 200)), some (.long x2), none, none, none, none, none, none]) (st' := [.ref (ad 200)]) rfl ?_
      refine v_ldcS rfl ?_
      refine v_run 0 (pc' := 34) (ls' := [some (.ref (ad 200)), some (.long x2), none, none, none, none, none, none]) (st' := [.ref (gK G 19), .ref (ad 200)]) rfl ?_
      refine v_callV (My := mX10_isWord) (As := [.ref (gK G 19)]) (rest := []) (mc := 0) (ms := 0) rfl caX10_isWord rfl rfl rfl hm2.1 rfl rfl (g_isWord G _ (q := 20) hA hB hn hm2 (by decide)) rfl rfl (Nat.le_of_ble_eq_true rfl) (by omega) ?_
      rintro _ _ ⟨rfl, rfl⟩
      refine v_run 0 (pc' := 37) (ls' := [some (.ref (ad 200)), some (.long x2), none, none, none, none, none, none]) (st' := [.int (zb (isU B n 20 (.inl (6, tP B n i))))]) rfl ?_
      refine v_if_eq rfl (fun c37 => ?_) (fun c37 => ?_)
      · have hm2 : MRd h2 ad sv m2 B n ζ (.inl (6, tP B n i)) := hm2
        refine v_run 1 (pc' := 45) (ls' := [some (.ref (ad 200)), some (.long x2), none, none, none, none, none, none]) (st' := [.ref (ad 200)]) rfl ?_
        refine v_ldcS rfl ?_
        refine v_run 0 (pc' := 47) (ls' := [some (.ref (ad 200)), some (.long x2), none, none, none, none, none, none]) (st' := [.ref (gK G 20), .ref (ad 200)]) rfl ?_
        refine v_callV (My := mX10_isWord) (As := [.ref (gK G 20)]) (rest := []) (mc := 0) (ms := 0) rfl caX10_isWord rfl rfl rfl hm2.1 rfl rfl (g_isWord G _ (q := 21) hA hB hn hm2 (by decide)) rfl rfl (Nat.le_of_ble_eq_true rfl) (by omega) ?_
        rintro _ _ ⟨rfl, rfl⟩
        refine v_run 0 (pc' := 50) (ls' := [some (.ref (ad 200)), some (.long x2), none, none, none, none, none, none]) (st' := [.int (zb (isU B n 21 (.inl (6, tP B n i))))]) rfl ?_
        refine v_if_eq rfl (fun c50 => ?_) (fun c50 => ?_)
        · have hm2 : MRd h2 ad sv m2 B n ζ (.inl (6, tP B n i)) := hm2
          refine v_run 4 (pc' := 61) (ls' := [some (.ref (ad 200)), some (.long x2), none, some (.int (zI (-1))), none, none, none, none]) (st' := [.int (zI (-1)), .int (zI (-1))]) rfl ?_
          refine v_icmp_ne rfl (fun c61 => ?_) (fun c61 => ?_)
          · exact absurd rfl c61
          · refine v_run 2 (pc' := 66) (ls' := [some (.ref (ad 200)), some (.long x2), none, some (.int (zI (-1))), none, none, none, none]) (st' := [.int (zI 1), .ref (ad 200)]) rfl ?_
            refine v_callV (My := mX10_flaw) (As := [.int (zI 1)]) (rest := []) (mc := 0) (ms := 0) rfl caX10_flaw rfl rfl rfl hm2.1 rfl rfl (g_flaw G _ (f := 1) hA hB hn hm2) rfl rfl (Nat.le_of_ble_eq_true rfl) (by omega) ?_
            rintro _ h3 ⟨rfl, m3, hm3, hk3, hf3⟩
            refine v_run 0 (pc' := 69) (ls' := [some (.ref (ad 200)), some (.long x2), none, some (.int (zI (-1))), none, none, none, none]) (st' := []) rfl ?_
            have hm3 : MRd h3 ad sv m3 B n ζ (.inl (6, tP B n i)) := hm3
            refine v_run 1 (pc' := 70) (ls' := [some (.ref (ad 200)), some (.long x2), none, some (.int (zI (-1))), none, none, none, none]) (st' := [.ref (ad 200)]) rfl ?_
            refine v_callV (My := mX10_goesOn) (As := []) (rest := []) (mc := 0) (ms := 0) rfl caX10_goesOn rfl rfl rfl hm3.1 rfl rfl (g_on G _ hA hB hn hm3) rfl rfl (Nat.le_of_ble_eq_true rfl) (by omega) ?_
            rintro _ h4 ⟨rfl, m4, hm4, hk4, hf4⟩
            refine v_run 0 (pc' := 73) (ls' := [some (.ref (ad 200)), some (.long x2), none, some (.int (zI (-1))), none, none, none, none]) (st' := []) rfl ?_
            have hm4 : MRd h4 ad sv m4 B n ζ (.inl (6, tP B n i)) := hm4
            refine v_run 1 (pc' := 74) (ls' := [some (.ref (ad 200)), some (.long x2), none, some (.int (zI (-1))), none, none, none, none]) (st' := [.ref (ad 200)]) rfl ?_
            refine v_ldcS rfl ?_
            refine v_run 0 (pc' := 76) (ls' := [some (.ref (ad 200)), some (.long x2), none, some (.int (zI (-1))), none, none, none, none]) (st' := [.ref (gK G 14), .ref (ad 200)]) rfl ?_
            refine v_callV (My := mX10_needs) (As := [.ref (gK G 14)]) (rest := []) (mc := 0) (ms := 0) rfl caX10_needs rfl rfl rfl hm4.1 rfl rfl (g_needs G _ (q := 15) hA hB hn hm4 (by decide)) rfl rfl (Nat.le_of_ble_eq_true rfl) (by omega) ?_
            rintro _ h5 ⟨rfl, m5, hm5, hk5, hf5⟩
            refine v_run 0 (pc' := 79) (ls' := [some (.ref (ad 200)), some (.long x2), none, some (.int (zI (-1))), none, none, none, none]) (st' := []) rfl ?_
            have hm5 : MRd h5 ad sv m5 B n ζ (.inl (6, tP B n i)) := hm5
            refine v_run 2 (pc' := 81) (ls' := [some (.ref (ad 200)), some (.long x2), none, some (.int (zI (-1))), none, none, none, none]) (st' := [.int (zI 0), .ref (ad 200)]) rfl ?_
            refine v_callV (My := mX10_knownOne) (As := [.int (zI 0)]) (rest := []) (mc := 0) (ms := 0) rfl caX10_knownOne rfl rfl rfl hm5.1 rfl rfl (g_known G _ (s := 0) hA hB hn hm5 h11 n1 n2 n3 (by decide)) rfl rfl (Nat.le_of_ble_eq_true rfl) (by omega) ?_
            rintro _ h6 ⟨rfl, m6, hm6, hk6, hf6⟩
            refine v_run 0 (pc' := 84) (ls' := [some (.ref (ad 200)), some (.long x2), none, some (.int (zI (-1))), none, none, none, none]) (st' := [.int (zI ↑(vT (sb (.inl (6, tP B n i)) (fun i => pTold B n ζ 0 i))))]) rfl ?_
            have hm6 : MRd h6 ad sv m6 B n ζ (.inl (6, tP B n i)) := hm6
            refine v_run 2 (pc' := 87) (ls' := [some (.ref (ad 200)), some (.long x2), none, some (.int (zI (-1))), some (.int (zI ↑(vT (sb (.inl (6, tP B n i)) (fun i => pTold B n ζ 0 i))))), none, none, none]) (st' := [.ref (ad 200)]) rfl ?_
            refine v_get rfl hm6.1 rfl ?_
            refine v_run 1 (pc' := 91) (ls' := [some (.ref (ad 200)), some (.long x2), none, some (.int (zI (-1))), some (.int (zI ↑(vT (sb (.inl (6, tP B n i)) (fun i => pTold B n ζ 0 i))))), none, none, none]) (st' := [.int (zI 5), .int (zI (m6 9))]) rfl ?_
            refine v_icmp_eq rfl (fun c91 => ?_) (fun c91 => ?_)
            · refine v_run 1 (pc' := 113) (ls' := [some (.ref (ad 200)), some (.long x2), none, some (.int (zI (-1))), some (.int (zI ↑(vT (sb (.inl (6, tP B n i)) (fun i => pTold B n ζ 0 i))))), none, none, none]) (st' := [.ref (ad 200)]) rfl ?_
              refine v_callV (My := mX10_goesOn) (As := []) (rest := []) (mc := 0) (ms := 0) rfl caX10_goesOn rfl rfl rfl hm6.1 rfl rfl (g_on G _ hA hB hn hm6) rfl rfl (Nat.le_of_ble_eq_true rfl) (by omega) ?_
              rintro _ h7 ⟨rfl, m7, hm7, hk7, hf7⟩
              refine v_run 0 (pc' := 116) (ls' := [some (.ref (ad 200)), some (.long x2), none, some (.int (zI (-1))), some (.int (zI ↑(vT (sb (.inl (6, tP B n i)) (fun i => pTold B n ζ 0 i))))), none, none, none]) (st' := []) rfl ?_
              have hm7 : MRd h7 ad sv m7 B n ζ (.inl (6, tP B n i)) := hm7
              refine v_run 1 (pc' := 117) (ls' := [some (.ref (ad 200)), some (.long x2), none, some (.int (zI (-1))), some (.int (zI ↑(vT (sb (.inl (6, tP B n i)) (fun i => pTold B n ζ 0 i))))), none, none, none]) (st' := [.ref (ad 200)]) rfl ?_
              refine v_ldcSw v_ldcw_in.1 rfl ?_
              refine v_run 2 (pc' := 123) (ls' := [some (.ref (ad 200)), some (.long x2), none, some (.int (zI (-1))), some (.int (zI ↑(vT (sb (.inl (6, tP B n i)) (fun i => pTold B n ζ 0 i))))), none, none, none]) (st' := [.int (zI 99), .int (zI 1), .ref (gK G 15), .ref (ad 200)]) rfl ?_
              refine v_callV (My := mX10_readPart) (As := [.ref (gK G 15), .int (zI 1), .int (zI 99)]) (rest := []) (mc := 0) (ms := 0) rfl caX10_readPart rfl rfl rfl hm7.1 rfl rfl (g_part G _ (q := 16) (lo := 1) (hi := 99) hA hB hn hm7 (by decide) (by decide) (by decide)) rfl rfl (Nat.le_of_ble_eq_true rfl) (by omega) ?_
              rintro _ h8 ⟨rfl, m8, hm8, hk8, hf8⟩
              refine v_run 0 (pc' := 126) (ls' := [some (.ref (ad 200)), some (.long x2), none, some (.int (zI (-1))), some (.int (zI ↑(vT (sb (.inl (6, tP B n i)) (fun i => pTold B n ζ 0 i))))), none, none, none]) (st' := [.int (zI ↑(vP (sb (.inl (6, tP B n i)) (fun i => pNum B n 16 1 99 i)) 1))]) rfl ?_
              have hm8 : MRd h8 ad sv m8 B n ζ (.inl (6, tP B n i)) := hm8
              refine v_run 2 (pc' := 129) (ls' := [some (.ref (ad 200)), some (.long x2), none, some (.int (zI (-1))), some (.int (zI ↑(vT (sb (.inl (6, tP B n i)) (fun i => pTold B n ζ 0 i))))), some (.int (zI ↑(vP (sb (.inl (6, tP B n i)) (fun i => pNum B n 16 1 99 i)) 1))), none, none]) (st' := [.ref (ad 200)]) rfl ?_
              refine v_ldcSw v_ldcw_in.2.1 rfl ?_
              refine v_run 2 (pc' := 135) (ls' := [some (.ref (ad 200)), some (.long x2), none, some (.int (zI (-1))), some (.int (zI ↑(vT (sb (.inl (6, tP B n i)) (fun i => pTold B n ζ 0 i))))), some (.int (zI ↑(vP (sb (.inl (6, tP B n i)) (fun i => pNum B n 16 1 99 i)) 1))), none, none]) (st' := [.int (zI 9), .int (zI 0), .ref (gK G 16), .ref (ad 200)]) rfl ?_
              refine v_callV (My := mX10_readPart) (As := [.ref (gK G 16), .int (zI 0), .int (zI 9)]) (rest := []) (mc := 0) (ms := 0) rfl caX10_readPart rfl rfl rfl hm8.1 rfl rfl (g_part G _ (q := 17) (lo := 0) (hi := 9) hA hB hn hm8 (by decide) (by decide) (by decide)) rfl rfl (Nat.le_of_ble_eq_true rfl) (by omega) ?_
              rintro _ h9 ⟨rfl, m9, hm9, hk9, hf9⟩
              refine v_run 0 (pc' := 138) (ls' := [some (.ref (ad 200)), some (.long x2), none, some (.int (zI (-1))), some (.int (zI ↑(vT (sb (.inl (6, tP B n i)) (fun i => pTold B n ζ 0 i))))), some (.int (zI ↑(vP (sb (.inl (6, tP B n i)) (fun i => pNum B n 16 1 99 i)) 1))), none, none]) (st' := [.int (zI ↑(vP (sb (.inl (6, tP B n i)) (fun i => pNum B n 17 0 9 i)) 0))]) rfl ?_
              have hm9 : MRd h9 ad sv m9 B n ζ (.inl (6, tP B n i)) := hm9
              refine v_run 2 (pc' := 141) (ls' := [some (.ref (ad 200)), some (.long x2), none, some (.int (zI (-1))), some (.int (zI ↑(vT (sb (.inl (6, tP B n i)) (fun i => pTold B n ζ 0 i))))), some (.int (zI ↑(vP (sb (.inl (6, tP B n i)) (fun i => pNum B n 16 1 99 i)) 1))), some (.int (zI ↑(vP (sb (.inl (6, tP B n i)) (fun i => pNum B n 17 0 9 i)) 0))), none]) (st' := [.ref (ad 200)]) rfl ?_
              refine v_get rfl hm9.1 rfl ?_
              refine v_run 1 (pc' := 145) (ls' := [some (.ref (ad 200)), some (.long x2), none, some (.int (zI (-1))), some (.int (zI ↑(vT (sb (.inl (6, tP B n i)) (fun i => pTold B n ζ 0 i))))), some (.int (zI ↑(vP (sb (.inl (6, tP B n i)) (fun i => pNum B n 16 1 99 i)) 1))), some (.int (zI ↑(vP (sb (.inl (6, tP B n i)) (fun i => pNum B n 17 0 9 i)) 0))), none]) (st' := [.int (zI 5), .int (zI (m9 9))]) rfl ?_
              refine v_icmp_ne rfl (fun c145 => ?_) (fun c145 => ?_)
              · exact absurd (by rw [hm9.2.2.2.2.1]) c145
              · rw [show lq B n ζ i (lSen B n ζ i) = .inl (6, tP B n i) from by simp only [lq, if_pos hq0, sb]]; exact v_vret rfl rfl ⟨rfl, m9, hm9, ((((((((hk1.tr hk2).tr hk3).tr hk4).tr hk5).tr hk6).tr hk7).tr hk8).tr hk9), ((((((((hf1.tr hf2).tr hf3).tr hf4).tr hf5).tr hf6).tr hf7).tr hf8).tr hf9)⟩
            · exact absurd (by rw [hm6.2.2.2.2.1]) c91
        · exact absurd rfl c50
      · exact absurd rfl c37
    · exact absurd rfl c24
  · by_cases hcap : ζ 5 0 = 6
    · have hm1 : MRd h1 ad sv m1 B n ζ (.inl (5, tP B n i)) := by have hh := hm1; rw [show sb (.inr i) (fun i => if ζ 5 0 = 6 then .inl (5, tP B n i) else if ζ 0 0 = 0 then .inl (6, tP B n i) else .inr (i + 1)) = (.inl (5, tP B n i) : pR Nat) from if_pos hcap] at hh; exact hh
      have hm1 : MRd h1 ad sv m1 B n ζ (.inl (5, tP B n i)) := hm1
      refine v_run 1 (pc' := 14) (ls' := [some (.ref (ad 200)), none, none, none, none, none, none, none]) (st' := [.ref (ad 200)]) rfl ?_
      refine v_callV (My := mX10_readFresh) (As := []) (rest := []) (mc := 0) (ms := 0) rfl caX10_readFresh rfl rfl rfl hm1.1 rfl rfl (g_fresh G _ hA hB hn hm1 h11 n1) rfl rfl (Nat.le_of_ble_eq_true rfl) (by omega) ?_
      rintro _ h2 ⟨x2, rfl, px2, m2, hm2, hk2, hf2⟩
      refine v_run 0 (pc' := 17) (ls' := [some (.ref (ad 200)), none, none, none, none, none, none, none]) (st' := [.long x2]) rfl ?_
      have hm2 : MRd h2 ad sv m2 B n ζ (.inl (5, tP B n i)) := hm2
      refine v_run 2 (pc' := 19) (ls' := [some (.ref (ad 200)), some (.long x2), none, none, none, none, none, none]) (st' := [.ref (ad 200)]) rfl ?_
      refine v_ldcS rfl ?_
      refine v_run 0 (pc' := 21) (ls' := [some (.ref (ad 200)), some (.long x2), none, none, none, none, none, none]) (st' := [.ref (gK G 18), .ref (ad 200)]) rfl ?_
      refine v_callV (My := mX10_isWord) (As := [.ref (gK G 18)]) (rest := []) (mc := 0) (ms := 0) rfl caX10_isWord rfl rfl rfl hm2.1 rfl rfl (g_isWord G _ (q := 19) hA hB hn hm2 (by decide)) rfl rfl (Nat.le_of_ble_eq_true rfl) (by omega) ?_
      rintro _ _ ⟨rfl, rfl⟩
      refine v_run 0 (pc' := 24) (ls' := [some (.ref (ad 200)), some (.long x2), none, none, none, none, none, none]) (st' := [.int (zb (isU B n 19 (.inl (5, tP B n i))))]) rfl ?_
      refine v_if_eq rfl (fun c24 => ?_) (fun c24 => ?_)
      · have hm2 : MRd h2 ad sv m2 B n ζ (.inl (5, tP B n i)) := hm2
        refine v_run 1 (pc' := 32) (ls' := [some (.ref (ad 200)), some (.long x2), none, none, none, none, none, none]) (st' := [.ref (ad 200)]) rfl ?_
        refine v_ldcS rfl ?_
        refine v_run 0 (pc' := 34) (ls' := [some (.ref (ad 200)), some (.long x2), none, none, none, none, none, none]) (st' := [.ref (gK G 19), .ref (ad 200)]) rfl ?_
        refine v_callV (My := mX10_isWord) (As := [.ref (gK G 19)]) (rest := []) (mc := 0) (ms := 0) rfl caX10_isWord rfl rfl rfl hm2.1 rfl rfl (g_isWord G _ (q := 20) hA hB hn hm2 (by decide)) rfl rfl (Nat.le_of_ble_eq_true rfl) (by omega) ?_
        rintro _ _ ⟨rfl, rfl⟩
        refine v_run 0 (pc' := 37) (ls' := [some (.ref (ad 200)), some (.long x2), none, none, none, none, none, none]) (st' := [.int (zb (isU B n 20 (.inl (5, tP B n i))))]) rfl ?_
        refine v_if_eq rfl (fun c37 => ?_) (fun c37 => ?_)
        · have hm2 : MRd h2 ad sv m2 B n ζ (.inl (5, tP B n i)) := hm2
          refine v_run 1 (pc' := 45) (ls' := [some (.ref (ad 200)), some (.long x2), none, none, none, none, none, none]) (st' := [.ref (ad 200)]) rfl ?_
          refine v_ldcS rfl ?_
          refine v_run 0 (pc' := 47) (ls' := [some (.ref (ad 200)), some (.long x2), none, none, none, none, none, none]) (st' := [.ref (gK G 20), .ref (ad 200)]) rfl ?_
          refine v_callV (My := mX10_isWord) (As := [.ref (gK G 20)]) (rest := []) (mc := 0) (ms := 0) rfl caX10_isWord rfl rfl rfl hm2.1 rfl rfl (g_isWord G _ (q := 21) hA hB hn hm2 (by decide)) rfl rfl (Nat.le_of_ble_eq_true rfl) (by omega) ?_
          rintro _ _ ⟨rfl, rfl⟩
          refine v_run 0 (pc' := 50) (ls' := [some (.ref (ad 200)), some (.long x2), none, none, none, none, none, none]) (st' := [.int (zb (isU B n 21 (.inl (5, tP B n i))))]) rfl ?_
          refine v_if_eq rfl (fun c50 => ?_) (fun c50 => ?_)
          · have hm2 : MRd h2 ad sv m2 B n ζ (.inl (5, tP B n i)) := hm2
            refine v_run 4 (pc' := 61) (ls' := [some (.ref (ad 200)), some (.long x2), none, some (.int (zI (-1))), none, none, none, none]) (st' := [.int (zI (-1)), .int (zI (-1))]) rfl ?_
            refine v_icmp_ne rfl (fun c61 => ?_) (fun c61 => ?_)
            · exact absurd rfl c61
            · refine v_run 2 (pc' := 66) (ls' := [some (.ref (ad 200)), some (.long x2), none, some (.int (zI (-1))), none, none, none, none]) (st' := [.int (zI 1), .ref (ad 200)]) rfl ?_
              refine v_callV (My := mX10_flaw) (As := [.int (zI 1)]) (rest := []) (mc := 0) (ms := 0) rfl caX10_flaw rfl rfl rfl hm2.1 rfl rfl (g_flaw G _ (f := 1) hA hB hn hm2) rfl rfl (Nat.le_of_ble_eq_true rfl) (by omega) ?_
              rintro _ h3 ⟨rfl, m3, hm3, hk3, hf3⟩
              refine v_run 0 (pc' := 69) (ls' := [some (.ref (ad 200)), some (.long x2), none, some (.int (zI (-1))), none, none, none, none]) (st' := []) rfl ?_
              have hm3 : MRd h3 ad sv m3 B n ζ (.inl (5, tP B n i)) := hm3
              refine v_run 1 (pc' := 70) (ls' := [some (.ref (ad 200)), some (.long x2), none, some (.int (zI (-1))), none, none, none, none]) (st' := [.ref (ad 200)]) rfl ?_
              refine v_callV (My := mX10_goesOn) (As := []) (rest := []) (mc := 0) (ms := 0) rfl caX10_goesOn rfl rfl rfl hm3.1 rfl rfl (g_on G _ hA hB hn hm3) rfl rfl (Nat.le_of_ble_eq_true rfl) (by omega) ?_
              rintro _ h4 ⟨rfl, m4, hm4, hk4, hf4⟩
              refine v_run 0 (pc' := 73) (ls' := [some (.ref (ad 200)), some (.long x2), none, some (.int (zI (-1))), none, none, none, none]) (st' := []) rfl ?_
              have hm4 : MRd h4 ad sv m4 B n ζ (.inl (5, tP B n i)) := hm4
              refine v_run 1 (pc' := 74) (ls' := [some (.ref (ad 200)), some (.long x2), none, some (.int (zI (-1))), none, none, none, none]) (st' := [.ref (ad 200)]) rfl ?_
              refine v_ldcS rfl ?_
              refine v_run 0 (pc' := 76) (ls' := [some (.ref (ad 200)), some (.long x2), none, some (.int (zI (-1))), none, none, none, none]) (st' := [.ref (gK G 14), .ref (ad 200)]) rfl ?_
              refine v_callV (My := mX10_needs) (As := [.ref (gK G 14)]) (rest := []) (mc := 0) (ms := 0) rfl caX10_needs rfl rfl rfl hm4.1 rfl rfl (g_needs G _ (q := 15) hA hB hn hm4 (by decide)) rfl rfl (Nat.le_of_ble_eq_true rfl) (by omega) ?_
              rintro _ h5 ⟨rfl, m5, hm5, hk5, hf5⟩
              refine v_run 0 (pc' := 79) (ls' := [some (.ref (ad 200)), some (.long x2), none, some (.int (zI (-1))), none, none, none, none]) (st' := []) rfl ?_
              have hm5 : MRd h5 ad sv m5 B n ζ (.inl (5, tP B n i)) := hm5
              refine v_run 2 (pc' := 81) (ls' := [some (.ref (ad 200)), some (.long x2), none, some (.int (zI (-1))), none, none, none, none]) (st' := [.int (zI 0), .ref (ad 200)]) rfl ?_
              refine v_callV (My := mX10_knownOne) (As := [.int (zI 0)]) (rest := []) (mc := 0) (ms := 0) rfl caX10_knownOne rfl rfl rfl hm5.1 rfl rfl (g_known G _ (s := 0) hA hB hn hm5 h11 n1 n2 n3 (by decide)) rfl rfl (Nat.le_of_ble_eq_true rfl) (by omega) ?_
              rintro _ h6 ⟨rfl, m6, hm6, hk6, hf6⟩
              refine v_run 0 (pc' := 84) (ls' := [some (.ref (ad 200)), some (.long x2), none, some (.int (zI (-1))), none, none, none, none]) (st' := [.int (zI ↑(vT (sb (.inl (5, tP B n i)) (fun i => pTold B n ζ 0 i))))]) rfl ?_
              have hm6 : MRd h6 ad sv m6 B n ζ (.inl (5, tP B n i)) := hm6
              refine v_run 2 (pc' := 87) (ls' := [some (.ref (ad 200)), some (.long x2), none, some (.int (zI (-1))), some (.int (zI ↑(vT (sb (.inl (5, tP B n i)) (fun i => pTold B n ζ 0 i))))), none, none, none]) (st' := [.ref (ad 200)]) rfl ?_
              refine v_get rfl hm6.1 rfl ?_
              refine v_run 1 (pc' := 91) (ls' := [some (.ref (ad 200)), some (.long x2), none, some (.int (zI (-1))), some (.int (zI ↑(vT (sb (.inl (5, tP B n i)) (fun i => pTold B n ζ 0 i))))), none, none, none]) (st' := [.int (zI 5), .int (zI (m6 9))]) rfl ?_
              refine v_icmp_eq rfl (fun c91 => ?_) (fun c91 => ?_)
              · refine v_run 1 (pc' := 113) (ls' := [some (.ref (ad 200)), some (.long x2), none, some (.int (zI (-1))), some (.int (zI ↑(vT (sb (.inl (5, tP B n i)) (fun i => pTold B n ζ 0 i))))), none, none, none]) (st' := [.ref (ad 200)]) rfl ?_
                refine v_callV (My := mX10_goesOn) (As := []) (rest := []) (mc := 0) (ms := 0) rfl caX10_goesOn rfl rfl rfl hm6.1 rfl rfl (g_on G _ hA hB hn hm6) rfl rfl (Nat.le_of_ble_eq_true rfl) (by omega) ?_
                rintro _ h7 ⟨rfl, m7, hm7, hk7, hf7⟩
                refine v_run 0 (pc' := 116) (ls' := [some (.ref (ad 200)), some (.long x2), none, some (.int (zI (-1))), some (.int (zI ↑(vT (sb (.inl (5, tP B n i)) (fun i => pTold B n ζ 0 i))))), none, none, none]) (st' := []) rfl ?_
                have hm7 : MRd h7 ad sv m7 B n ζ (.inl (5, tP B n i)) := hm7
                refine v_run 1 (pc' := 117) (ls' := [some (.ref (ad 200)), some (.long x2), none, some (.int (zI (-1))), some (.int (zI ↑(vT (sb (.inl (5, tP B n i)) (fun i => pTold B n ζ 0 i))))), none, none, none]) (st' := [.ref (ad 200)]) rfl ?_
                refine v_ldcSw v_ldcw_in.1 rfl ?_
                refine v_run 2 (pc' := 123) (ls' := [some (.ref (ad 200)), some (.long x2), none, some (.int (zI (-1))), some (.int (zI ↑(vT (sb (.inl (5, tP B n i)) (fun i => pTold B n ζ 0 i))))), none, none, none]) (st' := [.int (zI 99), .int (zI 1), .ref (gK G 15), .ref (ad 200)]) rfl ?_
                refine v_callV (My := mX10_readPart) (As := [.ref (gK G 15), .int (zI 1), .int (zI 99)]) (rest := []) (mc := 0) (ms := 0) rfl caX10_readPart rfl rfl rfl hm7.1 rfl rfl (g_part G _ (q := 16) (lo := 1) (hi := 99) hA hB hn hm7 (by decide) (by decide) (by decide)) rfl rfl (Nat.le_of_ble_eq_true rfl) (by omega) ?_
                rintro _ h8 ⟨rfl, m8, hm8, hk8, hf8⟩
                refine v_run 0 (pc' := 126) (ls' := [some (.ref (ad 200)), some (.long x2), none, some (.int (zI (-1))), some (.int (zI ↑(vT (sb (.inl (5, tP B n i)) (fun i => pTold B n ζ 0 i))))), none, none, none]) (st' := [.int (zI ↑(vP (sb (.inl (5, tP B n i)) (fun i => pNum B n 16 1 99 i)) 1))]) rfl ?_
                have hm8 : MRd h8 ad sv m8 B n ζ (.inl (5, tP B n i)) := hm8
                refine v_run 2 (pc' := 129) (ls' := [some (.ref (ad 200)), some (.long x2), none, some (.int (zI (-1))), some (.int (zI ↑(vT (sb (.inl (5, tP B n i)) (fun i => pTold B n ζ 0 i))))), some (.int (zI ↑(vP (sb (.inl (5, tP B n i)) (fun i => pNum B n 16 1 99 i)) 1))), none, none]) (st' := [.ref (ad 200)]) rfl ?_
                refine v_ldcSw v_ldcw_in.2.1 rfl ?_
                refine v_run 2 (pc' := 135) (ls' := [some (.ref (ad 200)), some (.long x2), none, some (.int (zI (-1))), some (.int (zI ↑(vT (sb (.inl (5, tP B n i)) (fun i => pTold B n ζ 0 i))))), some (.int (zI ↑(vP (sb (.inl (5, tP B n i)) (fun i => pNum B n 16 1 99 i)) 1))), none, none]) (st' := [.int (zI 9), .int (zI 0), .ref (gK G 16), .ref (ad 200)]) rfl ?_
                refine v_callV (My := mX10_readPart) (As := [.ref (gK G 16), .int (zI 0), .int (zI 9)]) (rest := []) (mc := 0) (ms := 0) rfl caX10_readPart rfl rfl rfl hm8.1 rfl rfl (g_part G _ (q := 17) (lo := 0) (hi := 9) hA hB hn hm8 (by decide) (by decide) (by decide)) rfl rfl (Nat.le_of_ble_eq_true rfl) (by omega) ?_
                rintro _ h9 ⟨rfl, m9, hm9, hk9, hf9⟩
                refine v_run 0 (pc' := 138) (ls' := [some (.ref (ad 200)), some (.long x2), none, some (.int (zI (-1))), some (.int (zI ↑(vT (sb (.inl (5, tP B n i)) (fun i => pTold B n ζ 0 i))))), some (.int (zI ↑(vP (sb (.inl (5, tP B n i)) (fun i => pNum B n 16 1 99 i)) 1))), none, none]) (st' := [.int (zI ↑(vP (sb (.inl (5, tP B n i)) (fun i => pNum B n 17 0 9 i)) 0))]) rfl ?_
                have hm9 : MRd h9 ad sv m9 B n ζ (.inl (5, tP B n i)) := hm9
                refine v_run 2 (pc' := 141) (ls' := [some (.ref (ad 200)), some (.long x2), none, some (.int (zI (-1))), some (.int (zI ↑(vT (sb (.inl (5, tP B n i)) (fun i => pTold B n ζ 0 i))))), some (.int (zI ↑(vP (sb (.inl (5, tP B n i)) (fun i => pNum B n 16 1 99 i)) 1))), some (.int (zI ↑(vP (sb (.inl (5, tP B n i)) (fun i => pNum B n 17 0 9 i)) 0))), none]) (st' := [.ref (ad 200)]) rfl ?_
                refine v_get rfl hm9.1 rfl ?_
                refine v_run 1 (pc' := 145) (ls' := [some (.ref (ad 200)), some (.long x2), none, some (.int (zI (-1))), some (.int (zI ↑(vT (sb (.inl (5, tP B n i)) (fun i => pTold B n ζ 0 i))))), some (.int (zI ↑(vP (sb (.inl (5, tP B n i)) (fun i => pNum B n 16 1 99 i)) 1))), some (.int (zI ↑(vP (sb (.inl (5, tP B n i)) (fun i => pNum B n 17 0 9 i)) 0))), none]) (st' := [.int (zI 5), .int (zI (m9 9))]) rfl ?_
                refine v_icmp_ne rfl (fun c145 => ?_) (fun c145 => ?_)
                · exact absurd (by rw [hm9.2.2.2.2.1]) c145
                · rw [show lq B n ζ i (lSen B n ζ i) = .inl (5, tP B n i) from by simp only [lq, if_neg hq0, lSen, if_pos hcap, sb]]; exact v_vret rfl rfl ⟨rfl, m9, hm9, ((((((((hk1.tr hk2).tr hk3).tr hk4).tr hk5).tr hk6).tr hk7).tr hk8).tr hk9), ((((((((hf1.tr hf2).tr hf3).tr hf4).tr hf5).tr hf6).tr hf7).tr hf8).tr hf9)⟩
              · exact absurd (by rw [hm6.2.2.2.2.1]) c91
          · exact absurd rfl c50
        · exact absurd rfl c37
      · exact absurd rfl c24
    · have hm1 : MRd h1 ad sv m1 B n ζ (.inr (i + 1)) := by have hh := hm1; rw [show sb (.inr i) (fun i => if ζ 5 0 = 6 then .inl (5, tP B n i) else if ζ 0 0 = 0 then .inl (6, tP B n i) else .inr (i + 1)) = (.inr (i + 1) : pR Nat) from (if_neg hcap).trans (if_neg hq0)] at hh; exact hh
      refine v_run 1 (pc' := 14) (ls' := [some (.ref (ad 200)), none, none, none, none, none, none, none]) (st' := [.ref (ad 200)]) rfl ?_
      refine v_callV (My := mX10_readFresh) (As := []) (rest := []) (mc := 0) (ms := 0) rfl caX10_readFresh rfl rfl rfl hm1.1 rfl rfl (g_fresh G _ hA hB hn hm1 h11 n1) rfl rfl (Nat.le_of_ble_eq_true rfl) (by omega) ?_
      rintro _ h2 ⟨x2, rfl, px2, m2, hm2, hk2, hf2⟩
      refine v_run 0 (pc' := 17) (ls' := [some (.ref (ad 200)), none, none, none, none, none, none, none]) (st' := [.long x2]) rfl ?_
      rcases hr2 : pNew B n ζ (i + 1) with e | jn
      · have hm2 : MRd h2 ad sv m2 B n ζ (.inl e) := by have hh := hm2; rw [show sb (.inr (i + 1)) (fun i => pNew B n ζ i) = (.inl e : pR Nat) from hr2] at hh; exact hh
        have hm2 : MRd h2 ad sv m2 B n ζ (.inl e) := hm2
        refine v_run 2 (pc' := 19) (ls' := [some (.ref (ad 200)), some (.long x2), none, none, none, none, none, none]) (st' := [.ref (ad 200)]) rfl ?_
        refine v_ldcS rfl ?_
        refine v_run 0 (pc' := 21) (ls' := [some (.ref (ad 200)), some (.long x2), none, none, none, none, none, none]) (st' := [.ref (gK G 18), .ref (ad 200)]) rfl ?_
        refine v_callV (My := mX10_isWord) (As := [.ref (gK G 18)]) (rest := []) (mc := 0) (ms := 0) rfl caX10_isWord rfl rfl rfl hm2.1 rfl rfl (g_isWord G _ (q := 19) hA hB hn hm2 (by decide)) rfl rfl (Nat.le_of_ble_eq_true rfl) (by omega) ?_
        rintro _ _ ⟨rfl, rfl⟩
        refine v_run 0 (pc' := 24) (ls' := [some (.ref (ad 200)), some (.long x2), none, none, none, none, none, none]) (st' := [.int (zb (isU B n 19 (.inl e)))]) rfl ?_
        refine v_if_eq rfl (fun c24 => ?_) (fun c24 => ?_)
        · have hm2 : MRd h2 ad sv m2 B n ζ (.inl e) := hm2
          refine v_run 1 (pc' := 32) (ls' := [some (.ref (ad 200)), some (.long x2), none, none, none, none, none, none]) (st' := [.ref (ad 200)]) rfl ?_
          refine v_ldcS rfl ?_
          refine v_run 0 (pc' := 34) (ls' := [some (.ref (ad 200)), some (.long x2), none, none, none, none, none, none]) (st' := [.ref (gK G 19), .ref (ad 200)]) rfl ?_
          refine v_callV (My := mX10_isWord) (As := [.ref (gK G 19)]) (rest := []) (mc := 0) (ms := 0) rfl caX10_isWord rfl rfl rfl hm2.1 rfl rfl (g_isWord G _ (q := 20) hA hB hn hm2 (by decide)) rfl rfl (Nat.le_of_ble_eq_true rfl) (by omega) ?_
          rintro _ _ ⟨rfl, rfl⟩
          refine v_run 0 (pc' := 37) (ls' := [some (.ref (ad 200)), some (.long x2), none, none, none, none, none, none]) (st' := [.int (zb (isU B n 20 (.inl e)))]) rfl ?_
          refine v_if_eq rfl (fun c37 => ?_) (fun c37 => ?_)
          · have hm2 : MRd h2 ad sv m2 B n ζ (.inl e) := hm2
            refine v_run 1 (pc' := 45) (ls' := [some (.ref (ad 200)), some (.long x2), none, none, none, none, none, none]) (st' := [.ref (ad 200)]) rfl ?_
            refine v_ldcS rfl ?_
            refine v_run 0 (pc' := 47) (ls' := [some (.ref (ad 200)), some (.long x2), none, none, none, none, none, none]) (st' := [.ref (gK G 20), .ref (ad 200)]) rfl ?_
            refine v_callV (My := mX10_isWord) (As := [.ref (gK G 20)]) (rest := []) (mc := 0) (ms := 0) rfl caX10_isWord rfl rfl rfl hm2.1 rfl rfl (g_isWord G _ (q := 21) hA hB hn hm2 (by decide)) rfl rfl (Nat.le_of_ble_eq_true rfl) (by omega) ?_
            rintro _ _ ⟨rfl, rfl⟩
            refine v_run 0 (pc' := 50) (ls' := [some (.ref (ad 200)), some (.long x2), none, none, none, none, none, none]) (st' := [.int (zb (isU B n 21 (.inl e)))]) rfl ?_
            refine v_if_eq rfl (fun c50 => ?_) (fun c50 => ?_)
            · have hm2 : MRd h2 ad sv m2 B n ζ (.inl e) := hm2
              refine v_run 4 (pc' := 61) (ls' := [some (.ref (ad 200)), some (.long x2), none, some (.int (zI (-1))), none, none, none, none]) (st' := [.int (zI (-1)), .int (zI (-1))]) rfl ?_
              refine v_icmp_ne rfl (fun c61 => ?_) (fun c61 => ?_)
              · exact absurd rfl c61
              · refine v_run 2 (pc' := 66) (ls' := [some (.ref (ad 200)), some (.long x2), none, some (.int (zI (-1))), none, none, none, none]) (st' := [.int (zI 1), .ref (ad 200)]) rfl ?_
                refine v_callV (My := mX10_flaw) (As := [.int (zI 1)]) (rest := []) (mc := 0) (ms := 0) rfl caX10_flaw rfl rfl rfl hm2.1 rfl rfl (g_flaw G _ (f := 1) hA hB hn hm2) rfl rfl (Nat.le_of_ble_eq_true rfl) (by omega) ?_
                rintro _ h3 ⟨rfl, m3, hm3, hk3, hf3⟩
                refine v_run 0 (pc' := 69) (ls' := [some (.ref (ad 200)), some (.long x2), none, some (.int (zI (-1))), none, none, none, none]) (st' := []) rfl ?_
                have hm3 : MRd h3 ad sv m3 B n ζ (.inl e) := hm3
                refine v_run 1 (pc' := 70) (ls' := [some (.ref (ad 200)), some (.long x2), none, some (.int (zI (-1))), none, none, none, none]) (st' := [.ref (ad 200)]) rfl ?_
                refine v_callV (My := mX10_goesOn) (As := []) (rest := []) (mc := 0) (ms := 0) rfl caX10_goesOn rfl rfl rfl hm3.1 rfl rfl (g_on G _ hA hB hn hm3) rfl rfl (Nat.le_of_ble_eq_true rfl) (by omega) ?_
                rintro _ h4 ⟨rfl, m4, hm4, hk4, hf4⟩
                refine v_run 0 (pc' := 73) (ls' := [some (.ref (ad 200)), some (.long x2), none, some (.int (zI (-1))), none, none, none, none]) (st' := []) rfl ?_
                have hm4 : MRd h4 ad sv m4 B n ζ (.inl e) := hm4
                refine v_run 1 (pc' := 74) (ls' := [some (.ref (ad 200)), some (.long x2), none, some (.int (zI (-1))), none, none, none, none]) (st' := [.ref (ad 200)]) rfl ?_
                refine v_ldcS rfl ?_
                refine v_run 0 (pc' := 76) (ls' := [some (.ref (ad 200)), some (.long x2), none, some (.int (zI (-1))), none, none, none, none]) (st' := [.ref (gK G 14), .ref (ad 200)]) rfl ?_
                refine v_callV (My := mX10_needs) (As := [.ref (gK G 14)]) (rest := []) (mc := 0) (ms := 0) rfl caX10_needs rfl rfl rfl hm4.1 rfl rfl (g_needs G _ (q := 15) hA hB hn hm4 (by decide)) rfl rfl (Nat.le_of_ble_eq_true rfl) (by omega) ?_
                rintro _ h5 ⟨rfl, m5, hm5, hk5, hf5⟩
                refine v_run 0 (pc' := 79) (ls' := [some (.ref (ad 200)), some (.long x2), none, some (.int (zI (-1))), none, none, none, none]) (st' := []) rfl ?_
                have hm5 : MRd h5 ad sv m5 B n ζ (.inl e) := hm5
                refine v_run 2 (pc' := 81) (ls' := [some (.ref (ad 200)), some (.long x2), none, some (.int (zI (-1))), none, none, none, none]) (st' := [.int (zI 0), .ref (ad 200)]) rfl ?_
                refine v_callV (My := mX10_knownOne) (As := [.int (zI 0)]) (rest := []) (mc := 0) (ms := 0) rfl caX10_knownOne rfl rfl rfl hm5.1 rfl rfl (g_known G _ (s := 0) hA hB hn hm5 h11 n1 n2 n3 (by decide)) rfl rfl (Nat.le_of_ble_eq_true rfl) (by omega) ?_
                rintro _ h6 ⟨rfl, m6, hm6, hk6, hf6⟩
                refine v_run 0 (pc' := 84) (ls' := [some (.ref (ad 200)), some (.long x2), none, some (.int (zI (-1))), none, none, none, none]) (st' := [.int (zI ↑(vT (sb (.inl e) (fun i => pTold B n ζ 0 i))))]) rfl ?_
                have hm6 : MRd h6 ad sv m6 B n ζ (.inl e) := hm6
                refine v_run 2 (pc' := 87) (ls' := [some (.ref (ad 200)), some (.long x2), none, some (.int (zI (-1))), some (.int (zI ↑(vT (sb (.inl e) (fun i => pTold B n ζ 0 i))))), none, none, none]) (st' := [.ref (ad 200)]) rfl ?_
                refine v_get rfl hm6.1 rfl ?_
                refine v_run 1 (pc' := 91) (ls' := [some (.ref (ad 200)), some (.long x2), none, some (.int (zI (-1))), some (.int (zI ↑(vT (sb (.inl e) (fun i => pTold B n ζ 0 i))))), none, none, none]) (st' := [.int (zI 5), .int (zI (m6 9))]) rfl ?_
                refine v_icmp_eq rfl (fun c91 => ?_) (fun c91 => ?_)
                · refine v_run 1 (pc' := 113) (ls' := [some (.ref (ad 200)), some (.long x2), none, some (.int (zI (-1))), some (.int (zI ↑(vT (sb (.inl e) (fun i => pTold B n ζ 0 i))))), none, none, none]) (st' := [.ref (ad 200)]) rfl ?_
                  refine v_callV (My := mX10_goesOn) (As := []) (rest := []) (mc := 0) (ms := 0) rfl caX10_goesOn rfl rfl rfl hm6.1 rfl rfl (g_on G _ hA hB hn hm6) rfl rfl (Nat.le_of_ble_eq_true rfl) (by omega) ?_
                  rintro _ h7 ⟨rfl, m7, hm7, hk7, hf7⟩
                  refine v_run 0 (pc' := 116) (ls' := [some (.ref (ad 200)), some (.long x2), none, some (.int (zI (-1))), some (.int (zI ↑(vT (sb (.inl e) (fun i => pTold B n ζ 0 i))))), none, none, none]) (st' := []) rfl ?_
                  have hm7 : MRd h7 ad sv m7 B n ζ (.inl e) := hm7
                  refine v_run 1 (pc' := 117) (ls' := [some (.ref (ad 200)), some (.long x2), none, some (.int (zI (-1))), some (.int (zI ↑(vT (sb (.inl e) (fun i => pTold B n ζ 0 i))))), none, none, none]) (st' := [.ref (ad 200)]) rfl ?_
                  refine v_ldcSw v_ldcw_in.1 rfl ?_
                  refine v_run 2 (pc' := 123) (ls' := [some (.ref (ad 200)), some (.long x2), none, some (.int (zI (-1))), some (.int (zI ↑(vT (sb (.inl e) (fun i => pTold B n ζ 0 i))))), none, none, none]) (st' := [.int (zI 99), .int (zI 1), .ref (gK G 15), .ref (ad 200)]) rfl ?_
                  refine v_callV (My := mX10_readPart) (As := [.ref (gK G 15), .int (zI 1), .int (zI 99)]) (rest := []) (mc := 0) (ms := 0) rfl caX10_readPart rfl rfl rfl hm7.1 rfl rfl (g_part G _ (q := 16) (lo := 1) (hi := 99) hA hB hn hm7 (by decide) (by decide) (by decide)) rfl rfl (Nat.le_of_ble_eq_true rfl) (by omega) ?_
                  rintro _ h8 ⟨rfl, m8, hm8, hk8, hf8⟩
                  refine v_run 0 (pc' := 126) (ls' := [some (.ref (ad 200)), some (.long x2), none, some (.int (zI (-1))), some (.int (zI ↑(vT (sb (.inl e) (fun i => pTold B n ζ 0 i))))), none, none, none]) (st' := [.int (zI ↑(vP (sb (.inl e) (fun i => pNum B n 16 1 99 i)) 1))]) rfl ?_
                  have hm8 : MRd h8 ad sv m8 B n ζ (.inl e) := hm8
                  refine v_run 2 (pc' := 129) (ls' := [some (.ref (ad 200)), some (.long x2), none, some (.int (zI (-1))), some (.int (zI ↑(vT (sb (.inl e) (fun i => pTold B n ζ 0 i))))), some (.int (zI ↑(vP (sb (.inl e) (fun i => pNum B n 16 1 99 i)) 1))), none, none]) (st' := [.ref (ad 200)]) rfl ?_
                  refine v_ldcSw v_ldcw_in.2.1 rfl ?_
                  refine v_run 2 (pc' := 135) (ls' := [some (.ref (ad 200)), some (.long x2), none, some (.int (zI (-1))), some (.int (zI ↑(vT (sb (.inl e) (fun i => pTold B n ζ 0 i))))), some (.int (zI ↑(vP (sb (.inl e) (fun i => pNum B n 16 1 99 i)) 1))), none, none]) (st' := [.int (zI 9), .int (zI 0), .ref (gK G 16), .ref (ad 200)]) rfl ?_
                  refine v_callV (My := mX10_readPart) (As := [.ref (gK G 16), .int (zI 0), .int (zI 9)]) (rest := []) (mc := 0) (ms := 0) rfl caX10_readPart rfl rfl rfl hm8.1 rfl rfl (g_part G _ (q := 17) (lo := 0) (hi := 9) hA hB hn hm8 (by decide) (by decide) (by decide)) rfl rfl (Nat.le_of_ble_eq_true rfl) (by omega) ?_
                  rintro _ h9 ⟨rfl, m9, hm9, hk9, hf9⟩
                  refine v_run 0 (pc' := 138) (ls' := [some (.ref (ad 200)), some (.long x2), none, some (.int (zI (-1))), some (.int (zI ↑(vT (sb (.inl e) (fun i => pTold B n ζ 0 i))))), some (.int (zI ↑(vP (sb (.inl e) (fun i => pNum B n 16 1 99 i)) 1))), none, none]) (st' := [.int (zI ↑(vP (sb (.inl e) (fun i => pNum B n 17 0 9 i)) 0))]) rfl ?_
                  have hm9 : MRd h9 ad sv m9 B n ζ (.inl e) := hm9
                  refine v_run 2 (pc' := 141) (ls' := [some (.ref (ad 200)), some (.long x2), none, some (.int (zI (-1))), some (.int (zI ↑(vT (sb (.inl e) (fun i => pTold B n ζ 0 i))))), some (.int (zI ↑(vP (sb (.inl e) (fun i => pNum B n 16 1 99 i)) 1))), some (.int (zI ↑(vP (sb (.inl e) (fun i => pNum B n 17 0 9 i)) 0))), none]) (st' := [.ref (ad 200)]) rfl ?_
                  refine v_get rfl hm9.1 rfl ?_
                  refine v_run 1 (pc' := 145) (ls' := [some (.ref (ad 200)), some (.long x2), none, some (.int (zI (-1))), some (.int (zI ↑(vT (sb (.inl e) (fun i => pTold B n ζ 0 i))))), some (.int (zI ↑(vP (sb (.inl e) (fun i => pNum B n 16 1 99 i)) 1))), some (.int (zI ↑(vP (sb (.inl e) (fun i => pNum B n 17 0 9 i)) 0))), none]) (st' := [.int (zI 5), .int (zI (m9 9))]) rfl ?_
                  refine v_icmp_ne rfl (fun c145 => ?_) (fun c145 => ?_)
                  · exact absurd (by rw [hm9.2.2.2.2.1]) c145
                  · rw [show lq B n ζ i (lSen B n ζ i) = .inl e from by simp only [lq, if_neg hq0, lSen, if_neg hcap, hr2, sb]]; exact v_vret rfl rfl ⟨rfl, m9, hm9, ((((((((hk1.tr hk2).tr hk3).tr hk4).tr hk5).tr hk6).tr hk7).tr hk8).tr hk9), ((((((((hf1.tr hf2).tr hf3).tr hf4).tr hf5).tr hf6).tr hf7).tr hf8).tr hf9)⟩
                · exact absurd (by rw [hm6.2.2.2.2.1]) c91
            · exact absurd rfl c50
          · exact absurd rfl c37
        · exact absurd rfl c24
      · have hjn : jn = (i + 1) + 1 := pNew_j hr2
        subst hjn
        rw [px2 _ _ rfl hr2]
        have hm2 : MRd h2 ad sv m2 B n ζ (.inr ((i + 1) + 1)) := by have hh := hm2; rw [show sb (.inr (i + 1)) (fun i => pNew B n ζ i) = (.inr ((i + 1) + 1) : pR Nat) from hr2] at hh; exact hh
        have hm2 : MRd h2 ad sv m2 B n ζ (.inr (i + 2)) := hm2
        refine v_run 2 (pc' := 19) (ls' := [some (.ref (ad 200)), some (.long (zL ↑(tV B n ((i + 1))))), none, none, none, none, none, none]) (st' := [.ref (ad 200)]) rfl ?_
        refine v_ldcS rfl ?_
        refine v_run 0 (pc' := 21) (ls' := [some (.ref (ad 200)), some (.long (zL ↑(tV B n ((i + 1))))), none, none, none, none, none, none]) (st' := [.ref (gK G 18), .ref (ad 200)]) rfl ?_
        refine v_callV (My := mX10_isWord) (As := [.ref (gK G 18)]) (rest := []) (mc := 0) (ms := 0) rfl caX10_isWord rfl rfl rfl hm2.1 rfl rfl (g_isWord G _ (q := 19) hA hB hn hm2 (by decide)) rfl rfl (Nat.le_of_ble_eq_true rfl) (by omega) ?_
        rintro _ _ ⟨rfl, rfl⟩
        refine v_run 0 (pc' := 24) (ls' := [some (.ref (ad 200)), some (.long (zL ↑(tV B n ((i + 1))))), none, none, none, none, none, none]) (st' := [.int (zb (isU B n 19 (.inr (i + 2))))]) rfl ?_
        refine v_if_eq rfl (fun c24 => ?_) (fun c24 => ?_)
        · rw [zb_n] at c24
          have ek19 : ¬ tK B n (i + 2) = 19 := of_decide_eq_false c24
          refine v_run 1 (pc' := 32) (ls' := [some (.ref (ad 200)), some (.long (zL ↑(tV B n ((i + 1))))), none, none, none, none, none, none]) (st' := [.ref (ad 200)]) rfl ?_
          refine v_ldcS rfl ?_
          refine v_run 0 (pc' := 34) (ls' := [some (.ref (ad 200)), some (.long (zL ↑(tV B n ((i + 1))))), none, none, none, none, none, none]) (st' := [.ref (gK G 19), .ref (ad 200)]) rfl ?_
          refine v_callV (My := mX10_isWord) (As := [.ref (gK G 19)]) (rest := []) (mc := 0) (ms := 0) rfl caX10_isWord rfl rfl rfl hm2.1 rfl rfl (g_isWord G _ (q := 20) hA hB hn hm2 (by decide)) rfl rfl (Nat.le_of_ble_eq_true rfl) (by omega) ?_
          rintro _ _ ⟨rfl, rfl⟩
          refine v_run 0 (pc' := 37) (ls' := [some (.ref (ad 200)), some (.long (zL ↑(tV B n ((i + 1))))), none, none, none, none, none, none]) (st' := [.int (zb (isU B n 20 (.inr (i + 2))))]) rfl ?_
          refine v_if_eq rfl (fun c37 => ?_) (fun c37 => ?_)
          · rw [zb_n] at c37
            have ek20 : ¬ tK B n (i + 2) = 20 := of_decide_eq_false c37
            refine v_run 1 (pc' := 45) (ls' := [some (.ref (ad 200)), some (.long (zL ↑(tV B n ((i + 1))))), none, none, none, none, none, none]) (st' := [.ref (ad 200)]) rfl ?_
            refine v_ldcS rfl ?_
            refine v_run 0 (pc' := 47) (ls' := [some (.ref (ad 200)), some (.long (zL ↑(tV B n ((i + 1))))), none, none, none, none, none, none]) (st' := [.ref (gK G 20), .ref (ad 200)]) rfl ?_
            refine v_callV (My := mX10_isWord) (As := [.ref (gK G 20)]) (rest := []) (mc := 0) (ms := 0) rfl caX10_isWord rfl rfl rfl hm2.1 rfl rfl (g_isWord G _ (q := 21) hA hB hn hm2 (by decide)) rfl rfl (Nat.le_of_ble_eq_true rfl) (by omega) ?_
            rintro _ _ ⟨rfl, rfl⟩
            refine v_run 0 (pc' := 50) (ls' := [some (.ref (ad 200)), some (.long (zL ↑(tV B n ((i + 1))))), none, none, none, none, none, none]) (st' := [.int (zb (isU B n 21 (.inr (i + 2))))]) rfl ?_
            refine v_if_eq rfl (fun c50 => ?_) (fun c50 => ?_)
            · rw [zb_n] at c50
              have ek21 : ¬ tK B n (i + 2) = 21 := of_decide_eq_false c50
              have hkl := tK_le (T := B) (n := n) (i + 2)
              refine v_run 4 (pc' := 61) (ls' := [some (.ref (ad 200)), some (.long (zL ↑(tV B n ((i + 1))))), none, some (.int (zI (-1))), none, none, none, none]) (st' := [.int (zI (-1)), .int (zI (-1))]) rfl ?_
              refine v_icmp_ne rfl (fun c61 => ?_) (fun c61 => ?_)
              · exact absurd rfl c61
              · refine v_run 2 (pc' := 66) (ls' := [some (.ref (ad 200)), some (.long (zL ↑(tV B n ((i + 1))))), none, some (.int (zI (-1))), none, none, none, none]) (st' := [.int (zI 1), .ref (ad 200)]) rfl ?_
                refine v_callV (My := mX10_flaw) (As := [.int (zI 1)]) (rest := []) (mc := 0) (ms := 0) rfl caX10_flaw rfl rfl rfl hm2.1 rfl rfl (g_flaw G _ (f := 1) hA hB hn hm2) rfl rfl (Nat.le_of_ble_eq_true rfl) (by omega) ?_
                rintro _ h3 ⟨rfl, m3, hm3, hk3, hf3⟩
                refine v_run 0 (pc' := 69) (ls' := [some (.ref (ad 200)), some (.long (zL ↑(tV B n ((i + 1))))), none, some (.int (zI (-1))), none, none, none, none]) (st' := []) rfl ?_
                have hm3 : MRd h3 ad sv m3 B n ζ (.inl (1, tP B n (i + 2))) := hm3
                refine v_run 1 (pc' := 70) (ls' := [some (.ref (ad 200)), some (.long (zL ↑(tV B n ((i + 1))))), none, some (.int (zI (-1))), none, none, none, none]) (st' := [.ref (ad 200)]) rfl ?_
                refine v_callV (My := mX10_goesOn) (As := []) (rest := []) (mc := 0) (ms := 0) rfl caX10_goesOn rfl rfl rfl hm3.1 rfl rfl (g_on G _ hA hB hn hm3) rfl rfl (Nat.le_of_ble_eq_true rfl) (by omega) ?_
                rintro _ h4 ⟨rfl, m4, hm4, hk4, hf4⟩
                refine v_run 0 (pc' := 73) (ls' := [some (.ref (ad 200)), some (.long (zL ↑(tV B n ((i + 1))))), none, some (.int (zI (-1))), none, none, none, none]) (st' := []) rfl ?_
                have hm4 : MRd h4 ad sv m4 B n ζ (.inl (1, tP B n (i + 2))) := hm4
                refine v_run 1 (pc' := 74) (ls' := [some (.ref (ad 200)), some (.long (zL ↑(tV B n ((i + 1))))), none, some (.int (zI (-1))), none, none, none, none]) (st' := [.ref (ad 200)]) rfl ?_
                refine v_ldcS rfl ?_
                refine v_run 0 (pc' := 76) (ls' := [some (.ref (ad 200)), some (.long (zL ↑(tV B n ((i + 1))))), none, some (.int (zI (-1))), none, none, none, none]) (st' := [.ref (gK G 14), .ref (ad 200)]) rfl ?_
                refine v_callV (My := mX10_needs) (As := [.ref (gK G 14)]) (rest := []) (mc := 0) (ms := 0) rfl caX10_needs rfl rfl rfl hm4.1 rfl rfl (g_needs G _ (q := 15) hA hB hn hm4 (by decide)) rfl rfl (Nat.le_of_ble_eq_true rfl) (by omega) ?_
                rintro _ h5 ⟨rfl, m5, hm5, hk5, hf5⟩
                refine v_run 0 (pc' := 79) (ls' := [some (.ref (ad 200)), some (.long (zL ↑(tV B n ((i + 1))))), none, some (.int (zI (-1))), none, none, none, none]) (st' := []) rfl ?_
                have hm5 : MRd h5 ad sv m5 B n ζ (.inl (1, tP B n (i + 2))) := hm5
                refine v_run 2 (pc' := 81) (ls' := [some (.ref (ad 200)), some (.long (zL ↑(tV B n ((i + 1))))), none, some (.int (zI (-1))), none, none, none, none]) (st' := [.int (zI 0), .ref (ad 200)]) rfl ?_
                refine v_callV (My := mX10_knownOne) (As := [.int (zI 0)]) (rest := []) (mc := 0) (ms := 0) rfl caX10_knownOne rfl rfl rfl hm5.1 rfl rfl (g_known G _ (s := 0) hA hB hn hm5 h11 n1 n2 n3 (by decide)) rfl rfl (Nat.le_of_ble_eq_true rfl) (by omega) ?_
                rintro _ h6 ⟨rfl, m6, hm6, hk6, hf6⟩
                refine v_run 0 (pc' := 84) (ls' := [some (.ref (ad 200)), some (.long (zL ↑(tV B n ((i + 1))))), none, some (.int (zI (-1))), none, none, none, none]) (st' := [.int (zI ↑(vT (sb (.inl (1, tP B n (i + 2))) (fun i => pTold B n ζ 0 i))))]) rfl ?_
                have hm6 : MRd h6 ad sv m6 B n ζ (.inl (1, tP B n (i + 2))) := hm6
                refine v_run 2 (pc' := 87) (ls' := [some (.ref (ad 200)), some (.long (zL ↑(tV B n ((i + 1))))), none, some (.int (zI (-1))), some (.int (zI ↑(vT (sb (.inl (1, tP B n (i + 2))) (fun i => pTold B n ζ 0 i))))), none, none, none]) (st' := [.ref (ad 200)]) rfl ?_
                refine v_get rfl hm6.1 rfl ?_
                refine v_run 1 (pc' := 91) (ls' := [some (.ref (ad 200)), some (.long (zL ↑(tV B n ((i + 1))))), none, some (.int (zI (-1))), some (.int (zI ↑(vT (sb (.inl (1, tP B n (i + 2))) (fun i => pTold B n ζ 0 i))))), none, none, none]) (st' := [.int (zI 5), .int (zI (m6 9))]) rfl ?_
                refine v_icmp_eq rfl (fun c91 => ?_) (fun c91 => ?_)
                · refine v_run 1 (pc' := 113) (ls' := [some (.ref (ad 200)), some (.long (zL ↑(tV B n ((i + 1))))), none, some (.int (zI (-1))), some (.int (zI ↑(vT (sb (.inl (1, tP B n (i + 2))) (fun i => pTold B n ζ 0 i))))), none, none, none]) (st' := [.ref (ad 200)]) rfl ?_
                  refine v_callV (My := mX10_goesOn) (As := []) (rest := []) (mc := 0) (ms := 0) rfl caX10_goesOn rfl rfl rfl hm6.1 rfl rfl (g_on G _ hA hB hn hm6) rfl rfl (Nat.le_of_ble_eq_true rfl) (by omega) ?_
                  rintro _ h7 ⟨rfl, m7, hm7, hk7, hf7⟩
                  refine v_run 0 (pc' := 116) (ls' := [some (.ref (ad 200)), some (.long (zL ↑(tV B n ((i + 1))))), none, some (.int (zI (-1))), some (.int (zI ↑(vT (sb (.inl (1, tP B n (i + 2))) (fun i => pTold B n ζ 0 i))))), none, none, none]) (st' := []) rfl ?_
                  have hm7 : MRd h7 ad sv m7 B n ζ (.inl (1, tP B n (i + 2))) := hm7
                  refine v_run 1 (pc' := 117) (ls' := [some (.ref (ad 200)), some (.long (zL ↑(tV B n ((i + 1))))), none, some (.int (zI (-1))), some (.int (zI ↑(vT (sb (.inl (1, tP B n (i + 2))) (fun i => pTold B n ζ 0 i))))), none, none, none]) (st' := [.ref (ad 200)]) rfl ?_
                  refine v_ldcSw v_ldcw_in.1 rfl ?_
                  refine v_run 2 (pc' := 123) (ls' := [some (.ref (ad 200)), some (.long (zL ↑(tV B n ((i + 1))))), none, some (.int (zI (-1))), some (.int (zI ↑(vT (sb (.inl (1, tP B n (i + 2))) (fun i => pTold B n ζ 0 i))))), none, none, none]) (st' := [.int (zI 99), .int (zI 1), .ref (gK G 15), .ref (ad 200)]) rfl ?_
                  refine v_callV (My := mX10_readPart) (As := [.ref (gK G 15), .int (zI 1), .int (zI 99)]) (rest := []) (mc := 0) (ms := 0) rfl caX10_readPart rfl rfl rfl hm7.1 rfl rfl (g_part G _ (q := 16) (lo := 1) (hi := 99) hA hB hn hm7 (by decide) (by decide) (by decide)) rfl rfl (Nat.le_of_ble_eq_true rfl) (by omega) ?_
                  rintro _ h8 ⟨rfl, m8, hm8, hk8, hf8⟩
                  refine v_run 0 (pc' := 126) (ls' := [some (.ref (ad 200)), some (.long (zL ↑(tV B n ((i + 1))))), none, some (.int (zI (-1))), some (.int (zI ↑(vT (sb (.inl (1, tP B n (i + 2))) (fun i => pTold B n ζ 0 i))))), none, none, none]) (st' := [.int (zI ↑(vP (sb (.inl (1, tP B n (i + 2))) (fun i => pNum B n 16 1 99 i)) 1))]) rfl ?_
                  have hm8 : MRd h8 ad sv m8 B n ζ (.inl (1, tP B n (i + 2))) := hm8
                  refine v_run 2 (pc' := 129) (ls' := [some (.ref (ad 200)), some (.long (zL ↑(tV B n ((i + 1))))), none, some (.int (zI (-1))), some (.int (zI ↑(vT (sb (.inl (1, tP B n (i + 2))) (fun i => pTold B n ζ 0 i))))), some (.int (zI ↑(vP (sb (.inl (1, tP B n (i + 2))) (fun i => pNum B n 16 1 99 i)) 1))), none, none]) (st' := [.ref (ad 200)]) rfl ?_
                  refine v_ldcSw v_ldcw_in.2.1 rfl ?_
                  refine v_run 2 (pc' := 135) (ls' := [some (.ref (ad 200)), some (.long (zL ↑(tV B n ((i + 1))))), none, some (.int (zI (-1))), some (.int (zI ↑(vT (sb (.inl (1, tP B n (i + 2))) (fun i => pTold B n ζ 0 i))))), some (.int (zI ↑(vP (sb (.inl (1, tP B n (i + 2))) (fun i => pNum B n 16 1 99 i)) 1))), none, none]) (st' := [.int (zI 9), .int (zI 0), .ref (gK G 16), .ref (ad 200)]) rfl ?_
                  refine v_callV (My := mX10_readPart) (As := [.ref (gK G 16), .int (zI 0), .int (zI 9)]) (rest := []) (mc := 0) (ms := 0) rfl caX10_readPart rfl rfl rfl hm8.1 rfl rfl (g_part G _ (q := 17) (lo := 0) (hi := 9) hA hB hn hm8 (by decide) (by decide) (by decide)) rfl rfl (Nat.le_of_ble_eq_true rfl) (by omega) ?_
                  rintro _ h9 ⟨rfl, m9, hm9, hk9, hf9⟩
                  refine v_run 0 (pc' := 138) (ls' := [some (.ref (ad 200)), some (.long (zL ↑(tV B n ((i + 1))))), none, some (.int (zI (-1))), some (.int (zI ↑(vT (sb (.inl (1, tP B n (i + 2))) (fun i => pTold B n ζ 0 i))))), some (.int (zI ↑(vP (sb (.inl (1, tP B n (i + 2))) (fun i => pNum B n 16 1 99 i)) 1))), none, none]) (st' := [.int (zI ↑(vP (sb (.inl (1, tP B n (i + 2))) (fun i => pNum B n 17 0 9 i)) 0))]) rfl ?_
                  have hm9 : MRd h9 ad sv m9 B n ζ (.inl (1, tP B n (i + 2))) := hm9
                  refine v_run 2 (pc' := 141) (ls' := [some (.ref (ad 200)), some (.long (zL ↑(tV B n ((i + 1))))), none, some (.int (zI (-1))), some (.int (zI ↑(vT (sb (.inl (1, tP B n (i + 2))) (fun i => pTold B n ζ 0 i))))), some (.int (zI ↑(vP (sb (.inl (1, tP B n (i + 2))) (fun i => pNum B n 16 1 99 i)) 1))), some (.int (zI ↑(vP (sb (.inl (1, tP B n (i + 2))) (fun i => pNum B n 17 0 9 i)) 0))), none]) (st' := [.ref (ad 200)]) rfl ?_
                  refine v_get rfl hm9.1 rfl ?_
                  refine v_run 1 (pc' := 145) (ls' := [some (.ref (ad 200)), some (.long (zL ↑(tV B n ((i + 1))))), none, some (.int (zI (-1))), some (.int (zI ↑(vT (sb (.inl (1, tP B n (i + 2))) (fun i => pTold B n ζ 0 i))))), some (.int (zI ↑(vP (sb (.inl (1, tP B n (i + 2))) (fun i => pNum B n 16 1 99 i)) 1))), some (.int (zI ↑(vP (sb (.inl (1, tP B n (i + 2))) (fun i => pNum B n 17 0 9 i)) 0))), none]) (st' := [.int (zI 5), .int (zI (m9 9))]) rfl ?_
                  refine v_icmp_ne rfl (fun c145 => ?_) (fun c145 => ?_)
                  · exact absurd (by rw [hm9.2.2.2.2.1]) c145
                  · rw [show lq B n ζ i (lSen B n ζ i) = .inl (1, tP B n (i + 2)) from by simp only [lq, if_neg hq0, lSen, if_neg hcap, hr2, pKind, if_neg (show ¬ 19 ≤ tK B n (i + 1 + 1) by show ¬ 19 ≤ tK B n (i + 2); omega), sb]]; exact v_vret rfl rfl ⟨rfl, m9, hm9, ((((((((hk1.tr hk2).tr hk3).tr hk4).tr hk5).tr hk6).tr hk7).tr hk8).tr hk9), ((((((((hf1.tr hf2).tr hf3).tr hf4).tr hf5).tr hf6).tr hf7).tr hf8).tr hf9)⟩
                · exact absurd (by rw [hm6.2.2.2.2.1]) c91
            · rw [zb_n, Bool.not_eq_false] at c50
              have ek : tK B n (i + 2) = 21 := of_decide_eq_true c50
              refine v_run 5 (pc' := 61) (ls' := [some (.ref (ad 200)), some (.long (zL ↑(tV B n ((i + 1))))), none, some (.int (zI 2)), none, none, none, none]) (st' := [.int (zI (-1)), .int (zI 2)]) rfl ?_
              refine v_icmp_ne rfl (fun c61 => ?_) (fun c61 => ?_)
              · refine v_run 1 (pc' := 70) (ls' := [some (.ref (ad 200)), some (.long (zL ↑(tV B n ((i + 1))))), none, some (.int (zI 2)), none, none, none, none]) (st' := [.ref (ad 200)]) rfl ?_
                refine v_callV (My := mX10_goesOn) (As := []) (rest := []) (mc := 0) (ms := 0) rfl caX10_goesOn rfl rfl rfl hm2.1 rfl rfl (g_on G _ hA hB hn hm2) rfl rfl (Nat.le_of_ble_eq_true rfl) (by omega) ?_
                rintro _ h3 ⟨rfl, m3, hm3, hk3, hf3⟩
                refine v_run 0 (pc' := 73) (ls' := [some (.ref (ad 200)), some (.long (zL ↑(tV B n ((i + 1))))), none, some (.int (zI 2)), none, none, none, none]) (st' := []) rfl ?_
                have hm3 : MRd h3 ad sv m3 B n ζ (.inr (i + 3)) := hm3
                refine v_run 1 (pc' := 74) (ls' := [some (.ref (ad 200)), some (.long (zL ↑(tV B n ((i + 1))))), none, some (.int (zI 2)), none, none, none, none]) (st' := [.ref (ad 200)]) rfl ?_
                refine v_ldcS rfl ?_
                refine v_run 0 (pc' := 76) (ls' := [some (.ref (ad 200)), some (.long (zL ↑(tV B n ((i + 1))))), none, some (.int (zI 2)), none, none, none, none]) (st' := [.ref (gK G 14), .ref (ad 200)]) rfl ?_
                refine v_callV (My := mX10_needs) (As := [.ref (gK G 14)]) (rest := []) (mc := 0) (ms := 0) rfl caX10_needs rfl rfl rfl hm3.1 rfl rfl (g_needs G _ (q := 15) hA hB hn hm3 (by decide)) rfl rfl (Nat.le_of_ble_eq_true rfl) (by omega) ?_
                rintro _ h4 ⟨rfl, m4, hm4, hk4, hf4⟩
                refine v_run 0 (pc' := 79) (ls' := [some (.ref (ad 200)), some (.long (zL ↑(tV B n ((i + 1))))), none, some (.int (zI 2)), none, none, none, none]) (st' := []) rfl ?_
                rcases hr4 : pWd B n 15 (i + 3) with e | j2
                · have hm4 : MRd h4 ad sv m4 B n ζ (.inl e) := by have hh := hm4; rw [show sb (.inr (i + 3)) (fun i => pWd B n 15 i) = (.inl e : pR Nat) from hr4] at hh; exact hh
                  have hm4 : MRd h4 ad sv m4 B n ζ (.inl e) := hm4
                  refine v_run 2 (pc' := 81) (ls' := [some (.ref (ad 200)), some (.long (zL ↑(tV B n ((i + 1))))), none, some (.int (zI 2)), none, none, none, none]) (st' := [.int (zI 0), .ref (ad 200)]) rfl ?_
                  refine v_callV (My := mX10_knownOne) (As := [.int (zI 0)]) (rest := []) (mc := 0) (ms := 0) rfl caX10_knownOne rfl rfl rfl hm4.1 rfl rfl (g_known G _ (s := 0) hA hB hn hm4 h11 n1 n2 n3 (by decide)) rfl rfl (Nat.le_of_ble_eq_true rfl) (by omega) ?_
                  rintro _ h5 ⟨rfl, m5, hm5, hk5, hf5⟩
                  refine v_run 0 (pc' := 84) (ls' := [some (.ref (ad 200)), some (.long (zL ↑(tV B n ((i + 1))))), none, some (.int (zI 2)), none, none, none, none]) (st' := [.int (zI ↑(vT (sb (.inl e) (fun i => pTold B n ζ 0 i))))]) rfl ?_
                  have hm5 : MRd h5 ad sv m5 B n ζ (.inl e) := hm5
                  refine v_run 2 (pc' := 87) (ls' := [some (.ref (ad 200)), some (.long (zL ↑(tV B n ((i + 1))))), none, some (.int (zI 2)), some (.int (zI ↑(vT (sb (.inl e) (fun i => pTold B n ζ 0 i))))), none, none, none]) (st' := [.ref (ad 200)]) rfl ?_
                  refine v_get rfl hm5.1 rfl ?_
                  refine v_run 1 (pc' := 91) (ls' := [some (.ref (ad 200)), some (.long (zL ↑(tV B n ((i + 1))))), none, some (.int (zI 2)), some (.int (zI ↑(vT (sb (.inl e) (fun i => pTold B n ζ 0 i))))), none, none, none]) (st' := [.int (zI 5), .int (zI (m5 9))]) rfl ?_
                  refine v_icmp_eq rfl (fun c91 => ?_) (fun c91 => ?_)
                  · refine v_run 1 (pc' := 113) (ls' := [some (.ref (ad 200)), some (.long (zL ↑(tV B n ((i + 1))))), none, some (.int (zI 2)), some (.int (zI ↑(vT (sb (.inl e) (fun i => pTold B n ζ 0 i))))), none, none, none]) (st' := [.ref (ad 200)]) rfl ?_
                    refine v_callV (My := mX10_goesOn) (As := []) (rest := []) (mc := 0) (ms := 0) rfl caX10_goesOn rfl rfl rfl hm5.1 rfl rfl (g_on G _ hA hB hn hm5) rfl rfl (Nat.le_of_ble_eq_true rfl) (by omega) ?_
                    rintro _ h6 ⟨rfl, m6, hm6, hk6, hf6⟩
                    refine v_run 0 (pc' := 116) (ls' := [some (.ref (ad 200)), some (.long (zL ↑(tV B n ((i + 1))))), none, some (.int (zI 2)), some (.int (zI ↑(vT (sb (.inl e) (fun i => pTold B n ζ 0 i))))), none, none, none]) (st' := []) rfl ?_
                    have hm6 : MRd h6 ad sv m6 B n ζ (.inl e) := hm6
                    refine v_run 1 (pc' := 117) (ls' := [some (.ref (ad 200)), some (.long (zL ↑(tV B n ((i + 1))))), none, some (.int (zI 2)), some (.int (zI ↑(vT (sb (.inl e) (fun i => pTold B n ζ 0 i))))), none, none, none]) (st' := [.ref (ad 200)]) rfl ?_
                    refine v_ldcSw v_ldcw_in.1 rfl ?_
                    refine v_run 2 (pc' := 123) (ls' := [some (.ref (ad 200)), some (.long (zL ↑(tV B n ((i + 1))))), none, some (.int (zI 2)), some (.int (zI ↑(vT (sb (.inl e) (fun i => pTold B n ζ 0 i))))), none, none, none]) (st' := [.int (zI 99), .int (zI 1), .ref (gK G 15), .ref (ad 200)]) rfl ?_
                    refine v_callV (My := mX10_readPart) (As := [.ref (gK G 15), .int (zI 1), .int (zI 99)]) (rest := []) (mc := 0) (ms := 0) rfl caX10_readPart rfl rfl rfl hm6.1 rfl rfl (g_part G _ (q := 16) (lo := 1) (hi := 99) hA hB hn hm6 (by decide) (by decide) (by decide)) rfl rfl (Nat.le_of_ble_eq_true rfl) (by omega) ?_
                    rintro _ h7 ⟨rfl, m7, hm7, hk7, hf7⟩
                    refine v_run 0 (pc' := 126) (ls' := [some (.ref (ad 200)), some (.long (zL ↑(tV B n ((i + 1))))), none, some (.int (zI 2)), some (.int (zI ↑(vT (sb (.inl e) (fun i => pTold B n ζ 0 i))))), none, none, none]) (st' := [.int (zI ↑(vP (sb (.inl e) (fun i => pNum B n 16 1 99 i)) 1))]) rfl ?_
                    have hm7 : MRd h7 ad sv m7 B n ζ (.inl e) := hm7
                    refine v_run 2 (pc' := 129) (ls' := [some (.ref (ad 200)), some (.long (zL ↑(tV B n ((i + 1))))), none, some (.int (zI 2)), some (.int (zI ↑(vT (sb (.inl e) (fun i => pTold B n ζ 0 i))))), some (.int (zI ↑(vP (sb (.inl e) (fun i => pNum B n 16 1 99 i)) 1))), none, none]) (st' := [.ref (ad 200)]) rfl ?_
                    refine v_ldcSw v_ldcw_in.2.1 rfl ?_
                    refine v_run 2 (pc' := 135) (ls' := [some (.ref (ad 200)), some (.long (zL ↑(tV B n ((i + 1))))), none, some (.int (zI 2)), some (.int (zI ↑(vT (sb (.inl e) (fun i => pTold B n ζ 0 i))))), some (.int (zI ↑(vP (sb (.inl e) (fun i => pNum B n 16 1 99 i)) 1))), none, none]) (st' := [.int (zI 9), .int (zI 0), .ref (gK G 16), .ref (ad 200)]) rfl ?_
                    refine v_callV (My := mX10_readPart) (As := [.ref (gK G 16), .int (zI 0), .int (zI 9)]) (rest := []) (mc := 0) (ms := 0) rfl caX10_readPart rfl rfl rfl hm7.1 rfl rfl (g_part G _ (q := 17) (lo := 0) (hi := 9) hA hB hn hm7 (by decide) (by decide) (by decide)) rfl rfl (Nat.le_of_ble_eq_true rfl) (by omega) ?_
                    rintro _ h8 ⟨rfl, m8, hm8, hk8, hf8⟩
                    refine v_run 0 (pc' := 138) (ls' := [some (.ref (ad 200)), some (.long (zL ↑(tV B n ((i + 1))))), none, some (.int (zI 2)), some (.int (zI ↑(vT (sb (.inl e) (fun i => pTold B n ζ 0 i))))), some (.int (zI ↑(vP (sb (.inl e) (fun i => pNum B n 16 1 99 i)) 1))), none, none]) (st' := [.int (zI ↑(vP (sb (.inl e) (fun i => pNum B n 17 0 9 i)) 0))]) rfl ?_
                    have hm8 : MRd h8 ad sv m8 B n ζ (.inl e) := hm8
                    refine v_run 2 (pc' := 141) (ls' := [some (.ref (ad 200)), some (.long (zL ↑(tV B n ((i + 1))))), none, some (.int (zI 2)), some (.int (zI ↑(vT (sb (.inl e) (fun i => pTold B n ζ 0 i))))), some (.int (zI ↑(vP (sb (.inl e) (fun i => pNum B n 16 1 99 i)) 1))), some (.int (zI ↑(vP (sb (.inl e) (fun i => pNum B n 17 0 9 i)) 0))), none]) (st' := [.ref (ad 200)]) rfl ?_
                    refine v_get rfl hm8.1 rfl ?_
                    refine v_run 1 (pc' := 145) (ls' := [some (.ref (ad 200)), some (.long (zL ↑(tV B n ((i + 1))))), none, some (.int (zI 2)), some (.int (zI ↑(vT (sb (.inl e) (fun i => pTold B n ζ 0 i))))), some (.int (zI ↑(vP (sb (.inl e) (fun i => pNum B n 16 1 99 i)) 1))), some (.int (zI ↑(vP (sb (.inl e) (fun i => pNum B n 17 0 9 i)) 0))), none]) (st' := [.int (zI 5), .int (zI (m8 9))]) rfl ?_
                    refine v_icmp_ne rfl (fun c145 => ?_) (fun c145 => ?_)
                    · exact absurd (by rw [hm8.2.2.2.2.1]) c145
                    · rw [show lq B n ζ i (lSen B n ζ i) = .inl e from by simp only [lq, if_neg hq0, lSen, if_neg hcap, hr2, pKind, if_pos (show 19 ≤ tK B n (i + 1 + 1) by show 19 ≤ tK B n (i + 2); omega), show tK B n (i + 1 + 1) - 19 = 2 from by show tK B n (i + 2) - 19 = 2; omega, hr4, sb]]; exact v_vret rfl rfl ⟨rfl, m8, hm8, (((((((hk1.tr hk2).tr hk3).tr hk4).tr hk5).tr hk6).tr hk7).tr hk8), (((((((hf1.tr hf2).tr hf3).tr hf4).tr hf5).tr hf6).tr hf7).tr hf8)⟩
                  · exact absurd (by rw [hm5.2.2.2.2.1]) c91
                · have hj2 : j2 = i + 3 + 1 := pWd_b hr4
                  subst hj2
                  have hm4 : MRd h4 ad sv m4 B n ζ (.inr (i + 4)) := by have hh := hm4; rw [show sb (.inr (i + 3)) (fun i => pWd B n 15 i) = (.inr (i + 3 + 1) : pR Nat) from hr4] at hh; exact hh
                  refine v_run 2 (pc' := 81) (ls' := [some (.ref (ad 200)), some (.long (zL ↑(tV B n ((i + 1))))), none, some (.int (zI 2)), none, none, none, none]) (st' := [.int (zI 0), .ref (ad 200)]) rfl ?_
                  refine v_callV (My := mX10_knownOne) (As := [.int (zI 0)]) (rest := []) (mc := 0) (ms := 0) rfl caX10_knownOne rfl rfl rfl hm4.1 rfl rfl (g_known G _ (s := 0) hA hB hn hm4 h11 n1 n2 n3 (by decide)) rfl rfl (Nat.le_of_ble_eq_true rfl) (by omega) ?_
                  rintro _ h5 ⟨rfl, m5, hm5, hk5, hf5⟩
                  refine v_run 0 (pc' := 84) (ls' := [some (.ref (ad 200)), some (.long (zL ↑(tV B n ((i + 1))))), none, some (.int (zI 2)), none, none, none, none]) (st' := [.int (zI ↑(vT (sb (.inr (i + 4)) (fun i => pTold B n ζ 0 i))))]) rfl ?_
                  rcases hr5 : pTold B n ζ 0 (i + 4) with e | k
                  · rw [show vT (sb (.inr (i + 4)) (fun i => pTold B n ζ 0 i)) = 0 from by show vT (pTold B n ζ 0 (i + 4)) = _; rw [hr5]; rfl]
                    have hm5 : MRd h5 ad sv m5 B n ζ (.inl e) := by have hh := hm5; rw [show sb (.inr (i + 4)) (fun i => sb (pTold B n ζ 0 i) (fun _ => .inr i)) = (.inl e : pR Nat) from by show sb (pTold B n ζ 0 (i + 4)) _ = _; rw [hr5]; rfl] at hh; exact hh
                    have hm5 : MRd h5 ad sv m5 B n ζ (.inl e) := hm5
                    refine v_run 2 (pc' := 87) (ls' := [some (.ref (ad 200)), some (.long (zL ↑(tV B n ((i + 1))))), none, some (.int (zI 2)), some (.int (zI ↑((0 : Nat)))), none, none, none]) (st' := [.ref (ad 200)]) rfl ?_
                    refine v_get rfl hm5.1 rfl ?_
                    refine v_run 1 (pc' := 91) (ls' := [some (.ref (ad 200)), some (.long (zL ↑(tV B n ((i + 1))))), none, some (.int (zI 2)), some (.int (zI ↑((0 : Nat)))), none, none, none]) (st' := [.int (zI 5), .int (zI (m5 9))]) rfl ?_
                    refine v_icmp_eq rfl (fun c91 => ?_) (fun c91 => ?_)
                    · refine v_run 1 (pc' := 113) (ls' := [some (.ref (ad 200)), some (.long (zL ↑(tV B n ((i + 1))))), none, some (.int (zI 2)), some (.int (zI ↑((0 : Nat)))), none, none, none]) (st' := [.ref (ad 200)]) rfl ?_
                      refine v_callV (My := mX10_goesOn) (As := []) (rest := []) (mc := 0) (ms := 0) rfl caX10_goesOn rfl rfl rfl hm5.1 rfl rfl (g_on G _ hA hB hn hm5) rfl rfl (Nat.le_of_ble_eq_true rfl) (by omega) ?_
                      rintro _ h6 ⟨rfl, m6, hm6, hk6, hf6⟩
                      refine v_run 0 (pc' := 116) (ls' := [some (.ref (ad 200)), some (.long (zL ↑(tV B n ((i + 1))))), none, some (.int (zI 2)), some (.int (zI ↑((0 : Nat)))), none, none, none]) (st' := []) rfl ?_
                      have hm6 : MRd h6 ad sv m6 B n ζ (.inl e) := hm6
                      refine v_run 1 (pc' := 117) (ls' := [some (.ref (ad 200)), some (.long (zL ↑(tV B n ((i + 1))))), none, some (.int (zI 2)), some (.int (zI ↑((0 : Nat)))), none, none, none]) (st' := [.ref (ad 200)]) rfl ?_
                      refine v_ldcSw v_ldcw_in.1 rfl ?_
                      refine v_run 2 (pc' := 123) (ls' := [some (.ref (ad 200)), some (.long (zL ↑(tV B n ((i + 1))))), none, some (.int (zI 2)), some (.int (zI ↑((0 : Nat)))), none, none, none]) (st' := [.int (zI 99), .int (zI 1), .ref (gK G 15), .ref (ad 200)]) rfl ?_
                      refine v_callV (My := mX10_readPart) (As := [.ref (gK G 15), .int (zI 1), .int (zI 99)]) (rest := []) (mc := 0) (ms := 0) rfl caX10_readPart rfl rfl rfl hm6.1 rfl rfl (g_part G _ (q := 16) (lo := 1) (hi := 99) hA hB hn hm6 (by decide) (by decide) (by decide)) rfl rfl (Nat.le_of_ble_eq_true rfl) (by omega) ?_
                      rintro _ h7 ⟨rfl, m7, hm7, hk7, hf7⟩
                      refine v_run 0 (pc' := 126) (ls' := [some (.ref (ad 200)), some (.long (zL ↑(tV B n ((i + 1))))), none, some (.int (zI 2)), some (.int (zI ↑((0 : Nat)))), none, none, none]) (st' := [.int (zI ↑(vP (sb (.inl e) (fun i => pNum B n 16 1 99 i)) 1))]) rfl ?_
                      have hm7 : MRd h7 ad sv m7 B n ζ (.inl e) := hm7
                      refine v_run 2 (pc' := 129) (ls' := [some (.ref (ad 200)), some (.long (zL ↑(tV B n ((i + 1))))), none, some (.int (zI 2)), some (.int (zI ↑((0 : Nat)))), some (.int (zI ↑(vP (sb (.inl e) (fun i => pNum B n 16 1 99 i)) 1))), none, none]) (st' := [.ref (ad 200)]) rfl ?_
                      refine v_ldcSw v_ldcw_in.2.1 rfl ?_
                      refine v_run 2 (pc' := 135) (ls' := [some (.ref (ad 200)), some (.long (zL ↑(tV B n ((i + 1))))), none, some (.int (zI 2)), some (.int (zI ↑((0 : Nat)))), some (.int (zI ↑(vP (sb (.inl e) (fun i => pNum B n 16 1 99 i)) 1))), none, none]) (st' := [.int (zI 9), .int (zI 0), .ref (gK G 16), .ref (ad 200)]) rfl ?_
                      refine v_callV (My := mX10_readPart) (As := [.ref (gK G 16), .int (zI 0), .int (zI 9)]) (rest := []) (mc := 0) (ms := 0) rfl caX10_readPart rfl rfl rfl hm7.1 rfl rfl (g_part G _ (q := 17) (lo := 0) (hi := 9) hA hB hn hm7 (by decide) (by decide) (by decide)) rfl rfl (Nat.le_of_ble_eq_true rfl) (by omega) ?_
                      rintro _ h8 ⟨rfl, m8, hm8, hk8, hf8⟩
                      refine v_run 0 (pc' := 138) (ls' := [some (.ref (ad 200)), some (.long (zL ↑(tV B n ((i + 1))))), none, some (.int (zI 2)), some (.int (zI ↑((0 : Nat)))), some (.int (zI ↑(vP (sb (.inl e) (fun i => pNum B n 16 1 99 i)) 1))), none, none]) (st' := [.int (zI ↑(vP (sb (.inl e) (fun i => pNum B n 17 0 9 i)) 0))]) rfl ?_
                      have hm8 : MRd h8 ad sv m8 B n ζ (.inl e) := hm8
                      refine v_run 2 (pc' := 141) (ls' := [some (.ref (ad 200)), some (.long (zL ↑(tV B n ((i + 1))))), none, some (.int (zI 2)), some (.int (zI ↑((0 : Nat)))), some (.int (zI ↑(vP (sb (.inl e) (fun i => pNum B n 16 1 99 i)) 1))), some (.int (zI ↑(vP (sb (.inl e) (fun i => pNum B n 17 0 9 i)) 0))), none]) (st' := [.ref (ad 200)]) rfl ?_
                      refine v_get rfl hm8.1 rfl ?_
                      refine v_run 1 (pc' := 145) (ls' := [some (.ref (ad 200)), some (.long (zL ↑(tV B n ((i + 1))))), none, some (.int (zI 2)), some (.int (zI ↑((0 : Nat)))), some (.int (zI ↑(vP (sb (.inl e) (fun i => pNum B n 16 1 99 i)) 1))), some (.int (zI ↑(vP (sb (.inl e) (fun i => pNum B n 17 0 9 i)) 0))), none]) (st' := [.int (zI 5), .int (zI (m8 9))]) rfl ?_
                      refine v_icmp_ne rfl (fun c145 => ?_) (fun c145 => ?_)
                      · exact absurd (by rw [hm8.2.2.2.2.1]) c145
                      · rw [show lq B n ζ i (lSen B n ζ i) = .inl e from by simp only [lq, if_neg hq0, lSen, if_neg hcap, hr2, pKind, if_pos (show 19 ≤ tK B n (i + 1 + 1) by show 19 ≤ tK B n (i + 2); omega), show tK B n (i + 1 + 1) - 19 = 2 from by show tK B n (i + 2) - 19 = 2; omega, hr4, hr5, sb]]; exact v_vret rfl rfl ⟨rfl, m8, hm8, (((((((hk1.tr hk2).tr hk3).tr hk4).tr hk5).tr hk6).tr hk7).tr hk8), (((((((hf1.tr hf2).tr hf3).tr hf4).tr hf5).tr hf6).tr hf7).tr hf8)⟩
                    · exact absurd (by rw [hm5.2.2.2.2.1]) c91
                  · rw [show vT (sb (.inr (i + 4)) (fun i => pTold B n ζ 0 i)) = k from by show vT (pTold B n ζ 0 (i + 4)) = _; rw [hr5]; rfl]
                    have ht5 := pTold_z hzo hr5
                    have hm5 : MRd h5 ad sv m5 B n ζ (.inr (i + 4)) := by have hh := hm5; rw [show sb (.inr (i + 4)) (fun i => sb (pTold B n ζ 0 i) (fun _ => .inr i)) = (.inr (i + 4) : pR Nat) from by show sb (pTold B n ζ 0 (i + 4)) _ = _; rw [hr5]; rfl] at hh; exact hh
                    refine v_run 2 (pc' := 87) (ls' := [some (.ref (ad 200)), some (.long (zL ↑(tV B n ((i + 1))))), none, some (.int (zI 2)), some (.int (zI ↑k)), none, none, none]) (st' := [.ref (ad 200)]) rfl ?_
                    refine v_get rfl hm5.1 rfl ?_
                    refine v_run 1 (pc' := 91) (ls' := [some (.ref (ad 200)), some (.long (zL ↑(tV B n ((i + 1))))), none, some (.int (zI 2)), some (.int (zI ↑k)), none, none, none]) (st' := [.int (zI 5), .int (zI (m5 9))]) rfl ?_
                    refine v_icmp_eq rfl (fun c91 => ?_) (fun c91 => ?_)
                    · exact absurd (hm5.2.2.2.2.2.1 ▸ c91) (m9_ne (i + 4))
                    · refine v_run 1 (pc' := 95) (ls' := [some (.ref (ad 200)), some (.long (zL ↑(tV B n ((i + 1))))), none, some (.int (zI 2)), some (.int (zI ↑k)), none, none, none]) (st' := [.ref (ad 200)]) rfl ?_
                      refine v_get rfl hm5.1 rfl ?_
                      refine v_run 1 (pc' := 100) (ls' := [some (.ref (ad 200)), some (.long (zL ↑(tV B n ((i + 1))))), none, some (.int (zI 2)), some (.int (zI ↑k)), none, none, none]) (st' := [.int (zI ↑k), .ref (ad 230)]) rfl ?_
                      refine v_callV (My := mX9_isHung) (As := [.int (zI ↑k)]) (rest := []) (mc := 0) (ms := 0) rfl caX9_isHung rfl rfl rfl hm5.2.2.1.1.1 rfl rfl (g_isHung G _ hA hB hn hm5 (by omega) z5 r14) rfl rfl (Nat.le_of_ble_eq_true rfl) (by omega) ?_
                      rintro _ _ ⟨rfl, rfl⟩
                      refine v_run 0 (pc' := 103) (ls' := [some (.ref (ad 200)), some (.long (zL ↑(tV B n ((i + 1))))), none, some (.int (zI 2)), some (.int (zI ↑k)), none, none, none]) (st' := [.int (zb (hngB ζ k))]) rfl ?_
                      refine v_if_eq rfl (fun c103 => ?_) (fun c103 => ?_)
                      · rw [zb_n] at c103
                        have hnh : ¬ hngB ζ k = true := by rw [c103]; decide
                        refine v_run 1 (pc' := 113) (ls' := [some (.ref (ad 200)), some (.long (zL ↑(tV B n ((i + 1))))), none, some (.int (zI 2)), some (.int (zI ↑k)), none, none, none]) (st' := [.ref (ad 200)]) rfl ?_
                        refine v_callV (My := mX10_goesOn) (As := []) (rest := []) (mc := 0) (ms := 0) rfl caX10_goesOn rfl rfl rfl hm5.1 rfl rfl (g_on G _ hA hB hn hm5) rfl rfl (Nat.le_of_ble_eq_true rfl) (by omega) ?_
                        rintro _ h6 ⟨rfl, m6, hm6, hk6, hf6⟩
                        refine v_run 0 (pc' := 116) (ls' := [some (.ref (ad 200)), some (.long (zL ↑(tV B n ((i + 1))))), none, some (.int (zI 2)), some (.int (zI ↑k)), none, none, none]) (st' := []) rfl ?_
                        have hm6 : MRd h6 ad sv m6 B n ζ (.inr (i + 5)) := hm6
                        refine v_run 1 (pc' := 117) (ls' := [some (.ref (ad 200)), some (.long (zL ↑(tV B n ((i + 1))))), none, some (.int (zI 2)), some (.int (zI ↑k)), none, none, none]) (st' := [.ref (ad 200)]) rfl ?_
                        refine v_ldcSw v_ldcw_in.1 rfl ?_
                        refine v_run 2 (pc' := 123) (ls' := [some (.ref (ad 200)), some (.long (zL ↑(tV B n ((i + 1))))), none, some (.int (zI 2)), some (.int (zI ↑k)), none, none, none]) (st' := [.int (zI 99), .int (zI 1), .ref (gK G 15), .ref (ad 200)]) rfl ?_
                        refine v_callV (My := mX10_readPart) (As := [.ref (gK G 15), .int (zI 1), .int (zI 99)]) (rest := []) (mc := 0) (ms := 0) rfl caX10_readPart rfl rfl rfl hm6.1 rfl rfl (g_part G _ (q := 16) (lo := 1) (hi := 99) hA hB hn hm6 (by decide) (by decide) (by decide)) rfl rfl (Nat.le_of_ble_eq_true rfl) (by omega) ?_
                        rintro _ h7 ⟨rfl, m7, hm7, hk7, hf7⟩
                        refine v_run 0 (pc' := 126) (ls' := [some (.ref (ad 200)), some (.long (zL ↑(tV B n ((i + 1))))), none, some (.int (zI 2)), some (.int (zI ↑k)), none, none, none]) (st' := [.int (zI ↑(vP (sb (.inr (i + 5)) (fun i => pNum B n 16 1 99 i)) 1))]) rfl ?_
                        rcases hr7 : pNum B n 16 1 99 (i + 5) with e | a
                        · rw [show vP (sb (.inr (i + 5)) (fun i => pNum B n 16 1 99 i)) 1 = 1 from by show vP (pNum B n 16 1 99 (i + 5)) 1 = _; rw [hr7]; rfl]
                          have hm7 : MRd h7 ad sv m7 B n ζ (.inl e) := by have hh := hm7; rw [show sb (.inr (i + 5)) (fun i => sb (pNum B n 16 1 99 i) (fun a => .inr a.1)) = (.inl e : pR Nat) from by show sb (pNum B n 16 1 99 (i + 5)) _ = _; rw [hr7]; rfl] at hh; exact hh
                          have hm7 : MRd h7 ad sv m7 B n ζ (.inl e) := hm7
                          refine v_run 2 (pc' := 129) (ls' := [some (.ref (ad 200)), some (.long (zL ↑(tV B n ((i + 1))))), none, some (.int (zI 2)), some (.int (zI ↑k)), some (.int (zI ↑((1 : Nat)))), none, none]) (st' := [.ref (ad 200)]) rfl ?_
                          refine v_ldcSw v_ldcw_in.2.1 rfl ?_
                          refine v_run 2 (pc' := 135) (ls' := [some (.ref (ad 200)), some (.long (zL ↑(tV B n ((i + 1))))), none, some (.int (zI 2)), some (.int (zI ↑k)), some (.int (zI ↑((1 : Nat)))), none, none]) (st' := [.int (zI 9), .int (zI 0), .ref (gK G 16), .ref (ad 200)]) rfl ?_
                          refine v_callV (My := mX10_readPart) (As := [.ref (gK G 16), .int (zI 0), .int (zI 9)]) (rest := []) (mc := 0) (ms := 0) rfl caX10_readPart rfl rfl rfl hm7.1 rfl rfl (g_part G _ (q := 17) (lo := 0) (hi := 9) hA hB hn hm7 (by decide) (by decide) (by decide)) rfl rfl (Nat.le_of_ble_eq_true rfl) (by omega) ?_
                          rintro _ h8 ⟨rfl, m8, hm8, hk8, hf8⟩
                          refine v_run 0 (pc' := 138) (ls' := [some (.ref (ad 200)), some (.long (zL ↑(tV B n ((i + 1))))), none, some (.int (zI 2)), some (.int (zI ↑k)), some (.int (zI ↑((1 : Nat)))), none, none]) (st' := [.int (zI ↑(vP (sb (.inl e) (fun i => pNum B n 17 0 9 i)) 0))]) rfl ?_
                          have hm8 : MRd h8 ad sv m8 B n ζ (.inl e) := hm8
                          refine v_run 2 (pc' := 141) (ls' := [some (.ref (ad 200)), some (.long (zL ↑(tV B n ((i + 1))))), none, some (.int (zI 2)), some (.int (zI ↑k)), some (.int (zI ↑((1 : Nat)))), some (.int (zI ↑(vP (sb (.inl e) (fun i => pNum B n 17 0 9 i)) 0))), none]) (st' := [.ref (ad 200)]) rfl ?_
                          refine v_get rfl hm8.1 rfl ?_
                          refine v_run 1 (pc' := 145) (ls' := [some (.ref (ad 200)), some (.long (zL ↑(tV B n ((i + 1))))), none, some (.int (zI 2)), some (.int (zI ↑k)), some (.int (zI ↑((1 : Nat)))), some (.int (zI ↑(vP (sb (.inl e) (fun i => pNum B n 17 0 9 i)) 0))), none]) (st' := [.int (zI 5), .int (zI (m8 9))]) rfl ?_
                          refine v_icmp_ne rfl (fun c145 => ?_) (fun c145 => ?_)
                          · exact absurd (by rw [hm8.2.2.2.2.1]) c145
                          · rw [show lq B n ζ i (lSen B n ζ i) = .inl e from by simp only [lq, if_neg hq0, lSen, if_neg hcap, hr2, pKind, if_pos (show 19 ≤ tK B n (i + 1 + 1) by show 19 ≤ tK B n (i + 2); omega), show tK B n (i + 1 + 1) - 19 = 2 from by show tK B n (i + 2) - 19 = 2; omega, hr4, hr5, if_neg hnh, hr7, sb]]; exact v_vret rfl rfl ⟨rfl, m8, hm8, (((((((hk1.tr hk2).tr hk3).tr hk4).tr hk5).tr hk6).tr hk7).tr hk8), (((((((hf1.tr hf2).tr hf3).tr hf4).tr hf5).tr hf6).tr hf7).tr hf8)⟩
                        · rw [show vP (sb (.inr (i + 5)) (fun i => pNum B n 16 1 99 i)) 1 = a.2 from by show vP (pNum B n 16 1 99 (i + 5)) 1 = _; rw [hr7]; rfl]
                          have hb7 := pNum_b hr7
                          have hm7 : MRd h7 ad sv m7 B n ζ (.inr a.1) := by have hh := hm7; rw [show sb (.inr (i + 5)) (fun i => sb (pNum B n 16 1 99 i) (fun a => .inr a.1)) = (.inr a.1 : pR Nat) from by show sb (pNum B n 16 1 99 (i + 5)) _ = _; rw [hr7]; rfl] at hh; exact hh
                          refine v_run 2 (pc' := 129) (ls' := [some (.ref (ad 200)), some (.long (zL ↑(tV B n ((i + 1))))), none, some (.int (zI 2)), some (.int (zI ↑k)), some (.int (zI ↑a.2)), none, none]) (st' := [.ref (ad 200)]) rfl ?_
                          refine v_ldcSw v_ldcw_in.2.1 rfl ?_
                          refine v_run 2 (pc' := 135) (ls' := [some (.ref (ad 200)), some (.long (zL ↑(tV B n ((i + 1))))), none, some (.int (zI 2)), some (.int (zI ↑k)), some (.int (zI ↑a.2)), none, none]) (st' := [.int (zI 9), .int (zI 0), .ref (gK G 16), .ref (ad 200)]) rfl ?_
                          refine v_callV (My := mX10_readPart) (As := [.ref (gK G 16), .int (zI 0), .int (zI 9)]) (rest := []) (mc := 0) (ms := 0) rfl caX10_readPart rfl rfl rfl hm7.1 rfl rfl (g_part G _ (q := 17) (lo := 0) (hi := 9) hA hB hn hm7 (by decide) (by decide) (by decide)) rfl rfl (Nat.le_of_ble_eq_true rfl) (by omega) ?_
                          rintro _ h8 ⟨rfl, m8, hm8, hk8, hf8⟩
                          refine v_run 0 (pc' := 138) (ls' := [some (.ref (ad 200)), some (.long (zL ↑(tV B n ((i + 1))))), none, some (.int (zI 2)), some (.int (zI ↑k)), some (.int (zI ↑a.2)), none, none]) (st' := [.int (zI ↑(vP (sb (.inr a.1) (fun i => pNum B n 17 0 9 i)) 0))]) rfl ?_
                          rcases hr8 : pNum B n 17 0 9 a.1 with e | b
                          · rw [show vP (sb (.inr a.1) (fun i => pNum B n 17 0 9 i)) 0 = 0 from by show vP (pNum B n 17 0 9 a.1) 0 = _; rw [hr8]; rfl]
                            have hm8 : MRd h8 ad sv m8 B n ζ (.inl e) := by have hh := hm8; rw [show sb (.inr a.1) (fun i => sb (pNum B n 17 0 9 i) (fun a => .inr a.1)) = (.inl e : pR Nat) from by show sb (pNum B n 17 0 9 a.1) _ = _; rw [hr8]; rfl] at hh; exact hh
                            have hm8 : MRd h8 ad sv m8 B n ζ (.inl e) := hm8
                            refine v_run 2 (pc' := 141) (ls' := [some (.ref (ad 200)), some (.long (zL ↑(tV B n ((i + 1))))), none, some (.int (zI 2)), some (.int (zI ↑k)), some (.int (zI ↑a.2)), some (.int (zI ↑((0 : Nat)))), none]) (st' := [.ref (ad 200)]) rfl ?_
                            refine v_get rfl hm8.1 rfl ?_
                            refine v_run 1 (pc' := 145) (ls' := [some (.ref (ad 200)), some (.long (zL ↑(tV B n ((i + 1))))), none, some (.int (zI 2)), some (.int (zI ↑k)), some (.int (zI ↑a.2)), some (.int (zI ↑((0 : Nat)))), none]) (st' := [.int (zI 5), .int (zI (m8 9))]) rfl ?_
                            refine v_icmp_ne rfl (fun c145 => ?_) (fun c145 => ?_)
                            · exact absurd (by rw [hm8.2.2.2.2.1]) c145
                            · rw [show lq B n ζ i (lSen B n ζ i) = .inl e from by simp only [lq, if_neg hq0, lSen, if_neg hcap, hr2, pKind, if_pos (show 19 ≤ tK B n (i + 1 + 1) by show 19 ≤ tK B n (i + 2); omega), show tK B n (i + 1 + 1) - 19 = 2 from by show tK B n (i + 2) - 19 = 2; omega, hr4, hr5, if_neg hnh, hr7, hr8, sb]]; exact v_vret rfl rfl ⟨rfl, m8, hm8, (((((((hk1.tr hk2).tr hk3).tr hk4).tr hk5).tr hk6).tr hk7).tr hk8), (((((((hf1.tr hf2).tr hf3).tr hf4).tr hf5).tr hf6).tr hf7).tr hf8)⟩
                          · rw [show vP (sb (.inr a.1) (fun i => pNum B n 17 0 9 i)) 0 = b.2 from by show vP (pNum B n 17 0 9 a.1) 0 = _; rw [hr8]; rfl]
                            have hb8 := pNum_b hr8
                            have hm8 : MRd h8 ad sv m8 B n ζ (.inr b.1) := by have hh := hm8; rw [show sb (.inr a.1) (fun i => sb (pNum B n 17 0 9 i) (fun a => .inr a.1)) = (.inr b.1 : pR Nat) from by show sb (pNum B n 17 0 9 a.1) _ = _; rw [hr8]; rfl] at hh; exact hh
                            refine v_run 2 (pc' := 141) (ls' := [some (.ref (ad 200)), some (.long (zL ↑(tV B n ((i + 1))))), none, some (.int (zI 2)), some (.int (zI ↑k)), some (.int (zI ↑a.2)), some (.int (zI ↑b.2)), none]) (st' := [.ref (ad 200)]) rfl ?_
                            refine v_get rfl hm8.1 rfl ?_
                            refine v_run 1 (pc' := 145) (ls' := [some (.ref (ad 200)), some (.long (zL ↑(tV B n ((i + 1))))), none, some (.int (zI 2)), some (.int (zI ↑k)), some (.int (zI ↑a.2)), some (.int (zI ↑b.2)), none]) (st' := [.int (zI 5), .int (zI (m8 9))]) rfl ?_
                            refine v_icmp_ne rfl (fun c145 => ?_) (fun c145 => ?_)
                            · refine v_run 1 (pc' := 150) (ls' := [some (.ref (ad 200)), some (.long (zL ↑(tV B n ((i + 1))))), none, some (.int (zI 2)), some (.int (zI ↑k)), some (.int (zI ↑a.2)), some (.int (zI ↑b.2)), none]) (st' := [.ref (ad 200)]) rfl ?_
                              refine v_get rfl hm8.1 rfl ?_
                              refine v_run 0 (pc' := 153) (ls' := [some (.ref (ad 200)), some (.long (zL ↑(tV B n ((i + 1))))), none, some (.int (zI 2)), some (.int (zI ↑k)), some (.int (zI ↑a.2)), some (.int (zI ↑b.2)), none]) (st' := [.ref (ad 230)]) rfl ?_
                              refine v_get rfl hm8.2.2.1.1.1 rfl ?_
                              refine v_run 5 (pc' := 163) (ls' := [some (.ref (ad 200)), some (.long (zL ↑(tV B n ((i + 1))))), none, some (.int (zI 2)), some (.int (zI ↑k)), some (.int (zI ↑a.2)), some (.int (zI ↑b.2)), some (.int (zI ↑(ζ 5 0)))]) (st' := [.int (zI ↑(ζ 5 0)), .int (zI 1), .long (zL ↑(tV B n ((i + 1)))), .ref (ad 200)]) rfl ?_
                              refine v_callV (My := mX10_names) (As := [.long (zL ↑(tV B n ((i + 1)))), .int (zI 1), .int (zI ↑(ζ 5 0))]) (rest := []) (mc := 0) (ms := 0) rfl caX10_names rfl rfl rfl hm8.1 rfl rfl (g_names G _ (w := (tV B n (i + 1))) (s := 1) (k := ζ 5 0) hA hB hn hm8 (by omega)) rfl rfl (Nat.le_of_ble_eq_true rfl) (by omega) ?_
                              rintro _ h9 ⟨rfl, m9, hm9, hk9, hf9⟩
                              refine v_run 0 (pc' := 166) (ls' := [some (.ref (ad 200)), some (.long (zL ↑(tV B n ((i + 1))))), none, some (.int (zI 2)), some (.int (zI ↑k)), some (.int (zI ↑a.2)), some (.int (zI ↑b.2)), some (.int (zI ↑(ζ 5 0)))]) (st' := []) rfl ?_
                              refine v_run 1 (pc' := 167) (ls' := [some (.ref (ad 200)), some (.long (zL ↑(tV B n ((i + 1))))), none, some (.int (zI 2)), some (.int (zI ↑k)), some (.int (zI ↑a.2)), some (.int (zI ↑b.2)), some (.int (zI ↑(ζ 5 0)))]) (st' := [.ref (ad 200)]) rfl ?_
                              refine v_get rfl hm9.1 rfl ?_
                              refine v_run 0 (pc' := 170) (ls' := [some (.ref (ad 200)), some (.long (zL ↑(tV B n ((i + 1))))), none, some (.int (zI 2)), some (.int (zI ↑k)), some (.int (zI ↑a.2)), some (.int (zI ↑b.2)), some (.int (zI ↑(ζ 5 0)))]) (st' := [.ref (ad 230)]) rfl ?_
                              refine v_get rfl hm9.2.2.1.1.1 rfl ?_
                              refine v_run 2 (pc' := 176) (ls' := [some (.ref (ad 200)), some (.long (zL ↑(tV B n ((i + 1))))), none, some (.int (zI 2)), some (.int (zI ↑k)), some (.int (zI ↑a.2)), some (.int (zI ↑b.2)), some (.int (zI ↑(ζ 5 0)))]) (st' := [.int (zI 2), .int (zI ↑(ζ 5 0)), .ref (Sf ad 230 13)]) rfl ?_
                              rw [show (zI 2 : Int32) = zI ↑(2 : Nat) from rfl]
                              refine v_iastore' rfl hm9.2.2.1.1.2.2.1 (i := ζ 5 0) rfl (by omega) ?_
                              rw [ar_upd]
                              have hm10 := hm9.r13 hA (ζ 5 0) 2
                              generalize e10 : hset h9 (Sf ad 230 13) _ = h10 at hm10 ⊢
                              have hf10 : frN ad h9 h10 := e10 ▸ frN.set (Or.inr ⟨by decide, by decide⟩) _
                              refine v_run 1 (pc' := 178) (ls' := [some (.ref (ad 200)), some (.long (zL ↑(tV B n ((i + 1))))), none, some (.int (zI 2)), some (.int (zI ↑k)), some (.int (zI ↑a.2)), some (.int (zI ↑b.2)), some (.int (zI ↑(ζ 5 0)))]) (st' := [.ref (ad 200)]) rfl ?_
                              refine v_get rfl hm10.1 rfl ?_
                              refine v_run 0 (pc' := 181) (ls' := [some (.ref (ad 200)), some (.long (zL ↑(tV B n ((i + 1))))), none, some (.int (zI 2)), some (.int (zI ↑k)), some (.int (zI ↑a.2)), some (.int (zI ↑b.2)), some (.int (zI ↑(ζ 5 0)))]) (st' := [.ref (ad 230)]) rfl ?_
                              refine v_get rfl hm10.2.2.1.1.1 rfl ?_
                              refine v_run 2 (pc' := 188) (ls' := [some (.ref (ad 200)), some (.long (zL ↑(tV B n ((i + 1))))), none, some (.int (zI 2)), some (.int (zI ↑k)), some (.int (zI ↑a.2)), some (.int (zI ↑b.2)), some (.int (zI ↑(ζ 5 0)))]) (st' := [.int (zI ↑k), .int (zI ↑(ζ 5 0)), .ref (Sf ad 230 14)]) rfl ?_
                              refine v_iastore' rfl hm10.2.2.1.1.2.2.2.1 (i := ζ 5 0) rfl (by omega) ?_
                              rw [ar_upd]
                              have hm11 := hm10.r14 hA (ζ 5 0) k
                              generalize e11 : hset h10 (Sf ad 230 14) _ = h11 at hm11 ⊢
                              have hf11 : frN ad h10 h11 := e11 ▸ frN.set (Or.inr ⟨by decide, by decide⟩) _
                              refine v_run 1 (pc' := 190) (ls' := [some (.ref (ad 200)), some (.long (zL ↑(tV B n ((i + 1))))), none, some (.int (zI 2)), some (.int (zI ↑k)), some (.int (zI ↑a.2)), some (.int (zI ↑b.2)), some (.int (zI ↑(ζ 5 0)))]) (st' := [.ref (ad 200)]) rfl ?_
                              refine v_get rfl hm11.1 rfl ?_
                              refine v_run 0 (pc' := 193) (ls' := [some (.ref (ad 200)), some (.long (zL ↑(tV B n ((i + 1))))), none, some (.int (zI 2)), some (.int (zI ↑k)), some (.int (zI ↑a.2)), some (.int (zI ↑b.2)), some (.int (zI ↑(ζ 5 0)))]) (st' := [.ref (ad 230)]) rfl ?_
                              refine v_get rfl hm11.2.2.1.1.1 rfl ?_
                              refine v_run 2 (pc' := 200) (ls' := [some (.ref (ad 200)), some (.long (zL ↑(tV B n ((i + 1))))), none, some (.int (zI 2)), some (.int (zI ↑k)), some (.int (zI ↑a.2)), some (.int (zI ↑b.2)), some (.int (zI ↑(ζ 5 0)))]) (st' := [.int (zI ↑a.2), .int (zI ↑(ζ 5 0)), .ref (Sf ad 230 15)]) rfl ?_
                              refine v_iastore' rfl hm11.2.2.1.1.2.2.2.2.1 (i := ζ 5 0) rfl (by omega) ?_
                              rw [ar_upd]
                              have hm12 := hm11.r15 hA (ζ 5 0) a.2
                              generalize e12 : hset h11 (Sf ad 230 15) _ = h12 at hm12 ⊢
                              have hf12 : frN ad h11 h12 := e12 ▸ frN.set (Or.inr ⟨by decide, by decide⟩) _
                              refine v_run 1 (pc' := 202) (ls' := [some (.ref (ad 200)), some (.long (zL ↑(tV B n ((i + 1))))), none, some (.int (zI 2)), some (.int (zI ↑k)), some (.int (zI ↑a.2)), some (.int (zI ↑b.2)), some (.int (zI ↑(ζ 5 0)))]) (st' := [.ref (ad 200)]) rfl ?_
                              refine v_get rfl hm12.1 rfl ?_
                              refine v_run 0 (pc' := 205) (ls' := [some (.ref (ad 200)), some (.long (zL ↑(tV B n ((i + 1))))), none, some (.int (zI 2)), some (.int (zI ↑k)), some (.int (zI ↑a.2)), some (.int (zI ↑b.2)), some (.int (zI ↑(ζ 5 0)))]) (st' := [.ref (ad 230)]) rfl ?_
                              refine v_get rfl hm12.2.2.1.1.1 rfl ?_
                              refine v_run 2 (pc' := 212) (ls' := [some (.ref (ad 200)), some (.long (zL ↑(tV B n ((i + 1))))), none, some (.int (zI 2)), some (.int (zI ↑k)), some (.int (zI ↑a.2)), some (.int (zI ↑b.2)), some (.int (zI ↑(ζ 5 0)))]) (st' := [.int (zI ↑b.2), .int (zI ↑(ζ 5 0)), .ref (Sf ad 230 16)]) rfl ?_
                              refine v_iastore' rfl hm12.2.2.1.1.2.2.2.2.2.1 (i := ζ 5 0) rfl (by omega) ?_
                              rw [ar_upd]
                              have hm13 := hm12.r16 hA (ζ 5 0) b.2
                              generalize e13 : hset h12 (Sf ad 230 16) _ = h13 at hm13 ⊢
                              have hf13 : frN ad h12 h13 := e13 ▸ frN.set (Or.inr ⟨by decide, by decide⟩) _
                              refine v_run 1 (pc' := 214) (ls' := [some (.ref (ad 200)), some (.long (zL ↑(tV B n ((i + 1))))), none, some (.int (zI 2)), some (.int (zI ↑k)), some (.int (zI ↑a.2)), some (.int (zI ↑b.2)), some (.int (zI ↑(ζ 5 0)))]) (st' := [.ref (ad 200)]) rfl ?_
                              refine v_get rfl hm13.1 rfl ?_
                              refine v_run 1 (pc' := 218) (ls' := [some (.ref (ad 200)), some (.long (zL ↑(tV B n ((i + 1))))), none, some (.int (zI 2)), some (.int (zI ↑k)), some (.int (zI ↑a.2)), some (.int (zI ↑b.2)), some (.int (zI ↑(ζ 5 0)))]) (st' := [.ref (ad 230), .ref (ad 230)]) rfl ?_
                              refine v_get rfl hm13.2.2.1.1.1 rfl ?_
                              refine v_run 2 (pc' := 223) (ls' := [some (.ref (ad 200)), some (.long (zL ↑(tV B n ((i + 1))))), none, some (.int (zI 2)), some (.int (zI ↑k)), some (.int (zI ↑a.2)), some (.int (zI ↑b.2)), some (.int (zI ↑(ζ 5 0)))]) (st' := [.int ((zI ↑(ζ 5 0)) + (zI 1)), .ref (ad 230)]) rfl ?_
                              rw [show (((zI ↑(ζ 5 0)) + (zI 1)) : Int32) = zI ↑(ζ 5 0 + 1) from zI_s1 _]
                              refine v_put rfl hm13.2.2.1.1.1 rfl rfl (Nat.le_of_ble_eq_true rfl) ?_
                              have hm14 := hm13.i hA 5 (ζ 5 0 + 1) (by decide)
                              generalize e14 : hset h13 (ad 230) _ = h14 at hm14 ⊢
                              have hf14 : frN ad h13 h14 := e14 ▸ frN.set (Or.inr ⟨by decide, by decide⟩) _
                              refine v_run 0 (pc' := 226) (ls' := [some (.ref (ad 200)), some (.long (zL ↑(tV B n ((i + 1))))), none, some (.int (zI 2)), some (.int (zI ↑k)), some (.int (zI ↑a.2)), some (.int (zI ↑b.2)), some (.int (zI ↑(ζ 5 0)))]) (st' := []) rfl ?_
                              rw [show lq B n ζ i (lSen B n ζ i) = .inr (b.1, (zU (zU (zU (zU (zU (zNm ζ (tV B n (i + 1)) 1 (ζ 5 0)) 13 (ζ 5 0) 2) 14 (ζ 5 0) k) 15 (ζ 5 0) a.2) 16 (ζ 5 0) b.2) 5 0 (ζ 5 0 + 1))) from by simp only [lq, if_neg hq0, lSen, if_neg hcap, hr2, pKind, if_pos (show 19 ≤ tK B n (i + 1 + 1) by show 19 ≤ tK B n (i + 2); omega), show tK B n (i + 1 + 1) - 19 = 2 from by show tK B n (i + 2) - 19 = 2; omega, hr4, hr5, if_neg hnh, hr7, hr8, sb]]; exact v_vret rfl rfl ⟨rfl, m9, hm14, ((((((((hk1.tr hk2).tr hk3).tr hk4).tr hk5).tr hk6).tr hk7).tr hk8).tr hk9), (((((((((((((hf1.tr hf2).tr hf3).tr hf4).tr hf5).tr hf6).tr hf7).tr hf8).tr hf9).tr hf10).tr hf11).tr hf12).tr hf13).tr hf14)⟩
                            · exact absurd (hm8.2.2.2.2.2.1 ▸ c145) (m9_ne b.1)
                      · rw [zb_n, Bool.not_eq_false] at c103
                        refine v_run 2 (pc' := 109) (ls' := [some (.ref (ad 200)), some (.long (zL ↑(tV B n ((i + 1))))), none, some (.int (zI 2)), some (.int (zI ↑k)), none, none, none]) (st' := [.int (zI 7), .ref (ad 200)]) rfl ?_
                        refine v_callV (My := mX10_flaw) (As := [.int (zI 7)]) (rest := []) (mc := 0) (ms := 0) rfl caX10_flaw rfl rfl rfl hm5.1 rfl rfl (g_flaw G _ (f := 7) hA hB hn hm5) rfl rfl (Nat.le_of_ble_eq_true rfl) (by omega) ?_
                        rintro _ h6 ⟨rfl, m6, hm6, hk6, hf6⟩
                        refine v_run 0 (pc' := 112) (ls' := [some (.ref (ad 200)), some (.long (zL ↑(tV B n ((i + 1))))), none, some (.int (zI 2)), some (.int (zI ↑k)), none, none, none]) (st' := []) rfl ?_
                        have hm6 : MRd h6 ad sv m6 B n ζ (.inl (7, tP B n (i + 4))) := hm6
                        refine v_run 1 (pc' := 113) (ls' := [some (.ref (ad 200)), some (.long (zL ↑(tV B n ((i + 1))))), none, some (.int (zI 2)), some (.int (zI ↑k)), none, none, none]) (st' := [.ref (ad 200)]) rfl ?_
                        refine v_callV (My := mX10_goesOn) (As := []) (rest := []) (mc := 0) (ms := 0) rfl caX10_goesOn rfl rfl rfl hm6.1 rfl rfl (g_on G _ hA hB hn hm6) rfl rfl (Nat.le_of_ble_eq_true rfl) (by omega) ?_
                        rintro _ h7 ⟨rfl, m7, hm7, hk7, hf7⟩
                        refine v_run 0 (pc' := 116) (ls' := [some (.ref (ad 200)), some (.long (zL ↑(tV B n ((i + 1))))), none, some (.int (zI 2)), some (.int (zI ↑k)), none, none, none]) (st' := []) rfl ?_
                        have hm7 : MRd h7 ad sv m7 B n ζ (.inl (7, tP B n (i + 4))) := hm7
                        refine v_run 1 (pc' := 117) (ls' := [some (.ref (ad 200)), some (.long (zL ↑(tV B n ((i + 1))))), none, some (.int (zI 2)), some (.int (zI ↑k)), none, none, none]) (st' := [.ref (ad 200)]) rfl ?_
                        refine v_ldcSw v_ldcw_in.1 rfl ?_
                        refine v_run 2 (pc' := 123) (ls' := [some (.ref (ad 200)), some (.long (zL ↑(tV B n ((i + 1))))), none, some (.int (zI 2)), some (.int (zI ↑k)), none, none, none]) (st' := [.int (zI 99), .int (zI 1), .ref (gK G 15), .ref (ad 200)]) rfl ?_
                        refine v_callV (My := mX10_readPart) (As := [.ref (gK G 15), .int (zI 1), .int (zI 99)]) (rest := []) (mc := 0) (ms := 0) rfl caX10_readPart rfl rfl rfl hm7.1 rfl rfl (g_part G _ (q := 16) (lo := 1) (hi := 99) hA hB hn hm7 (by decide) (by decide) (by decide)) rfl rfl (Nat.le_of_ble_eq_true rfl) (by omega) ?_
                        rintro _ h8 ⟨rfl, m8, hm8, hk8, hf8⟩
                        refine v_run 0 (pc' := 126) (ls' := [some (.ref (ad 200)), some (.long (zL ↑(tV B n ((i + 1))))), none, some (.int (zI 2)), some (.int (zI ↑k)), none, none, none]) (st' := [.int (zI ↑(vP (sb (.inl (7, tP B n (i + 4))) (fun i => pNum B n 16 1 99 i)) 1))]) rfl ?_
                        have hm8 : MRd h8 ad sv m8 B n ζ (.inl (7, tP B n (i + 4))) := hm8
                        refine v_run 2 (pc' := 129) (ls' := [some (.ref (ad 200)), some (.long (zL ↑(tV B n ((i + 1))))), none, some (.int (zI 2)), some (.int (zI ↑k)), some (.int (zI ↑(vP (sb (.inl (7, tP B n (i + 4))) (fun i => pNum B n 16 1 99 i)) 1))), none, none]) (st' := [.ref (ad 200)]) rfl ?_
                        refine v_ldcSw v_ldcw_in.2.1 rfl ?_
                        refine v_run 2 (pc' := 135) (ls' := [some (.ref (ad 200)), some (.long (zL ↑(tV B n ((i + 1))))), none, some (.int (zI 2)), some (.int (zI ↑k)), some (.int (zI ↑(vP (sb (.inl (7, tP B n (i + 4))) (fun i => pNum B n 16 1 99 i)) 1))), none, none]) (st' := [.int (zI 9), .int (zI 0), .ref (gK G 16), .ref (ad 200)]) rfl ?_
                        refine v_callV (My := mX10_readPart) (As := [.ref (gK G 16), .int (zI 0), .int (zI 9)]) (rest := []) (mc := 0) (ms := 0) rfl caX10_readPart rfl rfl rfl hm8.1 rfl rfl (g_part G _ (q := 17) (lo := 0) (hi := 9) hA hB hn hm8 (by decide) (by decide) (by decide)) rfl rfl (Nat.le_of_ble_eq_true rfl) (by omega) ?_
                        rintro _ h9 ⟨rfl, m9, hm9, hk9, hf9⟩
                        refine v_run 0 (pc' := 138) (ls' := [some (.ref (ad 200)), some (.long (zL ↑(tV B n ((i + 1))))), none, some (.int (zI 2)), some (.int (zI ↑k)), some (.int (zI ↑(vP (sb (.inl (7, tP B n (i + 4))) (fun i => pNum B n 16 1 99 i)) 1))), none, none]) (st' := [.int (zI ↑(vP (sb (.inl (7, tP B n (i + 4))) (fun i => pNum B n 17 0 9 i)) 0))]) rfl ?_
                        have hm9 : MRd h9 ad sv m9 B n ζ (.inl (7, tP B n (i + 4))) := hm9
                        refine v_run 2 (pc' := 141) (ls' := [some (.ref (ad 200)), some (.long (zL ↑(tV B n ((i + 1))))), none, some (.int (zI 2)), some (.int (zI ↑k)), some (.int (zI ↑(vP (sb (.inl (7, tP B n (i + 4))) (fun i => pNum B n 16 1 99 i)) 1))), some (.int (zI ↑(vP (sb (.inl (7, tP B n (i + 4))) (fun i => pNum B n 17 0 9 i)) 0))), none]) (st' := [.ref (ad 200)]) rfl ?_
                        refine v_get rfl hm9.1 rfl ?_
                        refine v_run 1 (pc' := 145) (ls' := [some (.ref (ad 200)), some (.long (zL ↑(tV B n ((i + 1))))), none, some (.int (zI 2)), some (.int (zI ↑k)), some (.int (zI ↑(vP (sb (.inl (7, tP B n (i + 4))) (fun i => pNum B n 16 1 99 i)) 1))), some (.int (zI ↑(vP (sb (.inl (7, tP B n (i + 4))) (fun i => pNum B n 17 0 9 i)) 0))), none]) (st' := [.int (zI 5), .int (zI (m9 9))]) rfl ?_
                        refine v_icmp_ne rfl (fun c145 => ?_) (fun c145 => ?_)
                        · exact absurd (by rw [hm9.2.2.2.2.1]) c145
                        · rw [show lq B n ζ i (lSen B n ζ i) = .inl (7, tP B n (i + 4)) from by simp only [lq, if_neg hq0, lSen, if_neg hcap, hr2, pKind, if_pos (show 19 ≤ tK B n (i + 1 + 1) by show 19 ≤ tK B n (i + 2); omega), show tK B n (i + 1 + 1) - 19 = 2 from by show tK B n (i + 2) - 19 = 2; omega, hr4, hr5, if_pos c103, sb]]; exact v_vret rfl rfl ⟨rfl, m9, hm9, ((((((((hk1.tr hk2).tr hk3).tr hk4).tr hk5).tr hk6).tr hk7).tr hk8).tr hk9), ((((((((hf1.tr hf2).tr hf3).tr hf4).tr hf5).tr hf6).tr hf7).tr hf8).tr hf9)⟩
              · exact absurd c61 (by decide)
          · rw [zb_n, Bool.not_eq_false] at c37
            have ek : tK B n (i + 2) = 20 := of_decide_eq_true c37
            refine v_run 5 (pc' := 61) (ls' := [some (.ref (ad 200)), some (.long (zL ↑(tV B n ((i + 1))))), none, some (.int (zI 1)), none, none, none, none]) (st' := [.int (zI (-1)), .int (zI 1)]) rfl ?_
            refine v_icmp_ne rfl (fun c61 => ?_) (fun c61 => ?_)
            · refine v_run 1 (pc' := 70) (ls' := [some (.ref (ad 200)), some (.long (zL ↑(tV B n ((i + 1))))), none, some (.int (zI 1)), none, none, none, none]) (st' := [.ref (ad 200)]) rfl ?_
              refine v_callV (My := mX10_goesOn) (As := []) (rest := []) (mc := 0) (ms := 0) rfl caX10_goesOn rfl rfl rfl hm2.1 rfl rfl (g_on G _ hA hB hn hm2) rfl rfl (Nat.le_of_ble_eq_true rfl) (by omega) ?_
              rintro _ h3 ⟨rfl, m3, hm3, hk3, hf3⟩
              refine v_run 0 (pc' := 73) (ls' := [some (.ref (ad 200)), some (.long (zL ↑(tV B n ((i + 1))))), none, some (.int (zI 1)), none, none, none, none]) (st' := []) rfl ?_
              have hm3 : MRd h3 ad sv m3 B n ζ (.inr (i + 3)) := hm3
              refine v_run 1 (pc' := 74) (ls' := [some (.ref (ad 200)), some (.long (zL ↑(tV B n ((i + 1))))), none, some (.int (zI 1)), none, none, none, none]) (st' := [.ref (ad 200)]) rfl ?_
              refine v_ldcS rfl ?_
              refine v_run 0 (pc' := 76) (ls' := [some (.ref (ad 200)), some (.long (zL ↑(tV B n ((i + 1))))), none, some (.int (zI 1)), none, none, none, none]) (st' := [.ref (gK G 14), .ref (ad 200)]) rfl ?_
              refine v_callV (My := mX10_needs) (As := [.ref (gK G 14)]) (rest := []) (mc := 0) (ms := 0) rfl caX10_needs rfl rfl rfl hm3.1 rfl rfl (g_needs G _ (q := 15) hA hB hn hm3 (by decide)) rfl rfl (Nat.le_of_ble_eq_true rfl) (by omega) ?_
              rintro _ h4 ⟨rfl, m4, hm4, hk4, hf4⟩
              refine v_run 0 (pc' := 79) (ls' := [some (.ref (ad 200)), some (.long (zL ↑(tV B n ((i + 1))))), none, some (.int (zI 1)), none, none, none, none]) (st' := []) rfl ?_
              rcases hr4 : pWd B n 15 (i + 3) with e | j2
              · have hm4 : MRd h4 ad sv m4 B n ζ (.inl e) := by have hh := hm4; rw [show sb (.inr (i + 3)) (fun i => pWd B n 15 i) = (.inl e : pR Nat) from hr4] at hh; exact hh
                have hm4 : MRd h4 ad sv m4 B n ζ (.inl e) := hm4
                refine v_run 2 (pc' := 81) (ls' := [some (.ref (ad 200)), some (.long (zL ↑(tV B n ((i + 1))))), none, some (.int (zI 1)), none, none, none, none]) (st' := [.int (zI 0), .ref (ad 200)]) rfl ?_
                refine v_callV (My := mX10_knownOne) (As := [.int (zI 0)]) (rest := []) (mc := 0) (ms := 0) rfl caX10_knownOne rfl rfl rfl hm4.1 rfl rfl (g_known G _ (s := 0) hA hB hn hm4 h11 n1 n2 n3 (by decide)) rfl rfl (Nat.le_of_ble_eq_true rfl) (by omega) ?_
                rintro _ h5 ⟨rfl, m5, hm5, hk5, hf5⟩
                refine v_run 0 (pc' := 84) (ls' := [some (.ref (ad 200)), some (.long (zL ↑(tV B n ((i + 1))))), none, some (.int (zI 1)), none, none, none, none]) (st' := [.int (zI ↑(vT (sb (.inl e) (fun i => pTold B n ζ 0 i))))]) rfl ?_
                have hm5 : MRd h5 ad sv m5 B n ζ (.inl e) := hm5
                refine v_run 2 (pc' := 87) (ls' := [some (.ref (ad 200)), some (.long (zL ↑(tV B n ((i + 1))))), none, some (.int (zI 1)), some (.int (zI ↑(vT (sb (.inl e) (fun i => pTold B n ζ 0 i))))), none, none, none]) (st' := [.ref (ad 200)]) rfl ?_
                refine v_get rfl hm5.1 rfl ?_
                refine v_run 1 (pc' := 91) (ls' := [some (.ref (ad 200)), some (.long (zL ↑(tV B n ((i + 1))))), none, some (.int (zI 1)), some (.int (zI ↑(vT (sb (.inl e) (fun i => pTold B n ζ 0 i))))), none, none, none]) (st' := [.int (zI 5), .int (zI (m5 9))]) rfl ?_
                refine v_icmp_eq rfl (fun c91 => ?_) (fun c91 => ?_)
                · refine v_run 1 (pc' := 113) (ls' := [some (.ref (ad 200)), some (.long (zL ↑(tV B n ((i + 1))))), none, some (.int (zI 1)), some (.int (zI ↑(vT (sb (.inl e) (fun i => pTold B n ζ 0 i))))), none, none, none]) (st' := [.ref (ad 200)]) rfl ?_
                  refine v_callV (My := mX10_goesOn) (As := []) (rest := []) (mc := 0) (ms := 0) rfl caX10_goesOn rfl rfl rfl hm5.1 rfl rfl (g_on G _ hA hB hn hm5) rfl rfl (Nat.le_of_ble_eq_true rfl) (by omega) ?_
                  rintro _ h6 ⟨rfl, m6, hm6, hk6, hf6⟩
                  refine v_run 0 (pc' := 116) (ls' := [some (.ref (ad 200)), some (.long (zL ↑(tV B n ((i + 1))))), none, some (.int (zI 1)), some (.int (zI ↑(vT (sb (.inl e) (fun i => pTold B n ζ 0 i))))), none, none, none]) (st' := []) rfl ?_
                  have hm6 : MRd h6 ad sv m6 B n ζ (.inl e) := hm6
                  refine v_run 1 (pc' := 117) (ls' := [some (.ref (ad 200)), some (.long (zL ↑(tV B n ((i + 1))))), none, some (.int (zI 1)), some (.int (zI ↑(vT (sb (.inl e) (fun i => pTold B n ζ 0 i))))), none, none, none]) (st' := [.ref (ad 200)]) rfl ?_
                  refine v_ldcSw v_ldcw_in.1 rfl ?_
                  refine v_run 2 (pc' := 123) (ls' := [some (.ref (ad 200)), some (.long (zL ↑(tV B n ((i + 1))))), none, some (.int (zI 1)), some (.int (zI ↑(vT (sb (.inl e) (fun i => pTold B n ζ 0 i))))), none, none, none]) (st' := [.int (zI 99), .int (zI 1), .ref (gK G 15), .ref (ad 200)]) rfl ?_
                  refine v_callV (My := mX10_readPart) (As := [.ref (gK G 15), .int (zI 1), .int (zI 99)]) (rest := []) (mc := 0) (ms := 0) rfl caX10_readPart rfl rfl rfl hm6.1 rfl rfl (g_part G _ (q := 16) (lo := 1) (hi := 99) hA hB hn hm6 (by decide) (by decide) (by decide)) rfl rfl (Nat.le_of_ble_eq_true rfl) (by omega) ?_
                  rintro _ h7 ⟨rfl, m7, hm7, hk7, hf7⟩
                  refine v_run 0 (pc' := 126) (ls' := [some (.ref (ad 200)), some (.long (zL ↑(tV B n ((i + 1))))), none, some (.int (zI 1)), some (.int (zI ↑(vT (sb (.inl e) (fun i => pTold B n ζ 0 i))))), none, none, none]) (st' := [.int (zI ↑(vP (sb (.inl e) (fun i => pNum B n 16 1 99 i)) 1))]) rfl ?_
                  have hm7 : MRd h7 ad sv m7 B n ζ (.inl e) := hm7
                  refine v_run 2 (pc' := 129) (ls' := [some (.ref (ad 200)), some (.long (zL ↑(tV B n ((i + 1))))), none, some (.int (zI 1)), some (.int (zI ↑(vT (sb (.inl e) (fun i => pTold B n ζ 0 i))))), some (.int (zI ↑(vP (sb (.inl e) (fun i => pNum B n 16 1 99 i)) 1))), none, none]) (st' := [.ref (ad 200)]) rfl ?_
                  refine v_ldcSw v_ldcw_in.2.1 rfl ?_
                  refine v_run 2 (pc' := 135) (ls' := [some (.ref (ad 200)), some (.long (zL ↑(tV B n ((i + 1))))), none, some (.int (zI 1)), some (.int (zI ↑(vT (sb (.inl e) (fun i => pTold B n ζ 0 i))))), some (.int (zI ↑(vP (sb (.inl e) (fun i => pNum B n 16 1 99 i)) 1))), none, none]) (st' := [.int (zI 9), .int (zI 0), .ref (gK G 16), .ref (ad 200)]) rfl ?_
                  refine v_callV (My := mX10_readPart) (As := [.ref (gK G 16), .int (zI 0), .int (zI 9)]) (rest := []) (mc := 0) (ms := 0) rfl caX10_readPart rfl rfl rfl hm7.1 rfl rfl (g_part G _ (q := 17) (lo := 0) (hi := 9) hA hB hn hm7 (by decide) (by decide) (by decide)) rfl rfl (Nat.le_of_ble_eq_true rfl) (by omega) ?_
                  rintro _ h8 ⟨rfl, m8, hm8, hk8, hf8⟩
                  refine v_run 0 (pc' := 138) (ls' := [some (.ref (ad 200)), some (.long (zL ↑(tV B n ((i + 1))))), none, some (.int (zI 1)), some (.int (zI ↑(vT (sb (.inl e) (fun i => pTold B n ζ 0 i))))), some (.int (zI ↑(vP (sb (.inl e) (fun i => pNum B n 16 1 99 i)) 1))), none, none]) (st' := [.int (zI ↑(vP (sb (.inl e) (fun i => pNum B n 17 0 9 i)) 0))]) rfl ?_
                  have hm8 : MRd h8 ad sv m8 B n ζ (.inl e) := hm8
                  refine v_run 2 (pc' := 141) (ls' := [some (.ref (ad 200)), some (.long (zL ↑(tV B n ((i + 1))))), none, some (.int (zI 1)), some (.int (zI ↑(vT (sb (.inl e) (fun i => pTold B n ζ 0 i))))), some (.int (zI ↑(vP (sb (.inl e) (fun i => pNum B n 16 1 99 i)) 1))), some (.int (zI ↑(vP (sb (.inl e) (fun i => pNum B n 17 0 9 i)) 0))), none]) (st' := [.ref (ad 200)]) rfl ?_
                  refine v_get rfl hm8.1 rfl ?_
                  refine v_run 1 (pc' := 145) (ls' := [some (.ref (ad 200)), some (.long (zL ↑(tV B n ((i + 1))))), none, some (.int (zI 1)), some (.int (zI ↑(vT (sb (.inl e) (fun i => pTold B n ζ 0 i))))), some (.int (zI ↑(vP (sb (.inl e) (fun i => pNum B n 16 1 99 i)) 1))), some (.int (zI ↑(vP (sb (.inl e) (fun i => pNum B n 17 0 9 i)) 0))), none]) (st' := [.int (zI 5), .int (zI (m8 9))]) rfl ?_
                  refine v_icmp_ne rfl (fun c145 => ?_) (fun c145 => ?_)
                  · exact absurd (by rw [hm8.2.2.2.2.1]) c145
                  · rw [show lq B n ζ i (lSen B n ζ i) = .inl e from by simp only [lq, if_neg hq0, lSen, if_neg hcap, hr2, pKind, if_pos (show 19 ≤ tK B n (i + 1 + 1) by show 19 ≤ tK B n (i + 2); omega), show tK B n (i + 1 + 1) - 19 = 1 from by show tK B n (i + 2) - 19 = 1; omega, hr4, sb]]; exact v_vret rfl rfl ⟨rfl, m8, hm8, (((((((hk1.tr hk2).tr hk3).tr hk4).tr hk5).tr hk6).tr hk7).tr hk8), (((((((hf1.tr hf2).tr hf3).tr hf4).tr hf5).tr hf6).tr hf7).tr hf8)⟩
                · exact absurd (by rw [hm5.2.2.2.2.1]) c91
              · have hj2 : j2 = i + 3 + 1 := pWd_b hr4
                subst hj2
                have hm4 : MRd h4 ad sv m4 B n ζ (.inr (i + 4)) := by have hh := hm4; rw [show sb (.inr (i + 3)) (fun i => pWd B n 15 i) = (.inr (i + 3 + 1) : pR Nat) from hr4] at hh; exact hh
                refine v_run 2 (pc' := 81) (ls' := [some (.ref (ad 200)), some (.long (zL ↑(tV B n ((i + 1))))), none, some (.int (zI 1)), none, none, none, none]) (st' := [.int (zI 0), .ref (ad 200)]) rfl ?_
                refine v_callV (My := mX10_knownOne) (As := [.int (zI 0)]) (rest := []) (mc := 0) (ms := 0) rfl caX10_knownOne rfl rfl rfl hm4.1 rfl rfl (g_known G _ (s := 0) hA hB hn hm4 h11 n1 n2 n3 (by decide)) rfl rfl (Nat.le_of_ble_eq_true rfl) (by omega) ?_
                rintro _ h5 ⟨rfl, m5, hm5, hk5, hf5⟩
                refine v_run 0 (pc' := 84) (ls' := [some (.ref (ad 200)), some (.long (zL ↑(tV B n ((i + 1))))), none, some (.int (zI 1)), none, none, none, none]) (st' := [.int (zI ↑(vT (sb (.inr (i + 4)) (fun i => pTold B n ζ 0 i))))]) rfl ?_
                rcases hr5 : pTold B n ζ 0 (i + 4) with e | k
                · rw [show vT (sb (.inr (i + 4)) (fun i => pTold B n ζ 0 i)) = 0 from by show vT (pTold B n ζ 0 (i + 4)) = _; rw [hr5]; rfl]
                  have hm5 : MRd h5 ad sv m5 B n ζ (.inl e) := by have hh := hm5; rw [show sb (.inr (i + 4)) (fun i => sb (pTold B n ζ 0 i) (fun _ => .inr i)) = (.inl e : pR Nat) from by show sb (pTold B n ζ 0 (i + 4)) _ = _; rw [hr5]; rfl] at hh; exact hh
                  have hm5 : MRd h5 ad sv m5 B n ζ (.inl e) := hm5
                  refine v_run 2 (pc' := 87) (ls' := [some (.ref (ad 200)), some (.long (zL ↑(tV B n ((i + 1))))), none, some (.int (zI 1)), some (.int (zI ↑((0 : Nat)))), none, none, none]) (st' := [.ref (ad 200)]) rfl ?_
                  refine v_get rfl hm5.1 rfl ?_
                  refine v_run 1 (pc' := 91) (ls' := [some (.ref (ad 200)), some (.long (zL ↑(tV B n ((i + 1))))), none, some (.int (zI 1)), some (.int (zI ↑((0 : Nat)))), none, none, none]) (st' := [.int (zI 5), .int (zI (m5 9))]) rfl ?_
                  refine v_icmp_eq rfl (fun c91 => ?_) (fun c91 => ?_)
                  · refine v_run 1 (pc' := 113) (ls' := [some (.ref (ad 200)), some (.long (zL ↑(tV B n ((i + 1))))), none, some (.int (zI 1)), some (.int (zI ↑((0 : Nat)))), none, none, none]) (st' := [.ref (ad 200)]) rfl ?_
                    refine v_callV (My := mX10_goesOn) (As := []) (rest := []) (mc := 0) (ms := 0) rfl caX10_goesOn rfl rfl rfl hm5.1 rfl rfl (g_on G _ hA hB hn hm5) rfl rfl (Nat.le_of_ble_eq_true rfl) (by omega) ?_
                    rintro _ h6 ⟨rfl, m6, hm6, hk6, hf6⟩
                    refine v_run 0 (pc' := 116) (ls' := [some (.ref (ad 200)), some (.long (zL ↑(tV B n ((i + 1))))), none, some (.int (zI 1)), some (.int (zI ↑((0 : Nat)))), none, none, none]) (st' := []) rfl ?_
                    have hm6 : MRd h6 ad sv m6 B n ζ (.inl e) := hm6
                    refine v_run 1 (pc' := 117) (ls' := [some (.ref (ad 200)), some (.long (zL ↑(tV B n ((i + 1))))), none, some (.int (zI 1)), some (.int (zI ↑((0 : Nat)))), none, none, none]) (st' := [.ref (ad 200)]) rfl ?_
                    refine v_ldcSw v_ldcw_in.1 rfl ?_
                    refine v_run 2 (pc' := 123) (ls' := [some (.ref (ad 200)), some (.long (zL ↑(tV B n ((i + 1))))), none, some (.int (zI 1)), some (.int (zI ↑((0 : Nat)))), none, none, none]) (st' := [.int (zI 99), .int (zI 1), .ref (gK G 15), .ref (ad 200)]) rfl ?_
                    refine v_callV (My := mX10_readPart) (As := [.ref (gK G 15), .int (zI 1), .int (zI 99)]) (rest := []) (mc := 0) (ms := 0) rfl caX10_readPart rfl rfl rfl hm6.1 rfl rfl (g_part G _ (q := 16) (lo := 1) (hi := 99) hA hB hn hm6 (by decide) (by decide) (by decide)) rfl rfl (Nat.le_of_ble_eq_true rfl) (by omega) ?_
                    rintro _ h7 ⟨rfl, m7, hm7, hk7, hf7⟩
                    refine v_run 0 (pc' := 126) (ls' := [some (.ref (ad 200)), some (.long (zL ↑(tV B n ((i + 1))))), none, some (.int (zI 1)), some (.int (zI ↑((0 : Nat)))), none, none, none]) (st' := [.int (zI ↑(vP (sb (.inl e) (fun i => pNum B n 16 1 99 i)) 1))]) rfl ?_
                    have hm7 : MRd h7 ad sv m7 B n ζ (.inl e) := hm7
                    refine v_run 2 (pc' := 129) (ls' := [some (.ref (ad 200)), some (.long (zL ↑(tV B n ((i + 1))))), none, some (.int (zI 1)), some (.int (zI ↑((0 : Nat)))), some (.int (zI ↑(vP (sb (.inl e) (fun i => pNum B n 16 1 99 i)) 1))), none, none]) (st' := [.ref (ad 200)]) rfl ?_
                    refine v_ldcSw v_ldcw_in.2.1 rfl ?_
                    refine v_run 2 (pc' := 135) (ls' := [some (.ref (ad 200)), some (.long (zL ↑(tV B n ((i + 1))))), none, some (.int (zI 1)), some (.int (zI ↑((0 : Nat)))), some (.int (zI ↑(vP (sb (.inl e) (fun i => pNum B n 16 1 99 i)) 1))), none, none]) (st' := [.int (zI 9), .int (zI 0), .ref (gK G 16), .ref (ad 200)]) rfl ?_
                    refine v_callV (My := mX10_readPart) (As := [.ref (gK G 16), .int (zI 0), .int (zI 9)]) (rest := []) (mc := 0) (ms := 0) rfl caX10_readPart rfl rfl rfl hm7.1 rfl rfl (g_part G _ (q := 17) (lo := 0) (hi := 9) hA hB hn hm7 (by decide) (by decide) (by decide)) rfl rfl (Nat.le_of_ble_eq_true rfl) (by omega) ?_
                    rintro _ h8 ⟨rfl, m8, hm8, hk8, hf8⟩
                    refine v_run 0 (pc' := 138) (ls' := [some (.ref (ad 200)), some (.long (zL ↑(tV B n ((i + 1))))), none, some (.int (zI 1)), some (.int (zI ↑((0 : Nat)))), some (.int (zI ↑(vP (sb (.inl e) (fun i => pNum B n 16 1 99 i)) 1))), none, none]) (st' := [.int (zI ↑(vP (sb (.inl e) (fun i => pNum B n 17 0 9 i)) 0))]) rfl ?_
                    have hm8 : MRd h8 ad sv m8 B n ζ (.inl e) := hm8
                    refine v_run 2 (pc' := 141) (ls' := [some (.ref (ad 200)), some (.long (zL ↑(tV B n ((i + 1))))), none, some (.int (zI 1)), some (.int (zI ↑((0 : Nat)))), some (.int (zI ↑(vP (sb (.inl e) (fun i => pNum B n 16 1 99 i)) 1))), some (.int (zI ↑(vP (sb (.inl e) (fun i => pNum B n 17 0 9 i)) 0))), none]) (st' := [.ref (ad 200)]) rfl ?_
                    refine v_get rfl hm8.1 rfl ?_
                    refine v_run 1 (pc' := 145) (ls' := [some (.ref (ad 200)), some (.long (zL ↑(tV B n ((i + 1))))), none, some (.int (zI 1)), some (.int (zI ↑((0 : Nat)))), some (.int (zI ↑(vP (sb (.inl e) (fun i => pNum B n 16 1 99 i)) 1))), some (.int (zI ↑(vP (sb (.inl e) (fun i => pNum B n 17 0 9 i)) 0))), none]) (st' := [.int (zI 5), .int (zI (m8 9))]) rfl ?_
                    refine v_icmp_ne rfl (fun c145 => ?_) (fun c145 => ?_)
                    · exact absurd (by rw [hm8.2.2.2.2.1]) c145
                    · rw [show lq B n ζ i (lSen B n ζ i) = .inl e from by simp only [lq, if_neg hq0, lSen, if_neg hcap, hr2, pKind, if_pos (show 19 ≤ tK B n (i + 1 + 1) by show 19 ≤ tK B n (i + 2); omega), show tK B n (i + 1 + 1) - 19 = 1 from by show tK B n (i + 2) - 19 = 1; omega, hr4, hr5, sb]]; exact v_vret rfl rfl ⟨rfl, m8, hm8, (((((((hk1.tr hk2).tr hk3).tr hk4).tr hk5).tr hk6).tr hk7).tr hk8), (((((((hf1.tr hf2).tr hf3).tr hf4).tr hf5).tr hf6).tr hf7).tr hf8)⟩
                  · exact absurd (by rw [hm5.2.2.2.2.1]) c91
                · rw [show vT (sb (.inr (i + 4)) (fun i => pTold B n ζ 0 i)) = k from by show vT (pTold B n ζ 0 (i + 4)) = _; rw [hr5]; rfl]
                  have ht5 := pTold_z hzo hr5
                  have hm5 : MRd h5 ad sv m5 B n ζ (.inr (i + 4)) := by have hh := hm5; rw [show sb (.inr (i + 4)) (fun i => sb (pTold B n ζ 0 i) (fun _ => .inr i)) = (.inr (i + 4) : pR Nat) from by show sb (pTold B n ζ 0 (i + 4)) _ = _; rw [hr5]; rfl] at hh; exact hh
                  refine v_run 2 (pc' := 87) (ls' := [some (.ref (ad 200)), some (.long (zL ↑(tV B n ((i + 1))))), none, some (.int (zI 1)), some (.int (zI ↑k)), none, none, none]) (st' := [.ref (ad 200)]) rfl ?_
                  refine v_get rfl hm5.1 rfl ?_
                  refine v_run 1 (pc' := 91) (ls' := [some (.ref (ad 200)), some (.long (zL ↑(tV B n ((i + 1))))), none, some (.int (zI 1)), some (.int (zI ↑k)), none, none, none]) (st' := [.int (zI 5), .int (zI (m5 9))]) rfl ?_
                  refine v_icmp_eq rfl (fun c91 => ?_) (fun c91 => ?_)
                  · exact absurd (hm5.2.2.2.2.2.1 ▸ c91) (m9_ne (i + 4))
                  · refine v_run 1 (pc' := 95) (ls' := [some (.ref (ad 200)), some (.long (zL ↑(tV B n ((i + 1))))), none, some (.int (zI 1)), some (.int (zI ↑k)), none, none, none]) (st' := [.ref (ad 200)]) rfl ?_
                    refine v_get rfl hm5.1 rfl ?_
                    refine v_run 1 (pc' := 100) (ls' := [some (.ref (ad 200)), some (.long (zL ↑(tV B n ((i + 1))))), none, some (.int (zI 1)), some (.int (zI ↑k)), none, none, none]) (st' := [.int (zI ↑k), .ref (ad 230)]) rfl ?_
                    refine v_callV (My := mX9_isHung) (As := [.int (zI ↑k)]) (rest := []) (mc := 0) (ms := 0) rfl caX9_isHung rfl rfl rfl hm5.2.2.1.1.1 rfl rfl (g_isHung G _ hA hB hn hm5 (by omega) z5 r14) rfl rfl (Nat.le_of_ble_eq_true rfl) (by omega) ?_
                    rintro _ _ ⟨rfl, rfl⟩
                    refine v_run 0 (pc' := 103) (ls' := [some (.ref (ad 200)), some (.long (zL ↑(tV B n ((i + 1))))), none, some (.int (zI 1)), some (.int (zI ↑k)), none, none, none]) (st' := [.int (zb (hngB ζ k))]) rfl ?_
                    refine v_if_eq rfl (fun c103 => ?_) (fun c103 => ?_)
                    · rw [zb_n] at c103
                      have hnh : ¬ hngB ζ k = true := by rw [c103]; decide
                      refine v_run 1 (pc' := 113) (ls' := [some (.ref (ad 200)), some (.long (zL ↑(tV B n ((i + 1))))), none, some (.int (zI 1)), some (.int (zI ↑k)), none, none, none]) (st' := [.ref (ad 200)]) rfl ?_
                      refine v_callV (My := mX10_goesOn) (As := []) (rest := []) (mc := 0) (ms := 0) rfl caX10_goesOn rfl rfl rfl hm5.1 rfl rfl (g_on G _ hA hB hn hm5) rfl rfl (Nat.le_of_ble_eq_true rfl) (by omega) ?_
                      rintro _ h6 ⟨rfl, m6, hm6, hk6, hf6⟩
                      refine v_run 0 (pc' := 116) (ls' := [some (.ref (ad 200)), some (.long (zL ↑(tV B n ((i + 1))))), none, some (.int (zI 1)), some (.int (zI ↑k)), none, none, none]) (st' := []) rfl ?_
                      have hm6 : MRd h6 ad sv m6 B n ζ (.inr (i + 5)) := hm6
                      refine v_run 1 (pc' := 117) (ls' := [some (.ref (ad 200)), some (.long (zL ↑(tV B n ((i + 1))))), none, some (.int (zI 1)), some (.int (zI ↑k)), none, none, none]) (st' := [.ref (ad 200)]) rfl ?_
                      refine v_ldcSw v_ldcw_in.1 rfl ?_
                      refine v_run 2 (pc' := 123) (ls' := [some (.ref (ad 200)), some (.long (zL ↑(tV B n ((i + 1))))), none, some (.int (zI 1)), some (.int (zI ↑k)), none, none, none]) (st' := [.int (zI 99), .int (zI 1), .ref (gK G 15), .ref (ad 200)]) rfl ?_
                      refine v_callV (My := mX10_readPart) (As := [.ref (gK G 15), .int (zI 1), .int (zI 99)]) (rest := []) (mc := 0) (ms := 0) rfl caX10_readPart rfl rfl rfl hm6.1 rfl rfl (g_part G _ (q := 16) (lo := 1) (hi := 99) hA hB hn hm6 (by decide) (by decide) (by decide)) rfl rfl (Nat.le_of_ble_eq_true rfl) (by omega) ?_
                      rintro _ h7 ⟨rfl, m7, hm7, hk7, hf7⟩
                      refine v_run 0 (pc' := 126) (ls' := [some (.ref (ad 200)), some (.long (zL ↑(tV B n ((i + 1))))), none, some (.int (zI 1)), some (.int (zI ↑k)), none, none, none]) (st' := [.int (zI ↑(vP (sb (.inr (i + 5)) (fun i => pNum B n 16 1 99 i)) 1))]) rfl ?_
                      rcases hr7 : pNum B n 16 1 99 (i + 5) with e | a
                      · rw [show vP (sb (.inr (i + 5)) (fun i => pNum B n 16 1 99 i)) 1 = 1 from by show vP (pNum B n 16 1 99 (i + 5)) 1 = _; rw [hr7]; rfl]
                        have hm7 : MRd h7 ad sv m7 B n ζ (.inl e) := by have hh := hm7; rw [show sb (.inr (i + 5)) (fun i => sb (pNum B n 16 1 99 i) (fun a => .inr a.1)) = (.inl e : pR Nat) from by show sb (pNum B n 16 1 99 (i + 5)) _ = _; rw [hr7]; rfl] at hh; exact hh
                        have hm7 : MRd h7 ad sv m7 B n ζ (.inl e) := hm7
                        refine v_run 2 (pc' := 129) (ls' := [some (.ref (ad 200)), some (.long (zL ↑(tV B n ((i + 1))))), none, some (.int (zI 1)), some (.int (zI ↑k)), some (.int (zI ↑((1 : Nat)))), none, none]) (st' := [.ref (ad 200)]) rfl ?_
                        refine v_ldcSw v_ldcw_in.2.1 rfl ?_
                        refine v_run 2 (pc' := 135) (ls' := [some (.ref (ad 200)), some (.long (zL ↑(tV B n ((i + 1))))), none, some (.int (zI 1)), some (.int (zI ↑k)), some (.int (zI ↑((1 : Nat)))), none, none]) (st' := [.int (zI 9), .int (zI 0), .ref (gK G 16), .ref (ad 200)]) rfl ?_
                        refine v_callV (My := mX10_readPart) (As := [.ref (gK G 16), .int (zI 0), .int (zI 9)]) (rest := []) (mc := 0) (ms := 0) rfl caX10_readPart rfl rfl rfl hm7.1 rfl rfl (g_part G _ (q := 17) (lo := 0) (hi := 9) hA hB hn hm7 (by decide) (by decide) (by decide)) rfl rfl (Nat.le_of_ble_eq_true rfl) (by omega) ?_
                        rintro _ h8 ⟨rfl, m8, hm8, hk8, hf8⟩
                        refine v_run 0 (pc' := 138) (ls' := [some (.ref (ad 200)), some (.long (zL ↑(tV B n ((i + 1))))), none, some (.int (zI 1)), some (.int (zI ↑k)), some (.int (zI ↑((1 : Nat)))), none, none]) (st' := [.int (zI ↑(vP (sb (.inl e) (fun i => pNum B n 17 0 9 i)) 0))]) rfl ?_
                        have hm8 : MRd h8 ad sv m8 B n ζ (.inl e) := hm8
                        refine v_run 2 (pc' := 141) (ls' := [some (.ref (ad 200)), some (.long (zL ↑(tV B n ((i + 1))))), none, some (.int (zI 1)), some (.int (zI ↑k)), some (.int (zI ↑((1 : Nat)))), some (.int (zI ↑(vP (sb (.inl e) (fun i => pNum B n 17 0 9 i)) 0))), none]) (st' := [.ref (ad 200)]) rfl ?_
                        refine v_get rfl hm8.1 rfl ?_
                        refine v_run 1 (pc' := 145) (ls' := [some (.ref (ad 200)), some (.long (zL ↑(tV B n ((i + 1))))), none, some (.int (zI 1)), some (.int (zI ↑k)), some (.int (zI ↑((1 : Nat)))), some (.int (zI ↑(vP (sb (.inl e) (fun i => pNum B n 17 0 9 i)) 0))), none]) (st' := [.int (zI 5), .int (zI (m8 9))]) rfl ?_
                        refine v_icmp_ne rfl (fun c145 => ?_) (fun c145 => ?_)
                        · exact absurd (by rw [hm8.2.2.2.2.1]) c145
                        · rw [show lq B n ζ i (lSen B n ζ i) = .inl e from by simp only [lq, if_neg hq0, lSen, if_neg hcap, hr2, pKind, if_pos (show 19 ≤ tK B n (i + 1 + 1) by show 19 ≤ tK B n (i + 2); omega), show tK B n (i + 1 + 1) - 19 = 1 from by show tK B n (i + 2) - 19 = 1; omega, hr4, hr5, if_neg hnh, hr7, sb]]; exact v_vret rfl rfl ⟨rfl, m8, hm8, (((((((hk1.tr hk2).tr hk3).tr hk4).tr hk5).tr hk6).tr hk7).tr hk8), (((((((hf1.tr hf2).tr hf3).tr hf4).tr hf5).tr hf6).tr hf7).tr hf8)⟩
                      · rw [show vP (sb (.inr (i + 5)) (fun i => pNum B n 16 1 99 i)) 1 = a.2 from by show vP (pNum B n 16 1 99 (i + 5)) 1 = _; rw [hr7]; rfl]
                        have hb7 := pNum_b hr7
                        have hm7 : MRd h7 ad sv m7 B n ζ (.inr a.1) := by have hh := hm7; rw [show sb (.inr (i + 5)) (fun i => sb (pNum B n 16 1 99 i) (fun a => .inr a.1)) = (.inr a.1 : pR Nat) from by show sb (pNum B n 16 1 99 (i + 5)) _ = _; rw [hr7]; rfl] at hh; exact hh
                        refine v_run 2 (pc' := 129) (ls' := [some (.ref (ad 200)), some (.long (zL ↑(tV B n ((i + 1))))), none, some (.int (zI 1)), some (.int (zI ↑k)), some (.int (zI ↑a.2)), none, none]) (st' := [.ref (ad 200)]) rfl ?_
                        refine v_ldcSw v_ldcw_in.2.1 rfl ?_
                        refine v_run 2 (pc' := 135) (ls' := [some (.ref (ad 200)), some (.long (zL ↑(tV B n ((i + 1))))), none, some (.int (zI 1)), some (.int (zI ↑k)), some (.int (zI ↑a.2)), none, none]) (st' := [.int (zI 9), .int (zI 0), .ref (gK G 16), .ref (ad 200)]) rfl ?_
                        refine v_callV (My := mX10_readPart) (As := [.ref (gK G 16), .int (zI 0), .int (zI 9)]) (rest := []) (mc := 0) (ms := 0) rfl caX10_readPart rfl rfl rfl hm7.1 rfl rfl (g_part G _ (q := 17) (lo := 0) (hi := 9) hA hB hn hm7 (by decide) (by decide) (by decide)) rfl rfl (Nat.le_of_ble_eq_true rfl) (by omega) ?_
                        rintro _ h8 ⟨rfl, m8, hm8, hk8, hf8⟩
                        refine v_run 0 (pc' := 138) (ls' := [some (.ref (ad 200)), some (.long (zL ↑(tV B n ((i + 1))))), none, some (.int (zI 1)), some (.int (zI ↑k)), some (.int (zI ↑a.2)), none, none]) (st' := [.int (zI ↑(vP (sb (.inr a.1) (fun i => pNum B n 17 0 9 i)) 0))]) rfl ?_
                        rcases hr8 : pNum B n 17 0 9 a.1 with e | b
                        · rw [show vP (sb (.inr a.1) (fun i => pNum B n 17 0 9 i)) 0 = 0 from by show vP (pNum B n 17 0 9 a.1) 0 = _; rw [hr8]; rfl]
                          have hm8 : MRd h8 ad sv m8 B n ζ (.inl e) := by have hh := hm8; rw [show sb (.inr a.1) (fun i => sb (pNum B n 17 0 9 i) (fun a => .inr a.1)) = (.inl e : pR Nat) from by show sb (pNum B n 17 0 9 a.1) _ = _; rw [hr8]; rfl] at hh; exact hh
                          have hm8 : MRd h8 ad sv m8 B n ζ (.inl e) := hm8
                          refine v_run 2 (pc' := 141) (ls' := [some (.ref (ad 200)), some (.long (zL ↑(tV B n ((i + 1))))), none, some (.int (zI 1)), some (.int (zI ↑k)), some (.int (zI ↑a.2)), some (.int (zI ↑((0 : Nat)))), none]) (st' := [.ref (ad 200)]) rfl ?_
                          refine v_get rfl hm8.1 rfl ?_
                          refine v_run 1 (pc' := 145) (ls' := [some (.ref (ad 200)), some (.long (zL ↑(tV B n ((i + 1))))), none, some (.int (zI 1)), some (.int (zI ↑k)), some (.int (zI ↑a.2)), some (.int (zI ↑((0 : Nat)))), none]) (st' := [.int (zI 5), .int (zI (m8 9))]) rfl ?_
                          refine v_icmp_ne rfl (fun c145 => ?_) (fun c145 => ?_)
                          · exact absurd (by rw [hm8.2.2.2.2.1]) c145
                          · rw [show lq B n ζ i (lSen B n ζ i) = .inl e from by simp only [lq, if_neg hq0, lSen, if_neg hcap, hr2, pKind, if_pos (show 19 ≤ tK B n (i + 1 + 1) by show 19 ≤ tK B n (i + 2); omega), show tK B n (i + 1 + 1) - 19 = 1 from by show tK B n (i + 2) - 19 = 1; omega, hr4, hr5, if_neg hnh, hr7, hr8, sb]]; exact v_vret rfl rfl ⟨rfl, m8, hm8, (((((((hk1.tr hk2).tr hk3).tr hk4).tr hk5).tr hk6).tr hk7).tr hk8), (((((((hf1.tr hf2).tr hf3).tr hf4).tr hf5).tr hf6).tr hf7).tr hf8)⟩
                        · rw [show vP (sb (.inr a.1) (fun i => pNum B n 17 0 9 i)) 0 = b.2 from by show vP (pNum B n 17 0 9 a.1) 0 = _; rw [hr8]; rfl]
                          have hb8 := pNum_b hr8
                          have hm8 : MRd h8 ad sv m8 B n ζ (.inr b.1) := by have hh := hm8; rw [show sb (.inr a.1) (fun i => sb (pNum B n 17 0 9 i) (fun a => .inr a.1)) = (.inr b.1 : pR Nat) from by show sb (pNum B n 17 0 9 a.1) _ = _; rw [hr8]; rfl] at hh; exact hh
                          refine v_run 2 (pc' := 141) (ls' := [some (.ref (ad 200)), some (.long (zL ↑(tV B n ((i + 1))))), none, some (.int (zI 1)), some (.int (zI ↑k)), some (.int (zI ↑a.2)), some (.int (zI ↑b.2)), none]) (st' := [.ref (ad 200)]) rfl ?_
                          refine v_get rfl hm8.1 rfl ?_
                          refine v_run 1 (pc' := 145) (ls' := [some (.ref (ad 200)), some (.long (zL ↑(tV B n ((i + 1))))), none, some (.int (zI 1)), some (.int (zI ↑k)), some (.int (zI ↑a.2)), some (.int (zI ↑b.2)), none]) (st' := [.int (zI 5), .int (zI (m8 9))]) rfl ?_
                          refine v_icmp_ne rfl (fun c145 => ?_) (fun c145 => ?_)
                          · refine v_run 1 (pc' := 150) (ls' := [some (.ref (ad 200)), some (.long (zL ↑(tV B n ((i + 1))))), none, some (.int (zI 1)), some (.int (zI ↑k)), some (.int (zI ↑a.2)), some (.int (zI ↑b.2)), none]) (st' := [.ref (ad 200)]) rfl ?_
                            refine v_get rfl hm8.1 rfl ?_
                            refine v_run 0 (pc' := 153) (ls' := [some (.ref (ad 200)), some (.long (zL ↑(tV B n ((i + 1))))), none, some (.int (zI 1)), some (.int (zI ↑k)), some (.int (zI ↑a.2)), some (.int (zI ↑b.2)), none]) (st' := [.ref (ad 230)]) rfl ?_
                            refine v_get rfl hm8.2.2.1.1.1 rfl ?_
                            refine v_run 5 (pc' := 163) (ls' := [some (.ref (ad 200)), some (.long (zL ↑(tV B n ((i + 1))))), none, some (.int (zI 1)), some (.int (zI ↑k)), some (.int (zI ↑a.2)), some (.int (zI ↑b.2)), some (.int (zI ↑(ζ 5 0)))]) (st' := [.int (zI ↑(ζ 5 0)), .int (zI 1), .long (zL ↑(tV B n ((i + 1)))), .ref (ad 200)]) rfl ?_
                            refine v_callV (My := mX10_names) (As := [.long (zL ↑(tV B n ((i + 1)))), .int (zI 1), .int (zI ↑(ζ 5 0))]) (rest := []) (mc := 0) (ms := 0) rfl caX10_names rfl rfl rfl hm8.1 rfl rfl (g_names G _ (w := (tV B n (i + 1))) (s := 1) (k := ζ 5 0) hA hB hn hm8 (by omega)) rfl rfl (Nat.le_of_ble_eq_true rfl) (by omega) ?_
                            rintro _ h9 ⟨rfl, m9, hm9, hk9, hf9⟩
                            refine v_run 0 (pc' := 166) (ls' := [some (.ref (ad 200)), some (.long (zL ↑(tV B n ((i + 1))))), none, some (.int (zI 1)), some (.int (zI ↑k)), some (.int (zI ↑a.2)), some (.int (zI ↑b.2)), some (.int (zI ↑(ζ 5 0)))]) (st' := []) rfl ?_
                            refine v_run 1 (pc' := 167) (ls' := [some (.ref (ad 200)), some (.long (zL ↑(tV B n ((i + 1))))), none, some (.int (zI 1)), some (.int (zI ↑k)), some (.int (zI ↑a.2)), some (.int (zI ↑b.2)), some (.int (zI ↑(ζ 5 0)))]) (st' := [.ref (ad 200)]) rfl ?_
                            refine v_get rfl hm9.1 rfl ?_
                            refine v_run 0 (pc' := 170) (ls' := [some (.ref (ad 200)), some (.long (zL ↑(tV B n ((i + 1))))), none, some (.int (zI 1)), some (.int (zI ↑k)), some (.int (zI ↑a.2)), some (.int (zI ↑b.2)), some (.int (zI ↑(ζ 5 0)))]) (st' := [.ref (ad 230)]) rfl ?_
                            refine v_get rfl hm9.2.2.1.1.1 rfl ?_
                            refine v_run 2 (pc' := 176) (ls' := [some (.ref (ad 200)), some (.long (zL ↑(tV B n ((i + 1))))), none, some (.int (zI 1)), some (.int (zI ↑k)), some (.int (zI ↑a.2)), some (.int (zI ↑b.2)), some (.int (zI ↑(ζ 5 0)))]) (st' := [.int (zI 1), .int (zI ↑(ζ 5 0)), .ref (Sf ad 230 13)]) rfl ?_
                            rw [show (zI 1 : Int32) = zI ↑(1 : Nat) from rfl]
                            refine v_iastore' rfl hm9.2.2.1.1.2.2.1 (i := ζ 5 0) rfl (by omega) ?_
                            rw [ar_upd]
                            have hm10 := hm9.r13 hA (ζ 5 0) 1
                            generalize e10 : hset h9 (Sf ad 230 13) _ = h10 at hm10 ⊢
                            have hf10 : frN ad h9 h10 := e10 ▸ frN.set (Or.inr ⟨by decide, by decide⟩) _
                            refine v_run 1 (pc' := 178) (ls' := [some (.ref (ad 200)), some (.long (zL ↑(tV B n ((i + 1))))), none, some (.int (zI 1)), some (.int (zI ↑k)), some (.int (zI ↑a.2)), some (.int (zI ↑b.2)), some (.int (zI ↑(ζ 5 0)))]) (st' := [.ref (ad 200)]) rfl ?_
                            refine v_get rfl hm10.1 rfl ?_
                            refine v_run 0 (pc' := 181) (ls' := [some (.ref (ad 200)), some (.long (zL ↑(tV B n ((i + 1))))), none, some (.int (zI 1)), some (.int (zI ↑k)), some (.int (zI ↑a.2)), some (.int (zI ↑b.2)), some (.int (zI ↑(ζ 5 0)))]) (st' := [.ref (ad 230)]) rfl ?_
                            refine v_get rfl hm10.2.2.1.1.1 rfl ?_
                            refine v_run 2 (pc' := 188) (ls' := [some (.ref (ad 200)), some (.long (zL ↑(tV B n ((i + 1))))), none, some (.int (zI 1)), some (.int (zI ↑k)), some (.int (zI ↑a.2)), some (.int (zI ↑b.2)), some (.int (zI ↑(ζ 5 0)))]) (st' := [.int (zI ↑k), .int (zI ↑(ζ 5 0)), .ref (Sf ad 230 14)]) rfl ?_
                            refine v_iastore' rfl hm10.2.2.1.1.2.2.2.1 (i := ζ 5 0) rfl (by omega) ?_
                            rw [ar_upd]
                            have hm11 := hm10.r14 hA (ζ 5 0) k
                            generalize e11 : hset h10 (Sf ad 230 14) _ = h11 at hm11 ⊢
                            have hf11 : frN ad h10 h11 := e11 ▸ frN.set (Or.inr ⟨by decide, by decide⟩) _
                            refine v_run 1 (pc' := 190) (ls' := [some (.ref (ad 200)), some (.long (zL ↑(tV B n ((i + 1))))), none, some (.int (zI 1)), some (.int (zI ↑k)), some (.int (zI ↑a.2)), some (.int (zI ↑b.2)), some (.int (zI ↑(ζ 5 0)))]) (st' := [.ref (ad 200)]) rfl ?_
                            refine v_get rfl hm11.1 rfl ?_
                            refine v_run 0 (pc' := 193) (ls' := [some (.ref (ad 200)), some (.long (zL ↑(tV B n ((i + 1))))), none, some (.int (zI 1)), some (.int (zI ↑k)), some (.int (zI ↑a.2)), some (.int (zI ↑b.2)), some (.int (zI ↑(ζ 5 0)))]) (st' := [.ref (ad 230)]) rfl ?_
                            refine v_get rfl hm11.2.2.1.1.1 rfl ?_
                            refine v_run 2 (pc' := 200) (ls' := [some (.ref (ad 200)), some (.long (zL ↑(tV B n ((i + 1))))), none, some (.int (zI 1)), some (.int (zI ↑k)), some (.int (zI ↑a.2)), some (.int (zI ↑b.2)), some (.int (zI ↑(ζ 5 0)))]) (st' := [.int (zI ↑a.2), .int (zI ↑(ζ 5 0)), .ref (Sf ad 230 15)]) rfl ?_
                            refine v_iastore' rfl hm11.2.2.1.1.2.2.2.2.1 (i := ζ 5 0) rfl (by omega) ?_
                            rw [ar_upd]
                            have hm12 := hm11.r15 hA (ζ 5 0) a.2
                            generalize e12 : hset h11 (Sf ad 230 15) _ = h12 at hm12 ⊢
                            have hf12 : frN ad h11 h12 := e12 ▸ frN.set (Or.inr ⟨by decide, by decide⟩) _
                            refine v_run 1 (pc' := 202) (ls' := [some (.ref (ad 200)), some (.long (zL ↑(tV B n ((i + 1))))), none, some (.int (zI 1)), some (.int (zI ↑k)), some (.int (zI ↑a.2)), some (.int (zI ↑b.2)), some (.int (zI ↑(ζ 5 0)))]) (st' := [.ref (ad 200)]) rfl ?_
                            refine v_get rfl hm12.1 rfl ?_
                            refine v_run 0 (pc' := 205) (ls' := [some (.ref (ad 200)), some (.long (zL ↑(tV B n ((i + 1))))), none, some (.int (zI 1)), some (.int (zI ↑k)), some (.int (zI ↑a.2)), some (.int (zI ↑b.2)), some (.int (zI ↑(ζ 5 0)))]) (st' := [.ref (ad 230)]) rfl ?_
                            refine v_get rfl hm12.2.2.1.1.1 rfl ?_
                            refine v_run 2 (pc' := 212) (ls' := [some (.ref (ad 200)), some (.long (zL ↑(tV B n ((i + 1))))), none, some (.int (zI 1)), some (.int (zI ↑k)), some (.int (zI ↑a.2)), some (.int (zI ↑b.2)), some (.int (zI ↑(ζ 5 0)))]) (st' := [.int (zI ↑b.2), .int (zI ↑(ζ 5 0)), .ref (Sf ad 230 16)]) rfl ?_
                            refine v_iastore' rfl hm12.2.2.1.1.2.2.2.2.2.1 (i := ζ 5 0) rfl (by omega) ?_
                            rw [ar_upd]
                            have hm13 := hm12.r16 hA (ζ 5 0) b.2
                            generalize e13 : hset h12 (Sf ad 230 16) _ = h13 at hm13 ⊢
                            have hf13 : frN ad h12 h13 := e13 ▸ frN.set (Or.inr ⟨by decide, by decide⟩) _
                            refine v_run 1 (pc' := 214) (ls' := [some (.ref (ad 200)), some (.long (zL ↑(tV B n ((i + 1))))), none, some (.int (zI 1)), some (.int (zI ↑k)), some (.int (zI ↑a.2)), some (.int (zI ↑b.2)), some (.int (zI ↑(ζ 5 0)))]) (st' := [.ref (ad 200)]) rfl ?_
                            refine v_get rfl hm13.1 rfl ?_
                            refine v_run 1 (pc' := 218) (ls' := [some (.ref (ad 200)), some (.long (zL ↑(tV B n ((i + 1))))), none, some (.int (zI 1)), some (.int (zI ↑k)), some (.int (zI ↑a.2)), some (.int (zI ↑b.2)), some (.int (zI ↑(ζ 5 0)))]) (st' := [.ref (ad 230), .ref (ad 230)]) rfl ?_
                            refine v_get rfl hm13.2.2.1.1.1 rfl ?_
                            refine v_run 2 (pc' := 223) (ls' := [some (.ref (ad 200)), some (.long (zL ↑(tV B n ((i + 1))))), none, some (.int (zI 1)), some (.int (zI ↑k)), some (.int (zI ↑a.2)), some (.int (zI ↑b.2)), some (.int (zI ↑(ζ 5 0)))]) (st' := [.int ((zI ↑(ζ 5 0)) + (zI 1)), .ref (ad 230)]) rfl ?_
                            rw [show (((zI ↑(ζ 5 0)) + (zI 1)) : Int32) = zI ↑(ζ 5 0 + 1) from zI_s1 _]
                            refine v_put rfl hm13.2.2.1.1.1 rfl rfl (Nat.le_of_ble_eq_true rfl) ?_
                            have hm14 := hm13.i hA 5 (ζ 5 0 + 1) (by decide)
                            generalize e14 : hset h13 (ad 230) _ = h14 at hm14 ⊢
                            have hf14 : frN ad h13 h14 := e14 ▸ frN.set (Or.inr ⟨by decide, by decide⟩) _
                            refine v_run 0 (pc' := 226) (ls' := [some (.ref (ad 200)), some (.long (zL ↑(tV B n ((i + 1))))), none, some (.int (zI 1)), some (.int (zI ↑k)), some (.int (zI ↑a.2)), some (.int (zI ↑b.2)), some (.int (zI ↑(ζ 5 0)))]) (st' := []) rfl ?_
                            rw [show lq B n ζ i (lSen B n ζ i) = .inr (b.1, (zU (zU (zU (zU (zU (zNm ζ (tV B n (i + 1)) 1 (ζ 5 0)) 13 (ζ 5 0) 1) 14 (ζ 5 0) k) 15 (ζ 5 0) a.2) 16 (ζ 5 0) b.2) 5 0 (ζ 5 0 + 1))) from by simp only [lq, if_neg hq0, lSen, if_neg hcap, hr2, pKind, if_pos (show 19 ≤ tK B n (i + 1 + 1) by show 19 ≤ tK B n (i + 2); omega), show tK B n (i + 1 + 1) - 19 = 1 from by show tK B n (i + 2) - 19 = 1; omega, hr4, hr5, if_neg hnh, hr7, hr8, sb]]; exact v_vret rfl rfl ⟨rfl, m9, hm14, ((((((((hk1.tr hk2).tr hk3).tr hk4).tr hk5).tr hk6).tr hk7).tr hk8).tr hk9), (((((((((((((hf1.tr hf2).tr hf3).tr hf4).tr hf5).tr hf6).tr hf7).tr hf8).tr hf9).tr hf10).tr hf11).tr hf12).tr hf13).tr hf14)⟩
                          · exact absurd (hm8.2.2.2.2.2.1 ▸ c145) (m9_ne b.1)
                    · rw [zb_n, Bool.not_eq_false] at c103
                      refine v_run 2 (pc' := 109) (ls' := [some (.ref (ad 200)), some (.long (zL ↑(tV B n ((i + 1))))), none, some (.int (zI 1)), some (.int (zI ↑k)), none, none, none]) (st' := [.int (zI 7), .ref (ad 200)]) rfl ?_
                      refine v_callV (My := mX10_flaw) (As := [.int (zI 7)]) (rest := []) (mc := 0) (ms := 0) rfl caX10_flaw rfl rfl rfl hm5.1 rfl rfl (g_flaw G _ (f := 7) hA hB hn hm5) rfl rfl (Nat.le_of_ble_eq_true rfl) (by omega) ?_
                      rintro _ h6 ⟨rfl, m6, hm6, hk6, hf6⟩
                      refine v_run 0 (pc' := 112) (ls' := [some (.ref (ad 200)), some (.long (zL ↑(tV B n ((i + 1))))), none, some (.int (zI 1)), some (.int (zI ↑k)), none, none, none]) (st' := []) rfl ?_
                      have hm6 : MRd h6 ad sv m6 B n ζ (.inl (7, tP B n (i + 4))) := hm6
                      refine v_run 1 (pc' := 113) (ls' := [some (.ref (ad 200)), some (.long (zL ↑(tV B n ((i + 1))))), none, some (.int (zI 1)), some (.int (zI ↑k)), none, none, none]) (st' := [.ref (ad 200)]) rfl ?_
                      refine v_callV (My := mX10_goesOn) (As := []) (rest := []) (mc := 0) (ms := 0) rfl caX10_goesOn rfl rfl rfl hm6.1 rfl rfl (g_on G _ hA hB hn hm6) rfl rfl (Nat.le_of_ble_eq_true rfl) (by omega) ?_
                      rintro _ h7 ⟨rfl, m7, hm7, hk7, hf7⟩
                      refine v_run 0 (pc' := 116) (ls' := [some (.ref (ad 200)), some (.long (zL ↑(tV B n ((i + 1))))), none, some (.int (zI 1)), some (.int (zI ↑k)), none, none, none]) (st' := []) rfl ?_
                      have hm7 : MRd h7 ad sv m7 B n ζ (.inl (7, tP B n (i + 4))) := hm7
                      refine v_run 1 (pc' := 117) (ls' := [some (.ref (ad 200)), some (.long (zL ↑(tV B n ((i + 1))))), none, some (.int (zI 1)), some (.int (zI ↑k)), none, none, none]) (st' := [.ref (ad 200)]) rfl ?_
                      refine v_ldcSw v_ldcw_in.1 rfl ?_
                      refine v_run 2 (pc' := 123) (ls' := [some (.ref (ad 200)), some (.long (zL ↑(tV B n ((i + 1))))), none, some (.int (zI 1)), some (.int (zI ↑k)), none, none, none]) (st' := [.int (zI 99), .int (zI 1), .ref (gK G 15), .ref (ad 200)]) rfl ?_
                      refine v_callV (My := mX10_readPart) (As := [.ref (gK G 15), .int (zI 1), .int (zI 99)]) (rest := []) (mc := 0) (ms := 0) rfl caX10_readPart rfl rfl rfl hm7.1 rfl rfl (g_part G _ (q := 16) (lo := 1) (hi := 99) hA hB hn hm7 (by decide) (by decide) (by decide)) rfl rfl (Nat.le_of_ble_eq_true rfl) (by omega) ?_
                      rintro _ h8 ⟨rfl, m8, hm8, hk8, hf8⟩
                      refine v_run 0 (pc' := 126) (ls' := [some (.ref (ad 200)), some (.long (zL ↑(tV B n ((i + 1))))), none, some (.int (zI 1)), some (.int (zI ↑k)), none, none, none]) (st' := [.int (zI ↑(vP (sb (.inl (7, tP B n (i + 4))) (fun i => pNum B n 16 1 99 i)) 1))]) rfl ?_
                      have hm8 : MRd h8 ad sv m8 B n ζ (.inl (7, tP B n (i + 4))) := hm8
                      refine v_run 2 (pc' := 129) (ls' := [some (.ref (ad 200)), some (.long (zL ↑(tV B n ((i + 1))))), none, some (.int (zI 1)), some (.int (zI ↑k)), some (.int (zI ↑(vP (sb (.inl (7, tP B n (i + 4))) (fun i => pNum B n 16 1 99 i)) 1))), none, none]) (st' := [.ref (ad 200)]) rfl ?_
                      refine v_ldcSw v_ldcw_in.2.1 rfl ?_
                      refine v_run 2 (pc' := 135) (ls' := [some (.ref (ad 200)), some (.long (zL ↑(tV B n ((i + 1))))), none, some (.int (zI 1)), some (.int (zI ↑k)), some (.int (zI ↑(vP (sb (.inl (7, tP B n (i + 4))) (fun i => pNum B n 16 1 99 i)) 1))), none, none]) (st' := [.int (zI 9), .int (zI 0), .ref (gK G 16), .ref (ad 200)]) rfl ?_
                      refine v_callV (My := mX10_readPart) (As := [.ref (gK G 16), .int (zI 0), .int (zI 9)]) (rest := []) (mc := 0) (ms := 0) rfl caX10_readPart rfl rfl rfl hm8.1 rfl rfl (g_part G _ (q := 17) (lo := 0) (hi := 9) hA hB hn hm8 (by decide) (by decide) (by decide)) rfl rfl (Nat.le_of_ble_eq_true rfl) (by omega) ?_
                      rintro _ h9 ⟨rfl, m9, hm9, hk9, hf9⟩
                      refine v_run 0 (pc' := 138) (ls' := [some (.ref (ad 200)), some (.long (zL ↑(tV B n ((i + 1))))), none, some (.int (zI 1)), some (.int (zI ↑k)), some (.int (zI ↑(vP (sb (.inl (7, tP B n (i + 4))) (fun i => pNum B n 16 1 99 i)) 1))), none, none]) (st' := [.int (zI ↑(vP (sb (.inl (7, tP B n (i + 4))) (fun i => pNum B n 17 0 9 i)) 0))]) rfl ?_
                      have hm9 : MRd h9 ad sv m9 B n ζ (.inl (7, tP B n (i + 4))) := hm9
                      refine v_run 2 (pc' := 141) (ls' := [some (.ref (ad 200)), some (.long (zL ↑(tV B n ((i + 1))))), none, some (.int (zI 1)), some (.int (zI ↑k)), some (.int (zI ↑(vP (sb (.inl (7, tP B n (i + 4))) (fun i => pNum B n 16 1 99 i)) 1))), some (.int (zI ↑(vP (sb (.inl (7, tP B n (i + 4))) (fun i => pNum B n 17 0 9 i)) 0))), none]) (st' := [.ref (ad 200)]) rfl ?_
                      refine v_get rfl hm9.1 rfl ?_
                      refine v_run 1 (pc' := 145) (ls' := [some (.ref (ad 200)), some (.long (zL ↑(tV B n ((i + 1))))), none, some (.int (zI 1)), some (.int (zI ↑k)), some (.int (zI ↑(vP (sb (.inl (7, tP B n (i + 4))) (fun i => pNum B n 16 1 99 i)) 1))), some (.int (zI ↑(vP (sb (.inl (7, tP B n (i + 4))) (fun i => pNum B n 17 0 9 i)) 0))), none]) (st' := [.int (zI 5), .int (zI (m9 9))]) rfl ?_
                      refine v_icmp_ne rfl (fun c145 => ?_) (fun c145 => ?_)
                      · exact absurd (by rw [hm9.2.2.2.2.1]) c145
                      · rw [show lq B n ζ i (lSen B n ζ i) = .inl (7, tP B n (i + 4)) from by simp only [lq, if_neg hq0, lSen, if_neg hcap, hr2, pKind, if_pos (show 19 ≤ tK B n (i + 1 + 1) by show 19 ≤ tK B n (i + 2); omega), show tK B n (i + 1 + 1) - 19 = 1 from by show tK B n (i + 2) - 19 = 1; omega, hr4, hr5, if_pos c103, sb]]; exact v_vret rfl rfl ⟨rfl, m9, hm9, ((((((((hk1.tr hk2).tr hk3).tr hk4).tr hk5).tr hk6).tr hk7).tr hk8).tr hk9), ((((((((hf1.tr hf2).tr hf3).tr hf4).tr hf5).tr hf6).tr hf7).tr hf8).tr hf9)⟩
            · exact absurd c61 (by decide)
        · rw [zb_n, Bool.not_eq_false] at c24
          have ek : tK B n (i + 2) = 19 := of_decide_eq_true c24
          refine v_run 5 (pc' := 61) (ls' := [some (.ref (ad 200)), some (.long (zL ↑(tV B n ((i + 1))))), none, some (.int (zI 0)), none, none, none, none]) (st' := [.int (zI (-1)), .int (zI 0)]) rfl ?_
          refine v_icmp_ne rfl (fun c61 => ?_) (fun c61 => ?_)
          · refine v_run 1 (pc' := 70) (ls' := [some (.ref (ad 200)), some (.long (zL ↑(tV B n ((i + 1))))), none, some (.int (zI 0)), none, none, none, none]) (st' := [.ref (ad 200)]) rfl ?_
            refine v_callV (My := mX10_goesOn) (As := []) (rest := []) (mc := 0) (ms := 0) rfl caX10_goesOn rfl rfl rfl hm2.1 rfl rfl (g_on G _ hA hB hn hm2) rfl rfl (Nat.le_of_ble_eq_true rfl) (by omega) ?_
            rintro _ h3 ⟨rfl, m3, hm3, hk3, hf3⟩
            refine v_run 0 (pc' := 73) (ls' := [some (.ref (ad 200)), some (.long (zL ↑(tV B n ((i + 1))))), none, some (.int (zI 0)), none, none, none, none]) (st' := []) rfl ?_
            have hm3 : MRd h3 ad sv m3 B n ζ (.inr (i + 3)) := hm3
            refine v_run 1 (pc' := 74) (ls' := [some (.ref (ad 200)), some (.long (zL ↑(tV B n ((i + 1))))), none, some (.int (zI 0)), none, none, none, none]) (st' := [.ref (ad 200)]) rfl ?_
            refine v_ldcS rfl ?_
            refine v_run 0 (pc' := 76) (ls' := [some (.ref (ad 200)), some (.long (zL ↑(tV B n ((i + 1))))), none, some (.int (zI 0)), none, none, none, none]) (st' := [.ref (gK G 14), .ref (ad 200)]) rfl ?_
            refine v_callV (My := mX10_needs) (As := [.ref (gK G 14)]) (rest := []) (mc := 0) (ms := 0) rfl caX10_needs rfl rfl rfl hm3.1 rfl rfl (g_needs G _ (q := 15) hA hB hn hm3 (by decide)) rfl rfl (Nat.le_of_ble_eq_true rfl) (by omega) ?_
            rintro _ h4 ⟨rfl, m4, hm4, hk4, hf4⟩
            refine v_run 0 (pc' := 79) (ls' := [some (.ref (ad 200)), some (.long (zL ↑(tV B n ((i + 1))))), none, some (.int (zI 0)), none, none, none, none]) (st' := []) rfl ?_
            rcases hr4 : pWd B n 15 (i + 3) with e | j2
            · have hm4 : MRd h4 ad sv m4 B n ζ (.inl e) := by have hh := hm4; rw [show sb (.inr (i + 3)) (fun i => pWd B n 15 i) = (.inl e : pR Nat) from hr4] at hh; exact hh
              have hm4 : MRd h4 ad sv m4 B n ζ (.inl e) := hm4
              refine v_run 2 (pc' := 81) (ls' := [some (.ref (ad 200)), some (.long (zL ↑(tV B n ((i + 1))))), none, some (.int (zI 0)), none, none, none, none]) (st' := [.int (zI 0), .ref (ad 200)]) rfl ?_
              refine v_callV (My := mX10_knownOne) (As := [.int (zI 0)]) (rest := []) (mc := 0) (ms := 0) rfl caX10_knownOne rfl rfl rfl hm4.1 rfl rfl (g_known G _ (s := 0) hA hB hn hm4 h11 n1 n2 n3 (by decide)) rfl rfl (Nat.le_of_ble_eq_true rfl) (by omega) ?_
              rintro _ h5 ⟨rfl, m5, hm5, hk5, hf5⟩
              refine v_run 0 (pc' := 84) (ls' := [some (.ref (ad 200)), some (.long (zL ↑(tV B n ((i + 1))))), none, some (.int (zI 0)), none, none, none, none]) (st' := [.int (zI ↑(vT (sb (.inl e) (fun i => pTold B n ζ 0 i))))]) rfl ?_
              have hm5 : MRd h5 ad sv m5 B n ζ (.inl e) := hm5
              refine v_run 2 (pc' := 87) (ls' := [some (.ref (ad 200)), some (.long (zL ↑(tV B n ((i + 1))))), none, some (.int (zI 0)), some (.int (zI ↑(vT (sb (.inl e) (fun i => pTold B n ζ 0 i))))), none, none, none]) (st' := [.ref (ad 200)]) rfl ?_
              refine v_get rfl hm5.1 rfl ?_
              refine v_run 1 (pc' := 91) (ls' := [some (.ref (ad 200)), some (.long (zL ↑(tV B n ((i + 1))))), none, some (.int (zI 0)), some (.int (zI ↑(vT (sb (.inl e) (fun i => pTold B n ζ 0 i))))), none, none, none]) (st' := [.int (zI 5), .int (zI (m5 9))]) rfl ?_
              refine v_icmp_eq rfl (fun c91 => ?_) (fun c91 => ?_)
              · refine v_run 1 (pc' := 113) (ls' := [some (.ref (ad 200)), some (.long (zL ↑(tV B n ((i + 1))))), none, some (.int (zI 0)), some (.int (zI ↑(vT (sb (.inl e) (fun i => pTold B n ζ 0 i))))), none, none, none]) (st' := [.ref (ad 200)]) rfl ?_
                refine v_callV (My := mX10_goesOn) (As := []) (rest := []) (mc := 0) (ms := 0) rfl caX10_goesOn rfl rfl rfl hm5.1 rfl rfl (g_on G _ hA hB hn hm5) rfl rfl (Nat.le_of_ble_eq_true rfl) (by omega) ?_
                rintro _ h6 ⟨rfl, m6, hm6, hk6, hf6⟩
                refine v_run 0 (pc' := 116) (ls' := [some (.ref (ad 200)), some (.long (zL ↑(tV B n ((i + 1))))), none, some (.int (zI 0)), some (.int (zI ↑(vT (sb (.inl e) (fun i => pTold B n ζ 0 i))))), none, none, none]) (st' := []) rfl ?_
                have hm6 : MRd h6 ad sv m6 B n ζ (.inl e) := hm6
                refine v_run 1 (pc' := 117) (ls' := [some (.ref (ad 200)), some (.long (zL ↑(tV B n ((i + 1))))), none, some (.int (zI 0)), some (.int (zI ↑(vT (sb (.inl e) (fun i => pTold B n ζ 0 i))))), none, none, none]) (st' := [.ref (ad 200)]) rfl ?_
                refine v_ldcSw v_ldcw_in.1 rfl ?_
                refine v_run 2 (pc' := 123) (ls' := [some (.ref (ad 200)), some (.long (zL ↑(tV B n ((i + 1))))), none, some (.int (zI 0)), some (.int (zI ↑(vT (sb (.inl e) (fun i => pTold B n ζ 0 i))))), none, none, none]) (st' := [.int (zI 99), .int (zI 1), .ref (gK G 15), .ref (ad 200)]) rfl ?_
                refine v_callV (My := mX10_readPart) (As := [.ref (gK G 15), .int (zI 1), .int (zI 99)]) (rest := []) (mc := 0) (ms := 0) rfl caX10_readPart rfl rfl rfl hm6.1 rfl rfl (g_part G _ (q := 16) (lo := 1) (hi := 99) hA hB hn hm6 (by decide) (by decide) (by decide)) rfl rfl (Nat.le_of_ble_eq_true rfl) (by omega) ?_
                rintro _ h7 ⟨rfl, m7, hm7, hk7, hf7⟩
                refine v_run 0 (pc' := 126) (ls' := [some (.ref (ad 200)), some (.long (zL ↑(tV B n ((i + 1))))), none, some (.int (zI 0)), some (.int (zI ↑(vT (sb (.inl e) (fun i => pTold B n ζ 0 i))))), none, none, none]) (st' := [.int (zI ↑(vP (sb (.inl e) (fun i => pNum B n 16 1 99 i)) 1))]) rfl ?_
                have hm7 : MRd h7 ad sv m7 B n ζ (.inl e) := hm7
                refine v_run 2 (pc' := 129) (ls' := [some (.ref (ad 200)), some (.long (zL ↑(tV B n ((i + 1))))), none, some (.int (zI 0)), some (.int (zI ↑(vT (sb (.inl e) (fun i => pTold B n ζ 0 i))))), some (.int (zI ↑(vP (sb (.inl e) (fun i => pNum B n 16 1 99 i)) 1))), none, none]) (st' := [.ref (ad 200)]) rfl ?_
                refine v_ldcSw v_ldcw_in.2.1 rfl ?_
                refine v_run 2 (pc' := 135) (ls' := [some (.ref (ad 200)), some (.long (zL ↑(tV B n ((i + 1))))), none, some (.int (zI 0)), some (.int (zI ↑(vT (sb (.inl e) (fun i => pTold B n ζ 0 i))))), some (.int (zI ↑(vP (sb (.inl e) (fun i => pNum B n 16 1 99 i)) 1))), none, none]) (st' := [.int (zI 9), .int (zI 0), .ref (gK G 16), .ref (ad 200)]) rfl ?_
                refine v_callV (My := mX10_readPart) (As := [.ref (gK G 16), .int (zI 0), .int (zI 9)]) (rest := []) (mc := 0) (ms := 0) rfl caX10_readPart rfl rfl rfl hm7.1 rfl rfl (g_part G _ (q := 17) (lo := 0) (hi := 9) hA hB hn hm7 (by decide) (by decide) (by decide)) rfl rfl (Nat.le_of_ble_eq_true rfl) (by omega) ?_
                rintro _ h8 ⟨rfl, m8, hm8, hk8, hf8⟩
                refine v_run 0 (pc' := 138) (ls' := [some (.ref (ad 200)), some (.long (zL ↑(tV B n ((i + 1))))), none, some (.int (zI 0)), some (.int (zI ↑(vT (sb (.inl e) (fun i => pTold B n ζ 0 i))))), some (.int (zI ↑(vP (sb (.inl e) (fun i => pNum B n 16 1 99 i)) 1))), none, none]) (st' := [.int (zI ↑(vP (sb (.inl e) (fun i => pNum B n 17 0 9 i)) 0))]) rfl ?_
                have hm8 : MRd h8 ad sv m8 B n ζ (.inl e) := hm8
                refine v_run 2 (pc' := 141) (ls' := [some (.ref (ad 200)), some (.long (zL ↑(tV B n ((i + 1))))), none, some (.int (zI 0)), some (.int (zI ↑(vT (sb (.inl e) (fun i => pTold B n ζ 0 i))))), some (.int (zI ↑(vP (sb (.inl e) (fun i => pNum B n 16 1 99 i)) 1))), some (.int (zI ↑(vP (sb (.inl e) (fun i => pNum B n 17 0 9 i)) 0))), none]) (st' := [.ref (ad 200)]) rfl ?_
                refine v_get rfl hm8.1 rfl ?_
                refine v_run 1 (pc' := 145) (ls' := [some (.ref (ad 200)), some (.long (zL ↑(tV B n ((i + 1))))), none, some (.int (zI 0)), some (.int (zI ↑(vT (sb (.inl e) (fun i => pTold B n ζ 0 i))))), some (.int (zI ↑(vP (sb (.inl e) (fun i => pNum B n 16 1 99 i)) 1))), some (.int (zI ↑(vP (sb (.inl e) (fun i => pNum B n 17 0 9 i)) 0))), none]) (st' := [.int (zI 5), .int (zI (m8 9))]) rfl ?_
                refine v_icmp_ne rfl (fun c145 => ?_) (fun c145 => ?_)
                · exact absurd (by rw [hm8.2.2.2.2.1]) c145
                · rw [show lq B n ζ i (lSen B n ζ i) = .inl e from by simp only [lq, if_neg hq0, lSen, if_neg hcap, hr2, pKind, if_pos (show 19 ≤ tK B n (i + 1 + 1) by show 19 ≤ tK B n (i + 2); omega), show tK B n (i + 1 + 1) - 19 = 0 from by show tK B n (i + 2) - 19 = 0; omega, hr4, sb]]; exact v_vret rfl rfl ⟨rfl, m8, hm8, (((((((hk1.tr hk2).tr hk3).tr hk4).tr hk5).tr hk6).tr hk7).tr hk8), (((((((hf1.tr hf2).tr hf3).tr hf4).tr hf5).tr hf6).tr hf7).tr hf8)⟩
              · exact absurd (by rw [hm5.2.2.2.2.1]) c91
            · have hj2 : j2 = i + 3 + 1 := pWd_b hr4
              subst hj2
              have hm4 : MRd h4 ad sv m4 B n ζ (.inr (i + 4)) := by have hh := hm4; rw [show sb (.inr (i + 3)) (fun i => pWd B n 15 i) = (.inr (i + 3 + 1) : pR Nat) from hr4] at hh; exact hh
              refine v_run 2 (pc' := 81) (ls' := [some (.ref (ad 200)), some (.long (zL ↑(tV B n ((i + 1))))), none, some (.int (zI 0)), none, none, none, none]) (st' := [.int (zI 0), .ref (ad 200)]) rfl ?_
              refine v_callV (My := mX10_knownOne) (As := [.int (zI 0)]) (rest := []) (mc := 0) (ms := 0) rfl caX10_knownOne rfl rfl rfl hm4.1 rfl rfl (g_known G _ (s := 0) hA hB hn hm4 h11 n1 n2 n3 (by decide)) rfl rfl (Nat.le_of_ble_eq_true rfl) (by omega) ?_
              rintro _ h5 ⟨rfl, m5, hm5, hk5, hf5⟩
              refine v_run 0 (pc' := 84) (ls' := [some (.ref (ad 200)), some (.long (zL ↑(tV B n ((i + 1))))), none, some (.int (zI 0)), none, none, none, none]) (st' := [.int (zI ↑(vT (sb (.inr (i + 4)) (fun i => pTold B n ζ 0 i))))]) rfl ?_
              rcases hr5 : pTold B n ζ 0 (i + 4) with e | k
              · rw [show vT (sb (.inr (i + 4)) (fun i => pTold B n ζ 0 i)) = 0 from by show vT (pTold B n ζ 0 (i + 4)) = _; rw [hr5]; rfl]
                have hm5 : MRd h5 ad sv m5 B n ζ (.inl e) := by have hh := hm5; rw [show sb (.inr (i + 4)) (fun i => sb (pTold B n ζ 0 i) (fun _ => .inr i)) = (.inl e : pR Nat) from by show sb (pTold B n ζ 0 (i + 4)) _ = _; rw [hr5]; rfl] at hh; exact hh
                have hm5 : MRd h5 ad sv m5 B n ζ (.inl e) := hm5
                refine v_run 2 (pc' := 87) (ls' := [some (.ref (ad 200)), some (.long (zL ↑(tV B n ((i + 1))))), none, some (.int (zI 0)), some (.int (zI ↑((0 : Nat)))), none, none, none]) (st' := [.ref (ad 200)]) rfl ?_
                refine v_get rfl hm5.1 rfl ?_
                refine v_run 1 (pc' := 91) (ls' := [some (.ref (ad 200)), some (.long (zL ↑(tV B n ((i + 1))))), none, some (.int (zI 0)), some (.int (zI ↑((0 : Nat)))), none, none, none]) (st' := [.int (zI 5), .int (zI (m5 9))]) rfl ?_
                refine v_icmp_eq rfl (fun c91 => ?_) (fun c91 => ?_)
                · refine v_run 1 (pc' := 113) (ls' := [some (.ref (ad 200)), some (.long (zL ↑(tV B n ((i + 1))))), none, some (.int (zI 0)), some (.int (zI ↑((0 : Nat)))), none, none, none]) (st' := [.ref (ad 200)]) rfl ?_
                  refine v_callV (My := mX10_goesOn) (As := []) (rest := []) (mc := 0) (ms := 0) rfl caX10_goesOn rfl rfl rfl hm5.1 rfl rfl (g_on G _ hA hB hn hm5) rfl rfl (Nat.le_of_ble_eq_true rfl) (by omega) ?_
                  rintro _ h6 ⟨rfl, m6, hm6, hk6, hf6⟩
                  refine v_run 0 (pc' := 116) (ls' := [some (.ref (ad 200)), some (.long (zL ↑(tV B n ((i + 1))))), none, some (.int (zI 0)), some (.int (zI ↑((0 : Nat)))), none, none, none]) (st' := []) rfl ?_
                  have hm6 : MRd h6 ad sv m6 B n ζ (.inl e) := hm6
                  refine v_run 1 (pc' := 117) (ls' := [some (.ref (ad 200)), some (.long (zL ↑(tV B n ((i + 1))))), none, some (.int (zI 0)), some (.int (zI ↑((0 : Nat)))), none, none, none]) (st' := [.ref (ad 200)]) rfl ?_
                  refine v_ldcSw v_ldcw_in.1 rfl ?_
                  refine v_run 2 (pc' := 123) (ls' := [some (.ref (ad 200)), some (.long (zL ↑(tV B n ((i + 1))))), none, some (.int (zI 0)), some (.int (zI ↑((0 : Nat)))), none, none, none]) (st' := [.int (zI 99), .int (zI 1), .ref (gK G 15), .ref (ad 200)]) rfl ?_
                  refine v_callV (My := mX10_readPart) (As := [.ref (gK G 15), .int (zI 1), .int (zI 99)]) (rest := []) (mc := 0) (ms := 0) rfl caX10_readPart rfl rfl rfl hm6.1 rfl rfl (g_part G _ (q := 16) (lo := 1) (hi := 99) hA hB hn hm6 (by decide) (by decide) (by decide)) rfl rfl (Nat.le_of_ble_eq_true rfl) (by omega) ?_
                  rintro _ h7 ⟨rfl, m7, hm7, hk7, hf7⟩
                  refine v_run 0 (pc' := 126) (ls' := [some (.ref (ad 200)), some (.long (zL ↑(tV B n ((i + 1))))), none, some (.int (zI 0)), some (.int (zI ↑((0 : Nat)))), none, none, none]) (st' := [.int (zI ↑(vP (sb (.inl e) (fun i => pNum B n 16 1 99 i)) 1))]) rfl ?_
                  have hm7 : MRd h7 ad sv m7 B n ζ (.inl e) := hm7
                  refine v_run 2 (pc' := 129) (ls' := [some (.ref (ad 200)), some (.long (zL ↑(tV B n ((i + 1))))), none, some (.int (zI 0)), some (.int (zI ↑((0 : Nat)))), some (.int (zI ↑(vP (sb (.inl e) (fun i => pNum B n 16 1 99 i)) 1))), none, none]) (st' := [.ref (ad 200)]) rfl ?_
                  refine v_ldcSw v_ldcw_in.2.1 rfl ?_
                  refine v_run 2 (pc' := 135) (ls' := [some (.ref (ad 200)), some (.long (zL ↑(tV B n ((i + 1))))), none, some (.int (zI 0)), some (.int (zI ↑((0 : Nat)))), some (.int (zI ↑(vP (sb (.inl e) (fun i => pNum B n 16 1 99 i)) 1))), none, none]) (st' := [.int (zI 9), .int (zI 0), .ref (gK G 16), .ref (ad 200)]) rfl ?_
                  refine v_callV (My := mX10_readPart) (As := [.ref (gK G 16), .int (zI 0), .int (zI 9)]) (rest := []) (mc := 0) (ms := 0) rfl caX10_readPart rfl rfl rfl hm7.1 rfl rfl (g_part G _ (q := 17) (lo := 0) (hi := 9) hA hB hn hm7 (by decide) (by decide) (by decide)) rfl rfl (Nat.le_of_ble_eq_true rfl) (by omega) ?_
                  rintro _ h8 ⟨rfl, m8, hm8, hk8, hf8⟩
                  refine v_run 0 (pc' := 138) (ls' := [some (.ref (ad 200)), some (.long (zL ↑(tV B n ((i + 1))))), none, some (.int (zI 0)), some (.int (zI ↑((0 : Nat)))), some (.int (zI ↑(vP (sb (.inl e) (fun i => pNum B n 16 1 99 i)) 1))), none, none]) (st' := [.int (zI ↑(vP (sb (.inl e) (fun i => pNum B n 17 0 9 i)) 0))]) rfl ?_
                  have hm8 : MRd h8 ad sv m8 B n ζ (.inl e) := hm8
                  refine v_run 2 (pc' := 141) (ls' := [some (.ref (ad 200)), some (.long (zL ↑(tV B n ((i + 1))))), none, some (.int (zI 0)), some (.int (zI ↑((0 : Nat)))), some (.int (zI ↑(vP (sb (.inl e) (fun i => pNum B n 16 1 99 i)) 1))), some (.int (zI ↑(vP (sb (.inl e) (fun i => pNum B n 17 0 9 i)) 0))), none]) (st' := [.ref (ad 200)]) rfl ?_
                  refine v_get rfl hm8.1 rfl ?_
                  refine v_run 1 (pc' := 145) (ls' := [some (.ref (ad 200)), some (.long (zL ↑(tV B n ((i + 1))))), none, some (.int (zI 0)), some (.int (zI ↑((0 : Nat)))), some (.int (zI ↑(vP (sb (.inl e) (fun i => pNum B n 16 1 99 i)) 1))), some (.int (zI ↑(vP (sb (.inl e) (fun i => pNum B n 17 0 9 i)) 0))), none]) (st' := [.int (zI 5), .int (zI (m8 9))]) rfl ?_
                  refine v_icmp_ne rfl (fun c145 => ?_) (fun c145 => ?_)
                  · exact absurd (by rw [hm8.2.2.2.2.1]) c145
                  · rw [show lq B n ζ i (lSen B n ζ i) = .inl e from by simp only [lq, if_neg hq0, lSen, if_neg hcap, hr2, pKind, if_pos (show 19 ≤ tK B n (i + 1 + 1) by show 19 ≤ tK B n (i + 2); omega), show tK B n (i + 1 + 1) - 19 = 0 from by show tK B n (i + 2) - 19 = 0; omega, hr4, hr5, sb]]; exact v_vret rfl rfl ⟨rfl, m8, hm8, (((((((hk1.tr hk2).tr hk3).tr hk4).tr hk5).tr hk6).tr hk7).tr hk8), (((((((hf1.tr hf2).tr hf3).tr hf4).tr hf5).tr hf6).tr hf7).tr hf8)⟩
                · exact absurd (by rw [hm5.2.2.2.2.1]) c91
              · rw [show vT (sb (.inr (i + 4)) (fun i => pTold B n ζ 0 i)) = k from by show vT (pTold B n ζ 0 (i + 4)) = _; rw [hr5]; rfl]
                have ht5 := pTold_z hzo hr5
                have hm5 : MRd h5 ad sv m5 B n ζ (.inr (i + 4)) := by have hh := hm5; rw [show sb (.inr (i + 4)) (fun i => sb (pTold B n ζ 0 i) (fun _ => .inr i)) = (.inr (i + 4) : pR Nat) from by show sb (pTold B n ζ 0 (i + 4)) _ = _; rw [hr5]; rfl] at hh; exact hh
                refine v_run 2 (pc' := 87) (ls' := [some (.ref (ad 200)), some (.long (zL ↑(tV B n ((i + 1))))), none, some (.int (zI 0)), some (.int (zI ↑k)), none, none, none]) (st' := [.ref (ad 200)]) rfl ?_
                refine v_get rfl hm5.1 rfl ?_
                refine v_run 1 (pc' := 91) (ls' := [some (.ref (ad 200)), some (.long (zL ↑(tV B n ((i + 1))))), none, some (.int (zI 0)), some (.int (zI ↑k)), none, none, none]) (st' := [.int (zI 5), .int (zI (m5 9))]) rfl ?_
                refine v_icmp_eq rfl (fun c91 => ?_) (fun c91 => ?_)
                · exact absurd (hm5.2.2.2.2.2.1 ▸ c91) (m9_ne (i + 4))
                · refine v_run 1 (pc' := 95) (ls' := [some (.ref (ad 200)), some (.long (zL ↑(tV B n ((i + 1))))), none, some (.int (zI 0)), some (.int (zI ↑k)), none, none, none]) (st' := [.ref (ad 200)]) rfl ?_
                  refine v_get rfl hm5.1 rfl ?_
                  refine v_run 1 (pc' := 100) (ls' := [some (.ref (ad 200)), some (.long (zL ↑(tV B n ((i + 1))))), none, some (.int (zI 0)), some (.int (zI ↑k)), none, none, none]) (st' := [.int (zI ↑k), .ref (ad 230)]) rfl ?_
                  refine v_callV (My := mX9_isHung) (As := [.int (zI ↑k)]) (rest := []) (mc := 0) (ms := 0) rfl caX9_isHung rfl rfl rfl hm5.2.2.1.1.1 rfl rfl (g_isHung G _ hA hB hn hm5 (by omega) z5 r14) rfl rfl (Nat.le_of_ble_eq_true rfl) (by omega) ?_
                  rintro _ _ ⟨rfl, rfl⟩
                  refine v_run 0 (pc' := 103) (ls' := [some (.ref (ad 200)), some (.long (zL ↑(tV B n ((i + 1))))), none, some (.int (zI 0)), some (.int (zI ↑k)), none, none, none]) (st' := [.int (zb (hngB ζ k))]) rfl ?_
                  refine v_if_eq rfl (fun c103 => ?_) (fun c103 => ?_)
                  · rw [zb_n] at c103
                    have hnh : ¬ hngB ζ k = true := by rw [c103]; decide
                    refine v_run 1 (pc' := 113) (ls' := [some (.ref (ad 200)), some (.long (zL ↑(tV B n ((i + 1))))), none, some (.int (zI 0)), some (.int (zI ↑k)), none, none, none]) (st' := [.ref (ad 200)]) rfl ?_
                    refine v_callV (My := mX10_goesOn) (As := []) (rest := []) (mc := 0) (ms := 0) rfl caX10_goesOn rfl rfl rfl hm5.1 rfl rfl (g_on G _ hA hB hn hm5) rfl rfl (Nat.le_of_ble_eq_true rfl) (by omega) ?_
                    rintro _ h6 ⟨rfl, m6, hm6, hk6, hf6⟩
                    refine v_run 0 (pc' := 116) (ls' := [some (.ref (ad 200)), some (.long (zL ↑(tV B n ((i + 1))))), none, some (.int (zI 0)), some (.int (zI ↑k)), none, none, none]) (st' := []) rfl ?_
                    have hm6 : MRd h6 ad sv m6 B n ζ (.inr (i + 5)) := hm6
                    refine v_run 1 (pc' := 117) (ls' := [some (.ref (ad 200)), some (.long (zL ↑(tV B n ((i + 1))))), none, some (.int (zI 0)), some (.int (zI ↑k)), none, none, none]) (st' := [.ref (ad 200)]) rfl ?_
                    refine v_ldcSw v_ldcw_in.1 rfl ?_
                    refine v_run 2 (pc' := 123) (ls' := [some (.ref (ad 200)), some (.long (zL ↑(tV B n ((i + 1))))), none, some (.int (zI 0)), some (.int (zI ↑k)), none, none, none]) (st' := [.int (zI 99), .int (zI 1), .ref (gK G 15), .ref (ad 200)]) rfl ?_
                    refine v_callV (My := mX10_readPart) (As := [.ref (gK G 15), .int (zI 1), .int (zI 99)]) (rest := []) (mc := 0) (ms := 0) rfl caX10_readPart rfl rfl rfl hm6.1 rfl rfl (g_part G _ (q := 16) (lo := 1) (hi := 99) hA hB hn hm6 (by decide) (by decide) (by decide)) rfl rfl (Nat.le_of_ble_eq_true rfl) (by omega) ?_
                    rintro _ h7 ⟨rfl, m7, hm7, hk7, hf7⟩
                    refine v_run 0 (pc' := 126) (ls' := [some (.ref (ad 200)), some (.long (zL ↑(tV B n ((i + 1))))), none, some (.int (zI 0)), some (.int (zI ↑k)), none, none, none]) (st' := [.int (zI ↑(vP (sb (.inr (i + 5)) (fun i => pNum B n 16 1 99 i)) 1))]) rfl ?_
                    rcases hr7 : pNum B n 16 1 99 (i + 5) with e | a
                    · rw [show vP (sb (.inr (i + 5)) (fun i => pNum B n 16 1 99 i)) 1 = 1 from by show vP (pNum B n 16 1 99 (i + 5)) 1 = _; rw [hr7]; rfl]
                      have hm7 : MRd h7 ad sv m7 B n ζ (.inl e) := by have hh := hm7; rw [show sb (.inr (i + 5)) (fun i => sb (pNum B n 16 1 99 i) (fun a => .inr a.1)) = (.inl e : pR Nat) from by show sb (pNum B n 16 1 99 (i + 5)) _ = _; rw [hr7]; rfl] at hh; exact hh
                      have hm7 : MRd h7 ad sv m7 B n ζ (.inl e) := hm7
                      refine v_run 2 (pc' := 129) (ls' := [some (.ref (ad 200)), some (.long (zL ↑(tV B n ((i + 1))))), none, some (.int (zI 0)), some (.int (zI ↑k)), some (.int (zI ↑((1 : Nat)))), none, none]) (st' := [.ref (ad 200)]) rfl ?_
                      refine v_ldcSw v_ldcw_in.2.1 rfl ?_
                      refine v_run 2 (pc' := 135) (ls' := [some (.ref (ad 200)), some (.long (zL ↑(tV B n ((i + 1))))), none, some (.int (zI 0)), some (.int (zI ↑k)), some (.int (zI ↑((1 : Nat)))), none, none]) (st' := [.int (zI 9), .int (zI 0), .ref (gK G 16), .ref (ad 200)]) rfl ?_
                      refine v_callV (My := mX10_readPart) (As := [.ref (gK G 16), .int (zI 0), .int (zI 9)]) (rest := []) (mc := 0) (ms := 0) rfl caX10_readPart rfl rfl rfl hm7.1 rfl rfl (g_part G _ (q := 17) (lo := 0) (hi := 9) hA hB hn hm7 (by decide) (by decide) (by decide)) rfl rfl (Nat.le_of_ble_eq_true rfl) (by omega) ?_
                      rintro _ h8 ⟨rfl, m8, hm8, hk8, hf8⟩
                      refine v_run 0 (pc' := 138) (ls' := [some (.ref (ad 200)), some (.long (zL ↑(tV B n ((i + 1))))), none, some (.int (zI 0)), some (.int (zI ↑k)), some (.int (zI ↑((1 : Nat)))), none, none]) (st' := [.int (zI ↑(vP (sb (.inl e) (fun i => pNum B n 17 0 9 i)) 0))]) rfl ?_
                      have hm8 : MRd h8 ad sv m8 B n ζ (.inl e) := hm8
                      refine v_run 2 (pc' := 141) (ls' := [some (.ref (ad 200)), some (.long (zL ↑(tV B n ((i + 1))))), none, some (.int (zI 0)), some (.int (zI ↑k)), some (.int (zI ↑((1 : Nat)))), some (.int (zI ↑(vP (sb (.inl e) (fun i => pNum B n 17 0 9 i)) 0))), none]) (st' := [.ref (ad 200)]) rfl ?_
                      refine v_get rfl hm8.1 rfl ?_
                      refine v_run 1 (pc' := 145) (ls' := [some (.ref (ad 200)), some (.long (zL ↑(tV B n ((i + 1))))), none, some (.int (zI 0)), some (.int (zI ↑k)), some (.int (zI ↑((1 : Nat)))), some (.int (zI ↑(vP (sb (.inl e) (fun i => pNum B n 17 0 9 i)) 0))), none]) (st' := [.int (zI 5), .int (zI (m8 9))]) rfl ?_
                      refine v_icmp_ne rfl (fun c145 => ?_) (fun c145 => ?_)
                      · exact absurd (by rw [hm8.2.2.2.2.1]) c145
                      · rw [show lq B n ζ i (lSen B n ζ i) = .inl e from by simp only [lq, if_neg hq0, lSen, if_neg hcap, hr2, pKind, if_pos (show 19 ≤ tK B n (i + 1 + 1) by show 19 ≤ tK B n (i + 2); omega), show tK B n (i + 1 + 1) - 19 = 0 from by show tK B n (i + 2) - 19 = 0; omega, hr4, hr5, if_neg hnh, hr7, sb]]; exact v_vret rfl rfl ⟨rfl, m8, hm8, (((((((hk1.tr hk2).tr hk3).tr hk4).tr hk5).tr hk6).tr hk7).tr hk8), (((((((hf1.tr hf2).tr hf3).tr hf4).tr hf5).tr hf6).tr hf7).tr hf8)⟩
                    · rw [show vP (sb (.inr (i + 5)) (fun i => pNum B n 16 1 99 i)) 1 = a.2 from by show vP (pNum B n 16 1 99 (i + 5)) 1 = _; rw [hr7]; rfl]
                      have hb7 := pNum_b hr7
                      have hm7 : MRd h7 ad sv m7 B n ζ (.inr a.1) := by have hh := hm7; rw [show sb (.inr (i + 5)) (fun i => sb (pNum B n 16 1 99 i) (fun a => .inr a.1)) = (.inr a.1 : pR Nat) from by show sb (pNum B n 16 1 99 (i + 5)) _ = _; rw [hr7]; rfl] at hh; exact hh
                      refine v_run 2 (pc' := 129) (ls' := [some (.ref (ad 200)), some (.long (zL ↑(tV B n ((i + 1))))), none, some (.int (zI 0)), some (.int (zI ↑k)), some (.int (zI ↑a.2)), none, none]) (st' := [.ref (ad 200)]) rfl ?_
                      refine v_ldcSw v_ldcw_in.2.1 rfl ?_
                      refine v_run 2 (pc' := 135) (ls' := [some (.ref (ad 200)), some (.long (zL ↑(tV B n ((i + 1))))), none, some (.int (zI 0)), some (.int (zI ↑k)), some (.int (zI ↑a.2)), none, none]) (st' := [.int (zI 9), .int (zI 0), .ref (gK G 16), .ref (ad 200)]) rfl ?_
                      refine v_callV (My := mX10_readPart) (As := [.ref (gK G 16), .int (zI 0), .int (zI 9)]) (rest := []) (mc := 0) (ms := 0) rfl caX10_readPart rfl rfl rfl hm7.1 rfl rfl (g_part G _ (q := 17) (lo := 0) (hi := 9) hA hB hn hm7 (by decide) (by decide) (by decide)) rfl rfl (Nat.le_of_ble_eq_true rfl) (by omega) ?_
                      rintro _ h8 ⟨rfl, m8, hm8, hk8, hf8⟩
                      refine v_run 0 (pc' := 138) (ls' := [some (.ref (ad 200)), some (.long (zL ↑(tV B n ((i + 1))))), none, some (.int (zI 0)), some (.int (zI ↑k)), some (.int (zI ↑a.2)), none, none]) (st' := [.int (zI ↑(vP (sb (.inr a.1) (fun i => pNum B n 17 0 9 i)) 0))]) rfl ?_
                      rcases hr8 : pNum B n 17 0 9 a.1 with e | b
                      · rw [show vP (sb (.inr a.1) (fun i => pNum B n 17 0 9 i)) 0 = 0 from by show vP (pNum B n 17 0 9 a.1) 0 = _; rw [hr8]; rfl]
                        have hm8 : MRd h8 ad sv m8 B n ζ (.inl e) := by have hh := hm8; rw [show sb (.inr a.1) (fun i => sb (pNum B n 17 0 9 i) (fun a => .inr a.1)) = (.inl e : pR Nat) from by show sb (pNum B n 17 0 9 a.1) _ = _; rw [hr8]; rfl] at hh; exact hh
                        have hm8 : MRd h8 ad sv m8 B n ζ (.inl e) := hm8
                        refine v_run 2 (pc' := 141) (ls' := [some (.ref (ad 200)), some (.long (zL ↑(tV B n ((i + 1))))), none, some (.int (zI 0)), some (.int (zI ↑k)), some (.int (zI ↑a.2)), some (.int (zI ↑((0 : Nat)))), none]) (st' := [.ref (ad 200)]) rfl ?_
                        refine v_get rfl hm8.1 rfl ?_
                        refine v_run 1 (pc' := 145) (ls' := [some (.ref (ad 200)), some (.long (zL ↑(tV B n ((i + 1))))), none, some (.int (zI 0)), some (.int (zI ↑k)), some (.int (zI ↑a.2)), some (.int (zI ↑((0 : Nat)))), none]) (st' := [.int (zI 5), .int (zI (m8 9))]) rfl ?_
                        refine v_icmp_ne rfl (fun c145 => ?_) (fun c145 => ?_)
                        · exact absurd (by rw [hm8.2.2.2.2.1]) c145
                        · rw [show lq B n ζ i (lSen B n ζ i) = .inl e from by simp only [lq, if_neg hq0, lSen, if_neg hcap, hr2, pKind, if_pos (show 19 ≤ tK B n (i + 1 + 1) by show 19 ≤ tK B n (i + 2); omega), show tK B n (i + 1 + 1) - 19 = 0 from by show tK B n (i + 2) - 19 = 0; omega, hr4, hr5, if_neg hnh, hr7, hr8, sb]]; exact v_vret rfl rfl ⟨rfl, m8, hm8, (((((((hk1.tr hk2).tr hk3).tr hk4).tr hk5).tr hk6).tr hk7).tr hk8), (((((((hf1.tr hf2).tr hf3).tr hf4).tr hf5).tr hf6).tr hf7).tr hf8)⟩
                      · rw [show vP (sb (.inr a.1) (fun i => pNum B n 17 0 9 i)) 0 = b.2 from by show vP (pNum B n 17 0 9 a.1) 0 = _; rw [hr8]; rfl]
                        have hb8 := pNum_b hr8
                        have hm8 : MRd h8 ad sv m8 B n ζ (.inr b.1) := by have hh := hm8; rw [show sb (.inr a.1) (fun i => sb (pNum B n 17 0 9 i) (fun a => .inr a.1)) = (.inr b.1 : pR Nat) from by show sb (pNum B n 17 0 9 a.1) _ = _; rw [hr8]; rfl] at hh; exact hh
                        refine v_run 2 (pc' := 141) (ls' := [some (.ref (ad 200)), some (.long (zL ↑(tV B n ((i + 1))))), none, some (.int (zI 0)), some (.int (zI ↑k)), some (.int (zI ↑a.2)), some (.int (zI ↑b.2)), none]) (st' := [.ref (ad 200)]) rfl ?_
                        refine v_get rfl hm8.1 rfl ?_
                        refine v_run 1 (pc' := 145) (ls' := [some (.ref (ad 200)), some (.long (zL ↑(tV B n ((i + 1))))), none, some (.int (zI 0)), some (.int (zI ↑k)), some (.int (zI ↑a.2)), some (.int (zI ↑b.2)), none]) (st' := [.int (zI 5), .int (zI (m8 9))]) rfl ?_
                        refine v_icmp_ne rfl (fun c145 => ?_) (fun c145 => ?_)
                        · refine v_run 1 (pc' := 150) (ls' := [some (.ref (ad 200)), some (.long (zL ↑(tV B n ((i + 1))))), none, some (.int (zI 0)), some (.int (zI ↑k)), some (.int (zI ↑a.2)), some (.int (zI ↑b.2)), none]) (st' := [.ref (ad 200)]) rfl ?_
                          refine v_get rfl hm8.1 rfl ?_
                          refine v_run 0 (pc' := 153) (ls' := [some (.ref (ad 200)), some (.long (zL ↑(tV B n ((i + 1))))), none, some (.int (zI 0)), some (.int (zI ↑k)), some (.int (zI ↑a.2)), some (.int (zI ↑b.2)), none]) (st' := [.ref (ad 230)]) rfl ?_
                          refine v_get rfl hm8.2.2.1.1.1 rfl ?_
                          refine v_run 5 (pc' := 163) (ls' := [some (.ref (ad 200)), some (.long (zL ↑(tV B n ((i + 1))))), none, some (.int (zI 0)), some (.int (zI ↑k)), some (.int (zI ↑a.2)), some (.int (zI ↑b.2)), some (.int (zI ↑(ζ 5 0)))]) (st' := [.int (zI ↑(ζ 5 0)), .int (zI 1), .long (zL ↑(tV B n ((i + 1)))), .ref (ad 200)]) rfl ?_
                          refine v_callV (My := mX10_names) (As := [.long (zL ↑(tV B n ((i + 1)))), .int (zI 1), .int (zI ↑(ζ 5 0))]) (rest := []) (mc := 0) (ms := 0) rfl caX10_names rfl rfl rfl hm8.1 rfl rfl (g_names G _ (w := (tV B n (i + 1))) (s := 1) (k := ζ 5 0) hA hB hn hm8 (by omega)) rfl rfl (Nat.le_of_ble_eq_true rfl) (by omega) ?_
                          rintro _ h9 ⟨rfl, m9, hm9, hk9, hf9⟩
                          refine v_run 0 (pc' := 166) (ls' := [some (.ref (ad 200)), some (.long (zL ↑(tV B n ((i + 1))))), none, some (.int (zI 0)), some (.int (zI ↑k)), some (.int (zI ↑a.2)), some (.int (zI ↑b.2)), some (.int (zI ↑(ζ 5 0)))]) (st' := []) rfl ?_
                          refine v_run 1 (pc' := 167) (ls' := [some (.ref (ad 200)), some (.long (zL ↑(tV B n ((i + 1))))), none, some (.int (zI 0)), some (.int (zI ↑k)), some (.int (zI ↑a.2)), some (.int (zI ↑b.2)), some (.int (zI ↑(ζ 5 0)))]) (st' := [.ref (ad 200)]) rfl ?_
                          refine v_get rfl hm9.1 rfl ?_
                          refine v_run 0 (pc' := 170) (ls' := [some (.ref (ad 200)), some (.long (zL ↑(tV B n ((i + 1))))), none, some (.int (zI 0)), some (.int (zI ↑k)), some (.int (zI ↑a.2)), some (.int (zI ↑b.2)), some (.int (zI ↑(ζ 5 0)))]) (st' := [.ref (ad 230)]) rfl ?_
                          refine v_get rfl hm9.2.2.1.1.1 rfl ?_
                          refine v_run 2 (pc' := 176) (ls' := [some (.ref (ad 200)), some (.long (zL ↑(tV B n ((i + 1))))), none, some (.int (zI 0)), some (.int (zI ↑k)), some (.int (zI ↑a.2)), some (.int (zI ↑b.2)), some (.int (zI ↑(ζ 5 0)))]) (st' := [.int (zI 0), .int (zI ↑(ζ 5 0)), .ref (Sf ad 230 13)]) rfl ?_
                          rw [show (zI 0 : Int32) = zI ↑(0 : Nat) from rfl]
                          refine v_iastore' rfl hm9.2.2.1.1.2.2.1 (i := ζ 5 0) rfl (by omega) ?_
                          rw [ar_upd]
                          have hm10 := hm9.r13 hA (ζ 5 0) 0
                          generalize e10 : hset h9 (Sf ad 230 13) _ = h10 at hm10 ⊢
                          have hf10 : frN ad h9 h10 := e10 ▸ frN.set (Or.inr ⟨by decide, by decide⟩) _
                          refine v_run 1 (pc' := 178) (ls' := [some (.ref (ad 200)), some (.long (zL ↑(tV B n ((i + 1))))), none, some (.int (zI 0)), some (.int (zI ↑k)), some (.int (zI ↑a.2)), some (.int (zI ↑b.2)), some (.int (zI ↑(ζ 5 0)))]) (st' := [.ref (ad 200)]) rfl ?_
                          refine v_get rfl hm10.1 rfl ?_
                          refine v_run 0 (pc' := 181) (ls' := [some (.ref (ad 200)), some (.long (zL ↑(tV B n ((i + 1))))), none, some (.int (zI 0)), some (.int (zI ↑k)), some (.int (zI ↑a.2)), some (.int (zI ↑b.2)), some (.int (zI ↑(ζ 5 0)))]) (st' := [.ref (ad 230)]) rfl ?_
                          refine v_get rfl hm10.2.2.1.1.1 rfl ?_
                          refine v_run 2 (pc' := 188) (ls' := [some (.ref (ad 200)), some (.long (zL ↑(tV B n ((i + 1))))), none, some (.int (zI 0)), some (.int (zI ↑k)), some (.int (zI ↑a.2)), some (.int (zI ↑b.2)), some (.int (zI ↑(ζ 5 0)))]) (st' := [.int (zI ↑k), .int (zI ↑(ζ 5 0)), .ref (Sf ad 230 14)]) rfl ?_
                          refine v_iastore' rfl hm10.2.2.1.1.2.2.2.1 (i := ζ 5 0) rfl (by omega) ?_
                          rw [ar_upd]
                          have hm11 := hm10.r14 hA (ζ 5 0) k
                          generalize e11 : hset h10 (Sf ad 230 14) _ = h11 at hm11 ⊢
                          have hf11 : frN ad h10 h11 := e11 ▸ frN.set (Or.inr ⟨by decide, by decide⟩) _
                          refine v_run 1 (pc' := 190) (ls' := [some (.ref (ad 200)), some (.long (zL ↑(tV B n ((i + 1))))), none, some (.int (zI 0)), some (.int (zI ↑k)), some (.int (zI ↑a.2)), some (.int (zI ↑b.2)), some (.int (zI ↑(ζ 5 0)))]) (st' := [.ref (ad 200)]) rfl ?_
                          refine v_get rfl hm11.1 rfl ?_
                          refine v_run 0 (pc' := 193) (ls' := [some (.ref (ad 200)), some (.long (zL ↑(tV B n ((i + 1))))), none, some (.int (zI 0)), some (.int (zI ↑k)), some (.int (zI ↑a.2)), some (.int (zI ↑b.2)), some (.int (zI ↑(ζ 5 0)))]) (st' := [.ref (ad 230)]) rfl ?_
                          refine v_get rfl hm11.2.2.1.1.1 rfl ?_
                          refine v_run 2 (pc' := 200) (ls' := [some (.ref (ad 200)), some (.long (zL ↑(tV B n ((i + 1))))), none, some (.int (zI 0)), some (.int (zI ↑k)), some (.int (zI ↑a.2)), some (.int (zI ↑b.2)), some (.int (zI ↑(ζ 5 0)))]) (st' := [.int (zI ↑a.2), .int (zI ↑(ζ 5 0)), .ref (Sf ad 230 15)]) rfl ?_
                          refine v_iastore' rfl hm11.2.2.1.1.2.2.2.2.1 (i := ζ 5 0) rfl (by omega) ?_
                          rw [ar_upd]
                          have hm12 := hm11.r15 hA (ζ 5 0) a.2
                          generalize e12 : hset h11 (Sf ad 230 15) _ = h12 at hm12 ⊢
                          have hf12 : frN ad h11 h12 := e12 ▸ frN.set (Or.inr ⟨by decide, by decide⟩) _
                          refine v_run 1 (pc' := 202) (ls' := [some (.ref (ad 200)), some (.long (zL ↑(tV B n ((i + 1))))), none, some (.int (zI 0)), some (.int (zI ↑k)), some (.int (zI ↑a.2)), some (.int (zI ↑b.2)), some (.int (zI ↑(ζ 5 0)))]) (st' := [.ref (ad 200)]) rfl ?_
                          refine v_get rfl hm12.1 rfl ?_
                          refine v_run 0 (pc' := 205) (ls' := [some (.ref (ad 200)), some (.long (zL ↑(tV B n ((i + 1))))), none, some (.int (zI 0)), some (.int (zI ↑k)), some (.int (zI ↑a.2)), some (.int (zI ↑b.2)), some (.int (zI ↑(ζ 5 0)))]) (st' := [.ref (ad 230)]) rfl ?_
                          refine v_get rfl hm12.2.2.1.1.1 rfl ?_
                          refine v_run 2 (pc' := 212) (ls' := [some (.ref (ad 200)), some (.long (zL ↑(tV B n ((i + 1))))), none, some (.int (zI 0)), some (.int (zI ↑k)), some (.int (zI ↑a.2)), some (.int (zI ↑b.2)), some (.int (zI ↑(ζ 5 0)))]) (st' := [.int (zI ↑b.2), .int (zI ↑(ζ 5 0)), .ref (Sf ad 230 16)]) rfl ?_
                          refine v_iastore' rfl hm12.2.2.1.1.2.2.2.2.2.1 (i := ζ 5 0) rfl (by omega) ?_
                          rw [ar_upd]
                          have hm13 := hm12.r16 hA (ζ 5 0) b.2
                          generalize e13 : hset h12 (Sf ad 230 16) _ = h13 at hm13 ⊢
                          have hf13 : frN ad h12 h13 := e13 ▸ frN.set (Or.inr ⟨by decide, by decide⟩) _
                          refine v_run 1 (pc' := 214) (ls' := [some (.ref (ad 200)), some (.long (zL ↑(tV B n ((i + 1))))), none, some (.int (zI 0)), some (.int (zI ↑k)), some (.int (zI ↑a.2)), some (.int (zI ↑b.2)), some (.int (zI ↑(ζ 5 0)))]) (st' := [.ref (ad 200)]) rfl ?_
                          refine v_get rfl hm13.1 rfl ?_
                          refine v_run 1 (pc' := 218) (ls' := [some (.ref (ad 200)), some (.long (zL ↑(tV B n ((i + 1))))), none, some (.int (zI 0)), some (.int (zI ↑k)), some (.int (zI ↑a.2)), some (.int (zI ↑b.2)), some (.int (zI ↑(ζ 5 0)))]) (st' := [.ref (ad 230), .ref (ad 230)]) rfl ?_
                          refine v_get rfl hm13.2.2.1.1.1 rfl ?_
                          refine v_run 2 (pc' := 223) (ls' := [some (.ref (ad 200)), some (.long (zL ↑(tV B n ((i + 1))))), none, some (.int (zI 0)), some (.int (zI ↑k)), some (.int (zI ↑a.2)), some (.int (zI ↑b.2)), some (.int (zI ↑(ζ 5 0)))]) (st' := [.int ((zI ↑(ζ 5 0)) + (zI 1)), .ref (ad 230)]) rfl ?_
                          rw [show (((zI ↑(ζ 5 0)) + (zI 1)) : Int32) = zI ↑(ζ 5 0 + 1) from zI_s1 _]
                          refine v_put rfl hm13.2.2.1.1.1 rfl rfl (Nat.le_of_ble_eq_true rfl) ?_
                          have hm14 := hm13.i hA 5 (ζ 5 0 + 1) (by decide)
                          generalize e14 : hset h13 (ad 230) _ = h14 at hm14 ⊢
                          have hf14 : frN ad h13 h14 := e14 ▸ frN.set (Or.inr ⟨by decide, by decide⟩) _
                          refine v_run 0 (pc' := 226) (ls' := [some (.ref (ad 200)), some (.long (zL ↑(tV B n ((i + 1))))), none, some (.int (zI 0)), some (.int (zI ↑k)), some (.int (zI ↑a.2)), some (.int (zI ↑b.2)), some (.int (zI ↑(ζ 5 0)))]) (st' := []) rfl ?_
                          rw [show lq B n ζ i (lSen B n ζ i) = .inr (b.1, (zU (zU (zU (zU (zU (zNm ζ (tV B n (i + 1)) 1 (ζ 5 0)) 13 (ζ 5 0) 0) 14 (ζ 5 0) k) 15 (ζ 5 0) a.2) 16 (ζ 5 0) b.2) 5 0 (ζ 5 0 + 1))) from by simp only [lq, if_neg hq0, lSen, if_neg hcap, hr2, pKind, if_pos (show 19 ≤ tK B n (i + 1 + 1) by show 19 ≤ tK B n (i + 2); omega), show tK B n (i + 1 + 1) - 19 = 0 from by show tK B n (i + 2) - 19 = 0; omega, hr4, hr5, if_neg hnh, hr7, hr8, sb]]; exact v_vret rfl rfl ⟨rfl, m9, hm14, ((((((((hk1.tr hk2).tr hk3).tr hk4).tr hk5).tr hk6).tr hk7).tr hk8).tr hk9), (((((((((((((hf1.tr hf2).tr hf3).tr hf4).tr hf5).tr hf6).tr hf7).tr hf8).tr hf9).tr hf10).tr hf11).tr hf12).tr hf13).tr hf14)⟩
                        · exact absurd (hm8.2.2.2.2.2.1 ▸ c145) (m9_ne b.1)
                  · rw [zb_n, Bool.not_eq_false] at c103
                    refine v_run 2 (pc' := 109) (ls' := [some (.ref (ad 200)), some (.long (zL ↑(tV B n ((i + 1))))), none, some (.int (zI 0)), some (.int (zI ↑k)), none, none, none]) (st' := [.int (zI 7), .ref (ad 200)]) rfl ?_
                    refine v_callV (My := mX10_flaw) (As := [.int (zI 7)]) (rest := []) (mc := 0) (ms := 0) rfl caX10_flaw rfl rfl rfl hm5.1 rfl rfl (g_flaw G _ (f := 7) hA hB hn hm5) rfl rfl (Nat.le_of_ble_eq_true rfl) (by omega) ?_
                    rintro _ h6 ⟨rfl, m6, hm6, hk6, hf6⟩
                    refine v_run 0 (pc' := 112) (ls' := [some (.ref (ad 200)), some (.long (zL ↑(tV B n ((i + 1))))), none, some (.int (zI 0)), some (.int (zI ↑k)), none, none, none]) (st' := []) rfl ?_
                    have hm6 : MRd h6 ad sv m6 B n ζ (.inl (7, tP B n (i + 4))) := hm6
                    refine v_run 1 (pc' := 113) (ls' := [some (.ref (ad 200)), some (.long (zL ↑(tV B n ((i + 1))))), none, some (.int (zI 0)), some (.int (zI ↑k)), none, none, none]) (st' := [.ref (ad 200)]) rfl ?_
                    refine v_callV (My := mX10_goesOn) (As := []) (rest := []) (mc := 0) (ms := 0) rfl caX10_goesOn rfl rfl rfl hm6.1 rfl rfl (g_on G _ hA hB hn hm6) rfl rfl (Nat.le_of_ble_eq_true rfl) (by omega) ?_
                    rintro _ h7 ⟨rfl, m7, hm7, hk7, hf7⟩
                    refine v_run 0 (pc' := 116) (ls' := [some (.ref (ad 200)), some (.long (zL ↑(tV B n ((i + 1))))), none, some (.int (zI 0)), some (.int (zI ↑k)), none, none, none]) (st' := []) rfl ?_
                    have hm7 : MRd h7 ad sv m7 B n ζ (.inl (7, tP B n (i + 4))) := hm7
                    refine v_run 1 (pc' := 117) (ls' := [some (.ref (ad 200)), some (.long (zL ↑(tV B n ((i + 1))))), none, some (.int (zI 0)), some (.int (zI ↑k)), none, none, none]) (st' := [.ref (ad 200)]) rfl ?_
                    refine v_ldcSw v_ldcw_in.1 rfl ?_
                    refine v_run 2 (pc' := 123) (ls' := [some (.ref (ad 200)), some (.long (zL ↑(tV B n ((i + 1))))), none, some (.int (zI 0)), some (.int (zI ↑k)), none, none, none]) (st' := [.int (zI 99), .int (zI 1), .ref (gK G 15), .ref (ad 200)]) rfl ?_
                    refine v_callV (My := mX10_readPart) (As := [.ref (gK G 15), .int (zI 1), .int (zI 99)]) (rest := []) (mc := 0) (ms := 0) rfl caX10_readPart rfl rfl rfl hm7.1 rfl rfl (g_part G _ (q := 16) (lo := 1) (hi := 99) hA hB hn hm7 (by decide) (by decide) (by decide)) rfl rfl (Nat.le_of_ble_eq_true rfl) (by omega) ?_
                    rintro _ h8 ⟨rfl, m8, hm8, hk8, hf8⟩
                    refine v_run 0 (pc' := 126) (ls' := [some (.ref (ad 200)), some (.long (zL ↑(tV B n ((i + 1))))), none, some (.int (zI 0)), some (.int (zI ↑k)), none, none, none]) (st' := [.int (zI ↑(vP (sb (.inl (7, tP B n (i + 4))) (fun i => pNum B n 16 1 99 i)) 1))]) rfl ?_
                    have hm8 : MRd h8 ad sv m8 B n ζ (.inl (7, tP B n (i + 4))) := hm8
                    refine v_run 2 (pc' := 129) (ls' := [some (.ref (ad 200)), some (.long (zL ↑(tV B n ((i + 1))))), none, some (.int (zI 0)), some (.int (zI ↑k)), some (.int (zI ↑(vP (sb (.inl (7, tP B n (i + 4))) (fun i => pNum B n 16 1 99 i)) 1))), none, none]) (st' := [.ref (ad 200)]) rfl ?_
                    refine v_ldcSw v_ldcw_in.2.1 rfl ?_
                    refine v_run 2 (pc' := 135) (ls' := [some (.ref (ad 200)), some (.long (zL ↑(tV B n ((i + 1))))), none, some (.int (zI 0)), some (.int (zI ↑k)), some (.int (zI ↑(vP (sb (.inl (7, tP B n (i + 4))) (fun i => pNum B n 16 1 99 i)) 1))), none, none]) (st' := [.int (zI 9), .int (zI 0), .ref (gK G 16), .ref (ad 200)]) rfl ?_
                    refine v_callV (My := mX10_readPart) (As := [.ref (gK G 16), .int (zI 0), .int (zI 9)]) (rest := []) (mc := 0) (ms := 0) rfl caX10_readPart rfl rfl rfl hm8.1 rfl rfl (g_part G _ (q := 17) (lo := 0) (hi := 9) hA hB hn hm8 (by decide) (by decide) (by decide)) rfl rfl (Nat.le_of_ble_eq_true rfl) (by omega) ?_
                    rintro _ h9 ⟨rfl, m9, hm9, hk9, hf9⟩
                    refine v_run 0 (pc' := 138) (ls' := [some (.ref (ad 200)), some (.long (zL ↑(tV B n ((i + 1))))), none, some (.int (zI 0)), some (.int (zI ↑k)), some (.int (zI ↑(vP (sb (.inl (7, tP B n (i + 4))) (fun i => pNum B n 16 1 99 i)) 1))), none, none]) (st' := [.int (zI ↑(vP (sb (.inl (7, tP B n (i + 4))) (fun i => pNum B n 17 0 9 i)) 0))]) rfl ?_
                    have hm9 : MRd h9 ad sv m9 B n ζ (.inl (7, tP B n (i + 4))) := hm9
                    refine v_run 2 (pc' := 141) (ls' := [some (.ref (ad 200)), some (.long (zL ↑(tV B n ((i + 1))))), none, some (.int (zI 0)), some (.int (zI ↑k)), some (.int (zI ↑(vP (sb (.inl (7, tP B n (i + 4))) (fun i => pNum B n 16 1 99 i)) 1))), some (.int (zI ↑(vP (sb (.inl (7, tP B n (i + 4))) (fun i => pNum B n 17 0 9 i)) 0))), none]) (st' := [.ref (ad 200)]) rfl ?_
                    refine v_get rfl hm9.1 rfl ?_
                    refine v_run 1 (pc' := 145) (ls' := [some (.ref (ad 200)), some (.long (zL ↑(tV B n ((i + 1))))), none, some (.int (zI 0)), some (.int (zI ↑k)), some (.int (zI ↑(vP (sb (.inl (7, tP B n (i + 4))) (fun i => pNum B n 16 1 99 i)) 1))), some (.int (zI ↑(vP (sb (.inl (7, tP B n (i + 4))) (fun i => pNum B n 17 0 9 i)) 0))), none]) (st' := [.int (zI 5), .int (zI (m9 9))]) rfl ?_
                    refine v_icmp_ne rfl (fun c145 => ?_) (fun c145 => ?_)
                    · exact absurd (by rw [hm9.2.2.2.2.1]) c145
                    · rw [show lq B n ζ i (lSen B n ζ i) = .inl (7, tP B n (i + 4)) from by simp only [lq, if_neg hq0, lSen, if_neg hcap, hr2, pKind, if_pos (show 19 ≤ tK B n (i + 1 + 1) by show 19 ≤ tK B n (i + 2); omega), show tK B n (i + 1 + 1) - 19 = 0 from by show tK B n (i + 2) - 19 = 0; omega, hr4, hr5, if_pos c103, sb]]; exact v_vret rfl rfl ⟨rfl, m9, hm9, ((((((((hk1.tr hk2).tr hk3).tr hk4).tr hk5).tr hk6).tr hk7).tr hk8).tr hk9), ((((((((hf1.tr hf2).tr hf3).tr hf4).tr hf5).tr hf6).tr hf7).tr hf8).tr hf9)⟩
          · exact absurd c61 (by decide)

