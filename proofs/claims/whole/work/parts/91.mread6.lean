def zOf (ζ : zT) : pR (Nat × zT) → zT
  | .inl _ => ζ
  | .inr q => q.2
def uOf : pR (Nat × zT) → pR Nat
  | .inl e => .inl e
  | .inr q => .inr q.1
def GL (ad : Nat → Nat) (sv : Value) (m : Nat → Int) (B : Nat → Int) (n : Nat) (ζ : zT) (r : pR (Nat × zT)) (h : ssH) : Option Value → ssH → Prop := fun a h' => a = none ∧ ∃ m', MRd h' ad sv m' B n (zOf ζ r) (uOf r) ∧ mKp m m' ∧ frN ad h h'
def lq (B : Nat → Int) (n : Nat) (ζ : zT) (i : Nat) (r : pR (Nat × zT)) : pR (Nat × zT) := if ζ 0 0 = 0 then .inl (6, tP B n i) else r
section LDW
variable {G : ssG} {M : ssM} {D mc ms : Nat} {Q : Option Value → ssH → Prop} {pc : Nat} {ls : List (Option Value)} {st : List Value} {h : ssH} {v0 : Value} {r0 : List Nat} {i j : Nat}
theorem v_ldcSw (hm : ((ssY M).cls, i, j) ∈ ssSR) (hl : ssLk M pc = some (.ldc_w i, 3, r0, v0)) (kk : ssV G M D mc ms Q (pc + 3) ls (.ref (gK G j) :: st) h) : ssV G M D mc ms Q pc ls st h := by
  intro p e s m args below meth c R H locs cells slots MC MS la hC hR hW hS hL
  have hok := hC.2.2.2.2.2.2.2.2.2.2.2
  have hX := hC.2.2.2.2.2.2.2.2.2.1
  have kk' := kk p e s m args below meth c R H locs cells slots MC MS la hC hR hW hS hL
  have hZ := hX.2.1 _ hm
  have hd := (ssLk_ok hok hl).1
  intro T hT X
  obtain ⟨t, a1, b1⟩ := kk' T hT X
  exact ⟨t, X.ldcStringW hC.1 hC.2.2.2.2.1 (text := ssTx.getD j "") (a := gK G j) hZ.1 hZ.2 (g := F0 m pc la st) rfl (by rw [hC.2.1]; exact hd) t a1, b1⟩
end LDW
theorem v_ldcw_in : ("SafeSenateModel", 256, 15) ∈ ssSR ∧ ("SafeSenateModel", 258, 16) ∈ ssSR ∧ ("SafeSenateModel", 272, 17) ∈ ssSR := by decide
theorem pTold_z {B : Nat → Int} {n s i k : Nat} {ζ : zT} (hz : zOk ζ) (h : pTold B n ζ s i = .inr k) : k < 6 ∧ (s = 0 → k < ζ 4 0) ∧ (s = 1 → k < ζ 5 0) ∧ (s = 2 → k < ζ 6 0) := pTold_lt (E := (0, 0, n, B, fun _ => 0, fun _ => 0, fun _ => 0, fun _ => 0)) hz h
theorem pNew_j {B : Nat → Int} {n i j : Nat} {ζ : zT} (h : pNew B n ζ i = .inr j) : j = i + 1 := (pNew_b (E := (0, 0, n, B, fun _ => 0, fun _ => 0, fun _ => 0, fun _ => 0)) h).1
set_option maxRecDepth 100000 in
set_option maxHeartbeats 400000 in
theorem g_lSafe (G : ssG) (h : ssH) {ad : Nat → Nat} {sv : Value} {m : Nat → Int} {B : Nat → Int} {n : Nat} {ζ : zT} {i : Nat}  (hA : ∀ k l, ad k = ad l → k = l) (hB : ∀ k, -128 ≤ B k ∧ B k ≤ 127) (hn : n ≤ 900) (hm : MRd h ad sv m B n ζ (.inr i)) (hzo : zOk ζ)  : ssC G mX10_readSafe 8 0 0 [.ref (ad 200)] h (GL ad sv m B n ζ (lSafe B n ζ i) h) := by
  refine c_of_v okX10_readSafe (by decide +kernel) (ls := [some (.ref (ad 200)), none, none, none, none]) rfl (Nat.le_of_ble_eq_true rfl) ?_
  obtain ⟨⟨z0, z1, z2, z3, z4, z5, z6, z7, z8, z9, z11⟩, ⟨r12, r13, r14, r15, r16, r17, r18, r19, r20⟩, ⟨n1, n2, n3, n4⟩, zd, ze⟩ := id hzo
  have h11 : ζ 11 0 ≤ 17 := by omega
  refine v_run 1 (pc' := 1) (ls' := [some (.ref (ad 200)), none, none, none, none]) (st' := [.ref (ad 200)]) rfl ?_
  refine v_get rfl hm.1 rfl ?_
  refine v_run 0 (pc' := 4) (ls' := [some (.ref (ad 200)), none, none, none, none]) (st' := [.ref (ad 230)]) rfl ?_
  refine v_get rfl hm.2.2.1.1.1 rfl ?_
  refine v_run 0 (pc' := 7) (ls' := [some (.ref (ad 200)), none, none, none, none]) (st' := [.int (zI ↑(ζ 0 0))]) rfl ?_
  refine v_if_le rfl (fun c7 => ?_) (fun c7 => ?_)
  · simp (disch := omega) only [zI_lt, zI_le, zI_eq, zI_lt0, zI_le0, zI_0lt, zI_0le, zI_eq0] at c7
    refine v_run 1 (pc' := 16) (ls' := [some (.ref (ad 200)), none, none, none, none]) (st' := [.ref (ad 200)]) rfl ?_
    refine v_callV (My := mX10_goesOn) (As := []) (rest := []) (mc := 0) (ms := 0) rfl caX10_goesOn rfl rfl rfl hm.1 rfl rfl (g_on G _ hA hB hn hm) rfl rfl (Nat.le_of_ble_eq_true rfl) (by omega) ?_
    rintro _ h1 ⟨rfl, m1, hm1, hk1, hf1⟩
    refine v_run 0 (pc' := 19) (ls' := [some (.ref (ad 200)), none, none, none, none]) (st' := []) rfl ?_
    have hm1 : MRd h1 ad sv m1 B n ζ (.inr (i + 1)) := hm1
    refine v_run 1 (pc' := 20) (ls' := [some (.ref (ad 200)), none, none, none, none]) (st' := [.ref (ad 200)]) rfl ?_
    refine v_ldcS rfl ?_
    refine v_run 2 (pc' := 25) (ls' := [some (.ref (ad 200)), none, none, none, none]) (st' := [.int (zI 6), .int (zI 1), .ref (gK G 9), .ref (ad 200)]) rfl ?_
    refine v_callV (My := mX10_readPart) (As := [.ref (gK G 9), .int (zI 1), .int (zI 6)]) (rest := []) (mc := 0) (ms := 0) rfl caX10_readPart rfl rfl rfl hm1.1 rfl rfl (g_part G _ (q := 10) (lo := 1) (hi := 6) hA hB hn hm1 (by decide) (by decide) (by decide)) rfl rfl (Nat.le_of_ble_eq_true rfl) (by omega) ?_
    rintro _ h2 ⟨rfl, m2, hm2, hk2, hf2⟩
    refine v_run 0 (pc' := 28) (ls' := [some (.ref (ad 200)), none, none, none, none]) (st' := [.int (zI ↑(vP (sb (.inr (i + 1)) (fun i => pNum B n 10 1 6 i)) 1))]) rfl ?_
    rcases hr2 : pNum B n 10 1 6 (i + 1) with e | a
    · rw [show vP (sb (.inr (i + 1)) (fun i => pNum B n 10 1 6 i)) 1 = 1 from by show vP (pNum B n 10 1 6 (i + 1)) 1 = _; rw [hr2]; rfl]
      have hm2 : MRd h2 ad sv m2 B n ζ (.inl e) := by have hh := hm2; rw [show sb (.inr (i + 1)) (fun i => sb (pNum B n 10 1 6 i) (fun a => .inr a.1)) = (.inl e : pR Nat) from by show sb (pNum B n 10 1 6 (i + 1)) _ = _; rw [hr2]; rfl] at hh; exact hh
      have hm2 : MRd h2 ad sv m2 B n ζ (.inl e) := hm2
      refine v_run 2 (pc' := 30) (ls' := [some (.ref (ad 200)), some (.int (zI ↑((1 : Nat)))), none, none, none]) (st' := [.ref (ad 200)]) rfl ?_
      refine v_ldcS rfl ?_
      refine v_run 2 (pc' := 35) (ls' := [some (.ref (ad 200)), some (.int (zI ↑((1 : Nat)))), none, none, none]) (st' := [.int (zI 9), .int (zI 1), .ref (gK G 10), .ref (ad 200)]) rfl ?_
      refine v_callV (My := mX10_readPart) (As := [.ref (gK G 10), .int (zI 1), .int (zI 9)]) (rest := []) (mc := 0) (ms := 0) rfl caX10_readPart rfl rfl rfl hm2.1 rfl rfl (g_part G _ (q := 11) (lo := 1) (hi := 9) hA hB hn hm2 (by decide) (by decide) (by decide)) rfl rfl (Nat.le_of_ble_eq_true rfl) (by omega) ?_
      rintro _ h3 ⟨rfl, m3, hm3, hk3, hf3⟩
      refine v_run 0 (pc' := 38) (ls' := [some (.ref (ad 200)), some (.int (zI ↑((1 : Nat)))), none, none, none]) (st' := [.int (zI ↑(vP (sb (.inl e) (fun i => pNum B n 11 1 9 i)) 1))]) rfl ?_
      have hm3 : MRd h3 ad sv m3 B n ζ (.inl e) := hm3
      refine v_run 2 (pc' := 40) (ls' := [some (.ref (ad 200)), some (.int (zI ↑((1 : Nat)))), some (.int (zI ↑(vP (sb (.inl e) (fun i => pNum B n 11 1 9 i)) 1))), none, none]) (st' := [.ref (ad 200)]) rfl ?_
      refine v_ldcS rfl ?_
      refine v_run 2 (pc' := 45) (ls' := [some (.ref (ad 200)), some (.int (zI ↑((1 : Nat)))), some (.int (zI ↑(vP (sb (.inl e) (fun i => pNum B n 11 1 9 i)) 1))), none, none]) (st' := [.int (zI 100), .int (zI 0), .ref (gK G 11), .ref (ad 200)]) rfl ?_
      refine v_callV (My := mX10_readPart) (As := [.ref (gK G 11), .int (zI 0), .int (zI 100)]) (rest := []) (mc := 0) (ms := 0) rfl caX10_readPart rfl rfl rfl hm3.1 rfl rfl (g_part G _ (q := 12) (lo := 0) (hi := 100) hA hB hn hm3 (by decide) (by decide) (by decide)) rfl rfl (Nat.le_of_ble_eq_true rfl) (by omega) ?_
      rintro _ h4 ⟨rfl, m4, hm4, hk4, hf4⟩
      refine v_run 0 (pc' := 48) (ls' := [some (.ref (ad 200)), some (.int (zI ↑((1 : Nat)))), some (.int (zI ↑(vP (sb (.inl e) (fun i => pNum B n 11 1 9 i)) 1))), none, none]) (st' := [.int (zI ↑(vP (sb (.inl e) (fun i => pNum B n 12 0 100 i)) 0))]) rfl ?_
      have hm4 : MRd h4 ad sv m4 B n ζ (.inl e) := hm4
      refine v_run 2 (pc' := 50) (ls' := [some (.ref (ad 200)), some (.int (zI ↑((1 : Nat)))), some (.int (zI ↑(vP (sb (.inl e) (fun i => pNum B n 11 1 9 i)) 1))), some (.int (zI ↑(vP (sb (.inl e) (fun i => pNum B n 12 0 100 i)) 0))), none]) (st' := [.ref (ad 200)]) rfl ?_
      refine v_ldcS rfl ?_
      refine v_run 2 (pc' := 55) (ls' := [some (.ref (ad 200)), some (.int (zI ↑((1 : Nat)))), some (.int (zI ↑(vP (sb (.inl e) (fun i => pNum B n 11 1 9 i)) 1))), some (.int (zI ↑(vP (sb (.inl e) (fun i => pNum B n 12 0 100 i)) 0))), none]) (st' := [.int (zI 9), .int (zI 0), .ref (gK G 12), .ref (ad 200)]) rfl ?_
      refine v_callV (My := mX10_readPart) (As := [.ref (gK G 12), .int (zI 0), .int (zI 9)]) (rest := []) (mc := 0) (ms := 0) rfl caX10_readPart rfl rfl rfl hm4.1 rfl rfl (g_part G _ (q := 13) (lo := 0) (hi := 9) hA hB hn hm4 (by decide) (by decide) (by decide)) rfl rfl (Nat.le_of_ble_eq_true rfl) (by omega) ?_
      rintro _ h5 ⟨rfl, m5, hm5, hk5, hf5⟩
      refine v_run 0 (pc' := 58) (ls' := [some (.ref (ad 200)), some (.int (zI ↑((1 : Nat)))), some (.int (zI ↑(vP (sb (.inl e) (fun i => pNum B n 11 1 9 i)) 1))), some (.int (zI ↑(vP (sb (.inl e) (fun i => pNum B n 12 0 100 i)) 0))), none]) (st' := [.int (zI ↑(vP (sb (.inl e) (fun i => pNum B n 13 0 9 i)) 0))]) rfl ?_
      have hm5 : MRd h5 ad sv m5 B n ζ (.inl e) := hm5
      refine v_run 2 (pc' := 61) (ls' := [some (.ref (ad 200)), some (.int (zI ↑((1 : Nat)))), some (.int (zI ↑(vP (sb (.inl e) (fun i => pNum B n 11 1 9 i)) 1))), some (.int (zI ↑(vP (sb (.inl e) (fun i => pNum B n 12 0 100 i)) 0))), some (.int (zI ↑(vP (sb (.inl e) (fun i => pNum B n 13 0 9 i)) 0)))]) (st' := [.ref (ad 200)]) rfl ?_
      refine v_get rfl hm5.1 rfl ?_
      refine v_run 1 (pc' := 65) (ls' := [some (.ref (ad 200)), some (.int (zI ↑((1 : Nat)))), some (.int (zI ↑(vP (sb (.inl e) (fun i => pNum B n 11 1 9 i)) 1))), some (.int (zI ↑(vP (sb (.inl e) (fun i => pNum B n 12 0 100 i)) 0))), some (.int (zI ↑(vP (sb (.inl e) (fun i => pNum B n 13 0 9 i)) 0)))]) (st' := [.int (zI 5), .int (zI (m5 9))]) rfl ?_
      refine v_icmp_ne rfl (fun c65 => ?_) (fun c65 => ?_)
      · exact absurd (by rw [hm5.2.2.2.2.1]) c65
      · rw [show lSafe B n ζ i = .inl e from by simp only [lSafe, if_neg (show ¬ 0 < ζ 0 0 by omega), hr2, sb]]; exact v_vret rfl rfl ⟨rfl, m5, hm5, ((((hk1.tr hk2).tr hk3).tr hk4).tr hk5), ((((hf1.tr hf2).tr hf3).tr hf4).tr hf5)⟩
    · rw [show vP (sb (.inr (i + 1)) (fun i => pNum B n 10 1 6 i)) 1 = a.2 from by show vP (pNum B n 10 1 6 (i + 1)) 1 = _; rw [hr2]; rfl]
      have hb2 := pNum_b hr2
      have hm2 : MRd h2 ad sv m2 B n ζ (.inr a.1) := by have hh := hm2; rw [show sb (.inr (i + 1)) (fun i => sb (pNum B n 10 1 6 i) (fun a => .inr a.1)) = (.inr a.1 : pR Nat) from by show sb (pNum B n 10 1 6 (i + 1)) _ = _; rw [hr2]; rfl] at hh; exact hh
      refine v_run 2 (pc' := 30) (ls' := [some (.ref (ad 200)), some (.int (zI ↑a.2)), none, none, none]) (st' := [.ref (ad 200)]) rfl ?_
      refine v_ldcS rfl ?_
      refine v_run 2 (pc' := 35) (ls' := [some (.ref (ad 200)), some (.int (zI ↑a.2)), none, none, none]) (st' := [.int (zI 9), .int (zI 1), .ref (gK G 10), .ref (ad 200)]) rfl ?_
      refine v_callV (My := mX10_readPart) (As := [.ref (gK G 10), .int (zI 1), .int (zI 9)]) (rest := []) (mc := 0) (ms := 0) rfl caX10_readPart rfl rfl rfl hm2.1 rfl rfl (g_part G _ (q := 11) (lo := 1) (hi := 9) hA hB hn hm2 (by decide) (by decide) (by decide)) rfl rfl (Nat.le_of_ble_eq_true rfl) (by omega) ?_
      rintro _ h3 ⟨rfl, m3, hm3, hk3, hf3⟩
      refine v_run 0 (pc' := 38) (ls' := [some (.ref (ad 200)), some (.int (zI ↑a.2)), none, none, none]) (st' := [.int (zI ↑(vP (sb (.inr a.1) (fun i => pNum B n 11 1 9 i)) 1))]) rfl ?_
      rcases hr3 : pNum B n 11 1 9 a.1 with e | b
      · rw [show vP (sb (.inr a.1) (fun i => pNum B n 11 1 9 i)) 1 = 1 from by show vP (pNum B n 11 1 9 a.1) 1 = _; rw [hr3]; rfl]
        have hm3 : MRd h3 ad sv m3 B n ζ (.inl e) := by have hh := hm3; rw [show sb (.inr a.1) (fun i => sb (pNum B n 11 1 9 i) (fun a => .inr a.1)) = (.inl e : pR Nat) from by show sb (pNum B n 11 1 9 a.1) _ = _; rw [hr3]; rfl] at hh; exact hh
        have hm3 : MRd h3 ad sv m3 B n ζ (.inl e) := hm3
        refine v_run 2 (pc' := 40) (ls' := [some (.ref (ad 200)), some (.int (zI ↑a.2)), some (.int (zI ↑((1 : Nat)))), none, none]) (st' := [.ref (ad 200)]) rfl ?_
        refine v_ldcS rfl ?_
        refine v_run 2 (pc' := 45) (ls' := [some (.ref (ad 200)), some (.int (zI ↑a.2)), some (.int (zI ↑((1 : Nat)))), none, none]) (st' := [.int (zI 100), .int (zI 0), .ref (gK G 11), .ref (ad 200)]) rfl ?_
        refine v_callV (My := mX10_readPart) (As := [.ref (gK G 11), .int (zI 0), .int (zI 100)]) (rest := []) (mc := 0) (ms := 0) rfl caX10_readPart rfl rfl rfl hm3.1 rfl rfl (g_part G _ (q := 12) (lo := 0) (hi := 100) hA hB hn hm3 (by decide) (by decide) (by decide)) rfl rfl (Nat.le_of_ble_eq_true rfl) (by omega) ?_
        rintro _ h4 ⟨rfl, m4, hm4, hk4, hf4⟩
        refine v_run 0 (pc' := 48) (ls' := [some (.ref (ad 200)), some (.int (zI ↑a.2)), some (.int (zI ↑((1 : Nat)))), none, none]) (st' := [.int (zI ↑(vP (sb (.inl e) (fun i => pNum B n 12 0 100 i)) 0))]) rfl ?_
        have hm4 : MRd h4 ad sv m4 B n ζ (.inl e) := hm4
        refine v_run 2 (pc' := 50) (ls' := [some (.ref (ad 200)), some (.int (zI ↑a.2)), some (.int (zI ↑((1 : Nat)))), some (.int (zI ↑(vP (sb (.inl e) (fun i => pNum B n 12 0 100 i)) 0))), none]) (st' := [.ref (ad 200)]) rfl ?_
        refine v_ldcS rfl ?_
        refine v_run 2 (pc' := 55) (ls' := [some (.ref (ad 200)), some (.int (zI ↑a.2)), some (.int (zI ↑((1 : Nat)))), some (.int (zI ↑(vP (sb (.inl e) (fun i => pNum B n 12 0 100 i)) 0))), none]) (st' := [.int (zI 9), .int (zI 0), .ref (gK G 12), .ref (ad 200)]) rfl ?_
        refine v_callV (My := mX10_readPart) (As := [.ref (gK G 12), .int (zI 0), .int (zI 9)]) (rest := []) (mc := 0) (ms := 0) rfl caX10_readPart rfl rfl rfl hm4.1 rfl rfl (g_part G _ (q := 13) (lo := 0) (hi := 9) hA hB hn hm4 (by decide) (by decide) (by decide)) rfl rfl (Nat.le_of_ble_eq_true rfl) (by omega) ?_
        rintro _ h5 ⟨rfl, m5, hm5, hk5, hf5⟩
        refine v_run 0 (pc' := 58) (ls' := [some (.ref (ad 200)), some (.int (zI ↑a.2)), some (.int (zI ↑((1 : Nat)))), some (.int (zI ↑(vP (sb (.inl e) (fun i => pNum B n 12 0 100 i)) 0))), none]) (st' := [.int (zI ↑(vP (sb (.inl e) (fun i => pNum B n 13 0 9 i)) 0))]) rfl ?_
        have hm5 : MRd h5 ad sv m5 B n ζ (.inl e) := hm5
        refine v_run 2 (pc' := 61) (ls' := [some (.ref (ad 200)), some (.int (zI ↑a.2)), some (.int (zI ↑((1 : Nat)))), some (.int (zI ↑(vP (sb (.inl e) (fun i => pNum B n 12 0 100 i)) 0))), some (.int (zI ↑(vP (sb (.inl e) (fun i => pNum B n 13 0 9 i)) 0)))]) (st' := [.ref (ad 200)]) rfl ?_
        refine v_get rfl hm5.1 rfl ?_
        refine v_run 1 (pc' := 65) (ls' := [some (.ref (ad 200)), some (.int (zI ↑a.2)), some (.int (zI ↑((1 : Nat)))), some (.int (zI ↑(vP (sb (.inl e) (fun i => pNum B n 12 0 100 i)) 0))), some (.int (zI ↑(vP (sb (.inl e) (fun i => pNum B n 13 0 9 i)) 0)))]) (st' := [.int (zI 5), .int (zI (m5 9))]) rfl ?_
        refine v_icmp_ne rfl (fun c65 => ?_) (fun c65 => ?_)
        · exact absurd (by rw [hm5.2.2.2.2.1]) c65
        · rw [show lSafe B n ζ i = .inl e from by simp only [lSafe, if_neg (show ¬ 0 < ζ 0 0 by omega), hr2, hr3, sb]]; exact v_vret rfl rfl ⟨rfl, m5, hm5, ((((hk1.tr hk2).tr hk3).tr hk4).tr hk5), ((((hf1.tr hf2).tr hf3).tr hf4).tr hf5)⟩
      · rw [show vP (sb (.inr a.1) (fun i => pNum B n 11 1 9 i)) 1 = b.2 from by show vP (pNum B n 11 1 9 a.1) 1 = _; rw [hr3]; rfl]
        have hb3 := pNum_b hr3
        have hm3 : MRd h3 ad sv m3 B n ζ (.inr b.1) := by have hh := hm3; rw [show sb (.inr a.1) (fun i => sb (pNum B n 11 1 9 i) (fun a => .inr a.1)) = (.inr b.1 : pR Nat) from by show sb (pNum B n 11 1 9 a.1) _ = _; rw [hr3]; rfl] at hh; exact hh
        refine v_run 2 (pc' := 40) (ls' := [some (.ref (ad 200)), some (.int (zI ↑a.2)), some (.int (zI ↑b.2)), none, none]) (st' := [.ref (ad 200)]) rfl ?_
        refine v_ldcS rfl ?_
        refine v_run 2 (pc' := 45) (ls' := [some (.ref (ad 200)), some (.int (zI ↑a.2)), some (.int (zI ↑b.2)), none, none]) (st' := [.int (zI 100), .int (zI 0), .ref (gK G 11), .ref (ad 200)]) rfl ?_
        refine v_callV (My := mX10_readPart) (As := [.ref (gK G 11), .int (zI 0), .int (zI 100)]) (rest := []) (mc := 0) (ms := 0) rfl caX10_readPart rfl rfl rfl hm3.1 rfl rfl (g_part G _ (q := 12) (lo := 0) (hi := 100) hA hB hn hm3 (by decide) (by decide) (by decide)) rfl rfl (Nat.le_of_ble_eq_true rfl) (by omega) ?_
        rintro _ h4 ⟨rfl, m4, hm4, hk4, hf4⟩
        refine v_run 0 (pc' := 48) (ls' := [some (.ref (ad 200)), some (.int (zI ↑a.2)), some (.int (zI ↑b.2)), none, none]) (st' := [.int (zI ↑(vP (sb (.inr b.1) (fun i => pNum B n 12 0 100 i)) 0))]) rfl ?_
        rcases hr4 : pNum B n 12 0 100 b.1 with e | c
        · rw [show vP (sb (.inr b.1) (fun i => pNum B n 12 0 100 i)) 0 = 0 from by show vP (pNum B n 12 0 100 b.1) 0 = _; rw [hr4]; rfl]
          have hm4 : MRd h4 ad sv m4 B n ζ (.inl e) := by have hh := hm4; rw [show sb (.inr b.1) (fun i => sb (pNum B n 12 0 100 i) (fun a => .inr a.1)) = (.inl e : pR Nat) from by show sb (pNum B n 12 0 100 b.1) _ = _; rw [hr4]; rfl] at hh; exact hh
          have hm4 : MRd h4 ad sv m4 B n ζ (.inl e) := hm4
          refine v_run 2 (pc' := 50) (ls' := [some (.ref (ad 200)), some (.int (zI ↑a.2)), some (.int (zI ↑b.2)), some (.int (zI ↑((0 : Nat)))), none]) (st' := [.ref (ad 200)]) rfl ?_
          refine v_ldcS rfl ?_
          refine v_run 2 (pc' := 55) (ls' := [some (.ref (ad 200)), some (.int (zI ↑a.2)), some (.int (zI ↑b.2)), some (.int (zI ↑((0 : Nat)))), none]) (st' := [.int (zI 9), .int (zI 0), .ref (gK G 12), .ref (ad 200)]) rfl ?_
          refine v_callV (My := mX10_readPart) (As := [.ref (gK G 12), .int (zI 0), .int (zI 9)]) (rest := []) (mc := 0) (ms := 0) rfl caX10_readPart rfl rfl rfl hm4.1 rfl rfl (g_part G _ (q := 13) (lo := 0) (hi := 9) hA hB hn hm4 (by decide) (by decide) (by decide)) rfl rfl (Nat.le_of_ble_eq_true rfl) (by omega) ?_
          rintro _ h5 ⟨rfl, m5, hm5, hk5, hf5⟩
          refine v_run 0 (pc' := 58) (ls' := [some (.ref (ad 200)), some (.int (zI ↑a.2)), some (.int (zI ↑b.2)), some (.int (zI ↑((0 : Nat)))), none]) (st' := [.int (zI ↑(vP (sb (.inl e) (fun i => pNum B n 13 0 9 i)) 0))]) rfl ?_
          have hm5 : MRd h5 ad sv m5 B n ζ (.inl e) := hm5
          refine v_run 2 (pc' := 61) (ls' := [some (.ref (ad 200)), some (.int (zI ↑a.2)), some (.int (zI ↑b.2)), some (.int (zI ↑((0 : Nat)))), some (.int (zI ↑(vP (sb (.inl e) (fun i => pNum B n 13 0 9 i)) 0)))]) (st' := [.ref (ad 200)]) rfl ?_
          refine v_get rfl hm5.1 rfl ?_
          refine v_run 1 (pc' := 65) (ls' := [some (.ref (ad 200)), some (.int (zI ↑a.2)), some (.int (zI ↑b.2)), some (.int (zI ↑((0 : Nat)))), some (.int (zI ↑(vP (sb (.inl e) (fun i => pNum B n 13 0 9 i)) 0)))]) (st' := [.int (zI 5), .int (zI (m5 9))]) rfl ?_
          refine v_icmp_ne rfl (fun c65 => ?_) (fun c65 => ?_)
          · exact absurd (by rw [hm5.2.2.2.2.1]) c65
          · rw [show lSafe B n ζ i = .inl e from by simp only [lSafe, if_neg (show ¬ 0 < ζ 0 0 by omega), hr2, hr3, hr4, sb]]; exact v_vret rfl rfl ⟨rfl, m5, hm5, ((((hk1.tr hk2).tr hk3).tr hk4).tr hk5), ((((hf1.tr hf2).tr hf3).tr hf4).tr hf5)⟩
        · rw [show vP (sb (.inr b.1) (fun i => pNum B n 12 0 100 i)) 0 = c.2 from by show vP (pNum B n 12 0 100 b.1) 0 = _; rw [hr4]; rfl]
          have hb4 := pNum_b hr4
          have hm4 : MRd h4 ad sv m4 B n ζ (.inr c.1) := by have hh := hm4; rw [show sb (.inr b.1) (fun i => sb (pNum B n 12 0 100 i) (fun a => .inr a.1)) = (.inr c.1 : pR Nat) from by show sb (pNum B n 12 0 100 b.1) _ = _; rw [hr4]; rfl] at hh; exact hh
          refine v_run 2 (pc' := 50) (ls' := [some (.ref (ad 200)), some (.int (zI ↑a.2)), some (.int (zI ↑b.2)), some (.int (zI ↑c.2)), none]) (st' := [.ref (ad 200)]) rfl ?_
          refine v_ldcS rfl ?_
          refine v_run 2 (pc' := 55) (ls' := [some (.ref (ad 200)), some (.int (zI ↑a.2)), some (.int (zI ↑b.2)), some (.int (zI ↑c.2)), none]) (st' := [.int (zI 9), .int (zI 0), .ref (gK G 12), .ref (ad 200)]) rfl ?_
          refine v_callV (My := mX10_readPart) (As := [.ref (gK G 12), .int (zI 0), .int (zI 9)]) (rest := []) (mc := 0) (ms := 0) rfl caX10_readPart rfl rfl rfl hm4.1 rfl rfl (g_part G _ (q := 13) (lo := 0) (hi := 9) hA hB hn hm4 (by decide) (by decide) (by decide)) rfl rfl (Nat.le_of_ble_eq_true rfl) (by omega) ?_
          rintro _ h5 ⟨rfl, m5, hm5, hk5, hf5⟩
          refine v_run 0 (pc' := 58) (ls' := [some (.ref (ad 200)), some (.int (zI ↑a.2)), some (.int (zI ↑b.2)), some (.int (zI ↑c.2)), none]) (st' := [.int (zI ↑(vP (sb (.inr c.1) (fun i => pNum B n 13 0 9 i)) 0))]) rfl ?_
          rcases hr5 : pNum B n 13 0 9 c.1 with e | d
          · rw [show vP (sb (.inr c.1) (fun i => pNum B n 13 0 9 i)) 0 = 0 from by show vP (pNum B n 13 0 9 c.1) 0 = _; rw [hr5]; rfl]
            have hm5 : MRd h5 ad sv m5 B n ζ (.inl e) := by have hh := hm5; rw [show sb (.inr c.1) (fun i => sb (pNum B n 13 0 9 i) (fun a => .inr a.1)) = (.inl e : pR Nat) from by show sb (pNum B n 13 0 9 c.1) _ = _; rw [hr5]; rfl] at hh; exact hh
            have hm5 : MRd h5 ad sv m5 B n ζ (.inl e) := hm5
            refine v_run 2 (pc' := 61) (ls' := [some (.ref (ad 200)), some (.int (zI ↑a.2)), some (.int (zI ↑b.2)), some (.int (zI ↑c.2)), some (.int (zI ↑((0 : Nat))))]) (st' := [.ref (ad 200)]) rfl ?_
            refine v_get rfl hm5.1 rfl ?_
            refine v_run 1 (pc' := 65) (ls' := [some (.ref (ad 200)), some (.int (zI ↑a.2)), some (.int (zI ↑b.2)), some (.int (zI ↑c.2)), some (.int (zI ↑((0 : Nat))))]) (st' := [.int (zI 5), .int (zI (m5 9))]) rfl ?_
            refine v_icmp_ne rfl (fun c65 => ?_) (fun c65 => ?_)
            · exact absurd (by rw [hm5.2.2.2.2.1]) c65
            · rw [show lSafe B n ζ i = .inl e from by simp only [lSafe, if_neg (show ¬ 0 < ζ 0 0 by omega), hr2, hr3, hr4, hr5, sb]]; exact v_vret rfl rfl ⟨rfl, m5, hm5, ((((hk1.tr hk2).tr hk3).tr hk4).tr hk5), ((((hf1.tr hf2).tr hf3).tr hf4).tr hf5)⟩
          · rw [show vP (sb (.inr c.1) (fun i => pNum B n 13 0 9 i)) 0 = d.2 from by show vP (pNum B n 13 0 9 c.1) 0 = _; rw [hr5]; rfl]
            have hb5 := pNum_b hr5
            have hm5 : MRd h5 ad sv m5 B n ζ (.inr d.1) := by have hh := hm5; rw [show sb (.inr c.1) (fun i => sb (pNum B n 13 0 9 i) (fun a => .inr a.1)) = (.inr d.1 : pR Nat) from by show sb (pNum B n 13 0 9 c.1) _ = _; rw [hr5]; rfl] at hh; exact hh
            refine v_run 2 (pc' := 61) (ls' := [some (.ref (ad 200)), some (.int (zI ↑a.2)), some (.int (zI ↑b.2)), some (.int (zI ↑c.2)), some (.int (zI ↑d.2))]) (st' := [.ref (ad 200)]) rfl ?_
            refine v_get rfl hm5.1 rfl ?_
            refine v_run 1 (pc' := 65) (ls' := [some (.ref (ad 200)), some (.int (zI ↑a.2)), some (.int (zI ↑b.2)), some (.int (zI ↑c.2)), some (.int (zI ↑d.2))]) (st' := [.int (zI 5), .int (zI (m5 9))]) rfl ?_
            refine v_icmp_ne rfl (fun c65 => ?_) (fun c65 => ?_)
            · refine v_run 1 (pc' := 70) (ls' := [some (.ref (ad 200)), some (.int (zI ↑a.2)), some (.int (zI ↑b.2)), some (.int (zI ↑c.2)), some (.int (zI ↑d.2))]) (st' := [.ref (ad 200)]) rfl ?_
              refine v_get rfl hm5.1 rfl ?_
              refine v_run 1 (pc' := 74) (ls' := [some (.ref (ad 200)), some (.int (zI ↑a.2)), some (.int (zI ↑b.2)), some (.int (zI ↑c.2)), some (.int (zI ↑d.2))]) (st' := [.int (zI ↑a.2), .ref (ad 230)]) rfl ?_
              refine v_put rfl hm5.2.2.1.1.1 rfl rfl (Nat.le_of_ble_eq_true rfl) ?_
              have hm6 := hm5.i hA 0 a.2 (by decide)
              generalize e6 : hset h5 (ad 230) _ = h6 at hm6 ⊢
              have hf6 : frN ad h5 h6 := e6 ▸ frN.set (Or.inr ⟨by decide, by decide⟩) _
              refine v_run 1 (pc' := 78) (ls' := [some (.ref (ad 200)), some (.int (zI ↑a.2)), some (.int (zI ↑b.2)), some (.int (zI ↑c.2)), some (.int (zI ↑d.2))]) (st' := [.ref (ad 200)]) rfl ?_
              refine v_get rfl hm6.1 rfl ?_
              refine v_run 1 (pc' := 82) (ls' := [some (.ref (ad 200)), some (.int (zI ↑a.2)), some (.int (zI ↑b.2)), some (.int (zI ↑c.2)), some (.int (zI ↑d.2))]) (st' := [.int (zI ↑b.2), .ref (ad 230)]) rfl ?_
              refine v_put rfl hm6.2.2.1.1.1 rfl rfl (Nat.le_of_ble_eq_true rfl) ?_
              have hm7 := hm6.i hA 1 b.2 (by decide)
              generalize e7 : hset h6 (ad 230) _ = h7 at hm7 ⊢
              have hf7 : frN ad h6 h7 := e7 ▸ frN.set (Or.inr ⟨by decide, by decide⟩) _
              refine v_run 1 (pc' := 86) (ls' := [some (.ref (ad 200)), some (.int (zI ↑a.2)), some (.int (zI ↑b.2)), some (.int (zI ↑c.2)), some (.int (zI ↑d.2))]) (st' := [.ref (ad 200)]) rfl ?_
              refine v_get rfl hm7.1 rfl ?_
              refine v_run 1 (pc' := 90) (ls' := [some (.ref (ad 200)), some (.int (zI ↑a.2)), some (.int (zI ↑b.2)), some (.int (zI ↑c.2)), some (.int (zI ↑d.2))]) (st' := [.int (zI ↑c.2), .ref (ad 230)]) rfl ?_
              refine v_put rfl hm7.2.2.1.1.1 rfl rfl (Nat.le_of_ble_eq_true rfl) ?_
              have hm8 := hm7.i hA 2 c.2 (by decide)
              generalize e8 : hset h7 (ad 230) _ = h8 at hm8 ⊢
              have hf8 : frN ad h7 h8 := e8 ▸ frN.set (Or.inr ⟨by decide, by decide⟩) _
              refine v_run 1 (pc' := 94) (ls' := [some (.ref (ad 200)), some (.int (zI ↑a.2)), some (.int (zI ↑b.2)), some (.int (zI ↑c.2)), some (.int (zI ↑d.2))]) (st' := [.ref (ad 200)]) rfl ?_
              refine v_get rfl hm8.1 rfl ?_
              refine v_run 1 (pc' := 99) (ls' := [some (.ref (ad 200)), some (.int (zI ↑a.2)), some (.int (zI ↑b.2)), some (.int (zI ↑c.2)), some (.int (zI ↑d.2))]) (st' := [.int (zI ↑d.2), .ref (ad 230)]) rfl ?_
              refine v_put rfl hm8.2.2.1.1.1 rfl rfl (Nat.le_of_ble_eq_true rfl) ?_
              have hm9 := hm8.i hA 3 d.2 (by decide)
              generalize e9 : hset h8 (ad 230) _ = h9 at hm9 ⊢
              have hf9 : frN ad h8 h9 := e9 ▸ frN.set (Or.inr ⟨by decide, by decide⟩) _
              refine v_run 0 (pc' := 102) (ls' := [some (.ref (ad 200)), some (.int (zI ↑a.2)), some (.int (zI ↑b.2)), some (.int (zI ↑c.2)), some (.int (zI ↑d.2))]) (st' := []) rfl ?_
              rw [show lSafe B n ζ i = .inr (d.1, (zU (zU (zU (zU ζ 0 0 a.2) 1 0 b.2) 2 0 c.2) 3 0 d.2)) from by simp only [lSafe, if_neg (show ¬ 0 < ζ 0 0 by omega), hr2, hr3, hr4, hr5, sb]]; exact v_vret rfl rfl ⟨rfl, m5, hm9, ((((hk1.tr hk2).tr hk3).tr hk4).tr hk5), ((((((((hf1.tr hf2).tr hf3).tr hf4).tr hf5).tr hf6).tr hf7).tr hf8).tr hf9)⟩
            · exact absurd (hm5.2.2.2.2.2.1 ▸ c65) (m9_ne d.1)
  · simp (disch := omega) only [zI_lt, zI_le, zI_eq, zI_lt0, zI_le0, zI_0lt, zI_0le, zI_eq0] at c7
    refine v_run 2 (pc' := 12) (ls' := [some (.ref (ad 200)), none, none, none, none]) (st' := [.int (zI 3), .ref (ad 200)]) rfl ?_
    refine v_callV (My := mX10_flaw) (As := [.int (zI 3)]) (rest := []) (mc := 0) (ms := 0) rfl caX10_flaw rfl rfl rfl hm.1 rfl rfl (g_flaw G _ (f := 3) hA hB hn hm) rfl rfl (Nat.le_of_ble_eq_true rfl) (by omega) ?_
    rintro _ h1 ⟨rfl, m1, hm1, hk1, hf1⟩
    refine v_run 0 (pc' := 15) (ls' := [some (.ref (ad 200)), none, none, none, none]) (st' := []) rfl ?_
    have hm1 : MRd h1 ad sv m1 B n ζ (.inl (3, tP B n i)) := hm1
    refine v_run 1 (pc' := 16) (ls' := [some (.ref (ad 200)), none, none, none, none]) (st' := [.ref (ad 200)]) rfl ?_
    refine v_callV (My := mX10_goesOn) (As := []) (rest := []) (mc := 0) (ms := 0) rfl caX10_goesOn rfl rfl rfl hm1.1 rfl rfl (g_on G _ hA hB hn hm1) rfl rfl (Nat.le_of_ble_eq_true rfl) (by omega) ?_
    rintro _ h2 ⟨rfl, m2, hm2, hk2, hf2⟩
    refine v_run 0 (pc' := 19) (ls' := [some (.ref (ad 200)), none, none, none, none]) (st' := []) rfl ?_
    have hm2 : MRd h2 ad sv m2 B n ζ (.inl (3, tP B n i)) := hm2
    refine v_run 1 (pc' := 20) (ls' := [some (.ref (ad 200)), none, none, none, none]) (st' := [.ref (ad 200)]) rfl ?_
    refine v_ldcS rfl ?_
    refine v_run 2 (pc' := 25) (ls' := [some (.ref (ad 200)), none, none, none, none]) (st' := [.int (zI 6), .int (zI 1), .ref (gK G 9), .ref (ad 200)]) rfl ?_
    refine v_callV (My := mX10_readPart) (As := [.ref (gK G 9), .int (zI 1), .int (zI 6)]) (rest := []) (mc := 0) (ms := 0) rfl caX10_readPart rfl rfl rfl hm2.1 rfl rfl (g_part G _ (q := 10) (lo := 1) (hi := 6) hA hB hn hm2 (by decide) (by decide) (by decide)) rfl rfl (Nat.le_of_ble_eq_true rfl) (by omega) ?_
    rintro _ h3 ⟨rfl, m3, hm3, hk3, hf3⟩
    refine v_run 0 (pc' := 28) (ls' := [some (.ref (ad 200)), none, none, none, none]) (st' := [.int (zI ↑(vP (sb (.inl (3, tP B n i)) (fun i => pNum B n 10 1 6 i)) 1))]) rfl ?_
    have hm3 : MRd h3 ad sv m3 B n ζ (.inl (3, tP B n i)) := hm3
    refine v_run 2 (pc' := 30) (ls' := [some (.ref (ad 200)), some (.int (zI ↑(vP (sb (.inl (3, tP B n i)) (fun i => pNum B n 10 1 6 i)) 1))), none, none, none]) (st' := [.ref (ad 200)]) rfl ?_
    refine v_ldcS rfl ?_
    refine v_run 2 (pc' := 35) (ls' := [some (.ref (ad 200)), some (.int (zI ↑(vP (sb (.inl (3, tP B n i)) (fun i => pNum B n 10 1 6 i)) 1))), none, none, none]) (st' := [.int (zI 9), .int (zI 1), .ref (gK G 10), .ref (ad 200)]) rfl ?_
    refine v_callV (My := mX10_readPart) (As := [.ref (gK G 10), .int (zI 1), .int (zI 9)]) (rest := []) (mc := 0) (ms := 0) rfl caX10_readPart rfl rfl rfl hm3.1 rfl rfl (g_part G _ (q := 11) (lo := 1) (hi := 9) hA hB hn hm3 (by decide) (by decide) (by decide)) rfl rfl (Nat.le_of_ble_eq_true rfl) (by omega) ?_
    rintro _ h4 ⟨rfl, m4, hm4, hk4, hf4⟩
    refine v_run 0 (pc' := 38) (ls' := [some (.ref (ad 200)), some (.int (zI ↑(vP (sb (.inl (3, tP B n i)) (fun i => pNum B n 10 1 6 i)) 1))), none, none, none]) (st' := [.int (zI ↑(vP (sb (.inl (3, tP B n i)) (fun i => pNum B n 11 1 9 i)) 1))]) rfl ?_
    have hm4 : MRd h4 ad sv m4 B n ζ (.inl (3, tP B n i)) := hm4
    refine v_run 2 (pc' := 40) (ls' := [some (.ref (ad 200)), some (.int (zI ↑(vP (sb (.inl (3, tP B n i)) (fun i => pNum B n 10 1 6 i)) 1))), some (.int (zI ↑(vP (sb (.inl (3, tP B n i)) (fun i => pNum B n 11 1 9 i)) 1))), none, none]) (st' := [.ref (ad 200)]) rfl ?_
    refine v_ldcS rfl ?_
    refine v_run 2 (pc' := 45) (ls' := [some (.ref (ad 200)), some (.int (zI ↑(vP (sb (.inl (3, tP B n i)) (fun i => pNum B n 10 1 6 i)) 1))), some (.int (zI ↑(vP (sb (.inl (3, tP B n i)) (fun i => pNum B n 11 1 9 i)) 1))), none, none]) (st' := [.int (zI 100), .int (zI 0), .ref (gK G 11), .ref (ad 200)]) rfl ?_
    refine v_callV (My := mX10_readPart) (As := [.ref (gK G 11), .int (zI 0), .int (zI 100)]) (rest := []) (mc := 0) (ms := 0) rfl caX10_readPart rfl rfl rfl hm4.1 rfl rfl (g_part G _ (q := 12) (lo := 0) (hi := 100) hA hB hn hm4 (by decide) (by decide) (by decide)) rfl rfl (Nat.le_of_ble_eq_true rfl) (by omega) ?_
    rintro _ h5 ⟨rfl, m5, hm5, hk5, hf5⟩
    refine v_run 0 (pc' := 48) (ls' := [some (.ref (ad 200)), some (.int (zI ↑(vP (sb (.inl (3, tP B n i)) (fun i => pNum B n 10 1 6 i)) 1))), some (.int (zI ↑(vP (sb (.inl (3, tP B n i)) (fun i => pNum B n 11 1 9 i)) 1))), none, none]) (st' := [.int (zI ↑(vP (sb (.inl (3, tP B n i)) (fun i => pNum B n 12 0 100 i)) 0))]) rfl ?_
    have hm5 : MRd h5 ad sv m5 B n ζ (.inl (3, tP B n i)) := hm5
    refine v_run 2 (pc' := 50) (ls' := [some (.ref (ad 200)), some (.int (zI ↑(vP (sb (.inl (3, tP B n i)) (fun i => pNum B n 10 1 6 i)) 1))), some (.int (zI ↑(vP (sb (.inl (3, tP B n i)) (fun i => pNum B n 11 1 9 i)) 1))), some (.int (zI ↑(vP (sb (.inl (3, tP B n i)) (fun i => pNum B n 12 0 100 i)) 0))), none]) (st' := [.ref (ad 200)]) rfl ?_
    refine v_ldcS rfl ?_
    refine v_run 2 (pc' := 55) (ls' := [some (.ref (ad 200)), some (.int (zI ↑(vP (sb (.inl (3, tP B n i)) (fun i => pNum B n 10 1 6 i)) 1))), some (.int (zI ↑(vP (sb (.inl (3, tP B n i)) (fun i => pNum B n 11 1 9 i)) 1))), some (.int (zI ↑(vP (sb (.inl (3, tP B n i)) (fun i => pNum B n 12 0 100 i)) 0))), none]) (st' := [.int (zI 9), .int (zI 0), .ref (gK G 12), .ref (ad 200)]) rfl ?_
    refine v_callV (My := mX10_readPart) (As := [.ref (gK G 12), .int (zI 0), .int (zI 9)]) (rest := []) (mc := 0) (ms := 0) rfl caX10_readPart rfl rfl rfl hm5.1 rfl rfl (g_part G _ (q := 13) (lo := 0) (hi := 9) hA hB hn hm5 (by decide) (by decide) (by decide)) rfl rfl (Nat.le_of_ble_eq_true rfl) (by omega) ?_
    rintro _ h6 ⟨rfl, m6, hm6, hk6, hf6⟩
    refine v_run 0 (pc' := 58) (ls' := [some (.ref (ad 200)), some (.int (zI ↑(vP (sb (.inl (3, tP B n i)) (fun i => pNum B n 10 1 6 i)) 1))), some (.int (zI ↑(vP (sb (.inl (3, tP B n i)) (fun i => pNum B n 11 1 9 i)) 1))), some (.int (zI ↑(vP (sb (.inl (3, tP B n i)) (fun i => pNum B n 12 0 100 i)) 0))), none]) (st' := [.int (zI ↑(vP (sb (.inl (3, tP B n i)) (fun i => pNum B n 13 0 9 i)) 0))]) rfl ?_
    have hm6 : MRd h6 ad sv m6 B n ζ (.inl (3, tP B n i)) := hm6
    refine v_run 2 (pc' := 61) (ls' := [some (.ref (ad 200)), some (.int (zI ↑(vP (sb (.inl (3, tP B n i)) (fun i => pNum B n 10 1 6 i)) 1))), some (.int (zI ↑(vP (sb (.inl (3, tP B n i)) (fun i => pNum B n 11 1 9 i)) 1))), some (.int (zI ↑(vP (sb (.inl (3, tP B n i)) (fun i => pNum B n 12 0 100 i)) 0))), some (.int (zI ↑(vP (sb (.inl (3, tP B n i)) (fun i => pNum B n 13 0 9 i)) 0)))]) (st' := [.ref (ad 200)]) rfl ?_
    refine v_get rfl hm6.1 rfl ?_
    refine v_run 1 (pc' := 65) (ls' := [some (.ref (ad 200)), some (.int (zI ↑(vP (sb (.inl (3, tP B n i)) (fun i => pNum B n 10 1 6 i)) 1))), some (.int (zI ↑(vP (sb (.inl (3, tP B n i)) (fun i => pNum B n 11 1 9 i)) 1))), some (.int (zI ↑(vP (sb (.inl (3, tP B n i)) (fun i => pNum B n 12 0 100 i)) 0))), some (.int (zI ↑(vP (sb (.inl (3, tP B n i)) (fun i => pNum B n 13 0 9 i)) 0)))]) (st' := [.int (zI 5), .int (zI (m6 9))]) rfl ?_
    refine v_icmp_ne rfl (fun c65 => ?_) (fun c65 => ?_)
    · exact absurd (by rw [hm6.2.2.2.2.1]) c65
    · rw [show lSafe B n ζ i = .inl (3, tP B n i) from by simp only [lSafe, if_pos (show 0 < ζ 0 0 by omega), sb]]; exact v_vret rfl rfl ⟨rfl, m6, hm6, (((((hk1.tr hk2).tr hk3).tr hk4).tr hk5).tr hk6), (((((hf1.tr hf2).tr hf3).tr hf4).tr hf5).tr hf6)⟩

set_option maxRecDepth 100000 in
set_option maxHeartbeats 400000 in
theorem g_lHook (G : ssG) (h : ssH) {ad : Nat → Nat} {sv : Value} {m : Nat → Int} {B : Nat → Int} {n : Nat} {ζ : zT} {i : Nat}  (hA : ∀ k l, ad k = ad l → k = l) (hB : ∀ k, -128 ≤ B k ∧ B k ≤ 127) (hn : n ≤ 900) (hm : MRd h ad sv m B n ζ (.inr i)) (hzo : zOk ζ)  : ssC G mX10_readHook 8 0 0 [.ref (ad 200)] h (GL ad sv m B n ζ (lq B n ζ i (lHook B n ζ i)) h) := by
  refine c_of_v okX10_readHook (by decide +kernel) (ls := [some (.ref (ad 200)), none, none, none]) rfl (Nat.le_of_ble_eq_true rfl) ?_
  obtain ⟨⟨z0, z1, z2, z3, z4, z5, z6, z7, z8, z9, z11⟩, ⟨r12, r13, r14, r15, r16, r17, r18, r19, r20⟩, ⟨n1, n2, n3, n4⟩, zd, ze⟩ := id hzo
  have h11 : ζ 11 0 ≤ 17 := by omega
  refine v_run 2 (pc' := 2) (ls' := [some (.ref (ad 200)), none, none, none]) (st' := [.ref (ad 200), .ref (ad 200)]) rfl ?_
  refine v_get rfl hm.1 rfl ?_
  refine v_run 0 (pc' := 5) (ls' := [some (.ref (ad 200)), none, none, none]) (st' := [.ref (ad 230), .ref (ad 200)]) rfl ?_
  refine v_get rfl hm.2.2.1.1.1 rfl ?_
  refine v_run 1 (pc' := 10) (ls' := [some (.ref (ad 200)), none, none, none]) (st' := [.int (zI 6), .int (zI ↑(ζ 4 0)), .ref (ad 200)]) rfl ?_
  refine v_callV (My := mX10_lineBegins) (As := [.int (zI ↑(ζ 4 0)), .int (zI 6)]) (rest := []) (mc := 0) (ms := 0) rfl caX10_lineBegins rfl rfl rfl hm.1 rfl rfl (g_begins G _ (a := ζ 4 0) (b := 6) hA hB hn hm (by omega) (by omega) (by omega)) rfl rfl (Nat.le_of_ble_eq_true rfl) (by omega) ?_
  rintro _ h1 ⟨rfl, m1, hm1, hk1, hf1⟩
  refine v_run 0 (pc' := 13) (ls' := [some (.ref (ad 200)), none, none, none]) (st' := []) rfl ?_
  by_cases hq0 : ζ 0 0 = 0
  · have hcz := hzo.2.2.2.1 hq0
    have hm1 : MRd h1 ad sv m1 B n ζ (.inl (6, tP B n i)) := by have hh := hm1; rw [show sb (.inr i) (fun i => if ζ 4 0 = 6 then .inl (5, tP B n i) else if ζ 0 0 = 0 then .inl (6, tP B n i) else .inr (i + 1)) = (.inl (6, tP B n i) : pR Nat) from (if_neg (by omega)).trans (if_pos hq0)] at hh; exact hh
    have hm1 : MRd h1 ad sv m1 B n ζ (.inl (6, tP B n i)) := hm1
    refine v_run 1 (pc' := 14) (ls' := [some (.ref (ad 200)), none, none, none]) (st' := [.ref (ad 200)]) rfl ?_
    refine v_callV (My := mX10_readFresh) (As := []) (rest := []) (mc := 0) (ms := 0) rfl caX10_readFresh rfl rfl rfl hm1.1 rfl rfl (g_fresh G _ hA hB hn hm1 h11 n1) rfl rfl (Nat.le_of_ble_eq_true rfl) (by omega) ?_
    rintro _ h2 ⟨x2, rfl, px2, m2, hm2, hk2, hf2⟩
    refine v_run 0 (pc' := 17) (ls' := [some (.ref (ad 200)), none, none, none]) (st' := [.long x2]) rfl ?_
    have hm2 : MRd h2 ad sv m2 B n ζ (.inl (6, tP B n i)) := hm2
    refine v_run 2 (pc' := 19) (ls' := [some (.ref (ad 200)), some (.long x2), none, none]) (st' := [.ref (ad 200)]) rfl ?_
    refine v_ldcS rfl ?_
    refine v_run 2 (pc' := 24) (ls' := [some (.ref (ad 200)), some (.long x2), none, none]) (st' := [.int (zI 9), .int (zI 0), .ref (gK G 13), .ref (ad 200)]) rfl ?_
    refine v_callV (My := mX10_readPart) (As := [.ref (gK G 13), .int (zI 0), .int (zI 9)]) (rest := []) (mc := 0) (ms := 0) rfl caX10_readPart rfl rfl rfl hm2.1 rfl rfl (g_part G _ (q := 14) (lo := 0) (hi := 9) hA hB hn hm2 (by decide) (by decide) (by decide)) rfl rfl (Nat.le_of_ble_eq_true rfl) (by omega) ?_
    rintro _ h3 ⟨rfl, m3, hm3, hk3, hf3⟩
    refine v_run 0 (pc' := 27) (ls' := [some (.ref (ad 200)), some (.long x2), none, none]) (st' := [.int (zI ↑(vP (sb (.inl (6, tP B n i)) (fun i => pNum B n 14 0 9 i)) 0))]) rfl ?_
    have hm3 : MRd h3 ad sv m3 B n ζ (.inl (6, tP B n i)) := hm3
    refine v_run 2 (pc' := 29) (ls' := [some (.ref (ad 200)), some (.long x2), none, some (.int (zI ↑(vP (sb (.inl (6, tP B n i)) (fun i => pNum B n 14 0 9 i)) 0)))]) (st' := [.ref (ad 200)]) rfl ?_
    refine v_get rfl hm3.1 rfl ?_
    refine v_run 1 (pc' := 33) (ls' := [some (.ref (ad 200)), some (.long x2), none, some (.int (zI ↑(vP (sb (.inl (6, tP B n i)) (fun i => pNum B n 14 0 9 i)) 0)))]) (st' := [.int (zI 5), .int (zI (m3 9))]) rfl ?_
    refine v_icmp_ne rfl (fun c33 => ?_) (fun c33 => ?_)
    · exact absurd (by rw [hm3.2.2.2.2.1]) c33
    · rw [show lq B n ζ i (lHook B n ζ i) = .inl (6, tP B n i) from by simp only [lq, if_pos hq0, sb]]; exact v_vret rfl rfl ⟨rfl, m3, hm3, ((hk1.tr hk2).tr hk3), ((hf1.tr hf2).tr hf3)⟩
  · by_cases hcap : ζ 4 0 = 6
    · have hm1 : MRd h1 ad sv m1 B n ζ (.inl (5, tP B n i)) := by have hh := hm1; rw [show sb (.inr i) (fun i => if ζ 4 0 = 6 then .inl (5, tP B n i) else if ζ 0 0 = 0 then .inl (6, tP B n i) else .inr (i + 1)) = (.inl (5, tP B n i) : pR Nat) from if_pos hcap] at hh; exact hh
      have hm1 : MRd h1 ad sv m1 B n ζ (.inl (5, tP B n i)) := hm1
      refine v_run 1 (pc' := 14) (ls' := [some (.ref (ad 200)), none, none, none]) (st' := [.ref (ad 200)]) rfl ?_
      refine v_callV (My := mX10_readFresh) (As := []) (rest := []) (mc := 0) (ms := 0) rfl caX10_readFresh rfl rfl rfl hm1.1 rfl rfl (g_fresh G _ hA hB hn hm1 h11 n1) rfl rfl (Nat.le_of_ble_eq_true rfl) (by omega) ?_
      rintro _ h2 ⟨x2, rfl, px2, m2, hm2, hk2, hf2⟩
      refine v_run 0 (pc' := 17) (ls' := [some (.ref (ad 200)), none, none, none]) (st' := [.long x2]) rfl ?_
      have hm2 : MRd h2 ad sv m2 B n ζ (.inl (5, tP B n i)) := hm2
      refine v_run 2 (pc' := 19) (ls' := [some (.ref (ad 200)), some (.long x2), none, none]) (st' := [.ref (ad 200)]) rfl ?_
      refine v_ldcS rfl ?_
      refine v_run 2 (pc' := 24) (ls' := [some (.ref (ad 200)), some (.long x2), none, none]) (st' := [.int (zI 9), .int (zI 0), .ref (gK G 13), .ref (ad 200)]) rfl ?_
      refine v_callV (My := mX10_readPart) (As := [.ref (gK G 13), .int (zI 0), .int (zI 9)]) (rest := []) (mc := 0) (ms := 0) rfl caX10_readPart rfl rfl rfl hm2.1 rfl rfl (g_part G _ (q := 14) (lo := 0) (hi := 9) hA hB hn hm2 (by decide) (by decide) (by decide)) rfl rfl (Nat.le_of_ble_eq_true rfl) (by omega) ?_
      rintro _ h3 ⟨rfl, m3, hm3, hk3, hf3⟩
      refine v_run 0 (pc' := 27) (ls' := [some (.ref (ad 200)), some (.long x2), none, none]) (st' := [.int (zI ↑(vP (sb (.inl (5, tP B n i)) (fun i => pNum B n 14 0 9 i)) 0))]) rfl ?_
      have hm3 : MRd h3 ad sv m3 B n ζ (.inl (5, tP B n i)) := hm3
      refine v_run 2 (pc' := 29) (ls' := [some (.ref (ad 200)), some (.long x2), none, some (.int (zI ↑(vP (sb (.inl (5, tP B n i)) (fun i => pNum B n 14 0 9 i)) 0)))]) (st' := [.ref (ad 200)]) rfl ?_
      refine v_get rfl hm3.1 rfl ?_
      refine v_run 1 (pc' := 33) (ls' := [some (.ref (ad 200)), some (.long x2), none, some (.int (zI ↑(vP (sb (.inl (5, tP B n i)) (fun i => pNum B n 14 0 9 i)) 0)))]) (st' := [.int (zI 5), .int (zI (m3 9))]) rfl ?_
      refine v_icmp_ne rfl (fun c33 => ?_) (fun c33 => ?_)
      · exact absurd (by rw [hm3.2.2.2.2.1]) c33
      · rw [show lq B n ζ i (lHook B n ζ i) = .inl (5, tP B n i) from by simp only [lq, if_neg hq0, lHook, if_pos hcap, sb]]; exact v_vret rfl rfl ⟨rfl, m3, hm3, ((hk1.tr hk2).tr hk3), ((hf1.tr hf2).tr hf3)⟩
    · have hm1 : MRd h1 ad sv m1 B n ζ (.inr (i + 1)) := by have hh := hm1; rw [show sb (.inr i) (fun i => if ζ 4 0 = 6 then .inl (5, tP B n i) else if ζ 0 0 = 0 then .inl (6, tP B n i) else .inr (i + 1)) = (.inr (i + 1) : pR Nat) from (if_neg hcap).trans (if_neg hq0)] at hh; exact hh
      refine v_run 1 (pc' := 14) (ls' := [some (.ref (ad 200)), none, none, none]) (st' := [.ref (ad 200)]) rfl ?_
      refine v_callV (My := mX10_readFresh) (As := []) (rest := []) (mc := 0) (ms := 0) rfl caX10_readFresh rfl rfl rfl hm1.1 rfl rfl (g_fresh G _ hA hB hn hm1 h11 n1) rfl rfl (Nat.le_of_ble_eq_true rfl) (by omega) ?_
      rintro _ h2 ⟨x2, rfl, px2, m2, hm2, hk2, hf2⟩
      refine v_run 0 (pc' := 17) (ls' := [some (.ref (ad 200)), none, none, none]) (st' := [.long x2]) rfl ?_
      rcases hr2 : pNew B n ζ (i + 1) with e | jn
      · have hm2 : MRd h2 ad sv m2 B n ζ (.inl e) := by have hh := hm2; rw [show sb (.inr (i + 1)) (fun i => pNew B n ζ i) = (.inl e : pR Nat) from hr2] at hh; exact hh
        have hm2 : MRd h2 ad sv m2 B n ζ (.inl e) := hm2
        refine v_run 2 (pc' := 19) (ls' := [some (.ref (ad 200)), some (.long x2), none, none]) (st' := [.ref (ad 200)]) rfl ?_
        refine v_ldcS rfl ?_
        refine v_run 2 (pc' := 24) (ls' := [some (.ref (ad 200)), some (.long x2), none, none]) (st' := [.int (zI 9), .int (zI 0), .ref (gK G 13), .ref (ad 200)]) rfl ?_
        refine v_callV (My := mX10_readPart) (As := [.ref (gK G 13), .int (zI 0), .int (zI 9)]) (rest := []) (mc := 0) (ms := 0) rfl caX10_readPart rfl rfl rfl hm2.1 rfl rfl (g_part G _ (q := 14) (lo := 0) (hi := 9) hA hB hn hm2 (by decide) (by decide) (by decide)) rfl rfl (Nat.le_of_ble_eq_true rfl) (by omega) ?_
        rintro _ h3 ⟨rfl, m3, hm3, hk3, hf3⟩
        refine v_run 0 (pc' := 27) (ls' := [some (.ref (ad 200)), some (.long x2), none, none]) (st' := [.int (zI ↑(vP (sb (.inl e) (fun i => pNum B n 14 0 9 i)) 0))]) rfl ?_
        have hm3 : MRd h3 ad sv m3 B n ζ (.inl e) := hm3
        refine v_run 2 (pc' := 29) (ls' := [some (.ref (ad 200)), some (.long x2), none, some (.int (zI ↑(vP (sb (.inl e) (fun i => pNum B n 14 0 9 i)) 0)))]) (st' := [.ref (ad 200)]) rfl ?_
        refine v_get rfl hm3.1 rfl ?_
        refine v_run 1 (pc' := 33) (ls' := [some (.ref (ad 200)), some (.long x2), none, some (.int (zI ↑(vP (sb (.inl e) (fun i => pNum B n 14 0 9 i)) 0)))]) (st' := [.int (zI 5), .int (zI (m3 9))]) rfl ?_
        refine v_icmp_ne rfl (fun c33 => ?_) (fun c33 => ?_)
        · exact absurd (by rw [hm3.2.2.2.2.1]) c33
        · rw [show lq B n ζ i (lHook B n ζ i) = .inl e from by simp only [lq, if_neg hq0, lHook, if_neg hcap, hr2, sb]]; exact v_vret rfl rfl ⟨rfl, m3, hm3, ((hk1.tr hk2).tr hk3), ((hf1.tr hf2).tr hf3)⟩
      · have hjn : jn = (i + 1) + 1 := pNew_j hr2
        subst hjn
        rw [px2 _ _ rfl hr2]
        have hm2 : MRd h2 ad sv m2 B n ζ (.inr ((i + 1) + 1)) := by have hh := hm2; rw [show sb (.inr (i + 1)) (fun i => pNew B n ζ i) = (.inr ((i + 1) + 1) : pR Nat) from hr2] at hh; exact hh
        refine v_run 2 (pc' := 19) (ls' := [some (.ref (ad 200)), some (.long (zL ↑(tV B n ((i + 1))))), none, none]) (st' := [.ref (ad 200)]) rfl ?_
        refine v_ldcS rfl ?_
        refine v_run 2 (pc' := 24) (ls' := [some (.ref (ad 200)), some (.long (zL ↑(tV B n ((i + 1))))), none, none]) (st' := [.int (zI 9), .int (zI 0), .ref (gK G 13), .ref (ad 200)]) rfl ?_
        refine v_callV (My := mX10_readPart) (As := [.ref (gK G 13), .int (zI 0), .int (zI 9)]) (rest := []) (mc := 0) (ms := 0) rfl caX10_readPart rfl rfl rfl hm2.1 rfl rfl (g_part G _ (q := 14) (lo := 0) (hi := 9) hA hB hn hm2 (by decide) (by decide) (by decide)) rfl rfl (Nat.le_of_ble_eq_true rfl) (by omega) ?_
        rintro _ h3 ⟨rfl, m3, hm3, hk3, hf3⟩
        refine v_run 0 (pc' := 27) (ls' := [some (.ref (ad 200)), some (.long (zL ↑(tV B n ((i + 1))))), none, none]) (st' := [.int (zI ↑(vP (sb (.inr ((i + 1) + 1)) (fun i => pNum B n 14 0 9 i)) 0))]) rfl ?_
        rcases hr3 : pNum B n 14 0 9 ((i + 1) + 1) with e | a
        · rw [show vP (sb (.inr ((i + 1) + 1)) (fun i => pNum B n 14 0 9 i)) 0 = 0 from by show vP (pNum B n 14 0 9 ((i + 1) + 1)) 0 = _; rw [hr3]; rfl]
          have hm3 : MRd h3 ad sv m3 B n ζ (.inl e) := by have hh := hm3; rw [show sb (.inr ((i + 1) + 1)) (fun i => sb (pNum B n 14 0 9 i) (fun a => .inr a.1)) = (.inl e : pR Nat) from by show sb (pNum B n 14 0 9 ((i + 1) + 1)) _ = _; rw [hr3]; rfl] at hh; exact hh
          have hm3 : MRd h3 ad sv m3 B n ζ (.inl e) := hm3
          refine v_run 2 (pc' := 29) (ls' := [some (.ref (ad 200)), some (.long (zL ↑(tV B n ((i + 1))))), none, some (.int (zI ↑((0 : Nat))))]) (st' := [.ref (ad 200)]) rfl ?_
          refine v_get rfl hm3.1 rfl ?_
          refine v_run 1 (pc' := 33) (ls' := [some (.ref (ad 200)), some (.long (zL ↑(tV B n ((i + 1))))), none, some (.int (zI ↑((0 : Nat))))]) (st' := [.int (zI 5), .int (zI (m3 9))]) rfl ?_
          refine v_icmp_ne rfl (fun c33 => ?_) (fun c33 => ?_)
          · exact absurd (by rw [hm3.2.2.2.2.1]) c33
          · rw [show lq B n ζ i (lHook B n ζ i) = .inl e from by simp only [lq, if_neg hq0, lHook, if_neg hcap, hr2, hr3, sb]]; exact v_vret rfl rfl ⟨rfl, m3, hm3, ((hk1.tr hk2).tr hk3), ((hf1.tr hf2).tr hf3)⟩
        · rw [show vP (sb (.inr ((i + 1) + 1)) (fun i => pNum B n 14 0 9 i)) 0 = a.2 from by show vP (pNum B n 14 0 9 ((i + 1) + 1)) 0 = _; rw [hr3]; rfl]
          have hb3 := pNum_b hr3
          have hm3 : MRd h3 ad sv m3 B n ζ (.inr a.1) := by have hh := hm3; rw [show sb (.inr ((i + 1) + 1)) (fun i => sb (pNum B n 14 0 9 i) (fun a => .inr a.1)) = (.inr a.1 : pR Nat) from by show sb (pNum B n 14 0 9 ((i + 1) + 1)) _ = _; rw [hr3]; rfl] at hh; exact hh
          refine v_run 2 (pc' := 29) (ls' := [some (.ref (ad 200)), some (.long (zL ↑(tV B n ((i + 1))))), none, some (.int (zI ↑a.2))]) (st' := [.ref (ad 200)]) rfl ?_
          refine v_get rfl hm3.1 rfl ?_
          refine v_run 1 (pc' := 33) (ls' := [some (.ref (ad 200)), some (.long (zL ↑(tV B n ((i + 1))))), none, some (.int (zI ↑a.2))]) (st' := [.int (zI 5), .int (zI (m3 9))]) rfl ?_
          refine v_icmp_ne rfl (fun c33 => ?_) (fun c33 => ?_)
          · refine v_run 4 (pc' := 41) (ls' := [some (.ref (ad 200)), some (.long (zL ↑(tV B n ((i + 1))))), none, some (.int (zI ↑a.2))]) (st' := [.ref (ad 200), .int (zI 0), .long (zL ↑(tV B n ((i + 1)))), .ref (ad 200)]) rfl ?_
            refine v_get rfl hm3.1 rfl ?_
            refine v_run 0 (pc' := 44) (ls' := [some (.ref (ad 200)), some (.long (zL ↑(tV B n ((i + 1))))), none, some (.int (zI ↑a.2))]) (st' := [.ref (ad 230), .int (zI 0), .long (zL ↑(tV B n ((i + 1)))), .ref (ad 200)]) rfl ?_
            refine v_get rfl hm3.2.2.1.1.1 rfl ?_
            refine v_run 0 (pc' := 47) (ls' := [some (.ref (ad 200)), some (.long (zL ↑(tV B n ((i + 1))))), none, some (.int (zI ↑a.2))]) (st' := [.int (zI ↑(ζ 4 0)), .int (zI 0), .long (zL ↑(tV B n ((i + 1)))), .ref (ad 200)]) rfl ?_
            refine v_callV (My := mX10_names) (As := [.long (zL ↑(tV B n ((i + 1)))), .int (zI 0), .int (zI ↑(ζ 4 0))]) (rest := []) (mc := 0) (ms := 0) rfl caX10_names rfl rfl rfl hm3.1 rfl rfl (g_names G _ (w := (tV B n (i + 1))) (s := 0) (k := ζ 4 0) hA hB hn hm3 (by omega)) rfl rfl (Nat.le_of_ble_eq_true rfl) (by omega) ?_
            rintro _ h4 ⟨rfl, m4, hm4, hk4, hf4⟩
            refine v_run 0 (pc' := 50) (ls' := [some (.ref (ad 200)), some (.long (zL ↑(tV B n ((i + 1))))), none, some (.int (zI ↑a.2))]) (st' := []) rfl ?_
            refine v_run 1 (pc' := 51) (ls' := [some (.ref (ad 200)), some (.long (zL ↑(tV B n ((i + 1))))), none, some (.int (zI ↑a.2))]) (st' := [.ref (ad 200)]) rfl ?_
            refine v_get rfl hm4.1 rfl ?_
            refine v_run 0 (pc' := 54) (ls' := [some (.ref (ad 200)), some (.long (zL ↑(tV B n ((i + 1))))), none, some (.int (zI ↑a.2))]) (st' := [.ref (ad 230)]) rfl ?_
            refine v_get rfl hm4.2.2.1.1.1 rfl ?_
            refine v_run 1 (pc' := 58) (ls' := [some (.ref (ad 200)), some (.long (zL ↑(tV B n ((i + 1))))), none, some (.int (zI ↑a.2))]) (st' := [.ref (ad 200), .ref (Sf ad 230 12)]) rfl ?_
            refine v_get rfl hm4.1 rfl ?_
            refine v_run 0 (pc' := 61) (ls' := [some (.ref (ad 200)), some (.long (zL ↑(tV B n ((i + 1))))), none, some (.int (zI ↑a.2))]) (st' := [.ref (ad 230), .ref (Sf ad 230 12)]) rfl ?_
            refine v_get rfl hm4.2.2.1.1.1 rfl ?_
            refine v_run 1 (pc' := 65) (ls' := [some (.ref (ad 200)), some (.long (zL ↑(tV B n ((i + 1))))), none, some (.int (zI ↑a.2))]) (st' := [.int (zI ↑a.2), .int (zI ↑(ζ 4 0)), .ref (Sf ad 230 12)]) rfl ?_
            refine v_iastore' rfl hm4.2.2.1.1.2.1 (i := ζ 4 0) rfl (by omega) ?_
            rw [ar_upd]
            have hm5 := hm4.r12 hA (ζ 4 0) a.2
            generalize e5 : hset h4 (Sf ad 230 12) _ = h5 at hm5 ⊢
            have hf5 : frN ad h4 h5 := e5 ▸ frN.set (Or.inr ⟨by decide, by decide⟩) _
            refine v_run 1 (pc' := 67) (ls' := [some (.ref (ad 200)), some (.long (zL ↑(tV B n ((i + 1))))), none, some (.int (zI ↑a.2))]) (st' := [.ref (ad 200)]) rfl ?_
            refine v_get rfl hm5.1 rfl ?_
            refine v_run 1 (pc' := 71) (ls' := [some (.ref (ad 200)), some (.long (zL ↑(tV B n ((i + 1))))), none, some (.int (zI ↑a.2))]) (st' := [.ref (ad 230), .ref (ad 230)]) rfl ?_
            refine v_get rfl hm5.2.2.1.1.1 rfl ?_
            refine v_run 2 (pc' := 76) (ls' := [some (.ref (ad 200)), some (.long (zL ↑(tV B n ((i + 1))))), none, some (.int (zI ↑a.2))]) (st' := [.int ((zI ↑(ζ 4 0)) + (zI 1)), .ref (ad 230)]) rfl ?_
            rw [show (((zI ↑(ζ 4 0)) + (zI 1)) : Int32) = zI ↑(ζ 4 0 + 1) from zI_s1 _]
            refine v_put rfl hm5.2.2.1.1.1 rfl rfl (Nat.le_of_ble_eq_true rfl) ?_
            have hm6 := hm5.i hA 4 (ζ 4 0 + 1) (by decide)
            generalize e6 : hset h5 (ad 230) _ = h6 at hm6 ⊢
            have hf6 : frN ad h5 h6 := e6 ▸ frN.set (Or.inr ⟨by decide, by decide⟩) _
            refine v_run 0 (pc' := 79) (ls' := [some (.ref (ad 200)), some (.long (zL ↑(tV B n ((i + 1))))), none, some (.int (zI ↑a.2))]) (st' := []) rfl ?_
            rw [show lq B n ζ i (lHook B n ζ i) = .inr (a.1, (zU (zU (zNm ζ (tV B n (i + 1)) 0 (ζ 4 0)) 12 (ζ 4 0) a.2) 4 0 (ζ 4 0 + 1))) from by simp only [lq, if_neg hq0, lHook, if_neg hcap, hr2, hr3, sb]]; exact v_vret rfl rfl ⟨rfl, m4, hm6, (((hk1.tr hk2).tr hk3).tr hk4), (((((hf1.tr hf2).tr hf3).tr hf4).tr hf5).tr hf6)⟩
          · exact absurd (hm3.2.2.2.2.2.1 ▸ c33) (m9_ne a.1)

set_option maxRecDepth 100000 in
set_option maxHeartbeats 400000 in
theorem g_lAct (G : ssG) (h : ssH) {ad : Nat → Nat} {sv : Value} {m : Nat → Int} {B : Nat → Int} {n : Nat} {ζ : zT} {i : Nat}  (hA : ∀ k l, ad k = ad l → k = l) (hB : ∀ k, -128 ≤ B k ∧ B k ≤ 127) (hn : n ≤ 900) (hm : MRd h ad sv m B n ζ (.inr i)) (hzo : zOk ζ)  : ssC G mX10_readAct 8 0 0 [.ref (ad 200)] h (GL ad sv m B n ζ (lq B n ζ i (lAct B n ζ i)) h) := by
  refine c_of_v okX10_readAct (by decide +kernel) (ls := [some (.ref (ad 200)), none, none, none]) rfl (Nat.le_of_ble_eq_true rfl) ?_
  obtain ⟨⟨z0, z1, z2, z3, z4, z5, z6, z7, z8, z9, z11⟩, ⟨r12, r13, r14, r15, r16, r17, r18, r19, r20⟩, ⟨n1, n2, n3, n4⟩, zd, ze⟩ := id hzo
  have h11 : ζ 11 0 ≤ 17 := by omega
  refine v_run 2 (pc' := 2) (ls' := [some (.ref (ad 200)), none, none, none]) (st' := [.ref (ad 200), .ref (ad 200)]) rfl ?_
  refine v_get rfl hm.1 rfl ?_
  refine v_run 0 (pc' := 5) (ls' := [some (.ref (ad 200)), none, none, none]) (st' := [.ref (ad 230), .ref (ad 200)]) rfl ?_
  refine v_get rfl hm.2.2.1.1.1 rfl ?_
  refine v_run 1 (pc' := 9) (ls' := [some (.ref (ad 200)), none, none, none]) (st' := [.int (zI 5), .int (zI ↑(ζ 6 0)), .ref (ad 200)]) rfl ?_
  refine v_callV (My := mX10_lineBegins) (As := [.int (zI ↑(ζ 6 0)), .int (zI 5)]) (rest := []) (mc := 0) (ms := 0) rfl caX10_lineBegins rfl rfl rfl hm.1 rfl rfl (g_begins G _ (a := ζ 6 0) (b := 5) hA hB hn hm (by omega) (by omega) (by omega)) rfl rfl (Nat.le_of_ble_eq_true rfl) (by omega) ?_
  rintro _ h1 ⟨rfl, m1, hm1, hk1, hf1⟩
  refine v_run 0 (pc' := 12) (ls' := [some (.ref (ad 200)), none, none, none]) (st' := []) rfl ?_
  by_cases hq0 : ζ 0 0 = 0
  · have hcz := hzo.2.2.2.1 hq0
    have hm1 : MRd h1 ad sv m1 B n ζ (.inl (6, tP B n i)) := by have hh := hm1; rw [show sb (.inr i) (fun i => if ζ 6 0 = 5 then .inl (5, tP B n i) else if ζ 0 0 = 0 then .inl (6, tP B n i) else .inr (i + 1)) = (.inl (6, tP B n i) : pR Nat) from (if_neg (by omega)).trans (if_pos hq0)] at hh; exact hh
    have hm1 : MRd h1 ad sv m1 B n ζ (.inl (6, tP B n i)) := hm1
    refine v_run 1 (pc' := 13) (ls' := [some (.ref (ad 200)), none, none, none]) (st' := [.ref (ad 200)]) rfl ?_
    refine v_callV (My := mX10_readFresh) (As := []) (rest := []) (mc := 0) (ms := 0) rfl caX10_readFresh rfl rfl rfl hm1.1 rfl rfl (g_fresh G _ hA hB hn hm1 h11 n1) rfl rfl (Nat.le_of_ble_eq_true rfl) (by omega) ?_
    rintro _ h2 ⟨x2, rfl, px2, m2, hm2, hk2, hf2⟩
    refine v_run 0 (pc' := 16) (ls' := [some (.ref (ad 200)), none, none, none]) (st' := [.long x2]) rfl ?_
    have hm2 : MRd h2 ad sv m2 B n ζ (.inl (6, tP B n i)) := hm2
    refine v_run 2 (pc' := 18) (ls' := [some (.ref (ad 200)), some (.long x2), none, none]) (st' := [.ref (ad 200)]) rfl ?_
    refine v_ldcSw v_ldcw_in.2.2 rfl ?_
    refine v_run 2 (pc' := 24) (ls' := [some (.ref (ad 200)), some (.long x2), none, none]) (st' := [.int (zI 40), .int (zI 0), .ref (gK G 17), .ref (ad 200)]) rfl ?_
    refine v_callV (My := mX10_readPart) (As := [.ref (gK G 17), .int (zI 0), .int (zI 40)]) (rest := []) (mc := 0) (ms := 0) rfl caX10_readPart rfl rfl rfl hm2.1 rfl rfl (g_part G _ (q := 18) (lo := 0) (hi := 40) hA hB hn hm2 (by decide) (by decide) (by decide)) rfl rfl (Nat.le_of_ble_eq_true rfl) (by omega) ?_
    rintro _ h3 ⟨rfl, m3, hm3, hk3, hf3⟩
    refine v_run 0 (pc' := 27) (ls' := [some (.ref (ad 200)), some (.long x2), none, none]) (st' := [.int (zI ↑(vP (sb (.inl (6, tP B n i)) (fun i => pNum B n 18 0 40 i)) 0))]) rfl ?_
    have hm3 : MRd h3 ad sv m3 B n ζ (.inl (6, tP B n i)) := hm3
    refine v_run 2 (pc' := 29) (ls' := [some (.ref (ad 200)), some (.long x2), none, some (.int (zI ↑(vP (sb (.inl (6, tP B n i)) (fun i => pNum B n 18 0 40 i)) 0)))]) (st' := [.ref (ad 200)]) rfl ?_
    refine v_get rfl hm3.1 rfl ?_
    refine v_run 1 (pc' := 33) (ls' := [some (.ref (ad 200)), some (.long x2), none, some (.int (zI ↑(vP (sb (.inl (6, tP B n i)) (fun i => pNum B n 18 0 40 i)) 0)))]) (st' := [.int (zI 5), .int (zI (m3 9))]) rfl ?_
    refine v_icmp_ne rfl (fun c33 => ?_) (fun c33 => ?_)
    · exact absurd (by rw [hm3.2.2.2.2.1]) c33
    · rw [show lq B n ζ i (lAct B n ζ i) = .inl (6, tP B n i) from by simp only [lq, if_pos hq0, sb]]; exact v_vret rfl rfl ⟨rfl, m3, hm3, ((hk1.tr hk2).tr hk3), ((hf1.tr hf2).tr hf3)⟩
  · by_cases hcap : ζ 6 0 = 5
    · have hm1 : MRd h1 ad sv m1 B n ζ (.inl (5, tP B n i)) := by have hh := hm1; rw [show sb (.inr i) (fun i => if ζ 6 0 = 5 then .inl (5, tP B n i) else if ζ 0 0 = 0 then .inl (6, tP B n i) else .inr (i + 1)) = (.inl (5, tP B n i) : pR Nat) from if_pos hcap] at hh; exact hh
      have hm1 : MRd h1 ad sv m1 B n ζ (.inl (5, tP B n i)) := hm1
      refine v_run 1 (pc' := 13) (ls' := [some (.ref (ad 200)), none, none, none]) (st' := [.ref (ad 200)]) rfl ?_
      refine v_callV (My := mX10_readFresh) (As := []) (rest := []) (mc := 0) (ms := 0) rfl caX10_readFresh rfl rfl rfl hm1.1 rfl rfl (g_fresh G _ hA hB hn hm1 h11 n1) rfl rfl (Nat.le_of_ble_eq_true rfl) (by omega) ?_
      rintro _ h2 ⟨x2, rfl, px2, m2, hm2, hk2, hf2⟩
      refine v_run 0 (pc' := 16) (ls' := [some (.ref (ad 200)), none, none, none]) (st' := [.long x2]) rfl ?_
      have hm2 : MRd h2 ad sv m2 B n ζ (.inl (5, tP B n i)) := hm2
      refine v_run 2 (pc' := 18) (ls' := [some (.ref (ad 200)), some (.long x2), none, none]) (st' := [.ref (ad 200)]) rfl ?_
      refine v_ldcSw v_ldcw_in.2.2 rfl ?_
      refine v_run 2 (pc' := 24) (ls' := [some (.ref (ad 200)), some (.long x2), none, none]) (st' := [.int (zI 40), .int (zI 0), .ref (gK G 17), .ref (ad 200)]) rfl ?_
      refine v_callV (My := mX10_readPart) (As := [.ref (gK G 17), .int (zI 0), .int (zI 40)]) (rest := []) (mc := 0) (ms := 0) rfl caX10_readPart rfl rfl rfl hm2.1 rfl rfl (g_part G _ (q := 18) (lo := 0) (hi := 40) hA hB hn hm2 (by decide) (by decide) (by decide)) rfl rfl (Nat.le_of_ble_eq_true rfl) (by omega) ?_
      rintro _ h3 ⟨rfl, m3, hm3, hk3, hf3⟩
      refine v_run 0 (pc' := 27) (ls' := [some (.ref (ad 200)), some (.long x2), none, none]) (st' := [.int (zI ↑(vP (sb (.inl (5, tP B n i)) (fun i => pNum B n 18 0 40 i)) 0))]) rfl ?_
      have hm3 : MRd h3 ad sv m3 B n ζ (.inl (5, tP B n i)) := hm3
      refine v_run 2 (pc' := 29) (ls' := [some (.ref (ad 200)), some (.long x2), none, some (.int (zI ↑(vP (sb (.inl (5, tP B n i)) (fun i => pNum B n 18 0 40 i)) 0)))]) (st' := [.ref (ad 200)]) rfl ?_
      refine v_get rfl hm3.1 rfl ?_
      refine v_run 1 (pc' := 33) (ls' := [some (.ref (ad 200)), some (.long x2), none, some (.int (zI ↑(vP (sb (.inl (5, tP B n i)) (fun i => pNum B n 18 0 40 i)) 0)))]) (st' := [.int (zI 5), .int (zI (m3 9))]) rfl ?_
      refine v_icmp_ne rfl (fun c33 => ?_) (fun c33 => ?_)
      · exact absurd (by rw [hm3.2.2.2.2.1]) c33
      · rw [show lq B n ζ i (lAct B n ζ i) = .inl (5, tP B n i) from by simp only [lq, if_neg hq0, lAct, if_pos hcap, sb]]; exact v_vret rfl rfl ⟨rfl, m3, hm3, ((hk1.tr hk2).tr hk3), ((hf1.tr hf2).tr hf3)⟩
    · have hm1 : MRd h1 ad sv m1 B n ζ (.inr (i + 1)) := by have hh := hm1; rw [show sb (.inr i) (fun i => if ζ 6 0 = 5 then .inl (5, tP B n i) else if ζ 0 0 = 0 then .inl (6, tP B n i) else .inr (i + 1)) = (.inr (i + 1) : pR Nat) from (if_neg hcap).trans (if_neg hq0)] at hh; exact hh
      refine v_run 1 (pc' := 13) (ls' := [some (.ref (ad 200)), none, none, none]) (st' := [.ref (ad 200)]) rfl ?_
      refine v_callV (My := mX10_readFresh) (As := []) (rest := []) (mc := 0) (ms := 0) rfl caX10_readFresh rfl rfl rfl hm1.1 rfl rfl (g_fresh G _ hA hB hn hm1 h11 n1) rfl rfl (Nat.le_of_ble_eq_true rfl) (by omega) ?_
      rintro _ h2 ⟨x2, rfl, px2, m2, hm2, hk2, hf2⟩
      refine v_run 0 (pc' := 16) (ls' := [some (.ref (ad 200)), none, none, none]) (st' := [.long x2]) rfl ?_
      rcases hr2 : pNew B n ζ (i + 1) with e | jn
      · have hm2 : MRd h2 ad sv m2 B n ζ (.inl e) := by have hh := hm2; rw [show sb (.inr (i + 1)) (fun i => pNew B n ζ i) = (.inl e : pR Nat) from hr2] at hh; exact hh
        have hm2 : MRd h2 ad sv m2 B n ζ (.inl e) := hm2
        refine v_run 2 (pc' := 18) (ls' := [some (.ref (ad 200)), some (.long x2), none, none]) (st' := [.ref (ad 200)]) rfl ?_
        refine v_ldcSw v_ldcw_in.2.2 rfl ?_
        refine v_run 2 (pc' := 24) (ls' := [some (.ref (ad 200)), some (.long x2), none, none]) (st' := [.int (zI 40), .int (zI 0), .ref (gK G 17), .ref (ad 200)]) rfl ?_
        refine v_callV (My := mX10_readPart) (As := [.ref (gK G 17), .int (zI 0), .int (zI 40)]) (rest := []) (mc := 0) (ms := 0) rfl caX10_readPart rfl rfl rfl hm2.1 rfl rfl (g_part G _ (q := 18) (lo := 0) (hi := 40) hA hB hn hm2 (by decide) (by decide) (by decide)) rfl rfl (Nat.le_of_ble_eq_true rfl) (by omega) ?_
        rintro _ h3 ⟨rfl, m3, hm3, hk3, hf3⟩
        refine v_run 0 (pc' := 27) (ls' := [some (.ref (ad 200)), some (.long x2), none, none]) (st' := [.int (zI ↑(vP (sb (.inl e) (fun i => pNum B n 18 0 40 i)) 0))]) rfl ?_
        have hm3 : MRd h3 ad sv m3 B n ζ (.inl e) := hm3
        refine v_run 2 (pc' := 29) (ls' := [some (.ref (ad 200)), some (.long x2), none, some (.int (zI ↑(vP (sb (.inl e) (fun i => pNum B n 18 0 40 i)) 0)))]) (st' := [.ref (ad 200)]) rfl ?_
        refine v_get rfl hm3.1 rfl ?_
        refine v_run 1 (pc' := 33) (ls' := [some (.ref (ad 200)), some (.long x2), none, some (.int (zI ↑(vP (sb (.inl e) (fun i => pNum B n 18 0 40 i)) 0)))]) (st' := [.int (zI 5), .int (zI (m3 9))]) rfl ?_
        refine v_icmp_ne rfl (fun c33 => ?_) (fun c33 => ?_)
        · exact absurd (by rw [hm3.2.2.2.2.1]) c33
        · rw [show lq B n ζ i (lAct B n ζ i) = .inl e from by simp only [lq, if_neg hq0, lAct, if_neg hcap, hr2, sb]]; exact v_vret rfl rfl ⟨rfl, m3, hm3, ((hk1.tr hk2).tr hk3), ((hf1.tr hf2).tr hf3)⟩
      · have hjn : jn = (i + 1) + 1 := pNew_j hr2
        subst hjn
        rw [px2 _ _ rfl hr2]
        have hm2 : MRd h2 ad sv m2 B n ζ (.inr ((i + 1) + 1)) := by have hh := hm2; rw [show sb (.inr (i + 1)) (fun i => pNew B n ζ i) = (.inr ((i + 1) + 1) : pR Nat) from hr2] at hh; exact hh
        refine v_run 2 (pc' := 18) (ls' := [some (.ref (ad 200)), some (.long (zL ↑(tV B n ((i + 1))))), none, none]) (st' := [.ref (ad 200)]) rfl ?_
        refine v_ldcSw v_ldcw_in.2.2 rfl ?_
        refine v_run 2 (pc' := 24) (ls' := [some (.ref (ad 200)), some (.long (zL ↑(tV B n ((i + 1))))), none, none]) (st' := [.int (zI 40), .int (zI 0), .ref (gK G 17), .ref (ad 200)]) rfl ?_
        refine v_callV (My := mX10_readPart) (As := [.ref (gK G 17), .int (zI 0), .int (zI 40)]) (rest := []) (mc := 0) (ms := 0) rfl caX10_readPart rfl rfl rfl hm2.1 rfl rfl (g_part G _ (q := 18) (lo := 0) (hi := 40) hA hB hn hm2 (by decide) (by decide) (by decide)) rfl rfl (Nat.le_of_ble_eq_true rfl) (by omega) ?_
        rintro _ h3 ⟨rfl, m3, hm3, hk3, hf3⟩
        refine v_run 0 (pc' := 27) (ls' := [some (.ref (ad 200)), some (.long (zL ↑(tV B n ((i + 1))))), none, none]) (st' := [.int (zI ↑(vP (sb (.inr ((i + 1) + 1)) (fun i => pNum B n 18 0 40 i)) 0))]) rfl ?_
        rcases hr3 : pNum B n 18 0 40 ((i + 1) + 1) with e | a
        · rw [show vP (sb (.inr ((i + 1) + 1)) (fun i => pNum B n 18 0 40 i)) 0 = 0 from by show vP (pNum B n 18 0 40 ((i + 1) + 1)) 0 = _; rw [hr3]; rfl]
          have hm3 : MRd h3 ad sv m3 B n ζ (.inl e) := by have hh := hm3; rw [show sb (.inr ((i + 1) + 1)) (fun i => sb (pNum B n 18 0 40 i) (fun a => .inr a.1)) = (.inl e : pR Nat) from by show sb (pNum B n 18 0 40 ((i + 1) + 1)) _ = _; rw [hr3]; rfl] at hh; exact hh
          have hm3 : MRd h3 ad sv m3 B n ζ (.inl e) := hm3
          refine v_run 2 (pc' := 29) (ls' := [some (.ref (ad 200)), some (.long (zL ↑(tV B n ((i + 1))))), none, some (.int (zI ↑((0 : Nat))))]) (st' := [.ref (ad 200)]) rfl ?_
          refine v_get rfl hm3.1 rfl ?_
          refine v_run 1 (pc' := 33) (ls' := [some (.ref (ad 200)), some (.long (zL ↑(tV B n ((i + 1))))), none, some (.int (zI ↑((0 : Nat))))]) (st' := [.int (zI 5), .int (zI (m3 9))]) rfl ?_
          refine v_icmp_ne rfl (fun c33 => ?_) (fun c33 => ?_)
          · exact absurd (by rw [hm3.2.2.2.2.1]) c33
          · rw [show lq B n ζ i (lAct B n ζ i) = .inl e from by simp only [lq, if_neg hq0, lAct, if_neg hcap, hr2, hr3, sb]]; exact v_vret rfl rfl ⟨rfl, m3, hm3, ((hk1.tr hk2).tr hk3), ((hf1.tr hf2).tr hf3)⟩
        · rw [show vP (sb (.inr ((i + 1) + 1)) (fun i => pNum B n 18 0 40 i)) 0 = a.2 from by show vP (pNum B n 18 0 40 ((i + 1) + 1)) 0 = _; rw [hr3]; rfl]
          have hb3 := pNum_b hr3
          have hm3 : MRd h3 ad sv m3 B n ζ (.inr a.1) := by have hh := hm3; rw [show sb (.inr ((i + 1) + 1)) (fun i => sb (pNum B n 18 0 40 i) (fun a => .inr a.1)) = (.inr a.1 : pR Nat) from by show sb (pNum B n 18 0 40 ((i + 1) + 1)) _ = _; rw [hr3]; rfl] at hh; exact hh
          refine v_run 2 (pc' := 29) (ls' := [some (.ref (ad 200)), some (.long (zL ↑(tV B n ((i + 1))))), none, some (.int (zI ↑a.2))]) (st' := [.ref (ad 200)]) rfl ?_
          refine v_get rfl hm3.1 rfl ?_
          refine v_run 1 (pc' := 33) (ls' := [some (.ref (ad 200)), some (.long (zL ↑(tV B n ((i + 1))))), none, some (.int (zI ↑a.2))]) (st' := [.int (zI 5), .int (zI (m3 9))]) rfl ?_
          refine v_icmp_ne rfl (fun c33 => ?_) (fun c33 => ?_)
          · refine v_run 4 (pc' := 41) (ls' := [some (.ref (ad 200)), some (.long (zL ↑(tV B n ((i + 1))))), none, some (.int (zI ↑a.2))]) (st' := [.ref (ad 200), .int (zI 2), .long (zL ↑(tV B n ((i + 1)))), .ref (ad 200)]) rfl ?_
            refine v_get rfl hm3.1 rfl ?_
            refine v_run 0 (pc' := 44) (ls' := [some (.ref (ad 200)), some (.long (zL ↑(tV B n ((i + 1))))), none, some (.int (zI ↑a.2))]) (st' := [.ref (ad 230), .int (zI 2), .long (zL ↑(tV B n ((i + 1)))), .ref (ad 200)]) rfl ?_
            refine v_get rfl hm3.2.2.1.1.1 rfl ?_
            refine v_run 0 (pc' := 47) (ls' := [some (.ref (ad 200)), some (.long (zL ↑(tV B n ((i + 1))))), none, some (.int (zI ↑a.2))]) (st' := [.int (zI ↑(ζ 6 0)), .int (zI 2), .long (zL ↑(tV B n ((i + 1)))), .ref (ad 200)]) rfl ?_
            refine v_callV (My := mX10_names) (As := [.long (zL ↑(tV B n ((i + 1)))), .int (zI 2), .int (zI ↑(ζ 6 0))]) (rest := []) (mc := 0) (ms := 0) rfl caX10_names rfl rfl rfl hm3.1 rfl rfl (g_names G _ (w := (tV B n (i + 1))) (s := 2) (k := ζ 6 0) hA hB hn hm3 (by omega)) rfl rfl (Nat.le_of_ble_eq_true rfl) (by omega) ?_
            rintro _ h4 ⟨rfl, m4, hm4, hk4, hf4⟩
            refine v_run 0 (pc' := 50) (ls' := [some (.ref (ad 200)), some (.long (zL ↑(tV B n ((i + 1))))), none, some (.int (zI ↑a.2))]) (st' := []) rfl ?_
            refine v_run 1 (pc' := 51) (ls' := [some (.ref (ad 200)), some (.long (zL ↑(tV B n ((i + 1))))), none, some (.int (zI ↑a.2))]) (st' := [.ref (ad 200)]) rfl ?_
            refine v_get rfl hm4.1 rfl ?_
            refine v_run 0 (pc' := 54) (ls' := [some (.ref (ad 200)), some (.long (zL ↑(tV B n ((i + 1))))), none, some (.int (zI ↑a.2))]) (st' := [.ref (ad 230)]) rfl ?_
            refine v_get rfl hm4.2.2.1.1.1 rfl ?_
            refine v_run 1 (pc' := 58) (ls' := [some (.ref (ad 200)), some (.long (zL ↑(tV B n ((i + 1))))), none, some (.int (zI ↑a.2))]) (st' := [.ref (ad 200), .ref (Sf ad 230 17)]) rfl ?_
            refine v_get rfl hm4.1 rfl ?_
            refine v_run 0 (pc' := 61) (ls' := [some (.ref (ad 200)), some (.long (zL ↑(tV B n ((i + 1))))), none, some (.int (zI ↑a.2))]) (st' := [.ref (ad 230), .ref (Sf ad 230 17)]) rfl ?_
            refine v_get rfl hm4.2.2.1.1.1 rfl ?_
            refine v_run 1 (pc' := 65) (ls' := [some (.ref (ad 200)), some (.long (zL ↑(tV B n ((i + 1))))), none, some (.int (zI ↑a.2))]) (st' := [.int (zI ↑a.2), .int (zI ↑(ζ 6 0)), .ref (Sf ad 230 17)]) rfl ?_
            refine v_iastore' rfl hm4.2.2.1.1.2.2.2.2.2.2.1 (i := ζ 6 0) rfl (by omega) ?_
            rw [ar_upd]
            have hm5 := hm4.r17 hA (ζ 6 0) a.2
            generalize e5 : hset h4 (Sf ad 230 17) _ = h5 at hm5 ⊢
            have hf5 : frN ad h4 h5 := e5 ▸ frN.set (Or.inr ⟨by decide, by decide⟩) _
            refine v_run 1 (pc' := 67) (ls' := [some (.ref (ad 200)), some (.long (zL ↑(tV B n ((i + 1))))), none, some (.int (zI ↑a.2))]) (st' := [.ref (ad 200)]) rfl ?_
            refine v_get rfl hm5.1 rfl ?_
            refine v_run 1 (pc' := 71) (ls' := [some (.ref (ad 200)), some (.long (zL ↑(tV B n ((i + 1))))), none, some (.int (zI ↑a.2))]) (st' := [.ref (ad 230), .ref (ad 230)]) rfl ?_
            refine v_get rfl hm5.2.2.1.1.1 rfl ?_
            refine v_run 2 (pc' := 76) (ls' := [some (.ref (ad 200)), some (.long (zL ↑(tV B n ((i + 1))))), none, some (.int (zI ↑a.2))]) (st' := [.int ((zI ↑(ζ 6 0)) + (zI 1)), .ref (ad 230)]) rfl ?_
            rw [show (((zI ↑(ζ 6 0)) + (zI 1)) : Int32) = zI ↑(ζ 6 0 + 1) from zI_s1 _]
            refine v_put rfl hm5.2.2.1.1.1 rfl rfl (Nat.le_of_ble_eq_true rfl) ?_
            have hm6 := hm5.i hA 6 (ζ 6 0 + 1) (by decide)
            generalize e6 : hset h5 (ad 230) _ = h6 at hm6 ⊢
            have hf6 : frN ad h5 h6 := e6 ▸ frN.set (Or.inr ⟨by decide, by decide⟩) _
            refine v_run 0 (pc' := 79) (ls' := [some (.ref (ad 200)), some (.long (zL ↑(tV B n ((i + 1))))), none, some (.int (zI ↑a.2))]) (st' := []) rfl ?_
            rw [show lq B n ζ i (lAct B n ζ i) = .inr (a.1, (zU (zU (zNm ζ (tV B n (i + 1)) 2 (ζ 6 0)) 17 (ζ 6 0) a.2) 6 0 (ζ 6 0 + 1))) from by simp only [lq, if_neg hq0, lAct, if_neg hcap, hr2, hr3, sb]]; exact v_vret rfl rfl ⟨rfl, m4, hm6, (((hk1.tr hk2).tr hk3).tr hk4), (((((hf1.tr hf2).tr hf3).tr hf4).tr hf5).tr hf6)⟩
          · exact absurd (hm3.2.2.2.2.2.1 ▸ c33) (m9_ne a.1)

