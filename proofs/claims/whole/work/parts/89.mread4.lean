theorem sb_sb {α β γ : Type} (u : pR α) (f : α → pR β) (g : β → pR γ) : sb (sb u f) g = sb u (fun i => sb (f i) g) := by cases u <;> rfl
def vP : pR (Nat × Nat) → Nat → Nat
  | .inl _, lo => lo
  | .inr a, _ => a.2
def vT : pR Nat → Nat
  | .inl _ => 0
  | .inr k => k
def smU (B : Nat → Int) (n : Nat) : pR Nat → pR Nat
  | .inl e => .inl e
  | .inr i => if tS B n i = 4 then .inr (i + 1) else .inr i
def smB (B : Nat → Int) (n : Nat) : pR Nat → Bool
  | .inl _ => false
  | .inr i => decide (tS B n i = 4)
def fdX (ζ : zT) (x : Int64) : Nat := fstN (fun k => decide (zL ↑(ζ 21 k) = x)) (ζ 11 0) 0
theorem fdX_bd (ζ : zT) (x : Int64) : fdX ζ x ≤ ζ 11 0 := by have := (fstN_bd (fun k => decide (zL ↑(ζ 21 k) = x)) (ζ 11 0) 0).2.1; unfold fdX; omega
theorem fdX_fnd {ζ : zT} {w : Nat} (hz : ∀ k, ζ 21 k < 1099511627776) (hw : w < 1099511627776) : fdX ζ (zL ↑w) = fnd ζ w := by
  unfold fdX fnd
  refine fstN_congr _ _ (fun k _ _ => ?_)
  have := hz k
  rw [decide_eq_decide, zL_eq (by omega) (by omega) (by omega) (by omega)]
  omega
set_option maxRecDepth 100000 in
set_option maxHeartbeats 400000 in
theorem g_eats (G : ssG) (h : ssH) {ad : Nat → Nat} {sv : Value} {m : Nat → Int} {B : Nat → Int} {n : Nat} {ζ : zT} {u : pR Nat}  (hA : ∀ k l, ad k = ad l → k = l) (hB : ∀ k, -128 ≤ B k ∧ B k ≤ 127) (hn : n ≤ 900) (hm : MRd h ad sv m B n ζ u)  : ssC G mX10_eatsSemicolon 2 0 0 [.ref (ad 200)] h (GQ ad sv m B n ζ (smU B n u) (some (.int (zb (smB B n u)))) h) := by
  refine c_of_v okX10_eatsSemicolon (by decide +kernel) (ls := [some (.ref (ad 200)), none]) rfl (Nat.le_of_ble_eq_true rfl) ?_
  rcases u with e | i
  · refine v_run 1 (pc' := 1) (ls' := [some (.ref (ad 200)), none]) (st' := [.ref (ad 200)]) rfl ?_
    refine v_get rfl hm.1 rfl ?_
    refine v_run 1 (pc' := 5) (ls' := [some (.ref (ad 200)), none]) (st' := [.int (zI 4), .int (zI (m 9))]) rfl ?_
    refine v_icmp_ne rfl (fun c5 => ?_) (fun c5 => ?_)
    · refine v_run 3 (pc' := 15) (ls' := [some (.ref (ad 200)), some (.int (zI 0))]) (st' := [.int (zI 0)]) rfl ?_
      refine v_if_eq rfl (fun c15 => ?_) (fun c15 => ?_)
      · refine v_run 1 (pc' := 23) (ls' := [some (.ref (ad 200)), some (.int (zI 0))]) (st' := [.int (zI 0)]) rfl ?_
        exact v_iret rfl rfl rfl ⟨rfl, m, hm, mKp.rf m, frN.rf ad h⟩
      · exact absurd rfl c15
    · exact absurd (hm.2.2.2.2.1 ▸ c5) (by decide)
  · obtain ⟨u1, u2, u3, u4, u5, u6⟩ := id hm.2.2.2.2
    have k4 : tS B n i ≤ 4 := kS_le _
    refine v_run 1 (pc' := 1) (ls' := [some (.ref (ad 200)), none]) (st' := [.ref (ad 200)]) rfl ?_
    refine v_get rfl hm.1 rfl ?_
    refine v_run 1 (pc' := 5) (ls' := [some (.ref (ad 200)), none]) (st' := [.int (zI 4), .int (zI (m 9))]) rfl ?_
    rw [u2]
    refine v_icmp_ne rfl (fun c5 => ?_) (fun c5 => ?_)
    · simp (disch := omega) only [zI_lt, zI_le, zI_eq, zI_lt0, zI_le0, zI_0lt, zI_0le, zI_eq0] at c5
      have es : ¬ tS B n i = 4 := by omega
      refine v_run 3 (pc' := 15) (ls' := [some (.ref (ad 200)), some (.int (zI 0))]) (st' := [.int (zI 0)]) rfl ?_
      refine v_if_eq rfl (fun c15 => ?_) (fun c15 => ?_)
      · refine v_run 1 (pc' := 23) (ls' := [some (.ref (ad 200)), some (.int (zI 0))]) (st' := [.int (zI 0)]) rfl ?_
        rw [show smU B n (.inr i) = .inr i from if_neg es, show smB B n (.inr i) = false from decide_eq_false es]
        exact v_iret rfl rfl rfl ⟨rfl, m, hm, mKp.rf m, frN.rf ad h⟩
      · exact absurd rfl c15
    · simp (disch := omega) only [zI_lt, zI_le, zI_eq, zI_lt0, zI_le0, zI_0lt, zI_0le, zI_eq0] at c5
      have es : tS B n i = 4 := by omega
      refine v_run 4 (pc' := 15) (ls' := [some (.ref (ad 200)), some (.int (zI 1))]) (st' := [.int (zI 1)]) rfl ?_
      refine v_if_eq rfl (fun c15 => ?_) (fun c15 => ?_)
      · exact absurd c15 (by decide)
      · refine v_run 1 (pc' := 19) (ls' := [some (.ref (ad 200)), some (.int (zI 1))]) (st' := [.ref (ad 200)]) rfl ?_
        refine v_callV (My := mX10_goesOn) (As := []) (rest := []) (mc := 0) (ms := 0) rfl caX10_goesOn rfl rfl rfl hm.1 rfl rfl (g_on G _ hA hB hn hm) rfl rfl (Nat.le_of_ble_eq_true rfl) (by omega) ?_
        rintro _ h1 ⟨rfl, m1, hm1, hk1, hf1⟩
        refine v_run 0 (pc' := 22) (ls' := [some (.ref (ad 200)), some (.int (zI 1))]) (st' := []) rfl ?_
        refine v_run 1 (pc' := 23) (ls' := [some (.ref (ad 200)), some (.int (zI 1))]) (st' := [.int (zI 1)]) rfl ?_
        rw [show smU B n (.inr i) = .inr (i + 1) from if_pos es, show smB B n (.inr i) = true from decide_eq_true es]
        exact v_iret rfl rfl rfl ⟨rfl, m1, hm1, hk1, hf1⟩

set_option maxRecDepth 100000 in
set_option maxHeartbeats 400000 in
theorem g_needs (G : ssG) (h : ssH) {ad : Nat → Nat} {sv : Value} {m : Nat → Int} {B : Nat → Int} {n : Nat} {ζ : zT} {u : pR Nat} {q : Nat} (hA : ∀ k l, ad k = ad l → k = l) (hB : ∀ k, -128 ≤ B k ∧ B k ≤ 127) (hn : n ≤ 900) (hm : MRd h ad sv m B n ζ u) (hq : 1 ≤ q ∧ q ≤ 21) : ssC G mX10_needs 6 0 0 [.ref (ad 200), .ref (gK G (q - 1))] h (GQ ad sv m B n ζ (sb u (fun i => pWd B n q i)) (none) h) := by
  refine c_of_v okX10_needs (by decide +kernel) (ls := [some (.ref (ad 200)), some (.ref (gK G (q - 1)))]) rfl (Nat.le_of_ble_eq_true rfl) ?_
  refine v_run 2 (pc' := 2) (ls' := [some (.ref (ad 200)), some (.ref (gK G (q - 1)))]) (st' := [.ref (gK G (q - 1)), .ref (ad 200)]) rfl ?_
  refine v_callV (My := mX10_isWord) (As := [.ref (gK G (q - 1))]) (rest := []) (mc := 0) (ms := 0) rfl caX10_isWord rfl rfl rfl hm.1 rfl rfl (g_isWord G _ (q := q) hA hB hn hm hq) rfl rfl (Nat.le_of_ble_eq_true rfl) (by omega) ?_
  rintro _ _ ⟨rfl, rfl⟩
  refine v_run 0 (pc' := 5) (ls' := [some (.ref (ad 200)), some (.ref (gK G (q - 1)))]) (st' := [.int (zb (isU B n q u))]) rfl ?_
  refine v_if_ne rfl (fun c5 => ?_) (fun c5 => ?_)
  · rw [zb_n, Bool.not_eq_false] at c5
    refine v_run 1 (pc' := 14) (ls' := [some (.ref (ad 200)), some (.ref (gK G (q - 1)))]) (st' := [.ref (ad 200)]) rfl ?_
    refine v_callV (My := mX10_goesOn) (As := []) (rest := []) (mc := 0) (ms := 0) rfl caX10_goesOn rfl rfl rfl hm.1 rfl rfl (g_on G _ hA hB hn hm) rfl rfl (Nat.le_of_ble_eq_true rfl) (by omega) ?_
    rintro _ h1 ⟨rfl, m1, hm1, hk1, hf1⟩
    refine v_run 0 (pc' := 17) (ls' := [some (.ref (ad 200)), some (.ref (gK G (q - 1)))]) (st' := []) rfl ?_
    rw [show sb u (fun i => pWd B n q i) = sb (u) (fun i => .inr (i + 1)) from by cases u with | inl e => rfl | inr i => exact if_pos (of_decide_eq_true c5)]
    exact v_vret rfl rfl ⟨rfl, m1, hm1, hk1, hf1⟩
  · rw [zb_n] at c5
    refine v_run 2 (pc' := 10) (ls' := [some (.ref (ad 200)), some (.ref (gK G (q - 1)))]) (st' := [.int (zI 1), .ref (ad 200)]) rfl ?_
    refine v_callV (My := mX10_flaw) (As := [.int (zI 1)]) (rest := []) (mc := 0) (ms := 0) rfl caX10_flaw rfl rfl rfl hm.1 rfl rfl (g_flaw G _ (f := 1) hA hB hn hm) rfl rfl (Nat.le_of_ble_eq_true rfl) (by omega) ?_
    rintro _ h1 ⟨rfl, m1, hm1, hk1, hf1⟩
    refine v_run 0 (pc' := 13) (ls' := [some (.ref (ad 200)), some (.ref (gK G (q - 1)))]) (st' := []) rfl ?_
    refine v_run 1 (pc' := 14) (ls' := [some (.ref (ad 200)), some (.ref (gK G (q - 1)))]) (st' := [.ref (ad 200)]) rfl ?_
    refine v_callV (My := mX10_goesOn) (As := []) (rest := []) (mc := 0) (ms := 0) rfl caX10_goesOn rfl rfl rfl hm1.1 rfl rfl (g_on G _ hA hB hn hm1) rfl rfl (Nat.le_of_ble_eq_true rfl) (by omega) ?_
    rintro _ h2 ⟨rfl, m2, hm2, hk2, hf2⟩
    refine v_run 0 (pc' := 17) (ls' := [some (.ref (ad 200)), some (.ref (gK G (q - 1)))]) (st' := []) rfl ?_
    rw [show sb u (fun i => pWd B n q i) = sb (sb (u) (fun i => .inl (1, tP B n i))) (fun i => .inr (i + 1)) from by cases u with | inl e => rfl | inr i => exact if_neg (of_decide_eq_false c5)]
    exact v_vret rfl rfl ⟨rfl, m2, hm2, (hk1.tr hk2), (hf1.tr hf2)⟩

set_option maxRecDepth 100000 in
set_option maxHeartbeats 400000 in
theorem g_part (G : ssG) (h : ssH) {ad : Nat → Nat} {sv : Value} {m : Nat → Int} {B : Nat → Int} {n : Nat} {ζ : zT} {u : pR Nat} {q lo hi : Nat} (hA : ∀ k l, ad k = ad l → k = l) (hB : ∀ k, -128 ≤ B k ∧ B k ≤ 127) (hn : n ≤ 900) (hm : MRd h ad sv m B n ζ u) (hq : 1 ≤ q ∧ q ≤ 21) (hlo : lo ≤ 100) (hhi : hi ≤ 100) : ssC G mX10_readPart 7 0 0 [.ref (ad 200), .ref (gK G (q - 1)), .int (zI ↑lo), .int (zI ↑hi)] h (GQ ad sv m B n ζ (sb u (fun i => sb (pNum B n q lo hi i) (fun a => .inr a.1))) (some (.int (zI ↑(vP (sb u (fun i => pNum B n q lo hi i)) lo)))) h) := by
  refine c_of_v okX10_readPart (by decide +kernel) (ls := [some (.ref (ad 200)), some (.ref (gK G (q - 1))), some (.int (zI ↑lo)), some (.int (zI ↑hi)), none]) rfl (Nat.le_of_ble_eq_true rfl) ?_
  refine v_run 2 (pc' := 2) (ls' := [some (.ref (ad 200)), some (.ref (gK G (q - 1))), some (.int (zI ↑lo)), some (.int (zI ↑hi)), none]) (st' := [.ref (gK G (q - 1)), .ref (ad 200)]) rfl ?_
  refine v_callV (My := mX10_needs) (As := [.ref (gK G (q - 1))]) (rest := []) (mc := 0) (ms := 0) rfl caX10_needs rfl rfl rfl hm.1 rfl rfl (g_needs G _ hA hB hn hm hq) rfl rfl (Nat.le_of_ble_eq_true rfl) (by omega) ?_
  rintro _ h1 ⟨rfl, m1, hm1, hk1, hf1⟩
  refine v_run 0 (pc' := 5) (ls' := [some (.ref (ad 200)), some (.ref (gK G (q - 1))), some (.int (zI ↑lo)), some (.int (zI ↑hi)), none]) (st' := []) rfl ?_
  have ea : sb u (fun i => sb (pNum B n q lo hi i) (fun a => .inr a.1)) = sb (sb (sb u (fun i => pWd B n q i)) (fun j => pVal B n lo hi j)) (fun a => .inr a.1) := by cases u <;> rfl
  have eb : sb u (fun i => pNum B n q lo hi i) = sb (sb u (fun i => pWd B n q i)) (fun j => pVal B n lo hi j) := by cases u <;> rfl
  rw [ea, eb]
  generalize sb u (fun i => pWd B n q i) = v at hm1 ⊢
  rcases v with e | j
  · refine v_run 1 (pc' := 6) (ls' := [some (.ref (ad 200)), some (.ref (gK G (q - 1))), some (.int (zI ↑lo)), some (.int (zI ↑hi)), none]) (st' := [.ref (ad 200)]) rfl ?_
    refine v_get rfl hm1.1 rfl ?_
    refine v_run 1 (pc' := 10) (ls' := [some (.ref (ad 200)), some (.ref (gK G (q - 1))), some (.int (zI ↑lo)), some (.int (zI ↑hi)), none]) (st' := [.int (zI 3), .int (zI (m1 9))]) rfl ?_
    refine v_icmp_eq rfl (fun c10 => ?_) (fun c10 => ?_)
    · exact absurd (hm1.2.2.2.2.1 ▸ c10) (by decide)
    · refine v_run 2 (pc' := 15) (ls' := [some (.ref (ad 200)), some (.ref (gK G (q - 1))), some (.int (zI ↑lo)), some (.int (zI ↑hi)), none]) (st' := [.int (zI 1), .ref (ad 200)]) rfl ?_
      refine v_callV (My := mX10_flaw) (As := [.int (zI 1)]) (rest := []) (mc := 0) (ms := 0) rfl caX10_flaw rfl rfl rfl hm1.1 rfl rfl (g_flaw G _ (f := 1) hA hB hn hm1) rfl rfl (Nat.le_of_ble_eq_true rfl) (by omega) ?_
      rintro _ h2 ⟨rfl, m2, hm2, hk2, hf2⟩
      refine v_run 0 (pc' := 18) (ls' := [some (.ref (ad 200)), some (.ref (gK G (q - 1))), some (.int (zI ↑lo)), some (.int (zI ↑hi)), none]) (st' := []) rfl ?_
      refine v_run 2 (pc' := 39) (ls' := [some (.ref (ad 200)), some (.ref (gK G (q - 1))), some (.int (zI ↑lo)), some (.int (zI ↑hi)), none]) (st' := [.ref (ad 200)]) rfl ?_
      refine v_get rfl hm2.1 rfl ?_
      refine v_run 1 (pc' := 43) (ls' := [some (.ref (ad 200)), some (.ref (gK G (q - 1))), some (.int (zI ↑lo)), some (.int (zI ↑hi)), none]) (st' := [.int (zI 5), .int (zI (m2 9))]) rfl ?_
      refine v_icmp_ne rfl (fun c43 => ?_) (fun c43 => ?_)
      · exact absurd (by rw [hm2.2.2.2.2.1]) c43
      · refine v_run 4 (pc' := 57) (ls' := [some (.ref (ad 200)), some (.ref (gK G (q - 1))), some (.int (zI ↑lo)), some (.int (zI ↑hi)), some (.int (zI ↑lo))]) (st' := [.ref (ad 200)]) rfl ?_
        refine v_callV (My := mX10_goesOn) (As := []) (rest := []) (mc := 0) (ms := 0) rfl caX10_goesOn rfl rfl rfl hm2.1 rfl rfl (g_on G _ hA hB hn hm2) rfl rfl (Nat.le_of_ble_eq_true rfl) (by omega) ?_
        rintro _ h3 ⟨rfl, m3, hm3, hk3, hf3⟩
        refine v_run 0 (pc' := 60) (ls' := [some (.ref (ad 200)), some (.ref (gK G (q - 1))), some (.int (zI ↑lo)), some (.int (zI ↑hi)), some (.int (zI ↑lo))]) (st' := []) rfl ?_
        refine v_run 1 (pc' := 62) (ls' := [some (.ref (ad 200)), some (.ref (gK G (q - 1))), some (.int (zI ↑lo)), some (.int (zI ↑hi)), some (.int (zI ↑lo))]) (st' := [.int (zI ↑lo)]) rfl ?_
        exact v_iret rfl rfl rfl ⟨rfl, m3, hm3, ((hk1.tr hk2).tr hk3), ((hf1.tr hf2).tr hf3)⟩
  · obtain ⟨z1, z2, z3, z4, z5, z6⟩ := id hm1.2.2.2.2
    have k4 : tS B n j ≤ 4 := kS_le _
    refine v_run 1 (pc' := 6) (ls' := [some (.ref (ad 200)), some (.ref (gK G (q - 1))), some (.int (zI ↑lo)), some (.int (zI ↑hi)), none]) (st' := [.ref (ad 200)]) rfl ?_
    refine v_get rfl hm1.1 rfl ?_
    refine v_run 1 (pc' := 10) (ls' := [some (.ref (ad 200)), some (.ref (gK G (q - 1))), some (.int (zI ↑lo)), some (.int (zI ↑hi)), none]) (st' := [.int (zI 3), .int (zI (m1 9))]) rfl ?_
    rw [z2]
    refine v_icmp_eq rfl (fun c10 => ?_) (fun c10 => ?_)
    · simp (disch := omega) only [zI_lt, zI_le, zI_eq, zI_lt0, zI_le0, zI_0lt, zI_0le, zI_eq0] at c10
      have es : tS B n j = 3 := by omega
      have hv : tV B n j < 1000 := kV_lt3 es
      refine v_run 1 (pc' := 22) (ls' := [some (.ref (ad 200)), some (.ref (gK G (q - 1))), some (.int (zI ↑lo)), some (.int (zI ↑hi)), none]) (st' := [.ref (ad 200)]) rfl ?_
      refine v_get rfl hm1.1 rfl ?_
      refine v_run 2 (pc' := 27) (ls' := [some (.ref (ad 200)), some (.ref (gK G (q - 1))), some (.int (zI ↑lo)), some (.int (zI ↑hi)), none]) (st' := [.int (zI ↑hi), .int (zI ↑lo), .int (zI (m1 11))]) rfl ?_
      rw [z5 es]
      refine v_callS (My := mX10_in) (As := [.int (zI ↑(tV B n j)), .int (zI ↑lo), .int (zI ↑hi)]) (rest := []) (mc := 0) (ms := 0) rfl caX10_in rfl rfl (q_in G _ ↑(tV B n j) ↑lo ↑hi (by omega) (by omega) (by omega)) rfl rfl (Nat.le_of_ble_eq_true rfl) (by omega) ?_
      rintro _ _ ⟨rfl, rfl⟩
      refine v_run 0 (pc' := 30) (ls' := [some (.ref (ad 200)), some (.ref (gK G (q - 1))), some (.int (zI ↑lo)), some (.int (zI ↑hi)), none]) (st' := [.int (zb (decide (((lo : Nat) : Int) ≤ ↑(tV B n j) ∧ ((tV B n j : Nat) : Int) ≤ ↑hi)))]) rfl ?_
      refine v_if_ne rfl (fun c30 => ?_) (fun c30 => ?_)
      · rw [zb_n, Bool.not_eq_false, decide_eq_true_eq] at c30
        refine v_run 1 (pc' := 39) (ls' := [some (.ref (ad 200)), some (.ref (gK G (q - 1))), some (.int (zI ↑lo)), some (.int (zI ↑hi)), none]) (st' := [.ref (ad 200)]) rfl ?_
        refine v_get rfl hm1.1 rfl ?_
        refine v_run 1 (pc' := 43) (ls' := [some (.ref (ad 200)), some (.ref (gK G (q - 1))), some (.int (zI ↑lo)), some (.int (zI ↑hi)), none]) (st' := [.int (zI 5), .int (zI (m1 9))]) rfl ?_
        refine v_icmp_ne rfl (fun c43 => ?_) (fun c43 => ?_)
        · refine v_run 1 (pc' := 51) (ls' := [some (.ref (ad 200)), some (.ref (gK G (q - 1))), some (.int (zI ↑lo)), some (.int (zI ↑hi)), none]) (st' := [.ref (ad 200)]) rfl ?_
          refine v_get rfl hm1.1 rfl ?_
          refine v_run 2 (pc' := 57) (ls' := [some (.ref (ad 200)), some (.ref (gK G (q - 1))), some (.int (zI ↑lo)), some (.int (zI ↑hi)), some (.int (zI (m1 11)))]) (st' := [.ref (ad 200)]) rfl ?_
          rw [z5 es]
          refine v_callV (My := mX10_goesOn) (As := []) (rest := []) (mc := 0) (ms := 0) rfl caX10_goesOn rfl rfl rfl hm1.1 rfl rfl (g_on G _ hA hB hn hm1) rfl rfl (Nat.le_of_ble_eq_true rfl) (by omega) ?_
          rintro _ h2 ⟨rfl, m2, hm2, hk2, hf2⟩
          refine v_run 0 (pc' := 60) (ls' := [some (.ref (ad 200)), some (.ref (gK G (q - 1))), some (.int (zI ↑lo)), some (.int (zI ↑hi)), some (.int (zI ↑(tV B n j)))]) (st' := []) rfl ?_
          refine v_run 1 (pc' := 62) (ls' := [some (.ref (ad 200)), some (.ref (gK G (q - 1))), some (.int (zI ↑lo)), some (.int (zI ↑hi)), some (.int (zI ↑(tV B n j)))]) (st' := [.int (zI ↑(tV B n j))]) rfl ?_
          rw [show sb (.inr j) (fun j => pVal B n lo hi j) = .inr (j + 1, tV B n j) from (if_pos es).trans (if_pos (by omega))]
          exact v_iret rfl rfl rfl ⟨rfl, m2, hm2, (hk1.tr hk2), (hf1.tr hf2)⟩
        · exact absurd (z2 ▸ c43) (m9_ne j)
      · rw [zb_n, decide_eq_false_iff_not] at c30
        refine v_run 2 (pc' := 35) (ls' := [some (.ref (ad 200)), some (.ref (gK G (q - 1))), some (.int (zI ↑lo)), some (.int (zI ↑hi)), none]) (st' := [.int (zI 4), .ref (ad 200)]) rfl ?_
        refine v_callV (My := mX10_flaw) (As := [.int (zI 4)]) (rest := []) (mc := 0) (ms := 0) rfl caX10_flaw rfl rfl rfl hm1.1 rfl rfl (g_flaw G _ (f := 4) hA hB hn hm1) rfl rfl (Nat.le_of_ble_eq_true rfl) (by omega) ?_
        rintro _ h2 ⟨rfl, m2, hm2, hk2, hf2⟩
        refine v_run 0 (pc' := 38) (ls' := [some (.ref (ad 200)), some (.ref (gK G (q - 1))), some (.int (zI ↑lo)), some (.int (zI ↑hi)), none]) (st' := []) rfl ?_
        refine v_run 1 (pc' := 39) (ls' := [some (.ref (ad 200)), some (.ref (gK G (q - 1))), some (.int (zI ↑lo)), some (.int (zI ↑hi)), none]) (st' := [.ref (ad 200)]) rfl ?_
        refine v_get rfl hm2.1 rfl ?_
        refine v_run 1 (pc' := 43) (ls' := [some (.ref (ad 200)), some (.ref (gK G (q - 1))), some (.int (zI ↑lo)), some (.int (zI ↑hi)), none]) (st' := [.int (zI 5), .int (zI (m2 9))]) rfl ?_
        refine v_icmp_ne rfl (fun c43 => ?_) (fun c43 => ?_)
        · exact absurd (by rw [hm2.2.2.2.2.1]) c43
        · refine v_run 4 (pc' := 57) (ls' := [some (.ref (ad 200)), some (.ref (gK G (q - 1))), some (.int (zI ↑lo)), some (.int (zI ↑hi)), some (.int (zI ↑lo))]) (st' := [.ref (ad 200)]) rfl ?_
          refine v_callV (My := mX10_goesOn) (As := []) (rest := []) (mc := 0) (ms := 0) rfl caX10_goesOn rfl rfl rfl hm2.1 rfl rfl (g_on G _ hA hB hn hm2) rfl rfl (Nat.le_of_ble_eq_true rfl) (by omega) ?_
          rintro _ h3 ⟨rfl, m3, hm3, hk3, hf3⟩
          refine v_run 0 (pc' := 60) (ls' := [some (.ref (ad 200)), some (.ref (gK G (q - 1))), some (.int (zI ↑lo)), some (.int (zI ↑hi)), some (.int (zI ↑lo))]) (st' := []) rfl ?_
          refine v_run 1 (pc' := 62) (ls' := [some (.ref (ad 200)), some (.ref (gK G (q - 1))), some (.int (zI ↑lo)), some (.int (zI ↑hi)), some (.int (zI ↑lo))]) (st' := [.int (zI ↑lo)]) rfl ?_
          rw [show sb (.inr j) (fun j => pVal B n lo hi j) = .inl (4, tP B n j) from (if_pos es).trans (if_neg (by omega))]
          exact v_iret rfl rfl rfl ⟨rfl, m3, hm3, ((hk1.tr hk2).tr hk3), ((hf1.tr hf2).tr hf3)⟩
    · simp (disch := omega) only [zI_lt, zI_le, zI_eq, zI_lt0, zI_le0, zI_0lt, zI_0le, zI_eq0] at c10
      have es : ¬ tS B n j = 3 := by omega
      refine v_run 2 (pc' := 15) (ls' := [some (.ref (ad 200)), some (.ref (gK G (q - 1))), some (.int (zI ↑lo)), some (.int (zI ↑hi)), none]) (st' := [.int (zI 1), .ref (ad 200)]) rfl ?_
      refine v_callV (My := mX10_flaw) (As := [.int (zI 1)]) (rest := []) (mc := 0) (ms := 0) rfl caX10_flaw rfl rfl rfl hm1.1 rfl rfl (g_flaw G _ (f := 1) hA hB hn hm1) rfl rfl (Nat.le_of_ble_eq_true rfl) (by omega) ?_
      rintro _ h2 ⟨rfl, m2, hm2, hk2, hf2⟩
      refine v_run 0 (pc' := 18) (ls' := [some (.ref (ad 200)), some (.ref (gK G (q - 1))), some (.int (zI ↑lo)), some (.int (zI ↑hi)), none]) (st' := []) rfl ?_
      refine v_run 2 (pc' := 39) (ls' := [some (.ref (ad 200)), some (.ref (gK G (q - 1))), some (.int (zI ↑lo)), some (.int (zI ↑hi)), none]) (st' := [.ref (ad 200)]) rfl ?_
      refine v_get rfl hm2.1 rfl ?_
      refine v_run 1 (pc' := 43) (ls' := [some (.ref (ad 200)), some (.ref (gK G (q - 1))), some (.int (zI ↑lo)), some (.int (zI ↑hi)), none]) (st' := [.int (zI 5), .int (zI (m2 9))]) rfl ?_
      refine v_icmp_ne rfl (fun c43 => ?_) (fun c43 => ?_)
      · exact absurd (by rw [hm2.2.2.2.2.1]) c43
      · refine v_run 4 (pc' := 57) (ls' := [some (.ref (ad 200)), some (.ref (gK G (q - 1))), some (.int (zI ↑lo)), some (.int (zI ↑hi)), some (.int (zI ↑lo))]) (st' := [.ref (ad 200)]) rfl ?_
        refine v_callV (My := mX10_goesOn) (As := []) (rest := []) (mc := 0) (ms := 0) rfl caX10_goesOn rfl rfl rfl hm2.1 rfl rfl (g_on G _ hA hB hn hm2) rfl rfl (Nat.le_of_ble_eq_true rfl) (by omega) ?_
        rintro _ h3 ⟨rfl, m3, hm3, hk3, hf3⟩
        refine v_run 0 (pc' := 60) (ls' := [some (.ref (ad 200)), some (.ref (gK G (q - 1))), some (.int (zI ↑lo)), some (.int (zI ↑hi)), some (.int (zI ↑lo))]) (st' := []) rfl ?_
        refine v_run 1 (pc' := 62) (ls' := [some (.ref (ad 200)), some (.ref (gK G (q - 1))), some (.int (zI ↑lo)), some (.int (zI ↑hi)), some (.int (zI ↑lo))]) (st' := [.int (zI ↑lo)]) rfl ?_
        rw [show sb (.inr j) (fun j => pVal B n lo hi j) = .inl (1, tP B n j) from if_neg es]
        exact v_iret rfl rfl rfl ⟨rfl, m3, hm3, ((hk1.tr hk2).tr hk3), ((hf1.tr hf2).tr hf3)⟩

set_option maxRecDepth 100000 in
set_option maxHeartbeats 400000 in
theorem g_isName (G : ssG) (h : ssH) {ad : Nat → Nat} {sv : Value} {m : Nat → Int} {B : Nat → Int} {n : Nat} {ζ : zT} {u : pR Nat}  (hA : ∀ k l, ad k = ad l → k = l) (hB : ∀ k, -128 ≤ B k ∧ B k ≤ 127) (hn : n ≤ 900) (hm : MRd h ad sv m B n ζ u)  : ssC G mX10_isName 6 0 0 [.ref (ad 200)] h (rI (zb (nmU B n u)) h) := by
  refine c_of_v okX10_isName (by decide +kernel) (ls := [some (.ref (ad 200))]) rfl (Nat.le_of_ble_eq_true rfl) ?_
  rcases u with e | i
  · refine v_run 1 (pc' := 1) (ls' := [some (.ref (ad 200))]) (st' := [.ref (ad 200)]) rfl ?_
    refine v_get rfl hm.1 rfl ?_
    refine v_run 1 (pc' := 5) (ls' := [some (.ref (ad 200))]) (st' := [.int (zI 2), .int (zI (m 9))]) rfl ?_
    refine v_icmp_ne rfl (fun c5 => ?_) (fun c5 => ?_)
    · refine v_run 1 (pc' := 54) (ls' := [some (.ref (ad 200))]) (st' := [.int (zI 0)]) rfl ?_
      exact v_iret rfl rfl rfl ⟨rfl, rfl⟩
    · exact absurd (hm.2.2.2.2.1 ▸ c5) (by decide)
  · obtain ⟨u1, u2, u3, u4, u5, u6⟩ := id hm.2.2.2.2
    have k4 : tS B n i ≤ 4 := kS_le _
    refine v_run 1 (pc' := 1) (ls' := [some (.ref (ad 200))]) (st' := [.ref (ad 200)]) rfl ?_
    refine v_get rfl hm.1 rfl ?_
    refine v_run 1 (pc' := 5) (ls' := [some (.ref (ad 200))]) (st' := [.int (zI 2), .int (zI (m 9))]) rfl ?_
    rw [u2]
    refine v_icmp_ne rfl (fun c5 => ?_) (fun c5 => ?_)
    · simp (disch := omega) only [zI_lt, zI_le, zI_eq, zI_lt0, zI_le0, zI_0lt, zI_0le, zI_eq0] at c5
      refine v_run 1 (pc' := 54) (ls' := [some (.ref (ad 200))]) (st' := [.int (zI 0)]) rfl ?_
      exact v_iret rfl rfl rfl ⟨by rw [show nmU B n (.inr i) = false from decide_eq_false (fun z => by have := z.1; omega)]; rfl, rfl⟩
    · simp (disch := omega) only [zI_lt, zI_le, zI_eq, zI_lt0, zI_le0, zI_0lt, zI_0le, zI_eq0] at c5
      have es : tS B n i = 2 := by omega
      refine v_run 1 (pc' := 9) (ls' := [some (.ref (ad 200))]) (st' := [.ref (ad 200)]) rfl ?_
      refine v_ldcS rfl ?_
      refine v_run 0 (pc' := 11) (ls' := [some (.ref (ad 200))]) (st' := [.ref (gK G 0), .ref (ad 200)]) rfl ?_
      refine v_callV (My := mX10_isWord) (As := [.ref (gK G 0)]) (rest := []) (mc := 0) (ms := 0) rfl caX10_isWord rfl rfl rfl hm.1 rfl rfl (g_isWord G _ (q := 1) hA hB hn hm (by decide)) rfl rfl (Nat.le_of_ble_eq_true rfl) (by omega) ?_
      rintro _ _ ⟨rfl, rfl⟩
      refine v_run 0 (pc' := 14) (ls' := [some (.ref (ad 200))]) (st' := [.int (zb (isU B n 1 (.inr i)))]) rfl ?_
      refine v_if_ne rfl (fun c14 => ?_) (fun c14 => ?_)
      · rw [zb_n, Bool.not_eq_false] at c14
        have ek : tK B n i = 1 := of_decide_eq_true c14
        refine v_run 1 (pc' := 54) (ls' := [some (.ref (ad 200))]) (st' := [.int (zI 0)]) rfl ?_
        exact v_iret rfl rfl rfl ⟨by rw [show nmU B n (.inr i) = false from decide_eq_false (fun z => by have := z.2; omega)]; rfl, rfl⟩
      · rw [zb_n] at c14
        have ek1 : ¬ tK B n i = 1 := of_decide_eq_false c14
        refine v_run 1 (pc' := 18) (ls' := [some (.ref (ad 200))]) (st' := [.ref (ad 200)]) rfl ?_
        refine v_ldcS rfl ?_
        refine v_run 0 (pc' := 20) (ls' := [some (.ref (ad 200))]) (st' := [.ref (gK G 1), .ref (ad 200)]) rfl ?_
        refine v_callV (My := mX10_isWord) (As := [.ref (gK G 1)]) (rest := []) (mc := 0) (ms := 0) rfl caX10_isWord rfl rfl rfl hm.1 rfl rfl (g_isWord G _ (q := 2) hA hB hn hm (by decide)) rfl rfl (Nat.le_of_ble_eq_true rfl) (by omega) ?_
        rintro _ _ ⟨rfl, rfl⟩
        refine v_run 0 (pc' := 23) (ls' := [some (.ref (ad 200))]) (st' := [.int (zb (isU B n 2 (.inr i)))]) rfl ?_
        refine v_if_ne rfl (fun c23 => ?_) (fun c23 => ?_)
        · rw [zb_n, Bool.not_eq_false] at c23
          have ek : tK B n i = 2 := of_decide_eq_true c23
          refine v_run 1 (pc' := 54) (ls' := [some (.ref (ad 200))]) (st' := [.int (zI 0)]) rfl ?_
          exact v_iret rfl rfl rfl ⟨by rw [show nmU B n (.inr i) = false from decide_eq_false (fun z => by have := z.2; omega)]; rfl, rfl⟩
        · rw [zb_n] at c23
          have ek2 : ¬ tK B n i = 2 := of_decide_eq_false c23
          refine v_run 1 (pc' := 27) (ls' := [some (.ref (ad 200))]) (st' := [.ref (ad 200)]) rfl ?_
          refine v_ldcS rfl ?_
          refine v_run 0 (pc' := 29) (ls' := [some (.ref (ad 200))]) (st' := [.ref (gK G 2), .ref (ad 200)]) rfl ?_
          refine v_callV (My := mX10_isWord) (As := [.ref (gK G 2)]) (rest := []) (mc := 0) (ms := 0) rfl caX10_isWord rfl rfl rfl hm.1 rfl rfl (g_isWord G _ (q := 3) hA hB hn hm (by decide)) rfl rfl (Nat.le_of_ble_eq_true rfl) (by omega) ?_
          rintro _ _ ⟨rfl, rfl⟩
          refine v_run 0 (pc' := 32) (ls' := [some (.ref (ad 200))]) (st' := [.int (zb (isU B n 3 (.inr i)))]) rfl ?_
          refine v_if_ne rfl (fun c32 => ?_) (fun c32 => ?_)
          · rw [zb_n, Bool.not_eq_false] at c32
            have ek : tK B n i = 3 := of_decide_eq_true c32
            refine v_run 1 (pc' := 54) (ls' := [some (.ref (ad 200))]) (st' := [.int (zI 0)]) rfl ?_
            exact v_iret rfl rfl rfl ⟨by rw [show nmU B n (.inr i) = false from decide_eq_false (fun z => by have := z.2; omega)]; rfl, rfl⟩
          · rw [zb_n] at c32
            have ek3 : ¬ tK B n i = 3 := of_decide_eq_false c32
            refine v_run 1 (pc' := 36) (ls' := [some (.ref (ad 200))]) (st' := [.ref (ad 200)]) rfl ?_
            refine v_ldcS rfl ?_
            refine v_run 0 (pc' := 38) (ls' := [some (.ref (ad 200))]) (st' := [.ref (gK G 3), .ref (ad 200)]) rfl ?_
            refine v_callV (My := mX10_isWord) (As := [.ref (gK G 3)]) (rest := []) (mc := 0) (ms := 0) rfl caX10_isWord rfl rfl rfl hm.1 rfl rfl (g_isWord G _ (q := 4) hA hB hn hm (by decide)) rfl rfl (Nat.le_of_ble_eq_true rfl) (by omega) ?_
            rintro _ _ ⟨rfl, rfl⟩
            refine v_run 0 (pc' := 41) (ls' := [some (.ref (ad 200))]) (st' := [.int (zb (isU B n 4 (.inr i)))]) rfl ?_
            refine v_if_ne rfl (fun c41 => ?_) (fun c41 => ?_)
            · rw [zb_n, Bool.not_eq_false] at c41
              have ek : tK B n i = 4 := of_decide_eq_true c41
              refine v_run 1 (pc' := 54) (ls' := [some (.ref (ad 200))]) (st' := [.int (zI 0)]) rfl ?_
              exact v_iret rfl rfl rfl ⟨by rw [show nmU B n (.inr i) = false from decide_eq_false (fun z => by have := z.2; omega)]; rfl, rfl⟩
            · rw [zb_n] at c41
              have ek4 : ¬ tK B n i = 4 := of_decide_eq_false c41
              refine v_run 1 (pc' := 45) (ls' := [some (.ref (ad 200))]) (st' := [.ref (ad 200)]) rfl ?_
              refine v_ldcS rfl ?_
              refine v_run 0 (pc' := 47) (ls' := [some (.ref (ad 200))]) (st' := [.ref (gK G 4), .ref (ad 200)]) rfl ?_
              refine v_callV (My := mX10_isWord) (As := [.ref (gK G 4)]) (rest := []) (mc := 0) (ms := 0) rfl caX10_isWord rfl rfl rfl hm.1 rfl rfl (g_isWord G _ (q := 5) hA hB hn hm (by decide)) rfl rfl (Nat.le_of_ble_eq_true rfl) (by omega) ?_
              rintro _ _ ⟨rfl, rfl⟩
              refine v_run 0 (pc' := 50) (ls' := [some (.ref (ad 200))]) (st' := [.int (zb (isU B n 5 (.inr i)))]) rfl ?_
              refine v_if_eq rfl (fun c50 => ?_) (fun c50 => ?_)
              · rw [zb_n] at c50
                have ek5 : ¬ tK B n i = 5 := of_decide_eq_false c50
                refine v_run 1 (pc' := 56) (ls' := [some (.ref (ad 200))]) (st' := [.ref (ad 200)]) rfl ?_
                refine v_ldcS rfl ?_
                refine v_run 0 (pc' := 58) (ls' := [some (.ref (ad 200))]) (st' := [.ref (gK G 5), .ref (ad 200)]) rfl ?_
                refine v_callV (My := mX10_isWord) (As := [.ref (gK G 5)]) (rest := []) (mc := 0) (ms := 0) rfl caX10_isWord rfl rfl rfl hm.1 rfl rfl (g_isWord G _ (q := 6) hA hB hn hm (by decide)) rfl rfl (Nat.le_of_ble_eq_true rfl) (by omega) ?_
                rintro _ _ ⟨rfl, rfl⟩
                refine v_run 0 (pc' := 61) (ls' := [some (.ref (ad 200))]) (st' := [.int (zb (isU B n 6 (.inr i)))]) rfl ?_
                refine v_if_ne rfl (fun c61 => ?_) (fun c61 => ?_)
                · rw [zb_n, Bool.not_eq_false] at c61
                  have ek : tK B n i = 6 := of_decide_eq_true c61
                  refine v_run 1 (pc' := 96) (ls' := [some (.ref (ad 200))]) (st' := [.int (zI 0)]) rfl ?_
                  exact v_iret rfl rfl rfl ⟨by rw [show nmU B n (.inr i) = false from decide_eq_false (fun z => by have := z.2; omega)]; rfl, rfl⟩
                · rw [zb_n] at c61
                  have ek6 : ¬ tK B n i = 6 := of_decide_eq_false c61
                  refine v_run 1 (pc' := 65) (ls' := [some (.ref (ad 200))]) (st' := [.ref (ad 200)]) rfl ?_
                  refine v_ldcS rfl ?_
                  refine v_run 0 (pc' := 67) (ls' := [some (.ref (ad 200))]) (st' := [.ref (gK G 6), .ref (ad 200)]) rfl ?_
                  refine v_callV (My := mX10_isWord) (As := [.ref (gK G 6)]) (rest := []) (mc := 0) (ms := 0) rfl caX10_isWord rfl rfl rfl hm.1 rfl rfl (g_isWord G _ (q := 7) hA hB hn hm (by decide)) rfl rfl (Nat.le_of_ble_eq_true rfl) (by omega) ?_
                  rintro _ _ ⟨rfl, rfl⟩
                  refine v_run 0 (pc' := 70) (ls' := [some (.ref (ad 200))]) (st' := [.int (zb (isU B n 7 (.inr i)))]) rfl ?_
                  refine v_if_ne rfl (fun c70 => ?_) (fun c70 => ?_)
                  · rw [zb_n, Bool.not_eq_false] at c70
                    have ek : tK B n i = 7 := of_decide_eq_true c70
                    refine v_run 1 (pc' := 96) (ls' := [some (.ref (ad 200))]) (st' := [.int (zI 0)]) rfl ?_
                    exact v_iret rfl rfl rfl ⟨by rw [show nmU B n (.inr i) = false from decide_eq_false (fun z => by have := z.2; omega)]; rfl, rfl⟩
                  · rw [zb_n] at c70
                    have ek7 : ¬ tK B n i = 7 := of_decide_eq_false c70
                    refine v_run 1 (pc' := 74) (ls' := [some (.ref (ad 200))]) (st' := [.ref (ad 200)]) rfl ?_
                    refine v_ldcS rfl ?_
                    refine v_run 0 (pc' := 76) (ls' := [some (.ref (ad 200))]) (st' := [.ref (gK G 7), .ref (ad 200)]) rfl ?_
                    refine v_callV (My := mX10_isWord) (As := [.ref (gK G 7)]) (rest := []) (mc := 0) (ms := 0) rfl caX10_isWord rfl rfl rfl hm.1 rfl rfl (g_isWord G _ (q := 8) hA hB hn hm (by decide)) rfl rfl (Nat.le_of_ble_eq_true rfl) (by omega) ?_
                    rintro _ _ ⟨rfl, rfl⟩
                    refine v_run 0 (pc' := 79) (ls' := [some (.ref (ad 200))]) (st' := [.int (zb (isU B n 8 (.inr i)))]) rfl ?_
                    refine v_if_ne rfl (fun c79 => ?_) (fun c79 => ?_)
                    · rw [zb_n, Bool.not_eq_false] at c79
                      have ek : tK B n i = 8 := of_decide_eq_true c79
                      refine v_run 1 (pc' := 96) (ls' := [some (.ref (ad 200))]) (st' := [.int (zI 0)]) rfl ?_
                      exact v_iret rfl rfl rfl ⟨by rw [show nmU B n (.inr i) = false from decide_eq_false (fun z => by have := z.2; omega)]; rfl, rfl⟩
                    · rw [zb_n] at c79
                      have ek8 : ¬ tK B n i = 8 := of_decide_eq_false c79
                      refine v_run 1 (pc' := 83) (ls' := [some (.ref (ad 200))]) (st' := [.ref (ad 200)]) rfl ?_
                      refine v_ldcS rfl ?_
                      refine v_run 0 (pc' := 85) (ls' := [some (.ref (ad 200))]) (st' := [.ref (gK G 8), .ref (ad 200)]) rfl ?_
                      refine v_callV (My := mX10_isWord) (As := [.ref (gK G 8)]) (rest := []) (mc := 0) (ms := 0) rfl caX10_isWord rfl rfl rfl hm.1 rfl rfl (g_isWord G _ (q := 9) hA hB hn hm (by decide)) rfl rfl (Nat.le_of_ble_eq_true rfl) (by omega) ?_
                      rintro _ _ ⟨rfl, rfl⟩
                      refine v_run 0 (pc' := 88) (ls' := [some (.ref (ad 200))]) (st' := [.int (zb (isU B n 9 (.inr i)))]) rfl ?_
                      refine v_if_ne rfl (fun c88 => ?_) (fun c88 => ?_)
                      · rw [zb_n, Bool.not_eq_false] at c88
                        have ek : tK B n i = 9 := of_decide_eq_true c88
                        refine v_run 1 (pc' := 96) (ls' := [some (.ref (ad 200))]) (st' := [.int (zI 0)]) rfl ?_
                        exact v_iret rfl rfl rfl ⟨by rw [show nmU B n (.inr i) = false from decide_eq_false (fun z => by have := z.2; omega)]; rfl, rfl⟩
                      · rw [zb_n] at c88
                        have ek9 : ¬ tK B n i = 9 := of_decide_eq_false c88
                        refine v_run 2 (pc' := 96) (ls' := [some (.ref (ad 200))]) (st' := [.int (zI 1)]) rfl ?_
                        exact v_iret rfl rfl rfl ⟨by rw [show nmU B n (.inr i) = true from decide_eq_true ⟨es, by omega⟩]; rfl, rfl⟩
              · rw [zb_n, Bool.not_eq_false] at c50
                have ek : tK B n i = 5 := of_decide_eq_true c50
                refine v_run 1 (pc' := 54) (ls' := [some (.ref (ad 200))]) (st' := [.int (zI 0)]) rfl ?_
                exact v_iret rfl rfl rfl ⟨by rw [show nmU B n (.inr i) = false from decide_eq_false (fun z => by have := z.2; omega)]; rfl, rfl⟩

set_option maxRecDepth 100000 in
set_option maxHeartbeats 400000 in
theorem g_begins (G : ssG) (h : ssH) {ad : Nat → Nat} {sv : Value} {m : Nat → Int} {B : Nat → Int} {n : Nat} {ζ : zT} {u : pR Nat} {a b : Nat} (hA : ∀ k l, ad k = ad l → k = l) (hB : ∀ k, -128 ≤ B k ∧ B k ≤ 127) (hn : n ≤ 900) (hm : MRd h ad sv m B n ζ u) (ha : a ≤ 100) (hb : b ≤ 100) (h0 : ζ 0 0 ≤ 6) : ssC G mX10_lineBegins 2 0 0 [.ref (ad 200), .int (zI ↑a), .int (zI ↑b)] h (GQ ad sv m B n ζ (sb u (fun i => if a = b then .inl (5, tP B n i) else if ζ 0 0 = 0 then .inl (6, tP B n i) else .inr (i + 1))) (none) h) := by
  refine c_of_v okX10_lineBegins (by decide +kernel) (ls := [some (.ref (ad 200)), some (.int (zI ↑a)), some (.int (zI ↑b))]) rfl (Nat.le_of_ble_eq_true rfl) ?_
  refine v_run 2 (pc' := 2) (ls' := [some (.ref (ad 200)), some (.int (zI ↑a)), some (.int (zI ↑b))]) (st' := [.int (zI ↑b), .int (zI ↑a)]) rfl ?_
  refine v_icmp_ne rfl (fun c2 => ?_) (fun c2 => ?_)
  · simp (disch := omega) only [zI_lt, zI_le, zI_eq, zI_lt0, zI_le0, zI_0lt, zI_0le, zI_eq0] at c2
    have hab : ¬ a = b := by omega
    refine v_run 1 (pc' := 11) (ls' := [some (.ref (ad 200)), some (.int (zI ↑a)), some (.int (zI ↑b))]) (st' := [.ref (ad 200)]) rfl ?_
    refine v_get rfl hm.1 rfl ?_
    refine v_run 0 (pc' := 14) (ls' := [some (.ref (ad 200)), some (.int (zI ↑a)), some (.int (zI ↑b))]) (st' := [.ref (ad 230)]) rfl ?_
    refine v_get rfl hm.2.2.1.1.1 rfl ?_
    refine v_run 0 (pc' := 17) (ls' := [some (.ref (ad 200)), some (.int (zI ↑a)), some (.int (zI ↑b))]) (st' := [.int (zI ↑(ζ 0 0))]) rfl ?_
    refine v_if_ne rfl (fun c17 => ?_) (fun c17 => ?_)
    · simp (disch := omega) only [zI_lt, zI_le, zI_eq, zI_lt0, zI_le0, zI_0lt, zI_0le, zI_eq0] at c17
      refine v_run 1 (pc' := 27) (ls' := [some (.ref (ad 200)), some (.int (zI ↑a)), some (.int (zI ↑b))]) (st' := [.ref (ad 200)]) rfl ?_
      refine v_callV (My := mX10_goesOn) (As := []) (rest := []) (mc := 0) (ms := 0) rfl caX10_goesOn rfl rfl rfl hm.1 rfl rfl (g_on G _ hA hB hn hm) rfl rfl (Nat.le_of_ble_eq_true rfl) (by omega) ?_
      rintro _ h1 ⟨rfl, m1, hm1, hk1, hf1⟩
      refine v_run 0 (pc' := 30) (ls' := [some (.ref (ad 200)), some (.int (zI ↑a)), some (.int (zI ↑b))]) (st' := []) rfl ?_
      rw [show sb u (fun i => if a = b then .inl (5, tP B n i) else if ζ 0 0 = 0 then .inl (6, tP B n i) else .inr (i + 1)) = sb (u) (fun i => .inr (i + 1)) from by cases u with | inl e => rfl | inr i => exact (if_neg hab).trans (if_neg (by omega))]
      exact v_vret rfl rfl ⟨rfl, m1, hm1, hk1, hf1⟩
    · simp (disch := omega) only [zI_lt, zI_le, zI_eq, zI_lt0, zI_le0, zI_0lt, zI_0le, zI_eq0] at c17
      refine v_run 2 (pc' := 23) (ls' := [some (.ref (ad 200)), some (.int (zI ↑a)), some (.int (zI ↑b))]) (st' := [.int (zI 6), .ref (ad 200)]) rfl ?_
      refine v_callV (My := mX10_flaw) (As := [.int (zI 6)]) (rest := []) (mc := 0) (ms := 0) rfl caX10_flaw rfl rfl rfl hm.1 rfl rfl (g_flaw G _ (f := 6) hA hB hn hm) rfl rfl (Nat.le_of_ble_eq_true rfl) (by omega) ?_
      rintro _ h1 ⟨rfl, m1, hm1, hk1, hf1⟩
      refine v_run 0 (pc' := 26) (ls' := [some (.ref (ad 200)), some (.int (zI ↑a)), some (.int (zI ↑b))]) (st' := []) rfl ?_
      refine v_run 1 (pc' := 27) (ls' := [some (.ref (ad 200)), some (.int (zI ↑a)), some (.int (zI ↑b))]) (st' := [.ref (ad 200)]) rfl ?_
      refine v_callV (My := mX10_goesOn) (As := []) (rest := []) (mc := 0) (ms := 0) rfl caX10_goesOn rfl rfl rfl hm1.1 rfl rfl (g_on G _ hA hB hn hm1) rfl rfl (Nat.le_of_ble_eq_true rfl) (by omega) ?_
      rintro _ h2 ⟨rfl, m2, hm2, hk2, hf2⟩
      refine v_run 0 (pc' := 30) (ls' := [some (.ref (ad 200)), some (.int (zI ↑a)), some (.int (zI ↑b))]) (st' := []) rfl ?_
      rw [show sb u (fun i => if a = b then .inl (5, tP B n i) else if ζ 0 0 = 0 then .inl (6, tP B n i) else .inr (i + 1)) = sb (sb (u) (fun i => .inl (6, tP B n i))) (fun i => .inr (i + 1)) from by cases u with | inl e => rfl | inr i => exact (if_neg hab).trans (if_pos (by omega))]
      exact v_vret rfl rfl ⟨rfl, m2, hm2, (hk1.tr hk2), (hf1.tr hf2)⟩
  · simp (disch := omega) only [zI_lt, zI_le, zI_eq, zI_lt0, zI_le0, zI_0lt, zI_0le, zI_eq0] at c2
    have hab : a = b := by omega
    refine v_run 2 (pc' := 7) (ls' := [some (.ref (ad 200)), some (.int (zI ↑a)), some (.int (zI ↑b))]) (st' := [.int (zI 5), .ref (ad 200)]) rfl ?_
    refine v_callV (My := mX10_flaw) (As := [.int (zI 5)]) (rest := []) (mc := 0) (ms := 0) rfl caX10_flaw rfl rfl rfl hm.1 rfl rfl (g_flaw G _ (f := 5) hA hB hn hm) rfl rfl (Nat.le_of_ble_eq_true rfl) (by omega) ?_
    rintro _ h1 ⟨rfl, m1, hm1, hk1, hf1⟩
    refine v_run 0 (pc' := 10) (ls' := [some (.ref (ad 200)), some (.int (zI ↑a)), some (.int (zI ↑b))]) (st' := []) rfl ?_
    refine v_run 1 (pc' := 11) (ls' := [some (.ref (ad 200)), some (.int (zI ↑a)), some (.int (zI ↑b))]) (st' := [.ref (ad 200)]) rfl ?_
    refine v_get rfl hm1.1 rfl ?_
    refine v_run 0 (pc' := 14) (ls' := [some (.ref (ad 200)), some (.int (zI ↑a)), some (.int (zI ↑b))]) (st' := [.ref (ad 230)]) rfl ?_
    refine v_get rfl hm1.2.2.1.1.1 rfl ?_
    refine v_run 0 (pc' := 17) (ls' := [some (.ref (ad 200)), some (.int (zI ↑a)), some (.int (zI ↑b))]) (st' := [.int (zI ↑(ζ 0 0))]) rfl ?_
    refine v_if_ne rfl (fun c17 => ?_) (fun c17 => ?_)
    · simp (disch := omega) only [zI_lt, zI_le, zI_eq, zI_lt0, zI_le0, zI_0lt, zI_0le, zI_eq0] at c17
      refine v_run 1 (pc' := 27) (ls' := [some (.ref (ad 200)), some (.int (zI ↑a)), some (.int (zI ↑b))]) (st' := [.ref (ad 200)]) rfl ?_
      refine v_callV (My := mX10_goesOn) (As := []) (rest := []) (mc := 0) (ms := 0) rfl caX10_goesOn rfl rfl rfl hm1.1 rfl rfl (g_on G _ hA hB hn hm1) rfl rfl (Nat.le_of_ble_eq_true rfl) (by omega) ?_
      rintro _ h2 ⟨rfl, m2, hm2, hk2, hf2⟩
      refine v_run 0 (pc' := 30) (ls' := [some (.ref (ad 200)), some (.int (zI ↑a)), some (.int (zI ↑b))]) (st' := []) rfl ?_
      rw [show sb u (fun i => if a = b then .inl (5, tP B n i) else if ζ 0 0 = 0 then .inl (6, tP B n i) else .inr (i + 1)) = sb (sb (u) (fun i => .inl (5, tP B n i))) (fun i => .inr (i + 1)) from by cases u with | inl e => rfl | inr i => exact if_pos hab]
      exact v_vret rfl rfl ⟨rfl, m2, hm2, (hk1.tr hk2), (hf1.tr hf2)⟩
    · simp (disch := omega) only [zI_lt, zI_le, zI_eq, zI_lt0, zI_le0, zI_0lt, zI_0le, zI_eq0] at c17
      refine v_run 2 (pc' := 23) (ls' := [some (.ref (ad 200)), some (.int (zI ↑a)), some (.int (zI ↑b))]) (st' := [.int (zI 6), .ref (ad 200)]) rfl ?_
      refine v_callV (My := mX10_flaw) (As := [.int (zI 6)]) (rest := []) (mc := 0) (ms := 0) rfl caX10_flaw rfl rfl rfl hm1.1 rfl rfl (g_flaw G _ (f := 6) hA hB hn hm1) rfl rfl (Nat.le_of_ble_eq_true rfl) (by omega) ?_
      rintro _ h2 ⟨rfl, m2, hm2, hk2, hf2⟩
      refine v_run 0 (pc' := 26) (ls' := [some (.ref (ad 200)), some (.int (zI ↑a)), some (.int (zI ↑b))]) (st' := []) rfl ?_
      refine v_run 1 (pc' := 27) (ls' := [some (.ref (ad 200)), some (.int (zI ↑a)), some (.int (zI ↑b))]) (st' := [.ref (ad 200)]) rfl ?_
      refine v_callV (My := mX10_goesOn) (As := []) (rest := []) (mc := 0) (ms := 0) rfl caX10_goesOn rfl rfl rfl hm2.1 rfl rfl (g_on G _ hA hB hn hm2) rfl rfl (Nat.le_of_ble_eq_true rfl) (by omega) ?_
      rintro _ h3 ⟨rfl, m3, hm3, hk3, hf3⟩
      refine v_run 0 (pc' := 30) (ls' := [some (.ref (ad 200)), some (.int (zI ↑a)), some (.int (zI ↑b))]) (st' := []) rfl ?_
      rw [show sb u (fun i => if a = b then .inl (5, tP B n i) else if ζ 0 0 = 0 then .inl (6, tP B n i) else .inr (i + 1)) = sb (sb (sb (u) (fun i => .inl (5, tP B n i))) (fun i => .inl (6, tP B n i))) (fun i => .inr (i + 1)) from by cases u with | inl e => rfl | inr i => exact if_pos hab]
      exact v_vret rfl rfl ⟨rfl, m3, hm3, ((hk1.tr hk2).tr hk3), ((hf1.tr hf2).tr hf3)⟩

set_option maxRecDepth 100000 in
set_option maxHeartbeats 400000 in
theorem g_find (G : ssG) (h : ssH) {ad : Nat → Nat} {sv : Value} {m : Nat → Int} {B : Nat → Int} {n : Nat} {ζ : zT} {u : pR Nat} {x : Int64} (hA : ∀ k l, ad k = ad l → k = l) (hB : ∀ k, -128 ≤ B k ∧ B k ≤ 127) (hn : n ≤ 900) (hm : MRd h ad sv m B n ζ u) (h11 : ζ 11 0 ≤ 17) : ssC G mX9_find 0 0 0 [.ref (ad 230), .long x] h (rI (zI (if fdX ζ x < ζ 11 0 then ↑(fdX ζ x) else -1)) h) := by
  refine c_of_v okX9_find (by decide +kernel) (ls := [some (.ref (ad 230)), some (.long x), none, none]) rfl (Nat.le_of_ble_eq_true rfl) ?_
  refine v_run 2 (pc' := 2) (ls' := [some (.ref (ad 230)), some (.long x), none, some (.int (zI 0))]) (st' := []) rfl ?_
  obtain ⟨f1, f2, f3, f4⟩ := fstN_bd (fun k => decide (zL ↑(ζ 21 k) = x)) (ζ 11 0) 0
  have lp : ∀ (f : Nat) (j : Nat), (j ≤ ζ 11 0 ∧ ∀ d, d < j → ¬ zL ↑(ζ 21 d) = x) → 18 ≤ j + f → ssV G mX9_find 0 0 0 (rI (zI (if fdX ζ x < ζ 11 0 then ↑(fdX ζ x) else -1)) h) 2 [some (.ref (ad 230)), some (.long x), none, some (.int (zI ↑j))] [] (h) := by
    intro f
    induction f with
    | zero => intro j hs1 hs2; obtain ⟨q1, q2⟩ := hs1; exact absurd hs2 (by omega)
    | succ f ihlp =>
      intro j hs1 hs2
      obtain ⟨q1, q2⟩ := hs1
      refine v_run 2 (pc' := 4) (ls' := [some (.ref (ad 230)), some (.long x), none, some (.int (zI ↑j))]) (st' := [.ref (ad 230), .int (zI ↑j)]) rfl ?_
      refine v_get rfl hm.2.2.1.1.1 rfl ?_
      refine v_run 0 (pc' := 7) (ls' := [some (.ref (ad 230)), some (.long x), none, some (.int (zI ↑j))]) (st' := [.int (zI ↑(ζ 11 0)), .int (zI ↑j)]) rfl ?_
      refine v_icmp_ge rfl (fun c7 => ?_) (fun c7 => ?_)
      · simp (disch := omega) only [zI_lt, zI_le, zI_eq, zI_lt0, zI_le0, zI_0lt, zI_0le, zI_eq0] at c7
        have hno : ¬ fdX ζ x < ζ 11 0 := fun z => by have := f3 (by unfold fdX at z; omega); rw [decide_eq_true_eq] at this; exact q2 _ (by unfold fdX at z; omega) this
        refine v_run 1 (pc' := 30) (ls' := [some (.ref (ad 230)), some (.long x), none, some (.int (zI ↑j))]) (st' := [.int (zI (-1))]) rfl ?_
        exact v_iret rfl rfl rfl ⟨by rw [if_neg hno], rfl⟩
      · simp (disch := omega) only [zI_lt, zI_le, zI_eq, zI_lt0, zI_le0, zI_0lt, zI_0le, zI_eq0] at c7
        refine v_run 1 (pc' := 11) (ls' := [some (.ref (ad 230)), some (.long x), none, some (.int (zI ↑j))]) (st' := [.ref (ad 230)]) rfl ?_
        refine v_get rfl hm.2.2.1.1.1 rfl ?_
        refine v_run 1 (pc' := 15) (ls' := [some (.ref (ad 230)), some (.long x), none, some (.int (zI ↑j))]) (st' := [.int (zI ↑j), .ref (Sf ad 230 21)]) rfl ?_
        refine v_laload' rfl hm.2.2.1.2.1 (i := j) rfl (by omega) ?_
        refine v_run 2 (pc' := 18) (ls' := [some (.ref (ad 230)), some (.long x), none, some (.int (zI ↑j))]) (st' := [.int (lg_cmp (zL ↑(ζ 21 j)) x)]) rfl ?_
        refine v_if_ne rfl (fun c18 => ?_) (fun c18 => ?_)
        · rw [lg_eq0] at c18
          refine v_run 2 (pc' := 2) (ls' := [some (.ref (ad 230)), some (.long x), none, some (.int ((zI ↑j) + zI 1))]) (st' := []) rfl ?_
          rw [zI_s1]
          exact ihlp (j + 1) ⟨by omega, fun d hd => by
            by_cases e : d = j
            · rw [e]; exact c18
            · exact q2 d (by omega)⟩ (by omega)
        · rw [lg_eq0] at c18
          have ej : fdX ζ x = j := by
              unfold fdX
              rcases Nat.lt_trichotomy (fstN (fun k => decide (zL ↑(ζ 21 k) = x)) (ζ 11 0) 0) j with z | z | z
              · have := f3 (by omega); rw [decide_eq_true_eq] at this; exact absurd this (q2 _ z)
              · exact z
              · have := f4 j (by omega) z; rw [decide_eq_false_iff_not] at this; exact absurd c18 this
          refine v_run 1 (pc' := 22) (ls' := [some (.ref (ad 230)), some (.long x), none, some (.int (zI ↑j))]) (st' := [.int (zI ↑j)]) rfl ?_
          exact v_iret rfl rfl rfl ⟨by rw [ej, if_pos (by omega)], rfl⟩
  exact lp 18 0 ⟨by omega, fun d hd => absurd hd (by omega)⟩ (by omega)

set_option maxRecDepth 100000 in
set_option maxHeartbeats 400000 in
theorem g_isHung (G : ssG) (h : ssH) {ad : Nat → Nat} {sv : Value} {m : Nat → Int} {B : Nat → Int} {n : Nat} {ζ : zT} {u : pR Nat} {k : Nat} (hA : ∀ k l, ad k = ad l → k = l) (hB : ∀ k, -128 ≤ B k ∧ B k ≤ 127) (hn : n ≤ 900) (hm : MRd h ad sv m B n ζ u) (hk : k < 6) (h5 : ζ 5 0 ≤ 6) (h14 : ∀ k, ζ 14 k < 6) : ssC G mX9_isHung 0 0 0 [.ref (ad 230), .int (zI ↑k)] h (rI (zb (hngB ζ k)) h) := by
  refine c_of_v okX9_isHung (by decide +kernel) (ls := [some (.ref (ad 230)), some (.int (zI ↑k)), none]) rfl (Nat.le_of_ble_eq_true rfl) ?_
  refine v_run 2 (pc' := 2) (ls' := [some (.ref (ad 230)), some (.int (zI ↑k)), some (.int (zI 0))]) (st' := []) rfl ?_
  have hiff := hng_iff (ζ := ζ) k
  have lp : ∀ (f : Nat) (j : Nat), (j ≤ ζ 5 0 ∧ ∀ d, d < j → ¬ ζ 14 d = k) → 7 ≤ j + f → ssV G mX9_isHung 0 0 0 (rI (zb (hngB ζ k)) h) 2 [some (.ref (ad 230)), some (.int (zI ↑k)), some (.int (zI ↑j))] [] (h) := by
    intro f
    induction f with
    | zero => intro j hs1 hs2; obtain ⟨q1, q2⟩ := hs1; exact absurd hs2 (by omega)
    | succ f ihlp =>
      intro j hs1 hs2
      obtain ⟨q1, q2⟩ := hs1
      refine v_run 2 (pc' := 4) (ls' := [some (.ref (ad 230)), some (.int (zI ↑k)), some (.int (zI ↑j))]) (st' := [.ref (ad 230), .int (zI ↑j)]) rfl ?_
      refine v_get rfl hm.2.2.1.1.1 rfl ?_
      refine v_run 0 (pc' := 7) (ls' := [some (.ref (ad 230)), some (.int (zI ↑k)), some (.int (zI ↑j))]) (st' := [.int (zI ↑(ζ 5 0)), .int (zI ↑j)]) rfl ?_
      refine v_icmp_ge rfl (fun c7 => ?_) (fun c7 => ?_)
      · simp (disch := omega) only [zI_lt, zI_le, zI_eq, zI_lt0, zI_le0, zI_0lt, zI_0le, zI_eq0] at c7
        refine v_run 1 (pc' := 29) (ls' := [some (.ref (ad 230)), some (.int (zI ↑k)), some (.int (zI ↑j))]) (st' := [.int (zI 0)]) rfl ?_
        exact v_iret rfl rfl rfl ⟨by rw [show hngB ζ k = false from by cases q : hngB ζ k; (rfl); (obtain ⟨s, s1, s2⟩ := hiff.mp q; exact absurd s2 (q2 s (by omega)))]; rfl, rfl⟩
      · simp (disch := omega) only [zI_lt, zI_le, zI_eq, zI_lt0, zI_le0, zI_0lt, zI_0le, zI_eq0] at c7
        have hb := h14 j
        refine v_run 1 (pc' := 11) (ls' := [some (.ref (ad 230)), some (.int (zI ↑k)), some (.int (zI ↑j))]) (st' := [.ref (ad 230)]) rfl ?_
        refine v_get rfl hm.2.2.1.1.1 rfl ?_
        refine v_run 1 (pc' := 15) (ls' := [some (.ref (ad 230)), some (.int (zI ↑k)), some (.int (zI ↑j))]) (st' := [.int (zI ↑j), .ref (Sf ad 230 14)]) rfl ?_
        refine v_iaload' rfl hm.2.2.1.1.2.2.2.1 (i := j) rfl (by omega) ?_
        refine v_run 1 (pc' := 17) (ls' := [some (.ref (ad 230)), some (.int (zI ↑k)), some (.int (zI ↑j))]) (st' := [.int (zI ↑k), .int (zI ↑(ζ 14 j))]) rfl ?_
        refine v_icmp_ne rfl (fun c17 => ?_) (fun c17 => ?_)
        · simp (disch := omega) only [zI_lt, zI_le, zI_eq, zI_lt0, zI_le0, zI_0lt, zI_0le, zI_eq0] at c17
          refine v_run 2 (pc' := 2) (ls' := [some (.ref (ad 230)), some (.int (zI ↑k)), some (.int ((zI ↑j) + zI 1))]) (st' := []) rfl ?_
          rw [zI_s1]
          exact ihlp (j + 1) ⟨by omega, fun d hd => by
            by_cases e : d = j
            · rw [e]; omega
            · exact q2 d (by omega)⟩ (by omega)
        · simp (disch := omega) only [zI_lt, zI_le, zI_eq, zI_lt0, zI_le0, zI_0lt, zI_0le, zI_eq0] at c17
          refine v_run 1 (pc' := 21) (ls' := [some (.ref (ad 230)), some (.int (zI ↑k)), some (.int (zI ↑j))]) (st' := [.int (zI 1)]) rfl ?_
          exact v_iret rfl rfl rfl ⟨by rw [hiff.mpr ⟨j, by omega, by omega⟩]; rfl, rfl⟩
  exact lp 7 0 ⟨by omega, fun d hd => absurd hd (by omega)⟩ (by omega)

