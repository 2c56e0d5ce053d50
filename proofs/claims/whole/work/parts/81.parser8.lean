def clrR (τ : sT) (j : Nat) : sT := fun a b c => if a = 1 ∧ (b = 9 ∨ b = 10) ∧ c < j then 0 else τ a b c
theorem clrR_0 (τ : sT) : clrR τ 0 = τ := by funext a b c; simp [clrR]
theorem clrR_s (τ : sT) (j : Nat) : tU (tU (clrR τ j) 1 9 j 0) 1 10 j 0 = clrR τ (j + 1) := by
  funext a b c
  simp only [tU, clrR]
  by_cases h1 : a = 1
  · by_cases h2 : b = 9
    · by_cases h3 : c = j
      · simp [h1, h2, h3]
      · by_cases h4 : c < j
        · simp [h1, h2, h3, h4, show c < j + 1 by omega]
        · simp [h1, h2, h3, h4, show ¬ c < j + 1 by omega]
    · by_cases h5 : b = 10
      · by_cases h3 : c = j
        · simp [h1, h5, h3]
        · by_cases h4 : c < j
          · simp [h1, h5, h3, h4, show c < j + 1 by omega]
          · simp [h1, h5, h3, h4, show ¬ c < j + 1 by omega]
      · simp [h1, h2, h5]
  · simp [h1]
def clrT (τ : sT) : sT := clrR (tU (tU (tU (tU (tU (tU (tU (tU τ 1 3 0 0) 1 5 0 0) 1 7 0 0) 1 11 0 0) 1 12 0 0) 1 13 0 0) 1 14 0 0) 1 15 0 0) 5
theorem clrR_ok {τ : sT} (h : TOk τ) (j : Nat) : TOk (clrR τ j) := fun a b c ha => by
  simp only [clrR]
  split
  · exact Nat.zero_le _
  · exact h a b c ha
def cLine (E : pE) (τ : sT) (i : Nat) : pR (Nat × sT) := if tK (eB E) (eN E) i = 0 ∨ 9 < tK (eB E) (eN E) i then .inl (1, tP (eB E) (eN E) i) else if ¬ tK (eB E) (eN E) i = 1 ∧ τ 5 4 0 = 0 then .inl (6, tP (eB E) (eN E) i) else if tK (eB E) (eN E) i = 1 then cSafe E τ i else if tK (eB E) (eN E) i = 2 then cHook E τ i else if tK (eB E) (eN E) i = 3 then cSen E τ i else if tK (eB E) (eN E) i = 4 then cAct E τ i else if tK (eB E) (eN E) i = 5 then cFor E τ i else if tK (eB E) (eN E) i = 6 then cRests E τ i else if tK (eB E) (eN E) i = 7 then cDoubt E τ i else if tK (eB E) (eN E) i = 8 then cEnd1 E τ i else cEnd2 E τ i
set_option maxRecDepth 100000 in
set_option maxHeartbeats 400000 in
theorem c_line (G : ssG) (h : ssH) {ad : Nat → Nat} {po : Nat} {E : pE} {τ : sT} {i : Nat}  (hA : ∀ k l, ad k = ad l → k = l) (hp : po = 11 ∨ po = 22) (hw : PW h ad po E τ i) (ht : TOk τ) (hT : TkE E) (hl : liv (eB E) (eN E) i) (hN : (τ 5 7 0 = τ 1 3 0 + τ 1 5 0 + τ 1 7 0) ∧ ∀ d, d < τ 5 7 0 → τ 5 9 d = 4 → τ 5 10 d < 5) : ssC G mX3_hearLine 4 0 0 [.ref (ad 1)] h (QP ad po E h (cLine E τ i)) := by
  refine c_of_v okX3_hearLine (by decide +kernel) (ls := [some (.ref (ad 1)), none]) rfl (Nat.le_of_ble_eq_true rfl) ?_
  obtain ⟨s1, s2, s3, s4⟩ := hT.1 i (by have := liv_le hl; have := hT.2; omega) hl
  have tk1 := kS_le (T := eB E) (n := eN E) (pos (eB E) (eN E) i)
  have tk2 := tK_le (T := eB E) (n := eN E) i
  have tk3 := tP_le (T := eB E) (n := eN E) i
  have tk4 := hT.2
  have tk5 := liv_le hl
  have q4 : τ 5 4 0 ≤ 1 := ht 5 4 0 (by omega)
  have b3 : τ 1 3 0 ≤ 6 := ht 1 3 0 (by omega)
  have b5 : τ 1 5 0 ≤ 6 := ht 1 5 0 (by omega)
  have b7 : τ 1 7 0 ≤ 5 := ht 1 7 0 (by omega)
  refine v_run 1 (pc' := 1) (ls' := [some (.ref (ad 1)), none]) (st' := [.ref (ad 1)]) rfl ?_
  refine v_get rfl hw.1 rfl ?_
  refine v_run 0 (pc' := 4) (ls' := [some (.ref (ad 1)), none]) (st' := [.ref (ad 2)]) rfl ?_
  refine v_get rfl hw.2.1 rfl ?_
  refine v_run 3 (pc' := 10) (ls' := [some (.ref (ad 1)), some (.int (zI ↑(eK E i)))]) (st' := [.int (zI 1), .int (zI ↑(eK E i))]) rfl ?_
  refine v_icmp_lt rfl (fun c10 => ?_) (fun c10 => ?_)
  · simp (disch := omega) only [zI_lt, zI_le, zI_eq, zI_lt0, zI_le0, zI_0lt, zI_0le, zI_eq0] at c10
    refine v_run 2 (pc' := 32) (ls' := [some (.ref (ad 1)), some (.int (zI ↑(eK E i)))]) (st' := [.int (zI 1), .ref (ad 1)]) rfl ?_
    refine v_callV (My := mX3_fail) (As := [.int (zI 1)]) (rest := []) (mc := 0) (ms := 0) rfl caX3_fail rfl rfl rfl hw.1 rfl rfl (c_fail G _ (f := 1) hA hp hw ht hT hl (by decide)) rfl rfl (Nat.le_of_ble_eq_true rfl) (by omega) ?_
    rintro _ h99 ⟨rfl, hb99⟩
    refine v_run 0 (pc' := 35) (ls' := [some (.ref (ad 1)), some (.int (zI ↑(eK E i)))]) (st' := [.int (zI 0)]) rfl ?_
    exact v_iret rfl rfl rfl (by rw [show cLine E τ i = .inl (1, tP (eB E) (eN E) i) from by simp only [cLine, if_pos (show tK (eB E) (eN E) i = 0 ∨ 9 < tK (eB E) (eN E) i by omega), sb]]; exact ⟨rfl, hb99⟩)
  · simp (disch := omega) only [zI_lt, zI_le, zI_eq, zI_lt0, zI_le0, zI_0lt, zI_0le, zI_eq0] at c10
    refine v_run 2 (pc' := 16) (ls' := [some (.ref (ad 1)), some (.int (zI ↑(eK E i)))]) (st' := [.int (zI 9), .int (zI ↑(eK E i))]) rfl ?_
    refine v_icmp_gt rfl (fun c16 => ?_) (fun c16 => ?_)
    · simp (disch := omega) only [zI_lt, zI_le, zI_eq, zI_lt0, zI_le0, zI_0lt, zI_0le, zI_eq0] at c16
      refine v_run 2 (pc' := 32) (ls' := [some (.ref (ad 1)), some (.int (zI ↑(eK E i)))]) (st' := [.int (zI 1), .ref (ad 1)]) rfl ?_
      refine v_callV (My := mX3_fail) (As := [.int (zI 1)]) (rest := []) (mc := 0) (ms := 0) rfl caX3_fail rfl rfl rfl hw.1 rfl rfl (c_fail G _ (f := 1) hA hp hw ht hT hl (by decide)) rfl rfl (Nat.le_of_ble_eq_true rfl) (by omega) ?_
      rintro _ h99 ⟨rfl, hb99⟩
      refine v_run 0 (pc' := 35) (ls' := [some (.ref (ad 1)), some (.int (zI ↑(eK E i)))]) (st' := [.int (zI 0)]) rfl ?_
      exact v_iret rfl rfl rfl (by rw [show cLine E τ i = .inl (1, tP (eB E) (eN E) i) from by simp only [cLine, if_pos (show tK (eB E) (eN E) i = 0 ∨ 9 < tK (eB E) (eN E) i by omega), sb]]; exact ⟨rfl, hb99⟩)
    · simp (disch := omega) only [zI_lt, zI_le, zI_eq, zI_lt0, zI_le0, zI_0lt, zI_0le, zI_eq0] at c16
      have ez : eS E i = 1 := by rw [s1]; exact cS_1.mpr (by by_cases z : tS (eB E) (eN E) i = 2; (exact z); (unfold tK at s3; rw [if_neg z] at s3; omega))
      refine v_run 1 (pc' := 20) (ls' := [some (.ref (ad 1)), some (.int (zI ↑(eK E i)))]) (st' := [.ref (ad 1)]) rfl ?_
      refine v_get rfl hw.1 rfl ?_
      refine v_run 0 (pc' := 23) (ls' := [some (.ref (ad 1)), some (.int (zI ↑(eK E i)))]) (st' := [.ref (ad 2)]) rfl ?_
      refine v_get rfl hw.2.1 rfl ?_
      refine v_run 1 (pc' := 27) (ls' := [some (.ref (ad 1)), some (.int (zI ↑(eK E i)))]) (st' := [.int (zI 1), .int (zI ↑(eS E i))]) rfl ?_
      refine v_icmp_eq rfl (fun c27 => ?_) (fun c27 => ?_)
      · refine v_run 2 (pc' := 38) (ls' := [some (.ref (ad 1)), some (.int (zI ↑(eK E i)))]) (st' := [.int (zI 1), .int (zI ↑(eK E i))]) rfl ?_
        refine v_icmp_eq rfl (fun c38 => ?_) (fun c38 => ?_)
        · simp (disch := omega) only [zI_lt, zI_le, zI_eq, zI_lt0, zI_le0, zI_0lt, zI_0le, zI_eq0] at c38
          refine v_run 1 (pc' := 56) (ls' := [some (.ref (ad 1)), some (.int (zI ↑(eK E i)))]) (st' := [.int (zI ↑(eK E i))]) rfl ?_
          have ek : eK E i = 1 := by omega
          rw [ek]
          refine v_tabIn (t := 100) rfl (by decide) (by decide) rfl rfl ?_
          refine v_run 1 (pc' := 101) (ls' := [some (.ref (ad 1)), some (.int (zI ↑(1 : Nat)))]) (st' := [.ref (ad 1)]) rfl ?_
          refine v_callV (My := mX3_hearSafe) (As := []) (rest := []) (mc := 0) (ms := 0) rfl caX3_hearSafe rfl rfl rfl hw.1 rfl rfl (c_cSafe G _ hA hp hw ht hT hl (by omega)) rfl rfl (Nat.le_of_ble_eq_true rfl) (by omega) ?_
          intro an1 h1 hq1
          rcases hr1 : cSafe E τ i with e | q
          · rw [hr1] at hq1
            obtain ⟨rfl, hb1⟩ := hq1
            refine v_run 0 (pc' := 104) (ls' := [some (.ref (ad 1)), some (.int (zI ↑(1 : Nat)))]) (st' := [.int (zI 0)]) rfl ?_
            exact v_iret rfl rfl rfl (by rw [cLine, if_neg (show ¬ (tK (eB E) (eN E) i = 0 ∨ 9 < tK (eB E) (eN E) i) by omega), if_neg (show ¬ (¬ tK (eB E) (eN E) i = 1 ∧ τ 5 4 0 = 0) by omega), if_pos (show tK (eB E) (eN E) i = 1 by omega), hr1]; exact ⟨rfl, hb1⟩)
          · rw [hr1] at hq1
            obtain ⟨rfl, hq⟩ := hq1
            refine v_run 0 (pc' := 104) (ls' := [some (.ref (ad 1)), some (.int (zI ↑(1 : Nat)))]) (st' := [.int (zI 1)]) rfl ?_
            exact v_iret rfl rfl rfl (by rw [cLine, if_neg (show ¬ (tK (eB E) (eN E) i = 0 ∨ 9 < tK (eB E) (eN E) i) by omega), if_neg (show ¬ (¬ tK (eB E) (eN E) i = 1 ∧ τ 5 4 0 = 0) by omega), if_pos (show tK (eB E) (eN E) i = 1 by omega), hr1]; exact ⟨rfl, hq⟩)
        · simp (disch := omega) only [zI_lt, zI_le, zI_eq, zI_lt0, zI_le0, zI_0lt, zI_0le, zI_eq0] at c38
          refine v_run 1 (pc' := 42) (ls' := [some (.ref (ad 1)), some (.int (zI ↑(eK E i)))]) (st' := [.ref (ad 1)]) rfl ?_
          refine v_get rfl hw.1 rfl ?_
          refine v_run 0 (pc' := 45) (ls' := [some (.ref (ad 1)), some (.int (zI ↑(eK E i)))]) (st' := [.int (zI ↑(τ 5 4 0))]) rfl ?_
          refine v_if_ne rfl (fun c45 => ?_) (fun c45 => ?_)
          · simp (disch := omega) only [zI_lt, zI_le, zI_eq, zI_lt0, zI_le0, zI_0lt, zI_0le, zI_eq0] at c45
            refine v_run 1 (pc' := 56) (ls' := [some (.ref (ad 1)), some (.int (zI ↑(eK E i)))]) (st' := [.int (zI ↑(eK E i))]) rfl ?_
            rcases (show eK E i = 2 ∨ eK E i = 3 ∨ eK E i = 4 ∨ eK E i = 5 ∨ eK E i = 6 ∨ eK E i = 7 ∨ eK E i = 8 ∨ eK E i = 9 by omega) with ek | ek | ek | ek | ek | ek | ek | ek
            · rw [ek]
              refine v_tabIn (t := 105) rfl (by decide) (by decide) rfl rfl ?_
              refine v_run 1 (pc' := 106) (ls' := [some (.ref (ad 1)), some (.int (zI ↑(2 : Nat)))]) (st' := [.ref (ad 1)]) rfl ?_
              refine v_callV (My := mX3_hearHook) (As := []) (rest := []) (mc := 0) (ms := 0) rfl caX3_hearHook rfl rfl rfl hw.1 rfl rfl (c_cHook G _ hA hp hw ht hT hl (by omega) (fun _ => by have := hN.1; omega)) rfl rfl (Nat.le_of_ble_eq_true rfl) (by omega) ?_
              intro an1 h1 hq1
              rcases hr1 : cHook E τ i with e | q
              · rw [hr1] at hq1
                obtain ⟨rfl, hb1⟩ := hq1
                refine v_run 0 (pc' := 109) (ls' := [some (.ref (ad 1)), some (.int (zI ↑(2 : Nat)))]) (st' := [.int (zI 0)]) rfl ?_
                exact v_iret rfl rfl rfl (by rw [cLine, if_neg (show ¬ (tK (eB E) (eN E) i = 0 ∨ 9 < tK (eB E) (eN E) i) by omega), if_neg (show ¬ (¬ tK (eB E) (eN E) i = 1 ∧ τ 5 4 0 = 0) by omega), if_neg (show ¬ tK (eB E) (eN E) i = 1 by omega), if_pos (show tK (eB E) (eN E) i = 2 by omega), hr1]; exact ⟨rfl, hb1⟩)
              · rw [hr1] at hq1
                obtain ⟨rfl, hq⟩ := hq1
                refine v_run 0 (pc' := 109) (ls' := [some (.ref (ad 1)), some (.int (zI ↑(2 : Nat)))]) (st' := [.int (zI 1)]) rfl ?_
                exact v_iret rfl rfl rfl (by rw [cLine, if_neg (show ¬ (tK (eB E) (eN E) i = 0 ∨ 9 < tK (eB E) (eN E) i) by omega), if_neg (show ¬ (¬ tK (eB E) (eN E) i = 1 ∧ τ 5 4 0 = 0) by omega), if_neg (show ¬ tK (eB E) (eN E) i = 1 by omega), if_pos (show tK (eB E) (eN E) i = 2 by omega), hr1]; exact ⟨rfl, hq⟩)
            · rw [ek]
              refine v_tabIn (t := 110) rfl (by decide) (by decide) rfl rfl ?_
              refine v_run 1 (pc' := 111) (ls' := [some (.ref (ad 1)), some (.int (zI ↑(3 : Nat)))]) (st' := [.ref (ad 1)]) rfl ?_
              refine v_callV (My := mX3_hearSenator) (As := []) (rest := []) (mc := 0) (ms := 0) rfl caX3_hearSenator rfl rfl rfl hw.1 rfl rfl (c_cSen G _ hA hp hw ht hT hl (by omega) (fun _ => by have := hN.1; omega)) rfl rfl (Nat.le_of_ble_eq_true rfl) (by omega) ?_
              intro an1 h1 hq1
              rcases hr1 : cSen E τ i with e | q
              · rw [hr1] at hq1
                obtain ⟨rfl, hb1⟩ := hq1
                refine v_run 0 (pc' := 114) (ls' := [some (.ref (ad 1)), some (.int (zI ↑(3 : Nat)))]) (st' := [.int (zI 0)]) rfl ?_
                exact v_iret rfl rfl rfl (by rw [cLine, if_neg (show ¬ (tK (eB E) (eN E) i = 0 ∨ 9 < tK (eB E) (eN E) i) by omega), if_neg (show ¬ (¬ tK (eB E) (eN E) i = 1 ∧ τ 5 4 0 = 0) by omega), if_neg (show ¬ tK (eB E) (eN E) i = 1 by omega), if_neg (show ¬ tK (eB E) (eN E) i = 2 by omega), if_pos (show tK (eB E) (eN E) i = 3 by omega), hr1]; exact ⟨rfl, hb1⟩)
              · rw [hr1] at hq1
                obtain ⟨rfl, hq⟩ := hq1
                refine v_run 0 (pc' := 114) (ls' := [some (.ref (ad 1)), some (.int (zI ↑(3 : Nat)))]) (st' := [.int (zI 1)]) rfl ?_
                exact v_iret rfl rfl rfl (by rw [cLine, if_neg (show ¬ (tK (eB E) (eN E) i = 0 ∨ 9 < tK (eB E) (eN E) i) by omega), if_neg (show ¬ (¬ tK (eB E) (eN E) i = 1 ∧ τ 5 4 0 = 0) by omega), if_neg (show ¬ tK (eB E) (eN E) i = 1 by omega), if_neg (show ¬ tK (eB E) (eN E) i = 2 by omega), if_pos (show tK (eB E) (eN E) i = 3 by omega), hr1]; exact ⟨rfl, hq⟩)
            · rw [ek]
              refine v_tabIn (t := 115) rfl (by decide) (by decide) rfl rfl ?_
              refine v_run 1 (pc' := 116) (ls' := [some (.ref (ad 1)), some (.int (zI ↑(4 : Nat)))]) (st' := [.ref (ad 1)]) rfl ?_
              refine v_callV (My := mX3_hearAct) (As := []) (rest := []) (mc := 0) (ms := 0) rfl caX3_hearAct rfl rfl rfl hw.1 rfl rfl (c_cAct G _ hA hp hw ht hT hl (by omega) (fun _ => by have := hN.1; omega)) rfl rfl (Nat.le_of_ble_eq_true rfl) (by omega) ?_
              intro an1 h1 hq1
              rcases hr1 : cAct E τ i with e | q
              · rw [hr1] at hq1
                obtain ⟨rfl, hb1⟩ := hq1
                refine v_run 0 (pc' := 119) (ls' := [some (.ref (ad 1)), some (.int (zI ↑(4 : Nat)))]) (st' := [.int (zI 0)]) rfl ?_
                exact v_iret rfl rfl rfl (by rw [cLine, if_neg (show ¬ (tK (eB E) (eN E) i = 0 ∨ 9 < tK (eB E) (eN E) i) by omega), if_neg (show ¬ (¬ tK (eB E) (eN E) i = 1 ∧ τ 5 4 0 = 0) by omega), if_neg (show ¬ tK (eB E) (eN E) i = 1 by omega), if_neg (show ¬ tK (eB E) (eN E) i = 2 by omega), if_neg (show ¬ tK (eB E) (eN E) i = 3 by omega), if_pos (show tK (eB E) (eN E) i = 4 by omega), hr1]; exact ⟨rfl, hb1⟩)
              · rw [hr1] at hq1
                obtain ⟨rfl, hq⟩ := hq1
                refine v_run 0 (pc' := 119) (ls' := [some (.ref (ad 1)), some (.int (zI ↑(4 : Nat)))]) (st' := [.int (zI 1)]) rfl ?_
                exact v_iret rfl rfl rfl (by rw [cLine, if_neg (show ¬ (tK (eB E) (eN E) i = 0 ∨ 9 < tK (eB E) (eN E) i) by omega), if_neg (show ¬ (¬ tK (eB E) (eN E) i = 1 ∧ τ 5 4 0 = 0) by omega), if_neg (show ¬ tK (eB E) (eN E) i = 1 by omega), if_neg (show ¬ tK (eB E) (eN E) i = 2 by omega), if_neg (show ¬ tK (eB E) (eN E) i = 3 by omega), if_pos (show tK (eB E) (eN E) i = 4 by omega), hr1]; exact ⟨rfl, hq⟩)
            · rw [ek]
              refine v_tabIn (t := 120) rfl (by decide) (by decide) rfl rfl ?_
              refine v_run 1 (pc' := 121) (ls' := [some (.ref (ad 1)), some (.int (zI ↑(5 : Nat)))]) (st' := [.ref (ad 1)]) rfl ?_
              refine v_callV (My := mX3_hearFor) (As := []) (rest := []) (mc := 0) (ms := 0) rfl caX3_hearFor rfl rfl rfl hw.1 rfl rfl (c_cFor G _ hA hp hw ht hT hl (by omega) hN.2) rfl rfl (Nat.le_of_ble_eq_true rfl) (by omega) ?_
              intro an1 h1 hq1
              rcases hr1 : cFor E τ i with e | q
              · rw [hr1] at hq1
                obtain ⟨rfl, hb1⟩ := hq1
                refine v_run 0 (pc' := 124) (ls' := [some (.ref (ad 1)), some (.int (zI ↑(5 : Nat)))]) (st' := [.int (zI 0)]) rfl ?_
                exact v_iret rfl rfl rfl (by rw [cLine, if_neg (show ¬ (tK (eB E) (eN E) i = 0 ∨ 9 < tK (eB E) (eN E) i) by omega), if_neg (show ¬ (¬ tK (eB E) (eN E) i = 1 ∧ τ 5 4 0 = 0) by omega), if_neg (show ¬ tK (eB E) (eN E) i = 1 by omega), if_neg (show ¬ tK (eB E) (eN E) i = 2 by omega), if_neg (show ¬ tK (eB E) (eN E) i = 3 by omega), if_neg (show ¬ tK (eB E) (eN E) i = 4 by omega), if_pos (show tK (eB E) (eN E) i = 5 by omega), hr1]; exact ⟨rfl, hb1⟩)
              · rw [hr1] at hq1
                obtain ⟨rfl, hq⟩ := hq1
                refine v_run 0 (pc' := 124) (ls' := [some (.ref (ad 1)), some (.int (zI ↑(5 : Nat)))]) (st' := [.int (zI 1)]) rfl ?_
                exact v_iret rfl rfl rfl (by rw [cLine, if_neg (show ¬ (tK (eB E) (eN E) i = 0 ∨ 9 < tK (eB E) (eN E) i) by omega), if_neg (show ¬ (¬ tK (eB E) (eN E) i = 1 ∧ τ 5 4 0 = 0) by omega), if_neg (show ¬ tK (eB E) (eN E) i = 1 by omega), if_neg (show ¬ tK (eB E) (eN E) i = 2 by omega), if_neg (show ¬ tK (eB E) (eN E) i = 3 by omega), if_neg (show ¬ tK (eB E) (eN E) i = 4 by omega), if_pos (show tK (eB E) (eN E) i = 5 by omega), hr1]; exact ⟨rfl, hq⟩)
            · rw [ek]
              refine v_tabIn (t := 125) rfl (by decide) (by decide) rfl rfl ?_
              refine v_run 1 (pc' := 126) (ls' := [some (.ref (ad 1)), some (.int (zI ↑(6 : Nat)))]) (st' := [.ref (ad 1)]) rfl ?_
              refine v_callV (My := mX3_hearRests) (As := []) (rest := []) (mc := 0) (ms := 0) rfl caX3_hearRests rfl rfl rfl hw.1 rfl rfl (c_cRests G _ hA hp hw ht hT hl (by omega) hN.2) rfl rfl (Nat.le_of_ble_eq_true rfl) (by omega) ?_
              intro an1 h1 hq1
              rcases hr1 : cRests E τ i with e | q
              · rw [hr1] at hq1
                obtain ⟨rfl, hb1⟩ := hq1
                refine v_run 0 (pc' := 129) (ls' := [some (.ref (ad 1)), some (.int (zI ↑(6 : Nat)))]) (st' := [.int (zI 0)]) rfl ?_
                exact v_iret rfl rfl rfl (by rw [cLine, if_neg (show ¬ (tK (eB E) (eN E) i = 0 ∨ 9 < tK (eB E) (eN E) i) by omega), if_neg (show ¬ (¬ tK (eB E) (eN E) i = 1 ∧ τ 5 4 0 = 0) by omega), if_neg (show ¬ tK (eB E) (eN E) i = 1 by omega), if_neg (show ¬ tK (eB E) (eN E) i = 2 by omega), if_neg (show ¬ tK (eB E) (eN E) i = 3 by omega), if_neg (show ¬ tK (eB E) (eN E) i = 4 by omega), if_neg (show ¬ tK (eB E) (eN E) i = 5 by omega), if_pos (show tK (eB E) (eN E) i = 6 by omega), hr1]; exact ⟨rfl, hb1⟩)
              · rw [hr1] at hq1
                obtain ⟨rfl, hq⟩ := hq1
                refine v_run 0 (pc' := 129) (ls' := [some (.ref (ad 1)), some (.int (zI ↑(6 : Nat)))]) (st' := [.int (zI 1)]) rfl ?_
                exact v_iret rfl rfl rfl (by rw [cLine, if_neg (show ¬ (tK (eB E) (eN E) i = 0 ∨ 9 < tK (eB E) (eN E) i) by omega), if_neg (show ¬ (¬ tK (eB E) (eN E) i = 1 ∧ τ 5 4 0 = 0) by omega), if_neg (show ¬ tK (eB E) (eN E) i = 1 by omega), if_neg (show ¬ tK (eB E) (eN E) i = 2 by omega), if_neg (show ¬ tK (eB E) (eN E) i = 3 by omega), if_neg (show ¬ tK (eB E) (eN E) i = 4 by omega), if_neg (show ¬ tK (eB E) (eN E) i = 5 by omega), if_pos (show tK (eB E) (eN E) i = 6 by omega), hr1]; exact ⟨rfl, hq⟩)
            · rw [ek]
              refine v_tabIn (t := 130) rfl (by decide) (by decide) rfl rfl ?_
              refine v_run 1 (pc' := 131) (ls' := [some (.ref (ad 1)), some (.int (zI ↑(7 : Nat)))]) (st' := [.ref (ad 1)]) rfl ?_
              refine v_callV (My := mX3_hearDoubted) (As := []) (rest := []) (mc := 0) (ms := 0) rfl caX3_hearDoubted rfl rfl rfl hw.1 rfl rfl (c_cDoubt G _ hA hp hw ht hT hl (by omega)) rfl rfl (Nat.le_of_ble_eq_true rfl) (by omega) ?_
              intro an1 h1 hq1
              rcases hr1 : cDoubt E τ i with e | q
              · rw [hr1] at hq1
                obtain ⟨rfl, hb1⟩ := hq1
                refine v_run 0 (pc' := 134) (ls' := [some (.ref (ad 1)), some (.int (zI ↑(7 : Nat)))]) (st' := [.int (zI 0)]) rfl ?_
                exact v_iret rfl rfl rfl (by rw [cLine, if_neg (show ¬ (tK (eB E) (eN E) i = 0 ∨ 9 < tK (eB E) (eN E) i) by omega), if_neg (show ¬ (¬ tK (eB E) (eN E) i = 1 ∧ τ 5 4 0 = 0) by omega), if_neg (show ¬ tK (eB E) (eN E) i = 1 by omega), if_neg (show ¬ tK (eB E) (eN E) i = 2 by omega), if_neg (show ¬ tK (eB E) (eN E) i = 3 by omega), if_neg (show ¬ tK (eB E) (eN E) i = 4 by omega), if_neg (show ¬ tK (eB E) (eN E) i = 5 by omega), if_neg (show ¬ tK (eB E) (eN E) i = 6 by omega), if_pos (show tK (eB E) (eN E) i = 7 by omega), hr1]; exact ⟨rfl, hb1⟩)
              · rw [hr1] at hq1
                obtain ⟨rfl, hq⟩ := hq1
                refine v_run 0 (pc' := 134) (ls' := [some (.ref (ad 1)), some (.int (zI ↑(7 : Nat)))]) (st' := [.int (zI 1)]) rfl ?_
                exact v_iret rfl rfl rfl (by rw [cLine, if_neg (show ¬ (tK (eB E) (eN E) i = 0 ∨ 9 < tK (eB E) (eN E) i) by omega), if_neg (show ¬ (¬ tK (eB E) (eN E) i = 1 ∧ τ 5 4 0 = 0) by omega), if_neg (show ¬ tK (eB E) (eN E) i = 1 by omega), if_neg (show ¬ tK (eB E) (eN E) i = 2 by omega), if_neg (show ¬ tK (eB E) (eN E) i = 3 by omega), if_neg (show ¬ tK (eB E) (eN E) i = 4 by omega), if_neg (show ¬ tK (eB E) (eN E) i = 5 by omega), if_neg (show ¬ tK (eB E) (eN E) i = 6 by omega), if_pos (show tK (eB E) (eN E) i = 7 by omega), hr1]; exact ⟨rfl, hq⟩)
            · rw [ek]
              refine v_tabOut (t := 135) rfl (by decide) rfl ?_
              refine v_run 3 (pc' := 139) (ls' := [some (.ref (ad 1)), some (.int (zI ↑(8 : Nat)))]) (st' := [.int (zI 8), .int (zI ↑(8 : Nat)), .ref (ad 1)]) rfl ?_
              refine v_icmp_ne rfl (fun c139 => ?_) (fun c139 => ?_)
              · exact absurd rfl c139
              · refine v_run 2 (pc' := 147) (ls' := [some (.ref (ad 1)), some (.int (zI ↑(8 : Nat)))]) (st' := [.int (zI 1), .ref (ad 1)]) rfl ?_
                refine v_callV (My := mX3_hearOutcome) (As := [.int (zI 1)]) (rest := []) (mc := 0) (ms := 0) rfl caX3_hearOutcome rfl rfl rfl hw.1 rfl rfl (c_cEnd1 G _ hA hp hw ht hT hl (by omega) hN.2) rfl rfl (Nat.le_of_ble_eq_true rfl) (by omega) ?_
                intro an1 h1 hq1
                rcases hr1 : cEnd1 E τ i with e | q
                · rw [hr1] at hq1
                  obtain ⟨rfl, hb1⟩ := hq1
                  refine v_run 0 (pc' := 150) (ls' := [some (.ref (ad 1)), some (.int (zI ↑(8 : Nat)))]) (st' := [.int (zI 0)]) rfl ?_
                  exact v_iret rfl rfl rfl (by rw [cLine, if_neg (show ¬ (tK (eB E) (eN E) i = 0 ∨ 9 < tK (eB E) (eN E) i) by omega), if_neg (show ¬ (¬ tK (eB E) (eN E) i = 1 ∧ τ 5 4 0 = 0) by omega), if_neg (show ¬ tK (eB E) (eN E) i = 1 by omega), if_neg (show ¬ tK (eB E) (eN E) i = 2 by omega), if_neg (show ¬ tK (eB E) (eN E) i = 3 by omega), if_neg (show ¬ tK (eB E) (eN E) i = 4 by omega), if_neg (show ¬ tK (eB E) (eN E) i = 5 by omega), if_neg (show ¬ tK (eB E) (eN E) i = 6 by omega), if_neg (show ¬ tK (eB E) (eN E) i = 7 by omega), if_pos (show tK (eB E) (eN E) i = 8 by omega), hr1]; exact ⟨rfl, hb1⟩)
                · rw [hr1] at hq1
                  obtain ⟨rfl, hq⟩ := hq1
                  refine v_run 0 (pc' := 150) (ls' := [some (.ref (ad 1)), some (.int (zI ↑(8 : Nat)))]) (st' := [.int (zI 1)]) rfl ?_
                  exact v_iret rfl rfl rfl (by rw [cLine, if_neg (show ¬ (tK (eB E) (eN E) i = 0 ∨ 9 < tK (eB E) (eN E) i) by omega), if_neg (show ¬ (¬ tK (eB E) (eN E) i = 1 ∧ τ 5 4 0 = 0) by omega), if_neg (show ¬ tK (eB E) (eN E) i = 1 by omega), if_neg (show ¬ tK (eB E) (eN E) i = 2 by omega), if_neg (show ¬ tK (eB E) (eN E) i = 3 by omega), if_neg (show ¬ tK (eB E) (eN E) i = 4 by omega), if_neg (show ¬ tK (eB E) (eN E) i = 5 by omega), if_neg (show ¬ tK (eB E) (eN E) i = 6 by omega), if_neg (show ¬ tK (eB E) (eN E) i = 7 by omega), if_pos (show tK (eB E) (eN E) i = 8 by omega), hr1]; exact ⟨rfl, hq⟩)
            · rw [ek]
              refine v_tabOut (t := 135) rfl (by decide) rfl ?_
              refine v_run 3 (pc' := 139) (ls' := [some (.ref (ad 1)), some (.int (zI ↑(9 : Nat)))]) (st' := [.int (zI 8), .int (zI ↑(9 : Nat)), .ref (ad 1)]) rfl ?_
              refine v_icmp_ne rfl (fun c139 => ?_) (fun c139 => ?_)
              · refine v_run 1 (pc' := 147) (ls' := [some (.ref (ad 1)), some (.int (zI ↑(9 : Nat)))]) (st' := [.int (zI 0), .ref (ad 1)]) rfl ?_
                refine v_callV (My := mX3_hearOutcome) (As := [.int (zI 0)]) (rest := []) (mc := 0) (ms := 0) rfl caX3_hearOutcome rfl rfl rfl hw.1 rfl rfl (c_cEnd2 G _ hA hp hw ht hT hl (by omega) hN.2) rfl rfl (Nat.le_of_ble_eq_true rfl) (by omega) ?_
                intro an1 h1 hq1
                rcases hr1 : cEnd2 E τ i with e | q
                · rw [hr1] at hq1
                  obtain ⟨rfl, hb1⟩ := hq1
                  refine v_run 0 (pc' := 150) (ls' := [some (.ref (ad 1)), some (.int (zI ↑(9 : Nat)))]) (st' := [.int (zI 0)]) rfl ?_
                  exact v_iret rfl rfl rfl (by rw [cLine, if_neg (show ¬ (tK (eB E) (eN E) i = 0 ∨ 9 < tK (eB E) (eN E) i) by omega), if_neg (show ¬ (¬ tK (eB E) (eN E) i = 1 ∧ τ 5 4 0 = 0) by omega), if_neg (show ¬ tK (eB E) (eN E) i = 1 by omega), if_neg (show ¬ tK (eB E) (eN E) i = 2 by omega), if_neg (show ¬ tK (eB E) (eN E) i = 3 by omega), if_neg (show ¬ tK (eB E) (eN E) i = 4 by omega), if_neg (show ¬ tK (eB E) (eN E) i = 5 by omega), if_neg (show ¬ tK (eB E) (eN E) i = 6 by omega), if_neg (show ¬ tK (eB E) (eN E) i = 7 by omega), if_neg (show ¬ tK (eB E) (eN E) i = 8 by omega), hr1]; exact ⟨rfl, hb1⟩)
                · rw [hr1] at hq1
                  obtain ⟨rfl, hq⟩ := hq1
                  refine v_run 0 (pc' := 150) (ls' := [some (.ref (ad 1)), some (.int (zI ↑(9 : Nat)))]) (st' := [.int (zI 1)]) rfl ?_
                  exact v_iret rfl rfl rfl (by rw [cLine, if_neg (show ¬ (tK (eB E) (eN E) i = 0 ∨ 9 < tK (eB E) (eN E) i) by omega), if_neg (show ¬ (¬ tK (eB E) (eN E) i = 1 ∧ τ 5 4 0 = 0) by omega), if_neg (show ¬ tK (eB E) (eN E) i = 1 by omega), if_neg (show ¬ tK (eB E) (eN E) i = 2 by omega), if_neg (show ¬ tK (eB E) (eN E) i = 3 by omega), if_neg (show ¬ tK (eB E) (eN E) i = 4 by omega), if_neg (show ¬ tK (eB E) (eN E) i = 5 by omega), if_neg (show ¬ tK (eB E) (eN E) i = 6 by omega), if_neg (show ¬ tK (eB E) (eN E) i = 7 by omega), if_neg (show ¬ tK (eB E) (eN E) i = 8 by omega), hr1]; exact ⟨rfl, hq⟩)
              · exact absurd c139 (by decide)
          · simp (disch := omega) only [zI_lt, zI_le, zI_eq, zI_lt0, zI_le0, zI_0lt, zI_0le, zI_eq0] at c45
            refine v_run 2 (pc' := 51) (ls' := [some (.ref (ad 1)), some (.int (zI ↑(eK E i)))]) (st' := [.int (zI 6), .ref (ad 1)]) rfl ?_
            refine v_callV (My := mX3_fail) (As := [.int (zI 6)]) (rest := []) (mc := 0) (ms := 0) rfl caX3_fail rfl rfl rfl hw.1 rfl rfl (c_fail G _ (f := 6) hA hp hw ht hT hl (by decide)) rfl rfl (Nat.le_of_ble_eq_true rfl) (by omega) ?_
            rintro _ h99 ⟨rfl, hb99⟩
            refine v_run 0 (pc' := 54) (ls' := [some (.ref (ad 1)), some (.int (zI ↑(eK E i)))]) (st' := [.int (zI 0)]) rfl ?_
            exact v_iret rfl rfl rfl (by rw [show cLine E τ i = .inl (6, tP (eB E) (eN E) i) from by simp only [cLine, if_neg (show ¬ (tK (eB E) (eN E) i = 0 ∨ 9 < tK (eB E) (eN E) i) by omega), if_pos (show ¬ tK (eB E) (eN E) i = 1 ∧ τ 5 4 0 = 0 by omega), sb]]; exact ⟨rfl, hb99⟩)
      · exact absurd (by rw [ez]; rfl) c27

set_option maxRecDepth 100000 in
set_option maxHeartbeats 400000 in
theorem c_clear (G : ssG) (h : ssH) {ad : Nat → Nat} {po : Nat} {E : pE} {τ : sT} {i : Nat} (hA : ∀ k l, ad k = ad l → k = l) (hp : po = 11 ∨ po = 22) (hw : PW h ad po E τ i) (ht : TOk τ) : ssC G mX4_clear 0 0 0 [.ref (ad po)] h (fun a h' => a = none ∧ PW h' ad po E (clrT τ) i ∧ frC ad po h h') := by
  refine c_of_v okX4_clear (by decide +kernel) (ls := [some (.ref (ad po)), none]) rfl (Nat.le_of_ble_eq_true rfl) ?_
  refine v_run 2 (pc' := 2) (ls' := [some (.ref (ad po)), none]) (st' := [.int (zI 0), .ref (ad po)]) rfl ?_
  refine v_put rfl hw.2.2.2.2.1.1 rfl rfl (Nat.le_of_ble_eq_true rfl) ?_
  have hw1 := hw.plI hA hp 3 0 (by decide)
  generalize e1 : hset h (ad po) _ = h1 at hw1 ⊢
  have hf1 : frC ad po h h1 := e1 ▸ frC.set (by omega) _
  have ht1 : TOk (tU τ 1 3 0 0) := ht.up (by simp [bdT] <;> omega)
  refine v_run 2 (pc' := 7) (ls' := [some (.ref (ad po)), none]) (st' := [.int (zI 0), .ref (ad po)]) rfl ?_
  refine v_put rfl hw1.2.2.2.2.1.1 rfl rfl (Nat.le_of_ble_eq_true rfl) ?_
  have hw2 := hw1.plI hA hp 5 0 (by decide)
  generalize e2 : hset h1 (ad po) _ = h2 at hw2 ⊢
  have hf2 : frC ad po h1 h2 := e2 ▸ frC.set (by omega) _
  have ht2 : TOk (tU (tU τ 1 3 0 0) 1 5 0 0) := ht1.up (by simp [bdT] <;> omega)
  refine v_run 2 (pc' := 12) (ls' := [some (.ref (ad po)), none]) (st' := [.int (zI 0), .ref (ad po)]) rfl ?_
  refine v_put rfl hw2.2.2.2.2.1.1 rfl rfl (Nat.le_of_ble_eq_true rfl) ?_
  have hw3 := hw2.plI hA hp 7 0 (by decide)
  generalize e3 : hset h2 (ad po) _ = h3 at hw3 ⊢
  have hf3 : frC ad po h2 h3 := e3 ▸ frC.set (by omega) _
  have ht3 : TOk (tU (tU (tU τ 1 3 0 0) 1 5 0 0) 1 7 0 0) := ht2.up (by simp [bdT] <;> omega)
  refine v_run 2 (pc' := 17) (ls' := [some (.ref (ad po)), none]) (st' := [.int (zI 0), .ref (ad po)]) rfl ?_
  refine v_put rfl hw3.2.2.2.2.1.1 rfl rfl (Nat.le_of_ble_eq_true rfl) ?_
  have hw4 := hw3.plI hA hp 11 0 (by decide)
  generalize e4 : hset h3 (ad po) _ = h4 at hw4 ⊢
  have hf4 : frC ad po h3 h4 := e4 ▸ frC.set (by omega) _
  have ht4 : TOk (tU (tU (tU (tU τ 1 3 0 0) 1 5 0 0) 1 7 0 0) 1 11 0 0) := ht3.up (by simp [bdT] <;> omega)
  refine v_run 2 (pc' := 22) (ls' := [some (.ref (ad po)), none]) (st' := [.int (zI 0), .ref (ad po)]) rfl ?_
  refine v_put rfl hw4.2.2.2.2.1.1 rfl rfl (Nat.le_of_ble_eq_true rfl) ?_
  have hw5 := hw4.plI hA hp 12 0 (by decide)
  generalize e5 : hset h4 (ad po) _ = h5 at hw5 ⊢
  have hf5 : frC ad po h4 h5 := e5 ▸ frC.set (by omega) _
  have ht5 : TOk (tU (tU (tU (tU (tU τ 1 3 0 0) 1 5 0 0) 1 7 0 0) 1 11 0 0) 1 12 0 0) := ht4.up (by simp [bdT] <;> omega)
  refine v_run 2 (pc' := 27) (ls' := [some (.ref (ad po)), none]) (st' := [.int (zI (-1)), .ref (ad po)]) rfl ?_
  refine v_put rfl hw5.2.2.2.2.1.1 rfl rfl (Nat.le_of_ble_eq_true rfl) ?_
  have hw6 := hw5.plD hA hp 0 (x := -1) (by decide)
  generalize e6 : hset h5 (ad po) _ = h6 at hw6 ⊢
  have hf6 : frC ad po h5 h6 := e6 ▸ frC.set (by omega) _
  have ht6 : TOk (tU (tU (tU (tU (tU (tU τ 1 3 0 0) 1 5 0 0) 1 7 0 0) 1 11 0 0) 1 12 0 0) 1 13 0 0) := ht5.up (by simp [bdT] <;> omega)
  refine v_run 2 (pc' := 32) (ls' := [some (.ref (ad po)), none]) (st' := [.int (zI 0), .ref (ad po)]) rfl ?_
  refine v_put rfl hw6.2.2.2.2.1.1 rfl rfl (Nat.le_of_ble_eq_true rfl) ?_
  have hw7 := hw6.plI hA hp 14 0 (by decide)
  generalize e7 : hset h6 (ad po) _ = h7 at hw7 ⊢
  have hf7 : frC ad po h6 h7 := e7 ▸ frC.set (by omega) _
  have ht7 : TOk (tU (tU (tU (tU (tU (tU (tU τ 1 3 0 0) 1 5 0 0) 1 7 0 0) 1 11 0 0) 1 12 0 0) 1 13 0 0) 1 14 0 0) := ht6.up (by simp [bdT] <;> omega)
  refine v_run 2 (pc' := 37) (ls' := [some (.ref (ad po)), none]) (st' := [.int (zI 0), .ref (ad po)]) rfl ?_
  refine v_put rfl hw7.2.2.2.2.1.1 rfl rfl (Nat.le_of_ble_eq_true rfl) ?_
  have hw8 := hw7.plI hA hp 15 0 (by decide)
  generalize e8 : hset h7 (ad po) _ = h8 at hw8 ⊢
  have hf8 : frC ad po h7 h8 := e8 ▸ frC.set (by omega) _
  have ht8 : TOk (tU (tU (tU (tU (tU (tU (tU (tU τ 1 3 0 0) 1 5 0 0) 1 7 0 0) 1 11 0 0) 1 12 0 0) 1 13 0 0) 1 14 0 0) 1 15 0 0) := ht7.up (by simp [bdT] <;> omega)
  refine v_run 2 (pc' := 42) (ls' := [some (.ref (ad po)), some (.int (zI 0))]) (st' := []) rfl ?_
  rw [← clrR_0 (tU (tU (tU (tU (tU (tU (tU (tU τ 1 3 0 0) 1 5 0 0) 1 7 0 0) 1 11 0 0) 1 12 0 0) 1 13 0 0) 1 14 0 0) 1 15 0 0)] at hw8
  have lp : ∀ (f : Nat) (j : Nat) (h1 : ssH), (j ≤ 5 ∧ PW h1 ad po E (clrR (tU (tU (tU (tU (tU (tU (tU (tU τ 1 3 0 0) 1 5 0 0) 1 7 0 0) 1 11 0 0) 1 12 0 0) 1 13 0 0) 1 14 0 0) 1 15 0 0) j) i ∧ frC ad po h h1) → 5 + 1 ≤ j + f → ssV G mX4_clear 0 0 0 (fun a h' => a = none ∧ PW h' ad po E (clrT τ) i ∧ frC ad po h h') 42 [some (.ref (ad po)), some (.int (zI ↑j))] [] (h1) := by
    intro f
    induction f with
    | zero => intro j h1 hs1 hs2; obtain ⟨q1, hw, hf⟩ := hs1; exact absurd hs2 (by omega)
    | succ f ihlp =>
      intro j h1 hs1 hs2
      obtain ⟨q1, hw, hf⟩ := hs1
      refine v_run 2 (pc' := 44) (ls' := [some (.ref (ad po)), some (.int (zI ↑j))]) (st' := [.int (zI 5), .int (zI ↑j)]) rfl ?_
      refine v_icmp_ge rfl (fun c44 => ?_) (fun c44 => ?_)
      · simp (disch := omega) only [zI_lt, zI_le, zI_eq, zI_lt0, zI_le0, zI_0lt, zI_0le, zI_eq0] at c44
        exact v_vret rfl rfl ⟨rfl, by rw [show j = 5 by omega] at hw; exact hw, hf⟩
      · simp (disch := omega) only [zI_lt, zI_le, zI_eq, zI_lt0, zI_le0, zI_0lt, zI_0le, zI_eq0] at c44
        refine v_run 1 (pc' := 48) (ls' := [some (.ref (ad po)), some (.int (zI ↑j))]) (st' := [.ref (ad po)]) rfl ?_
        refine v_get rfl hw.2.2.2.2.1.1 rfl ?_
        refine v_run 2 (pc' := 53) (ls' := [some (.ref (ad po)), some (.int (zI ↑j))]) (st' := [.int (zI 0), .int (zI ↑j), .ref (Rp ad po 9)]) rfl ?_
        refine v_iastore' rfl hw.2.2.2.2.1.2.2.2.2.1 (i := j) rfl (by omega) ?_
        rw [show (zI 0 : Int32) = zI ↑(0 : Nat) from rfl, ar_upd]
        have hw2 := hw.pr9 hA hp j 0
        generalize e2 : hset h1 (Rp ad po 9) _ = h2 at hw2 ⊢
        refine v_run 1 (pc' := 55) (ls' := [some (.ref (ad po)), some (.int (zI ↑j))]) (st' := [.ref (ad po)]) rfl ?_
        refine v_get rfl hw2.2.2.2.2.1.1 rfl ?_
        refine v_run 2 (pc' := 60) (ls' := [some (.ref (ad po)), some (.int (zI ↑j))]) (st' := [.int (zI 0), .int (zI ↑j), .ref (Rp ad po 10)]) rfl ?_
        refine v_iastore' rfl hw2.2.2.2.2.1.2.2.2.2.2 (i := j) rfl (by omega) ?_
        rw [show (zI 0 : Int32) = zI ↑(0 : Nat) from rfl, ar_upd]
        have hw3 := hw2.pr10 hA hp j 0
        generalize e3 : hset h2 (Rp ad po 10) _ = h3 at hw3 ⊢
        rw [clrR_s] at hw3
        refine v_run 2 (pc' := 42) (ls' := [some (.ref (ad po)), some (.int ((zI ↑j) + zI 1))]) (st' := []) rfl ?_
        rw [zI_s1]
        have hf2 : frC ad po h1 h2 := e2 ▸ frC.set (by simp <;> omega) _
        have hf3 : frC ad po h2 h3 := e3 ▸ frC.set (by simp <;> omega) _
        exact ihlp (j + 1) h3 ⟨by omega, hw3, (hf.tr hf2).tr hf3⟩ (by omega)
  exact lp 6 0 h8 ⟨by omega, hw8, (((((((hf1.tr hf2).tr hf3).tr hf4).tr hf5).tr hf6).tr hf7).tr hf8)⟩ (by omega)

