theorem sLf_ok {ρ : sT} {f : Nat → Nat} {n : Nat} (h : sOk ρ) (hf : ∀ t, f t ≤ 99) : sOk (sLf ρ f n) := by
  obtain ⟨a, b, c⟩ := h
  have e1 := sLf_1 ρ f n
  refine ⟨by unfold fI at a ⊢; rw [e1]; exact a, by rw [e1]; exact b, fun o ho => ?_⟩
  by_cases ho3 : o = 3
  · subst ho3
    obtain ⟨c0, c1, c2, c3, c4, c5, c6⟩ := c 3 (by decide)
    unfold fI at c0 c1 c2
    refine ⟨by unfold fI; rw [sLf_r _ _ _ (by decide)]; exact c0, by unfold fI; rw [sLf_r _ _ _ (by decide)]; exact c1, by unfold fI; rw [sLf_r _ _ _ (by decide)]; exact c2, by rw [sLf_r _ _ _ (by decide)]; exact c3, by rw [sLf_r _ _ _ (by decide)]; exact c4, fun k => ?_, by rw [sLf_r _ _ _ (by decide)]; exact c6⟩
    simp only [sLf]
    split
    · exact hf k
    · exact c5 k
  · have := c o ho
    unfold fI at this ⊢
    rw [sLf_o ρ f n ho3]; exact this
theorem sPass_ok {σ : sT} (h : sOk σ) (hd : σ 3 0 0 < 99) : sOk (sPass σ) := by
  have h5 := h.1.2.2.2.2.1
  have hb := (h.2.2 3 (by decide)).2.2.2.2.2.1
  have hP : sOk (sPast σ) := by
    unfold sPast
    split
    · exact sA_ok6 h (setN_lt64 _ h5)
    · exact h
  refine sI_ok (sLf_ok (sI_ok hP (by decide) (by omega) (by omega) (by unfold sSd; omega)) (fun t => ?_)) (by decide) (by omega) (by omega)
  have := hb t
  unfold cLeft; omega
def tDay (σ : sT) : Int × sT := if σ 1 5 0 = 0 then (-1, sTr σ 1) else if 99 ≤ σ 3 0 0 then (-1, sTr σ 3) else (↑(sGood (sPass (sKeep σ))), sTr (sPass (sKeep σ)) 0)
/-! the acts as told -/
def sG2 (σ : sT) (t : Nat) : Nat := cGood (σ 1 1 0) (σ 1 4 (σ 2 4 t)) (σ 2 3 t) (σ 2 0 0) (σ 2 5 t)
def sE2 (σ : sT) (E : Nat → Nat) : Nat → Nat := fun t => if t < σ 1 5 0 then sG2 σ t else E t
theorem sE2_le (σ : sT) {E : Nat → Nat} (hE : ∀ k, E k ≤ 99) : ∀ k, sE2 σ E k ≤ 99 := by
  intro k
  simp only [sE2]
  split
  · exact cGood_le
  · exact hE k
theorem sE2_eq (σ : sT) (E : Nat → Nat) : ∀ k, k < σ 1 5 0 → sE2 σ E k = sG2 σ k := fun k hk => by simp [sE2, hk]
def sAlone2 (σ : sT) (E : Nat → Nat) : Nat := setN (cAloneP (σ 1 0 0) (σ 1 5 0) (σ 1 8) (σ 1 9) (σ 1 6) (σ 2 0 0) (σ 2 6) E) (σ 1 7 0)
theorem sAlone2_congr (σ : sT) {E F : Nat → Nat} (he : ∀ k, k < σ 1 5 0 → E k = F k) : setN (cAloneP (σ 1 0 0) (σ 1 5 0) (σ 1 8) (σ 1 9) (σ 1 6) (σ 2 0 0) (σ 2 6) E) (σ 1 7 0) = setN (cAloneP (σ 1 0 0) (σ 1 5 0) (σ 1 8) (σ 1 9) (σ 1 6) (σ 2 0 0) (σ 2 6) F) (σ 1 7 0) :=
  setN_congr _ (fun k _ => by simp only [cAloneP]; rw [cThen_congr he])
theorem sAlone2_lt {σ : sT} {E : Nat → Nat} (h : σ 1 7 0 ≤ 5) : sAlone2 σ E < 32 := Nat.lt_of_lt_of_le (setN_lt _ _) (Nat.pow_le_pow_right (n := 2) (by decide) h)
def sGo2 (σ : sT) (E : Nat → Nat) : Nat := sAmong σ (sAlone2 σ E)
theorem sGo2_lt {σ : sT} {E : Nat → Nat} (h : σ 1 7 0 ≤ 5) : sGo2 σ E < 32 := Nat.lt_of_lt_of_le (setN_lt _ _) (Nat.pow_le_pow_right (n := 2) (by decide) h)
def sBel (σ : sT) : Nat := andn (σ 1 14 0) (sGo2 σ (sG2 σ)) ||| (σ 1 15 0 &&& sGo2 σ (sG2 σ))
def aJudge (σ : sT) : Int × Nat := if σ 1 5 0 = 0 then (-1, 1) else if sBel σ = 0 then (-2, 0) else (↑(ntzN (sBel σ)), 0)
set_option maxRecDepth 100000 in
set_option maxHeartbeats 400000 in
theorem k_day (G : ssG) (h : ssH) {ad : Nat → Nat} {pl : Nat} {σ : sT}  (hA : ∀ k l, ad k = ad l → k = l) (hc : CW0 h ad pl σ) (hok : sOk σ) (hz : sZ σ) (hu : σ 4 1 0 < 16 ∧ σ 4 0 0 ≤ 16) : ssC G mX8_day 3 0 0 [.ref (ad 0)] h (cR ad pl (tDay σ).2 h (.int (zI (tDay σ).1))) := by
  refine c_of_v okX8_day (by decide +kernel) (ls := [some (.ref (ad 0))]) rfl (Nat.le_of_ble_eq_true rfl) ?_
  obtain ⟨i0, i1, i2, i3, i5, i7, a4, a6, a8, a9, a10, i11, i12, i14, i15⟩ := id hok.1
  obtain ⟨j0, j1, j2, b3, b4, b5, b6⟩ := id (hok.2.2 3 (by decide))
  have i13 := hok.2.1
  have hpl := hc.1
  simp only [fI] at i0 i1 i2 i3 i5 i7 i11 i12 i14 i15 j0 j1 j2
  refine v_run 1 (pc' := 1) (ls' := [some (.ref (ad 0))]) (st' := [.ref (ad 0)]) rfl ?_
  refine v_callV (My := mX8_lacksSafe) (As := []) (rest := []) (mc := 0) (ms := 0) rfl caX8_lacksSafe rfl rfl rfl hc.2.1 rfl rfl (k_lacksSafe G _ hA hc hok) rfl rfl (Nat.le_of_ble_eq_true rfl) (by omega) ?_
  rintro _ _ ⟨rfl, rfl⟩
  refine v_run 0 (pc' := 4) (ls' := [some (.ref (ad 0))]) (st' := [.int (zb (decide (σ 1 5 0 = 0)))]) rfl ?_
  refine v_if_eq rfl (fun c4 => ?_) (fun c4 => ?_)
  · rw [zb_0, decide_eq_false_iff_not] at c4
    refine v_run 1 (pc' := 14) (ls' := [some (.ref (ad 0))]) (st' := [.ref (ad 0)]) rfl ?_
    refine v_get rfl hc.2.1 rfl ?_
    refine v_run 0 (pc' := 17) (ls' := [some (.ref (ad 0))]) (st' := [.ref (ad 33)]) rfl ?_
    refine v_get rfl hc.2.2.2.2.1.1 rfl ?_
    refine v_run 1 (pc' := 22) (ls' := [some (.ref (ad 0))]) (st' := [.int (zI 99), .int (zI ↑(σ 3 0 0))]) rfl ?_
    refine v_icmp_lt rfl (fun c22 => ?_) (fun c22 => ?_)
    · simp (disch := omega) only [zI_lt, zI_le, zI_eq, zI_lt0, zI_le0, zI_0lt, zI_0le, zI_eq0] at c22
      refine v_run 1 (pc' := 32) (ls' := [some (.ref (ad 0))]) (st' := [.ref (ad 0)]) rfl ?_
      refine v_get rfl hc.2.1 rfl ?_
      refine v_run 1 (pc' := 36) (ls' := [some (.ref (ad 0))]) (st' := [.ref (ad 0), .ref (ad 38)]) rfl ?_
      refine v_get rfl hc.2.1 rfl ?_
      refine v_run 0 (pc' := 39) (ls' := [some (.ref (ad 0))]) (st' := [.ref (ad 33), .ref (ad 38)]) rfl ?_
      refine v_callV (My := mX7_keep) (As := [.ref (ad 33)]) (rest := []) (mc := 0) (ms := 0) rfl caX7_keep rfl rfl rfl hc.2.2.2.2.2.1.1 rfl rfl (k_keep G _ hA hc hok hz hu) rfl rfl (Nat.le_of_ble_eq_true rfl) (by omega) ?_
      rintro _ h1 ⟨rfl, hc1, hf1⟩
      have hok1 := sKeep_ok hok
      have e3 := sKeep_3 σ
      have e1 := sKeep_1 σ
      refine v_run 0 (pc' := 42) (ls' := [some (.ref (ad 0))]) (st' := []) rfl ?_
      refine v_run 1 (pc' := 43) (ls' := [some (.ref (ad 0))]) (st' := [.ref (ad 0)]) rfl ?_
      refine v_get rfl hc1.2.1 rfl ?_
      refine v_run 1 (pc' := 47) (ls' := [some (.ref (ad 0))]) (st' := [.ref (ad 0), .ref (ad 33)]) rfl ?_
      refine v_get rfl hc1.2.1 rfl ?_
      refine v_run 0 (pc' := 50) (ls' := [some (.ref (ad 0))]) (st' := [.ref (ad pl), .ref (ad 33)]) rfl ?_
      refine v_callV (My := mX2_passDay) (As := [.ref (ad pl)]) (rest := []) (mc := 0) (ms := 0) rfl caX2_passDay rfl rfl rfl hc1.2.2.2.2.1.1 rfl rfl (k_passDay G _ hA hc1 hok1) rfl rfl (Nat.le_of_ble_eq_true rfl) (by omega) ?_
      rintro _ h2 ⟨rfl, hc2, hf2⟩
      have hok2 := sPass_ok hok1 (by rw [e3]; omega)
      have hf3 := hf1.tr hf2
      refine v_run 0 (pc' := 53) (ls' := [some (.ref (ad 0))]) (st' := []) rfl ?_
      refine v_run 2 (pc' := 55) (ls' := [some (.ref (ad 0))]) (st' := [.ref (ad 0), .ref (ad 0)]) rfl ?_
      refine v_callV (My := mX8_goodNow) (As := []) (rest := [.ref (ad 0)]) (mc := 0) (ms := 0) rfl caX8_goodNow rfl rfl rfl hc2.2.1 rfl rfl (k_goodNow G _ hA hc2 hok2) rfl rfl (Nat.le_of_ble_eq_true rfl) (by omega) ?_
      rintro _ _ ⟨rfl, rfl⟩
      refine v_run 0 (pc' := 58) (ls' := [some (.ref (ad 0))]) (st' := [.int (zI ↑(sGood (sPass (sKeep σ)))), .ref (ad 0)]) rfl ?_
      refine v_callV (My := mX8_grant) (As := [.int (zI ↑(sGood (sPass (sKeep σ))))]) (rest := []) (mc := 0) (ms := 0) rfl caX8_grant rfl rfl rfl hc2.2.1 rfl rfl (k_grant G _ (zI ↑(sGood (sPass (sKeep σ)))) hA hc2 hok2) rfl rfl (Nat.le_of_ble_eq_true rfl) (by omega) ?_
      rintro _ h9 ⟨rfl, hc9, hf9⟩
      refine v_run 0 (pc' := 61) (ls' := [some (.ref (ad 0))]) (st' := [.int (zI ↑(sGood (sPass (sKeep σ))))]) rfl ?_
      rw [show tDay σ = (↑(sGood (sPass (sKeep σ))), sTr (sPass (sKeep σ)) 0) from by rw [tDay, if_neg c4, if_neg (by omega)]]
      exact v_iret rfl rfl rfl ⟨rfl, hc9, hf3.tr hf9⟩
    · simp (disch := omega) only [zI_lt, zI_le, zI_eq, zI_lt0, zI_le0, zI_0lt, zI_0le, zI_eq0] at c22
      refine v_run 2 (pc' := 27) (ls' := [some (.ref (ad 0))]) (st' := [.int (zI 3), .ref (ad 0)]) rfl ?_
      refine v_callV (My := mX8_refuse) (As := [.int (zI 3)]) (rest := []) (mc := 0) (ms := 0) rfl caX8_refuse rfl rfl rfl hc.2.1 rfl rfl (k_refuse G _ 3 hA hc hok) rfl rfl (Nat.le_of_ble_eq_true rfl) (by omega) ?_
      rintro _ h9 ⟨rfl, hc9, hf9⟩
      refine v_run 0 (pc' := 30) (ls' := [some (.ref (ad 0))]) (st' := [.int (zI (-1))]) rfl ?_
      rw [show tDay σ = (-1, sTr σ 3) from (by rw [tDay, if_neg c4, if_pos (by omega)])]
      exact v_iret rfl rfl rfl ⟨rfl, hc9, hf9⟩
  · rw [zb_0, Bool.not_eq_false, decide_eq_true_eq] at c4
    refine v_run 2 (pc' := 9) (ls' := [some (.ref (ad 0))]) (st' := [.int (zI 1), .ref (ad 0)]) rfl ?_
    refine v_callV (My := mX8_refuse) (As := [.int (zI 1)]) (rest := []) (mc := 0) (ms := 0) rfl caX8_refuse rfl rfl rfl hc.2.1 rfl rfl (k_refuse G _ 1 hA hc hok) rfl rfl (Nat.le_of_ble_eq_true rfl) (by omega) ?_
    rintro _ h9 ⟨rfl, hc9, hf9⟩
    refine v_run 0 (pc' := 12) (ls' := [some (.ref (ad 0))]) (st' := [.int (zI (-1))]) rfl ?_
    rw [show tDay σ = (-1, sTr σ 1) from if_pos c4]
    exact v_iret rfl rfl rfl ⟨rfl, hc9, hf9⟩

set_option maxRecDepth 100000 in
set_option maxHeartbeats 400000 in
theorem k_judge (G : ssG) (h : ssH) {ad : Nat → Nat} {pl : Nat} {σ : sT}  (hA : ∀ k l, ad k = ad l → k = l) (hc : CW0 h ad pl σ) (hok : sOk σ)  : ssC G mX8_judge 4 0 0 [.ref (ad 0)] h (cR ad pl (sTr σ (aJudge σ).2) h (.int (zI (aJudge σ).1))) := by
  refine c_of_v okX8_judge (by decide +kernel) (ls := [some (.ref (ad 0)), none, none]) rfl (Nat.le_of_ble_eq_true rfl) ?_
  obtain ⟨i0, i1, i2, i3, i5, i7, a4, a6, a8, a9, a10, i11, i12, i14, i15⟩ := id hok.1
  obtain ⟨j0, j1, j2, b3, b4, b5, b6⟩ := id (hok.2.2 3 (by decide))
  have i13 := hok.2.1
  have hpl := hc.1
  simp only [fI] at i0 i1 i2 i3 i5 i7 i11 i12 i14 i15 j0 j1 j2
  obtain ⟨E, hS, hE⟩ := hc.2.2.2.2.2.2.2.1
  refine v_run 1 (pc' := 1) (ls' := [some (.ref (ad 0)), none, none]) (st' := [.ref (ad 0)]) rfl ?_
  refine v_callV (My := mX8_lacksSafe) (As := []) (rest := []) (mc := 0) (ms := 0) rfl caX8_lacksSafe rfl rfl rfl hc.2.1 rfl rfl (k_lacksSafe G _ hA hc hok) rfl rfl (Nat.le_of_ble_eq_true rfl) (by omega) ?_
  rintro _ _ ⟨rfl, rfl⟩
  refine v_run 0 (pc' := 4) (ls' := [some (.ref (ad 0)), none, none]) (st' := [.int (zb (decide (σ 1 5 0 = 0)))]) rfl ?_
  refine v_if_eq rfl (fun c4 => ?_) (fun c4 => ?_)
  · rw [zb_0, decide_eq_false_iff_not] at c4
    refine v_run 1 (pc' := 14) (ls' := [some (.ref (ad 0)), none, none]) (st' := [.ref (ad 0)]) rfl ?_
    refine v_get rfl hc.2.1 rfl ?_
    refine v_run 1 (pc' := 18) (ls' := [some (.ref (ad 0)), none, none]) (st' := [.ref (ad 0), .ref (ad 136)]) rfl ?_
    refine v_get rfl hc.2.1 rfl ?_
    refine v_run 1 (pc' := 22) (ls' := [some (.ref (ad 0)), none, none]) (st' := [.ref (ad 0), .ref (ad pl), .ref (ad 136)]) rfl ?_
    refine v_get rfl hc.2.1 rfl ?_
    refine v_run 0 (pc' := 25) (ls' := [some (.ref (ad 0)), none, none]) (st' := [.ref (ad pl), .ref (ad pl), .ref (ad 136)]) rfl ?_
    refine v_get rfl hc.2.2.1.1 rfl ?_
    refine v_run 0 (pc' := 28) (ls' := [some (.ref (ad 0)), none, none]) (st' := [.ref (Rp ad pl 16), .ref (ad pl), .ref (ad 136)]) rfl ?_
    refine v_callV (My := mX6_fill) (As := [.ref (ad pl), .ref (Rp ad pl 16)]) (rest := []) (mc := 0) (ms := 0) rfl caX6_fill rfl rfl rfl hS.1 rfl rfl (k_fill G _ hc.2.2.1 hok.1 hc.2.2.2.1 (hok.2.2 2 (by decide)) hS (ad_ne hA (by omega)) ⟨ad_ne hA (by omega), ad_ne hA (by simp; omega), ad_ne hA (by simp; omega), ad_ne hA (by simp; omega), ad_ne hA (by simp; omega), ad_ne hA (by simp; omega), ad_ne hA (by simp; omega), ad_ne hA (by omega), ad_ne hA (by omega), ad_ne hA (by omega), ad_ne hA (by omega)⟩) rfl rfl (Nat.le_of_ble_eq_true rfl) (by omega) ?_
    rintro _ h1 ⟨rfl, e1⟩
    have hc1 : CW0 h1 ad pl σ := e1 ▸ hc.spans hA (sE2_le σ hE)
    have hS1 : SpanAt h1 (ad 136) (ad 137) (sE2 σ E) := e1 ▸ ⟨(hset_ne _ _ (ad_ne hA (by omega))).trans hS.1, hset_self _ _ _⟩
    have hf1 : frP ad pl h h1 := e1 ▸ (frP.rf ad pl h).set hA hc.1 (by omega) _
    refine v_run 0 (pc' := 31) (ls' := [some (.ref (ad 0)), none, none]) (st' := []) rfl ?_
    refine v_run 1 (pc' := 32) (ls' := [some (.ref (ad 0)), none, none]) (st' := [.ref (ad 0)]) rfl ?_
    refine v_get rfl hc1.2.1 rfl ?_
    refine v_run 1 (pc' := 36) (ls' := [some (.ref (ad 0)), none, none]) (st' := [.ref (ad 0), .ref (ad pl)]) rfl ?_
    refine v_get rfl hc1.2.1 rfl ?_
    refine v_run 1 (pc' := 40) (ls' := [some (.ref (ad 0)), none, none]) (st' := [.ref (ad 0), .ref (ad pl), .ref (ad pl)]) rfl ?_
    refine v_get rfl hc1.2.1 rfl ?_
    refine v_run 0 (pc' := 43) (ls' := [some (.ref (ad 0)), none, none]) (st' := [.ref (ad pl), .ref (ad pl), .ref (ad pl)]) rfl ?_
    refine v_get rfl hc1.2.2.1.1 rfl ?_
    refine v_run 1 (pc' := 47) (ls' := [some (.ref (ad 0)), none, none]) (st' := [.ref (ad 0), .ref (Rp ad pl 16), .ref (ad pl), .ref (ad pl)]) rfl ?_
    refine v_get rfl hc1.2.1 rfl ?_
    refine v_run 0 (pc' := 50) (ls' := [some (.ref (ad 0)), none, none]) (st' := [.ref (ad 136), .ref (Rp ad pl 16), .ref (ad pl), .ref (ad pl)]) rfl ?_
    refine v_callV (My := mX4_goingAlone) (As := [.ref (Rp ad pl 16), .ref (ad 136)]) (rest := [.ref (ad pl)]) (mc := 0) (ms := 0) rfl caX4_goingAlone rfl rfl rfl hc1.2.2.1.1 rfl rfl (k_goingAlone G _ hc1.2.2.1 hok.1 hc1.2.2.2.1 (hok.2.2 2 (by decide)) hS1 (sE2_le σ hE)) rfl rfl (Nat.le_of_ble_eq_true rfl) (by omega) ?_
    rintro _ _ ⟨rfl, rfl⟩
    refine v_run 0 (pc' := 53) (ls' := [some (.ref (ad 0)), none, none]) (st' := [.int (zI ↑(setN (cAloneP (σ 1 0 0) (σ 1 5 0) (σ 1 8) (σ 1 9) (σ 1 6) (σ 2 0 0) (σ 2 6) (sE2 σ E)) (σ 1 7 0))), .ref (ad pl)]) rfl ?_
    rw [show (zI ↑(setN (cAloneP (σ 1 0 0) (σ 1 5 0) (σ 1 8) (σ 1 9) (σ 1 6) (σ 2 0 0) (σ 2 6) (sE2 σ E)) (σ 1 7 0)) : Int32) = zI ↑(sAlone2 σ (sG2 σ)) from by rw [sAlone2_congr σ (sE2_eq σ E)]; rfl]
    have q1 := sAlone2_lt (E := sG2 σ) i7
    refine v_callV (My := mX4_goingAmong) (As := [.int (zI ↑(sAlone2 σ (sG2 σ)))]) (rest := []) (mc := 0) (ms := 0) rfl caX4_goingAmong rfl rfl rfl hc1.2.2.1.1 rfl rfl (k_goingAmong G _ (sAlone2 σ (sG2 σ)) hc1.2.2.1 hok.1 q1) rfl rfl (Nat.le_of_ble_eq_true rfl) (by omega) ?_
    rintro _ _ ⟨rfl, rfl⟩
    refine v_run 0 (pc' := 56) (ls' := [some (.ref (ad 0)), none, none]) (st' := [.int (zI ↑(sGo2 σ (sG2 σ)))]) rfl ?_
    have q2 := sGo2_lt (E := sG2 σ) i7
    refine v_run 2 (pc' := 58) (ls' := [some (.ref (ad 0)), some (.int (zI ↑(sGo2 σ (sG2 σ)))), none]) (st' := [.ref (ad 0)]) rfl ?_
    refine v_get rfl hc1.2.1 rfl ?_
    refine v_run 0 (pc' := 61) (ls' := [some (.ref (ad 0)), some (.int (zI ↑(sGo2 σ (sG2 σ)))), none]) (st' := [.ref (ad pl)]) rfl ?_
    refine v_get rfl hc1.2.2.1.1 rfl ?_
    refine v_run 5 (pc' := 69) (ls' := [some (.ref (ad 0)), some (.int (zI ↑(sGo2 σ (sG2 σ)))), none]) (st' := [.ref (ad 0), .int ((zI ↑(σ 1 14 0)) &&& ((zI ↑(sGo2 σ (sG2 σ))) ^^^ (zI (-1))))]) rfl ?_
    refine v_get rfl hc1.2.1 rfl ?_
    refine v_run 0 (pc' := 72) (ls' := [some (.ref (ad 0)), some (.int (zI ↑(sGo2 σ (sG2 σ)))), none]) (st' := [.ref (ad pl), .int ((zI ↑(σ 1 14 0)) &&& ((zI ↑(sGo2 σ (sG2 σ))) ^^^ (zI (-1))))]) rfl ?_
    refine v_get rfl hc1.2.2.1.1 rfl ?_
    refine v_run 6 (pc' := 81) (ls' := [some (.ref (ad 0)), some (.int (zI ↑(sGo2 σ (sG2 σ)))), some (.int (((zI ↑(σ 1 14 0)) &&& ((zI ↑(sGo2 σ (sG2 σ))) ^^^ (zI (-1)))) ||| ((zI ↑(σ 1 15 0)) &&& (zI ↑(sGo2 σ (sG2 σ))))))]) (st' := [.int (((zI ↑(σ 1 14 0)) &&& ((zI ↑(sGo2 σ (sG2 σ))) ^^^ (zI (-1)))) ||| ((zI ↑(σ 1 15 0)) &&& (zI ↑(sGo2 σ (sG2 σ))))), .ref (ad 0)]) rfl ?_
    rw [show ((zI ↑(σ 1 14 0)) &&& ((zI ↑(sGo2 σ (sG2 σ))) ^^^ (zI (-1))) : Int32) = zI ↑(andn (σ 1 14 0) (sGo2 σ (sG2 σ))) from zI_andn (by omega) (by omega)]
    rw [show ((zI ↑(σ 1 15 0)) &&& (zI ↑(sGo2 σ (sG2 σ))) : Int32) = zI ↑(σ 1 15 0 &&& sGo2 σ (sG2 σ)) from zI_land (by omega) (by omega)]
    have q3 := andn_lt (b := sGo2 σ (sG2 σ)) (n := 5) i14
    have q4 : σ 1 15 0 &&& sGo2 σ (sG2 σ) < 32 := Nat.lt_of_le_of_lt Nat.and_le_left i15
    rw [show ((zI ↑(andn (σ 1 14 0) (sGo2 σ (sG2 σ)))) ||| (zI ↑(σ 1 15 0 &&& sGo2 σ (sG2 σ))) : Int32) = zI ↑(sBel σ) from zI_lor (by omega) (by omega)]
    have q5 : sBel σ < 32 := Nat.or_lt_two_pow (n := 5) q3 q4
    refine v_if_ne rfl (fun c81 => ?_) (fun c81 => ?_)
    · simp (disch := omega) only [zI_lt, zI_le, zI_eq, zI_lt0, zI_le0, zI_0lt, zI_0le, zI_eq0] at c81
      refine v_run 1 (pc' := 90) (ls' := [some (.ref (ad 0)), some (.int (zI ↑(sGo2 σ (sG2 σ)))), some (.int (zI ↑(sBel σ)))]) (st' := [.int (zI ↑(sBel σ)), .ref (ad 0)]) rfl ?_
      refine v_callS (My := mJ6_numberOfTrailingZeros_0f7a4) (As := [.int (zI ↑(sBel σ))]) (rest := [.ref (ad 0)]) (mc := 0) (ms := 0) rfl caJ6_numberOfTrailingZeros_0f7a4 rfl rfl (k_ntz G _ (sBel σ) q5 (by omega)) rfl rfl (Nat.le_of_ble_eq_true rfl) (by omega) ?_
      rintro _ _ ⟨rfl, rfl⟩
      refine v_run 0 (pc' := 93) (ls' := [some (.ref (ad 0)), some (.int (zI ↑(sGo2 σ (sG2 σ)))), some (.int (zI ↑(sBel σ)))]) (st' := [.int (zI ↑(ntzN (sBel σ))), .ref (ad 0)]) rfl ?_
      refine v_callV (My := mX8_grant) (As := [.int (zI ↑(ntzN (sBel σ)))]) (rest := []) (mc := 0) (ms := 0) rfl caX8_grant rfl rfl rfl hc1.2.1 rfl rfl (k_grant G _ ((zI ↑(ntzN (sBel σ)))) hA hc1 hok) rfl rfl (Nat.le_of_ble_eq_true rfl) (by omega) ?_
      rintro _ h9 ⟨rfl, hc9, hf9⟩
      refine v_run 0 (pc' := 96) (ls' := [some (.ref (ad 0)), some (.int (zI ↑(sGo2 σ (sG2 σ)))), some (.int (zI ↑(sBel σ)))]) (st' := [.int ((zI ↑(ntzN (sBel σ))))]) rfl ?_
      rw [show aJudge σ = (↑(ntzN (sBel σ)), 0) from by rw [aJudge, if_neg c4, if_neg (by omega)]]
      exact v_iret rfl rfl rfl ⟨rfl, hc9, hf1.tr hf9⟩
    · simp (disch := omega) only [zI_lt, zI_le, zI_eq, zI_lt0, zI_le0, zI_0lt, zI_0le, zI_eq0] at c81
      refine v_run 2 (pc' := 93) (ls' := [some (.ref (ad 0)), some (.int (zI ↑(sGo2 σ (sG2 σ)))), some (.int (zI ↑(sBel σ)))]) (st' := [.int (zI (-2)), .ref (ad 0)]) rfl ?_
      refine v_callV (My := mX8_grant) (As := [.int (zI (-2))]) (rest := []) (mc := 0) (ms := 0) rfl caX8_grant rfl rfl rfl hc1.2.1 rfl rfl (k_grant G _ ((zI (-2))) hA hc1 hok) rfl rfl (Nat.le_of_ble_eq_true rfl) (by omega) ?_
      rintro _ h9 ⟨rfl, hc9, hf9⟩
      refine v_run 0 (pc' := 96) (ls' := [some (.ref (ad 0)), some (.int (zI ↑(sGo2 σ (sG2 σ)))), some (.int (zI ↑(sBel σ)))]) (st' := [.int ((zI (-2)))]) rfl ?_
      rw [show aJudge σ = (-2, 0) from by rw [aJudge, if_neg c4, if_pos (by omega)]]
      exact v_iret rfl rfl rfl ⟨rfl, hc9, hf1.tr hf9⟩
  · rw [zb_0, Bool.not_eq_false, decide_eq_true_eq] at c4
    refine v_run 2 (pc' := 9) (ls' := [some (.ref (ad 0)), none, none]) (st' := [.int (zI 1), .ref (ad 0)]) rfl ?_
    refine v_callV (My := mX8_refuse) (As := [.int (zI 1)]) (rest := []) (mc := 0) (ms := 0) rfl caX8_refuse rfl rfl rfl hc.2.1 rfl rfl (k_refuse G _ 1 hA hc hok) rfl rfl (Nat.le_of_ble_eq_true rfl) (by omega) ?_
    rintro _ h9 ⟨rfl, hc9, hf9⟩
    refine v_run 0 (pc' := 12) (ls' := [some (.ref (ad 0)), none, none]) (st' := [.int (zI (-1))]) rfl ?_
    rw [show aJudge σ = (-1, 1) from if_pos c4]
    exact v_iret rfl rfl rfl ⟨rfl, hc9, hf9⟩

