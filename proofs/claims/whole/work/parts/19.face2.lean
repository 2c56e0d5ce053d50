def sG (σ : sT) (t : Nat) : Nat := cGood (σ 1 1 0) (σ 1 4 (σ 3 4 t)) (σ 3 3 t) (σ 3 0 0) (σ 3 5 t)
def sE (σ : sT) (E : Nat → Nat) : Nat → Nat := fun t => if t < σ 1 5 0 then sG σ t else E t
theorem fstN_le (p : Nat → Bool) : ∀ f n, fstN p f n ≤ n + f
  | 0, n => by simp [fstN]
  | f + 1, n => by
    simp only [fstN]
    split
    · omega
    · have := fstN_le p f (n + 1); omega
theorem cGood_le {heat air kd dy left : Nat} : cGood heat air kd dy left ≤ 99 := by
  have := fstN_le (fun n => decide (left ≤ cLoss heat air kd dy n)) 99 0
  unfold cGood; omega
theorem sE_le (σ : sT) {E : Nat → Nat} (hE : ∀ k, E k ≤ 99) : ∀ k, sE σ E k ≤ 99 := by
  intro k
  simp only [sE]
  split
  · exact cGood_le
  · exact hE k
theorem sE_eq (σ : sT) (E : Nat → Nat) : ∀ k, k < σ 1 5 0 → sE σ E k = sG σ k := fun k hk => by simp [sE, hk]
theorem cQD_congr {E F : Nat → Nat} (sc qr : Nat) (he : ∀ k, k < sc → E k = F k) : ∀ s, s ≤ sc → cQD E sc qr s = cQD F sc qr s
  | 0, _ => rfl
  | s + 1, h => by
    have h1 := cQD_congr sc qr he s (by omega)
    have h2 := he s (by omega)
    have h3 : setN (fun t => decide ((↑(E s) - 1 : Int) < ↑(E t))) sc = setN (fun t => decide ((↑(F s) - 1 : Int) < ↑(F t))) sc := setN_congr sc (fun k hk => by rw [h2, he k hk])
    simp only [cQD]
    rw [h3, h1, h2]
def sLasts (σ : sT) : Nat := cQD (sG σ) (σ 1 5 0) (σ 1 0 0) (σ 1 5 0)
def sAmong (σ : sT) (al : Nat) : Nat := setN (fun s => decide (andn (2 ^ s ||| cRO (σ 1 10) (σ 1 7 0) s 0) al = 0)) (σ 1 7 0)
def sAlone (σ : sT) : Nat := setN (cAloneP (σ 1 0 0) (σ 1 5 0) (σ 1 8) (σ 1 9) (σ 1 6) (σ 3 0 0) (σ 3 6) (sG σ)) (σ 1 7 0)
theorem cThen_congr {sc : Nat} {ad : Nat → Nat} {dy : Nat} {past E F : Nat → Nat} {s : Nat} (he : ∀ k, k < sc → E k = F k) : cThen sc ad dy past E s = cThen sc ad dy past F s := by
  unfold cThen
  split
  · rfl
  · exact setN_congr sc (fun k hk => by rw [he k hk])
theorem sAlone_congr (σ : sT) (E : Nat → Nat) : setN (cAloneP (σ 1 0 0) (σ 1 5 0) (σ 1 8) (σ 1 9) (σ 1 6) (σ 3 0 0) (σ 3 6) (sE σ E)) (σ 1 7 0) = setN (cAloneP (σ 1 0 0) (σ 1 5 0) (σ 1 8) (σ 1 9) (σ 1 6) (σ 3 0 0) (σ 3 6) (sG σ)) (σ 1 7 0) :=
  setN_congr _ (fun k _ => by simp only [cAloneP]; rw [cThen_congr (sE_eq σ E)])
def sGoing (σ : sT) : Nat := sAmong σ (sAlone σ)
def aGood (σ : sT) : Int × Nat := if σ 1 5 0 = 0 then (-1, 1) else (↑(sGood σ), 0)
def aQuorum (σ : sT) : Int × Nat := if σ 1 5 0 = 0 then (-1, 1) else if σ 1 0 0 ≤ popN (sGood σ) then (1, 0) else (0, 0)
def aLasts (σ : sT) : Int × Nat := if σ 1 5 0 = 0 then (-1, 1) else (↑(sLasts σ), 0)
def aGoing (σ : sT) : Int × Nat := if σ 1 5 0 = 0 then (-1, 1) else (↑(sGoing σ), 0)
def aOffIn (σ : sT) (s : Int) : Int × Nat := if s < 0 ∨ ↑(σ 1 5 0) ≤ s then (-1, 1) else if sG σ s.toNat ≤ 60 then (↑(sG σ s.toNat), 0) else (-2, 0)
set_option maxRecDepth 100000 in
set_option maxHeartbeats 400000 in
theorem k_lastsNow (G : ssG) (h : ssH) {ad : Nat → Nat} {pl : Nat} {σ : sT}  (hA : ∀ k l, ad k = ad l → k = l) (hc : CW0 h ad pl σ) (hok : sOk σ)  : ssC G mX8_lastsNow 4 0 0 [.ref (ad 0)] h (cR ad pl σ h (.int (zI ↑(sLasts σ)))) := by
  refine c_of_v okX8_lastsNow (by decide +kernel) (ls := [some (.ref (ad 0))]) rfl (Nat.le_of_ble_eq_true rfl) ?_
  obtain ⟨i0, i1, i2, i3, i5, i7, a4, a6, a8, a9, a10, i11, i12, i14, i15⟩ := id hok.1
  obtain ⟨j0, j1, j2, b3, b4, b5, b6⟩ := id (hok.2.2 3 (by decide))
  have i13 := hok.2.1
  have hpl := hc.1
  simp only [fI] at i0 i1 i2 i3 i5 i7 i11 i12 i14 i15 j0 j1 j2
  obtain ⟨E, hS, hE⟩ := hc.2.2.2.2.2.2.2.1
  refine v_run 1 (pc' := 1) (ls' := [some (.ref (ad 0))]) (st' := [.ref (ad 0)]) rfl ?_
  refine v_get rfl hc.2.1 rfl ?_
  refine v_run 1 (pc' := 5) (ls' := [some (.ref (ad 0))]) (st' := [.ref (ad 0), .ref (ad 136)]) rfl ?_
  refine v_get rfl hc.2.1 rfl ?_
  refine v_run 1 (pc' := 9) (ls' := [some (.ref (ad 0))]) (st' := [.ref (ad 0), .ref (ad pl), .ref (ad 136)]) rfl ?_
  refine v_get rfl hc.2.1 rfl ?_
  refine v_run 0 (pc' := 12) (ls' := [some (.ref (ad 0))]) (st' := [.ref (ad 33), .ref (ad pl), .ref (ad 136)]) rfl ?_
  refine v_callV (My := mX6_fill) (As := [.ref (ad pl), .ref (ad 33)]) (rest := []) (mc := 0) (ms := 0) rfl caX6_fill rfl rfl rfl hS.1 rfl rfl (k_fill G _ hc.2.2.1 hok.1 hc.2.2.2.2.1 (hok.2.2 3 (by decide)) hS (ad_ne hA (by omega)) ⟨ad_ne hA (by omega), ad_ne hA (by simp; omega), ad_ne hA (by simp; omega), ad_ne hA (by simp; omega), ad_ne hA (by simp; omega), ad_ne hA (by simp; omega), ad_ne hA (by omega), ad_ne hA (by omega), ad_ne hA (by omega), ad_ne hA (by omega), ad_ne hA (by omega)⟩) rfl rfl (Nat.le_of_ble_eq_true rfl) (by omega) ?_
  rintro _ h1 ⟨rfl, e1⟩
  have hc1 : CW0 h1 ad pl σ := e1 ▸ hc.spans hA (sE_le σ hE)
  have hS1 : SpanAt h1 (ad 136) (ad 137) (sE σ E) := e1 ▸ ⟨(hset_ne _ _ (ad_ne hA (by omega))).trans hS.1, hset_self _ _ _⟩
  have hf1 : frP ad pl h h1 := e1 ▸ (frP.rf ad pl h).set hA hc.1 (by omega) _
  refine v_run 0 (pc' := 15) (ls' := [some (.ref (ad 0))]) (st' := []) rfl ?_
  refine v_run 1 (pc' := 16) (ls' := [some (.ref (ad 0))]) (st' := [.ref (ad 0)]) rfl ?_
  refine v_get rfl hc1.2.1 rfl ?_
  refine v_run 1 (pc' := 20) (ls' := [some (.ref (ad 0))]) (st' := [.ref (ad 0), .ref (ad 136)]) rfl ?_
  refine v_get rfl hc1.2.1 rfl ?_
  refine v_run 0 (pc' := 23) (ls' := [some (.ref (ad 0))]) (st' := [.ref (ad pl), .ref (ad 136)]) rfl ?_
  refine v_get rfl hc1.2.2.1.1 rfl ?_
  refine v_run 1 (pc' := 27) (ls' := [some (.ref (ad 0))]) (st' := [.ref (ad 0), .int (zI ↑(σ 1 5 0)), .ref (ad 136)]) rfl ?_
  refine v_get rfl hc1.2.1 rfl ?_
  refine v_run 0 (pc' := 30) (ls' := [some (.ref (ad 0))]) (st' := [.ref (ad pl), .int (zI ↑(σ 1 5 0)), .ref (ad 136)]) rfl ?_
  refine v_get rfl hc1.2.2.1.1 rfl ?_
  refine v_run 0 (pc' := 33) (ls' := [some (.ref (ad 0))]) (st' := [.int (zI ↑(σ 1 0 0)), .int (zI ↑(σ 1 5 0)), .ref (ad 136)]) rfl ?_
  refine v_callV (My := mX6_quorumDays) (As := [.int (zI ↑(σ 1 5 0)), .int (zI ↑(σ 1 0 0))]) (rest := []) (mc := 0) (ms := 0) rfl caX6_quorumDays rfl rfl rfl hS1.1 rfl rfl (k_quorumDays G _ (σ 1 5 0) (σ 1 0 0) hS1 (sE_le σ hE) i5 i0) rfl rfl (Nat.le_of_ble_eq_true rfl) (by omega) ?_
  rintro _ _ ⟨rfl, rfl⟩
  refine v_run 0 (pc' := 36) (ls' := [some (.ref (ad 0))]) (st' := [.int (zI ↑(cQD (sE σ E) (σ 1 5 0) (σ 1 0 0) (σ 1 5 0)))]) rfl ?_
  exact v_iret rfl rfl rfl ⟨by rw [sLasts, cQD_congr _ _ (sE_eq σ E) _ (Nat.le_refl _)], hc1, hf1⟩

set_option maxRecDepth 100000 in
set_option maxHeartbeats 400000 in
theorem k_goingNow (G : ssG) (h : ssH) {ad : Nat → Nat} {pl : Nat} {σ : sT}  (hA : ∀ k l, ad k = ad l → k = l) (hc : CW0 h ad pl σ) (hok : sOk σ)  : ssC G mX8_goingNow 4 0 0 [.ref (ad 0)] h (cR ad pl σ h (.int (zI ↑(sGoing σ)))) := by
  refine c_of_v okX8_goingNow (by decide +kernel) (ls := [some (.ref (ad 0))]) rfl (Nat.le_of_ble_eq_true rfl) ?_
  obtain ⟨i0, i1, i2, i3, i5, i7, a4, a6, a8, a9, a10, i11, i12, i14, i15⟩ := id hok.1
  obtain ⟨j0, j1, j2, b3, b4, b5, b6⟩ := id (hok.2.2 3 (by decide))
  have i13 := hok.2.1
  have hpl := hc.1
  simp only [fI] at i0 i1 i2 i3 i5 i7 i11 i12 i14 i15 j0 j1 j2
  obtain ⟨E, hS, hE⟩ := hc.2.2.2.2.2.2.2.1
  refine v_run 1 (pc' := 1) (ls' := [some (.ref (ad 0))]) (st' := [.ref (ad 0)]) rfl ?_
  refine v_get rfl hc.2.1 rfl ?_
  refine v_run 1 (pc' := 5) (ls' := [some (.ref (ad 0))]) (st' := [.ref (ad 0), .ref (ad 136)]) rfl ?_
  refine v_get rfl hc.2.1 rfl ?_
  refine v_run 1 (pc' := 9) (ls' := [some (.ref (ad 0))]) (st' := [.ref (ad 0), .ref (ad pl), .ref (ad 136)]) rfl ?_
  refine v_get rfl hc.2.1 rfl ?_
  refine v_run 0 (pc' := 12) (ls' := [some (.ref (ad 0))]) (st' := [.ref (ad 33), .ref (ad pl), .ref (ad 136)]) rfl ?_
  refine v_callV (My := mX6_fill) (As := [.ref (ad pl), .ref (ad 33)]) (rest := []) (mc := 0) (ms := 0) rfl caX6_fill rfl rfl rfl hS.1 rfl rfl (k_fill G _ hc.2.2.1 hok.1 hc.2.2.2.2.1 (hok.2.2 3 (by decide)) hS (ad_ne hA (by omega)) ⟨ad_ne hA (by omega), ad_ne hA (by simp; omega), ad_ne hA (by simp; omega), ad_ne hA (by simp; omega), ad_ne hA (by simp; omega), ad_ne hA (by simp; omega), ad_ne hA (by omega), ad_ne hA (by omega), ad_ne hA (by omega), ad_ne hA (by omega), ad_ne hA (by omega)⟩) rfl rfl (Nat.le_of_ble_eq_true rfl) (by omega) ?_
  rintro _ h1 ⟨rfl, e1⟩
  have hc1 : CW0 h1 ad pl σ := e1 ▸ hc.spans hA (sE_le σ hE)
  have hS1 : SpanAt h1 (ad 136) (ad 137) (sE σ E) := e1 ▸ ⟨(hset_ne _ _ (ad_ne hA (by omega))).trans hS.1, hset_self _ _ _⟩
  have hf1 : frP ad pl h h1 := e1 ▸ (frP.rf ad pl h).set hA hc.1 (by omega) _
  refine v_run 0 (pc' := 15) (ls' := [some (.ref (ad 0))]) (st' := []) rfl ?_
  refine v_run 1 (pc' := 16) (ls' := [some (.ref (ad 0))]) (st' := [.ref (ad 0)]) rfl ?_
  refine v_get rfl hc1.2.1 rfl ?_
  refine v_run 1 (pc' := 20) (ls' := [some (.ref (ad 0))]) (st' := [.ref (ad 0), .ref (ad pl)]) rfl ?_
  refine v_get rfl hc1.2.1 rfl ?_
  refine v_run 1 (pc' := 24) (ls' := [some (.ref (ad 0))]) (st' := [.ref (ad 0), .ref (ad pl), .ref (ad pl)]) rfl ?_
  refine v_get rfl hc1.2.1 rfl ?_
  refine v_run 1 (pc' := 28) (ls' := [some (.ref (ad 0))]) (st' := [.ref (ad 0), .ref (ad 33), .ref (ad pl), .ref (ad pl)]) rfl ?_
  refine v_get rfl hc1.2.1 rfl ?_
  refine v_run 0 (pc' := 31) (ls' := [some (.ref (ad 0))]) (st' := [.ref (ad 136), .ref (ad 33), .ref (ad pl), .ref (ad pl)]) rfl ?_
  refine v_callV (My := mX4_goingAlone) (As := [.ref (ad 33), .ref (ad 136)]) (rest := [.ref (ad pl)]) (mc := 0) (ms := 0) rfl caX4_goingAlone rfl rfl rfl hc1.2.2.1.1 rfl rfl (k_goingAlone G _ hc1.2.2.1 hok.1 hc1.2.2.2.2.1 (hok.2.2 3 (by decide)) hS1 (sE_le σ hE)) rfl rfl (Nat.le_of_ble_eq_true rfl) (by omega) ?_
  rintro _ _ ⟨rfl, rfl⟩
  refine v_run 0 (pc' := 34) (ls' := [some (.ref (ad 0))]) (st' := [.int (zI ↑(setN (cAloneP (σ 1 0 0) (σ 1 5 0) (σ 1 8) (σ 1 9) (σ 1 6) (σ 3 0 0) (σ 3 6) (sE σ E)) (σ 1 7 0))), .ref (ad pl)]) rfl ?_
  have q1 : setN (cAloneP (σ 1 0 0) (σ 1 5 0) (σ 1 8) (σ 1 9) (σ 1 6) (σ 3 0 0) (σ 3 6) (sE σ E)) (σ 1 7 0) < 32 := Nat.lt_of_lt_of_le (setN_lt _ _) (Nat.pow_le_pow_right (n := 2) (by decide) i7)
  refine v_callV (My := mX4_goingAmong) (As := [.int (zI ↑(setN (cAloneP (σ 1 0 0) (σ 1 5 0) (σ 1 8) (σ 1 9) (σ 1 6) (σ 3 0 0) (σ 3 6) (sE σ E)) (σ 1 7 0)))]) (rest := []) (mc := 0) (ms := 0) rfl caX4_goingAmong rfl rfl rfl hc1.2.2.1.1 rfl rfl (k_goingAmong G _ (setN (cAloneP (σ 1 0 0) (σ 1 5 0) (σ 1 8) (σ 1 9) (σ 1 6) (σ 3 0 0) (σ 3 6) (sE σ E)) (σ 1 7 0)) hc1.2.2.1 hok.1 q1) rfl rfl (Nat.le_of_ble_eq_true rfl) (by omega) ?_
  rintro _ _ ⟨rfl, rfl⟩
  refine v_run 0 (pc' := 37) (ls' := [some (.ref (ad 0))]) (st' := [.int (zI ↑(sAmong σ (setN (cAloneP (σ 1 0 0) (σ 1 5 0) (σ 1 8) (σ 1 9) (σ 1 6) (σ 3 0 0) (σ 3 6) (sE σ E)) (σ 1 7 0))))]) rfl ?_
  exact v_iret rfl rfl rfl ⟨by rw [sGoing, sAlone, sAlone_congr σ E], hc1, hf1⟩

set_option maxRecDepth 100000 in
set_option maxHeartbeats 400000 in
theorem k_good (G : ssG) (h : ssH) {ad : Nat → Nat} {pl : Nat} {σ : sT}  (hA : ∀ k l, ad k = ad l → k = l) (hc : CW0 h ad pl σ) (hok : sOk σ)  : ssC G mX8_good 2 0 0 [.ref (ad 0)] h (cR ad pl (sTr σ (aGood σ).2) h (.int (zI (aGood σ).1))) := by
  refine c_of_v okX8_good (by decide +kernel) (ls := [some (.ref (ad 0))]) rfl (Nat.le_of_ble_eq_true rfl) ?_
  obtain ⟨i0, i1, i2, i3, i5, i7, a4, a6, a8, a9, a10, i11, i12, i14, i15⟩ := id hok.1
  obtain ⟨j0, j1, j2, b3, b4, b5, b6⟩ := id (hok.2.2 3 (by decide))
  have i13 := hok.2.1
  have hpl := hc.1
  simp only [fI] at i0 i1 i2 i3 i5 i7 i11 i12 i14 i15 j0 j1 j2
  refine v_run 1 (pc' := 1) (ls' := [some (.ref (ad 0))]) (st' := [.ref (ad 0)]) rfl ?_
  refine v_callV (My := mX8_lacksSafe) (As := []) (rest := []) (mc := 0) (ms := 0) rfl caX8_lacksSafe rfl rfl rfl hc.2.1 rfl rfl (k_lacksSafe G _ hA hc hok) rfl rfl (Nat.le_of_ble_eq_true rfl) (by omega) ?_
  rintro _ _ ⟨rfl, rfl⟩
  refine v_run 0 (pc' := 4) (ls' := [some (.ref (ad 0))]) (st' := [.int (zb (decide (σ 1 5 0 = 0)))]) rfl ?_
  refine v_if_eq rfl (fun c4 => ?_) (fun c4 => ?_)
  · rw [zb_0, decide_eq_false_iff_not] at c4
    refine v_run 2 (pc' := 15) (ls' := [some (.ref (ad 0))]) (st' := [.ref (ad 0), .ref (ad 0)]) rfl ?_
    refine v_callV (My := mX8_goodNow) (As := []) (rest := [.ref (ad 0)]) (mc := 0) (ms := 0) rfl caX8_goodNow rfl rfl rfl hc.2.1 rfl rfl (k_goodNow G _ hA hc hok) rfl rfl (Nat.le_of_ble_eq_true rfl) (by omega) ?_
    rintro _ _ ⟨rfl, rfl⟩
    refine v_run 0 (pc' := 18) (ls' := [some (.ref (ad 0))]) (st' := [.int (zI ↑(sGood σ)), .ref (ad 0)]) rfl ?_
    refine v_callV (My := mX8_grant) (As := [.int (zI ↑(sGood σ))]) (rest := []) (mc := 0) (ms := 0) rfl caX8_grant rfl rfl rfl hc.2.1 rfl rfl (k_grant G _ ((zI ↑(sGood σ))) hA hc hok) rfl rfl (Nat.le_of_ble_eq_true rfl) (by omega) ?_
    rintro _ h9 ⟨rfl, hc9, hf9⟩
    refine v_run 0 (pc' := 21) (ls' := [some (.ref (ad 0))]) (st' := [.int ((zI ↑(sGood σ)))]) rfl ?_
    rw [show aGood σ = (↑(sGood σ), 0) from if_neg c4]
    exact v_iret rfl rfl rfl ⟨rfl, hc9, hf9⟩
  · rw [zb_0, Bool.not_eq_false, decide_eq_true_eq] at c4
    refine v_run 2 (pc' := 9) (ls' := [some (.ref (ad 0))]) (st' := [.int (zI 1), .ref (ad 0)]) rfl ?_
    refine v_callV (My := mX8_refuse) (As := [.int (zI 1)]) (rest := []) (mc := 0) (ms := 0) rfl caX8_refuse rfl rfl rfl hc.2.1 rfl rfl (k_refuse G _ 1 hA hc hok) rfl rfl (Nat.le_of_ble_eq_true rfl) (by omega) ?_
    rintro _ h9 ⟨rfl, hc9, hf9⟩
    refine v_run 0 (pc' := 12) (ls' := [some (.ref (ad 0))]) (st' := [.int (zI (-1))]) rfl ?_
    rw [show aGood σ = (-1, 1) from if_pos c4]
    exact v_iret rfl rfl rfl ⟨rfl, hc9, hf9⟩

set_option maxRecDepth 100000 in
set_option maxHeartbeats 400000 in
theorem k_quorum (G : ssG) (h : ssH) {ad : Nat → Nat} {pl : Nat} {σ : sT}  (hA : ∀ k l, ad k = ad l → k = l) (hc : CW0 h ad pl σ) (hok : sOk σ)  : ssC G mX8_quorum 2 0 0 [.ref (ad 0)] h (cR ad pl (sTr σ (aQuorum σ).2) h (.int (zI (aQuorum σ).1))) := by
  refine c_of_v okX8_quorum (by decide +kernel) (ls := [some (.ref (ad 0))]) rfl (Nat.le_of_ble_eq_true rfl) ?_
  obtain ⟨i0, i1, i2, i3, i5, i7, a4, a6, a8, a9, a10, i11, i12, i14, i15⟩ := id hok.1
  obtain ⟨j0, j1, j2, b3, b4, b5, b6⟩ := id (hok.2.2 3 (by decide))
  have i13 := hok.2.1
  have hpl := hc.1
  simp only [fI] at i0 i1 i2 i3 i5 i7 i11 i12 i14 i15 j0 j1 j2
  refine v_run 1 (pc' := 1) (ls' := [some (.ref (ad 0))]) (st' := [.ref (ad 0)]) rfl ?_
  refine v_callV (My := mX8_lacksSafe) (As := []) (rest := []) (mc := 0) (ms := 0) rfl caX8_lacksSafe rfl rfl rfl hc.2.1 rfl rfl (k_lacksSafe G _ hA hc hok) rfl rfl (Nat.le_of_ble_eq_true rfl) (by omega) ?_
  rintro _ _ ⟨rfl, rfl⟩
  refine v_run 0 (pc' := 4) (ls' := [some (.ref (ad 0))]) (st' := [.int (zb (decide (σ 1 5 0 = 0)))]) rfl ?_
  refine v_if_eq rfl (fun c4 => ?_) (fun c4 => ?_)
  · rw [zb_0, decide_eq_false_iff_not] at c4
    have q0 : sGood σ < 64 := setN_lt64 _ i5
    have q1 := popN_le (sGood σ)
    refine v_run 2 (pc' := 15) (ls' := [some (.ref (ad 0))]) (st' := [.ref (ad 0), .ref (ad 0)]) rfl ?_
    refine v_callV (My := mX8_goodNow) (As := []) (rest := [.ref (ad 0)]) (mc := 0) (ms := 0) rfl caX8_goodNow rfl rfl rfl hc.2.1 rfl rfl (k_goodNow G _ hA hc hok) rfl rfl (Nat.le_of_ble_eq_true rfl) (by omega) ?_
    rintro _ _ ⟨rfl, rfl⟩
    refine v_run 0 (pc' := 18) (ls' := [some (.ref (ad 0))]) (st' := [.int (zI ↑(sGood σ)), .ref (ad 0)]) rfl ?_
    refine v_callS (My := mJ6_bitCount_0f7a4) (As := [.int (zI ↑(sGood σ))]) (rest := [.ref (ad 0)]) (mc := 0) (ms := 0) rfl caJ6_bitCount_0f7a4 rfl rfl (k_bitCount G _ (sGood σ) q0) rfl rfl (Nat.le_of_ble_eq_true rfl) (by omega) ?_
    rintro _ _ ⟨rfl, rfl⟩
    refine v_run 0 (pc' := 21) (ls' := [some (.ref (ad 0))]) (st' := [.int (zI ↑(popN (sGood σ))), .ref (ad 0)]) rfl ?_
    refine v_run 1 (pc' := 22) (ls' := [some (.ref (ad 0))]) (st' := [.ref (ad 0), .int (zI ↑(popN (sGood σ))), .ref (ad 0)]) rfl ?_
    refine v_get rfl hc.2.1 rfl ?_
    refine v_run 0 (pc' := 25) (ls' := [some (.ref (ad 0))]) (st' := [.ref (ad pl), .int (zI ↑(popN (sGood σ))), .ref (ad 0)]) rfl ?_
    refine v_get rfl hc.2.2.1.1 rfl ?_
    refine v_run 0 (pc' := 28) (ls' := [some (.ref (ad 0))]) (st' := [.int (zI ↑(σ 1 0 0)), .int (zI ↑(popN (sGood σ))), .ref (ad 0)]) rfl ?_
    refine v_icmp_lt rfl (fun c28 => ?_) (fun c28 => ?_)
    · simp (disch := omega) only [zI_lt, zI_le, zI_eq, zI_lt0, zI_le0, zI_0lt, zI_0le, zI_eq0] at c28
      refine v_run 1 (pc' := 36) (ls' := [some (.ref (ad 0))]) (st' := [.int (zI 0), .ref (ad 0)]) rfl ?_
      refine v_callV (My := mX8_grant) (As := [.int (zI 0)]) (rest := []) (mc := 0) (ms := 0) rfl caX8_grant rfl rfl rfl hc.2.1 rfl rfl (k_grant G _ ((zI 0)) hA hc hok) rfl rfl (Nat.le_of_ble_eq_true rfl) (by omega) ?_
      rintro _ h9 ⟨rfl, hc9, hf9⟩
      refine v_run 0 (pc' := 39) (ls' := [some (.ref (ad 0))]) (st' := [.int ((zI 0))]) rfl ?_
      rw [show aQuorum σ = (0, 0) from by rw [aQuorum, if_neg c4, if_neg (by omega)]]
      exact v_iret rfl rfl rfl ⟨rfl, hc9, hf9⟩
    · simp (disch := omega) only [zI_lt, zI_le, zI_eq, zI_lt0, zI_le0, zI_0lt, zI_0le, zI_eq0] at c28
      refine v_run 2 (pc' := 36) (ls' := [some (.ref (ad 0))]) (st' := [.int (zI 1), .ref (ad 0)]) rfl ?_
      refine v_callV (My := mX8_grant) (As := [.int (zI 1)]) (rest := []) (mc := 0) (ms := 0) rfl caX8_grant rfl rfl rfl hc.2.1 rfl rfl (k_grant G _ ((zI 1)) hA hc hok) rfl rfl (Nat.le_of_ble_eq_true rfl) (by omega) ?_
      rintro _ h9 ⟨rfl, hc9, hf9⟩
      refine v_run 0 (pc' := 39) (ls' := [some (.ref (ad 0))]) (st' := [.int ((zI 1))]) rfl ?_
      rw [show aQuorum σ = (1, 0) from by rw [aQuorum, if_neg c4, if_pos (by omega)]]
      exact v_iret rfl rfl rfl ⟨rfl, hc9, hf9⟩
  · rw [zb_0, Bool.not_eq_false, decide_eq_true_eq] at c4
    refine v_run 2 (pc' := 9) (ls' := [some (.ref (ad 0))]) (st' := [.int (zI 1), .ref (ad 0)]) rfl ?_
    refine v_callV (My := mX8_refuse) (As := [.int (zI 1)]) (rest := []) (mc := 0) (ms := 0) rfl caX8_refuse rfl rfl rfl hc.2.1 rfl rfl (k_refuse G _ 1 hA hc hok) rfl rfl (Nat.le_of_ble_eq_true rfl) (by omega) ?_
    rintro _ h9 ⟨rfl, hc9, hf9⟩
    refine v_run 0 (pc' := 12) (ls' := [some (.ref (ad 0))]) (st' := [.int (zI (-1))]) rfl ?_
    rw [show aQuorum σ = (-1, 1) from if_pos c4]
    exact v_iret rfl rfl rfl ⟨rfl, hc9, hf9⟩

set_option maxRecDepth 100000 in
set_option maxHeartbeats 400000 in
theorem k_lasts (G : ssG) (h : ssH) {ad : Nat → Nat} {pl : Nat} {σ : sT}  (hA : ∀ k l, ad k = ad l → k = l) (hc : CW0 h ad pl σ) (hok : sOk σ)  : ssC G mX8_lasts 5 0 0 [.ref (ad 0)] h (cR ad pl (sTr σ (aLasts σ).2) h (.int (zI (aLasts σ).1))) := by
  refine c_of_v okX8_lasts (by decide +kernel) (ls := [some (.ref (ad 0))]) rfl (Nat.le_of_ble_eq_true rfl) ?_
  obtain ⟨i0, i1, i2, i3, i5, i7, a4, a6, a8, a9, a10, i11, i12, i14, i15⟩ := id hok.1
  obtain ⟨j0, j1, j2, b3, b4, b5, b6⟩ := id (hok.2.2 3 (by decide))
  have i13 := hok.2.1
  have hpl := hc.1
  simp only [fI] at i0 i1 i2 i3 i5 i7 i11 i12 i14 i15 j0 j1 j2
  refine v_run 1 (pc' := 1) (ls' := [some (.ref (ad 0))]) (st' := [.ref (ad 0)]) rfl ?_
  refine v_callV (My := mX8_lacksSafe) (As := []) (rest := []) (mc := 0) (ms := 0) rfl caX8_lacksSafe rfl rfl rfl hc.2.1 rfl rfl (k_lacksSafe G _ hA hc hok) rfl rfl (Nat.le_of_ble_eq_true rfl) (by omega) ?_
  rintro _ _ ⟨rfl, rfl⟩
  refine v_run 0 (pc' := 4) (ls' := [some (.ref (ad 0))]) (st' := [.int (zb (decide (σ 1 5 0 = 0)))]) rfl ?_
  refine v_if_eq rfl (fun c4 => ?_) (fun c4 => ?_)
  · rw [zb_0, decide_eq_false_iff_not] at c4
    refine v_run 2 (pc' := 15) (ls' := [some (.ref (ad 0))]) (st' := [.ref (ad 0), .ref (ad 0)]) rfl ?_
    refine v_callV (My := mX8_lastsNow) (As := []) (rest := [.ref (ad 0)]) (mc := 0) (ms := 0) rfl caX8_lastsNow rfl rfl rfl hc.2.1 rfl rfl (k_lastsNow G _ hA hc hok) rfl rfl (Nat.le_of_ble_eq_true rfl) (by omega) ?_
    rintro _ h1 ⟨rfl, hc1, hf1⟩
    refine v_run 0 (pc' := 18) (ls' := [some (.ref (ad 0))]) (st' := [.int (zI ↑(sLasts σ)), .ref (ad 0)]) rfl ?_
    refine v_callV (My := mX8_grant) (As := [.int (zI ↑(sLasts σ))]) (rest := []) (mc := 0) (ms := 0) rfl caX8_grant rfl rfl rfl hc1.2.1 rfl rfl (k_grant G _ ((zI ↑(sLasts σ))) hA hc1 hok) rfl rfl (Nat.le_of_ble_eq_true rfl) (by omega) ?_
    rintro _ h9 ⟨rfl, hc9, hf9⟩
    refine v_run 0 (pc' := 21) (ls' := [some (.ref (ad 0))]) (st' := [.int ((zI ↑(sLasts σ)))]) rfl ?_
    rw [show aLasts σ = (↑(sLasts σ), 0) from if_neg c4]
    exact v_iret rfl rfl rfl ⟨rfl, hc9, hf1.tr hf9⟩
  · rw [zb_0, Bool.not_eq_false, decide_eq_true_eq] at c4
    refine v_run 2 (pc' := 9) (ls' := [some (.ref (ad 0))]) (st' := [.int (zI 1), .ref (ad 0)]) rfl ?_
    refine v_callV (My := mX8_refuse) (As := [.int (zI 1)]) (rest := []) (mc := 0) (ms := 0) rfl caX8_refuse rfl rfl rfl hc.2.1 rfl rfl (k_refuse G _ 1 hA hc hok) rfl rfl (Nat.le_of_ble_eq_true rfl) (by omega) ?_
    rintro _ h9 ⟨rfl, hc9, hf9⟩
    refine v_run 0 (pc' := 12) (ls' := [some (.ref (ad 0))]) (st' := [.int (zI (-1))]) rfl ?_
    rw [show aLasts σ = (-1, 1) from if_pos c4]
    exact v_iret rfl rfl rfl ⟨rfl, hc9, hf9⟩

set_option maxRecDepth 100000 in
set_option maxHeartbeats 400000 in
theorem k_going (G : ssG) (h : ssH) {ad : Nat → Nat} {pl : Nat} {σ : sT}  (hA : ∀ k l, ad k = ad l → k = l) (hc : CW0 h ad pl σ) (hok : sOk σ)  : ssC G mX8_going 5 0 0 [.ref (ad 0)] h (cR ad pl (sTr σ (aGoing σ).2) h (.int (zI (aGoing σ).1))) := by
  refine c_of_v okX8_going (by decide +kernel) (ls := [some (.ref (ad 0))]) rfl (Nat.le_of_ble_eq_true rfl) ?_
  obtain ⟨i0, i1, i2, i3, i5, i7, a4, a6, a8, a9, a10, i11, i12, i14, i15⟩ := id hok.1
  obtain ⟨j0, j1, j2, b3, b4, b5, b6⟩ := id (hok.2.2 3 (by decide))
  have i13 := hok.2.1
  have hpl := hc.1
  simp only [fI] at i0 i1 i2 i3 i5 i7 i11 i12 i14 i15 j0 j1 j2
  refine v_run 1 (pc' := 1) (ls' := [some (.ref (ad 0))]) (st' := [.ref (ad 0)]) rfl ?_
  refine v_callV (My := mX8_lacksSafe) (As := []) (rest := []) (mc := 0) (ms := 0) rfl caX8_lacksSafe rfl rfl rfl hc.2.1 rfl rfl (k_lacksSafe G _ hA hc hok) rfl rfl (Nat.le_of_ble_eq_true rfl) (by omega) ?_
  rintro _ _ ⟨rfl, rfl⟩
  refine v_run 0 (pc' := 4) (ls' := [some (.ref (ad 0))]) (st' := [.int (zb (decide (σ 1 5 0 = 0)))]) rfl ?_
  refine v_if_eq rfl (fun c4 => ?_) (fun c4 => ?_)
  · rw [zb_0, decide_eq_false_iff_not] at c4
    refine v_run 2 (pc' := 15) (ls' := [some (.ref (ad 0))]) (st' := [.ref (ad 0), .ref (ad 0)]) rfl ?_
    refine v_callV (My := mX8_goingNow) (As := []) (rest := [.ref (ad 0)]) (mc := 0) (ms := 0) rfl caX8_goingNow rfl rfl rfl hc.2.1 rfl rfl (k_goingNow G _ hA hc hok) rfl rfl (Nat.le_of_ble_eq_true rfl) (by omega) ?_
    rintro _ h1 ⟨rfl, hc1, hf1⟩
    refine v_run 0 (pc' := 18) (ls' := [some (.ref (ad 0))]) (st' := [.int (zI ↑(sGoing σ)), .ref (ad 0)]) rfl ?_
    refine v_callV (My := mX8_grant) (As := [.int (zI ↑(sGoing σ))]) (rest := []) (mc := 0) (ms := 0) rfl caX8_grant rfl rfl rfl hc1.2.1 rfl rfl (k_grant G _ ((zI ↑(sGoing σ))) hA hc1 hok) rfl rfl (Nat.le_of_ble_eq_true rfl) (by omega) ?_
    rintro _ h9 ⟨rfl, hc9, hf9⟩
    refine v_run 0 (pc' := 21) (ls' := [some (.ref (ad 0))]) (st' := [.int ((zI ↑(sGoing σ)))]) rfl ?_
    rw [show aGoing σ = (↑(sGoing σ), 0) from if_neg c4]
    exact v_iret rfl rfl rfl ⟨rfl, hc9, hf1.tr hf9⟩
  · rw [zb_0, Bool.not_eq_false, decide_eq_true_eq] at c4
    refine v_run 2 (pc' := 9) (ls' := [some (.ref (ad 0))]) (st' := [.int (zI 1), .ref (ad 0)]) rfl ?_
    refine v_callV (My := mX8_refuse) (As := [.int (zI 1)]) (rest := []) (mc := 0) (ms := 0) rfl caX8_refuse rfl rfl rfl hc.2.1 rfl rfl (k_refuse G _ 1 hA hc hok) rfl rfl (Nat.le_of_ble_eq_true rfl) (by omega) ?_
    rintro _ h9 ⟨rfl, hc9, hf9⟩
    refine v_run 0 (pc' := 12) (ls' := [some (.ref (ad 0))]) (st' := [.int (zI (-1))]) rfl ?_
    rw [show aGoing σ = (-1, 1) from if_pos c4]
    exact v_iret rfl rfl rfl ⟨rfl, hc9, hf9⟩

set_option maxRecDepth 100000 in
set_option maxHeartbeats 400000 in
theorem k_offIn (G : ssG) (h : ssH) {ad : Nat → Nat} {pl : Nat} {σ : sT} (s : Int) (hA : ∀ k l, ad k = ad l → k = l) (hc : CW0 h ad pl σ) (hok : sOk σ) (hs : -2147483648 ≤ s ∧ s < 2147483648) : ssC G mX8_offIn 3 0 0 [.ref (ad 0), .int (zI s)] h (cR ad pl (sTr σ (aOffIn σ s).2) h (.int (zI (aOffIn σ s).1))) := by
  refine c_of_v okX8_offIn (by decide +kernel) (ls := [some (.ref (ad 0)), some (.int (zI s)), none]) rfl (Nat.le_of_ble_eq_true rfl) ?_
  obtain ⟨i0, i1, i2, i3, i5, i7, a4, a6, a8, a9, a10, i11, i12, i14, i15⟩ := id hok.1
  obtain ⟨j0, j1, j2, b3, b4, b5, b6⟩ := id (hok.2.2 3 (by decide))
  have i13 := hok.2.1
  have hpl := hc.1
  simp only [fI] at i0 i1 i2 i3 i5 i7 i11 i12 i14 i15 j0 j1 j2
  refine v_run 2 (pc' := 2) (ls' := [some (.ref (ad 0)), some (.int (zI s)), none]) (st' := [.int (zI s), .ref (ad 0)]) rfl ?_
  refine v_callV (My := mX8_lacksSenator) (As := [.int (zI s)]) (rest := []) (mc := 0) (ms := 0) rfl caX8_lacksSenator rfl rfl rfl hc.2.1 rfl rfl (k_lacksSenator G _ s hA hc hok hs) rfl rfl (Nat.le_of_ble_eq_true rfl) (by omega) ?_
  rintro _ _ ⟨rfl, rfl⟩
  refine v_run 0 (pc' := 5) (ls' := [some (.ref (ad 0)), some (.int (zI s)), none]) (st' := [.int (zb (decide (s < 0 ∨ ↑(σ 1 5 0) ≤ s)))]) rfl ?_
  refine v_if_eq rfl (fun c5 => ?_) (fun c5 => ?_)
  · rw [zb_0, decide_eq_false_iff_not] at c5
    obtain ⟨n, rfl⟩ : ∃ n : Nat, s = ↑n := ⟨s.toNat, by omega⟩
    have q3 := b3 n
    have q4 := b4 n
    have q5 : sG σ n ≤ 99 := cGood_le
    refine v_run 1 (pc' := 15) (ls' := [some (.ref (ad 0)), some (.int (zI ↑n)), none]) (st' := [.ref (ad 0)]) rfl ?_
    refine v_get rfl hc.2.1 rfl ?_
    refine v_run 1 (pc' := 19) (ls' := [some (.ref (ad 0)), some (.int (zI ↑n)), none]) (st' := [.ref (ad 0), .ref (ad pl)]) rfl ?_
    refine v_get rfl hc.2.1 rfl ?_
    refine v_run 2 (pc' := 24) (ls' := [some (.ref (ad 0)), some (.int (zI ↑n)), none]) (st' := [.ref (ad 0), .int (zI ↑n), .ref (ad 33), .ref (ad pl)]) rfl ?_
    refine v_get rfl hc.2.1 rfl ?_
    refine v_run 0 (pc' := 27) (ls' := [some (.ref (ad 0)), some (.int (zI ↑n)), none]) (st' := [.ref (ad 33), .int (zI ↑n), .ref (ad 33), .ref (ad pl)]) rfl ?_
    refine v_get rfl hc.2.2.2.2.1.1 rfl ?_
    refine v_run 1 (pc' := 31) (ls' := [some (.ref (ad 0)), some (.int (zI ↑n)), none]) (st' := [.int (zI ↑n), .ref (Rm ad 33 3), .int (zI ↑n), .ref (ad 33), .ref (ad pl)]) rfl ?_
    refine v_iaload' rfl hc.2.2.2.2.1.2.1 (i := n) rfl (by omega) ?_
    refine v_run 1 (pc' := 33) (ls' := [some (.ref (ad 0)), some (.int (zI ↑n)), none]) (st' := [.ref (ad 0), .int ((fun k => zI ↑(σ 3 3 k)) n), .int (zI ↑n), .ref (ad 33), .ref (ad pl)]) rfl ?_
    refine v_get rfl hc.2.1 rfl ?_
    refine v_run 0 (pc' := 36) (ls' := [some (.ref (ad 0)), some (.int (zI ↑n)), none]) (st' := [.ref (ad 33), .int ((fun k => zI ↑(σ 3 3 k)) n), .int (zI ↑n), .ref (ad 33), .ref (ad pl)]) rfl ?_
    refine v_get rfl hc.2.2.2.2.1.1 rfl ?_
    refine v_run 1 (pc' := 40) (ls' := [some (.ref (ad 0)), some (.int (zI ↑n)), none]) (st' := [.int (zI ↑n), .ref (Rm ad 33 4), .int ((fun k => zI ↑(σ 3 3 k)) n), .int (zI ↑n), .ref (ad 33), .ref (ad pl)]) rfl ?_
    refine v_iaload' rfl hc.2.2.2.2.1.2.2.1 (i := n) rfl (by omega) ?_
    refine v_callV (My := mX4_goodDays) (As := [.ref (ad 33), .int (zI ↑n), .int ((fun k => zI ↑(σ 3 3 k)) n), .int ((fun k => zI ↑(σ 3 4 k)) n)]) (rest := []) (mc := 0) (ms := 0) rfl caX4_goodDays rfl rfl rfl hc.2.2.1.1 rfl rfl (k_goodDays G _ n (σ 3 3 n) (σ 3 4 n) hc.2.2.1 hok.1 hc.2.2.2.2.1 (hok.2.2 3 (by decide)) (by omega) q4 q3) rfl rfl (Nat.le_of_ble_eq_true rfl) (by omega) ?_
    rintro _ _ ⟨rfl, rfl⟩
    refine v_run 0 (pc' := 44) (ls' := [some (.ref (ad 0)), some (.int (zI ↑n)), none]) (st' := [.int (zI ↑(sG σ n))]) rfl ?_
    refine v_run 4 (pc' := 49) (ls' := [some (.ref (ad 0)), some (.int (zI ↑n)), some (.int (zI ↑(sG σ n)))]) (st' := [.int (zI 60), .int (zI ↑(sG σ n)), .ref (ad 0)]) rfl ?_
    refine v_icmp_gt rfl (fun c49 => ?_) (fun c49 => ?_)
    · simp (disch := omega) only [zI_lt, zI_le, zI_eq, zI_lt0, zI_le0, zI_0lt, zI_0le, zI_eq0] at c49
      refine v_run 1 (pc' := 58) (ls' := [some (.ref (ad 0)), some (.int (zI ↑n)), some (.int (zI ↑(sG σ n)))]) (st' := [.int (zI (-2)), .ref (ad 0)]) rfl ?_
      refine v_callV (My := mX8_grant) (As := [.int (zI (-2))]) (rest := []) (mc := 0) (ms := 0) rfl caX8_grant rfl rfl rfl hc.2.1 rfl rfl (k_grant G _ ((zI (-2))) hA hc hok) rfl rfl (Nat.le_of_ble_eq_true rfl) (by omega) ?_
      rintro _ h9 ⟨rfl, hc9, hf9⟩
      refine v_run 0 (pc' := 61) (ls' := [some (.ref (ad 0)), some (.int (zI ↑n)), some (.int (zI ↑(sG σ n)))]) (st' := [.int ((zI (-2)))]) rfl ?_
      rw [show aOffIn σ ↑n = (-2, 0) from by rw [aOffIn, if_neg c5, if_neg (by simp only [Int.toNat_natCast]; omega)]]
      exact v_iret rfl rfl rfl ⟨rfl, hc9, hf9⟩
    · simp (disch := omega) only [zI_lt, zI_le, zI_eq, zI_lt0, zI_le0, zI_0lt, zI_0le, zI_eq0] at c49
      refine v_run 2 (pc' := 58) (ls' := [some (.ref (ad 0)), some (.int (zI ↑n)), some (.int (zI ↑(sG σ n)))]) (st' := [.int (zI ↑(sG σ n)), .ref (ad 0)]) rfl ?_
      refine v_callV (My := mX8_grant) (As := [.int (zI ↑(sG σ n))]) (rest := []) (mc := 0) (ms := 0) rfl caX8_grant rfl rfl rfl hc.2.1 rfl rfl (k_grant G _ ((zI ↑(sG σ n))) hA hc hok) rfl rfl (Nat.le_of_ble_eq_true rfl) (by omega) ?_
      rintro _ h9 ⟨rfl, hc9, hf9⟩
      refine v_run 0 (pc' := 61) (ls' := [some (.ref (ad 0)), some (.int (zI ↑n)), some (.int (zI ↑(sG σ n)))]) (st' := [.int ((zI ↑(sG σ n)))]) rfl ?_
      rw [show aOffIn σ ↑n = (↑(sG σ n), 0) from by rw [aOffIn, if_neg c5, if_pos (by simp only [Int.toNat_natCast]; omega)]; rfl]
      exact v_iret rfl rfl rfl ⟨rfl, hc9, hf9⟩
  · rw [zb_0, Bool.not_eq_false, decide_eq_true_eq] at c5
    refine v_run 2 (pc' := 10) (ls' := [some (.ref (ad 0)), some (.int (zI s)), none]) (st' := [.int (zI 1), .ref (ad 0)]) rfl ?_
    refine v_callV (My := mX8_refuse) (As := [.int (zI 1)]) (rest := []) (mc := 0) (ms := 0) rfl caX8_refuse rfl rfl rfl hc.2.1 rfl rfl (k_refuse G _ 1 hA hc hok) rfl rfl (Nat.le_of_ble_eq_true rfl) (by omega) ?_
    rintro _ h9 ⟨rfl, hc9, hf9⟩
    refine v_run 0 (pc' := 13) (ls' := [some (.ref (ad 0)), some (.int (zI s)), none]) (st' := [.int (zI (-1))]) rfl ?_
    rw [show aOffIn σ s = (-1, 1) from if_pos c5]
    exact v_iret rfl rfl rfl ⟨rfl, hc9, hf9⟩

