/-- σ with an int of the whole -/
def sX (σ : sT) (k v : Nat) : sT := fun o f n => if o = 0 ∧ f = k ∧ n = 0 then v else σ o f n
theorem sX_ne (σ : sT) {k v o : Nat} (h : o ≠ 0) : sX σ k v o = σ o := by funext f n; simp [sX, h]
theorem CW0.xI {h : ssH} {ad : Nat → Nat} {pl : Nat} {σ : sT} (hA : ∀ k l, ad k = ad l → k = l) (hc : CW0 h ad pl σ) (k v : Nat) : CW0 (hset h (ad 0) (.inr (8, obX ad pl (sX σ k v)))) ad pl (sX σ k v) := by
  obtain ⟨hpl, hx, hP, hF, hN, hU, hI, hS, hH, hD⟩ := hc
  refine ⟨hpl, hset_self _ _ _, (hP.fr hA (by omega)).eq (sX_ne σ (by decide)), (hF.fr hA (by omega)).eq (sX_ne σ (by decide)), (hN.fr hA (by omega)).eq (sX_ne σ (by decide)), ?_, ?_, hS.fr hA (by omega), hH.fr hA (by omega), hD.fr hA (by omega)⟩
  · exact ⟨by rw [hset_ne _ _ (ad_ne hA (by decide)), hU.1, sX_ne σ (by decide)], (hset_ne _ _ (ad_ne hA (by decide))).trans hU.2.1, fun m hm => ((hU.2.2 m hm).fr hA (by omega)).eq (sX_ne σ (by omega))⟩
  · exact ⟨(hset_ne _ _ (ad_ne hA (by decide))).trans hI.1, fun m hm => ((hI.2 m hm).fr hA (by omega)).eq (sX_ne σ (by omega))⟩
theorem sX_ok {σ : sT} {v : Nat} (h : sOk σ) (hv : v ≤ 99) : sOk (sX σ 5 v) := by
  obtain ⟨a, b, c⟩ := h
  have e1 : sX σ 5 v 1 = σ 1 := sX_ne σ (by decide)
  refine ⟨by unfold fI at a ⊢; rw [e1]; exact a, by rw [e1]; exact b, fun o ho => ?_⟩
  by_cases h0 : o = 0
  · subst h0
    obtain ⟨c0, c1, c2, c3, c4, c5, c6⟩ := c 0 (by decide)
    exact ⟨c0, c1, c2, c3, c4, fun k => by simp only [sX]; split; exact hv; exact c5 k, c6⟩
  · have := c o ho
    unfold fI at this ⊢
    rw [sX_ne σ h0]; exact this
theorem sCp_ok {σ : sT} {a b : Nat} (h : sOk σ) (ha : a ≠ 1 ∧ a ≠ 4) (hb : b ≠ 1) : sOk (sCp σ a b) := by
  refine h.mv (sCp_ne σ (fun e => hb e.symm)) (fun o ho => ?_)
  by_cases h1 : o = b
  · exact ⟨a, ha, by rw [h1, sCp_self]⟩
  · exact ⟨o, ho, sCp_ne σ h1⟩
theorem sCp_z {σ : sT} {a b : Nat} (hz : sZ σ) (ha : a ≠ 1) (hb : b ≠ 1) : sZ (sCp σ a b) := fun o ho k n hk => by
  by_cases h1 : o = b
  · rw [h1, sCp_self]; exact hz a ha k n hk
  · rw [sCp_ne σ h1]; exact hz o ho k n hk
theorem sUn_ok {σ : sT} {c n : Nat} (h : sOk σ) : sOk (sUn σ c n) := h.mv (sUn_ne σ (by decide)) (fun o ho => ⟨o, ho, sUn_ne σ ho.2⟩)
def tImage (σ : sT) : Int × sT := if σ 1 5 0 = 0 then (-1, sTr σ 1) else if 3 ≤ σ 0 5 0 then (-1, sTr σ 3) else (↑(σ 0 5 0), sTr (sX (sCp σ 3 (30 + σ 0 5 0)) 5 (σ 0 5 0 + 1)) 0)
def tBack (σ : sT) (n : Int) : Bool × sT := if n < 0 ∨ ↑(σ 0 5 0) ≤ n then (false, sTr σ 1) else (true, sTr (sUn (sCp σ (30 + n.toNat) 3) 0 0) 0)
set_option maxRecDepth 100000 in
set_option maxHeartbeats 400000 in
theorem k_image (G : ssG) (h : ssH) {ad : Nat → Nat} {pl : Nat} {σ : sT}  (hA : ∀ k l, ad k = ad l → k = l) (hc : CW0 h ad pl σ) (hok : sOk σ) (hz : sZ σ) (hu : σ 4 1 0 < 16 ∧ σ 4 0 0 ≤ 16) (h5 : σ 0 5 0 ≤ 3) : ssC G mX8_image 2 0 0 [.ref (ad 0)] h (cR ad pl (tImage σ).2 h (.int (zI (tImage σ).1))) := by
  refine c_of_v okX8_image (by decide +kernel) (ls := [some (.ref (ad 0))]) rfl (Nat.le_of_ble_eq_true rfl) ?_
  obtain ⟨i0, i1, i2, i3, i5, i7, a4, a6, a8, a9, a10, i11, i12, i14, i15⟩ := id hok.1
  obtain ⟨j0, j1, j2, b3, b4, b5, b6⟩ := id (hok.2.2 3 (by decide))
  have i13 := hok.2.1
  have hpl := hc.1
  simp only [fI] at i0 i1 i2 i3 i5 i7 i11 i12 i14 i15 j0 j1 j2
  refine v_run 1 (pc' := 1) (ls' := [some (.ref (ad 0))]) (st' := [.ref (ad 0)]) rfl ?_
  refine v_callV (My := mX8_lacksSafe) (As := []) (rest := []) (mc := 0) (ms := 0) rfl caX8_lacksSafe rfl rfl rfl hc.2.1 rfl rfl (k_lacksSafe G _ hA hc hok) rfl rfl (Nat.le_of_ble_eq_true rfl) (by omega) ?_
  rintro _ _ ⟨rfl, rfl⟩
  refine v_run 0 (pc' := 4) (ls' := [some (.ref (ad 0))]) (st' := [.int (zb (decide (σ 1 5 0 = 0)))]) rfl ?_
  refine v_if_eq rfl (fun c4 => ?_) (fun c4 => ?_)
  · rw [zb_0, decide_eq_false_iff_not] at c4
    refine v_run 1 (pc' := 14) (ls' := [some (.ref (ad 0))]) (st' := [.ref (ad 0)]) rfl ?_
    refine v_get rfl hc.2.1 rfl ?_
    refine v_run 1 (pc' := 18) (ls' := [some (.ref (ad 0))]) (st' := [.int (zI 3), .int (zI ↑(σ 0 5 0))]) rfl ?_
    refine v_icmp_lt rfl (fun c18 => ?_) (fun c18 => ?_)
    · simp (disch := omega) only [zI_lt, zI_le, zI_eq, zI_lt0, zI_le0, zI_0lt, zI_0le, zI_eq0] at c18
      refine v_run 1 (pc' := 28) (ls' := [some (.ref (ad 0))]) (st' := [.ref (ad 0)]) rfl ?_
      refine v_get rfl hc.2.1 rfl ?_
      refine v_run 1 (pc' := 32) (ls' := [some (.ref (ad 0))]) (st' := [.ref (ad 0), .ref (ad 120)]) rfl ?_
      refine v_get rfl hc.2.1 rfl ?_
      refine v_run 0 (pc' := 35) (ls' := [some (.ref (ad 0))]) (st' := [.int (zI ↑(σ 0 5 0)), .ref (ad 120)]) rfl ?_
      refine v_aaload' rfl hc.2.2.2.2.2.2.1.1 (i := σ 0 5 0) rfl (by omega) ?_
      refine v_run 1 (pc' := 37) (ls' := [some (.ref (ad 0))]) (st' := [.ref (ad 0), .ref (ad (121 + 5 * σ 0 5 0))]) rfl ?_
      refine v_get rfl hc.2.1 rfl ?_
      refine v_run 0 (pc' := 40) (ls' := [some (.ref (ad 0))]) (st' := [.ref (ad 33), .ref (ad (121 + 5 * σ 0 5 0))]) rfl ?_
      refine v_callV (My := mX2_copyFrom) (As := [.ref (ad 33)]) (rest := []) (mc := 0) (ms := 0) rfl caX2_copyFrom rfl rfl rfl (hc.2.2.2.2.2.2.1.2 (σ 0 5 0) (by omega)).1 rfl rfl (k_copyFrom G _ hA hc.2.2.2.2.1 (hc.2.2.2.2.2.2.1.2 (σ 0 5 0) (by omega)) (by omega) hz (by decide) (by omega)) rfl rfl (Nat.le_of_ble_eq_true rfl) (by omega) ?_
      rintro _ h1 ⟨rfl, hm1, hf1⟩
      have hmo : isMo (121 + 5 * σ 0 5 0) (30 + σ 0 5 0) := Or.inr (Or.inr ⟨_, by omega, rfl, rfl⟩)
      have hc1 : CW0 h1 ad pl (sCp σ 3 (30 + σ 0 5 0)) := hc.mv hA hmo (fun q hq => sCp_ne σ hq) (by unfold CMom fI; rw [sCp_self]; exact hm1) hf1
      have hfr1 : frP ad pl h h1 := (frP.rf ad pl h).mo hA hc.1 hmo hf1
      have hx1 := (hf1 (ad 0) (fun k _ _ => ad_ne hA (by omega))).trans hc.2.1
      refine v_run 0 (pc' := 43) (ls' := [some (.ref (ad 0))]) (st' := []) rfl ?_
      refine v_run 2 (pc' := 45) (ls' := [some (.ref (ad 0))]) (st' := [.ref (ad 0), .ref (ad 0)]) rfl ?_
      refine v_get rfl hx1 rfl ?_
      refine v_run 2 (pc' := 50) (ls' := [some (.ref (ad 0))]) (st' := [.int ((zI ↑(σ 0 5 0)) + (zI 1)), .ref (ad 0)]) rfl ?_
      rw [show ((zI ↑(σ 0 5 0)) + (zI 1) : Int32) = zI ↑(σ 0 5 0 + 1) from zI_s1 _]
      refine v_put rfl hx1 rfl rfl (Nat.le_of_ble_eq_true rfl) ?_
      rw [show (obX ad pl σ).set 5 (.int (zI ↑(σ 0 5 0 + 1))) = obX ad pl (sX (sCp σ 3 (30 + σ 0 5 0)) 5 (σ 0 5 0 + 1)) by simp [obX, sX, sCp, show ¬ (0 = 30 + σ 0 5 0) by omega]]
      generalize he2 : hset h1 (ad 0) _ = h2
      have hc2 : CW0 h2 ad pl (sX (sCp σ 3 (30 + σ 0 5 0)) 5 (σ 0 5 0 + 1)) := he2 ▸ hc1.xI hA 5 (σ 0 5 0 + 1)
      have hf2 : frP ad pl h h2 := he2 ▸ hfr1.set hA hc.1 (Or.inl rfl) _
      refine v_run 2 (pc' := 55) (ls' := [some (.ref (ad 0))]) (st' := [.ref (ad 0), .ref (ad 0)]) rfl ?_
      refine v_get rfl hc2.2.1 rfl ?_
      refine v_run 2 (pc' := 60) (ls' := [some (.ref (ad 0))]) (st' := [.int ((zI ↑((sX (sCp σ 3 (30 + σ 0 5 0)) 5 (σ 0 5 0 + 1)) 0 5 0)) - (zI 1)), .ref (ad 0)]) rfl ?_
      rw [show ((zI ↑((sX (sCp σ 3 (30 + σ 0 5 0)) 5 (σ 0 5 0 + 1)) 0 5 0)) - (zI 1) : Int32) = zI ↑(σ 0 5 0) from by rw [show (sX (sCp σ 3 (30 + σ 0 5 0)) 5 (σ 0 5 0 + 1)) 0 5 0 = σ 0 5 0 + 1 from by simp [sX], zI_sub]; congr 1; omega]
      refine v_callV (My := mX8_grant) (As := [.int (zI ↑(σ 0 5 0))]) (rest := []) (mc := 0) (ms := 0) rfl caX8_grant rfl rfl rfl hc2.2.1 rfl rfl (k_grant G _ (zI ↑(σ 0 5 0)) hA hc2 (sX_ok (sCp_ok hok (by decide) (by omega)) (by omega))) rfl rfl (Nat.le_of_ble_eq_true rfl) (by omega) ?_
      rintro _ h9 ⟨rfl, hc9, hf9⟩
      refine v_run 0 (pc' := 63) (ls' := [some (.ref (ad 0))]) (st' := [.int (zI ↑(σ 0 5 0))]) rfl ?_
      rw [show tImage σ = (↑(σ 0 5 0), sTr (sX (sCp σ 3 (30 + σ 0 5 0)) 5 (σ 0 5 0 + 1)) 0) from by rw [tImage, if_neg c4, if_neg (by omega)]]
      exact v_iret rfl rfl rfl ⟨rfl, hc9, hf2.tr hf9⟩
    · simp (disch := omega) only [zI_lt, zI_le, zI_eq, zI_lt0, zI_le0, zI_0lt, zI_0le, zI_eq0] at c18
      refine v_run 2 (pc' := 23) (ls' := [some (.ref (ad 0))]) (st' := [.int (zI 3), .ref (ad 0)]) rfl ?_
      refine v_callV (My := mX8_refuse) (As := [.int (zI 3)]) (rest := []) (mc := 0) (ms := 0) rfl caX8_refuse rfl rfl rfl hc.2.1 rfl rfl (k_refuse G _ 3 hA hc hok) rfl rfl (Nat.le_of_ble_eq_true rfl) (by omega) ?_
      rintro _ h9 ⟨rfl, hc9, hf9⟩
      refine v_run 0 (pc' := 26) (ls' := [some (.ref (ad 0))]) (st' := [.int (zI (-1))]) rfl ?_
      rw [show tImage σ = (-1, sTr σ 3) from (by rw [tImage, if_neg c4, if_pos (by omega)])]
      exact v_iret rfl rfl rfl ⟨rfl, hc9, hf9⟩
  · rw [zb_0, Bool.not_eq_false, decide_eq_true_eq] at c4
    refine v_run 2 (pc' := 9) (ls' := [some (.ref (ad 0))]) (st' := [.int (zI 1), .ref (ad 0)]) rfl ?_
    refine v_callV (My := mX8_refuse) (As := [.int (zI 1)]) (rest := []) (mc := 0) (ms := 0) rfl caX8_refuse rfl rfl rfl hc.2.1 rfl rfl (k_refuse G _ 1 hA hc hok) rfl rfl (Nat.le_of_ble_eq_true rfl) (by omega) ?_
    rintro _ h9 ⟨rfl, hc9, hf9⟩
    refine v_run 0 (pc' := 12) (ls' := [some (.ref (ad 0))]) (st' := [.int (zI (-1))]) rfl ?_
    rw [show tImage σ = (-1, sTr σ 1) from if_pos c4]
    exact v_iret rfl rfl rfl ⟨rfl, hc9, hf9⟩

set_option maxRecDepth 100000 in
set_option maxHeartbeats 400000 in
theorem k_back (G : ssG) (h : ssH) {ad : Nat → Nat} {pl : Nat} {σ : sT} (n : Int) (hA : ∀ k l, ad k = ad l → k = l) (hc : CW0 h ad pl σ) (hok : sOk σ) (hn : -2147483648 ≤ n ∧ n < 2147483648) (hz : sZ σ) (hu : σ 4 1 0 < 16 ∧ σ 4 0 0 ≤ 16) (h5 : σ 0 5 0 ≤ 3) : ssC G mX8_back 2 0 0 [.ref (ad 0), .int (zI n)] h (cR ad pl (tBack σ n).2 h (.int (zb (tBack σ n).1))) := by
  refine c_of_v okX8_back (by decide +kernel) (ls := [some (.ref (ad 0)), some (.int (zI n))]) rfl (Nat.le_of_ble_eq_true rfl) ?_
  obtain ⟨i0, i1, i2, i3, i5, i7, a4, a6, a8, a9, a10, i11, i12, i14, i15⟩ := id hok.1
  obtain ⟨j0, j1, j2, b3, b4, b5, b6⟩ := id (hok.2.2 3 (by decide))
  have i13 := hok.2.1
  have hpl := hc.1
  simp only [fI] at i0 i1 i2 i3 i5 i7 i11 i12 i14 i15 j0 j1 j2
  refine v_run 1 (pc' := 1) (ls' := [some (.ref (ad 0)), some (.int (zI n))]) (st' := [.int (zI n)]) rfl ?_
  refine v_if_lt rfl (fun c1 => ?_) (fun c1 => ?_)
  · simp (disch := omega) only [zI_lt, zI_le, zI_eq, zI_lt0, zI_le0, zI_0lt, zI_0le, zI_eq0] at c1
    refine v_run 2 (pc' := 14) (ls' := [some (.ref (ad 0)), some (.int (zI n))]) (st' := [.int (zI 1), .ref (ad 0)]) rfl ?_
    refine v_callV (My := mX8_deny) (As := [.int (zI 1)]) (rest := []) (mc := 0) (ms := 0) rfl caX8_deny rfl rfl rfl hc.2.1 rfl rfl (k_deny G _ 1 hA hc hok) rfl rfl (Nat.le_of_ble_eq_true rfl) (by omega) ?_
    rintro _ h9 ⟨rfl, hc9, hf9⟩
    refine v_run 0 (pc' := 17) (ls' := [some (.ref (ad 0)), some (.int (zI n))]) (st' := [.int (zI 0)]) rfl ?_
    rw [show tBack σ n = (false, sTr σ 1) from if_pos (by omega)]
    exact v_iret rfl rfl rfl ⟨rfl, hc9, hf9⟩
  · simp (disch := omega) only [zI_lt, zI_le, zI_eq, zI_lt0, zI_le0, zI_0lt, zI_0le, zI_eq0] at c1
    refine v_run 2 (pc' := 6) (ls' := [some (.ref (ad 0)), some (.int (zI n))]) (st' := [.ref (ad 0), .int (zI n)]) rfl ?_
    refine v_get rfl hc.2.1 rfl ?_
    refine v_run 0 (pc' := 9) (ls' := [some (.ref (ad 0)), some (.int (zI n))]) (st' := [.int (zI ↑(σ 0 5 0)), .int (zI n)]) rfl ?_
    refine v_icmp_lt rfl (fun c9 => ?_) (fun c9 => ?_)
    · simp (disch := omega) only [zI_lt, zI_le, zI_eq, zI_lt0, zI_le0, zI_0lt, zI_0le, zI_eq0] at c9
      obtain ⟨m, rfl⟩ : ∃ z : Nat, n = ↑z := ⟨n.toNat, by omega⟩
      refine v_run 1 (pc' := 19) (ls' := [some (.ref (ad 0)), some (.int (zI ↑m))]) (st' := [.ref (ad 0)]) rfl ?_
      refine v_get rfl hc.2.1 rfl ?_
      refine v_run 1 (pc' := 23) (ls' := [some (.ref (ad 0)), some (.int (zI ↑m))]) (st' := [.ref (ad 0), .ref (ad 33)]) rfl ?_
      refine v_get rfl hc.2.1 rfl ?_
      refine v_run 1 (pc' := 27) (ls' := [some (.ref (ad 0)), some (.int (zI ↑m))]) (st' := [.int (zI ↑m), .ref (ad 120), .ref (ad 33)]) rfl ?_
      refine v_aaload' rfl hc.2.2.2.2.2.2.1.1 (i := m) rfl (by omega) ?_
      refine v_callV (My := mX2_copyFrom) (As := [.ref (ad (121 + 5 * m))]) (rest := []) (mc := 0) (ms := 0) rfl caX2_copyFrom rfl rfl rfl hc.2.2.2.2.1.1 rfl rfl (k_copyFrom G _ hA (hc.2.2.2.2.2.2.1.2 m (by omega)) hc.2.2.2.2.1 (by omega) hz (by omega) (by decide)) rfl rfl (Nat.le_of_ble_eq_true rfl) (by omega) ?_
      rintro _ h1 ⟨rfl, hm1, hf1⟩
      have hmo : isMo 33 3 := Or.inl ⟨rfl, rfl⟩
      have hc1 : CW0 h1 ad pl (sCp σ (30 + m) 3) := hc.mv hA hmo (fun q hq => sCp_ne σ hq) (by unfold CMom fI; rw [sCp_self]; exact hm1) hf1
      have hfr1 : frP ad pl h h1 := (frP.rf ad pl h).mo hA hc.1 hmo hf1
      have hok1 : sOk (sCp σ (30 + m) 3) := sCp_ok hok (by omega) (by decide)
      refine v_run 0 (pc' := 31) (ls' := [some (.ref (ad 0)), some (.int (zI ↑m))]) (st' := []) rfl ?_
      refine v_run 1 (pc' := 32) (ls' := [some (.ref (ad 0)), some (.int (zI ↑m))]) (st' := [.ref (ad 0)]) rfl ?_
      refine v_get rfl hc1.2.1 rfl ?_
      refine v_run 0 (pc' := 35) (ls' := [some (.ref (ad 0)), some (.int (zI ↑m))]) (st' := [.ref (ad 38)]) rfl ?_
      refine v_callV (My := mX7_clear) (As := []) (rest := []) (mc := 0) (ms := 0) rfl caX7_clear rfl rfl rfl hc1.2.2.2.2.2.1.1 rfl rfl (k_clear G _ hA hc1 hok1 (sCp_z hz (by omega) (by decide)) (by rw [sCp_ne σ (by decide)]; exact hu)) rfl rfl (Nat.le_of_ble_eq_true rfl) (by omega) ?_
      rintro _ h2 ⟨rfl, hc2, hf2⟩
      refine v_run 0 (pc' := 38) (ls' := [some (.ref (ad 0)), some (.int (zI ↑m))]) (st' := []) rfl ?_
      have hfr2 := hfr1.tr hf2
      refine v_run 1 (pc' := 39) (ls' := [some (.ref (ad 0)), some (.int (zI ↑m))]) (st' := [.ref (ad 0)]) rfl ?_
      refine v_callV (My := mX8_allow) (As := []) (rest := []) (mc := 0) (ms := 0) rfl caX8_allow rfl rfl rfl hc2.2.1 rfl rfl (k_allow G _ hA hc2 (sUn_ok hok1)) rfl rfl (Nat.le_of_ble_eq_true rfl) (by omega) ?_
      rintro _ h9 ⟨rfl, hc9, hf9⟩
      refine v_run 0 (pc' := 42) (ls' := [some (.ref (ad 0)), some (.int (zI ↑m))]) (st' := [.int (zI 1)]) rfl ?_
      rw [show tBack σ ↑m = (true, sTr (sUn (sCp σ (30 + m) 3) 0 0) 0) from by rw [tBack, if_neg (by omega)]; rfl]
      exact v_iret rfl rfl rfl ⟨rfl, hc9, hfr2.tr hf9⟩
    · simp (disch := omega) only [zI_lt, zI_le, zI_eq, zI_lt0, zI_le0, zI_0lt, zI_0le, zI_eq0] at c9
      refine v_run 2 (pc' := 14) (ls' := [some (.ref (ad 0)), some (.int (zI n))]) (st' := [.int (zI 1), .ref (ad 0)]) rfl ?_
      refine v_callV (My := mX8_deny) (As := [.int (zI 1)]) (rest := []) (mc := 0) (ms := 0) rfl caX8_deny rfl rfl rfl hc.2.1 rfl rfl (k_deny G _ 1 hA hc hok) rfl rfl (Nat.le_of_ble_eq_true rfl) (by omega) ?_
      rintro _ h9 ⟨rfl, hc9, hf9⟩
      refine v_run 0 (pc' := 17) (ls' := [some (.ref (ad 0)), some (.int (zI n))]) (st' := [.int (zI 0)]) rfl ?_
      rw [show tBack σ n = (false, sTr σ 1) from if_pos (by omega)]
      exact v_iret rfl rfl rfl ⟨rfl, hc9, hf9⟩

