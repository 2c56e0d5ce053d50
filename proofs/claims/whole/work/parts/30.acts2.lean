/-- σ with an int of the moment now -/
def sI (σ : sT) (k v : Nat) : sT := fun o f n => if o = 3 ∧ f = k ∧ n = 0 then v else σ o f n
theorem sI_ne (σ : sT) {k v o : Nat} (h : o ≠ 3) : sI σ k v o = σ o := by funext f n; simp [sI, h]
theorem sI_row (σ : sT) {k v f : Nat} (h : f ≠ k) : sI σ k v 3 f = σ 3 f := by funext n; simp [sI, h]
theorem CW0.nowI {h : ssH} {ad : Nat → Nat} {pl k v : Nat} {σ : sT} (hA : ∀ k l, ad k = ad l → k = l) (hc : CW0 h ad pl σ) (hk : k < 3) : CW0 (hset h (ad 33) (.inr (2, (ob2 (fI σ 3) (Rm ad 33)).set k (.int (zI ↑v))))) ad pl (sI σ k v) := by
  have hN := hc.2.2.2.2.1
  refine hc.mv hA (Or.inl ⟨rfl, rfl⟩) (fun q hq => sI_ne σ hq) ⟨?_, ?_, ?_, ?_, ?_⟩ (fun q hq => hset_ne _ _ (hq 33 (by omega) (by omega)))
  · rw [hset_self]
    match k, hk with
    | 0, _ => simp [ob2, fI, sI]
    | 1, _ => simp [ob2, fI, sI]
    | 2, _ => simp [ob2, fI, sI]
  · rw [sI_row σ (by omega)]; exact (hset_ne _ _ (ad_ne hA (by omega))).trans hN.2.1
  · rw [sI_row σ (by omega)]; exact (hset_ne _ _ (ad_ne hA (by omega))).trans hN.2.2.1
  · rw [sI_row σ (by omega)]; exact (hset_ne _ _ (ad_ne hA (by omega))).trans hN.2.2.2.1
  · rw [sI_row σ (by omega)]; exact (hset_ne _ _ (ad_ne hA (by omega))).trans hN.2.2.2.2
theorem sOk.mv {σ τ : sT} (h : sOk σ) (h1 : τ 1 = σ 1) (hm : ∀ o, o ≠ 1 ∧ o ≠ 4 → ∃ q, (q ≠ 1 ∧ q ≠ 4) ∧ τ o = σ q) : sOk τ := by
  obtain ⟨a, b, c⟩ := h
  refine ⟨by unfold fI at a ⊢; rw [h1]; exact a, by rw [h1]; exact b, fun o ho => ?_⟩
  obtain ⟨q, hq, e⟩ := hm o ho
  have := c q hq
  unfold fI at this ⊢
  rw [e]; exact this
theorem sI_ok {σ : sT} {k v : Nat} (h : sOk σ) (hk : k < 3) (h0 : k = 0 → v ≤ 99) (h1 : k = 1 → v ≤ 9) (h2 : k = 2 → v ≤ 65536 := by omega) : sOk (sI σ k v) := by
  obtain ⟨a, b, c⟩ := h
  have e1 : sI σ k v 1 = σ 1 := sI_ne σ (by decide)
  refine ⟨by unfold fI at a ⊢; rw [e1]; exact a, by rw [e1]; exact b, fun o ho => ?_⟩
  by_cases ho3 : o = 3
  · subst ho3
    obtain ⟨c0, c1, c2, c3, c4, c5, c6⟩ := c 3 (by decide)
    unfold fI at c0 c1 c2
    refine ⟨?_, ?_, ?_, by rw [sI_row σ (by omega)]; exact c3, by rw [sI_row σ (by omega)]; exact c4, by rw [sI_row σ (by omega)]; exact c5, by rw [sI_row σ (by omega)]; exact c6⟩ <;> simp only [fI, sI] <;> split <;> omega
  · have := c o ho
    have e := sI_ne σ (k := k) (v := v) ho3
    unfold fI at this ⊢
    rw [e]; exact this
theorem sRest_ok {σ : sT} (h : sOk σ) : sOk (sRest σ) := by
  refine h.mv ?_ (fun o ho => ?_)
  · simp only [sRest]; rw [sCp_ne _ (by decide), sUn_ne _ (by decide)]
  · by_cases ho3 : o = 3
    · refine ⟨10 + (σ 4 1 0 + 15) % 16, by omega, ?_⟩
      subst ho3
      simp only [sRest]; rw [sCp_self, sUn_ne _ (by omega)]
    · refine ⟨o, ho, ?_⟩
      simp only [sRest]; rw [sCp_ne _ ho3, sUn_ne _ ho.2]
def tSeed (σ : sT) (v : Int) : Bool × sT := if σ 1 5 0 = 0 then (false, sTr σ 1) else if v < 0 ∨ 65536 < v then (false, sTr σ 2) else (true, sTr (sI σ 2 v.toNat) 0)
def tUndo (σ : sT) : Bool × sT := if σ 4 0 0 = 0 then (false, sTr σ 6) else (true, sTr (sRest σ) 0)
set_option maxRecDepth 100000 in
set_option maxHeartbeats 400000 in
theorem k_seed (G : ssG) (h : ssH) {ad : Nat → Nat} {pl : Nat} {σ : sT} (v : Int) (hA : ∀ k l, ad k = ad l → k = l) (hc : CW0 h ad pl σ) (hok : sOk σ) (hv : -2147483648 ≤ v ∧ v < 2147483648) : ssC G mX8_seed 1 0 0 [.ref (ad 0), .int (zI v)] h (cR ad pl (tSeed σ v).2 h (.int (zb (tSeed σ v).1))) := by
  refine c_of_v okX8_seed (by decide +kernel) (ls := [some (.ref (ad 0)), some (.int (zI v))]) rfl (Nat.le_of_ble_eq_true rfl) ?_
  obtain ⟨i0, i1, i2, i3, i5, i7, a4, a6, a8, a9, a10, i11, i12, i14, i15⟩ := id hok.1
  obtain ⟨j0, j1, j2, b3, b4, b5, b6⟩ := id (hok.2.2 3 (by decide))
  have i13 := hok.2.1
  have hpl := hc.1
  simp only [fI] at i0 i1 i2 i3 i5 i7 i11 i12 i14 i15 j0 j1 j2
  refine v_run 1 (pc' := 1) (ls' := [some (.ref (ad 0)), some (.int (zI v))]) (st' := [.ref (ad 0)]) rfl ?_
  refine v_callV (My := mX8_lacksSafe) (As := []) (rest := []) (mc := 0) (ms := 0) rfl caX8_lacksSafe rfl rfl rfl hc.2.1 rfl rfl (k_lacksSafe G _ hA hc hok) rfl rfl (Nat.le_of_ble_eq_true rfl) (by omega) ?_
  rintro _ _ ⟨rfl, rfl⟩
  refine v_run 0 (pc' := 4) (ls' := [some (.ref (ad 0)), some (.int (zI v))]) (st' := [.int (zb (decide (σ 1 5 0 = 0)))]) rfl ?_
  refine v_if_eq rfl (fun c4 => ?_) (fun c4 => ?_)
  · rw [zb_0, decide_eq_false_iff_not] at c4
    refine v_run 2 (pc' := 17) (ls' := [some (.ref (ad 0)), some (.int (zI v))]) (st' := [.int (zI 65536), .int (zI v)]) rfl ?_
    refine v_callS (My := mX8_outside) (As := [.int (zI v), .int (zI 65536)]) (rest := []) (mc := 0) (ms := 0) rfl caX8_outside rfl rfl (k_outside G _ v 65536 hv ⟨by omega, by omega⟩) rfl rfl (Nat.le_of_ble_eq_true rfl) (by omega) ?_
    rintro _ _ ⟨rfl, rfl⟩
    refine v_run 0 (pc' := 20) (ls' := [some (.ref (ad 0)), some (.int (zI v))]) (st' := [.int (zb (decide (v < 0 ∨ 65536 < v)))]) rfl ?_
    refine v_if_eq rfl (fun c20 => ?_) (fun c20 => ?_)
    · rw [zb_0, decide_eq_false_iff_not] at c20
      obtain ⟨k, rfl⟩ : ∃ z : Nat, v = ↑z := ⟨v.toNat, by omega⟩
      refine v_run 1 (pc' := 30) (ls' := [some (.ref (ad 0)), some (.int (zI ↑k))]) (st' := [.ref (ad 0)]) rfl ?_
      refine v_get rfl hc.2.1 rfl ?_
      refine v_run 1 (pc' := 34) (ls' := [some (.ref (ad 0)), some (.int (zI ↑k))]) (st' := [.int (zI ↑k), .ref (ad 33)]) rfl ?_
      refine v_put rfl hc.2.2.2.2.1.1 rfl rfl (Nat.le_of_ble_eq_true rfl) ?_
      generalize he1 : hset h (ad 33) _ = h1
      have hc1 : CW0 h1 ad pl (sI σ 2 k) := he1 ▸ hc.nowI hA (by decide)
      have hf1 : frP ad pl h h1 := he1 ▸ (frP.rf ad pl h).set hA hc.1 (by omega) _
      refine v_run 1 (pc' := 38) (ls' := [some (.ref (ad 0)), some (.int (zI ↑k))]) (st' := [.ref (ad 0)]) rfl ?_
      refine v_callV (My := mX8_allow) (As := []) (rest := []) (mc := 0) (ms := 0) rfl caX8_allow rfl rfl rfl hc1.2.1 rfl rfl (k_allow G _ hA hc1 (sI_ok hok (k := 2) (by omega) (by omega) (by omega))) rfl rfl (Nat.le_of_ble_eq_true rfl) (by omega) ?_
      rintro _ h9 ⟨rfl, hc9, hf9⟩
      refine v_run 0 (pc' := 41) (ls' := [some (.ref (ad 0)), some (.int (zI ↑k))]) (st' := [.int (zI 1)]) rfl ?_
      rw [show tSeed σ ↑k = (true, sTr (sI σ 2 k) 0) from by rw [tSeed, if_neg c4, if_neg c20]; rfl]
      exact v_iret rfl rfl rfl ⟨rfl, hc9, hf1.tr hf9⟩
    · rw [zb_0, Bool.not_eq_false, decide_eq_true_eq] at c20
      refine v_run 2 (pc' := 25) (ls' := [some (.ref (ad 0)), some (.int (zI v))]) (st' := [.int (zI 2), .ref (ad 0)]) rfl ?_
      refine v_callV (My := mX8_deny) (As := [.int (zI 2)]) (rest := []) (mc := 0) (ms := 0) rfl caX8_deny rfl rfl rfl hc.2.1 rfl rfl (k_deny G _ 2 hA hc hok) rfl rfl (Nat.le_of_ble_eq_true rfl) (by omega) ?_
      rintro _ h9 ⟨rfl, hc9, hf9⟩
      refine v_run 0 (pc' := 28) (ls' := [some (.ref (ad 0)), some (.int (zI v))]) (st' := [.int (zI 0)]) rfl ?_
      rw [show tSeed σ v = (false, sTr σ 2) from (by rw [tSeed, if_neg c4, if_pos c20])]
      exact v_iret rfl rfl rfl ⟨rfl, hc9, hf9⟩
  · rw [zb_0, Bool.not_eq_false, decide_eq_true_eq] at c4
    refine v_run 2 (pc' := 9) (ls' := [some (.ref (ad 0)), some (.int (zI v))]) (st' := [.int (zI 1), .ref (ad 0)]) rfl ?_
    refine v_callV (My := mX8_deny) (As := [.int (zI 1)]) (rest := []) (mc := 0) (ms := 0) rfl caX8_deny rfl rfl rfl hc.2.1 rfl rfl (k_deny G _ 1 hA hc hok) rfl rfl (Nat.le_of_ble_eq_true rfl) (by omega) ?_
    rintro _ h9 ⟨rfl, hc9, hf9⟩
    refine v_run 0 (pc' := 12) (ls' := [some (.ref (ad 0)), some (.int (zI v))]) (st' := [.int (zI 0)]) rfl ?_
    rw [show tSeed σ v = (false, sTr σ 1) from if_pos c4]
    exact v_iret rfl rfl rfl ⟨rfl, hc9, hf9⟩

set_option maxRecDepth 100000 in
set_option maxHeartbeats 400000 in
theorem k_undo (G : ssG) (h : ssH) {ad : Nat → Nat} {pl : Nat} {σ : sT}  (hA : ∀ k l, ad k = ad l → k = l) (hc : CW0 h ad pl σ) (hok : sOk σ) (hz : sZ σ) (hu : σ 4 1 0 < 16 ∧ σ 4 0 0 ≤ 16) : ssC G mX8_undo 3 0 0 [.ref (ad 0)] h (cR ad pl (tUndo σ).2 h (.int (zb (tUndo σ).1))) := by
  refine c_of_v okX8_undo (by decide +kernel) (ls := [some (.ref (ad 0))]) rfl (Nat.le_of_ble_eq_true rfl) ?_
  obtain ⟨i0, i1, i2, i3, i5, i7, a4, a6, a8, a9, a10, i11, i12, i14, i15⟩ := id hok.1
  obtain ⟨j0, j1, j2, b3, b4, b5, b6⟩ := id (hok.2.2 3 (by decide))
  have i13 := hok.2.1
  have hpl := hc.1
  simp only [fI] at i0 i1 i2 i3 i5 i7 i11 i12 i14 i15 j0 j1 j2
  refine v_run 1 (pc' := 1) (ls' := [some (.ref (ad 0))]) (st' := [.ref (ad 0)]) rfl ?_
  refine v_get rfl hc.2.1 rfl ?_
  refine v_run 0 (pc' := 4) (ls' := [some (.ref (ad 0))]) (st' := [.ref (ad 38)]) rfl ?_
  refine v_get rfl hc.2.2.2.2.2.1.1 rfl ?_
  refine v_run 0 (pc' := 7) (ls' := [some (.ref (ad 0))]) (st' := [.int (zI ↑(σ 4 0 0))]) rfl ?_
  refine v_if_ne rfl (fun c7 => ?_) (fun c7 => ?_)
  · simp (disch := omega) only [zI_lt, zI_le, zI_eq, zI_lt0, zI_le0, zI_0lt, zI_0le, zI_eq0] at c7
    refine v_run 1 (pc' := 18) (ls' := [some (.ref (ad 0))]) (st' := [.ref (ad 0)]) rfl ?_
    refine v_get rfl hc.2.1 rfl ?_
    refine v_run 1 (pc' := 22) (ls' := [some (.ref (ad 0))]) (st' := [.ref (ad 0), .ref (ad 38)]) rfl ?_
    refine v_get rfl hc.2.1 rfl ?_
    refine v_run 0 (pc' := 25) (ls' := [some (.ref (ad 0))]) (st' := [.ref (ad 33), .ref (ad 38)]) rfl ?_
    refine v_callV (My := mX7_restore) (As := [.ref (ad 33)]) (rest := []) (mc := 0) (ms := 0) rfl caX7_restore rfl rfl rfl hc.2.2.2.2.2.1.1 rfl rfl (k_restore G _ hA hc hok hz hu (by omega)) rfl rfl (Nat.le_of_ble_eq_true rfl) (by omega) ?_
    rintro _ h1 ⟨rfl, hc1, hf1⟩
    refine v_run 0 (pc' := 28) (ls' := [some (.ref (ad 0))]) (st' := []) rfl ?_
    refine v_run 1 (pc' := 29) (ls' := [some (.ref (ad 0))]) (st' := [.ref (ad 0)]) rfl ?_
    refine v_callV (My := mX8_allow) (As := []) (rest := []) (mc := 0) (ms := 0) rfl caX8_allow rfl rfl rfl hc1.2.1 rfl rfl (k_allow G _ hA hc1 (sRest_ok hok)) rfl rfl (Nat.le_of_ble_eq_true rfl) (by omega) ?_
    rintro _ h9 ⟨rfl, hc9, hf9⟩
    refine v_run 0 (pc' := 32) (ls' := [some (.ref (ad 0))]) (st' := [.int (zI 1)]) rfl ?_
    rw [show tUndo σ = (true, sTr (sRest σ) 0) from if_neg (by omega)]
    exact v_iret rfl rfl rfl ⟨rfl, hc9, hf1.tr hf9⟩
  · simp (disch := omega) only [zI_lt, zI_le, zI_eq, zI_lt0, zI_le0, zI_0lt, zI_0le, zI_eq0] at c7
    refine v_run 2 (pc' := 13) (ls' := [some (.ref (ad 0))]) (st' := [.int (zI 6), .ref (ad 0)]) rfl ?_
    refine v_callV (My := mX8_deny) (As := [.int (zI 6)]) (rest := []) (mc := 0) (ms := 0) rfl caX8_deny rfl rfl rfl hc.2.1 rfl rfl (k_deny G _ 6 hA hc hok) rfl rfl (Nat.le_of_ble_eq_true rfl) (by omega) ?_
    rintro _ h9 ⟨rfl, hc9, hf9⟩
    refine v_run 0 (pc' := 16) (ls' := [some (.ref (ad 0))]) (st' := [.int (zI 0)]) rfl ?_
    rw [show tUndo σ = (false, sTr σ 6) from if_pos (by omega)]
    exact v_iret rfl rfl rfl ⟨rfl, hc9, hf9⟩

