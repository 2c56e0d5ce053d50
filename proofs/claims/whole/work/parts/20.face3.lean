def aGoodIn (σ : sT) (s n : Int) : Int × Nat := if s < 0 ∨ ↑(σ 1 5 0) ≤ s then (-1, 1) else if n < 0 ∨ 60 < n then (-1, 2) else (↑(σ 3 5 s.toNat) - ↑(min (σ 3 5 s.toNat) (cLoss (σ 1 1 0) (σ 1 4 (σ 3 4 s.toNat)) (σ 3 3 s.toNat) (σ 3 0 0) n.toNat)), 0)
def aHook (σ : sT) (s n : Int) : Int × Nat := if s < 0 ∨ ↑(σ 1 3 0) ≤ s ∨ n < 0 ∨ 1 < n then (-1, 1) else if n = 0 then (↑(σ 1 4 s.toNat), 0) else (cWho (σ 3 4) s.toNat (σ 1 5 0), 0)
def aFalls (σ : sT) (s : Int) : Int × Nat := if s < 0 ∨ ↑(σ 1 7 0) ≤ s then (-1, 1) else (↑(cFall (σ 1 10) (σ 1 7 0) s.toNat (σ 1 7 0)), 0)
def aMargin (σ : sT) (s : Int) : Int × Nat := if s < 0 ∨ ↑(σ 1 7 0) ≤ s then (-1, 1) else if σ 1 8 s.toNat < σ 3 0 0 then (-1, 5) else (cLead (σ 1 6) (σ 1 9 s.toNat) (σ 1 5 0) (setN (fun t => decide ((↑(σ 1 8 s.toNat) - ↑(σ 3 0 0) : Int) < ↑(sG σ t))) (σ 1 5 0)) + 1000, 0)
def nxA (σ : sT) : Nat → Int × Nat
  | 0 => (-2, 41)
  | a + 1 => if σ 3 0 0 ≤ σ 1 8 a ∧ σ 1 8 a < (nxA σ a).2 then (↑a, σ 1 8 a) else nxA σ a
theorem nxA_le (σ : sT) : ∀ a, (nxA σ a).2 ≤ 41
  | 0 => by simp [nxA]
  | a + 1 => by
    have := nxA_le σ a
    simp only [nxA]
    split
    · rename_i h; dsimp only; omega
    · exact this
theorem nxA_t (σ : sT) (a : Nat) (h : σ 3 0 0 ≤ σ 1 8 a ∧ σ 1 8 a < (nxA σ a).2) : nxA σ (a + 1) = (↑a, σ 1 8 a) := if_pos h
theorem nxA_f (σ : sT) (a : Nat) (h : ¬ (σ 3 0 0 ≤ σ 1 8 a ∧ σ 1 8 a < (nxA σ a).2)) : nxA σ (a + 1) = nxA σ a := if_neg h
def aNext (σ : sT) : Int × Nat := if σ 1 5 0 = 0 then (-1, 1) else ((nxA σ (σ 1 7 0)).1, 0)
def ksA (σ : sT) : Nat → Int × Nat
  | 0 => (-2, 0)
  | a + 1 => if (ksA σ a).2 < popN (cFall (σ 1 10) (σ 1 7 0) a (σ 1 7 0)) then (↑a, popN (cFall (σ 1 10) (σ 1 7 0) a (σ 1 7 0))) else ksA σ a
theorem ksA_le (σ : sT) : ∀ a, (ksA σ a).2 ≤ 6
  | 0 => by simp [ksA]
  | a + 1 => by
    have := ksA_le σ a
    simp only [ksA]
    split
    · exact popN_le _
    · exact this
theorem ksA_t (σ : sT) (a : Nat) (h : (ksA σ a).2 < popN (cFall (σ 1 10) (σ 1 7 0) a (σ 1 7 0))) : ksA σ (a + 1) = (↑a, popN (cFall (σ 1 10) (σ 1 7 0) a (σ 1 7 0))) := if_pos h
theorem ksA_f (σ : sT) (a : Nat) (h : ¬ (ksA σ a).2 < popN (cFall (σ 1 10) (σ 1 7 0) a (σ 1 7 0))) : ksA σ (a + 1) = ksA σ a := if_neg h
def aKeystone (σ : sT) : Int × Nat := if σ 1 5 0 = 0 then (-1, 1) else ((ksA σ (σ 1 7 0)).1, 0)
def rgA (σ : sT) : Nat → Nat
  | 0 => 0
  | a + 1 => rgA σ a ||| cRO (σ 1 10) (σ 1 7 0) a 0 / 2 ^ a % 2
theorem rgA_le (σ : sT) : ∀ a, rgA σ a < 2
  | 0 => by simp [rgA]
  | a + 1 => by
    have := rgA_le σ a
    exact Nat.or_lt_two_pow (n := 1) this (by omega)
def aRing (σ : sT) : Int × Nat := if σ 1 5 0 = 0 then (-1, 1) else (↑(rgA σ (σ 1 7 0)), 0)
def sTh (σ : sT) (sd n : Nat) : Nat := sumN (fun k => if cDraw sd (k + 1) % 100 < σ 1 2 0 then 1 else 0) n
theorem sTh_le (σ : sT) (sd n : Nat) : sTh σ sd n ≤ n := by
  have := sumN_le (f := fun k => if cDraw sd (k + 1) % 100 < σ 1 2 0 then 1 else 0) (c := 1) (fun k => by split <;> omega) n
  unfold sTh; omega
def sAft (σ : sT) (n th : Nat) : Nat := setN (fun s => decide (cLoss (σ 1 1 0) (σ 1 4 (σ 3 4 s)) (σ 3 3 s) (σ 3 0 0) n + (if σ 3 3 s = 1 then 0 else 3 * th) < σ 3 5 s)) (σ 1 5 0)
def aThunders (σ : sT) (s n : Int) : Int × Nat := if σ 1 5 0 = 0 then (-1, 1) else if (s < 0 ∨ 65536 < s) ∨ (n < 0 ∨ 99 < n) then (-1, 2) else (↑(sTh σ s.toNat n.toNat), 0)
def aDays (σ : sT) (s n : Int) : Int × Nat := if σ 1 5 0 = 0 then (-1, 1) else if (s < 0 ∨ 65536 < s) ∨ (n < 0 ∨ 99 < n) then (-1, 2) else (↑(sAft σ n.toNat (sTh σ s.toNat n.toNat)), 0)
set_option maxRecDepth 100000 in
set_option maxHeartbeats 400000 in
theorem k_goodIn (G : ssG) (h : ssH) {ad : Nat → Nat} {pl : Nat} {σ : sT} (s n : Int) (hA : ∀ k l, ad k = ad l → k = l) (hc : CW0 h ad pl σ) (hok : sOk σ) (hs : -2147483648 ≤ s ∧ s < 2147483648) (hn : -2147483648 ≤ n ∧ n < 2147483648) : ssC G mX8_goodIn 4 0 0 [.ref (ad 0), .int (zI s), .int (zI n)] h (cR ad pl (sTr σ (aGoodIn σ s n).2) h (.int (zI (aGoodIn σ s n).1))) := by
  refine c_of_v okX8_goodIn (by decide +kernel) (ls := [some (.ref (ad 0)), some (.int (zI s)), some (.int (zI n))]) rfl (Nat.le_of_ble_eq_true rfl) ?_
  obtain ⟨i0, i1, i2, i3, i5, i7, a4, a6, a8, a9, a10, i11, i12, i14, i15⟩ := id hok.1
  obtain ⟨j0, j1, j2, b3, b4, b5, b6⟩ := id (hok.2.2 3 (by decide))
  have i13 := hok.2.1
  have hpl := hc.1
  simp only [fI] at i0 i1 i2 i3 i5 i7 i11 i12 i14 i15 j0 j1 j2
  refine v_run 2 (pc' := 2) (ls' := [some (.ref (ad 0)), some (.int (zI s)), some (.int (zI n))]) (st' := [.int (zI s), .ref (ad 0)]) rfl ?_
  refine v_callV (My := mX8_lacksSenator) (As := [.int (zI s)]) (rest := []) (mc := 0) (ms := 0) rfl caX8_lacksSenator rfl rfl rfl hc.2.1 rfl rfl (k_lacksSenator G _ s hA hc hok hs) rfl rfl (Nat.le_of_ble_eq_true rfl) (by omega) ?_
  rintro _ _ ⟨rfl, rfl⟩
  refine v_run 0 (pc' := 5) (ls' := [some (.ref (ad 0)), some (.int (zI s)), some (.int (zI n))]) (st' := [.int (zb (decide (s < 0 ∨ ↑(σ 1 5 0) ≤ s)))]) rfl ?_
  refine v_if_eq rfl (fun c5 => ?_) (fun c5 => ?_)
  · rw [zb_0, decide_eq_false_iff_not] at c5
    refine v_run 2 (pc' := 17) (ls' := [some (.ref (ad 0)), some (.int (zI s)), some (.int (zI n))]) (st' := [.int (zI 60), .int (zI n)]) rfl ?_
    refine v_callS (My := mX8_outside) (As := [.int (zI n), .int (zI 60)]) (rest := []) (mc := 0) (ms := 0) rfl caX8_outside rfl rfl (k_outside G _ n 60 hn ⟨by omega, by omega⟩) rfl rfl (Nat.le_of_ble_eq_true rfl) (by omega) ?_
    rintro _ _ ⟨rfl, rfl⟩
    refine v_run 0 (pc' := 20) (ls' := [some (.ref (ad 0)), some (.int (zI s)), some (.int (zI n))]) (st' := [.int (zb (decide (n < 0 ∨ 60 < n)))]) rfl ?_
    refine v_if_eq rfl (fun c20 => ?_) (fun c20 => ?_)
    · rw [zb_0, decide_eq_false_iff_not] at c20
      obtain ⟨k, rfl⟩ : ∃ z : Nat, s = ↑z := ⟨s.toNat, by omega⟩
      obtain ⟨m, rfl⟩ : ∃ z : Nat, n = ↑z := ⟨n.toNat, by omega⟩
      have q3 := b3 k
      have q4 := b4 k
      have q5 := b5 k
      refine v_run 2 (pc' := 31) (ls' := [some (.ref (ad 0)), some (.int (zI ↑k)), some (.int (zI ↑m))]) (st' := [.ref (ad 0), .ref (ad 0)]) rfl ?_
      refine v_get rfl hc.2.1 rfl ?_
      refine v_run 0 (pc' := 34) (ls' := [some (.ref (ad 0)), some (.int (zI ↑k)), some (.int (zI ↑m))]) (st' := [.ref (ad 33), .ref (ad 0)]) rfl ?_
      refine v_get rfl hc.2.2.2.2.1.1 rfl ?_
      refine v_run 1 (pc' := 38) (ls' := [some (.ref (ad 0)), some (.int (zI ↑k)), some (.int (zI ↑m))]) (st' := [.int (zI ↑k), .ref (Rm ad 33 5), .ref (ad 0)]) rfl ?_
      refine v_iaload' rfl hc.2.2.2.2.1.2.2.2.1 (i := k) rfl (by omega) ?_
      refine v_run 1 (pc' := 40) (ls' := [some (.ref (ad 0)), some (.int (zI ↑k)), some (.int (zI ↑m))]) (st' := [.ref (ad 0), .int ((fun k => zI ↑(σ 3 5 k)) k), .ref (ad 0)]) rfl ?_
      refine v_get rfl hc.2.1 rfl ?_
      refine v_run 1 (pc' := 44) (ls' := [some (.ref (ad 0)), some (.int (zI ↑k)), some (.int (zI ↑m))]) (st' := [.ref (ad 0), .ref (ad pl), .int ((fun k => zI ↑(σ 3 5 k)) k), .ref (ad 0)]) rfl ?_
      refine v_get rfl hc.2.1 rfl ?_
      refine v_run 2 (pc' := 49) (ls' := [some (.ref (ad 0)), some (.int (zI ↑k)), some (.int (zI ↑m))]) (st' := [.int (zI ↑m), .int (zI ↑k), .ref (ad 33), .ref (ad pl), .int ((fun k => zI ↑(σ 3 5 k)) k), .ref (ad 0)]) rfl ?_
      refine v_callV (My := mX4_lossBehind) (As := [.ref (ad 33), .int (zI ↑k), .int (zI ↑m)]) (rest := [.int ((fun k => zI ↑(σ 3 5 k)) k), .ref (ad 0)]) (mc := 0) (ms := 0) rfl caX4_lossBehind rfl rfl rfl hc.2.2.1.1 rfl rfl (k_lossBehind G _ k m hc.2.2.1 hok.1 hc.2.2.2.2.1 (hok.2.2 3 (by decide)) (by omega) (by omega)) rfl rfl (Nat.le_of_ble_eq_true rfl) (by omega) ?_
      rintro _ _ ⟨rfl, rfl⟩
      refine v_run 0 (pc' := 52) (ls' := [some (.ref (ad 0)), some (.int (zI ↑k)), some (.int (zI ↑m))]) (st' := [.int (zI ↑(min (σ 3 5 k) (cLoss (σ 1 1 0) (σ 1 4 (σ 3 4 k)) (σ 3 3 k) (σ 3 0 0) m))), .int ((fun k => zI ↑(σ 3 5 k)) k), .ref (ad 0)]) rfl ?_
      refine v_run 1 (pc' := 53) (ls' := [some (.ref (ad 0)), some (.int (zI ↑k)), some (.int (zI ↑m))]) (st' := [.int (((fun k => zI ↑(σ 3 5 k)) k) - (zI ↑(min (σ 3 5 k) (cLoss (σ 1 1 0) (σ 1 4 (σ 3 4 k)) (σ 3 3 k) (σ 3 0 0) m)))), .ref (ad 0)]) rfl ?_
      rw [show (((fun k => zI ↑(σ 3 5 k)) k) - (zI ↑(min (σ 3 5 k) (cLoss (σ 1 1 0) (σ 1 4 (σ 3 4 k)) (σ 3 3 k) (σ 3 0 0) m))) : Int32) = zI (↑(σ 3 5 k) - ↑(min (σ 3 5 k) (cLoss (σ 1 1 0) (σ 1 4 (σ 3 4 k)) (σ 3 3 k) (σ 3 0 0) m))) from zI_sub _ _]
      refine v_callV (My := mX8_grant) (As := [.int (zI (↑(σ 3 5 k) - ↑(min (σ 3 5 k) (cLoss (σ 1 1 0) (σ 1 4 (σ 3 4 k)) (σ 3 3 k) (σ 3 0 0) m))))]) (rest := []) (mc := 0) (ms := 0) rfl caX8_grant rfl rfl rfl hc.2.1 rfl rfl (k_grant G _ ((zI (↑(σ 3 5 k) - ↑(min (σ 3 5 k) (cLoss (σ 1 1 0) (σ 1 4 (σ 3 4 k)) (σ 3 3 k) (σ 3 0 0) m))))) hA hc hok) rfl rfl (Nat.le_of_ble_eq_true rfl) (by omega) ?_
      rintro _ h9 ⟨rfl, hc9, hf9⟩
      refine v_run 0 (pc' := 56) (ls' := [some (.ref (ad 0)), some (.int (zI ↑k)), some (.int (zI ↑m))]) (st' := [.int ((zI (↑(σ 3 5 k) - ↑(min (σ 3 5 k) (cLoss (σ 1 1 0) (σ 1 4 (σ 3 4 k)) (σ 3 3 k) (σ 3 0 0) m)))))]) rfl ?_
      rw [show aGoodIn σ ↑k ↑m = (↑(σ 3 5 k) - ↑(min (σ 3 5 k) (cLoss (σ 1 1 0) (σ 1 4 (σ 3 4 k)) (σ 3 3 k) (σ 3 0 0) m)), 0) from by rw [aGoodIn, if_neg c5, if_neg c20]; rfl]
      exact v_iret rfl rfl rfl ⟨rfl, hc9, hf9⟩
    · rw [zb_0, Bool.not_eq_false, decide_eq_true_eq] at c20
      refine v_run 2 (pc' := 25) (ls' := [some (.ref (ad 0)), some (.int (zI s)), some (.int (zI n))]) (st' := [.int (zI 2), .ref (ad 0)]) rfl ?_
      refine v_callV (My := mX8_refuse) (As := [.int (zI 2)]) (rest := []) (mc := 0) (ms := 0) rfl caX8_refuse rfl rfl rfl hc.2.1 rfl rfl (k_refuse G _ 2 hA hc hok) rfl rfl (Nat.le_of_ble_eq_true rfl) (by omega) ?_
      rintro _ h9 ⟨rfl, hc9, hf9⟩
      refine v_run 0 (pc' := 28) (ls' := [some (.ref (ad 0)), some (.int (zI s)), some (.int (zI n))]) (st' := [.int (zI (-1))]) rfl ?_
      rw [show aGoodIn σ s n = (-1, 2) from (by rw [aGoodIn, if_neg c5, if_pos c20])]
      exact v_iret rfl rfl rfl ⟨rfl, hc9, hf9⟩
  · rw [zb_0, Bool.not_eq_false, decide_eq_true_eq] at c5
    refine v_run 2 (pc' := 10) (ls' := [some (.ref (ad 0)), some (.int (zI s)), some (.int (zI n))]) (st' := [.int (zI 1), .ref (ad 0)]) rfl ?_
    refine v_callV (My := mX8_refuse) (As := [.int (zI 1)]) (rest := []) (mc := 0) (ms := 0) rfl caX8_refuse rfl rfl rfl hc.2.1 rfl rfl (k_refuse G _ 1 hA hc hok) rfl rfl (Nat.le_of_ble_eq_true rfl) (by omega) ?_
    rintro _ h9 ⟨rfl, hc9, hf9⟩
    refine v_run 0 (pc' := 13) (ls' := [some (.ref (ad 0)), some (.int (zI s)), some (.int (zI n))]) (st' := [.int (zI (-1))]) rfl ?_
    rw [show aGoodIn σ s n = (-1, 1) from if_pos c5]
    exact v_iret rfl rfl rfl ⟨rfl, hc9, hf9⟩

set_option maxRecDepth 100000 in
set_option maxHeartbeats 400000 in
theorem k_hook (G : ssG) (h : ssH) {ad : Nat → Nat} {pl : Nat} {σ : sT} (s n : Int) (hA : ∀ k l, ad k = ad l → k = l) (hc : CW0 h ad pl σ) (hok : sOk σ) (hs : -2147483648 ≤ s ∧ s < 2147483648) (hn : -2147483648 ≤ n ∧ n < 2147483648) : ssC G mX8_hook 1 0 0 [.ref (ad 0), .int (zI s), .int (zI n)] h (cR ad pl (sTr σ (aHook σ s n).2) h (.int (zI (aHook σ s n).1))) := by
  refine c_of_v okX8_hook (by decide +kernel) (ls := [some (.ref (ad 0)), some (.int (zI s)), some (.int (zI n))]) rfl (Nat.le_of_ble_eq_true rfl) ?_
  obtain ⟨i0, i1, i2, i3, i5, i7, a4, a6, a8, a9, a10, i11, i12, i14, i15⟩ := id hok.1
  obtain ⟨j0, j1, j2, b3, b4, b5, b6⟩ := id (hok.2.2 3 (by decide))
  have i13 := hok.2.1
  have hpl := hc.1
  simp only [fI] at i0 i1 i2 i3 i5 i7 i11 i12 i14 i15 j0 j1 j2
  refine v_run 1 (pc' := 1) (ls' := [some (.ref (ad 0)), some (.int (zI s)), some (.int (zI n))]) (st' := [.int (zI s)]) rfl ?_
  refine v_if_lt rfl (fun c1 => ?_) (fun c1 => ?_)
  · simp (disch := omega) only [zI_lt, zI_le, zI_eq, zI_lt0, zI_le0, zI_0lt, zI_0le, zI_eq0] at c1
    refine v_run 2 (pc' := 25) (ls' := [some (.ref (ad 0)), some (.int (zI s)), some (.int (zI n))]) (st' := [.int (zI 1), .ref (ad 0)]) rfl ?_
    refine v_callV (My := mX8_refuse) (As := [.int (zI 1)]) (rest := []) (mc := 0) (ms := 0) rfl caX8_refuse rfl rfl rfl hc.2.1 rfl rfl (k_refuse G _ 1 hA hc hok) rfl rfl (Nat.le_of_ble_eq_true rfl) (by omega) ?_
    rintro _ h9 ⟨rfl, hc9, hf9⟩
    refine v_run 0 (pc' := 28) (ls' := [some (.ref (ad 0)), some (.int (zI s)), some (.int (zI n))]) (st' := [.int (zI (-1))]) rfl ?_
    rw [show aHook σ s n = (-1, 1) from if_pos (by omega)]
    exact v_iret rfl rfl rfl ⟨rfl, hc9, hf9⟩
  · simp (disch := omega) only [zI_lt, zI_le, zI_eq, zI_lt0, zI_le0, zI_0lt, zI_0le, zI_eq0] at c1
    refine v_run 2 (pc' := 6) (ls' := [some (.ref (ad 0)), some (.int (zI s)), some (.int (zI n))]) (st' := [.ref (ad 0), .int (zI s)]) rfl ?_
    refine v_get rfl hc.2.1 rfl ?_
    refine v_run 0 (pc' := 9) (ls' := [some (.ref (ad 0)), some (.int (zI s)), some (.int (zI n))]) (st' := [.ref (ad pl), .int (zI s)]) rfl ?_
    refine v_get rfl hc.2.2.1.1 rfl ?_
    refine v_run 0 (pc' := 12) (ls' := [some (.ref (ad 0)), some (.int (zI s)), some (.int (zI n))]) (st' := [.int (zI ↑(σ 1 3 0)), .int (zI s)]) rfl ?_
    refine v_icmp_ge rfl (fun c12 => ?_) (fun c12 => ?_)
    · simp (disch := omega) only [zI_lt, zI_le, zI_eq, zI_lt0, zI_le0, zI_0lt, zI_0le, zI_eq0] at c12
      refine v_run 2 (pc' := 25) (ls' := [some (.ref (ad 0)), some (.int (zI s)), some (.int (zI n))]) (st' := [.int (zI 1), .ref (ad 0)]) rfl ?_
      refine v_callV (My := mX8_refuse) (As := [.int (zI 1)]) (rest := []) (mc := 0) (ms := 0) rfl caX8_refuse rfl rfl rfl hc.2.1 rfl rfl (k_refuse G _ 1 hA hc hok) rfl rfl (Nat.le_of_ble_eq_true rfl) (by omega) ?_
      rintro _ h9 ⟨rfl, hc9, hf9⟩
      refine v_run 0 (pc' := 28) (ls' := [some (.ref (ad 0)), some (.int (zI s)), some (.int (zI n))]) (st' := [.int (zI (-1))]) rfl ?_
      rw [show aHook σ s n = (-1, 1) from if_pos (by omega)]
      exact v_iret rfl rfl rfl ⟨rfl, hc9, hf9⟩
    · simp (disch := omega) only [zI_lt, zI_le, zI_eq, zI_lt0, zI_le0, zI_0lt, zI_0le, zI_eq0] at c12
      refine v_run 2 (pc' := 17) (ls' := [some (.ref (ad 0)), some (.int (zI s)), some (.int (zI n))]) (st' := [.int (zI 1), .int (zI n)]) rfl ?_
      refine v_callS (My := mX8_outside) (As := [.int (zI n), .int (zI 1)]) (rest := []) (mc := 0) (ms := 0) rfl caX8_outside rfl rfl (k_outside G _ n 1 hn ⟨by omega, by omega⟩) rfl rfl (Nat.le_of_ble_eq_true rfl) (by omega) ?_
      rintro _ _ ⟨rfl, rfl⟩
      refine v_run 0 (pc' := 20) (ls' := [some (.ref (ad 0)), some (.int (zI s)), some (.int (zI n))]) (st' := [.int (zb (decide (n < 0 ∨ 1 < n)))]) rfl ?_
      refine v_if_eq rfl (fun c20 => ?_) (fun c20 => ?_)
      · rw [zb_0, decide_eq_false_iff_not] at c20
        obtain ⟨k, rfl⟩ : ∃ z : Nat, s = ↑z := ⟨s.toNat, by omega⟩
        obtain ⟨m, rfl⟩ : ∃ z : Nat, n = ↑z := ⟨n.toNat, by omega⟩
        refine v_run 2 (pc' := 31) (ls' := [some (.ref (ad 0)), some (.int (zI ↑k)), some (.int (zI ↑m))]) (st' := [.int (zI ↑m), .ref (ad 0)]) rfl ?_
        refine v_if_ne rfl (fun c31 => ?_) (fun c31 => ?_)
        · simp (disch := omega) only [zI_lt, zI_le, zI_eq, zI_lt0, zI_le0, zI_0lt, zI_0le, zI_eq0] at c31
          refine v_run 1 (pc' := 47) (ls' := [some (.ref (ad 0)), some (.int (zI ↑k)), some (.int (zI ↑m))]) (st' := [.ref (ad 0), .ref (ad 0)]) rfl ?_
          refine v_get rfl hc.2.1 rfl ?_
          refine v_run 2 (pc' := 52) (ls' := [some (.ref (ad 0)), some (.int (zI ↑k)), some (.int (zI ↑m))]) (st' := [.ref (ad 0), .int (zI ↑k), .ref (ad 33), .ref (ad 0)]) rfl ?_
          refine v_get rfl hc.2.1 rfl ?_
          refine v_run 0 (pc' := 55) (ls' := [some (.ref (ad 0)), some (.int (zI ↑k)), some (.int (zI ↑m))]) (st' := [.ref (ad pl), .int (zI ↑k), .ref (ad 33), .ref (ad 0)]) rfl ?_
          refine v_get rfl hc.2.2.1.1 rfl ?_
          refine v_run 0 (pc' := 58) (ls' := [some (.ref (ad 0)), some (.int (zI ↑k)), some (.int (zI ↑m))]) (st' := [.int (zI ↑(σ 1 5 0)), .int (zI ↑k), .ref (ad 33), .ref (ad 0)]) rfl ?_
          refine v_callV (My := mX2_whoHangsAt) (As := [.int (zI ↑k), .int (zI ↑(σ 1 5 0))]) (rest := [.ref (ad 0)]) (mc := 0) (ms := 0) rfl caX2_whoHangsAt rfl rfl rfl hc.2.2.2.2.1.1 rfl rfl (k_whoHangsAt G _ k (σ 1 5 0) hc.2.2.2.2.1 (hok.2.2 3 (by decide)) (by omega) i5) rfl rfl (Nat.le_of_ble_eq_true rfl) (by omega) ?_
          rintro _ _ ⟨rfl, rfl⟩
          refine v_run 0 (pc' := 61) (ls' := [some (.ref (ad 0)), some (.int (zI ↑k)), some (.int (zI ↑m))]) (st' := [.int (zI (cWho (σ 3 4) k (σ 1 5 0))), .ref (ad 0)]) rfl ?_
          refine v_callV (My := mX8_grant) (As := [.int (zI (cWho (σ 3 4) k (σ 1 5 0)))]) (rest := []) (mc := 0) (ms := 0) rfl caX8_grant rfl rfl rfl hc.2.1 rfl rfl (k_grant G _ ((zI (cWho (σ 3 4) k (σ 1 5 0)))) hA hc hok) rfl rfl (Nat.le_of_ble_eq_true rfl) (by omega) ?_
          rintro _ h9 ⟨rfl, hc9, hf9⟩
          refine v_run 0 (pc' := 64) (ls' := [some (.ref (ad 0)), some (.int (zI ↑k)), some (.int (zI ↑m))]) (st' := [.int ((zI (cWho (σ 3 4) k (σ 1 5 0))))]) rfl ?_
          rw [show aHook σ ↑k ↑m = (cWho (σ 3 4) k (σ 1 5 0), 0) from by rw [aHook, if_neg (by omega), if_neg (by omega)]; rfl]
          exact v_iret rfl rfl rfl ⟨rfl, hc9, hf9⟩
        · simp (disch := omega) only [zI_lt, zI_le, zI_eq, zI_lt0, zI_le0, zI_0lt, zI_0le, zI_eq0] at c31
          refine v_run 1 (pc' := 35) (ls' := [some (.ref (ad 0)), some (.int (zI ↑k)), some (.int (zI ↑m))]) (st' := [.ref (ad 0), .ref (ad 0)]) rfl ?_
          refine v_get rfl hc.2.1 rfl ?_
          refine v_run 0 (pc' := 38) (ls' := [some (.ref (ad 0)), some (.int (zI ↑k)), some (.int (zI ↑m))]) (st' := [.ref (ad pl), .ref (ad 0)]) rfl ?_
          refine v_get rfl hc.2.2.1.1 rfl ?_
          refine v_run 1 (pc' := 42) (ls' := [some (.ref (ad 0)), some (.int (zI ↑k)), some (.int (zI ↑m))]) (st' := [.int (zI ↑k), .ref (Rp ad pl 4), .ref (ad 0)]) rfl ?_
          refine v_iaload' rfl hc.2.2.1.2.1 (i := k) rfl (by omega) ?_
          refine v_run 1 (pc' := 61) (ls' := [some (.ref (ad 0)), some (.int (zI ↑k)), some (.int (zI ↑m))]) (st' := [.int ((fun k => zI ↑(σ 1 4 k)) k), .ref (ad 0)]) rfl ?_
          rw [show ((fun k => zI ↑(σ 1 4 k)) k : Int32) = zI ↑(σ 1 4 k) from rfl]
          refine v_callV (My := mX8_grant) (As := [.int (zI ↑(σ 1 4 k))]) (rest := []) (mc := 0) (ms := 0) rfl caX8_grant rfl rfl rfl hc.2.1 rfl rfl (k_grant G _ ((zI ↑(σ 1 4 k))) hA hc hok) rfl rfl (Nat.le_of_ble_eq_true rfl) (by omega) ?_
          rintro _ h9 ⟨rfl, hc9, hf9⟩
          refine v_run 0 (pc' := 64) (ls' := [some (.ref (ad 0)), some (.int (zI ↑k)), some (.int (zI ↑m))]) (st' := [.int ((zI ↑(σ 1 4 k)))]) rfl ?_
          rw [show aHook σ ↑k ↑m = (↑(σ 1 4 k), 0) from by rw [aHook, if_neg (by omega), if_pos (by omega)]; rfl]
          exact v_iret rfl rfl rfl ⟨rfl, hc9, hf9⟩
      · rw [zb_0, Bool.not_eq_false, decide_eq_true_eq] at c20
        refine v_run 2 (pc' := 25) (ls' := [some (.ref (ad 0)), some (.int (zI s)), some (.int (zI n))]) (st' := [.int (zI 1), .ref (ad 0)]) rfl ?_
        refine v_callV (My := mX8_refuse) (As := [.int (zI 1)]) (rest := []) (mc := 0) (ms := 0) rfl caX8_refuse rfl rfl rfl hc.2.1 rfl rfl (k_refuse G _ 1 hA hc hok) rfl rfl (Nat.le_of_ble_eq_true rfl) (by omega) ?_
        rintro _ h9 ⟨rfl, hc9, hf9⟩
        refine v_run 0 (pc' := 28) (ls' := [some (.ref (ad 0)), some (.int (zI s)), some (.int (zI n))]) (st' := [.int (zI (-1))]) rfl ?_
        rw [show aHook σ s n = (-1, 1) from if_pos (by omega)]
        exact v_iret rfl rfl rfl ⟨rfl, hc9, hf9⟩

set_option maxRecDepth 100000 in
set_option maxHeartbeats 400000 in
theorem k_fallsWith (G : ssG) (h : ssH) {ad : Nat → Nat} {pl : Nat} {σ : sT} (s : Int) (hA : ∀ k l, ad k = ad l → k = l) (hc : CW0 h ad pl σ) (hok : sOk σ) (hs : -2147483648 ≤ s ∧ s < 2147483648) : ssC G mX8_fallsWith 2 0 0 [.ref (ad 0), .int (zI s)] h (cR ad pl (sTr σ (aFalls σ s).2) h (.int (zI (aFalls σ s).1))) := by
  refine c_of_v okX8_fallsWith (by decide +kernel) (ls := [some (.ref (ad 0)), some (.int (zI s))]) rfl (Nat.le_of_ble_eq_true rfl) ?_
  obtain ⟨i0, i1, i2, i3, i5, i7, a4, a6, a8, a9, a10, i11, i12, i14, i15⟩ := id hok.1
  obtain ⟨j0, j1, j2, b3, b4, b5, b6⟩ := id (hok.2.2 3 (by decide))
  have i13 := hok.2.1
  have hpl := hc.1
  simp only [fI] at i0 i1 i2 i3 i5 i7 i11 i12 i14 i15 j0 j1 j2
  refine v_run 2 (pc' := 2) (ls' := [some (.ref (ad 0)), some (.int (zI s))]) (st' := [.int (zI s), .ref (ad 0)]) rfl ?_
  refine v_callV (My := mX8_lacksAct) (As := [.int (zI s)]) (rest := []) (mc := 0) (ms := 0) rfl caX8_lacksAct rfl rfl rfl hc.2.1 rfl rfl (k_lacksAct G _ s hA hc hok hs) rfl rfl (Nat.le_of_ble_eq_true rfl) (by omega) ?_
  rintro _ _ ⟨rfl, rfl⟩
  refine v_run 0 (pc' := 5) (ls' := [some (.ref (ad 0)), some (.int (zI s))]) (st' := [.int (zb (decide (s < 0 ∨ ↑(σ 1 7 0) ≤ s)))]) rfl ?_
  refine v_if_eq rfl (fun c5 => ?_) (fun c5 => ?_)
  · rw [zb_0, decide_eq_false_iff_not] at c5
    obtain ⟨k, rfl⟩ : ∃ z : Nat, s = ↑z := ⟨s.toNat, by omega⟩
    refine v_run 2 (pc' := 16) (ls' := [some (.ref (ad 0)), some (.int (zI ↑k))]) (st' := [.ref (ad 0), .ref (ad 0)]) rfl ?_
    refine v_get rfl hc.2.1 rfl ?_
    refine v_run 1 (pc' := 20) (ls' := [some (.ref (ad 0)), some (.int (zI ↑k))]) (st' := [.int (zI ↑k), .ref (ad pl), .ref (ad 0)]) rfl ?_
    refine v_callV (My := mX4_fallingWith) (As := [.int (zI ↑k)]) (rest := [.ref (ad 0)]) (mc := 0) (ms := 0) rfl caX4_fallingWith rfl rfl rfl hc.2.2.1.1 rfl rfl (k_fallingWith G _ k hc.2.2.1 hok.1 (by omega)) rfl rfl (Nat.le_of_ble_eq_true rfl) (by omega) ?_
    rintro _ _ ⟨rfl, rfl⟩
    refine v_run 0 (pc' := 23) (ls' := [some (.ref (ad 0)), some (.int (zI ↑k))]) (st' := [.int (zI ↑(cFall (σ 1 10) (σ 1 7 0) k (σ 1 7 0))), .ref (ad 0)]) rfl ?_
    refine v_callV (My := mX8_grant) (As := [.int (zI ↑(cFall (σ 1 10) (σ 1 7 0) k (σ 1 7 0)))]) (rest := []) (mc := 0) (ms := 0) rfl caX8_grant rfl rfl rfl hc.2.1 rfl rfl (k_grant G _ ((zI ↑(cFall (σ 1 10) (σ 1 7 0) k (σ 1 7 0)))) hA hc hok) rfl rfl (Nat.le_of_ble_eq_true rfl) (by omega) ?_
    rintro _ h9 ⟨rfl, hc9, hf9⟩
    refine v_run 0 (pc' := 26) (ls' := [some (.ref (ad 0)), some (.int (zI ↑k))]) (st' := [.int ((zI ↑(cFall (σ 1 10) (σ 1 7 0) k (σ 1 7 0))))]) rfl ?_
    rw [show aFalls σ ↑k = (↑(cFall (σ 1 10) (σ 1 7 0) k (σ 1 7 0)), 0) from by rw [aFalls, if_neg c5]; rfl]
    exact v_iret rfl rfl rfl ⟨rfl, hc9, hf9⟩
  · rw [zb_0, Bool.not_eq_false, decide_eq_true_eq] at c5
    refine v_run 2 (pc' := 10) (ls' := [some (.ref (ad 0)), some (.int (zI s))]) (st' := [.int (zI 1), .ref (ad 0)]) rfl ?_
    refine v_callV (My := mX8_refuse) (As := [.int (zI 1)]) (rest := []) (mc := 0) (ms := 0) rfl caX8_refuse rfl rfl rfl hc.2.1 rfl rfl (k_refuse G _ 1 hA hc hok) rfl rfl (Nat.le_of_ble_eq_true rfl) (by omega) ?_
    rintro _ h9 ⟨rfl, hc9, hf9⟩
    refine v_run 0 (pc' := 13) (ls' := [some (.ref (ad 0)), some (.int (zI s))]) (st' := [.int (zI (-1))]) rfl ?_
    rw [show aFalls σ s = (-1, 1) from if_pos c5]
    exact v_iret rfl rfl rfl ⟨rfl, hc9, hf9⟩

set_option maxRecDepth 100000 in
set_option maxHeartbeats 400000 in
theorem k_margin (G : ssG) (h : ssH) {ad : Nat → Nat} {pl : Nat} {σ : sT} (s : Int) (hA : ∀ k l, ad k = ad l → k = l) (hc : CW0 h ad pl σ) (hok : sOk σ) (hs : -2147483648 ≤ s ∧ s < 2147483648) : ssC G mX8_margin 4 0 0 [.ref (ad 0), .int (zI s)] h (cR ad pl (sTr σ (aMargin σ s).2) h (.int (zI (aMargin σ s).1))) := by
  refine c_of_v okX8_margin (by decide +kernel) (ls := [some (.ref (ad 0)), some (.int (zI s)), none]) rfl (Nat.le_of_ble_eq_true rfl) ?_
  obtain ⟨i0, i1, i2, i3, i5, i7, a4, a6, a8, a9, a10, i11, i12, i14, i15⟩ := id hok.1
  obtain ⟨j0, j1, j2, b3, b4, b5, b6⟩ := id (hok.2.2 3 (by decide))
  have i13 := hok.2.1
  have hpl := hc.1
  simp only [fI] at i0 i1 i2 i3 i5 i7 i11 i12 i14 i15 j0 j1 j2
  obtain ⟨E, hS, hE⟩ := hc.2.2.2.2.2.2.2.1
  refine v_run 2 (pc' := 2) (ls' := [some (.ref (ad 0)), some (.int (zI s)), none]) (st' := [.int (zI s), .ref (ad 0)]) rfl ?_
  refine v_callV (My := mX8_lacksAct) (As := [.int (zI s)]) (rest := []) (mc := 0) (ms := 0) rfl caX8_lacksAct rfl rfl rfl hc.2.1 rfl rfl (k_lacksAct G _ s hA hc hok hs) rfl rfl (Nat.le_of_ble_eq_true rfl) (by omega) ?_
  rintro _ _ ⟨rfl, rfl⟩
  refine v_run 0 (pc' := 5) (ls' := [some (.ref (ad 0)), some (.int (zI s)), none]) (st' := [.int (zb (decide (s < 0 ∨ ↑(σ 1 7 0) ≤ s)))]) rfl ?_
  refine v_if_eq rfl (fun c5 => ?_) (fun c5 => ?_)
  · rw [zb_0, decide_eq_false_iff_not] at c5
    obtain ⟨k, rfl⟩ : ∃ z : Nat, s = ↑z := ⟨s.toNat, by omega⟩
    have q8 := a8 k
    have q9 := a9 k
    refine v_run 1 (pc' := 15) (ls' := [some (.ref (ad 0)), some (.int (zI ↑k)), none]) (st' := [.ref (ad 0)]) rfl ?_
    refine v_get rfl hc.2.1 rfl ?_
    refine v_run 0 (pc' := 18) (ls' := [some (.ref (ad 0)), some (.int (zI ↑k)), none]) (st' := [.ref (ad pl)]) rfl ?_
    refine v_get rfl hc.2.2.1.1 rfl ?_
    refine v_run 1 (pc' := 22) (ls' := [some (.ref (ad 0)), some (.int (zI ↑k)), none]) (st' := [.int (zI ↑k), .ref (Rp ad pl 8)]) rfl ?_
    refine v_iaload' rfl hc.2.2.1.2.2.2.1 (i := k) rfl (by omega) ?_
    refine v_run 1 (pc' := 24) (ls' := [some (.ref (ad 0)), some (.int (zI ↑k)), none]) (st' := [.ref (ad 0), .int ((fun k => zI ↑(σ 1 8 k)) k)]) rfl ?_
    refine v_get rfl hc.2.1 rfl ?_
    refine v_run 0 (pc' := 27) (ls' := [some (.ref (ad 0)), some (.int (zI ↑k)), none]) (st' := [.ref (ad 33), .int ((fun k => zI ↑(σ 1 8 k)) k)]) rfl ?_
    refine v_get rfl hc.2.2.2.2.1.1 rfl ?_
    refine v_run 0 (pc' := 30) (ls' := [some (.ref (ad 0)), some (.int (zI ↑k)), none]) (st' := [.int (zI ↑(σ 3 0 0)), .int ((fun k => zI ↑(σ 1 8 k)) k)]) rfl ?_
    refine v_icmp_ge rfl (fun c30 => ?_) (fun c30 => ?_)
    · simp (disch := omega) only [zI_lt, zI_le, zI_eq, zI_lt0, zI_le0, zI_0lt, zI_0le, zI_eq0] at c30
      refine v_run 1 (pc' := 40) (ls' := [some (.ref (ad 0)), some (.int (zI ↑k)), none]) (st' := [.ref (ad 0)]) rfl ?_
      refine v_get rfl hc.2.1 rfl ?_
      refine v_run 1 (pc' := 44) (ls' := [some (.ref (ad 0)), some (.int (zI ↑k)), none]) (st' := [.ref (ad 0), .ref (ad 136)]) rfl ?_
      refine v_get rfl hc.2.1 rfl ?_
      refine v_run 1 (pc' := 48) (ls' := [some (.ref (ad 0)), some (.int (zI ↑k)), none]) (st' := [.ref (ad 0), .ref (ad pl), .ref (ad 136)]) rfl ?_
      refine v_get rfl hc.2.1 rfl ?_
      refine v_run 0 (pc' := 51) (ls' := [some (.ref (ad 0)), some (.int (zI ↑k)), none]) (st' := [.ref (ad 33), .ref (ad pl), .ref (ad 136)]) rfl ?_
      refine v_callV (My := mX6_fill) (As := [.ref (ad pl), .ref (ad 33)]) (rest := []) (mc := 0) (ms := 0) rfl caX6_fill rfl rfl rfl hS.1 rfl rfl (k_fill G _ hc.2.2.1 hok.1 hc.2.2.2.2.1 (hok.2.2 3 (by decide)) hS (ad_ne hA (by omega)) ⟨ad_ne hA (by omega), ad_ne hA (by simp; omega), ad_ne hA (by simp; omega), ad_ne hA (by simp; omega), ad_ne hA (by simp; omega), ad_ne hA (by simp; omega), ad_ne hA (by omega), ad_ne hA (by omega), ad_ne hA (by omega), ad_ne hA (by omega), ad_ne hA (by omega)⟩) rfl rfl (Nat.le_of_ble_eq_true rfl) (by omega) ?_
      rintro _ h1 ⟨rfl, e1⟩
      have hc1 : CW0 h1 ad pl σ := e1 ▸ hc.spans hA (sE_le σ hE)
      have hS1 : SpanAt h1 (ad 136) (ad 137) (sE σ E) := e1 ▸ ⟨(hset_ne _ _ (ad_ne hA (by omega))).trans hS.1, hset_self _ _ _⟩
      have hf1 : frP ad pl h h1 := e1 ▸ (frP.rf ad pl h).set hA hc.1 (by omega) _
      refine v_run 0 (pc' := 54) (ls' := [some (.ref (ad 0)), some (.int (zI ↑k)), none]) (st' := []) rfl ?_
      refine v_run 1 (pc' := 55) (ls' := [some (.ref (ad 0)), some (.int (zI ↑k)), none]) (st' := [.ref (ad 0)]) rfl ?_
      refine v_get rfl hc1.2.1 rfl ?_
      refine v_run 1 (pc' := 59) (ls' := [some (.ref (ad 0)), some (.int (zI ↑k)), none]) (st' := [.ref (ad 0), .ref (ad 136)]) rfl ?_
      refine v_get rfl hc1.2.1 rfl ?_
      refine v_run 0 (pc' := 62) (ls' := [some (.ref (ad 0)), some (.int (zI ↑k)), none]) (st' := [.ref (ad pl), .ref (ad 136)]) rfl ?_
      refine v_get rfl hc1.2.2.1.1 rfl ?_
      refine v_run 1 (pc' := 66) (ls' := [some (.ref (ad 0)), some (.int (zI ↑k)), none]) (st' := [.int (zI ↑k), .ref (Rp ad pl 8), .ref (ad 136)]) rfl ?_
      refine v_iaload' rfl hc1.2.2.1.2.2.2.1 (i := k) rfl (by omega) ?_
      refine v_run 1 (pc' := 68) (ls' := [some (.ref (ad 0)), some (.int (zI ↑k)), none]) (st' := [.ref (ad 0), .int ((fun k => zI ↑(σ 1 8 k)) k), .ref (ad 136)]) rfl ?_
      refine v_get rfl hc1.2.1 rfl ?_
      refine v_run 0 (pc' := 71) (ls' := [some (.ref (ad 0)), some (.int (zI ↑k)), none]) (st' := [.ref (ad 33), .int ((fun k => zI ↑(σ 1 8 k)) k), .ref (ad 136)]) rfl ?_
      refine v_get rfl hc1.2.2.2.2.1.1 rfl ?_
      refine v_run 2 (pc' := 76) (ls' := [some (.ref (ad 0)), some (.int (zI ↑k)), none]) (st' := [.ref (ad 0), .int (((fun k => zI ↑(σ 1 8 k)) k) - (zI ↑(σ 3 0 0))), .ref (ad 136)]) rfl ?_
      refine v_get rfl hc1.2.1 rfl ?_
      refine v_run 0 (pc' := 79) (ls' := [some (.ref (ad 0)), some (.int (zI ↑k)), none]) (st' := [.ref (ad pl), .int (((fun k => zI ↑(σ 1 8 k)) k) - (zI ↑(σ 3 0 0))), .ref (ad 136)]) rfl ?_
      refine v_get rfl hc1.2.2.1.1 rfl ?_
      refine v_run 0 (pc' := 82) (ls' := [some (.ref (ad 0)), some (.int (zI ↑k)), none]) (st' := [.int (zI ↑(σ 1 5 0)), .int (((fun k => zI ↑(σ 1 8 k)) k) - (zI ↑(σ 3 0 0))), .ref (ad 136)]) rfl ?_
      rw [show (((fun k => zI ↑(σ 1 8 k)) k) - (zI ↑(σ 3 0 0)) : Int32) = zI (↑(σ 1 8 k) - ↑(σ 3 0 0)) from zI_sub _ _]
      refine v_callV (My := mX6_goodAfter) (As := [.int (zI (↑(σ 1 8 k) - ↑(σ 3 0 0))), .int (zI ↑(σ 1 5 0))]) (rest := []) (mc := 0) (ms := 0) rfl caX6_goodAfter rfl rfl rfl hS1.1 rfl rfl (k_spGoodAfter G _ (↑(σ 1 8 k) - ↑(σ 3 0 0)) (σ 1 5 0) hS1 (sE_le σ hE) (by omega) i5) rfl rfl (Nat.le_of_ble_eq_true rfl) (by omega) ?_
      rintro _ _ ⟨rfl, rfl⟩
      refine v_run 0 (pc' := 85) (ls' := [some (.ref (ad 0)), some (.int (zI ↑k)), none]) (st' := [.int (zI ↑(setN (fun t => decide ((↑(σ 1 8 k) - ↑(σ 3 0 0) : Int) < ↑(sE σ E t))) (σ 1 5 0)))]) rfl ?_
      rw [show (zI ↑(setN (fun t => decide ((↑(σ 1 8 k) - ↑(σ 3 0 0) : Int) < ↑(sE σ E t))) (σ 1 5 0)) : Int32) = zI ↑(setN (fun t => decide ((↑(σ 1 8 k) - ↑(σ 3 0 0) : Int) < ↑(sG σ t))) (σ 1 5 0)) from by rw [setN_congr _ (fun t ht => by rw [sE_eq σ E t ht])]]
      refine v_run 3 (pc' := 88) (ls' := [some (.ref (ad 0)), some (.int (zI ↑k)), some (.int (zI ↑(setN (fun t => decide ((↑(σ 1 8 k) - ↑(σ 3 0 0) : Int) < ↑(sG σ t))) (σ 1 5 0))))]) (st' := [.ref (ad 0), .ref (ad 0)]) rfl ?_
      refine v_get rfl hc1.2.1 rfl ?_
      refine v_run 2 (pc' := 93) (ls' := [some (.ref (ad 0)), some (.int (zI ↑k)), some (.int (zI ↑(setN (fun t => decide ((↑(σ 1 8 k) - ↑(σ 3 0 0) : Int) < ↑(sG σ t))) (σ 1 5 0))))]) (st' := [.int (zI ↑(setN (fun t => decide ((↑(σ 1 8 k) - ↑(σ 3 0 0) : Int) < ↑(sG σ t))) (σ 1 5 0))), .int (zI ↑k), .ref (ad pl), .ref (ad 0)]) rfl ?_
      refine v_callV (My := mX4_leadOf) (As := [.int (zI ↑k), .int (zI ↑(setN (fun t => decide ((↑(σ 1 8 k) - ↑(σ 3 0 0) : Int) < ↑(sG σ t))) (σ 1 5 0)))]) (rest := [.ref (ad 0)]) (mc := 0) (ms := 0) rfl caX4_leadOf rfl rfl rfl hc1.2.2.1.1 rfl rfl (k_leadOf G _ k (setN (fun t => decide ((↑(σ 1 8 k) - ↑(σ 3 0 0) : Int) < ↑(sG σ t))) (σ 1 5 0)) hc1.2.2.1 hok.1 (by omega) (setN_lt64 _ i5)) rfl rfl (Nat.le_of_ble_eq_true rfl) (by omega) ?_
      rintro _ _ ⟨rfl, rfl⟩
      refine v_run 0 (pc' := 96) (ls' := [some (.ref (ad 0)), some (.int (zI ↑k)), some (.int (zI ↑(setN (fun t => decide ((↑(σ 1 8 k) - ↑(σ 3 0 0) : Int) < ↑(sG σ t))) (σ 1 5 0))))]) (st' := [.int (zI (cLead (σ 1 6) (σ 1 9 k) (σ 1 5 0) (setN (fun t => decide ((↑(σ 1 8 k) - ↑(σ 3 0 0) : Int) < ↑(sG σ t))) (σ 1 5 0)))), .ref (ad 0)]) rfl ?_
      refine v_run 2 (pc' := 100) (ls' := [some (.ref (ad 0)), some (.int (zI ↑k)), some (.int (zI ↑(setN (fun t => decide ((↑(σ 1 8 k) - ↑(σ 3 0 0) : Int) < ↑(sG σ t))) (σ 1 5 0))))]) (st' := [.int ((zI (cLead (σ 1 6) (σ 1 9 k) (σ 1 5 0) (setN (fun t => decide ((↑(σ 1 8 k) - ↑(σ 3 0 0) : Int) < ↑(sG σ t))) (σ 1 5 0)))) + (zI 1000)), .ref (ad 0)]) rfl ?_
      rw [show ((zI (cLead (σ 1 6) (σ 1 9 k) (σ 1 5 0) (setN (fun t => decide ((↑(σ 1 8 k) - ↑(σ 3 0 0) : Int) < ↑(sG σ t))) (σ 1 5 0)))) + (zI 1000) : Int32) = zI (cLead (σ 1 6) (σ 1 9 k) (σ 1 5 0) (setN (fun t => decide ((↑(σ 1 8 k) - ↑(σ 3 0 0) : Int) < ↑(sG σ t))) (σ 1 5 0)) + 1000) from zI_add _ _]
      refine v_callV (My := mX8_grant) (As := [.int (zI (cLead (σ 1 6) (σ 1 9 k) (σ 1 5 0) (setN (fun t => decide ((↑(σ 1 8 k) - ↑(σ 3 0 0) : Int) < ↑(sG σ t))) (σ 1 5 0)) + 1000))]) (rest := []) (mc := 0) (ms := 0) rfl caX8_grant rfl rfl rfl hc1.2.1 rfl rfl (k_grant G _ ((zI (cLead (σ 1 6) (σ 1 9 k) (σ 1 5 0) (setN (fun t => decide ((↑(σ 1 8 k) - ↑(σ 3 0 0) : Int) < ↑(sG σ t))) (σ 1 5 0)) + 1000))) hA hc1 hok) rfl rfl (Nat.le_of_ble_eq_true rfl) (by omega) ?_
      rintro _ h9 ⟨rfl, hc9, hf9⟩
      refine v_run 0 (pc' := 103) (ls' := [some (.ref (ad 0)), some (.int (zI ↑k)), some (.int (zI ↑(setN (fun t => decide ((↑(σ 1 8 k) - ↑(σ 3 0 0) : Int) < ↑(sG σ t))) (σ 1 5 0))))]) (st' := [.int ((zI (cLead (σ 1 6) (σ 1 9 k) (σ 1 5 0) (setN (fun t => decide ((↑(σ 1 8 k) - ↑(σ 3 0 0) : Int) < ↑(sG σ t))) (σ 1 5 0)) + 1000)))]) rfl ?_
      rw [show aMargin σ ↑k = (cLead (σ 1 6) (σ 1 9 k) (σ 1 5 0) (setN (fun t => decide ((↑(σ 1 8 k) - ↑(σ 3 0 0) : Int) < ↑(sG σ t))) (σ 1 5 0)) + 1000, 0) from by rw [aMargin, if_neg c5, if_neg (by simp only [Int.toNat_natCast]; omega)]; rfl]
      exact v_iret rfl rfl rfl ⟨rfl, hc9, hf1.tr hf9⟩
    · simp (disch := omega) only [zI_lt, zI_le, zI_eq, zI_lt0, zI_le0, zI_0lt, zI_0le, zI_eq0] at c30
      refine v_run 2 (pc' := 35) (ls' := [some (.ref (ad 0)), some (.int (zI ↑k)), none]) (st' := [.int (zI 5), .ref (ad 0)]) rfl ?_
      refine v_callV (My := mX8_refuse) (As := [.int (zI 5)]) (rest := []) (mc := 0) (ms := 0) rfl caX8_refuse rfl rfl rfl hc.2.1 rfl rfl (k_refuse G _ 5 hA hc hok) rfl rfl (Nat.le_of_ble_eq_true rfl) (by omega) ?_
      rintro _ h9 ⟨rfl, hc9, hf9⟩
      refine v_run 0 (pc' := 38) (ls' := [some (.ref (ad 0)), some (.int (zI ↑k)), none]) (st' := [.int (zI (-1))]) rfl ?_
      rw [show aMargin σ ↑k = (-1, 5) from by rw [aMargin, if_neg c5, if_pos (by simp only [Int.toNat_natCast]; omega)]]
      exact v_iret rfl rfl rfl ⟨rfl, hc9, hf9⟩
  · rw [zb_0, Bool.not_eq_false, decide_eq_true_eq] at c5
    refine v_run 2 (pc' := 10) (ls' := [some (.ref (ad 0)), some (.int (zI s)), none]) (st' := [.int (zI 1), .ref (ad 0)]) rfl ?_
    refine v_callV (My := mX8_refuse) (As := [.int (zI 1)]) (rest := []) (mc := 0) (ms := 0) rfl caX8_refuse rfl rfl rfl hc.2.1 rfl rfl (k_refuse G _ 1 hA hc hok) rfl rfl (Nat.le_of_ble_eq_true rfl) (by omega) ?_
    rintro _ h9 ⟨rfl, hc9, hf9⟩
    refine v_run 0 (pc' := 13) (ls' := [some (.ref (ad 0)), some (.int (zI s)), none]) (st' := [.int (zI (-1))]) rfl ?_
    rw [show aMargin σ s = (-1, 1) from if_pos c5]
    exact v_iret rfl rfl rfl ⟨rfl, hc9, hf9⟩

set_option maxRecDepth 100000 in
set_option maxHeartbeats 400000 in
theorem k_nextAct (G : ssG) (h : ssH) {ad : Nat → Nat} {pl : Nat} {σ : sT}  (hA : ∀ k l, ad k = ad l → k = l) (hc : CW0 h ad pl σ) (hok : sOk σ)  : ssC G mX8_nextAct 1 0 0 [.ref (ad 0)] h (cR ad pl (sTr σ (aNext σ).2) h (.int (zI (aNext σ).1))) := by
  refine c_of_v okX8_nextAct (by decide +kernel) (ls := [some (.ref (ad 0)), none, none, none]) rfl (Nat.le_of_ble_eq_true rfl) ?_
  obtain ⟨i0, i1, i2, i3, i5, i7, a4, a6, a8, a9, a10, i11, i12, i14, i15⟩ := id hok.1
  obtain ⟨j0, j1, j2, b3, b4, b5, b6⟩ := id (hok.2.2 3 (by decide))
  have i13 := hok.2.1
  have hpl := hc.1
  simp only [fI] at i0 i1 i2 i3 i5 i7 i11 i12 i14 i15 j0 j1 j2
  refine v_run 1 (pc' := 1) (ls' := [some (.ref (ad 0)), none, none, none]) (st' := [.ref (ad 0)]) rfl ?_
  refine v_callV (My := mX8_lacksSafe) (As := []) (rest := []) (mc := 0) (ms := 0) rfl caX8_lacksSafe rfl rfl rfl hc.2.1 rfl rfl (k_lacksSafe G _ hA hc hok) rfl rfl (Nat.le_of_ble_eq_true rfl) (by omega) ?_
  rintro _ _ ⟨rfl, rfl⟩
  refine v_run 0 (pc' := 4) (ls' := [some (.ref (ad 0)), none, none, none]) (st' := [.int (zb (decide (σ 1 5 0 = 0)))]) rfl ?_
  refine v_if_eq rfl (fun c4 => ?_) (fun c4 => ?_)
  · rw [zb_0, decide_eq_false_iff_not] at c4
    refine v_run 6 (pc' := 21) (ls' := [some (.ref (ad 0)), some (.int (zI (-2))), some (.int (zI 41)), some (.int (zI 0))]) (st' := []) rfl ?_
    have lp : ∀ (n s : Nat), s ≤ σ 1 7 0 → σ 1 7 0 + 1 ≤ s + n → ssV G mX8_nextAct 1 0 0 (cR ad pl (sTr σ (aNext σ).2) h (.int (zI (aNext σ).1))) 21 [some (.ref (ad 0)), some (.int (zI (nxA σ s).1)), some (.int (zI ↑(nxA σ s).2)), some (.int (zI ↑s))] [] h := by
      intro n
      induction n with
      | zero => intro s hs1 hs2; exact absurd hs2 (by omega)
      | succ n ih =>
        intro s hs1 hs2
        have q8 := a8 s
        have q9 := nxA_le σ s
        refine v_run 2 (pc' := 23) (ls' := [some (.ref (ad 0)), some (.int (zI (nxA σ s).1)), some (.int (zI ↑(nxA σ s).2)), some (.int (zI ↑s))]) (st' := [.ref (ad 0), .int (zI ↑s)]) rfl ?_
        refine v_get rfl hc.2.1 rfl ?_
        refine v_run 0 (pc' := 26) (ls' := [some (.ref (ad 0)), some (.int (zI (nxA σ s).1)), some (.int (zI ↑(nxA σ s).2)), some (.int (zI ↑s))]) (st' := [.ref (ad pl), .int (zI ↑s)]) rfl ?_
        refine v_get rfl hc.2.2.1.1 rfl ?_
        refine v_run 0 (pc' := 29) (ls' := [some (.ref (ad 0)), some (.int (zI (nxA σ s).1)), some (.int (zI ↑(nxA σ s).2)), some (.int (zI ↑s))]) (st' := [.int (zI ↑(σ 1 7 0)), .int (zI ↑s)]) rfl ?_
        refine v_icmp_ge rfl (fun c29 => ?_) (fun c29 => ?_)
        · simp (disch := omega) only [zI_lt, zI_le, zI_eq, zI_lt0, zI_le0, zI_0lt, zI_0le, zI_eq0] at c29
          refine v_run 2 (pc' := 84) (ls' := [some (.ref (ad 0)), some (.int (zI (nxA σ s).1)), some (.int (zI ↑(nxA σ s).2)), some (.int (zI ↑s))]) (st' := [.int (zI (nxA σ s).1), .ref (ad 0)]) rfl ?_
          refine v_callV (My := mX8_grant) (As := [.int (zI (nxA σ s).1)]) (rest := []) (mc := 0) (ms := 0) rfl caX8_grant rfl rfl rfl hc.2.1 rfl rfl (k_grant G _ ((zI (nxA σ s).1)) hA hc hok) rfl rfl (Nat.le_of_ble_eq_true rfl) (by omega) ?_
          rintro _ h9 ⟨rfl, hc9, hf9⟩
          refine v_run 0 (pc' := 87) (ls' := [some (.ref (ad 0)), some (.int (zI (nxA σ s).1)), some (.int (zI ↑(nxA σ s).2)), some (.int (zI ↑s))]) (st' := [.int ((zI (nxA σ s).1))]) rfl ?_
          rw [show aNext σ = ((nxA σ s).1, 0) from by rw [aNext, if_neg c4, show s = σ 1 7 0 by omega]]
          exact v_iret rfl rfl rfl ⟨rfl, hc9, hf9⟩
        · simp (disch := omega) only [zI_lt, zI_le, zI_eq, zI_lt0, zI_le0, zI_0lt, zI_0le, zI_eq0] at c29
          refine v_run 1 (pc' := 33) (ls' := [some (.ref (ad 0)), some (.int (zI (nxA σ s).1)), some (.int (zI ↑(nxA σ s).2)), some (.int (zI ↑s))]) (st' := [.ref (ad 0)]) rfl ?_
          refine v_get rfl hc.2.1 rfl ?_
          refine v_run 0 (pc' := 36) (ls' := [some (.ref (ad 0)), some (.int (zI (nxA σ s).1)), some (.int (zI ↑(nxA σ s).2)), some (.int (zI ↑s))]) (st' := [.ref (ad pl)]) rfl ?_
          refine v_get rfl hc.2.2.1.1 rfl ?_
          refine v_run 1 (pc' := 40) (ls' := [some (.ref (ad 0)), some (.int (zI (nxA σ s).1)), some (.int (zI ↑(nxA σ s).2)), some (.int (zI ↑s))]) (st' := [.int (zI ↑s), .ref (Rp ad pl 8)]) rfl ?_
          refine v_iaload' rfl hc.2.2.1.2.2.2.1 (i := s) rfl (by omega) ?_
          refine v_run 1 (pc' := 42) (ls' := [some (.ref (ad 0)), some (.int (zI (nxA σ s).1)), some (.int (zI ↑(nxA σ s).2)), some (.int (zI ↑s))]) (st' := [.ref (ad 0), .int ((fun k => zI ↑(σ 1 8 k)) s)]) rfl ?_
          refine v_get rfl hc.2.1 rfl ?_
          refine v_run 0 (pc' := 45) (ls' := [some (.ref (ad 0)), some (.int (zI (nxA σ s).1)), some (.int (zI ↑(nxA σ s).2)), some (.int (zI ↑s))]) (st' := [.ref (ad 33), .int ((fun k => zI ↑(σ 1 8 k)) s)]) rfl ?_
          refine v_get rfl hc.2.2.2.2.1.1 rfl ?_
          refine v_run 0 (pc' := 48) (ls' := [some (.ref (ad 0)), some (.int (zI (nxA σ s).1)), some (.int (zI ↑(nxA σ s).2)), some (.int (zI ↑s))]) (st' := [.int (zI ↑(σ 3 0 0)), .int ((fun k => zI ↑(σ 1 8 k)) s)]) rfl ?_
          refine v_icmp_lt rfl (fun c48 => ?_) (fun c48 => ?_)
          · simp (disch := omega) only [zI_lt, zI_le, zI_eq, zI_lt0, zI_le0, zI_0lt, zI_0le, zI_eq0] at c48
            refine v_run 2 (pc' := 21) (ls' := [some (.ref (ad 0)), some (.int (zI (nxA σ s).1)), some (.int (zI ↑(nxA σ s).2)), some (.int ((zI ↑s) + zI 1))]) (st' := []) rfl ?_
            rw [zI_s1, ← nxA_f σ s (by omega)]
            exact ih (s + 1) (by omega) (by omega)
          · simp (disch := omega) only [zI_lt, zI_le, zI_eq, zI_lt0, zI_le0, zI_0lt, zI_0le, zI_eq0] at c48
            refine v_run 1 (pc' := 52) (ls' := [some (.ref (ad 0)), some (.int (zI (nxA σ s).1)), some (.int (zI ↑(nxA σ s).2)), some (.int (zI ↑s))]) (st' := [.ref (ad 0)]) rfl ?_
            refine v_get rfl hc.2.1 rfl ?_
            refine v_run 0 (pc' := 55) (ls' := [some (.ref (ad 0)), some (.int (zI (nxA σ s).1)), some (.int (zI ↑(nxA σ s).2)), some (.int (zI ↑s))]) (st' := [.ref (ad pl)]) rfl ?_
            refine v_get rfl hc.2.2.1.1 rfl ?_
            refine v_run 1 (pc' := 59) (ls' := [some (.ref (ad 0)), some (.int (zI (nxA σ s).1)), some (.int (zI ↑(nxA σ s).2)), some (.int (zI ↑s))]) (st' := [.int (zI ↑s), .ref (Rp ad pl 8)]) rfl ?_
            refine v_iaload' rfl hc.2.2.1.2.2.2.1 (i := s) rfl (by omega) ?_
            refine v_run 1 (pc' := 61) (ls' := [some (.ref (ad 0)), some (.int (zI (nxA σ s).1)), some (.int (zI ↑(nxA σ s).2)), some (.int (zI ↑s))]) (st' := [.int (zI ↑(nxA σ s).2), .int ((fun k => zI ↑(σ 1 8 k)) s)]) rfl ?_
            refine v_icmp_ge rfl (fun c61 => ?_) (fun c61 => ?_)
            · simp (disch := omega) only [zI_lt, zI_le, zI_eq, zI_lt0, zI_le0, zI_0lt, zI_0le, zI_eq0] at c61
              refine v_run 2 (pc' := 21) (ls' := [some (.ref (ad 0)), some (.int (zI (nxA σ s).1)), some (.int (zI ↑(nxA σ s).2)), some (.int ((zI ↑s) + zI 1))]) (st' := []) rfl ?_
              rw [zI_s1, ← nxA_f σ s (by omega)]
              exact ih (s + 1) (by omega) (by omega)
            · simp (disch := omega) only [zI_lt, zI_le, zI_eq, zI_lt0, zI_le0, zI_0lt, zI_0le, zI_eq0] at c61
              refine v_run 3 (pc' := 67) (ls' := [some (.ref (ad 0)), some (.int (zI ↑s)), some (.int (zI ↑(nxA σ s).2)), some (.int (zI ↑s))]) (st' := [.ref (ad 0)]) rfl ?_
              refine v_get rfl hc.2.1 rfl ?_
              refine v_run 0 (pc' := 70) (ls' := [some (.ref (ad 0)), some (.int (zI ↑s)), some (.int (zI ↑(nxA σ s).2)), some (.int (zI ↑s))]) (st' := [.ref (ad pl)]) rfl ?_
              refine v_get rfl hc.2.2.1.1 rfl ?_
              refine v_run 1 (pc' := 74) (ls' := [some (.ref (ad 0)), some (.int (zI ↑s)), some (.int (zI ↑(nxA σ s).2)), some (.int (zI ↑s))]) (st' := [.int (zI ↑s), .ref (Rp ad pl 8)]) rfl ?_
              refine v_iaload' rfl hc.2.2.1.2.2.2.1 (i := s) rfl (by omega) ?_
              refine v_run 3 (pc' := 21) (ls' := [some (.ref (ad 0)), some (.int (zI ↑s)), some (.int ((fun k => zI ↑(σ 1 8 k)) s)), some (.int ((zI ↑s) + zI 1))]) (st' := []) rfl ?_
              rw [zI_s1]
              have q := ih (s + 1) (by omega) (by omega); rw [nxA_t σ s (by omega)] at q; exact q
    exact lp (σ 1 7 0 + 1) 0 (by omega) (by omega)
  · rw [zb_0, Bool.not_eq_false, decide_eq_true_eq] at c4
    refine v_run 2 (pc' := 9) (ls' := [some (.ref (ad 0)), none, none, none]) (st' := [.int (zI 1), .ref (ad 0)]) rfl ?_
    refine v_callV (My := mX8_refuse) (As := [.int (zI 1)]) (rest := []) (mc := 0) (ms := 0) rfl caX8_refuse rfl rfl rfl hc.2.1 rfl rfl (k_refuse G _ 1 hA hc hok) rfl rfl (Nat.le_of_ble_eq_true rfl) (by omega) ?_
    rintro _ h9 ⟨rfl, hc9, hf9⟩
    refine v_run 0 (pc' := 12) (ls' := [some (.ref (ad 0)), none, none, none]) (st' := [.int (zI (-1))]) rfl ?_
    rw [show aNext σ = (-1, 1) from if_pos c4]
    exact v_iret rfl rfl rfl ⟨rfl, hc9, hf9⟩

set_option maxRecDepth 100000 in
set_option maxHeartbeats 400000 in
theorem k_keystone (G : ssG) (h : ssH) {ad : Nat → Nat} {pl : Nat} {σ : sT}  (hA : ∀ k l, ad k = ad l → k = l) (hc : CW0 h ad pl σ) (hok : sOk σ)  : ssC G mX8_keystone 3 0 0 [.ref (ad 0)] h (cR ad pl (sTr σ (aKeystone σ).2) h (.int (zI (aKeystone σ).1))) := by
  refine c_of_v okX8_keystone (by decide +kernel) (ls := [some (.ref (ad 0)), none, none, none, none]) rfl (Nat.le_of_ble_eq_true rfl) ?_
  obtain ⟨i0, i1, i2, i3, i5, i7, a4, a6, a8, a9, a10, i11, i12, i14, i15⟩ := id hok.1
  obtain ⟨j0, j1, j2, b3, b4, b5, b6⟩ := id (hok.2.2 3 (by decide))
  have i13 := hok.2.1
  have hpl := hc.1
  simp only [fI] at i0 i1 i2 i3 i5 i7 i11 i12 i14 i15 j0 j1 j2
  refine v_run 1 (pc' := 1) (ls' := [some (.ref (ad 0)), none, none, none, none]) (st' := [.ref (ad 0)]) rfl ?_
  refine v_callV (My := mX8_lacksSafe) (As := []) (rest := []) (mc := 0) (ms := 0) rfl caX8_lacksSafe rfl rfl rfl hc.2.1 rfl rfl (k_lacksSafe G _ hA hc hok) rfl rfl (Nat.le_of_ble_eq_true rfl) (by omega) ?_
  rintro _ _ ⟨rfl, rfl⟩
  refine v_run 0 (pc' := 4) (ls' := [some (.ref (ad 0)), none, none, none, none]) (st' := [.int (zb (decide (σ 1 5 0 = 0)))]) rfl ?_
  refine v_if_eq rfl (fun c4 => ?_) (fun c4 => ?_)
  · rw [zb_0, decide_eq_false_iff_not] at c4
    refine v_run 6 (pc' := 20) (ls' := [some (.ref (ad 0)), some (.int (zI 0)), some (.int (zI (-2))), some (.int (zI 0)), none]) (st' := []) rfl ?_
    have lp : ∀ (n s : Nat), s ≤ σ 1 7 0 → σ 1 7 0 + 1 ≤ s + n → ssV G mX8_keystone 3 0 0 (cR ad pl (sTr σ (aKeystone σ).2) h (.int (zI (aKeystone σ).1))) 20 [some (.ref (ad 0)), some (.int (zI ↑(ksA σ s).2)), some (.int (zI (ksA σ s).1)), some (.int (zI ↑s)), none] [] h := by
      intro n
      induction n with
      | zero => intro s hs1 hs2; exact absurd hs2 (by omega)
      | succ n ih =>
        intro s hs1 hs2
        have q9 := ksA_le σ s
        refine v_run 2 (pc' := 22) (ls' := [some (.ref (ad 0)), some (.int (zI ↑(ksA σ s).2)), some (.int (zI (ksA σ s).1)), some (.int (zI ↑s)), none]) (st' := [.ref (ad 0), .int (zI ↑s)]) rfl ?_
        refine v_get rfl hc.2.1 rfl ?_
        refine v_run 0 (pc' := 25) (ls' := [some (.ref (ad 0)), some (.int (zI ↑(ksA σ s).2)), some (.int (zI (ksA σ s).1)), some (.int (zI ↑s)), none]) (st' := [.ref (ad pl), .int (zI ↑s)]) rfl ?_
        refine v_get rfl hc.2.2.1.1 rfl ?_
        refine v_run 0 (pc' := 28) (ls' := [some (.ref (ad 0)), some (.int (zI ↑(ksA σ s).2)), some (.int (zI (ksA σ s).1)), some (.int (zI ↑s)), none]) (st' := [.int (zI ↑(σ 1 7 0)), .int (zI ↑s)]) rfl ?_
        refine v_icmp_ge rfl (fun c28 => ?_) (fun c28 => ?_)
        · simp (disch := omega) only [zI_lt, zI_le, zI_eq, zI_lt0, zI_le0, zI_0lt, zI_0le, zI_eq0] at c28
          refine v_run 2 (pc' := 63) (ls' := [some (.ref (ad 0)), some (.int (zI ↑(ksA σ s).2)), some (.int (zI (ksA σ s).1)), some (.int (zI ↑s)), none]) (st' := [.int (zI (ksA σ s).1), .ref (ad 0)]) rfl ?_
          refine v_callV (My := mX8_grant) (As := [.int (zI (ksA σ s).1)]) (rest := []) (mc := 0) (ms := 0) rfl caX8_grant rfl rfl rfl hc.2.1 rfl rfl (k_grant G _ ((zI (ksA σ s).1)) hA hc hok) rfl rfl (Nat.le_of_ble_eq_true rfl) (by omega) ?_
          rintro _ h9 ⟨rfl, hc9, hf9⟩
          refine v_run 0 (pc' := 66) (ls' := [some (.ref (ad 0)), some (.int (zI ↑(ksA σ s).2)), some (.int (zI (ksA σ s).1)), some (.int (zI ↑s)), none]) (st' := [.int ((zI (ksA σ s).1))]) rfl ?_
          rw [show aKeystone σ = ((ksA σ s).1, 0) from by rw [aKeystone, if_neg c4, show s = σ 1 7 0 by omega]]
          exact v_iret rfl rfl rfl ⟨rfl, hc9, hf9⟩
        · simp (disch := omega) only [zI_lt, zI_le, zI_eq, zI_lt0, zI_le0, zI_0lt, zI_0le, zI_eq0] at c28
          refine v_run 1 (pc' := 32) (ls' := [some (.ref (ad 0)), some (.int (zI ↑(ksA σ s).2)), some (.int (zI (ksA σ s).1)), some (.int (zI ↑s)), none]) (st' := [.ref (ad 0)]) rfl ?_
          refine v_get rfl hc.2.1 rfl ?_
          refine v_run 1 (pc' := 36) (ls' := [some (.ref (ad 0)), some (.int (zI ↑(ksA σ s).2)), some (.int (zI (ksA σ s).1)), some (.int (zI ↑s)), none]) (st' := [.int (zI ↑s), .ref (ad pl)]) rfl ?_
          refine v_callV (My := mX4_fallingWith) (As := [.int (zI ↑s)]) (rest := []) (mc := 0) (ms := 0) rfl caX4_fallingWith rfl rfl rfl hc.2.2.1.1 rfl rfl (k_fallingWith G _ s hc.2.2.1 hok.1 (by omega)) rfl rfl (Nat.le_of_ble_eq_true rfl) (by omega) ?_
          rintro _ _ ⟨rfl, rfl⟩
          refine v_run 0 (pc' := 39) (ls' := [some (.ref (ad 0)), some (.int (zI ↑(ksA σ s).2)), some (.int (zI (ksA σ s).1)), some (.int (zI ↑s)), none]) (st' := [.int (zI ↑(cFall (σ 1 10) (σ 1 7 0) s (σ 1 7 0)))]) rfl ?_
          have q1 : cFall (σ 1 10) (σ 1 7 0) s (σ 1 7 0) < 32 := cFall_lt (by omega) i7
          refine v_callS (My := mJ6_bitCount_0f7a4) (As := [.int (zI ↑(cFall (σ 1 10) (σ 1 7 0) s (σ 1 7 0)))]) (rest := []) (mc := 0) (ms := 0) rfl caJ6_bitCount_0f7a4 rfl rfl (k_bitCount G _ (cFall (σ 1 10) (σ 1 7 0) s (σ 1 7 0)) (by omega)) rfl rfl (Nat.le_of_ble_eq_true rfl) (by omega) ?_
          rintro _ _ ⟨rfl, rfl⟩
          refine v_run 0 (pc' := 42) (ls' := [some (.ref (ad 0)), some (.int (zI ↑(ksA σ s).2)), some (.int (zI (ksA σ s).1)), some (.int (zI ↑s)), none]) (st' := [.int (zI ↑(popN (cFall (σ 1 10) (σ 1 7 0) s (σ 1 7 0))))]) rfl ?_
          have q2 := popN_le (cFall (σ 1 10) (σ 1 7 0) s (σ 1 7 0))
          refine v_run 3 (pc' := 47) (ls' := [some (.ref (ad 0)), some (.int (zI ↑(ksA σ s).2)), some (.int (zI (ksA σ s).1)), some (.int (zI ↑s)), some (.int (zI ↑(popN (cFall (σ 1 10) (σ 1 7 0) s (σ 1 7 0)))))]) (st' := [.int (zI ↑(ksA σ s).2), .int (zI ↑(popN (cFall (σ 1 10) (σ 1 7 0) s (σ 1 7 0))))]) rfl ?_
          refine v_icmp_le rfl (fun c47 => ?_) (fun c47 => ?_)
          · simp (disch := omega) only [zI_lt, zI_le, zI_eq, zI_lt0, zI_le0, zI_0lt, zI_0le, zI_eq0] at c47
            refine v_run 2 (pc' := 20) (ls' := [some (.ref (ad 0)), some (.int (zI ↑(ksA σ s).2)), some (.int (zI (ksA σ s).1)), some (.int ((zI ↑s) + zI 1)), some (.int (zI ↑(popN (cFall (σ 1 10) (σ 1 7 0) s (σ 1 7 0)))))]) (st' := []) rfl ?_
            refine v_drop 4 (ls' := [some (.ref (ad 0)), some (.int (zI ↑(ksA σ s).2)), some (.int (zI (ksA σ s).1)), some (.int ((zI ↑s) + zI 1)), none]) rfl ?_
            rw [zI_s1, ← ksA_f σ s (by omega)]
            exact ih (s + 1) (by omega) (by omega)
          · simp (disch := omega) only [zI_lt, zI_le, zI_eq, zI_lt0, zI_le0, zI_0lt, zI_0le, zI_eq0] at c47
            refine v_run 6 (pc' := 20) (ls' := [some (.ref (ad 0)), some (.int (zI ↑(popN (cFall (σ 1 10) (σ 1 7 0) s (σ 1 7 0))))), some (.int (zI ↑s)), some (.int ((zI ↑s) + zI 1)), some (.int (zI ↑(popN (cFall (σ 1 10) (σ 1 7 0) s (σ 1 7 0)))))]) (st' := []) rfl ?_
            refine v_drop 4 (ls' := [some (.ref (ad 0)), some (.int (zI ↑(popN (cFall (σ 1 10) (σ 1 7 0) s (σ 1 7 0))))), some (.int (zI ↑s)), some (.int ((zI ↑s) + zI 1)), none]) rfl ?_
            rw [zI_s1]
            have q := ih (s + 1) (by omega) (by omega); rw [ksA_t σ s (by omega)] at q; exact q
    exact lp (σ 1 7 0 + 1) 0 (by omega) (by omega)
  · rw [zb_0, Bool.not_eq_false, decide_eq_true_eq] at c4
    refine v_run 2 (pc' := 9) (ls' := [some (.ref (ad 0)), none, none, none, none]) (st' := [.int (zI 1), .ref (ad 0)]) rfl ?_
    refine v_callV (My := mX8_refuse) (As := [.int (zI 1)]) (rest := []) (mc := 0) (ms := 0) rfl caX8_refuse rfl rfl rfl hc.2.1 rfl rfl (k_refuse G _ 1 hA hc hok) rfl rfl (Nat.le_of_ble_eq_true rfl) (by omega) ?_
    rintro _ h9 ⟨rfl, hc9, hf9⟩
    refine v_run 0 (pc' := 12) (ls' := [some (.ref (ad 0)), none, none, none, none]) (st' := [.int (zI (-1))]) rfl ?_
    rw [show aKeystone σ = (-1, 1) from if_pos c4]
    exact v_iret rfl rfl rfl ⟨rfl, hc9, hf9⟩

set_option maxRecDepth 100000 in
set_option maxHeartbeats 400000 in
theorem k_ring (G : ssG) (h : ssH) {ad : Nat → Nat} {pl : Nat} {σ : sT}  (hA : ∀ k l, ad k = ad l → k = l) (hc : CW0 h ad pl σ) (hok : sOk σ)  : ssC G mX8_ring 2 0 0 [.ref (ad 0)] h (cR ad pl (sTr σ (aRing σ).2) h (.int (zI (aRing σ).1))) := by
  refine c_of_v okX8_ring (by decide +kernel) (ls := [some (.ref (ad 0)), none, none]) rfl (Nat.le_of_ble_eq_true rfl) ?_
  obtain ⟨i0, i1, i2, i3, i5, i7, a4, a6, a8, a9, a10, i11, i12, i14, i15⟩ := id hok.1
  obtain ⟨j0, j1, j2, b3, b4, b5, b6⟩ := id (hok.2.2 3 (by decide))
  have i13 := hok.2.1
  have hpl := hc.1
  simp only [fI] at i0 i1 i2 i3 i5 i7 i11 i12 i14 i15 j0 j1 j2
  refine v_run 1 (pc' := 1) (ls' := [some (.ref (ad 0)), none, none]) (st' := [.ref (ad 0)]) rfl ?_
  refine v_callV (My := mX8_lacksSafe) (As := []) (rest := []) (mc := 0) (ms := 0) rfl caX8_lacksSafe rfl rfl rfl hc.2.1 rfl rfl (k_lacksSafe G _ hA hc hok) rfl rfl (Nat.le_of_ble_eq_true rfl) (by omega) ?_
  rintro _ _ ⟨rfl, rfl⟩
  refine v_run 0 (pc' := 4) (ls' := [some (.ref (ad 0)), none, none]) (st' := [.int (zb (decide (σ 1 5 0 = 0)))]) rfl ?_
  refine v_if_eq rfl (fun c4 => ?_) (fun c4 => ?_)
  · rw [zb_0, decide_eq_false_iff_not] at c4
    refine v_run 4 (pc' := 17) (ls' := [some (.ref (ad 0)), some (.int (zI 0)), some (.int (zI 0))]) (st' := []) rfl ?_
    have lp : ∀ (n s : Nat), s ≤ σ 1 7 0 → σ 1 7 0 + 1 ≤ s + n → ssV G mX8_ring 2 0 0 (cR ad pl (sTr σ (aRing σ).2) h (.int (zI (aRing σ).1))) 17 [some (.ref (ad 0)), some (.int (zI ↑(rgA σ s))), some (.int (zI ↑s))] [] h := by
      intro n
      induction n with
      | zero => intro s hs1 hs2; exact absurd hs2 (by omega)
      | succ n ih =>
        intro s hs1 hs2
        have q9 := rgA_le σ s
        have q8 := cRO_lt (F := σ 1 10) (ac := σ 1 7 0) (a := s) (st := 0) a10
        refine v_run 2 (pc' := 19) (ls' := [some (.ref (ad 0)), some (.int (zI ↑(rgA σ s))), some (.int (zI ↑s))]) (st' := [.ref (ad 0), .int (zI ↑s)]) rfl ?_
        refine v_get rfl hc.2.1 rfl ?_
        refine v_run 0 (pc' := 22) (ls' := [some (.ref (ad 0)), some (.int (zI ↑(rgA σ s))), some (.int (zI ↑s))]) (st' := [.ref (ad pl), .int (zI ↑s)]) rfl ?_
        refine v_get rfl hc.2.2.1.1 rfl ?_
        refine v_run 0 (pc' := 25) (ls' := [some (.ref (ad 0)), some (.int (zI ↑(rgA σ s))), some (.int (zI ↑s))]) (st' := [.int (zI ↑(σ 1 7 0)), .int (zI ↑s)]) rfl ?_
        refine v_icmp_ge rfl (fun c25 => ?_) (fun c25 => ?_)
        · simp (disch := omega) only [zI_lt, zI_le, zI_eq, zI_lt0, zI_le0, zI_0lt, zI_0le, zI_eq0] at c25
          refine v_run 2 (pc' := 52) (ls' := [some (.ref (ad 0)), some (.int (zI ↑(rgA σ s))), some (.int (zI ↑s))]) (st' := [.int (zI ↑(rgA σ s)), .ref (ad 0)]) rfl ?_
          refine v_callV (My := mX8_grant) (As := [.int (zI ↑(rgA σ s))]) (rest := []) (mc := 0) (ms := 0) rfl caX8_grant rfl rfl rfl hc.2.1 rfl rfl (k_grant G _ ((zI ↑(rgA σ s))) hA hc hok) rfl rfl (Nat.le_of_ble_eq_true rfl) (by omega) ?_
          rintro _ h9 ⟨rfl, hc9, hf9⟩
          refine v_run 0 (pc' := 55) (ls' := [some (.ref (ad 0)), some (.int (zI ↑(rgA σ s))), some (.int (zI ↑s))]) (st' := [.int ((zI ↑(rgA σ s)))]) rfl ?_
          rw [show aRing σ = (↑(rgA σ s), 0) from by rw [aRing, if_neg c4, show s = σ 1 7 0 by omega]]
          exact v_iret rfl rfl rfl ⟨rfl, hc9, hf9⟩
        · simp (disch := omega) only [zI_lt, zI_le, zI_eq, zI_lt0, zI_le0, zI_0lt, zI_0le, zI_eq0] at c25
          refine v_run 2 (pc' := 30) (ls' := [some (.ref (ad 0)), some (.int (zI ↑(rgA σ s))), some (.int (zI ↑s))]) (st' := [.ref (ad 0), .int (zI ↑(rgA σ s))]) rfl ?_
          refine v_get rfl hc.2.1 rfl ?_
          refine v_run 2 (pc' := 35) (ls' := [some (.ref (ad 0)), some (.int (zI ↑(rgA σ s))), some (.int (zI ↑s))]) (st' := [.int (zI 0), .int (zI ↑s), .ref (ad pl), .int (zI ↑(rgA σ s))]) rfl ?_
          refine v_callV (My := mX4_restsOn) (As := [.int (zI ↑s), .int (zI 0)]) (rest := [.int (zI ↑(rgA σ s))]) (mc := 0) (ms := 0) rfl caX4_restsOn rfl rfl rfl hc.2.2.1.1 rfl rfl (k_restsOn G _ s 0 hc.2.2.1 hok.1 (by omega) (by omega)) rfl rfl (Nat.le_of_ble_eq_true rfl) (by omega) ?_
          rintro _ _ ⟨rfl, rfl⟩
          refine v_run 0 (pc' := 38) (ls' := [some (.ref (ad 0)), some (.int (zI ↑(rgA σ s))), some (.int (zI ↑s))]) (st' := [.int (zI ↑(cRO (σ 1 10) (σ 1 7 0) s 0)), .int (zI ↑(rgA σ s))]) rfl ?_
          refine v_run 8 (pc' := 17) (ls' := [some (.ref (ad 0)), some (.int ((zI ↑(rgA σ s)) ||| (((zI ↑(cRO (σ 1 10) (σ 1 7 0) s 0)) >>> ((zI ↑s) &&& 31)) &&& (zI 1)))), some (.int ((zI ↑s) + zI 1))]) (st' := []) rfl ?_
          rw [zI_bit (by omega) (by omega), zI_lor (by omega) (by omega), zI_s1]
          exact ih (s + 1) (by omega) (by omega)
    exact lp (σ 1 7 0 + 1) 0 (by omega) (by omega)
  · rw [zb_0, Bool.not_eq_false, decide_eq_true_eq] at c4
    refine v_run 2 (pc' := 9) (ls' := [some (.ref (ad 0)), none, none]) (st' := [.int (zI 1), .ref (ad 0)]) rfl ?_
    refine v_callV (My := mX8_refuse) (As := [.int (zI 1)]) (rest := []) (mc := 0) (ms := 0) rfl caX8_refuse rfl rfl rfl hc.2.1 rfl rfl (k_refuse G _ 1 hA hc hok) rfl rfl (Nat.le_of_ble_eq_true rfl) (by omega) ?_
    rintro _ h9 ⟨rfl, hc9, hf9⟩
    refine v_run 0 (pc' := 12) (ls' := [some (.ref (ad 0)), none, none]) (st' := [.int (zI (-1))]) rfl ?_
    rw [show aRing σ = (-1, 1) from if_pos c4]
    exact v_iret rfl rfl rfl ⟨rfl, hc9, hf9⟩

set_option maxRecDepth 100000 in
set_option maxHeartbeats 400000 in
theorem k_thunders (G : ssG) (h : ssH) {ad : Nat → Nat} {pl : Nat} {σ : sT} (s n : Int) (hA : ∀ k l, ad k = ad l → k = l) (hc : CW0 h ad pl σ) (hok : sOk σ) (hs : -2147483648 ≤ s ∧ s < 2147483648) (hn : -2147483648 ≤ n ∧ n < 2147483648) : ssC G mX8_thunders 2 0 0 [.ref (ad 0), .int (zI s), .int (zI n)] h (cR ad pl (sTr σ (aThunders σ s n).2) h (.int (zI (aThunders σ s n).1))) := by
  refine c_of_v okX8_thunders (by decide +kernel) (ls := [some (.ref (ad 0)), some (.int (zI s)), some (.int (zI n))]) rfl (Nat.le_of_ble_eq_true rfl) ?_
  obtain ⟨i0, i1, i2, i3, i5, i7, a4, a6, a8, a9, a10, i11, i12, i14, i15⟩ := id hok.1
  obtain ⟨j0, j1, j2, b3, b4, b5, b6⟩ := id (hok.2.2 3 (by decide))
  have i13 := hok.2.1
  have hpl := hc.1
  simp only [fI] at i0 i1 i2 i3 i5 i7 i11 i12 i14 i15 j0 j1 j2
  refine v_run 1 (pc' := 1) (ls' := [some (.ref (ad 0)), some (.int (zI s)), some (.int (zI n))]) (st' := [.ref (ad 0)]) rfl ?_
  refine v_callV (My := mX8_lacksSafe) (As := []) (rest := []) (mc := 0) (ms := 0) rfl caX8_lacksSafe rfl rfl rfl hc.2.1 rfl rfl (k_lacksSafe G _ hA hc hok) rfl rfl (Nat.le_of_ble_eq_true rfl) (by omega) ?_
  rintro _ _ ⟨rfl, rfl⟩
  refine v_run 0 (pc' := 4) (ls' := [some (.ref (ad 0)), some (.int (zI s)), some (.int (zI n))]) (st' := [.int (zb (decide (σ 1 5 0 = 0)))]) rfl ?_
  refine v_if_eq rfl (fun c4 => ?_) (fun c4 => ?_)
  · rw [zb_0, decide_eq_false_iff_not] at c4
    refine v_run 2 (pc' := 17) (ls' := [some (.ref (ad 0)), some (.int (zI s)), some (.int (zI n))]) (st' := [.int (zI 65536), .int (zI s)]) rfl ?_
    refine v_callS (My := mX8_outside) (As := [.int (zI s), .int (zI 65536)]) (rest := []) (mc := 0) (ms := 0) rfl caX8_outside rfl rfl (k_outside G _ s 65536 hs ⟨by omega, by omega⟩) rfl rfl (Nat.le_of_ble_eq_true rfl) (by omega) ?_
    rintro _ _ ⟨rfl, rfl⟩
    refine v_run 0 (pc' := 20) (ls' := [some (.ref (ad 0)), some (.int (zI s)), some (.int (zI n))]) (st' := [.int (zb (decide (s < 0 ∨ 65536 < s)))]) rfl ?_
    refine v_if_ne rfl (fun c20 => ?_) (fun c20 => ?_)
    · rw [zb_0, Bool.not_eq_false, decide_eq_true_eq] at c20
      refine v_run 2 (pc' := 34) (ls' := [some (.ref (ad 0)), some (.int (zI s)), some (.int (zI n))]) (st' := [.int (zI 2), .ref (ad 0)]) rfl ?_
      refine v_callV (My := mX8_refuse) (As := [.int (zI 2)]) (rest := []) (mc := 0) (ms := 0) rfl caX8_refuse rfl rfl rfl hc.2.1 rfl rfl (k_refuse G _ 2 hA hc hok) rfl rfl (Nat.le_of_ble_eq_true rfl) (by omega) ?_
      rintro _ h9 ⟨rfl, hc9, hf9⟩
      refine v_run 0 (pc' := 37) (ls' := [some (.ref (ad 0)), some (.int (zI s)), some (.int (zI n))]) (st' := [.int (zI (-1))]) rfl ?_
      rw [show aThunders σ s n = (-1, 2) from (by rw [aThunders, if_neg c4, if_pos (by omega)])]
      exact v_iret rfl rfl rfl ⟨rfl, hc9, hf9⟩
    · rw [zb_0, decide_eq_false_iff_not] at c20
      refine v_run 2 (pc' := 26) (ls' := [some (.ref (ad 0)), some (.int (zI s)), some (.int (zI n))]) (st' := [.int (zI 99), .int (zI n)]) rfl ?_
      refine v_callS (My := mX8_outside) (As := [.int (zI n), .int (zI 99)]) (rest := []) (mc := 0) (ms := 0) rfl caX8_outside rfl rfl (k_outside G _ n 99 hn ⟨by omega, by omega⟩) rfl rfl (Nat.le_of_ble_eq_true rfl) (by omega) ?_
      rintro _ _ ⟨rfl, rfl⟩
      refine v_run 0 (pc' := 29) (ls' := [some (.ref (ad 0)), some (.int (zI s)), some (.int (zI n))]) (st' := [.int (zb (decide (n < 0 ∨ 99 < n)))]) rfl ?_
      refine v_if_eq rfl (fun c29 => ?_) (fun c29 => ?_)
      · rw [zb_0, decide_eq_false_iff_not] at c29
        obtain ⟨k, rfl⟩ : ∃ z : Nat, s = ↑z := ⟨s.toNat, by omega⟩
        obtain ⟨m, rfl⟩ : ∃ z : Nat, n = ↑z := ⟨n.toNat, by omega⟩
        refine v_run 2 (pc' := 40) (ls' := [some (.ref (ad 0)), some (.int (zI ↑k)), some (.int (zI ↑m))]) (st' := [.ref (ad 0), .ref (ad 0)]) rfl ?_
        refine v_get rfl hc.2.1 rfl ?_
        refine v_run 2 (pc' := 45) (ls' := [some (.ref (ad 0)), some (.int (zI ↑k)), some (.int (zI ↑m))]) (st' := [.int (zI ↑m), .int (zI ↑k), .ref (ad pl), .ref (ad 0)]) rfl ?_
        refine v_callV (My := mX4_thundersDrawn) (As := [.int (zI ↑k), .int (zI ↑m)]) (rest := [.ref (ad 0)]) (mc := 0) (ms := 0) rfl caX4_thundersDrawn rfl rfl rfl hc.2.2.1.1 rfl rfl (k_thundersDrawn G _ k m hc.2.2.1 hok.1 (by omega) (by omega)) rfl rfl (Nat.le_of_ble_eq_true rfl) (by omega) ?_
        rintro _ _ ⟨rfl, rfl⟩
        refine v_run 0 (pc' := 48) (ls' := [some (.ref (ad 0)), some (.int (zI ↑k)), some (.int (zI ↑m))]) (st' := [.int (zI ↑(sTh σ k m)), .ref (ad 0)]) rfl ?_
        refine v_callV (My := mX8_grant) (As := [.int (zI ↑(sTh σ k m))]) (rest := []) (mc := 0) (ms := 0) rfl caX8_grant rfl rfl rfl hc.2.1 rfl rfl (k_grant G _ ((zI ↑(sTh σ k m))) hA hc hok) rfl rfl (Nat.le_of_ble_eq_true rfl) (by omega) ?_
        rintro _ h9 ⟨rfl, hc9, hf9⟩
        refine v_run 0 (pc' := 51) (ls' := [some (.ref (ad 0)), some (.int (zI ↑k)), some (.int (zI ↑m))]) (st' := [.int ((zI ↑(sTh σ k m)))]) rfl ?_
        rw [show aThunders σ ↑k ↑m = (↑(sTh σ k m), 0) from by rw [aThunders, if_neg c4, if_neg (by omega)]; rfl]
        exact v_iret rfl rfl rfl ⟨rfl, hc9, hf9⟩
      · rw [zb_0, Bool.not_eq_false, decide_eq_true_eq] at c29
        refine v_run 2 (pc' := 34) (ls' := [some (.ref (ad 0)), some (.int (zI s)), some (.int (zI n))]) (st' := [.int (zI 2), .ref (ad 0)]) rfl ?_
        refine v_callV (My := mX8_refuse) (As := [.int (zI 2)]) (rest := []) (mc := 0) (ms := 0) rfl caX8_refuse rfl rfl rfl hc.2.1 rfl rfl (k_refuse G _ 2 hA hc hok) rfl rfl (Nat.le_of_ble_eq_true rfl) (by omega) ?_
        rintro _ h9 ⟨rfl, hc9, hf9⟩
        refine v_run 0 (pc' := 37) (ls' := [some (.ref (ad 0)), some (.int (zI s)), some (.int (zI n))]) (st' := [.int (zI (-1))]) rfl ?_
        rw [show aThunders σ s n = (-1, 2) from (by rw [aThunders, if_neg c4, if_pos (by omega)])]
        exact v_iret rfl rfl rfl ⟨rfl, hc9, hf9⟩
  · rw [zb_0, Bool.not_eq_false, decide_eq_true_eq] at c4
    refine v_run 2 (pc' := 9) (ls' := [some (.ref (ad 0)), some (.int (zI s)), some (.int (zI n))]) (st' := [.int (zI 1), .ref (ad 0)]) rfl ?_
    refine v_callV (My := mX8_refuse) (As := [.int (zI 1)]) (rest := []) (mc := 0) (ms := 0) rfl caX8_refuse rfl rfl rfl hc.2.1 rfl rfl (k_refuse G _ 1 hA hc hok) rfl rfl (Nat.le_of_ble_eq_true rfl) (by omega) ?_
    rintro _ h9 ⟨rfl, hc9, hf9⟩
    refine v_run 0 (pc' := 12) (ls' := [some (.ref (ad 0)), some (.int (zI s)), some (.int (zI n))]) (st' := [.int (zI (-1))]) rfl ?_
    rw [show aThunders σ s n = (-1, 1) from if_pos c4]
    exact v_iret rfl rfl rfl ⟨rfl, hc9, hf9⟩

set_option maxRecDepth 100000 in
set_option maxHeartbeats 400000 in
theorem k_days (G : ssG) (h : ssH) {ad : Nat → Nat} {pl : Nat} {σ : sT} (s n : Int) (hA : ∀ k l, ad k = ad l → k = l) (hc : CW0 h ad pl σ) (hok : sOk σ) (hs : -2147483648 ≤ s ∧ s < 2147483648) (hn : -2147483648 ≤ n ∧ n < 2147483648) : ssC G mX8_days 3 0 0 [.ref (ad 0), .int (zI s), .int (zI n)] h (cR ad pl (sTr σ (aDays σ s n).2) h (.int (zI (aDays σ s n).1))) := by
  refine c_of_v okX8_days (by decide +kernel) (ls := [some (.ref (ad 0)), some (.int (zI s)), some (.int (zI n))]) rfl (Nat.le_of_ble_eq_true rfl) ?_
  obtain ⟨i0, i1, i2, i3, i5, i7, a4, a6, a8, a9, a10, i11, i12, i14, i15⟩ := id hok.1
  obtain ⟨j0, j1, j2, b3, b4, b5, b6⟩ := id (hok.2.2 3 (by decide))
  have i13 := hok.2.1
  have hpl := hc.1
  simp only [fI] at i0 i1 i2 i3 i5 i7 i11 i12 i14 i15 j0 j1 j2
  refine v_run 1 (pc' := 1) (ls' := [some (.ref (ad 0)), some (.int (zI s)), some (.int (zI n))]) (st' := [.ref (ad 0)]) rfl ?_
  refine v_callV (My := mX8_lacksSafe) (As := []) (rest := []) (mc := 0) (ms := 0) rfl caX8_lacksSafe rfl rfl rfl hc.2.1 rfl rfl (k_lacksSafe G _ hA hc hok) rfl rfl (Nat.le_of_ble_eq_true rfl) (by omega) ?_
  rintro _ _ ⟨rfl, rfl⟩
  refine v_run 0 (pc' := 4) (ls' := [some (.ref (ad 0)), some (.int (zI s)), some (.int (zI n))]) (st' := [.int (zb (decide (σ 1 5 0 = 0)))]) rfl ?_
  refine v_if_eq rfl (fun c4 => ?_) (fun c4 => ?_)
  · rw [zb_0, decide_eq_false_iff_not] at c4
    refine v_run 2 (pc' := 17) (ls' := [some (.ref (ad 0)), some (.int (zI s)), some (.int (zI n))]) (st' := [.int (zI 65536), .int (zI s)]) rfl ?_
    refine v_callS (My := mX8_outside) (As := [.int (zI s), .int (zI 65536)]) (rest := []) (mc := 0) (ms := 0) rfl caX8_outside rfl rfl (k_outside G _ s 65536 hs ⟨by omega, by omega⟩) rfl rfl (Nat.le_of_ble_eq_true rfl) (by omega) ?_
    rintro _ _ ⟨rfl, rfl⟩
    refine v_run 0 (pc' := 20) (ls' := [some (.ref (ad 0)), some (.int (zI s)), some (.int (zI n))]) (st' := [.int (zb (decide (s < 0 ∨ 65536 < s)))]) rfl ?_
    refine v_if_ne rfl (fun c20 => ?_) (fun c20 => ?_)
    · rw [zb_0, Bool.not_eq_false, decide_eq_true_eq] at c20
      refine v_run 2 (pc' := 34) (ls' := [some (.ref (ad 0)), some (.int (zI s)), some (.int (zI n))]) (st' := [.int (zI 2), .ref (ad 0)]) rfl ?_
      refine v_callV (My := mX8_refuse) (As := [.int (zI 2)]) (rest := []) (mc := 0) (ms := 0) rfl caX8_refuse rfl rfl rfl hc.2.1 rfl rfl (k_refuse G _ 2 hA hc hok) rfl rfl (Nat.le_of_ble_eq_true rfl) (by omega) ?_
      rintro _ h9 ⟨rfl, hc9, hf9⟩
      refine v_run 0 (pc' := 37) (ls' := [some (.ref (ad 0)), some (.int (zI s)), some (.int (zI n))]) (st' := [.int (zI (-1))]) rfl ?_
      rw [show aDays σ s n = (-1, 2) from (by rw [aDays, if_neg c4, if_pos (by omega)])]
      exact v_iret rfl rfl rfl ⟨rfl, hc9, hf9⟩
    · rw [zb_0, decide_eq_false_iff_not] at c20
      refine v_run 2 (pc' := 26) (ls' := [some (.ref (ad 0)), some (.int (zI s)), some (.int (zI n))]) (st' := [.int (zI 99), .int (zI n)]) rfl ?_
      refine v_callS (My := mX8_outside) (As := [.int (zI n), .int (zI 99)]) (rest := []) (mc := 0) (ms := 0) rfl caX8_outside rfl rfl (k_outside G _ n 99 hn ⟨by omega, by omega⟩) rfl rfl (Nat.le_of_ble_eq_true rfl) (by omega) ?_
      rintro _ _ ⟨rfl, rfl⟩
      refine v_run 0 (pc' := 29) (ls' := [some (.ref (ad 0)), some (.int (zI s)), some (.int (zI n))]) (st' := [.int (zb (decide (n < 0 ∨ 99 < n)))]) rfl ?_
      refine v_if_eq rfl (fun c29 => ?_) (fun c29 => ?_)
      · rw [zb_0, decide_eq_false_iff_not] at c29
        obtain ⟨k, rfl⟩ : ∃ z : Nat, s = ↑z := ⟨s.toNat, by omega⟩
        obtain ⟨m, rfl⟩ : ∃ z : Nat, n = ↑z := ⟨n.toNat, by omega⟩
        refine v_run 2 (pc' := 40) (ls' := [some (.ref (ad 0)), some (.int (zI ↑k)), some (.int (zI ↑m))]) (st' := [.ref (ad 0), .ref (ad 0)]) rfl ?_
        refine v_get rfl hc.2.1 rfl ?_
        refine v_run 1 (pc' := 44) (ls' := [some (.ref (ad 0)), some (.int (zI ↑k)), some (.int (zI ↑m))]) (st' := [.ref (ad 0), .ref (ad pl), .ref (ad 0)]) rfl ?_
        refine v_get rfl hc.2.1 rfl ?_
        refine v_run 2 (pc' := 49) (ls' := [some (.ref (ad 0)), some (.int (zI ↑k)), some (.int (zI ↑m))]) (st' := [.ref (ad 0), .int (zI ↑m), .ref (ad 33), .ref (ad pl), .ref (ad 0)]) rfl ?_
        refine v_get rfl hc.2.1 rfl ?_
        refine v_run 2 (pc' := 54) (ls' := [some (.ref (ad 0)), some (.int (zI ↑k)), some (.int (zI ↑m))]) (st' := [.int (zI ↑m), .int (zI ↑k), .ref (ad pl), .int (zI ↑m), .ref (ad 33), .ref (ad pl), .ref (ad 0)]) rfl ?_
        refine v_callV (My := mX4_thundersDrawn) (As := [.int (zI ↑k), .int (zI ↑m)]) (rest := [.int (zI ↑m), .ref (ad 33), .ref (ad pl), .ref (ad 0)]) (mc := 0) (ms := 0) rfl caX4_thundersDrawn rfl rfl rfl hc.2.2.1.1 rfl rfl (k_thundersDrawn G _ k m hc.2.2.1 hok.1 (by omega) (by omega)) rfl rfl (Nat.le_of_ble_eq_true rfl) (by omega) ?_
        rintro _ _ ⟨rfl, rfl⟩
        refine v_run 0 (pc' := 57) (ls' := [some (.ref (ad 0)), some (.int (zI ↑k)), some (.int (zI ↑m))]) (st' := [.int (zI ↑(sTh σ k m)), .int (zI ↑m), .ref (ad 33), .ref (ad pl), .ref (ad 0)]) rfl ?_
        have q1 := sTh_le σ k m
        refine v_callV (My := mX4_goodAfter) (As := [.ref (ad 33), .int (zI ↑m), .int (zI ↑(sTh σ k m))]) (rest := [.ref (ad 0)]) (mc := 0) (ms := 0) rfl caX4_goodAfter rfl rfl rfl hc.2.2.1.1 rfl rfl (k_goodAfter G _ m (sTh σ k m) hc.2.2.1 hok.1 hc.2.2.2.2.1 (hok.2.2 3 (by decide)) (by omega) (by omega)) rfl rfl (Nat.le_of_ble_eq_true rfl) (by omega) ?_
        rintro _ _ ⟨rfl, rfl⟩
        refine v_run 0 (pc' := 60) (ls' := [some (.ref (ad 0)), some (.int (zI ↑k)), some (.int (zI ↑m))]) (st' := [.int (zI ↑(sAft σ m (sTh σ k m))), .ref (ad 0)]) rfl ?_
        refine v_callV (My := mX8_grant) (As := [.int (zI ↑(sAft σ m (sTh σ k m)))]) (rest := []) (mc := 0) (ms := 0) rfl caX8_grant rfl rfl rfl hc.2.1 rfl rfl (k_grant G _ ((zI ↑(sAft σ m (sTh σ k m)))) hA hc hok) rfl rfl (Nat.le_of_ble_eq_true rfl) (by omega) ?_
        rintro _ h9 ⟨rfl, hc9, hf9⟩
        refine v_run 0 (pc' := 63) (ls' := [some (.ref (ad 0)), some (.int (zI ↑k)), some (.int (zI ↑m))]) (st' := [.int ((zI ↑(sAft σ m (sTh σ k m))))]) rfl ?_
        rw [show aDays σ ↑k ↑m = (↑(sAft σ m (sTh σ k m)), 0) from by rw [aDays, if_neg c4, if_neg (by omega)]; rfl]
        exact v_iret rfl rfl rfl ⟨rfl, hc9, hf9⟩
      · rw [zb_0, Bool.not_eq_false, decide_eq_true_eq] at c29
        refine v_run 2 (pc' := 34) (ls' := [some (.ref (ad 0)), some (.int (zI s)), some (.int (zI n))]) (st' := [.int (zI 2), .ref (ad 0)]) rfl ?_
        refine v_callV (My := mX8_refuse) (As := [.int (zI 2)]) (rest := []) (mc := 0) (ms := 0) rfl caX8_refuse rfl rfl rfl hc.2.1 rfl rfl (k_refuse G _ 2 hA hc hok) rfl rfl (Nat.le_of_ble_eq_true rfl) (by omega) ?_
        rintro _ h9 ⟨rfl, hc9, hf9⟩
        refine v_run 0 (pc' := 37) (ls' := [some (.ref (ad 0)), some (.int (zI s)), some (.int (zI n))]) (st' := [.int (zI (-1))]) rfl ?_
        rw [show aDays σ s n = (-1, 2) from (by rw [aDays, if_neg c4, if_pos (by omega)])]
        exact v_iret rfl rfl rfl ⟨rfl, hc9, hf9⟩
  · rw [zb_0, Bool.not_eq_false, decide_eq_true_eq] at c4
    refine v_run 2 (pc' := 9) (ls' := [some (.ref (ad 0)), some (.int (zI s)), some (.int (zI n))]) (st' := [.int (zI 1), .ref (ad 0)]) rfl ?_
    refine v_callV (My := mX8_refuse) (As := [.int (zI 1)]) (rest := []) (mc := 0) (ms := 0) rfl caX8_refuse rfl rfl rfl hc.2.1 rfl rfl (k_refuse G _ 1 hA hc hok) rfl rfl (Nat.le_of_ble_eq_true rfl) (by omega) ?_
    rintro _ h9 ⟨rfl, hc9, hf9⟩
    refine v_run 0 (pc' := 12) (ls' := [some (.ref (ad 0)), some (.int (zI s)), some (.int (zI n))]) (st' := [.int (zI (-1))]) rfl ?_
    rw [show aDays σ s n = (-1, 1) from if_pos c4]
    exact v_iret rfl rfl rfl ⟨rfl, hc9, hf9⟩

