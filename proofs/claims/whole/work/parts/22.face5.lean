def aSenN (σ : sT) (k m : Nat) : Int × Nat := (match m with | 0 => ↑(σ 3 3 k) | 1 => ↑(σ 3 4 k) | 2 => ↑(σ 3 5 k) | 3 => ↑(σ 1 6 k) | 4 => ↑(setN (fun s => bitN (σ 1 9 s) k) (σ 1 7 0)) | _ => ↑(min (σ 3 5 k) (cLoss (σ 1 1 0) (σ 1 4 (σ 3 4 k)) (σ 3 3 k) (σ 3 0 0) 1)), 0)
def aSenator (σ : sT) (s n : Int) : Int × Nat := if (s < 0 ∨ ↑(σ 1 5 0) ≤ s) ∨ (n < 0 ∨ 5 < n) then (-1, 1) else aSenN σ s.toNat n.toNat
def aActN (σ : sT) (k m : Nat) : Int × Nat := (match m with | 0 => ↑(σ 1 8 k) | 1 => ↑(σ 1 9 k) | 2 => ↑(σ 1 10 k) | _ => ↑(sGoing σ / 2 ^ k % 2), 0)
def aAct (σ : sT) (s n : Int) : Int × Nat := if (s < 0 ∨ ↑(σ 1 7 0) ≤ s) ∨ (n < 0 ∨ 3 < n) then (-1, 1) else aActN σ s.toNat n.toNat
def aWhere (σ : sT) : Int := if σ 0 6 0 = 4 then ↑(σ 0 8 0) else -1
def sSalt (σ : sT) (s : Nat) : Nat := cQD (fun j => if j = s then cGood (σ 1 1 0) (σ 1 4 (σ 3 4 s)) 1 (σ 3 0 0) (σ 3 5 s) else sG σ j) (σ 1 5 0) (σ 1 0 0) (σ 1 5 0)
def sSwap (σ : sT) (s t : Nat) : Nat := cQD (fun j => if j = t then cGood (σ 1 1 0) (σ 1 4 (σ 3 4 s)) (σ 3 3 t) (σ 3 0 0) (σ 3 5 t) else if j = s then cGood (σ 1 1 0) (σ 1 4 (σ 3 4 t)) (σ 3 3 s) (σ 3 0 0) (σ 3 5 s) else sG σ j) (σ 1 5 0) (σ 1 0 0) (σ 1 5 0)
set_option maxRecDepth 100000 in
set_option maxHeartbeats 400000 in
theorem k_senator (G : ssG) (h : ssH) {ad : Nat → Nat} {pl : Nat} {σ : sT} (s n : Int) (hA : ∀ k l, ad k = ad l → k = l) (hc : CW0 h ad pl σ) (hok : sOk σ) (hs : -2147483648 ≤ s ∧ s < 2147483648) (hn : -2147483648 ≤ n ∧ n < 2147483648) : ssC G mX8_senator 4 0 0 [.ref (ad 0), .int (zI s), .int (zI n)] h (cR ad pl (sTr σ (aSenator σ s n).2) h (.int (zI (aSenator σ s n).1))) := by
  refine c_of_v okX8_senator (by decide +kernel) (ls := [some (.ref (ad 0)), some (.int (zI s)), some (.int (zI n))]) rfl (Nat.le_of_ble_eq_true rfl) ?_
  obtain ⟨i0, i1, i2, i3, i5, i7, a4, a6, a8, a9, a10, i11, i12, i14, i15⟩ := id hok.1
  obtain ⟨j0, j1, j2, b3, b4, b5, b6⟩ := id (hok.2.2 3 (by decide))
  have i13 := hok.2.1
  have hpl := hc.1
  simp only [fI] at i0 i1 i2 i3 i5 i7 i11 i12 i14 i15 j0 j1 j2
  refine v_run 2 (pc' := 2) (ls' := [some (.ref (ad 0)), some (.int (zI s)), some (.int (zI n))]) (st' := [.int (zI s), .ref (ad 0)]) rfl ?_
  refine v_callV (My := mX8_lacksSenator) (As := [.int (zI s)]) (rest := []) (mc := 0) (ms := 0) rfl caX8_lacksSenator rfl rfl rfl hc.2.1 rfl rfl (k_lacksSenator G _ s hA hc hok hs) rfl rfl (Nat.le_of_ble_eq_true rfl) (by omega) ?_
  rintro _ _ ⟨rfl, rfl⟩
  refine v_run 0 (pc' := 5) (ls' := [some (.ref (ad 0)), some (.int (zI s)), some (.int (zI n))]) (st' := [.int (zb (decide (s < 0 ∨ ↑(σ 1 5 0) ≤ s)))]) rfl ?_
  refine v_if_ne rfl (fun c5 => ?_) (fun c5 => ?_)
  · rw [zb_0, Bool.not_eq_false, decide_eq_true_eq] at c5
    refine v_run 2 (pc' := 18) (ls' := [some (.ref (ad 0)), some (.int (zI s)), some (.int (zI n))]) (st' := [.int (zI 1), .ref (ad 0)]) rfl ?_
    refine v_callV (My := mX8_refuse) (As := [.int (zI 1)]) (rest := []) (mc := 0) (ms := 0) rfl caX8_refuse rfl rfl rfl hc.2.1 rfl rfl (k_refuse G _ 1 hA hc hok) rfl rfl (Nat.le_of_ble_eq_true rfl) (by omega) ?_
    rintro _ h9 ⟨rfl, hc9, hf9⟩
    refine v_run 0 (pc' := 21) (ls' := [some (.ref (ad 0)), some (.int (zI s)), some (.int (zI n))]) (st' := [.int (zI (-1))]) rfl ?_
    rw [show aSenator σ s n = (-1, 1) from if_pos (by omega)]
    exact v_iret rfl rfl rfl ⟨rfl, hc9, hf9⟩
  · rw [zb_0, decide_eq_false_iff_not] at c5
    refine v_run 2 (pc' := 10) (ls' := [some (.ref (ad 0)), some (.int (zI s)), some (.int (zI n))]) (st' := [.int (zI 5), .int (zI n)]) rfl ?_
    refine v_callS (My := mX8_outside) (As := [.int (zI n), .int (zI 5)]) (rest := []) (mc := 0) (ms := 0) rfl caX8_outside rfl rfl (k_outside G _ n 5 hn ⟨by omega, by omega⟩) rfl rfl (Nat.le_of_ble_eq_true rfl) (by omega) ?_
    rintro _ _ ⟨rfl, rfl⟩
    refine v_run 0 (pc' := 13) (ls' := [some (.ref (ad 0)), some (.int (zI s)), some (.int (zI n))]) (st' := [.int (zb (decide (n < 0 ∨ 5 < n)))]) rfl ?_
    refine v_if_eq rfl (fun c13 => ?_) (fun c13 => ?_)
    · rw [zb_0, decide_eq_false_iff_not] at c13
      obtain ⟨k, rfl⟩ : ∃ z : Nat, s = ↑z := ⟨s.toNat, by omega⟩
      obtain ⟨m, rfl⟩ : ∃ z : Nat, n = ↑z := ⟨n.toNat, by omega⟩
      have hA0 : ∀ x : Int × Nat, aSenN σ k m = x → aSenator σ ↑k ↑m = x := fun x hx => by rw [aSenator, if_neg (by omega)]; exact hx
      have q3 := b3 k
      have q4 := b4 k
      have q5 := b5 k
      refine v_run 1 (pc' := 23) (ls' := [some (.ref (ad 0)), some (.int (zI ↑k)), some (.int (zI ↑m))]) (st' := [.int (zI ↑m)]) rfl ?_
      rcases (show m = 0 ∨ m = 1 ∨ m = 2 ∨ m = 3 ∨ m = 4 ∨ m = 5 by omega) with rfl | rfl | rfl | rfl | rfl | rfl
      · refine v_tabIn (off := 33) (t := 56) rfl (by decide +kernel) (by decide +kernel) (by decide +kernel) (by decide) ?_
        refine v_run 2 (pc' := 58) (ls' := [some (.ref (ad 0)), some (.int (zI ↑k)), some (.int (zI ↑(0 : Nat)))]) (st' := [.ref (ad 0), .ref (ad 0)]) rfl ?_
        refine v_get rfl hc.2.1 rfl ?_
        refine v_run 0 (pc' := 61) (ls' := [some (.ref (ad 0)), some (.int (zI ↑k)), some (.int (zI ↑(0 : Nat)))]) (st' := [.ref (ad 33), .ref (ad 0)]) rfl ?_
        refine v_get rfl hc.2.2.2.2.1.1 rfl ?_
        refine v_run 1 (pc' := 65) (ls' := [some (.ref (ad 0)), some (.int (zI ↑k)), some (.int (zI ↑(0 : Nat)))]) (st' := [.int (zI ↑k), .ref (Rm ad 33 3), .ref (ad 0)]) rfl ?_
        refine v_iaload' rfl hc.2.2.2.2.1.2.1 (i := k) rfl (by omega) ?_
        refine v_callV (My := mX8_grant) (As := [.int (zI ↑(σ 3 3 k))]) (rest := []) (mc := 0) (ms := 0) rfl caX8_grant rfl rfl rfl hc.2.1 rfl rfl (k_grant G _ ((zI ↑(σ 3 3 k))) hA hc hok) rfl rfl (Nat.le_of_ble_eq_true rfl) (by omega) ?_
        rintro _ h9 ⟨rfl, hc9, hf9⟩
        refine v_run 0 (pc' := 69) (ls' := [some (.ref (ad 0)), some (.int (zI ↑k)), some (.int (zI ↑(0 : Nat)))]) (st' := [.int ((zI ↑(σ 3 3 k)))]) rfl ?_
        rw [show aSenator σ ↑k ↑(0 : Nat) = (↑(σ 3 3 k), 0) from hA0 _ rfl]
        exact v_iret rfl rfl rfl ⟨rfl, hc9, hf9⟩
      · refine v_tabIn (off := 47) (t := 70) rfl (by decide +kernel) (by decide +kernel) (by decide +kernel) (by decide) ?_
        refine v_run 2 (pc' := 72) (ls' := [some (.ref (ad 0)), some (.int (zI ↑k)), some (.int (zI ↑(1 : Nat)))]) (st' := [.ref (ad 0), .ref (ad 0)]) rfl ?_
        refine v_get rfl hc.2.1 rfl ?_
        refine v_run 0 (pc' := 75) (ls' := [some (.ref (ad 0)), some (.int (zI ↑k)), some (.int (zI ↑(1 : Nat)))]) (st' := [.ref (ad 33), .ref (ad 0)]) rfl ?_
        refine v_get rfl hc.2.2.2.2.1.1 rfl ?_
        refine v_run 1 (pc' := 79) (ls' := [some (.ref (ad 0)), some (.int (zI ↑k)), some (.int (zI ↑(1 : Nat)))]) (st' := [.int (zI ↑k), .ref (Rm ad 33 4), .ref (ad 0)]) rfl ?_
        refine v_iaload' rfl hc.2.2.2.2.1.2.2.1 (i := k) rfl (by omega) ?_
        refine v_callV (My := mX8_grant) (As := [.int (zI ↑(σ 3 4 k))]) (rest := []) (mc := 0) (ms := 0) rfl caX8_grant rfl rfl rfl hc.2.1 rfl rfl (k_grant G _ ((zI ↑(σ 3 4 k))) hA hc hok) rfl rfl (Nat.le_of_ble_eq_true rfl) (by omega) ?_
        rintro _ h9 ⟨rfl, hc9, hf9⟩
        refine v_run 0 (pc' := 83) (ls' := [some (.ref (ad 0)), some (.int (zI ↑k)), some (.int (zI ↑(1 : Nat)))]) (st' := [.int ((zI ↑(σ 3 4 k)))]) rfl ?_
        rw [show aSenator σ ↑k ↑(1 : Nat) = (↑(σ 3 4 k), 0) from hA0 _ rfl]
        exact v_iret rfl rfl rfl ⟨rfl, hc9, hf9⟩
      · refine v_tabIn (off := 61) (t := 84) rfl (by decide +kernel) (by decide +kernel) (by decide +kernel) (by decide) ?_
        refine v_run 2 (pc' := 86) (ls' := [some (.ref (ad 0)), some (.int (zI ↑k)), some (.int (zI ↑(2 : Nat)))]) (st' := [.ref (ad 0), .ref (ad 0)]) rfl ?_
        refine v_get rfl hc.2.1 rfl ?_
        refine v_run 0 (pc' := 89) (ls' := [some (.ref (ad 0)), some (.int (zI ↑k)), some (.int (zI ↑(2 : Nat)))]) (st' := [.ref (ad 33), .ref (ad 0)]) rfl ?_
        refine v_get rfl hc.2.2.2.2.1.1 rfl ?_
        refine v_run 1 (pc' := 93) (ls' := [some (.ref (ad 0)), some (.int (zI ↑k)), some (.int (zI ↑(2 : Nat)))]) (st' := [.int (zI ↑k), .ref (Rm ad 33 5), .ref (ad 0)]) rfl ?_
        refine v_iaload' rfl hc.2.2.2.2.1.2.2.2.1 (i := k) rfl (by omega) ?_
        refine v_callV (My := mX8_grant) (As := [.int (zI ↑(σ 3 5 k))]) (rest := []) (mc := 0) (ms := 0) rfl caX8_grant rfl rfl rfl hc.2.1 rfl rfl (k_grant G _ ((zI ↑(σ 3 5 k))) hA hc hok) rfl rfl (Nat.le_of_ble_eq_true rfl) (by omega) ?_
        rintro _ h9 ⟨rfl, hc9, hf9⟩
        refine v_run 0 (pc' := 97) (ls' := [some (.ref (ad 0)), some (.int (zI ↑k)), some (.int (zI ↑(2 : Nat)))]) (st' := [.int ((zI ↑(σ 3 5 k)))]) rfl ?_
        rw [show aSenator σ ↑k ↑(2 : Nat) = (↑(σ 3 5 k), 0) from hA0 _ rfl]
        exact v_iret rfl rfl rfl ⟨rfl, hc9, hf9⟩
      · refine v_tabIn (off := 75) (t := 98) rfl (by decide +kernel) (by decide +kernel) (by decide +kernel) (by decide) ?_
        refine v_run 2 (pc' := 100) (ls' := [some (.ref (ad 0)), some (.int (zI ↑k)), some (.int (zI ↑(3 : Nat)))]) (st' := [.ref (ad 0), .ref (ad 0)]) rfl ?_
        refine v_get rfl hc.2.1 rfl ?_
        refine v_run 0 (pc' := 103) (ls' := [some (.ref (ad 0)), some (.int (zI ↑k)), some (.int (zI ↑(3 : Nat)))]) (st' := [.ref (ad pl), .ref (ad 0)]) rfl ?_
        refine v_get rfl hc.2.2.1.1 rfl ?_
        refine v_run 1 (pc' := 107) (ls' := [some (.ref (ad 0)), some (.int (zI ↑k)), some (.int (zI ↑(3 : Nat)))]) (st' := [.int (zI ↑k), .ref (Rp ad pl 6), .ref (ad 0)]) rfl ?_
        refine v_iaload' rfl hc.2.2.1.2.2.1 (i := k) rfl (by omega) ?_
        refine v_callV (My := mX8_grant) (As := [.int (zI ↑(σ 1 6 k))]) (rest := []) (mc := 0) (ms := 0) rfl caX8_grant rfl rfl rfl hc.2.1 rfl rfl (k_grant G _ ((zI ↑(σ 1 6 k))) hA hc hok) rfl rfl (Nat.le_of_ble_eq_true rfl) (by omega) ?_
        rintro _ h9 ⟨rfl, hc9, hf9⟩
        refine v_run 0 (pc' := 111) (ls' := [some (.ref (ad 0)), some (.int (zI ↑k)), some (.int (zI ↑(3 : Nat)))]) (st' := [.int ((zI ↑(σ 1 6 k)))]) rfl ?_
        rw [show aSenator σ ↑k ↑(3 : Nat) = (↑(σ 1 6 k), 0) from hA0 _ rfl]
        exact v_iret rfl rfl rfl ⟨rfl, hc9, hf9⟩
      · refine v_tabIn (off := 89) (t := 112) rfl (by decide +kernel) (by decide +kernel) (by decide +kernel) (by decide) ?_
        refine v_run 2 (pc' := 114) (ls' := [some (.ref (ad 0)), some (.int (zI ↑k)), some (.int (zI ↑(4 : Nat)))]) (st' := [.ref (ad 0), .ref (ad 0)]) rfl ?_
        refine v_get rfl hc.2.1 rfl ?_
        refine v_run 1 (pc' := 118) (ls' := [some (.ref (ad 0)), some (.int (zI ↑k)), some (.int (zI ↑(4 : Nat)))]) (st' := [.int (zI ↑k), .ref (ad pl), .ref (ad 0)]) rfl ?_
        refine v_callV (My := mX4_actsOf) (As := [.int (zI ↑k)]) (rest := [.ref (ad 0)]) (mc := 0) (ms := 0) rfl caX4_actsOf rfl rfl rfl hc.2.2.1.1 rfl rfl (k_actsOf G _ k hc.2.2.1 hok.1 (by omega)) rfl rfl (Nat.le_of_ble_eq_true rfl) (by omega) ?_
        rintro _ _ ⟨rfl, rfl⟩
        refine v_run 0 (pc' := 121) (ls' := [some (.ref (ad 0)), some (.int (zI ↑k)), some (.int (zI ↑(4 : Nat)))]) (st' := [.int (zI ↑(setN (fun s => bitN (σ 1 9 s) k) (σ 1 7 0))), .ref (ad 0)]) rfl ?_
        refine v_callV (My := mX8_grant) (As := [.int (zI ↑(setN (fun s => bitN (σ 1 9 s) k) (σ 1 7 0)))]) (rest := []) (mc := 0) (ms := 0) rfl caX8_grant rfl rfl rfl hc.2.1 rfl rfl (k_grant G _ ((zI ↑(setN (fun s => bitN (σ 1 9 s) k) (σ 1 7 0)))) hA hc hok) rfl rfl (Nat.le_of_ble_eq_true rfl) (by omega) ?_
        rintro _ h9 ⟨rfl, hc9, hf9⟩
        refine v_run 0 (pc' := 124) (ls' := [some (.ref (ad 0)), some (.int (zI ↑k)), some (.int (zI ↑(4 : Nat)))]) (st' := [.int ((zI ↑(setN (fun s => bitN (σ 1 9 s) k) (σ 1 7 0))))]) rfl ?_
        rw [show aSenator σ ↑k ↑(4 : Nat) = (↑(setN (fun s => bitN (σ 1 9 s) k) (σ 1 7 0)), 0) from hA0 _ rfl]
        exact v_iret rfl rfl rfl ⟨rfl, hc9, hf9⟩
      · refine v_tabOut (t := 125) rfl (by decide +kernel) (by decide) ?_
        refine v_run 2 (pc' := 127) (ls' := [some (.ref (ad 0)), some (.int (zI ↑k)), some (.int (zI ↑(5 : Nat)))]) (st' := [.ref (ad 0), .ref (ad 0)]) rfl ?_
        refine v_get rfl hc.2.1 rfl ?_
        refine v_run 1 (pc' := 131) (ls' := [some (.ref (ad 0)), some (.int (zI ↑k)), some (.int (zI ↑(5 : Nat)))]) (st' := [.ref (ad 0), .ref (ad pl), .ref (ad 0)]) rfl ?_
        refine v_get rfl hc.2.1 rfl ?_
        refine v_run 2 (pc' := 136) (ls' := [some (.ref (ad 0)), some (.int (zI ↑k)), some (.int (zI ↑(5 : Nat)))]) (st' := [.int (zI 1), .int (zI ↑k), .ref (ad 33), .ref (ad pl), .ref (ad 0)]) rfl ?_
        refine v_callV (My := mX4_lossBehind) (As := [.ref (ad 33), .int (zI ↑k), .int (zI 1)]) (rest := [.ref (ad 0)]) (mc := 0) (ms := 0) rfl caX4_lossBehind rfl rfl rfl hc.2.2.1.1 rfl rfl (k_lossBehind G _ k 1 hc.2.2.1 hok.1 hc.2.2.2.2.1 (hok.2.2 3 (by decide)) (by omega) (by omega)) rfl rfl (Nat.le_of_ble_eq_true rfl) (by omega) ?_
        rintro _ _ ⟨rfl, rfl⟩
        refine v_run 0 (pc' := 139) (ls' := [some (.ref (ad 0)), some (.int (zI ↑k)), some (.int (zI ↑(5 : Nat)))]) (st' := [.int (zI ↑(min (σ 3 5 k) (cLoss (σ 1 1 0) (σ 1 4 (σ 3 4 k)) (σ 3 3 k) (σ 3 0 0) 1))), .ref (ad 0)]) rfl ?_
        refine v_callV (My := mX8_grant) (As := [.int (zI ↑(min (σ 3 5 k) (cLoss (σ 1 1 0) (σ 1 4 (σ 3 4 k)) (σ 3 3 k) (σ 3 0 0) 1)))]) (rest := []) (mc := 0) (ms := 0) rfl caX8_grant rfl rfl rfl hc.2.1 rfl rfl (k_grant G _ ((zI ↑(min (σ 3 5 k) (cLoss (σ 1 1 0) (σ 1 4 (σ 3 4 k)) (σ 3 3 k) (σ 3 0 0) 1)))) hA hc hok) rfl rfl (Nat.le_of_ble_eq_true rfl) (by omega) ?_
        rintro _ h9 ⟨rfl, hc9, hf9⟩
        refine v_run 0 (pc' := 142) (ls' := [some (.ref (ad 0)), some (.int (zI ↑k)), some (.int (zI ↑(5 : Nat)))]) (st' := [.int ((zI ↑(min (σ 3 5 k) (cLoss (σ 1 1 0) (σ 1 4 (σ 3 4 k)) (σ 3 3 k) (σ 3 0 0) 1))))]) rfl ?_
        rw [show aSenator σ ↑k ↑(5 : Nat) = (↑(min (σ 3 5 k) (cLoss (σ 1 1 0) (σ 1 4 (σ 3 4 k)) (σ 3 3 k) (σ 3 0 0) 1)), 0) from hA0 _ rfl]
        exact v_iret rfl rfl rfl ⟨rfl, hc9, hf9⟩
    · rw [zb_0, Bool.not_eq_false, decide_eq_true_eq] at c13
      refine v_run 2 (pc' := 18) (ls' := [some (.ref (ad 0)), some (.int (zI s)), some (.int (zI n))]) (st' := [.int (zI 1), .ref (ad 0)]) rfl ?_
      refine v_callV (My := mX8_refuse) (As := [.int (zI 1)]) (rest := []) (mc := 0) (ms := 0) rfl caX8_refuse rfl rfl rfl hc.2.1 rfl rfl (k_refuse G _ 1 hA hc hok) rfl rfl (Nat.le_of_ble_eq_true rfl) (by omega) ?_
      rintro _ h9 ⟨rfl, hc9, hf9⟩
      refine v_run 0 (pc' := 21) (ls' := [some (.ref (ad 0)), some (.int (zI s)), some (.int (zI n))]) (st' := [.int (zI (-1))]) rfl ?_
      rw [show aSenator σ s n = (-1, 1) from if_pos (by omega)]
      exact v_iret rfl rfl rfl ⟨rfl, hc9, hf9⟩

set_option maxRecDepth 100000 in
set_option maxHeartbeats 400000 in
theorem k_act (G : ssG) (h : ssH) {ad : Nat → Nat} {pl : Nat} {σ : sT} (s n : Int) (hA : ∀ k l, ad k = ad l → k = l) (hc : CW0 h ad pl σ) (hok : sOk σ) (hs : -2147483648 ≤ s ∧ s < 2147483648) (hn : -2147483648 ≤ n ∧ n < 2147483648) : ssC G mX8_act 5 0 0 [.ref (ad 0), .int (zI s), .int (zI n)] h (cR ad pl (sTr σ (aAct σ s n).2) h (.int (zI (aAct σ s n).1))) := by
  refine c_of_v okX8_act (by decide +kernel) (ls := [some (.ref (ad 0)), some (.int (zI s)), some (.int (zI n))]) rfl (Nat.le_of_ble_eq_true rfl) ?_
  obtain ⟨i0, i1, i2, i3, i5, i7, a4, a6, a8, a9, a10, i11, i12, i14, i15⟩ := id hok.1
  obtain ⟨j0, j1, j2, b3, b4, b5, b6⟩ := id (hok.2.2 3 (by decide))
  have i13 := hok.2.1
  have hpl := hc.1
  simp only [fI] at i0 i1 i2 i3 i5 i7 i11 i12 i14 i15 j0 j1 j2
  refine v_run 2 (pc' := 2) (ls' := [some (.ref (ad 0)), some (.int (zI s)), some (.int (zI n))]) (st' := [.int (zI s), .ref (ad 0)]) rfl ?_
  refine v_callV (My := mX8_lacksAct) (As := [.int (zI s)]) (rest := []) (mc := 0) (ms := 0) rfl caX8_lacksAct rfl rfl rfl hc.2.1 rfl rfl (k_lacksAct G _ s hA hc hok hs) rfl rfl (Nat.le_of_ble_eq_true rfl) (by omega) ?_
  rintro _ _ ⟨rfl, rfl⟩
  refine v_run 0 (pc' := 5) (ls' := [some (.ref (ad 0)), some (.int (zI s)), some (.int (zI n))]) (st' := [.int (zb (decide (s < 0 ∨ ↑(σ 1 7 0) ≤ s)))]) rfl ?_
  refine v_if_ne rfl (fun c5 => ?_) (fun c5 => ?_)
  · rw [zb_0, Bool.not_eq_false, decide_eq_true_eq] at c5
    refine v_run 2 (pc' := 18) (ls' := [some (.ref (ad 0)), some (.int (zI s)), some (.int (zI n))]) (st' := [.int (zI 1), .ref (ad 0)]) rfl ?_
    refine v_callV (My := mX8_refuse) (As := [.int (zI 1)]) (rest := []) (mc := 0) (ms := 0) rfl caX8_refuse rfl rfl rfl hc.2.1 rfl rfl (k_refuse G _ 1 hA hc hok) rfl rfl (Nat.le_of_ble_eq_true rfl) (by omega) ?_
    rintro _ h9 ⟨rfl, hc9, hf9⟩
    refine v_run 0 (pc' := 21) (ls' := [some (.ref (ad 0)), some (.int (zI s)), some (.int (zI n))]) (st' := [.int (zI (-1))]) rfl ?_
    rw [show aAct σ s n = (-1, 1) from if_pos (by omega)]
    exact v_iret rfl rfl rfl ⟨rfl, hc9, hf9⟩
  · rw [zb_0, decide_eq_false_iff_not] at c5
    refine v_run 2 (pc' := 10) (ls' := [some (.ref (ad 0)), some (.int (zI s)), some (.int (zI n))]) (st' := [.int (zI 3), .int (zI n)]) rfl ?_
    refine v_callS (My := mX8_outside) (As := [.int (zI n), .int (zI 3)]) (rest := []) (mc := 0) (ms := 0) rfl caX8_outside rfl rfl (k_outside G _ n 3 hn ⟨by omega, by omega⟩) rfl rfl (Nat.le_of_ble_eq_true rfl) (by omega) ?_
    rintro _ _ ⟨rfl, rfl⟩
    refine v_run 0 (pc' := 13) (ls' := [some (.ref (ad 0)), some (.int (zI s)), some (.int (zI n))]) (st' := [.int (zb (decide (n < 0 ∨ 3 < n)))]) rfl ?_
    refine v_if_eq rfl (fun c13 => ?_) (fun c13 => ?_)
    · rw [zb_0, decide_eq_false_iff_not] at c13
      obtain ⟨k, rfl⟩ : ∃ z : Nat, s = ↑z := ⟨s.toNat, by omega⟩
      obtain ⟨m, rfl⟩ : ∃ z : Nat, n = ↑z := ⟨n.toNat, by omega⟩
      have hA0 : ∀ x : Int × Nat, aActN σ k m = x → aAct σ ↑k ↑m = x := fun x hx => by rw [aAct, if_neg (by omega)]; exact hx
      refine v_run 1 (pc' := 23) (ls' := [some (.ref (ad 0)), some (.int (zI ↑k)), some (.int (zI ↑m))]) (st' := [.int (zI ↑m)]) rfl ?_
      rcases (show m = 0 ∨ m = 1 ∨ m = 2 ∨ m = 3 by omega) with rfl | rfl | rfl | rfl
      · refine v_tabIn (off := 25) (t := 48) rfl (by decide +kernel) (by decide +kernel) (by decide +kernel) (by decide) ?_
        refine v_run 2 (pc' := 50) (ls' := [some (.ref (ad 0)), some (.int (zI ↑k)), some (.int (zI ↑(0 : Nat)))]) (st' := [.ref (ad 0), .ref (ad 0)]) rfl ?_
        refine v_get rfl hc.2.1 rfl ?_
        refine v_run 0 (pc' := 53) (ls' := [some (.ref (ad 0)), some (.int (zI ↑k)), some (.int (zI ↑(0 : Nat)))]) (st' := [.ref (ad pl), .ref (ad 0)]) rfl ?_
        refine v_get rfl hc.2.2.1.1 rfl ?_
        refine v_run 1 (pc' := 57) (ls' := [some (.ref (ad 0)), some (.int (zI ↑k)), some (.int (zI ↑(0 : Nat)))]) (st' := [.int (zI ↑k), .ref (Rp ad pl 8), .ref (ad 0)]) rfl ?_
        refine v_iaload' rfl hc.2.2.1.2.2.2.1 (i := k) rfl (by omega) ?_
        refine v_callV (My := mX8_grant) (As := [.int (zI ↑(σ 1 8 k))]) (rest := []) (mc := 0) (ms := 0) rfl caX8_grant rfl rfl rfl hc.2.1 rfl rfl (k_grant G _ ((zI ↑(σ 1 8 k))) hA hc hok) rfl rfl (Nat.le_of_ble_eq_true rfl) (by omega) ?_
        rintro _ h9 ⟨rfl, hc9, hf9⟩
        refine v_run 0 (pc' := 61) (ls' := [some (.ref (ad 0)), some (.int (zI ↑k)), some (.int (zI ↑(0 : Nat)))]) (st' := [.int ((zI ↑(σ 1 8 k)))]) rfl ?_
        rw [show aAct σ ↑k ↑(0 : Nat) = (↑(σ 1 8 k), 0) from hA0 _ rfl]
        exact v_iret rfl rfl rfl ⟨rfl, hc9, hf9⟩
      · refine v_tabIn (off := 39) (t := 62) rfl (by decide +kernel) (by decide +kernel) (by decide +kernel) (by decide) ?_
        refine v_run 2 (pc' := 64) (ls' := [some (.ref (ad 0)), some (.int (zI ↑k)), some (.int (zI ↑(1 : Nat)))]) (st' := [.ref (ad 0), .ref (ad 0)]) rfl ?_
        refine v_get rfl hc.2.1 rfl ?_
        refine v_run 0 (pc' := 67) (ls' := [some (.ref (ad 0)), some (.int (zI ↑k)), some (.int (zI ↑(1 : Nat)))]) (st' := [.ref (ad pl), .ref (ad 0)]) rfl ?_
        refine v_get rfl hc.2.2.1.1 rfl ?_
        refine v_run 1 (pc' := 71) (ls' := [some (.ref (ad 0)), some (.int (zI ↑k)), some (.int (zI ↑(1 : Nat)))]) (st' := [.int (zI ↑k), .ref (Rp ad pl 9), .ref (ad 0)]) rfl ?_
        refine v_iaload' rfl hc.2.2.1.2.2.2.2.1 (i := k) rfl (by omega) ?_
        refine v_callV (My := mX8_grant) (As := [.int (zI ↑(σ 1 9 k))]) (rest := []) (mc := 0) (ms := 0) rfl caX8_grant rfl rfl rfl hc.2.1 rfl rfl (k_grant G _ ((zI ↑(σ 1 9 k))) hA hc hok) rfl rfl (Nat.le_of_ble_eq_true rfl) (by omega) ?_
        rintro _ h9 ⟨rfl, hc9, hf9⟩
        refine v_run 0 (pc' := 75) (ls' := [some (.ref (ad 0)), some (.int (zI ↑k)), some (.int (zI ↑(1 : Nat)))]) (st' := [.int ((zI ↑(σ 1 9 k)))]) rfl ?_
        rw [show aAct σ ↑k ↑(1 : Nat) = (↑(σ 1 9 k), 0) from hA0 _ rfl]
        exact v_iret rfl rfl rfl ⟨rfl, hc9, hf9⟩
      · refine v_tabIn (off := 53) (t := 76) rfl (by decide +kernel) (by decide +kernel) (by decide +kernel) (by decide) ?_
        refine v_run 2 (pc' := 78) (ls' := [some (.ref (ad 0)), some (.int (zI ↑k)), some (.int (zI ↑(2 : Nat)))]) (st' := [.ref (ad 0), .ref (ad 0)]) rfl ?_
        refine v_get rfl hc.2.1 rfl ?_
        refine v_run 0 (pc' := 81) (ls' := [some (.ref (ad 0)), some (.int (zI ↑k)), some (.int (zI ↑(2 : Nat)))]) (st' := [.ref (ad pl), .ref (ad 0)]) rfl ?_
        refine v_get rfl hc.2.2.1.1 rfl ?_
        refine v_run 1 (pc' := 85) (ls' := [some (.ref (ad 0)), some (.int (zI ↑k)), some (.int (zI ↑(2 : Nat)))]) (st' := [.int (zI ↑k), .ref (Rp ad pl 10), .ref (ad 0)]) rfl ?_
        refine v_iaload' rfl hc.2.2.1.2.2.2.2.2 (i := k) rfl (by omega) ?_
        refine v_callV (My := mX8_grant) (As := [.int (zI ↑(σ 1 10 k))]) (rest := []) (mc := 0) (ms := 0) rfl caX8_grant rfl rfl rfl hc.2.1 rfl rfl (k_grant G _ ((zI ↑(σ 1 10 k))) hA hc hok) rfl rfl (Nat.le_of_ble_eq_true rfl) (by omega) ?_
        rintro _ h9 ⟨rfl, hc9, hf9⟩
        refine v_run 0 (pc' := 89) (ls' := [some (.ref (ad 0)), some (.int (zI ↑k)), some (.int (zI ↑(2 : Nat)))]) (st' := [.int ((zI ↑(σ 1 10 k)))]) rfl ?_
        rw [show aAct σ ↑k ↑(2 : Nat) = (↑(σ 1 10 k), 0) from hA0 _ rfl]
        exact v_iret rfl rfl rfl ⟨rfl, hc9, hf9⟩
      · refine v_tabOut (t := 90) rfl (by decide +kernel) (by decide) ?_
        refine v_run 2 (pc' := 92) (ls' := [some (.ref (ad 0)), some (.int (zI ↑k)), some (.int (zI ↑(3 : Nat)))]) (st' := [.ref (ad 0), .ref (ad 0)]) rfl ?_
        refine v_callV (My := mX8_goingNow) (As := []) (rest := [.ref (ad 0)]) (mc := 0) (ms := 0) rfl caX8_goingNow rfl rfl rfl hc.2.1 rfl rfl (k_goingNow G _ hA hc hok) rfl rfl (Nat.le_of_ble_eq_true rfl) (by omega) ?_
        rintro _ h1 ⟨rfl, hc1, hf1⟩
        refine v_run 0 (pc' := 95) (ls' := [some (.ref (ad 0)), some (.int (zI ↑k)), some (.int (zI ↑(3 : Nat)))]) (st' := [.int (zI ↑(sGoing σ)), .ref (ad 0)]) rfl ?_
        have q1 : sGoing σ < 32 := Nat.lt_of_lt_of_le (setN_lt _ _) (Nat.pow_le_pow_right (n := 2) (by decide) i7)
        refine v_run 4 (pc' := 99) (ls' := [some (.ref (ad 0)), some (.int (zI ↑k)), some (.int (zI ↑(3 : Nat)))]) (st' := [.int (((zI ↑(sGoing σ)) >>> ((zI ↑k) &&& 31)) &&& (zI 1)), .ref (ad 0)]) rfl ?_
        rw [show (((zI ↑(sGoing σ)) >>> ((zI ↑k) &&& 31)) &&& (zI 1) : Int32) = zI ↑(sGoing σ / 2 ^ k % 2) from zI_bit (by omega) (by omega)]
        refine v_callV (My := mX8_grant) (As := [.int (zI ↑(sGoing σ / 2 ^ k % 2))]) (rest := []) (mc := 0) (ms := 0) rfl caX8_grant rfl rfl rfl hc1.2.1 rfl rfl (k_grant G _ ((zI ↑(sGoing σ / 2 ^ k % 2))) hA hc1 hok) rfl rfl (Nat.le_of_ble_eq_true rfl) (by omega) ?_
        rintro _ h9 ⟨rfl, hc9, hf9⟩
        refine v_run 0 (pc' := 102) (ls' := [some (.ref (ad 0)), some (.int (zI ↑k)), some (.int (zI ↑(3 : Nat)))]) (st' := [.int ((zI ↑(sGoing σ / 2 ^ k % 2)))]) rfl ?_
        rw [show aAct σ ↑k ↑(3 : Nat) = (↑(sGoing σ / 2 ^ k % 2), 0) from hA0 _ rfl]
        exact v_iret rfl rfl rfl ⟨rfl, hc9, hf1.tr hf9⟩
    · rw [zb_0, Bool.not_eq_false, decide_eq_true_eq] at c13
      refine v_run 2 (pc' := 18) (ls' := [some (.ref (ad 0)), some (.int (zI s)), some (.int (zI n))]) (st' := [.int (zI 1), .ref (ad 0)]) rfl ?_
      refine v_callV (My := mX8_refuse) (As := [.int (zI 1)]) (rest := []) (mc := 0) (ms := 0) rfl caX8_refuse rfl rfl rfl hc.2.1 rfl rfl (k_refuse G _ 1 hA hc hok) rfl rfl (Nat.le_of_ble_eq_true rfl) (by omega) ?_
      rintro _ h9 ⟨rfl, hc9, hf9⟩
      refine v_run 0 (pc' := 21) (ls' := [some (.ref (ad 0)), some (.int (zI s)), some (.int (zI n))]) (st' := [.int (zI (-1))]) rfl ?_
      rw [show aAct σ s n = (-1, 1) from if_pos (by omega)]
      exact v_iret rfl rfl rfl ⟨rfl, hc9, hf9⟩

set_option maxRecDepth 100000 in
set_option maxHeartbeats 400000 in
theorem k_fault (G : ssG) (h : ssH) {ad : Nat → Nat} {pl : Nat} {σ : sT}  (hA : ∀ k l, ad k = ad l → k = l) (hc : CW0 h ad pl σ) (hok : sOk σ)  : ssC G mX8_fault 0 0 0 [.ref (ad 0)] h (rI (zI ↑(σ 0 7 0)) h) := by
  refine c_of_v okX8_fault (by decide +kernel) (ls := [some (.ref (ad 0))]) rfl (Nat.le_of_ble_eq_true rfl) ?_
  obtain ⟨i0, i1, i2, i3, i5, i7, a4, a6, a8, a9, a10, i11, i12, i14, i15⟩ := id hok.1
  obtain ⟨j0, j1, j2, b3, b4, b5, b6⟩ := id (hok.2.2 3 (by decide))
  have i13 := hok.2.1
  have hpl := hc.1
  simp only [fI] at i0 i1 i2 i3 i5 i7 i11 i12 i14 i15 j0 j1 j2
  refine v_run 1 (pc' := 1) (ls' := [some (.ref (ad 0))]) (st' := [.ref (ad 0)]) rfl ?_
  refine v_get rfl hc.2.1 rfl ?_
  refine v_run 0 (pc' := 4) (ls' := [some (.ref (ad 0))]) (st' := [.int (zI ↑(σ 0 7 0))]) rfl ?_
  exact v_iret rfl rfl rfl ⟨rfl, rfl⟩

set_option maxRecDepth 100000 in
set_option maxHeartbeats 400000 in
theorem k_trouble (G : ssG) (h : ssH) {ad : Nat → Nat} {pl : Nat} {σ : sT}  (hA : ∀ k l, ad k = ad l → k = l) (hc : CW0 h ad pl σ) (hok : sOk σ)  : ssC G mX8_trouble 0 0 0 [.ref (ad 0)] h (rI (zI ↑(σ 0 6 0)) h) := by
  refine c_of_v okX8_trouble (by decide +kernel) (ls := [some (.ref (ad 0))]) rfl (Nat.le_of_ble_eq_true rfl) ?_
  obtain ⟨i0, i1, i2, i3, i5, i7, a4, a6, a8, a9, a10, i11, i12, i14, i15⟩ := id hok.1
  obtain ⟨j0, j1, j2, b3, b4, b5, b6⟩ := id (hok.2.2 3 (by decide))
  have i13 := hok.2.1
  have hpl := hc.1
  simp only [fI] at i0 i1 i2 i3 i5 i7 i11 i12 i14 i15 j0 j1 j2
  refine v_run 1 (pc' := 1) (ls' := [some (.ref (ad 0))]) (st' := [.ref (ad 0)]) rfl ?_
  refine v_get rfl hc.2.1 rfl ?_
  refine v_run 0 (pc' := 4) (ls' := [some (.ref (ad 0))]) (st' := [.int (zI ↑(σ 0 6 0))]) rfl ?_
  exact v_iret rfl rfl rfl ⟨rfl, rfl⟩

set_option maxRecDepth 100000 in
set_option maxHeartbeats 400000 in
theorem k_where (G : ssG) (h : ssH) {ad : Nat → Nat} {pl : Nat} {σ : sT}  (hA : ∀ k l, ad k = ad l → k = l) (hc : CW0 h ad pl σ) (hok : sOk σ) (h6 : σ 0 6 0 ≤ 6) : ssC G mX8_where 0 0 0 [.ref (ad 0)] h (rI (zI (aWhere σ)) h) := by
  refine c_of_v okX8_where (by decide +kernel) (ls := [some (.ref (ad 0))]) rfl (Nat.le_of_ble_eq_true rfl) ?_
  obtain ⟨i0, i1, i2, i3, i5, i7, a4, a6, a8, a9, a10, i11, i12, i14, i15⟩ := id hok.1
  obtain ⟨j0, j1, j2, b3, b4, b5, b6⟩ := id (hok.2.2 3 (by decide))
  have i13 := hok.2.1
  have hpl := hc.1
  simp only [fI] at i0 i1 i2 i3 i5 i7 i11 i12 i14 i15 j0 j1 j2
  refine v_run 1 (pc' := 1) (ls' := [some (.ref (ad 0))]) (st' := [.ref (ad 0)]) rfl ?_
  refine v_get rfl hc.2.1 rfl ?_
  refine v_run 1 (pc' := 5) (ls' := [some (.ref (ad 0))]) (st' := [.int (zI 4), .int (zI ↑(σ 0 6 0))]) rfl ?_
  refine v_icmp_ne rfl (fun c5 => ?_) (fun c5 => ?_)
  · simp (disch := omega) only [zI_lt, zI_le, zI_eq, zI_lt0, zI_le0, zI_0lt, zI_0le, zI_eq0] at c5
    refine v_run 1 (pc' := 16) (ls' := [some (.ref (ad 0))]) (st' := [.int (zI (-1))]) rfl ?_
    exact v_iret rfl rfl rfl ⟨by rw [aWhere, if_neg (by omega)], rfl⟩
  · simp (disch := omega) only [zI_lt, zI_le, zI_eq, zI_lt0, zI_le0, zI_0lt, zI_0le, zI_eq0] at c5
    refine v_run 1 (pc' := 9) (ls' := [some (.ref (ad 0))]) (st' := [.ref (ad 0)]) rfl ?_
    refine v_get rfl hc.2.1 rfl ?_
    refine v_run 1 (pc' := 16) (ls' := [some (.ref (ad 0))]) (st' := [.int (zI ↑(σ 0 8 0))]) rfl ?_
    exact v_iret rfl rfl rfl ⟨by rw [aWhere, if_pos (by omega)], rfl⟩

set_option maxRecDepth 100000 in
set_option maxHeartbeats 400000 in
theorem k_lastsSalted (G : ssG) (h : ssH) {ad : Nat → Nat} {pl : Nat} {σ : sT} (s : Nat) (hA : ∀ k l, ad k = ad l → k = l) (hc : CW0 h ad pl σ) (hok : sOk σ) (hs : s < σ 1 5 0) : ssC G mX8_lastsSalted 4 0 0 [.ref (ad 0), .int (zI ↑s)] h (cR ad pl σ h (.int (zI ↑(sSalt σ s)))) := by
  refine c_of_v okX8_lastsSalted (by decide +kernel) (ls := [some (.ref (ad 0)), some (.int (zI ↑s))]) rfl (Nat.le_of_ble_eq_true rfl) ?_
  obtain ⟨i0, i1, i2, i3, i5, i7, a4, a6, a8, a9, a10, i11, i12, i14, i15⟩ := id hok.1
  obtain ⟨j0, j1, j2, b3, b4, b5, b6⟩ := id (hok.2.2 3 (by decide))
  have i13 := hok.2.1
  have hpl := hc.1
  simp only [fI] at i0 i1 i2 i3 i5 i7 i11 i12 i14 i15 j0 j1 j2
  obtain ⟨E, hS, hE⟩ := hc.2.2.2.2.2.2.2.1
  have q3 := b3 s
  have q4 := b4 s
  refine v_run 1 (pc' := 1) (ls' := [some (.ref (ad 0)), some (.int (zI ↑s))]) (st' := [.ref (ad 0)]) rfl ?_
  refine v_get rfl hc.2.1 rfl ?_
  refine v_run 1 (pc' := 5) (ls' := [some (.ref (ad 0)), some (.int (zI ↑s))]) (st' := [.ref (ad 0), .ref (ad 136)]) rfl ?_
  refine v_get rfl hc.2.1 rfl ?_
  refine v_run 1 (pc' := 9) (ls' := [some (.ref (ad 0)), some (.int (zI ↑s))]) (st' := [.ref (ad 0), .ref (ad pl), .ref (ad 136)]) rfl ?_
  refine v_get rfl hc.2.1 rfl ?_
  refine v_run 0 (pc' := 12) (ls' := [some (.ref (ad 0)), some (.int (zI ↑s))]) (st' := [.ref (ad 33), .ref (ad pl), .ref (ad 136)]) rfl ?_
  refine v_callV (My := mX6_fill) (As := [.ref (ad pl), .ref (ad 33)]) (rest := []) (mc := 0) (ms := 0) rfl caX6_fill rfl rfl rfl hS.1 rfl rfl (k_fill G _ hc.2.2.1 hok.1 hc.2.2.2.2.1 (hok.2.2 3 (by decide)) hS (ad_ne hA (by omega)) ⟨ad_ne hA (by omega), ad_ne hA (by simp; omega), ad_ne hA (by simp; omega), ad_ne hA (by simp; omega), ad_ne hA (by simp; omega), ad_ne hA (by simp; omega), ad_ne hA (by omega), ad_ne hA (by omega), ad_ne hA (by omega), ad_ne hA (by omega), ad_ne hA (by omega)⟩) rfl rfl (Nat.le_of_ble_eq_true rfl) (by omega) ?_
  rintro _ h1 ⟨rfl, e1⟩
  have hc1 : CW0 h1 ad pl σ := e1 ▸ hc.spans hA (sE_le σ hE)
  have hS1 : SpanAt h1 (ad 136) (ad 137) (sE σ E) := e1 ▸ ⟨(hset_ne _ _ (ad_ne hA (by omega))).trans hS.1, hset_self _ _ _⟩
  have hf1 : frP ad pl h h1 := e1 ▸ (frP.rf ad pl h).set hA hc.1 (by omega) _
  refine v_run 0 (pc' := 15) (ls' := [some (.ref (ad 0)), some (.int (zI ↑s))]) (st' := []) rfl ?_
  refine v_run 1 (pc' := 16) (ls' := [some (.ref (ad 0)), some (.int (zI ↑s))]) (st' := [.ref (ad 0)]) rfl ?_
  refine v_get rfl hc1.2.1 rfl ?_
  refine v_run 0 (pc' := 19) (ls' := [some (.ref (ad 0)), some (.int (zI ↑s))]) (st' := [.ref (ad 136)]) rfl ?_
  refine v_get rfl hS1.1 rfl ?_
  refine v_run 2 (pc' := 24) (ls' := [some (.ref (ad 0)), some (.int (zI ↑s))]) (st' := [.ref (ad 0), .int (zI ↑s), .ref (ad 137)]) rfl ?_
  refine v_get rfl hc1.2.1 rfl ?_
  refine v_run 1 (pc' := 28) (ls' := [some (.ref (ad 0)), some (.int (zI ↑s))]) (st' := [.ref (ad 0), .ref (ad pl), .int (zI ↑s), .ref (ad 137)]) rfl ?_
  refine v_get rfl hc1.2.1 rfl ?_
  refine v_run 3 (pc' := 34) (ls' := [some (.ref (ad 0)), some (.int (zI ↑s))]) (st' := [.ref (ad 0), .int (zI 1), .int (zI ↑s), .ref (ad 33), .ref (ad pl), .int (zI ↑s), .ref (ad 137)]) rfl ?_
  refine v_get rfl hc1.2.1 rfl ?_
  refine v_run 0 (pc' := 37) (ls' := [some (.ref (ad 0)), some (.int (zI ↑s))]) (st' := [.ref (ad 33), .int (zI 1), .int (zI ↑s), .ref (ad 33), .ref (ad pl), .int (zI ↑s), .ref (ad 137)]) rfl ?_
  refine v_get rfl hc1.2.2.2.2.1.1 rfl ?_
  refine v_run 1 (pc' := 41) (ls' := [some (.ref (ad 0)), some (.int (zI ↑s))]) (st' := [.int (zI ↑s), .ref (Rm ad 33 4), .int (zI 1), .int (zI ↑s), .ref (ad 33), .ref (ad pl), .int (zI ↑s), .ref (ad 137)]) rfl ?_
  refine v_iaload' rfl hc1.2.2.2.2.1.2.2.1 (i := s) rfl (by omega) ?_
  refine v_callV (My := mX4_goodDays) (As := [.ref (ad 33), .int (zI ↑s), .int (zI 1), .int ((fun k => zI ↑(σ 3 4 k)) s)]) (rest := [.int (zI ↑s), .ref (ad 137)]) (mc := 0) (ms := 0) rfl caX4_goodDays rfl rfl rfl hc1.2.2.1.1 rfl rfl (k_goodDays G _ s 1 (σ 3 4 s) hc1.2.2.1 hok.1 hc1.2.2.2.2.1 (hok.2.2 3 (by decide)) (by omega) q4 (by omega)) rfl rfl (Nat.le_of_ble_eq_true rfl) (by omega) ?_
  rintro _ _ ⟨rfl, rfl⟩
  refine v_run 0 (pc' := 45) (ls' := [some (.ref (ad 0)), some (.int (zI ↑s))]) (st' := [.int (zI ↑(cGood (σ 1 1 0) (σ 1 4 (σ 3 4 s)) 1 (σ 3 0 0) (σ 3 5 s))), .int (zI ↑s), .ref (ad 137)]) rfl ?_
  refine v_iastore' rfl hS1.2 (i := s) rfl (by omega) ?_
  rw [ar_upd]
  generalize he2 : hset h1 (ad (136 + 1)) (ar 6 (fun j => if j = s then cGood (σ 1 1 0) (σ 1 4 (σ 3 4 s)) 1 (σ 3 0 0) (σ 3 5 s) else (sE σ E) j)) = h2
  have hE2 : ∀ k, (fun j => if j = s then cGood (σ 1 1 0) (σ 1 4 (σ 3 4 s)) 1 (σ 3 0 0) (σ 3 5 s) else sE σ E j) k ≤ 99 := fun k => by dsimp only; split; exact cGood_le; exact sE_le σ hE k
  have hc2 : CW0 h2 ad pl σ := he2 ▸ hc1.spans hA hE2
  have hS2 : SpanAt h2 (ad 136) (ad 137) (fun j => if j = s then cGood (σ 1 1 0) (σ 1 4 (σ 3 4 s)) 1 (σ 3 0 0) (σ 3 5 s) else sE σ E j) := he2 ▸ ⟨(hset_ne _ _ (ad_ne hA (by omega))).trans hS1.1, hset_self _ _ _⟩
  have hf2 : frP ad pl h h2 := he2 ▸ hf1.set hA hc.1 (by omega) _
  refine v_run 1 (pc' := 47) (ls' := [some (.ref (ad 0)), some (.int (zI ↑s))]) (st' := [.ref (ad 0)]) rfl ?_
  refine v_get rfl hc2.2.1 rfl ?_
  refine v_run 1 (pc' := 51) (ls' := [some (.ref (ad 0)), some (.int (zI ↑s))]) (st' := [.ref (ad 0), .ref (ad 136)]) rfl ?_
  refine v_get rfl hc2.2.1 rfl ?_
  refine v_run 0 (pc' := 54) (ls' := [some (.ref (ad 0)), some (.int (zI ↑s))]) (st' := [.ref (ad pl), .ref (ad 136)]) rfl ?_
  refine v_get rfl hc2.2.2.1.1 rfl ?_
  refine v_run 1 (pc' := 58) (ls' := [some (.ref (ad 0)), some (.int (zI ↑s))]) (st' := [.ref (ad 0), .int (zI ↑(σ 1 5 0)), .ref (ad 136)]) rfl ?_
  refine v_get rfl hc2.2.1 rfl ?_
  refine v_run 0 (pc' := 61) (ls' := [some (.ref (ad 0)), some (.int (zI ↑s))]) (st' := [.ref (ad pl), .int (zI ↑(σ 1 5 0)), .ref (ad 136)]) rfl ?_
  refine v_get rfl hc2.2.2.1.1 rfl ?_
  refine v_run 0 (pc' := 64) (ls' := [some (.ref (ad 0)), some (.int (zI ↑s))]) (st' := [.int (zI ↑(σ 1 0 0)), .int (zI ↑(σ 1 5 0)), .ref (ad 136)]) rfl ?_
  refine v_callV (My := mX6_quorumDays) (As := [.int (zI ↑(σ 1 5 0)), .int (zI ↑(σ 1 0 0))]) (rest := []) (mc := 0) (ms := 0) rfl caX6_quorumDays rfl rfl rfl hS2.1 rfl rfl (k_quorumDays G _ (σ 1 5 0) (σ 1 0 0) hS2 hE2 i5 i0) rfl rfl (Nat.le_of_ble_eq_true rfl) (by omega) ?_
  rintro _ _ ⟨rfl, rfl⟩
  refine v_run 0 (pc' := 67) (ls' := [some (.ref (ad 0)), some (.int (zI ↑s))]) (st' := [.int (zI ↑(cQD (fun j => if j = s then cGood (σ 1 1 0) (σ 1 4 (σ 3 4 s)) 1 (σ 3 0 0) (σ 3 5 s) else sE σ E j) (σ 1 5 0) (σ 1 0 0) (σ 1 5 0)))]) rfl ?_
  exact v_iret rfl rfl rfl ⟨by unfold sSalt; exact congrArg (fun z : Nat => some (Value.int (zI ↑z))) (cQD_congr _ _ (fun k hk => by simp only [sE_eq σ E k hk]) _ (Nat.le_refl _)), hc2, hf2⟩

set_option maxRecDepth 100000 in
set_option maxHeartbeats 400000 in
theorem k_lastsSwapped (G : ssG) (h : ssH) {ad : Nat → Nat} {pl : Nat} {σ : sT} (s t : Nat) (hA : ∀ k l, ad k = ad l → k = l) (hc : CW0 h ad pl σ) (hok : sOk σ) (hs : s < σ 1 5 0) (ht : t < σ 1 5 0) : ssC G mX8_lastsSwapped 4 0 0 [.ref (ad 0), .int (zI ↑s), .int (zI ↑t)] h (cR ad pl σ h (.int (zI ↑(sSwap σ s t)))) := by
  refine c_of_v okX8_lastsSwapped (by decide +kernel) (ls := [some (.ref (ad 0)), some (.int (zI ↑s)), some (.int (zI ↑t))]) rfl (Nat.le_of_ble_eq_true rfl) ?_
  obtain ⟨i0, i1, i2, i3, i5, i7, a4, a6, a8, a9, a10, i11, i12, i14, i15⟩ := id hok.1
  obtain ⟨j0, j1, j2, b3, b4, b5, b6⟩ := id (hok.2.2 3 (by decide))
  have i13 := hok.2.1
  have hpl := hc.1
  simp only [fI] at i0 i1 i2 i3 i5 i7 i11 i12 i14 i15 j0 j1 j2
  obtain ⟨E, hS, hE⟩ := hc.2.2.2.2.2.2.2.1
  have q3s := b3 s
  have q4s := b4 s
  have q3t := b3 t
  have q4t := b4 t
  refine v_run 1 (pc' := 1) (ls' := [some (.ref (ad 0)), some (.int (zI ↑s)), some (.int (zI ↑t))]) (st' := [.ref (ad 0)]) rfl ?_
  refine v_get rfl hc.2.1 rfl ?_
  refine v_run 1 (pc' := 5) (ls' := [some (.ref (ad 0)), some (.int (zI ↑s)), some (.int (zI ↑t))]) (st' := [.ref (ad 0), .ref (ad 136)]) rfl ?_
  refine v_get rfl hc.2.1 rfl ?_
  refine v_run 1 (pc' := 9) (ls' := [some (.ref (ad 0)), some (.int (zI ↑s)), some (.int (zI ↑t))]) (st' := [.ref (ad 0), .ref (ad pl), .ref (ad 136)]) rfl ?_
  refine v_get rfl hc.2.1 rfl ?_
  refine v_run 0 (pc' := 12) (ls' := [some (.ref (ad 0)), some (.int (zI ↑s)), some (.int (zI ↑t))]) (st' := [.ref (ad 33), .ref (ad pl), .ref (ad 136)]) rfl ?_
  refine v_callV (My := mX6_fill) (As := [.ref (ad pl), .ref (ad 33)]) (rest := []) (mc := 0) (ms := 0) rfl caX6_fill rfl rfl rfl hS.1 rfl rfl (k_fill G _ hc.2.2.1 hok.1 hc.2.2.2.2.1 (hok.2.2 3 (by decide)) hS (ad_ne hA (by omega)) ⟨ad_ne hA (by omega), ad_ne hA (by simp; omega), ad_ne hA (by simp; omega), ad_ne hA (by simp; omega), ad_ne hA (by simp; omega), ad_ne hA (by simp; omega), ad_ne hA (by omega), ad_ne hA (by omega), ad_ne hA (by omega), ad_ne hA (by omega), ad_ne hA (by omega)⟩) rfl rfl (Nat.le_of_ble_eq_true rfl) (by omega) ?_
  rintro _ h1 ⟨rfl, e1⟩
  have hc1 : CW0 h1 ad pl σ := e1 ▸ hc.spans hA (sE_le σ hE)
  have hS1 : SpanAt h1 (ad 136) (ad 137) (sE σ E) := e1 ▸ ⟨(hset_ne _ _ (ad_ne hA (by omega))).trans hS.1, hset_self _ _ _⟩
  have hf1 : frP ad pl h h1 := e1 ▸ (frP.rf ad pl h).set hA hc.1 (by omega) _
  refine v_run 0 (pc' := 15) (ls' := [some (.ref (ad 0)), some (.int (zI ↑s)), some (.int (zI ↑t))]) (st' := []) rfl ?_
  refine v_run 1 (pc' := 16) (ls' := [some (.ref (ad 0)), some (.int (zI ↑s)), some (.int (zI ↑t))]) (st' := [.ref (ad 0)]) rfl ?_
  refine v_get rfl hc1.2.1 rfl ?_
  refine v_run 0 (pc' := 19) (ls' := [some (.ref (ad 0)), some (.int (zI ↑s)), some (.int (zI ↑t))]) (st' := [.ref (ad 136)]) rfl ?_
  refine v_get rfl hS1.1 rfl ?_
  refine v_run 2 (pc' := 24) (ls' := [some (.ref (ad 0)), some (.int (zI ↑s)), some (.int (zI ↑t))]) (st' := [.ref (ad 0), .int (zI ↑s), .ref (ad 137)]) rfl ?_
  refine v_get rfl hc1.2.1 rfl ?_
  refine v_run 1 (pc' := 28) (ls' := [some (.ref (ad 0)), some (.int (zI ↑s)), some (.int (zI ↑t))]) (st' := [.ref (ad 0), .ref (ad pl), .int (zI ↑s), .ref (ad 137)]) rfl ?_
  refine v_get rfl hc1.2.1 rfl ?_
  refine v_run 2 (pc' := 33) (ls' := [some (.ref (ad 0)), some (.int (zI ↑s)), some (.int (zI ↑t))]) (st' := [.ref (ad 0), .int (zI ↑s), .ref (ad 33), .ref (ad pl), .int (zI ↑s), .ref (ad 137)]) rfl ?_
  refine v_get rfl hc1.2.1 rfl ?_
  refine v_run 0 (pc' := 36) (ls' := [some (.ref (ad 0)), some (.int (zI ↑s)), some (.int (zI ↑t))]) (st' := [.ref (ad 33), .int (zI ↑s), .ref (ad 33), .ref (ad pl), .int (zI ↑s), .ref (ad 137)]) rfl ?_
  refine v_get rfl hc1.2.2.2.2.1.1 rfl ?_
  refine v_run 1 (pc' := 40) (ls' := [some (.ref (ad 0)), some (.int (zI ↑s)), some (.int (zI ↑t))]) (st' := [.int (zI ↑s), .ref (Rm ad 33 3), .int (zI ↑s), .ref (ad 33), .ref (ad pl), .int (zI ↑s), .ref (ad 137)]) rfl ?_
  refine v_iaload' rfl hc1.2.2.2.2.1.2.1 (i := s) rfl (by omega) ?_
  refine v_run 1 (pc' := 42) (ls' := [some (.ref (ad 0)), some (.int (zI ↑s)), some (.int (zI ↑t))]) (st' := [.ref (ad 0), .int ((fun k => zI ↑(σ 3 3 k)) s), .int (zI ↑s), .ref (ad 33), .ref (ad pl), .int (zI ↑s), .ref (ad 137)]) rfl ?_
  refine v_get rfl hc1.2.1 rfl ?_
  refine v_run 0 (pc' := 45) (ls' := [some (.ref (ad 0)), some (.int (zI ↑s)), some (.int (zI ↑t))]) (st' := [.ref (ad 33), .int ((fun k => zI ↑(σ 3 3 k)) s), .int (zI ↑s), .ref (ad 33), .ref (ad pl), .int (zI ↑s), .ref (ad 137)]) rfl ?_
  refine v_get rfl hc1.2.2.2.2.1.1 rfl ?_
  refine v_run 1 (pc' := 49) (ls' := [some (.ref (ad 0)), some (.int (zI ↑s)), some (.int (zI ↑t))]) (st' := [.int (zI ↑t), .ref (Rm ad 33 4), .int ((fun k => zI ↑(σ 3 3 k)) s), .int (zI ↑s), .ref (ad 33), .ref (ad pl), .int (zI ↑s), .ref (ad 137)]) rfl ?_
  refine v_iaload' rfl hc1.2.2.2.2.1.2.2.1 (i := t) rfl (by omega) ?_
  refine v_callV (My := mX4_goodDays) (As := [.ref (ad 33), .int (zI ↑s), .int ((fun k => zI ↑(σ 3 3 k)) s), .int ((fun k => zI ↑(σ 3 4 k)) t)]) (rest := [.int (zI ↑s), .ref (ad 137)]) (mc := 0) (ms := 0) rfl caX4_goodDays rfl rfl rfl hc1.2.2.1.1 rfl rfl (k_goodDays G _ s (σ 3 3 s) (σ 3 4 t) hc1.2.2.1 hok.1 hc1.2.2.2.2.1 (hok.2.2 3 (by decide)) (by omega) q4t q3s) rfl rfl (Nat.le_of_ble_eq_true rfl) (by omega) ?_
  rintro _ _ ⟨rfl, rfl⟩
  refine v_run 0 (pc' := 53) (ls' := [some (.ref (ad 0)), some (.int (zI ↑s)), some (.int (zI ↑t))]) (st' := [.int (zI ↑(cGood (σ 1 1 0) (σ 1 4 (σ 3 4 t)) (σ 3 3 s) (σ 3 0 0) (σ 3 5 s))), .int (zI ↑s), .ref (ad 137)]) rfl ?_
  refine v_iastore' rfl hS1.2 (i := s) rfl (by omega) ?_
  rw [ar_upd]
  generalize he2 : hset h1 (ad (136 + 1)) (ar 6 (fun j => if j = s then cGood (σ 1 1 0) (σ 1 4 (σ 3 4 t)) (σ 3 3 s) (σ 3 0 0) (σ 3 5 s) else (sE σ E) j)) = h2
  have hE2 : ∀ k, (fun j => if j = s then cGood (σ 1 1 0) (σ 1 4 (σ 3 4 t)) (σ 3 3 s) (σ 3 0 0) (σ 3 5 s) else sE σ E j) k ≤ 99 := fun k => by dsimp only; split; exact cGood_le; exact sE_le σ hE k
  have hc2 : CW0 h2 ad pl σ := he2 ▸ hc1.spans hA hE2
  have hS2 : SpanAt h2 (ad 136) (ad 137) (fun j => if j = s then cGood (σ 1 1 0) (σ 1 4 (σ 3 4 t)) (σ 3 3 s) (σ 3 0 0) (σ 3 5 s) else sE σ E j) := he2 ▸ ⟨(hset_ne _ _ (ad_ne hA (by omega))).trans hS1.1, hset_self _ _ _⟩
  have hf2 : frP ad pl h h2 := he2 ▸ hf1.set hA hc.1 (by omega) _
  refine v_run 1 (pc' := 55) (ls' := [some (.ref (ad 0)), some (.int (zI ↑s)), some (.int (zI ↑t))]) (st' := [.ref (ad 0)]) rfl ?_
  refine v_get rfl hc2.2.1 rfl ?_
  refine v_run 0 (pc' := 58) (ls' := [some (.ref (ad 0)), some (.int (zI ↑s)), some (.int (zI ↑t))]) (st' := [.ref (ad 136)]) rfl ?_
  refine v_get rfl hS2.1 rfl ?_
  refine v_run 2 (pc' := 63) (ls' := [some (.ref (ad 0)), some (.int (zI ↑s)), some (.int (zI ↑t))]) (st' := [.ref (ad 0), .int (zI ↑t), .ref (ad 137)]) rfl ?_
  refine v_get rfl hc2.2.1 rfl ?_
  refine v_run 1 (pc' := 67) (ls' := [some (.ref (ad 0)), some (.int (zI ↑s)), some (.int (zI ↑t))]) (st' := [.ref (ad 0), .ref (ad pl), .int (zI ↑t), .ref (ad 137)]) rfl ?_
  refine v_get rfl hc2.2.1 rfl ?_
  refine v_run 2 (pc' := 72) (ls' := [some (.ref (ad 0)), some (.int (zI ↑s)), some (.int (zI ↑t))]) (st' := [.ref (ad 0), .int (zI ↑t), .ref (ad 33), .ref (ad pl), .int (zI ↑t), .ref (ad 137)]) rfl ?_
  refine v_get rfl hc2.2.1 rfl ?_
  refine v_run 0 (pc' := 75) (ls' := [some (.ref (ad 0)), some (.int (zI ↑s)), some (.int (zI ↑t))]) (st' := [.ref (ad 33), .int (zI ↑t), .ref (ad 33), .ref (ad pl), .int (zI ↑t), .ref (ad 137)]) rfl ?_
  refine v_get rfl hc2.2.2.2.2.1.1 rfl ?_
  refine v_run 1 (pc' := 79) (ls' := [some (.ref (ad 0)), some (.int (zI ↑s)), some (.int (zI ↑t))]) (st' := [.int (zI ↑t), .ref (Rm ad 33 3), .int (zI ↑t), .ref (ad 33), .ref (ad pl), .int (zI ↑t), .ref (ad 137)]) rfl ?_
  refine v_iaload' rfl hc2.2.2.2.2.1.2.1 (i := t) rfl (by omega) ?_
  refine v_run 1 (pc' := 81) (ls' := [some (.ref (ad 0)), some (.int (zI ↑s)), some (.int (zI ↑t))]) (st' := [.ref (ad 0), .int ((fun k => zI ↑(σ 3 3 k)) t), .int (zI ↑t), .ref (ad 33), .ref (ad pl), .int (zI ↑t), .ref (ad 137)]) rfl ?_
  refine v_get rfl hc2.2.1 rfl ?_
  refine v_run 0 (pc' := 84) (ls' := [some (.ref (ad 0)), some (.int (zI ↑s)), some (.int (zI ↑t))]) (st' := [.ref (ad 33), .int ((fun k => zI ↑(σ 3 3 k)) t), .int (zI ↑t), .ref (ad 33), .ref (ad pl), .int (zI ↑t), .ref (ad 137)]) rfl ?_
  refine v_get rfl hc2.2.2.2.2.1.1 rfl ?_
  refine v_run 1 (pc' := 88) (ls' := [some (.ref (ad 0)), some (.int (zI ↑s)), some (.int (zI ↑t))]) (st' := [.int (zI ↑s), .ref (Rm ad 33 4), .int ((fun k => zI ↑(σ 3 3 k)) t), .int (zI ↑t), .ref (ad 33), .ref (ad pl), .int (zI ↑t), .ref (ad 137)]) rfl ?_
  refine v_iaload' rfl hc2.2.2.2.2.1.2.2.1 (i := s) rfl (by omega) ?_
  refine v_callV (My := mX4_goodDays) (As := [.ref (ad 33), .int (zI ↑t), .int ((fun k => zI ↑(σ 3 3 k)) t), .int ((fun k => zI ↑(σ 3 4 k)) s)]) (rest := [.int (zI ↑t), .ref (ad 137)]) (mc := 0) (ms := 0) rfl caX4_goodDays rfl rfl rfl hc2.2.2.1.1 rfl rfl (k_goodDays G _ t (σ 3 3 t) (σ 3 4 s) hc2.2.2.1 hok.1 hc2.2.2.2.2.1 (hok.2.2 3 (by decide)) (by omega) q4s q3t) rfl rfl (Nat.le_of_ble_eq_true rfl) (by omega) ?_
  rintro _ _ ⟨rfl, rfl⟩
  refine v_run 0 (pc' := 92) (ls' := [some (.ref (ad 0)), some (.int (zI ↑s)), some (.int (zI ↑t))]) (st' := [.int (zI ↑(cGood (σ 1 1 0) (σ 1 4 (σ 3 4 s)) (σ 3 3 t) (σ 3 0 0) (σ 3 5 t))), .int (zI ↑t), .ref (ad 137)]) rfl ?_
  refine v_iastore' rfl hS2.2 (i := t) rfl (by omega) ?_
  rw [ar_upd]
  generalize he3 : hset h2 (ad (136 + 1)) (ar 6 (fun j => if j = t then cGood (σ 1 1 0) (σ 1 4 (σ 3 4 s)) (σ 3 3 t) (σ 3 0 0) (σ 3 5 t) else (fun j => if j = s then cGood (σ 1 1 0) (σ 1 4 (σ 3 4 t)) (σ 3 3 s) (σ 3 0 0) (σ 3 5 s) else sE σ E j) j)) = h3
  have hE3 : ∀ k, (fun j => if j = t then cGood (σ 1 1 0) (σ 1 4 (σ 3 4 s)) (σ 3 3 t) (σ 3 0 0) (σ 3 5 t) else (fun j => if j = s then cGood (σ 1 1 0) (σ 1 4 (σ 3 4 t)) (σ 3 3 s) (σ 3 0 0) (σ 3 5 s) else sE σ E j) j) k ≤ 99 := fun k => by dsimp only; split; exact cGood_le; exact hE2 k
  have hc3 : CW0 h3 ad pl σ := he3 ▸ hc2.spans hA hE3
  have hS3 : SpanAt h3 (ad 136) (ad 137) (fun j => if j = t then cGood (σ 1 1 0) (σ 1 4 (σ 3 4 s)) (σ 3 3 t) (σ 3 0 0) (σ 3 5 t) else (fun j => if j = s then cGood (σ 1 1 0) (σ 1 4 (σ 3 4 t)) (σ 3 3 s) (σ 3 0 0) (σ 3 5 s) else sE σ E j) j) := he3 ▸ ⟨(hset_ne _ _ (ad_ne hA (by omega))).trans hS2.1, hset_self _ _ _⟩
  have hf3 : frP ad pl h h3 := he3 ▸ hf2.set hA hc.1 (by omega) _
  refine v_run 1 (pc' := 94) (ls' := [some (.ref (ad 0)), some (.int (zI ↑s)), some (.int (zI ↑t))]) (st' := [.ref (ad 0)]) rfl ?_
  refine v_get rfl hc3.2.1 rfl ?_
  refine v_run 1 (pc' := 98) (ls' := [some (.ref (ad 0)), some (.int (zI ↑s)), some (.int (zI ↑t))]) (st' := [.ref (ad 0), .ref (ad 136)]) rfl ?_
  refine v_get rfl hc3.2.1 rfl ?_
  refine v_run 0 (pc' := 101) (ls' := [some (.ref (ad 0)), some (.int (zI ↑s)), some (.int (zI ↑t))]) (st' := [.ref (ad pl), .ref (ad 136)]) rfl ?_
  refine v_get rfl hc3.2.2.1.1 rfl ?_
  refine v_run 1 (pc' := 105) (ls' := [some (.ref (ad 0)), some (.int (zI ↑s)), some (.int (zI ↑t))]) (st' := [.ref (ad 0), .int (zI ↑(σ 1 5 0)), .ref (ad 136)]) rfl ?_
  refine v_get rfl hc3.2.1 rfl ?_
  refine v_run 0 (pc' := 108) (ls' := [some (.ref (ad 0)), some (.int (zI ↑s)), some (.int (zI ↑t))]) (st' := [.ref (ad pl), .int (zI ↑(σ 1 5 0)), .ref (ad 136)]) rfl ?_
  refine v_get rfl hc3.2.2.1.1 rfl ?_
  refine v_run 0 (pc' := 111) (ls' := [some (.ref (ad 0)), some (.int (zI ↑s)), some (.int (zI ↑t))]) (st' := [.int (zI ↑(σ 1 0 0)), .int (zI ↑(σ 1 5 0)), .ref (ad 136)]) rfl ?_
  refine v_callV (My := mX6_quorumDays) (As := [.int (zI ↑(σ 1 5 0)), .int (zI ↑(σ 1 0 0))]) (rest := []) (mc := 0) (ms := 0) rfl caX6_quorumDays rfl rfl rfl hS3.1 rfl rfl (k_quorumDays G _ (σ 1 5 0) (σ 1 0 0) hS3 hE3 i5 i0) rfl rfl (Nat.le_of_ble_eq_true rfl) (by omega) ?_
  rintro _ _ ⟨rfl, rfl⟩
  refine v_run 0 (pc' := 114) (ls' := [some (.ref (ad 0)), some (.int (zI ↑s)), some (.int (zI ↑t))]) (st' := [.int (zI ↑(cQD (fun j => if j = t then cGood (σ 1 1 0) (σ 1 4 (σ 3 4 s)) (σ 3 3 t) (σ 3 0 0) (σ 3 5 t) else (fun j => if j = s then cGood (σ 1 1 0) (σ 1 4 (σ 3 4 t)) (σ 3 3 s) (σ 3 0 0) (σ 3 5 s) else sE σ E j) j) (σ 1 5 0) (σ 1 0 0) (σ 1 5 0)))]) rfl ?_
  exact v_iret rfl rfl rfl ⟨by unfold sSwap; exact congrArg (fun z : Nat => some (Value.int (zI ↑z))) (cQD_congr _ _ (fun k hk => by simp only [sE_eq σ E k hk]) _ (Nat.le_refl _)), hc3, hf3⟩

