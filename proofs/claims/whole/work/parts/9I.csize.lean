def aSizN (σ : sT) (L : Int) (k : Nat) : Int := match k with
  | 0 => ↑(σ 1 0 0)
  | 1 => ↑(σ 1 1 0)
  | 2 => ↑(σ 1 2 0)
  | 3 => ↑(σ 3 1 0)
  | 4 => ↑(σ 1 3 0)
  | 5 => ↑(σ 1 5 0)
  | 6 => ↑(σ 1 7 0)
  | 7 => ↑(σ 1 11 0)
  | 8 => ↑(σ 1 12 0)
  | 9 => if σ 1 13 0 = 0 then 0 else 1
  | 10 => ↑(popN (σ 1 14 0 ||| σ 1 15 0))
  | 11 => ↑(σ 3 0 0)
  | 12 => ↑(σ 3 2 0)
  | 13 => ↑(σ 4 0 0)
  | 14 => ↑(σ 0 5 0)
  | _ => L
def aSize (σ : sT) (L : Int) (s : Int) : Int := if 0 ≤ s ∧ s ≤ 15 then aSizN σ L s.toNat else -1
set_option maxRecDepth 100000 in
set_option maxHeartbeats 400000 in
theorem k_sizeBehind (G : ssG) (h : ssH) {ad : Nat → Nat} {pl : Nat} {σ : sT} {s L : Int} {fp fr : List Value} (hc : CW0 h ad pl σ) (hok : sOk σ) (hp : h (ad 1) = some (.inr (3, .ref (ad 2) :: fp))) (hr : h (ad 2) = some (.inr (5, .int (zI L) :: fr))) (hs : -2147483648 ≤ s ∧ s < 2147483648) (h8 : ¬ (0 ≤ s ∧ s ≤ 7)) : ssC G mX8_sizeBehind 1 0 0 [.ref (ad 0), .int (zI s)] h (rI (zI (aSize σ L s)) h) := by
  refine c_of_v okX8_sizeBehind (by decide +kernel) (ls := [some (.ref (ad 0)), some (.int (zI s))]) rfl (Nat.le_of_ble_eq_true rfl) ?_
  obtain ⟨i0, i1, i2, i3, i5, i7, a4, a6, a8, a9, a10, i11, i12, i14, i15⟩ := id hok.1
  obtain ⟨j0, j1, j2, b3, b4, b5, b6⟩ := id (hok.2.2 3 (by decide))
  have i13 := hok.2.1
  have hpl := hc.1
  simp only [fI] at i0 i1 i2 i3 i5 i7 i11 i12 i14 i15 j0 j1 j2
  refine v_run 1 (pc' := 1) (ls' := [some (.ref (ad 0)), some (.int (zI s))]) (st' := [.int (zI s)]) rfl ?_
  by_cases hr0 : 8 ≤ s ∧ s ≤ 15
  · obtain ⟨k, rfl⟩ : ∃ k : Nat, s = ↑k := ⟨s.toNat, by omega⟩
    rw [show aSize σ L ↑k = aSizN σ L k from (if_pos (by omega)).trans (by rw [Int.toNat_natCast])]
    rcases (show k = 8 ∨ k = 9 ∨ k = 10 ∨ k = 11 ∨ k = 12 ∨ k = 13 ∨ k = 14 ∨ k = 15 by omega) with rfl | rfl | rfl | rfl | rfl | rfl | rfl | rfl
    · refine v_tabIn (off := 47) (t := 48) rfl (by decide +kernel) (by decide +kernel) (by decide +kernel) (by decide) ?_
      refine v_run 1 (pc' := 49) (ls' := [some (.ref (ad 0)), some (.int (zI ↑(8 : Nat)))]) (st' := [.ref (ad 0)]) rfl ?_
      refine v_get rfl hc.2.1 rfl ?_
      refine v_run 0 (pc' := 52) (ls' := [some (.ref (ad 0)), some (.int (zI ↑(8 : Nat)))]) (st' := [.ref (ad pl)]) rfl ?_
      refine v_get rfl hc.2.2.1.1 rfl ?_
      refine v_run 0 (pc' := 55) (ls' := [some (.ref (ad 0)), some (.int (zI ↑(8 : Nat)))]) (st' := [.int (zI ↑(σ 1 12 0))]) rfl ?_
      exact v_iret rfl rfl rfl ⟨rfl, rfl⟩
    · refine v_tabIn (off := 55) (t := 56) rfl (by decide +kernel) (by decide +kernel) (by decide +kernel) (by decide) ?_
      refine v_run 1 (pc' := 57) (ls' := [some (.ref (ad 0)), some (.int (zI ↑(9 : Nat)))]) (st' := [.ref (ad 0)]) rfl ?_
      refine v_get rfl hc.2.1 rfl ?_
      refine v_run 0 (pc' := 60) (ls' := [some (.ref (ad 0)), some (.int (zI ↑(9 : Nat)))]) (st' := [.ref (ad pl)]) rfl ?_
      refine v_get rfl hc.2.2.1.1 rfl ?_
      refine v_run 0 (pc' := 63) (ls' := [some (.ref (ad 0)), some (.int (zI ↑(9 : Nat)))]) (st' := [.int (zI (↑(σ 1 13 0) - 1))]) rfl ?_
      refine v_if_lt rfl (fun c63 => ?_) (fun c63 => ?_)
      · simp (disch := omega) only [zI_lt, zI_le, zI_eq, zI_lt0, zI_le0, zI_0lt, zI_0le, zI_eq0] at c63
        refine v_run 1 (pc' := 71) (ls' := [some (.ref (ad 0)), some (.int (zI ↑(9 : Nat)))]) (st' := [.int (zI 0)]) rfl ?_
        exact v_iret rfl rfl rfl ⟨by rw [show aSizN σ L 9 = 0 from if_pos (by omega)], rfl⟩
      · simp (disch := omega) only [zI_lt, zI_le, zI_eq, zI_lt0, zI_le0, zI_0lt, zI_0le, zI_eq0] at c63
        refine v_run 2 (pc' := 71) (ls' := [some (.ref (ad 0)), some (.int (zI ↑(9 : Nat)))]) (st' := [.int (zI 1)]) rfl ?_
        exact v_iret rfl rfl rfl ⟨by rw [show aSizN σ L 9 = 1 from if_neg (by omega)], rfl⟩
    · refine v_tabIn (off := 71) (t := 72) rfl (by decide +kernel) (by decide +kernel) (by decide +kernel) (by decide) ?_
      refine v_run 1 (pc' := 73) (ls' := [some (.ref (ad 0)), some (.int (zI ↑(10 : Nat)))]) (st' := [.ref (ad 0)]) rfl ?_
      refine v_get rfl hc.2.1 rfl ?_
      refine v_run 0 (pc' := 76) (ls' := [some (.ref (ad 0)), some (.int (zI ↑(10 : Nat)))]) (st' := [.ref (ad pl)]) rfl ?_
      refine v_get rfl hc.2.2.1.1 rfl ?_
      refine v_run 1 (pc' := 80) (ls' := [some (.ref (ad 0)), some (.int (zI ↑(10 : Nat)))]) (st' := [.ref (ad 0), .int (zI ↑(σ 1 14 0))]) rfl ?_
      refine v_get rfl hc.2.1 rfl ?_
      refine v_run 0 (pc' := 83) (ls' := [some (.ref (ad 0)), some (.int (zI ↑(10 : Nat)))]) (st' := [.ref (ad pl), .int (zI ↑(σ 1 14 0))]) rfl ?_
      refine v_get rfl hc.2.2.1.1 rfl ?_
      refine v_run 1 (pc' := 87) (ls' := [some (.ref (ad 0)), some (.int (zI ↑(10 : Nat)))]) (st' := [.int ((zI ↑(σ 1 14 0)) ||| (zI ↑(σ 1 15 0)))]) rfl ?_
      rw [zI_lor (by omega) (by omega)]
      refine v_callS (My := mJ6_bitCount_0f7a4) (As := [.int (zI ↑(σ 1 14 0 ||| σ 1 15 0))]) (rest := []) (mc := 0) (ms := 0) rfl caJ6_bitCount_0f7a4 rfl rfl (k_bitCount G _ _ (Nat.or_lt_two_pow (n := 6) (by omega) (by omega))) rfl rfl (Nat.le_of_ble_eq_true rfl) (by omega) ?_
      rintro _ _ ⟨rfl, rfl⟩
      refine v_run 0 (pc' := 90) (ls' := [some (.ref (ad 0)), some (.int (zI ↑(10 : Nat)))]) (st' := [.int (zI ↑(popN (σ 1 14 0 ||| σ 1 15 0)))]) rfl ?_
      exact v_iret rfl rfl rfl ⟨rfl, rfl⟩
    · refine v_tabIn (off := 90) (t := 91) rfl (by decide +kernel) (by decide +kernel) (by decide +kernel) (by decide) ?_
      refine v_run 1 (pc' := 92) (ls' := [some (.ref (ad 0)), some (.int (zI ↑(11 : Nat)))]) (st' := [.ref (ad 0)]) rfl ?_
      refine v_get rfl hc.2.1 rfl ?_
      refine v_run 0 (pc' := 95) (ls' := [some (.ref (ad 0)), some (.int (zI ↑(11 : Nat)))]) (st' := [.ref (ad 33)]) rfl ?_
      refine v_get rfl hc.2.2.2.2.1.1 rfl ?_
      refine v_run 0 (pc' := 98) (ls' := [some (.ref (ad 0)), some (.int (zI ↑(11 : Nat)))]) (st' := [.int (zI ↑(σ 3 0 0))]) rfl ?_
      exact v_iret rfl rfl rfl ⟨rfl, rfl⟩
    · refine v_tabIn (off := 98) (t := 99) rfl (by decide +kernel) (by decide +kernel) (by decide +kernel) (by decide) ?_
      refine v_run 1 (pc' := 100) (ls' := [some (.ref (ad 0)), some (.int (zI ↑(12 : Nat)))]) (st' := [.ref (ad 0)]) rfl ?_
      refine v_get rfl hc.2.1 rfl ?_
      refine v_run 0 (pc' := 103) (ls' := [some (.ref (ad 0)), some (.int (zI ↑(12 : Nat)))]) (st' := [.ref (ad 33)]) rfl ?_
      refine v_get rfl hc.2.2.2.2.1.1 rfl ?_
      refine v_run 0 (pc' := 106) (ls' := [some (.ref (ad 0)), some (.int (zI ↑(12 : Nat)))]) (st' := [.int (zI ↑(σ 3 2 0))]) rfl ?_
      exact v_iret rfl rfl rfl ⟨rfl, rfl⟩
    · refine v_tabIn (off := 106) (t := 107) rfl (by decide +kernel) (by decide +kernel) (by decide +kernel) (by decide) ?_
      refine v_run 1 (pc' := 108) (ls' := [some (.ref (ad 0)), some (.int (zI ↑(13 : Nat)))]) (st' := [.ref (ad 0)]) rfl ?_
      refine v_get rfl hc.2.1 rfl ?_
      refine v_run 0 (pc' := 111) (ls' := [some (.ref (ad 0)), some (.int (zI ↑(13 : Nat)))]) (st' := [.ref (ad 38)]) rfl ?_
      refine v_get rfl hc.2.2.2.2.2.1.1 rfl ?_
      refine v_run 0 (pc' := 114) (ls' := [some (.ref (ad 0)), some (.int (zI ↑(13 : Nat)))]) (st' := [.int (zI ↑(σ 4 0 0))]) rfl ?_
      exact v_iret rfl rfl rfl ⟨rfl, rfl⟩
    · refine v_tabIn (off := 114) (t := 115) rfl (by decide +kernel) (by decide +kernel) (by decide +kernel) (by decide) ?_
      refine v_run 1 (pc' := 116) (ls' := [some (.ref (ad 0)), some (.int (zI ↑(14 : Nat)))]) (st' := [.ref (ad 0)]) rfl ?_
      refine v_get rfl hc.2.1 rfl ?_
      refine v_run 0 (pc' := 119) (ls' := [some (.ref (ad 0)), some (.int (zI ↑(14 : Nat)))]) (st' := [.int (zI ↑(σ 0 5 0))]) rfl ?_
      exact v_iret rfl rfl rfl ⟨rfl, rfl⟩
    · refine v_tabIn (off := 119) (t := 120) rfl (by decide +kernel) (by decide +kernel) (by decide +kernel) (by decide) ?_
      refine v_run 1 (pc' := 121) (ls' := [some (.ref (ad 0)), some (.int (zI ↑(15 : Nat)))]) (st' := [.ref (ad 0)]) rfl ?_
      refine v_get rfl hc.2.1 rfl ?_
      refine v_run 0 (pc' := 124) (ls' := [some (.ref (ad 0)), some (.int (zI ↑(15 : Nat)))]) (st' := [.ref (ad 1)]) rfl ?_
      refine v_get rfl hp rfl ?_
      refine v_run 0 (pc' := 127) (ls' := [some (.ref (ad 0)), some (.int (zI ↑(15 : Nat)))]) (st' := [.ref (ad 2)]) rfl ?_
      refine v_get rfl hr rfl ?_
      refine v_run 0 (pc' := 130) (ls' := [some (.ref (ad 0)), some (.int (zI ↑(15 : Nat)))]) (st' := [.int (zI L)]) rfl ?_
      exact v_iret rfl rfl rfl ⟨rfl, rfl⟩
  · refine v_tabOut (t := 131) rfl (by rw [zI_toInt (by omega) (by omega)]; omega) (by decide) ?_
    refine v_run 1 (pc' := 132) (ls' := [some (.ref (ad 0)), some (.int (zI s))]) (st' := [.int (zI (-1))]) rfl ?_
    exact v_iret rfl rfl rfl ⟨by rw [show aSize σ L s = -1 from if_neg (by omega)], rfl⟩

set_option maxRecDepth 100000 in
set_option maxHeartbeats 400000 in
theorem k_size (G : ssG) (h : ssH) {ad : Nat → Nat} {pl : Nat} {σ : sT} {s L : Int} {fp fr : List Value} (hc : CW0 h ad pl σ) (hok : sOk σ) (hp : h (ad 1) = some (.inr (3, .ref (ad 2) :: fp))) (hr : h (ad 2) = some (.inr (5, .int (zI L) :: fr))) (hs : -2147483648 ≤ s ∧ s < 2147483648) : ssC G mX8_size 2 0 0 [.ref (ad 0), .int (zI s)] h (rI (zI (aSize σ L s)) h) := by
  refine c_of_v okX8_size (by decide +kernel) (ls := [some (.ref (ad 0)), some (.int (zI s))]) rfl (Nat.le_of_ble_eq_true rfl) ?_
  obtain ⟨i0, i1, i2, i3, i5, i7, a4, a6, a8, a9, a10, i11, i12, i14, i15⟩ := id hok.1
  obtain ⟨j0, j1, j2, b3, b4, b5, b6⟩ := id (hok.2.2 3 (by decide))
  have i13 := hok.2.1
  have hpl := hc.1
  simp only [fI] at i0 i1 i2 i3 i5 i7 i11 i12 i14 i15 j0 j1 j2
  refine v_run 1 (pc' := 1) (ls' := [some (.ref (ad 0)), some (.int (zI s))]) (st' := [.int (zI s)]) rfl ?_
  by_cases hr0 : 0 ≤ s ∧ s ≤ 7
  · obtain ⟨k, rfl⟩ : ∃ k : Nat, s = ↑k := ⟨s.toNat, by omega⟩
    rw [show aSize σ L ↑k = aSizN σ L k from (if_pos (by omega)).trans (by rw [Int.toNat_natCast])]
    rcases (show k = 0 ∨ k = 1 ∨ k = 2 ∨ k = 3 ∨ k = 4 ∨ k = 5 ∨ k = 6 ∨ k = 7 by omega) with rfl | rfl | rfl | rfl | rfl | rfl | rfl | rfl
    · refine v_tabIn (off := 47) (t := 48) rfl (by decide +kernel) (by decide +kernel) (by decide +kernel) (by decide) ?_
      refine v_run 1 (pc' := 49) (ls' := [some (.ref (ad 0)), some (.int (zI ↑(0 : Nat)))]) (st' := [.ref (ad 0)]) rfl ?_
      refine v_get rfl hc.2.1 rfl ?_
      refine v_run 0 (pc' := 52) (ls' := [some (.ref (ad 0)), some (.int (zI ↑(0 : Nat)))]) (st' := [.ref (ad pl)]) rfl ?_
      refine v_get rfl hc.2.2.1.1 rfl ?_
      refine v_run 0 (pc' := 55) (ls' := [some (.ref (ad 0)), some (.int (zI ↑(0 : Nat)))]) (st' := [.int (zI ↑(σ 1 0 0))]) rfl ?_
      exact v_iret rfl rfl rfl ⟨rfl, rfl⟩
    · refine v_tabIn (off := 55) (t := 56) rfl (by decide +kernel) (by decide +kernel) (by decide +kernel) (by decide) ?_
      refine v_run 1 (pc' := 57) (ls' := [some (.ref (ad 0)), some (.int (zI ↑(1 : Nat)))]) (st' := [.ref (ad 0)]) rfl ?_
      refine v_get rfl hc.2.1 rfl ?_
      refine v_run 0 (pc' := 60) (ls' := [some (.ref (ad 0)), some (.int (zI ↑(1 : Nat)))]) (st' := [.ref (ad pl)]) rfl ?_
      refine v_get rfl hc.2.2.1.1 rfl ?_
      refine v_run 0 (pc' := 63) (ls' := [some (.ref (ad 0)), some (.int (zI ↑(1 : Nat)))]) (st' := [.int (zI ↑(σ 1 1 0))]) rfl ?_
      exact v_iret rfl rfl rfl ⟨rfl, rfl⟩
    · refine v_tabIn (off := 63) (t := 64) rfl (by decide +kernel) (by decide +kernel) (by decide +kernel) (by decide) ?_
      refine v_run 1 (pc' := 65) (ls' := [some (.ref (ad 0)), some (.int (zI ↑(2 : Nat)))]) (st' := [.ref (ad 0)]) rfl ?_
      refine v_get rfl hc.2.1 rfl ?_
      refine v_run 0 (pc' := 68) (ls' := [some (.ref (ad 0)), some (.int (zI ↑(2 : Nat)))]) (st' := [.ref (ad pl)]) rfl ?_
      refine v_get rfl hc.2.2.1.1 rfl ?_
      refine v_run 0 (pc' := 71) (ls' := [some (.ref (ad 0)), some (.int (zI ↑(2 : Nat)))]) (st' := [.int (zI ↑(σ 1 2 0))]) rfl ?_
      exact v_iret rfl rfl rfl ⟨rfl, rfl⟩
    · refine v_tabIn (off := 71) (t := 72) rfl (by decide +kernel) (by decide +kernel) (by decide +kernel) (by decide) ?_
      refine v_run 1 (pc' := 73) (ls' := [some (.ref (ad 0)), some (.int (zI ↑(3 : Nat)))]) (st' := [.ref (ad 0)]) rfl ?_
      refine v_get rfl hc.2.1 rfl ?_
      refine v_run 0 (pc' := 76) (ls' := [some (.ref (ad 0)), some (.int (zI ↑(3 : Nat)))]) (st' := [.ref (ad 33)]) rfl ?_
      refine v_get rfl hc.2.2.2.2.1.1 rfl ?_
      refine v_run 0 (pc' := 79) (ls' := [some (.ref (ad 0)), some (.int (zI ↑(3 : Nat)))]) (st' := [.int (zI ↑(σ 3 1 0))]) rfl ?_
      exact v_iret rfl rfl rfl ⟨rfl, rfl⟩
    · refine v_tabIn (off := 79) (t := 80) rfl (by decide +kernel) (by decide +kernel) (by decide +kernel) (by decide) ?_
      refine v_run 1 (pc' := 81) (ls' := [some (.ref (ad 0)), some (.int (zI ↑(4 : Nat)))]) (st' := [.ref (ad 0)]) rfl ?_
      refine v_get rfl hc.2.1 rfl ?_
      refine v_run 0 (pc' := 84) (ls' := [some (.ref (ad 0)), some (.int (zI ↑(4 : Nat)))]) (st' := [.ref (ad pl)]) rfl ?_
      refine v_get rfl hc.2.2.1.1 rfl ?_
      refine v_run 0 (pc' := 87) (ls' := [some (.ref (ad 0)), some (.int (zI ↑(4 : Nat)))]) (st' := [.int (zI ↑(σ 1 3 0))]) rfl ?_
      exact v_iret rfl rfl rfl ⟨rfl, rfl⟩
    · refine v_tabIn (off := 87) (t := 88) rfl (by decide +kernel) (by decide +kernel) (by decide +kernel) (by decide) ?_
      refine v_run 1 (pc' := 89) (ls' := [some (.ref (ad 0)), some (.int (zI ↑(5 : Nat)))]) (st' := [.ref (ad 0)]) rfl ?_
      refine v_get rfl hc.2.1 rfl ?_
      refine v_run 0 (pc' := 92) (ls' := [some (.ref (ad 0)), some (.int (zI ↑(5 : Nat)))]) (st' := [.ref (ad pl)]) rfl ?_
      refine v_get rfl hc.2.2.1.1 rfl ?_
      refine v_run 0 (pc' := 95) (ls' := [some (.ref (ad 0)), some (.int (zI ↑(5 : Nat)))]) (st' := [.int (zI ↑(σ 1 5 0))]) rfl ?_
      exact v_iret rfl rfl rfl ⟨rfl, rfl⟩
    · refine v_tabIn (off := 95) (t := 96) rfl (by decide +kernel) (by decide +kernel) (by decide +kernel) (by decide) ?_
      refine v_run 1 (pc' := 97) (ls' := [some (.ref (ad 0)), some (.int (zI ↑(6 : Nat)))]) (st' := [.ref (ad 0)]) rfl ?_
      refine v_get rfl hc.2.1 rfl ?_
      refine v_run 0 (pc' := 100) (ls' := [some (.ref (ad 0)), some (.int (zI ↑(6 : Nat)))]) (st' := [.ref (ad pl)]) rfl ?_
      refine v_get rfl hc.2.2.1.1 rfl ?_
      refine v_run 0 (pc' := 103) (ls' := [some (.ref (ad 0)), some (.int (zI ↑(6 : Nat)))]) (st' := [.int (zI ↑(σ 1 7 0))]) rfl ?_
      exact v_iret rfl rfl rfl ⟨rfl, rfl⟩
    · refine v_tabIn (off := 103) (t := 104) rfl (by decide +kernel) (by decide +kernel) (by decide +kernel) (by decide) ?_
      refine v_run 1 (pc' := 105) (ls' := [some (.ref (ad 0)), some (.int (zI ↑(7 : Nat)))]) (st' := [.ref (ad 0)]) rfl ?_
      refine v_get rfl hc.2.1 rfl ?_
      refine v_run 0 (pc' := 108) (ls' := [some (.ref (ad 0)), some (.int (zI ↑(7 : Nat)))]) (st' := [.ref (ad pl)]) rfl ?_
      refine v_get rfl hc.2.2.1.1 rfl ?_
      refine v_run 0 (pc' := 111) (ls' := [some (.ref (ad 0)), some (.int (zI ↑(7 : Nat)))]) (st' := [.int (zI ↑(σ 1 11 0))]) rfl ?_
      exact v_iret rfl rfl rfl ⟨rfl, rfl⟩
  · refine v_tabOut (t := 112) rfl (by rw [zI_toInt (by omega) (by omega)]; omega) (by decide) ?_
    refine v_run 2 (pc' := 114) (ls' := [some (.ref (ad 0)), some (.int (zI s))]) (st' := [.int (zI s), .ref (ad 0)]) rfl ?_
    refine v_callV (My := mX8_sizeBehind) (As := [.int (zI s)]) (rest := []) (mc := 0) (ms := 0) rfl caX8_sizeBehind rfl rfl rfl hc.2.1 rfl rfl (k_sizeBehind G _ hc hok hp hr hs (by omega)) rfl rfl (Nat.le_of_ble_eq_true rfl) (by omega) ?_
    rintro _ _ ⟨rfl, rfl⟩
    refine v_run 0 (pc' := 117) (ls' := [some (.ref (ad 0)), some (.int (zI s))]) (st' := [.int (zI (aSize σ L s))]) rfl ?_
    exact v_iret rfl rfl rfl ⟨rfl, rfl⟩

