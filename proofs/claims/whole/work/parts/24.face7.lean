def fsA (σ : sT) (a al : Nat) : Nat → Nat × Nat
  | 0 => (0, 6)
  | s + 1 => if s / 2 ^ a % 2 = 0 ∧ andn (cRO (σ 1 10) (σ 1 7 0) a s) al = 0 ∧ popN s < (fsA σ a al s).2 then (s, popN s) else fsA σ a al s
theorem fsA_le (σ : sT) (a al : Nat) : ∀ s, (fsA σ a al s).2 ≤ 6 ∧ (fsA σ a al s).1 ≤ s
  | 0 => by simp [fsA]
  | s + 1 => by
    have := fsA_le σ a al s
    simp only [fsA]
    split
    · exact ⟨popN_le s, by dsimp only; omega⟩
    · exact ⟨this.1, by omega⟩
theorem fsA_t (σ : sT) (a al s : Nat) (h : s / 2 ^ a % 2 = 0 ∧ andn (cRO (σ 1 10) (σ 1 7 0) a s) al = 0 ∧ popN s < (fsA σ a al s).2) : fsA σ a al (s + 1) = (s, popN s) := if_pos h
theorem fsA_f (σ : sT) (a al s : Nat) (h : ¬ (s / 2 ^ a % 2 = 0 ∧ andn (cRO (σ 1 10) (σ 1 7 0) a s) al = 0 ∧ popN s < (fsA σ a al s).2)) : fsA σ a al (s + 1) = fsA σ a al s := if_neg h
def aStrike (σ : sT) (s : Int) : Int × Nat := if s < 0 ∨ ↑(σ 1 7 0) ≤ s then (-1, 1) else if sAlone σ / 2 ^ s.toNat % 2 = 0 then (-2, 0) else (↑(fsA σ s.toNat (sAlone σ) (2 ^ σ 1 7 0)).1, 0)
def sAl0 (σ : sT) (s : Nat) : Nat := setN (cAloneP (σ 1 0 0) (σ 1 5 0) (σ 1 8) (σ 1 9) (σ 1 6) (σ 3 0 0) (σ 3 6) (fun j => if j = s then 0 else sG σ j)) (σ 1 7 0)
theorem sAl0_eq (σ : sT) (E : Nat → Nat) (s : Nat) : setN (cAloneP (σ 1 0 0) (σ 1 5 0) (σ 1 8) (σ 1 9) (σ 1 6) (σ 3 0 0) (σ 3 6) (fun j => if j = s then 0 else sE σ E j)) (σ 1 7 0) = sAl0 σ s :=
  setN_congr _ (fun k _ => by simp only [cAloneP]; rw [cThen_congr (F := fun j => if j = s then 0 else sG σ j) (fun j hj => by simp only [sE_eq σ E j hj])])
def kmA (σ : sT) : Nat → Int × Nat
  | 0 => (-2, 6)
  | s + 1 => if popN (sAmong σ (sAl0 σ s)) < (kmA σ s).2 then (↑s, popN (sAmong σ (sAl0 σ s))) else kmA σ s
theorem kmA_le (σ : sT) : ∀ s, (kmA σ s).2 ≤ 6
  | 0 => by simp [kmA]
  | s + 1 => by
    simp only [kmA]
    split
    · exact popN_le _
    · exact kmA_le σ s
theorem kmA_t (σ : sT) (s : Nat) (h : popN (sAmong σ (sAl0 σ s)) < (kmA σ s).2) : kmA σ (s + 1) = (↑s, popN (sAmong σ (sAl0 σ s))) := if_pos h
theorem kmA_f (σ : sT) (s : Nat) (h : ¬ popN (sAmong σ (sAl0 σ s)) < (kmA σ s).2) : kmA σ (s + 1) = kmA σ s := if_neg h
def aKeyMan (σ : sT) : Int × Nat := if σ 1 5 0 = 0 then (-1, 1) else ((kmA σ (σ 1 5 0)).1, 0)
set_option maxRecDepth 100000 in
set_option maxHeartbeats 400000 in
theorem k_ntz1 (G : ssG) (h : ssH)   : ssC G mJ6_numberOfTrailingZeros_0f7a4 0 0 0 [.int (zI 1)] h (rI (zI 0) h) := by
  refine c_of_v okJ6_numberOfTrailingZeros_0f7a4 (by decide +kernel) (ls := [some (.int (zI 1)), none]) rfl (Nat.le_of_ble_eq_true rfl) ?_
  refine v_run 7 (pc' := 7) (ls' := [some (.int (zI 1)), none]) (st' := [.int (((zI 1) ^^^ (zI (-1))) &&& ((zI 1) - (zI 1)))]) rfl ?_
  rw [show (((zI 1) ^^^ (zI (-1))) &&& ((zI 1) - (zI 1)) : Int32) = zI 0 from by decide +kernel]
  refine v_run 2 (pc' := 9) (ls' := [some (.int (zI 0)), none]) (st' := [.int (zI 0)]) rfl ?_
  refine v_if_gt rfl (fun c9 => ?_) (fun c9 => ?_)
  · exact absurd c9 (by decide +kernel)
  · refine v_run 3 (pc' := 16) (ls' := [some (.int (zI 0)), none]) (st' := [.int ((zI 0) &&& (zI 32))]) rfl ?_
    rw [show ((zI 0) &&& (zI 32) : Int32) = zI 0 from by decide +kernel]
    exact v_iret rfl rfl rfl ⟨rfl, rfl⟩

set_option maxRecDepth 100000 in
set_option maxHeartbeats 400000 in
theorem k_ntz2 (G : ssG) (h : ssH)   : ssC G mJ6_numberOfTrailingZeros_0f7a4 0 0 0 [.int (zI 2)] h (rI (zI 1) h) := by
  refine c_of_v okJ6_numberOfTrailingZeros_0f7a4 (by decide +kernel) (ls := [some (.int (zI 2)), none]) rfl (Nat.le_of_ble_eq_true rfl) ?_
  refine v_run 7 (pc' := 7) (ls' := [some (.int (zI 2)), none]) (st' := [.int (((zI 2) ^^^ (zI (-1))) &&& ((zI 2) - (zI 1)))]) rfl ?_
  rw [show (((zI 2) ^^^ (zI (-1))) &&& ((zI 2) - (zI 1)) : Int32) = zI 1 from by decide +kernel]
  refine v_run 2 (pc' := 9) (ls' := [some (.int (zI 1)), none]) (st' := [.int (zI 1)]) rfl ?_
  refine v_if_gt rfl (fun c9 => ?_) (fun c9 => ?_)
  · refine v_run 4 (pc' := 23) (ls' := [some (.int (zI 1)), some (.int (zI 1))]) (st' := [.int (zI 65536), .int (zI 1)]) rfl ?_
    refine v_icmp_le rfl (fun c23 => ?_) (fun c23 => ?_)
    · refine v_run 2 (pc' := 38) (ls' := [some (.int (zI 1)), some (.int (zI 1))]) (st' := [.int (zI 256), .int (zI 1)]) rfl ?_
      refine v_icmp_le rfl (fun c38 => ?_) (fun c38 => ?_)
      · refine v_run 2 (pc' := 52) (ls' := [some (.int (zI 1)), some (.int (zI 1))]) (st' := [.int (zI 16), .int (zI 1)]) rfl ?_
        refine v_icmp_le rfl (fun c52 => ?_) (fun c52 => ?_)
        · refine v_run 2 (pc' := 64) (ls' := [some (.int (zI 1)), some (.int (zI 1))]) (st' := [.int (zI 4), .int (zI 1)]) rfl ?_
          refine v_icmp_le rfl (fun c64 => ?_) (fun c64 => ?_)
          · refine v_run 5 (pc' := 79) (ls' := [some (.int (zI 1)), some (.int (zI 1))]) (st' := [.int ((zI 1) + (((zI 1).toUInt32 >>> ((zI 1).toUInt32 &&& Int32.toUInt32 31)).toInt32))]) rfl ?_
            rw [show ((zI 1) + (((zI 1).toUInt32 >>> ((zI 1).toUInt32 &&& Int32.toUInt32 31)).toInt32) : Int32) = zI 1 from by decide +kernel]
            exact v_iret rfl rfl rfl ⟨rfl, rfl⟩
          · exact absurd c64 (by decide +kernel)
        · exact absurd c52 (by decide +kernel)
      · exact absurd c38 (by decide +kernel)
    · exact absurd c23 (by decide +kernel)
  · exact absurd c9 (by decide +kernel)

set_option maxRecDepth 100000 in
set_option maxHeartbeats 400000 in
theorem k_ntz3 (G : ssG) (h : ssH)   : ssC G mJ6_numberOfTrailingZeros_0f7a4 0 0 0 [.int (zI 3)] h (rI (zI 0) h) := by
  refine c_of_v okJ6_numberOfTrailingZeros_0f7a4 (by decide +kernel) (ls := [some (.int (zI 3)), none]) rfl (Nat.le_of_ble_eq_true rfl) ?_
  refine v_run 7 (pc' := 7) (ls' := [some (.int (zI 3)), none]) (st' := [.int (((zI 3) ^^^ (zI (-1))) &&& ((zI 3) - (zI 1)))]) rfl ?_
  rw [show (((zI 3) ^^^ (zI (-1))) &&& ((zI 3) - (zI 1)) : Int32) = zI 0 from by decide +kernel]
  refine v_run 2 (pc' := 9) (ls' := [some (.int (zI 0)), none]) (st' := [.int (zI 0)]) rfl ?_
  refine v_if_gt rfl (fun c9 => ?_) (fun c9 => ?_)
  · exact absurd c9 (by decide +kernel)
  · refine v_run 3 (pc' := 16) (ls' := [some (.int (zI 0)), none]) (st' := [.int ((zI 0) &&& (zI 32))]) rfl ?_
    rw [show ((zI 0) &&& (zI 32) : Int32) = zI 0 from by decide +kernel]
    exact v_iret rfl rfl rfl ⟨rfl, rfl⟩

set_option maxRecDepth 100000 in
set_option maxHeartbeats 400000 in
theorem k_ntz4 (G : ssG) (h : ssH)   : ssC G mJ6_numberOfTrailingZeros_0f7a4 0 0 0 [.int (zI 4)] h (rI (zI 2) h) := by
  refine c_of_v okJ6_numberOfTrailingZeros_0f7a4 (by decide +kernel) (ls := [some (.int (zI 4)), none]) rfl (Nat.le_of_ble_eq_true rfl) ?_
  refine v_run 7 (pc' := 7) (ls' := [some (.int (zI 4)), none]) (st' := [.int (((zI 4) ^^^ (zI (-1))) &&& ((zI 4) - (zI 1)))]) rfl ?_
  rw [show (((zI 4) ^^^ (zI (-1))) &&& ((zI 4) - (zI 1)) : Int32) = zI 3 from by decide +kernel]
  refine v_run 2 (pc' := 9) (ls' := [some (.int (zI 3)), none]) (st' := [.int (zI 3)]) rfl ?_
  refine v_if_gt rfl (fun c9 => ?_) (fun c9 => ?_)
  · refine v_run 4 (pc' := 23) (ls' := [some (.int (zI 3)), some (.int (zI 1))]) (st' := [.int (zI 65536), .int (zI 3)]) rfl ?_
    refine v_icmp_le rfl (fun c23 => ?_) (fun c23 => ?_)
    · refine v_run 2 (pc' := 38) (ls' := [some (.int (zI 3)), some (.int (zI 1))]) (st' := [.int (zI 256), .int (zI 3)]) rfl ?_
      refine v_icmp_le rfl (fun c38 => ?_) (fun c38 => ?_)
      · refine v_run 2 (pc' := 52) (ls' := [some (.int (zI 3)), some (.int (zI 1))]) (st' := [.int (zI 16), .int (zI 3)]) rfl ?_
        refine v_icmp_le rfl (fun c52 => ?_) (fun c52 => ?_)
        · refine v_run 2 (pc' := 64) (ls' := [some (.int (zI 3)), some (.int (zI 1))]) (st' := [.int (zI 4), .int (zI 3)]) rfl ?_
          refine v_icmp_le rfl (fun c64 => ?_) (fun c64 => ?_)
          · refine v_run 5 (pc' := 79) (ls' := [some (.int (zI 3)), some (.int (zI 1))]) (st' := [.int ((zI 1) + (((zI 3).toUInt32 >>> ((zI 1).toUInt32 &&& Int32.toUInt32 31)).toInt32))]) rfl ?_
            rw [show ((zI 1) + (((zI 3).toUInt32 >>> ((zI 1).toUInt32 &&& Int32.toUInt32 31)).toInt32) : Int32) = zI 2 from by decide +kernel]
            exact v_iret rfl rfl rfl ⟨rfl, rfl⟩
          · exact absurd c64 (by decide +kernel)
        · exact absurd c52 (by decide +kernel)
      · exact absurd c38 (by decide +kernel)
    · exact absurd c23 (by decide +kernel)
  · exact absurd c9 (by decide +kernel)

set_option maxRecDepth 100000 in
set_option maxHeartbeats 400000 in
theorem k_ntz5 (G : ssG) (h : ssH)   : ssC G mJ6_numberOfTrailingZeros_0f7a4 0 0 0 [.int (zI 5)] h (rI (zI 0) h) := by
  refine c_of_v okJ6_numberOfTrailingZeros_0f7a4 (by decide +kernel) (ls := [some (.int (zI 5)), none]) rfl (Nat.le_of_ble_eq_true rfl) ?_
  refine v_run 7 (pc' := 7) (ls' := [some (.int (zI 5)), none]) (st' := [.int (((zI 5) ^^^ (zI (-1))) &&& ((zI 5) - (zI 1)))]) rfl ?_
  rw [show (((zI 5) ^^^ (zI (-1))) &&& ((zI 5) - (zI 1)) : Int32) = zI 0 from by decide +kernel]
  refine v_run 2 (pc' := 9) (ls' := [some (.int (zI 0)), none]) (st' := [.int (zI 0)]) rfl ?_
  refine v_if_gt rfl (fun c9 => ?_) (fun c9 => ?_)
  · exact absurd c9 (by decide +kernel)
  · refine v_run 3 (pc' := 16) (ls' := [some (.int (zI 0)), none]) (st' := [.int ((zI 0) &&& (zI 32))]) rfl ?_
    rw [show ((zI 0) &&& (zI 32) : Int32) = zI 0 from by decide +kernel]
    exact v_iret rfl rfl rfl ⟨rfl, rfl⟩

set_option maxRecDepth 100000 in
set_option maxHeartbeats 400000 in
theorem k_ntz6 (G : ssG) (h : ssH)   : ssC G mJ6_numberOfTrailingZeros_0f7a4 0 0 0 [.int (zI 6)] h (rI (zI 1) h) := by
  refine c_of_v okJ6_numberOfTrailingZeros_0f7a4 (by decide +kernel) (ls := [some (.int (zI 6)), none]) rfl (Nat.le_of_ble_eq_true rfl) ?_
  refine v_run 7 (pc' := 7) (ls' := [some (.int (zI 6)), none]) (st' := [.int (((zI 6) ^^^ (zI (-1))) &&& ((zI 6) - (zI 1)))]) rfl ?_
  rw [show (((zI 6) ^^^ (zI (-1))) &&& ((zI 6) - (zI 1)) : Int32) = zI 1 from by decide +kernel]
  refine v_run 2 (pc' := 9) (ls' := [some (.int (zI 1)), none]) (st' := [.int (zI 1)]) rfl ?_
  refine v_if_gt rfl (fun c9 => ?_) (fun c9 => ?_)
  · refine v_run 4 (pc' := 23) (ls' := [some (.int (zI 1)), some (.int (zI 1))]) (st' := [.int (zI 65536), .int (zI 1)]) rfl ?_
    refine v_icmp_le rfl (fun c23 => ?_) (fun c23 => ?_)
    · refine v_run 2 (pc' := 38) (ls' := [some (.int (zI 1)), some (.int (zI 1))]) (st' := [.int (zI 256), .int (zI 1)]) rfl ?_
      refine v_icmp_le rfl (fun c38 => ?_) (fun c38 => ?_)
      · refine v_run 2 (pc' := 52) (ls' := [some (.int (zI 1)), some (.int (zI 1))]) (st' := [.int (zI 16), .int (zI 1)]) rfl ?_
        refine v_icmp_le rfl (fun c52 => ?_) (fun c52 => ?_)
        · refine v_run 2 (pc' := 64) (ls' := [some (.int (zI 1)), some (.int (zI 1))]) (st' := [.int (zI 4), .int (zI 1)]) rfl ?_
          refine v_icmp_le rfl (fun c64 => ?_) (fun c64 => ?_)
          · refine v_run 5 (pc' := 79) (ls' := [some (.int (zI 1)), some (.int (zI 1))]) (st' := [.int ((zI 1) + (((zI 1).toUInt32 >>> ((zI 1).toUInt32 &&& Int32.toUInt32 31)).toInt32))]) rfl ?_
            rw [show ((zI 1) + (((zI 1).toUInt32 >>> ((zI 1).toUInt32 &&& Int32.toUInt32 31)).toInt32) : Int32) = zI 1 from by decide +kernel]
            exact v_iret rfl rfl rfl ⟨rfl, rfl⟩
          · exact absurd c64 (by decide +kernel)
        · exact absurd c52 (by decide +kernel)
      · exact absurd c38 (by decide +kernel)
    · exact absurd c23 (by decide +kernel)
  · exact absurd c9 (by decide +kernel)

set_option maxRecDepth 100000 in
set_option maxHeartbeats 400000 in
theorem k_ntz7 (G : ssG) (h : ssH)   : ssC G mJ6_numberOfTrailingZeros_0f7a4 0 0 0 [.int (zI 7)] h (rI (zI 0) h) := by
  refine c_of_v okJ6_numberOfTrailingZeros_0f7a4 (by decide +kernel) (ls := [some (.int (zI 7)), none]) rfl (Nat.le_of_ble_eq_true rfl) ?_
  refine v_run 7 (pc' := 7) (ls' := [some (.int (zI 7)), none]) (st' := [.int (((zI 7) ^^^ (zI (-1))) &&& ((zI 7) - (zI 1)))]) rfl ?_
  rw [show (((zI 7) ^^^ (zI (-1))) &&& ((zI 7) - (zI 1)) : Int32) = zI 0 from by decide +kernel]
  refine v_run 2 (pc' := 9) (ls' := [some (.int (zI 0)), none]) (st' := [.int (zI 0)]) rfl ?_
  refine v_if_gt rfl (fun c9 => ?_) (fun c9 => ?_)
  · exact absurd c9 (by decide +kernel)
  · refine v_run 3 (pc' := 16) (ls' := [some (.int (zI 0)), none]) (st' := [.int ((zI 0) &&& (zI 32))]) rfl ?_
    rw [show ((zI 0) &&& (zI 32) : Int32) = zI 0 from by decide +kernel]
    exact v_iret rfl rfl rfl ⟨rfl, rfl⟩

set_option maxRecDepth 100000 in
set_option maxHeartbeats 400000 in
theorem k_ntz8 (G : ssG) (h : ssH)   : ssC G mJ6_numberOfTrailingZeros_0f7a4 0 0 0 [.int (zI 8)] h (rI (zI 3) h) := by
  refine c_of_v okJ6_numberOfTrailingZeros_0f7a4 (by decide +kernel) (ls := [some (.int (zI 8)), none]) rfl (Nat.le_of_ble_eq_true rfl) ?_
  refine v_run 7 (pc' := 7) (ls' := [some (.int (zI 8)), none]) (st' := [.int (((zI 8) ^^^ (zI (-1))) &&& ((zI 8) - (zI 1)))]) rfl ?_
  rw [show (((zI 8) ^^^ (zI (-1))) &&& ((zI 8) - (zI 1)) : Int32) = zI 7 from by decide +kernel]
  refine v_run 2 (pc' := 9) (ls' := [some (.int (zI 7)), none]) (st' := [.int (zI 7)]) rfl ?_
  refine v_if_gt rfl (fun c9 => ?_) (fun c9 => ?_)
  · refine v_run 4 (pc' := 23) (ls' := [some (.int (zI 7)), some (.int (zI 1))]) (st' := [.int (zI 65536), .int (zI 7)]) rfl ?_
    refine v_icmp_le rfl (fun c23 => ?_) (fun c23 => ?_)
    · refine v_run 2 (pc' := 38) (ls' := [some (.int (zI 7)), some (.int (zI 1))]) (st' := [.int (zI 256), .int (zI 7)]) rfl ?_
      refine v_icmp_le rfl (fun c38 => ?_) (fun c38 => ?_)
      · refine v_run 2 (pc' := 52) (ls' := [some (.int (zI 7)), some (.int (zI 1))]) (st' := [.int (zI 16), .int (zI 7)]) rfl ?_
        refine v_icmp_le rfl (fun c52 => ?_) (fun c52 => ?_)
        · refine v_run 2 (pc' := 64) (ls' := [some (.int (zI 7)), some (.int (zI 1))]) (st' := [.int (zI 4), .int (zI 7)]) rfl ?_
          refine v_icmp_le rfl (fun c64 => ?_) (fun c64 => ?_)
          · exact absurd c64 (by decide +kernel)
          · refine v_run 5 (pc' := 74) (ls' := [some (.int (((zI 7).toUInt32 >>> ((zI 2).toUInt32 &&& Int32.toUInt32 31)).toInt32)), some (.int ((zI 1) + zI 2))]) (st' := []) rfl ?_
            rw [show ((zI 1) + zI 2 : Int32) = zI 3 from by decide +kernel]
            rw [show (((zI 7).toUInt32 >>> ((zI 2).toUInt32 &&& Int32.toUInt32 31)).toInt32 : Int32) = zI 1 from by decide +kernel]
            refine v_run 5 (pc' := 79) (ls' := [some (.int (zI 1)), some (.int (zI 3))]) (st' := [.int ((zI 3) + (((zI 1).toUInt32 >>> ((zI 1).toUInt32 &&& Int32.toUInt32 31)).toInt32))]) rfl ?_
            rw [show ((zI 3) + (((zI 1).toUInt32 >>> ((zI 1).toUInt32 &&& Int32.toUInt32 31)).toInt32) : Int32) = zI 3 from by decide +kernel]
            exact v_iret rfl rfl rfl ⟨rfl, rfl⟩
        · exact absurd c52 (by decide +kernel)
      · exact absurd c38 (by decide +kernel)
    · exact absurd c23 (by decide +kernel)
  · exact absurd c9 (by decide +kernel)

set_option maxRecDepth 100000 in
set_option maxHeartbeats 400000 in
theorem k_ntz9 (G : ssG) (h : ssH)   : ssC G mJ6_numberOfTrailingZeros_0f7a4 0 0 0 [.int (zI 9)] h (rI (zI 0) h) := by
  refine c_of_v okJ6_numberOfTrailingZeros_0f7a4 (by decide +kernel) (ls := [some (.int (zI 9)), none]) rfl (Nat.le_of_ble_eq_true rfl) ?_
  refine v_run 7 (pc' := 7) (ls' := [some (.int (zI 9)), none]) (st' := [.int (((zI 9) ^^^ (zI (-1))) &&& ((zI 9) - (zI 1)))]) rfl ?_
  rw [show (((zI 9) ^^^ (zI (-1))) &&& ((zI 9) - (zI 1)) : Int32) = zI 0 from by decide +kernel]
  refine v_run 2 (pc' := 9) (ls' := [some (.int (zI 0)), none]) (st' := [.int (zI 0)]) rfl ?_
  refine v_if_gt rfl (fun c9 => ?_) (fun c9 => ?_)
  · exact absurd c9 (by decide +kernel)
  · refine v_run 3 (pc' := 16) (ls' := [some (.int (zI 0)), none]) (st' := [.int ((zI 0) &&& (zI 32))]) rfl ?_
    rw [show ((zI 0) &&& (zI 32) : Int32) = zI 0 from by decide +kernel]
    exact v_iret rfl rfl rfl ⟨rfl, rfl⟩

set_option maxRecDepth 100000 in
set_option maxHeartbeats 400000 in
theorem k_ntz10 (G : ssG) (h : ssH)   : ssC G mJ6_numberOfTrailingZeros_0f7a4 0 0 0 [.int (zI 10)] h (rI (zI 1) h) := by
  refine c_of_v okJ6_numberOfTrailingZeros_0f7a4 (by decide +kernel) (ls := [some (.int (zI 10)), none]) rfl (Nat.le_of_ble_eq_true rfl) ?_
  refine v_run 7 (pc' := 7) (ls' := [some (.int (zI 10)), none]) (st' := [.int (((zI 10) ^^^ (zI (-1))) &&& ((zI 10) - (zI 1)))]) rfl ?_
  rw [show (((zI 10) ^^^ (zI (-1))) &&& ((zI 10) - (zI 1)) : Int32) = zI 1 from by decide +kernel]
  refine v_run 2 (pc' := 9) (ls' := [some (.int (zI 1)), none]) (st' := [.int (zI 1)]) rfl ?_
  refine v_if_gt rfl (fun c9 => ?_) (fun c9 => ?_)
  · refine v_run 4 (pc' := 23) (ls' := [some (.int (zI 1)), some (.int (zI 1))]) (st' := [.int (zI 65536), .int (zI 1)]) rfl ?_
    refine v_icmp_le rfl (fun c23 => ?_) (fun c23 => ?_)
    · refine v_run 2 (pc' := 38) (ls' := [some (.int (zI 1)), some (.int (zI 1))]) (st' := [.int (zI 256), .int (zI 1)]) rfl ?_
      refine v_icmp_le rfl (fun c38 => ?_) (fun c38 => ?_)
      · refine v_run 2 (pc' := 52) (ls' := [some (.int (zI 1)), some (.int (zI 1))]) (st' := [.int (zI 16), .int (zI 1)]) rfl ?_
        refine v_icmp_le rfl (fun c52 => ?_) (fun c52 => ?_)
        · refine v_run 2 (pc' := 64) (ls' := [some (.int (zI 1)), some (.int (zI 1))]) (st' := [.int (zI 4), .int (zI 1)]) rfl ?_
          refine v_icmp_le rfl (fun c64 => ?_) (fun c64 => ?_)
          · refine v_run 5 (pc' := 79) (ls' := [some (.int (zI 1)), some (.int (zI 1))]) (st' := [.int ((zI 1) + (((zI 1).toUInt32 >>> ((zI 1).toUInt32 &&& Int32.toUInt32 31)).toInt32))]) rfl ?_
            rw [show ((zI 1) + (((zI 1).toUInt32 >>> ((zI 1).toUInt32 &&& Int32.toUInt32 31)).toInt32) : Int32) = zI 1 from by decide +kernel]
            exact v_iret rfl rfl rfl ⟨rfl, rfl⟩
          · exact absurd c64 (by decide +kernel)
        · exact absurd c52 (by decide +kernel)
      · exact absurd c38 (by decide +kernel)
    · exact absurd c23 (by decide +kernel)
  · exact absurd c9 (by decide +kernel)

set_option maxRecDepth 100000 in
set_option maxHeartbeats 400000 in
theorem k_ntz11 (G : ssG) (h : ssH)   : ssC G mJ6_numberOfTrailingZeros_0f7a4 0 0 0 [.int (zI 11)] h (rI (zI 0) h) := by
  refine c_of_v okJ6_numberOfTrailingZeros_0f7a4 (by decide +kernel) (ls := [some (.int (zI 11)), none]) rfl (Nat.le_of_ble_eq_true rfl) ?_
  refine v_run 7 (pc' := 7) (ls' := [some (.int (zI 11)), none]) (st' := [.int (((zI 11) ^^^ (zI (-1))) &&& ((zI 11) - (zI 1)))]) rfl ?_
  rw [show (((zI 11) ^^^ (zI (-1))) &&& ((zI 11) - (zI 1)) : Int32) = zI 0 from by decide +kernel]
  refine v_run 2 (pc' := 9) (ls' := [some (.int (zI 0)), none]) (st' := [.int (zI 0)]) rfl ?_
  refine v_if_gt rfl (fun c9 => ?_) (fun c9 => ?_)
  · exact absurd c9 (by decide +kernel)
  · refine v_run 3 (pc' := 16) (ls' := [some (.int (zI 0)), none]) (st' := [.int ((zI 0) &&& (zI 32))]) rfl ?_
    rw [show ((zI 0) &&& (zI 32) : Int32) = zI 0 from by decide +kernel]
    exact v_iret rfl rfl rfl ⟨rfl, rfl⟩

set_option maxRecDepth 100000 in
set_option maxHeartbeats 400000 in
theorem k_ntz12 (G : ssG) (h : ssH)   : ssC G mJ6_numberOfTrailingZeros_0f7a4 0 0 0 [.int (zI 12)] h (rI (zI 2) h) := by
  refine c_of_v okJ6_numberOfTrailingZeros_0f7a4 (by decide +kernel) (ls := [some (.int (zI 12)), none]) rfl (Nat.le_of_ble_eq_true rfl) ?_
  refine v_run 7 (pc' := 7) (ls' := [some (.int (zI 12)), none]) (st' := [.int (((zI 12) ^^^ (zI (-1))) &&& ((zI 12) - (zI 1)))]) rfl ?_
  rw [show (((zI 12) ^^^ (zI (-1))) &&& ((zI 12) - (zI 1)) : Int32) = zI 3 from by decide +kernel]
  refine v_run 2 (pc' := 9) (ls' := [some (.int (zI 3)), none]) (st' := [.int (zI 3)]) rfl ?_
  refine v_if_gt rfl (fun c9 => ?_) (fun c9 => ?_)
  · refine v_run 4 (pc' := 23) (ls' := [some (.int (zI 3)), some (.int (zI 1))]) (st' := [.int (zI 65536), .int (zI 3)]) rfl ?_
    refine v_icmp_le rfl (fun c23 => ?_) (fun c23 => ?_)
    · refine v_run 2 (pc' := 38) (ls' := [some (.int (zI 3)), some (.int (zI 1))]) (st' := [.int (zI 256), .int (zI 3)]) rfl ?_
      refine v_icmp_le rfl (fun c38 => ?_) (fun c38 => ?_)
      · refine v_run 2 (pc' := 52) (ls' := [some (.int (zI 3)), some (.int (zI 1))]) (st' := [.int (zI 16), .int (zI 3)]) rfl ?_
        refine v_icmp_le rfl (fun c52 => ?_) (fun c52 => ?_)
        · refine v_run 2 (pc' := 64) (ls' := [some (.int (zI 3)), some (.int (zI 1))]) (st' := [.int (zI 4), .int (zI 3)]) rfl ?_
          refine v_icmp_le rfl (fun c64 => ?_) (fun c64 => ?_)
          · refine v_run 5 (pc' := 79) (ls' := [some (.int (zI 3)), some (.int (zI 1))]) (st' := [.int ((zI 1) + (((zI 3).toUInt32 >>> ((zI 1).toUInt32 &&& Int32.toUInt32 31)).toInt32))]) rfl ?_
            rw [show ((zI 1) + (((zI 3).toUInt32 >>> ((zI 1).toUInt32 &&& Int32.toUInt32 31)).toInt32) : Int32) = zI 2 from by decide +kernel]
            exact v_iret rfl rfl rfl ⟨rfl, rfl⟩
          · exact absurd c64 (by decide +kernel)
        · exact absurd c52 (by decide +kernel)
      · exact absurd c38 (by decide +kernel)
    · exact absurd c23 (by decide +kernel)
  · exact absurd c9 (by decide +kernel)

set_option maxRecDepth 100000 in
set_option maxHeartbeats 400000 in
theorem k_ntz13 (G : ssG) (h : ssH)   : ssC G mJ6_numberOfTrailingZeros_0f7a4 0 0 0 [.int (zI 13)] h (rI (zI 0) h) := by
  refine c_of_v okJ6_numberOfTrailingZeros_0f7a4 (by decide +kernel) (ls := [some (.int (zI 13)), none]) rfl (Nat.le_of_ble_eq_true rfl) ?_
  refine v_run 7 (pc' := 7) (ls' := [some (.int (zI 13)), none]) (st' := [.int (((zI 13) ^^^ (zI (-1))) &&& ((zI 13) - (zI 1)))]) rfl ?_
  rw [show (((zI 13) ^^^ (zI (-1))) &&& ((zI 13) - (zI 1)) : Int32) = zI 0 from by decide +kernel]
  refine v_run 2 (pc' := 9) (ls' := [some (.int (zI 0)), none]) (st' := [.int (zI 0)]) rfl ?_
  refine v_if_gt rfl (fun c9 => ?_) (fun c9 => ?_)
  · exact absurd c9 (by decide +kernel)
  · refine v_run 3 (pc' := 16) (ls' := [some (.int (zI 0)), none]) (st' := [.int ((zI 0) &&& (zI 32))]) rfl ?_
    rw [show ((zI 0) &&& (zI 32) : Int32) = zI 0 from by decide +kernel]
    exact v_iret rfl rfl rfl ⟨rfl, rfl⟩

set_option maxRecDepth 100000 in
set_option maxHeartbeats 400000 in
theorem k_ntz14 (G : ssG) (h : ssH)   : ssC G mJ6_numberOfTrailingZeros_0f7a4 0 0 0 [.int (zI 14)] h (rI (zI 1) h) := by
  refine c_of_v okJ6_numberOfTrailingZeros_0f7a4 (by decide +kernel) (ls := [some (.int (zI 14)), none]) rfl (Nat.le_of_ble_eq_true rfl) ?_
  refine v_run 7 (pc' := 7) (ls' := [some (.int (zI 14)), none]) (st' := [.int (((zI 14) ^^^ (zI (-1))) &&& ((zI 14) - (zI 1)))]) rfl ?_
  rw [show (((zI 14) ^^^ (zI (-1))) &&& ((zI 14) - (zI 1)) : Int32) = zI 1 from by decide +kernel]
  refine v_run 2 (pc' := 9) (ls' := [some (.int (zI 1)), none]) (st' := [.int (zI 1)]) rfl ?_
  refine v_if_gt rfl (fun c9 => ?_) (fun c9 => ?_)
  · refine v_run 4 (pc' := 23) (ls' := [some (.int (zI 1)), some (.int (zI 1))]) (st' := [.int (zI 65536), .int (zI 1)]) rfl ?_
    refine v_icmp_le rfl (fun c23 => ?_) (fun c23 => ?_)
    · refine v_run 2 (pc' := 38) (ls' := [some (.int (zI 1)), some (.int (zI 1))]) (st' := [.int (zI 256), .int (zI 1)]) rfl ?_
      refine v_icmp_le rfl (fun c38 => ?_) (fun c38 => ?_)
      · refine v_run 2 (pc' := 52) (ls' := [some (.int (zI 1)), some (.int (zI 1))]) (st' := [.int (zI 16), .int (zI 1)]) rfl ?_
        refine v_icmp_le rfl (fun c52 => ?_) (fun c52 => ?_)
        · refine v_run 2 (pc' := 64) (ls' := [some (.int (zI 1)), some (.int (zI 1))]) (st' := [.int (zI 4), .int (zI 1)]) rfl ?_
          refine v_icmp_le rfl (fun c64 => ?_) (fun c64 => ?_)
          · refine v_run 5 (pc' := 79) (ls' := [some (.int (zI 1)), some (.int (zI 1))]) (st' := [.int ((zI 1) + (((zI 1).toUInt32 >>> ((zI 1).toUInt32 &&& Int32.toUInt32 31)).toInt32))]) rfl ?_
            rw [show ((zI 1) + (((zI 1).toUInt32 >>> ((zI 1).toUInt32 &&& Int32.toUInt32 31)).toInt32) : Int32) = zI 1 from by decide +kernel]
            exact v_iret rfl rfl rfl ⟨rfl, rfl⟩
          · exact absurd c64 (by decide +kernel)
        · exact absurd c52 (by decide +kernel)
      · exact absurd c38 (by decide +kernel)
    · exact absurd c23 (by decide +kernel)
  · exact absurd c9 (by decide +kernel)

set_option maxRecDepth 100000 in
set_option maxHeartbeats 400000 in
theorem k_ntz15 (G : ssG) (h : ssH)   : ssC G mJ6_numberOfTrailingZeros_0f7a4 0 0 0 [.int (zI 15)] h (rI (zI 0) h) := by
  refine c_of_v okJ6_numberOfTrailingZeros_0f7a4 (by decide +kernel) (ls := [some (.int (zI 15)), none]) rfl (Nat.le_of_ble_eq_true rfl) ?_
  refine v_run 7 (pc' := 7) (ls' := [some (.int (zI 15)), none]) (st' := [.int (((zI 15) ^^^ (zI (-1))) &&& ((zI 15) - (zI 1)))]) rfl ?_
  rw [show (((zI 15) ^^^ (zI (-1))) &&& ((zI 15) - (zI 1)) : Int32) = zI 0 from by decide +kernel]
  refine v_run 2 (pc' := 9) (ls' := [some (.int (zI 0)), none]) (st' := [.int (zI 0)]) rfl ?_
  refine v_if_gt rfl (fun c9 => ?_) (fun c9 => ?_)
  · exact absurd c9 (by decide +kernel)
  · refine v_run 3 (pc' := 16) (ls' := [some (.int (zI 0)), none]) (st' := [.int ((zI 0) &&& (zI 32))]) rfl ?_
    rw [show ((zI 0) &&& (zI 32) : Int32) = zI 0 from by decide +kernel]
    exact v_iret rfl rfl rfl ⟨rfl, rfl⟩

set_option maxRecDepth 100000 in
set_option maxHeartbeats 400000 in
theorem k_ntz16 (G : ssG) (h : ssH)   : ssC G mJ6_numberOfTrailingZeros_0f7a4 0 0 0 [.int (zI 16)] h (rI (zI 4) h) := by
  refine c_of_v okJ6_numberOfTrailingZeros_0f7a4 (by decide +kernel) (ls := [some (.int (zI 16)), none]) rfl (Nat.le_of_ble_eq_true rfl) ?_
  refine v_run 7 (pc' := 7) (ls' := [some (.int (zI 16)), none]) (st' := [.int (((zI 16) ^^^ (zI (-1))) &&& ((zI 16) - (zI 1)))]) rfl ?_
  rw [show (((zI 16) ^^^ (zI (-1))) &&& ((zI 16) - (zI 1)) : Int32) = zI 15 from by decide +kernel]
  refine v_run 2 (pc' := 9) (ls' := [some (.int (zI 15)), none]) (st' := [.int (zI 15)]) rfl ?_
  refine v_if_gt rfl (fun c9 => ?_) (fun c9 => ?_)
  · refine v_run 4 (pc' := 23) (ls' := [some (.int (zI 15)), some (.int (zI 1))]) (st' := [.int (zI 65536), .int (zI 15)]) rfl ?_
    refine v_icmp_le rfl (fun c23 => ?_) (fun c23 => ?_)
    · refine v_run 2 (pc' := 38) (ls' := [some (.int (zI 15)), some (.int (zI 1))]) (st' := [.int (zI 256), .int (zI 15)]) rfl ?_
      refine v_icmp_le rfl (fun c38 => ?_) (fun c38 => ?_)
      · refine v_run 2 (pc' := 52) (ls' := [some (.int (zI 15)), some (.int (zI 1))]) (st' := [.int (zI 16), .int (zI 15)]) rfl ?_
        refine v_icmp_le rfl (fun c52 => ?_) (fun c52 => ?_)
        · refine v_run 2 (pc' := 64) (ls' := [some (.int (zI 15)), some (.int (zI 1))]) (st' := [.int (zI 4), .int (zI 15)]) rfl ?_
          refine v_icmp_le rfl (fun c64 => ?_) (fun c64 => ?_)
          · exact absurd c64 (by decide +kernel)
          · refine v_run 5 (pc' := 74) (ls' := [some (.int (((zI 15).toUInt32 >>> ((zI 2).toUInt32 &&& Int32.toUInt32 31)).toInt32)), some (.int ((zI 1) + zI 2))]) (st' := []) rfl ?_
            rw [show ((zI 1) + zI 2 : Int32) = zI 3 from by decide +kernel]
            rw [show (((zI 15).toUInt32 >>> ((zI 2).toUInt32 &&& Int32.toUInt32 31)).toInt32 : Int32) = zI 3 from by decide +kernel]
            refine v_run 5 (pc' := 79) (ls' := [some (.int (zI 3)), some (.int (zI 3))]) (st' := [.int ((zI 3) + (((zI 3).toUInt32 >>> ((zI 1).toUInt32 &&& Int32.toUInt32 31)).toInt32))]) rfl ?_
            rw [show ((zI 3) + (((zI 3).toUInt32 >>> ((zI 1).toUInt32 &&& Int32.toUInt32 31)).toInt32) : Int32) = zI 4 from by decide +kernel]
            exact v_iret rfl rfl rfl ⟨rfl, rfl⟩
        · exact absurd c52 (by decide +kernel)
      · exact absurd c38 (by decide +kernel)
    · exact absurd c23 (by decide +kernel)
  · exact absurd c9 (by decide +kernel)

set_option maxRecDepth 100000 in
set_option maxHeartbeats 400000 in
theorem k_ntz17 (G : ssG) (h : ssH)   : ssC G mJ6_numberOfTrailingZeros_0f7a4 0 0 0 [.int (zI 17)] h (rI (zI 0) h) := by
  refine c_of_v okJ6_numberOfTrailingZeros_0f7a4 (by decide +kernel) (ls := [some (.int (zI 17)), none]) rfl (Nat.le_of_ble_eq_true rfl) ?_
  refine v_run 7 (pc' := 7) (ls' := [some (.int (zI 17)), none]) (st' := [.int (((zI 17) ^^^ (zI (-1))) &&& ((zI 17) - (zI 1)))]) rfl ?_
  rw [show (((zI 17) ^^^ (zI (-1))) &&& ((zI 17) - (zI 1)) : Int32) = zI 0 from by decide +kernel]
  refine v_run 2 (pc' := 9) (ls' := [some (.int (zI 0)), none]) (st' := [.int (zI 0)]) rfl ?_
  refine v_if_gt rfl (fun c9 => ?_) (fun c9 => ?_)
  · exact absurd c9 (by decide +kernel)
  · refine v_run 3 (pc' := 16) (ls' := [some (.int (zI 0)), none]) (st' := [.int ((zI 0) &&& (zI 32))]) rfl ?_
    rw [show ((zI 0) &&& (zI 32) : Int32) = zI 0 from by decide +kernel]
    exact v_iret rfl rfl rfl ⟨rfl, rfl⟩

set_option maxRecDepth 100000 in
set_option maxHeartbeats 400000 in
theorem k_ntz18 (G : ssG) (h : ssH)   : ssC G mJ6_numberOfTrailingZeros_0f7a4 0 0 0 [.int (zI 18)] h (rI (zI 1) h) := by
  refine c_of_v okJ6_numberOfTrailingZeros_0f7a4 (by decide +kernel) (ls := [some (.int (zI 18)), none]) rfl (Nat.le_of_ble_eq_true rfl) ?_
  refine v_run 7 (pc' := 7) (ls' := [some (.int (zI 18)), none]) (st' := [.int (((zI 18) ^^^ (zI (-1))) &&& ((zI 18) - (zI 1)))]) rfl ?_
  rw [show (((zI 18) ^^^ (zI (-1))) &&& ((zI 18) - (zI 1)) : Int32) = zI 1 from by decide +kernel]
  refine v_run 2 (pc' := 9) (ls' := [some (.int (zI 1)), none]) (st' := [.int (zI 1)]) rfl ?_
  refine v_if_gt rfl (fun c9 => ?_) (fun c9 => ?_)
  · refine v_run 4 (pc' := 23) (ls' := [some (.int (zI 1)), some (.int (zI 1))]) (st' := [.int (zI 65536), .int (zI 1)]) rfl ?_
    refine v_icmp_le rfl (fun c23 => ?_) (fun c23 => ?_)
    · refine v_run 2 (pc' := 38) (ls' := [some (.int (zI 1)), some (.int (zI 1))]) (st' := [.int (zI 256), .int (zI 1)]) rfl ?_
      refine v_icmp_le rfl (fun c38 => ?_) (fun c38 => ?_)
      · refine v_run 2 (pc' := 52) (ls' := [some (.int (zI 1)), some (.int (zI 1))]) (st' := [.int (zI 16), .int (zI 1)]) rfl ?_
        refine v_icmp_le rfl (fun c52 => ?_) (fun c52 => ?_)
        · refine v_run 2 (pc' := 64) (ls' := [some (.int (zI 1)), some (.int (zI 1))]) (st' := [.int (zI 4), .int (zI 1)]) rfl ?_
          refine v_icmp_le rfl (fun c64 => ?_) (fun c64 => ?_)
          · refine v_run 5 (pc' := 79) (ls' := [some (.int (zI 1)), some (.int (zI 1))]) (st' := [.int ((zI 1) + (((zI 1).toUInt32 >>> ((zI 1).toUInt32 &&& Int32.toUInt32 31)).toInt32))]) rfl ?_
            rw [show ((zI 1) + (((zI 1).toUInt32 >>> ((zI 1).toUInt32 &&& Int32.toUInt32 31)).toInt32) : Int32) = zI 1 from by decide +kernel]
            exact v_iret rfl rfl rfl ⟨rfl, rfl⟩
          · exact absurd c64 (by decide +kernel)
        · exact absurd c52 (by decide +kernel)
      · exact absurd c38 (by decide +kernel)
    · exact absurd c23 (by decide +kernel)
  · exact absurd c9 (by decide +kernel)

set_option maxRecDepth 100000 in
set_option maxHeartbeats 400000 in
theorem k_ntz19 (G : ssG) (h : ssH)   : ssC G mJ6_numberOfTrailingZeros_0f7a4 0 0 0 [.int (zI 19)] h (rI (zI 0) h) := by
  refine c_of_v okJ6_numberOfTrailingZeros_0f7a4 (by decide +kernel) (ls := [some (.int (zI 19)), none]) rfl (Nat.le_of_ble_eq_true rfl) ?_
  refine v_run 7 (pc' := 7) (ls' := [some (.int (zI 19)), none]) (st' := [.int (((zI 19) ^^^ (zI (-1))) &&& ((zI 19) - (zI 1)))]) rfl ?_
  rw [show (((zI 19) ^^^ (zI (-1))) &&& ((zI 19) - (zI 1)) : Int32) = zI 0 from by decide +kernel]
  refine v_run 2 (pc' := 9) (ls' := [some (.int (zI 0)), none]) (st' := [.int (zI 0)]) rfl ?_
  refine v_if_gt rfl (fun c9 => ?_) (fun c9 => ?_)
  · exact absurd c9 (by decide +kernel)
  · refine v_run 3 (pc' := 16) (ls' := [some (.int (zI 0)), none]) (st' := [.int ((zI 0) &&& (zI 32))]) rfl ?_
    rw [show ((zI 0) &&& (zI 32) : Int32) = zI 0 from by decide +kernel]
    exact v_iret rfl rfl rfl ⟨rfl, rfl⟩

set_option maxRecDepth 100000 in
set_option maxHeartbeats 400000 in
theorem k_ntz20 (G : ssG) (h : ssH)   : ssC G mJ6_numberOfTrailingZeros_0f7a4 0 0 0 [.int (zI 20)] h (rI (zI 2) h) := by
  refine c_of_v okJ6_numberOfTrailingZeros_0f7a4 (by decide +kernel) (ls := [some (.int (zI 20)), none]) rfl (Nat.le_of_ble_eq_true rfl) ?_
  refine v_run 7 (pc' := 7) (ls' := [some (.int (zI 20)), none]) (st' := [.int (((zI 20) ^^^ (zI (-1))) &&& ((zI 20) - (zI 1)))]) rfl ?_
  rw [show (((zI 20) ^^^ (zI (-1))) &&& ((zI 20) - (zI 1)) : Int32) = zI 3 from by decide +kernel]
  refine v_run 2 (pc' := 9) (ls' := [some (.int (zI 3)), none]) (st' := [.int (zI 3)]) rfl ?_
  refine v_if_gt rfl (fun c9 => ?_) (fun c9 => ?_)
  · refine v_run 4 (pc' := 23) (ls' := [some (.int (zI 3)), some (.int (zI 1))]) (st' := [.int (zI 65536), .int (zI 3)]) rfl ?_
    refine v_icmp_le rfl (fun c23 => ?_) (fun c23 => ?_)
    · refine v_run 2 (pc' := 38) (ls' := [some (.int (zI 3)), some (.int (zI 1))]) (st' := [.int (zI 256), .int (zI 3)]) rfl ?_
      refine v_icmp_le rfl (fun c38 => ?_) (fun c38 => ?_)
      · refine v_run 2 (pc' := 52) (ls' := [some (.int (zI 3)), some (.int (zI 1))]) (st' := [.int (zI 16), .int (zI 3)]) rfl ?_
        refine v_icmp_le rfl (fun c52 => ?_) (fun c52 => ?_)
        · refine v_run 2 (pc' := 64) (ls' := [some (.int (zI 3)), some (.int (zI 1))]) (st' := [.int (zI 4), .int (zI 3)]) rfl ?_
          refine v_icmp_le rfl (fun c64 => ?_) (fun c64 => ?_)
          · refine v_run 5 (pc' := 79) (ls' := [some (.int (zI 3)), some (.int (zI 1))]) (st' := [.int ((zI 1) + (((zI 3).toUInt32 >>> ((zI 1).toUInt32 &&& Int32.toUInt32 31)).toInt32))]) rfl ?_
            rw [show ((zI 1) + (((zI 3).toUInt32 >>> ((zI 1).toUInt32 &&& Int32.toUInt32 31)).toInt32) : Int32) = zI 2 from by decide +kernel]
            exact v_iret rfl rfl rfl ⟨rfl, rfl⟩
          · exact absurd c64 (by decide +kernel)
        · exact absurd c52 (by decide +kernel)
      · exact absurd c38 (by decide +kernel)
    · exact absurd c23 (by decide +kernel)
  · exact absurd c9 (by decide +kernel)

set_option maxRecDepth 100000 in
set_option maxHeartbeats 400000 in
theorem k_ntz21 (G : ssG) (h : ssH)   : ssC G mJ6_numberOfTrailingZeros_0f7a4 0 0 0 [.int (zI 21)] h (rI (zI 0) h) := by
  refine c_of_v okJ6_numberOfTrailingZeros_0f7a4 (by decide +kernel) (ls := [some (.int (zI 21)), none]) rfl (Nat.le_of_ble_eq_true rfl) ?_
  refine v_run 7 (pc' := 7) (ls' := [some (.int (zI 21)), none]) (st' := [.int (((zI 21) ^^^ (zI (-1))) &&& ((zI 21) - (zI 1)))]) rfl ?_
  rw [show (((zI 21) ^^^ (zI (-1))) &&& ((zI 21) - (zI 1)) : Int32) = zI 0 from by decide +kernel]
  refine v_run 2 (pc' := 9) (ls' := [some (.int (zI 0)), none]) (st' := [.int (zI 0)]) rfl ?_
  refine v_if_gt rfl (fun c9 => ?_) (fun c9 => ?_)
  · exact absurd c9 (by decide +kernel)
  · refine v_run 3 (pc' := 16) (ls' := [some (.int (zI 0)), none]) (st' := [.int ((zI 0) &&& (zI 32))]) rfl ?_
    rw [show ((zI 0) &&& (zI 32) : Int32) = zI 0 from by decide +kernel]
    exact v_iret rfl rfl rfl ⟨rfl, rfl⟩

set_option maxRecDepth 100000 in
set_option maxHeartbeats 400000 in
theorem k_ntz22 (G : ssG) (h : ssH)   : ssC G mJ6_numberOfTrailingZeros_0f7a4 0 0 0 [.int (zI 22)] h (rI (zI 1) h) := by
  refine c_of_v okJ6_numberOfTrailingZeros_0f7a4 (by decide +kernel) (ls := [some (.int (zI 22)), none]) rfl (Nat.le_of_ble_eq_true rfl) ?_
  refine v_run 7 (pc' := 7) (ls' := [some (.int (zI 22)), none]) (st' := [.int (((zI 22) ^^^ (zI (-1))) &&& ((zI 22) - (zI 1)))]) rfl ?_
  rw [show (((zI 22) ^^^ (zI (-1))) &&& ((zI 22) - (zI 1)) : Int32) = zI 1 from by decide +kernel]
  refine v_run 2 (pc' := 9) (ls' := [some (.int (zI 1)), none]) (st' := [.int (zI 1)]) rfl ?_
  refine v_if_gt rfl (fun c9 => ?_) (fun c9 => ?_)
  · refine v_run 4 (pc' := 23) (ls' := [some (.int (zI 1)), some (.int (zI 1))]) (st' := [.int (zI 65536), .int (zI 1)]) rfl ?_
    refine v_icmp_le rfl (fun c23 => ?_) (fun c23 => ?_)
    · refine v_run 2 (pc' := 38) (ls' := [some (.int (zI 1)), some (.int (zI 1))]) (st' := [.int (zI 256), .int (zI 1)]) rfl ?_
      refine v_icmp_le rfl (fun c38 => ?_) (fun c38 => ?_)
      · refine v_run 2 (pc' := 52) (ls' := [some (.int (zI 1)), some (.int (zI 1))]) (st' := [.int (zI 16), .int (zI 1)]) rfl ?_
        refine v_icmp_le rfl (fun c52 => ?_) (fun c52 => ?_)
        · refine v_run 2 (pc' := 64) (ls' := [some (.int (zI 1)), some (.int (zI 1))]) (st' := [.int (zI 4), .int (zI 1)]) rfl ?_
          refine v_icmp_le rfl (fun c64 => ?_) (fun c64 => ?_)
          · refine v_run 5 (pc' := 79) (ls' := [some (.int (zI 1)), some (.int (zI 1))]) (st' := [.int ((zI 1) + (((zI 1).toUInt32 >>> ((zI 1).toUInt32 &&& Int32.toUInt32 31)).toInt32))]) rfl ?_
            rw [show ((zI 1) + (((zI 1).toUInt32 >>> ((zI 1).toUInt32 &&& Int32.toUInt32 31)).toInt32) : Int32) = zI 1 from by decide +kernel]
            exact v_iret rfl rfl rfl ⟨rfl, rfl⟩
          · exact absurd c64 (by decide +kernel)
        · exact absurd c52 (by decide +kernel)
      · exact absurd c38 (by decide +kernel)
    · exact absurd c23 (by decide +kernel)
  · exact absurd c9 (by decide +kernel)

set_option maxRecDepth 100000 in
set_option maxHeartbeats 400000 in
theorem k_ntz23 (G : ssG) (h : ssH)   : ssC G mJ6_numberOfTrailingZeros_0f7a4 0 0 0 [.int (zI 23)] h (rI (zI 0) h) := by
  refine c_of_v okJ6_numberOfTrailingZeros_0f7a4 (by decide +kernel) (ls := [some (.int (zI 23)), none]) rfl (Nat.le_of_ble_eq_true rfl) ?_
  refine v_run 7 (pc' := 7) (ls' := [some (.int (zI 23)), none]) (st' := [.int (((zI 23) ^^^ (zI (-1))) &&& ((zI 23) - (zI 1)))]) rfl ?_
  rw [show (((zI 23) ^^^ (zI (-1))) &&& ((zI 23) - (zI 1)) : Int32) = zI 0 from by decide +kernel]
  refine v_run 2 (pc' := 9) (ls' := [some (.int (zI 0)), none]) (st' := [.int (zI 0)]) rfl ?_
  refine v_if_gt rfl (fun c9 => ?_) (fun c9 => ?_)
  · exact absurd c9 (by decide +kernel)
  · refine v_run 3 (pc' := 16) (ls' := [some (.int (zI 0)), none]) (st' := [.int ((zI 0) &&& (zI 32))]) rfl ?_
    rw [show ((zI 0) &&& (zI 32) : Int32) = zI 0 from by decide +kernel]
    exact v_iret rfl rfl rfl ⟨rfl, rfl⟩

set_option maxRecDepth 100000 in
set_option maxHeartbeats 400000 in
theorem k_ntz24 (G : ssG) (h : ssH)   : ssC G mJ6_numberOfTrailingZeros_0f7a4 0 0 0 [.int (zI 24)] h (rI (zI 3) h) := by
  refine c_of_v okJ6_numberOfTrailingZeros_0f7a4 (by decide +kernel) (ls := [some (.int (zI 24)), none]) rfl (Nat.le_of_ble_eq_true rfl) ?_
  refine v_run 7 (pc' := 7) (ls' := [some (.int (zI 24)), none]) (st' := [.int (((zI 24) ^^^ (zI (-1))) &&& ((zI 24) - (zI 1)))]) rfl ?_
  rw [show (((zI 24) ^^^ (zI (-1))) &&& ((zI 24) - (zI 1)) : Int32) = zI 7 from by decide +kernel]
  refine v_run 2 (pc' := 9) (ls' := [some (.int (zI 7)), none]) (st' := [.int (zI 7)]) rfl ?_
  refine v_if_gt rfl (fun c9 => ?_) (fun c9 => ?_)
  · refine v_run 4 (pc' := 23) (ls' := [some (.int (zI 7)), some (.int (zI 1))]) (st' := [.int (zI 65536), .int (zI 7)]) rfl ?_
    refine v_icmp_le rfl (fun c23 => ?_) (fun c23 => ?_)
    · refine v_run 2 (pc' := 38) (ls' := [some (.int (zI 7)), some (.int (zI 1))]) (st' := [.int (zI 256), .int (zI 7)]) rfl ?_
      refine v_icmp_le rfl (fun c38 => ?_) (fun c38 => ?_)
      · refine v_run 2 (pc' := 52) (ls' := [some (.int (zI 7)), some (.int (zI 1))]) (st' := [.int (zI 16), .int (zI 7)]) rfl ?_
        refine v_icmp_le rfl (fun c52 => ?_) (fun c52 => ?_)
        · refine v_run 2 (pc' := 64) (ls' := [some (.int (zI 7)), some (.int (zI 1))]) (st' := [.int (zI 4), .int (zI 7)]) rfl ?_
          refine v_icmp_le rfl (fun c64 => ?_) (fun c64 => ?_)
          · exact absurd c64 (by decide +kernel)
          · refine v_run 5 (pc' := 74) (ls' := [some (.int (((zI 7).toUInt32 >>> ((zI 2).toUInt32 &&& Int32.toUInt32 31)).toInt32)), some (.int ((zI 1) + zI 2))]) (st' := []) rfl ?_
            rw [show ((zI 1) + zI 2 : Int32) = zI 3 from by decide +kernel]
            rw [show (((zI 7).toUInt32 >>> ((zI 2).toUInt32 &&& Int32.toUInt32 31)).toInt32 : Int32) = zI 1 from by decide +kernel]
            refine v_run 5 (pc' := 79) (ls' := [some (.int (zI 1)), some (.int (zI 3))]) (st' := [.int ((zI 3) + (((zI 1).toUInt32 >>> ((zI 1).toUInt32 &&& Int32.toUInt32 31)).toInt32))]) rfl ?_
            rw [show ((zI 3) + (((zI 1).toUInt32 >>> ((zI 1).toUInt32 &&& Int32.toUInt32 31)).toInt32) : Int32) = zI 3 from by decide +kernel]
            exact v_iret rfl rfl rfl ⟨rfl, rfl⟩
        · exact absurd c52 (by decide +kernel)
      · exact absurd c38 (by decide +kernel)
    · exact absurd c23 (by decide +kernel)
  · exact absurd c9 (by decide +kernel)

set_option maxRecDepth 100000 in
set_option maxHeartbeats 400000 in
theorem k_ntz25 (G : ssG) (h : ssH)   : ssC G mJ6_numberOfTrailingZeros_0f7a4 0 0 0 [.int (zI 25)] h (rI (zI 0) h) := by
  refine c_of_v okJ6_numberOfTrailingZeros_0f7a4 (by decide +kernel) (ls := [some (.int (zI 25)), none]) rfl (Nat.le_of_ble_eq_true rfl) ?_
  refine v_run 7 (pc' := 7) (ls' := [some (.int (zI 25)), none]) (st' := [.int (((zI 25) ^^^ (zI (-1))) &&& ((zI 25) - (zI 1)))]) rfl ?_
  rw [show (((zI 25) ^^^ (zI (-1))) &&& ((zI 25) - (zI 1)) : Int32) = zI 0 from by decide +kernel]
  refine v_run 2 (pc' := 9) (ls' := [some (.int (zI 0)), none]) (st' := [.int (zI 0)]) rfl ?_
  refine v_if_gt rfl (fun c9 => ?_) (fun c9 => ?_)
  · exact absurd c9 (by decide +kernel)
  · refine v_run 3 (pc' := 16) (ls' := [some (.int (zI 0)), none]) (st' := [.int ((zI 0) &&& (zI 32))]) rfl ?_
    rw [show ((zI 0) &&& (zI 32) : Int32) = zI 0 from by decide +kernel]
    exact v_iret rfl rfl rfl ⟨rfl, rfl⟩

set_option maxRecDepth 100000 in
set_option maxHeartbeats 400000 in
theorem k_ntz26 (G : ssG) (h : ssH)   : ssC G mJ6_numberOfTrailingZeros_0f7a4 0 0 0 [.int (zI 26)] h (rI (zI 1) h) := by
  refine c_of_v okJ6_numberOfTrailingZeros_0f7a4 (by decide +kernel) (ls := [some (.int (zI 26)), none]) rfl (Nat.le_of_ble_eq_true rfl) ?_
  refine v_run 7 (pc' := 7) (ls' := [some (.int (zI 26)), none]) (st' := [.int (((zI 26) ^^^ (zI (-1))) &&& ((zI 26) - (zI 1)))]) rfl ?_
  rw [show (((zI 26) ^^^ (zI (-1))) &&& ((zI 26) - (zI 1)) : Int32) = zI 1 from by decide +kernel]
  refine v_run 2 (pc' := 9) (ls' := [some (.int (zI 1)), none]) (st' := [.int (zI 1)]) rfl ?_
  refine v_if_gt rfl (fun c9 => ?_) (fun c9 => ?_)
  · refine v_run 4 (pc' := 23) (ls' := [some (.int (zI 1)), some (.int (zI 1))]) (st' := [.int (zI 65536), .int (zI 1)]) rfl ?_
    refine v_icmp_le rfl (fun c23 => ?_) (fun c23 => ?_)
    · refine v_run 2 (pc' := 38) (ls' := [some (.int (zI 1)), some (.int (zI 1))]) (st' := [.int (zI 256), .int (zI 1)]) rfl ?_
      refine v_icmp_le rfl (fun c38 => ?_) (fun c38 => ?_)
      · refine v_run 2 (pc' := 52) (ls' := [some (.int (zI 1)), some (.int (zI 1))]) (st' := [.int (zI 16), .int (zI 1)]) rfl ?_
        refine v_icmp_le rfl (fun c52 => ?_) (fun c52 => ?_)
        · refine v_run 2 (pc' := 64) (ls' := [some (.int (zI 1)), some (.int (zI 1))]) (st' := [.int (zI 4), .int (zI 1)]) rfl ?_
          refine v_icmp_le rfl (fun c64 => ?_) (fun c64 => ?_)
          · refine v_run 5 (pc' := 79) (ls' := [some (.int (zI 1)), some (.int (zI 1))]) (st' := [.int ((zI 1) + (((zI 1).toUInt32 >>> ((zI 1).toUInt32 &&& Int32.toUInt32 31)).toInt32))]) rfl ?_
            rw [show ((zI 1) + (((zI 1).toUInt32 >>> ((zI 1).toUInt32 &&& Int32.toUInt32 31)).toInt32) : Int32) = zI 1 from by decide +kernel]
            exact v_iret rfl rfl rfl ⟨rfl, rfl⟩
          · exact absurd c64 (by decide +kernel)
        · exact absurd c52 (by decide +kernel)
      · exact absurd c38 (by decide +kernel)
    · exact absurd c23 (by decide +kernel)
  · exact absurd c9 (by decide +kernel)

set_option maxRecDepth 100000 in
set_option maxHeartbeats 400000 in
theorem k_ntz27 (G : ssG) (h : ssH)   : ssC G mJ6_numberOfTrailingZeros_0f7a4 0 0 0 [.int (zI 27)] h (rI (zI 0) h) := by
  refine c_of_v okJ6_numberOfTrailingZeros_0f7a4 (by decide +kernel) (ls := [some (.int (zI 27)), none]) rfl (Nat.le_of_ble_eq_true rfl) ?_
  refine v_run 7 (pc' := 7) (ls' := [some (.int (zI 27)), none]) (st' := [.int (((zI 27) ^^^ (zI (-1))) &&& ((zI 27) - (zI 1)))]) rfl ?_
  rw [show (((zI 27) ^^^ (zI (-1))) &&& ((zI 27) - (zI 1)) : Int32) = zI 0 from by decide +kernel]
  refine v_run 2 (pc' := 9) (ls' := [some (.int (zI 0)), none]) (st' := [.int (zI 0)]) rfl ?_
  refine v_if_gt rfl (fun c9 => ?_) (fun c9 => ?_)
  · exact absurd c9 (by decide +kernel)
  · refine v_run 3 (pc' := 16) (ls' := [some (.int (zI 0)), none]) (st' := [.int ((zI 0) &&& (zI 32))]) rfl ?_
    rw [show ((zI 0) &&& (zI 32) : Int32) = zI 0 from by decide +kernel]
    exact v_iret rfl rfl rfl ⟨rfl, rfl⟩

set_option maxRecDepth 100000 in
set_option maxHeartbeats 400000 in
theorem k_ntz28 (G : ssG) (h : ssH)   : ssC G mJ6_numberOfTrailingZeros_0f7a4 0 0 0 [.int (zI 28)] h (rI (zI 2) h) := by
  refine c_of_v okJ6_numberOfTrailingZeros_0f7a4 (by decide +kernel) (ls := [some (.int (zI 28)), none]) rfl (Nat.le_of_ble_eq_true rfl) ?_
  refine v_run 7 (pc' := 7) (ls' := [some (.int (zI 28)), none]) (st' := [.int (((zI 28) ^^^ (zI (-1))) &&& ((zI 28) - (zI 1)))]) rfl ?_
  rw [show (((zI 28) ^^^ (zI (-1))) &&& ((zI 28) - (zI 1)) : Int32) = zI 3 from by decide +kernel]
  refine v_run 2 (pc' := 9) (ls' := [some (.int (zI 3)), none]) (st' := [.int (zI 3)]) rfl ?_
  refine v_if_gt rfl (fun c9 => ?_) (fun c9 => ?_)
  · refine v_run 4 (pc' := 23) (ls' := [some (.int (zI 3)), some (.int (zI 1))]) (st' := [.int (zI 65536), .int (zI 3)]) rfl ?_
    refine v_icmp_le rfl (fun c23 => ?_) (fun c23 => ?_)
    · refine v_run 2 (pc' := 38) (ls' := [some (.int (zI 3)), some (.int (zI 1))]) (st' := [.int (zI 256), .int (zI 3)]) rfl ?_
      refine v_icmp_le rfl (fun c38 => ?_) (fun c38 => ?_)
      · refine v_run 2 (pc' := 52) (ls' := [some (.int (zI 3)), some (.int (zI 1))]) (st' := [.int (zI 16), .int (zI 3)]) rfl ?_
        refine v_icmp_le rfl (fun c52 => ?_) (fun c52 => ?_)
        · refine v_run 2 (pc' := 64) (ls' := [some (.int (zI 3)), some (.int (zI 1))]) (st' := [.int (zI 4), .int (zI 3)]) rfl ?_
          refine v_icmp_le rfl (fun c64 => ?_) (fun c64 => ?_)
          · refine v_run 5 (pc' := 79) (ls' := [some (.int (zI 3)), some (.int (zI 1))]) (st' := [.int ((zI 1) + (((zI 3).toUInt32 >>> ((zI 1).toUInt32 &&& Int32.toUInt32 31)).toInt32))]) rfl ?_
            rw [show ((zI 1) + (((zI 3).toUInt32 >>> ((zI 1).toUInt32 &&& Int32.toUInt32 31)).toInt32) : Int32) = zI 2 from by decide +kernel]
            exact v_iret rfl rfl rfl ⟨rfl, rfl⟩
          · exact absurd c64 (by decide +kernel)
        · exact absurd c52 (by decide +kernel)
      · exact absurd c38 (by decide +kernel)
    · exact absurd c23 (by decide +kernel)
  · exact absurd c9 (by decide +kernel)

set_option maxRecDepth 100000 in
set_option maxHeartbeats 400000 in
theorem k_ntz29 (G : ssG) (h : ssH)   : ssC G mJ6_numberOfTrailingZeros_0f7a4 0 0 0 [.int (zI 29)] h (rI (zI 0) h) := by
  refine c_of_v okJ6_numberOfTrailingZeros_0f7a4 (by decide +kernel) (ls := [some (.int (zI 29)), none]) rfl (Nat.le_of_ble_eq_true rfl) ?_
  refine v_run 7 (pc' := 7) (ls' := [some (.int (zI 29)), none]) (st' := [.int (((zI 29) ^^^ (zI (-1))) &&& ((zI 29) - (zI 1)))]) rfl ?_
  rw [show (((zI 29) ^^^ (zI (-1))) &&& ((zI 29) - (zI 1)) : Int32) = zI 0 from by decide +kernel]
  refine v_run 2 (pc' := 9) (ls' := [some (.int (zI 0)), none]) (st' := [.int (zI 0)]) rfl ?_
  refine v_if_gt rfl (fun c9 => ?_) (fun c9 => ?_)
  · exact absurd c9 (by decide +kernel)
  · refine v_run 3 (pc' := 16) (ls' := [some (.int (zI 0)), none]) (st' := [.int ((zI 0) &&& (zI 32))]) rfl ?_
    rw [show ((zI 0) &&& (zI 32) : Int32) = zI 0 from by decide +kernel]
    exact v_iret rfl rfl rfl ⟨rfl, rfl⟩

set_option maxRecDepth 100000 in
set_option maxHeartbeats 400000 in
theorem k_ntz30 (G : ssG) (h : ssH)   : ssC G mJ6_numberOfTrailingZeros_0f7a4 0 0 0 [.int (zI 30)] h (rI (zI 1) h) := by
  refine c_of_v okJ6_numberOfTrailingZeros_0f7a4 (by decide +kernel) (ls := [some (.int (zI 30)), none]) rfl (Nat.le_of_ble_eq_true rfl) ?_
  refine v_run 7 (pc' := 7) (ls' := [some (.int (zI 30)), none]) (st' := [.int (((zI 30) ^^^ (zI (-1))) &&& ((zI 30) - (zI 1)))]) rfl ?_
  rw [show (((zI 30) ^^^ (zI (-1))) &&& ((zI 30) - (zI 1)) : Int32) = zI 1 from by decide +kernel]
  refine v_run 2 (pc' := 9) (ls' := [some (.int (zI 1)), none]) (st' := [.int (zI 1)]) rfl ?_
  refine v_if_gt rfl (fun c9 => ?_) (fun c9 => ?_)
  · refine v_run 4 (pc' := 23) (ls' := [some (.int (zI 1)), some (.int (zI 1))]) (st' := [.int (zI 65536), .int (zI 1)]) rfl ?_
    refine v_icmp_le rfl (fun c23 => ?_) (fun c23 => ?_)
    · refine v_run 2 (pc' := 38) (ls' := [some (.int (zI 1)), some (.int (zI 1))]) (st' := [.int (zI 256), .int (zI 1)]) rfl ?_
      refine v_icmp_le rfl (fun c38 => ?_) (fun c38 => ?_)
      · refine v_run 2 (pc' := 52) (ls' := [some (.int (zI 1)), some (.int (zI 1))]) (st' := [.int (zI 16), .int (zI 1)]) rfl ?_
        refine v_icmp_le rfl (fun c52 => ?_) (fun c52 => ?_)
        · refine v_run 2 (pc' := 64) (ls' := [some (.int (zI 1)), some (.int (zI 1))]) (st' := [.int (zI 4), .int (zI 1)]) rfl ?_
          refine v_icmp_le rfl (fun c64 => ?_) (fun c64 => ?_)
          · refine v_run 5 (pc' := 79) (ls' := [some (.int (zI 1)), some (.int (zI 1))]) (st' := [.int ((zI 1) + (((zI 1).toUInt32 >>> ((zI 1).toUInt32 &&& Int32.toUInt32 31)).toInt32))]) rfl ?_
            rw [show ((zI 1) + (((zI 1).toUInt32 >>> ((zI 1).toUInt32 &&& Int32.toUInt32 31)).toInt32) : Int32) = zI 1 from by decide +kernel]
            exact v_iret rfl rfl rfl ⟨rfl, rfl⟩
          · exact absurd c64 (by decide +kernel)
        · exact absurd c52 (by decide +kernel)
      · exact absurd c38 (by decide +kernel)
    · exact absurd c23 (by decide +kernel)
  · exact absurd c9 (by decide +kernel)

set_option maxRecDepth 100000 in
set_option maxHeartbeats 400000 in
theorem k_ntz31 (G : ssG) (h : ssH)   : ssC G mJ6_numberOfTrailingZeros_0f7a4 0 0 0 [.int (zI 31)] h (rI (zI 0) h) := by
  refine c_of_v okJ6_numberOfTrailingZeros_0f7a4 (by decide +kernel) (ls := [some (.int (zI 31)), none]) rfl (Nat.le_of_ble_eq_true rfl) ?_
  refine v_run 7 (pc' := 7) (ls' := [some (.int (zI 31)), none]) (st' := [.int (((zI 31) ^^^ (zI (-1))) &&& ((zI 31) - (zI 1)))]) rfl ?_
  rw [show (((zI 31) ^^^ (zI (-1))) &&& ((zI 31) - (zI 1)) : Int32) = zI 0 from by decide +kernel]
  refine v_run 2 (pc' := 9) (ls' := [some (.int (zI 0)), none]) (st' := [.int (zI 0)]) rfl ?_
  refine v_if_gt rfl (fun c9 => ?_) (fun c9 => ?_)
  · exact absurd c9 (by decide +kernel)
  · refine v_run 3 (pc' := 16) (ls' := [some (.int (zI 0)), none]) (st' := [.int ((zI 0) &&& (zI 32))]) rfl ?_
    rw [show ((zI 0) &&& (zI 32) : Int32) = zI 0 from by decide +kernel]
    exact v_iret rfl rfl rfl ⟨rfl, rfl⟩

def ntzN (m : Nat) : Nat := fstN (fun k => bitN m k) 5 0
theorem k_ntz (G : ssG) (h : ssH) (m : Nat) (hm : m < 32) (h0 : m ≠ 0) : ssC G mJ6_numberOfTrailingZeros_0f7a4 0 0 0 [.int (zI ↑m)] h (rI (zI ↑(ntzN m)) h) := by
  match m, hm, h0 with
  | 0, _, h => exact absurd rfl h
  | 1, _, _ => exact k_ntz1 G h
  | 2, _, _ => exact k_ntz2 G h
  | 3, _, _ => exact k_ntz3 G h
  | 4, _, _ => exact k_ntz4 G h
  | 5, _, _ => exact k_ntz5 G h
  | 6, _, _ => exact k_ntz6 G h
  | 7, _, _ => exact k_ntz7 G h
  | 8, _, _ => exact k_ntz8 G h
  | 9, _, _ => exact k_ntz9 G h
  | 10, _, _ => exact k_ntz10 G h
  | 11, _, _ => exact k_ntz11 G h
  | 12, _, _ => exact k_ntz12 G h
  | 13, _, _ => exact k_ntz13 G h
  | 14, _, _ => exact k_ntz14 G h
  | 15, _, _ => exact k_ntz15 G h
  | 16, _, _ => exact k_ntz16 G h
  | 17, _, _ => exact k_ntz17 G h
  | 18, _, _ => exact k_ntz18 G h
  | 19, _, _ => exact k_ntz19 G h
  | 20, _, _ => exact k_ntz20 G h
  | 21, _, _ => exact k_ntz21 G h
  | 22, _, _ => exact k_ntz22 G h
  | 23, _, _ => exact k_ntz23 G h
  | 24, _, _ => exact k_ntz24 G h
  | 25, _, _ => exact k_ntz25 G h
  | 26, _, _ => exact k_ntz26 G h
  | 27, _, _ => exact k_ntz27 G h
  | 28, _, _ => exact k_ntz28 G h
  | 29, _, _ => exact k_ntz29 G h
  | 30, _, _ => exact k_ntz30 G h
  | 31, _, _ => exact k_ntz31 G h
  | n + 32, h, _ => exact absurd h (by omega)
set_option maxRecDepth 100000 in
set_option maxHeartbeats 400000 in
theorem k_fewestStruck (G : ssG) (h : ssH) {ad : Nat → Nat} {pl : Nat} {σ : sT} (a al : Nat) (hA : ∀ k l, ad k = ad l → k = l) (hc : CW0 h ad pl σ) (hok : sOk σ) (ha : a < 5) (hal : al < 32) : ssC G mX8_fewestStruck 1 0 0 [.ref (ad 0), .int (zI ↑a), .int (zI ↑al)] h (rI (zI ↑(fsA σ a al (2 ^ σ 1 7 0)).1) h) := by
  refine c_of_v okX8_fewestStruck (by decide +kernel) (ls := [some (.ref (ad 0)), some (.int (zI ↑a)), some (.int (zI ↑al)), none, none, none, none, none]) rfl (Nat.le_of_ble_eq_true rfl) ?_
  obtain ⟨i0, i1, i2, i3, i5, i7, a4, a6, a8, a9, a10, i11, i12, i14, i15⟩ := id hok.1
  obtain ⟨j0, j1, j2, b3, b4, b5, b6⟩ := id (hok.2.2 3 (by decide))
  have i13 := hok.2.1
  have hpl := hc.1
  simp only [fI] at i0 i1 i2 i3 i5 i7 i11 i12 i14 i15 j0 j1 j2
  refine v_run 6 (pc' := 9) (ls' := [some (.ref (ad 0)), some (.int (zI ↑a)), some (.int (zI ↑al)), some (.int (zI 6)), some (.int (zI 0)), some (.int (zI 0)), none, none]) (st' := []) rfl ?_
  obtain ⟨pw, hpw0⟩ : ∃ pw, pw = 2 ^ σ 1 7 0 := ⟨_, rfl⟩
  have hpw : pw ≤ 32 := hpw0 ▸ Nat.pow_le_pow_right (n := 2) (by decide) i7
  have lp : ∀ (n s : Nat), s ≤ pw → pw + 1 ≤ s + n → ssV G mX8_fewestStruck 1 0 0 (rI (zI ↑(fsA σ a al (2 ^ σ 1 7 0)).1) h) 9 [some (.ref (ad 0)), some (.int (zI ↑a)), some (.int (zI ↑al)), some (.int (zI ↑(fsA σ a al s).2)), some (.int (zI ↑(fsA σ a al s).1)), some (.int (zI ↑s)), none, none] [] h := by
    intro n
    induction n with
    | zero => intro s hs1 hs2; exact absurd hs2 (by omega)
    | succ n ih =>
      intro s hs1 hs2
      have q1 := fsA_le σ a al s
      have q2 := cRO_lt (F := σ 1 10) (ac := σ 1 7 0) (a := a) (st := s) a10
      have q3 := andn_lt (b := al) (n := 5) q2
      have q4 := popN_le s
      refine v_run 3 (pc' := 13) (ls' := [some (.ref (ad 0)), some (.int (zI ↑a)), some (.int (zI ↑al)), some (.int (zI ↑(fsA σ a al s).2)), some (.int (zI ↑(fsA σ a al s).1)), some (.int (zI ↑s)), none, none]) (st' := [.ref (ad 0), .int (zI 1), .int (zI ↑s)]) rfl ?_
      refine v_get rfl hc.2.1 rfl ?_
      refine v_run 0 (pc' := 16) (ls' := [some (.ref (ad 0)), some (.int (zI ↑a)), some (.int (zI ↑al)), some (.int (zI ↑(fsA σ a al s).2)), some (.int (zI ↑(fsA σ a al s).1)), some (.int (zI ↑s)), none, none]) (st' := [.ref (ad pl), .int (zI 1), .int (zI ↑s)]) rfl ?_
      refine v_get rfl hc.2.2.1.1 rfl ?_
      refine v_run 1 (pc' := 20) (ls' := [some (.ref (ad 0)), some (.int (zI ↑a)), some (.int (zI ↑al)), some (.int (zI ↑(fsA σ a al s).2)), some (.int (zI ↑(fsA σ a al s).1)), some (.int (zI ↑s)), none, none]) (st' := [.int ((zI 1) <<< ((zI ↑(σ 1 7 0)) &&& 31)), .int (zI ↑s)]) rfl ?_
      rw [show ((zI 1) <<< ((zI ↑(σ 1 7 0)) &&& 31) : Int32) = zI ↑pw from by rw [hpw0]; exact zI_1shl (by omega)]
      refine v_icmp_ge rfl (fun c20 => ?_) (fun c20 => ?_)
      · simp (disch := omega) only [zI_lt, zI_le, zI_eq, zI_lt0, zI_le0, zI_0lt, zI_0le, zI_eq0] at c20
        refine v_run 1 (pc' := 100) (ls' := [some (.ref (ad 0)), some (.int (zI ↑a)), some (.int (zI ↑al)), some (.int (zI ↑(fsA σ a al s).2)), some (.int (zI ↑(fsA σ a al s).1)), some (.int (zI ↑s)), none, none]) (st' := [.int (zI ↑(fsA σ a al s).1)]) rfl ?_
        exact v_iret rfl rfl rfl ⟨by rw [show s = pw by omega, hpw0], rfl⟩
      · simp (disch := omega) only [zI_lt, zI_le, zI_eq, zI_lt0, zI_le0, zI_0lt, zI_0le, zI_eq0] at c20
        refine v_run 5 (pc' := 29) (ls' := [some (.ref (ad 0)), some (.int (zI ↑a)), some (.int (zI ↑al)), some (.int (zI ↑(fsA σ a al s).2)), some (.int (zI ↑(fsA σ a al s).1)), some (.int (zI ↑s)), none, none]) (st' := [.int (((zI ↑s) >>> ((zI ↑a) &&& 31)) &&& (zI 1))]) rfl ?_
        rw [show (((zI ↑s) >>> ((zI ↑a) &&& 31)) &&& (zI 1) : Int32) = zI ↑(s / 2 ^ a % 2) from zI_bit (by omega) (by omega)]
        refine v_if_ne rfl (fun c29 => ?_) (fun c29 => ?_)
        · simp (disch := omega) only [zI_lt, zI_le, zI_eq, zI_lt0, zI_le0, zI_0lt, zI_0le, zI_eq0] at c29
          refine v_run 3 (pc' := 40) (ls' := [some (.ref (ad 0)), some (.int (zI ↑a)), some (.int (zI ↑al)), some (.int (zI ↑(fsA σ a al s).2)), some (.int (zI ↑(fsA σ a al s).1)), some (.int (zI ↑s)), some (.int (zI 0)), none]) (st' := [.ref (ad 0)]) rfl ?_
          refine v_get rfl hc.2.1 rfl ?_
          refine v_run 2 (pc' := 46) (ls' := [some (.ref (ad 0)), some (.int (zI ↑a)), some (.int (zI ↑al)), some (.int (zI ↑(fsA σ a al s).2)), some (.int (zI ↑(fsA σ a al s).1)), some (.int (zI ↑s)), some (.int (zI 0)), none]) (st' := [.int (zI ↑s), .int (zI ↑a), .ref (ad pl)]) rfl ?_
          refine v_callV (My := mX4_restsOn) (As := [.int (zI ↑a), .int (zI ↑s)]) (rest := []) (mc := 0) (ms := 0) rfl caX4_restsOn rfl rfl rfl hc.2.2.1.1 rfl rfl (k_restsOn G _ a s hc.2.2.1 hok.1 ha (by omega)) rfl rfl (Nat.le_of_ble_eq_true rfl) (by omega) ?_
          rintro _ _ ⟨rfl, rfl⟩
          refine v_run 0 (pc' := 49) (ls' := [some (.ref (ad 0)), some (.int (zI ↑a)), some (.int (zI ↑al)), some (.int (zI ↑(fsA σ a al s).2)), some (.int (zI ↑(fsA σ a al s).1)), some (.int (zI ↑s)), some (.int (zI 0)), none]) (st' := [.int (zI ↑(cRO (σ 1 10) (σ 1 7 0) a s))]) rfl ?_
          refine v_run 4 (pc' := 53) (ls' := [some (.ref (ad 0)), some (.int (zI ↑a)), some (.int (zI ↑al)), some (.int (zI ↑(fsA σ a al s).2)), some (.int (zI ↑(fsA σ a al s).1)), some (.int (zI ↑s)), some (.int (zI 0)), none]) (st' := [.int ((zI ↑(cRO (σ 1 10) (σ 1 7 0) a s)) &&& ((zI ↑al) ^^^ (zI (-1))))]) rfl ?_
          rw [show ((zI ↑(cRO (σ 1 10) (σ 1 7 0) a s)) &&& ((zI ↑al) ^^^ (zI (-1))) : Int32) = zI ↑(andn (cRO (σ 1 10) (σ 1 7 0) a s) al) from zI_andn (by omega) (by omega)]
          refine v_if_ne rfl (fun c53 => ?_) (fun c53 => ?_)
          · simp (disch := omega) only [zI_lt, zI_le, zI_eq, zI_lt0, zI_le0, zI_0lt, zI_0le, zI_eq0] at c53
            refine v_run 3 (pc' := 65) (ls' := [some (.ref (ad 0)), some (.int (zI ↑a)), some (.int (zI ↑al)), some (.int (zI ↑(fsA σ a al s).2)), some (.int (zI ↑(fsA σ a al s).1)), some (.int (zI ↑s)), some (.int (zI 0)), some (.int (zI 0))]) (st' := [.int (zI 0)]) rfl ?_
            refine v_if_eq rfl (fun c65 => ?_) (fun c65 => ?_)
            · refine v_run 2 (pc' := 9) (ls' := [some (.ref (ad 0)), some (.int (zI ↑a)), some (.int (zI ↑al)), some (.int (zI ↑(fsA σ a al s).2)), some (.int (zI ↑(fsA σ a al s).1)), some (.int ((zI ↑s) + zI 1)), some (.int (zI 0)), some (.int (zI 0))]) (st' := []) rfl ?_
              refine v_drop 6 (ls' := [some (.ref (ad 0)), some (.int (zI ↑a)), some (.int (zI ↑al)), some (.int (zI ↑(fsA σ a al s).2)), some (.int (zI ↑(fsA σ a al s).1)), some (.int ((zI ↑s) + zI 1)), none, some (.int (zI 0))]) rfl ?_
              refine v_drop 7 (ls' := [some (.ref (ad 0)), some (.int (zI ↑a)), some (.int (zI ↑al)), some (.int (zI ↑(fsA σ a al s).2)), some (.int (zI ↑(fsA σ a al s).1)), some (.int ((zI ↑s) + zI 1)), none, none]) rfl ?_
              rw [zI_s1, ← fsA_f σ a al s (by rintro ⟨_, _, _⟩; omega)]
              exact ih (s + 1) (by omega) (by omega)
            · exact absurd c65 (by decide +kernel)
          · simp (disch := omega) only [zI_lt, zI_le, zI_eq, zI_lt0, zI_le0, zI_0lt, zI_0le, zI_eq0] at c53
            refine v_run 4 (pc' := 65) (ls' := [some (.ref (ad 0)), some (.int (zI ↑a)), some (.int (zI ↑al)), some (.int (zI ↑(fsA σ a al s).2)), some (.int (zI ↑(fsA σ a al s).1)), some (.int (zI ↑s)), some (.int (zI 0)), some (.int (zI 1))]) (st' := [.int (zI 0)]) rfl ?_
            refine v_if_eq rfl (fun c65 => ?_) (fun c65 => ?_)
            · refine v_run 2 (pc' := 9) (ls' := [some (.ref (ad 0)), some (.int (zI ↑a)), some (.int (zI ↑al)), some (.int (zI ↑(fsA σ a al s).2)), some (.int (zI ↑(fsA σ a al s).1)), some (.int ((zI ↑s) + zI 1)), some (.int (zI 0)), some (.int (zI 1))]) (st' := []) rfl ?_
              refine v_drop 6 (ls' := [some (.ref (ad 0)), some (.int (zI ↑a)), some (.int (zI ↑al)), some (.int (zI ↑(fsA σ a al s).2)), some (.int (zI ↑(fsA σ a al s).1)), some (.int ((zI ↑s) + zI 1)), none, some (.int (zI 1))]) rfl ?_
              refine v_drop 7 (ls' := [some (.ref (ad 0)), some (.int (zI ↑a)), some (.int (zI ↑al)), some (.int (zI ↑(fsA σ a al s).2)), some (.int (zI ↑(fsA σ a al s).1)), some (.int ((zI ↑s) + zI 1)), none, none]) rfl ?_
              rw [zI_s1, ← fsA_f σ a al s (by rintro ⟨_, _, _⟩; omega)]
              exact ih (s + 1) (by omega) (by omega)
            · exact absurd c65 (by decide +kernel)
        · simp (disch := omega) only [zI_lt, zI_le, zI_eq, zI_lt0, zI_le0, zI_0lt, zI_0le, zI_eq0] at c29
          refine v_run 4 (pc' := 40) (ls' := [some (.ref (ad 0)), some (.int (zI ↑a)), some (.int (zI ↑al)), some (.int (zI ↑(fsA σ a al s).2)), some (.int (zI ↑(fsA σ a al s).1)), some (.int (zI ↑s)), some (.int (zI 1)), none]) (st' := [.ref (ad 0)]) rfl ?_
          refine v_get rfl hc.2.1 rfl ?_
          refine v_run 2 (pc' := 46) (ls' := [some (.ref (ad 0)), some (.int (zI ↑a)), some (.int (zI ↑al)), some (.int (zI ↑(fsA σ a al s).2)), some (.int (zI ↑(fsA σ a al s).1)), some (.int (zI ↑s)), some (.int (zI 1)), none]) (st' := [.int (zI ↑s), .int (zI ↑a), .ref (ad pl)]) rfl ?_
          refine v_callV (My := mX4_restsOn) (As := [.int (zI ↑a), .int (zI ↑s)]) (rest := []) (mc := 0) (ms := 0) rfl caX4_restsOn rfl rfl rfl hc.2.2.1.1 rfl rfl (k_restsOn G _ a s hc.2.2.1 hok.1 ha (by omega)) rfl rfl (Nat.le_of_ble_eq_true rfl) (by omega) ?_
          rintro _ _ ⟨rfl, rfl⟩
          refine v_run 0 (pc' := 49) (ls' := [some (.ref (ad 0)), some (.int (zI ↑a)), some (.int (zI ↑al)), some (.int (zI ↑(fsA σ a al s).2)), some (.int (zI ↑(fsA σ a al s).1)), some (.int (zI ↑s)), some (.int (zI 1)), none]) (st' := [.int (zI ↑(cRO (σ 1 10) (σ 1 7 0) a s))]) rfl ?_
          refine v_run 4 (pc' := 53) (ls' := [some (.ref (ad 0)), some (.int (zI ↑a)), some (.int (zI ↑al)), some (.int (zI ↑(fsA σ a al s).2)), some (.int (zI ↑(fsA σ a al s).1)), some (.int (zI ↑s)), some (.int (zI 1)), none]) (st' := [.int ((zI ↑(cRO (σ 1 10) (σ 1 7 0) a s)) &&& ((zI ↑al) ^^^ (zI (-1))))]) rfl ?_
          rw [show ((zI ↑(cRO (σ 1 10) (σ 1 7 0) a s)) &&& ((zI ↑al) ^^^ (zI (-1))) : Int32) = zI ↑(andn (cRO (σ 1 10) (σ 1 7 0) a s) al) from zI_andn (by omega) (by omega)]
          refine v_if_ne rfl (fun c53 => ?_) (fun c53 => ?_)
          · simp (disch := omega) only [zI_lt, zI_le, zI_eq, zI_lt0, zI_le0, zI_0lt, zI_0le, zI_eq0] at c53
            refine v_run 3 (pc' := 65) (ls' := [some (.ref (ad 0)), some (.int (zI ↑a)), some (.int (zI ↑al)), some (.int (zI ↑(fsA σ a al s).2)), some (.int (zI ↑(fsA σ a al s).1)), some (.int (zI ↑s)), some (.int (zI 1)), some (.int (zI 0))]) (st' := [.int (zI 1)]) rfl ?_
            refine v_if_eq rfl (fun c65 => ?_) (fun c65 => ?_)
            · exact absurd c65 (by decide +kernel)
            · refine v_run 1 (pc' := 70) (ls' := [some (.ref (ad 0)), some (.int (zI ↑a)), some (.int (zI ↑al)), some (.int (zI ↑(fsA σ a al s).2)), some (.int (zI ↑(fsA σ a al s).1)), some (.int (zI ↑s)), some (.int (zI 1)), some (.int (zI 0))]) (st' := [.int (zI 0)]) rfl ?_
              refine v_if_eq rfl (fun c70 => ?_) (fun c70 => ?_)
              · refine v_run 2 (pc' := 9) (ls' := [some (.ref (ad 0)), some (.int (zI ↑a)), some (.int (zI ↑al)), some (.int (zI ↑(fsA σ a al s).2)), some (.int (zI ↑(fsA σ a al s).1)), some (.int ((zI ↑s) + zI 1)), some (.int (zI 1)), some (.int (zI 0))]) (st' := []) rfl ?_
                refine v_drop 6 (ls' := [some (.ref (ad 0)), some (.int (zI ↑a)), some (.int (zI ↑al)), some (.int (zI ↑(fsA σ a al s).2)), some (.int (zI ↑(fsA σ a al s).1)), some (.int ((zI ↑s) + zI 1)), none, some (.int (zI 0))]) rfl ?_
                refine v_drop 7 (ls' := [some (.ref (ad 0)), some (.int (zI ↑a)), some (.int (zI ↑al)), some (.int (zI ↑(fsA σ a al s).2)), some (.int (zI ↑(fsA σ a al s).1)), some (.int ((zI ↑s) + zI 1)), none, none]) rfl ?_
                rw [zI_s1, ← fsA_f σ a al s (by rintro ⟨_, _, _⟩; omega)]
                exact ih (s + 1) (by omega) (by omega)
              · exact absurd c70 (by decide +kernel)
          · simp (disch := omega) only [zI_lt, zI_le, zI_eq, zI_lt0, zI_le0, zI_0lt, zI_0le, zI_eq0] at c53
            refine v_run 4 (pc' := 65) (ls' := [some (.ref (ad 0)), some (.int (zI ↑a)), some (.int (zI ↑al)), some (.int (zI ↑(fsA σ a al s).2)), some (.int (zI ↑(fsA σ a al s).1)), some (.int (zI ↑s)), some (.int (zI 1)), some (.int (zI 1))]) (st' := [.int (zI 1)]) rfl ?_
            refine v_if_eq rfl (fun c65 => ?_) (fun c65 => ?_)
            · exact absurd c65 (by decide +kernel)
            · refine v_run 1 (pc' := 70) (ls' := [some (.ref (ad 0)), some (.int (zI ↑a)), some (.int (zI ↑al)), some (.int (zI ↑(fsA σ a al s).2)), some (.int (zI ↑(fsA σ a al s).1)), some (.int (zI ↑s)), some (.int (zI 1)), some (.int (zI 1))]) (st' := [.int (zI 1)]) rfl ?_
              refine v_if_eq rfl (fun c70 => ?_) (fun c70 => ?_)
              · exact absurd c70 (by decide +kernel)
              · refine v_run 1 (pc' := 75) (ls' := [some (.ref (ad 0)), some (.int (zI ↑a)), some (.int (zI ↑al)), some (.int (zI ↑(fsA σ a al s).2)), some (.int (zI ↑(fsA σ a al s).1)), some (.int (zI ↑s)), some (.int (zI 1)), some (.int (zI 1))]) (st' := [.int (zI ↑s)]) rfl ?_
                refine v_callS (My := mJ6_bitCount_0f7a4) (As := [.int (zI ↑s)]) (rest := []) (mc := 0) (ms := 0) rfl caJ6_bitCount_0f7a4 rfl rfl (k_bitCount G _ s (by omega)) rfl rfl (Nat.le_of_ble_eq_true rfl) (by omega) ?_
                rintro _ _ ⟨rfl, rfl⟩
                refine v_run 0 (pc' := 78) (ls' := [some (.ref (ad 0)), some (.int (zI ↑a)), some (.int (zI ↑al)), some (.int (zI ↑(fsA σ a al s).2)), some (.int (zI ↑(fsA σ a al s).1)), some (.int (zI ↑s)), some (.int (zI 1)), some (.int (zI 1))]) (st' := [.int (zI ↑(popN s))]) rfl ?_
                refine v_run 1 (pc' := 79) (ls' := [some (.ref (ad 0)), some (.int (zI ↑a)), some (.int (zI ↑al)), some (.int (zI ↑(fsA σ a al s).2)), some (.int (zI ↑(fsA σ a al s).1)), some (.int (zI ↑s)), some (.int (zI 1)), some (.int (zI 1))]) (st' := [.int (zI ↑(fsA σ a al s).2), .int (zI ↑(popN s))]) rfl ?_
                refine v_icmp_ge rfl (fun c79 => ?_) (fun c79 => ?_)
                · simp (disch := omega) only [zI_lt, zI_le, zI_eq, zI_lt0, zI_le0, zI_0lt, zI_0le, zI_eq0] at c79
                  refine v_run 2 (pc' := 9) (ls' := [some (.ref (ad 0)), some (.int (zI ↑a)), some (.int (zI ↑al)), some (.int (zI ↑(fsA σ a al s).2)), some (.int (zI ↑(fsA σ a al s).1)), some (.int ((zI ↑s) + zI 1)), some (.int (zI 1)), some (.int (zI 1))]) (st' := []) rfl ?_
                  refine v_drop 6 (ls' := [some (.ref (ad 0)), some (.int (zI ↑a)), some (.int (zI ↑al)), some (.int (zI ↑(fsA σ a al s).2)), some (.int (zI ↑(fsA σ a al s).1)), some (.int ((zI ↑s) + zI 1)), none, some (.int (zI 1))]) rfl ?_
                  refine v_drop 7 (ls' := [some (.ref (ad 0)), some (.int (zI ↑a)), some (.int (zI ↑al)), some (.int (zI ↑(fsA σ a al s).2)), some (.int (zI ↑(fsA σ a al s).1)), some (.int ((zI ↑s) + zI 1)), none, none]) rfl ?_
                  rw [zI_s1, ← fsA_f σ a al s (by rintro ⟨_, _, _⟩; omega)]
                  exact ih (s + 1) (by omega) (by omega)
                · simp (disch := omega) only [zI_lt, zI_le, zI_eq, zI_lt0, zI_le0, zI_0lt, zI_0le, zI_eq0] at c79
                  refine v_run 1 (pc' := 84) (ls' := [some (.ref (ad 0)), some (.int (zI ↑a)), some (.int (zI ↑al)), some (.int (zI ↑(fsA σ a al s).2)), some (.int (zI ↑(fsA σ a al s).1)), some (.int (zI ↑s)), some (.int (zI 1)), some (.int (zI 1))]) (st' := [.int (zI ↑s)]) rfl ?_
                  refine v_callS (My := mJ6_bitCount_0f7a4) (As := [.int (zI ↑s)]) (rest := []) (mc := 0) (ms := 0) rfl caJ6_bitCount_0f7a4 rfl rfl (k_bitCount G _ s (by omega)) rfl rfl (Nat.le_of_ble_eq_true rfl) (by omega) ?_
                  rintro _ _ ⟨rfl, rfl⟩
                  refine v_run 0 (pc' := 87) (ls' := [some (.ref (ad 0)), some (.int (zI ↑a)), some (.int (zI ↑al)), some (.int (zI ↑(fsA σ a al s).2)), some (.int (zI ↑(fsA σ a al s).1)), some (.int (zI ↑s)), some (.int (zI 1)), some (.int (zI 1))]) (st' := [.int (zI ↑(popN s))]) rfl ?_
                  refine v_run 5 (pc' := 9) (ls' := [some (.ref (ad 0)), some (.int (zI ↑a)), some (.int (zI ↑al)), some (.int (zI ↑(popN s))), some (.int (zI ↑s)), some (.int ((zI ↑s) + zI 1)), some (.int (zI 1)), some (.int (zI 1))]) (st' := []) rfl ?_
                  refine v_drop 6 (ls' := [some (.ref (ad 0)), some (.int (zI ↑a)), some (.int (zI ↑al)), some (.int (zI ↑(popN s))), some (.int (zI ↑s)), some (.int ((zI ↑s) + zI 1)), none, some (.int (zI 1))]) rfl ?_
                  refine v_drop 7 (ls' := [some (.ref (ad 0)), some (.int (zI ↑a)), some (.int (zI ↑al)), some (.int (zI ↑(popN s))), some (.int (zI ↑s)), some (.int ((zI ↑s) + zI 1)), none, none]) rfl ?_
                  rw [zI_s1]
                  have q := ih (s + 1) (by omega) (by omega); rw [fsA_t σ a al s ⟨by omega, by omega, by omega⟩] at q; exact q
  exact lp (pw + 1) 0 (by omega) (by omega)

set_option maxRecDepth 100000 in
set_option maxHeartbeats 400000 in
theorem k_strike (G : ssG) (h : ssH) {ad : Nat → Nat} {pl : Nat} {σ : sT} (s : Int) (hA : ∀ k l, ad k = ad l → k = l) (hc : CW0 h ad pl σ) (hok : sOk σ) (hs : -2147483648 ≤ s ∧ s < 2147483648) : ssC G mX8_strike 4 0 0 [.ref (ad 0), .int (zI s)] h (cR ad pl (sTr σ (aStrike σ s).2) h (.int (zI (aStrike σ s).1))) := by
  refine c_of_v okX8_strike (by decide +kernel) (ls := [some (.ref (ad 0)), some (.int (zI s)), none]) rfl (Nat.le_of_ble_eq_true rfl) ?_
  obtain ⟨i0, i1, i2, i3, i5, i7, a4, a6, a8, a9, a10, i11, i12, i14, i15⟩ := id hok.1
  obtain ⟨j0, j1, j2, b3, b4, b5, b6⟩ := id (hok.2.2 3 (by decide))
  have i13 := hok.2.1
  have hpl := hc.1
  simp only [fI] at i0 i1 i2 i3 i5 i7 i11 i12 i14 i15 j0 j1 j2
  obtain ⟨E, hS, hE⟩ := hc.2.2.2.2.2.2.2.1
  refine v_run 2 (pc' := 2) (ls' := [some (.ref (ad 0)), some (.int (zI s)), none]) (st' := [.int (zI s), .ref (ad 0)]) rfl ?_
  refine v_callV (My := mX8_lacksAct) (As := [.int (zI s)]) (rest := []) (mc := 0) (ms := 0) rfl caX8_lacksAct rfl rfl rfl hc.2.1 rfl rfl (k_lacksAct G _ s hA hc hok hs) rfl rfl (Nat.le_of_ble_eq_true rfl) (by omega) ?_
  rintro _ _ ⟨rfl, rfl⟩
  refine v_run 0 (pc' := 5) (ls' := [some (.ref (ad 0)), some (.int (zI s)), none]) (st' := [.int (zb (decide (s < 0 ∨ ↑(σ 1 7 0) ≤ s)))]) rfl ?_
  refine v_if_eq rfl (fun c5 => ?_) (fun c5 => ?_)
  · rw [zb_0, decide_eq_false_iff_not] at c5
    obtain ⟨k, rfl⟩ : ∃ z : Nat, s = ↑z := ⟨s.toNat, by omega⟩
    refine v_run 1 (pc' := 15) (ls' := [some (.ref (ad 0)), some (.int (zI ↑k)), none]) (st' := [.ref (ad 0)]) rfl ?_
    refine v_get rfl hc.2.1 rfl ?_
    refine v_run 1 (pc' := 19) (ls' := [some (.ref (ad 0)), some (.int (zI ↑k)), none]) (st' := [.ref (ad 0), .ref (ad 136)]) rfl ?_
    refine v_get rfl hc.2.1 rfl ?_
    refine v_run 1 (pc' := 23) (ls' := [some (.ref (ad 0)), some (.int (zI ↑k)), none]) (st' := [.ref (ad 0), .ref (ad pl), .ref (ad 136)]) rfl ?_
    refine v_get rfl hc.2.1 rfl ?_
    refine v_run 0 (pc' := 26) (ls' := [some (.ref (ad 0)), some (.int (zI ↑k)), none]) (st' := [.ref (ad 33), .ref (ad pl), .ref (ad 136)]) rfl ?_
    refine v_callV (My := mX6_fill) (As := [.ref (ad pl), .ref (ad 33)]) (rest := []) (mc := 0) (ms := 0) rfl caX6_fill rfl rfl rfl hS.1 rfl rfl (k_fill G _ hc.2.2.1 hok.1 hc.2.2.2.2.1 (hok.2.2 3 (by decide)) hS (ad_ne hA (by omega)) ⟨ad_ne hA (by omega), ad_ne hA (by simp; omega), ad_ne hA (by simp; omega), ad_ne hA (by simp; omega), ad_ne hA (by simp; omega), ad_ne hA (by simp; omega), ad_ne hA (by omega), ad_ne hA (by omega), ad_ne hA (by omega), ad_ne hA (by omega), ad_ne hA (by omega)⟩) rfl rfl (Nat.le_of_ble_eq_true rfl) (by omega) ?_
    rintro _ h1 ⟨rfl, e1⟩
    have hc1 : CW0 h1 ad pl σ := e1 ▸ hc.spans hA (sE_le σ hE)
    have hS1 : SpanAt h1 (ad 136) (ad 137) (sE σ E) := e1 ▸ ⟨(hset_ne _ _ (ad_ne hA (by omega))).trans hS.1, hset_self _ _ _⟩
    have hf1 : frP ad pl h h1 := e1 ▸ (frP.rf ad pl h).set hA hc.1 (by omega) _
    refine v_run 0 (pc' := 29) (ls' := [some (.ref (ad 0)), some (.int (zI ↑k)), none]) (st' := []) rfl ?_
    refine v_run 1 (pc' := 30) (ls' := [some (.ref (ad 0)), some (.int (zI ↑k)), none]) (st' := [.ref (ad 0)]) rfl ?_
    refine v_get rfl hc1.2.1 rfl ?_
    refine v_run 1 (pc' := 34) (ls' := [some (.ref (ad 0)), some (.int (zI ↑k)), none]) (st' := [.ref (ad 0), .ref (ad pl)]) rfl ?_
    refine v_get rfl hc1.2.1 rfl ?_
    refine v_run 1 (pc' := 38) (ls' := [some (.ref (ad 0)), some (.int (zI ↑k)), none]) (st' := [.ref (ad 0), .ref (ad 33), .ref (ad pl)]) rfl ?_
    refine v_get rfl hc1.2.1 rfl ?_
    refine v_run 0 (pc' := 41) (ls' := [some (.ref (ad 0)), some (.int (zI ↑k)), none]) (st' := [.ref (ad 136), .ref (ad 33), .ref (ad pl)]) rfl ?_
    refine v_callV (My := mX4_goingAlone) (As := [.ref (ad 33), .ref (ad 136)]) (rest := []) (mc := 0) (ms := 0) rfl caX4_goingAlone rfl rfl rfl hc1.2.2.1.1 rfl rfl (k_goingAlone G _ hc1.2.2.1 hok.1 hc1.2.2.2.2.1 (hok.2.2 3 (by decide)) hS1 (sE_le σ hE)) rfl rfl (Nat.le_of_ble_eq_true rfl) (by omega) ?_
    rintro _ _ ⟨rfl, rfl⟩
    refine v_run 0 (pc' := 44) (ls' := [some (.ref (ad 0)), some (.int (zI ↑k)), none]) (st' := [.int (zI ↑(setN (cAloneP (σ 1 0 0) (σ 1 5 0) (σ 1 8) (σ 1 9) (σ 1 6) (σ 3 0 0) (σ 3 6) (sE σ E)) (σ 1 7 0)))]) rfl ?_
    rw [show (zI ↑(setN (cAloneP (σ 1 0 0) (σ 1 5 0) (σ 1 8) (σ 1 9) (σ 1 6) (σ 3 0 0) (σ 3 6) (sE σ E)) (σ 1 7 0)) : Int32) = zI ↑(sAlone σ) from by rw [sAlone, sAlone_congr σ E]]
    have q1 : sAlone σ < 32 := Nat.lt_of_lt_of_le (setN_lt _ _) (Nat.pow_le_pow_right (n := 2) (by decide) i7)
    refine v_run 6 (pc' := 50) (ls' := [some (.ref (ad 0)), some (.int (zI ↑k)), some (.int (zI ↑(sAlone σ)))]) (st' := [.int (((zI ↑(sAlone σ)) >>> ((zI ↑k) &&& 31)) &&& (zI 1))]) rfl ?_
    rw [show (((zI ↑(sAlone σ)) >>> ((zI ↑k) &&& 31)) &&& (zI 1) : Int32) = zI ↑(sAlone σ / 2 ^ k % 2) from zI_bit (by omega) (by omega)]
    refine v_if_ne rfl (fun c50 => ?_) (fun c50 => ?_)
    · simp (disch := omega) only [zI_lt, zI_le, zI_eq, zI_lt0, zI_le0, zI_0lt, zI_0le, zI_eq0] at c50
      refine v_run 4 (pc' := 64) (ls' := [some (.ref (ad 0)), some (.int (zI ↑k)), some (.int (zI ↑(sAlone σ)))]) (st' := [.int (zI ↑(sAlone σ)), .int (zI ↑k), .ref (ad 0), .ref (ad 0)]) rfl ?_
      refine v_callV (My := mX8_fewestStruck) (As := [.int (zI ↑k), .int (zI ↑(sAlone σ))]) (rest := [.ref (ad 0)]) (mc := 0) (ms := 0) rfl caX8_fewestStruck rfl rfl rfl hc1.2.1 rfl rfl (k_fewestStruck G _ k (sAlone σ) hA hc1 hok (by omega) q1) rfl rfl (Nat.le_of_ble_eq_true rfl) (by omega) ?_
      rintro _ _ ⟨rfl, rfl⟩
      refine v_run 0 (pc' := 67) (ls' := [some (.ref (ad 0)), some (.int (zI ↑k)), some (.int (zI ↑(sAlone σ)))]) (st' := [.int (zI ↑(fsA σ k (sAlone σ) (2 ^ σ 1 7 0)).1), .ref (ad 0)]) rfl ?_
      refine v_callV (My := mX8_grant) (As := [.int (zI ↑(fsA σ k (sAlone σ) (2 ^ σ 1 7 0)).1)]) (rest := []) (mc := 0) (ms := 0) rfl caX8_grant rfl rfl rfl hc1.2.1 rfl rfl (k_grant G _ ((zI ↑(fsA σ k (sAlone σ) (2 ^ σ 1 7 0)).1)) hA hc1 hok) rfl rfl (Nat.le_of_ble_eq_true rfl) (by omega) ?_
      rintro _ h9 ⟨rfl, hc9, hf9⟩
      refine v_run 0 (pc' := 70) (ls' := [some (.ref (ad 0)), some (.int (zI ↑k)), some (.int (zI ↑(sAlone σ)))]) (st' := [.int ((zI ↑(fsA σ k (sAlone σ) (2 ^ σ 1 7 0)).1))]) rfl ?_
      rw [show aStrike σ ↑k = (↑(fsA σ k (sAlone σ) (2 ^ σ 1 7 0)).1, 0) from by rw [aStrike, if_neg c5, if_neg (by simp only [Int.toNat_natCast]; omega)]; rfl]
      exact v_iret rfl rfl rfl ⟨rfl, hc9, hf1.tr hf9⟩
    · simp (disch := omega) only [zI_lt, zI_le, zI_eq, zI_lt0, zI_le0, zI_0lt, zI_0le, zI_eq0] at c50
      refine v_run 2 (pc' := 56) (ls' := [some (.ref (ad 0)), some (.int (zI ↑k)), some (.int (zI ↑(sAlone σ)))]) (st' := [.int (zI (-2)), .ref (ad 0)]) rfl ?_
      refine v_callV (My := mX8_grant) (As := [.int (zI (-2))]) (rest := []) (mc := 0) (ms := 0) rfl caX8_grant rfl rfl rfl hc1.2.1 rfl rfl (k_grant G _ ((zI (-2))) hA hc1 hok) rfl rfl (Nat.le_of_ble_eq_true rfl) (by omega) ?_
      rintro _ h9 ⟨rfl, hc9, hf9⟩
      refine v_run 0 (pc' := 59) (ls' := [some (.ref (ad 0)), some (.int (zI ↑k)), some (.int (zI ↑(sAlone σ)))]) (st' := [.int ((zI (-2)))]) rfl ?_
      rw [show aStrike σ ↑k = (-2, 0) from by rw [aStrike, if_neg c5, if_pos (by simp only [Int.toNat_natCast]; omega)]]
      exact v_iret rfl rfl rfl ⟨rfl, hc9, hf1.tr hf9⟩
  · rw [zb_0, Bool.not_eq_false, decide_eq_true_eq] at c5
    refine v_run 2 (pc' := 10) (ls' := [some (.ref (ad 0)), some (.int (zI s)), none]) (st' := [.int (zI 1), .ref (ad 0)]) rfl ?_
    refine v_callV (My := mX8_refuse) (As := [.int (zI 1)]) (rest := []) (mc := 0) (ms := 0) rfl caX8_refuse rfl rfl rfl hc.2.1 rfl rfl (k_refuse G _ 1 hA hc hok) rfl rfl (Nat.le_of_ble_eq_true rfl) (by omega) ?_
    rintro _ h9 ⟨rfl, hc9, hf9⟩
    refine v_run 0 (pc' := 13) (ls' := [some (.ref (ad 0)), some (.int (zI s)), none]) (st' := [.int (zI (-1))]) rfl ?_
    rw [show aStrike σ s = (-1, 1) from if_pos c5]
    exact v_iret rfl rfl rfl ⟨rfl, hc9, hf9⟩

set_option maxRecDepth 100000 in
set_option maxHeartbeats 400000 in
theorem k_keyMan (G : ssG) (h : ssH) {ad : Nat → Nat} {pl : Nat} {σ : sT}  (hA : ∀ k l, ad k = ad l → k = l) (hc : CW0 h ad pl σ) (hok : sOk σ)  : ssC G mX8_keyMan 4 0 0 [.ref (ad 0)] h (cR ad pl (sTr σ (aKeyMan σ).2) h (.int (zI (aKeyMan σ).1))) := by
  refine c_of_v okX8_keyMan (by decide +kernel) (ls := [some (.ref (ad 0)), none, none, none, none, none]) rfl (Nat.le_of_ble_eq_true rfl) ?_
  obtain ⟨i0, i1, i2, i3, i5, i7, a4, a6, a8, a9, a10, i11, i12, i14, i15⟩ := id hok.1
  obtain ⟨j0, j1, j2, b3, b4, b5, b6⟩ := id (hok.2.2 3 (by decide))
  have i13 := hok.2.1
  have hpl := hc.1
  simp only [fI] at i0 i1 i2 i3 i5 i7 i11 i12 i14 i15 j0 j1 j2
  obtain ⟨E, hS, hE⟩ := hc.2.2.2.2.2.2.2.1
  refine v_run 1 (pc' := 1) (ls' := [some (.ref (ad 0)), none, none, none, none, none]) (st' := [.ref (ad 0)]) rfl ?_
  refine v_callV (My := mX8_lacksSafe) (As := []) (rest := []) (mc := 0) (ms := 0) rfl caX8_lacksSafe rfl rfl rfl hc.2.1 rfl rfl (k_lacksSafe G _ hA hc hok) rfl rfl (Nat.le_of_ble_eq_true rfl) (by omega) ?_
  rintro _ _ ⟨rfl, rfl⟩
  refine v_run 0 (pc' := 4) (ls' := [some (.ref (ad 0)), none, none, none, none, none]) (st' := [.int (zb (decide (σ 1 5 0 = 0)))]) rfl ?_
  refine v_if_eq rfl (fun c4 => ?_) (fun c4 => ?_)
  · rw [zb_0, decide_eq_false_iff_not] at c4
    refine v_run 1 (pc' := 14) (ls' := [some (.ref (ad 0)), none, none, none, none, none]) (st' := [.ref (ad 0)]) rfl ?_
    refine v_get rfl hc.2.1 rfl ?_
    refine v_run 1 (pc' := 18) (ls' := [some (.ref (ad 0)), none, none, none, none, none]) (st' := [.ref (ad 0), .ref (ad 136)]) rfl ?_
    refine v_get rfl hc.2.1 rfl ?_
    refine v_run 1 (pc' := 22) (ls' := [some (.ref (ad 0)), none, none, none, none, none]) (st' := [.ref (ad 0), .ref (ad pl), .ref (ad 136)]) rfl ?_
    refine v_get rfl hc.2.1 rfl ?_
    refine v_run 0 (pc' := 25) (ls' := [some (.ref (ad 0)), none, none, none, none, none]) (st' := [.ref (ad 33), .ref (ad pl), .ref (ad 136)]) rfl ?_
    refine v_callV (My := mX6_fill) (As := [.ref (ad pl), .ref (ad 33)]) (rest := []) (mc := 0) (ms := 0) rfl caX6_fill rfl rfl rfl hS.1 rfl rfl (k_fill G _ hc.2.2.1 hok.1 hc.2.2.2.2.1 (hok.2.2 3 (by decide)) hS (ad_ne hA (by omega)) ⟨ad_ne hA (by omega), ad_ne hA (by simp; omega), ad_ne hA (by simp; omega), ad_ne hA (by simp; omega), ad_ne hA (by simp; omega), ad_ne hA (by simp; omega), ad_ne hA (by omega), ad_ne hA (by omega), ad_ne hA (by omega), ad_ne hA (by omega), ad_ne hA (by omega)⟩) rfl rfl (Nat.le_of_ble_eq_true rfl) (by omega) ?_
    rintro _ h1 ⟨rfl, e1⟩
    have hc1 : CW0 h1 ad pl σ := e1 ▸ hc.spans hA (sE_le σ hE)
    have hS1 : SpanAt h1 (ad 136) (ad 137) (sE σ E) := e1 ▸ ⟨(hset_ne _ _ (ad_ne hA (by omega))).trans hS.1, hset_self _ _ _⟩
    have hf1 : frP ad pl h h1 := e1 ▸ (frP.rf ad pl h).set hA hc.1 (by omega) _
    refine v_run 0 (pc' := 28) (ls' := [some (.ref (ad 0)), none, none, none, none, none]) (st' := []) rfl ?_
    refine v_run 6 (pc' := 36) (ls' := [some (.ref (ad 0)), some (.int (zI 6)), some (.int (zI (-2))), some (.int (zI 0)), none, none]) (st' := []) rfl ?_
    have lp : ∀ (n s : Nat) (h4 : ssH), CW0 h4 ad pl σ → SpanAt h4 (ad 136) (ad 137) (sE σ E) → frP ad pl h h4 → s ≤ σ 1 5 0 → σ 1 5 0 + 1 ≤ s + n → ssV G mX8_keyMan 4 0 0 (cR ad pl (sTr σ (aKeyMan σ).2) h (.int (zI (aKeyMan σ).1))) 36 [some (.ref (ad 0)), some (.int (zI ↑(kmA σ s).2)), some (.int (zI (kmA σ s).1)), some (.int (zI ↑s)), none, none] [] h4 := by
      intro n
      induction n with
      | zero => intro s h4 hc4 hS4 hf4 hs1 hs2; exact absurd hs2 (by omega)
      | succ n ih =>
        intro s h4 hc4 hS4 hf4 hs1 hs2
        have q1 := kmA_le σ s
        refine v_run 2 (pc' := 38) (ls' := [some (.ref (ad 0)), some (.int (zI ↑(kmA σ s).2)), some (.int (zI (kmA σ s).1)), some (.int (zI ↑s)), none, none]) (st' := [.ref (ad 0), .int (zI ↑s)]) rfl ?_
        refine v_get rfl hc4.2.1 rfl ?_
        refine v_run 0 (pc' := 41) (ls' := [some (.ref (ad 0)), some (.int (zI ↑(kmA σ s).2)), some (.int (zI (kmA σ s).1)), some (.int (zI ↑s)), none, none]) (st' := [.ref (ad pl), .int (zI ↑s)]) rfl ?_
        refine v_get rfl hc4.2.2.1.1 rfl ?_
        refine v_run 0 (pc' := 44) (ls' := [some (.ref (ad 0)), some (.int (zI ↑(kmA σ s).2)), some (.int (zI (kmA σ s).1)), some (.int (zI ↑s)), none, none]) (st' := [.int (zI ↑(σ 1 5 0)), .int (zI ↑s)]) rfl ?_
        refine v_icmp_ge rfl (fun c44 => ?_) (fun c44 => ?_)
        · simp (disch := omega) only [zI_lt, zI_le, zI_eq, zI_lt0, zI_le0, zI_0lt, zI_0le, zI_eq0] at c44
          refine v_run 2 (pc' := 125) (ls' := [some (.ref (ad 0)), some (.int (zI ↑(kmA σ s).2)), some (.int (zI (kmA σ s).1)), some (.int (zI ↑s)), none, none]) (st' := [.int (zI (kmA σ s).1), .ref (ad 0)]) rfl ?_
          refine v_callV (My := mX8_grant) (As := [.int (zI (kmA σ s).1)]) (rest := []) (mc := 0) (ms := 0) rfl caX8_grant rfl rfl rfl hc4.2.1 rfl rfl (k_grant G _ ((zI (kmA σ s).1)) hA hc4 hok) rfl rfl (Nat.le_of_ble_eq_true rfl) (by omega) ?_
          rintro _ h9 ⟨rfl, hc9, hf9⟩
          refine v_run 0 (pc' := 128) (ls' := [some (.ref (ad 0)), some (.int (zI ↑(kmA σ s).2)), some (.int (zI (kmA σ s).1)), some (.int (zI ↑s)), none, none]) (st' := [.int ((zI (kmA σ s).1))]) rfl ?_
          rw [show aKeyMan σ = ((kmA σ s).1, 0) from by rw [aKeyMan, if_neg c4, show s = σ 1 5 0 by omega]]
          exact v_iret rfl rfl rfl ⟨rfl, hc9, hf4.tr hf9⟩
        · simp (disch := omega) only [zI_lt, zI_le, zI_eq, zI_lt0, zI_le0, zI_0lt, zI_0le, zI_eq0] at c44
          refine v_run 1 (pc' := 48) (ls' := [some (.ref (ad 0)), some (.int (zI ↑(kmA σ s).2)), some (.int (zI (kmA σ s).1)), some (.int (zI ↑s)), none, none]) (st' := [.ref (ad 0)]) rfl ?_
          refine v_get rfl hc4.2.1 rfl ?_
          refine v_run 0 (pc' := 51) (ls' := [some (.ref (ad 0)), some (.int (zI ↑(kmA σ s).2)), some (.int (zI (kmA σ s).1)), some (.int (zI ↑s)), none, none]) (st' := [.ref (ad 136)]) rfl ?_
          refine v_get rfl hS4.1 rfl ?_
          refine v_run 1 (pc' := 55) (ls' := [some (.ref (ad 0)), some (.int (zI ↑(kmA σ s).2)), some (.int (zI (kmA σ s).1)), some (.int (zI ↑s)), none, none]) (st' := [.int (zI ↑s), .ref (ad 137)]) rfl ?_
          refine v_iaload' rfl hS4.2 (i := s) rfl (by omega) ?_
          refine v_run 2 (pc' := 59) (ls' := [some (.ref (ad 0)), some (.int (zI ↑(kmA σ s).2)), some (.int (zI (kmA σ s).1)), some (.int (zI ↑s)), some (.int ((fun k => zI ↑(sE σ E k)) s)), none]) (st' := [.ref (ad 0)]) rfl ?_
          refine v_get rfl hc4.2.1 rfl ?_
          refine v_run 0 (pc' := 62) (ls' := [some (.ref (ad 0)), some (.int (zI ↑(kmA σ s).2)), some (.int (zI (kmA σ s).1)), some (.int (zI ↑s)), some (.int ((fun k => zI ↑(sE σ E k)) s)), none]) (st' := [.ref (ad 136)]) rfl ?_
          refine v_get rfl hS4.1 rfl ?_
          refine v_run 2 (pc' := 67) (ls' := [some (.ref (ad 0)), some (.int (zI ↑(kmA σ s).2)), some (.int (zI (kmA σ s).1)), some (.int (zI ↑s)), some (.int ((fun k => zI ↑(sE σ E k)) s)), none]) (st' := [.int (zI 0), .int (zI ↑s), .ref (ad 137)]) rfl ?_
          refine v_iastore' (y := zI ↑(0 : Nat)) rfl hS4.2 (i := s) rfl (by omega) ?_
          rw [ar_upd]
          generalize he5 : hset h4 (ad (136 + 1)) (ar 6 (fun j => if j = s then 0 else (sE σ E) j)) = h5
          have hE5 : ∀ k, (fun j => if j = s then 0 else sE σ E j) k ≤ 99 := fun k => by dsimp only; split; exact Nat.zero_le _; exact sE_le σ hE k
          have hc5 : CW0 h5 ad pl σ := he5 ▸ hc4.spans hA hE5
          have hS5 : SpanAt h5 (ad 136) (ad 137) (fun j => if j = s then 0 else sE σ E j) := he5 ▸ ⟨(hset_ne _ _ (ad_ne hA (by omega))).trans hS4.1, hset_self _ _ _⟩
          have hf5 : frP ad pl h h5 := he5 ▸ hf4.set hA hc.1 (by omega) _
          refine v_run 1 (pc' := 69) (ls' := [some (.ref (ad 0)), some (.int (zI ↑(kmA σ s).2)), some (.int (zI (kmA σ s).1)), some (.int (zI ↑s)), some (.int ((fun k => zI ↑(sE σ E k)) s)), none]) (st' := [.ref (ad 0)]) rfl ?_
          refine v_get rfl hc5.2.1 rfl ?_
          refine v_run 1 (pc' := 73) (ls' := [some (.ref (ad 0)), some (.int (zI ↑(kmA σ s).2)), some (.int (zI (kmA σ s).1)), some (.int (zI ↑s)), some (.int ((fun k => zI ↑(sE σ E k)) s)), none]) (st' := [.ref (ad 0), .ref (ad pl)]) rfl ?_
          refine v_get rfl hc5.2.1 rfl ?_
          refine v_run 1 (pc' := 77) (ls' := [some (.ref (ad 0)), some (.int (zI ↑(kmA σ s).2)), some (.int (zI (kmA σ s).1)), some (.int (zI ↑s)), some (.int ((fun k => zI ↑(sE σ E k)) s)), none]) (st' := [.ref (ad 0), .ref (ad pl), .ref (ad pl)]) rfl ?_
          refine v_get rfl hc5.2.1 rfl ?_
          refine v_run 1 (pc' := 81) (ls' := [some (.ref (ad 0)), some (.int (zI ↑(kmA σ s).2)), some (.int (zI (kmA σ s).1)), some (.int (zI ↑s)), some (.int ((fun k => zI ↑(sE σ E k)) s)), none]) (st' := [.ref (ad 0), .ref (ad 33), .ref (ad pl), .ref (ad pl)]) rfl ?_
          refine v_get rfl hc5.2.1 rfl ?_
          refine v_run 0 (pc' := 84) (ls' := [some (.ref (ad 0)), some (.int (zI ↑(kmA σ s).2)), some (.int (zI (kmA σ s).1)), some (.int (zI ↑s)), some (.int ((fun k => zI ↑(sE σ E k)) s)), none]) (st' := [.ref (ad 136), .ref (ad 33), .ref (ad pl), .ref (ad pl)]) rfl ?_
          refine v_callV (My := mX4_goingAlone) (As := [.ref (ad 33), .ref (ad 136)]) (rest := [.ref (ad pl)]) (mc := 0) (ms := 0) rfl caX4_goingAlone rfl rfl rfl hc5.2.2.1.1 rfl rfl (k_goingAlone G _ hc5.2.2.1 hok.1 hc5.2.2.2.2.1 (hok.2.2 3 (by decide)) hS5 hE5) rfl rfl (Nat.le_of_ble_eq_true rfl) (by omega) ?_
          rintro _ _ ⟨rfl, rfl⟩
          refine v_run 0 (pc' := 87) (ls' := [some (.ref (ad 0)), some (.int (zI ↑(kmA σ s).2)), some (.int (zI (kmA σ s).1)), some (.int (zI ↑s)), some (.int ((fun k => zI ↑(sE σ E k)) s)), none]) (st' := [.int (zI ↑(setN (cAloneP (σ 1 0 0) (σ 1 5 0) (σ 1 8) (σ 1 9) (σ 1 6) (σ 3 0 0) (σ 3 6) (fun j => if j = s then 0 else sE σ E j)) (σ 1 7 0))), .ref (ad pl)]) rfl ?_
          rw [show (zI ↑(setN (cAloneP (σ 1 0 0) (σ 1 5 0) (σ 1 8) (σ 1 9) (σ 1 6) (σ 3 0 0) (σ 3 6) (fun j => if j = s then 0 else sE σ E j)) (σ 1 7 0)) : Int32) = zI ↑(sAl0 σ s) from by rw [sAl0_eq σ E s]]
          have q2 : sAl0 σ s < 32 := Nat.lt_of_lt_of_le (setN_lt _ _) (Nat.pow_le_pow_right (n := 2) (by decide) i7)
          refine v_callV (My := mX4_goingAmong) (As := [.int (zI ↑(sAl0 σ s))]) (rest := []) (mc := 0) (ms := 0) rfl caX4_goingAmong rfl rfl rfl hc5.2.2.1.1 rfl rfl (k_goingAmong G _ (sAl0 σ s) hc5.2.2.1 hok.1 q2) rfl rfl (Nat.le_of_ble_eq_true rfl) (by omega) ?_
          rintro _ _ ⟨rfl, rfl⟩
          refine v_run 0 (pc' := 90) (ls' := [some (.ref (ad 0)), some (.int (zI ↑(kmA σ s).2)), some (.int (zI (kmA σ s).1)), some (.int (zI ↑s)), some (.int ((fun k => zI ↑(sE σ E k)) s)), none]) (st' := [.int (zI ↑(sAmong σ (sAl0 σ s)))]) rfl ?_
          have q3 : sAmong σ (sAl0 σ s) < 32 := Nat.lt_of_lt_of_le (setN_lt _ _) (Nat.pow_le_pow_right (n := 2) (by decide) i7)
          refine v_callS (My := mJ6_bitCount_0f7a4) (As := [.int (zI ↑(sAmong σ (sAl0 σ s)))]) (rest := []) (mc := 0) (ms := 0) rfl caJ6_bitCount_0f7a4 rfl rfl (k_bitCount G _ (sAmong σ (sAl0 σ s)) (by omega)) rfl rfl (Nat.le_of_ble_eq_true rfl) (by omega) ?_
          rintro _ _ ⟨rfl, rfl⟩
          refine v_run 0 (pc' := 93) (ls' := [some (.ref (ad 0)), some (.int (zI ↑(kmA σ s).2)), some (.int (zI (kmA σ s).1)), some (.int (zI ↑s)), some (.int ((fun k => zI ↑(sE σ E k)) s)), none]) (st' := [.int (zI ↑(popN (sAmong σ (sAl0 σ s))))]) rfl ?_
          have q4 := popN_le (sAmong σ (sAl0 σ s))
          refine v_run 2 (pc' := 96) (ls' := [some (.ref (ad 0)), some (.int (zI ↑(kmA σ s).2)), some (.int (zI (kmA σ s).1)), some (.int (zI ↑s)), some (.int ((fun k => zI ↑(sE σ E k)) s)), some (.int (zI ↑(popN (sAmong σ (sAl0 σ s)))))]) (st' := [.ref (ad 0)]) rfl ?_
          refine v_get rfl hc5.2.1 rfl ?_
          refine v_run 0 (pc' := 99) (ls' := [some (.ref (ad 0)), some (.int (zI ↑(kmA σ s).2)), some (.int (zI (kmA σ s).1)), some (.int (zI ↑s)), some (.int ((fun k => zI ↑(sE σ E k)) s)), some (.int (zI ↑(popN (sAmong σ (sAl0 σ s)))))]) (st' := [.ref (ad 136)]) rfl ?_
          refine v_get rfl hS5.1 rfl ?_
          refine v_run 2 (pc' := 105) (ls' := [some (.ref (ad 0)), some (.int (zI ↑(kmA σ s).2)), some (.int (zI (kmA σ s).1)), some (.int (zI ↑s)), some (.int ((fun k => zI ↑(sE σ E k)) s)), some (.int (zI ↑(popN (sAmong σ (sAl0 σ s)))))]) (st' := [.int ((fun k => zI ↑(sE σ E k)) s), .int (zI ↑s), .ref (ad 137)]) rfl ?_
          refine v_iastore' rfl hS5.2 (i := s) rfl (by omega) ?_
          rw [ar_upd]
          generalize he6 : hset h5 (ad (136 + 1)) (ar 6 (fun j => if j = s then sE σ E s else (fun j => if j = s then 0 else sE σ E j) j)) = h6
          have hE6 : ∀ k, (fun j => if j = s then sE σ E s else (fun j => if j = s then 0 else sE σ E j) j) k ≤ 99 := fun k => by dsimp only; split; exact sE_le σ hE s; exact sE_le σ hE k
          have hc6 : CW0 h6 ad pl σ := he6 ▸ hc5.spans hA hE6
          have hS6 : SpanAt h6 (ad 136) (ad 137) (fun j => if j = s then sE σ E s else (fun j => if j = s then 0 else sE σ E j) j) := he6 ▸ ⟨(hset_ne _ _ (ad_ne hA (by omega))).trans hS5.1, hset_self _ _ _⟩
          have hf6 : frP ad pl h h6 := he6 ▸ hf5.set hA hc.1 (by omega) _
          rw [show (fun j => if j = s then sE σ E s else (fun j => if j = s then 0 else sE σ E j) j) = sE σ E from by funext j; by_cases hj : j = s <;> simp [hj]] at hS6
          refine v_run 2 (pc' := 109) (ls' := [some (.ref (ad 0)), some (.int (zI ↑(kmA σ s).2)), some (.int (zI (kmA σ s).1)), some (.int (zI ↑s)), some (.int ((fun k => zI ↑(sE σ E k)) s)), some (.int (zI ↑(popN (sAmong σ (sAl0 σ s)))))]) (st' := [.int (zI ↑(kmA σ s).2), .int (zI ↑(popN (sAmong σ (sAl0 σ s))))]) rfl ?_
          refine v_icmp_ge rfl (fun c109 => ?_) (fun c109 => ?_)
          · simp (disch := omega) only [zI_lt, zI_le, zI_eq, zI_lt0, zI_le0, zI_0lt, zI_0le, zI_eq0] at c109
            refine v_run 2 (pc' := 36) (ls' := [some (.ref (ad 0)), some (.int (zI ↑(kmA σ s).2)), some (.int (zI (kmA σ s).1)), some (.int ((zI ↑s) + zI 1)), some (.int ((fun k => zI ↑(sE σ E k)) s)), some (.int (zI ↑(popN (sAmong σ (sAl0 σ s)))))]) (st' := []) rfl ?_
            refine v_drop 4 (ls' := [some (.ref (ad 0)), some (.int (zI ↑(kmA σ s).2)), some (.int (zI (kmA σ s).1)), some (.int ((zI ↑s) + zI 1)), none, some (.int (zI ↑(popN (sAmong σ (sAl0 σ s)))))]) rfl ?_
            refine v_drop 5 (ls' := [some (.ref (ad 0)), some (.int (zI ↑(kmA σ s).2)), some (.int (zI (kmA σ s).1)), some (.int ((zI ↑s) + zI 1)), none, none]) rfl ?_
            rw [zI_s1, ← kmA_f σ s (by omega)]
            exact ih (s + 1) _ hc6 hS6 hf6 (by omega) (by omega)
          · simp (disch := omega) only [zI_lt, zI_le, zI_eq, zI_lt0, zI_le0, zI_0lt, zI_0le, zI_eq0] at c109
            refine v_run 6 (pc' := 36) (ls' := [some (.ref (ad 0)), some (.int (zI ↑(popN (sAmong σ (sAl0 σ s))))), some (.int (zI ↑s)), some (.int ((zI ↑s) + zI 1)), some (.int ((fun k => zI ↑(sE σ E k)) s)), some (.int (zI ↑(popN (sAmong σ (sAl0 σ s)))))]) (st' := []) rfl ?_
            refine v_drop 4 (ls' := [some (.ref (ad 0)), some (.int (zI ↑(popN (sAmong σ (sAl0 σ s))))), some (.int (zI ↑s)), some (.int ((zI ↑s) + zI 1)), none, some (.int (zI ↑(popN (sAmong σ (sAl0 σ s)))))]) rfl ?_
            refine v_drop 5 (ls' := [some (.ref (ad 0)), some (.int (zI ↑(popN (sAmong σ (sAl0 σ s))))), some (.int (zI ↑s)), some (.int ((zI ↑s) + zI 1)), none, none]) rfl ?_
            rw [zI_s1]
            have q := ih (s + 1) _ hc6 hS6 hf6 (by omega) (by omega); rw [kmA_t σ s (by omega)] at q; exact q
    exact lp (σ 1 5 0 + 1) 0 _ hc1 hS1 hf1 (by omega) (by omega)
  · rw [zb_0, Bool.not_eq_false, decide_eq_true_eq] at c4
    refine v_run 2 (pc' := 9) (ls' := [some (.ref (ad 0)), none, none, none, none, none]) (st' := [.int (zI 1), .ref (ad 0)]) rfl ?_
    refine v_callV (My := mX8_refuse) (As := [.int (zI 1)]) (rest := []) (mc := 0) (ms := 0) rfl caX8_refuse rfl rfl rfl hc.2.1 rfl rfl (k_refuse G _ 1 hA hc hok) rfl rfl (Nat.le_of_ble_eq_true rfl) (by omega) ?_
    rintro _ h9 ⟨rfl, hc9, hf9⟩
    refine v_run 0 (pc' := 12) (ls' := [some (.ref (ad 0)), none, none, none, none, none]) (st' := [.int (zI (-1))]) rfl ?_
    rw [show aKeyMan σ = (-1, 1) from if_pos c4]
    exact v_iret rfl rfl rfl ⟨rfl, hc9, hf9⟩

