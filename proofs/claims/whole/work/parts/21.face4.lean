def cShare (x : Nat) (p o : Bool) : Int := if p then (if o then ↑(x / 2) - 2 else ↑x) else (if o then 1 else 0)
theorem cShare_bd (x : Nat) (p o : Bool) (hx : x ≤ 20) : -100 ≤ cShare x p o ∧ cShare x p o ≤ 100 := by
  cases p <;> cases o <;> simp [cShare] <;> omega
def cRest (x p : Nat) : Bool := decide (cShare x (!decide (2 ≤ p)) (decide (p % 2 = 1)) ≤ cShare x (decide (2 ≤ p)) (decide (p % 2 = 1)) ∧ cShare x (!decide (p % 2 = 1)) (decide (2 ≤ p)) ≤ cShare x (decide (p % 2 = 1)) (decide (2 ≤ p)))
theorem cRest_0 (x : Nat) : cRest x 0 = decide (cShare x true false ≤ cShare x false false ∧ cShare x true false ≤ cShare x false false) := rfl
theorem cRest_1 (x : Nat) : cRest x 1 = decide (cShare x true true ≤ cShare x false true ∧ cShare x false false ≤ cShare x true false) := rfl
theorem cRest_2 (x : Nat) : cRest x 2 = decide (cShare x false false ≤ cShare x true false ∧ cShare x true true ≤ cShare x false true) := rfl
theorem cRest_3 (x : Nat) : cRest x 3 = decide (cShare x false true ≤ cShare x true true ∧ cShare x false true ≤ cShare x true true) := rfl
def aRests (σ : sT) (w : Int) : Int × Nat := if σ 1 5 0 = 0 then (-1, 1) else if w < 0 ∨ 20 < w then (-1, 2) else (↑(sumN (fun p => if cRest w.toNat p then 1 else 0) 4), 0)
def rstG (x : Nat) : Nat → Nat → Int
  | 0, _ => -2
  | n + 1, s => if cRest x s then ↑(s / 2) * 10 + ↑(s % 2) else rstG x n (s + 1)
theorem rstG_s (x n s : Nat) : rstG x (n + 1) s = if cRest x s then ((s / 2 : Nat) : Int) * 10 + ((s % 2 : Nat) : Int) else rstG x n (s + 1) := rfl
def aRest (σ : sT) (w : Int) : Int × Nat := if σ 1 5 0 = 0 then (-1, 1) else if w < 0 ∨ 20 < w then (-1, 2) else (rstG w.toNat 4 0, 0)
def aWire (σ : sT) (w : Int) (b1 b2 b3 : Bool) : Int × Nat := if σ 1 5 0 = 0 then (-100, 1) else if w < 0 ∨ 20 < w then (-100, 2) else (if b3 then cShare w.toNat b2 b1 else cShare w.toNat b1 b2, 0)
def swN (σ : sT) (s0 : Nat) : Nat := sumN (fun s => if andn s (andn (sGood σ) (2 ^ s0)) = 0 ∧ 2 * sumN (fun t => σ 1 6 t * (s / 2 ^ t % 2)) (σ 1 5 0) ≤ sumN (fun t => σ 1 6 t * (sGood σ / 2 ^ t % 2)) (σ 1 5 0) ∧ sumN (fun t => σ 1 6 t * (sGood σ / 2 ^ t % 2)) (σ 1 5 0) < 2 * sumN (fun t => σ 1 6 t * (s / 2 ^ t % 2)) (σ 1 5 0) + 2 * σ 1 6 s0 then 1 else 0) 64
theorem swN_le (σ : sT) (s0 : Nat) : swN σ s0 ≤ 64 := sumN_le (c := 1) (fun k => by split <;> omega) 64
def sSw (σ : sT) (s : Nat) : Int := if sGood σ / 2 ^ s % 2 = 0 then -1 else ↑(swN σ s)
def stA (σ : sT) : Nat → Int × Int
  | 0 => (-2, -1)
  | s + 1 => if (stA σ s).2 < sSw σ s then (↑s, sSw σ s) else stA σ s
theorem sSw_bd (σ : sT) (s : Nat) : -1 ≤ sSw σ s ∧ sSw σ s ≤ 64 := by
  have := swN_le σ s
  unfold sSw
  split <;> omega
theorem stA_bd (σ : sT) : ∀ s, -1 ≤ (stA σ s).2 ∧ (stA σ s).2 ≤ 64
  | 0 => by simp [stA]
  | s + 1 => by
    have h1 := stA_bd σ s
    have h2 := sSw_bd σ s
    simp only [stA]
    split
    · exact h2
    · exact h1
theorem stA_t (σ : sT) (s : Nat) (h : (stA σ s).2 < sSw σ s) : stA σ (s + 1) = (↑s, sSw σ s) := if_pos h
theorem stA_f (σ : sT) (s : Nat) (h : ¬ (stA σ s).2 < sSw σ s) : stA σ (s + 1) = stA σ s := if_neg h
def aStrongest (σ : sT) : Int × Nat := if σ 1 5 0 = 0 then (-1, 1) else ((stA σ (σ 1 5 0)).1, 0)
set_option maxRecDepth 100000 in
set_option maxHeartbeats 400000 in
theorem k_share (G : ssG) (h : ssH) (x : Nat) (p o : Bool) (hx : x ≤ 20) : ssC G mX8_share 0 0 0 [.int (zI ↑x), .int (zb p), .int (zb o)] h (rI (zI (cShare x p o)) h) := by
  refine c_of_v okX8_share (by decide +kernel) (ls := [some (.int (zI ↑x)), some (.int (zb p)), some (.int (zb o))]) rfl (Nat.le_of_ble_eq_true rfl) ?_
  refine v_run 1 (pc' := 1) (ls' := [some (.int (zI ↑x)), some (.int (zb p)), some (.int (zb o))]) (st' := [.int (zb p)]) rfl ?_
  refine v_if_eq rfl (fun c1 => ?_) (fun c1 => ?_)
  · rw [zb_0] at c1
    subst c1
    refine v_run 1 (pc' := 19) (ls' := [some (.int (zI ↑x)), some (.int (zb false)), some (.int (zb o))]) (st' := [.int (zb o)]) rfl ?_
    refine v_if_eq rfl (fun c19 => ?_) (fun c19 => ?_)
    · rw [zb_0] at c19
      subst c19
      refine v_run 1 (pc' := 27) (ls' := [some (.int (zI ↑x)), some (.int (zb false)), some (.int (zb false))]) (st' := [.int (zI 0)]) rfl ?_
      exact v_iret rfl rfl rfl ⟨rfl, rfl⟩
    · rw [zb_0, Bool.not_eq_false] at c19
      subst c19
      refine v_run 2 (pc' := 27) (ls' := [some (.int (zI ↑x)), some (.int (zb false)), some (.int (zb true))]) (st' := [.int (zI 1)]) rfl ?_
      exact v_iret rfl rfl rfl ⟨rfl, rfl⟩
  · rw [zb_0, Bool.not_eq_false] at c1
    subst c1
    refine v_run 1 (pc' := 5) (ls' := [some (.int (zI ↑x)), some (.int (zb true)), some (.int (zb o))]) (st' := [.int (zb o)]) rfl ?_
    refine v_if_eq rfl (fun c5 => ?_) (fun c5 => ?_)
    · rw [zb_0] at c5
      subst c5
      refine v_run 1 (pc' := 17) (ls' := [some (.int (zI ↑x)), some (.int (zb true)), some (.int (zb false))]) (st' := [.int (zI ↑x)]) rfl ?_
      exact v_iret rfl rfl rfl ⟨rfl, rfl⟩
    · rw [zb_0, Bool.not_eq_false] at c5
      subst c5
      refine v_run 2 (pc' := 10) (ls' := [some (.int (zI ↑x)), some (.int (zb true)), some (.int (zb true))]) (st' := [.int (zI 2), .int (zI ↑x)]) rfl ?_
      refine v_idiv rfl (zI_ne0 (by decide) (by decide)) ?_
      refine v_run 3 (pc' := 17) (ls' := [some (.int (zI ↑x)), some (.int (zb true)), some (.int (zb true))]) (st' := [.int ((zI ↑x / zI 2) - (zI 2))]) rfl ?_
      exact v_iret rfl rfl rfl ⟨by rw [show zI 2 = zI ((2 : Nat) : Int) from rfl, zN_div (by omega) (by omega) (by omega), zI_sub]; rfl, rfl⟩

set_option maxRecDepth 100000 in
set_option maxHeartbeats 400000 in
theorem k_isRest0 (G : ssG) (h : ssH) (x : Nat) (hx : x ≤ 20) : ssC G mX8_isRest 1 0 0 [.int (zI ↑x), .int (zI 0)] h (rI (zb (cRest x 0)) h) := by
  refine c_of_v okX8_isRest (by decide +kernel) (ls := [some (.int (zI ↑x)), some (.int (zI 0)), none, none]) rfl (Nat.le_of_ble_eq_true rfl) ?_
  refine v_run 2 (pc' := 2) (ls' := [some (.int (zI ↑x)), some (.int (zI 0)), none, none]) (st' := [.int (zI 2), .int (zI 0)]) rfl ?_
  refine v_icmp_lt rfl (fun c2 => ?_) (fun c2 => ?_)
  · refine v_run 4 (pc' := 13) (ls' := [some (.int (zI ↑x)), some (.int (zI 0)), some (.int (zI 0)), none]) (st' := [.int (zI 2), .int (zI 0)]) rfl ?_
    refine v_irem rfl (zI_ne0 (by decide) (by decide)) ?_
    rw [show ((zI 0 - zI 0 / zI 2 * zI 2) : Int32) = zI 0 from by decide +kernel]
    refine v_run 1 (pc' := 15) (ls' := [some (.int (zI ↑x)), some (.int (zI 0)), some (.int (zI 0)), none]) (st' := [.int (zI 1), .int (zI 0)]) rfl ?_
    refine v_icmp_ne rfl (fun c15 => ?_) (fun c15 => ?_)
    · have q := cShare_bd x
      refine v_run 5 (pc' := 27) (ls' := [some (.int (zI ↑x)), some (.int (zI 0)), some (.int (zI 0)), some (.int (zI 0))]) (st' := [.int (zI 0), .int (zI 0), .int (zI ↑x)]) rfl ?_
      refine v_callS (My := mX8_share) (As := [.int (zI ↑x), .int (zI 0), .int (zI 0)]) (rest := []) (mc := 0) (ms := 0) rfl caX8_share rfl rfl (k_share G _ x false false hx) rfl rfl (Nat.le_of_ble_eq_true rfl) (by omega) ?_
      rintro _ _ ⟨rfl, rfl⟩
      refine v_run 0 (pc' := 30) (ls' := [some (.int (zI ↑x)), some (.int (zI 0)), some (.int (zI 0)), some (.int (zI 0))]) (st' := [.int (zI (cShare x false false))]) rfl ?_
      refine v_run 2 (pc' := 32) (ls' := [some (.int (zI ↑x)), some (.int (zI 0)), some (.int (zI 0)), some (.int (zI 0))]) (st' := [.int (zI 0), .int (zI ↑x), .int (zI (cShare x false false))]) rfl ?_
      refine v_if_ne rfl (fun c32 => ?_) (fun c32 => ?_)
      · exact absurd c32 (by decide +kernel)
      · refine v_run 3 (pc' := 41) (ls' := [some (.int (zI ↑x)), some (.int (zI 0)), some (.int (zI 0)), some (.int (zI 0))]) (st' := [.int (zI 0), .int (zI 1), .int (zI ↑x), .int (zI (cShare x false false))]) rfl ?_
        refine v_callS (My := mX8_share) (As := [.int (zI ↑x), .int (zI 1), .int (zI 0)]) (rest := [.int (zI (cShare x false false))]) (mc := 0) (ms := 0) rfl caX8_share rfl rfl (k_share G _ x true false hx) rfl rfl (Nat.le_of_ble_eq_true rfl) (by omega) ?_
        rintro _ _ ⟨rfl, rfl⟩
        refine v_run 0 (pc' := 44) (ls' := [some (.int (zI ↑x)), some (.int (zI 0)), some (.int (zI 0)), some (.int (zI 0))]) (st' := [.int (zI (cShare x true false)), .int (zI (cShare x false false))]) rfl ?_
        have q1 := q false false hx
        have q2 := q true false hx
        have q3 := q false false hx
        have q4 := q true false hx
        refine v_icmp_lt rfl (fun c44 => ?_) (fun c44 => ?_)
        · simp (disch := omega) only [zI_lt, zI_le, zI_eq, zI_lt0, zI_le0, zI_0lt, zI_0le, zI_eq0] at c44
          refine v_run 1 (pc' := 75) (ls' := [some (.int (zI ↑x)), some (.int (zI 0)), some (.int (zI 0)), some (.int (zI 0))]) (st' := [.int (zI 0)]) rfl ?_
          exact v_iret rfl rfl rfl ⟨by rw [cRest_0, zb, if_neg (by simp; omega)], rfl⟩
        · simp (disch := omega) only [zI_lt, zI_le, zI_eq, zI_lt0, zI_le0, zI_0lt, zI_0le, zI_eq0] at c44
          refine v_run 3 (pc' := 50) (ls' := [some (.int (zI ↑x)), some (.int (zI 0)), some (.int (zI 0)), some (.int (zI 0))]) (st' := [.int (zI 0), .int (zI 0), .int (zI ↑x)]) rfl ?_
          refine v_callS (My := mX8_share) (As := [.int (zI ↑x), .int (zI 0), .int (zI 0)]) (rest := []) (mc := 0) (ms := 0) rfl caX8_share rfl rfl (k_share G _ x false false hx) rfl rfl (Nat.le_of_ble_eq_true rfl) (by omega) ?_
          rintro _ _ ⟨rfl, rfl⟩
          refine v_run 0 (pc' := 53) (ls' := [some (.int (zI ↑x)), some (.int (zI 0)), some (.int (zI 0)), some (.int (zI 0))]) (st' := [.int (zI (cShare x false false))]) rfl ?_
          refine v_run 2 (pc' := 55) (ls' := [some (.int (zI ↑x)), some (.int (zI 0)), some (.int (zI 0)), some (.int (zI 0))]) (st' := [.int (zI 0), .int (zI ↑x), .int (zI (cShare x false false))]) rfl ?_
          refine v_if_ne rfl (fun c55 => ?_) (fun c55 => ?_)
          · exact absurd c55 (by decide +kernel)
          · refine v_run 3 (pc' := 64) (ls' := [some (.int (zI ↑x)), some (.int (zI 0)), some (.int (zI 0)), some (.int (zI 0))]) (st' := [.int (zI 0), .int (zI 1), .int (zI ↑x), .int (zI (cShare x false false))]) rfl ?_
            refine v_callS (My := mX8_share) (As := [.int (zI ↑x), .int (zI 1), .int (zI 0)]) (rest := [.int (zI (cShare x false false))]) (mc := 0) (ms := 0) rfl caX8_share rfl rfl (k_share G _ x true false hx) rfl rfl (Nat.le_of_ble_eq_true rfl) (by omega) ?_
            rintro _ _ ⟨rfl, rfl⟩
            refine v_run 0 (pc' := 67) (ls' := [some (.int (zI ↑x)), some (.int (zI 0)), some (.int (zI 0)), some (.int (zI 0))]) (st' := [.int (zI (cShare x true false)), .int (zI (cShare x false false))]) rfl ?_
            refine v_icmp_lt rfl (fun c67 => ?_) (fun c67 => ?_)
            · simp (disch := omega) only [zI_lt, zI_le, zI_eq, zI_lt0, zI_le0, zI_0lt, zI_0le, zI_eq0] at c67
              refine v_run 1 (pc' := 75) (ls' := [some (.int (zI ↑x)), some (.int (zI 0)), some (.int (zI 0)), some (.int (zI 0))]) (st' := [.int (zI 0)]) rfl ?_
              exact v_iret rfl rfl rfl ⟨by rw [cRest_0, zb, if_neg (by simp; omega)], rfl⟩
            · simp (disch := omega) only [zI_lt, zI_le, zI_eq, zI_lt0, zI_le0, zI_0lt, zI_0le, zI_eq0] at c67
              refine v_run 2 (pc' := 75) (ls' := [some (.int (zI ↑x)), some (.int (zI 0)), some (.int (zI 0)), some (.int (zI 0))]) (st' := [.int (zI 1)]) rfl ?_
              exact v_iret rfl rfl rfl ⟨by rw [cRest_0, zb, if_pos (by simp; omega)], rfl⟩
    · exact absurd c15 (by decide +kernel)
  · exact absurd c2 (by decide +kernel)

set_option maxRecDepth 100000 in
set_option maxHeartbeats 400000 in
theorem k_isRest1 (G : ssG) (h : ssH) (x : Nat) (hx : x ≤ 20) : ssC G mX8_isRest 1 0 0 [.int (zI ↑x), .int (zI 1)] h (rI (zb (cRest x 1)) h) := by
  refine c_of_v okX8_isRest (by decide +kernel) (ls := [some (.int (zI ↑x)), some (.int (zI 1)), none, none]) rfl (Nat.le_of_ble_eq_true rfl) ?_
  refine v_run 2 (pc' := 2) (ls' := [some (.int (zI ↑x)), some (.int (zI 1)), none, none]) (st' := [.int (zI 2), .int (zI 1)]) rfl ?_
  refine v_icmp_lt rfl (fun c2 => ?_) (fun c2 => ?_)
  · refine v_run 4 (pc' := 13) (ls' := [some (.int (zI ↑x)), some (.int (zI 1)), some (.int (zI 0)), none]) (st' := [.int (zI 2), .int (zI 1)]) rfl ?_
    refine v_irem rfl (zI_ne0 (by decide) (by decide)) ?_
    rw [show ((zI 1 - zI 1 / zI 2 * zI 2) : Int32) = zI 1 from by decide +kernel]
    refine v_run 1 (pc' := 15) (ls' := [some (.int (zI ↑x)), some (.int (zI 1)), some (.int (zI 0)), none]) (st' := [.int (zI 1), .int (zI 1)]) rfl ?_
    refine v_icmp_ne rfl (fun c15 => ?_) (fun c15 => ?_)
    · exact absurd c15 (by decide +kernel)
    · have q := cShare_bd x
      refine v_run 6 (pc' := 27) (ls' := [some (.int (zI ↑x)), some (.int (zI 1)), some (.int (zI 0)), some (.int (zI 1))]) (st' := [.int (zI 1), .int (zI 0), .int (zI ↑x)]) rfl ?_
      refine v_callS (My := mX8_share) (As := [.int (zI ↑x), .int (zI 0), .int (zI 1)]) (rest := []) (mc := 0) (ms := 0) rfl caX8_share rfl rfl (k_share G _ x false true hx) rfl rfl (Nat.le_of_ble_eq_true rfl) (by omega) ?_
      rintro _ _ ⟨rfl, rfl⟩
      refine v_run 0 (pc' := 30) (ls' := [some (.int (zI ↑x)), some (.int (zI 1)), some (.int (zI 0)), some (.int (zI 1))]) (st' := [.int (zI (cShare x false true))]) rfl ?_
      refine v_run 2 (pc' := 32) (ls' := [some (.int (zI ↑x)), some (.int (zI 1)), some (.int (zI 0)), some (.int (zI 1))]) (st' := [.int (zI 0), .int (zI ↑x), .int (zI (cShare x false true))]) rfl ?_
      refine v_if_ne rfl (fun c32 => ?_) (fun c32 => ?_)
      · exact absurd c32 (by decide +kernel)
      · refine v_run 3 (pc' := 41) (ls' := [some (.int (zI ↑x)), some (.int (zI 1)), some (.int (zI 0)), some (.int (zI 1))]) (st' := [.int (zI 1), .int (zI 1), .int (zI ↑x), .int (zI (cShare x false true))]) rfl ?_
        refine v_callS (My := mX8_share) (As := [.int (zI ↑x), .int (zI 1), .int (zI 1)]) (rest := [.int (zI (cShare x false true))]) (mc := 0) (ms := 0) rfl caX8_share rfl rfl (k_share G _ x true true hx) rfl rfl (Nat.le_of_ble_eq_true rfl) (by omega) ?_
        rintro _ _ ⟨rfl, rfl⟩
        refine v_run 0 (pc' := 44) (ls' := [some (.int (zI ↑x)), some (.int (zI 1)), some (.int (zI 0)), some (.int (zI 1))]) (st' := [.int (zI (cShare x true true)), .int (zI (cShare x false true))]) rfl ?_
        have q1 := q false true hx
        have q2 := q true true hx
        have q3 := q true false hx
        have q4 := q false false hx
        refine v_icmp_lt rfl (fun c44 => ?_) (fun c44 => ?_)
        · simp (disch := omega) only [zI_lt, zI_le, zI_eq, zI_lt0, zI_le0, zI_0lt, zI_0le, zI_eq0] at c44
          refine v_run 1 (pc' := 75) (ls' := [some (.int (zI ↑x)), some (.int (zI 1)), some (.int (zI 0)), some (.int (zI 1))]) (st' := [.int (zI 0)]) rfl ?_
          exact v_iret rfl rfl rfl ⟨by rw [cRest_1, zb, if_neg (by simp; omega)], rfl⟩
        · simp (disch := omega) only [zI_lt, zI_le, zI_eq, zI_lt0, zI_le0, zI_0lt, zI_0le, zI_eq0] at c44
          refine v_run 3 (pc' := 50) (ls' := [some (.int (zI ↑x)), some (.int (zI 1)), some (.int (zI 0)), some (.int (zI 1))]) (st' := [.int (zI 0), .int (zI 1), .int (zI ↑x)]) rfl ?_
          refine v_callS (My := mX8_share) (As := [.int (zI ↑x), .int (zI 1), .int (zI 0)]) (rest := []) (mc := 0) (ms := 0) rfl caX8_share rfl rfl (k_share G _ x true false hx) rfl rfl (Nat.le_of_ble_eq_true rfl) (by omega) ?_
          rintro _ _ ⟨rfl, rfl⟩
          refine v_run 0 (pc' := 53) (ls' := [some (.int (zI ↑x)), some (.int (zI 1)), some (.int (zI 0)), some (.int (zI 1))]) (st' := [.int (zI (cShare x true false))]) rfl ?_
          refine v_run 2 (pc' := 55) (ls' := [some (.int (zI ↑x)), some (.int (zI 1)), some (.int (zI 0)), some (.int (zI 1))]) (st' := [.int (zI 1), .int (zI ↑x), .int (zI (cShare x true false))]) rfl ?_
          refine v_if_ne rfl (fun c55 => ?_) (fun c55 => ?_)
          · refine v_run 2 (pc' := 64) (ls' := [some (.int (zI ↑x)), some (.int (zI 1)), some (.int (zI 0)), some (.int (zI 1))]) (st' := [.int (zI 0), .int (zI 0), .int (zI ↑x), .int (zI (cShare x true false))]) rfl ?_
            refine v_callS (My := mX8_share) (As := [.int (zI ↑x), .int (zI 0), .int (zI 0)]) (rest := [.int (zI (cShare x true false))]) (mc := 0) (ms := 0) rfl caX8_share rfl rfl (k_share G _ x false false hx) rfl rfl (Nat.le_of_ble_eq_true rfl) (by omega) ?_
            rintro _ _ ⟨rfl, rfl⟩
            refine v_run 0 (pc' := 67) (ls' := [some (.int (zI ↑x)), some (.int (zI 1)), some (.int (zI 0)), some (.int (zI 1))]) (st' := [.int (zI (cShare x false false)), .int (zI (cShare x true false))]) rfl ?_
            refine v_icmp_lt rfl (fun c67 => ?_) (fun c67 => ?_)
            · simp (disch := omega) only [zI_lt, zI_le, zI_eq, zI_lt0, zI_le0, zI_0lt, zI_0le, zI_eq0] at c67
              refine v_run 1 (pc' := 75) (ls' := [some (.int (zI ↑x)), some (.int (zI 1)), some (.int (zI 0)), some (.int (zI 1))]) (st' := [.int (zI 0)]) rfl ?_
              exact v_iret rfl rfl rfl ⟨by rw [cRest_1, zb, if_neg (by simp; omega)], rfl⟩
            · simp (disch := omega) only [zI_lt, zI_le, zI_eq, zI_lt0, zI_le0, zI_0lt, zI_0le, zI_eq0] at c67
              refine v_run 2 (pc' := 75) (ls' := [some (.int (zI ↑x)), some (.int (zI 1)), some (.int (zI 0)), some (.int (zI 1))]) (st' := [.int (zI 1)]) rfl ?_
              exact v_iret rfl rfl rfl ⟨by rw [cRest_1, zb, if_pos (by simp; omega)], rfl⟩
          · exact absurd c55 (by decide +kernel)
  · exact absurd c2 (by decide +kernel)

set_option maxRecDepth 100000 in
set_option maxHeartbeats 400000 in
theorem k_isRest2 (G : ssG) (h : ssH) (x : Nat) (hx : x ≤ 20) : ssC G mX8_isRest 1 0 0 [.int (zI ↑x), .int (zI 2)] h (rI (zb (cRest x 2)) h) := by
  refine c_of_v okX8_isRest (by decide +kernel) (ls := [some (.int (zI ↑x)), some (.int (zI 2)), none, none]) rfl (Nat.le_of_ble_eq_true rfl) ?_
  refine v_run 2 (pc' := 2) (ls' := [some (.int (zI ↑x)), some (.int (zI 2)), none, none]) (st' := [.int (zI 2), .int (zI 2)]) rfl ?_
  refine v_icmp_lt rfl (fun c2 => ?_) (fun c2 => ?_)
  · exact absurd c2 (by decide +kernel)
  · refine v_run 5 (pc' := 13) (ls' := [some (.int (zI ↑x)), some (.int (zI 2)), some (.int (zI 1)), none]) (st' := [.int (zI 2), .int (zI 2)]) rfl ?_
    refine v_irem rfl (zI_ne0 (by decide) (by decide)) ?_
    rw [show ((zI 2 - zI 2 / zI 2 * zI 2) : Int32) = zI 0 from by decide +kernel]
    refine v_run 1 (pc' := 15) (ls' := [some (.int (zI ↑x)), some (.int (zI 2)), some (.int (zI 1)), none]) (st' := [.int (zI 1), .int (zI 0)]) rfl ?_
    refine v_icmp_ne rfl (fun c15 => ?_) (fun c15 => ?_)
    · have q := cShare_bd x
      refine v_run 5 (pc' := 27) (ls' := [some (.int (zI ↑x)), some (.int (zI 2)), some (.int (zI 1)), some (.int (zI 0))]) (st' := [.int (zI 0), .int (zI 1), .int (zI ↑x)]) rfl ?_
      refine v_callS (My := mX8_share) (As := [.int (zI ↑x), .int (zI 1), .int (zI 0)]) (rest := []) (mc := 0) (ms := 0) rfl caX8_share rfl rfl (k_share G _ x true false hx) rfl rfl (Nat.le_of_ble_eq_true rfl) (by omega) ?_
      rintro _ _ ⟨rfl, rfl⟩
      refine v_run 0 (pc' := 30) (ls' := [some (.int (zI ↑x)), some (.int (zI 2)), some (.int (zI 1)), some (.int (zI 0))]) (st' := [.int (zI (cShare x true false))]) rfl ?_
      refine v_run 2 (pc' := 32) (ls' := [some (.int (zI ↑x)), some (.int (zI 2)), some (.int (zI 1)), some (.int (zI 0))]) (st' := [.int (zI 1), .int (zI ↑x), .int (zI (cShare x true false))]) rfl ?_
      refine v_if_ne rfl (fun c32 => ?_) (fun c32 => ?_)
      · refine v_run 2 (pc' := 41) (ls' := [some (.int (zI ↑x)), some (.int (zI 2)), some (.int (zI 1)), some (.int (zI 0))]) (st' := [.int (zI 0), .int (zI 0), .int (zI ↑x), .int (zI (cShare x true false))]) rfl ?_
        refine v_callS (My := mX8_share) (As := [.int (zI ↑x), .int (zI 0), .int (zI 0)]) (rest := [.int (zI (cShare x true false))]) (mc := 0) (ms := 0) rfl caX8_share rfl rfl (k_share G _ x false false hx) rfl rfl (Nat.le_of_ble_eq_true rfl) (by omega) ?_
        rintro _ _ ⟨rfl, rfl⟩
        refine v_run 0 (pc' := 44) (ls' := [some (.int (zI ↑x)), some (.int (zI 2)), some (.int (zI 1)), some (.int (zI 0))]) (st' := [.int (zI (cShare x false false)), .int (zI (cShare x true false))]) rfl ?_
        have q1 := q true false hx
        have q2 := q false false hx
        have q3 := q false true hx
        have q4 := q true true hx
        refine v_icmp_lt rfl (fun c44 => ?_) (fun c44 => ?_)
        · simp (disch := omega) only [zI_lt, zI_le, zI_eq, zI_lt0, zI_le0, zI_0lt, zI_0le, zI_eq0] at c44
          refine v_run 1 (pc' := 75) (ls' := [some (.int (zI ↑x)), some (.int (zI 2)), some (.int (zI 1)), some (.int (zI 0))]) (st' := [.int (zI 0)]) rfl ?_
          exact v_iret rfl rfl rfl ⟨by rw [cRest_2, zb, if_neg (by simp; omega)], rfl⟩
        · simp (disch := omega) only [zI_lt, zI_le, zI_eq, zI_lt0, zI_le0, zI_0lt, zI_0le, zI_eq0] at c44
          refine v_run 3 (pc' := 50) (ls' := [some (.int (zI ↑x)), some (.int (zI 2)), some (.int (zI 1)), some (.int (zI 0))]) (st' := [.int (zI 1), .int (zI 0), .int (zI ↑x)]) rfl ?_
          refine v_callS (My := mX8_share) (As := [.int (zI ↑x), .int (zI 0), .int (zI 1)]) (rest := []) (mc := 0) (ms := 0) rfl caX8_share rfl rfl (k_share G _ x false true hx) rfl rfl (Nat.le_of_ble_eq_true rfl) (by omega) ?_
          rintro _ _ ⟨rfl, rfl⟩
          refine v_run 0 (pc' := 53) (ls' := [some (.int (zI ↑x)), some (.int (zI 2)), some (.int (zI 1)), some (.int (zI 0))]) (st' := [.int (zI (cShare x false true))]) rfl ?_
          refine v_run 2 (pc' := 55) (ls' := [some (.int (zI ↑x)), some (.int (zI 2)), some (.int (zI 1)), some (.int (zI 0))]) (st' := [.int (zI 0), .int (zI ↑x), .int (zI (cShare x false true))]) rfl ?_
          refine v_if_ne rfl (fun c55 => ?_) (fun c55 => ?_)
          · exact absurd c55 (by decide +kernel)
          · refine v_run 3 (pc' := 64) (ls' := [some (.int (zI ↑x)), some (.int (zI 2)), some (.int (zI 1)), some (.int (zI 0))]) (st' := [.int (zI 1), .int (zI 1), .int (zI ↑x), .int (zI (cShare x false true))]) rfl ?_
            refine v_callS (My := mX8_share) (As := [.int (zI ↑x), .int (zI 1), .int (zI 1)]) (rest := [.int (zI (cShare x false true))]) (mc := 0) (ms := 0) rfl caX8_share rfl rfl (k_share G _ x true true hx) rfl rfl (Nat.le_of_ble_eq_true rfl) (by omega) ?_
            rintro _ _ ⟨rfl, rfl⟩
            refine v_run 0 (pc' := 67) (ls' := [some (.int (zI ↑x)), some (.int (zI 2)), some (.int (zI 1)), some (.int (zI 0))]) (st' := [.int (zI (cShare x true true)), .int (zI (cShare x false true))]) rfl ?_
            refine v_icmp_lt rfl (fun c67 => ?_) (fun c67 => ?_)
            · simp (disch := omega) only [zI_lt, zI_le, zI_eq, zI_lt0, zI_le0, zI_0lt, zI_0le, zI_eq0] at c67
              refine v_run 1 (pc' := 75) (ls' := [some (.int (zI ↑x)), some (.int (zI 2)), some (.int (zI 1)), some (.int (zI 0))]) (st' := [.int (zI 0)]) rfl ?_
              exact v_iret rfl rfl rfl ⟨by rw [cRest_2, zb, if_neg (by simp; omega)], rfl⟩
            · simp (disch := omega) only [zI_lt, zI_le, zI_eq, zI_lt0, zI_le0, zI_0lt, zI_0le, zI_eq0] at c67
              refine v_run 2 (pc' := 75) (ls' := [some (.int (zI ↑x)), some (.int (zI 2)), some (.int (zI 1)), some (.int (zI 0))]) (st' := [.int (zI 1)]) rfl ?_
              exact v_iret rfl rfl rfl ⟨by rw [cRest_2, zb, if_pos (by simp; omega)], rfl⟩
      · exact absurd c32 (by decide +kernel)
    · exact absurd c15 (by decide +kernel)

set_option maxRecDepth 100000 in
set_option maxHeartbeats 400000 in
theorem k_isRest3 (G : ssG) (h : ssH) (x : Nat) (hx : x ≤ 20) : ssC G mX8_isRest 1 0 0 [.int (zI ↑x), .int (zI 3)] h (rI (zb (cRest x 3)) h) := by
  refine c_of_v okX8_isRest (by decide +kernel) (ls := [some (.int (zI ↑x)), some (.int (zI 3)), none, none]) rfl (Nat.le_of_ble_eq_true rfl) ?_
  refine v_run 2 (pc' := 2) (ls' := [some (.int (zI ↑x)), some (.int (zI 3)), none, none]) (st' := [.int (zI 2), .int (zI 3)]) rfl ?_
  refine v_icmp_lt rfl (fun c2 => ?_) (fun c2 => ?_)
  · exact absurd c2 (by decide +kernel)
  · refine v_run 5 (pc' := 13) (ls' := [some (.int (zI ↑x)), some (.int (zI 3)), some (.int (zI 1)), none]) (st' := [.int (zI 2), .int (zI 3)]) rfl ?_
    refine v_irem rfl (zI_ne0 (by decide) (by decide)) ?_
    rw [show ((zI 3 - zI 3 / zI 2 * zI 2) : Int32) = zI 1 from by decide +kernel]
    refine v_run 1 (pc' := 15) (ls' := [some (.int (zI ↑x)), some (.int (zI 3)), some (.int (zI 1)), none]) (st' := [.int (zI 1), .int (zI 1)]) rfl ?_
    refine v_icmp_ne rfl (fun c15 => ?_) (fun c15 => ?_)
    · exact absurd c15 (by decide +kernel)
    · have q := cShare_bd x
      refine v_run 6 (pc' := 27) (ls' := [some (.int (zI ↑x)), some (.int (zI 3)), some (.int (zI 1)), some (.int (zI 1))]) (st' := [.int (zI 1), .int (zI 1), .int (zI ↑x)]) rfl ?_
      refine v_callS (My := mX8_share) (As := [.int (zI ↑x), .int (zI 1), .int (zI 1)]) (rest := []) (mc := 0) (ms := 0) rfl caX8_share rfl rfl (k_share G _ x true true hx) rfl rfl (Nat.le_of_ble_eq_true rfl) (by omega) ?_
      rintro _ _ ⟨rfl, rfl⟩
      refine v_run 0 (pc' := 30) (ls' := [some (.int (zI ↑x)), some (.int (zI 3)), some (.int (zI 1)), some (.int (zI 1))]) (st' := [.int (zI (cShare x true true))]) rfl ?_
      refine v_run 2 (pc' := 32) (ls' := [some (.int (zI ↑x)), some (.int (zI 3)), some (.int (zI 1)), some (.int (zI 1))]) (st' := [.int (zI 1), .int (zI ↑x), .int (zI (cShare x true true))]) rfl ?_
      refine v_if_ne rfl (fun c32 => ?_) (fun c32 => ?_)
      · refine v_run 2 (pc' := 41) (ls' := [some (.int (zI ↑x)), some (.int (zI 3)), some (.int (zI 1)), some (.int (zI 1))]) (st' := [.int (zI 1), .int (zI 0), .int (zI ↑x), .int (zI (cShare x true true))]) rfl ?_
        refine v_callS (My := mX8_share) (As := [.int (zI ↑x), .int (zI 0), .int (zI 1)]) (rest := [.int (zI (cShare x true true))]) (mc := 0) (ms := 0) rfl caX8_share rfl rfl (k_share G _ x false true hx) rfl rfl (Nat.le_of_ble_eq_true rfl) (by omega) ?_
        rintro _ _ ⟨rfl, rfl⟩
        refine v_run 0 (pc' := 44) (ls' := [some (.int (zI ↑x)), some (.int (zI 3)), some (.int (zI 1)), some (.int (zI 1))]) (st' := [.int (zI (cShare x false true)), .int (zI (cShare x true true))]) rfl ?_
        have q1 := q true true hx
        have q2 := q false true hx
        have q3 := q true true hx
        have q4 := q false true hx
        refine v_icmp_lt rfl (fun c44 => ?_) (fun c44 => ?_)
        · simp (disch := omega) only [zI_lt, zI_le, zI_eq, zI_lt0, zI_le0, zI_0lt, zI_0le, zI_eq0] at c44
          refine v_run 1 (pc' := 75) (ls' := [some (.int (zI ↑x)), some (.int (zI 3)), some (.int (zI 1)), some (.int (zI 1))]) (st' := [.int (zI 0)]) rfl ?_
          exact v_iret rfl rfl rfl ⟨by rw [cRest_3, zb, if_neg (by simp; omega)], rfl⟩
        · simp (disch := omega) only [zI_lt, zI_le, zI_eq, zI_lt0, zI_le0, zI_0lt, zI_0le, zI_eq0] at c44
          refine v_run 3 (pc' := 50) (ls' := [some (.int (zI ↑x)), some (.int (zI 3)), some (.int (zI 1)), some (.int (zI 1))]) (st' := [.int (zI 1), .int (zI 1), .int (zI ↑x)]) rfl ?_
          refine v_callS (My := mX8_share) (As := [.int (zI ↑x), .int (zI 1), .int (zI 1)]) (rest := []) (mc := 0) (ms := 0) rfl caX8_share rfl rfl (k_share G _ x true true hx) rfl rfl (Nat.le_of_ble_eq_true rfl) (by omega) ?_
          rintro _ _ ⟨rfl, rfl⟩
          refine v_run 0 (pc' := 53) (ls' := [some (.int (zI ↑x)), some (.int (zI 3)), some (.int (zI 1)), some (.int (zI 1))]) (st' := [.int (zI (cShare x true true))]) rfl ?_
          refine v_run 2 (pc' := 55) (ls' := [some (.int (zI ↑x)), some (.int (zI 3)), some (.int (zI 1)), some (.int (zI 1))]) (st' := [.int (zI 1), .int (zI ↑x), .int (zI (cShare x true true))]) rfl ?_
          refine v_if_ne rfl (fun c55 => ?_) (fun c55 => ?_)
          · refine v_run 2 (pc' := 64) (ls' := [some (.int (zI ↑x)), some (.int (zI 3)), some (.int (zI 1)), some (.int (zI 1))]) (st' := [.int (zI 1), .int (zI 0), .int (zI ↑x), .int (zI (cShare x true true))]) rfl ?_
            refine v_callS (My := mX8_share) (As := [.int (zI ↑x), .int (zI 0), .int (zI 1)]) (rest := [.int (zI (cShare x true true))]) (mc := 0) (ms := 0) rfl caX8_share rfl rfl (k_share G _ x false true hx) rfl rfl (Nat.le_of_ble_eq_true rfl) (by omega) ?_
            rintro _ _ ⟨rfl, rfl⟩
            refine v_run 0 (pc' := 67) (ls' := [some (.int (zI ↑x)), some (.int (zI 3)), some (.int (zI 1)), some (.int (zI 1))]) (st' := [.int (zI (cShare x false true)), .int (zI (cShare x true true))]) rfl ?_
            refine v_icmp_lt rfl (fun c67 => ?_) (fun c67 => ?_)
            · simp (disch := omega) only [zI_lt, zI_le, zI_eq, zI_lt0, zI_le0, zI_0lt, zI_0le, zI_eq0] at c67
              refine v_run 1 (pc' := 75) (ls' := [some (.int (zI ↑x)), some (.int (zI 3)), some (.int (zI 1)), some (.int (zI 1))]) (st' := [.int (zI 0)]) rfl ?_
              exact v_iret rfl rfl rfl ⟨by rw [cRest_3, zb, if_neg (by simp; omega)], rfl⟩
            · simp (disch := omega) only [zI_lt, zI_le, zI_eq, zI_lt0, zI_le0, zI_0lt, zI_0le, zI_eq0] at c67
              refine v_run 2 (pc' := 75) (ls' := [some (.int (zI ↑x)), some (.int (zI 3)), some (.int (zI 1)), some (.int (zI 1))]) (st' := [.int (zI 1)]) rfl ?_
              exact v_iret rfl rfl rfl ⟨by rw [cRest_3, zb, if_pos (by simp; omega)], rfl⟩
          · exact absurd c55 (by decide +kernel)
      · exact absurd c32 (by decide +kernel)

theorem k_isRest (G : ssG) (h : ssH) (x p : Nat) (hx : x ≤ 20) (hp : p < 4) : ssC G mX8_isRest 1 0 0 [.int (zI ↑x), .int (zI ↑p)] h (rI (zb (cRest x p)) h) := by
  match p, hp with
  | 0, _ => exact k_isRest0 G h x hx
  | 1, _ => exact k_isRest1 G h x hx
  | 2, _ => exact k_isRest2 G h x hx
  | 3, _ => exact k_isRest3 G h x hx
set_option maxRecDepth 100000 in
set_option maxHeartbeats 400000 in
theorem k_rests (G : ssG) (h : ssH) {ad : Nat → Nat} {pl : Nat} {σ : sT} (w : Int) (hA : ∀ k l, ad k = ad l → k = l) (hc : CW0 h ad pl σ) (hok : sOk σ) (hw : -2147483648 ≤ w ∧ w < 2147483648) : ssC G mX8_rests 2 0 0 [.ref (ad 0), .int (zI w)] h (cR ad pl (sTr σ (aRests σ w).2) h (.int (zI (aRests σ w).1))) := by
  refine c_of_v okX8_rests (by decide +kernel) (ls := [some (.ref (ad 0)), some (.int (zI w)), none, none]) rfl (Nat.le_of_ble_eq_true rfl) ?_
  obtain ⟨i0, i1, i2, i3, i5, i7, a4, a6, a8, a9, a10, i11, i12, i14, i15⟩ := id hok.1
  obtain ⟨j0, j1, j2, b3, b4, b5, b6⟩ := id (hok.2.2 3 (by decide))
  have i13 := hok.2.1
  have hpl := hc.1
  simp only [fI] at i0 i1 i2 i3 i5 i7 i11 i12 i14 i15 j0 j1 j2
  refine v_run 1 (pc' := 1) (ls' := [some (.ref (ad 0)), some (.int (zI w)), none, none]) (st' := [.ref (ad 0)]) rfl ?_
  refine v_callV (My := mX8_lacksSafe) (As := []) (rest := []) (mc := 0) (ms := 0) rfl caX8_lacksSafe rfl rfl rfl hc.2.1 rfl rfl (k_lacksSafe G _ hA hc hok) rfl rfl (Nat.le_of_ble_eq_true rfl) (by omega) ?_
  rintro _ _ ⟨rfl, rfl⟩
  refine v_run 0 (pc' := 4) (ls' := [some (.ref (ad 0)), some (.int (zI w)), none, none]) (st' := [.int (zb (decide (σ 1 5 0 = 0)))]) rfl ?_
  refine v_if_eq rfl (fun c4 => ?_) (fun c4 => ?_)
  · rw [zb_0, decide_eq_false_iff_not] at c4
    refine v_run 2 (pc' := 16) (ls' := [some (.ref (ad 0)), some (.int (zI w)), none, none]) (st' := [.int (zI 20), .int (zI w)]) rfl ?_
    refine v_callS (My := mX8_outside) (As := [.int (zI w), .int (zI 20)]) (rest := []) (mc := 0) (ms := 0) rfl caX8_outside rfl rfl (k_outside G _ w 20 hw ⟨by omega, by omega⟩) rfl rfl (Nat.le_of_ble_eq_true rfl) (by omega) ?_
    rintro _ _ ⟨rfl, rfl⟩
    refine v_run 0 (pc' := 19) (ls' := [some (.ref (ad 0)), some (.int (zI w)), none, none]) (st' := [.int (zb (decide (w < 0 ∨ 20 < w)))]) rfl ?_
    refine v_if_eq rfl (fun c19 => ?_) (fun c19 => ?_)
    · rw [zb_0, decide_eq_false_iff_not] at c19
      obtain ⟨x, rfl⟩ : ∃ z : Nat, w = ↑z := ⟨w.toNat, by omega⟩
      refine v_run 4 (pc' := 32) (ls' := [some (.ref (ad 0)), some (.int (zI ↑x)), some (.int (zI 0)), some (.int (zI 0))]) (st' := []) rfl ?_
      have lp : ∀ (n s : Nat), s ≤ 4 → 4 + 1 ≤ s + n → ssV G mX8_rests 2 0 0 (cR ad pl (sTr σ (aRests σ ↑x).2) h (.int (zI (aRests σ ↑x).1))) 32 [some (.ref (ad 0)), some (.int (zI ↑x)), some (.int (zI ↑(sumN (fun p => if cRest x p then 1 else 0) s))), some (.int (zI ↑s))] [] h := by
        intro n
        induction n with
        | zero => intro s hs1 hs2; exact absurd hs2 (by omega)
        | succ n ih =>
          intro s hs1 hs2
          refine v_run 2 (pc' := 34) (ls' := [some (.ref (ad 0)), some (.int (zI ↑x)), some (.int (zI ↑(sumN (fun p => if cRest x p then 1 else 0) s))), some (.int (zI ↑s))]) (st' := [.int (zI 4), .int (zI ↑s)]) rfl ?_
          refine v_icmp_ge rfl (fun c34 => ?_) (fun c34 => ?_)
          · simp (disch := omega) only [zI_lt, zI_le, zI_eq, zI_lt0, zI_le0, zI_0lt, zI_0le, zI_eq0] at c34
            refine v_run 2 (pc' := 56) (ls' := [some (.ref (ad 0)), some (.int (zI ↑x)), some (.int (zI ↑(sumN (fun p => if cRest x p then 1 else 0) s))), some (.int (zI ↑s))]) (st' := [.int (zI ↑(sumN (fun p => if cRest x p then 1 else 0) s)), .ref (ad 0)]) rfl ?_
            refine v_callV (My := mX8_grant) (As := [.int (zI ↑(sumN (fun p => if cRest x p then 1 else 0) s))]) (rest := []) (mc := 0) (ms := 0) rfl caX8_grant rfl rfl rfl hc.2.1 rfl rfl (k_grant G _ ((zI ↑(sumN (fun p => if cRest x p then 1 else 0) s))) hA hc hok) rfl rfl (Nat.le_of_ble_eq_true rfl) (by omega) ?_
            rintro _ h9 ⟨rfl, hc9, hf9⟩
            refine v_run 0 (pc' := 59) (ls' := [some (.ref (ad 0)), some (.int (zI ↑x)), some (.int (zI ↑(sumN (fun p => if cRest x p then 1 else 0) s))), some (.int (zI ↑s))]) (st' := [.int ((zI ↑(sumN (fun p => if cRest x p then 1 else 0) s)))]) rfl ?_
            rw [show aRests σ ↑x = (↑(sumN (fun p => if cRest x p then 1 else 0) s), 0) from by rw [aRests, if_neg c4, if_neg c19, show s = 4 by omega]; rfl]
            exact v_iret rfl rfl rfl ⟨rfl, hc9, hf9⟩
          · simp (disch := omega) only [zI_lt, zI_le, zI_eq, zI_lt0, zI_le0, zI_0lt, zI_0le, zI_eq0] at c34
            refine v_run 2 (pc' := 39) (ls' := [some (.ref (ad 0)), some (.int (zI ↑x)), some (.int (zI ↑(sumN (fun p => if cRest x p then 1 else 0) s))), some (.int (zI ↑s))]) (st' := [.int (zI ↑s), .int (zI ↑x)]) rfl ?_
            refine v_callS (My := mX8_isRest) (As := [.int (zI ↑x), .int (zI ↑s)]) (rest := []) (mc := 0) (ms := 0) rfl caX8_isRest rfl rfl (k_isRest G _ x s (by omega) (by omega)) rfl rfl (Nat.le_of_ble_eq_true rfl) (by omega) ?_
            rintro _ _ ⟨rfl, rfl⟩
            refine v_run 0 (pc' := 42) (ls' := [some (.ref (ad 0)), some (.int (zI ↑x)), some (.int (zI ↑(sumN (fun p => if cRest x p then 1 else 0) s))), some (.int (zI ↑s))]) (st' := [.int (zb (cRest x s))]) rfl ?_
            refine v_if_eq rfl (fun c42 => ?_) (fun c42 => ?_)
            · rw [zb_0] at c42
              refine v_run 2 (pc' := 32) (ls' := [some (.ref (ad 0)), some (.int (zI ↑x)), some (.int (zI ↑(sumN (fun p => if cRest x p then 1 else 0) s))), some (.int ((zI ↑s) + zI 1))]) (st' := []) rfl ?_
              rw [show sumN (fun p => if cRest x p then 1 else 0) s = sumN (fun p => if cRest x p then 1 else 0) (s + 1) by simp only [sumN]; rw [if_neg (by rw [c42]; decide)]; rfl, zI_s1]
              exact ih (s + 1) (by omega) (by omega)
            · rw [zb_0, Bool.not_eq_false] at c42
              refine v_run 3 (pc' := 32) (ls' := [some (.ref (ad 0)), some (.int (zI ↑x)), some (.int ((zI ↑(sumN (fun p => if cRest x p then 1 else 0) s)) + zI 1)), some (.int ((zI ↑s) + zI 1))]) (st' := []) rfl ?_
              rw [zI_s1, zI_s1, show sumN (fun p => if cRest x p then 1 else 0) s + 1 = sumN (fun p => if cRest x p then 1 else 0) (s + 1) by simp only [sumN]; rw [if_pos c42]]
              exact ih (s + 1) (by omega) (by omega)
      exact lp (4 + 1) 0 (by omega) (by omega)
    · rw [zb_0, Bool.not_eq_false, decide_eq_true_eq] at c19
      refine v_run 2 (pc' := 24) (ls' := [some (.ref (ad 0)), some (.int (zI w)), none, none]) (st' := [.int (zI 2), .ref (ad 0)]) rfl ?_
      refine v_callV (My := mX8_refuse) (As := [.int (zI 2)]) (rest := []) (mc := 0) (ms := 0) rfl caX8_refuse rfl rfl rfl hc.2.1 rfl rfl (k_refuse G _ 2 hA hc hok) rfl rfl (Nat.le_of_ble_eq_true rfl) (by omega) ?_
      rintro _ h9 ⟨rfl, hc9, hf9⟩
      refine v_run 0 (pc' := 27) (ls' := [some (.ref (ad 0)), some (.int (zI w)), none, none]) (st' := [.int (zI (-1))]) rfl ?_
      rw [show aRests σ w = (-1, 2) from (by rw [aRests, if_neg c4, if_pos c19])]
      exact v_iret rfl rfl rfl ⟨rfl, hc9, hf9⟩
  · rw [zb_0, Bool.not_eq_false, decide_eq_true_eq] at c4
    refine v_run 2 (pc' := 9) (ls' := [some (.ref (ad 0)), some (.int (zI w)), none, none]) (st' := [.int (zI 1), .ref (ad 0)]) rfl ?_
    refine v_callV (My := mX8_refuse) (As := [.int (zI 1)]) (rest := []) (mc := 0) (ms := 0) rfl caX8_refuse rfl rfl rfl hc.2.1 rfl rfl (k_refuse G _ 1 hA hc hok) rfl rfl (Nat.le_of_ble_eq_true rfl) (by omega) ?_
    rintro _ h9 ⟨rfl, hc9, hf9⟩
    refine v_run 0 (pc' := 12) (ls' := [some (.ref (ad 0)), some (.int (zI w)), none, none]) (st' := [.int (zI (-1))]) rfl ?_
    rw [show aRests σ w = (-1, 1) from if_pos c4]
    exact v_iret rfl rfl rfl ⟨rfl, hc9, hf9⟩

set_option maxRecDepth 100000 in
set_option maxHeartbeats 400000 in
theorem k_rest (G : ssG) (h : ssH) {ad : Nat → Nat} {pl : Nat} {σ : sT} (w : Int) (hA : ∀ k l, ad k = ad l → k = l) (hc : CW0 h ad pl σ) (hok : sOk σ) (hw : -2147483648 ≤ w ∧ w < 2147483648) : ssC G mX8_rest 2 0 0 [.ref (ad 0), .int (zI w)] h (cR ad pl (sTr σ (aRest σ w).2) h (.int (zI (aRest σ w).1))) := by
  refine c_of_v okX8_rest (by decide +kernel) (ls := [some (.ref (ad 0)), some (.int (zI w)), none]) rfl (Nat.le_of_ble_eq_true rfl) ?_
  obtain ⟨i0, i1, i2, i3, i5, i7, a4, a6, a8, a9, a10, i11, i12, i14, i15⟩ := id hok.1
  obtain ⟨j0, j1, j2, b3, b4, b5, b6⟩ := id (hok.2.2 3 (by decide))
  have i13 := hok.2.1
  have hpl := hc.1
  simp only [fI] at i0 i1 i2 i3 i5 i7 i11 i12 i14 i15 j0 j1 j2
  refine v_run 1 (pc' := 1) (ls' := [some (.ref (ad 0)), some (.int (zI w)), none]) (st' := [.ref (ad 0)]) rfl ?_
  refine v_callV (My := mX8_lacksSafe) (As := []) (rest := []) (mc := 0) (ms := 0) rfl caX8_lacksSafe rfl rfl rfl hc.2.1 rfl rfl (k_lacksSafe G _ hA hc hok) rfl rfl (Nat.le_of_ble_eq_true rfl) (by omega) ?_
  rintro _ _ ⟨rfl, rfl⟩
  refine v_run 0 (pc' := 4) (ls' := [some (.ref (ad 0)), some (.int (zI w)), none]) (st' := [.int (zb (decide (σ 1 5 0 = 0)))]) rfl ?_
  refine v_if_eq rfl (fun c4 => ?_) (fun c4 => ?_)
  · rw [zb_0, decide_eq_false_iff_not] at c4
    refine v_run 2 (pc' := 16) (ls' := [some (.ref (ad 0)), some (.int (zI w)), none]) (st' := [.int (zI 20), .int (zI w)]) rfl ?_
    refine v_callS (My := mX8_outside) (As := [.int (zI w), .int (zI 20)]) (rest := []) (mc := 0) (ms := 0) rfl caX8_outside rfl rfl (k_outside G _ w 20 hw ⟨by omega, by omega⟩) rfl rfl (Nat.le_of_ble_eq_true rfl) (by omega) ?_
    rintro _ _ ⟨rfl, rfl⟩
    refine v_run 0 (pc' := 19) (ls' := [some (.ref (ad 0)), some (.int (zI w)), none]) (st' := [.int (zb (decide (w < 0 ∨ 20 < w)))]) rfl ?_
    refine v_if_eq rfl (fun c19 => ?_) (fun c19 => ?_)
    · rw [zb_0, decide_eq_false_iff_not] at c19
      obtain ⟨x, rfl⟩ : ∃ z : Nat, w = ↑z := ⟨w.toNat, by omega⟩
      refine v_run 2 (pc' := 30) (ls' := [some (.ref (ad 0)), some (.int (zI ↑x)), some (.int (zI 0))]) (st' := []) rfl ?_
      have lp : ∀ (n s : Nat), s ≤ 4 ∧ rstG x (4 - s) s = rstG x 4 0 → 4 + 1 ≤ s + n → ssV G mX8_rest 2 0 0 (cR ad pl (sTr σ (aRest σ ↑x).2) h (.int (zI (aRest σ ↑x).1))) 30 [some (.ref (ad 0)), some (.int (zI ↑x)), some (.int (zI ↑s))] [] h := by
        intro n
        induction n with
        | zero => intro s hs1 hs2; exact absurd hs2 (by omega)
        | succ n ih =>
          intro s hs1 hs2
          obtain ⟨hs1, hs3⟩ := hs1
          refine v_run 2 (pc' := 32) (ls' := [some (.ref (ad 0)), some (.int (zI ↑x)), some (.int (zI ↑s))]) (st' := [.int (zI 4), .int (zI ↑s)]) rfl ?_
          refine v_icmp_ge rfl (fun c32 => ?_) (fun c32 => ?_)
          · simp (disch := omega) only [zI_lt, zI_le, zI_eq, zI_lt0, zI_le0, zI_0lt, zI_0le, zI_eq0] at c32
            refine v_run 2 (pc' := 67) (ls' := [some (.ref (ad 0)), some (.int (zI ↑x)), some (.int (zI ↑s))]) (st' := [.int (zI (-2)), .ref (ad 0)]) rfl ?_
            refine v_callV (My := mX8_grant) (As := [.int (zI (-2))]) (rest := []) (mc := 0) (ms := 0) rfl caX8_grant rfl rfl rfl hc.2.1 rfl rfl (k_grant G _ ((zI (-2))) hA hc hok) rfl rfl (Nat.le_of_ble_eq_true rfl) (by omega) ?_
            rintro _ h9 ⟨rfl, hc9, hf9⟩
            refine v_run 0 (pc' := 70) (ls' := [some (.ref (ad 0)), some (.int (zI ↑x)), some (.int (zI ↑s))]) (st' := [.int ((zI (-2)))]) rfl ?_
            rw [show aRest σ ↑x = (-2, 0) from by rw [aRest, if_neg c4, if_neg c19, Int.toNat_natCast, ← hs3, show 4 - s = 0 by omega]; rfl]
            exact v_iret rfl rfl rfl ⟨rfl, hc9, hf9⟩
          · simp (disch := omega) only [zI_lt, zI_le, zI_eq, zI_lt0, zI_le0, zI_0lt, zI_0le, zI_eq0] at c32
            rw [show 4 - s = (4 - (s + 1)) + 1 by omega] at hs3
            rw [rstG_s x (4 - (s + 1)) s] at hs3
            refine v_run 2 (pc' := 37) (ls' := [some (.ref (ad 0)), some (.int (zI ↑x)), some (.int (zI ↑s))]) (st' := [.int (zI ↑s), .int (zI ↑x)]) rfl ?_
            refine v_callS (My := mX8_isRest) (As := [.int (zI ↑x), .int (zI ↑s)]) (rest := []) (mc := 0) (ms := 0) rfl caX8_isRest rfl rfl (k_isRest G _ x s (by omega) (by omega)) rfl rfl (Nat.le_of_ble_eq_true rfl) (by omega) ?_
            rintro _ _ ⟨rfl, rfl⟩
            refine v_run 0 (pc' := 40) (ls' := [some (.ref (ad 0)), some (.int (zI ↑x)), some (.int (zI ↑s))]) (st' := [.int (zb (cRest x s))]) rfl ?_
            refine v_if_eq rfl (fun c40 => ?_) (fun c40 => ?_)
            · rw [zb_0] at c40
              rw [if_neg (by rw [c40]; decide)] at hs3
              refine v_run 2 (pc' := 30) (ls' := [some (.ref (ad 0)), some (.int (zI ↑x)), some (.int ((zI ↑s) + zI 1))]) (st' := []) rfl ?_
              rw [zI_s1]
              exact ih (s + 1) ⟨by omega, hs3⟩ (by omega)
            · rw [zb_0, Bool.not_eq_false] at c40
              rw [if_pos c40] at hs3
              refine v_run 3 (pc' := 46) (ls' := [some (.ref (ad 0)), some (.int (zI ↑x)), some (.int (zI ↑s))]) (st' := [.int (zI 2), .int (zI ↑s), .ref (ad 0)]) rfl ?_
              refine v_idiv rfl (zI_ne0 (by decide) (by decide)) ?_
              refine v_run 4 (pc' := 52) (ls' := [some (.ref (ad 0)), some (.int (zI ↑x)), some (.int (zI ↑s))]) (st' := [.int (zI 2), .int (zI ↑s), .int ((zI ↑s / zI 2) * (zI 10)), .ref (ad 0)]) rfl ?_
              refine v_irem rfl (zI_ne0 (by decide) (by decide)) ?_
              refine v_run 1 (pc' := 54) (ls' := [some (.ref (ad 0)), some (.int (zI ↑x)), some (.int (zI ↑s))]) (st' := [.int (((zI ↑s / zI 2) * (zI 10)) + (zI ↑s - zI ↑s / zI 2 * zI 2)), .ref (ad 0)]) rfl ?_
              rw [show (((zI ↑s / zI 2) * (zI 10)) + (zI ↑s - zI ↑s / zI 2 * zI 2) : Int32) = zI (↑(s / 2) * 10 + ↑(s % 2)) from by rw [show zI 2 = zI ((2 : Nat) : Int) from rfl, zN_rem (by omega) (by omega) (by omega), zN_div (by omega) (by omega) (by omega), zI_mul, zI_add]]
              refine v_callV (My := mX8_grant) (As := [.int (zI (↑(s / 2) * 10 + ↑(s % 2)))]) (rest := []) (mc := 0) (ms := 0) rfl caX8_grant rfl rfl rfl hc.2.1 rfl rfl (k_grant G _ ((zI (↑(s / 2) * 10 + ↑(s % 2)))) hA hc hok) rfl rfl (Nat.le_of_ble_eq_true rfl) (by omega) ?_
              rintro _ h9 ⟨rfl, hc9, hf9⟩
              refine v_run 0 (pc' := 57) (ls' := [some (.ref (ad 0)), some (.int (zI ↑x)), some (.int (zI ↑s))]) (st' := [.int ((zI (↑(s / 2) * 10 + ↑(s % 2))))]) rfl ?_
              rw [show aRest σ ↑x = (↑(s / 2) * 10 + ↑(s % 2), 0) from by rw [aRest, if_neg c4, if_neg c19, Int.toNat_natCast, ← hs3]]
              exact v_iret rfl rfl rfl ⟨rfl, hc9, hf9⟩
      exact lp (4 + 1) 0 ⟨by omega, rfl⟩ (by omega)
    · rw [zb_0, Bool.not_eq_false, decide_eq_true_eq] at c19
      refine v_run 2 (pc' := 24) (ls' := [some (.ref (ad 0)), some (.int (zI w)), none]) (st' := [.int (zI 2), .ref (ad 0)]) rfl ?_
      refine v_callV (My := mX8_refuse) (As := [.int (zI 2)]) (rest := []) (mc := 0) (ms := 0) rfl caX8_refuse rfl rfl rfl hc.2.1 rfl rfl (k_refuse G _ 2 hA hc hok) rfl rfl (Nat.le_of_ble_eq_true rfl) (by omega) ?_
      rintro _ h9 ⟨rfl, hc9, hf9⟩
      refine v_run 0 (pc' := 27) (ls' := [some (.ref (ad 0)), some (.int (zI w)), none]) (st' := [.int (zI (-1))]) rfl ?_
      rw [show aRest σ w = (-1, 2) from (by rw [aRest, if_neg c4, if_pos c19])]
      exact v_iret rfl rfl rfl ⟨rfl, hc9, hf9⟩
  · rw [zb_0, Bool.not_eq_false, decide_eq_true_eq] at c4
    refine v_run 2 (pc' := 9) (ls' := [some (.ref (ad 0)), some (.int (zI w)), none]) (st' := [.int (zI 1), .ref (ad 0)]) rfl ?_
    refine v_callV (My := mX8_refuse) (As := [.int (zI 1)]) (rest := []) (mc := 0) (ms := 0) rfl caX8_refuse rfl rfl rfl hc.2.1 rfl rfl (k_refuse G _ 1 hA hc hok) rfl rfl (Nat.le_of_ble_eq_true rfl) (by omega) ?_
    rintro _ h9 ⟨rfl, hc9, hf9⟩
    refine v_run 0 (pc' := 12) (ls' := [some (.ref (ad 0)), some (.int (zI w)), none]) (st' := [.int (zI (-1))]) rfl ?_
    rw [show aRest σ w = (-1, 1) from if_pos c4]
    exact v_iret rfl rfl rfl ⟨rfl, hc9, hf9⟩

set_option maxRecDepth 100000 in
set_option maxHeartbeats 400000 in
theorem k_wire (G : ssG) (h : ssH) {ad : Nat → Nat} {pl : Nat} {σ : sT} (w : Int) (f1 f2 f3 : Bool) (hA : ∀ k l, ad k = ad l → k = l) (hc : CW0 h ad pl σ) (hok : sOk σ) (hw : -2147483648 ≤ w ∧ w < 2147483648) : ssC G mX8_wire 1 0 0 [.ref (ad 0), .int (zI w), .int (zb f1), .int (zb f2), .int (zb f3)] h (cR ad pl (sTr σ (aWire σ w f1 f2 f3).2) h (.int (zI (aWire σ w f1 f2 f3).1))) := by
  refine c_of_v okX8_wire (by decide +kernel) (ls := [some (.ref (ad 0)), some (.int (zI w)), some (.int (zb f1)), some (.int (zb f2)), some (.int (zb f3))]) rfl (Nat.le_of_ble_eq_true rfl) ?_
  obtain ⟨i0, i1, i2, i3, i5, i7, a4, a6, a8, a9, a10, i11, i12, i14, i15⟩ := id hok.1
  obtain ⟨j0, j1, j2, b3, b4, b5, b6⟩ := id (hok.2.2 3 (by decide))
  have i13 := hok.2.1
  have hpl := hc.1
  simp only [fI] at i0 i1 i2 i3 i5 i7 i11 i12 i14 i15 j0 j1 j2
  refine v_run 1 (pc' := 1) (ls' := [some (.ref (ad 0)), some (.int (zI w)), some (.int (zb f1)), some (.int (zb f2)), some (.int (zb f3))]) (st' := [.ref (ad 0)]) rfl ?_
  refine v_callV (My := mX8_lacksSafe) (As := []) (rest := []) (mc := 0) (ms := 0) rfl caX8_lacksSafe rfl rfl rfl hc.2.1 rfl rfl (k_lacksSafe G _ hA hc hok) rfl rfl (Nat.le_of_ble_eq_true rfl) (by omega) ?_
  rintro _ _ ⟨rfl, rfl⟩
  refine v_run 0 (pc' := 4) (ls' := [some (.ref (ad 0)), some (.int (zI w)), some (.int (zb f1)), some (.int (zb f2)), some (.int (zb f3))]) (st' := [.int (zb (decide (σ 1 5 0 = 0)))]) rfl ?_
  refine v_if_eq rfl (fun c4 => ?_) (fun c4 => ?_)
  · rw [zb_0, decide_eq_false_iff_not] at c4
    refine v_run 2 (pc' := 19) (ls' := [some (.ref (ad 0)), some (.int (zI w)), some (.int (zb f1)), some (.int (zb f2)), some (.int (zb f3))]) (st' := [.int (zI 20), .int (zI w)]) rfl ?_
    refine v_callS (My := mX8_outside) (As := [.int (zI w), .int (zI 20)]) (rest := []) (mc := 0) (ms := 0) rfl caX8_outside rfl rfl (k_outside G _ w 20 hw ⟨by omega, by omega⟩) rfl rfl (Nat.le_of_ble_eq_true rfl) (by omega) ?_
    rintro _ _ ⟨rfl, rfl⟩
    refine v_run 0 (pc' := 22) (ls' := [some (.ref (ad 0)), some (.int (zI w)), some (.int (zb f1)), some (.int (zb f2)), some (.int (zb f3))]) (st' := [.int (zb (decide (w < 0 ∨ 20 < w)))]) rfl ?_
    refine v_if_eq rfl (fun c22 => ?_) (fun c22 => ?_)
    · rw [zb_0, decide_eq_false_iff_not] at c22
      obtain ⟨x, rfl⟩ : ∃ z : Nat, w = ↑z := ⟨w.toNat, by omega⟩
      refine v_run 2 (pc' := 37) (ls' := [some (.ref (ad 0)), some (.int (zI ↑x)), some (.int (zb f1)), some (.int (zb f2)), some (.int (zb f3))]) (st' := [.int (zb f3), .ref (ad 0)]) rfl ?_
      refine v_if_eq rfl (fun c37 => ?_) (fun c37 => ?_)
      · rw [zb_0] at c37
        refine v_run 3 (pc' := 52) (ls' := [some (.ref (ad 0)), some (.int (zI ↑x)), some (.int (zb f1)), some (.int (zb f2)), some (.int (zb f3))]) (st' := [.int (zb f2), .int (zb f1), .int (zI ↑x), .ref (ad 0)]) rfl ?_
        refine v_callS (My := mX8_share) (As := [.int (zI ↑x), .int (zb f1), .int (zb f2)]) (rest := [.ref (ad 0)]) (mc := 0) (ms := 0) rfl caX8_share rfl rfl (k_share G _ x f1 f2 (by omega)) rfl rfl (Nat.le_of_ble_eq_true rfl) (by omega) ?_
        rintro _ _ ⟨rfl, rfl⟩
        refine v_run 0 (pc' := 55) (ls' := [some (.ref (ad 0)), some (.int (zI ↑x)), some (.int (zb f1)), some (.int (zb f2)), some (.int (zb f3))]) (st' := [.int (zI (cShare x f1 f2)), .ref (ad 0)]) rfl ?_
        refine v_callV (My := mX8_grant) (As := [.int (zI (cShare x f1 f2))]) (rest := []) (mc := 0) (ms := 0) rfl caX8_grant rfl rfl rfl hc.2.1 rfl rfl (k_grant G _ ((zI (cShare x f1 f2))) hA hc hok) rfl rfl (Nat.le_of_ble_eq_true rfl) (by omega) ?_
        rintro _ h9 ⟨rfl, hc9, hf9⟩
        refine v_run 0 (pc' := 58) (ls' := [some (.ref (ad 0)), some (.int (zI ↑x)), some (.int (zb f1)), some (.int (zb f2)), some (.int (zb f3))]) (st' := [.int ((zI (cShare x f1 f2)))]) rfl ?_
        rw [show aWire σ ↑x f1 f2 f3 = (cShare x f1 f2, 0) from by rw [aWire, if_neg c4, if_neg c22, c37]; rfl]
        exact v_iret rfl rfl rfl ⟨rfl, hc9, hf9⟩
      · rw [zb_0, Bool.not_eq_false] at c37
        refine v_run 3 (pc' := 43) (ls' := [some (.ref (ad 0)), some (.int (zI ↑x)), some (.int (zb f1)), some (.int (zb f2)), some (.int (zb f3))]) (st' := [.int (zb f1), .int (zb f2), .int (zI ↑x), .ref (ad 0)]) rfl ?_
        refine v_callS (My := mX8_share) (As := [.int (zI ↑x), .int (zb f2), .int (zb f1)]) (rest := [.ref (ad 0)]) (mc := 0) (ms := 0) rfl caX8_share rfl rfl (k_share G _ x f2 f1 (by omega)) rfl rfl (Nat.le_of_ble_eq_true rfl) (by omega) ?_
        rintro _ _ ⟨rfl, rfl⟩
        refine v_run 0 (pc' := 46) (ls' := [some (.ref (ad 0)), some (.int (zI ↑x)), some (.int (zb f1)), some (.int (zb f2)), some (.int (zb f3))]) (st' := [.int (zI (cShare x f2 f1)), .ref (ad 0)]) rfl ?_
        refine v_run 1 (pc' := 55) (ls' := [some (.ref (ad 0)), some (.int (zI ↑x)), some (.int (zb f1)), some (.int (zb f2)), some (.int (zb f3))]) (st' := [.int (zI (cShare x f2 f1)), .ref (ad 0)]) rfl ?_
        refine v_callV (My := mX8_grant) (As := [.int (zI (cShare x f2 f1))]) (rest := []) (mc := 0) (ms := 0) rfl caX8_grant rfl rfl rfl hc.2.1 rfl rfl (k_grant G _ ((zI (cShare x f2 f1))) hA hc hok) rfl rfl (Nat.le_of_ble_eq_true rfl) (by omega) ?_
        rintro _ h9 ⟨rfl, hc9, hf9⟩
        refine v_run 0 (pc' := 58) (ls' := [some (.ref (ad 0)), some (.int (zI ↑x)), some (.int (zb f1)), some (.int (zb f2)), some (.int (zb f3))]) (st' := [.int ((zI (cShare x f2 f1)))]) rfl ?_
        rw [show aWire σ ↑x f1 f2 f3 = (cShare x f2 f1, 0) from by rw [aWire, if_neg c4, if_neg c22, c37]; rfl]
        exact v_iret rfl rfl rfl ⟨rfl, hc9, hf9⟩
    · rw [zb_0, Bool.not_eq_false, decide_eq_true_eq] at c22
      refine v_run 2 (pc' := 27) (ls' := [some (.ref (ad 0)), some (.int (zI w)), some (.int (zb f1)), some (.int (zb f2)), some (.int (zb f3))]) (st' := [.int (zI 2), .ref (ad 0)]) rfl ?_
      refine v_callV (My := mX8_refuse) (As := [.int (zI 2)]) (rest := []) (mc := 0) (ms := 0) rfl caX8_refuse rfl rfl rfl hc.2.1 rfl rfl (k_refuse G _ 2 hA hc hok) rfl rfl (Nat.le_of_ble_eq_true rfl) (by omega) ?_
      rintro _ h9 ⟨rfl, hc9, hf9⟩
      refine v_run 0 (pc' := 30) (ls' := [some (.ref (ad 0)), some (.int (zI w)), some (.int (zb f1)), some (.int (zb f2)), some (.int (zb f3))]) (st' := [.int (zI (-1))]) rfl ?_
      refine v_run 2 (pc' := 33) (ls' := [some (.ref (ad 0)), some (.int (zI w)), some (.int (zb f1)), some (.int (zb f2)), some (.int (zb f3))]) (st' := [.int (zI (-100))]) rfl ?_
      rw [show aWire σ w f1 f2 f3 = (-100, 2) from (by rw [aWire, if_neg c4, if_pos c22])]
      exact v_iret rfl rfl rfl ⟨rfl, hc9, hf9⟩
  · rw [zb_0, Bool.not_eq_false, decide_eq_true_eq] at c4
    refine v_run 2 (pc' := 9) (ls' := [some (.ref (ad 0)), some (.int (zI w)), some (.int (zb f1)), some (.int (zb f2)), some (.int (zb f3))]) (st' := [.int (zI 1), .ref (ad 0)]) rfl ?_
    refine v_callV (My := mX8_refuse) (As := [.int (zI 1)]) (rest := []) (mc := 0) (ms := 0) rfl caX8_refuse rfl rfl rfl hc.2.1 rfl rfl (k_refuse G _ 1 hA hc hok) rfl rfl (Nat.le_of_ble_eq_true rfl) (by omega) ?_
    rintro _ h9 ⟨rfl, hc9, hf9⟩
    refine v_run 0 (pc' := 12) (ls' := [some (.ref (ad 0)), some (.int (zI w)), some (.int (zb f1)), some (.int (zb f2)), some (.int (zb f3))]) (st' := [.int (zI (-1))]) rfl ?_
    refine v_run 2 (pc' := 15) (ls' := [some (.ref (ad 0)), some (.int (zI w)), some (.int (zb f1)), some (.int (zb f2)), some (.int (zb f3))]) (st' := [.int (zI (-100))]) rfl ?_
    rw [show aWire σ w f1 f2 f3 = (-100, 1) from if_pos c4]
    exact v_iret rfl rfl rfl ⟨rfl, hc9, hf9⟩

set_option maxRecDepth 100000 in
set_option maxHeartbeats 400000 in
theorem k_strongest (G : ssG) (h : ssH) {ad : Nat → Nat} {pl : Nat} {σ : sT}  (hA : ∀ k l, ad k = ad l → k = l) (hc : CW0 h ad pl σ) (hok : sOk σ)  : ssC G mX8_strongest 3 0 0 [.ref (ad 0)] h (cR ad pl (sTr σ (aStrongest σ).2) h (.int (zI (aStrongest σ).1))) := by
  refine c_of_v okX8_strongest (by decide +kernel) (ls := [some (.ref (ad 0)), none, none, none, none, none]) rfl (Nat.le_of_ble_eq_true rfl) ?_
  obtain ⟨i0, i1, i2, i3, i5, i7, a4, a6, a8, a9, a10, i11, i12, i14, i15⟩ := id hok.1
  obtain ⟨j0, j1, j2, b3, b4, b5, b6⟩ := id (hok.2.2 3 (by decide))
  have i13 := hok.2.1
  have hpl := hc.1
  simp only [fI] at i0 i1 i2 i3 i5 i7 i11 i12 i14 i15 j0 j1 j2
  refine v_run 1 (pc' := 1) (ls' := [some (.ref (ad 0)), none, none, none, none, none]) (st' := [.ref (ad 0)]) rfl ?_
  refine v_callV (My := mX8_lacksSafe) (As := []) (rest := []) (mc := 0) (ms := 0) rfl caX8_lacksSafe rfl rfl rfl hc.2.1 rfl rfl (k_lacksSafe G _ hA hc hok) rfl rfl (Nat.le_of_ble_eq_true rfl) (by omega) ?_
  rintro _ _ ⟨rfl, rfl⟩
  refine v_run 0 (pc' := 4) (ls' := [some (.ref (ad 0)), none, none, none, none, none]) (st' := [.int (zb (decide (σ 1 5 0 = 0)))]) rfl ?_
  refine v_if_eq rfl (fun c4 => ?_) (fun c4 => ?_)
  · rw [zb_0, decide_eq_false_iff_not] at c4
    have q0 : sGood σ < 64 := setN_lt64 _ i5
    refine v_run 1 (pc' := 14) (ls' := [some (.ref (ad 0)), none, none, none, none, none]) (st' := [.ref (ad 0)]) rfl ?_
    refine v_callV (My := mX8_goodNow) (As := []) (rest := []) (mc := 0) (ms := 0) rfl caX8_goodNow rfl rfl rfl hc.2.1 rfl rfl (k_goodNow G _ hA hc hok) rfl rfl (Nat.le_of_ble_eq_true rfl) (by omega) ?_
    rintro _ _ ⟨rfl, rfl⟩
    refine v_run 0 (pc' := 17) (ls' := [some (.ref (ad 0)), none, none, none, none, none]) (st' := [.int (zI ↑(sGood σ))]) rfl ?_
    refine v_run 7 (pc' := 26) (ls' := [some (.ref (ad 0)), some (.int (zI ↑(sGood σ))), some (.int (zI (-1))), some (.int (zI (-2))), some (.int (zI 0)), none]) (st' := []) rfl ?_
    have lp : ∀ (n s : Nat), s ≤ σ 1 5 0 → σ 1 5 0 + 1 ≤ s + n → ssV G mX8_strongest 3 0 0 (cR ad pl (sTr σ (aStrongest σ).2) h (.int (zI (aStrongest σ).1))) 26 [some (.ref (ad 0)), some (.int (zI ↑(sGood σ))), some (.int (zI (stA σ s).2)), some (.int (zI (stA σ s).1)), some (.int (zI ↑s)), none] [] h := by
      intro n
      induction n with
      | zero => intro s hs1 hs2; exact absurd hs2 (by omega)
      | succ n ih =>
        intro s hs1 hs2
        have q9 := stA_bd σ s
        refine v_run 2 (pc' := 29) (ls' := [some (.ref (ad 0)), some (.int (zI ↑(sGood σ))), some (.int (zI (stA σ s).2)), some (.int (zI (stA σ s).1)), some (.int (zI ↑s)), none]) (st' := [.ref (ad 0), .int (zI ↑s)]) rfl ?_
        refine v_get rfl hc.2.1 rfl ?_
        refine v_run 0 (pc' := 32) (ls' := [some (.ref (ad 0)), some (.int (zI ↑(sGood σ))), some (.int (zI (stA σ s).2)), some (.int (zI (stA σ s).1)), some (.int (zI ↑s)), none]) (st' := [.ref (ad pl), .int (zI ↑s)]) rfl ?_
        refine v_get rfl hc.2.2.1.1 rfl ?_
        refine v_run 0 (pc' := 35) (ls' := [some (.ref (ad 0)), some (.int (zI ↑(sGood σ))), some (.int (zI (stA σ s).2)), some (.int (zI (stA σ s).1)), some (.int (zI ↑s)), none]) (st' := [.int (zI ↑(σ 1 5 0)), .int (zI ↑s)]) rfl ?_
        refine v_icmp_ge rfl (fun c35 => ?_) (fun c35 => ?_)
        · simp (disch := omega) only [zI_lt, zI_le, zI_eq, zI_lt0, zI_le0, zI_0lt, zI_0le, zI_eq0] at c35
          refine v_run 2 (pc' := 83) (ls' := [some (.ref (ad 0)), some (.int (zI ↑(sGood σ))), some (.int (zI (stA σ s).2)), some (.int (zI (stA σ s).1)), some (.int (zI ↑s)), none]) (st' := [.int (zI (stA σ s).1), .ref (ad 0)]) rfl ?_
          refine v_callV (My := mX8_grant) (As := [.int (zI (stA σ s).1)]) (rest := []) (mc := 0) (ms := 0) rfl caX8_grant rfl rfl rfl hc.2.1 rfl rfl (k_grant G _ ((zI (stA σ s).1)) hA hc hok) rfl rfl (Nat.le_of_ble_eq_true rfl) (by omega) ?_
          rintro _ h9 ⟨rfl, hc9, hf9⟩
          refine v_run 0 (pc' := 86) (ls' := [some (.ref (ad 0)), some (.int (zI ↑(sGood σ))), some (.int (zI (stA σ s).2)), some (.int (zI (stA σ s).1)), some (.int (zI ↑s)), none]) (st' := [.int ((zI (stA σ s).1))]) rfl ?_
          rw [show aStrongest σ = ((stA σ s).1, 0) from by rw [aStrongest, if_neg c4, show s = σ 1 5 0 by omega]]
          exact v_iret rfl rfl rfl ⟨rfl, hc9, hf9⟩
        · simp (disch := omega) only [zI_lt, zI_le, zI_eq, zI_lt0, zI_le0, zI_0lt, zI_0le, zI_eq0] at c35
          refine v_run 5 (pc' := 44) (ls' := [some (.ref (ad 0)), some (.int (zI ↑(sGood σ))), some (.int (zI (stA σ s).2)), some (.int (zI (stA σ s).1)), some (.int (zI ↑s)), none]) (st' := [.int (((zI ↑(sGood σ)) >>> ((zI ↑s) &&& 31)) &&& (zI 1))]) rfl ?_
          rw [show (((zI ↑(sGood σ)) >>> ((zI ↑s) &&& 31)) &&& (zI 1) : Int32) = zI ↑(sGood σ / 2 ^ s % 2) from zI_bit (by omega) (by omega)]
          refine v_if_ne rfl (fun c44 => ?_) (fun c44 => ?_)
          · simp (disch := omega) only [zI_lt, zI_le, zI_eq, zI_lt0, zI_le0, zI_0lt, zI_0le, zI_eq0] at c44
            refine v_run 1 (pc' := 52) (ls' := [some (.ref (ad 0)), some (.int (zI ↑(sGood σ))), some (.int (zI (stA σ s).2)), some (.int (zI (stA σ s).1)), some (.int (zI ↑s)), none]) (st' := [.ref (ad 0)]) rfl ?_
            refine v_get rfl hc.2.1 rfl ?_
            refine v_run 2 (pc' := 58) (ls' := [some (.ref (ad 0)), some (.int (zI ↑(sGood σ))), some (.int (zI (stA σ s).2)), some (.int (zI (stA σ s).1)), some (.int (zI ↑s)), none]) (st' := [.int (zI ↑(sGood σ)), .int (zI ↑s), .ref (ad pl)]) rfl ?_
            have q5 : sSw σ s = ↑(swN σ s) := by rw [sSw, if_neg (by omega)]
            have q6 := swN_le σ s
            refine v_callV (My := mX4_swingsOf) (As := [.int (zI ↑s), .int (zI ↑(sGood σ))]) (rest := []) (mc := 0) (ms := 0) rfl caX4_swingsOf rfl rfl rfl hc.2.2.1.1 rfl rfl (k_swingsOf G _ s (sGood σ) hc.2.2.1 hok.1 (by omega) q0) rfl rfl (Nat.le_of_ble_eq_true rfl) (by omega) ?_
            rintro _ _ ⟨rfl, rfl⟩
            refine v_run 0 (pc' := 61) (ls' := [some (.ref (ad 0)), some (.int (zI ↑(sGood σ))), some (.int (zI (stA σ s).2)), some (.int (zI (stA σ s).1)), some (.int (zI ↑s)), none]) (st' := [.int (zI ↑(swN σ s))]) rfl ?_
            refine v_run 3 (pc' := 66) (ls' := [some (.ref (ad 0)), some (.int (zI ↑(sGood σ))), some (.int (zI (stA σ s).2)), some (.int (zI (stA σ s).1)), some (.int (zI ↑s)), some (.int (zI ↑(swN σ s)))]) (st' := [.int (zI (stA σ s).2), .int (zI ↑(swN σ s))]) rfl ?_
            refine v_icmp_le rfl (fun c66 => ?_) (fun c66 => ?_)
            · simp (disch := omega) only [zI_lt, zI_le, zI_eq, zI_lt0, zI_le0, zI_0lt, zI_0le, zI_eq0] at c66
              refine v_run 2 (pc' := 26) (ls' := [some (.ref (ad 0)), some (.int (zI ↑(sGood σ))), some (.int (zI (stA σ s).2)), some (.int (zI (stA σ s).1)), some (.int ((zI ↑s) + zI 1)), some (.int (zI ↑(swN σ s)))]) (st' := []) rfl ?_
              refine v_drop 5 (ls' := [some (.ref (ad 0)), some (.int (zI ↑(sGood σ))), some (.int (zI (stA σ s).2)), some (.int (zI (stA σ s).1)), some (.int ((zI ↑s) + zI 1)), none]) rfl ?_
              rw [zI_s1, ← stA_f σ s (by omega)]
              exact ih (s + 1) (by omega) (by omega)
            · simp (disch := omega) only [zI_lt, zI_le, zI_eq, zI_lt0, zI_le0, zI_0lt, zI_0le, zI_eq0] at c66
              refine v_run 6 (pc' := 26) (ls' := [some (.ref (ad 0)), some (.int (zI ↑(sGood σ))), some (.int (zI ↑(swN σ s))), some (.int (zI ↑s)), some (.int ((zI ↑s) + zI 1)), some (.int (zI ↑(swN σ s)))]) (st' := []) rfl ?_
              refine v_drop 5 (ls' := [some (.ref (ad 0)), some (.int (zI ↑(sGood σ))), some (.int (zI ↑(swN σ s))), some (.int (zI ↑s)), some (.int ((zI ↑s) + zI 1)), none]) rfl ?_
              rw [zI_s1]
              have q := ih (s + 1) (by omega) (by omega); rw [stA_t σ s (by omega), show sSw σ s = ↑(swN σ s) from q5] at q; exact q
          · simp (disch := omega) only [zI_lt, zI_le, zI_eq, zI_lt0, zI_le0, zI_0lt, zI_0le, zI_eq0] at c44
            have q5 : sSw σ s = -1 := by rw [sSw, if_pos (by omega)]
            refine v_run 5 (pc' := 66) (ls' := [some (.ref (ad 0)), some (.int (zI ↑(sGood σ))), some (.int (zI (stA σ s).2)), some (.int (zI (stA σ s).1)), some (.int (zI ↑s)), some (.int (zI (-1)))]) (st' := [.int (zI (stA σ s).2), .int (zI (-1))]) rfl ?_
            refine v_icmp_le rfl (fun c66 => ?_) (fun c66 => ?_)
            · simp (disch := omega) only [zI_lt, zI_le, zI_eq, zI_lt0, zI_le0, zI_0lt, zI_0le, zI_eq0] at c66
              refine v_run 2 (pc' := 26) (ls' := [some (.ref (ad 0)), some (.int (zI ↑(sGood σ))), some (.int (zI (stA σ s).2)), some (.int (zI (stA σ s).1)), some (.int ((zI ↑s) + zI 1)), some (.int (zI (-1)))]) (st' := []) rfl ?_
              refine v_drop 5 (ls' := [some (.ref (ad 0)), some (.int (zI ↑(sGood σ))), some (.int (zI (stA σ s).2)), some (.int (zI (stA σ s).1)), some (.int ((zI ↑s) + zI 1)), none]) rfl ?_
              rw [zI_s1, ← stA_f σ s (by omega)]
              exact ih (s + 1) (by omega) (by omega)
            · simp (disch := omega) only [zI_lt, zI_le, zI_eq, zI_lt0, zI_le0, zI_0lt, zI_0le, zI_eq0] at c66
              refine v_run 6 (pc' := 26) (ls' := [some (.ref (ad 0)), some (.int (zI ↑(sGood σ))), some (.int (zI (-1))), some (.int (zI ↑s)), some (.int ((zI ↑s) + zI 1)), some (.int (zI (-1)))]) (st' := []) rfl ?_
              refine v_drop 5 (ls' := [some (.ref (ad 0)), some (.int (zI ↑(sGood σ))), some (.int (zI (-1))), some (.int (zI ↑s)), some (.int ((zI ↑s) + zI 1)), none]) rfl ?_
              rw [zI_s1]
              have q := ih (s + 1) (by omega) (by omega); rw [stA_t σ s (by omega), show sSw σ s = -1 from q5] at q; exact q
    exact lp (σ 1 5 0 + 1) 0 (by omega) (by omega)
  · rw [zb_0, Bool.not_eq_false, decide_eq_true_eq] at c4
    refine v_run 2 (pc' := 9) (ls' := [some (.ref (ad 0)), none, none, none, none, none]) (st' := [.int (zI 1), .ref (ad 0)]) rfl ?_
    refine v_callV (My := mX8_refuse) (As := [.int (zI 1)]) (rest := []) (mc := 0) (ms := 0) rfl caX8_refuse rfl rfl rfl hc.2.1 rfl rfl (k_refuse G _ 1 hA hc hok) rfl rfl (Nat.le_of_ble_eq_true rfl) (by omega) ?_
    rintro _ h9 ⟨rfl, hc9, hf9⟩
    refine v_run 0 (pc' := 12) (ls' := [some (.ref (ad 0)), none, none, none, none, none]) (st' := [.int (zI (-1))]) rfl ?_
    rw [show aStrongest σ = (-1, 1) from if_pos c4]
    exact v_iret rfl rfl rfl ⟨rfl, hc9, hf9⟩

