/-! ===== the model's reader ===== -/
def bY (B : Nat → Int) (n k : Nat) : Int := if k < n then B k % 256 else -1
theorem zI_and255 {b : Int} (h1 : -128 ≤ b) (h2 : b ≤ 127) : zI b &&& zI 255 = zI (b % 256) := by
  have : ∀ k : Fin 256, zI (((k.val : Nat) : Int) - 128) &&& zI 255 = zI ((((k.val : Nat) : Int) - 128) % 256) := by decide +kernel
  have h := this ⟨(b + 128).toNat, by omega⟩
  simp only at h
  rw [show (((b + 128).toNat : Nat) : Int) - 128 = b by omega] at h
  exact h
theorem bY_bd {B : Nat → Int} {n k : Nat} (hB : ∀ k, -128 ≤ B k ∧ B k ≤ 127) : -1 ≤ bY B n k ∧ bY B n k ≤ 255 := by
  have := hB k
  unfold bY; split <;> omega
theorem bY_l {B : Nat → Int} {n k : Nat} (hB : ∀ k, -128 ≤ B k ∧ B k ≤ 127) : lB (bY B n k) = (decide (k < n) && lB (B k)) := by
  have := hB k
  unfold bY lB
  by_cases h : k < n
  · rw [if_pos h, decide_eq_true h, Bool.true_and, decide_eq_decide]; omega
  · rw [if_neg h, decide_eq_false h, Bool.false_and, decide_eq_false_iff_not]; omega
theorem bY_d {B : Nat → Int} {n k : Nat} (hB : ∀ k, -128 ≤ B k ∧ B k ≤ 127) : dB (bY B n k) = (decide (k < n) && dB (B k)) := by
  have := hB k
  unfold bY dB
  by_cases h : k < n
  · rw [if_pos h, decide_eq_true h, Bool.true_and, decide_eq_decide]; omega
  · rw [if_neg h, decide_eq_false h, Bool.false_and, decide_eq_false_iff_not]; omega
theorem bY_v {B : Nat → Int} {n k : Nat} (h : k < n) (h0 : 0 ≤ B k) (h1 : B k ≤ 127) : bY B n k = B k := by unfold bY; rw [if_pos h]; omega
theorem bY_eq {B : Nat → Int} {n k : Nat} (hB : ∀ k, -128 ≤ B k ∧ B k ≤ 127) {c : Int} (hc : 0 ≤ c ∧ c ≤ 127) : bY B n k = c ↔ k < n ∧ B k = c := by
  have := hB k
  unfold bY
  by_cases h : k < n
  · rw [if_pos h]; omega
  · rw [if_neg h]; omega
theorem bY_m1 {B : Nat → Int} {n k : Nat} (hB : ∀ k, -128 ≤ B k ∧ B k ≤ 127) : bY B n k = -1 ↔ n ≤ k := by
  have := hB k
  unfold bY
  by_cases h : k < n
  · rw [if_pos h]; omega
  · rw [if_neg h]; omega
theorem mU_same {m : Nat → Int} {k : Nat} : mU m k (m k) = m := by funext j; simp only [mU]; split; (rename_i q; rw [q]); rfl
set_option maxRecDepth 100000 in
set_option maxHeartbeats 400000 in
theorem g_isLetter (G : ssG) (h : ssH) (x : Int) (hx : -2147483648 ≤ x ∧ x < 2147483648) : ssC G mX10_isLetter 0 0 0 [.int (zI x)] h (rI (zb (lB x)) h) := by
  refine c_of_v okX10_isLetter (by decide +kernel) (ls := [some (.int (zI x))]) rfl (Nat.le_of_ble_eq_true rfl) ?_
  refine v_run 2 (pc' := 3) (ls' := [some (.int (zI x))]) (st' := [.int (zI 97), .int (zI x)]) rfl ?_
  refine v_icmp_lt rfl (fun c3 => ?_) (fun c3 => ?_)
  · simp (disch := omega) only [zI_lt, zI_le, zI_eq, zI_lt0, zI_le0, zI_0lt, zI_0le, zI_eq0] at c3
    refine v_run 1 (pc' := 17) (ls' := [some (.int (zI x))]) (st' := [.int (zI 0)]) rfl ?_
    exact v_iret rfl rfl rfl ⟨by rw [zb, if_neg (by simp [lB]; omega)], rfl⟩
  · simp (disch := omega) only [zI_lt, zI_le, zI_eq, zI_lt0, zI_le0, zI_0lt, zI_0le, zI_eq0] at c3
    refine v_run 2 (pc' := 9) (ls' := [some (.int (zI x))]) (st' := [.int (zI 122), .int (zI x)]) rfl ?_
    refine v_icmp_gt rfl (fun c9 => ?_) (fun c9 => ?_)
    · simp (disch := omega) only [zI_lt, zI_le, zI_eq, zI_lt0, zI_le0, zI_0lt, zI_0le, zI_eq0] at c9
      refine v_run 1 (pc' := 17) (ls' := [some (.int (zI x))]) (st' := [.int (zI 0)]) rfl ?_
      exact v_iret rfl rfl rfl ⟨by rw [zb, if_neg (by simp [lB]; omega)], rfl⟩
    · simp (disch := omega) only [zI_lt, zI_le, zI_eq, zI_lt0, zI_le0, zI_0lt, zI_0le, zI_eq0] at c9
      refine v_run 2 (pc' := 17) (ls' := [some (.int (zI x))]) (st' := [.int (zI 1)]) rfl ?_
      exact v_iret rfl rfl rfl ⟨by rw [zb, if_pos (by simp [lB]; omega)], rfl⟩

set_option maxRecDepth 100000 in
set_option maxHeartbeats 400000 in
theorem g_isDigit (G : ssG) (h : ssH) (x : Int) (hx : -2147483648 ≤ x ∧ x < 2147483648) : ssC G mX10_isDigit 0 0 0 [.int (zI x)] h (rI (zb (dB x)) h) := by
  refine c_of_v okX10_isDigit (by decide +kernel) (ls := [some (.int (zI x))]) rfl (Nat.le_of_ble_eq_true rfl) ?_
  refine v_run 2 (pc' := 3) (ls' := [some (.int (zI x))]) (st' := [.int (zI 48), .int (zI x)]) rfl ?_
  refine v_icmp_lt rfl (fun c3 => ?_) (fun c3 => ?_)
  · simp (disch := omega) only [zI_lt, zI_le, zI_eq, zI_lt0, zI_le0, zI_0lt, zI_0le, zI_eq0] at c3
    refine v_run 1 (pc' := 17) (ls' := [some (.int (zI x))]) (st' := [.int (zI 0)]) rfl ?_
    exact v_iret rfl rfl rfl ⟨by rw [zb, if_neg (by simp [dB]; omega)], rfl⟩
  · simp (disch := omega) only [zI_lt, zI_le, zI_eq, zI_lt0, zI_le0, zI_0lt, zI_0le, zI_eq0] at c3
    refine v_run 2 (pc' := 9) (ls' := [some (.int (zI x))]) (st' := [.int (zI 57), .int (zI x)]) rfl ?_
    refine v_icmp_gt rfl (fun c9 => ?_) (fun c9 => ?_)
    · simp (disch := omega) only [zI_lt, zI_le, zI_eq, zI_lt0, zI_le0, zI_0lt, zI_0le, zI_eq0] at c9
      refine v_run 1 (pc' := 17) (ls' := [some (.int (zI x))]) (st' := [.int (zI 0)]) rfl ?_
      exact v_iret rfl rfl rfl ⟨by rw [zb, if_neg (by simp [dB]; omega)], rfl⟩
    · simp (disch := omega) only [zI_lt, zI_le, zI_eq, zI_lt0, zI_le0, zI_0lt, zI_0le, zI_eq0] at c9
      refine v_run 2 (pc' := 17) (ls' := [some (.int (zI x))]) (st' := [.int (zI 1)]) rfl ?_
      exact v_iret rfl rfl rfl ⟨by rw [zb, if_pos (by simp [dB]; omega)], rfl⟩

set_option maxRecDepth 100000 in
set_option maxHeartbeats 400000 in
theorem g_byteAt (G : ssG) (h : ssH) {ad : Nat → Nat} {sv : Value} {m : Nat → Int} {B : Nat → Int} {n : Nat} {k : Nat} (hA : ∀ k l, ad k = ad l → k = l) (ho : h (ad 200) = some (.inr (10, obM ad sv (.ref (ad 230)) m))) (hta : h (ad 201) = some (arB 900 B)) (hB : ∀ k, -128 ≤ B k ∧ B k ≤ 127) (hn : n ≤ 900) (h7 : m 7 = ↑n) (hk : k ≤ 900) : ssC G mX10_byteAt 0 0 0 [.ref (ad 200), .int (zI ↑k)] h (rI (zI (bY B n k)) h) := by
  refine c_of_v okX10_byteAt (by decide +kernel) (ls := [some (.ref (ad 200)), some (.int (zI ↑k))]) rfl (Nat.le_of_ble_eq_true rfl) ?_
  rw [show obM ad sv (.ref (ad 230)) m = obM ad sv (.ref (ad 230)) (mU m 7 ↑n) from by rw [← h7, mU_same]] at ho
  refine v_run 2 (pc' := 2) (ls' := [some (.ref (ad 200)), some (.int (zI ↑k))]) (st' := [.ref (ad 200), .int (zI ↑k)]) rfl ?_
  refine v_get rfl ho rfl ?_
  refine v_run 0 (pc' := 5) (ls' := [some (.ref (ad 200)), some (.int (zI ↑k))]) (st' := [.int (zI ↑n), .int (zI ↑k)]) rfl ?_
  refine v_icmp_ge rfl (fun c5 => ?_) (fun c5 => ?_)
  · simp (disch := omega) only [zI_lt, zI_le, zI_eq, zI_lt0, zI_le0, zI_0lt, zI_0le, zI_eq0] at c5
    refine v_run 1 (pc' := 22) (ls' := [some (.ref (ad 200)), some (.int (zI ↑k))]) (st' := [.int (zI (-1))]) rfl ?_
    exact v_iret rfl rfl rfl ⟨by unfold bY; rw [if_neg (by omega)], rfl⟩
  · simp (disch := omega) only [zI_lt, zI_le, zI_eq, zI_lt0, zI_le0, zI_0lt, zI_0le, zI_eq0] at c5
    have hb := hB k
    refine v_run 1 (pc' := 9) (ls' := [some (.ref (ad 200)), some (.int (zI ↑k))]) (st' := [.ref (ad 200)]) rfl ?_
    refine v_get rfl ho rfl ?_
    refine v_run 1 (pc' := 13) (ls' := [some (.ref (ad 200)), some (.int (zI ↑k))]) (st' := [.int (zI ↑k), .ref (ad 201)]) rfl ?_
    refine v_baload' rfl hta (i := k) rfl (by omega) ?_
    refine v_run 2 (pc' := 18) (ls' := [some (.ref (ad 200)), some (.int (zI ↑k))]) (st' := [.int ((zI (B k)) &&& (zI 255))]) rfl ?_
    rw [show (((zI (B k)) &&& (zI 255)) : Int32) = zI (B k % 256) from zI_and255 (by omega) (by omega)]
    refine v_run 1 (pc' := 22) (ls' := [some (.ref (ad 200)), some (.int (zI ↑k))]) (st' := [.int (zI (B k % 256))]) rfl ?_
    exact v_iret rfl rfl rfl ⟨by unfold bY; rw [if_pos (by omega)], rfl⟩

