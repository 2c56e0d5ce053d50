def cLoss (heat air kd dy n : Nat) : Nat := if kd = 1 then (if dy % 2 = 0 then n + 1 else n) / 2 else n * (if kd = 2 then max 1 (heat - air) / 2 else max 1 (heat - air))
theorem mx_loss {a b : Nat} (ha : a ≤ 9) (hb : b ≤ 9) : (if zI 1 < zI ↑a - zI ↑b then zI ↑a - zI ↑b else zI 1 : Int32) = zI ↑(max 1 (a - b)) := by
  rw [zI_sub]
  split
  · rename_i c
    rw [zI_lt (by omega) (by omega) (by omega) (by omega)] at c
    congr 1; omega
  · rename_i c
    rw [zI_lt (by omega) (by omega) (by omega) (by omega)] at c
    congr 1; omega
set_option maxRecDepth 100000 in
set_option maxHeartbeats 400000 in
theorem k_airAt (G : ssG) (h : ssH) {p : Nat} {i R : Nat → Nat} {d : Int} {A : Nat → Nat → Nat} (k : Nat) (hp : PlanAt h p i R d A) (hi : PlanOk i A) (hk : k < 6) : ssC G mX4_airAt 0 0 0 [.ref p, .int (zI ↑k)] h (rI (zI ↑(A 4 k)) h) := by
  refine c_of_v okX4_airAt (by decide +kernel) (ls := [some (.ref p), some (.int (zI ↑k))]) rfl (Nat.le_of_ble_eq_true rfl) ?_
  obtain ⟨i0, i1, i2, i3, i5, i7, a4, a6, a8, a9, a10, i11, i12, i14, i15⟩ := id hi
  refine v_run 1 (pc' := 1) (ls' := [some (.ref p), some (.int (zI ↑k))]) (st' := [.int (zI ↑k)]) rfl ?_
  refine v_if_lt rfl (fun c1 => ?_) (fun c1 => ?_)
  · exfalso; revert c1; simp (disch := omega) only [zI_lt, zI_le, zI_eq, zI_lt0, zI_le0, zI_0lt, zI_0le, zI_eq0] <;> omega
  · refine v_run 2 (pc' := 7) (ls' := [some (.ref p), some (.int (zI ↑k))]) (st' := [.int (zI 6), .int (zI ↑k)]) rfl ?_
    refine v_icmp_ge rfl (fun c7 => ?_) (fun c7 => ?_)
    · exfalso; revert c7; simp (disch := omega) only [zI_lt, zI_le, zI_eq, zI_lt0, zI_le0, zI_0lt, zI_0le, zI_eq0] <;> omega
    · refine v_run 1 (pc' := 11) (ls' := [some (.ref p), some (.int (zI ↑k))]) (st' := [.ref p]) rfl ?_
      refine v_get rfl hp.1 rfl ?_
      refine v_run 1 (pc' := 15) (ls' := [some (.ref p), some (.int (zI ↑k))]) (st' := [.int (zI ↑k), .ref (R 4)]) rfl ?_
      refine v_iaload' rfl hp.2.1 (i := k) rfl (by omega) ?_
      refine v_run 1 (pc' := 20) (ls' := [some (.ref p), some (.int (zI ↑k))]) (st' := [.int ((fun j => zI ↑(A 4 j)) k)]) rfl ?_
      exact v_iret rfl rfl rfl ⟨rfl, rfl⟩

set_option maxRecDepth 100000 in
set_option maxHeartbeats 400000 in
theorem k_votesOf (G : ssG) (h : ssH) {p : Nat} {i R : Nat → Nat} {d : Int} {A : Nat → Nat → Nat} (m : Nat) (hp : PlanAt h p i R d A) (hi : PlanOk i A) (hm : m < 64) : ssC G mX4_votesOf 0 0 0 [.ref p, .int (zI ↑m)] h (rI (zI ↑(sumN (fun s => A 6 s * (m / 2 ^ s % 2)) (i 5))) h) := by
  refine c_of_v okX4_votesOf (by decide +kernel) (ls := [some (.ref p), some (.int (zI ↑m)), none, none]) rfl (Nat.le_of_ble_eq_true rfl) ?_
  obtain ⟨i0, i1, i2, i3, i5, i7, a4, a6, a8, a9, a10, i11, i12, i14, i15⟩ := id hi
  refine v_run 4 (pc' := 4) (ls' := [some (.ref p), some (.int (zI ↑m)), some (.int (zI 0)), some (.int (zI 0))]) (st' := []) rfl ?_
  have lp : ∀ (n s : Nat), s ≤ i 5 → i 5 + 1 ≤ s + n → ssV G mX4_votesOf 0 0 0 (rI (zI ↑(sumN (fun s => A 6 s * (m / 2 ^ s % 2)) (i 5))) h) 4 [some (.ref p), some (.int (zI ↑m)), some (.int (zI ↑(sumN (fun s => A 6 s * (m / 2 ^ s % 2)) s))), some (.int (zI ↑s))] [] h := by
    intro n
    induction n with
    | zero => intro s hs1 hs2; exact absurd hs2 (by omega)
    | succ n ih =>
      intro s hs1 hs2
      refine v_run 2 (pc' := 6) (ls' := [some (.ref p), some (.int (zI ↑m)), some (.int (zI ↑(sumN (fun s => A 6 s * (m / 2 ^ s % 2)) s))), some (.int (zI ↑s))]) (st' := [.ref p, .int (zI ↑s)]) rfl ?_
      refine v_get rfl hp.1 rfl ?_
      refine v_icmp_ge rfl (fun c9 => ?_) (fun c9 => ?_)
      · simp (disch := omega) only [zI_lt, zI_le, zI_eq, zI_lt0, zI_le0, zI_0lt, zI_0le, zI_eq0] at c9
        refine v_run 1 (pc' := 40) (ls' := [some (.ref p), some (.int (zI ↑m)), some (.int (zI ↑(sumN (fun s => A 6 s * (m / 2 ^ s % 2)) s))), some (.int (zI ↑s))]) (st' := [.int (zI ↑(sumN (fun s => A 6 s * (m / 2 ^ s % 2)) s))]) rfl ?_
        exact v_iret rfl rfl rfl ⟨by rw [show s = i 5 by omega], rfl⟩
      · simp (disch := omega) only [zI_lt, zI_le, zI_eq, zI_lt0, zI_le0, zI_0lt, zI_0le, zI_eq0] at c9
        refine v_run 2 (pc' := 15) (ls' := [some (.ref p), some (.int (zI ↑m)), some (.int (zI ↑(sumN (fun s => A 6 s * (m / 2 ^ s % 2)) s))), some (.int (zI ↑s))]) (st' := [.int (zI 6), .int (zI ↑s)]) rfl ?_
        refine v_icmp_ge rfl (fun c15 => ?_) (fun c15 => ?_)
        · exfalso; revert c15; simp (disch := omega) only [zI_lt, zI_le, zI_eq, zI_lt0, zI_le0, zI_0lt, zI_0le, zI_eq0] <;> omega
        · refine v_run 2 (pc' := 20) (ls' := [some (.ref p), some (.int (zI ↑m)), some (.int (zI ↑(sumN (fun s => A 6 s * (m / 2 ^ s % 2)) s))), some (.int (zI ↑s))]) (st' := [.ref p, .int (zI ↑(sumN (fun s => A 6 s * (m / 2 ^ s % 2)) s))]) rfl ?_
          refine v_get rfl hp.1 rfl ?_
          refine v_run 1 (pc' := 24) (ls' := [some (.ref p), some (.int (zI ↑m)), some (.int (zI ↑(sumN (fun s => A 6 s * (m / 2 ^ s % 2)) s))), some (.int (zI ↑s))]) (st' := [.int (zI ↑s), .ref (R 6), .int (zI ↑(sumN (fun s => A 6 s * (m / 2 ^ s % 2)) s))]) rfl ?_
          refine v_iaload' rfl hp.2.2.1 (i := s) rfl (by omega) ?_
          refine v_run 10 (pc' := 4) (ls' := [some (.ref p), some (.int (zI ↑m)), some (.int ((zI ↑(sumN (fun s => A 6 s * (m / 2 ^ s % 2)) s)) + (((fun j => zI ↑(A 6 j)) s) * (((zI ↑m) >>> ((zI ↑s) &&& 31)) &&& (zI 1))))), some (.int ((zI ↑s) + zI 1))]) (st' := []) rfl ?_
          have q1 := a6 s
          rw [zI_bit (by omega) (by omega), zN_mul, zN_add, zI_s1]
          exact ih (s + 1) (by omega) (by omega)
  exact lp (i 5 + 1) 0 (by omega) (by omega)

set_option maxRecDepth 100000 in
set_option maxHeartbeats 400000 in
theorem k_lossOver (G : ssG) (h : ssH) {p : Nat} {i R : Nat → Nat} {d : Int} {A : Nat → Nat → Nat} (kd k dy n : Nat) (hp : PlanAt h p i R d A) (hi : PlanOk i A) (hk : k < 6) (hkd : kd ≤ 2) (hdy : dy ≤ 1000) (hn : n ≤ 1000) : ssC G mX4_lossOver 1 0 0 [.ref p, .int (zI ↑kd), .int (zI ↑k), .int (zI ↑dy), .int (zI ↑n)] h (rI (zI ↑(cLoss (i 1) (A 4 k) kd dy n)) h) := by
  refine c_of_v okX4_lossOver (by decide +kernel) (ls := [some (.ref p), some (.int (zI ↑kd)), some (.int (zI ↑k)), some (.int (zI ↑dy)), some (.int (zI ↑n)), none]) rfl (Nat.le_of_ble_eq_true rfl) ?_
  obtain ⟨i0, i1, i2, i3, i5, i7, a4, a6, a8, a9, a10, i11, i12, i14, i15⟩ := id hi
  refine v_run 2 (pc' := 2) (ls' := [some (.ref p), some (.int (zI ↑kd)), some (.int (zI ↑k)), some (.int (zI ↑dy)), some (.int (zI ↑n)), none]) (st' := [.int (zI 1), .int (zI ↑kd)]) rfl ?_
  refine v_icmp_ne rfl (fun c2 => ?_) (fun c2 => ?_)
  · simp (disch := omega) only [zI_lt, zI_le, zI_eq, zI_lt0, zI_le0, zI_0lt, zI_0le, zI_eq0] at c2
    refine v_run 2 (pc' := 37) (ls' := [some (.ref p), some (.int (zI ↑kd)), some (.int (zI ↑k)), some (.int (zI ↑dy)), some (.int (zI ↑n)), none]) (st' := [.ref p, .int (zI 1)]) rfl ?_
    refine v_get rfl hp.1 rfl ?_
    refine v_run 2 (pc' := 42) (ls' := [some (.ref p), some (.int (zI ↑kd)), some (.int (zI ↑k)), some (.int (zI ↑dy)), some (.int (zI ↑n)), none]) (st' := [.int (zI ↑k), .ref p, .int (zI ↑(i 1)), .int (zI 1)]) rfl ?_
    refine v_callV (My := mX4_airAt) (As := [.int (zI ↑k)]) (rest := [.int (zI ↑(i 1)), .int (zI 1)]) (mc := 0) (ms := 0) rfl caX4_airAt rfl rfl rfl hp.1 rfl rfl (k_airAt G h k hp hi hk) rfl rfl (Nat.le_of_ble_eq_true rfl) (by omega) ?_
    rintro _ _ ⟨rfl, rfl⟩
    refine v_run 0 (pc' := 45) (ls' := [some (.ref p), some (.int (zI ↑kd)), some (.int (zI ↑k)), some (.int (zI ↑dy)), some (.int (zI ↑n)), none]) (st' := [.int (zI ↑(A 4 k)), .int (zI ↑(i 1)), .int (zI 1)]) rfl ?_
    refine v_run 1 (pc' := 46) (ls' := [some (.ref p), some (.int (zI ↑kd)), some (.int (zI ↑k)), some (.int (zI ↑dy)), some (.int (zI ↑n)), none]) (st' := [.int ((zI ↑(i 1)) - (zI ↑(A 4 k))), .int (zI 1)]) rfl ?_
    refine v_max rfl rfl (by omega) (Nat.le_of_ble_eq_true rfl) ?_
    rw [show ((if (zI 1) < ((zI ↑(i 1)) - (zI ↑(A 4 k))) then ((zI ↑(i 1)) - (zI ↑(A 4 k))) else (zI 1)) : Int32) = zI ↑(max 1 (i 1 - A 4 k)) from (mx_loss (i1) (a4 k))]
    refine v_run 4 (pc' := 55) (ls' := [some (.ref p), some (.int (zI ↑kd)), some (.int (zI ↑k)), some (.int (zI ↑dy)), some (.int (zI ↑n)), some (.int (zI ↑(max 1 (i 1 - A 4 k))))]) (st' := [.int (zI 2), .int (zI ↑kd), .int (zI ↑n)]) rfl ?_
    refine v_icmp_ne rfl (fun c55 => ?_) (fun c55 => ?_)
    · simp (disch := omega) only [zI_lt, zI_le, zI_eq, zI_lt0, zI_le0, zI_0lt, zI_0le, zI_eq0] at c55
      refine v_run 2 (pc' := 68) (ls' := [some (.ref p), some (.int (zI ↑kd)), some (.int (zI ↑k)), some (.int (zI ↑dy)), some (.int (zI ↑n)), some (.int (zI ↑(max 1 (i 1 - A 4 k))))]) (st' := [.int ((zI ↑n) * (zI ↑(max 1 (i 1 - A 4 k))))]) rfl ?_
      exact v_iret rfl rfl rfl ⟨by rw [zN_mul, cLoss, if_neg (by omega), if_neg (by omega)], rfl⟩
    · simp (disch := omega) only [zI_lt, zI_le, zI_eq, zI_lt0, zI_le0, zI_0lt, zI_0le, zI_eq0] at c55
      refine v_run 2 (pc' := 61) (ls' := [some (.ref p), some (.int (zI ↑kd)), some (.int (zI ↑k)), some (.int (zI ↑dy)), some (.int (zI ↑n)), some (.int (zI ↑(max 1 (i 1 - A 4 k))))]) (st' := [.int (zI 2), .int (zI ↑(max 1 (i 1 - A 4 k))), .int (zI ↑n)]) rfl ?_
      refine v_idiv rfl (zI_ne0 (by decide) (by decide)) ?_
      refine v_run 2 (pc' := 68) (ls' := [some (.ref p), some (.int (zI ↑kd)), some (.int (zI ↑k)), some (.int (zI ↑dy)), some (.int (zI ↑n)), some (.int (zI ↑(max 1 (i 1 - A 4 k))))]) (st' := [.int ((zI ↑n) * (zI ↑(max 1 (i 1 - A 4 k)) / zI 2))]) rfl ?_
      exact v_iret rfl rfl rfl ⟨by have q := a4 k; rw [show (zI 2) = zI ((2 : Nat) : Int) from rfl, zN_div (by omega) (by omega) (by omega), zN_mul, cLoss, if_neg (by omega), if_pos (by omega)], rfl⟩
  · simp (disch := omega) only [zI_lt, zI_le, zI_eq, zI_lt0, zI_le0, zI_0lt, zI_0le, zI_eq0] at c2
    refine v_run 2 (pc' := 7) (ls' := [some (.ref p), some (.int (zI ↑kd)), some (.int (zI ↑k)), some (.int (zI ↑dy)), some (.int (zI ↑n)), none]) (st' := [.int (zI 2), .int (zI ↑dy)]) rfl ?_
    refine v_irem rfl (zI_ne0 (by decide) (by decide)) ?_
    rw [show ((zI ↑dy - zI ↑dy / zI 2 * zI 2) : Int32) = zI ↑(dy % 2) from by rw [show (zI 2) = zI ((2 : Nat) : Int) from rfl, zN_rem (by omega) (by omega) (by omega)]]
    refine v_if_ne rfl (fun c8 => ?_) (fun c8 => ?_)
    · simp (disch := omega) only [zI_lt, zI_le, zI_eq, zI_lt0, zI_le0, zI_0lt, zI_0le, zI_eq0] at c8
      refine v_run 3 (pc' := 20) (ls' := [some (.ref p), some (.int (zI ↑kd)), some (.int (zI ↑k)), some (.int (zI ↑dy)), some (.int (zI ↑n)), some (.int (zI 0))]) (st' := [.int (zI 0)]) rfl ?_
      refine v_if_eq rfl (fun c20 => ?_) (fun c20 => ?_)
      · refine v_run 2 (pc' := 33) (ls' := [some (.ref p), some (.int (zI ↑kd)), some (.int (zI ↑k)), some (.int (zI ↑dy)), some (.int (zI ↑n)), some (.int (zI 0))]) (st' := [.int (zI 2), .int (zI ↑n)]) rfl ?_
        refine v_idiv rfl (zI_ne0 (by decide) (by decide)) ?_
        exact v_iret rfl rfl rfl ⟨by rw [show (zI 2) = zI ((2 : Nat) : Int) from rfl, zN_div (by omega) (by omega) (by omega), cLoss, if_pos (by omega), if_neg (by omega)], rfl⟩
      · exact absurd zI_0.symm c20
    · simp (disch := omega) only [zI_lt, zI_le, zI_eq, zI_lt0, zI_le0, zI_0lt, zI_0le, zI_eq0] at c8
      refine v_run 4 (pc' := 20) (ls' := [some (.ref p), some (.int (zI ↑kd)), some (.int (zI ↑k)), some (.int (zI ↑dy)), some (.int (zI ↑n)), some (.int (zI 1))]) (st' := [.int (zI 1)]) rfl ?_
      refine v_if_eq rfl (fun c20 => ?_) (fun c20 => ?_)
      · exfalso; revert c20; simp (disch := omega) only [zI_lt, zI_le, zI_eq, zI_lt0, zI_le0, zI_0lt, zI_0le, zI_eq0] <;> omega
      · refine v_run 5 (pc' := 33) (ls' := [some (.ref p), some (.int (zI ↑kd)), some (.int (zI ↑k)), some (.int (zI ↑dy)), some (.int (zI ↑n)), some (.int (zI 1))]) (st' := [.int (zI 2), .int ((zI ↑n) + (zI 1))]) rfl ?_
        refine v_idiv rfl (zI_ne0 (by decide) (by decide)) ?_
        exact v_iret rfl rfl rfl ⟨by rw [zI_s1, show (zI 2) = zI ((2 : Nat) : Int) from rfl, zN_div (by omega) (by omega) (by omega), cLoss, if_pos (by omega), if_pos (by omega)], rfl⟩

