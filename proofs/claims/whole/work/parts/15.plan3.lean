def cLead (v : Nat → Nat) (f sc m : Nat) : Int := ↑(sumN (fun s => v s * ((m &&& f) / 2 ^ s % 2)) sc) - ↑(sumN (fun s => v s * (andn m f / 2 ^ s % 2)) sc)
theorem zI_1shl {k : Nat} (hk : k < 31) : zI 1 <<< (zI (k : Int) &&& 31) = zI ((2 ^ k : Nat) : Int) := by
  have h1 : 2 ^ k ≤ 2 ^ 30 := Nat.pow_le_pow_right (n := 2) (by decide) (by omega)
  have := zI_shl (a := 1) (k := k) hk (by omega)
  rw [Nat.one_mul] at this
  exact this
/-- who hangs at a hook: the first, or -2 -/
def cWhoG (f : Nat → Nat) (k : Nat) : Nat → Nat → Int
  | 0, _ => -2
  | n + 1, s => if f s = k then (s : Int) else cWhoG f k n (s + 1)
def cWho (f : Nat → Nat) (k sc : Nat) : Int := cWhoG f k sc 0
set_option maxRecDepth 100000 in
set_option maxHeartbeats 400000 in
theorem k_seedBehind (G : ssG) (h : ssH) (x : Nat) (hx : x ≤ 65536) : ssC G mX4_seedBehind 0 0 0 [.int (zI ↑x)] h (rI (zI ↑((75 * x + 74) % 65537)) h) := by
  refine c_of_v okX4_seedBehind (by decide +kernel) (ls := [some (.int (zI ↑x))]) rfl (Nat.le_of_ble_eq_true rfl) ?_
  refine v_run 6 (pc' := 9) (ls' := [some (.int (zI ↑x))]) (st' := [.int (zI 65537), .int (((zI 75) * (zI ↑x)) + (zI 74))]) rfl ?_
  refine v_irem rfl (zI_ne0 (by decide) (by decide)) ?_
  exact v_iret rfl rfl rfl ⟨by rw [show zI 75 = zI ((75 : Nat) : Int) from rfl, show zI 74 = zI ((74 : Nat) : Int) from rfl, show zI 65537 = zI ((65537 : Nat) : Int) from rfl, zN_mul, zN_add, zN_rem (by omega) (by omega) (by omega)], rfl⟩

set_option maxRecDepth 100000 in
set_option maxHeartbeats 400000 in
theorem k_isThunder (G : ssG) (h : ssH) {p : Nat} {i R : Nat → Nat} {d : Int} {A : Nat → Nat → Nat} (x : Nat) (hp : PlanAt h p i R d A) (hi : PlanOk i A) (hx : x ≤ 65536) : ssC G mX4_isThunder 0 0 0 [.ref p, .int (zI ↑x)] h (rI (zb (decide (x % 100 < i 2))) h) := by
  refine c_of_v okX4_isThunder (by decide +kernel) (ls := [some (.ref p), some (.int (zI ↑x))]) rfl (Nat.le_of_ble_eq_true rfl) ?_
  obtain ⟨i0, i1, i2, i3, i5, i7, a4, a6, a8, a9, a10, i11, i12, i14, i15⟩ := id hi
  refine v_run 2 (pc' := 3) (ls' := [some (.ref p), some (.int (zI ↑x))]) (st' := [.int (zI 100), .int (zI ↑x)]) rfl ?_
  refine v_irem rfl (zI_ne0 (by decide) (by decide)) ?_
  rw [show ((zI ↑x - zI ↑x / zI 100 * zI 100) : Int32) = zI ↑(x % 100) from by rw [show zI 100 = zI ((100 : Nat) : Int) from rfl, zN_rem (by omega) (by omega) (by omega)]]
  refine v_run 1 (pc' := 5) (ls' := [some (.ref p), some (.int (zI ↑x))]) (st' := [.ref p, .int (zI ↑(x % 100))]) rfl ?_
  refine v_get rfl hp.1 rfl ?_
  refine v_icmp_ge rfl (fun c8 => ?_) (fun c8 => ?_)
  · simp (disch := omega) only [zI_lt, zI_le, zI_eq, zI_lt0, zI_le0, zI_0lt, zI_0le, zI_eq0] at c8
    refine v_run 1 (pc' := 16) (ls' := [some (.ref p), some (.int (zI ↑x))]) (st' := [.int (zI 0)]) rfl ?_
    exact v_iret rfl rfl rfl ⟨by rw [zb, if_neg (by simp; omega)], rfl⟩
  · simp (disch := omega) only [zI_lt, zI_le, zI_eq, zI_lt0, zI_le0, zI_0lt, zI_0le, zI_eq0] at c8
    refine v_run 2 (pc' := 16) (ls' := [some (.ref p), some (.int (zI ↑x))]) (st' := [.int (zI 1)]) rfl ?_
    exact v_iret rfl rfl rfl ⟨by rw [zb, if_pos (by simp; omega)], rfl⟩

set_option maxRecDepth 100000 in
set_option maxHeartbeats 400000 in
theorem k_thundersDrawn (G : ssG) (h : ssH) {p : Nat} {i R : Nat → Nat} {d : Int} {A : Nat → Nat → Nat} (sd n : Nat) (hp : PlanAt h p i R d A) (hi : PlanOk i A) (hsd : sd ≤ 65536) (hn : n ≤ 1000) : ssC G mX4_thundersDrawn 1 0 0 [.ref p, .int (zI ↑sd), .int (zI ↑n)] h (rI (zI ↑(sumN (fun k => if cDraw sd (k + 1) % 100 < i 2 then 1 else 0) n)) h) := by
  refine c_of_v okX4_thundersDrawn (by decide +kernel) (ls := [some (.ref p), some (.int (zI ↑sd)), some (.int (zI ↑n)), none, none, none]) rfl (Nat.le_of_ble_eq_true rfl) ?_
  obtain ⟨i0, i1, i2, i3, i5, i7, a4, a6, a8, a9, a10, i11, i12, i14, i15⟩ := id hi
  refine v_run 6 (pc' := 8) (ls' := [some (.ref p), some (.int (zI ↑sd)), some (.int (zI ↑n)), some (.int (zI 0)), some (.int (zI ↑sd)), some (.int (zI 0))]) (st' := []) rfl ?_
  have lp : ∀ (m s : Nat), s ≤ n → n + 1 ≤ s + m → ssV G mX4_thundersDrawn 1 0 0 (rI (zI ↑(sumN (fun k => if cDraw sd (k + 1) % 100 < i 2 then 1 else 0) n)) h) 8 [some (.ref p), some (.int (zI ↑sd)), some (.int (zI ↑n)), some (.int (zI ↑(sumN (fun k => if cDraw sd (k + 1) % 100 < i 2 then 1 else 0) s))), some (.int (zI ↑(cDraw sd s))), some (.int (zI ↑s))] [] h := by
    intro m
    induction m with
    | zero => intro s hs1 hs2; exact absurd hs2 (by omega)
    | succ m ih =>
      intro s hs1 hs2
      have q0 := cDraw_le hsd s
      have q1 := cDraw_le hsd (s + 1)
      refine v_run 2 (pc' := 11) (ls' := [some (.ref p), some (.int (zI ↑sd)), some (.int (zI ↑n)), some (.int (zI ↑(sumN (fun k => if cDraw sd (k + 1) % 100 < i 2 then 1 else 0) s))), some (.int (zI ↑(cDraw sd s))), some (.int (zI ↑s))]) (st' := [.int (zI ↑n), .int (zI ↑s)]) rfl ?_
      refine v_icmp_ge rfl (fun c11 => ?_) (fun c11 => ?_)
      · simp (disch := omega) only [zI_lt, zI_le, zI_eq, zI_lt0, zI_le0, zI_0lt, zI_0le, zI_eq0] at c11
        refine v_run 1 (pc' := 40) (ls' := [some (.ref p), some (.int (zI ↑sd)), some (.int (zI ↑n)), some (.int (zI ↑(sumN (fun k => if cDraw sd (k + 1) % 100 < i 2 then 1 else 0) s))), some (.int (zI ↑(cDraw sd s))), some (.int (zI ↑s))]) (st' := [.int (zI ↑(sumN (fun k => if cDraw sd (k + 1) % 100 < i 2 then 1 else 0) s))]) rfl ?_
        exact v_iret rfl rfl rfl ⟨by rw [show s = n by omega], rfl⟩
      · simp (disch := omega) only [zI_lt, zI_le, zI_eq, zI_lt0, zI_le0, zI_0lt, zI_0le, zI_eq0] at c11
        refine v_run 1 (pc' := 16) (ls' := [some (.ref p), some (.int (zI ↑sd)), some (.int (zI ↑n)), some (.int (zI ↑(sumN (fun k => if cDraw sd (k + 1) % 100 < i 2 then 1 else 0) s))), some (.int (zI ↑(cDraw sd s))), some (.int (zI ↑s))]) (st' := [.int (zI ↑(cDraw sd s))]) rfl ?_
        refine v_callS (My := mX4_seedBehind) (As := [.int (zI ↑(cDraw sd s))]) (rest := []) (mc := 0) (ms := 0) rfl caX4_seedBehind rfl rfl (k_seedBehind G h (cDraw sd s) q0) rfl rfl (Nat.le_of_ble_eq_true rfl) (by omega) ?_
        rintro _ _ ⟨rfl, rfl⟩
        refine v_run 0 (pc' := 19) (ls' := [some (.ref p), some (.int (zI ↑sd)), some (.int (zI ↑n)), some (.int (zI ↑(sumN (fun k => if cDraw sd (k + 1) % 100 < i 2 then 1 else 0) s))), some (.int (zI ↑(cDraw sd s))), some (.int (zI ↑s))]) (st' := [.int (zI ↑(cDraw sd (s + 1)))]) rfl ?_
        refine v_run 3 (pc' := 24) (ls' := [some (.ref p), some (.int (zI ↑sd)), some (.int (zI ↑n)), some (.int (zI ↑(sumN (fun k => if cDraw sd (k + 1) % 100 < i 2 then 1 else 0) s))), some (.int (zI ↑(cDraw sd (s + 1)))), some (.int (zI ↑s))]) (st' := [.int (zI ↑(cDraw sd (s + 1))), .ref p]) rfl ?_
        refine v_callV (My := mX4_isThunder) (As := [.int (zI ↑(cDraw sd (s + 1)))]) (rest := []) (mc := 0) (ms := 0) rfl caX4_isThunder rfl rfl rfl hp.1 rfl rfl (k_isThunder G h (cDraw sd (s + 1)) hp hi q1) rfl rfl (Nat.le_of_ble_eq_true rfl) (by omega) ?_
        rintro _ _ ⟨rfl, rfl⟩
        refine v_run 0 (pc' := 27) (ls' := [some (.ref p), some (.int (zI ↑sd)), some (.int (zI ↑n)), some (.int (zI ↑(sumN (fun k => if cDraw sd (k + 1) % 100 < i 2 then 1 else 0) s))), some (.int (zI ↑(cDraw sd (s + 1)))), some (.int (zI ↑s))]) (st' := [.int (zb (decide (cDraw sd (s + 1) % 100 < i 2)))]) rfl ?_
        refine v_if_eq rfl (fun c27 => ?_) (fun c27 => ?_)
        · rw [zb_0, decide_eq_false_iff_not] at c27
          refine v_run 2 (pc' := 8) (ls' := [some (.ref p), some (.int (zI ↑sd)), some (.int (zI ↑n)), some (.int (zI ↑(sumN (fun k => if cDraw sd (k + 1) % 100 < i 2 then 1 else 0) s))), some (.int (zI ↑(cDraw sd (s + 1)))), some (.int ((zI ↑s) + zI 1))]) (st' := []) rfl ?_
          rw [show sumN (fun k => if cDraw sd (k + 1) % 100 < i 2 then 1 else 0) s = sumN (fun k => if cDraw sd (k + 1) % 100 < i 2 then 1 else 0) (s + 1) by simp only [sumN]; rw [if_neg c27]; rfl, zI_s1]
          exact ih (s + 1) (by omega) (by omega)
        · rw [zb_0, decide_eq_false_iff_not, Decidable.not_not] at c27
          refine v_run 3 (pc' := 8) (ls' := [some (.ref p), some (.int (zI ↑sd)), some (.int (zI ↑n)), some (.int ((zI ↑(sumN (fun k => if cDraw sd (k + 1) % 100 < i 2 then 1 else 0) s)) + zI 1)), some (.int (zI ↑(cDraw sd (s + 1)))), some (.int ((zI ↑s) + zI 1))]) (st' := []) rfl ?_
          rw [zI_s1, zI_s1, show sumN (fun k => if cDraw sd (k + 1) % 100 < i 2 then 1 else 0) s + 1 = sumN (fun k => if cDraw sd (k + 1) % 100 < i 2 then 1 else 0) (s + 1) by simp only [sumN]; rw [if_pos c27]]
          exact ih (s + 1) (by omega) (by omega)
  exact lp (n + 1) 0 (by omega) (by omega)

set_option maxRecDepth 100000 in
set_option maxHeartbeats 400000 in
theorem k_goodAfter (G : ssG) (h : ssH) {p : Nat} {i R : Nat → Nat} {d : Int} {A : Nat → Nat → Nat} {q : Nat} {j S : Nat → Nat} {B : Nat → Nat → Nat} (n th : Nat) (hp : PlanAt h p i R d A) (hi : PlanOk i A) (hq : MomAt h q j S B) (hj : MomOk j B) (hn : n ≤ 1000) (hth : th ≤ 1000) : ssC G mX4_goodAfter 2 0 0 [.ref p, .ref q, .int (zI ↑n), .int (zI ↑th)] h (rI (zI ↑(setN (fun s => decide (cLoss (i 1) (A 4 (B 4 s)) (B 3 s) (j 0) n + (if B 3 s = 1 then 0 else 3 * th) < B 5 s)) (i 5))) h) := by
  refine c_of_v okX4_goodAfter (by decide +kernel) (ls := [some (.ref p), some (.ref q), some (.int (zI ↑n)), some (.int (zI ↑th)), none, none, none]) rfl (Nat.le_of_ble_eq_true rfl) ?_
  obtain ⟨i0, i1, i2, i3, i5, i7, a4, a6, a8, a9, a10, i11, i12, i14, i15⟩ := id hi
  obtain ⟨j0, j1, j2, b3, b4, b5, b6⟩ := id hj
  refine v_run 4 (pc' := 6) (ls' := [some (.ref p), some (.ref q), some (.int (zI ↑n)), some (.int (zI ↑th)), some (.int (zI 0)), some (.int (zI 0)), none]) (st' := []) rfl ?_
  have lp : ∀ (m s : Nat), s ≤ i 5 → i 5 + 1 ≤ s + m → ssV G mX4_goodAfter 2 0 0 (rI (zI ↑(setN (fun s => decide (cLoss (i 1) (A 4 (B 4 s)) (B 3 s) (j 0) n + (if B 3 s = 1 then 0 else 3 * th) < B 5 s)) (i 5))) h) 6 [some (.ref p), some (.ref q), some (.int (zI ↑n)), some (.int (zI ↑th)), some (.int (zI ↑(setN (fun s => decide (cLoss (i 1) (A 4 (B 4 s)) (B 3 s) (j 0) n + (if B 3 s = 1 then 0 else 3 * th) < B 5 s)) s))), some (.int (zI ↑s)), none] [] h := by
    intro m
    induction m with
    | zero => intro s hs1 hs2; exact absurd hs2 (by omega)
    | succ m ih =>
      intro s hs1 hs2
      have q0 := b3 s
      have q1 := b4 s
      have q2 := b5 s
      have q3 := cLoss_le (heat := i 1) (air := A 4 (B 4 s)) (kd := B 3 s) (dy := j 0) (n := n) i1
      refine v_run 2 (pc' := 9) (ls' := [some (.ref p), some (.ref q), some (.int (zI ↑n)), some (.int (zI ↑th)), some (.int (zI ↑(setN (fun s => decide (cLoss (i 1) (A 4 (B 4 s)) (B 3 s) (j 0) n + (if B 3 s = 1 then 0 else 3 * th) < B 5 s)) s))), some (.int (zI ↑s)), none]) (st' := [.ref p, .int (zI ↑s)]) rfl ?_
      refine v_get rfl hp.1 rfl ?_
      refine v_icmp_ge rfl (fun c12 => ?_) (fun c12 => ?_)
      · simp (disch := omega) only [zI_lt, zI_le, zI_eq, zI_lt0, zI_le0, zI_0lt, zI_0le, zI_eq0] at c12
        refine v_run 1 (pc' := 95) (ls' := [some (.ref p), some (.ref q), some (.int (zI ↑n)), some (.int (zI ↑th)), some (.int (zI ↑(setN (fun s => decide (cLoss (i 1) (A 4 (B 4 s)) (B 3 s) (j 0) n + (if B 3 s = 1 then 0 else 3 * th) < B 5 s)) s))), some (.int (zI ↑s)), none]) (st' := [.int (zI ↑(setN (fun s => decide (cLoss (i 1) (A 4 (B 4 s)) (B 3 s) (j 0) n + (if B 3 s = 1 then 0 else 3 * th) < B 5 s)) s))]) rfl ?_
        exact v_iret rfl rfl rfl ⟨by rw [show s = i 5 by omega], rfl⟩
      · simp (disch := omega) only [zI_lt, zI_le, zI_eq, zI_lt0, zI_le0, zI_0lt, zI_0le, zI_eq0] at c12
        refine v_run 2 (pc' := 19) (ls' := [some (.ref p), some (.ref q), some (.int (zI ↑n)), some (.int (zI ↑th)), some (.int (zI ↑(setN (fun s => decide (cLoss (i 1) (A 4 (B 4 s)) (B 3 s) (j 0) n + (if B 3 s = 1 then 0 else 3 * th) < B 5 s)) s))), some (.int (zI ↑s)), none]) (st' := [.int (zI 6), .int (zI ↑s)]) rfl ?_
        refine v_icmp_ge rfl (fun c19 => ?_) (fun c19 => ?_)
        · exfalso; revert c19; simp (disch := omega) only [zI_lt, zI_le, zI_eq, zI_lt0, zI_le0, zI_0lt, zI_0le, zI_eq0] <;> omega
        · refine v_run 2 (pc' := 24) (ls' := [some (.ref p), some (.ref q), some (.int (zI ↑n)), some (.int (zI ↑th)), some (.int (zI ↑(setN (fun s => decide (cLoss (i 1) (A 4 (B 4 s)) (B 3 s) (j 0) n + (if B 3 s = 1 then 0 else 3 * th) < B 5 s)) s))), some (.int (zI ↑s)), none]) (st' := [.ref q, .ref p]) rfl ?_
          refine v_get rfl hq.1 rfl ?_
          refine v_run 1 (pc' := 29) (ls' := [some (.ref p), some (.ref q), some (.int (zI ↑n)), some (.int (zI ↑th)), some (.int (zI ↑(setN (fun s => decide (cLoss (i 1) (A 4 (B 4 s)) (B 3 s) (j 0) n + (if B 3 s = 1 then 0 else 3 * th) < B 5 s)) s))), some (.int (zI ↑s)), none]) (st' := [.int (zI ↑s), .ref (S 3), .ref p]) rfl ?_
          refine v_iaload' rfl hq.2.1 (i := s) rfl (by omega) ?_
          refine v_run 1 (pc' := 31) (ls' := [some (.ref p), some (.ref q), some (.int (zI ↑n)), some (.int (zI ↑th)), some (.int (zI ↑(setN (fun s => decide (cLoss (i 1) (A 4 (B 4 s)) (B 3 s) (j 0) n + (if B 3 s = 1 then 0 else 3 * th) < B 5 s)) s))), some (.int (zI ↑s)), none]) (st' := [.ref q, .int ((fun k => zI ↑(B 3 k)) s), .ref p]) rfl ?_
          refine v_get rfl hq.1 rfl ?_
          refine v_run 1 (pc' := 36) (ls' := [some (.ref p), some (.ref q), some (.int (zI ↑n)), some (.int (zI ↑th)), some (.int (zI ↑(setN (fun s => decide (cLoss (i 1) (A 4 (B 4 s)) (B 3 s) (j 0) n + (if B 3 s = 1 then 0 else 3 * th) < B 5 s)) s))), some (.int (zI ↑s)), none]) (st' := [.int (zI ↑s), .ref (S 4), .int ((fun k => zI ↑(B 3 k)) s), .ref p]) rfl ?_
          refine v_iaload' rfl hq.2.2.1 (i := s) rfl (by omega) ?_
          refine v_run 1 (pc' := 38) (ls' := [some (.ref p), some (.ref q), some (.int (zI ↑n)), some (.int (zI ↑th)), some (.int (zI ↑(setN (fun s => decide (cLoss (i 1) (A 4 (B 4 s)) (B 3 s) (j 0) n + (if B 3 s = 1 then 0 else 3 * th) < B 5 s)) s))), some (.int (zI ↑s)), none]) (st' := [.ref q, .int ((fun k => zI ↑(B 4 k)) s), .int ((fun k => zI ↑(B 3 k)) s), .ref p]) rfl ?_
          refine v_get rfl hq.1 rfl ?_
          refine v_run 1 (pc' := 42) (ls' := [some (.ref p), some (.ref q), some (.int (zI ↑n)), some (.int (zI ↑th)), some (.int (zI ↑(setN (fun s => decide (cLoss (i 1) (A 4 (B 4 s)) (B 3 s) (j 0) n + (if B 3 s = 1 then 0 else 3 * th) < B 5 s)) s))), some (.int (zI ↑s)), none]) (st' := [.int (zI ↑n), .int (zI ↑(j 0)), .int ((fun k => zI ↑(B 4 k)) s), .int ((fun k => zI ↑(B 3 k)) s), .ref p]) rfl ?_
          refine v_callV (My := mX4_lossOver) (As := [.int ((fun k => zI ↑(B 3 k)) s), .int ((fun k => zI ↑(B 4 k)) s), .int (zI ↑(j 0)), .int (zI ↑n)]) (rest := []) (mc := 0) (ms := 0) rfl caX4_lossOver rfl rfl rfl hp.1 rfl rfl (k_lossOver G h (B 3 s) (B 4 s) (j 0) n hp hi (b4 s) (b3 s) (by omega) (by omega)) rfl rfl (Nat.le_of_ble_eq_true rfl) (by omega) ?_
          rintro _ _ ⟨rfl, rfl⟩
          refine v_run 0 (pc' := 45) (ls' := [some (.ref p), some (.ref q), some (.int (zI ↑n)), some (.int (zI ↑th)), some (.int (zI ↑(setN (fun s => decide (cLoss (i 1) (A 4 (B 4 s)) (B 3 s) (j 0) n + (if B 3 s = 1 then 0 else 3 * th) < B 5 s)) s))), some (.int (zI ↑s)), none]) (st' := [.int (zI ↑(cLoss (i 1) (A 4 (B 4 s)) (B 3 s) (j 0) n))]) rfl ?_
          refine v_run 2 (pc' := 48) (ls' := [some (.ref p), some (.ref q), some (.int (zI ↑n)), some (.int (zI ↑th)), some (.int (zI ↑(setN (fun s => decide (cLoss (i 1) (A 4 (B 4 s)) (B 3 s) (j 0) n + (if B 3 s = 1 then 0 else 3 * th) < B 5 s)) s))), some (.int (zI ↑s)), some (.int (zI ↑(cLoss (i 1) (A 4 (B 4 s)) (B 3 s) (j 0) n)))]) (st' := [.ref q]) rfl ?_
          refine v_get rfl hq.1 rfl ?_
          refine v_run 1 (pc' := 53) (ls' := [some (.ref p), some (.ref q), some (.int (zI ↑n)), some (.int (zI ↑th)), some (.int (zI ↑(setN (fun s => decide (cLoss (i 1) (A 4 (B 4 s)) (B 3 s) (j 0) n + (if B 3 s = 1 then 0 else 3 * th) < B 5 s)) s))), some (.int (zI ↑s)), some (.int (zI ↑(cLoss (i 1) (A 4 (B 4 s)) (B 3 s) (j 0) n)))]) (st' := [.int (zI ↑s), .ref (S 3)]) rfl ?_
          refine v_iaload' rfl hq.2.1 (i := s) rfl (by omega) ?_
          refine v_run 1 (pc' := 55) (ls' := [some (.ref p), some (.ref q), some (.int (zI ↑n)), some (.int (zI ↑th)), some (.int (zI ↑(setN (fun s => decide (cLoss (i 1) (A 4 (B 4 s)) (B 3 s) (j 0) n + (if B 3 s = 1 then 0 else 3 * th) < B 5 s)) s))), some (.int (zI ↑s)), some (.int (zI ↑(cLoss (i 1) (A 4 (B 4 s)) (B 3 s) (j 0) n)))]) (st' := [.int (zI 1), .int ((fun k => zI ↑(B 3 k)) s)]) rfl ?_
          refine v_icmp_eq rfl (fun c55 => ?_) (fun c55 => ?_)
          · simp (disch := omega) only [zI_lt, zI_le, zI_eq, zI_lt0, zI_le0, zI_0lt, zI_0le, zI_eq0] at c55
            refine v_run 1 (pc' := 67) (ls' := [some (.ref p), some (.ref q), some (.int (zI ↑n)), some (.int (zI ↑th)), some (.int (zI ↑(setN (fun s => decide (cLoss (i 1) (A 4 (B 4 s)) (B 3 s) (j 0) n + (if B 3 s = 1 then 0 else 3 * th) < B 5 s)) s))), some (.int (zI ↑s)), some (.int (zI ↑(cLoss (i 1) (A 4 (B 4 s)) (B 3 s) (j 0) n)))]) (st' := [.ref q]) rfl ?_
            refine v_get rfl hq.1 rfl ?_
            refine v_run 1 (pc' := 72) (ls' := [some (.ref p), some (.ref q), some (.int (zI ↑n)), some (.int (zI ↑th)), some (.int (zI ↑(setN (fun s => decide (cLoss (i 1) (A 4 (B 4 s)) (B 3 s) (j 0) n + (if B 3 s = 1 then 0 else 3 * th) < B 5 s)) s))), some (.int (zI ↑s)), some (.int (zI ↑(cLoss (i 1) (A 4 (B 4 s)) (B 3 s) (j 0) n)))]) (st' := [.int (zI ↑s), .ref (S 5)]) rfl ?_
            refine v_iaload' rfl hq.2.2.2.1 (i := s) rfl (by omega) ?_
            refine v_run 1 (pc' := 75) (ls' := [some (.ref p), some (.ref q), some (.int (zI ↑n)), some (.int (zI ↑th)), some (.int (zI ↑(setN (fun s => decide (cLoss (i 1) (A 4 (B 4 s)) (B 3 s) (j 0) n + (if B 3 s = 1 then 0 else 3 * th) < B 5 s)) s))), some (.int (zI ↑s)), some (.int (zI ↑(cLoss (i 1) (A 4 (B 4 s)) (B 3 s) (j 0) n)))]) (st' := [.int (zI ↑(cLoss (i 1) (A 4 (B 4 s)) (B 3 s) (j 0) n)), .int ((fun k => zI ↑(B 5 k)) s)]) rfl ?_
            refine v_icmp_le rfl (fun c75 => ?_) (fun c75 => ?_)
            · simp (disch := omega) only [zI_lt, zI_le, zI_eq, zI_lt0, zI_le0, zI_0lt, zI_0le, zI_eq0] at c75
              refine v_run 2 (pc' := 6) (ls' := [some (.ref p), some (.ref q), some (.int (zI ↑n)), some (.int (zI ↑th)), some (.int (zI ↑(setN (fun s => decide (cLoss (i 1) (A 4 (B 4 s)) (B 3 s) (j 0) n + (if B 3 s = 1 then 0 else 3 * th) < B 5 s)) s))), some (.int ((zI ↑s) + zI 1)), some (.int (zI ↑(cLoss (i 1) (A 4 (B 4 s)) (B 3 s) (j 0) n)))]) (st' := []) rfl ?_
              refine v_drop 6 (ls' := [some (.ref p), some (.ref q), some (.int (zI ↑n)), some (.int (zI ↑th)), some (.int (zI ↑(setN (fun s => decide (cLoss (i 1) (A 4 (B 4 s)) (B 3 s) (j 0) n + (if B 3 s = 1 then 0 else 3 * th) < B 5 s)) s))), some (.int ((zI ↑s) + zI 1)), none]) rfl ?_
              rw [← setN_f (p := fun s => decide (cLoss (i 1) (A 4 (B 4 s)) (B 3 s) (j 0) n + (if B 3 s = 1 then 0 else 3 * th) < B 5 s)) (n := s) (decide_eq_false (by rw [if_pos (by omega)]; omega)), zI_s1]
              exact ih (s + 1) (by omega) (by omega)
            · simp (disch := omega) only [zI_lt, zI_le, zI_eq, zI_lt0, zI_le0, zI_0lt, zI_0le, zI_eq0] at c75
              refine v_run 8 (pc' := 6) (ls' := [some (.ref p), some (.ref q), some (.int (zI ↑n)), some (.int (zI ↑th)), some (.int ((zI ↑(setN (fun s => decide (cLoss (i 1) (A 4 (B 4 s)) (B 3 s) (j 0) n + (if B 3 s = 1 then 0 else 3 * th) < B 5 s)) s)) ||| ((zI 1) <<< ((zI ↑s) &&& 31)))), some (.int ((zI ↑s) + zI 1)), some (.int (zI ↑(cLoss (i 1) (A 4 (B 4 s)) (B 3 s) (j 0) n)))]) (st' := []) rfl ?_
              refine v_drop 6 (ls' := [some (.ref p), some (.ref q), some (.int (zI ↑n)), some (.int (zI ↑th)), some (.int ((zI ↑(setN (fun s => decide (cLoss (i 1) (A 4 (B 4 s)) (B 3 s) (j 0) n + (if B 3 s = 1 then 0 else 3 * th) < B 5 s)) s)) ||| ((zI 1) <<< ((zI ↑s) &&& 31)))), some (.int ((zI ↑s) + zI 1)), none]) rfl ?_
              rw [zI_put (by omega) (setN_lt _ _), ← setN_t (p := fun s => decide (cLoss (i 1) (A 4 (B 4 s)) (B 3 s) (j 0) n + (if B 3 s = 1 then 0 else 3 * th) < B 5 s)) (n := s) (decide_eq_true (by rw [if_pos (by omega)]; omega)), zI_s1]
              exact ih (s + 1) (by omega) (by omega)
          · simp (disch := omega) only [zI_lt, zI_le, zI_eq, zI_lt0, zI_le0, zI_0lt, zI_0le, zI_eq0] at c55
            refine v_run 6 (pc' := 66) (ls' := [some (.ref p), some (.ref q), some (.int (zI ↑n)), some (.int (zI ↑th)), some (.int (zI ↑(setN (fun s => decide (cLoss (i 1) (A 4 (B 4 s)) (B 3 s) (j 0) n + (if B 3 s = 1 then 0 else 3 * th) < B 5 s)) s))), some (.int (zI ↑s)), some (.int ((zI ↑(cLoss (i 1) (A 4 (B 4 s)) (B 3 s) (j 0) n)) + ((zI 3) * (zI ↑th))))]) (st' := []) rfl ?_
            rw [show ((zI ↑(cLoss (i 1) (A 4 (B 4 s)) (B 3 s) (j 0) n)) + ((zI 3) * (zI ↑th)) : Int32) = zI ↑(cLoss (i 1) (A 4 (B 4 s)) (B 3 s) (j 0) n + 3 * th) from by rw [show zI 3 = zI ((3 : Nat) : Int) from rfl, zN_mul, zN_add]]
            refine v_run 1 (pc' := 67) (ls' := [some (.ref p), some (.ref q), some (.int (zI ↑n)), some (.int (zI ↑th)), some (.int (zI ↑(setN (fun s => decide (cLoss (i 1) (A 4 (B 4 s)) (B 3 s) (j 0) n + (if B 3 s = 1 then 0 else 3 * th) < B 5 s)) s))), some (.int (zI ↑s)), some (.int (zI ↑(cLoss (i 1) (A 4 (B 4 s)) (B 3 s) (j 0) n + 3 * th)))]) (st' := [.ref q]) rfl ?_
            refine v_get rfl hq.1 rfl ?_
            refine v_run 1 (pc' := 72) (ls' := [some (.ref p), some (.ref q), some (.int (zI ↑n)), some (.int (zI ↑th)), some (.int (zI ↑(setN (fun s => decide (cLoss (i 1) (A 4 (B 4 s)) (B 3 s) (j 0) n + (if B 3 s = 1 then 0 else 3 * th) < B 5 s)) s))), some (.int (zI ↑s)), some (.int (zI ↑(cLoss (i 1) (A 4 (B 4 s)) (B 3 s) (j 0) n + 3 * th)))]) (st' := [.int (zI ↑s), .ref (S 5)]) rfl ?_
            refine v_iaload' rfl hq.2.2.2.1 (i := s) rfl (by omega) ?_
            refine v_run 1 (pc' := 75) (ls' := [some (.ref p), some (.ref q), some (.int (zI ↑n)), some (.int (zI ↑th)), some (.int (zI ↑(setN (fun s => decide (cLoss (i 1) (A 4 (B 4 s)) (B 3 s) (j 0) n + (if B 3 s = 1 then 0 else 3 * th) < B 5 s)) s))), some (.int (zI ↑s)), some (.int (zI ↑(cLoss (i 1) (A 4 (B 4 s)) (B 3 s) (j 0) n + 3 * th)))]) (st' := [.int (zI ↑(cLoss (i 1) (A 4 (B 4 s)) (B 3 s) (j 0) n + 3 * th)), .int ((fun k => zI ↑(B 5 k)) s)]) rfl ?_
            refine v_icmp_le rfl (fun c75 => ?_) (fun c75 => ?_)
            · simp (disch := omega) only [zI_lt, zI_le, zI_eq, zI_lt0, zI_le0, zI_0lt, zI_0le, zI_eq0] at c75
              refine v_run 2 (pc' := 6) (ls' := [some (.ref p), some (.ref q), some (.int (zI ↑n)), some (.int (zI ↑th)), some (.int (zI ↑(setN (fun s => decide (cLoss (i 1) (A 4 (B 4 s)) (B 3 s) (j 0) n + (if B 3 s = 1 then 0 else 3 * th) < B 5 s)) s))), some (.int ((zI ↑s) + zI 1)), some (.int (zI ↑(cLoss (i 1) (A 4 (B 4 s)) (B 3 s) (j 0) n + 3 * th)))]) (st' := []) rfl ?_
              refine v_drop 6 (ls' := [some (.ref p), some (.ref q), some (.int (zI ↑n)), some (.int (zI ↑th)), some (.int (zI ↑(setN (fun s => decide (cLoss (i 1) (A 4 (B 4 s)) (B 3 s) (j 0) n + (if B 3 s = 1 then 0 else 3 * th) < B 5 s)) s))), some (.int ((zI ↑s) + zI 1)), none]) rfl ?_
              rw [← setN_f (p := fun s => decide (cLoss (i 1) (A 4 (B 4 s)) (B 3 s) (j 0) n + (if B 3 s = 1 then 0 else 3 * th) < B 5 s)) (n := s) (decide_eq_false (by rw [if_neg (by omega)]; omega)), zI_s1]
              exact ih (s + 1) (by omega) (by omega)
            · simp (disch := omega) only [zI_lt, zI_le, zI_eq, zI_lt0, zI_le0, zI_0lt, zI_0le, zI_eq0] at c75
              refine v_run 8 (pc' := 6) (ls' := [some (.ref p), some (.ref q), some (.int (zI ↑n)), some (.int (zI ↑th)), some (.int ((zI ↑(setN (fun s => decide (cLoss (i 1) (A 4 (B 4 s)) (B 3 s) (j 0) n + (if B 3 s = 1 then 0 else 3 * th) < B 5 s)) s)) ||| ((zI 1) <<< ((zI ↑s) &&& 31)))), some (.int ((zI ↑s) + zI 1)), some (.int (zI ↑(cLoss (i 1) (A 4 (B 4 s)) (B 3 s) (j 0) n + 3 * th)))]) (st' := []) rfl ?_
              refine v_drop 6 (ls' := [some (.ref p), some (.ref q), some (.int (zI ↑n)), some (.int (zI ↑th)), some (.int ((zI ↑(setN (fun s => decide (cLoss (i 1) (A 4 (B 4 s)) (B 3 s) (j 0) n + (if B 3 s = 1 then 0 else 3 * th) < B 5 s)) s)) ||| ((zI 1) <<< ((zI ↑s) &&& 31)))), some (.int ((zI ↑s) + zI 1)), none]) rfl ?_
              rw [zI_put (by omega) (setN_lt _ _), ← setN_t (p := fun s => decide (cLoss (i 1) (A 4 (B 4 s)) (B 3 s) (j 0) n + (if B 3 s = 1 then 0 else 3 * th) < B 5 s)) (n := s) (decide_eq_true (by rw [if_neg (by omega)]; omega)), zI_s1]
              exact ih (s + 1) (by omega) (by omega)
  exact lp (i 5 + 1) 0 (by omega) (by omega)

set_option maxRecDepth 100000 in
set_option maxHeartbeats 400000 in
theorem k_leadOf (G : ssG) (h : ssH) {p : Nat} {i R : Nat → Nat} {d : Int} {A : Nat → Nat → Nat} (a m : Nat) (hp : PlanAt h p i R d A) (hi : PlanOk i A) (ha : a < 5) (hm : m < 64) : ssC G mX4_leadOf 1 0 0 [.ref p, .int (zI ↑a), .int (zI ↑m)] h (rI (zI (cLead (A 6) (A 9 a) (i 5) m)) h) := by
  refine c_of_v okX4_leadOf (by decide +kernel) (ls := [some (.ref p), some (.int (zI ↑a)), some (.int (zI ↑m))]) rfl (Nat.le_of_ble_eq_true rfl) ?_
  obtain ⟨i0, i1, i2, i3, i5, i7, a4, a6, a8, a9, a10, i11, i12, i14, i15⟩ := id hi
  have q0 := a9 a
  refine v_run 3 (pc' := 3) (ls' := [some (.ref p), some (.int (zI ↑a)), some (.int (zI ↑m))]) (st' := [.ref p, .int (zI ↑m), .ref p]) rfl ?_
  refine v_get rfl hp.1 rfl ?_
  refine v_run 1 (pc' := 7) (ls' := [some (.ref p), some (.int (zI ↑a)), some (.int (zI ↑m))]) (st' := [.int (zI ↑a), .ref (R 9), .int (zI ↑m), .ref p]) rfl ?_
  refine v_iaload' rfl hp.2.2.2.2.1 (i := a) rfl (by omega) ?_
  refine v_run 1 (pc' := 9) (ls' := [some (.ref p), some (.int (zI ↑a)), some (.int (zI ↑m))]) (st' := [.int ((zI ↑m) &&& ((fun j => zI ↑(A 9 j)) a)), .ref p]) rfl ?_
  rw [show ((zI ↑m) &&& ((fun j => zI ↑(A 9 j)) a) : Int32) = zI ↑(m &&& A 9 a) from zI_land (by omega) (by omega)]
  refine v_callV (My := mX4_votesOf) (As := [.int (zI ↑(m &&& A 9 a))]) (rest := []) (mc := 0) (ms := 0) rfl caX4_votesOf rfl rfl rfl hp.1 rfl rfl (k_votesOf G h (m &&& A 9 a) hp hi (Nat.lt_of_le_of_lt Nat.and_le_left hm)) rfl rfl (Nat.le_of_ble_eq_true rfl) (by omega) ?_
  rintro _ _ ⟨rfl, rfl⟩
  refine v_run 0 (pc' := 12) (ls' := [some (.ref p), some (.int (zI ↑a)), some (.int (zI ↑m))]) (st' := [.int (zI ↑(sumN (fun s => A 6 s * ((m &&& A 9 a) / 2 ^ s % 2)) (i 5)))]) rfl ?_
  refine v_run 3 (pc' := 15) (ls' := [some (.ref p), some (.int (zI ↑a)), some (.int (zI ↑m))]) (st' := [.ref p, .int (zI ↑m), .ref p, .int (zI ↑(sumN (fun s => A 6 s * ((m &&& A 9 a) / 2 ^ s % 2)) (i 5)))]) rfl ?_
  refine v_get rfl hp.1 rfl ?_
  refine v_run 1 (pc' := 19) (ls' := [some (.ref p), some (.int (zI ↑a)), some (.int (zI ↑m))]) (st' := [.int (zI ↑a), .ref (R 9), .int (zI ↑m), .ref p, .int (zI ↑(sumN (fun s => A 6 s * ((m &&& A 9 a) / 2 ^ s % 2)) (i 5)))]) rfl ?_
  refine v_iaload' rfl hp.2.2.2.2.1 (i := a) rfl (by omega) ?_
  refine v_run 3 (pc' := 23) (ls' := [some (.ref p), some (.int (zI ↑a)), some (.int (zI ↑m))]) (st' := [.int ((zI ↑m) &&& (((fun j => zI ↑(A 9 j)) a) ^^^ (zI (-1)))), .ref p, .int (zI ↑(sumN (fun s => A 6 s * ((m &&& A 9 a) / 2 ^ s % 2)) (i 5)))]) rfl ?_
  rw [show ((zI ↑m) &&& (((fun j => zI ↑(A 9 j)) a) ^^^ (zI (-1))) : Int32) = zI ↑(andn m (A 9 a)) from zI_andn (by omega) (by omega)]
  refine v_callV (My := mX4_votesOf) (As := [.int (zI ↑(andn m (A 9 a)))]) (rest := [.int (zI ↑(sumN (fun s => A 6 s * ((m &&& A 9 a) / 2 ^ s % 2)) (i 5)))]) (mc := 0) (ms := 0) rfl caX4_votesOf rfl rfl rfl hp.1 rfl rfl (k_votesOf G h (andn m (A 9 a)) hp hi (andn_lt (n := 6) hm)) rfl rfl (Nat.le_of_ble_eq_true rfl) (by omega) ?_
  rintro _ _ ⟨rfl, rfl⟩
  refine v_run 0 (pc' := 26) (ls' := [some (.ref p), some (.int (zI ↑a)), some (.int (zI ↑m))]) (st' := [.int (zI ↑(sumN (fun s => A 6 s * ((andn m (A 9 a)) / 2 ^ s % 2)) (i 5))), .int (zI ↑(sumN (fun s => A 6 s * ((m &&& A 9 a) / 2 ^ s % 2)) (i 5)))]) rfl ?_
  refine v_run 1 (pc' := 27) (ls' := [some (.ref p), some (.int (zI ↑a)), some (.int (zI ↑m))]) (st' := [.int ((zI ↑(sumN (fun s => A 6 s * ((m &&& A 9 a) / 2 ^ s % 2)) (i 5))) - (zI ↑(sumN (fun s => A 6 s * ((andn m (A 9 a)) / 2 ^ s % 2)) (i 5))))]) rfl ?_
  exact v_iret rfl rfl rfl ⟨by rw [zI_sub]; rfl, rfl⟩

set_option maxRecDepth 100000 in
set_option maxHeartbeats 400000 in
theorem k_restsOn (G : ssG) (h : ssH) {p : Nat} {i R : Nat → Nat} {d : Int} {A : Nat → Nat → Nat} (a st : Nat) (hp : PlanAt h p i R d A) (hi : PlanOk i A) (ha : a < 5) (hst : st < 32) : ssC G mX4_restsOn 0 0 0 [.ref p, .int (zI ↑a), .int (zI ↑st)] h (rI (zI ↑(cRO (A 10) (i 7) a st)) h) := by
  refine c_of_v okX4_restsOn (by decide +kernel) (ls := [some (.ref p), some (.int (zI ↑a)), some (.int (zI ↑st)), none, none, none]) rfl (Nat.le_of_ble_eq_true rfl) ?_
  obtain ⟨i0, i1, i2, i3, i5, i7, a4, a6, a8, a9, a10, i11, i12, i14, i15⟩ := id hi
  have q0 := a10 a
  refine v_run 1 (pc' := 1) (ls' := [some (.ref p), some (.int (zI ↑a)), some (.int (zI ↑st)), none, none, none]) (st' := [.ref p]) rfl ?_
  refine v_get rfl hp.1 rfl ?_
  refine v_run 1 (pc' := 5) (ls' := [some (.ref p), some (.int (zI ↑a)), some (.int (zI ↑st)), none, none, none]) (st' := [.int (zI ↑a), .ref (R 10)]) rfl ?_
  refine v_iaload' rfl hp.2.2.2.2.2 (i := a) rfl (by omega) ?_
  refine v_run 4 (pc' := 10) (ls' := [some (.ref p), some (.int (zI ↑a)), some (.int (zI ↑st)), none, none, none]) (st' := [.int (((fun j => zI ↑(A 10 j)) a) &&& ((zI ↑st) ^^^ (zI (-1))))]) rfl ?_
  rw [show (((fun j => zI ↑(A 10 j)) a) &&& ((zI ↑st) ^^^ (zI (-1))) : Int32) = zI ↑(andn (A 10 a) st) from zI_andn (by omega) (by omega)]
  refine v_run 3 (pc' := 14) (ls' := [some (.ref p), some (.int (zI ↑a)), some (.int (zI ↑st)), some (.int (zI ↑(andn (A 10 a) st))), some (.int (zI 0)), none]) (st' := []) rfl ?_
  have lp : ∀ (n s : Nat), s ≤ i 7 → i 7 + 1 ≤ s + n → ssV G mX4_restsOn 0 0 0 (rI (zI ↑(cRO (A 10) (i 7) a st)) h) 14 [some (.ref p), some (.int (zI ↑a)), some (.int (zI ↑st)), some (.int (zI ↑(rOut (A 10) st (i 7) s (andn (A 10 a) st)))), some (.int (zI ↑s)), none] [] h := by
    intro n
    induction n with
    | zero => intro s hs1 hs2; exact absurd hs2 (by omega)
    | succ n ih =>
      intro s hs1 hs2
      have q1 : rOut (A 10) st (i 7) s (andn (A 10 a) st) < 32 := rOut_lt a10 s (andn_lt (n := 5) (a10 a))
      refine v_run 2 (pc' := 17) (ls' := [some (.ref p), some (.int (zI ↑a)), some (.int (zI ↑st)), some (.int (zI ↑(rOut (A 10) st (i 7) s (andn (A 10 a) st)))), some (.int (zI ↑s)), none]) (st' := [.ref p, .int (zI ↑s)]) rfl ?_
      refine v_get rfl hp.1 rfl ?_
      refine v_icmp_ge rfl (fun c20 => ?_) (fun c20 => ?_)
      · simp (disch := omega) only [zI_lt, zI_le, zI_eq, zI_lt0, zI_le0, zI_0lt, zI_0le, zI_eq0] at c20
        refine v_run 1 (pc' := 78) (ls' := [some (.ref p), some (.int (zI ↑a)), some (.int (zI ↑st)), some (.int (zI ↑(rOut (A 10) st (i 7) s (andn (A 10 a) st)))), some (.int (zI ↑s)), none]) (st' := [.int (zI ↑(rOut (A 10) st (i 7) s (andn (A 10 a) st)))]) rfl ?_
        exact v_iret rfl rfl rfl ⟨by rw [show s = i 7 by omega]; rfl, rfl⟩
      · simp (disch := omega) only [zI_lt, zI_le, zI_eq, zI_lt0, zI_le0, zI_0lt, zI_0le, zI_eq0] at c20
        refine v_run 2 (pc' := 26) (ls' := [some (.ref p), some (.int (zI ↑a)), some (.int (zI ↑st)), some (.int (zI ↑(rOut (A 10) st (i 7) s (andn (A 10 a) st)))), some (.int (zI ↑s)), some (.int (zI 0))]) (st' := []) rfl ?_
        have lp2 : ∀ (m t : Nat), t ≤ i 7 → i 7 + 1 ≤ t + m → ssV G mX4_restsOn 0 0 0 (rI (zI ↑(cRO (A 10) (i 7) a st)) h) 26 [some (.ref p), some (.int (zI ↑a)), some (.int (zI ↑st)), some (.int (zI ↑(rIn (A 10) st t (rOut (A 10) st (i 7) s (andn (A 10 a) st))))), some (.int (zI ↑s)), some (.int (zI ↑t))] [] h := by
          intro m
          induction m with
          | zero => intro t ht1 ht2; exact absurd ht2 (by omega)
          | succ m ih2 =>
            intro t ht1 ht2
            have q2 : rIn (A 10) st t (rOut (A 10) st (i 7) s (andn (A 10 a) st)) < 32 := rIn_lt a10 t q1
            have q3 := a10 t
            refine v_run 2 (pc' := 29) (ls' := [some (.ref p), some (.int (zI ↑a)), some (.int (zI ↑st)), some (.int (zI ↑(rIn (A 10) st t (rOut (A 10) st (i 7) s (andn (A 10 a) st))))), some (.int (zI ↑s)), some (.int (zI ↑t))]) (st' := [.ref p, .int (zI ↑t)]) rfl ?_
            refine v_get rfl hp.1 rfl ?_
            refine v_icmp_ge rfl (fun c32 => ?_) (fun c32 => ?_)
            · simp (disch := omega) only [zI_lt, zI_le, zI_eq, zI_lt0, zI_le0, zI_0lt, zI_0le, zI_eq0] at c32
              refine v_run 2 (pc' := 14) (ls' := [some (.ref p), some (.int (zI ↑a)), some (.int (zI ↑st)), some (.int (zI ↑(rIn (A 10) st t (rOut (A 10) st (i 7) s (andn (A 10 a) st))))), some (.int ((zI ↑s) + zI 1)), some (.int (zI ↑t))]) (st' := []) rfl ?_
              refine v_drop 5 (ls' := [some (.ref p), some (.int (zI ↑a)), some (.int (zI ↑st)), some (.int (zI ↑(rIn (A 10) st t (rOut (A 10) st (i 7) s (andn (A 10 a) st))))), some (.int ((zI ↑s) + zI 1)), none]) rfl ?_
              rw [zI_s1, show t = i 7 by omega]
              exact ih (s + 1) (by omega) (by omega)
            · simp (disch := omega) only [zI_lt, zI_le, zI_eq, zI_lt0, zI_le0, zI_0lt, zI_0le, zI_eq0] at c32
              refine v_run 2 (pc' := 38) (ls' := [some (.ref p), some (.int (zI ↑a)), some (.int (zI ↑st)), some (.int (zI ↑(rIn (A 10) st t (rOut (A 10) st (i 7) s (andn (A 10 a) st))))), some (.int (zI ↑s)), some (.int (zI ↑t))]) (st' := [.int (zI 5), .int (zI ↑t)]) rfl ?_
              refine v_icmp_ge rfl (fun c38 => ?_) (fun c38 => ?_)
              · exfalso; revert c38; simp (disch := omega) only [zI_lt, zI_le, zI_eq, zI_lt0, zI_le0, zI_0lt, zI_0le, zI_eq0] <;> omega
              · refine v_run 6 (pc' := 48) (ls' := [some (.ref p), some (.int (zI ↑a)), some (.int (zI ↑st)), some (.int (zI ↑(rIn (A 10) st t (rOut (A 10) st (i 7) s (andn (A 10 a) st))))), some (.int (zI ↑s)), some (.int (zI ↑t))]) (st' := [.int (zI 1), .int (((zI ↑(rIn (A 10) st t (rOut (A 10) st (i 7) s (andn (A 10 a) st)))) >>> ((zI ↑t) &&& 31)) &&& (zI 1))]) rfl ?_
                rw [show (((zI ↑(rIn (A 10) st t (rOut (A 10) st (i 7) s (andn (A 10 a) st)))) >>> ((zI ↑t) &&& 31)) &&& (zI 1) : Int32) = zI ↑((rIn (A 10) st t (rOut (A 10) st (i 7) s (andn (A 10 a) st))) / 2 ^ t % 2) from zI_bit (by omega) (by omega)]
                refine v_icmp_ne rfl (fun c48 => ?_) (fun c48 => ?_)
                · simp (disch := omega) only [zI_lt, zI_le, zI_eq, zI_lt0, zI_le0, zI_0lt, zI_0le, zI_eq0] at c48
                  refine v_run 2 (pc' := 26) (ls' := [some (.ref p), some (.int (zI ↑a)), some (.int (zI ↑st)), some (.int (zI ↑(rIn (A 10) st t (rOut (A 10) st (i 7) s (andn (A 10 a) st))))), some (.int (zI ↑s)), some (.int ((zI ↑t) + zI 1))]) (st' := []) rfl ?_
                  rw [show rIn (A 10) st t (rOut (A 10) st (i 7) s (andn (A 10 a) st)) = rIn (A 10) st (t + 1) (rOut (A 10) st (i 7) s (andn (A 10 a) st)) by simp only [rIn]; rw [if_neg (by rw [bitN_true]; omega)], zI_s1]
                  exact ih2 (t + 1) (by omega) (by omega)
                · simp (disch := omega) only [zI_lt, zI_le, zI_eq, zI_lt0, zI_le0, zI_0lt, zI_0le, zI_eq0] at c48
                  refine v_run 2 (pc' := 53) (ls' := [some (.ref p), some (.int (zI ↑a)), some (.int (zI ↑st)), some (.int (zI ↑(rIn (A 10) st t (rOut (A 10) st (i 7) s (andn (A 10 a) st))))), some (.int (zI ↑s)), some (.int (zI ↑t))]) (st' := [.ref p, .int (zI ↑(rIn (A 10) st t (rOut (A 10) st (i 7) s (andn (A 10 a) st))))]) rfl ?_
                  refine v_get rfl hp.1 rfl ?_
                  refine v_run 1 (pc' := 58) (ls' := [some (.ref p), some (.int (zI ↑a)), some (.int (zI ↑st)), some (.int (zI ↑(rIn (A 10) st t (rOut (A 10) st (i 7) s (andn (A 10 a) st))))), some (.int (zI ↑s)), some (.int (zI ↑t))]) (st' := [.int (zI ↑t), .ref (R 10), .int (zI ↑(rIn (A 10) st t (rOut (A 10) st (i 7) s (andn (A 10 a) st))))]) rfl ?_
                  refine v_iaload' rfl hp.2.2.2.2.2 (i := t) rfl (by omega) ?_
                  refine v_run 8 (pc' := 26) (ls' := [some (.ref p), some (.int (zI ↑a)), some (.int (zI ↑st)), some (.int ((zI ↑(rIn (A 10) st t (rOut (A 10) st (i 7) s (andn (A 10 a) st)))) ||| (((fun j => zI ↑(A 10 j)) t) &&& ((zI ↑st) ^^^ (zI (-1)))))), some (.int (zI ↑s)), some (.int ((zI ↑t) + zI 1))]) (st' := []) rfl ?_
                  rw [zI_andn (by omega) (by omega), zI_lor (by omega) (by have := andn_lt (m := A 10 t) (b := st) (n := 5) q3; omega), show rIn (A 10) st t (rOut (A 10) st (i 7) s (andn (A 10 a) st)) ||| andn (A 10 t) st = rIn (A 10) st (t + 1) (rOut (A 10) st (i 7) s (andn (A 10 a) st)) by simp only [rIn]; rw [if_pos (by rw [bitN_true]; omega)], zI_s1]
                  exact ih2 (t + 1) (by omega) (by omega)
        exact lp2 (i 7 + 1) 0 (by omega) (by omega)
  exact lp (i 7 + 1) 0 (by omega) (by omega)

set_option maxRecDepth 100000 in
set_option maxHeartbeats 400000 in
theorem k_goingAmong (G : ssG) (h : ssH) {p : Nat} {i R : Nat → Nat} {d : Int} {A : Nat → Nat → Nat} (al : Nat) (hp : PlanAt h p i R d A) (hi : PlanOk i A) (hal : al < 32) : ssC G mX4_goingAmong 1 0 0 [.ref p, .int (zI ↑al)] h (rI (zI ↑(setN (fun s => decide (andn (2 ^ s ||| cRO (A 10) (i 7) s 0) al = 0)) (i 7))) h) := by
  refine c_of_v okX4_goingAmong (by decide +kernel) (ls := [some (.ref p), some (.int (zI ↑al)), none, none, none]) rfl (Nat.le_of_ble_eq_true rfl) ?_
  obtain ⟨i0, i1, i2, i3, i5, i7, a4, a6, a8, a9, a10, i11, i12, i14, i15⟩ := id hi
  refine v_run 4 (pc' := 4) (ls' := [some (.ref p), some (.int (zI ↑al)), some (.int (zI 0)), some (.int (zI 0)), none]) (st' := []) rfl ?_
  have lp : ∀ (n s : Nat), s ≤ i 7 → i 7 + 1 ≤ s + n → ssV G mX4_goingAmong 1 0 0 (rI (zI ↑(setN (fun s => decide (andn (2 ^ s ||| cRO (A 10) (i 7) s 0) al = 0)) (i 7))) h) 4 [some (.ref p), some (.int (zI ↑al)), some (.int (zI ↑(setN (fun s => decide (andn (2 ^ s ||| cRO (A 10) (i 7) s 0) al = 0)) s))), some (.int (zI ↑s)), none] [] h := by
    intro n
    induction n with
    | zero => intro s hs1 hs2; exact absurd hs2 (by omega)
    | succ n ih =>
      intro s hs1 hs2
      refine v_run 2 (pc' := 6) (ls' := [some (.ref p), some (.int (zI ↑al)), some (.int (zI ↑(setN (fun s => decide (andn (2 ^ s ||| cRO (A 10) (i 7) s 0) al = 0)) s))), some (.int (zI ↑s)), none]) (st' := [.ref p, .int (zI ↑s)]) rfl ?_
      refine v_get rfl hp.1 rfl ?_
      refine v_icmp_ge rfl (fun c9 => ?_) (fun c9 => ?_)
      · simp (disch := omega) only [zI_lt, zI_le, zI_eq, zI_lt0, zI_le0, zI_0lt, zI_0le, zI_eq0] at c9
        refine v_run 1 (pc' := 51) (ls' := [some (.ref p), some (.int (zI ↑al)), some (.int (zI ↑(setN (fun s => decide (andn (2 ^ s ||| cRO (A 10) (i 7) s 0) al = 0)) s))), some (.int (zI ↑s)), none]) (st' := [.int (zI ↑(setN (fun s => decide (andn (2 ^ s ||| cRO (A 10) (i 7) s 0) al = 0)) s))]) rfl ?_
        exact v_iret rfl rfl rfl ⟨by rw [show s = i 7 by omega], rfl⟩
      · simp (disch := omega) only [zI_lt, zI_le, zI_eq, zI_lt0, zI_le0, zI_0lt, zI_0le, zI_eq0] at c9
        refine v_run 2 (pc' := 14) (ls' := [some (.ref p), some (.int (zI ↑al)), some (.int (zI ↑(setN (fun s => decide (andn (2 ^ s ||| cRO (A 10) (i 7) s 0) al = 0)) s))), some (.int (zI ↑s)), none]) (st' := [.int (zI 5), .int (zI ↑s)]) rfl ?_
        refine v_icmp_ge rfl (fun c14 => ?_) (fun c14 => ?_)
        · exfalso; revert c14; simp (disch := omega) only [zI_lt, zI_le, zI_eq, zI_lt0, zI_le0, zI_0lt, zI_0le, zI_eq0] <;> omega
        · refine v_run 6 (pc' := 23) (ls' := [some (.ref p), some (.int (zI ↑al)), some (.int (zI ↑(setN (fun s => decide (andn (2 ^ s ||| cRO (A 10) (i 7) s 0) al = 0)) s))), some (.int (zI ↑s)), none]) (st' := [.int (zI 0), .int (zI ↑s), .ref p, .int ((zI 1) <<< ((zI ↑s) &&& 31))]) rfl ?_
          have q1 := cRO_lt (F := A 10) (ac := i 7) (a := s) (st := 0) a10
          have q2 : 2 ^ s ≤ 2 ^ 4 := Nat.pow_le_pow_right (n := 2) (by decide) (by omega)
          refine v_callV (My := mX4_restsOn) (As := [.int (zI ↑s), .int (zI 0)]) (rest := [.int ((zI 1) <<< ((zI ↑s) &&& 31))]) (mc := 0) (ms := 0) rfl caX4_restsOn rfl rfl rfl hp.1 rfl rfl (k_restsOn G h s 0 hp hi (by omega) (by omega)) rfl rfl (Nat.le_of_ble_eq_true rfl) (by omega) ?_
          rintro _ _ ⟨rfl, rfl⟩
          refine v_run 0 (pc' := 26) (ls' := [some (.ref p), some (.int (zI ↑al)), some (.int (zI ↑(setN (fun s => decide (andn (2 ^ s ||| cRO (A 10) (i 7) s 0) al = 0)) s))), some (.int (zI ↑s)), none]) (st' := [.int (zI ↑(cRO (A 10) (i 7) s 0)), .int ((zI 1) <<< ((zI ↑s) &&& 31))]) rfl ?_
          refine v_run 1 (pc' := 27) (ls' := [some (.ref p), some (.int (zI ↑al)), some (.int (zI ↑(setN (fun s => decide (andn (2 ^ s ||| cRO (A 10) (i 7) s 0) al = 0)) s))), some (.int (zI ↑s)), none]) (st' := [.int (((zI 1) <<< ((zI ↑s) &&& 31)) ||| (zI ↑(cRO (A 10) (i 7) s 0)))]) rfl ?_
          rw [show (((zI 1) <<< ((zI ↑s) &&& 31)) ||| (zI ↑(cRO (A 10) (i 7) s 0)) : Int32) = zI ↑(2 ^ s ||| cRO (A 10) (i 7) s 0) from by rw [zI_1shl (by omega), zI_lor (by omega) (by omega)]]
          have q3 : 2 ^ s ||| cRO (A 10) (i 7) s 0 < 2 ^ 5 := Nat.or_lt_two_pow (by omega) (by omega)
          have q4 := andn_lt (b := al) q3
          refine v_run 6 (pc' := 35) (ls' := [some (.ref p), some (.int (zI ↑al)), some (.int (zI ↑(setN (fun s => decide (andn (2 ^ s ||| cRO (A 10) (i 7) s 0) al = 0)) s))), some (.int (zI ↑s)), some (.int (zI ↑(2 ^ s ||| cRO (A 10) (i 7) s 0)))]) (st' := [.int ((zI ↑(2 ^ s ||| cRO (A 10) (i 7) s 0)) &&& ((zI ↑al) ^^^ (zI (-1))))]) rfl ?_
          rw [show ((zI ↑(2 ^ s ||| cRO (A 10) (i 7) s 0)) &&& ((zI ↑al) ^^^ (zI (-1))) : Int32) = zI ↑(andn (2 ^ s ||| cRO (A 10) (i 7) s 0) al) from zI_andn (by omega) (by omega)]
          refine v_if_ne rfl (fun c35 => ?_) (fun c35 => ?_)
          · simp (disch := omega) only [zI_lt, zI_le, zI_eq, zI_lt0, zI_le0, zI_0lt, zI_0le, zI_eq0] at c35
            refine v_run 2 (pc' := 4) (ls' := [some (.ref p), some (.int (zI ↑al)), some (.int (zI ↑(setN (fun s => decide (andn (2 ^ s ||| cRO (A 10) (i 7) s 0) al = 0)) s))), some (.int ((zI ↑s) + zI 1)), some (.int (zI ↑(2 ^ s ||| cRO (A 10) (i 7) s 0)))]) (st' := []) rfl ?_
            refine v_drop 4 (ls' := [some (.ref p), some (.int (zI ↑al)), some (.int (zI ↑(setN (fun s => decide (andn (2 ^ s ||| cRO (A 10) (i 7) s 0) al = 0)) s))), some (.int ((zI ↑s) + zI 1)), none]) rfl ?_
            rw [← setN_f (p := fun s => decide (andn (2 ^ s ||| cRO (A 10) (i 7) s 0) al = 0)) (n := s) (decide_eq_false (by omega)), zI_s1]
            exact ih (s + 1) (by omega) (by omega)
          · simp (disch := omega) only [zI_lt, zI_le, zI_eq, zI_lt0, zI_le0, zI_0lt, zI_0le, zI_eq0] at c35
            refine v_run 8 (pc' := 4) (ls' := [some (.ref p), some (.int (zI ↑al)), some (.int ((zI ↑(setN (fun s => decide (andn (2 ^ s ||| cRO (A 10) (i 7) s 0) al = 0)) s)) ||| ((zI 1) <<< ((zI ↑s) &&& 31)))), some (.int ((zI ↑s) + zI 1)), some (.int (zI ↑(2 ^ s ||| cRO (A 10) (i 7) s 0)))]) (st' := []) rfl ?_
            refine v_drop 4 (ls' := [some (.ref p), some (.int (zI ↑al)), some (.int ((zI ↑(setN (fun s => decide (andn (2 ^ s ||| cRO (A 10) (i 7) s 0) al = 0)) s)) ||| ((zI 1) <<< ((zI ↑s) &&& 31)))), some (.int ((zI ↑s) + zI 1)), none]) rfl ?_
            rw [zI_put (by omega) (setN_lt _ _), ← setN_t (p := fun s => decide (andn (2 ^ s ||| cRO (A 10) (i 7) s 0) al = 0)) (n := s) (decide_eq_true (by omega)), zI_s1]
            exact ih (s + 1) (by omega) (by omega)
  exact lp (i 7 + 1) 0 (by omega) (by omega)

set_option maxRecDepth 100000 in
set_option maxHeartbeats 400000 in
theorem k_whoHangsAt (G : ssG) (h : ssH) {q : Nat} {j S : Nat → Nat} {B : Nat → Nat → Nat} (k sc : Nat) (hq : MomAt h q j S B) (hj : MomOk j B) (hk : k < 6) (hsc : sc ≤ 6) : ssC G mX2_whoHangsAt 0 0 0 [.ref q, .int (zI ↑k), .int (zI ↑sc)] h (rI (zI (cWho (B 4) k sc)) h) := by
  refine c_of_v okX2_whoHangsAt (by decide +kernel) (ls := [some (.ref q), some (.int (zI ↑k)), some (.int (zI ↑sc)), none]) rfl (Nat.le_of_ble_eq_true rfl) ?_
  obtain ⟨j0, j1, j2, b3, b4, b5, b6⟩ := id hj
  refine v_run 2 (pc' := 2) (ls' := [some (.ref q), some (.int (zI ↑k)), some (.int (zI ↑sc)), some (.int (zI 0))]) (st' := []) rfl ?_
  have lp : ∀ (n s : Nat), s ≤ sc ∧ cWhoG (B 4) k (sc - s) s = cWho (B 4) k sc → sc + 1 ≤ s + n → ssV G mX2_whoHangsAt 0 0 0 (rI (zI (cWho (B 4) k sc)) h) 2 [some (.ref q), some (.int (zI ↑k)), some (.int (zI ↑sc)), some (.int (zI ↑s))] [] h := by
    intro n
    induction n with
    | zero => intro s hs1 hs2; exact absurd hs2 (by omega)
    | succ n ih =>
      intro s hs1 hs2
      obtain ⟨hs1, hs3⟩ := hs1
      have q1 := b4 s
      refine v_run 2 (pc' := 4) (ls' := [some (.ref q), some (.int (zI ↑k)), some (.int (zI ↑sc)), some (.int (zI ↑s))]) (st' := [.int (zI ↑sc), .int (zI ↑s)]) rfl ?_
      refine v_icmp_ge rfl (fun c4 => ?_) (fun c4 => ?_)
      · simp (disch := omega) only [zI_lt, zI_le, zI_eq, zI_lt0, zI_le0, zI_0lt, zI_0le, zI_eq0] at c4
        refine v_run 1 (pc' := 33) (ls' := [some (.ref q), some (.int (zI ↑k)), some (.int (zI ↑sc)), some (.int (zI ↑s))]) (st' := [.int (zI (-2))]) rfl ?_
        exact v_iret rfl rfl rfl ⟨by rw [← hs3, show sc - s = 0 by omega]; rfl, rfl⟩
      · simp (disch := omega) only [zI_lt, zI_le, zI_eq, zI_lt0, zI_le0, zI_0lt, zI_0le, zI_eq0] at c4
        refine v_run 2 (pc' := 10) (ls' := [some (.ref q), some (.int (zI ↑k)), some (.int (zI ↑sc)), some (.int (zI ↑s))]) (st' := [.int (zI 6), .int (zI ↑s)]) rfl ?_
        refine v_icmp_ge rfl (fun c10 => ?_) (fun c10 => ?_)
        · exfalso; revert c10; simp (disch := omega) only [zI_lt, zI_le, zI_eq, zI_lt0, zI_le0, zI_0lt, zI_0le, zI_eq0] <;> omega
        · refine v_run 1 (pc' := 14) (ls' := [some (.ref q), some (.int (zI ↑k)), some (.int (zI ↑sc)), some (.int (zI ↑s))]) (st' := [.ref q]) rfl ?_
          refine v_get rfl hq.1 rfl ?_
          refine v_run 1 (pc' := 18) (ls' := [some (.ref q), some (.int (zI ↑k)), some (.int (zI ↑sc)), some (.int (zI ↑s))]) (st' := [.int (zI ↑s), .ref (S 4)]) rfl ?_
          refine v_iaload' rfl hq.2.2.1 (i := s) rfl (by omega) ?_
          refine v_run 1 (pc' := 20) (ls' := [some (.ref q), some (.int (zI ↑k)), some (.int (zI ↑sc)), some (.int (zI ↑s))]) (st' := [.int (zI ↑k), .int ((fun k => zI ↑(B 4 k)) s)]) rfl ?_
          rw [show sc - s = (sc - (s + 1)) + 1 by omega] at hs3
          simp only [cWhoG] at hs3
          refine v_icmp_ne rfl (fun c20 => ?_) (fun c20 => ?_)
          · simp (disch := omega) only [zI_lt, zI_le, zI_eq, zI_lt0, zI_le0, zI_0lt, zI_0le, zI_eq0] at c20
            rw [if_neg (by omega)] at hs3
            refine v_run 2 (pc' := 2) (ls' := [some (.ref q), some (.int (zI ↑k)), some (.int (zI ↑sc)), some (.int ((zI ↑s) + zI 1))]) (st' := []) rfl ?_
            rw [zI_s1]
            exact ih (s + 1) ⟨by omega, hs3⟩ (by omega)
          · simp (disch := omega) only [zI_lt, zI_le, zI_eq, zI_lt0, zI_le0, zI_0lt, zI_0le, zI_eq0] at c20
            rw [if_pos (by omega)] at hs3
            refine v_run 1 (pc' := 24) (ls' := [some (.ref q), some (.int (zI ↑k)), some (.int (zI ↑sc)), some (.int (zI ↑s))]) (st' := [.int (zI ↑s)]) rfl ?_
            exact v_iret rfl rfl rfl ⟨by rw [← hs3], rfl⟩
  exact lp (sc + 1) 0 ⟨by omega, rfl⟩ (by omega)

