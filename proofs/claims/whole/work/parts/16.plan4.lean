theorem setN_b {p : Nat → Nat} {n s0 : Nat} : setN (fun s => bitN (p s) s0) (n + 1) = setN (fun s => bitN (p s) s0) n + p n / 2 ^ s0 % 2 * 2 ^ n := by
  simp only [setN]
  rcases (show p n / 2 ^ s0 % 2 = 0 ∨ p n / 2 ^ s0 % 2 = 1 by omega) with h | h <;> simp [bitN, h]
/-- who is good on the day of act s: in the past, or by their days -/
def cThen (sc : Nat) (ad : Nat → Nat) (dy : Nat) (past E : Nat → Nat) (s : Nat) : Nat := if ad s < dy then past (ad s) else setN (fun t => decide ((↑(ad s) - ↑dy : Int) < ↑(E t))) sc
theorem cThen_lt {sc : Nat} {ad : Nat → Nat} {dy : Nat} {past E : Nat → Nat} {s : Nat} (h : sc ≤ 6) (hp : ∀ k, past k < 64) : cThen sc ad dy past E s < 64 := by
  unfold cThen
  split
  · exact hp _
  · exact setN_lt64 _ h
def cAloneP (qr sc : Nat) (ad af v : Nat → Nat) (dy : Nat) (past E : Nat → Nat) : Nat → Bool := fun s => decide (qr ≤ popN (cThen sc ad dy past E s) ∧ 0 < cLead v (af s) sc (cThen sc ad dy past E s))
theorem vs_le {v : Nat → Nat} {sc : Nat} (hv : ∀ k, v k ≤ 9) (hs : sc ≤ 6) (m : Nat) : sumN (fun s => v s * (m / 2 ^ s % 2)) sc ≤ 54 := by
  have h1 := sumN_le (f := fun s => v s * (m / 2 ^ s % 2)) (c := 9) (fun k => by
    have h2 := Nat.mul_le_mul (hv k) (bitN_le m k)
    exact h2) sc
  have : sc * 9 ≤ 6 * 9 := Nat.mul_le_mul_right _ hs
  omega
theorem cLead_bd {v : Nat → Nat} {sc f m : Nat} (hv : ∀ k, v k ≤ 9) (hs : sc ≤ 6) : -54 ≤ cLead v f sc m ∧ cLead v f sc m ≤ 54 := by
  have h1 := vs_le hv hs (m &&& f)
  have h2 := vs_le hv hs (andn m f)
  unfold cLead
  omega
def cFall (F : Nat → Nat) (ac a : Nat) : Nat → Nat
  | 0 => 2 ^ a
  | s + 1 => if bitN (cRO F ac s 0) a then cFall F ac a s ||| 2 ^ s else cFall F ac a s
theorem cFall_lt {F : Nat → Nat} {ac a : Nat} (ha : a < 5) : ∀ {s : Nat}, s ≤ 5 → cFall F ac a s < 32
  | 0, _ => by
    have : 2 ^ a ≤ 2 ^ 4 := Nat.pow_le_pow_right (n := 2) (by decide) (by omega)
    simp only [cFall]; omega
  | s + 1, h => by
    have h1 := cFall_lt (F := F) (ac := ac) ha (s := s) (by omega)
    have h2 : 2 ^ s ≤ 2 ^ 4 := Nat.pow_le_pow_right (n := 2) (by decide) (by omega)
    simp only [cFall]
    split
    · exact Nat.or_lt_two_pow (n := 5) h1 (by omega)
    · exact h1
set_option maxRecDepth 100000 in
set_option maxHeartbeats 400000 in
theorem k_actsOf (G : ssG) (h : ssH) {p : Nat} {i R : Nat → Nat} {d : Int} {A : Nat → Nat → Nat} (s0 : Nat) (hp : PlanAt h p i R d A) (hi : PlanOk i A) (hs0 : s0 < 6) : ssC G mX4_actsOf 0 0 0 [.ref p, .int (zI ↑s0)] h (rI (zI ↑(setN (fun s => bitN (A 9 s) s0) (i 7))) h) := by
  refine c_of_v okX4_actsOf (by decide +kernel) (ls := [some (.ref p), some (.int (zI ↑s0)), none, none]) rfl (Nat.le_of_ble_eq_true rfl) ?_
  obtain ⟨i0, i1, i2, i3, i5, i7, a4, a6, a8, a9, a10, i11, i12, i14, i15⟩ := id hi
  refine v_run 4 (pc' := 4) (ls' := [some (.ref p), some (.int (zI ↑s0)), some (.int (zI 0)), some (.int (zI 0))]) (st' := []) rfl ?_
  have lp : ∀ (n s : Nat), s ≤ i 7 → i 7 + 1 ≤ s + n → ssV G mX4_actsOf 0 0 0 (rI (zI ↑(setN (fun s => bitN (A 9 s) s0) (i 7))) h) 4 [some (.ref p), some (.int (zI ↑s0)), some (.int (zI ↑(setN (fun s => bitN (A 9 s) s0) s))), some (.int (zI ↑s))] [] h := by
    intro n
    induction n with
    | zero => intro s hs1 hs2; exact absurd hs2 (by omega)
    | succ n ih =>
      intro s hs1 hs2
      have q1 := a9 s
      refine v_run 2 (pc' := 6) (ls' := [some (.ref p), some (.int (zI ↑s0)), some (.int (zI ↑(setN (fun s => bitN (A 9 s) s0) s))), some (.int (zI ↑s))]) (st' := [.ref p, .int (zI ↑s)]) rfl ?_
      refine v_get rfl hp.1 rfl ?_
      refine v_icmp_ge rfl (fun c9 => ?_) (fun c9 => ?_)
      · simp (disch := omega) only [zI_lt, zI_le, zI_eq, zI_lt0, zI_le0, zI_0lt, zI_0le, zI_eq0] at c9
        refine v_run 1 (pc' := 39) (ls' := [some (.ref p), some (.int (zI ↑s0)), some (.int (zI ↑(setN (fun s => bitN (A 9 s) s0) s))), some (.int (zI ↑s))]) (st' := [.int (zI ↑(setN (fun s => bitN (A 9 s) s0) s))]) rfl ?_
        exact v_iret rfl rfl rfl ⟨by rw [show s = i 7 by omega], rfl⟩
      · simp (disch := omega) only [zI_lt, zI_le, zI_eq, zI_lt0, zI_le0, zI_0lt, zI_0le, zI_eq0] at c9
        refine v_run 2 (pc' := 14) (ls' := [some (.ref p), some (.int (zI ↑s0)), some (.int (zI ↑(setN (fun s => bitN (A 9 s) s0) s))), some (.int (zI ↑s))]) (st' := [.int (zI 5), .int (zI ↑s)]) rfl ?_
        refine v_icmp_ge rfl (fun c14 => ?_) (fun c14 => ?_)
        · exfalso; revert c14; simp (disch := omega) only [zI_lt, zI_le, zI_eq, zI_lt0, zI_le0, zI_0lt, zI_0le, zI_eq0] <;> omega
        · refine v_run 2 (pc' := 19) (ls' := [some (.ref p), some (.int (zI ↑s0)), some (.int (zI ↑(setN (fun s => bitN (A 9 s) s0) s))), some (.int (zI ↑s))]) (st' := [.ref p, .int (zI ↑(setN (fun s => bitN (A 9 s) s0) s))]) rfl ?_
          refine v_get rfl hp.1 rfl ?_
          refine v_run 1 (pc' := 23) (ls' := [some (.ref p), some (.int (zI ↑s0)), some (.int (zI ↑(setN (fun s => bitN (A 9 s) s0) s))), some (.int (zI ↑s))]) (st' := [.int (zI ↑s), .ref (R 9), .int (zI ↑(setN (fun s => bitN (A 9 s) s0) s))]) rfl ?_
          refine v_iaload' rfl hp.2.2.2.2.1 (i := s) rfl (by omega) ?_
          refine v_run 10 (pc' := 4) (ls' := [some (.ref p), some (.int (zI ↑s0)), some (.int ((zI ↑(setN (fun s => bitN (A 9 s) s0) s)) ||| (((((fun j => zI ↑(A 9 j)) s) >>> ((zI ↑s0) &&& 31)) &&& (zI 1)) <<< ((zI ↑s) &&& 31)))), some (.int ((zI ↑s) + zI 1))]) (st' := []) rfl ?_
          rw [zI_bit (by omega) (by omega), zI_putb (by omega) (setN_lt _ _) (bitN_le _ _), ← setN_b, zI_s1]
          exact ih (s + 1) (by omega) (by omega)
  exact lp (i 7 + 1) 0 (by omega) (by omega)

set_option maxRecDepth 100000 in
set_option maxHeartbeats 400000 in
theorem k_goingAlone (G : ssG) (h : ssH) {p : Nat} {i R : Nat → Nat} {d : Int} {A : Nat → Nat → Nat} {q : Nat} {j S : Nat → Nat} {B : Nat → Nat → Nat} {u T : Nat} {E : Nat → Nat} (hp : PlanAt h p i R d A) (hi : PlanOk i A) (hq : MomAt h q j S B) (hj : MomOk j B) (hu : SpanAt h u T E) (hE : ∀ k, E k ≤ 99) : ssC G mX4_goingAlone 2 0 0 [.ref p, .ref q, .ref u] h (rI (zI ↑(setN (cAloneP (i 0) (i 5) (A 8) (A 9) (A 6) (j 0) (B 6) E) (i 7))) h) := by
  refine c_of_v okX4_goingAlone (by decide +kernel) (ls := [some (.ref p), some (.ref q), some (.ref u), none, none, none, none, none]) rfl (Nat.le_of_ble_eq_true rfl) ?_
  obtain ⟨i0, i1, i2, i3, i5, i7, a4, a6, a8, a9, a10, i11, i12, i14, i15⟩ := id hi
  obtain ⟨j0, j1, j2, b3, b4, b5, b6⟩ := id hj
  refine v_run 4 (pc' := 5) (ls' := [some (.ref p), some (.ref q), some (.ref u), some (.int (zI 0)), some (.int (zI 0)), none, none, none]) (st' := []) rfl ?_
  have lp : ∀ (n s : Nat), s ≤ i 7 → i 7 + 1 ≤ s + n → ssV G mX4_goingAlone 2 0 0 (rI (zI ↑(setN (cAloneP (i 0) (i 5) (A 8) (A 9) (A 6) (j 0) (B 6) E) (i 7))) h) 5 [some (.ref p), some (.ref q), some (.ref u), some (.int (zI ↑(setN (cAloneP (i 0) (i 5) (A 8) (A 9) (A 6) (j 0) (B 6) E) s))), some (.int (zI ↑s)), none, none, none] [] h := by
    intro n
    induction n with
    | zero => intro s hs1 hs2; exact absurd hs2 (by omega)
    | succ n ih =>
      intro s hs1 hs2
      have q1 := a8 s
      have q2 := a9 s
      refine v_run 2 (pc' := 8) (ls' := [some (.ref p), some (.ref q), some (.ref u), some (.int (zI ↑(setN (cAloneP (i 0) (i 5) (A 8) (A 9) (A 6) (j 0) (B 6) E) s))), some (.int (zI ↑s)), none, none, none]) (st' := [.ref p, .int (zI ↑s)]) rfl ?_
      refine v_get rfl hp.1 rfl ?_
      refine v_icmp_ge rfl (fun c11 => ?_) (fun c11 => ?_)
      · simp (disch := omega) only [zI_lt, zI_le, zI_eq, zI_lt0, zI_le0, zI_0lt, zI_0le, zI_eq0] at c11
        refine v_run 1 (pc' := 126) (ls' := [some (.ref p), some (.ref q), some (.ref u), some (.int (zI ↑(setN (cAloneP (i 0) (i 5) (A 8) (A 9) (A 6) (j 0) (B 6) E) s))), some (.int (zI ↑s)), none, none, none]) (st' := [.int (zI ↑(setN (cAloneP (i 0) (i 5) (A 8) (A 9) (A 6) (j 0) (B 6) E) s))]) rfl ?_
        exact v_iret rfl rfl rfl ⟨by rw [show s = i 7 by omega], rfl⟩
      · simp (disch := omega) only [zI_lt, zI_le, zI_eq, zI_lt0, zI_le0, zI_0lt, zI_0le, zI_eq0] at c11
        refine v_run 2 (pc' := 17) (ls' := [some (.ref p), some (.ref q), some (.ref u), some (.int (zI ↑(setN (cAloneP (i 0) (i 5) (A 8) (A 9) (A 6) (j 0) (B 6) E) s))), some (.int (zI ↑s)), none, none, none]) (st' := [.int (zI 5), .int (zI ↑s)]) rfl ?_
        refine v_icmp_ge rfl (fun c17 => ?_) (fun c17 => ?_)
        · exfalso; revert c17; simp (disch := omega) only [zI_lt, zI_le, zI_eq, zI_lt0, zI_le0, zI_0lt, zI_0le, zI_eq0] <;> omega
        · refine v_run 1 (pc' := 21) (ls' := [some (.ref p), some (.ref q), some (.ref u), some (.int (zI ↑(setN (cAloneP (i 0) (i 5) (A 8) (A 9) (A 6) (j 0) (B 6) E) s))), some (.int (zI ↑s)), none, none, none]) (st' := [.ref p]) rfl ?_
          refine v_get rfl hp.1 rfl ?_
          refine v_run 1 (pc' := 26) (ls' := [some (.ref p), some (.ref q), some (.ref u), some (.int (zI ↑(setN (cAloneP (i 0) (i 5) (A 8) (A 9) (A 6) (j 0) (B 6) E) s))), some (.int (zI ↑s)), none, none, none]) (st' := [.int (zI ↑s), .ref (R 8)]) rfl ?_
          refine v_iaload' rfl hp.2.2.2.1 (i := s) rfl (by omega) ?_
          refine v_run 3 (pc' := 32) (ls' := [some (.ref p), some (.ref q), some (.ref u), some (.int (zI ↑(setN (cAloneP (i 0) (i 5) (A 8) (A 9) (A 6) (j 0) (B 6) E) s))), some (.int (zI ↑s)), some (.int ((fun j => zI ↑(A 8 j)) s)), none, none]) (st' := [.ref q, .int ((fun j => zI ↑(A 8 j)) s)]) rfl ?_
          refine v_get rfl hq.1 rfl ?_
          refine v_icmp_ge rfl (fun c35 => ?_) (fun c35 => ?_)
          · simp (disch := omega) only [zI_lt, zI_le, zI_eq, zI_lt0, zI_le0, zI_0lt, zI_0le, zI_eq0] at c35
            refine v_run 3 (pc' := 59) (ls' := [some (.ref p), some (.ref q), some (.ref u), some (.int (zI ↑(setN (cAloneP (i 0) (i 5) (A 8) (A 9) (A 6) (j 0) (B 6) E) s))), some (.int (zI ↑s)), some (.int ((fun j => zI ↑(A 8 j)) s)), some (.int (zI 0)), none]) (st' := [.int (zI 0)]) rfl ?_
            refine v_if_eq rfl (fun c59 => ?_) (fun c59 => ?_)
            · refine v_run 3 (pc' := 76) (ls' := [some (.ref p), some (.ref q), some (.ref u), some (.int (zI ↑(setN (cAloneP (i 0) (i 5) (A 8) (A 9) (A 6) (j 0) (B 6) E) s))), some (.int (zI ↑s)), some (.int ((fun j => zI ↑(A 8 j)) s)), some (.int (zI 0)), none]) (st' := [.ref q, .int ((fun j => zI ↑(A 8 j)) s), .ref u]) rfl ?_
              refine v_get rfl hq.1 rfl ?_
              refine v_run 2 (pc' := 81) (ls' := [some (.ref p), some (.ref q), some (.ref u), some (.int (zI ↑(setN (cAloneP (i 0) (i 5) (A 8) (A 9) (A 6) (j 0) (B 6) E) s))), some (.int (zI ↑s)), some (.int ((fun j => zI ↑(A 8 j)) s)), some (.int (zI 0)), none]) (st' := [.ref p, .int (((fun j => zI ↑(A 8 j)) s) - (zI ↑(j 0))), .ref u]) rfl ?_
              refine v_get rfl hp.1 rfl ?_
              rw [show (((fun j => zI ↑(A 8 j)) s) - (zI ↑(j 0)) : Int32) = zI (↑(A 8 s) - ↑(j 0)) from zI_sub _ _]
              refine v_callV (My := mX6_goodAfter) (As := [.int (zI (↑(A 8 s) - ↑(j 0))), .int (zI ↑(i 5))]) (rest := []) (mc := 0) (ms := 0) rfl caX6_goodAfter rfl rfl rfl hu.1 rfl rfl (k_spGoodAfter G h (↑(A 8 s) - ↑(j 0)) (i 5) hu hE (by omega) i5) rfl rfl (Nat.le_of_ble_eq_true rfl) (by omega) ?_
              rintro _ _ ⟨rfl, rfl⟩
              refine v_run 0 (pc' := 87) (ls' := [some (.ref p), some (.ref q), some (.ref u), some (.int (zI ↑(setN (cAloneP (i 0) (i 5) (A 8) (A 9) (A 6) (j 0) (B 6) E) s))), some (.int (zI ↑s)), some (.int ((fun j => zI ↑(A 8 j)) s)), some (.int (zI 0)), none]) (st' := [.int (zI ↑(setN (fun t => decide ((↑(A 8 s) - ↑(j 0) : Int) < ↑(E t))) (i 5)))]) rfl ?_
              rw [show (zI ↑(setN (fun t => decide ((↑(A 8 s) - ↑(j 0) : Int) < ↑(E t))) (i 5)) : Int32) = zI ↑(cThen (i 5) (A 8) (j 0) (B 6) E s) from by rw [cThen, if_neg (by omega)]]
              refine v_run 2 (pc' := 91) (ls' := [some (.ref p), some (.ref q), some (.ref u), some (.int (zI ↑(setN (cAloneP (i 0) (i 5) (A 8) (A 9) (A 6) (j 0) (B 6) E) s))), some (.int (zI ↑s)), some (.int ((fun j => zI ↑(A 8 j)) s)), some (.int (zI 0)), some (.int (zI ↑(cThen (i 5) (A 8) (j 0) (B 6) E s)))]) (st' := [.int (zI ↑(cThen (i 5) (A 8) (j 0) (B 6) E s))]) rfl ?_
              have q5 : cThen (i 5) (A 8) (j 0) (B 6) E s < 64 := cThen_lt i5 b6
              refine v_callS (My := mJ6_bitCount_0f7a4) (As := [.int (zI ↑(cThen (i 5) (A 8) (j 0) (B 6) E s))]) (rest := []) (mc := 0) (ms := 0) rfl caJ6_bitCount_0f7a4 rfl rfl (k_bitCount G h (cThen (i 5) (A 8) (j 0) (B 6) E s) q5) rfl rfl (Nat.le_of_ble_eq_true rfl) (by omega) ?_
              rintro _ _ ⟨rfl, rfl⟩
              refine v_run 0 (pc' := 94) (ls' := [some (.ref p), some (.ref q), some (.ref u), some (.int (zI ↑(setN (cAloneP (i 0) (i 5) (A 8) (A 9) (A 6) (j 0) (B 6) E) s))), some (.int (zI ↑s)), some (.int ((fun j => zI ↑(A 8 j)) s)), some (.int (zI 0)), some (.int (zI ↑(cThen (i 5) (A 8) (j 0) (B 6) E s)))]) (st' := [.int (zI ↑(popN (cThen (i 5) (A 8) (j 0) (B 6) E s)))]) rfl ?_
              have q6 := popN_le (cThen (i 5) (A 8) (j 0) (B 6) E s)
              refine v_run 1 (pc' := 95) (ls' := [some (.ref p), some (.ref q), some (.ref u), some (.int (zI ↑(setN (cAloneP (i 0) (i 5) (A 8) (A 9) (A 6) (j 0) (B 6) E) s))), some (.int (zI ↑s)), some (.int ((fun j => zI ↑(A 8 j)) s)), some (.int (zI 0)), some (.int (zI ↑(cThen (i 5) (A 8) (j 0) (B 6) E s)))]) (st' := [.ref p, .int (zI ↑(popN (cThen (i 5) (A 8) (j 0) (B 6) E s)))]) rfl ?_
              refine v_get rfl hp.1 rfl ?_
              refine v_icmp_lt rfl (fun c98 => ?_) (fun c98 => ?_)
              · simp (disch := omega) only [zI_lt, zI_le, zI_eq, zI_lt0, zI_le0, zI_0lt, zI_0le, zI_eq0] at c98
                refine v_run 2 (pc' := 5) (ls' := [some (.ref p), some (.ref q), some (.ref u), some (.int (zI ↑(setN (cAloneP (i 0) (i 5) (A 8) (A 9) (A 6) (j 0) (B 6) E) s))), some (.int ((zI ↑s) + zI 1)), some (.int ((fun j => zI ↑(A 8 j)) s)), some (.int (zI 0)), some (.int (zI ↑(cThen (i 5) (A 8) (j 0) (B 6) E s)))]) (st' := []) rfl ?_
                refine v_drop 5 (ls' := [some (.ref p), some (.ref q), some (.ref u), some (.int (zI ↑(setN (cAloneP (i 0) (i 5) (A 8) (A 9) (A 6) (j 0) (B 6) E) s))), some (.int ((zI ↑s) + zI 1)), none, some (.int (zI 0)), some (.int (zI ↑(cThen (i 5) (A 8) (j 0) (B 6) E s)))]) rfl ?_
                refine v_drop 6 (ls' := [some (.ref p), some (.ref q), some (.ref u), some (.int (zI ↑(setN (cAloneP (i 0) (i 5) (A 8) (A 9) (A 6) (j 0) (B 6) E) s))), some (.int ((zI ↑s) + zI 1)), none, none, some (.int (zI ↑(cThen (i 5) (A 8) (j 0) (B 6) E s)))]) rfl ?_
                refine v_drop 7 (ls' := [some (.ref p), some (.ref q), some (.ref u), some (.int (zI ↑(setN (cAloneP (i 0) (i 5) (A 8) (A 9) (A 6) (j 0) (B 6) E) s))), some (.int ((zI ↑s) + zI 1)), none, none, none]) rfl ?_
                rw [← setN_f (p := cAloneP (i 0) (i 5) (A 8) (A 9) (A 6) (j 0) (B 6) E) (n := s) (decide_eq_false (by rintro ⟨_, _⟩; omega)), zI_s1]
                exact ih (s + 1) (by omega) (by omega)
              · simp (disch := omega) only [zI_lt, zI_le, zI_eq, zI_lt0, zI_le0, zI_0lt, zI_0le, zI_eq0] at c98
                refine v_run 3 (pc' := 106) (ls' := [some (.ref p), some (.ref q), some (.ref u), some (.int (zI ↑(setN (cAloneP (i 0) (i 5) (A 8) (A 9) (A 6) (j 0) (B 6) E) s))), some (.int (zI ↑s)), some (.int ((fun j => zI ↑(A 8 j)) s)), some (.int (zI 0)), some (.int (zI ↑(cThen (i 5) (A 8) (j 0) (B 6) E s)))]) (st' := [.int (zI ↑(cThen (i 5) (A 8) (j 0) (B 6) E s)), .int (zI ↑s), .ref p]) rfl ?_
                refine v_callV (My := mX4_leadOf) (As := [.int (zI ↑s), .int (zI ↑(cThen (i 5) (A 8) (j 0) (B 6) E s))]) (rest := []) (mc := 0) (ms := 0) rfl caX4_leadOf rfl rfl rfl hp.1 rfl rfl (k_leadOf G h s (cThen (i 5) (A 8) (j 0) (B 6) E s) hp hi (by omega) q5) rfl rfl (Nat.le_of_ble_eq_true rfl) (by omega) ?_
                rintro _ _ ⟨rfl, rfl⟩
                refine v_run 0 (pc' := 109) (ls' := [some (.ref p), some (.ref q), some (.ref u), some (.int (zI ↑(setN (cAloneP (i 0) (i 5) (A 8) (A 9) (A 6) (j 0) (B 6) E) s))), some (.int (zI ↑s)), some (.int ((fun j => zI ↑(A 8 j)) s)), some (.int (zI 0)), some (.int (zI ↑(cThen (i 5) (A 8) (j 0) (B 6) E s)))]) (st' := [.int (zI (cLead (A 6) (A 9 s) (i 5) (cThen (i 5) (A 8) (j 0) (B 6) E s)))]) rfl ?_
                have q7 := cLead_bd a6 i5 (f := A 9 s) (m := cThen (i 5) (A 8) (j 0) (B 6) E s)
                refine v_if_le rfl (fun c109 => ?_) (fun c109 => ?_)
                · simp (disch := omega) only [zI_lt, zI_le, zI_eq, zI_lt0, zI_le0, zI_0lt, zI_0le, zI_eq0] at c109
                  refine v_run 2 (pc' := 5) (ls' := [some (.ref p), some (.ref q), some (.ref u), some (.int (zI ↑(setN (cAloneP (i 0) (i 5) (A 8) (A 9) (A 6) (j 0) (B 6) E) s))), some (.int ((zI ↑s) + zI 1)), some (.int ((fun j => zI ↑(A 8 j)) s)), some (.int (zI 0)), some (.int (zI ↑(cThen (i 5) (A 8) (j 0) (B 6) E s)))]) (st' := []) rfl ?_
                  refine v_drop 5 (ls' := [some (.ref p), some (.ref q), some (.ref u), some (.int (zI ↑(setN (cAloneP (i 0) (i 5) (A 8) (A 9) (A 6) (j 0) (B 6) E) s))), some (.int ((zI ↑s) + zI 1)), none, some (.int (zI 0)), some (.int (zI ↑(cThen (i 5) (A 8) (j 0) (B 6) E s)))]) rfl ?_
                  refine v_drop 6 (ls' := [some (.ref p), some (.ref q), some (.ref u), some (.int (zI ↑(setN (cAloneP (i 0) (i 5) (A 8) (A 9) (A 6) (j 0) (B 6) E) s))), some (.int ((zI ↑s) + zI 1)), none, none, some (.int (zI ↑(cThen (i 5) (A 8) (j 0) (B 6) E s)))]) rfl ?_
                  refine v_drop 7 (ls' := [some (.ref p), some (.ref q), some (.ref u), some (.int (zI ↑(setN (cAloneP (i 0) (i 5) (A 8) (A 9) (A 6) (j 0) (B 6) E) s))), some (.int ((zI ↑s) + zI 1)), none, none, none]) rfl ?_
                  rw [← setN_f (p := cAloneP (i 0) (i 5) (A 8) (A 9) (A 6) (j 0) (B 6) E) (n := s) (decide_eq_false (by rintro ⟨_, _⟩; omega)), zI_s1]
                  exact ih (s + 1) (by omega) (by omega)
                · simp (disch := omega) only [zI_lt, zI_le, zI_eq, zI_lt0, zI_le0, zI_0lt, zI_0le, zI_eq0] at c109
                  refine v_run 8 (pc' := 5) (ls' := [some (.ref p), some (.ref q), some (.ref u), some (.int ((zI ↑(setN (cAloneP (i 0) (i 5) (A 8) (A 9) (A 6) (j 0) (B 6) E) s)) ||| ((zI 1) <<< ((zI ↑s) &&& 31)))), some (.int ((zI ↑s) + zI 1)), some (.int ((fun j => zI ↑(A 8 j)) s)), some (.int (zI 0)), some (.int (zI ↑(cThen (i 5) (A 8) (j 0) (B 6) E s)))]) (st' := []) rfl ?_
                  refine v_drop 5 (ls' := [some (.ref p), some (.ref q), some (.ref u), some (.int ((zI ↑(setN (cAloneP (i 0) (i 5) (A 8) (A 9) (A 6) (j 0) (B 6) E) s)) ||| ((zI 1) <<< ((zI ↑s) &&& 31)))), some (.int ((zI ↑s) + zI 1)), none, some (.int (zI 0)), some (.int (zI ↑(cThen (i 5) (A 8) (j 0) (B 6) E s)))]) rfl ?_
                  refine v_drop 6 (ls' := [some (.ref p), some (.ref q), some (.ref u), some (.int ((zI ↑(setN (cAloneP (i 0) (i 5) (A 8) (A 9) (A 6) (j 0) (B 6) E) s)) ||| ((zI 1) <<< ((zI ↑s) &&& 31)))), some (.int ((zI ↑s) + zI 1)), none, none, some (.int (zI ↑(cThen (i 5) (A 8) (j 0) (B 6) E s)))]) rfl ?_
                  refine v_drop 7 (ls' := [some (.ref p), some (.ref q), some (.ref u), some (.int ((zI ↑(setN (cAloneP (i 0) (i 5) (A 8) (A 9) (A 6) (j 0) (B 6) E) s)) ||| ((zI 1) <<< ((zI ↑s) &&& 31)))), some (.int ((zI ↑s) + zI 1)), none, none, none]) rfl ?_
                  rw [zI_put (by omega) (setN_lt _ _), ← setN_t (p := cAloneP (i 0) (i 5) (A 8) (A 9) (A 6) (j 0) (B 6) E) (n := s) (decide_eq_true ⟨by omega, by omega⟩), zI_s1]
                  exact ih (s + 1) (by omega) (by omega)
            · exact absurd zI_0.symm c59
          · simp (disch := omega) only [zI_lt, zI_le, zI_eq, zI_lt0, zI_le0, zI_0lt, zI_0le, zI_eq0] at c35
            refine v_run 1 (pc' := 40) (ls' := [some (.ref p), some (.ref q), some (.ref u), some (.int (zI ↑(setN (cAloneP (i 0) (i 5) (A 8) (A 9) (A 6) (j 0) (B 6) E) s))), some (.int (zI ↑s)), some (.int ((fun j => zI ↑(A 8 j)) s)), none, none]) (st' := [.int ((fun j => zI ↑(A 8 j)) s)]) rfl ?_
            refine v_if_lt rfl (fun c40 => ?_) (fun c40 => ?_)
            · exfalso; revert c40; simp (disch := omega) only [zI_lt, zI_le, zI_eq, zI_lt0, zI_le0, zI_0lt, zI_0le, zI_eq0] <;> omega
            · refine v_run 2 (pc' := 47) (ls' := [some (.ref p), some (.ref q), some (.ref u), some (.int (zI ↑(setN (cAloneP (i 0) (i 5) (A 8) (A 9) (A 6) (j 0) (B 6) E) s))), some (.int (zI ↑s)), some (.int ((fun j => zI ↑(A 8 j)) s)), none, none]) (st' := [.int (zI 40), .int ((fun j => zI ↑(A 8 j)) s)]) rfl ?_
              refine v_icmp_gt rfl (fun c47 => ?_) (fun c47 => ?_)
              · exfalso; revert c47; simp (disch := omega) only [zI_lt, zI_le, zI_eq, zI_lt0, zI_le0, zI_0lt, zI_0le, zI_eq0] <;> omega
              · refine v_run 4 (pc' := 59) (ls' := [some (.ref p), some (.ref q), some (.ref u), some (.int (zI ↑(setN (cAloneP (i 0) (i 5) (A 8) (A 9) (A 6) (j 0) (B 6) E) s))), some (.int (zI ↑s)), some (.int ((fun j => zI ↑(A 8 j)) s)), some (.int (zI 1)), none]) (st' := [.int (zI 1)]) rfl ?_
                refine v_if_eq rfl (fun c59 => ?_) (fun c59 => ?_)
                · exfalso; revert c59; simp (disch := omega) only [zI_lt, zI_le, zI_eq, zI_lt0, zI_le0, zI_0lt, zI_0le, zI_eq0] <;> omega
                · refine v_run 1 (pc' := 63) (ls' := [some (.ref p), some (.ref q), some (.ref u), some (.int (zI ↑(setN (cAloneP (i 0) (i 5) (A 8) (A 9) (A 6) (j 0) (B 6) E) s))), some (.int (zI ↑s)), some (.int ((fun j => zI ↑(A 8 j)) s)), some (.int (zI 1)), none]) (st' := [.ref q]) rfl ?_
                  refine v_get rfl hq.1 rfl ?_
                  refine v_run 1 (pc' := 68) (ls' := [some (.ref p), some (.ref q), some (.ref u), some (.int (zI ↑(setN (cAloneP (i 0) (i 5) (A 8) (A 9) (A 6) (j 0) (B 6) E) s))), some (.int (zI ↑s)), some (.int ((fun j => zI ↑(A 8 j)) s)), some (.int (zI 1)), none]) (st' := [.int ((fun j => zI ↑(A 8 j)) s), .ref (S 6)]) rfl ?_
                  refine v_iaload' rfl hq.2.2.2.2 (i := A 8 s) rfl (by omega) ?_
                  rw [show (zI ↑(B 6 (A 8 s)) : Int32) = zI ↑(cThen (i 5) (A 8) (j 0) (B 6) E s) from by rw [cThen, if_pos (by omega)]]
                  refine v_run 3 (pc' := 91) (ls' := [some (.ref p), some (.ref q), some (.ref u), some (.int (zI ↑(setN (cAloneP (i 0) (i 5) (A 8) (A 9) (A 6) (j 0) (B 6) E) s))), some (.int (zI ↑s)), some (.int ((fun j => zI ↑(A 8 j)) s)), some (.int (zI 1)), some (.int (zI ↑(cThen (i 5) (A 8) (j 0) (B 6) E s)))]) (st' := [.int (zI ↑(cThen (i 5) (A 8) (j 0) (B 6) E s))]) rfl ?_
                  have q5 : cThen (i 5) (A 8) (j 0) (B 6) E s < 64 := cThen_lt i5 b6
                  refine v_callS (My := mJ6_bitCount_0f7a4) (As := [.int (zI ↑(cThen (i 5) (A 8) (j 0) (B 6) E s))]) (rest := []) (mc := 0) (ms := 0) rfl caJ6_bitCount_0f7a4 rfl rfl (k_bitCount G h (cThen (i 5) (A 8) (j 0) (B 6) E s) q5) rfl rfl (Nat.le_of_ble_eq_true rfl) (by omega) ?_
                  rintro _ _ ⟨rfl, rfl⟩
                  refine v_run 0 (pc' := 94) (ls' := [some (.ref p), some (.ref q), some (.ref u), some (.int (zI ↑(setN (cAloneP (i 0) (i 5) (A 8) (A 9) (A 6) (j 0) (B 6) E) s))), some (.int (zI ↑s)), some (.int ((fun j => zI ↑(A 8 j)) s)), some (.int (zI 1)), some (.int (zI ↑(cThen (i 5) (A 8) (j 0) (B 6) E s)))]) (st' := [.int (zI ↑(popN (cThen (i 5) (A 8) (j 0) (B 6) E s)))]) rfl ?_
                  have q6 := popN_le (cThen (i 5) (A 8) (j 0) (B 6) E s)
                  refine v_run 1 (pc' := 95) (ls' := [some (.ref p), some (.ref q), some (.ref u), some (.int (zI ↑(setN (cAloneP (i 0) (i 5) (A 8) (A 9) (A 6) (j 0) (B 6) E) s))), some (.int (zI ↑s)), some (.int ((fun j => zI ↑(A 8 j)) s)), some (.int (zI 1)), some (.int (zI ↑(cThen (i 5) (A 8) (j 0) (B 6) E s)))]) (st' := [.ref p, .int (zI ↑(popN (cThen (i 5) (A 8) (j 0) (B 6) E s)))]) rfl ?_
                  refine v_get rfl hp.1 rfl ?_
                  refine v_icmp_lt rfl (fun c98 => ?_) (fun c98 => ?_)
                  · simp (disch := omega) only [zI_lt, zI_le, zI_eq, zI_lt0, zI_le0, zI_0lt, zI_0le, zI_eq0] at c98
                    refine v_run 2 (pc' := 5) (ls' := [some (.ref p), some (.ref q), some (.ref u), some (.int (zI ↑(setN (cAloneP (i 0) (i 5) (A 8) (A 9) (A 6) (j 0) (B 6) E) s))), some (.int ((zI ↑s) + zI 1)), some (.int ((fun j => zI ↑(A 8 j)) s)), some (.int (zI 1)), some (.int (zI ↑(cThen (i 5) (A 8) (j 0) (B 6) E s)))]) (st' := []) rfl ?_
                    refine v_drop 5 (ls' := [some (.ref p), some (.ref q), some (.ref u), some (.int (zI ↑(setN (cAloneP (i 0) (i 5) (A 8) (A 9) (A 6) (j 0) (B 6) E) s))), some (.int ((zI ↑s) + zI 1)), none, some (.int (zI 1)), some (.int (zI ↑(cThen (i 5) (A 8) (j 0) (B 6) E s)))]) rfl ?_
                    refine v_drop 6 (ls' := [some (.ref p), some (.ref q), some (.ref u), some (.int (zI ↑(setN (cAloneP (i 0) (i 5) (A 8) (A 9) (A 6) (j 0) (B 6) E) s))), some (.int ((zI ↑s) + zI 1)), none, none, some (.int (zI ↑(cThen (i 5) (A 8) (j 0) (B 6) E s)))]) rfl ?_
                    refine v_drop 7 (ls' := [some (.ref p), some (.ref q), some (.ref u), some (.int (zI ↑(setN (cAloneP (i 0) (i 5) (A 8) (A 9) (A 6) (j 0) (B 6) E) s))), some (.int ((zI ↑s) + zI 1)), none, none, none]) rfl ?_
                    rw [← setN_f (p := cAloneP (i 0) (i 5) (A 8) (A 9) (A 6) (j 0) (B 6) E) (n := s) (decide_eq_false (by rintro ⟨_, _⟩; omega)), zI_s1]
                    exact ih (s + 1) (by omega) (by omega)
                  · simp (disch := omega) only [zI_lt, zI_le, zI_eq, zI_lt0, zI_le0, zI_0lt, zI_0le, zI_eq0] at c98
                    refine v_run 3 (pc' := 106) (ls' := [some (.ref p), some (.ref q), some (.ref u), some (.int (zI ↑(setN (cAloneP (i 0) (i 5) (A 8) (A 9) (A 6) (j 0) (B 6) E) s))), some (.int (zI ↑s)), some (.int ((fun j => zI ↑(A 8 j)) s)), some (.int (zI 1)), some (.int (zI ↑(cThen (i 5) (A 8) (j 0) (B 6) E s)))]) (st' := [.int (zI ↑(cThen (i 5) (A 8) (j 0) (B 6) E s)), .int (zI ↑s), .ref p]) rfl ?_
                    refine v_callV (My := mX4_leadOf) (As := [.int (zI ↑s), .int (zI ↑(cThen (i 5) (A 8) (j 0) (B 6) E s))]) (rest := []) (mc := 0) (ms := 0) rfl caX4_leadOf rfl rfl rfl hp.1 rfl rfl (k_leadOf G h s (cThen (i 5) (A 8) (j 0) (B 6) E s) hp hi (by omega) q5) rfl rfl (Nat.le_of_ble_eq_true rfl) (by omega) ?_
                    rintro _ _ ⟨rfl, rfl⟩
                    refine v_run 0 (pc' := 109) (ls' := [some (.ref p), some (.ref q), some (.ref u), some (.int (zI ↑(setN (cAloneP (i 0) (i 5) (A 8) (A 9) (A 6) (j 0) (B 6) E) s))), some (.int (zI ↑s)), some (.int ((fun j => zI ↑(A 8 j)) s)), some (.int (zI 1)), some (.int (zI ↑(cThen (i 5) (A 8) (j 0) (B 6) E s)))]) (st' := [.int (zI (cLead (A 6) (A 9 s) (i 5) (cThen (i 5) (A 8) (j 0) (B 6) E s)))]) rfl ?_
                    have q7 := cLead_bd a6 i5 (f := A 9 s) (m := cThen (i 5) (A 8) (j 0) (B 6) E s)
                    refine v_if_le rfl (fun c109 => ?_) (fun c109 => ?_)
                    · simp (disch := omega) only [zI_lt, zI_le, zI_eq, zI_lt0, zI_le0, zI_0lt, zI_0le, zI_eq0] at c109
                      refine v_run 2 (pc' := 5) (ls' := [some (.ref p), some (.ref q), some (.ref u), some (.int (zI ↑(setN (cAloneP (i 0) (i 5) (A 8) (A 9) (A 6) (j 0) (B 6) E) s))), some (.int ((zI ↑s) + zI 1)), some (.int ((fun j => zI ↑(A 8 j)) s)), some (.int (zI 1)), some (.int (zI ↑(cThen (i 5) (A 8) (j 0) (B 6) E s)))]) (st' := []) rfl ?_
                      refine v_drop 5 (ls' := [some (.ref p), some (.ref q), some (.ref u), some (.int (zI ↑(setN (cAloneP (i 0) (i 5) (A 8) (A 9) (A 6) (j 0) (B 6) E) s))), some (.int ((zI ↑s) + zI 1)), none, some (.int (zI 1)), some (.int (zI ↑(cThen (i 5) (A 8) (j 0) (B 6) E s)))]) rfl ?_
                      refine v_drop 6 (ls' := [some (.ref p), some (.ref q), some (.ref u), some (.int (zI ↑(setN (cAloneP (i 0) (i 5) (A 8) (A 9) (A 6) (j 0) (B 6) E) s))), some (.int ((zI ↑s) + zI 1)), none, none, some (.int (zI ↑(cThen (i 5) (A 8) (j 0) (B 6) E s)))]) rfl ?_
                      refine v_drop 7 (ls' := [some (.ref p), some (.ref q), some (.ref u), some (.int (zI ↑(setN (cAloneP (i 0) (i 5) (A 8) (A 9) (A 6) (j 0) (B 6) E) s))), some (.int ((zI ↑s) + zI 1)), none, none, none]) rfl ?_
                      rw [← setN_f (p := cAloneP (i 0) (i 5) (A 8) (A 9) (A 6) (j 0) (B 6) E) (n := s) (decide_eq_false (by rintro ⟨_, _⟩; omega)), zI_s1]
                      exact ih (s + 1) (by omega) (by omega)
                    · simp (disch := omega) only [zI_lt, zI_le, zI_eq, zI_lt0, zI_le0, zI_0lt, zI_0le, zI_eq0] at c109
                      refine v_run 8 (pc' := 5) (ls' := [some (.ref p), some (.ref q), some (.ref u), some (.int ((zI ↑(setN (cAloneP (i 0) (i 5) (A 8) (A 9) (A 6) (j 0) (B 6) E) s)) ||| ((zI 1) <<< ((zI ↑s) &&& 31)))), some (.int ((zI ↑s) + zI 1)), some (.int ((fun j => zI ↑(A 8 j)) s)), some (.int (zI 1)), some (.int (zI ↑(cThen (i 5) (A 8) (j 0) (B 6) E s)))]) (st' := []) rfl ?_
                      refine v_drop 5 (ls' := [some (.ref p), some (.ref q), some (.ref u), some (.int ((zI ↑(setN (cAloneP (i 0) (i 5) (A 8) (A 9) (A 6) (j 0) (B 6) E) s)) ||| ((zI 1) <<< ((zI ↑s) &&& 31)))), some (.int ((zI ↑s) + zI 1)), none, some (.int (zI 1)), some (.int (zI ↑(cThen (i 5) (A 8) (j 0) (B 6) E s)))]) rfl ?_
                      refine v_drop 6 (ls' := [some (.ref p), some (.ref q), some (.ref u), some (.int ((zI ↑(setN (cAloneP (i 0) (i 5) (A 8) (A 9) (A 6) (j 0) (B 6) E) s)) ||| ((zI 1) <<< ((zI ↑s) &&& 31)))), some (.int ((zI ↑s) + zI 1)), none, none, some (.int (zI ↑(cThen (i 5) (A 8) (j 0) (B 6) E s)))]) rfl ?_
                      refine v_drop 7 (ls' := [some (.ref p), some (.ref q), some (.ref u), some (.int ((zI ↑(setN (cAloneP (i 0) (i 5) (A 8) (A 9) (A 6) (j 0) (B 6) E) s)) ||| ((zI 1) <<< ((zI ↑s) &&& 31)))), some (.int ((zI ↑s) + zI 1)), none, none, none]) rfl ?_
                      rw [zI_put (by omega) (setN_lt _ _), ← setN_t (p := cAloneP (i 0) (i 5) (A 8) (A 9) (A 6) (j 0) (B 6) E) (n := s) (decide_eq_true ⟨by omega, by omega⟩), zI_s1]
                      exact ih (s + 1) (by omega) (by omega)
  exact lp (i 7 + 1) 0 (by omega) (by omega)

set_option maxRecDepth 100000 in
set_option maxHeartbeats 400000 in
theorem k_fallingWith (G : ssG) (h : ssH) {p : Nat} {i R : Nat → Nat} {d : Int} {A : Nat → Nat → Nat} (a : Nat) (hp : PlanAt h p i R d A) (hi : PlanOk i A) (ha : a < 5) : ssC G mX4_fallingWith 1 0 0 [.ref p, .int (zI ↑a)] h (rI (zI ↑(cFall (A 10) (i 7) a (i 7))) h) := by
  refine c_of_v okX4_fallingWith (by decide +kernel) (ls := [some (.ref p), some (.int (zI ↑a)), none, none]) rfl (Nat.le_of_ble_eq_true rfl) ?_
  obtain ⟨i0, i1, i2, i3, i5, i7, a4, a6, a8, a9, a10, i11, i12, i14, i15⟩ := id hi
  refine v_run 3 (pc' := 3) (ls' := [some (.ref p), some (.int (zI ↑a)), none, none]) (st' := [.int ((zI 1) <<< ((zI ↑a) &&& 31))]) rfl ?_
  rw [show ((zI 1) <<< ((zI ↑a) &&& 31) : Int32) = zI ↑(2 ^ a) from zI_1shl (by omega)]
  refine v_run 3 (pc' := 6) (ls' := [some (.ref p), some (.int (zI ↑a)), some (.int (zI ↑(2 ^ a))), some (.int (zI 0))]) (st' := []) rfl ?_
  have lp : ∀ (n s : Nat), s ≤ i 7 → i 7 + 1 ≤ s + n → ssV G mX4_fallingWith 1 0 0 (rI (zI ↑(cFall (A 10) (i 7) a (i 7))) h) 6 [some (.ref p), some (.int (zI ↑a)), some (.int (zI ↑(cFall (A 10) (i 7) a s))), some (.int (zI ↑s))] [] h := by
    intro n
    induction n with
    | zero => intro s hs1 hs2; exact absurd hs2 (by omega)
    | succ n ih =>
      intro s hs1 hs2
      have q1 := cFall_lt (F := A 10) (ac := i 7) ha (s := s) (by omega)
      have q2 := cRO_lt (F := A 10) (ac := i 7) (a := s) (st := 0) a10
      refine v_run 2 (pc' := 8) (ls' := [some (.ref p), some (.int (zI ↑a)), some (.int (zI ↑(cFall (A 10) (i 7) a s))), some (.int (zI ↑s))]) (st' := [.ref p, .int (zI ↑s)]) rfl ?_
      refine v_get rfl hp.1 rfl ?_
      refine v_icmp_ge rfl (fun c11 => ?_) (fun c11 => ?_)
      · simp (disch := omega) only [zI_lt, zI_le, zI_eq, zI_lt0, zI_le0, zI_0lt, zI_0le, zI_eq0] at c11
        refine v_run 1 (pc' := 46) (ls' := [some (.ref p), some (.int (zI ↑a)), some (.int (zI ↑(cFall (A 10) (i 7) a s))), some (.int (zI ↑s))]) (st' := [.int (zI ↑(cFall (A 10) (i 7) a s))]) rfl ?_
        exact v_iret rfl rfl rfl ⟨by rw [show s = i 7 by omega], rfl⟩
      · simp (disch := omega) only [zI_lt, zI_le, zI_eq, zI_lt0, zI_le0, zI_0lt, zI_0le, zI_eq0] at c11
        refine v_run 2 (pc' := 16) (ls' := [some (.ref p), some (.int (zI ↑a)), some (.int (zI ↑(cFall (A 10) (i 7) a s))), some (.int (zI ↑s))]) (st' := [.int (zI 5), .int (zI ↑s)]) rfl ?_
        refine v_icmp_ge rfl (fun c16 => ?_) (fun c16 => ?_)
        · exfalso; revert c16; simp (disch := omega) only [zI_lt, zI_le, zI_eq, zI_lt0, zI_le0, zI_0lt, zI_0le, zI_eq0] <;> omega
        · refine v_run 3 (pc' := 22) (ls' := [some (.ref p), some (.int (zI ↑a)), some (.int (zI ↑(cFall (A 10) (i 7) a s))), some (.int (zI ↑s))]) (st' := [.int (zI 0), .int (zI ↑s), .ref p]) rfl ?_
          refine v_callV (My := mX4_restsOn) (As := [.int (zI ↑s), .int (zI 0)]) (rest := []) (mc := 0) (ms := 0) rfl caX4_restsOn rfl rfl rfl hp.1 rfl rfl (k_restsOn G h s 0 hp hi (by omega) (by omega)) rfl rfl (Nat.le_of_ble_eq_true rfl) (by omega) ?_
          rintro _ _ ⟨rfl, rfl⟩
          refine v_run 0 (pc' := 25) (ls' := [some (.ref p), some (.int (zI ↑a)), some (.int (zI ↑(cFall (A 10) (i 7) a s))), some (.int (zI ↑s))]) (st' := [.int (zI ↑(cRO (A 10) (i 7) s 0))]) rfl ?_
          refine v_run 5 (pc' := 30) (ls' := [some (.ref p), some (.int (zI ↑a)), some (.int (zI ↑(cFall (A 10) (i 7) a s))), some (.int (zI ↑s))]) (st' := [.int (zI 1), .int (((zI ↑(cRO (A 10) (i 7) s 0)) >>> ((zI ↑a) &&& 31)) &&& (zI 1))]) rfl ?_
          rw [show (((zI ↑(cRO (A 10) (i 7) s 0)) >>> ((zI ↑a) &&& 31)) &&& (zI 1) : Int32) = zI ↑(cRO (A 10) (i 7) s 0 / 2 ^ a % 2) from zI_bit (by omega) (by omega)]
          refine v_icmp_ne rfl (fun c30 => ?_) (fun c30 => ?_)
          · simp (disch := omega) only [zI_lt, zI_le, zI_eq, zI_lt0, zI_le0, zI_0lt, zI_0le, zI_eq0] at c30
            refine v_run 2 (pc' := 6) (ls' := [some (.ref p), some (.int (zI ↑a)), some (.int (zI ↑(cFall (A 10) (i 7) a s))), some (.int ((zI ↑s) + zI 1))]) (st' := []) rfl ?_
            rw [show cFall (A 10) (i 7) a s = cFall (A 10) (i 7) a (s + 1) by simp only [cFall]; rw [if_neg (by rw [bitN_true]; omega)], zI_s1]
            exact ih (s + 1) (by omega) (by omega)
          · simp (disch := omega) only [zI_lt, zI_le, zI_eq, zI_lt0, zI_le0, zI_0lt, zI_0le, zI_eq0] at c30
            refine v_run 8 (pc' := 6) (ls' := [some (.ref p), some (.int (zI ↑a)), some (.int ((zI ↑(cFall (A 10) (i 7) a s)) ||| ((zI 1) <<< ((zI ↑s) &&& 31)))), some (.int ((zI ↑s) + zI 1))]) (st' := []) rfl ?_
            have q3 : 2 ^ s ≤ 2 ^ 4 := Nat.pow_le_pow_right (n := 2) (by decide) (by omega)
            rw [zI_1shl (by omega), zI_lor (by omega) (by omega), show cFall (A 10) (i 7) a s ||| 2 ^ s = cFall (A 10) (i 7) a (s + 1) by simp only [cFall]; rw [if_pos (by rw [bitN_true]; omega)], zI_s1]
            exact ih (s + 1) (by omega) (by omega)
  exact lp (i 7 + 1) 0 (by omega) (by omega)

set_option maxRecDepth 100000 in
set_option maxHeartbeats 400000 in
theorem k_swingsOf (G : ssG) (h : ssH) {p : Nat} {i R : Nat → Nat} {d : Int} {A : Nat → Nat → Nat} (s0 g : Nat) (hp : PlanAt h p i R d A) (hi : PlanOk i A) (hs0 : s0 < 6) (hg : g < 64) : ssC G mX4_swingsOf 1 0 0 [.ref p, .int (zI ↑s0), .int (zI ↑g)] h (rI (zI ↑(sumN (fun s => if andn s (andn g (2 ^ s0)) = 0 ∧ 2 * sumN (fun t => A 6 t * (s / 2 ^ t % 2)) (i 5) ≤ sumN (fun t => A 6 t * (g / 2 ^ t % 2)) (i 5) ∧ sumN (fun t => A 6 t * (g / 2 ^ t % 2)) (i 5) < 2 * sumN (fun t => A 6 t * (s / 2 ^ t % 2)) (i 5) + 2 * A 6 s0 then 1 else 0) 64)) h) := by
  refine c_of_v okX4_swingsOf (by decide +kernel) (ls := [some (.ref p), some (.int (zI ↑s0)), some (.int (zI ↑g)), none, none, none, none, none, none]) rfl (Nat.le_of_ble_eq_true rfl) ?_
  obtain ⟨i0, i1, i2, i3, i5, i7, a4, a6, a8, a9, a10, i11, i12, i14, i15⟩ := id hi
  have hp2 : 2 ^ s0 ≤ 2 ^ 5 := Nat.pow_le_pow_right (n := 2) (by decide) (by omega)
  have q0 := andn_lt (b := 2 ^ s0) (m := g) (n := 6) hg
  have q1 := vs_le a6 i5 g
  have q2 := a6 s0
  refine v_run 7 (pc' := 7) (ls' := [some (.ref p), some (.int (zI ↑s0)), some (.int (zI ↑g)), none, none, none, none, none, none]) (st' := [.int ((zI ↑g) &&& (((zI 1) <<< ((zI ↑s0) &&& 31)) ^^^ (zI (-1))))]) rfl ?_
  rw [show ((zI ↑g) &&& (((zI 1) <<< ((zI ↑s0) &&& 31)) ^^^ (zI (-1))) : Int32) = zI ↑(andn g (2 ^ s0)) from by rw [zI_1shl (by omega), zI_andn (by omega) (by omega)]]
  refine v_run 3 (pc' := 10) (ls' := [some (.ref p), some (.int (zI ↑s0)), some (.int (zI ↑g)), some (.int (zI ↑(andn g (2 ^ s0)))), none, none, none, none, none]) (st' := [.int (zI ↑g), .ref p]) rfl ?_
  refine v_callV (My := mX4_votesOf) (As := [.int (zI ↑g)]) (rest := []) (mc := 0) (ms := 0) rfl caX4_votesOf rfl rfl rfl hp.1 rfl rfl (k_votesOf G h g hp hi hg) rfl rfl (Nat.le_of_ble_eq_true rfl) (by omega) ?_
  rintro _ _ ⟨rfl, rfl⟩
  refine v_run 0 (pc' := 13) (ls' := [some (.ref p), some (.int (zI ↑s0)), some (.int (zI ↑g)), some (.int (zI ↑(andn g (2 ^ s0)))), none, none, none, none, none]) (st' := [.int (zI ↑(sumN (fun t => A 6 t * (g / 2 ^ t % 2)) (i 5)))]) rfl ?_
  refine v_run 5 (pc' := 21) (ls' := [some (.ref p), some (.int (zI ↑s0)), some (.int (zI ↑g)), some (.int (zI ↑(andn g (2 ^ s0)))), some (.int (zI ↑(sumN (fun t => A 6 t * (g / 2 ^ t % 2)) (i 5)))), some (.int (zI 0)), some (.int (zI 0)), none, none]) (st' := []) rfl ?_
  have lp : ∀ (n s : Nat), s ≤ 64 → 64 + 1 ≤ s + n → ssV G mX4_swingsOf 1 0 0 (rI (zI ↑(sumN (fun s => if andn s (andn g (2 ^ s0)) = 0 ∧ 2 * sumN (fun t => A 6 t * (s / 2 ^ t % 2)) (i 5) ≤ sumN (fun t => A 6 t * (g / 2 ^ t % 2)) (i 5) ∧ sumN (fun t => A 6 t * (g / 2 ^ t % 2)) (i 5) < 2 * sumN (fun t => A 6 t * (s / 2 ^ t % 2)) (i 5) + 2 * A 6 s0 then 1 else 0) 64)) h) 21 [some (.ref p), some (.int (zI ↑s0)), some (.int (zI ↑g)), some (.int (zI ↑(andn g (2 ^ s0)))), some (.int (zI ↑(sumN (fun t => A 6 t * (g / 2 ^ t % 2)) (i 5)))), some (.int (zI ↑(sumN (fun s => if andn s (andn g (2 ^ s0)) = 0 ∧ 2 * sumN (fun t => A 6 t * (s / 2 ^ t % 2)) (i 5) ≤ sumN (fun t => A 6 t * (g / 2 ^ t % 2)) (i 5) ∧ sumN (fun t => A 6 t * (g / 2 ^ t % 2)) (i 5) < 2 * sumN (fun t => A 6 t * (s / 2 ^ t % 2)) (i 5) + 2 * A 6 s0 then 1 else 0) s))), some (.int (zI ↑s)), none, none] [] h := by
    intro n
    induction n with
    | zero => intro s hs1 hs2; exact absurd hs2 (by omega)
    | succ n ih =>
      intro s hs1 hs2
      refine v_run 2 (pc' := 25) (ls' := [some (.ref p), some (.int (zI ↑s0)), some (.int (zI ↑g)), some (.int (zI ↑(andn g (2 ^ s0)))), some (.int (zI ↑(sumN (fun t => A 6 t * (g / 2 ^ t % 2)) (i 5)))), some (.int (zI ↑(sumN (fun s => if andn s (andn g (2 ^ s0)) = 0 ∧ 2 * sumN (fun t => A 6 t * (s / 2 ^ t % 2)) (i 5) ≤ sumN (fun t => A 6 t * (g / 2 ^ t % 2)) (i 5) ∧ sumN (fun t => A 6 t * (g / 2 ^ t % 2)) (i 5) < 2 * sumN (fun t => A 6 t * (s / 2 ^ t % 2)) (i 5) + 2 * A 6 s0 then 1 else 0) s))), some (.int (zI ↑s)), none, none]) (st' := [.int (zI 64), .int (zI ↑s)]) rfl ?_
      refine v_icmp_ge rfl (fun c25 => ?_) (fun c25 => ?_)
      · simp (disch := omega) only [zI_lt, zI_le, zI_eq, zI_lt0, zI_le0, zI_0lt, zI_0le, zI_eq0] at c25
        refine v_run 1 (pc' := 85) (ls' := [some (.ref p), some (.int (zI ↑s0)), some (.int (zI ↑g)), some (.int (zI ↑(andn g (2 ^ s0)))), some (.int (zI ↑(sumN (fun t => A 6 t * (g / 2 ^ t % 2)) (i 5)))), some (.int (zI ↑(sumN (fun s => if andn s (andn g (2 ^ s0)) = 0 ∧ 2 * sumN (fun t => A 6 t * (s / 2 ^ t % 2)) (i 5) ≤ sumN (fun t => A 6 t * (g / 2 ^ t % 2)) (i 5) ∧ sumN (fun t => A 6 t * (g / 2 ^ t % 2)) (i 5) < 2 * sumN (fun t => A 6 t * (s / 2 ^ t % 2)) (i 5) + 2 * A 6 s0 then 1 else 0) s))), some (.int (zI ↑s)), none, none]) (st' := [.int (zI ↑(sumN (fun s => if andn s (andn g (2 ^ s0)) = 0 ∧ 2 * sumN (fun t => A 6 t * (s / 2 ^ t % 2)) (i 5) ≤ sumN (fun t => A 6 t * (g / 2 ^ t % 2)) (i 5) ∧ sumN (fun t => A 6 t * (g / 2 ^ t % 2)) (i 5) < 2 * sumN (fun t => A 6 t * (s / 2 ^ t % 2)) (i 5) + 2 * A 6 s0 then 1 else 0) s))]) rfl ?_
        exact v_iret rfl rfl rfl ⟨by rw [show s = 64 by omega], rfl⟩
      · simp (disch := omega) only [zI_lt, zI_le, zI_eq, zI_lt0, zI_le0, zI_0lt, zI_0le, zI_eq0] at c25
        have q3 := vs_le a6 i5 s
        have q4 := andn_lt (b := andn g (2 ^ s0)) (m := s) (n := 6) (by omega)
        refine v_run 3 (pc' := 32) (ls' := [some (.ref p), some (.int (zI ↑s0)), some (.int (zI ↑g)), some (.int (zI ↑(andn g (2 ^ s0)))), some (.int (zI ↑(sumN (fun t => A 6 t * (g / 2 ^ t % 2)) (i 5)))), some (.int (zI ↑(sumN (fun s => if andn s (andn g (2 ^ s0)) = 0 ∧ 2 * sumN (fun t => A 6 t * (s / 2 ^ t % 2)) (i 5) ≤ sumN (fun t => A 6 t * (g / 2 ^ t % 2)) (i 5) ∧ sumN (fun t => A 6 t * (g / 2 ^ t % 2)) (i 5) < 2 * sumN (fun t => A 6 t * (s / 2 ^ t % 2)) (i 5) + 2 * A 6 s0 then 1 else 0) s))), some (.int (zI ↑s)), none, none]) (st' := [.int (zI ↑s), .ref p, .int (zI 2)]) rfl ?_
        refine v_callV (My := mX4_votesOf) (As := [.int (zI ↑s)]) (rest := [.int (zI 2)]) (mc := 0) (ms := 0) rfl caX4_votesOf rfl rfl rfl hp.1 rfl rfl (k_votesOf G h s hp hi (by omega)) rfl rfl (Nat.le_of_ble_eq_true rfl) (by omega) ?_
        rintro _ _ ⟨rfl, rfl⟩
        refine v_run 0 (pc' := 35) (ls' := [some (.ref p), some (.int (zI ↑s0)), some (.int (zI ↑g)), some (.int (zI ↑(andn g (2 ^ s0)))), some (.int (zI ↑(sumN (fun t => A 6 t * (g / 2 ^ t % 2)) (i 5)))), some (.int (zI ↑(sumN (fun s => if andn s (andn g (2 ^ s0)) = 0 ∧ 2 * sumN (fun t => A 6 t * (s / 2 ^ t % 2)) (i 5) ≤ sumN (fun t => A 6 t * (g / 2 ^ t % 2)) (i 5) ∧ sumN (fun t => A 6 t * (g / 2 ^ t % 2)) (i 5) < 2 * sumN (fun t => A 6 t * (s / 2 ^ t % 2)) (i 5) + 2 * A 6 s0 then 1 else 0) s))), some (.int (zI ↑s)), none, none]) (st' := [.int (zI ↑(sumN (fun t => A 6 t * (s / 2 ^ t % 2)) (i 5))), .int (zI 2)]) rfl ?_
        refine v_run 1 (pc' := 36) (ls' := [some (.ref p), some (.int (zI ↑s0)), some (.int (zI ↑g)), some (.int (zI ↑(andn g (2 ^ s0)))), some (.int (zI ↑(sumN (fun t => A 6 t * (g / 2 ^ t % 2)) (i 5)))), some (.int (zI ↑(sumN (fun s => if andn s (andn g (2 ^ s0)) = 0 ∧ 2 * sumN (fun t => A 6 t * (s / 2 ^ t % 2)) (i 5) ≤ sumN (fun t => A 6 t * (g / 2 ^ t % 2)) (i 5) ∧ sumN (fun t => A 6 t * (g / 2 ^ t % 2)) (i 5) < 2 * sumN (fun t => A 6 t * (s / 2 ^ t % 2)) (i 5) + 2 * A 6 s0 then 1 else 0) s))), some (.int (zI ↑s)), none, none]) (st' := [.int ((zI 2) * (zI ↑(sumN (fun t => A 6 t * (s / 2 ^ t % 2)) (i 5))))]) rfl ?_
        rw [show ((zI 2) * (zI ↑(sumN (fun t => A 6 t * (s / 2 ^ t % 2)) (i 5))) : Int32) = zI ↑(2 * sumN (fun t => A 6 t * (s / 2 ^ t % 2)) (i 5)) from zN_mul 2 _]
        refine v_run 4 (pc' := 42) (ls' := [some (.ref p), some (.int (zI ↑s0)), some (.int (zI ↑g)), some (.int (zI ↑(andn g (2 ^ s0)))), some (.int (zI ↑(sumN (fun t => A 6 t * (g / 2 ^ t % 2)) (i 5)))), some (.int (zI ↑(sumN (fun s => if andn s (andn g (2 ^ s0)) = 0 ∧ 2 * sumN (fun t => A 6 t * (s / 2 ^ t % 2)) (i 5) ≤ sumN (fun t => A 6 t * (g / 2 ^ t % 2)) (i 5) ∧ sumN (fun t => A 6 t * (g / 2 ^ t % 2)) (i 5) < 2 * sumN (fun t => A 6 t * (s / 2 ^ t % 2)) (i 5) + 2 * A 6 s0 then 1 else 0) s))), some (.int (zI ↑s)), some (.int (zI ↑(2 * sumN (fun t => A 6 t * (s / 2 ^ t % 2)) (i 5)))), none]) (st' := [.ref p, .int (zI 2), .int (zI ↑(2 * sumN (fun t => A 6 t * (s / 2 ^ t % 2)) (i 5)))]) rfl ?_
        refine v_get rfl hp.1 rfl ?_
        refine v_run 1 (pc' := 46) (ls' := [some (.ref p), some (.int (zI ↑s0)), some (.int (zI ↑g)), some (.int (zI ↑(andn g (2 ^ s0)))), some (.int (zI ↑(sumN (fun t => A 6 t * (g / 2 ^ t % 2)) (i 5)))), some (.int (zI ↑(sumN (fun s => if andn s (andn g (2 ^ s0)) = 0 ∧ 2 * sumN (fun t => A 6 t * (s / 2 ^ t % 2)) (i 5) ≤ sumN (fun t => A 6 t * (g / 2 ^ t % 2)) (i 5) ∧ sumN (fun t => A 6 t * (g / 2 ^ t % 2)) (i 5) < 2 * sumN (fun t => A 6 t * (s / 2 ^ t % 2)) (i 5) + 2 * A 6 s0 then 1 else 0) s))), some (.int (zI ↑s)), some (.int (zI ↑(2 * sumN (fun t => A 6 t * (s / 2 ^ t % 2)) (i 5)))), none]) (st' := [.int (zI ↑s0), .ref (R 6), .int (zI 2), .int (zI ↑(2 * sumN (fun t => A 6 t * (s / 2 ^ t % 2)) (i 5)))]) rfl ?_
        refine v_iaload' rfl hp.2.2.1 (i := s0) rfl (by omega) ?_
        refine v_run 2 (pc' := 49) (ls' := [some (.ref p), some (.int (zI ↑s0)), some (.int (zI ↑g)), some (.int (zI ↑(andn g (2 ^ s0)))), some (.int (zI ↑(sumN (fun t => A 6 t * (g / 2 ^ t % 2)) (i 5)))), some (.int (zI ↑(sumN (fun s => if andn s (andn g (2 ^ s0)) = 0 ∧ 2 * sumN (fun t => A 6 t * (s / 2 ^ t % 2)) (i 5) ≤ sumN (fun t => A 6 t * (g / 2 ^ t % 2)) (i 5) ∧ sumN (fun t => A 6 t * (g / 2 ^ t % 2)) (i 5) < 2 * sumN (fun t => A 6 t * (s / 2 ^ t % 2)) (i 5) + 2 * A 6 s0 then 1 else 0) s))), some (.int (zI ↑s)), some (.int (zI ↑(2 * sumN (fun t => A 6 t * (s / 2 ^ t % 2)) (i 5)))), none]) (st' := [.int ((zI ↑(2 * sumN (fun t => A 6 t * (s / 2 ^ t % 2)) (i 5))) + ((zI 2) * ((fun j => zI ↑(A 6 j)) s0)))]) rfl ?_
        rw [show ((zI ↑(2 * sumN (fun t => A 6 t * (s / 2 ^ t % 2)) (i 5))) + ((zI 2) * ((fun j => zI ↑(A 6 j)) s0)) : Int32) = zI ↑(2 * sumN (fun t => A 6 t * (s / 2 ^ t % 2)) (i 5) + 2 * A 6 s0) from by rw [show zI 2 = zI ((2 : Nat) : Int) from rfl, zN_mul, zN_add]]
        refine v_run 6 (pc' := 57) (ls' := [some (.ref p), some (.int (zI ↑s0)), some (.int (zI ↑g)), some (.int (zI ↑(andn g (2 ^ s0)))), some (.int (zI ↑(sumN (fun t => A 6 t * (g / 2 ^ t % 2)) (i 5)))), some (.int (zI ↑(sumN (fun s => if andn s (andn g (2 ^ s0)) = 0 ∧ 2 * sumN (fun t => A 6 t * (s / 2 ^ t % 2)) (i 5) ≤ sumN (fun t => A 6 t * (g / 2 ^ t % 2)) (i 5) ∧ sumN (fun t => A 6 t * (g / 2 ^ t % 2)) (i 5) < 2 * sumN (fun t => A 6 t * (s / 2 ^ t % 2)) (i 5) + 2 * A 6 s0 then 1 else 0) s))), some (.int (zI ↑s)), some (.int (zI ↑(2 * sumN (fun t => A 6 t * (s / 2 ^ t % 2)) (i 5)))), some (.int (zI ↑(2 * sumN (fun t => A 6 t * (s / 2 ^ t % 2)) (i 5) + 2 * A 6 s0)))]) (st' := [.int ((zI ↑s) &&& ((zI ↑(andn g (2 ^ s0))) ^^^ (zI (-1))))]) rfl ?_
        rw [show ((zI ↑s) &&& ((zI ↑(andn g (2 ^ s0))) ^^^ (zI (-1))) : Int32) = zI ↑(andn s (andn g (2 ^ s0))) from zI_andn (by omega) (by omega)]
        refine v_if_ne rfl (fun c57 => ?_) (fun c57 => ?_)
        · simp (disch := omega) only [zI_lt, zI_le, zI_eq, zI_lt0, zI_le0, zI_0lt, zI_0le, zI_eq0] at c57
          refine v_run 2 (pc' := 21) (ls' := [some (.ref p), some (.int (zI ↑s0)), some (.int (zI ↑g)), some (.int (zI ↑(andn g (2 ^ s0)))), some (.int (zI ↑(sumN (fun t => A 6 t * (g / 2 ^ t % 2)) (i 5)))), some (.int (zI ↑(sumN (fun s => if andn s (andn g (2 ^ s0)) = 0 ∧ 2 * sumN (fun t => A 6 t * (s / 2 ^ t % 2)) (i 5) ≤ sumN (fun t => A 6 t * (g / 2 ^ t % 2)) (i 5) ∧ sumN (fun t => A 6 t * (g / 2 ^ t % 2)) (i 5) < 2 * sumN (fun t => A 6 t * (s / 2 ^ t % 2)) (i 5) + 2 * A 6 s0 then 1 else 0) s))), some (.int ((zI ↑s) + zI 1)), some (.int (zI ↑(2 * sumN (fun t => A 6 t * (s / 2 ^ t % 2)) (i 5)))), some (.int (zI ↑(2 * sumN (fun t => A 6 t * (s / 2 ^ t % 2)) (i 5) + 2 * A 6 s0)))]) (st' := []) rfl ?_
          refine v_drop 7 (ls' := [some (.ref p), some (.int (zI ↑s0)), some (.int (zI ↑g)), some (.int (zI ↑(andn g (2 ^ s0)))), some (.int (zI ↑(sumN (fun t => A 6 t * (g / 2 ^ t % 2)) (i 5)))), some (.int (zI ↑(sumN (fun s => if andn s (andn g (2 ^ s0)) = 0 ∧ 2 * sumN (fun t => A 6 t * (s / 2 ^ t % 2)) (i 5) ≤ sumN (fun t => A 6 t * (g / 2 ^ t % 2)) (i 5) ∧ sumN (fun t => A 6 t * (g / 2 ^ t % 2)) (i 5) < 2 * sumN (fun t => A 6 t * (s / 2 ^ t % 2)) (i 5) + 2 * A 6 s0 then 1 else 0) s))), some (.int ((zI ↑s) + zI 1)), none, some (.int (zI ↑(2 * sumN (fun t => A 6 t * (s / 2 ^ t % 2)) (i 5) + 2 * A 6 s0)))]) rfl ?_
          refine v_drop 8 (ls' := [some (.ref p), some (.int (zI ↑s0)), some (.int (zI ↑g)), some (.int (zI ↑(andn g (2 ^ s0)))), some (.int (zI ↑(sumN (fun t => A 6 t * (g / 2 ^ t % 2)) (i 5)))), some (.int (zI ↑(sumN (fun s => if andn s (andn g (2 ^ s0)) = 0 ∧ 2 * sumN (fun t => A 6 t * (s / 2 ^ t % 2)) (i 5) ≤ sumN (fun t => A 6 t * (g / 2 ^ t % 2)) (i 5) ∧ sumN (fun t => A 6 t * (g / 2 ^ t % 2)) (i 5) < 2 * sumN (fun t => A 6 t * (s / 2 ^ t % 2)) (i 5) + 2 * A 6 s0 then 1 else 0) s))), some (.int ((zI ↑s) + zI 1)), none, none]) rfl ?_
          rw [show sumN (fun s => if andn s (andn g (2 ^ s0)) = 0 ∧ 2 * sumN (fun t => A 6 t * (s / 2 ^ t % 2)) (i 5) ≤ sumN (fun t => A 6 t * (g / 2 ^ t % 2)) (i 5) ∧ sumN (fun t => A 6 t * (g / 2 ^ t % 2)) (i 5) < 2 * sumN (fun t => A 6 t * (s / 2 ^ t % 2)) (i 5) + 2 * A 6 s0 then 1 else 0) s = sumN (fun s => if andn s (andn g (2 ^ s0)) = 0 ∧ 2 * sumN (fun t => A 6 t * (s / 2 ^ t % 2)) (i 5) ≤ sumN (fun t => A 6 t * (g / 2 ^ t % 2)) (i 5) ∧ sumN (fun t => A 6 t * (g / 2 ^ t % 2)) (i 5) < 2 * sumN (fun t => A 6 t * (s / 2 ^ t % 2)) (i 5) + 2 * A 6 s0 then 1 else 0) (s + 1) by simp only [sumN]; rw [if_neg (by rintro ⟨_, _, _⟩; omega)]; rfl, zI_s1]
          exact ih (s + 1) (by omega) (by omega)
        · simp (disch := omega) only [zI_lt, zI_le, zI_eq, zI_lt0, zI_le0, zI_0lt, zI_0le, zI_eq0] at c57
          refine v_run 2 (pc' := 64) (ls' := [some (.ref p), some (.int (zI ↑s0)), some (.int (zI ↑g)), some (.int (zI ↑(andn g (2 ^ s0)))), some (.int (zI ↑(sumN (fun t => A 6 t * (g / 2 ^ t % 2)) (i 5)))), some (.int (zI ↑(sumN (fun s => if andn s (andn g (2 ^ s0)) = 0 ∧ 2 * sumN (fun t => A 6 t * (s / 2 ^ t % 2)) (i 5) ≤ sumN (fun t => A 6 t * (g / 2 ^ t % 2)) (i 5) ∧ sumN (fun t => A 6 t * (g / 2 ^ t % 2)) (i 5) < 2 * sumN (fun t => A 6 t * (s / 2 ^ t % 2)) (i 5) + 2 * A 6 s0 then 1 else 0) s))), some (.int (zI ↑s)), some (.int (zI ↑(2 * sumN (fun t => A 6 t * (s / 2 ^ t % 2)) (i 5)))), some (.int (zI ↑(2 * sumN (fun t => A 6 t * (s / 2 ^ t % 2)) (i 5) + 2 * A 6 s0)))]) (st' := [.int (zI ↑(sumN (fun t => A 6 t * (g / 2 ^ t % 2)) (i 5))), .int (zI ↑(2 * sumN (fun t => A 6 t * (s / 2 ^ t % 2)) (i 5)))]) rfl ?_
          refine v_icmp_gt rfl (fun c64 => ?_) (fun c64 => ?_)
          · simp (disch := omega) only [zI_lt, zI_le, zI_eq, zI_lt0, zI_le0, zI_0lt, zI_0le, zI_eq0] at c64
            refine v_run 2 (pc' := 21) (ls' := [some (.ref p), some (.int (zI ↑s0)), some (.int (zI ↑g)), some (.int (zI ↑(andn g (2 ^ s0)))), some (.int (zI ↑(sumN (fun t => A 6 t * (g / 2 ^ t % 2)) (i 5)))), some (.int (zI ↑(sumN (fun s => if andn s (andn g (2 ^ s0)) = 0 ∧ 2 * sumN (fun t => A 6 t * (s / 2 ^ t % 2)) (i 5) ≤ sumN (fun t => A 6 t * (g / 2 ^ t % 2)) (i 5) ∧ sumN (fun t => A 6 t * (g / 2 ^ t % 2)) (i 5) < 2 * sumN (fun t => A 6 t * (s / 2 ^ t % 2)) (i 5) + 2 * A 6 s0 then 1 else 0) s))), some (.int ((zI ↑s) + zI 1)), some (.int (zI ↑(2 * sumN (fun t => A 6 t * (s / 2 ^ t % 2)) (i 5)))), some (.int (zI ↑(2 * sumN (fun t => A 6 t * (s / 2 ^ t % 2)) (i 5) + 2 * A 6 s0)))]) (st' := []) rfl ?_
            refine v_drop 7 (ls' := [some (.ref p), some (.int (zI ↑s0)), some (.int (zI ↑g)), some (.int (zI ↑(andn g (2 ^ s0)))), some (.int (zI ↑(sumN (fun t => A 6 t * (g / 2 ^ t % 2)) (i 5)))), some (.int (zI ↑(sumN (fun s => if andn s (andn g (2 ^ s0)) = 0 ∧ 2 * sumN (fun t => A 6 t * (s / 2 ^ t % 2)) (i 5) ≤ sumN (fun t => A 6 t * (g / 2 ^ t % 2)) (i 5) ∧ sumN (fun t => A 6 t * (g / 2 ^ t % 2)) (i 5) < 2 * sumN (fun t => A 6 t * (s / 2 ^ t % 2)) (i 5) + 2 * A 6 s0 then 1 else 0) s))), some (.int ((zI ↑s) + zI 1)), none, some (.int (zI ↑(2 * sumN (fun t => A 6 t * (s / 2 ^ t % 2)) (i 5) + 2 * A 6 s0)))]) rfl ?_
            refine v_drop 8 (ls' := [some (.ref p), some (.int (zI ↑s0)), some (.int (zI ↑g)), some (.int (zI ↑(andn g (2 ^ s0)))), some (.int (zI ↑(sumN (fun t => A 6 t * (g / 2 ^ t % 2)) (i 5)))), some (.int (zI ↑(sumN (fun s => if andn s (andn g (2 ^ s0)) = 0 ∧ 2 * sumN (fun t => A 6 t * (s / 2 ^ t % 2)) (i 5) ≤ sumN (fun t => A 6 t * (g / 2 ^ t % 2)) (i 5) ∧ sumN (fun t => A 6 t * (g / 2 ^ t % 2)) (i 5) < 2 * sumN (fun t => A 6 t * (s / 2 ^ t % 2)) (i 5) + 2 * A 6 s0 then 1 else 0) s))), some (.int ((zI ↑s) + zI 1)), none, none]) rfl ?_
            rw [show sumN (fun s => if andn s (andn g (2 ^ s0)) = 0 ∧ 2 * sumN (fun t => A 6 t * (s / 2 ^ t % 2)) (i 5) ≤ sumN (fun t => A 6 t * (g / 2 ^ t % 2)) (i 5) ∧ sumN (fun t => A 6 t * (g / 2 ^ t % 2)) (i 5) < 2 * sumN (fun t => A 6 t * (s / 2 ^ t % 2)) (i 5) + 2 * A 6 s0 then 1 else 0) s = sumN (fun s => if andn s (andn g (2 ^ s0)) = 0 ∧ 2 * sumN (fun t => A 6 t * (s / 2 ^ t % 2)) (i 5) ≤ sumN (fun t => A 6 t * (g / 2 ^ t % 2)) (i 5) ∧ sumN (fun t => A 6 t * (g / 2 ^ t % 2)) (i 5) < 2 * sumN (fun t => A 6 t * (s / 2 ^ t % 2)) (i 5) + 2 * A 6 s0 then 1 else 0) (s + 1) by simp only [sumN]; rw [if_neg (by rintro ⟨_, _, _⟩; omega)]; rfl, zI_s1]
            exact ih (s + 1) (by omega) (by omega)
          · simp (disch := omega) only [zI_lt, zI_le, zI_eq, zI_lt0, zI_le0, zI_0lt, zI_0le, zI_eq0] at c64
            refine v_run 2 (pc' := 71) (ls' := [some (.ref p), some (.int (zI ↑s0)), some (.int (zI ↑g)), some (.int (zI ↑(andn g (2 ^ s0)))), some (.int (zI ↑(sumN (fun t => A 6 t * (g / 2 ^ t % 2)) (i 5)))), some (.int (zI ↑(sumN (fun s => if andn s (andn g (2 ^ s0)) = 0 ∧ 2 * sumN (fun t => A 6 t * (s / 2 ^ t % 2)) (i 5) ≤ sumN (fun t => A 6 t * (g / 2 ^ t % 2)) (i 5) ∧ sumN (fun t => A 6 t * (g / 2 ^ t % 2)) (i 5) < 2 * sumN (fun t => A 6 t * (s / 2 ^ t % 2)) (i 5) + 2 * A 6 s0 then 1 else 0) s))), some (.int (zI ↑s)), some (.int (zI ↑(2 * sumN (fun t => A 6 t * (s / 2 ^ t % 2)) (i 5)))), some (.int (zI ↑(2 * sumN (fun t => A 6 t * (s / 2 ^ t % 2)) (i 5) + 2 * A 6 s0)))]) (st' := [.int (zI ↑(sumN (fun t => A 6 t * (g / 2 ^ t % 2)) (i 5))), .int (zI ↑(2 * sumN (fun t => A 6 t * (s / 2 ^ t % 2)) (i 5) + 2 * A 6 s0))]) rfl ?_
            refine v_icmp_le rfl (fun c71 => ?_) (fun c71 => ?_)
            · simp (disch := omega) only [zI_lt, zI_le, zI_eq, zI_lt0, zI_le0, zI_0lt, zI_0le, zI_eq0] at c71
              refine v_run 2 (pc' := 21) (ls' := [some (.ref p), some (.int (zI ↑s0)), some (.int (zI ↑g)), some (.int (zI ↑(andn g (2 ^ s0)))), some (.int (zI ↑(sumN (fun t => A 6 t * (g / 2 ^ t % 2)) (i 5)))), some (.int (zI ↑(sumN (fun s => if andn s (andn g (2 ^ s0)) = 0 ∧ 2 * sumN (fun t => A 6 t * (s / 2 ^ t % 2)) (i 5) ≤ sumN (fun t => A 6 t * (g / 2 ^ t % 2)) (i 5) ∧ sumN (fun t => A 6 t * (g / 2 ^ t % 2)) (i 5) < 2 * sumN (fun t => A 6 t * (s / 2 ^ t % 2)) (i 5) + 2 * A 6 s0 then 1 else 0) s))), some (.int ((zI ↑s) + zI 1)), some (.int (zI ↑(2 * sumN (fun t => A 6 t * (s / 2 ^ t % 2)) (i 5)))), some (.int (zI ↑(2 * sumN (fun t => A 6 t * (s / 2 ^ t % 2)) (i 5) + 2 * A 6 s0)))]) (st' := []) rfl ?_
              refine v_drop 7 (ls' := [some (.ref p), some (.int (zI ↑s0)), some (.int (zI ↑g)), some (.int (zI ↑(andn g (2 ^ s0)))), some (.int (zI ↑(sumN (fun t => A 6 t * (g / 2 ^ t % 2)) (i 5)))), some (.int (zI ↑(sumN (fun s => if andn s (andn g (2 ^ s0)) = 0 ∧ 2 * sumN (fun t => A 6 t * (s / 2 ^ t % 2)) (i 5) ≤ sumN (fun t => A 6 t * (g / 2 ^ t % 2)) (i 5) ∧ sumN (fun t => A 6 t * (g / 2 ^ t % 2)) (i 5) < 2 * sumN (fun t => A 6 t * (s / 2 ^ t % 2)) (i 5) + 2 * A 6 s0 then 1 else 0) s))), some (.int ((zI ↑s) + zI 1)), none, some (.int (zI ↑(2 * sumN (fun t => A 6 t * (s / 2 ^ t % 2)) (i 5) + 2 * A 6 s0)))]) rfl ?_
              refine v_drop 8 (ls' := [some (.ref p), some (.int (zI ↑s0)), some (.int (zI ↑g)), some (.int (zI ↑(andn g (2 ^ s0)))), some (.int (zI ↑(sumN (fun t => A 6 t * (g / 2 ^ t % 2)) (i 5)))), some (.int (zI ↑(sumN (fun s => if andn s (andn g (2 ^ s0)) = 0 ∧ 2 * sumN (fun t => A 6 t * (s / 2 ^ t % 2)) (i 5) ≤ sumN (fun t => A 6 t * (g / 2 ^ t % 2)) (i 5) ∧ sumN (fun t => A 6 t * (g / 2 ^ t % 2)) (i 5) < 2 * sumN (fun t => A 6 t * (s / 2 ^ t % 2)) (i 5) + 2 * A 6 s0 then 1 else 0) s))), some (.int ((zI ↑s) + zI 1)), none, none]) rfl ?_
              rw [show sumN (fun s => if andn s (andn g (2 ^ s0)) = 0 ∧ 2 * sumN (fun t => A 6 t * (s / 2 ^ t % 2)) (i 5) ≤ sumN (fun t => A 6 t * (g / 2 ^ t % 2)) (i 5) ∧ sumN (fun t => A 6 t * (g / 2 ^ t % 2)) (i 5) < 2 * sumN (fun t => A 6 t * (s / 2 ^ t % 2)) (i 5) + 2 * A 6 s0 then 1 else 0) s = sumN (fun s => if andn s (andn g (2 ^ s0)) = 0 ∧ 2 * sumN (fun t => A 6 t * (s / 2 ^ t % 2)) (i 5) ≤ sumN (fun t => A 6 t * (g / 2 ^ t % 2)) (i 5) ∧ sumN (fun t => A 6 t * (g / 2 ^ t % 2)) (i 5) < 2 * sumN (fun t => A 6 t * (s / 2 ^ t % 2)) (i 5) + 2 * A 6 s0 then 1 else 0) (s + 1) by simp only [sumN]; rw [if_neg (by rintro ⟨_, _, _⟩; omega)]; rfl, zI_s1]
              exact ih (s + 1) (by omega) (by omega)
            · simp (disch := omega) only [zI_lt, zI_le, zI_eq, zI_lt0, zI_le0, zI_0lt, zI_0le, zI_eq0] at c71
              refine v_run 3 (pc' := 21) (ls' := [some (.ref p), some (.int (zI ↑s0)), some (.int (zI ↑g)), some (.int (zI ↑(andn g (2 ^ s0)))), some (.int (zI ↑(sumN (fun t => A 6 t * (g / 2 ^ t % 2)) (i 5)))), some (.int ((zI ↑(sumN (fun s => if andn s (andn g (2 ^ s0)) = 0 ∧ 2 * sumN (fun t => A 6 t * (s / 2 ^ t % 2)) (i 5) ≤ sumN (fun t => A 6 t * (g / 2 ^ t % 2)) (i 5) ∧ sumN (fun t => A 6 t * (g / 2 ^ t % 2)) (i 5) < 2 * sumN (fun t => A 6 t * (s / 2 ^ t % 2)) (i 5) + 2 * A 6 s0 then 1 else 0) s)) + zI 1)), some (.int ((zI ↑s) + zI 1)), some (.int (zI ↑(2 * sumN (fun t => A 6 t * (s / 2 ^ t % 2)) (i 5)))), some (.int (zI ↑(2 * sumN (fun t => A 6 t * (s / 2 ^ t % 2)) (i 5) + 2 * A 6 s0)))]) (st' := []) rfl ?_
              refine v_drop 7 (ls' := [some (.ref p), some (.int (zI ↑s0)), some (.int (zI ↑g)), some (.int (zI ↑(andn g (2 ^ s0)))), some (.int (zI ↑(sumN (fun t => A 6 t * (g / 2 ^ t % 2)) (i 5)))), some (.int ((zI ↑(sumN (fun s => if andn s (andn g (2 ^ s0)) = 0 ∧ 2 * sumN (fun t => A 6 t * (s / 2 ^ t % 2)) (i 5) ≤ sumN (fun t => A 6 t * (g / 2 ^ t % 2)) (i 5) ∧ sumN (fun t => A 6 t * (g / 2 ^ t % 2)) (i 5) < 2 * sumN (fun t => A 6 t * (s / 2 ^ t % 2)) (i 5) + 2 * A 6 s0 then 1 else 0) s)) + zI 1)), some (.int ((zI ↑s) + zI 1)), none, some (.int (zI ↑(2 * sumN (fun t => A 6 t * (s / 2 ^ t % 2)) (i 5) + 2 * A 6 s0)))]) rfl ?_
              refine v_drop 8 (ls' := [some (.ref p), some (.int (zI ↑s0)), some (.int (zI ↑g)), some (.int (zI ↑(andn g (2 ^ s0)))), some (.int (zI ↑(sumN (fun t => A 6 t * (g / 2 ^ t % 2)) (i 5)))), some (.int ((zI ↑(sumN (fun s => if andn s (andn g (2 ^ s0)) = 0 ∧ 2 * sumN (fun t => A 6 t * (s / 2 ^ t % 2)) (i 5) ≤ sumN (fun t => A 6 t * (g / 2 ^ t % 2)) (i 5) ∧ sumN (fun t => A 6 t * (g / 2 ^ t % 2)) (i 5) < 2 * sumN (fun t => A 6 t * (s / 2 ^ t % 2)) (i 5) + 2 * A 6 s0 then 1 else 0) s)) + zI 1)), some (.int ((zI ↑s) + zI 1)), none, none]) rfl ?_
              rw [zI_s1, zI_s1, show sumN (fun s => if andn s (andn g (2 ^ s0)) = 0 ∧ 2 * sumN (fun t => A 6 t * (s / 2 ^ t % 2)) (i 5) ≤ sumN (fun t => A 6 t * (g / 2 ^ t % 2)) (i 5) ∧ sumN (fun t => A 6 t * (g / 2 ^ t % 2)) (i 5) < 2 * sumN (fun t => A 6 t * (s / 2 ^ t % 2)) (i 5) + 2 * A 6 s0 then 1 else 0) s + 1 = sumN (fun s => if andn s (andn g (2 ^ s0)) = 0 ∧ 2 * sumN (fun t => A 6 t * (s / 2 ^ t % 2)) (i 5) ≤ sumN (fun t => A 6 t * (g / 2 ^ t % 2)) (i 5) ∧ sumN (fun t => A 6 t * (g / 2 ^ t % 2)) (i 5) < 2 * sumN (fun t => A 6 t * (s / 2 ^ t % 2)) (i 5) + 2 * A 6 s0 then 1 else 0) (s + 1) by simp only [sumN]; rw [if_pos ⟨by omega, by omega, by omega⟩]]
              exact ih (s + 1) (by omega) (by omega)
  exact lp (64 + 1) 0 (by omega) (by omega)

