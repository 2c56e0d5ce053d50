theorem ar_upd (f : Nat → Nat) (n s v : Nat) : (.inl (0, n, .inl (upd (fun j => zI ↑(f j)) s (zI ↑v))) : ssE) = ar n (fun j => if j = s then v else f j) := by
  unfold ar
  congr 4
  funext j
  by_cases hj : j = s <;> simp [upd, hj]
theorem fill_step {g E : Nat → Nat} (s : Nat) : (fun j => if j = s then g s else (fun t => if t < s then g t else E t) j) = (fun t => if t < s + 1 then g t else E t) := by
  funext j
  by_cases h1 : j = s
  · subst h1; simp
  · by_cases h2 : j < s
    · simp [h1, h2, show j < s + 1 by omega]
    · simp [h1, h2, show ¬ j < s + 1 by omega]
def cR (ad : Nat → Nat) (pl : Nat) (σ' : sT) (h0 : ssH) (v : Value) : Option Value → ssH → Prop := fun r h' => r = some v ∧ CW0 h' ad pl σ' ∧ frP ad pl h0 h'
def sGood (σ : sT) : Nat := setN (fun s => decide (0 < σ 3 5 s)) (σ 1 5 0)
theorem zb_n (b : Bool) : zb b = 0 ↔ b = false := zb_0 b
set_option maxRecDepth 100000 in
set_option maxHeartbeats 400000 in
theorem k_fill (G : ssG) (h : ssH) {p : Nat} {i R : Nat → Nat} {d : Int} {A : Nat → Nat → Nat} {q : Nat} {j S : Nat → Nat} {B : Nat → Nat → Nat} {u T : Nat} {E : Nat → Nat} (hp : PlanAt h p i R d A) (hi : PlanOk i A) (hq : MomAt h q j S B) (hj : MomOk j B) (hu : SpanAt h u T E) (hu0 : u ≠ T) (hn : p ≠ T ∧ R 4 ≠ T ∧ R 6 ≠ T ∧ R 8 ≠ T ∧ R 9 ≠ T ∧ R 10 ≠ T ∧ q ≠ T ∧ S 3 ≠ T ∧ S 4 ≠ T ∧ S 5 ≠ T ∧ S 6 ≠ T) : ssC G mX6_fill 3 0 0 [.ref u, .ref p, .ref q] h (rV (hset h T (ar 6 (fun t => if t < i 5 then cGood (i 1) (A 4 (B 4 t)) (B 3 t) (j 0) (B 5 t) else E t)))) := by
  refine c_of_v okX6_fill (by decide +kernel) (ls := [some (.ref u), some (.ref p), some (.ref q), none]) rfl (Nat.le_of_ble_eq_true rfl) ?_
  obtain ⟨i0, i1, i2, i3, i5, i7, a4, a6, a8, a9, a10, i11, i12, i14, i15⟩ := id hi
  obtain ⟨j0, j1, j2, b3, b4, b5, b6⟩ := id hj
  refine v_run 2 (pc' := 2) (ls' := [some (.ref u), some (.ref p), some (.ref q), some (.int (zI 0))]) (st' := []) rfl ?_
  have lp : ∀ (n s : Nat), s ≤ i 5 → i 5 + 1 ≤ s + n → ssV G mX6_fill 3 0 0 (rV (hset h T (ar 6 (fun t => if t < i 5 then cGood (i 1) (A 4 (B 4 t)) (B 3 t) (j 0) (B 5 t) else E t)))) 2 [some (.ref u), some (.ref p), some (.ref q), some (.int (zI ↑s))] [] (hset h T (ar 6 (fun t => if t < s then cGood (i 1) (A 4 (B 4 t)) (B 3 t) (j 0) (B 5 t) else E t))) := by
    intro n
    induction n with
    | zero => intro s hs1 hs2; exact absurd hs2 (by omega)
    | succ n ih =>
      intro s hs1 hs2
      have hp2 : PlanAt (hset h T (ar 6 (fun t => if t < s then cGood (i 1) (A 4 (B 4 t)) (B 3 t) (j 0) (B 5 t) else E t))) p i R d A := hp.fr hn.1 hn.2.1 hn.2.2.1 hn.2.2.2.1 hn.2.2.2.2.1 hn.2.2.2.2.2.1
      have hq2 : MomAt (hset h T (ar 6 (fun t => if t < s then cGood (i 1) (A 4 (B 4 t)) (B 3 t) (j 0) (B 5 t) else E t))) q j S B := hq.fr hn.2.2.2.2.2.2.1 hn.2.2.2.2.2.2.2.1 hn.2.2.2.2.2.2.2.2.1 hn.2.2.2.2.2.2.2.2.2.1 hn.2.2.2.2.2.2.2.2.2.2
      have q1 := b4 s
      have q2 := b3 s
      refine v_run 2 (pc' := 4) (ls' := [some (.ref u), some (.ref p), some (.ref q), some (.int (zI ↑s))]) (st' := [.ref p, .int (zI ↑s)]) rfl ?_
      refine v_get rfl hp2.1 rfl ?_
      refine v_icmp_ge rfl (fun c7 => ?_) (fun c7 => ?_)
      · simp (disch := omega) only [zI_lt, zI_le, zI_eq, zI_lt0, zI_le0, zI_0lt, zI_0le, zI_eq0] at c7
        exact v_vret rfl rfl ⟨rfl, by rw [show s = i 5 by omega]⟩
      · simp (disch := omega) only [zI_lt, zI_le, zI_eq, zI_lt0, zI_le0, zI_0lt, zI_0le, zI_eq0] at c7
        refine v_run 2 (pc' := 13) (ls' := [some (.ref u), some (.ref p), some (.ref q), some (.int (zI ↑s))]) (st' := [.int (zI 6), .int (zI ↑s)]) rfl ?_
        refine v_icmp_ge rfl (fun c13 => ?_) (fun c13 => ?_)
        · exfalso; revert c13; simp (disch := omega) only [zI_lt, zI_le, zI_eq, zI_lt0, zI_le0, zI_0lt, zI_0le, zI_eq0] <;> omega
        · refine v_run 1 (pc' := 17) (ls' := [some (.ref u), some (.ref p), some (.ref q), some (.int (zI ↑s))]) (st' := [.ref u]) rfl ?_
          refine v_get rfl ((hset_ne _ _ hu0).trans hu.1) rfl ?_
          refine v_run 5 (pc' := 25) (ls' := [some (.ref u), some (.ref p), some (.ref q), some (.int (zI ↑s))]) (st' := [.ref q, .int (zI ↑s), .ref q, .ref p, .int (zI ↑s), .ref T]) rfl ?_
          refine v_get rfl hq2.1 rfl ?_
          refine v_run 1 (pc' := 29) (ls' := [some (.ref u), some (.ref p), some (.ref q), some (.int (zI ↑s))]) (st' := [.int (zI ↑s), .ref (S 3), .int (zI ↑s), .ref q, .ref p, .int (zI ↑s), .ref T]) rfl ?_
          refine v_iaload' rfl hq2.2.1 (i := s) rfl (by omega) ?_
          refine v_run 1 (pc' := 31) (ls' := [some (.ref u), some (.ref p), some (.ref q), some (.int (zI ↑s))]) (st' := [.ref q, .int ((fun k => zI ↑(B 3 k)) s), .int (zI ↑s), .ref q, .ref p, .int (zI ↑s), .ref T]) rfl ?_
          refine v_get rfl hq2.1 rfl ?_
          refine v_run 1 (pc' := 35) (ls' := [some (.ref u), some (.ref p), some (.ref q), some (.int (zI ↑s))]) (st' := [.int (zI ↑s), .ref (S 4), .int ((fun k => zI ↑(B 3 k)) s), .int (zI ↑s), .ref q, .ref p, .int (zI ↑s), .ref T]) rfl ?_
          refine v_iaload' rfl hq2.2.2.1 (i := s) rfl (by omega) ?_
          refine v_callV (My := mX4_goodDays) (As := [.ref q, .int (zI ↑s), .int ((fun k => zI ↑(B 3 k)) s), .int ((fun k => zI ↑(B 4 k)) s)]) (rest := [.int (zI ↑s), .ref T]) (mc := 0) (ms := 0) rfl caX4_goodDays rfl rfl rfl hp2.1 rfl rfl (k_goodDays G _ s (B 3 s) (B 4 s) hp2 hi hq2 hj (by omega) q1 q2) rfl rfl (Nat.le_of_ble_eq_true rfl) (by omega) ?_
          rintro _ _ ⟨rfl, rfl⟩
          refine v_run 0 (pc' := 39) (ls' := [some (.ref u), some (.ref p), some (.ref q), some (.int (zI ↑s))]) (st' := [.int (zI ↑(cGood (i 1) (A 4 (B 4 s)) (B 3 s) (j 0) (B 5 s))), .int (zI ↑s), .ref T]) rfl ?_
          refine v_iastore' rfl (hset_self _ _ _) (i := s) rfl (by omega) ?_
          rw [ar_upd, hset_hset, show (fun j_1 => if j_1 = s then cGood (i 1) (A 4 (B 4 s)) (B 3 s) (j 0) (B 5 s) else (fun t => if t < s then cGood (i 1) (A 4 (B 4 t)) (B 3 t) (j 0) (B 5 t) else E t) j_1) = (fun t => if t < (s + 1) then cGood (i 1) (A 4 (B 4 t)) (B 3 t) (j 0) (B 5 t) else E t) from fill_step s]
          refine v_run 2 (pc' := 2) (ls' := [some (.ref u), some (.ref p), some (.ref q), some (.int ((zI ↑s) + zI 1))]) (st' := []) rfl ?_
          rw [zI_s1]
          exact ih (s + 1) (by omega) (by omega)
  have h0 : (hset h T (ar 6 (fun t => if t < 0 then cGood (i 1) (A 4 (B 4 t)) (B 3 t) (j 0) (B 5 t) else E t))) = h := by rw [show (fun t => if t < 0 then cGood (i 1) (A 4 (B 4 t)) (B 3 t) (j 0) (B 5 t) else E t) = E from by funext t; simp]; exact hset_same h hu.2
  have lq := lp (i 5 + 1) 0 (by omega) (by omega)
  rw [h0] at lq
  exact lq

set_option maxRecDepth 100000 in
set_option maxHeartbeats 400000 in
theorem k_refuse (G : ssG) (h : ssH) {ad : Nat → Nat} {pl : Nat} {σ : sT} (t : Nat) (hA : ∀ k l, ad k = ad l → k = l) (hc : CW0 h ad pl σ) (hok : sOk σ)  : ssC G mX8_refuse 0 0 0 [.ref (ad 0), .int (zI ↑t)] h (cR ad pl (sTr σ t) h (.int (zI (-1)))) := by
  refine c_of_v okX8_refuse (by decide +kernel) (ls := [some (.ref (ad 0)), some (.int (zI ↑t))]) rfl (Nat.le_of_ble_eq_true rfl) ?_
  obtain ⟨i0, i1, i2, i3, i5, i7, a4, a6, a8, a9, a10, i11, i12, i14, i15⟩ := id hok.1
  obtain ⟨j0, j1, j2, b3, b4, b5, b6⟩ := id (hok.2.2 3 (by decide))
  have i13 := hok.2.1
  have hpl := hc.1
  simp only [fI] at i0 i1 i2 i3 i5 i7 i11 i12 i14 i15 j0 j1 j2
  refine v_run 2 (pc' := 2) (ls' := [some (.ref (ad 0)), some (.int (zI ↑t))]) (st' := [.int (zI ↑t), .ref (ad 0)]) rfl ?_
  refine v_put rfl hc.2.1 rfl rfl (Nat.le_of_ble_eq_true rfl) ?_
  rw [show (obX ad pl σ).set 6 (.int (zI ↑t)) = obX ad pl (sTr σ t) by simp [obX, sTr]]
  refine v_run 1 (pc' := 6) (ls' := [some (.ref (ad 0)), some (.int (zI ↑t))]) (st' := [.int (zI (-1))]) rfl ?_
  exact v_iret rfl rfl rfl ⟨rfl, hc.trouble hA t, (frP.rf ad pl h).set hA hc.1 (Or.inl rfl) _⟩

set_option maxRecDepth 100000 in
set_option maxHeartbeats 400000 in
theorem k_grant (G : ssG) (h : ssH) {ad : Nat → Nat} {pl : Nat} {σ : sT} (x : Int32) (hA : ∀ k l, ad k = ad l → k = l) (hc : CW0 h ad pl σ) (hok : sOk σ)  : ssC G mX8_grant 0 0 0 [.ref (ad 0), .int x] h (cR ad pl (sTr σ 0) h (.int x)) := by
  refine c_of_v okX8_grant (by decide +kernel) (ls := [some (.ref (ad 0)), some (.int x)]) rfl (Nat.le_of_ble_eq_true rfl) ?_
  obtain ⟨i0, i1, i2, i3, i5, i7, a4, a6, a8, a9, a10, i11, i12, i14, i15⟩ := id hok.1
  obtain ⟨j0, j1, j2, b3, b4, b5, b6⟩ := id (hok.2.2 3 (by decide))
  have i13 := hok.2.1
  have hpl := hc.1
  simp only [fI] at i0 i1 i2 i3 i5 i7 i11 i12 i14 i15 j0 j1 j2
  refine v_run 2 (pc' := 2) (ls' := [some (.ref (ad 0)), some (.int x)]) (st' := [.int (zI 0), .ref (ad 0)]) rfl ?_
  refine v_put rfl hc.2.1 rfl rfl (Nat.le_of_ble_eq_true rfl) ?_
  rw [show (obX ad pl σ).set 6 (.int (zI 0)) = obX ad pl (sTr σ 0) by simp [obX, sTr]]
  refine v_run 1 (pc' := 6) (ls' := [some (.ref (ad 0)), some (.int x)]) (st' := [.int x]) rfl ?_
  exact v_iret rfl rfl rfl ⟨rfl, hc.trouble hA 0, (frP.rf ad pl h).set hA hc.1 (Or.inl rfl) _⟩

set_option maxRecDepth 100000 in
set_option maxHeartbeats 400000 in
theorem k_deny (G : ssG) (h : ssH) {ad : Nat → Nat} {pl : Nat} {σ : sT} (t : Nat) (hA : ∀ k l, ad k = ad l → k = l) (hc : CW0 h ad pl σ) (hok : sOk σ)  : ssC G mX8_deny 0 0 0 [.ref (ad 0), .int (zI ↑t)] h (cR ad pl (sTr σ t) h (.int (zI 0))) := by
  refine c_of_v okX8_deny (by decide +kernel) (ls := [some (.ref (ad 0)), some (.int (zI ↑t))]) rfl (Nat.le_of_ble_eq_true rfl) ?_
  obtain ⟨i0, i1, i2, i3, i5, i7, a4, a6, a8, a9, a10, i11, i12, i14, i15⟩ := id hok.1
  obtain ⟨j0, j1, j2, b3, b4, b5, b6⟩ := id (hok.2.2 3 (by decide))
  have i13 := hok.2.1
  have hpl := hc.1
  simp only [fI] at i0 i1 i2 i3 i5 i7 i11 i12 i14 i15 j0 j1 j2
  refine v_run 2 (pc' := 2) (ls' := [some (.ref (ad 0)), some (.int (zI ↑t))]) (st' := [.int (zI ↑t), .ref (ad 0)]) rfl ?_
  refine v_put rfl hc.2.1 rfl rfl (Nat.le_of_ble_eq_true rfl) ?_
  rw [show (obX ad pl σ).set 6 (.int (zI ↑t)) = obX ad pl (sTr σ t) by simp [obX, sTr]]
  refine v_run 1 (pc' := 6) (ls' := [some (.ref (ad 0)), some (.int (zI ↑t))]) (st' := [.int (zI 0)]) rfl ?_
  exact v_iret rfl rfl rfl ⟨rfl, hc.trouble hA t, (frP.rf ad pl h).set hA hc.1 (Or.inl rfl) _⟩

set_option maxRecDepth 100000 in
set_option maxHeartbeats 400000 in
theorem k_allow (G : ssG) (h : ssH) {ad : Nat → Nat} {pl : Nat} {σ : sT}  (hA : ∀ k l, ad k = ad l → k = l) (hc : CW0 h ad pl σ) (hok : sOk σ)  : ssC G mX8_allow 0 0 0 [.ref (ad 0)] h (cR ad pl (sTr σ 0) h (.int (zI 1))) := by
  refine c_of_v okX8_allow (by decide +kernel) (ls := [some (.ref (ad 0))]) rfl (Nat.le_of_ble_eq_true rfl) ?_
  obtain ⟨i0, i1, i2, i3, i5, i7, a4, a6, a8, a9, a10, i11, i12, i14, i15⟩ := id hok.1
  obtain ⟨j0, j1, j2, b3, b4, b5, b6⟩ := id (hok.2.2 3 (by decide))
  have i13 := hok.2.1
  have hpl := hc.1
  simp only [fI] at i0 i1 i2 i3 i5 i7 i11 i12 i14 i15 j0 j1 j2
  refine v_run 2 (pc' := 2) (ls' := [some (.ref (ad 0))]) (st' := [.int (zI 0), .ref (ad 0)]) rfl ?_
  refine v_put rfl hc.2.1 rfl rfl (Nat.le_of_ble_eq_true rfl) ?_
  rw [show (obX ad pl σ).set 6 (.int (zI 0)) = obX ad pl (sTr σ 0) by simp [obX, sTr]]
  refine v_run 1 (pc' := 6) (ls' := [some (.ref (ad 0))]) (st' := [.int (zI 1)]) rfl ?_
  exact v_iret rfl rfl rfl ⟨rfl, hc.trouble hA 0, (frP.rf ad pl h).set hA hc.1 (Or.inl rfl) _⟩

set_option maxRecDepth 100000 in
set_option maxHeartbeats 400000 in
theorem k_lacksSafe (G : ssG) (h : ssH) {ad : Nat → Nat} {pl : Nat} {σ : sT}  (hA : ∀ k l, ad k = ad l → k = l) (hc : CW0 h ad pl σ) (hok : sOk σ)  : ssC G mX8_lacksSafe 0 0 0 [.ref (ad 0)] h (rI (zb (decide (σ 1 5 0 = 0))) h) := by
  refine c_of_v okX8_lacksSafe (by decide +kernel) (ls := [some (.ref (ad 0))]) rfl (Nat.le_of_ble_eq_true rfl) ?_
  obtain ⟨i0, i1, i2, i3, i5, i7, a4, a6, a8, a9, a10, i11, i12, i14, i15⟩ := id hok.1
  obtain ⟨j0, j1, j2, b3, b4, b5, b6⟩ := id (hok.2.2 3 (by decide))
  have i13 := hok.2.1
  have hpl := hc.1
  simp only [fI] at i0 i1 i2 i3 i5 i7 i11 i12 i14 i15 j0 j1 j2
  refine v_run 1 (pc' := 1) (ls' := [some (.ref (ad 0))]) (st' := [.ref (ad 0)]) rfl ?_
  refine v_get rfl hc.2.1 rfl ?_
  refine v_run 0 (pc' := 4) (ls' := [some (.ref (ad 0))]) (st' := [.ref (ad pl)]) rfl ?_
  refine v_get rfl hc.2.2.1.1 rfl ?_
  refine v_run 0 (pc' := 7) (ls' := [some (.ref (ad 0))]) (st' := [.int (zI ↑(σ 1 5 0))]) rfl ?_
  refine v_if_ne rfl (fun c7 => ?_) (fun c7 => ?_)
  · simp (disch := omega) only [zI_lt, zI_le, zI_eq, zI_lt0, zI_le0, zI_0lt, zI_0le, zI_eq0] at c7
    refine v_run 1 (pc' := 15) (ls' := [some (.ref (ad 0))]) (st' := [.int (zI 0)]) rfl ?_
    exact v_iret rfl rfl rfl ⟨by rw [zb, if_neg (by simp; omega)], rfl⟩
  · simp (disch := omega) only [zI_lt, zI_le, zI_eq, zI_lt0, zI_le0, zI_0lt, zI_0le, zI_eq0] at c7
    refine v_run 2 (pc' := 15) (ls' := [some (.ref (ad 0))]) (st' := [.int (zI 1)]) rfl ?_
    exact v_iret rfl rfl rfl ⟨by rw [zb, if_pos (by simp; omega)], rfl⟩

set_option maxRecDepth 100000 in
set_option maxHeartbeats 400000 in
theorem k_lacksSenator (G : ssG) (h : ssH) {ad : Nat → Nat} {pl : Nat} {σ : sT} (s : Int) (hA : ∀ k l, ad k = ad l → k = l) (hc : CW0 h ad pl σ) (hok : sOk σ) (hs : -2147483648 ≤ s ∧ s < 2147483648) : ssC G mX8_lacksSenator 0 0 0 [.ref (ad 0), .int (zI s)] h (rI (zb (decide (s < 0 ∨ ↑(σ 1 5 0) ≤ s))) h) := by
  refine c_of_v okX8_lacksSenator (by decide +kernel) (ls := [some (.ref (ad 0)), some (.int (zI s))]) rfl (Nat.le_of_ble_eq_true rfl) ?_
  obtain ⟨i0, i1, i2, i3, i5, i7, a4, a6, a8, a9, a10, i11, i12, i14, i15⟩ := id hok.1
  obtain ⟨j0, j1, j2, b3, b4, b5, b6⟩ := id (hok.2.2 3 (by decide))
  have i13 := hok.2.1
  have hpl := hc.1
  simp only [fI] at i0 i1 i2 i3 i5 i7 i11 i12 i14 i15 j0 j1 j2
  refine v_run 1 (pc' := 1) (ls' := [some (.ref (ad 0)), some (.int (zI s))]) (st' := [.int (zI s)]) rfl ?_
  refine v_if_lt rfl (fun c1 => ?_) (fun c1 => ?_)
  · simp (disch := omega) only [zI_lt, zI_le, zI_eq, zI_lt0, zI_le0, zI_0lt, zI_0le, zI_eq0] at c1
    refine v_run 2 (pc' := 20) (ls' := [some (.ref (ad 0)), some (.int (zI s))]) (st' := [.int (zI 1)]) rfl ?_
    exact v_iret rfl rfl rfl ⟨by rw [zb, if_pos (by simp; omega)], rfl⟩
  · simp (disch := omega) only [zI_lt, zI_le, zI_eq, zI_lt0, zI_le0, zI_0lt, zI_0le, zI_eq0] at c1
    refine v_run 2 (pc' := 6) (ls' := [some (.ref (ad 0)), some (.int (zI s))]) (st' := [.ref (ad 0), .int (zI s)]) rfl ?_
    refine v_get rfl hc.2.1 rfl ?_
    refine v_run 0 (pc' := 9) (ls' := [some (.ref (ad 0)), some (.int (zI s))]) (st' := [.ref (ad pl), .int (zI s)]) rfl ?_
    refine v_get rfl hc.2.2.1.1 rfl ?_
    refine v_run 0 (pc' := 12) (ls' := [some (.ref (ad 0)), some (.int (zI s))]) (st' := [.int (zI ↑(σ 1 5 0)), .int (zI s)]) rfl ?_
    refine v_icmp_lt rfl (fun c12 => ?_) (fun c12 => ?_)
    · simp (disch := omega) only [zI_lt, zI_le, zI_eq, zI_lt0, zI_le0, zI_0lt, zI_0le, zI_eq0] at c12
      refine v_run 1 (pc' := 20) (ls' := [some (.ref (ad 0)), some (.int (zI s))]) (st' := [.int (zI 0)]) rfl ?_
      exact v_iret rfl rfl rfl ⟨by rw [zb, if_neg (by simp; omega)], rfl⟩
    · simp (disch := omega) only [zI_lt, zI_le, zI_eq, zI_lt0, zI_le0, zI_0lt, zI_0le, zI_eq0] at c12
      refine v_run 2 (pc' := 20) (ls' := [some (.ref (ad 0)), some (.int (zI s))]) (st' := [.int (zI 1)]) rfl ?_
      exact v_iret rfl rfl rfl ⟨by rw [zb, if_pos (by simp; omega)], rfl⟩

set_option maxRecDepth 100000 in
set_option maxHeartbeats 400000 in
theorem k_lacksAct (G : ssG) (h : ssH) {ad : Nat → Nat} {pl : Nat} {σ : sT} (s : Int) (hA : ∀ k l, ad k = ad l → k = l) (hc : CW0 h ad pl σ) (hok : sOk σ) (hs : -2147483648 ≤ s ∧ s < 2147483648) : ssC G mX8_lacksAct 0 0 0 [.ref (ad 0), .int (zI s)] h (rI (zb (decide (s < 0 ∨ ↑(σ 1 7 0) ≤ s))) h) := by
  refine c_of_v okX8_lacksAct (by decide +kernel) (ls := [some (.ref (ad 0)), some (.int (zI s))]) rfl (Nat.le_of_ble_eq_true rfl) ?_
  obtain ⟨i0, i1, i2, i3, i5, i7, a4, a6, a8, a9, a10, i11, i12, i14, i15⟩ := id hok.1
  obtain ⟨j0, j1, j2, b3, b4, b5, b6⟩ := id (hok.2.2 3 (by decide))
  have i13 := hok.2.1
  have hpl := hc.1
  simp only [fI] at i0 i1 i2 i3 i5 i7 i11 i12 i14 i15 j0 j1 j2
  refine v_run 1 (pc' := 1) (ls' := [some (.ref (ad 0)), some (.int (zI s))]) (st' := [.int (zI s)]) rfl ?_
  refine v_if_lt rfl (fun c1 => ?_) (fun c1 => ?_)
  · simp (disch := omega) only [zI_lt, zI_le, zI_eq, zI_lt0, zI_le0, zI_0lt, zI_0le, zI_eq0] at c1
    refine v_run 2 (pc' := 20) (ls' := [some (.ref (ad 0)), some (.int (zI s))]) (st' := [.int (zI 1)]) rfl ?_
    exact v_iret rfl rfl rfl ⟨by rw [zb, if_pos (by simp; omega)], rfl⟩
  · simp (disch := omega) only [zI_lt, zI_le, zI_eq, zI_lt0, zI_le0, zI_0lt, zI_0le, zI_eq0] at c1
    refine v_run 2 (pc' := 6) (ls' := [some (.ref (ad 0)), some (.int (zI s))]) (st' := [.ref (ad 0), .int (zI s)]) rfl ?_
    refine v_get rfl hc.2.1 rfl ?_
    refine v_run 0 (pc' := 9) (ls' := [some (.ref (ad 0)), some (.int (zI s))]) (st' := [.ref (ad pl), .int (zI s)]) rfl ?_
    refine v_get rfl hc.2.2.1.1 rfl ?_
    refine v_run 0 (pc' := 12) (ls' := [some (.ref (ad 0)), some (.int (zI s))]) (st' := [.int (zI ↑(σ 1 7 0)), .int (zI s)]) rfl ?_
    refine v_icmp_lt rfl (fun c12 => ?_) (fun c12 => ?_)
    · simp (disch := omega) only [zI_lt, zI_le, zI_eq, zI_lt0, zI_le0, zI_0lt, zI_0le, zI_eq0] at c12
      refine v_run 1 (pc' := 20) (ls' := [some (.ref (ad 0)), some (.int (zI s))]) (st' := [.int (zI 0)]) rfl ?_
      exact v_iret rfl rfl rfl ⟨by rw [zb, if_neg (by simp; omega)], rfl⟩
    · simp (disch := omega) only [zI_lt, zI_le, zI_eq, zI_lt0, zI_le0, zI_0lt, zI_0le, zI_eq0] at c12
      refine v_run 2 (pc' := 20) (ls' := [some (.ref (ad 0)), some (.int (zI s))]) (st' := [.int (zI 1)]) rfl ?_
      exact v_iret rfl rfl rfl ⟨by rw [zb, if_pos (by simp; omega)], rfl⟩

set_option maxRecDepth 100000 in
set_option maxHeartbeats 400000 in
theorem k_lacksDoubt (G : ssG) (h : ssH) {ad : Nat → Nat} {pl : Nat} {σ : sT}  (hA : ∀ k l, ad k = ad l → k = l) (hc : CW0 h ad pl σ) (hok : sOk σ)  : ssC G mX8_lacksDoubt 0 0 0 [.ref (ad 0)] h (rI (zb (decide (σ 1 13 0 = 0))) h) := by
  refine c_of_v okX8_lacksDoubt (by decide +kernel) (ls := [some (.ref (ad 0))]) rfl (Nat.le_of_ble_eq_true rfl) ?_
  obtain ⟨i0, i1, i2, i3, i5, i7, a4, a6, a8, a9, a10, i11, i12, i14, i15⟩ := id hok.1
  obtain ⟨j0, j1, j2, b3, b4, b5, b6⟩ := id (hok.2.2 3 (by decide))
  have i13 := hok.2.1
  have hpl := hc.1
  simp only [fI] at i0 i1 i2 i3 i5 i7 i11 i12 i14 i15 j0 j1 j2
  refine v_run 1 (pc' := 1) (ls' := [some (.ref (ad 0))]) (st' := [.ref (ad 0)]) rfl ?_
  refine v_get rfl hc.2.1 rfl ?_
  refine v_run 0 (pc' := 4) (ls' := [some (.ref (ad 0))]) (st' := [.ref (ad pl)]) rfl ?_
  refine v_get rfl hc.2.2.1.1 rfl ?_
  refine v_run 0 (pc' := 7) (ls' := [some (.ref (ad 0))]) (st' := [.int (zI (↑(σ 1 13 0) - 1))]) rfl ?_
  refine v_if_ge rfl (fun c7 => ?_) (fun c7 => ?_)
  · simp (disch := omega) only [zI_lt, zI_le, zI_eq, zI_lt0, zI_le0, zI_0lt, zI_0le, zI_eq0] at c7
    refine v_run 1 (pc' := 15) (ls' := [some (.ref (ad 0))]) (st' := [.int (zI 0)]) rfl ?_
    exact v_iret rfl rfl rfl ⟨by rw [zb, if_neg (by simp; omega)], rfl⟩
  · simp (disch := omega) only [zI_lt, zI_le, zI_eq, zI_lt0, zI_le0, zI_0lt, zI_0le, zI_eq0] at c7
    refine v_run 2 (pc' := 15) (ls' := [some (.ref (ad 0))]) (st' := [.int (zI 1)]) rfl ?_
    exact v_iret rfl rfl rfl ⟨by rw [zb, if_pos (by simp; omega)], rfl⟩

set_option maxRecDepth 100000 in
set_option maxHeartbeats 400000 in
theorem k_outside (G : ssG) (h : ssH) (x y : Int) (hx : -2147483648 ≤ x ∧ x < 2147483648) (hy : -2147483648 ≤ y ∧ y < 2147483648) : ssC G mX8_outside 0 0 0 [.int (zI x), .int (zI y)] h (rI (zb (decide (x < 0 ∨ y < x))) h) := by
  refine c_of_v okX8_outside (by decide +kernel) (ls := [some (.int (zI x)), some (.int (zI y))]) rfl (Nat.le_of_ble_eq_true rfl) ?_
  refine v_run 1 (pc' := 1) (ls' := [some (.int (zI x)), some (.int (zI y))]) (st' := [.int (zI x)]) rfl ?_
  refine v_if_lt rfl (fun c1 => ?_) (fun c1 => ?_)
  · simp (disch := omega) only [zI_lt, zI_le, zI_eq, zI_lt0, zI_le0, zI_0lt, zI_0le, zI_eq0] at c1
    refine v_run 2 (pc' := 14) (ls' := [some (.int (zI x)), some (.int (zI y))]) (st' := [.int (zI 1)]) rfl ?_
    exact v_iret rfl rfl rfl ⟨by rw [zb, if_pos (by simp; omega)], rfl⟩
  · simp (disch := omega) only [zI_lt, zI_le, zI_eq, zI_lt0, zI_le0, zI_0lt, zI_0le, zI_eq0] at c1
    refine v_run 2 (pc' := 6) (ls' := [some (.int (zI x)), some (.int (zI y))]) (st' := [.int (zI y), .int (zI x)]) rfl ?_
    refine v_icmp_le rfl (fun c6 => ?_) (fun c6 => ?_)
    · simp (disch := omega) only [zI_lt, zI_le, zI_eq, zI_lt0, zI_le0, zI_0lt, zI_0le, zI_eq0] at c6
      refine v_run 1 (pc' := 14) (ls' := [some (.int (zI x)), some (.int (zI y))]) (st' := [.int (zI 0)]) rfl ?_
      exact v_iret rfl rfl rfl ⟨by rw [zb, if_neg (by simp; omega)], rfl⟩
    · simp (disch := omega) only [zI_lt, zI_le, zI_eq, zI_lt0, zI_le0, zI_0lt, zI_0le, zI_eq0] at c6
      refine v_run 2 (pc' := 14) (ls' := [some (.int (zI x)), some (.int (zI y))]) (st' := [.int (zI 1)]) rfl ?_
      exact v_iret rfl rfl rfl ⟨by rw [zb, if_pos (by simp; omega)], rfl⟩

set_option maxRecDepth 100000 in
set_option maxHeartbeats 400000 in
theorem k_goodNow (G : ssG) (h : ssH) {ad : Nat → Nat} {pl : Nat} {σ : sT}  (hA : ∀ k l, ad k = ad l → k = l) (hc : CW0 h ad pl σ) (hok : sOk σ)  : ssC G mX8_goodNow 1 0 0 [.ref (ad 0)] h (rI (zI ↑(sGood σ)) h) := by
  refine c_of_v okX8_goodNow (by decide +kernel) (ls := [some (.ref (ad 0))]) rfl (Nat.le_of_ble_eq_true rfl) ?_
  obtain ⟨i0, i1, i2, i3, i5, i7, a4, a6, a8, a9, a10, i11, i12, i14, i15⟩ := id hok.1
  obtain ⟨j0, j1, j2, b3, b4, b5, b6⟩ := id (hok.2.2 3 (by decide))
  have i13 := hok.2.1
  have hpl := hc.1
  simp only [fI] at i0 i1 i2 i3 i5 i7 i11 i12 i14 i15 j0 j1 j2
  refine v_run 1 (pc' := 1) (ls' := [some (.ref (ad 0))]) (st' := [.ref (ad 0)]) rfl ?_
  refine v_get rfl hc.2.1 rfl ?_
  refine v_run 1 (pc' := 5) (ls' := [some (.ref (ad 0))]) (st' := [.ref (ad 0), .ref (ad 33)]) rfl ?_
  refine v_get rfl hc.2.1 rfl ?_
  refine v_run 0 (pc' := 8) (ls' := [some (.ref (ad 0))]) (st' := [.ref (ad pl), .ref (ad 33)]) rfl ?_
  refine v_get rfl hc.2.2.1.1 rfl ?_
  refine v_run 0 (pc' := 11) (ls' := [some (.ref (ad 0))]) (st' := [.int (zI ↑(σ 1 5 0)), .ref (ad 33)]) rfl ?_
  refine v_callV (My := mX2_goodBits) (As := [.int (zI ↑(σ 1 5 0))]) (rest := []) (mc := 0) (ms := 0) rfl caX2_goodBits rfl rfl rfl hc.2.2.2.2.1.1 rfl rfl (k_goodBits G h (σ 1 5 0) hc.2.2.2.2.1 (hok.2.2 3 (by decide)) i5) rfl rfl (Nat.le_of_ble_eq_true rfl) (by omega) ?_
  rintro _ _ ⟨rfl, rfl⟩
  refine v_run 0 (pc' := 14) (ls' := [some (.ref (ad 0))]) (st' := [.int (zI ↑(setN (fun s => decide (0 < σ 3 5 s)) (σ 1 5 0)))]) rfl ?_
  exact v_iret rfl rfl rfl ⟨rfl, rfl⟩

