def iS (i : Nat → Nat) (k v : Nat) : Nat → Nat := fun j => if j = k then v else i j
def hKp (b : Int) (f1 f2 : Nat → Nat) (v : Nat) : hS := if b < ↑v then (↑v, fun j => if j < 6 then f2 j else f1 j) else (b, f1)
set_option maxRecDepth 100000 in
set_option maxHeartbeats 400000 in
theorem k_begin (G : ssG) (h : ssH) {ad : Nat → Nat} {pl : Nat} {σ : sT} {h0 : ssH} {b : Int} {i f1 f2 f3 E : Nat → Nat} (q : Nat) (hA : ∀ k l, ad k = ad l → k = l) (hw : HWt ad pl σ h0 h b i f1 f2 f3 E) : ssC G mX1_begin 0 0 0 [.ref (ad 138), .ref (ad pl), .int (zI ↑q)] h (fun r h' => r = none ∧ HWt ad pl σ h0 h' b (iS (iS (iS i 5 (σ 1 5 0)) 6 (σ 1 3 0)) 7 (q)) f1 f2 f3 E) := by
  refine c_of_v okX1_begin (by decide +kernel) (ls := [some (.ref (ad 138)), some (.ref (ad pl)), some (.int (zI ↑q))]) rfl (Nat.le_of_ble_eq_true rfl) ?_
  refine v_run 2 (pc' := 2) (ls' := [some (.ref (ad 138)), some (.ref (ad pl)), some (.int (zI ↑q))]) (st' := [.ref (ad pl), .ref (ad 138)]) rfl ?_
  refine v_get rfl hw.1.2.2.1.1 rfl ?_
  refine v_run 0 (pc' := 5) (ls' := [some (.ref (ad 138)), some (.ref (ad pl)), some (.int (zI ↑q))]) (st' := [.int (zI ↑(σ 1 5 0)), .ref (ad 138)]) rfl ?_
  refine v_put rfl hw.2.2.1.1 rfl rfl (Nat.le_of_ble_eq_true rfl) ?_
  generalize he1 : hset h _ _ = h1
  have hw1 : HWt ad pl σ h0 h1 b (iS i 5 (σ 1 5 0)) f1 f2 f3 E := he1 ▸ hw.ob hA b (iS i 5 (σ 1 5 0))
  refine v_run 2 (pc' := 10) (ls' := [some (.ref (ad 138)), some (.ref (ad pl)), some (.int (zI ↑q))]) (st' := [.ref (ad pl), .ref (ad 138)]) rfl ?_
  refine v_get rfl hw1.1.2.2.1.1 rfl ?_
  refine v_run 0 (pc' := 13) (ls' := [some (.ref (ad 138)), some (.ref (ad pl)), some (.int (zI ↑q))]) (st' := [.int (zI ↑(σ 1 3 0)), .ref (ad 138)]) rfl ?_
  refine v_put rfl hw1.2.2.1.1 rfl rfl (Nat.le_of_ble_eq_true rfl) ?_
  generalize he2 : hset h1 _ _ = h2
  have hw2 : HWt ad pl σ h0 h2 b (iS (iS i 5 (σ 1 5 0)) 6 (σ 1 3 0)) f1 f2 f3 E := he2 ▸ hw1.ob hA b (iS (iS i 5 (σ 1 5 0)) 6 (σ 1 3 0))
  refine v_run 2 (pc' := 18) (ls' := [some (.ref (ad 138)), some (.ref (ad pl)), some (.int (zI ↑q))]) (st' := [.int (zI ↑q), .ref (ad 138)]) rfl ?_
  refine v_put rfl hw2.2.2.1.1 rfl rfl (Nat.le_of_ble_eq_true rfl) ?_
  generalize he3 : hset h2 _ _ = h3
  have hw3 : HWt ad pl σ h0 h3 b (iS (iS (iS i 5 (σ 1 5 0)) 6 (σ 1 3 0)) 7 (q)) f1 f2 f3 E := he3 ▸ hw2.ob hA b (iS (iS (iS i 5 (σ 1 5 0)) 6 (σ 1 3 0)) 7 (q))
  exact v_vret rfl rfl ⟨rfl, hw3⟩

set_option maxRecDepth 100000 in
set_option maxHeartbeats 400000 in
theorem k_valueOfChosen (G : ssG) (h : ssH) {ad : Nat → Nat} {pl : Nat} {σ : sT} {h0 : ssH} {b : Int} {i f1 f2 f3 E : Nat → Nat}  (hA : ∀ k l, ad k = ad l → k = l) (hw : HWt ad pl σ h0 h b i f1 f2 f3 E) (hi : i 5 ≤ 6 ∧ i 6 ≤ 6 ∧ i 7 ≤ 6)  : ssC G mX1_valueOfChosen 2 0 0 [.ref (ad 138)] h (rI (zI ↑(hv (i 7) (i 5) E)) h) := by
  refine c_of_v okX1_valueOfChosen (by decide +kernel) (ls := [some (.ref (ad 138))]) rfl (Nat.le_of_ble_eq_true rfl) ?_
  obtain ⟨hi5, hi6, hi7⟩ := hi
  refine v_run 1 (pc' := 1) (ls' := [some (.ref (ad 138))]) (st' := [.ref (ad 138)]) rfl ?_
  refine v_get rfl hw.2.2.1.1 rfl ?_
  refine v_run 0 (pc' := 4) (ls' := [some (.ref (ad 138))]) (st' := [.int (zI ↑(i 7))]) rfl ?_
  refine v_if_ne rfl (fun c4 => ?_) (fun c4 => ?_)
  · simp (disch := omega) only [zI_lt, zI_le, zI_eq, zI_lt0, zI_le0, zI_0lt, zI_0le, zI_eq0] at c4
    refine v_run 1 (pc' := 22) (ls' := [some (.ref (ad 138))]) (st' := [.ref (ad 138)]) rfl ?_
    refine v_get rfl hw.2.2.1.1 rfl ?_
    refine v_run 1 (pc' := 26) (ls' := [some (.ref (ad 138))]) (st' := [.ref (ad 138), .ref (ad 142)]) rfl ?_
    refine v_get rfl hw.2.2.1.1 rfl ?_
    refine v_run 1 (pc' := 30) (ls' := [some (.ref (ad 138))]) (st' := [.ref (ad 138), .int (zI ↑(i 5)), .ref (ad 142)]) rfl ?_
    refine v_get rfl hw.2.2.1.1 rfl ?_
    refine v_run 0 (pc' := 33) (ls' := [some (.ref (ad 138))]) (st' := [.int (zI ↑(i 7)), .int (zI ↑(i 5)), .ref (ad 142)]) rfl ?_
    refine v_callV (My := mX6_quorumDays) (As := [.int (zI ↑(i 5)), .int (zI ↑(i 7))]) (rest := []) (mc := 0) (ms := 0) rfl caX6_quorumDays rfl rfl rfl hw.2.2.1.2.2.2.2.1 rfl rfl (k_quorumDays G _ (i 5) (i 7) hw.2.2.1.2.2.2.2 hw.2.2.2 hi5 hi7) rfl rfl (Nat.le_of_ble_eq_true rfl) (by omega) ?_
    rintro _ _ ⟨rfl, rfl⟩
    refine v_run 0 (pc' := 36) (ls' := [some (.ref (ad 138))]) (st' := [.int (zI ↑(cQD E (i 5) (i 7) (i 5)))]) rfl ?_
    exact v_iret rfl rfl rfl ⟨by rw [hv, if_neg (by omega)], rfl⟩
  · simp (disch := omega) only [zI_lt, zI_le, zI_eq, zI_lt0, zI_le0, zI_0lt, zI_0le, zI_eq0] at c4
    refine v_run 1 (pc' := 8) (ls' := [some (.ref (ad 138))]) (st' := [.ref (ad 138)]) rfl ?_
    refine v_get rfl hw.2.2.1.1 rfl ?_
    refine v_run 1 (pc' := 12) (ls' := [some (.ref (ad 138))]) (st' := [.ref (ad 138), .ref (ad 142)]) rfl ?_
    refine v_get rfl hw.2.2.1.1 rfl ?_
    refine v_run 0 (pc' := 15) (ls' := [some (.ref (ad 138))]) (st' := [.int (zI ↑(i 5)), .ref (ad 142)]) rfl ?_
    refine v_callV (My := mX6_sum) (As := [.int (zI ↑(i 5))]) (rest := []) (mc := 0) (ms := 0) rfl caX6_sum rfl rfl rfl hw.2.2.1.2.2.2.2.1 rfl rfl (k_spSum G _ (i 5) hw.2.2.1.2.2.2.2 hi5) rfl rfl (Nat.le_of_ble_eq_true rfl) (by omega) ?_
    rintro _ _ ⟨rfl, rfl⟩
    refine v_run 0 (pc' := 18) (ls' := [some (.ref (ad 138))]) (st' := [.int (zI ↑(sumN E (i 5)))]) rfl ?_
    refine v_run 1 (pc' := 36) (ls' := [some (.ref (ad 138))]) (st' := [.int (zI ↑(sumN E (i 5)))]) rfl ?_
    exact v_iret rfl rfl rfl ⟨by rw [hv, if_pos (by omega)], rfl⟩

set_option maxRecDepth 100000 in
set_option maxHeartbeats 400000 in
theorem k_keepIfBetter (G : ssG) (h : ssH) {ad : Nat → Nat} {pl : Nat} {σ : sT} {h0 : ssH} {b : Int} {i f1 f2 f3 E : Nat → Nat} (v : Nat) (hA : ∀ k l, ad k = ad l → k = l) (hw : HWt ad pl σ h0 h b i f1 f2 f3 E) (hi : i 5 ≤ 6 ∧ i 6 ≤ 6 ∧ i 7 ≤ 6) (hb : -1 ≤ b ∧ b ≤ 594) (hv1 : v ≤ 594) : ssC G mX1_keepIfBetter 1 0 0 [.ref (ad 138), .int (zI ↑v)] h (fun r h' => r = none ∧ HWt ad pl σ h0 h' (hKp b f1 f2 v).1 i (hKp b f1 f2 v).2 f2 f3 E) := by
  refine c_of_v okX1_keepIfBetter (by decide +kernel) (ls := [some (.ref (ad 138)), some (.int (zI ↑v))]) rfl (Nat.le_of_ble_eq_true rfl) ?_
  obtain ⟨hi5, hi6, hi7⟩ := hi
  refine v_run 2 (pc' := 2) (ls' := [some (.ref (ad 138)), some (.int (zI ↑v))]) (st' := [.ref (ad 138), .int (zI ↑v)]) rfl ?_
  refine v_get rfl hw.2.2.1.1 rfl ?_
  refine v_run 0 (pc' := 5) (ls' := [some (.ref (ad 138)), some (.int (zI ↑v))]) (st' := [.int (zI b), .int (zI ↑v)]) rfl ?_
  refine v_icmp_le rfl (fun c5 => ?_) (fun c5 => ?_)
  · simp (disch := omega) only [zI_lt, zI_le, zI_eq, zI_lt0, zI_le0, zI_0lt, zI_0le, zI_eq0] at c5
    exact v_vret rfl rfl ⟨rfl, by rw [hKp, if_neg (by omega)]; exact hw⟩
  · simp (disch := omega) only [zI_lt, zI_le, zI_eq, zI_lt0, zI_le0, zI_0lt, zI_0le, zI_eq0] at c5
    refine v_run 2 (pc' := 10) (ls' := [some (.ref (ad 138)), some (.int (zI ↑v))]) (st' := [.int (zI ↑v), .ref (ad 138)]) rfl ?_
    refine v_put rfl hw.2.2.1.1 rfl rfl (Nat.le_of_ble_eq_true rfl) ?_
    generalize he1 : hset h _ _ = h1
    have hw1 : HWt ad pl σ h0 h1 ↑v i f1 f2 f3 E := he1 ▸ hw.ob hA ↑v i
    refine v_run 1 (pc' := 14) (ls' := [some (.ref (ad 138)), some (.int (zI ↑v))]) (st' := [.ref (ad 138)]) rfl ?_
    refine v_get rfl hw1.2.2.1.1 rfl ?_
    refine v_run 2 (pc' := 19) (ls' := [some (.ref (ad 138)), some (.int (zI ↑v))]) (st' := [.ref (ad 138), .int (zI 0), .ref (ad 140)]) rfl ?_
    refine v_get rfl hw1.2.2.1.1 rfl ?_
    refine v_run 2 (pc' := 25) (ls' := [some (.ref (ad 138)), some (.int (zI ↑v))]) (st' := [.int (zI 6), .int (zI 0), .ref (ad 139), .int (zI 0), .ref (ad 140)]) rfl ?_
    refine v_copy rfl rfl (by omega) (Nat.le_of_ble_eq_true rfl) hw1.2.2.1.2.2.1 hw1.2.2.1.2.1 (by decide +kernel) (by decide +kernel) (by decide +kernel) (by decide +kernel) (by decide +kernel) ?_
    rw [cpy6']
    exact v_vret rfl rfl ⟨rfl, by rw [hKp, if_pos (by omega)]; exact hw1.r1 hA⟩

set_option maxRecDepth 100000 in
set_option maxHeartbeats 400000 in
theorem k_setBound (G : ssG) (h : ssH) {ad : Nat → Nat} {pl : Nat} {σ : sT} {h0 : ssH} {b : Int} {i f1 f2 f3 E : Nat → Nat}  (hA : ∀ k l, ad k = ad l → k = l) (hw : HWt ad pl σ h0 h b i f1 f2 f3 E) (hi : i 5 ≤ 6 ∧ i 6 ≤ 6 ∧ i 7 ≤ 6) (hW : ∀ s k, s < i 5 → k < i 6 → f3 (s * 6 + k) ≤ 99) : ssC G mX1_setBound 3 0 0 [.ref (ad 138)] h (fun r h' => r = none ∧ ∃ E', HWt ad pl σ h0 h' (-1) (iS i 8 (hv (i 7) (i 5) E')) f1 f2 f3 E' ∧ ∀ s, s < i 5 → ∀ k, k < i 6 → f3 (s * 6 + k) ≤ E' s) := by
  refine c_of_v okX1_setBound (by decide +kernel) (ls := [some (.ref (ad 138)), none, none]) rfl (Nat.le_of_ble_eq_true rfl) ?_
  obtain ⟨hi5, hi6, hi7⟩ := hi
  refine v_run 2 (pc' := 2) (ls' := [some (.ref (ad 138)), some (.int (zI 0)), none]) (st' := []) rfl ?_
  have lp : ∀ (n s : Nat) (X : Nat → Nat) (g : ssH), HWt ad pl σ h0 g b i f1 f2 f3 X → (∀ t, t < s → ∀ k, k < i 6 → f3 (t * 6 + k) ≤ X t) → s ≤ i 5 → i 5 + 1 ≤ s + n → ssV G mX1_setBound 3 0 0 (fun r h' => r = none ∧ ∃ E', HWt ad pl σ h0 h' (-1) (iS i 8 (hv (i 7) (i 5) E')) f1 f2 f3 E' ∧ ∀ s, s < i 5 → ∀ k, k < i 6 → f3 (s * 6 + k) ≤ E' s) 2 [some (.ref (ad 138)), some (.int (zI ↑s)), none] [] g := by
    intro n
    induction n with
    | zero => intro s X g _ _ hs1 hs2; exact absurd hs2 (by omega)
    | succ n ih =>
      intro s X g hg hX hs1 hs2
      refine v_run 2 (pc' := 4) (ls' := [some (.ref (ad 138)), some (.int (zI ↑s)), none]) (st' := [.ref (ad 138), .int (zI ↑s)]) rfl ?_
      refine v_get rfl hg.2.2.1.1 rfl ?_
      refine v_run 0 (pc' := 7) (ls' := [some (.ref (ad 138)), some (.int (zI ↑s)), none]) (st' := [.int (zI ↑(i 5)), .int (zI ↑s)]) rfl ?_
      refine v_icmp_ge rfl (fun c7 => ?_) (fun c7 => ?_)
      · simp (disch := omega) only [zI_lt, zI_le, zI_eq, zI_lt0, zI_le0, zI_0lt, zI_0le, zI_eq0] at c7
        refine v_run 2 (pc' := 88) (ls' := [some (.ref (ad 138)), some (.int (zI ↑s)), none]) (st' := [.ref (ad 138), .ref (ad 138)]) rfl ?_
        refine v_callV (My := mX1_valueOfChosen) (As := []) (rest := [.ref (ad 138)]) (mc := 0) (ms := 0) rfl caX1_valueOfChosen rfl rfl rfl hg.2.2.1.1 rfl rfl (k_valueOfChosen G _ hA hg ⟨hi5, hi6, hi7⟩) rfl rfl (Nat.le_of_ble_eq_true rfl) (by omega) ?_
        rintro _ _ ⟨rfl, rfl⟩
        refine v_run 0 (pc' := 91) (ls' := [some (.ref (ad 138)), some (.int (zI ↑s)), none]) (st' := [.int (zI ↑(hv (i 7) (i 5) X)), .ref (ad 138)]) rfl ?_
        refine v_put rfl hg.2.2.1.1 rfl rfl (Nat.le_of_ble_eq_true rfl) ?_
        generalize he1 : hset g _ _ = g1
        have hw1 : HWt ad pl σ h0 g1 b (iS i 8 (hv (i 7) (i 5) X)) f1 f2 f3 X := he1 ▸ hg.ob hA b (iS i 8 (hv (i 7) (i 5) X))
        refine v_run 2 (pc' := 96) (ls' := [some (.ref (ad 138)), some (.int (zI ↑s)), none]) (st' := [.int (zI (-1)), .ref (ad 138)]) rfl ?_
        refine v_put rfl hw1.2.2.1.1 rfl rfl (Nat.le_of_ble_eq_true rfl) ?_
        generalize he2 : hset g1 _ _ = g2
        have hw2 : HWt ad pl σ h0 g2 (-1) (iS i 8 (hv (i 7) (i 5) X)) f1 f2 f3 X := he2 ▸ hw1.ob hA (-1) (iS i 8 (hv (i 7) (i 5) X))
        exact v_vret rfl rfl ⟨rfl, X, hw2, (show s = i 5 by omega) ▸ hX⟩
      · simp (disch := omega) only [zI_lt, zI_le, zI_eq, zI_lt0, zI_le0, zI_0lt, zI_0le, zI_eq0] at c7
        refine v_run 2 (pc' := 13) (ls' := [some (.ref (ad 138)), some (.int (zI ↑s)), none]) (st' := [.int (zI 6), .int (zI ↑s)]) rfl ?_
        refine v_icmp_ge rfl (fun c13 => ?_) (fun c13 => ?_)
        · exfalso; revert c13; simp (disch := omega) only [zI_lt, zI_le, zI_eq, zI_lt0, zI_le0, zI_0lt, zI_0le, zI_eq0] <;> omega
        · refine v_run 1 (pc' := 17) (ls' := [some (.ref (ad 138)), some (.int (zI ↑s)), none]) (st' := [.ref (ad 138)]) rfl ?_
          refine v_get rfl hg.2.2.1.1 rfl ?_
          refine v_run 0 (pc' := 20) (ls' := [some (.ref (ad 138)), some (.int (zI ↑s)), none]) (st' := [.ref (ad 142)]) rfl ?_
          refine v_get rfl hg.2.2.1.2.2.2.2.1 rfl ?_
          refine v_run 2 (pc' := 25) (ls' := [some (.ref (ad 138)), some (.int (zI ↑s)), none]) (st' := [.int (zI 0), .int (zI ↑s), .ref (ad 143)]) rfl ?_
          refine v_iastore' (y := zI ↑(0 : Nat)) rfl hg.2.2.1.2.2.2.2.2 (i := s) rfl (by omega) ?_
          rw [ar_upd]
          generalize he1 : hset g _ _ = g1
          have hw1 : HWt ad pl σ h0 g1 b i f1 f2 f3 (fun j => if j = s then 0 else X j) := he1 ▸ hg.sp hA (g := (fun j => if j = s then 0 else X j)) (fun k => by show (if k = s then 0 else X k) ≤ 99; split; omega; exact hg.2.2.2 k)
          have hX1 : ∀ t, t < s → ∀ k, k < i 6 → f3 (t * 6 + k) ≤ (fun j => if j = s then 0 else X j) t := fun t ht k hk => by show _ ≤ (if t = s then 0 else X t); rw [if_neg (by omega)]; exact hX t ht k hk
          refine v_run 2 (pc' := 28) (ls' := [some (.ref (ad 138)), some (.int (zI ↑s)), some (.int (zI 0))]) (st' := []) rfl ?_
          have lq : ∀ (m u : Nat) (Y : Nat → Nat) (k : ssH), HWt ad pl σ h0 k b i f1 f2 f3 Y → (∀ t, t < s → ∀ k, k < i 6 → f3 (t * 6 + k) ≤ Y t) → (∀ k, k < u → f3 (s * 6 + k) ≤ Y s) → u ≤ i 6 → i 6 + 1 ≤ u + m → ssV G mX1_setBound 3 0 0 (fun r h' => r = none ∧ ∃ E', HWt ad pl σ h0 h' (-1) (iS i 8 (hv (i 7) (i 5) E')) f1 f2 f3 E' ∧ ∀ s, s < i 5 → ∀ k, k < i 6 → f3 (s * 6 + k) ≤ E' s) 28 [some (.ref (ad 138)), some (.int (zI ↑s)), some (.int (zI ↑u))] [] k := by
            intro m
            induction m with
            | zero => intro u Y k _ _ _ hs1 hs2; exact absurd hs2 (by omega)
            | succ m ih2 =>
              intro u Y k hk hY hYs hu1 hu2
              refine v_run 2 (pc' := 30) (ls' := [some (.ref (ad 138)), some (.int (zI ↑s)), some (.int (zI ↑u))]) (st' := [.ref (ad 138), .int (zI ↑u)]) rfl ?_
              refine v_get rfl hk.2.2.1.1 rfl ?_
              refine v_run 0 (pc' := 33) (ls' := [some (.ref (ad 138)), some (.int (zI ↑s)), some (.int (zI ↑u))]) (st' := [.int (zI ↑(i 6)), .int (zI ↑u)]) rfl ?_
              refine v_icmp_ge rfl (fun c33 => ?_) (fun c33 => ?_)
              · simp (disch := omega) only [zI_lt, zI_le, zI_eq, zI_lt0, zI_le0, zI_0lt, zI_0le, zI_eq0] at c33
                refine v_run 2 (pc' := 2) (ls' := [some (.ref (ad 138)), some (.int ((zI ↑s) + zI 1)), some (.int (zI ↑u))]) (st' := []) rfl ?_
                refine v_drop 2 (ls' := [some (.ref (ad 138)), some (.int ((zI ↑s) + zI 1)), none]) rfl ?_
                rw [zI_s1]
                exact ih (s + 1) Y k hk (fun t ht v hv => by by_cases e : t = s; (rw [e]; exact hYs v (by omega)); exact hY t (by omega) v hv) (by omega) (by omega)
              · simp (disch := omega) only [zI_lt, zI_le, zI_eq, zI_lt0, zI_le0, zI_0lt, zI_0le, zI_eq0] at c33
                refine v_run 2 (pc' := 39) (ls' := [some (.ref (ad 138)), some (.int (zI ↑s)), some (.int (zI ↑u))]) (st' := [.int (zI 6), .int (zI ↑u)]) rfl ?_
                refine v_icmp_ge rfl (fun c39 => ?_) (fun c39 => ?_)
                · exfalso; revert c39; simp (disch := omega) only [zI_lt, zI_le, zI_eq, zI_lt0, zI_le0, zI_0lt, zI_0le, zI_eq0] <;> omega
                · have qw := hW s u (by omega) (by omega)
                  have qy := hk.2.2.2 s
                  refine v_run 1 (pc' := 43) (ls' := [some (.ref (ad 138)), some (.int (zI ↑s)), some (.int (zI ↑u))]) (st' := [.ref (ad 138)]) rfl ?_
                  refine v_get rfl hk.2.2.1.1 rfl ?_
                  refine v_run 0 (pc' := 46) (ls' := [some (.ref (ad 138)), some (.int (zI ↑s)), some (.int (zI ↑u))]) (st' := [.ref (ad 142)]) rfl ?_
                  refine v_get rfl hk.2.2.1.2.2.2.2.1 rfl ?_
                  refine v_run 2 (pc' := 51) (ls' := [some (.ref (ad 138)), some (.int (zI ↑s)), some (.int (zI ↑u))]) (st' := [.ref (ad 138), .int (zI ↑s), .ref (ad 143)]) rfl ?_
                  refine v_get rfl hk.2.2.1.1 rfl ?_
                  refine v_run 0 (pc' := 54) (ls' := [some (.ref (ad 138)), some (.int (zI ↑s)), some (.int (zI ↑u))]) (st' := [.ref (ad 142), .int (zI ↑s), .ref (ad 143)]) rfl ?_
                  refine v_get rfl hk.2.2.1.2.2.2.2.1 rfl ?_
                  refine v_run 1 (pc' := 58) (ls' := [some (.ref (ad 138)), some (.int (zI ↑s)), some (.int (zI ↑u))]) (st' := [.int (zI ↑s), .ref (ad 143), .int (zI ↑s), .ref (ad 143)]) rfl ?_
                  refine v_iaload' rfl hk.2.2.1.2.2.2.2.2 (i := s) rfl (by omega) ?_
                  refine v_run 1 (pc' := 60) (ls' := [some (.ref (ad 138)), some (.int (zI ↑s)), some (.int (zI ↑u))]) (st' := [.ref (ad 138), .int ((fun k => zI ↑(Y k)) s), .int (zI ↑s), .ref (ad 143)]) rfl ?_
                  refine v_get rfl hk.2.2.1.1 rfl ?_
                  refine v_run 5 (pc' := 69) (ls' := [some (.ref (ad 138)), some (.int (zI ↑s)), some (.int (zI ↑u))]) (st' := [.int (((zI ↑s) * (zI 6)) + (zI ↑u)), .ref (ad 141), .int ((fun k => zI ↑(Y k)) s), .int (zI ↑s), .ref (ad 143)]) rfl ?_
                  rw [show (((zI ↑s) * (zI 6)) + (zI ↑u) : Int32) = zI ↑(s * 6 + u) from by rw [show (zI 6) = zI ((6 : Nat) : Int) from rfl, zN_mul, zN_add]]
                  refine v_iaload' rfl hk.2.2.1.2.2.2.1 (i := (s * 6 + u)) rfl (by omega) ?_
                  refine v_max rfl rfl (by omega) (Nat.le_of_ble_eq_true rfl) ?_
                  rw [show ((if ((fun k => zI ↑(Y k)) s) < ((fun k => zI ↑(f3 k)) (s * 6 + u)) then ((fun k => zI ↑(f3 k)) (s * 6 + u)) else ((fun k => zI ↑(Y k)) s)) : Int32) = zI ↑(max (Y s) (f3 (s * 6 + u))) from (mx_z (by omega) (by omega))]
                  refine v_iastore' (y := zI ↑(max (Y s) (f3 (s * 6 + u)))) rfl hk.2.2.1.2.2.2.2.2 (i := s) rfl (by omega) ?_
                  rw [ar_upd]
                  generalize he2 : hset k _ _ = k1
                  have hk1 : HWt ad pl σ h0 k1 b i f1 f2 f3 (fun j => if j = s then max (Y s) (f3 (s * 6 + u)) else Y j) := he2 ▸ hk.sp hA (g := (fun j => if j = s then max (Y s) (f3 (s * 6 + u)) else Y j)) (fun v => by show (if v = s then max (Y s) (f3 (s * 6 + u)) else Y v) ≤ 99; split; omega; exact hk.2.2.2 v)
                  refine v_run 2 (pc' := 28) (ls' := [some (.ref (ad 138)), some (.int (zI ↑s)), some (.int ((zI ↑u) + zI 1))]) (st' := []) rfl ?_
                  rw [zI_s1]
                  exact ih2 (u + 1) _ k1 hk1 (fun t ht v hv => by show _ ≤ (if t = s then max (Y s) (f3 (s * 6 + u)) else Y t); rw [if_neg (by omega)]; exact hY t ht v hv) (fun v hv => by show _ ≤ (if s = s then max (Y s) (f3 (s * 6 + u)) else Y s); rw [if_pos rfl]; by_cases e : v = u; (rw [e]; omega); (have := hYs v (by omega); omega)) (by omega) (by omega)
          exact lq (i 6 + 1) 0 _ g1 hw1 hX1 (fun v hv => absurd hv (by omega)) (by omega) (by omega)
  exact lp (i 5 + 1) 0 E h hw (fun t ht => absurd ht (by omega)) (by omega) (by omega)

