def wG (σ : sT) (m s u : Nat) : Nat := if cLoss (σ 1 1 0) (σ 1 4 u) (σ 3 3 s) (σ 3 0 0) m < σ 3 5 s then 1 else 0
def wL (σ : sT) (s u : Nat) : Nat := cGood (σ 1 1 0) (σ 1 4 u) (σ 3 3 s) (σ 3 0 0) (σ 3 5 s)
theorem wG_le (σ : sT) (m s u : Nat) : wG σ m s u ≤ 99 := by unfold wG; split <;> omega
theorem plInv_0 {hk : Nat} {W : Nat → Nat → Nat} {f2 E : Nat → Nat} : plInv hk W 0 0 f2 E := ⟨fun t h => absurd h (by omega), fun t h => absurd h (by omega), fun t h => absurd h (by omega), fun u hu => ⟨fun h => absurd h (by simp), fun ⟨t, ht, _⟩ => absurd ht (by omega)⟩, by decide⟩
def hgR (σ : sT) (q : Nat) (W : Nat → Nat → Nat) (f1 f2 : Nat → Nat) : hS := hgL (fun a => hv q (σ 1 5 0) (fun t => W t (a t))) (σ 1 5 0) (σ 1 3 0) (σ 1 5 0) 0 f2 (-1, f1)
def hgPost (ad : Nat → Nat) (pl : Nat) (σ : sT) (h0 : ssH) (q : Nat) (W : Nat → Nat → Nat) : Option Value → ssH → Prop := fun r h' => r = none ∧ ∃ f1 f2 j f2b f3 E, HWt ad pl σ h0 h' (hgR σ q W f1 f2).1 j (hgR σ q W f1 f2).2 f2b f3 E ∧ (-1 ≤ (hgR σ q W f1 f2).1 ∧ (hgR σ q W f1 f2).1 ≤ 594)
set_option maxRecDepth 100000 in
set_option maxHeartbeats 400000 in
theorem k_forMostGood (G : ssG) (h : ssH) {ad : Nat → Nat} {pl : Nat} {σ : sT} (m : Nat) (hA : ∀ k l, ad k = ad l → k = l) (hc : CW0 h ad pl σ) (hok : sOk σ) (hm : m ≤ 60) : ssC G mX1_forMostGood 10 0 0 [.ref (ad 138), .ref (ad pl), .ref (ad 33), .int (zI ↑m)] h (hgPost ad pl σ h (0) (wG σ m)) := by
  refine c_of_v okX1_forMostGood (by decide +kernel) (ls := [some (.ref (ad 138)), some (.ref (ad pl)), some (.ref (ad 33)), some (.int (zI ↑m)), none, none, none]) rfl (Nat.le_of_ble_eq_true rfl) ?_
  obtain ⟨i0, i1, i2, i3, i5, i7, a4, a6, a8, a9, a10, i11, i12, i14, i15⟩ := id hok.1
  obtain ⟨j0, j1, j2, b3, b4, b5, b6⟩ := id (hok.2.2 3 (by decide))
  have i13 := hok.2.1
  have hpl := hc.1
  simp only [fI] at i0 i1 i2 i3 i5 i7 i11 i12 i14 i15 j0 j1 j2
  obtain ⟨b, i, f1, f2, f3, d1, d2, d3, d4, E, hSp, hE⟩ := hc.2.2.2.2.2.2.2.2.1
  have hw : HWt ad pl σ h h b i f1 f2 f3 E := ⟨hc, frP.rf ad pl h, ⟨d1, d2, d3, d4, hSp⟩, hE⟩
  refine v_run 3 (pc' := 3) (ls' := [some (.ref (ad 138)), some (.ref (ad pl)), some (.ref (ad 33)), some (.int (zI ↑m)), none, none, none]) (st' := [.int (zI 0), .ref (ad pl), .ref (ad 138)]) rfl ?_
  refine v_callV (My := mX1_begin) (As := [.ref (ad pl), .int (zI 0)]) (rest := []) (mc := 0) (ms := 0) rfl caX1_begin rfl rfl rfl hw.2.2.1.1 rfl rfl (k_begin G _ (0) hA hw) rfl rfl (Nat.le_of_ble_eq_true rfl) (by omega) ?_
  rintro _ h1 ⟨rfl, hw1⟩
  generalize hj : iS (iS (iS i 5 (σ 1 5 0)) 6 (σ 1 3 0)) 7 (0) = j at hw1
  have j5 : j 5 = σ 1 5 0 := hj ▸ rfl
  have j6 : j 6 = σ 1 3 0 := hj ▸ rfl
  have j7 : j 7 = 0 := hj ▸ rfl
  refine v_run 0 (pc' := 6) (ls' := [some (.ref (ad 138)), some (.ref (ad pl)), some (.ref (ad 33)), some (.int (zI ↑m)), none, none, none]) (st' := []) rfl ?_
  refine v_run 2 (pc' := 9) (ls' := [some (.ref (ad 138)), some (.ref (ad pl)), some (.ref (ad 33)), some (.int (zI ↑m)), some (.int (zI 0)), none, none]) (st' := []) rfl ?_
  have lp : ∀ (n s : Nat) (X : Nat → Nat) (g : ssH), HWt ad pl σ h g b j f1 f2 X E → (∀ t, t < s → ∀ k, k < j 6 → X (t * 6 + k) = (wG σ m) t k) → s ≤ j 5 → j 5 + 1 ≤ s + n → ssV G mX1_forMostGood 10 0 0 (hgPost ad pl σ h (0) (wG σ m)) 9 [some (.ref (ad 138)), some (.ref (ad pl)), some (.ref (ad 33)), some (.int (zI ↑m)), some (.int (zI ↑s)), none, none] [] g := by
    intro n
    induction n with
    | zero => intro s X g _ _ hs1 hs2; exact absurd hs2 (by omega)
    | succ n ih =>
      intro s X g hg hX hs1 hs2
      refine v_run 2 (pc' := 12) (ls' := [some (.ref (ad 138)), some (.ref (ad pl)), some (.ref (ad 33)), some (.int (zI ↑m)), some (.int (zI ↑s)), none, none]) (st' := [.ref (ad 138), .int (zI ↑s)]) rfl ?_
      refine v_get rfl hg.2.2.1.1 rfl ?_
      refine v_run 0 (pc' := 15) (ls' := [some (.ref (ad 138)), some (.ref (ad pl)), some (.ref (ad 33)), some (.int (zI ↑m)), some (.int (zI ↑s)), none, none]) (st' := [.int (zI ↑(j 5)), .int (zI ↑s)]) rfl ?_
      refine v_icmp_ge rfl (fun c15 => ?_) (fun c15 => ?_)
      · simp (disch := omega) only [zI_lt, zI_le, zI_eq, zI_lt0, zI_le0, zI_0lt, zI_0le, zI_eq0] at c15
        refine v_run 1 (pc' := 115) (ls' := [some (.ref (ad 138)), some (.ref (ad pl)), some (.ref (ad 33)), some (.int (zI ↑m)), some (.int (zI ↑s)), none, none]) (st' := [.ref (ad 138)]) rfl ?_
        have hsj : s = j 5 := by omega
        have hWl : ∀ s k, s < j 5 → k < j 6 → X (s * 6 + k) = (wG σ m) s k ∧ (wG σ m) s k ≤ 99 := fun s2 k h1 h2 => ⟨hX s2 (by omega) k h2, wG_le σ m s2 k⟩
        refine v_callV (My := mX1_setBound) (As := []) (rest := []) (mc := 0) (ms := 0) rfl caX1_setBound rfl rfl rfl hg.2.2.1.1 rfl rfl (k_setBound G _ hA hg ⟨by omega, by omega, by omega⟩ (fun s k h1 h2 => by rw [(hWl s k h1 h2).1]; exact (hWl s k h1 h2).2)) rfl rfl (Nat.le_of_ble_eq_true rfl) (by omega) ?_
        rintro _ g1 ⟨rfl, E2, hw2, hE2⟩
        have qv := hv_le (q := j 7) (sen := j 5) (by omega) hw2.2.2.2
        generalize hj2 : iS j 8 (hv (j 7) (j 5) E2) = j2 at hw2
        have k5 : j2 5 = j 5 := hj2 ▸ rfl
        have k6 : j2 6 = j 6 := hj2 ▸ rfl
        have k7 : j2 7 = j 7 := hj2 ▸ rfl
        have k8 : j2 8 = hv (j 7) (j 5) E2 := hj2 ▸ rfl
        refine v_run 0 (pc' := 118) (ls' := [some (.ref (ad 138)), some (.ref (ad pl)), some (.ref (ad 33)), some (.int (zI ↑m)), some (.int (zI ↑s)), none, none]) (st' := []) rfl ?_
        refine v_run 3 (pc' := 121) (ls' := [some (.ref (ad 138)), some (.ref (ad pl)), some (.ref (ad 33)), some (.int (zI ↑m)), some (.int (zI ↑s)), none, none]) (st' := [.int (zI 0), .int (zI 0), .ref (ad 138)]) rfl ?_
        refine v_callV (My := mX1_place) (As := [.int (zI 0), .int (zI 0)]) (rest := []) (mc := 0) (ms := 0) rfl caX1_place rfl rfl rfl hw2.2.2.1.1 rfl rfl (k_place G (W := (wG σ m)) hA ⟨by omega, by omega, by omega⟩ (fun s k h1 h2 => hWl s k (by omega) (by omega)) (fun a ha => by rw [k7, k5, k8]; exact hv_mono (by omega) (fun t ht => by rw [← (hWl t (a t) ht (by have := ha t (by omega); omega)).1]; exact hE2 t ht (a t) (by have := ha t (by omega); omega))) (by omega) (j2 5) _ f2 E2 0 0 (-1) f1 hw2 plInv_0 (by decide) (by omega)) rfl rfl (Nat.le_of_ble_eq_true rfl) (by omega) ?_
        rintro _ g2 ⟨rfl, f2b, E3, hw3, _, _, hr3⟩
        refine v_run 0 (pc' := 124) (ls' := [some (.ref (ad 138)), some (.ref (ad pl)), some (.ref (ad 33)), some (.int (zI ↑m)), some (.int (zI ↑s)), none, none]) (st' := []) rfl ?_
        exact v_vret rfl rfl ⟨rfl, f1, f2, j2, f2b, X, E3, by rw [k5, k6, k7, j5, j6, j7] at hw3 hr3; exact ⟨hw3, hr3⟩⟩
      · simp (disch := omega) only [zI_lt, zI_le, zI_eq, zI_lt0, zI_le0, zI_0lt, zI_0le, zI_eq0] at c15
        refine v_run 2 (pc' := 22) (ls' := [some (.ref (ad 138)), some (.ref (ad pl)), some (.ref (ad 33)), some (.int (zI ↑m)), some (.int (zI ↑s)), none, none]) (st' := [.int (zI 6), .int (zI ↑s)]) rfl ?_
        refine v_icmp_ge rfl (fun c22 => ?_) (fun c22 => ?_)
        · exfalso; revert c22; simp (disch := omega) only [zI_lt, zI_le, zI_eq, zI_lt0, zI_le0, zI_0lt, zI_0le, zI_eq0] <;> omega
        · refine v_run 2 (pc' := 28) (ls' := [some (.ref (ad 138)), some (.ref (ad pl)), some (.ref (ad 33)), some (.int (zI ↑m)), some (.int (zI ↑s)), some (.int (zI 0)), none]) (st' := []) rfl ?_
          have lq : ∀ (k u : Nat) (X : Nat → Nat) (g : ssH), HWt ad pl σ h g b j f1 f2 X E → (∀ t, t < s → ∀ k, k < j 6 → X (t * 6 + k) = (wG σ m) t k) → (∀ k, k < u → X (s * 6 + k) = (wG σ m) s k) → u ≤ j 6 → j 6 + 1 ≤ u + k → ssV G mX1_forMostGood 10 0 0 (hgPost ad pl σ h (0) (wG σ m)) 28 [some (.ref (ad 138)), some (.ref (ad pl)), some (.ref (ad 33)), some (.int (zI ↑m)), some (.int (zI ↑s)), some (.int (zI ↑u)), none] [] g := by
            intro k
            induction k with
            | zero => intro u X g _ _ _ hs1 hs2; exact absurd hs2 (by omega)
            | succ k ih2 =>
              intro u X g hg hX hXs hu1 hu2
              have q3 := b3 s
              have q5 := b5 s
              refine v_run 2 (pc' := 31) (ls' := [some (.ref (ad 138)), some (.ref (ad pl)), some (.ref (ad 33)), some (.int (zI ↑m)), some (.int (zI ↑s)), some (.int (zI ↑u)), none]) (st' := [.ref (ad 138), .int (zI ↑u)]) rfl ?_
              refine v_get rfl hg.2.2.1.1 rfl ?_
              refine v_run 0 (pc' := 34) (ls' := [some (.ref (ad 138)), some (.ref (ad pl)), some (.ref (ad 33)), some (.int (zI ↑m)), some (.int (zI ↑s)), some (.int (zI ↑u)), none]) (st' := [.int (zI ↑(j 6)), .int (zI ↑u)]) rfl ?_
              refine v_icmp_ge rfl (fun c34 => ?_) (fun c34 => ?_)
              · simp (disch := omega) only [zI_lt, zI_le, zI_eq, zI_lt0, zI_le0, zI_0lt, zI_0le, zI_eq0] at c34
                refine v_run 2 (pc' := 9) (ls' := [some (.ref (ad 138)), some (.ref (ad pl)), some (.ref (ad 33)), some (.int (zI ↑m)), some (.int ((zI ↑s) + zI 1)), some (.int (zI ↑u)), none]) (st' := []) rfl ?_
                refine v_drop 5 (ls' := [some (.ref (ad 138)), some (.ref (ad pl)), some (.ref (ad 33)), some (.int (zI ↑m)), some (.int ((zI ↑s) + zI 1)), none, none]) rfl ?_
                rw [zI_s1]
                exact ih (s + 1) X g hg (fun t ht v hv => by by_cases e : t = s; (rw [e]; exact hXs v (by omega)); exact hX t (by omega) v hv) (by omega) (by omega)
              · simp (disch := omega) only [zI_lt, zI_le, zI_eq, zI_lt0, zI_le0, zI_0lt, zI_0le, zI_eq0] at c34
                refine v_run 2 (pc' := 41) (ls' := [some (.ref (ad 138)), some (.ref (ad pl)), some (.ref (ad 33)), some (.int (zI ↑m)), some (.int (zI ↑s)), some (.int (zI ↑u)), none]) (st' := [.int (zI 6), .int (zI ↑u)]) rfl ?_
                refine v_icmp_ge rfl (fun c41 => ?_) (fun c41 => ?_)
                · exfalso; revert c41; simp (disch := omega) only [zI_lt, zI_le, zI_eq, zI_lt0, zI_le0, zI_0lt, zI_0le, zI_eq0] <;> omega
                · refine v_run 1 (pc' := 45) (ls' := [some (.ref (ad 138)), some (.ref (ad pl)), some (.ref (ad 33)), some (.int (zI ↑m)), some (.int (zI ↑s)), some (.int (zI ↑u)), none]) (st' := [.ref (ad 33)]) rfl ?_
                  refine v_get rfl hg.1.2.2.2.2.1.1 rfl ?_
                  refine v_run 1 (pc' := 50) (ls' := [some (.ref (ad 138)), some (.ref (ad pl)), some (.ref (ad 33)), some (.int (zI ↑m)), some (.int (zI ↑s)), some (.int (zI ↑u)), none]) (st' := [.int (zI ↑s), .ref (Rm ad 33 5)]) rfl ?_
                  refine v_iaload' rfl hg.1.2.2.2.2.1.2.2.2.1 (i := s) rfl (by omega) ?_
                  refine v_run 2 (pc' := 53) (ls' := [some (.ref (ad 138)), some (.ref (ad pl)), some (.ref (ad 33)), some (.int (zI ↑m)), some (.int (zI ↑s)), some (.int (zI ↑u)), none]) (st' := [.ref (ad 33), .ref (ad pl), .int ((fun k => zI ↑(σ 3 5 k)) s)]) rfl ?_
                  refine v_get rfl hg.1.2.2.2.2.1.1 rfl ?_
                  refine v_run 1 (pc' := 58) (ls' := [some (.ref (ad 138)), some (.ref (ad pl)), some (.ref (ad 33)), some (.int (zI ↑m)), some (.int (zI ↑s)), some (.int (zI ↑u)), none]) (st' := [.int (zI ↑s), .ref (Rm ad 33 3), .ref (ad pl), .int ((fun k => zI ↑(σ 3 5 k)) s)]) rfl ?_
                  refine v_iaload' rfl hg.1.2.2.2.2.1.2.1 (i := s) rfl (by omega) ?_
                  refine v_run 2 (pc' := 62) (ls' := [some (.ref (ad 138)), some (.ref (ad pl)), some (.ref (ad 33)), some (.int (zI ↑m)), some (.int (zI ↑s)), some (.int (zI ↑u)), none]) (st' := [.ref (ad 33), .int (zI ↑u), .int ((fun k => zI ↑(σ 3 3 k)) s), .ref (ad pl), .int ((fun k => zI ↑(σ 3 5 k)) s)]) rfl ?_
                  refine v_get rfl hg.1.2.2.2.2.1.1 rfl ?_
                  refine v_run 1 (pc' := 66) (ls' := [some (.ref (ad 138)), some (.ref (ad pl)), some (.ref (ad 33)), some (.int (zI ↑m)), some (.int (zI ↑s)), some (.int (zI ↑u)), none]) (st' := [.int (zI ↑m), .int (zI ↑(σ 3 0 0)), .int (zI ↑u), .int ((fun k => zI ↑(σ 3 3 k)) s), .ref (ad pl), .int ((fun k => zI ↑(σ 3 5 k)) s)]) rfl ?_
                  refine v_callV (My := mX4_lossOver) (As := [.int ((fun k => zI ↑(σ 3 3 k)) s), .int (zI ↑u), .int (zI ↑(σ 3 0 0)), .int (zI ↑m)]) (rest := [.int ((fun k => zI ↑(σ 3 5 k)) s)]) (mc := 0) (ms := 0) rfl caX4_lossOver rfl rfl rfl hg.1.2.2.1.1 rfl rfl (k_lossOver G _ (σ 3 3 s) u (σ 3 0 0) m hg.1.2.2.1 hok.1 (by omega) q3 (by omega) (by omega)) rfl rfl (Nat.le_of_ble_eq_true rfl) (by omega) ?_
                  rintro _ _ ⟨rfl, rfl⟩
                  refine v_run 0 (pc' := 69) (ls' := [some (.ref (ad 138)), some (.ref (ad pl)), some (.ref (ad 33)), some (.int (zI ↑m)), some (.int (zI ↑s)), some (.int (zI ↑u)), none]) (st' := [.int (zI ↑(cLoss (σ 1 1 0) (σ 1 4 u) (σ 3 3 s) (σ 3 0 0) m)), .int ((fun k => zI ↑(σ 3 5 k)) s)]) rfl ?_
                  have q6 : cLoss (σ 1 1 0) (σ 1 4 u) (σ 3 3 s) (σ 3 0 0) m ≤ 9000 := Nat.le_trans (cLoss_le i1) (by omega)
                  refine v_icmp_le rfl (fun c69 => ?_) (fun c69 => ?_)
                  · simp (disch := omega) only [zI_lt, zI_le, zI_eq, zI_lt0, zI_le0, zI_0lt, zI_0le, zI_eq0] at c69
                    refine v_run 3 (pc' := 80) (ls' := [some (.ref (ad 138)), some (.ref (ad pl)), some (.ref (ad 33)), some (.int (zI ↑m)), some (.int (zI ↑s)), some (.int (zI ↑u)), some (.int (zI 0))]) (st' := [.ref (ad 138)]) rfl ?_
                    refine v_get rfl hg.2.2.1.1 rfl ?_
                    refine v_run 6 (pc' := 93) (ls' := [some (.ref (ad 138)), some (.ref (ad pl)), some (.ref (ad 33)), some (.int (zI ↑m)), some (.int (zI ↑s)), some (.int (zI ↑u)), some (.int (zI 0))]) (st' := [.int (zI 0), .int (((zI ↑s) * (zI 6)) + (zI ↑u)), .ref (ad 141)]) rfl ?_
                    rw [show (((zI ↑s) * (zI 6)) + (zI ↑u) : Int32) = zI ↑(s * 6 + u) from by rw [show (zI 6) = zI ((6 : Nat) : Int) from rfl, zN_mul, zN_add]]
                    refine v_if_eq rfl (fun c93 => ?_) (fun c93 => ?_)
                    · refine v_run 1 (pc' := 101) (ls' := [some (.ref (ad 138)), some (.ref (ad pl)), some (.ref (ad 33)), some (.int (zI ↑m)), some (.int (zI ↑s)), some (.int (zI ↑u)), some (.int (zI 0))]) (st' := [.int (zI 0), .int (zI ↑(s * 6 + u)), .ref (ad 141)]) rfl ?_
                      rw [show ((zI 0) : Int32) = zI ↑(wG σ m s u) from by unfold wG; rw [if_neg (by omega)]; rfl]
                      refine v_iastore' (y := zI ↑((wG σ m) s u)) rfl hg.2.2.1.2.2.2.1 (i := s * 6 + u) rfl (by omega) ?_
                      rw [ar_upd]
                      generalize he2 : hset g _ _ = g1
                      have hw1 : HWt ad pl σ h g1 b j f1 f2 (fun v => if v = s * 6 + u then (wG σ m) s u else X v) E := he2 ▸ hg.r3 hA
                      refine v_run 2 (pc' := 28) (ls' := [some (.ref (ad 138)), some (.ref (ad pl)), some (.ref (ad 33)), some (.int (zI ↑m)), some (.int (zI ↑s)), some (.int ((zI ↑u) + zI 1)), some (.int (zI ↑(wG σ m s u)))]) (st' := []) rfl ?_
                      refine v_drop 6 (ls' := [some (.ref (ad 138)), some (.ref (ad pl)), some (.ref (ad 33)), some (.int (zI ↑m)), some (.int (zI ↑s)), some (.int ((zI ↑u) + zI 1)), none]) rfl ?_
                      rw [zI_s1]
                      exact ih2 (u + 1) _ g1 hw1 (fun t ht v hv => by show (if t * 6 + v = s * 6 + u then (wG σ m) s u else X (t * 6 + v)) = _; rw [if_neg (by omega)]; exact hX t ht v hv) (fun v hv => by show (if s * 6 + v = s * 6 + u then (wG σ m) s u else X (s * 6 + v)) = _; by_cases e : v = u; (rw [if_pos (by omega), e]); (rw [if_neg (by omega)]; exact hXs v (by omega))) (by omega) (by omega)
                    · exact absurd c93 (by decide +kernel)
                  · simp (disch := omega) only [zI_lt, zI_le, zI_eq, zI_lt0, zI_le0, zI_0lt, zI_0le, zI_eq0] at c69
                    refine v_run 4 (pc' := 80) (ls' := [some (.ref (ad 138)), some (.ref (ad pl)), some (.ref (ad 33)), some (.int (zI ↑m)), some (.int (zI ↑s)), some (.int (zI ↑u)), some (.int (zI 1))]) (st' := [.ref (ad 138)]) rfl ?_
                    refine v_get rfl hg.2.2.1.1 rfl ?_
                    refine v_run 6 (pc' := 93) (ls' := [some (.ref (ad 138)), some (.ref (ad pl)), some (.ref (ad 33)), some (.int (zI ↑m)), some (.int (zI ↑s)), some (.int (zI ↑u)), some (.int (zI 1))]) (st' := [.int (zI 1), .int (((zI ↑s) * (zI 6)) + (zI ↑u)), .ref (ad 141)]) rfl ?_
                    rw [show (((zI ↑s) * (zI 6)) + (zI ↑u) : Int32) = zI ↑(s * 6 + u) from by rw [show (zI 6) = zI ((6 : Nat) : Int) from rfl, zN_mul, zN_add]]
                    refine v_if_eq rfl (fun c93 => ?_) (fun c93 => ?_)
                    · exact absurd c93 (by decide +kernel)
                    · refine v_run 2 (pc' := 101) (ls' := [some (.ref (ad 138)), some (.ref (ad pl)), some (.ref (ad 33)), some (.int (zI ↑m)), some (.int (zI ↑s)), some (.int (zI ↑u)), some (.int (zI 1))]) (st' := [.int (zI 1), .int (zI ↑(s * 6 + u)), .ref (ad 141)]) rfl ?_
                      rw [show ((zI 1) : Int32) = zI ↑(wG σ m s u) from by unfold wG; rw [if_pos (by omega)]; rfl]
                      refine v_iastore' (y := zI ↑((wG σ m) s u)) rfl hg.2.2.1.2.2.2.1 (i := s * 6 + u) rfl (by omega) ?_
                      rw [ar_upd]
                      generalize he2 : hset g _ _ = g1
                      have hw1 : HWt ad pl σ h g1 b j f1 f2 (fun v => if v = s * 6 + u then (wG σ m) s u else X v) E := he2 ▸ hg.r3 hA
                      refine v_run 2 (pc' := 28) (ls' := [some (.ref (ad 138)), some (.ref (ad pl)), some (.ref (ad 33)), some (.int (zI ↑m)), some (.int (zI ↑s)), some (.int ((zI ↑u) + zI 1)), some (.int (zI ↑(wG σ m s u)))]) (st' := []) rfl ?_
                      refine v_drop 6 (ls' := [some (.ref (ad 138)), some (.ref (ad pl)), some (.ref (ad 33)), some (.int (zI ↑m)), some (.int (zI ↑s)), some (.int ((zI ↑u) + zI 1)), none]) rfl ?_
                      rw [zI_s1]
                      exact ih2 (u + 1) _ g1 hw1 (fun t ht v hv => by show (if t * 6 + v = s * 6 + u then (wG σ m) s u else X (t * 6 + v)) = _; rw [if_neg (by omega)]; exact hX t ht v hv) (fun v hv => by show (if s * 6 + v = s * 6 + u then (wG σ m) s u else X (s * 6 + v)) = _; by_cases e : v = u; (rw [if_pos (by omega), e]); (rw [if_neg (by omega)]; exact hXs v (by omega))) (by omega) (by omega)
          exact lq (j 6 + 1) 0 X g hg hX (fun v hv => absurd hv (by omega)) (by omega) (by omega)
  exact lp (j 5 + 1) 0 f3 h1 hw1 (fun t ht => absurd ht (by omega)) (by omega) (by omega)

set_option maxRecDepth 100000 in
set_option maxHeartbeats 400000 in
theorem k_forLongest (G : ssG) (h : ssH) {ad : Nat → Nat} {pl : Nat} {σ : sT} (hA : ∀ k l, ad k = ad l → k = l) (hc : CW0 h ad pl σ) (hok : sOk σ)  : ssC G mX1_forLongest 10 0 0 [.ref (ad 138), .ref (ad pl), .ref (ad 33)] h (hgPost ad pl σ h (σ 1 0 0) (wL σ)) := by
  refine c_of_v okX1_forLongest (by decide +kernel) (ls := [some (.ref (ad 138)), some (.ref (ad pl)), some (.ref (ad 33)), none, none]) rfl (Nat.le_of_ble_eq_true rfl) ?_
  obtain ⟨i0, i1, i2, i3, i5, i7, a4, a6, a8, a9, a10, i11, i12, i14, i15⟩ := id hok.1
  obtain ⟨j0, j1, j2, b3, b4, b5, b6⟩ := id (hok.2.2 3 (by decide))
  have i13 := hok.2.1
  have hpl := hc.1
  simp only [fI] at i0 i1 i2 i3 i5 i7 i11 i12 i14 i15 j0 j1 j2
  obtain ⟨b, i, f1, f2, f3, d1, d2, d3, d4, E, hSp, hE⟩ := hc.2.2.2.2.2.2.2.2.1
  have hw : HWt ad pl σ h h b i f1 f2 f3 E := ⟨hc, frP.rf ad pl h, ⟨d1, d2, d3, d4, hSp⟩, hE⟩
  refine v_run 3 (pc' := 3) (ls' := [some (.ref (ad 138)), some (.ref (ad pl)), some (.ref (ad 33)), none, none]) (st' := [.ref (ad pl), .ref (ad pl), .ref (ad 138)]) rfl ?_
  refine v_get rfl hc.2.2.1.1 rfl ?_
  refine v_run 0 (pc' := 6) (ls' := [some (.ref (ad 138)), some (.ref (ad pl)), some (.ref (ad 33)), none, none]) (st' := [.int (zI ↑(σ 1 0 0)), .ref (ad pl), .ref (ad 138)]) rfl ?_
  refine v_callV (My := mX1_begin) (As := [.ref (ad pl), .int (zI ↑(σ 1 0 0))]) (rest := []) (mc := 0) (ms := 0) rfl caX1_begin rfl rfl rfl hw.2.2.1.1 rfl rfl (k_begin G _ (σ 1 0 0) hA hw) rfl rfl (Nat.le_of_ble_eq_true rfl) (by omega) ?_
  rintro _ h1 ⟨rfl, hw1⟩
  generalize hj : iS (iS (iS i 5 (σ 1 5 0)) 6 (σ 1 3 0)) 7 (σ 1 0 0) = j at hw1
  have j5 : j 5 = σ 1 5 0 := hj ▸ rfl
  have j6 : j 6 = σ 1 3 0 := hj ▸ rfl
  have j7 : j 7 = σ 1 0 0 := hj ▸ rfl
  refine v_run 0 (pc' := 9) (ls' := [some (.ref (ad 138)), some (.ref (ad pl)), some (.ref (ad 33)), none, none]) (st' := []) rfl ?_
  refine v_run 2 (pc' := 11) (ls' := [some (.ref (ad 138)), some (.ref (ad pl)), some (.ref (ad 33)), some (.int (zI 0)), none]) (st' := []) rfl ?_
  have lp : ∀ (n s : Nat) (X : Nat → Nat) (g : ssH), HWt ad pl σ h g b j f1 f2 X E → (∀ t, t < s → ∀ k, k < j 6 → X (t * 6 + k) = (wL σ) t k) → s ≤ j 5 → j 5 + 1 ≤ s + n → ssV G mX1_forLongest 10 0 0 (hgPost ad pl σ h (σ 1 0 0) (wL σ)) 11 [some (.ref (ad 138)), some (.ref (ad pl)), some (.ref (ad 33)), some (.int (zI ↑s)), none] [] g := by
    intro n
    induction n with
    | zero => intro s X g _ _ hs1 hs2; exact absurd hs2 (by omega)
    | succ n ih =>
      intro s X g hg hX hs1 hs2
      refine v_run 2 (pc' := 13) (ls' := [some (.ref (ad 138)), some (.ref (ad pl)), some (.ref (ad 33)), some (.int (zI ↑s)), none]) (st' := [.ref (ad 138), .int (zI ↑s)]) rfl ?_
      refine v_get rfl hg.2.2.1.1 rfl ?_
      refine v_run 0 (pc' := 16) (ls' := [some (.ref (ad 138)), some (.ref (ad pl)), some (.ref (ad 33)), some (.int (zI ↑s)), none]) (st' := [.int (zI ↑(j 5)), .int (zI ↑s)]) rfl ?_
      refine v_icmp_ge rfl (fun c16 => ?_) (fun c16 => ?_)
      · simp (disch := omega) only [zI_lt, zI_le, zI_eq, zI_lt0, zI_le0, zI_0lt, zI_0le, zI_eq0] at c16
        refine v_run 1 (pc' := 83) (ls' := [some (.ref (ad 138)), some (.ref (ad pl)), some (.ref (ad 33)), some (.int (zI ↑s)), none]) (st' := [.ref (ad 138)]) rfl ?_
        have hsj : s = j 5 := by omega
        have hWl : ∀ s k, s < j 5 → k < j 6 → X (s * 6 + k) = (wL σ) s k ∧ (wL σ) s k ≤ 99 := fun s2 k h1 h2 => ⟨hX s2 (by omega) k h2, cGood_le⟩
        refine v_callV (My := mX1_setBound) (As := []) (rest := []) (mc := 0) (ms := 0) rfl caX1_setBound rfl rfl rfl hg.2.2.1.1 rfl rfl (k_setBound G _ hA hg ⟨by omega, by omega, by omega⟩ (fun s k h1 h2 => by rw [(hWl s k h1 h2).1]; exact (hWl s k h1 h2).2)) rfl rfl (Nat.le_of_ble_eq_true rfl) (by omega) ?_
        rintro _ g1 ⟨rfl, E2, hw2, hE2⟩
        have qv := hv_le (q := j 7) (sen := j 5) (by omega) hw2.2.2.2
        generalize hj2 : iS j 8 (hv (j 7) (j 5) E2) = j2 at hw2
        have k5 : j2 5 = j 5 := hj2 ▸ rfl
        have k6 : j2 6 = j 6 := hj2 ▸ rfl
        have k7 : j2 7 = j 7 := hj2 ▸ rfl
        have k8 : j2 8 = hv (j 7) (j 5) E2 := hj2 ▸ rfl
        refine v_run 0 (pc' := 86) (ls' := [some (.ref (ad 138)), some (.ref (ad pl)), some (.ref (ad 33)), some (.int (zI ↑s)), none]) (st' := []) rfl ?_
        refine v_run 3 (pc' := 89) (ls' := [some (.ref (ad 138)), some (.ref (ad pl)), some (.ref (ad 33)), some (.int (zI ↑s)), none]) (st' := [.int (zI 0), .int (zI 0), .ref (ad 138)]) rfl ?_
        refine v_callV (My := mX1_place) (As := [.int (zI 0), .int (zI 0)]) (rest := []) (mc := 0) (ms := 0) rfl caX1_place rfl rfl rfl hw2.2.2.1.1 rfl rfl (k_place G (W := (wL σ)) hA ⟨by omega, by omega, by omega⟩ (fun s k h1 h2 => hWl s k (by omega) (by omega)) (fun a ha => by rw [k7, k5, k8]; exact hv_mono (by omega) (fun t ht => by rw [← (hWl t (a t) ht (by have := ha t (by omega); omega)).1]; exact hE2 t ht (a t) (by have := ha t (by omega); omega))) (by omega) (j2 5) _ f2 E2 0 0 (-1) f1 hw2 plInv_0 (by decide) (by omega)) rfl rfl (Nat.le_of_ble_eq_true rfl) (by omega) ?_
        rintro _ g2 ⟨rfl, f2b, E3, hw3, _, _, hr3⟩
        refine v_run 0 (pc' := 92) (ls' := [some (.ref (ad 138)), some (.ref (ad pl)), some (.ref (ad 33)), some (.int (zI ↑s)), none]) (st' := []) rfl ?_
        exact v_vret rfl rfl ⟨rfl, f1, f2, j2, f2b, X, E3, by rw [k5, k6, k7, j5, j6, j7] at hw3 hr3; exact ⟨hw3, hr3⟩⟩
      · simp (disch := omega) only [zI_lt, zI_le, zI_eq, zI_lt0, zI_le0, zI_0lt, zI_0le, zI_eq0] at c16
        refine v_run 2 (pc' := 22) (ls' := [some (.ref (ad 138)), some (.ref (ad pl)), some (.ref (ad 33)), some (.int (zI ↑s)), none]) (st' := [.int (zI 6), .int (zI ↑s)]) rfl ?_
        refine v_icmp_ge rfl (fun c22 => ?_) (fun c22 => ?_)
        · exfalso; revert c22; simp (disch := omega) only [zI_lt, zI_le, zI_eq, zI_lt0, zI_le0, zI_0lt, zI_0le, zI_eq0] <;> omega
        · refine v_run 2 (pc' := 28) (ls' := [some (.ref (ad 138)), some (.ref (ad pl)), some (.ref (ad 33)), some (.int (zI ↑s)), some (.int (zI 0))]) (st' := []) rfl ?_
          have lq : ∀ (k u : Nat) (X : Nat → Nat) (g : ssH), HWt ad pl σ h g b j f1 f2 X E → (∀ t, t < s → ∀ k, k < j 6 → X (t * 6 + k) = (wL σ) t k) → (∀ k, k < u → X (s * 6 + k) = (wL σ) s k) → u ≤ j 6 → j 6 + 1 ≤ u + k → ssV G mX1_forLongest 10 0 0 (hgPost ad pl σ h (σ 1 0 0) (wL σ)) 28 [some (.ref (ad 138)), some (.ref (ad pl)), some (.ref (ad 33)), some (.int (zI ↑s)), some (.int (zI ↑u))] [] g := by
            intro k
            induction k with
            | zero => intro u X g _ _ _ hs1 hs2; exact absurd hs2 (by omega)
            | succ k ih2 =>
              intro u X g hg hX hXs hu1 hu2
              have q3 := b3 s
              have q5 := b5 s
              refine v_run 2 (pc' := 31) (ls' := [some (.ref (ad 138)), some (.ref (ad pl)), some (.ref (ad 33)), some (.int (zI ↑s)), some (.int (zI ↑u))]) (st' := [.ref (ad 138), .int (zI ↑u)]) rfl ?_
              refine v_get rfl hg.2.2.1.1 rfl ?_
              refine v_run 0 (pc' := 34) (ls' := [some (.ref (ad 138)), some (.ref (ad pl)), some (.ref (ad 33)), some (.int (zI ↑s)), some (.int (zI ↑u))]) (st' := [.int (zI ↑(j 6)), .int (zI ↑u)]) rfl ?_
              refine v_icmp_ge rfl (fun c34 => ?_) (fun c34 => ?_)
              · simp (disch := omega) only [zI_lt, zI_le, zI_eq, zI_lt0, zI_le0, zI_0lt, zI_0le, zI_eq0] at c34
                refine v_run 2 (pc' := 11) (ls' := [some (.ref (ad 138)), some (.ref (ad pl)), some (.ref (ad 33)), some (.int ((zI ↑s) + zI 1)), some (.int (zI ↑u))]) (st' := []) rfl ?_
                refine v_drop 4 (ls' := [some (.ref (ad 138)), some (.ref (ad pl)), some (.ref (ad 33)), some (.int ((zI ↑s) + zI 1)), none]) rfl ?_
                rw [zI_s1]
                exact ih (s + 1) X g hg (fun t ht v hv => by by_cases e : t = s; (rw [e]; exact hXs v (by omega)); exact hX t (by omega) v hv) (by omega) (by omega)
              · simp (disch := omega) only [zI_lt, zI_le, zI_eq, zI_lt0, zI_le0, zI_0lt, zI_0le, zI_eq0] at c34
                refine v_run 2 (pc' := 41) (ls' := [some (.ref (ad 138)), some (.ref (ad pl)), some (.ref (ad 33)), some (.int (zI ↑s)), some (.int (zI ↑u))]) (st' := [.int (zI 6), .int (zI ↑u)]) rfl ?_
                refine v_icmp_ge rfl (fun c41 => ?_) (fun c41 => ?_)
                · exfalso; revert c41; simp (disch := omega) only [zI_lt, zI_le, zI_eq, zI_lt0, zI_le0, zI_0lt, zI_0le, zI_eq0] <;> omega
                · refine v_run 1 (pc' := 45) (ls' := [some (.ref (ad 138)), some (.ref (ad pl)), some (.ref (ad 33)), some (.int (zI ↑s)), some (.int (zI ↑u))]) (st' := [.ref (ad 138)]) rfl ?_
                  refine v_get rfl hg.2.2.1.1 rfl ?_
                  refine v_run 5 (pc' := 55) (ls' := [some (.ref (ad 138)), some (.ref (ad pl)), some (.ref (ad 33)), some (.int (zI ↑s)), some (.int (zI ↑u))]) (st' := [.int (((zI ↑s) * (zI 6)) + (zI ↑u)), .ref (ad 141)]) rfl ?_
                  rw [show (((zI ↑s) * (zI 6)) + (zI ↑u) : Int32) = zI ↑(s * 6 + u) from by rw [show (zI 6) = zI ((6 : Nat) : Int) from rfl, zN_mul, zN_add]]
                  refine v_run 4 (pc' := 59) (ls' := [some (.ref (ad 138)), some (.ref (ad pl)), some (.ref (ad 33)), some (.int (zI ↑s)), some (.int (zI ↑u))]) (st' := [.ref (ad 33), .int (zI ↑s), .ref (ad 33), .ref (ad pl), .int (zI ↑(s * 6 + u)), .ref (ad 141)]) rfl ?_
                  refine v_get rfl hg.1.2.2.2.2.1.1 rfl ?_
                  refine v_run 1 (pc' := 63) (ls' := [some (.ref (ad 138)), some (.ref (ad pl)), some (.ref (ad 33)), some (.int (zI ↑s)), some (.int (zI ↑u))]) (st' := [.int (zI ↑s), .ref (Rm ad 33 3), .int (zI ↑s), .ref (ad 33), .ref (ad pl), .int (zI ↑(s * 6 + u)), .ref (ad 141)]) rfl ?_
                  refine v_iaload' rfl hg.1.2.2.2.2.1.2.1 (i := s) rfl (by omega) ?_
                  refine v_run 1 (pc' := 66) (ls' := [some (.ref (ad 138)), some (.ref (ad pl)), some (.ref (ad 33)), some (.int (zI ↑s)), some (.int (zI ↑u))]) (st' := [.int (zI ↑u), .int ((fun k => zI ↑(σ 3 3 k)) s), .int (zI ↑s), .ref (ad 33), .ref (ad pl), .int (zI ↑(s * 6 + u)), .ref (ad 141)]) rfl ?_
                  refine v_callV (My := mX4_goodDays) (As := [.ref (ad 33), .int (zI ↑s), .int ((fun k => zI ↑(σ 3 3 k)) s), .int (zI ↑u)]) (rest := [.int (zI ↑(s * 6 + u)), .ref (ad 141)]) (mc := 0) (ms := 0) rfl caX4_goodDays rfl rfl rfl hg.1.2.2.1.1 rfl rfl (k_goodDays G _ s (σ 3 3 s) u hg.1.2.2.1 hok.1 hg.1.2.2.2.2.1 (hok.2.2 3 (by decide)) (by omega) (by omega) q3) rfl rfl (Nat.le_of_ble_eq_true rfl) (by omega) ?_
                  rintro _ _ ⟨rfl, rfl⟩
                  refine v_run 0 (pc' := 69) (ls' := [some (.ref (ad 138)), some (.ref (ad pl)), some (.ref (ad 33)), some (.int (zI ↑s)), some (.int (zI ↑u))]) (st' := [.int (zI ↑(wL σ s u)), .int (zI ↑(s * 6 + u)), .ref (ad 141)]) rfl ?_
                  refine v_iastore' (y := zI ↑((wL σ) s u)) rfl hg.2.2.1.2.2.2.1 (i := s * 6 + u) rfl (by omega) ?_
                  rw [ar_upd]
                  generalize he2 : hset g _ _ = g1
                  have hw1 : HWt ad pl σ h g1 b j f1 f2 (fun v => if v = s * 6 + u then (wL σ) s u else X v) E := he2 ▸ hg.r3 hA
                  refine v_run 2 (pc' := 28) (ls' := [some (.ref (ad 138)), some (.ref (ad pl)), some (.ref (ad 33)), some (.int (zI ↑s)), some (.int ((zI ↑u) + zI 1))]) (st' := []) rfl ?_
                  rw [zI_s1]
                  exact ih2 (u + 1) _ g1 hw1 (fun t ht v hv => by show (if t * 6 + v = s * 6 + u then (wL σ) s u else X (t * 6 + v)) = _; rw [if_neg (by omega)]; exact hX t ht v hv) (fun v hv => by show (if s * 6 + v = s * 6 + u then (wL σ) s u else X (s * 6 + v)) = _; by_cases e : v = u; (rw [if_pos (by omega), e]); (rw [if_neg (by omega)]; exact hXs v (by omega))) (by omega) (by omega)
          exact lq (j 6 + 1) 0 X g hg hX (fun v hv => absurd hv (by omega)) (by omega) (by omega)
  exact lp (j 5 + 1) 0 f3 h1 hw1 (fun t ht => absurd ht (by omega)) (by omega) (by omega)

