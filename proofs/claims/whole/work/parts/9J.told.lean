/-! ===== after a good safe() both sides hold the same ===== -/
theorem pigeon : ∀ (m n : Nat) (f : Nat → Nat), (∀ s, s < n → f s < m) → (∀ s t, s < n → t < n → f s = f t → s = t) → n ≤ m
  | 0, n, f, h1, _ => by
    cases n with
    | zero => omega
    | succ n => exact absurd (h1 0 (by omega)) (by omega)
  | m + 1, n, f, h1, h2 => by
    cases n with
    | zero => omega
    | succ n =>
      have := pigeon m n (fun s => if f s = m then f n else f s) (fun s hs => by
        have a := h1 s (by omega)
        have b := h1 n (by omega)
        by_cases e : f s = m
        · simp only [if_pos e]
          have : f n ≠ m := fun z => by have := h2 s n (by omega) (by omega) (e.trans z.symm); omega
          omega
        · simp only [if_neg e]; omega) (fun s t hs ht he => by
        by_cases e1 : f s = m
        · by_cases e2 : f t = m
          · exact h2 s t (by omega) (by omega) (e1.trans e2.symm)
          · simp only [if_pos e1, if_neg e2] at he
            have := h2 n t (by omega) (by omega) he
            omega
        · by_cases e2 : f t = m
          · simp only [if_neg e1, if_pos e2] at he
            have := h2 s n (by omega) (by omega) he
            omega
          · simp only [if_neg e1, if_neg e2] at he
            exact h2 s t (by omega) (by omega) he)
      omega
theorem sSf_1 (σ τ : sT) : sSf σ τ 1 = τ 1 := rfl
theorem sSf_2 (σ τ : sT) : sSf σ τ 2 = τ 2 := rfl
theorem sSf_3 (σ τ : sT) : sSf σ τ 3 = τ 2 := rfl
theorem sSf_RP {σ τ : sT} {ζ : zT} (cr : CR τ ζ) (hz : zOk ζ) (ht : TOk τ) (h5 : ¬ ζ 5 0 = 0) : RP (sSf σ τ) ζ := by
  obtain ⟨⟨a1, a2, a3, a4, a5, a6, a7, a8⟩, ⟨b1, b2⟩, c1, c2, c3, c4, c5, c6, c7, c8, c9, c10⟩ := cr
  obtain ⟨⟨z0, z1, z2, z3, z4, z5, z6, z7, z8, z9, z11⟩, zb, zc, zd, ze, zf, zg, zh⟩ := hz
  have h0 : 0 < ζ 0 0 := by
    rcases Nat.eq_zero_or_pos (ζ 0 0) with e | e
    · exact absurd (zd e).2.1 h5
    · exact e
  obtain ⟨d0, d1, d2, d3⟩ := b2 h0
  obtain ⟨-, m0, m2, -⟩ := ht.mom
  have hpg := pigeon (ζ 4 0) (ζ 5 0) (ζ 14) ze zf
  unfold RP
  rw [sSf_1, sSf_2]
  refine ⟨⟨d0.symm, d1.symm, d2.symm, d3.symm, a1.symm, a2.symm, a3.symm, a4.symm, a5.symm, a6.symm, c10⟩, fun k hk => (c1 k (by omega)).symm, fun s hs => ?_, fun a ha => ?_, ⟨by omega, by omega, by omega⟩, fun k hk => ⟨by have := (c8 k hk).1; omega, (c8 k hk).2⟩, fun k hk => by have := c9 k hk; omega, m0, m2, fun a ha k hk => ?_, by omega⟩
  · obtain ⟨e1, e2, e3, e4⟩ := c2 s (by omega)
    exact ⟨e1.symm, e2.symm, e3.symm, e4.symm, by rw [e2, a1]; exact ze s (by omega)⟩
  · obtain ⟨e1, e2⟩ := c4 a (by omega)
    exact ⟨(c3 a (by omega)).symm, e1.symm, e2.symm, c7 a⟩
  · rw [(c4 a (by omega)).2] at hk
    have := zg a k hk
    omega
theorem sSf_RV {σ τ : sT} {ζ : zT} (cr : CR τ ζ) (hz : zOk ζ) (ht : TOk τ) (h5 : ¬ ζ 5 0 = 0) : RV (sSf σ τ) 3 (mTold ζ) := by
  obtain ⟨⟨a1, a2, a3, a4, a5, a6, a7, a8⟩, ⟨b1, b2⟩, c1, c2, c3, c4, c5, c6, c7, c8, c9, c10⟩ := cr
  obtain ⟨⟨z0, z1, z2, z3, z4, z5, z6, z7, z8, z9, z11⟩, zb, zc, zd, ze, zf, zg, zh⟩ := hz
  have h0 : 0 < ζ 0 0 := by
    rcases Nat.eq_zero_or_pos (ζ 0 0) with e | e
    · exact absurd (zd e).2.1 h5
    · exact e
  obtain ⟨d0, d1, d2, d3⟩ := b2 h0
  obtain ⟨-, m0, m2, -⟩ := ht.mom
  unfold RV
  rw [sSf_1, sSf_3]
  refine ⟨fun s hs => ?_, fun a _ hq => absurd hq (by rw [m0]; omega), ?_, ?_, ?_⟩
  · obtain ⟨e1, e2, e3, e4⟩ := c2 s (by omega)
    refine ⟨?_, ?_, ?_, by rw [e2, a1]; exact ze s (by omega)⟩
    · rw [e2]; unfold mTold mTo
      rw [if_neg (by omega), if_pos (by omega)]
    · rw [e1]; unfold mTold mTo
      rw [if_neg (by omega), if_neg (by omega), if_pos (by omega), show 6 + s - 6 = s by omega]
    · rw [e3]; unfold mTold mTo
      rw [if_neg (by omega), if_neg (by omega), if_neg (by omega), if_pos (by omega), show 12 + s - 12 = s by omega]
  · rw [m0]; unfold mTold mTo
    rw [if_neg (by omega), if_neg (by omega), if_neg (by omega), if_neg (by omega)]
  · rw [d3]; exact if_pos rfl
  · rw [m2]; unfold mTold mTo
    rw [if_neg (by omega), if_neg (by omega), if_neg (by omega), if_neg (by omega)]
theorem sSf_ok {σ τ : sT} (hok : sOk σ) (ht : TOk τ) : sOk (sSf σ τ) := sTr_sok (tU0_ok (sUn_ok (sN3_ok (xch_ok (tU0_ok (tU0_ok hok (by omega)) (by omega)) ht))) (by omega)) (by decide)
theorem sSf_z {σ τ : sT} (hz : sZ σ) (ht : TOk τ) : sZ (sSf σ τ) := by
  have h1 : sZ (sN3 (xch (s4 σ τ) τ)) := sN3_z (xch_z (tU0_z (tU0_z hz (by omega)) (by omega)) ht)
  intro o ho k n hk
  have e : sSf σ τ o k n = sN3 (xch (s4 σ τ) τ) o k n := by
    unfold sSf sTr tU sUn
    rw [if_neg (by omega), if_neg (by omega), if_neg (by omega), if_neg (by omega)]
  rw [e]
  exact h1 o ho k n hk
theorem sSf_RA {σ τ : sT} {ζ : zT} (cr : CR τ ζ) (hz : zOk ζ) (ht : TOk τ) (h5 : ¬ ζ 5 0 = 0) (hok : sOk σ) (hsz : sZ σ) (P K : Nat → Nat) : RA (sSf σ τ) ζ (mTold ζ) P K 0 0 :=
  ⟨⟨sSf_RP cr hz ht h5, hz.sa, sSf_ok hok ht, sSf_z hsz ht⟩, ⟨sSf_RV cr hz ht h5, mTold_ok hz.sa⟩, ⟨rfl, by decide, by show 0 < 16; decide, fun j hj => absurd hj (by omega)⟩, rfl, by decide, fun j hj => absurd hj (by omega)⟩
