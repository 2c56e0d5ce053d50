section OKS
variable {T : Nat → Int} {n : Nat}
theorem pWd_ok {k i j : Nat} (h : pWd T n k i = .inr j) (hl : liv T n i) (hk : 1 ≤ k) : j = i + 1 ∧ liv T n (i + 1) ∧ tK T n i = k := by
  unfold pWd at h
  by_cases c : tK T n i = k
  · rw [if_pos c] at h
    exact ⟨(Sum.inr.inj h).symm, liv_K hl (by omega), c⟩
  · rw [if_neg c] at h; cases h
theorem pNum_ok {k lo hi i : Nat} {a : Nat × Nat} (h : pNum T n k lo hi i = .inr a) (hl : liv T n i) (hk : 1 ≤ k) : a.1 = i + 2 ∧ liv T n (i + 2) ∧ lo ≤ a.2 ∧ a.2 ≤ hi := by
  unfold pNum at h
  rcases hr : pWd T n k i with e | j
  · rw [hr] at h; cases h
  · obtain ⟨rfl, h1, h2⟩ := pWd_ok hr hl hk
    rw [hr] at h
    simp only [sb, pVal] at h
    by_cases c : tS T n (i + 1) = 3
    · rw [if_pos c] at h
      by_cases d : lo ≤ tV T n (i + 1) ∧ tV T n (i + 1) ≤ hi
      · rw [if_pos d] at h
        have := Sum.inr.inj h
        subst this
        exact ⟨rfl, liv_s h1 (by omega), d.1, d.2⟩
      · rw [if_neg d] at h; cases h
    · rw [if_neg c] at h; cases h
theorem nm_liv {i : Nat} (hl : liv T n i) (h : ¬ nmB T n i = false) : liv T n (i + 1) ∧ tS T n i = 2 := by
  have h2 := of_decide_eq_true (Bool.not_eq_false _ ▸ h : nmB T n i = true)
  exact ⟨liv_s hl (by omega), h2.1⟩
end OKS
theorem cNew_ok {E : pE} {τ : sT} {s k i : Nat} {q : Nat × sT} (h : cNew E τ s k i = .inr q) (hl : liv (eB E) (eN E) i) : q = (i + 1, tU (tU (tU (tU τ 5 8 (τ 5 7 0) (tV (eB E) (eN E) i)) 5 9 (τ 5 7 0) s) 5 10 (τ 5 7 0) k) 5 7 0 (τ 5 7 0 + 1)) ∧ liv (eB E) (eN E) (i + 1) ∧ tS (eB E) (eN E) i = 2 := by
  unfold cNew at h
  by_cases c : nmB (eB E) (eN E) i = false
  · rw [if_pos c] at h; cases h
  · rw [if_neg c] at h
    by_cases d : fndT τ (tV (eB E) (eN E) i) < τ 5 7 0
    · rw [if_pos d] at h; cases h
    · rw [if_neg d] at h
      exact ⟨(Sum.inr.inj h).symm, nm_liv hl c⟩
theorem cTold_ok {E : pE} {τ : sT} {s i k : Nat} (h : cTold E τ s i = .inr k) (hl : liv (eB E) (eN E) i) (ht : TOk τ) : liv (eB E) (eN E) (i + 1) ∧ k ≤ 5 ∧ ∃ d, d < τ 5 7 0 ∧ τ 5 9 d = s ∧ τ 5 10 d = k := by
  unfold cTold at h
  by_cases c : nmB (eB E) (eN E) i = false
  · rw [if_pos c] at h; cases h
  · rw [if_neg c] at h
    by_cases d : fndT τ (tV (eB E) (eN E) i) < τ 5 7 0 ∧ τ 5 9 (fndT τ (tV (eB E) (eN E) i)) = s
    · rw [if_pos d] at h
      have e := Sum.inr.inj h
      have := ht 5 10 (fndT τ (tV (eB E) (eN E) i)) (by omega)
      exact ⟨(nm_liv hl c).1, by rw [← e]; exact this, _, d.1, d.2, e⟩
    · rw [if_neg d] at h; cases h
theorem or_lt {a k n : Nat} (ha : a < 2 ^ n) (hk : k < n) : a ||| 2 ^ k < 2 ^ n := Nat.or_lt_two_pow ha (Nat.pow_lt_pow_right (by decide) hk)
theorem bN_zI {a k : Nat} (ha : a < 2147483648) (hk : k < 32) : ((zI ↑a >>> (zI ↑k &&& 31)) &&& zI 1 = zI 1) ↔ bitN a k = true := by
  rw [zI_bit hk ha, bitN_true]
  have := bitN_le a k
  rw [show zI 1 = zI ↑(1 : Nat) from rfl, zI_nat_inj (by omega) (by omega)]
theorem zI_or2 {a k : Nat} (ha : a < 2147483648) (hk : k < 30) : zI ↑a ||| (zI 1 <<< (zI ↑k &&& 31)) = zI ↑(a ||| 2 ^ k) := by
  rw [zI_1shl (by omega), zI_lor ha (Nat.lt_of_lt_of_le (Nat.pow_lt_pow_right (by decide) (show k < 31 by omega)) (by decide))]
