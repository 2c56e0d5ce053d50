/-! ===== size() of both sides ===== -/
theorem size_same {σ : sT} {ζ : Nat → Nat → Nat} {V P K : Nat → Nat} {c i : Nat} {m : Nat → Int} {L : Int} (ra : RA σ ζ V P K c i) (h6 : m 6 = L) (h19 : m 19 = ↑c) (h20 : m 20 = ↑i) (s : Int) : aSize σ L s = bSize ζ V m s := by
  obtain ⟨⟨⟨⟨p0, p1, p2, p3, p4, p5, p6, p7, p8, p9, p10⟩, -⟩, -⟩, ⟨⟨-, -, v23, v24, v25⟩, -⟩, ⟨ec, -⟩, ei, -⟩ := ra
  unfold aSize bSize
  by_cases h15 : s = 15
  · rw [if_pos (by omega), if_pos h15, h15, h6]; rfl
  · rw [if_neg h15]
    by_cases hr : 0 ≤ s ∧ s ≤ 14
    · rw [if_pos (by omega), if_neg (fun z => z hr)]
      obtain ⟨k, rfl⟩ : ∃ k : Nat, s = ↑k := ⟨s.toNat, by omega⟩
      rw [Int.toNat_natCast]
      rcases (show k = 0 ∨ k = 1 ∨ k = 2 ∨ k = 3 ∨ k = 4 ∨ k = 5 ∨ k = 6 ∨ k = 7 ∨ k = 8 ∨ k = 9 ∨ k = 10 ∨ k = 11 ∨ k = 12 ∨ k = 13 ∨ k = 14 by omega) with rfl | rfl | rfl | rfl | rfl | rfl | rfl | rfl | rfl | rfl | rfl | rfl | rfl | rfl | rfl
      · show (↑(σ 1 0 0) : Int) = ↑(ζ 0 0); rw [p0]
      · show (↑(σ 1 1 0) : Int) = ↑(ζ 1 0); rw [p1]
      · show (↑(σ 1 2 0) : Int) = ↑(ζ 2 0); rw [p2]
      · show (↑(σ 3 1 0) : Int) = ↑(V 24); rw [v24]
      · show (↑(σ 1 3 0) : Int) = ↑(ζ 4 0); rw [p4]
      · show (↑(σ 1 5 0) : Int) = ↑(ζ 5 0); rw [p5]
      · show (↑(σ 1 7 0) : Int) = ↑(ζ 6 0); rw [p6]
      · show (↑(σ 1 11 0) : Int) = ↑(ζ 7 0); rw [p7]
      · show (↑(σ 1 12 0) : Int) = ↑(ζ 8 0); rw [p8]
      · show (if σ 1 13 0 = 0 then (0 : Int) else 1) = if ζ 9 0 = 0 then 0 else 1; rw [p9]
      · show (↑(popN (σ 1 14 0 ||| σ 1 15 0)) : Int) = ↑(ζ 10 0); rw [p10]
      · show (↑(σ 3 0 0) : Int) = ↑(V 23); rw [v23]
      · show (↑(σ 3 2 0) : Int) = ↑(V 25); rw [v25]
      · show (↑(σ 4 0 0) : Int) = m 19; rw [h19, ec]
      · show (↑(σ 0 5 0) : Int) = m 20; rw [h20, ei]
    · rw [if_neg (by omega), if_pos hr]
/-- no safe was told -/
def UT (σ : sT) : Prop := (∀ o, o ≠ 0 → ∀ k n, σ o k n = 0) ∧ σ 0 5 0 = 0
theorem size_none {σ : sT} {m : Nat → Int} {L : Int} (u : UT σ) (h6 : m 6 = L) (s : Int) : aSize σ L s = bSize0 m s := by
  unfold aSize bSize0
  by_cases h15 : s = 15
  · rw [if_pos (by omega), if_pos h15, h15, h6]; rfl
  · rw [if_neg h15]
    by_cases hr : 0 ≤ s ∧ s ≤ 14
    · rw [if_pos (by omega), if_neg (fun z => z hr)]
      obtain ⟨k, rfl⟩ : ∃ k : Nat, s = ↑k := ⟨s.toNat, by omega⟩
      rw [Int.toNat_natCast]
      rcases (show k = 0 ∨ k = 1 ∨ k = 2 ∨ k = 3 ∨ k = 4 ∨ k = 5 ∨ k = 6 ∨ k = 7 ∨ k = 8 ∨ k = 9 ∨ k = 10 ∨ k = 11 ∨ k = 12 ∨ k = 13 ∨ k = 14 by omega) with rfl | rfl | rfl | rfl | rfl | rfl | rfl | rfl | rfl | rfl | rfl | rfl | rfl | rfl | rfl
      · show (↑(σ 1 0 0) : Int) = 0; rw [u.1 1 (by decide)]; rfl
      · show (↑(σ 1 1 0) : Int) = 0; rw [u.1 1 (by decide)]; rfl
      · show (↑(σ 1 2 0) : Int) = 0; rw [u.1 1 (by decide)]; rfl
      · show (↑(σ 3 1 0) : Int) = 0; rw [u.1 3 (by decide)]; rfl
      · show (↑(σ 1 3 0) : Int) = 0; rw [u.1 1 (by decide)]; rfl
      · show (↑(σ 1 5 0) : Int) = 0; rw [u.1 1 (by decide)]; rfl
      · show (↑(σ 1 7 0) : Int) = 0; rw [u.1 1 (by decide)]; rfl
      · show (↑(σ 1 11 0) : Int) = 0; rw [u.1 1 (by decide)]; rfl
      · show (↑(σ 1 12 0) : Int) = 0; rw [u.1 1 (by decide)]; rfl
      · show (if σ 1 13 0 = 0 then (0 : Int) else 1) = 0; rw [u.1 1 (by decide)]; rfl
      · show (↑(popN (σ 1 14 0 ||| σ 1 15 0)) : Int) = 0; rw [u.1 1 (by decide), u.1 1 (by decide)]; decide
      · show (↑(σ 3 0 0) : Int) = 0; rw [u.1 3 (by decide)]; rfl
      · show (↑(σ 3 2 0) : Int) = 0; rw [u.1 3 (by decide)]; rfl
      · show (↑(σ 4 0 0) : Int) = 0; rw [u.1 4 (by decide)]; rfl
      · show (↑(σ 0 5 0) : Int) = 0; rw [u.2]; rfl
    · rw [if_neg (by omega), if_pos hr]
theorem UT.s0 : UT s0 := ⟨fun _ _ _ _ => rfl, rfl⟩
theorem UT.tr {σ : sT} (u : UT σ) (t : Nat) : UT (sTr σ t) := ⟨fun o ho k n => by rw [sTr_o ho]; exact u.1 o ho k n, u.2⟩
theorem UT.bad {σ : sT} (u : UT σ) (τ : sT) : UT (s4 σ τ) := ⟨fun o ho k n => by
  unfold s4
  rw [tU0_o ho, tU0_o ho]
  exact u.1 o ho k n, u.2⟩
