/-! ===== writes to moments and to the undoing ===== -/
section AG
variable {h h' : ssH} {ad : Nat → Nat} {pl b o : Nat} {σ : sT}
theorem CPlan.ag (hp : CPlan h ad pl σ) (ha : ∀ k, pl ≤ k → k < pl + 6 → h' (ad k) = h (ad k)) : CPlan h' ad pl σ :=
  ⟨(ha _ (by omega) (by omega)).trans hp.1, (ha _ (by simp) (by simp)).trans hp.2.1, (ha _ (by simp) (by simp)).trans hp.2.2.1, (ha _ (by simp) (by simp)).trans hp.2.2.2.1, (ha _ (by simp) (by simp)).trans hp.2.2.2.2.1, (ha _ (by simp) (by simp)).trans hp.2.2.2.2.2⟩
theorem CMom.ag (hq : CMom h ad b σ o) (ha : ∀ k, b ≤ k → k < b + 5 → h' (ad k) = h (ad k)) : CMom h' ad b σ o :=
  ⟨(ha _ (by omega) (by omega)).trans hq.1, (ha _ (by omega) (by omega)).trans hq.2.1, (ha _ (by omega) (by omega)).trans hq.2.2.1, (ha _ (by omega) (by omega)).trans hq.2.2.2.1, (ha _ (by omega) (by omega)).trans hq.2.2.2.2⟩
theorem CSpan.ag (hu : CSpan h ad b) (ha : ∀ k, b ≤ k → k < b + 2 → h' (ad k) = h (ad k)) : CSpan h' ad b := by
  obtain ⟨E, ⟨h1, h2⟩, h3⟩ := hu
  exact ⟨E, ⟨(ha _ (by omega) (by omega)).trans h1, (ha _ (by omega) (by omega)).trans h2⟩, h3⟩
theorem CHang.ag (hu : CHang h ad) (ha : ∀ k, 138 ≤ k → k < 144 → h' (ad k) = h (ad k)) : CHang h' ad := by
  obtain ⟨b, i, f1, f2, f3, h1, h2, h3, h4, h5⟩ := hu
  exact ⟨b, i, f1, f2, f3, (ha _ (by omega) (by omega)).trans h1, (ha _ (by omega) (by omega)).trans h2, (ha _ (by omega) (by omega)).trans h3, (ha _ (by omega) (by omega)).trans h4, h5.ag (fun k h1 h2 => ha k (by omega) (by omega))⟩
theorem CDoubt.ag (hu : CDoubt h ad) (ha : ∀ k, 144 ≤ k → k < 149 → h' (ad k) = h (ad k)) : CDoubt h' ad := by
  obtain ⟨n, f1, f2, h1, h2, h3, h4⟩ := hu
  exact ⟨n, f1, f2, (ha _ (by omega) (by omega)).trans h1, (ha _ (by omega) (by omega)).trans h2, (ha _ (by omega) (by omega)).trans h3, h4.ag (fun k h1 h2 => ha k (by omega) (by omega))⟩
end AG
theorem CPlan.eq {h : ssH} {ad : Nat → Nat} {pl : Nat} {σ τ : sT} (hp : CPlan h ad pl σ) (e : τ 1 = σ 1) : CPlan h ad pl τ := by
  unfold CPlan fI at hp ⊢
  rw [e]; exact hp
theorem CMom.eq {h : ssH} {ad : Nat → Nat} {b o : Nat} {σ τ : sT} (hp : CMom h ad b σ o) (e : τ o = σ o) : CMom h ad b τ o := by
  unfold CMom fI at hp ⊢
  rw [e]; exact hp
/-- which moments there are, and where they lie -/
def isMo (b o : Nat) : Prop := (b = 33 ∧ o = 3) ∨ (∃ m, m < 16 ∧ b = 40 + 5 * m ∧ o = 10 + m) ∨ ∃ m, m < 3 ∧ b = 121 + 5 * m ∧ o = 30 + m
theorem CW0.mv {h h' : ssH} {ad : Nat → Nat} {pl b o : Nat} {σ τ : sT} (hA : ∀ k l, ad k = ad l → k = l) (hc : CW0 h ad pl σ) (hb : isMo b o) (hσ : ∀ q, q ≠ o → τ q = σ q) (hm : CMom h' ad b τ o) (hf : ∀ q, (∀ k, b ≤ k → k < b + 5 → q ≠ ad k) → h' q = h q) : CW0 h' ad pl τ := by
  obtain ⟨hpl, hx, hP, hF, hN, hU, hI, hS, hH, hD⟩ := hc
  have hb1 : 33 ≤ b ∧ b + 5 ≤ 136 ∧ (b = 33 ∨ 40 ≤ b) ∧ (b + 5 ≤ 120 ∨ 121 ≤ b) ∧ 3 ≤ o ∧ o ≠ 4 := by
    rcases hb with ⟨rfl, rfl⟩ | ⟨m, hm, rfl, rfl⟩ | ⟨m, hm, rfl, rfl⟩ <;> omega
  have ag : ∀ k, k < b ∨ b + 5 ≤ k → h' (ad k) = h (ad k) := fun k hk => hf _ (fun l h1 h2 => ad_ne hA (by omega))
  refine ⟨hpl, ?_, ?_, ?_, ?_, ?_, ?_, hS.ag (fun k h1 h2 => ag k (by omega)), hH.ag (fun k h1 h2 => ag k (by omega)), hD.ag (fun k h1 h2 => ag k (by omega))⟩
  · rw [ag 0 (by omega), hx]
    have e0 := hσ 0 (by omega)
    simp only [obX, e0]
  · exact (hP.ag (fun k h1 h2 => ag k (by omega))).eq (hσ 1 (by omega))
  · exact (hF.ag (fun k h1 h2 => ag k (by omega))).eq (hσ 2 (by omega))
  · rcases hb with ⟨rfl, rfl⟩ | ⟨m, hm1, rfl, rfl⟩ | ⟨m, hm1, rfl, rfl⟩
    · exact hm
    · exact (hN.ag (fun k h1 h2 => ag k (by omega))).eq (hσ 3 (by omega))
    · exact (hN.ag (fun k h1 h2 => ag k (by omega))).eq (hσ 3 (by omega))
  · refine ⟨?_, (ag 39 (by omega)).trans hU.2.1, fun n hn => ?_⟩
    · rw [ag 38 (by omega), hU.1, hσ 4 (by omega)]
    · by_cases hbn : b = 40 + 5 * n
      · have ho : o = 10 + n := by
          rcases hb with ⟨rfl, rfl⟩ | ⟨m, hm1, rfl, rfl⟩ | ⟨m, hm1, rfl, rfl⟩ <;> omega
        subst hbn; subst ho; exact hm
      · have ho : 10 + n ≠ o := by
          rcases hb with ⟨rfl, rfl⟩ | ⟨m, hm1, rfl, rfl⟩ | ⟨m, hm1, rfl, rfl⟩ <;> omega
        exact ((hU.2.2 n hn).ag (fun k h1 h2 => ag k (by
          rcases hb with ⟨rfl, rfl⟩ | ⟨m, hm1, rfl, rfl⟩ | ⟨m, hm1, rfl, rfl⟩ <;> omega))).eq (hσ _ ho)
  · refine ⟨(ag 120 (by omega)).trans hI.1, fun n hn => ?_⟩
    by_cases hbn : b = 121 + 5 * n
    · have ho : o = 30 + n := by
        rcases hb with ⟨rfl, rfl⟩ | ⟨m, hm1, rfl, rfl⟩ | ⟨m, hm1, rfl, rfl⟩ <;> omega
      subst hbn; subst ho; exact hm
    · have ho : 30 + n ≠ o := by
        rcases hb with ⟨rfl, rfl⟩ | ⟨m, hm1, rfl, rfl⟩ | ⟨m, hm1, rfl, rfl⟩ <;> omega
      exact ((hI.2 n hn).ag (fun k h1 h2 => ag k (by
        rcases hb with ⟨rfl, rfl⟩ | ⟨m, hm1, rfl, rfl⟩ | ⟨m, hm1, rfl, rfl⟩ <;> omega))).eq (hσ _ ho)
/-- σ with the contents of object a at object b -/
def sCp (σ : sT) (a b : Nat) : sT := fun o => if o = b then σ a else σ o
theorem sCp_self (σ : sT) (a b : Nat) : sCp σ a b b = σ a := by simp [sCp]
theorem sCp_ne (σ : sT) {a b o : Nat} (h : o ≠ b) : sCp σ a b o = σ o := by simp [sCp, h]
/-- σ with another count and next of the undoing -/
def sUn (σ : sT) (c n : Nat) : sT := fun o k m => if o = 4 ∧ k = 0 then c else if o = 4 ∧ k = 1 then n else σ o k m
theorem sUn_ne (σ : sT) {c n o : Nat} (h : o ≠ 4) : sUn σ c n o = σ o := by funext k m; simp [sUn, h]
theorem CW0.un {h : ssH} {ad : Nat → Nat} {pl : Nat} {σ : sT} (hA : ∀ k l, ad k = ad l → k = l) (hc : CW0 h ad pl σ) (c n : Nat) : CW0 (hset h (ad 38) (.inr (7, [.int (zI ↑c), .int (zI ↑n), .ref (ad 39)]))) ad pl (sUn σ c n) := by
  obtain ⟨hpl, hx, hP, hF, hN, hU, hI, hS, hH, hD⟩ := hc
  refine ⟨hpl, ?_, (hP.fr hA (by omega)).eq (sUn_ne σ (by decide)), (hF.fr hA (by omega)).eq (sUn_ne σ (by decide)), (hN.fr hA (by omega)).eq (sUn_ne σ (by decide)), ?_, ?_, hS.fr hA (by omega), hH.fr hA (by omega), hD.fr hA (by omega)⟩
  · rw [hset_ne _ _ (ad_ne hA (by decide)), hx]
    simp only [obX, sUn_ne σ (show 0 ≠ 4 by decide)]
  · exact ⟨by rw [hset_self]; simp [sUn], (hset_ne _ _ (ad_ne hA (by decide))).trans hU.2.1, fun m hm => ((hU.2.2 m hm).fr hA (by omega)).eq (sUn_ne σ (by omega))⟩
  · exact ⟨(hset_ne _ _ (ad_ne hA (by decide))).trans hI.1, fun m hm => ((hI.2 m hm).fr hA (by omega)).eq (sUn_ne σ (by omega))⟩
/-- a whole moment written: the frame of a question or an act -/
theorem frP.mo {ad : Nat → Nat} (hA : ∀ k l, ad k = ad l → k = l) {pl b o : Nat} (hpl : pl = 11 ∨ pl = 22) {h h1 h2 : ssH} (a : frP ad pl h h1) (hb : isMo b o) (hf : ∀ q, (∀ k, b ≤ k → k < b + 5 → q ≠ ad k) → h2 q = h1 q) : frP ad pl h h2 := by
  have hb1 : 33 ≤ b ∧ b + 5 ≤ 136 := by
    rcases hb with ⟨rfl, rfl⟩ | ⟨m, hm, rfl, rfl⟩ | ⟨m, hm, rfl, rfl⟩ <;> omega
  refine a.tr ⟨fun q hq => hf q (fun k h1 h2 => hq k (by omega)), fun k hk => hf _ (fun l h1 h2 => ad_ne hA (by omega))⟩
/-- an act's answer -/
def cRV (ad : Nat → Nat) (pl : Nat) (σ' : sT) (h0 : ssH) : Option Value → ssH → Prop := fun r h' => r = none ∧ CW0 h' ad pl σ' ∧ frP ad pl h0 h'
theorem refs_at {n m : Nat} {f : Nat → Nat} (h : m < n) : va_rf ((fun m => if m < n then some (f m) else none) m) = .ref (f m) := by simp [h, va_rf]
