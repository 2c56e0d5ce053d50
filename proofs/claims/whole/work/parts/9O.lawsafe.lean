/-! ===== safe(n) on both sides ===== -/
section LAWS
variable {h h' : ssH} {ad : Nat → Nat} {pl i j N M : Nat} {σ τ : sT} {E : pE} {sv rv : Value} {m : Nat → Int} {ρ : Nat → Nat → Nat} {B : Nat → Int} {r : Option Value} {e : Nat × Nat} {ζ : zT}
theorem LC.sfBad (hA : ∀ k l, ad k = ad l → k = l) (hl : LC h ad pl σ E τ i N) (ks : KsP ad pl (33 - pl) σ E h (.inl e) r h') : r = some (.int (zI (-1))) ∧ ∃ E' τ' j, LC h' ad pl (sTr (s4 σ τ') 4) E' τ' j 0 ∧ eB E' = eB E ∧ τ' 5 1 0 = e.1 ∧ τ' 5 2 0 = e.2 ∧ fr200 ad h h' := by
  obtain ⟨k1, E', τ', j, k2, k3, k4, k5, k6, k7, k8, k9⟩ := ks
  refine ⟨k1, E', τ', j, ⟨k8, k2, k3, fun o k n ho => ?_, k4, by omega, by rw [k5]; exact hl.2.2.2.2.2.2.1, (k9 _ (fun l hl => ad_ne hA (by omega))).trans hl.2.2.2.2.2.2.2⟩, k5, k6, k7, k9⟩
  have e1 : sTr (s4 σ τ') 4 o = σ o := by
    unfold s4
    rw [sTr_o (by omega), tU0_o (by omega), tU0_o (by omega)]
  rw [e1]
  exact hl.2.2.2.1 o k n ho
theorem LC.sfGood (hA : ∀ k l, ad k = ad l → k = l) (hl : LC h ad pl σ E τ i N) (ks : KsP ad pl (33 - pl) σ E h (.inr ζ) r h') : r = some (.int (zI ↑(ζ 5 0))) ∧ ∃ E' τ' j, LC h' ad (33 - pl) (sSf σ τ') E' (xch τ' (s4 σ τ')) j 0 ∧ eB E' = eB E ∧ CR τ' ζ ∧ zOk ζ ∧ ¬ ζ 5 0 = 0 ∧ TOk τ' ∧ fr200 ad h h' := by
  obtain ⟨k1, E', τ', j, k2, k3, k4, k5, k6, k7, k8, k9, k10⟩ := ks
  have c0 := hl.1.1
  refine ⟨k1, E', τ', j, ⟨k9, ?_, fun o k n ho => ?_, fun o k n ho => ?_, k7, by omega, by rw [k8]; exact hl.2.2.2.2.2.2.1, (k10 _ (fun l hl => ad_ne hA (by omega))).trans hl.2.2.2.2.2.2.2⟩, k8, k4, k5, k6, k3, k10⟩
  · rw [show 33 - (33 - pl) = pl by omega]; exact k2
  · rcases ho with rfl | rfl | rfl
    · exact hl.2.2.2.1 1 k n (Or.inl rfl)
    · exact hl.2.2.2.1 2 k n (Or.inr rfl)
    · exact k3 5 k n (Or.inr (Or.inr rfl))
  · rcases ho with rfl | rfl
    · exact k3 1 k n (Or.inl rfl)
    · exact k3 2 k n (Or.inr (Or.inl rfl))
theorem LC.live (hl : LC h ad pl σ E τ i N) {k : Nat} (hk : k < 150) : h (ad k) ≠ none := by
  by_cases e : k = 149
  · rw [e, hl.2.2.2.2.2.2.2]; simp
  · exact cw_live hl.1 hl.2.1 (by have := hl.1.1; omega) (by omega)
theorem LM.live (hm : LM h ad sv rv m ρ B N) {k : Nat} (h1 : 200 ≤ k) (h2 : k < 209) : h (ad k) ≠ none := by
  obtain ⟨c1, c2, ⟨a, b, c, d, f, g, i⟩, -⟩ := hm
  rcases (show k = 200 ∨ k = 201 ∨ k = 202 ∨ k = 203 ∨ k = 204 ∨ k = 205 ∨ k = 206 ∨ k = 207 ∨ k = 208 by omega) with rfl | rfl | rfl | rfl | rfl | rfl | rfl | rfl | rfl
  · rw [c1]; simp
  · rw [c2]; simp
  · rw [b]; simp
  · rw [a]; simp
  · rw [c]; simp
  · rw [d]; simp
  · rw [f]; simp
  · rw [g]; simp
  · rw [i]; simp
theorem LM.f2 (hA : ∀ k l, ad k = ad l → k = l) (hm : LM h ad sv rv m ρ B N) (f : fr200 ad h h') : LM h' ad sv rv m ρ B N := hm.ag (fun k h1 _ => f _ (fun l hl => ad_ne hA (by omega)))
theorem LM.sfBad (hA : ∀ k l, ad k = ad l → k = l) (hm : LM h ad sv rv m ρ B N) (hc : LC h ad pl σ E τ i M) (sf : SfP ad sv m h (.inl e) r h') : r = some (.int (zI (-1))) ∧ ∃ rv' m', LM h' ad sv rv' m' ρ B 0 ∧ LC h' ad pl σ E τ i M ∧ (m' 0 = 0 ∧ m' 1 = 4 ∧ m' 2 = ↑e.2 ∧ m' 12 = ↑e.1 ∧ m' 6 = 0 ∧ m' 19 = m 19 ∧ m' 20 = m 20) ∧ ∀ b, h b ≠ none → b ≠ ad 200 → h' b = h b := by
  obtain ⟨k1, rv', m', k2, k3, k4⟩ := sf
  have hk : ∀ k, 200 < k → k < 209 → h' (ad k) = h (ad k) := fun k h1 h2 => k4 _ (hm.live (by omega) h2) (ad_ne hA (by omega))
  refine ⟨k1, rv', m', ⟨k2, (hk 201 (by omega) (by omega)).trans hm.2.1, hm.2.2.1.ag (fun k h1 h2 => hk k (by omega) h2), hm.2.2.2.1, hm.2.2.2.2.1, k3.2.2.2.2.1⟩, hc.ag (fun k hk2 => k4 _ (hc.live hk2) (ad_ne hA (by omega))), k3, k4⟩
theorem LC.at_ {bd : Nat → Nat} (hl : LC h ad pl σ E τ i N) (e : ∀ k, k < 150 → bd k = ad k) : LC h bd pl σ E τ i N := ⟨hl.1.at_ (fun k hk => e k (by omega)), hl.2.1.at_ (by have := hl.1.1; omega) e, hl.2.2.1, hl.2.2.2.1, hl.2.2.2.2.1, hl.2.2.2.2.2.1, hl.2.2.2.2.2.2.1, by rw [e 149 (by omega)]; exact hl.2.2.2.2.2.2.2⟩
theorem LM.sfGood (hA : ∀ k l, ad k = ad l → k = l) (hm : LM h ad sv rv m ρ B N) (hc : LC h ad pl σ E τ i M) (sf : SfP ad sv m h (.inr ζ) r h') : r = some (.int (zI ↑(ζ 5 0))) ∧ hzR ζ ∧ ¬ ζ 5 0 = 0 ∧ ∃ (bd : Nat → Nat) (rv' : Value) (m' : Nat → Int) (ρ' : Nat → Nat → Nat), (∀ k l, bd k = bd l → k = l) ∧ (∀ k, k < 210 → h (ad k) ≠ none → bd k = ad k) ∧ LM h' bd (.ref (bd 210)) rv' m' ρ' B 0 ∧ MT h' bd rv' m' ζ ρ' ∧ ρ' 2 = mTold ζ ∧ LC h' bd pl σ E τ i M ∧ (m' 0 = 0 ∧ m' 1 = 0 ∧ m' 2 = -1 ∧ m' 12 = 0 ∧ m' 6 = 0 ∧ m' 19 = 0 ∧ m' 20 = 0) ∧ ∀ b, h b ≠ none → b ≠ ad 200 → (∀ k, 202 ≤ k ∧ k < 209 → b ≠ ad k) → h' b = h b := by
  obtain ⟨k1, k2, k3, bd, rv', m', ρ', b1, b2, mt, r2, mf, fr⟩ := sf
  refine ⟨k1, k2, k3, bd, rv', m', ρ', b1, b2, ?_, mt, r2, ?_, mf, fr⟩
  · have mt2 := mt
    obtain ⟨⟨a1, a2, a3⟩, x3, c, d, f, g, i, l⟩ := mt2
    refine ⟨a1, ?_, ⟨a3, c, d, f, g, i, l⟩, x3, fun k hk => by rw [r2]; exact (mTold_ok k2.1.sa).2.2.2.2.2.2 k hk, mf.2.2.2.2.1⟩
    rw [b2 201 (by omega) (hm.live (by omega) (by omega)), fr _ (hm.live (k := 201) (by omega) (by omega)) (ad_ne hA (by decide)) (fun k hk => ad_ne hA (by omega))]
    exact hm.2.1
  · exact (hc.ag (h' := h') (fun k hk => fr _ (hc.live hk) (ad_ne hA (by omega)) (fun l hl => ad_ne hA (by omega)))).at_ (fun k hk => b2 k (by omega) (hc.live hk))
end LAWS
