/-! ===== the same state by other addresses ===== -/
section ADC
variable {h : ssH} {ad bd : Nat → Nat} {pl po b o i : Nat} {σ τ : sT} {E : pE}
theorem CMom.at_ (e : ∀ k, b ≤ k → k < b + 5 → bd k = ad k) (hq : CMom h ad b σ o) : CMom h bd b σ o := by
  have er : ∀ k, 3 ≤ k → k ≤ 6 → Rm bd b k = Rm ad b k := fun k h1 h2 => e _ (by omega) (by omega)
  obtain ⟨h1, h2, h3, h4, h5⟩ := hq
  refine ⟨?_, by rw [er 3 (by omega) (by omega)]; exact h2, by rw [er 4 (by omega) (by omega)]; exact h3, by rw [er 5 (by omega) (by omega)]; exact h4, by rw [er 6 (by omega) (by omega)]; exact h5⟩
  unfold ob2
  rw [er 3 (by omega) (by omega), er 4 (by omega) (by omega), er 5 (by omega) (by omega), er 6 (by omega) (by omega), e b (by omega) (by omega)]
  exact h1
theorem CPlan.at_ (e : ∀ k, pl ≤ k → k < pl + 7 → bd k = ad k) (hq : CPlan h ad pl σ) : CPlan h bd pl σ := by
  have er : ∀ k, k = 4 ∨ k = 6 ∨ k = 8 ∨ k = 9 ∨ k = 10 ∨ k = 16 → Rp bd pl k = Rp ad pl k := fun k hk => by
    rcases hk with rfl | rfl | rfl | rfl | rfl | rfl <;> exact e _ (by simp) (by simp)
  obtain ⟨h1, h2, h3, h4, h5, h6⟩ := hq
  refine ⟨?_, by rw [er 4 (by omega)]; exact h2, by rw [er 6 (by omega)]; exact h3, by rw [er 8 (by omega)]; exact h4, by rw [er 9 (by omega)]; exact h5, by rw [er 10 (by omega)]; exact h6⟩
  unfold ob4
  rw [er 4 (by omega), er 6 (by omega), er 8 (by omega), er 9 (by omega), er 10 (by omega), er 16 (by omega), e pl (by omega) (by omega)]
  exact h1
theorem refs_cg {n : Nat} {f g : Nat → Nat} (e : ∀ m, m < n → f m = g m) : refs n f = refs n g := by
  have : (fun m => if m < n then some (f m) else none) = (fun m => if m < n then some (g m) else none) := by
    funext m
    by_cases hm : m < n
    · rw [if_pos hm, if_pos hm, e m hm]
    · rw [if_neg hm, if_neg hm]
  unfold refs
  rw [this]
theorem CUndo.at_ (e : ∀ k, 38 ≤ k → k < 120 → bd k = ad k) (hu : CUndo h ad σ) : CUndo h bd σ := by
  obtain ⟨h1, h2, h3⟩ := hu
  refine ⟨by rw [e 38 (by omega) (by omega), e 39 (by omega) (by omega)]; exact h1, ?_, fun m hm => (h3 m hm).at_ (fun k _ _ => e k (by omega) (by omega))⟩
  rw [e 39 (by omega) (by omega), refs_cg (f := fun m => bd (40 + 5 * m)) (g := fun m => ad (40 + 5 * m)) (fun m hm => e _ (by omega) (by omega))]
  exact h2
theorem CImg.at_ (e : ∀ k, 120 ≤ k → k < 136 → bd k = ad k) (hu : CImg h ad σ) : CImg h bd σ := by
  obtain ⟨h1, h3⟩ := hu
  refine ⟨?_, fun m hm => (h3 m hm).at_ (fun k _ _ => e k (by omega) (by omega))⟩
  rw [e 120 (by omega) (by omega), refs_cg (f := fun m => bd (121 + 5 * m)) (g := fun m => ad (121 + 5 * m)) (fun m hm => e _ (by omega) (by omega))]
  exact h1
theorem CSpan.at_ (e : ∀ k, b ≤ k → k < b + 2 → bd k = ad k) (hu : CSpan h ad b) : CSpan h bd b := by
  unfold CSpan
  rw [e b (by omega) (by omega), e (b + 1) (by omega) (by omega)]
  exact hu
theorem CHang.at_ (e : ∀ k, 138 ≤ k → k < 144 → bd k = ad k) (hu : CHang h ad) : CHang h bd := by
  obtain ⟨b, i, f1, f2, f3, h1, h2, h3, h4, h5⟩ := hu
  exact ⟨b, i, f1, f2, f3, by rw [e 138 (by omega) (by omega), e 139 (by omega) (by omega), e 140 (by omega) (by omega), e 141 (by omega) (by omega), e 142 (by omega) (by omega)]; exact h1, by rw [e 139 (by omega) (by omega)]; exact h2, by rw [e 140 (by omega) (by omega)]; exact h3, by rw [e 141 (by omega) (by omega)]; exact h4, h5.at_ (fun k _ _ => e k (by omega) (by omega))⟩
theorem CDoubt.at_ (e : ∀ k, 144 ≤ k → k < 149 → bd k = ad k) (hu : CDoubt h ad) : CDoubt h bd := by
  obtain ⟨n, f1, f2, h1, h2, h3, h4⟩ := hu
  exact ⟨n, f1, f2, by rw [e 144 (by omega) (by omega), e 145 (by omega) (by omega), e 146 (by omega) (by omega), e 147 (by omega) (by omega)]; exact h1, by rw [e 145 (by omega) (by omega)]; exact h2, by rw [e 146 (by omega) (by omega)]; exact h3, h4.at_ (fun k _ _ => e k (by omega) (by omega))⟩
theorem CW0.at_ (e : ∀ k, k < 149 → bd k = ad k) (hc : CW0 h ad pl σ) : CW0 h bd pl σ := by
  obtain ⟨c0, c1, c2, c3, c4, c5, c6, c7, c8, c9⟩ := hc
  refine ⟨c0, ?_, c2.at_ (fun k _ _ => e k (by omega)), c3.at_ (fun k _ _ => e k (by omega)), c4.at_ (fun k _ _ => e k (by omega)), c5.at_ (fun k _ _ => e k (by omega)), c6.at_ (fun k _ _ => e k (by omega)), c7.at_ (fun k _ _ => e k (by omega)), c8.at_ (fun k _ _ => e k (by omega)), c9.at_ (fun k _ _ => e k (by omega))⟩
  unfold obX
  rw [e 0 (by omega), e 1 (by omega), e pl (by omega), e 33 (by omega), e 38 (by omega), e 120 (by omega), e 136 (by omega), e 138 (by omega), e 144 (by omega)]
  exact c1
theorem PW.at_ (hp : po = 11 ∨ po = 22) (e : ∀ k, k < 150 → bd k = ad k) (hw : PW h ad po E τ i) : PW h bd po E τ i := by
  obtain ⟨p1, p2, ⟨a3, a4, a5, a6, a7⟩, ⟨b8, b9, b10⟩, p5, p6⟩ := hw
  refine ⟨?_, ?_, ⟨by rw [e 3 (by omega)]; exact a3, by rw [e 4 (by omega)]; exact a4, by rw [e 5 (by omega)]; exact a5, by rw [e 6 (by omega)]; exact a6, by rw [e 7 (by omega)]; exact a7⟩, ⟨by rw [e 8 (by omega)]; exact b8, by rw [e 9 (by omega)]; exact b9, by rw [e 10 (by omega)]; exact b10⟩, p5.at_ (fun k _ _ => e k (by omega)), p6.at_ (fun k _ _ => e k (by omega))⟩
  · unfold obP
    rw [e 1 (by omega), e 2 (by omega), e po (by omega), e 8 (by omega), e 9 (by omega), e 10 (by omega)]
    exact p1
  · unfold obE obR
    rw [e 2 (by omega), e 3 (by omega), e 4 (by omega), e 5 (by omega), e 6 (by omega), e 7 (by omega), e 149 (by omega)]
    exact p2
/-- every cell of the class is there -/
theorem CMom.lv (hq : CMom h ad b σ o) {k : Nat} (h1 : b ≤ k) (h2 : k < b + 5) : h (ad k) ≠ none := by
  obtain ⟨q1, q2, q3, q4, q5⟩ := hq
  rcases (show k = b ∨ k = b + 1 ∨ k = b + 2 ∨ k = b + 3 ∨ k = b + 4 by omega) with rfl | rfl | rfl | rfl | rfl
  · rw [q1]; simp
  · exact fun z => by have := q2.symm.trans z; cases this
  · exact fun z => by have := q3.symm.trans z; cases this
  · exact fun z => by have := q4.symm.trans z; cases this
  · exact fun z => by have := q5.symm.trans z; cases this
theorem CPlan.lv (hq : CPlan h ad pl σ) {k : Nat} (h1 : pl ≤ k) (h2 : k < pl + 6) : h (ad k) ≠ none := by
  obtain ⟨q1, q2, q3, q4, q5, q6⟩ := hq
  rcases (show k = pl ∨ k = pl + 1 ∨ k = pl + 2 ∨ k = pl + 3 ∨ k = pl + 4 ∨ k = pl + 5 by omega) with rfl | rfl | rfl | rfl | rfl | rfl
  · rw [q1]; simp
  · exact fun z => by have := q2.symm.trans z; cases this
  · exact fun z => by have := q3.symm.trans z; cases this
  · exact fun z => by have := q4.symm.trans z; cases this
  · exact fun z => by have := q5.symm.trans z; cases this
  · exact fun z => by have := q6.symm.trans z; cases this
theorem CSpan.lv (hu : CSpan h ad b) {k : Nat} (h1 : b ≤ k) (h2 : k < b + 2) : h (ad k) ≠ none := by
  obtain ⟨E, ⟨q1, q2⟩, -⟩ := hu
  rcases (show k = b ∨ k = b + 1 by omega) with rfl | rfl
  · rw [q1]; simp
  · rw [q2]; simp
theorem cw_live (hc : CW0 h ad pl σ) (hw : PW h ad po E τ i) (hpl : po + pl = 33) {k : Nat} (hk : k < 149) : h (ad k) ≠ none := by
  obtain ⟨c0, c1, c2, c3, c4, c5, c6, c7, c8, c9⟩ := hc
  obtain ⟨p1, p2, ⟨a3, a4, a5, a6, a7⟩, ⟨b8, b9, b10⟩, p5, p6⟩ := hw
  by_cases h1 : k < 11
  · rcases (show k = 0 ∨ k = 1 ∨ k = 2 ∨ k = 3 ∨ k = 4 ∨ k = 5 ∨ k = 6 ∨ k = 7 ∨ k = 8 ∨ k = 9 ∨ k = 10 by omega) with rfl | rfl | rfl | rfl | rfl | rfl | rfl | rfl | rfl | rfl | rfl
    · rw [c1]; simp
    · rw [p1]; simp
    · rw [p2]; simp
    · rw [a3]; simp
    · rw [a4]; simp
    · rw [a5]; simp
    · rw [a6]; simp
    · rw [a7]; simp
    · rw [b8]; simp
    · rw [b9]; simp
    · rw [b10]; simp
  · by_cases h2 : k < 33
    · by_cases g : pl ≤ k ∧ k < pl + 11
      · by_cases g2 : k < pl + 6
        · exact c2.lv g.1 g2
        · exact c3.lv (by omega) (by omega)
      · by_cases g2 : k < po + 6
        · exact p5.lv (by omega) g2
        · exact p6.lv (by omega) (by omega)
    · by_cases h3 : k < 38
      · exact c4.lv (by omega) (by omega)
      · by_cases h4 : k < 120
        · obtain ⟨u1, u2, u3⟩ := c5
          by_cases g1 : k = 38
          · rw [g1, u1]; simp
          · by_cases g2 : k = 39
            · rw [g2, u2]; simp
            · exact (u3 ((k - 40) / 5) (by omega)).lv (k := k) (by omega) (by omega)
        · by_cases h5 : k < 136
          · obtain ⟨u1, u2⟩ := c6
            by_cases g1 : k = 120
            · rw [g1, u1]; simp
            · exact (u2 ((k - 121) / 5) (by omega)).lv (k := k) (by omega) (by omega)
          · by_cases h6 : k < 138
            · exact c7.lv (by omega) (by omega)
            · by_cases h7 : k < 144
              · obtain ⟨_, _, _, _, _, u1, u2, u3, u4, u5⟩ := c8
                rcases (show k = 138 ∨ k = 139 ∨ k = 140 ∨ k = 141 ∨ 142 ≤ k by omega) with rfl | rfl | rfl | rfl | g
                · rw [u1]; simp
                · rw [u2]; simp
                · rw [u3]; simp
                · rw [u4]; simp
                · exact u5.lv g (by omega)
              · obtain ⟨_, _, _, u1, u2, u3, u4⟩ := c9
                rcases (show k = 144 ∨ k = 145 ∨ k = 146 ∨ 147 ≤ k by omega) with rfl | rfl | rfl | g
                · rw [u1]; simp
                · rw [u2]; simp
                · rw [u3]; simp
                · exact u4.lv g (by omega)
end ADC
