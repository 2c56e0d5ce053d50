section LNT
variable {τ : sT} {ζ : zT} {E : pE} {i : Nat}
theorem fnd_nm {w s k v : Nat} (hn : ¬ fnd ζ w < ζ 11 0) : (fnd ζ v < ζ 11 0 → fnd (zNm ζ w s k) v = fnd ζ v) ∧ (¬ fnd ζ v < ζ 11 0 → ζ 11 0 ≤ fnd (zNm ζ w s k) v ∧ (fnd (zNm ζ w s k) v < ζ 11 0 + 1 → fnd (zNm ζ w s k) v = ζ 11 0)) := by
  obtain ⟨p1, p2, p3⟩ := fnd_bd ζ v
  obtain ⟨q1, q2, q3⟩ := fnd_bd (zNm ζ w s k) v
  have e11 : zNm ζ w s k 11 0 = ζ 11 0 + 1 := rfl
  have e21 : ∀ j, j < ζ 11 0 → zNm ζ w s k 21 j = ζ 21 j := fun j hj => by
    have : zNm ζ w s k 21 j = if j = ζ 11 0 then w else ζ 21 j := by simp [zNm, zU]
    rw [this, if_neg (by omega)]
  rw [e11] at q1 q2
  refine ⟨fun h => ?_, fun h => ⟨?_, fun h2 => ?_⟩⟩
  · rcases Nat.lt_trichotomy (fnd (zNm ζ w s k) v) (fnd ζ v) with z | z | z
    · have := q2 (by omega)
      rw [e21 _ (by omega)] at this
      exact absurd this (p3 _ z)
    · exact z
    · have := q3 _ z
      rw [e21 _ (by omega)] at this
      exact absurd (p2 h) this
  · rcases Nat.lt_or_ge (fnd (zNm ζ w s k) v) (ζ 11 0) with z | z
    · have := q2 (by omega)
      rw [e21 _ z] at this
      exact absurd this (p3 _ (by omega))
    · exact z
  · rcases Nat.lt_or_ge (fnd (zNm ζ w s k) v) (ζ 11 0) with z | z
    · have := q2 (by omega)
      rw [e21 _ z] at this
      exact absurd this (p3 _ (by omega))
    · omega
theorem told_nm {w s k u : Nat} (hn : ¬ fnd ζ w < ζ 11 0) (hs : s ≠ u) (i : Nat) : pTold (eB E) (eN E) (zNm ζ w s k) u i = pTold (eB E) (eN E) ζ u i := by
  unfold pTold
  by_cases h1 : nmB (eB E) (eN E) i = false
  · rw [if_pos h1, if_pos h1]
  · rw [if_neg h1, if_neg h1]
    obtain ⟨f1, f2⟩ := fnd_nm (ζ := ζ) (w := w) (s := s) (k := k) (v := tV (eB E) (eN E) i) hn
    have e11 : zNm ζ w s k 11 0 = ζ 11 0 + 1 := rfl
    have e22 : ∀ j, zNm ζ w s k 22 j = if j = ζ 11 0 then s else ζ 22 j := fun j => by simp [zNm, zU]
    have e23 : ∀ j, zNm ζ w s k 23 j = if j = ζ 11 0 then k else ζ 23 j := fun j => by simp [zNm, zU]
    by_cases h2 : fnd ζ (tV (eB E) (eN E) i) < ζ 11 0
    · have a1 : zNm ζ w s k 22 (fnd ζ (tV (eB E) (eN E) i)) = ζ 22 (fnd ζ (tV (eB E) (eN E) i)) := by rw [e22, if_neg (by omega)]
      have a2 : zNm ζ w s k 23 (fnd ζ (tV (eB E) (eN E) i)) = ζ 23 (fnd ζ (tV (eB E) (eN E) i)) := by rw [e23, if_neg (by omega)]
      rw [f1 h2, e11, a1, a2]
      by_cases h3 : ζ 22 (fnd ζ (tV (eB E) (eN E) i)) = u
      · rw [if_pos ⟨by omega, h3⟩, if_pos ⟨h2, h3⟩]
      · rw [if_neg (fun z => h3 z.2), if_neg (fun z => h3 z.2)]
    · obtain ⟨g1, g2⟩ := f2 h2
      rw [if_neg (fun z => by
        have z1 := g2 z.1
        have z2 := z.2
        rw [e22, if_pos z1] at z2
        exact hs z2), if_neg (fun z => h2 z.1)]
theorem CR.k23 (cr : CR τ ζ) (v : Nat) : CR (tU τ 2 3 (ζ 5 0) v) ζ := by
  obtain ⟨a, b, c, d, e⟩ := cr
  refine ⟨a, b, c, fun s hs => ⟨?_, (d s hs).2⟩, e⟩
  show (if 2 = 2 ∧ 3 = 3 ∧ s = ζ 5 0 then v else τ 2 3 s) = _
  rw [if_neg (by omega)]; exact (d s hs).1
theorem hng_iff (h : Nat) : hngB ζ h = true ↔ ∃ s, s < ζ 5 0 ∧ ζ 14 s = h := by
  unfold hngB
  rw [decide_eq_true_eq]
  obtain ⟨p1, p2, p3, p4⟩ := fstN_bd (fun s => decide (ζ 14 s = h)) (ζ 5 0) 0
  constructor
  · intro q
    exact ⟨_, q, of_decide_eq_true (p3 (by omega))⟩
  · rintro ⟨s, q1, q2⟩
    rcases Nat.lt_or_ge (fstN (fun s => decide (ζ 14 s = h)) (ζ 5 0) 0) (ζ 5 0) with z | z
    · exact z
    · have := p4 s (by omega) (by omega)
      rw [decide_eq_false_iff_not] at this
      exact absurd q2 this
theorem pWd_b {T : Nat → Int} {n k i j : Nat} (h : pWd T n k i = .inr j) : j = i + 1 := by
  unfold pWd at h
  split at h
  · exact (Sum.inr.inj h).symm
  · cases h
theorem rel_sen (cr : CR τ ζ) (hz : zOk ζ) (hq : 0 < ζ 0 0) : RLn (cSen E τ i) (lSen (eB E) (eN E) ζ i) := by
  unfold cSen lSen
  have e4 := cr.1.2.1
  rw [e4]
  by_cases h0 : ζ 5 0 = 6
  · rw [if_pos h0, if_pos h0]; rfl
  · rw [if_neg h0, if_neg h0, cr.new]
    rcases hr : pNew (eB E) (eN E) ζ (i + 1) with e | j
    · rfl
    · simp only [sb, cKind, pKind]
      obtain ⟨hj, qw, qn⟩ := pNew_b hr
      by_cases hk : 19 ≤ tK (eB E) (eN E) j
      · rw [if_pos hk, if_pos hk]
        simp only [sb]
        rcases hr2 : pWd (eB E) (eN E) 15 (j + 1) with e | j2
        · rfl
        · simp only [sb, cFree]
          have crn := (cr.nm (tV (eB E) (eN E) (i + 1)) 1 (ζ 5 0)).k23 (tK (eB E) (eN E) j - 19)
          have et := crn.told (E := E) 0 j2
          rw [told_nm qn (by decide)] at et
          have et : cTold E (tU (tNm τ (tV (eB E) (eN E) (i + 1)) 3 (ζ 5 0)) 2 3 (ζ 5 0) (tK (eB E) (eN E) j - 19)) 2 j2 = pTold (eB E) (eN E) ζ 0 j2 := et
          rw [et]
          rcases hr3 : pTold (eB E) (eN E) ζ 0 j2 with e | h
          · rfl
          · simp only [sb]
            have qh := pTold_lt hz hr3
            have qh4 := qh.2.1 rfl
            have e56 : tU (tNm τ (tV (eB E) (eN E) (i + 1)) 3 (ζ 5 0)) 2 3 (ζ 5 0) (tK (eB E) (eN E) j - 19) 5 6 0 = τ 5 6 0 := rfl
            rw [e56]
            have hiff : bitN (τ 5 6 0) h = true ↔ hngB ζ h = true := (cr.2.2.2.2.2.2.2.1 h).trans (hng_iff h).symm
            by_cases hb : bitN (τ 5 6 0) h = true
            · rw [if_pos hb, if_pos (hiff.mp hb)]; rfl
            · rw [if_neg hb, if_neg (fun z => hb (hiff.mpr z))]
              simp only [sb]
              rcases hr4 : pNum (eB E) (eN E) 16 1 99 (j2 + 1) with e | a
              · rfl
              · simp only [sb]
                rcases hr5 : pNum (eB E) (eN E) 17 0 9 a.1 with e | b
                · rfl
                · have q1 := pNum_b hr4
                  have q2 := pNum_b hr5
                  have hk2 := tK_le (T := eB E) (n := eN E) j
                  have hno : ∀ s, s < ζ 5 0 → ¬ ζ 14 s = h := fun s hs z => hb ((cr.2.2.2.2.2.2.2.1 h).mpr ⟨s, hs, z⟩)
                  obtain ⟨⟨z0, z1, z2, z3, z4, z5, z6, z7, z8, z9, z11⟩, ⟨r12, r13, r14, r15, r16, rr⟩, ⟨n1, n2, n3, n4⟩, zd, ze, zf, zg, zh⟩ := hz
                  have nb := nm_bd (ζ := ζ) (s := 1) (k := ζ 5 0) ⟨n1, n2, n3⟩ qw (by decide) (by omega)
                  have e14 : ∀ s, zU (zU (zU (zU (zU (zNm ζ (tV (eB E) (eN E) (i + 1)) 1 (ζ 5 0)) 13 (ζ 5 0) (tK (eB E) (eN E) j - 19)) 14 (ζ 5 0) h) 15 (ζ 5 0) a.2) 16 (ζ 5 0) b.2) 5 0 (ζ 5 0 + 1) 14 s = if s = ζ 5 0 then h else ζ 14 s := fun s => by simp [zU, zNm]
                  refine ⟨rfl, (cr.nm (tV (eB E) (eN E) (i + 1)) 1 (ζ 5 0)).sen (kd := tK (eB E) (eN E) j - 19) (h := h) (g := a.2) (v := b.2), ⟨z0, z1, z2, z3, z4, by show ζ 5 0 + 1 ≤ 6; omega, z6, z7, z8, by show ζ 9 0 ≤ ζ 5 0 + 1; omega, by show ζ 11 0 + 1 = ζ 4 0 + (ζ 5 0 + 1) + ζ 6 0; omega⟩, ⟨r12, fun k => ?_, fun k => ?_, fun k => ?_, fun k => ?_, rr⟩, ⟨nb.1, nb.2.1, nb.2.2, nm_num (c4 := ζ 4 0) (c5 := ζ 5 0 + 1) (c6 := ζ 6 0) n4 (Nat.le_refl _) (by omega) (Nat.le_refl _) (by omega)⟩, fun z => absurd (show ζ 0 0 = 0 from z) (by omega), fun s hs => ?_, fun s t hs ht e => ?_, zg, zh⟩
                  · have : zU (zU (zU (zU (zU (zNm ζ (tV (eB E) (eN E) (i + 1)) 1 (ζ 5 0)) 13 (ζ 5 0) (tK (eB E) (eN E) j - 19)) 14 (ζ 5 0) h) 15 (ζ 5 0) a.2) 16 (ζ 5 0) b.2) 5 0 (ζ 5 0 + 1) 13 k = if k = ζ 5 0 then tK (eB E) (eN E) j - 19 else ζ 13 k := by simp [zU, zNm]
                    exact Nat.le_trans (Nat.le_of_eq this) (row_bd r13 (by omega) k)
                  · refine Nat.lt_of_le_of_lt (Nat.le_of_eq (e14 k)) ?_
                    split
                    · exact qh.1
                    · exact r14 k
                  · have : zU (zU (zU (zU (zU (zNm ζ (tV (eB E) (eN E) (i + 1)) 1 (ζ 5 0)) 13 (ζ 5 0) (tK (eB E) (eN E) j - 19)) 14 (ζ 5 0) h) 15 (ζ 5 0) a.2) 16 (ζ 5 0) b.2) 5 0 (ζ 5 0 + 1) 15 k = if k = ζ 5 0 then a.2 else ζ 15 k := by simp [zU, zNm]
                    exact Nat.le_trans (Nat.le_of_eq this) (row_bd r15 q1.2 k)
                  · have : zU (zU (zU (zU (zU (zNm ζ (tV (eB E) (eN E) (i + 1)) 1 (ζ 5 0)) 13 (ζ 5 0) (tK (eB E) (eN E) j - 19)) 14 (ζ 5 0) h) 15 (ζ 5 0) a.2) 16 (ζ 5 0) b.2) 5 0 (ζ 5 0 + 1) 16 k = if k = ζ 5 0 then b.2 else ζ 16 k := by simp [zU, zNm]
                    exact Nat.le_trans (Nat.le_of_eq this) (row_bd r16 q2.2 k)
                  · have hs : s < ζ 5 0 + 1 := hs
                    refine Nat.lt_of_le_of_lt (Nat.le_of_eq (e14 s)) ?_
                    by_cases es : s = ζ 5 0
                    · rw [if_pos es]; exact qh4
                    · rw [if_neg es]; exact ze s (by omega)
                  · have hs : s < ζ 5 0 + 1 := hs
                    have ht : t < ζ 5 0 + 1 := ht
                    have e := (e14 s).symm.trans (Eq.trans e (e14 t))
                    by_cases es : s = ζ 5 0
                    · by_cases et : t = ζ 5 0
                      · omega
                      · rw [if_pos es, if_neg et] at e; exact absurd e.symm (hno t (by omega))
                    · by_cases et : t = ζ 5 0
                      · rw [if_neg es, if_pos et] at e; exact absurd e (hno s (by omega))
                      · rw [if_neg es, if_neg et] at e; exact zf s t (by omega) (by omega) e
      · rw [if_neg hk, if_neg hk]; rfl
theorem rel_line (cr : CR τ ζ) (hz : zOk ζ) (ht : τ 1 14 0 ≤ 31 ∧ τ 1 15 0 ≤ 31) : RLn (cLine E τ i) (line (eB E) (eN E) ζ i) := by
  unfold cLine line
  have e4 : τ 5 4 0 = 0 ↔ ζ 0 0 = 0 := by
    rw [cr.2.1.1]
    by_cases h : 0 < ζ 0 0
    · rw [if_pos h]; omega
    · rw [if_neg h]; omega
  by_cases h1 : tK (eB E) (eN E) i = 0 ∨ 9 < tK (eB E) (eN E) i
  · rw [if_pos h1, if_pos h1]; rfl
  · rw [if_neg h1, if_neg h1]
    by_cases h2 : ¬ tK (eB E) (eN E) i = 1 ∧ ζ 0 0 = 0
    · rw [if_pos ⟨h2.1, e4.mpr h2.2⟩, if_pos h2]; rfl
    · rw [if_neg (fun z => h2 ⟨z.1, e4.mp z.2⟩), if_neg h2]
      by_cases k1 : tK (eB E) (eN E) i = 1
      · rw [if_pos k1, if_pos k1]; exact rel_safe cr hz
      · have hq : 0 < ζ 0 0 := by omega
        rw [if_neg k1, if_neg k1]
        by_cases k2 : tK (eB E) (eN E) i = 2
        · rw [if_pos k2, if_pos k2]; exact rel_hook cr hz hq
        · rw [if_neg k2, if_neg k2]
          by_cases k3 : tK (eB E) (eN E) i = 3
          · rw [if_pos k3, if_pos k3]; exact rel_sen cr hz hq
          · rw [if_neg k3, if_neg k3]
            by_cases k4 : tK (eB E) (eN E) i = 4
            · rw [if_pos k4, if_pos k4]; exact rel_act cr hz hq
            · rw [if_neg k4, if_neg k4]
              by_cases k5 : tK (eB E) (eN E) i = 5
              · rw [if_pos k5, if_pos k5]; exact rel_for cr hz hq
              · rw [if_neg k5, if_neg k5]
                by_cases k6 : tK (eB E) (eN E) i = 6
                · rw [if_pos k6, if_pos k6]; exact rel_rests cr hz hq
                · rw [if_neg k6, if_neg k6]
                  by_cases k7 : tK (eB E) (eN E) i = 7
                  · rw [if_pos k7, if_pos k7]; exact rel_doubt cr hz hq
                  · rw [if_neg k7, if_neg k7]
                    by_cases k8 : tK (eB E) (eN E) i = 8
                    · rw [if_pos k8, if_pos k8]; exact rel_end1 cr hz ht hq
                    · rw [if_neg k8, if_neg k8]; exact rel_end2 cr hz ht hq
theorem CR.lok (cr : CR τ ζ) (hz : zOk ζ) : (τ 5 7 0 = τ 1 3 0 + τ 1 5 0 + τ 1 7 0) ∧ ∀ d, d < τ 5 7 0 → τ 5 9 d = 4 → τ 5 10 d < 5 := by
  obtain ⟨a1, a2, a3, a4, a5, a6, a7, a8⟩ := cr.1
  refine ⟨by rw [a1, a2, a3, a7]; exact hz.1.2.2.2.2.2.2.2.2.2.2, fun d hd h9 => ?_⟩
  obtain ⟨q1, q2, q3⟩ := cr.2.2.2.2.2.2.1 d (by omega)
  have := (hz.2.2.1.2.2.2 d (by omega)).2.2 (by omega)
  have h6 := hz.1.2.2.2.2.2.2.1
  omega
end LNT
