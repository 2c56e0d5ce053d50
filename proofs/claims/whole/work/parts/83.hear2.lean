/-! ===== line by line ===== -/
section LNS
variable {τ : sT} {ζ : zT} {E : pE} {i : Nat}
theorem pNum_b {T : Nat → Int} {n k lo hi i : Nat} {a : Nat × Nat} (h : pNum T n k lo hi i = .inr a) : lo ≤ a.2 ∧ a.2 ≤ hi := by
  unfold pNum at h
  rcases hr : pWd T n k i with e | j
  · rw [hr] at h; cases h
  · rw [hr] at h
    simp only [sb, pVal] at h
    by_cases c : tS T n j = 3
    · rw [if_pos c] at h
      by_cases d : lo ≤ tV T n j ∧ tV T n j ≤ hi
      · rw [if_pos d] at h
        have := Sum.inr.inj h
        subst this
        exact d
      · rw [if_neg d] at h; cases h
    · rw [if_neg c] at h; cases h
theorem pNew_b {ζ : zT} {i j : Nat} (h : pNew (eB E) (eN E) ζ i = .inr j) : j = i + 1 ∧ tV (eB E) (eN E) i < 1099511627776 ∧ ¬ fnd ζ (tV (eB E) (eN E) i) < ζ 11 0 := by
  unfold pNew at h
  by_cases c : nmB (eB E) (eN E) i = false
  · rw [if_pos c] at h; cases h
  · rw [if_neg c] at h
    by_cases d : fnd ζ (tV (eB E) (eN E) i) < ζ 11 0
    · rw [if_pos d] at h; cases h
    · rw [if_neg d] at h
      have h2 := of_decide_eq_true (Bool.not_eq_false _ ▸ c : nmB (eB E) (eN E) i = true)
      exact ⟨(Sum.inr.inj h).symm, kV_lt2 h2.1, d⟩
theorem rel_safe (cr : CR τ ζ) (hz : zOk ζ) : RLn (cSafe E τ i) (lSafe (eB E) (eN E) ζ i) := by
  unfold cSafe lSafe
  have h4 := cr.2.1.1
  by_cases h0 : 0 < ζ 0 0
  · rw [if_pos h0] at h4 ⊢
    rw [if_pos h4]; rfl
  · rw [if_neg h0] at h4 ⊢
    rw [if_neg (by omega)]
    rcases hr1 : pNum (eB E) (eN E) 10 1 6 (i + 1) with e | a
    · rfl
    · simp only [sb]
      rcases hr2 : pNum (eB E) (eN E) 11 1 9 a.1 with e | b
      · rfl
      · simp only [sb]
        rcases hr3 : pNum (eB E) (eN E) 12 0 100 b.1 with e | c
        · rfl
        · simp only [sb]
          rcases hr4 : pNum (eB E) (eN E) 13 0 9 c.1 with e | d
          · rfl
          · have q1 := pNum_b hr1
            have q2 := pNum_b hr2
            have q3 := pNum_b hr3
            have q4 := pNum_b hr4
            obtain ⟨⟨z0, z1, z2, z3, z4, z5, z6, z7, z8, z9, z11⟩, zb, zc, zd, ze⟩ := hz
            exact ⟨rfl, cr.safe (by omega) (by omega), ⟨q1.2, q2.2, q3.2, q4.2, z4, z5, z6, z7, z8, z9, z11⟩, zb, zc, fun z => absurd (show a.2 = 0 from z) (by omega), ze⟩
/-- a name more -/
theorem nm_bd {w s k : Nat} (hc : (∀ k, ζ 21 k < 1099511627776) ∧ (∀ k, ζ 22 k ≤ 2) ∧ (∀ k, ζ 23 k < 6)) (hw : w < 1099511627776) (hs : s ≤ 2) (hk : k < 6) : (∀ j, zNm ζ w s k 21 j < 1099511627776) ∧ (∀ j, zNm ζ w s k 22 j ≤ 2) ∧ (∀ j, zNm ζ w s k 23 j < 6) := by
  obtain ⟨h1, h2, h3⟩ := hc
  refine ⟨fun j => ?_, fun j => ?_, fun j => ?_⟩
  · have : zNm ζ w s k 21 j = if j = ζ 11 0 then w else ζ 21 j := by simp [zNm, zU]
    rw [this]; split; exact hw; exact h1 j
  · have : zNm ζ w s k 22 j = if j = ζ 11 0 then s else ζ 22 j := by simp [zNm, zU]
    rw [this]; split; exact hs; exact h2 j
  · have : zNm ζ w s k 23 j = if j = ζ 11 0 then k else ζ 23 j := by simp [zNm, zU]
    rw [this]; split; exact hk; exact h3 j
theorem nm_num {w s k c4 c5 c6 : Nat} (hc : ∀ k, k < ζ 11 0 → (ζ 22 k = 0 → ζ 23 k < ζ 4 0) ∧ (ζ 22 k = 1 → ζ 23 k < ζ 5 0) ∧ (ζ 22 k = 2 → ζ 23 k < ζ 6 0)) (h4 : ζ 4 0 ≤ c4) (h5 : ζ 5 0 ≤ c5) (h6 : ζ 6 0 ≤ c6) (hk : (s = 0 → k < c4) ∧ (s = 1 → k < c5) ∧ (s = 2 → k < c6)) : ∀ j, j < ζ 11 0 + 1 → (zNm ζ w s k 22 j = 0 → zNm ζ w s k 23 j < c4) ∧ (zNm ζ w s k 22 j = 1 → zNm ζ w s k 23 j < c5) ∧ (zNm ζ w s k 22 j = 2 → zNm ζ w s k 23 j < c6) := by
  intro j hj
  have e1 : zNm ζ w s k 22 j = if j = ζ 11 0 then s else ζ 22 j := by simp [zNm, zU]
  have e2 : zNm ζ w s k 23 j = if j = ζ 11 0 then k else ζ 23 j := by simp [zNm, zU]
  rw [e1, e2]
  by_cases e : j = ζ 11 0
  · rw [if_pos e, if_pos e]; exact hk
  · rw [if_neg e, if_neg e]
    obtain ⟨q1, q2, q3⟩ := hc j (by omega)
    exact ⟨fun z => Nat.lt_of_lt_of_le (q1 z) h4, fun z => Nat.lt_of_lt_of_le (q2 z) h5, fun z => Nat.lt_of_lt_of_le (q3 z) h6⟩
theorem row_bd {f : Nat → Nat} {c v B : Nat} (h : ∀ k, f k ≤ B) (hv : v ≤ B) : ∀ k, (if k = c then v else f k) ≤ B := fun k => by split; exact hv; exact h k
theorem rel_hook (cr : CR τ ζ) (hz : zOk ζ) (hq : 0 < ζ 0 0) : RLn (cHook E τ i) (lHook (eB E) (eN E) ζ i) := by
  unfold cHook lHook
  have e4 := cr.1.1
  rw [e4]
  by_cases h0 : ζ 4 0 = 6
  · rw [if_pos h0, if_pos h0]; rfl
  · rw [if_neg h0, if_neg h0, cr.new]
    rcases hr : pNew (eB E) (eN E) ζ (i + 1) with e | j
    · rfl
    · simp only [sb]
      rcases hr1 : pNum (eB E) (eN E) 14 0 9 j with e | a
      · rfl
      · have q1 := pNum_b hr1
        obtain ⟨-, qw, -⟩ := pNew_b hr
        obtain ⟨⟨z0, z1, z2, z3, z4, z5, z6, z7, z8, z9, z11⟩, ⟨r12, rr⟩, ⟨n1, n2, n3, n4⟩, zd, ze, zf⟩ := hz
        have nb := nm_bd (ζ := ζ) (s := 0) (k := ζ 4 0) ⟨n1, n2, n3⟩ qw (by decide) (by omega)
        refine ⟨rfl, ((cr.nm (tV (eB E) (eN E) (i + 1)) 0 (ζ 4 0)).heard a.2).hook a.2, ⟨z0, z1, z2, z3, by show ζ 4 0 + 1 ≤ 6; omega, z5, z6, z7, z8, z9, by show ζ 11 0 + 1 = ζ 4 0 + 1 + ζ 5 0 + ζ 6 0; omega⟩, ⟨?_, rr⟩, ⟨nb.1, nb.2.1, nb.2.2, nm_num (c4 := ζ 4 0 + 1) (c5 := ζ 5 0) (c6 := ζ 6 0) n4 (by omega) (Nat.le_refl _) (Nat.le_refl _) (by omega)⟩, fun z => absurd (show ζ 0 0 = 0 from z) (by omega), fun s hs => Nat.lt_succ_of_lt (ze s hs), zf⟩
        intro k
        have : zU (zU (zNm ζ (tV (eB E) (eN E) (i + 1)) 0 (ζ 4 0)) 12 (ζ 4 0) a.2) 4 0 (ζ 4 0 + 1) 12 k = if k = ζ 4 0 then a.2 else ζ 12 k := by simp [zU, zNm]
        exact Nat.le_trans (Nat.le_of_eq this) (row_bd r12 q1.2 k)
theorem rel_act (cr : CR τ ζ) (hz : zOk ζ) (hq : 0 < ζ 0 0) : RLn (cAct E τ i) (lAct (eB E) (eN E) ζ i) := by
  unfold cAct lAct
  have e4 := cr.1.2.2.1
  rw [e4]
  by_cases h0 : ζ 6 0 = 5
  · rw [if_pos h0, if_pos h0]; rfl
  · rw [if_neg h0, if_neg h0, cr.new]
    rcases hr : pNew (eB E) (eN E) ζ (i + 1) with e | j
    · rfl
    · simp only [sb]
      rcases hr1 : pNum (eB E) (eN E) 18 0 40 j with e | a
      · rfl
      · have q1 := pNum_b hr1
        obtain ⟨-, qw, -⟩ := pNew_b hr
        obtain ⟨⟨z0, z1, z2, z3, z4, z5, z6, z7, z8, z9, z11⟩, ⟨r12, r13, r14, r15, r16, r17, rr⟩, ⟨n1, n2, n3, n4⟩, zd, ze, zf, zg, zh⟩ := hz
        have nb := nm_bd (ζ := ζ) (s := 2) (k := ζ 6 0) ⟨n1, n2, n3⟩ qw (by decide) (by omega)
        refine ⟨rfl, ((cr.nm (tV (eB E) (eN E) (i + 1)) 2 (ζ 6 0)).heard a.2).act a.2, ⟨z0, z1, z2, z3, z4, z5, by show ζ 6 0 + 1 ≤ 5; omega, z7, z8, z9, by show ζ 11 0 + 1 = ζ 4 0 + ζ 5 0 + (ζ 6 0 + 1); omega⟩, ⟨r12, r13, r14, r15, r16, ?_, rr⟩, ⟨nb.1, nb.2.1, nb.2.2, nm_num (c4 := ζ 4 0) (c5 := ζ 5 0) (c6 := ζ 6 0 + 1) n4 (Nat.le_refl _) (Nat.le_refl _) (by omega) (by omega)⟩, fun z => absurd (show ζ 0 0 = 0 from z) (by omega), ze, zf, fun a k hk => Nat.lt_succ_of_lt (zg a k hk), zh⟩
        intro k
        have : zU (zU (zNm ζ (tV (eB E) (eN E) (i + 1)) 2 (ζ 6 0)) 17 (ζ 6 0) a.2) 6 0 (ζ 6 0 + 1) 17 k = if k = ζ 6 0 then a.2 else ζ 17 k := by simp [zU, zNm]
        exact Nat.le_trans (Nat.le_of_eq this) (row_bd r17 q1.2 k)
theorem rel_for (cr : CR τ ζ) (hz : zOk ζ) (hq : 0 < ζ 0 0) : RLn (cFor E τ i) (lFor (eB E) (eN E) ζ i) := by
  unfold cFor lFor
  have e4 := cr.1.2.2.2.1
  rw [e4]
  by_cases h0 : ζ 7 0 = 15
  · rw [if_pos h0, if_pos h0]; rfl
  · rw [if_neg h0, if_neg h0, cr.told 1, cr.told 2, show i + 1 + 1 = i + 2 from rfl]
    rcases hr : pTold (eB E) (eN E) ζ 1 (i + 1) with e | s
    · rfl
    · simp only [sb]
      rcases hr1 : pTold (eB E) (eN E) ζ 2 (i + 2) with e | a
      · rfl
      · simp only [sb]
        have qs := pTold_lt hz hr
        have qa := pTold_lt hz hr1
        have ha : a < 5 := by have := hz.1.2.2.2.2.2.2.1; have := qa.2.2.2 rfl; omega
        have e9 := (cr.2.2.2.2.2.1 a ha).1
        rw [e9]
        by_cases hb : bitN (ζ 18 a) s = true
        · rw [if_pos hb, if_pos hb]; rfl
        · rw [if_neg hb, if_neg hb]
          have crf := cr.for_ (s := s) ha
          rw [e9, e4] at crf
          obtain ⟨⟨z0, z1, z2, z3, z4, z5, z6, z7, z8, z9, z11⟩, ⟨r12, r13, r14, r15, r16, r17, r18, rr⟩, zc, zd, ze⟩ := hz
          refine ⟨rfl, crf, ⟨z0, z1, z2, z3, z4, z5, z6, by show ζ 7 0 + 1 ≤ 15; omega, z8, z9, z11⟩, ⟨r12, r13, r14, r15, r16, r17, ?_, rr⟩, zc, fun z => absurd (show ζ 0 0 = 0 from z) (by omega), ze⟩
          intro k
          have : zU (zU ζ 18 a (ζ 18 a ||| 2 ^ s)) 7 0 (ζ 7 0 + 1) 18 k = if k = a then ζ 18 a ||| 2 ^ s else ζ 18 k := by simp [zU]
          have hor := or_lt (n := 6) (r18 a) qs.1
          refine Nat.lt_of_le_of_lt (Nat.le_of_eq this) ?_
          split
          · exact hor
          · exact r18 k
theorem rel_rests (cr : CR τ ζ) (hz : zOk ζ) (hq : 0 < ζ 0 0) : RLn (cRests E τ i) (lRests (eB E) (eN E) ζ i) := by
  unfold cRests lRests
  have e4 := cr.1.2.2.2.2.1
  rw [e4]
  by_cases h0 : ζ 8 0 = 6
  · rw [if_pos h0, if_pos h0]; rfl
  · rw [if_neg h0, if_neg h0, cr.told 2, cr.told 2, show i + 1 + 1 = i + 2 from rfl]
    rcases hr : pTold (eB E) (eN E) ζ 2 (i + 1) with e | a
    · rfl
    · simp only [sb]
      rcases hr1 : pTold (eB E) (eN E) ζ 2 (i + 2) with e | b
      · rfl
      · simp only [sb]
        have qa := pTold_lt hz hr
        have qb := pTold_lt hz hr1
        have h6 := hz.1.2.2.2.2.2.2.1
        have ha : a < 5 := by have := qa.2.2.2 rfl; omega
        have hb6 := qb.2.2.2 rfl
        have e9 := (cr.2.2.2.2.2.1 a ha).2
        rw [e9]
        by_cases hb : a = b ∨ bitN (ζ 19 a) b = true
        · rw [if_pos hb, if_pos hb]; rfl
        · rw [if_neg hb, if_neg hb]
          have crf := cr.rests (s := b) ha
          rw [e9, e4] at crf
          obtain ⟨⟨z0, z1, z2, z3, z4, z5, z6, z7, z8, z9, z11⟩, ⟨r12, r13, r14, r15, r16, r17, r18, r19, rr⟩, zc, zd, ze, zf, zg, zh⟩ := hz
          have e19 : ∀ k, zU (zU ζ 19 a (ζ 19 a ||| 2 ^ b)) 8 0 (ζ 8 0 + 1) 19 k = if k = a then ζ 19 a ||| 2 ^ b else ζ 19 k := fun k => by simp [zU]
          refine ⟨rfl, crf, ⟨z0, z1, z2, z3, z4, z5, z6, z7, by show ζ 8 0 + 1 ≤ 6; omega, z9, z11⟩, ⟨r12, r13, r14, r15, r16, r17, r18, ?_, rr⟩, zc, fun z => absurd (show ζ 0 0 = 0 from z) (by omega), ze, zf, ?_, zh⟩
          · intro k
            refine Nat.lt_of_le_of_lt (Nat.le_of_eq (e19 k)) ?_
            have hor := or_lt (n := 5) (r19 a) (show b < 5 by omega)
            split
            · exact hor
            · exact r19 k
          · intro c k hk
            have hk : bitN (zU (zU ζ 19 a (ζ 19 a ||| 2 ^ b)) 8 0 (ζ 8 0 + 1) 19 c) k = true := hk
            rw [e19] at hk
            by_cases ec : c = a
            · rw [if_pos ec, bN_or, bN_pow, Bool.or_eq_true, decide_eq_true_eq] at hk
              rcases hk with hk | hk
              · exact zg a k hk
              · rw [← hk]; exact hb6
            · rw [if_neg ec] at hk; exact zg c k hk
theorem rel_doubt (cr : CR τ ζ) (hz : zOk ζ) (hq : 0 < ζ 0 0) : RLn (cDoubt E τ i) (lDoubt (eB E) (eN E) ζ i) := by
  unfold cDoubt lDoubt
  have e4 := cr.1.2.2.2.2.2.1
  rw [e4]
  by_cases h0 : 0 < ζ 9 0
  · rw [if_pos h0, if_pos h0]; rfl
  · rw [if_neg h0, if_neg h0, cr.told 1]
    rcases hr : pTold (eB E) (eN E) ζ 1 (i + 1) with e | s
    · rfl
    · simp only [sb]
      have qs := (pTold_lt hz hr).2.2.1 rfl
      obtain ⟨⟨z0, z1, z2, z3, z4, z5, z6, z7, z8, z9, z11⟩, zb, zc, zd, ze⟩ := hz
      exact ⟨rfl, cr.doubt s, ⟨z0, z1, z2, z3, z4, z5, z6, z7, z8, by show s + 1 ≤ ζ 5 0; omega, z11⟩, zb, zc, fun z => absurd (show ζ 0 0 = 0 from z) (by omega), ze⟩
theorem end_z (hz : zOk ζ) (hq : 0 < ζ 0 0) {a e : Nat} (he : e ≤ 2) (h10 : ζ 10 0 + 1 ≤ 5) : zOk (zU (zU ζ 20 a e) 10 0 (ζ 10 0 + 1)) := by
  obtain ⟨za, ⟨r12, r13, r14, r15, r16, r17, r18, r19, r20⟩, zc, zd, ze, zf, zg, zh⟩ := hz
  refine ⟨za, ⟨r12, r13, r14, r15, r16, r17, r18, r19, fun k => ?_⟩, zc, fun z => absurd (show ζ 0 0 = 0 from z) (by omega), ze, zf, zg, h10⟩
  have : zU (zU ζ 20 a e) 10 0 (ζ 10 0 + 1) 20 k = if k = a then e else ζ 20 k := by simp [zU]
  rw [this]; exact row_bd r20 he k
theorem end_b (cr : CR τ ζ) (a : Nat) : bitN (τ 1 14 0 ||| τ 1 15 0) a = true ↔ 0 < ζ 20 a := by
  rw [bN_or, Bool.or_eq_true, cr.2.2.2.2.2.2.2.2.1 a]
  by_cases h1 : bitN (τ 1 14 0) a = true
  · rw [if_pos h1]; exact ⟨fun _ => by decide, fun _ => Or.inl h1⟩
  · rw [if_neg h1]
    by_cases h2 : bitN (τ 1 15 0) a = true
    · rw [if_pos h2]; exact ⟨fun _ => by decide, fun _ => Or.inr h2⟩
    · rw [if_neg h2]; exact ⟨fun z => z.elim (fun z => absurd z h1) (fun z => absurd z h2), fun z => absurd z (by decide)⟩
theorem rel_end1 (cr : CR τ ζ) (hz : zOk ζ) (ht : τ 1 14 0 ≤ 31 ∧ τ 1 15 0 ≤ 31) (hq : 0 < ζ 0 0) : RLn (cEnd1 E τ i) (lEnd (eB E) (eN E) 1 ζ i) := by
  unfold cEnd1 lEnd
  rw [cr.told 2]
  rcases hr : pTold (eB E) (eN E) ζ 2 (i + 1) with e | a
  · rfl
  · simp only [sb]
    have ha := (pTold_lt hz hr).2.2.2 rfl
    have h6 := hz.1.2.2.2.2.2.2.1
    by_cases hb : bitN (τ 1 14 0 ||| τ 1 15 0) a = true
    · rw [if_pos hb, if_pos ((end_b cr a).mp hb)]; rfl
    · rw [if_neg hb, if_neg (fun z => hb ((end_b cr a).mpr z))]
      have c2 := cr.end1 ht ha h6 hb
      have t14 : τ 1 14 0 ≤ 31 := ht.1
      have t15 : τ 1 15 0 ≤ 31 := ht.2
      have h5 : ζ 10 0 + 1 = popN ((τ 1 14 0 ||| 2 ^ a) ||| τ 1 15 0) := c2.2.2.2.2.2.2.2.2.2.2.2
      have hp := popN5 (m := (τ 1 14 0 ||| 2 ^ a) ||| τ 1 15 0) (Nat.or_lt_two_pow (n := 5) (or_lt (n := 5) (by omega) (by omega)) (by omega))
      exact ⟨rfl, c2, end_z hz hq (by decide) (by omega)⟩
theorem rel_end2 (cr : CR τ ζ) (hz : zOk ζ) (ht : τ 1 14 0 ≤ 31 ∧ τ 1 15 0 ≤ 31) (hq : 0 < ζ 0 0) : RLn (cEnd2 E τ i) (lEnd (eB E) (eN E) 2 ζ i) := by
  unfold cEnd2 lEnd
  rw [cr.told 2]
  rcases hr : pTold (eB E) (eN E) ζ 2 (i + 1) with e | a
  · rfl
  · simp only [sb]
    have ha := (pTold_lt hz hr).2.2.2 rfl
    have h6 := hz.1.2.2.2.2.2.2.1
    by_cases hb : bitN (τ 1 14 0 ||| τ 1 15 0) a = true
    · rw [if_pos hb, if_pos ((end_b cr a).mp hb)]; rfl
    · rw [if_neg hb, if_neg (fun z => hb ((end_b cr a).mpr z))]
      have c2 := cr.end2 ht ha h6 hb
      have t14 : τ 1 14 0 ≤ 31 := ht.1
      have t15 : τ 1 15 0 ≤ 31 := ht.2
      have h5 : ζ 10 0 + 1 = popN (τ 1 14 0 ||| (τ 1 15 0 ||| 2 ^ a)) := c2.2.2.2.2.2.2.2.2.2.2.2
      have hp := popN5 (m := τ 1 14 0 ||| (τ 1 15 0 ||| 2 ^ a)) (Nat.or_lt_two_pow (n := 5) (by omega) (or_lt (n := 5) (by omega) (by omega)))
      exact ⟨rfl, c2, end_z hz hq (by decide) (by omega)⟩
end LNS
