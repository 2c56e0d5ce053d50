/-! ===== the class's hearing and the pure one ===== -/
def CR (τ : sT) (ζ : zT) : Prop := (τ 1 3 0 = ζ 4 0 ∧ τ 1 5 0 = ζ 5 0 ∧ τ 1 7 0 = ζ 6 0 ∧ τ 1 11 0 = ζ 7 0 ∧ τ 1 12 0 = ζ 8 0 ∧ τ 1 13 0 = ζ 9 0 ∧ τ 5 7 0 = ζ 11 0 ∧ τ 5 1 0 = 0) ∧ (τ 5 4 0 = (if 0 < ζ 0 0 then 1 else 0) ∧ (0 < ζ 0 0 → τ 1 0 0 = ζ 0 0 ∧ τ 1 1 0 = ζ 1 0 ∧ τ 1 2 0 = ζ 2 0 ∧ τ 2 1 0 = ζ 3 0)) ∧ (∀ k, k < ζ 4 0 → τ 1 4 k = ζ 12 k) ∧ (∀ s, s < ζ 5 0 → τ 2 3 s = ζ 13 s ∧ τ 2 4 s = ζ 14 s ∧ τ 2 5 s = ζ 15 s ∧ τ 1 6 s = ζ 16 s) ∧ (∀ a, a < ζ 6 0 → τ 1 8 a = ζ 17 a) ∧ (∀ a, a < 5 → τ 1 9 a = ζ 18 a ∧ τ 1 10 a = ζ 19 a) ∧ (∀ k, k < ζ 11 0 → τ 5 8 k = ζ 21 k ∧ τ 5 9 k = ζ 22 k + 2 ∧ τ 5 10 k = ζ 23 k) ∧ (∀ k, bitN (τ 5 6 0) k = true ↔ ∃ s, s < ζ 5 0 ∧ ζ 14 s = k) ∧ (∀ a, ζ 20 a = if bitN (τ 1 14 0) a = true then 1 else if bitN (τ 1 15 0) a = true then 2 else 0) ∧ (∀ k, bitN (τ 1 14 0) k = true → k < ζ 6 0 ∧ bitN (τ 1 15 0) k = false) ∧ (∀ k, bitN (τ 1 15 0) k = true → k < ζ 6 0) ∧ ζ 10 0 = popN (τ 1 14 0 ||| τ 1 15 0)
def RLn : pR (Nat × sT) → pR (Nat × zT) → Prop
  | .inl e, .inl d => e = d
  | .inr q, .inr r => q.1 = r.1 ∧ CR q.2 r.2 ∧ zOk r.2
  | _, _ => False
section CRX
variable {τ : sT} {ζ : zT} {E : pE} {i : Nat}
theorem CR.fdq (cr : CR τ ζ) (w : Nat) : fndT τ w = fnd ζ w := by
  unfold fndT fnd
  rw [cr.1.2.2.2.2.2.2.1]
  exact fstN_congr _ _ (fun k _ hk => by rw [(cr.2.2.2.2.2.2.1 k (by omega)).1])
theorem CR.told (cr : CR τ ζ) (s i : Nat) : cTold E τ (s + 2) i = pTold (eB E) (eN E) ζ s i := by
  unfold cTold pTold
  rw [cr.fdq, cr.1.2.2.2.2.2.2.1]
  by_cases h1 : nmB (eB E) (eN E) i = false
  · rw [if_pos h1, if_pos h1]
  · rw [if_neg h1, if_neg h1]
    by_cases h2 : fnd ζ (tV (eB E) (eN E) i) < ζ 11 0
    · obtain ⟨q1, q2, q3⟩ := cr.2.2.2.2.2.2.1 _ h2
      rw [q2, q3]
      by_cases h3 : ζ 22 (fnd ζ (tV (eB E) (eN E) i)) = s
      · rw [if_pos ⟨h2, by omega⟩, if_pos ⟨h2, h3⟩]
      · rw [if_neg (fun z => h3 (by have := z.2; omega)), if_neg (fun z => h3 z.2)]
    · rw [if_neg (fun z => h2 z.1), if_neg (fun z => h2 z.1)]
theorem pTold_lt (hz : zOk ζ) {s k : Nat} (h : pTold (eB E) (eN E) ζ s i = .inr k) : k < 6 ∧ (s = 0 → k < ζ 4 0) ∧ (s = 1 → k < ζ 5 0) ∧ (s = 2 → k < ζ 6 0) := by
  unfold pTold at h
  by_cases h1 : nmB (eB E) (eN E) i = false
  · rw [if_pos h1] at h; cases h
  · rw [if_neg h1] at h
    by_cases h2 : fnd ζ (tV (eB E) (eN E) i) < ζ 11 0 ∧ ζ 22 (fnd ζ (tV (eB E) (eN E) i)) = s
    · rw [if_pos h2] at h
      have e := Sum.inr.inj h
      obtain ⟨q1, q2, q3⟩ := hz.2.2.1.2.2.2 _ h2.1
      rw [← e]
      exact ⟨hz.2.2.1.2.2.1 _, fun z => q1 (by omega), fun z => q2 (by omega), fun z => q3 (by omega)⟩
    · rw [if_neg h2] at h; cases h
def tNm (τ : sT) (w s k : Nat) : sT := tU (tU (tU (tU τ 5 8 (τ 5 7 0) w) 5 9 (τ 5 7 0) s) 5 10 (τ 5 7 0) k) 5 7 0 (τ 5 7 0 + 1)
theorem CR.new (cr : CR τ ζ) (s k i : Nat) : cNew E τ s k i = sb (pNew (eB E) (eN E) ζ i) (fun j => .inr (j, tNm τ (tV (eB E) (eN E) i) s k)) := by
  unfold cNew pNew
  rw [cr.fdq, cr.1.2.2.2.2.2.2.1]
  by_cases h1 : nmB (eB E) (eN E) i = false
  · rw [if_pos h1, if_pos h1]; rfl
  · rw [if_neg h1, if_neg h1]
    by_cases h2 : fnd ζ (tV (eB E) (eN E) i) < ζ 11 0
    · rw [if_pos h2, if_pos h2]; rfl
    · rw [if_neg h2, if_neg h2]
      simp only [sb, tNm, cr.1.2.2.2.2.2.2.1]
theorem CR.heard (cr : CR τ ζ) (v : Nat) : CR (tU τ 5 5 0 v) ζ := cr
theorem zNm_r (ζ : zT) (w s k : Nat) {a : Nat} (h : a ≠ 11 ∧ a ≠ 21 ∧ a ≠ 22 ∧ a ≠ 23) : zNm ζ w s k a = ζ a := by
  unfold zNm
  rw [zU_row _ h.1, zU_row _ h.2.2.2, zU_row _ h.2.2.1, zU_row _ h.2.1]
theorem CR.nm (cr : CR τ ζ) (w s k : Nat) : CR (tNm τ w (s + 2) k) (zNm ζ w s k) := by
  obtain ⟨⟨a1, a2, a3, a4, a5, a6, a7, a8⟩, b, c, d, e, f, g, hh⟩ := cr
  refine ⟨⟨a1, a2, a3, a4, a5, a6, ?_, a8⟩, b, c, d, e, f, fun j hj => ?_, hh⟩
  · show τ 5 7 0 + 1 = ζ 11 0 + 1
    rw [a7]
  · have hj : j < ζ 11 0 + 1 := hj
    have z21 : zNm ζ w s k 21 j = if j = ζ 11 0 then w else ζ 21 j := by simp [zNm, zU]
    have z22 : zNm ζ w s k 22 j = if j = ζ 11 0 then s else ζ 22 j := by simp [zNm, zU]
    have z23 : zNm ζ w s k 23 j = if j = ζ 11 0 then k else ζ 23 j := by simp [zNm, zU]
    have t8 : tNm τ w (s + 2) k 5 8 j = if j = ζ 11 0 then w else τ 5 8 j := by simp [tNm, tU, a7]
    have t9 : tNm τ w (s + 2) k 5 9 j = if j = ζ 11 0 then s + 2 else τ 5 9 j := by simp [tNm, tU, a7]
    have t10 : tNm τ w (s + 2) k 5 10 j = if j = ζ 11 0 then k else τ 5 10 j := by simp [tNm, tU, a7]
    rw [z21, z22, z23, t8, t9, t10]
    by_cases e : j = ζ 11 0
    · rw [if_pos e, if_pos e, if_pos e, if_pos e, if_pos e, if_pos e]; exact ⟨rfl, rfl, rfl⟩
    · rw [if_neg e, if_neg e, if_neg e, if_neg e, if_neg e, if_neg e]; exact g j (by omega)
/-- a hook told -/
theorem CR.hook (cr : CR τ ζ) (v : Nat) : CR (tU (tU τ 1 4 (ζ 4 0) v) 1 3 0 (ζ 4 0 + 1)) (zU (zU ζ 12 (ζ 4 0) v) 4 0 (ζ 4 0 + 1)) := by
  obtain ⟨⟨a1, a2, a3, a4, a5, a6, a7⟩, b, c, d, e, f, g, hh⟩ := cr
  refine ⟨⟨rfl, a2, a3, a4, a5, a6, a7⟩, b, fun k hk => ?_, d, e, f, g, hh⟩
  have hk : k < ζ 4 0 + 1 := hk
  show (if 1 = 1 ∧ 4 = 3 ∧ k = 0 then _ else if 1 = 1 ∧ 4 = 4 ∧ k = ζ 4 0 then v else τ 1 4 k) = if 12 = 4 ∧ k = 0 then _ else if 12 = 12 ∧ k = ζ 4 0 then v else ζ 12 k
  by_cases e : k = ζ 4 0
  · simp [e]
  · simp [e]; exact c k (by omega)
theorem CR.act (cr : CR τ ζ) (v : Nat) : CR (tU (tU τ 1 8 (ζ 6 0) v) 1 7 0 (ζ 6 0 + 1)) (zU (zU ζ 17 (ζ 6 0) v) 6 0 (ζ 6 0 + 1)) := by
  obtain ⟨⟨a1, a2, a3, a4, a5, a6, a7⟩, b, c, d, e, f, g, h1, h2, h3, h4, h5⟩ := cr
  refine ⟨⟨a1, a2, rfl, a4, a5, a6, a7⟩, b, c, d, fun k hk => ?_, f, g, h1, h2, fun k hk => ⟨Nat.lt_succ_of_lt (h3 k hk).1, (h3 k hk).2⟩, fun k hk => Nat.lt_succ_of_lt (h4 k hk), h5⟩
  have hk : k < ζ 6 0 + 1 := hk
  show (if 1 = 1 ∧ 8 = 7 ∧ k = 0 then _ else if 1 = 1 ∧ 8 = 8 ∧ k = ζ 6 0 then v else τ 1 8 k) = if 17 = 6 ∧ k = 0 then _ else if 17 = 17 ∧ k = ζ 6 0 then v else ζ 17 k
  by_cases e2 : k = ζ 6 0
  · simp [e2]
  · simp [e2]; exact e k (by omega)
/-- the safe told -/
theorem CR.safe (cr : CR τ ζ) (h0 : ζ 0 0 = 0) {a b c d : Nat} (ha : 0 < a) : CR (tU (tU (tU (tU (tU (tU (tU (tU (tU τ 5 4 0 1) 5 5 0 a) 1 0 0 a) 5 5 0 b) 1 1 0 b) 5 5 0 c) 1 2 0 c) 5 5 0 d) 2 1 0 d) (zU (zU (zU (zU ζ 0 0 a) 1 0 b) 2 0 c) 3 0 d) := by
  obtain ⟨⟨a1, a2, a3, a4, a5, a6, a7⟩, b1, c1, d1, e, f, g, hh⟩ := cr
  refine ⟨⟨a1, a2, a3, a4, a5, a6, a7⟩, ⟨?_, fun _ => ⟨rfl, rfl, rfl, rfl⟩⟩, c1, d1, e, f, g, hh⟩
  show 1 = if 0 < a then 1 else 0
  rw [if_pos ha]
theorem CR.for_ (cr : CR τ ζ) {a s : Nat} (ha : a < 5) : CR (tU (tU τ 1 9 a (τ 1 9 a ||| 2 ^ s)) 1 11 0 (τ 1 11 0 + 1)) (zU (zU ζ 18 a (ζ 18 a ||| 2 ^ s)) 7 0 (ζ 7 0 + 1)) := by
  obtain ⟨⟨a1, a2, a3, a4, a5, a6, a7⟩, b, c, d, e, f, g, hh⟩ := cr
  refine ⟨⟨a1, a2, a3, ?_, a5, a6, a7⟩, b, c, d, e, fun k hk => ⟨?_, (f k hk).2⟩, g, hh⟩
  · show τ 1 11 0 + 1 = ζ 7 0 + 1
    rw [a4]
  · show (if 1 = 1 ∧ 9 = 11 ∧ k = 0 then _ else if 1 = 1 ∧ 9 = 9 ∧ k = a then τ 1 9 a ||| 2 ^ s else τ 1 9 k) = if 18 = 7 ∧ k = 0 then _ else if 18 = 18 ∧ k = a then ζ 18 a ||| 2 ^ s else ζ 18 k
    by_cases e2 : k = a
    · simp [e2, (f a ha).1]
    · simp [e2]; exact (f k hk).1
theorem CR.rests (cr : CR τ ζ) {a s : Nat} (ha : a < 5) : CR (tU (tU τ 1 10 a (τ 1 10 a ||| 2 ^ s)) 1 12 0 (τ 1 12 0 + 1)) (zU (zU ζ 19 a (ζ 19 a ||| 2 ^ s)) 8 0 (ζ 8 0 + 1)) := by
  obtain ⟨⟨a1, a2, a3, a4, a5, a6, a7⟩, b, c, d, e, f, g, hh⟩ := cr
  refine ⟨⟨a1, a2, a3, a4, ?_, a6, a7⟩, b, c, d, e, fun k hk => ⟨(f k hk).1, ?_⟩, g, hh⟩
  · show τ 1 12 0 + 1 = ζ 8 0 + 1
    rw [a5]
  · show (if 1 = 1 ∧ 10 = 12 ∧ k = 0 then _ else if 1 = 1 ∧ 10 = 10 ∧ k = a then τ 1 10 a ||| 2 ^ s else τ 1 10 k) = if 19 = 8 ∧ k = 0 then _ else if 19 = 19 ∧ k = a then ζ 19 a ||| 2 ^ s else ζ 19 k
    by_cases e2 : k = a
    · simp [e2, (f a ha).2]
    · simp [e2]; exact (f k hk).2
theorem CR.doubt (cr : CR τ ζ) (s : Nat) : CR (tU τ 1 13 0 (s + 1)) (zU ζ 9 0 (s + 1)) := by
  obtain ⟨⟨a1, a2, a3, a4, a5, a6, a7⟩, rest⟩ := cr
  exact ⟨⟨a1, a2, a3, a4, a5, rfl, a7⟩, rest⟩
theorem popN_add {m k : Nat} (hm : m < 32) (hk : k < 5) (h : bitN m k = false) : popN (m ||| 2 ^ k) = popN m + 1 := by
  have : ∀ m : Fin 32, ∀ k : Fin 5, bitN m.val k.val = false → popN (m.val ||| 2 ^ k.val) = popN m.val + 1 := by decide +kernel
  exact this ⟨m, hm⟩ ⟨k, hk⟩ h
theorem popN5 {m : Nat} (hm : m < 32) : popN m ≤ 5 := by
  have : ∀ m : Fin 32, popN m.val ≤ 5 := by decide +kernel
  exact this ⟨m, hm⟩
theorem CR.end1 (cr : CR τ ζ) (ht : τ 1 14 0 ≤ 31 ∧ τ 1 15 0 ≤ 31) {a : Nat} (ha : a < ζ 6 0) (h6 : ζ 6 0 ≤ 5) (hb : ¬ bitN (τ 1 14 0 ||| τ 1 15 0) a = true) : CR (tU τ 1 14 0 (τ 1 14 0 ||| 2 ^ a)) (zU (zU ζ 20 a 1) 10 0 (ζ 10 0 + 1)) := by
  obtain ⟨⟨a1, a2, a3, a4, a5, a6, a7⟩, b, c, d, e, f, g, h1, h2, h3, h4, h5⟩ := cr
  have t14 : τ 1 14 0 ≤ 31 := ht.1
  have t15 : τ 1 15 0 ≤ 31 := ht.2
  rw [bN_or, Bool.or_eq_true] at hb
  have hb1 : bitN (τ 1 14 0) a = false := by cases q : bitN (τ 1 14 0) a; (rfl); (exact absurd (Or.inl q) hb)
  have hb2 : bitN (τ 1 15 0) a = false := by cases q : bitN (τ 1 15 0) a; (rfl); (exact absurd (Or.inr q) hb)
  refine ⟨⟨a1, a2, a3, a4, a5, a6, a7⟩, b, c, d, e, f, g, h1, fun k => ?_, fun k hk => ?_, h4, ?_⟩
  · show (if 20 = 10 ∧ k = 0 then _ else if 20 = 20 ∧ k = a then 1 else ζ 20 k) = if bitN (τ 1 14 0 ||| 2 ^ a) k = true then 1 else if bitN (τ 1 15 0) k = true then 2 else 0
    rw [bN_or, bN_pow]
    by_cases e2 : k = a
    · simp [e2]
    · have e3 : ¬ a = k := fun z => e2 z.symm
      simp [e2, e3]; exact h2 k
  · have hk : bitN (τ 1 14 0 ||| 2 ^ a) k = true := hk
    rw [bN_or, bN_pow, Bool.or_eq_true, decide_eq_true_eq] at hk
    rcases hk with hk | hk
    · exact h3 k hk
    · rw [← hk]; exact ⟨ha, hb2⟩
  · show ζ 10 0 + 1 = popN ((τ 1 14 0 ||| 2 ^ a) ||| τ 1 15 0)
    rw [show (τ 1 14 0 ||| 2 ^ a) ||| τ 1 15 0 = (τ 1 14 0 ||| τ 1 15 0) ||| 2 ^ a by rw [Nat.or_assoc, Nat.or_comm (2 ^ a), Nat.or_assoc], popN_add (Nat.or_lt_two_pow (n := 5) (by omega) (by omega)) (by omega) (by rw [bN_or, hb1, hb2]; rfl), h5]
theorem CR.end2 (cr : CR τ ζ) (ht : τ 1 14 0 ≤ 31 ∧ τ 1 15 0 ≤ 31) {a : Nat} (ha : a < ζ 6 0) (h6 : ζ 6 0 ≤ 5) (hb : ¬ bitN (τ 1 14 0 ||| τ 1 15 0) a = true) : CR (tU τ 1 15 0 (τ 1 15 0 ||| 2 ^ a)) (zU (zU ζ 20 a 2) 10 0 (ζ 10 0 + 1)) := by
  obtain ⟨⟨a1, a2, a3, a4, a5, a6, a7⟩, b, c, d, e, f, g, h1, h2, h3, h4, h5⟩ := cr
  have t14 : τ 1 14 0 ≤ 31 := ht.1
  have t15 : τ 1 15 0 ≤ 31 := ht.2
  rw [bN_or, Bool.or_eq_true] at hb
  have hb1 : bitN (τ 1 14 0) a = false := by cases q : bitN (τ 1 14 0) a; (rfl); (exact absurd (Or.inl q) hb)
  have hb2 : bitN (τ 1 15 0) a = false := by cases q : bitN (τ 1 15 0) a; (rfl); (exact absurd (Or.inr q) hb)
  refine ⟨⟨a1, a2, a3, a4, a5, a6, a7⟩, b, c, d, e, f, g, h1, fun k => ?_, fun k hk => ⟨(h3 k hk).1, ?_⟩, fun k hk => ?_, ?_⟩
  · show (if 20 = 10 ∧ k = 0 then _ else if 20 = 20 ∧ k = a then 2 else ζ 20 k) = if bitN (τ 1 14 0) k = true then 1 else if bitN (τ 1 15 0 ||| 2 ^ a) k = true then 2 else 0
    rw [bN_or, bN_pow]
    by_cases e2 : k = a
    · simp [e2, hb1]
    · have e3 : ¬ a = k := fun z => e2 z.symm
      simp [e2, e3]; exact h2 k
  · show bitN (τ 1 15 0 ||| 2 ^ a) k = false
    rw [bN_or, (h3 k hk).2, bN_pow]
    have hk : bitN (τ 1 14 0) k = true := hk
    have e3 : ¬ a = k := fun z => by rw [z] at hb1; rw [hb1] at hk; cases hk
    simp [e3]
  · have hk : bitN (τ 1 15 0 ||| 2 ^ a) k = true := hk
    rw [bN_or, bN_pow, Bool.or_eq_true, decide_eq_true_eq] at hk
    rcases hk with hk | hk
    · exact h4 k hk
    · rw [← hk]; exact ha
  · show ζ 10 0 + 1 = popN (τ 1 14 0 ||| (τ 1 15 0 ||| 2 ^ a))
    rw [← Nat.or_assoc, popN_add (Nat.or_lt_two_pow (n := 5) (by omega) (by omega)) (by omega) (by rw [bN_or, hb1, hb2]; rfl), h5]
/-- a senator told -/
theorem CR.sen (cr : CR τ ζ) {kd h g v : Nat} : CR (tU (tU (tU (tU (tU (tU (tU (tU τ 2 3 (ζ 5 0) kd) 5 6 0 (τ 5 6 0 ||| 2 ^ h)) 2 4 (ζ 5 0) h) 5 5 0 g) 2 5 (ζ 5 0) g) 5 5 0 v) 1 6 (ζ 5 0) v) 1 5 0 (ζ 5 0 + 1)) (zU (zU (zU (zU (zU ζ 13 (ζ 5 0) kd) 14 (ζ 5 0) h) 15 (ζ 5 0) g) 16 (ζ 5 0) v) 5 0 (ζ 5 0 + 1)) := by
  obtain ⟨⟨a1, a2, a3, a4, a5, a6, a7⟩, b, c, d, e, f, g1, h1, h2⟩ := cr
  refine ⟨⟨a1, rfl, a3, a4, a5, a6, a7⟩, b, c, fun s hs => ?_, e, f, g1, fun k => ?_, h2⟩
  · have hs : s < ζ 5 0 + 1 := hs
    by_cases e2 : s = ζ 5 0
    · subst e2
      refine ⟨?_, ?_, ?_, ?_⟩ <;> simp [tU, zU]
    · have hd := d s (by omega)
      refine ⟨?_, ?_, ?_, ?_⟩ <;> simp [tU, zU, e2]
      · exact hd.1
      · exact hd.2.1
      · exact hd.2.2.1
      · exact hd.2.2.2
  · show bitN (τ 5 6 0 ||| 2 ^ h) k = true ↔ ∃ s, s < ζ 5 0 + 1 ∧ zU (zU (zU (zU (zU ζ 13 (ζ 5 0) kd) 14 (ζ 5 0) h) 15 (ζ 5 0) g) 16 (ζ 5 0) v) 5 0 (ζ 5 0 + 1) 14 s = k
    have ez : ∀ s, zU (zU (zU (zU (zU ζ 13 (ζ 5 0) kd) 14 (ζ 5 0) h) 15 (ζ 5 0) g) 16 (ζ 5 0) v) 5 0 (ζ 5 0 + 1) 14 s = if s = ζ 5 0 then h else ζ 14 s := fun s => by simp [zU]
    rw [bN_or, bN_pow, Bool.or_eq_true, decide_eq_true_eq, h1]
    constructor
    · rintro (⟨s, q1, q2⟩ | q)
      · exact ⟨s, by omega, by rw [ez, if_neg (by omega)]; exact q2⟩
      · exact ⟨ζ 5 0, by omega, by rw [ez, if_pos rfl]; exact q⟩
    · rintro ⟨s, q1, q2⟩
      rw [ez] at q2
      by_cases e2 : s = ζ 5 0
      · rw [if_pos e2] at q2; exact Or.inr q2
      · rw [if_neg e2] at q2; exact Or.inl ⟨s, by omega, q2⟩
end CRX
