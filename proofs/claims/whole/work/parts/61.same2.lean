/-! ===== acts that fall with others ===== -/
theorem and_ne0 {a b : Nat} : ¬ a &&& b = 0 ↔ ∃ k, bitN a k = true ∧ bitN b k = true := by
  constructor
  · intro h
    rcases Classical.em (∃ k, bitN a k = true ∧ bitN b k = true) with q | q
    · exact q
    · exact absurd (bN_ext (fun k => by
        rw [bN_and, bN_0]
        cases ha : bitN a k
        · rfl
        · cases hb : bitN b k
          · rfl
          · exact absurd ⟨k, ha, hb⟩ q)) h
  · rintro ⟨k, h1, h2⟩ e
    have := bN_and a b k
    rw [e, bN_0, h1, h2] at this
    cases this
theorem fwI_sub (F : Nat → Nat) : ∀ n S k, bitN S k = true → bitN (fwI F n S) k = true
  | 0, _, _, h => h
  | n + 1, S, k, h => by
    have h1 := fwI_sub F n S k h
    simp only [fwI]
    split
    · rw [bN_or, h1]; rfl
    · exact h1
theorem fwI_hit (F : Nat → Nat) : ∀ n S j, j < n → ¬ F j &&& S = 0 → bitN (fwI F n S) j = true
  | 0, _, _, h, _ => absurd h (by omega)
  | n + 1, S, j, h, hj => by
    simp only [fwI]
    by_cases e : j = n
    · subst e
      obtain ⟨k, k1, k2⟩ := and_ne0.mp hj
      rw [if_pos (and_ne0.mpr ⟨k, k1, fwI_sub F j S k k2⟩), bN_or, bN_pow]
      simp
    · have h1 := fwI_hit F n S j (by omega) hj
      split
      · rw [bN_or, h1]; rfl
      · exact h1
def fCl (F : Nat → Nat) (ac R : Nat) : Prop := ∀ b, b < ac → ¬ F b &&& R = 0 → bitN R b = true
theorem fwI_T {F : Nat → Nat} {ac T : Nat} (hT : fCl F ac T) : ∀ n S, n ≤ ac → (∀ k, bitN S k = true → bitN T k = true) → ∀ k, bitN (fwI F n S) k = true → bitN T k = true
  | 0, _, _, h, k, hk => h k hk
  | n + 1, S, hn, h, k, hk => by
    have h1 := fwI_T hT n S (by omega) h
    simp only [fwI] at hk
    split at hk
    · rename_i c
      rw [bN_or, Bool.or_eq_true] at hk
      rcases hk with hk | hk
      · exact h1 k hk
      · rw [bN_pow, decide_eq_true_eq] at hk
        subst hk
        obtain ⟨j, j1, j2⟩ := and_ne0.mp c
        exact hT n (by omega) (and_ne0.mpr ⟨j, j1, h1 j j2⟩)
    · exact h1 k hk
theorem fwO_T {F : Nat → Nat} {ac T : Nat} (hT : fCl F ac T) : ∀ n S, (∀ k, bitN S k = true → bitN T k = true) → ∀ k, bitN (fwO F ac n S) k = true → bitN T k = true
  | 0, _, h, k, hk => h k hk
  | n + 1, S, h, k, hk => fwI_T hT ac _ (Nat.le_refl _) (fwO_T hT n S h) k hk
theorem fwO_sub (F : Nat → Nat) (ac : Nat) : ∀ n S k, bitN S k = true → bitN (fwO F ac n S) k = true
  | 0, _, _, h => h
  | n + 1, S, k, h => fwI_sub F ac _ k (fwO_sub F ac n S k h)
theorem fwI_hi (F : Nat → Nat) : ∀ n S k, n ≤ k → bitN (fwI F n S) k = bitN S k
  | 0, _, _, _ => rfl
  | n + 1, S, k, h => by
    have h1 := fwI_hi F n S k (by omega)
    simp only [fwI]
    split
    · rw [bN_or, h1, bN_pow, decide_eq_false (by omega), Bool.or_false]
    · exact h1
theorem fwI_same {F : Nat → Nat} {ac S : Nat} (h : cCnt ac (fwI F ac S) ≤ cCnt ac S) : fwI F ac S = S := bN_ext (fun k => by
  rcases Nat.lt_or_ge k ac with hk | hk
  · have := cntN_eq ac (fun k _ q => fwI_sub F ac S k q) h k hk
    cases h1 : bitN S k
    · cases h2 : bitN (fwI F ac S) k
      · rfl
      · rw [this h2] at h1; cases h1
    · exact fwI_sub F ac S k h1
  · exact fwI_hi F ac S k hk)
theorem fwO_cl0 (F : Nat → Nat) (ac S : Nat) : ∀ n, fCl F ac (fwO F ac n S) ∨ cCnt ac S + n ≤ cCnt ac (fwO F ac n S)
  | 0 => Or.inr (Nat.le_refl _)
  | n + 1 => by
    simp only [fwO]
    rcases fwO_cl0 F ac S n with h | h
    · left
      have : fwI F ac (fwO F ac n S) = fwO F ac n S := bN_ext (fun k => by
        cases h1 : bitN (fwO F ac n S) k
        · cases h2 : bitN (fwI F ac (fwO F ac n S)) k
          · rfl
          · rw [fwI_T h ac _ (Nat.le_refl _) (fun _ q => q) k h2] at h1; cases h1
        · exact fwI_sub F ac _ k h1)
      rw [this]; exact h
    · by_cases c : cCnt ac (fwI F ac (fwO F ac n S)) ≤ cCnt ac (fwO F ac n S)
      · left
        have e := fwI_same c
        intro b hb hn
        rw [e] at hn ⊢
        rw [← e]
        exact fwI_hit F ac _ b hb hn
      · right; omega
theorem fwO_cl (F : Nat → Nat) (ac S : Nat) : fCl F ac (fwO F ac ac S) := by
  rcases fwO_cl0 F ac S ac with h | h
  · exact h
  · intro b hb _
    have h1 := cntN_le (fun k => bitN (fwO F ac ac S) k) ac
    have h2 : ∀ n, cntN (fun _ => true) n = n := fun n => by
      induction n with
      | zero => rfl
      | succ n ih => simp only [cntN, sumN, if_true] at ih ⊢; omega
    exact cntN_eq (p := fun k => bitN (fwO F ac ac S) k) (q := fun _ => true) ac (fun _ _ _ => rfl) (by rw [h2]; simp only [cCnt] at h; omega) b hb rfl
theorem andn_z (a : Nat) : andn a 0 = a := by simp [andn]
theorem r_fallen {F : Nat → Nat} {ac : Nat} (h5 : ac ≤ 5) (hF : ∀ k, F k < 32) (S k : Nat) : bitN (fwO F ac ac S) k = true ↔ bitN S k = true ∨ (k < ac ∧ ∃ j, bitN S j = true ∧ bitN (2 ^ k ||| cRO F ac k 0) j = true) := by
  constructor
  · intro h
    have hT : fCl F ac (S ||| setN (fun b => decide (¬ (2 ^ b ||| cRO F ac b 0) &&& S = 0)) ac) := by
      intro b hb hn
      obtain ⟨c, c1, c2⟩ := and_ne0.mp hn
      rw [bN_or, Bool.or_eq_true] at c2 ⊢
      right
      rw [bitN_set, Bool.and_eq_true, decide_eq_true_eq, decide_eq_true_eq, and_ne0]
      have hc : bitN (2 ^ b ||| cRO F ac b 0) c = true := cRO_cl b hb (bN_self b _) c (by rw [andn_z]; exact c1)
      refine ⟨hb, ?_⟩
      rcases c2 with c2 | c2
      · exact ⟨c, hc, c2⟩
      · rw [bitN_set, Bool.and_eq_true, decide_eq_true_eq, decide_eq_true_eq, and_ne0] at c2
        obtain ⟨hca, j, j1, j2⟩ := c2
        exact ⟨j, cRO_T cRO_cl hca hc j j1, j2⟩
    have := fwO_T hT ac S (fun k hk => by rw [bN_or, hk]; rfl) k h
    rw [bN_or, Bool.or_eq_true] at this
    rcases this with h1 | h1
    · exact Or.inl h1
    · rw [bitN_set, Bool.and_eq_true, decide_eq_true_eq, decide_eq_true_eq, and_ne0] at h1
      obtain ⟨h2, j, j1, j2⟩ := h1
      exact Or.inr ⟨h2, j, j2, j1⟩
  · rintro (h | ⟨hk, j, j1, j2⟩)
    · exact fwO_sub F ac ac S k h
    · cases hR : bitN (fwO F ac ac S) k
      · exfalso
        have hU : cClo F 0 ac (andn 31 (fwO F ac ac S)) := by
          intro c hc hb i hi
          rw [andn_z] at hi
          rw [bN_andn, Bool.and_eq_true] at hb ⊢
          have hi5 : i < 5 := by
            rcases Nat.lt_or_ge i 5 with q | q
            · exact q
            · rw [bN_lt (n := 5) (hF c) q] at hi; cases hi
          refine ⟨by rcases (show i = 0 ∨ i = 1 ∨ i = 2 ∨ i = 3 ∨ i = 4 by omega) with rfl | rfl | rfl | rfl | rfl <;> decide, ?_⟩
          cases hq : bitN (fwO F ac ac S) i
          · rfl
          · have := fwO_cl F ac S c hc (and_ne0.mpr ⟨i, hi, hq⟩)
            rw [this] at hb
            cases hb.2
        have h31 : bitN 31 k = true := by rcases (show k = 0 ∨ k = 1 ∨ k = 2 ∨ k = 3 ∨ k = 4 by omega) with rfl | rfl | rfl | rfl | rfl <;> decide
        have := cRO_T hU hk (by rw [bN_andn, h31, hR]; rfl) j j2
        rw [bN_andn, fwO_sub F ac ac S j j1] at this
        simp at this
      · rfl
theorem cFall_b {F : Nat → Nat} {ac a : Nat} : ∀ n k, bitN (cFall F ac a n) k = true ↔ a = k ∨ (k < n ∧ bitN (cRO F ac k 0) a = true)
  | 0, k => by
    simp only [cFall]
    rw [bN_pow, decide_eq_true_eq]
    constructor
    · exact fun h => Or.inl h
    · rintro (h | h)
      · exact h
      · exact absurd h.1 (by omega)
  | n + 1, k => by
    have ih := cFall_b (F := F) (ac := ac) (a := a) n k
    simp only [cFall]
    split
    · rename_i c
      rw [bN_or, Bool.or_eq_true, ih, bN_pow, decide_eq_true_eq]
      constructor
      · rintro ((h | h) | h)
        · exact Or.inl h
        · exact Or.inr ⟨by omega, h.2⟩
        · subst h; exact Or.inr ⟨by omega, c⟩
      · rintro (h | ⟨h1, h2⟩)
        · exact Or.inl (Or.inl h)
        · by_cases e : n = k
          · exact Or.inr e
          · exact Or.inl (Or.inr ⟨by omega, h2⟩)
    · rename_i c
      rw [ih]
      constructor
      · rintro (h | h)
        · exact Or.inl h
        · exact Or.inr ⟨by omega, h.2⟩
      · rintro (h | ⟨h1, h2⟩)
        · exact Or.inl h
        · by_cases e : k = n
          · subst e; exact absurd h2 c
          · exact Or.inr ⟨by omega, h2⟩
theorem fall_eq {F : Nat → Nat} {ac a : Nat} (h5 : ac ≤ 5) (hF : ∀ k, F k < 32) : fwO F ac ac (2 ^ a) = cFall F ac a ac := bN_ext (fun k => by
  have h1 := r_fallen h5 hF (2 ^ a) k
  have h2 := cFall_b (F := F) (ac := ac) (a := a) ac k
  rw [bN_pow, decide_eq_true_eq] at h1
  have : (a = k ∨ (k < ac ∧ ∃ j, bitN (2 ^ a) j = true ∧ bitN (2 ^ k ||| cRO F ac k 0) j = true)) ↔ (a = k ∨ (k < ac ∧ bitN (cRO F ac k 0) a = true)) := by
    constructor
    · rintro (h | ⟨hk, j, j1, j2⟩)
      · exact Or.inl h
      · rw [bN_pow, decide_eq_true_eq] at j1
        subst j1
        rw [bN_or, bN_pow, Bool.or_eq_true, decide_eq_true_eq] at j2
        rcases j2 with j2 | j2
        · exact Or.inl j2.symm
        · exact Or.inr ⟨hk, j2⟩
    · rintro (h | ⟨hk, h⟩)
      · exact Or.inl h
      · exact Or.inr ⟨hk, a, by rw [bN_pow]; simp, by rw [bN_or, h, Bool.or_true]⟩
  rw [this] at h1
  cases q1 : bitN (fwO F ac ac (2 ^ a)) k
  · cases q2 : bitN (cFall F ac a ac) k
    · rfl
    · rw [h1.mpr (h2.mp q2)] at q1; cases q1
  · exact (h2.mpr (h1.mp q1)).symm)
theorem cFall_congr {F F' : Nat → Nat} {ac a : Nat} (h : ∀ k, k < ac → F k = F' k) : ∀ n, n ≤ ac → cFall F ac a n = cFall F' ac a n
  | 0, _ => rfl
  | n + 1, hn => by simp only [cFall]; rw [cFall_congr h n (by omega), cRO_congr h (by omega)]
/-- an act that rests on itself in the end -/
theorem ring_iff {F : Nat → Nat} {ac a : Nat} (ha : a < ac) : (∃ b, b < ac ∧ bitN (F b) a = true ∧ bitN (2 ^ a ||| cRO F ac a 0) b = true) ↔ bitN (cRO F ac a 0) a = true := by
  have hsub : ∀ k, bitN (F a) k = true → bitN (cRO F ac a 0) k = true := fun k hk => rOut_sub F 0 ac ac _ k (by rw [andn_z]; exact hk)
  constructor
  · rintro ⟨b, hb, h1, h2⟩
    rw [bN_or, bN_pow, Bool.or_eq_true, decide_eq_true_eq] at h2
    rcases h2 with h2 | h2
    · subst h2; exact hsub a h1
    · exact rOut_cl b hb h2 a (by rw [andn_z]; exact h1)
  · intro h
    rcases Classical.em (∃ b, b < ac ∧ bitN (F b) a = true ∧ bitN (2 ^ a ||| cRO F ac a 0) b = true) with q | q
    · exact q
    · exfalso
      have hT : cClo F 0 ac (andn (cRO F ac a 0) (2 ^ a)) := by
        intro c hc hb k hk
        rw [andn_z] at hk
        rw [bN_andn, Bool.and_eq_true] at hb ⊢
        refine ⟨rOut_cl c hc hb.1 k (by rw [andn_z]; exact hk), ?_⟩
        cases e : bitN (2 ^ a) k
        · rfl
        · rw [bN_pow, decide_eq_true_eq] at e
          subst e
          exact absurd ⟨c, hc, hk, by rw [bN_or, hb.1, Bool.or_true]⟩ q
      have h0 : ∀ k, bitN (andn (F a) 0) k = true → bitN (andn (cRO F ac a 0) (2 ^ a)) k = true := fun k hk => by
        rw [andn_z] at hk
        rw [bN_andn, hsub k hk, bN_pow]
        cases e : decide (a = k)
        · rfl
        · rw [decide_eq_true_eq] at e
          subst e
          exact absurd ⟨a, ha, hk, bN_self a _⟩ q
      have := rOut_T hT ac _ h0 a h
      rw [bN_andn, bN_pow] at this
      simp at this
section REL2
variable {σ : sT} {ζ : Nat → Nat → Nat} {V : Nat → Nat}
theorem r_fall (rp : RP σ ζ) (hz : SaOk ζ) (a : Nat) : fwO (ζ 19) (ζ 6 0) (ζ 6 0) (2 ^ a) = cFall (σ 1 10) (σ 1 7 0) a (σ 1 7 0) := by
  rw [fall_eq hz.2.2.2.2.2.2.1 hz.2.2.2.2.2.2.2.2.2.2.2.2.2.2.2.1, rp.1.2.2.2.2.2.2.1]
  exact cFall_congr (fun k hk => (rp.2.2.2.1 k hk).2.2.1) _ (Nat.le_refl _)
theorem e_falls (rp : RP σ ζ) (hz : SaOk ζ) (s : Int) : bFalls ζ s = aFalls σ s := by
  unfold bFalls aFalls
  rw [r_fall rp hz, rp.1.2.2.2.2.2.2.1]
  by_cases c : s < 0 ∨ ↑(σ 1 7 0) ≤ s
  · rw [if_pos c, if_pos (by omega)]
  · rw [if_neg c, if_neg (by omega)]
theorem cFall_pos {F : Nat → Nat} {ac a n : Nat} (ha : a < 6) : 1 ≤ popN (cFall F ac a n) := popN_pos ha (by
  have h := (cFall_b (F := F) (ac := ac) (a := a) n a).mpr (Or.inl rfl)
  rw [bitN_true] at h
  omega)
theorem r_keystone (rp : RP σ ζ) (hz : SaOk ζ) : ∀ a, a ≤ σ 1 7 0 → ksA σ a = (ksO ζ a, if ksO ζ a = -2 then 0 else popN (cFall (σ 1 10) (σ 1 7 0) (ksO ζ a).toNat (σ 1 7 0)))
  | 0, _ => rfl
  | a + 1, h => by
    have ih := r_keystone rp hz a (by omega)
    have i2 : (ksA σ a).2 = if ksO ζ a = -2 then 0 else popN (cFall (σ 1 10) (σ 1 7 0) (ksO ζ a).toNat (σ 1 7 0)) := by rw [ih]
    have hb := ksO_bd ζ a
    have h7 : σ 1 7 0 ≤ 5 := by rw [← rp.1.2.2.2.2.2.2.1]; exact hz.2.2.2.2.2.2.1
    have hp := cFall_pos (F := σ 1 10) (ac := σ 1 7 0) (a := a) (n := σ 1 7 0) (by omega)
    have hC : (ksO ζ a = -2 ∨ popN (fwO (ζ 19) (ζ 6 0) (ζ 6 0) (2 ^ (ksO ζ a).toNat)) < popN (fwO (ζ 19) (ζ 6 0) (ζ 6 0) (2 ^ a))) ↔ (ksA σ a).2 < popN (cFall (σ 1 10) (σ 1 7 0) a (σ 1 7 0)) := by
      rw [i2, r_fall rp hz, r_fall rp hz]
      by_cases d : ksO ζ a = -2
      · rw [if_pos d]; exact ⟨fun _ => by omega, fun _ => Or.inl d⟩
      · rw [if_neg d]; exact ⟨fun q => q.resolve_left d, fun q => Or.inr q⟩
    by_cases c : ksO ζ a = -2 ∨ popN (fwO (ζ 19) (ζ 6 0) (ζ 6 0) (2 ^ (ksO ζ a).toNat)) < popN (fwO (ζ 19) (ζ 6 0) (ζ 6 0) (2 ^ a))
    · have e1 : ksO ζ (a + 1) = ↑a := if_pos c
      have e2 : ksA σ (a + 1) = (↑a, popN (cFall (σ 1 10) (σ 1 7 0) a (σ 1 7 0))) := if_pos (hC.mp c)
      rw [e1, e2, if_neg (by omega)]
      rfl
    · have e1 : ksO ζ (a + 1) = ksO ζ a := if_neg c
      have e2 : ksA σ (a + 1) = ksA σ a := if_neg (fun q => c (hC.mpr q))
      rw [e1, e2, ih]
theorem e_keystone (rp : RP σ ζ) (hz : SaOk ζ) : bKeystone ζ = aKeystone σ := by
  rw [bKeystone, aKeystone, if_neg (r_told rp), r_keystone rp hz _ (Nat.le_refl _), rp.1.2.2.2.2.2.2.1]
theorem r_ringP (rp : RP σ ζ) (hz : SaOk ζ) {a : Nat} (ha : a < σ 1 7 0) : (¬ rgS ζ a = 0 ∧ bitN (fwO (ζ 19) (ζ 6 0) (ζ 6 0) (rgS ζ a)) a = true) ↔ bitN (cRO (σ 1 10) (σ 1 7 0) a 0) a = true := by
  have p6 := rp.1.2.2.2.2.2.2.1
  have hS : ∀ k, bitN (rgS ζ a) k = true ↔ k < σ 1 7 0 ∧ bitN (ζ 19 k) a = true := fun k => by
    unfold rgS
    rw [bitN_set, Bool.and_eq_true, decide_eq_true_eq, p6]
  have hcr : cRO (ζ 19) (ζ 6 0) a 0 = cRO (σ 1 10) (σ 1 7 0) a 0 := by rw [p6]; exact cRO_congr (fun k hk => (rp.2.2.2.1 k hk).2.2.1) ha
  rw [r_fallen hz.2.2.2.2.2.2.1 hz.2.2.2.2.2.2.2.2.2.2.2.2.2.2.2.1, hcr, p6, ← ring_iff ha]
  constructor
  · rintro ⟨_, h | ⟨_, j, j1, j2⟩⟩
    · have h1 := (hS a).mp h
      exact ⟨a, ha, by rw [← (rp.2.2.2.1 a ha).2.2.1]; exact h1.2, bN_self a _⟩
    · have h1 := (hS j).mp j1
      exact ⟨j, h1.1, by rw [← (rp.2.2.2.1 j h1.1).2.2.1]; exact h1.2, j2⟩
  · rintro ⟨b, hb, h1, h2⟩
    have h3 := (hS b).mpr ⟨hb, by rw [(rp.2.2.2.1 b hb).2.2.1]; exact h1⟩
    exact ⟨fun e => (by rw [e, bN_0] at h3; cases h3), Or.inr ⟨ha, b, h3, h2⟩⟩
theorem rgA_iff (σ : sT) : ∀ n, rgA σ n = if ∃ a, a < n ∧ bitN (cRO (σ 1 10) (σ 1 7 0) a 0) a = true then 1 else 0
  | 0 => by
    rw [if_neg (by rintro ⟨a, h, _⟩; omega)]
    rfl
  | n + 1 => by
    have ih := rgA_iff σ n
    have hb := bitN_le (cRO (σ 1 10) (σ 1 7 0) n 0) n
    simp only [rgA]
    rw [ih]
    by_cases c : ∃ a, a < n ∧ bitN (cRO (σ 1 10) (σ 1 7 0) a 0) a = true
    · obtain ⟨a, h1, h2⟩ := c
      rw [if_pos ⟨a, h1, h2⟩, if_pos ⟨a, by omega, h2⟩]
      rcases (show cRO (σ 1 10) (σ 1 7 0) n 0 / 2 ^ n % 2 = 0 ∨ cRO (σ 1 10) (σ 1 7 0) n 0 / 2 ^ n % 2 = 1 by omega) with e | e <;> rw [e] <;> rfl
    · rw [if_neg c]
      by_cases d : bitN (cRO (σ 1 10) (σ 1 7 0) n 0) n = true
      · rw [if_pos ⟨n, by omega, d⟩, bitN_true.mp d]; rfl
      · have e : cRO (σ 1 10) (σ 1 7 0) n 0 / 2 ^ n % 2 = 0 := by
          have : ¬ cRO (σ 1 10) (σ 1 7 0) n 0 / 2 ^ n % 2 = 1 := fun q => d (bitN_true.mpr q)
          omega
        rw [e, if_neg (by
          rintro ⟨a, h1, h2⟩
          by_cases q : a = n
          · subst q; exact d h2
          · exact c ⟨a, by omega, h2⟩)]
        rfl
theorem rgG_iff (rp : RP σ ζ) (hz : SaOk ζ) : ∀ n s, s + n = σ 1 7 0 → (rgG ζ n s = 1 ∧ ∃ a, s ≤ a ∧ a < s + n ∧ bitN (cRO (σ 1 10) (σ 1 7 0) a 0) a = true) ∨ (rgG ζ n s = 0 ∧ ¬ ∃ a, s ≤ a ∧ a < s + n ∧ bitN (cRO (σ 1 10) (σ 1 7 0) a 0) a = true)
  | 0, s, _ => Or.inr ⟨rfl, by rintro ⟨a, h1, h2, _⟩; omega⟩
  | n + 1, s, h => by
    have ih := rgG_iff rp hz n (s + 1) (by omega)
    have hP := r_ringP rp hz (a := s) (by omega)
    by_cases c : bitN (cRO (σ 1 10) (σ 1 7 0) s 0) s = true
    · have e : rgG ζ (n + 1) s = 1 := if_pos (hP.mpr c)
      exact Or.inl ⟨e, s, by omega, by omega, c⟩
    · have e : rgG ζ (n + 1) s = rgG ζ n (s + 1) := if_neg (fun q => c (hP.mp q))
      rw [e]
      rcases ih with ⟨h1, a, h2, h3, h4⟩ | ⟨h1, h2⟩
      · exact Or.inl ⟨h1, a, by omega, by omega, h4⟩
      · refine Or.inr ⟨h1, ?_⟩
        rintro ⟨a, q1, q2, q3⟩
        by_cases q : a = s
        · subst q; exact c q3
        · exact h2 ⟨a, by omega, by omega, q3⟩
theorem e_ring (rp : RP σ ζ) (hz : SaOk ζ) : bRing ζ = aRing σ := by
  rw [bRing, aRing, if_neg (r_told rp), rgA_iff, rp.1.2.2.2.2.2.2.1]
  rcases rgG_iff rp hz (σ 1 7 0) 0 (by omega) with ⟨h1, a, _, h3, h4⟩ | ⟨h1, h2⟩
  · rw [h1, if_pos ⟨a, by omega, h4⟩]; rfl
  · rw [h1, if_neg (by rintro ⟨a, q1, q2⟩; exact h2 ⟨a, by omega, by omega, q2⟩)]; rfl
end REL2
