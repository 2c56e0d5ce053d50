/-! ===== sets as bits: closures ===== -/
theorem bN_t (m k : Nat) : bitN m k = m.testBit k := by
  rw [Nat.testBit_eq_decide_div_mod_eq]
  unfold bitN
  by_cases h : m / 2 ^ k % 2 = 1 <;> simp [h]
theorem bN_or (a b k : Nat) : bitN (a ||| b) k = (bitN a k || bitN b k) := by rw [bN_t, bN_t, bN_t, Nat.testBit_or]
theorem bN_and (a b k : Nat) : bitN (a &&& b) k = (bitN a k && bitN b k) := by rw [bN_t, bN_t, bN_t, Nat.testBit_and]
theorem bN_andn (a b k : Nat) : bitN (andn a b) k = (bitN a k && !bitN b k) := by
  unfold andn
  rw [bN_t, Nat.testBit_xor, Nat.testBit_and, ← bN_t, ← bN_t]
  cases bitN a k <;> cases bitN b k <;> rfl
theorem bN_pow (u k : Nat) : bitN (2 ^ u) k = decide (u = k) := by rw [bN_t, Nat.testBit_two_pow]
theorem bN_0 (k : Nat) : bitN 0 k = false := by simp [bitN]
theorem bN_ext {a b : Nat} (h : ∀ k, bitN a k = bitN b k) : a = b := Nat.eq_of_testBit_eq (fun k => by rw [← bN_t, ← bN_t, h])
theorem bN_lt {a n k : Nat} (h : a < 2 ^ n) (hk : n ≤ k) : bitN a k = false := by
  rw [bN_t]
  exact Nat.testBit_lt_two_pow (Nat.lt_of_lt_of_le h (Nat.pow_le_pow_right (n := 2) (by decide) hk))
theorem andn_0 {a b : Nat} : andn a b = 0 ↔ ∀ k, bitN a k = true → bitN b k = true := by
  constructor
  · intro h k hk
    have := bN_andn a b k
    rw [h, bN_0, hk] at this
    cases hb : bitN b k
    · rw [hb] at this; cases this
    · rfl
  · intro h
    apply bN_ext
    intro k
    rw [bN_andn, bN_0]
    cases ha : bitN a k
    · rfl
    · rw [h k ha]; rfl
theorem bN_le {a b : Nat} (h : ∀ k, bitN a k = true → bitN b k = true) : a ≤ b := Nat.le_of_testBit (fun k hk => by rw [← bN_t] at hk ⊢; exact h k hk)
/-- one pass of acts on which acts rest -/
theorem rIn_sub (F : Nat → Nat) (st : Nat) : ∀ n r k, bitN r k = true → bitN (rIn F st n r) k = true
  | 0, _, _, h => h
  | n + 1, r, k, h => by
    have h1 := rIn_sub F st n r k h
    simp only [rIn]
    split
    · rw [bN_or, h1]; rfl
    · exact h1
theorem rIn_in (F : Nat → Nat) (st : Nat) : ∀ n r j, j < n → bitN r j = true → ∀ k, bitN (andn (F j) st) k = true → bitN (rIn F st n r) k = true
  | 0, _, _, h, _, _, _ => absurd h (by omega)
  | n + 1, r, j, h, hj, k, hk => by
    simp only [rIn]
    by_cases e : j = n
    · subst e
      rw [if_pos (rIn_sub F st j r j hj), bN_or, hk, Bool.or_true]
    · have h1 := rIn_in F st n r j (by omega) hj k hk
      split
      · rw [bN_or, h1]; rfl
      · exact h1
def cClo (F : Nat → Nat) (st ac S : Nat) : Prop := ∀ j, j < ac → bitN S j = true → ∀ k, bitN (andn (F j) st) k = true → bitN S k = true
theorem rIn_T {F : Nat → Nat} {st ac T : Nat} (hT : cClo F st ac T) : ∀ n r, n ≤ ac → (∀ k, bitN r k = true → bitN T k = true) → ∀ k, bitN (rIn F st n r) k = true → bitN T k = true
  | 0, _, _, h, k, hk => h k hk
  | n + 1, r, hn, h, k, hk => by
    have h1 := rIn_T hT n r (by omega) h
    simp only [rIn] at hk
    split at hk
    · rename_i c
      rw [bN_or, Bool.or_eq_true] at hk
      rcases hk with hk | hk
      · exact h1 k hk
      · exact hT n (by omega) (h1 n c) k hk
    · exact h1 k hk
theorem rOut_T {F : Nat → Nat} {st ac T : Nat} (hT : cClo F st ac T) : ∀ n r, (∀ k, bitN r k = true → bitN T k = true) → ∀ k, bitN (rOut F st ac n r) k = true → bitN T k = true
  | 0, _, h, k, hk => h k hk
  | n + 1, r, h, k, hk => rIn_T hT ac _ (Nat.le_refl _) (rOut_T hT n r h) k hk
theorem rOut_sub (F : Nat → Nat) (st ac : Nat) : ∀ n r k, bitN r k = true → bitN (rOut F st ac n r) k = true
  | 0, _, _, h => h
  | n + 1, r, k, h => rIn_sub F st ac _ k (rOut_sub F st ac n r k h)
theorem cClo_in {F : Nat → Nat} {st ac S : Nat} (h : cClo F st ac S) : rIn F st ac S = S := bN_ext (fun k => by
  cases hk : bitN S k
  · cases h2 : bitN (rIn F st ac S) k
    · rfl
    · exact absurd (rIn_T h ac S (Nat.le_refl _) (fun _ q => q) k h2) (by rw [hk]; simp)
  · exact rIn_sub F st ac S k hk)
def cCnt (ac S : Nat) : Nat := cntN (fun k => bitN S k) ac
theorem cntN_eq {p q : Nat → Bool} : ∀ n, (∀ k, k < n → p k = true → q k = true) → cntN q n ≤ cntN p n → ∀ k, k < n → q k = true → p k = true
  | 0, _, _, k, hk, _ => absurd hk (by omega)
  | n + 1, h, hc, k, hk, hq => by
    have h1 := cntN_mono n (fun k hk => h k (by omega))
    have h2 := h n (by omega)
    simp only [cntN, sumN] at hc h1
    have h3 : (if p n = true then 1 else 0) ≤ (if q n = true then 1 else 0 : Nat) := by
      cases hp : p n
      · simp
      · rw [h2 hp]; simp
    by_cases e : k = n
    · subst e
      rw [hq] at hc
      cases hp : p k
      · rw [hp] at hc; simp at hc; omega
      · rfl
    · exact cntN_eq n (fun k hk => h k (by omega)) (by simp only [cntN]; omega) k (by omega) hq
theorem cntN_le (p : Nat → Bool) (n : Nat) : cntN p n ≤ n := by
  have := sumN_le (f := fun k => if p k then 1 else 0) (c := 1) (fun k => by split <;> omega) n
  simp only [cntN]; omega
theorem cClo_st {F : Nat → Nat} {st ac r : Nat} (h : cCnt ac (rIn F st ac r) ≤ cCnt ac r) : cClo F st ac (rIn F st ac r) := by
  intro j hj hb k hk
  have := cntN_eq ac (fun k _ q => rIn_sub F st ac r k q) h j hj hb
  exact rIn_in F st ac r j hj this k hk
theorem rOut_clo (F : Nat → Nat) (st ac r : Nat) : ∀ n, cClo F st ac (rOut F st ac n r) ∨ cCnt ac r + n ≤ cCnt ac (rOut F st ac n r)
  | 0 => Or.inr (Nat.le_refl _)
  | n + 1 => by
    simp only [rOut]
    rcases rOut_clo F st ac r n with h | h
    · left; rw [cClo_in h]; exact h
    · by_cases c : cCnt ac (rIn F st ac (rOut F st ac n r)) ≤ cCnt ac (rOut F st ac n r)
      · left; exact cClo_st c
      · right; omega
theorem rOut_cl {F : Nat → Nat} {st ac r : Nat} : cClo F st ac (rOut F st ac ac r) := by
  by_cases c : cCnt ac r = 0
  · have h0 : cClo F st ac r := fun j hj hb k hk => by
      exfalso
      have h1 := cntN_mono (p := fun k => decide (k = j)) (q := fun k => bitN r k) ac (fun k _ q => by rw [decide_eq_true_eq] at q; rw [q]; exact hb)
      have h2 : ∀ n, j < n → 1 ≤ cntN (fun k => decide (k = j)) n := fun n => by
        induction n with
        | zero => intro h; omega
        | succ n ih =>
          intro h
          by_cases e : j = n
          · subst e; simp [cntN, sumN]
          · have := ih (by omega)
            simp only [cntN, sumN] at this ⊢
            omega
      have := h2 ac hj
      simp only [cCnt] at c
      omega
    have : ∀ n, rOut F st ac n r = r := fun n => by
      induction n with
      | zero => rfl
      | succ n ih => simp only [rOut]; rw [ih, cClo_in h0]
    rw [this]; exact h0
  · rcases rOut_clo F st ac r ac with h | h
    · exact h
    · have := cntN_le (fun k => bitN (rOut F st ac ac r) k) ac
      simp only [cCnt] at h c
      omega
/-- what an act leans on, itself with it, lies in every closed set that holds it, and is closed -/
theorem cRO_T {F : Nat → Nat} {st ac a T : Nat} (hT : cClo F st ac T) (ha : a < ac) (hb : bitN T a = true) : ∀ k, bitN (2 ^ a ||| cRO F ac a st) k = true → bitN T k = true := by
  intro k hk
  rw [bN_or, Bool.or_eq_true] at hk
  rcases hk with hk | hk
  · rw [bN_pow, decide_eq_true_eq] at hk; rw [← hk]; exact hb
  · exact rOut_T hT ac _ (fun k hk => hT a ha hb k hk) k hk
theorem cRO_cl {F : Nat → Nat} {st ac a : Nat} : cClo F st ac (2 ^ a ||| cRO F ac a st) := by
  intro j hj hb k hk
  rw [bN_or, Bool.or_eq_true] at hb ⊢
  right
  rcases hb with hb | hb
  · rw [bN_pow, decide_eq_true_eq] at hb
    subst hb
    exact rOut_sub F st ac ac _ k hk
  · exact rOut_cl j hj hb k hk
/-- the greatest closed set within al -/
def cGfp (F : Nat → Nat) (ac st al : Nat) : Nat := setN (fun s => decide (andn (2 ^ s ||| cRO F ac s st) al = 0)) ac
theorem cGfp_in {F : Nat → Nat} {ac st al a : Nat} : bitN (cGfp F ac st al) a = true ↔ a < ac ∧ ∀ k, bitN (2 ^ a ||| cRO F ac a st) k = true → bitN al k = true := by
  unfold cGfp
  rw [bitN_set, Bool.and_eq_true, decide_eq_true_eq, decide_eq_true_eq, andn_0]
theorem bN_self (a b : Nat) : bitN (2 ^ a ||| b) a = true := by rw [bN_or, bN_pow]; simp
theorem cGfp_T {F : Nat → Nat} {ac st al T : Nat} (hT : cClo F st ac T) (hs : ∀ k, bitN T k = true → k < ac ∧ bitN al k = true) : ∀ k, bitN T k = true → bitN (cGfp F ac st al) k = true := fun k hk => cGfp_in.mpr ⟨(hs k hk).1, fun j hj => (hs j (cRO_T hT (hs k hk).1 hk j hj)).2⟩
theorem cGfp_al {F : Nat → Nat} {ac st al : Nat} : ∀ k, bitN (cGfp F ac st al) k = true → bitN al k = true := fun k hk => (cGfp_in.mp hk).2 k (bN_self k _)
theorem cGfp_cl {F : Nat → Nat} {ac st al : Nat} (hal : ∀ k, bitN al k = true → k < ac) : cClo F st ac (cGfp F ac st al) := by
  intro j hj hb k hk
  have h1 := (cGfp_in.mp hb).2
  have hkj : bitN (2 ^ j ||| cRO F ac j st) k = true := cRO_cl j hj (bN_self j _) k hk
  exact cGfp_in.mpr ⟨hal k (h1 k hkj), fun i hi => h1 i (cRO_T cRO_cl (hal k (h1 k hkj)) hkj i hi)⟩
/-- a set between the greatest closed one and al that is closed is the greatest -/
theorem cGfp_eq {F : Nat → Nat} {ac st al g : Nat} (h1 : ∀ k, bitN (cGfp F ac st al) k = true → bitN g k = true) (h2 : ∀ k, bitN g k = true → k < ac ∧ bitN al k = true) (h3 : cClo F st ac g) : g = cGfp F ac st al := bN_ext (fun k => by
  cases hk : bitN g k
  · cases h4 : bitN (cGfp F ac st al) k
    · rfl
    · exact absurd (h1 k h4) (by rw [hk]; simp)
  · exact (cGfp_T h3 h2 k hk).symm)
