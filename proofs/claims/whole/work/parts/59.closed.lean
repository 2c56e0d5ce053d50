/-! ===== the model's days in closed form ===== -/
theorem cLoss_s (h a k d n : Nat) : cLoss h a k d (n + 1) = cLoss h a k d n + cLoss h a k (d + n) 1 := by
  unfold cLoss
  split
  · have e : (d + n) % 2 = (d % 2 + n % 2) % 2 := Nat.add_mod d n 2
    rcases Nat.mod_two_eq_zero_or_one d with hd | hd
    · rw [if_pos hd, if_pos hd]
      rcases Nat.mod_two_eq_zero_or_one n with hn | hn
      · rw [if_pos (by omega)]; omega
      · rw [if_neg (by omega)]; omega
    · rw [if_neg (by omega), if_neg (by omega)]
      rcases Nat.mod_two_eq_zero_or_one n with hn | hn
      · rw [if_neg (by omega)]; omega
      · rw [if_pos (by omega)]; omega
  · rw [Nat.add_mul]
theorem cLoss_0 (h a k d : Nat) : cLoss h a k d 0 = 0 := by
  unfold cLoss
  split
  · split <;> rfl
  · rw [Nat.zero_mul]
theorem cLoss_mono (h a k d n : Nat) : ∀ j, cLoss h a k d n ≤ cLoss h a k d (n + j)
  | 0 => Nat.le_refl _
  | j + 1 => by
    have h1 := cLoss_mono h a k d n j
    rw [← Nat.add_assoc, cLoss_s h a k d (n + j)]
    omega
theorem cLoss_up {h a k d n m : Nat} (hn : n ≤ m) : cLoss h a k d n ≤ cLoss h a k d m := by
  have := cLoss_mono h a k d n (m - n)
  rw [show n + (m - n) = m by omega] at this
  exact this
theorem mD_l {ζ : Nat → Nat → Nat} {b : Bool} {X : Nat → Nat} {s : Nat} (hs : s < ζ 5 0) (h5 : ζ 5 0 ≤ 6) : mD ζ b X (12 + s) = X (12 + s) - (mLs ζ X s + if b = true ∧ X (6 + s) ≠ 1 then 3 else 0) := by
  simp only [mD, mD2]
  rw [if_neg (by omega), if_pos (by omega), show 12 + s - 12 = s by omega]
theorem mDs_l {ζ : Nat → Nat → Nat} (th : Nat → Bool) (X : Nat → Nat) {s : Nat} (hs : s < ζ 5 0) (h5 : ζ 5 0 ≤ 6) : ∀ n, mDs ζ th X n (12 + s) = X (12 + s) - (cLoss (ζ 1 0) (ζ 12 (X s)) (X (6 + s)) (X 23) n + if X (6 + s) = 1 then 0 else 3 * cntN th n)
  | 0 => by
    show X (12 + s) = _
    rw [cLoss_0]
    simp [cntN, sumN]
  | n + 1 => by
    show mD ζ (th n) (mDs ζ th X n) (12 + s) = _
    rw [mD_l hs h5, mDs_l th X hs h5 n, mLs, mDs_lo th X (by omega), mDs_lo th X (by omega), mDs_23, cLoss_s (ζ 1 0) (ζ 12 (X s)) (X (6 + s)) (X 23) n]
    have hc : cntN th (n + 1) = cntN th n + if th n = true then 1 else 0 := by simp [cntN, sumN]
    rw [hc]
    by_cases h1 : X (6 + s) = 1
    · simp [h1]; omega
    · cases th n <;> simp [h1] <;> omega
theorem cntN_mF (n : Nat) : cntN mF n = 0 := by
  induction n with
  | zero => rfl
  | succ n ih => simp only [cntN, sumN, mF, Bool.false_eq_true, if_false] at ih ⊢; omega
theorem mF_l {ζ : Nat → Nat → Nat} (X : Nat → Nat) {s : Nat} (hs : s < ζ 5 0) (h5 : ζ 5 0 ≤ 6) (n : Nat) : mDs ζ mF X n (12 + s) = X (12 + s) - cLoss (ζ 1 0) (ζ 12 (X s)) (X (6 + s)) (X 23) n := by
  rw [mDs_l mF X hs h5, cntN_mF]
  simp
/-- how long each is good -/
def mE (ζ : Nat → Nat → Nat) (V : Nat → Nat) (s : Nat) : Nat := cGood (ζ 1 0) (ζ 12 (V s)) (V (6 + s)) (V 23) (V (12 + s))
theorem fstN_lt {p : Nat → Bool} : ∀ f n k, (∀ a b, a ≤ b → p a = true → p b = true) → n ≤ k → k < n + f → (k < fstN p f n ↔ p k = false)
  | 0, n, k, _, h1, h2 => absurd h2 (by omega)
  | f + 1, n, k, hp, h1, h2 => by
    simp only [fstN]
    cases hn : p n
    · simp only [Bool.false_eq_true, if_false]
      by_cases e : k = n
      · subst e
        have : ∀ f m, m ≤ fstN p f m := fun f => by
          induction f with
          | zero => intro m; exact Nat.le_refl _
          | succ f ih =>
            intro m
            simp only [fstN]
            split
            · exact Nat.le_refl _
            · have := ih (m + 1); omega
        have := this f (k + 1)
        exact ⟨fun _ => hn, fun _ => by omega⟩
      · exact fstN_lt f (n + 1) k hp (by omega) (by omega)
    · rw [if_pos rfl]
      have := hp n k h1 hn
      exact ⟨fun q => absurd q (by omega), fun q => by rw [this] at q; cases q⟩
theorem cGood_lt {h a k d l n : Nat} (hn : n < 99) : n < cGood h a k d l ↔ cLoss h a k d n < l := by
  unfold cGood
  rw [fstN_lt 99 0 n (fun x y hxy hx => by
    rw [decide_eq_true_eq] at hx ⊢
    have := cLoss_up (h := h) (a := a) (k := k) (d := d) hxy
    omega) (by omega) (by omega), decide_eq_false_iff_not]
  omega
theorem mG_n {ζ : Nat → Nat → Nat} (V : Nat → Nat) (h5 : ζ 5 0 ≤ 6) {n : Nat} (hn : n < 99) : mG ζ (mDs ζ mF V n) = setN (fun t => decide (n < mE ζ V t)) (ζ 5 0) := by
  unfold mG
  refine setN_congr _ (fun s hs => ?_)
  rw [mF_l V hs h5, decide_eq_decide, mE, cGood_lt hn]
  omega
/-- the sets that were good on the days of the acts -/
theorem mD_p {ζ : Nat → Nat → Nat} {b : Bool} {X : Nat → Nat} {a : Nat} (ha : a < ζ 6 0) (h6 : ζ 6 0 ≤ 5) (h5 : ζ 5 0 ≤ 6) : mD ζ b X (18 + a) = if ζ 17 a = X 23 then mG ζ X else X (18 + a) := by
  simp only [mD, mD2, mD1]
  rw [if_neg (by omega), if_neg (by omega), show 18 + a - 18 = a by omega]
  by_cases c : ζ 17 a = X 23
  · rw [if_pos ⟨by omega, by omega, c⟩, if_pos c]
  · rw [if_neg (fun q => c q.2.2), if_neg c]
theorem mDs_p {ζ : Nat → Nat → Nat} (th : Nat → Bool) (X : Nat → Nat) {a : Nat} (ha : a < ζ 6 0) (h6 : ζ 6 0 ≤ 5) (h5 : ζ 5 0 ≤ 6) : ∀ n, mDs ζ th X n (18 + a) = if X 23 ≤ ζ 17 a ∧ ζ 17 a < X 23 + n then mG ζ (mDs ζ th X (ζ 17 a - X 23)) else X (18 + a)
  | 0 => by
    show X (18 + a) = _
    rw [if_neg (by omega)]
  | n + 1 => by
    show mD ζ (th n) (mDs ζ th X n) (18 + a) = _
    rw [mD_p ha h6 h5, mDs_23, mDs_p th X ha h6 h5 n]
    by_cases c : ζ 17 a = X 23 + n
    · rw [if_pos c, if_pos (by omega), show ζ 17 a - X 23 = n by omega]
    · rw [if_neg c]
      by_cases c2 : X 23 ≤ ζ 17 a ∧ ζ 17 a < X 23 + n
      · rw [if_pos c2, if_pos (by omega)]
      · rw [if_neg c2, if_neg (by omega)]
theorem mPut_p {ζ : Nat → Nat → Nat} (V : Nat → Nat) {a : Nat} (ha : a < ζ 6 0) (h6 : ζ 6 0 ≤ 5) (h5 : ζ 5 0 ≤ 6) (h17 : ζ 17 a ≤ 40) : mPut ζ V (18 + a) = if ζ 17 a < V 23 then V (18 + a) else setN (fun t => decide (ζ 17 a - V 23 < mE ζ V t)) (ζ 5 0) := by
  unfold mPut
  rw [mDs_p mF V ha h6 h5]
  by_cases c : ζ 17 a < V 23
  · rw [if_neg (by omega), if_pos c]
  · rw [if_pos (by omega), if_neg c, mG_n V h5 (by omega)]
/-- acts that go by themselves -/
theorem mAl_eq {ζ : Nat → Nat → Nat} (V past : Nat → Nat) (hz : SaOk ζ) (hp : ∀ a, a < ζ 6 0 → ζ 17 a < V 23 → V (18 + a) = past (ζ 17 a)) : mAl ζ (mPut ζ V) = setN (cAloneP (ζ 0 0) (ζ 5 0) (ζ 17) (ζ 18) (ζ 16) (V 23) past (mE ζ V)) (ζ 6 0) := by
  obtain ⟨z0, z1, z2, z3, z4, z5, z6, z9, z12, z13, z14, z15, z16, z17, -⟩ := id hz
  unfold mAl
  refine setN_congr _ (fun a ha => ?_)
  have e : mPut ζ V (18 + a) = cThen (ζ 5 0) (ζ 17) (V 23) past (mE ζ V) a := by
    rw [mPut_p V ha z6 z5 (z17 a), cThen]
    by_cases c : ζ 17 a < V 23
    · rw [if_pos c, if_pos c, hp a ha c]
    · rw [if_neg c, if_neg c]
      refine setN_congr _ (fun t _ => ?_)
      rw [decide_eq_decide]
      omega
  unfold mBy cAloneP mMg
  rw [e]
/-- how long a quorum lasts -/
theorem fst_dec {p : Nat → Bool} {f n : Nat} (hp : ∀ a b, a ≤ b → p a = true → p b = true) (hn : 1 ≤ n) (hf : n ≤ f) : n ≤ fstN p f 0 ↔ p (n - 1) = false := by
  have := fstN_lt f 0 (n - 1) hp (by omega) (by omega)
  rw [← this]
  omega
theorem mLast_eq {ζ : Nat → Nat → Nat} (V : Nat → Nat) (hz : SaOk ζ) (hq : 1 ≤ ζ 0 0) : mLast ζ V = cQD (mE ζ V) (ζ 5 0) (ζ 0 0) (ζ 5 0) := by
  obtain ⟨z0, z1, z2, z3, z4, z5, -⟩ := id hz
  have hp : ∀ n, popN (mG ζ (mDs ζ mF V n)) = cntN (fun s => decide (cLoss (ζ 1 0) (ζ 12 (V s)) (V (6 + s)) (V 23) n < V (12 + s))) (ζ 5 0) := fun n => by
    unfold mG
    rw [popN_setN _ z5]
    refine cntN_congr _ (fun s hs => ?_)
    rw [mF_l V hs z5, decide_eq_decide]
    omega
  have hm : ∀ a b, a ≤ b → mNoQ ζ V a = true → mNoQ ζ V b = true := fun a b hab h => by
    simp only [mNoQ, decide_eq_true_eq] at h ⊢
    rw [hp] at h ⊢
    have := cntN_mono (p := fun s => decide (cLoss (ζ 1 0) (ζ 12 (V s)) (V (6 + s)) (V 23) b < V (12 + s))) (q := fun s => decide (cLoss (ζ 1 0) (ζ 12 (V s)) (V (6 + s)) (V 23) a < V (12 + s))) (ζ 5 0) (fun k _ q => by
      simp only [decide_eq_true_eq] at q ⊢
      have := cLoss_up (h := ζ 1 0) (a := ζ 12 (V k)) (k := V (6 + k)) (d := V 23) hab
      omega)
    omega
  have hiff : ∀ n, 1 ≤ n → n ≤ 99 → (n ≤ mLast ζ V ↔ n ≤ cQD (mE ζ V) (ζ 5 0) (ζ 0 0) (ζ 5 0)) := fun n h1 h2 => by
    rw [cQD_iff (mE ζ V) z5 hq h1]
    unfold mLast
    rw [fst_dec hm h1 h2]
    simp only [mNoQ, decide_eq_false_iff_not]
    rw [hp]
    have : cntN (fun s => decide (cLoss (ζ 1 0) (ζ 12 (V s)) (V (6 + s)) (V 23) (n - 1) < V (12 + s))) (ζ 5 0) = cntN (fun t => decide (n ≤ mE ζ V t)) (ζ 5 0) := cntN_congr _ (fun s _ => by
      rw [decide_eq_decide, mE, ← cGood_lt (by omega)]
      omega)
    rw [this]
    omega
  have hl := mLast_le ζ V
  have hE : cQD (mE ζ V) (ζ 5 0) (ζ 0 0) (ζ 5 0) ≤ 99 := by
    rcases Nat.lt_or_ge 99 (cQD (mE ζ V) (ζ 5 0) (ζ 0 0) (ζ 5 0)) with h | h
    · have h3 := (cQD_iff (mE ζ V) (n := 100) z5 hq (by omega)).mp (by omega)
      have h4 : cntN (fun t => decide (100 ≤ mE ζ V t)) (ζ 5 0) = 0 := by
        rcases Nat.eq_zero_or_pos (cntN (fun t => decide (100 ≤ mE ζ V t)) (ζ 5 0)) with q | q
        · exact q
        · obtain ⟨k, _, hk⟩ := cntN_pos _ q
          rw [decide_eq_true_eq] at hk
          have : mE ζ V k ≤ 99 := cGood_le
          omega
      omega
    · exact h
  have ha := hiff (mLast ζ V)
  have hb := hiff (cQD (mE ζ V) (ζ 5 0) (ζ 0 0) (ζ 5 0))
  omega
