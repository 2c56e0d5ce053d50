/-! ===== power, storms ===== -/
theorem sumN_zero {f : Nat → Nat} {n : Nat} : ∀ d, (∀ k, n ≤ k → k < n + d → f k = 0) → sumN f (n + d) = sumN f n
  | 0, _ => rfl
  | d + 1, h => by
    show sumN f (n + d) + f (n + d) = _
    rw [sumN_zero d (fun k h1 h2 => h k h1 (by omega)), h (n + d) (by omega) (by omega), Nat.add_zero]
theorem bN_v (m k : Nat) : m / 2 ^ k % 2 = if bitN m k = true then 1 else 0 := by
  have h := bitN_le m k
  by_cases c : bitN m k = true
  · rw [if_pos c, bitN_true.mp c]
  · rw [if_neg c]
    have : ¬ m / 2 ^ k % 2 = 1 := fun q => c (bitN_true.mpr q)
    omega
/-- votes of a set -/
def vtN (v : Nat → Nat) (sc m : Nat) : Nat := sumN (fun t => v t * (m / 2 ^ t % 2)) sc
theorem vtN_andn {v : Nat → Nat} {g s : Nat} (h : ∀ k, bitN s k = true → bitN g k = true) : ∀ sc, vtN v sc (andn g s) + vtN v sc s = vtN v sc g
  | 0 => rfl
  | sc + 1 => by
    have ih := vtN_andn (v := v) h sc
    have hk := h sc
    have e : ∀ m, vtN v (sc + 1) m = vtN v sc m + v sc * (m / 2 ^ sc % 2) := fun _ => rfl
    rw [e, e, e, bN_v, bN_v, bN_v, bN_andn]
    cases h1 : bitN s sc
    · cases h2 : bitN g sc <;> simp <;> omega
    · rw [hk h1]; simp; omega
theorem vtN_or {v : Nat → Nat} {s a : Nat} (h : bitN s a = false) : ∀ sc, vtN v sc (s ||| 2 ^ a) = vtN v sc s + if a < sc then v a else 0
  | 0 => by simp [vtN, sumN]
  | sc + 1 => by
    have ih := vtN_or (v := v) h sc
    have e : ∀ m, vtN v (sc + 1) m = vtN v sc m + v sc * (m / 2 ^ sc % 2) := fun _ => rfl
    rw [e, e, bN_v, bN_v, bN_or, bN_pow, ih]
    by_cases c : a = sc
    · subst c
      rw [h]
      simp
    · simp only [c, decide_false, Bool.or_false]
      by_cases d : a < sc
      · rw [if_pos d, if_pos (show a < sc + 1 by omega)]; omega
      · rw [if_neg d, if_neg (show ¬ a < sc + 1 by omega)]; omega
section REL5
variable {σ : sT} {ζ : Nat → Nat → Nat} {V : Nat → Nat}
theorem r_vo (rp : RP σ ζ) (m : Nat) : mVo ζ m = vtN (σ 1 6) (σ 1 5 0) m := by
  unfold mVo vtN
  rw [rp.1.2.2.2.2.2.1]
  exact sumN_congr _ (fun k hk => by rw [(rp.2.2.1 k hk).2.2.2.1])
theorem r_tu (rp : RP σ ζ) (hz : SaOk ζ) (rv : RV σ 3 V) {a : Nat} (ha : a < σ 1 5 0) (hg : bitN (sGood σ) a = true) : mTu ζ (mG ζ V) a = swN σ a := by
  have p5 := rp.1.2.2.2.2.2.1
  have h5 : σ 1 5 0 ≤ 6 := by rw [← p5]; exact hz.2.2.2.2.2.1
  have hpw : 2 ^ σ 1 5 0 ≤ 64 := Nat.pow_le_pow_right (n := 2) (by decide) h5
  have hgl : sGood σ < 2 ^ σ 1 5 0 := setN_lt _ _
  unfold mTu swN
  rw [r_G rp rv, p5, show (64 : Nat) = 2 ^ σ 1 5 0 + (64 - 2 ^ σ 1 5 0) by omega, sumN_zero]
  · refine sumN_congr _ (fun s _ => ?_)
    unfold mTp
    have hC : (andn s (sGood σ) = 0 ∧ bitN s a = false ∧ mVo ζ s ≤ mVo ζ (andn (sGood σ) s) ∧ mVo ζ (andn (sGood σ) (s ||| 2 ^ a)) < mVo ζ (s ||| 2 ^ a)) ↔ (andn s (andn (sGood σ) (2 ^ a)) = 0 ∧ 2 * vtN (σ 1 6) (σ 1 5 0) s ≤ vtN (σ 1 6) (σ 1 5 0) (sGood σ) ∧ vtN (σ 1 6) (σ 1 5 0) (sGood σ) < 2 * vtN (σ 1 6) (σ 1 5 0) s + 2 * σ 1 6 a) := by
      rw [r_vo rp, r_vo rp, r_vo rp, r_vo rp]
      have hsub : andn s (andn (sGood σ) (2 ^ a)) = 0 ↔ (andn s (sGood σ) = 0 ∧ bitN s a = false) := by
        rw [andn_0, andn_0]
        constructor
        · intro h
          refine ⟨fun k hk => ?_, ?_⟩
          · have := h k hk
            rw [bN_andn, Bool.and_eq_true] at this
            exact this.1
          · cases q : bitN s a
            · rfl
            · have := h a q
              rw [bN_andn, bN_pow] at this
              simp at this
        · rintro ⟨h1, h2⟩ k hk
          rw [bN_andn, h1 k hk, bN_pow]
          by_cases q : a = k
          · subst q; rw [h2] at hk; cases hk
          · simp [q]
      rw [hsub, and_assoc]
      constructor
      · rintro ⟨h1, h2, h3, h4⟩
        have hs := andn_0.mp h1
        have e1 := vtN_andn (v := σ 1 6) hs (σ 1 5 0)
        have e2 := vtN_or (v := σ 1 6) h2 (σ 1 5 0)
        have e3 := vtN_andn (v := σ 1 6) (g := sGood σ) (s := s ||| 2 ^ a) (fun k hk => by
          rw [bN_or, bN_pow, Bool.or_eq_true, decide_eq_true_eq] at hk
          rcases hk with hk | hk
          · exact hs k hk
          · rw [← hk]; exact hg) (σ 1 5 0)
        rw [if_pos ha] at e2
        exact ⟨h1, h2, by omega, by omega⟩
      · rintro ⟨h1, h2, h3, h4⟩
        have hs := andn_0.mp h1
        have e1 := vtN_andn (v := σ 1 6) hs (σ 1 5 0)
        have e2 := vtN_or (v := σ 1 6) h2 (σ 1 5 0)
        have e3 := vtN_andn (v := σ 1 6) (g := sGood σ) (s := s ||| 2 ^ a) (fun k hk => by
          rw [bN_or, bN_pow, Bool.or_eq_true, decide_eq_true_eq] at hk
          rcases hk with hk | hk
          · exact hs k hk
          · rw [← hk]; exact hg) (σ 1 5 0)
        rw [if_pos ha] at e2
        exact ⟨h1, h2, by omega, by omega⟩
    by_cases c : andn s (sGood σ) = 0 ∧ bitN s a = false ∧ mVo ζ s ≤ mVo ζ (andn (sGood σ) s) ∧ mVo ζ (andn (sGood σ) (s ||| 2 ^ a)) < mVo ζ (s ||| 2 ^ a)
    · rw [if_pos c]
      exact (if_pos (hC.mp c)).symm
    · rw [if_neg c]
      exact (if_neg (fun q => c (hC.mpr q))).symm
  · intro k h1 h2
    refine if_neg (fun q => ?_)
    have : k ≤ sGood σ := bN_le (fun j hj => by
      have := andn_0.mp q.1 j hj
      rw [bN_andn, Bool.and_eq_true] at this
      exact this.1)
    omega
theorem r_gb (rv : RV σ 3 V) {a : Nat} (ha : a < σ 1 5 0) : (V (12 + a) = 0 ↔ bitN (sGood σ) a = false) ∧ (sGood σ / 2 ^ a % 2 = 0 ↔ bitN (sGood σ) a = false) := by
  have hb := bitN_le (sGood σ) a
  refine ⟨?_, by rw [bitN_false]; omega⟩
  unfold sGood
  rw [bitN_set, (rv.1 a ha).2.2.1, decide_eq_true ha, Bool.true_and, decide_eq_false_iff_not]
  omega
theorem e_power (rp : RP σ ζ) (hz : SaOk ζ) (rv : RV σ 3 V) (s : Int) (b : Bool) : bPower ζ V s b = aPower σ s b := by
  have p5 := rp.1.2.2.2.2.2.1
  unfold bPower aPower
  rw [p5]
  by_cases c : s < 0 ∨ ↑(σ 1 5 0) ≤ s
  · rw [if_pos c, if_pos (by omega)]
  · rw [if_neg c, if_neg (by omega)]
    obtain ⟨g1, g2⟩ := r_gb rv (a := s.toNat) (by omega)
    by_cases d : bitN (sGood σ) s.toNat = false
    · rw [if_pos (g1.mpr d), if_pos (g2.mpr d)]
    · rw [if_neg (fun q => d (g1.mp q)), if_neg (fun q => d (g2.mp q)), r_tu rp hz rv (by omega) (by simpa using d), r_G rp rv]
theorem r_sgO (rp : RP σ ζ) (hz : SaOk ζ) (rv : RV σ 3 V) : ∀ s, s ≤ σ 1 5 0 → (stA σ s).1 = sgO ζ V s ∧ (stA σ s).2 = (if sgO ζ V s = -2 then -1 else ↑(swN σ (sgO ζ V s).toNat)) ∧ (sgO ζ V s = -2 ∨ ((sgO ζ V s).toNat < σ 1 5 0 ∧ bitN (sGood σ) (sgO ζ V s).toNat = true))
  | 0, _ => ⟨rfl, rfl, Or.inl rfl⟩
  | s + 1, h => by
    obtain ⟨i1, i2, i3⟩ := r_sgO rp hz rv s (by omega)
    obtain ⟨g1, g2⟩ := r_gb rv (a := s) (by omega)
    have hC : (0 < V (12 + s) ∧ (sgO ζ V s = -2 ∨ mTu ζ (mG ζ V) (sgO ζ V s).toNat < mTu ζ (mG ζ V) s)) ↔ (stA σ s).2 < sSw σ s := by
      rw [i2, sSw]
      by_cases d : bitN (sGood σ) s = false
      · rw [if_pos (g2.mpr d)]
        have := g1.mpr d
        constructor
        · rintro ⟨q, _⟩; omega
        · intro q; split at q <;> omega
      · have d' : bitN (sGood σ) s = true := by simpa using d
        rw [if_neg (fun q => d (g2.mp q)), r_tu rp hz rv (by omega) d']
        have hv : 0 < V (12 + s) := Nat.pos_of_ne_zero (fun q => d (g1.mp q))
        by_cases e : sgO ζ V s = -2
        · rw [if_pos e]
          exact ⟨fun _ => by omega, fun _ => ⟨hv, Or.inl e⟩⟩
        · have i4 := i3.resolve_left e
          rw [if_neg e, r_tu rp hz rv i4.1 i4.2]
          exact ⟨fun q => by have := q.2.resolve_left e; omega, fun q => ⟨hv, Or.inr (by omega)⟩⟩
    by_cases c : 0 < V (12 + s) ∧ (sgO ζ V s = -2 ∨ mTu ζ (mG ζ V) (sgO ζ V s).toNat < mTu ζ (mG ζ V) s)
    · have e1 : sgO ζ V (s + 1) = ↑s := if_pos c
      have e2 : stA σ (s + 1) = (↑s, sSw σ s) := if_pos (hC.mp c)
      have d' : bitN (sGood σ) s = true := by
        cases q : bitN (sGood σ) s
        · have := g1.mpr q; omega
        · rfl
      rw [e1, e2]
      refine ⟨rfl, ?_, Or.inr ⟨by simp only [Int.toNat_natCast]; omega, by rw [Int.toNat_natCast]; exact d'⟩⟩
      rw [if_neg (by omega), Int.toNat_natCast]
      show sSw σ s = _
      rw [sSw, if_neg (fun q => by rw [g2.mp q] at d'; cases d')]
    · have e1 : sgO ζ V (s + 1) = sgO ζ V s := if_neg c
      have e2 : stA σ (s + 1) = stA σ s := if_neg (fun q => c (hC.mpr q))
      rw [e1, e2]; exact ⟨i1, i2, i3⟩
theorem e_strongest (rp : RP σ ζ) (hz : SaOk ζ) (rv : RV σ 3 V) : bStrongest ζ V = aStrongest σ := by
  rw [bStrongest, aStrongest, if_neg (r_told rp), rp.1.2.2.2.2.2.1, (r_sgO rp hz rv _ (Nat.le_refl _)).1]
end REL5
/-! storms -/
def cdB (c n : Nat) : Nat := cntN (fun k => bitN c k) n
theorem bN_add_lo {c n k : Nat} (hc : c < 2 ^ n) (hk : k < n) : bitN (2 ^ n + c) k = bitN c k := by
  rw [bN_t, bN_t, Nat.testBit_two_pow_add_gt hk]
theorem bN_add_hi {c n : Nat} (hc : c < 2 ^ n) : bitN (2 ^ n + c) n = true := by
  rw [bN_t, Nat.testBit_two_pow_add_eq, ← bN_t, bN_lt hc (Nat.le_refl _)]; rfl
theorem sumN_add {f : Nat → Nat} (n : Nat) : ∀ m, sumN f (n + m) = sumN f n + sumN (fun k => f (n + k)) m
  | 0 => by simp [sumN]
  | m + 1 => by
    show sumN f (n + m) + f (n + m) = _
    rw [sumN_add n m]
    simp only [sumN]
    omega
theorem storm_s (n : Nat) (G : Nat → Nat) : sumN (fun c => G (cdB c (n + 1))) (2 ^ (n + 1)) = sumN (fun c => G (cdB c n)) (2 ^ n) + sumN (fun c => G (cdB c n + 1)) (2 ^ n) := by
  rw [Nat.pow_succ, Nat.mul_two, sumN_add]
  congr 1
  · refine sumN_congr _ (fun c hc => ?_)
    have : cdB c (n + 1) = cdB c n + if bitN c n = true then 1 else 0 := rfl
    rw [this, bN_lt hc (Nat.le_refl _)]
    rfl
  · refine sumN_congr _ (fun c hc => ?_)
    have : cdB (2 ^ n + c) (n + 1) = cdB (2 ^ n + c) n + if bitN (2 ^ n + c) n = true then 1 else 0 := rfl
    rw [this, bN_add_hi hc, if_pos rfl]
    have e : cdB (2 ^ n + c) n = cdB c n := cntN_congr _ (fun k hk => bN_add_lo hc hk)
    rw [e]
theorem storm_0 (G : Nat → Nat) : sumN (fun c => G (cdB c 0)) (2 ^ 0) = G 0 := by
  show 0 + G 0 = G 0
  omega
theorem storm_n (G : Nat → Nat) {n : Nat} (hn : n ≤ 6) : sumN (fun c => G (cdB c n)) (2 ^ n) = sumN (fun k => wN n k * G k) (n + 1) := by
  have s1 : ∀ G : Nat → Nat, sumN (fun c => G (cdB c 1)) (2 ^ 1) = G 0 + G 1 := fun G => by rw [storm_s 0 G, storm_0, storm_0 (fun x => G (x + 1))]
  have s2 : ∀ G : Nat → Nat, sumN (fun c => G (cdB c 2)) (2 ^ 2) = G 0 + 2 * G 1 + G 2 := fun G => by rw [storm_s 1 G, s1, s1 (fun x => G (x + 1))]; simp only [Nat.zero_add, Nat.reduceAdd]; omega
  have s3 : ∀ G : Nat → Nat, sumN (fun c => G (cdB c 3)) (2 ^ 3) = G 0 + 3 * G 1 + 3 * G 2 + G 3 := fun G => by rw [storm_s 2 G, s2, s2 (fun x => G (x + 1))]; simp only [Nat.zero_add, Nat.reduceAdd]; omega
  have s4 : ∀ G : Nat → Nat, sumN (fun c => G (cdB c 4)) (2 ^ 4) = G 0 + 4 * G 1 + 6 * G 2 + 4 * G 3 + G 4 := fun G => by rw [storm_s 3 G, s3, s3 (fun x => G (x + 1))]; simp only [Nat.zero_add, Nat.reduceAdd]; omega
  have s5 : ∀ G : Nat → Nat, sumN (fun c => G (cdB c 5)) (2 ^ 5) = G 0 + 5 * G 1 + 10 * G 2 + 10 * G 3 + 5 * G 4 + G 5 := fun G => by rw [storm_s 4 G, s4, s4 (fun x => G (x + 1))]; simp only [Nat.zero_add, Nat.reduceAdd]; omega
  have s6 : ∀ G : Nat → Nat, sumN (fun c => G (cdB c 6)) (2 ^ 6) = G 0 + 6 * G 1 + 15 * G 2 + 20 * G 3 + 15 * G 4 + 6 * G 5 + G 6 := fun G => by rw [storm_s 5 G, s5, s5 (fun x => G (x + 1))]; simp only [Nat.zero_add, Nat.reduceAdd]; omega
  rcases (show n = 0 ∨ n = 1 ∨ n = 2 ∨ n = 3 ∨ n = 4 ∨ n = 5 ∨ n = 6 by omega) with rfl | rfl | rfl | rfl | rfl | rfl | rfl
  · rw [storm_0]; simp [sumN, wN]
  · rw [s1]; simp [sumN, wN]
  · rw [s2]; simp [sumN, wN]
  · rw [s3]; simp [sumN, wN]
  · rw [s4]; simp [sumN, wN]
  · rw [s5]; simp [sumN, wN]
  · rw [s6]; simp [sumN, wN]
theorem prN_eq (ζ : Nat → Nat → Nat) (c : Nat) : ∀ n, prN ζ c n = ζ 2 0 ^ cdB c n * (100 - ζ 2 0) ^ (n - cdB c n)
  | 0 => by simp [prN, cdB, cntN, sumN]
  | n + 1 => by
    have ih := prN_eq ζ c n
    have hl := cntN_le (fun k => bitN c k) n
    have e : cdB c (n + 1) = cdB c n + if bitN c n = true then 1 else 0 := rfl
    have hl2 : cdB c n ≤ n := hl
    simp only [prN]
    rw [ih, e]
    by_cases q : bitN c n = true
    · rw [if_pos q, if_pos q, show n + 1 - (cdB c n + 1) = n - cdB c n by omega, Nat.pow_succ, Nat.mul_right_comm]
    · rw [if_neg q, if_neg q, Nat.add_zero, show n + 1 - cdB c n = (n - cdB c n) + 1 by omega, Nat.pow_succ, Nat.mul_assoc]
section REL6
variable {σ : sT} {ζ : Nat → Nat → Nat} {V : Nat → Nat}
theorem r_tb (rp : RP σ ζ) (hz : SaOk ζ) (rv : RV σ 3 V) {s : Nat} (hs : s < σ 1 5 0) (c n : Nat) : (0 < tbN ζ V c n (12 + s)) ↔ cLoss (σ 1 1 0) (σ 1 4 (σ 3 4 s)) (σ 3 3 s) (σ 3 0 0) n + (if σ 3 3 s = 1 then 0 else 3 * cdB c n) < σ 3 5 s := by
  unfold tbN
  rw [mDs_l _ V (by rw [rp.1.2.2.2.2.2.1]; exact hs) hz.2.2.2.2.2.1, r_loss rp rv hs, (rv.1 s hs).2.1, (rv.1 s hs).2.2.1]
  show 0 < σ 3 5 s - (_ + if σ 3 3 s = 1 then 0 else 3 * cdB c n) ↔ _
  split <;> omega
theorem r_tbG (rp : RP σ ζ) (hz : SaOk ζ) (rv : RV σ 3 V) (c n : Nat) : mG ζ (tbN ζ V c n) = sAft σ n (cdB c n) := by
  unfold mG sAft
  rw [rp.1.2.2.2.2.2.1]
  exact setN_congr _ (fun s hs => by rw [decide_eq_decide]; exact r_tb rp hz rv hs c n)
def tpN (σ : sT) (n k : Nat) : Nat := σ 1 2 0 ^ k * (100 - σ 1 2 0) ^ (n - k)
theorem r_pr (rp : RP σ ζ) (c n : Nat) : prN ζ c n = tpN σ n (cdB c n) := by rw [prN_eq, rp.1.2.2.1]; rfl
theorem chN_eq (σ : sT) (k n : Nat) : chN (σ 1 2 0) k n = wN n k * tpN σ n k := by unfold chN tpN; rw [Nat.mul_assoc]
theorem e_odds (rp : RP σ ζ) (hz : SaOk ζ) (rv : RV σ 3 V) (n : Int) (b : Bool) : bOdds ζ V n b = aOdds σ n b := by
  rw [bOdds, aOdds, if_neg (r_told rp)]
  by_cases c : n < 0 ∨ 6 < n
  · rw [why_2 rfl c, if_pos c]; rfl
  · rw [why_3 rfl c, if_neg c, if_neg (by omega)]
    have e : sumN (sQN ζ V n.toNat) (2 ^ n.toNat) = sOdds σ n.toNat := by
      rw [sumN_congr (g := fun c => (fun k => if σ 1 0 0 ≤ popN (sAft σ n.toNat k) then tpN σ n.toNat k else 0) (cdB c n.toNat)) _ (fun c _ => by
        unfold sQN
        rw [r_tbG rp hz rv, r_pr rp, rp.1.1]), storm_n (fun k => if σ 1 0 0 ≤ popN (sAft σ n.toNat k) then tpN σ n.toNat k else 0) (by omega)]
      unfold sOdds
      refine sumN_congr _ (fun k _ => ?_)
      rw [chN_eq]
      split
      · rfl
      · rw [Nat.mul_zero]
    rw [e]
theorem e_mean (rp : RP σ ζ) (hz : SaOk ζ) (rv : RV σ 3 V) (n : Int) (b : Bool) : bMean ζ V n b = aMean σ n b := by
  rw [bMean, aMean, if_neg (r_told rp)]
  by_cases c : n < 0 ∨ 6 < n
  · rw [why_2 rfl c, if_pos c]; rfl
  · rw [why_3 rfl c, if_neg c, if_neg (by omega)]
    have e : sumN (sSN ζ V n.toNat) (2 ^ n.toNat) = sumN (fun k => chN (σ 1 2 0) k n.toNat * popN (sAft σ n.toNat k)) (n.toNat + 1) := by
      rw [sumN_congr (g := fun c => (fun k => tpN σ n.toNat k * popN (sAft σ n.toNat k)) (cdB c n.toNat)) _ (fun c _ => by
        unfold sSN
        rw [r_tbG rp hz rv, r_pr rp]), storm_n (fun k => tpN σ n.toNat k * popN (sAft σ n.toNat k)) (by omega)]
      exact sumN_congr _ (fun k _ => by rw [chN_eq, Nat.mul_assoc])
    rw [e]
theorem e_goodOdds (rp : RP σ ζ) (hz : SaOk ζ) (rv : RV σ 3 V) (s n : Int) (b : Bool) : bGoodOdds ζ V s n b = aGoodOdds σ s n b := by
  have p5 := rp.1.2.2.2.2.2.1
  unfold bGoodOdds aGoodOdds
  rw [p5]
  by_cases d : s < 0 ∨ ↑(σ 1 5 0) ≤ s
  · rw [why_1 (decide_eq_false (by omega)), if_pos d]; rfl
  · by_cases c : n < 0 ∨ 6 < n
    · rw [why_2 (decide_eq_true (by omega)) c, if_neg d, if_pos c]; rfl
    · rw [why_3 (decide_eq_true (by omega)) c, if_neg d, if_neg c, if_neg (by omega)]
      have hs : s.toNat < σ 1 5 0 := by omega
      have e : sumN (sON ζ V n.toNat s.toNat) (2 ^ n.toNat) = sumN (fun k => chN (σ 1 2 0) k n.toNat * (sAft σ n.toNat k / 2 ^ s.toNat % 2)) (n.toNat + 1) := by
        rw [sumN_congr (g := fun c => (fun k => tpN σ n.toNat k * (sAft σ n.toNat k / 2 ^ s.toNat % 2)) (cdB c n.toNat)) _ (fun c _ => by
          show sON ζ V n.toNat s.toNat c = tpN σ n.toNat (cdB c n.toNat) * (sAft σ n.toNat (cdB c n.toNat) / 2 ^ s.toNat % 2)
          unfold sON
          rw [r_pr rp]
          have hb : sAft σ n.toNat (cdB c n.toNat) / 2 ^ s.toNat % 2 = if 0 < tbN ζ V c n.toNat (12 + s.toNat) then 1 else 0 := by
            unfold sAft
            rw [setN_bit]
            have h := r_tb rp hz rv hs c n.toNat
            by_cases q : 0 < tbN ζ V c n.toNat (12 + s.toNat)
            · rw [if_pos q, if_pos ⟨hs, by rw [decide_eq_true_eq]; exact h.mp q⟩]
            · rw [if_neg q, if_neg (fun z => q (h.mpr (by have := z.2; rw [decide_eq_true_eq] at this; exact this)))]
          rw [hb]
          split
          · rw [Nat.mul_one]
          · rw [Nat.mul_zero]), storm_n (fun k => tpN σ n.toNat k * (sAft σ n.toNat k / 2 ^ s.toNat % 2)) (by omega)]
        exact sumN_congr _ (fun k _ => by rw [chN_eq, Nat.mul_assoc])
      rw [e]
end REL6
