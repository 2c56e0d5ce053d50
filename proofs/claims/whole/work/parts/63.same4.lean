/-! ===== swaps, salt, the key man, strikes, power ===== -/
section REL4
variable {σ : sT} {ζ : Nat → Nat → Nat} {V : Nat → Nat}
theorem r_swap (rp : RP σ ζ) (hz : SaOk ζ) (rv : RV σ 3 V) {s q : Nat} (hs : s < σ 1 5 0) (hq : q < σ 1 5 0) : mLast ζ (mSwp V s q) = sSwap σ s q := by
  have h5 : σ 1 5 0 ≤ 6 := by rw [← rp.1.2.2.2.2.2.1]; exact hz.2.2.2.2.2.1
  refine r_last rp hz (fun j hj => ?_)
  obtain ⟨v1, v2, v3, v4⟩ := rv.1 j hj
  obtain ⟨s1, s2, s3, s4⟩ := rv.1 s hs
  obtain ⟨q1, q2, q3, q4⟩ := rv.1 q hq
  have e6 : mSwp V s q (6 + j) = σ 3 3 j := by simp only [mSwp]; rw [if_neg (by omega), if_neg (by omega), v2]
  have e12 : mSwp V s q (12 + j) = σ 3 5 j := by simp only [mSwp]; rw [if_neg (by omega), if_neg (by omega), v3]
  have e23 : mSwp V s q 23 = σ 3 0 0 := by rw [mSwp_23 (by omega) (by omega), rv.2.2.1]
  unfold mE
  rw [e6, e12, e23, rp.1.2.1]
  by_cases c : j = q
  · have : mSwp V s q j = σ 3 4 s := by simp only [mSwp]; rw [if_pos c, s1]
    rw [this, rp.2.1 _ s4, if_pos c, c]
  · rw [if_neg c]
    by_cases d : j = s
    · have : mSwp V s q j = σ 3 4 q := by simp only [mSwp]; rw [if_neg c, if_pos d, q1]
      rw [this, rp.2.1 _ q4, if_pos d, d]
    · have : mSwp V s q j = σ 3 4 j := by simp only [mSwp]; rw [if_neg c, if_neg d, v1]
      rw [this, rp.2.1 _ v4, if_neg d]
      rfl
theorem r_bwI (rp : RP σ ζ) (hz : SaOk ζ) (rv : RV σ 3 V) {s : Nat} (r : Int × Nat) : ∀ t, s + t < σ 1 5 0 → bwI ζ V s r t = bsI σ s r t
  | 0, _ => rfl
  | t + 1, h => by
    have ih := r_bwI (s := s) rp hz rv r t (by omega)
    have hs := r_swap rp hz rv (s := s) (q := s + 1 + t) (by omega) (by omega)
    have e1 : bwI ζ V s r (t + 1) = if (bwI ζ V s r t).2 < mLast ζ (mSwp V s (s + 1 + t)) then ((10 * (s : Int) + ((s + 1 + t : Nat) : Int), mLast ζ (mSwp V s (s + 1 + t))) : Int × Nat) else bwI ζ V s r t := rfl
    have e2 : bsI σ s r (t + 1) = if (bsI σ s r t).2 < sSwap σ s (s + 1 + t) then ((10 * (s : Int) + ((s + 1 + t : Nat) : Int), sSwap σ s (s + 1 + t)) : Int × Nat) else bsI σ s r t := rfl
    rw [e1, e2, ih, hs]
theorem r_bwO (rp : RP σ ζ) (hz : SaOk ζ) (rv : RV σ 3 V) : ∀ s, s ≤ σ 1 5 0 → bwO ζ V s = bsO σ s
  | 0, _ => by show ((-2 : Int), mLast ζ V) = (-2, sLasts σ); rw [r_lasts rp hz rv]
  | s + 1, h => by
    show bwI ζ V s (bwO ζ V s) (ζ 5 0 - (s + 1)) = bsI σ s (bsO σ s) (σ 1 5 0 - (s + 1))
    rw [r_bwO rp hz rv s (by omega), rp.1.2.2.2.2.2.1]
    exact r_bwI rp hz rv _ _ (by omega)
theorem e_bestSwap (rp : RP σ ζ) (hz : SaOk ζ) (rv : RV σ 3 V) : bBestSwap ζ V = aBestSwap σ := by
  rw [bBestSwap, aBestSwap, if_neg (r_told rp), rp.1.2.2.2.2.2.1, r_bwO rp hz rv _ (Nat.le_refl _)]
theorem r_slt (rp : RP σ ζ) (hz : SaOk ζ) (rv : RV σ 3 V) {s : Nat} (hs : s < σ 1 5 0) : mLast ζ (mSlt V s) = sSalt σ s := by
  have h5 : σ 1 5 0 ≤ 6 := by rw [← rp.1.2.2.2.2.2.1]; exact hz.2.2.2.2.2.1
  refine r_last rp hz (fun j hj => ?_)
  obtain ⟨v1, v2, v3, v4⟩ := rv.1 j hj
  have e0 : mSlt V s j = σ 3 4 j := by simp only [mSlt]; rw [if_neg (by omega), v1]
  have e12 : mSlt V s (12 + j) = σ 3 5 j := by simp only [mSlt]; rw [if_neg (by omega), v3]
  have e23 : mSlt V s 23 = σ 3 0 0 := by rw [mSlt_23 (by omega), rv.2.2.1]
  unfold mE
  rw [e0, e12, e23, rp.1.2.1, rp.2.1 _ v4]
  by_cases c : j = s
  · have : mSlt V s (6 + j) = 1 := by simp only [mSlt]; rw [if_pos (by omega)]
    rw [this, if_pos c, c]
  · have : mSlt V s (6 + j) = σ 3 3 j := by simp only [mSlt]; rw [if_neg (by omega), v2]
    rw [this, if_neg c]
    rfl
theorem r_twO (rp : RP σ ζ) (hz : SaOk ζ) (rv : RV σ 3 V) (h0 : ¬ σ 3 1 0 = 0) : ∀ s, s ≤ σ 1 5 0 → twO ζ V s = tsA σ s
  | 0, _ => by show ((-2 : Int), mLast ζ V) = (-2, sLasts σ); rw [r_lasts rp hz rv]
  | s + 1, h => by
    have ih := r_twO rp hz rv h0 s (by omega)
    have hs := r_slt rp hz rv (s := s) (by omega)
    have v6 := (rv.1 s (by omega)).2.1
    have hC : (¬ V 24 = 0 ∧ ¬ V (6 + s) = 1 ∧ (twO ζ V s).2 < mLast ζ (mSlt V s)) ↔ (¬ σ 3 3 s = 1 ∧ (tsA σ s).2 < sSalt σ s) := by
      rw [ih, hs, v6, rv.2.2.2.1]
      exact ⟨fun q => q.2, fun q => ⟨h0, q⟩⟩
    by_cases c : ¬ V 24 = 0 ∧ ¬ V (6 + s) = 1 ∧ (twO ζ V s).2 < mLast ζ (mSlt V s)
    · have e1 : twO ζ V (s + 1) = (↑s, mLast ζ (mSlt V s)) := if_pos c
      have e2 : tsA σ (s + 1) = (↑s, sSalt σ s) := if_pos (hC.mp c)
      rw [e1, e2, hs]
    · have e1 : twO ζ V (s + 1) = twO ζ V s := if_neg c
      have e2 : tsA σ (s + 1) = tsA σ s := if_neg (fun q => c (hC.mpr q))
      rw [e1, e2, ih]
theorem e_toSalt (rp : RP σ ζ) (hz : SaOk ζ) (rv : RV σ 3 V) : bToSalt ζ V = aToSalt σ := by
  rw [bToSalt, aToSalt, if_neg (r_told rp)]
  by_cases c : σ 3 1 0 = 0
  · rw [if_pos c, twO_0 (by rw [rv.2.2.2.1]; exact c)]
  · rw [if_neg c, rp.1.2.2.2.2.2.1, r_twO rp hz rv c _ (Nat.le_refl _)]
theorem cGood_0 {h a k d : Nat} : cGood h a k d 0 = 0 := by
  unfold cGood
  simp only [fstN]
  rw [if_pos (by simp)]
theorem r_lz (rp : RP σ ζ) (hz : SaOk ζ) (rv : RV σ 3 V) {s : Nat} (hs : s < σ 1 5 0) : mGo ζ (mPut ζ (mLz V s)) 0 = sAmong σ (sAl0 σ s) := by
  have h5 : σ 1 5 0 ≤ 6 := by rw [← rp.1.2.2.2.2.2.1]; exact hz.2.2.2.2.2.1
  have h6 : σ 1 7 0 ≤ 5 := by rw [← rp.1.2.2.2.2.2.2.1]; exact hz.2.2.2.2.2.2.1
  rw [r_Go (o := 3) rp hz (E := fun j => if j = s then 0 else sG σ j) (fun j hj => ?_) (by rw [mLz_23 (by omega), rv.2.2.1]) (fun a ha hd => by
    simp only [mLz]
    rw [if_neg (by omega)]
    exact rv.2.1 a ha hd)]
  · rfl
  · obtain ⟨v1, v2, v3, v4⟩ := rv.1 j hj
    have e0 : mLz V s j = σ 3 4 j := by simp only [mLz]; rw [if_neg (by omega), v1]
    have e6 : mLz V s (6 + j) = σ 3 3 j := by simp only [mLz]; rw [if_neg (by omega), v2]
    have e23 : mLz V s 23 = σ 3 0 0 := by rw [mLz_23 (by omega), rv.2.2.1]
    unfold mE
    rw [e0, e6, e23, rp.1.2.1, rp.2.1 _ v4]
    by_cases c : j = s
    · have : mLz V s (12 + j) = 0 := by simp only [mLz]; rw [if_pos (by omega)]
      rw [this, cGood_0]
      simp only [c, if_true]
    · have : mLz V s (12 + j) = σ 3 5 j := by simp only [mLz]; rw [if_neg (by omega), v3]
      rw [this]
      simp only [c, if_false]
      rfl
theorem popN32 {m : Nat} (h : m < 32) : popN m ≤ 5 := by
  have : ∀ k : Fin 32, popN k.val ≤ 5 := by decide +kernel
  exact this ⟨m, h⟩
theorem r_kwO (rp : RP σ ζ) (hz : SaOk ζ) (rv : RV σ 3 V) : ∀ s, s < σ 1 5 0 → kmA σ (s + 1) = (↑(kwO ζ V (s + 1)).1, (kwO ζ V (s + 1)).2)
  | 0, h => by
    have h6 : σ 1 7 0 ≤ 5 := by rw [← rp.1.2.2.2.2.2.2.1]; exact hz.2.2.2.2.2.2.1
    have e := r_lz rp hz rv h
    have hp : popN (sAmong σ (sAl0 σ 0)) ≤ 5 := popN32 (Nat.lt_of_lt_of_le (setN_lt _ _) (Nat.pow_le_pow_right (n := 2) (by decide) h6))
    have e1 : kwO ζ V (0 + 1) = (0, popN (mGo ζ (mPut ζ (mLz V 0)) 0)) := if_pos (by rw [e]; exact (Nat.lt_of_le_of_lt hp (show (5 : Nat) < 6 by decide) : popN (sAmong σ (sAl0 σ 0)) < 6))
    have e2 : kmA σ (0 + 1) = (((0 : Nat) : Int), popN (sAmong σ (sAl0 σ 0))) := if_pos ((Nat.lt_of_le_of_lt hp (show (5 : Nat) < 6 by decide) : popN (sAmong σ (sAl0 σ 0)) < 6))
    rw [e1, e2, e]
  | s + 1, h => by
    have ih := r_kwO rp hz rv s (by omega)
    have e := r_lz rp hz rv h
    have hC : popN (mGo ζ (mPut ζ (mLz V (s + 1))) 0) < (kwO ζ V (s + 1)).2 ↔ popN (sAmong σ (sAl0 σ (s + 1))) < (kmA σ (s + 1)).2 := by rw [e, ih]
    by_cases c : popN (mGo ζ (mPut ζ (mLz V (s + 1))) 0) < (kwO ζ V (s + 1)).2
    · have e1 : kwO ζ V (s + 1 + 1) = (s + 1, popN (mGo ζ (mPut ζ (mLz V (s + 1))) 0)) := if_pos c
      have e2 : kmA σ (s + 1 + 1) = (((s + 1 : Nat) : Int), popN (sAmong σ (sAl0 σ (s + 1)))) := if_pos (hC.mp c)
      rw [e1, e2, e]
    · have e1 : kwO ζ V (s + 1 + 1) = kwO ζ V (s + 1) := if_neg c
      have e2 : kmA σ (s + 1 + 1) = kmA σ (s + 1) := if_neg (fun q => c (hC.mpr q))
      rw [e1, e2, ih]
theorem e_keyMan (rp : RP σ ζ) (hz : SaOk ζ) (rv : RV σ 3 V) : bKeyMan ζ V = aKeyMan σ := by
  have h1 := rp.2.2.2.2.1.2.1
  rw [bKeyMan, aKeyMan, if_neg (r_told rp), rp.1.2.2.2.2.2.1, show σ 1 5 0 = (σ 1 5 0 - 1) + 1 by omega, r_kwO rp hz rv _ (by omega)]
/-! strikes -/
theorem r_strP (rp : RP σ ζ) (hz : SaOk ζ) (rv : RV σ 3 V) {a : Nat} (ha : a < σ 1 7 0) (hal : bitN (sAlone σ) a = true) (s : Nat) : bitN (mGo ζ (mPut ζ V) s) a = true ↔ andn (cRO (σ 1 10) (σ 1 7 0) a s) (sAlone σ) = 0 := by
  rw [r_Go rp hz (fun s hs => r_E rp rv hs) rv.2.2.1 rv.2.1, cGfp_in, andn_0]
  show (a < σ 1 7 0 ∧ ∀ k, bitN (2 ^ a ||| cRO (σ 1 10) (σ 1 7 0) a s) k = true → bitN (sAlone σ) k = true) ↔ _
  constructor
  · rintro ⟨_, h⟩ k hk
    exact h k (by rw [bN_or, hk, Bool.or_true])
  · intro h
    refine ⟨ha, fun k hk => ?_⟩
    rw [bN_or, bN_pow, Bool.or_eq_true, decide_eq_true_eq] at hk
    rcases hk with hk | hk
    · rw [← hk]; exact hal
    · exact h k hk
theorem r_strN (rp : RP σ ζ) (hz : SaOk ζ) (rv : RV σ 3 V) {a : Nat} (hal : ¬ bitN (sAlone σ) a = true) (s : Nat) : bitN (mGo ζ (mPut ζ V) s) a = false := by
  cases h : bitN (mGo ζ (mPut ζ V) s) a
  · rfl
  · rw [r_Go rp hz (fun s hs => r_E rp rv hs) rv.2.2.1 rv.2.1] at h
    exact absurd (cGfp_al a h) hal
theorem r_swO (rp : RP σ ζ) (hz : SaOk ζ) (rv : RV σ 3 V) {a : Nat} (ha : a < σ 1 7 0) (hal : bitN (sAlone σ) a = true) : ∀ s, s ≤ 32 → fsA σ a (sAlone σ) s = if swO ζ (mPut ζ V) a s = -2 then (0, 6) else ((swO ζ (mPut ζ V) a s).toNat, popN (swO ζ (mPut ζ V) a s).toNat)
  | 0, _ => rfl
  | s + 1, h => by
    have ih := r_swO rp hz rv ha hal s (by omega)
    have hp : popN s ≤ 5 := popN32 (by omega)
    have hP := r_strP rp hz rv ha hal s
    have hC : (bitN s a = false ∧ (swO ζ (mPut ζ V) a s = -2 ∨ popN s < popN (swO ζ (mPut ζ V) a s).toNat) ∧ bitN (mGo ζ (mPut ζ V) s) a = true) ↔ (s / 2 ^ a % 2 = 0 ∧ andn (cRO (σ 1 10) (σ 1 7 0) a s) (sAlone σ) = 0 ∧ popN s < (fsA σ a (sAlone σ) s).2) := by
      have hb := bitN_le s a
      rw [hP, bitN_false, ih]
      by_cases d : swO ζ (mPut ζ V) a s = -2
      · rw [if_pos d]
        exact ⟨fun q => ⟨by omega, q.2.2, by show _ < 6; omega⟩, fun q => ⟨by omega, Or.inl d, q.2.1⟩⟩
      · rw [if_neg d]
        exact ⟨fun q => ⟨by omega, q.2.2, q.2.1.resolve_left d⟩, fun q => ⟨by omega, Or.inr q.2.2, q.2.1⟩⟩
    by_cases c : bitN s a = false ∧ (swO ζ (mPut ζ V) a s = -2 ∨ popN s < popN (swO ζ (mPut ζ V) a s).toNat) ∧ bitN (mGo ζ (mPut ζ V) s) a = true
    · have e1 : swO ζ (mPut ζ V) a (s + 1) = ↑s := if_pos c
      have e2 : fsA σ a (sAlone σ) (s + 1) = (s, popN s) := if_pos (hC.mp c)
      rw [e1, e2, if_neg (by omega)]
      rfl
    · have e1 : swO ζ (mPut ζ V) a (s + 1) = swO ζ (mPut ζ V) a s := if_neg c
      have e2 : fsA σ a (sAlone σ) (s + 1) = fsA σ a (sAlone σ) s := if_neg (fun q => c (hC.mpr q))
      rw [e1, e2, ih]
theorem swO_no {a : Nat} (hn : ∀ s, bitN (mGo ζ (mPut ζ V) s) a = false) : ∀ s, swO ζ (mPut ζ V) a s = -2
  | 0 => rfl
  | s + 1 => by
    have e1 : swO ζ (mPut ζ V) a (s + 1) = swO ζ (mPut ζ V) a s := if_neg (fun q => by rw [hn s] at q; cases q.2.2)
    rw [e1]; exact swO_no hn s
theorem swO_yes {a s : Nat} (h1 : bitN s a = false) (h2 : bitN (mGo ζ (mPut ζ V) s) a = true) : ∀ d, ¬ swO ζ (mPut ζ V) a (s + 1 + d) = -2
  | 0 => by
    by_cases c : swO ζ (mPut ζ V) a s = -2
    · have e1 : swO ζ (mPut ζ V) a (s + 1) = ↑s := if_pos ⟨h1, Or.inl c, h2⟩
      show ¬ swO ζ (mPut ζ V) a (s + 1) = -2
      rw [e1]; omega
    · have hb := swO_bd ζ (mPut ζ V) a s
      have e1 : swO ζ (mPut ζ V) a (s + 1) = if bitN s a = false ∧ (swO ζ (mPut ζ V) a s = -2 ∨ popN s < popN (swO ζ (mPut ζ V) a s).toNat) ∧ bitN (mGo ζ (mPut ζ V) s) a = true then ↑s else swO ζ (mPut ζ V) a s := rfl
      show ¬ swO ζ (mPut ζ V) a (s + 1) = -2
      rw [e1]
      split <;> omega
  | d + 1 => by
    have ih := swO_yes h1 h2 d
    have hb := swO_bd ζ (mPut ζ V) a (s + 1 + d)
    have e1 : swO ζ (mPut ζ V) a (s + 1 + d + 1) = if bitN (s + 1 + d) a = false ∧ (swO ζ (mPut ζ V) a (s + 1 + d) = -2 ∨ popN (s + 1 + d) < popN (swO ζ (mPut ζ V) a (s + 1 + d)).toNat) ∧ bitN (mGo ζ (mPut ζ V) (s + 1 + d)) a = true then ↑(s + 1 + d) else swO ζ (mPut ζ V) a (s + 1 + d) := rfl
    show ¬ swO ζ (mPut ζ V) a (s + 1 + d + 1) = -2
    rw [e1]
    split <;> omega
theorem e_strike (rp : RP σ ζ) (hz : SaOk ζ) (rv : RV σ 3 V) (s : Int) : bStrike ζ V s = aStrike σ s := by
  have p6 := rp.1.2.2.2.2.2.2.1
  have h6 : σ 1 7 0 ≤ 5 := by rw [← p6]; exact hz.2.2.2.2.2.2.1
  unfold bStrike aStrike
  rw [p6]
  by_cases c : s < 0 ∨ ↑(σ 1 7 0) ≤ s
  · rw [if_pos c, if_pos (by omega)]
  · rw [if_neg c, if_neg (by omega)]
    have ha : s.toNat < σ 1 7 0 := by omega
    generalize s.toNat = a at *
    have hpw : 2 ^ σ 1 7 0 ≤ 32 := Nat.pow_le_pow_right (n := 2) (by decide) h6
    have hb := bitN_le (sAlone σ) a
    by_cases hal : bitN (sAlone σ) a = true
    · rw [if_neg (by have := bitN_true.mp hal; omega), r_swO rp hz rv ha hal _ hpw]
      have hex : ¬ swO ζ (mPut ζ V) a (2 ^ σ 1 7 0) = -2 := by
        have hpa : 2 ^ a < 2 ^ σ 1 7 0 := Nat.pow_lt_pow_right (a := 2) (by decide) ha
        have hst : andn (2 ^ σ 1 7 0 - 1) (2 ^ a) < 2 ^ σ 1 7 0 := andn_lt (Nat.sub_lt (Nat.two_pow_pos _) (by decide))
        have hfull : ∀ k, k < σ 1 7 0 → bitN (2 ^ σ 1 7 0 - 1) k = true := fun k hk => by rw [bN_t, Nat.testBit_two_pow_sub_one, decide_eq_true hk]
        have hclo : cClo (σ 1 10) (andn (2 ^ σ 1 7 0 - 1) (2 ^ a)) (σ 1 7 0) (2 ^ a) := by
          intro j hj _ k hk
          rw [bN_andn, Bool.and_eq_true] at hk
          have hk1 := rp.2.2.2.2.2.2.2.2.2.1 j hj k hk.1
          have hk2 := hk.2
          rw [bN_andn, hfull k hk1] at hk2
          simpa using hk2
        have h2 : bitN (mGo ζ (mPut ζ V) (andn (2 ^ σ 1 7 0 - 1) (2 ^ a))) a = true := by
          rw [r_strP rp hz rv ha hal, andn_0]
          intro k hk
          have := cRO_T hclo ha (by rw [bN_pow]; simp) k (by rw [bN_or, hk, Bool.or_true])
          rw [bN_pow, decide_eq_true_eq] at this
          rw [← this]; exact hal
        have h1 : bitN (andn (2 ^ σ 1 7 0 - 1) (2 ^ a)) a = false := by rw [bN_andn, bN_pow]; simp
        have := swO_yes h1 h2 (2 ^ σ 1 7 0 - (andn (2 ^ σ 1 7 0 - 1) (2 ^ a) + 1))
        rw [show andn (2 ^ σ 1 7 0 - 1) (2 ^ a) + 1 + (2 ^ σ 1 7 0 - (andn (2 ^ σ 1 7 0 - 1) (2 ^ a) + 1)) = 2 ^ σ 1 7 0 by omega] at this
        exact this
      have hbd := swO_bd ζ (mPut ζ V) a (2 ^ σ 1 7 0)
      rw [if_neg hex]
      show (swO ζ (mPut ζ V) a (2 ^ σ 1 7 0), 0) = (((swO ζ (mPut ζ V) a (2 ^ σ 1 7 0)).toNat : Int), 0)
      congr 1
      omega
    · rw [if_pos (by
        have : ¬ sAlone σ / 2 ^ a % 2 = 1 := fun q => hal (bitN_true.mpr q)
        omega), swO_no (fun s => r_strN rp hz rv hal s)]
end REL4
