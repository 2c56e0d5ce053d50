/-! ===== judge, days by draws, the doubted, swaps ===== -/
theorem fst_first {p : Nat → Bool} : ∀ f n k, n ≤ k → k < n + f → p k = true → (∀ j, n ≤ j → j < k → p j = false) → fstN p f n = k
  | 0, n, k, h1, h2, _, _ => absurd h2 (by omega)
  | f + 1, n, k, h1, h2, hp, hn => by
    simp only [fstN]
    by_cases e : n = k
    · subst e; rw [if_pos hp]
    · rw [if_neg (by rw [hn n (by omega) (by omega)]; simp)]
      exact fst_first f (n + 1) k (by omega) (by omega) hp (fun j h3 h4 => hn j (by omega) h4)
section REL3
variable {σ : sT} {ζ : Nat → Nat → Nat} {V : Nat → Nat}
def sBl (σ : sT) (g : Nat) : Nat := andn (σ 1 14 0) g ||| (σ 1 15 0 &&& g)
theorem r_wrongP (rp : RP σ ζ) {s : Nat} (hs : s < σ 1 7 0) (g : Nat) : (¬ ζ 20 s = 0 ∧ ¬ bitN g s = decide (ζ 20 s = 1)) ↔ bitN (sBl σ g) s = true := by
  have e := (rp.2.2.2.1 s hs).2.2.2
  have hx := rp.2.2.2.2.2.1 s
  unfold sBl
  rw [bN_or, bN_andn, bN_and, e]
  cases h1 : bitN (σ 1 14 0) s
  · cases h2 : bitN (σ 1 15 0) s <;> cases h3 : bitN g s <;> simp
  · rw [h1] at hx
    rw [(hx rfl).2]
    cases h3 : bitN g s <;> simp
theorem r_wrongG (rp : RP σ ζ) (g : Nat) : ∀ n s, s + n = σ 1 7 0 → (mWrG ζ g n s = -2 ∧ ∀ k, s ≤ k → k < s + n → bitN (sBl σ g) k = false) ∨ ∃ k : Nat, mWrG ζ g n s = ↑k ∧ s ≤ k ∧ k < s + n ∧ bitN (sBl σ g) k = true ∧ ∀ j, s ≤ j → j < k → bitN (sBl σ g) j = false
  | 0, s, _ => Or.inl ⟨rfl, fun k h1 h2 => absurd h2 (by omega)⟩
  | n + 1, s, h => by
    have ih := r_wrongG rp g n (s + 1) (by omega)
    have hP := r_wrongP rp (s := s) (by omega) g
    cases c : bitN (sBl σ g) s
    · have e : mWrG ζ g (n + 1) s = mWrG ζ g n (s + 1) := if_neg (fun q => by rw [hP.mp q] at c; cases c)
      rw [e]
      rcases ih with ⟨h1, h2⟩ | ⟨k, h1, h2, h3, h4, h5⟩
      · refine Or.inl ⟨h1, fun k q1 q2 => ?_⟩
        by_cases q : k = s
        · rw [q]; exact c
        · exact h2 k (by omega) (by omega)
      · refine Or.inr ⟨k, h1, by omega, by omega, h4, fun j q1 q2 => ?_⟩
        by_cases q : j = s
        · rw [q]; exact c
        · exact h5 j (by omega) q2
    · have e : mWrG ζ g (n + 1) s = ↑s := if_pos (hP.mpr c)
      exact Or.inr ⟨s, e, by omega, by omega, c, fun j q1 q2 => absurd q1 (by omega)⟩
theorem r_wrong (rp : RP σ ζ) (hz : SaOk ζ) (g : Nat) : mWr ζ g = if sBl σ g = 0 then -2 else ↑(ntzN (sBl σ g)) := by
  have p6 := rp.1.2.2.2.2.2.2.1
  have h6 : σ 1 7 0 ≤ 5 := by rw [← p6]; exact hz.2.2.2.2.2.2.1
  have hhi : ∀ k, σ 1 7 0 ≤ k → bitN (sBl σ g) k = false := fun k hk => by
    unfold sBl
    rw [bN_or, bN_andn, bN_and]
    have h1 : bitN (σ 1 14 0) k = false := by
      cases q : bitN (σ 1 14 0) k
      · rfl
      · have := (rp.2.2.2.2.2.1 k q).1; omega
    have h2 : bitN (σ 1 15 0) k = false := by
      cases q : bitN (σ 1 15 0) k
      · rfl
      · have := rp.2.2.2.2.2.2.1 k q; omega
    rw [h1, h2]; rfl
  unfold mWr
  rw [p6]
  rcases r_wrongG rp g (σ 1 7 0) 0 (by omega) with ⟨h1, h2⟩ | ⟨k, h1, h2, h3, h4, h5⟩
  · rw [h1, if_pos (bN_ext (fun k => by
      rw [bN_0]
      rcases Nat.lt_or_ge k (σ 1 7 0) with q | q
      · exact h2 k (by omega) (by omega)
      · exact hhi k q))]
  · rw [h1, if_neg (fun e => by rw [e, bN_0] at h4; cases h4)]
    unfold ntzN
    rw [fst_first 5 0 k (by omega) (by omega) h4 h5]
theorem r_toldV (rp : RP σ ζ) (hz : SaOk ζ) : RV σ 2 (mTold ζ) := by
  obtain ⟨p0, p1, p2, p3, p4, p5, p6, -⟩ := rp.1
  obtain ⟨z0, z1, z2, z3, z4, z5, z6, -⟩ := id hz
  refine ⟨fun s hs => ?_, fun a ha h => ?_, ?_, ?_, ?_⟩
  · obtain ⟨q1, q2, q3, q4, q5⟩ := rp.2.2.1 s hs
    refine ⟨?_, ?_, ?_, q5⟩
    · simp only [mTold, mTo]; rw [if_neg (by omega), if_pos (by omega), q2]
    · simp only [mTold, mTo]; rw [if_neg (by omega), if_neg (by omega), if_pos (by omega), show 6 + s - 6 = s by omega, q1]
    · simp only [mTold, mTo]; rw [if_neg (by omega), if_neg (by omega), if_neg (by omega), if_pos (by omega), show 12 + s - 12 = s by omega, q3]
  · rw [rp.2.2.2.2.2.2.2.1] at h; omega
  · rw [rp.2.2.2.2.2.2.2.1]; exact mSi_23 ζ hz 0 0
  · show ζ 3 0 = _
    exact p3
  · rw [rp.2.2.2.2.2.2.2.2.1]
    simp only [mTold, mTo]; rw [if_neg (by omega), if_neg (by omega), if_neg (by omega), if_neg (by omega)]
theorem e_judge (rp : RP σ ζ) (hz : SaOk ζ) : bJudge ζ = aJudge σ := by
  have rv := r_toldV rp hz
  rw [bJudge, aJudge, if_neg (r_told rp), r_Go rp hz (fun s hs => r_E rp rv hs) rv.2.2.1 rv.2.1, r_wrong rp hz]
  show (if sBl σ (sGo2 σ (sG2 σ)) = 0 then (-2 : Int) else ↑(ntzN (sBl σ (sGo2 σ (sG2 σ)))), 0) = _
  show _ = (if sBl σ (sGo2 σ (sG2 σ)) = 0 then ((-2 : Int), 0) else (((ntzN (sBl σ (sGo2 σ (sG2 σ))) : Nat) : Int), 0) : Int × Nat)
  split <;> rfl
/-! days by draws -/
theorem mDb_lo {e : Nat} {k : Nat} (hk : k < 12) : ∀ n, mDb ζ V e n k = V k
  | 0 => by show mX25 V e k = V k; simp only [mX25]; rw [if_neg (by omega)]
  | n + 1 => by
    show mD ζ _ (mX25 (mDb ζ V e n) (mSd (mDb ζ V e n))) k = V k
    rw [mD_lo _ _ hk]
    simp only [mX25]
    rw [if_neg (by omega)]
    exact mDb_lo hk n
theorem mDb_l (hz : SaOk ζ) {e s : Nat} (hs : s < ζ 5 0) : ∀ n, mDb ζ V e n (12 + s) = V (12 + s) - (cLoss (ζ 1 0) (ζ 12 (V s)) (V (6 + s)) (V 23) n + if V (6 + s) = 1 then 0 else 3 * mTh ζ e n)
  | 0 => by
    have h5 := hz.2.2.2.2.2.1
    show mX25 V e (12 + s) = _
    rw [cLoss_0]
    simp only [mX25]
    rw [if_neg (by omega)]
    simp [mTh, sumN]
  | n + 1 => by
    have h5 := hz.2.2.2.2.2.1
    have ih := mDb_l hz (e := e) hs n
    show mD ζ (mThu ζ (mDb ζ V e n)) (mX25 (mDb ζ V e n) (mSd (mDb ζ V e n))) (12 + s) = _
    rw [mD_l hs h5, mDb_t hz, mLs]
    have e1 : ∀ k, k ≠ 25 → mX25 (mDb ζ V e n) (mSd (mDb ζ V e n)) k = mDb ζ V e n k := fun k hk => by simp [mX25, hk]
    rw [e1 (12 + s) (by omega), e1 s (by omega), e1 (6 + s) (by omega), e1 23 (by omega), ih, mDb_lo (by omega), mDb_lo (by omega), mDb_23, cLoss_s (ζ 1 0) (ζ 12 (V s)) (V (6 + s)) (V 23) n]
    have hc : mTh ζ e (n + 1) = mTh ζ e n + if cDraw e (n + 1) % 100 < ζ 2 0 then 1 else 0 := by simp [mTh, sumN]
    rw [hc]
    by_cases h1 : V (6 + s) = 1
    · simp [h1]; omega
    · by_cases h2 : cDraw e (n + 1) % 100 < ζ 2 0 <;> simp [h1, h2] <;> omega
theorem r_th (rp : RP σ ζ) (e n : Nat) : mTh ζ e n = sTh σ e n := by
  unfold mTh sTh
  rw [rp.1.2.2.1]
theorem e_thunders (rp : RP σ ζ) (s n : Int) : bThunders ζ V s n = aThunders σ s n := by
  rw [bThunders, aThunders, if_neg (r_told rp), r_th rp]
  by_cases c : (s < 0 ∨ 65536 < s) ∨ (n < 0 ∨ 99 < n)
  · rw [if_pos c, if_pos c, if_pos (by decide)]
  · rw [if_neg c, if_neg c, if_neg (by decide)]
theorem e_days (rp : RP σ ζ) (hz : SaOk ζ) (rv : RV σ 3 V) (s n : Int) : bDays ζ V s n = aDays σ s n := by
  rw [bDays, aDays, if_neg (r_told rp)]
  by_cases c : (s < 0 ∨ 65536 < s) ∨ (n < 0 ∨ 99 < n)
  · rw [if_pos c, if_pos c, if_pos (by decide)]
  · rw [if_neg c, if_neg c, if_neg (by decide)]
    have p5 := rp.1.2.2.2.2.2.1
    congr 2
    unfold mG sAft
    rw [p5]
    refine setN_congr _ (fun t ht => ?_)
    rw [mDb_l hz (by omega), r_loss rp rv ht, r_th rp, (rv.1 t ht).2.1, (rv.1 t ht).2.2.1, decide_eq_decide]
    split <;> omega
/-! the doubted -/
theorem mSi_lo (hz : SaOk ζ) (d : Nat) {k : Nat} (hk : k < 12) : ∀ n, mSi ζ d n k = mTold ζ k
  | 0 => rfl
  | n + 1 => by
    show mD ζ false (mSs ζ d n (mSi ζ d n)) k = _
    rw [mD_lo _ _ hk]
    simp only [mSs]
    rw [if_neg (by omega)]
    exact mSi_lo hz d hk n
theorem mSi_l (hz : SaOk ζ) (d : Nat) {s : Nat} (hs : s < ζ 5 0) (hd : s ≠ ζ 9 0 - 1) : ∀ n, mSi ζ d n (12 + s) = mTold ζ (12 + s) - cLoss (ζ 1 0) (ζ 12 (mTold ζ s)) (mTold ζ (6 + s)) 0 n
  | 0 => by rw [cLoss_0]; rfl
  | n + 1 => by
    have h5 := hz.2.2.2.2.2.1
    have ih := mSi_l hz d hs hd n
    show mD ζ false (mSs ζ d n (mSi ζ d n)) (12 + s) = _
    have e1 : ∀ k, k ≠ 12 + (ζ 9 0 - 1) → mSs ζ d n (mSi ζ d n) k = mSi ζ d n k := fun k hk => by simp [mSs, hk]
    have h9 := hz.2.2.2.2.2.2.2.1
    rw [mD_l hs h5, mLs, e1 (12 + s) (by omega), e1 s (by omega), e1 (6 + s) (by omega), e1 23 (by omega), ih, mSi_lo hz d (by omega), mSi_lo hz d (by omega), mSi_23 ζ hz d n, cLoss_s (ζ 1 0) (ζ 12 (mTold ζ s)) (mTold ζ (6 + s)) 0 n]
    simp
    omega
def mEd (ζ : Nat → Nat → Nat) (d t : Nat) : Nat := if t = ζ 9 0 - 1 then d else mE ζ (mTold ζ) t
theorem mG_si (hz : SaOk ζ) (d : Nat) {n : Nat} (hn : n < 99) : mG ζ (mSs ζ d n (mSi ζ d n)) = setN (fun t => decide (n < mEd ζ d t)) (ζ 5 0) := by
  unfold mG
  refine setN_congr _ (fun s hs => ?_)
  have h9 := hz.2.2.2.2.2.2.2.1
  rw [decide_eq_decide, mEd]
  by_cases c : s = ζ 9 0 - 1
  · rw [if_pos c]
    simp only [mSs]
    rw [if_pos (by omega)]
    split <;> omega
  · rw [if_neg c]
    simp only [mSs]
    rw [if_neg (by omega), mSi_l hz d hs c, mE, show mTold ζ 23 = 0 from mSi_23 ζ hz 0 0, cGood_lt hn]
    omega
theorem mSi_p (hz : SaOk ζ) (d : Nat) {a : Nat} (ha : a < ζ 6 0) : ∀ n, ζ 17 a < n → mSi ζ d n (18 + a) = mG ζ (mSs ζ d (ζ 17 a) (mSi ζ d (ζ 17 a)))
  | 0, h => absurd h (by omega)
  | n + 1, h => by
    have h5 := hz.2.2.2.2.2.1
    have h6 := hz.2.2.2.2.2.2.1
    have h9 := hz.2.2.2.2.2.2.2.1
    show mD ζ false (mSs ζ d n (mSi ζ d n)) (18 + a) = _
    rw [mD_p ha h6 h5, mSs_23 hz, mSi_23 ζ hz d n]
    by_cases c : ζ 17 a = n
    · rw [if_pos c, c]
    · rw [if_neg c]
      simp only [mSs]
      rw [if_neg (by omega)]
      exact mSi_p hz d ha n (by omega)
theorem r_Gs (rp : RP σ ζ) (hz : SaOk ζ) (d : Nat) : mGs ζ d = sGo2 σ (sD σ d) := by
  obtain ⟨p0, p1, p2, p3, p4, p5, p6, p7, p8, p9, -⟩ := rp.1
  obtain ⟨z0, z1, z2, z3, z4, z5, z6, z9, z12, z13, z14, z15, z16, z17, -⟩ := id hz
  have rv := r_toldV rp hz
  have hal : mAl ζ (mSi ζ d 41) = sAlone2 σ (sD σ d) := by
    unfold mAl sAlone2
    rw [p6]
    refine setN_congr _ (fun a ha => ?_)
    obtain ⟨q1, q2, q3, q4⟩ := rp.2.2.2.1 a ha
    have e : mSi ζ d 41 (18 + a) = cThen (σ 1 5 0) (σ 1 8) (σ 2 0 0) (σ 2 6) (sD σ d) a := by
      have h40 := z17 a
      rw [mSi_p hz d (by omega) 41 (by omega), mG_si hz d (by omega), cThen, rp.2.2.2.2.2.2.2.1, if_neg (by omega), q1, p5]
      refine setN_congr _ (fun t ht => ?_)
      rw [decide_eq_decide, mEd, sD, p9]
      by_cases c : t = σ 1 13 0 - 1
      · rw [if_pos c, if_pos c]; omega
      · rw [if_neg c, if_neg c, r_E rp rv ht, show sGo σ 2 t = sG2 σ t from rfl]; omega
    unfold mBy cAloneP mMg
    rw [e, q2, p0, p5]
    have el : ∀ f m, cLead (ζ 16) f (σ 1 5 0) m = cLead (σ 1 6) f (σ 1 5 0) m := fun f m => by
      unfold cLead
      rw [sumN_congr (σ 1 5 0) (fun k hk => by rw [(rp.2.2.1 k hk).2.2.2.1]), sumN_congr (f := fun s => ζ 16 s * (andn m f / 2 ^ s % 2)) (g := fun s => σ 1 6 s * (andn m f / 2 ^ s % 2)) (σ 1 5 0) (fun k hk => by rw [(rp.2.2.1 k hk).2.2.2.1])]
    rw [el]
  unfold mGs mGo sGo2
  rw [hal, p6]
  exact cGfp_congr (fun k hk => (rp.2.2.2.1 k hk).2.2.1)
theorem r_fit (rp : RP σ ζ) (hz : SaOk ζ) (d : Nat) : mFit ζ d = dFit σ d := by
  unfold mFit dFit
  rw [r_Gs rp hz, r_wrong rp hz, decide_eq_decide]
  have : sBl σ (sGo2 σ (sD σ d)) = 0 ↔ andn (σ 1 14 0) (sGo2 σ (sD σ d)) = 0 ∧ σ 1 15 0 &&& sGo2 σ (sD σ d) = 0 := Nat.or_eq_zero_iff
  rw [← this]
  constructor
  · intro h
    rcases Nat.eq_zero_or_pos (sBl σ (sGo2 σ (sD σ d))) with q | q
    · exact q
    · rw [if_neg (by omega)] at h; omega
  · intro h; rw [if_pos h]
theorem r_Fc (rp : RP σ ζ) (hz : SaOk ζ) (d : Nat) : mFc ζ d = dC σ d := sumN_congr _ (fun e _ => by rw [r_fit rp hz])
theorem r_Wn (rp : RP σ ζ) (hz : SaOk ζ) (a d : Nat) : mWn ζ a d = dWn σ a d := sumN_congr _ (fun e _ => by rw [r_fit rp hz, r_Gs rp hz])
theorem r_Nth (rp : RP σ ζ) (hz : SaOk ζ) (i : Nat) : ∀ d, mNth ζ ↑i d = dNth σ i d
  | 0 => rfl
  | d + 1 => by
    have ih := r_Nth rp hz i d
    have hC : (mFit ζ d = true ∧ (↑(mFc ζ d) : Int) = ↑i) ↔ (dFit σ d = true ∧ dC σ d = i) := by rw [r_fit rp hz, r_Fc rp hz]; exact ⟨fun q => ⟨q.1, by omega⟩, fun q => ⟨q.1, by omega⟩⟩
    by_cases c : mFit ζ d = true ∧ (↑(mFc ζ d) : Int) = ↑i
    · have e1 : mNth ζ ↑i (d + 1) = ↑d := if_pos c
      have e2 : dNth σ i (d + 1) = ↑d := if_pos (hC.mp c)
      rw [e1, e2]
    · have e1 : mNth ζ ↑i (d + 1) = mNth ζ ↑i d := if_neg c
      have e2 : dNth σ i (d + 1) = dNth σ i d := if_neg (fun q => c (hC.mpr q))
      rw [e1, e2, ih]
theorem dNth_m1 (σ : sT) (i : Nat) : ∀ d, (dNth σ i d = -1 ↔ dC σ d ≤ i)
  | 0 => ⟨fun _ => Nat.zero_le _, fun _ => rfl⟩
  | d + 1 => by
    have ih := dNth_m1 σ i d
    have hc : dC σ (d + 1) = dC σ d + if dFit σ d = true then 1 else 0 := rfl
    by_cases c : dFit σ d = true ∧ dC σ d = i
    · have e2 : dNth σ i (d + 1) = ↑d := if_pos c
      rw [e2, hc, if_pos c.1]
      omega
    · have e2 : dNth σ i (d + 1) = dNth σ i d := if_neg c
      rw [e2, ih, hc]
      by_cases q : dFit σ d = true
      · rw [if_pos q]
        have : dC σ d ≠ i := fun e => c ⟨q, e⟩
        omega
      · rw [if_neg q]; omega
theorem r_d0 (rp : RP σ ζ) : (0 < (if ζ 9 0 = 0 then 6 else 0 : Nat)) ↔ σ 1 13 0 = 0 := by
  rw [rp.1.2.2.2.2.2.2.2.2.2.1]
  by_cases c : σ 1 13 0 = 0
  · simp [c]
  · simp [c]
theorem e_since (rp : RP σ ζ) (hz : SaOk ζ) : bSince ζ = aSince σ := by
  rw [bSince, aSince, r_Fc rp hz]
  by_cases c : σ 1 13 0 = 0
  · rw [if_pos ((r_d0 rp).mpr c), if_pos c, sWhy, if_neg (r_told rp), rp.1.2.2.2.2.2.2.2.2.2.1, if_pos c]
  · rw [if_neg (fun q => c ((r_d0 rp).mp q)), if_neg c]
theorem e_sinceAt (rp : RP σ ζ) (hz : SaOk ζ) (s : Int) : bSinceAt ζ s = aSinceAt σ s := by
  rw [bSinceAt, aSinceAt]
  by_cases c : σ 1 13 0 = 0
  · rw [if_pos ((r_d0 rp).mpr c), if_pos c, sWhy, if_neg (r_told rp), rp.1.2.2.2.2.2.2.2.2.2.1, if_pos c]
  · rw [if_neg (fun q => c ((r_d0 rp).mp q)), if_neg c]
    by_cases d : s < 0
    · rw [if_pos (Or.inl d), if_pos (Or.inl d)]
    · obtain ⟨i, rfl⟩ : ∃ i : Nat, s = ↑i := ⟨s.toNat, by omega⟩
      rw [r_Nth rp hz, Int.toNat_natCast]
      have := dNth_m1 σ i 42
      by_cases e : dC σ 42 ≤ i
      · rw [if_pos (Or.inr (this.mpr e)), if_pos (Or.inr (by omega))]
      · rw [if_neg (fun q => q.elim d (fun q => e (this.mp q))), if_neg (by omega)]
theorem r_look (rp : RP σ ζ) (hz : SaOk ζ) (h0 : ¬ dC σ 42 = 0) : ∀ a, (atA (sLv σ) (dC σ 42) a).1 = (mLk ζ a).1 ∧ (atA (sLv σ) (dC σ 42) a).2 = (if (mLk ζ a).1 = -2 then dC σ 42 + 1 else sLv σ (mLk ζ a).1.toNat) ∧ (if (mLk ζ a).1 = -2 then (mLk ζ a).2 = -2 else (mLk ζ a).2 = ↑(sLv σ (mLk ζ a).1.toNat))
  | 0 => ⟨rfl, rfl, rfl⟩
  | a + 1 => by
    obtain ⟨i1, i2, i3⟩ := r_look rp hz h0 a
    have hL : max (mWn ζ a 42) (mFc ζ 42 - mWn ζ a 42) = sLv σ a := by rw [r_Wn rp hz, r_Fc rp hz]; rfl
    have hle : sLv σ a ≤ dC σ 42 := by
      have h1 := mWn_le ζ a 42
      rw [r_Wn rp hz, r_Fc rp hz] at h1
      unfold sLv; omega
    have hC : ¬ (mFc ζ 42 = 0 ∨ (¬ (mLk ζ a).1 = -2 ∧ (mLk ζ a).2 ≤ ↑(max (mWn ζ a 42) (mFc ζ 42 - mWn ζ a 42)))) ↔ (sLv σ a < (atA (sLv σ) (dC σ 42) a).2 ∧ dC σ 42 ≠ 0) := by
      rw [i2, hL, r_Fc rp hz]
      by_cases d : (mLk ζ a).1 = -2
      · rw [if_pos d]; constructor
        · intro _; exact ⟨by omega, h0⟩
        · rintro _ (q | q)
          · exact h0 q
          · exact q.1 d
      · rw [if_neg d] at i3 ⊢
        rw [i3]
        constructor
        · intro q; exact ⟨by have : ¬ ((sLv σ (mLk ζ a).1.toNat : Int) ≤ ↑(sLv σ a)) := fun e => q (Or.inr ⟨d, e⟩); omega, h0⟩
        · rintro q (e | e)
          · exact h0 e
          · omega
    have hb := mLk_bd ζ a
    by_cases c : mFc ζ 42 = 0 ∨ (¬ (mLk ζ a).1 = -2 ∧ (mLk ζ a).2 ≤ ↑(max (mWn ζ a 42) (mFc ζ 42 - mWn ζ a 42)))
    · have e1 : mLk ζ (a + 1) = mLk ζ a := if_pos c
      have e2 : atA (sLv σ) (dC σ 42) (a + 1) = atA (sLv σ) (dC σ 42) a := if_neg (fun q => hC.mpr q c)
      rw [e1, e2]; exact ⟨i1, i2, i3⟩
    · have e1 : mLk ζ (a + 1) = (↑a, ↑(max (mWn ζ a 42) (mFc ζ 42 - mWn ζ a 42))) := if_neg c
      have e2 : atA (sLv σ) (dC σ 42) (a + 1) = (↑a, sLv σ a) := if_pos (hC.mp c)
      rw [e1, e2, hL]
      refine ⟨rfl, ?_, ?_⟩
      · rw [if_neg (by simp only; omega)]; rfl
      · rw [if_neg (by simp only; omega)]; rfl
theorem atA_z (L : Nat → Nat) : ∀ a, (atA L 0 a).1 = -2
  | 0 => rfl
  | a + 1 => by
    have e : atA L 0 (a + 1) = atA L 0 a := if_neg (fun q => q.2 rfl)
    rw [e]; exact atA_z L a
theorem r_ask (rp : RP σ ζ) (hz : SaOk ζ) : (mLk ζ (ζ 6 0)).1 = sAsk σ ∧ (if sAsk σ = -2 then (mLk ζ (ζ 6 0)).2 = -2 else (mLk ζ (ζ 6 0)).2 = ↑(sLv σ (sAsk σ).toNat)) := by
  rw [rp.1.2.2.2.2.2.2.1]
  unfold sAsk
  by_cases h0 : dC σ 42 = 0
  · have h1 : mFc ζ 42 = 0 := by rw [r_Fc rp hz]; exact h0
    rw [mLk_0 h1, h0, atA_z, if_pos rfl]
    exact ⟨rfl, rfl⟩
  · obtain ⟨i1, i2, i3⟩ := r_look rp hz h0 (σ 1 7 0)
    rw [i1]
    exact ⟨rfl, i3⟩
theorem e_look (rp : RP σ ζ) (hz : SaOk ζ) : bLook ζ = aLook σ := by
  rw [bLook, aLook, (r_ask rp hz).1]
  by_cases c : σ 1 13 0 = 0
  · rw [if_pos ((r_d0 rp).mpr c), if_pos c, sWhy, if_neg (r_told rp), rp.1.2.2.2.2.2.2.2.2.2.1, if_pos c]
  · rw [if_neg (fun q => c ((r_d0 rp).mp q)), if_neg c]
theorem e_lookL (rp : RP σ ζ) (hz : SaOk ζ) : bLookL ζ = aLookL σ := by
  have h := (r_ask rp hz).2
  rw [bLookL, aLookL]
  by_cases c : σ 1 13 0 = 0
  · rw [if_pos ((r_d0 rp).mpr c), if_pos c, sWhy, if_neg (r_told rp), rp.1.2.2.2.2.2.2.2.2.2.1, if_pos c]
  · rw [if_neg (fun q => c ((r_d0 rp).mp q)), if_neg c]
    by_cases d : sAsk σ = -2
    · rw [if_pos d] at h ⊢; rw [h]
    · rw [if_neg d] at h ⊢; rw [h]
end REL3
