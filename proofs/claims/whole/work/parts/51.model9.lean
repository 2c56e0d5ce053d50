def mLk (ζ : Nat → Nat → Nat) : Nat → Int × Int
  | 0 => (-2, -2)
  | a + 1 => if mFc ζ 42 = 0 ∨ (¬ (mLk ζ a).1 = -2 ∧ (mLk ζ a).2 ≤ ↑(max (mWn ζ a 42) (mFc ζ 42 - mWn ζ a 42))) then mLk ζ a else (↑a, ↑(max (mWn ζ a 42) (mFc ζ 42 - mWn ζ a 42)))
theorem mLk_0 {ζ : Nat → Nat → Nat} (h : mFc ζ 42 = 0) : ∀ a, mLk ζ a = (-2, -2)
  | 0 => rfl
  | a + 1 => by simp only [mLk]; rw [if_pos (Or.inl h), mLk_0 h a]
theorem mWn_le (ζ : Nat → Nat → Nat) (a : Nat) : ∀ d, mWn ζ a d ≤ mFc ζ d
  | 0 => Nat.le_refl _
  | d + 1 => by
    have h1 := mWn_le ζ a d
    have h2 := bitN_le (mGs ζ d) a
    simp only [mWn, mFc, sumN] at h1 ⊢
    split <;> omega
theorem mLk_bd (ζ : Nat → Nat → Nat) : ∀ a, -2 ≤ (mLk ζ a).1 ∧ (mLk ζ a).1 < ↑a ∧ -2 ≤ (mLk ζ a).2 ∧ (mLk ζ a).2 ≤ 42
  | 0 => ⟨by show (-2 : Int) ≤ -2; decide, by show (-2 : Int) < 0; decide, by show (-2 : Int) ≤ -2; decide, by show (-2 : Int) ≤ 42; decide⟩
  | a + 1 => by
    have h1 := mLk_bd ζ a
    have h2 := mWn_le ζ a 42
    have h3 := mFc_le ζ 42
    simp only [mLk]
    split
    · omega
    · simp only; omega
theorem rU_rU (ρ : Nat → Nat → Nat) (k : Nat) (a b : Nat → Nat) : rU (rU ρ k a) k b = rU ρ k b := by
  funext j
  simp only [rU]
  by_cases h : j = k <;> simp [h]
theorem mU_mU (m : Nat → Int) (k : Nat) (a b : Int) : mU (mU m k a) k b = mU m k b := by
  funext j
  simp only [mU]
  by_cases h : j = k <;> simp [h]
def mSh (P : Nat → Nat) (s : Nat) : Nat → Nat := fun k => if k < s then P (k + 26) else P k
def mRe (P V : Nat → Nat) (c s : Nat) : Nat → Nat := fun k => if 26 * c ≤ k ∧ k < 26 * c + s then V (k - 26 * c) else P k
def mRm (ρ : Nat → Nat → Nat) (c : Nat) : Nat → Nat := if c = 16 then mRe (mSh (ρ 4) 390) (ρ 2) 15 26 else mRe (ρ 4) (ρ 2) c 26
theorem mSh_0 (P : Nat → Nat) : mSh P 0 = P := by funext k; simp [mSh]
theorem mSh_r (P : Nat → Nat) (s : Nat) : mSh P s (s + 26) = P (s + 26) := by simp only [mSh]; rw [if_neg (by omega)]
theorem mSh_s (P : Nat → Nat) (s : Nat) : (fun j => if j = s then P (s + 26) else mSh P s j) = mSh P (s + 1) := by
  funext j
  simp only [mSh]
  by_cases h : j = s
  · subst h; rw [if_pos rfl, if_pos (by omega)]
  · rw [if_neg h]
    by_cases h2 : j < s
    · rw [if_pos h2, if_pos (by omega)]
    · rw [if_neg h2, if_neg (by omega)]
theorem mRe_0 (P V : Nat → Nat) (c : Nat) : mRe P V c 0 = P := by funext k; simp only [mRe]; rw [if_neg (by omega)]
theorem mRe_s (P V : Nat → Nat) (c s : Nat) : (fun j => if j = 26 * c + s then V s else mRe P V c s j) = mRe P V c (s + 1) := by
  funext j
  simp only [mRe]
  by_cases h : j = 26 * c + s
  · subst h; rw [if_pos rfl, if_pos (by omega), show 26 * c + s - 26 * c = s by omega]
  · rw [if_neg h]
    by_cases h2 : 26 * c ≤ j ∧ j < 26 * c + s
    · rw [if_pos h2, if_pos (by omega)]
    · rw [if_neg h2, if_neg (by omega)]
set_option maxRecDepth 100000 in
set_option maxHeartbeats 400000 in
theorem q_looks (G : ssG) (h : ssH) {ad : Nat → Nat} {rv : Value} {m : Nat → Int} {ζ ρ : Nat → Nat → Nat}  (hA : ∀ k l, ad k = ad l → k = l) (ht : MT h ad rv m ζ ρ) (hz : SaOk ζ) (hd9 : 1 ≤ ζ 9 0) : ssC G mX10_looks 8 0 0 [.ref (ad 200)] h (fun r h' => r = some (.int (zI (mLk ζ (ζ 6 0)).1)) ∧ ∃ m' ρ', MQs h ad rv m ζ ρ h' m' ρ' ∧ m' 24 = (mLk ζ (ζ 6 0)).2) := by
  refine c_of_v okX10_looks (by decide +kernel) (ls := [some (.ref (ad 200)), none, none, none]) rfl (Nat.le_of_ble_eq_true rfl) ?_
  obtain ⟨z0, z1, z2, z3, z4, z5, z6, z9, z12, z13, z14, z15, z16, z17, z18, z19, z20⟩ := id hz
  refine v_run 2 (pc' := 2) (ls' := [some (.ref (ad 200)), none, none, none]) (st' := [.int (zI (-1)), .ref (ad 200)]) rfl ?_
  refine v_callV (My := mX10_fitting) (As := [.int (zI (-1))]) (rest := []) (mc := 0) (ms := 0) rfl caX10_fitting rfl rfl rfl ht.1.1 rfl rfl (q_fitting G _ (-1) hA ht hz hd9 (by decide)) rfl rfl (Nat.le_of_ble_eq_true rfl) (by omega) ?_
  rintro _ h1 ⟨rfl, mm, rr, hq, hm22, hw7⟩
  refine v_run 0 (pc' := 5) (ls' := [some (.ref (ad 200)), none, none, none]) (st' := [.int (zI (mNth ζ (-1) 42))]) rfl ?_
  refine v_run 5 (pc' := 12) (ls' := [some (.ref (ad 200)), some (.int (zI (-2))), none, none]) (st' := [.int (zI (-2)), .ref (ad 200)]) rfl ?_
  refine v_put rfl hq.1.1.1 rfl rfl (Nat.le_of_ble_eq_true rfl) ?_
  generalize e2 : hset h1 (ad 200) _ = h2
  have hq2 : MQs h ad rv m ζ ρ h2 (mU mm 24 (-2)) rr := ⟨hq.1.ob hA e2, ⟨hq.2.1.1, hq.2.1.2.1, hq.2.1.2.2.1, hq.2.1.2.2.2.1, hq.2.1.2.2.2.2.1, hq.2.1.2.2.2.2.2.1, hq.2.1.2.2.2.2.2.2⟩, hq.2.2.1, hq.2.2.2.ob e2⟩
  refine v_run 2 (pc' := 17) (ls' := [some (.ref (ad 200)), some (.int (zI (-2))), some (.int (zI 0)), none]) (st' := []) rfl ?_
  have lp : ∀ (n a : Nat) (hh : ssH), (a ≤ ζ 6 0 ∧ MQs h ad rv m ζ ρ hh (mU mm 24 (mLk ζ a).2) rr) → ζ 6 0 + 1 ≤ a + n → ssV G mX10_looks 8 0 0 (fun r h' => r = some (.int (zI (mLk ζ (ζ 6 0)).1)) ∧ ∃ m' ρ', MQs h ad rv m ζ ρ h' m' ρ' ∧ m' 24 = (mLk ζ (ζ 6 0)).2) 17 [some (.ref (ad 200)), some (.int (zI (mLk ζ a).1)), some (.int (zI ↑a)), none] [] hh := by
    intro n
    induction n with
    | zero => intro a hh hs1 hs2; exact absurd hs2 (by omega)
    | succ n ih =>
      intro a hh hs1 hs2
      have cl := mFc_le ζ 42
      have lb := mLk_bd ζ a
      refine v_run 2 (pc' := 19) (ls' := [some (.ref (ad 200)), some (.int (zI (mLk ζ a).1)), some (.int (zI ↑a)), none]) (st' := [.ref (ad 200), .int (zI ↑a)]) rfl ?_
      refine v_get rfl hs1.2.1.1.1 rfl ?_
      refine v_run 0 (pc' := 22) (ls' := [some (.ref (ad 200)), some (.int (zI (mLk ζ a).1)), some (.int (zI ↑a)), none]) (st' := [.ref (ad 210), .int (zI ↑a)]) rfl ?_
      refine v_get rfl hs1.2.1.1.2.1.1 rfl ?_
      refine v_run 0 (pc' := 25) (ls' := [some (.ref (ad 200)), some (.int (zI (mLk ζ a).1)), some (.int (zI ↑a)), none]) (st' := [.int (zI ↑(ζ 6 0)), .int (zI ↑a)]) rfl ?_
      refine v_icmp_ge rfl (fun c25 => ?_) (fun c25 => ?_)
      · simp (disch := omega) only [zI_lt, zI_le, zI_eq, zI_lt0, zI_le0, zI_0lt, zI_0le, zI_eq0] at c25
        refine v_run 1 (pc' := 107) (ls' := [some (.ref (ad 200)), some (.int (zI (mLk ζ a).1)), some (.int (zI ↑a)), none]) (st' := [.int (zI (mLk ζ a).1)]) rfl ?_
        exact v_iret rfl rfl rfl (by rw [← show a = ζ 6 0 by omega]; exact ⟨rfl, _, rr, hs1.2, rfl⟩)
      · simp (disch := omega) only [zI_lt, zI_le, zI_eq, zI_lt0, zI_le0, zI_0lt, zI_0le, zI_eq0] at c25
        have wa := hw7 a (by omega)
        have wl := mWn_le ζ a 42
        refine v_run 1 (pc' := 29) (ls' := [some (.ref (ad 200)), some (.int (zI (mLk ζ a).1)), some (.int (zI ↑a)), none]) (st' := [.ref (ad 200)]) rfl ?_
        refine v_get rfl hs1.2.1.1.1 rfl ?_
        refine v_run 0 (pc' := 32) (ls' := [some (.ref (ad 200)), some (.int (zI (mLk ζ a).1)), some (.int (zI ↑a)), none]) (st' := [.int (zI ((mU mm 24 (mLk ζ a).2) 22))]) rfl ?_
        rw [show (zI ((mU mm 24 (mLk ζ a).2) 22) : Int32) = zI ↑(mFc ζ 42) from by rw [show (mU mm 24 (mLk ζ a).2) 22 = mm 22 from rfl, hm22]]
        refine v_if_le rfl (fun c32 => ?_) (fun c32 => ?_)
        · simp (disch := omega) only [zI_lt, zI_le, zI_eq, zI_lt0, zI_le0, zI_0lt, zI_0le, zI_eq0] at c32
          refine v_run 1 (pc' := 107) (ls' := [some (.ref (ad 200)), some (.int (zI (mLk ζ a).1)), some (.int (zI ↑a)), none]) (st' := [.int (zI (mLk ζ a).1)]) rfl ?_
          exact v_iret rfl rfl rfl (by have e0 : mFc ζ 42 = 0 := (by omega); rw [mLk_0 e0 (ζ 6 0), ← mLk_0 e0 a]; exact ⟨rfl, _, rr, hs1.2, rfl⟩)
        · simp (disch := omega) only [zI_lt, zI_le, zI_eq, zI_lt0, zI_le0, zI_0lt, zI_0le, zI_eq0] at c32
          refine v_run 1 (pc' := 36) (ls' := [some (.ref (ad 200)), some (.int (zI (mLk ζ a).1)), some (.int (zI ↑a)), none]) (st' := [.ref (ad 200)]) rfl ?_
          refine v_get rfl hs1.2.1.1.1 rfl ?_
          refine v_run 1 (pc' := 40) (ls' := [some (.ref (ad 200)), some (.int (zI (mLk ζ a).1)), some (.int (zI ↑a)), none]) (st' := [.int (zI ↑a), .ref (ad 207)]) rfl ?_
          refine v_iaload' rfl hs1.2.1.2.2.2.2.2.2.1 (i := a) rfl (by omega) ?_
          refine v_run 1 (pc' := 42) (ls' := [some (.ref (ad 200)), some (.int (zI (mLk ζ a).1)), some (.int (zI ↑a)), none]) (st' := [.ref (ad 200), .int (zI ↑(rr 7 a))]) rfl ?_
          refine v_get rfl hs1.2.1.1.1 rfl ?_
          refine v_run 1 (pc' := 46) (ls' := [some (.ref (ad 200)), some (.int (zI (mLk ζ a).1)), some (.int (zI ↑a)), none]) (st' := [.ref (ad 200), .int (zI ((mU mm 24 (mLk ζ a).2) 22)), .int (zI ↑(rr 7 a))]) rfl ?_
          refine v_get rfl hs1.2.1.1.1 rfl ?_
          refine v_run 1 (pc' := 50) (ls' := [some (.ref (ad 200)), some (.int (zI (mLk ζ a).1)), some (.int (zI ↑a)), none]) (st' := [.int (zI ↑a), .ref (ad 207), .int (zI ((mU mm 24 (mLk ζ a).2) 22)), .int (zI ↑(rr 7 a))]) rfl ?_
          refine v_iaload' rfl hs1.2.1.2.2.2.2.2.2.1 (i := a) rfl (by omega) ?_
          refine v_run 1 (pc' := 52) (ls' := [some (.ref (ad 200)), some (.int (zI (mLk ζ a).1)), some (.int (zI ↑a)), none]) (st' := [.int ((zI ((mU mm 24 (mLk ζ a).2) 22)) - (zI ↑(rr 7 a))), .int (zI ↑(rr 7 a))]) rfl ?_
          rw [show (zI ↑(rr 7 a) : Int32) = zI ↑(mWn ζ a 42) from congrArg (fun n : Nat => zI ↑n) (wa)]
          rw [show (zI ((mU mm 24 (mLk ζ a).2) 22) : Int32) = zI ↑(mFc ζ 42) from by rw [show (mU mm 24 (mLk ζ a).2) 22 = mm 22 from rfl, hm22]]
          rw [show ((zI ↑(mFc ζ 42)) - (zI ↑(mWn ζ a 42)) : Int32) = zI ↑(mFc ζ 42 - mWn ζ a 42) from zN_sub (by omega)]
          refine v_icmp_le rfl (fun c52 => ?_) (fun c52 => ?_)
          · simp (disch := omega) only [zI_lt, zI_le, zI_eq, zI_lt0, zI_le0, zI_0lt, zI_0le, zI_eq0] at c52
            refine v_run 1 (pc' := 65) (ls' := [some (.ref (ad 200)), some (.int (zI (mLk ζ a).1)), some (.int (zI ↑a)), none]) (st' := [.ref (ad 200)]) rfl ?_
            refine v_get rfl hs1.2.1.1.1 rfl ?_
            refine v_run 1 (pc' := 69) (ls' := [some (.ref (ad 200)), some (.int (zI (mLk ζ a).1)), some (.int (zI ↑a)), none]) (st' := [.ref (ad 200), .int (zI ((mU mm 24 (mLk ζ a).2) 22))]) rfl ?_
            refine v_get rfl hs1.2.1.1.1 rfl ?_
            refine v_run 1 (pc' := 73) (ls' := [some (.ref (ad 200)), some (.int (zI (mLk ζ a).1)), some (.int (zI ↑a)), none]) (st' := [.int (zI ↑a), .ref (ad 207), .int (zI ((mU mm 24 (mLk ζ a).2) 22))]) rfl ?_
            refine v_iaload' rfl hs1.2.1.2.2.2.2.2.2.1 (i := a) rfl (by omega) ?_
            refine v_run 1 (pc' := 75) (ls' := [some (.ref (ad 200)), some (.int (zI (mLk ζ a).1)), some (.int (zI ↑a)), none]) (st' := [.int ((zI ((mU mm 24 (mLk ζ a).2) 22)) - (zI ↑(rr 7 a)))]) rfl ?_
            rw [show (zI ↑(rr 7 a) : Int32) = zI ↑(mWn ζ a 42) from congrArg (fun n : Nat => zI ↑n) (wa)]
            rw [show (zI ((mU mm 24 (mLk ζ a).2) 22) : Int32) = zI ↑(mFc ζ 42) from by rw [show (mU mm 24 (mLk ζ a).2) 22 = mm 22 from rfl, hm22]]
            rw [show ((zI ↑(mFc ζ 42)) - (zI ↑(mWn ζ a 42)) : Int32) = zI ↑(mFc ζ 42 - mWn ζ a 42) from zN_sub (by omega)]
            rw [show ((zI ↑(mFc ζ 42 - mWn ζ a 42)) : Int32) = zI ↑(max (mWn ζ a 42) (mFc ζ 42 - mWn ζ a 42)) from by congr 2; omega]
            refine v_run 3 (pc' := 79) (ls' := [some (.ref (ad 200)), some (.int (zI (mLk ζ a).1)), some (.int (zI ↑a)), some (.int (zI ↑(max (mWn ζ a 42) (mFc ζ 42 - mWn ζ a 42))))]) (st' := [.int (zI (-2)), .int (zI (mLk ζ a).1)]) rfl ?_
            refine v_icmp_eq rfl (fun c79 => ?_) (fun c79 => ?_)
            · simp (disch := omega) only [zI_lt, zI_le, zI_eq, zI_lt0, zI_le0, zI_0lt, zI_0le, zI_eq0] at c79
              refine v_run 4 (pc' := 97) (ls' := [some (.ref (ad 200)), some (.int (zI ↑a)), some (.int (zI ↑a)), some (.int (zI ↑(max (mWn ζ a 42) (mFc ζ 42 - mWn ζ a 42))))]) (st' := [.int (zI ↑(max (mWn ζ a 42) (mFc ζ 42 - mWn ζ a 42))), .ref (ad 200)]) rfl ?_
              refine v_put rfl hs1.2.1.1.1 rfl rfl (Nat.le_of_ble_eq_true rfl) ?_
              generalize e4 : hset hh (ad 200) _ = h4
              have el : mLk ζ (a + 1) = (↑a, ↑(max (mWn ζ a 42) (mFc ζ 42 - mWn ζ a 42))) := by simp only [mLk]; rw [if_neg (by omega)]
              have hq4 : MQs h ad rv m ζ ρ h4 (mU mm 24 (mLk ζ (a + 1)).2) rr := ⟨hs1.2.1.ob hA (by rw [el]; exact e4), hs1.2.2.1, hs1.2.2.2.1, hs1.2.2.2.2.ob e4⟩
              refine v_run 2 (pc' := 17) (ls' := [some (.ref (ad 200)), some (.int (zI ↑a)), some (.int ((zI ↑a) + zI 1)), some (.int (zI ↑(max (mWn ζ a 42) (mFc ζ 42 - mWn ζ a 42))))]) (st' := []) rfl ?_
              refine v_drop 3 (ls' := [some (.ref (ad 200)), some (.int (zI ↑a)), some (.int ((zI ↑a) + zI 1)), none]) rfl ?_
              refine v_run 0 (pc' := 17) (ls' := [some (.ref (ad 200)), some (.int (zI (mLk ζ (a + 1)).1)), some (.int (zI ↑(a + 1))), none]) (st' := []) (by rw [el, ← zI_s1]; rfl) ?_
              exact ih (a + 1) h4 ⟨by omega, hq4⟩ (by omega)
            · simp (disch := omega) only [zI_lt, zI_le, zI_eq, zI_lt0, zI_le0, zI_0lt, zI_0le, zI_eq0] at c79
              refine v_run 2 (pc' := 84) (ls' := [some (.ref (ad 200)), some (.int (zI (mLk ζ a).1)), some (.int (zI ↑a)), some (.int (zI ↑(max (mWn ζ a 42) (mFc ζ 42 - mWn ζ a 42))))]) (st' := [.ref (ad 200), .int (zI ↑(max (mWn ζ a 42) (mFc ζ 42 - mWn ζ a 42)))]) rfl ?_
              refine v_get rfl hs1.2.1.1.1 rfl ?_
              refine v_run 0 (pc' := 87) (ls' := [some (.ref (ad 200)), some (.int (zI (mLk ζ a).1)), some (.int (zI ↑a)), some (.int (zI ↑(max (mWn ζ a 42) (mFc ζ 42 - mWn ζ a 42))))]) (st' := [.int (zI ((mU mm 24 (mLk ζ a).2) 24)), .int (zI ↑(max (mWn ζ a 42) (mFc ζ 42 - mWn ζ a 42)))]) rfl ?_
              rw [show (zI ((mU mm 24 (mLk ζ a).2) 24) : Int32) = zI (mLk ζ a).2 from rfl]
              refine v_icmp_lt rfl (fun c87 => ?_) (fun c87 => ?_)
              · simp (disch := omega) only [zI_lt, zI_le, zI_eq, zI_lt0, zI_le0, zI_0lt, zI_0le, zI_eq0] at c87
                refine v_run 4 (pc' := 97) (ls' := [some (.ref (ad 200)), some (.int (zI ↑a)), some (.int (zI ↑a)), some (.int (zI ↑(max (mWn ζ a 42) (mFc ζ 42 - mWn ζ a 42))))]) (st' := [.int (zI ↑(max (mWn ζ a 42) (mFc ζ 42 - mWn ζ a 42))), .ref (ad 200)]) rfl ?_
                refine v_put rfl hs1.2.1.1.1 rfl rfl (Nat.le_of_ble_eq_true rfl) ?_
                generalize e4 : hset hh (ad 200) _ = h4
                have el : mLk ζ (a + 1) = (↑a, ↑(max (mWn ζ a 42) (mFc ζ 42 - mWn ζ a 42))) := by simp only [mLk]; rw [if_neg (by omega)]
                have hq4 : MQs h ad rv m ζ ρ h4 (mU mm 24 (mLk ζ (a + 1)).2) rr := ⟨hs1.2.1.ob hA (by rw [el]; exact e4), hs1.2.2.1, hs1.2.2.2.1, hs1.2.2.2.2.ob e4⟩
                refine v_run 2 (pc' := 17) (ls' := [some (.ref (ad 200)), some (.int (zI ↑a)), some (.int ((zI ↑a) + zI 1)), some (.int (zI ↑(max (mWn ζ a 42) (mFc ζ 42 - mWn ζ a 42))))]) (st' := []) rfl ?_
                refine v_drop 3 (ls' := [some (.ref (ad 200)), some (.int (zI ↑a)), some (.int ((zI ↑a) + zI 1)), none]) rfl ?_
                refine v_run 0 (pc' := 17) (ls' := [some (.ref (ad 200)), some (.int (zI (mLk ζ (a + 1)).1)), some (.int (zI ↑(a + 1))), none]) (st' := []) (by rw [el, ← zI_s1]; rfl) ?_
                exact ih (a + 1) h4 ⟨by omega, hq4⟩ (by omega)
              · simp (disch := omega) only [zI_lt, zI_le, zI_eq, zI_lt0, zI_le0, zI_0lt, zI_0le, zI_eq0] at c87
                refine v_run 3 (pc' := 17) (ls' := [some (.ref (ad 200)), some (.int (zI (mLk ζ a).1)), some (.int ((zI ↑a) + zI 1)), some (.int (zI ↑(max (mWn ζ a 42) (mFc ζ 42 - mWn ζ a 42))))]) (st' := []) rfl ?_
                refine v_drop 3 (ls' := [some (.ref (ad 200)), some (.int (zI (mLk ζ a).1)), some (.int ((zI ↑a) + zI 1)), none]) rfl ?_
                have el : mLk ζ (a + 1) = mLk ζ a := by simp only [mLk]; rw [if_pos (by omega)]
                rw [zI_s1, ← el]
                exact ih (a + 1) hh ⟨by omega, by rw [el]; exact hs1.2⟩ (by omega)
          · simp (disch := omega) only [zI_lt, zI_le, zI_eq, zI_lt0, zI_le0, zI_0lt, zI_0le, zI_eq0] at c52
            refine v_run 1 (pc' := 56) (ls' := [some (.ref (ad 200)), some (.int (zI (mLk ζ a).1)), some (.int (zI ↑a)), none]) (st' := [.ref (ad 200)]) rfl ?_
            refine v_get rfl hs1.2.1.1.1 rfl ?_
            refine v_run 1 (pc' := 60) (ls' := [some (.ref (ad 200)), some (.int (zI (mLk ζ a).1)), some (.int (zI ↑a)), none]) (st' := [.int (zI ↑a), .ref (ad 207)]) rfl ?_
            refine v_iaload' rfl hs1.2.1.2.2.2.2.2.2.1 (i := a) rfl (by omega) ?_
            refine v_run 1 (pc' := 75) (ls' := [some (.ref (ad 200)), some (.int (zI (mLk ζ a).1)), some (.int (zI ↑a)), none]) (st' := [.int (zI ↑(rr 7 a))]) rfl ?_
            rw [show (zI ↑(rr 7 a) : Int32) = zI ↑(mWn ζ a 42) from congrArg (fun n : Nat => zI ↑n) (wa)]
            rw [show ((zI ↑(mWn ζ a 42)) : Int32) = zI ↑(max (mWn ζ a 42) (mFc ζ 42 - mWn ζ a 42)) from by congr 2; omega]
            refine v_run 3 (pc' := 79) (ls' := [some (.ref (ad 200)), some (.int (zI (mLk ζ a).1)), some (.int (zI ↑a)), some (.int (zI ↑(max (mWn ζ a 42) (mFc ζ 42 - mWn ζ a 42))))]) (st' := [.int (zI (-2)), .int (zI (mLk ζ a).1)]) rfl ?_
            refine v_icmp_eq rfl (fun c79 => ?_) (fun c79 => ?_)
            · simp (disch := omega) only [zI_lt, zI_le, zI_eq, zI_lt0, zI_le0, zI_0lt, zI_0le, zI_eq0] at c79
              refine v_run 4 (pc' := 97) (ls' := [some (.ref (ad 200)), some (.int (zI ↑a)), some (.int (zI ↑a)), some (.int (zI ↑(max (mWn ζ a 42) (mFc ζ 42 - mWn ζ a 42))))]) (st' := [.int (zI ↑(max (mWn ζ a 42) (mFc ζ 42 - mWn ζ a 42))), .ref (ad 200)]) rfl ?_
              refine v_put rfl hs1.2.1.1.1 rfl rfl (Nat.le_of_ble_eq_true rfl) ?_
              generalize e4 : hset hh (ad 200) _ = h4
              have el : mLk ζ (a + 1) = (↑a, ↑(max (mWn ζ a 42) (mFc ζ 42 - mWn ζ a 42))) := by simp only [mLk]; rw [if_neg (by omega)]
              have hq4 : MQs h ad rv m ζ ρ h4 (mU mm 24 (mLk ζ (a + 1)).2) rr := ⟨hs1.2.1.ob hA (by rw [el]; exact e4), hs1.2.2.1, hs1.2.2.2.1, hs1.2.2.2.2.ob e4⟩
              refine v_run 2 (pc' := 17) (ls' := [some (.ref (ad 200)), some (.int (zI ↑a)), some (.int ((zI ↑a) + zI 1)), some (.int (zI ↑(max (mWn ζ a 42) (mFc ζ 42 - mWn ζ a 42))))]) (st' := []) rfl ?_
              refine v_drop 3 (ls' := [some (.ref (ad 200)), some (.int (zI ↑a)), some (.int ((zI ↑a) + zI 1)), none]) rfl ?_
              refine v_run 0 (pc' := 17) (ls' := [some (.ref (ad 200)), some (.int (zI (mLk ζ (a + 1)).1)), some (.int (zI ↑(a + 1))), none]) (st' := []) (by rw [el, ← zI_s1]; rfl) ?_
              exact ih (a + 1) h4 ⟨by omega, hq4⟩ (by omega)
            · simp (disch := omega) only [zI_lt, zI_le, zI_eq, zI_lt0, zI_le0, zI_0lt, zI_0le, zI_eq0] at c79
              refine v_run 2 (pc' := 84) (ls' := [some (.ref (ad 200)), some (.int (zI (mLk ζ a).1)), some (.int (zI ↑a)), some (.int (zI ↑(max (mWn ζ a 42) (mFc ζ 42 - mWn ζ a 42))))]) (st' := [.ref (ad 200), .int (zI ↑(max (mWn ζ a 42) (mFc ζ 42 - mWn ζ a 42)))]) rfl ?_
              refine v_get rfl hs1.2.1.1.1 rfl ?_
              refine v_run 0 (pc' := 87) (ls' := [some (.ref (ad 200)), some (.int (zI (mLk ζ a).1)), some (.int (zI ↑a)), some (.int (zI ↑(max (mWn ζ a 42) (mFc ζ 42 - mWn ζ a 42))))]) (st' := [.int (zI ((mU mm 24 (mLk ζ a).2) 24)), .int (zI ↑(max (mWn ζ a 42) (mFc ζ 42 - mWn ζ a 42)))]) rfl ?_
              rw [show (zI ((mU mm 24 (mLk ζ a).2) 24) : Int32) = zI (mLk ζ a).2 from rfl]
              refine v_icmp_lt rfl (fun c87 => ?_) (fun c87 => ?_)
              · simp (disch := omega) only [zI_lt, zI_le, zI_eq, zI_lt0, zI_le0, zI_0lt, zI_0le, zI_eq0] at c87
                refine v_run 4 (pc' := 97) (ls' := [some (.ref (ad 200)), some (.int (zI ↑a)), some (.int (zI ↑a)), some (.int (zI ↑(max (mWn ζ a 42) (mFc ζ 42 - mWn ζ a 42))))]) (st' := [.int (zI ↑(max (mWn ζ a 42) (mFc ζ 42 - mWn ζ a 42))), .ref (ad 200)]) rfl ?_
                refine v_put rfl hs1.2.1.1.1 rfl rfl (Nat.le_of_ble_eq_true rfl) ?_
                generalize e4 : hset hh (ad 200) _ = h4
                have el : mLk ζ (a + 1) = (↑a, ↑(max (mWn ζ a 42) (mFc ζ 42 - mWn ζ a 42))) := by simp only [mLk]; rw [if_neg (by omega)]
                have hq4 : MQs h ad rv m ζ ρ h4 (mU mm 24 (mLk ζ (a + 1)).2) rr := ⟨hs1.2.1.ob hA (by rw [el]; exact e4), hs1.2.2.1, hs1.2.2.2.1, hs1.2.2.2.2.ob e4⟩
                refine v_run 2 (pc' := 17) (ls' := [some (.ref (ad 200)), some (.int (zI ↑a)), some (.int ((zI ↑a) + zI 1)), some (.int (zI ↑(max (mWn ζ a 42) (mFc ζ 42 - mWn ζ a 42))))]) (st' := []) rfl ?_
                refine v_drop 3 (ls' := [some (.ref (ad 200)), some (.int (zI ↑a)), some (.int ((zI ↑a) + zI 1)), none]) rfl ?_
                refine v_run 0 (pc' := 17) (ls' := [some (.ref (ad 200)), some (.int (zI (mLk ζ (a + 1)).1)), some (.int (zI ↑(a + 1))), none]) (st' := []) (by rw [el, ← zI_s1]; rfl) ?_
                exact ih (a + 1) h4 ⟨by omega, hq4⟩ (by omega)
              · simp (disch := omega) only [zI_lt, zI_le, zI_eq, zI_lt0, zI_le0, zI_0lt, zI_0le, zI_eq0] at c87
                refine v_run 3 (pc' := 17) (ls' := [some (.ref (ad 200)), some (.int (zI (mLk ζ a).1)), some (.int ((zI ↑a) + zI 1)), some (.int (zI ↑(max (mWn ζ a 42) (mFc ζ 42 - mWn ζ a 42))))]) (st' := []) rfl ?_
                refine v_drop 3 (ls' := [some (.ref (ad 200)), some (.int (zI (mLk ζ a).1)), some (.int ((zI ↑a) + zI 1)), none]) rfl ?_
                have el : mLk ζ (a + 1) = mLk ζ a := by simp only [mLk]; rw [if_pos (by omega)]
                rw [zI_s1, ← el]
                exact ih (a + 1) hh ⟨by omega, by rw [el]; exact hs1.2⟩ (by omega)
  exact lp (ζ 6 0 + 1) 0 h2 ⟨by omega, hq2⟩ (by omega)

set_option maxRecDepth 100000 in
set_option maxHeartbeats 400000 in
theorem q_remembers (G : ssG) (h : ssH) {ad : Nat → Nat} {rv : Value} {m : Nat → Int} {ζ ρ : Nat → Nat → Nat} (c : Nat) (hA : ∀ k l, ad k = ad l → k = l) (ht : MT h ad rv m ζ ρ) (hz : SaOk ζ) (hc : m 19 = ↑c) (hc16 : c ≤ 16) : ssC G mX10_remembers 0 0 0 [.ref (ad 200)] h (fun r h' => r = none ∧ MT h' ad rv (mU m 19 (↑(min c 15) + 1)) ζ (rU ρ 4 (mRm ρ c)) ∧ frM ad h h') := by
  refine c_of_v okX10_remembers (by decide +kernel) (ls := [some (.ref (ad 200)), none]) rfl (Nat.le_of_ble_eq_true rfl) ?_
  obtain ⟨z0, z1, z2, z3, z4, z5, z6, z9, z12, z13, z14, z15, z16, z17, z18, z19, z20⟩ := id hz
  refine v_run 1 (pc' := 1) (ls' := [some (.ref (ad 200)), none]) (st' := [.ref (ad 200)]) rfl ?_
  refine v_get rfl ht.1.1 rfl ?_
  refine v_run 1 (pc' := 6) (ls' := [some (.ref (ad 200)), none]) (st' := [.int (zI 16), .int (zI (m 19))]) rfl ?_
  rw [show (zI (m 19) : Int32) = zI ↑c from by rw [hc]]
  refine v_icmp_ne rfl (fun c6 => ?_) (fun c6 => ?_)
  · simp (disch := omega) only [zI_lt, zI_le, zI_eq, zI_lt0, zI_le0, zI_0lt, zI_0le, zI_eq0] at c6
    refine v_run 2 (pc' := 51) (ls' := [some (.ref (ad 200)), some (.int (zI 0))]) (st' := []) rfl ?_
    have lr : ∀ (n2 u : Nat), u ≤ 26 → 26 + 1 ≤ u + n2 → ssV G mX10_remembers 0 0 0 (fun r h' => r = none ∧ MT h' ad rv (mU m 19 (↑(min c 15) + 1)) ζ (rU ρ 4 (mRm ρ c)) ∧ frM ad h h') 51 [some (.ref (ad 200)), some (.int (zI ↑u))] [] (hset h (ad 204) (ar 416 (mRe (ρ 4) (ρ 2) c u))) := by
      intro n2
      induction n2 with
      | zero => intro u hi1 hi2; exact absurd hi2 (by omega)
      | succ n2 ih3 =>
        intro u hi1 hi2
        refine v_run 2 (pc' := 54) (ls' := [some (.ref (ad 200)), some (.int (zI ↑u))]) (st' := [.int (zI 26), .int (zI ↑u)]) rfl ?_
        refine v_icmp_ge rfl (fun c54 => ?_) (fun c54 => ?_)
        · simp (disch := omega) only [zI_lt, zI_le, zI_eq, zI_lt0, zI_le0, zI_0lt, zI_0le, zI_eq0] at c54
          refine v_run 2 (pc' := 85) (ls' := [some (.ref (ad 200)), some (.int (zI ↑u))]) (st' := [.ref (ad 200), .ref (ad 200)]) rfl ?_
          refine v_get rfl ((hset_ne _ _ (ad_ne hA (by decide))).trans ht.1.1) rfl ?_
          refine v_run 2 (pc' := 90) (ls' := [some (.ref (ad 200)), some (.int (zI ↑u))]) (st' := [.int ((zI (m 19)) + (zI 1)), .ref (ad 200)]) rfl ?_
          rw [show (zI (m 19) : Int32) = zI ↑(c) from by rw [hc]]
          rw [show ((zI ↑(c)) + (zI 1) : Int32) = zI ↑(c + 1) from zI_s1 _]
          refine v_put rfl ((hset_ne _ _ (ad_ne hA (by decide))).trans ht.1.1) rfl rfl (Nat.le_of_ble_eq_true rfl) ?_
          have u26 : u = 26 := by omega
          generalize e7 : hset h (ad 204) _ = h7
          generalize e8 : hset h7 (ad 200) _ = h8
          have t7 := ht.p4 hA e7
          have t8 : MT h8 ad rv (mU m 19 ↑(c + 1)) ζ _ := t7.ob hA e8
          refine v_run 0 (pc' := 93) (ls' := [some (.ref (ad 200)), some (.int (zI ↑u))]) (st' := []) rfl ?_
          exact v_vret rfl rfl ⟨rfl, by rw [show (↑(min c 15) + 1 : Int) = ↑(c + 1) by omega, mRm, if_neg (by omega), ← u26]; exact t8, ((frM.rf ad h).k e7 (by decide)).ob e8⟩
        · simp (disch := omega) only [zI_lt, zI_le, zI_eq, zI_lt0, zI_le0, zI_0lt, zI_0le, zI_eq0] at c54
          refine v_run 1 (pc' := 58) (ls' := [some (.ref (ad 200)), some (.int (zI ↑u))]) (st' := [.ref (ad 200)]) rfl ?_
          refine v_get rfl ((hset_ne _ _ (ad_ne hA (by decide))).trans ht.1.1) rfl ?_
          refine v_run 2 (pc' := 64) (ls' := [some (.ref (ad 200)), some (.int (zI ↑u))]) (st' := [.ref (ad 200), .int (zI 26), .ref (ad 204)]) rfl ?_
          refine v_get rfl ((hset_ne _ _ (ad_ne hA (by decide))).trans ht.1.1) rfl ?_
          refine v_run 0 (pc' := 67) (ls' := [some (.ref (ad 200)), some (.int (zI ↑u))]) (st' := [.int (zI (m 19)), .int (zI 26), .ref (ad 204)]) rfl ?_
          rw [show (zI (m 19) : Int32) = zI ↑(c) from by rw [hc]]
          refine v_run 3 (pc' := 70) (ls' := [some (.ref (ad 200)), some (.int (zI ↑u))]) (st' := [.int (((zI 26) * (zI ↑(c))) + (zI ↑u)), .ref (ad 204)]) rfl ?_
          rw [show (((zI 26) * (zI ↑(c))) + (zI ↑u) : Int32) = zI ↑(26 * c + u) from by rw [show (zI 26) = zI ((26 : Nat) : Int) from rfl, zN_mul, zN_add]]
          refine v_run 1 (pc' := 71) (ls' := [some (.ref (ad 200)), some (.int (zI ↑u))]) (st' := [.ref (ad 200), .int (zI ↑(26 * c + u)), .ref (ad 204)]) rfl ?_
          refine v_get rfl ((hset_ne _ _ (ad_ne hA (by decide))).trans ht.1.1) rfl ?_
          refine v_run 1 (pc' := 75) (ls' := [some (.ref (ad 200)), some (.int (zI ↑u))]) (st' := [.int (zI ↑u), .ref (ad 202), .int (zI ↑(26 * c + u)), .ref (ad 204)]) rfl ?_
          refine v_iaload' rfl ((hset_ne _ _ (ad_ne hA (by decide))).trans ht.2.2.1) (i := u) rfl (by omega) ?_
          refine v_run 0 (pc' := 76) (ls' := [some (.ref (ad 200)), some (.int (zI ↑u))]) (st' := [.int (zI ↑(ρ 2 u)), .int (zI ↑(26 * c + u)), .ref (ad 204)]) rfl ?_
          refine v_iastore' rfl (hset_self _ _ _) (i := (26 * c + u)) rfl (by omega) ?_
          rw [ar_upd, hset_hset, mRe_s (ρ 4) (ρ 2) c u]
          refine v_run 2 (pc' := 51) (ls' := [some (.ref (ad 200)), some (.int ((zI ↑u) + zI 1))]) (st' := []) rfl ?_
          rw [zI_s1]
          exact ih3 (u + 1) (by omega) (by omega)
    have lz := lr 27 0 (by omega) (by omega)
    rw [mRe_0, hset_same h (a := ad 204) (e := ar 416 (ρ 4)) ht.2.2.2.1] at lz
    exact lz
  · simp (disch := omega) only [zI_lt, zI_le, zI_eq, zI_lt0, zI_le0, zI_0lt, zI_0le, zI_eq0] at c6
    have e16 : c = 16 := by omega
    refine v_run 2 (pc' := 11) (ls' := [some (.ref (ad 200)), some (.int (zI 0))]) (st' := []) rfl ?_
    have lp : ∀ (n s : Nat), s ≤ 390 → 390 + 1 ≤ s + n → ssV G mX10_remembers 0 0 0 (fun r h' => r = none ∧ MT h' ad rv (mU m 19 (↑(min c 15) + 1)) ζ (rU ρ 4 (mRm ρ c)) ∧ frM ad h h') 11 [some (.ref (ad 200)), some (.int (zI ↑s))] [] (hset h (ad 204) (ar 416 (mSh (ρ 4) s))) := by
      intro n
      induction n with
      | zero => intro s hs1 hs2; exact absurd hs2 (by omega)
      | succ n ih =>
        intro s hs1 hs2
        refine v_run 2 (pc' := 15) (ls' := [some (.ref (ad 200)), some (.int (zI ↑s))]) (st' := [.int (zI 390), .int (zI ↑s)]) rfl ?_
        refine v_icmp_ge rfl (fun c15 => ?_) (fun c15 => ?_)
        · simp (disch := omega) only [zI_lt, zI_le, zI_eq, zI_lt0, zI_le0, zI_0lt, zI_0le, zI_eq0] at c15
          have s390 : s = 390 := by omega
          refine v_run 2 (pc' := 41) (ls' := [some (.ref (ad 200)), some (.int (zI ↑s))]) (st' := [.ref (ad 200), .ref (ad 200)]) rfl ?_
          refine v_get rfl ((hset_ne _ _ (ad_ne hA (by decide))).trans ht.1.1) rfl ?_
          refine v_run 0 (pc' := 44) (ls' := [some (.ref (ad 200)), some (.int (zI ↑s))]) (st' := [.int (zI (m 19)), .ref (ad 200)]) rfl ?_
          rw [show (zI (m 19) : Int32) = zI 16 from by rw [hc, e16]; rfl]
          refine v_run 2 (pc' := 46) (ls' := [some (.ref (ad 200)), some (.int (zI ↑s))]) (st' := [.int ((zI 16) - (zI 1)), .ref (ad 200)]) rfl ?_
          rw [show ((zI 16) - (zI 1) : Int32) = zI ↑(15 : Nat) from by decide +kernel]
          refine v_put rfl ((hset_ne _ _ (ad_ne hA (by decide))).trans ht.1.1) rfl rfl (Nat.le_of_ble_eq_true rfl) ?_
          generalize e5 : hset h (ad 204) (ar 416 (mSh (ρ 4) s)) = h5
          generalize e6 : hset h5 (ad 200) _ = h6
          have t5 := ht.p4 hA e5
          have t6 : MT h6 ad rv (mU m 19 ↑(15 : Nat)) ζ _ := t5.ob hA e6
          have f6 := ((frM.rf ad h).k e5 (by decide)).ob e6
          refine v_run 2 (pc' := 51) (ls' := [some (.ref (ad 200)), some (.int (zI 0))]) (st' := []) rfl ?_
          have lq : ∀ (n2 u : Nat), u ≤ 26 → 26 + 1 ≤ u + n2 → ssV G mX10_remembers 0 0 0 (fun r h' => r = none ∧ MT h' ad rv (mU m 19 (↑(min c 15) + 1)) ζ (rU ρ 4 (mRm ρ c)) ∧ frM ad h h') 51 [some (.ref (ad 200)), some (.int (zI ↑u))] [] (hset h6 (ad 204) (ar 416 (mRe (mSh (ρ 4) s) (ρ 2) (15 : Nat) u))) := by
            intro n2
            induction n2 with
            | zero => intro u hi1 hi2; exact absurd hi2 (by omega)
            | succ n2 ih2 =>
              intro u hi1 hi2
              refine v_run 2 (pc' := 54) (ls' := [some (.ref (ad 200)), some (.int (zI ↑u))]) (st' := [.int (zI 26), .int (zI ↑u)]) rfl ?_
              refine v_icmp_ge rfl (fun c54 => ?_) (fun c54 => ?_)
              · simp (disch := omega) only [zI_lt, zI_le, zI_eq, zI_lt0, zI_le0, zI_0lt, zI_0le, zI_eq0] at c54
                refine v_run 2 (pc' := 85) (ls' := [some (.ref (ad 200)), some (.int (zI ↑u))]) (st' := [.ref (ad 200), .ref (ad 200)]) rfl ?_
                refine v_get rfl ((hset_ne _ _ (ad_ne hA (by decide))).trans t6.1.1) rfl ?_
                refine v_run 2 (pc' := 90) (ls' := [some (.ref (ad 200)), some (.int (zI ↑u))]) (st' := [.int ((zI ((mU m 19 ↑(15 : Nat)) 19)) + (zI 1)), .ref (ad 200)]) rfl ?_
                rw [show (zI ((mU m 19 ↑(15 : Nat)) 19) : Int32) = zI ↑((15 : Nat)) from rfl]
                rw [show ((zI ↑((15 : Nat))) + (zI 1) : Int32) = zI ↑((15 : Nat) + 1) from zI_s1 _]
                refine v_put rfl ((hset_ne _ _ (ad_ne hA (by decide))).trans t6.1.1) rfl rfl (Nat.le_of_ble_eq_true rfl) ?_
                have u26 : u = 26 := by omega
                generalize e7 : hset h6 (ad 204) _ = h7
                generalize e8 : hset h7 (ad 200) _ = h8
                have t7 := t6.p4 hA e7
                have t8 : MT h8 ad rv (mU (mU m 19 ↑(15 : Nat)) 19 ↑((15 : Nat) + 1)) ζ _ := t7.ob hA e8
                refine v_run 0 (pc' := 93) (ls' := [some (.ref (ad 200)), some (.int (zI ↑u))]) (st' := []) rfl ?_
                exact v_vret rfl rfl ⟨rfl, by rw [rU_rU, mU_mU, s390, u26] at t8; rw [mRm, if_pos e16, e16]; exact t8, (f6.k e7 (by decide)).ob e8⟩
              · simp (disch := omega) only [zI_lt, zI_le, zI_eq, zI_lt0, zI_le0, zI_0lt, zI_0le, zI_eq0] at c54
                refine v_run 1 (pc' := 58) (ls' := [some (.ref (ad 200)), some (.int (zI ↑u))]) (st' := [.ref (ad 200)]) rfl ?_
                refine v_get rfl ((hset_ne _ _ (ad_ne hA (by decide))).trans t6.1.1) rfl ?_
                refine v_run 2 (pc' := 64) (ls' := [some (.ref (ad 200)), some (.int (zI ↑u))]) (st' := [.ref (ad 200), .int (zI 26), .ref (ad 204)]) rfl ?_
                refine v_get rfl ((hset_ne _ _ (ad_ne hA (by decide))).trans t6.1.1) rfl ?_
                refine v_run 0 (pc' := 67) (ls' := [some (.ref (ad 200)), some (.int (zI ↑u))]) (st' := [.int (zI ((mU m 19 ↑(15 : Nat)) 19)), .int (zI 26), .ref (ad 204)]) rfl ?_
                rw [show (zI ((mU m 19 ↑(15 : Nat)) 19) : Int32) = zI ↑((15 : Nat)) from rfl]
                refine v_run 3 (pc' := 70) (ls' := [some (.ref (ad 200)), some (.int (zI ↑u))]) (st' := [.int (((zI 26) * (zI ↑((15 : Nat)))) + (zI ↑u)), .ref (ad 204)]) rfl ?_
                rw [show (((zI 26) * (zI ↑((15 : Nat)))) + (zI ↑u) : Int32) = zI ↑(26 * (15 : Nat) + u) from by rw [show (zI 26) = zI ((26 : Nat) : Int) from rfl, zN_mul, zN_add]]
                refine v_run 1 (pc' := 71) (ls' := [some (.ref (ad 200)), some (.int (zI ↑u))]) (st' := [.ref (ad 200), .int (zI ↑(26 * (15 : Nat) + u)), .ref (ad 204)]) rfl ?_
                refine v_get rfl ((hset_ne _ _ (ad_ne hA (by decide))).trans t6.1.1) rfl ?_
                refine v_run 1 (pc' := 75) (ls' := [some (.ref (ad 200)), some (.int (zI ↑u))]) (st' := [.int (zI ↑u), .ref (ad 202), .int (zI ↑(26 * (15 : Nat) + u)), .ref (ad 204)]) rfl ?_
                refine v_iaload' rfl ((hset_ne _ _ (ad_ne hA (by decide))).trans t6.2.2.1) (i := u) rfl (by omega) ?_
                refine v_run 0 (pc' := 76) (ls' := [some (.ref (ad 200)), some (.int (zI ↑u))]) (st' := [.int (zI ↑(ρ 2 u)), .int (zI ↑(26 * (15 : Nat) + u)), .ref (ad 204)]) rfl ?_
                refine v_iastore' rfl (hset_self _ _ _) (i := (26 * (15 : Nat) + u)) rfl (by omega) ?_
                rw [ar_upd, hset_hset, mRe_s (mSh (ρ 4) s) (ρ 2) (15 : Nat) u]
                refine v_run 2 (pc' := 51) (ls' := [some (.ref (ad 200)), some (.int ((zI ↑u) + zI 1))]) (st' := []) rfl ?_
                rw [zI_s1]
                exact ih2 (u + 1) (by omega) (by omega)
          have lz := lq 27 0 (by omega) (by omega)
          rw [mRe_0, hset_same h6 (a := ad 204) (e := ar 416 (mSh (ρ 4) s)) t6.2.2.2.1] at lz
          exact lz
        · simp (disch := omega) only [zI_lt, zI_le, zI_eq, zI_lt0, zI_le0, zI_0lt, zI_0le, zI_eq0] at c15
          refine v_run 1 (pc' := 19) (ls' := [some (.ref (ad 200)), some (.int (zI ↑s))]) (st' := [.ref (ad 200)]) rfl ?_
          refine v_get rfl ((hset_ne _ _ (ad_ne hA (by decide))).trans ht.1.1) rfl ?_
          refine v_run 2 (pc' := 24) (ls' := [some (.ref (ad 200)), some (.int (zI ↑s))]) (st' := [.ref (ad 200), .int (zI ↑s), .ref (ad 204)]) rfl ?_
          refine v_get rfl ((hset_ne _ _ (ad_ne hA (by decide))).trans ht.1.1) rfl ?_
          refine v_run 3 (pc' := 31) (ls' := [some (.ref (ad 200)), some (.int (zI ↑s))]) (st' := [.int ((zI ↑s) + (zI 26)), .ref (ad 204), .int (zI ↑s), .ref (ad 204)]) rfl ?_
          rw [show ((zI ↑s) + (zI 26) : Int32) = zI ↑(s + 26) from zN_add s 26]
          refine v_iaload' rfl (hset_self _ _ _) (i := (s + 26)) rfl (by omega) ?_
          refine v_run 0 (pc' := 32) (ls' := [some (.ref (ad 200)), some (.int (zI ↑s))]) (st' := [.int (zI ↑((mSh (ρ 4) s) (s + 26))), .int (zI ↑s), .ref (ad 204)]) rfl ?_
          rw [show (zI ↑((mSh (ρ 4) s) (s + 26)) : Int32) = zI ↑(ρ 4 (s + 26)) from congrArg (fun n : Nat => zI ↑n) (mSh_r (ρ 4) s)]
          refine v_iastore' rfl (hset_self _ _ _) (i := s) rfl (by omega) ?_
          rw [ar_upd, hset_hset, mSh_s (ρ 4) s]
          refine v_run 2 (pc' := 11) (ls' := [some (.ref (ad 200)), some (.int ((zI ↑s) + zI 1))]) (st' := []) rfl ?_
          rw [zI_s1]
          exact ih (s + 1) (by omega) (by omega)
    have lz := lp 391 0 (by omega) (by omega)
    rw [mSh_0, hset_same h ht.2.2.2.1] at lz
    exact lz

