def mTo (ζ : Nat → Nat → Nat) (s : Nat) : Nat → Nat := fun k => if k < s then ζ 14 k else if 6 ≤ k ∧ k < 6 + s then ζ 13 (k - 6) else if 12 ≤ k ∧ k < 12 + s then ζ 15 (k - 12) else 0
def mTold (ζ : Nat → Nat → Nat) : Nat → Nat := fun k => if k = 24 then ζ 3 0 else mTo ζ (ζ 5 0) k
theorem mTo_0 (ζ : Nat → Nat → Nat) (X : Nat → Nat) (hx : ∀ k, 26 ≤ k → X k = 0) : (fun k => if k < 26 then 0 else X k) = mTo ζ 0 := by
  funext k
  by_cases hk : k < 26
  · simp only [mTo]; rw [if_pos hk, if_neg (by omega), if_neg (by omega), if_neg (by omega)]
  · simp only [mTo]; rw [if_neg hk, if_neg (by omega), if_neg (by omega), if_neg (by omega), hx k (by omega)]
theorem mTo_s (ζ : Nat → Nat → Nat) (s : Nat) (hs : s < 6) : (fun j => if j = 12 + s then ζ 15 s else (fun j => if j = 6 + s then ζ 13 s else (fun j => if j = s then ζ 14 s else mTo ζ s j) j) j) = mTo ζ (s + 1) := by
  funext j
  simp only [mTo]
  by_cases h1 : j = 12 + s
  · subst h1; rw [if_pos rfl, if_neg (by omega), if_neg (by omega), if_pos (by omega), show 12 + s - 12 = s by omega]
  by_cases h2 : j = 6 + s
  · subst h2; rw [if_neg h1, if_pos rfl, if_neg (by omega), if_pos (by omega), show 6 + s - 6 = s by omega]
  by_cases h3 : j = s
  · subst h3; simp [h1, h2]
  · simp only [h1, h2, h3, if_false]
    by_cases h4 : j < s
    · rw [if_pos h4, if_pos (by omega)]
    · rw [if_neg h4, if_neg (show ¬ j < s + 1 by omega)]
      by_cases h5 : 6 ≤ j ∧ j < 6 + s
      · rw [if_pos h5, if_pos (by omega)]
      · rw [if_neg h5, if_neg (show ¬ (6 ≤ j ∧ j < 6 + (s + 1)) by omega)]
        by_cases h6 : 12 ≤ j ∧ j < 12 + s
        · rw [if_pos h6, if_pos (by omega)]
        · rw [if_neg h6, if_neg (by omega)]
def mLs (ζ : Nat → Nat → Nat) (X : Nat → Nat) (s : Nat) : Nat := cLoss (ζ 1 0) (ζ 12 (X s)) (X (6 + s)) (X 23) 1
def mG (ζ : Nat → Nat → Nat) (X : Nat → Nat) : Nat := setN (fun s => decide (0 < X (12 + s))) (ζ 5 0)
theorem zI_or0 {a : Nat} (h : a < 2147483648) : zI (a : Int) ||| zI 0 = zI (a : Int) := by
  have := zI_lor (a := a) (b := 0) h (by decide)
  rw [Nat.or_zero] at this
  exact this
def mD1 (ζ : Nat → Nat → Nat) (X : Nat → Nat) (s : Nat) : Nat → Nat := fun k => if 18 ≤ k ∧ k < 18 + s ∧ ζ 17 (k - 18) = X 23 then mG ζ X else X k
def mD2 (ζ : Nat → Nat → Nat) (b : Bool) (X : Nat → Nat) (s : Nat) : Nat → Nat := fun k => if 12 ≤ k ∧ k < 12 + s then X k - (mLs ζ X (k - 12) + if b = true ∧ X (6 + (k - 12)) ≠ 1 then 3 else 0) else mD1 ζ X (ζ 6 0) k
def mD (ζ : Nat → Nat → Nat) (b : Bool) (X : Nat → Nat) : Nat → Nat := fun k => if k = 23 then X 23 + 1 else mD2 ζ b X (ζ 5 0) k
theorem mD1_0 (ζ : Nat → Nat → Nat) (X : Nat → Nat) : mD1 ζ X 0 = X := by funext k; simp only [mD1]; rw [if_neg (by omega)]
theorem mD2_0 (ζ : Nat → Nat → Nat) (b : Bool) (X : Nat → Nat) : mD2 ζ b X 0 = mD1 ζ X (ζ 6 0) := by funext k; simp only [mD2]; rw [if_neg (by omega)]
theorem mD1_23 (ζ : Nat → Nat → Nat) (X : Nat → Nat) (s : Nat) (hs : s ≤ 5) : mD1 ζ X s 23 = X 23 := by simp only [mD1]; rw [if_neg (by omega)]
theorem mD1_f (ζ : Nat → Nat → Nat) (X : Nat → Nat) (s : Nat) (h : ¬ ζ 17 s = X 23) : mD1 ζ X s = mD1 ζ X (s + 1) := by
  funext k
  simp only [mD1]
  by_cases h1 : k = 18 + s
  · subst h1; simp [h]
  · by_cases h2 : 18 ≤ k ∧ k < 18 + s ∧ ζ 17 (k - 18) = X 23
    · rw [if_pos h2, if_pos ⟨h2.1, by omega, h2.2.2⟩]
    · rw [if_neg h2, if_neg (fun q => h2 ⟨q.1, by omega, q.2.2⟩)]
theorem mD1_t (ζ : Nat → Nat → Nat) (X : Nat → Nat) (s : Nat) (h : ζ 17 s = X 23) : (fun j => if j = 18 + s then mG ζ X else mD1 ζ X s j) = mD1 ζ X (s + 1) := by
  funext k
  simp only [mD1]
  by_cases h1 : k = 18 + s
  · subst h1; simp [h]
  · simp only [h1, if_false]
    by_cases h2 : 18 ≤ k ∧ k < 18 + s ∧ ζ 17 (k - 18) = X 23
    · rw [if_pos h2, if_pos ⟨h2.1, by omega, h2.2.2⟩]
    · rw [if_neg h2, if_neg (fun q => h2 ⟨q.1, by omega, q.2.2⟩)]
theorem mD2_s (ζ : Nat → Nat → Nat) (b : Bool) (X : Nat → Nat) (s v : Nat) (hs : s < 6) (hv : v = X (12 + s) - (mLs ζ X s + if b = true ∧ X (6 + s) ≠ 1 then 3 else 0)) : (fun j => if j = 12 + s then v else mD2 ζ b X s j) = mD2 ζ b X (s + 1) := by
  funext k
  simp only [mD2]
  by_cases h1 : k = 12 + s
  · subst h1
    rw [if_pos rfl, if_pos (show 12 ≤ 12 + s ∧ 12 + s < 12 + (s + 1) by omega), show 12 + s - 12 = s by omega, hv]
  · rw [if_neg h1]
    by_cases h2 : 12 ≤ k ∧ k < 12 + s
    · rw [if_pos h2, if_pos (show 12 ≤ k ∧ k < 12 + (s + 1) by omega)]
    · rw [if_neg h2, if_neg (show ¬ (12 ≤ k ∧ k < 12 + (s + 1)) by omega)]
theorem mD2_l (ζ : Nat → Nat → Nat) (b : Bool) (X : Nat → Nat) (s : Nat) (hs : s < 6) : mD2 ζ b X s (12 + s) = X (12 + s) := by
  simp only [mD2, mD1]; rw [if_neg (by omega), if_neg (by omega)]
theorem mD2_k (ζ : Nat → Nat → Nat) (b : Bool) (X : Nat → Nat) (s : Nat) (h6 : ζ 6 0 ≤ 5) (hs : s < 6) : mD2 ζ b X s (6 + s) = X (6 + s) := by
  simp only [mD2, mD1]; rw [if_neg (by omega), if_neg (by omega)]
theorem mD2_23 (ζ : Nat → Nat → Nat) (b : Bool) (X : Nat → Nat) (s : Nat) (h6 : ζ 6 0 ≤ 5) (hs : s ≤ 6) : mD2 ζ b X s 23 = X 23 := by
  simp only [mD2, mD1]; rw [if_neg (by omega), if_neg (by omega)]
theorem mD2_lo (ζ : Nat → Nat → Nat) (b : Bool) (X : Nat → Nat) (s k : Nat) (hk : k < 12) : mD2 ζ b X s k = X k := by
  simp only [mD2, mD1]; rw [if_neg (by omega), if_neg (by omega)]
theorem mLs_2 (ζ : Nat → Nat → Nat) (b : Bool) (X : Nat → Nat) (s : Nat) (h6 : ζ 6 0 ≤ 5) (hs : s < 6) : mLs ζ (mD2 ζ b X s) s = mLs ζ X s := by
  unfold mLs
  rw [mD2_lo ζ b X s s (by omega), mD2_k ζ b X s h6 hs, mD2_23 ζ b X s h6 (by omega)]
theorem mLs_le {ζ : Nat → Nat → Nat} (hz : SaOk ζ) {X : Nat → Nat} (s : Nat) : mLs ζ X s ≤ 9 := by
  have h1 := hz.2.1
  unfold mLs cLoss
  split
  · split <;> omega
  · rw [Nat.one_mul]; split <;> omega
theorem mD2_ok {ζ : Nat → Nat → Nat} {b : Bool} {X : Nat → Nat} {s : Nat} (hx : XOk X) (z5 : ζ 5 0 ≤ 6) (z6 : ζ 6 0 ≤ 5) (q1 : mG ζ X < 64) (hs : s ≤ 6) : XOk (mD2 ζ b X s) := by
  obtain ⟨x0, x6, x12, x18, x24, x25, x26⟩ := hx
  refine ⟨fun k hk => ?_, fun k hk => ?_, fun k hk => ?_, fun k hk => ?_, ?_, ?_, fun k hk => ?_⟩
  · rw [mD2_lo _ _ _ _ _ (by omega)]; exact x0 k hk
  · rw [mD2_lo _ _ _ _ _ (by omega)]; exact x6 k hk
  · have := x12 k hk
    simp only [mD2, mD1]
    split
    · omega
    · rw [if_neg (by omega)]; exact this
  · have := x18 k hk
    simp only [mD2, mD1]
    rw [if_neg (by omega)]
    split
    · exact q1
    · exact this
  · simp only [mD2, mD1]; rw [if_neg (by omega), if_neg (by omega)]; exact x24
  · simp only [mD2, mD1]; rw [if_neg (by omega), if_neg (by omega)]; exact x25
  · simp only [mD2, mD1]; rw [if_neg (by omega), if_neg (by omega)]; exact x26 k hk
theorem mD_ok {ζ : Nat → Nat → Nat} {b : Bool} {X : Nat → Nat} (hz : SaOk ζ) (hx : XOk X) : XOk (mD ζ b X) := by
  obtain ⟨z0, z1, z2, z3, z4, z5, z6, -⟩ := id hz
  obtain ⟨x0, x6, x12, x18, x24, x25, x26⟩ := mD2_ok (b := b) (s := ζ 5 0) hx z5 z6 (setN_lt64 _ z5) z5
  have e : ∀ k, k ≠ 23 → mD ζ b X k = mD2 ζ b X (ζ 5 0) k := fun k hk => by simp [mD, hk]
  exact ⟨fun k hk => by rw [e k (by omega)]; exact x0 k hk, fun k hk => by rw [e _ (by omega)]; exact x6 k hk, fun k hk => by rw [e _ (by omega)]; exact x12 k hk, fun k hk => by rw [e _ (by omega)]; exact x18 k hk, by rw [e _ (by omega)]; exact x24, by rw [e _ (by omega)]; exact x25, fun k hk => by rw [e _ (by omega)]; exact x26 k hk⟩
set_option maxRecDepth 100000 in
set_option maxHeartbeats 400000 in
theorem q_asTold (G : ssG) (h : ssH) {ad : Nat → Nat} {rv : Value} {m : Nat → Int} {ζ : Nat → Nat → Nat} {X : Nat → Nat}  (hA : ∀ k l, ad k = ad l → k = l) (hm : MX h ad rv m ζ X) (hz : SaOk ζ) (hx : XOk X)  : ssC G mX10_asTold 0 0 0 [.ref (ad 200)] h (rV (hset h (ad 203) (ar 26 (mTold ζ)))) := by
  refine c_of_v okX10_asTold (by decide +kernel) (ls := [some (.ref (ad 200)), none]) rfl (Nat.le_of_ble_eq_true rfl) ?_
  obtain ⟨z0, z1, z2, z3, z4, z5, z6, z9, z12, z13, z14, z15, z16, z17, z18, z19, z20⟩ := id hz
  obtain ⟨x0, x6, x12, x18, x24, x25, x26⟩ := id hx
  refine v_run 2 (pc' := 2) (ls' := [some (.ref (ad 200)), some (.int (zI 0))]) (st' := []) rfl ?_
  have lp : ∀ (n s : Nat), s ≤ 26 → 26 + 1 ≤ s + n → ssV G mX10_asTold 0 0 0 (rV (hset h (ad 203) (ar 26 (mTold ζ)))) 2 [some (.ref (ad 200)), some (.int (zI ↑s))] [] (hset h (ad 203) (ar 26 (fun k => if k < s then 0 else X k))) := by
    intro n
    induction n with
    | zero => intro s hs1 hs2; exact absurd hs2 (by omega)
    | succ n ih =>
      intro s hs1 hs2
      refine v_run 2 (pc' := 5) (ls' := [some (.ref (ad 200)), some (.int (zI ↑s))]) (st' := [.int (zI 26), .int (zI ↑s)]) rfl ?_
      refine v_icmp_ge rfl (fun c5 => ?_) (fun c5 => ?_)
      · simp (disch := omega) only [zI_lt, zI_le, zI_eq, zI_lt0, zI_le0, zI_0lt, zI_0le, zI_eq0] at c5
        refine v_run 2 (pc' := 23) (ls' := [some (.ref (ad 200)), some (.int (zI 0))]) (st' := []) rfl ?_
        have e1 : (fun k => if k < s then 0 else X k) = mTo ζ 0 := by rw [show s = 26 by omega]; exact mTo_0 ζ X x26
        rw [e1]
        have lq : ∀ (n s : Nat), s ≤ ζ 5 0 → ζ 5 0 + 1 ≤ s + n → ssV G mX10_asTold 0 0 0 (rV (hset h (ad 203) (ar 26 (mTold ζ)))) 23 [some (.ref (ad 200)), some (.int (zI ↑s))] [] (hset h (ad 203) (ar 26 (mTo ζ s))) := by
          intro n
          induction n with
          | zero => intro s hs1 hs2; exact absurd hs2 (by omega)
          | succ n ih2 =>
            intro s hs1 hs2
            refine v_run 2 (pc' := 25) (ls' := [some (.ref (ad 200)), some (.int (zI ↑s))]) (st' := [.ref (ad 200), .int (zI ↑s)]) rfl ?_
            refine v_get rfl (hm.x hA (mTo ζ s)).1 rfl ?_
            refine v_run 0 (pc' := 28) (ls' := [some (.ref (ad 200)), some (.int (zI ↑s))]) (st' := [.ref (ad 210), .int (zI ↑s)]) rfl ?_
            refine v_get rfl (hm.x hA (mTo ζ s)).2.1.1 rfl ?_
            refine v_run 0 (pc' := 31) (ls' := [some (.ref (ad 200)), some (.int (zI ↑s))]) (st' := [.int (zI ↑(ζ 5 0)), .int (zI ↑s)]) rfl ?_
            refine v_icmp_ge rfl (fun c31 => ?_) (fun c31 => ?_)
            · simp (disch := omega) only [zI_lt, zI_le, zI_eq, zI_lt0, zI_le0, zI_0lt, zI_0le, zI_eq0] at c31
              refine v_run 1 (pc' := 92) (ls' := [some (.ref (ad 200)), some (.int (zI ↑s))]) (st' := [.ref (ad 200)]) rfl ?_
              refine v_get rfl (hm.x hA (mTo ζ s)).1 rfl ?_
              refine v_run 2 (pc' := 98) (ls' := [some (.ref (ad 200)), some (.int (zI ↑s))]) (st' := [.ref (ad 200), .int (zI 24), .ref (ad 203)]) rfl ?_
              refine v_get rfl (hm.x hA (mTo ζ s)).1 rfl ?_
              refine v_run 0 (pc' := 101) (ls' := [some (.ref (ad 200)), some (.int (zI ↑s))]) (st' := [.ref (ad 210), .int (zI 24), .ref (ad 203)]) rfl ?_
              refine v_get rfl (hm.x hA (mTo ζ s)).2.1.1 rfl ?_
              refine v_run 0 (pc' := 104) (ls' := [some (.ref (ad 200)), some (.int (zI ↑s))]) (st' := [.int (zI ↑(ζ 3 0)), .int (zI 24), .ref (ad 203)]) rfl ?_
              refine v_iastore' rfl (hm.x hA (mTo ζ s)).2.2 (i := 24) rfl (by decide) ?_
              rw [ar_upd, hset_hset, show (fun j => if j = 24 then ζ 3 0 else mTo ζ s j) = mTold ζ from by rw [show s = ζ 5 0 by omega]; rfl]
              refine v_run 0 (pc' := 105) (ls' := [some (.ref (ad 200)), some (.int (zI ↑s))]) (st' := []) rfl ?_
              exact v_vret rfl rfl ⟨rfl, rfl⟩
            · simp (disch := omega) only [zI_lt, zI_le, zI_eq, zI_lt0, zI_le0, zI_0lt, zI_0le, zI_eq0] at c31
              have hm2 := hm.x hA (mTo ζ s)
              refine v_run 1 (pc' := 35) (ls' := [some (.ref (ad 200)), some (.int (zI ↑s))]) (st' := [.ref (ad 200)]) rfl ?_
              refine v_get rfl (hm.x hA (mTo ζ s)).1 rfl ?_
              refine v_run 2 (pc' := 40) (ls' := [some (.ref (ad 200)), some (.int (zI ↑s))]) (st' := [.ref (ad 200), .int (zI ↑s), .ref (ad 203)]) rfl ?_
              refine v_get rfl (hm.x hA (mTo ζ s)).1 rfl ?_
              refine v_run 0 (pc' := 43) (ls' := [some (.ref (ad 200)), some (.int (zI ↑s))]) (st' := [.ref (ad 210), .int (zI ↑s), .ref (ad 203)]) rfl ?_
              refine v_get rfl (hm.x hA (mTo ζ s)).2.1.1 rfl ?_
              refine v_run 1 (pc' := 47) (ls' := [some (.ref (ad 200)), some (.int (zI ↑s))]) (st' := [.int (zI ↑s), .ref (Sf ad 210 14), .int (zI ↑s), .ref (ad 203)]) rfl ?_
              refine v_iaload' rfl (hm.x hA (mTo ζ s)).2.1.2.2.2.1 (i := s) rfl (by omega) ?_
              refine v_run 0 (pc' := 48) (ls' := [some (.ref (ad 200)), some (.int (zI ↑s))]) (st' := [.int (zI ↑(ζ 14 s)), .int (zI ↑s), .ref (ad 203)]) rfl ?_
              refine v_iastore' rfl (hm.x hA (mTo ζ s)).2.2 (i := s) rfl (by omega) ?_
              rw [ar_upd, hset_hset]
              refine v_run 1 (pc' := 50) (ls' := [some (.ref (ad 200)), some (.int (zI ↑s))]) (st' := [.ref (ad 200)]) rfl ?_
              refine v_get rfl (hm.x hA (fun j => if j = s then ζ 14 s else mTo ζ s j)).1 rfl ?_
              refine v_run 4 (pc' := 58) (ls' := [some (.ref (ad 200)), some (.int (zI ↑s))]) (st' := [.ref (ad 200), .int ((zI 6) + (zI ↑s)), .ref (ad 203)]) rfl ?_
              refine v_get rfl (hm.x hA (fun j => if j = s then ζ 14 s else mTo ζ s j)).1 rfl ?_
              refine v_run 0 (pc' := 61) (ls' := [some (.ref (ad 200)), some (.int (zI ↑s))]) (st' := [.ref (ad 210), .int ((zI 6) + (zI ↑s)), .ref (ad 203)]) rfl ?_
              refine v_get rfl (hm.x hA (fun j => if j = s then ζ 14 s else mTo ζ s j)).2.1.1 rfl ?_
              refine v_run 1 (pc' := 65) (ls' := [some (.ref (ad 200)), some (.int (zI ↑s))]) (st' := [.int (zI ↑s), .ref (Sf ad 210 13), .int ((zI 6) + (zI ↑s)), .ref (ad 203)]) rfl ?_
              refine v_iaload' rfl (hm.x hA (fun j => if j = s then ζ 14 s else mTo ζ s j)).2.1.2.2.1 (i := s) rfl (by omega) ?_
              refine v_run 0 (pc' := 66) (ls' := [some (.ref (ad 200)), some (.int (zI ↑s))]) (st' := [.int (zI ↑(ζ 13 s)), .int ((zI 6) + (zI ↑s)), .ref (ad 203)]) rfl ?_
              refine v_iastore' rfl (hm.x hA (fun j => if j = s then ζ 14 s else mTo ζ s j)).2.2 (i := (6 + s)) (zN_add 6 s) (by omega) ?_
              rw [ar_upd, hset_hset]
              refine v_run 1 (pc' := 68) (ls' := [some (.ref (ad 200)), some (.int (zI ↑s))]) (st' := [.ref (ad 200)]) rfl ?_
              refine v_get rfl (hm.x hA (fun j => if j = 6 + s then ζ 13 s else (fun j => if j = s then ζ 14 s else mTo ζ s j) j)).1 rfl ?_
              refine v_run 4 (pc' := 76) (ls' := [some (.ref (ad 200)), some (.int (zI ↑s))]) (st' := [.ref (ad 200), .int ((zI 12) + (zI ↑s)), .ref (ad 203)]) rfl ?_
              refine v_get rfl (hm.x hA (fun j => if j = 6 + s then ζ 13 s else (fun j => if j = s then ζ 14 s else mTo ζ s j) j)).1 rfl ?_
              refine v_run 0 (pc' := 79) (ls' := [some (.ref (ad 200)), some (.int (zI ↑s))]) (st' := [.ref (ad 210), .int ((zI 12) + (zI ↑s)), .ref (ad 203)]) rfl ?_
              refine v_get rfl (hm.x hA (fun j => if j = 6 + s then ζ 13 s else (fun j => if j = s then ζ 14 s else mTo ζ s j) j)).2.1.1 rfl ?_
              refine v_run 1 (pc' := 83) (ls' := [some (.ref (ad 200)), some (.int (zI ↑s))]) (st' := [.int (zI ↑s), .ref (Sf ad 210 15), .int ((zI 12) + (zI ↑s)), .ref (ad 203)]) rfl ?_
              refine v_iaload' rfl (hm.x hA (fun j => if j = 6 + s then ζ 13 s else (fun j => if j = s then ζ 14 s else mTo ζ s j) j)).2.1.2.2.2.2.1 (i := s) rfl (by omega) ?_
              refine v_run 0 (pc' := 84) (ls' := [some (.ref (ad 200)), some (.int (zI ↑s))]) (st' := [.int (zI ↑(ζ 15 s)), .int ((zI 12) + (zI ↑s)), .ref (ad 203)]) rfl ?_
              refine v_iastore' rfl (hm.x hA (fun j => if j = 6 + s then ζ 13 s else (fun j => if j = s then ζ 14 s else mTo ζ s j) j)).2.2 (i := (12 + s)) (zN_add 12 s) (by omega) ?_
              rw [ar_upd, hset_hset]
              rw [show (fun j => if j = 12 + s then ζ 15 s else (fun j => if j = 6 + s then ζ 13 s else (fun j => if j = s then ζ 14 s else mTo ζ s j) j) j) = mTo ζ (s + 1) from mTo_s ζ s (by omega)]
              refine v_run 2 (pc' := 23) (ls' := [some (.ref (ad 200)), some (.int ((zI ↑s) + zI 1))]) (st' := []) rfl ?_
              rw [zI_s1]
              exact ih2 (s + 1) (by omega) (by omega)
        exact lq (ζ 5 0 + 1) 0 (by omega) (by omega)
      · simp (disch := omega) only [zI_lt, zI_le, zI_eq, zI_lt0, zI_le0, zI_0lt, zI_0le, zI_eq0] at c5
        refine v_run 1 (pc' := 9) (ls' := [some (.ref (ad 200)), some (.int (zI ↑s))]) (st' := [.ref (ad 200)]) rfl ?_
        refine v_get rfl (hm.x hA (fun k => if k < s then 0 else X k)).1 rfl ?_
        refine v_run 2 (pc' := 14) (ls' := [some (.ref (ad 200)), some (.int (zI ↑s))]) (st' := [.int (zI 0), .int (zI ↑s), .ref (ad 203)]) rfl ?_
        refine v_iastore' rfl (hm.x hA (fun k => if k < s then 0 else X k)).2.2 (i := s) rfl (by omega) ?_
        rw [show (zI 0) = zI ↑(0 : Nat) from rfl, ar_upd, hset_hset, show (fun j => if j = s then 0 else (fun k => if k < s then 0 else X k) j) = (fun k => if k < s + 1 then 0 else X k) from fill_step (g := fun _ => 0) s]
        refine v_run 2 (pc' := 2) (ls' := [some (.ref (ad 200)), some (.int ((zI ↑s) + zI 1))]) (st' := []) rfl ?_
        rw [zI_s1]
        exact ih (s + 1) (by omega) (by omega)
  have lr := lp 27 0 (by omega) (by omega)
  rw [show (fun k => if k < 0 then 0 else X k) = X from by funext t; simp, hset_same h hm.2.2] at lr
  exact lr

set_option maxRecDepth 100000 in
set_option maxHeartbeats 400000 in
theorem q_losses (G : ssG) (h : ssH) {ad : Nat → Nat} {rv : Value} {m : Nat → Int} {ζ : Nat → Nat → Nat} {X : Nat → Nat} (s : Nat) (hA : ∀ k l, ad k = ad l → k = l) (hm : MX h ad rv m ζ X) (hz : SaOk ζ) (hx : XOk X) (hs : s < 6) (hd : X 23 ≤ 1000) : ssC G mX10_losses 0 0 0 [.ref (ad 200), .int (zI ↑s)] h (rI (zI ↑(mLs ζ X s)) h) := by
  refine c_of_v okX10_losses (by decide +kernel) (ls := [some (.ref (ad 200)), some (.int (zI ↑s)), none]) rfl (Nat.le_of_ble_eq_true rfl) ?_
  obtain ⟨z0, z1, z2, z3, z4, z5, z6, z9, z12, z13, z14, z15, z16, z17, z18, z19, z20⟩ := id hz
  obtain ⟨x0, x6, x12, x18, x24, x25, x26⟩ := id hx
  have q0 := x0 s hs
  have q6 := x6 s hs
  have q12 := z12 (X s)
  refine v_run 1 (pc' := 1) (ls' := [some (.ref (ad 200)), some (.int (zI ↑s)), none]) (st' := [.ref (ad 200)]) rfl ?_
  refine v_get rfl hm.1 rfl ?_
  refine v_run 3 (pc' := 8) (ls' := [some (.ref (ad 200)), some (.int (zI ↑s)), none]) (st' := [.int ((zI 6) + (zI ↑s)), .ref (ad 203)]) rfl ?_
  refine v_iaload' rfl hm.2.2 (i := (6 + s)) (zN_add 6 s) (by omega) ?_
  refine v_run 1 (pc' := 10) (ls' := [some (.ref (ad 200)), some (.int (zI ↑s)), none]) (st' := [.int (zI 1), .int (zI ↑(X (6 + s)))]) rfl ?_
  refine v_icmp_ne rfl (fun c10 => ?_) (fun c10 => ?_)
  · simp (disch := omega) only [zI_lt, zI_le, zI_eq, zI_lt0, zI_le0, zI_0lt, zI_0le, zI_eq0] at c10
    refine v_run 1 (pc' := 32) (ls' := [some (.ref (ad 200)), some (.int (zI ↑s)), none]) (st' := [.ref (ad 200)]) rfl ?_
    refine v_get rfl hm.1 rfl ?_
    refine v_run 0 (pc' := 35) (ls' := [some (.ref (ad 200)), some (.int (zI ↑s)), none]) (st' := [.ref (ad 210)]) rfl ?_
    refine v_get rfl hm.2.1.1 rfl ?_
    refine v_run 1 (pc' := 39) (ls' := [some (.ref (ad 200)), some (.int (zI ↑s)), none]) (st' := [.ref (ad 200), .int (zI ↑(ζ 1 0))]) rfl ?_
    refine v_get rfl hm.1 rfl ?_
    refine v_run 0 (pc' := 42) (ls' := [some (.ref (ad 200)), some (.int (zI ↑s)), none]) (st' := [.ref (ad 210), .int (zI ↑(ζ 1 0))]) rfl ?_
    refine v_get rfl hm.2.1.1 rfl ?_
    refine v_run 1 (pc' := 46) (ls' := [some (.ref (ad 200)), some (.int (zI ↑s)), none]) (st' := [.ref (ad 200), .ref (Sf ad 210 12), .int (zI ↑(ζ 1 0))]) rfl ?_
    refine v_get rfl hm.1 rfl ?_
    refine v_run 1 (pc' := 50) (ls' := [some (.ref (ad 200)), some (.int (zI ↑s)), none]) (st' := [.int (zI ↑s), .ref (ad 203), .ref (Sf ad 210 12), .int (zI ↑(ζ 1 0))]) rfl ?_
    refine v_iaload' rfl hm.2.2 (i := s) rfl (by omega) ?_
    refine v_run 0 (pc' := 51) (ls' := [some (.ref (ad 200)), some (.int (zI ↑s)), none]) (st' := [.int (zI ↑(X s)), .ref (Sf ad 210 12), .int (zI ↑(ζ 1 0))]) rfl ?_
    refine v_iaload' rfl hm.2.1.2.1 (i := (X s)) rfl (by omega) ?_
    refine v_run 4 (pc' := 56) (ls' := [some (.ref (ad 200)), some (.int (zI ↑s)), some (.int ((zI ↑(ζ 1 0)) - (zI ↑(ζ 12 (X s)))))]) (st' := [.int (zI 1), .int ((zI ↑(ζ 1 0)) - (zI ↑(ζ 12 (X s))))]) rfl ?_
    rw [show ((zI ↑(ζ 1 0)) - (zI ↑(ζ 12 (X s))) : Int32) = zI (↑(ζ 1 0) - ↑(ζ 12 (X s))) from zI_sub _ _]
    refine v_icmp_ge rfl (fun c56 => ?_) (fun c56 => ?_)
    · simp (disch := omega) only [zI_lt, zI_le, zI_eq, zI_lt0, zI_le0, zI_0lt, zI_0le, zI_eq0] at c56
      refine v_run 1 (pc' := 62) (ls' := [some (.ref (ad 200)), some (.int (zI ↑s)), some (.int (zI (↑(ζ 1 0) - ↑(ζ 12 (X s)))))]) (st' := [.ref (ad 200)]) rfl ?_
      refine v_get rfl hm.1 rfl ?_
      refine v_run 3 (pc' := 69) (ls' := [some (.ref (ad 200)), some (.int (zI ↑s)), some (.int (zI (↑(ζ 1 0) - ↑(ζ 12 (X s)))))]) (st' := [.int ((zI 6) + (zI ↑s)), .ref (ad 203)]) rfl ?_
      refine v_iaload' rfl hm.2.2 (i := (6 + s)) (zN_add 6 s) (by omega) ?_
      refine v_run 1 (pc' := 71) (ls' := [some (.ref (ad 200)), some (.int (zI ↑s)), some (.int (zI (↑(ζ 1 0) - ↑(ζ 12 (X s)))))]) (st' := [.int (zI 2), .int (zI ↑(X (6 + s)))]) rfl ?_
      refine v_icmp_ne rfl (fun c71 => ?_) (fun c71 => ?_)
      · simp (disch := omega) only [zI_lt, zI_le, zI_eq, zI_lt0, zI_le0, zI_0lt, zI_0le, zI_eq0] at c71
        refine v_run 1 (pc' := 81) (ls' := [some (.ref (ad 200)), some (.int (zI ↑s)), some (.int (zI (↑(ζ 1 0) - ↑(ζ 12 (X s)))))]) (st' := [.int (zI (↑(ζ 1 0) - ↑(ζ 12 (X s))))]) rfl ?_
        exact v_iret rfl rfl rfl ⟨by rw [mLs, cLoss, if_neg (by omega), if_neg (by omega), Nat.one_mul]; congr 3; omega, rfl⟩
      · simp (disch := omega) only [zI_lt, zI_le, zI_eq, zI_lt0, zI_le0, zI_0lt, zI_0le, zI_eq0] at c71
        refine v_run 2 (pc' := 76) (ls' := [some (.ref (ad 200)), some (.int (zI ↑s)), some (.int (zI (↑(ζ 1 0) - ↑(ζ 12 (X s)))))]) (st' := [.int (zI 2), .int (zI (↑(ζ 1 0) - ↑(ζ 12 (X s))))]) rfl ?_
        rw [show (zI (↑(ζ 1 0) - ↑(ζ 12 (X s))) : Int32) = zI ↑(max 1 (ζ 1 0 - ζ 12 (X s))) from by congr 1; omega]
        refine v_idiv rfl (zI_ne0 (by decide) (by decide)) ?_
        refine v_run 1 (pc' := 81) (ls' := [some (.ref (ad 200)), some (.int (zI ↑s)), some (.int (zI ↑(max 1 (ζ 1 0 - ζ 12 (X s)))))]) (st' := [.int (zI ↑(max 1 (ζ 1 0 - ζ 12 (X s))) / zI 2)]) rfl ?_
        exact v_iret rfl rfl rfl ⟨by rw [show (zI 2) = zI ((2 : Nat) : Int) from rfl, zN_div (by omega) (by omega) (by omega), mLs, cLoss, if_neg (by omega), if_pos (by omega), Nat.one_mul], rfl⟩
    · simp (disch := omega) only [zI_lt, zI_le, zI_eq, zI_lt0, zI_le0, zI_0lt, zI_0le, zI_eq0] at c56
      refine v_run 2 (pc' := 61) (ls' := [some (.ref (ad 200)), some (.int (zI ↑s)), some (.int (zI 1))]) (st' := []) rfl ?_
      refine v_run 1 (pc' := 62) (ls' := [some (.ref (ad 200)), some (.int (zI ↑s)), some (.int (zI 1))]) (st' := [.ref (ad 200)]) rfl ?_
      refine v_get rfl hm.1 rfl ?_
      refine v_run 3 (pc' := 69) (ls' := [some (.ref (ad 200)), some (.int (zI ↑s)), some (.int (zI 1))]) (st' := [.int ((zI 6) + (zI ↑s)), .ref (ad 203)]) rfl ?_
      refine v_iaload' rfl hm.2.2 (i := (6 + s)) (zN_add 6 s) (by omega) ?_
      refine v_run 0 (pc' := 70) (ls' := [some (.ref (ad 200)), some (.int (zI ↑s)), some (.int (zI 1))]) (st' := [.int (zI ↑(X (6 + s)))]) rfl ?_
      refine v_run 1 (pc' := 71) (ls' := [some (.ref (ad 200)), some (.int (zI ↑s)), some (.int (zI 1))]) (st' := [.int (zI 2), .int (zI ↑(X (6 + s)))]) rfl ?_
      refine v_icmp_ne rfl (fun c71 => ?_) (fun c71 => ?_)
      · simp (disch := omega) only [zI_lt, zI_le, zI_eq, zI_lt0, zI_le0, zI_0lt, zI_0le, zI_eq0] at c71
        refine v_run 1 (pc' := 81) (ls' := [some (.ref (ad 200)), some (.int (zI ↑s)), some (.int (zI 1))]) (st' := [.int (zI 1)]) rfl ?_
        exact v_iret rfl rfl rfl ⟨by rw [mLs, cLoss, if_neg (by omega), if_neg (by omega), Nat.one_mul]; congr 3; omega, rfl⟩
      · simp (disch := omega) only [zI_lt, zI_le, zI_eq, zI_lt0, zI_le0, zI_0lt, zI_0le, zI_eq0] at c71
        refine v_run 2 (pc' := 76) (ls' := [some (.ref (ad 200)), some (.int (zI ↑s)), some (.int (zI 1))]) (st' := [.int (zI 2), .int (zI 1)]) rfl ?_
        refine v_idiv rfl (zI_ne0 (by decide) (by decide)) ?_
        refine v_run 1 (pc' := 81) (ls' := [some (.ref (ad 200)), some (.int (zI ↑s)), some (.int (zI 1))]) (st' := [.int (zI 1 / zI 2)]) rfl ?_
        exact v_iret rfl rfl rfl ⟨by rw [show (zI 1 / zI 2) = zI 0 from by decide +kernel, mLs, cLoss, if_neg (by omega), if_pos (by omega), Nat.one_mul]; congr 3; omega, rfl⟩
  · simp (disch := omega) only [zI_lt, zI_le, zI_eq, zI_lt0, zI_le0, zI_0lt, zI_0le, zI_eq0] at c10
    refine v_run 1 (pc' := 14) (ls' := [some (.ref (ad 200)), some (.int (zI ↑s)), none]) (st' := [.ref (ad 200)]) rfl ?_
    refine v_get rfl hm.1 rfl ?_
    refine v_run 1 (pc' := 19) (ls' := [some (.ref (ad 200)), some (.int (zI ↑s)), none]) (st' := [.int (zI 23), .ref (ad 203)]) rfl ?_
    refine v_iaload' rfl hm.2.2 (i := 23) rfl (by decide) ?_
    refine v_run 1 (pc' := 21) (ls' := [some (.ref (ad 200)), some (.int (zI ↑s)), none]) (st' := [.int (zI 2), .int (zI ↑(X 23))]) rfl ?_
    refine v_irem rfl (zI_ne0 (by decide) (by decide)) ?_
    rw [show ((zI ↑(X 23) - zI ↑(X 23) / zI 2 * zI 2) : Int32) = zI ↑(X 23 % 2) from by rw [show (zI 2) = zI ((2 : Nat) : Int) from rfl, zN_rem (by omega) (by omega) (by omega)]]
    refine v_if_ne rfl (fun c22 => ?_) (fun c22 => ?_)
    · simp (disch := omega) only [zI_lt, zI_le, zI_eq, zI_lt0, zI_le0, zI_0lt, zI_0le, zI_eq0] at c22
      refine v_run 1 (pc' := 30) (ls' := [some (.ref (ad 200)), some (.int (zI ↑s)), none]) (st' := [.int (zI 0)]) rfl ?_
      exact v_iret rfl rfl rfl ⟨by rw [mLs, cLoss, if_pos (by omega), if_neg (by omega)]; rfl, rfl⟩
    · simp (disch := omega) only [zI_lt, zI_le, zI_eq, zI_lt0, zI_le0, zI_0lt, zI_0le, zI_eq0] at c22
      refine v_run 2 (pc' := 30) (ls' := [some (.ref (ad 200)), some (.int (zI ↑s)), none]) (st' := [.int (zI 1)]) rfl ?_
      exact v_iret rfl rfl rfl ⟨by rw [mLs, cLoss, if_pos (by omega), if_pos (by omega)]; rfl, rfl⟩

set_option maxRecDepth 100000 in
set_option maxHeartbeats 400000 in
theorem q_goodNow (G : ssG) (h : ssH) {ad : Nat → Nat} {rv : Value} {m : Nat → Int} {ζ : Nat → Nat → Nat} {X : Nat → Nat}  (hA : ∀ k l, ad k = ad l → k = l) (hm : MX h ad rv m ζ X) (hz : SaOk ζ) (hx : XOk X)  : ssC G mX10_goodNow 0 0 0 [.ref (ad 200)] h (rI (zI ↑(mG ζ X)) h) := by
  refine c_of_v okX10_goodNow (by decide +kernel) (ls := [some (.ref (ad 200)), none, none]) rfl (Nat.le_of_ble_eq_true rfl) ?_
  obtain ⟨z0, z1, z2, z3, z4, z5, z6, z9, z12, z13, z14, z15, z16, z17, z18, z19, z20⟩ := id hz
  obtain ⟨x0, x6, x12, x18, x24, x25, x26⟩ := id hx
  refine v_run 4 (pc' := 4) (ls' := [some (.ref (ad 200)), some (.int (zI 0)), some (.int (zI 0))]) (st' := []) rfl ?_
  have lp : ∀ (n s : Nat), s ≤ ζ 5 0 → ζ 5 0 + 1 ≤ s + n → ssV G mX10_goodNow 0 0 0 (rI (zI ↑(mG ζ X)) h) 4 [some (.ref (ad 200)), some (.int (zI ↑(setN (fun s => decide (0 < X (12 + s))) s))), some (.int (zI ↑s))] [] h := by
    intro n
    induction n with
    | zero => intro s hs1 hs2; exact absurd hs2 (by omega)
    | succ n ih =>
      intro s hs1 hs2
      refine v_run 2 (pc' := 6) (ls' := [some (.ref (ad 200)), some (.int (zI ↑(setN (fun s => decide (0 < X (12 + s))) s))), some (.int (zI ↑s))]) (st' := [.ref (ad 200), .int (zI ↑s)]) rfl ?_
      refine v_get rfl hm.1 rfl ?_
      refine v_run 0 (pc' := 9) (ls' := [some (.ref (ad 200)), some (.int (zI ↑(setN (fun s => decide (0 < X (12 + s))) s))), some (.int (zI ↑s))]) (st' := [.ref (ad 210), .int (zI ↑s)]) rfl ?_
      refine v_get rfl hm.2.1.1 rfl ?_
      refine v_run 0 (pc' := 12) (ls' := [some (.ref (ad 200)), some (.int (zI ↑(setN (fun s => decide (0 < X (12 + s))) s))), some (.int (zI ↑s))]) (st' := [.int (zI ↑(ζ 5 0)), .int (zI ↑s)]) rfl ?_
      refine v_icmp_ge rfl (fun c12 => ?_) (fun c12 => ?_)
      · simp (disch := omega) only [zI_lt, zI_le, zI_eq, zI_lt0, zI_le0, zI_0lt, zI_0le, zI_eq0] at c12
        refine v_run 1 (pc' := 44) (ls' := [some (.ref (ad 200)), some (.int (zI ↑(setN (fun s => decide (0 < X (12 + s))) s))), some (.int (zI ↑s))]) (st' := [.int (zI ↑(setN (fun s => decide (0 < X (12 + s))) s))]) rfl ?_
        exact v_iret rfl rfl rfl ⟨by rw [show s = ζ 5 0 by omega]; rfl, rfl⟩
      · simp (disch := omega) only [zI_lt, zI_le, zI_eq, zI_lt0, zI_le0, zI_0lt, zI_0le, zI_eq0] at c12
        have q1 := x12 s (by omega)
        have q2 := setN_lt (fun s => decide (0 < X (12 + s))) s
        refine v_run 2 (pc' := 17) (ls' := [some (.ref (ad 200)), some (.int (zI ↑(setN (fun s => decide (0 < X (12 + s))) s))), some (.int (zI ↑s))]) (st' := [.ref (ad 200), .int (zI ↑(setN (fun s => decide (0 < X (12 + s))) s))]) rfl ?_
        refine v_get rfl hm.1 rfl ?_
        refine v_run 3 (pc' := 24) (ls' := [some (.ref (ad 200)), some (.int (zI ↑(setN (fun s => decide (0 < X (12 + s))) s))), some (.int (zI ↑s))]) (st' := [.int ((zI 12) + (zI ↑s)), .ref (ad 203), .int (zI ↑(setN (fun s => decide (0 < X (12 + s))) s))]) rfl ?_
        refine v_iaload' rfl hm.2.2 (i := (12 + s)) (zN_add 12 s) (by omega) ?_
        refine v_run 0 (pc' := 25) (ls' := [some (.ref (ad 200)), some (.int (zI ↑(setN (fun s => decide (0 < X (12 + s))) s))), some (.int (zI ↑s))]) (st' := [.int (zI ↑(X (12 + s))), .int (zI ↑(setN (fun s => decide (0 < X (12 + s))) s))]) rfl ?_
        refine v_if_le rfl (fun c25 => ?_) (fun c25 => ?_)
        · simp (disch := omega) only [zI_lt, zI_le, zI_eq, zI_lt0, zI_le0, zI_0lt, zI_0le, zI_eq0] at c25
          refine v_run 5 (pc' := 4) (ls' := [some (.ref (ad 200)), some (.int ((zI ↑(setN (fun s => decide (0 < X (12 + s))) s)) ||| (zI 0))), some (.int ((zI ↑s) + zI 1))]) (st' := []) rfl ?_
          rw [zI_s1, show (zI ↑(setN (fun s => decide (0 < X (12 + s))) s)) ||| (zI 0) = zI ↑(setN (fun s => decide (0 < X (12 + s))) (s + 1)) from by rw [setN_f (by simp; omega)]; exact zI_or0 (by have q3 := Nat.pow_le_pow_right (n := 2) (by decide) (show s ≤ 30 by omega); omega)]
          exact ih (s + 1) (by omega) (by omega)
        · simp (disch := omega) only [zI_lt, zI_le, zI_eq, zI_lt0, zI_le0, zI_0lt, zI_0le, zI_eq0] at c25
          refine v_run 8 (pc' := 4) (ls' := [some (.ref (ad 200)), some (.int ((zI ↑(setN (fun s => decide (0 < X (12 + s))) s)) ||| ((zI 1) <<< ((zI ↑s) &&& 31)))), some (.int ((zI ↑s) + zI 1))]) (st' := []) rfl ?_
          rw [zI_s1, zI_put (by omega) q2, ← setN_t (p := fun s => decide (0 < X (12 + s))) (by simp; omega)]
          exact ih (s + 1) (by omega) (by omega)
  exact lp (ζ 5 0 + 1) 0 (by omega) (by omega)

set_option maxRecDepth 100000 in
set_option maxHeartbeats 400000 in
theorem q_isQuorum (G : ssG) (h : ssH) {ad : Nat → Nat} {rv : Value} {m : Nat → Int} {ζ : Nat → Nat → Nat} {X : Nat → Nat}  (hA : ∀ k l, ad k = ad l → k = l) (hm : MX h ad rv m ζ X) (hz : SaOk ζ) (hx : XOk X)  : ssC G mX10_isQuorum 1 0 0 [.ref (ad 200)] h (rI (zb (decide (ζ 0 0 ≤ popN (mG ζ X)))) h) := by
  refine c_of_v okX10_isQuorum (by decide +kernel) (ls := [some (.ref (ad 200))]) rfl (Nat.le_of_ble_eq_true rfl) ?_
  obtain ⟨z0, z1, z2, z3, z4, z5, z6, z9, z12, z13, z14, z15, z16, z17, z18, z19, z20⟩ := id hz
  obtain ⟨x0, x6, x12, x18, x24, x25, x26⟩ := id hx
  have q1 : mG ζ X < 64 := setN_lt64 _ z5
  have q2 := popN_le (mG ζ X)
  refine v_run 1 (pc' := 1) (ls' := [some (.ref (ad 200))]) (st' := [.ref (ad 200)]) rfl ?_
  refine v_callV (My := mX10_goodNow) (As := []) (rest := []) (mc := 0) (ms := 0) rfl caX10_goodNow rfl rfl rfl hm.1 rfl rfl (q_goodNow G _ hA hm hz hx) rfl rfl (Nat.le_of_ble_eq_true rfl) (by omega) ?_
  rintro _ _ ⟨rfl, rfl⟩
  refine v_run 0 (pc' := 4) (ls' := [some (.ref (ad 200))]) (st' := [.int (zI ↑(mG ζ X))]) rfl ?_
  refine v_callS (My := mX10_bits) (As := [.int (zI ↑(mG ζ X))]) (rest := []) (mc := 0) (ms := 0) rfl caX10_bits rfl rfl (q_bits G _ (mG ζ X) q1) rfl rfl (Nat.le_of_ble_eq_true rfl) (by omega) ?_
  rintro _ _ ⟨rfl, rfl⟩
  refine v_run 0 (pc' := 7) (ls' := [some (.ref (ad 200))]) (st' := [.int (zI ↑(popN (mG ζ X)))]) rfl ?_
  refine v_run 1 (pc' := 8) (ls' := [some (.ref (ad 200))]) (st' := [.ref (ad 200), .int (zI ↑(popN (mG ζ X)))]) rfl ?_
  refine v_get rfl hm.1 rfl ?_
  refine v_run 0 (pc' := 11) (ls' := [some (.ref (ad 200))]) (st' := [.ref (ad 210), .int (zI ↑(popN (mG ζ X)))]) rfl ?_
  refine v_get rfl hm.2.1.1 rfl ?_
  refine v_run 0 (pc' := 14) (ls' := [some (.ref (ad 200))]) (st' := [.int (zI ↑(ζ 0 0)), .int (zI ↑(popN (mG ζ X)))]) rfl ?_
  refine v_icmp_lt rfl (fun c14 => ?_) (fun c14 => ?_)
  · simp (disch := omega) only [zI_lt, zI_le, zI_eq, zI_lt0, zI_le0, zI_0lt, zI_0le, zI_eq0] at c14
    refine v_run 1 (pc' := 22) (ls' := [some (.ref (ad 200))]) (st' := [.int (zI 0)]) rfl ?_
    exact v_iret rfl rfl rfl ⟨by rw [zb, if_neg (by simp; omega)], rfl⟩
  · simp (disch := omega) only [zI_lt, zI_le, zI_eq, zI_lt0, zI_le0, zI_0lt, zI_0le, zI_eq0] at c14
    refine v_run 2 (pc' := 22) (ls' := [some (.ref (ad 200))]) (st' := [.int (zI 1)]) rfl ?_
    exact v_iret rfl rfl rfl ⟨by rw [zb, if_pos (by simp; omega)], rfl⟩

set_option maxRecDepth 100000 in
set_option maxHeartbeats 400000 in
theorem q_aDay (G : ssG) (h : ssH) {ad : Nat → Nat} {rv : Value} {m : Nat → Int} {ζ : Nat → Nat → Nat} {X : Nat → Nat} (b : Bool) (hA : ∀ k l, ad k = ad l → k = l) (hm : MX h ad rv m ζ X) (hz : SaOk ζ) (hx : XOk X) (hd : X 23 ≤ 1000) : ssC G mX10_aDay 1 0 0 [.ref (ad 200), .int (zb b)] h (rV (hset h (ad 203) (ar 26 (mD ζ b X)))) := by
  refine c_of_v okX10_aDay (by decide +kernel) (ls := [some (.ref (ad 200)), some (.int (zb b)), none, none, none]) rfl (Nat.le_of_ble_eq_true rfl) ?_
  obtain ⟨z0, z1, z2, z3, z4, z5, z6, z9, z12, z13, z14, z15, z16, z17, z18, z19, z20⟩ := id hz
  obtain ⟨x0, x6, x12, x18, x24, x25, x26⟩ := id hx
  have q1 : mG ζ X < 64 := setN_lt64 _ z5
  refine v_run 1 (pc' := 1) (ls' := [some (.ref (ad 200)), some (.int (zb b)), none, none, none]) (st' := [.ref (ad 200)]) rfl ?_
  refine v_callV (My := mX10_goodNow) (As := []) (rest := []) (mc := 0) (ms := 0) rfl caX10_goodNow rfl rfl rfl hm.1 rfl rfl (q_goodNow G _ hA hm hz hx) rfl rfl (Nat.le_of_ble_eq_true rfl) (by omega) ?_
  rintro _ _ ⟨rfl, rfl⟩
  refine v_run 0 (pc' := 4) (ls' := [some (.ref (ad 200)), some (.int (zb b)), none, none, none]) (st' := [.int (zI ↑(mG ζ X))]) rfl ?_
  refine v_run 3 (pc' := 7) (ls' := [some (.ref (ad 200)), some (.int (zb b)), some (.int (zI ↑(mG ζ X))), some (.int (zI 0)), none]) (st' := []) rfl ?_
  have lp : ∀ (n s : Nat), s ≤ ζ 6 0 → ζ 6 0 + 1 ≤ s + n → ssV G mX10_aDay 1 0 0 (rV (hset h (ad 203) (ar 26 (mD ζ b X)))) 7 [some (.ref (ad 200)), some (.int (zb b)), some (.int (zI ↑(mG ζ X))), some (.int (zI ↑s)), none] [] (hset h (ad 203) (ar 26 (mD1 ζ X s))) := by
    intro n
    induction n with
    | zero => intro s hs1 hs2; exact absurd hs2 (by omega)
    | succ n ih =>
      intro s hs1 hs2
      refine v_run 2 (pc' := 9) (ls' := [some (.ref (ad 200)), some (.int (zb b)), some (.int (zI ↑(mG ζ X))), some (.int (zI ↑s)), none]) (st' := [.ref (ad 200), .int (zI ↑s)]) rfl ?_
      refine v_get rfl (hm.x hA (mD1 ζ X s)).1 rfl ?_
      refine v_run 0 (pc' := 12) (ls' := [some (.ref (ad 200)), some (.int (zb b)), some (.int (zI ↑(mG ζ X))), some (.int (zI ↑s)), none]) (st' := [.ref (ad 210), .int (zI ↑s)]) rfl ?_
      refine v_get rfl (hm.x hA (mD1 ζ X s)).2.1.1 rfl ?_
      refine v_run 0 (pc' := 15) (ls' := [some (.ref (ad 200)), some (.int (zb b)), some (.int (zI ↑(mG ζ X))), some (.int (zI ↑s)), none]) (st' := [.int (zI ↑(ζ 6 0)), .int (zI ↑s)]) rfl ?_
      refine v_icmp_ge rfl (fun c15 => ?_) (fun c15 => ?_)
      · simp (disch := omega) only [zI_lt, zI_le, zI_eq, zI_lt0, zI_le0, zI_0lt, zI_0le, zI_eq0] at c15
        refine v_run 2 (pc' := 55) (ls' := [some (.ref (ad 200)), some (.int (zb b)), some (.int (zI ↑(mG ζ X))), some (.int (zI 0)), none]) (st' := []) rfl ?_
        refine v_drop 2 rfl ?_
        rw [show mD1 ζ X s = mD2 ζ b X 0 from by rw [show s = ζ 6 0 by omega]; exact (mD2_0 ζ b X).symm]
        have lq : ∀ (n s : Nat), s ≤ ζ 5 0 → ζ 5 0 + 1 ≤ s + n → ssV G mX10_aDay 1 0 0 (rV (hset h (ad 203) (ar 26 (mD ζ b X)))) 55 [some (.ref (ad 200)), some (.int (zb b)), none, some (.int (zI ↑s)), none] [] (hset h (ad 203) (ar 26 (mD2 ζ b X s))) := by
          intro n
          induction n with
          | zero => intro s hs1 hs2; exact absurd hs2 (by omega)
          | succ n ih2 =>
            intro s hs1 hs2
            have hx2 : XOk (mD2 ζ b X s) := mD2_ok hx z5 z6 q1 (by omega)
            have hm2 := hm.x hA (mD2 ζ b X s)
            have d23 : mD2 ζ b X s 23 = X 23 := mD2_23 ζ b X s z6 (by omega)
            refine v_run 2 (pc' := 57) (ls' := [some (.ref (ad 200)), some (.int (zb b)), none, some (.int (zI ↑s)), none]) (st' := [.ref (ad 200), .int (zI ↑s)]) rfl ?_
            refine v_get rfl (hm.x hA (mD2 ζ b X s)).1 rfl ?_
            refine v_run 0 (pc' := 60) (ls' := [some (.ref (ad 200)), some (.int (zb b)), none, some (.int (zI ↑s)), none]) (st' := [.ref (ad 210), .int (zI ↑s)]) rfl ?_
            refine v_get rfl (hm.x hA (mD2 ζ b X s)).2.1.1 rfl ?_
            refine v_run 0 (pc' := 63) (ls' := [some (.ref (ad 200)), some (.int (zb b)), none, some (.int (zI ↑s)), none]) (st' := [.int (zI ↑(ζ 5 0)), .int (zI ↑s)]) rfl ?_
            refine v_icmp_ge rfl (fun c63 => ?_) (fun c63 => ?_)
            · simp (disch := omega) only [zI_lt, zI_le, zI_eq, zI_lt0, zI_le0, zI_0lt, zI_0le, zI_eq0] at c63
              refine v_run 1 (pc' := 142) (ls' := [some (.ref (ad 200)), some (.int (zb b)), none, some (.int (zI ↑s)), none]) (st' := [.ref (ad 200)]) rfl ?_
              refine v_get rfl (hm.x hA (mD2 ζ b X s)).1 rfl ?_
              refine v_run 2 (pc' := 148) (ls' := [some (.ref (ad 200)), some (.int (zb b)), none, some (.int (zI ↑s)), none]) (st' := [.int (zI 23), .ref (ad 203), .int (zI 23), .ref (ad 203)]) rfl ?_
              refine v_iaload' rfl (hm.x hA (mD2 ζ b X s)).2.2 (i := 23) rfl (by decide) ?_
              refine v_run 2 (pc' := 151) (ls' := [some (.ref (ad 200)), some (.int (zb b)), none, some (.int (zI ↑s)), none]) (st' := [.int ((zI ↑(mD2 ζ b X s 23)) + (zI 1)), .int (zI 23), .ref (ad 203)]) rfl ?_
              rw [show (zI ↑(mD2 ζ b X s 23) : Int32) = zI ↑(X 23) from congrArg (fun n : Nat => zI ↑n) (d23)]
              rw [show ((zI ↑(X 23)) + (zI 1) : Int32) = zI ↑(X 23 + 1) from zI_s1 _]
              refine v_iastore' rfl (hm.x hA (mD2 ζ b X s)).2.2 (i := 23) rfl (by decide) ?_
              rw [ar_upd, hset_hset, show (fun j => if j = 23 then X 23 + 1 else mD2 ζ b X s j) = mD ζ b X from by rw [show s = ζ 5 0 by omega]; rfl]
              refine v_run 0 (pc' := 152) (ls' := [some (.ref (ad 200)), some (.int (zb b)), none, some (.int (zI ↑s)), none]) (st' := []) rfl ?_
              exact v_vret rfl rfl ⟨rfl, rfl⟩
            · simp (disch := omega) only [zI_lt, zI_le, zI_eq, zI_lt0, zI_le0, zI_0lt, zI_0le, zI_eq0] at c63
              refine v_run 2 (pc' := 68) (ls' := [some (.ref (ad 200)), some (.int (zb b)), none, some (.int (zI ↑s)), none]) (st' := [.int (zI ↑s), .ref (ad 200)]) rfl ?_
              refine v_callV (My := mX10_losses) (As := [.int (zI ↑s)]) (rest := []) (mc := 0) (ms := 0) rfl caX10_losses rfl rfl rfl hm2.1 rfl rfl (q_losses G _ s hA hm2 hz hx2 (by omega) (by rw [d23]; exact hd)) rfl rfl (Nat.le_of_ble_eq_true rfl) (by omega) ?_
              rintro _ _ ⟨rfl, rfl⟩
              refine v_run 0 (pc' := 71) (ls' := [some (.ref (ad 200)), some (.int (zb b)), none, some (.int (zI ↑s)), none]) (st' := [.int (zI ↑(mLs ζ (mD2 ζ b X s) s))]) rfl ?_
              rw [show (zI ↑(mLs ζ (mD2 ζ b X s) s) : Int32) = zI ↑(mLs ζ X s) from congrArg (fun n : Nat => zI ↑n) (mLs_2 ζ b X s z6 (by omega))]
              have l9 := mLs_le hz s (X := X)
              have l8 := x12 s (by omega)
              have l7 := x6 s (by omega)
              refine v_run 1 (pc' := 72) (ls' := [some (.ref (ad 200)), some (.int (zb b)), none, some (.int (zI ↑s)), none]) (st' := [.int (zb b), .int (zI ↑(mLs ζ X s))]) rfl ?_
              refine v_if_eq rfl (fun c72 => ?_) (fun c72 => ?_)
              · have hb : b = false := (zb_0 b).mp c72
                refine v_run 3 (pc' := 96) (ls' := [some (.ref (ad 200)), some (.int (zb b)), none, some (.int (zI ↑s)), some (.int ((zI ↑(mLs ζ X s)) + (zI 0)))]) (st' := []) rfl ?_
                rw [show ((zI ↑(mLs ζ X s)) + (zI 0) : Int32) = zI ↑(mLs ζ X s + 0) from zN_add _ 0]
                refine v_run 1 (pc' := 97) (ls' := [some (.ref (ad 200)), some (.int (zb b)), none, some (.int (zI ↑s)), some (.int (zI ↑(mLs ζ X s + 0)))]) (st' := [.ref (ad 200)]) rfl ?_
                refine v_get rfl (hm.x hA (mD2 ζ b X s)).1 rfl ?_
                refine v_run 4 (pc' := 105) (ls' := [some (.ref (ad 200)), some (.int (zb b)), none, some (.int (zI ↑s)), some (.int (zI ↑(mLs ζ X s + 0)))]) (st' := [.ref (ad 200), .int ((zI 12) + (zI ↑s)), .ref (ad 203)]) rfl ?_
                refine v_get rfl (hm.x hA (mD2 ζ b X s)).1 rfl ?_
                refine v_run 3 (pc' := 112) (ls' := [some (.ref (ad 200)), some (.int (zb b)), none, some (.int (zI ↑s)), some (.int (zI ↑(mLs ζ X s + 0)))]) (st' := [.int ((zI 12) + (zI ↑s)), .ref (ad 203), .int ((zI 12) + (zI ↑s)), .ref (ad 203)]) rfl ?_
                refine v_iaload' rfl (hm.x hA (mD2 ζ b X s)).2.2 (i := (12 + s)) (zN_add 12 s) (by omega) ?_
                refine v_run 1 (pc' := 115) (ls' := [some (.ref (ad 200)), some (.int (zb b)), none, some (.int (zI ↑s)), some (.int (zI ↑(mLs ζ X s + 0)))]) (st' := [.int (zI ↑(mLs ζ X s + 0)), .int (zI ↑(mD2 ζ b X s (12 + s))), .int ((zI 12) + (zI ↑s)), .ref (ad 203)]) rfl ?_
                rw [show (zI ↑(mD2 ζ b X s (12 + s)) : Int32) = zI ↑(X (12 + s)) from congrArg (fun n : Nat => zI ↑n) (mD2_l ζ b X s (by omega))]
                refine v_icmp_le rfl (fun c115 => ?_) (fun c115 => ?_)
                · simp (disch := omega) only [zI_lt, zI_le, zI_eq, zI_lt0, zI_le0, zI_0lt, zI_0le, zI_eq0] at c115
                  refine v_run 1 (pc' := 134) (ls' := [some (.ref (ad 200)), some (.int (zb b)), none, some (.int (zI ↑s)), some (.int (zI ↑(mLs ζ X s + 0)))]) (st' := [.int (zI 0), .int ((zI 12) + (zI ↑s)), .ref (ad 203)]) rfl ?_
                  refine v_iastore' rfl (hm.x hA (mD2 ζ b X s)).2.2 (i := (12 + s)) (zN_add 12 s) (by omega) ?_
                  rw [show (zI 0) = zI ↑(0 : Nat) from rfl, ar_upd, hset_hset]
                  rw [show (fun j => if j = 12 + s then 0 else mD2 ζ b X s j) = mD2 ζ b X (s + 1) from mD2_s ζ b X s _ (by omega) (by rw [if_neg (by rw [hb]; simp)] <;> omega)]
                  refine v_run 2 (pc' := 55) (ls' := [some (.ref (ad 200)), some (.int (zb b)), none, some (.int ((zI ↑s) + zI 1)), some (.int (zI ↑(mLs ζ X s + 0)))]) (st' := []) rfl ?_
                  refine v_drop 4 (ls' := [some (.ref (ad 200)), some (.int (zb b)), none, some (.int ((zI ↑s) + zI 1)), none]) rfl ?_
                  rw [zI_s1]
                  exact ih2 (s + 1) (by omega) (by omega)
                · simp (disch := omega) only [zI_lt, zI_le, zI_eq, zI_lt0, zI_le0, zI_0lt, zI_0le, zI_eq0] at c115
                  refine v_run 1 (pc' := 119) (ls' := [some (.ref (ad 200)), some (.int (zb b)), none, some (.int (zI ↑s)), some (.int (zI ↑(mLs ζ X s + 0)))]) (st' := [.ref (ad 200), .int ((zI 12) + (zI ↑s)), .ref (ad 203)]) rfl ?_
                  refine v_get rfl (hm.x hA (mD2 ζ b X s)).1 rfl ?_
                  refine v_run 3 (pc' := 126) (ls' := [some (.ref (ad 200)), some (.int (zb b)), none, some (.int (zI ↑s)), some (.int (zI ↑(mLs ζ X s + 0)))]) (st' := [.int ((zI 12) + (zI ↑s)), .ref (ad 203), .int ((zI 12) + (zI ↑s)), .ref (ad 203)]) rfl ?_
                  refine v_iaload' rfl (hm.x hA (mD2 ζ b X s)).2.2 (i := (12 + s)) (zN_add 12 s) (by omega) ?_
                  refine v_run 3 (pc' := 134) (ls' := [some (.ref (ad 200)), some (.int (zb b)), none, some (.int (zI ↑s)), some (.int (zI ↑(mLs ζ X s + 0)))]) (st' := [.int ((zI ↑(mD2 ζ b X s (12 + s))) - (zI ↑(mLs ζ X s + 0))), .int ((zI 12) + (zI ↑s)), .ref (ad 203)]) rfl ?_
                  rw [show (zI ↑(mD2 ζ b X s (12 + s)) : Int32) = zI ↑(X (12 + s)) from congrArg (fun n : Nat => zI ↑n) (mD2_l ζ b X s (by omega))]
                  rw [show ((zI ↑(X (12 + s))) - (zI ↑(mLs ζ X s + 0)) : Int32) = zI ↑(X (12 + s) - (mLs ζ X s + 0)) from zN_sub (by omega)]
                  refine v_iastore' rfl (hm.x hA (mD2 ζ b X s)).2.2 (i := (12 + s)) (zN_add 12 s) (by omega) ?_
                  rw [ar_upd, hset_hset]
                  rw [show (fun j => if j = 12 + s then X (12 + s) - (mLs ζ X s + 0) else mD2 ζ b X s j) = mD2 ζ b X (s + 1) from mD2_s ζ b X s _ (by omega) (by rw [if_neg (by rw [hb]; simp)] <;> omega)]
                  refine v_run 2 (pc' := 55) (ls' := [some (.ref (ad 200)), some (.int (zb b)), none, some (.int ((zI ↑s) + zI 1)), some (.int (zI ↑(mLs ζ X s + 0)))]) (st' := []) rfl ?_
                  refine v_drop 4 (ls' := [some (.ref (ad 200)), some (.int (zb b)), none, some (.int ((zI ↑s) + zI 1)), none]) rfl ?_
                  rw [zI_s1]
                  exact ih2 (s + 1) (by omega) (by omega)
              · have hb : b = true := by rw [zb_0] at c72; cases b <;> simp_all
                refine v_run 1 (pc' := 76) (ls' := [some (.ref (ad 200)), some (.int (zb b)), none, some (.int (zI ↑s)), none]) (st' := [.ref (ad 200), .int (zI ↑(mLs ζ X s))]) rfl ?_
                refine v_get rfl (hm.x hA (mD2 ζ b X s)).1 rfl ?_
                refine v_run 3 (pc' := 83) (ls' := [some (.ref (ad 200)), some (.int (zb b)), none, some (.int (zI ↑s)), none]) (st' := [.int ((zI 6) + (zI ↑s)), .ref (ad 203), .int (zI ↑(mLs ζ X s))]) rfl ?_
                refine v_iaload' rfl (hm.x hA (mD2 ζ b X s)).2.2 (i := (6 + s)) (zN_add 6 s) (by omega) ?_
                refine v_run 1 (pc' := 85) (ls' := [some (.ref (ad 200)), some (.int (zb b)), none, some (.int (zI ↑s)), none]) (st' := [.int (zI 1), .int (zI ↑(mD2 ζ b X s (6 + s))), .int (zI ↑(mLs ζ X s))]) rfl ?_
                rw [show (zI ↑(mD2 ζ b X s (6 + s)) : Int32) = zI ↑(X (6 + s)) from congrArg (fun n : Nat => zI ↑n) (mD2_k ζ b X s z6 (by omega))]
                refine v_icmp_eq rfl (fun c85 => ?_) (fun c85 => ?_)
                · simp (disch := omega) only [zI_lt, zI_le, zI_eq, zI_lt0, zI_le0, zI_0lt, zI_0le, zI_eq0] at c85
                  refine v_run 3 (pc' := 96) (ls' := [some (.ref (ad 200)), some (.int (zb b)), none, some (.int (zI ↑s)), some (.int ((zI ↑(mLs ζ X s)) + (zI 0)))]) (st' := []) rfl ?_
                  rw [show ((zI ↑(mLs ζ X s)) + (zI 0) : Int32) = zI ↑(mLs ζ X s + 0) from zN_add _ 0]
                  refine v_run 1 (pc' := 97) (ls' := [some (.ref (ad 200)), some (.int (zb b)), none, some (.int (zI ↑s)), some (.int (zI ↑(mLs ζ X s + 0)))]) (st' := [.ref (ad 200)]) rfl ?_
                  refine v_get rfl (hm.x hA (mD2 ζ b X s)).1 rfl ?_
                  refine v_run 4 (pc' := 105) (ls' := [some (.ref (ad 200)), some (.int (zb b)), none, some (.int (zI ↑s)), some (.int (zI ↑(mLs ζ X s + 0)))]) (st' := [.ref (ad 200), .int ((zI 12) + (zI ↑s)), .ref (ad 203)]) rfl ?_
                  refine v_get rfl (hm.x hA (mD2 ζ b X s)).1 rfl ?_
                  refine v_run 3 (pc' := 112) (ls' := [some (.ref (ad 200)), some (.int (zb b)), none, some (.int (zI ↑s)), some (.int (zI ↑(mLs ζ X s + 0)))]) (st' := [.int ((zI 12) + (zI ↑s)), .ref (ad 203), .int ((zI 12) + (zI ↑s)), .ref (ad 203)]) rfl ?_
                  refine v_iaload' rfl (hm.x hA (mD2 ζ b X s)).2.2 (i := (12 + s)) (zN_add 12 s) (by omega) ?_
                  refine v_run 1 (pc' := 115) (ls' := [some (.ref (ad 200)), some (.int (zb b)), none, some (.int (zI ↑s)), some (.int (zI ↑(mLs ζ X s + 0)))]) (st' := [.int (zI ↑(mLs ζ X s + 0)), .int (zI ↑(mD2 ζ b X s (12 + s))), .int ((zI 12) + (zI ↑s)), .ref (ad 203)]) rfl ?_
                  rw [show (zI ↑(mD2 ζ b X s (12 + s)) : Int32) = zI ↑(X (12 + s)) from congrArg (fun n : Nat => zI ↑n) (mD2_l ζ b X s (by omega))]
                  refine v_icmp_le rfl (fun c115 => ?_) (fun c115 => ?_)
                  · simp (disch := omega) only [zI_lt, zI_le, zI_eq, zI_lt0, zI_le0, zI_0lt, zI_0le, zI_eq0] at c115
                    refine v_run 1 (pc' := 134) (ls' := [some (.ref (ad 200)), some (.int (zb b)), none, some (.int (zI ↑s)), some (.int (zI ↑(mLs ζ X s + 0)))]) (st' := [.int (zI 0), .int ((zI 12) + (zI ↑s)), .ref (ad 203)]) rfl ?_
                    refine v_iastore' rfl (hm.x hA (mD2 ζ b X s)).2.2 (i := (12 + s)) (zN_add 12 s) (by omega) ?_
                    rw [show (zI 0) = zI ↑(0 : Nat) from rfl, ar_upd, hset_hset]
                    rw [show (fun j => if j = 12 + s then 0 else mD2 ζ b X s j) = mD2 ζ b X (s + 1) from mD2_s ζ b X s _ (by omega) (by rw [if_neg (by rw [hb]; simp; omega)] <;> omega)]
                    refine v_run 2 (pc' := 55) (ls' := [some (.ref (ad 200)), some (.int (zb b)), none, some (.int ((zI ↑s) + zI 1)), some (.int (zI ↑(mLs ζ X s + 0)))]) (st' := []) rfl ?_
                    refine v_drop 4 (ls' := [some (.ref (ad 200)), some (.int (zb b)), none, some (.int ((zI ↑s) + zI 1)), none]) rfl ?_
                    rw [zI_s1]
                    exact ih2 (s + 1) (by omega) (by omega)
                  · simp (disch := omega) only [zI_lt, zI_le, zI_eq, zI_lt0, zI_le0, zI_0lt, zI_0le, zI_eq0] at c115
                    refine v_run 1 (pc' := 119) (ls' := [some (.ref (ad 200)), some (.int (zb b)), none, some (.int (zI ↑s)), some (.int (zI ↑(mLs ζ X s + 0)))]) (st' := [.ref (ad 200), .int ((zI 12) + (zI ↑s)), .ref (ad 203)]) rfl ?_
                    refine v_get rfl (hm.x hA (mD2 ζ b X s)).1 rfl ?_
                    refine v_run 3 (pc' := 126) (ls' := [some (.ref (ad 200)), some (.int (zb b)), none, some (.int (zI ↑s)), some (.int (zI ↑(mLs ζ X s + 0)))]) (st' := [.int ((zI 12) + (zI ↑s)), .ref (ad 203), .int ((zI 12) + (zI ↑s)), .ref (ad 203)]) rfl ?_
                    refine v_iaload' rfl (hm.x hA (mD2 ζ b X s)).2.2 (i := (12 + s)) (zN_add 12 s) (by omega) ?_
                    refine v_run 3 (pc' := 134) (ls' := [some (.ref (ad 200)), some (.int (zb b)), none, some (.int (zI ↑s)), some (.int (zI ↑(mLs ζ X s + 0)))]) (st' := [.int ((zI ↑(mD2 ζ b X s (12 + s))) - (zI ↑(mLs ζ X s + 0))), .int ((zI 12) + (zI ↑s)), .ref (ad 203)]) rfl ?_
                    rw [show (zI ↑(mD2 ζ b X s (12 + s)) : Int32) = zI ↑(X (12 + s)) from congrArg (fun n : Nat => zI ↑n) (mD2_l ζ b X s (by omega))]
                    rw [show ((zI ↑(X (12 + s))) - (zI ↑(mLs ζ X s + 0)) : Int32) = zI ↑(X (12 + s) - (mLs ζ X s + 0)) from zN_sub (by omega)]
                    refine v_iastore' rfl (hm.x hA (mD2 ζ b X s)).2.2 (i := (12 + s)) (zN_add 12 s) (by omega) ?_
                    rw [ar_upd, hset_hset]
                    rw [show (fun j => if j = 12 + s then X (12 + s) - (mLs ζ X s + 0) else mD2 ζ b X s j) = mD2 ζ b X (s + 1) from mD2_s ζ b X s _ (by omega) (by rw [if_neg (by rw [hb]; simp; omega)] <;> omega)]
                    refine v_run 2 (pc' := 55) (ls' := [some (.ref (ad 200)), some (.int (zb b)), none, some (.int ((zI ↑s) + zI 1)), some (.int (zI ↑(mLs ζ X s + 0)))]) (st' := []) rfl ?_
                    refine v_drop 4 (ls' := [some (.ref (ad 200)), some (.int (zb b)), none, some (.int ((zI ↑s) + zI 1)), none]) rfl ?_
                    rw [zI_s1]
                    exact ih2 (s + 1) (by omega) (by omega)
                · simp (disch := omega) only [zI_lt, zI_le, zI_eq, zI_lt0, zI_le0, zI_0lt, zI_0le, zI_eq0] at c85
                  refine v_run 4 (pc' := 96) (ls' := [some (.ref (ad 200)), some (.int (zb b)), none, some (.int (zI ↑s)), some (.int ((zI ↑(mLs ζ X s)) + (zI 3)))]) (st' := []) rfl ?_
                  rw [show ((zI ↑(mLs ζ X s)) + (zI 3) : Int32) = zI ↑(mLs ζ X s + 3) from zN_add _ 3]
                  refine v_run 1 (pc' := 97) (ls' := [some (.ref (ad 200)), some (.int (zb b)), none, some (.int (zI ↑s)), some (.int (zI ↑(mLs ζ X s + 3)))]) (st' := [.ref (ad 200)]) rfl ?_
                  refine v_get rfl (hm.x hA (mD2 ζ b X s)).1 rfl ?_
                  refine v_run 4 (pc' := 105) (ls' := [some (.ref (ad 200)), some (.int (zb b)), none, some (.int (zI ↑s)), some (.int (zI ↑(mLs ζ X s + 3)))]) (st' := [.ref (ad 200), .int ((zI 12) + (zI ↑s)), .ref (ad 203)]) rfl ?_
                  refine v_get rfl (hm.x hA (mD2 ζ b X s)).1 rfl ?_
                  refine v_run 3 (pc' := 112) (ls' := [some (.ref (ad 200)), some (.int (zb b)), none, some (.int (zI ↑s)), some (.int (zI ↑(mLs ζ X s + 3)))]) (st' := [.int ((zI 12) + (zI ↑s)), .ref (ad 203), .int ((zI 12) + (zI ↑s)), .ref (ad 203)]) rfl ?_
                  refine v_iaload' rfl (hm.x hA (mD2 ζ b X s)).2.2 (i := (12 + s)) (zN_add 12 s) (by omega) ?_
                  refine v_run 1 (pc' := 115) (ls' := [some (.ref (ad 200)), some (.int (zb b)), none, some (.int (zI ↑s)), some (.int (zI ↑(mLs ζ X s + 3)))]) (st' := [.int (zI ↑(mLs ζ X s + 3)), .int (zI ↑(mD2 ζ b X s (12 + s))), .int ((zI 12) + (zI ↑s)), .ref (ad 203)]) rfl ?_
                  rw [show (zI ↑(mD2 ζ b X s (12 + s)) : Int32) = zI ↑(X (12 + s)) from congrArg (fun n : Nat => zI ↑n) (mD2_l ζ b X s (by omega))]
                  refine v_icmp_le rfl (fun c115 => ?_) (fun c115 => ?_)
                  · simp (disch := omega) only [zI_lt, zI_le, zI_eq, zI_lt0, zI_le0, zI_0lt, zI_0le, zI_eq0] at c115
                    refine v_run 1 (pc' := 134) (ls' := [some (.ref (ad 200)), some (.int (zb b)), none, some (.int (zI ↑s)), some (.int (zI ↑(mLs ζ X s + 3)))]) (st' := [.int (zI 0), .int ((zI 12) + (zI ↑s)), .ref (ad 203)]) rfl ?_
                    refine v_iastore' rfl (hm.x hA (mD2 ζ b X s)).2.2 (i := (12 + s)) (zN_add 12 s) (by omega) ?_
                    rw [show (zI 0) = zI ↑(0 : Nat) from rfl, ar_upd, hset_hset]
                    rw [show (fun j => if j = 12 + s then 0 else mD2 ζ b X s j) = mD2 ζ b X (s + 1) from mD2_s ζ b X s _ (by omega) (by rw [if_pos (by rw [hb]; simp; omega)] <;> omega)]
                    refine v_run 2 (pc' := 55) (ls' := [some (.ref (ad 200)), some (.int (zb b)), none, some (.int ((zI ↑s) + zI 1)), some (.int (zI ↑(mLs ζ X s + 3)))]) (st' := []) rfl ?_
                    refine v_drop 4 (ls' := [some (.ref (ad 200)), some (.int (zb b)), none, some (.int ((zI ↑s) + zI 1)), none]) rfl ?_
                    rw [zI_s1]
                    exact ih2 (s + 1) (by omega) (by omega)
                  · simp (disch := omega) only [zI_lt, zI_le, zI_eq, zI_lt0, zI_le0, zI_0lt, zI_0le, zI_eq0] at c115
                    refine v_run 1 (pc' := 119) (ls' := [some (.ref (ad 200)), some (.int (zb b)), none, some (.int (zI ↑s)), some (.int (zI ↑(mLs ζ X s + 3)))]) (st' := [.ref (ad 200), .int ((zI 12) + (zI ↑s)), .ref (ad 203)]) rfl ?_
                    refine v_get rfl (hm.x hA (mD2 ζ b X s)).1 rfl ?_
                    refine v_run 3 (pc' := 126) (ls' := [some (.ref (ad 200)), some (.int (zb b)), none, some (.int (zI ↑s)), some (.int (zI ↑(mLs ζ X s + 3)))]) (st' := [.int ((zI 12) + (zI ↑s)), .ref (ad 203), .int ((zI 12) + (zI ↑s)), .ref (ad 203)]) rfl ?_
                    refine v_iaload' rfl (hm.x hA (mD2 ζ b X s)).2.2 (i := (12 + s)) (zN_add 12 s) (by omega) ?_
                    refine v_run 3 (pc' := 134) (ls' := [some (.ref (ad 200)), some (.int (zb b)), none, some (.int (zI ↑s)), some (.int (zI ↑(mLs ζ X s + 3)))]) (st' := [.int ((zI ↑(mD2 ζ b X s (12 + s))) - (zI ↑(mLs ζ X s + 3))), .int ((zI 12) + (zI ↑s)), .ref (ad 203)]) rfl ?_
                    rw [show (zI ↑(mD2 ζ b X s (12 + s)) : Int32) = zI ↑(X (12 + s)) from congrArg (fun n : Nat => zI ↑n) (mD2_l ζ b X s (by omega))]
                    rw [show ((zI ↑(X (12 + s))) - (zI ↑(mLs ζ X s + 3)) : Int32) = zI ↑(X (12 + s) - (mLs ζ X s + 3)) from zN_sub (by omega)]
                    refine v_iastore' rfl (hm.x hA (mD2 ζ b X s)).2.2 (i := (12 + s)) (zN_add 12 s) (by omega) ?_
                    rw [ar_upd, hset_hset]
                    rw [show (fun j => if j = 12 + s then X (12 + s) - (mLs ζ X s + 3) else mD2 ζ b X s j) = mD2 ζ b X (s + 1) from mD2_s ζ b X s _ (by omega) (by rw [if_pos (by rw [hb]; simp; omega)] <;> omega)]
                    refine v_run 2 (pc' := 55) (ls' := [some (.ref (ad 200)), some (.int (zb b)), none, some (.int ((zI ↑s) + zI 1)), some (.int (zI ↑(mLs ζ X s + 3)))]) (st' := []) rfl ?_
                    refine v_drop 4 (ls' := [some (.ref (ad 200)), some (.int (zb b)), none, some (.int ((zI ↑s) + zI 1)), none]) rfl ?_
                    rw [zI_s1]
                    exact ih2 (s + 1) (by omega) (by omega)
        exact lq (ζ 5 0 + 1) 0 (by omega) (by omega)
      · simp (disch := omega) only [zI_lt, zI_le, zI_eq, zI_lt0, zI_le0, zI_0lt, zI_0le, zI_eq0] at c15
        have q17 := z17 s
        refine v_run 1 (pc' := 19) (ls' := [some (.ref (ad 200)), some (.int (zb b)), some (.int (zI ↑(mG ζ X))), some (.int (zI ↑s)), none]) (st' := [.ref (ad 200)]) rfl ?_
        refine v_get rfl (hm.x hA (mD1 ζ X s)).1 rfl ?_
        refine v_run 0 (pc' := 22) (ls' := [some (.ref (ad 200)), some (.int (zb b)), some (.int (zI ↑(mG ζ X))), some (.int (zI ↑s)), none]) (st' := [.ref (ad 210)]) rfl ?_
        refine v_get rfl (hm.x hA (mD1 ζ X s)).2.1.1 rfl ?_
        refine v_run 1 (pc' := 26) (ls' := [some (.ref (ad 200)), some (.int (zb b)), some (.int (zI ↑(mG ζ X))), some (.int (zI ↑s)), none]) (st' := [.int (zI ↑s), .ref (Sf ad 210 17)]) rfl ?_
        refine v_iaload' rfl (hm.x hA (mD1 ζ X s)).2.1.2.2.2.2.2.2.1 (i := s) rfl (by omega) ?_
        refine v_run 1 (pc' := 28) (ls' := [some (.ref (ad 200)), some (.int (zb b)), some (.int (zI ↑(mG ζ X))), some (.int (zI ↑s)), none]) (st' := [.ref (ad 200), .int (zI ↑(ζ 17 s))]) rfl ?_
        refine v_get rfl (hm.x hA (mD1 ζ X s)).1 rfl ?_
        refine v_run 1 (pc' := 33) (ls' := [some (.ref (ad 200)), some (.int (zb b)), some (.int (zI ↑(mG ζ X))), some (.int (zI ↑s)), none]) (st' := [.int (zI 23), .ref (ad 203), .int (zI ↑(ζ 17 s))]) rfl ?_
        refine v_iaload' rfl (hm.x hA (mD1 ζ X s)).2.2 (i := 23) rfl (by decide) ?_
        refine v_run 0 (pc' := 34) (ls' := [some (.ref (ad 200)), some (.int (zb b)), some (.int (zI ↑(mG ζ X))), some (.int (zI ↑s)), none]) (st' := [.int (zI ↑(mD1 ζ X s 23)), .int (zI ↑(ζ 17 s))]) rfl ?_
        rw [show (zI ↑(mD1 ζ X s 23) : Int32) = zI ↑(X 23) from congrArg (fun n : Nat => zI ↑n) (mD1_23 ζ X s (by omega))]
        refine v_icmp_ne rfl (fun c34 => ?_) (fun c34 => ?_)
        · simp (disch := omega) only [zI_lt, zI_le, zI_eq, zI_lt0, zI_le0, zI_0lt, zI_0le, zI_eq0] at c34
          refine v_run 2 (pc' := 7) (ls' := [some (.ref (ad 200)), some (.int (zb b)), some (.int (zI ↑(mG ζ X))), some (.int ((zI ↑s) + zI 1)), none]) (st' := []) rfl ?_
          rw [zI_s1, mD1_f ζ X s (by omega)]
          exact ih (s + 1) (by omega) (by omega)
        · simp (disch := omega) only [zI_lt, zI_le, zI_eq, zI_lt0, zI_le0, zI_0lt, zI_0le, zI_eq0] at c34
          refine v_run 1 (pc' := 38) (ls' := [some (.ref (ad 200)), some (.int (zb b)), some (.int (zI ↑(mG ζ X))), some (.int (zI ↑s)), none]) (st' := [.ref (ad 200)]) rfl ?_
          refine v_get rfl (hm.x hA (mD1 ζ X s)).1 rfl ?_
          refine v_run 4 (pc' := 46) (ls' := [some (.ref (ad 200)), some (.int (zb b)), some (.int (zI ↑(mG ζ X))), some (.int (zI ↑s)), none]) (st' := [.int (zI ↑(mG ζ X)), .int ((zI 18) + (zI ↑s)), .ref (ad 203)]) rfl ?_
          refine v_iastore' rfl (hm.x hA (mD1 ζ X s)).2.2 (i := (18 + s)) (zN_add 18 s) (by omega) ?_
          rw [ar_upd, hset_hset, mD1_t ζ X s (by omega)]
          refine v_run 2 (pc' := 7) (ls' := [some (.ref (ad 200)), some (.int (zb b)), some (.int (zI ↑(mG ζ X))), some (.int ((zI ↑s) + zI 1)), none]) (st' := []) rfl ?_
          rw [zI_s1]
          exact ih (s + 1) (by omega) (by omega)
  have lr := lp (ζ 6 0 + 1) 0 (by omega) (by omega)
  rw [mD1_0, hset_same h hm.2.2] at lr
  exact lr

