def fwI (F : Nat → Nat) : Nat → Nat → Nat
  | 0, S => S
  | n + 1, S => if ¬ F n &&& fwI F n S = 0 then fwI F n S ||| 2 ^ n else fwI F n S
def fwO (F : Nat → Nat) (ac : Nat) : Nat → Nat → Nat
  | 0, S => S
  | m + 1, S => fwI F ac (fwO F ac m S)
theorem fwI_lt {F : Nat → Nat} : ∀ n {S}, n ≤ 5 → S < 32 → fwI F n S < 32
  | 0, _, _, h => h
  | n + 1, S, hn, h => by
    have h1 := fwI_lt (F := F) n (by omega) h
    have p5 : 2 ^ n < 2 ^ 5 := Nat.pow_lt_pow_right (a := 2) (by decide) (by omega)
    simp only [fwI]
    split
    · exact Nat.or_lt_two_pow (n := 5) h1 p5
    · exact h1
theorem fwO_lt {F : Nat → Nat} {ac : Nat} (h6 : ac ≤ 5) : ∀ m {S}, S < 32 → fwO F ac m S < 32
  | 0, _, h => h
  | m + 1, _, h => fwI_lt ac h6 (fwO_lt h6 m h)
def mWrG (ζ : Nat → Nat → Nat) (g : Nat) : Nat → Nat → Int
  | 0, _ => -2
  | n + 1, s => if ¬ ζ 20 s = 0 ∧ ¬ bitN g s = decide (ζ 20 s = 1) then (s : Int) else mWrG ζ g n (s + 1)
def mWr (ζ : Nat → Nat → Nat) (g : Nat) : Int := mWrG ζ g (ζ 6 0) 0
theorem zb_inj {a b : Bool} (h : zb a = zb b) : a = b := by
  cases a <;> cases b <;> first | rfl | (exfalso; revert h; decide +kernel)
theorem mSh_bd {v : Nat} {p o : Bool} (hv : v ≤ 20) : -2 ≤ cShare v p o ∧ cShare v p o ≤ 20 := by
  unfold cShare
  cases p <;> cases o <;> simp <;> omega
def mSs (ζ : Nat → Nat → Nat) (d s : Nat) (X : Nat → Nat) : Nat → Nat := fun j => if j = 12 + (ζ 9 0 - 1) then (if s < d then 99 else 0) else X j
def mSi (ζ : Nat → Nat → Nat) (d : Nat) : Nat → Nat → Nat
  | 0 => mTold ζ
  | s + 1 => mD ζ false (mSs ζ d s (mSi ζ d s))
theorem mTold_ok {ζ : Nat → Nat → Nat} (hz : SaOk ζ) : XOk (mTold ζ) := by
  obtain ⟨z0, z1, z2, z3, z4, z5, z6, z9, z12, z13, z14, z15, z16, z17, z18, z19, z20⟩ := id hz
  have e : ∀ k, k ≠ 24 → mTold ζ k = mTo ζ (ζ 5 0) k := fun k hk => by simp [mTold, hk]
  refine ⟨fun k hk => ?_, fun k hk => ?_, fun k hk => ?_, fun k hk => ?_, ?_, ?_, fun k hk => ?_⟩
  · rw [e k (by omega)]; simp only [mTo]
    split
    · exact z14 k
    · rw [if_neg (by omega), if_neg (by omega)]; decide
  · rw [e _ (by omega)]; simp only [mTo]; rw [if_neg (by omega)]
    split
    · exact z13 _
    · rw [if_neg (by omega)]; decide
  · rw [e _ (by omega)]; simp only [mTo]; rw [if_neg (by omega), if_neg (by omega)]
    split
    · exact z15 _
    · decide
  · rw [e _ (by omega)]; simp only [mTo]; rw [if_neg (by omega), if_neg (by omega), if_neg (by omega)]; decide
  · exact z3
  · rw [e _ (by omega)]; simp only [mTo]; rw [if_neg (by omega), if_neg (by omega), if_neg (by omega)]; decide
  · rw [e _ (by omega)]; simp only [mTo]; rw [if_neg (by omega), if_neg (by omega), if_neg (by omega)]
theorem mSs_23 {ζ : Nat → Nat → Nat} {d s : Nat} {X : Nat → Nat} (hz : SaOk ζ) : mSs ζ d s X 23 = X 23 := by
  obtain ⟨z0, z1, z2, z3, z4, z5, z6, z9, -⟩ := id hz
  simp only [mSs]; rw [if_neg (by omega)]
theorem mSs_ok {ζ : Nat → Nat → Nat} (hz : SaOk ζ) (hq : 1 ≤ ζ 9 0) (d s : Nat) {X : Nat → Nat} (hx : XOk X) : XOk (mSs ζ d s X) := by
  obtain ⟨z0, z1, z2, z3, z4, z5, z6, z9, -⟩ := id hz
  obtain ⟨x0, x6, x12, x18, x24, x25, x26⟩ := id hx
  refine ⟨fun k hk => ?_, fun k hk => ?_, fun k hk => ?_, fun k hk => ?_, ?_, ?_, fun k hk => ?_⟩
  · simp only [mSs]; rw [if_neg (by omega)]; exact x0 k hk
  · simp only [mSs]; rw [if_neg (by omega)]; exact x6 k hk
  · simp only [mSs]
    split
    · split <;> decide
    · exact x12 k hk
  · simp only [mSs]; rw [if_neg (by omega)]; exact x18 k hk
  · simp only [mSs]; rw [if_neg (by omega)]; exact x24
  · simp only [mSs]; rw [if_neg (by omega)]; exact x25
  · simp only [mSs]; rw [if_neg (by omega)]; exact x26 k hk
theorem mSi_ok {ζ : Nat → Nat → Nat} (hz : SaOk ζ) (hq : 1 ≤ ζ 9 0) (d : Nat) : ∀ s, XOk (mSi ζ d s)
  | 0 => mTold_ok hz
  | s + 1 => mD_ok hz (mSs_ok hz hq d s (mSi_ok hz hq d s))
theorem mD_23 (ζ : Nat → Nat → Nat) (b : Bool) (X : Nat → Nat) : mD ζ b X 23 = X 23 + 1 := rfl
theorem mSi_23 (ζ : Nat → Nat → Nat) (hz : SaOk ζ) (d : Nat) : ∀ s, mSi ζ d s 23 = s
  | 0 => by
    obtain ⟨z0, z1, z2, z3, z4, z5, z6, z9, -⟩ := id hz
    show mTold ζ 23 = 0
    simp only [mTold, mTo]
    rw [if_neg (by omega), if_neg (by omega), if_neg (by omega), if_neg (by omega)]
  | s + 1 => by
    show mD ζ false (mSs ζ d s (mSi ζ d s)) 23 = s + 1
    rw [mD_23, mSs_23 hz, mSi_23 ζ hz d s]
set_option maxRecDepth 100000 in
set_option maxHeartbeats 400000 in
theorem q_fallen (G : ssG) (h : ssH) {ad : Nat → Nat} {rv : Value} {m : Nat → Int} {ζ : Nat → Nat → Nat} {X : Nat → Nat} (v : Nat) (hA : ∀ k l, ad k = ad l → k = l) (hm : MX h ad rv m ζ X) (hz : SaOk ζ) (hx : XOk X) (hv : v < 32) : ssC G mX10_fallen 0 0 0 [.ref (ad 200), .int (zI ↑v)] h (rI (zI ↑(fwO (ζ 19) (ζ 6 0) (ζ 6 0) v)) h) := by
  refine c_of_v okX10_fallen (by decide +kernel) (ls := [some (.ref (ad 200)), some (.int (zI ↑v)), none, none, none]) rfl (Nat.le_of_ble_eq_true rfl) ?_
  obtain ⟨z0, z1, z2, z3, z4, z5, z6, z9, z12, z13, z14, z15, z16, z17, z18, z19, z20⟩ := id hz
  obtain ⟨x0, x6, x12, x18, x24, x25, x26⟩ := id hx
  refine v_run 4 (pc' := 4) (ls' := [some (.ref (ad 200)), some (.int (zI ↑v)), some (.int (zI ↑v)), some (.int (zI 0)), none]) (st' := []) rfl ?_
  refine v_drop 1 (ls' := [some (.ref (ad 200)), none, some (.int (zI ↑v)), some (.int (zI 0)), none]) rfl ?_
  have lp : ∀ (n s : Nat), s ≤ ζ 6 0 → ζ 6 0 + 1 ≤ s + n → ssV G mX10_fallen 0 0 0 (rI (zI ↑(fwO (ζ 19) (ζ 6 0) (ζ 6 0) v)) h) 4 [some (.ref (ad 200)), none, some (.int (zI ↑(fwO (ζ 19) (ζ 6 0) s v))), some (.int (zI ↑s)), none] [] h := by
    intro n
    induction n with
    | zero => intro s hs1 hs2; exact absurd hs2 (by omega)
    | succ n ih =>
      intro s hs1 hs2
      refine v_run 2 (pc' := 6) (ls' := [some (.ref (ad 200)), none, some (.int (zI ↑(fwO (ζ 19) (ζ 6 0) s v))), some (.int (zI ↑s)), none]) (st' := [.ref (ad 200), .int (zI ↑s)]) rfl ?_
      refine v_get rfl hm.1 rfl ?_
      refine v_run 0 (pc' := 9) (ls' := [some (.ref (ad 200)), none, some (.int (zI ↑(fwO (ζ 19) (ζ 6 0) s v))), some (.int (zI ↑s)), none]) (st' := [.ref (ad 210), .int (zI ↑s)]) rfl ?_
      refine v_get rfl hm.2.1.1 rfl ?_
      refine v_run 0 (pc' := 12) (ls' := [some (.ref (ad 200)), none, some (.int (zI ↑(fwO (ζ 19) (ζ 6 0) s v))), some (.int (zI ↑s)), none]) (st' := [.int (zI ↑(ζ 6 0)), .int (zI ↑s)]) rfl ?_
      refine v_icmp_ge rfl (fun c12 => ?_) (fun c12 => ?_)
      · simp (disch := omega) only [zI_lt, zI_le, zI_eq, zI_lt0, zI_le0, zI_0lt, zI_0le, zI_eq0] at c12
        refine v_run 1 (pc' := 65) (ls' := [some (.ref (ad 200)), none, some (.int (zI ↑(fwO (ζ 19) (ζ 6 0) s v))), some (.int (zI ↑s)), none]) (st' := [.int (zI ↑(fwO (ζ 19) (ζ 6 0) s v))]) rfl ?_
        exact v_iret rfl rfl rfl ⟨by rw [show s = ζ 6 0 by omega], rfl⟩
      · simp (disch := omega) only [zI_lt, zI_le, zI_eq, zI_lt0, zI_le0, zI_0lt, zI_0le, zI_eq0] at c12
        have o32 : fwO (ζ 19) (ζ 6 0) s v < 32 := fwO_lt z6 s hv
        refine v_run 2 (pc' := 18) (ls' := [some (.ref (ad 200)), none, some (.int (zI ↑(fwO (ζ 19) (ζ 6 0) s v))), some (.int (zI ↑s)), some (.int (zI 0))]) (st' := []) rfl ?_
        refine v_run 0 (pc' := 18) (ls' := [some (.ref (ad 200)), none, some (.int (zI ↑(fwI (ζ 19) 0 (fwO (ζ 19) (ζ 6 0) s v)))), some (.int (zI ↑s)), some (.int (zI ↑(0 : Nat)))]) (st' := []) rfl ?_
        have lq : ∀ (ni t : Nat), t ≤ ζ 6 0 → ζ 6 0 + 1 ≤ t + ni → ssV G mX10_fallen 0 0 0 (rI (zI ↑(fwO (ζ 19) (ζ 6 0) (ζ 6 0) v)) h) 18 [some (.ref (ad 200)), none, some (.int (zI ↑(fwI (ζ 19) t (fwO (ζ 19) (ζ 6 0) s v)))), some (.int (zI ↑s)), some (.int (zI ↑t))] [] h := by
          intro ni
          induction ni with
          | zero => intro t hi1 hi2; exact absurd hi2 (by omega)
          | succ ni ih2 =>
            intro t hi1 hi2
            have i32 : fwI (ζ 19) t (fwO (ζ 19) (ζ 6 0) s v) < 32 := fwI_lt t (by omega) o32
            have f32 := z19 t
            refine v_run 2 (pc' := 21) (ls' := [some (.ref (ad 200)), none, some (.int (zI ↑(fwI (ζ 19) t (fwO (ζ 19) (ζ 6 0) s v)))), some (.int (zI ↑s)), some (.int (zI ↑t))]) (st' := [.ref (ad 200), .int (zI ↑t)]) rfl ?_
            refine v_get rfl hm.1 rfl ?_
            refine v_run 0 (pc' := 24) (ls' := [some (.ref (ad 200)), none, some (.int (zI ↑(fwI (ζ 19) t (fwO (ζ 19) (ζ 6 0) s v)))), some (.int (zI ↑s)), some (.int (zI ↑t))]) (st' := [.ref (ad 210), .int (zI ↑t)]) rfl ?_
            refine v_get rfl hm.2.1.1 rfl ?_
            refine v_run 0 (pc' := 27) (ls' := [some (.ref (ad 200)), none, some (.int (zI ↑(fwI (ζ 19) t (fwO (ζ 19) (ζ 6 0) s v)))), some (.int (zI ↑s)), some (.int (zI ↑t))]) (st' := [.int (zI ↑(ζ 6 0)), .int (zI ↑t)]) rfl ?_
            refine v_icmp_ge rfl (fun c27 => ?_) (fun c27 => ?_)
            · simp (disch := omega) only [zI_lt, zI_le, zI_eq, zI_lt0, zI_le0, zI_0lt, zI_0le, zI_eq0] at c27
              refine v_run 2 (pc' := 4) (ls' := [some (.ref (ad 200)), none, some (.int (zI ↑(fwI (ζ 19) t (fwO (ζ 19) (ζ 6 0) s v)))), some (.int ((zI ↑s) + zI 1)), some (.int (zI ↑t))]) (st' := []) rfl ?_
              refine v_drop 4 (ls' := [some (.ref (ad 200)), none, some (.int (zI ↑(fwI (ζ 19) t (fwO (ζ 19) (ζ 6 0) s v)))), some (.int ((zI ↑s) + zI 1)), none]) rfl ?_
              rw [zI_s1, show fwI (ζ 19) t (fwO (ζ 19) (ζ 6 0) s v) = fwO (ζ 19) (ζ 6 0) (s + 1) v from by rw [show t = ζ 6 0 by omega]; rfl]
              exact ih (s + 1) (by omega) (by omega)
            · simp (disch := omega) only [zI_lt, zI_le, zI_eq, zI_lt0, zI_le0, zI_0lt, zI_0le, zI_eq0] at c27
              refine v_run 1 (pc' := 31) (ls' := [some (.ref (ad 200)), none, some (.int (zI ↑(fwI (ζ 19) t (fwO (ζ 19) (ζ 6 0) s v)))), some (.int (zI ↑s)), some (.int (zI ↑t))]) (st' := [.ref (ad 200)]) rfl ?_
              refine v_get rfl hm.1 rfl ?_
              refine v_run 0 (pc' := 34) (ls' := [some (.ref (ad 200)), none, some (.int (zI ↑(fwI (ζ 19) t (fwO (ζ 19) (ζ 6 0) s v)))), some (.int (zI ↑s)), some (.int (zI ↑t))]) (st' := [.ref (ad 210)]) rfl ?_
              refine v_get rfl hm.2.1.1 rfl ?_
              refine v_run 1 (pc' := 39) (ls' := [some (.ref (ad 200)), none, some (.int (zI ↑(fwI (ζ 19) t (fwO (ζ 19) (ζ 6 0) s v)))), some (.int (zI ↑s)), some (.int (zI ↑t))]) (st' := [.int (zI ↑t), .ref (Sf ad 210 19)]) rfl ?_
              refine v_iaload' rfl hm.2.1.2.2.2.2.2.2.2.2.1 (i := t) rfl (by omega) ?_
              refine v_run 2 (pc' := 42) (ls' := [some (.ref (ad 200)), none, some (.int (zI ↑(fwI (ζ 19) t (fwO (ζ 19) (ζ 6 0) s v)))), some (.int (zI ↑s)), some (.int (zI ↑t))]) (st' := [.int ((zI ↑(ζ 19 t)) &&& (zI ↑(fwI (ζ 19) t (fwO (ζ 19) (ζ 6 0) s v))))]) rfl ?_
              rw [show ((zI ↑(ζ 19 t)) &&& (zI ↑(fwI (ζ 19) t (fwO (ζ 19) (ζ 6 0) s v))) : Int32) = zI ↑(ζ 19 t &&& fwI (ζ 19) t (fwO (ζ 19) (ζ 6 0) s v)) from zI_land (by omega) (by omega)]
              have a32 : ζ 19 t &&& fwI (ζ 19) t (fwO (ζ 19) (ζ 6 0) s v) < 32 := Nat.lt_of_le_of_lt Nat.and_le_left f32
              refine v_if_eq rfl (fun c42 => ?_) (fun c42 => ?_)
              · simp (disch := omega) only [zI_lt, zI_le, zI_eq, zI_lt0, zI_le0, zI_0lt, zI_0le, zI_eq0] at c42
                refine v_run 2 (pc' := 18) (ls' := [some (.ref (ad 200)), none, some (.int (zI ↑(fwI (ζ 19) t (fwO (ζ 19) (ζ 6 0) s v)))), some (.int (zI ↑s)), some (.int ((zI ↑t) + zI 1))]) (st' := []) rfl ?_
                rw [zI_s1, show fwI (ζ 19) t (fwO (ζ 19) (ζ 6 0) s v) = fwI (ζ 19) (t + 1) (fwO (ζ 19) (ζ 6 0) s v) from by simp only [fwI]; rw [if_neg (by omega)]]
                exact ih2 (t + 1) (by omega) (by omega)
              · simp (disch := omega) only [zI_lt, zI_le, zI_eq, zI_lt0, zI_le0, zI_0lt, zI_0le, zI_eq0] at c42
                refine v_run 8 (pc' := 18) (ls' := [some (.ref (ad 200)), none, some (.int ((zI ↑(fwI (ζ 19) t (fwO (ζ 19) (ζ 6 0) s v))) ||| ((zI 1) <<< ((zI ↑t) &&& 31)))), some (.int (zI ↑s)), some (.int ((zI ↑t) + zI 1))]) (st' := []) rfl ?_
                rw [zI_s1, zI_1shl (by omega), zI_lor (by omega) (by have p5 := Nat.pow_le_pow_right (n := 2) (by decide) (show t ≤ 5 by omega); omega), show fwI (ζ 19) t (fwO (ζ 19) (ζ 6 0) s v) ||| 2 ^ t = fwI (ζ 19) (t + 1) (fwO (ζ 19) (ζ 6 0) s v) from by simp only [fwI]; rw [if_pos (by omega)]]
                exact ih2 (t + 1) (by omega) (by omega)
        exact lq (ζ 6 0 + 1) 0 (by omega) (by omega)
  exact lp (ζ 6 0 + 1) 0 (by omega) (by omega)

set_option maxRecDepth 100000 in
set_option maxHeartbeats 400000 in
theorem q_wrong (G : ssG) (h : ssH) {ad : Nat → Nat} {rv : Value} {m : Nat → Int} {ζ : Nat → Nat → Nat} {X : Nat → Nat} (v : Nat) (hA : ∀ k l, ad k = ad l → k = l) (hm : MX h ad rv m ζ X) (hz : SaOk ζ) (hx : XOk X) (hv : v < 32) : ssC G mX10_wrong 1 0 0 [.ref (ad 200), .int (zI ↑v)] h (rI (zI (mWr ζ v)) h) := by
  refine c_of_v okX10_wrong (by decide +kernel) (ls := [some (.ref (ad 200)), some (.int (zI ↑v)), none]) rfl (Nat.le_of_ble_eq_true rfl) ?_
  obtain ⟨z0, z1, z2, z3, z4, z5, z6, z9, z12, z13, z14, z15, z16, z17, z18, z19, z20⟩ := id hz
  obtain ⟨x0, x6, x12, x18, x24, x25, x26⟩ := id hx
  refine v_run 2 (pc' := 2) (ls' := [some (.ref (ad 200)), some (.int (zI ↑v)), some (.int (zI 0))]) (st' := []) rfl ?_
  have lp : ∀ (n s : Nat), (s ≤ ζ 6 0 ∧ mWrG ζ v (ζ 6 0 - s) s = mWr ζ v) → ζ 6 0 + 1 ≤ s + n → ssV G mX10_wrong 1 0 0 (rI (zI (mWr ζ v)) h) 2 [some (.ref (ad 200)), some (.int (zI ↑v)), some (.int (zI ↑s))] [] h := by
    intro n
    induction n with
    | zero => intro s hs1 hs2; exact absurd hs2 (by omega)
    | succ n ih =>
      intro s hs1 hs2
      refine v_run 2 (pc' := 4) (ls' := [some (.ref (ad 200)), some (.int (zI ↑v)), some (.int (zI ↑s))]) (st' := [.ref (ad 200), .int (zI ↑s)]) rfl ?_
      refine v_get rfl hm.1 rfl ?_
      refine v_run 0 (pc' := 7) (ls' := [some (.ref (ad 200)), some (.int (zI ↑v)), some (.int (zI ↑s))]) (st' := [.ref (ad 210), .int (zI ↑s)]) rfl ?_
      refine v_get rfl hm.2.1.1 rfl ?_
      refine v_run 0 (pc' := 10) (ls' := [some (.ref (ad 200)), some (.int (zI ↑v)), some (.int (zI ↑s))]) (st' := [.int (zI ↑(ζ 6 0)), .int (zI ↑s)]) rfl ?_
      refine v_icmp_ge rfl (fun c10 => ?_) (fun c10 => ?_)
      · simp (disch := omega) only [zI_lt, zI_le, zI_eq, zI_lt0, zI_le0, zI_0lt, zI_0le, zI_eq0] at c10
        refine v_run 1 (pc' := 61) (ls' := [some (.ref (ad 200)), some (.int (zI ↑v)), some (.int (zI ↑s))]) (st' := [.int (zI (-2))]) rfl ?_
        exact v_iret rfl rfl rfl ⟨by rw [← hs1.2, show ζ 6 0 - s = 0 by omega]; rfl, rfl⟩
      · simp (disch := omega) only [zI_lt, zI_le, zI_eq, zI_lt0, zI_le0, zI_0lt, zI_0le, zI_eq0] at c10
        have q1 := z20 s
        have e0 := hs1.2
        rw [show ζ 6 0 - s = (ζ 6 0 - (s + 1)) + 1 by omega, mWrG] at e0
        refine v_run 1 (pc' := 14) (ls' := [some (.ref (ad 200)), some (.int (zI ↑v)), some (.int (zI ↑s))]) (st' := [.ref (ad 200)]) rfl ?_
        refine v_get rfl hm.1 rfl ?_
        refine v_run 0 (pc' := 17) (ls' := [some (.ref (ad 200)), some (.int (zI ↑v)), some (.int (zI ↑s))]) (st' := [.ref (ad 210)]) rfl ?_
        refine v_get rfl hm.2.1.1 rfl ?_
        refine v_run 1 (pc' := 21) (ls' := [some (.ref (ad 200)), some (.int (zI ↑v)), some (.int (zI ↑s))]) (st' := [.int (zI ↑s), .ref (Sf ad 210 20)]) rfl ?_
        refine v_iaload' rfl hm.2.1.2.2.2.2.2.2.2.2.2 (i := s) rfl (by omega) ?_
        refine v_run 0 (pc' := 22) (ls' := [some (.ref (ad 200)), some (.int (zI ↑v)), some (.int (zI ↑s))]) (st' := [.int (zI ↑(ζ 20 s))]) rfl ?_
        refine v_if_eq rfl (fun c22 => ?_) (fun c22 => ?_)
        · simp (disch := omega) only [zI_lt, zI_le, zI_eq, zI_lt0, zI_le0, zI_0lt, zI_0le, zI_eq0] at c22
          refine v_run 2 (pc' := 2) (ls' := [some (.ref (ad 200)), some (.int (zI ↑v)), some (.int ((zI ↑s) + zI 1))]) (st' := []) rfl ?_
          rw [zI_s1]
          exact ih (s + 1) ⟨by omega, by rw [← e0, if_neg (by omega)]⟩ (by omega)
        · simp (disch := omega) only [zI_lt, zI_le, zI_eq, zI_lt0, zI_le0, zI_0lt, zI_0le, zI_eq0] at c22
          refine v_run 2 (pc' := 27) (ls' := [some (.ref (ad 200)), some (.int (zI ↑v)), some (.int (zI ↑s))]) (st' := [.int (zI ↑s), .int (zI ↑v)]) rfl ?_
          refine v_callS (My := mX10_bit) (As := [.int (zI ↑v), .int (zI ↑s)]) (rest := []) (mc := 0) (ms := 0) rfl caX10_bit rfl rfl (q_bit G _ v s (by omega) (by omega)) rfl rfl (Nat.le_of_ble_eq_true rfl) (by omega) ?_
          rintro _ _ ⟨rfl, rfl⟩
          refine v_run 0 (pc' := 30) (ls' := [some (.ref (ad 200)), some (.int (zI ↑v)), some (.int (zI ↑s))]) (st' := [.int (zb (bitN v s))]) rfl ?_
          refine v_run 1 (pc' := 31) (ls' := [some (.ref (ad 200)), some (.int (zI ↑v)), some (.int (zI ↑s))]) (st' := [.ref (ad 200), .int (zb (bitN v s))]) rfl ?_
          refine v_get rfl hm.1 rfl ?_
          refine v_run 0 (pc' := 34) (ls' := [some (.ref (ad 200)), some (.int (zI ↑v)), some (.int (zI ↑s))]) (st' := [.ref (ad 210), .int (zb (bitN v s))]) rfl ?_
          refine v_get rfl hm.2.1.1 rfl ?_
          refine v_run 1 (pc' := 38) (ls' := [some (.ref (ad 200)), some (.int (zI ↑v)), some (.int (zI ↑s))]) (st' := [.int (zI ↑s), .ref (Sf ad 210 20), .int (zb (bitN v s))]) rfl ?_
          refine v_iaload' rfl hm.2.1.2.2.2.2.2.2.2.2.2 (i := s) rfl (by omega) ?_
          refine v_run 1 (pc' := 40) (ls' := [some (.ref (ad 200)), some (.int (zI ↑v)), some (.int (zI ↑s))]) (st' := [.int (zI 1), .int (zI ↑(ζ 20 s)), .int (zb (bitN v s))]) rfl ?_
          refine v_icmp_ne rfl (fun c40 => ?_) (fun c40 => ?_)
          · simp (disch := omega) only [zI_lt, zI_le, zI_eq, zI_lt0, zI_le0, zI_0lt, zI_0le, zI_eq0] at c40
            refine v_run 1 (pc' := 48) (ls' := [some (.ref (ad 200)), some (.int (zI ↑v)), some (.int (zI ↑s))]) (st' := [.int (zI 0), .int (zb (bitN v s))]) rfl ?_
            rw [show (zI 0) = zb false from rfl]
            refine v_icmp_eq rfl (fun c48 => ?_) (fun c48 => ?_)
            · have ee : bitN v s = false := zb_inj c48
              refine v_run 2 (pc' := 2) (ls' := [some (.ref (ad 200)), some (.int (zI ↑v)), some (.int ((zI ↑s) + zI 1))]) (st' := []) rfl ?_
              rw [zI_s1]
              exact ih (s + 1) ⟨by omega, by rw [← e0, if_neg (by rw [ee]; simp; omega)]⟩ (by omega)
            · have ee : ¬ bitN v s = false := fun e => c48 (by rw [e])
              refine v_run 1 (pc' := 52) (ls' := [some (.ref (ad 200)), some (.int (zI ↑v)), some (.int (zI ↑s))]) (st' := [.int (zI ↑s)]) rfl ?_
              exact v_iret rfl rfl rfl ⟨by rw [← e0, if_pos ⟨by omega, by rw [show decide (ζ 20 s = 1) = false from by simp; omega]; exact ee⟩], rfl⟩
          · simp (disch := omega) only [zI_lt, zI_le, zI_eq, zI_lt0, zI_le0, zI_0lt, zI_0le, zI_eq0] at c40
            refine v_run 2 (pc' := 48) (ls' := [some (.ref (ad 200)), some (.int (zI ↑v)), some (.int (zI ↑s))]) (st' := [.int (zI 1), .int (zb (bitN v s))]) rfl ?_
            rw [show (zI 1) = zb true from rfl]
            refine v_icmp_eq rfl (fun c48 => ?_) (fun c48 => ?_)
            · have ee : bitN v s = true := zb_inj c48
              refine v_run 2 (pc' := 2) (ls' := [some (.ref (ad 200)), some (.int (zI ↑v)), some (.int ((zI ↑s) + zI 1))]) (st' := []) rfl ?_
              rw [zI_s1]
              exact ih (s + 1) ⟨by omega, by rw [← e0, if_neg (by rw [ee]; simp; omega)]⟩ (by omega)
            · have ee : ¬ bitN v s = true := fun e => c48 (by rw [e])
              refine v_run 1 (pc' := 52) (ls' := [some (.ref (ad 200)), some (.int (zI ↑v)), some (.int (zI ↑s))]) (st' := [.int (zI ↑s)]) rfl ?_
              exact v_iret rfl rfl rfl ⟨by rw [← e0, if_pos ⟨by omega, by rw [show decide (ζ 20 s = 1) = true from by simp; omega]; exact ee⟩], rfl⟩
  exact lp (ζ 6 0 + 1) 0 ⟨by omega, rfl⟩ (by omega)

set_option maxRecDepth 100000 in
set_option maxHeartbeats 400000 in
theorem q_gets (G : ssG) (h : ssH) (v : Nat) (p o : Bool) (hv : v ≤ 20) : ssC G mX10_gets 0 0 0 [.int (zI ↑v), .int (zb p), .int (zb o)] h (rI (zI (cShare v p o)) h) := by
  refine c_of_v okX10_gets (by decide +kernel) (ls := [some (.int (zI ↑v)), some (.int (zb p)), some (.int (zb o))]) rfl (Nat.le_of_ble_eq_true rfl) ?_
  refine v_run 1 (pc' := 1) (ls' := [some (.int (zI ↑v)), some (.int (zb p)), some (.int (zb o))]) (st' := [.int (zb p)]) rfl ?_
  refine v_if_eq rfl (fun c1 => ?_) (fun c1 => ?_)
  · rw [zb_0] at c1
    refine v_run 1 (pc' := 21) (ls' := [some (.int (zI ↑v)), some (.int (zb p)), some (.int (zb o))]) (st' := [.int (zb o)]) rfl ?_
    refine v_if_eq rfl (fun c21 => ?_) (fun c21 => ?_)
    · rw [zb_0] at c21
      refine v_run 1 (pc' := 29) (ls' := [some (.int (zI ↑v)), some (.int (zb p)), some (.int (zb o))]) (st' := [.int (zI 0)]) rfl ?_
      exact v_iret rfl rfl rfl ⟨by rw [cShare, c1, c21]; rfl, rfl⟩
    · rw [zb_0, Bool.not_eq_false] at c21
      refine v_run 2 (pc' := 29) (ls' := [some (.int (zI ↑v)), some (.int (zb p)), some (.int (zb o))]) (st' := [.int (zI 1)]) rfl ?_
      exact v_iret rfl rfl rfl ⟨by rw [cShare, c1, c21]; rfl, rfl⟩
  · rw [zb_0, Bool.not_eq_false] at c1
    refine v_run 1 (pc' := 5) (ls' := [some (.int (zI ↑v)), some (.int (zb p)), some (.int (zb o))]) (st' := [.int (zb o)]) rfl ?_
    refine v_if_eq rfl (fun c5 => ?_) (fun c5 => ?_)
    · rw [zb_0] at c5
      refine v_run 2 (pc' := 29) (ls' := [some (.int (zI ↑v)), some (.int (zb p)), some (.int (zb o))]) (st' := [.int (zI ↑v)]) rfl ?_
      exact v_iret rfl rfl rfl ⟨by rw [cShare, c1, c5]; rfl, rfl⟩
    · rw [zb_0, Bool.not_eq_false] at c5
      refine v_run 2 (pc' := 10) (ls' := [some (.int (zI ↑v)), some (.int (zb p)), some (.int (zb o))]) (st' := [.int (zI 2), .int (zI ↑v)]) rfl ?_
      refine v_idiv rfl (zI_ne0 (by decide) (by decide)) ?_
      refine v_run 3 (pc' := 29) (ls' := [some (.int (zI ↑v)), some (.int (zb p)), some (.int (zb o))]) (st' := [.int ((zI ↑v / zI 2) - (zI 2))]) rfl ?_
      exact v_iret rfl rfl rfl ⟨by rw [cShare, c1, c5, show (zI 2) = zI ((2 : Nat) : Int) from rfl, zN_div (by omega) (by omega) (by omega), zI_sub]; rfl, rfl⟩

set_option maxRecDepth 100000 in
set_option maxHeartbeats 400000 in
theorem q_isRest (G : ssG) (h : ssH) (v k : Nat) (hv : v ≤ 20) (hk : k < 4) : ssC G mX10_isRest 1 0 0 [.int (zI ↑v), .int (zI ↑k)] h (rI (zb (cRest v k)) h) := by
  refine c_of_v okX10_isRest (by decide +kernel) (ls := [some (.int (zI ↑v)), some (.int (zI ↑k)), none, none]) rfl (Nat.le_of_ble_eq_true rfl) ?_
  have hb := fun p o => mSh_bd (p := p) (o := o) hv
  refine v_run 2 (pc' := 2) (ls' := [some (.int (zI ↑v)), some (.int (zI ↑k)), none, none]) (st' := [.int (zI 1), .int (zI ↑k)]) rfl ?_
  refine v_icmp_le rfl (fun c2 => ?_) (fun c2 => ?_)
  · simp (disch := omega) only [zI_lt, zI_le, zI_eq, zI_lt0, zI_le0, zI_0lt, zI_0le, zI_eq0] at c2
    refine v_run 4 (pc' := 13) (ls' := [some (.int (zI ↑v)), some (.int (zI ↑k)), some (.int (zI 0)), none]) (st' := [.int (zI 2), .int (zI ↑k)]) rfl ?_
    refine v_irem rfl (zI_ne0 (by decide) (by decide)) ?_
    rw [show ((zI ↑k - zI ↑k / zI 2 * zI 2) : Int32) = zI ↑(k % 2) from by rw [show (zI 2) = zI ((2 : Nat) : Int) from rfl, zN_rem (by omega) (by omega) (by omega)]]
    refine v_run 1 (pc' := 15) (ls' := [some (.int (zI ↑v)), some (.int (zI ↑k)), some (.int (zI 0)), none]) (st' := [.int (zI 1), .int (zI ↑(k % 2))]) rfl ?_
    refine v_icmp_ne rfl (fun c15 => ?_) (fun c15 => ?_)
    · simp (disch := omega) only [zI_lt, zI_le, zI_eq, zI_lt0, zI_le0, zI_0lt, zI_0le, zI_eq0] at c15
      refine v_run 2 (pc' := 24) (ls' := [some (.int (zI ↑v)), some (.int (zI ↑k)), some (.int (zI 0)), some (.int (zI 0))]) (st' := []) rfl ?_
      refine v_run 0 (pc' := 24) (ls' := [some (.int (zI ↑v)), some (.int (zI ↑k)), some (.int (zb false)), some (.int (zb false))]) (st' := []) rfl ?_
      refine v_run 2 (pc' := 26) (ls' := [some (.int (zI ↑v)), some (.int (zI ↑k)), some (.int (zb false)), some (.int (zb false))]) (st' := [.int (zb false), .int (zI ↑v)]) rfl ?_
      refine v_if_ne rfl (fun c26 => ?_) (fun c26 => ?_)
      · exact absurd c26 (by decide +kernel)
      · refine v_run 3 (pc' := 35) (ls' := [some (.int (zI ↑v)), some (.int (zI ↑k)), some (.int (zb false)), some (.int (zb false))]) (st' := [.int (zb false), .int (zI 1), .int (zI ↑v)]) rfl ?_
        refine v_run 0 (pc' := 35) (ls' := [some (.int (zI ↑v)), some (.int (zI ↑k)), some (.int (zb false)), some (.int (zb false))]) (st' := [.int (zb false), .int (zb true), .int (zI ↑v)]) rfl ?_
        refine v_callS (My := mX10_gets) (As := [.int (zI ↑v), .int (zb true), .int (zb false)]) (rest := []) (mc := 0) (ms := 0) rfl caX10_gets rfl rfl (q_gets G _ v true false hv) rfl rfl (Nat.le_of_ble_eq_true rfl) (by omega) ?_
        rintro _ _ ⟨rfl, rfl⟩
        refine v_run 0 (pc' := 38) (ls' := [some (.int (zI ↑v)), some (.int (zI ↑k)), some (.int (zb false)), some (.int (zb false))]) (st' := [.int (zI (cShare v true false))]) rfl ?_
        refine v_run 3 (pc' := 41) (ls' := [some (.int (zI ↑v)), some (.int (zI ↑k)), some (.int (zb false)), some (.int (zb false))]) (st' := [.int (zb false), .int (zb false), .int (zI ↑v), .int (zI (cShare v true false))]) rfl ?_
        refine v_callS (My := mX10_gets) (As := [.int (zI ↑v), .int (zb false), .int (zb false)]) (rest := [.int (zI (cShare v true false))]) (mc := 0) (ms := 0) rfl caX10_gets rfl rfl (q_gets G _ v false false hv) rfl rfl (Nat.le_of_ble_eq_true rfl) (by omega) ?_
        rintro _ _ ⟨rfl, rfl⟩
        refine v_run 0 (pc' := 44) (ls' := [some (.int (zI ↑v)), some (.int (zI ↑k)), some (.int (zb false)), some (.int (zb false))]) (st' := [.int (zI (cShare v false false)), .int (zI (cShare v true false))]) rfl ?_
        have h1 := hb true false
        have h2 := hb false false
        have h3 := hb true false
        have h4 := hb false false
        refine v_icmp_gt rfl (fun c44 => ?_) (fun c44 => ?_)
        · simp (disch := omega) only [zI_lt, zI_le, zI_eq, zI_lt0, zI_le0, zI_0lt, zI_0le, zI_eq0] at c44
          refine v_run 1 (pc' := 75) (ls' := [some (.int (zI ↑v)), some (.int (zI ↑k)), some (.int (zb false)), some (.int (zb false))]) (st' := [.int (zI 0)]) rfl ?_
          exact v_iret rfl rfl rfl ⟨by rw [cRest, show decide (2 ≤ k) = false from by simp; omega, show decide (k % 2 = 1) = false from by simp; omega, zb, if_neg (by simp only [decide_eq_true_eq, Bool.not_true, Bool.not_false]; omega)], rfl⟩
        · simp (disch := omega) only [zI_lt, zI_le, zI_eq, zI_lt0, zI_le0, zI_0lt, zI_0le, zI_eq0] at c44
          refine v_run 2 (pc' := 49) (ls' := [some (.int (zI ↑v)), some (.int (zI ↑k)), some (.int (zb false)), some (.int (zb false))]) (st' := [.int (zb false), .int (zI ↑v)]) rfl ?_
          refine v_if_ne rfl (fun c49 => ?_) (fun c49 => ?_)
          · exact absurd c49 (by decide +kernel)
          · refine v_run 3 (pc' := 58) (ls' := [some (.int (zI ↑v)), some (.int (zI ↑k)), some (.int (zb false)), some (.int (zb false))]) (st' := [.int (zb false), .int (zI 1), .int (zI ↑v)]) rfl ?_
            refine v_run 0 (pc' := 58) (ls' := [some (.int (zI ↑v)), some (.int (zI ↑k)), some (.int (zb false)), some (.int (zb false))]) (st' := [.int (zb false), .int (zb true), .int (zI ↑v)]) rfl ?_
            refine v_callS (My := mX10_gets) (As := [.int (zI ↑v), .int (zb true), .int (zb false)]) (rest := []) (mc := 0) (ms := 0) rfl caX10_gets rfl rfl (q_gets G _ v true false hv) rfl rfl (Nat.le_of_ble_eq_true rfl) (by omega) ?_
            rintro _ _ ⟨rfl, rfl⟩
            refine v_run 0 (pc' := 61) (ls' := [some (.int (zI ↑v)), some (.int (zI ↑k)), some (.int (zb false)), some (.int (zb false))]) (st' := [.int (zI (cShare v true false))]) rfl ?_
            refine v_run 3 (pc' := 64) (ls' := [some (.int (zI ↑v)), some (.int (zI ↑k)), some (.int (zb false)), some (.int (zb false))]) (st' := [.int (zb false), .int (zb false), .int (zI ↑v), .int (zI (cShare v true false))]) rfl ?_
            refine v_callS (My := mX10_gets) (As := [.int (zI ↑v), .int (zb false), .int (zb false)]) (rest := [.int (zI (cShare v true false))]) (mc := 0) (ms := 0) rfl caX10_gets rfl rfl (q_gets G _ v false false hv) rfl rfl (Nat.le_of_ble_eq_true rfl) (by omega) ?_
            rintro _ _ ⟨rfl, rfl⟩
            refine v_run 0 (pc' := 67) (ls' := [some (.int (zI ↑v)), some (.int (zI ↑k)), some (.int (zb false)), some (.int (zb false))]) (st' := [.int (zI (cShare v false false)), .int (zI (cShare v true false))]) rfl ?_
            refine v_icmp_gt rfl (fun c67 => ?_) (fun c67 => ?_)
            · simp (disch := omega) only [zI_lt, zI_le, zI_eq, zI_lt0, zI_le0, zI_0lt, zI_0le, zI_eq0] at c67
              refine v_run 1 (pc' := 75) (ls' := [some (.int (zI ↑v)), some (.int (zI ↑k)), some (.int (zb false)), some (.int (zb false))]) (st' := [.int (zI 0)]) rfl ?_
              exact v_iret rfl rfl rfl ⟨by rw [cRest, show decide (2 ≤ k) = false from by simp; omega, show decide (k % 2 = 1) = false from by simp; omega, zb, if_neg (by simp only [decide_eq_true_eq, Bool.not_true, Bool.not_false]; omega)], rfl⟩
            · simp (disch := omega) only [zI_lt, zI_le, zI_eq, zI_lt0, zI_le0, zI_0lt, zI_0le, zI_eq0] at c67
              refine v_run 2 (pc' := 75) (ls' := [some (.int (zI ↑v)), some (.int (zI ↑k)), some (.int (zb false)), some (.int (zb false))]) (st' := [.int (zI 1)]) rfl ?_
              exact v_iret rfl rfl rfl ⟨by rw [cRest, show decide (2 ≤ k) = false from by simp; omega, show decide (k % 2 = 1) = false from by simp; omega, zb, if_pos (by simp only [decide_eq_true_eq, Bool.not_true, Bool.not_false]; omega)], rfl⟩
    · simp (disch := omega) only [zI_lt, zI_le, zI_eq, zI_lt0, zI_le0, zI_0lt, zI_0le, zI_eq0] at c15
      refine v_run 3 (pc' := 24) (ls' := [some (.int (zI ↑v)), some (.int (zI ↑k)), some (.int (zI 0)), some (.int (zI 1))]) (st' := []) rfl ?_
      refine v_run 0 (pc' := 24) (ls' := [some (.int (zI ↑v)), some (.int (zI ↑k)), some (.int (zb false)), some (.int (zb true))]) (st' := []) rfl ?_
      refine v_run 2 (pc' := 26) (ls' := [some (.int (zI ↑v)), some (.int (zI ↑k)), some (.int (zb false)), some (.int (zb true))]) (st' := [.int (zb false), .int (zI ↑v)]) rfl ?_
      refine v_if_ne rfl (fun c26 => ?_) (fun c26 => ?_)
      · exact absurd c26 (by decide +kernel)
      · refine v_run 3 (pc' := 35) (ls' := [some (.int (zI ↑v)), some (.int (zI ↑k)), some (.int (zb false)), some (.int (zb true))]) (st' := [.int (zb true), .int (zI 1), .int (zI ↑v)]) rfl ?_
        refine v_run 0 (pc' := 35) (ls' := [some (.int (zI ↑v)), some (.int (zI ↑k)), some (.int (zb false)), some (.int (zb true))]) (st' := [.int (zb true), .int (zb true), .int (zI ↑v)]) rfl ?_
        refine v_callS (My := mX10_gets) (As := [.int (zI ↑v), .int (zb true), .int (zb true)]) (rest := []) (mc := 0) (ms := 0) rfl caX10_gets rfl rfl (q_gets G _ v true true hv) rfl rfl (Nat.le_of_ble_eq_true rfl) (by omega) ?_
        rintro _ _ ⟨rfl, rfl⟩
        refine v_run 0 (pc' := 38) (ls' := [some (.int (zI ↑v)), some (.int (zI ↑k)), some (.int (zb false)), some (.int (zb true))]) (st' := [.int (zI (cShare v true true))]) rfl ?_
        refine v_run 3 (pc' := 41) (ls' := [some (.int (zI ↑v)), some (.int (zI ↑k)), some (.int (zb false)), some (.int (zb true))]) (st' := [.int (zb true), .int (zb false), .int (zI ↑v), .int (zI (cShare v true true))]) rfl ?_
        refine v_callS (My := mX10_gets) (As := [.int (zI ↑v), .int (zb false), .int (zb true)]) (rest := [.int (zI (cShare v true true))]) (mc := 0) (ms := 0) rfl caX10_gets rfl rfl (q_gets G _ v false true hv) rfl rfl (Nat.le_of_ble_eq_true rfl) (by omega) ?_
        rintro _ _ ⟨rfl, rfl⟩
        refine v_run 0 (pc' := 44) (ls' := [some (.int (zI ↑v)), some (.int (zI ↑k)), some (.int (zb false)), some (.int (zb true))]) (st' := [.int (zI (cShare v false true)), .int (zI (cShare v true true))]) rfl ?_
        have h1 := hb true true
        have h2 := hb false true
        have h3 := hb false false
        have h4 := hb true false
        refine v_icmp_gt rfl (fun c44 => ?_) (fun c44 => ?_)
        · simp (disch := omega) only [zI_lt, zI_le, zI_eq, zI_lt0, zI_le0, zI_0lt, zI_0le, zI_eq0] at c44
          refine v_run 1 (pc' := 75) (ls' := [some (.int (zI ↑v)), some (.int (zI ↑k)), some (.int (zb false)), some (.int (zb true))]) (st' := [.int (zI 0)]) rfl ?_
          exact v_iret rfl rfl rfl ⟨by rw [cRest, show decide (2 ≤ k) = false from by simp; omega, show decide (k % 2 = 1) = true from by simp; omega, zb, if_neg (by simp only [decide_eq_true_eq, Bool.not_true, Bool.not_false]; omega)], rfl⟩
        · simp (disch := omega) only [zI_lt, zI_le, zI_eq, zI_lt0, zI_le0, zI_0lt, zI_0le, zI_eq0] at c44
          refine v_run 2 (pc' := 49) (ls' := [some (.int (zI ↑v)), some (.int (zI ↑k)), some (.int (zb false)), some (.int (zb true))]) (st' := [.int (zb true), .int (zI ↑v)]) rfl ?_
          refine v_if_ne rfl (fun c49 => ?_) (fun c49 => ?_)
          · refine v_run 2 (pc' := 58) (ls' := [some (.int (zI ↑v)), some (.int (zI ↑k)), some (.int (zb false)), some (.int (zb true))]) (st' := [.int (zb false), .int (zI 0), .int (zI ↑v)]) rfl ?_
            refine v_run 0 (pc' := 58) (ls' := [some (.int (zI ↑v)), some (.int (zI ↑k)), some (.int (zb false)), some (.int (zb true))]) (st' := [.int (zb false), .int (zb false), .int (zI ↑v)]) rfl ?_
            refine v_callS (My := mX10_gets) (As := [.int (zI ↑v), .int (zb false), .int (zb false)]) (rest := []) (mc := 0) (ms := 0) rfl caX10_gets rfl rfl (q_gets G _ v false false hv) rfl rfl (Nat.le_of_ble_eq_true rfl) (by omega) ?_
            rintro _ _ ⟨rfl, rfl⟩
            refine v_run 0 (pc' := 61) (ls' := [some (.int (zI ↑v)), some (.int (zI ↑k)), some (.int (zb false)), some (.int (zb true))]) (st' := [.int (zI (cShare v false false))]) rfl ?_
            refine v_run 3 (pc' := 64) (ls' := [some (.int (zI ↑v)), some (.int (zI ↑k)), some (.int (zb false)), some (.int (zb true))]) (st' := [.int (zb false), .int (zb true), .int (zI ↑v), .int (zI (cShare v false false))]) rfl ?_
            refine v_callS (My := mX10_gets) (As := [.int (zI ↑v), .int (zb true), .int (zb false)]) (rest := [.int (zI (cShare v false false))]) (mc := 0) (ms := 0) rfl caX10_gets rfl rfl (q_gets G _ v true false hv) rfl rfl (Nat.le_of_ble_eq_true rfl) (by omega) ?_
            rintro _ _ ⟨rfl, rfl⟩
            refine v_run 0 (pc' := 67) (ls' := [some (.int (zI ↑v)), some (.int (zI ↑k)), some (.int (zb false)), some (.int (zb true))]) (st' := [.int (zI (cShare v true false)), .int (zI (cShare v false false))]) rfl ?_
            refine v_icmp_gt rfl (fun c67 => ?_) (fun c67 => ?_)
            · simp (disch := omega) only [zI_lt, zI_le, zI_eq, zI_lt0, zI_le0, zI_0lt, zI_0le, zI_eq0] at c67
              refine v_run 1 (pc' := 75) (ls' := [some (.int (zI ↑v)), some (.int (zI ↑k)), some (.int (zb false)), some (.int (zb true))]) (st' := [.int (zI 0)]) rfl ?_
              exact v_iret rfl rfl rfl ⟨by rw [cRest, show decide (2 ≤ k) = false from by simp; omega, show decide (k % 2 = 1) = true from by simp; omega, zb, if_neg (by simp only [decide_eq_true_eq, Bool.not_true, Bool.not_false]; omega)], rfl⟩
            · simp (disch := omega) only [zI_lt, zI_le, zI_eq, zI_lt0, zI_le0, zI_0lt, zI_0le, zI_eq0] at c67
              refine v_run 2 (pc' := 75) (ls' := [some (.int (zI ↑v)), some (.int (zI ↑k)), some (.int (zb false)), some (.int (zb true))]) (st' := [.int (zI 1)]) rfl ?_
              exact v_iret rfl rfl rfl ⟨by rw [cRest, show decide (2 ≤ k) = false from by simp; omega, show decide (k % 2 = 1) = true from by simp; omega, zb, if_pos (by simp only [decide_eq_true_eq, Bool.not_true, Bool.not_false]; omega)], rfl⟩
          · exact absurd c49 (by decide +kernel)
  · simp (disch := omega) only [zI_lt, zI_le, zI_eq, zI_lt0, zI_le0, zI_0lt, zI_0le, zI_eq0] at c2
    refine v_run 5 (pc' := 13) (ls' := [some (.int (zI ↑v)), some (.int (zI ↑k)), some (.int (zI 1)), none]) (st' := [.int (zI 2), .int (zI ↑k)]) rfl ?_
    refine v_irem rfl (zI_ne0 (by decide) (by decide)) ?_
    rw [show ((zI ↑k - zI ↑k / zI 2 * zI 2) : Int32) = zI ↑(k % 2) from by rw [show (zI 2) = zI ((2 : Nat) : Int) from rfl, zN_rem (by omega) (by omega) (by omega)]]
    refine v_run 1 (pc' := 15) (ls' := [some (.int (zI ↑v)), some (.int (zI ↑k)), some (.int (zI 1)), none]) (st' := [.int (zI 1), .int (zI ↑(k % 2))]) rfl ?_
    refine v_icmp_ne rfl (fun c15 => ?_) (fun c15 => ?_)
    · simp (disch := omega) only [zI_lt, zI_le, zI_eq, zI_lt0, zI_le0, zI_0lt, zI_0le, zI_eq0] at c15
      refine v_run 2 (pc' := 24) (ls' := [some (.int (zI ↑v)), some (.int (zI ↑k)), some (.int (zI 1)), some (.int (zI 0))]) (st' := []) rfl ?_
      refine v_run 0 (pc' := 24) (ls' := [some (.int (zI ↑v)), some (.int (zI ↑k)), some (.int (zb true)), some (.int (zb false))]) (st' := []) rfl ?_
      refine v_run 2 (pc' := 26) (ls' := [some (.int (zI ↑v)), some (.int (zI ↑k)), some (.int (zb true)), some (.int (zb false))]) (st' := [.int (zb true), .int (zI ↑v)]) rfl ?_
      refine v_if_ne rfl (fun c26 => ?_) (fun c26 => ?_)
      · refine v_run 2 (pc' := 35) (ls' := [some (.int (zI ↑v)), some (.int (zI ↑k)), some (.int (zb true)), some (.int (zb false))]) (st' := [.int (zb false), .int (zI 0), .int (zI ↑v)]) rfl ?_
        refine v_run 0 (pc' := 35) (ls' := [some (.int (zI ↑v)), some (.int (zI ↑k)), some (.int (zb true)), some (.int (zb false))]) (st' := [.int (zb false), .int (zb false), .int (zI ↑v)]) rfl ?_
        refine v_callS (My := mX10_gets) (As := [.int (zI ↑v), .int (zb false), .int (zb false)]) (rest := []) (mc := 0) (ms := 0) rfl caX10_gets rfl rfl (q_gets G _ v false false hv) rfl rfl (Nat.le_of_ble_eq_true rfl) (by omega) ?_
        rintro _ _ ⟨rfl, rfl⟩
        refine v_run 0 (pc' := 38) (ls' := [some (.int (zI ↑v)), some (.int (zI ↑k)), some (.int (zb true)), some (.int (zb false))]) (st' := [.int (zI (cShare v false false))]) rfl ?_
        refine v_run 3 (pc' := 41) (ls' := [some (.int (zI ↑v)), some (.int (zI ↑k)), some (.int (zb true)), some (.int (zb false))]) (st' := [.int (zb false), .int (zb true), .int (zI ↑v), .int (zI (cShare v false false))]) rfl ?_
        refine v_callS (My := mX10_gets) (As := [.int (zI ↑v), .int (zb true), .int (zb false)]) (rest := [.int (zI (cShare v false false))]) (mc := 0) (ms := 0) rfl caX10_gets rfl rfl (q_gets G _ v true false hv) rfl rfl (Nat.le_of_ble_eq_true rfl) (by omega) ?_
        rintro _ _ ⟨rfl, rfl⟩
        refine v_run 0 (pc' := 44) (ls' := [some (.int (zI ↑v)), some (.int (zI ↑k)), some (.int (zb true)), some (.int (zb false))]) (st' := [.int (zI (cShare v true false)), .int (zI (cShare v false false))]) rfl ?_
        have h1 := hb false false
        have h2 := hb true false
        have h3 := hb true true
        have h4 := hb false true
        refine v_icmp_gt rfl (fun c44 => ?_) (fun c44 => ?_)
        · simp (disch := omega) only [zI_lt, zI_le, zI_eq, zI_lt0, zI_le0, zI_0lt, zI_0le, zI_eq0] at c44
          refine v_run 1 (pc' := 75) (ls' := [some (.int (zI ↑v)), some (.int (zI ↑k)), some (.int (zb true)), some (.int (zb false))]) (st' := [.int (zI 0)]) rfl ?_
          exact v_iret rfl rfl rfl ⟨by rw [cRest, show decide (2 ≤ k) = true from by simp; omega, show decide (k % 2 = 1) = false from by simp; omega, zb, if_neg (by simp only [decide_eq_true_eq, Bool.not_true, Bool.not_false]; omega)], rfl⟩
        · simp (disch := omega) only [zI_lt, zI_le, zI_eq, zI_lt0, zI_le0, zI_0lt, zI_0le, zI_eq0] at c44
          refine v_run 2 (pc' := 49) (ls' := [some (.int (zI ↑v)), some (.int (zI ↑k)), some (.int (zb true)), some (.int (zb false))]) (st' := [.int (zb false), .int (zI ↑v)]) rfl ?_
          refine v_if_ne rfl (fun c49 => ?_) (fun c49 => ?_)
          · exact absurd c49 (by decide +kernel)
          · refine v_run 3 (pc' := 58) (ls' := [some (.int (zI ↑v)), some (.int (zI ↑k)), some (.int (zb true)), some (.int (zb false))]) (st' := [.int (zb true), .int (zI 1), .int (zI ↑v)]) rfl ?_
            refine v_run 0 (pc' := 58) (ls' := [some (.int (zI ↑v)), some (.int (zI ↑k)), some (.int (zb true)), some (.int (zb false))]) (st' := [.int (zb true), .int (zb true), .int (zI ↑v)]) rfl ?_
            refine v_callS (My := mX10_gets) (As := [.int (zI ↑v), .int (zb true), .int (zb true)]) (rest := []) (mc := 0) (ms := 0) rfl caX10_gets rfl rfl (q_gets G _ v true true hv) rfl rfl (Nat.le_of_ble_eq_true rfl) (by omega) ?_
            rintro _ _ ⟨rfl, rfl⟩
            refine v_run 0 (pc' := 61) (ls' := [some (.int (zI ↑v)), some (.int (zI ↑k)), some (.int (zb true)), some (.int (zb false))]) (st' := [.int (zI (cShare v true true))]) rfl ?_
            refine v_run 3 (pc' := 64) (ls' := [some (.int (zI ↑v)), some (.int (zI ↑k)), some (.int (zb true)), some (.int (zb false))]) (st' := [.int (zb true), .int (zb false), .int (zI ↑v), .int (zI (cShare v true true))]) rfl ?_
            refine v_callS (My := mX10_gets) (As := [.int (zI ↑v), .int (zb false), .int (zb true)]) (rest := [.int (zI (cShare v true true))]) (mc := 0) (ms := 0) rfl caX10_gets rfl rfl (q_gets G _ v false true hv) rfl rfl (Nat.le_of_ble_eq_true rfl) (by omega) ?_
            rintro _ _ ⟨rfl, rfl⟩
            refine v_run 0 (pc' := 67) (ls' := [some (.int (zI ↑v)), some (.int (zI ↑k)), some (.int (zb true)), some (.int (zb false))]) (st' := [.int (zI (cShare v false true)), .int (zI (cShare v true true))]) rfl ?_
            refine v_icmp_gt rfl (fun c67 => ?_) (fun c67 => ?_)
            · simp (disch := omega) only [zI_lt, zI_le, zI_eq, zI_lt0, zI_le0, zI_0lt, zI_0le, zI_eq0] at c67
              refine v_run 1 (pc' := 75) (ls' := [some (.int (zI ↑v)), some (.int (zI ↑k)), some (.int (zb true)), some (.int (zb false))]) (st' := [.int (zI 0)]) rfl ?_
              exact v_iret rfl rfl rfl ⟨by rw [cRest, show decide (2 ≤ k) = true from by simp; omega, show decide (k % 2 = 1) = false from by simp; omega, zb, if_neg (by simp only [decide_eq_true_eq, Bool.not_true, Bool.not_false]; omega)], rfl⟩
            · simp (disch := omega) only [zI_lt, zI_le, zI_eq, zI_lt0, zI_le0, zI_0lt, zI_0le, zI_eq0] at c67
              refine v_run 2 (pc' := 75) (ls' := [some (.int (zI ↑v)), some (.int (zI ↑k)), some (.int (zb true)), some (.int (zb false))]) (st' := [.int (zI 1)]) rfl ?_
              exact v_iret rfl rfl rfl ⟨by rw [cRest, show decide (2 ≤ k) = true from by simp; omega, show decide (k % 2 = 1) = false from by simp; omega, zb, if_pos (by simp only [decide_eq_true_eq, Bool.not_true, Bool.not_false]; omega)], rfl⟩
      · exact absurd c26 (by decide +kernel)
    · simp (disch := omega) only [zI_lt, zI_le, zI_eq, zI_lt0, zI_le0, zI_0lt, zI_0le, zI_eq0] at c15
      refine v_run 3 (pc' := 24) (ls' := [some (.int (zI ↑v)), some (.int (zI ↑k)), some (.int (zI 1)), some (.int (zI 1))]) (st' := []) rfl ?_
      refine v_run 0 (pc' := 24) (ls' := [some (.int (zI ↑v)), some (.int (zI ↑k)), some (.int (zb true)), some (.int (zb true))]) (st' := []) rfl ?_
      refine v_run 2 (pc' := 26) (ls' := [some (.int (zI ↑v)), some (.int (zI ↑k)), some (.int (zb true)), some (.int (zb true))]) (st' := [.int (zb true), .int (zI ↑v)]) rfl ?_
      refine v_if_ne rfl (fun c26 => ?_) (fun c26 => ?_)
      · refine v_run 2 (pc' := 35) (ls' := [some (.int (zI ↑v)), some (.int (zI ↑k)), some (.int (zb true)), some (.int (zb true))]) (st' := [.int (zb true), .int (zI 0), .int (zI ↑v)]) rfl ?_
        refine v_run 0 (pc' := 35) (ls' := [some (.int (zI ↑v)), some (.int (zI ↑k)), some (.int (zb true)), some (.int (zb true))]) (st' := [.int (zb true), .int (zb false), .int (zI ↑v)]) rfl ?_
        refine v_callS (My := mX10_gets) (As := [.int (zI ↑v), .int (zb false), .int (zb true)]) (rest := []) (mc := 0) (ms := 0) rfl caX10_gets rfl rfl (q_gets G _ v false true hv) rfl rfl (Nat.le_of_ble_eq_true rfl) (by omega) ?_
        rintro _ _ ⟨rfl, rfl⟩
        refine v_run 0 (pc' := 38) (ls' := [some (.int (zI ↑v)), some (.int (zI ↑k)), some (.int (zb true)), some (.int (zb true))]) (st' := [.int (zI (cShare v false true))]) rfl ?_
        refine v_run 3 (pc' := 41) (ls' := [some (.int (zI ↑v)), some (.int (zI ↑k)), some (.int (zb true)), some (.int (zb true))]) (st' := [.int (zb true), .int (zb true), .int (zI ↑v), .int (zI (cShare v false true))]) rfl ?_
        refine v_callS (My := mX10_gets) (As := [.int (zI ↑v), .int (zb true), .int (zb true)]) (rest := [.int (zI (cShare v false true))]) (mc := 0) (ms := 0) rfl caX10_gets rfl rfl (q_gets G _ v true true hv) rfl rfl (Nat.le_of_ble_eq_true rfl) (by omega) ?_
        rintro _ _ ⟨rfl, rfl⟩
        refine v_run 0 (pc' := 44) (ls' := [some (.int (zI ↑v)), some (.int (zI ↑k)), some (.int (zb true)), some (.int (zb true))]) (st' := [.int (zI (cShare v true true)), .int (zI (cShare v false true))]) rfl ?_
        have h1 := hb false true
        have h2 := hb true true
        have h3 := hb false true
        have h4 := hb true true
        refine v_icmp_gt rfl (fun c44 => ?_) (fun c44 => ?_)
        · simp (disch := omega) only [zI_lt, zI_le, zI_eq, zI_lt0, zI_le0, zI_0lt, zI_0le, zI_eq0] at c44
          refine v_run 1 (pc' := 75) (ls' := [some (.int (zI ↑v)), some (.int (zI ↑k)), some (.int (zb true)), some (.int (zb true))]) (st' := [.int (zI 0)]) rfl ?_
          exact v_iret rfl rfl rfl ⟨by rw [cRest, show decide (2 ≤ k) = true from by simp; omega, show decide (k % 2 = 1) = true from by simp; omega, zb, if_neg (by simp only [decide_eq_true_eq, Bool.not_true, Bool.not_false]; omega)], rfl⟩
        · simp (disch := omega) only [zI_lt, zI_le, zI_eq, zI_lt0, zI_le0, zI_0lt, zI_0le, zI_eq0] at c44
          refine v_run 2 (pc' := 49) (ls' := [some (.int (zI ↑v)), some (.int (zI ↑k)), some (.int (zb true)), some (.int (zb true))]) (st' := [.int (zb true), .int (zI ↑v)]) rfl ?_
          refine v_if_ne rfl (fun c49 => ?_) (fun c49 => ?_)
          · refine v_run 2 (pc' := 58) (ls' := [some (.int (zI ↑v)), some (.int (zI ↑k)), some (.int (zb true)), some (.int (zb true))]) (st' := [.int (zb true), .int (zI 0), .int (zI ↑v)]) rfl ?_
            refine v_run 0 (pc' := 58) (ls' := [some (.int (zI ↑v)), some (.int (zI ↑k)), some (.int (zb true)), some (.int (zb true))]) (st' := [.int (zb true), .int (zb false), .int (zI ↑v)]) rfl ?_
            refine v_callS (My := mX10_gets) (As := [.int (zI ↑v), .int (zb false), .int (zb true)]) (rest := []) (mc := 0) (ms := 0) rfl caX10_gets rfl rfl (q_gets G _ v false true hv) rfl rfl (Nat.le_of_ble_eq_true rfl) (by omega) ?_
            rintro _ _ ⟨rfl, rfl⟩
            refine v_run 0 (pc' := 61) (ls' := [some (.int (zI ↑v)), some (.int (zI ↑k)), some (.int (zb true)), some (.int (zb true))]) (st' := [.int (zI (cShare v false true))]) rfl ?_
            refine v_run 3 (pc' := 64) (ls' := [some (.int (zI ↑v)), some (.int (zI ↑k)), some (.int (zb true)), some (.int (zb true))]) (st' := [.int (zb true), .int (zb true), .int (zI ↑v), .int (zI (cShare v false true))]) rfl ?_
            refine v_callS (My := mX10_gets) (As := [.int (zI ↑v), .int (zb true), .int (zb true)]) (rest := [.int (zI (cShare v false true))]) (mc := 0) (ms := 0) rfl caX10_gets rfl rfl (q_gets G _ v true true hv) rfl rfl (Nat.le_of_ble_eq_true rfl) (by omega) ?_
            rintro _ _ ⟨rfl, rfl⟩
            refine v_run 0 (pc' := 67) (ls' := [some (.int (zI ↑v)), some (.int (zI ↑k)), some (.int (zb true)), some (.int (zb true))]) (st' := [.int (zI (cShare v true true)), .int (zI (cShare v false true))]) rfl ?_
            refine v_icmp_gt rfl (fun c67 => ?_) (fun c67 => ?_)
            · simp (disch := omega) only [zI_lt, zI_le, zI_eq, zI_lt0, zI_le0, zI_0lt, zI_0le, zI_eq0] at c67
              refine v_run 1 (pc' := 75) (ls' := [some (.int (zI ↑v)), some (.int (zI ↑k)), some (.int (zb true)), some (.int (zb true))]) (st' := [.int (zI 0)]) rfl ?_
              exact v_iret rfl rfl rfl ⟨by rw [cRest, show decide (2 ≤ k) = true from by simp; omega, show decide (k % 2 = 1) = true from by simp; omega, zb, if_neg (by simp only [decide_eq_true_eq, Bool.not_true, Bool.not_false]; omega)], rfl⟩
            · simp (disch := omega) only [zI_lt, zI_le, zI_eq, zI_lt0, zI_le0, zI_0lt, zI_0le, zI_eq0] at c67
              refine v_run 2 (pc' := 75) (ls' := [some (.int (zI ↑v)), some (.int (zI ↑k)), some (.int (zb true)), some (.int (zb true))]) (st' := [.int (zI 1)]) rfl ?_
              exact v_iret rfl rfl rfl ⟨by rw [cRest, show decide (2 ≤ k) = true from by simp; omega, show decide (k % 2 = 1) = true from by simp; omega, zb, if_pos (by simp only [decide_eq_true_eq, Bool.not_true, Bool.not_false]; omega)], rfl⟩
          · exact absurd c49 (by decide +kernel)
      · exact absurd c26 (by decide +kernel)

set_option maxRecDepth 100000 in
set_option maxHeartbeats 400000 in
theorem q_lastsAsIs (G : ssG) (h : ssH) {ad : Nat → Nat} {rv : Value} {m : Nat → Int} {ζ : Nat → Nat → Nat} {X : Nat → Nat} {V : Nat → Nat} (hA : ∀ k l, ad k = ad l → k = l) (hm : MX h ad rv m ζ X) (hz : SaOk ζ) (hx : XOk X) (hv : h (ad 202) = some (ar 26 V)) (hV : XOk V) (hd : V 23 ≤ 99) : ssC G mX10_lastsAsIs 3 0 0 [.ref (ad 200)] h (fun r h' => r = some (.int (zI ↑(mLast ζ V))) ∧ hset h (ad 203) (ar 26 (mDs ζ mF V (mLast ζ V))) = h') := by
  refine c_of_v okX10_lastsAsIs (by decide +kernel) (ls := [some (.ref (ad 200))]) rfl (Nat.le_of_ble_eq_true rfl) ?_
  obtain ⟨z0, z1, z2, z3, z4, z5, z6, z9, z12, z13, z14, z15, z16, z17, z18, z19, z20⟩ := id hz
  obtain ⟨x0, x6, x12, x18, x24, x25, x26⟩ := id hx
  refine v_run 1 (pc' := 1) (ls' := [some (.ref (ad 200))]) (st' := [.ref (ad 200)]) rfl ?_
  refine v_callV (My := mX10_works) (As := []) (rest := []) (mc := 0) (ms := 0) rfl caX10_works rfl rfl rfl hm.1 rfl rfl (q_works G _ hA hm hz hx hv hV) rfl rfl (Nat.le_of_ble_eq_true rfl) (by omega) ?_
  rintro _ h1 ⟨rfl, e1⟩
  have hm1 : MX h1 ad rv m ζ V := e1 ▸ hm.x hA V
  refine v_run 0 (pc' := 4) (ls' := [some (.ref (ad 200))]) (st' := []) rfl ?_
  refine v_run 1 (pc' := 5) (ls' := [some (.ref (ad 200))]) (st' := [.ref (ad 200)]) rfl ?_
  refine v_callV (My := mX10_lastsNow) (As := []) (rest := []) (mc := 0) (ms := 0) rfl caX10_lastsNow rfl rfl rfl hm1.1 rfl rfl (q_lastsNow G _ hA hm1 hz hV (by omega)) rfl rfl (Nat.le_of_ble_eq_true rfl) (by omega) ?_
  rintro _ h2 ⟨rfl, e2⟩
  refine v_run 0 (pc' := 8) (ls' := [some (.ref (ad 200))]) (st' := [.int (zI ↑(mLast ζ V))]) rfl ?_
  exact v_iret rfl rfl rfl ⟨rfl, by rw [← e2, ← e1, hset_hset]⟩

set_option maxRecDepth 100000 in
set_option maxHeartbeats 400000 in
theorem q_goingSince (G : ssG) (h : ssH) {ad : Nat → Nat} {rv : Value} {m : Nat → Int} {ζ : Nat → Nat → Nat} {X : Nat → Nat} (d : Nat) (hA : ∀ k l, ad k = ad l → k = l) (hm : MX h ad rv m ζ X) (hz : SaOk ζ) (hx : XOk X) (hd : d ≤ 41) (hq : 1 ≤ ζ 9 0) : ssC G mX10_goingSince 5 0 0 [.ref (ad 200), .int (zI ↑d)] h (fun r h' => r = some (.int (zI ↑(mGo ζ (mSi ζ d 41) 0))) ∧ hset h (ad 203) (ar 26 (mSi ζ d 41)) = h') := by
  refine c_of_v okX10_goingSince (by decide +kernel) (ls := [some (.ref (ad 200)), some (.int (zI ↑d))]) rfl (Nat.le_of_ble_eq_true rfl) ?_
  obtain ⟨z0, z1, z2, z3, z4, z5, z6, z9, z12, z13, z14, z15, z16, z17, z18, z19, z20⟩ := id hz
  obtain ⟨x0, x6, x12, x18, x24, x25, x26⟩ := id hx
  refine v_run 1 (pc' := 1) (ls' := [some (.ref (ad 200)), some (.int (zI ↑d))]) (st' := [.ref (ad 200)]) rfl ?_
  refine v_callV (My := mX10_asTold) (As := []) (rest := []) (mc := 0) (ms := 0) rfl caX10_asTold rfl rfl rfl hm.1 rfl rfl (q_asTold G _ hA hm hz hx) rfl rfl (Nat.le_of_ble_eq_true rfl) (by omega) ?_
  rintro _ _ ⟨rfl, rfl⟩
  refine v_run 0 (pc' := 4) (ls' := [some (.ref (ad 200)), some (.int (zI ↑d))]) (st' := []) rfl ?_
  have lp : ∀ (n s : Nat), s ≤ 41 → 41 + 1 ≤ s + n → ssV G mX10_goingSince 5 0 0 (fun r h' => r = some (.int (zI ↑(mGo ζ (mSi ζ d 41) 0))) ∧ hset h (ad 203) (ar 26 (mSi ζ d 41)) = h') 4 [some (.ref (ad 200)), some (.int (zI ↑d))] [] (hset h (ad 203) (ar 26 (mSi ζ d s))) := by
    intro n
    induction n with
    | zero => intro s hs1 hs2; exact absurd hs2 (by omega)
    | succ n ih =>
      intro s hs1 hs2
      have hx2 := mSi_ok hz hq d s
      have d23 := mSi_23 ζ hz d s
      have hm2 := hm.x hA (mSi ζ d s)
      refine v_run 1 (pc' := 5) (ls' := [some (.ref (ad 200)), some (.int (zI ↑d))]) (st' := [.ref (ad 200)]) rfl ?_
      refine v_get rfl (hm.x hA (mSi ζ d s)).1 rfl ?_
      refine v_run 1 (pc' := 10) (ls' := [some (.ref (ad 200)), some (.int (zI ↑d))]) (st' := [.int (zI 23), .ref (ad 203)]) rfl ?_
      refine v_iaload' rfl (hm.x hA (mSi ζ d s)).2.2 (i := 23) rfl (by decide) ?_
      refine v_run 1 (pc' := 13) (ls' := [some (.ref (ad 200)), some (.int (zI ↑d))]) (st' := [.int (zI 40), .int (zI ↑(mSi ζ d s 23))]) rfl ?_
      rw [show (zI ↑(mSi ζ d s 23) : Int32) = zI ↑(s) from congrArg (fun n : Nat => zI ↑n) (d23)]
      refine v_icmp_gt rfl (fun c13 => ?_) (fun c13 => ?_)
      · simp (disch := omega) only [zI_lt, zI_le, zI_eq, zI_lt0, zI_le0, zI_0lt, zI_0le, zI_eq0] at c13
        refine v_run 2 (pc' := 58) (ls' := [some (.ref (ad 200)), some (.int (zI ↑d))]) (st' := [.int (zI 0), .ref (ad 200)]) rfl ?_
        refine v_callV (My := mX10_goingBut) (As := [.int (zI 0)]) (rest := []) (mc := 0) (ms := 0) rfl caX10_goingBut rfl rfl rfl hm2.1 rfl rfl (q_goingBut G _ 0 hA hm2 hz hx2 (by omega)) rfl rfl (Nat.le_of_ble_eq_true rfl) (by omega) ?_
        rintro _ _ ⟨rfl, rfl⟩
        refine v_run 0 (pc' := 61) (ls' := [some (.ref (ad 200)), some (.int (zI ↑d))]) (st' := [.int (zI ↑(mGo ζ (mSi ζ d s) 0))]) rfl ?_
        exact v_iret rfl rfl rfl (by rw [show s = 41 by omega]; exact ⟨rfl, rfl⟩)
      · simp (disch := omega) only [zI_lt, zI_le, zI_eq, zI_lt0, zI_le0, zI_0lt, zI_0le, zI_eq0] at c13
        refine v_run 1 (pc' := 17) (ls' := [some (.ref (ad 200)), some (.int (zI ↑d))]) (st' := [.ref (ad 200)]) rfl ?_
        refine v_get rfl (hm.x hA (mSi ζ d s)).1 rfl ?_
        refine v_run 2 (pc' := 23) (ls' := [some (.ref (ad 200)), some (.int (zI ↑d))]) (st' := [.ref (ad 200), .int (zI 12), .ref (ad 203)]) rfl ?_
        refine v_get rfl (hm.x hA (mSi ζ d s)).1 rfl ?_
        refine v_run 0 (pc' := 26) (ls' := [some (.ref (ad 200)), some (.int (zI ↑d))]) (st' := [.ref (ad 210), .int (zI 12), .ref (ad 203)]) rfl ?_
        refine v_get rfl (hm.x hA (mSi ζ d s)).2.1.1 rfl ?_
        refine v_run 1 (pc' := 30) (ls' := [some (.ref (ad 200)), some (.int (zI ↑d))]) (st' := [.int ((zI 12) + (zI (↑(ζ 9 0) - 1))), .ref (ad 203)]) rfl ?_
        rw [show ((zI 12) + (zI (↑(ζ 9 0) - 1)) : Int32) = zI ↑(12 + (ζ 9 0 - 1)) from by rw [zI_add]; congr 1; omega]
        refine v_run 1 (pc' := 31) (ls' := [some (.ref (ad 200)), some (.int (zI ↑d))]) (st' := [.ref (ad 200), .int (zI ↑(12 + (ζ 9 0 - 1))), .ref (ad 203)]) rfl ?_
        refine v_get rfl (hm.x hA (mSi ζ d s)).1 rfl ?_
        refine v_run 1 (pc' := 36) (ls' := [some (.ref (ad 200)), some (.int (zI ↑d))]) (st' := [.int (zI 23), .ref (ad 203), .int (zI ↑(12 + (ζ 9 0 - 1))), .ref (ad 203)]) rfl ?_
        refine v_iaload' rfl (hm.x hA (mSi ζ d s)).2.2 (i := 23) rfl (by decide) ?_
        refine v_run 1 (pc' := 38) (ls' := [some (.ref (ad 200)), some (.int (zI ↑d))]) (st' := [.int (zI ↑d), .int (zI ↑(mSi ζ d s 23)), .int (zI ↑(12 + (ζ 9 0 - 1))), .ref (ad 203)]) rfl ?_
        rw [show (zI ↑(mSi ζ d s 23) : Int32) = zI ↑(s) from congrArg (fun n : Nat => zI ↑n) (d23)]
        refine v_icmp_ge rfl (fun c38 => ?_) (fun c38 => ?_)
        · simp (disch := omega) only [zI_lt, zI_le, zI_eq, zI_lt0, zI_le0, zI_0lt, zI_0le, zI_eq0] at c38
          refine v_run 1 (pc' := 47) (ls' := [some (.ref (ad 200)), some (.int (zI ↑d))]) (st' := [.int (zI 0), .int (zI ↑(12 + (ζ 9 0 - 1))), .ref (ad 203)]) rfl ?_
          refine v_iastore' rfl (hm.x hA (mSi ζ d s)).2.2 (i := (12 + (ζ 9 0 - 1))) rfl (by omega) ?_
          rw [show (zI 0) = zI ↑(0 : Nat) from rfl, ar_upd, hset_hset, show (fun j => if j = 12 + (ζ 9 0 - 1) then 0 else mSi ζ d s j) = mSs ζ d s (mSi ζ d s) from by unfold mSs; rw [if_neg (by omega)]]
          have hm3 := hm.x hA (mSs ζ d s (mSi ζ d s))
          have hx3 : XOk (mSs ζ d s (mSi ζ d s)) := mSs_ok hz hq d s hx2
          refine v_run 2 (pc' := 50) (ls' := [some (.ref (ad 200)), some (.int (zI ↑d))]) (st' := [.int (zI 0), .ref (ad 200)]) rfl ?_
          refine v_callV (My := mX10_aDay) (As := [.int (zI 0)]) (rest := []) (mc := 0) (ms := 0) rfl caX10_aDay rfl rfl rfl hm3.1 rfl rfl (q_aDay G _ false hA hm3 hz hx3 (by rw [mSs_23 hz]; omega)) rfl rfl (Nat.le_of_ble_eq_true rfl) (by omega) ?_
          rintro _ _ ⟨rfl, rfl⟩
          rw [hset_hset]
          refine v_run 0 (pc' := 53) (ls' := [some (.ref (ad 200)), some (.int (zI ↑d))]) (st' := []) rfl ?_
          refine v_run 1 (pc' := 4) (ls' := [some (.ref (ad 200)), some (.int (zI ↑d))]) (st' := []) rfl ?_
          exact ih (s + 1) (by omega) (by omega)
        · simp (disch := omega) only [zI_lt, zI_le, zI_eq, zI_lt0, zI_le0, zI_0lt, zI_0le, zI_eq0] at c38
          refine v_run 2 (pc' := 47) (ls' := [some (.ref (ad 200)), some (.int (zI ↑d))]) (st' := [.int (zI 99), .int (zI ↑(12 + (ζ 9 0 - 1))), .ref (ad 203)]) rfl ?_
          refine v_iastore' rfl (hm.x hA (mSi ζ d s)).2.2 (i := (12 + (ζ 9 0 - 1))) rfl (by omega) ?_
          rw [show (zI 99) = zI ↑(99 : Nat) from rfl, ar_upd, hset_hset, show (fun j => if j = 12 + (ζ 9 0 - 1) then 99 else mSi ζ d s j) = mSs ζ d s (mSi ζ d s) from by unfold mSs; rw [if_pos (by omega)]]
          have hm3 := hm.x hA (mSs ζ d s (mSi ζ d s))
          have hx3 : XOk (mSs ζ d s (mSi ζ d s)) := mSs_ok hz hq d s hx2
          refine v_run 2 (pc' := 50) (ls' := [some (.ref (ad 200)), some (.int (zI ↑d))]) (st' := [.int (zI 0), .ref (ad 200)]) rfl ?_
          refine v_callV (My := mX10_aDay) (As := [.int (zI 0)]) (rest := []) (mc := 0) (ms := 0) rfl caX10_aDay rfl rfl rfl hm3.1 rfl rfl (q_aDay G _ false hA hm3 hz hx3 (by rw [mSs_23 hz]; omega)) rfl rfl (Nat.le_of_ble_eq_true rfl) (by omega) ?_
          rintro _ _ ⟨rfl, rfl⟩
          rw [hset_hset]
          refine v_run 0 (pc' := 53) (ls' := [some (.ref (ad 200)), some (.int (zI ↑d))]) (st' := []) rfl ?_
          refine v_run 1 (pc' := 4) (ls' := [some (.ref (ad 200)), some (.int (zI ↑d))]) (st' := []) rfl ?_
          exact ih (s + 1) (by omega) (by omega)
  exact lp 42 0 (by omega) (by omega)

set_option maxRecDepth 100000 in
set_option maxHeartbeats 400000 in
theorem q_rows (G : ssG) (h : ssH) {ad : Nat → Nat} {rv : Value} {m : Nat → Int} {ζ : Nat → Nat → Nat} {X : Nat → Nat}  (hA : ∀ k l, ad k = ad l → k = l) (hm : MX h ad rv m ζ X) (hz : SaOk ζ) (hx : XOk X)  : ssC G mX10_rows 0 0 0 [.ref (ad 200)] h (rI (zI ↑(ζ 4 0 ^ ζ 5 0)) h) := by
  refine c_of_v okX10_rows (by decide +kernel) (ls := [some (.ref (ad 200)), none, none]) rfl (Nat.le_of_ble_eq_true rfl) ?_
  obtain ⟨z0, z1, z2, z3, z4, z5, z6, z9, z12, z13, z14, z15, z16, z17, z18, z19, z20⟩ := id hz
  obtain ⟨x0, x6, x12, x18, x24, x25, x26⟩ := id hx
  refine v_run 4 (pc' := 4) (ls' := [some (.ref (ad 200)), some (.int (zI 1)), some (.int (zI 0))]) (st' := []) rfl ?_
  have lp : ∀ (n s : Nat), s ≤ ζ 5 0 → ζ 5 0 + 1 ≤ s + n → ssV G mX10_rows 0 0 0 (rI (zI ↑(ζ 4 0 ^ ζ 5 0)) h) 4 [some (.ref (ad 200)), some (.int (zI ↑(ζ 4 0 ^ s))), some (.int (zI ↑s))] [] h := by
    intro n
    induction n with
    | zero => intro s hs1 hs2; exact absurd hs2 (by omega)
    | succ n ih =>
      intro s hs1 hs2
      refine v_run 2 (pc' := 6) (ls' := [some (.ref (ad 200)), some (.int (zI ↑(ζ 4 0 ^ s))), some (.int (zI ↑s))]) (st' := [.ref (ad 200), .int (zI ↑s)]) rfl ?_
      refine v_get rfl hm.1 rfl ?_
      refine v_run 0 (pc' := 9) (ls' := [some (.ref (ad 200)), some (.int (zI ↑(ζ 4 0 ^ s))), some (.int (zI ↑s))]) (st' := [.ref (ad 210), .int (zI ↑s)]) rfl ?_
      refine v_get rfl hm.2.1.1 rfl ?_
      refine v_run 0 (pc' := 12) (ls' := [some (.ref (ad 200)), some (.int (zI ↑(ζ 4 0 ^ s))), some (.int (zI ↑s))]) (st' := [.int (zI ↑(ζ 5 0)), .int (zI ↑s)]) rfl ?_
      refine v_icmp_ge rfl (fun c12 => ?_) (fun c12 => ?_)
      · simp (disch := omega) only [zI_lt, zI_le, zI_eq, zI_lt0, zI_le0, zI_0lt, zI_0le, zI_eq0] at c12
        refine v_run 1 (pc' := 32) (ls' := [some (.ref (ad 200)), some (.int (zI ↑(ζ 4 0 ^ s))), some (.int (zI ↑s))]) (st' := [.int (zI ↑(ζ 4 0 ^ s))]) rfl ?_
        exact v_iret rfl rfl rfl ⟨by rw [show s = ζ 5 0 by omega], rfl⟩
      · simp (disch := omega) only [zI_lt, zI_le, zI_eq, zI_lt0, zI_le0, zI_0lt, zI_0le, zI_eq0] at c12
        refine v_run 2 (pc' := 17) (ls' := [some (.ref (ad 200)), some (.int (zI ↑(ζ 4 0 ^ s))), some (.int (zI ↑s))]) (st' := [.ref (ad 200), .int (zI ↑(ζ 4 0 ^ s))]) rfl ?_
        refine v_get rfl hm.1 rfl ?_
        refine v_run 0 (pc' := 20) (ls' := [some (.ref (ad 200)), some (.int (zI ↑(ζ 4 0 ^ s))), some (.int (zI ↑s))]) (st' := [.ref (ad 210), .int (zI ↑(ζ 4 0 ^ s))]) rfl ?_
        refine v_get rfl hm.2.1.1 rfl ?_
        refine v_run 4 (pc' := 4) (ls' := [some (.ref (ad 200)), some (.int ((zI ↑(ζ 4 0 ^ s)) * (zI ↑(ζ 4 0)))), some (.int ((zI ↑s) + zI 1))]) (st' := []) rfl ?_
        rw [zI_s1, zN_mul, ← Nat.pow_succ]
        exact ih (s + 1) (by omega) (by omega)
  exact lp (ζ 5 0 + 1) 0 (by omega) (by omega)

