def mVo (ζ : Nat → Nat → Nat) (v : Nat) : Nat := sumN (fun s => ζ 16 s * (v / 2 ^ s % 2)) (ζ 5 0)
theorem mVo_le {ζ : Nat → Nat → Nat} (hz : SaOk ζ) (v : Nat) : mVo ζ v ≤ 54 := by
  have h5 := hz.2.2.2.2.2.1
  have h16 := hz.2.2.2.2.2.2.2.2.2.2.2.2.1
  have h1 := sumN_le (f := fun s => ζ 16 s * (v / 2 ^ s % 2)) (c := 9) (fun k => by
    have h2 := h16 k
    have h3 := bitN_le v k
    have h4 := Nat.mul_le_mul h2 h3
    omega) (ζ 5 0)
  have h2 : ζ 5 0 * 9 ≤ 6 * 9 := Nat.mul_le_mul_right 9 h5
  unfold mVo
  omega
def mTp (ζ : Nat → Nat → Nat) (g a s : Nat) : Nat := if andn s g = 0 ∧ bitN s a = false ∧ mVo ζ s ≤ mVo ζ (andn g s) ∧ mVo ζ (andn g (s ||| 2 ^ a)) < mVo ζ (s ||| 2 ^ a) then 1 else 0
def mTu (ζ : Nat → Nat → Nat) (g a : Nat) : Nat := sumN (mTp ζ g a) (2 ^ ζ 5 0)
def mSd (X : Nat → Nat) : Nat := (75 * X 25 + 74) % 65537
theorem mSd_le (X : Nat → Nat) : mSd X ≤ 65536 := by unfold mSd; omega
theorem mSd_l {X : Nat → Nat} (h : X 25 ≤ 65536) : (zL 75 * (zI ↑(X 25)).toInt64 + zL 74 - (zL 75 * (zI ↑(X 25)).toInt64 + zL 74) / zL 65537 * zL 65537) = zL ↑(mSd X) := by
  rw [zI_l (by omega) (by omega), show (zL 75) = zL ((75 : Nat) : Int) from rfl, show (zL 74) = zL ((74 : Nat) : Int) from rfl, show (zL 65537) = zL ((65537 : Nat) : Int) from rfl, zLN_mul, zLN_add, zLN_rem (by omega) (by omega) (by omega)]
  rfl
theorem mSd_i (X : Nat → Nat) : (zL ↑(mSd X)).toInt32 = zI ↑(mSd X) := by
  have h := mSd_le X
  apply Int32.toInt_inj.mp
  rw [Int64.toInt_toInt32, zL_toInt (by omega) (by omega), zI_toInt (by omega) (by omega), Int.bmod_eq_of_le (by omega) (by omega)]
def mX25 (X : Nat → Nat) (v : Nat) : Nat → Nat := fun j => if j = 25 then v else X j
theorem mX25_ok {X : Nat → Nat} {v : Nat} (hx : XOk X) (hv : v ≤ 65536) : XOk (mX25 X v) := by
  obtain ⟨x0, x6, x12, x18, x24, x25, x26⟩ := hx
  have e : ∀ k, k ≠ 25 → mX25 X v k = X k := fun k hk => by simp [mX25, hk]
  exact ⟨fun k hk => by rw [e k (by omega)]; exact x0 k hk, fun k hk => by rw [e _ (by omega)]; exact x6 k hk, fun k hk => by rw [e _ (by omega)]; exact x12 k hk, fun k hk => by rw [e _ (by omega)]; exact x18 k hk, by rw [e _ (by omega)]; exact x24, hv, fun k hk => by rw [e _ (by omega)]; exact x26 k hk⟩
def mThu (ζ : Nat → Nat → Nat) (X : Nat → Nat) : Bool := decide (mSd X % 100 < ζ 2 0)
def mDr (ζ : Nat → Nat → Nat) (X : Nat → Nat) : Nat → Nat := mD ζ (mThu ζ X) (mX25 X (mSd X))
def mDb (ζ : Nat → Nat → Nat) (V : Nat → Nat) (e : Nat) : Nat → Nat → Nat
  | 0 => mX25 V e
  | n + 1 => mDr ζ (mDb ζ V e n)
theorem mDb_ok {ζ : Nat → Nat → Nat} (hz : SaOk ζ) {V : Nat → Nat} (hV : XOk V) {e : Nat} (he : e ≤ 65536) : ∀ n, XOk (mDb ζ V e n)
  | 0 => mX25_ok hV he
  | n + 1 => mD_ok hz (mX25_ok (mDb_ok hz hV he n) (mSd_le _))
theorem mDb_23 (ζ : Nat → Nat → Nat) (V : Nat → Nat) (e : Nat) : ∀ n, mDb ζ V e n 23 = V 23 + n
  | 0 => rfl
  | n + 1 => by
    have := mDb_23 ζ V e n
    show mD ζ (mThu ζ (mDb ζ V e n)) (mX25 (mDb ζ V e n) (mSd (mDb ζ V e n))) 23 = _
    rw [mD_23]
    show mDb ζ V e n 23 + 1 = _
    omega
theorem mD_25 {ζ : Nat → Nat → Nat} (hz : SaOk ζ) (b : Bool) (X : Nat → Nat) : mD ζ b X 25 = X 25 := by
  obtain ⟨z0, z1, z2, z3, z4, z5, z6, z9, -⟩ := id hz
  simp only [mD, mD2, mD1]
  rw [if_neg (by omega), if_neg (by omega), if_neg (by omega)]
theorem mDb_25 {ζ : Nat → Nat → Nat} (hz : SaOk ζ) (V : Nat → Nat) (e : Nat) : ∀ n, mDb ζ V e n 25 = cDraw e n
  | 0 => rfl
  | n + 1 => by
    show mD ζ (mThu ζ (mDb ζ V e n)) (mX25 (mDb ζ V e n) (mSd (mDb ζ V e n))) 25 = _
    rw [mD_25 hz]
    show mSd (mDb ζ V e n) = _
    simp only [mSd, cDraw]
    rw [mDb_25 hz V e n]
theorem mDb_t {ζ : Nat → Nat → Nat} (hz : SaOk ζ) (V : Nat → Nat) (e n : Nat) : mThu ζ (mDb ζ V e n) = decide (cDraw e (n + 1) % 100 < ζ 2 0) := by
  have h : mSd (mDb ζ V e n) = cDraw e (n + 1) := by simp only [mSd, cDraw]; rw [mDb_25 hz]
  unfold mThu
  rw [h]
def mTh (ζ : Nat → Nat → Nat) (e n : Nat) : Nat := sumN (fun k => if cDraw e (k + 1) % 100 < ζ 2 0 then 1 else 0) n
set_option maxRecDepth 100000 in
set_option maxHeartbeats 400000 in
theorem q_turns (G : ssG) (h : ssH) {ad : Nat → Nat} {rv : Value} {m : Nat → Int} {ζ : Nat → Nat → Nat} {X : Nat → Nat} {V : Nat → Nat} (a : Nat) (hA : ∀ k l, ad k = ad l → k = l) (hm : MX h ad rv m ζ X) (hz : SaOk ζ) (hx : XOk X) (hv : h (ad 202) = some (ar 26 V)) (hV : XOk V) (ha : a < 6) : ssC G mX10_turns 3 0 0 [.ref (ad 200), .int (zI ↑a)] h (fun r h' => r = some (.int (zI ↑(mTu ζ (mG ζ V) a))) ∧ hset h (ad 203) (ar 26 (V)) = h') := by
  refine c_of_v okX10_turns (by decide +kernel) (ls := [some (.ref (ad 200)), some (.int (zI ↑a)), none, none, none, none]) rfl (Nat.le_of_ble_eq_true rfl) ?_
  obtain ⟨z0, z1, z2, z3, z4, z5, z6, z9, z12, z13, z14, z15, z16, z17, z18, z19, z20⟩ := id hz
  obtain ⟨x0, x6, x12, x18, x24, x25, x26⟩ := id hx
  have g64 : mG ζ V < 64 := setN_lt64 _ z5
  refine v_run 1 (pc' := 1) (ls' := [some (.ref (ad 200)), some (.int (zI ↑a)), none, none, none, none]) (st' := [.ref (ad 200)]) rfl ?_
  refine v_callV (My := mX10_works) (As := []) (rest := []) (mc := 0) (ms := 0) rfl caX10_works rfl rfl rfl hm.1 rfl rfl (q_works G _ hA hm hz hx hv hV) rfl rfl (Nat.le_of_ble_eq_true rfl) (by omega) ?_
  rintro _ h1 ⟨rfl, e1⟩
  have hm1 : MX h1 ad rv m ζ V := e1 ▸ hm.x hA V
  refine v_run 0 (pc' := 4) (ls' := [some (.ref (ad 200)), some (.int (zI ↑a)), none, none, none, none]) (st' := []) rfl ?_
  refine v_run 1 (pc' := 5) (ls' := [some (.ref (ad 200)), some (.int (zI ↑a)), none, none, none, none]) (st' := [.ref (ad 200)]) rfl ?_
  refine v_callV (My := mX10_goodNow) (As := []) (rest := []) (mc := 0) (ms := 0) rfl caX10_goodNow rfl rfl rfl hm1.1 rfl rfl (q_goodNow G _ hA hm1 hz hV) rfl rfl (Nat.le_of_ble_eq_true rfl) (by omega) ?_
  rintro _ _ ⟨rfl, rfl⟩
  refine v_run 0 (pc' := 8) (ls' := [some (.ref (ad 200)), some (.int (zI ↑a)), none, none, none, none]) (st' := [.int (zI ↑(mG ζ V))]) rfl ?_
  refine v_run 5 (pc' := 14) (ls' := [some (.ref (ad 200)), some (.int (zI ↑a)), some (.int (zI ↑(mG ζ V))), some (.int (zI 0)), some (.int (zI 0)), none]) (st' := []) rfl ?_
  obtain ⟨pw, hpw⟩ : ∃ pw, pw = 2 ^ ζ 5 0 := ⟨_, rfl⟩
  have p6 : pw ≤ 64 := hpw ▸ Nat.pow_le_pow_right (n := 2) (by decide) z5
  have lp : ∀ (n s : Nat), s ≤ pw → pw + 1 ≤ s + n → ssV G mX10_turns 3 0 0 (fun r h' => r = some (.int (zI ↑(mTu ζ (mG ζ V) a))) ∧ hset h (ad 203) (ar 26 (V)) = h') 14 [some (.ref (ad 200)), some (.int (zI ↑a)), some (.int (zI ↑(mG ζ V))), some (.int (zI ↑(sumN (mTp ζ (mG ζ V) a) s))), some (.int (zI ↑s)), none] [] h1 := by
    intro n
    induction n with
    | zero => intro s hs1 hs2; exact absurd hs2 (by omega)
    | succ n ih =>
      intro s hs1 hs2
      refine v_run 3 (pc' := 18) (ls' := [some (.ref (ad 200)), some (.int (zI ↑a)), some (.int (zI ↑(mG ζ V))), some (.int (zI ↑(sumN (mTp ζ (mG ζ V) a) s))), some (.int (zI ↑s)), none]) (st' := [.ref (ad 200), .int (zI 1), .int (zI ↑s)]) rfl ?_
      refine v_get rfl hm1.1 rfl ?_
      refine v_run 0 (pc' := 21) (ls' := [some (.ref (ad 200)), some (.int (zI ↑a)), some (.int (zI ↑(mG ζ V))), some (.int (zI ↑(sumN (mTp ζ (mG ζ V) a) s))), some (.int (zI ↑s)), none]) (st' := [.ref (ad 210), .int (zI 1), .int (zI ↑s)]) rfl ?_
      refine v_get rfl hm1.2.1.1 rfl ?_
      refine v_run 1 (pc' := 25) (ls' := [some (.ref (ad 200)), some (.int (zI ↑a)), some (.int (zI ↑(mG ζ V))), some (.int (zI ↑(sumN (mTp ζ (mG ζ V) a) s))), some (.int (zI ↑s)), none]) (st' := [.int ((zI 1) <<< ((zI ↑(ζ 5 0)) &&& 31)), .int (zI ↑s)]) rfl ?_
      rw [show ((zI 1) <<< ((zI ↑(ζ 5 0)) &&& 31) : Int32) = zI ↑pw from by rw [hpw]; exact zI_1shl (by omega)]
      refine v_icmp_ge rfl (fun c25 => ?_) (fun c25 => ?_)
      · simp (disch := omega) only [zI_lt, zI_le, zI_eq, zI_lt0, zI_le0, zI_0lt, zI_0le, zI_eq0] at c25
        refine v_run 1 (pc' := 110) (ls' := [some (.ref (ad 200)), some (.int (zI ↑a)), some (.int (zI ↑(mG ζ V))), some (.int (zI ↑(sumN (mTp ζ (mG ζ V) a) s))), some (.int (zI ↑s)), none]) (st' := [.int (zI ↑(sumN (mTp ζ (mG ζ V) a) s))]) rfl ?_
        exact v_iret rfl rfl rfl ⟨by rw [show s = pw by omega, hpw]; rfl, e1⟩
      · simp (disch := omega) only [zI_lt, zI_le, zI_eq, zI_lt0, zI_le0, zI_0lt, zI_0le, zI_eq0] at c25
        have st64 : s < 64 := by omega
        refine v_run 5 (pc' := 34) (ls' := [some (.ref (ad 200)), some (.int (zI ↑a)), some (.int (zI ↑(mG ζ V))), some (.int (zI ↑(sumN (mTp ζ (mG ζ V) a) s))), some (.int (zI ↑s)), none]) (st' := [.int ((zI ↑s) &&& ((zI ↑(mG ζ V)) ^^^ (zI (-1))))]) rfl ?_
        rw [show ((zI ↑s) &&& ((zI ↑(mG ζ V)) ^^^ (zI (-1))) : Int32) = zI ↑(andn s (mG ζ V)) from zI_andn (by omega) (by omega)]
        have an64 : andn s (mG ζ V) < 64 := andn_lt (n := 6) st64
        refine v_if_ne rfl (fun c34 => ?_) (fun c34 => ?_)
        · simp (disch := omega) only [zI_lt, zI_le, zI_eq, zI_lt0, zI_le0, zI_0lt, zI_0le, zI_eq0] at c34
          refine v_run 2 (pc' := 14) (ls' := [some (.ref (ad 200)), some (.int (zI ↑a)), some (.int (zI ↑(mG ζ V))), some (.int (zI ↑(sumN (mTp ζ (mG ζ V) a) s))), some (.int ((zI ↑s) + zI 1)), none]) (st' := []) rfl ?_
          rw [zI_s1, show sumN (mTp ζ (mG ζ V) a) s = sumN (mTp ζ (mG ζ V) a) (s + 1) from by simp only [sumN]; rw [mTp, if_neg (by omega), Nat.add_zero]]
          exact ih (s + 1) (by omega) (by omega)
        · simp (disch := omega) only [zI_lt, zI_le, zI_eq, zI_lt0, zI_le0, zI_0lt, zI_0le, zI_eq0] at c34
          refine v_run 2 (pc' := 40) (ls' := [some (.ref (ad 200)), some (.int (zI ↑a)), some (.int (zI ↑(mG ζ V))), some (.int (zI ↑(sumN (mTp ζ (mG ζ V) a) s))), some (.int (zI ↑s)), none]) (st' := [.int (zI ↑a), .int (zI ↑s)]) rfl ?_
          refine v_callS (My := mX10_bit) (As := [.int (zI ↑s), .int (zI ↑a)]) (rest := []) (mc := 0) (ms := 0) rfl caX10_bit rfl rfl (q_bit G _ s a (by omega) (by omega)) rfl rfl (Nat.le_of_ble_eq_true rfl) (by omega) ?_
          rintro _ _ ⟨rfl, rfl⟩
          refine v_run 0 (pc' := 43) (ls' := [some (.ref (ad 200)), some (.int (zI ↑a)), some (.int (zI ↑(mG ζ V))), some (.int (zI ↑(sumN (mTp ζ (mG ζ V) a) s))), some (.int (zI ↑s)), none]) (st' := [.int (zb (bitN s a))]) rfl ?_
          refine v_if_eq rfl (fun c43 => ?_) (fun c43 => ?_)
          · rw [zb_0] at c43
            refine v_run 6 (pc' := 57) (ls' := [some (.ref (ad 200)), some (.int (zI ↑a)), some (.int (zI ↑(mG ζ V))), some (.int (zI ↑(sumN (mTp ζ (mG ζ V) a) s))), some (.int (zI ↑s)), some (.int ((zI ↑s) ||| ((zI 1) <<< ((zI ↑a) &&& 31))))]) (st' := []) rfl ?_
            rw [show ((zI ↑s) ||| ((zI 1) <<< ((zI ↑a) &&& 31)) : Int32) = zI ↑(s ||| 2 ^ a) from by rw [zI_1shl (by omega), zI_lor (by omega) (by have p5 := Nat.pow_le_pow_right (n := 2) (by decide) (show a ≤ 6 by omega); omega)]]
            have w64 : s ||| 2 ^ a < 64 := Nat.or_lt_two_pow (n := 6) st64 (Nat.pow_lt_pow_right (a := 2) (by decide) ha)
            have v1 := mVo_le hz s
            have v2 := mVo_le hz (andn (mG ζ V) s)
            have v3 := mVo_le hz (s ||| 2 ^ a)
            have v4 := mVo_le hz (andn (mG ζ V) (s ||| 2 ^ a))
            refine v_run 3 (pc' := 61) (ls' := [some (.ref (ad 200)), some (.int (zI ↑a)), some (.int (zI ↑(mG ζ V))), some (.int (zI ↑(sumN (mTp ζ (mG ζ V) a) s))), some (.int (zI ↑s)), some (.int (zI ↑(s ||| 2 ^ a)))]) (st' := [.int (zI ↑s), .ref (ad 200), .int (zI ↑(sumN (mTp ζ (mG ζ V) a) s))]) rfl ?_
            refine v_callV (My := mX10_votes) (As := [.int (zI ↑s)]) (rest := [.int (zI ↑(sumN (mTp ζ (mG ζ V) a) s))]) (mc := 0) (ms := 0) rfl caX10_votes rfl rfl rfl hm1.1 rfl rfl (q_votes G _ s hA hm1 hz hV st64) rfl rfl (Nat.le_of_ble_eq_true rfl) (by omega) ?_
            rintro _ _ ⟨rfl, rfl⟩
            refine v_run 0 (pc' := 64) (ls' := [some (.ref (ad 200)), some (.int (zI ↑a)), some (.int (zI ↑(mG ζ V))), some (.int (zI ↑(sumN (mTp ζ (mG ζ V) a) s))), some (.int (zI ↑s)), some (.int (zI ↑(s ||| 2 ^ a)))]) (st' := [.int (zI ↑(mVo ζ s)), .int (zI ↑(sumN (mTp ζ (mG ζ V) a) s))]) rfl ?_
            refine v_run 6 (pc' := 71) (ls' := [some (.ref (ad 200)), some (.int (zI ↑a)), some (.int (zI ↑(mG ζ V))), some (.int (zI ↑(sumN (mTp ζ (mG ζ V) a) s))), some (.int (zI ↑s)), some (.int (zI ↑(s ||| 2 ^ a)))]) (st' := [.int ((zI ↑(mG ζ V)) &&& ((zI ↑s) ^^^ (zI (-1)))), .ref (ad 200), .int (zI ↑(mVo ζ s)), .int (zI ↑(sumN (mTp ζ (mG ζ V) a) s))]) rfl ?_
            rw [show ((zI ↑(mG ζ V)) &&& ((zI ↑s) ^^^ (zI (-1))) : Int32) = zI ↑(andn (mG ζ V) s) from zI_andn (by omega) (by omega)]
            refine v_callV (My := mX10_votes) (As := [.int (zI ↑(andn (mG ζ V) s))]) (rest := [.int (zI ↑(mVo ζ s)), .int (zI ↑(sumN (mTp ζ (mG ζ V) a) s))]) (mc := 0) (ms := 0) rfl caX10_votes rfl rfl rfl hm1.1 rfl rfl (q_votes G _ (andn (mG ζ V) s) hA hm1 hz hV (andn_lt (n := 6) g64)) rfl rfl (Nat.le_of_ble_eq_true rfl) (by omega) ?_
            rintro _ _ ⟨rfl, rfl⟩
            refine v_run 0 (pc' := 74) (ls' := [some (.ref (ad 200)), some (.int (zI ↑a)), some (.int (zI ↑(mG ζ V))), some (.int (zI ↑(sumN (mTp ζ (mG ζ V) a) s))), some (.int (zI ↑s)), some (.int (zI ↑(s ||| 2 ^ a)))]) (st' := [.int (zI ↑(mVo ζ (andn (mG ζ V) s))), .int (zI ↑(mVo ζ s)), .int (zI ↑(sumN (mTp ζ (mG ζ V) a) s))]) rfl ?_
            refine v_icmp_gt rfl (fun c74 => ?_) (fun c74 => ?_)
            · simp (disch := omega) only [zI_lt, zI_le, zI_eq, zI_lt0, zI_le0, zI_0lt, zI_0le, zI_eq0] at c74
              refine v_run 5 (pc' := 14) (ls' := [some (.ref (ad 200)), some (.int (zI ↑a)), some (.int (zI ↑(mG ζ V))), some (.int ((zI ↑(sumN (mTp ζ (mG ζ V) a) s)) + (zI 0))), some (.int ((zI ↑s) + zI 1)), some (.int (zI ↑(s ||| 2 ^ a)))]) (st' := []) rfl ?_
              refine v_drop 5 (ls' := [some (.ref (ad 200)), some (.int (zI ↑a)), some (.int (zI ↑(mG ζ V))), some (.int ((zI ↑(sumN (mTp ζ (mG ζ V) a) s)) + (zI 0))), some (.int ((zI ↑s) + zI 1)), none]) rfl ?_
              rw [show (zI ↑(sumN (mTp ζ (mG ζ V) a) s)) + (zI 0) = zI ↑(sumN (mTp ζ (mG ζ V) a) (s + 1)) from by rw [show (zI 0) = zI ↑(0 : Nat) from rfl, zN_add]; simp only [sumN]; rw [mTp, if_neg (by omega)], zI_s1]
              exact ih (s + 1) (by omega) (by omega)
            · simp (disch := omega) only [zI_lt, zI_le, zI_eq, zI_lt0, zI_le0, zI_0lt, zI_0le, zI_eq0] at c74
              refine v_run 2 (pc' := 80) (ls' := [some (.ref (ad 200)), some (.int (zI ↑a)), some (.int (zI ↑(mG ζ V))), some (.int (zI ↑(sumN (mTp ζ (mG ζ V) a) s))), some (.int (zI ↑s)), some (.int (zI ↑(s ||| 2 ^ a)))]) (st' := [.int (zI ↑(s ||| 2 ^ a)), .ref (ad 200), .int (zI ↑(sumN (mTp ζ (mG ζ V) a) s))]) rfl ?_
              refine v_callV (My := mX10_votes) (As := [.int (zI ↑(s ||| 2 ^ a))]) (rest := [.int (zI ↑(sumN (mTp ζ (mG ζ V) a) s))]) (mc := 0) (ms := 0) rfl caX10_votes rfl rfl rfl hm1.1 rfl rfl (q_votes G _ (s ||| 2 ^ a) hA hm1 hz hV w64) rfl rfl (Nat.le_of_ble_eq_true rfl) (by omega) ?_
              rintro _ _ ⟨rfl, rfl⟩
              refine v_run 0 (pc' := 83) (ls' := [some (.ref (ad 200)), some (.int (zI ↑a)), some (.int (zI ↑(mG ζ V))), some (.int (zI ↑(sumN (mTp ζ (mG ζ V) a) s))), some (.int (zI ↑s)), some (.int (zI ↑(s ||| 2 ^ a)))]) (st' := [.int (zI ↑(mVo ζ (s ||| 2 ^ a))), .int (zI ↑(sumN (mTp ζ (mG ζ V) a) s))]) rfl ?_
              refine v_run 6 (pc' := 90) (ls' := [some (.ref (ad 200)), some (.int (zI ↑a)), some (.int (zI ↑(mG ζ V))), some (.int (zI ↑(sumN (mTp ζ (mG ζ V) a) s))), some (.int (zI ↑s)), some (.int (zI ↑(s ||| 2 ^ a)))]) (st' := [.int ((zI ↑(mG ζ V)) &&& ((zI ↑(s ||| 2 ^ a)) ^^^ (zI (-1)))), .ref (ad 200), .int (zI ↑(mVo ζ (s ||| 2 ^ a))), .int (zI ↑(sumN (mTp ζ (mG ζ V) a) s))]) rfl ?_
              rw [show ((zI ↑(mG ζ V)) &&& ((zI ↑(s ||| 2 ^ a)) ^^^ (zI (-1))) : Int32) = zI ↑(andn (mG ζ V) (s ||| 2 ^ a)) from zI_andn (by omega) (by omega)]
              refine v_callV (My := mX10_votes) (As := [.int (zI ↑(andn (mG ζ V) (s ||| 2 ^ a)))]) (rest := [.int (zI ↑(mVo ζ (s ||| 2 ^ a))), .int (zI ↑(sumN (mTp ζ (mG ζ V) a) s))]) (mc := 0) (ms := 0) rfl caX10_votes rfl rfl rfl hm1.1 rfl rfl (q_votes G _ (andn (mG ζ V) (s ||| 2 ^ a)) hA hm1 hz hV (andn_lt (n := 6) g64)) rfl rfl (Nat.le_of_ble_eq_true rfl) (by omega) ?_
              rintro _ _ ⟨rfl, rfl⟩
              refine v_run 0 (pc' := 93) (ls' := [some (.ref (ad 200)), some (.int (zI ↑a)), some (.int (zI ↑(mG ζ V))), some (.int (zI ↑(sumN (mTp ζ (mG ζ V) a) s))), some (.int (zI ↑s)), some (.int (zI ↑(s ||| 2 ^ a)))]) (st' := [.int (zI ↑(mVo ζ (andn (mG ζ V) (s ||| 2 ^ a)))), .int (zI ↑(mVo ζ (s ||| 2 ^ a))), .int (zI ↑(sumN (mTp ζ (mG ζ V) a) s))]) rfl ?_
              refine v_icmp_le rfl (fun c93 => ?_) (fun c93 => ?_)
              · simp (disch := omega) only [zI_lt, zI_le, zI_eq, zI_lt0, zI_le0, zI_0lt, zI_0le, zI_eq0] at c93
                refine v_run 5 (pc' := 14) (ls' := [some (.ref (ad 200)), some (.int (zI ↑a)), some (.int (zI ↑(mG ζ V))), some (.int ((zI ↑(sumN (mTp ζ (mG ζ V) a) s)) + (zI 0))), some (.int ((zI ↑s) + zI 1)), some (.int (zI ↑(s ||| 2 ^ a)))]) (st' := []) rfl ?_
                refine v_drop 5 (ls' := [some (.ref (ad 200)), some (.int (zI ↑a)), some (.int (zI ↑(mG ζ V))), some (.int ((zI ↑(sumN (mTp ζ (mG ζ V) a) s)) + (zI 0))), some (.int ((zI ↑s) + zI 1)), none]) rfl ?_
                rw [show (zI ↑(sumN (mTp ζ (mG ζ V) a) s)) + (zI 0) = zI ↑(sumN (mTp ζ (mG ζ V) a) (s + 1)) from by rw [show (zI 0) = zI ↑(0 : Nat) from rfl, zN_add]; simp only [sumN]; rw [mTp, if_neg (by omega)], zI_s1]
                exact ih (s + 1) (by omega) (by omega)
              · simp (disch := omega) only [zI_lt, zI_le, zI_eq, zI_lt0, zI_le0, zI_0lt, zI_0le, zI_eq0] at c93
                refine v_run 6 (pc' := 14) (ls' := [some (.ref (ad 200)), some (.int (zI ↑a)), some (.int (zI ↑(mG ζ V))), some (.int ((zI ↑(sumN (mTp ζ (mG ζ V) a) s)) + (zI 1))), some (.int ((zI ↑s) + zI 1)), some (.int (zI ↑(s ||| 2 ^ a)))]) (st' := []) rfl ?_
                refine v_drop 5 (ls' := [some (.ref (ad 200)), some (.int (zI ↑a)), some (.int (zI ↑(mG ζ V))), some (.int ((zI ↑(sumN (mTp ζ (mG ζ V) a) s)) + (zI 1))), some (.int ((zI ↑s) + zI 1)), none]) rfl ?_
                rw [show (zI ↑(sumN (mTp ζ (mG ζ V) a) s)) + (zI 1) = zI ↑(sumN (mTp ζ (mG ζ V) a) (s + 1)) from by rw [show (zI 1) = zI ↑(1 : Nat) from rfl, zN_add]; simp only [sumN]; rw [mTp, if_pos ⟨by omega, c43, by omega, by omega⟩], zI_s1]
                exact ih (s + 1) (by omega) (by omega)
          · rw [zb_0, Bool.not_eq_false] at c43
            refine v_run 3 (pc' := 14) (ls' := [some (.ref (ad 200)), some (.int (zI ↑a)), some (.int (zI ↑(mG ζ V))), some (.int (zI ↑(sumN (mTp ζ (mG ζ V) a) s))), some (.int ((zI ↑s) + zI 1)), none]) (st' := []) rfl ?_
            rw [zI_s1, show sumN (mTp ζ (mG ζ V) a) s = sumN (mTp ζ (mG ζ V) a) (s + 1) from by simp only [sumN]; rw [mTp, if_neg (by rw [c43]; simp), Nat.add_zero]]
            exact ih (s + 1) (by omega) (by omega)
  exact lp (pw + 1) 0 (by omega) (by omega)

set_option maxRecDepth 100000 in
set_option maxHeartbeats 400000 in
theorem q_aDrawnDay (G : ssG) (h : ssH) {ad : Nat → Nat} {rv : Value} {m : Nat → Int} {ζ : Nat → Nat → Nat} {X : Nat → Nat}  (hA : ∀ k l, ad k = ad l → k = l) (hm : MX h ad rv m ζ X) (hz : SaOk ζ) (hx : XOk X) (hd : X 23 ≤ 1000) : ssC G mX10_aDrawnDay 2 0 0 [.ref (ad 200)] h (fun r h' => r = some (.int (zb (mThu ζ X))) ∧ hset h (ad 203) (ar 26 (mDr ζ X)) = h') := by
  refine c_of_v okX10_aDrawnDay (by decide +kernel) (ls := [some (.ref (ad 200)), none]) rfl (Nat.le_of_ble_eq_true rfl) ?_
  obtain ⟨z0, z1, z2, z3, z4, z5, z6, z9, z12, z13, z14, z15, z16, z17, z18, z19, z20⟩ := id hz
  obtain ⟨x0, x6, x12, x18, x24, x25, x26⟩ := id hx
  refine v_run 1 (pc' := 1) (ls' := [some (.ref (ad 200)), none]) (st' := [.ref (ad 200)]) rfl ?_
  refine v_get rfl hm.1 rfl ?_
  refine v_run 3 (pc' := 10) (ls' := [some (.ref (ad 200)), none]) (st' := [.ref (ad 200), .long (zL 75), .int (zI 25), .ref (ad 203)]) rfl ?_
  refine v_get rfl hm.1 rfl ?_
  refine v_run 1 (pc' := 15) (ls' := [some (.ref (ad 200)), none]) (st' := [.int (zI 25), .ref (ad 203), .long (zL 75), .int (zI 25), .ref (ad 203)]) rfl ?_
  refine v_iaload' rfl hm.2.2 (i := 25) rfl (by decide) ?_
  refine v_run 5 (pc' := 25) (ls' := [some (.ref (ad 200)), none]) (st' := [.long (zL 65537), .long (((zL 75) * ((zI ↑(X 25)).toInt64)) + (zL 74)), .int (zI 25), .ref (ad 203)]) rfl ?_
  refine v_lrem rfl (by decide +kernel) ?_
  rw [show (zL 75 * (zI ↑(X 25)).toInt64 + zL 74 - (zL 75 * (zI ↑(X 25)).toInt64 + zL 74) / zL 65537 * zL 65537) = zL ↑(mSd X) from mSd_l x25]
  refine v_run 1 (pc' := 27) (ls' := [some (.ref (ad 200)), none]) (st' := [.int ((zL ↑(mSd X)).toInt32), .int (zI 25), .ref (ad 203)]) rfl ?_
  rw [show ((zL ↑(mSd X)).toInt32 : Int32) = zI ↑(mSd X) from mSd_i X]
  refine v_iastore' rfl hm.2.2 (i := 25) rfl (by decide) ?_
  rw [ar_upd]
  have hm1 := hm.x hA (mX25 X (mSd X))
  have hx1 : XOk (mX25 X (mSd X)) := mX25_ok hx (mSd_le X)
  rw [show (fun j => if j = 25 then mSd X else X j) = mX25 X (mSd X) from rfl]
  refine v_run 1 (pc' := 29) (ls' := [some (.ref (ad 200)), none]) (st' := [.ref (ad 200)]) rfl ?_
  refine v_get rfl hm1.1 rfl ?_
  refine v_run 1 (pc' := 34) (ls' := [some (.ref (ad 200)), none]) (st' := [.int (zI 25), .ref (ad 203)]) rfl ?_
  refine v_iaload' rfl hm1.2.2 (i := 25) rfl (by decide) ?_
  refine v_run 1 (pc' := 37) (ls' := [some (.ref (ad 200)), none]) (st' := [.int (zI 100), .int (zI ↑((mX25 X (mSd X)) 25))]) rfl ?_
  refine v_irem rfl (zI_ne0 (by decide) (by decide)) ?_
  have d9 := mSd_le X
  rw [show ((zI ↑(mX25 X (mSd X) 25) - zI ↑(mX25 X (mSd X) 25) / zI 100 * zI 100) : Int32) = zI ↑(mSd X % 100) from by rw [show mX25 X (mSd X) 25 = mSd X from rfl, show (zI 100) = zI ((100 : Nat) : Int) from rfl, zN_rem (by omega) (by omega) (by omega)]]
  refine v_run 1 (pc' := 39) (ls' := [some (.ref (ad 200)), none]) (st' := [.ref (ad 200), .int (zI ↑(mSd X % 100))]) rfl ?_
  refine v_get rfl hm1.1 rfl ?_
  refine v_run 0 (pc' := 42) (ls' := [some (.ref (ad 200)), none]) (st' := [.ref (ad 210), .int (zI ↑(mSd X % 100))]) rfl ?_
  refine v_get rfl hm1.2.1.1 rfl ?_
  refine v_run 0 (pc' := 45) (ls' := [some (.ref (ad 200)), none]) (st' := [.int (zI ↑(ζ 2 0)), .int (zI ↑(mSd X % 100))]) rfl ?_
  refine v_icmp_ge rfl (fun c45 => ?_) (fun c45 => ?_)
  · simp (disch := omega) only [zI_lt, zI_le, zI_eq, zI_lt0, zI_le0, zI_0lt, zI_0le, zI_eq0] at c45
    refine v_run 1 (pc' := 53) (ls' := [some (.ref (ad 200)), none]) (st' := [.int (zI 0)]) rfl ?_
    have eb : mThu ζ X = false := by unfold mThu; simp; omega
    refine v_run 0 (pc' := 53) (ls' := [some (.ref (ad 200)), none]) (st' := [.int (zb false)]) rfl ?_
    refine v_run 3 (pc' := 56) (ls' := [some (.ref (ad 200)), some (.int (zb false))]) (st' := [.int (zb false), .ref (ad 200)]) rfl ?_
    refine v_callV (My := mX10_aDay) (As := [.int (zb false)]) (rest := []) (mc := 0) (ms := 0) rfl caX10_aDay rfl rfl rfl hm1.1 rfl rfl (q_aDay G _ false hA hm1 hz hx1 hd) rfl rfl (Nat.le_of_ble_eq_true rfl) (by omega) ?_
    rintro _ _ ⟨rfl, rfl⟩
    refine v_run 0 (pc' := 59) (ls' := [some (.ref (ad 200)), some (.int (zb false))]) (st' := []) rfl ?_
    refine v_run 1 (pc' := 60) (ls' := [some (.ref (ad 200)), some (.int (zb false))]) (st' := [.int (zb false)]) rfl ?_
    exact v_iret rfl rfl rfl ⟨by rw [eb], by rw [hset_hset, mDr, eb]⟩
  · simp (disch := omega) only [zI_lt, zI_le, zI_eq, zI_lt0, zI_le0, zI_0lt, zI_0le, zI_eq0] at c45
    refine v_run 2 (pc' := 53) (ls' := [some (.ref (ad 200)), none]) (st' := [.int (zI 1)]) rfl ?_
    have eb : mThu ζ X = true := by unfold mThu; simp; omega
    refine v_run 0 (pc' := 53) (ls' := [some (.ref (ad 200)), none]) (st' := [.int (zb true)]) rfl ?_
    refine v_run 3 (pc' := 56) (ls' := [some (.ref (ad 200)), some (.int (zb true))]) (st' := [.int (zb true), .ref (ad 200)]) rfl ?_
    refine v_callV (My := mX10_aDay) (As := [.int (zb true)]) (rest := []) (mc := 0) (ms := 0) rfl caX10_aDay rfl rfl rfl hm1.1 rfl rfl (q_aDay G _ true hA hm1 hz hx1 hd) rfl rfl (Nat.le_of_ble_eq_true rfl) (by omega) ?_
    rintro _ _ ⟨rfl, rfl⟩
    refine v_run 0 (pc' := 59) (ls' := [some (.ref (ad 200)), some (.int (zb true))]) (st' := []) rfl ?_
    refine v_run 1 (pc' := 60) (ls' := [some (.ref (ad 200)), some (.int (zb true))]) (st' := [.int (zb true)]) rfl ?_
    exact v_iret rfl rfl rfl ⟨by rw [eb], by rw [hset_hset, mDr, eb]⟩

set_option maxRecDepth 100000 in
set_option maxHeartbeats 400000 in
theorem q_daysBy (G : ssG) (h : ssH) {ad : Nat → Nat} {rv : Value} {m : Nat → Int} {ζ : Nat → Nat → Nat} {X : Nat → Nat} {V : Nat → Nat} (e t : Nat) (hA : ∀ k l, ad k = ad l → k = l) (hm : MX h ad rv m ζ X) (hz : SaOk ζ) (hx : XOk X) (hv : h (ad 202) = some (ar 26 V)) (hV : XOk V) (hd : V 23 ≤ 99) (he : e ≤ 65536) (ht : t ≤ 99) : ssC G mX10_daysBy 3 0 0 [.ref (ad 200), .int (zI ↑e), .int (zI ↑t)] h (fun r h' => r = some (.int (zI ↑(mTh ζ e t))) ∧ hset h (ad 203) (ar 26 (mDb ζ V e t)) = h') := by
  refine c_of_v okX10_daysBy (by decide +kernel) (ls := [some (.ref (ad 200)), some (.int (zI ↑e)), some (.int (zI ↑t)), none, none]) rfl (Nat.le_of_ble_eq_true rfl) ?_
  obtain ⟨z0, z1, z2, z3, z4, z5, z6, z9, z12, z13, z14, z15, z16, z17, z18, z19, z20⟩ := id hz
  obtain ⟨x0, x6, x12, x18, x24, x25, x26⟩ := id hx
  refine v_run 1 (pc' := 1) (ls' := [some (.ref (ad 200)), some (.int (zI ↑e)), some (.int (zI ↑t)), none, none]) (st' := [.ref (ad 200)]) rfl ?_
  refine v_callV (My := mX10_works) (As := []) (rest := []) (mc := 0) (ms := 0) rfl caX10_works rfl rfl rfl hm.1 rfl rfl (q_works G _ hA hm hz hx hv hV) rfl rfl (Nat.le_of_ble_eq_true rfl) (by omega) ?_
  rintro _ h1 ⟨rfl, e1⟩
  have hm1 : MX h1 ad rv m ζ V := e1 ▸ hm.x hA V
  refine v_run 0 (pc' := 4) (ls' := [some (.ref (ad 200)), some (.int (zI ↑e)), some (.int (zI ↑t)), none, none]) (st' := []) rfl ?_
  refine v_run 1 (pc' := 5) (ls' := [some (.ref (ad 200)), some (.int (zI ↑e)), some (.int (zI ↑t)), none, none]) (st' := [.ref (ad 200)]) rfl ?_
  refine v_get rfl hm1.1 rfl ?_
  refine v_run 2 (pc' := 11) (ls' := [some (.ref (ad 200)), some (.int (zI ↑e)), some (.int (zI ↑t)), none, none]) (st' := [.int (zI ↑e), .int (zI 25), .ref (ad 203)]) rfl ?_
  refine v_iastore' rfl hm1.2.2 (i := 25) rfl (by decide) ?_
  rw [ar_upd, ← e1, hset_hset, show (fun j => if j = 25 then e else V j) = mDb ζ V e 0 from rfl]
  refine v_run 4 (pc' := 17) (ls' := [some (.ref (ad 200)), some (.int (zI ↑e)), some (.int (zI ↑t)), some (.int (zI 0)), some (.int (zI 0))]) (st' := []) rfl ?_
  refine v_drop 1 (ls' := [some (.ref (ad 200)), none, some (.int (zI ↑t)), some (.int (zI 0)), some (.int (zI 0))]) rfl ?_
  have lp : ∀ (n s : Nat), s ≤ t → t + 1 ≤ s + n → ssV G mX10_daysBy 3 0 0 (fun r h' => r = some (.int (zI ↑(mTh ζ e t))) ∧ hset h (ad 203) (ar 26 (mDb ζ V e t)) = h') 17 [some (.ref (ad 200)), none, some (.int (zI ↑t)), some (.int (zI ↑(mTh ζ e s))), some (.int (zI ↑s))] [] (hset h (ad 203) (ar 26 (mDb ζ V e s))) := by
    intro n
    induction n with
    | zero => intro s hs1 hs2; exact absurd hs2 (by omega)
    | succ n ih =>
      intro s hs1 hs2
      have hx2 := mDb_ok hz hV he s
      have d23 := mDb_23 ζ V e s
      have hm2 := hm.x hA (mDb ζ V e s)
      have dt := mDb_t hz V e s
      refine v_run 2 (pc' := 20) (ls' := [some (.ref (ad 200)), none, some (.int (zI ↑t)), some (.int (zI ↑(mTh ζ e s))), some (.int (zI ↑s))]) (st' := [.int (zI ↑t), .int (zI ↑s)]) rfl ?_
      refine v_icmp_ge rfl (fun c20 => ?_) (fun c20 => ?_)
      · simp (disch := omega) only [zI_lt, zI_le, zI_eq, zI_lt0, zI_le0, zI_0lt, zI_0le, zI_eq0] at c20
        refine v_run 1 (pc' := 45) (ls' := [some (.ref (ad 200)), none, some (.int (zI ↑t)), some (.int (zI ↑(mTh ζ e s))), some (.int (zI ↑s))]) (st' := [.int (zI ↑(mTh ζ e s))]) rfl ?_
        exact v_iret rfl rfl rfl (by rw [show s = t by omega]; exact ⟨rfl, rfl⟩)
      · simp (disch := omega) only [zI_lt, zI_le, zI_eq, zI_lt0, zI_le0, zI_0lt, zI_0le, zI_eq0] at c20
        refine v_run 2 (pc' := 25) (ls' := [some (.ref (ad 200)), none, some (.int (zI ↑t)), some (.int (zI ↑(mTh ζ e s))), some (.int (zI ↑s))]) (st' := [.ref (ad 200), .int (zI ↑(mTh ζ e s))]) rfl ?_
        refine v_callV (My := mX10_aDrawnDay) (As := []) (rest := [.int (zI ↑(mTh ζ e s))]) (mc := 0) (ms := 0) rfl caX10_aDrawnDay rfl rfl rfl hm2.1 rfl rfl (q_aDrawnDay G _ hA hm2 hz hx2 (by omega)) rfl rfl (Nat.le_of_ble_eq_true rfl) (by omega) ?_
        rintro _ _ ⟨rfl, rfl⟩
        rw [hset_hset]
        refine v_run 0 (pc' := 28) (ls' := [some (.ref (ad 200)), none, some (.int (zI ↑t)), some (.int (zI ↑(mTh ζ e s))), some (.int (zI ↑s))]) (st' := [.int (zb (mThu ζ (mDb ζ V e s))), .int (zI ↑(mTh ζ e s))]) rfl ?_
        refine v_if_eq rfl (fun c28 => ?_) (fun c28 => ?_)
        · rw [zb_0, dt] at c28
          refine v_run 5 (pc' := 17) (ls' := [some (.ref (ad 200)), none, some (.int (zI ↑t)), some (.int ((zI ↑(mTh ζ e s)) + (zI 0))), some (.int ((zI ↑s) + zI 1))]) (st' := []) rfl ?_
          rw [show (zI ↑(mTh ζ e s)) + (zI 0) = zI ↑(mTh ζ e (s + 1)) from by rw [show (zI 0) = zI ↑(0 : Nat) from rfl, zN_add]; simp only [mTh, sumN]; rw [if_neg (by simpa using c28)], zI_s1]
          exact ih (s + 1) (by omega) (by omega)
        · rw [zb_0, Bool.not_eq_false, dt] at c28
          refine v_run 6 (pc' := 17) (ls' := [some (.ref (ad 200)), none, some (.int (zI ↑t)), some (.int ((zI ↑(mTh ζ e s)) + (zI 1))), some (.int ((zI ↑s) + zI 1))]) (st' := []) rfl ?_
          rw [show (zI ↑(mTh ζ e s)) + (zI 1) = zI ↑(mTh ζ e (s + 1)) from by rw [show (zI 1) = zI ↑(1 : Nat) from rfl, zN_add]; simp only [mTh, sumN]; rw [if_pos (by simpa using c28)], zI_s1]
          exact ih (s + 1) (by omega) (by omega)
  exact lp (t + 1) 0 (by omega) (by omega)

set_option maxRecDepth 100000 in
set_option maxHeartbeats 400000 in
theorem q_common (G : ssG) (h : ssH) (a b : Nat) (ha : a < 4611686018427387904) (hb : b < 4611686018427387904) : ssC G mX10_common 0 0 0 [.long (zL ↑a), .long (zL ↑b)] h (rL (zL ↑(Nat.gcd b a)) h) := by
  refine c_of_v okX10_common (by decide +kernel) (ls := [some (.long (zL ↑a)), none, some (.long (zL ↑b)), none, none, none, none, none, none, none]) rfl (Nat.le_of_ble_eq_true rfl) ?_
  refine v_run 4 (pc' := 6) (ls' := [some (.long (zL ↑a)), none, some (.long (zL ↑b)), none, some (.long (zL ↑a)), none, some (.long (zL ↑b)), none, none, none]) (st' := []) rfl ?_
  refine v_drop 0 rfl ?_
  refine v_drop 2 rfl ?_
  have lp : ∀ (n s x y : Nat), (s + y ≤ b ∧ x < 4611686018427387904 ∧ Nat.gcd y x = Nat.gcd b a) → b + 1 ≤ s + n → ssV G mX10_common 0 0 0 (rL (zL ↑(Nat.gcd b a)) h) 6 [none, none, none, none, some (.long (zL ↑x)), none, some (.long (zL ↑y)), none, none, none] [] h := by
    intro n
    induction n with
    | zero => intro s x y hs1 hs2; exact absurd hs2 (by omega)
    | succ n ih =>
      intro s x y hs1 hs2
      refine v_run 3 (pc' := 10) (ls' := [none, none, none, none, some (.long (zL ↑x)), none, some (.long (zL ↑y)), none, none, none]) (st' := [.int (lg_cmp (zL ↑y) (zL 0))]) rfl ?_
      refine v_if_eq rfl (fun c10 => ?_) (fun c10 => ?_)
      · rw [lg_eq0, zL_eq (by omega) (by omega) (by omega) (by omega)] at c10
        refine v_run 1 (pc' := 33) (ls' := [none, none, none, none, some (.long (zL ↑x)), none, some (.long (zL ↑y)), none, none, none]) (st' := [.long (zL ↑x)]) rfl ?_
        exact v_lret rfl rfl ⟨by rw [← hs1.2.2, show y = 0 by omega, Nat.gcd_zero_left], rfl⟩
      · rw [lg_eq0, zL_eq (by omega) (by omega) (by omega) (by omega)] at c10
        refine v_run 2 (pc' := 17) (ls' := [none, none, none, none, some (.long (zL ↑x)), none, some (.long (zL ↑y)), none, none, none]) (st' := [.long (zL ↑y), .long (zL ↑x)]) rfl ?_
        refine v_lrem rfl (zL_ne0 (by omega) (by omega)) ?_
        rw [show (zL ↑x - zL ↑x / zL ↑y * zL ↑y) = zL ↑(x % y) from zLN_rem (by omega) (by omega) (by omega)]
        have hml := Nat.mod_lt x (show 0 < y by omega)
        refine v_run 6 (pc' := 6) (ls' := [none, none, none, none, some (.long (zL ↑y)), none, some (.long (zL ↑(x % y))), none, some (.long (zL ↑(x % y))), none]) (st' := []) rfl ?_
        refine v_drop 8 (ls' := [none, none, none, none, some (.long (zL ↑y)), none, some (.long (zL ↑(x % y))), none, none, none]) rfl ?_
        exact ih (s + 1) y (x % y) ⟨by omega, by omega, by rw [← hs1.2.2, ← Nat.gcd_rec y x]⟩ (by omega)
  exact lp (b + 1) 0 a b ⟨by omega, ha, rfl⟩ (by omega)

set_option maxRecDepth 100000 in
set_option maxHeartbeats 400000 in
theorem q_fraction (G : ssG) (h : ssH) {ad : Nat → Nat} {sv rv : Value} {m : Nat → Int} (a b : Nat) (p : Bool) (ho : h (ad 200) = some (.inr (10, obM ad sv rv m))) (ha : a < 4611686018427387904) (hb : b < 4611686018427387904) (hb0 : 0 < b) : ssC G mX10_fraction 1 0 0 [.ref (ad 200), .long (zL ↑a), .long (zL ↑b), .int (zb p)] h (fun r h' => r = some (.long (zL ↑(cFrac a b p))) ∧ hset h (ad 200) (.inr (10, obM ad sv rv (mT m 0))) = h') := by
  refine c_of_v okX10_fraction (by decide +kernel) (ls := [some (.ref (ad 200)), some (.long (zL ↑a)), none, some (.long (zL ↑b)), none, some (.int (zb p))]) rfl (Nat.le_of_ble_eq_true rfl) ?_
  have g1 : 0 < Nat.gcd b a := Nat.gcd_pos_of_pos_left a hb0
  have g2 : Nat.gcd b a ≤ b := Nat.gcd_le_left a hb0
  refine v_run 2 (pc' := 2) (ls' := [some (.ref (ad 200)), some (.long (zL ↑a)), none, some (.long (zL ↑b)), none, some (.int (zb p))]) (st' := [.int (zI 0), .ref (ad 200)]) rfl ?_
  refine v_callV (My := mX10_well) (As := [.int (zI 0)]) (rest := []) (mc := 0) (ms := 0) rfl caX10_well rfl rfl rfl ho rfl rfl (q_well G _ (zI 0) ho) rfl rfl (Nat.le_of_ble_eq_true rfl) (by omega) ?_
  rintro _ _ ⟨rfl, rfl⟩
  refine v_run 0 (pc' := 5) (ls' := [some (.ref (ad 200)), some (.long (zL ↑a)), none, some (.long (zL ↑b)), none, some (.int (zb p))]) (st' := [.int (zI 0)]) rfl ?_
  refine v_run 2 (pc' := 8) (ls' := [some (.ref (ad 200)), some (.long (zL ↑a)), none, some (.long (zL ↑b)), none, some (.int (zb p))]) (st' := [.int (zb p)]) rfl ?_
  refine v_if_eq rfl (fun c8 => ?_) (fun c8 => ?_)
  · rw [zb_0] at c8
    refine v_run 3 (pc' := 18) (ls' := [some (.ref (ad 200)), some (.long (zL ↑a)), none, some (.long (zL ↑b)), none, some (.int (zb p))]) (st' := [.long (zL ↑b), .long (zL ↑a), .long (zL ↑a)]) rfl ?_
    refine v_callS (My := mX10_common) (As := [.long (zL ↑a), .long (zL ↑b)]) (rest := [.long (zL ↑a)]) (mc := 0) (ms := 0) rfl caX10_common rfl rfl (q_common G _ a b ha hb) rfl rfl (Nat.le_of_ble_eq_true rfl) (by omega) ?_
    rintro _ _ ⟨rfl, rfl⟩
    refine v_run 0 (pc' := 21) (ls' := [some (.ref (ad 200)), some (.long (zL ↑a)), none, some (.long (zL ↑b)), none, some (.int (zb p))]) (st' := [.long (zL ↑(Nat.gcd b a)), .long (zL ↑a)]) rfl ?_
    refine v_ldiv rfl (zL_ne0 (by omega) (by omega)) ?_
    exact v_lret rfl rfl ⟨by rw [zLN_div (by omega) (by omega) (by omega), cFrac, c8]; rfl, rfl⟩
  · rw [zb_0, Bool.not_eq_false] at c8
    refine v_run 4 (pc' := 18) (ls' := [some (.ref (ad 200)), some (.long (zL ↑a)), none, some (.long (zL ↑b)), none, some (.int (zb p))]) (st' := [.long (zL ↑b), .long (zL ↑a), .long (zL ↑b)]) rfl ?_
    refine v_callS (My := mX10_common) (As := [.long (zL ↑a), .long (zL ↑b)]) (rest := [.long (zL ↑b)]) (mc := 0) (ms := 0) rfl caX10_common rfl rfl (q_common G _ a b ha hb) rfl rfl (Nat.le_of_ble_eq_true rfl) (by omega) ?_
    rintro _ _ ⟨rfl, rfl⟩
    refine v_run 0 (pc' := 21) (ls' := [some (.ref (ad 200)), some (.long (zL ↑a)), none, some (.long (zL ↑b)), none, some (.int (zb p))]) (st' := [.long (zL ↑(Nat.gcd b a)), .long (zL ↑b)]) rfl ?_
    refine v_ldiv rfl (zL_ne0 (by omega) (by omega)) ?_
    exact v_lret rfl rfl ⟨by rw [zLN_div (by omega) (by omega) (by omega), cFrac, c8]; rfl, rfl⟩

