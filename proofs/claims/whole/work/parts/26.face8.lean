theorem sm_lt {f : Nat → Nat} {n : Nat} (hf : ∀ k, k < n → f k ≤ 120 * 1000000000000) (hn : n ≤ 10) : sumN f n < 4611686018427387904 := by
  have h1 : ∀ m, m ≤ n → sumN f m ≤ m * (120 * 1000000000000) := by
    intro m
    induction m with
    | zero => intro _; simp [sumN]
    | succ m ih =>
      intro hm
      have h2 := ih (by omega)
      have h3 := hf m (by omega)
      simp only [sumN, Nat.add_mul, Nat.one_mul]
      omega
  have h2 := h1 n (Nat.le_refl _)
  have h3 := Nat.mul_le_mul_right (120 * 1000000000000) hn
  omega
theorem sumN_ge {f : Nat → Nat} {k : Nat} : ∀ {n : Nat}, k < n → f k ≤ sumN f n
  | 0, h => absurd h (by omega)
  | n + 1, h => by
    simp only [sumN]
    rcases Nat.lt_or_ge k n with h1 | h1
    · have := sumN_ge (f := f) h1; omega
    · rw [show k = n by omega]; omega
theorem popN_pos {m k : Nat} (hk : k < 6) (h : ¬ m / 2 ^ k % 2 = 0) : 1 ≤ popN m := by
  have := sumN_ge (f := fun k => m / 2 ^ k % 2) hk
  unfold popN
  omega
theorem zL_shl {k : Nat} (hk : k < 6) : zL 1 <<< ((zI (k : Int)).toInt64 &&& 63) = zL ((2 ^ k : Nat) : Int) := by
  have : ∀ k : Fin 6, zL 1 <<< ((zI ((k.val : Nat) : Int)).toInt64 &&& 63) = zL ((2 ^ k.val : Nat) : Int) := by decide +kernel
  exact this ⟨k, hk⟩
def sOdds (σ : sT) (m : Nat) : Nat := sumN (fun k => if σ 1 0 0 ≤ popN (sAft σ m k) then chN (σ 1 2 0) k m else 0) (m + 1)
def cFrac (u w : Nat) (lo : Bool) : Nat := (if lo then w else u) / Nat.gcd w u
def aOdds (σ : sT) (n : Int) (lo : Bool) : Int × Nat := if σ 1 5 0 = 0 then (-1, 1) else if n < 0 ∨ 6 < n then (-1, 2) else (↑(cFrac (sOdds σ n.toNat) (100 ^ n.toNat) lo), 0)
def aPower (σ : sT) (s : Int) (lo : Bool) : Int × Nat := if s < 0 ∨ ↑(σ 1 5 0) ≤ s then (-1, 1) else if sGood σ / 2 ^ s.toNat % 2 = 0 then (-1, 5) else (↑(cFrac (swN σ s.toNat) (2 ^ (popN (sGood σ) - 1)) lo), 0)
set_option maxRecDepth 100000 in
set_option maxHeartbeats 400000 in
theorem k_reduced (G : ssG) (h : ssH) (u wh : Nat) (lo : Bool) (hu : u < 4611686018427387904) (hw : wh < 4611686018427387904) (hw0 : 0 < wh) : ssC G mX8_reduced 1 0 0 [.long (zL ↑u), .long (zL ↑wh), .int (zb lo)] h (rL (zL ↑((if lo then wh else u) / Nat.gcd wh u)) h) := by
  refine c_of_v okX8_reduced (by decide +kernel) (ls := [some (.long (zL ↑u)), none, some (.long (zL ↑wh)), none, some (.int (zb lo)), none, none]) rfl (Nat.le_of_ble_eq_true rfl) ?_
  have q1 : 0 < Nat.gcd wh u := Nat.gcd_pos_of_pos_left u hw0
  have q2 : Nat.gcd wh u ≤ wh := Nat.gcd_le_left u hw0
  refine v_run 2 (pc' := 2) (ls' := [some (.long (zL ↑u)), none, some (.long (zL ↑wh)), none, some (.int (zb lo)), none, none]) (st' := [.long (zL ↑u), .long (zL ↑wh)]) rfl ?_
  refine v_callS (My := mX8_commonDivisor) (As := [.long (zL ↑wh), .long (zL ↑u)]) (rest := []) (mc := 0) (ms := 0) rfl caX8_commonDivisor rfl rfl (k_commonDivisor G _ wh u hw hu) rfl rfl (Nat.le_of_ble_eq_true rfl) (by omega) ?_
  rintro _ _ ⟨rfl, rfl⟩
  refine v_run 0 (pc' := 5) (ls' := [some (.long (zL ↑u)), none, some (.long (zL ↑wh)), none, some (.int (zb lo)), none, none]) (st' := [.long (zL ↑(Nat.gcd wh u))]) rfl ?_
  refine v_run 4 (pc' := 11) (ls' := [some (.long (zL ↑u)), none, some (.long (zL ↑wh)), none, some (.int (zb lo)), some (.long (zL ↑(Nat.gcd wh u))), none]) (st' := [.int (lg_cmp (zL ↑(Nat.gcd wh u)) (zL 0))]) rfl ?_
  refine v_if_gt rfl (fun c11 => ?_) (fun c11 => ?_)
  · refine v_run 1 (pc' := 27) (ls' := [some (.long (zL ↑u)), none, some (.long (zL ↑wh)), none, some (.int (zb lo)), some (.long (zL ↑(Nat.gcd wh u))), none]) (st' := [.int (zb lo)]) rfl ?_
    refine v_if_eq rfl (fun c27 => ?_) (fun c27 => ?_)
    · rw [zb_0] at c27
      subst c27
      refine v_run 2 (pc' := 40) (ls' := [some (.long (zL ↑u)), none, some (.long (zL ↑wh)), none, some (.int (zb false)), some (.long (zL ↑(Nat.gcd wh u))), none]) (st' := [.long (zL ↑(Nat.gcd wh u)), .long (zL ↑u)]) rfl ?_
      refine v_ldiv rfl (zL_ne0 (by omega) (by omega)) ?_
      exact v_lret rfl rfl ⟨by rw [zLN_div (by omega) q1 (by omega)]; rfl, rfl⟩
    · rw [zb_0, Bool.not_eq_false] at c27
      subst c27
      refine v_run 2 (pc' := 33) (ls' := [some (.long (zL ↑u)), none, some (.long (zL ↑wh)), none, some (.int (zb true)), some (.long (zL ↑(Nat.gcd wh u))), none]) (st' := [.long (zL ↑(Nat.gcd wh u)), .long (zL ↑wh)]) rfl ?_
      refine v_ldiv rfl (zL_ne0 (by omega) (by omega)) ?_
      refine v_run 1 (pc' := 41) (ls' := [some (.long (zL ↑u)), none, some (.long (zL ↑wh)), none, some (.int (zb true)), some (.long (zL ↑(Nat.gcd wh u))), none]) (st' := [.long (zL ↑wh / zL ↑(Nat.gcd wh u))]) rfl ?_
      exact v_lret rfl rfl ⟨by rw [zLN_div (by omega) q1 (by omega)]; rfl, rfl⟩
  · rw [lg_gt0, zL_lt (by omega) (by omega) (by omega) (by omega)] at c11
    omega

set_option maxRecDepth 100000 in
set_option maxHeartbeats 400000 in
theorem k_power (G : ssG) (h : ssH) {ad : Nat → Nat} {pl : Nat} {σ : sT} (s : Int) (lo : Bool) (hA : ∀ k l, ad k = ad l → k = l) (hc : CW0 h ad pl σ) (hok : sOk σ) (hs : -2147483648 ≤ s ∧ s < 2147483648) : ssC G mX8_power 2 0 0 [.ref (ad 0), .int (zI s), .int (zb lo)] h (cR ad pl (sTr σ (aPower σ s lo).2) h (.long (zL (aPower σ s lo).1))) := by
  refine c_of_v okX8_power (by decide +kernel) (ls := [some (.ref (ad 0)), some (.int (zI s)), some (.int (zb lo)), none]) rfl (Nat.le_of_ble_eq_true rfl) ?_
  obtain ⟨i0, i1, i2, i3, i5, i7, a4, a6, a8, a9, a10, i11, i12, i14, i15⟩ := id hok.1
  obtain ⟨j0, j1, j2, b3, b4, b5, b6⟩ := id (hok.2.2 3 (by decide))
  have i13 := hok.2.1
  have hpl := hc.1
  simp only [fI] at i0 i1 i2 i3 i5 i7 i11 i12 i14 i15 j0 j1 j2
  refine v_run 2 (pc' := 2) (ls' := [some (.ref (ad 0)), some (.int (zI s)), some (.int (zb lo)), none]) (st' := [.int (zI s), .ref (ad 0)]) rfl ?_
  refine v_callV (My := mX8_lacksSenator) (As := [.int (zI s)]) (rest := []) (mc := 0) (ms := 0) rfl caX8_lacksSenator rfl rfl rfl hc.2.1 rfl rfl (k_lacksSenator G _ s hA hc hok hs) rfl rfl (Nat.le_of_ble_eq_true rfl) (by omega) ?_
  rintro _ _ ⟨rfl, rfl⟩
  refine v_run 0 (pc' := 5) (ls' := [some (.ref (ad 0)), some (.int (zI s)), some (.int (zb lo)), none]) (st' := [.int (zb (decide (s < 0 ∨ ↑(σ 1 5 0) ≤ s)))]) rfl ?_
  refine v_if_eq rfl (fun c5 => ?_) (fun c5 => ?_)
  · rw [zb_0, decide_eq_false_iff_not] at c5
    obtain ⟨k, rfl⟩ : ∃ z : Nat, s = ↑z := ⟨s.toNat, by omega⟩
    have q0 : sGood σ < 64 := setN_lt64 _ i5
    refine v_run 1 (pc' := 16) (ls' := [some (.ref (ad 0)), some (.int (zI ↑k)), some (.int (zb lo)), none]) (st' := [.ref (ad 0)]) rfl ?_
    refine v_callV (My := mX8_goodNow) (As := []) (rest := []) (mc := 0) (ms := 0) rfl caX8_goodNow rfl rfl rfl hc.2.1 rfl rfl (k_goodNow G _ hA hc hok) rfl rfl (Nat.le_of_ble_eq_true rfl) (by omega) ?_
    rintro _ _ ⟨rfl, rfl⟩
    refine v_run 0 (pc' := 19) (ls' := [some (.ref (ad 0)), some (.int (zI ↑k)), some (.int (zb lo)), none]) (st' := [.int (zI ↑(sGood σ))]) rfl ?_
    refine v_run 6 (pc' := 25) (ls' := [some (.ref (ad 0)), some (.int (zI ↑k)), some (.int (zb lo)), some (.int (zI ↑(sGood σ)))]) (st' := [.int (((zI ↑(sGood σ)) >>> ((zI ↑k) &&& 31)) &&& (zI 1))]) rfl ?_
    rw [show (((zI ↑(sGood σ)) >>> ((zI ↑k) &&& 31)) &&& (zI 1) : Int32) = zI ↑(sGood σ / 2 ^ k % 2) from zI_bit (by omega) (by omega)]
    refine v_if_ne rfl (fun c25 => ?_) (fun c25 => ?_)
    · simp (disch := omega) only [zI_lt, zI_le, zI_eq, zI_lt0, zI_le0, zI_0lt, zI_0le, zI_eq0] at c25
      have q1 := popN_le (sGood σ)
      have q2 : 1 ≤ popN (sGood σ) := popN_pos (k := k) (by omega) (by omega)
      have q3 := swN_le σ k
      have qp : 2 ^ (popN (sGood σ) - 1) < 4611686018427387904 := Nat.lt_of_le_of_lt (Nat.pow_le_pow_right (n := 2) (by decide) (show popN (sGood σ) - 1 ≤ 6 by omega)) (by decide)
      have qz : 0 < 2 ^ (popN (sGood σ) - 1) := Nat.pow_pos (by decide)
      refine v_run 2 (pc' := 37) (ls' := [some (.ref (ad 0)), some (.int (zI ↑k)), some (.int (zb lo)), some (.int (zI ↑(sGood σ)))]) (st' := [.int (zI 0), .ref (ad 0)]) rfl ?_
      refine v_put rfl hc.2.1 rfl rfl (Nat.le_of_ble_eq_true rfl) ?_
      rw [show (obX ad pl σ).set 6 (.int (zI 0)) = obX ad pl (sTr σ 0) by simp [obX, sTr]]
      generalize he9 : hset h (ad 0) (.inr (8, obX ad pl (sTr σ 0))) = h9
      have hc9 : CW0 h9 ad pl (sTr σ 0) := he9 ▸ hc.trouble hA 0
      have hf9 : frP ad pl h h9 := he9 ▸ (frP.rf ad pl h).set hA hc.1 (Or.inl rfl) _
      have hP9 : CPlan h9 ad pl σ := he9 ▸ hc.2.2.1.fr hA (by omega)
      refine v_run 1 (pc' := 41) (ls' := [some (.ref (ad 0)), some (.int (zI ↑k)), some (.int (zb lo)), some (.int (zI ↑(sGood σ)))]) (st' := [.ref (ad 0)]) rfl ?_
      refine v_get rfl hc9.2.1 rfl ?_
      refine v_run 2 (pc' := 46) (ls' := [some (.ref (ad 0)), some (.int (zI ↑k)), some (.int (zb lo)), some (.int (zI ↑(sGood σ)))]) (st' := [.int (zI ↑(sGood σ)), .int (zI ↑k), .ref (ad pl)]) rfl ?_
      refine v_callV (My := mX4_swingsOf) (As := [.int (zI ↑k), .int (zI ↑(sGood σ))]) (rest := []) (mc := 0) (ms := 0) rfl caX4_swingsOf rfl rfl rfl hP9.1 rfl rfl (k_swingsOf G _ k (sGood σ) hP9 hok.1 (by omega) q0) rfl rfl (Nat.le_of_ble_eq_true rfl) (by omega) ?_
      rintro _ _ ⟨rfl, rfl⟩
      refine v_run 0 (pc' := 49) (ls' := [some (.ref (ad 0)), some (.int (zI ↑k)), some (.int (zb lo)), some (.int (zI ↑(sGood σ)))]) (st' := [.int (zI ↑(swN σ k))]) rfl ?_
      refine v_run 3 (pc' := 52) (ls' := [some (.ref (ad 0)), some (.int (zI ↑k)), some (.int (zb lo)), some (.int (zI ↑(sGood σ)))]) (st' := [.int (zI ↑(sGood σ)), .long (zL 1), .long ((zI ↑(swN σ k)).toInt64)]) rfl ?_
      refine v_callS (My := mJ6_bitCount_0f7a4) (As := [.int (zI ↑(sGood σ))]) (rest := [.long (zL 1), .long ((zI ↑(swN σ k)).toInt64)]) (mc := 0) (ms := 0) rfl caJ6_bitCount_0f7a4 rfl rfl (k_bitCount G _ (sGood σ) q0) rfl rfl (Nat.le_of_ble_eq_true rfl) (by omega) ?_
      rintro _ _ ⟨rfl, rfl⟩
      refine v_run 0 (pc' := 55) (ls' := [some (.ref (ad 0)), some (.int (zI ↑k)), some (.int (zb lo)), some (.int (zI ↑(sGood σ)))]) (st' := [.int (zI ↑(popN (sGood σ))), .long (zL 1), .long ((zI ↑(swN σ k)).toInt64)]) rfl ?_
      refine v_run 4 (pc' := 59) (ls' := [some (.ref (ad 0)), some (.int (zI ↑k)), some (.int (zb lo)), some (.int (zI ↑(sGood σ)))]) (st' := [.int (zb lo), .long ((zL 1) <<< (((zI ↑(popN (sGood σ))) - (zI 1)).toInt64 &&& 63)), .long ((zI ↑(swN σ k)).toInt64)]) rfl ?_
      rw [zI_l (by omega) (by omega)]
      rw [show ((zL 1) <<< (((zI ↑(popN (sGood σ))) - (zI 1)).toInt64 &&& 63) : Int64) = zL ((2 ^ (popN (sGood σ) - 1) : Nat) : Int) from by rw [show zI 1 = zI ((1 : Nat) : Int) from rfl, zN_sub q2, zL_shl (by omega)]]
      refine v_callS (My := mX8_reduced) (As := [.long (zL ↑(swN σ k)), .long (zL ((2 ^ (popN (sGood σ) - 1) : Nat) : Int)), .int (zb lo)]) (rest := []) (mc := 0) (ms := 0) rfl caX8_reduced rfl rfl (k_reduced G _ (swN σ k) (2 ^ (popN (sGood σ) - 1)) lo (by omega) qp qz) rfl rfl (Nat.le_of_ble_eq_true rfl) (by omega) ?_
      rintro _ _ ⟨rfl, rfl⟩
      refine v_run 0 (pc' := 62) (ls' := [some (.ref (ad 0)), some (.int (zI ↑k)), some (.int (zb lo)), some (.int (zI ↑(sGood σ)))]) (st' := [.long (zL ↑((if lo then 2 ^ (popN (sGood σ) - 1) else swN σ k) / Nat.gcd (2 ^ (popN (sGood σ) - 1)) (swN σ k)))]) rfl ?_
      rw [show aPower σ ↑k lo = (↑((if lo then 2 ^ (popN (sGood σ) - 1) else swN σ k) / Nat.gcd (2 ^ (popN (sGood σ) - 1)) (swN σ k)), 0) from by rw [aPower, if_neg c5, if_neg (by simp only [Int.toNat_natCast]; omega)]; rfl]
      exact v_lret rfl rfl ⟨rfl, hc9, hf9⟩
    · simp (disch := omega) only [zI_lt, zI_le, zI_eq, zI_lt0, zI_le0, zI_0lt, zI_0le, zI_eq0] at c25
      refine v_run 2 (pc' := 30) (ls' := [some (.ref (ad 0)), some (.int (zI ↑k)), some (.int (zb lo)), some (.int (zI ↑(sGood σ)))]) (st' := [.int (zI 5), .ref (ad 0)]) rfl ?_
      refine v_callV (My := mX8_refuse) (As := [.int (zI 5)]) (rest := []) (mc := 0) (ms := 0) rfl caX8_refuse rfl rfl rfl hc.2.1 rfl rfl (k_refuse G _ 5 hA hc hok) rfl rfl (Nat.le_of_ble_eq_true rfl) (by omega) ?_
      rintro _ h9 ⟨rfl, hc9, hf9⟩
      refine v_run 0 (pc' := 33) (ls' := [some (.ref (ad 0)), some (.int (zI ↑k)), some (.int (zb lo)), some (.int (zI ↑(sGood σ)))]) (st' := [.int (zI (-1))]) rfl ?_
      refine v_run 1 (pc' := 34) (ls' := [some (.ref (ad 0)), some (.int (zI ↑k)), some (.int (zb lo)), some (.int (zI ↑(sGood σ)))]) (st' := [.long ((zI (-1)).toInt64)]) rfl ?_
      rw [show aPower σ ↑k lo = (-1, 5) from (by rw [aPower, if_neg c5, if_pos (by simp only [Int.toNat_natCast]; omega)])]
      exact v_lret rfl rfl ⟨by rw [zI_l (by omega) (by omega)], hc9, hf9⟩
  · rw [zb_0, Bool.not_eq_false, decide_eq_true_eq] at c5
    refine v_run 2 (pc' := 10) (ls' := [some (.ref (ad 0)), some (.int (zI s)), some (.int (zb lo)), none]) (st' := [.int (zI 1), .ref (ad 0)]) rfl ?_
    refine v_callV (My := mX8_refuse) (As := [.int (zI 1)]) (rest := []) (mc := 0) (ms := 0) rfl caX8_refuse rfl rfl rfl hc.2.1 rfl rfl (k_refuse G _ 1 hA hc hok) rfl rfl (Nat.le_of_ble_eq_true rfl) (by omega) ?_
    rintro _ h9 ⟨rfl, hc9, hf9⟩
    refine v_run 0 (pc' := 13) (ls' := [some (.ref (ad 0)), some (.int (zI s)), some (.int (zb lo)), none]) (st' := [.int (zI (-1))]) rfl ?_
    refine v_run 1 (pc' := 14) (ls' := [some (.ref (ad 0)), some (.int (zI s)), some (.int (zb lo)), none]) (st' := [.long ((zI (-1)).toInt64)]) rfl ?_
    rw [show aPower σ s lo = (-1, 1) from if_pos c5]
    exact v_lret rfl rfl ⟨by rw [zI_l (by omega) (by omega)], hc9, hf9⟩

set_option maxRecDepth 100000 in
set_option maxHeartbeats 400000 in
theorem k_odds (G : ssG) (h : ssH) {ad : Nat → Nat} {pl : Nat} {σ : sT} (n : Int) (lo : Bool) (hA : ∀ k l, ad k = ad l → k = l) (hc : CW0 h ad pl σ) (hok : sOk σ) (hn : -2147483648 ≤ n ∧ n < 2147483648) : ssC G mX8_odds 4 0 0 [.ref (ad 0), .int (zI n), .int (zb lo)] h (cR ad pl (sTr σ (aOdds σ n lo).2) h (.long (zL (aOdds σ n lo).1))) := by
  refine c_of_v okX8_odds (by decide +kernel) (ls := [some (.ref (ad 0)), some (.int (zI n)), some (.int (zb lo)), none, none, none]) rfl (Nat.le_of_ble_eq_true rfl) ?_
  obtain ⟨i0, i1, i2, i3, i5, i7, a4, a6, a8, a9, a10, i11, i12, i14, i15⟩ := id hok.1
  obtain ⟨j0, j1, j2, b3, b4, b5, b6⟩ := id (hok.2.2 3 (by decide))
  have i13 := hok.2.1
  have hpl := hc.1
  simp only [fI] at i0 i1 i2 i3 i5 i7 i11 i12 i14 i15 j0 j1 j2
  refine v_run 1 (pc' := 1) (ls' := [some (.ref (ad 0)), some (.int (zI n)), some (.int (zb lo)), none, none, none]) (st' := [.ref (ad 0)]) rfl ?_
  refine v_callV (My := mX8_lacksSafe) (As := []) (rest := []) (mc := 0) (ms := 0) rfl caX8_lacksSafe rfl rfl rfl hc.2.1 rfl rfl (k_lacksSafe G _ hA hc hok) rfl rfl (Nat.le_of_ble_eq_true rfl) (by omega) ?_
  rintro _ _ ⟨rfl, rfl⟩
  refine v_run 0 (pc' := 4) (ls' := [some (.ref (ad 0)), some (.int (zI n)), some (.int (zb lo)), none, none, none]) (st' := [.int (zb (decide (σ 1 5 0 = 0)))]) rfl ?_
  refine v_if_eq rfl (fun c4 => ?_) (fun c4 => ?_)
  · rw [zb_0, decide_eq_false_iff_not] at c4
    refine v_run 2 (pc' := 17) (ls' := [some (.ref (ad 0)), some (.int (zI n)), some (.int (zb lo)), none, none, none]) (st' := [.int (zI 6), .int (zI n)]) rfl ?_
    refine v_callS (My := mX8_outside) (As := [.int (zI n), .int (zI 6)]) (rest := []) (mc := 0) (ms := 0) rfl caX8_outside rfl rfl (k_outside G _ n 6 hn ⟨by omega, by omega⟩) rfl rfl (Nat.le_of_ble_eq_true rfl) (by omega) ?_
    rintro _ _ ⟨rfl, rfl⟩
    refine v_run 0 (pc' := 20) (ls' := [some (.ref (ad 0)), some (.int (zI n)), some (.int (zb lo)), none, none, none]) (st' := [.int (zb (decide (n < 0 ∨ 6 < n)))]) rfl ?_
    refine v_if_eq rfl (fun c20 => ?_) (fun c20 => ?_)
    · rw [zb_0, decide_eq_false_iff_not] at c20
      obtain ⟨m, rfl⟩ : ∃ z : Nat, n = ↑z := ⟨n.toNat, by omega⟩
      refine v_run 4 (pc' := 35) (ls' := [some (.ref (ad 0)), some (.int (zI ↑m)), some (.int (zb lo)), some (.long (zL 0)), none, some (.int (zI 0))]) (st' := []) rfl ?_
      have lp : ∀ (n s : Nat), s ≤ m + 1 → (m + 1) + 1 ≤ s + n → ssV G mX8_odds 4 0 0 (cR ad pl (sTr σ (aOdds σ ↑m lo).2) h (.long (zL (aOdds σ ↑m lo).1))) 35 [some (.ref (ad 0)), some (.int (zI ↑m)), some (.int (zb lo)), some (.long (zL ↑(sumN (fun k => if σ 1 0 0 ≤ popN (sAft σ m k) then chN (σ 1 2 0) k m else 0) s))), none, some (.int (zI ↑s))] [] h := by
        intro n
        induction n with
        | zero => intro s hs1 hs2; exact absurd hs2 (by omega)
        | succ n ih =>
          intro s hs1 hs2
          refine v_run 2 (pc' := 38) (ls' := [some (.ref (ad 0)), some (.int (zI ↑m)), some (.int (zb lo)), some (.long (zL ↑(sumN (fun k => if σ 1 0 0 ≤ popN (sAft σ m k) then chN (σ 1 2 0) k m else 0) s))), none, some (.int (zI ↑s))]) (st' := [.int (zI ↑m), .int (zI ↑s)]) rfl ?_
          refine v_icmp_gt rfl (fun c38 => ?_) (fun c38 => ?_)
          · simp (disch := omega) only [zI_lt, zI_le, zI_eq, zI_lt0, zI_le0, zI_0lt, zI_0le, zI_eq0] at c38
            have hsm : s = m + 1 := by omega
            have qs : sumN (fun k => if σ 1 0 0 ≤ popN (sAft σ m k) then chN (σ 1 2 0) k m else 0) s < 4611686018427387904 := sm_lt (fun k hk => by split; exact Nat.le_trans (chN_le (n := m) (k := k) i2 (by omega) (by omega)) (by decide); exact Nat.zero_le _) (by omega)
            have qp : 100 ^ m < 4611686018427387904 := Nat.lt_of_le_of_lt (Nat.pow_le_pow_right (n := 100) (by decide) (show m ≤ 6 by omega)) (by decide)
            have qz : 0 < 100 ^ m := Nat.pow_pos (by decide)
            refine v_run 2 (pc' := 89) (ls' := [some (.ref (ad 0)), some (.int (zI ↑m)), some (.int (zb lo)), some (.long (zL ↑(sumN (fun k => if σ 1 0 0 ≤ popN (sAft σ m k) then chN (σ 1 2 0) k m else 0) s))), none, some (.int (zI ↑s))]) (st' := [.int (zI 0), .ref (ad 0)]) rfl ?_
            refine v_put rfl hc.2.1 rfl rfl (Nat.le_of_ble_eq_true rfl) ?_
            rw [show (obX ad pl σ).set 6 (.int (zI 0)) = obX ad pl (sTr σ 0) by simp [obX, sTr]]
            generalize he9 : hset h (ad 0) (.inr (8, obX ad pl (sTr σ 0))) = h9
            have hc9 : CW0 h9 ad pl (sTr σ 0) := he9 ▸ hc.trouble hA 0
            have hf9 : frP ad pl h h9 := he9 ▸ (frP.rf ad pl h).set hA hc.1 (Or.inl rfl) _
            have hP9 : CPlan h9 ad pl σ := he9 ▸ hc.2.2.1.fr hA (by omega)
            refine v_run 3 (pc' := 96) (ls' := [some (.ref (ad 0)), some (.int (zI ↑m)), some (.int (zb lo)), some (.long (zL ↑(sumN (fun k => if σ 1 0 0 ≤ popN (sAft σ m k) then chN (σ 1 2 0) k m else 0) s))), none, some (.int (zI ↑s))]) (st' := [.int (zI ↑m), .int (zI 100), .long (zL ↑(sumN (fun k => if σ 1 0 0 ≤ popN (sAft σ m k) then chN (σ 1 2 0) k m else 0) s))]) rfl ?_
            refine v_callS (My := mX8_powerOf) (As := [.int (zI 100), .int (zI ↑m)]) (rest := [.long (zL ↑(sumN (fun k => if σ 1 0 0 ≤ popN (sAft σ m k) then chN (σ 1 2 0) k m else 0) s))]) (mc := 0) (ms := 0) rfl caX8_powerOf rfl rfl (k_powerOf G _ 100 m (by omega) (by omega)) rfl rfl (Nat.le_of_ble_eq_true rfl) (by omega) ?_
            rintro _ _ ⟨rfl, rfl⟩
            refine v_run 0 (pc' := 99) (ls' := [some (.ref (ad 0)), some (.int (zI ↑m)), some (.int (zb lo)), some (.long (zL ↑(sumN (fun k => if σ 1 0 0 ≤ popN (sAft σ m k) then chN (σ 1 2 0) k m else 0) s))), none, some (.int (zI ↑s))]) (st' := [.long (zL ((100 ^ m : Nat) : Int)), .long (zL ↑(sumN (fun k => if σ 1 0 0 ≤ popN (sAft σ m k) then chN (σ 1 2 0) k m else 0) s))]) rfl ?_
            refine v_run 1 (pc' := 100) (ls' := [some (.ref (ad 0)), some (.int (zI ↑m)), some (.int (zb lo)), some (.long (zL ↑(sumN (fun k => if σ 1 0 0 ≤ popN (sAft σ m k) then chN (σ 1 2 0) k m else 0) s))), none, some (.int (zI ↑s))]) (st' := [.int (zb lo), .long (zL ((100 ^ m : Nat) : Int)), .long (zL ↑(sumN (fun k => if σ 1 0 0 ≤ popN (sAft σ m k) then chN (σ 1 2 0) k m else 0) s))]) rfl ?_
            refine v_callS (My := mX8_reduced) (As := [.long (zL ↑(sumN (fun k => if σ 1 0 0 ≤ popN (sAft σ m k) then chN (σ 1 2 0) k m else 0) s)), .long (zL ((100 ^ m : Nat) : Int)), .int (zb lo)]) (rest := []) (mc := 0) (ms := 0) rfl caX8_reduced rfl rfl (k_reduced G _ (sumN (fun k => if σ 1 0 0 ≤ popN (sAft σ m k) then chN (σ 1 2 0) k m else 0) s) (100 ^ m) lo qs qp qz) rfl rfl (Nat.le_of_ble_eq_true rfl) (by omega) ?_
            rintro _ _ ⟨rfl, rfl⟩
            refine v_run 0 (pc' := 103) (ls' := [some (.ref (ad 0)), some (.int (zI ↑m)), some (.int (zb lo)), some (.long (zL ↑(sumN (fun k => if σ 1 0 0 ≤ popN (sAft σ m k) then chN (σ 1 2 0) k m else 0) s))), none, some (.int (zI ↑s))]) (st' := [.long (zL ↑((if lo then 100 ^ m else sumN (fun k => if σ 1 0 0 ≤ popN (sAft σ m k) then chN (σ 1 2 0) k m else 0) s) / Nat.gcd (100 ^ m) (sumN (fun k => if σ 1 0 0 ≤ popN (sAft σ m k) then chN (σ 1 2 0) k m else 0) s)))]) rfl ?_
            rw [show aOdds σ ↑m lo = (↑((if lo then 100 ^ m else sumN (fun k => if σ 1 0 0 ≤ popN (sAft σ m k) then chN (σ 1 2 0) k m else 0) s) / Nat.gcd (100 ^ m) (sumN (fun k => if σ 1 0 0 ≤ popN (sAft σ m k) then chN (σ 1 2 0) k m else 0) s)), 0) from by rw [aOdds, if_neg c4, if_neg c20, hsm]; rfl]
            exact v_lret rfl rfl ⟨rfl, hc9, hf9⟩
          · simp (disch := omega) only [zI_lt, zI_le, zI_eq, zI_lt0, zI_le0, zI_0lt, zI_0le, zI_eq0] at c38
            have q1 : sAft σ m s < 64 := setN_lt64 _ i5
            have q2 := popN_le (sAft σ m s)
            refine v_run 1 (pc' := 42) (ls' := [some (.ref (ad 0)), some (.int (zI ↑m)), some (.int (zb lo)), some (.long (zL ↑(sumN (fun k => if σ 1 0 0 ≤ popN (sAft σ m k) then chN (σ 1 2 0) k m else 0) s))), none, some (.int (zI ↑s))]) (st' := [.ref (ad 0)]) rfl ?_
            refine v_get rfl hc.2.1 rfl ?_
            refine v_run 1 (pc' := 46) (ls' := [some (.ref (ad 0)), some (.int (zI ↑m)), some (.int (zb lo)), some (.long (zL ↑(sumN (fun k => if σ 1 0 0 ≤ popN (sAft σ m k) then chN (σ 1 2 0) k m else 0) s))), none, some (.int (zI ↑s))]) (st' := [.ref (ad 0), .ref (ad pl)]) rfl ?_
            refine v_get rfl hc.2.1 rfl ?_
            refine v_run 2 (pc' := 52) (ls' := [some (.ref (ad 0)), some (.int (zI ↑m)), some (.int (zb lo)), some (.long (zL ↑(sumN (fun k => if σ 1 0 0 ≤ popN (sAft σ m k) then chN (σ 1 2 0) k m else 0) s))), none, some (.int (zI ↑s))]) (st' := [.int (zI ↑s), .int (zI ↑m), .ref (ad 33), .ref (ad pl)]) rfl ?_
            refine v_callV (My := mX4_goodAfter) (As := [.ref (ad 33), .int (zI ↑m), .int (zI ↑s)]) (rest := []) (mc := 0) (ms := 0) rfl caX4_goodAfter rfl rfl rfl hc.2.2.1.1 rfl rfl (k_goodAfter G _ m s hc.2.2.1 hok.1 hc.2.2.2.2.1 (hok.2.2 3 (by decide)) (by omega) (by omega)) rfl rfl (Nat.le_of_ble_eq_true rfl) (by omega) ?_
            rintro _ _ ⟨rfl, rfl⟩
            refine v_run 0 (pc' := 55) (ls' := [some (.ref (ad 0)), some (.int (zI ↑m)), some (.int (zb lo)), some (.long (zL ↑(sumN (fun k => if σ 1 0 0 ≤ popN (sAft σ m k) then chN (σ 1 2 0) k m else 0) s))), none, some (.int (zI ↑s))]) (st' := [.int (zI ↑(sAft σ m s))]) rfl ?_
            refine v_callS (My := mJ6_bitCount_0f7a4) (As := [.int (zI ↑(sAft σ m s))]) (rest := []) (mc := 0) (ms := 0) rfl caJ6_bitCount_0f7a4 rfl rfl (k_bitCount G _ (sAft σ m s) q1) rfl rfl (Nat.le_of_ble_eq_true rfl) (by omega) ?_
            rintro _ _ ⟨rfl, rfl⟩
            refine v_run 0 (pc' := 58) (ls' := [some (.ref (ad 0)), some (.int (zI ↑m)), some (.int (zb lo)), some (.long (zL ↑(sumN (fun k => if σ 1 0 0 ≤ popN (sAft σ m k) then chN (σ 1 2 0) k m else 0) s))), none, some (.int (zI ↑s))]) (st' := [.int (zI ↑(popN (sAft σ m s)))]) rfl ?_
            refine v_run 1 (pc' := 59) (ls' := [some (.ref (ad 0)), some (.int (zI ↑m)), some (.int (zb lo)), some (.long (zL ↑(sumN (fun k => if σ 1 0 0 ≤ popN (sAft σ m k) then chN (σ 1 2 0) k m else 0) s))), none, some (.int (zI ↑s))]) (st' := [.ref (ad 0), .int (zI ↑(popN (sAft σ m s)))]) rfl ?_
            refine v_get rfl hc.2.1 rfl ?_
            refine v_run 0 (pc' := 62) (ls' := [some (.ref (ad 0)), some (.int (zI ↑m)), some (.int (zb lo)), some (.long (zL ↑(sumN (fun k => if σ 1 0 0 ≤ popN (sAft σ m k) then chN (σ 1 2 0) k m else 0) s))), none, some (.int (zI ↑s))]) (st' := [.ref (ad pl), .int (zI ↑(popN (sAft σ m s)))]) rfl ?_
            refine v_get rfl hc.2.2.1.1 rfl ?_
            refine v_run 0 (pc' := 65) (ls' := [some (.ref (ad 0)), some (.int (zI ↑m)), some (.int (zb lo)), some (.long (zL ↑(sumN (fun k => if σ 1 0 0 ≤ popN (sAft σ m k) then chN (σ 1 2 0) k m else 0) s))), none, some (.int (zI ↑s))]) (st' := [.int (zI ↑(σ 1 0 0)), .int (zI ↑(popN (sAft σ m s)))]) rfl ?_
            refine v_icmp_lt rfl (fun c65 => ?_) (fun c65 => ?_)
            · simp (disch := omega) only [zI_lt, zI_le, zI_eq, zI_lt0, zI_le0, zI_0lt, zI_0le, zI_eq0] at c65
              refine v_run 2 (pc' := 35) (ls' := [some (.ref (ad 0)), some (.int (zI ↑m)), some (.int (zb lo)), some (.long (zL ↑(sumN (fun k => if σ 1 0 0 ≤ popN (sAft σ m k) then chN (σ 1 2 0) k m else 0) s))), none, some (.int ((zI ↑s) + zI 1))]) (st' := []) rfl ?_
              rw [show sumN (fun k => if σ 1 0 0 ≤ popN (sAft σ m k) then chN (σ 1 2 0) k m else 0) s = sumN (fun k => if σ 1 0 0 ≤ popN (sAft σ m k) then chN (σ 1 2 0) k m else 0) (s + 1) by simp only [sumN]; rw [if_neg (by omega)]; rfl, zI_s1]
              exact ih (s + 1) (by omega) (by omega)
            · simp (disch := omega) only [zI_lt, zI_le, zI_eq, zI_lt0, zI_le0, zI_0lt, zI_0le, zI_eq0] at c65
              refine v_run 2 (pc' := 70) (ls' := [some (.ref (ad 0)), some (.int (zI ↑m)), some (.int (zb lo)), some (.long (zL ↑(sumN (fun k => if σ 1 0 0 ≤ popN (sAft σ m k) then chN (σ 1 2 0) k m else 0) s))), none, some (.int (zI ↑s))]) (st' := [.ref (ad 0), .long (zL ↑(sumN (fun k => if σ 1 0 0 ≤ popN (sAft σ m k) then chN (σ 1 2 0) k m else 0) s))]) rfl ?_
              refine v_get rfl hc.2.1 rfl ?_
              refine v_run 2 (pc' := 76) (ls' := [some (.ref (ad 0)), some (.int (zI ↑m)), some (.int (zb lo)), some (.long (zL ↑(sumN (fun k => if σ 1 0 0 ≤ popN (sAft σ m k) then chN (σ 1 2 0) k m else 0) s))), none, some (.int (zI ↑s))]) (st' := [.int (zI ↑m), .int (zI ↑s), .ref (ad pl), .long (zL ↑(sumN (fun k => if σ 1 0 0 ≤ popN (sAft σ m k) then chN (σ 1 2 0) k m else 0) s))]) rfl ?_
              refine v_callV (My := mX4_chancesOf) (As := [.int (zI ↑s), .int (zI ↑m)]) (rest := [.long (zL ↑(sumN (fun k => if σ 1 0 0 ≤ popN (sAft σ m k) then chN (σ 1 2 0) k m else 0) s))]) (mc := 0) (ms := 0) rfl caX4_chancesOf rfl rfl rfl hc.2.2.1.1 rfl rfl (k_chancesOf G _ s m hc.2.2.1 hok.1 (by omega) (by omega)) rfl rfl (Nat.le_of_ble_eq_true rfl) (by omega) ?_
              rintro _ _ ⟨rfl, rfl⟩
              refine v_run 0 (pc' := 79) (ls' := [some (.ref (ad 0)), some (.int (zI ↑m)), some (.int (zb lo)), some (.long (zL ↑(sumN (fun k => if σ 1 0 0 ≤ popN (sAft σ m k) then chN (σ 1 2 0) k m else 0) s))), none, some (.int (zI ↑s))]) (st' := [.long (zL ↑(chN (σ 1 2 0) s m)), .long (zL ↑(sumN (fun k => if σ 1 0 0 ≤ popN (sAft σ m k) then chN (σ 1 2 0) k m else 0) s))]) rfl ?_
              refine v_run 4 (pc' := 35) (ls' := [some (.ref (ad 0)), some (.int (zI ↑m)), some (.int (zb lo)), some (.long ((zL ↑(sumN (fun k => if σ 1 0 0 ≤ popN (sAft σ m k) then chN (σ 1 2 0) k m else 0) s)) + (zL ↑(chN (σ 1 2 0) s m)))), none, some (.int ((zI ↑s) + zI 1))]) (st' := []) rfl ?_
              rw [zLN_add, show sumN (fun k => if σ 1 0 0 ≤ popN (sAft σ m k) then chN (σ 1 2 0) k m else 0) s + chN (σ 1 2 0) s m = sumN (fun k => if σ 1 0 0 ≤ popN (sAft σ m k) then chN (σ 1 2 0) k m else 0) (s + 1) by simp only [sumN]; rw [if_pos (by omega)], zI_s1]
              exact ih (s + 1) (by omega) (by omega)
      exact lp ((m + 1) + 1) 0 (by omega) (by omega)
    · rw [zb_0, Bool.not_eq_false, decide_eq_true_eq] at c20
      refine v_run 2 (pc' := 25) (ls' := [some (.ref (ad 0)), some (.int (zI n)), some (.int (zb lo)), none, none, none]) (st' := [.int (zI 2), .ref (ad 0)]) rfl ?_
      refine v_callV (My := mX8_refuse) (As := [.int (zI 2)]) (rest := []) (mc := 0) (ms := 0) rfl caX8_refuse rfl rfl rfl hc.2.1 rfl rfl (k_refuse G _ 2 hA hc hok) rfl rfl (Nat.le_of_ble_eq_true rfl) (by omega) ?_
      rintro _ h9 ⟨rfl, hc9, hf9⟩
      refine v_run 0 (pc' := 28) (ls' := [some (.ref (ad 0)), some (.int (zI n)), some (.int (zb lo)), none, none, none]) (st' := [.int (zI (-1))]) rfl ?_
      refine v_run 1 (pc' := 29) (ls' := [some (.ref (ad 0)), some (.int (zI n)), some (.int (zb lo)), none, none, none]) (st' := [.long ((zI (-1)).toInt64)]) rfl ?_
      rw [show aOdds σ n lo = (-1, 2) from (by rw [aOdds, if_neg c4, if_pos c20])]
      exact v_lret rfl rfl ⟨by rw [zI_l (by omega) (by omega)], hc9, hf9⟩
  · rw [zb_0, Bool.not_eq_false, decide_eq_true_eq] at c4
    refine v_run 2 (pc' := 9) (ls' := [some (.ref (ad 0)), some (.int (zI n)), some (.int (zb lo)), none, none, none]) (st' := [.int (zI 1), .ref (ad 0)]) rfl ?_
    refine v_callV (My := mX8_refuse) (As := [.int (zI 1)]) (rest := []) (mc := 0) (ms := 0) rfl caX8_refuse rfl rfl rfl hc.2.1 rfl rfl (k_refuse G _ 1 hA hc hok) rfl rfl (Nat.le_of_ble_eq_true rfl) (by omega) ?_
    rintro _ h9 ⟨rfl, hc9, hf9⟩
    refine v_run 0 (pc' := 12) (ls' := [some (.ref (ad 0)), some (.int (zI n)), some (.int (zb lo)), none, none, none]) (st' := [.int (zI (-1))]) rfl ?_
    refine v_run 1 (pc' := 13) (ls' := [some (.ref (ad 0)), some (.int (zI n)), some (.int (zb lo)), none, none, none]) (st' := [.long ((zI (-1)).toInt64)]) rfl ?_
    rw [show aOdds σ n lo = (-1, 1) from if_pos c4]
    exact v_lret rfl rfl ⟨by rw [zI_l (by omega) (by omega)], hc9, hf9⟩

def aGoodOdds (σ : sT) (s n : Int) (lo : Bool) : Int × Nat := if s < 0 ∨ ↑(σ 1 5 0) ≤ s then (-1, 1) else if n < 0 ∨ 6 < n then (-1, 2) else (↑(cFrac (sumN (fun k => chN (σ 1 2 0) k n.toNat * (sAft σ n.toNat k / 2 ^ s.toNat % 2)) (n.toNat + 1)) (100 ^ n.toNat) lo), 0)
def aMean (σ : sT) (n : Int) (lo : Bool) : Int × Nat := if σ 1 5 0 = 0 then (-1, 1) else if n < 0 ∨ 6 < n then (-1, 2) else (↑(cFrac (sumN (fun k => chN (σ 1 2 0) k n.toNat * popN (sAft σ n.toNat k)) (n.toNat + 1)) (100 ^ n.toNat) lo), 0)
set_option maxRecDepth 100000 in
set_option maxHeartbeats 400000 in
theorem k_goodOdds (G : ssG) (h : ssH) {ad : Nat → Nat} {pl : Nat} {σ : sT} (s0 n : Int) (lo : Bool) (hA : ∀ k l, ad k = ad l → k = l) (hc : CW0 h ad pl σ) (hok : sOk σ) (hs0 : -2147483648 ≤ s0 ∧ s0 < 2147483648) (hn : -2147483648 ≤ n ∧ n < 2147483648) : ssC G mX8_goodOdds 4 0 0 [.ref (ad 0), .int (zI s0), .int (zI n), .int (zb lo)] h (cR ad pl (sTr σ (aGoodOdds σ s0 n lo).2) h (.long (zL (aGoodOdds σ s0 n lo).1))) := by
  refine c_of_v okX8_goodOdds (by decide +kernel) (ls := [some (.ref (ad 0)), some (.int (zI s0)), some (.int (zI n)), some (.int (zb lo)), none, none, none]) rfl (Nat.le_of_ble_eq_true rfl) ?_
  obtain ⟨i0, i1, i2, i3, i5, i7, a4, a6, a8, a9, a10, i11, i12, i14, i15⟩ := id hok.1
  obtain ⟨j0, j1, j2, b3, b4, b5, b6⟩ := id (hok.2.2 3 (by decide))
  have i13 := hok.2.1
  have hpl := hc.1
  simp only [fI] at i0 i1 i2 i3 i5 i7 i11 i12 i14 i15 j0 j1 j2
  refine v_run 2 (pc' := 2) (ls' := [some (.ref (ad 0)), some (.int (zI s0)), some (.int (zI n)), some (.int (zb lo)), none, none, none]) (st' := [.int (zI s0), .ref (ad 0)]) rfl ?_
  refine v_callV (My := mX8_lacksSenator) (As := [.int (zI s0)]) (rest := []) (mc := 0) (ms := 0) rfl caX8_lacksSenator rfl rfl rfl hc.2.1 rfl rfl (k_lacksSenator G _ s0 hA hc hok hs0) rfl rfl (Nat.le_of_ble_eq_true rfl) (by omega) ?_
  rintro _ _ ⟨rfl, rfl⟩
  refine v_run 0 (pc' := 5) (ls' := [some (.ref (ad 0)), some (.int (zI s0)), some (.int (zI n)), some (.int (zb lo)), none, none, none]) (st' := [.int (zb (decide (s0 < 0 ∨ ↑(σ 1 5 0) ≤ s0)))]) rfl ?_
  refine v_if_eq rfl (fun c5 => ?_) (fun c5 => ?_)
  · rw [zb_0, decide_eq_false_iff_not] at c5
    refine v_run 2 (pc' := 18) (ls' := [some (.ref (ad 0)), some (.int (zI s0)), some (.int (zI n)), some (.int (zb lo)), none, none, none]) (st' := [.int (zI 6), .int (zI n)]) rfl ?_
    refine v_callS (My := mX8_outside) (As := [.int (zI n), .int (zI 6)]) (rest := []) (mc := 0) (ms := 0) rfl caX8_outside rfl rfl (k_outside G _ n 6 hn ⟨by omega, by omega⟩) rfl rfl (Nat.le_of_ble_eq_true rfl) (by omega) ?_
    rintro _ _ ⟨rfl, rfl⟩
    refine v_run 0 (pc' := 21) (ls' := [some (.ref (ad 0)), some (.int (zI s0)), some (.int (zI n)), some (.int (zb lo)), none, none, none]) (st' := [.int (zb (decide (n < 0 ∨ 6 < n)))]) rfl ?_
    refine v_if_eq rfl (fun c21 => ?_) (fun c21 => ?_)
    · rw [zb_0, decide_eq_false_iff_not] at c21
      obtain ⟨k0, rfl⟩ : ∃ z : Nat, s0 = ↑z := ⟨s0.toNat, by omega⟩
      obtain ⟨m, rfl⟩ : ∃ z : Nat, n = ↑z := ⟨n.toNat, by omega⟩
      refine v_run 4 (pc' := 37) (ls' := [some (.ref (ad 0)), some (.int (zI ↑k0)), some (.int (zI ↑m)), some (.int (zb lo)), some (.long (zL 0)), none, some (.int (zI 0))]) (st' := []) rfl ?_
      have lp : ∀ (n s : Nat), s ≤ m + 1 → (m + 1) + 1 ≤ s + n → ssV G mX8_goodOdds 4 0 0 (cR ad pl (sTr σ (aGoodOdds σ ↑k0 ↑m lo).2) h (.long (zL (aGoodOdds σ ↑k0 ↑m lo).1))) 37 [some (.ref (ad 0)), some (.int (zI ↑k0)), some (.int (zI ↑m)), some (.int (zb lo)), some (.long (zL ↑(sumN (fun k => chN (σ 1 2 0) k m * (sAft σ m k / 2 ^ k0 % 2)) s))), none, some (.int (zI ↑s))] [] h := by
        intro n
        induction n with
        | zero => intro s hs1 hs2; exact absurd hs2 (by omega)
        | succ n ih =>
          intro s hs1 hs2
          refine v_run 2 (pc' := 40) (ls' := [some (.ref (ad 0)), some (.int (zI ↑k0)), some (.int (zI ↑m)), some (.int (zb lo)), some (.long (zL ↑(sumN (fun k => chN (σ 1 2 0) k m * (sAft σ m k / 2 ^ k0 % 2)) s))), none, some (.int (zI ↑s))]) (st' := [.int (zI ↑m), .int (zI ↑s)]) rfl ?_
          refine v_icmp_gt rfl (fun c40 => ?_) (fun c40 => ?_)
          · simp (disch := omega) only [zI_lt, zI_le, zI_eq, zI_lt0, zI_le0, zI_0lt, zI_0le, zI_eq0] at c40
            have hsm : s = m + 1 := by omega
            have qs : sumN (fun k => chN (σ 1 2 0) k m * (sAft σ m k / 2 ^ k0 % 2)) s < 4611686018427387904 := sm_lt (fun k hk => Nat.le_trans (Nat.mul_le_mul (chN_le (n := m) (k := k) i2 (by omega) (by omega)) (bitN_le _ _)) (by decide)) (by omega)
            have qp : 100 ^ m < 4611686018427387904 := Nat.lt_of_le_of_lt (Nat.pow_le_pow_right (n := 100) (by decide) (show m ≤ 6 by omega)) (by decide)
            have qz : 0 < 100 ^ m := Nat.pow_pos (by decide)
            refine v_run 2 (pc' := 86) (ls' := [some (.ref (ad 0)), some (.int (zI ↑k0)), some (.int (zI ↑m)), some (.int (zb lo)), some (.long (zL ↑(sumN (fun k => chN (σ 1 2 0) k m * (sAft σ m k / 2 ^ k0 % 2)) s))), none, some (.int (zI ↑s))]) (st' := [.int (zI 0), .ref (ad 0)]) rfl ?_
            refine v_put rfl hc.2.1 rfl rfl (Nat.le_of_ble_eq_true rfl) ?_
            rw [show (obX ad pl σ).set 6 (.int (zI 0)) = obX ad pl (sTr σ 0) by simp [obX, sTr]]
            generalize he9 : hset h (ad 0) (.inr (8, obX ad pl (sTr σ 0))) = h9
            have hc9 : CW0 h9 ad pl (sTr σ 0) := he9 ▸ hc.trouble hA 0
            have hf9 : frP ad pl h h9 := he9 ▸ (frP.rf ad pl h).set hA hc.1 (Or.inl rfl) _
            have hP9 : CPlan h9 ad pl σ := he9 ▸ hc.2.2.1.fr hA (by omega)
            refine v_run 3 (pc' := 94) (ls' := [some (.ref (ad 0)), some (.int (zI ↑k0)), some (.int (zI ↑m)), some (.int (zb lo)), some (.long (zL ↑(sumN (fun k => chN (σ 1 2 0) k m * (sAft σ m k / 2 ^ k0 % 2)) s))), none, some (.int (zI ↑s))]) (st' := [.int (zI ↑m), .int (zI 100), .long (zL ↑(sumN (fun k => chN (σ 1 2 0) k m * (sAft σ m k / 2 ^ k0 % 2)) s))]) rfl ?_
            refine v_callS (My := mX8_powerOf) (As := [.int (zI 100), .int (zI ↑m)]) (rest := [.long (zL ↑(sumN (fun k => chN (σ 1 2 0) k m * (sAft σ m k / 2 ^ k0 % 2)) s))]) (mc := 0) (ms := 0) rfl caX8_powerOf rfl rfl (k_powerOf G _ 100 m (by omega) (by omega)) rfl rfl (Nat.le_of_ble_eq_true rfl) (by omega) ?_
            rintro _ _ ⟨rfl, rfl⟩
            refine v_run 0 (pc' := 97) (ls' := [some (.ref (ad 0)), some (.int (zI ↑k0)), some (.int (zI ↑m)), some (.int (zb lo)), some (.long (zL ↑(sumN (fun k => chN (σ 1 2 0) k m * (sAft σ m k / 2 ^ k0 % 2)) s))), none, some (.int (zI ↑s))]) (st' := [.long (zL ((100 ^ m : Nat) : Int)), .long (zL ↑(sumN (fun k => chN (σ 1 2 0) k m * (sAft σ m k / 2 ^ k0 % 2)) s))]) rfl ?_
            refine v_run 1 (pc' := 98) (ls' := [some (.ref (ad 0)), some (.int (zI ↑k0)), some (.int (zI ↑m)), some (.int (zb lo)), some (.long (zL ↑(sumN (fun k => chN (σ 1 2 0) k m * (sAft σ m k / 2 ^ k0 % 2)) s))), none, some (.int (zI ↑s))]) (st' := [.int (zb lo), .long (zL ((100 ^ m : Nat) : Int)), .long (zL ↑(sumN (fun k => chN (σ 1 2 0) k m * (sAft σ m k / 2 ^ k0 % 2)) s))]) rfl ?_
            refine v_callS (My := mX8_reduced) (As := [.long (zL ↑(sumN (fun k => chN (σ 1 2 0) k m * (sAft σ m k / 2 ^ k0 % 2)) s)), .long (zL ((100 ^ m : Nat) : Int)), .int (zb lo)]) (rest := []) (mc := 0) (ms := 0) rfl caX8_reduced rfl rfl (k_reduced G _ (sumN (fun k => chN (σ 1 2 0) k m * (sAft σ m k / 2 ^ k0 % 2)) s) (100 ^ m) lo qs qp qz) rfl rfl (Nat.le_of_ble_eq_true rfl) (by omega) ?_
            rintro _ _ ⟨rfl, rfl⟩
            refine v_run 0 (pc' := 101) (ls' := [some (.ref (ad 0)), some (.int (zI ↑k0)), some (.int (zI ↑m)), some (.int (zb lo)), some (.long (zL ↑(sumN (fun k => chN (σ 1 2 0) k m * (sAft σ m k / 2 ^ k0 % 2)) s))), none, some (.int (zI ↑s))]) (st' := [.long (zL ↑((if lo then 100 ^ m else sumN (fun k => chN (σ 1 2 0) k m * (sAft σ m k / 2 ^ k0 % 2)) s) / Nat.gcd (100 ^ m) (sumN (fun k => chN (σ 1 2 0) k m * (sAft σ m k / 2 ^ k0 % 2)) s)))]) rfl ?_
            rw [show aGoodOdds σ ↑k0 ↑m lo = (↑((if lo then 100 ^ m else sumN (fun k => chN (σ 1 2 0) k m * (sAft σ m k / 2 ^ k0 % 2)) s) / Nat.gcd (100 ^ m) (sumN (fun k => chN (σ 1 2 0) k m * (sAft σ m k / 2 ^ k0 % 2)) s)), 0) from by rw [aGoodOdds, if_neg c5, if_neg c21, hsm]; rfl]
            exact v_lret rfl rfl ⟨rfl, hc9, hf9⟩
          · simp (disch := omega) only [zI_lt, zI_le, zI_eq, zI_lt0, zI_le0, zI_0lt, zI_0le, zI_eq0] at c40
            have q1 : sAft σ m s < 64 := setN_lt64 _ i5
            refine v_run 2 (pc' := 46) (ls' := [some (.ref (ad 0)), some (.int (zI ↑k0)), some (.int (zI ↑m)), some (.int (zb lo)), some (.long (zL ↑(sumN (fun k => chN (σ 1 2 0) k m * (sAft σ m k / 2 ^ k0 % 2)) s))), none, some (.int (zI ↑s))]) (st' := [.ref (ad 0), .long (zL ↑(sumN (fun k => chN (σ 1 2 0) k m * (sAft σ m k / 2 ^ k0 % 2)) s))]) rfl ?_
            refine v_get rfl hc.2.1 rfl ?_
            refine v_run 2 (pc' := 52) (ls' := [some (.ref (ad 0)), some (.int (zI ↑k0)), some (.int (zI ↑m)), some (.int (zb lo)), some (.long (zL ↑(sumN (fun k => chN (σ 1 2 0) k m * (sAft σ m k / 2 ^ k0 % 2)) s))), none, some (.int (zI ↑s))]) (st' := [.int (zI ↑m), .int (zI ↑s), .ref (ad pl), .long (zL ↑(sumN (fun k => chN (σ 1 2 0) k m * (sAft σ m k / 2 ^ k0 % 2)) s))]) rfl ?_
            refine v_callV (My := mX4_chancesOf) (As := [.int (zI ↑s), .int (zI ↑m)]) (rest := [.long (zL ↑(sumN (fun k => chN (σ 1 2 0) k m * (sAft σ m k / 2 ^ k0 % 2)) s))]) (mc := 0) (ms := 0) rfl caX4_chancesOf rfl rfl rfl hc.2.2.1.1 rfl rfl (k_chancesOf G _ s m hc.2.2.1 hok.1 (by omega) (by omega)) rfl rfl (Nat.le_of_ble_eq_true rfl) (by omega) ?_
            rintro _ _ ⟨rfl, rfl⟩
            refine v_run 0 (pc' := 55) (ls' := [some (.ref (ad 0)), some (.int (zI ↑k0)), some (.int (zI ↑m)), some (.int (zb lo)), some (.long (zL ↑(sumN (fun k => chN (σ 1 2 0) k m * (sAft σ m k / 2 ^ k0 % 2)) s))), none, some (.int (zI ↑s))]) (st' := [.long (zL ↑(chN (σ 1 2 0) s m)), .long (zL ↑(sumN (fun k => chN (σ 1 2 0) k m * (sAft σ m k / 2 ^ k0 % 2)) s))]) rfl ?_
            refine v_run 1 (pc' := 56) (ls' := [some (.ref (ad 0)), some (.int (zI ↑k0)), some (.int (zI ↑m)), some (.int (zb lo)), some (.long (zL ↑(sumN (fun k => chN (σ 1 2 0) k m * (sAft σ m k / 2 ^ k0 % 2)) s))), none, some (.int (zI ↑s))]) (st' := [.ref (ad 0), .long (zL ↑(chN (σ 1 2 0) s m)), .long (zL ↑(sumN (fun k => chN (σ 1 2 0) k m * (sAft σ m k / 2 ^ k0 % 2)) s))]) rfl ?_
            refine v_get rfl hc.2.1 rfl ?_
            refine v_run 1 (pc' := 60) (ls' := [some (.ref (ad 0)), some (.int (zI ↑k0)), some (.int (zI ↑m)), some (.int (zb lo)), some (.long (zL ↑(sumN (fun k => chN (σ 1 2 0) k m * (sAft σ m k / 2 ^ k0 % 2)) s))), none, some (.int (zI ↑s))]) (st' := [.ref (ad 0), .ref (ad pl), .long (zL ↑(chN (σ 1 2 0) s m)), .long (zL ↑(sumN (fun k => chN (σ 1 2 0) k m * (sAft σ m k / 2 ^ k0 % 2)) s))]) rfl ?_
            refine v_get rfl hc.2.1 rfl ?_
            refine v_run 2 (pc' := 66) (ls' := [some (.ref (ad 0)), some (.int (zI ↑k0)), some (.int (zI ↑m)), some (.int (zb lo)), some (.long (zL ↑(sumN (fun k => chN (σ 1 2 0) k m * (sAft σ m k / 2 ^ k0 % 2)) s))), none, some (.int (zI ↑s))]) (st' := [.int (zI ↑s), .int (zI ↑m), .ref (ad 33), .ref (ad pl), .long (zL ↑(chN (σ 1 2 0) s m)), .long (zL ↑(sumN (fun k => chN (σ 1 2 0) k m * (sAft σ m k / 2 ^ k0 % 2)) s))]) rfl ?_
            refine v_callV (My := mX4_goodAfter) (As := [.ref (ad 33), .int (zI ↑m), .int (zI ↑s)]) (rest := [.long (zL ↑(chN (σ 1 2 0) s m)), .long (zL ↑(sumN (fun k => chN (σ 1 2 0) k m * (sAft σ m k / 2 ^ k0 % 2)) s))]) (mc := 0) (ms := 0) rfl caX4_goodAfter rfl rfl rfl hc.2.2.1.1 rfl rfl (k_goodAfter G _ m s hc.2.2.1 hok.1 hc.2.2.2.2.1 (hok.2.2 3 (by decide)) (by omega) (by omega)) rfl rfl (Nat.le_of_ble_eq_true rfl) (by omega) ?_
            rintro _ _ ⟨rfl, rfl⟩
            refine v_run 0 (pc' := 69) (ls' := [some (.ref (ad 0)), some (.int (zI ↑k0)), some (.int (zI ↑m)), some (.int (zb lo)), some (.long (zL ↑(sumN (fun k => chN (σ 1 2 0) k m * (sAft σ m k / 2 ^ k0 % 2)) s))), none, some (.int (zI ↑s))]) (st' := [.int (zI ↑(sAft σ m s)), .long (zL ↑(chN (σ 1 2 0) s m)), .long (zL ↑(sumN (fun k => chN (σ 1 2 0) k m * (sAft σ m k / 2 ^ k0 % 2)) s))]) rfl ?_
            refine v_run 10 (pc' := 37) (ls' := [some (.ref (ad 0)), some (.int (zI ↑k0)), some (.int (zI ↑m)), some (.int (zb lo)), some (.long ((zL ↑(sumN (fun k => chN (σ 1 2 0) k m * (sAft σ m k / 2 ^ k0 % 2)) s)) + ((zL ↑(chN (σ 1 2 0) s m)) * ((((zI ↑(sAft σ m s)) >>> ((zI ↑k0) &&& 31)) &&& (zI 1)).toInt64)))), none, some (.int ((zI ↑s) + zI 1))]) (st' := []) rfl ?_
            rw [zI_bit (by omega) (by omega), zI_l (by omega) (by omega), zLN_mul, zLN_add, zI_s1]
            exact ih (s + 1) (by omega) (by omega)
      exact lp ((m + 1) + 1) 0 (by omega) (by omega)
    · rw [zb_0, Bool.not_eq_false, decide_eq_true_eq] at c21
      refine v_run 2 (pc' := 26) (ls' := [some (.ref (ad 0)), some (.int (zI s0)), some (.int (zI n)), some (.int (zb lo)), none, none, none]) (st' := [.int (zI 2), .ref (ad 0)]) rfl ?_
      refine v_callV (My := mX8_refuse) (As := [.int (zI 2)]) (rest := []) (mc := 0) (ms := 0) rfl caX8_refuse rfl rfl rfl hc.2.1 rfl rfl (k_refuse G _ 2 hA hc hok) rfl rfl (Nat.le_of_ble_eq_true rfl) (by omega) ?_
      rintro _ h9 ⟨rfl, hc9, hf9⟩
      refine v_run 0 (pc' := 29) (ls' := [some (.ref (ad 0)), some (.int (zI s0)), some (.int (zI n)), some (.int (zb lo)), none, none, none]) (st' := [.int (zI (-1))]) rfl ?_
      refine v_run 1 (pc' := 30) (ls' := [some (.ref (ad 0)), some (.int (zI s0)), some (.int (zI n)), some (.int (zb lo)), none, none, none]) (st' := [.long ((zI (-1)).toInt64)]) rfl ?_
      rw [show aGoodOdds σ s0 n lo = (-1, 2) from (by rw [aGoodOdds, if_neg c5, if_pos c21])]
      exact v_lret rfl rfl ⟨by rw [zI_l (by omega) (by omega)], hc9, hf9⟩
  · rw [zb_0, Bool.not_eq_false, decide_eq_true_eq] at c5
    refine v_run 2 (pc' := 10) (ls' := [some (.ref (ad 0)), some (.int (zI s0)), some (.int (zI n)), some (.int (zb lo)), none, none, none]) (st' := [.int (zI 1), .ref (ad 0)]) rfl ?_
    refine v_callV (My := mX8_refuse) (As := [.int (zI 1)]) (rest := []) (mc := 0) (ms := 0) rfl caX8_refuse rfl rfl rfl hc.2.1 rfl rfl (k_refuse G _ 1 hA hc hok) rfl rfl (Nat.le_of_ble_eq_true rfl) (by omega) ?_
    rintro _ h9 ⟨rfl, hc9, hf9⟩
    refine v_run 0 (pc' := 13) (ls' := [some (.ref (ad 0)), some (.int (zI s0)), some (.int (zI n)), some (.int (zb lo)), none, none, none]) (st' := [.int (zI (-1))]) rfl ?_
    refine v_run 1 (pc' := 14) (ls' := [some (.ref (ad 0)), some (.int (zI s0)), some (.int (zI n)), some (.int (zb lo)), none, none, none]) (st' := [.long ((zI (-1)).toInt64)]) rfl ?_
    rw [show aGoodOdds σ s0 n lo = (-1, 1) from if_pos c5]
    exact v_lret rfl rfl ⟨by rw [zI_l (by omega) (by omega)], hc9, hf9⟩

set_option maxRecDepth 100000 in
set_option maxHeartbeats 400000 in
theorem k_mean (G : ssG) (h : ssH) {ad : Nat → Nat} {pl : Nat} {σ : sT} (n : Int) (lo : Bool) (hA : ∀ k l, ad k = ad l → k = l) (hc : CW0 h ad pl σ) (hok : sOk σ) (hn : -2147483648 ≤ n ∧ n < 2147483648) : ssC G mX8_mean 4 0 0 [.ref (ad 0), .int (zI n), .int (zb lo)] h (cR ad pl (sTr σ (aMean σ n lo).2) h (.long (zL (aMean σ n lo).1))) := by
  refine c_of_v okX8_mean (by decide +kernel) (ls := [some (.ref (ad 0)), some (.int (zI n)), some (.int (zb lo)), none, none, none]) rfl (Nat.le_of_ble_eq_true rfl) ?_
  obtain ⟨i0, i1, i2, i3, i5, i7, a4, a6, a8, a9, a10, i11, i12, i14, i15⟩ := id hok.1
  obtain ⟨j0, j1, j2, b3, b4, b5, b6⟩ := id (hok.2.2 3 (by decide))
  have i13 := hok.2.1
  have hpl := hc.1
  simp only [fI] at i0 i1 i2 i3 i5 i7 i11 i12 i14 i15 j0 j1 j2
  refine v_run 1 (pc' := 1) (ls' := [some (.ref (ad 0)), some (.int (zI n)), some (.int (zb lo)), none, none, none]) (st' := [.ref (ad 0)]) rfl ?_
  refine v_callV (My := mX8_lacksSafe) (As := []) (rest := []) (mc := 0) (ms := 0) rfl caX8_lacksSafe rfl rfl rfl hc.2.1 rfl rfl (k_lacksSafe G _ hA hc hok) rfl rfl (Nat.le_of_ble_eq_true rfl) (by omega) ?_
  rintro _ _ ⟨rfl, rfl⟩
  refine v_run 0 (pc' := 4) (ls' := [some (.ref (ad 0)), some (.int (zI n)), some (.int (zb lo)), none, none, none]) (st' := [.int (zb (decide (σ 1 5 0 = 0)))]) rfl ?_
  refine v_if_eq rfl (fun c4 => ?_) (fun c4 => ?_)
  · rw [zb_0, decide_eq_false_iff_not] at c4
    refine v_run 2 (pc' := 17) (ls' := [some (.ref (ad 0)), some (.int (zI n)), some (.int (zb lo)), none, none, none]) (st' := [.int (zI 6), .int (zI n)]) rfl ?_
    refine v_callS (My := mX8_outside) (As := [.int (zI n), .int (zI 6)]) (rest := []) (mc := 0) (ms := 0) rfl caX8_outside rfl rfl (k_outside G _ n 6 hn ⟨by omega, by omega⟩) rfl rfl (Nat.le_of_ble_eq_true rfl) (by omega) ?_
    rintro _ _ ⟨rfl, rfl⟩
    refine v_run 0 (pc' := 20) (ls' := [some (.ref (ad 0)), some (.int (zI n)), some (.int (zb lo)), none, none, none]) (st' := [.int (zb (decide (n < 0 ∨ 6 < n)))]) rfl ?_
    refine v_if_eq rfl (fun c20 => ?_) (fun c20 => ?_)
    · rw [zb_0, decide_eq_false_iff_not] at c20
      obtain ⟨m, rfl⟩ : ∃ z : Nat, n = ↑z := ⟨n.toNat, by omega⟩
      refine v_run 4 (pc' := 35) (ls' := [some (.ref (ad 0)), some (.int (zI ↑m)), some (.int (zb lo)), some (.long (zL 0)), none, some (.int (zI 0))]) (st' := []) rfl ?_
      have lp : ∀ (n s : Nat), s ≤ m + 1 → (m + 1) + 1 ≤ s + n → ssV G mX8_mean 4 0 0 (cR ad pl (sTr σ (aMean σ ↑m lo).2) h (.long (zL (aMean σ ↑m lo).1))) 35 [some (.ref (ad 0)), some (.int (zI ↑m)), some (.int (zb lo)), some (.long (zL ↑(sumN (fun k => chN (σ 1 2 0) k m * popN (sAft σ m k)) s))), none, some (.int (zI ↑s))] [] h := by
        intro n
        induction n with
        | zero => intro s hs1 hs2; exact absurd hs2 (by omega)
        | succ n ih =>
          intro s hs1 hs2
          refine v_run 2 (pc' := 38) (ls' := [some (.ref (ad 0)), some (.int (zI ↑m)), some (.int (zb lo)), some (.long (zL ↑(sumN (fun k => chN (σ 1 2 0) k m * popN (sAft σ m k)) s))), none, some (.int (zI ↑s))]) (st' := [.int (zI ↑m), .int (zI ↑s)]) rfl ?_
          refine v_icmp_gt rfl (fun c38 => ?_) (fun c38 => ?_)
          · simp (disch := omega) only [zI_lt, zI_le, zI_eq, zI_lt0, zI_le0, zI_0lt, zI_0le, zI_eq0] at c38
            have hsm : s = m + 1 := by omega
            have qs : sumN (fun k => chN (σ 1 2 0) k m * popN (sAft σ m k)) s < 4611686018427387904 := sm_lt (fun k hk => Nat.le_trans (Nat.mul_le_mul (chN_le (n := m) (k := k) i2 (by omega) (by omega)) (popN_le _)) (by decide)) (by omega)
            have qp : 100 ^ m < 4611686018427387904 := Nat.lt_of_le_of_lt (Nat.pow_le_pow_right (n := 100) (by decide) (show m ≤ 6 by omega)) (by decide)
            have qz : 0 < 100 ^ m := Nat.pow_pos (by decide)
            refine v_run 2 (pc' := 81) (ls' := [some (.ref (ad 0)), some (.int (zI ↑m)), some (.int (zb lo)), some (.long (zL ↑(sumN (fun k => chN (σ 1 2 0) k m * popN (sAft σ m k)) s))), none, some (.int (zI ↑s))]) (st' := [.int (zI 0), .ref (ad 0)]) rfl ?_
            refine v_put rfl hc.2.1 rfl rfl (Nat.le_of_ble_eq_true rfl) ?_
            rw [show (obX ad pl σ).set 6 (.int (zI 0)) = obX ad pl (sTr σ 0) by simp [obX, sTr]]
            generalize he9 : hset h (ad 0) (.inr (8, obX ad pl (sTr σ 0))) = h9
            have hc9 : CW0 h9 ad pl (sTr σ 0) := he9 ▸ hc.trouble hA 0
            have hf9 : frP ad pl h h9 := he9 ▸ (frP.rf ad pl h).set hA hc.1 (Or.inl rfl) _
            have hP9 : CPlan h9 ad pl σ := he9 ▸ hc.2.2.1.fr hA (by omega)
            refine v_run 3 (pc' := 88) (ls' := [some (.ref (ad 0)), some (.int (zI ↑m)), some (.int (zb lo)), some (.long (zL ↑(sumN (fun k => chN (σ 1 2 0) k m * popN (sAft σ m k)) s))), none, some (.int (zI ↑s))]) (st' := [.int (zI ↑m), .int (zI 100), .long (zL ↑(sumN (fun k => chN (σ 1 2 0) k m * popN (sAft σ m k)) s))]) rfl ?_
            refine v_callS (My := mX8_powerOf) (As := [.int (zI 100), .int (zI ↑m)]) (rest := [.long (zL ↑(sumN (fun k => chN (σ 1 2 0) k m * popN (sAft σ m k)) s))]) (mc := 0) (ms := 0) rfl caX8_powerOf rfl rfl (k_powerOf G _ 100 m (by omega) (by omega)) rfl rfl (Nat.le_of_ble_eq_true rfl) (by omega) ?_
            rintro _ _ ⟨rfl, rfl⟩
            refine v_run 0 (pc' := 91) (ls' := [some (.ref (ad 0)), some (.int (zI ↑m)), some (.int (zb lo)), some (.long (zL ↑(sumN (fun k => chN (σ 1 2 0) k m * popN (sAft σ m k)) s))), none, some (.int (zI ↑s))]) (st' := [.long (zL ((100 ^ m : Nat) : Int)), .long (zL ↑(sumN (fun k => chN (σ 1 2 0) k m * popN (sAft σ m k)) s))]) rfl ?_
            refine v_run 1 (pc' := 92) (ls' := [some (.ref (ad 0)), some (.int (zI ↑m)), some (.int (zb lo)), some (.long (zL ↑(sumN (fun k => chN (σ 1 2 0) k m * popN (sAft σ m k)) s))), none, some (.int (zI ↑s))]) (st' := [.int (zb lo), .long (zL ((100 ^ m : Nat) : Int)), .long (zL ↑(sumN (fun k => chN (σ 1 2 0) k m * popN (sAft σ m k)) s))]) rfl ?_
            refine v_callS (My := mX8_reduced) (As := [.long (zL ↑(sumN (fun k => chN (σ 1 2 0) k m * popN (sAft σ m k)) s)), .long (zL ((100 ^ m : Nat) : Int)), .int (zb lo)]) (rest := []) (mc := 0) (ms := 0) rfl caX8_reduced rfl rfl (k_reduced G _ (sumN (fun k => chN (σ 1 2 0) k m * popN (sAft σ m k)) s) (100 ^ m) lo qs qp qz) rfl rfl (Nat.le_of_ble_eq_true rfl) (by omega) ?_
            rintro _ _ ⟨rfl, rfl⟩
            refine v_run 0 (pc' := 95) (ls' := [some (.ref (ad 0)), some (.int (zI ↑m)), some (.int (zb lo)), some (.long (zL ↑(sumN (fun k => chN (σ 1 2 0) k m * popN (sAft σ m k)) s))), none, some (.int (zI ↑s))]) (st' := [.long (zL ↑((if lo then 100 ^ m else sumN (fun k => chN (σ 1 2 0) k m * popN (sAft σ m k)) s) / Nat.gcd (100 ^ m) (sumN (fun k => chN (σ 1 2 0) k m * popN (sAft σ m k)) s)))]) rfl ?_
            rw [show aMean σ ↑m lo = (↑((if lo then 100 ^ m else sumN (fun k => chN (σ 1 2 0) k m * popN (sAft σ m k)) s) / Nat.gcd (100 ^ m) (sumN (fun k => chN (σ 1 2 0) k m * popN (sAft σ m k)) s)), 0) from by rw [aMean, if_neg c4, if_neg c20, hsm]; rfl]
            exact v_lret rfl rfl ⟨rfl, hc9, hf9⟩
          · simp (disch := omega) only [zI_lt, zI_le, zI_eq, zI_lt0, zI_le0, zI_0lt, zI_0le, zI_eq0] at c38
            have q1 : sAft σ m s < 64 := setN_lt64 _ i5
            have q2 := popN_le (sAft σ m s)
            refine v_run 2 (pc' := 43) (ls' := [some (.ref (ad 0)), some (.int (zI ↑m)), some (.int (zb lo)), some (.long (zL ↑(sumN (fun k => chN (σ 1 2 0) k m * popN (sAft σ m k)) s))), none, some (.int (zI ↑s))]) (st' := [.ref (ad 0), .long (zL ↑(sumN (fun k => chN (σ 1 2 0) k m * popN (sAft σ m k)) s))]) rfl ?_
            refine v_get rfl hc.2.1 rfl ?_
            refine v_run 2 (pc' := 49) (ls' := [some (.ref (ad 0)), some (.int (zI ↑m)), some (.int (zb lo)), some (.long (zL ↑(sumN (fun k => chN (σ 1 2 0) k m * popN (sAft σ m k)) s))), none, some (.int (zI ↑s))]) (st' := [.int (zI ↑m), .int (zI ↑s), .ref (ad pl), .long (zL ↑(sumN (fun k => chN (σ 1 2 0) k m * popN (sAft σ m k)) s))]) rfl ?_
            refine v_callV (My := mX4_chancesOf) (As := [.int (zI ↑s), .int (zI ↑m)]) (rest := [.long (zL ↑(sumN (fun k => chN (σ 1 2 0) k m * popN (sAft σ m k)) s))]) (mc := 0) (ms := 0) rfl caX4_chancesOf rfl rfl rfl hc.2.2.1.1 rfl rfl (k_chancesOf G _ s m hc.2.2.1 hok.1 (by omega) (by omega)) rfl rfl (Nat.le_of_ble_eq_true rfl) (by omega) ?_
            rintro _ _ ⟨rfl, rfl⟩
            refine v_run 0 (pc' := 52) (ls' := [some (.ref (ad 0)), some (.int (zI ↑m)), some (.int (zb lo)), some (.long (zL ↑(sumN (fun k => chN (σ 1 2 0) k m * popN (sAft σ m k)) s))), none, some (.int (zI ↑s))]) (st' := [.long (zL ↑(chN (σ 1 2 0) s m)), .long (zL ↑(sumN (fun k => chN (σ 1 2 0) k m * popN (sAft σ m k)) s))]) rfl ?_
            refine v_run 1 (pc' := 53) (ls' := [some (.ref (ad 0)), some (.int (zI ↑m)), some (.int (zb lo)), some (.long (zL ↑(sumN (fun k => chN (σ 1 2 0) k m * popN (sAft σ m k)) s))), none, some (.int (zI ↑s))]) (st' := [.ref (ad 0), .long (zL ↑(chN (σ 1 2 0) s m)), .long (zL ↑(sumN (fun k => chN (σ 1 2 0) k m * popN (sAft σ m k)) s))]) rfl ?_
            refine v_get rfl hc.2.1 rfl ?_
            refine v_run 1 (pc' := 57) (ls' := [some (.ref (ad 0)), some (.int (zI ↑m)), some (.int (zb lo)), some (.long (zL ↑(sumN (fun k => chN (σ 1 2 0) k m * popN (sAft σ m k)) s))), none, some (.int (zI ↑s))]) (st' := [.ref (ad 0), .ref (ad pl), .long (zL ↑(chN (σ 1 2 0) s m)), .long (zL ↑(sumN (fun k => chN (σ 1 2 0) k m * popN (sAft σ m k)) s))]) rfl ?_
            refine v_get rfl hc.2.1 rfl ?_
            refine v_run 2 (pc' := 63) (ls' := [some (.ref (ad 0)), some (.int (zI ↑m)), some (.int (zb lo)), some (.long (zL ↑(sumN (fun k => chN (σ 1 2 0) k m * popN (sAft σ m k)) s))), none, some (.int (zI ↑s))]) (st' := [.int (zI ↑s), .int (zI ↑m), .ref (ad 33), .ref (ad pl), .long (zL ↑(chN (σ 1 2 0) s m)), .long (zL ↑(sumN (fun k => chN (σ 1 2 0) k m * popN (sAft σ m k)) s))]) rfl ?_
            refine v_callV (My := mX4_goodAfter) (As := [.ref (ad 33), .int (zI ↑m), .int (zI ↑s)]) (rest := [.long (zL ↑(chN (σ 1 2 0) s m)), .long (zL ↑(sumN (fun k => chN (σ 1 2 0) k m * popN (sAft σ m k)) s))]) (mc := 0) (ms := 0) rfl caX4_goodAfter rfl rfl rfl hc.2.2.1.1 rfl rfl (k_goodAfter G _ m s hc.2.2.1 hok.1 hc.2.2.2.2.1 (hok.2.2 3 (by decide)) (by omega) (by omega)) rfl rfl (Nat.le_of_ble_eq_true rfl) (by omega) ?_
            rintro _ _ ⟨rfl, rfl⟩
            refine v_run 0 (pc' := 66) (ls' := [some (.ref (ad 0)), some (.int (zI ↑m)), some (.int (zb lo)), some (.long (zL ↑(sumN (fun k => chN (σ 1 2 0) k m * popN (sAft σ m k)) s))), none, some (.int (zI ↑s))]) (st' := [.int (zI ↑(sAft σ m s)), .long (zL ↑(chN (σ 1 2 0) s m)), .long (zL ↑(sumN (fun k => chN (σ 1 2 0) k m * popN (sAft σ m k)) s))]) rfl ?_
            refine v_callS (My := mJ6_bitCount_0f7a4) (As := [.int (zI ↑(sAft σ m s))]) (rest := [.long (zL ↑(chN (σ 1 2 0) s m)), .long (zL ↑(sumN (fun k => chN (σ 1 2 0) k m * popN (sAft σ m k)) s))]) (mc := 0) (ms := 0) rfl caJ6_bitCount_0f7a4 rfl rfl (k_bitCount G _ (sAft σ m s) q1) rfl rfl (Nat.le_of_ble_eq_true rfl) (by omega) ?_
            rintro _ _ ⟨rfl, rfl⟩
            refine v_run 0 (pc' := 69) (ls' := [some (.ref (ad 0)), some (.int (zI ↑m)), some (.int (zb lo)), some (.long (zL ↑(sumN (fun k => chN (σ 1 2 0) k m * popN (sAft σ m k)) s))), none, some (.int (zI ↑s))]) (st' := [.int (zI ↑(popN (sAft σ m s))), .long (zL ↑(chN (σ 1 2 0) s m)), .long (zL ↑(sumN (fun k => chN (σ 1 2 0) k m * popN (sAft σ m k)) s))]) rfl ?_
            refine v_run 6 (pc' := 35) (ls' := [some (.ref (ad 0)), some (.int (zI ↑m)), some (.int (zb lo)), some (.long ((zL ↑(sumN (fun k => chN (σ 1 2 0) k m * popN (sAft σ m k)) s)) + ((zL ↑(chN (σ 1 2 0) s m)) * ((zI ↑(popN (sAft σ m s))).toInt64)))), none, some (.int ((zI ↑s) + zI 1))]) (st' := []) rfl ?_
            rw [zI_l (by omega) (by omega), zLN_mul, zLN_add, zI_s1]
            exact ih (s + 1) (by omega) (by omega)
      exact lp ((m + 1) + 1) 0 (by omega) (by omega)
    · rw [zb_0, Bool.not_eq_false, decide_eq_true_eq] at c20
      refine v_run 2 (pc' := 25) (ls' := [some (.ref (ad 0)), some (.int (zI n)), some (.int (zb lo)), none, none, none]) (st' := [.int (zI 2), .ref (ad 0)]) rfl ?_
      refine v_callV (My := mX8_refuse) (As := [.int (zI 2)]) (rest := []) (mc := 0) (ms := 0) rfl caX8_refuse rfl rfl rfl hc.2.1 rfl rfl (k_refuse G _ 2 hA hc hok) rfl rfl (Nat.le_of_ble_eq_true rfl) (by omega) ?_
      rintro _ h9 ⟨rfl, hc9, hf9⟩
      refine v_run 0 (pc' := 28) (ls' := [some (.ref (ad 0)), some (.int (zI n)), some (.int (zb lo)), none, none, none]) (st' := [.int (zI (-1))]) rfl ?_
      refine v_run 1 (pc' := 29) (ls' := [some (.ref (ad 0)), some (.int (zI n)), some (.int (zb lo)), none, none, none]) (st' := [.long ((zI (-1)).toInt64)]) rfl ?_
      rw [show aMean σ n lo = (-1, 2) from (by rw [aMean, if_neg c4, if_pos c20])]
      exact v_lret rfl rfl ⟨by rw [zI_l (by omega) (by omega)], hc9, hf9⟩
  · rw [zb_0, Bool.not_eq_false, decide_eq_true_eq] at c4
    refine v_run 2 (pc' := 9) (ls' := [some (.ref (ad 0)), some (.int (zI n)), some (.int (zb lo)), none, none, none]) (st' := [.int (zI 1), .ref (ad 0)]) rfl ?_
    refine v_callV (My := mX8_refuse) (As := [.int (zI 1)]) (rest := []) (mc := 0) (ms := 0) rfl caX8_refuse rfl rfl rfl hc.2.1 rfl rfl (k_refuse G _ 1 hA hc hok) rfl rfl (Nat.le_of_ble_eq_true rfl) (by omega) ?_
    rintro _ h9 ⟨rfl, hc9, hf9⟩
    refine v_run 0 (pc' := 12) (ls' := [some (.ref (ad 0)), some (.int (zI n)), some (.int (zb lo)), none, none, none]) (st' := [.int (zI (-1))]) rfl ?_
    refine v_run 1 (pc' := 13) (ls' := [some (.ref (ad 0)), some (.int (zI n)), some (.int (zb lo)), none, none, none]) (st' := [.long ((zI (-1)).toInt64)]) rfl ?_
    rw [show aMean σ n lo = (-1, 1) from if_pos c4]
    exact v_lret rfl rfl ⟨by rw [zI_l (by omega) (by omega)], hc9, hf9⟩

