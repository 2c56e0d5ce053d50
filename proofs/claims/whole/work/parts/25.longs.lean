/-! ===== longs ===== -/
theorem zL_toInt {a : Int} (h1 : -9223372036854775808 ≤ a) (h2 : a < 9223372036854775808) : (zL a).toInt = a := Int64.toInt_ofInt_of_le h1 h2
theorem zL_add (a b : Int) : zL a + zL b = zL (a + b) := (Int64.ofInt_add a b).symm
theorem zL_mul (a b : Int) : zL a * zL b = zL (a * b) := (Int64.ofInt_mul a b).symm
theorem zL_sub (a b : Int) : zL a - zL b = zL (a - b) := (Int64.ofInt_sub a b).symm
theorem zL_lt {a b : Int} (h1 : -9223372036854775808 ≤ a) (h2 : a < 9223372036854775808) (h3 : -9223372036854775808 ≤ b) (h4 : b < 9223372036854775808) : zL a < zL b ↔ a < b := by rw [Int64.lt_iff_toInt_lt, zL_toInt h1 h2, zL_toInt h3 h4]
theorem zL_eq {a b : Int} (h1 : -9223372036854775808 ≤ a) (h2 : a < 9223372036854775808) (h3 : -9223372036854775808 ≤ b) (h4 : b < 9223372036854775808) : zL a = zL b ↔ a = b := by rw [← Int64.toInt_inj, zL_toInt h1 h2, zL_toInt h3 h4]
theorem zL_div {a b : Int} (h1 : 0 ≤ a) (h2 : a < 9223372036854775808) (h3 : 0 < b) (h4 : b < 9223372036854775808) : zL a / zL b = zL (a / b) := by
  apply Int64.toInt_inj.mp
  have hb : zL b ≠ -1 := by
    intro q
    have := congrArg Int64.toInt q
    rw [zL_toInt (by omega) h4] at this
    have h5 : (-1 : Int64).toInt = -1 := by decide
    omega
  have hd : 0 ≤ a / b := Int.ediv_nonneg h1 (by omega)
  have hd2 : a / b ≤ a := Int.ediv_le_self b h1
  rw [Int64.toInt_div_of_ne_right _ _ hb, zL_toInt (by omega) h2, zL_toInt (by omega) h4, zL_toInt (by omega) (by omega), Int.tdiv_eq_ediv_of_nonneg h1]
theorem zLN_add (a b : Nat) : zL (a : Int) + zL (b : Int) = zL ((a + b : Nat) : Int) := by rw [zL_add]; rfl
theorem zLN_mul (a b : Nat) : zL (a : Int) * zL (b : Int) = zL ((a * b : Nat) : Int) := by rw [zL_mul, Int.natCast_mul]
theorem zLN_div {a b : Nat} (h2 : a < 9223372036854775808) (h3 : 0 < b) (h4 : b < 9223372036854775808) : zL (a : Int) / zL (b : Int) = zL ((a / b : Nat) : Int) := by rw [zL_div (by omega) (by omega) (by omega) (by omega)]; rfl
theorem zLN_rem {a b : Nat} (h2 : a < 9223372036854775808) (h3 : 0 < b) (h4 : b < 9223372036854775808) : zL (a : Int) - zL (a : Int) / zL (b : Int) * zL (b : Int) = zL ((a % b : Nat) : Int) := by
  rw [zLN_div h2 h3 h4, zL_mul, zL_sub]
  congr 1
  have h5 := Nat.div_add_mod a b
  have h6 : (↑(a / b) * ↑b : Int) = ((b * (a / b) : Nat) : Int) := by rw [Int.natCast_mul, Int.mul_comm]
  rw [h6]
  omega
theorem zI_l {a : Int} (h1 : -2147483648 ≤ a) (h2 : a < 2147483648) : (zI a).toInt64 = zL a := by
  apply Int64.toInt_inj.mp
  rw [Int32.toInt_toInt64, zI_toInt h1 h2, zL_toInt (by omega) (by omega)]
theorem zL_0 : (0 : Int64) = zL 0 := rfl
theorem zL_ne0 {a : Int} (h : 0 < a) (h2 : a < 9223372036854775808) : ¬ zL a = 0 := fun q => by rw [zL_0, zL_eq (by omega) h2 (by omega) (by omega)] at q; omega
theorem lg_gt0 (x y : Int64) : 0 < lg_cmp x y ↔ y < x := by
  unfold lg_cmp
  by_cases h1 : y < x
  · simp [h1]
  · by_cases h2 : x = y <;> simp [h1, h2] <;> decide
theorem lg_eq0 (x y : Int64) : lg_cmp x y = 0 ↔ x = y := by
  unfold lg_cmp
  by_cases h1 : y < x
  · simp only [h1, if_true]
    constructor
    · intro q; exact absurd q (by decide)
    · intro q; subst q; exact absurd h1 (by rw [Int64.lt_iff_toInt_lt]; omega)
  · by_cases h2 : x = y
    · simp [h1, h2]
    · simp only [h1, h2, if_false]
      constructor
      · intro q; exact absurd q (by decide)
      · intro q; exact q.elim
def wN (n : Nat) : Nat → Nat
  | 0 => 1
  | i + 1 => wN n i * (n - i) / (i + 1)
theorem wN_le {n i : Nat} (hn : n ≤ 6) (hi : i ≤ 6) : wN n i ≤ 20 := by
  have : ∀ n : Fin 7, ∀ i : Fin 7, wN n.val i.val ≤ 20 := by decide +kernel
  exact this ⟨n, by omega⟩ ⟨i, by omega⟩
def chN (t k n : Nat) : Nat := wN n k * t ^ k * (100 - t) ^ (n - k)
theorem chN_le {t k n : Nat} (ht : t ≤ 100) (hn : n ≤ 6) (hk : k ≤ n) : chN t k n ≤ 20 * 1000000000000 := by
  unfold chN
  have h1 := wN_le hn (show k ≤ 6 by omega)
  have h2 : t ^ k ≤ 100 ^ k := Nat.pow_le_pow_left ht k
  have h3 : (100 - t) ^ (n - k) ≤ 100 ^ (n - k) := Nat.pow_le_pow_left (by omega) _
  have h4 : 100 ^ k * 100 ^ (n - k) ≤ 100 ^ 6 := by rw [← Nat.pow_add]; exact Nat.pow_le_pow_right (by decide) (by omega)
  calc wN n k * t ^ k * (100 - t) ^ (n - k) ≤ 20 * 100 ^ k * 100 ^ (n - k) := Nat.mul_le_mul (Nat.mul_le_mul h1 h2) h3
    _ = 20 * (100 ^ k * 100 ^ (n - k)) := Nat.mul_assoc _ _ _
    _ ≤ 20 * 100 ^ 6 := Nat.mul_le_mul_left _ h4
    _ = 20 * 1000000000000 := by decide
theorem gcd_half {g l : Nat} (h : l ≤ g) (h0 : 0 < l) : 2 * (l * (g % l)) ≤ g * l := by
  have h1 : 2 * (g % l) ≤ g := by
    have := Nat.mod_lt g h0
    have h3 := Nat.div_add_mod g l
    have h4 : 1 ≤ g / l := (Nat.le_div_iff_mul_le h0).mpr (by omega)
    have h5 : l * 1 ≤ l * (g / l) := Nat.mul_le_mul_left l h4
    omega
  have := Nat.mul_le_mul_left l h1
  rw [Nat.mul_comm g l]
  have e : 2 * (l * (g % l)) = l * (2 * (g % l)) := by rw [Nat.mul_left_comm]
  omega
theorem gcd_done {s gg ll : Nat} (hs : s = 200) (h : ll ≤ gg ∧ gg * ll * 2 ^ (s - 1) ≤ 4611686018427387904 * 4611686018427387904) : ll = 0 := by
  subst hs
  rcases Nat.eq_zero_or_pos ll with h0 | h0
  · exact h0
  · have h1 : 1 * 1 ≤ gg * ll := Nat.mul_le_mul (by omega) h0
    have h2 := Nat.mul_le_mul_right (2 ^ (200 - 1)) h1
    have h3 : 4611686018427387904 * 4611686018427387904 < 1 * 1 * 2 ^ (200 - 1) := by decide
    omega
theorem gcd_step {s gg ll : Nat} (h0 : 0 < ll) (hg : gg < 4611686018427387904) (hl : ll < 4611686018427387904) (h : 1 ≤ s → ll ≤ gg ∧ gg * ll * 2 ^ (s - 1) ≤ 4611686018427387904 * 4611686018427387904) : ll * (gg % ll) * 2 ^ (s + 1 - 1) ≤ 4611686018427387904 * 4611686018427387904 := by
  have hm := Nat.mod_lt gg h0
  rcases Nat.eq_zero_or_pos s with hs | hs
  · subst hs
    have : ll * (gg % ll) ≤ 4611686018427387904 * 4611686018427387904 := Nat.mul_le_mul (by omega) (by omega)
    simpa using this
  · obtain ⟨h1, h2⟩ := h hs
    have h3 := gcd_half h1 h0
    obtain ⟨t, rfl⟩ : ∃ t, s = t + 1 := ⟨s - 1, by omega⟩
    simp only [Nat.add_sub_cancel] at h2 ⊢
    have h4 := Nat.mul_le_mul_right (2 ^ t) h3
    rw [Nat.pow_succ]
    have e : ll * (gg % ll) * (2 ^ t * 2) = 2 * (ll * (gg % ll)) * 2 ^ t := by rw [Nat.mul_comm (2 ^ t) 2, ← Nat.mul_assoc, Nat.mul_comm (ll * (gg % ll)) 2]
    omega
set_option maxRecDepth 100000 in
set_option maxHeartbeats 400000 in
theorem k_powerOf (G : ssG) (h : ssH) (b e : Nat) (hb : b ≤ 1000) (he : e ≤ 1000) : ssC G mX8_powerOf 0 0 0 [.int (zI ↑b), .int (zI ↑e)] h (rL (zL ↑(b ^ e)) h) := by
  refine c_of_v okX8_powerOf (by decide +kernel) (ls := [some (.int (zI ↑b)), some (.int (zI ↑e)), none, none, none]) rfl (Nat.le_of_ble_eq_true rfl) ?_
  refine v_run 4 (pc' := 5) (ls' := [some (.int (zI ↑b)), some (.int (zI ↑e)), some (.long (zL 1)), none, some (.int (zI 0))]) (st' := []) rfl ?_
  have lp : ∀ (n s : Nat), s ≤ e → e + 1 ≤ s + n → ssV G mX8_powerOf 0 0 0 (rL (zL ↑(b ^ e)) h) 5 [some (.int (zI ↑b)), some (.int (zI ↑e)), some (.long (zL ↑(b ^ s))), none, some (.int (zI ↑s))] [] h := by
    intro n
    induction n with
    | zero => intro s hs1 hs2; exact absurd hs2 (by omega)
    | succ n ih =>
      intro s hs1 hs2
      refine v_run 2 (pc' := 8) (ls' := [some (.int (zI ↑b)), some (.int (zI ↑e)), some (.long (zL ↑(b ^ s))), none, some (.int (zI ↑s))]) (st' := [.int (zI ↑e), .int (zI ↑s)]) rfl ?_
      refine v_icmp_ge rfl (fun c8 => ?_) (fun c8 => ?_)
      · simp (disch := omega) only [zI_lt, zI_le, zI_eq, zI_lt0, zI_le0, zI_0lt, zI_0le, zI_eq0] at c8
        refine v_run 1 (pc' := 23) (ls' := [some (.int (zI ↑b)), some (.int (zI ↑e)), some (.long (zL ↑(b ^ s))), none, some (.int (zI ↑s))]) (st' := [.long (zL ↑(b ^ s))]) rfl ?_
        exact v_lret rfl rfl ⟨by rw [show s = e by omega], rfl⟩
      · simp (disch := omega) only [zI_lt, zI_le, zI_eq, zI_lt0, zI_le0, zI_0lt, zI_0le, zI_eq0] at c8
        refine v_run 7 (pc' := 5) (ls' := [some (.int (zI ↑b)), some (.int (zI ↑e)), some (.long ((zL ↑(b ^ s)) * ((zI ↑b).toInt64))), none, some (.int ((zI ↑s) + zI 1))]) (st' := []) rfl ?_
        rw [zI_l (by omega) (by omega), zLN_mul, ← Nat.pow_succ, zI_s1]
        exact ih (s + 1) (by omega) (by omega)
  exact lp (e + 1) 0 (by omega) (by omega)

set_option maxRecDepth 100000 in
set_option maxHeartbeats 400000 in
theorem k_chancesOf (G : ssG) (h : ssH) {p : Nat} {i R : Nat → Nat} {d : Int} {A : Nat → Nat → Nat} (k n : Nat) (hp : PlanAt h p i R d A) (hi : PlanOk i A) (hn : n ≤ 6) (hk : k ≤ n) : ssC G mX4_chancesOf 1 0 0 [.ref p, .int (zI ↑k), .int (zI ↑n)] h (rL (zL ↑(chN (i 2) k n)) h) := by
  refine c_of_v okX4_chancesOf (by decide +kernel) (ls := [some (.ref p), some (.int (zI ↑k)), some (.int (zI ↑n)), none, none, none]) rfl (Nat.le_of_ble_eq_true rfl) ?_
  obtain ⟨i0, i1, i2, i3, i5, i7, a4, a6, a8, a9, a10, i11, i12, i14, i15⟩ := id hi
  refine v_run 4 (pc' := 5) (ls' := [some (.ref p), some (.int (zI ↑k)), some (.int (zI ↑n)), some (.long (zL 1)), none, some (.int (zI 1))]) (st' := []) rfl ?_
  have lp : ∀ (m s : Nat), s ≤ k → k + 1 ≤ s + m → ssV G mX4_chancesOf 1 0 0 (rL (zL ↑(chN (i 2) k n)) h) 5 [some (.ref p), some (.int (zI ↑k)), some (.int (zI ↑n)), some (.long (zL ↑(wN n s))), none, some (.int (zI ↑(s + 1)))] [] h := by
    intro m
    induction m with
    | zero => intro s hs1 hs2; exact absurd hs2 (by omega)
    | succ m ih =>
      intro s hs1 hs2
      have q1 := wN_le hn (show s ≤ 6 by omega)
      have q2 : wN n s * (n - s) ≤ 20 * 6 := Nat.mul_le_mul q1 (by omega)
      refine v_run 2 (pc' := 8) (ls' := [some (.ref p), some (.int (zI ↑k)), some (.int (zI ↑n)), some (.long (zL ↑(wN n s))), none, some (.int (zI ↑(s + 1)))]) (st' := [.int (zI ↑k), .int (zI ↑(s + 1))]) rfl ?_
      refine v_icmp_gt rfl (fun c8 => ?_) (fun c8 => ?_)
      · simp (disch := omega) only [zI_lt, zI_le, zI_eq, zI_lt0, zI_le0, zI_0lt, zI_0le, zI_eq0] at c8
        have hsk : s = k := by omega
        refine v_run 2 (pc' := 33) (ls' := [some (.ref p), some (.int (zI ↑k)), some (.int (zI ↑n)), some (.long (zL ↑(wN n s))), none, some (.int (zI ↑(s + 1)))]) (st' := [.ref p, .long (zL ↑(wN n s))]) rfl ?_
        refine v_get rfl hp.1 rfl ?_
        refine v_run 1 (pc' := 37) (ls' := [some (.ref p), some (.int (zI ↑k)), some (.int (zI ↑n)), some (.long (zL ↑(wN n s))), none, some (.int (zI ↑(s + 1)))]) (st' := [.int (zI ↑k), .int (zI ↑(i 2)), .long (zL ↑(wN n s))]) rfl ?_
        refine v_callSN (My := mX8_powerOf) (As := [.int (zI ↑(i 2)), .int (zI ↑k)]) (rest := [.long (zL ↑(wN n s))]) (mc := 0) (ms := 0) rfl caX8_powerOf rfl rfl (k_powerOf G _ (i 2) k (by omega) (by omega)) rfl rfl (Nat.le_of_ble_eq_true rfl) (by omega) ?_
        rintro _ _ ⟨rfl, rfl⟩
        refine v_run 0 (pc' := 40) (ls' := [some (.ref p), some (.int (zI ↑k)), some (.int (zI ↑n)), some (.long (zL ↑(wN n s))), none, some (.int (zI ↑(s + 1)))]) (st' := [.long (zL ↑(i 2 ^ k)), .long (zL ↑(wN n s))]) rfl ?_
        refine v_run 3 (pc' := 44) (ls' := [some (.ref p), some (.int (zI ↑k)), some (.int (zI ↑n)), some (.long (zL ↑(wN n s))), none, some (.int (zI ↑(s + 1)))]) (st' := [.ref p, .int (zI 100), .long ((zL ↑(wN n s)) * (zL ↑(i 2 ^ k)))]) rfl ?_
        refine v_get rfl hp.1 rfl ?_
        refine v_run 4 (pc' := 51) (ls' := [some (.ref p), some (.int (zI ↑k)), some (.int (zI ↑n)), some (.long (zL ↑(wN n s))), none, some (.int (zI ↑(s + 1)))]) (st' := [.int ((zI ↑n) - (zI ↑k)), .int ((zI 100) - (zI ↑(i 2))), .long ((zL ↑(wN n s)) * (zL ↑(i 2 ^ k)))]) rfl ?_
        rw [show ((zI 100) - (zI ↑(i 2)) : Int32) = zI ↑(100 - i 2) from by rw [show zI 100 = zI ((100 : Nat) : Int) from rfl, zN_sub (by omega)]]
        rw [show ((zI ↑n) - (zI ↑k) : Int32) = zI ↑(n - k) from zN_sub (by omega)]
        refine v_callSN (My := mX8_powerOf) (As := [.int (zI ↑(100 - i 2)), .int (zI ↑(n - k))]) (rest := [.long ((zL ↑(wN n s)) * (zL ↑(i 2 ^ k)))]) (mc := 0) (ms := 0) rfl caX8_powerOf rfl rfl (k_powerOf G _ (100 - i 2) (n - k) (by omega) (by omega)) rfl rfl (Nat.le_of_ble_eq_true rfl) (by omega) ?_
        rintro _ _ ⟨rfl, rfl⟩
        refine v_run 0 (pc' := 54) (ls' := [some (.ref p), some (.int (zI ↑k)), some (.int (zI ↑n)), some (.long (zL ↑(wN n s))), none, some (.int (zI ↑(s + 1)))]) (st' := [.long (zL ↑((100 - i 2) ^ (n - k))), .long ((zL ↑(wN n s)) * (zL ↑(i 2 ^ k)))]) rfl ?_
        refine v_run 1 (pc' := 55) (ls' := [some (.ref p), some (.int (zI ↑k)), some (.int (zI ↑n)), some (.long (zL ↑(wN n s))), none, some (.int (zI ↑(s + 1)))]) (st' := [.long (((zL ↑(wN n s)) * (zL ↑(i 2 ^ k))) * (zL ↑((100 - i 2) ^ (n - k))))]) rfl ?_
        exact v_lret rfl rfl ⟨by rw [hsk, zLN_mul, zLN_mul]; rfl, rfl⟩
      · simp (disch := omega) only [zI_lt, zI_le, zI_eq, zI_lt0, zI_le0, zI_0lt, zI_0le, zI_eq0] at c8
        refine v_run 10 (pc' := 23) (ls' := [some (.ref p), some (.int (zI ↑k)), some (.int (zI ↑n)), some (.long (zL ↑(wN n s))), none, some (.int (zI ↑(s + 1)))]) (st' := [.long ((zI ↑(s + 1)).toInt64), .long ((zL ↑(wN n s)) * ((((zI ↑n) - (zI ↑(s + 1))) + (zI 1)).toInt64))]) rfl ?_
        rw [show (((zI ↑n) - (zI ↑(s + 1))) + (zI 1) : Int32) = zI ↑(n - s) from by rw [zI_sub, zI_add]; congr 1; omega]
        refine v_ldiv rfl (by rw [zI_l (by omega) (by omega)]; exact zL_ne0 (by omega) (by omega)) ?_
        rw [show (((zL ↑(wN n s)) * ((zI ↑(n - s)).toInt64)) / ((zI ↑(s + 1)).toInt64) : Int64) = zL ↑(wN n (s + 1)) from by rw [zI_l (by omega) (by omega), zI_l (by omega) (by omega), zLN_mul, zLN_div (by omega) (by omega) (by omega)]; rfl]
        refine v_run 3 (pc' := 5) (ls' := [some (.ref p), some (.int (zI ↑k)), some (.int (zI ↑n)), some (.long (zL ↑(wN n (s + 1)))), none, some (.int ((zI ↑(s + 1)) + zI 1))]) (st' := []) rfl ?_
        rw [zI_s1]
        exact ih (s + 1) (by omega) (by omega)
  exact lp (k + 1) 0 (by omega) (by omega)

set_option maxRecDepth 100000 in
set_option maxHeartbeats 400000 in
theorem k_commonDivisor (G : ssG) (h : ssH) (a b : Nat) (ha : a < 4611686018427387904) (hb : b < 4611686018427387904) : ssC G mX8_commonDivisor 0 0 0 [.long (zL ↑a), .long (zL ↑b)] h (rL (zL ↑(Nat.gcd a b)) h) := by
  refine c_of_v okX8_commonDivisor (by decide +kernel) (ls := [some (.long (zL ↑a)), none, some (.long (zL ↑b)), none, none, none, none, none, none, none, none]) rfl (Nat.le_of_ble_eq_true rfl) ?_
  refine v_run 6 (pc' := 9) (ls' := [some (.long (zL ↑a)), none, some (.long (zL ↑b)), none, some (.long (zL ↑a)), none, some (.long (zL ↑b)), none, some (.int (zI 0)), none, none]) (st' := []) rfl ?_
  have lp : ∀ (n s gg ll : Nat), s ≤ 200 → gg < 4611686018427387904 → ll < 4611686018427387904 → Nat.gcd gg ll = Nat.gcd a b → (1 ≤ s → ll ≤ gg ∧ gg * ll * 2 ^ (s - 1) ≤ 4611686018427387904 * 4611686018427387904) → 200 + 1 ≤ s + n → ssV G mX8_commonDivisor 0 0 0 (rL (zL ↑(Nat.gcd a b)) h) 9 [some (.long (zL ↑a)), none, some (.long (zL ↑b)), none, some (.long (zL ↑gg)), none, some (.long (zL ↑ll)), none, some (.int (zI ↑s)), none, none] [] h := by
    intro n
    induction n with
    | zero => intro s gg ll h1 h2 h3 h4 h5 hs2; exact absurd hs2 (by omega)
    | succ n ih =>
      intro s gg ll hs1 hg hll hgcd hdec hs2
      refine v_run 2 (pc' := 14) (ls' := [some (.long (zL ↑a)), none, some (.long (zL ↑b)), none, some (.long (zL ↑gg)), none, some (.long (zL ↑ll)), none, some (.int (zI ↑s)), none, none]) (st' := [.int (zI 200), .int (zI ↑s)]) rfl ?_
      refine v_icmp_ge rfl (fun c14 => ?_) (fun c14 => ?_)
      · simp (disch := omega) only [zI_lt, zI_le, zI_eq, zI_lt0, zI_le0, zI_0lt, zI_0le, zI_eq0] at c14
        refine v_run 1 (pc' := 47) (ls' := [some (.long (zL ↑a)), none, some (.long (zL ↑b)), none, some (.long (zL ↑gg)), none, some (.long (zL ↑ll)), none, some (.int (zI ↑s)), none, none]) (st' := [.long (zL ↑gg)]) rfl ?_
        have hl0 : ll = 0 := gcd_done (by omega) (hdec (by omega))
        exact v_lret rfl rfl ⟨by rw [← hgcd, hl0, Nat.gcd_zero_right], rfl⟩
      · simp (disch := omega) only [zI_lt, zI_le, zI_eq, zI_lt0, zI_le0, zI_0lt, zI_0le, zI_eq0] at c14
        refine v_run 3 (pc' := 21) (ls' := [some (.long (zL ↑a)), none, some (.long (zL ↑b)), none, some (.long (zL ↑gg)), none, some (.long (zL ↑ll)), none, some (.int (zI ↑s)), none, none]) (st' := [.int (lg_cmp (zL ↑ll) (zL 0))]) rfl ?_
        refine v_if_eq rfl (fun c21 => ?_) (fun c21 => ?_)
        · rw [lg_eq0, zL_eq (by omega) (by omega) (by omega) (by omega)] at c21
          refine v_run 1 (pc' := 47) (ls' := [some (.long (zL ↑a)), none, some (.long (zL ↑b)), none, some (.long (zL ↑gg)), none, some (.long (zL ↑ll)), none, some (.int (zI ↑s)), none, none]) (st' := [.long (zL ↑gg)]) rfl ?_
          exact v_lret rfl rfl ⟨by rw [← hgcd, show ll = 0 by omega, Nat.gcd_zero_right], rfl⟩
        · rw [lg_eq0, zL_eq (by omega) (by omega) (by omega) (by omega)] at c21
          refine v_run 2 (pc' := 28) (ls' := [some (.long (zL ↑a)), none, some (.long (zL ↑b)), none, some (.long (zL ↑gg)), none, some (.long (zL ↑ll)), none, some (.int (zI ↑s)), none, none]) (st' := [.long (zL ↑ll), .long (zL ↑gg)]) rfl ?_
          refine v_lrem rfl (zL_ne0 (by omega) (by omega)) ?_
          rw [show (zL ↑gg - zL ↑gg / zL ↑ll * zL ↑ll : Int64) = zL ↑(gg % ll) from zLN_rem (by omega) (by omega) (by omega)]
          have hml := Nat.mod_lt gg (show 0 < ll by omega)
          refine v_run 7 (pc' := 9) (ls' := [some (.long (zL ↑a)), none, some (.long (zL ↑b)), none, some (.long (zL ↑ll)), none, some (.long (zL ↑(gg % ll))), none, some (.int ((zI ↑s) + zI 1)), some (.long (zL ↑(gg % ll))), none]) (st' := []) rfl ?_
          refine v_drop 9 (ls' := [some (.long (zL ↑a)), none, some (.long (zL ↑b)), none, some (.long (zL ↑ll)), none, some (.long (zL ↑(gg % ll))), none, some (.int ((zI ↑s) + zI 1)), none, none]) rfl ?_
          rw [zI_s1]
          exact ih (s + 1) ll (gg % ll) (by omega) (by omega) (by omega) (by rw [← hgcd, Nat.gcd_comm gg ll, Nat.gcd_rec ll gg, Nat.gcd_comm]) (fun _ => ⟨by omega, gcd_step (by omega) hg hll hdec⟩) (by omega)
  exact lp 201 0 a b (by omega) ha hb rfl (fun h => absurd h (by omega)) (by omega)

