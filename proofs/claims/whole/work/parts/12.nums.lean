/-! ===== numbers: zI a is the int of a ===== -/
theorem zI_toInt {a : Int} (h1 : -2147483648 ≤ a) (h2 : a < 2147483648) : (zI a).toInt = a := Int32.toInt_ofInt_of_le h1 h2
theorem zI_add (a b : Int) : zI a + zI b = zI (a + b) := (Int32.ofInt_add a b).symm
theorem zI_sub (a b : Int) : zI a - zI b = zI (a - b) := (Int32.ofInt_sub a b).symm
theorem zI_mul (a b : Int) : zI a * zI b = zI (a * b) := (Int32.ofInt_mul a b).symm
theorem zI_lt {a b : Int} (h1 : -2147483648 ≤ a) (h2 : a < 2147483648) (h3 : -2147483648 ≤ b) (h4 : b < 2147483648) : zI a < zI b ↔ a < b := by rw [Int32.lt_iff_toInt_lt, zI_toInt h1 h2, zI_toInt h3 h4]
theorem zI_le {a b : Int} (h1 : -2147483648 ≤ a) (h2 : a < 2147483648) (h3 : -2147483648 ≤ b) (h4 : b < 2147483648) : zI a ≤ zI b ↔ a ≤ b := by rw [Int32.le_iff_toInt_le, zI_toInt h1 h2, zI_toInt h3 h4]
theorem zI_eq {a b : Int} (h1 : -2147483648 ≤ a) (h2 : a < 2147483648) (h3 : -2147483648 ≤ b) (h4 : b < 2147483648) : zI a = zI b ↔ a = b := by rw [← Int32.toInt_inj, zI_toInt h1 h2, zI_toInt h3 h4]
theorem zI_0 : (0 : Int32) = zI 0 := rfl
theorem zI_lt0 {a : Int} (h1 : -2147483648 ≤ a) (h2 : a < 2147483648) : zI a < 0 ↔ a < 0 := by rw [zI_0, zI_lt h1 h2 (by decide) (by decide)]
theorem zI_le0 {a : Int} (h1 : -2147483648 ≤ a) (h2 : a < 2147483648) : zI a ≤ 0 ↔ a ≤ 0 := by rw [zI_0, zI_le h1 h2 (by decide) (by decide)]
theorem zI_0lt {a : Int} (h1 : -2147483648 ≤ a) (h2 : a < 2147483648) : 0 < zI a ↔ 0 < a := by rw [zI_0, zI_lt (by decide) (by decide) h1 h2]
theorem zI_0le {a : Int} (h1 : -2147483648 ≤ a) (h2 : a < 2147483648) : 0 ≤ zI a ↔ 0 ≤ a := by rw [zI_0, zI_le (by decide) (by decide) h1 h2]
theorem zI_eq0 {a : Int} (h1 : -2147483648 ≤ a) (h2 : a < 2147483648) : zI a = 0 ↔ a = 0 := by rw [zI_0, zI_eq h1 h2 (by decide) (by decide)]
theorem nI_zI (n : Nat) : nI n = zI n := by
  apply Int32.toInt_inj.mp
  simp [nI, zI]
theorem zI_clamp {n : Nat} (h : n < 2147483648) : (zI (n : Int)).toNatClampNeg = n := by rw [← nI_zI]; exact nI_clamp h
theorem zI_in {i n : Nat} (h : i < n) (hn : n < 2147483648) : vp_in (zI (i : Int)) n := by rw [← nI_zI]; exact vp_in_nI h hn
theorem zI_div {a b : Int} (h1 : 0 ≤ a) (h2 : a < 2147483648) (h3 : 0 < b) (h4 : b < 2147483648) : zI a / zI b = zI (a / b) := by
  apply Int32.toInt_inj.mp
  have hb : zI b ≠ -1 := by
    intro q
    have := congrArg Int32.toInt q
    rw [zI_toInt (by omega) h4] at this
    have h5 : (-1 : Int32).toInt = -1 := by decide
    omega
  have hd : 0 ≤ a / b := Int.ediv_nonneg h1 (by omega)
  have hd2 : a / b ≤ a := Int.ediv_le_self b h1
  rw [Int32.toInt_div_of_ne_right _ _ hb, zI_toInt (by omega) h2, zI_toInt (by omega) h4, zI_toInt (by omega) (by omega), Int.tdiv_eq_ediv_of_nonneg h1]
theorem zI_rem {a b : Int} (h1 : 0 ≤ a) (h2 : a < 2147483648) (h3 : 0 < b) (h4 : b < 2147483648) : zI a - zI a / zI b * zI b = zI (a % b) := by
  rw [zI_div h1 h2 h3 h4, zI_mul, zI_sub]
  congr 1
  have := Int.emod_def a b
  rw [this, Int.mul_comm b]
theorem zI_s1 (s : Nat) : zI (s : Int) + zI 1 = zI ((s + 1 : Nat) : Int) := by rw [zI_add]; rfl
theorem zI_nat_inj {a b : Nat} (h1 : a < 2147483648) (h2 : b < 2147483648) : zI (a : Int) = zI (b : Int) ↔ a = b := by rw [zI_eq (by omega) (by omega) (by omega) (by omega)]; omega
theorem zI_and31 {k : Nat} (h : k < 32) : zI (k : Int) &&& 31 = zI (k : Int) := by
  have : ∀ k : Fin 32, zI ((k.val : Nat) : Int) &&& 31 = zI ((k.val : Nat) : Int) := by decide +kernel
  exact this ⟨k, h⟩
theorem zI_bv {a : Nat} (h : a < 4294967296) : (zI (a : Int)).toBitVec.toNat = a := by
  rw [← nI_zI]
  exact pk_tn h
theorem zI_ofbv {x : Int32} {a : Nat} (h : x.toBitVec.toNat = a) (ha : a < 4294967296) : x = zI (a : Int) := by
  apply Int32.toBitVec_inj.mp
  apply BitVec.eq_of_toNat_eq
  rw [h, zI_bv ha]
theorem zI_land {a b : Nat} (ha : a < 2147483648) (hb : b < 2147483648) : zI (a : Int) &&& zI (b : Int) = zI ((a &&& b : Nat) : Int) := by
  refine zI_ofbv ?_ (Nat.lt_of_le_of_lt Nat.and_le_left (by omega))
  rw [Int32.toBitVec_and, BitVec.toNat_and, zI_bv (by omega), zI_bv (by omega)]
theorem zI_lor {a b : Nat} (ha : a < 2147483648) (hb : b < 2147483648) : zI (a : Int) ||| zI (b : Int) = zI ((a ||| b : Nat) : Int) := by
  have hlt : a ||| b < 2 ^ 31 := Nat.or_lt_two_pow (by omega) (by omega)
  refine zI_ofbv ?_ (by omega)
  rw [Int32.toBitVec_or, BitVec.toNat_or, zI_bv (by omega), zI_bv (by omega)]
theorem zI_shl {a k : Nat} (hk : k < 31) (h : a * 2 ^ k < 2147483648) : zI (a : Int) <<< (zI (k : Int) &&& 31) = zI ((a * 2 ^ k : Nat) : Int) := by
  have hx : ∀ k : Fin 32, ((zI ((k.val : Nat) : Int)).toBitVec.smod 32).toNat = k.val := by decide +kernel
  rw [zI_and31 (by omega), ← nI_zI a, pk_shlN (zI (k : Int)) k (hx ⟨k, by omega⟩) (by omega), nI_zI]
theorem zI_shr {a k : Nat} (hk : k < 32) (h : a < 2147483648) : zI (a : Int) >>> (zI (k : Int) &&& 31) = zI ((a / 2 ^ k : Nat) : Int) := by
  have hx : ∀ k : Fin 32, ((zI ((k.val : Nat) : Int)).toBitVec.smod 32).toNat = k.val := by decide +kernel
  rw [zI_and31 hk, ← nI_zI a, pk_shrN (by omega) (zI (k : Int)) k (hx ⟨k, hk⟩), nI_zI]
/-- bit k of a is 1, as the program asks it -/
theorem zI_bit {a k : Nat} (hk : k < 32) (h : a < 2147483648) : zI (a : Int) >>> (zI (k : Int) &&& 31) &&& zI 1 = zI ((a / 2 ^ k % 2 : Nat) : Int) := by
  rw [zI_shr hk h]
  have h1 : a / 2 ^ k < 2147483648 := Nat.lt_of_le_of_lt (Nat.div_le_self _ _) h
  have := zI_land (a := a / 2 ^ k) (b := 1) h1 (by omega)
  rw [show ((1 : Nat) : Int) = 1 from rfl] at this
  rw [this, Nat.and_one_is_mod]
section SSN
variable {G : ssG} {M : ssM} {D mc ms : Nat} {Q : Option Value → ssH → Prop} {pc : Nat} {ls : List (Option Value)} {st : List Value} {h : ssH} {r0 : List Nat} {v0 : Value}
theorem v_iaload' {a n : Nat} {f : Nat → Int32} {x : Int32} (hl : ssLk M pc = some (.iaload, 1, r0, v0)) (he : h a = some (.inl (0, n, .inl f))) (i : Nat) (hx : x = zI (i : Int)) (hi : i < n) (kk : ssV G M D mc ms Q (pc + 1) ls (.int (f i) :: st) h) (hn : n < 2147483648 := by decide) : ssV G M D mc ms Q pc ls (.int x :: .ref a :: st) h := by
  refine v_iaload hl he (by rw [hx]; exact zI_in hi hn) ?_
  rw [hx, zI_clamp (by omega)]
  exact kk
theorem v_baload' {a n : Nat} {f : Nat → Int32} {x : Int32} (hl : ssLk M pc = some (.baload, 1, r0, v0)) (he : h a = some (.inl (1, n, .inl f))) (i : Nat) (hx : x = zI (i : Int)) (hi : i < n) (kk : ssV G M D mc ms Q (pc + 1) ls (.int (f i) :: st) h) (hn : n < 2147483648 := by decide) : ssV G M D mc ms Q pc ls (.int x :: .ref a :: st) h := by
  refine v_baload hl he (by rw [hx]; exact zI_in hi hn) ?_
  rw [hx, zI_clamp (by omega)]
  exact kk
theorem v_laload' {a n : Nat} {f : Nat → Int64} {x : Int32} (hl : ssLk M pc = some (.laload, 1, r0, v0)) (he : h a = some (.inl (2, n, .inr (.inl f)))) (i : Nat) (hx : x = zI (i : Int)) (hi : i < n) (kk : ssV G M D mc ms Q (pc + 1) ls (.long (f i) :: st) h) (hn : n < 2147483648 := by decide) : ssV G M D mc ms Q pc ls (.int x :: .ref a :: st) h := by
  refine v_laload hl he (by rw [hx]; exact zI_in hi hn) ?_
  rw [hx, zI_clamp (by omega)]
  exact kk
theorem v_iastore' {a n : Nat} {f : Nat → Int32} {x y : Int32} (hl : ssLk M pc = some (.iastore, 1, r0, v0)) (he : h a = some (.inl (0, n, .inl f))) (i : Nat) (hx : x = zI (i : Int)) (hi : i < n) (kk : ssV G M D mc ms Q (pc + 1) ls st (hset h a (.inl (0, n, .inl (upd f i y))))) (hn : n < 2147483648 := by decide) : ssV G M D mc ms Q pc ls (.int y :: .int x :: .ref a :: st) h := by
  refine v_iastore hl he (by rw [hx]; exact zI_in hi hn) ?_
  rw [hx, zI_clamp (by omega)]
  exact kk
end SSN
/-- the answer is an int, and the heap is as it was -/
def rI (x : Int32) (h0 : ssH) : Option Value → ssH → Prop := fun r h' => r = some (.int x) ∧ h0 = h'
def rV (h0 : ssH) : Option Value → ssH → Prop := fun r h' => r = none ∧ h0 = h'
def rL (x : Int64) (h0 : ssH) : Option Value → ssH → Prop := fun r h' => r = some (.long x) ∧ h0 = h'
theorem zI_ne0 {a : Int} (h : 0 < a) (h2 : a < 2147483648) : ¬ zI a = 0 := fun q => by rw [zI_eq0 (by omega) h2] at q; omega
theorem zN_add (a b : Nat) : zI (a : Int) + zI (b : Int) = zI ((a + b : Nat) : Int) := by rw [zI_add]; rfl
theorem zN_mul (a b : Nat) : zI (a : Int) * zI (b : Int) = zI ((a * b : Nat) : Int) := by rw [zI_mul, Int.natCast_mul]
theorem zN_sub {a b : Nat} (h : b ≤ a) : zI (a : Int) - zI (b : Int) = zI ((a - b : Nat) : Int) := by rw [zI_sub, Int.natCast_sub h]
theorem zN_div {a b : Nat} (h2 : a < 2147483648) (h3 : 0 < b) (h4 : b < 2147483648) : zI (a : Int) / zI (b : Int) = zI ((a / b : Nat) : Int) := by rw [zI_div (by omega) (by omega) (by omega) (by omega)]; rfl
theorem zN_rem {a b : Nat} (h2 : a < 2147483648) (h3 : 0 < b) (h4 : b < 2147483648) : zI (a : Int) - zI (a : Int) / zI (b : Int) * zI (b : Int) = zI ((a % b : Nat) : Int) := by rw [zI_rem (by omega) (by omega) (by omega) (by omega)]; rfl
def sumN (f : Nat → Nat) : Nat → Nat
  | 0 => 0
  | n + 1 => sumN f n + f n
theorem sumN_le {f : Nat → Nat} {c : Nat} (hf : ∀ k, f k ≤ c) : ∀ n, sumN f n ≤ n * c
  | 0 => by simp [sumN]
  | n + 1 => by
    have h1 := sumN_le hf n
    have h2 := hf n
    simp only [sumN, Nat.add_mul, Nat.one_mul]
    omega
theorem sumN_congr {f g : Nat → Nat} : ∀ n, (∀ k, k < n → f k = g k) → sumN f n = sumN g n
  | 0, _ => rfl
  | n + 1, h => by simp only [sumN]; rw [sumN_congr n (fun k hk => h k (by omega)), h n (by omega)]
/-- the set of the k below n that p holds of, as bits -/
def setN (p : Nat → Bool) : Nat → Nat
  | 0 => 0
  | n + 1 => setN p n + (if p n then 2 ^ n else 0)
theorem setN_lt (p : Nat → Bool) : ∀ n, setN p n < 2 ^ n
  | 0 => by simp [setN]
  | n + 1 => by
    have := setN_lt p n
    simp only [setN, Nat.pow_succ]
    split <;> omega
theorem setN_lt64 (p : Nat → Bool) {n : Nat} (h : n ≤ 6) : setN p n < 64 := Nat.lt_of_lt_of_le (setN_lt p n) (Nat.pow_le_pow_right (n := 2) (by decide) h)
theorem or_add {a n b : Nat} (h : a < 2 ^ n) : a ||| b * 2 ^ n = a + b * 2 ^ n := by
  have := Nat.two_pow_add_eq_or_of_lt h b
  rw [Nat.or_comm, Nat.mul_comm b, ← this, Nat.add_comm]
theorem zI_put {a n : Nat} (hn : n < 30) (h : a < 2 ^ n) : zI (a : Int) ||| zI 1 <<< (zI (n : Int) &&& 31) = zI ((a + 2 ^ n : Nat) : Int) := by
  have hp : 2 ^ n ≤ 2 ^ 29 := Nat.pow_le_pow_right (n := 2) (by decide) (by omega)
  have e := zI_shl (a := 1) (k := n) (by omega) (by omega)
  rw [show ((1 : Nat) : Int) = 1 from rfl] at e
  rw [e, zI_lor (by omega) (by omega), or_add h, Nat.one_mul]
theorem zI_putb {a n b : Nat} (hn : n < 30) (h : a < 2 ^ n) (hb : b ≤ 1) : zI (a : Int) ||| zI (b : Int) <<< (zI (n : Int) &&& 31) = zI ((a + b * 2 ^ n : Nat) : Int) := by
  have hp : 2 ^ n ≤ 2 ^ 29 := Nat.pow_le_pow_right (n := 2) (by decide) (by omega)
  have hb2 : b * 2 ^ n ≤ 1 * 2 ^ n := Nat.mul_le_mul_right _ hb
  rw [zI_shl (a := b) (k := n) (by omega) (by omega), zI_lor (by omega) (by omega), or_add h]
theorem setN_bit (p : Nat → Bool) : ∀ (n k : Nat), setN p n / 2 ^ k % 2 = if k < n ∧ p k = true then 1 else 0
  | 0, k => by simp [setN]
  | n + 1, k => by
    have h1 := setN_lt p n
    simp only [setN]
    rcases Nat.lt_trichotomy k n with hk | hk | hk
    · have e : (if p n then 2 ^ n else 0) = 2 ^ k * (2 * (if p n then 2 ^ (n - k - 1) else 0)) := by
        split
        · rw [← Nat.mul_assoc, ← Nat.pow_succ, ← Nat.pow_add]; congr 1; omega
        · simp
      rw [e, Nat.add_mul_div_left _ _ (Nat.two_pow_pos k), Nat.add_mul_mod_self_left, setN_bit p n k]
      simp only [hk, true_and, show k < n + 1 by omega]
    · subst hk
      have e : (if p k then 2 ^ k else 0) = 2 ^ k * (if p k then 1 else 0) := by split <;> simp
      rw [e, Nat.add_mul_div_left _ _ (Nat.two_pow_pos k), Nat.div_eq_of_lt h1]
      cases p k <;> simp
    · have h2 : setN p n + (if p n then 2 ^ n else 0) < 2 ^ k := by
        have : 2 ^ (n + 1) ≤ 2 ^ k := Nat.pow_le_pow_right (n := 2) (by decide) (by omega)
        rw [Nat.pow_succ] at this
        split <;> omega
      rw [Nat.div_eq_of_lt h2]
      have : ¬ k < n + 1 := by omega
      simp [this]
theorem setN_congr {p q : Nat → Bool} : ∀ n, (∀ k, k < n → p k = q k) → setN p n = setN q n
  | 0, _ => rfl
  | n + 1, h => by simp only [setN]; rw [setN_congr n (fun k hk => h k (by omega)), h n (by omega)]
/-- bit k of a set -/
def bitN (m k : Nat) : Bool := m / 2 ^ k % 2 == 1
theorem bitN_set (p : Nat → Bool) (n k : Nat) : bitN (setN p n) k = (decide (k < n) && p k) := by
  unfold bitN
  rw [setN_bit]
  by_cases h1 : k < n <;> cases h2 : p k <;> simp [h1, h2]
theorem bitN_le (m k : Nat) : m / 2 ^ k % 2 ≤ 1 := by omega
def popN (m : Nat) : Nat := sumN (fun k => m / 2 ^ k % 2) 6
abbrev ob0 (i R : Nat → Nat) : List Value := [.int (zI ↑(i 0)), .ref (R 1), .ref (R 2), .ref (R 3)]
abbrev ob1 (i R : Nat → Nat) : List Value := [.int (zI ↑(i 0)), .ref (R 1), .ref (R 2), .ref (R 3), .ref (R 4), .int (zI ↑(i 5)), .int (zI ↑(i 6)), .int (zI ↑(i 7)), .int (zI ↑(i 8))]
abbrev ob2 (i R : Nat → Nat) : List Value := [.int (zI ↑(i 0)), .int (zI ↑(i 1)), .int (zI ↑(i 2)), .ref (R 3), .ref (R 4), .ref (R 5), .ref (R 6)]
abbrev ob3 (i R : Nat → Nat) : List Value := [.ref (R 0), .int (zI ↑(i 1)), .int (zI ↑(i 2)), .ref (R 3), .int (zI ↑(i 4)), .int (zI ↑(i 5)), .int (zI ↑(i 6)), .int (zI ↑(i 7)), .ref (R 8), .ref (R 9), .ref (R 10)]
abbrev ob5 (i R : Nat → Nat) : List Value := [.int (zI ↑(i 0)), .int (zI ↑(i 1)), .int (zI ↑(i 2)), .int (zI ↑(i 3)), .ref (R 4), .ref (R 5), .ref (R 6), .ref (R 7), .ref (R 8), .ref (R 9), .ref (R 10), .int (zI ↑(i 11)), .int (zI ↑(i 12)), .int (zI ↑(i 13))]
abbrev ob6 (i R : Nat → Nat) : List Value := [.ref (R 0)]
abbrev ob7 (i R : Nat → Nat) : List Value := [.int (zI ↑(i 0)), .int (zI ↑(i 1)), .ref (R 2)]
abbrev ob8 (i R : Nat → Nat) : List Value := [.ref (R 0), .ref (R 1), .ref (R 2), .ref (R 3), .ref (R 4), .int (zI ↑(i 5)), .int (zI ↑(i 6)), .int (zI ↑(i 7)), .int (zI ↑(i 8)), .ref (R 9), .ref (R 10), .ref (R 11)]
abbrev ob4 (i R : Nat → Nat) (d : Int) : List Value := [.int (zI ↑(i 0)), .int (zI ↑(i 1)), .int (zI ↑(i 2)), .int (zI ↑(i 3)), .ref (R 4), .int (zI ↑(i 5)), .ref (R 6), .int (zI ↑(i 7)), .ref (R 8), .ref (R 9), .ref (R 10), .int (zI ↑(i 11)), .int (zI ↑(i 12)), .int (zI d), .int (zI ↑(i 14)), .int (zI ↑(i 15)), .ref (R 16)]
abbrev ar (n : Nat) (f : Nat → Nat) : ssE := .inl (0, n, .inl (fun j => zI ↑(f j)))
def PlanAt (h : ssH) (p : Nat) (i R : Nat → Nat) (d : Int) (A : Nat → Nat → Nat) : Prop := h p = some (.inr (4, ob4 i R d)) ∧ h (R 4) = some (ar 6 (A 4)) ∧ h (R 6) = some (ar 6 (A 6)) ∧ h (R 8) = some (ar 5 (A 8)) ∧ h (R 9) = some (ar 5 (A 9)) ∧ h (R 10) = some (ar 5 (A 10))
def MomAt (h : ssH) (q : Nat) (j S : Nat → Nat) (B : Nat → Nat → Nat) : Prop := h q = some (.inr (2, ob2 j S)) ∧ h (S 3) = some (ar 6 (B 3)) ∧ h (S 4) = some (ar 6 (B 4)) ∧ h (S 5) = some (ar 6 (B 5)) ∧ h (S 6) = some (ar 41 (B 6))
def SpanAt (h : ssH) (q T : Nat) (E : Nat → Nat) : Prop := h q = some (.inr (6, [.ref T])) ∧ h T = some (ar 6 E)
/-- bounds of what a plan and a moment hold -/
def PlanOk (i : Nat → Nat) (A : Nat → Nat → Nat) : Prop := i 0 ≤ 6 ∧ i 1 ≤ 9 ∧ i 2 ≤ 100 ∧ i 3 ≤ 6 ∧ i 5 ≤ 6 ∧ i 7 ≤ 5 ∧ (∀ k, A 4 k ≤ 9) ∧ (∀ k, A 6 k ≤ 9) ∧ (∀ k, A 8 k ≤ 40) ∧ (∀ k, A 9 k < 64) ∧ (∀ k, A 10 k < 32) ∧ i 11 ≤ 15 ∧ i 12 ≤ 6 ∧ i 14 < 32 ∧ i 15 < 32
def MomOk (j : Nat → Nat) (B : Nat → Nat → Nat) : Prop := j 0 ≤ 99 ∧ j 1 ≤ 9 ∧ j 2 ≤ 65536 ∧ (∀ k, B 3 k ≤ 2) ∧ (∀ k, B 4 k < 6) ∧ (∀ k, B 5 k ≤ 99) ∧ (∀ k, B 6 k < 64)
theorem setN_t {p : Nat → Bool} {n : Nat} (h : p n = true) : setN p (n + 1) = setN p n + 2 ^ n := by simp [setN, h]
theorem setN_f {p : Nat → Bool} {n : Nat} (h : p n = false) : setN p (n + 1) = setN p n := by simp [setN, h]
def andn (m b : Nat) : Nat := m ^^^ (m &&& b)
theorem andn_lt {m b n : Nat} (h : m < 2 ^ n) : andn m b < 2 ^ n := Nat.xor_lt_two_pow h (Nat.lt_of_le_of_lt Nat.and_le_left h)
theorem bv_andn (x y : BitVec 32) : x &&& (y ^^^ BitVec.allOnes 32) = x ^^^ (x &&& y) := by
  apply BitVec.eq_of_getLsbD_eq
  intro i hi
  simp only [BitVec.getLsbD_and, BitVec.getLsbD_xor, BitVec.getLsbD_allOnes, hi, decide_true]
  cases x.getLsbD i <;> cases y.getLsbD i <;> rfl
theorem zI_m1 : (zI (-1)).toBitVec = BitVec.allOnes 32 := by decide +kernel
theorem zI_andn {m b : Nat} (hm : m < 2147483648) (hb : b < 2147483648) : zI (m : Int) &&& (zI (b : Int) ^^^ zI (-1)) = zI ((andn m b : Nat) : Int) := by
  refine zI_ofbv ?_ (Nat.lt_of_lt_of_le (andn_lt (n := 31) hm) (by decide))
  rw [Int32.toBitVec_and, Int32.toBitVec_xor, zI_m1, bv_andn, BitVec.toNat_xor, BitVec.toNat_and, zI_bv (by omega), zI_bv (by omega)]
  rfl
def zb (b : Bool) : Int32 := if b then zI 1 else zI 0
theorem zb_0 (b : Bool) : zb b = 0 ↔ b = false := by cases b <;> simp [zb, zI_0.symm] <;> decide +kernel
def fstN (p : Nat → Bool) : Nat → Nat → Nat
  | 0, n => n
  | f + 1, n => if p n then n else fstN p f (n + 1)
def cDraw (seed : Nat) : Nat → Nat
  | 0 => seed
  | n + 1 => (75 * cDraw seed n + 74) % 65537
theorem cDraw_le {seed : Nat} (h : seed ≤ 65536) : ∀ n, cDraw seed n ≤ 65536
  | 0 => h
  | n + 1 => by simp only [cDraw]; omega
theorem zI_pop {m : Nat} (h : m < 64) (e : Int32 → Int32) (he : ∀ k : Fin 64, e (zI ((k.val : Nat) : Int)) = zI ((popN k.val : Nat) : Int)) : e (zI (m : Int)) = zI ((popN m : Nat) : Int) := he ⟨m, h⟩
/-- acts on which an act rests, those struck meaning nothing -/
def rIn (F : Nat → Nat) (st : Nat) : Nat → Nat → Nat
  | 0, r => r
  | n + 1, r => if bitN (rIn F st n r) n then rIn F st n r ||| andn (F n) st else rIn F st n r
def rOut (F : Nat → Nat) (st ac : Nat) : Nat → Nat → Nat
  | 0, r => r
  | n + 1, r => rIn F st ac (rOut F st ac n r)
theorem rIn_lt {F : Nat → Nat} {st : Nat} (hF : ∀ k, F k < 32) : ∀ n {r}, r < 32 → rIn F st n r < 32
  | 0, _, h => h
  | n + 1, r, h => by
    have h1 := rIn_lt (st := st) hF n h
    simp only [rIn]
    split
    · exact Nat.or_lt_two_pow (n := 5) h1 (andn_lt (n := 5) (hF n))
    · exact h1
theorem rOut_lt {F : Nat → Nat} {st ac : Nat} (hF : ∀ k, F k < 32) : ∀ n {r}, r < 32 → rOut F st ac n r < 32
  | 0, _, h => h
  | n + 1, r, h => by simp only [rOut]; exact rIn_lt hF ac (rOut_lt hF n h)
def cRO (F : Nat → Nat) (ac a st : Nat) : Nat := rOut F st ac ac (andn (F a) st)
theorem cRO_lt {F : Nat → Nat} {ac a st : Nat} (hF : ∀ k, F k < 32) : cRO F ac a st < 32 := rOut_lt hF ac (andn_lt (n := 5) (hF a))
theorem bitN_true {m k : Nat} : bitN m k = true ↔ m / 2 ^ k % 2 = 1 := by simp [bitN]
theorem bitN_false {m k : Nat} : bitN m k = false ↔ ¬ m / 2 ^ k % 2 = 1 := by simp [bitN]
theorem v_drop {G : ssG} {M : ssM} {D mc ms : Nat} {Q : Option Value → ssH → Prop} {pc : Nat} {ls ls' : List (Option Value)} {st : List Value} {h : ssH} (k : Nat) (e : stN ls k = ls') (kk : ssV G M D mc ms Q pc ls' st h) : ssV G M D mc ms Q pc ls st h := by
  refine v_forget (ls2 := ls') ?_ kk
  rintro ⟨j, w⟩ hq
  obtain ⟨i, hi, hk⟩ := (prs_mem _ _ _ _).mp hq
  rw [← e] at hk
  exact (prs_mem _ _ _ _).mpr ⟨i, hi, (stN_get _ _ _ _ hk).2⟩
