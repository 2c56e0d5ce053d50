/-! ===== numbers: zI a is the int of a ===== -/
theorem zI_toInt {a : Int} (h1 : -2147483648 ≤ a) (h2 : a < 2147483648) : (zI a).toInt = a := Int32.toInt_ofInt_of_le h1 h2
theorem zI_add (a b : Int) : zI a + zI b = zI (a + b) := (Int32.ofInt_add a b).symm
theorem zI_sub (a b : Int) : zI a - zI b = zI (a - b) := (Int32.ofInt_sub a b).symm
theorem zI_mul (a b : Int) : zI a * zI b = zI (a * b) := (Int32.ofInt_mul a b).symm
theorem zI_lt {a b : Int} (h1 : -2147483648 ≤ a) (h2 : a < 2147483648) (h3 : -2147483648 ≤ b) (h4 : b < 2147483648) : zI a < zI b ↔ a < b := by rw [Int32.lt_iff_toInt_lt, zI_toInt h1 h2, zI_toInt h3 h4]
theorem zI_le {a b : Int} (h1 : -2147483648 ≤ a) (h2 : a < 2147483648) (h3 : -2147483648 ≤ b) (h4 : b < 2147483648) : zI a ≤ zI b ↔ a ≤ b := by rw [Int32.le_iff_toInt_le, zI_toInt h1 h2, zI_toInt h3 h4]
theorem zI_eq {a b : Int} (h1 : -2147483648 ≤ a) (h2 : a < 2147483648) (h3 : -2147483648 ≤ b) (h4 : b < 2147483648) : zI a = zI b ↔ a = b := by rw [← Int32.toInt_inj, zI_toInt h1 h2, zI_toInt h3 h4]
theorem zI_0 : (0 : Int32) = zI 0 := rfl
theorem zI_lt0 {a : Int} (h1 : -2147483648 ≤ a) (h2 : a < 2147483648) : zI a < 0 ↔ a < 0 := by rw [zI_0, zI_lt h1 h2 (by decide) (by decide)]
theorem zI_le0 {a : Int} (h1 : -2147483648 ≤ a) (h2 : a < 2147483648) : zI a ≤ 0 ↔ a ≤ 0 := by rw [zI_0, zI_le h1 h2 (by decide) (by decide)]
theorem zI_0lt {a : Int} (h1 : -2147483648 ≤ a) (h2 : a < 2147483648) : 0 < zI a ↔ 0 < a := by rw [zI_0, zI_lt (by decide) (by decide) h1 h2]
theorem zI_0le {a : Int} (h1 : -2147483648 ≤ a) (h2 : a < 2147483648) : 0 ≤ zI a ↔ 0 ≤ a := by rw [zI_0, zI_le (by decide) (by decide) h1 h2]
theorem zI_eq0 {a : Int} (h1 : -2147483648 ≤ a) (h2 : a < 2147483648) : zI a = 0 ↔ a = 0 := by rw [zI_0, zI_eq h1 h2 (by decide) (by decide)]
theorem nI_zI (n : Nat) : nI n = zI n := by
  apply Int32.toInt_inj.mp
  simp [nI, zI]
theorem zI_clamp {n : Nat} (h : n < 2147483648) : (zI (n : Int)).toNatClampNeg = n := by rw [← nI_zI]; exact nI_clamp h
theorem zI_in {i n : Nat} (h : i < n) (hn : n < 2147483648) : vp_in (zI (i : Int)) n := by rw [← nI_zI]; exact vp_in_nI h hn
theorem zI_div {a b : Int} (h1 : 0 ≤ a) (h2 : a < 2147483648) (h3 : 0 < b) (h4 : b < 2147483648) : zI a / zI b = zI (a / b) := by
  apply Int32.toInt_inj.mp
  have hb : zI b ≠ -1 := by
    intro q
    have := congrArg Int32.toInt q
    rw [zI_toInt (by omega) h4] at this
    have h5 : (-1 : Int32).toInt = -1 := by decide
    omega
  have hd : 0 ≤ a / b := Int.ediv_nonneg h1 (by omega)
  have hd2 : a / b ≤ a := Int.ediv_le_self b h1
  rw [Int32.toInt_div_of_ne_right _ _ hb, zI_toInt (by omega) h2, zI_toInt (by omega) h4, zI_toInt (by omega) (by omega), Int.tdiv_eq_ediv_of_nonneg h1]
theorem zI_rem {a b : Int} (h1 : 0 ≤ a) (h2 : a < 2147483648) (h3 : 0 < b) (h4 : b < 2147483648) : zI a - zI a / zI b * zI b = zI (a % b) := by
  rw [zI_div h1 h2 h3 h4, zI_mul, zI_sub]
  congr 1
  have := Int.emod_def a b
  rw [this, Int.mul_comm b]
theorem zI_s1 (s : Nat) : zI (s : Int) + zI 1 = zI ((s + 1 : Nat) : Int) := by rw [zI_add]; rfl
theorem zI_nat_inj {a b : Nat} (h1 : a < 2147483648) (h2 : b < 2147483648) : zI (a : Int) = zI (b : Int) ↔ a = b := by rw [zI_eq (by omega) (by omega) (by omega) (by omega)]; omega
theorem zI_and31 {k : Nat} (h : k < 32) : zI (k : Int) &&& 31 = zI (k : Int) := by
  have : ∀ k : Fin 32, zI ((k.val : Nat) : Int) &&& 31 = zI ((k.val : Nat) : Int) := by decide +kernel
  exact this ⟨k, h⟩
theorem zI_bv {a : Nat} (h : a < 4294967296) : (zI (a : Int)).toBitVec.toNat = a := by
  rw [← nI_zI]
  exact pk_tn h
theorem zI_ofbv {x : Int32} {a : Nat} (h : x.toBitVec.toNat = a) (ha : a < 4294967296) : x = zI (a : Int) := by
  apply Int32.toBitVec_inj.mp
  apply BitVec.eq_of_toNat_eq
  rw [h, zI_bv ha]
theorem zI_land {a b : Nat} (ha : a < 2147483648) (hb : b < 2147483648) : zI (a : Int) &&& zI (b : Int) = zI ((a &&& b : Nat) : Int) := by
  refine zI_ofbv ?_ (Nat.lt_of_le_of_lt Nat.and_le_left (by omega))
  rw [Int32.toBitVec_and, BitVec.toNat_and, zI_bv (by omega), zI_bv (by omega)]
theorem zI_lor {a b : Nat} (ha : a < 2147483648) (hb : b < 2147483648) : zI (a : Int) ||| zI (b : Int) = zI ((a ||| b : Nat) : Int) := by
  have hlt : a ||| b < 2 ^ 31 := Nat.or_lt_two_pow (by omega) (by omega)
  refine zI_ofbv ?_ (by omega)
  rw [Int32.toBitVec_or, BitVec.toNat_or, zI_bv (by omega), zI_bv (by omega)]
theorem zI_shl {a k : Nat} (hk : k < 31) (h : a * 2 ^ k < 2147483648) : zI (a : Int) <<< (zI (k : Int) &&& 31) = zI ((a * 2 ^ k : Nat) : Int) := by
  have hx : ∀ k : Fin 32, ((zI ((k.val : Nat) : Int)).toBitVec.smod 32).toNat = k.val := by decide +kernel
  rw [zI_and31 (by omega), ← nI_zI a, pk_shlN (zI (k : Int)) k (hx ⟨k, by omega⟩) (by omega), nI_zI]
theorem zI_shr {a k : Nat} (hk : k < 32) (h : a < 2147483648) : zI (a : Int) >>> (zI (k : Int) &&& 31) = zI ((a / 2 ^ k : Nat) : Int) := by
  have hx : ∀ k : Fin 32, ((zI ((k.val : Nat) : Int)).toBitVec.smod 32).toNat = k.val := by decide +kernel
  rw [zI_and31 hk, ← nI_zI a, pk_shrN (by omega) (zI (k : Int)) k (hx ⟨k, hk⟩), nI_zI]
/-- bit k of a is 1, as the program asks it -/
theorem zI_bit {a k : Nat} (hk : k < 32) (h : a < 2147483648) : zI (a : Int) >>> (zI (k : Int) &&& 31) &&& zI 1 = zI ((a / 2 ^ k % 2 : Nat) : Int) := by
  rw [zI_shr hk h]
  have h1 : a / 2 ^ k < 2147483648 := Nat.lt_of_le_of_lt (Nat.div_le_self _ _) h
  have := zI_land (a := a / 2 ^ k) (b := 1) h1 (by omega)
  rw [show ((1 : Nat) : Int) = 1 from rfl] at this
  rw [this, Nat.and_one_is_mod]
section SSN
variable {G : ssG} {M : ssM} {D mc ms : Nat} {Q : Option Value → ssH → Prop} {pc : Nat} {ls : List (Option Value)} {st : List Value} {h : ssH} {r0 : List Nat} {v0 : Value}
theorem v_iaload' {a n : Nat} {f : Nat → Int32} {x : Int32} (hl : ssLk M pc = some (.iaload, 1, r0, v0)) (he : h a = some (.inl (0, n, .inl f))) (i : Nat) (hx : x = zI (i : Int)) (hi : i < n) (kk : ssV G M D mc ms Q (pc + 1) ls (.int (f i) :: st) h) (hn : n < 2147483648 := by decide) : ssV G M D mc ms Q pc ls (.int x :: .ref a :: st) h := by
  refine v_iaload hl he (by rw [hx]; exact zI_in hi hn) ?_
  rw [hx, zI_clamp (by omega)]
  exact kk
theorem v_baload' {a n : Nat} {f : Nat → Int32} {x : Int32} (hl : ssLk M pc = some (.baload, 1, r0, v0)) (he : h a = some (.inl (1, n, .inl f))) (i : Nat) (hx : x = zI (i : Int)) (hi : i < n) (kk : ssV G M D mc ms Q (pc + 1) ls (.int (f i) :: st) h) (hn : n < 2147483648 := by decide) : ssV G M D mc ms Q pc ls (.int x :: .ref a :: st) h := by
  refine v_baload hl he (by rw [hx]; exact zI_in hi hn) ?_
  rw [hx, zI_clamp (by omega)]
  exact kk
theorem v_laload' {a n : Nat} {f : Nat → Int64} {x : Int32} (hl : ssLk M pc = some (.laload, 1, r0, v0)) (he : h a = some (.inl (2, n, .inr (.inl f)))) (i : Nat) (hx : x = zI (i : Int)) (hi : i < n) (kk : ssV G M D mc ms Q (pc + 1) ls (.long (f i) :: st) h) (hn : n < 2147483648 := by decide) : ssV G M D mc ms Q pc ls (.int x :: .ref a :: st) h := by
  refine v_laload hl he (by rw [hx]; exact zI_in hi hn) ?_
  rw [hx, zI_clamp (by omega)]
  exact kk
theorem v_iastore' {a n : Nat} {f : Nat → Int32} {x y : Int32} (hl : ssLk M pc = some (.iastore, 1, r0, v0)) (he : h a = some (.inl (0, n, .inl f))) (i : Nat) (hx : x = zI (i : Int)) (hi : i < n) (kk : ssV G M D mc ms Q (pc + 1) ls st (hset h a (.inl (0, n, .inl (upd f i y))))) (hn : n < 2147483648 := by decide) : ssV G M D mc ms Q pc ls (.int y :: .int x :: .ref a :: st) h := by
  refine v_iastore hl he (by rw [hx]; exact zI_in hi hn) ?_
  rw [hx, zI_clamp (by omega)]
  exact kk
end SSN
/-- the answer is an int, and the heap is as it was -/
def rI (x : Int32) (h0 : ssH) : Option Value → ssH → Prop := fun r h' => r = some (.int x) ∧ h' = h0
def rV (h0 : ssH) : Option Value → ssH → Prop := fun r h' => r = none ∧ h' = h0
def rL (x : Int64) (h0 : ssH) : Option Value → ssH → Prop := fun r h' => r = some (.long x) ∧ h' = h0
abbrev ob0 (i R : Nat → Nat) : List Value := [.int (zI ↑(i 0)), .ref (R 1), .ref (R 2), .ref (R 3)]
abbrev ob1 (i R : Nat → Nat) : List Value := [.int (zI ↑(i 0)), .ref (R 1), .ref (R 2), .ref (R 3), .ref (R 4), .int (zI ↑(i 5)), .int (zI ↑(i 6)), .int (zI ↑(i 7)), .int (zI ↑(i 8))]
abbrev ob2 (i R : Nat → Nat) : List Value := [.int (zI ↑(i 0)), .int (zI ↑(i 1)), .int (zI ↑(i 2)), .ref (R 3), .ref (R 4), .ref (R 5), .ref (R 6)]
abbrev ob3 (i R : Nat → Nat) : List Value := [.ref (R 0), .int (zI ↑(i 1)), .int (zI ↑(i 2)), .ref (R 3), .int (zI ↑(i 4)), .int (zI ↑(i 5)), .int (zI ↑(i 6)), .int (zI ↑(i 7)), .ref (R 8), .ref (R 9), .ref (R 10)]
abbrev ob5 (i R : Nat → Nat) : List Value := [.int (zI ↑(i 0)), .int (zI ↑(i 1)), .int (zI ↑(i 2)), .int (zI ↑(i 3)), .ref (R 4), .ref (R 5), .ref (R 6), .ref (R 7), .ref (R 8), .ref (R 9), .int (zI ↑(i 10)), .int (zI ↑(i 11)), .int (zI ↑(i 12))]
abbrev ob6 (i R : Nat → Nat) : List Value := [.ref (R 0)]
abbrev ob7 (i R : Nat → Nat) : List Value := [.int (zI ↑(i 0)), .int (zI ↑(i 1)), .ref (R 2)]
abbrev ob8 (i R : Nat → Nat) : List Value := [.ref (R 0), .ref (R 1), .ref (R 2), .ref (R 3), .ref (R 4), .int (zI ↑(i 5)), .int (zI ↑(i 6)), .int (zI ↑(i 7)), .int (zI ↑(i 8)), .ref (R 9), .ref (R 10), .ref (R 11)]
abbrev ob4 (i R : Nat → Nat) (d : Int) : List Value := [.int (zI ↑(i 0)), .int (zI ↑(i 1)), .int (zI ↑(i 2)), .int (zI ↑(i 3)), .ref (R 4), .int (zI ↑(i 5)), .ref (R 6), .int (zI ↑(i 7)), .ref (R 8), .ref (R 9), .ref (R 10), .int (zI ↑(i 11)), .int (zI ↑(i 12)), .int (zI d), .int (zI ↑(i 14)), .int (zI ↑(i 15)), .ref (R 16)]
abbrev ar (n : Nat) (f : Nat → Nat) : ssE := .inl (0, n, .inl (fun j => zI ↑(f j)))
