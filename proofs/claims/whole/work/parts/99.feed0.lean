section FEED
variable {G : ssG} {M : ssM} {D mc ms : Nat} {Q : Option Value → ssH → Prop} {pc : Nat} {ls : List (Option Value)} {st : List Value} {h : ssH} {v0 : Value} {r0 : List Nat}
theorem v_bastore' {a n : Nat} {f : Nat → Int32} {x y : Int32} (hl : ssLk M pc = some (.bastore, 1, r0, v0)) (he : h a = some (.inl (1, n, .inl f))) (i : Nat) (hx : x = zI (i : Int)) (hi : i < n) (kk : ssV G M D mc ms Q (pc + 1) ls st (hset h a (.inl (1, n, .inl (upd f i (vp_nar .byte y)))))) (hn : n < 2147483648 := by decide) : ssV G M D mc ms Q pc ls (.int y :: .int x :: .ref a :: st) h := by
  refine v_bastore hl he (by rw [hx]; exact zI_in hi hn) ?_
  rw [hx, zI_clamp (by omega)]
  exact kk
end FEED
/-- a number's byte behind a shift -/
def bt (x : Int32) (s : Nat) : Int := (x >>> (zI ↑s &&& 31)).toInt8.toInt
theorem bt_i8 (y : Int8) : y.toInt32 = zI y.toInt := by
  rw [← Int8.toInt_toInt32]
  exact (Int32.ofInt_toInt _).symm
theorem bt_st (x : Int32) (s : Nat) : vp_nar .byte ((x >>> (zI ↑s &&& 31)).toInt8.toInt32) = zI (bt x s) := by
  unfold bt
  rw [← bt_i8]
  show (((x >>> (zI ↑s &&& 31)).toInt8.toInt32).toInt8).toInt32 = _
  rw [Int8.toInt8_toInt32]
theorem bt_bd (x : Int32) (s : Nat) : -128 ≤ bt x s ∧ bt x s ≤ 127 := by
  have h1 := Int8.le_toInt (x >>> (zI ↑s &&& 31)).toInt8
  have h2 := Int8.toInt_lt (x >>> (zI ↑s &&& 31)).toInt8
  unfold bt
  omega
theorem arB_upd (B : Nat → Int) (n s : Nat) (v : Int) : (.inl (1, n, .inl (upd (fun j => zI (B j)) s (zI v))) : ssE) = arB n (fun j => if j = s then v else B j) := by
  have : upd (fun j => zI (B j)) s (zI v) = fun j => zI (if j = s then v else B j) := by
    funext j
    by_cases e : j = s <;> simp [upd, e]
  rw [this]
/-- the tape with the first k bytes of five numbers at its end -/
def fB (B : Nat → Int) (W : Nat → Int32) (N k : Nat) : Nat → Int := fun j => if N ≤ j ∧ j < N + k then bt (W ((j - N) / 4)) (24 - 8 * ((j - N) % 4)) else B j
theorem fB_0 (B : Nat → Int) (W : Nat → Int32) (N : Nat) : fB B W N 0 = B := by
  funext j
  exact if_neg (by omega)
theorem fB_s (B : Nat → Int) (W : Nat → Int32) (N k : Nat) : (fun j => if j = N + k then bt (W (k / 4)) (24 - 8 * (k % 4)) else fB B W N k j) = fB B W N (k + 1) := by
  funext j
  unfold fB
  by_cases e : j = N + k
  · rw [if_pos e, if_pos (by omega), e, show N + k - N = k by omega]
  · rw [if_neg e]
    by_cases g : N ≤ j ∧ j < N + k
    · rw [if_pos g, if_pos (by omega)]
    · rw [if_neg g, if_neg (by omega)]
theorem fB_bd {B : Nat → Int} (hB : ∀ k, -128 ≤ B k ∧ B k ≤ 127) (W : Nat → Int32) (N k : Nat) : ∀ j, -128 ≤ fB B W N k j ∧ fB B W N k j ≤ 127 := fun j => by
  unfold fB
  split
  · exact bt_bd _ _
  · exact hB j
def w5 (a b c d e : Int32) (k : Nat) : Int32 := if k = 0 then a else if k = 1 then b else if k = 2 then c else if k = 3 then d else e
