def bOdds (ζ : Nat → Nat → Nat) (V : Nat → Nat) (n : Int) (b : Bool) : Int × Nat := if 0 < mWhy true n 6 then (-1, mWhy true n 6) else (↑(cFrac (sumN (sQN ζ V n.toNat) (2 ^ n.toNat)) (100 ^ n.toNat) b), 0)
def bMean (ζ : Nat → Nat → Nat) (V : Nat → Nat) (n : Int) (b : Bool) : Int × Nat := if 0 < mWhy true n 6 then (-1, mWhy true n 6) else (↑(cFrac (sumN (sSN ζ V n.toNat) (2 ^ n.toNat)) (100 ^ n.toNat) b), 0)
def bGoodOdds (ζ : Nat → Nat → Nat) (V : Nat → Nat) (s n : Int) (b : Bool) : Int × Nat := if 0 < mWhy (decide (0 ≤ s ∧ s < ↑(ζ 5 0))) n 6 then (-1, mWhy (decide (0 ≤ s ∧ s < ↑(ζ 5 0))) n 6) else (↑(cFrac (sumN (sON ζ V n.toNat s.toNat) (2 ^ n.toNat)) (100 ^ n.toNat) b), 0)
def bPower (ζ : Nat → Nat → Nat) (V : Nat → Nat) (s : Int) (b : Bool) : Int × Nat := if ¬ (0 ≤ s ∧ s < ↑(ζ 5 0)) then (-1, 1) else if V (12 + s.toNat) = 0 then (-1, 5) else (↑(cFrac (mTu ζ (mG ζ V) s.toNat) (2 ^ (popN (mG ζ V) - 1)) b), 0)
def bHang (ζ : Nat → Nat → Nat) (V : Nat → Nat) (n : Int) : Int × Nat := if 0 < mWhy true n 60 then (-1, mWhy true n 60) else ((hbS ζ (hbW ζ V n) (ζ 4 0 ^ ζ 5 0)).1, 0)
def bHangAt (ζ : Nat → Nat → Nat) (V : Nat → Nat) (s n : Int) : Int × Nat := if 0 < mWhy (decide (0 ≤ s ∧ s < ↑(ζ 5 0))) n 60 then (-1, mWhy (decide (0 ≤ s ∧ s < ↑(ζ 5 0))) n 60) else (↑((hbS ζ (hbW ζ V n) (ζ 4 0 ^ ζ 5 0)).2 s.toNat), 0)
def bLongest (ζ : Nat → Nat → Nat) (V : Nat → Nat) : Int × Nat := ((hbS ζ (hbW ζ V (-1)) (ζ 4 0 ^ ζ 5 0)).1, 0)
def bLongestAt (ζ : Nat → Nat → Nat) (V : Nat → Nat) (s : Int) : Int × Nat := if ¬ (0 ≤ s ∧ s < ↑(ζ 5 0)) then (-1, 1) else (↑((hbS ζ (hbW ζ V (-1)) (ζ 4 0 ^ ζ 5 0)).2 s.toNat), 0)
theorem prN_le {ζ : Nat → Nat → Nat} (z2 : ζ 2 0 ≤ 100) (c : Nat) : ∀ n, prN ζ c n ≤ 100 ^ n
  | 0 => Nat.le_refl _
  | n + 1 => by
    have h := prN_le z2 c n
    simp only [prN, Nat.pow_succ]
    exact Nat.mul_le_mul h (by split <;> omega)
theorem sQN_le {ζ : Nat → Nat → Nat} (z2 : ζ 2 0 ≤ 100) (V : Nat → Nat) (n c : Nat) : sQN ζ V n c ≤ 6 * 100 ^ n := by
  have h := prN_le z2 c n
  unfold sQN
  split <;> omega
theorem sSN_le {ζ : Nat → Nat → Nat} (z2 : ζ 2 0 ≤ 100) (V : Nat → Nat) (n c : Nat) : sSN ζ V n c ≤ 6 * 100 ^ n := by
  have h := prN_le z2 c n
  have h2 := popN_le (mG ζ (tbN ζ V c n))
  unfold sSN
  have := Nat.mul_le_mul h h2
  rw [Nat.mul_comm 6]; exact this
theorem sON_le {ζ : Nat → Nat → Nat} (z2 : ζ 2 0 ≤ 100) (V : Nat → Nat) (n s c : Nat) : sON ζ V n s c ≤ 6 * 100 ^ n := by
  have h := prN_le z2 c n
  unfold sON
  split <;> omega
theorem st_bd {f : Nat → Nat} {n : Nat} (hn : n ≤ 6) (h : ∀ c, f c ≤ 6 * 100 ^ n) (p9 : 100 ^ n ≤ 1000000000000) : sumN f (2 ^ n) ≤ 384000000000000 := by
  have h1 := sumN_le h (2 ^ n)
  have h2 : 2 ^ n ≤ 64 := Nat.pow_le_pow_right (n := 2) (by decide) hn
  have h3 : 6 * 100 ^ n ≤ 6000000000000 := by omega
  have h4 := Nat.mul_le_mul h2 h3
  omega
theorem mTu_le (ζ : Nat → Nat → Nat) (g a : Nat) (z5 : ζ 5 0 ≤ 6) : mTu ζ g a ≤ 64 := by
  have h1 := sumN_le (f := mTp ζ g a) (c := 1) (fun k => by unfold mTp; split <;> omega) (2 ^ ζ 5 0)
  have h2 : 2 ^ ζ 5 0 ≤ 64 := Nat.pow_le_pow_right (n := 2) (by decide) z5
  unfold mTu
  omega
theorem MQs.hb {h h1 h' : ssH} {ad : Nat → Nat} {rv : Value} {m m1 : Nat → Int} {ζ ρ ρ1 : Nat → Nat → Nat} {n : Int} {c : Nat} (hA : ∀ k l, ad k = ad l → k = l) (q : MQs h ad rv m ζ ρ h1 m1 ρ1) (hi : hbI ζ (ρ 2) n ad rv m1 h1 c h') : ∃ Y B, MQs h ad rv m ζ ρ h' m1 (rU (rU ρ1 3 Y) 6 B) ∧ (0 ≤ (hbS ζ (hbW ζ (ρ 2) n) c).1 → ∀ s, s < ζ 5 0 → B s = (hbS ζ (hbW ζ (ρ 2) n) c).2 s) := by
  obtain ⟨Y, B, i1, i2, i3, i4, i5, i6⟩ := hi
  obtain ⟨⟨a, b, c2, d, f, g, i, j⟩, s1, s2, s3⟩ := q
  refine ⟨Y, B, ⟨⟨i1, i2, by rw [s2.1] at c2; rw [i3]; show _ = some (ar 26 (ρ1 2)); rw [s2.1], ?_, ?_, i4, ?_, ?_⟩, s1, ⟨s2.1, s2.2.1, s2.2.2⟩, ?_⟩, i6⟩
  · rw [i5 _ (ad_ne hA (by decide)) (ad_ne hA (by decide))]; exact d
  · rw [i5 _ (ad_ne hA (by decide)) (ad_ne hA (by decide))]; exact f
  · rw [i5 _ (ad_ne hA (by decide)) (ad_ne hA (by decide))]; exact i
  · rw [i5 _ (ad_ne hA (by decide)) (ad_ne hA (by decide))]; exact j
  · intro b hb hk
    rw [i5 b (hk 203 (by decide)) (hk 206 (by decide))]
    exact s3 b hb hk
/-- a code whose hooks are distinct: 0, 1, 2 .. -/
def cdN (ζ : Nat → Nat → Nat) : Nat → Nat
  | 0 => 0
  | k + 1 => cdN ζ k * ζ 4 0 + k
theorem cdN_lt {ζ : Nat → Nat → Nat} : ∀ k, k ≤ ζ 4 0 → 0 < ζ 4 0 → cdN ζ k < ζ 4 0 ^ k
  | 0, _, _ => by simp [cdN]
  | k + 1, hk, h0 => by
    have h := cdN_lt k (by omega) h0
    have h2 : (cdN ζ k + 1) * ζ 4 0 ≤ ζ 4 0 ^ k * ζ 4 0 := Nat.mul_le_mul_right _ h
    simp only [cdN, Nat.pow_succ]
    rw [Nat.add_mul, Nat.one_mul] at h2
    omega
theorem cdN_dg {ζ : Nat → Nat → Nat} (h0 : 0 < ζ 4 0) : ∀ k i, k ≤ ζ 4 0 → i < k → cdN ζ k / ζ 4 0 ^ i % ζ 4 0 = k - 1 - i
  | 0, _, _, h => absurd h (by omega)
  | k + 1, 0, hk, _ => by
    simp only [cdN, Nat.pow_zero, Nat.div_one]
    rw [Nat.add_comm, Nat.add_mul_mod_self_right, Nat.mod_eq_of_lt (by omega)]; omega
  | k + 1, i + 1, hk, hi => by
    have h := cdN_dg h0 k i (by omega) (by omega)
    simp only [cdN, Nat.pow_succ]
    rw [Nat.mul_comm (ζ 4 0 ^ i), ← Nat.div_div_eq_div_mul, Nat.mul_comm (cdN ζ k), Nat.mul_add_div h0, Nat.div_eq_of_lt (show k < ζ 4 0 by omega), Nat.add_zero, h]
    omega
theorem hbS_mono (ζ : Nat → Nat → Nat) (W : Nat → Nat) (c : Nat) : ∀ d, (hbS ζ W c).1 ≤ (hbS ζ W (c + d)).1
  | 0 => Int.le_refl _
  | d + 1 => by
    have h := hbS_mono ζ W c d
    show _ ≤ (hbS ζ W (c + d + 1)).1
    simp only [hbS]
    split
    · simp only; omega
    · exact h
theorem hbS_pos (ζ : Nat → Nat → Nat) (W : Nat → Nat) (h4 : 0 < ζ 4 0) (h45 : ζ 5 0 ≤ ζ 4 0) : 0 ≤ (hbS ζ W (ζ 4 0 ^ ζ 5 0)).1 := by
  have hl := cdN_lt (ζ 5 0) h45 h4
  have hi : injN (dgN ζ (cdN ζ (ζ 5 0))) (ζ 5 0) := by
    intro a ha b hb e
    unfold dgN at e
    rw [cdN_dg h4 _ _ h45 (by omega), cdN_dg h4 _ _ h45 (by omega)] at e
    omega
  have h1 : 0 ≤ (hbS ζ W (cdN ζ (ζ 5 0) + 1)).1 := by
    simp only [hbS]
    by_cases c : (hbS ζ W (cdN ζ (ζ 5 0))).1 < ↑(W (cdN ζ (ζ 5 0)))
    · rw [if_pos ⟨hi, c⟩]; simp only; omega
    · rw [if_neg (fun q => c q.2)]; omega
  have h2 := hbS_mono ζ W (cdN ζ (ζ 5 0) + 1) (ζ 4 0 ^ ζ 5 0 - (cdN ζ (ζ 5 0) + 1))
  rw [show cdN ζ (ζ 5 0) + 1 + (ζ 4 0 ^ ζ 5 0 - (cdN ζ (ζ 5 0) + 1)) = ζ 4 0 ^ ζ 5 0 by omega] at h2
  omega
set_option maxRecDepth 100000 in
set_option maxHeartbeats 400000 in
theorem q_odds (G : ssG) (h : ssH) {ad : Nat → Nat} {rv : Value} {m : Nat → Int} {ζ ρ : Nat → Nat → Nat} (n : Int) (b : Bool) (hA : ∀ k l, ad k = ad l → k = l) (ht : MT h ad rv m ζ ρ) (hz : SaOk ζ) (hV : XOk (ρ 2)) (hd : ρ 2 23 ≤ 99) (hn : -2147483648 ≤ n ∧ n < 2147483648) : ssC G mX10_odds 4 0 0 [.ref (ad 200), .int (zI n), .int (zb b)] h (mR ζ rv m ρ ad h ↑(bOdds ζ (ρ 2) n b).2 (.long (zL (bOdds ζ (ρ 2) n b).1))) := by
  refine c_of_v okX10_odds (by decide +kernel) (ls := [some (.ref (ad 200)), some (.int (zI n)), some (.int (zb b)), none]) rfl (Nat.le_of_ble_eq_true rfl) ?_
  obtain ⟨z0, z1, z2, z3, z4, z5, z6, z9, z12, z13, z14, z15, z16, z17, z18, z19, z20⟩ := id hz
  refine v_run 2 (pc' := 2) (ls' := [some (.ref (ad 200)), some (.int (zI n)), some (.int (zb b)), none]) (st' := [.int (zI 0), .ref (ad 200)]) rfl ?_
  refine v_put rfl ht.1.1 rfl rfl (Nat.le_of_ble_eq_true rfl) ?_
  generalize e1 : hset h (ad 200) _ = h1
  have q1 : MQs h ad rv (mU m 0 0) ζ ρ h1 (mU m 0 0) ρ := ⟨ht.ob hA e1, mSm.rf _, rSm.rf ρ, (frM.rf ad h).ob e1⟩
  refine v_run 2 (pc' := 7) (ls' := [some (.ref (ad 200)), some (.int (zI n)), some (.int (zb b)), none]) (st' := [.ref (ad 200), .ref (ad 200)]) rfl ?_
  refine v_get rfl q1.1.1.1 rfl ?_
  refine v_run 5 (pc' := 21) (ls' := [some (.ref (ad 200)), some (.int (zI n)), some (.int (zb b)), none]) (st' := [.int (zI 6), .int (zI n), .int (zI 1), .ref (ad 200)]) rfl ?_
  refine v_run 0 (pc' := 21) (ls' := [some (.ref (ad 200)), some (.int (zI n)), some (.int (zb b)), none]) (st' := [.int (zI 6), .int (zI n), .int (zb true), .ref (ad 200)]) rfl ?_
  refine v_callV (My := mX10_refusesDays) (As := [.int (zb true), .int (zI n), .int (zI 6)]) (rest := []) (mc := 0) (ms := 0) rfl caX10_refusesDays rfl rfl rfl q1.1.1.1 rfl rfl (q_refusesDays G _ (true) n 6 hn (by decide)) rfl rfl (Nat.le_of_ble_eq_true rfl) (by omega) ?_
  rintro _ _ ⟨rfl, rfl⟩
  refine v_run 0 (pc' := 24) (ls' := [some (.ref (ad 200)), some (.int (zI n)), some (.int (zb b)), none]) (st' := [.int (zI ↑(mWhy true n 6))]) rfl ?_
  have wy : mWhy true n 6 ≤ 6 := by unfold mWhy; split; decide; split <;> decide
  refine v_run 2 (pc' := 26) (ls' := [some (.ref (ad 200)), some (.int (zI n)), some (.int (zb b)), some (.int (zI ↑(mWhy true n 6)))]) (st' := [.int (zI ↑(mWhy true n 6))]) rfl ?_
  refine v_if_le rfl (fun c26 => ?_) (fun c26 => ?_)
  · simp (disch := omega) only [zI_lt, zI_le, zI_eq, zI_lt0, zI_le0, zI_0lt, zI_0le, zI_eq0] at c26
    have wz : mWhy true n 6 = 0 := by omega
    have w0 := mWhy_0 wz
    refine v_drop 3 (ls' := [some (.ref (ad 200)), some (.int (zI n)), some (.int (zb b)), none]) rfl ?_
    obtain ⟨t, rfl⟩ : ∃ z : Nat, n = ↑z := ⟨n.toNat, by omega⟩
    refine v_run 2 (pc' := 38) (ls' := [some (.ref (ad 200)), some (.int (zI ↑t)), some (.int (zb b)), none]) (st' := [.int (zI ↑t), .ref (ad 200)]) rfl ?_
    refine v_callV (My := mX10_storms) (As := [.int (zI ↑t)]) (rest := []) (mc := 0) (ms := 0) rfl caX10_storms rfl rfl rfl q1.1.1.1 rfl rfl (q_storms G _ t hA q1.1 hz hV hd (by omega)) rfl rfl (Nat.le_of_ble_eq_true rfl) (by omega) ?_
    rintro _ h2 ⟨rfl, mm, rr, hq, g26, g27, g28, g8⟩
    have q2 : MQs h ad rv (mU m 0 0) ζ ρ h2 mm rr := q1.tr hq
    refine v_run 0 (pc' := 41) (ls' := [some (.ref (ad 200)), some (.int (zI ↑t)), some (.int (zb b)), none]) (st' := []) rfl ?_
    have p9 : 100 ^ t ≤ 1000000000000 := Nat.le_trans (Nat.pow_le_pow_right (n := 100) (by decide) (show t ≤ 6 by omega)) (by decide)
    have p8 : 0 < 100 ^ t := Nat.pow_pos (by decide)
    have ub : sumN (sQN ζ (ρ 2) t) (2 ^ t) ≤ 384000000000000 := st_bd (by omega) (fun c => sQN_le z2 _ _ _) p9
    refine v_run 2 (pc' := 43) (ls' := [some (.ref (ad 200)), some (.int (zI ↑t)), some (.int (zb b)), none]) (st' := [.ref (ad 200), .ref (ad 200)]) rfl ?_
    refine v_get rfl q2.1.1.1 rfl ?_
    refine v_run 1 (pc' := 47) (ls' := [some (.ref (ad 200)), some (.int (zI ↑t)), some (.int (zb b)), none]) (st' := [.ref (ad 200), .long (zL (mm 27)), .ref (ad 200)]) rfl ?_
    refine v_get rfl q2.1.1.1 rfl ?_
    refine v_run 1 (pc' := 51) (ls' := [some (.ref (ad 200)), some (.int (zI ↑t)), some (.int (zb b)), none]) (st' := [.int (zb b), .long (zL (mm 26)), .long (zL (mm 27)), .ref (ad 200)]) rfl ?_
    rw [show (zL (mm 27) : Int64) = zL ↑(sumN (sQN ζ (ρ 2) t) (2 ^ t)) from by rw [g27]]
    rw [show (zL (mm 26) : Int64) = zL ((100 ^ t : Nat) : Int) from by rw [g26, Int.natCast_pow]; rfl]
    refine v_callV (My := mX10_fraction) (As := [.long (zL ↑(sumN (sQN ζ (ρ 2) t) (2 ^ t))), .long (zL ((100 ^ t : Nat) : Int)), .int (zb b)]) (rest := []) (mc := 0) (ms := 0) rfl caX10_fraction rfl rfl rfl q2.1.1.1 rfl rfl (q_fraction G _ (sumN (sQN ζ (ρ 2) t) (2 ^ t)) (100 ^ t) b q2.1.1.1 (by omega) (by omega) (p8)) rfl rfl (Nat.le_of_ble_eq_true rfl) (by omega) ?_
    rintro _ h99 ⟨rfl, e99⟩
    refine v_run 0 (pc' := 54) (ls' := [some (.ref (ad 200)), some (.int (zI ↑t)), some (.int (zb b)), none]) (st' := [.long (zL ↑(cFrac (sumN (sQN ζ (ρ 2) t) (2 ^ t)) (100 ^ t) b))]) rfl ?_
    rw [show bOdds ζ (ρ 2) ↑t b = (↑(cFrac (sumN (sQN ζ (ρ 2) t) (2 ^ t)) (100 ^ t) b), 0) from by rw [bOdds, if_neg (by omega)]; rfl]
    exact v_lret rfl rfl ⟨rfl, q2.fin hA e99⟩
  · simp (disch := omega) only [zI_lt, zI_le, zI_eq, zI_lt0, zI_le0, zI_0lt, zI_0le, zI_eq0] at c26
    refine v_run 2 (pc' := 31) (ls' := [some (.ref (ad 200)), some (.int (zI n)), some (.int (zb b)), some (.int (zI ↑(mWhy true n 6)))]) (st' := [.int (zI ↑(mWhy true n 6)), .ref (ad 200)]) rfl ?_
    refine v_callV (My := mX10_refused) (As := [.int (zI ↑(mWhy true n 6))]) (rest := []) (mc := 0) (ms := 0) rfl caX10_refused rfl rfl rfl q1.1.1.1 rfl rfl (q_refused G _ ↑(mWhy true n 6) q1.1.1.1) rfl rfl (Nat.le_of_ble_eq_true rfl) (by omega) ?_
    rintro _ h99 ⟨rfl, e99⟩
    refine v_run 0 (pc' := 34) (ls' := [some (.ref (ad 200)), some (.int (zI n)), some (.int (zb b)), some (.int (zI ↑(mWhy true n 6)))]) (st' := [.int (zI (-1))]) rfl ?_
    refine v_run 1 (pc' := 35) (ls' := [some (.ref (ad 200)), some (.int (zI n)), some (.int (zb b)), some (.int (zI ↑(mWhy true n 6)))]) (st' := [.long ((zI (-1)).toInt64)]) rfl ?_
    rw [show ((zI (-1)).toInt64 : Int64) = zL (-1) from zI_l (by decide) (by decide)]
    rw [show bOdds ζ (ρ 2) n b = (-1, mWhy true n 6) from if_pos (by omega)]
    exact v_lret rfl rfl ⟨rfl, q1.fin hA e99⟩

set_option maxRecDepth 100000 in
set_option maxHeartbeats 400000 in
theorem q_mean (G : ssG) (h : ssH) {ad : Nat → Nat} {rv : Value} {m : Nat → Int} {ζ ρ : Nat → Nat → Nat} (n : Int) (b : Bool) (hA : ∀ k l, ad k = ad l → k = l) (ht : MT h ad rv m ζ ρ) (hz : SaOk ζ) (hV : XOk (ρ 2)) (hd : ρ 2 23 ≤ 99) (hn : -2147483648 ≤ n ∧ n < 2147483648) : ssC G mX10_mean 4 0 0 [.ref (ad 200), .int (zI n), .int (zb b)] h (mR ζ rv m ρ ad h ↑(bMean ζ (ρ 2) n b).2 (.long (zL (bMean ζ (ρ 2) n b).1))) := by
  refine c_of_v okX10_mean (by decide +kernel) (ls := [some (.ref (ad 200)), some (.int (zI n)), some (.int (zb b)), none]) rfl (Nat.le_of_ble_eq_true rfl) ?_
  obtain ⟨z0, z1, z2, z3, z4, z5, z6, z9, z12, z13, z14, z15, z16, z17, z18, z19, z20⟩ := id hz
  refine v_run 2 (pc' := 2) (ls' := [some (.ref (ad 200)), some (.int (zI n)), some (.int (zb b)), none]) (st' := [.int (zI 0), .ref (ad 200)]) rfl ?_
  refine v_put rfl ht.1.1 rfl rfl (Nat.le_of_ble_eq_true rfl) ?_
  generalize e1 : hset h (ad 200) _ = h1
  have q1 : MQs h ad rv (mU m 0 0) ζ ρ h1 (mU m 0 0) ρ := ⟨ht.ob hA e1, mSm.rf _, rSm.rf ρ, (frM.rf ad h).ob e1⟩
  refine v_run 2 (pc' := 7) (ls' := [some (.ref (ad 200)), some (.int (zI n)), some (.int (zb b)), none]) (st' := [.ref (ad 200), .ref (ad 200)]) rfl ?_
  refine v_get rfl q1.1.1.1 rfl ?_
  refine v_run 5 (pc' := 21) (ls' := [some (.ref (ad 200)), some (.int (zI n)), some (.int (zb b)), none]) (st' := [.int (zI 6), .int (zI n), .int (zI 1), .ref (ad 200)]) rfl ?_
  refine v_run 0 (pc' := 21) (ls' := [some (.ref (ad 200)), some (.int (zI n)), some (.int (zb b)), none]) (st' := [.int (zI 6), .int (zI n), .int (zb true), .ref (ad 200)]) rfl ?_
  refine v_callV (My := mX10_refusesDays) (As := [.int (zb true), .int (zI n), .int (zI 6)]) (rest := []) (mc := 0) (ms := 0) rfl caX10_refusesDays rfl rfl rfl q1.1.1.1 rfl rfl (q_refusesDays G _ (true) n 6 hn (by decide)) rfl rfl (Nat.le_of_ble_eq_true rfl) (by omega) ?_
  rintro _ _ ⟨rfl, rfl⟩
  refine v_run 0 (pc' := 24) (ls' := [some (.ref (ad 200)), some (.int (zI n)), some (.int (zb b)), none]) (st' := [.int (zI ↑(mWhy true n 6))]) rfl ?_
  have wy : mWhy true n 6 ≤ 6 := by unfold mWhy; split; decide; split <;> decide
  refine v_run 2 (pc' := 26) (ls' := [some (.ref (ad 200)), some (.int (zI n)), some (.int (zb b)), some (.int (zI ↑(mWhy true n 6)))]) (st' := [.int (zI ↑(mWhy true n 6))]) rfl ?_
  refine v_if_le rfl (fun c26 => ?_) (fun c26 => ?_)
  · simp (disch := omega) only [zI_lt, zI_le, zI_eq, zI_lt0, zI_le0, zI_0lt, zI_0le, zI_eq0] at c26
    have wz : mWhy true n 6 = 0 := by omega
    have w0 := mWhy_0 wz
    refine v_drop 3 (ls' := [some (.ref (ad 200)), some (.int (zI n)), some (.int (zb b)), none]) rfl ?_
    obtain ⟨t, rfl⟩ : ∃ z : Nat, n = ↑z := ⟨n.toNat, by omega⟩
    refine v_run 2 (pc' := 38) (ls' := [some (.ref (ad 200)), some (.int (zI ↑t)), some (.int (zb b)), none]) (st' := [.int (zI ↑t), .ref (ad 200)]) rfl ?_
    refine v_callV (My := mX10_storms) (As := [.int (zI ↑t)]) (rest := []) (mc := 0) (ms := 0) rfl caX10_storms rfl rfl rfl q1.1.1.1 rfl rfl (q_storms G _ t hA q1.1 hz hV hd (by omega)) rfl rfl (Nat.le_of_ble_eq_true rfl) (by omega) ?_
    rintro _ h2 ⟨rfl, mm, rr, hq, g26, g27, g28, g8⟩
    have q2 : MQs h ad rv (mU m 0 0) ζ ρ h2 mm rr := q1.tr hq
    refine v_run 0 (pc' := 41) (ls' := [some (.ref (ad 200)), some (.int (zI ↑t)), some (.int (zb b)), none]) (st' := []) rfl ?_
    have p9 : 100 ^ t ≤ 1000000000000 := Nat.le_trans (Nat.pow_le_pow_right (n := 100) (by decide) (show t ≤ 6 by omega)) (by decide)
    have p8 : 0 < 100 ^ t := Nat.pow_pos (by decide)
    have ub : sumN (sSN ζ (ρ 2) t) (2 ^ t) ≤ 384000000000000 := st_bd (by omega) (fun c => sSN_le z2 _ _ _) p9
    refine v_run 2 (pc' := 43) (ls' := [some (.ref (ad 200)), some (.int (zI ↑t)), some (.int (zb b)), none]) (st' := [.ref (ad 200), .ref (ad 200)]) rfl ?_
    refine v_get rfl q2.1.1.1 rfl ?_
    refine v_run 1 (pc' := 47) (ls' := [some (.ref (ad 200)), some (.int (zI ↑t)), some (.int (zb b)), none]) (st' := [.ref (ad 200), .long (zL (mm 28)), .ref (ad 200)]) rfl ?_
    refine v_get rfl q2.1.1.1 rfl ?_
    refine v_run 1 (pc' := 51) (ls' := [some (.ref (ad 200)), some (.int (zI ↑t)), some (.int (zb b)), none]) (st' := [.int (zb b), .long (zL (mm 26)), .long (zL (mm 28)), .ref (ad 200)]) rfl ?_
    rw [show (zL (mm 28) : Int64) = zL ↑(sumN (sSN ζ (ρ 2) t) (2 ^ t)) from by rw [g28]]
    rw [show (zL (mm 26) : Int64) = zL ((100 ^ t : Nat) : Int) from by rw [g26, Int.natCast_pow]; rfl]
    refine v_callV (My := mX10_fraction) (As := [.long (zL ↑(sumN (sSN ζ (ρ 2) t) (2 ^ t))), .long (zL ((100 ^ t : Nat) : Int)), .int (zb b)]) (rest := []) (mc := 0) (ms := 0) rfl caX10_fraction rfl rfl rfl q2.1.1.1 rfl rfl (q_fraction G _ (sumN (sSN ζ (ρ 2) t) (2 ^ t)) (100 ^ t) b q2.1.1.1 (by omega) (by omega) (p8)) rfl rfl (Nat.le_of_ble_eq_true rfl) (by omega) ?_
    rintro _ h99 ⟨rfl, e99⟩
    refine v_run 0 (pc' := 54) (ls' := [some (.ref (ad 200)), some (.int (zI ↑t)), some (.int (zb b)), none]) (st' := [.long (zL ↑(cFrac (sumN (sSN ζ (ρ 2) t) (2 ^ t)) (100 ^ t) b))]) rfl ?_
    rw [show bMean ζ (ρ 2) ↑t b = (↑(cFrac (sumN (sSN ζ (ρ 2) t) (2 ^ t)) (100 ^ t) b), 0) from by rw [bMean, if_neg (by omega)]; rfl]
    exact v_lret rfl rfl ⟨rfl, q2.fin hA e99⟩
  · simp (disch := omega) only [zI_lt, zI_le, zI_eq, zI_lt0, zI_le0, zI_0lt, zI_0le, zI_eq0] at c26
    refine v_run 2 (pc' := 31) (ls' := [some (.ref (ad 200)), some (.int (zI n)), some (.int (zb b)), some (.int (zI ↑(mWhy true n 6)))]) (st' := [.int (zI ↑(mWhy true n 6)), .ref (ad 200)]) rfl ?_
    refine v_callV (My := mX10_refused) (As := [.int (zI ↑(mWhy true n 6))]) (rest := []) (mc := 0) (ms := 0) rfl caX10_refused rfl rfl rfl q1.1.1.1 rfl rfl (q_refused G _ ↑(mWhy true n 6) q1.1.1.1) rfl rfl (Nat.le_of_ble_eq_true rfl) (by omega) ?_
    rintro _ h99 ⟨rfl, e99⟩
    refine v_run 0 (pc' := 34) (ls' := [some (.ref (ad 200)), some (.int (zI n)), some (.int (zb b)), some (.int (zI ↑(mWhy true n 6)))]) (st' := [.int (zI (-1))]) rfl ?_
    refine v_run 1 (pc' := 35) (ls' := [some (.ref (ad 200)), some (.int (zI n)), some (.int (zb b)), some (.int (zI ↑(mWhy true n 6)))]) (st' := [.long ((zI (-1)).toInt64)]) rfl ?_
    rw [show ((zI (-1)).toInt64 : Int64) = zL (-1) from zI_l (by decide) (by decide)]
    rw [show bMean ζ (ρ 2) n b = (-1, mWhy true n 6) from if_pos (by omega)]
    exact v_lret rfl rfl ⟨rfl, q1.fin hA e99⟩

set_option maxRecDepth 100000 in
set_option maxHeartbeats 400000 in
theorem q_goodOdds (G : ssG) (h : ssH) {ad : Nat → Nat} {rv : Value} {m : Nat → Int} {ζ ρ : Nat → Nat → Nat} (s n : Int) (b : Bool) (hA : ∀ k l, ad k = ad l → k = l) (ht : MT h ad rv m ζ ρ) (hz : SaOk ζ) (hV : XOk (ρ 2)) (hd : ρ 2 23 ≤ 99) (hs : -2147483648 ≤ s ∧ s < 2147483648) (hn : -2147483648 ≤ n ∧ n < 2147483648) : ssC G mX10_goodOdds 4 0 0 [.ref (ad 200), .int (zI s), .int (zI n), .int (zb b)] h (mR ζ rv m ρ ad h ↑(bGoodOdds ζ (ρ 2) s n b).2 (.long (zL (bGoodOdds ζ (ρ 2) s n b).1))) := by
  refine c_of_v okX10_goodOdds (by decide +kernel) (ls := [some (.ref (ad 200)), some (.int (zI s)), some (.int (zI n)), some (.int (zb b)), none]) rfl (Nat.le_of_ble_eq_true rfl) ?_
  obtain ⟨z0, z1, z2, z3, z4, z5, z6, z9, z12, z13, z14, z15, z16, z17, z18, z19, z20⟩ := id hz
  refine v_run 2 (pc' := 2) (ls' := [some (.ref (ad 200)), some (.int (zI s)), some (.int (zI n)), some (.int (zb b)), none]) (st' := [.int (zI 0), .ref (ad 200)]) rfl ?_
  refine v_put rfl ht.1.1 rfl rfl (Nat.le_of_ble_eq_true rfl) ?_
  generalize e1 : hset h (ad 200) _ = h1
  have q1 : MQs h ad rv (mU m 0 0) ζ ρ h1 (mU m 0 0) ρ := ⟨ht.ob hA e1, mSm.rf _, rSm.rf ρ, (frM.rf ad h).ob e1⟩
  refine v_run 3 (pc' := 8) (ls' := [some (.ref (ad 200)), some (.int (zI s)), some (.int (zI n)), some (.int (zb b)), none]) (st' := [.int (zI s), .ref (ad 200), .ref (ad 200)]) rfl ?_
  refine v_callV (My := mX10_isSenator) (As := [.int (zI s)]) (rest := [.ref (ad 200)]) (mc := 0) (ms := 0) rfl caX10_isSenator rfl rfl rfl q1.1.1.1 rfl rfl (q_isSenator G _ s hA q1.1.1 hz q1.1.2.1 hs) rfl rfl (Nat.le_of_ble_eq_true rfl) (by omega) ?_
  rintro _ _ ⟨rfl, rfl⟩
  refine v_run 0 (pc' := 11) (ls' := [some (.ref (ad 200)), some (.int (zI s)), some (.int (zI n)), some (.int (zb b)), none]) (st' := [.int (zb (decide (0 ≤ s ∧ s < ↑(ζ 5 0)))), .ref (ad 200)]) rfl ?_
  refine v_run 2 (pc' := 14) (ls' := [some (.ref (ad 200)), some (.int (zI s)), some (.int (zI n)), some (.int (zb b)), none]) (st' := [.int (zI 6), .int (zI n), .int (zb (decide (0 ≤ s ∧ s < ↑(ζ 5 0)))), .ref (ad 200)]) rfl ?_
  refine v_callV (My := mX10_refusesDays) (As := [.int (zb (decide (0 ≤ s ∧ s < ↑(ζ 5 0)))), .int (zI n), .int (zI 6)]) (rest := []) (mc := 0) (ms := 0) rfl caX10_refusesDays rfl rfl rfl q1.1.1.1 rfl rfl (q_refusesDays G _ (decide (0 ≤ s ∧ s < ↑(ζ 5 0))) n 6 hn (by decide)) rfl rfl (Nat.le_of_ble_eq_true rfl) (by omega) ?_
  rintro _ _ ⟨rfl, rfl⟩
  refine v_run 0 (pc' := 17) (ls' := [some (.ref (ad 200)), some (.int (zI s)), some (.int (zI n)), some (.int (zb b)), none]) (st' := [.int (zI ↑(mWhy (decide (0 ≤ s ∧ s < ↑(ζ 5 0))) n 6))]) rfl ?_
  have wy : mWhy (decide (0 ≤ s ∧ s < ↑(ζ 5 0))) n 6 ≤ 6 := by unfold mWhy; split; decide; split <;> decide
  refine v_run 2 (pc' := 21) (ls' := [some (.ref (ad 200)), some (.int (zI s)), some (.int (zI n)), some (.int (zb b)), some (.int (zI ↑(mWhy (decide (0 ≤ s ∧ s < ↑(ζ 5 0))) n 6)))]) (st' := [.int (zI ↑(mWhy (decide (0 ≤ s ∧ s < ↑(ζ 5 0))) n 6))]) rfl ?_
  refine v_if_le rfl (fun c21 => ?_) (fun c21 => ?_)
  · simp (disch := omega) only [zI_lt, zI_le, zI_eq, zI_lt0, zI_le0, zI_0lt, zI_0le, zI_eq0] at c21
    have wz : mWhy (decide (0 ≤ s ∧ s < ↑(ζ 5 0))) n 6 = 0 := by omega
    have w0 := mWhy_0 wz
    rw [decide_eq_true_eq] at w0
    refine v_drop 4 (ls' := [some (.ref (ad 200)), some (.int (zI s)), some (.int (zI n)), some (.int (zb b)), none]) rfl ?_
    obtain ⟨k, rfl⟩ : ∃ z : Nat, s = ↑z := ⟨s.toNat, by omega⟩
    obtain ⟨t, rfl⟩ : ∃ z : Nat, n = ↑z := ⟨n.toNat, by omega⟩
    refine v_run 2 (pc' := 34) (ls' := [some (.ref (ad 200)), some (.int (zI ↑k)), some (.int (zI ↑t)), some (.int (zb b)), none]) (st' := [.int (zI ↑t), .ref (ad 200)]) rfl ?_
    refine v_callV (My := mX10_storms) (As := [.int (zI ↑t)]) (rest := []) (mc := 0) (ms := 0) rfl caX10_storms rfl rfl rfl q1.1.1.1 rfl rfl (q_storms G _ t hA q1.1 hz hV hd (by omega)) rfl rfl (Nat.le_of_ble_eq_true rfl) (by omega) ?_
    rintro _ h2 ⟨rfl, mm, rr, hq, g26, g27, g28, g8⟩
    have q2 : MQs h ad rv (mU m 0 0) ζ ρ h2 mm rr := q1.tr hq
    refine v_run 0 (pc' := 37) (ls' := [some (.ref (ad 200)), some (.int (zI ↑k)), some (.int (zI ↑t)), some (.int (zb b)), none]) (st' := []) rfl ?_
    have p9 : 100 ^ t ≤ 1000000000000 := Nat.le_trans (Nat.pow_le_pow_right (n := 100) (by decide) (show t ≤ 6 by omega)) (by decide)
    have p8 : 0 < 100 ^ t := Nat.pow_pos (by decide)
    have ub : sumN (sON ζ (ρ 2) t k) (2 ^ t) ≤ 384000000000000 := st_bd (by omega) (fun c => sON_le z2 _ _ _ _) p9
    refine v_run 2 (pc' := 39) (ls' := [some (.ref (ad 200)), some (.int (zI ↑k)), some (.int (zI ↑t)), some (.int (zb b)), none]) (st' := [.ref (ad 200), .ref (ad 200)]) rfl ?_
    refine v_get rfl q2.1.1.1 rfl ?_
    refine v_run 1 (pc' := 43) (ls' := [some (.ref (ad 200)), some (.int (zI ↑k)), some (.int (zI ↑t)), some (.int (zb b)), none]) (st' := [.int (zI ↑k), .ref (ad 208), .ref (ad 200)]) rfl ?_
    refine v_laload' rfl q2.1.2.2.2.2.2.2.2 (i := k) rfl (by omega) ?_
    refine v_run 1 (pc' := 45) (ls' := [some (.ref (ad 200)), some (.int (zI ↑k)), some (.int (zI ↑t)), some (.int (zb b)), none]) (st' := [.ref (ad 200), .long (zL ↑(rr 8 k)), .ref (ad 200)]) rfl ?_
    refine v_get rfl q2.1.1.1 rfl ?_
    refine v_run 1 (pc' := 49) (ls' := [some (.ref (ad 200)), some (.int (zI ↑k)), some (.int (zI ↑t)), some (.int (zb b)), none]) (st' := [.int (zb b), .long (zL (mm 26)), .long (zL ↑(rr 8 k)), .ref (ad 200)]) rfl ?_
    rw [show (zL ↑(rr 8 k) : Int64) = zL ↑(sumN (sON ζ (ρ 2) t k) (2 ^ t)) from by rw [g8 k (by omega)]]
    rw [show (zL (mm 26) : Int64) = zL ((100 ^ t : Nat) : Int) from by rw [g26, Int.natCast_pow]; rfl]
    refine v_callV (My := mX10_fraction) (As := [.long (zL ↑(sumN (sON ζ (ρ 2) t k) (2 ^ t))), .long (zL ((100 ^ t : Nat) : Int)), .int (zb b)]) (rest := []) (mc := 0) (ms := 0) rfl caX10_fraction rfl rfl rfl q2.1.1.1 rfl rfl (q_fraction G _ (sumN (sON ζ (ρ 2) t k) (2 ^ t)) (100 ^ t) b q2.1.1.1 (by omega) (by omega) (p8)) rfl rfl (Nat.le_of_ble_eq_true rfl) (by omega) ?_
    rintro _ h99 ⟨rfl, e99⟩
    refine v_run 0 (pc' := 52) (ls' := [some (.ref (ad 200)), some (.int (zI ↑k)), some (.int (zI ↑t)), some (.int (zb b)), none]) (st' := [.long (zL ↑(cFrac (sumN (sON ζ (ρ 2) t k) (2 ^ t)) (100 ^ t) b))]) rfl ?_
    rw [show bGoodOdds ζ (ρ 2) ↑k ↑t b = (↑(cFrac (sumN (sON ζ (ρ 2) t k) (2 ^ t)) (100 ^ t) b), 0) from by rw [bGoodOdds, if_neg (by omega)]; rfl]
    exact v_lret rfl rfl ⟨rfl, q2.fin hA e99⟩
  · simp (disch := omega) only [zI_lt, zI_le, zI_eq, zI_lt0, zI_le0, zI_0lt, zI_0le, zI_eq0] at c21
    refine v_run 2 (pc' := 27) (ls' := [some (.ref (ad 200)), some (.int (zI s)), some (.int (zI n)), some (.int (zb b)), some (.int (zI ↑(mWhy (decide (0 ≤ s ∧ s < ↑(ζ 5 0))) n 6)))]) (st' := [.int (zI ↑(mWhy (decide (0 ≤ s ∧ s < ↑(ζ 5 0))) n 6)), .ref (ad 200)]) rfl ?_
    refine v_callV (My := mX10_refused) (As := [.int (zI ↑(mWhy (decide (0 ≤ s ∧ s < ↑(ζ 5 0))) n 6))]) (rest := []) (mc := 0) (ms := 0) rfl caX10_refused rfl rfl rfl q1.1.1.1 rfl rfl (q_refused G _ ↑(mWhy (decide (0 ≤ s ∧ s < ↑(ζ 5 0))) n 6) q1.1.1.1) rfl rfl (Nat.le_of_ble_eq_true rfl) (by omega) ?_
    rintro _ h99 ⟨rfl, e99⟩
    refine v_run 0 (pc' := 30) (ls' := [some (.ref (ad 200)), some (.int (zI s)), some (.int (zI n)), some (.int (zb b)), some (.int (zI ↑(mWhy (decide (0 ≤ s ∧ s < ↑(ζ 5 0))) n 6)))]) (st' := [.int (zI (-1))]) rfl ?_
    refine v_run 1 (pc' := 31) (ls' := [some (.ref (ad 200)), some (.int (zI s)), some (.int (zI n)), some (.int (zb b)), some (.int (zI ↑(mWhy (decide (0 ≤ s ∧ s < ↑(ζ 5 0))) n 6)))]) (st' := [.long ((zI (-1)).toInt64)]) rfl ?_
    rw [show ((zI (-1)).toInt64 : Int64) = zL (-1) from zI_l (by decide) (by decide)]
    rw [show bGoodOdds ζ (ρ 2) s n b = (-1, mWhy (decide (0 ≤ s ∧ s < ↑(ζ 5 0))) n 6) from if_pos (by omega)]
    exact v_lret rfl rfl ⟨rfl, q1.fin hA e99⟩

set_option maxRecDepth 100000 in
set_option maxHeartbeats 400000 in
theorem q_power (G : ssG) (h : ssH) {ad : Nat → Nat} {rv : Value} {m : Nat → Int} {ζ ρ : Nat → Nat → Nat} (s : Int) (b : Bool) (hA : ∀ k l, ad k = ad l → k = l) (ht : MT h ad rv m ζ ρ) (hz : SaOk ζ) (hV : XOk (ρ 2)) (hd : ρ 2 23 ≤ 99) (hs : -2147483648 ≤ s ∧ s < 2147483648) : ssC G mX10_power 4 0 0 [.ref (ad 200), .int (zI s), .int (zb b)] h (mR ζ rv m ρ ad h ↑(bPower ζ (ρ 2) s b).2 (.long (zL (bPower ζ (ρ 2) s b).1))) := by
  refine c_of_v okX10_power (by decide +kernel) (ls := [some (.ref (ad 200)), some (.int (zI s)), some (.int (zb b))]) rfl (Nat.le_of_ble_eq_true rfl) ?_
  obtain ⟨z0, z1, z2, z3, z4, z5, z6, z9, z12, z13, z14, z15, z16, z17, z18, z19, z20⟩ := id hz
  refine v_run 2 (pc' := 2) (ls' := [some (.ref (ad 200)), some (.int (zI s)), some (.int (zb b))]) (st' := [.int (zI 0), .ref (ad 200)]) rfl ?_
  refine v_put rfl ht.1.1 rfl rfl (Nat.le_of_ble_eq_true rfl) ?_
  generalize e1 : hset h (ad 200) _ = h1
  have q1 : MQs h ad rv (mU m 0 0) ζ ρ h1 (mU m 0 0) ρ := ⟨ht.ob hA e1, mSm.rf _, rSm.rf ρ, (frM.rf ad h).ob e1⟩
  refine v_run 2 (pc' := 7) (ls' := [some (.ref (ad 200)), some (.int (zI s)), some (.int (zb b))]) (st' := [.int (zI s), .ref (ad 200)]) rfl ?_
  refine v_callV (My := mX10_isSenator) (As := [.int (zI s)]) (rest := []) (mc := 0) (ms := 0) rfl caX10_isSenator rfl rfl rfl q1.1.1.1 rfl rfl (q_isSenator G _ s hA q1.1.1 hz q1.1.2.1 hs) rfl rfl (Nat.le_of_ble_eq_true rfl) (by omega) ?_
  rintro _ _ ⟨rfl, rfl⟩
  refine v_run 0 (pc' := 10) (ls' := [some (.ref (ad 200)), some (.int (zI s)), some (.int (zb b))]) (st' := [.int (zb (decide (0 ≤ s ∧ s < ↑(ζ 5 0))))]) rfl ?_
  refine v_if_ne rfl (fun c10 => ?_) (fun c10 => ?_)
  · rw [zb_0, Bool.not_eq_false, decide_eq_true_eq] at c10
    have hs9 := c10
    obtain ⟨k, rfl⟩ : ∃ z : Nat, s = ↑z := ⟨s.toNat, by omega⟩
    refine v_run 1 (pc' := 21) (ls' := [some (.ref (ad 200)), some (.int (zI ↑k)), some (.int (zb b))]) (st' := [.ref (ad 200)]) rfl ?_
    refine v_callV (My := mX10_works) (As := []) (rest := []) (mc := 0) (ms := 0) rfl caX10_works rfl rfl rfl q1.1.1.1 rfl rfl (q_works G _ hA q1.1.1 hz q1.1.2.1 q1.1.2.2.1 hV) rfl rfl (Nat.le_of_ble_eq_true rfl) (by omega) ?_
    rintro _ h2 ⟨rfl, e2⟩
    have q2 : MQs h ad rv (mU m 0 0) ζ ρ h2 (mU m 0 0) (rU ρ 3 (ρ 2)) := q1.xs hA e2 (hV)
    refine v_run 0 (pc' := 24) (ls' := [some (.ref (ad 200)), some (.int (zI ↑k)), some (.int (zb b))]) (st' := []) rfl ?_
    have l12 := hV.2.2.1 k (by omega)
    refine v_run 1 (pc' := 25) (ls' := [some (.ref (ad 200)), some (.int (zI ↑k)), some (.int (zb b))]) (st' := [.ref (ad 200)]) rfl ?_
    refine v_get rfl q2.1.1.1 rfl ?_
    refine v_run 3 (pc' := 32) (ls' := [some (.ref (ad 200)), some (.int (zI ↑k)), some (.int (zb b))]) (st' := [.int ((zI 12) + (zI ↑k)), .ref (ad 202)]) rfl ?_
    refine v_iaload' rfl q2.1.2.2.1 (i := (12 + k)) (zN_add 12 k) (by omega) ?_
    refine v_run 0 (pc' := 33) (ls' := [some (.ref (ad 200)), some (.int (zI ↑k)), some (.int (zb b))]) (st' := [.int (zI ↑(ρ 2 (12 + k)))]) rfl ?_
    refine v_if_ne rfl (fun c33 => ?_) (fun c33 => ?_)
    · simp (disch := omega) only [zI_lt, zI_le, zI_eq, zI_lt0, zI_le0, zI_0lt, zI_0le, zI_eq0] at c33
      refine v_run 3 (pc' := 46) (ls' := [some (.ref (ad 200)), some (.int (zI ↑k)), some (.int (zb b))]) (st' := [.int (zI ↑k), .ref (ad 200), .ref (ad 200)]) rfl ?_
      refine v_callV (My := mX10_turns) (As := [.int (zI ↑k)]) (rest := [.ref (ad 200)]) (mc := 0) (ms := 0) rfl caX10_turns rfl rfl rfl q2.1.1.1 rfl rfl (q_turns G _ k hA q2.1.1 hz q2.1.2.1 q2.1.2.2.1 hV (by omega)) rfl rfl (Nat.le_of_ble_eq_true rfl) (by omega) ?_
      rintro _ h3 ⟨rfl, e3⟩
      have q3 : MQs h ad rv (mU m 0 0) ζ ρ h3 (mU m 0 0) (rU ρ 3 (ρ 2)) := q2.xs hA e3 (hV)
      refine v_run 0 (pc' := 49) (ls' := [some (.ref (ad 200)), some (.int (zI ↑k)), some (.int (zb b))]) (st' := [.int (zI ↑(mTu ζ (mG ζ (ρ 2)) k)), .ref (ad 200)]) rfl ?_
      have tl := mTu_le ζ (mG ζ (ρ 2)) k z5
      have g64 : mG ζ (ρ 2) < 64 := setN_lt64 _ z5
      have pp : 1 ≤ popN (mG ζ (ρ 2)) := popN_pos (k := k) (by omega) (by rw [mG, setN_bit, if_pos ⟨by omega, by simp; omega⟩]; decide)
      have pl := popN_le (mG ζ (ρ 2))
      refine v_run 1 (pc' := 50) (ls' := [some (.ref (ad 200)), some (.int (zI ↑k)), some (.int (zb b))]) (st' := [.long ((zI ↑(mTu ζ (mG ζ (ρ 2)) k)).toInt64), .ref (ad 200)]) rfl ?_
      rw [show ((zI ↑(mTu ζ (mG ζ (ρ 2)) k)).toInt64 : Int64) = zL ↑(mTu ζ (mG ζ (ρ 2)) k) from zI_l (by omega) (by omega)]
      refine v_run 2 (pc' := 52) (ls' := [some (.ref (ad 200)), some (.int (zI ↑k)), some (.int (zb b))]) (st' := [.ref (ad 200), .long (zL 1), .long (zL ↑(mTu ζ (mG ζ (ρ 2)) k)), .ref (ad 200)]) rfl ?_
      refine v_callV (My := mX10_goodNow) (As := []) (rest := [.long (zL 1), .long (zL ↑(mTu ζ (mG ζ (ρ 2)) k)), .ref (ad 200)]) (mc := 0) (ms := 0) rfl caX10_goodNow rfl rfl rfl q3.1.1.1 rfl rfl (q_goodNow G _ hA q3.1.1 hz q3.1.2.1) rfl rfl (Nat.le_of_ble_eq_true rfl) (by omega) ?_
      rintro _ _ ⟨rfl, rfl⟩
      refine v_run 0 (pc' := 55) (ls' := [some (.ref (ad 200)), some (.int (zI ↑k)), some (.int (zb b))]) (st' := [.int (zI ↑(mG ζ (ρ 2))), .long (zL 1), .long (zL ↑(mTu ζ (mG ζ (ρ 2)) k)), .ref (ad 200)]) rfl ?_
      refine v_callS (My := mX10_bits) (As := [.int (zI ↑(mG ζ (ρ 2)))]) (rest := [.long (zL 1), .long (zL ↑(mTu ζ (mG ζ (ρ 2)) k)), .ref (ad 200)]) (mc := 0) (ms := 0) rfl caX10_bits rfl rfl (q_bits G _ (mG ζ (ρ 2)) g64) rfl rfl (Nat.le_of_ble_eq_true rfl) (by omega) ?_
      rintro _ _ ⟨rfl, rfl⟩
      refine v_run 0 (pc' := 58) (ls' := [some (.ref (ad 200)), some (.int (zI ↑k)), some (.int (zb b))]) (st' := [.int (zI ↑(popN (mG ζ (ρ 2)))), .long (zL 1), .long (zL ↑(mTu ζ (mG ζ (ρ 2)) k)), .ref (ad 200)]) rfl ?_
      refine v_run 3 (pc' := 61) (ls' := [some (.ref (ad 200)), some (.int (zI ↑k)), some (.int (zb b))]) (st' := [.long ((zL 1) <<< (((zI ↑(popN (mG ζ (ρ 2)))) - (zI 1)).toInt64 &&& 63)), .long (zL ↑(mTu ζ (mG ζ (ρ 2)) k)), .ref (ad 200)]) rfl ?_
      rw [show ((zL 1) <<< (((zI ↑(popN (mG ζ (ρ 2)))) - (zI 1)).toInt64 &&& 63) : Int64) = zL ((2 ^ (popN (mG ζ (ρ 2)) - 1) : Nat) : Int) from by rw [show zI 1 = zI ((1 : Nat) : Int) from rfl, zN_sub (by omega)]; exact zL_shl (by omega)]
      refine v_run 1 (pc' := 62) (ls' := [some (.ref (ad 200)), some (.int (zI ↑k)), some (.int (zb b))]) (st' := [.int (zb b), .long (zL ((2 ^ (popN (mG ζ (ρ 2)) - 1) : Nat) : Int)), .long (zL ↑(mTu ζ (mG ζ (ρ 2)) k)), .ref (ad 200)]) rfl ?_
      have p8 : 2 ^ (popN (mG ζ (ρ 2)) - 1) ≤ 2 ^ 5 := Nat.pow_le_pow_right (n := 2) (by decide) (by omega)
      refine v_callV (My := mX10_fraction) (As := [.long (zL ↑(mTu ζ (mG ζ (ρ 2)) k)), .long (zL ((2 ^ (popN (mG ζ (ρ 2)) - 1) : Nat) : Int)), .int (zb b)]) (rest := []) (mc := 0) (ms := 0) rfl caX10_fraction rfl rfl rfl q3.1.1.1 rfl rfl (q_fraction G _ (mTu ζ (mG ζ (ρ 2)) k) (2 ^ (popN (mG ζ (ρ 2)) - 1)) b q3.1.1.1 (by omega) (by omega) (Nat.two_pow_pos _)) rfl rfl (Nat.le_of_ble_eq_true rfl) (by omega) ?_
      rintro _ h99 ⟨rfl, e99⟩
      refine v_run 0 (pc' := 65) (ls' := [some (.ref (ad 200)), some (.int (zI ↑k)), some (.int (zb b))]) (st' := [.long (zL ↑(cFrac (mTu ζ (mG ζ (ρ 2)) k) (2 ^ (popN (mG ζ (ρ 2)) - 1)) b))]) rfl ?_
      rw [show bPower ζ (ρ 2) ↑k b = (↑(cFrac (mTu ζ (mG ζ (ρ 2)) k) (2 ^ (popN (mG ζ (ρ 2)) - 1)) b), 0) from by rw [bPower, if_neg (by simpa using hs9), if_neg (by simp only [Int.toNat_natCast]; omega)]; rfl]
      exact v_lret rfl rfl ⟨rfl, q3.fin hA e99⟩
    · simp (disch := omega) only [zI_lt, zI_le, zI_eq, zI_lt0, zI_le0, zI_0lt, zI_0le, zI_eq0] at c33
      refine v_run 2 (pc' := 38) (ls' := [some (.ref (ad 200)), some (.int (zI ↑k)), some (.int (zb b))]) (st' := [.int (zI 5), .ref (ad 200)]) rfl ?_
      refine v_callV (My := mX10_refused) (As := [.int (zI 5)]) (rest := []) (mc := 0) (ms := 0) rfl caX10_refused rfl rfl rfl q2.1.1.1 rfl rfl (q_refused G _ 5 q2.1.1.1) rfl rfl (Nat.le_of_ble_eq_true rfl) (by omega) ?_
      rintro _ h99 ⟨rfl, e99⟩
      refine v_run 0 (pc' := 41) (ls' := [some (.ref (ad 200)), some (.int (zI ↑k)), some (.int (zb b))]) (st' := [.int (zI (-1))]) rfl ?_
      refine v_run 1 (pc' := 42) (ls' := [some (.ref (ad 200)), some (.int (zI ↑k)), some (.int (zb b))]) (st' := [.long ((zI (-1)).toInt64)]) rfl ?_
      rw [show ((zI (-1)).toInt64 : Int64) = zL (-1) from zI_l (by decide) (by decide)]
      rw [show bPower ζ (ρ 2) ↑k b = (-1, 5) from by rw [bPower, if_neg (by simpa using hs9), if_pos (by simp only [Int.toNat_natCast]; omega)]]
      exact v_lret rfl rfl ⟨rfl, q2.fin hA e99⟩
  · rw [zb_0, decide_eq_false_iff_not] at c10
    refine v_run 2 (pc' := 15) (ls' := [some (.ref (ad 200)), some (.int (zI s)), some (.int (zb b))]) (st' := [.int (zI 1), .ref (ad 200)]) rfl ?_
    refine v_callV (My := mX10_refused) (As := [.int (zI 1)]) (rest := []) (mc := 0) (ms := 0) rfl caX10_refused rfl rfl rfl q1.1.1.1 rfl rfl (q_refused G _ 1 q1.1.1.1) rfl rfl (Nat.le_of_ble_eq_true rfl) (by omega) ?_
    rintro _ h99 ⟨rfl, e99⟩
    refine v_run 0 (pc' := 18) (ls' := [some (.ref (ad 200)), some (.int (zI s)), some (.int (zb b))]) (st' := [.int (zI (-1))]) rfl ?_
    refine v_run 1 (pc' := 19) (ls' := [some (.ref (ad 200)), some (.int (zI s)), some (.int (zb b))]) (st' := [.long ((zI (-1)).toInt64)]) rfl ?_
    rw [show ((zI (-1)).toInt64 : Int64) = zL (-1) from zI_l (by decide) (by decide)]
    rw [show bPower ζ (ρ 2) s b = (-1, 1) from if_pos c10]
    exact v_lret rfl rfl ⟨rfl, q1.fin hA e99⟩

set_option maxRecDepth 100000 in
set_option maxHeartbeats 400000 in
theorem q_hang (G : ssG) (h : ssH) {ad : Nat → Nat} {rv : Value} {m : Nat → Int} {ζ ρ : Nat → Nat → Nat} (n : Int) (hA : ∀ k l, ad k = ad l → k = l) (ht : MT h ad rv m ζ ρ) (hz : SaOk ζ) (hV : XOk (ρ 2)) (hd : ρ 2 23 ≤ 99) (hn : -2147483648 ≤ n ∧ n < 2147483648) (h4 : 0 < ζ 4 0) : ssC G mX10_hang 5 0 0 [.ref (ad 200), .int (zI n)] h (mR ζ rv m ρ ad h ↑(bHang ζ (ρ 2) n).2 (.int (zI (bHang ζ (ρ 2) n).1))) := by
  refine c_of_v okX10_hang (by decide +kernel) (ls := [some (.ref (ad 200)), some (.int (zI n)), none]) rfl (Nat.le_of_ble_eq_true rfl) ?_
  obtain ⟨z0, z1, z2, z3, z4, z5, z6, z9, z12, z13, z14, z15, z16, z17, z18, z19, z20⟩ := id hz
  refine v_run 2 (pc' := 2) (ls' := [some (.ref (ad 200)), some (.int (zI n)), none]) (st' := [.int (zI 0), .ref (ad 200)]) rfl ?_
  refine v_put rfl ht.1.1 rfl rfl (Nat.le_of_ble_eq_true rfl) ?_
  generalize e1 : hset h (ad 200) _ = h1
  have q1 : MQs h ad rv (mU m 0 0) ζ ρ h1 (mU m 0 0) ρ := ⟨ht.ob hA e1, mSm.rf _, rSm.rf ρ, (frM.rf ad h).ob e1⟩
  refine v_run 2 (pc' := 7) (ls' := [some (.ref (ad 200)), some (.int (zI n)), none]) (st' := [.ref (ad 200), .ref (ad 200)]) rfl ?_
  refine v_get rfl q1.1.1.1 rfl ?_
  refine v_run 5 (pc' := 21) (ls' := [some (.ref (ad 200)), some (.int (zI n)), none]) (st' := [.int (zI 60), .int (zI n), .int (zI 1), .ref (ad 200)]) rfl ?_
  refine v_run 0 (pc' := 21) (ls' := [some (.ref (ad 200)), some (.int (zI n)), none]) (st' := [.int (zI 60), .int (zI n), .int (zb true), .ref (ad 200)]) rfl ?_
  refine v_callV (My := mX10_refusesDays) (As := [.int (zb true), .int (zI n), .int (zI 60)]) (rest := []) (mc := 0) (ms := 0) rfl caX10_refusesDays rfl rfl rfl q1.1.1.1 rfl rfl (q_refusesDays G _ (true) n 60 hn (by decide)) rfl rfl (Nat.le_of_ble_eq_true rfl) (by omega) ?_
  rintro _ _ ⟨rfl, rfl⟩
  refine v_run 0 (pc' := 24) (ls' := [some (.ref (ad 200)), some (.int (zI n)), none]) (st' := [.int (zI ↑(mWhy true n 60))]) rfl ?_
  have wy : mWhy true n 60 ≤ 6 := by unfold mWhy; split; decide; split <;> decide
  refine v_run 2 (pc' := 26) (ls' := [some (.ref (ad 200)), some (.int (zI n)), some (.int (zI ↑(mWhy true n 60)))]) (st' := [.int (zI ↑(mWhy true n 60))]) rfl ?_
  refine v_if_le rfl (fun c26 => ?_) (fun c26 => ?_)
  · simp (disch := omega) only [zI_lt, zI_le, zI_eq, zI_lt0, zI_le0, zI_0lt, zI_0le, zI_eq0] at c26
    have wz : mWhy true n 60 = 0 := by omega
    have w0 := mWhy_0 wz
    refine v_drop 2 (ls' := [some (.ref (ad 200)), some (.int (zI n)), none]) rfl ?_
    obtain ⟨t, rfl⟩ : ∃ z : Nat, n = ↑z := ⟨n.toNat, by omega⟩
    refine v_run 3 (pc' := 40) (ls' := [some (.ref (ad 200)), some (.int (zI ↑t)), none]) (st' := [.int (zI ↑t), .ref (ad 200), .ref (ad 200)]) rfl ?_
    refine v_callV (My := mX10_hangsBest) (As := [.int (zI ↑t)]) (rest := [.ref (ad 200)]) (mc := 0) (ms := 0) rfl caX10_hangsBest rfl rfl rfl q1.1.1.1 rfl rfl (q_hangsBestN G _ t hA q1.1.1 hz q1.1.2.1 q1.1.2.2.1 hV q1.1.2.2.2.2.2.1 h4 hd (by omega)) rfl rfl (Nat.le_of_ble_eq_true rfl) (by omega) ?_
    rintro _ h4 ⟨rfl, hbi⟩
    obtain ⟨Y4, B4, q4, hB4⟩ := q1.hb hA hbi
    refine v_run 0 (pc' := 43) (ls' := [some (.ref (ad 200)), some (.int (zI ↑t)), none]) (st' := [.int (zI (hbS ζ (hbW ζ (ρ 2) ↑t) (ζ 4 0 ^ ζ 5 0)).1), .ref (ad 200)]) rfl ?_
    refine v_callV (My := mX10_well) (As := [.int (zI (hbS ζ (hbW ζ (ρ 2) ↑t) (ζ 4 0 ^ ζ 5 0)).1)]) (rest := []) (mc := 0) (ms := 0) rfl caX10_well rfl rfl rfl q4.1.1.1 rfl rfl (q_well G _ ((zI (hbS ζ (hbW ζ (ρ 2) ↑t) (ζ 4 0 ^ ζ 5 0)).1)) q4.1.1.1) rfl rfl (Nat.le_of_ble_eq_true rfl) (by omega) ?_
    rintro _ h99 ⟨rfl, e99⟩
    refine v_run 0 (pc' := 46) (ls' := [some (.ref (ad 200)), some (.int (zI ↑t)), none]) (st' := [.int ((zI (hbS ζ (hbW ζ (ρ 2) ↑t) (ζ 4 0 ^ ζ 5 0)).1))]) rfl ?_
    rw [show bHang ζ (ρ 2) ↑t = ((hbS ζ (hbW ζ (ρ 2) ↑t) (ζ 4 0 ^ ζ 5 0)).1, 0) from by rw [bHang, if_neg (by omega)]]
    exact v_iret rfl rfl rfl ⟨rfl, q4.fin hA e99⟩
  · simp (disch := omega) only [zI_lt, zI_le, zI_eq, zI_lt0, zI_le0, zI_0lt, zI_0le, zI_eq0] at c26
    refine v_run 2 (pc' := 31) (ls' := [some (.ref (ad 200)), some (.int (zI n)), some (.int (zI ↑(mWhy true n 60)))]) (st' := [.int (zI ↑(mWhy true n 60)), .ref (ad 200)]) rfl ?_
    refine v_callV (My := mX10_refused) (As := [.int (zI ↑(mWhy true n 60))]) (rest := []) (mc := 0) (ms := 0) rfl caX10_refused rfl rfl rfl q1.1.1.1 rfl rfl (q_refused G _ ↑(mWhy true n 60) q1.1.1.1) rfl rfl (Nat.le_of_ble_eq_true rfl) (by omega) ?_
    rintro _ h99 ⟨rfl, e99⟩
    refine v_run 0 (pc' := 34) (ls' := [some (.ref (ad 200)), some (.int (zI n)), some (.int (zI ↑(mWhy true n 60)))]) (st' := [.int (zI (-1))]) rfl ?_
    refine v_run 1 (pc' := 46) (ls' := [some (.ref (ad 200)), some (.int (zI n)), some (.int (zI ↑(mWhy true n 60)))]) (st' := [.int (zI (-1))]) rfl ?_
    rw [show bHang ζ (ρ 2) n = (-1, mWhy true n 60) from if_pos (by omega)]
    exact v_iret rfl rfl rfl ⟨rfl, q1.fin hA e99⟩

set_option maxRecDepth 100000 in
set_option maxHeartbeats 400000 in
theorem q_longest (G : ssG) (h : ssH) {ad : Nat → Nat} {rv : Value} {m : Nat → Int} {ζ ρ : Nat → Nat → Nat}  (hA : ∀ k l, ad k = ad l → k = l) (ht : MT h ad rv m ζ ρ) (hz : SaOk ζ) (hV : XOk (ρ 2)) (hd : ρ 2 23 ≤ 99)  (h4 : 0 < ζ 4 0) : ssC G mX10_longest 5 0 0 [.ref (ad 200)] h (mR ζ rv m ρ ad h ↑(bLongest ζ (ρ 2)).2 (.int (zI (bLongest ζ (ρ 2)).1))) := by
  refine c_of_v okX10_longest (by decide +kernel) (ls := [some (.ref (ad 200))]) rfl (Nat.le_of_ble_eq_true rfl) ?_
  obtain ⟨z0, z1, z2, z3, z4, z5, z6, z9, z12, z13, z14, z15, z16, z17, z18, z19, z20⟩ := id hz
  refine v_run 2 (pc' := 2) (ls' := [some (.ref (ad 200))]) (st' := [.int (zI 0), .ref (ad 200)]) rfl ?_
  refine v_put rfl ht.1.1 rfl rfl (Nat.le_of_ble_eq_true rfl) ?_
  generalize e1 : hset h (ad 200) _ = h1
  have q1 : MQs h ad rv (mU m 0 0) ζ ρ h1 (mU m 0 0) ρ := ⟨ht.ob hA e1, mSm.rf _, rSm.rf ρ, (frM.rf ad h).ob e1⟩
  refine v_run 1 (pc' := 6) (ls' := [some (.ref (ad 200))]) (st' := [.ref (ad 200)]) rfl ?_
  refine v_get rfl q1.1.1.1 rfl ?_
  refine v_run 4 (pc' := 23) (ls' := [some (.ref (ad 200))]) (st' := [.int (zI (-1)), .ref (ad 200), .ref (ad 200)]) rfl ?_
  refine v_callV (My := mX10_hangsBest) (As := [.int (zI (-1))]) (rest := [.ref (ad 200)]) (mc := 0) (ms := 0) rfl caX10_hangsBest rfl rfl rfl q1.1.1.1 rfl rfl (q_hangsBestL G _ hA q1.1.1 hz q1.1.2.1 q1.1.2.2.1 hV q1.1.2.2.2.2.2.1 h4 hd) rfl rfl (Nat.le_of_ble_eq_true rfl) (by omega) ?_
  rintro _ h5 ⟨rfl, hbi⟩
  obtain ⟨Y5, B5, q5, hB5⟩ := q1.hb hA hbi
  refine v_run 0 (pc' := 26) (ls' := [some (.ref (ad 200))]) (st' := [.int (zI (hbS ζ (hbW ζ (ρ 2) (-1)) (ζ 4 0 ^ ζ 5 0)).1), .ref (ad 200)]) rfl ?_
  refine v_callV (My := mX10_well) (As := [.int (zI (hbS ζ (hbW ζ (ρ 2) (-1)) (ζ 4 0 ^ ζ 5 0)).1)]) (rest := []) (mc := 0) (ms := 0) rfl caX10_well rfl rfl rfl q5.1.1.1 rfl rfl (q_well G _ ((zI (hbS ζ (hbW ζ (ρ 2) (-1)) (ζ 4 0 ^ ζ 5 0)).1)) q5.1.1.1) rfl rfl (Nat.le_of_ble_eq_true rfl) (by omega) ?_
  rintro _ h99 ⟨rfl, e99⟩
  refine v_run 0 (pc' := 29) (ls' := [some (.ref (ad 200))]) (st' := [.int ((zI (hbS ζ (hbW ζ (ρ 2) (-1)) (ζ 4 0 ^ ζ 5 0)).1))]) rfl ?_
  rw [show bLongest ζ (ρ 2) = ((hbS ζ (hbW ζ (ρ 2) (-1)) (ζ 4 0 ^ ζ 5 0)).1, 0) from rfl]
  exact v_iret rfl rfl rfl ⟨rfl, q5.fin hA e99⟩

set_option maxRecDepth 100000 in
set_option maxHeartbeats 400000 in
theorem q_hangAt (G : ssG) (h : ssH) {ad : Nat → Nat} {rv : Value} {m : Nat → Int} {ζ ρ : Nat → Nat → Nat} (s n : Int) (hA : ∀ k l, ad k = ad l → k = l) (ht : MT h ad rv m ζ ρ) (hz : SaOk ζ) (hV : XOk (ρ 2)) (hd : ρ 2 23 ≤ 99) (hs : -2147483648 ≤ s ∧ s < 2147483648) (hn : -2147483648 ≤ n ∧ n < 2147483648) (h4 : 0 < ζ 4 0) (h45 : ζ 5 0 ≤ ζ 4 0) : ssC G mX10_hangAt 5 0 0 [.ref (ad 200), .int (zI s), .int (zI n)] h (mR ζ rv m ρ ad h ↑(bHangAt ζ (ρ 2) s n).2 (.int (zI (bHangAt ζ (ρ 2) s n).1))) := by
  refine c_of_v okX10_hangAt (by decide +kernel) (ls := [some (.ref (ad 200)), some (.int (zI s)), some (.int (zI n)), none]) rfl (Nat.le_of_ble_eq_true rfl) ?_
  obtain ⟨z0, z1, z2, z3, z4, z5, z6, z9, z12, z13, z14, z15, z16, z17, z18, z19, z20⟩ := id hz
  refine v_run 2 (pc' := 2) (ls' := [some (.ref (ad 200)), some (.int (zI s)), some (.int (zI n)), none]) (st' := [.int (zI 0), .ref (ad 200)]) rfl ?_
  refine v_put rfl ht.1.1 rfl rfl (Nat.le_of_ble_eq_true rfl) ?_
  generalize e1 : hset h (ad 200) _ = h1
  have q1 : MQs h ad rv (mU m 0 0) ζ ρ h1 (mU m 0 0) ρ := ⟨ht.ob hA e1, mSm.rf _, rSm.rf ρ, (frM.rf ad h).ob e1⟩
  refine v_run 3 (pc' := 8) (ls' := [some (.ref (ad 200)), some (.int (zI s)), some (.int (zI n)), none]) (st' := [.int (zI s), .ref (ad 200), .ref (ad 200)]) rfl ?_
  refine v_callV (My := mX10_isSenator) (As := [.int (zI s)]) (rest := [.ref (ad 200)]) (mc := 0) (ms := 0) rfl caX10_isSenator rfl rfl rfl q1.1.1.1 rfl rfl (q_isSenator G _ s hA q1.1.1 hz q1.1.2.1 hs) rfl rfl (Nat.le_of_ble_eq_true rfl) (by omega) ?_
  rintro _ _ ⟨rfl, rfl⟩
  refine v_run 0 (pc' := 11) (ls' := [some (.ref (ad 200)), some (.int (zI s)), some (.int (zI n)), none]) (st' := [.int (zb (decide (0 ≤ s ∧ s < ↑(ζ 5 0)))), .ref (ad 200)]) rfl ?_
  refine v_run 2 (pc' := 14) (ls' := [some (.ref (ad 200)), some (.int (zI s)), some (.int (zI n)), none]) (st' := [.int (zI 60), .int (zI n), .int (zb (decide (0 ≤ s ∧ s < ↑(ζ 5 0)))), .ref (ad 200)]) rfl ?_
  refine v_callV (My := mX10_refusesDays) (As := [.int (zb (decide (0 ≤ s ∧ s < ↑(ζ 5 0)))), .int (zI n), .int (zI 60)]) (rest := []) (mc := 0) (ms := 0) rfl caX10_refusesDays rfl rfl rfl q1.1.1.1 rfl rfl (q_refusesDays G _ (decide (0 ≤ s ∧ s < ↑(ζ 5 0))) n 60 hn (by decide)) rfl rfl (Nat.le_of_ble_eq_true rfl) (by omega) ?_
  rintro _ _ ⟨rfl, rfl⟩
  refine v_run 0 (pc' := 17) (ls' := [some (.ref (ad 200)), some (.int (zI s)), some (.int (zI n)), none]) (st' := [.int (zI ↑(mWhy (decide (0 ≤ s ∧ s < ↑(ζ 5 0))) n 60))]) rfl ?_
  have wy : mWhy (decide (0 ≤ s ∧ s < ↑(ζ 5 0))) n 60 ≤ 6 := by unfold mWhy; split; decide; split <;> decide
  refine v_run 2 (pc' := 19) (ls' := [some (.ref (ad 200)), some (.int (zI s)), some (.int (zI n)), some (.int (zI ↑(mWhy (decide (0 ≤ s ∧ s < ↑(ζ 5 0))) n 60)))]) (st' := [.int (zI ↑(mWhy (decide (0 ≤ s ∧ s < ↑(ζ 5 0))) n 60))]) rfl ?_
  refine v_if_le rfl (fun c19 => ?_) (fun c19 => ?_)
  · simp (disch := omega) only [zI_lt, zI_le, zI_eq, zI_lt0, zI_le0, zI_0lt, zI_0le, zI_eq0] at c19
    have wz : mWhy (decide (0 ≤ s ∧ s < ↑(ζ 5 0))) n 60 = 0 := by omega
    have w0 := mWhy_0 wz
    rw [decide_eq_true_eq] at w0
    refine v_drop 3 (ls' := [some (.ref (ad 200)), some (.int (zI s)), some (.int (zI n)), none]) rfl ?_
    obtain ⟨k, rfl⟩ : ∃ z : Nat, s = ↑z := ⟨s.toNat, by omega⟩
    obtain ⟨t, rfl⟩ : ∃ z : Nat, n = ↑z := ⟨n.toNat, by omega⟩
    refine v_run 2 (pc' := 30) (ls' := [some (.ref (ad 200)), some (.int (zI ↑k)), some (.int (zI ↑t)), none]) (st' := [.int (zI ↑t), .ref (ad 200)]) rfl ?_
    refine v_callV (My := mX10_hangsBest) (As := [.int (zI ↑t)]) (rest := []) (mc := 0) (ms := 0) rfl caX10_hangsBest rfl rfl rfl q1.1.1.1 rfl rfl (q_hangsBestN G _ t hA q1.1.1 hz q1.1.2.1 q1.1.2.2.1 hV q1.1.2.2.2.2.2.1 h4 hd (by omega)) rfl rfl (Nat.le_of_ble_eq_true rfl) (by omega) ?_
    rintro _ h6 ⟨rfl, hbi⟩
    obtain ⟨Y6, B6, q6, hB6⟩ := q1.hb hA hbi
    refine v_run 0 (pc' := 33) (ls' := [some (.ref (ad 200)), some (.int (zI ↑k)), some (.int (zI ↑t)), none]) (st' := [.int (zI (hbS ζ (hbW ζ (ρ 2) ↑t) (ζ 4 0 ^ ζ 5 0)).1)]) rfl ?_
    refine v_run 3 (pc' := 36) (ls' := [some (.ref (ad 200)), some (.int (zI ↑k)), some (.int (zI ↑t)), none]) (st' := [.ref (ad 200), .ref (ad 200)]) rfl ?_
    refine v_get rfl q6.1.1.1 rfl ?_
    refine v_run 1 (pc' := 40) (ls' := [some (.ref (ad 200)), some (.int (zI ↑k)), some (.int (zI ↑t)), none]) (st' := [.int (zI ↑k), .ref (ad 206), .ref (ad 200)]) rfl ?_
    refine v_iaload' rfl q6.1.2.2.2.2.2.1 (i := k) rfl (by omega) ?_
    refine v_run 0 (pc' := 41) (ls' := [some (.ref (ad 200)), some (.int (zI ↑k)), some (.int (zI ↑t)), none]) (st' := [.int (zI ↑(B6 k)), .ref (ad 200)]) rfl ?_
    rw [show (zI ↑(B6 k) : Int32) = zI ↑((hbS ζ (hbW ζ (ρ 2) ↑t) (ζ 4 0 ^ ζ 5 0)).2 k) from congrArg (fun n : Nat => zI ↑n) (hB6 (hbS_pos ζ _ h4 h45) k (by omega))]
    refine v_callV (My := mX10_well) (As := [.int (zI ↑((hbS ζ (hbW ζ (ρ 2) ↑t) (ζ 4 0 ^ ζ 5 0)).2 k))]) (rest := []) (mc := 0) (ms := 0) rfl caX10_well rfl rfl rfl q6.1.1.1 rfl rfl (q_well G _ ((zI ↑((hbS ζ (hbW ζ (ρ 2) ↑t) (ζ 4 0 ^ ζ 5 0)).2 k))) q6.1.1.1) rfl rfl (Nat.le_of_ble_eq_true rfl) (by omega) ?_
    rintro _ h99 ⟨rfl, e99⟩
    refine v_run 0 (pc' := 44) (ls' := [some (.ref (ad 200)), some (.int (zI ↑k)), some (.int (zI ↑t)), none]) (st' := [.int ((zI ↑((hbS ζ (hbW ζ (ρ 2) ↑t) (ζ 4 0 ^ ζ 5 0)).2 k)))]) rfl ?_
    rw [show bHangAt ζ (ρ 2) ↑k ↑t = (↑((hbS ζ (hbW ζ (ρ 2) ↑t) (ζ 4 0 ^ ζ 5 0)).2 k), 0) from by rw [bHangAt, if_neg (by omega)]; rfl]
    exact v_iret rfl rfl rfl ⟨rfl, q6.fin hA e99⟩
  · simp (disch := omega) only [zI_lt, zI_le, zI_eq, zI_lt0, zI_le0, zI_0lt, zI_0le, zI_eq0] at c19
    refine v_run 2 (pc' := 24) (ls' := [some (.ref (ad 200)), some (.int (zI s)), some (.int (zI n)), some (.int (zI ↑(mWhy (decide (0 ≤ s ∧ s < ↑(ζ 5 0))) n 60)))]) (st' := [.int (zI ↑(mWhy (decide (0 ≤ s ∧ s < ↑(ζ 5 0))) n 60)), .ref (ad 200)]) rfl ?_
    refine v_callV (My := mX10_refused) (As := [.int (zI ↑(mWhy (decide (0 ≤ s ∧ s < ↑(ζ 5 0))) n 60))]) (rest := []) (mc := 0) (ms := 0) rfl caX10_refused rfl rfl rfl q1.1.1.1 rfl rfl (q_refused G _ ↑(mWhy (decide (0 ≤ s ∧ s < ↑(ζ 5 0))) n 60) q1.1.1.1) rfl rfl (Nat.le_of_ble_eq_true rfl) (by omega) ?_
    rintro _ h99 ⟨rfl, e99⟩
    refine v_run 0 (pc' := 27) (ls' := [some (.ref (ad 200)), some (.int (zI s)), some (.int (zI n)), some (.int (zI ↑(mWhy (decide (0 ≤ s ∧ s < ↑(ζ 5 0))) n 60)))]) (st' := [.int (zI (-1))]) rfl ?_
    rw [show bHangAt ζ (ρ 2) s n = (-1, mWhy (decide (0 ≤ s ∧ s < ↑(ζ 5 0))) n 60) from if_pos (by omega)]
    exact v_iret rfl rfl rfl ⟨rfl, q1.fin hA e99⟩

set_option maxRecDepth 100000 in
set_option maxHeartbeats 400000 in
theorem q_longestAt (G : ssG) (h : ssH) {ad : Nat → Nat} {rv : Value} {m : Nat → Int} {ζ ρ : Nat → Nat → Nat} (s : Int) (hA : ∀ k l, ad k = ad l → k = l) (ht : MT h ad rv m ζ ρ) (hz : SaOk ζ) (hV : XOk (ρ 2)) (hd : ρ 2 23 ≤ 99) (hs : -2147483648 ≤ s ∧ s < 2147483648) (h4 : 0 < ζ 4 0) (h45 : ζ 5 0 ≤ ζ 4 0) : ssC G mX10_longestAt 5 0 0 [.ref (ad 200), .int (zI s)] h (mR ζ rv m ρ ad h ↑(bLongestAt ζ (ρ 2) s).2 (.int (zI (bLongestAt ζ (ρ 2) s).1))) := by
  refine c_of_v okX10_longestAt (by decide +kernel) (ls := [some (.ref (ad 200)), some (.int (zI s))]) rfl (Nat.le_of_ble_eq_true rfl) ?_
  obtain ⟨z0, z1, z2, z3, z4, z5, z6, z9, z12, z13, z14, z15, z16, z17, z18, z19, z20⟩ := id hz
  refine v_run 2 (pc' := 2) (ls' := [some (.ref (ad 200)), some (.int (zI s))]) (st' := [.int (zI 0), .ref (ad 200)]) rfl ?_
  refine v_put rfl ht.1.1 rfl rfl (Nat.le_of_ble_eq_true rfl) ?_
  generalize e1 : hset h (ad 200) _ = h1
  have q1 : MQs h ad rv (mU m 0 0) ζ ρ h1 (mU m 0 0) ρ := ⟨ht.ob hA e1, mSm.rf _, rSm.rf ρ, (frM.rf ad h).ob e1⟩
  refine v_run 2 (pc' := 7) (ls' := [some (.ref (ad 200)), some (.int (zI s))]) (st' := [.int (zI s), .ref (ad 200)]) rfl ?_
  refine v_callV (My := mX10_isSenator) (As := [.int (zI s)]) (rest := []) (mc := 0) (ms := 0) rfl caX10_isSenator rfl rfl rfl q1.1.1.1 rfl rfl (q_isSenator G _ s hA q1.1.1 hz q1.1.2.1 hs) rfl rfl (Nat.le_of_ble_eq_true rfl) (by omega) ?_
  rintro _ _ ⟨rfl, rfl⟩
  refine v_run 0 (pc' := 10) (ls' := [some (.ref (ad 200)), some (.int (zI s))]) (st' := [.int (zb (decide (0 ≤ s ∧ s < ↑(ζ 5 0))))]) rfl ?_
  refine v_if_ne rfl (fun c10 => ?_) (fun c10 => ?_)
  · rw [zb_0, Bool.not_eq_false, decide_eq_true_eq] at c10
    have hs9 := c10
    obtain ⟨k, rfl⟩ : ∃ z : Nat, s = ↑z := ⟨s.toNat, by omega⟩
    refine v_run 2 (pc' := 21) (ls' := [some (.ref (ad 200)), some (.int (zI ↑k))]) (st' := [.int (zI (-1)), .ref (ad 200)]) rfl ?_
    refine v_callV (My := mX10_hangsBest) (As := [.int (zI (-1))]) (rest := []) (mc := 0) (ms := 0) rfl caX10_hangsBest rfl rfl rfl q1.1.1.1 rfl rfl (q_hangsBestL G _ hA q1.1.1 hz q1.1.2.1 q1.1.2.2.1 hV q1.1.2.2.2.2.2.1 h4 hd) rfl rfl (Nat.le_of_ble_eq_true rfl) (by omega) ?_
    rintro _ h7 ⟨rfl, hbi⟩
    obtain ⟨Y7, B7, q7, hB7⟩ := q1.hb hA hbi
    refine v_run 0 (pc' := 24) (ls' := [some (.ref (ad 200)), some (.int (zI ↑k))]) (st' := [.int (zI (hbS ζ (hbW ζ (ρ 2) (-1)) (ζ 4 0 ^ ζ 5 0)).1)]) rfl ?_
    refine v_run 3 (pc' := 27) (ls' := [some (.ref (ad 200)), some (.int (zI ↑k))]) (st' := [.ref (ad 200), .ref (ad 200)]) rfl ?_
    refine v_get rfl q7.1.1.1 rfl ?_
    refine v_run 1 (pc' := 31) (ls' := [some (.ref (ad 200)), some (.int (zI ↑k))]) (st' := [.int (zI ↑k), .ref (ad 206), .ref (ad 200)]) rfl ?_
    refine v_iaload' rfl q7.1.2.2.2.2.2.1 (i := k) rfl (by omega) ?_
    refine v_run 0 (pc' := 32) (ls' := [some (.ref (ad 200)), some (.int (zI ↑k))]) (st' := [.int (zI ↑(B7 k)), .ref (ad 200)]) rfl ?_
    rw [show (zI ↑(B7 k) : Int32) = zI ↑((hbS ζ (hbW ζ (ρ 2) (-1)) (ζ 4 0 ^ ζ 5 0)).2 k) from congrArg (fun n : Nat => zI ↑n) (hB7 (hbS_pos ζ _ h4 h45) k (by omega))]
    refine v_callV (My := mX10_well) (As := [.int (zI ↑((hbS ζ (hbW ζ (ρ 2) (-1)) (ζ 4 0 ^ ζ 5 0)).2 k))]) (rest := []) (mc := 0) (ms := 0) rfl caX10_well rfl rfl rfl q7.1.1.1 rfl rfl (q_well G _ ((zI ↑((hbS ζ (hbW ζ (ρ 2) (-1)) (ζ 4 0 ^ ζ 5 0)).2 k))) q7.1.1.1) rfl rfl (Nat.le_of_ble_eq_true rfl) (by omega) ?_
    rintro _ h99 ⟨rfl, e99⟩
    refine v_run 0 (pc' := 35) (ls' := [some (.ref (ad 200)), some (.int (zI ↑k))]) (st' := [.int ((zI ↑((hbS ζ (hbW ζ (ρ 2) (-1)) (ζ 4 0 ^ ζ 5 0)).2 k)))]) rfl ?_
    rw [show bLongestAt ζ (ρ 2) ↑k = (↑((hbS ζ (hbW ζ (ρ 2) (-1)) (ζ 4 0 ^ ζ 5 0)).2 k), 0) from if_neg (by simpa using hs9)]
    exact v_iret rfl rfl rfl ⟨rfl, q7.fin hA e99⟩
  · rw [zb_0, decide_eq_false_iff_not] at c10
    refine v_run 2 (pc' := 15) (ls' := [some (.ref (ad 200)), some (.int (zI s))]) (st' := [.int (zI 1), .ref (ad 200)]) rfl ?_
    refine v_callV (My := mX10_refused) (As := [.int (zI 1)]) (rest := []) (mc := 0) (ms := 0) rfl caX10_refused rfl rfl rfl q1.1.1.1 rfl rfl (q_refused G _ 1 q1.1.1.1) rfl rfl (Nat.le_of_ble_eq_true rfl) (by omega) ?_
    rintro _ h99 ⟨rfl, e99⟩
    refine v_run 0 (pc' := 18) (ls' := [some (.ref (ad 200)), some (.int (zI s))]) (st' := [.int (zI (-1))]) rfl ?_
    rw [show bLongestAt ζ (ρ 2) s = (-1, 1) from if_pos c10]
    exact v_iret rfl rfl rfl ⟨rfl, q1.fin hA e99⟩

