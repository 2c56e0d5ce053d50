theorem MQs.tr {h h1 h2 : ssH} {ad : Nat → Nat} {rv : Value} {m m1 m2 : Nat → Int} {ζ ρ ρ1 ρ2 : Nat → Nat → Nat} (p : MQs h ad rv m ζ ρ h1 m1 ρ1) (q : MQs h1 ad rv m1 ζ ρ1 h2 m2 ρ2) : MQs h ad rv m ζ ρ h2 m2 ρ2 := ⟨q.1, p.2.1.tr q.2.1, p.2.2.1.tr q.2.2.1, p.2.2.2.tr q.2.2.2⟩
def bSenN (ζ : Nat → Nat → Nat) (V : Nat → Nat) (k t : Nat) : Int × Nat := match t with
  | 0 => (↑(V (6 + k)), 0)
  | 1 => (↑(V k), 0)
  | 2 => (↑(V (12 + k)), 0)
  | 3 => (↑(ζ 16 k), 0)
  | 4 => (↑(setN (fun a => bitN (ζ 18 a) k) (ζ 6 0)), 0)
  | _ => (↑(min (V (12 + k)) (mLs ζ V k)), 0)
def bSenator (ζ : Nat → Nat → Nat) (V : Nat → Nat) (s n : Int) : Int × Nat := if ¬ (0 ≤ s ∧ s < ↑(ζ 5 0)) ∨ ¬ (0 ≤ n ∧ n ≤ 5) then (-1, 1) else bSenN ζ V s.toNat n.toNat
def bHook (ζ : Nat → Nat → Nat) (V : Nat → Nat) (s n : Int) : Int × Nat := if ¬ (0 ≤ s ∧ s < ↑(ζ 4 0)) ∨ ¬ (0 ≤ n ∧ n ≤ 1) then (-1, 1) else if n = 0 then (↑(ζ 12 s.toNat), 0) else (cWho V s.toNat (ζ 5 0), 0)
def bActN (ζ : Nat → Nat → Nat) (V : Nat → Nat) (k t : Nat) : Int × Nat := match t with
  | 0 => (↑(ζ 17 k), 0)
  | 1 => (↑(ζ 18 k), 0)
  | 2 => (↑(ζ 19 k), 0)
  | _ => if bitN (mGo ζ (mPut ζ V) 0) k = true then (1, 0) else (0, 0)
def bAct (ζ : Nat → Nat → Nat) (V : Nat → Nat) (s n : Int) : Int × Nat := if ¬ (0 ≤ s ∧ s < ↑(ζ 6 0)) ∨ ¬ (0 ≤ n ∧ n ≤ 3) then (-1, 1) else bActN ζ V s.toNat n.toNat
def bFalls (ζ : Nat → Nat → Nat) (s : Int) : Int × Nat := if ¬ (0 ≤ s ∧ s < ↑(ζ 6 0)) then (-1, 1) else (↑(fwO (ζ 19) (ζ 6 0) (ζ 6 0) (2 ^ s.toNat)), 0)
def bWire (s : Int) (b1 b2 b3 : Bool) : Int × Nat := if 0 < (if s < 0 ∨ 20 < s then 2 else 0 : Nat) then (-100, if s < 0 ∨ 20 < s then 2 else 0) else (if b3 then cShare s.toNat b2 b1 else cShare s.toNat b1 b2, 0)
def bRests (s : Int) : Int × Nat := if 0 < (if s < 0 ∨ 20 < s then 2 else 0 : Nat) then (-1, if s < 0 ∨ 20 < s then 2 else 0) else (↑(sumN (fun p => if cRest s.toNat p then 1 else 0) 4), 0)
def bRest (s : Int) : Int × Nat := if 0 < (if s < 0 ∨ 20 < s then 2 else 0 : Nat) then (-1, if s < 0 ∨ 20 < s then 2 else 0) else (rstG s.toNat 4 0, 0)
def bDays (ζ : Nat → Nat → Nat) (V : Nat → Nat) (s n : Int) : Int × Nat := if 0 < (if (s < 0 ∨ 65536 < s) ∨ (n < 0 ∨ 99 < n) then 2 else 0 : Nat) then (-1, if (s < 0 ∨ 65536 < s) ∨ (n < 0 ∨ 99 < n) then 2 else 0) else (↑(mG ζ (mDb ζ V s.toNat n.toNat)), 0)
def bThunders (ζ : Nat → Nat → Nat) (V : Nat → Nat) (s n : Int) : Int × Nat := if 0 < (if (s < 0 ∨ 65536 < s) ∨ (n < 0 ∨ 99 < n) then 2 else 0 : Nat) then (-1, if (s < 0 ∨ 65536 < s) ∨ (n < 0 ∨ 99 < n) then 2 else 0) else (↑(mTh ζ s.toNat n.toNat), 0)
def bSince (ζ : Nat → Nat → Nat) : Int × Nat := if 0 < (if ζ 9 0 = 0 then 6 else 0 : Nat) then (-1, if ζ 9 0 = 0 then 6 else 0) else (↑(mFc ζ 42), 0)
def bSinceAt (ζ : Nat → Nat → Nat) (s : Int) : Int × Nat := if 0 < (if ζ 9 0 = 0 then 6 else 0 : Nat) then (-1, if ζ 9 0 = 0 then 6 else 0) else if s < 0 ∨ mNth ζ s 42 = -1 then (-1, 1) else (mNth ζ s 42, 0)
def bLook (ζ : Nat → Nat → Nat) : Int × Nat := if 0 < (if ζ 9 0 = 0 then 6 else 0 : Nat) then (-1, if ζ 9 0 = 0 then 6 else 0) else ((mLk ζ (ζ 6 0)).1, 0)
def bLookL (ζ : Nat → Nat → Nat) : Int × Nat := if 0 < (if ζ 9 0 = 0 then 6 else 0 : Nat) then (-1, if ζ 9 0 = 0 then 6 else 0) else ((mLk ζ (ζ 6 0)).2, 0)
theorem mNth_bd (ζ : Nat → Nat → Nat) (i : Int) : ∀ d, -1 ≤ mNth ζ i d ∧ mNth ζ i d < ↑d + 0 ∨ mNth ζ i d = -1
  | 0 => Or.inr rfl
  | d + 1 => by
    have := mNth_bd ζ i d
    simp only [mNth]
    split <;> omega
set_option maxRecDepth 100000 in
set_option maxHeartbeats 400000 in
theorem q_senator (G : ssG) (h : ssH) {ad : Nat → Nat} {rv : Value} {m : Nat → Int} {ζ ρ : Nat → Nat → Nat} (s n : Int) (hA : ∀ k l, ad k = ad l → k = l) (ht : MT h ad rv m ζ ρ) (hz : SaOk ζ) (hV : XOk (ρ 2)) (hd : ρ 2 23 ≤ 99) (hs : -2147483648 ≤ s ∧ s < 2147483648) (hn : -2147483648 ≤ n ∧ n < 2147483648) : ssC G mX10_senator 2 0 0 [.ref (ad 200), .int (zI s), .int (zI n)] h (mR ζ rv m ρ ad h ↑(bSenator ζ (ρ 2) s n).2 (.int (zI (bSenator ζ (ρ 2) s n).1))) := by
  refine c_of_v okX10_senator (by decide +kernel) (ls := [some (.ref (ad 200)), some (.int (zI s)), some (.int (zI n))]) rfl (Nat.le_of_ble_eq_true rfl) ?_
  obtain ⟨z0, z1, z2, z3, z4, z5, z6, z9, z12, z13, z14, z15, z16, z17, z18, z19, z20⟩ := id hz
  refine v_run 2 (pc' := 2) (ls' := [some (.ref (ad 200)), some (.int (zI s)), some (.int (zI n))]) (st' := [.int (zI 0), .ref (ad 200)]) rfl ?_
  refine v_put rfl ht.1.1 rfl rfl (Nat.le_of_ble_eq_true rfl) ?_
  generalize e1 : hset h (ad 200) _ = h1
  have q1 : MQs h ad rv (mU m 0 0) ζ ρ h1 (mU m 0 0) ρ := ⟨ht.ob hA e1, mSm.rf _, rSm.rf ρ, (frM.rf ad h).ob e1⟩
  refine v_run 2 (pc' := 7) (ls' := [some (.ref (ad 200)), some (.int (zI s)), some (.int (zI n))]) (st' := [.int (zI s), .ref (ad 200)]) rfl ?_
  refine v_callV (My := mX10_isSenator) (As := [.int (zI s)]) (rest := []) (mc := 0) (ms := 0) rfl caX10_isSenator rfl rfl rfl q1.1.1.1 rfl rfl (q_isSenator G _ s hA q1.1.1 hz q1.1.2.1 hs) rfl rfl (Nat.le_of_ble_eq_true rfl) (by omega) ?_
  rintro _ _ ⟨rfl, rfl⟩
  refine v_run 0 (pc' := 10) (ls' := [some (.ref (ad 200)), some (.int (zI s)), some (.int (zI n))]) (st' := [.int (zb (decide (0 ≤ s ∧ s < ↑(ζ 5 0))))]) rfl ?_
  refine v_if_eq rfl (fun c10 => ?_) (fun c10 => ?_)
  · rw [zb_0, decide_eq_false_iff_not] at c10
    refine v_run 2 (pc' := 24) (ls' := [some (.ref (ad 200)), some (.int (zI s)), some (.int (zI n))]) (st' := [.int (zI 1), .ref (ad 200)]) rfl ?_
    refine v_callV (My := mX10_refused) (As := [.int (zI 1)]) (rest := []) (mc := 0) (ms := 0) rfl caX10_refused rfl rfl rfl q1.1.1.1 rfl rfl (q_refused G _ 1 q1.1.1.1) rfl rfl (Nat.le_of_ble_eq_true rfl) (by omega) ?_
    rintro _ h99 ⟨rfl, e99⟩
    refine v_run 0 (pc' := 27) (ls' := [some (.ref (ad 200)), some (.int (zI s)), some (.int (zI n))]) (st' := [.int (zI (-1))]) rfl ?_
    rw [show bSenator ζ (ρ 2) s n = (-1, 1) from if_pos (by omega)]
    exact v_iret rfl rfl rfl ⟨rfl, q1.fin hA e99⟩
  · rw [zb_0, Bool.not_eq_false, decide_eq_true_eq] at c10
    have hs9 := c10
    refine v_run 3 (pc' := 16) (ls' := [some (.ref (ad 200)), some (.int (zI s)), some (.int (zI n))]) (st' := [.int (zI 5), .int (zI 0), .int (zI n)]) rfl ?_
    refine v_callS (My := mX10_in) (As := [.int (zI n), .int (zI 0), .int (zI 5)]) (rest := []) (mc := 0) (ms := 0) rfl caX10_in rfl rfl (q_in G _ n 0 5 hn (by decide) (by decide)) rfl rfl (Nat.le_of_ble_eq_true rfl) (by omega) ?_
    rintro _ _ ⟨rfl, rfl⟩
    refine v_run 0 (pc' := 19) (ls' := [some (.ref (ad 200)), some (.int (zI s)), some (.int (zI n))]) (st' := [.int (zb (decide (0 ≤ n ∧ n ≤ 5)))]) rfl ?_
    refine v_if_ne rfl (fun c19 => ?_) (fun c19 => ?_)
    · rw [zb_0, Bool.not_eq_false, decide_eq_true_eq] at c19
      have hn9 := c19
      obtain ⟨k, rfl⟩ : ∃ z : Nat, s = ↑z := ⟨s.toNat, by omega⟩
      obtain ⟨t, rfl⟩ : ∃ z : Nat, n = ↑z := ⟨n.toNat, by omega⟩
      have hA0 : ∀ x : Int × Nat, bSenN ζ (ρ 2) k t = x → bSenator ζ (ρ 2) ↑k ↑t = x := fun x hx => by rw [bSenator, if_neg (by omega)]; exact hx
      refine v_run 1 (pc' := 29) (ls' := [some (.ref (ad 200)), some (.int (zI ↑k)), some (.int (zI ↑t))]) (st' := [.ref (ad 200)]) rfl ?_
      refine v_callV (My := mX10_works) (As := []) (rest := []) (mc := 0) (ms := 0) rfl caX10_works rfl rfl rfl q1.1.1.1 rfl rfl (q_works G _ hA q1.1.1 hz q1.1.2.1 q1.1.2.2.1 hV) rfl rfl (Nat.le_of_ble_eq_true rfl) (by omega) ?_
      rintro _ h2 ⟨rfl, e2⟩
      have q2 : MQs h ad rv (mU m 0 0) ζ ρ h2 (mU m 0 0) (rU ρ 3 (ρ 2)) := q1.xs hA e2 (hV)
      refine v_run 0 (pc' := 32) (ls' := [some (.ref (ad 200)), some (.int (zI ↑k)), some (.int (zI ↑t))]) (st' := []) rfl ?_
      have l12 := hV.2.2.1 k (by omega)
      have ll := mLs_le hz k (X := ρ 2)
      refine v_run 1 (pc' := 33) (ls' := [some (.ref (ad 200)), some (.int (zI ↑k)), some (.int (zI ↑t))]) (st' := [.int (zI ↑t)]) rfl ?_
      rcases (show t = 0 ∨ t = 1 ∨ t = 2 ∨ t = 3 ∨ t = 4 ∨ t = 5 by omega) with rfl | rfl | rfl | rfl | rfl | rfl
      · refine v_tabIn (off := 35) (t := 68) rfl (by decide +kernel) (by decide +kernel) (by decide +kernel) (by decide) ?_
        refine v_run 2 (pc' := 70) (ls' := [some (.ref (ad 200)), some (.int (zI ↑k)), some (.int (zI ↑(0 : Nat)))]) (st' := [.ref (ad 200), .ref (ad 200)]) rfl ?_
        refine v_get rfl q2.1.1.1 rfl ?_
        refine v_run 3 (pc' := 77) (ls' := [some (.ref (ad 200)), some (.int (zI ↑k)), some (.int (zI ↑(0 : Nat)))]) (st' := [.int ((zI 6) + (zI ↑k)), .ref (ad 202), .ref (ad 200)]) rfl ?_
        refine v_iaload' rfl q2.1.2.2.1 (i := (6 + k)) (zN_add 6 k) (by omega) ?_
        refine v_run 0 (pc' := 78) (ls' := [some (.ref (ad 200)), some (.int (zI ↑k)), some (.int (zI ↑(0 : Nat)))]) (st' := [.int (zI ↑(ρ 2 (6 + k))), .ref (ad 200)]) rfl ?_
        refine v_callV (My := mX10_well) (As := [.int (zI ↑(ρ 2 (6 + k)))]) (rest := []) (mc := 0) (ms := 0) rfl caX10_well rfl rfl rfl q2.1.1.1 rfl rfl (q_well G _ ((zI ↑(ρ 2 (6 + k)))) q2.1.1.1) rfl rfl (Nat.le_of_ble_eq_true rfl) (by omega) ?_
        rintro _ h99 ⟨rfl, e99⟩
        refine v_run 0 (pc' := 81) (ls' := [some (.ref (ad 200)), some (.int (zI ↑k)), some (.int (zI ↑(0 : Nat)))]) (st' := [.int ((zI ↑(ρ 2 (6 + k))))]) rfl ?_
        rw [show bSenator ζ (ρ 2) ↑k ↑(0 : Nat) = (↑(ρ 2 (6 + k)), 0) from hA0 _ rfl]
        exact v_iret rfl rfl rfl ⟨rfl, q2.fin hA e99⟩
      · refine v_tabIn (off := 49) (t := 82) rfl (by decide +kernel) (by decide +kernel) (by decide +kernel) (by decide) ?_
        refine v_run 2 (pc' := 84) (ls' := [some (.ref (ad 200)), some (.int (zI ↑k)), some (.int (zI ↑(1 : Nat)))]) (st' := [.ref (ad 200), .ref (ad 200)]) rfl ?_
        refine v_get rfl q2.1.1.1 rfl ?_
        refine v_run 1 (pc' := 88) (ls' := [some (.ref (ad 200)), some (.int (zI ↑k)), some (.int (zI ↑(1 : Nat)))]) (st' := [.int (zI ↑k), .ref (ad 202), .ref (ad 200)]) rfl ?_
        refine v_iaload' rfl q2.1.2.2.1 (i := k) rfl (by omega) ?_
        refine v_run 0 (pc' := 89) (ls' := [some (.ref (ad 200)), some (.int (zI ↑k)), some (.int (zI ↑(1 : Nat)))]) (st' := [.int (zI ↑(ρ 2 k)), .ref (ad 200)]) rfl ?_
        refine v_callV (My := mX10_well) (As := [.int (zI ↑(ρ 2 k))]) (rest := []) (mc := 0) (ms := 0) rfl caX10_well rfl rfl rfl q2.1.1.1 rfl rfl (q_well G _ ((zI ↑(ρ 2 k))) q2.1.1.1) rfl rfl (Nat.le_of_ble_eq_true rfl) (by omega) ?_
        rintro _ h99 ⟨rfl, e99⟩
        refine v_run 0 (pc' := 92) (ls' := [some (.ref (ad 200)), some (.int (zI ↑k)), some (.int (zI ↑(1 : Nat)))]) (st' := [.int ((zI ↑(ρ 2 k)))]) rfl ?_
        rw [show bSenator ζ (ρ 2) ↑k ↑(1 : Nat) = (↑(ρ 2 k), 0) from hA0 _ rfl]
        exact v_iret rfl rfl rfl ⟨rfl, q2.fin hA e99⟩
      · refine v_tabIn (off := 60) (t := 93) rfl (by decide +kernel) (by decide +kernel) (by decide +kernel) (by decide) ?_
        refine v_run 2 (pc' := 95) (ls' := [some (.ref (ad 200)), some (.int (zI ↑k)), some (.int (zI ↑(2 : Nat)))]) (st' := [.ref (ad 200), .ref (ad 200)]) rfl ?_
        refine v_get rfl q2.1.1.1 rfl ?_
        refine v_run 3 (pc' := 102) (ls' := [some (.ref (ad 200)), some (.int (zI ↑k)), some (.int (zI ↑(2 : Nat)))]) (st' := [.int ((zI 12) + (zI ↑k)), .ref (ad 202), .ref (ad 200)]) rfl ?_
        refine v_iaload' rfl q2.1.2.2.1 (i := (12 + k)) (zN_add 12 k) (by omega) ?_
        refine v_run 0 (pc' := 103) (ls' := [some (.ref (ad 200)), some (.int (zI ↑k)), some (.int (zI ↑(2 : Nat)))]) (st' := [.int (zI ↑(ρ 2 (12 + k))), .ref (ad 200)]) rfl ?_
        refine v_callV (My := mX10_well) (As := [.int (zI ↑(ρ 2 (12 + k)))]) (rest := []) (mc := 0) (ms := 0) rfl caX10_well rfl rfl rfl q2.1.1.1 rfl rfl (q_well G _ ((zI ↑(ρ 2 (12 + k)))) q2.1.1.1) rfl rfl (Nat.le_of_ble_eq_true rfl) (by omega) ?_
        rintro _ h99 ⟨rfl, e99⟩
        refine v_run 0 (pc' := 106) (ls' := [some (.ref (ad 200)), some (.int (zI ↑k)), some (.int (zI ↑(2 : Nat)))]) (st' := [.int ((zI ↑(ρ 2 (12 + k))))]) rfl ?_
        rw [show bSenator ζ (ρ 2) ↑k ↑(2 : Nat) = (↑(ρ 2 (12 + k)), 0) from hA0 _ rfl]
        exact v_iret rfl rfl rfl ⟨rfl, q2.fin hA e99⟩
      · refine v_tabIn (off := 74) (t := 107) rfl (by decide +kernel) (by decide +kernel) (by decide +kernel) (by decide) ?_
        refine v_run 2 (pc' := 109) (ls' := [some (.ref (ad 200)), some (.int (zI ↑k)), some (.int (zI ↑(3 : Nat)))]) (st' := [.ref (ad 200), .ref (ad 200)]) rfl ?_
        refine v_get rfl q2.1.1.1 rfl ?_
        refine v_run 0 (pc' := 112) (ls' := [some (.ref (ad 200)), some (.int (zI ↑k)), some (.int (zI ↑(3 : Nat)))]) (st' := [.ref (ad 210), .ref (ad 200)]) rfl ?_
        refine v_get rfl q2.1.1.2.1.1 rfl ?_
        refine v_run 1 (pc' := 116) (ls' := [some (.ref (ad 200)), some (.int (zI ↑k)), some (.int (zI ↑(3 : Nat)))]) (st' := [.int (zI ↑k), .ref (Sf ad 210 16), .ref (ad 200)]) rfl ?_
        refine v_iaload' rfl q2.1.1.2.1.2.2.2.2.2.1 (i := k) rfl (by omega) ?_
        refine v_run 0 (pc' := 117) (ls' := [some (.ref (ad 200)), some (.int (zI ↑k)), some (.int (zI ↑(3 : Nat)))]) (st' := [.int (zI ↑(ζ 16 k)), .ref (ad 200)]) rfl ?_
        refine v_callV (My := mX10_well) (As := [.int (zI ↑(ζ 16 k))]) (rest := []) (mc := 0) (ms := 0) rfl caX10_well rfl rfl rfl q2.1.1.1 rfl rfl (q_well G _ ((zI ↑(ζ 16 k))) q2.1.1.1) rfl rfl (Nat.le_of_ble_eq_true rfl) (by omega) ?_
        rintro _ h99 ⟨rfl, e99⟩
        refine v_run 0 (pc' := 120) (ls' := [some (.ref (ad 200)), some (.int (zI ↑k)), some (.int (zI ↑(3 : Nat)))]) (st' := [.int ((zI ↑(ζ 16 k)))]) rfl ?_
        rw [show bSenator ζ (ρ 2) ↑k ↑(3 : Nat) = (↑(ζ 16 k), 0) from hA0 _ rfl]
        exact v_iret rfl rfl rfl ⟨rfl, q2.fin hA e99⟩
      · refine v_tabIn (off := 88) (t := 121) rfl (by decide +kernel) (by decide +kernel) (by decide +kernel) (by decide) ?_
        refine v_run 3 (pc' := 124) (ls' := [some (.ref (ad 200)), some (.int (zI ↑k)), some (.int (zI ↑(4 : Nat)))]) (st' := [.int (zI ↑k), .ref (ad 200), .ref (ad 200)]) rfl ?_
        refine v_callV (My := mX10_likes) (As := [.int (zI ↑k)]) (rest := [.ref (ad 200)]) (mc := 0) (ms := 0) rfl caX10_likes rfl rfl rfl q2.1.1.1 rfl rfl (q_likes G _ k hA q2.1.1 hz q2.1.2.1 (by omega)) rfl rfl (Nat.le_of_ble_eq_true rfl) (by omega) ?_
        rintro _ _ ⟨rfl, rfl⟩
        refine v_run 0 (pc' := 127) (ls' := [some (.ref (ad 200)), some (.int (zI ↑k)), some (.int (zI ↑(4 : Nat)))]) (st' := [.int (zI ↑(setN (fun a => bitN (ζ 18 a) k) (ζ 6 0))), .ref (ad 200)]) rfl ?_
        refine v_callV (My := mX10_well) (As := [.int (zI ↑(setN (fun a => bitN (ζ 18 a) k) (ζ 6 0)))]) (rest := []) (mc := 0) (ms := 0) rfl caX10_well rfl rfl rfl q2.1.1.1 rfl rfl (q_well G _ ((zI ↑(setN (fun a => bitN (ζ 18 a) k) (ζ 6 0)))) q2.1.1.1) rfl rfl (Nat.le_of_ble_eq_true rfl) (by omega) ?_
        rintro _ h99 ⟨rfl, e99⟩
        refine v_run 0 (pc' := 130) (ls' := [some (.ref (ad 200)), some (.int (zI ↑k)), some (.int (zI ↑(4 : Nat)))]) (st' := [.int ((zI ↑(setN (fun a => bitN (ζ 18 a) k) (ζ 6 0))))]) rfl ?_
        rw [show bSenator ζ (ρ 2) ↑k ↑(4 : Nat) = (↑(setN (fun a => bitN (ζ 18 a) k) (ζ 6 0)), 0) from hA0 _ rfl]
        exact v_iret rfl rfl rfl ⟨rfl, q2.fin hA e99⟩
      · refine v_tabOut (t := 131) rfl (by decide +kernel) (by decide) ?_
        refine v_run 3 (pc' := 134) (ls' := [some (.ref (ad 200)), some (.int (zI ↑k)), some (.int (zI ↑(5 : Nat)))]) (st' := [.int (zI ↑k), .ref (ad 200), .ref (ad 200)]) rfl ?_
        refine v_callV (My := mX10_losses) (As := [.int (zI ↑k)]) (rest := [.ref (ad 200)]) (mc := 0) (ms := 0) rfl caX10_losses rfl rfl rfl q2.1.1.1 rfl rfl (q_losses G _ k hA q2.1.1 hz q2.1.2.1 (by omega) (by show ρ 2 23 ≤ 1000; omega)) rfl rfl (Nat.le_of_ble_eq_true rfl) (by omega) ?_
        rintro _ _ ⟨rfl, rfl⟩
        refine v_run 0 (pc' := 137) (ls' := [some (.ref (ad 200)), some (.int (zI ↑k)), some (.int (zI ↑(5 : Nat)))]) (st' := [.int (zI ↑(mLs ζ (ρ 2) k)), .ref (ad 200)]) rfl ?_
        refine v_run 1 (pc' := 138) (ls' := [some (.ref (ad 200)), some (.int (zI ↑k)), some (.int (zI ↑(5 : Nat)))]) (st' := [.ref (ad 200), .int (zI ↑(mLs ζ (ρ 2) k)), .ref (ad 200)]) rfl ?_
        refine v_get rfl q2.1.1.1 rfl ?_
        refine v_run 3 (pc' := 145) (ls' := [some (.ref (ad 200)), some (.int (zI ↑k)), some (.int (zI ↑(5 : Nat)))]) (st' := [.int ((zI 12) + (zI ↑k)), .ref (ad 202), .int (zI ↑(mLs ζ (ρ 2) k)), .ref (ad 200)]) rfl ?_
        refine v_iaload' rfl q2.1.2.2.1 (i := (12 + k)) (zN_add 12 k) (by omega) ?_
        refine v_run 0 (pc' := 146) (ls' := [some (.ref (ad 200)), some (.int (zI ↑k)), some (.int (zI ↑(5 : Nat)))]) (st' := [.int (zI ↑(ρ 2 (12 + k))), .int (zI ↑(mLs ζ (ρ 2) k)), .ref (ad 200)]) rfl ?_
        refine v_icmp_ge rfl (fun c146 => ?_) (fun c146 => ?_)
        · simp (disch := omega) only [zI_lt, zI_le, zI_eq, zI_lt0, zI_le0, zI_0lt, zI_0le, zI_eq0] at c146
          refine v_run 1 (pc' := 158) (ls' := [some (.ref (ad 200)), some (.int (zI ↑k)), some (.int (zI ↑(5 : Nat)))]) (st' := [.ref (ad 200), .ref (ad 200)]) rfl ?_
          refine v_get rfl q2.1.1.1 rfl ?_
          refine v_run 3 (pc' := 165) (ls' := [some (.ref (ad 200)), some (.int (zI ↑k)), some (.int (zI ↑(5 : Nat)))]) (st' := [.int ((zI 12) + (zI ↑k)), .ref (ad 202), .ref (ad 200)]) rfl ?_
          refine v_iaload' rfl q2.1.2.2.1 (i := (12 + k)) (zN_add 12 k) (by omega) ?_
          refine v_run 0 (pc' := 166) (ls' := [some (.ref (ad 200)), some (.int (zI ↑k)), some (.int (zI ↑(5 : Nat)))]) (st' := [.int (zI ↑(ρ 2 (12 + k))), .ref (ad 200)]) rfl ?_
          refine v_callV (My := mX10_well) (As := [.int (zI ↑(ρ 2 (12 + k)))]) (rest := []) (mc := 0) (ms := 0) rfl caX10_well rfl rfl rfl q2.1.1.1 rfl rfl (q_well G _ ((zI ↑(ρ 2 (12 + k)))) q2.1.1.1) rfl rfl (Nat.le_of_ble_eq_true rfl) (by omega) ?_
          rintro _ h99 ⟨rfl, e99⟩
          refine v_run 0 (pc' := 169) (ls' := [some (.ref (ad 200)), some (.int (zI ↑k)), some (.int (zI ↑(5 : Nat)))]) (st' := [.int ((zI ↑(ρ 2 (12 + k))))]) rfl ?_
          rw [show bSenator ζ (ρ 2) ↑k ↑(5 : Nat) = (↑(ρ 2 (12 + k)), 0) from hA0 _ (by show (((min (ρ 2 (12 + k)) (mLs ζ (ρ 2) k) : Nat) : Int), 0) = _; rw [Nat.min_eq_left (by omega)])]
          exact v_iret rfl rfl rfl ⟨rfl, q2.fin hA e99⟩
        · simp (disch := omega) only [zI_lt, zI_le, zI_eq, zI_lt0, zI_le0, zI_0lt, zI_0le, zI_eq0] at c146
          refine v_run 2 (pc' := 151) (ls' := [some (.ref (ad 200)), some (.int (zI ↑k)), some (.int (zI ↑(5 : Nat)))]) (st' := [.int (zI ↑k), .ref (ad 200), .ref (ad 200)]) rfl ?_
          refine v_callV (My := mX10_losses) (As := [.int (zI ↑k)]) (rest := [.ref (ad 200)]) (mc := 0) (ms := 0) rfl caX10_losses rfl rfl rfl q2.1.1.1 rfl rfl (q_losses G _ k hA q2.1.1 hz q2.1.2.1 (by omega) (by show ρ 2 23 ≤ 1000; omega)) rfl rfl (Nat.le_of_ble_eq_true rfl) (by omega) ?_
          rintro _ _ ⟨rfl, rfl⟩
          refine v_run 0 (pc' := 154) (ls' := [some (.ref (ad 200)), some (.int (zI ↑k)), some (.int (zI ↑(5 : Nat)))]) (st' := [.int (zI ↑(mLs ζ (ρ 2) k)), .ref (ad 200)]) rfl ?_
          refine v_run 1 (pc' := 166) (ls' := [some (.ref (ad 200)), some (.int (zI ↑k)), some (.int (zI ↑(5 : Nat)))]) (st' := [.int (zI ↑(mLs ζ (ρ 2) k)), .ref (ad 200)]) rfl ?_
          refine v_callV (My := mX10_well) (As := [.int (zI ↑(mLs ζ (ρ 2) k))]) (rest := []) (mc := 0) (ms := 0) rfl caX10_well rfl rfl rfl q2.1.1.1 rfl rfl (q_well G _ ((zI ↑(mLs ζ (ρ 2) k))) q2.1.1.1) rfl rfl (Nat.le_of_ble_eq_true rfl) (by omega) ?_
          rintro _ h99 ⟨rfl, e99⟩
          refine v_run 0 (pc' := 169) (ls' := [some (.ref (ad 200)), some (.int (zI ↑k)), some (.int (zI ↑(5 : Nat)))]) (st' := [.int ((zI ↑(mLs ζ (ρ 2) k)))]) rfl ?_
          rw [show bSenator ζ (ρ 2) ↑k ↑(5 : Nat) = (↑(mLs ζ (ρ 2) k), 0) from hA0 _ (by show (((min (ρ 2 (12 + k)) (mLs ζ (ρ 2) k) : Nat) : Int), 0) = _; rw [Nat.min_eq_right (by omega)])]
          exact v_iret rfl rfl rfl ⟨rfl, q2.fin hA e99⟩
    · rw [zb_0, decide_eq_false_iff_not] at c19
      refine v_run 2 (pc' := 24) (ls' := [some (.ref (ad 200)), some (.int (zI s)), some (.int (zI n))]) (st' := [.int (zI 1), .ref (ad 200)]) rfl ?_
      refine v_callV (My := mX10_refused) (As := [.int (zI 1)]) (rest := []) (mc := 0) (ms := 0) rfl caX10_refused rfl rfl rfl q1.1.1.1 rfl rfl (q_refused G _ 1 q1.1.1.1) rfl rfl (Nat.le_of_ble_eq_true rfl) (by omega) ?_
      rintro _ h99 ⟨rfl, e99⟩
      refine v_run 0 (pc' := 27) (ls' := [some (.ref (ad 200)), some (.int (zI s)), some (.int (zI n))]) (st' := [.int (zI (-1))]) rfl ?_
      rw [show bSenator ζ (ρ 2) s n = (-1, 1) from if_pos (by omega)]
      exact v_iret rfl rfl rfl ⟨rfl, q1.fin hA e99⟩

set_option maxRecDepth 100000 in
set_option maxHeartbeats 400000 in
theorem q_hook (G : ssG) (h : ssH) {ad : Nat → Nat} {rv : Value} {m : Nat → Int} {ζ ρ : Nat → Nat → Nat} (s n : Int) (hA : ∀ k l, ad k = ad l → k = l) (ht : MT h ad rv m ζ ρ) (hz : SaOk ζ) (hV : XOk (ρ 2)) (hd : ρ 2 23 ≤ 99) (hs : -2147483648 ≤ s ∧ s < 2147483648) (hn : -2147483648 ≤ n ∧ n < 2147483648) : ssC G mX10_hook 1 0 0 [.ref (ad 200), .int (zI s), .int (zI n)] h (mR ζ rv m ρ ad h ↑(bHook ζ (ρ 2) s n).2 (.int (zI (bHook ζ (ρ 2) s n).1))) := by
  refine c_of_v okX10_hook (by decide +kernel) (ls := [some (.ref (ad 200)), some (.int (zI s)), some (.int (zI n))]) rfl (Nat.le_of_ble_eq_true rfl) ?_
  obtain ⟨z0, z1, z2, z3, z4, z5, z6, z9, z12, z13, z14, z15, z16, z17, z18, z19, z20⟩ := id hz
  refine v_run 2 (pc' := 2) (ls' := [some (.ref (ad 200)), some (.int (zI s)), some (.int (zI n))]) (st' := [.int (zI 0), .ref (ad 200)]) rfl ?_
  refine v_put rfl ht.1.1 rfl rfl (Nat.le_of_ble_eq_true rfl) ?_
  generalize e1 : hset h (ad 200) _ = h1
  have q1 : MQs h ad rv (mU m 0 0) ζ ρ h1 (mU m 0 0) ρ := ⟨ht.ob hA e1, mSm.rf _, rSm.rf ρ, (frM.rf ad h).ob e1⟩
  refine v_run 2 (pc' := 7) (ls' := [some (.ref (ad 200)), some (.int (zI s)), some (.int (zI n))]) (st' := [.int (zI s), .ref (ad 200)]) rfl ?_
  refine v_callV (My := mX10_isHook) (As := [.int (zI s)]) (rest := []) (mc := 0) (ms := 0) rfl caX10_isHook rfl rfl rfl q1.1.1.1 rfl rfl (q_isHook G _ s hA q1.1.1 hz q1.1.2.1 hs) rfl rfl (Nat.le_of_ble_eq_true rfl) (by omega) ?_
  rintro _ _ ⟨rfl, rfl⟩
  refine v_run 0 (pc' := 10) (ls' := [some (.ref (ad 200)), some (.int (zI s)), some (.int (zI n))]) (st' := [.int (zb (decide (0 ≤ s ∧ s < ↑(ζ 4 0))))]) rfl ?_
  refine v_if_eq rfl (fun c10 => ?_) (fun c10 => ?_)
  · rw [zb_0, decide_eq_false_iff_not] at c10
    refine v_run 2 (pc' := 24) (ls' := [some (.ref (ad 200)), some (.int (zI s)), some (.int (zI n))]) (st' := [.int (zI 1), .ref (ad 200)]) rfl ?_
    refine v_callV (My := mX10_refused) (As := [.int (zI 1)]) (rest := []) (mc := 0) (ms := 0) rfl caX10_refused rfl rfl rfl q1.1.1.1 rfl rfl (q_refused G _ 1 q1.1.1.1) rfl rfl (Nat.le_of_ble_eq_true rfl) (by omega) ?_
    rintro _ h99 ⟨rfl, e99⟩
    refine v_run 0 (pc' := 27) (ls' := [some (.ref (ad 200)), some (.int (zI s)), some (.int (zI n))]) (st' := [.int (zI (-1))]) rfl ?_
    rw [show bHook ζ (ρ 2) s n = (-1, 1) from if_pos (by omega)]
    exact v_iret rfl rfl rfl ⟨rfl, q1.fin hA e99⟩
  · rw [zb_0, Bool.not_eq_false, decide_eq_true_eq] at c10
    have hs9 := c10
    refine v_run 3 (pc' := 16) (ls' := [some (.ref (ad 200)), some (.int (zI s)), some (.int (zI n))]) (st' := [.int (zI 1), .int (zI 0), .int (zI n)]) rfl ?_
    refine v_callS (My := mX10_in) (As := [.int (zI n), .int (zI 0), .int (zI 1)]) (rest := []) (mc := 0) (ms := 0) rfl caX10_in rfl rfl (q_in G _ n 0 1 hn (by decide) (by decide)) rfl rfl (Nat.le_of_ble_eq_true rfl) (by omega) ?_
    rintro _ _ ⟨rfl, rfl⟩
    refine v_run 0 (pc' := 19) (ls' := [some (.ref (ad 200)), some (.int (zI s)), some (.int (zI n))]) (st' := [.int (zb (decide (0 ≤ n ∧ n ≤ 1)))]) rfl ?_
    refine v_if_ne rfl (fun c19 => ?_) (fun c19 => ?_)
    · rw [zb_0, Bool.not_eq_false, decide_eq_true_eq] at c19
      have hn9 := c19
      obtain ⟨k, rfl⟩ : ∃ z : Nat, s = ↑z := ⟨s.toNat, by omega⟩
      obtain ⟨t, rfl⟩ : ∃ z : Nat, n = ↑z := ⟨n.toNat, by omega⟩
      refine v_run 2 (pc' := 30) (ls' := [some (.ref (ad 200)), some (.int (zI ↑k)), some (.int (zI ↑t))]) (st' := [.int (zI ↑t), .ref (ad 200)]) rfl ?_
      refine v_if_ne rfl (fun c30 => ?_) (fun c30 => ?_)
      · simp (disch := omega) only [zI_lt, zI_le, zI_eq, zI_lt0, zI_le0, zI_0lt, zI_0le, zI_eq0] at c30
        refine v_run 2 (pc' := 47) (ls' := [some (.ref (ad 200)), some (.int (zI ↑k)), some (.int (zI ↑t))]) (st' := [.int (zI ↑k), .ref (ad 200), .ref (ad 200)]) rfl ?_
        refine v_callV (My := mX10_hangsAt) (As := [.int (zI ↑k)]) (rest := [.ref (ad 200)]) (mc := 0) (ms := 0) rfl caX10_hangsAt rfl rfl rfl q1.1.1.1 rfl rfl (q_hangsAt G _ k hA q1.1.1 hz q1.1.2.1 q1.1.2.2.1 hV (by omega)) rfl rfl (Nat.le_of_ble_eq_true rfl) (by omega) ?_
        rintro _ _ ⟨rfl, rfl⟩
        refine v_run 0 (pc' := 50) (ls' := [some (.ref (ad 200)), some (.int (zI ↑k)), some (.int (zI ↑t))]) (st' := [.int (zI (cWho (ρ 2) k (ζ 5 0))), .ref (ad 200)]) rfl ?_
        refine v_callV (My := mX10_well) (As := [.int (zI (cWho (ρ 2) k (ζ 5 0)))]) (rest := []) (mc := 0) (ms := 0) rfl caX10_well rfl rfl rfl q1.1.1.1 rfl rfl (q_well G _ ((zI (cWho (ρ 2) k (ζ 5 0)))) q1.1.1.1) rfl rfl (Nat.le_of_ble_eq_true rfl) (by omega) ?_
        rintro _ h99 ⟨rfl, e99⟩
        refine v_run 0 (pc' := 53) (ls' := [some (.ref (ad 200)), some (.int (zI ↑k)), some (.int (zI ↑t))]) (st' := [.int ((zI (cWho (ρ 2) k (ζ 5 0))))]) rfl ?_
        rw [show bHook ζ (ρ 2) ↑k ↑t = (cWho (ρ 2) k (ζ 5 0), 0) from by rw [bHook, if_neg (by omega), if_neg (by omega)]; rfl]
        exact v_iret rfl rfl rfl ⟨rfl, q1.fin hA e99⟩
      · simp (disch := omega) only [zI_lt, zI_le, zI_eq, zI_lt0, zI_le0, zI_0lt, zI_0le, zI_eq0] at c30
        refine v_run 1 (pc' := 34) (ls' := [some (.ref (ad 200)), some (.int (zI ↑k)), some (.int (zI ↑t))]) (st' := [.ref (ad 200), .ref (ad 200)]) rfl ?_
        refine v_get rfl q1.1.1.1 rfl ?_
        refine v_run 0 (pc' := 37) (ls' := [some (.ref (ad 200)), some (.int (zI ↑k)), some (.int (zI ↑t))]) (st' := [.ref (ad 210), .ref (ad 200)]) rfl ?_
        refine v_get rfl q1.1.1.2.1.1 rfl ?_
        refine v_run 1 (pc' := 41) (ls' := [some (.ref (ad 200)), some (.int (zI ↑k)), some (.int (zI ↑t))]) (st' := [.int (zI ↑k), .ref (Sf ad 210 12), .ref (ad 200)]) rfl ?_
        refine v_iaload' rfl q1.1.1.2.1.2.1 (i := k) rfl (by omega) ?_
        refine v_run 1 (pc' := 50) (ls' := [some (.ref (ad 200)), some (.int (zI ↑k)), some (.int (zI ↑t))]) (st' := [.int (zI ↑(ζ 12 k)), .ref (ad 200)]) rfl ?_
        refine v_callV (My := mX10_well) (As := [.int (zI ↑(ζ 12 k))]) (rest := []) (mc := 0) (ms := 0) rfl caX10_well rfl rfl rfl q1.1.1.1 rfl rfl (q_well G _ ((zI ↑(ζ 12 k))) q1.1.1.1) rfl rfl (Nat.le_of_ble_eq_true rfl) (by omega) ?_
        rintro _ h99 ⟨rfl, e99⟩
        refine v_run 0 (pc' := 53) (ls' := [some (.ref (ad 200)), some (.int (zI ↑k)), some (.int (zI ↑t))]) (st' := [.int ((zI ↑(ζ 12 k)))]) rfl ?_
        rw [show bHook ζ (ρ 2) ↑k ↑t = (↑(ζ 12 k), 0) from by rw [bHook, if_neg (by omega), if_pos (by omega)]; rfl]
        exact v_iret rfl rfl rfl ⟨rfl, q1.fin hA e99⟩
    · rw [zb_0, decide_eq_false_iff_not] at c19
      refine v_run 2 (pc' := 24) (ls' := [some (.ref (ad 200)), some (.int (zI s)), some (.int (zI n))]) (st' := [.int (zI 1), .ref (ad 200)]) rfl ?_
      refine v_callV (My := mX10_refused) (As := [.int (zI 1)]) (rest := []) (mc := 0) (ms := 0) rfl caX10_refused rfl rfl rfl q1.1.1.1 rfl rfl (q_refused G _ 1 q1.1.1.1) rfl rfl (Nat.le_of_ble_eq_true rfl) (by omega) ?_
      rintro _ h99 ⟨rfl, e99⟩
      refine v_run 0 (pc' := 27) (ls' := [some (.ref (ad 200)), some (.int (zI s)), some (.int (zI n))]) (st' := [.int (zI (-1))]) rfl ?_
      rw [show bHook ζ (ρ 2) s n = (-1, 1) from if_pos (by omega)]
      exact v_iret rfl rfl rfl ⟨rfl, q1.fin hA e99⟩

set_option maxRecDepth 100000 in
set_option maxHeartbeats 400000 in
theorem q_act (G : ssG) (h : ssH) {ad : Nat → Nat} {rv : Value} {m : Nat → Int} {ζ ρ : Nat → Nat → Nat} (s n : Int) (hA : ∀ k l, ad k = ad l → k = l) (ht : MT h ad rv m ζ ρ) (hz : SaOk ζ) (hV : XOk (ρ 2)) (hd : ρ 2 23 ≤ 99) (hs : -2147483648 ≤ s ∧ s < 2147483648) (hn : -2147483648 ≤ n ∧ n < 2147483648) : ssC G mX10_act 6 0 0 [.ref (ad 200), .int (zI s), .int (zI n)] h (mR ζ rv m ρ ad h ↑(bAct ζ (ρ 2) s n).2 (.int (zI (bAct ζ (ρ 2) s n).1))) := by
  refine c_of_v okX10_act (by decide +kernel) (ls := [some (.ref (ad 200)), some (.int (zI s)), some (.int (zI n))]) rfl (Nat.le_of_ble_eq_true rfl) ?_
  obtain ⟨z0, z1, z2, z3, z4, z5, z6, z9, z12, z13, z14, z15, z16, z17, z18, z19, z20⟩ := id hz
  refine v_run 2 (pc' := 2) (ls' := [some (.ref (ad 200)), some (.int (zI s)), some (.int (zI n))]) (st' := [.int (zI 0), .ref (ad 200)]) rfl ?_
  refine v_put rfl ht.1.1 rfl rfl (Nat.le_of_ble_eq_true rfl) ?_
  generalize e1 : hset h (ad 200) _ = h1
  have q1 : MQs h ad rv (mU m 0 0) ζ ρ h1 (mU m 0 0) ρ := ⟨ht.ob hA e1, mSm.rf _, rSm.rf ρ, (frM.rf ad h).ob e1⟩
  refine v_run 2 (pc' := 7) (ls' := [some (.ref (ad 200)), some (.int (zI s)), some (.int (zI n))]) (st' := [.int (zI s), .ref (ad 200)]) rfl ?_
  refine v_callV (My := mX10_isAct) (As := [.int (zI s)]) (rest := []) (mc := 0) (ms := 0) rfl caX10_isAct rfl rfl rfl q1.1.1.1 rfl rfl (q_isAct G _ s hA q1.1.1 hz q1.1.2.1 hs) rfl rfl (Nat.le_of_ble_eq_true rfl) (by omega) ?_
  rintro _ _ ⟨rfl, rfl⟩
  refine v_run 0 (pc' := 10) (ls' := [some (.ref (ad 200)), some (.int (zI s)), some (.int (zI n))]) (st' := [.int (zb (decide (0 ≤ s ∧ s < ↑(ζ 6 0))))]) rfl ?_
  refine v_if_eq rfl (fun c10 => ?_) (fun c10 => ?_)
  · rw [zb_0, decide_eq_false_iff_not] at c10
    refine v_run 2 (pc' := 24) (ls' := [some (.ref (ad 200)), some (.int (zI s)), some (.int (zI n))]) (st' := [.int (zI 1), .ref (ad 200)]) rfl ?_
    refine v_callV (My := mX10_refused) (As := [.int (zI 1)]) (rest := []) (mc := 0) (ms := 0) rfl caX10_refused rfl rfl rfl q1.1.1.1 rfl rfl (q_refused G _ 1 q1.1.1.1) rfl rfl (Nat.le_of_ble_eq_true rfl) (by omega) ?_
    rintro _ h99 ⟨rfl, e99⟩
    refine v_run 0 (pc' := 27) (ls' := [some (.ref (ad 200)), some (.int (zI s)), some (.int (zI n))]) (st' := [.int (zI (-1))]) rfl ?_
    rw [show bAct ζ (ρ 2) s n = (-1, 1) from if_pos (by omega)]
    exact v_iret rfl rfl rfl ⟨rfl, q1.fin hA e99⟩
  · rw [zb_0, Bool.not_eq_false, decide_eq_true_eq] at c10
    have hs9 := c10
    refine v_run 3 (pc' := 16) (ls' := [some (.ref (ad 200)), some (.int (zI s)), some (.int (zI n))]) (st' := [.int (zI 3), .int (zI 0), .int (zI n)]) rfl ?_
    refine v_callS (My := mX10_in) (As := [.int (zI n), .int (zI 0), .int (zI 3)]) (rest := []) (mc := 0) (ms := 0) rfl caX10_in rfl rfl (q_in G _ n 0 3 hn (by decide) (by decide)) rfl rfl (Nat.le_of_ble_eq_true rfl) (by omega) ?_
    rintro _ _ ⟨rfl, rfl⟩
    refine v_run 0 (pc' := 19) (ls' := [some (.ref (ad 200)), some (.int (zI s)), some (.int (zI n))]) (st' := [.int (zb (decide (0 ≤ n ∧ n ≤ 3)))]) rfl ?_
    refine v_if_ne rfl (fun c19 => ?_) (fun c19 => ?_)
    · rw [zb_0, Bool.not_eq_false, decide_eq_true_eq] at c19
      have hn9 := c19
      obtain ⟨k, rfl⟩ : ∃ z : Nat, s = ↑z := ⟨s.toNat, by omega⟩
      obtain ⟨t, rfl⟩ : ∃ z : Nat, n = ↑z := ⟨n.toNat, by omega⟩
      have hA0 : ∀ x : Int × Nat, bActN ζ (ρ 2) k t = x → bAct ζ (ρ 2) ↑k ↑t = x := fun x hx => by rw [bAct, if_neg (by omega)]; exact hx
      refine v_run 1 (pc' := 29) (ls' := [some (.ref (ad 200)), some (.int (zI ↑k)), some (.int (zI ↑t))]) (st' := [.int (zI ↑t)]) rfl ?_
      rcases (show t = 0 ∨ t = 1 ∨ t = 2 ∨ t = 3 by omega) with rfl | rfl | rfl | rfl
      · refine v_tabIn (off := 27) (t := 56) rfl (by decide +kernel) (by decide +kernel) (by decide +kernel) (by decide) ?_
        refine v_run 2 (pc' := 58) (ls' := [some (.ref (ad 200)), some (.int (zI ↑k)), some (.int (zI ↑(0 : Nat)))]) (st' := [.ref (ad 200), .ref (ad 200)]) rfl ?_
        refine v_get rfl q1.1.1.1 rfl ?_
        refine v_run 0 (pc' := 61) (ls' := [some (.ref (ad 200)), some (.int (zI ↑k)), some (.int (zI ↑(0 : Nat)))]) (st' := [.ref (ad 210), .ref (ad 200)]) rfl ?_
        refine v_get rfl q1.1.1.2.1.1 rfl ?_
        refine v_run 1 (pc' := 65) (ls' := [some (.ref (ad 200)), some (.int (zI ↑k)), some (.int (zI ↑(0 : Nat)))]) (st' := [.int (zI ↑k), .ref (Sf ad 210 17), .ref (ad 200)]) rfl ?_
        refine v_iaload' rfl q1.1.1.2.1.2.2.2.2.2.2.1 (i := k) rfl (by omega) ?_
        refine v_run 0 (pc' := 66) (ls' := [some (.ref (ad 200)), some (.int (zI ↑k)), some (.int (zI ↑(0 : Nat)))]) (st' := [.int (zI ↑(ζ 17 k)), .ref (ad 200)]) rfl ?_
        refine v_callV (My := mX10_well) (As := [.int (zI ↑(ζ 17 k))]) (rest := []) (mc := 0) (ms := 0) rfl caX10_well rfl rfl rfl q1.1.1.1 rfl rfl (q_well G _ ((zI ↑(ζ 17 k))) q1.1.1.1) rfl rfl (Nat.le_of_ble_eq_true rfl) (by omega) ?_
        rintro _ h99 ⟨rfl, e99⟩
        refine v_run 0 (pc' := 69) (ls' := [some (.ref (ad 200)), some (.int (zI ↑k)), some (.int (zI ↑(0 : Nat)))]) (st' := [.int ((zI ↑(ζ 17 k)))]) rfl ?_
        rw [show bAct ζ (ρ 2) ↑k ↑(0 : Nat) = (↑(ζ 17 k), 0) from hA0 _ rfl]
        exact v_iret rfl rfl rfl ⟨rfl, q1.fin hA e99⟩
      · refine v_tabIn (off := 41) (t := 70) rfl (by decide +kernel) (by decide +kernel) (by decide +kernel) (by decide) ?_
        refine v_run 2 (pc' := 72) (ls' := [some (.ref (ad 200)), some (.int (zI ↑k)), some (.int (zI ↑(1 : Nat)))]) (st' := [.ref (ad 200), .ref (ad 200)]) rfl ?_
        refine v_get rfl q1.1.1.1 rfl ?_
        refine v_run 0 (pc' := 75) (ls' := [some (.ref (ad 200)), some (.int (zI ↑k)), some (.int (zI ↑(1 : Nat)))]) (st' := [.ref (ad 210), .ref (ad 200)]) rfl ?_
        refine v_get rfl q1.1.1.2.1.1 rfl ?_
        refine v_run 1 (pc' := 79) (ls' := [some (.ref (ad 200)), some (.int (zI ↑k)), some (.int (zI ↑(1 : Nat)))]) (st' := [.int (zI ↑k), .ref (Sf ad 210 18), .ref (ad 200)]) rfl ?_
        refine v_iaload' rfl q1.1.1.2.1.2.2.2.2.2.2.2.1 (i := k) rfl (by omega) ?_
        refine v_run 0 (pc' := 80) (ls' := [some (.ref (ad 200)), some (.int (zI ↑k)), some (.int (zI ↑(1 : Nat)))]) (st' := [.int (zI ↑(ζ 18 k)), .ref (ad 200)]) rfl ?_
        refine v_callV (My := mX10_well) (As := [.int (zI ↑(ζ 18 k))]) (rest := []) (mc := 0) (ms := 0) rfl caX10_well rfl rfl rfl q1.1.1.1 rfl rfl (q_well G _ ((zI ↑(ζ 18 k))) q1.1.1.1) rfl rfl (Nat.le_of_ble_eq_true rfl) (by omega) ?_
        rintro _ h99 ⟨rfl, e99⟩
        refine v_run 0 (pc' := 83) (ls' := [some (.ref (ad 200)), some (.int (zI ↑k)), some (.int (zI ↑(1 : Nat)))]) (st' := [.int ((zI ↑(ζ 18 k)))]) rfl ?_
        rw [show bAct ζ (ρ 2) ↑k ↑(1 : Nat) = (↑(ζ 18 k), 0) from hA0 _ rfl]
        exact v_iret rfl rfl rfl ⟨rfl, q1.fin hA e99⟩
      · refine v_tabIn (off := 55) (t := 84) rfl (by decide +kernel) (by decide +kernel) (by decide +kernel) (by decide) ?_
        refine v_run 2 (pc' := 86) (ls' := [some (.ref (ad 200)), some (.int (zI ↑k)), some (.int (zI ↑(2 : Nat)))]) (st' := [.ref (ad 200), .ref (ad 200)]) rfl ?_
        refine v_get rfl q1.1.1.1 rfl ?_
        refine v_run 0 (pc' := 89) (ls' := [some (.ref (ad 200)), some (.int (zI ↑k)), some (.int (zI ↑(2 : Nat)))]) (st' := [.ref (ad 210), .ref (ad 200)]) rfl ?_
        refine v_get rfl q1.1.1.2.1.1 rfl ?_
        refine v_run 1 (pc' := 93) (ls' := [some (.ref (ad 200)), some (.int (zI ↑k)), some (.int (zI ↑(2 : Nat)))]) (st' := [.int (zI ↑k), .ref (Sf ad 210 19), .ref (ad 200)]) rfl ?_
        refine v_iaload' rfl q1.1.1.2.1.2.2.2.2.2.2.2.2.1 (i := k) rfl (by omega) ?_
        refine v_run 0 (pc' := 94) (ls' := [some (.ref (ad 200)), some (.int (zI ↑k)), some (.int (zI ↑(2 : Nat)))]) (st' := [.int (zI ↑(ζ 19 k)), .ref (ad 200)]) rfl ?_
        refine v_callV (My := mX10_well) (As := [.int (zI ↑(ζ 19 k))]) (rest := []) (mc := 0) (ms := 0) rfl caX10_well rfl rfl rfl q1.1.1.1 rfl rfl (q_well G _ ((zI ↑(ζ 19 k))) q1.1.1.1) rfl rfl (Nat.le_of_ble_eq_true rfl) (by omega) ?_
        rintro _ h99 ⟨rfl, e99⟩
        refine v_run 0 (pc' := 97) (ls' := [some (.ref (ad 200)), some (.int (zI ↑k)), some (.int (zI ↑(2 : Nat)))]) (st' := [.int ((zI ↑(ζ 19 k)))]) rfl ?_
        rw [show bAct ζ (ρ 2) ↑k ↑(2 : Nat) = (↑(ζ 19 k), 0) from hA0 _ rfl]
        exact v_iret rfl rfl rfl ⟨rfl, q1.fin hA e99⟩
      · refine v_tabOut (t := 98) rfl (by decide +kernel) (by decide) ?_
        refine v_run 2 (pc' := 100) (ls' := [some (.ref (ad 200)), some (.int (zI ↑k)), some (.int (zI ↑(3 : Nat)))]) (st' := [.ref (ad 200), .ref (ad 200)]) rfl ?_
        refine v_callV (My := mX10_goingNow) (As := []) (rest := [.ref (ad 200)]) (mc := 0) (ms := 0) rfl caX10_goingNow rfl rfl rfl q1.1.1.1 rfl rfl (q_goingNow G _ hA q1.1.1 hz q1.1.2.1 q1.1.2.2.1 hV hd) rfl rfl (Nat.le_of_ble_eq_true rfl) (by omega) ?_
        rintro _ h3 ⟨rfl, e3⟩
        have q3 : MQs h ad rv (mU m 0 0) ζ ρ h3 (mU m 0 0) (rU ρ 3 (mPut ζ (ρ 2))) := q1.xs hA e3 (mDs_ok hz hV _)
        refine v_run 0 (pc' := 103) (ls' := [some (.ref (ad 200)), some (.int (zI ↑k)), some (.int (zI ↑(3 : Nat)))]) (st' := [.int (zI ↑(mGo ζ (mPut ζ (ρ 2)) 0)), .ref (ad 200)]) rfl ?_
        have g32 : mGo ζ (mPut ζ (ρ 2)) 0 < 32 := cGfp_lt z6
        refine v_run 1 (pc' := 104) (ls' := [some (.ref (ad 200)), some (.int (zI ↑k)), some (.int (zI ↑(3 : Nat)))]) (st' := [.int (zI ↑k), .int (zI ↑(mGo ζ (mPut ζ (ρ 2)) 0)), .ref (ad 200)]) rfl ?_
        refine v_callS (My := mX10_bit) (As := [.int (zI ↑(mGo ζ (mPut ζ (ρ 2)) 0)), .int (zI ↑k)]) (rest := [.ref (ad 200)]) (mc := 0) (ms := 0) rfl caX10_bit rfl rfl (q_bit G _ (mGo ζ (mPut ζ (ρ 2)) 0) k (by omega) (by omega)) rfl rfl (Nat.le_of_ble_eq_true rfl) (by omega) ?_
        rintro _ _ ⟨rfl, rfl⟩
        refine v_run 0 (pc' := 107) (ls' := [some (.ref (ad 200)), some (.int (zI ↑k)), some (.int (zI ↑(3 : Nat)))]) (st' := [.int (zb (bitN (mGo ζ (mPut ζ (ρ 2)) 0) k)), .ref (ad 200)]) rfl ?_
        refine v_if_eq rfl (fun c107 => ?_) (fun c107 => ?_)
        · rw [zb_0] at c107
          refine v_run 1 (pc' := 115) (ls' := [some (.ref (ad 200)), some (.int (zI ↑k)), some (.int (zI ↑(3 : Nat)))]) (st' := [.int (zI 0), .ref (ad 200)]) rfl ?_
          refine v_callV (My := mX10_well) (As := [.int (zI 0)]) (rest := []) (mc := 0) (ms := 0) rfl caX10_well rfl rfl rfl q3.1.1.1 rfl rfl (q_well G _ ((zI 0)) q3.1.1.1) rfl rfl (Nat.le_of_ble_eq_true rfl) (by omega) ?_
          rintro _ h99 ⟨rfl, e99⟩
          refine v_run 0 (pc' := 118) (ls' := [some (.ref (ad 200)), some (.int (zI ↑k)), some (.int (zI ↑(3 : Nat)))]) (st' := [.int ((zI 0))]) rfl ?_
          rw [show bAct ζ (ρ 2) ↑k ↑(3 : Nat) = (0, 0) from hA0 _ (by show (if bitN (mGo ζ (mPut ζ (ρ 2)) 0) k = true then (1, 0) else (0, 0) : Int × Nat) = _; rw [c107]; rfl)]
          exact v_iret rfl rfl rfl ⟨rfl, q3.fin hA e99⟩
        · rw [zb_0, Bool.not_eq_false] at c107
          refine v_run 2 (pc' := 115) (ls' := [some (.ref (ad 200)), some (.int (zI ↑k)), some (.int (zI ↑(3 : Nat)))]) (st' := [.int (zI 1), .ref (ad 200)]) rfl ?_
          refine v_callV (My := mX10_well) (As := [.int (zI 1)]) (rest := []) (mc := 0) (ms := 0) rfl caX10_well rfl rfl rfl q3.1.1.1 rfl rfl (q_well G _ ((zI 1)) q3.1.1.1) rfl rfl (Nat.le_of_ble_eq_true rfl) (by omega) ?_
          rintro _ h99 ⟨rfl, e99⟩
          refine v_run 0 (pc' := 118) (ls' := [some (.ref (ad 200)), some (.int (zI ↑k)), some (.int (zI ↑(3 : Nat)))]) (st' := [.int ((zI 1))]) rfl ?_
          rw [show bAct ζ (ρ 2) ↑k ↑(3 : Nat) = (1, 0) from hA0 _ (by show (if bitN (mGo ζ (mPut ζ (ρ 2)) 0) k = true then (1, 0) else (0, 0) : Int × Nat) = _; rw [c107]; rfl)]
          exact v_iret rfl rfl rfl ⟨rfl, q3.fin hA e99⟩
    · rw [zb_0, decide_eq_false_iff_not] at c19
      refine v_run 2 (pc' := 24) (ls' := [some (.ref (ad 200)), some (.int (zI s)), some (.int (zI n))]) (st' := [.int (zI 1), .ref (ad 200)]) rfl ?_
      refine v_callV (My := mX10_refused) (As := [.int (zI 1)]) (rest := []) (mc := 0) (ms := 0) rfl caX10_refused rfl rfl rfl q1.1.1.1 rfl rfl (q_refused G _ 1 q1.1.1.1) rfl rfl (Nat.le_of_ble_eq_true rfl) (by omega) ?_
      rintro _ h99 ⟨rfl, e99⟩
      refine v_run 0 (pc' := 27) (ls' := [some (.ref (ad 200)), some (.int (zI s)), some (.int (zI n))]) (st' := [.int (zI (-1))]) rfl ?_
      rw [show bAct ζ (ρ 2) s n = (-1, 1) from if_pos (by omega)]
      exact v_iret rfl rfl rfl ⟨rfl, q1.fin hA e99⟩

set_option maxRecDepth 100000 in
set_option maxHeartbeats 400000 in
theorem q_fallsWith (G : ssG) (h : ssH) {ad : Nat → Nat} {rv : Value} {m : Nat → Int} {ζ ρ : Nat → Nat → Nat} (s : Int) (hA : ∀ k l, ad k = ad l → k = l) (ht : MT h ad rv m ζ ρ) (hz : SaOk ζ) (hV : XOk (ρ 2)) (hd : ρ 2 23 ≤ 99) (hs : -2147483648 ≤ s ∧ s < 2147483648) : ssC G mX10_fallsWith 1 0 0 [.ref (ad 200), .int (zI s)] h (mR ζ rv m ρ ad h ↑(bFalls ζ s).2 (.int (zI (bFalls ζ s).1))) := by
  refine c_of_v okX10_fallsWith (by decide +kernel) (ls := [some (.ref (ad 200)), some (.int (zI s))]) rfl (Nat.le_of_ble_eq_true rfl) ?_
  obtain ⟨z0, z1, z2, z3, z4, z5, z6, z9, z12, z13, z14, z15, z16, z17, z18, z19, z20⟩ := id hz
  refine v_run 2 (pc' := 2) (ls' := [some (.ref (ad 200)), some (.int (zI s))]) (st' := [.int (zI 0), .ref (ad 200)]) rfl ?_
  refine v_put rfl ht.1.1 rfl rfl (Nat.le_of_ble_eq_true rfl) ?_
  generalize e1 : hset h (ad 200) _ = h1
  have q1 : MQs h ad rv (mU m 0 0) ζ ρ h1 (mU m 0 0) ρ := ⟨ht.ob hA e1, mSm.rf _, rSm.rf ρ, (frM.rf ad h).ob e1⟩
  refine v_run 2 (pc' := 7) (ls' := [some (.ref (ad 200)), some (.int (zI s))]) (st' := [.int (zI s), .ref (ad 200)]) rfl ?_
  refine v_callV (My := mX10_isAct) (As := [.int (zI s)]) (rest := []) (mc := 0) (ms := 0) rfl caX10_isAct rfl rfl rfl q1.1.1.1 rfl rfl (q_isAct G _ s hA q1.1.1 hz q1.1.2.1 hs) rfl rfl (Nat.le_of_ble_eq_true rfl) (by omega) ?_
  rintro _ _ ⟨rfl, rfl⟩
  refine v_run 0 (pc' := 10) (ls' := [some (.ref (ad 200)), some (.int (zI s))]) (st' := [.int (zb (decide (0 ≤ s ∧ s < ↑(ζ 6 0))))]) rfl ?_
  refine v_if_eq rfl (fun c10 => ?_) (fun c10 => ?_)
  · rw [zb_0, decide_eq_false_iff_not] at c10
    refine v_run 2 (pc' := 29) (ls' := [some (.ref (ad 200)), some (.int (zI s))]) (st' := [.int (zI 1), .ref (ad 200)]) rfl ?_
    refine v_callV (My := mX10_refused) (As := [.int (zI 1)]) (rest := []) (mc := 0) (ms := 0) rfl caX10_refused rfl rfl rfl q1.1.1.1 rfl rfl (q_refused G _ 1 q1.1.1.1) rfl rfl (Nat.le_of_ble_eq_true rfl) (by omega) ?_
    rintro _ h99 ⟨rfl, e99⟩
    refine v_run 0 (pc' := 32) (ls' := [some (.ref (ad 200)), some (.int (zI s))]) (st' := [.int (zI (-1))]) rfl ?_
    rw [show bFalls ζ s = (-1, 1) from if_pos c10]
    exact v_iret rfl rfl rfl ⟨rfl, q1.fin hA e99⟩
  · rw [zb_0, Bool.not_eq_false, decide_eq_true_eq] at c10
    have hs9 := c10
    obtain ⟨k, rfl⟩ : ∃ z : Nat, s = ↑z := ⟨s.toNat, by omega⟩
    have p5 := Nat.pow_lt_pow_right (a := 2) (by decide) (show k < 5 by omega)
    refine v_run 5 (pc' := 18) (ls' := [some (.ref (ad 200)), some (.int (zI ↑k))]) (st' := [.int ((zI 1) <<< ((zI ↑k) &&& 31)), .ref (ad 200), .ref (ad 200)]) rfl ?_
    rw [show ((zI 1) <<< ((zI ↑k) &&& 31) : Int32) = zI ↑(2 ^ k) from zI_1shl (by omega)]
    refine v_callV (My := mX10_fallen) (As := [.int (zI ↑(2 ^ k))]) (rest := [.ref (ad 200)]) (mc := 0) (ms := 0) rfl caX10_fallen rfl rfl rfl q1.1.1.1 rfl rfl (q_fallen G _ (2 ^ k) hA q1.1.1 hz q1.1.2.1 (by omega)) rfl rfl (Nat.le_of_ble_eq_true rfl) (by omega) ?_
    rintro _ _ ⟨rfl, rfl⟩
    refine v_run 0 (pc' := 21) (ls' := [some (.ref (ad 200)), some (.int (zI ↑k))]) (st' := [.int (zI ↑(fwO (ζ 19) (ζ 6 0) (ζ 6 0) (2 ^ k))), .ref (ad 200)]) rfl ?_
    refine v_callV (My := mX10_well) (As := [.int (zI ↑(fwO (ζ 19) (ζ 6 0) (ζ 6 0) (2 ^ k)))]) (rest := []) (mc := 0) (ms := 0) rfl caX10_well rfl rfl rfl q1.1.1.1 rfl rfl (q_well G _ ((zI ↑(fwO (ζ 19) (ζ 6 0) (ζ 6 0) (2 ^ k)))) q1.1.1.1) rfl rfl (Nat.le_of_ble_eq_true rfl) (by omega) ?_
    rintro _ h99 ⟨rfl, e99⟩
    refine v_run 0 (pc' := 24) (ls' := [some (.ref (ad 200)), some (.int (zI ↑k))]) (st' := [.int ((zI ↑(fwO (ζ 19) (ζ 6 0) (ζ 6 0) (2 ^ k))))]) rfl ?_
    refine v_run 1 (pc' := 32) (ls' := [some (.ref (ad 200)), some (.int (zI ↑k))]) (st' := [.int ((zI ↑(fwO (ζ 19) (ζ 6 0) (ζ 6 0) (2 ^ k))))]) rfl ?_
    rw [show bFalls ζ ↑k = (↑(fwO (ζ 19) (ζ 6 0) (ζ 6 0) (2 ^ k)), 0) from if_neg (by simpa using hs9)]
    exact v_iret rfl rfl rfl ⟨rfl, q1.fin hA e99⟩

set_option maxRecDepth 100000 in
set_option maxHeartbeats 400000 in
theorem q_wire (G : ssG) (h : ssH) {ad : Nat → Nat} {rv : Value} {m : Nat → Int} {ζ ρ : Nat → Nat → Nat} (s : Int) (b1 b2 b3 : Bool) (hA : ∀ k l, ad k = ad l → k = l) (ht : MT h ad rv m ζ ρ) (hz : SaOk ζ) (hV : XOk (ρ 2)) (hd : ρ 2 23 ≤ 99) (hs : -2147483648 ≤ s ∧ s < 2147483648) : ssC G mX10_wire 2 0 0 [.ref (ad 200), .int (zI s), .int (zb b1), .int (zb b2), .int (zb b3)] h (mR ζ rv m ρ ad h ↑(bWire s b1 b2 b3).2 (.int (zI (bWire s b1 b2 b3).1))) := by
  refine c_of_v okX10_wire (by decide +kernel) (ls := [some (.ref (ad 200)), some (.int (zI s)), some (.int (zb b1)), some (.int (zb b2)), some (.int (zb b3)), none]) rfl (Nat.le_of_ble_eq_true rfl) ?_
  obtain ⟨z0, z1, z2, z3, z4, z5, z6, z9, z12, z13, z14, z15, z16, z17, z18, z19, z20⟩ := id hz
  refine v_run 2 (pc' := 2) (ls' := [some (.ref (ad 200)), some (.int (zI s)), some (.int (zb b1)), some (.int (zb b2)), some (.int (zb b3)), none]) (st' := [.int (zI 0), .ref (ad 200)]) rfl ?_
  refine v_put rfl ht.1.1 rfl rfl (Nat.le_of_ble_eq_true rfl) ?_
  generalize e1 : hset h (ad 200) _ = h1
  have q1 : MQs h ad rv (mU m 0 0) ζ ρ h1 (mU m 0 0) ρ := ⟨ht.ob hA e1, mSm.rf _, rSm.rf ρ, (frM.rf ad h).ob e1⟩
  refine v_run 2 (pc' := 7) (ls' := [some (.ref (ad 200)), some (.int (zI s)), some (.int (zb b1)), some (.int (zb b2)), some (.int (zb b3)), none]) (st' := [.int (zI s), .ref (ad 200)]) rfl ?_
  refine v_callV (My := mX10_refusesWorth) (As := [.int (zI s)]) (rest := []) (mc := 0) (ms := 0) rfl caX10_refusesWorth rfl rfl rfl q1.1.1.1 rfl rfl (q_refusesWorth G _ s hA q1.1.1 hz q1.1.2.1 hs) rfl rfl (Nat.le_of_ble_eq_true rfl) (by omega) ?_
  rintro _ _ ⟨rfl, rfl⟩
  refine v_run 0 (pc' := 10) (ls' := [some (.ref (ad 200)), some (.int (zI s)), some (.int (zb b1)), some (.int (zb b2)), some (.int (zb b3)), none]) (st' := [.int (zI ↑((if s < 0 ∨ 20 < s then 2 else 0 : Nat)))]) rfl ?_
  have wy : (if s < 0 ∨ 20 < s then 2 else 0 : Nat) ≤ 6 := by split <;> decide
  refine v_run 2 (pc' := 14) (ls' := [some (.ref (ad 200)), some (.int (zI s)), some (.int (zb b1)), some (.int (zb b2)), some (.int (zb b3)), some (.int (zI ↑((if s < 0 ∨ 20 < s then 2 else 0 : Nat))))]) (st' := [.int (zI ↑((if s < 0 ∨ 20 < s then 2 else 0 : Nat)))]) rfl ?_
  refine v_if_le rfl (fun c14 => ?_) (fun c14 => ?_)
  · simp (disch := omega) only [zI_lt, zI_le, zI_eq, zI_lt0, zI_le0, zI_0lt, zI_0le, zI_eq0] at c14
    have w0 : ¬ (s < 0 ∨ 20 < s) := fun q => by rw [if_pos q] at c14; omega
    obtain ⟨k, rfl⟩ : ∃ z : Nat, s = ↑z := ⟨s.toNat, by omega⟩
    refine v_drop 5 (ls' := [some (.ref (ad 200)), some (.int (zI ↑k)), some (.int (zb b1)), some (.int (zb b2)), some (.int (zb b3)), none]) rfl ?_
    refine v_run 2 (pc' := 29) (ls' := [some (.ref (ad 200)), some (.int (zI ↑k)), some (.int (zb b1)), some (.int (zb b2)), some (.int (zb b3)), none]) (st' := [.int (zb b3), .ref (ad 200)]) rfl ?_
    refine v_if_eq rfl (fun c29 => ?_) (fun c29 => ?_)
    · rw [zb_0] at c29
      refine v_run 3 (pc' := 44) (ls' := [some (.ref (ad 200)), some (.int (zI ↑k)), some (.int (zb b1)), some (.int (zb b2)), some (.int (zb b3)), none]) (st' := [.int (zb b2), .int (zb b1), .int (zI ↑k), .ref (ad 200)]) rfl ?_
      refine v_callS (My := mX10_gets) (As := [.int (zI ↑k), .int (zb b1), .int (zb b2)]) (rest := [.ref (ad 200)]) (mc := 0) (ms := 0) rfl caX10_gets rfl rfl (q_gets G _ k b1 b2 (by omega)) rfl rfl (Nat.le_of_ble_eq_true rfl) (by omega) ?_
      rintro _ _ ⟨rfl, rfl⟩
      refine v_run 0 (pc' := 47) (ls' := [some (.ref (ad 200)), some (.int (zI ↑k)), some (.int (zb b1)), some (.int (zb b2)), some (.int (zb b3)), none]) (st' := [.int (zI (cShare k b1 b2)), .ref (ad 200)]) rfl ?_
      refine v_callV (My := mX10_well) (As := [.int (zI (cShare k b1 b2))]) (rest := []) (mc := 0) (ms := 0) rfl caX10_well rfl rfl rfl q1.1.1.1 rfl rfl (q_well G _ ((zI (cShare k b1 b2))) q1.1.1.1) rfl rfl (Nat.le_of_ble_eq_true rfl) (by omega) ?_
      rintro _ h99 ⟨rfl, e99⟩
      refine v_run 0 (pc' := 50) (ls' := [some (.ref (ad 200)), some (.int (zI ↑k)), some (.int (zb b1)), some (.int (zb b2)), some (.int (zb b3)), none]) (st' := [.int ((zI (cShare k b1 b2)))]) rfl ?_
      rw [show bWire ↑k b1 b2 b3 = (cShare k b1 b2, 0) from by rw [bWire, if_neg (by rw [if_neg (by omega)]; omega), c29]; rfl]
      exact v_iret rfl rfl rfl ⟨rfl, q1.fin hA e99⟩
    · rw [zb_0, Bool.not_eq_false] at c29
      refine v_run 3 (pc' := 35) (ls' := [some (.ref (ad 200)), some (.int (zI ↑k)), some (.int (zb b1)), some (.int (zb b2)), some (.int (zb b3)), none]) (st' := [.int (zb b1), .int (zb b2), .int (zI ↑k), .ref (ad 200)]) rfl ?_
      refine v_callS (My := mX10_gets) (As := [.int (zI ↑k), .int (zb b2), .int (zb b1)]) (rest := [.ref (ad 200)]) (mc := 0) (ms := 0) rfl caX10_gets rfl rfl (q_gets G _ k b2 b1 (by omega)) rfl rfl (Nat.le_of_ble_eq_true rfl) (by omega) ?_
      rintro _ _ ⟨rfl, rfl⟩
      refine v_run 0 (pc' := 38) (ls' := [some (.ref (ad 200)), some (.int (zI ↑k)), some (.int (zb b1)), some (.int (zb b2)), some (.int (zb b3)), none]) (st' := [.int (zI (cShare k b2 b1)), .ref (ad 200)]) rfl ?_
      refine v_run 1 (pc' := 47) (ls' := [some (.ref (ad 200)), some (.int (zI ↑k)), some (.int (zb b1)), some (.int (zb b2)), some (.int (zb b3)), none]) (st' := [.int (zI (cShare k b2 b1)), .ref (ad 200)]) rfl ?_
      refine v_callV (My := mX10_well) (As := [.int (zI (cShare k b2 b1))]) (rest := []) (mc := 0) (ms := 0) rfl caX10_well rfl rfl rfl q1.1.1.1 rfl rfl (q_well G _ ((zI (cShare k b2 b1))) q1.1.1.1) rfl rfl (Nat.le_of_ble_eq_true rfl) (by omega) ?_
      rintro _ h99 ⟨rfl, e99⟩
      refine v_run 0 (pc' := 50) (ls' := [some (.ref (ad 200)), some (.int (zI ↑k)), some (.int (zb b1)), some (.int (zb b2)), some (.int (zb b3)), none]) (st' := [.int ((zI (cShare k b2 b1)))]) rfl ?_
      rw [show bWire ↑k b1 b2 b3 = (cShare k b2 b1, 0) from by rw [bWire, if_neg (by rw [if_neg (by omega)]; omega), c29]; rfl]
      exact v_iret rfl rfl rfl ⟨rfl, q1.fin hA e99⟩
  · simp (disch := omega) only [zI_lt, zI_le, zI_eq, zI_lt0, zI_le0, zI_0lt, zI_0le, zI_eq0] at c14
    refine v_run 2 (pc' := 20) (ls' := [some (.ref (ad 200)), some (.int (zI s)), some (.int (zb b1)), some (.int (zb b2)), some (.int (zb b3)), some (.int (zI ↑((if s < 0 ∨ 20 < s then 2 else 0 : Nat))))]) (st' := [.int (zI ↑((if s < 0 ∨ 20 < s then 2 else 0 : Nat))), .ref (ad 200)]) rfl ?_
    refine v_callV (My := mX10_lost) (As := [.int (zI ↑((if s < 0 ∨ 20 < s then 2 else 0 : Nat)))]) (rest := []) (mc := 0) (ms := 0) rfl caX10_lost rfl rfl rfl q1.1.1.1 rfl rfl (q_lost G _ ↑(if s < 0 ∨ 20 < s then 2 else 0 : Nat) q1.1.1.1) rfl rfl (Nat.le_of_ble_eq_true rfl) (by omega) ?_
    rintro _ h99 ⟨rfl, e99⟩
    refine v_run 0 (pc' := 23) (ls' := [some (.ref (ad 200)), some (.int (zI s)), some (.int (zb b1)), some (.int (zb b2)), some (.int (zb b3)), some (.int (zI ↑((if s < 0 ∨ 20 < s then 2 else 0 : Nat))))]) (st' := [.int (zI (-100))]) rfl ?_
    refine v_run 1 (pc' := 50) (ls' := [some (.ref (ad 200)), some (.int (zI s)), some (.int (zb b1)), some (.int (zb b2)), some (.int (zb b3)), some (.int (zI ↑((if s < 0 ∨ 20 < s then 2 else 0 : Nat))))]) (st' := [.int (zI (-100))]) rfl ?_
    rw [show bWire s b1 b2 b3 = (-100, (if s < 0 ∨ 20 < s then 2 else 0 : Nat)) from if_pos (by omega)]
    exact v_iret rfl rfl rfl ⟨rfl, q1.fin hA e99⟩

set_option maxRecDepth 100000 in
set_option maxHeartbeats 400000 in
theorem q_rests (G : ssG) (h : ssH) {ad : Nat → Nat} {rv : Value} {m : Nat → Int} {ζ ρ : Nat → Nat → Nat} (s : Int) (hA : ∀ k l, ad k = ad l → k = l) (ht : MT h ad rv m ζ ρ) (hz : SaOk ζ) (hV : XOk (ρ 2)) (hd : ρ 2 23 ≤ 99) (hs : -2147483648 ≤ s ∧ s < 2147483648) : ssC G mX10_rests 2 0 0 [.ref (ad 200), .int (zI s)] h (mR ζ rv m ρ ad h ↑(bRests s).2 (.int (zI (bRests s).1))) := by
  refine c_of_v okX10_rests (by decide +kernel) (ls := [some (.ref (ad 200)), some (.int (zI s)), none, none, none]) rfl (Nat.le_of_ble_eq_true rfl) ?_
  obtain ⟨z0, z1, z2, z3, z4, z5, z6, z9, z12, z13, z14, z15, z16, z17, z18, z19, z20⟩ := id hz
  refine v_run 2 (pc' := 2) (ls' := [some (.ref (ad 200)), some (.int (zI s)), none, none, none]) (st' := [.int (zI 0), .ref (ad 200)]) rfl ?_
  refine v_put rfl ht.1.1 rfl rfl (Nat.le_of_ble_eq_true rfl) ?_
  generalize e1 : hset h (ad 200) _ = h1
  have q1 : MQs h ad rv (mU m 0 0) ζ ρ h1 (mU m 0 0) ρ := ⟨ht.ob hA e1, mSm.rf _, rSm.rf ρ, (frM.rf ad h).ob e1⟩
  refine v_run 2 (pc' := 7) (ls' := [some (.ref (ad 200)), some (.int (zI s)), none, none, none]) (st' := [.int (zI s), .ref (ad 200)]) rfl ?_
  refine v_callV (My := mX10_refusesWorth) (As := [.int (zI s)]) (rest := []) (mc := 0) (ms := 0) rfl caX10_refusesWorth rfl rfl rfl q1.1.1.1 rfl rfl (q_refusesWorth G _ s hA q1.1.1 hz q1.1.2.1 hs) rfl rfl (Nat.le_of_ble_eq_true rfl) (by omega) ?_
  rintro _ _ ⟨rfl, rfl⟩
  refine v_run 0 (pc' := 10) (ls' := [some (.ref (ad 200)), some (.int (zI s)), none, none, none]) (st' := [.int (zI ↑((if s < 0 ∨ 20 < s then 2 else 0 : Nat)))]) rfl ?_
  have wy : (if s < 0 ∨ 20 < s then 2 else 0 : Nat) ≤ 6 := by split <;> decide
  refine v_run 2 (pc' := 12) (ls' := [some (.ref (ad 200)), some (.int (zI s)), some (.int (zI ↑((if s < 0 ∨ 20 < s then 2 else 0 : Nat)))), none, none]) (st' := [.int (zI ↑((if s < 0 ∨ 20 < s then 2 else 0 : Nat)))]) rfl ?_
  refine v_if_le rfl (fun c12 => ?_) (fun c12 => ?_)
  · simp (disch := omega) only [zI_lt, zI_le, zI_eq, zI_lt0, zI_le0, zI_0lt, zI_0le, zI_eq0] at c12
    have w0 : ¬ (s < 0 ∨ 20 < s) := fun q => by rw [if_pos q] at c12; omega
    obtain ⟨k, rfl⟩ : ∃ z : Nat, s = ↑z := ⟨s.toNat, by omega⟩
    refine v_drop 2 (ls' := [some (.ref (ad 200)), some (.int (zI ↑k)), none, none, none]) rfl ?_
    refine v_run 4 (pc' := 26) (ls' := [some (.ref (ad 200)), some (.int (zI ↑k)), none, some (.int (zI 0)), some (.int (zI 0))]) (st' := []) rfl ?_
    have lp : ∀ (n s : Nat), s ≤ 4 → 4 + 1 ≤ s + n → ssV G mX10_rests 2 0 0 (mR ζ rv m ρ ad h ↑(bRests ↑k).2 (.int (zI (bRests ↑k).1))) 26 [some (.ref (ad 200)), some (.int (zI ↑k)), none, some (.int (zI ↑(sumN (fun p => if cRest k p then 1 else 0) s))), some (.int (zI ↑s))] [] h1 := by
      intro n
      induction n with
      | zero => intro s hs1 hs2; exact absurd hs2 (by omega)
      | succ n ih =>
        intro s hs1 hs2
        refine v_run 2 (pc' := 29) (ls' := [some (.ref (ad 200)), some (.int (zI ↑k)), none, some (.int (zI ↑(sumN (fun p => if cRest k p then 1 else 0) s))), some (.int (zI ↑s))]) (st' := [.int (zI 4), .int (zI ↑s)]) rfl ?_
        refine v_icmp_ge rfl (fun c29 => ?_) (fun c29 => ?_)
        · simp (disch := omega) only [zI_lt, zI_le, zI_eq, zI_lt0, zI_le0, zI_0lt, zI_0le, zI_eq0] at c29
          refine v_run 2 (pc' := 57) (ls' := [some (.ref (ad 200)), some (.int (zI ↑k)), none, some (.int (zI ↑(sumN (fun p => if cRest k p then 1 else 0) s))), some (.int (zI ↑s))]) (st' := [.int (zI ↑(sumN (fun p => if cRest k p then 1 else 0) s)), .ref (ad 200)]) rfl ?_
          refine v_callV (My := mX10_well) (As := [.int (zI ↑(sumN (fun p => if cRest k p then 1 else 0) s))]) (rest := []) (mc := 0) (ms := 0) rfl caX10_well rfl rfl rfl q1.1.1.1 rfl rfl (q_well G _ ((zI ↑(sumN (fun p => if cRest k p then 1 else 0) s))) q1.1.1.1) rfl rfl (Nat.le_of_ble_eq_true rfl) (by omega) ?_
          rintro _ h99 ⟨rfl, e99⟩
          refine v_run 0 (pc' := 60) (ls' := [some (.ref (ad 200)), some (.int (zI ↑k)), none, some (.int (zI ↑(sumN (fun p => if cRest k p then 1 else 0) s))), some (.int (zI ↑s))]) (st' := [.int ((zI ↑(sumN (fun p => if cRest k p then 1 else 0) s)))]) rfl ?_
          rw [show bRests ↑k = (↑(sumN (fun p => if cRest k p then 1 else 0) s), 0) from by rw [bRests, if_neg (by rw [if_neg (by omega)]; omega), show s = 4 by omega]; rfl]
          exact v_iret rfl rfl rfl ⟨rfl, q1.fin hA e99⟩
        · simp (disch := omega) only [zI_lt, zI_le, zI_eq, zI_lt0, zI_le0, zI_0lt, zI_0le, zI_eq0] at c29
          refine v_run 3 (pc' := 36) (ls' := [some (.ref (ad 200)), some (.int (zI ↑k)), none, some (.int (zI ↑(sumN (fun p => if cRest k p then 1 else 0) s))), some (.int (zI ↑s))]) (st' := [.int (zI ↑s), .int (zI ↑k), .int (zI ↑(sumN (fun p => if cRest k p then 1 else 0) s))]) rfl ?_
          refine v_callS (My := mX10_isRest) (As := [.int (zI ↑k), .int (zI ↑s)]) (rest := [.int (zI ↑(sumN (fun p => if cRest k p then 1 else 0) s))]) (mc := 0) (ms := 0) rfl caX10_isRest rfl rfl (q_isRest G _ k s (by omega) (by omega)) rfl rfl (Nat.le_of_ble_eq_true rfl) (by omega) ?_
          rintro _ _ ⟨rfl, rfl⟩
          refine v_run 0 (pc' := 39) (ls' := [some (.ref (ad 200)), some (.int (zI ↑k)), none, some (.int (zI ↑(sumN (fun p => if cRest k p then 1 else 0) s))), some (.int (zI ↑s))]) (st' := [.int (zb (cRest k s)), .int (zI ↑(sumN (fun p => if cRest k p then 1 else 0) s))]) rfl ?_
          refine v_if_eq rfl (fun c39 => ?_) (fun c39 => ?_)
          · rw [zb_0] at c39
            refine v_run 5 (pc' := 26) (ls' := [some (.ref (ad 200)), some (.int (zI ↑k)), none, some (.int ((zI ↑(sumN (fun p => if cRest k p then 1 else 0) s)) + (zI 0))), some (.int ((zI ↑s) + zI 1))]) (st' := []) rfl ?_
            rw [show (zI ↑(sumN (fun p => if cRest k p then 1 else 0) s)) + (zI 0) = zI ↑(sumN (fun p => if cRest k p then 1 else 0) (s + 1)) from by rw [show (zI 0) = zI ↑(0 : Nat) from rfl, zN_add]; simp only [sumN]; rw [c39]; rfl, zI_s1]
            exact ih (s + 1) (by omega) (by omega)
          · rw [zb_0, Bool.not_eq_false] at c39
            refine v_run 6 (pc' := 26) (ls' := [some (.ref (ad 200)), some (.int (zI ↑k)), none, some (.int ((zI ↑(sumN (fun p => if cRest k p then 1 else 0) s)) + (zI 1))), some (.int ((zI ↑s) + zI 1))]) (st' := []) rfl ?_
            rw [show (zI ↑(sumN (fun p => if cRest k p then 1 else 0) s)) + (zI 1) = zI ↑(sumN (fun p => if cRest k p then 1 else 0) (s + 1)) from by rw [show (zI 1) = zI ↑(1 : Nat) from rfl, zN_add]; simp only [sumN]; rw [c39]; rfl, zI_s1]
            exact ih (s + 1) (by omega) (by omega)
    exact lp 5 0 (by omega) (by omega)
  · simp (disch := omega) only [zI_lt, zI_le, zI_eq, zI_lt0, zI_le0, zI_0lt, zI_0le, zI_eq0] at c12
    refine v_run 2 (pc' := 17) (ls' := [some (.ref (ad 200)), some (.int (zI s)), some (.int (zI ↑((if s < 0 ∨ 20 < s then 2 else 0 : Nat)))), none, none]) (st' := [.int (zI ↑((if s < 0 ∨ 20 < s then 2 else 0 : Nat))), .ref (ad 200)]) rfl ?_
    refine v_callV (My := mX10_refused) (As := [.int (zI ↑((if s < 0 ∨ 20 < s then 2 else 0 : Nat)))]) (rest := []) (mc := 0) (ms := 0) rfl caX10_refused rfl rfl rfl q1.1.1.1 rfl rfl (q_refused G _ ↑((if s < 0 ∨ 20 < s then 2 else 0 : Nat)) q1.1.1.1) rfl rfl (Nat.le_of_ble_eq_true rfl) (by omega) ?_
    rintro _ h99 ⟨rfl, e99⟩
    refine v_run 0 (pc' := 20) (ls' := [some (.ref (ad 200)), some (.int (zI s)), some (.int (zI ↑((if s < 0 ∨ 20 < s then 2 else 0 : Nat)))), none, none]) (st' := [.int (zI (-1))]) rfl ?_
    rw [show bRests s = (-1, (if s < 0 ∨ 20 < s then 2 else 0 : Nat)) from if_pos (by omega)]
    exact v_iret rfl rfl rfl ⟨rfl, q1.fin hA e99⟩

set_option maxRecDepth 100000 in
set_option maxHeartbeats 400000 in
theorem q_rest (G : ssG) (h : ssH) {ad : Nat → Nat} {rv : Value} {m : Nat → Int} {ζ ρ : Nat → Nat → Nat} (s : Int) (hA : ∀ k l, ad k = ad l → k = l) (ht : MT h ad rv m ζ ρ) (hz : SaOk ζ) (hV : XOk (ρ 2)) (hd : ρ 2 23 ≤ 99) (hs : -2147483648 ≤ s ∧ s < 2147483648) : ssC G mX10_rest 2 0 0 [.ref (ad 200), .int (zI s)] h (mR ζ rv m ρ ad h ↑(bRest s).2 (.int (zI (bRest s).1))) := by
  refine c_of_v okX10_rest (by decide +kernel) (ls := [some (.ref (ad 200)), some (.int (zI s)), none, none]) rfl (Nat.le_of_ble_eq_true rfl) ?_
  obtain ⟨z0, z1, z2, z3, z4, z5, z6, z9, z12, z13, z14, z15, z16, z17, z18, z19, z20⟩ := id hz
  refine v_run 2 (pc' := 2) (ls' := [some (.ref (ad 200)), some (.int (zI s)), none, none]) (st' := [.int (zI 0), .ref (ad 200)]) rfl ?_
  refine v_put rfl ht.1.1 rfl rfl (Nat.le_of_ble_eq_true rfl) ?_
  generalize e1 : hset h (ad 200) _ = h1
  have q1 : MQs h ad rv (mU m 0 0) ζ ρ h1 (mU m 0 0) ρ := ⟨ht.ob hA e1, mSm.rf _, rSm.rf ρ, (frM.rf ad h).ob e1⟩
  refine v_run 2 (pc' := 7) (ls' := [some (.ref (ad 200)), some (.int (zI s)), none, none]) (st' := [.int (zI s), .ref (ad 200)]) rfl ?_
  refine v_callV (My := mX10_refusesWorth) (As := [.int (zI s)]) (rest := []) (mc := 0) (ms := 0) rfl caX10_refusesWorth rfl rfl rfl q1.1.1.1 rfl rfl (q_refusesWorth G _ s hA q1.1.1 hz q1.1.2.1 hs) rfl rfl (Nat.le_of_ble_eq_true rfl) (by omega) ?_
  rintro _ _ ⟨rfl, rfl⟩
  refine v_run 0 (pc' := 10) (ls' := [some (.ref (ad 200)), some (.int (zI s)), none, none]) (st' := [.int (zI ↑((if s < 0 ∨ 20 < s then 2 else 0 : Nat)))]) rfl ?_
  have wy : (if s < 0 ∨ 20 < s then 2 else 0 : Nat) ≤ 6 := by split <;> decide
  refine v_run 2 (pc' := 12) (ls' := [some (.ref (ad 200)), some (.int (zI s)), some (.int (zI ↑((if s < 0 ∨ 20 < s then 2 else 0 : Nat)))), none]) (st' := [.int (zI ↑((if s < 0 ∨ 20 < s then 2 else 0 : Nat)))]) rfl ?_
  refine v_if_le rfl (fun c12 => ?_) (fun c12 => ?_)
  · simp (disch := omega) only [zI_lt, zI_le, zI_eq, zI_lt0, zI_le0, zI_0lt, zI_0le, zI_eq0] at c12
    have w0 : ¬ (s < 0 ∨ 20 < s) := fun q => by rw [if_pos q] at c12; omega
    obtain ⟨k, rfl⟩ : ∃ z : Nat, s = ↑z := ⟨s.toNat, by omega⟩
    refine v_drop 2 (ls' := [some (.ref (ad 200)), some (.int (zI ↑k)), none, none]) rfl ?_
    refine v_run 2 (pc' := 23) (ls' := [some (.ref (ad 200)), some (.int (zI ↑k)), none, some (.int (zI 0))]) (st' := []) rfl ?_
    have lp : ∀ (n s : Nat), (s ≤ 4 ∧ rstG k (4 - s) s = rstG k 4 0) → 4 + 1 ≤ s + n → ssV G mX10_rest 2 0 0 (mR ζ rv m ρ ad h ↑(bRest ↑k).2 (.int (zI (bRest ↑k).1))) 23 [some (.ref (ad 200)), some (.int (zI ↑k)), none, some (.int (zI ↑s))] [] h1 := by
      intro n
      induction n with
      | zero => intro s hs1 hs2; exact absurd hs2 (by omega)
      | succ n ih =>
        intro s hs1 hs2
        refine v_run 2 (pc' := 25) (ls' := [some (.ref (ad 200)), some (.int (zI ↑k)), none, some (.int (zI ↑s))]) (st' := [.int (zI 4), .int (zI ↑s)]) rfl ?_
        refine v_icmp_ge rfl (fun c25 => ?_) (fun c25 => ?_)
        · simp (disch := omega) only [zI_lt, zI_le, zI_eq, zI_lt0, zI_le0, zI_0lt, zI_0le, zI_eq0] at c25
          refine v_run 2 (pc' := 60) (ls' := [some (.ref (ad 200)), some (.int (zI ↑k)), none, some (.int (zI ↑s))]) (st' := [.int (zI (-2)), .ref (ad 200)]) rfl ?_
          refine v_callV (My := mX10_well) (As := [.int (zI (-2))]) (rest := []) (mc := 0) (ms := 0) rfl caX10_well rfl rfl rfl q1.1.1.1 rfl rfl (q_well G _ ((zI (-2))) q1.1.1.1) rfl rfl (Nat.le_of_ble_eq_true rfl) (by omega) ?_
          rintro _ h99 ⟨rfl, e99⟩
          refine v_run 0 (pc' := 63) (ls' := [some (.ref (ad 200)), some (.int (zI ↑k)), none, some (.int (zI ↑s))]) (st' := [.int ((zI (-2)))]) rfl ?_
          rw [show bRest ↑k = (-2, 0) from by rw [bRest, if_neg (by rw [if_neg (by omega)]; omega)]; show (rstG (Int.toNat ↑k) 4 0, 0) = _; rw [Int.toNat_natCast, ← hs1.2, show 4 - s = 0 by omega]; rfl]
          exact v_iret rfl rfl rfl ⟨rfl, q1.fin hA e99⟩
        · simp (disch := omega) only [zI_lt, zI_le, zI_eq, zI_lt0, zI_le0, zI_0lt, zI_0le, zI_eq0] at c25
          have e0 := hs1.2
          rw [show 4 - s = (3 - s) + 1 by omega, rstG] at e0
          refine v_run 2 (pc' := 30) (ls' := [some (.ref (ad 200)), some (.int (zI ↑k)), none, some (.int (zI ↑s))]) (st' := [.int (zI ↑s), .int (zI ↑k)]) rfl ?_
          refine v_callS (My := mX10_isRest) (As := [.int (zI ↑k), .int (zI ↑s)]) (rest := []) (mc := 0) (ms := 0) rfl caX10_isRest rfl rfl (q_isRest G _ k s (by omega) (by omega)) rfl rfl (Nat.le_of_ble_eq_true rfl) (by omega) ?_
          rintro _ _ ⟨rfl, rfl⟩
          refine v_run 0 (pc' := 33) (ls' := [some (.ref (ad 200)), some (.int (zI ↑k)), none, some (.int (zI ↑s))]) (st' := [.int (zb (cRest k s))]) rfl ?_
          refine v_if_eq rfl (fun c33 => ?_) (fun c33 => ?_)
          · rw [zb_0] at c33
            refine v_run 2 (pc' := 23) (ls' := [some (.ref (ad 200)), some (.int (zI ↑k)), none, some (.int ((zI ↑s) + zI 1))]) (st' := []) rfl ?_
            rw [zI_s1]
            exact ih (s + 1) ⟨by omega, by rw [← e0, c33, show 4 - (s + 1) = 3 - s by omega]; rfl⟩ (by omega)
          · rw [zb_0, Bool.not_eq_false] at c33
            refine v_run 4 (pc' := 41) (ls' := [some (.ref (ad 200)), some (.int (zI ↑k)), none, some (.int (zI ↑s))]) (st' := [.int (zI 2), .int (zI ↑s), .int (zI 10), .ref (ad 200)]) rfl ?_
            refine v_idiv rfl (zI_ne0 (by decide) (by decide)) ?_
            rw [show ((zI ↑s / zI 2) : Int32) = zI ↑(s / 2) from by rw [show (zI 2) = zI ((2 : Nat) : Int) from rfl, zN_div (by omega) (by omega) (by omega)]]
            refine v_run 3 (pc' := 45) (ls' := [some (.ref (ad 200)), some (.int (zI ↑k)), none, some (.int (zI ↑s))]) (st' := [.int (zI 2), .int (zI ↑s), .int ((zI 10) * (zI ↑(s / 2))), .ref (ad 200)]) rfl ?_
            refine v_irem rfl (zI_ne0 (by decide) (by decide)) ?_
            rw [show ((zI ↑s - zI ↑s / zI 2 * zI 2) : Int32) = zI ↑(s % 2) from by rw [show (zI 2) = zI ((2 : Nat) : Int) from rfl, zN_rem (by omega) (by omega) (by omega)]]
            refine v_run 1 (pc' := 47) (ls' := [some (.ref (ad 200)), some (.int (zI ↑k)), none, some (.int (zI ↑s))]) (st' := [.int (((zI 10) * (zI ↑(s / 2))) + (zI ↑(s % 2))), .ref (ad 200)]) rfl ?_
            rw [show (((zI 10) * (zI ↑(s / 2))) + (zI ↑(s % 2)) : Int32) = zI (↑(s / 2) * 10 + ↑(s % 2)) from by rw [zI_mul, zI_add, Int.mul_comm]]
            refine v_callV (My := mX10_well) (As := [.int (zI (↑(s / 2) * 10 + ↑(s % 2)))]) (rest := []) (mc := 0) (ms := 0) rfl caX10_well rfl rfl rfl q1.1.1.1 rfl rfl (q_well G _ ((zI (↑(s / 2) * 10 + ↑(s % 2)))) q1.1.1.1) rfl rfl (Nat.le_of_ble_eq_true rfl) (by omega) ?_
            rintro _ h99 ⟨rfl, e99⟩
            refine v_run 0 (pc' := 50) (ls' := [some (.ref (ad 200)), some (.int (zI ↑k)), none, some (.int (zI ↑s))]) (st' := [.int ((zI (↑(s / 2) * 10 + ↑(s % 2))))]) rfl ?_
            rw [show bRest ↑k = (↑(s / 2) * 10 + ↑(s % 2), 0) from by rw [bRest, if_neg (by rw [if_neg (by omega)]; omega)]; show (rstG (Int.toNat ↑k) 4 0, 0) = _; rw [Int.toNat_natCast, ← e0, c33]; rfl]
            exact v_iret rfl rfl rfl ⟨rfl, q1.fin hA e99⟩
    exact lp 5 0 ⟨by omega, rfl⟩ (by omega)
  · simp (disch := omega) only [zI_lt, zI_le, zI_eq, zI_lt0, zI_le0, zI_0lt, zI_0le, zI_eq0] at c12
    refine v_run 2 (pc' := 17) (ls' := [some (.ref (ad 200)), some (.int (zI s)), some (.int (zI ↑((if s < 0 ∨ 20 < s then 2 else 0 : Nat)))), none]) (st' := [.int (zI ↑((if s < 0 ∨ 20 < s then 2 else 0 : Nat))), .ref (ad 200)]) rfl ?_
    refine v_callV (My := mX10_refused) (As := [.int (zI ↑((if s < 0 ∨ 20 < s then 2 else 0 : Nat)))]) (rest := []) (mc := 0) (ms := 0) rfl caX10_refused rfl rfl rfl q1.1.1.1 rfl rfl (q_refused G _ ↑((if s < 0 ∨ 20 < s then 2 else 0 : Nat)) q1.1.1.1) rfl rfl (Nat.le_of_ble_eq_true rfl) (by omega) ?_
    rintro _ h99 ⟨rfl, e99⟩
    refine v_run 0 (pc' := 20) (ls' := [some (.ref (ad 200)), some (.int (zI s)), some (.int (zI ↑((if s < 0 ∨ 20 < s then 2 else 0 : Nat)))), none]) (st' := [.int (zI (-1))]) rfl ?_
    rw [show bRest s = (-1, (if s < 0 ∨ 20 < s then 2 else 0 : Nat)) from if_pos (by omega)]
    exact v_iret rfl rfl rfl ⟨rfl, q1.fin hA e99⟩

set_option maxRecDepth 100000 in
set_option maxHeartbeats 400000 in
theorem q_since (G : ssG) (h : ssH) {ad : Nat → Nat} {rv : Value} {m : Nat → Int} {ζ ρ : Nat → Nat → Nat}  (hA : ∀ k l, ad k = ad l → k = l) (ht : MT h ad rv m ζ ρ) (hz : SaOk ζ) (hV : XOk (ρ 2)) (hd : ρ 2 23 ≤ 99)  : ssC G mX10_since 8 0 0 [.ref (ad 200)] h (mR ζ rv m ρ ad h ↑(bSince ζ).2 (.int (zI (bSince ζ).1))) := by
  refine c_of_v okX10_since (by decide +kernel) (ls := [some (.ref (ad 200)), none]) rfl (Nat.le_of_ble_eq_true rfl) ?_
  obtain ⟨z0, z1, z2, z3, z4, z5, z6, z9, z12, z13, z14, z15, z16, z17, z18, z19, z20⟩ := id hz
  refine v_run 2 (pc' := 2) (ls' := [some (.ref (ad 200)), none]) (st' := [.int (zI 0), .ref (ad 200)]) rfl ?_
  refine v_put rfl ht.1.1 rfl rfl (Nat.le_of_ble_eq_true rfl) ?_
  generalize e1 : hset h (ad 200) _ = h1
  have q1 : MQs h ad rv (mU m 0 0) ζ ρ h1 (mU m 0 0) ρ := ⟨ht.ob hA e1, mSm.rf _, rSm.rf ρ, (frM.rf ad h).ob e1⟩
  refine v_run 1 (pc' := 6) (ls' := [some (.ref (ad 200)), none]) (st' := [.ref (ad 200)]) rfl ?_
  refine v_callV (My := mX10_refusesDoubt) (As := []) (rest := []) (mc := 0) (ms := 0) rfl caX10_refusesDoubt rfl rfl rfl q1.1.1.1 rfl rfl (q_refusesDoubt G _ hA q1.1.1 hz q1.1.2.1) rfl rfl (Nat.le_of_ble_eq_true rfl) (by omega) ?_
  rintro _ _ ⟨rfl, rfl⟩
  refine v_run 0 (pc' := 9) (ls' := [some (.ref (ad 200)), none]) (st' := [.int (zI ↑((if ζ 9 0 = 0 then 6 else 0 : Nat)))]) rfl ?_
  have wy : (if ζ 9 0 = 0 then 6 else 0 : Nat) ≤ 6 := by split <;> decide
  refine v_run 2 (pc' := 11) (ls' := [some (.ref (ad 200)), some (.int (zI ↑((if ζ 9 0 = 0 then 6 else 0 : Nat))))]) (st' := [.int (zI ↑((if ζ 9 0 = 0 then 6 else 0 : Nat)))]) rfl ?_
  refine v_if_le rfl (fun c11 => ?_) (fun c11 => ?_)
  · simp (disch := omega) only [zI_lt, zI_le, zI_eq, zI_lt0, zI_le0, zI_0lt, zI_0le, zI_eq0] at c11
    have w0 : 1 ≤ ζ 9 0 := Nat.pos_of_ne_zero (fun q => by rw [if_pos q] at c11; omega)
    have w1 : (if ζ 9 0 = 0 then 6 else 0 : Nat) = 0 := if_neg (by omega)
    refine v_drop 1 (ls' := [some (.ref (ad 200)), none]) rfl ?_
    refine v_run 2 (pc' := 22) (ls' := [some (.ref (ad 200)), none]) (st' := [.int (zI (-1)), .ref (ad 200)]) rfl ?_
    refine v_callV (My := mX10_fitting) (As := [.int (zI (-1))]) (rest := []) (mc := 0) (ms := 0) rfl caX10_fitting rfl rfl rfl q1.1.1.1 rfl rfl (q_fitting G _ (-1) hA q1.1 hz w0 (by decide)) rfl rfl (Nat.le_of_ble_eq_true rfl) (by omega) ?_
    rintro _ h2 ⟨rfl, mm, rr, hq, hm22, hw7⟩
    have q2 : MQs h ad rv (mU m 0 0) ζ ρ h2 mm rr := q1.tr hq
    refine v_run 0 (pc' := 25) (ls' := [some (.ref (ad 200)), none]) (st' := [.int (zI (mNth ζ (-1) 42))]) rfl ?_
    refine v_run 3 (pc' := 28) (ls' := [some (.ref (ad 200)), none]) (st' := [.ref (ad 200), .ref (ad 200)]) rfl ?_
    refine v_get rfl q2.1.1.1 rfl ?_
    refine v_run 0 (pc' := 31) (ls' := [some (.ref (ad 200)), none]) (st' := [.int (zI (mm 22)), .ref (ad 200)]) rfl ?_
    rw [show (zI (mm 22) : Int32) = zI ↑(mFc ζ 42) from by rw [hm22]]
    refine v_callV (My := mX10_well) (As := [.int (zI ↑(mFc ζ 42))]) (rest := []) (mc := 0) (ms := 0) rfl caX10_well rfl rfl rfl q2.1.1.1 rfl rfl (q_well G _ ((zI ↑(mFc ζ 42))) q2.1.1.1) rfl rfl (Nat.le_of_ble_eq_true rfl) (by omega) ?_
    rintro _ h99 ⟨rfl, e99⟩
    refine v_run 0 (pc' := 34) (ls' := [some (.ref (ad 200)), none]) (st' := [.int ((zI ↑(mFc ζ 42)))]) rfl ?_
    rw [show bSince ζ = (↑(mFc ζ 42), 0) from if_neg (by omega)]
    exact v_iret rfl rfl rfl ⟨rfl, q2.fin hA e99⟩
  · simp (disch := omega) only [zI_lt, zI_le, zI_eq, zI_lt0, zI_le0, zI_0lt, zI_0le, zI_eq0] at c11
    refine v_run 2 (pc' := 16) (ls' := [some (.ref (ad 200)), some (.int (zI ↑((if ζ 9 0 = 0 then 6 else 0 : Nat))))]) (st' := [.int (zI ↑((if ζ 9 0 = 0 then 6 else 0 : Nat))), .ref (ad 200)]) rfl ?_
    refine v_callV (My := mX10_refused) (As := [.int (zI ↑((if ζ 9 0 = 0 then 6 else 0 : Nat)))]) (rest := []) (mc := 0) (ms := 0) rfl caX10_refused rfl rfl rfl q1.1.1.1 rfl rfl (q_refused G _ ↑((if ζ 9 0 = 0 then 6 else 0 : Nat)) q1.1.1.1) rfl rfl (Nat.le_of_ble_eq_true rfl) (by omega) ?_
    rintro _ h99 ⟨rfl, e99⟩
    refine v_run 0 (pc' := 19) (ls' := [some (.ref (ad 200)), some (.int (zI ↑((if ζ 9 0 = 0 then 6 else 0 : Nat))))]) (st' := [.int (zI (-1))]) rfl ?_
    rw [show bSince ζ = (-1, (if ζ 9 0 = 0 then 6 else 0 : Nat)) from if_pos (by omega)]
    exact v_iret rfl rfl rfl ⟨rfl, q1.fin hA e99⟩

set_option maxRecDepth 100000 in
set_option maxHeartbeats 400000 in
theorem q_sinceAt (G : ssG) (h : ssH) {ad : Nat → Nat} {rv : Value} {m : Nat → Int} {ζ ρ : Nat → Nat → Nat} (s : Int) (hA : ∀ k l, ad k = ad l → k = l) (ht : MT h ad rv m ζ ρ) (hz : SaOk ζ) (hV : XOk (ρ 2)) (hd : ρ 2 23 ≤ 99) (hs : -2147483648 ≤ s ∧ s < 2147483648) : ssC G mX10_sinceAt 8 0 0 [.ref (ad 200), .int (zI s)] h (mR ζ rv m ρ ad h ↑(bSinceAt ζ s).2 (.int (zI (bSinceAt ζ s).1))) := by
  refine c_of_v okX10_sinceAt (by decide +kernel) (ls := [some (.ref (ad 200)), some (.int (zI s)), none, none]) rfl (Nat.le_of_ble_eq_true rfl) ?_
  obtain ⟨z0, z1, z2, z3, z4, z5, z6, z9, z12, z13, z14, z15, z16, z17, z18, z19, z20⟩ := id hz
  refine v_run 2 (pc' := 2) (ls' := [some (.ref (ad 200)), some (.int (zI s)), none, none]) (st' := [.int (zI 0), .ref (ad 200)]) rfl ?_
  refine v_put rfl ht.1.1 rfl rfl (Nat.le_of_ble_eq_true rfl) ?_
  generalize e1 : hset h (ad 200) _ = h1
  have q1 : MQs h ad rv (mU m 0 0) ζ ρ h1 (mU m 0 0) ρ := ⟨ht.ob hA e1, mSm.rf _, rSm.rf ρ, (frM.rf ad h).ob e1⟩
  refine v_run 1 (pc' := 6) (ls' := [some (.ref (ad 200)), some (.int (zI s)), none, none]) (st' := [.ref (ad 200)]) rfl ?_
  refine v_callV (My := mX10_refusesDoubt) (As := []) (rest := []) (mc := 0) (ms := 0) rfl caX10_refusesDoubt rfl rfl rfl q1.1.1.1 rfl rfl (q_refusesDoubt G _ hA q1.1.1 hz q1.1.2.1) rfl rfl (Nat.le_of_ble_eq_true rfl) (by omega) ?_
  rintro _ _ ⟨rfl, rfl⟩
  refine v_run 0 (pc' := 9) (ls' := [some (.ref (ad 200)), some (.int (zI s)), none, none]) (st' := [.int (zI ↑((if ζ 9 0 = 0 then 6 else 0 : Nat)))]) rfl ?_
  have wy : (if ζ 9 0 = 0 then 6 else 0 : Nat) ≤ 6 := by split <;> decide
  refine v_run 2 (pc' := 11) (ls' := [some (.ref (ad 200)), some (.int (zI s)), some (.int (zI ↑((if ζ 9 0 = 0 then 6 else 0 : Nat)))), none]) (st' := [.int (zI ↑((if ζ 9 0 = 0 then 6 else 0 : Nat)))]) rfl ?_
  refine v_if_le rfl (fun c11 => ?_) (fun c11 => ?_)
  · simp (disch := omega) only [zI_lt, zI_le, zI_eq, zI_lt0, zI_le0, zI_0lt, zI_0le, zI_eq0] at c11
    have w0 : 1 ≤ ζ 9 0 := Nat.pos_of_ne_zero (fun q => by rw [if_pos q] at c11; omega)
    have w1 : (if ζ 9 0 = 0 then 6 else 0 : Nat) = 0 := if_neg (by omega)
    refine v_drop 2 (ls' := [some (.ref (ad 200)), some (.int (zI s)), none, none]) rfl ?_
    refine v_run 1 (pc' := 21) (ls' := [some (.ref (ad 200)), some (.int (zI s)), none, none]) (st' := [.int (zI s)]) rfl ?_
    refine v_if_ge rfl (fun c21 => ?_) (fun c21 => ?_)
    · simp (disch := omega) only [zI_lt, zI_le, zI_eq, zI_lt0, zI_le0, zI_0lt, zI_0le, zI_eq0] at c21
      refine v_run 2 (pc' := 30) (ls' := [some (.ref (ad 200)), some (.int (zI s)), none, none]) (st' := [.int (zI s), .ref (ad 200)]) rfl ?_
      refine v_callV (My := mX10_fitting) (As := [.int (zI s)]) (rest := []) (mc := 0) (ms := 0) rfl caX10_fitting rfl rfl rfl q1.1.1.1 rfl rfl (q_fitting G _ s hA q1.1 hz w0 hs) rfl rfl (Nat.le_of_ble_eq_true rfl) (by omega) ?_
      rintro _ h2 ⟨rfl, mm, rr, hq, hm22, hw7⟩
      have q2 : MQs h ad rv (mU m 0 0) ζ ρ h2 mm rr := q1.tr hq
      have nb := mNth_bd ζ s 42
      refine v_run 0 (pc' := 33) (ls' := [some (.ref (ad 200)), some (.int (zI s)), none, none]) (st' := [.int (zI (mNth ζ s 42))]) rfl ?_
      refine v_run 3 (pc' := 36) (ls' := [some (.ref (ad 200)), some (.int (zI s)), none, some (.int (zI (mNth ζ s 42)))]) (st' := [.int (zI (-1)), .int (zI (mNth ζ s 42))]) rfl ?_
      refine v_icmp_ne rfl (fun c36 => ?_) (fun c36 => ?_)
      · simp (disch := omega) only [zI_lt, zI_le, zI_eq, zI_lt0, zI_le0, zI_0lt, zI_0le, zI_eq0] at c36
        refine v_run 2 (pc' := 49) (ls' := [some (.ref (ad 200)), some (.int (zI s)), none, some (.int (zI (mNth ζ s 42)))]) (st' := [.int (zI (mNth ζ s 42)), .ref (ad 200)]) rfl ?_
        refine v_callV (My := mX10_well) (As := [.int (zI (mNth ζ s 42))]) (rest := []) (mc := 0) (ms := 0) rfl caX10_well rfl rfl rfl q2.1.1.1 rfl rfl (q_well G _ ((zI (mNth ζ s 42))) q2.1.1.1) rfl rfl (Nat.le_of_ble_eq_true rfl) (by omega) ?_
        rintro _ h99 ⟨rfl, e99⟩
        refine v_run 0 (pc' := 52) (ls' := [some (.ref (ad 200)), some (.int (zI s)), none, some (.int (zI (mNth ζ s 42)))]) (st' := [.int ((zI (mNth ζ s 42)))]) rfl ?_
        rw [show bSinceAt ζ s = (mNth ζ s 42, 0) from by rw [bSinceAt, if_neg (by omega), if_neg (by omega)]]
        exact v_iret rfl rfl rfl ⟨rfl, q2.fin hA e99⟩
      · simp (disch := omega) only [zI_lt, zI_le, zI_eq, zI_lt0, zI_le0, zI_0lt, zI_0le, zI_eq0] at c36
        refine v_run 2 (pc' := 41) (ls' := [some (.ref (ad 200)), some (.int (zI s)), none, some (.int (zI (mNth ζ s 42)))]) (st' := [.int (zI 1), .ref (ad 200)]) rfl ?_
        refine v_callV (My := mX10_refused) (As := [.int (zI 1)]) (rest := []) (mc := 0) (ms := 0) rfl caX10_refused rfl rfl rfl q2.1.1.1 rfl rfl (q_refused G _ 1 q2.1.1.1) rfl rfl (Nat.le_of_ble_eq_true rfl) (by omega) ?_
        rintro _ h99 ⟨rfl, e99⟩
        refine v_run 0 (pc' := 44) (ls' := [some (.ref (ad 200)), some (.int (zI s)), none, some (.int (zI (mNth ζ s 42)))]) (st' := [.int (zI (-1))]) rfl ?_
        refine v_run 1 (pc' := 52) (ls' := [some (.ref (ad 200)), some (.int (zI s)), none, some (.int (zI (mNth ζ s 42)))]) (st' := [.int (zI (-1))]) rfl ?_
        rw [show bSinceAt ζ s = (-1, 1) from by rw [bSinceAt, if_neg (by omega), if_pos (Or.inr c36)]]
        exact v_iret rfl rfl rfl ⟨rfl, q2.fin hA e99⟩
    · simp (disch := omega) only [zI_lt, zI_le, zI_eq, zI_lt0, zI_le0, zI_0lt, zI_0le, zI_eq0] at c21
      refine v_run 5 (pc' := 36) (ls' := [some (.ref (ad 200)), some (.int (zI s)), none, some (.int (zI (-1)))]) (st' := [.int (zI (-1)), .int (zI (-1))]) rfl ?_
      refine v_icmp_ne rfl (fun c36 => ?_) (fun c36 => ?_)
      · exact absurd c36 (fun q => q rfl)
      · refine v_run 2 (pc' := 41) (ls' := [some (.ref (ad 200)), some (.int (zI s)), none, some (.int (zI (-1)))]) (st' := [.int (zI 1), .ref (ad 200)]) rfl ?_
        refine v_callV (My := mX10_refused) (As := [.int (zI 1)]) (rest := []) (mc := 0) (ms := 0) rfl caX10_refused rfl rfl rfl q1.1.1.1 rfl rfl (q_refused G _ 1 q1.1.1.1) rfl rfl (Nat.le_of_ble_eq_true rfl) (by omega) ?_
        rintro _ h99 ⟨rfl, e99⟩
        refine v_run 0 (pc' := 44) (ls' := [some (.ref (ad 200)), some (.int (zI s)), none, some (.int (zI (-1)))]) (st' := [.int (zI (-1))]) rfl ?_
        refine v_run 1 (pc' := 52) (ls' := [some (.ref (ad 200)), some (.int (zI s)), none, some (.int (zI (-1)))]) (st' := [.int (zI (-1))]) rfl ?_
        rw [show bSinceAt ζ s = (-1, 1) from by rw [bSinceAt, if_neg (by omega), if_pos (Or.inl (by omega))]]
        exact v_iret rfl rfl rfl ⟨rfl, q1.fin hA e99⟩
  · simp (disch := omega) only [zI_lt, zI_le, zI_eq, zI_lt0, zI_le0, zI_0lt, zI_0le, zI_eq0] at c11
    refine v_run 2 (pc' := 16) (ls' := [some (.ref (ad 200)), some (.int (zI s)), some (.int (zI ↑((if ζ 9 0 = 0 then 6 else 0 : Nat)))), none]) (st' := [.int (zI ↑((if ζ 9 0 = 0 then 6 else 0 : Nat))), .ref (ad 200)]) rfl ?_
    refine v_callV (My := mX10_refused) (As := [.int (zI ↑((if ζ 9 0 = 0 then 6 else 0 : Nat)))]) (rest := []) (mc := 0) (ms := 0) rfl caX10_refused rfl rfl rfl q1.1.1.1 rfl rfl (q_refused G _ ↑((if ζ 9 0 = 0 then 6 else 0 : Nat)) q1.1.1.1) rfl rfl (Nat.le_of_ble_eq_true rfl) (by omega) ?_
    rintro _ h99 ⟨rfl, e99⟩
    refine v_run 0 (pc' := 19) (ls' := [some (.ref (ad 200)), some (.int (zI s)), some (.int (zI ↑((if ζ 9 0 = 0 then 6 else 0 : Nat)))), none]) (st' := [.int (zI (-1))]) rfl ?_
    rw [show bSinceAt ζ s = (-1, (if ζ 9 0 = 0 then 6 else 0 : Nat)) from if_pos (by omega)]
    exact v_iret rfl rfl rfl ⟨rfl, q1.fin hA e99⟩

set_option maxRecDepth 100000 in
set_option maxHeartbeats 400000 in
theorem q_days (G : ssG) (h : ssH) {ad : Nat → Nat} {rv : Value} {m : Nat → Int} {ζ ρ : Nat → Nat → Nat} (s n : Int) (hA : ∀ k l, ad k = ad l → k = l) (ht : MT h ad rv m ζ ρ) (hz : SaOk ζ) (hV : XOk (ρ 2)) (hd : ρ 2 23 ≤ 99) (hs : -2147483648 ≤ s ∧ s < 2147483648) (hn : -2147483648 ≤ n ∧ n < 2147483648) : ssC G mX10_days 4 0 0 [.ref (ad 200), .int (zI s), .int (zI n)] h (mR ζ rv m ρ ad h ↑(bDays ζ (ρ 2) s n).2 (.int (zI (bDays ζ (ρ 2) s n).1))) := by
  refine c_of_v okX10_days (by decide +kernel) (ls := [some (.ref (ad 200)), some (.int (zI s)), some (.int (zI n)), none]) rfl (Nat.le_of_ble_eq_true rfl) ?_
  obtain ⟨z0, z1, z2, z3, z4, z5, z6, z9, z12, z13, z14, z15, z16, z17, z18, z19, z20⟩ := id hz
  refine v_run 2 (pc' := 2) (ls' := [some (.ref (ad 200)), some (.int (zI s)), some (.int (zI n)), none]) (st' := [.int (zI 0), .ref (ad 200)]) rfl ?_
  refine v_put rfl ht.1.1 rfl rfl (Nat.le_of_ble_eq_true rfl) ?_
  generalize e1 : hset h (ad 200) _ = h1
  have q1 : MQs h ad rv (mU m 0 0) ζ ρ h1 (mU m 0 0) ρ := ⟨ht.ob hA e1, mSm.rf _, rSm.rf ρ, (frM.rf ad h).ob e1⟩
  refine v_run 3 (pc' := 8) (ls' := [some (.ref (ad 200)), some (.int (zI s)), some (.int (zI n)), none]) (st' := [.int (zI n), .int (zI s), .ref (ad 200)]) rfl ?_
  refine v_callV (My := mX10_refusesSeed) (As := [.int (zI s), .int (zI n)]) (rest := []) (mc := 0) (ms := 0) rfl caX10_refusesSeed rfl rfl rfl q1.1.1.1 rfl rfl (q_refusesSeed G _ s n hA q1.1.1 hz q1.1.2.1 hs hn) rfl rfl (Nat.le_of_ble_eq_true rfl) (by omega) ?_
  rintro _ _ ⟨rfl, rfl⟩
  refine v_run 0 (pc' := 11) (ls' := [some (.ref (ad 200)), some (.int (zI s)), some (.int (zI n)), none]) (st' := [.int (zI ↑((if (s < 0 ∨ 65536 < s) ∨ (n < 0 ∨ 99 < n) then 2 else 0 : Nat)))]) rfl ?_
  have wy : (if (s < 0 ∨ 65536 < s) ∨ (n < 0 ∨ 99 < n) then 2 else 0 : Nat) ≤ 6 := by split <;> decide
  refine v_run 2 (pc' := 13) (ls' := [some (.ref (ad 200)), some (.int (zI s)), some (.int (zI n)), some (.int (zI ↑((if (s < 0 ∨ 65536 < s) ∨ (n < 0 ∨ 99 < n) then 2 else 0 : Nat))))]) (st' := [.int (zI ↑((if (s < 0 ∨ 65536 < s) ∨ (n < 0 ∨ 99 < n) then 2 else 0 : Nat)))]) rfl ?_
  refine v_if_le rfl (fun c13 => ?_) (fun c13 => ?_)
  · simp (disch := omega) only [zI_lt, zI_le, zI_eq, zI_lt0, zI_le0, zI_0lt, zI_0le, zI_eq0] at c13
    have w0 : ¬ ((s < 0 ∨ 65536 < s) ∨ (n < 0 ∨ 99 < n)) := fun q => by rw [if_pos q] at c13; omega
    obtain ⟨k, rfl⟩ : ∃ z : Nat, s = ↑z := ⟨s.toNat, by omega⟩
    obtain ⟨t, rfl⟩ : ∃ z : Nat, n = ↑z := ⟨n.toNat, by omega⟩
    refine v_drop 3 (ls' := [some (.ref (ad 200)), some (.int (zI ↑k)), some (.int (zI ↑t)), none]) rfl ?_
    refine v_run 3 (pc' := 25) (ls' := [some (.ref (ad 200)), some (.int (zI ↑k)), some (.int (zI ↑t)), none]) (st' := [.int (zI ↑t), .int (zI ↑k), .ref (ad 200)]) rfl ?_
    refine v_callV (My := mX10_daysBy) (As := [.int (zI ↑k), .int (zI ↑t)]) (rest := []) (mc := 0) (ms := 0) rfl caX10_daysBy rfl rfl rfl q1.1.1.1 rfl rfl (q_daysBy G _ k t hA q1.1.1 hz q1.1.2.1 q1.1.2.2.1 hV hd (by omega) (by omega)) rfl rfl (Nat.le_of_ble_eq_true rfl) (by omega) ?_
    rintro _ h4 ⟨rfl, e4⟩
    have q4 : MQs h ad rv (mU m 0 0) ζ ρ h4 (mU m 0 0) (rU ρ 3 (mDb ζ (ρ 2) k t)) := q1.xs hA e4 (mDb_ok hz hV (by omega) t)
    refine v_run 0 (pc' := 28) (ls' := [some (.ref (ad 200)), some (.int (zI ↑k)), some (.int (zI ↑t)), none]) (st' := [.int (zI ↑(mTh ζ k t))]) rfl ?_
    refine v_run 3 (pc' := 31) (ls' := [some (.ref (ad 200)), some (.int (zI ↑k)), some (.int (zI ↑t)), none]) (st' := [.ref (ad 200), .ref (ad 200)]) rfl ?_
    refine v_callV (My := mX10_goodNow) (As := []) (rest := [.ref (ad 200)]) (mc := 0) (ms := 0) rfl caX10_goodNow rfl rfl rfl q4.1.1.1 rfl rfl (q_goodNow G _ hA q4.1.1 hz q4.1.2.1) rfl rfl (Nat.le_of_ble_eq_true rfl) (by omega) ?_
    rintro _ _ ⟨rfl, rfl⟩
    refine v_run 0 (pc' := 34) (ls' := [some (.ref (ad 200)), some (.int (zI ↑k)), some (.int (zI ↑t)), none]) (st' := [.int (zI ↑(mG ζ (mDb ζ (ρ 2) k t))), .ref (ad 200)]) rfl ?_
    refine v_callV (My := mX10_well) (As := [.int (zI ↑(mG ζ (mDb ζ (ρ 2) k t)))]) (rest := []) (mc := 0) (ms := 0) rfl caX10_well rfl rfl rfl q4.1.1.1 rfl rfl (q_well G _ ((zI ↑(mG ζ (mDb ζ (ρ 2) k t)))) q4.1.1.1) rfl rfl (Nat.le_of_ble_eq_true rfl) (by omega) ?_
    rintro _ h99 ⟨rfl, e99⟩
    refine v_run 0 (pc' := 37) (ls' := [some (.ref (ad 200)), some (.int (zI ↑k)), some (.int (zI ↑t)), none]) (st' := [.int ((zI ↑(mG ζ (mDb ζ (ρ 2) k t))))]) rfl ?_
    rw [show bDays ζ (ρ 2) ↑k ↑t = (↑(mG ζ (mDb ζ (ρ 2) k t)), 0) from by rw [bDays, if_neg (by rw [if_neg (by omega)]; omega)]; rfl]
    exact v_iret rfl rfl rfl ⟨rfl, q4.fin hA e99⟩
  · simp (disch := omega) only [zI_lt, zI_le, zI_eq, zI_lt0, zI_le0, zI_0lt, zI_0le, zI_eq0] at c13
    refine v_run 2 (pc' := 18) (ls' := [some (.ref (ad 200)), some (.int (zI s)), some (.int (zI n)), some (.int (zI ↑((if (s < 0 ∨ 65536 < s) ∨ (n < 0 ∨ 99 < n) then 2 else 0 : Nat))))]) (st' := [.int (zI ↑((if (s < 0 ∨ 65536 < s) ∨ (n < 0 ∨ 99 < n) then 2 else 0 : Nat))), .ref (ad 200)]) rfl ?_
    refine v_callV (My := mX10_refused) (As := [.int (zI ↑((if (s < 0 ∨ 65536 < s) ∨ (n < 0 ∨ 99 < n) then 2 else 0 : Nat)))]) (rest := []) (mc := 0) (ms := 0) rfl caX10_refused rfl rfl rfl q1.1.1.1 rfl rfl (q_refused G _ ↑((if (s < 0 ∨ 65536 < s) ∨ (n < 0 ∨ 99 < n) then 2 else 0 : Nat)) q1.1.1.1) rfl rfl (Nat.le_of_ble_eq_true rfl) (by omega) ?_
    rintro _ h99 ⟨rfl, e99⟩
    refine v_run 0 (pc' := 21) (ls' := [some (.ref (ad 200)), some (.int (zI s)), some (.int (zI n)), some (.int (zI ↑((if (s < 0 ∨ 65536 < s) ∨ (n < 0 ∨ 99 < n) then 2 else 0 : Nat))))]) (st' := [.int (zI (-1))]) rfl ?_
    rw [show bDays ζ (ρ 2) s n = (-1, (if (s < 0 ∨ 65536 < s) ∨ (n < 0 ∨ 99 < n) then 2 else 0 : Nat)) from if_pos (by omega)]
    exact v_iret rfl rfl rfl ⟨rfl, q1.fin hA e99⟩

set_option maxRecDepth 100000 in
set_option maxHeartbeats 400000 in
theorem q_thunders (G : ssG) (h : ssH) {ad : Nat → Nat} {rv : Value} {m : Nat → Int} {ζ ρ : Nat → Nat → Nat} (s n : Int) (hA : ∀ k l, ad k = ad l → k = l) (ht : MT h ad rv m ζ ρ) (hz : SaOk ζ) (hV : XOk (ρ 2)) (hd : ρ 2 23 ≤ 99) (hs : -2147483648 ≤ s ∧ s < 2147483648) (hn : -2147483648 ≤ n ∧ n < 2147483648) : ssC G mX10_thunders 4 0 0 [.ref (ad 200), .int (zI s), .int (zI n)] h (mR ζ rv m ρ ad h ↑(bThunders ζ (ρ 2) s n).2 (.int (zI (bThunders ζ (ρ 2) s n).1))) := by
  refine c_of_v okX10_thunders (by decide +kernel) (ls := [some (.ref (ad 200)), some (.int (zI s)), some (.int (zI n)), none]) rfl (Nat.le_of_ble_eq_true rfl) ?_
  obtain ⟨z0, z1, z2, z3, z4, z5, z6, z9, z12, z13, z14, z15, z16, z17, z18, z19, z20⟩ := id hz
  refine v_run 2 (pc' := 2) (ls' := [some (.ref (ad 200)), some (.int (zI s)), some (.int (zI n)), none]) (st' := [.int (zI 0), .ref (ad 200)]) rfl ?_
  refine v_put rfl ht.1.1 rfl rfl (Nat.le_of_ble_eq_true rfl) ?_
  generalize e1 : hset h (ad 200) _ = h1
  have q1 : MQs h ad rv (mU m 0 0) ζ ρ h1 (mU m 0 0) ρ := ⟨ht.ob hA e1, mSm.rf _, rSm.rf ρ, (frM.rf ad h).ob e1⟩
  refine v_run 3 (pc' := 8) (ls' := [some (.ref (ad 200)), some (.int (zI s)), some (.int (zI n)), none]) (st' := [.int (zI n), .int (zI s), .ref (ad 200)]) rfl ?_
  refine v_callV (My := mX10_refusesSeed) (As := [.int (zI s), .int (zI n)]) (rest := []) (mc := 0) (ms := 0) rfl caX10_refusesSeed rfl rfl rfl q1.1.1.1 rfl rfl (q_refusesSeed G _ s n hA q1.1.1 hz q1.1.2.1 hs hn) rfl rfl (Nat.le_of_ble_eq_true rfl) (by omega) ?_
  rintro _ _ ⟨rfl, rfl⟩
  refine v_run 0 (pc' := 11) (ls' := [some (.ref (ad 200)), some (.int (zI s)), some (.int (zI n)), none]) (st' := [.int (zI ↑((if (s < 0 ∨ 65536 < s) ∨ (n < 0 ∨ 99 < n) then 2 else 0 : Nat)))]) rfl ?_
  have wy : (if (s < 0 ∨ 65536 < s) ∨ (n < 0 ∨ 99 < n) then 2 else 0 : Nat) ≤ 6 := by split <;> decide
  refine v_run 2 (pc' := 13) (ls' := [some (.ref (ad 200)), some (.int (zI s)), some (.int (zI n)), some (.int (zI ↑((if (s < 0 ∨ 65536 < s) ∨ (n < 0 ∨ 99 < n) then 2 else 0 : Nat))))]) (st' := [.int (zI ↑((if (s < 0 ∨ 65536 < s) ∨ (n < 0 ∨ 99 < n) then 2 else 0 : Nat)))]) rfl ?_
  refine v_if_le rfl (fun c13 => ?_) (fun c13 => ?_)
  · simp (disch := omega) only [zI_lt, zI_le, zI_eq, zI_lt0, zI_le0, zI_0lt, zI_0le, zI_eq0] at c13
    have w0 : ¬ ((s < 0 ∨ 65536 < s) ∨ (n < 0 ∨ 99 < n)) := fun q => by rw [if_pos q] at c13; omega
    obtain ⟨k, rfl⟩ : ∃ z : Nat, s = ↑z := ⟨s.toNat, by omega⟩
    obtain ⟨t, rfl⟩ : ∃ z : Nat, n = ↑z := ⟨n.toNat, by omega⟩
    refine v_drop 3 (ls' := [some (.ref (ad 200)), some (.int (zI ↑k)), some (.int (zI ↑t)), none]) rfl ?_
    refine v_run 4 (pc' := 28) (ls' := [some (.ref (ad 200)), some (.int (zI ↑k)), some (.int (zI ↑t)), none]) (st' := [.int (zI ↑t), .int (zI ↑k), .ref (ad 200), .ref (ad 200)]) rfl ?_
    refine v_callV (My := mX10_daysBy) (As := [.int (zI ↑k), .int (zI ↑t)]) (rest := [.ref (ad 200)]) (mc := 0) (ms := 0) rfl caX10_daysBy rfl rfl rfl q1.1.1.1 rfl rfl (q_daysBy G _ k t hA q1.1.1 hz q1.1.2.1 q1.1.2.2.1 hV hd (by omega) (by omega)) rfl rfl (Nat.le_of_ble_eq_true rfl) (by omega) ?_
    rintro _ h5 ⟨rfl, e5⟩
    have q5 : MQs h ad rv (mU m 0 0) ζ ρ h5 (mU m 0 0) (rU ρ 3 (mDb ζ (ρ 2) k t)) := q1.xs hA e5 (mDb_ok hz hV (by omega) t)
    refine v_run 0 (pc' := 31) (ls' := [some (.ref (ad 200)), some (.int (zI ↑k)), some (.int (zI ↑t)), none]) (st' := [.int (zI ↑(mTh ζ k t)), .ref (ad 200)]) rfl ?_
    refine v_callV (My := mX10_well) (As := [.int (zI ↑(mTh ζ k t))]) (rest := []) (mc := 0) (ms := 0) rfl caX10_well rfl rfl rfl q5.1.1.1 rfl rfl (q_well G _ ((zI ↑(mTh ζ k t))) q5.1.1.1) rfl rfl (Nat.le_of_ble_eq_true rfl) (by omega) ?_
    rintro _ h99 ⟨rfl, e99⟩
    refine v_run 0 (pc' := 34) (ls' := [some (.ref (ad 200)), some (.int (zI ↑k)), some (.int (zI ↑t)), none]) (st' := [.int ((zI ↑(mTh ζ k t)))]) rfl ?_
    rw [show bThunders ζ (ρ 2) ↑k ↑t = (↑(mTh ζ k t), 0) from by rw [bThunders, if_neg (by rw [if_neg (by omega)]; omega)]; rfl]
    exact v_iret rfl rfl rfl ⟨rfl, q5.fin hA e99⟩
  · simp (disch := omega) only [zI_lt, zI_le, zI_eq, zI_lt0, zI_le0, zI_0lt, zI_0le, zI_eq0] at c13
    refine v_run 2 (pc' := 18) (ls' := [some (.ref (ad 200)), some (.int (zI s)), some (.int (zI n)), some (.int (zI ↑((if (s < 0 ∨ 65536 < s) ∨ (n < 0 ∨ 99 < n) then 2 else 0 : Nat))))]) (st' := [.int (zI ↑((if (s < 0 ∨ 65536 < s) ∨ (n < 0 ∨ 99 < n) then 2 else 0 : Nat))), .ref (ad 200)]) rfl ?_
    refine v_callV (My := mX10_refused) (As := [.int (zI ↑((if (s < 0 ∨ 65536 < s) ∨ (n < 0 ∨ 99 < n) then 2 else 0 : Nat)))]) (rest := []) (mc := 0) (ms := 0) rfl caX10_refused rfl rfl rfl q1.1.1.1 rfl rfl (q_refused G _ ↑((if (s < 0 ∨ 65536 < s) ∨ (n < 0 ∨ 99 < n) then 2 else 0 : Nat)) q1.1.1.1) rfl rfl (Nat.le_of_ble_eq_true rfl) (by omega) ?_
    rintro _ h99 ⟨rfl, e99⟩
    refine v_run 0 (pc' := 21) (ls' := [some (.ref (ad 200)), some (.int (zI s)), some (.int (zI n)), some (.int (zI ↑((if (s < 0 ∨ 65536 < s) ∨ (n < 0 ∨ 99 < n) then 2 else 0 : Nat))))]) (st' := [.int (zI (-1))]) rfl ?_
    refine v_run 1 (pc' := 34) (ls' := [some (.ref (ad 200)), some (.int (zI s)), some (.int (zI n)), some (.int (zI ↑((if (s < 0 ∨ 65536 < s) ∨ (n < 0 ∨ 99 < n) then 2 else 0 : Nat))))]) (st' := [.int (zI (-1))]) rfl ?_
    rw [show bThunders ζ (ρ 2) s n = (-1, (if (s < 0 ∨ 65536 < s) ∨ (n < 0 ∨ 99 < n) then 2 else 0 : Nat)) from if_pos (by omega)]
    exact v_iret rfl rfl rfl ⟨rfl, q1.fin hA e99⟩

set_option maxRecDepth 100000 in
set_option maxHeartbeats 400000 in
theorem q_look (G : ssG) (h : ssH) {ad : Nat → Nat} {rv : Value} {m : Nat → Int} {ζ ρ : Nat → Nat → Nat}  (hA : ∀ k l, ad k = ad l → k = l) (ht : MT h ad rv m ζ ρ) (hz : SaOk ζ) (hV : XOk (ρ 2)) (hd : ρ 2 23 ≤ 99)  : ssC G mX10_look 9 0 0 [.ref (ad 200)] h (mR ζ rv m ρ ad h ↑(bLook ζ).2 (.int (zI (bLook ζ).1))) := by
  refine c_of_v okX10_look (by decide +kernel) (ls := [some (.ref (ad 200)), none]) rfl (Nat.le_of_ble_eq_true rfl) ?_
  obtain ⟨z0, z1, z2, z3, z4, z5, z6, z9, z12, z13, z14, z15, z16, z17, z18, z19, z20⟩ := id hz
  refine v_run 2 (pc' := 2) (ls' := [some (.ref (ad 200)), none]) (st' := [.int (zI 0), .ref (ad 200)]) rfl ?_
  refine v_put rfl ht.1.1 rfl rfl (Nat.le_of_ble_eq_true rfl) ?_
  generalize e1 : hset h (ad 200) _ = h1
  have q1 : MQs h ad rv (mU m 0 0) ζ ρ h1 (mU m 0 0) ρ := ⟨ht.ob hA e1, mSm.rf _, rSm.rf ρ, (frM.rf ad h).ob e1⟩
  refine v_run 1 (pc' := 6) (ls' := [some (.ref (ad 200)), none]) (st' := [.ref (ad 200)]) rfl ?_
  refine v_callV (My := mX10_refusesDoubt) (As := []) (rest := []) (mc := 0) (ms := 0) rfl caX10_refusesDoubt rfl rfl rfl q1.1.1.1 rfl rfl (q_refusesDoubt G _ hA q1.1.1 hz q1.1.2.1) rfl rfl (Nat.le_of_ble_eq_true rfl) (by omega) ?_
  rintro _ _ ⟨rfl, rfl⟩
  refine v_run 0 (pc' := 9) (ls' := [some (.ref (ad 200)), none]) (st' := [.int (zI ↑((if ζ 9 0 = 0 then 6 else 0 : Nat)))]) rfl ?_
  have wy : (if ζ 9 0 = 0 then 6 else 0 : Nat) ≤ 6 := by split <;> decide
  refine v_run 2 (pc' := 11) (ls' := [some (.ref (ad 200)), some (.int (zI ↑((if ζ 9 0 = 0 then 6 else 0 : Nat))))]) (st' := [.int (zI ↑((if ζ 9 0 = 0 then 6 else 0 : Nat)))]) rfl ?_
  refine v_if_le rfl (fun c11 => ?_) (fun c11 => ?_)
  · simp (disch := omega) only [zI_lt, zI_le, zI_eq, zI_lt0, zI_le0, zI_0lt, zI_0le, zI_eq0] at c11
    have w0 : 1 ≤ ζ 9 0 := Nat.pos_of_ne_zero (fun q => by rw [if_pos q] at c11; omega)
    have w1 : (if ζ 9 0 = 0 then 6 else 0 : Nat) = 0 := if_neg (by omega)
    refine v_drop 1 (ls' := [some (.ref (ad 200)), none]) rfl ?_
    refine v_run 2 (pc' := 24) (ls' := [some (.ref (ad 200)), none]) (st' := [.ref (ad 200), .ref (ad 200)]) rfl ?_
    refine v_callV (My := mX10_looks) (As := []) (rest := [.ref (ad 200)]) (mc := 0) (ms := 0) rfl caX10_looks rfl rfl rfl q1.1.1.1 rfl rfl (q_looks G _ hA q1.1 hz w0) rfl rfl (Nat.le_of_ble_eq_true rfl) (by omega) ?_
    rintro _ h2 ⟨rfl, mm, rr, hq, hm24⟩
    have q2 : MQs h ad rv (mU m 0 0) ζ ρ h2 mm rr := q1.tr hq
    refine v_run 0 (pc' := 27) (ls' := [some (.ref (ad 200)), none]) (st' := [.int (zI (mLk ζ (ζ 6 0)).1), .ref (ad 200)]) rfl ?_
    refine v_callV (My := mX10_well) (As := [.int (zI (mLk ζ (ζ 6 0)).1)]) (rest := []) (mc := 0) (ms := 0) rfl caX10_well rfl rfl rfl q2.1.1.1 rfl rfl (q_well G _ ((zI (mLk ζ (ζ 6 0)).1)) q2.1.1.1) rfl rfl (Nat.le_of_ble_eq_true rfl) (by omega) ?_
    rintro _ h99 ⟨rfl, e99⟩
    refine v_run 0 (pc' := 30) (ls' := [some (.ref (ad 200)), none]) (st' := [.int ((zI (mLk ζ (ζ 6 0)).1))]) rfl ?_
    rw [show bLook ζ = ((mLk ζ (ζ 6 0)).1, 0) from if_neg (by omega)]
    exact v_iret rfl rfl rfl ⟨rfl, q2.fin hA e99⟩
  · simp (disch := omega) only [zI_lt, zI_le, zI_eq, zI_lt0, zI_le0, zI_0lt, zI_0le, zI_eq0] at c11
    refine v_run 2 (pc' := 16) (ls' := [some (.ref (ad 200)), some (.int (zI ↑((if ζ 9 0 = 0 then 6 else 0 : Nat))))]) (st' := [.int (zI ↑((if ζ 9 0 = 0 then 6 else 0 : Nat))), .ref (ad 200)]) rfl ?_
    refine v_callV (My := mX10_refused) (As := [.int (zI ↑((if ζ 9 0 = 0 then 6 else 0 : Nat)))]) (rest := []) (mc := 0) (ms := 0) rfl caX10_refused rfl rfl rfl q1.1.1.1 rfl rfl (q_refused G _ ↑((if ζ 9 0 = 0 then 6 else 0 : Nat)) q1.1.1.1) rfl rfl (Nat.le_of_ble_eq_true rfl) (by omega) ?_
    rintro _ h99 ⟨rfl, e99⟩
    refine v_run 0 (pc' := 19) (ls' := [some (.ref (ad 200)), some (.int (zI ↑((if ζ 9 0 = 0 then 6 else 0 : Nat))))]) (st' := [.int (zI (-1))]) rfl ?_
    refine v_run 1 (pc' := 30) (ls' := [some (.ref (ad 200)), some (.int (zI ↑((if ζ 9 0 = 0 then 6 else 0 : Nat))))]) (st' := [.int (zI (-1))]) rfl ?_
    rw [show bLook ζ = (-1, (if ζ 9 0 = 0 then 6 else 0 : Nat)) from if_pos (by omega)]
    exact v_iret rfl rfl rfl ⟨rfl, q1.fin hA e99⟩

set_option maxRecDepth 100000 in
set_option maxHeartbeats 400000 in
theorem q_lookLeaves (G : ssG) (h : ssH) {ad : Nat → Nat} {rv : Value} {m : Nat → Int} {ζ ρ : Nat → Nat → Nat}  (hA : ∀ k l, ad k = ad l → k = l) (ht : MT h ad rv m ζ ρ) (hz : SaOk ζ) (hV : XOk (ρ 2)) (hd : ρ 2 23 ≤ 99)  : ssC G mX10_lookLeaves 9 0 0 [.ref (ad 200)] h (mR ζ rv m ρ ad h ↑(bLookL ζ).2 (.int (zI (bLookL ζ).1))) := by
  refine c_of_v okX10_lookLeaves (by decide +kernel) (ls := [some (.ref (ad 200)), none]) rfl (Nat.le_of_ble_eq_true rfl) ?_
  obtain ⟨z0, z1, z2, z3, z4, z5, z6, z9, z12, z13, z14, z15, z16, z17, z18, z19, z20⟩ := id hz
  refine v_run 2 (pc' := 2) (ls' := [some (.ref (ad 200)), none]) (st' := [.int (zI 0), .ref (ad 200)]) rfl ?_
  refine v_put rfl ht.1.1 rfl rfl (Nat.le_of_ble_eq_true rfl) ?_
  generalize e1 : hset h (ad 200) _ = h1
  have q1 : MQs h ad rv (mU m 0 0) ζ ρ h1 (mU m 0 0) ρ := ⟨ht.ob hA e1, mSm.rf _, rSm.rf ρ, (frM.rf ad h).ob e1⟩
  refine v_run 1 (pc' := 6) (ls' := [some (.ref (ad 200)), none]) (st' := [.ref (ad 200)]) rfl ?_
  refine v_callV (My := mX10_refusesDoubt) (As := []) (rest := []) (mc := 0) (ms := 0) rfl caX10_refusesDoubt rfl rfl rfl q1.1.1.1 rfl rfl (q_refusesDoubt G _ hA q1.1.1 hz q1.1.2.1) rfl rfl (Nat.le_of_ble_eq_true rfl) (by omega) ?_
  rintro _ _ ⟨rfl, rfl⟩
  refine v_run 0 (pc' := 9) (ls' := [some (.ref (ad 200)), none]) (st' := [.int (zI ↑((if ζ 9 0 = 0 then 6 else 0 : Nat)))]) rfl ?_
  have wy : (if ζ 9 0 = 0 then 6 else 0 : Nat) ≤ 6 := by split <;> decide
  refine v_run 2 (pc' := 11) (ls' := [some (.ref (ad 200)), some (.int (zI ↑((if ζ 9 0 = 0 then 6 else 0 : Nat))))]) (st' := [.int (zI ↑((if ζ 9 0 = 0 then 6 else 0 : Nat)))]) rfl ?_
  refine v_if_le rfl (fun c11 => ?_) (fun c11 => ?_)
  · simp (disch := omega) only [zI_lt, zI_le, zI_eq, zI_lt0, zI_le0, zI_0lt, zI_0le, zI_eq0] at c11
    have w0 : 1 ≤ ζ 9 0 := Nat.pos_of_ne_zero (fun q => by rw [if_pos q] at c11; omega)
    have w1 : (if ζ 9 0 = 0 then 6 else 0 : Nat) = 0 := if_neg (by omega)
    refine v_drop 1 (ls' := [some (.ref (ad 200)), none]) rfl ?_
    refine v_run 1 (pc' := 21) (ls' := [some (.ref (ad 200)), none]) (st' := [.ref (ad 200)]) rfl ?_
    refine v_callV (My := mX10_looks) (As := []) (rest := []) (mc := 0) (ms := 0) rfl caX10_looks rfl rfl rfl q1.1.1.1 rfl rfl (q_looks G _ hA q1.1 hz w0) rfl rfl (Nat.le_of_ble_eq_true rfl) (by omega) ?_
    rintro _ h2 ⟨rfl, mm, rr, hq, hm24⟩
    have q2 : MQs h ad rv (mU m 0 0) ζ ρ h2 mm rr := q1.tr hq
    refine v_run 0 (pc' := 24) (ls' := [some (.ref (ad 200)), none]) (st' := [.int (zI (mLk ζ (ζ 6 0)).1)]) rfl ?_
    refine v_run 3 (pc' := 27) (ls' := [some (.ref (ad 200)), none]) (st' := [.ref (ad 200), .ref (ad 200)]) rfl ?_
    refine v_get rfl q2.1.1.1 rfl ?_
    refine v_run 0 (pc' := 30) (ls' := [some (.ref (ad 200)), none]) (st' := [.int (zI (mm 24)), .ref (ad 200)]) rfl ?_
    rw [show (zI (mm 24) : Int32) = zI (mLk ζ (ζ 6 0)).2 from by rw [hm24]]
    refine v_callV (My := mX10_well) (As := [.int (zI (mLk ζ (ζ 6 0)).2)]) (rest := []) (mc := 0) (ms := 0) rfl caX10_well rfl rfl rfl q2.1.1.1 rfl rfl (q_well G _ ((zI (mLk ζ (ζ 6 0)).2)) q2.1.1.1) rfl rfl (Nat.le_of_ble_eq_true rfl) (by omega) ?_
    rintro _ h99 ⟨rfl, e99⟩
    refine v_run 0 (pc' := 33) (ls' := [some (.ref (ad 200)), none]) (st' := [.int ((zI (mLk ζ (ζ 6 0)).2))]) rfl ?_
    rw [show bLookL ζ = ((mLk ζ (ζ 6 0)).2, 0) from if_neg (by omega)]
    exact v_iret rfl rfl rfl ⟨rfl, q2.fin hA e99⟩
  · simp (disch := omega) only [zI_lt, zI_le, zI_eq, zI_lt0, zI_le0, zI_0lt, zI_0le, zI_eq0] at c11
    refine v_run 2 (pc' := 16) (ls' := [some (.ref (ad 200)), some (.int (zI ↑((if ζ 9 0 = 0 then 6 else 0 : Nat))))]) (st' := [.int (zI ↑((if ζ 9 0 = 0 then 6 else 0 : Nat))), .ref (ad 200)]) rfl ?_
    refine v_callV (My := mX10_refused) (As := [.int (zI ↑((if ζ 9 0 = 0 then 6 else 0 : Nat)))]) (rest := []) (mc := 0) (ms := 0) rfl caX10_refused rfl rfl rfl q1.1.1.1 rfl rfl (q_refused G _ ↑((if ζ 9 0 = 0 then 6 else 0 : Nat)) q1.1.1.1) rfl rfl (Nat.le_of_ble_eq_true rfl) (by omega) ?_
    rintro _ h99 ⟨rfl, e99⟩
    refine v_run 0 (pc' := 19) (ls' := [some (.ref (ad 200)), some (.int (zI ↑((if ζ 9 0 = 0 then 6 else 0 : Nat))))]) (st' := [.int (zI (-1))]) rfl ?_
    rw [show bLookL ζ = (-1, (if ζ 9 0 = 0 then 6 else 0 : Nat)) from if_pos (by omega)]
    exact v_iret rfl rfl rfl ⟨rfl, q1.fin hA e99⟩

