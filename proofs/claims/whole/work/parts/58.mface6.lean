def lwG (V : Nat → Nat) (i : Int) : Nat → Nat → Nat → Int × Int
  | 0, _, _ => (0, 1)
  | n + 1, s, k => if V (12 + s) = 0 then (if (↑k : Int) = i then (↑s, 0) else lwG V i n (s + 1) (k + 1)) else lwG V i n (s + 1) k
def lwA (ζ : Nat → Nat → Nat) (V : Nat → Nat) (i : Int) : Int × Int := lwG V i (ζ 5 0) 0 0
def bSizN (ζ : Nat → Nat → Nat) (V : Nat → Nat) (m : Nat → Int) (k : Nat) : Int := match k with
  | 0 => ↑(ζ 0 0)
  | 1 => ↑(ζ 1 0)
  | 2 => ↑(ζ 2 0)
  | 3 => ↑(V 24)
  | 4 => ↑(ζ 4 0)
  | 5 => ↑(ζ 5 0)
  | 6 => ↑(ζ 6 0)
  | 7 => ↑(ζ 7 0)
  | 8 => ↑(ζ 8 0)
  | 9 => if ζ 9 0 = 0 then 0 else 1
  | 10 => ↑(ζ 10 0)
  | 11 => ↑(V 23)
  | 12 => ↑(V 25)
  | 13 => m 19
  | _ => m 20
def bSize (ζ : Nat → Nat → Nat) (V : Nat → Nat) (m : Nat → Int) (s : Int) : Int := if s = 15 then m 6 else if ¬ (0 ≤ s ∧ s ≤ 14) then -1 else bSizN ζ V m s.toNat
def bSize0 (m : Nat → Int) (s : Int) : Int := if s = 15 then m 6 else if ¬ (0 ≤ s ∧ s ≤ 14) then -1 else 0
set_option maxRecDepth 100000 in
set_option maxHeartbeats 400000 in
theorem q_trouble (G : ssG) (h : ssH) {ad : Nat → Nat} {sv rv : Value} {m : Nat → Int} (ho : h (ad 200) = some (.inr (10, obM ad sv rv m))) : ssC G mX10_trouble 0 0 0 [.ref (ad 200)] h (fun r h' => r = some (.int (zI (m 1))) ∧ hset h (ad 200) (.inr (10, obM ad sv rv (mU m 0 0))) = h') := by
  refine c_of_v okX10_trouble (by decide +kernel) (ls := [some (.ref (ad 200))]) rfl (Nat.le_of_ble_eq_true rfl) ?_
  refine v_run 2 (pc' := 2) (ls' := [some (.ref (ad 200))]) (st' := [.int (zI 0), .ref (ad 200)]) rfl ?_
  refine v_put rfl ho rfl rfl (Nat.le_of_ble_eq_true rfl) ?_
  rw [show (obM ad sv rv m).set 0 (.int (zI 0)) = obM ad sv rv (mU m 0 0) from rfl]
  refine v_run 1 (pc' := 6) (ls' := [some (.ref (ad 200))]) (st' := [.ref (ad 200)]) rfl ?_
  refine v_get rfl (hset_self _ _ _) rfl ?_
  refine v_run 0 (pc' := 9) (ls' := [some (.ref (ad 200))]) (st' := [.int (zI ((mU m 0 0) 1))]) rfl ?_
  exact v_iret rfl rfl rfl ⟨rfl, rfl⟩

set_option maxRecDepth 100000 in
set_option maxHeartbeats 400000 in
theorem q_fault (G : ssG) (h : ssH) {ad : Nat → Nat} {sv rv : Value} {m : Nat → Int} (ho : h (ad 200) = some (.inr (10, obM ad sv rv m))) : ssC G mX10_fault 0 0 0 [.ref (ad 200)] h (fun r h' => r = some (.int (zI (m 12))) ∧ hset h (ad 200) (.inr (10, obM ad sv rv (mU m 0 0))) = h') := by
  refine c_of_v okX10_fault (by decide +kernel) (ls := [some (.ref (ad 200))]) rfl (Nat.le_of_ble_eq_true rfl) ?_
  refine v_run 2 (pc' := 2) (ls' := [some (.ref (ad 200))]) (st' := [.int (zI 0), .ref (ad 200)]) rfl ?_
  refine v_put rfl ho rfl rfl (Nat.le_of_ble_eq_true rfl) ?_
  rw [show (obM ad sv rv m).set 0 (.int (zI 0)) = obM ad sv rv (mU m 0 0) from rfl]
  refine v_run 1 (pc' := 6) (ls' := [some (.ref (ad 200))]) (st' := [.ref (ad 200)]) rfl ?_
  refine v_get rfl (hset_self _ _ _) rfl ?_
  refine v_run 0 (pc' := 9) (ls' := [some (.ref (ad 200))]) (st' := [.int (zI ((mU m 0 0) 12))]) rfl ?_
  exact v_iret rfl rfl rfl ⟨rfl, rfl⟩

set_option maxRecDepth 100000 in
set_option maxHeartbeats 400000 in
theorem q_where (G : ssG) (h : ssH) {ad : Nat → Nat} {sv rv : Value} {m : Nat → Int} (ho : h (ad 200) = some (.inr (10, obM ad sv rv m))) : ssC G mX10_where 0 0 0 [.ref (ad 200)] h (fun r h' => r = some (.int (zI (m 2))) ∧ hset h (ad 200) (.inr (10, obM ad sv rv (mU m 0 0))) = h') := by
  refine c_of_v okX10_where (by decide +kernel) (ls := [some (.ref (ad 200))]) rfl (Nat.le_of_ble_eq_true rfl) ?_
  refine v_run 2 (pc' := 2) (ls' := [some (.ref (ad 200))]) (st' := [.int (zI 0), .ref (ad 200)]) rfl ?_
  refine v_put rfl ho rfl rfl (Nat.le_of_ble_eq_true rfl) ?_
  rw [show (obM ad sv rv m).set 0 (.int (zI 0)) = obM ad sv rv (mU m 0 0) from rfl]
  refine v_run 1 (pc' := 6) (ls' := [some (.ref (ad 200))]) (st' := [.ref (ad 200)]) rfl ?_
  refine v_get rfl (hset_self _ _ _) rfl ?_
  refine v_run 0 (pc' := 9) (ls' := [some (.ref (ad 200))]) (st' := [.int (zI ((mU m 0 0) 2))]) rfl ?_
  exact v_iret rfl rfl rfl ⟨rfl, rfl⟩

set_option maxRecDepth 100000 in
set_option maxHeartbeats 400000 in
theorem q_thrown (G : ssG) (h : ssH) {ad : Nat → Nat} {sv rv : Value} {m : Nat → Int} (ho : h (ad 200) = some (.inr (10, obM ad sv rv m))) : ssC G mX10_thrown 0 0 0 [.ref (ad 200)] h (rI (zI (m 0)) h) := by
  refine c_of_v okX10_thrown (by decide +kernel) (ls := [some (.ref (ad 200))]) rfl (Nat.le_of_ble_eq_true rfl) ?_
  refine v_run 1 (pc' := 1) (ls' := [some (.ref (ad 200))]) (st' := [.ref (ad 200)]) rfl ?_
  refine v_get rfl ho rfl ?_
  refine v_run 0 (pc' := 4) (ls' := [some (.ref (ad 200))]) (st' := [.int (zI (m 0))]) rfl ?_
  exact v_iret rfl rfl rfl ⟨rfl, rfl⟩

set_option maxRecDepth 100000 in
set_option maxHeartbeats 400000 in
theorem q_led (G : ssG) (h : ssH) {ad : Nat → Nat} {rv : Value} {m : Nat → Int} {ζ ρ : Nat → Nat → Nat} (i : Int) (hA : ∀ k l, ad k = ad l → k = l) (ht : MT h ad rv m ζ ρ) (hz : SaOk ζ) (hV : XOk (ρ 2)) (hi : -2147483648 ≤ i ∧ i < 2147483648) : ssC G mX10_led 0 0 0 [.ref (ad 200), .int (zI i)] h (fun r h' => r = some (.int (zI (lwA ζ (ρ 2) i).1)) ∧ hset h (ad 200) (.inr (10, obM ad (.ref (ad 210)) rv (mU m 0 (lwA ζ (ρ 2) i).2))) = h') := by
  refine c_of_v okX10_led (by decide +kernel) (ls := [some (.ref (ad 200)), some (.int (zI i)), none, none]) rfl (Nat.le_of_ble_eq_true rfl) ?_
  obtain ⟨z0, z1, z2, z3, z4, z5, z6, z9, z12, z13, z14, z15, z16, z17, z18, z19, z20⟩ := id hz
  refine v_run 2 (pc' := 2) (ls' := [some (.ref (ad 200)), some (.int (zI i)), none, none]) (st' := [.int (zI 0), .ref (ad 200)]) rfl ?_
  refine v_put rfl ht.1.1 rfl rfl (Nat.le_of_ble_eq_true rfl) ?_
  generalize e1 : hset h (ad 200) (.inr (10, (obM ad (.ref (ad 210)) rv m).set 0 (.int (zI 0)))) = h1
  have t1 : MT h1 ad rv (mU m 0 0) ζ ρ := ht.ob hA e1
  refine v_run 4 (pc' := 9) (ls' := [some (.ref (ad 200)), some (.int (zI i)), some (.int (zI 0)), some (.int (zI 0))]) (st' := []) rfl ?_
  have lp : ∀ (n s k : Nat), (s ≤ ζ 5 0 ∧ k ≤ s ∧ lwG (ρ 2) i (ζ 5 0 - s) s k = lwA ζ (ρ 2) i) → ζ 5 0 + 1 ≤ s + n → ssV G mX10_led 0 0 0 (fun r h' => r = some (.int (zI (lwA ζ (ρ 2) i).1)) ∧ hset h (ad 200) (.inr (10, obM ad (.ref (ad 210)) rv (mU m 0 (lwA ζ (ρ 2) i).2))) = h') 9 [some (.ref (ad 200)), some (.int (zI i)), some (.int (zI ↑k)), some (.int (zI ↑s))] [] h1 := by
    intro n
    induction n with
    | zero => intro s k hs1 hs2; exact absurd hs2 (by omega)
    | succ n ih =>
      intro s k hs1 hs2
      refine v_run 1 (pc' := 10) (ls' := [some (.ref (ad 200)), some (.int (zI i)), some (.int (zI ↑k)), some (.int (zI ↑s))]) (st' := [.ref (ad 200)]) rfl ?_
      refine v_get rfl t1.1.1 rfl ?_
      refine v_run 3 (pc' := 18) (ls' := [some (.ref (ad 200)), some (.int (zI i)), some (.int (zI ↑k)), some (.int (zI ↑s))]) (st' := [.ref (ad 200), .int (zI ↑s)]) rfl ?_
      refine v_get rfl t1.1.1 rfl ?_
      refine v_run 0 (pc' := 21) (ls' := [some (.ref (ad 200)), some (.int (zI i)), some (.int (zI ↑k)), some (.int (zI ↑s))]) (st' := [.ref (ad 210), .int (zI ↑s)]) rfl ?_
      refine v_get rfl t1.1.2.1.1 rfl ?_
      refine v_run 0 (pc' := 24) (ls' := [some (.ref (ad 200)), some (.int (zI i)), some (.int (zI ↑k)), some (.int (zI ↑s))]) (st' := [.int (zI ↑(ζ 5 0)), .int (zI ↑s)]) rfl ?_
      refine v_icmp_ge rfl (fun c24 => ?_) (fun c24 => ?_)
      · simp (disch := omega) only [zI_lt, zI_le, zI_eq, zI_lt0, zI_le0, zI_0lt, zI_0le, zI_eq0] at c24
        refine v_run 2 (pc' := 60) (ls' := [some (.ref (ad 200)), some (.int (zI i)), some (.int (zI ↑k)), some (.int (zI ↑s))]) (st' := [.int (zI 1), .ref (ad 200)]) rfl ?_
        refine v_put rfl t1.1.1 rfl rfl (Nat.le_of_ble_eq_true rfl) ?_
        refine v_run 1 (pc' := 64) (ls' := [some (.ref (ad 200)), some (.int (zI i)), some (.int (zI ↑k)), some (.int (zI ↑s))]) (st' := [.int (zI 0)]) rfl ?_
        exact v_iret rfl rfl rfl (by rw [← hs1.2.2, show ζ 5 0 - s = 0 by omega]; exact ⟨rfl, by rw [← e1, hset_hset]; rfl⟩)
      · simp (disch := omega) only [zI_lt, zI_le, zI_eq, zI_lt0, zI_le0, zI_0lt, zI_0le, zI_eq0] at c24
        have e0 := hs1.2.2
        rw [show ζ 5 0 - s = (ζ 5 0 - (s + 1)) + 1 by omega, lwG] at e0
        have l12 := hV.2.2.1 s (by omega)
        refine v_run 1 (pc' := 28) (ls' := [some (.ref (ad 200)), some (.int (zI i)), some (.int (zI ↑k)), some (.int (zI ↑s))]) (st' := [.ref (ad 200)]) rfl ?_
        refine v_get rfl t1.1.1 rfl ?_
        refine v_run 3 (pc' := 35) (ls' := [some (.ref (ad 200)), some (.int (zI i)), some (.int (zI ↑k)), some (.int (zI ↑s))]) (st' := [.int ((zI 12) + (zI ↑s)), .ref (ad 202)]) rfl ?_
        refine v_iaload' rfl t1.2.2.1 (i := (12 + s)) (zN_add 12 s) (by omega) ?_
        refine v_run 0 (pc' := 36) (ls' := [some (.ref (ad 200)), some (.int (zI i)), some (.int (zI ↑k)), some (.int (zI ↑s))]) (st' := [.int (zI ↑(ρ 2 (12 + s)))]) rfl ?_
        refine v_if_le rfl (fun c36 => ?_) (fun c36 => ?_)
        · simp (disch := omega) only [zI_lt, zI_le, zI_eq, zI_lt0, zI_le0, zI_0lt, zI_0le, zI_eq0] at c36
          refine v_run 2 (pc' := 44) (ls' := [some (.ref (ad 200)), some (.int (zI i)), some (.int (zI ↑k)), some (.int (zI ↑s))]) (st' := [.int (zI i), .int (zI ↑k)]) rfl ?_
          refine v_icmp_ne rfl (fun c44 => ?_) (fun c44 => ?_)
          · simp (disch := omega) only [zI_lt, zI_le, zI_eq, zI_lt0, zI_le0, zI_0lt, zI_0le, zI_eq0] at c44
            refine v_run 3 (pc' := 9) (ls' := [some (.ref (ad 200)), some (.int (zI i)), some (.int ((zI ↑k) + zI 1)), some (.int ((zI ↑s) + zI 1))]) (st' := []) rfl ?_
            rw [zI_s1, zI_s1]
            exact ih (s + 1) (k + 1) ⟨by omega, by omega, by rw [← e0, if_pos (by omega), if_neg (by omega)]⟩ (by omega)
          · simp (disch := omega) only [zI_lt, zI_le, zI_eq, zI_lt0, zI_le0, zI_0lt, zI_0le, zI_eq0] at c44
            refine v_run 1 (pc' := 48) (ls' := [some (.ref (ad 200)), some (.int (zI i)), some (.int (zI ↑k)), some (.int (zI ↑s))]) (st' := [.int (zI ↑s)]) rfl ?_
            exact v_iret rfl rfl rfl (by rw [← e0, if_pos (by omega), if_pos (by omega)]; exact ⟨rfl, e1⟩)
        · simp (disch := omega) only [zI_lt, zI_le, zI_eq, zI_lt0, zI_le0, zI_0lt, zI_0le, zI_eq0] at c36
          refine v_run 3 (pc' := 9) (ls' := [some (.ref (ad 200)), some (.int (zI i)), some (.int (zI ↑k)), some (.int ((zI ↑s) + zI 1))]) (st' := []) rfl ?_
          rw [zI_s1]
          exact ih (s + 1) k ⟨by omega, by omega, by rw [← e0, if_neg (by omega)]⟩ (by omega)
  exact lp (ζ 5 0 + 1) 0 0 ⟨by omega, by omega, rfl⟩ (by omega)

set_option maxRecDepth 100000 in
set_option maxHeartbeats 400000 in
theorem q_led0 (G : ssG) (h : ssH) {ad : Nat → Nat} {rv : Value} {m : Nat → Int} (x : Int32) (ho : h (ad 200) = some (.inr (10, obM ad .null rv m))) : ssC G mX10_led 0 0 0 [.ref (ad 200), .int x] h (fun r h' => r = some (.int (zI 0)) ∧ hset h (ad 200) (.inr (10, obM ad (.null) rv (mU m 0 1))) = h') := by
  refine c_of_v okX10_led (by decide +kernel) (ls := [some (.ref (ad 200)), some (.int x), none, none]) rfl (Nat.le_of_ble_eq_true rfl) ?_
  refine v_run 2 (pc' := 2) (ls' := [some (.ref (ad 200)), some (.int x), none, none]) (st' := [.int (zI 0), .ref (ad 200)]) rfl ?_
  refine v_put rfl ho rfl rfl (Nat.le_of_ble_eq_true rfl) ?_
  rw [show (obM ad .null rv m).set 0 (.int (zI 0)) = obM ad .null rv (mU m 0 0) from rfl]
  refine v_run 5 (pc' := 10) (ls' := [some (.ref (ad 200)), some (.int x), some (.int (zI 0)), some (.int (zI 0))]) (st' := [.ref (ad 200)]) rfl ?_
  refine v_get rfl (hset_self _ _ _) rfl ?_
  refine v_run 3 (pc' := 60) (ls' := [some (.ref (ad 200)), some (.int x), some (.int (zI 0)), some (.int (zI 0))]) (st' := [.int (zI 1), .ref (ad 200)]) rfl ?_
  refine v_put rfl (hset_self _ _ _) rfl rfl (Nat.le_of_ble_eq_true rfl) ?_
  rw [hset_hset]
  refine v_run 1 (pc' := 64) (ls' := [some (.ref (ad 200)), some (.int x), some (.int (zI 0)), some (.int (zI 0))]) (st' := [.int (zI 0)]) rfl ?_
  exact v_iret rfl rfl rfl ⟨rfl, congrArg (fun z => hset h (ad 200) (.inr (10, obM ad .null rv z))) (mU_mU m 0 0 1).symm⟩

set_option maxRecDepth 100000 in
set_option maxHeartbeats 400000 in
theorem q_size (G : ssG) (h : ssH) {ad : Nat → Nat} {rv : Value} {m : Nat → Int} {ζ ρ : Nat → Nat → Nat} (s : Int) (hA : ∀ k l, ad k = ad l → k = l) (ht : MT h ad rv m ζ ρ) (hz : SaOk ζ) (hs : -2147483648 ≤ s ∧ s < 2147483648) : ssC G mX10_size 1 0 0 [.ref (ad 200), .int (zI s)] h (fun r h' => r = some (.int (zI (bSize ζ (ρ 2) m s))) ∧ hset h (ad 200) (.inr (10, obM ad (.ref (ad 210)) rv (mU m 0 0))) = h') := by
  refine c_of_v okX10_size (by decide +kernel) (ls := [some (.ref (ad 200)), some (.int (zI s))]) rfl (Nat.le_of_ble_eq_true rfl) ?_
  obtain ⟨z0, z1, z2, z3, z4, z5, z6, z9, z12, z13, z14, z15, z16, z17, z18, z19, z20⟩ := id hz
  refine v_run 2 (pc' := 2) (ls' := [some (.ref (ad 200)), some (.int (zI s))]) (st' := [.int (zI 0), .ref (ad 200)]) rfl ?_
  refine v_put rfl ht.1.1 rfl rfl (Nat.le_of_ble_eq_true rfl) ?_
  generalize e1 : hset h (ad 200) (.inr (10, (obM ad (.ref (ad 210)) rv m).set 0 (.int (zI 0)))) = h1
  have t1 : MT h1 ad rv (mU m 0 0) ζ ρ := ht.ob hA e1
  refine v_run 2 (pc' := 8) (ls' := [some (.ref (ad 200)), some (.int (zI s))]) (st' := [.int (zI 15), .int (zI s)]) rfl ?_
  refine v_icmp_ne rfl (fun c8 => ?_) (fun c8 => ?_)
  · simp (disch := omega) only [zI_lt, zI_le, zI_eq, zI_lt0, zI_le0, zI_0lt, zI_0le, zI_eq0] at c8
    refine v_run 3 (pc' := 20) (ls' := [some (.ref (ad 200)), some (.int (zI s))]) (st' := [.int (zI 14), .int (zI 0), .int (zI s)]) rfl ?_
    refine v_callS (My := mX10_in) (As := [.int (zI s), .int (zI 0), .int (zI 14)]) (rest := []) (mc := 0) (ms := 0) rfl caX10_in rfl rfl (q_in G _ s 0 14 hs (by decide) (by decide)) rfl rfl (Nat.le_of_ble_eq_true rfl) (by omega) ?_
    rintro _ _ ⟨rfl, rfl⟩
    refine v_run 0 (pc' := 23) (ls' := [some (.ref (ad 200)), some (.int (zI s))]) (st' := [.int (zb (decide (0 ≤ s ∧ s ≤ 14)))]) rfl ?_
    refine v_if_ne rfl (fun c23 => ?_) (fun c23 => ?_)
    · rw [zb_0, Bool.not_eq_false, decide_eq_true_eq] at c23
      have hs9 := c23
      have hA0 : ∀ x : Int, bSizN ζ (ρ 2) m s.toNat = x → bSize ζ (ρ 2) m s = x := fun x hx => by rw [bSize, if_neg (by omega), if_neg (by omega)]; exact hx
      obtain ⟨k, rfl⟩ : ∃ z : Nat, s = ↑z := ⟨s.toNat, by omega⟩
      refine v_run 1 (pc' := 29) (ls' := [some (.ref (ad 200)), some (.int (zI ↑k))]) (st' := [.ref (ad 200)]) rfl ?_
      refine v_get rfl t1.1.1 rfl ?_
      refine v_run 2 (pc' := 38) (ls' := [some (.ref (ad 200)), some (.int (zI ↑k))]) (st' := [.int (zI ↑k)]) rfl ?_
      rcases (show k = 0 ∨ k = 1 ∨ k = 2 ∨ k = 3 ∨ k = 4 ∨ k = 5 ∨ k = 6 ∨ k = 7 ∨ k = 8 ∨ k = 9 ∨ k = 10 ∨ k = 11 ∨ k = 12 ∨ k = 13 ∨ k = 14 by omega) with rfl | rfl | rfl | rfl | rfl | rfl | rfl | rfl | rfl | rfl | rfl | rfl | rfl | rfl | rfl
      · refine v_tabIn (off := 70) (t := 108) rfl (by decide +kernel) (by decide +kernel) (by decide +kernel) (by decide) ?_
        refine v_run 1 (pc' := 109) (ls' := [some (.ref (ad 200)), some (.int (zI ↑(0 : Nat)))]) (st' := [.ref (ad 200)]) rfl ?_
        refine v_get rfl t1.1.1 rfl ?_
        refine v_run 0 (pc' := 112) (ls' := [some (.ref (ad 200)), some (.int (zI ↑(0 : Nat)))]) (st' := [.ref (ad 210)]) rfl ?_
        refine v_get rfl t1.1.2.1.1 rfl ?_
        refine v_run 0 (pc' := 115) (ls' := [some (.ref (ad 200)), some (.int (zI ↑(0 : Nat)))]) (st' := [.int (zI ↑(ζ 0 0))]) rfl ?_
        exact v_iret rfl rfl rfl ⟨by rw [hA0 _ rfl]; rfl, e1⟩
      · refine v_tabIn (off := 78) (t := 116) rfl (by decide +kernel) (by decide +kernel) (by decide +kernel) (by decide) ?_
        refine v_run 1 (pc' := 117) (ls' := [some (.ref (ad 200)), some (.int (zI ↑(1 : Nat)))]) (st' := [.ref (ad 200)]) rfl ?_
        refine v_get rfl t1.1.1 rfl ?_
        refine v_run 0 (pc' := 120) (ls' := [some (.ref (ad 200)), some (.int (zI ↑(1 : Nat)))]) (st' := [.ref (ad 210)]) rfl ?_
        refine v_get rfl t1.1.2.1.1 rfl ?_
        refine v_run 0 (pc' := 123) (ls' := [some (.ref (ad 200)), some (.int (zI ↑(1 : Nat)))]) (st' := [.int (zI ↑(ζ 1 0))]) rfl ?_
        exact v_iret rfl rfl rfl ⟨by rw [hA0 _ rfl]; rfl, e1⟩
      · refine v_tabIn (off := 86) (t := 124) rfl (by decide +kernel) (by decide +kernel) (by decide +kernel) (by decide) ?_
        refine v_run 1 (pc' := 125) (ls' := [some (.ref (ad 200)), some (.int (zI ↑(2 : Nat)))]) (st' := [.ref (ad 200)]) rfl ?_
        refine v_get rfl t1.1.1 rfl ?_
        refine v_run 0 (pc' := 128) (ls' := [some (.ref (ad 200)), some (.int (zI ↑(2 : Nat)))]) (st' := [.ref (ad 210)]) rfl ?_
        refine v_get rfl t1.1.2.1.1 rfl ?_
        refine v_run 0 (pc' := 131) (ls' := [some (.ref (ad 200)), some (.int (zI ↑(2 : Nat)))]) (st' := [.int (zI ↑(ζ 2 0))]) rfl ?_
        exact v_iret rfl rfl rfl ⟨by rw [hA0 _ rfl]; rfl, e1⟩
      · refine v_tabIn (off := 94) (t := 132) rfl (by decide +kernel) (by decide +kernel) (by decide +kernel) (by decide) ?_
        refine v_run 1 (pc' := 133) (ls' := [some (.ref (ad 200)), some (.int (zI ↑(3 : Nat)))]) (st' := [.ref (ad 200)]) rfl ?_
        refine v_get rfl t1.1.1 rfl ?_
        refine v_run 1 (pc' := 138) (ls' := [some (.ref (ad 200)), some (.int (zI ↑(3 : Nat)))]) (st' := [.int (zI 24), .ref (ad 202)]) rfl ?_
        refine v_iaload' rfl t1.2.2.1 (i := 24) rfl (by decide) ?_
        refine v_run 0 (pc' := 139) (ls' := [some (.ref (ad 200)), some (.int (zI ↑(3 : Nat)))]) (st' := [.int (zI ↑(ρ 2 24))]) rfl ?_
        exact v_iret rfl rfl rfl ⟨by rw [hA0 _ rfl]; rfl, e1⟩
      · refine v_tabIn (off := 102) (t := 140) rfl (by decide +kernel) (by decide +kernel) (by decide +kernel) (by decide) ?_
        refine v_run 1 (pc' := 141) (ls' := [some (.ref (ad 200)), some (.int (zI ↑(4 : Nat)))]) (st' := [.ref (ad 200)]) rfl ?_
        refine v_get rfl t1.1.1 rfl ?_
        refine v_run 0 (pc' := 144) (ls' := [some (.ref (ad 200)), some (.int (zI ↑(4 : Nat)))]) (st' := [.ref (ad 210)]) rfl ?_
        refine v_get rfl t1.1.2.1.1 rfl ?_
        refine v_run 0 (pc' := 147) (ls' := [some (.ref (ad 200)), some (.int (zI ↑(4 : Nat)))]) (st' := [.int (zI ↑(ζ 4 0))]) rfl ?_
        exact v_iret rfl rfl rfl ⟨by rw [hA0 _ rfl]; rfl, e1⟩
      · refine v_tabIn (off := 110) (t := 148) rfl (by decide +kernel) (by decide +kernel) (by decide +kernel) (by decide) ?_
        refine v_run 1 (pc' := 149) (ls' := [some (.ref (ad 200)), some (.int (zI ↑(5 : Nat)))]) (st' := [.ref (ad 200)]) rfl ?_
        refine v_get rfl t1.1.1 rfl ?_
        refine v_run 0 (pc' := 152) (ls' := [some (.ref (ad 200)), some (.int (zI ↑(5 : Nat)))]) (st' := [.ref (ad 210)]) rfl ?_
        refine v_get rfl t1.1.2.1.1 rfl ?_
        refine v_run 0 (pc' := 155) (ls' := [some (.ref (ad 200)), some (.int (zI ↑(5 : Nat)))]) (st' := [.int (zI ↑(ζ 5 0))]) rfl ?_
        exact v_iret rfl rfl rfl ⟨by rw [hA0 _ rfl]; rfl, e1⟩
      · refine v_tabIn (off := 118) (t := 156) rfl (by decide +kernel) (by decide +kernel) (by decide +kernel) (by decide) ?_
        refine v_run 1 (pc' := 157) (ls' := [some (.ref (ad 200)), some (.int (zI ↑(6 : Nat)))]) (st' := [.ref (ad 200)]) rfl ?_
        refine v_get rfl t1.1.1 rfl ?_
        refine v_run 0 (pc' := 160) (ls' := [some (.ref (ad 200)), some (.int (zI ↑(6 : Nat)))]) (st' := [.ref (ad 210)]) rfl ?_
        refine v_get rfl t1.1.2.1.1 rfl ?_
        refine v_run 0 (pc' := 163) (ls' := [some (.ref (ad 200)), some (.int (zI ↑(6 : Nat)))]) (st' := [.int (zI ↑(ζ 6 0))]) rfl ?_
        exact v_iret rfl rfl rfl ⟨by rw [hA0 _ rfl]; rfl, e1⟩
      · refine v_tabIn (off := 126) (t := 164) rfl (by decide +kernel) (by decide +kernel) (by decide +kernel) (by decide) ?_
        refine v_run 1 (pc' := 165) (ls' := [some (.ref (ad 200)), some (.int (zI ↑(7 : Nat)))]) (st' := [.ref (ad 200)]) rfl ?_
        refine v_get rfl t1.1.1 rfl ?_
        refine v_run 0 (pc' := 168) (ls' := [some (.ref (ad 200)), some (.int (zI ↑(7 : Nat)))]) (st' := [.ref (ad 210)]) rfl ?_
        refine v_get rfl t1.1.2.1.1 rfl ?_
        refine v_run 0 (pc' := 171) (ls' := [some (.ref (ad 200)), some (.int (zI ↑(7 : Nat)))]) (st' := [.int (zI ↑(ζ 7 0))]) rfl ?_
        exact v_iret rfl rfl rfl ⟨by rw [hA0 _ rfl]; rfl, e1⟩
      · refine v_tabIn (off := 134) (t := 172) rfl (by decide +kernel) (by decide +kernel) (by decide +kernel) (by decide) ?_
        refine v_run 1 (pc' := 173) (ls' := [some (.ref (ad 200)), some (.int (zI ↑(8 : Nat)))]) (st' := [.ref (ad 200)]) rfl ?_
        refine v_get rfl t1.1.1 rfl ?_
        refine v_run 0 (pc' := 176) (ls' := [some (.ref (ad 200)), some (.int (zI ↑(8 : Nat)))]) (st' := [.ref (ad 210)]) rfl ?_
        refine v_get rfl t1.1.2.1.1 rfl ?_
        refine v_run 0 (pc' := 179) (ls' := [some (.ref (ad 200)), some (.int (zI ↑(8 : Nat)))]) (st' := [.int (zI ↑(ζ 8 0))]) rfl ?_
        exact v_iret rfl rfl rfl ⟨by rw [hA0 _ rfl]; rfl, e1⟩
      · refine v_tabIn (off := 142) (t := 180) rfl (by decide +kernel) (by decide +kernel) (by decide +kernel) (by decide) ?_
        refine v_run 1 (pc' := 181) (ls' := [some (.ref (ad 200)), some (.int (zI ↑(9 : Nat)))]) (st' := [.ref (ad 200)]) rfl ?_
        refine v_get rfl t1.1.1 rfl ?_
        refine v_run 0 (pc' := 184) (ls' := [some (.ref (ad 200)), some (.int (zI ↑(9 : Nat)))]) (st' := [.ref (ad 210)]) rfl ?_
        refine v_get rfl t1.1.2.1.1 rfl ?_
        refine v_run 1 (pc' := 188) (ls' := [some (.ref (ad 200)), some (.int (zI ↑(9 : Nat)))]) (st' := [.int (zI (-1)), .int (zI (↑(ζ 9 0) - 1))]) rfl ?_
        refine v_icmp_ne rfl (fun c188 => ?_) (fun c188 => ?_)
        · simp (disch := omega) only [zI_lt, zI_le, zI_eq, zI_lt0, zI_le0, zI_0lt, zI_0le, zI_eq0] at c188
          refine v_run 1 (pc' := 196) (ls' := [some (.ref (ad 200)), some (.int (zI ↑(9 : Nat)))]) (st' := [.int (zI 1)]) rfl ?_
          exact v_iret rfl rfl rfl ⟨by rw [hA0 1 (by show (if ζ 9 0 = 0 then 0 else 1 : Int) = 1; rw [if_neg (by omega)])], e1⟩
        · simp (disch := omega) only [zI_lt, zI_le, zI_eq, zI_lt0, zI_le0, zI_0lt, zI_0le, zI_eq0] at c188
          refine v_run 2 (pc' := 196) (ls' := [some (.ref (ad 200)), some (.int (zI ↑(9 : Nat)))]) (st' := [.int (zI 0)]) rfl ?_
          exact v_iret rfl rfl rfl ⟨by rw [hA0 0 (by show (if ζ 9 0 = 0 then 0 else 1 : Int) = 0; rw [if_pos (by omega)])], e1⟩
      · refine v_tabIn (off := 159) (t := 197) rfl (by decide +kernel) (by decide +kernel) (by decide +kernel) (by decide) ?_
        refine v_run 1 (pc' := 198) (ls' := [some (.ref (ad 200)), some (.int (zI ↑(10 : Nat)))]) (st' := [.ref (ad 200)]) rfl ?_
        refine v_get rfl t1.1.1 rfl ?_
        refine v_run 0 (pc' := 201) (ls' := [some (.ref (ad 200)), some (.int (zI ↑(10 : Nat)))]) (st' := [.ref (ad 210)]) rfl ?_
        refine v_get rfl t1.1.2.1.1 rfl ?_
        refine v_run 0 (pc' := 204) (ls' := [some (.ref (ad 200)), some (.int (zI ↑(10 : Nat)))]) (st' := [.int (zI ↑(ζ 10 0))]) rfl ?_
        exact v_iret rfl rfl rfl ⟨by rw [hA0 _ rfl]; rfl, e1⟩
      · refine v_tabIn (off := 167) (t := 205) rfl (by decide +kernel) (by decide +kernel) (by decide +kernel) (by decide) ?_
        refine v_run 1 (pc' := 206) (ls' := [some (.ref (ad 200)), some (.int (zI ↑(11 : Nat)))]) (st' := [.ref (ad 200)]) rfl ?_
        refine v_get rfl t1.1.1 rfl ?_
        refine v_run 1 (pc' := 211) (ls' := [some (.ref (ad 200)), some (.int (zI ↑(11 : Nat)))]) (st' := [.int (zI 23), .ref (ad 202)]) rfl ?_
        refine v_iaload' rfl t1.2.2.1 (i := 23) rfl (by decide) ?_
        refine v_run 0 (pc' := 212) (ls' := [some (.ref (ad 200)), some (.int (zI ↑(11 : Nat)))]) (st' := [.int (zI ↑(ρ 2 23))]) rfl ?_
        exact v_iret rfl rfl rfl ⟨by rw [hA0 _ rfl]; rfl, e1⟩
      · refine v_tabIn (off := 175) (t := 213) rfl (by decide +kernel) (by decide +kernel) (by decide +kernel) (by decide) ?_
        refine v_run 1 (pc' := 214) (ls' := [some (.ref (ad 200)), some (.int (zI ↑(12 : Nat)))]) (st' := [.ref (ad 200)]) rfl ?_
        refine v_get rfl t1.1.1 rfl ?_
        refine v_run 1 (pc' := 219) (ls' := [some (.ref (ad 200)), some (.int (zI ↑(12 : Nat)))]) (st' := [.int (zI 25), .ref (ad 202)]) rfl ?_
        refine v_iaload' rfl t1.2.2.1 (i := 25) rfl (by decide) ?_
        refine v_run 0 (pc' := 220) (ls' := [some (.ref (ad 200)), some (.int (zI ↑(12 : Nat)))]) (st' := [.int (zI ↑(ρ 2 25))]) rfl ?_
        exact v_iret rfl rfl rfl ⟨by rw [hA0 _ rfl]; rfl, e1⟩
      · refine v_tabIn (off := 183) (t := 221) rfl (by decide +kernel) (by decide +kernel) (by decide +kernel) (by decide) ?_
        refine v_run 1 (pc' := 222) (ls' := [some (.ref (ad 200)), some (.int (zI ↑(13 : Nat)))]) (st' := [.ref (ad 200)]) rfl ?_
        refine v_get rfl t1.1.1 rfl ?_
        refine v_run 0 (pc' := 225) (ls' := [some (.ref (ad 200)), some (.int (zI ↑(13 : Nat)))]) (st' := [.int (zI ((mU m 0 0) 19))]) rfl ?_
        exact v_iret rfl rfl rfl ⟨by rw [hA0 _ rfl]; rfl, e1⟩
      · refine v_tabOut (t := 226) rfl (by decide +kernel) (by decide) ?_
        refine v_run 1 (pc' := 227) (ls' := [some (.ref (ad 200)), some (.int (zI ↑(14 : Nat)))]) (st' := [.ref (ad 200)]) rfl ?_
        refine v_get rfl t1.1.1 rfl ?_
        refine v_run 0 (pc' := 230) (ls' := [some (.ref (ad 200)), some (.int (zI ↑(14 : Nat)))]) (st' := [.int (zI ((mU m 0 0) 20))]) rfl ?_
        exact v_iret rfl rfl rfl ⟨by rw [hA0 _ rfl]; rfl, e1⟩
    · rw [zb_0, decide_eq_false_iff_not] at c23
      refine v_run 1 (pc' := 27) (ls' := [some (.ref (ad 200)), some (.int (zI s))]) (st' := [.int (zI (-1))]) rfl ?_
      exact v_iret rfl rfl rfl ⟨by rw [bSize, if_neg (by omega), if_pos (by omega)], e1⟩
  · simp (disch := omega) only [zI_lt, zI_le, zI_eq, zI_lt0, zI_le0, zI_0lt, zI_0le, zI_eq0] at c8
    refine v_run 1 (pc' := 12) (ls' := [some (.ref (ad 200)), some (.int (zI s))]) (st' := [.ref (ad 200)]) rfl ?_
    refine v_get rfl t1.1.1 rfl ?_
    refine v_run 0 (pc' := 15) (ls' := [some (.ref (ad 200)), some (.int (zI s))]) (st' := [.int (zI ((mU m 0 0) 6))]) rfl ?_
    exact v_iret rfl rfl rfl ⟨by rw [bSize, if_pos (by omega)]; rfl, e1⟩

set_option maxRecDepth 100000 in
set_option maxHeartbeats 400000 in
theorem q_size0 (G : ssG) (h : ssH) {ad : Nat → Nat} {rv : Value} {m : Nat → Int} (s : Int) (ho : h (ad 200) = some (.inr (10, obM ad .null rv m))) (hs : -2147483648 ≤ s ∧ s < 2147483648) : ssC G mX10_size 1 0 0 [.ref (ad 200), .int (zI s)] h (fun r h' => r = some (.int (zI (bSize0 m s))) ∧ hset h (ad 200) (.inr (10, obM ad (.null) rv (mU m 0 0))) = h') := by
  refine c_of_v okX10_size (by decide +kernel) (ls := [some (.ref (ad 200)), some (.int (zI s))]) rfl (Nat.le_of_ble_eq_true rfl) ?_
  refine v_run 2 (pc' := 2) (ls' := [some (.ref (ad 200)), some (.int (zI s))]) (st' := [.int (zI 0), .ref (ad 200)]) rfl ?_
  refine v_put rfl ho rfl rfl (Nat.le_of_ble_eq_true rfl) ?_
  generalize e1 : hset h (ad 200) (.inr (10, (obM ad (.null) rv m).set 0 (.int (zI 0)))) = h1
  have o1 : h1 (ad 200) = some (.inr (10, obM ad .null rv (mU m 0 0))) := e1 ▸ hset_self _ _ _
  refine v_run 2 (pc' := 8) (ls' := [some (.ref (ad 200)), some (.int (zI s))]) (st' := [.int (zI 15), .int (zI s)]) rfl ?_
  refine v_icmp_ne rfl (fun c8 => ?_) (fun c8 => ?_)
  · simp (disch := omega) only [zI_lt, zI_le, zI_eq, zI_lt0, zI_le0, zI_0lt, zI_0le, zI_eq0] at c8
    refine v_run 3 (pc' := 20) (ls' := [some (.ref (ad 200)), some (.int (zI s))]) (st' := [.int (zI 14), .int (zI 0), .int (zI s)]) rfl ?_
    refine v_callS (My := mX10_in) (As := [.int (zI s), .int (zI 0), .int (zI 14)]) (rest := []) (mc := 0) (ms := 0) rfl caX10_in rfl rfl (q_in G _ s 0 14 hs (by decide) (by decide)) rfl rfl (Nat.le_of_ble_eq_true rfl) (by omega) ?_
    rintro _ _ ⟨rfl, rfl⟩
    refine v_run 0 (pc' := 23) (ls' := [some (.ref (ad 200)), some (.int (zI s))]) (st' := [.int (zb (decide (0 ≤ s ∧ s ≤ 14)))]) rfl ?_
    refine v_if_ne rfl (fun c23 => ?_) (fun c23 => ?_)
    · rw [zb_0, Bool.not_eq_false, decide_eq_true_eq] at c23
      refine v_run 1 (pc' := 29) (ls' := [some (.ref (ad 200)), some (.int (zI s))]) (st' := [.ref (ad 200)]) rfl ?_
      refine v_get rfl o1 rfl ?_
      refine v_run 2 (pc' := 36) (ls' := [some (.ref (ad 200)), some (.int (zI s))]) (st' := [.int (zI 0)]) rfl ?_
      exact v_iret rfl rfl rfl ⟨by rw [bSize0, if_neg (by omega), if_neg (by omega)], e1⟩
    · rw [zb_0, decide_eq_false_iff_not] at c23
      refine v_run 1 (pc' := 27) (ls' := [some (.ref (ad 200)), some (.int (zI s))]) (st' := [.int (zI (-1))]) rfl ?_
      exact v_iret rfl rfl rfl ⟨by rw [bSize0, if_neg (by omega), if_pos (by omega)], e1⟩
  · simp (disch := omega) only [zI_lt, zI_le, zI_eq, zI_lt0, zI_le0, zI_0lt, zI_0le, zI_eq0] at c8
    refine v_run 1 (pc' := 12) (ls' := [some (.ref (ad 200)), some (.int (zI s))]) (st' := [.ref (ad 200)]) rfl ?_
    refine v_get rfl o1 rfl ?_
    refine v_run 0 (pc' := 15) (ls' := [some (.ref (ad 200)), some (.int (zI s))]) (st' := [.int (zI ((mU m 0 0) 6))]) rfl ?_
    exact v_iret rfl rfl rfl ⟨by rw [bSize0, if_pos (by omega)]; rfl, e1⟩

set_option maxRecDepth 100000 in
set_option maxHeartbeats 400000 in
theorem q_senator0 (G : ssG) (h : ssH) {ad : Nat → Nat} {rv : Value} {m : Nat → Int} (x0 : Int32) (x1 : Int32) (ho : h (ad 200) = some (.inr (10, obM ad .null rv m)))  : ssC G mX10_senator 2 0 0 [.ref (ad 200), .int x0, .int x1] h (fun r h' => r = some (.int (zI (-1))) ∧ hset h (ad 200) (.inr (10, obM ad .null rv (mT (mU m 0 0) 1))) = h') := by
  refine c_of_v okX10_senator (by decide +kernel) (ls := [some (.ref (ad 200)), some (.int x0), some (.int x1)]) rfl (Nat.le_of_ble_eq_true rfl) ?_
  refine v_run 2 (pc' := 2) (ls' := [some (.ref (ad 200)), some (.int x0), some (.int x1)]) (st' := [.int (zI 0), .ref (ad 200)]) rfl ?_
  refine v_put rfl ho rfl rfl (Nat.le_of_ble_eq_true rfl) ?_
  generalize e1 : hset h (ad 200) (.inr (10, (obM ad .null rv m).set 0 (.int (zI 0)))) = h1
  have o1 : h1 (ad 200) = some (.inr (10, obM ad .null rv (mU m 0 0))) := e1 ▸ hset_self _ _ _
  refine v_run 2 (pc' := 7) (ls' := [some (.ref (ad 200)), some (.int x0), some (.int x1)]) (st' := [.int x0, .ref (ad 200)]) rfl ?_
  refine v_callV (My := mX10_isSenator) (As := [.int x0]) (rest := []) (mc := 0) (ms := 0) rfl caX10_isSenator rfl rfl rfl o1 rfl rfl (q_isSenator0 G _ (x0) o1) rfl rfl (Nat.le_of_ble_eq_true rfl) (by omega) ?_
  rintro _ _ ⟨rfl, rfl⟩
  refine v_run 0 (pc' := 10) (ls' := [some (.ref (ad 200)), some (.int x0), some (.int x1)]) (st' := [.int (zb false)]) rfl ?_
  refine v_if_eq rfl (fun c10 => ?_) (fun c10 => ?_)
  · refine v_run 2 (pc' := 24) (ls' := [some (.ref (ad 200)), some (.int x0), some (.int x1)]) (st' := [.int (zI 1), .ref (ad 200)]) rfl ?_
    refine v_callV (My := mX10_refused) (As := [.int (zI 1)]) (rest := []) (mc := 0) (ms := 0) rfl caX10_refused rfl rfl rfl o1 rfl rfl (q_refused G _ 1 o1) rfl rfl (Nat.le_of_ble_eq_true rfl) (by omega) ?_
    rintro _ _ ⟨rfl, rfl⟩
    refine v_run 0 (pc' := 27) (ls' := [some (.ref (ad 200)), some (.int x0), some (.int x1)]) (st' := [.int (zI (-1))]) rfl ?_
    exact v_iret rfl rfl rfl ⟨rfl, by rw [← e1, hset_hset]⟩
  · exact absurd c10 (by decide +kernel)

set_option maxRecDepth 100000 in
set_option maxHeartbeats 400000 in
theorem q_hook0 (G : ssG) (h : ssH) {ad : Nat → Nat} {rv : Value} {m : Nat → Int} (x0 : Int32) (x1 : Int32) (ho : h (ad 200) = some (.inr (10, obM ad .null rv m)))  : ssC G mX10_hook 2 0 0 [.ref (ad 200), .int x0, .int x1] h (fun r h' => r = some (.int (zI (-1))) ∧ hset h (ad 200) (.inr (10, obM ad .null rv (mT (mU m 0 0) 1))) = h') := by
  refine c_of_v okX10_hook (by decide +kernel) (ls := [some (.ref (ad 200)), some (.int x0), some (.int x1)]) rfl (Nat.le_of_ble_eq_true rfl) ?_
  refine v_run 2 (pc' := 2) (ls' := [some (.ref (ad 200)), some (.int x0), some (.int x1)]) (st' := [.int (zI 0), .ref (ad 200)]) rfl ?_
  refine v_put rfl ho rfl rfl (Nat.le_of_ble_eq_true rfl) ?_
  generalize e1 : hset h (ad 200) (.inr (10, (obM ad .null rv m).set 0 (.int (zI 0)))) = h1
  have o1 : h1 (ad 200) = some (.inr (10, obM ad .null rv (mU m 0 0))) := e1 ▸ hset_self _ _ _
  refine v_run 2 (pc' := 7) (ls' := [some (.ref (ad 200)), some (.int x0), some (.int x1)]) (st' := [.int x0, .ref (ad 200)]) rfl ?_
  refine v_callV (My := mX10_isHook) (As := [.int x0]) (rest := []) (mc := 0) (ms := 0) rfl caX10_isHook rfl rfl rfl o1 rfl rfl (q_isHook0 G _ (x0) o1) rfl rfl (Nat.le_of_ble_eq_true rfl) (by omega) ?_
  rintro _ _ ⟨rfl, rfl⟩
  refine v_run 0 (pc' := 10) (ls' := [some (.ref (ad 200)), some (.int x0), some (.int x1)]) (st' := [.int (zb false)]) rfl ?_
  refine v_if_eq rfl (fun c10 => ?_) (fun c10 => ?_)
  · refine v_run 2 (pc' := 24) (ls' := [some (.ref (ad 200)), some (.int x0), some (.int x1)]) (st' := [.int (zI 1), .ref (ad 200)]) rfl ?_
    refine v_callV (My := mX10_refused) (As := [.int (zI 1)]) (rest := []) (mc := 0) (ms := 0) rfl caX10_refused rfl rfl rfl o1 rfl rfl (q_refused G _ 1 o1) rfl rfl (Nat.le_of_ble_eq_true rfl) (by omega) ?_
    rintro _ _ ⟨rfl, rfl⟩
    refine v_run 0 (pc' := 27) (ls' := [some (.ref (ad 200)), some (.int x0), some (.int x1)]) (st' := [.int (zI (-1))]) rfl ?_
    exact v_iret rfl rfl rfl ⟨rfl, by rw [← e1, hset_hset]⟩
  · exact absurd c10 (by decide +kernel)

set_option maxRecDepth 100000 in
set_option maxHeartbeats 400000 in
theorem q_act0 (G : ssG) (h : ssH) {ad : Nat → Nat} {rv : Value} {m : Nat → Int} (x0 : Int32) (x1 : Int32) (ho : h (ad 200) = some (.inr (10, obM ad .null rv m)))  : ssC G mX10_act 2 0 0 [.ref (ad 200), .int x0, .int x1] h (fun r h' => r = some (.int (zI (-1))) ∧ hset h (ad 200) (.inr (10, obM ad .null rv (mT (mU m 0 0) 1))) = h') := by
  refine c_of_v okX10_act (by decide +kernel) (ls := [some (.ref (ad 200)), some (.int x0), some (.int x1)]) rfl (Nat.le_of_ble_eq_true rfl) ?_
  refine v_run 2 (pc' := 2) (ls' := [some (.ref (ad 200)), some (.int x0), some (.int x1)]) (st' := [.int (zI 0), .ref (ad 200)]) rfl ?_
  refine v_put rfl ho rfl rfl (Nat.le_of_ble_eq_true rfl) ?_
  generalize e1 : hset h (ad 200) (.inr (10, (obM ad .null rv m).set 0 (.int (zI 0)))) = h1
  have o1 : h1 (ad 200) = some (.inr (10, obM ad .null rv (mU m 0 0))) := e1 ▸ hset_self _ _ _
  refine v_run 2 (pc' := 7) (ls' := [some (.ref (ad 200)), some (.int x0), some (.int x1)]) (st' := [.int x0, .ref (ad 200)]) rfl ?_
  refine v_callV (My := mX10_isAct) (As := [.int x0]) (rest := []) (mc := 0) (ms := 0) rfl caX10_isAct rfl rfl rfl o1 rfl rfl (q_isAct0 G _ (x0) o1) rfl rfl (Nat.le_of_ble_eq_true rfl) (by omega) ?_
  rintro _ _ ⟨rfl, rfl⟩
  refine v_run 0 (pc' := 10) (ls' := [some (.ref (ad 200)), some (.int x0), some (.int x1)]) (st' := [.int (zb false)]) rfl ?_
  refine v_if_eq rfl (fun c10 => ?_) (fun c10 => ?_)
  · refine v_run 2 (pc' := 24) (ls' := [some (.ref (ad 200)), some (.int x0), some (.int x1)]) (st' := [.int (zI 1), .ref (ad 200)]) rfl ?_
    refine v_callV (My := mX10_refused) (As := [.int (zI 1)]) (rest := []) (mc := 0) (ms := 0) rfl caX10_refused rfl rfl rfl o1 rfl rfl (q_refused G _ 1 o1) rfl rfl (Nat.le_of_ble_eq_true rfl) (by omega) ?_
    rintro _ _ ⟨rfl, rfl⟩
    refine v_run 0 (pc' := 27) (ls' := [some (.ref (ad 200)), some (.int x0), some (.int x1)]) (st' := [.int (zI (-1))]) rfl ?_
    exact v_iret rfl rfl rfl ⟨rfl, by rw [← e1, hset_hset]⟩
  · exact absurd c10 (by decide +kernel)

set_option maxRecDepth 100000 in
set_option maxHeartbeats 400000 in
theorem q_good0 (G : ssG) (h : ssH) {ad : Nat → Nat} {rv : Value} {m : Nat → Int}  (ho : h (ad 200) = some (.inr (10, obM ad .null rv m)))  : ssC G mX10_good 2 0 0 [.ref (ad 200)] h (fun r h' => r = some (.int (zI (-1))) ∧ hset h (ad 200) (.inr (10, obM ad .null rv (mT (mU m 0 0) 1))) = h') := by
  refine c_of_v okX10_good (by decide +kernel) (ls := [some (.ref (ad 200))]) rfl (Nat.le_of_ble_eq_true rfl) ?_
  refine v_run 2 (pc' := 2) (ls' := [some (.ref (ad 200))]) (st' := [.int (zI 0), .ref (ad 200)]) rfl ?_
  refine v_put rfl ho rfl rfl (Nat.le_of_ble_eq_true rfl) ?_
  generalize e1 : hset h (ad 200) (.inr (10, (obM ad .null rv m).set 0 (.int (zI 0)))) = h1
  have o1 : h1 (ad 200) = some (.inr (10, obM ad .null rv (mU m 0 0))) := e1 ▸ hset_self _ _ _
  refine v_run 1 (pc' := 6) (ls' := [some (.ref (ad 200))]) (st' := [.ref (ad 200)]) rfl ?_
  refine v_get rfl o1 rfl ?_
  refine v_run 3 (pc' := 14) (ls' := [some (.ref (ad 200))]) (st' := [.int (zI 1), .ref (ad 200)]) rfl ?_
  refine v_callV (My := mX10_refused) (As := [.int (zI 1)]) (rest := []) (mc := 0) (ms := 0) rfl caX10_refused rfl rfl rfl o1 rfl rfl (q_refused G _ 1 o1) rfl rfl (Nat.le_of_ble_eq_true rfl) (by omega) ?_
  rintro _ _ ⟨rfl, rfl⟩
  refine v_run 0 (pc' := 17) (ls' := [some (.ref (ad 200))]) (st' := [.int (zI (-1))]) rfl ?_
  exact v_iret rfl rfl rfl ⟨rfl, by rw [← e1, hset_hset]⟩

set_option maxRecDepth 100000 in
set_option maxHeartbeats 400000 in
theorem q_quorum0 (G : ssG) (h : ssH) {ad : Nat → Nat} {rv : Value} {m : Nat → Int}  (ho : h (ad 200) = some (.inr (10, obM ad .null rv m)))  : ssC G mX10_quorum 2 0 0 [.ref (ad 200)] h (fun r h' => r = some (.int (zI (-1))) ∧ hset h (ad 200) (.inr (10, obM ad .null rv (mT (mU m 0 0) 1))) = h') := by
  refine c_of_v okX10_quorum (by decide +kernel) (ls := [some (.ref (ad 200))]) rfl (Nat.le_of_ble_eq_true rfl) ?_
  refine v_run 2 (pc' := 2) (ls' := [some (.ref (ad 200))]) (st' := [.int (zI 0), .ref (ad 200)]) rfl ?_
  refine v_put rfl ho rfl rfl (Nat.le_of_ble_eq_true rfl) ?_
  generalize e1 : hset h (ad 200) (.inr (10, (obM ad .null rv m).set 0 (.int (zI 0)))) = h1
  have o1 : h1 (ad 200) = some (.inr (10, obM ad .null rv (mU m 0 0))) := e1 ▸ hset_self _ _ _
  refine v_run 1 (pc' := 6) (ls' := [some (.ref (ad 200))]) (st' := [.ref (ad 200)]) rfl ?_
  refine v_get rfl o1 rfl ?_
  refine v_run 3 (pc' := 14) (ls' := [some (.ref (ad 200))]) (st' := [.int (zI 1), .ref (ad 200)]) rfl ?_
  refine v_callV (My := mX10_refused) (As := [.int (zI 1)]) (rest := []) (mc := 0) (ms := 0) rfl caX10_refused rfl rfl rfl o1 rfl rfl (q_refused G _ 1 o1) rfl rfl (Nat.le_of_ble_eq_true rfl) (by omega) ?_
  rintro _ _ ⟨rfl, rfl⟩
  refine v_run 0 (pc' := 17) (ls' := [some (.ref (ad 200))]) (st' := [.int (zI (-1))]) rfl ?_
  exact v_iret rfl rfl rfl ⟨rfl, by rw [← e1, hset_hset]⟩

set_option maxRecDepth 100000 in
set_option maxHeartbeats 400000 in
theorem q_goodIn0 (G : ssG) (h : ssH) {ad : Nat → Nat} {rv : Value} {m : Nat → Int} (x0 : Int32) (n1 : Int) (ho : h (ad 200) = some (.inr (10, obM ad .null rv m))) (hn1 : -2147483648 ≤ n1 ∧ n1 < 2147483648) : ssC G mX10_goodIn 2 0 0 [.ref (ad 200), .int x0, .int (zI n1)] h (fun r h' => r = some (.int (zI (-1))) ∧ hset h (ad 200) (.inr (10, obM ad .null rv (mT (mU m 0 0) 1))) = h') := by
  refine c_of_v okX10_goodIn (by decide +kernel) (ls := [some (.ref (ad 200)), some (.int x0), some (.int (zI n1)), none]) rfl (Nat.le_of_ble_eq_true rfl) ?_
  refine v_run 2 (pc' := 2) (ls' := [some (.ref (ad 200)), some (.int x0), some (.int (zI n1)), none]) (st' := [.int (zI 0), .ref (ad 200)]) rfl ?_
  refine v_put rfl ho rfl rfl (Nat.le_of_ble_eq_true rfl) ?_
  generalize e1 : hset h (ad 200) (.inr (10, (obM ad .null rv m).set 0 (.int (zI 0)))) = h1
  have o1 : h1 (ad 200) = some (.inr (10, obM ad .null rv (mU m 0 0))) := e1 ▸ hset_self _ _ _
  refine v_run 3 (pc' := 8) (ls' := [some (.ref (ad 200)), some (.int x0), some (.int (zI n1)), none]) (st' := [.int x0, .ref (ad 200), .ref (ad 200)]) rfl ?_
  refine v_callV (My := mX10_isSenator) (As := [.int x0]) (rest := [.ref (ad 200)]) (mc := 0) (ms := 0) rfl caX10_isSenator rfl rfl rfl o1 rfl rfl (q_isSenator0 G _ (x0) o1) rfl rfl (Nat.le_of_ble_eq_true rfl) (by omega) ?_
  rintro _ _ ⟨rfl, rfl⟩
  refine v_run 0 (pc' := 11) (ls' := [some (.ref (ad 200)), some (.int x0), some (.int (zI n1)), none]) (st' := [.int (zb false), .ref (ad 200)]) rfl ?_
  refine v_run 2 (pc' := 14) (ls' := [some (.ref (ad 200)), some (.int x0), some (.int (zI n1)), none]) (st' := [.int (zI 60), .int (zI n1), .int (zb false), .ref (ad 200)]) rfl ?_
  refine v_callV (My := mX10_refusesDays) (As := [.int (zb false), .int (zI n1), .int (zI 60)]) (rest := []) (mc := 0) (ms := 0) rfl caX10_refusesDays rfl rfl rfl o1 rfl rfl (q_refusesDays G _ false n1 60 hn1 (by decide)) rfl rfl (Nat.le_of_ble_eq_true rfl) (by omega) ?_
  rintro _ _ ⟨rfl, rfl⟩
  refine v_run 0 (pc' := 17) (ls' := [some (.ref (ad 200)), some (.int x0), some (.int (zI n1)), none]) (st' := [.int (zI 1)]) rfl ?_
  refine v_run 2 (pc' := 19) (ls' := [some (.ref (ad 200)), some (.int x0), some (.int (zI n1)), some (.int (zI 1))]) (st' := [.int (zI 1)]) rfl ?_
  refine v_if_le rfl (fun c19 => ?_) (fun c19 => ?_)
  · exact absurd c19 (by decide +kernel)
  · refine v_run 2 (pc' := 24) (ls' := [some (.ref (ad 200)), some (.int x0), some (.int (zI n1)), some (.int (zI 1))]) (st' := [.int (zI 1), .ref (ad 200)]) rfl ?_
    refine v_callV (My := mX10_refused) (As := [.int (zI 1)]) (rest := []) (mc := 0) (ms := 0) rfl caX10_refused rfl rfl rfl o1 rfl rfl (q_refused G _ 1 o1) rfl rfl (Nat.le_of_ble_eq_true rfl) (by omega) ?_
    rintro _ _ ⟨rfl, rfl⟩
    refine v_run 0 (pc' := 27) (ls' := [some (.ref (ad 200)), some (.int x0), some (.int (zI n1)), some (.int (zI 1))]) (st' := [.int (zI (-1))]) rfl ?_
    exact v_iret rfl rfl rfl ⟨rfl, by rw [← e1, hset_hset]⟩

set_option maxRecDepth 100000 in
set_option maxHeartbeats 400000 in
theorem q_offIn0 (G : ssG) (h : ssH) {ad : Nat → Nat} {rv : Value} {m : Nat → Int} (x0 : Int32) (ho : h (ad 200) = some (.inr (10, obM ad .null rv m)))  : ssC G mX10_offIn 2 0 0 [.ref (ad 200), .int x0] h (fun r h' => r = some (.int (zI (-1))) ∧ hset h (ad 200) (.inr (10, obM ad .null rv (mT (mU m 0 0) 1))) = h') := by
  refine c_of_v okX10_offIn (by decide +kernel) (ls := [some (.ref (ad 200)), some (.int x0), none]) rfl (Nat.le_of_ble_eq_true rfl) ?_
  refine v_run 2 (pc' := 2) (ls' := [some (.ref (ad 200)), some (.int x0), none]) (st' := [.int (zI 0), .ref (ad 200)]) rfl ?_
  refine v_put rfl ho rfl rfl (Nat.le_of_ble_eq_true rfl) ?_
  generalize e1 : hset h (ad 200) (.inr (10, (obM ad .null rv m).set 0 (.int (zI 0)))) = h1
  have o1 : h1 (ad 200) = some (.inr (10, obM ad .null rv (mU m 0 0))) := e1 ▸ hset_self _ _ _
  refine v_run 2 (pc' := 7) (ls' := [some (.ref (ad 200)), some (.int x0), none]) (st' := [.int x0, .ref (ad 200)]) rfl ?_
  refine v_callV (My := mX10_isSenator) (As := [.int x0]) (rest := []) (mc := 0) (ms := 0) rfl caX10_isSenator rfl rfl rfl o1 rfl rfl (q_isSenator0 G _ (x0) o1) rfl rfl (Nat.le_of_ble_eq_true rfl) (by omega) ?_
  rintro _ _ ⟨rfl, rfl⟩
  refine v_run 0 (pc' := 10) (ls' := [some (.ref (ad 200)), some (.int x0), none]) (st' := [.int (zb false)]) rfl ?_
  refine v_if_ne rfl (fun c10 => ?_) (fun c10 => ?_)
  · exact absurd c10 (by decide +kernel)
  · refine v_run 2 (pc' := 15) (ls' := [some (.ref (ad 200)), some (.int x0), none]) (st' := [.int (zI 1), .ref (ad 200)]) rfl ?_
    refine v_callV (My := mX10_refused) (As := [.int (zI 1)]) (rest := []) (mc := 0) (ms := 0) rfl caX10_refused rfl rfl rfl o1 rfl rfl (q_refused G _ 1 o1) rfl rfl (Nat.le_of_ble_eq_true rfl) (by omega) ?_
    rintro _ _ ⟨rfl, rfl⟩
    refine v_run 0 (pc' := 18) (ls' := [some (.ref (ad 200)), some (.int x0), none]) (st' := [.int (zI (-1))]) rfl ?_
    exact v_iret rfl rfl rfl ⟨rfl, by rw [← e1, hset_hset]⟩

set_option maxRecDepth 100000 in
set_option maxHeartbeats 400000 in
theorem q_lasts0 (G : ssG) (h : ssH) {ad : Nat → Nat} {rv : Value} {m : Nat → Int}  (ho : h (ad 200) = some (.inr (10, obM ad .null rv m)))  : ssC G mX10_lasts 2 0 0 [.ref (ad 200)] h (fun r h' => r = some (.int (zI (-1))) ∧ hset h (ad 200) (.inr (10, obM ad .null rv (mT (mU m 0 0) 1))) = h') := by
  refine c_of_v okX10_lasts (by decide +kernel) (ls := [some (.ref (ad 200))]) rfl (Nat.le_of_ble_eq_true rfl) ?_
  refine v_run 2 (pc' := 2) (ls' := [some (.ref (ad 200))]) (st' := [.int (zI 0), .ref (ad 200)]) rfl ?_
  refine v_put rfl ho rfl rfl (Nat.le_of_ble_eq_true rfl) ?_
  generalize e1 : hset h (ad 200) (.inr (10, (obM ad .null rv m).set 0 (.int (zI 0)))) = h1
  have o1 : h1 (ad 200) = some (.inr (10, obM ad .null rv (mU m 0 0))) := e1 ▸ hset_self _ _ _
  refine v_run 1 (pc' := 6) (ls' := [some (.ref (ad 200))]) (st' := [.ref (ad 200)]) rfl ?_
  refine v_get rfl o1 rfl ?_
  refine v_run 3 (pc' := 14) (ls' := [some (.ref (ad 200))]) (st' := [.int (zI 1), .ref (ad 200)]) rfl ?_
  refine v_callV (My := mX10_refused) (As := [.int (zI 1)]) (rest := []) (mc := 0) (ms := 0) rfl caX10_refused rfl rfl rfl o1 rfl rfl (q_refused G _ 1 o1) rfl rfl (Nat.le_of_ble_eq_true rfl) (by omega) ?_
  rintro _ _ ⟨rfl, rfl⟩
  refine v_run 0 (pc' := 17) (ls' := [some (.ref (ad 200))]) (st' := [.int (zI (-1))]) rfl ?_
  exact v_iret rfl rfl rfl ⟨rfl, by rw [← e1, hset_hset]⟩

set_option maxRecDepth 100000 in
set_option maxHeartbeats 400000 in
theorem q_going0 (G : ssG) (h : ssH) {ad : Nat → Nat} {rv : Value} {m : Nat → Int}  (ho : h (ad 200) = some (.inr (10, obM ad .null rv m)))  : ssC G mX10_going 2 0 0 [.ref (ad 200)] h (fun r h' => r = some (.int (zI (-1))) ∧ hset h (ad 200) (.inr (10, obM ad .null rv (mT (mU m 0 0) 1))) = h') := by
  refine c_of_v okX10_going (by decide +kernel) (ls := [some (.ref (ad 200))]) rfl (Nat.le_of_ble_eq_true rfl) ?_
  refine v_run 2 (pc' := 2) (ls' := [some (.ref (ad 200))]) (st' := [.int (zI 0), .ref (ad 200)]) rfl ?_
  refine v_put rfl ho rfl rfl (Nat.le_of_ble_eq_true rfl) ?_
  generalize e1 : hset h (ad 200) (.inr (10, (obM ad .null rv m).set 0 (.int (zI 0)))) = h1
  have o1 : h1 (ad 200) = some (.inr (10, obM ad .null rv (mU m 0 0))) := e1 ▸ hset_self _ _ _
  refine v_run 1 (pc' := 6) (ls' := [some (.ref (ad 200))]) (st' := [.ref (ad 200)]) rfl ?_
  refine v_get rfl o1 rfl ?_
  refine v_run 3 (pc' := 14) (ls' := [some (.ref (ad 200))]) (st' := [.int (zI 1), .ref (ad 200)]) rfl ?_
  refine v_callV (My := mX10_refused) (As := [.int (zI 1)]) (rest := []) (mc := 0) (ms := 0) rfl caX10_refused rfl rfl rfl o1 rfl rfl (q_refused G _ 1 o1) rfl rfl (Nat.le_of_ble_eq_true rfl) (by omega) ?_
  rintro _ _ ⟨rfl, rfl⟩
  refine v_run 0 (pc' := 17) (ls' := [some (.ref (ad 200))]) (st' := [.int (zI (-1))]) rfl ?_
  refine v_run 1 (pc' := 28) (ls' := [some (.ref (ad 200))]) (st' := [.int (zI (-1))]) rfl ?_
  exact v_iret rfl rfl rfl ⟨rfl, by rw [← e1, hset_hset]⟩

set_option maxRecDepth 100000 in
set_option maxHeartbeats 400000 in
theorem q_nextAct0 (G : ssG) (h : ssH) {ad : Nat → Nat} {rv : Value} {m : Nat → Int}  (ho : h (ad 200) = some (.inr (10, obM ad .null rv m)))  : ssC G mX10_nextAct 2 0 0 [.ref (ad 200)] h (fun r h' => r = some (.int (zI (-1))) ∧ hset h (ad 200) (.inr (10, obM ad .null rv (mT (mU m 0 0) 1))) = h') := by
  refine c_of_v okX10_nextAct (by decide +kernel) (ls := [some (.ref (ad 200)), none, none]) rfl (Nat.le_of_ble_eq_true rfl) ?_
  refine v_run 2 (pc' := 2) (ls' := [some (.ref (ad 200)), none, none]) (st' := [.int (zI 0), .ref (ad 200)]) rfl ?_
  refine v_put rfl ho rfl rfl (Nat.le_of_ble_eq_true rfl) ?_
  generalize e1 : hset h (ad 200) (.inr (10, (obM ad .null rv m).set 0 (.int (zI 0)))) = h1
  have o1 : h1 (ad 200) = some (.inr (10, obM ad .null rv (mU m 0 0))) := e1 ▸ hset_self _ _ _
  refine v_run 1 (pc' := 6) (ls' := [some (.ref (ad 200)), none, none]) (st' := [.ref (ad 200)]) rfl ?_
  refine v_get rfl o1 rfl ?_
  refine v_run 3 (pc' := 14) (ls' := [some (.ref (ad 200)), none, none]) (st' := [.int (zI 1), .ref (ad 200)]) rfl ?_
  refine v_callV (My := mX10_refused) (As := [.int (zI 1)]) (rest := []) (mc := 0) (ms := 0) rfl caX10_refused rfl rfl rfl o1 rfl rfl (q_refused G _ 1 o1) rfl rfl (Nat.le_of_ble_eq_true rfl) (by omega) ?_
  rintro _ _ ⟨rfl, rfl⟩
  refine v_run 0 (pc' := 17) (ls' := [some (.ref (ad 200)), none, none]) (st' := [.int (zI (-1))]) rfl ?_
  exact v_iret rfl rfl rfl ⟨rfl, by rw [← e1, hset_hset]⟩

set_option maxRecDepth 100000 in
set_option maxHeartbeats 400000 in
theorem q_margin0 (G : ssG) (h : ssH) {ad : Nat → Nat} {rv : Value} {m : Nat → Int} (x0 : Int32) (ho : h (ad 200) = some (.inr (10, obM ad .null rv m)))  : ssC G mX10_margin 2 0 0 [.ref (ad 200), .int x0] h (fun r h' => r = some (.int (zI (-1))) ∧ hset h (ad 200) (.inr (10, obM ad .null rv (mT (mU m 0 0) 1))) = h') := by
  refine c_of_v okX10_margin (by decide +kernel) (ls := [some (.ref (ad 200)), some (.int x0)]) rfl (Nat.le_of_ble_eq_true rfl) ?_
  refine v_run 2 (pc' := 2) (ls' := [some (.ref (ad 200)), some (.int x0)]) (st' := [.int (zI 0), .ref (ad 200)]) rfl ?_
  refine v_put rfl ho rfl rfl (Nat.le_of_ble_eq_true rfl) ?_
  generalize e1 : hset h (ad 200) (.inr (10, (obM ad .null rv m).set 0 (.int (zI 0)))) = h1
  have o1 : h1 (ad 200) = some (.inr (10, obM ad .null rv (mU m 0 0))) := e1 ▸ hset_self _ _ _
  refine v_run 2 (pc' := 7) (ls' := [some (.ref (ad 200)), some (.int x0)]) (st' := [.int x0, .ref (ad 200)]) rfl ?_
  refine v_callV (My := mX10_isAct) (As := [.int x0]) (rest := []) (mc := 0) (ms := 0) rfl caX10_isAct rfl rfl rfl o1 rfl rfl (q_isAct0 G _ (x0) o1) rfl rfl (Nat.le_of_ble_eq_true rfl) (by omega) ?_
  rintro _ _ ⟨rfl, rfl⟩
  refine v_run 0 (pc' := 10) (ls' := [some (.ref (ad 200)), some (.int x0)]) (st' := [.int (zb false)]) rfl ?_
  refine v_if_ne rfl (fun c10 => ?_) (fun c10 => ?_)
  · exact absurd c10 (by decide +kernel)
  · refine v_run 2 (pc' := 15) (ls' := [some (.ref (ad 200)), some (.int x0)]) (st' := [.int (zI 1), .ref (ad 200)]) rfl ?_
    refine v_callV (My := mX10_refused) (As := [.int (zI 1)]) (rest := []) (mc := 0) (ms := 0) rfl caX10_refused rfl rfl rfl o1 rfl rfl (q_refused G _ 1 o1) rfl rfl (Nat.le_of_ble_eq_true rfl) (by omega) ?_
    rintro _ _ ⟨rfl, rfl⟩
    refine v_run 0 (pc' := 18) (ls' := [some (.ref (ad 200)), some (.int x0)]) (st' := [.int (zI (-1))]) rfl ?_
    exact v_iret rfl rfl rfl ⟨rfl, by rw [← e1, hset_hset]⟩

set_option maxRecDepth 100000 in
set_option maxHeartbeats 400000 in
theorem q_hang0 (G : ssG) (h : ssH) {ad : Nat → Nat} {rv : Value} {m : Nat → Int} (n0 : Int) (ho : h (ad 200) = some (.inr (10, obM ad .null rv m))) (hn0 : -2147483648 ≤ n0 ∧ n0 < 2147483648) : ssC G mX10_hang 2 0 0 [.ref (ad 200), .int (zI n0)] h (fun r h' => r = some (.int (zI (-1))) ∧ hset h (ad 200) (.inr (10, obM ad .null rv (mT (mU m 0 0) 1))) = h') := by
  refine c_of_v okX10_hang (by decide +kernel) (ls := [some (.ref (ad 200)), some (.int (zI n0)), none]) rfl (Nat.le_of_ble_eq_true rfl) ?_
  refine v_run 2 (pc' := 2) (ls' := [some (.ref (ad 200)), some (.int (zI n0)), none]) (st' := [.int (zI 0), .ref (ad 200)]) rfl ?_
  refine v_put rfl ho rfl rfl (Nat.le_of_ble_eq_true rfl) ?_
  generalize e1 : hset h (ad 200) (.inr (10, (obM ad .null rv m).set 0 (.int (zI 0)))) = h1
  have o1 : h1 (ad 200) = some (.inr (10, obM ad .null rv (mU m 0 0))) := e1 ▸ hset_self _ _ _
  refine v_run 2 (pc' := 7) (ls' := [some (.ref (ad 200)), some (.int (zI n0)), none]) (st' := [.ref (ad 200), .ref (ad 200)]) rfl ?_
  refine v_get rfl o1 rfl ?_
  refine v_run 4 (pc' := 21) (ls' := [some (.ref (ad 200)), some (.int (zI n0)), none]) (st' := [.int (zI 60), .int (zI n0), .int (zI 0), .ref (ad 200)]) rfl ?_
  refine v_run 0 (pc' := 21) (ls' := [some (.ref (ad 200)), some (.int (zI n0)), none]) (st' := [.int (zI 60), .int (zI n0), .int (zb false), .ref (ad 200)]) rfl ?_
  refine v_callV (My := mX10_refusesDays) (As := [.int (zb false), .int (zI n0), .int (zI 60)]) (rest := []) (mc := 0) (ms := 0) rfl caX10_refusesDays rfl rfl rfl o1 rfl rfl (q_refusesDays G _ false n0 60 hn0 (by decide)) rfl rfl (Nat.le_of_ble_eq_true rfl) (by omega) ?_
  rintro _ _ ⟨rfl, rfl⟩
  refine v_run 0 (pc' := 24) (ls' := [some (.ref (ad 200)), some (.int (zI n0)), none]) (st' := [.int (zI 1)]) rfl ?_
  refine v_run 2 (pc' := 26) (ls' := [some (.ref (ad 200)), some (.int (zI n0)), some (.int (zI 1))]) (st' := [.int (zI 1)]) rfl ?_
  refine v_if_le rfl (fun c26 => ?_) (fun c26 => ?_)
  · exact absurd c26 (by decide +kernel)
  · refine v_run 2 (pc' := 31) (ls' := [some (.ref (ad 200)), some (.int (zI n0)), some (.int (zI 1))]) (st' := [.int (zI 1), .ref (ad 200)]) rfl ?_
    refine v_callV (My := mX10_refused) (As := [.int (zI 1)]) (rest := []) (mc := 0) (ms := 0) rfl caX10_refused rfl rfl rfl o1 rfl rfl (q_refused G _ 1 o1) rfl rfl (Nat.le_of_ble_eq_true rfl) (by omega) ?_
    rintro _ _ ⟨rfl, rfl⟩
    refine v_run 0 (pc' := 34) (ls' := [some (.ref (ad 200)), some (.int (zI n0)), some (.int (zI 1))]) (st' := [.int (zI (-1))]) rfl ?_
    refine v_run 1 (pc' := 46) (ls' := [some (.ref (ad 200)), some (.int (zI n0)), some (.int (zI 1))]) (st' := [.int (zI (-1))]) rfl ?_
    exact v_iret rfl rfl rfl ⟨rfl, by rw [← e1, hset_hset]⟩

set_option maxRecDepth 100000 in
set_option maxHeartbeats 400000 in
theorem q_hangAt0 (G : ssG) (h : ssH) {ad : Nat → Nat} {rv : Value} {m : Nat → Int} (x0 : Int32) (n1 : Int) (ho : h (ad 200) = some (.inr (10, obM ad .null rv m))) (hn1 : -2147483648 ≤ n1 ∧ n1 < 2147483648) : ssC G mX10_hangAt 2 0 0 [.ref (ad 200), .int x0, .int (zI n1)] h (fun r h' => r = some (.int (zI (-1))) ∧ hset h (ad 200) (.inr (10, obM ad .null rv (mT (mU m 0 0) 1))) = h') := by
  refine c_of_v okX10_hangAt (by decide +kernel) (ls := [some (.ref (ad 200)), some (.int x0), some (.int (zI n1)), none]) rfl (Nat.le_of_ble_eq_true rfl) ?_
  refine v_run 2 (pc' := 2) (ls' := [some (.ref (ad 200)), some (.int x0), some (.int (zI n1)), none]) (st' := [.int (zI 0), .ref (ad 200)]) rfl ?_
  refine v_put rfl ho rfl rfl (Nat.le_of_ble_eq_true rfl) ?_
  generalize e1 : hset h (ad 200) (.inr (10, (obM ad .null rv m).set 0 (.int (zI 0)))) = h1
  have o1 : h1 (ad 200) = some (.inr (10, obM ad .null rv (mU m 0 0))) := e1 ▸ hset_self _ _ _
  refine v_run 3 (pc' := 8) (ls' := [some (.ref (ad 200)), some (.int x0), some (.int (zI n1)), none]) (st' := [.int x0, .ref (ad 200), .ref (ad 200)]) rfl ?_
  refine v_callV (My := mX10_isSenator) (As := [.int x0]) (rest := [.ref (ad 200)]) (mc := 0) (ms := 0) rfl caX10_isSenator rfl rfl rfl o1 rfl rfl (q_isSenator0 G _ (x0) o1) rfl rfl (Nat.le_of_ble_eq_true rfl) (by omega) ?_
  rintro _ _ ⟨rfl, rfl⟩
  refine v_run 0 (pc' := 11) (ls' := [some (.ref (ad 200)), some (.int x0), some (.int (zI n1)), none]) (st' := [.int (zb false), .ref (ad 200)]) rfl ?_
  refine v_run 2 (pc' := 14) (ls' := [some (.ref (ad 200)), some (.int x0), some (.int (zI n1)), none]) (st' := [.int (zI 60), .int (zI n1), .int (zb false), .ref (ad 200)]) rfl ?_
  refine v_callV (My := mX10_refusesDays) (As := [.int (zb false), .int (zI n1), .int (zI 60)]) (rest := []) (mc := 0) (ms := 0) rfl caX10_refusesDays rfl rfl rfl o1 rfl rfl (q_refusesDays G _ false n1 60 hn1 (by decide)) rfl rfl (Nat.le_of_ble_eq_true rfl) (by omega) ?_
  rintro _ _ ⟨rfl, rfl⟩
  refine v_run 0 (pc' := 17) (ls' := [some (.ref (ad 200)), some (.int x0), some (.int (zI n1)), none]) (st' := [.int (zI 1)]) rfl ?_
  refine v_run 2 (pc' := 19) (ls' := [some (.ref (ad 200)), some (.int x0), some (.int (zI n1)), some (.int (zI 1))]) (st' := [.int (zI 1)]) rfl ?_
  refine v_if_le rfl (fun c19 => ?_) (fun c19 => ?_)
  · exact absurd c19 (by decide +kernel)
  · refine v_run 2 (pc' := 24) (ls' := [some (.ref (ad 200)), some (.int x0), some (.int (zI n1)), some (.int (zI 1))]) (st' := [.int (zI 1), .ref (ad 200)]) rfl ?_
    refine v_callV (My := mX10_refused) (As := [.int (zI 1)]) (rest := []) (mc := 0) (ms := 0) rfl caX10_refused rfl rfl rfl o1 rfl rfl (q_refused G _ 1 o1) rfl rfl (Nat.le_of_ble_eq_true rfl) (by omega) ?_
    rintro _ _ ⟨rfl, rfl⟩
    refine v_run 0 (pc' := 27) (ls' := [some (.ref (ad 200)), some (.int x0), some (.int (zI n1)), some (.int (zI 1))]) (st' := [.int (zI (-1))]) rfl ?_
    exact v_iret rfl rfl rfl ⟨rfl, by rw [← e1, hset_hset]⟩

set_option maxRecDepth 100000 in
set_option maxHeartbeats 400000 in
theorem q_longest0 (G : ssG) (h : ssH) {ad : Nat → Nat} {rv : Value} {m : Nat → Int}  (ho : h (ad 200) = some (.inr (10, obM ad .null rv m)))  : ssC G mX10_longest 2 0 0 [.ref (ad 200)] h (fun r h' => r = some (.int (zI (-1))) ∧ hset h (ad 200) (.inr (10, obM ad .null rv (mT (mU m 0 0) 1))) = h') := by
  refine c_of_v okX10_longest (by decide +kernel) (ls := [some (.ref (ad 200))]) rfl (Nat.le_of_ble_eq_true rfl) ?_
  refine v_run 2 (pc' := 2) (ls' := [some (.ref (ad 200))]) (st' := [.int (zI 0), .ref (ad 200)]) rfl ?_
  refine v_put rfl ho rfl rfl (Nat.le_of_ble_eq_true rfl) ?_
  generalize e1 : hset h (ad 200) (.inr (10, (obM ad .null rv m).set 0 (.int (zI 0)))) = h1
  have o1 : h1 (ad 200) = some (.inr (10, obM ad .null rv (mU m 0 0))) := e1 ▸ hset_self _ _ _
  refine v_run 1 (pc' := 6) (ls' := [some (.ref (ad 200))]) (st' := [.ref (ad 200)]) rfl ?_
  refine v_get rfl o1 rfl ?_
  refine v_run 3 (pc' := 14) (ls' := [some (.ref (ad 200))]) (st' := [.int (zI 1), .ref (ad 200)]) rfl ?_
  refine v_callV (My := mX10_refused) (As := [.int (zI 1)]) (rest := []) (mc := 0) (ms := 0) rfl caX10_refused rfl rfl rfl o1 rfl rfl (q_refused G _ 1 o1) rfl rfl (Nat.le_of_ble_eq_true rfl) (by omega) ?_
  rintro _ _ ⟨rfl, rfl⟩
  refine v_run 0 (pc' := 17) (ls' := [some (.ref (ad 200))]) (st' := [.int (zI (-1))]) rfl ?_
  refine v_run 1 (pc' := 29) (ls' := [some (.ref (ad 200))]) (st' := [.int (zI (-1))]) rfl ?_
  exact v_iret rfl rfl rfl ⟨rfl, by rw [← e1, hset_hset]⟩

set_option maxRecDepth 100000 in
set_option maxHeartbeats 400000 in
theorem q_longestAt0 (G : ssG) (h : ssH) {ad : Nat → Nat} {rv : Value} {m : Nat → Int} (x0 : Int32) (ho : h (ad 200) = some (.inr (10, obM ad .null rv m)))  : ssC G mX10_longestAt 2 0 0 [.ref (ad 200), .int x0] h (fun r h' => r = some (.int (zI (-1))) ∧ hset h (ad 200) (.inr (10, obM ad .null rv (mT (mU m 0 0) 1))) = h') := by
  refine c_of_v okX10_longestAt (by decide +kernel) (ls := [some (.ref (ad 200)), some (.int x0)]) rfl (Nat.le_of_ble_eq_true rfl) ?_
  refine v_run 2 (pc' := 2) (ls' := [some (.ref (ad 200)), some (.int x0)]) (st' := [.int (zI 0), .ref (ad 200)]) rfl ?_
  refine v_put rfl ho rfl rfl (Nat.le_of_ble_eq_true rfl) ?_
  generalize e1 : hset h (ad 200) (.inr (10, (obM ad .null rv m).set 0 (.int (zI 0)))) = h1
  have o1 : h1 (ad 200) = some (.inr (10, obM ad .null rv (mU m 0 0))) := e1 ▸ hset_self _ _ _
  refine v_run 2 (pc' := 7) (ls' := [some (.ref (ad 200)), some (.int x0)]) (st' := [.int x0, .ref (ad 200)]) rfl ?_
  refine v_callV (My := mX10_isSenator) (As := [.int x0]) (rest := []) (mc := 0) (ms := 0) rfl caX10_isSenator rfl rfl rfl o1 rfl rfl (q_isSenator0 G _ (x0) o1) rfl rfl (Nat.le_of_ble_eq_true rfl) (by omega) ?_
  rintro _ _ ⟨rfl, rfl⟩
  refine v_run 0 (pc' := 10) (ls' := [some (.ref (ad 200)), some (.int x0)]) (st' := [.int (zb false)]) rfl ?_
  refine v_if_ne rfl (fun c10 => ?_) (fun c10 => ?_)
  · exact absurd c10 (by decide +kernel)
  · refine v_run 2 (pc' := 15) (ls' := [some (.ref (ad 200)), some (.int x0)]) (st' := [.int (zI 1), .ref (ad 200)]) rfl ?_
    refine v_callV (My := mX10_refused) (As := [.int (zI 1)]) (rest := []) (mc := 0) (ms := 0) rfl caX10_refused rfl rfl rfl o1 rfl rfl (q_refused G _ 1 o1) rfl rfl (Nat.le_of_ble_eq_true rfl) (by omega) ?_
    rintro _ _ ⟨rfl, rfl⟩
    refine v_run 0 (pc' := 18) (ls' := [some (.ref (ad 200)), some (.int x0)]) (st' := [.int (zI (-1))]) rfl ?_
    exact v_iret rfl rfl rfl ⟨rfl, by rw [← e1, hset_hset]⟩

set_option maxRecDepth 100000 in
set_option maxHeartbeats 400000 in
theorem q_bestSwap0 (G : ssG) (h : ssH) {ad : Nat → Nat} {rv : Value} {m : Nat → Int}  (ho : h (ad 200) = some (.inr (10, obM ad .null rv m)))  : ssC G mX10_bestSwap 2 0 0 [.ref (ad 200)] h (fun r h' => r = some (.int (zI (-1))) ∧ hset h (ad 200) (.inr (10, obM ad .null rv (mT (mU m 0 0) 1))) = h') := by
  refine c_of_v okX10_bestSwap (by decide +kernel) (ls := [some (.ref (ad 200)), none, none, none, none, none]) rfl (Nat.le_of_ble_eq_true rfl) ?_
  refine v_run 2 (pc' := 2) (ls' := [some (.ref (ad 200)), none, none, none, none, none]) (st' := [.int (zI 0), .ref (ad 200)]) rfl ?_
  refine v_put rfl ho rfl rfl (Nat.le_of_ble_eq_true rfl) ?_
  generalize e1 : hset h (ad 200) (.inr (10, (obM ad .null rv m).set 0 (.int (zI 0)))) = h1
  have o1 : h1 (ad 200) = some (.inr (10, obM ad .null rv (mU m 0 0))) := e1 ▸ hset_self _ _ _
  refine v_run 1 (pc' := 6) (ls' := [some (.ref (ad 200)), none, none, none, none, none]) (st' := [.ref (ad 200)]) rfl ?_
  refine v_get rfl o1 rfl ?_
  refine v_run 3 (pc' := 14) (ls' := [some (.ref (ad 200)), none, none, none, none, none]) (st' := [.int (zI 1), .ref (ad 200)]) rfl ?_
  refine v_callV (My := mX10_refused) (As := [.int (zI 1)]) (rest := []) (mc := 0) (ms := 0) rfl caX10_refused rfl rfl rfl o1 rfl rfl (q_refused G _ 1 o1) rfl rfl (Nat.le_of_ble_eq_true rfl) (by omega) ?_
  rintro _ _ ⟨rfl, rfl⟩
  refine v_run 0 (pc' := 17) (ls' := [some (.ref (ad 200)), none, none, none, none, none]) (st' := [.int (zI (-1))]) rfl ?_
  exact v_iret rfl rfl rfl ⟨rfl, by rw [← e1, hset_hset]⟩

set_option maxRecDepth 100000 in
set_option maxHeartbeats 400000 in
theorem q_toSalt0 (G : ssG) (h : ssH) {ad : Nat → Nat} {rv : Value} {m : Nat → Int}  (ho : h (ad 200) = some (.inr (10, obM ad .null rv m)))  : ssC G mX10_toSalt 2 0 0 [.ref (ad 200)] h (fun r h' => r = some (.int (zI (-1))) ∧ hset h (ad 200) (.inr (10, obM ad .null rv (mT (mU m 0 0) 1))) = h') := by
  refine c_of_v okX10_toSalt (by decide +kernel) (ls := [some (.ref (ad 200)), none, none, none, none]) rfl (Nat.le_of_ble_eq_true rfl) ?_
  refine v_run 2 (pc' := 2) (ls' := [some (.ref (ad 200)), none, none, none, none]) (st' := [.int (zI 0), .ref (ad 200)]) rfl ?_
  refine v_put rfl ho rfl rfl (Nat.le_of_ble_eq_true rfl) ?_
  generalize e1 : hset h (ad 200) (.inr (10, (obM ad .null rv m).set 0 (.int (zI 0)))) = h1
  have o1 : h1 (ad 200) = some (.inr (10, obM ad .null rv (mU m 0 0))) := e1 ▸ hset_self _ _ _
  refine v_run 1 (pc' := 6) (ls' := [some (.ref (ad 200)), none, none, none, none]) (st' := [.ref (ad 200)]) rfl ?_
  refine v_get rfl o1 rfl ?_
  refine v_run 3 (pc' := 14) (ls' := [some (.ref (ad 200)), none, none, none, none]) (st' := [.int (zI 1), .ref (ad 200)]) rfl ?_
  refine v_callV (My := mX10_refused) (As := [.int (zI 1)]) (rest := []) (mc := 0) (ms := 0) rfl caX10_refused rfl rfl rfl o1 rfl rfl (q_refused G _ 1 o1) rfl rfl (Nat.le_of_ble_eq_true rfl) (by omega) ?_
  rintro _ _ ⟨rfl, rfl⟩
  refine v_run 0 (pc' := 17) (ls' := [some (.ref (ad 200)), none, none, none, none]) (st' := [.int (zI (-1))]) rfl ?_
  exact v_iret rfl rfl rfl ⟨rfl, by rw [← e1, hset_hset]⟩

set_option maxRecDepth 100000 in
set_option maxHeartbeats 400000 in
theorem q_keyMan0 (G : ssG) (h : ssH) {ad : Nat → Nat} {rv : Value} {m : Nat → Int}  (ho : h (ad 200) = some (.inr (10, obM ad .null rv m)))  : ssC G mX10_keyMan 2 0 0 [.ref (ad 200)] h (fun r h' => r = some (.int (zI (-1))) ∧ hset h (ad 200) (.inr (10, obM ad .null rv (mT (mU m 0 0) 1))) = h') := by
  refine c_of_v okX10_keyMan (by decide +kernel) (ls := [some (.ref (ad 200)), none, none, none, none]) rfl (Nat.le_of_ble_eq_true rfl) ?_
  refine v_run 2 (pc' := 2) (ls' := [some (.ref (ad 200)), none, none, none, none]) (st' := [.int (zI 0), .ref (ad 200)]) rfl ?_
  refine v_put rfl ho rfl rfl (Nat.le_of_ble_eq_true rfl) ?_
  generalize e1 : hset h (ad 200) (.inr (10, (obM ad .null rv m).set 0 (.int (zI 0)))) = h1
  have o1 : h1 (ad 200) = some (.inr (10, obM ad .null rv (mU m 0 0))) := e1 ▸ hset_self _ _ _
  refine v_run 1 (pc' := 6) (ls' := [some (.ref (ad 200)), none, none, none, none]) (st' := [.ref (ad 200)]) rfl ?_
  refine v_get rfl o1 rfl ?_
  refine v_run 3 (pc' := 14) (ls' := [some (.ref (ad 200)), none, none, none, none]) (st' := [.int (zI 1), .ref (ad 200)]) rfl ?_
  refine v_callV (My := mX10_refused) (As := [.int (zI 1)]) (rest := []) (mc := 0) (ms := 0) rfl caX10_refused rfl rfl rfl o1 rfl rfl (q_refused G _ 1 o1) rfl rfl (Nat.le_of_ble_eq_true rfl) (by omega) ?_
  rintro _ _ ⟨rfl, rfl⟩
  refine v_run 0 (pc' := 17) (ls' := [some (.ref (ad 200)), none, none, none, none]) (st' := [.int (zI (-1))]) rfl ?_
  exact v_iret rfl rfl rfl ⟨rfl, by rw [← e1, hset_hset]⟩

set_option maxRecDepth 100000 in
set_option maxHeartbeats 400000 in
theorem q_since0 (G : ssG) (h : ssH) {ad : Nat → Nat} {rv : Value} {m : Nat → Int}  (ho : h (ad 200) = some (.inr (10, obM ad .null rv m)))  : ssC G mX10_since 2 0 0 [.ref (ad 200)] h (fun r h' => r = some (.int (zI (-1))) ∧ hset h (ad 200) (.inr (10, obM ad .null rv (mT (mU m 0 0) 1))) = h') := by
  refine c_of_v okX10_since (by decide +kernel) (ls := [some (.ref (ad 200)), none]) rfl (Nat.le_of_ble_eq_true rfl) ?_
  refine v_run 2 (pc' := 2) (ls' := [some (.ref (ad 200)), none]) (st' := [.int (zI 0), .ref (ad 200)]) rfl ?_
  refine v_put rfl ho rfl rfl (Nat.le_of_ble_eq_true rfl) ?_
  generalize e1 : hset h (ad 200) (.inr (10, (obM ad .null rv m).set 0 (.int (zI 0)))) = h1
  have o1 : h1 (ad 200) = some (.inr (10, obM ad .null rv (mU m 0 0))) := e1 ▸ hset_self _ _ _
  refine v_run 1 (pc' := 6) (ls' := [some (.ref (ad 200)), none]) (st' := [.ref (ad 200)]) rfl ?_
  refine v_callV (My := mX10_refusesDoubt) (As := []) (rest := []) (mc := 0) (ms := 0) rfl caX10_refusesDoubt rfl rfl rfl o1 rfl rfl (q_refusesDoubt0 G _  o1) rfl rfl (Nat.le_of_ble_eq_true rfl) (by omega) ?_
  rintro _ _ ⟨rfl, rfl⟩
  refine v_run 0 (pc' := 9) (ls' := [some (.ref (ad 200)), none]) (st' := [.int (zI 1)]) rfl ?_
  refine v_run 2 (pc' := 11) (ls' := [some (.ref (ad 200)), some (.int (zI 1))]) (st' := [.int (zI 1)]) rfl ?_
  refine v_if_le rfl (fun c11 => ?_) (fun c11 => ?_)
  · exact absurd c11 (by decide +kernel)
  · refine v_run 2 (pc' := 16) (ls' := [some (.ref (ad 200)), some (.int (zI 1))]) (st' := [.int (zI 1), .ref (ad 200)]) rfl ?_
    refine v_callV (My := mX10_refused) (As := [.int (zI 1)]) (rest := []) (mc := 0) (ms := 0) rfl caX10_refused rfl rfl rfl o1 rfl rfl (q_refused G _ 1 o1) rfl rfl (Nat.le_of_ble_eq_true rfl) (by omega) ?_
    rintro _ _ ⟨rfl, rfl⟩
    refine v_run 0 (pc' := 19) (ls' := [some (.ref (ad 200)), some (.int (zI 1))]) (st' := [.int (zI (-1))]) rfl ?_
    exact v_iret rfl rfl rfl ⟨rfl, by rw [← e1, hset_hset]⟩

set_option maxRecDepth 100000 in
set_option maxHeartbeats 400000 in
theorem q_sinceAt0 (G : ssG) (h : ssH) {ad : Nat → Nat} {rv : Value} {m : Nat → Int} (x0 : Int32) (ho : h (ad 200) = some (.inr (10, obM ad .null rv m)))  : ssC G mX10_sinceAt 2 0 0 [.ref (ad 200), .int x0] h (fun r h' => r = some (.int (zI (-1))) ∧ hset h (ad 200) (.inr (10, obM ad .null rv (mT (mU m 0 0) 1))) = h') := by
  refine c_of_v okX10_sinceAt (by decide +kernel) (ls := [some (.ref (ad 200)), some (.int x0), none, none]) rfl (Nat.le_of_ble_eq_true rfl) ?_
  refine v_run 2 (pc' := 2) (ls' := [some (.ref (ad 200)), some (.int x0), none, none]) (st' := [.int (zI 0), .ref (ad 200)]) rfl ?_
  refine v_put rfl ho rfl rfl (Nat.le_of_ble_eq_true rfl) ?_
  generalize e1 : hset h (ad 200) (.inr (10, (obM ad .null rv m).set 0 (.int (zI 0)))) = h1
  have o1 : h1 (ad 200) = some (.inr (10, obM ad .null rv (mU m 0 0))) := e1 ▸ hset_self _ _ _
  refine v_run 1 (pc' := 6) (ls' := [some (.ref (ad 200)), some (.int x0), none, none]) (st' := [.ref (ad 200)]) rfl ?_
  refine v_callV (My := mX10_refusesDoubt) (As := []) (rest := []) (mc := 0) (ms := 0) rfl caX10_refusesDoubt rfl rfl rfl o1 rfl rfl (q_refusesDoubt0 G _  o1) rfl rfl (Nat.le_of_ble_eq_true rfl) (by omega) ?_
  rintro _ _ ⟨rfl, rfl⟩
  refine v_run 0 (pc' := 9) (ls' := [some (.ref (ad 200)), some (.int x0), none, none]) (st' := [.int (zI 1)]) rfl ?_
  refine v_run 2 (pc' := 11) (ls' := [some (.ref (ad 200)), some (.int x0), some (.int (zI 1)), none]) (st' := [.int (zI 1)]) rfl ?_
  refine v_if_le rfl (fun c11 => ?_) (fun c11 => ?_)
  · exact absurd c11 (by decide +kernel)
  · refine v_run 2 (pc' := 16) (ls' := [some (.ref (ad 200)), some (.int x0), some (.int (zI 1)), none]) (st' := [.int (zI 1), .ref (ad 200)]) rfl ?_
    refine v_callV (My := mX10_refused) (As := [.int (zI 1)]) (rest := []) (mc := 0) (ms := 0) rfl caX10_refused rfl rfl rfl o1 rfl rfl (q_refused G _ 1 o1) rfl rfl (Nat.le_of_ble_eq_true rfl) (by omega) ?_
    rintro _ _ ⟨rfl, rfl⟩
    refine v_run 0 (pc' := 19) (ls' := [some (.ref (ad 200)), some (.int x0), some (.int (zI 1)), none]) (st' := [.int (zI (-1))]) rfl ?_
    exact v_iret rfl rfl rfl ⟨rfl, by rw [← e1, hset_hset]⟩

set_option maxRecDepth 100000 in
set_option maxHeartbeats 400000 in
theorem q_look0 (G : ssG) (h : ssH) {ad : Nat → Nat} {rv : Value} {m : Nat → Int}  (ho : h (ad 200) = some (.inr (10, obM ad .null rv m)))  : ssC G mX10_look 2 0 0 [.ref (ad 200)] h (fun r h' => r = some (.int (zI (-1))) ∧ hset h (ad 200) (.inr (10, obM ad .null rv (mT (mU m 0 0) 1))) = h') := by
  refine c_of_v okX10_look (by decide +kernel) (ls := [some (.ref (ad 200)), none]) rfl (Nat.le_of_ble_eq_true rfl) ?_
  refine v_run 2 (pc' := 2) (ls' := [some (.ref (ad 200)), none]) (st' := [.int (zI 0), .ref (ad 200)]) rfl ?_
  refine v_put rfl ho rfl rfl (Nat.le_of_ble_eq_true rfl) ?_
  generalize e1 : hset h (ad 200) (.inr (10, (obM ad .null rv m).set 0 (.int (zI 0)))) = h1
  have o1 : h1 (ad 200) = some (.inr (10, obM ad .null rv (mU m 0 0))) := e1 ▸ hset_self _ _ _
  refine v_run 1 (pc' := 6) (ls' := [some (.ref (ad 200)), none]) (st' := [.ref (ad 200)]) rfl ?_
  refine v_callV (My := mX10_refusesDoubt) (As := []) (rest := []) (mc := 0) (ms := 0) rfl caX10_refusesDoubt rfl rfl rfl o1 rfl rfl (q_refusesDoubt0 G _  o1) rfl rfl (Nat.le_of_ble_eq_true rfl) (by omega) ?_
  rintro _ _ ⟨rfl, rfl⟩
  refine v_run 0 (pc' := 9) (ls' := [some (.ref (ad 200)), none]) (st' := [.int (zI 1)]) rfl ?_
  refine v_run 2 (pc' := 11) (ls' := [some (.ref (ad 200)), some (.int (zI 1))]) (st' := [.int (zI 1)]) rfl ?_
  refine v_if_le rfl (fun c11 => ?_) (fun c11 => ?_)
  · exact absurd c11 (by decide +kernel)
  · refine v_run 2 (pc' := 16) (ls' := [some (.ref (ad 200)), some (.int (zI 1))]) (st' := [.int (zI 1), .ref (ad 200)]) rfl ?_
    refine v_callV (My := mX10_refused) (As := [.int (zI 1)]) (rest := []) (mc := 0) (ms := 0) rfl caX10_refused rfl rfl rfl o1 rfl rfl (q_refused G _ 1 o1) rfl rfl (Nat.le_of_ble_eq_true rfl) (by omega) ?_
    rintro _ _ ⟨rfl, rfl⟩
    refine v_run 0 (pc' := 19) (ls' := [some (.ref (ad 200)), some (.int (zI 1))]) (st' := [.int (zI (-1))]) rfl ?_
    refine v_run 1 (pc' := 30) (ls' := [some (.ref (ad 200)), some (.int (zI 1))]) (st' := [.int (zI (-1))]) rfl ?_
    exact v_iret rfl rfl rfl ⟨rfl, by rw [← e1, hset_hset]⟩

set_option maxRecDepth 100000 in
set_option maxHeartbeats 400000 in
theorem q_lookLeaves0 (G : ssG) (h : ssH) {ad : Nat → Nat} {rv : Value} {m : Nat → Int}  (ho : h (ad 200) = some (.inr (10, obM ad .null rv m)))  : ssC G mX10_lookLeaves 2 0 0 [.ref (ad 200)] h (fun r h' => r = some (.int (zI (-1))) ∧ hset h (ad 200) (.inr (10, obM ad .null rv (mT (mU m 0 0) 1))) = h') := by
  refine c_of_v okX10_lookLeaves (by decide +kernel) (ls := [some (.ref (ad 200)), none]) rfl (Nat.le_of_ble_eq_true rfl) ?_
  refine v_run 2 (pc' := 2) (ls' := [some (.ref (ad 200)), none]) (st' := [.int (zI 0), .ref (ad 200)]) rfl ?_
  refine v_put rfl ho rfl rfl (Nat.le_of_ble_eq_true rfl) ?_
  generalize e1 : hset h (ad 200) (.inr (10, (obM ad .null rv m).set 0 (.int (zI 0)))) = h1
  have o1 : h1 (ad 200) = some (.inr (10, obM ad .null rv (mU m 0 0))) := e1 ▸ hset_self _ _ _
  refine v_run 1 (pc' := 6) (ls' := [some (.ref (ad 200)), none]) (st' := [.ref (ad 200)]) rfl ?_
  refine v_callV (My := mX10_refusesDoubt) (As := []) (rest := []) (mc := 0) (ms := 0) rfl caX10_refusesDoubt rfl rfl rfl o1 rfl rfl (q_refusesDoubt0 G _  o1) rfl rfl (Nat.le_of_ble_eq_true rfl) (by omega) ?_
  rintro _ _ ⟨rfl, rfl⟩
  refine v_run 0 (pc' := 9) (ls' := [some (.ref (ad 200)), none]) (st' := [.int (zI 1)]) rfl ?_
  refine v_run 2 (pc' := 11) (ls' := [some (.ref (ad 200)), some (.int (zI 1))]) (st' := [.int (zI 1)]) rfl ?_
  refine v_if_le rfl (fun c11 => ?_) (fun c11 => ?_)
  · exact absurd c11 (by decide +kernel)
  · refine v_run 2 (pc' := 16) (ls' := [some (.ref (ad 200)), some (.int (zI 1))]) (st' := [.int (zI 1), .ref (ad 200)]) rfl ?_
    refine v_callV (My := mX10_refused) (As := [.int (zI 1)]) (rest := []) (mc := 0) (ms := 0) rfl caX10_refused rfl rfl rfl o1 rfl rfl (q_refused G _ 1 o1) rfl rfl (Nat.le_of_ble_eq_true rfl) (by omega) ?_
    rintro _ _ ⟨rfl, rfl⟩
    refine v_run 0 (pc' := 19) (ls' := [some (.ref (ad 200)), some (.int (zI 1))]) (st' := [.int (zI (-1))]) rfl ?_
    exact v_iret rfl rfl rfl ⟨rfl, by rw [← e1, hset_hset]⟩

set_option maxRecDepth 100000 in
set_option maxHeartbeats 400000 in
theorem q_judge0 (G : ssG) (h : ssH) {ad : Nat → Nat} {rv : Value} {m : Nat → Int}  (ho : h (ad 200) = some (.inr (10, obM ad .null rv m)))  : ssC G mX10_judge 2 0 0 [.ref (ad 200)] h (fun r h' => r = some (.int (zI (-1))) ∧ hset h (ad 200) (.inr (10, obM ad .null rv (mT (mU m 0 0) 1))) = h') := by
  refine c_of_v okX10_judge (by decide +kernel) (ls := [some (.ref (ad 200))]) rfl (Nat.le_of_ble_eq_true rfl) ?_
  refine v_run 2 (pc' := 2) (ls' := [some (.ref (ad 200))]) (st' := [.int (zI 0), .ref (ad 200)]) rfl ?_
  refine v_put rfl ho rfl rfl (Nat.le_of_ble_eq_true rfl) ?_
  generalize e1 : hset h (ad 200) (.inr (10, (obM ad .null rv m).set 0 (.int (zI 0)))) = h1
  have o1 : h1 (ad 200) = some (.inr (10, obM ad .null rv (mU m 0 0))) := e1 ▸ hset_self _ _ _
  refine v_run 1 (pc' := 6) (ls' := [some (.ref (ad 200))]) (st' := [.ref (ad 200)]) rfl ?_
  refine v_get rfl o1 rfl ?_
  refine v_run 3 (pc' := 14) (ls' := [some (.ref (ad 200))]) (st' := [.int (zI 1), .ref (ad 200)]) rfl ?_
  refine v_callV (My := mX10_refused) (As := [.int (zI 1)]) (rest := []) (mc := 0) (ms := 0) rfl caX10_refused rfl rfl rfl o1 rfl rfl (q_refused G _ 1 o1) rfl rfl (Nat.le_of_ble_eq_true rfl) (by omega) ?_
  rintro _ _ ⟨rfl, rfl⟩
  refine v_run 0 (pc' := 17) (ls' := [some (.ref (ad 200))]) (st' := [.int (zI (-1))]) rfl ?_
  exact v_iret rfl rfl rfl ⟨rfl, by rw [← e1, hset_hset]⟩

set_option maxRecDepth 100000 in
set_option maxHeartbeats 400000 in
theorem q_fallsWith0 (G : ssG) (h : ssH) {ad : Nat → Nat} {rv : Value} {m : Nat → Int} (x0 : Int32) (ho : h (ad 200) = some (.inr (10, obM ad .null rv m)))  : ssC G mX10_fallsWith 2 0 0 [.ref (ad 200), .int x0] h (fun r h' => r = some (.int (zI (-1))) ∧ hset h (ad 200) (.inr (10, obM ad .null rv (mT (mU m 0 0) 1))) = h') := by
  refine c_of_v okX10_fallsWith (by decide +kernel) (ls := [some (.ref (ad 200)), some (.int x0)]) rfl (Nat.le_of_ble_eq_true rfl) ?_
  refine v_run 2 (pc' := 2) (ls' := [some (.ref (ad 200)), some (.int x0)]) (st' := [.int (zI 0), .ref (ad 200)]) rfl ?_
  refine v_put rfl ho rfl rfl (Nat.le_of_ble_eq_true rfl) ?_
  generalize e1 : hset h (ad 200) (.inr (10, (obM ad .null rv m).set 0 (.int (zI 0)))) = h1
  have o1 : h1 (ad 200) = some (.inr (10, obM ad .null rv (mU m 0 0))) := e1 ▸ hset_self _ _ _
  refine v_run 2 (pc' := 7) (ls' := [some (.ref (ad 200)), some (.int x0)]) (st' := [.int x0, .ref (ad 200)]) rfl ?_
  refine v_callV (My := mX10_isAct) (As := [.int x0]) (rest := []) (mc := 0) (ms := 0) rfl caX10_isAct rfl rfl rfl o1 rfl rfl (q_isAct0 G _ (x0) o1) rfl rfl (Nat.le_of_ble_eq_true rfl) (by omega) ?_
  rintro _ _ ⟨rfl, rfl⟩
  refine v_run 0 (pc' := 10) (ls' := [some (.ref (ad 200)), some (.int x0)]) (st' := [.int (zb false)]) rfl ?_
  refine v_if_eq rfl (fun c10 => ?_) (fun c10 => ?_)
  · refine v_run 2 (pc' := 29) (ls' := [some (.ref (ad 200)), some (.int x0)]) (st' := [.int (zI 1), .ref (ad 200)]) rfl ?_
    refine v_callV (My := mX10_refused) (As := [.int (zI 1)]) (rest := []) (mc := 0) (ms := 0) rfl caX10_refused rfl rfl rfl o1 rfl rfl (q_refused G _ 1 o1) rfl rfl (Nat.le_of_ble_eq_true rfl) (by omega) ?_
    rintro _ _ ⟨rfl, rfl⟩
    refine v_run 0 (pc' := 32) (ls' := [some (.ref (ad 200)), some (.int x0)]) (st' := [.int (zI (-1))]) rfl ?_
    exact v_iret rfl rfl rfl ⟨rfl, by rw [← e1, hset_hset]⟩
  · exact absurd c10 (by decide +kernel)

set_option maxRecDepth 100000 in
set_option maxHeartbeats 400000 in
theorem q_strike0 (G : ssG) (h : ssH) {ad : Nat → Nat} {rv : Value} {m : Nat → Int} (x0 : Int32) (ho : h (ad 200) = some (.inr (10, obM ad .null rv m)))  : ssC G mX10_strike 2 0 0 [.ref (ad 200), .int x0] h (fun r h' => r = some (.int (zI (-1))) ∧ hset h (ad 200) (.inr (10, obM ad .null rv (mT (mU m 0 0) 1))) = h') := by
  refine c_of_v okX10_strike (by decide +kernel) (ls := [some (.ref (ad 200)), some (.int x0), none, none]) rfl (Nat.le_of_ble_eq_true rfl) ?_
  refine v_run 2 (pc' := 2) (ls' := [some (.ref (ad 200)), some (.int x0), none, none]) (st' := [.int (zI 0), .ref (ad 200)]) rfl ?_
  refine v_put rfl ho rfl rfl (Nat.le_of_ble_eq_true rfl) ?_
  generalize e1 : hset h (ad 200) (.inr (10, (obM ad .null rv m).set 0 (.int (zI 0)))) = h1
  have o1 : h1 (ad 200) = some (.inr (10, obM ad .null rv (mU m 0 0))) := e1 ▸ hset_self _ _ _
  refine v_run 2 (pc' := 7) (ls' := [some (.ref (ad 200)), some (.int x0), none, none]) (st' := [.int x0, .ref (ad 200)]) rfl ?_
  refine v_callV (My := mX10_isAct) (As := [.int x0]) (rest := []) (mc := 0) (ms := 0) rfl caX10_isAct rfl rfl rfl o1 rfl rfl (q_isAct0 G _ (x0) o1) rfl rfl (Nat.le_of_ble_eq_true rfl) (by omega) ?_
  rintro _ _ ⟨rfl, rfl⟩
  refine v_run 0 (pc' := 10) (ls' := [some (.ref (ad 200)), some (.int x0), none, none]) (st' := [.int (zb false)]) rfl ?_
  refine v_if_ne rfl (fun c10 => ?_) (fun c10 => ?_)
  · exact absurd c10 (by decide +kernel)
  · refine v_run 2 (pc' := 15) (ls' := [some (.ref (ad 200)), some (.int x0), none, none]) (st' := [.int (zI 1), .ref (ad 200)]) rfl ?_
    refine v_callV (My := mX10_refused) (As := [.int (zI 1)]) (rest := []) (mc := 0) (ms := 0) rfl caX10_refused rfl rfl rfl o1 rfl rfl (q_refused G _ 1 o1) rfl rfl (Nat.le_of_ble_eq_true rfl) (by omega) ?_
    rintro _ _ ⟨rfl, rfl⟩
    refine v_run 0 (pc' := 18) (ls' := [some (.ref (ad 200)), some (.int x0), none, none]) (st' := [.int (zI (-1))]) rfl ?_
    exact v_iret rfl rfl rfl ⟨rfl, by rw [← e1, hset_hset]⟩

set_option maxRecDepth 100000 in
set_option maxHeartbeats 400000 in
theorem q_keystone0 (G : ssG) (h : ssH) {ad : Nat → Nat} {rv : Value} {m : Nat → Int}  (ho : h (ad 200) = some (.inr (10, obM ad .null rv m)))  : ssC G mX10_keystone 2 0 0 [.ref (ad 200)] h (fun r h' => r = some (.int (zI (-1))) ∧ hset h (ad 200) (.inr (10, obM ad .null rv (mT (mU m 0 0) 1))) = h') := by
  refine c_of_v okX10_keystone (by decide +kernel) (ls := [some (.ref (ad 200)), none, none]) rfl (Nat.le_of_ble_eq_true rfl) ?_
  refine v_run 2 (pc' := 2) (ls' := [some (.ref (ad 200)), none, none]) (st' := [.int (zI 0), .ref (ad 200)]) rfl ?_
  refine v_put rfl ho rfl rfl (Nat.le_of_ble_eq_true rfl) ?_
  generalize e1 : hset h (ad 200) (.inr (10, (obM ad .null rv m).set 0 (.int (zI 0)))) = h1
  have o1 : h1 (ad 200) = some (.inr (10, obM ad .null rv (mU m 0 0))) := e1 ▸ hset_self _ _ _
  refine v_run 1 (pc' := 6) (ls' := [some (.ref (ad 200)), none, none]) (st' := [.ref (ad 200)]) rfl ?_
  refine v_get rfl o1 rfl ?_
  refine v_run 3 (pc' := 14) (ls' := [some (.ref (ad 200)), none, none]) (st' := [.int (zI 1), .ref (ad 200)]) rfl ?_
  refine v_callV (My := mX10_refused) (As := [.int (zI 1)]) (rest := []) (mc := 0) (ms := 0) rfl caX10_refused rfl rfl rfl o1 rfl rfl (q_refused G _ 1 o1) rfl rfl (Nat.le_of_ble_eq_true rfl) (by omega) ?_
  rintro _ _ ⟨rfl, rfl⟩
  refine v_run 0 (pc' := 17) (ls' := [some (.ref (ad 200)), none, none]) (st' := [.int (zI (-1))]) rfl ?_
  exact v_iret rfl rfl rfl ⟨rfl, by rw [← e1, hset_hset]⟩

set_option maxRecDepth 100000 in
set_option maxHeartbeats 400000 in
theorem q_ring0 (G : ssG) (h : ssH) {ad : Nat → Nat} {rv : Value} {m : Nat → Int}  (ho : h (ad 200) = some (.inr (10, obM ad .null rv m)))  : ssC G mX10_ring 2 0 0 [.ref (ad 200)] h (fun r h' => r = some (.int (zI (-1))) ∧ hset h (ad 200) (.inr (10, obM ad .null rv (mT (mU m 0 0) 1))) = h') := by
  refine c_of_v okX10_ring (by decide +kernel) (ls := [some (.ref (ad 200)), none, none, none]) rfl (Nat.le_of_ble_eq_true rfl) ?_
  refine v_run 2 (pc' := 2) (ls' := [some (.ref (ad 200)), none, none, none]) (st' := [.int (zI 0), .ref (ad 200)]) rfl ?_
  refine v_put rfl ho rfl rfl (Nat.le_of_ble_eq_true rfl) ?_
  generalize e1 : hset h (ad 200) (.inr (10, (obM ad .null rv m).set 0 (.int (zI 0)))) = h1
  have o1 : h1 (ad 200) = some (.inr (10, obM ad .null rv (mU m 0 0))) := e1 ▸ hset_self _ _ _
  refine v_run 1 (pc' := 6) (ls' := [some (.ref (ad 200)), none, none, none]) (st' := [.ref (ad 200)]) rfl ?_
  refine v_get rfl o1 rfl ?_
  refine v_run 3 (pc' := 14) (ls' := [some (.ref (ad 200)), none, none, none]) (st' := [.int (zI 1), .ref (ad 200)]) rfl ?_
  refine v_callV (My := mX10_refused) (As := [.int (zI 1)]) (rest := []) (mc := 0) (ms := 0) rfl caX10_refused rfl rfl rfl o1 rfl rfl (q_refused G _ 1 o1) rfl rfl (Nat.le_of_ble_eq_true rfl) (by omega) ?_
  rintro _ _ ⟨rfl, rfl⟩
  refine v_run 0 (pc' := 17) (ls' := [some (.ref (ad 200)), none, none, none]) (st' := [.int (zI (-1))]) rfl ?_
  exact v_iret rfl rfl rfl ⟨rfl, by rw [← e1, hset_hset]⟩

set_option maxRecDepth 100000 in
set_option maxHeartbeats 400000 in
theorem q_strongest0 (G : ssG) (h : ssH) {ad : Nat → Nat} {rv : Value} {m : Nat → Int}  (ho : h (ad 200) = some (.inr (10, obM ad .null rv m)))  : ssC G mX10_strongest 2 0 0 [.ref (ad 200)] h (fun r h' => r = some (.int (zI (-1))) ∧ hset h (ad 200) (.inr (10, obM ad .null rv (mT (mU m 0 0) 1))) = h') := by
  refine c_of_v okX10_strongest (by decide +kernel) (ls := [some (.ref (ad 200)), none, none]) rfl (Nat.le_of_ble_eq_true rfl) ?_
  refine v_run 2 (pc' := 2) (ls' := [some (.ref (ad 200)), none, none]) (st' := [.int (zI 0), .ref (ad 200)]) rfl ?_
  refine v_put rfl ho rfl rfl (Nat.le_of_ble_eq_true rfl) ?_
  generalize e1 : hset h (ad 200) (.inr (10, (obM ad .null rv m).set 0 (.int (zI 0)))) = h1
  have o1 : h1 (ad 200) = some (.inr (10, obM ad .null rv (mU m 0 0))) := e1 ▸ hset_self _ _ _
  refine v_run 1 (pc' := 6) (ls' := [some (.ref (ad 200)), none, none]) (st' := [.ref (ad 200)]) rfl ?_
  refine v_get rfl o1 rfl ?_
  refine v_run 3 (pc' := 14) (ls' := [some (.ref (ad 200)), none, none]) (st' := [.int (zI 1), .ref (ad 200)]) rfl ?_
  refine v_callV (My := mX10_refused) (As := [.int (zI 1)]) (rest := []) (mc := 0) (ms := 0) rfl caX10_refused rfl rfl rfl o1 rfl rfl (q_refused G _ 1 o1) rfl rfl (Nat.le_of_ble_eq_true rfl) (by omega) ?_
  rintro _ _ ⟨rfl, rfl⟩
  refine v_run 0 (pc' := 17) (ls' := [some (.ref (ad 200)), none, none]) (st' := [.int (zI (-1))]) rfl ?_
  exact v_iret rfl rfl rfl ⟨rfl, by rw [← e1, hset_hset]⟩

set_option maxRecDepth 100000 in
set_option maxHeartbeats 400000 in
theorem q_rests0 (G : ssG) (h : ssH) {ad : Nat → Nat} {rv : Value} {m : Nat → Int} (x0 : Int32) (ho : h (ad 200) = some (.inr (10, obM ad .null rv m)))  : ssC G mX10_rests 2 0 0 [.ref (ad 200), .int x0] h (fun r h' => r = some (.int (zI (-1))) ∧ hset h (ad 200) (.inr (10, obM ad .null rv (mT (mU m 0 0) 1))) = h') := by
  refine c_of_v okX10_rests (by decide +kernel) (ls := [some (.ref (ad 200)), some (.int x0), none, none, none]) rfl (Nat.le_of_ble_eq_true rfl) ?_
  refine v_run 2 (pc' := 2) (ls' := [some (.ref (ad 200)), some (.int x0), none, none, none]) (st' := [.int (zI 0), .ref (ad 200)]) rfl ?_
  refine v_put rfl ho rfl rfl (Nat.le_of_ble_eq_true rfl) ?_
  generalize e1 : hset h (ad 200) (.inr (10, (obM ad .null rv m).set 0 (.int (zI 0)))) = h1
  have o1 : h1 (ad 200) = some (.inr (10, obM ad .null rv (mU m 0 0))) := e1 ▸ hset_self _ _ _
  refine v_run 2 (pc' := 7) (ls' := [some (.ref (ad 200)), some (.int x0), none, none, none]) (st' := [.int x0, .ref (ad 200)]) rfl ?_
  refine v_callV (My := mX10_refusesWorth) (As := [.int x0]) (rest := []) (mc := 0) (ms := 0) rfl caX10_refusesWorth rfl rfl rfl o1 rfl rfl (q_refusesWorth0 G _ x0 o1) rfl rfl (Nat.le_of_ble_eq_true rfl) (by omega) ?_
  rintro _ _ ⟨rfl, rfl⟩
  refine v_run 0 (pc' := 10) (ls' := [some (.ref (ad 200)), some (.int x0), none, none, none]) (st' := [.int (zI 1)]) rfl ?_
  refine v_run 2 (pc' := 12) (ls' := [some (.ref (ad 200)), some (.int x0), some (.int (zI 1)), none, none]) (st' := [.int (zI 1)]) rfl ?_
  refine v_if_le rfl (fun c12 => ?_) (fun c12 => ?_)
  · exact absurd c12 (by decide +kernel)
  · refine v_run 2 (pc' := 17) (ls' := [some (.ref (ad 200)), some (.int x0), some (.int (zI 1)), none, none]) (st' := [.int (zI 1), .ref (ad 200)]) rfl ?_
    refine v_callV (My := mX10_refused) (As := [.int (zI 1)]) (rest := []) (mc := 0) (ms := 0) rfl caX10_refused rfl rfl rfl o1 rfl rfl (q_refused G _ 1 o1) rfl rfl (Nat.le_of_ble_eq_true rfl) (by omega) ?_
    rintro _ _ ⟨rfl, rfl⟩
    refine v_run 0 (pc' := 20) (ls' := [some (.ref (ad 200)), some (.int x0), some (.int (zI 1)), none, none]) (st' := [.int (zI (-1))]) rfl ?_
    exact v_iret rfl rfl rfl ⟨rfl, by rw [← e1, hset_hset]⟩

set_option maxRecDepth 100000 in
set_option maxHeartbeats 400000 in
theorem q_rest0 (G : ssG) (h : ssH) {ad : Nat → Nat} {rv : Value} {m : Nat → Int} (x0 : Int32) (ho : h (ad 200) = some (.inr (10, obM ad .null rv m)))  : ssC G mX10_rest 2 0 0 [.ref (ad 200), .int x0] h (fun r h' => r = some (.int (zI (-1))) ∧ hset h (ad 200) (.inr (10, obM ad .null rv (mT (mU m 0 0) 1))) = h') := by
  refine c_of_v okX10_rest (by decide +kernel) (ls := [some (.ref (ad 200)), some (.int x0), none, none]) rfl (Nat.le_of_ble_eq_true rfl) ?_
  refine v_run 2 (pc' := 2) (ls' := [some (.ref (ad 200)), some (.int x0), none, none]) (st' := [.int (zI 0), .ref (ad 200)]) rfl ?_
  refine v_put rfl ho rfl rfl (Nat.le_of_ble_eq_true rfl) ?_
  generalize e1 : hset h (ad 200) (.inr (10, (obM ad .null rv m).set 0 (.int (zI 0)))) = h1
  have o1 : h1 (ad 200) = some (.inr (10, obM ad .null rv (mU m 0 0))) := e1 ▸ hset_self _ _ _
  refine v_run 2 (pc' := 7) (ls' := [some (.ref (ad 200)), some (.int x0), none, none]) (st' := [.int x0, .ref (ad 200)]) rfl ?_
  refine v_callV (My := mX10_refusesWorth) (As := [.int x0]) (rest := []) (mc := 0) (ms := 0) rfl caX10_refusesWorth rfl rfl rfl o1 rfl rfl (q_refusesWorth0 G _ x0 o1) rfl rfl (Nat.le_of_ble_eq_true rfl) (by omega) ?_
  rintro _ _ ⟨rfl, rfl⟩
  refine v_run 0 (pc' := 10) (ls' := [some (.ref (ad 200)), some (.int x0), none, none]) (st' := [.int (zI 1)]) rfl ?_
  refine v_run 2 (pc' := 12) (ls' := [some (.ref (ad 200)), some (.int x0), some (.int (zI 1)), none]) (st' := [.int (zI 1)]) rfl ?_
  refine v_if_le rfl (fun c12 => ?_) (fun c12 => ?_)
  · exact absurd c12 (by decide +kernel)
  · refine v_run 2 (pc' := 17) (ls' := [some (.ref (ad 200)), some (.int x0), some (.int (zI 1)), none]) (st' := [.int (zI 1), .ref (ad 200)]) rfl ?_
    refine v_callV (My := mX10_refused) (As := [.int (zI 1)]) (rest := []) (mc := 0) (ms := 0) rfl caX10_refused rfl rfl rfl o1 rfl rfl (q_refused G _ 1 o1) rfl rfl (Nat.le_of_ble_eq_true rfl) (by omega) ?_
    rintro _ _ ⟨rfl, rfl⟩
    refine v_run 0 (pc' := 20) (ls' := [some (.ref (ad 200)), some (.int x0), some (.int (zI 1)), none]) (st' := [.int (zI (-1))]) rfl ?_
    exact v_iret rfl rfl rfl ⟨rfl, by rw [← e1, hset_hset]⟩

set_option maxRecDepth 100000 in
set_option maxHeartbeats 400000 in
theorem q_days0 (G : ssG) (h : ssH) {ad : Nat → Nat} {rv : Value} {m : Nat → Int} (x0 : Int32) (x1 : Int32) (ho : h (ad 200) = some (.inr (10, obM ad .null rv m)))  : ssC G mX10_days 2 0 0 [.ref (ad 200), .int x0, .int x1] h (fun r h' => r = some (.int (zI (-1))) ∧ hset h (ad 200) (.inr (10, obM ad .null rv (mT (mU m 0 0) 1))) = h') := by
  refine c_of_v okX10_days (by decide +kernel) (ls := [some (.ref (ad 200)), some (.int x0), some (.int x1), none]) rfl (Nat.le_of_ble_eq_true rfl) ?_
  refine v_run 2 (pc' := 2) (ls' := [some (.ref (ad 200)), some (.int x0), some (.int x1), none]) (st' := [.int (zI 0), .ref (ad 200)]) rfl ?_
  refine v_put rfl ho rfl rfl (Nat.le_of_ble_eq_true rfl) ?_
  generalize e1 : hset h (ad 200) (.inr (10, (obM ad .null rv m).set 0 (.int (zI 0)))) = h1
  have o1 : h1 (ad 200) = some (.inr (10, obM ad .null rv (mU m 0 0))) := e1 ▸ hset_self _ _ _
  refine v_run 3 (pc' := 8) (ls' := [some (.ref (ad 200)), some (.int x0), some (.int x1), none]) (st' := [.int x1, .int x0, .ref (ad 200)]) rfl ?_
  refine v_callV (My := mX10_refusesSeed) (As := [.int x0, .int x1]) (rest := []) (mc := 0) (ms := 0) rfl caX10_refusesSeed rfl rfl rfl o1 rfl rfl (q_refusesSeed0 G _ x0 x1 o1) rfl rfl (Nat.le_of_ble_eq_true rfl) (by omega) ?_
  rintro _ _ ⟨rfl, rfl⟩
  refine v_run 0 (pc' := 11) (ls' := [some (.ref (ad 200)), some (.int x0), some (.int x1), none]) (st' := [.int (zI 1)]) rfl ?_
  refine v_run 2 (pc' := 13) (ls' := [some (.ref (ad 200)), some (.int x0), some (.int x1), some (.int (zI 1))]) (st' := [.int (zI 1)]) rfl ?_
  refine v_if_le rfl (fun c13 => ?_) (fun c13 => ?_)
  · exact absurd c13 (by decide +kernel)
  · refine v_run 2 (pc' := 18) (ls' := [some (.ref (ad 200)), some (.int x0), some (.int x1), some (.int (zI 1))]) (st' := [.int (zI 1), .ref (ad 200)]) rfl ?_
    refine v_callV (My := mX10_refused) (As := [.int (zI 1)]) (rest := []) (mc := 0) (ms := 0) rfl caX10_refused rfl rfl rfl o1 rfl rfl (q_refused G _ 1 o1) rfl rfl (Nat.le_of_ble_eq_true rfl) (by omega) ?_
    rintro _ _ ⟨rfl, rfl⟩
    refine v_run 0 (pc' := 21) (ls' := [some (.ref (ad 200)), some (.int x0), some (.int x1), some (.int (zI 1))]) (st' := [.int (zI (-1))]) rfl ?_
    exact v_iret rfl rfl rfl ⟨rfl, by rw [← e1, hset_hset]⟩

set_option maxRecDepth 100000 in
set_option maxHeartbeats 400000 in
theorem q_thunders0 (G : ssG) (h : ssH) {ad : Nat → Nat} {rv : Value} {m : Nat → Int} (x0 : Int32) (x1 : Int32) (ho : h (ad 200) = some (.inr (10, obM ad .null rv m)))  : ssC G mX10_thunders 2 0 0 [.ref (ad 200), .int x0, .int x1] h (fun r h' => r = some (.int (zI (-1))) ∧ hset h (ad 200) (.inr (10, obM ad .null rv (mT (mU m 0 0) 1))) = h') := by
  refine c_of_v okX10_thunders (by decide +kernel) (ls := [some (.ref (ad 200)), some (.int x0), some (.int x1), none]) rfl (Nat.le_of_ble_eq_true rfl) ?_
  refine v_run 2 (pc' := 2) (ls' := [some (.ref (ad 200)), some (.int x0), some (.int x1), none]) (st' := [.int (zI 0), .ref (ad 200)]) rfl ?_
  refine v_put rfl ho rfl rfl (Nat.le_of_ble_eq_true rfl) ?_
  generalize e1 : hset h (ad 200) (.inr (10, (obM ad .null rv m).set 0 (.int (zI 0)))) = h1
  have o1 : h1 (ad 200) = some (.inr (10, obM ad .null rv (mU m 0 0))) := e1 ▸ hset_self _ _ _
  refine v_run 3 (pc' := 8) (ls' := [some (.ref (ad 200)), some (.int x0), some (.int x1), none]) (st' := [.int x1, .int x0, .ref (ad 200)]) rfl ?_
  refine v_callV (My := mX10_refusesSeed) (As := [.int x0, .int x1]) (rest := []) (mc := 0) (ms := 0) rfl caX10_refusesSeed rfl rfl rfl o1 rfl rfl (q_refusesSeed0 G _ x0 x1 o1) rfl rfl (Nat.le_of_ble_eq_true rfl) (by omega) ?_
  rintro _ _ ⟨rfl, rfl⟩
  refine v_run 0 (pc' := 11) (ls' := [some (.ref (ad 200)), some (.int x0), some (.int x1), none]) (st' := [.int (zI 1)]) rfl ?_
  refine v_run 2 (pc' := 13) (ls' := [some (.ref (ad 200)), some (.int x0), some (.int x1), some (.int (zI 1))]) (st' := [.int (zI 1)]) rfl ?_
  refine v_if_le rfl (fun c13 => ?_) (fun c13 => ?_)
  · exact absurd c13 (by decide +kernel)
  · refine v_run 2 (pc' := 18) (ls' := [some (.ref (ad 200)), some (.int x0), some (.int x1), some (.int (zI 1))]) (st' := [.int (zI 1), .ref (ad 200)]) rfl ?_
    refine v_callV (My := mX10_refused) (As := [.int (zI 1)]) (rest := []) (mc := 0) (ms := 0) rfl caX10_refused rfl rfl rfl o1 rfl rfl (q_refused G _ 1 o1) rfl rfl (Nat.le_of_ble_eq_true rfl) (by omega) ?_
    rintro _ _ ⟨rfl, rfl⟩
    refine v_run 0 (pc' := 21) (ls' := [some (.ref (ad 200)), some (.int x0), some (.int x1), some (.int (zI 1))]) (st' := [.int (zI (-1))]) rfl ?_
    refine v_run 1 (pc' := 34) (ls' := [some (.ref (ad 200)), some (.int x0), some (.int x1), some (.int (zI 1))]) (st' := [.int (zI (-1))]) rfl ?_
    exact v_iret rfl rfl rfl ⟨rfl, by rw [← e1, hset_hset]⟩

set_option maxRecDepth 100000 in
set_option maxHeartbeats 400000 in
theorem q_day0 (G : ssG) (h : ssH) {ad : Nat → Nat} {rv : Value} {m : Nat → Int}  (ho : h (ad 200) = some (.inr (10, obM ad .null rv m)))  : ssC G mX10_day 2 0 0 [.ref (ad 200)] h (fun r h' => r = some (.int (zI (-1))) ∧ hset h (ad 200) (.inr (10, obM ad .null rv (mT (mU m 0 0) 1))) = h') := by
  refine c_of_v okX10_day (by decide +kernel) (ls := [some (.ref (ad 200)), none]) rfl (Nat.le_of_ble_eq_true rfl) ?_
  refine v_run 2 (pc' := 2) (ls' := [some (.ref (ad 200)), none]) (st' := [.int (zI 0), .ref (ad 200)]) rfl ?_
  refine v_put rfl ho rfl rfl (Nat.le_of_ble_eq_true rfl) ?_
  generalize e1 : hset h (ad 200) (.inr (10, (obM ad .null rv m).set 0 (.int (zI 0)))) = h1
  have o1 : h1 (ad 200) = some (.inr (10, obM ad .null rv (mU m 0 0))) := e1 ▸ hset_self _ _ _
  refine v_run 1 (pc' := 6) (ls' := [some (.ref (ad 200)), none]) (st' := [.ref (ad 200)]) rfl ?_
  refine v_get rfl o1 rfl ?_
  refine v_run 3 (pc' := 14) (ls' := [some (.ref (ad 200)), none]) (st' := [.int (zI 1), .ref (ad 200)]) rfl ?_
  refine v_callV (My := mX10_refused) (As := [.int (zI 1)]) (rest := []) (mc := 0) (ms := 0) rfl caX10_refused rfl rfl rfl o1 rfl rfl (q_refused G _ 1 o1) rfl rfl (Nat.le_of_ble_eq_true rfl) (by omega) ?_
  rintro _ _ ⟨rfl, rfl⟩
  refine v_run 0 (pc' := 17) (ls' := [some (.ref (ad 200)), none]) (st' := [.int (zI (-1))]) rfl ?_
  exact v_iret rfl rfl rfl ⟨rfl, by rw [← e1, hset_hset]⟩

set_option maxRecDepth 100000 in
set_option maxHeartbeats 400000 in
theorem q_move0 (G : ssG) (h : ssH) {ad : Nat → Nat} {rv : Value} {m : Nat → Int} (x0 : Int32) (x1 : Int32) (ho : h (ad 200) = some (.inr (10, obM ad .null rv m)))  : ssC G mX10_move 2 0 0 [.ref (ad 200), .int x0, .int x1] h (fun r h' => r = some (.int (zI (-1))) ∧ hset h (ad 200) (.inr (10, obM ad .null rv (mT (mU m 0 0) 1))) = h') := by
  refine c_of_v okX10_move (by decide +kernel) (ls := [some (.ref (ad 200)), some (.int x0), some (.int x1), none]) rfl (Nat.le_of_ble_eq_true rfl) ?_
  refine v_run 2 (pc' := 2) (ls' := [some (.ref (ad 200)), some (.int x0), some (.int x1), none]) (st' := [.int (zI 0), .ref (ad 200)]) rfl ?_
  refine v_put rfl ho rfl rfl (Nat.le_of_ble_eq_true rfl) ?_
  generalize e1 : hset h (ad 200) (.inr (10, (obM ad .null rv m).set 0 (.int (zI 0)))) = h1
  have o1 : h1 (ad 200) = some (.inr (10, obM ad .null rv (mU m 0 0))) := e1 ▸ hset_self _ _ _
  refine v_run 2 (pc' := 7) (ls' := [some (.ref (ad 200)), some (.int x0), some (.int x1), none]) (st' := [.int x0, .ref (ad 200)]) rfl ?_
  refine v_callV (My := mX10_isSenator) (As := [.int x0]) (rest := []) (mc := 0) (ms := 0) rfl caX10_isSenator rfl rfl rfl o1 rfl rfl (q_isSenator0 G _ (x0) o1) rfl rfl (Nat.le_of_ble_eq_true rfl) (by omega) ?_
  rintro _ _ ⟨rfl, rfl⟩
  refine v_run 0 (pc' := 10) (ls' := [some (.ref (ad 200)), some (.int x0), some (.int x1), none]) (st' := [.int (zb false)]) rfl ?_
  refine v_if_eq rfl (fun c10 => ?_) (fun c10 => ?_)
  · refine v_run 2 (pc' := 23) (ls' := [some (.ref (ad 200)), some (.int x0), some (.int x1), none]) (st' := [.int (zI 1), .ref (ad 200)]) rfl ?_
    refine v_callV (My := mX10_refused) (As := [.int (zI 1)]) (rest := []) (mc := 0) (ms := 0) rfl caX10_refused rfl rfl rfl o1 rfl rfl (q_refused G _ 1 o1) rfl rfl (Nat.le_of_ble_eq_true rfl) (by omega) ?_
    rintro _ _ ⟨rfl, rfl⟩
    refine v_run 0 (pc' := 26) (ls' := [some (.ref (ad 200)), some (.int x0), some (.int x1), none]) (st' := [.int (zI (-1))]) rfl ?_
    exact v_iret rfl rfl rfl ⟨rfl, by rw [← e1, hset_hset]⟩
  · exact absurd c10 (by decide +kernel)

set_option maxRecDepth 100000 in
set_option maxHeartbeats 400000 in
theorem q_image0 (G : ssG) (h : ssH) {ad : Nat → Nat} {rv : Value} {m : Nat → Int}  (ho : h (ad 200) = some (.inr (10, obM ad .null rv m)))  : ssC G mX10_image 2 0 0 [.ref (ad 200)] h (fun r h' => r = some (.int (zI (-1))) ∧ hset h (ad 200) (.inr (10, obM ad .null rv (mT (mU m 0 0) 1))) = h') := by
  refine c_of_v okX10_image (by decide +kernel) (ls := [some (.ref (ad 200)), none]) rfl (Nat.le_of_ble_eq_true rfl) ?_
  refine v_run 2 (pc' := 2) (ls' := [some (.ref (ad 200)), none]) (st' := [.int (zI 0), .ref (ad 200)]) rfl ?_
  refine v_put rfl ho rfl rfl (Nat.le_of_ble_eq_true rfl) ?_
  generalize e1 : hset h (ad 200) (.inr (10, (obM ad .null rv m).set 0 (.int (zI 0)))) = h1
  have o1 : h1 (ad 200) = some (.inr (10, obM ad .null rv (mU m 0 0))) := e1 ▸ hset_self _ _ _
  refine v_run 1 (pc' := 6) (ls' := [some (.ref (ad 200)), none]) (st' := [.ref (ad 200)]) rfl ?_
  refine v_get rfl o1 rfl ?_
  refine v_run 3 (pc' := 14) (ls' := [some (.ref (ad 200)), none]) (st' := [.int (zI 1), .ref (ad 200)]) rfl ?_
  refine v_callV (My := mX10_refused) (As := [.int (zI 1)]) (rest := []) (mc := 0) (ms := 0) rfl caX10_refused rfl rfl rfl o1 rfl rfl (q_refused G _ 1 o1) rfl rfl (Nat.le_of_ble_eq_true rfl) (by omega) ?_
  rintro _ _ ⟨rfl, rfl⟩
  refine v_run 0 (pc' := 17) (ls' := [some (.ref (ad 200)), none]) (st' := [.int (zI (-1))]) rfl ?_
  exact v_iret rfl rfl rfl ⟨rfl, by rw [← e1, hset_hset]⟩

set_option maxRecDepth 100000 in
set_option maxHeartbeats 400000 in
theorem q_salt0 (G : ssG) (h : ssH) {ad : Nat → Nat} {rv : Value} {m : Nat → Int} (x0 : Int32) (ho : h (ad 200) = some (.inr (10, obM ad .null rv m)))  : ssC G mX10_salt 2 0 0 [.ref (ad 200), .int x0] h (fun r h' => r = some (.int (zI (0))) ∧ hset h (ad 200) (.inr (10, obM ad .null rv (mT (mU m 0 0) 1))) = h') := by
  refine c_of_v okX10_salt (by decide +kernel) (ls := [some (.ref (ad 200)), some (.int x0)]) rfl (Nat.le_of_ble_eq_true rfl) ?_
  refine v_run 2 (pc' := 2) (ls' := [some (.ref (ad 200)), some (.int x0)]) (st' := [.int (zI 0), .ref (ad 200)]) rfl ?_
  refine v_put rfl ho rfl rfl (Nat.le_of_ble_eq_true rfl) ?_
  generalize e1 : hset h (ad 200) (.inr (10, (obM ad .null rv m).set 0 (.int (zI 0)))) = h1
  have o1 : h1 (ad 200) = some (.inr (10, obM ad .null rv (mU m 0 0))) := e1 ▸ hset_self _ _ _
  refine v_run 2 (pc' := 7) (ls' := [some (.ref (ad 200)), some (.int x0)]) (st' := [.int x0, .ref (ad 200)]) rfl ?_
  refine v_callV (My := mX10_isSenator) (As := [.int x0]) (rest := []) (mc := 0) (ms := 0) rfl caX10_isSenator rfl rfl rfl o1 rfl rfl (q_isSenator0 G _ (x0) o1) rfl rfl (Nat.le_of_ble_eq_true rfl) (by omega) ?_
  rintro _ _ ⟨rfl, rfl⟩
  refine v_run 0 (pc' := 10) (ls' := [some (.ref (ad 200)), some (.int x0)]) (st' := [.int (zb false)]) rfl ?_
  refine v_if_ne rfl (fun c10 => ?_) (fun c10 => ?_)
  · exact absurd c10 (by decide +kernel)
  · refine v_run 2 (pc' := 15) (ls' := [some (.ref (ad 200)), some (.int x0)]) (st' := [.int (zI 1), .ref (ad 200)]) rfl ?_
    refine v_callV (My := mX10_denied) (As := [.int (zI 1)]) (rest := []) (mc := 0) (ms := 0) rfl caX10_denied rfl rfl rfl o1 rfl rfl (q_denied G _ 1 o1) rfl rfl (Nat.le_of_ble_eq_true rfl) (by omega) ?_
    rintro _ _ ⟨rfl, rfl⟩
    refine v_run 0 (pc' := 18) (ls' := [some (.ref (ad 200)), some (.int x0)]) (st' := [.int (zI 0)]) rfl ?_
    exact v_iret rfl rfl rfl ⟨rfl, by rw [← e1, hset_hset]⟩

set_option maxRecDepth 100000 in
set_option maxHeartbeats 400000 in
theorem q_seed0 (G : ssG) (h : ssH) {ad : Nat → Nat} {rv : Value} {m : Nat → Int} (x0 : Int32) (ho : h (ad 200) = some (.inr (10, obM ad .null rv m)))  : ssC G mX10_seed 2 0 0 [.ref (ad 200), .int x0] h (fun r h' => r = some (.int (zI (0))) ∧ hset h (ad 200) (.inr (10, obM ad .null rv (mT (mU m 0 0) 1))) = h') := by
  refine c_of_v okX10_seed (by decide +kernel) (ls := [some (.ref (ad 200)), some (.int x0)]) rfl (Nat.le_of_ble_eq_true rfl) ?_
  refine v_run 2 (pc' := 2) (ls' := [some (.ref (ad 200)), some (.int x0)]) (st' := [.int (zI 0), .ref (ad 200)]) rfl ?_
  refine v_put rfl ho rfl rfl (Nat.le_of_ble_eq_true rfl) ?_
  generalize e1 : hset h (ad 200) (.inr (10, (obM ad .null rv m).set 0 (.int (zI 0)))) = h1
  have o1 : h1 (ad 200) = some (.inr (10, obM ad .null rv (mU m 0 0))) := e1 ▸ hset_self _ _ _
  refine v_run 1 (pc' := 6) (ls' := [some (.ref (ad 200)), some (.int x0)]) (st' := [.ref (ad 200)]) rfl ?_
  refine v_get rfl o1 rfl ?_
  refine v_run 3 (pc' := 14) (ls' := [some (.ref (ad 200)), some (.int x0)]) (st' := [.int (zI 1), .ref (ad 200)]) rfl ?_
  refine v_callV (My := mX10_denied) (As := [.int (zI 1)]) (rest := []) (mc := 0) (ms := 0) rfl caX10_denied rfl rfl rfl o1 rfl rfl (q_denied G _ 1 o1) rfl rfl (Nat.le_of_ble_eq_true rfl) (by omega) ?_
  rintro _ _ ⟨rfl, rfl⟩
  refine v_run 0 (pc' := 17) (ls' := [some (.ref (ad 200)), some (.int x0)]) (st' := [.int (zI 0)]) rfl ?_
  exact v_iret rfl rfl rfl ⟨rfl, by rw [← e1, hset_hset]⟩

set_option maxRecDepth 100000 in
set_option maxHeartbeats 400000 in
theorem q_back0 (G : ssG) (h : ssH) {ad : Nat → Nat} {rv : Value} {m : Nat → Int} (x0 : Int32) (ho : h (ad 200) = some (.inr (10, obM ad .null rv m)))  : ssC G mX10_back 2 0 0 [.ref (ad 200), .int x0] h (fun r h' => r = some (.int (zI (0))) ∧ hset h (ad 200) (.inr (10, obM ad .null rv (mT (mU m 0 0) 1))) = h') := by
  refine c_of_v okX10_back (by decide +kernel) (ls := [some (.ref (ad 200)), some (.int x0), none]) rfl (Nat.le_of_ble_eq_true rfl) ?_
  refine v_run 2 (pc' := 2) (ls' := [some (.ref (ad 200)), some (.int x0), none]) (st' := [.int (zI 0), .ref (ad 200)]) rfl ?_
  refine v_put rfl ho rfl rfl (Nat.le_of_ble_eq_true rfl) ?_
  generalize e1 : hset h (ad 200) (.inr (10, (obM ad .null rv m).set 0 (.int (zI 0)))) = h1
  have o1 : h1 (ad 200) = some (.inr (10, obM ad .null rv (mU m 0 0))) := e1 ▸ hset_self _ _ _
  refine v_run 1 (pc' := 6) (ls' := [some (.ref (ad 200)), some (.int x0), none]) (st' := [.ref (ad 200)]) rfl ?_
  refine v_get rfl o1 rfl ?_
  refine v_run 3 (pc' := 26) (ls' := [some (.ref (ad 200)), some (.int x0), none]) (st' := [.int (zI 1), .ref (ad 200)]) rfl ?_
  refine v_callV (My := mX10_denied) (As := [.int (zI 1)]) (rest := []) (mc := 0) (ms := 0) rfl caX10_denied rfl rfl rfl o1 rfl rfl (q_denied G _ 1 o1) rfl rfl (Nat.le_of_ble_eq_true rfl) (by omega) ?_
  rintro _ _ ⟨rfl, rfl⟩
  refine v_run 0 (pc' := 29) (ls' := [some (.ref (ad 200)), some (.int x0), none]) (st' := [.int (zI 0)]) rfl ?_
  exact v_iret rfl rfl rfl ⟨rfl, by rw [← e1, hset_hset]⟩

set_option maxRecDepth 100000 in
set_option maxHeartbeats 400000 in
theorem q_undo0 (G : ssG) (h : ssH) {ad : Nat → Nat} {rv : Value} {m : Nat → Int}  (ho : h (ad 200) = some (.inr (10, obM ad .null rv m)))  : ssC G mX10_undo 2 0 0 [.ref (ad 200)] h (fun r h' => r = some (.int (zI (0))) ∧ hset h (ad 200) (.inr (10, obM ad .null rv (mT (mU m 0 0) 6))) = h') := by
  refine c_of_v okX10_undo (by decide +kernel) (ls := [some (.ref (ad 200)), none]) rfl (Nat.le_of_ble_eq_true rfl) ?_
  refine v_run 2 (pc' := 2) (ls' := [some (.ref (ad 200)), none]) (st' := [.int (zI 0), .ref (ad 200)]) rfl ?_
  refine v_put rfl ho rfl rfl (Nat.le_of_ble_eq_true rfl) ?_
  generalize e1 : hset h (ad 200) (.inr (10, (obM ad .null rv m).set 0 (.int (zI 0)))) = h1
  have o1 : h1 (ad 200) = some (.inr (10, obM ad .null rv (mU m 0 0))) := e1 ▸ hset_self _ _ _
  refine v_run 1 (pc' := 6) (ls' := [some (.ref (ad 200)), none]) (st' := [.ref (ad 200)]) rfl ?_
  refine v_get rfl o1 rfl ?_
  refine v_run 3 (pc' := 22) (ls' := [some (.ref (ad 200)), none]) (st' := [.int (zI 6), .ref (ad 200)]) rfl ?_
  refine v_callV (My := mX10_denied) (As := [.int (zI 6)]) (rest := []) (mc := 0) (ms := 0) rfl caX10_denied rfl rfl rfl o1 rfl rfl (q_denied G _ 6 o1) rfl rfl (Nat.le_of_ble_eq_true rfl) (by omega) ?_
  rintro _ _ ⟨rfl, rfl⟩
  refine v_run 0 (pc' := 25) (ls' := [some (.ref (ad 200)), none]) (st' := [.int (zI 0)]) rfl ?_
  exact v_iret rfl rfl rfl ⟨rfl, by rw [← e1, hset_hset]⟩

set_option maxRecDepth 100000 in
set_option maxHeartbeats 400000 in
theorem q_wire0 (G : ssG) (h : ssH) {ad : Nat → Nat} {rv : Value} {m : Nat → Int} (x0 : Int32) (x1 : Int32) (x2 : Int32) (x3 : Int32) (ho : h (ad 200) = some (.inr (10, obM ad .null rv m)))  : ssC G mX10_wire 2 0 0 [.ref (ad 200), .int x0, .int x1, .int x2, .int x3] h (fun r h' => r = some (.int (zI (-100))) ∧ hset h (ad 200) (.inr (10, obM ad .null rv (mT (mU m 0 0) 1))) = h') := by
  refine c_of_v okX10_wire (by decide +kernel) (ls := [some (.ref (ad 200)), some (.int x0), some (.int x1), some (.int x2), some (.int x3), none]) rfl (Nat.le_of_ble_eq_true rfl) ?_
  refine v_run 2 (pc' := 2) (ls' := [some (.ref (ad 200)), some (.int x0), some (.int x1), some (.int x2), some (.int x3), none]) (st' := [.int (zI 0), .ref (ad 200)]) rfl ?_
  refine v_put rfl ho rfl rfl (Nat.le_of_ble_eq_true rfl) ?_
  generalize e1 : hset h (ad 200) (.inr (10, (obM ad .null rv m).set 0 (.int (zI 0)))) = h1
  have o1 : h1 (ad 200) = some (.inr (10, obM ad .null rv (mU m 0 0))) := e1 ▸ hset_self _ _ _
  refine v_run 2 (pc' := 7) (ls' := [some (.ref (ad 200)), some (.int x0), some (.int x1), some (.int x2), some (.int x3), none]) (st' := [.int x0, .ref (ad 200)]) rfl ?_
  refine v_callV (My := mX10_refusesWorth) (As := [.int x0]) (rest := []) (mc := 0) (ms := 0) rfl caX10_refusesWorth rfl rfl rfl o1 rfl rfl (q_refusesWorth0 G _ x0 o1) rfl rfl (Nat.le_of_ble_eq_true rfl) (by omega) ?_
  rintro _ _ ⟨rfl, rfl⟩
  refine v_run 0 (pc' := 10) (ls' := [some (.ref (ad 200)), some (.int x0), some (.int x1), some (.int x2), some (.int x3), none]) (st' := [.int (zI 1)]) rfl ?_
  refine v_run 2 (pc' := 14) (ls' := [some (.ref (ad 200)), some (.int x0), some (.int x1), some (.int x2), some (.int x3), some (.int (zI 1))]) (st' := [.int (zI 1)]) rfl ?_
  refine v_if_le rfl (fun c14 => ?_) (fun c14 => ?_)
  · exact absurd c14 (by decide +kernel)
  · refine v_run 2 (pc' := 20) (ls' := [some (.ref (ad 200)), some (.int x0), some (.int x1), some (.int x2), some (.int x3), some (.int (zI 1))]) (st' := [.int (zI 1), .ref (ad 200)]) rfl ?_
    refine v_callV (My := mX10_lost) (As := [.int (zI 1)]) (rest := []) (mc := 0) (ms := 0) rfl caX10_lost rfl rfl rfl o1 rfl rfl (q_lost G _ 1 o1) rfl rfl (Nat.le_of_ble_eq_true rfl) (by omega) ?_
    rintro _ _ ⟨rfl, rfl⟩
    refine v_run 0 (pc' := 23) (ls' := [some (.ref (ad 200)), some (.int x0), some (.int x1), some (.int x2), some (.int x3), some (.int (zI 1))]) (st' := [.int (zI (-100))]) rfl ?_
    refine v_run 1 (pc' := 50) (ls' := [some (.ref (ad 200)), some (.int x0), some (.int x1), some (.int x2), some (.int x3), some (.int (zI 1))]) (st' := [.int (zI (-100))]) rfl ?_
    exact v_iret rfl rfl rfl ⟨rfl, by rw [← e1, hset_hset]⟩

set_option maxRecDepth 100000 in
set_option maxHeartbeats 400000 in
theorem q_power0 (G : ssG) (h : ssH) {ad : Nat → Nat} {rv : Value} {m : Nat → Int} (x0 : Int32) (x1 : Int32) (ho : h (ad 200) = some (.inr (10, obM ad .null rv m)))  : ssC G mX10_power 2 0 0 [.ref (ad 200), .int x0, .int x1] h (fun r h' => r = some (.long (zL (-1))) ∧ hset h (ad 200) (.inr (10, obM ad .null rv (mT (mU m 0 0) 1))) = h') := by
  refine c_of_v okX10_power (by decide +kernel) (ls := [some (.ref (ad 200)), some (.int x0), some (.int x1)]) rfl (Nat.le_of_ble_eq_true rfl) ?_
  refine v_run 2 (pc' := 2) (ls' := [some (.ref (ad 200)), some (.int x0), some (.int x1)]) (st' := [.int (zI 0), .ref (ad 200)]) rfl ?_
  refine v_put rfl ho rfl rfl (Nat.le_of_ble_eq_true rfl) ?_
  generalize e1 : hset h (ad 200) (.inr (10, (obM ad .null rv m).set 0 (.int (zI 0)))) = h1
  have o1 : h1 (ad 200) = some (.inr (10, obM ad .null rv (mU m 0 0))) := e1 ▸ hset_self _ _ _
  refine v_run 2 (pc' := 7) (ls' := [some (.ref (ad 200)), some (.int x0), some (.int x1)]) (st' := [.int x0, .ref (ad 200)]) rfl ?_
  refine v_callV (My := mX10_isSenator) (As := [.int x0]) (rest := []) (mc := 0) (ms := 0) rfl caX10_isSenator rfl rfl rfl o1 rfl rfl (q_isSenator0 G _ (x0) o1) rfl rfl (Nat.le_of_ble_eq_true rfl) (by omega) ?_
  rintro _ _ ⟨rfl, rfl⟩
  refine v_run 0 (pc' := 10) (ls' := [some (.ref (ad 200)), some (.int x0), some (.int x1)]) (st' := [.int (zb false)]) rfl ?_
  refine v_if_ne rfl (fun c10 => ?_) (fun c10 => ?_)
  · exact absurd c10 (by decide +kernel)
  · refine v_run 2 (pc' := 15) (ls' := [some (.ref (ad 200)), some (.int x0), some (.int x1)]) (st' := [.int (zI 1), .ref (ad 200)]) rfl ?_
    refine v_callV (My := mX10_refused) (As := [.int (zI 1)]) (rest := []) (mc := 0) (ms := 0) rfl caX10_refused rfl rfl rfl o1 rfl rfl (q_refused G _ 1 o1) rfl rfl (Nat.le_of_ble_eq_true rfl) (by omega) ?_
    rintro _ _ ⟨rfl, rfl⟩
    refine v_run 0 (pc' := 18) (ls' := [some (.ref (ad 200)), some (.int x0), some (.int x1)]) (st' := [.int (zI (-1))]) rfl ?_
    refine v_run 1 (pc' := 19) (ls' := [some (.ref (ad 200)), some (.int x0), some (.int x1)]) (st' := [.long ((zI (-1)).toInt64)]) rfl ?_
    rw [show ((zI (-1)).toInt64 : Int64) = zL (-1) from zI_l (by decide) (by decide)]
    exact v_lret rfl rfl ⟨rfl, by rw [← e1, hset_hset]⟩

set_option maxRecDepth 100000 in
set_option maxHeartbeats 400000 in
theorem q_odds0 (G : ssG) (h : ssH) {ad : Nat → Nat} {rv : Value} {m : Nat → Int} (n0 : Int) (x1 : Int32) (ho : h (ad 200) = some (.inr (10, obM ad .null rv m))) (hn0 : -2147483648 ≤ n0 ∧ n0 < 2147483648) : ssC G mX10_odds 2 0 0 [.ref (ad 200), .int (zI n0), .int x1] h (fun r h' => r = some (.long (zL (-1))) ∧ hset h (ad 200) (.inr (10, obM ad .null rv (mT (mU m 0 0) 1))) = h') := by
  refine c_of_v okX10_odds (by decide +kernel) (ls := [some (.ref (ad 200)), some (.int (zI n0)), some (.int x1), none]) rfl (Nat.le_of_ble_eq_true rfl) ?_
  refine v_run 2 (pc' := 2) (ls' := [some (.ref (ad 200)), some (.int (zI n0)), some (.int x1), none]) (st' := [.int (zI 0), .ref (ad 200)]) rfl ?_
  refine v_put rfl ho rfl rfl (Nat.le_of_ble_eq_true rfl) ?_
  generalize e1 : hset h (ad 200) (.inr (10, (obM ad .null rv m).set 0 (.int (zI 0)))) = h1
  have o1 : h1 (ad 200) = some (.inr (10, obM ad .null rv (mU m 0 0))) := e1 ▸ hset_self _ _ _
  refine v_run 2 (pc' := 7) (ls' := [some (.ref (ad 200)), some (.int (zI n0)), some (.int x1), none]) (st' := [.ref (ad 200), .ref (ad 200)]) rfl ?_
  refine v_get rfl o1 rfl ?_
  refine v_run 4 (pc' := 21) (ls' := [some (.ref (ad 200)), some (.int (zI n0)), some (.int x1), none]) (st' := [.int (zI 6), .int (zI n0), .int (zI 0), .ref (ad 200)]) rfl ?_
  refine v_run 0 (pc' := 21) (ls' := [some (.ref (ad 200)), some (.int (zI n0)), some (.int x1), none]) (st' := [.int (zI 6), .int (zI n0), .int (zb false), .ref (ad 200)]) rfl ?_
  refine v_callV (My := mX10_refusesDays) (As := [.int (zb false), .int (zI n0), .int (zI 6)]) (rest := []) (mc := 0) (ms := 0) rfl caX10_refusesDays rfl rfl rfl o1 rfl rfl (q_refusesDays G _ false n0 6 hn0 (by decide)) rfl rfl (Nat.le_of_ble_eq_true rfl) (by omega) ?_
  rintro _ _ ⟨rfl, rfl⟩
  refine v_run 0 (pc' := 24) (ls' := [some (.ref (ad 200)), some (.int (zI n0)), some (.int x1), none]) (st' := [.int (zI 1)]) rfl ?_
  refine v_run 2 (pc' := 26) (ls' := [some (.ref (ad 200)), some (.int (zI n0)), some (.int x1), some (.int (zI 1))]) (st' := [.int (zI 1)]) rfl ?_
  refine v_if_le rfl (fun c26 => ?_) (fun c26 => ?_)
  · exact absurd c26 (by decide +kernel)
  · refine v_run 2 (pc' := 31) (ls' := [some (.ref (ad 200)), some (.int (zI n0)), some (.int x1), some (.int (zI 1))]) (st' := [.int (zI 1), .ref (ad 200)]) rfl ?_
    refine v_callV (My := mX10_refused) (As := [.int (zI 1)]) (rest := []) (mc := 0) (ms := 0) rfl caX10_refused rfl rfl rfl o1 rfl rfl (q_refused G _ 1 o1) rfl rfl (Nat.le_of_ble_eq_true rfl) (by omega) ?_
    rintro _ _ ⟨rfl, rfl⟩
    refine v_run 0 (pc' := 34) (ls' := [some (.ref (ad 200)), some (.int (zI n0)), some (.int x1), some (.int (zI 1))]) (st' := [.int (zI (-1))]) rfl ?_
    refine v_run 1 (pc' := 35) (ls' := [some (.ref (ad 200)), some (.int (zI n0)), some (.int x1), some (.int (zI 1))]) (st' := [.long ((zI (-1)).toInt64)]) rfl ?_
    rw [show ((zI (-1)).toInt64 : Int64) = zL (-1) from zI_l (by decide) (by decide)]
    exact v_lret rfl rfl ⟨rfl, by rw [← e1, hset_hset]⟩

set_option maxRecDepth 100000 in
set_option maxHeartbeats 400000 in
theorem q_mean0 (G : ssG) (h : ssH) {ad : Nat → Nat} {rv : Value} {m : Nat → Int} (n0 : Int) (x1 : Int32) (ho : h (ad 200) = some (.inr (10, obM ad .null rv m))) (hn0 : -2147483648 ≤ n0 ∧ n0 < 2147483648) : ssC G mX10_mean 2 0 0 [.ref (ad 200), .int (zI n0), .int x1] h (fun r h' => r = some (.long (zL (-1))) ∧ hset h (ad 200) (.inr (10, obM ad .null rv (mT (mU m 0 0) 1))) = h') := by
  refine c_of_v okX10_mean (by decide +kernel) (ls := [some (.ref (ad 200)), some (.int (zI n0)), some (.int x1), none]) rfl (Nat.le_of_ble_eq_true rfl) ?_
  refine v_run 2 (pc' := 2) (ls' := [some (.ref (ad 200)), some (.int (zI n0)), some (.int x1), none]) (st' := [.int (zI 0), .ref (ad 200)]) rfl ?_
  refine v_put rfl ho rfl rfl (Nat.le_of_ble_eq_true rfl) ?_
  generalize e1 : hset h (ad 200) (.inr (10, (obM ad .null rv m).set 0 (.int (zI 0)))) = h1
  have o1 : h1 (ad 200) = some (.inr (10, obM ad .null rv (mU m 0 0))) := e1 ▸ hset_self _ _ _
  refine v_run 2 (pc' := 7) (ls' := [some (.ref (ad 200)), some (.int (zI n0)), some (.int x1), none]) (st' := [.ref (ad 200), .ref (ad 200)]) rfl ?_
  refine v_get rfl o1 rfl ?_
  refine v_run 4 (pc' := 21) (ls' := [some (.ref (ad 200)), some (.int (zI n0)), some (.int x1), none]) (st' := [.int (zI 6), .int (zI n0), .int (zI 0), .ref (ad 200)]) rfl ?_
  refine v_run 0 (pc' := 21) (ls' := [some (.ref (ad 200)), some (.int (zI n0)), some (.int x1), none]) (st' := [.int (zI 6), .int (zI n0), .int (zb false), .ref (ad 200)]) rfl ?_
  refine v_callV (My := mX10_refusesDays) (As := [.int (zb false), .int (zI n0), .int (zI 6)]) (rest := []) (mc := 0) (ms := 0) rfl caX10_refusesDays rfl rfl rfl o1 rfl rfl (q_refusesDays G _ false n0 6 hn0 (by decide)) rfl rfl (Nat.le_of_ble_eq_true rfl) (by omega) ?_
  rintro _ _ ⟨rfl, rfl⟩
  refine v_run 0 (pc' := 24) (ls' := [some (.ref (ad 200)), some (.int (zI n0)), some (.int x1), none]) (st' := [.int (zI 1)]) rfl ?_
  refine v_run 2 (pc' := 26) (ls' := [some (.ref (ad 200)), some (.int (zI n0)), some (.int x1), some (.int (zI 1))]) (st' := [.int (zI 1)]) rfl ?_
  refine v_if_le rfl (fun c26 => ?_) (fun c26 => ?_)
  · exact absurd c26 (by decide +kernel)
  · refine v_run 2 (pc' := 31) (ls' := [some (.ref (ad 200)), some (.int (zI n0)), some (.int x1), some (.int (zI 1))]) (st' := [.int (zI 1), .ref (ad 200)]) rfl ?_
    refine v_callV (My := mX10_refused) (As := [.int (zI 1)]) (rest := []) (mc := 0) (ms := 0) rfl caX10_refused rfl rfl rfl o1 rfl rfl (q_refused G _ 1 o1) rfl rfl (Nat.le_of_ble_eq_true rfl) (by omega) ?_
    rintro _ _ ⟨rfl, rfl⟩
    refine v_run 0 (pc' := 34) (ls' := [some (.ref (ad 200)), some (.int (zI n0)), some (.int x1), some (.int (zI 1))]) (st' := [.int (zI (-1))]) rfl ?_
    refine v_run 1 (pc' := 35) (ls' := [some (.ref (ad 200)), some (.int (zI n0)), some (.int x1), some (.int (zI 1))]) (st' := [.long ((zI (-1)).toInt64)]) rfl ?_
    rw [show ((zI (-1)).toInt64 : Int64) = zL (-1) from zI_l (by decide) (by decide)]
    exact v_lret rfl rfl ⟨rfl, by rw [← e1, hset_hset]⟩

set_option maxRecDepth 100000 in
set_option maxHeartbeats 400000 in
theorem q_goodOdds0 (G : ssG) (h : ssH) {ad : Nat → Nat} {rv : Value} {m : Nat → Int} (x0 : Int32) (n1 : Int) (x2 : Int32) (ho : h (ad 200) = some (.inr (10, obM ad .null rv m))) (hn1 : -2147483648 ≤ n1 ∧ n1 < 2147483648) : ssC G mX10_goodOdds 2 0 0 [.ref (ad 200), .int x0, .int (zI n1), .int x2] h (fun r h' => r = some (.long (zL (-1))) ∧ hset h (ad 200) (.inr (10, obM ad .null rv (mT (mU m 0 0) 1))) = h') := by
  refine c_of_v okX10_goodOdds (by decide +kernel) (ls := [some (.ref (ad 200)), some (.int x0), some (.int (zI n1)), some (.int x2), none]) rfl (Nat.le_of_ble_eq_true rfl) ?_
  refine v_run 2 (pc' := 2) (ls' := [some (.ref (ad 200)), some (.int x0), some (.int (zI n1)), some (.int x2), none]) (st' := [.int (zI 0), .ref (ad 200)]) rfl ?_
  refine v_put rfl ho rfl rfl (Nat.le_of_ble_eq_true rfl) ?_
  generalize e1 : hset h (ad 200) (.inr (10, (obM ad .null rv m).set 0 (.int (zI 0)))) = h1
  have o1 : h1 (ad 200) = some (.inr (10, obM ad .null rv (mU m 0 0))) := e1 ▸ hset_self _ _ _
  refine v_run 3 (pc' := 8) (ls' := [some (.ref (ad 200)), some (.int x0), some (.int (zI n1)), some (.int x2), none]) (st' := [.int x0, .ref (ad 200), .ref (ad 200)]) rfl ?_
  refine v_callV (My := mX10_isSenator) (As := [.int x0]) (rest := [.ref (ad 200)]) (mc := 0) (ms := 0) rfl caX10_isSenator rfl rfl rfl o1 rfl rfl (q_isSenator0 G _ (x0) o1) rfl rfl (Nat.le_of_ble_eq_true rfl) (by omega) ?_
  rintro _ _ ⟨rfl, rfl⟩
  refine v_run 0 (pc' := 11) (ls' := [some (.ref (ad 200)), some (.int x0), some (.int (zI n1)), some (.int x2), none]) (st' := [.int (zb false), .ref (ad 200)]) rfl ?_
  refine v_run 2 (pc' := 14) (ls' := [some (.ref (ad 200)), some (.int x0), some (.int (zI n1)), some (.int x2), none]) (st' := [.int (zI 6), .int (zI n1), .int (zb false), .ref (ad 200)]) rfl ?_
  refine v_callV (My := mX10_refusesDays) (As := [.int (zb false), .int (zI n1), .int (zI 6)]) (rest := []) (mc := 0) (ms := 0) rfl caX10_refusesDays rfl rfl rfl o1 rfl rfl (q_refusesDays G _ false n1 6 hn1 (by decide)) rfl rfl (Nat.le_of_ble_eq_true rfl) (by omega) ?_
  rintro _ _ ⟨rfl, rfl⟩
  refine v_run 0 (pc' := 17) (ls' := [some (.ref (ad 200)), some (.int x0), some (.int (zI n1)), some (.int x2), none]) (st' := [.int (zI 1)]) rfl ?_
  refine v_run 2 (pc' := 21) (ls' := [some (.ref (ad 200)), some (.int x0), some (.int (zI n1)), some (.int x2), some (.int (zI 1))]) (st' := [.int (zI 1)]) rfl ?_
  refine v_if_le rfl (fun c21 => ?_) (fun c21 => ?_)
  · exact absurd c21 (by decide +kernel)
  · refine v_run 2 (pc' := 27) (ls' := [some (.ref (ad 200)), some (.int x0), some (.int (zI n1)), some (.int x2), some (.int (zI 1))]) (st' := [.int (zI 1), .ref (ad 200)]) rfl ?_
    refine v_callV (My := mX10_refused) (As := [.int (zI 1)]) (rest := []) (mc := 0) (ms := 0) rfl caX10_refused rfl rfl rfl o1 rfl rfl (q_refused G _ 1 o1) rfl rfl (Nat.le_of_ble_eq_true rfl) (by omega) ?_
    rintro _ _ ⟨rfl, rfl⟩
    refine v_run 0 (pc' := 30) (ls' := [some (.ref (ad 200)), some (.int x0), some (.int (zI n1)), some (.int x2), some (.int (zI 1))]) (st' := [.int (zI (-1))]) rfl ?_
    refine v_run 1 (pc' := 31) (ls' := [some (.ref (ad 200)), some (.int x0), some (.int (zI n1)), some (.int x2), some (.int (zI 1))]) (st' := [.long ((zI (-1)).toInt64)]) rfl ?_
    rw [show ((zI (-1)).toInt64 : Int64) = zL (-1) from zI_l (by decide) (by decide)]
    exact v_lret rfl rfl ⟨rfl, by rw [← e1, hset_hset]⟩

