def mF : Nat → Bool := fun _ => false
def mDs (ζ : Nat → Nat → Nat) (b : Nat → Bool) (X : Nat → Nat) : Nat → Nat → Nat
  | 0 => X
  | n + 1 => mD ζ (b n) (mDs ζ b X n)
theorem mDs_ok {ζ : Nat → Nat → Nat} (hz : SaOk ζ) {b : Nat → Bool} {X : Nat → Nat} (hx : XOk X) : ∀ n, XOk (mDs ζ b X n)
  | 0 => hx
  | n + 1 => mD_ok hz (mDs_ok hz hx n)
theorem mDs_23 {ζ : Nat → Nat → Nat} (b : Nat → Bool) (X : Nat → Nat) : ∀ n, mDs ζ b X n 23 = X 23 + n
  | 0 => rfl
  | n + 1 => by
    have := mDs_23 (ζ := ζ) b X n
    show (mD ζ (b n) (mDs ζ b X n)) 23 = _
    simp only [mD, if_true]; omega
def mNoQ (ζ : Nat → Nat → Nat) (X : Nat → Nat) : Nat → Bool := fun n => decide (popN (mG ζ (mDs ζ mF X n)) < ζ 0 0)
def mLast (ζ : Nat → Nat → Nat) (X : Nat → Nat) : Nat := fstN (mNoQ ζ X) 99 0
def mMg (ζ : Nat → Nat → Nat) (X : Nat → Nat) (s : Nat) : Int := cLead (ζ 16) (ζ 18 s) (ζ 5 0) (X (18 + s))
theorem mMg_le {ζ : Nat → Nat → Nat} (hz : SaOk ζ) (X : Nat → Nat) (s : Nat) : -54 ≤ mMg ζ X s ∧ mMg ζ X s ≤ 54 := by
  have h5 := hz.2.2.2.2.2.1
  have h16 := hz.2.2.2.2.2.2.2.2.2.2.2.2.1
  have h : ∀ m, sumN (fun s => ζ 16 s * (m / 2 ^ s % 2)) (ζ 5 0) ≤ 54 := fun m => by
    have h1 := sumN_le (f := fun s => ζ 16 s * (m / 2 ^ s % 2)) (c := 9) (fun k => by
      have h2 := h16 k
      have h3 := bitN_le m k
      have h4 := Nat.mul_le_mul h2 h3
      omega) (ζ 5 0)
    have h2 : ζ 5 0 * 9 ≤ 6 * 9 := Nat.mul_le_mul_right 9 h5
    omega
  have h1 := h (X (18 + s) &&& ζ 18 s)
  have h2 := h (andn (X (18 + s)) (ζ 18 s))
  unfold mMg cLead
  omega
def mBy (ζ : Nat → Nat → Nat) (X : Nat → Nat) (s : Nat) : Bool := decide (ζ 0 0 ≤ popN (X (18 + s)) ∧ 0 < mMg ζ X s)
def mAl (ζ : Nat → Nat → Nat) (X : Nat → Nat) : Nat := setN (mBy ζ X) (ζ 6 0)
def mIv (ζ : Nat → Nat → Nat) (X : Nat → Nat) (v g : Nat) : Prop := (∀ k, bitN (cGfp (ζ 19) (ζ 6 0) v (mAl ζ X)) k = true → bitN g k = true) ∧ (∀ k, bitN g k = true → k < ζ 6 0 ∧ bitN (mAl ζ X) k = true)
theorem mAl_b {ζ : Nat → Nat → Nat} {X : Nat → Nat} {k : Nat} (h : bitN (mAl ζ X) k = true) : k < ζ 6 0 := by
  unfold mAl at h
  rw [bitN_set, Bool.and_eq_true, decide_eq_true_eq] at h
  exact h.1
theorem mIv_0 (ζ : Nat → Nat → Nat) (X : Nat → Nat) (v : Nat) : mIv ζ X v (mAl ζ X) := ⟨cGfp_al, fun _ h => ⟨mAl_b h, h⟩⟩
theorem mIv_lt {ζ : Nat → Nat → Nat} {X : Nat → Nat} {v g : Nat} (z6 : ζ 6 0 ≤ 5) (h : mIv ζ X v g) : g < 32 := by
  have h1 : g ≤ mAl ζ X := bN_le (fun k hk => (h.2 k hk).2)
  have h2 : mAl ζ X < 32 := Nat.lt_of_lt_of_le (setN_lt _ _) (Nat.pow_le_pow_right (n := 2) (by decide) z6)
  omega
theorem mIv_no {F : Nat → Nat} {v g t : Nat} (h : ∀ j, j < t → bitN g j = true → ∀ k, bitN (andn (F j) v) k = true → bitN g k = true) (hb : bitN g t = false) : ∀ j, j < t + 1 → bitN g j = true → ∀ k, bitN (andn (F j) v) k = true → bitN g k = true := by
  intro j hj hg k hk
  by_cases e : j = t
  · rw [e, hb] at hg; cases hg
  · exact h j (by omega) hg k hk
theorem mIv_yes {F : Nat → Nat} {v g t : Nat} (h : ∀ j, j < t → bitN g j = true → ∀ k, bitN (andn (F j) v) k = true → bitN g k = true) (hb : ∀ k, bitN (andn (F t) v) k = true → bitN g k = true) : ∀ j, j < t + 1 → bitN g j = true → ∀ k, bitN (andn (F j) v) k = true → bitN g k = true := by
  intro j hj hg k hk
  by_cases e : j = t
  · rw [e] at hk; exact hb k hk
  · exact h j (by omega) hg k hk
theorem mIv_rm {ζ : Nat → Nat → Nat} {X : Nat → Nat} {v u t : Nat} (h : mIv ζ X v u) (ht : t < ζ 6 0) (hn : ¬ andn (andn (ζ 19 t) v) u = 0) : mIv ζ X v (andn u (2 ^ t)) := by
  refine ⟨fun k hk => ?_, fun k hk => ?_⟩
  · rw [bN_andn, h.1 k hk, bN_pow]
    by_cases e : t = k
    · exfalso
      subst e
      exact hn (andn_0.mpr (fun j hj => h.1 j (cGfp_cl (fun _ q => mAl_b q) t ht hk j hj)))
    · simp [e]
  · rw [bN_andn, Bool.and_eq_true] at hk
    exact h.2 k hk.1
theorem andn_less {u t : Nat} (h : bitN u t = true) : andn u (2 ^ t) < u := by
  have h1 : andn u (2 ^ t) ≤ u := bN_le (fun k hk => by rw [bN_andn, Bool.and_eq_true] at hk; exact hk.1)
  have h2 : andn u (2 ^ t) ≠ u := fun e => by
    have := bN_andn u (2 ^ t) t
    rw [e, h, bN_pow] at this
    simp at this
  omega
def mPut (ζ : Nat → Nat → Nat) (X : Nat → Nat) : Nat → Nat := mDs ζ mF X (41 - X 23)
def mGo (ζ : Nat → Nat → Nat) (X : Nat → Nat) (v : Nat) : Nat := cGfp (ζ 19) (ζ 6 0) v (mAl ζ X)
set_option maxRecDepth 100000 in
set_option maxHeartbeats 400000 in
theorem q_daysOn (G : ssG) (h : ssH) {ad : Nat → Nat} {rv : Value} {m : Nat → Int} {ζ : Nat → Nat → Nat} {X : Nat → Nat} (t : Nat) (hA : ∀ k l, ad k = ad l → k = l) (hm : MX h ad rv m ζ X) (hz : SaOk ζ) (hx : XOk X) (hd : X 23 + t ≤ 1000) : ssC G mX10_daysOn 2 0 0 [.ref (ad 200), .int (zI ↑t)] h (rV (hset h (ad 203) (ar 26 (mDs ζ mF X t)))) := by
  refine c_of_v okX10_daysOn (by decide +kernel) (ls := [some (.ref (ad 200)), some (.int (zI ↑t)), none]) rfl (Nat.le_of_ble_eq_true rfl) ?_
  obtain ⟨z0, z1, z2, z3, z4, z5, z6, z9, z12, z13, z14, z15, z16, z17, z18, z19, z20⟩ := id hz
  obtain ⟨x0, x6, x12, x18, x24, x25, x26⟩ := id hx
  refine v_run 2 (pc' := 2) (ls' := [some (.ref (ad 200)), some (.int (zI ↑t)), some (.int (zI 0))]) (st' := []) rfl ?_
  have lp : ∀ (n s : Nat), s ≤ t → t + 1 ≤ s + n → ssV G mX10_daysOn 2 0 0 (rV (hset h (ad 203) (ar 26 (mDs ζ mF X t)))) 2 [some (.ref (ad 200)), some (.int (zI ↑t)), some (.int (zI ↑s))] [] (hset h (ad 203) (ar 26 (mDs ζ mF X s))) := by
    intro n
    induction n with
    | zero => intro s hs1 hs2; exact absurd hs2 (by omega)
    | succ n ih =>
      intro s hs1 hs2
      have hx2 := mDs_ok hz (b := mF) hx s
      have d23 := mDs_23 (ζ := ζ) mF X s
      refine v_run 2 (pc' := 4) (ls' := [some (.ref (ad 200)), some (.int (zI ↑t)), some (.int (zI ↑s))]) (st' := [.int (zI ↑t), .int (zI ↑s)]) rfl ?_
      refine v_icmp_ge rfl (fun c4 => ?_) (fun c4 => ?_)
      · simp (disch := omega) only [zI_lt, zI_le, zI_eq, zI_lt0, zI_le0, zI_0lt, zI_0le, zI_eq0] at c4
        exact v_vret rfl rfl ⟨rfl, by rw [show s = t by omega]⟩
      · simp (disch := omega) only [zI_lt, zI_le, zI_eq, zI_lt0, zI_le0, zI_0lt, zI_0le, zI_eq0] at c4
        refine v_run 2 (pc' := 9) (ls' := [some (.ref (ad 200)), some (.int (zI ↑t)), some (.int (zI ↑s))]) (st' := [.int (zI 0), .ref (ad 200)]) rfl ?_
        refine v_callV (My := mX10_aDay) (As := [.int (zI 0)]) (rest := []) (mc := 0) (ms := 0) rfl caX10_aDay rfl rfl rfl (hm.x hA (mDs ζ mF X s)).1 rfl rfl (q_aDay G _ false hA (hm.x hA (mDs ζ mF X s)) hz hx2 (by omega)) rfl rfl (Nat.le_of_ble_eq_true rfl) (by omega) ?_
        rintro _ _ ⟨rfl, rfl⟩
        rw [hset_hset]
        refine v_run 0 (pc' := 12) (ls' := [some (.ref (ad 200)), some (.int (zI ↑t)), some (.int (zI ↑s))]) (st' := []) rfl ?_
        refine v_run 2 (pc' := 2) (ls' := [some (.ref (ad 200)), some (.int (zI ↑t)), some (.int ((zI ↑s) + zI 1))]) (st' := []) rfl ?_
        rw [zI_s1]
        exact ih (s + 1) (by omega) (by omega)
  have lr := lp (t + 1) 0 (by omega) (by omega)
  rw [show mDs ζ mF X 0 = X from rfl, hset_same h hm.2.2] at lr
  exact lr

set_option maxRecDepth 100000 in
set_option maxHeartbeats 400000 in
theorem q_lastsNow (G : ssG) (h : ssH) {ad : Nat → Nat} {rv : Value} {m : Nat → Int} {ζ : Nat → Nat → Nat} {X : Nat → Nat}  (hA : ∀ k l, ad k = ad l → k = l) (hm : MX h ad rv m ζ X) (hz : SaOk ζ) (hx : XOk X) (hd : X 23 + 99 ≤ 1000) : ssC G mX10_lastsNow 2 0 0 [.ref (ad 200)] h (fun r h' => r = some (.int (zI ↑(mLast ζ X))) ∧ hset h (ad 203) (ar 26 (mDs ζ mF X (mLast ζ X))) = h') := by
  refine c_of_v okX10_lastsNow (by decide +kernel) (ls := [some (.ref (ad 200)), none]) rfl (Nat.le_of_ble_eq_true rfl) ?_
  obtain ⟨z0, z1, z2, z3, z4, z5, z6, z9, z12, z13, z14, z15, z16, z17, z18, z19, z20⟩ := id hz
  obtain ⟨x0, x6, x12, x18, x24, x25, x26⟩ := id hx
  refine v_run 2 (pc' := 2) (ls' := [some (.ref (ad 200)), some (.int (zI 0))]) (st' := []) rfl ?_
  have lp : ∀ (n s : Nat), (s ≤ 99 ∧ mLast ζ X = fstN (mNoQ ζ X) (99 - s) s) → 99 + 1 ≤ s + n → ssV G mX10_lastsNow 2 0 0 (fun r h' => r = some (.int (zI ↑(mLast ζ X))) ∧ hset h (ad 203) (ar 26 (mDs ζ mF X (mLast ζ X))) = h') 2 [some (.ref (ad 200)), some (.int (zI ↑s))] [] (hset h (ad 203) (ar 26 (mDs ζ mF X s))) := by
    intro n
    induction n with
    | zero => intro s hs1 hs2; exact absurd hs2 (by omega)
    | succ n ih =>
      intro s hs1 hs2
      have hx2 := mDs_ok hz (b := mF) hx s
      have d23 := mDs_23 (ζ := ζ) mF X s
      have hm2 := hm.x hA (mDs ζ mF X s)
      refine v_run 2 (pc' := 5) (ls' := [some (.ref (ad 200)), some (.int (zI ↑s))]) (st' := [.int (zI 99), .int (zI ↑s)]) rfl ?_
      refine v_icmp_ge rfl (fun c5 => ?_) (fun c5 => ?_)
      · simp (disch := omega) only [zI_lt, zI_le, zI_eq, zI_lt0, zI_le0, zI_0lt, zI_0le, zI_eq0] at c5
        refine v_run 1 (pc' := 27) (ls' := [some (.ref (ad 200)), some (.int (zI ↑s))]) (st' := [.int (zI ↑s)]) rfl ?_
        exact v_iret rfl rfl rfl (by rw [hs1.2, show s = 99 by omega]; exact ⟨rfl, rfl⟩)
      · simp (disch := omega) only [zI_lt, zI_le, zI_eq, zI_lt0, zI_le0, zI_0lt, zI_0le, zI_eq0] at c5
        refine v_run 1 (pc' := 9) (ls' := [some (.ref (ad 200)), some (.int (zI ↑s))]) (st' := [.ref (ad 200)]) rfl ?_
        refine v_callV (My := mX10_isQuorum) (As := []) (rest := []) (mc := 0) (ms := 0) rfl caX10_isQuorum rfl rfl rfl hm2.1 rfl rfl (q_isQuorum G _ hA hm2 hz hx2) rfl rfl (Nat.le_of_ble_eq_true rfl) (by omega) ?_
        rintro _ _ ⟨rfl, rfl⟩
        refine v_run 0 (pc' := 12) (ls' := [some (.ref (ad 200)), some (.int (zI ↑s))]) (st' := [.int (zb (decide (ζ 0 0 ≤ popN (mG ζ (mDs ζ mF X s)))))]) rfl ?_
        refine v_if_eq rfl (fun c12 => ?_) (fun c12 => ?_)
        · rw [zb_0, decide_eq_false_iff_not] at c12
          refine v_run 1 (pc' := 27) (ls' := [some (.ref (ad 200)), some (.int (zI ↑s))]) (st' := [.int (zI ↑s)]) rfl ?_
          exact v_iret rfl rfl rfl (by rw [hs1.2, show 99 - s = (98 - s) + 1 by omega, fstN, if_pos (by simp [mNoQ]; omega)]; exact ⟨rfl, rfl⟩)
        · rw [zb_0, Bool.not_eq_false, decide_eq_true_eq] at c12
          refine v_run 2 (pc' := 17) (ls' := [some (.ref (ad 200)), some (.int (zI ↑s))]) (st' := [.int (zI 0), .ref (ad 200)]) rfl ?_
          refine v_callV (My := mX10_aDay) (As := [.int (zI 0)]) (rest := []) (mc := 0) (ms := 0) rfl caX10_aDay rfl rfl rfl hm2.1 rfl rfl (q_aDay G _ false hA hm2 hz hx2 (by omega)) rfl rfl (Nat.le_of_ble_eq_true rfl) (by omega) ?_
          rintro _ _ ⟨rfl, rfl⟩
          rw [hset_hset]
          refine v_run 0 (pc' := 20) (ls' := [some (.ref (ad 200)), some (.int (zI ↑s))]) (st' := []) rfl ?_
          refine v_run 2 (pc' := 2) (ls' := [some (.ref (ad 200)), some (.int ((zI ↑s) + zI 1))]) (st' := []) rfl ?_
          rw [zI_s1]
          exact ih (s + 1) ⟨by omega, by rw [hs1.2, show 99 - s = (98 - s) + 1 by omega, fstN, if_neg (by simp [mNoQ]; omega), show 99 - (s + 1) = 98 - s by omega]⟩ (by omega)
  have lr := lp 100 0 ⟨by omega, rfl⟩ (by omega)
  rw [show mDs ζ mF X 0 = X from rfl, hset_same h hm.2.2] at lr
  exact lr

set_option maxRecDepth 100000 in
set_option maxHeartbeats 400000 in
theorem q_putsAll (G : ssG) (h : ssH) {ad : Nat → Nat} {rv : Value} {m : Nat → Int} {ζ : Nat → Nat → Nat} {X : Nat → Nat}  (hA : ∀ k l, ad k = ad l → k = l) (hm : MX h ad rv m ζ X) (hz : SaOk ζ) (hx : XOk X) (hd : X 23 ≤ 900) : ssC G mX10_putsAll 2 0 0 [.ref (ad 200)] h (rV (hset h (ad 203) (ar 26 (mDs ζ mF X (41 - X 23))))) := by
  refine c_of_v okX10_putsAll (by decide +kernel) (ls := [some (.ref (ad 200))]) rfl (Nat.le_of_ble_eq_true rfl) ?_
  obtain ⟨z0, z1, z2, z3, z4, z5, z6, z9, z12, z13, z14, z15, z16, z17, z18, z19, z20⟩ := id hz
  obtain ⟨x0, x6, x12, x18, x24, x25, x26⟩ := id hx
  have lp : ∀ (n s : Nat), s ≤ 41 - X 23 → 41 - X 23 + 1 ≤ s + n → ssV G mX10_putsAll 2 0 0 (rV (hset h (ad 203) (ar 26 (mDs ζ mF X (41 - X 23))))) 0 [some (.ref (ad 200))] [] (hset h (ad 203) (ar 26 (mDs ζ mF X s))) := by
    intro n
    induction n with
    | zero => intro s hs1 hs2; exact absurd hs2 (by omega)
    | succ n ih =>
      intro s hs1 hs2
      have hx2 := mDs_ok hz (b := mF) hx s
      have d23 := mDs_23 (ζ := ζ) mF X s
      have hm2 := hm.x hA (mDs ζ mF X s)
      refine v_run 1 (pc' := 1) (ls' := [some (.ref (ad 200))]) (st' := [.ref (ad 200)]) rfl ?_
      refine v_get rfl (hm.x hA (mDs ζ mF X s)).1 rfl ?_
      refine v_run 1 (pc' := 6) (ls' := [some (.ref (ad 200))]) (st' := [.int (zI 23), .ref (ad 203)]) rfl ?_
      refine v_iaload' rfl (hm.x hA (mDs ζ mF X s)).2.2 (i := 23) rfl (by decide) ?_
      refine v_run 1 (pc' := 9) (ls' := [some (.ref (ad 200))]) (st' := [.int (zI 40), .int (zI ↑(mDs ζ mF X s 23))]) rfl ?_
      rw [show (zI ↑(mDs ζ mF X s 23) : Int32) = zI ↑(X 23 + s) from congrArg (fun n : Nat => zI ↑n) (d23)]
      refine v_icmp_gt rfl (fun c9 => ?_) (fun c9 => ?_)
      · simp (disch := omega) only [zI_lt, zI_le, zI_eq, zI_lt0, zI_le0, zI_0lt, zI_0le, zI_eq0] at c9
        exact v_vret rfl rfl ⟨rfl, by rw [show s = 41 - X 23 by omega]⟩
      · simp (disch := omega) only [zI_lt, zI_le, zI_eq, zI_lt0, zI_le0, zI_0lt, zI_0le, zI_eq0] at c9
        refine v_run 2 (pc' := 14) (ls' := [some (.ref (ad 200))]) (st' := [.int (zI 0), .ref (ad 200)]) rfl ?_
        refine v_callV (My := mX10_aDay) (As := [.int (zI 0)]) (rest := []) (mc := 0) (ms := 0) rfl caX10_aDay rfl rfl rfl hm2.1 rfl rfl (q_aDay G _ false hA hm2 hz hx2 (by omega)) rfl rfl (Nat.le_of_ble_eq_true rfl) (by omega) ?_
        rintro _ _ ⟨rfl, rfl⟩
        rw [hset_hset]
        refine v_run 0 (pc' := 17) (ls' := [some (.ref (ad 200))]) (st' := []) rfl ?_
        refine v_run 1 (pc' := 0) (ls' := [some (.ref (ad 200))]) (st' := []) rfl ?_
        exact ih (s + 1) (by omega) (by omega)
  have lr := lp (41 - X 23 + 1) 0 (by omega) (by omega)
  rw [show mDs ζ mF X 0 = X from rfl, hset_same h hm.2.2] at lr
  exact lr

set_option maxRecDepth 100000 in
set_option maxHeartbeats 400000 in
theorem q_votes (G : ssG) (h : ssH) {ad : Nat → Nat} {rv : Value} {m : Nat → Int} {ζ : Nat → Nat → Nat} {X : Nat → Nat} (v : Nat) (hA : ∀ k l, ad k = ad l → k = l) (hm : MX h ad rv m ζ X) (hz : SaOk ζ) (hx : XOk X) (hv : v < 64) : ssC G mX10_votes 1 0 0 [.ref (ad 200), .int (zI ↑v)] h (rI (zI ↑(sumN (fun s => ζ 16 s * (v / 2 ^ s % 2)) (ζ 5 0))) h) := by
  refine c_of_v okX10_votes (by decide +kernel) (ls := [some (.ref (ad 200)), some (.int (zI ↑v)), none, none]) rfl (Nat.le_of_ble_eq_true rfl) ?_
  obtain ⟨z0, z1, z2, z3, z4, z5, z6, z9, z12, z13, z14, z15, z16, z17, z18, z19, z20⟩ := id hz
  obtain ⟨x0, x6, x12, x18, x24, x25, x26⟩ := id hx
  refine v_run 4 (pc' := 4) (ls' := [some (.ref (ad 200)), some (.int (zI ↑v)), some (.int (zI 0)), some (.int (zI 0))]) (st' := []) rfl ?_
  have lp : ∀ (n s : Nat), s ≤ ζ 5 0 → ζ 5 0 + 1 ≤ s + n → ssV G mX10_votes 1 0 0 (rI (zI ↑(sumN (fun s => ζ 16 s * (v / 2 ^ s % 2)) (ζ 5 0))) h) 4 [some (.ref (ad 200)), some (.int (zI ↑v)), some (.int (zI ↑(sumN (fun s => ζ 16 s * (v / 2 ^ s % 2)) s))), some (.int (zI ↑s))] [] h := by
    intro n
    induction n with
    | zero => intro s hs1 hs2; exact absurd hs2 (by omega)
    | succ n ih =>
      intro s hs1 hs2
      refine v_run 2 (pc' := 6) (ls' := [some (.ref (ad 200)), some (.int (zI ↑v)), some (.int (zI ↑(sumN (fun s => ζ 16 s * (v / 2 ^ s % 2)) s))), some (.int (zI ↑s))]) (st' := [.ref (ad 200), .int (zI ↑s)]) rfl ?_
      refine v_get rfl hm.1 rfl ?_
      refine v_run 0 (pc' := 9) (ls' := [some (.ref (ad 200)), some (.int (zI ↑v)), some (.int (zI ↑(sumN (fun s => ζ 16 s * (v / 2 ^ s % 2)) s))), some (.int (zI ↑s))]) (st' := [.ref (ad 210), .int (zI ↑s)]) rfl ?_
      refine v_get rfl hm.2.1.1 rfl ?_
      refine v_run 0 (pc' := 12) (ls' := [some (.ref (ad 200)), some (.int (zI ↑v)), some (.int (zI ↑(sumN (fun s => ζ 16 s * (v / 2 ^ s % 2)) s))), some (.int (zI ↑s))]) (st' := [.int (zI ↑(ζ 5 0)), .int (zI ↑s)]) rfl ?_
      refine v_icmp_ge rfl (fun c12 => ?_) (fun c12 => ?_)
      · simp (disch := omega) only [zI_lt, zI_le, zI_eq, zI_lt0, zI_le0, zI_0lt, zI_0le, zI_eq0] at c12
        refine v_run 1 (pc' := 46) (ls' := [some (.ref (ad 200)), some (.int (zI ↑v)), some (.int (zI ↑(sumN (fun s => ζ 16 s * (v / 2 ^ s % 2)) s))), some (.int (zI ↑s))]) (st' := [.int (zI ↑(sumN (fun s => ζ 16 s * (v / 2 ^ s % 2)) s))]) rfl ?_
        exact v_iret rfl rfl rfl ⟨by rw [show s = ζ 5 0 by omega], rfl⟩
      · simp (disch := omega) only [zI_lt, zI_le, zI_eq, zI_lt0, zI_le0, zI_0lt, zI_0le, zI_eq0] at c12
        refine v_run 3 (pc' := 18) (ls' := [some (.ref (ad 200)), some (.int (zI ↑v)), some (.int (zI ↑(sumN (fun s => ζ 16 s * (v / 2 ^ s % 2)) s))), some (.int (zI ↑s))]) (st' := [.int (zI ↑s), .int (zI ↑v), .int (zI ↑(sumN (fun s => ζ 16 s * (v / 2 ^ s % 2)) s))]) rfl ?_
        refine v_callS (My := mX10_bit) (As := [.int (zI ↑v), .int (zI ↑s)]) (rest := [.int (zI ↑(sumN (fun s => ζ 16 s * (v / 2 ^ s % 2)) s))]) (mc := 0) (ms := 0) rfl caX10_bit rfl rfl (q_bit G _ v s (by omega) (by omega)) rfl rfl (Nat.le_of_ble_eq_true rfl) (by omega) ?_
        rintro _ _ ⟨rfl, rfl⟩
        refine v_run 0 (pc' := 21) (ls' := [some (.ref (ad 200)), some (.int (zI ↑v)), some (.int (zI ↑(sumN (fun s => ζ 16 s * (v / 2 ^ s % 2)) s))), some (.int (zI ↑s))]) (st' := [.int (zb (bitN v s)), .int (zI ↑(sumN (fun s => ζ 16 s * (v / 2 ^ s % 2)) s))]) rfl ?_
        refine v_if_eq rfl (fun c21 => ?_) (fun c21 => ?_)
        · rw [zb_0, bitN_false] at c21
          have q9 := bitN_le v s
          refine v_run 5 (pc' := 4) (ls' := [some (.ref (ad 200)), some (.int (zI ↑v)), some (.int ((zI ↑(sumN (fun s => ζ 16 s * (v / 2 ^ s % 2)) s)) + (zI 0))), some (.int ((zI ↑s) + zI 1))]) (st' := []) rfl ?_
          rw [zI_s1, show (zI ↑(sumN (fun s => ζ 16 s * (v / 2 ^ s % 2)) s)) + (zI 0) = zI ↑(sumN (fun s => ζ 16 s * (v / 2 ^ s % 2)) (s + 1)) from by rw [show (zI 0) = zI ↑(0 : Nat) from rfl, zN_add]; simp only [sumN]; rw [show v / 2 ^ s % 2 = 0 by omega, Nat.mul_zero]]
          exact ih (s + 1) (by omega) (by omega)
        · rw [zb_0, Bool.not_eq_false, bitN_true] at c21
          refine v_run 1 (pc' := 25) (ls' := [some (.ref (ad 200)), some (.int (zI ↑v)), some (.int (zI ↑(sumN (fun s => ζ 16 s * (v / 2 ^ s % 2)) s))), some (.int (zI ↑s))]) (st' := [.ref (ad 200), .int (zI ↑(sumN (fun s => ζ 16 s * (v / 2 ^ s % 2)) s))]) rfl ?_
          refine v_get rfl hm.1 rfl ?_
          refine v_run 0 (pc' := 28) (ls' := [some (.ref (ad 200)), some (.int (zI ↑v)), some (.int (zI ↑(sumN (fun s => ζ 16 s * (v / 2 ^ s % 2)) s))), some (.int (zI ↑s))]) (st' := [.ref (ad 210), .int (zI ↑(sumN (fun s => ζ 16 s * (v / 2 ^ s % 2)) s))]) rfl ?_
          refine v_get rfl hm.2.1.1 rfl ?_
          refine v_run 1 (pc' := 32) (ls' := [some (.ref (ad 200)), some (.int (zI ↑v)), some (.int (zI ↑(sumN (fun s => ζ 16 s * (v / 2 ^ s % 2)) s))), some (.int (zI ↑s))]) (st' := [.int (zI ↑s), .ref (Sf ad 210 16), .int (zI ↑(sumN (fun s => ζ 16 s * (v / 2 ^ s % 2)) s))]) rfl ?_
          refine v_iaload' rfl hm.2.1.2.2.2.2.2.1 (i := s) rfl (by omega) ?_
          refine v_run 5 (pc' := 4) (ls' := [some (.ref (ad 200)), some (.int (zI ↑v)), some (.int ((zI ↑(sumN (fun s => ζ 16 s * (v / 2 ^ s % 2)) s)) + (zI ↑(ζ 16 s)))), some (.int ((zI ↑s) + zI 1))]) (st' := []) rfl ?_
          rw [zI_s1, show (zI ↑(sumN (fun s => ζ 16 s * (v / 2 ^ s % 2)) s)) + (zI ↑(ζ 16 s)) = zI ↑(sumN (fun s => ζ 16 s * (v / 2 ^ s % 2)) (s + 1)) from by rw [zN_add]; simp only [sumN]; rw [c21, Nat.mul_one]]
          exact ih (s + 1) (by omega) (by omega)
  exact lp (ζ 5 0 + 1) 0 (by omega) (by omega)

set_option maxRecDepth 100000 in
set_option maxHeartbeats 400000 in
theorem q_marginNow (G : ssG) (h : ssH) {ad : Nat → Nat} {rv : Value} {m : Nat → Int} {ζ : Nat → Nat → Nat} {X : Nat → Nat} (s : Nat) (hA : ∀ k l, ad k = ad l → k = l) (hm : MX h ad rv m ζ X) (hz : SaOk ζ) (hx : XOk X) (hs : s < 5) : ssC G mX10_marginNow 2 0 0 [.ref (ad 200), .int (zI ↑s)] h (rI (zI (mMg ζ X s)) h) := by
  refine c_of_v okX10_marginNow (by decide +kernel) (ls := [some (.ref (ad 200)), some (.int (zI ↑s))]) rfl (Nat.le_of_ble_eq_true rfl) ?_
  obtain ⟨z0, z1, z2, z3, z4, z5, z6, z9, z12, z13, z14, z15, z16, z17, z18, z19, z20⟩ := id hz
  obtain ⟨x0, x6, x12, x18, x24, x25, x26⟩ := id hx
  have q1 := x18 s hs
  have q2 := z18 s
  have q3 : X (18 + s) &&& ζ 18 s < 64 := Nat.lt_of_le_of_lt Nat.and_le_left q1
  have q4 : andn (X (18 + s)) (ζ 18 s) < 64 := andn_lt (n := 6) q1
  refine v_run 2 (pc' := 2) (ls' := [some (.ref (ad 200)), some (.int (zI ↑s))]) (st' := [.ref (ad 200), .ref (ad 200)]) rfl ?_
  refine v_get rfl hm.1 rfl ?_
  refine v_run 3 (pc' := 9) (ls' := [some (.ref (ad 200)), some (.int (zI ↑s))]) (st' := [.int ((zI 18) + (zI ↑s)), .ref (ad 203), .ref (ad 200)]) rfl ?_
  refine v_iaload' rfl hm.2.2 (i := (18 + s)) (zN_add 18 s) (by omega) ?_
  refine v_run 1 (pc' := 11) (ls' := [some (.ref (ad 200)), some (.int (zI ↑s))]) (st' := [.ref (ad 200), .int (zI ↑(X (18 + s))), .ref (ad 200)]) rfl ?_
  refine v_get rfl hm.1 rfl ?_
  refine v_run 0 (pc' := 14) (ls' := [some (.ref (ad 200)), some (.int (zI ↑s))]) (st' := [.ref (ad 210), .int (zI ↑(X (18 + s))), .ref (ad 200)]) rfl ?_
  refine v_get rfl hm.2.1.1 rfl ?_
  refine v_run 1 (pc' := 18) (ls' := [some (.ref (ad 200)), some (.int (zI ↑s))]) (st' := [.int (zI ↑s), .ref (Sf ad 210 18), .int (zI ↑(X (18 + s))), .ref (ad 200)]) rfl ?_
  refine v_iaload' rfl hm.2.1.2.2.2.2.2.2.2.1 (i := s) rfl (by omega) ?_
  refine v_run 1 (pc' := 20) (ls' := [some (.ref (ad 200)), some (.int (zI ↑s))]) (st' := [.int ((zI ↑(X (18 + s))) &&& (zI ↑(ζ 18 s))), .ref (ad 200)]) rfl ?_
  rw [show ((zI ↑(X (18 + s))) &&& (zI ↑(ζ 18 s)) : Int32) = zI ↑(X (18 + s) &&& ζ 18 s) from zI_land (by omega) (by omega)]
  refine v_callV (My := mX10_votes) (As := [.int (zI ↑(X (18 + s) &&& ζ 18 s))]) (rest := []) (mc := 0) (ms := 0) rfl caX10_votes rfl rfl rfl hm.1 rfl rfl (q_votes G _ (X (18 + s) &&& ζ 18 s) hA hm hz hx q3) rfl rfl (Nat.le_of_ble_eq_true rfl) (by omega) ?_
  rintro _ _ ⟨rfl, rfl⟩
  refine v_run 0 (pc' := 23) (ls' := [some (.ref (ad 200)), some (.int (zI ↑s))]) (st' := [.int (zI ↑(sumN (fun t => ζ 16 t * ((X (18 + s) &&& ζ 18 s) / 2 ^ t % 2)) (ζ 5 0)))]) rfl ?_
  refine v_run 2 (pc' := 25) (ls' := [some (.ref (ad 200)), some (.int (zI ↑s))]) (st' := [.ref (ad 200), .ref (ad 200), .int (zI ↑(sumN (fun t => ζ 16 t * ((X (18 + s) &&& ζ 18 s) / 2 ^ t % 2)) (ζ 5 0)))]) rfl ?_
  refine v_get rfl hm.1 rfl ?_
  refine v_run 3 (pc' := 32) (ls' := [some (.ref (ad 200)), some (.int (zI ↑s))]) (st' := [.int ((zI 18) + (zI ↑s)), .ref (ad 203), .ref (ad 200), .int (zI ↑(sumN (fun t => ζ 16 t * ((X (18 + s) &&& ζ 18 s) / 2 ^ t % 2)) (ζ 5 0)))]) rfl ?_
  refine v_iaload' rfl hm.2.2 (i := (18 + s)) (zN_add 18 s) (by omega) ?_
  refine v_run 1 (pc' := 34) (ls' := [some (.ref (ad 200)), some (.int (zI ↑s))]) (st' := [.ref (ad 200), .int (zI ↑(X (18 + s))), .ref (ad 200), .int (zI ↑(sumN (fun t => ζ 16 t * ((X (18 + s) &&& ζ 18 s) / 2 ^ t % 2)) (ζ 5 0)))]) rfl ?_
  refine v_get rfl hm.1 rfl ?_
  refine v_run 0 (pc' := 37) (ls' := [some (.ref (ad 200)), some (.int (zI ↑s))]) (st' := [.ref (ad 210), .int (zI ↑(X (18 + s))), .ref (ad 200), .int (zI ↑(sumN (fun t => ζ 16 t * ((X (18 + s) &&& ζ 18 s) / 2 ^ t % 2)) (ζ 5 0)))]) rfl ?_
  refine v_get rfl hm.2.1.1 rfl ?_
  refine v_run 1 (pc' := 41) (ls' := [some (.ref (ad 200)), some (.int (zI ↑s))]) (st' := [.int (zI ↑s), .ref (Sf ad 210 18), .int (zI ↑(X (18 + s))), .ref (ad 200), .int (zI ↑(sumN (fun t => ζ 16 t * ((X (18 + s) &&& ζ 18 s) / 2 ^ t % 2)) (ζ 5 0)))]) rfl ?_
  refine v_iaload' rfl hm.2.1.2.2.2.2.2.2.2.1 (i := s) rfl (by omega) ?_
  refine v_run 3 (pc' := 45) (ls' := [some (.ref (ad 200)), some (.int (zI ↑s))]) (st' := [.int ((zI ↑(X (18 + s))) &&& ((zI ↑(ζ 18 s)) ^^^ (zI (-1)))), .ref (ad 200), .int (zI ↑(sumN (fun t => ζ 16 t * ((X (18 + s) &&& ζ 18 s) / 2 ^ t % 2)) (ζ 5 0)))]) rfl ?_
  rw [show ((zI ↑(X (18 + s))) &&& ((zI ↑(ζ 18 s)) ^^^ (zI (-1))) : Int32) = zI ↑(andn (X (18 + s)) (ζ 18 s)) from zI_andn (by omega) (by omega)]
  refine v_callV (My := mX10_votes) (As := [.int (zI ↑(andn (X (18 + s)) (ζ 18 s)))]) (rest := [.int (zI ↑(sumN (fun t => ζ 16 t * ((X (18 + s) &&& ζ 18 s) / 2 ^ t % 2)) (ζ 5 0)))]) (mc := 0) (ms := 0) rfl caX10_votes rfl rfl rfl hm.1 rfl rfl (q_votes G _ (andn (X (18 + s)) (ζ 18 s)) hA hm hz hx q4) rfl rfl (Nat.le_of_ble_eq_true rfl) (by omega) ?_
  rintro _ _ ⟨rfl, rfl⟩
  refine v_run 0 (pc' := 48) (ls' := [some (.ref (ad 200)), some (.int (zI ↑s))]) (st' := [.int (zI ↑(sumN (fun t => ζ 16 t * ((andn (X (18 + s)) (ζ 18 s)) / 2 ^ t % 2)) (ζ 5 0))), .int (zI ↑(sumN (fun t => ζ 16 t * ((X (18 + s) &&& ζ 18 s) / 2 ^ t % 2)) (ζ 5 0)))]) rfl ?_
  refine v_run 1 (pc' := 49) (ls' := [some (.ref (ad 200)), some (.int (zI ↑s))]) (st' := [.int ((zI ↑(sumN (fun t => ζ 16 t * ((X (18 + s) &&& ζ 18 s) / 2 ^ t % 2)) (ζ 5 0))) - (zI ↑(sumN (fun t => ζ 16 t * ((andn (X (18 + s)) (ζ 18 s)) / 2 ^ t % 2)) (ζ 5 0))))]) rfl ?_
  exact v_iret rfl rfl rfl ⟨by rw [zI_sub]; rfl, rfl⟩

set_option maxRecDepth 100000 in
set_option maxHeartbeats 400000 in
theorem q_isByItself (G : ssG) (h : ssH) {ad : Nat → Nat} {rv : Value} {m : Nat → Int} {ζ : Nat → Nat → Nat} {X : Nat → Nat} (s : Nat) (hA : ∀ k l, ad k = ad l → k = l) (hm : MX h ad rv m ζ X) (hz : SaOk ζ) (hx : XOk X) (hs : s < 5) : ssC G mX10_isByItself 3 0 0 [.ref (ad 200), .int (zI ↑s)] h (rI (zb (mBy ζ X s)) h) := by
  refine c_of_v okX10_isByItself (by decide +kernel) (ls := [some (.ref (ad 200)), some (.int (zI ↑s))]) rfl (Nat.le_of_ble_eq_true rfl) ?_
  obtain ⟨z0, z1, z2, z3, z4, z5, z6, z9, z12, z13, z14, z15, z16, z17, z18, z19, z20⟩ := id hz
  obtain ⟨x0, x6, x12, x18, x24, x25, x26⟩ := id hx
  have q1 := x18 s hs
  have q2 := popN_le (X (18 + s))
  have q3 := mMg_le hz X s
  refine v_run 1 (pc' := 1) (ls' := [some (.ref (ad 200)), some (.int (zI ↑s))]) (st' := [.ref (ad 200)]) rfl ?_
  refine v_get rfl hm.1 rfl ?_
  refine v_run 3 (pc' := 8) (ls' := [some (.ref (ad 200)), some (.int (zI ↑s))]) (st' := [.int ((zI 18) + (zI ↑s)), .ref (ad 203)]) rfl ?_
  refine v_iaload' rfl hm.2.2 (i := (18 + s)) (zN_add 18 s) (by omega) ?_
  refine v_run 0 (pc' := 9) (ls' := [some (.ref (ad 200)), some (.int (zI ↑s))]) (st' := [.int (zI ↑(X (18 + s)))]) rfl ?_
  refine v_callS (My := mX10_bits) (As := [.int (zI ↑(X (18 + s)))]) (rest := []) (mc := 0) (ms := 0) rfl caX10_bits rfl rfl (q_bits G _ (X (18 + s)) q1) rfl rfl (Nat.le_of_ble_eq_true rfl) (by omega) ?_
  rintro _ _ ⟨rfl, rfl⟩
  refine v_run 0 (pc' := 12) (ls' := [some (.ref (ad 200)), some (.int (zI ↑s))]) (st' := [.int (zI ↑(popN (X (18 + s))))]) rfl ?_
  refine v_run 1 (pc' := 13) (ls' := [some (.ref (ad 200)), some (.int (zI ↑s))]) (st' := [.ref (ad 200), .int (zI ↑(popN (X (18 + s))))]) rfl ?_
  refine v_get rfl hm.1 rfl ?_
  refine v_run 0 (pc' := 16) (ls' := [some (.ref (ad 200)), some (.int (zI ↑s))]) (st' := [.ref (ad 210), .int (zI ↑(popN (X (18 + s))))]) rfl ?_
  refine v_get rfl hm.2.1.1 rfl ?_
  refine v_run 0 (pc' := 19) (ls' := [some (.ref (ad 200)), some (.int (zI ↑s))]) (st' := [.int (zI ↑(ζ 0 0)), .int (zI ↑(popN (X (18 + s))))]) rfl ?_
  refine v_icmp_lt rfl (fun c19 => ?_) (fun c19 => ?_)
  · simp (disch := omega) only [zI_lt, zI_le, zI_eq, zI_lt0, zI_le0, zI_0lt, zI_0le, zI_eq0] at c19
    refine v_run 1 (pc' := 35) (ls' := [some (.ref (ad 200)), some (.int (zI ↑s))]) (st' := [.int (zI 0)]) rfl ?_
    exact v_iret rfl rfl rfl ⟨by rw [zb, if_neg (by simp [mBy]; omega)], rfl⟩
  · simp (disch := omega) only [zI_lt, zI_le, zI_eq, zI_lt0, zI_le0, zI_0lt, zI_0le, zI_eq0] at c19
    refine v_run 2 (pc' := 24) (ls' := [some (.ref (ad 200)), some (.int (zI ↑s))]) (st' := [.int (zI ↑s), .ref (ad 200)]) rfl ?_
    refine v_callV (My := mX10_marginNow) (As := [.int (zI ↑s)]) (rest := []) (mc := 0) (ms := 0) rfl caX10_marginNow rfl rfl rfl hm.1 rfl rfl (q_marginNow G _ s hA hm hz hx hs) rfl rfl (Nat.le_of_ble_eq_true rfl) (by omega) ?_
    rintro _ _ ⟨rfl, rfl⟩
    refine v_run 0 (pc' := 27) (ls' := [some (.ref (ad 200)), some (.int (zI ↑s))]) (st' := [.int (zI (mMg ζ X s))]) rfl ?_
    refine v_if_le rfl (fun c27 => ?_) (fun c27 => ?_)
    · simp (disch := omega) only [zI_lt, zI_le, zI_eq, zI_lt0, zI_le0, zI_0lt, zI_0le, zI_eq0] at c27
      refine v_run 1 (pc' := 35) (ls' := [some (.ref (ad 200)), some (.int (zI ↑s))]) (st' := [.int (zI 0)]) rfl ?_
      exact v_iret rfl rfl rfl ⟨by rw [zb, if_neg (by simp [mBy]; omega)], rfl⟩
    · simp (disch := omega) only [zI_lt, zI_le, zI_eq, zI_lt0, zI_le0, zI_0lt, zI_0le, zI_eq0] at c27
      refine v_run 2 (pc' := 35) (ls' := [some (.ref (ad 200)), some (.int (zI ↑s))]) (st' := [.int (zI 1)]) rfl ?_
      exact v_iret rfl rfl rfl ⟨by rw [zb, if_pos (by simp [mBy]; omega)], rfl⟩

set_option maxRecDepth 100000 in
set_option maxHeartbeats 400000 in
theorem q_goingBut (G : ssG) (h : ssH) {ad : Nat → Nat} {rv : Value} {m : Nat → Int} {ζ : Nat → Nat → Nat} {X : Nat → Nat} (v : Nat) (hA : ∀ k l, ad k = ad l → k = l) (hm : MX h ad rv m ζ X) (hz : SaOk ζ) (hx : XOk X) (hv : v < 32) : ssC G mX10_goingBut 4 0 0 [.ref (ad 200), .int (zI ↑v)] h (rI (zI ↑(mGo ζ X v)) h) := by
  refine c_of_v okX10_goingBut (by decide +kernel) (ls := [some (.ref (ad 200)), some (.int (zI ↑v)), none, none, none]) rfl (Nat.le_of_ble_eq_true rfl) ?_
  obtain ⟨z0, z1, z2, z3, z4, z5, z6, z9, z12, z13, z14, z15, z16, z17, z18, z19, z20⟩ := id hz
  obtain ⟨x0, x6, x12, x18, x24, x25, x26⟩ := id hx
  refine v_run 4 (pc' := 4) (ls' := [some (.ref (ad 200)), some (.int (zI ↑v)), some (.int (zI 0)), some (.int (zI 0)), none]) (st' := []) rfl ?_
  have lp : ∀ (n s : Nat), s ≤ ζ 6 0 → ζ 6 0 + 1 ≤ s + n → ssV G mX10_goingBut 4 0 0 (rI (zI ↑(mGo ζ X v)) h) 4 [some (.ref (ad 200)), some (.int (zI ↑v)), some (.int (zI ↑(setN (mBy ζ X) s))), some (.int (zI ↑s)), none] [] h := by
    intro n
    induction n with
    | zero => intro s hs1 hs2; exact absurd hs2 (by omega)
    | succ n ih =>
      intro s hs1 hs2
      refine v_run 2 (pc' := 6) (ls' := [some (.ref (ad 200)), some (.int (zI ↑v)), some (.int (zI ↑(setN (mBy ζ X) s))), some (.int (zI ↑s)), none]) (st' := [.ref (ad 200), .int (zI ↑s)]) rfl ?_
      refine v_get rfl hm.1 rfl ?_
      refine v_run 0 (pc' := 9) (ls' := [some (.ref (ad 200)), some (.int (zI ↑v)), some (.int (zI ↑(setN (mBy ζ X) s))), some (.int (zI ↑s)), none]) (st' := [.ref (ad 210), .int (zI ↑s)]) rfl ?_
      refine v_get rfl hm.2.1.1 rfl ?_
      refine v_run 0 (pc' := 12) (ls' := [some (.ref (ad 200)), some (.int (zI ↑v)), some (.int (zI ↑(setN (mBy ζ X) s))), some (.int (zI ↑s)), none]) (st' := [.int (zI ↑(ζ 6 0)), .int (zI ↑s)]) rfl ?_
      refine v_icmp_ge rfl (fun c12 => ?_) (fun c12 => ?_)
      · simp (disch := omega) only [zI_lt, zI_le, zI_eq, zI_lt0, zI_le0, zI_0lt, zI_0le, zI_eq0] at c12
        refine v_run 2 (pc' := 41) (ls' := [some (.ref (ad 200)), some (.int (zI ↑v)), some (.int (zI ↑(setN (mBy ζ X) s))), some (.int (zI 1)), none]) (st' := []) rfl ?_
        rw [show setN (mBy ζ X) s = mAl ζ X from by rw [show s = ζ 6 0 by omega]; rfl]
        refine v_run 0 (pc' := 41) (ls' := [some (.ref (ad 200)), some (.int (zI ↑v)), some (.int (zI ↑(mAl ζ X))), some (.int (zb true)), none]) (st' := []) rfl ?_
        have al32 : mAl ζ X < 32 := Nat.lt_of_lt_of_le (setN_lt _ _) (Nat.pow_le_pow_right (n := 2) (by decide) z6)
        have lq : ∀ (no s g : Nat) (b : Bool), (s + g + (if b = true then 1 else 0) ≤ 33 ∧ mIv ζ X v g ∧ (b = false → cClo (ζ 19) v (ζ 6 0) g)) → 33 + 1 ≤ s + no → ssV G mX10_goingBut 4 0 0 (rI (zI ↑(mGo ζ X v)) h) 41 [some (.ref (ad 200)), some (.int (zI ↑v)), some (.int (zI ↑g)), some (.int (zb b)), none] [] h := by
          intro no
          induction no with
          | zero => intro s g b ho1 ho2; exact absurd ho2 (by omega)
          | succ no ih2 =>
            intro s g b ho1 ho2
            refine v_run 1 (pc' := 42) (ls' := [some (.ref (ad 200)), some (.int (zI ↑v)), some (.int (zI ↑g)), some (.int (zb b)), none]) (st' := [.int (zb b)]) rfl ?_
            refine v_if_eq rfl (fun c42 => ?_) (fun c42 => ?_)
            · rw [zb_0] at c42
              refine v_run 1 (pc' := 116) (ls' := [some (.ref (ad 200)), some (.int (zI ↑v)), some (.int (zI ↑g)), some (.int (zb b)), none]) (st' := [.int (zI ↑g)]) rfl ?_
              exact v_iret rfl rfl rfl ⟨by rw [mGo, ← cGfp_eq ho1.2.1.1 ho1.2.1.2 (ho1.2.2 c42)], rfl⟩
            · rw [zb_0, Bool.not_eq_false] at c42
              rw [c42, if_pos rfl] at ho1
              refine v_run 4 (pc' := 50) (ls' := [some (.ref (ad 200)), some (.int (zI ↑v)), some (.int (zI ↑g)), some (.int (zI 0)), some (.int (zI 0))]) (st' := []) rfl ?_
              refine v_run 0 (pc' := 50) (ls' := [some (.ref (ad 200)), some (.int (zI ↑v)), some (.int (zI ↑g)), some (.int (zb false)), some (.int (zI ↑(0 : Nat)))]) (st' := []) rfl ?_
              have g32 : g < 32 := mIv_lt z6 ho1.2.1
              have lr : ∀ (ni t u : Nat) (f : Bool), (t ≤ ζ 6 0 ∧ mIv ζ X v u ∧ u ≤ g ∧ (f = true → u < g) ∧ (f = false → u = g ∧ ∀ j, j < t → bitN g j = true → ∀ k, bitN (andn (ζ 19 j) v) k = true → bitN g k = true)) → ζ 6 0 + 1 ≤ t + ni → ssV G mX10_goingBut 4 0 0 (rI (zI ↑(mGo ζ X v)) h) 50 [some (.ref (ad 200)), some (.int (zI ↑v)), some (.int (zI ↑u)), some (.int (zb f)), some (.int (zI ↑t))] [] h := by
                intro ni
                induction ni with
                | zero => intro t u f hi1 hi2; exact absurd hi2 (by omega)
                | succ ni ih3 =>
                  intro t u f hi1 hi2
                  have u32 : u < 32 := by omega
                  have f32 := z19 t
                  refine v_run 2 (pc' := 53) (ls' := [some (.ref (ad 200)), some (.int (zI ↑v)), some (.int (zI ↑u)), some (.int (zb f)), some (.int (zI ↑t))]) (st' := [.ref (ad 200), .int (zI ↑t)]) rfl ?_
                  refine v_get rfl hm.1 rfl ?_
                  refine v_run 0 (pc' := 56) (ls' := [some (.ref (ad 200)), some (.int (zI ↑v)), some (.int (zI ↑u)), some (.int (zb f)), some (.int (zI ↑t))]) (st' := [.ref (ad 210), .int (zI ↑t)]) rfl ?_
                  refine v_get rfl hm.2.1.1 rfl ?_
                  refine v_run 0 (pc' := 59) (ls' := [some (.ref (ad 200)), some (.int (zI ↑v)), some (.int (zI ↑u)), some (.int (zb f)), some (.int (zI ↑t))]) (st' := [.int (zI ↑(ζ 6 0)), .int (zI ↑t)]) rfl ?_
                  refine v_icmp_ge rfl (fun c59 => ?_) (fun c59 => ?_)
                  · simp (disch := omega) only [zI_lt, zI_le, zI_eq, zI_lt0, zI_le0, zI_0lt, zI_0le, zI_eq0] at c59
                    refine v_run 1 (pc' := 41) (ls' := [some (.ref (ad 200)), some (.int (zI ↑v)), some (.int (zI ↑u)), some (.int (zb f)), some (.int (zI ↑t))]) (st' := []) rfl ?_
                    refine v_drop 4 (ls' := [some (.ref (ad 200)), some (.int (zI ↑v)), some (.int (zI ↑u)), some (.int (zb f)), none]) rfl ?_
                    have t0 : t = ζ 6 0 := by omega
                    rw [t0] at hi1
                    cases f with
                    | true => exact ih2 (s + 1) u true ⟨by have := hi1.2.2.2.1 rfl; simp; omega, hi1.2.1, fun q => by cases q⟩ (by omega)
                    | false =>
                      obtain ⟨e1, e2⟩ := hi1.2.2.2.2 rfl
                      rw [e1]
                      exact ih2 (s + 1) g false ⟨by simp; omega, ho1.2.1, fun _ => e2⟩ (by omega)
                  · simp (disch := omega) only [zI_lt, zI_le, zI_eq, zI_lt0, zI_le0, zI_0lt, zI_0le, zI_eq0] at c59
                    refine v_run 2 (pc' := 65) (ls' := [some (.ref (ad 200)), some (.int (zI ↑v)), some (.int (zI ↑u)), some (.int (zb f)), some (.int (zI ↑t))]) (st' := [.int (zI ↑t), .int (zI ↑u)]) rfl ?_
                    refine v_callS (My := mX10_bit) (As := [.int (zI ↑u), .int (zI ↑t)]) (rest := []) (mc := 0) (ms := 0) rfl caX10_bit rfl rfl (q_bit G _ u t (by omega) (by omega)) rfl rfl (Nat.le_of_ble_eq_true rfl) (by omega) ?_
                    rintro _ _ ⟨rfl, rfl⟩
                    refine v_run 0 (pc' := 68) (ls' := [some (.ref (ad 200)), some (.int (zI ↑v)), some (.int (zI ↑u)), some (.int (zb f)), some (.int (zI ↑t))]) (st' := [.int (zb (bitN u t))]) rfl ?_
                    refine v_if_eq rfl (fun c68 => ?_) (fun c68 => ?_)
                    · rw [zb_0] at c68
                      refine v_run 2 (pc' := 50) (ls' := [some (.ref (ad 200)), some (.int (zI ↑v)), some (.int (zI ↑u)), some (.int (zb f)), some (.int ((zI ↑t) + zI 1))]) (st' := []) rfl ?_
                      rw [zI_s1]
                      exact ih3 (t + 1) u f ⟨by omega, hi1.2.1, hi1.2.2.1, hi1.2.2.2.1, fun q => ⟨(hi1.2.2.2.2 q).1, mIv_no (hi1.2.2.2.2 q).2 (by rw [← (hi1.2.2.2.2 q).1]; exact c68)⟩⟩ (by omega)
                    · rw [zb_0, Bool.not_eq_false] at c68
                      refine v_run 1 (pc' := 72) (ls' := [some (.ref (ad 200)), some (.int (zI ↑v)), some (.int (zI ↑u)), some (.int (zb f)), some (.int (zI ↑t))]) (st' := [.ref (ad 200)]) rfl ?_
                      refine v_get rfl hm.1 rfl ?_
                      refine v_run 0 (pc' := 75) (ls' := [some (.ref (ad 200)), some (.int (zI ↑v)), some (.int (zI ↑u)), some (.int (zb f)), some (.int (zI ↑t))]) (st' := [.ref (ad 210)]) rfl ?_
                      refine v_get rfl hm.2.1.1 rfl ?_
                      refine v_run 1 (pc' := 80) (ls' := [some (.ref (ad 200)), some (.int (zI ↑v)), some (.int (zI ↑u)), some (.int (zb f)), some (.int (zI ↑t))]) (st' := [.int (zI ↑t), .ref (Sf ad 210 19)]) rfl ?_
                      refine v_iaload' rfl hm.2.1.2.2.2.2.2.2.2.2.1 (i := t) rfl (by omega) ?_
                      refine v_run 8 (pc' := 89) (ls' := [some (.ref (ad 200)), some (.int (zI ↑v)), some (.int (zI ↑u)), some (.int (zb f)), some (.int (zI ↑t))]) (st' := [.int (((zI ↑(ζ 19 t)) &&& ((zI ↑v) ^^^ (zI (-1)))) &&& ((zI ↑u) ^^^ (zI (-1))))]) rfl ?_
                      rw [show (((zI ↑(ζ 19 t)) &&& ((zI ↑v) ^^^ (zI (-1)))) &&& ((zI ↑u) ^^^ (zI (-1))) : Int32) = zI ↑(andn (andn (ζ 19 t) v) u) from by rw [zI_andn (by omega) (by omega), zI_andn (by have := andn_lt (b := v) (n := 5) f32; omega) (by omega)]]
                      have a32 : andn (andn (ζ 19 t) v) u < 32 := andn_lt (n := 5) (andn_lt (n := 5) f32)
                      refine v_if_ne rfl (fun c89 => ?_) (fun c89 => ?_)
                      · simp (disch := omega) only [zI_lt, zI_le, zI_eq, zI_lt0, zI_le0, zI_0lt, zI_0le, zI_eq0] at c89
                        refine v_run 7 (pc' := 103) (ls' := [some (.ref (ad 200)), some (.int (zI ↑v)), some (.int (zI ↑u)), some (.int (zb f)), some (.int (zI ↑t))]) (st' := [.int ((zI ↑u) &&& (((zI 1) <<< ((zI ↑t) &&& 31)) ^^^ (zI (-1))))]) rfl ?_
                        rw [show ((zI ↑u) &&& (((zI 1) <<< ((zI ↑t) &&& 31)) ^^^ (zI (-1))) : Int32) = zI ↑(andn u (2 ^ t)) from by have p5 := Nat.pow_le_pow_right (n := 2) (by decide) (show t ≤ 5 by omega); have e := zI_shl (a := 1) (k := t) (by omega) (by omega); rw [Nat.one_mul] at e; rw [show (zI 1) = zI ((1 : Nat) : Int) from rfl, e, zI_andn (by omega) (by omega)]]
                        refine v_run 5 (pc' := 50) (ls' := [some (.ref (ad 200)), some (.int (zI ↑v)), some (.int (zI ↑(andn u (2 ^ t)))), some (.int (zI 1)), some (.int ((zI ↑t) + zI 1))]) (st' := []) rfl ?_
                        rw [zI_s1]
                        refine v_run 0 (pc' := 50) (ls' := [some (.ref (ad 200)), some (.int (zI ↑v)), some (.int (zI ↑(andn u (2 ^ t)))), some (.int (zb true)), some (.int (zI ↑(t + 1)))]) (st' := []) rfl ?_
                        have ul := andn_less c68
                        exact ih3 (t + 1) (andn u (2 ^ t)) true ⟨by omega, mIv_rm hi1.2.1 (by omega) (by omega), by omega, fun _ => by omega, fun q => by cases q⟩ (by omega)
                      · simp (disch := omega) only [zI_lt, zI_le, zI_eq, zI_lt0, zI_le0, zI_0lt, zI_0le, zI_eq0] at c89
                        refine v_run 3 (pc' := 50) (ls' := [some (.ref (ad 200)), some (.int (zI ↑v)), some (.int (zI ↑u)), some (.int (zb f)), some (.int ((zI ↑t) + zI 1))]) (st' := []) rfl ?_
                        rw [zI_s1]
                        exact ih3 (t + 1) u f ⟨by omega, hi1.2.1, hi1.2.2.1, hi1.2.2.2.1, fun q => ⟨(hi1.2.2.2.2 q).1, mIv_yes (hi1.2.2.2.2 q).2 (andn_0.mp (by rw [← (hi1.2.2.2.2 q).1]; omega))⟩⟩ (by omega)
              exact lr (ζ 6 0 + 1) 0 g false ⟨by omega, ho1.2.1, by omega, fun q => (by cases q), fun _ => ⟨rfl, fun j hj => absurd hj (by omega)⟩⟩ (by omega)
        exact lq 34 0 (mAl ζ X) true ⟨by simp; omega, mIv_0 ζ X v, fun q => by cases q⟩ (by omega)
      · simp (disch := omega) only [zI_lt, zI_le, zI_eq, zI_lt0, zI_le0, zI_0lt, zI_0le, zI_eq0] at c12
        have q2 := setN_lt (mBy ζ X) s
        refine v_run 3 (pc' := 18) (ls' := [some (.ref (ad 200)), some (.int (zI ↑v)), some (.int (zI ↑(setN (mBy ζ X) s))), some (.int (zI ↑s)), none]) (st' := [.int (zI ↑s), .ref (ad 200), .int (zI ↑(setN (mBy ζ X) s))]) rfl ?_
        refine v_callV (My := mX10_isByItself) (As := [.int (zI ↑s)]) (rest := [.int (zI ↑(setN (mBy ζ X) s))]) (mc := 0) (ms := 0) rfl caX10_isByItself rfl rfl rfl hm.1 rfl rfl (q_isByItself G _ s hA hm hz hx (by omega)) rfl rfl (Nat.le_of_ble_eq_true rfl) (by omega) ?_
        rintro _ _ ⟨rfl, rfl⟩
        refine v_run 0 (pc' := 21) (ls' := [some (.ref (ad 200)), some (.int (zI ↑v)), some (.int (zI ↑(setN (mBy ζ X) s))), some (.int (zI ↑s)), none]) (st' := [.int (zb (mBy ζ X s)), .int (zI ↑(setN (mBy ζ X) s))]) rfl ?_
        refine v_if_eq rfl (fun c21 => ?_) (fun c21 => ?_)
        · rw [zb_0] at c21
          refine v_run 5 (pc' := 4) (ls' := [some (.ref (ad 200)), some (.int (zI ↑v)), some (.int ((zI ↑(setN (mBy ζ X) s)) ||| (zI 0))), some (.int ((zI ↑s) + zI 1)), none]) (st' := []) rfl ?_
          rw [zI_s1, show (zI ↑(setN (mBy ζ X) s)) ||| (zI 0) = zI ↑(setN (mBy ζ X) (s + 1)) from by rw [setN_f c21]; exact zI_or0 (by have q3 := Nat.pow_le_pow_right (n := 2) (by decide) (show s ≤ 30 by omega); omega)]
          exact ih (s + 1) (by omega) (by omega)
        · rw [zb_0, Bool.not_eq_false] at c21
          refine v_run 8 (pc' := 4) (ls' := [some (.ref (ad 200)), some (.int (zI ↑v)), some (.int ((zI ↑(setN (mBy ζ X) s)) ||| ((zI 1) <<< ((zI ↑s) &&& 31)))), some (.int ((zI ↑s) + zI 1)), none]) (st' := []) rfl ?_
          rw [zI_s1, zI_put (by omega) q2, ← setN_t c21]
          exact ih (s + 1) (by omega) (by omega)
  exact lp (ζ 6 0 + 1) 0 (by omega) (by omega)

set_option maxRecDepth 100000 in
set_option maxHeartbeats 400000 in
theorem q_goingNow (G : ssG) (h : ssH) {ad : Nat → Nat} {rv : Value} {m : Nat → Int} {ζ : Nat → Nat → Nat} {X : Nat → Nat} {V : Nat → Nat} (hA : ∀ k l, ad k = ad l → k = l) (hm : MX h ad rv m ζ X) (hz : SaOk ζ) (hx : XOk X) (hv : h (ad 202) = some (ar 26 V)) (hV : XOk V) (hd : V 23 ≤ 99) : ssC G mX10_goingNow 5 0 0 [.ref (ad 200)] h (fun r h' => r = some (.int (zI ↑(mGo ζ (mPut ζ V) 0))) ∧ hset h (ad 203) (ar 26 (mPut ζ V)) = h') := by
  refine c_of_v okX10_goingNow (by decide +kernel) (ls := [some (.ref (ad 200))]) rfl (Nat.le_of_ble_eq_true rfl) ?_
  obtain ⟨z0, z1, z2, z3, z4, z5, z6, z9, z12, z13, z14, z15, z16, z17, z18, z19, z20⟩ := id hz
  obtain ⟨x0, x6, x12, x18, x24, x25, x26⟩ := id hx
  refine v_run 1 (pc' := 1) (ls' := [some (.ref (ad 200))]) (st' := [.ref (ad 200)]) rfl ?_
  refine v_callV (My := mX10_works) (As := []) (rest := []) (mc := 0) (ms := 0) rfl caX10_works rfl rfl rfl hm.1 rfl rfl (q_works G _ hA hm hz hx hv hV) rfl rfl (Nat.le_of_ble_eq_true rfl) (by omega) ?_
  rintro _ h1 ⟨rfl, e1⟩
  have hm1 : MX h1 ad rv m ζ V := e1 ▸ hm.x hA V
  refine v_run 0 (pc' := 4) (ls' := [some (.ref (ad 200))]) (st' := []) rfl ?_
  refine v_run 1 (pc' := 5) (ls' := [some (.ref (ad 200))]) (st' := [.ref (ad 200)]) rfl ?_
  refine v_callV (My := mX10_putsAll) (As := []) (rest := []) (mc := 0) (ms := 0) rfl caX10_putsAll rfl rfl rfl hm1.1 rfl rfl (q_putsAll G _ hA hm1 hz hV (by omega)) rfl rfl (Nat.le_of_ble_eq_true rfl) (by omega) ?_
  rintro _ h2 ⟨rfl, e2⟩
  have hm2 : MX h2 ad rv m ζ (mPut ζ V) := e2 ▸ hm1.x hA _
  refine v_run 0 (pc' := 8) (ls' := [some (.ref (ad 200))]) (st' := []) rfl ?_
  refine v_run 2 (pc' := 10) (ls' := [some (.ref (ad 200))]) (st' := [.int (zI 0), .ref (ad 200)]) rfl ?_
  refine v_callV (My := mX10_goingBut) (As := [.int (zI 0)]) (rest := []) (mc := 0) (ms := 0) rfl caX10_goingBut rfl rfl rfl hm2.1 rfl rfl (q_goingBut G _ 0 hA hm2 hz (mDs_ok hz hV _) (by omega)) rfl rfl (Nat.le_of_ble_eq_true rfl) (by omega) ?_
  rintro _ _ ⟨rfl, rfl⟩
  refine v_run 0 (pc' := 13) (ls' := [some (.ref (ad 200))]) (st' := [.int (zI ↑(mGo ζ (mPut ζ V) 0))]) rfl ?_
  exact v_iret rfl rfl rfl ⟨rfl, by rw [← e2, ← e1, hset_hset]; rfl⟩

