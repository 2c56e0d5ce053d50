/-! ===== the model ===== -/
def Sf (ad : Nat → Nat) (b k : Nat) : Nat := ad (b + (k - 11))
abbrev obM (ad : Nat → Nat) (sv rv : Value) (m : Nat → Int) : List Value := [.int (zI (m 0)), .int (zI (m 1)), .int (zI (m 2)), sv, rv, .ref (ad 201), .int (zI (m 6)), .int (zI (m 7)), .int (zI (m 8)), .int (zI (m 9)), .int (zI (m 10)), .int (zI (m 11)), .int (zI (m 12)), .int (zI (m 13)), .long (zL (m 14)), .ref (ad 202), .ref (ad 203), .ref (ad 204), .ref (ad 205), .int (zI (m 19)), .int (zI (m 20)), .ref (ad 206), .int (zI (m 22)), .ref (ad 207), .int (zI (m 24)), .ref (ad 208), .long (zL (m 26)), .long (zL (m 27)), .long (zL (m 28))]
abbrev obS (ad : Nat → Nat) (b : Nat) (ζ : Nat → Nat → Nat) : List Value := [.int (zI ↑(ζ 0 0)), .int (zI ↑(ζ 1 0)), .int (zI ↑(ζ 2 0)), .int (zI ↑(ζ 3 0)), .int (zI ↑(ζ 4 0)), .int (zI ↑(ζ 5 0)), .int (zI ↑(ζ 6 0)), .int (zI ↑(ζ 7 0)), .int (zI ↑(ζ 8 0)), .int (zI (↑(ζ 9 0) - 1)), .int (zI ↑(ζ 10 0)), .int (zI ↑(ζ 11 0)), .ref (Sf ad b 12), .ref (Sf ad b 13), .ref (Sf ad b 14), .ref (Sf ad b 15), .ref (Sf ad b 16), .ref (Sf ad b 17), .ref (Sf ad b 18), .ref (Sf ad b 19), .ref (Sf ad b 20), .ref (Sf ad b 21), .ref (Sf ad b 22), .ref (Sf ad b 23)]
def SafAt (h : ssH) (ad : Nat → Nat) (b : Nat) (ζ : Nat → Nat → Nat) : Prop := h (ad b) = some (.inr (9, obS ad b ζ)) ∧ h (Sf ad b 12) = some (ar 6 (ζ 12)) ∧ h (Sf ad b 13) = some (ar 6 (ζ 13)) ∧ h (Sf ad b 14) = some (ar 6 (ζ 14)) ∧ h (Sf ad b 15) = some (ar 6 (ζ 15)) ∧ h (Sf ad b 16) = some (ar 6 (ζ 16)) ∧ h (Sf ad b 17) = some (ar 5 (ζ 17)) ∧ h (Sf ad b 18) = some (ar 5 (ζ 18)) ∧ h (Sf ad b 19) = some (ar 5 (ζ 19)) ∧ h (Sf ad b 20) = some (ar 5 (ζ 20))
def MX (h : ssH) (ad : Nat → Nat) (rv : Value) (m : Nat → Int) (ζ : Nat → Nat → Nat) (X : Nat → Nat) : Prop := h (ad 200) = some (.inr (10, obM ad (.ref (ad 210)) rv m)) ∧ SafAt h ad 210 ζ ∧ h (ad 203) = some (ar 26 X)
def SaOk (ζ : Nat → Nat → Nat) : Prop := ζ 0 0 ≤ 6 ∧ ζ 1 0 ≤ 9 ∧ ζ 2 0 ≤ 100 ∧ ζ 3 0 ≤ 9 ∧ ζ 4 0 ≤ 6 ∧ ζ 5 0 ≤ 6 ∧ ζ 6 0 ≤ 5 ∧ ζ 9 0 ≤ ζ 5 0 ∧ (∀ k, ζ 12 k ≤ 9) ∧ (∀ k, ζ 13 k ≤ 2) ∧ (∀ k, ζ 14 k < 6) ∧ (∀ k, ζ 15 k ≤ 99) ∧ (∀ k, ζ 16 k ≤ 9) ∧ (∀ k, ζ 17 k ≤ 40) ∧ (∀ k, ζ 18 k < 64) ∧ (∀ k, ζ 19 k < 32) ∧ (∀ k, ζ 20 k ≤ 2)
def XOk (X : Nat → Nat) : Prop := (∀ k, k < 6 → X k < 6) ∧ (∀ k, k < 6 → X (6 + k) ≤ 2) ∧ (∀ k, k < 6 → X (12 + k) ≤ 99) ∧ (∀ k, k < 5 → X (18 + k) < 64) ∧ X 24 ≤ 9 ∧ X 25 ≤ 65536 ∧ (∀ k, 26 ≤ k → X k = 0)
theorem SafAt.fr {h : ssH} {ad : Nat → Nat} {b k : Nat} {ζ : Nat → Nat → Nat} {e : ssE} (hA : ∀ k l, ad k = ad l → k = l) (hs : SafAt h ad b ζ) (hk : k < b ∨ b + 10 ≤ k) : SafAt (hset h (ad k) e) ad b ζ := by
  obtain ⟨h0, h1, h2, h3, h4, h5, h6, h7, h8, h9⟩ := hs
  exact ⟨(hset_ne h e (ad_ne hA (by omega))).trans h0, (hset_ne h e (ad_ne hA (by omega))).trans h1, (hset_ne h e (ad_ne hA (by omega))).trans h2, (hset_ne h e (ad_ne hA (by omega))).trans h3, (hset_ne h e (ad_ne hA (by omega))).trans h4, (hset_ne h e (ad_ne hA (by omega))).trans h5, (hset_ne h e (ad_ne hA (by omega))).trans h6, (hset_ne h e (ad_ne hA (by omega))).trans h7, (hset_ne h e (ad_ne hA (by omega))).trans h8, (hset_ne h e (ad_ne hA (by omega))).trans h9⟩
theorem MX.x {h : ssH} {ad : Nat → Nat} {rv : Value} {m : Nat → Int} {ζ : Nat → Nat → Nat} {X : Nat → Nat} (hA : ∀ k l, ad k = ad l → k = l) (hm : MX h ad rv m ζ X) (Y : Nat → Nat) : MX (hset h (ad 203) (ar 26 Y)) ad rv m ζ Y :=
  ⟨(hset_ne _ _ (ad_ne hA (by decide))).trans hm.1, hm.2.1.fr hA (by omega), hset_self _ _ _⟩
theorem popN_pred (r : Nat) (h : r < 64) (h0 : 0 < r) : popN (r &&& (r - 1)) + 1 = popN r ∧ r &&& (r - 1) < 64 := by
  have : ∀ k : Fin 64, 0 < k.val → popN (k.val &&& (k.val - 1)) + 1 = popN k.val ∧ k.val &&& (k.val - 1) < 64 := by decide +kernel
  exact this ⟨r, h⟩ h0
theorem hx26 {h : ssH} {a : Nat} (V X : Nat → Nat) (e : ∀ k, 26 ≤ k → V k = X k) : hset h a (ar 26 V) = hset h a (ar 26 (fun k => if k < 26 then V k else X k)) := by
  congr 2
  funext k
  by_cases hk : k < 26
  · simp [hk]
  · simp [hk, e k (by omega)]
set_option maxRecDepth 100000 in
set_option maxHeartbeats 400000 in
theorem q_in (G : ssG) (h : ssH) (x y z : Int) (hx : -2147483648 ≤ x ∧ x < 2147483648) (hy : -2147483648 ≤ y ∧ y < 2147483648) (hz : -2147483648 ≤ z ∧ z < 2147483648) : ssC G mX10_in 0 0 0 [.int (zI x), .int (zI y), .int (zI z)] h (rI (zb (decide (y ≤ x ∧ x ≤ z))) h) := by
  refine c_of_v okX10_in (by decide +kernel) (ls := [some (.int (zI x)), some (.int (zI y)), some (.int (zI z))]) rfl (Nat.le_of_ble_eq_true rfl) ?_
  refine v_run 2 (pc' := 2) (ls' := [some (.int (zI x)), some (.int (zI y)), some (.int (zI z))]) (st' := [.int (zI y), .int (zI x)]) rfl ?_
  refine v_icmp_lt rfl (fun c2 => ?_) (fun c2 => ?_)
  · simp (disch := omega) only [zI_lt, zI_le, zI_eq, zI_lt0, zI_le0, zI_0lt, zI_0le, zI_eq0] at c2
    refine v_run 1 (pc' := 15) (ls' := [some (.int (zI x)), some (.int (zI y)), some (.int (zI z))]) (st' := [.int (zI 0)]) rfl ?_
    exact v_iret rfl rfl rfl ⟨by rw [zb, if_neg (by simp; omega)], rfl⟩
  · simp (disch := omega) only [zI_lt, zI_le, zI_eq, zI_lt0, zI_le0, zI_0lt, zI_0le, zI_eq0] at c2
    refine v_run 2 (pc' := 7) (ls' := [some (.int (zI x)), some (.int (zI y)), some (.int (zI z))]) (st' := [.int (zI z), .int (zI x)]) rfl ?_
    refine v_icmp_gt rfl (fun c7 => ?_) (fun c7 => ?_)
    · simp (disch := omega) only [zI_lt, zI_le, zI_eq, zI_lt0, zI_le0, zI_0lt, zI_0le, zI_eq0] at c7
      refine v_run 1 (pc' := 15) (ls' := [some (.int (zI x)), some (.int (zI y)), some (.int (zI z))]) (st' := [.int (zI 0)]) rfl ?_
      exact v_iret rfl rfl rfl ⟨by rw [zb, if_neg (by simp; omega)], rfl⟩
    · simp (disch := omega) only [zI_lt, zI_le, zI_eq, zI_lt0, zI_le0, zI_0lt, zI_0le, zI_eq0] at c7
      refine v_run 2 (pc' := 15) (ls' := [some (.int (zI x)), some (.int (zI y)), some (.int (zI z))]) (st' := [.int (zI 1)]) rfl ?_
      exact v_iret rfl rfl rfl ⟨by rw [zb, if_pos (by simp; omega)], rfl⟩

set_option maxRecDepth 100000 in
set_option maxHeartbeats 400000 in
theorem q_bit (G : ssG) (h : ssH) (m k : Nat) (hm : m < 2147483648) (hk : k < 32) : ssC G mX10_bit 0 0 0 [.int (zI ↑m), .int (zI ↑k)] h (rI (zb (bitN m k)) h) := by
  refine c_of_v okX10_bit (by decide +kernel) (ls := [some (.int (zI ↑m)), some (.int (zI ↑k))]) rfl (Nat.le_of_ble_eq_true rfl) ?_
  refine v_run 5 (pc' := 5) (ls' := [some (.int (zI ↑m)), some (.int (zI ↑k))]) (st' := [.int (((zI ↑m) >>> ((zI ↑k) &&& 31)) &&& (zI 1))]) rfl ?_
  rw [show (((zI ↑m) >>> ((zI ↑k) &&& 31)) &&& (zI 1) : Int32) = zI ↑(m / 2 ^ k % 2) from zI_bit (by omega) (by omega)]
  have q1 := bitN_le m k
  refine v_run 1 (pc' := 6) (ls' := [some (.int (zI ↑m)), some (.int (zI ↑k))]) (st' := [.int (zI 1), .int (zI ↑(m / 2 ^ k % 2))]) rfl ?_
  refine v_icmp_ne rfl (fun c6 => ?_) (fun c6 => ?_)
  · simp (disch := omega) only [zI_lt, zI_le, zI_eq, zI_lt0, zI_le0, zI_0lt, zI_0le, zI_eq0] at c6
    refine v_run 1 (pc' := 14) (ls' := [some (.int (zI ↑m)), some (.int (zI ↑k))]) (st' := [.int (zI 0)]) rfl ?_
    exact v_iret rfl rfl rfl ⟨by rw [zb, if_neg (by simp [bitN]; omega)], rfl⟩
  · simp (disch := omega) only [zI_lt, zI_le, zI_eq, zI_lt0, zI_le0, zI_0lt, zI_0le, zI_eq0] at c6
    refine v_run 2 (pc' := 14) (ls' := [some (.int (zI ↑m)), some (.int (zI ↑k))]) (st' := [.int (zI 1)]) rfl ?_
    exact v_iret rfl rfl rfl ⟨by rw [zb, if_pos (by simp [bitN]; omega)], rfl⟩

set_option maxRecDepth 100000 in
set_option maxHeartbeats 400000 in
theorem q_bits (G : ssG) (h : ssH) (m : Nat) (hm : m < 64) : ssC G mX10_bits 0 0 0 [.int (zI ↑m)] h (rI (zI ↑(popN m)) h) := by
  refine c_of_v okX10_bits (by decide +kernel) (ls := [some (.int (zI ↑m)), none, none]) rfl (Nat.le_of_ble_eq_true rfl) ?_
  refine v_run 4 (pc' := 4) (ls' := [some (.int (zI ↑m)), some (.int (zI 0)), some (.int (zI ↑m))]) (st' := []) rfl ?_
  have qm := popN_le m
  refine v_drop 0 rfl ?_
  have lp : ∀ (n s r : Nat), (r < 64 ∧ s + popN r = popN m) → 64 + 1 ≤ s + n → ssV G mX10_bits 0 0 0 (rI (zI ↑(popN m)) h) 4 [none, some (.int (zI ↑s)), some (.int (zI ↑r))] [] h := by
    intro n
    induction n with
    | zero => intro s r hs1 hs2; exact absurd hs2 (by omega)
    | succ n ih =>
      intro s r hs1 hs2
      have q0 := popN_le r
      refine v_run 1 (pc' := 5) (ls' := [none, some (.int (zI ↑s)), some (.int (zI ↑r))]) (st' := [.int (zI ↑r)]) rfl ?_
      refine v_if_eq rfl (fun c5 => ?_) (fun c5 => ?_)
      · simp (disch := omega) only [zI_lt, zI_le, zI_eq, zI_lt0, zI_le0, zI_0lt, zI_0le, zI_eq0] at c5
        have e0 : r = 0 := by omega
        rw [e0, show popN 0 = 0 from by decide] at hs1
        refine v_run 1 (pc' := 21) (ls' := [none, some (.int (zI ↑s)), some (.int (zI ↑r))]) (st' := [.int (zI ↑s)]) rfl ?_
        exact v_iret rfl rfl rfl ⟨by rw [← hs1.2]; rfl, rfl⟩
      · simp (disch := omega) only [zI_lt, zI_le, zI_eq, zI_lt0, zI_le0, zI_0lt, zI_0le, zI_eq0] at c5
        have q1 := popN_pred r hs1.1 (by omega)
        refine v_run 8 (pc' := 4) (ls' := [none, some (.int ((zI ↑s) + zI 1)), some (.int ((zI ↑r) &&& ((zI ↑r) - (zI 1))))]) (st' := []) rfl ?_
        rw [zI_s1, show (zI ↑r) - (zI 1) = zI ↑(r - 1) from (zN_sub (a := r) (b := 1) (by omega)), zI_land (by omega) (by omega)]
        exact ih (s + 1) (r &&& (r - 1)) (by omega) (by omega)
  exact lp 65 0 m (by omega) (by omega)

set_option maxRecDepth 100000 in
set_option maxHeartbeats 400000 in
theorem q_works (G : ssG) (h : ssH) {ad : Nat → Nat} {rv : Value} {m : Nat → Int} {ζ : Nat → Nat → Nat} {X : Nat → Nat} {V : Nat → Nat} (hA : ∀ k l, ad k = ad l → k = l) (hm : MX h ad rv m ζ X) (hz : SaOk ζ) (hx : XOk X) (hv : h (ad 202) = some (ar 26 V)) (hV : XOk V) : ssC G mX10_works 0 0 0 [.ref (ad 200)] h (rV (hset h (ad 203) (ar 26 (V)))) := by
  refine c_of_v okX10_works (by decide +kernel) (ls := [some (.ref (ad 200)), none]) rfl (Nat.le_of_ble_eq_true rfl) ?_
  obtain ⟨z0, z1, z2, z3, z4, z5, z6, z9, z12, z13, z14, z15, z16, z17, z18, z19, z20⟩ := id hz
  obtain ⟨x0, x6, x12, x18, x24, x25, x26⟩ := id hx
  refine v_run 2 (pc' := 2) (ls' := [some (.ref (ad 200)), some (.int (zI 0))]) (st' := []) rfl ?_
  have e0 : hset h (ad 203) (ar 26 (fun k => if k < 0 then V k else X k)) = h := by rw [show (fun k => if k < 0 then V k else X k) = X from by funext t; simp]; exact hset_same h hm.2.2
  skip
  have lp : ∀ (n s : Nat), s ≤ 26 → 26 + 1 ≤ s + n → ssV G mX10_works 0 0 0 (rV (hset h (ad 203) (ar 26 (V)))) 2 [some (.ref (ad 200)), some (.int (zI ↑s))] [] (hset h (ad 203) (ar 26 (fun k => if k < s then V k else X k))) := by
    intro n
    induction n with
    | zero => intro s hs1 hs2; exact absurd hs2 (by omega)
    | succ n ih =>
      intro s hs1 hs2
      refine v_run 2 (pc' := 5) (ls' := [some (.ref (ad 200)), some (.int (zI ↑s))]) (st' := [.int (zI 26), .int (zI ↑s)]) rfl ?_
      refine v_icmp_ge rfl (fun c5 => ?_) (fun c5 => ?_)
      · simp (disch := omega) only [zI_lt, zI_le, zI_eq, zI_lt0, zI_le0, zI_0lt, zI_0le, zI_eq0] at c5
        exact v_vret rfl rfl ⟨rfl, by rw [show s = 26 by omega]; exact hx26 V X (fun k hk => (hV.2.2.2.2.2.2 k hk).trans (x26 k hk).symm)⟩
      · simp (disch := omega) only [zI_lt, zI_le, zI_eq, zI_lt0, zI_le0, zI_0lt, zI_0le, zI_eq0] at c5
        refine v_run 1 (pc' := 9) (ls' := [some (.ref (ad 200)), some (.int (zI ↑s))]) (st' := [.ref (ad 200)]) rfl ?_
        refine v_get rfl ((hset_ne _ _ (ad_ne hA (by decide))).trans hm.1) rfl ?_
        refine v_run 2 (pc' := 14) (ls' := [some (.ref (ad 200)), some (.int (zI ↑s))]) (st' := [.ref (ad 200), .int (zI ↑s), .ref (ad 203)]) rfl ?_
        refine v_get rfl ((hset_ne _ _ (ad_ne hA (by decide))).trans hm.1) rfl ?_
        refine v_run 1 (pc' := 18) (ls' := [some (.ref (ad 200)), some (.int (zI ↑s))]) (st' := [.int (zI ↑s), .ref (ad 202), .int (zI ↑s), .ref (ad 203)]) rfl ?_
        refine v_iaload' rfl ((hset_ne _ _ (ad_ne hA (by decide))).trans hv) (i := s) rfl (by omega) ?_
        refine v_run 0 (pc' := 19) (ls' := [some (.ref (ad 200)), some (.int (zI ↑s))]) (st' := [.int (zI ↑(V s)), .int (zI ↑s), .ref (ad 203)]) rfl ?_
        refine v_iastore' rfl (hset_self _ _ _) (i := s) rfl (by omega) ?_
        rw [ar_upd, hset_hset, show (fun j => if j = s then V s else (fun k => if k < s then V k else X k) j) = (fun k => if k < s + 1 then V k else X k) from fill_step s]
        refine v_run 2 (pc' := 2) (ls' := [some (.ref (ad 200)), some (.int ((zI ↑s) + zI 1))]) (st' := []) rfl ?_
        rw [zI_s1]
        exact ih (s + 1) (by omega) (by omega)
  have lq := lp 27 0 (by omega) (by omega)
  rw [e0] at lq
  exact lq

