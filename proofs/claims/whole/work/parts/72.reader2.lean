theorem updL_self {V : Nat → Int64} {i : Nat} : vp_updL V i (V i) = V := by funext j; simp only [vp_updL]; split <;> simp_all
theorem upK_self {K : Nat → Nat} {i : Nat} (h : K i = 0) : (fun j => if j = i then 0 else K j) = K := by funext j; by_cases e : j = i <;> simp [e, h]
/-- a word of more than 8 letters is no keyword -/
theorem long_key {T : Nat → Int} {a m : Nat} (hT : ∀ j, j < m → lB (T (a + j)) = true) (hm : 8 < m) : keyOf (pkF (wF T a) 32 m) = 0 := by
  rcases Nat.eq_zero_or_pos (keyOf (pkF (wF T a) 32 m)) with h | h
  · exact h
  · have h2 := keyOf_le (pkF (wF T a) 32 m)
    have h3 := (keyOf_iff (w := pkF (wF T a) 32 m) (k := keyOf (pkF (wF T a) 32 m)) h h2).mp rfl
    have h4 := ((kw_word h h2 hT).mp h3).1
    have h5 := (kw_facts ⟨keyOf (pkF (wF T a) 32 m), by omega⟩ h).1
    simp only at h5
    omega
theorem zL_or5 {a y : Nat} (ha : a < 1099511627776) (hy : y < 32) : (zL ↑a <<< ((zI 5).toInt64 &&& 63)) ||| zL ↑y = zL ↑(32 * a + y) := by
  have e5 : ((zI 5).toInt64 &&& 63) = 5 := by decide +kernel
  rw [e5]
  have hz : ∀ b : Nat, b < 18446744073709551616 → (zL ↑b).toBitVec = BitVec.ofNat 64 b := fun b _ => by
    unfold zL
    rw [Int64.toBitVec_ofInt]
    first | exact BitVec.ofInt_natCast 64 b | simp
  have e : (zL ↑a <<< (5 : Int64)) ||| zL ↑y = (zL ↑(32 * a + y) : Int64) := by
    apply Int64.toBitVec_inj.mp
    rw [Int64.toBitVec_or, Int64.toBitVec_shiftLeft, hz a (by omega), hz y (by omega), hz (32 * a + y) (by omega)]
    apply BitVec.eq_of_toNat_eq
    have e6 : ((5 : Int64).toBitVec.smod 64) = 5#64 := by decide
    rw [e6]
    simp only [BitVec.toNat_or, BitVec.shiftLeft_eq', BitVec.toNat_shiftLeft, BitVec.toNat_ofNat]
    rw [Nat.mod_eq_of_lt (a := a) (by omega), Nat.mod_eq_of_lt (a := y) (by omega), Nat.mod_eq_of_lt (a := 32 * a + y) (by omega), show (5 : Nat) % 2 ^ 64 = 5 by decide, Nat.shiftLeft_eq, Nat.mod_eq_of_lt (by omega)]
    have := Nat.shiftLeft_add_eq_or_of_lt (i := 5) (b := y) (by omega) a
    rw [Nat.shiftLeft_eq] at this
    omega
  exact e
set_option maxRecDepth 100000 in
set_option maxHeartbeats 400000 in
theorem r_advance (G : ssG) (h : ssH) {ad : Nat → Nat} {l s t k : Int} {x : Int64} {B : Nat → Int} {S P K : Nat → Nat} {V : Nat → Int64} {nx en : Int} {i : Nat} (hA : ∀ k l, ad k = ad l → k = l) (hr : h (ad 2) = some (.inr (5, obR ad l s t k x nx en (↑i - 1)))) (ha : RdA h ad B S P K V) (hi : i ≤ 900) : ssC G mX5_advance 0 0 0 [.ref (ad 2)] h (rV (hset h (ad 2) (.inr (5, obR ad l (↑(S i)) (↑(P i)) (↑(K i)) (V i) nx en ↑i)))) := by
  refine c_of_v okX5_advance (by decide +kernel) (ls := [some (.ref (ad 2))]) rfl (Nat.le_of_ble_eq_true rfl) ?_
  refine v_run 1 (pc' := 1) (ls' := [some (.ref (ad 2))]) (st' := [.ref (ad 2)]) rfl ?_
  refine v_get rfl hr rfl ?_
  refine v_run 1 (pc' := 7) (ls' := [some (.ref (ad 2))]) (st' := [.int (zI 900), .int (zI (↑i - 1))]) rfl ?_
  refine v_icmp_ge rfl (fun c7 => ?_) (fun c7 => ?_)
  · exfalso; revert c7; simp (disch := omega) only [zI_lt, zI_le, zI_eq, zI_lt0, zI_le0, zI_0lt, zI_0le, zI_eq0] <;> omega
  · simp (disch := omega) only [zI_lt, zI_le, zI_eq, zI_lt0, zI_le0, zI_0lt, zI_0le, zI_eq0] at c7
    refine v_run 2 (pc' := 12) (ls' := [some (.ref (ad 2))]) (st' := [.ref (ad 2), .ref (ad 2)]) rfl ?_
    refine v_get rfl hr rfl ?_
    refine v_run 2 (pc' := 17) (ls' := [some (.ref (ad 2))]) (st' := [.int ((zI (↑i - 1)) + (zI 1)), .ref (ad 2)]) rfl ?_
    rw [show ((zI (↑i - 1)) + (zI 1) : Int32) = zI ↑i from by rw [zI_add]; congr 1; omega]
    refine v_put rfl hr rfl rfl (Nat.le_of_ble_eq_true rfl) ?_
    refine v_run 2 (pc' := 22) (ls' := [some (.ref (ad 2))]) (st' := [.ref (ad 2), .ref (ad 2)]) rfl ?_
    refine v_get rfl (hset_self _ _ _) rfl ?_
    refine v_run 1 (pc' := 26) (ls' := [some (.ref (ad 2))]) (st' := [.ref (ad 2), .ref (ad 4), .ref (ad 2)]) rfl ?_
    refine v_get rfl (hset_self _ _ _) rfl ?_
    refine v_run 0 (pc' := 29) (ls' := [some (.ref (ad 2))]) (st' := [.int (zI ↑i), .ref (ad 4), .ref (ad 2)]) rfl ?_
    refine v_iaload' rfl ((hset_ne _ _ (ad_ne hA (by decide))).trans ha.2.1) (i := i) rfl (by omega) ?_
    refine v_run 0 (pc' := 30) (ls' := [some (.ref (ad 2))]) (st' := [.int (zI ↑(S i)), .ref (ad 2)]) rfl ?_
    refine v_put rfl (hset_self _ _ _) rfl rfl (Nat.le_of_ble_eq_true rfl) ?_
    rw [hset_hset]
    refine v_run 2 (pc' := 35) (ls' := [some (.ref (ad 2))]) (st' := [.ref (ad 2), .ref (ad 2)]) rfl ?_
    refine v_get rfl (hset_self _ _ _) rfl ?_
    refine v_run 1 (pc' := 39) (ls' := [some (.ref (ad 2))]) (st' := [.ref (ad 2), .ref (ad 5), .ref (ad 2)]) rfl ?_
    refine v_get rfl (hset_self _ _ _) rfl ?_
    refine v_run 0 (pc' := 42) (ls' := [some (.ref (ad 2))]) (st' := [.int (zI ↑i), .ref (ad 5), .ref (ad 2)]) rfl ?_
    refine v_iaload' rfl ((hset_ne _ _ (ad_ne hA (by decide))).trans ha.2.2.1) (i := i) rfl (by omega) ?_
    refine v_run 0 (pc' := 43) (ls' := [some (.ref (ad 2))]) (st' := [.int (zI ↑(P i)), .ref (ad 2)]) rfl ?_
    refine v_put rfl (hset_self _ _ _) rfl rfl (Nat.le_of_ble_eq_true rfl) ?_
    rw [hset_hset]
    refine v_run 2 (pc' := 48) (ls' := [some (.ref (ad 2))]) (st' := [.ref (ad 2), .ref (ad 2)]) rfl ?_
    refine v_get rfl (hset_self _ _ _) rfl ?_
    refine v_run 1 (pc' := 52) (ls' := [some (.ref (ad 2))]) (st' := [.ref (ad 2), .ref (ad 6), .ref (ad 2)]) rfl ?_
    refine v_get rfl (hset_self _ _ _) rfl ?_
    refine v_run 0 (pc' := 55) (ls' := [some (.ref (ad 2))]) (st' := [.int (zI ↑i), .ref (ad 6), .ref (ad 2)]) rfl ?_
    refine v_iaload' rfl ((hset_ne _ _ (ad_ne hA (by decide))).trans ha.2.2.2.1) (i := i) rfl (by omega) ?_
    refine v_run 0 (pc' := 56) (ls' := [some (.ref (ad 2))]) (st' := [.int (zI ↑(K i)), .ref (ad 2)]) rfl ?_
    refine v_put rfl (hset_self _ _ _) rfl rfl (Nat.le_of_ble_eq_true rfl) ?_
    rw [hset_hset]
    refine v_run 2 (pc' := 61) (ls' := [some (.ref (ad 2))]) (st' := [.ref (ad 2), .ref (ad 2)]) rfl ?_
    refine v_get rfl (hset_self _ _ _) rfl ?_
    refine v_run 1 (pc' := 65) (ls' := [some (.ref (ad 2))]) (st' := [.ref (ad 2), .ref (ad 7), .ref (ad 2)]) rfl ?_
    refine v_get rfl (hset_self _ _ _) rfl ?_
    refine v_run 0 (pc' := 68) (ls' := [some (.ref (ad 2))]) (st' := [.int (zI ↑i), .ref (ad 7), .ref (ad 2)]) rfl ?_
    refine v_laload' rfl ((hset_ne _ _ (ad_ne hA (by decide))).trans ha.2.2.2.2) (i := i) rfl (by omega) ?_
    refine v_run 0 (pc' := 69) (ls' := [some (.ref (ad 2))]) (st' := [.long (V i), .ref (ad 2)]) rfl ?_
    refine v_put rfl (hset_self _ _ _) rfl rfl (Nat.le_of_ble_eq_true rfl) ?_
    rw [hset_hset]
    refine v_run 0 (pc' := 72) (ls' := [some (.ref (ad 2))]) (st' := []) rfl ?_
    exact v_vret rfl rfl ⟨rfl, rfl⟩

set_option maxRecDepth 100000 in
set_option maxHeartbeats 400000 in
theorem r_readWord (G : ssG) (h : ssH) {ad : Nat → Nat} {l s t k : Int} {x : Int64} {a : Int} {B : Nat → Int} {S P K : Nat → Nat} {V : Nat → Int64} {p n i : Nat} (hA : ∀ k l, ad k = ad l → k = l) (hr : h (ad 2) = some (.inr (5, obR ad l s t k x ↑p ↑n a))) (ha : RdA h ad B S P K V) (hB : ∀ k, -128 ≤ B k ∧ B k ≤ 127) (hp : p ≤ n) (hn : n ≤ 900) (hi : i ≤ 900) (hK : K i = 0) (hk : h (ad 149) = some (arJ 22 kR)) : ssC G mX5_readWord 1 0 0 [.ref (ad 2), .int (zI ↑i)] h (fun r h' => ∃ y : Int64, (scn B n lB p - p ≤ 8 → y = zL ↑(pkF (wF B p) 32 (scn B n lB p - p))) ∧ r = some (.int (zI (if scn B n lB p - p ≤ 8 then 1 else 4))) ∧ hset (hset (hset h (ad 2) (.inr (5, obR ad l s t k x (↑(scn B n lB p)) ↑n a))) (ad 7) (arJ 901 (vp_updL V i y))) (ad 6) (ar 901 (fun j => if j = i then keyOf (pkF (wF B p) 32 (scn B n lB p - p)) else K j)) = h') := by
  refine c_of_v okX5_readWord (by decide +kernel) (ls := [some (.ref (ad 2)), some (.int (zI ↑i)), none, none, none]) rfl (Nat.le_of_ble_eq_true rfl) ?_
  refine v_run 1 (pc' := 1) (ls' := [some (.ref (ad 2)), some (.int (zI ↑i)), none, none, none]) (st' := [.ref (ad 2)]) rfl ?_
  refine v_get rfl hr rfl ?_
  refine v_run 3 (pc' := 7) (ls' := [some (.ref (ad 2)), some (.int (zI ↑i)), some (.int (zI ↑p)), some (.long (zL 0)), none]) (st' := []) rfl ?_
  have e0 : hset h (ad 2) (.inr (5, obR ad l s t k x (↑(p + 0)) ↑n a)) = h := hset_same h hr
  have lp : ∀ (f : Nat) (m : Nat) (y : Int64), (p + m ≤ n ∧ scn B n lB p = scn B n lB (p + m) ∧ (m ≤ 8 → y = zL ↑(pkF (wF B p) 32 m)) ∧ ∀ j, j < m → lB (B (p + j)) = true) → n + 1 ≤ p + m + f → ssV G mX5_readWord 1 0 0 (fun r h' => ∃ y : Int64, (scn B n lB p - p ≤ 8 → y = zL ↑(pkF (wF B p) 32 (scn B n lB p - p))) ∧ r = some (.int (zI (if scn B n lB p - p ≤ 8 then 1 else 4))) ∧ hset (hset (hset h (ad 2) (.inr (5, obR ad l s t k x (↑(scn B n lB p)) ↑n a))) (ad 7) (arJ 901 (vp_updL V i y))) (ad 6) (ar 901 (fun j => if j = i then keyOf (pkF (wF B p) 32 (scn B n lB p - p)) else K j)) = h') 7 [some (.ref (ad 2)), some (.int (zI ↑i)), some (.int (zI ↑p)), some (.long (y)), none] [] (hset h (ad 2) (.inr (5, obR ad l s t k x (↑(p + m)) ↑n a))) := by
    intro f
    induction f with
    | zero => intro m y hs1 hs2; obtain ⟨q1, q2, q3, q4⟩ := hs1; exact absurd hs2 (by omega)
    | succ f ihlp =>
      intro m y hs1 hs2
      obtain ⟨q1, q2, q3, q4⟩ := hs1
      refine v_run 1 (pc' := 8) (ls' := [some (.ref (ad 2)), some (.int (zI ↑i)), some (.int (zI ↑p)), some (.long (y)), none]) (st' := [.ref (ad 2)]) rfl ?_
      refine v_get rfl (hset_self _ _ _) rfl ?_
      refine v_run 1 (pc' := 12) (ls' := [some (.ref (ad 2)), some (.int (zI ↑i)), some (.int (zI ↑p)), some (.long (y)), none]) (st' := [.ref (ad 2), .int (zI ↑(p + m))]) rfl ?_
      refine v_get rfl (hset_self _ _ _) rfl ?_
      refine v_run 0 (pc' := 15) (ls' := [some (.ref (ad 2)), some (.int (zI ↑i)), some (.int (zI ↑p)), some (.long (y)), none]) (st' := [.int (zI ↑n), .int (zI ↑(p + m))]) rfl ?_
      refine v_icmp_ge rfl (fun c15 => ?_) (fun c15 => ?_)
      · simp (disch := omega) only [zI_lt, zI_le, zI_eq, zI_lt0, zI_le0, zI_0lt, zI_0le, zI_eq0] at c15
        have e1 : scn B n lB p = p + m := by rw [q2]; exact scn_stop (by omega)
        refine v_run 1 (pc' := 61) (ls' := [some (.ref (ad 2)), some (.int (zI ↑i)), some (.int (zI ↑p)), some (.long (y)), none]) (st' := [.ref (ad 2)]) rfl ?_
        refine v_get rfl (hset_self _ _ _) rfl ?_
        refine v_run 2 (pc' := 66) (ls' := [some (.ref (ad 2)), some (.int (zI ↑i)), some (.int (zI ↑p)), some (.long (y)), none]) (st' := [.int ((zI ↑(p + m)) - (zI ↑p))]) rfl ?_
        rw [show ((zI ↑(p + m)) - (zI ↑p) : Int32) = zI ↑m from by rw [zI_sub]; congr 1; omega]
        refine v_run 1 (pc' := 68) (ls' := [some (.ref (ad 2)), some (.int (zI ↑i)), some (.int (zI ↑p)), some (.long (y)), none]) (st' := [.int (zI 8), .int (zI ↑m)]) rfl ?_
        refine v_icmp_le rfl (fun c68 => ?_) (fun c68 => ?_)
        · simp (disch := omega) only [zI_lt, zI_le, zI_eq, zI_lt0, zI_le0, zI_0lt, zI_0le, zI_eq0] at c68
          have hy := q3 (by omega)
          have hw := wF_lt (T := B) (a := p) (m := m) q4 (by omega)
          subst hy
          refine v_run 1 (pc' := 74) (ls' := [some (.ref (ad 2)), some (.int (zI ↑i)), some (.int (zI ↑p)), some (.long (zL ↑(pkF (wF B p) 32 m))), none]) (st' := [.ref (ad 2)]) rfl ?_
          refine v_get rfl (hset_self _ _ _) rfl ?_
          refine v_run 2 (pc' := 79) (ls' := [some (.ref (ad 2)), some (.int (zI ↑i)), some (.int (zI ↑p)), some (.long (zL ↑(pkF (wF B p) 32 m))), none]) (st' := [.long (zL ↑(pkF (wF B p) 32 m)), .int (zI ↑i), .ref (ad 7)]) rfl ?_
          refine v_lastore' rfl ((hset_ne _ _ (ad_ne hA (by decide))).trans ha.2.2.2.2) (i := i) rfl (by omega) ?_
          refine v_run 1 (pc' := 81) (ls' := [some (.ref (ad 2)), some (.int (zI ↑i)), some (.int (zI ↑p)), some (.long (zL ↑(pkF (wF B p) 32 m))), none]) (st' := [.ref (ad 2)]) rfl ?_
          refine v_get rfl ((hset_ne _ _ (ad_ne hA (by decide))).trans (hset_self _ _ _)) rfl ?_
          refine v_run 3 (pc' := 87) (ls' := [some (.ref (ad 2)), some (.int (zI ↑i)), some (.int (zI ↑p)), some (.long (zL ↑(pkF (wF B p) 32 m))), none]) (st' := [.long (zL ↑(pkF (wF B p) 32 m)), .ref (ad 2), .int (zI ↑i), .ref (ad 6)]) rfl ?_
          refine v_callV (My := mX5_keyOf) (As := [.long (zL ↑(pkF (wF B p) 32 m))]) (rest := [.int (zI ↑i), .ref (ad 6)]) (mc := 0) (ms := 0) rfl caX5_keyOf rfl rfl rfl ((hset_ne _ _ (ad_ne hA (by decide))).trans (hset_self _ _ _)) rfl rfl (r_keyOf G _ (B := B) (S := S) (P := P) (K := K) (V := vp_updL V i (zL ↑(pkF (wF B p) 32 m))) (nx := ↑(p + m)) (en := ↑n) (w := pkF (wF B p) 32 m) ((hset_ne _ _ (ad_ne hA (by decide))).trans (hset_self _ _ _)) ⟨((hset_ne _ _ (ad_ne hA (by decide))).trans ((hset_ne _ _ (ad_ne hA (by decide))).trans ha.1)), ((hset_ne _ _ (ad_ne hA (by decide))).trans ((hset_ne _ _ (ad_ne hA (by decide))).trans ha.2.1)), ((hset_ne _ _ (ad_ne hA (by decide))).trans ((hset_ne _ _ (ad_ne hA (by decide))).trans ha.2.2.1)), ((hset_ne _ _ (ad_ne hA (by decide))).trans ((hset_ne _ _ (ad_ne hA (by decide))).trans ha.2.2.2.1)), hset_self _ _ _⟩ ((hset_ne _ _ (ad_ne hA (by decide))).trans ((hset_ne _ _ (ad_ne hA (by decide))).trans hk)) hw) rfl rfl (Nat.le_of_ble_eq_true rfl) (by omega) ?_
          rintro _ _ ⟨rfl, rfl⟩
          refine v_run 0 (pc' := 90) (ls' := [some (.ref (ad 2)), some (.int (zI ↑i)), some (.int (zI ↑p)), some (.long (zL ↑(pkF (wF B p) 32 m))), none]) (st' := [.int (zI ↑(keyOf (pkF (wF B p) 32 m))), .int (zI ↑i), .ref (ad 6)]) rfl ?_
          refine v_iastore' rfl ((hset_ne _ _ (ad_ne hA (by decide))).trans ((hset_ne _ _ (ad_ne hA (by decide))).trans ha.2.2.2.1)) (i := i) rfl (by omega) ?_
          rw [ar_upd]
          refine v_run 1 (pc' := 92) (ls' := [some (.ref (ad 2)), some (.int (zI ↑i)), some (.int (zI ↑p)), some (.long (zL ↑(pkF (wF B p) 32 m))), none]) (st' := [.int (zI 1)]) rfl ?_
          exact v_iret rfl rfl rfl ⟨zL ↑(pkF (wF B p) 32 m), by rw [e1, show p + m - p = m by omega]; exact fun _ => rfl, by rw [e1, show p + m - p = m by omega, if_pos (by omega)], by rw [e1, show p + m - p = m by omega]⟩
        · simp (disch := omega) only [zI_lt, zI_le, zI_eq, zI_lt0, zI_le0, zI_0lt, zI_0le, zI_eq0] at c68
          refine v_run 1 (pc' := 72) (ls' := [some (.ref (ad 2)), some (.int (zI ↑i)), some (.int (zI ↑p)), some (.long (y)), none]) (st' := [.int (zI 4)]) rfl ?_
          exact v_iret rfl rfl rfl ⟨V i, by rw [e1, show p + m - p = m by omega]; exact fun z => absurd z (by omega), by rw [e1, show p + m - p = m by omega, if_neg (by omega)], by rw [e1, show p + m - p = m by omega, long_key q4 (by omega), updL_self, upK_self hK, hset_same (hset h (ad 2) (.inr (5, obR ad l s t k x (↑(p + m)) ↑n a))) ((hset_ne _ _ (ad_ne hA (by decide))).trans ha.2.2.2.2), hset_same (hset h (ad 2) (.inr (5, obR ad l s t k x (↑(p + m)) ↑n a))) ((hset_ne _ _ (ad_ne hA (by decide))).trans ha.2.2.2.1)]⟩
      · simp (disch := omega) only [zI_lt, zI_le, zI_eq, zI_lt0, zI_le0, zI_0lt, zI_0le, zI_eq0] at c15
        refine v_run 1 (pc' := 19) (ls' := [some (.ref (ad 2)), some (.int (zI ↑i)), some (.int (zI ↑p)), some (.long (y)), none]) (st' := [.ref (ad 2)]) rfl ?_
        refine v_get rfl (hset_self _ _ _) rfl ?_
        refine v_run 1 (pc' := 23) (ls' := [some (.ref (ad 2)), some (.int (zI ↑i)), some (.int (zI ↑p)), some (.long (y)), none]) (st' := [.ref (ad 2), .ref (ad 3)]) rfl ?_
        refine v_get rfl (hset_self _ _ _) rfl ?_
        refine v_run 0 (pc' := 26) (ls' := [some (.ref (ad 2)), some (.int (zI ↑i)), some (.int (zI ↑p)), some (.long (y)), none]) (st' := [.int (zI ↑(p + m)), .ref (ad 3)]) rfl ?_
        refine v_baload' rfl ((hset_ne _ _ (ad_ne hA (by decide))).trans ha.1) (i := (p + m)) rfl (by omega) ?_
        refine v_run 0 (pc' := 27) (ls' := [some (.ref (ad 2)), some (.int (zI ↑i)), some (.int (zI ↑p)), some (.long (y)), none]) (st' := [.int (zI (B (p + m)))]) rfl ?_
        refine v_callS (My := mX5_isLetter) (As := [.int (zI (B (p + m)))]) (rest := []) (mc := 0) (ms := 0) rfl caX5_isLetter rfl rfl (r_isLetter G _ (B (p + m)) (by have := hB (p + m); omega)) rfl rfl (Nat.le_of_ble_eq_true rfl) (by omega) ?_
        rintro _ _ ⟨rfl, rfl⟩
        refine v_run 0 (pc' := 30) (ls' := [some (.ref (ad 2)), some (.int (zI ↑i)), some (.int (zI ↑p)), some (.long (y)), none]) (st' := [.int (zb (lB (B (p + m))))]) rfl ?_
        refine v_if_eq rfl (fun c30 => ?_) (fun c30 => ?_)
        · rw [zb_n] at c30
          have e1 : scn B n lB p = p + m := by rw [q2]; exact scn_end (by omega) c30
          refine v_run 1 (pc' := 61) (ls' := [some (.ref (ad 2)), some (.int (zI ↑i)), some (.int (zI ↑p)), some (.long (y)), none]) (st' := [.ref (ad 2)]) rfl ?_
          refine v_get rfl (hset_self _ _ _) rfl ?_
          refine v_run 2 (pc' := 66) (ls' := [some (.ref (ad 2)), some (.int (zI ↑i)), some (.int (zI ↑p)), some (.long (y)), none]) (st' := [.int ((zI ↑(p + m)) - (zI ↑p))]) rfl ?_
          rw [show ((zI ↑(p + m)) - (zI ↑p) : Int32) = zI ↑m from by rw [zI_sub]; congr 1; omega]
          refine v_run 1 (pc' := 68) (ls' := [some (.ref (ad 2)), some (.int (zI ↑i)), some (.int (zI ↑p)), some (.long (y)), none]) (st' := [.int (zI 8), .int (zI ↑m)]) rfl ?_
          refine v_icmp_le rfl (fun c68 => ?_) (fun c68 => ?_)
          · simp (disch := omega) only [zI_lt, zI_le, zI_eq, zI_lt0, zI_le0, zI_0lt, zI_0le, zI_eq0] at c68
            have hy := q3 (by omega)
            have hw := wF_lt (T := B) (a := p) (m := m) q4 (by omega)
            subst hy
            refine v_run 1 (pc' := 74) (ls' := [some (.ref (ad 2)), some (.int (zI ↑i)), some (.int (zI ↑p)), some (.long (zL ↑(pkF (wF B p) 32 m))), none]) (st' := [.ref (ad 2)]) rfl ?_
            refine v_get rfl (hset_self _ _ _) rfl ?_
            refine v_run 2 (pc' := 79) (ls' := [some (.ref (ad 2)), some (.int (zI ↑i)), some (.int (zI ↑p)), some (.long (zL ↑(pkF (wF B p) 32 m))), none]) (st' := [.long (zL ↑(pkF (wF B p) 32 m)), .int (zI ↑i), .ref (ad 7)]) rfl ?_
            refine v_lastore' rfl ((hset_ne _ _ (ad_ne hA (by decide))).trans ha.2.2.2.2) (i := i) rfl (by omega) ?_
            refine v_run 1 (pc' := 81) (ls' := [some (.ref (ad 2)), some (.int (zI ↑i)), some (.int (zI ↑p)), some (.long (zL ↑(pkF (wF B p) 32 m))), none]) (st' := [.ref (ad 2)]) rfl ?_
            refine v_get rfl ((hset_ne _ _ (ad_ne hA (by decide))).trans (hset_self _ _ _)) rfl ?_
            refine v_run 3 (pc' := 87) (ls' := [some (.ref (ad 2)), some (.int (zI ↑i)), some (.int (zI ↑p)), some (.long (zL ↑(pkF (wF B p) 32 m))), none]) (st' := [.long (zL ↑(pkF (wF B p) 32 m)), .ref (ad 2), .int (zI ↑i), .ref (ad 6)]) rfl ?_
            refine v_callV (My := mX5_keyOf) (As := [.long (zL ↑(pkF (wF B p) 32 m))]) (rest := [.int (zI ↑i), .ref (ad 6)]) (mc := 0) (ms := 0) rfl caX5_keyOf rfl rfl rfl ((hset_ne _ _ (ad_ne hA (by decide))).trans (hset_self _ _ _)) rfl rfl (r_keyOf G _ (B := B) (S := S) (P := P) (K := K) (V := vp_updL V i (zL ↑(pkF (wF B p) 32 m))) (nx := ↑(p + m)) (en := ↑n) (w := pkF (wF B p) 32 m) ((hset_ne _ _ (ad_ne hA (by decide))).trans (hset_self _ _ _)) ⟨((hset_ne _ _ (ad_ne hA (by decide))).trans ((hset_ne _ _ (ad_ne hA (by decide))).trans ha.1)), ((hset_ne _ _ (ad_ne hA (by decide))).trans ((hset_ne _ _ (ad_ne hA (by decide))).trans ha.2.1)), ((hset_ne _ _ (ad_ne hA (by decide))).trans ((hset_ne _ _ (ad_ne hA (by decide))).trans ha.2.2.1)), ((hset_ne _ _ (ad_ne hA (by decide))).trans ((hset_ne _ _ (ad_ne hA (by decide))).trans ha.2.2.2.1)), hset_self _ _ _⟩ ((hset_ne _ _ (ad_ne hA (by decide))).trans ((hset_ne _ _ (ad_ne hA (by decide))).trans hk)) hw) rfl rfl (Nat.le_of_ble_eq_true rfl) (by omega) ?_
            rintro _ _ ⟨rfl, rfl⟩
            refine v_run 0 (pc' := 90) (ls' := [some (.ref (ad 2)), some (.int (zI ↑i)), some (.int (zI ↑p)), some (.long (zL ↑(pkF (wF B p) 32 m))), none]) (st' := [.int (zI ↑(keyOf (pkF (wF B p) 32 m))), .int (zI ↑i), .ref (ad 6)]) rfl ?_
            refine v_iastore' rfl ((hset_ne _ _ (ad_ne hA (by decide))).trans ((hset_ne _ _ (ad_ne hA (by decide))).trans ha.2.2.2.1)) (i := i) rfl (by omega) ?_
            rw [ar_upd]
            refine v_run 1 (pc' := 92) (ls' := [some (.ref (ad 2)), some (.int (zI ↑i)), some (.int (zI ↑p)), some (.long (zL ↑(pkF (wF B p) 32 m))), none]) (st' := [.int (zI 1)]) rfl ?_
            exact v_iret rfl rfl rfl ⟨zL ↑(pkF (wF B p) 32 m), by rw [e1, show p + m - p = m by omega]; exact fun _ => rfl, by rw [e1, show p + m - p = m by omega, if_pos (by omega)], by rw [e1, show p + m - p = m by omega]⟩
          · simp (disch := omega) only [zI_lt, zI_le, zI_eq, zI_lt0, zI_le0, zI_0lt, zI_0le, zI_eq0] at c68
            refine v_run 1 (pc' := 72) (ls' := [some (.ref (ad 2)), some (.int (zI ↑i)), some (.int (zI ↑p)), some (.long (y)), none]) (st' := [.int (zI 4)]) rfl ?_
            exact v_iret rfl rfl rfl ⟨V i, by rw [e1, show p + m - p = m by omega]; exact fun z => absurd z (by omega), by rw [e1, show p + m - p = m by omega, if_neg (by omega)], by rw [e1, show p + m - p = m by omega, long_key q4 (by omega), updL_self, upK_self hK, hset_same (hset h (ad 2) (.inr (5, obR ad l s t k x (↑(p + m)) ↑n a))) ((hset_ne _ _ (ad_ne hA (by decide))).trans ha.2.2.2.2), hset_same (hset h (ad 2) (.inr (5, obR ad l s t k x (↑(p + m)) ↑n a))) ((hset_ne _ _ (ad_ne hA (by decide))).trans ha.2.2.2.1)]⟩
        · rw [zb_n, Bool.not_eq_false] at c30
          have hd : 97 ≤ B (p + m) ∧ B (p + m) ≤ 122 := by have := c30; simpa [lB] using this
          refine v_run 2 (pc' := 35) (ls' := [some (.ref (ad 2)), some (.int (zI ↑i)), some (.int (zI ↑p)), some (.long (y)), none]) (st' := [.ref (ad 2), .long (y)]) rfl ?_
          refine v_get rfl (hset_self _ _ _) rfl ?_
          refine v_run 1 (pc' := 39) (ls' := [some (.ref (ad 2)), some (.int (zI ↑i)), some (.int (zI ↑p)), some (.long (y)), none]) (st' := [.ref (ad 2), .ref (ad 3), .long (y)]) rfl ?_
          refine v_get rfl (hset_self _ _ _) rfl ?_
          refine v_run 0 (pc' := 42) (ls' := [some (.ref (ad 2)), some (.int (zI ↑i)), some (.int (zI ↑p)), some (.long (y)), none]) (st' := [.int (zI ↑(p + m)), .ref (ad 3), .long (y)]) rfl ?_
          refine v_baload' rfl ((hset_ne _ _ (ad_ne hA (by decide))).trans ha.1) (i := (p + m)) rfl (by omega) ?_
          refine v_run 0 (pc' := 43) (ls' := [some (.ref (ad 2)), some (.int (zI ↑i)), some (.int (zI ↑p)), some (.long (y)), none]) (st' := [.int (zI (B (p + m))), .long (y)]) rfl ?_
          refine v_callS (My := mX5_withLetter) (As := [.long (y), .int (zI (B (p + m)))]) (rest := []) (mc := 0) (ms := 0) rfl caX5_withLetter rfl rfl (r_withLetter G _ y (zI (B (p + m)))) rfl rfl (Nat.le_of_ble_eq_true rfl) (by omega) ?_
          rintro _ _ ⟨rfl, rfl⟩
          refine v_run 0 (pc' := 46) (ls' := [some (.ref (ad 2)), some (.int (zI ↑i)), some (.int (zI ↑p)), some (.long (y)), none]) (st' := [.long ((y <<< ((zI 5).toInt64 &&& 63)) ||| ((zI (B (p + m)) - zI 97) + zI 1).toInt64)]) rfl ?_
          refine v_run 3 (pc' := 49) (ls' := [some (.ref (ad 2)), some (.int (zI ↑i)), some (.int (zI ↑p)), some (.long ((y <<< ((zI 5).toInt64 &&& 63)) ||| ((zI (B (p + m)) - zI 97) + zI 1).toInt64)), none]) (st' := [.ref (ad 2), .ref (ad 2)]) rfl ?_
          refine v_get rfl (hset_self _ _ _) rfl ?_
          refine v_run 2 (pc' := 54) (ls' := [some (.ref (ad 2)), some (.int (zI ↑i)), some (.int (zI ↑p)), some (.long ((y <<< ((zI 5).toInt64 &&& 63)) ||| ((zI (B (p + m)) - zI 97) + zI 1).toInt64)), none]) (st' := [.int ((zI ↑(p + m)) + (zI 1)), .ref (ad 2)]) rfl ?_
          rw [show ((zI ↑(p + m)) + (zI 1) : Int32) = zI ↑(p + m + 1) from zI_s1 _]
          refine v_put rfl (hset_self _ _ _) rfl rfl (Nat.le_of_ble_eq_true rfl) ?_
          rw [hset_hset]
          refine v_run 1 (pc' := 7) (ls' := [some (.ref (ad 2)), some (.int (zI ↑i)), some (.int (zI ↑p)), some (.long ((y <<< ((zI 5).toInt64 &&& 63)) ||| ((zI (B (p + m)) - zI 97) + zI 1).toInt64)), none]) (st' := []) rfl ?_
          exact ihlp (m + 1) _ ⟨by omega, by rw [q2]; exact scn_go (by omega) c30, fun h3 => by rw [q3 (by omega), zI_sub, zI_add, show B (p + m) - 97 + 1 = ↑((B (p + m) - 96).toNat) by omega, zI_l (a := ↑((B (p + m) - 96).toNat)) (by omega) (by omega)]; exact zL_or5 (y := (B (p + m) - 96).toNat) (by have := wF_lt (T := B) (a := p) (m := m) q4 (by omega); omega) (by omega), fun j hj => by
            by_cases e : j = m
            · rw [e]; exact c30
            · exact q4 j (by omega)⟩ (by omega)
  have lq := lp (n + 1) 0 (zL 0) ⟨by omega, rfl, fun _ => rfl, fun j hj => absurd hj (by omega)⟩ (by omega)
  rw [e0] at lq
  exact lq

