theorem zL_or5 {a y : Nat} (ha : a < 1099511627776) (hy : y < 32) : (zL ↑a <<< ((zI 5).toInt64 &&& 63)) ||| zL ↑y = zL ↑(32 * a + y) := by
  have e5 : ((zI 5).toInt64 &&& 63) = 5 := by decide +kernel
  rw [e5]
  have hz : ∀ b : Nat, b < 18446744073709551616 → (zL ↑b).toBitVec = BitVec.ofNat 64 b := fun b _ => by
    unfold zL
    rw [Int64.toBitVec_ofInt]
    first | exact BitVec.ofInt_natCast 64 b | simp
  have e : (zL ↑a <<< (5 : Int64)) ||| zL ↑y = (zL ↑(32 * a + y) : Int64) := by
    apply Int64.toBitVec_inj.mp
    rw [Int64.toBitVec_or, Int64.toBitVec_shiftLeft, hz a (by omega), hz y (by omega), hz (32 * a + y) (by omega)]
    apply BitVec.eq_of_toNat_eq
    have e6 : ((5 : Int64).toBitVec.smod 64) = 5#64 := by decide
    rw [e6]
    simp only [BitVec.toNat_or, BitVec.shiftLeft_eq', BitVec.toNat_shiftLeft, BitVec.toNat_ofNat]
    rw [Nat.mod_eq_of_lt (a := a) (by omega), Nat.mod_eq_of_lt (a := y) (by omega), Nat.mod_eq_of_lt (a := 32 * a + y) (by omega), show (5 : Nat) % 2 ^ 64 = 5 by decide, Nat.shiftLeft_eq, Nat.mod_eq_of_lt (by omega)]
    have := Nat.shiftLeft_add_eq_or_of_lt (i := 5) (b := y) (by omega) a
    rw [Nat.shiftLeft_eq] at this
    omega
  exact e
set_option maxRecDepth 100000 in
set_option maxHeartbeats 400000 in
theorem r_advance (G : ssG) (h : ssH) {ad : Nat → Nat} {l s t k : Int} {x : Int64} {B : Nat → Int} {S P K : Nat → Nat} {V : Nat → Int64} {nx en : Int} {i : Nat} (hA : ∀ k l, ad k = ad l → k = l) (hr : h (ad 2) = some (.inr (5, obR ad l s t k x nx en (↑i - 1)))) (ha : RdA h ad B S P K V) (hi : i ≤ 900) : ssC G mX5_advance 0 0 0 [.ref (ad 2)] h (rV (hset h (ad 2) (.inr (5, obR ad l (↑(S i)) (↑(P i)) (↑(K i)) (V i) nx en ↑i)))) := by
  refine c_of_v okX5_advance (by decide +kernel) (ls := [some (.ref (ad 2))]) rfl (Nat.le_of_ble_eq_true rfl) ?_
  refine v_run 1 (pc' := 1) (ls' := [some (.ref (ad 2))]) (st' := [.ref (ad 2)]) rfl ?_
  refine v_get rfl hr rfl ?_
  refine v_run 1 (pc' := 7) (ls' := [some (.ref (ad 2))]) (st' := [.int (zI 900), .int (zI (↑i - 1))]) rfl ?_
  refine v_icmp_ge rfl (fun c7 => ?_) (fun c7 => ?_)
  · exfalso; revert c7; simp (disch := omega) only [zI_lt, zI_le, zI_eq, zI_lt0, zI_le0, zI_0lt, zI_0le, zI_eq0] <;> omega
  · simp (disch := omega) only [zI_lt, zI_le, zI_eq, zI_lt0, zI_le0, zI_0lt, zI_0le, zI_eq0] at c7
    refine v_run 2 (pc' := 12) (ls' := [some (.ref (ad 2))]) (st' := [.ref (ad 2), .ref (ad 2)]) rfl ?_
    refine v_get rfl hr rfl ?_
    refine v_run 2 (pc' := 17) (ls' := [some (.ref (ad 2))]) (st' := [.int ((zI (↑i - 1)) + (zI 1)), .ref (ad 2)]) rfl ?_
    rw [show ((zI (↑i - 1)) + (zI 1) : Int32) = zI ↑i from by rw [zI_add]; congr 1; omega]
    refine v_put rfl hr rfl rfl (Nat.le_of_ble_eq_true rfl) ?_
    refine v_run 2 (pc' := 22) (ls' := [some (.ref (ad 2))]) (st' := [.ref (ad 2), .ref (ad 2)]) rfl ?_
    refine v_get rfl (hset_self _ _ _) rfl ?_
    refine v_run 1 (pc' := 26) (ls' := [some (.ref (ad 2))]) (st' := [.ref (ad 2), .ref (ad 4), .ref (ad 2)]) rfl ?_
    refine v_get rfl (hset_self _ _ _) rfl ?_
    refine v_run 0 (pc' := 29) (ls' := [some (.ref (ad 2))]) (st' := [.int (zI ↑i), .ref (ad 4), .ref (ad 2)]) rfl ?_
    refine v_iaload' rfl ((hset_ne _ _ (ad_ne hA (by decide))).trans ha.2.1) (i := i) rfl (by omega) ?_
    refine v_run 0 (pc' := 30) (ls' := [some (.ref (ad 2))]) (st' := [.int (zI ↑(S i)), .ref (ad 2)]) rfl ?_
    refine v_put rfl (hset_self _ _ _) rfl rfl (Nat.le_of_ble_eq_true rfl) ?_
    rw [hset_hset]
    refine v_run 2 (pc' := 35) (ls' := [some (.ref (ad 2))]) (st' := [.ref (ad 2), .ref (ad 2)]) rfl ?_
    refine v_get rfl (hset_self _ _ _) rfl ?_
    refine v_run 1 (pc' := 39) (ls' := [some (.ref (ad 2))]) (st' := [.ref (ad 2), .ref (ad 5), .ref (ad 2)]) rfl ?_
    refine v_get rfl (hset_self _ _ _) rfl ?_
    refine v_run 0 (pc' := 42) (ls' := [some (.ref (ad 2))]) (st' := [.int (zI ↑i), .ref (ad 5), .ref (ad 2)]) rfl ?_
    refine v_iaload' rfl ((hset_ne _ _ (ad_ne hA (by decide))).trans ha.2.2.1) (i := i) rfl (by omega) ?_
    refine v_run 0 (pc' := 43) (ls' := [some (.ref (ad 2))]) (st' := [.int (zI ↑(P i)), .ref (ad 2)]) rfl ?_
    refine v_put rfl (hset_self _ _ _) rfl rfl (Nat.le_of_ble_eq_true rfl) ?_
    rw [hset_hset]
    refine v_run 2 (pc' := 48) (ls' := [some (.ref (ad 2))]) (st' := [.ref (ad 2), .ref (ad 2)]) rfl ?_
    refine v_get rfl (hset_self _ _ _) rfl ?_
    refine v_run 1 (pc' := 52) (ls' := [some (.ref (ad 2))]) (st' := [.ref (ad 2), .ref (ad 6), .ref (ad 2)]) rfl ?_
    refine v_get rfl (hset_self _ _ _) rfl ?_
    refine v_run 0 (pc' := 55) (ls' := [some (.ref (ad 2))]) (st' := [.int (zI ↑i), .ref (ad 6), .ref (ad 2)]) rfl ?_
    refine v_iaload' rfl ((hset_ne _ _ (ad_ne hA (by decide))).trans ha.2.2.2.1) (i := i) rfl (by omega) ?_
    refine v_run 0 (pc' := 56) (ls' := [some (.ref (ad 2))]) (st' := [.int (zI ↑(K i)), .ref (ad 2)]) rfl ?_
    refine v_put rfl (hset_self _ _ _) rfl rfl (Nat.le_of_ble_eq_true rfl) ?_
    rw [hset_hset]
    refine v_run 2 (pc' := 61) (ls' := [some (.ref (ad 2))]) (st' := [.ref (ad 2), .ref (ad 2)]) rfl ?_
    refine v_get rfl (hset_self _ _ _) rfl ?_
    refine v_run 1 (pc' := 65) (ls' := [some (.ref (ad 2))]) (st' := [.ref (ad 2), .ref (ad 7), .ref (ad 2)]) rfl ?_
    refine v_get rfl (hset_self _ _ _) rfl ?_
    refine v_run 0 (pc' := 68) (ls' := [some (.ref (ad 2))]) (st' := [.int (zI ↑i), .ref (ad 7), .ref (ad 2)]) rfl ?_
    refine v_laload' rfl ((hset_ne _ _ (ad_ne hA (by decide))).trans ha.2.2.2.2) (i := i) rfl (by omega) ?_
    refine v_run 0 (pc' := 69) (ls' := [some (.ref (ad 2))]) (st' := [.long (V i), .ref (ad 2)]) rfl ?_
    refine v_put rfl (hset_self _ _ _) rfl rfl (Nat.le_of_ble_eq_true rfl) ?_
    rw [hset_hset]
    refine v_run 0 (pc' := 72) (ls' := [some (.ref (ad 2))]) (st' := []) rfl ?_
    exact v_vret rfl rfl ⟨rfl, rfl⟩

set_option maxRecDepth 100000 in
set_option maxHeartbeats 400000 in
theorem r_readWord (G : ssG) (h : ssH) {ad : Nat → Nat} {l s t k : Int} {x : Int64} {a : Int} {B : Nat → Int} {S P K : Nat → Nat} {V : Nat → Int64} {p n i : Nat} (hA : ∀ k l, ad k = ad l → k = l) (hr : h (ad 2) = some (.inr (5, obR ad l s t k x ↑p ↑n a))) (ha : RdA h ad B S P K V) (hB : ∀ k, -128 ≤ B k ∧ B k ≤ 127) (hp : p ≤ n) (hn : n ≤ 900) (hi : i ≤ 900) (hK : K i = 0) : ssC G mX5_readWord 5 0 0 [.ref (ad 2), .int (zI ↑i)] h (fun r h' => ∃ y : Int64, (scn B n lB p - p ≤ 8 → y = zL ↑(pkF (wF B p) 32 (scn B n lB p - p))) ∧ r = some (.int (zI (if scn B n lB p - p ≤ 8 then 1 else 4))) ∧ hset (hset (hset h (ad 2) (.inr (5, obR ad l s t k x (↑(scn B n lB p)) ↑n a))) (ad 7) (arJ 901 (vp_updL V i y))) (ad 6) (ar 901 (fun j => if j = i then keyOf (pkF (wF B p) 32 (scn B n lB p - p)) else K j)) = h') := by
  refine c_of_v okX5_readWord (by decide +kernel) (ls := [some (.ref (ad 2)), some (.int (zI ↑i)), none, none, none, none]) rfl (Nat.le_of_ble_eq_true rfl) ?_
  refine v_run 1 (pc' := 1) (ls' := [some (.ref (ad 2)), some (.int (zI ↑i)), none, none, none, none]) (st' := [.ref (ad 2)]) rfl ?_
  refine v_get rfl hr rfl ?_
  refine v_run 3 (pc' := 7) (ls' := [some (.ref (ad 2)), some (.int (zI ↑i)), some (.int (zI ↑p)), some (.long (zL 0)), none, none]) (st' := []) rfl ?_
  have e0 : hset h (ad 2) (.inr (5, obR ad l s t k x (↑(p + 0)) ↑n a)) = h := hset_same h hr
  have lp : ∀ (f : Nat) (m : Nat) (y : Int64), (p + m ≤ n ∧ scn B n lB p = scn B n lB (p + m) ∧ (m ≤ 8 → y = zL ↑(pkF (wF B p) 32 m)) ∧ ∀ j, j < m → lB (B (p + j)) = true) → n + 1 ≤ p + m + f → ssV G mX5_readWord 5 0 0 (fun r h' => ∃ y : Int64, (scn B n lB p - p ≤ 8 → y = zL ↑(pkF (wF B p) 32 (scn B n lB p - p))) ∧ r = some (.int (zI (if scn B n lB p - p ≤ 8 then 1 else 4))) ∧ hset (hset (hset h (ad 2) (.inr (5, obR ad l s t k x (↑(scn B n lB p)) ↑n a))) (ad 7) (arJ 901 (vp_updL V i y))) (ad 6) (ar 901 (fun j => if j = i then keyOf (pkF (wF B p) 32 (scn B n lB p - p)) else K j)) = h') 7 [some (.ref (ad 2)), some (.int (zI ↑i)), some (.int (zI ↑p)), some (.long (y)), none, none] [] (hset h (ad 2) (.inr (5, obR ad l s t k x (↑(p + m)) ↑n a))) := by
    intro f
    induction f with
    | zero => intro m y hs1 hs2; obtain ⟨q1, q2, q3, q4⟩ := hs1; exact absurd hs2 (by omega)
    | succ f ihlp =>
      intro m y hs1 hs2
      obtain ⟨q1, q2, q3, q4⟩ := hs1
      refine v_run 1 (pc' := 8) (ls' := [some (.ref (ad 2)), some (.int (zI ↑i)), some (.int (zI ↑p)), some (.long (y)), none, none]) (st' := [.ref (ad 2)]) rfl ?_
      refine v_get rfl (hset_self _ _ _) rfl ?_
      refine v_run 1 (pc' := 12) (ls' := [some (.ref (ad 2)), some (.int (zI ↑i)), some (.int (zI ↑p)), some (.long (y)), none, none]) (st' := [.ref (ad 2), .int (zI ↑(p + m))]) rfl ?_
      refine v_get rfl (hset_self _ _ _) rfl ?_
      refine v_run 0 (pc' := 15) (ls' := [some (.ref (ad 2)), some (.int (zI ↑i)), some (.int (zI ↑p)), some (.long (y)), none, none]) (st' := [.int (zI ↑n), .int (zI ↑(p + m))]) rfl ?_
      refine v_icmp_ge rfl (fun c15 => ?_) (fun c15 => ?_)
      · simp (disch := omega) only [zI_lt, zI_le, zI_eq, zI_lt0, zI_le0, zI_0lt, zI_0le, zI_eq0] at c15
        have e1 : scn B n lB p = p + m := by rw [q2]; exact scn_stop (by omega)
        refine v_run 1 (pc' := 67) (ls' := [some (.ref (ad 2)), some (.int (zI ↑i)), some (.int (zI ↑p)), some (.long (y)), none, none]) (st' := [.ref (ad 2)]) rfl ?_
        refine v_get rfl (hset_self _ _ _) rfl ?_
        refine v_run 2 (pc' := 72) (ls' := [some (.ref (ad 2)), some (.int (zI ↑i)), some (.int (zI ↑p)), some (.long (y)), none, none]) (st' := [.long (y), .int (zI ↑i), .ref (ad 7)]) rfl ?_
        refine v_lastore' rfl ((hset_ne _ _ (ad_ne hA (by decide))).trans ha.2.2.2.2) (i := i) rfl (by omega) ?_
        refine v_run 2 (pc' := 76) (ls' := [some (.ref (ad 2)), some (.int (zI ↑i)), some (.int (zI ↑p)), some (.long (y)), none, some (.int (zI 1))]) (st' := []) rfl ?_
        refine v_drop 3 rfl ?_
        have e6 : hset (hset (hset h (ad 2) (.inr (5, obR ad l s t k x (↑(p + m)) ↑n a))) (ad 7) (arJ 901 (vp_updL V i y))) (ad 6) (ar 901 (fun j => if j = i then kfo (pkF (wF B p) 32 m) (1 - 1) else K j)) = hset (hset h (ad 2) (.inr (5, obR ad l s t k x (↑(p + m)) ↑n a))) (ad 7) (arJ 901 (vp_updL V i y)) := by rw [show (fun j => if j = i then kfo (pkF (wF B p) 32 m) (1 - 1) else K j) = K from by funext j; by_cases e : j = i; (simp [e, kfo, hK]); (simp [e])]; exact hset_same _ ((hset_ne _ _ (ad_ne hA (by decide))).trans ((hset_ne _ _ (ad_ne hA (by decide))).trans ha.2.2.2.1))
        have lq : ∀ (g : Nat) (q : Nat), (1 ≤ q ∧ q ≤ 22) → 22 + 1 ≤ q + g → ssV G mX5_readWord 5 0 0 (fun r h' => ∃ y : Int64, (scn B n lB p - p ≤ 8 → y = zL ↑(pkF (wF B p) 32 (scn B n lB p - p))) ∧ r = some (.int (zI (if scn B n lB p - p ≤ 8 then 1 else 4))) ∧ hset (hset (hset h (ad 2) (.inr (5, obR ad l s t k x (↑(scn B n lB p)) ↑n a))) (ad 7) (arJ 901 (vp_updL V i y))) (ad 6) (ar 901 (fun j => if j = i then keyOf (pkF (wF B p) 32 (scn B n lB p - p)) else K j)) = h') 76 [some (.ref (ad 2)), some (.int (zI ↑i)), some (.int (zI ↑p)), none, none, some (.int (zI ↑q))] [] (hset (hset (hset h (ad 2) (.inr (5, obR ad l s t k x (↑(p + m)) ↑n a))) (ad 7) (arJ 901 (vp_updL V i y))) (ad 6) (ar 901 (fun j => if j = i then kfo (pkF (wF B p) 32 m) (q - 1) else K j))) := by
          intro g
          induction g with
          | zero => intro q hs1 hs2; obtain ⟨z1, z2⟩ := hs1; exact absurd hs2 (by omega)
          | succ g ihlq =>
            intro q hs1 hs2
            obtain ⟨z1, z2⟩ := hs1
            refine v_run 2 (pc' := 80) (ls' := [some (.ref (ad 2)), some (.int (zI ↑i)), some (.int (zI ↑p)), none, none, some (.int (zI ↑q))]) (st' := [.int (zI 21), .int (zI ↑q)]) rfl ?_
            refine v_icmp_gt rfl (fun c80 => ?_) (fun c80 => ?_)
            · simp (disch := omega) only [zI_lt, zI_le, zI_eq, zI_lt0, zI_le0, zI_0lt, zI_0le, zI_eq0] at c80
              refine v_run 1 (pc' := 115) (ls' := [some (.ref (ad 2)), some (.int (zI ↑i)), some (.int (zI ↑p)), none, none, some (.int (zI ↑q))]) (st' := [.ref (ad 2)]) rfl ?_
              refine v_get rfl ((hset_ne _ _ (ad_ne hA (by decide))).trans ((hset_ne _ _ (ad_ne hA (by decide))).trans (hset_self _ _ _))) rfl ?_
              refine v_run 2 (pc' := 120) (ls' := [some (.ref (ad 2)), some (.int (zI ↑i)), some (.int (zI ↑p)), none, none, some (.int (zI ↑q))]) (st' := [.int ((zI ↑(p + m)) - (zI ↑p))]) rfl ?_
              rw [show ((zI ↑(p + m)) - (zI ↑p) : Int32) = zI ↑m from by rw [zI_sub]; congr 1; omega]
              refine v_run 1 (pc' := 122) (ls' := [some (.ref (ad 2)), some (.int (zI ↑i)), some (.int (zI ↑p)), none, none, some (.int (zI ↑q))]) (st' := [.int (zI 8), .int (zI ↑m)]) rfl ?_
              refine v_icmp_gt rfl (fun c122 => ?_) (fun c122 => ?_)
              · simp (disch := omega) only [zI_lt, zI_le, zI_eq, zI_lt0, zI_le0, zI_0lt, zI_0le, zI_eq0] at c122
                refine v_run 1 (pc' := 130) (ls' := [some (.ref (ad 2)), some (.int (zI ↑i)), some (.int (zI ↑p)), none, none, some (.int (zI ↑q))]) (st' := [.int (zI 4)]) rfl ?_
                exact v_iret rfl rfl rfl ⟨y, by rw [e1, show p + m - p = m by omega]; exact q3, by rw [e1, show p + m - p = m by omega, if_neg (by omega)], by rw [e1, show p + m - p = m by omega, show q = 22 by omega]; rfl⟩
              · simp (disch := omega) only [zI_lt, zI_le, zI_eq, zI_lt0, zI_le0, zI_0lt, zI_0le, zI_eq0] at c122
                refine v_run 2 (pc' := 130) (ls' := [some (.ref (ad 2)), some (.int (zI ↑i)), some (.int (zI ↑p)), none, none, some (.int (zI ↑q))]) (st' := [.int (zI 1)]) rfl ?_
                exact v_iret rfl rfl rfl ⟨y, by rw [e1, show p + m - p = m by omega]; exact q3, by rw [e1, show p + m - p = m by omega, if_pos (by omega)], by rw [e1, show p + m - p = m by omega, show q = 22 by omega]; rfl⟩
            · simp (disch := omega) only [zI_lt, zI_le, zI_eq, zI_lt0, zI_le0, zI_0lt, zI_0le, zI_eq0] at c80
              refine v_run 2 (pc' := 86) (ls' := [some (.ref (ad 2)), some (.int (zI ↑i)), some (.int (zI ↑p)), none, none, some (.int (zI ↑q))]) (st' := [.int (zI ↑q), .ref (ad 2)]) rfl ?_
              refine v_callS (My := mX5_keyText) (As := [.int (zI ↑q)]) (rest := [.ref (ad 2)]) (mc := 0) (ms := 0) rfl caX5_keyText rfl rfl (r_keyText G _ z1 (by omega)) rfl rfl (Nat.le_of_ble_eq_true rfl) (by omega) ?_
              rintro _ _ ⟨rfl, rfl⟩
              refine v_run 0 (pc' := 89) (ls' := [some (.ref (ad 2)), some (.int (zI ↑i)), some (.int (zI ↑p)), none, none, some (.int (zI ↑q))]) (st' := [.ref (gK G (q - 1)), .ref (ad 2)]) rfl ?_
              refine v_run 2 (pc' := 91) (ls' := [some (.ref (ad 2)), some (.int (zI ↑i)), some (.int (zI ↑p)), none, none, some (.int (zI ↑q))]) (st' := [.ref (ad 2), .int (zI ↑p), .ref (gK G (q - 1)), .ref (ad 2)]) rfl ?_
              refine v_get rfl ((hset_ne _ _ (ad_ne hA (by decide))).trans ((hset_ne _ _ (ad_ne hA (by decide))).trans (hset_self _ _ _))) rfl ?_
              refine v_run 0 (pc' := 94) (ls' := [some (.ref (ad 2)), some (.int (zI ↑i)), some (.int (zI ↑p)), none, none, some (.int (zI ↑q))]) (st' := [.int (zI ↑(p + m)), .int (zI ↑p), .ref (gK G (q - 1)), .ref (ad 2)]) rfl ?_
              refine v_callV (My := mX5_isSpelt) (As := [.ref (gK G (q - 1)), .int (zI ↑p), .int (zI ↑(p + m))]) (rest := []) (mc := 0) (ms := 0) rfl caX5_isSpelt rfl rfl rfl ((hset_ne _ _ (ad_ne hA (by decide))).trans ((hset_ne _ _ (ad_ne hA (by decide))).trans (hset_self _ _ _))) rfl rfl (r_isSpelt G _ (B := B) (S := S) (P := P) (K := fun j => if j = i then kfo (pkF (wF B p) 32 m) (q - 1) else K j) (V := vp_updL V i y) (nx := ↑(p + m)) (en := ↑n) (p := p) (m := m) (q := q) hA ((hset_ne _ _ (ad_ne hA (by decide))).trans ((hset_ne _ _ (ad_ne hA (by decide))).trans (hset_self _ _ _))) ⟨((hset_ne _ _ (ad_ne hA (by decide))).trans ((hset_ne _ _ (ad_ne hA (by decide))).trans ((hset_ne _ _ (ad_ne hA (by decide))).trans ha.1))), ((hset_ne _ _ (ad_ne hA (by decide))).trans ((hset_ne _ _ (ad_ne hA (by decide))).trans ((hset_ne _ _ (ad_ne hA (by decide))).trans ha.2.1))), ((hset_ne _ _ (ad_ne hA (by decide))).trans ((hset_ne _ _ (ad_ne hA (by decide))).trans ((hset_ne _ _ (ad_ne hA (by decide))).trans ha.2.2.1))), hset_self _ _ _, ((hset_ne _ _ (ad_ne hA (by decide))).trans (hset_self _ _ _))⟩ hB ⟨z1, by omega⟩ (by omega)) rfl rfl (Nat.le_of_ble_eq_true rfl) (by omega) ?_
              rintro _ _ ⟨rfl, rfl⟩
              refine v_run 0 (pc' := 97) (ls' := [some (.ref (ad 2)), some (.int (zI ↑i)), some (.int (zI ↑p)), none, none, some (.int (zI ↑q))]) (st' := [.int (zb (decide (m = kLn q ∧ ∀ j, j < m → B (p + j) = ((ssSb.getD (q - 1) []).getD j 0).toInt)))]) rfl ?_
              have hkw := kw_word (T := B) (a := p) (m := m) (k := q) z1 (by omega) q4
              have hkf : kfo (pkF (wF B p) 32 m) q = if kw q = pkF (wF B p) 32 m then q else kfo (pkF (wF B p) 32 m) (q - 1) := by obtain ⟨d, rfl⟩ : ∃ d, q = d + 1 := ⟨q - 1, by omega⟩; rfl
              refine v_if_eq rfl (fun c97 => ?_) (fun c97 => ?_)
              · rw [zb_n, decide_eq_false_iff_not] at c97
                refine v_run 2 (pc' := 76) (ls' := [some (.ref (ad 2)), some (.int (zI ↑i)), some (.int (zI ↑p)), none, none, some (.int ((zI ↑q) + zI 1))]) (st' := []) rfl ?_
                rw [zI_s1, show kfo (pkF (wF B p) 32 m) (q - 1) = kfo (pkF (wF B p) 32 m) (q + 1 - 1) from by rw [show q + 1 - 1 = q by omega, hkf, if_neg (fun z => c97 (hkw.mp z.symm))]]
                exact ihlq (q + 1) ⟨by omega, by omega⟩ (by omega)
              · rw [zb_n, Bool.not_eq_false, decide_eq_true_eq] at c97
                refine v_run 1 (pc' := 101) (ls' := [some (.ref (ad 2)), some (.int (zI ↑i)), some (.int (zI ↑p)), none, none, some (.int (zI ↑q))]) (st' := [.ref (ad 2)]) rfl ?_
                refine v_get rfl ((hset_ne _ _ (ad_ne hA (by decide))).trans ((hset_ne _ _ (ad_ne hA (by decide))).trans (hset_self _ _ _))) rfl ?_
                refine v_run 2 (pc' := 107) (ls' := [some (.ref (ad 2)), some (.int (zI ↑i)), some (.int (zI ↑p)), none, none, some (.int (zI ↑q))]) (st' := [.int (zI ↑q), .int (zI ↑i), .ref (ad 6)]) rfl ?_
                refine v_iastore' rfl (hset_self _ _ _) (i := i) rfl (by omega) ?_
                have hfe : (fun j => if j = i then q else (fun j => if j = i then kfo (pkF (wF B p) 32 m) (q - 1) else K j) j) = (fun j => if j = i then kfo (pkF (wF B p) 32 m) (q + 1 - 1) else K j) := by
                    funext j
                    by_cases e : j = i
                    · rw [if_pos e, if_pos e, show q + 1 - 1 = q by omega, hkf, if_pos (hkw.mpr c97).symm]
                    · show (if j = i then q else if j = i then _ else K j) = if j = i then _ else K j
                      rw [if_neg e, if_neg e, if_neg e]
                rw [ar_upd, hset_hset, hfe]
                refine v_run 2 (pc' := 76) (ls' := [some (.ref (ad 2)), some (.int (zI ↑i)), some (.int (zI ↑p)), none, none, some (.int ((zI ↑q) + zI 1))]) (st' := []) rfl ?_
                rw [zI_s1]
                exact ihlq (q + 1) ⟨by omega, by omega⟩ (by omega)
        have lz := lq 22 1 ⟨by omega, by omega⟩ (by omega)
        rw [e6] at lz
        exact lz
      · simp (disch := omega) only [zI_lt, zI_le, zI_eq, zI_lt0, zI_le0, zI_0lt, zI_0le, zI_eq0] at c15
        refine v_run 1 (pc' := 19) (ls' := [some (.ref (ad 2)), some (.int (zI ↑i)), some (.int (zI ↑p)), some (.long (y)), none, none]) (st' := [.ref (ad 2)]) rfl ?_
        refine v_get rfl (hset_self _ _ _) rfl ?_
        refine v_run 1 (pc' := 23) (ls' := [some (.ref (ad 2)), some (.int (zI ↑i)), some (.int (zI ↑p)), some (.long (y)), none, none]) (st' := [.ref (ad 2), .ref (ad 3)]) rfl ?_
        refine v_get rfl (hset_self _ _ _) rfl ?_
        refine v_run 0 (pc' := 26) (ls' := [some (.ref (ad 2)), some (.int (zI ↑i)), some (.int (zI ↑p)), some (.long (y)), none, none]) (st' := [.int (zI ↑(p + m)), .ref (ad 3)]) rfl ?_
        refine v_baload' rfl ((hset_ne _ _ (ad_ne hA (by decide))).trans ha.1) (i := (p + m)) rfl (by omega) ?_
        refine v_run 0 (pc' := 27) (ls' := [some (.ref (ad 2)), some (.int (zI ↑i)), some (.int (zI ↑p)), some (.long (y)), none, none]) (st' := [.int (zI (B (p + m)))]) rfl ?_
        refine v_callS (My := mX5_isLetter) (As := [.int (zI (B (p + m)))]) (rest := []) (mc := 0) (ms := 0) rfl caX5_isLetter rfl rfl (r_isLetter G _ (B (p + m)) (by have := hB (p + m); omega)) rfl rfl (Nat.le_of_ble_eq_true rfl) (by omega) ?_
        rintro _ _ ⟨rfl, rfl⟩
        refine v_run 0 (pc' := 30) (ls' := [some (.ref (ad 2)), some (.int (zI ↑i)), some (.int (zI ↑p)), some (.long (y)), none, none]) (st' := [.int (zb (lB (B (p + m))))]) rfl ?_
        refine v_if_eq rfl (fun c30 => ?_) (fun c30 => ?_)
        · rw [zb_n] at c30
          have e1 : scn B n lB p = p + m := by rw [q2]; exact scn_end (by omega) c30
          refine v_run 1 (pc' := 67) (ls' := [some (.ref (ad 2)), some (.int (zI ↑i)), some (.int (zI ↑p)), some (.long (y)), none, none]) (st' := [.ref (ad 2)]) rfl ?_
          refine v_get rfl (hset_self _ _ _) rfl ?_
          refine v_run 2 (pc' := 72) (ls' := [some (.ref (ad 2)), some (.int (zI ↑i)), some (.int (zI ↑p)), some (.long (y)), none, none]) (st' := [.long (y), .int (zI ↑i), .ref (ad 7)]) rfl ?_
          refine v_lastore' rfl ((hset_ne _ _ (ad_ne hA (by decide))).trans ha.2.2.2.2) (i := i) rfl (by omega) ?_
          refine v_run 2 (pc' := 76) (ls' := [some (.ref (ad 2)), some (.int (zI ↑i)), some (.int (zI ↑p)), some (.long (y)), none, some (.int (zI 1))]) (st' := []) rfl ?_
          refine v_drop 3 rfl ?_
          have e6 : hset (hset (hset h (ad 2) (.inr (5, obR ad l s t k x (↑(p + m)) ↑n a))) (ad 7) (arJ 901 (vp_updL V i y))) (ad 6) (ar 901 (fun j => if j = i then kfo (pkF (wF B p) 32 m) (1 - 1) else K j)) = hset (hset h (ad 2) (.inr (5, obR ad l s t k x (↑(p + m)) ↑n a))) (ad 7) (arJ 901 (vp_updL V i y)) := by rw [show (fun j => if j = i then kfo (pkF (wF B p) 32 m) (1 - 1) else K j) = K from by funext j; by_cases e : j = i; (simp [e, kfo, hK]); (simp [e])]; exact hset_same _ ((hset_ne _ _ (ad_ne hA (by decide))).trans ((hset_ne _ _ (ad_ne hA (by decide))).trans ha.2.2.2.1))
          have lq : ∀ (g : Nat) (q : Nat), (1 ≤ q ∧ q ≤ 22) → 22 + 1 ≤ q + g → ssV G mX5_readWord 5 0 0 (fun r h' => ∃ y : Int64, (scn B n lB p - p ≤ 8 → y = zL ↑(pkF (wF B p) 32 (scn B n lB p - p))) ∧ r = some (.int (zI (if scn B n lB p - p ≤ 8 then 1 else 4))) ∧ hset (hset (hset h (ad 2) (.inr (5, obR ad l s t k x (↑(scn B n lB p)) ↑n a))) (ad 7) (arJ 901 (vp_updL V i y))) (ad 6) (ar 901 (fun j => if j = i then keyOf (pkF (wF B p) 32 (scn B n lB p - p)) else K j)) = h') 76 [some (.ref (ad 2)), some (.int (zI ↑i)), some (.int (zI ↑p)), none, none, some (.int (zI ↑q))] [] (hset (hset (hset h (ad 2) (.inr (5, obR ad l s t k x (↑(p + m)) ↑n a))) (ad 7) (arJ 901 (vp_updL V i y))) (ad 6) (ar 901 (fun j => if j = i then kfo (pkF (wF B p) 32 m) (q - 1) else K j))) := by
            intro g
            induction g with
            | zero => intro q hs1 hs2; obtain ⟨z1, z2⟩ := hs1; exact absurd hs2 (by omega)
            | succ g ihlq =>
              intro q hs1 hs2
              obtain ⟨z1, z2⟩ := hs1
              refine v_run 2 (pc' := 80) (ls' := [some (.ref (ad 2)), some (.int (zI ↑i)), some (.int (zI ↑p)), none, none, some (.int (zI ↑q))]) (st' := [.int (zI 21), .int (zI ↑q)]) rfl ?_
              refine v_icmp_gt rfl (fun c80 => ?_) (fun c80 => ?_)
              · simp (disch := omega) only [zI_lt, zI_le, zI_eq, zI_lt0, zI_le0, zI_0lt, zI_0le, zI_eq0] at c80
                refine v_run 1 (pc' := 115) (ls' := [some (.ref (ad 2)), some (.int (zI ↑i)), some (.int (zI ↑p)), none, none, some (.int (zI ↑q))]) (st' := [.ref (ad 2)]) rfl ?_
                refine v_get rfl ((hset_ne _ _ (ad_ne hA (by decide))).trans ((hset_ne _ _ (ad_ne hA (by decide))).trans (hset_self _ _ _))) rfl ?_
                refine v_run 2 (pc' := 120) (ls' := [some (.ref (ad 2)), some (.int (zI ↑i)), some (.int (zI ↑p)), none, none, some (.int (zI ↑q))]) (st' := [.int ((zI ↑(p + m)) - (zI ↑p))]) rfl ?_
                rw [show ((zI ↑(p + m)) - (zI ↑p) : Int32) = zI ↑m from by rw [zI_sub]; congr 1; omega]
                refine v_run 1 (pc' := 122) (ls' := [some (.ref (ad 2)), some (.int (zI ↑i)), some (.int (zI ↑p)), none, none, some (.int (zI ↑q))]) (st' := [.int (zI 8), .int (zI ↑m)]) rfl ?_
                refine v_icmp_gt rfl (fun c122 => ?_) (fun c122 => ?_)
                · simp (disch := omega) only [zI_lt, zI_le, zI_eq, zI_lt0, zI_le0, zI_0lt, zI_0le, zI_eq0] at c122
                  refine v_run 1 (pc' := 130) (ls' := [some (.ref (ad 2)), some (.int (zI ↑i)), some (.int (zI ↑p)), none, none, some (.int (zI ↑q))]) (st' := [.int (zI 4)]) rfl ?_
                  exact v_iret rfl rfl rfl ⟨y, by rw [e1, show p + m - p = m by omega]; exact q3, by rw [e1, show p + m - p = m by omega, if_neg (by omega)], by rw [e1, show p + m - p = m by omega, show q = 22 by omega]; rfl⟩
                · simp (disch := omega) only [zI_lt, zI_le, zI_eq, zI_lt0, zI_le0, zI_0lt, zI_0le, zI_eq0] at c122
                  refine v_run 2 (pc' := 130) (ls' := [some (.ref (ad 2)), some (.int (zI ↑i)), some (.int (zI ↑p)), none, none, some (.int (zI ↑q))]) (st' := [.int (zI 1)]) rfl ?_
                  exact v_iret rfl rfl rfl ⟨y, by rw [e1, show p + m - p = m by omega]; exact q3, by rw [e1, show p + m - p = m by omega, if_pos (by omega)], by rw [e1, show p + m - p = m by omega, show q = 22 by omega]; rfl⟩
              · simp (disch := omega) only [zI_lt, zI_le, zI_eq, zI_lt0, zI_le0, zI_0lt, zI_0le, zI_eq0] at c80
                refine v_run 2 (pc' := 86) (ls' := [some (.ref (ad 2)), some (.int (zI ↑i)), some (.int (zI ↑p)), none, none, some (.int (zI ↑q))]) (st' := [.int (zI ↑q), .ref (ad 2)]) rfl ?_
                refine v_callS (My := mX5_keyText) (As := [.int (zI ↑q)]) (rest := [.ref (ad 2)]) (mc := 0) (ms := 0) rfl caX5_keyText rfl rfl (r_keyText G _ z1 (by omega)) rfl rfl (Nat.le_of_ble_eq_true rfl) (by omega) ?_
                rintro _ _ ⟨rfl, rfl⟩
                refine v_run 0 (pc' := 89) (ls' := [some (.ref (ad 2)), some (.int (zI ↑i)), some (.int (zI ↑p)), none, none, some (.int (zI ↑q))]) (st' := [.ref (gK G (q - 1)), .ref (ad 2)]) rfl ?_
                refine v_run 2 (pc' := 91) (ls' := [some (.ref (ad 2)), some (.int (zI ↑i)), some (.int (zI ↑p)), none, none, some (.int (zI ↑q))]) (st' := [.ref (ad 2), .int (zI ↑p), .ref (gK G (q - 1)), .ref (ad 2)]) rfl ?_
                refine v_get rfl ((hset_ne _ _ (ad_ne hA (by decide))).trans ((hset_ne _ _ (ad_ne hA (by decide))).trans (hset_self _ _ _))) rfl ?_
                refine v_run 0 (pc' := 94) (ls' := [some (.ref (ad 2)), some (.int (zI ↑i)), some (.int (zI ↑p)), none, none, some (.int (zI ↑q))]) (st' := [.int (zI ↑(p + m)), .int (zI ↑p), .ref (gK G (q - 1)), .ref (ad 2)]) rfl ?_
                refine v_callV (My := mX5_isSpelt) (As := [.ref (gK G (q - 1)), .int (zI ↑p), .int (zI ↑(p + m))]) (rest := []) (mc := 0) (ms := 0) rfl caX5_isSpelt rfl rfl rfl ((hset_ne _ _ (ad_ne hA (by decide))).trans ((hset_ne _ _ (ad_ne hA (by decide))).trans (hset_self _ _ _))) rfl rfl (r_isSpelt G _ (B := B) (S := S) (P := P) (K := fun j => if j = i then kfo (pkF (wF B p) 32 m) (q - 1) else K j) (V := vp_updL V i y) (nx := ↑(p + m)) (en := ↑n) (p := p) (m := m) (q := q) hA ((hset_ne _ _ (ad_ne hA (by decide))).trans ((hset_ne _ _ (ad_ne hA (by decide))).trans (hset_self _ _ _))) ⟨((hset_ne _ _ (ad_ne hA (by decide))).trans ((hset_ne _ _ (ad_ne hA (by decide))).trans ((hset_ne _ _ (ad_ne hA (by decide))).trans ha.1))), ((hset_ne _ _ (ad_ne hA (by decide))).trans ((hset_ne _ _ (ad_ne hA (by decide))).trans ((hset_ne _ _ (ad_ne hA (by decide))).trans ha.2.1))), ((hset_ne _ _ (ad_ne hA (by decide))).trans ((hset_ne _ _ (ad_ne hA (by decide))).trans ((hset_ne _ _ (ad_ne hA (by decide))).trans ha.2.2.1))), hset_self _ _ _, ((hset_ne _ _ (ad_ne hA (by decide))).trans (hset_self _ _ _))⟩ hB ⟨z1, by omega⟩ (by omega)) rfl rfl (Nat.le_of_ble_eq_true rfl) (by omega) ?_
                rintro _ _ ⟨rfl, rfl⟩
                refine v_run 0 (pc' := 97) (ls' := [some (.ref (ad 2)), some (.int (zI ↑i)), some (.int (zI ↑p)), none, none, some (.int (zI ↑q))]) (st' := [.int (zb (decide (m = kLn q ∧ ∀ j, j < m → B (p + j) = ((ssSb.getD (q - 1) []).getD j 0).toInt)))]) rfl ?_
                have hkw := kw_word (T := B) (a := p) (m := m) (k := q) z1 (by omega) q4
                have hkf : kfo (pkF (wF B p) 32 m) q = if kw q = pkF (wF B p) 32 m then q else kfo (pkF (wF B p) 32 m) (q - 1) := by obtain ⟨d, rfl⟩ : ∃ d, q = d + 1 := ⟨q - 1, by omega⟩; rfl
                refine v_if_eq rfl (fun c97 => ?_) (fun c97 => ?_)
                · rw [zb_n, decide_eq_false_iff_not] at c97
                  refine v_run 2 (pc' := 76) (ls' := [some (.ref (ad 2)), some (.int (zI ↑i)), some (.int (zI ↑p)), none, none, some (.int ((zI ↑q) + zI 1))]) (st' := []) rfl ?_
                  rw [zI_s1, show kfo (pkF (wF B p) 32 m) (q - 1) = kfo (pkF (wF B p) 32 m) (q + 1 - 1) from by rw [show q + 1 - 1 = q by omega, hkf, if_neg (fun z => c97 (hkw.mp z.symm))]]
                  exact ihlq (q + 1) ⟨by omega, by omega⟩ (by omega)
                · rw [zb_n, Bool.not_eq_false, decide_eq_true_eq] at c97
                  refine v_run 1 (pc' := 101) (ls' := [some (.ref (ad 2)), some (.int (zI ↑i)), some (.int (zI ↑p)), none, none, some (.int (zI ↑q))]) (st' := [.ref (ad 2)]) rfl ?_
                  refine v_get rfl ((hset_ne _ _ (ad_ne hA (by decide))).trans ((hset_ne _ _ (ad_ne hA (by decide))).trans (hset_self _ _ _))) rfl ?_
                  refine v_run 2 (pc' := 107) (ls' := [some (.ref (ad 2)), some (.int (zI ↑i)), some (.int (zI ↑p)), none, none, some (.int (zI ↑q))]) (st' := [.int (zI ↑q), .int (zI ↑i), .ref (ad 6)]) rfl ?_
                  refine v_iastore' rfl (hset_self _ _ _) (i := i) rfl (by omega) ?_
                  have hfe : (fun j => if j = i then q else (fun j => if j = i then kfo (pkF (wF B p) 32 m) (q - 1) else K j) j) = (fun j => if j = i then kfo (pkF (wF B p) 32 m) (q + 1 - 1) else K j) := by
                      funext j
                      by_cases e : j = i
                      · rw [if_pos e, if_pos e, show q + 1 - 1 = q by omega, hkf, if_pos (hkw.mpr c97).symm]
                      · show (if j = i then q else if j = i then _ else K j) = if j = i then _ else K j
                        rw [if_neg e, if_neg e, if_neg e]
                  rw [ar_upd, hset_hset, hfe]
                  refine v_run 2 (pc' := 76) (ls' := [some (.ref (ad 2)), some (.int (zI ↑i)), some (.int (zI ↑p)), none, none, some (.int ((zI ↑q) + zI 1))]) (st' := []) rfl ?_
                  rw [zI_s1]
                  exact ihlq (q + 1) ⟨by omega, by omega⟩ (by omega)
          have lz := lq 22 1 ⟨by omega, by omega⟩ (by omega)
          rw [e6] at lz
          exact lz
        · rw [zb_n, Bool.not_eq_false] at c30
          have hd : 97 ≤ B (p + m) ∧ B (p + m) ≤ 122 := by have := c30; simpa [lB] using this
          refine v_run 4 (pc' := 37) (ls' := [some (.ref (ad 2)), some (.int (zI ↑i)), some (.int (zI ↑p)), some (.long (y)), none, none]) (st' := [.ref (ad 2), .long ((y) <<< ((zI 5).toInt64 &&& 63))]) rfl ?_
          refine v_get rfl (hset_self _ _ _) rfl ?_
          refine v_run 1 (pc' := 41) (ls' := [some (.ref (ad 2)), some (.int (zI ↑i)), some (.int (zI ↑p)), some (.long (y)), none, none]) (st' := [.ref (ad 2), .ref (ad 3), .long ((y) <<< ((zI 5).toInt64 &&& 63))]) rfl ?_
          refine v_get rfl (hset_self _ _ _) rfl ?_
          refine v_run 0 (pc' := 44) (ls' := [some (.ref (ad 2)), some (.int (zI ↑i)), some (.int (zI ↑p)), some (.long (y)), none, none]) (st' := [.int (zI ↑(p + m)), .ref (ad 3), .long ((y) <<< ((zI 5).toInt64 &&& 63))]) rfl ?_
          refine v_baload' rfl ((hset_ne _ _ (ad_ne hA (by decide))).trans ha.1) (i := (p + m)) rfl (by omega) ?_
          refine v_run 9 (pc' := 55) (ls' := [some (.ref (ad 2)), some (.int (zI ↑i)), some (.int (zI ↑p)), some (.long (((y) <<< ((zI 5).toInt64 &&& 63)) ||| ((((zI (B (p + m))) - (zI 97)) + (zI 1)).toInt64))), none, none]) (st' := [.ref (ad 2), .ref (ad 2)]) rfl ?_
          refine v_get rfl (hset_self _ _ _) rfl ?_
          refine v_run 2 (pc' := 60) (ls' := [some (.ref (ad 2)), some (.int (zI ↑i)), some (.int (zI ↑p)), some (.long (((y) <<< ((zI 5).toInt64 &&& 63)) ||| ((((zI (B (p + m))) - (zI 97)) + (zI 1)).toInt64))), none, none]) (st' := [.int ((zI ↑(p + m)) + (zI 1)), .ref (ad 2)]) rfl ?_
          rw [show ((zI ↑(p + m)) + (zI 1) : Int32) = zI ↑(p + m + 1) from zI_s1 _]
          refine v_put rfl (hset_self _ _ _) rfl rfl (Nat.le_of_ble_eq_true rfl) ?_
          rw [hset_hset]
          refine v_run 1 (pc' := 7) (ls' := [some (.ref (ad 2)), some (.int (zI ↑i)), some (.int (zI ↑p)), some (.long (((y) <<< ((zI 5).toInt64 &&& 63)) ||| ((((zI (B (p + m))) - (zI 97)) + (zI 1)).toInt64))), none, none]) (st' := []) rfl ?_
          exact ihlp (m + 1) _ ⟨by omega, by rw [q2]; exact scn_go (by omega) c30, fun h3 => by rw [q3 (by omega), zI_sub, zI_add, show B (p + m) - 97 + 1 = ↑((B (p + m) - 96).toNat) by omega, zI_l (a := ↑((B (p + m) - 96).toNat)) (by omega) (by omega)]; exact zL_or5 (y := (B (p + m) - 96).toNat) (by have := wF_lt (T := B) (a := p) (m := m) q4 (by omega); omega) (by omega), fun j hj => by
            by_cases e : j = m
            · rw [e]; exact c30
            · exact q4 j (by omega)⟩ (by omega)
  have lq := lp (n + 1) 0 (zL 0) ⟨by omega, rfl, fun _ => rfl, fun j hj => absurd hj (by omega)⟩ (by omega)
  rw [e0] at lq
  exact lq

