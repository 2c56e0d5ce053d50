/-! ===== the class's reader ===== -/
abbrev arB (n : Nat) (B : Nat → Int) : ssE := .inl (1, n, .inl (fun j => zI (B j)))
abbrev arJ (n : Nat) (V : Nat → Int64) : ssE := .inl (2, n, .inr (.inl V))
abbrev obR (ad : Nat → Nat) (l s t k : Int) (x : Int64) (nx en a : Int) : List Value := [.int (zI l), .int (zI s), .int (zI t), .int (zI k), .long x, .ref (ad 3), .ref (ad 4), .ref (ad 5), .ref (ad 6), .ref (ad 7), .int (zI nx), .int (zI en), .int (zI a)]
def RdA (h : ssH) (ad : Nat → Nat) (B : Nat → Int) (S P K : Nat → Nat) (V : Nat → Int64) : Prop := h (ad 3) = some (arB 900 B) ∧ h (ad 4) = some (ar 901 S) ∧ h (ad 5) = some (ar 901 P) ∧ h (ad 6) = some (ar 901 K) ∧ h (ad 7) = some (arJ 901 V)
set_option maxRecDepth 100000 in
set_option maxHeartbeats 400000 in
theorem r_isLetter (G : ssG) (h : ssH) (x : Int) (hx : -2147483648 ≤ x ∧ x < 2147483648) : ssC G mX5_isLetter 0 0 0 [.int (zI x)] h (rI (zb (lB x)) h) := by
  refine c_of_v okX5_isLetter (by decide +kernel) (ls := [some (.int (zI x))]) rfl (Nat.le_of_ble_eq_true rfl) ?_
  refine v_run 2 (pc' := 3) (ls' := [some (.int (zI x))]) (st' := [.int (zI 97), .int (zI x)]) rfl ?_
  refine v_icmp_lt rfl (fun c3 => ?_) (fun c3 => ?_)
  · simp (disch := omega) only [zI_lt, zI_le, zI_eq, zI_lt0, zI_le0, zI_0lt, zI_0le, zI_eq0] at c3
    refine v_run 1 (pc' := 17) (ls' := [some (.int (zI x))]) (st' := [.int (zI 0)]) rfl ?_
    exact v_iret rfl rfl rfl ⟨by rw [zb, if_neg (by simp [lB]; omega)], rfl⟩
  · simp (disch := omega) only [zI_lt, zI_le, zI_eq, zI_lt0, zI_le0, zI_0lt, zI_0le, zI_eq0] at c3
    refine v_run 2 (pc' := 9) (ls' := [some (.int (zI x))]) (st' := [.int (zI 122), .int (zI x)]) rfl ?_
    refine v_icmp_gt rfl (fun c9 => ?_) (fun c9 => ?_)
    · simp (disch := omega) only [zI_lt, zI_le, zI_eq, zI_lt0, zI_le0, zI_0lt, zI_0le, zI_eq0] at c9
      refine v_run 1 (pc' := 17) (ls' := [some (.int (zI x))]) (st' := [.int (zI 0)]) rfl ?_
      exact v_iret rfl rfl rfl ⟨by rw [zb, if_neg (by simp [lB]; omega)], rfl⟩
    · simp (disch := omega) only [zI_lt, zI_le, zI_eq, zI_lt0, zI_le0, zI_0lt, zI_0le, zI_eq0] at c9
      refine v_run 2 (pc' := 17) (ls' := [some (.int (zI x))]) (st' := [.int (zI 1)]) rfl ?_
      exact v_iret rfl rfl rfl ⟨by rw [zb, if_pos (by simp [lB]; omega)], rfl⟩

set_option maxRecDepth 100000 in
set_option maxHeartbeats 400000 in
theorem r_isDigit (G : ssG) (h : ssH) (x : Int) (hx : -2147483648 ≤ x ∧ x < 2147483648) : ssC G mX5_isDigit 0 0 0 [.int (zI x)] h (rI (zb (dB x)) h) := by
  refine c_of_v okX5_isDigit (by decide +kernel) (ls := [some (.int (zI x))]) rfl (Nat.le_of_ble_eq_true rfl) ?_
  refine v_run 2 (pc' := 3) (ls' := [some (.int (zI x))]) (st' := [.int (zI 48), .int (zI x)]) rfl ?_
  refine v_icmp_lt rfl (fun c3 => ?_) (fun c3 => ?_)
  · simp (disch := omega) only [zI_lt, zI_le, zI_eq, zI_lt0, zI_le0, zI_0lt, zI_0le, zI_eq0] at c3
    refine v_run 1 (pc' := 17) (ls' := [some (.int (zI x))]) (st' := [.int (zI 0)]) rfl ?_
    exact v_iret rfl rfl rfl ⟨by rw [zb, if_neg (by simp [dB]; omega)], rfl⟩
  · simp (disch := omega) only [zI_lt, zI_le, zI_eq, zI_lt0, zI_le0, zI_0lt, zI_0le, zI_eq0] at c3
    refine v_run 2 (pc' := 9) (ls' := [some (.int (zI x))]) (st' := [.int (zI 57), .int (zI x)]) rfl ?_
    refine v_icmp_gt rfl (fun c9 => ?_) (fun c9 => ?_)
    · simp (disch := omega) only [zI_lt, zI_le, zI_eq, zI_lt0, zI_le0, zI_0lt, zI_0le, zI_eq0] at c9
      refine v_run 1 (pc' := 17) (ls' := [some (.int (zI x))]) (st' := [.int (zI 0)]) rfl ?_
      exact v_iret rfl rfl rfl ⟨by rw [zb, if_neg (by simp [dB]; omega)], rfl⟩
    · simp (disch := omega) only [zI_lt, zI_le, zI_eq, zI_lt0, zI_le0, zI_0lt, zI_0le, zI_eq0] at c9
      refine v_run 2 (pc' := 17) (ls' := [some (.int (zI x))]) (st' := [.int (zI 1)]) rfl ?_
      exact v_iret rfl rfl rfl ⟨by rw [zb, if_pos (by simp [dB]; omega)], rfl⟩

set_option maxRecDepth 100000 in
set_option maxHeartbeats 400000 in
theorem r_readWhole (G : ssG) (h : ssH) {ad : Nat → Nat} {l s t k : Int} {x : Int64} {a : Int} {B : Nat → Int} {S P K : Nat → Nat} {V : Nat → Int64} {p n i : Nat} (hA : ∀ k l, ad k = ad l → k = l) (hr : h (ad 2) = some (.inr (5, obR ad l s t k x ↑p ↑n a))) (ha : RdA h ad B S P K V) (hB : ∀ k, -128 ≤ B k ∧ B k ≤ 127) (hp : p ≤ n) (hn : n ≤ 900) (hi : i ≤ 900) : ssC G mX5_readWhole 1 0 0 [.ref (ad 2), .int (zI ↑i)] h (fun r h' => ∃ y : Int64, (scn B n dB p - p ≤ 3 → y = zL ↑(pkF (dF B p) 10 (scn B n dB p - p))) ∧ r = some (.int (zI (if scn B n dB p - p ≤ 3 then 2 else 4))) ∧ hset (hset h (ad 2) (.inr (5, obR ad l s t k x (↑(scn B n dB p)) ↑n a))) (ad 7) (arJ 901 (vp_updL V i y)) = h') := by
  refine c_of_v okX5_readWhole (by decide +kernel) (ls := [some (.ref (ad 2)), some (.int (zI ↑i)), none, none, none]) rfl (Nat.le_of_ble_eq_true rfl) ?_
  refine v_run 1 (pc' := 1) (ls' := [some (.ref (ad 2)), some (.int (zI ↑i)), none, none, none]) (st' := [.ref (ad 2)]) rfl ?_
  refine v_get rfl hr rfl ?_
  refine v_run 3 (pc' := 7) (ls' := [some (.ref (ad 2)), some (.int (zI ↑i)), some (.int (zI ↑p)), some (.long (zL 0)), none]) (st' := []) rfl ?_
  have e0 : hset h (ad 2) (.inr (5, obR ad l s t k x (↑(p + 0)) ↑n a)) = h := hset_same h hr
  have lp : ∀ (f : Nat) (m : Nat) (y : Int64), (p + m ≤ n ∧ scn B n dB p = scn B n dB (p + m) ∧ (m ≤ 3 → y = zL ↑(pkF (dF B p) 10 m))) → n + 1 ≤ p + m + f → ssV G mX5_readWhole 1 0 0 (fun r h' => ∃ y : Int64, (scn B n dB p - p ≤ 3 → y = zL ↑(pkF (dF B p) 10 (scn B n dB p - p))) ∧ r = some (.int (zI (if scn B n dB p - p ≤ 3 then 2 else 4))) ∧ hset (hset h (ad 2) (.inr (5, obR ad l s t k x (↑(scn B n dB p)) ↑n a))) (ad 7) (arJ 901 (vp_updL V i y)) = h') 7 [some (.ref (ad 2)), some (.int (zI ↑i)), some (.int (zI ↑p)), some (.long (y)), none] [] (hset h (ad 2) (.inr (5, obR ad l s t k x (↑(p + m)) ↑n a))) := by
    intro f
    induction f with
    | zero => intro m y hs1 hs2; obtain ⟨q1, q2, q3⟩ := hs1; exact absurd hs2 (by omega)
    | succ f ihlp =>
      intro m y hs1 hs2
      obtain ⟨q1, q2, q3⟩ := hs1
      refine v_run 1 (pc' := 8) (ls' := [some (.ref (ad 2)), some (.int (zI ↑i)), some (.int (zI ↑p)), some (.long (y)), none]) (st' := [.ref (ad 2)]) rfl ?_
      refine v_get rfl (hset_self _ _ _) rfl ?_
      refine v_run 1 (pc' := 12) (ls' := [some (.ref (ad 2)), some (.int (zI ↑i)), some (.int (zI ↑p)), some (.long (y)), none]) (st' := [.ref (ad 2), .int (zI ↑(p + m))]) rfl ?_
      refine v_get rfl (hset_self _ _ _) rfl ?_
      refine v_run 0 (pc' := 15) (ls' := [some (.ref (ad 2)), some (.int (zI ↑i)), some (.int (zI ↑p)), some (.long (y)), none]) (st' := [.int (zI ↑n), .int (zI ↑(p + m))]) rfl ?_
      refine v_icmp_ge rfl (fun c15 => ?_) (fun c15 => ?_)
      · simp (disch := omega) only [zI_lt, zI_le, zI_eq, zI_lt0, zI_le0, zI_0lt, zI_0le, zI_eq0] at c15
        have e1 : scn B n dB p = p + m := by rw [q2]; exact scn_stop (by omega)
        refine v_run 1 (pc' := 68) (ls' := [some (.ref (ad 2)), some (.int (zI ↑i)), some (.int (zI ↑p)), some (.long (y)), none]) (st' := [.ref (ad 2)]) rfl ?_
        refine v_get rfl (hset_self _ _ _) rfl ?_
        refine v_run 2 (pc' := 73) (ls' := [some (.ref (ad 2)), some (.int (zI ↑i)), some (.int (zI ↑p)), some (.long (y)), none]) (st' := [.long (y), .int (zI ↑i), .ref (ad 7)]) rfl ?_
        refine v_lastore' rfl ((hset_ne _ _ (ad_ne hA (by decide))).trans ha.2.2.2.2) (i := i) rfl (by omega) ?_
        refine v_run 1 (pc' := 75) (ls' := [some (.ref (ad 2)), some (.int (zI ↑i)), some (.int (zI ↑p)), some (.long (y)), none]) (st' := [.ref (ad 2)]) rfl ?_
        refine v_get rfl ((hset_ne _ _ (ad_ne hA (by decide))).trans (hset_self _ _ _)) rfl ?_
        refine v_run 2 (pc' := 80) (ls' := [some (.ref (ad 2)), some (.int (zI ↑i)), some (.int (zI ↑p)), some (.long (y)), none]) (st' := [.int ((zI ↑(p + m)) - (zI ↑p))]) rfl ?_
        rw [show ((zI ↑(p + m)) - (zI ↑p) : Int32) = zI ↑m from by rw [zI_sub]; congr 1; omega]
        refine v_run 1 (pc' := 81) (ls' := [some (.ref (ad 2)), some (.int (zI ↑i)), some (.int (zI ↑p)), some (.long (y)), none]) (st' := [.int (zI 3), .int (zI ↑m)]) rfl ?_
        refine v_icmp_gt rfl (fun c81 => ?_) (fun c81 => ?_)
        · simp (disch := omega) only [zI_lt, zI_le, zI_eq, zI_lt0, zI_le0, zI_0lt, zI_0le, zI_eq0] at c81
          refine v_run 1 (pc' := 89) (ls' := [some (.ref (ad 2)), some (.int (zI ↑i)), some (.int (zI ↑p)), some (.long (y)), none]) (st' := [.int (zI 4)]) rfl ?_
          exact v_iret rfl rfl rfl ⟨y, by rw [e1, show p + m - p = m by omega]; exact q3, by rw [e1, show p + m - p = m by omega, if_neg (by omega)], by rw [e1]⟩
        · simp (disch := omega) only [zI_lt, zI_le, zI_eq, zI_lt0, zI_le0, zI_0lt, zI_0le, zI_eq0] at c81
          refine v_run 2 (pc' := 89) (ls' := [some (.ref (ad 2)), some (.int (zI ↑i)), some (.int (zI ↑p)), some (.long (y)), none]) (st' := [.int (zI 2)]) rfl ?_
          exact v_iret rfl rfl rfl ⟨y, by rw [e1, show p + m - p = m by omega]; exact q3, by rw [e1, show p + m - p = m by omega, if_pos (by omega)], by rw [e1]⟩
      · simp (disch := omega) only [zI_lt, zI_le, zI_eq, zI_lt0, zI_le0, zI_0lt, zI_0le, zI_eq0] at c15
        refine v_run 1 (pc' := 19) (ls' := [some (.ref (ad 2)), some (.int (zI ↑i)), some (.int (zI ↑p)), some (.long (y)), none]) (st' := [.ref (ad 2)]) rfl ?_
        refine v_get rfl (hset_self _ _ _) rfl ?_
        refine v_run 1 (pc' := 23) (ls' := [some (.ref (ad 2)), some (.int (zI ↑i)), some (.int (zI ↑p)), some (.long (y)), none]) (st' := [.ref (ad 2), .ref (ad 3)]) rfl ?_
        refine v_get rfl (hset_self _ _ _) rfl ?_
        refine v_run 0 (pc' := 26) (ls' := [some (.ref (ad 2)), some (.int (zI ↑i)), some (.int (zI ↑p)), some (.long (y)), none]) (st' := [.int (zI ↑(p + m)), .ref (ad 3)]) rfl ?_
        refine v_baload' rfl ((hset_ne _ _ (ad_ne hA (by decide))).trans ha.1) (i := (p + m)) rfl (by omega) ?_
        refine v_run 0 (pc' := 27) (ls' := [some (.ref (ad 2)), some (.int (zI ↑i)), some (.int (zI ↑p)), some (.long (y)), none]) (st' := [.int (zI (B (p + m)))]) rfl ?_
        refine v_callS (My := mX5_isDigit) (As := [.int (zI (B (p + m)))]) (rest := []) (mc := 0) (ms := 0) rfl caX5_isDigit rfl rfl (r_isDigit G _ (B (p + m)) (by have := hB (p + m); omega)) rfl rfl (Nat.le_of_ble_eq_true rfl) (by omega) ?_
        rintro _ _ ⟨rfl, rfl⟩
        refine v_run 0 (pc' := 30) (ls' := [some (.ref (ad 2)), some (.int (zI ↑i)), some (.int (zI ↑p)), some (.long (y)), none]) (st' := [.int (zb (dB (B (p + m))))]) rfl ?_
        refine v_if_eq rfl (fun c30 => ?_) (fun c30 => ?_)
        · rw [zb_n] at c30
          have e1 : scn B n dB p = p + m := by rw [q2]; exact scn_end (by omega) c30
          refine v_run 1 (pc' := 68) (ls' := [some (.ref (ad 2)), some (.int (zI ↑i)), some (.int (zI ↑p)), some (.long (y)), none]) (st' := [.ref (ad 2)]) rfl ?_
          refine v_get rfl (hset_self _ _ _) rfl ?_
          refine v_run 2 (pc' := 73) (ls' := [some (.ref (ad 2)), some (.int (zI ↑i)), some (.int (zI ↑p)), some (.long (y)), none]) (st' := [.long (y), .int (zI ↑i), .ref (ad 7)]) rfl ?_
          refine v_lastore' rfl ((hset_ne _ _ (ad_ne hA (by decide))).trans ha.2.2.2.2) (i := i) rfl (by omega) ?_
          refine v_run 1 (pc' := 75) (ls' := [some (.ref (ad 2)), some (.int (zI ↑i)), some (.int (zI ↑p)), some (.long (y)), none]) (st' := [.ref (ad 2)]) rfl ?_
          refine v_get rfl ((hset_ne _ _ (ad_ne hA (by decide))).trans (hset_self _ _ _)) rfl ?_
          refine v_run 2 (pc' := 80) (ls' := [some (.ref (ad 2)), some (.int (zI ↑i)), some (.int (zI ↑p)), some (.long (y)), none]) (st' := [.int ((zI ↑(p + m)) - (zI ↑p))]) rfl ?_
          rw [show ((zI ↑(p + m)) - (zI ↑p) : Int32) = zI ↑m from by rw [zI_sub]; congr 1; omega]
          refine v_run 1 (pc' := 81) (ls' := [some (.ref (ad 2)), some (.int (zI ↑i)), some (.int (zI ↑p)), some (.long (y)), none]) (st' := [.int (zI 3), .int (zI ↑m)]) rfl ?_
          refine v_icmp_gt rfl (fun c81 => ?_) (fun c81 => ?_)
          · simp (disch := omega) only [zI_lt, zI_le, zI_eq, zI_lt0, zI_le0, zI_0lt, zI_0le, zI_eq0] at c81
            refine v_run 1 (pc' := 89) (ls' := [some (.ref (ad 2)), some (.int (zI ↑i)), some (.int (zI ↑p)), some (.long (y)), none]) (st' := [.int (zI 4)]) rfl ?_
            exact v_iret rfl rfl rfl ⟨y, by rw [e1, show p + m - p = m by omega]; exact q3, by rw [e1, show p + m - p = m by omega, if_neg (by omega)], by rw [e1]⟩
          · simp (disch := omega) only [zI_lt, zI_le, zI_eq, zI_lt0, zI_le0, zI_0lt, zI_0le, zI_eq0] at c81
            refine v_run 2 (pc' := 89) (ls' := [some (.ref (ad 2)), some (.int (zI ↑i)), some (.int (zI ↑p)), some (.long (y)), none]) (st' := [.int (zI 2)]) rfl ?_
            exact v_iret rfl rfl rfl ⟨y, by rw [e1, show p + m - p = m by omega]; exact q3, by rw [e1, show p + m - p = m by omega, if_pos (by omega)], by rw [e1]⟩
        · rw [zb_n, Bool.not_eq_false] at c30
          have hd : 48 ≤ B (p + m) ∧ B (p + m) ≤ 57 := by have := c30; simpa [dB] using this
          refine v_run 4 (pc' := 39) (ls' := [some (.ref (ad 2)), some (.int (zI ↑i)), some (.int (zI ↑p)), some (.long (y)), none]) (st' := [.ref (ad 2), .long ((y) * (zL 10))]) rfl ?_
          refine v_get rfl (hset_self _ _ _) rfl ?_
          refine v_run 1 (pc' := 43) (ls' := [some (.ref (ad 2)), some (.int (zI ↑i)), some (.int (zI ↑p)), some (.long (y)), none]) (st' := [.ref (ad 2), .ref (ad 3), .long ((y) * (zL 10))]) rfl ?_
          refine v_get rfl (hset_self _ _ _) rfl ?_
          refine v_run 0 (pc' := 46) (ls' := [some (.ref (ad 2)), some (.int (zI ↑i)), some (.int (zI ↑p)), some (.long (y)), none]) (st' := [.int (zI ↑(p + m)), .ref (ad 3), .long ((y) * (zL 10))]) rfl ?_
          refine v_baload' rfl ((hset_ne _ _ (ad_ne hA (by decide))).trans ha.1) (i := (p + m)) rfl (by omega) ?_
          refine v_run 7 (pc' := 56) (ls' := [some (.ref (ad 2)), some (.int (zI ↑i)), some (.int (zI ↑p)), some (.long ((((y) * (zL 10)) + ((zI (B (p + m))).toInt64)) - (zL 48))), none]) (st' := [.ref (ad 2), .ref (ad 2)]) rfl ?_
          refine v_get rfl (hset_self _ _ _) rfl ?_
          refine v_run 2 (pc' := 61) (ls' := [some (.ref (ad 2)), some (.int (zI ↑i)), some (.int (zI ↑p)), some (.long ((((y) * (zL 10)) + ((zI (B (p + m))).toInt64)) - (zL 48))), none]) (st' := [.int ((zI ↑(p + m)) + (zI 1)), .ref (ad 2)]) rfl ?_
          rw [show ((zI ↑(p + m)) + (zI 1) : Int32) = zI ↑(p + m + 1) from zI_s1 _]
          refine v_put rfl (hset_self _ _ _) rfl rfl (Nat.le_of_ble_eq_true rfl) ?_
          rw [hset_hset]
          refine v_run 1 (pc' := 7) (ls' := [some (.ref (ad 2)), some (.int (zI ↑i)), some (.int (zI ↑p)), some (.long ((((y) * (zL 10)) + ((zI (B (p + m))).toInt64)) - (zL 48))), none]) (st' := []) rfl ?_
          exact ihlp (m + 1) _ ⟨by omega, by rw [q2]; exact scn_go (by omega) c30, fun h3 => by rw [q3 (by omega), zI_l (by omega) (by omega), zL_mul, zL_add, zL_sub]; congr 1; simp only [pkF, dF]; omega⟩ (by omega)
  have lq := lp (n + 1) 0 (zL 0) ⟨by omega, rfl, fun _ => rfl⟩ (by omega)
  rw [e0] at lq
  exact lq

set_option maxRecDepth 100000 in
set_option maxHeartbeats 400000 in
theorem r_keyText (G : ssG) (h : ssH) {i : Nat} (h1 : 1 ≤ i) (h2 : i ≤ 21) : ssC G mX5_keyText 0 0 0 [.int (zI ↑i)] h (fun r h' => r = some (.ref (gK G (i - 1))) ∧ h = h') := by
  refine c_of_v okX5_keyText (by decide +kernel) (ls := [some (.int (zI ↑i))]) rfl (Nat.le_of_ble_eq_true rfl) ?_
  refine v_run 1 (pc' := 1) (ls' := [some (.int (zI ↑i))]) (st' := [.int (zI ↑i)]) rfl ?_
  rcases (show i = 1 ∨ i = 2 ∨ i = 3 ∨ i = 4 ∨ i = 5 ∨ i = 6 ∨ i = 7 ∨ i = 8 ∨ i = 9 ∨ i = 10 ∨ i = 11 ∨ i = 12 ∨ i = 13 ∨ i = 14 ∨ i = 15 ∨ i = 16 ∨ i = 17 ∨ i = 18 ∨ i = 19 ∨ i = 20 ∨ i = 21 by omega) with rfl | rfl | rfl | rfl | rfl | rfl | rfl | rfl | rfl | rfl | rfl | rfl | rfl | rfl | rfl | rfl | rfl | rfl | rfl | rfl | rfl
  · refine v_tabIn (t := 96) rfl (by decide) (by decide) rfl rfl ?_
    refine v_ldcS rfl ?_
    exact v_aret rfl rfl ⟨rfl, rfl⟩
  · refine v_tabIn (t := 99) rfl (by decide) (by decide) rfl rfl ?_
    refine v_ldcS rfl ?_
    exact v_aret rfl rfl ⟨rfl, rfl⟩
  · refine v_tabIn (t := 102) rfl (by decide) (by decide) rfl rfl ?_
    refine v_ldcS rfl ?_
    exact v_aret rfl rfl ⟨rfl, rfl⟩
  · refine v_tabIn (t := 105) rfl (by decide) (by decide) rfl rfl ?_
    refine v_ldcS rfl ?_
    exact v_aret rfl rfl ⟨rfl, rfl⟩
  · refine v_tabIn (t := 108) rfl (by decide) (by decide) rfl rfl ?_
    refine v_ldcS rfl ?_
    exact v_aret rfl rfl ⟨rfl, rfl⟩
  · refine v_tabIn (t := 111) rfl (by decide) (by decide) rfl rfl ?_
    refine v_ldcS rfl ?_
    exact v_aret rfl rfl ⟨rfl, rfl⟩
  · refine v_tabIn (t := 114) rfl (by decide) (by decide) rfl rfl ?_
    refine v_ldcS rfl ?_
    exact v_aret rfl rfl ⟨rfl, rfl⟩
  · refine v_tabIn (t := 117) rfl (by decide) (by decide) rfl rfl ?_
    refine v_ldcS rfl ?_
    exact v_aret rfl rfl ⟨rfl, rfl⟩
  · refine v_tabIn (t := 120) rfl (by decide) (by decide) rfl rfl ?_
    refine v_ldcS rfl ?_
    exact v_aret rfl rfl ⟨rfl, rfl⟩
  · refine v_tabIn (t := 123) rfl (by decide) (by decide) rfl rfl ?_
    refine v_ldcS rfl ?_
    exact v_aret rfl rfl ⟨rfl, rfl⟩
  · refine v_tabIn (t := 126) rfl (by decide) (by decide) rfl rfl ?_
    refine v_ldcS rfl ?_
    exact v_aret rfl rfl ⟨rfl, rfl⟩
  · refine v_tabIn (t := 129) rfl (by decide) (by decide) rfl rfl ?_
    refine v_ldcS rfl ?_
    exact v_aret rfl rfl ⟨rfl, rfl⟩
  · refine v_tabIn (t := 132) rfl (by decide) (by decide) rfl rfl ?_
    refine v_ldcS rfl ?_
    exact v_aret rfl rfl ⟨rfl, rfl⟩
  · refine v_tabIn (t := 135) rfl (by decide) (by decide) rfl rfl ?_
    refine v_ldcS rfl ?_
    exact v_aret rfl rfl ⟨rfl, rfl⟩
  · refine v_tabIn (t := 138) rfl (by decide) (by decide) rfl rfl ?_
    refine v_ldcS rfl ?_
    exact v_aret rfl rfl ⟨rfl, rfl⟩
  · refine v_tabIn (t := 141) rfl (by decide) (by decide) rfl rfl ?_
    refine v_ldcS rfl ?_
    exact v_aret rfl rfl ⟨rfl, rfl⟩
  · refine v_tabIn (t := 144) rfl (by decide) (by decide) rfl rfl ?_
    refine v_ldcS rfl ?_
    exact v_aret rfl rfl ⟨rfl, rfl⟩
  · refine v_tabIn (t := 147) rfl (by decide) (by decide) rfl rfl ?_
    refine v_ldcS rfl ?_
    exact v_aret rfl rfl ⟨rfl, rfl⟩
  · refine v_tabIn (t := 150) rfl (by decide) (by decide) rfl rfl ?_
    refine v_ldcS rfl ?_
    exact v_aret rfl rfl ⟨rfl, rfl⟩
  · refine v_tabIn (t := 153) rfl (by decide) (by decide) rfl rfl ?_
    refine v_ldcS rfl ?_
    exact v_aret rfl rfl ⟨rfl, rfl⟩
  · refine v_tabOut (t := 156) rfl (by decide) rfl ?_
    refine v_ldcS rfl ?_
    exact v_aret rfl rfl ⟨rfl, rfl⟩

set_option maxRecDepth 100000 in
set_option maxHeartbeats 400000 in
theorem r_isSpelt (G : ssG) (h : ssH) {ad : Nat → Nat} {l s t k : Int} {x : Int64} {a : Int} {B : Nat → Int} {S P K : Nat → Nat} {V : Nat → Int64} {nx en : Int} {p m q : Nat} (hA : ∀ k l, ad k = ad l → k = l) (hr : h (ad 2) = some (.inr (5, obR ad l s t k x nx en a))) (ha : RdA h ad B S P K V) (hB : ∀ k, -128 ≤ B k ∧ B k ≤ 127) (hq : 1 ≤ q ∧ q ≤ 21) (hp : p + m ≤ 900) : ssC G mX5_isSpelt 4 0 0 [.ref (ad 2), .ref (gK G (q - 1)), .int (zI ↑p), .int (zI ↑(p + m))] h (rI (zb (decide (m = kLn q ∧ ∀ j, j < m → B (p + j) = ((ssSb.getD (q - 1) []).getD j 0).toInt))) h) := by
  refine c_of_v okX5_isSpelt (by decide +kernel) (ls := [some (.ref (ad 2)), some (.ref (gK G (q - 1))), some (.int (zI ↑p)), some (.int (zI ↑(p + m))), none]) rfl (Nat.le_of_ble_eq_true rfl) ?_
  have hkl := (chS_ok ⟨q - 1, by omega⟩).1
  have hkl : kLn q ≤ 7 := hkl
  refine v_run 4 (pc' := 4) (ls' := [some (.ref (ad 2)), some (.ref (gK G (q - 1))), some (.int (zI ↑p)), some (.int (zI ↑(p + m))), none]) (st' := [.ref (gK G (q - 1)), .int ((zI ↑(p + m)) - (zI ↑p))]) rfl ?_
  rw [show ((zI ↑(p + m)) - (zI ↑p) : Int32) = zI ↑m from by rw [zI_sub]; congr 1; omega]
  refine v_callT (My := mJ0_length_8abf5) (As := []) (rest := [.int (zI ↑m)]) (mc := 0) (ms := 0) (show q - 1 < 21 by omega) rfl caJ0_length_8abf5 rfl rfl rfl rfl (s_length G _ (show q - 1 < 21 by omega)) rfl rfl (Nat.le_of_ble_eq_true rfl) (by omega) ?_
  rintro _ _ ⟨rfl, rfl⟩
  refine v_run 0 (pc' := 7) (ls' := [some (.ref (ad 2)), some (.ref (gK G (q - 1))), some (.int (zI ↑p)), some (.int (zI ↑(p + m))), none]) (st' := [.int (zI ↑(kLn q)), .int (zI ↑m)]) rfl ?_
  refine v_icmp_ne rfl (fun c7 => ?_) (fun c7 => ?_)
  · simp (disch := omega) only [zI_lt, zI_le, zI_eq, zI_lt0, zI_le0, zI_0lt, zI_0le, zI_eq0] at c7
    refine v_run 1 (pc' := 22) (ls' := [some (.ref (ad 2)), some (.ref (gK G (q - 1))), some (.int (zI ↑p)), some (.int (zI ↑(p + m))), none]) (st' := [.int (zI 0)]) rfl ?_
    exact v_iret rfl rfl rfl ⟨by rw [zb, if_neg (by simp; omega)], rfl⟩
  · simp (disch := omega) only [zI_lt, zI_le, zI_eq, zI_lt0, zI_le0, zI_0lt, zI_0le, zI_eq0] at c7
    refine v_run 1 (pc' := 11) (ls' := [some (.ref (ad 2)), some (.ref (gK G (q - 1))), some (.int (zI ↑p)), some (.int (zI ↑(p + m))), none]) (st' := [.int (zI ↑p)]) rfl ?_
    refine v_if_lt rfl (fun c11 => ?_) (fun c11 => ?_)
    · exfalso; revert c11; simp (disch := omega) only [zI_lt, zI_le, zI_eq, zI_lt0, zI_le0, zI_0lt, zI_0le, zI_eq0] <;> omega
    · simp (disch := omega) only [zI_lt, zI_le, zI_eq, zI_lt0, zI_le0, zI_0lt, zI_0le, zI_eq0] at c11
      refine v_run 2 (pc' := 18) (ls' := [some (.ref (ad 2)), some (.ref (gK G (q - 1))), some (.int (zI ↑p)), some (.int (zI ↑(p + m))), none]) (st' := [.int (zI 900), .int (zI ↑(p + m))]) rfl ?_
      refine v_icmp_le rfl (fun c18 => ?_) (fun c18 => ?_)
      · simp (disch := omega) only [zI_lt, zI_le, zI_eq, zI_lt0, zI_le0, zI_0lt, zI_0le, zI_eq0] at c18
        have em : m = kLn q := by omega
        refine v_run 2 (pc' := 26) (ls' := [some (.ref (ad 2)), some (.ref (gK G (q - 1))), some (.int (zI ↑p)), some (.int (zI ↑(p + m))), some (.int (zI 0))]) (st' := []) rfl ?_
        have lp : ∀ (f : Nat) (j : Nat), (j ≤ m ∧ ∀ d, d < j → B (p + d) = ((ssSb.getD (q - 1) []).getD d 0).toInt) → m + 1 ≤ j + f → ssV G mX5_isSpelt 4 0 0 (rI (zb (decide (m = kLn q ∧ ∀ j, j < m → B (p + j) = ((ssSb.getD (q - 1) []).getD j 0).toInt))) h) 26 [some (.ref (ad 2)), some (.ref (gK G (q - 1))), some (.int (zI ↑p)), some (.int (zI ↑(p + m))), some (.int (zI ↑j))] [] (h) := by
          intro f
          induction f with
          | zero => intro j hs1 hs2; obtain ⟨q1, q2⟩ := hs1; exact absurd hs2 (by omega)
          | succ f ihlp =>
            intro j hs1 hs2
            obtain ⟨q1, q2⟩ := hs1
            refine v_run 2 (pc' := 29) (ls' := [some (.ref (ad 2)), some (.ref (gK G (q - 1))), some (.int (zI ↑p)), some (.int (zI ↑(p + m))), some (.int (zI ↑j))]) (st' := [.ref (gK G (q - 1)), .int (zI ↑j)]) rfl ?_
            refine v_callT (My := mJ0_length_8abf5) (As := []) (rest := [.int (zI ↑j)]) (mc := 0) (ms := 0) (show q - 1 < 21 by omega) rfl caJ0_length_8abf5 rfl rfl rfl rfl (s_length G _ (show q - 1 < 21 by omega)) rfl rfl (Nat.le_of_ble_eq_true rfl) (by omega) ?_
            rintro _ _ ⟨rfl, rfl⟩
            refine v_run 0 (pc' := 32) (ls' := [some (.ref (ad 2)), some (.ref (gK G (q - 1))), some (.int (zI ↑p)), some (.int (zI ↑(p + m))), some (.int (zI ↑j))]) (st' := [.int (zI ↑(kLn q)), .int (zI ↑j)]) rfl ?_
            refine v_icmp_ge rfl (fun c32 => ?_) (fun c32 => ?_)
            · simp (disch := omega) only [zI_lt, zI_le, zI_eq, zI_lt0, zI_le0, zI_0lt, zI_0le, zI_eq0] at c32
              have ej : j = m := by omega
              refine v_run 1 (pc' := 62) (ls' := [some (.ref (ad 2)), some (.ref (gK G (q - 1))), some (.int (zI ↑p)), some (.int (zI ↑(p + m))), some (.int (zI ↑j))]) (st' := [.int (zI 1)]) rfl ?_
              exact v_iret rfl rfl rfl ⟨by rw [zb, if_pos (by rw [decide_eq_true_eq]; exact ⟨em, fun d hd => q2 d (by omega)⟩)], rfl⟩
            · simp (disch := omega) only [zI_lt, zI_le, zI_eq, zI_lt0, zI_le0, zI_0lt, zI_0le, zI_eq0] at c32
              refine v_run 1 (pc' := 36) (ls' := [some (.ref (ad 2)), some (.ref (gK G (q - 1))), some (.int (zI ↑p)), some (.int (zI ↑(p + m))), some (.int (zI ↑j))]) (st' := [.ref (ad 2)]) rfl ?_
              refine v_get rfl hr rfl ?_
              refine v_run 3 (pc' := 43) (ls' := [some (.ref (ad 2)), some (.ref (gK G (q - 1))), some (.int (zI ↑p)), some (.int (zI ↑(p + m))), some (.int (zI ↑j))]) (st' := [.int ((zI ↑p) + (zI ↑j)), .ref (ad 3)]) rfl ?_
              rw [show ((zI ↑p) + (zI ↑j) : Int32) = zI ↑(p + j) from by rw [zI_add]; rfl]
              refine v_baload' rfl ha.1 (i := (p + j)) rfl (by omega) ?_
              refine v_run 2 (pc' := 47) (ls' := [some (.ref (ad 2)), some (.ref (gK G (q - 1))), some (.int (zI ↑p)), some (.int (zI ↑(p + m))), some (.int (zI ↑j))]) (st' := [.int (zI ↑j), .ref (gK G (q - 1)), .int (zI (B (p + j)))]) rfl ?_
              refine v_callT (My := mJ0_charAt_5068e) (As := [.int (zI ↑j)]) (rest := [.int (zI (B (p + j)))]) (mc := 0) (ms := 0) (show q - 1 < 21 by omega) rfl caJ0_charAt_5068e rfl rfl rfl rfl (s_charAt G _ (show q - 1 < 21 by omega) (show j < ssSl.getD (q - 1) 0 by show j < kLn q; omega)) rfl rfl (Nat.le_of_ble_eq_true rfl) (by omega) ?_
              rintro _ _ ⟨rfl, rfl⟩
              refine v_run 0 (pc' := 50) (ls' := [some (.ref (ad 2)), some (.ref (gK G (q - 1))), some (.int (zI ↑p)), some (.int (zI ↑(p + m))), some (.int (zI ↑j))]) (st' := [.int ((ssSb.getD (q - 1) []).getD j 0), .int (zI (B (p + j)))]) rfl ?_
              have hch : B (p + j) = ((ssSb.getD (q - 1) []).getD j 0).toInt ↔ zI (B (p + j)) = (ssSb.getD (q - 1) []).getD j 0 := by have := hB (p + j); rw [← Int32.toInt_inj, zI_toInt (by omega) (by omega)]
              refine v_icmp_eq rfl (fun c50 => ?_) (fun c50 => ?_)
              · refine v_run 2 (pc' := 26) (ls' := [some (.ref (ad 2)), some (.ref (gK G (q - 1))), some (.int (zI ↑p)), some (.int (zI ↑(p + m))), some (.int ((zI ↑j) + zI 1))]) (st' := []) rfl ?_
                rw [zI_s1]
                exact ihlp (j + 1) ⟨by omega, fun d hd => by
                  by_cases e : d = j
                  · rw [e]; exact hch.mpr c50
                  · exact q2 d (by omega)⟩ (by omega)
              · refine v_run 1 (pc' := 54) (ls' := [some (.ref (ad 2)), some (.ref (gK G (q - 1))), some (.int (zI ↑p)), some (.int (zI ↑(p + m))), some (.int (zI ↑j))]) (st' := [.int (zI 0)]) rfl ?_
                exact v_iret rfl rfl rfl ⟨by rw [zb, if_neg (by rw [decide_eq_true_eq]; exact fun z => c50 (hch.mp (z.2 j (by omega))))], rfl⟩
        exact lp (m + 1) 0 ⟨by omega, fun d hd => absurd hd (by omega)⟩ (by omega)
      · exfalso; revert c18; simp (disch := omega) only [zI_lt, zI_le, zI_eq, zI_lt0, zI_le0, zI_0lt, zI_0le, zI_eq0] <;> omega

