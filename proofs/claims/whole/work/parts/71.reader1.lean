/-! ===== the class's reader ===== -/
abbrev arB (n : Nat) (B : Nat → Int) : ssE := .inl (1, n, .inl (fun j => zI (B j)))
abbrev arJ (n : Nat) (V : Nat → Int64) : ssE := .inl (2, n, .inr (.inl V))
abbrev obR (ad : Nat → Nat) (l s t k : Int) (x : Int64) (nx en a : Int) : List Value := [.int (zI l), .int (zI s), .int (zI t), .int (zI k), .long x, .ref (ad 3), .ref (ad 4), .ref (ad 5), .ref (ad 6), .ref (ad 7), .ref (ad 149), .int (zI nx), .int (zI en), .int (zI a)]
/-- the keywords' letters, as the class keeps them -/
def kR (k : Nat) : Int64 := if 1 ≤ k ∧ k < 22 then zL ↑(kw k) else zL 0
theorem key_none {w : Nat} (h : ∀ d, 1 ≤ d → d < 22 → ¬ kw d = w) : keyOf w = 0 := by
  rcases Nat.eq_zero_or_pos (keyOf w) with e | e
  · exact e
  · exact absurd (kfo_kw w 21 e) (h _ e (Nat.lt_succ_of_le (keyOf_le w)))
def RdA (h : ssH) (ad : Nat → Nat) (B : Nat → Int) (S P K : Nat → Nat) (V : Nat → Int64) : Prop := h (ad 3) = some (arB 900 B) ∧ h (ad 4) = some (ar 901 S) ∧ h (ad 5) = some (ar 901 P) ∧ h (ad 6) = some (ar 901 K) ∧ h (ad 7) = some (arJ 901 V)
set_option maxRecDepth 100000 in
set_option maxHeartbeats 400000 in
theorem r_isLetter (G : ssG) (h : ssH) (x : Int) (hx : -2147483648 ≤ x ∧ x < 2147483648) : ssC G mX5_isLetter 0 0 0 [.int (zI x)] h (rI (zb (lB x)) h) := by
  refine c_of_v okX5_isLetter (by decide +kernel) (ls := [some (.int (zI x))]) rfl (Nat.le_of_ble_eq_true rfl) ?_
  refine v_run 2 (pc' := 3) (ls' := [some (.int (zI x))]) (st' := [.int (zI 97), .int (zI x)]) rfl ?_
  refine v_icmp_lt rfl (fun c3 => ?_) (fun c3 => ?_)
  · simp (disch := omega) only [zI_lt, zI_le, zI_eq, zI_lt0, zI_le0, zI_0lt, zI_0le, zI_eq0] at c3
    refine v_run 1 (pc' := 17) (ls' := [some (.int (zI x))]) (st' := [.int (zI 0)]) rfl ?_
    exact v_iret rfl rfl rfl ⟨by rw [zb, if_neg (by simp [lB]; omega)], rfl⟩
  · simp (disch := omega) only [zI_lt, zI_le, zI_eq, zI_lt0, zI_le0, zI_0lt, zI_0le, zI_eq0] at c3
    refine v_run 2 (pc' := 9) (ls' := [some (.int (zI x))]) (st' := [.int (zI 122), .int (zI x)]) rfl ?_
    refine v_icmp_gt rfl (fun c9 => ?_) (fun c9 => ?_)
    · simp (disch := omega) only [zI_lt, zI_le, zI_eq, zI_lt0, zI_le0, zI_0lt, zI_0le, zI_eq0] at c9
      refine v_run 1 (pc' := 17) (ls' := [some (.int (zI x))]) (st' := [.int (zI 0)]) rfl ?_
      exact v_iret rfl rfl rfl ⟨by rw [zb, if_neg (by simp [lB]; omega)], rfl⟩
    · simp (disch := omega) only [zI_lt, zI_le, zI_eq, zI_lt0, zI_le0, zI_0lt, zI_0le, zI_eq0] at c9
      refine v_run 2 (pc' := 17) (ls' := [some (.int (zI x))]) (st' := [.int (zI 1)]) rfl ?_
      exact v_iret rfl rfl rfl ⟨by rw [zb, if_pos (by simp [lB]; omega)], rfl⟩

set_option maxRecDepth 100000 in
set_option maxHeartbeats 400000 in
theorem r_isDigit (G : ssG) (h : ssH) (x : Int) (hx : -2147483648 ≤ x ∧ x < 2147483648) : ssC G mX5_isDigit 0 0 0 [.int (zI x)] h (rI (zb (dB x)) h) := by
  refine c_of_v okX5_isDigit (by decide +kernel) (ls := [some (.int (zI x))]) rfl (Nat.le_of_ble_eq_true rfl) ?_
  refine v_run 2 (pc' := 3) (ls' := [some (.int (zI x))]) (st' := [.int (zI 48), .int (zI x)]) rfl ?_
  refine v_icmp_lt rfl (fun c3 => ?_) (fun c3 => ?_)
  · simp (disch := omega) only [zI_lt, zI_le, zI_eq, zI_lt0, zI_le0, zI_0lt, zI_0le, zI_eq0] at c3
    refine v_run 1 (pc' := 17) (ls' := [some (.int (zI x))]) (st' := [.int (zI 0)]) rfl ?_
    exact v_iret rfl rfl rfl ⟨by rw [zb, if_neg (by simp [dB]; omega)], rfl⟩
  · simp (disch := omega) only [zI_lt, zI_le, zI_eq, zI_lt0, zI_le0, zI_0lt, zI_0le, zI_eq0] at c3
    refine v_run 2 (pc' := 9) (ls' := [some (.int (zI x))]) (st' := [.int (zI 57), .int (zI x)]) rfl ?_
    refine v_icmp_gt rfl (fun c9 => ?_) (fun c9 => ?_)
    · simp (disch := omega) only [zI_lt, zI_le, zI_eq, zI_lt0, zI_le0, zI_0lt, zI_0le, zI_eq0] at c9
      refine v_run 1 (pc' := 17) (ls' := [some (.int (zI x))]) (st' := [.int (zI 0)]) rfl ?_
      exact v_iret rfl rfl rfl ⟨by rw [zb, if_neg (by simp [dB]; omega)], rfl⟩
    · simp (disch := omega) only [zI_lt, zI_le, zI_eq, zI_lt0, zI_le0, zI_0lt, zI_0le, zI_eq0] at c9
      refine v_run 2 (pc' := 17) (ls' := [some (.int (zI x))]) (st' := [.int (zI 1)]) rfl ?_
      exact v_iret rfl rfl rfl ⟨by rw [zb, if_pos (by simp [dB]; omega)], rfl⟩

set_option maxRecDepth 100000 in
set_option maxHeartbeats 400000 in
theorem r_readWhole (G : ssG) (h : ssH) {ad : Nat → Nat} {l s t k : Int} {x : Int64} {a : Int} {B : Nat → Int} {S P K : Nat → Nat} {V : Nat → Int64} {p n i : Nat} (hA : ∀ k l, ad k = ad l → k = l) (hr : h (ad 2) = some (.inr (5, obR ad l s t k x ↑p ↑n a))) (ha : RdA h ad B S P K V) (hB : ∀ k, -128 ≤ B k ∧ B k ≤ 127) (hp : p ≤ n) (hn : n ≤ 900) (hi : i ≤ 900) : ssC G mX5_readWhole 1 0 0 [.ref (ad 2), .int (zI ↑i)] h (fun r h' => ∃ y : Int64, (scn B n dB p - p ≤ 3 → y = zL ↑(pkF (dF B p) 10 (scn B n dB p - p))) ∧ r = some (.int (zI (if scn B n dB p - p ≤ 3 then 2 else 4))) ∧ hset (hset h (ad 2) (.inr (5, obR ad l s t k x (↑(scn B n dB p)) ↑n a))) (ad 7) (arJ 901 (vp_updL V i y)) = h') := by
  refine c_of_v okX5_readWhole (by decide +kernel) (ls := [some (.ref (ad 2)), some (.int (zI ↑i)), none, none, none]) rfl (Nat.le_of_ble_eq_true rfl) ?_
  refine v_run 1 (pc' := 1) (ls' := [some (.ref (ad 2)), some (.int (zI ↑i)), none, none, none]) (st' := [.ref (ad 2)]) rfl ?_
  refine v_get rfl hr rfl ?_
  refine v_run 3 (pc' := 7) (ls' := [some (.ref (ad 2)), some (.int (zI ↑i)), some (.int (zI ↑p)), some (.long (zL 0)), none]) (st' := []) rfl ?_
  have e0 : hset h (ad 2) (.inr (5, obR ad l s t k x (↑(p + 0)) ↑n a)) = h := hset_same h hr
  have lp : ∀ (f : Nat) (m : Nat) (y : Int64), (p + m ≤ n ∧ scn B n dB p = scn B n dB (p + m) ∧ (m ≤ 3 → y = zL ↑(pkF (dF B p) 10 m))) → n + 1 ≤ p + m + f → ssV G mX5_readWhole 1 0 0 (fun r h' => ∃ y : Int64, (scn B n dB p - p ≤ 3 → y = zL ↑(pkF (dF B p) 10 (scn B n dB p - p))) ∧ r = some (.int (zI (if scn B n dB p - p ≤ 3 then 2 else 4))) ∧ hset (hset h (ad 2) (.inr (5, obR ad l s t k x (↑(scn B n dB p)) ↑n a))) (ad 7) (arJ 901 (vp_updL V i y)) = h') 7 [some (.ref (ad 2)), some (.int (zI ↑i)), some (.int (zI ↑p)), some (.long (y)), none] [] (hset h (ad 2) (.inr (5, obR ad l s t k x (↑(p + m)) ↑n a))) := by
    intro f
    induction f with
    | zero => intro m y hs1 hs2; obtain ⟨q1, q2, q3⟩ := hs1; exact absurd hs2 (by omega)
    | succ f ihlp =>
      intro m y hs1 hs2
      obtain ⟨q1, q2, q3⟩ := hs1
      refine v_run 1 (pc' := 8) (ls' := [some (.ref (ad 2)), some (.int (zI ↑i)), some (.int (zI ↑p)), some (.long (y)), none]) (st' := [.ref (ad 2)]) rfl ?_
      refine v_get rfl (hset_self _ _ _) rfl ?_
      refine v_run 1 (pc' := 12) (ls' := [some (.ref (ad 2)), some (.int (zI ↑i)), some (.int (zI ↑p)), some (.long (y)), none]) (st' := [.ref (ad 2), .int (zI ↑(p + m))]) rfl ?_
      refine v_get rfl (hset_self _ _ _) rfl ?_
      refine v_run 0 (pc' := 15) (ls' := [some (.ref (ad 2)), some (.int (zI ↑i)), some (.int (zI ↑p)), some (.long (y)), none]) (st' := [.int (zI ↑n), .int (zI ↑(p + m))]) rfl ?_
      refine v_icmp_ge rfl (fun c15 => ?_) (fun c15 => ?_)
      · simp (disch := omega) only [zI_lt, zI_le, zI_eq, zI_lt0, zI_le0, zI_0lt, zI_0le, zI_eq0] at c15
        have e1 : scn B n dB p = p + m := by rw [q2]; exact scn_stop (by omega)
        refine v_run 1 (pc' := 68) (ls' := [some (.ref (ad 2)), some (.int (zI ↑i)), some (.int (zI ↑p)), some (.long (y)), none]) (st' := [.ref (ad 2)]) rfl ?_
        refine v_get rfl (hset_self _ _ _) rfl ?_
        refine v_run 2 (pc' := 73) (ls' := [some (.ref (ad 2)), some (.int (zI ↑i)), some (.int (zI ↑p)), some (.long (y)), none]) (st' := [.long (y), .int (zI ↑i), .ref (ad 7)]) rfl ?_
        refine v_lastore' rfl ((hset_ne _ _ (ad_ne hA (by decide))).trans ha.2.2.2.2) (i := i) rfl (by omega) ?_
        refine v_run 1 (pc' := 75) (ls' := [some (.ref (ad 2)), some (.int (zI ↑i)), some (.int (zI ↑p)), some (.long (y)), none]) (st' := [.ref (ad 2)]) rfl ?_
        refine v_get rfl ((hset_ne _ _ (ad_ne hA (by decide))).trans (hset_self _ _ _)) rfl ?_
        refine v_run 2 (pc' := 80) (ls' := [some (.ref (ad 2)), some (.int (zI ↑i)), some (.int (zI ↑p)), some (.long (y)), none]) (st' := [.int ((zI ↑(p + m)) - (zI ↑p))]) rfl ?_
        rw [show ((zI ↑(p + m)) - (zI ↑p) : Int32) = zI ↑m from by rw [zI_sub]; congr 1; omega]
        refine v_run 1 (pc' := 81) (ls' := [some (.ref (ad 2)), some (.int (zI ↑i)), some (.int (zI ↑p)), some (.long (y)), none]) (st' := [.int (zI 3), .int (zI ↑m)]) rfl ?_
        refine v_icmp_gt rfl (fun c81 => ?_) (fun c81 => ?_)
        · simp (disch := omega) only [zI_lt, zI_le, zI_eq, zI_lt0, zI_le0, zI_0lt, zI_0le, zI_eq0] at c81
          refine v_run 1 (pc' := 89) (ls' := [some (.ref (ad 2)), some (.int (zI ↑i)), some (.int (zI ↑p)), some (.long (y)), none]) (st' := [.int (zI 4)]) rfl ?_
          exact v_iret rfl rfl rfl ⟨y, by rw [e1, show p + m - p = m by omega]; exact q3, by rw [e1, show p + m - p = m by omega, if_neg (by omega)], by rw [e1]⟩
        · simp (disch := omega) only [zI_lt, zI_le, zI_eq, zI_lt0, zI_le0, zI_0lt, zI_0le, zI_eq0] at c81
          refine v_run 2 (pc' := 89) (ls' := [some (.ref (ad 2)), some (.int (zI ↑i)), some (.int (zI ↑p)), some (.long (y)), none]) (st' := [.int (zI 2)]) rfl ?_
          exact v_iret rfl rfl rfl ⟨y, by rw [e1, show p + m - p = m by omega]; exact q3, by rw [e1, show p + m - p = m by omega, if_pos (by omega)], by rw [e1]⟩
      · simp (disch := omega) only [zI_lt, zI_le, zI_eq, zI_lt0, zI_le0, zI_0lt, zI_0le, zI_eq0] at c15
        refine v_run 1 (pc' := 19) (ls' := [some (.ref (ad 2)), some (.int (zI ↑i)), some (.int (zI ↑p)), some (.long (y)), none]) (st' := [.ref (ad 2)]) rfl ?_
        refine v_get rfl (hset_self _ _ _) rfl ?_
        refine v_run 1 (pc' := 23) (ls' := [some (.ref (ad 2)), some (.int (zI ↑i)), some (.int (zI ↑p)), some (.long (y)), none]) (st' := [.ref (ad 2), .ref (ad 3)]) rfl ?_
        refine v_get rfl (hset_self _ _ _) rfl ?_
        refine v_run 0 (pc' := 26) (ls' := [some (.ref (ad 2)), some (.int (zI ↑i)), some (.int (zI ↑p)), some (.long (y)), none]) (st' := [.int (zI ↑(p + m)), .ref (ad 3)]) rfl ?_
        refine v_baload' rfl ((hset_ne _ _ (ad_ne hA (by decide))).trans ha.1) (i := (p + m)) rfl (by omega) ?_
        refine v_run 0 (pc' := 27) (ls' := [some (.ref (ad 2)), some (.int (zI ↑i)), some (.int (zI ↑p)), some (.long (y)), none]) (st' := [.int (zI (B (p + m)))]) rfl ?_
        refine v_callS (My := mX5_isDigit) (As := [.int (zI (B (p + m)))]) (rest := []) (mc := 0) (ms := 0) rfl caX5_isDigit rfl rfl (r_isDigit G _ (B (p + m)) (by have := hB (p + m); omega)) rfl rfl (Nat.le_of_ble_eq_true rfl) (by omega) ?_
        rintro _ _ ⟨rfl, rfl⟩
        refine v_run 0 (pc' := 30) (ls' := [some (.ref (ad 2)), some (.int (zI ↑i)), some (.int (zI ↑p)), some (.long (y)), none]) (st' := [.int (zb (dB (B (p + m))))]) rfl ?_
        refine v_if_eq rfl (fun c30 => ?_) (fun c30 => ?_)
        · rw [zb_n] at c30
          have e1 : scn B n dB p = p + m := by rw [q2]; exact scn_end (by omega) c30
          refine v_run 1 (pc' := 68) (ls' := [some (.ref (ad 2)), some (.int (zI ↑i)), some (.int (zI ↑p)), some (.long (y)), none]) (st' := [.ref (ad 2)]) rfl ?_
          refine v_get rfl (hset_self _ _ _) rfl ?_
          refine v_run 2 (pc' := 73) (ls' := [some (.ref (ad 2)), some (.int (zI ↑i)), some (.int (zI ↑p)), some (.long (y)), none]) (st' := [.long (y), .int (zI ↑i), .ref (ad 7)]) rfl ?_
          refine v_lastore' rfl ((hset_ne _ _ (ad_ne hA (by decide))).trans ha.2.2.2.2) (i := i) rfl (by omega) ?_
          refine v_run 1 (pc' := 75) (ls' := [some (.ref (ad 2)), some (.int (zI ↑i)), some (.int (zI ↑p)), some (.long (y)), none]) (st' := [.ref (ad 2)]) rfl ?_
          refine v_get rfl ((hset_ne _ _ (ad_ne hA (by decide))).trans (hset_self _ _ _)) rfl ?_
          refine v_run 2 (pc' := 80) (ls' := [some (.ref (ad 2)), some (.int (zI ↑i)), some (.int (zI ↑p)), some (.long (y)), none]) (st' := [.int ((zI ↑(p + m)) - (zI ↑p))]) rfl ?_
          rw [show ((zI ↑(p + m)) - (zI ↑p) : Int32) = zI ↑m from by rw [zI_sub]; congr 1; omega]
          refine v_run 1 (pc' := 81) (ls' := [some (.ref (ad 2)), some (.int (zI ↑i)), some (.int (zI ↑p)), some (.long (y)), none]) (st' := [.int (zI 3), .int (zI ↑m)]) rfl ?_
          refine v_icmp_gt rfl (fun c81 => ?_) (fun c81 => ?_)
          · simp (disch := omega) only [zI_lt, zI_le, zI_eq, zI_lt0, zI_le0, zI_0lt, zI_0le, zI_eq0] at c81
            refine v_run 1 (pc' := 89) (ls' := [some (.ref (ad 2)), some (.int (zI ↑i)), some (.int (zI ↑p)), some (.long (y)), none]) (st' := [.int (zI 4)]) rfl ?_
            exact v_iret rfl rfl rfl ⟨y, by rw [e1, show p + m - p = m by omega]; exact q3, by rw [e1, show p + m - p = m by omega, if_neg (by omega)], by rw [e1]⟩
          · simp (disch := omega) only [zI_lt, zI_le, zI_eq, zI_lt0, zI_le0, zI_0lt, zI_0le, zI_eq0] at c81
            refine v_run 2 (pc' := 89) (ls' := [some (.ref (ad 2)), some (.int (zI ↑i)), some (.int (zI ↑p)), some (.long (y)), none]) (st' := [.int (zI 2)]) rfl ?_
            exact v_iret rfl rfl rfl ⟨y, by rw [e1, show p + m - p = m by omega]; exact q3, by rw [e1, show p + m - p = m by omega, if_pos (by omega)], by rw [e1]⟩
        · rw [zb_n, Bool.not_eq_false] at c30
          have hd : 48 ≤ B (p + m) ∧ B (p + m) ≤ 57 := by have := c30; simpa [dB] using this
          refine v_run 4 (pc' := 39) (ls' := [some (.ref (ad 2)), some (.int (zI ↑i)), some (.int (zI ↑p)), some (.long (y)), none]) (st' := [.ref (ad 2), .long ((y) * (zL 10))]) rfl ?_
          refine v_get rfl (hset_self _ _ _) rfl ?_
          refine v_run 1 (pc' := 43) (ls' := [some (.ref (ad 2)), some (.int (zI ↑i)), some (.int (zI ↑p)), some (.long (y)), none]) (st' := [.ref (ad 2), .ref (ad 3), .long ((y) * (zL 10))]) rfl ?_
          refine v_get rfl (hset_self _ _ _) rfl ?_
          refine v_run 0 (pc' := 46) (ls' := [some (.ref (ad 2)), some (.int (zI ↑i)), some (.int (zI ↑p)), some (.long (y)), none]) (st' := [.int (zI ↑(p + m)), .ref (ad 3), .long ((y) * (zL 10))]) rfl ?_
          refine v_baload' rfl ((hset_ne _ _ (ad_ne hA (by decide))).trans ha.1) (i := (p + m)) rfl (by omega) ?_
          refine v_run 7 (pc' := 56) (ls' := [some (.ref (ad 2)), some (.int (zI ↑i)), some (.int (zI ↑p)), some (.long ((((y) * (zL 10)) + ((zI (B (p + m))).toInt64)) - (zL 48))), none]) (st' := [.ref (ad 2), .ref (ad 2)]) rfl ?_
          refine v_get rfl (hset_self _ _ _) rfl ?_
          refine v_run 2 (pc' := 61) (ls' := [some (.ref (ad 2)), some (.int (zI ↑i)), some (.int (zI ↑p)), some (.long ((((y) * (zL 10)) + ((zI (B (p + m))).toInt64)) - (zL 48))), none]) (st' := [.int ((zI ↑(p + m)) + (zI 1)), .ref (ad 2)]) rfl ?_
          rw [show ((zI ↑(p + m)) + (zI 1) : Int32) = zI ↑(p + m + 1) from zI_s1 _]
          refine v_put rfl (hset_self _ _ _) rfl rfl (Nat.le_of_ble_eq_true rfl) ?_
          rw [hset_hset]
          refine v_run 1 (pc' := 7) (ls' := [some (.ref (ad 2)), some (.int (zI ↑i)), some (.int (zI ↑p)), some (.long ((((y) * (zL 10)) + ((zI (B (p + m))).toInt64)) - (zL 48))), none]) (st' := []) rfl ?_
          exact ihlp (m + 1) _ ⟨by omega, by rw [q2]; exact scn_go (by omega) c30, fun h3 => by rw [q3 (by omega), zI_l (by omega) (by omega), zL_mul, zL_add, zL_sub]; congr 1; simp only [pkF, dF]; omega⟩ (by omega)
  have lq := lp (n + 1) 0 (zL 0) ⟨by omega, rfl, fun _ => rfl⟩ (by omega)
  rw [e0] at lq
  exact lq

set_option maxRecDepth 100000 in
set_option maxHeartbeats 400000 in
theorem r_withLetter (G : ssG) (h : ssH) (y : Int64) (c : Int32)  : ssC G mX5_withLetter 0 0 0 [.long (y), .int (c)] h (rL ((y <<< ((zI 5).toInt64 &&& 63)) ||| ((c - zI 97) + zI 1).toInt64) h) := by
  refine c_of_v okX5_withLetter (by decide +kernel) (ls := [some (.long (y)), none, some (.int (c))]) rfl (Nat.le_of_ble_eq_true rfl) ?_
  refine v_run 10 (pc' := 11) (ls' := [some (.long (y)), none, some (.int (c))]) (st' := [.long (((y) <<< ((zI 5).toInt64 &&& 63)) ||| ((((c) - (zI 97)) + (zI 1)).toInt64))]) rfl ?_
  exact v_lret rfl rfl ⟨rfl, rfl⟩

set_option maxRecDepth 100000 in
set_option maxHeartbeats 400000 in
theorem r_keyOf (G : ssG) (h : ssH) {ad : Nat → Nat} {l s t k : Int} {x : Int64} {a : Int} {B : Nat → Int} {S P K : Nat → Nat} {V : Nat → Int64} {nx en : Int} {w : Nat} (hr : h (ad 2) = some (.inr (5, obR ad l s t k x nx en a))) (ha : RdA h ad B S P K V) (hk : h (ad 149) = some (arJ 22 kR)) (hw : w < 1099511627776) : ssC G mX5_keyOf 0 0 0 [.ref (ad 2), .long (zL ↑w)] h (rI (zI ↑(keyOf w)) h) := by
  refine c_of_v okX5_keyOf (by decide +kernel) (ls := [some (.ref (ad 2)), some (.long (zL ↑w)), none, none]) rfl (Nat.le_of_ble_eq_true rfl) ?_
  refine v_run 2 (pc' := 2) (ls' := [some (.ref (ad 2)), some (.long (zL ↑w)), none, some (.int (zI 1))]) (st' := []) rfl ?_
  have lp : ∀ (f : Nat) (q : Nat), (1 ≤ q ∧ q ≤ 22 ∧ ∀ d, 1 ≤ d → d < q → ¬ kw d = w) → 22 + 1 ≤ q + f → ssV G mX5_keyOf 0 0 0 (rI (zI ↑(keyOf w)) h) 2 [some (.ref (ad 2)), some (.long (zL ↑w)), none, some (.int (zI ↑q))] [] (h) := by
    intro f
    induction f with
    | zero => intro q hs1 hs2; obtain ⟨q1, q2, q3⟩ := hs1; exact absurd hs2 (by omega)
    | succ f ihlp =>
      intro q hs1 hs2
      obtain ⟨q1, q2, q3⟩ := hs1
      refine v_run 2 (pc' := 5) (ls' := [some (.ref (ad 2)), some (.long (zL ↑w)), none, some (.int (zI ↑q))]) (st' := [.int (zI 21), .int (zI ↑q)]) rfl ?_
      refine v_icmp_gt rfl (fun c5 => ?_) (fun c5 => ?_)
      · simp (disch := omega) only [zI_lt, zI_le, zI_eq, zI_lt0, zI_le0, zI_0lt, zI_0le, zI_eq0] at c5
        refine v_run 1 (pc' := 28) (ls' := [some (.ref (ad 2)), some (.long (zL ↑w)), none, some (.int (zI ↑q))]) (st' := [.int (zI 0)]) rfl ?_
        exact v_iret rfl rfl rfl ⟨by rw [key_none (fun d e1 e2 => q3 d e1 (by omega))]; rfl, rfl⟩
      · simp (disch := omega) only [zI_lt, zI_le, zI_eq, zI_lt0, zI_le0, zI_0lt, zI_0le, zI_eq0] at c5
        have f5 := (kw_facts ⟨q, by omega⟩ q1).2.2.2.2
        simp only at f5
        refine v_run 1 (pc' := 9) (ls' := [some (.ref (ad 2)), some (.long (zL ↑w)), none, some (.int (zI ↑q))]) (st' := [.ref (ad 2)]) rfl ?_
        refine v_get rfl hr rfl ?_
        refine v_run 1 (pc' := 13) (ls' := [some (.ref (ad 2)), some (.long (zL ↑w)), none, some (.int (zI ↑q))]) (st' := [.int (zI ↑q), .ref (ad 149)]) rfl ?_
        refine v_laload' rfl hk (i := q) rfl (by omega) ?_
        refine v_run 0 (pc' := 14) (ls' := [some (.ref (ad 2)), some (.long (zL ↑w)), none, some (.int (zI ↑q))]) (st' := [.long (kR q)]) rfl ?_
        rw [show kR q = zL ↑(kw q) from if_pos (by omega)]
        refine v_run 2 (pc' := 16) (ls' := [some (.ref (ad 2)), some (.long (zL ↑w)), none, some (.int (zI ↑q))]) (st' := [.int (lg_cmp (zL ↑(kw q)) (zL ↑w))]) rfl ?_
        refine v_if_ne rfl (fun c16 => ?_) (fun c16 => ?_)
        · rw [lg_eq0, zL_eq (by omega) (by omega) (by omega) (by omega)] at c16
          refine v_run 2 (pc' := 2) (ls' := [some (.ref (ad 2)), some (.long (zL ↑w)), none, some (.int ((zI ↑q) + zI 1))]) (st' := []) rfl ?_
          rw [zI_s1]
          exact ihlp (q + 1) ⟨by omega, by omega, fun d e1 e2 => by
            by_cases e : d = q
            · rw [e]; omega
            · exact q3 d e1 (by omega)⟩ (by omega)
        · rw [lg_eq0, zL_eq (by omega) (by omega) (by omega) (by omega)] at c16
          refine v_run 1 (pc' := 20) (ls' := [some (.ref (ad 2)), some (.long (zL ↑w)), none, some (.int (zI ↑q))]) (st' := [.int (zI ↑q)]) rfl ?_
          exact v_iret rfl rfl rfl ⟨by rw [(keyOf_iff (w := w) q1 (by omega)).mpr (by omega)], rfl⟩
  exact lp 23 1 ⟨by omega, by omega, fun d e1 e2 => absurd e1 (by omega)⟩ (by omega)

