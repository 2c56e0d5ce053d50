def plInv (hk : Nat) (W : Nat → Nat → Nat) (s tk : Nat) (f2 E : Nat → Nat) : Prop := (∀ t, t < s → E t = W t (f2 t)) ∧ (∀ t, t < s → f2 t < hk) ∧ injN f2 s ∧ (∀ u, u < 6 → (tk / 2 ^ u % 2 = 1 ↔ ∃ t, t < s ∧ f2 t = u)) ∧ tk < 64
def plPost (ad : Nat → Nat) (pl : Nat) (σ : sT) (h0 : ssH) (i f3 : Nat → Nat) (s : Nat) (f2 E : Nat → Nat) (st : hS) : Option Value → ssH → Prop := fun r h' => r = none ∧ ∃ f2' E', HWt ad pl σ h0 h' st.1 i st.2 f2' f3 E' ∧ (∀ t, t < s ∨ i 5 ≤ t → f2' t = f2 t) ∧ (∀ t, t < s → E' t = E t) ∧ (-1 ≤ st.1 ∧ st.1 ≤ 594)
theorem bit_or (a b k : Nat) : (a ||| b) / 2 ^ k % 2 = 1 ↔ a / 2 ^ k % 2 = 1 ∨ b / 2 ^ k % 2 = 1 := by
  have h := Nat.testBit_or a b k
  simp only [Nat.testBit_eq_decide_div_mod_eq] at h
  by_cases h1 : a / 2 ^ k % 2 = 1 <;> by_cases h2 : b / 2 ^ k % 2 = 1 <;> simp_all
theorem bit_pow (u k : Nat) : 2 ^ u / 2 ^ k % 2 = 1 ↔ u = k := by
  have h := Nat.testBit_two_pow (n := u) (m := k)
  simp only [Nat.testBit_eq_decide_div_mod_eq] at h
  simpa using h
theorem plInv_s {hk s tk u v : Nat} {W : Nat → Nat → Nat} {f2 E X Y : Nat → Nat} (h : plInv hk W s tk f2 E) (hX : ∀ t, t < s → X t = f2 t) (hY : ∀ t, t < s → Y t = E t) (hu : u < hk) (hu6 : u < 6) (hn : ¬ ∃ t, t < s ∧ f2 t = u) (hv : v = W s u) : plInv hk W (s + 1) (tk ||| 2 ^ u) (fun j => if j = s then u else X j) (fun j => if j = s then v else Y j) := by
  obtain ⟨h1, h2, h3, h4, h5⟩ := h
  refine ⟨fun t ht => ?_, fun t ht => ?_, fun x hx y hy hxy => ?_, fun w hw => ?_, ?_⟩
  · by_cases e : t = s
    · subst e; simp [hv]
    · simp [e]; rw [hX t (by omega), hY t (by omega)]; exact h1 t (by omega)
  · by_cases e : t = s
    · simp [e]; exact hu
    · simp [e]; rw [hX t (by omega)]; exact h2 t (by omega)
  · by_cases e : x = s <;> by_cases e2 : y = s
    · omega
    · simp [e, e2] at hxy; exact absurd ⟨y, by omega, by rw [← hX y (by omega)]; exact hxy.symm⟩ hn
    · simp [e, e2] at hxy; exact absurd ⟨x, by omega, by rw [← hX x (by omega)]; exact hxy⟩ hn
    · simp [e, e2] at hxy; exact h3 x (by omega) y (by omega) (by rw [← hX x (by omega), ← hX y (by omega)]; exact hxy)
  · rw [bit_or, bit_pow, h4 w hw]
    constructor
    · rintro (⟨t, ht, e⟩ | e)
      · exact ⟨t, by omega, by show (if t = s then u else X t) = w; rw [if_neg (by omega), hX t ht]; exact e⟩
      · exact ⟨s, by omega, by show (if s = s then u else X s) = w; rw [if_pos rfl]; exact e⟩
    · rintro ⟨t, ht, e⟩
      replace e : (if t = s then u else X t) = w := e
      by_cases q : t = s
      · right; rw [if_pos q] at e; exact e
      · left; rw [if_neg q, hX t (by omega)] at e; exact ⟨t, by omega, e⟩
  · exact Nat.or_lt_two_pow (n := 6) h5 (Nat.lt_of_le_of_lt (Nat.pow_le_pow_right (n := 2) (by decide) (show u ≤ 5 by omega)) (by decide))
set_option maxRecDepth 100000 in
set_option maxHeartbeats 400000 in
theorem k_place0 (G : ssG) (h : ssH) {ad : Nat → Nat} {pl : Nat} {σ : sT} {h0 : ssH} {b : Int} {i f1 f2 f3 E : Nat → Nat} {W : Nat → Nat → Nat} (s tk : Nat) (hA : ∀ k l, ad k = ad l → k = l) (hw : HWt ad pl σ h0 h b i f1 f2 f3 E) (hi : i 5 ≤ 6 ∧ i 6 ≤ 6 ∧ i 7 ≤ 6) (hW : ∀ s k, s < i 5 → k < i 6 → f3 (s * 6 + k) = W s k ∧ W s k ≤ 99) (hbd : ∀ a : Nat → Nat, (∀ t, t < i 5 → a t < i 6) → hv (i 7) (i 5) (fun t => W t (a t)) ≤ i 8) (hi8 : i 8 ≤ 594) (hv0 : plInv (i 6) W s tk f2 E) (hb : -1 ≤ b ∧ b ≤ 594) (hs : s = i 5) : ssC G mX1_place 3 0 0 [.ref (ad 138), .int (zI ↑s), .int (zI ↑tk)] h (plPost ad pl σ h0 i f3 s f2 E (hgL (fun a => hv (i 7) (i 5) (fun t => W t (a t))) (i 5) (i 6) 0 s f2 (b, f1))) := by
  refine c_of_v okX1_place (by decide +kernel) (ls := [some (.ref (ad 138)), some (.int (zI ↑s)), some (.int (zI ↑tk)), none]) rfl (Nat.le_of_ble_eq_true rfl) ?_
  obtain ⟨hi5, hi6, hi7⟩ := hi
  refine v_run 2 (pc' := 2) (ls' := [some (.ref (ad 138)), some (.int (zI ↑s)), some (.int (zI ↑tk)), none]) (st' := [.ref (ad 138), .int (zI ↑s)]) rfl ?_
  refine v_get rfl hw.2.2.1.1 rfl ?_
  refine v_run 0 (pc' := 5) (ls' := [some (.ref (ad 138)), some (.int (zI ↑s)), some (.int (zI ↑tk)), none]) (st' := [.int (zI ↑(i 5)), .int (zI ↑s)]) rfl ?_
  refine v_icmp_ge rfl (fun c5 => ?_) (fun c5 => ?_)
  · refine v_run 2 (pc' := 16) (ls' := [some (.ref (ad 138)), some (.int (zI ↑s)), some (.int (zI ↑tk)), none]) (st' := [.ref (ad 138), .ref (ad 138)]) rfl ?_
    refine v_callV (My := mX1_valueOfChosen) (As := []) (rest := [.ref (ad 138)]) (mc := 0) (ms := 0) rfl caX1_valueOfChosen rfl rfl rfl hw.2.2.1.1 rfl rfl (k_valueOfChosen G _ hA hw ⟨hi5, hi6, hi7⟩) rfl rfl (Nat.le_of_ble_eq_true rfl) (by omega) ?_
    rintro _ _ ⟨rfl, rfl⟩
    refine v_run 0 (pc' := 19) (ls' := [some (.ref (ad 138)), some (.int (zI ↑s)), some (.int (zI ↑tk)), none]) (st' := [.int (zI ↑(hv (i 7) (i 5) E)), .ref (ad 138)]) rfl ?_
    have qv := hv_le (q := i 7) hi5 hw.2.2.2
    refine v_callV (My := mX1_keepIfBetter) (As := [.int (zI ↑(hv (i 7) (i 5) E))]) (rest := []) (mc := 0) (ms := 0) rfl caX1_keepIfBetter rfl rfl rfl hw.2.2.1.1 rfl rfl (k_keepIfBetter G _ (hv (i 7) (i 5) E) hA hw ⟨hi5, hi6, hi7⟩ hb qv) rfl rfl (Nat.le_of_ble_eq_true rfl) (by omega) ?_
    rintro _ h1 ⟨rfl, hw1⟩
    refine v_run 0 (pc' := 22) (ls' := [some (.ref (ad 138)), some (.int (zI ↑s)), some (.int (zI ↑tk)), none]) (st' := []) rfl ?_
    have e : (hgL (fun a => hv (i 7) (i 5) (fun t => W t (a t))) (i 5) (i 6) 0 s f2 (b, f1)) = hKp b f1 f2 (hv (i 7) (i 5) E) := by
      have e1 : hv (i 7) (i 5) (fun t => W t (f2 t)) = hv (i 7) (i 5) E := hv_congr (fun t ht => (hv0.1 t (by omega)).symm)
      simp only [hgL, hKp, hLf, e1]
      by_cases q : b < ↑(hv (i 7) (i 5) E)
      · rw [if_pos ⟨fun x hx y hy hxy => hv0.2.2.1 x (by omega) y (by omega) hxy, q⟩, if_pos q]
      · rw [if_neg (fun z => q z.2), if_neg q]
    refine v_vret rfl rfl ⟨rfl, f2, E, ?_, fun _ _ => rfl, fun _ _ => rfl, ?_⟩
    · rw [e]; exact hw1
    · rw [e]; unfold hKp; split <;> simp only <;> omega
    
  · exfalso; revert c5; simp (disch := omega) only [zI_lt, zI_le, zI_eq, zI_lt0, zI_le0, zI_0lt, zI_0le, zI_eq0] <;> omega

set_option maxRecDepth 100000 in
set_option maxHeartbeats 400000 in
theorem k_placeS (G : ssG) (h : ssH) {ad : Nat → Nat} {pl : Nat} {σ : sT} {h0 : ssH} {b : Int} {i f1 f2 f3 E : Nat → Nat} {W : Nat → Nat → Nat} (k s tk : Nat) (hA : ∀ k l, ad k = ad l → k = l) (hw : HWt ad pl σ h0 h b i f1 f2 f3 E) (hi : i 5 ≤ 6 ∧ i 6 ≤ 6 ∧ i 7 ≤ 6) (hW : ∀ s k, s < i 5 → k < i 6 → f3 (s * 6 + k) = W s k ∧ W s k ≤ 99) (hbd : ∀ a : Nat → Nat, (∀ t, t < i 5 → a t < i 6) → hv (i 7) (i 5) (fun t => W t (a t)) ≤ i 8) (hi8 : i 8 ≤ 594) (hv0 : plInv (i 6) W s tk f2 E) (hb : -1 ≤ b ∧ b ≤ 594) (hs : s + (k + 1) = i 5) (hik : ∀ (h : ssH) (f2 E : Nat → Nat) (s tk : Nat) (b : Int) (f1 : Nat → Nat), HWt ad pl σ h0 h b i f1 f2 f3 E → plInv (i 6) W s tk f2 E → (-1 ≤ b ∧ b ≤ 594) → s + k = i 5 → ssC G mX1_place (k + 3) 0 0 [.ref (ad 138), .int (zI ↑s), .int (zI ↑tk)] h (plPost ad pl σ h0 i f3 s f2 E (hgL (fun a => hv (i 7) (i 5) (fun t => W t (a t))) (i 5) (i 6) k s f2 (b, f1)))) : ssC G mX1_place (k + 1 + 3) 0 0 [.ref (ad 138), .int (zI ↑s), .int (zI ↑tk)] h (plPost ad pl σ h0 i f3 s f2 E (hgL (fun a => hv (i 7) (i 5) (fun t => W t (a t))) (i 5) (i 6) (k + 1) s f2 (b, f1))) := by
  refine c_of_v okX1_place (by decide +kernel) (ls := [some (.ref (ad 138)), some (.int (zI ↑s)), some (.int (zI ↑tk)), none]) rfl (Nat.le_of_ble_eq_true rfl) ?_
  obtain ⟨hi5, hi6, hi7⟩ := hi
  refine v_run 2 (pc' := 2) (ls' := [some (.ref (ad 138)), some (.int (zI ↑s)), some (.int (zI ↑tk)), none]) (st' := [.ref (ad 138), .int (zI ↑s)]) rfl ?_
  refine v_get rfl hw.2.2.1.1 rfl ?_
  refine v_run 0 (pc' := 5) (ls' := [some (.ref (ad 138)), some (.int (zI ↑s)), some (.int (zI ↑tk)), none]) (st' := [.int (zI ↑(i 5)), .int (zI ↑s)]) rfl ?_
  refine v_icmp_ge rfl (fun c5 => ?_) (fun c5 => ?_)
  · exfalso; revert c5; simp (disch := omega) only [zI_lt, zI_le, zI_eq, zI_lt0, zI_le0, zI_0lt, zI_0le, zI_eq0] <;> omega
  · refine v_run 2 (pc' := 11) (ls' := [some (.ref (ad 138)), some (.int (zI ↑s)), some (.int (zI ↑tk)), none]) (st' := [.int (zI 6), .int (zI ↑s)]) rfl ?_
    refine v_icmp_lt rfl (fun c11 => ?_) (fun c11 => ?_)
    · refine v_run 2 (pc' := 25) (ls' := [some (.ref (ad 138)), some (.int (zI ↑s)), some (.int (zI ↑tk)), some (.int (zI 0))]) (st' := []) rfl ?_
      have lp : ∀ (n u : Nat) (X Y : Nat → Nat) (g : ssH), HWt ad pl σ h0 g (hgI (fun h st => hgL (fun a => hv (i 7) (i 5) (fun t => W t (a t))) (i 5) (i 6) k (s + 1) (fun j => if j = s then h else f2 j) st) u (b, f1)).1 i (hgI (fun h st => hgL (fun a => hv (i 7) (i 5) (fun t => W t (a t))) (i 5) (i 6) k (s + 1) (fun j => if j = s then h else f2 j) st) u (b, f1)).2 X f3 Y → (∀ t, t < s ∨ i 5 ≤ t → X t = f2 t) → (∀ t, t < s → Y t = E t) → (-1 ≤ (hgI (fun h st => hgL (fun a => hv (i 7) (i 5) (fun t => W t (a t))) (i 5) (i 6) k (s + 1) (fun j => if j = s then h else f2 j) st) u (b, f1)).1 ∧ (hgI (fun h st => hgL (fun a => hv (i 7) (i 5) (fun t => W t (a t))) (i 5) (i 6) k (s + 1) (fun j => if j = s then h else f2 j) st) u (b, f1)).1 ≤ 594) → u ≤ i 6 → i 6 + 1 ≤ u + n → ssV G mX1_place (k + 1 + 3) 0 0 (plPost ad pl σ h0 i f3 s f2 E (hgL (fun a => hv (i 7) (i 5) (fun t => W t (a t))) (i 5) (i 6) (k + 1) s f2 (b, f1))) 25 [some (.ref (ad 138)), some (.int (zI ↑s)), some (.int (zI ↑tk)), some (.int (zI ↑u))] [] g := by
        intro n
        induction n with
        | zero => intro u X Y g _ _ _ _ hs1 hs2; exact absurd hs2 (by omega)
        | succ n ih =>
          intro u X Y g hg hX hY hr hu1 hu2
          generalize hst : (hgI (fun h st => hgL (fun a => hv (i 7) (i 5) (fun t => W t (a t))) (i 5) (i 6) k (s + 1) (fun j => if j = s then h else f2 j) st) u (b, f1)) = st at hg hr
          refine v_run 2 (pc' := 27) (ls' := [some (.ref (ad 138)), some (.int (zI ↑s)), some (.int (zI ↑tk)), some (.int (zI ↑u))]) (st' := [.ref (ad 138), .int (zI ↑u)]) rfl ?_
          refine v_get rfl hg.2.2.1.1 rfl ?_
          refine v_run 0 (pc' := 30) (ls' := [some (.ref (ad 138)), some (.int (zI ↑s)), some (.int (zI ↑tk)), some (.int (zI ↑u))]) (st' := [.int (zI ↑(i 6)), .int (zI ↑u)]) rfl ?_
          refine v_icmp_ge rfl (fun c30 => ?_) (fun c30 => ?_)
          · simp (disch := omega) only [zI_lt, zI_le, zI_eq, zI_lt0, zI_le0, zI_0lt, zI_0le, zI_eq0] at c30
            have e : hgL (fun a => hv (i 7) (i 5) (fun t => W t (a t))) (i 5) (i 6) (k + 1) s f2 (b, f1) = st := by rw [← hst, show u = i 6 by omega]; rfl
            refine v_vret rfl rfl ⟨rfl, X, Y, ?_, hX, hY, ?_⟩
            · rw [e]; exact hg
            · rw [e]; exact hr
            
          · simp (disch := omega) only [zI_lt, zI_le, zI_eq, zI_lt0, zI_le0, zI_0lt, zI_0le, zI_eq0] at c30
            refine v_run 2 (pc' := 36) (ls' := [some (.ref (ad 138)), some (.int (zI ↑s)), some (.int (zI ↑tk)), some (.int (zI ↑u))]) (st' := [.int (zI 6), .int (zI ↑u)]) rfl ?_
            refine v_icmp_ge rfl (fun c36 => ?_) (fun c36 => ?_)
            · exfalso; revert c36; simp (disch := omega) only [zI_lt, zI_le, zI_eq, zI_lt0, zI_le0, zI_0lt, zI_0le, zI_eq0] <;> omega
            · refine v_run 1 (pc' := 40) (ls' := [some (.ref (ad 138)), some (.int (zI ↑s)), some (.int (zI ↑tk)), some (.int (zI ↑u))]) (st' := [.ref (ad 138)]) rfl ?_
              refine v_get rfl hg.2.2.1.1 rfl ?_
              refine v_run 1 (pc' := 44) (ls' := [some (.ref (ad 138)), some (.int (zI ↑s)), some (.int (zI ↑tk)), some (.int (zI ↑u))]) (st' := [.ref (ad 138), .int (zI st.1)]) rfl ?_
              refine v_get rfl hg.2.2.1.1 rfl ?_
              refine v_run 0 (pc' := 47) (ls' := [some (.ref (ad 138)), some (.int (zI ↑s)), some (.int (zI ↑tk)), some (.int (zI ↑u))]) (st' := [.int (zI ↑(i 8)), .int (zI st.1)]) rfl ?_
              refine v_icmp_ge rfl (fun c47 => ?_) (fun c47 => ?_)
              · simp (disch := omega) only [zI_lt, zI_le, zI_eq, zI_lt0, zI_le0, zI_0lt, zI_0le, zI_eq0] at c47
                have e : hgL (fun a => hv (i 7) (i 5) (fun t => W t (a t))) (i 5) (i 6) (k + 1) s f2 (b, f1) = st := by
                  rw [← hst]
                  exact hgI_stop (F := (fun h st => hgL (fun a => hv (i 7) (i 5) (fun t => W t (a t))) (i 5) (i 6) k (s + 1) (fun j => if j = s then h else f2 j) st)) (i 6) (by omega) (fun v h1 h2 => hgL_bd (V := (fun a => hv (i 7) (i 5) (fun t => W t (a t)))) (bd := i 8) hbd k (s + 1) (by omega) (fun t ht => by show (if t = s then v else f2 t) < i 6; split; omega; exact hv0.2.1 t (by omega)) (by rw [hst]; omega))
                refine v_vret rfl rfl ⟨rfl, X, Y, ?_, hX, hY, ?_⟩
                · rw [e]; exact hg
                · rw [e]; exact hr
                
              · simp (disch := omega) only [zI_lt, zI_le, zI_eq, zI_lt0, zI_le0, zI_0lt, zI_0le, zI_eq0] at c47
                have htk := hv0.2.2.2.2
                refine v_run 5 (pc' := 55) (ls' := [some (.ref (ad 138)), some (.int (zI ↑s)), some (.int (zI ↑tk)), some (.int (zI ↑u))]) (st' := [.int (((zI ↑tk) >>> ((zI ↑u) &&& 31)) &&& (zI 1))]) rfl ?_
                rw [show (((zI ↑tk) >>> ((zI ↑u) &&& 31)) &&& (zI 1) : Int32) = zI ↑(tk / 2 ^ u % 2) from zI_bit (by omega) (by omega)]
                have hbt := hv0.2.2.2.1 u (by omega)
                refine v_if_ne rfl (fun c55 => ?_) (fun c55 => ?_)
                · simp (disch := omega) only [zI_lt, zI_le, zI_eq, zI_lt0, zI_le0, zI_0lt, zI_0le, zI_eq0] at c55
                  refine v_run 2 (pc' := 25) (ls' := [some (.ref (ad 138)), some (.int (zI ↑s)), some (.int (zI ↑tk)), some (.int ((zI ↑u) + zI 1))]) (st' := []) rfl ?_
                  rw [zI_s1]
                  have e : hgI (fun h st => hgL (fun a => hv (i 7) (i 5) (fun t => W t (a t))) (i 5) (i 6) k (s + 1) (fun j => if j = s then h else f2 j) st) (u + 1) (b, f1) = st := by
                    show (fun h st => hgL (fun a => hv (i 7) (i 5) (fun t => W t (a t))) (i 5) (i 6) k (s + 1) (fun j => if j = s then h else f2 j) st) u (hgI (fun h st => hgL (fun a => hv (i 7) (i 5) (fun t => W t (a t))) (i 5) (i 6) k (s + 1) (fun j => if j = s then h else f2 j) st) u (b, f1)) = st
                    rw [hst]
                    obtain ⟨t, ht1, ht2⟩ := hbt.mp (by omega)
                    exact hgL_inj k (s + 1) (by omega) ⟨t, s, ht1, by omega, by show (if t = s then u else f2 t) = (if s = s then u else f2 s); rw [if_neg (by omega), if_pos rfl]; exact ht2⟩
                  exact ih (u + 1) X Y g (by rw [e]; exact hg) hX hY (by rw [e]; exact hr) (by omega) (by omega)
                · simp (disch := omega) only [zI_lt, zI_le, zI_eq, zI_lt0, zI_le0, zI_0lt, zI_0le, zI_eq0] at c55
                  have hn : ¬ ∃ t, t < s ∧ f2 t = u := fun q => absurd (hbt.mpr q) (by omega)
                  have qw := hW s u (by omega) (by omega)
                  refine v_run 1 (pc' := 59) (ls' := [some (.ref (ad 138)), some (.int (zI ↑s)), some (.int (zI ↑tk)), some (.int (zI ↑u))]) (st' := [.ref (ad 138)]) rfl ?_
                  refine v_get rfl hg.2.2.1.1 rfl ?_
                  refine v_run 2 (pc' := 64) (ls' := [some (.ref (ad 138)), some (.int (zI ↑s)), some (.int (zI ↑tk)), some (.int (zI ↑u))]) (st' := [.int (zI ↑u), .int (zI ↑s), .ref (ad 140)]) rfl ?_
                  refine v_iastore' (y := zI ↑u) rfl hg.2.2.1.2.2.1 (i := s) rfl (by omega) ?_
                  rw [ar_upd]
                  generalize he1 : hset g _ _ = g1
                  have hw1 : HWt ad pl σ h0 g1 st.1 i st.2 (fun j => if j = s then u else X j) f3 Y := he1 ▸ hg.r2 hA
                  refine v_run 1 (pc' := 66) (ls' := [some (.ref (ad 138)), some (.int (zI ↑s)), some (.int (zI ↑tk)), some (.int (zI ↑u))]) (st' := [.ref (ad 138)]) rfl ?_
                  refine v_get rfl hw1.2.2.1.1 rfl ?_
                  refine v_run 0 (pc' := 69) (ls' := [some (.ref (ad 138)), some (.int (zI ↑s)), some (.int (zI ↑tk)), some (.int (zI ↑u))]) (st' := [.ref (ad 142)]) rfl ?_
                  refine v_get rfl hw1.2.2.1.2.2.2.2.1 rfl ?_
                  refine v_run 2 (pc' := 74) (ls' := [some (.ref (ad 138)), some (.int (zI ↑s)), some (.int (zI ↑tk)), some (.int (zI ↑u))]) (st' := [.ref (ad 138), .int (zI ↑s), .ref (ad 143)]) rfl ?_
                  refine v_get rfl hw1.2.2.1.1 rfl ?_
                  refine v_run 5 (pc' := 83) (ls' := [some (.ref (ad 138)), some (.int (zI ↑s)), some (.int (zI ↑tk)), some (.int (zI ↑u))]) (st' := [.int (((zI ↑s) * (zI 6)) + (zI ↑u)), .ref (ad 141), .int (zI ↑s), .ref (ad 143)]) rfl ?_
                  rw [show (((zI ↑s) * (zI 6)) + (zI ↑u) : Int32) = zI ↑(s * 6 + u) from by rw [show (zI 6) = zI ((6 : Nat) : Int) from rfl, zN_mul, zN_add]]
                  refine v_iaload' rfl hw1.2.2.1.2.2.2.1 (i := (s * 6 + u)) rfl (by omega) ?_
                  refine v_iastore' (y := zI ↑(f3 (s * 6 + u))) rfl hw1.2.2.1.2.2.2.2.2 (i := s) rfl (by omega) ?_
                  rw [ar_upd]
                  generalize he2 : hset g1 _ _ = g2
                  have hw2 : HWt ad pl σ h0 g2 st.1 i st.2 (fun j => if j = s then u else X j) f3 (fun j => if j = s then f3 (s * 6 + u) else Y j) := he2 ▸ hw1.sp hA (g := (fun j => if j = s then f3 (s * 6 + u) else Y j)) (fun v => by show (if v = s then f3 (s * 6 + u) else Y v) ≤ 99; split; omega; exact hw1.2.2.2 v)
                  refine v_run 9 (pc' := 94) (ls' := [some (.ref (ad 138)), some (.int (zI ↑s)), some (.int (zI ↑tk)), some (.int (zI ↑u))]) (st' := [.int ((zI ↑tk) ||| ((zI 1) <<< ((zI ↑u) &&& 31))), .int ((zI ↑s) + (zI 1)), .ref (ad 138)]) rfl ?_
                  rw [show ((zI ↑s) + (zI 1) : Int32) = zI ↑(s + 1) from zI_s1 _]
                  have qp : 2 ^ u ≤ 2 ^ 5 := Nat.pow_le_pow_right (n := 2) (by decide) (by omega)
                  rw [show ((zI ↑tk) ||| ((zI 1) <<< ((zI ↑u) &&& 31)) : Int32) = zI ↑(tk ||| 2 ^ u) from by rw [zI_1shl (by omega), zI_lor (by omega) (by omega)]]
                  have hv2 : plInv (i 6) W (s + 1) (tk ||| 2 ^ u) (fun j => if j = s then u else X j) (fun j => if j = s then f3 (s * 6 + u) else Y j) := by
                    refine plInv_s (X := X) (Y := Y) hv0 (fun t ht => hX t (Or.inl ht)) hY (by omega) (by omega) hn qw.1
                  refine v_callV (My := mX1_place) (As := [.int (zI ↑(s + 1)), .int (zI ↑(tk ||| 2 ^ u))]) (rest := []) (mc := 0) (ms := 0) rfl caX1_place rfl rfl rfl hw2.2.2.1.1 rfl rfl (hik _ (fun j => if j = s then u else X j) (fun j => if j = s then f3 (s * 6 + u) else Y j) (s + 1) (tk ||| 2 ^ u) st.1 st.2 hw2 hv2 hr (by omega)) rfl rfl (Nat.le_of_ble_eq_true rfl) (by omega) ?_
                  rintro _ g3 ⟨rfl, X3, Y3, hw3, hX3, hY3, hr3⟩
                  refine v_run 0 (pc' := 97) (ls' := [some (.ref (ad 138)), some (.int (zI ↑s)), some (.int (zI ↑tk)), some (.int (zI ↑u))]) (st' := []) rfl ?_
                  refine v_run 2 (pc' := 25) (ls' := [some (.ref (ad 138)), some (.int (zI ↑s)), some (.int (zI ↑tk)), some (.int ((zI ↑u) + zI 1))]) (st' := []) rfl ?_
                  rw [zI_s1]
                  have e : hgI (fun h st => hgL (fun a => hv (i 7) (i 5) (fun t => W t (a t))) (i 5) (i 6) k (s + 1) (fun j => if j = s then h else f2 j) st) (u + 1) (b, f1) = hgL (fun a => hv (i 7) (i 5) (fun t => W t (a t))) (i 5) (i 6) k (s + 1) (fun j => if j = s then u else X j) (st.1, st.2) := by
                    show (fun h st => hgL (fun a => hv (i 7) (i 5) (fun t => W t (a t))) (i 5) (i 6) k (s + 1) (fun j => if j = s then h else f2 j) st) u (hgI (fun h st => hgL (fun a => hv (i 7) (i 5) (fun t => W t (a t))) (i 5) (i 6) k (s + 1) (fun j => if j = s then h else f2 j) st) u (b, f1)) = _
                    rw [hst]
                    exact hgL_congr k (s + 1) (fun t ht => by by_cases q : t = s; (simp [q]); (simp [q]; exact (hX t (by omega)).symm))
                  exact ih (u + 1) X3 Y3 g3 (by rw [e]; exact hw3) (fun t ht => by rw [hX3 t (by omega)]; show (if t = s then u else X t) = f2 t; rw [if_neg (by omega)]; exact hX t ht) (fun t ht => by rw [hY3 t (by omega)]; show (if t = s then f3 (s * 6 + u) else Y t) = E t; rw [if_neg (by omega)]; exact hY t ht) (by rw [e]; exact hr3) (by omega) (by omega)
      exact lp (i 6 + 1) 0 f2 E h hw (fun _ _ => rfl) (fun _ _ => rfl) hb (by omega) (by omega)
    · exfalso; revert c11; simp (disch := omega) only [zI_lt, zI_le, zI_eq, zI_lt0, zI_le0, zI_0lt, zI_0le, zI_eq0] <;> omega

theorem k_place (G : ssG) {ad : Nat → Nat} {pl : Nat} {σ : sT} {h0 : ssH} {i f3 : Nat → Nat} {W : Nat → Nat → Nat} (hA : ∀ k l, ad k = ad l → k = l) (hi : i 5 ≤ 6 ∧ i 6 ≤ 6 ∧ i 7 ≤ 6) (hW : ∀ s k, s < i 5 → k < i 6 → f3 (s * 6 + k) = W s k ∧ W s k ≤ 99) (hbd : ∀ a : Nat → Nat, (∀ t, t < i 5 → a t < i 6) → hv (i 7) (i 5) (fun t => W t (a t)) ≤ i 8) (hi8 : i 8 ≤ 594) : ∀ (k : Nat) (h : ssH) (f2 E : Nat → Nat) (s tk : Nat) (b : Int) (f1 : Nat → Nat), HWt ad pl σ h0 h b i f1 f2 f3 E → plInv (i 6) W s tk f2 E → (-1 ≤ b ∧ b ≤ 594) → s + k = i 5 → ssC G mX1_place (k + 3) 0 0 [.ref (ad 138), .int (zI ↑s), .int (zI ↑tk)] h (plPost ad pl σ h0 i f3 s f2 E (hgL (fun a => hv (i 7) (i 5) (fun t => W t (a t))) (i 5) (i 6) k s f2 (b, f1)))
  | 0, h, f2, E, s, tk, b, f1, hw, hv0, hb, hs => k_place0 G h s tk hA hw hi hW hbd hi8 hv0 hb (by omega)
  | k + 1, h, f2, E, s, tk, b, f1, hw, hv0, hb, hs => k_placeS G h k s tk hA hw hi hW hbd hi8 hv0 hb hs (k_place G hA hi hW hbd hi8 k)
