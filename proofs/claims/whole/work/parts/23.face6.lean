theorem cGood99 (heat air kd dy left : Nat) : cGood heat air kd dy left ≤ 99 := cGood_le
theorem cQD_mem (E : Nat → Nat) (sc qr : Nat) : ∀ s, cQD E sc qr s = 0 ∨ ∃ k, cQD E sc qr s = E k
  | 0 => Or.inl rfl
  | s + 1 => by
    simp only [cQD]
    split
    · exact Or.inr ⟨s, rfl⟩
    · exact cQD_mem E sc qr s
theorem cQD_le' {E : Nat → Nat} (hE : ∀ k, E k ≤ 99) (sc qr s : Nat) : cQD E sc qr s ≤ 99 := cQD_le hE sc qr s
theorem sSalt_le (σ : sT) (s : Nat) : sSalt σ s ≤ 99 := cQD_le (fun k => by split; exact cGood_le; exact cGood_le) _ _ _
theorem sSwap_le (σ : sT) (s t : Nat) : sSwap σ s t ≤ 99 := cQD_le (fun k => by split; exact cGood_le; split; exact cGood_le; exact cGood_le) _ _ _
theorem sLasts_le (σ : sT) : sLasts σ ≤ 99 := cQD_le (fun k => cGood_le) _ _ _
def tsA (σ : sT) : Nat → Int × Nat
  | 0 => (-2, sLasts σ)
  | s + 1 => if ¬ σ 3 3 s = 1 ∧ (tsA σ s).2 < sSalt σ s then (↑s, sSalt σ s) else tsA σ s
theorem tsA_le (σ : sT) : ∀ s, (tsA σ s).2 ≤ 99
  | 0 => sLasts_le σ
  | s + 1 => by
    simp only [tsA]
    split
    · exact sSalt_le σ s
    · exact tsA_le σ s
theorem tsA_t (σ : sT) (s : Nat) (h : ¬ σ 3 3 s = 1 ∧ (tsA σ s).2 < sSalt σ s) : tsA σ (s + 1) = (↑s, sSalt σ s) := if_pos h
theorem tsA_f (σ : sT) (s : Nat) (h : ¬ (¬ σ 3 3 s = 1 ∧ (tsA σ s).2 < sSalt σ s)) : tsA σ (s + 1) = tsA σ s := if_neg h
def aToSalt (σ : sT) : Int × Nat := if σ 1 5 0 = 0 then (-1, 1) else if σ 3 1 0 = 0 then (-2, 0) else ((tsA σ (σ 1 5 0)).1, 0)
def bsI (σ : sT) (s : Nat) (r : Int × Nat) : Nat → Int × Nat
  | 0 => r
  | t + 1 => if (bsI σ s r t).2 < sSwap σ s (s + 1 + t) then (10 * ↑s + ↑(s + 1 + t), sSwap σ s (s + 1 + t)) else bsI σ s r t
def bsO (σ : sT) : Nat → Int × Nat
  | 0 => (-2, sLasts σ)
  | s + 1 => bsI σ s (bsO σ s) (σ 1 5 0 - (s + 1))
theorem bsI_t (σ : sT) (s : Nat) (r : Int × Nat) (t : Nat) (h : (bsI σ s r t).2 < sSwap σ s (s + 1 + t)) : bsI σ s r (t + 1) = (10 * (s : Int) + ((s + 1 + t : Nat) : Int), sSwap σ s (s + 1 + t)) := if_pos h
theorem bsI_f (σ : sT) (s : Nat) (r : Int × Nat) (t : Nat) (h : ¬ (bsI σ s r t).2 < sSwap σ s (s + 1 + t)) : bsI σ s r (t + 1) = bsI σ s r t := if_neg h
theorem bsI_le99 (σ : sT) (s : Nat) {r : Int × Nat} (hr : r.2 ≤ 99) : ∀ t, (bsI σ s r t).2 ≤ 99
  | 0 => hr
  | t + 1 => by
    simp only [bsI]
    split
    · exact sSwap_le σ s _
    · exact bsI_le99 σ s hr t
theorem bsO_le (σ : sT) : ∀ s, (bsO σ s).2 ≤ 99
  | 0 => sLasts_le σ
  | s + 1 => bsI_le99 σ s (bsO_le σ s) _
theorem bsI_le (σ : sT) (s t : Nat) : (bsI σ s (bsO σ s) t).2 ≤ 99 := bsI_le99 σ s (bsO_le σ s) t
theorem bsO_s (σ : sT) (s t : Nat) (h : s + 1 + t = σ 1 5 0) : bsO σ (s + 1) = bsI σ s (bsO σ s) t := by
  simp only [bsO]; congr 1; omega
def aBestSwap (σ : sT) : Int × Nat := if σ 1 5 0 = 0 then (-1, 1) else ((bsO σ (σ 1 5 0)).1, 0)
set_option maxRecDepth 100000 in
set_option maxHeartbeats 400000 in
theorem k_toSalt (G : ssG) (h : ssH) {ad : Nat → Nat} {pl : Nat} {σ : sT}  (hA : ∀ k l, ad k = ad l → k = l) (hc : CW0 h ad pl σ) (hok : sOk σ)  : ssC G mX8_toSalt 5 0 0 [.ref (ad 0)] h (cR ad pl (sTr σ (aToSalt σ).2) h (.int (zI (aToSalt σ).1))) := by
  refine c_of_v okX8_toSalt (by decide +kernel) (ls := [some (.ref (ad 0)), none, none, none, none]) rfl (Nat.le_of_ble_eq_true rfl) ?_
  obtain ⟨i0, i1, i2, i3, i5, i7, a4, a6, a8, a9, a10, i11, i12, i14, i15⟩ := id hok.1
  obtain ⟨j0, j1, j2, b3, b4, b5, b6⟩ := id (hok.2.2 3 (by decide))
  have i13 := hok.2.1
  have hpl := hc.1
  simp only [fI] at i0 i1 i2 i3 i5 i7 i11 i12 i14 i15 j0 j1 j2
  refine v_run 1 (pc' := 1) (ls' := [some (.ref (ad 0)), none, none, none, none]) (st' := [.ref (ad 0)]) rfl ?_
  refine v_callV (My := mX8_lacksSafe) (As := []) (rest := []) (mc := 0) (ms := 0) rfl caX8_lacksSafe rfl rfl rfl hc.2.1 rfl rfl (k_lacksSafe G _ hA hc hok) rfl rfl (Nat.le_of_ble_eq_true rfl) (by omega) ?_
  rintro _ _ ⟨rfl, rfl⟩
  refine v_run 0 (pc' := 4) (ls' := [some (.ref (ad 0)), none, none, none, none]) (st' := [.int (zb (decide (σ 1 5 0 = 0)))]) rfl ?_
  refine v_if_eq rfl (fun c4 => ?_) (fun c4 => ?_)
  · rw [zb_0, decide_eq_false_iff_not] at c4
    refine v_run 1 (pc' := 14) (ls' := [some (.ref (ad 0)), none, none, none, none]) (st' := [.ref (ad 0)]) rfl ?_
    refine v_get rfl hc.2.1 rfl ?_
    refine v_run 0 (pc' := 17) (ls' := [some (.ref (ad 0)), none, none, none, none]) (st' := [.ref (ad 33)]) rfl ?_
    refine v_get rfl hc.2.2.2.2.1.1 rfl ?_
    refine v_run 0 (pc' := 20) (ls' := [some (.ref (ad 0)), none, none, none, none]) (st' := [.int (zI ↑(σ 3 1 0))]) rfl ?_
    refine v_if_ne rfl (fun c20 => ?_) (fun c20 => ?_)
    · simp (disch := omega) only [zI_lt, zI_le, zI_eq, zI_lt0, zI_le0, zI_0lt, zI_0le, zI_eq0] at c20
      refine v_run 1 (pc' := 31) (ls' := [some (.ref (ad 0)), none, none, none, none]) (st' := [.ref (ad 0)]) rfl ?_
      refine v_callV (My := mX8_lastsNow) (As := []) (rest := []) (mc := 0) (ms := 0) rfl caX8_lastsNow rfl rfl rfl hc.2.1 rfl rfl (k_lastsNow G _ hA hc hok) rfl rfl (Nat.le_of_ble_eq_true rfl) (by omega) ?_
      rintro _ h1 ⟨rfl, hc1, hf1⟩
      refine v_run 0 (pc' := 34) (ls' := [some (.ref (ad 0)), none, none, none, none]) (st' := [.int (zI ↑(sLasts σ))]) rfl ?_
      refine v_run 5 (pc' := 40) (ls' := [some (.ref (ad 0)), some (.int (zI ↑(sLasts σ))), some (.int (zI (-2))), some (.int (zI 0)), none]) (st' := []) rfl ?_
      have lp : ∀ (n s : Nat) (g : ssH), CW0 g ad pl σ → frP ad pl h g → s ≤ σ 1 5 0 → σ 1 5 0 + 1 ≤ s + n → ssV G mX8_toSalt 5 0 0 (cR ad pl (sTr σ (aToSalt σ).2) h (.int (zI (aToSalt σ).1))) 40 [some (.ref (ad 0)), some (.int (zI ↑(tsA σ s).2)), some (.int (zI (tsA σ s).1)), some (.int (zI ↑s)), none] [] g := by
        intro n
        induction n with
        | zero => intro s g hg hfg hs1 hs2; exact absurd hs2 (by omega)
        | succ n ih =>
          intro s g hg hfg hs1 hs2
          have q1 := tsA_le σ s
          have q2 := b3 s
          refine v_run 2 (pc' := 42) (ls' := [some (.ref (ad 0)), some (.int (zI ↑(tsA σ s).2)), some (.int (zI (tsA σ s).1)), some (.int (zI ↑s)), none]) (st' := [.ref (ad 0), .int (zI ↑s)]) rfl ?_
          refine v_get rfl hg.2.1 rfl ?_
          refine v_run 0 (pc' := 45) (ls' := [some (.ref (ad 0)), some (.int (zI ↑(tsA σ s).2)), some (.int (zI (tsA σ s).1)), some (.int (zI ↑s)), none]) (st' := [.ref (ad pl), .int (zI ↑s)]) rfl ?_
          refine v_get rfl hg.2.2.1.1 rfl ?_
          refine v_run 0 (pc' := 48) (ls' := [some (.ref (ad 0)), some (.int (zI ↑(tsA σ s).2)), some (.int (zI (tsA σ s).1)), some (.int (zI ↑s)), none]) (st' := [.int (zI ↑(σ 1 5 0)), .int (zI ↑s)]) rfl ?_
          refine v_icmp_ge rfl (fun c48 => ?_) (fun c48 => ?_)
          · simp (disch := omega) only [zI_lt, zI_le, zI_eq, zI_lt0, zI_le0, zI_0lt, zI_0le, zI_eq0] at c48
            refine v_run 2 (pc' := 90) (ls' := [some (.ref (ad 0)), some (.int (zI ↑(tsA σ s).2)), some (.int (zI (tsA σ s).1)), some (.int (zI ↑s)), none]) (st' := [.int (zI (tsA σ s).1), .ref (ad 0)]) rfl ?_
            refine v_callV (My := mX8_grant) (As := [.int (zI (tsA σ s).1)]) (rest := []) (mc := 0) (ms := 0) rfl caX8_grant rfl rfl rfl hg.2.1 rfl rfl (k_grant G _ ((zI (tsA σ s).1)) hA hg hok) rfl rfl (Nat.le_of_ble_eq_true rfl) (by omega) ?_
            rintro _ h9 ⟨rfl, hc9, hf9⟩
            refine v_run 0 (pc' := 93) (ls' := [some (.ref (ad 0)), some (.int (zI ↑(tsA σ s).2)), some (.int (zI (tsA σ s).1)), some (.int (zI ↑s)), none]) (st' := [.int ((zI (tsA σ s).1))]) rfl ?_
            rw [show aToSalt σ = ((tsA σ s).1, 0) from by rw [aToSalt, if_neg c4, if_neg (by omega), show s = σ 1 5 0 by omega]]
            exact v_iret rfl rfl rfl ⟨rfl, hc9, hfg.tr hf9⟩
          · simp (disch := omega) only [zI_lt, zI_le, zI_eq, zI_lt0, zI_le0, zI_0lt, zI_0le, zI_eq0] at c48
            refine v_run 2 (pc' := 53) (ls' := [some (.ref (ad 0)), some (.int (zI ↑(tsA σ s).2)), some (.int (zI (tsA σ s).1)), some (.int (zI ↑s)), none]) (st' := [.int (zI ↑s), .ref (ad 0)]) rfl ?_
            refine v_callV (My := mX8_lastsSalted) (As := [.int (zI ↑s)]) (rest := []) (mc := 0) (ms := 0) rfl caX8_lastsSalted rfl rfl rfl hg.2.1 rfl rfl (k_lastsSalted G _ s hA hg hok (by omega)) rfl rfl (Nat.le_of_ble_eq_true rfl) (by omega) ?_
            rintro _ h2 ⟨rfl, hc2, hf2⟩
            refine v_run 0 (pc' := 56) (ls' := [some (.ref (ad 0)), some (.int (zI ↑(tsA σ s).2)), some (.int (zI (tsA σ s).1)), some (.int (zI ↑s)), none]) (st' := [.int (zI ↑(sSalt σ s))]) rfl ?_
            have q3 : sSalt σ s ≤ 99 := sSalt_le σ s
            refine v_run 2 (pc' := 59) (ls' := [some (.ref (ad 0)), some (.int (zI ↑(tsA σ s).2)), some (.int (zI (tsA σ s).1)), some (.int (zI ↑s)), some (.int (zI ↑(sSalt σ s)))]) (st' := [.ref (ad 0)]) rfl ?_
            refine v_get rfl hc2.2.1 rfl ?_
            refine v_run 0 (pc' := 62) (ls' := [some (.ref (ad 0)), some (.int (zI ↑(tsA σ s).2)), some (.int (zI (tsA σ s).1)), some (.int (zI ↑s)), some (.int (zI ↑(sSalt σ s)))]) (st' := [.ref (ad 33)]) rfl ?_
            refine v_get rfl hc2.2.2.2.2.1.1 rfl ?_
            refine v_run 1 (pc' := 66) (ls' := [some (.ref (ad 0)), some (.int (zI ↑(tsA σ s).2)), some (.int (zI (tsA σ s).1)), some (.int (zI ↑s)), some (.int (zI ↑(sSalt σ s)))]) (st' := [.int (zI ↑s), .ref (Rm ad 33 3)]) rfl ?_
            refine v_iaload' rfl hc2.2.2.2.2.1.2.1 (i := s) rfl (by omega) ?_
            refine v_run 1 (pc' := 68) (ls' := [some (.ref (ad 0)), some (.int (zI ↑(tsA σ s).2)), some (.int (zI (tsA σ s).1)), some (.int (zI ↑s)), some (.int (zI ↑(sSalt σ s)))]) (st' := [.int (zI 1), .int ((fun k => zI ↑(σ 3 3 k)) s)]) rfl ?_
            refine v_icmp_eq rfl (fun c68 => ?_) (fun c68 => ?_)
            · simp (disch := omega) only [zI_lt, zI_le, zI_eq, zI_lt0, zI_le0, zI_0lt, zI_0le, zI_eq0] at c68
              refine v_run 2 (pc' := 40) (ls' := [some (.ref (ad 0)), some (.int (zI ↑(tsA σ s).2)), some (.int (zI (tsA σ s).1)), some (.int ((zI ↑s) + zI 1)), some (.int (zI ↑(sSalt σ s)))]) (st' := []) rfl ?_
              refine v_drop 4 (ls' := [some (.ref (ad 0)), some (.int (zI ↑(tsA σ s).2)), some (.int (zI (tsA σ s).1)), some (.int ((zI ↑s) + zI 1)), none]) rfl ?_
              rw [zI_s1, ← tsA_f σ s (by omega)]
              exact ih (s + 1) _ hc2 (hfg.tr hf2) (by omega) (by omega)
            · simp (disch := omega) only [zI_lt, zI_le, zI_eq, zI_lt0, zI_le0, zI_0lt, zI_0le, zI_eq0] at c68
              refine v_run 2 (pc' := 74) (ls' := [some (.ref (ad 0)), some (.int (zI ↑(tsA σ s).2)), some (.int (zI (tsA σ s).1)), some (.int (zI ↑s)), some (.int (zI ↑(sSalt σ s)))]) (st' := [.int (zI ↑(tsA σ s).2), .int (zI ↑(sSalt σ s))]) rfl ?_
              refine v_icmp_le rfl (fun c74 => ?_) (fun c74 => ?_)
              · simp (disch := omega) only [zI_lt, zI_le, zI_eq, zI_lt0, zI_le0, zI_0lt, zI_0le, zI_eq0] at c74
                refine v_run 2 (pc' := 40) (ls' := [some (.ref (ad 0)), some (.int (zI ↑(tsA σ s).2)), some (.int (zI (tsA σ s).1)), some (.int ((zI ↑s) + zI 1)), some (.int (zI ↑(sSalt σ s)))]) (st' := []) rfl ?_
                refine v_drop 4 (ls' := [some (.ref (ad 0)), some (.int (zI ↑(tsA σ s).2)), some (.int (zI (tsA σ s).1)), some (.int ((zI ↑s) + zI 1)), none]) rfl ?_
                rw [zI_s1, ← tsA_f σ s (by omega)]
                exact ih (s + 1) _ hc2 (hfg.tr hf2) (by omega) (by omega)
              · simp (disch := omega) only [zI_lt, zI_le, zI_eq, zI_lt0, zI_le0, zI_0lt, zI_0le, zI_eq0] at c74
                refine v_run 6 (pc' := 40) (ls' := [some (.ref (ad 0)), some (.int (zI ↑(sSalt σ s))), some (.int (zI ↑s)), some (.int ((zI ↑s) + zI 1)), some (.int (zI ↑(sSalt σ s)))]) (st' := []) rfl ?_
                refine v_drop 4 (ls' := [some (.ref (ad 0)), some (.int (zI ↑(sSalt σ s))), some (.int (zI ↑s)), some (.int ((zI ↑s) + zI 1)), none]) rfl ?_
                rw [zI_s1]
                have q := ih (s + 1) _ hc2 (hfg.tr hf2) (by omega) (by omega); rw [tsA_t σ s (by omega)] at q; exact q
      exact lp (σ 1 5 0 + 1) 0 _ hc1 hf1 (by omega) (by omega)
    · simp (disch := omega) only [zI_lt, zI_le, zI_eq, zI_lt0, zI_le0, zI_0lt, zI_0le, zI_eq0] at c20
      refine v_run 2 (pc' := 26) (ls' := [some (.ref (ad 0)), none, none, none, none]) (st' := [.int (zI (-2)), .ref (ad 0)]) rfl ?_
      refine v_callV (My := mX8_grant) (As := [.int (zI (-2))]) (rest := []) (mc := 0) (ms := 0) rfl caX8_grant rfl rfl rfl hc.2.1 rfl rfl (k_grant G _ ((zI (-2))) hA hc hok) rfl rfl (Nat.le_of_ble_eq_true rfl) (by omega) ?_
      rintro _ h9 ⟨rfl, hc9, hf9⟩
      refine v_run 0 (pc' := 29) (ls' := [some (.ref (ad 0)), none, none, none, none]) (st' := [.int ((zI (-2)))]) rfl ?_
      rw [show aToSalt σ = (-2, 0) from by rw [aToSalt, if_neg c4, if_pos (by omega)]]
      exact v_iret rfl rfl rfl ⟨rfl, hc9, hf9⟩
  · rw [zb_0, Bool.not_eq_false, decide_eq_true_eq] at c4
    refine v_run 2 (pc' := 9) (ls' := [some (.ref (ad 0)), none, none, none, none]) (st' := [.int (zI 1), .ref (ad 0)]) rfl ?_
    refine v_callV (My := mX8_refuse) (As := [.int (zI 1)]) (rest := []) (mc := 0) (ms := 0) rfl caX8_refuse rfl rfl rfl hc.2.1 rfl rfl (k_refuse G _ 1 hA hc hok) rfl rfl (Nat.le_of_ble_eq_true rfl) (by omega) ?_
    rintro _ h9 ⟨rfl, hc9, hf9⟩
    refine v_run 0 (pc' := 12) (ls' := [some (.ref (ad 0)), none, none, none, none]) (st' := [.int (zI (-1))]) rfl ?_
    rw [show aToSalt σ = (-1, 1) from if_pos c4]
    exact v_iret rfl rfl rfl ⟨rfl, hc9, hf9⟩

set_option maxRecDepth 100000 in
set_option maxHeartbeats 400000 in
theorem k_bestSwap (G : ssG) (h : ssH) {ad : Nat → Nat} {pl : Nat} {σ : sT}  (hA : ∀ k l, ad k = ad l → k = l) (hc : CW0 h ad pl σ) (hok : sOk σ)  : ssC G mX8_bestSwap 5 0 0 [.ref (ad 0)] h (cR ad pl (sTr σ (aBestSwap σ).2) h (.int (zI (aBestSwap σ).1))) := by
  refine c_of_v okX8_bestSwap (by decide +kernel) (ls := [some (.ref (ad 0)), none, none, none, none, none]) rfl (Nat.le_of_ble_eq_true rfl) ?_
  obtain ⟨i0, i1, i2, i3, i5, i7, a4, a6, a8, a9, a10, i11, i12, i14, i15⟩ := id hok.1
  obtain ⟨j0, j1, j2, b3, b4, b5, b6⟩ := id (hok.2.2 3 (by decide))
  have i13 := hok.2.1
  have hpl := hc.1
  simp only [fI] at i0 i1 i2 i3 i5 i7 i11 i12 i14 i15 j0 j1 j2
  refine v_run 1 (pc' := 1) (ls' := [some (.ref (ad 0)), none, none, none, none, none]) (st' := [.ref (ad 0)]) rfl ?_
  refine v_callV (My := mX8_lacksSafe) (As := []) (rest := []) (mc := 0) (ms := 0) rfl caX8_lacksSafe rfl rfl rfl hc.2.1 rfl rfl (k_lacksSafe G _ hA hc hok) rfl rfl (Nat.le_of_ble_eq_true rfl) (by omega) ?_
  rintro _ _ ⟨rfl, rfl⟩
  refine v_run 0 (pc' := 4) (ls' := [some (.ref (ad 0)), none, none, none, none, none]) (st' := [.int (zb (decide (σ 1 5 0 = 0)))]) rfl ?_
  refine v_if_eq rfl (fun c4 => ?_) (fun c4 => ?_)
  · rw [zb_0, decide_eq_false_iff_not] at c4
    refine v_run 1 (pc' := 14) (ls' := [some (.ref (ad 0)), none, none, none, none, none]) (st' := [.ref (ad 0)]) rfl ?_
    refine v_callV (My := mX8_lastsNow) (As := []) (rest := []) (mc := 0) (ms := 0) rfl caX8_lastsNow rfl rfl rfl hc.2.1 rfl rfl (k_lastsNow G _ hA hc hok) rfl rfl (Nat.le_of_ble_eq_true rfl) (by omega) ?_
    rintro _ h1 ⟨rfl, hc1, hf1⟩
    refine v_run 0 (pc' := 17) (ls' := [some (.ref (ad 0)), none, none, none, none, none]) (st' := [.int (zI ↑(sLasts σ))]) rfl ?_
    refine v_run 5 (pc' := 23) (ls' := [some (.ref (ad 0)), some (.int (zI ↑(sLasts σ))), some (.int (zI (-2))), some (.int (zI 0)), none, none]) (st' := []) rfl ?_
    have lp : ∀ (n s : Nat) (g : ssH), CW0 g ad pl σ → frP ad pl h g → s ≤ σ 1 5 0 → σ 1 5 0 + 1 ≤ s + n → ssV G mX8_bestSwap 5 0 0 (cR ad pl (sTr σ (aBestSwap σ).2) h (.int (zI (aBestSwap σ).1))) 23 [some (.ref (ad 0)), some (.int (zI ↑(bsO σ s).2)), some (.int (zI (bsO σ s).1)), some (.int (zI ↑s)), none, none] [] g := by
      intro n
      induction n with
      | zero => intro s g hg hfg hs1 hs2; exact absurd hs2 (by omega)
      | succ n ih =>
        intro s g hg hfg hs1 hs2
        have q1 := bsO_le σ s
        refine v_run 2 (pc' := 25) (ls' := [some (.ref (ad 0)), some (.int (zI ↑(bsO σ s).2)), some (.int (zI (bsO σ s).1)), some (.int (zI ↑s)), none, none]) (st' := [.ref (ad 0), .int (zI ↑s)]) rfl ?_
        refine v_get rfl hg.2.1 rfl ?_
        refine v_run 0 (pc' := 28) (ls' := [some (.ref (ad 0)), some (.int (zI ↑(bsO σ s).2)), some (.int (zI (bsO σ s).1)), some (.int (zI ↑s)), none, none]) (st' := [.ref (ad pl), .int (zI ↑s)]) rfl ?_
        refine v_get rfl hg.2.2.1.1 rfl ?_
        refine v_run 0 (pc' := 31) (ls' := [some (.ref (ad 0)), some (.int (zI ↑(bsO σ s).2)), some (.int (zI (bsO σ s).1)), some (.int (zI ↑s)), none, none]) (st' := [.int (zI ↑(σ 1 5 0)), .int (zI ↑s)]) rfl ?_
        refine v_icmp_ge rfl (fun c31 => ?_) (fun c31 => ?_)
        · simp (disch := omega) only [zI_lt, zI_le, zI_eq, zI_lt0, zI_le0, zI_0lt, zI_0le, zI_eq0] at c31
          refine v_run 2 (pc' := 91) (ls' := [some (.ref (ad 0)), some (.int (zI ↑(bsO σ s).2)), some (.int (zI (bsO σ s).1)), some (.int (zI ↑s)), none, none]) (st' := [.int (zI (bsO σ s).1), .ref (ad 0)]) rfl ?_
          refine v_callV (My := mX8_grant) (As := [.int (zI (bsO σ s).1)]) (rest := []) (mc := 0) (ms := 0) rfl caX8_grant rfl rfl rfl hg.2.1 rfl rfl (k_grant G _ ((zI (bsO σ s).1)) hA hg hok) rfl rfl (Nat.le_of_ble_eq_true rfl) (by omega) ?_
          rintro _ h9 ⟨rfl, hc9, hf9⟩
          refine v_run 0 (pc' := 94) (ls' := [some (.ref (ad 0)), some (.int (zI ↑(bsO σ s).2)), some (.int (zI (bsO σ s).1)), some (.int (zI ↑s)), none, none]) (st' := [.int ((zI (bsO σ s).1))]) rfl ?_
          rw [show aBestSwap σ = ((bsO σ s).1, 0) from by rw [aBestSwap, if_neg c4, show s = σ 1 5 0 by omega]]
          exact v_iret rfl rfl rfl ⟨rfl, hc9, hfg.tr hf9⟩
        · simp (disch := omega) only [zI_lt, zI_le, zI_eq, zI_lt0, zI_le0, zI_0lt, zI_0le, zI_eq0] at c31
          refine v_run 4 (pc' := 39) (ls' := [some (.ref (ad 0)), some (.int (zI ↑(bsO σ s).2)), some (.int (zI (bsO σ s).1)), some (.int (zI ↑s)), some (.int ((zI ↑s) + (zI 1))), none]) (st' := []) rfl ?_
          rw [show ((zI ↑s) + (zI 1) : Int32) = zI ↑(s + 1) from zI_s1 s]
          have lq : ∀ (m t : Nat) (k : ssH), CW0 k ad pl σ → frP ad pl h k → s + 1 + t ≤ σ 1 5 0 → σ 1 5 0 + 1 ≤ s + 1 + t + m → ssV G mX8_bestSwap 5 0 0 (cR ad pl (sTr σ (aBestSwap σ).2) h (.int (zI (aBestSwap σ).1))) 39 [some (.ref (ad 0)), some (.int (zI ↑(bsI σ s (bsO σ s) t).2)), some (.int (zI (bsI σ s (bsO σ s) t).1)), some (.int (zI ↑s)), some (.int (zI ↑(s + 1 + t))), none] [] k := by
            intro m
            induction m with
            | zero => intro t k hk hfk ht1 ht2; exact absurd ht2 (by omega)
            | succ m ih2 =>
              intro t k hk hfk ht1 ht2
              have q2 := bsI_le σ s t
              refine v_run 2 (pc' := 42) (ls' := [some (.ref (ad 0)), some (.int (zI ↑(bsI σ s (bsO σ s) t).2)), some (.int (zI (bsI σ s (bsO σ s) t).1)), some (.int (zI ↑s)), some (.int (zI ↑(s + 1 + t))), none]) (st' := [.ref (ad 0), .int (zI ↑(s + 1 + t))]) rfl ?_
              refine v_get rfl hk.2.1 rfl ?_
              refine v_run 0 (pc' := 45) (ls' := [some (.ref (ad 0)), some (.int (zI ↑(bsI σ s (bsO σ s) t).2)), some (.int (zI (bsI σ s (bsO σ s) t).1)), some (.int (zI ↑s)), some (.int (zI ↑(s + 1 + t))), none]) (st' := [.ref (ad pl), .int (zI ↑(s + 1 + t))]) rfl ?_
              refine v_get rfl hk.2.2.1.1 rfl ?_
              refine v_run 0 (pc' := 48) (ls' := [some (.ref (ad 0)), some (.int (zI ↑(bsI σ s (bsO σ s) t).2)), some (.int (zI (bsI σ s (bsO σ s) t).1)), some (.int (zI ↑s)), some (.int (zI ↑(s + 1 + t))), none]) (st' := [.int (zI ↑(σ 1 5 0)), .int (zI ↑(s + 1 + t))]) rfl ?_
              refine v_icmp_ge rfl (fun c48 => ?_) (fun c48 => ?_)
              · simp (disch := omega) only [zI_lt, zI_le, zI_eq, zI_lt0, zI_le0, zI_0lt, zI_0le, zI_eq0] at c48
                refine v_run 2 (pc' := 23) (ls' := [some (.ref (ad 0)), some (.int (zI ↑(bsI σ s (bsO σ s) t).2)), some (.int (zI (bsI σ s (bsO σ s) t).1)), some (.int ((zI ↑s) + zI 1)), some (.int (zI ↑(s + 1 + t))), none]) (st' := []) rfl ?_
                refine v_drop 4 (ls' := [some (.ref (ad 0)), some (.int (zI ↑(bsI σ s (bsO σ s) t).2)), some (.int (zI (bsI σ s (bsO σ s) t).1)), some (.int ((zI ↑s) + zI 1)), none, none]) rfl ?_
                rw [zI_s1, ← bsO_s σ s t (by omega)]
                exact ih (s + 1) _ hk hfk (by omega) (by omega)
              · simp (disch := omega) only [zI_lt, zI_le, zI_eq, zI_lt0, zI_le0, zI_0lt, zI_0le, zI_eq0] at c48
                refine v_run 3 (pc' := 55) (ls' := [some (.ref (ad 0)), some (.int (zI ↑(bsI σ s (bsO σ s) t).2)), some (.int (zI (bsI σ s (bsO σ s) t).1)), some (.int (zI ↑s)), some (.int (zI ↑(s + 1 + t))), none]) (st' := [.int (zI ↑(s + 1 + t)), .int (zI ↑s), .ref (ad 0)]) rfl ?_
                refine v_callV (My := mX8_lastsSwapped) (As := [.int (zI ↑s), .int (zI ↑(s + 1 + t))]) (rest := []) (mc := 0) (ms := 0) rfl caX8_lastsSwapped rfl rfl rfl hk.2.1 rfl rfl (k_lastsSwapped G _ s (s + 1 + t) hA hk hok (by omega) (by omega)) rfl rfl (Nat.le_of_ble_eq_true rfl) (by omega) ?_
                rintro _ h2 ⟨rfl, hc2, hf2⟩
                refine v_run 0 (pc' := 58) (ls' := [some (.ref (ad 0)), some (.int (zI ↑(bsI σ s (bsO σ s) t).2)), some (.int (zI (bsI σ s (bsO σ s) t).1)), some (.int (zI ↑s)), some (.int (zI ↑(s + 1 + t))), none]) (st' := [.int (zI ↑(sSwap σ s (s + 1 + t)))]) rfl ?_
                have q3 : sSwap σ s (s + 1 + t) ≤ 99 := sSwap_le σ s _
                refine v_run 3 (pc' := 63) (ls' := [some (.ref (ad 0)), some (.int (zI ↑(bsI σ s (bsO σ s) t).2)), some (.int (zI (bsI σ s (bsO σ s) t).1)), some (.int (zI ↑s)), some (.int (zI ↑(s + 1 + t))), some (.int (zI ↑(sSwap σ s (s + 1 + t))))]) (st' := [.int (zI ↑(bsI σ s (bsO σ s) t).2), .int (zI ↑(sSwap σ s (s + 1 + t)))]) rfl ?_
                refine v_icmp_le rfl (fun c63 => ?_) (fun c63 => ?_)
                · simp (disch := omega) only [zI_lt, zI_le, zI_eq, zI_lt0, zI_le0, zI_0lt, zI_0le, zI_eq0] at c63
                  refine v_run 2 (pc' := 39) (ls' := [some (.ref (ad 0)), some (.int (zI ↑(bsI σ s (bsO σ s) t).2)), some (.int (zI (bsI σ s (bsO σ s) t).1)), some (.int (zI ↑s)), some (.int ((zI ↑(s + 1 + t)) + zI 1)), some (.int (zI ↑(sSwap σ s (s + 1 + t))))]) (st' := []) rfl ?_
                  refine v_drop 5 (ls' := [some (.ref (ad 0)), some (.int (zI ↑(bsI σ s (bsO σ s) t).2)), some (.int (zI (bsI σ s (bsO σ s) t).1)), some (.int (zI ↑s)), some (.int ((zI ↑(s + 1 + t)) + zI 1)), none]) rfl ?_
                  rw [zI_s1, ← bsI_f σ s (bsO σ s) t (by omega), Nat.add_assoc (s + 1) t 1]
                  exact ih2 (t + 1) _ hc2 (hfk.tr hf2) (by omega) (by omega)
                · simp (disch := omega) only [zI_lt, zI_le, zI_eq, zI_lt0, zI_le0, zI_0lt, zI_0le, zI_eq0] at c63
                  refine v_run 10 (pc' := 39) (ls' := [some (.ref (ad 0)), some (.int (zI ↑(sSwap σ s (s + 1 + t)))), some (.int (((zI 10) * (zI ↑s)) + (zI ↑(s + 1 + t)))), some (.int (zI ↑s)), some (.int ((zI ↑(s + 1 + t)) + zI 1)), some (.int (zI ↑(sSwap σ s (s + 1 + t))))]) (st' := []) rfl ?_
                  refine v_drop 5 (ls' := [some (.ref (ad 0)), some (.int (zI ↑(sSwap σ s (s + 1 + t)))), some (.int (((zI 10) * (zI ↑s)) + (zI ↑(s + 1 + t)))), some (.int (zI ↑s)), some (.int ((zI ↑(s + 1 + t)) + zI 1)), none]) rfl ?_
                  rw [zI_s1, show (zI 10) * (zI ↑s) + (zI ↑(s + 1 + t)) = zI (10 * ↑s + ↑(s + 1 + t)) by rw [zI_mul, zI_add]]
                  have q := ih2 (t + 1) _ hc2 (hfk.tr hf2) (by omega) (by omega); rw [bsI_t σ s (bsO σ s) t (by omega), ← Nat.add_assoc (s + 1) t 1] at q; exact q
          exact lq (σ 1 5 0 + 1) 0 _ hg hfg (by omega) (by omega)
    exact lp (σ 1 5 0 + 1) 0 _ hc1 hf1 (by omega) (by omega)
  · rw [zb_0, Bool.not_eq_false, decide_eq_true_eq] at c4
    refine v_run 2 (pc' := 9) (ls' := [some (.ref (ad 0)), none, none, none, none, none]) (st' := [.int (zI 1), .ref (ad 0)]) rfl ?_
    refine v_callV (My := mX8_refuse) (As := [.int (zI 1)]) (rest := []) (mc := 0) (ms := 0) rfl caX8_refuse rfl rfl rfl hc.2.1 rfl rfl (k_refuse G _ 1 hA hc hok) rfl rfl (Nat.le_of_ble_eq_true rfl) (by omega) ?_
    rintro _ h9 ⟨rfl, hc9, hf9⟩
    refine v_run 0 (pc' := 12) (ls' := [some (.ref (ad 0)), none, none, none, none, none]) (st' := [.int (zI (-1))]) rfl ?_
    rw [show aBestSwap σ = (-1, 1) from if_pos c4]
    exact v_iret rfl rfl rfl ⟨rfl, hc9, hf9⟩

