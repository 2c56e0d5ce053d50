/-- σ with one place of a row of the moment now -/
def sA (σ : sT) (k i v : Nat) : sT := fun o f n => if o = 3 ∧ f = k ∧ n = i then v else σ o f n
theorem sA_ne (σ : sT) {k i v o : Nat} (h : o ≠ 3) : sA σ k i v o = σ o := by funext f n; simp [sA, h]
theorem sA_row (σ : sT) {k i v f : Nat} (h : f ≠ k) : sA σ k i v 3 f = σ 3 f := by funext n; simp [sA, h]
theorem sA_self (σ : sT) (k i v : Nat) : sA σ k i v 3 k = fun j => if j = i then v else σ 3 k j := by funext n; simp [sA]
theorem sA_z {σ : sT} {k i v : Nat} (hz : sZ σ) (hk : (k ≤ 5 → i < 6) ∧ (k = 6 → i < 41)) : sZ (sA σ k i v) := fun o ho f n hf => by
  simp only [sA]
  rw [if_neg (by omega)]
  exact hz o ho f n hf
theorem CW0.nowA3 {h : ssH} {ad : Nat → Nat} {pl i v : Nat} {σ : sT} (hA : ∀ k l, ad k = ad l → k = l) (hc : CW0 h ad pl σ) : CW0 (hset h (Rm ad 33 3) (ar 6 (fun j => if j = i then v else σ 3 3 j))) ad pl (sA σ 3 i v) := by
  have hN := hc.2.2.2.2.1
  refine hc.mv hA (Or.inl ⟨rfl, rfl⟩) (fun q hq => sA_ne σ hq) ⟨?_, ?_, ?_, ?_, ?_⟩ (fun q hq => hset_ne _ _ (hq (33 + (3 - 2)) (by omega) (by omega)))
  · exact (hset_ne _ _ (show ad 33 ≠ Rm ad 33 3 from ad_ne hA (by decide))).trans (by simpa [ob2, fI, sA] using hN.1)
  · rw [sA_self]; exact hset_self _ _ _
  · rw [sA_row σ (by decide)]; exact (hset_ne _ _ (ad_ne hA (by decide))).trans hN.2.2.1
  · rw [sA_row σ (by decide)]; exact (hset_ne _ _ (ad_ne hA (by decide))).trans hN.2.2.2.1
  · rw [sA_row σ (by decide)]; exact (hset_ne _ _ (ad_ne hA (by decide))).trans hN.2.2.2.2
theorem sA_ok3 {σ : sT} {i v : Nat} (h : sOk σ) (hv : v ≤ 2) : sOk (sA σ 3 i v) := by
  obtain ⟨a, b, c⟩ := h
  have e1 : sA σ 3 i v 1 = σ 1 := sA_ne σ (by decide)
  refine ⟨by unfold fI at a ⊢; rw [e1]; exact a, by rw [e1]; exact b, fun o ho => ?_⟩
  by_cases ho3 : o = 3
  · subst ho3
    obtain ⟨c0, c1, c2, c3, c4, c5, c6⟩ := c 3 (by decide)
    exact ⟨c0, c1, c2, by rw [sA_self]; intro j; dsimp only; split; exact hv; exact c3 j, by rw [sA_row σ (by decide)]; exact c4, by rw [sA_row σ (by decide)]; exact c5, by rw [sA_row σ (by decide)]; exact c6⟩
  · have := c o ho
    have e := sA_ne σ (k := 3) (i := i) (v := v) ho3
    unfold fI at this ⊢
    rw [e]; exact this
theorem CW0.nowA4 {h : ssH} {ad : Nat → Nat} {pl i v : Nat} {σ : sT} (hA : ∀ k l, ad k = ad l → k = l) (hc : CW0 h ad pl σ) : CW0 (hset h (Rm ad 33 4) (ar 6 (fun j => if j = i then v else σ 3 4 j))) ad pl (sA σ 4 i v) := by
  have hN := hc.2.2.2.2.1
  refine hc.mv hA (Or.inl ⟨rfl, rfl⟩) (fun q hq => sA_ne σ hq) ⟨?_, ?_, ?_, ?_, ?_⟩ (fun q hq => hset_ne _ _ (hq (33 + (4 - 2)) (by omega) (by omega)))
  · exact (hset_ne _ _ (show ad 33 ≠ Rm ad 33 4 from ad_ne hA (by decide))).trans (by simpa [ob2, fI, sA] using hN.1)
  · rw [sA_row σ (by decide)]; exact (hset_ne _ _ (ad_ne hA (by decide))).trans hN.2.1
  · rw [sA_self]; exact hset_self _ _ _
  · rw [sA_row σ (by decide)]; exact (hset_ne _ _ (ad_ne hA (by decide))).trans hN.2.2.2.1
  · rw [sA_row σ (by decide)]; exact (hset_ne _ _ (ad_ne hA (by decide))).trans hN.2.2.2.2
theorem sA_ok4 {σ : sT} {i v : Nat} (h : sOk σ) (hv : v < 6) : sOk (sA σ 4 i v) := by
  obtain ⟨a, b, c⟩ := h
  have e1 : sA σ 4 i v 1 = σ 1 := sA_ne σ (by decide)
  refine ⟨by unfold fI at a ⊢; rw [e1]; exact a, by rw [e1]; exact b, fun o ho => ?_⟩
  by_cases ho3 : o = 3
  · subst ho3
    obtain ⟨c0, c1, c2, c3, c4, c5, c6⟩ := c 3 (by decide)
    exact ⟨c0, c1, c2, by rw [sA_row σ (by decide)]; exact c3, by rw [sA_self]; intro j; dsimp only; split; exact hv; exact c4 j, by rw [sA_row σ (by decide)]; exact c5, by rw [sA_row σ (by decide)]; exact c6⟩
  · have := c o ho
    have e := sA_ne σ (k := 4) (i := i) (v := v) ho3
    unfold fI at this ⊢
    rw [e]; exact this
theorem CW0.nowA5 {h : ssH} {ad : Nat → Nat} {pl i v : Nat} {σ : sT} (hA : ∀ k l, ad k = ad l → k = l) (hc : CW0 h ad pl σ) : CW0 (hset h (Rm ad 33 5) (ar 6 (fun j => if j = i then v else σ 3 5 j))) ad pl (sA σ 5 i v) := by
  have hN := hc.2.2.2.2.1
  refine hc.mv hA (Or.inl ⟨rfl, rfl⟩) (fun q hq => sA_ne σ hq) ⟨?_, ?_, ?_, ?_, ?_⟩ (fun q hq => hset_ne _ _ (hq (33 + (5 - 2)) (by omega) (by omega)))
  · exact (hset_ne _ _ (show ad 33 ≠ Rm ad 33 5 from ad_ne hA (by decide))).trans (by simpa [ob2, fI, sA] using hN.1)
  · rw [sA_row σ (by decide)]; exact (hset_ne _ _ (ad_ne hA (by decide))).trans hN.2.1
  · rw [sA_row σ (by decide)]; exact (hset_ne _ _ (ad_ne hA (by decide))).trans hN.2.2.1
  · rw [sA_self]; exact hset_self _ _ _
  · rw [sA_row σ (by decide)]; exact (hset_ne _ _ (ad_ne hA (by decide))).trans hN.2.2.2.2
theorem sA_ok5 {σ : sT} {i v : Nat} (h : sOk σ) (hv : v ≤ 99) : sOk (sA σ 5 i v) := by
  obtain ⟨a, b, c⟩ := h
  have e1 : sA σ 5 i v 1 = σ 1 := sA_ne σ (by decide)
  refine ⟨by unfold fI at a ⊢; rw [e1]; exact a, by rw [e1]; exact b, fun o ho => ?_⟩
  by_cases ho3 : o = 3
  · subst ho3
    obtain ⟨c0, c1, c2, c3, c4, c5, c6⟩ := c 3 (by decide)
    exact ⟨c0, c1, c2, by rw [sA_row σ (by decide)]; exact c3, by rw [sA_row σ (by decide)]; exact c4, by rw [sA_self]; intro j; dsimp only; split; exact hv; exact c5 j, by rw [sA_row σ (by decide)]; exact c6⟩
  · have := c o ho
    have e := sA_ne σ (k := 5) (i := i) (v := v) ho3
    unfold fI at this ⊢
    rw [e]; exact this
theorem CW0.nowA6 {h : ssH} {ad : Nat → Nat} {pl i v : Nat} {σ : sT} (hA : ∀ k l, ad k = ad l → k = l) (hc : CW0 h ad pl σ) : CW0 (hset h (Rm ad 33 6) (ar 41 (fun j => if j = i then v else σ 3 6 j))) ad pl (sA σ 6 i v) := by
  have hN := hc.2.2.2.2.1
  refine hc.mv hA (Or.inl ⟨rfl, rfl⟩) (fun q hq => sA_ne σ hq) ⟨?_, ?_, ?_, ?_, ?_⟩ (fun q hq => hset_ne _ _ (hq (33 + (6 - 2)) (by omega) (by omega)))
  · exact (hset_ne _ _ (show ad 33 ≠ Rm ad 33 6 from ad_ne hA (by decide))).trans (by simpa [ob2, fI, sA] using hN.1)
  · rw [sA_row σ (by decide)]; exact (hset_ne _ _ (ad_ne hA (by decide))).trans hN.2.1
  · rw [sA_row σ (by decide)]; exact (hset_ne _ _ (ad_ne hA (by decide))).trans hN.2.2.1
  · rw [sA_row σ (by decide)]; exact (hset_ne _ _ (ad_ne hA (by decide))).trans hN.2.2.2.1
  · rw [sA_self]; exact hset_self _ _ _
theorem sA_ok6 {σ : sT} {i v : Nat} (h : sOk σ) (hv : v < 64) : sOk (sA σ 6 i v) := by
  obtain ⟨a, b, c⟩ := h
  have e1 : sA σ 6 i v 1 = σ 1 := sA_ne σ (by decide)
  refine ⟨by unfold fI at a ⊢; rw [e1]; exact a, by rw [e1]; exact b, fun o ho => ?_⟩
  by_cases ho3 : o = 3
  · subst ho3
    obtain ⟨c0, c1, c2, c3, c4, c5, c6⟩ := c 3 (by decide)
    exact ⟨c0, c1, c2, by rw [sA_row σ (by decide)]; exact c3, by rw [sA_row σ (by decide)]; exact c4, by rw [sA_row σ (by decide)]; exact c5, by rw [sA_self]; intro j; dsimp only; split; exact hv; exact c6 j⟩
  · have := c o ho
    have e := sA_ne σ (k := 6) (i := i) (v := v) ho3
    unfold fI at this ⊢
    rw [e]; exact this
theorem sKeep_3 (σ : sT) : sKeep σ 3 = σ 3 := by unfold sKeep; rw [sUn_ne _ (by decide), sCp_ne _ (by omega)]
theorem sKeep_1 (σ : sT) : sKeep σ 1 = σ 1 := by unfold sKeep; rw [sUn_ne _ (by decide), sCp_ne _ (by omega)]
theorem sKeep_ok {σ : sT} (h : sOk σ) : sOk (sKeep σ) := by
  refine h.mv (sKeep_1 σ) (fun o ho => ?_)
  by_cases h1 : o = 10 + σ 4 1 0
  · exact ⟨3, by decide, by unfold sKeep; rw [sUn_ne _ ho.2, h1, sCp_self]⟩
  · exact ⟨o, ho, by unfold sKeep; rw [sUn_ne _ ho.2, sCp_ne _ h1]⟩
def tSalt (σ : sT) (s : Int) : Bool × sT := if s < 0 ∨ ↑(σ 1 5 0) ≤ s then (false, sTr σ 1) else if σ 3 3 s.toNat = 1 ∨ σ 3 5 s.toNat = 0 then (false, sTr σ 5) else if σ 3 1 0 = 0 then (false, sTr σ 6) else (true, sTr (sI (sA (sKeep σ) 3 s.toNat 1) 1 (σ 3 1 0 - 1)) 0)
theorem cWhoG_bd (f : Nat → Nat) (k : Nat) : ∀ n s, (cWhoG f k n s = -2) ∨ (↑s ≤ cWhoG f k n s ∧ cWhoG f k n s < ↑(s + n))
  | 0, s => Or.inl rfl
  | n + 1, s => by
    simp only [cWhoG]
    split
    · right; omega
    · rcases cWhoG_bd f k n (s + 1) with h | h
      · exact Or.inl h
      · right; omega
theorem cWho_bd (f : Nat → Nat) (k sc : Nat) : cWho f k sc = -2 ∨ (0 ≤ cWho f k sc ∧ cWho f k sc < ↑sc) := by
  have := cWhoG_bd f k sc 0
  unfold cWho
  omega
def tMove (σ : sT) (s n : Int) : Int × sT := if (s < 0 ∨ ↑(σ 1 5 0) ≤ s) ∨ n < 0 ∨ ↑(σ 1 3 0) ≤ n then (-1, sTr σ 1) else if (σ 3 4 s.toNat : Int) = n then (-1, sTr σ 5) else (cWho (σ 3 4) n.toNat (σ 1 5 0), sTr (sA (if cWho (σ 3 4) n.toNat (σ 1 5 0) < 0 then sKeep σ else sA (sKeep σ) 4 (cWho (σ 3 4) n.toNat (σ 1 5 0)).toNat (sKeep σ 3 4 s.toNat)) 4 s.toNat n.toNat) 0)
set_option maxRecDepth 100000 in
set_option maxHeartbeats 400000 in
theorem k_salt (G : ssG) (h : ssH) {ad : Nat → Nat} {pl : Nat} {σ : sT} (s : Int) (hA : ∀ k l, ad k = ad l → k = l) (hc : CW0 h ad pl σ) (hok : sOk σ) (hs : -2147483648 ≤ s ∧ s < 2147483648) (hz : sZ σ) (hu : σ 4 1 0 < 16 ∧ σ 4 0 0 ≤ 16) : ssC G mX8_salt 3 0 0 [.ref (ad 0), .int (zI s)] h (cR ad pl (tSalt σ s).2 h (.int (zb (tSalt σ s).1))) := by
  refine c_of_v okX8_salt (by decide +kernel) (ls := [some (.ref (ad 0)), some (.int (zI s))]) rfl (Nat.le_of_ble_eq_true rfl) ?_
  obtain ⟨i0, i1, i2, i3, i5, i7, a4, a6, a8, a9, a10, i11, i12, i14, i15⟩ := id hok.1
  obtain ⟨j0, j1, j2, b3, b4, b5, b6⟩ := id (hok.2.2 3 (by decide))
  have i13 := hok.2.1
  have hpl := hc.1
  simp only [fI] at i0 i1 i2 i3 i5 i7 i11 i12 i14 i15 j0 j1 j2
  refine v_run 2 (pc' := 2) (ls' := [some (.ref (ad 0)), some (.int (zI s))]) (st' := [.int (zI s), .ref (ad 0)]) rfl ?_
  refine v_callV (My := mX8_lacksSenator) (As := [.int (zI s)]) (rest := []) (mc := 0) (ms := 0) rfl caX8_lacksSenator rfl rfl rfl hc.2.1 rfl rfl (k_lacksSenator G _ s hA hc hok hs) rfl rfl (Nat.le_of_ble_eq_true rfl) (by omega) ?_
  rintro _ _ ⟨rfl, rfl⟩
  refine v_run 0 (pc' := 5) (ls' := [some (.ref (ad 0)), some (.int (zI s))]) (st' := [.int (zb (decide (s < 0 ∨ ↑(σ 1 5 0) ≤ s)))]) rfl ?_
  refine v_if_eq rfl (fun c5 => ?_) (fun c5 => ?_)
  · rw [zb_0, decide_eq_false_iff_not] at c5
    obtain ⟨k, rfl⟩ : ∃ z : Nat, s = ↑z := ⟨s.toNat, by omega⟩
    have q3 := b3 k
    have q5 := b5 k
    refine v_run 1 (pc' := 15) (ls' := [some (.ref (ad 0)), some (.int (zI ↑k))]) (st' := [.ref (ad 0)]) rfl ?_
    refine v_get rfl hc.2.1 rfl ?_
    refine v_run 0 (pc' := 18) (ls' := [some (.ref (ad 0)), some (.int (zI ↑k))]) (st' := [.ref (ad 33)]) rfl ?_
    refine v_get rfl hc.2.2.2.2.1.1 rfl ?_
    refine v_run 1 (pc' := 22) (ls' := [some (.ref (ad 0)), some (.int (zI ↑k))]) (st' := [.int (zI ↑k), .ref (Rm ad 33 3)]) rfl ?_
    refine v_iaload' rfl hc.2.2.2.2.1.2.1 (i := k) rfl (by omega) ?_
    refine v_run 1 (pc' := 24) (ls' := [some (.ref (ad 0)), some (.int (zI ↑k))]) (st' := [.int (zI 1), .int ((fun k => zI ↑(σ 3 3 k)) k)]) rfl ?_
    refine v_icmp_eq rfl (fun c24 => ?_) (fun c24 => ?_)
    · simp (disch := omega) only [zI_lt, zI_le, zI_eq, zI_lt0, zI_le0, zI_0lt, zI_0le, zI_eq0] at c24
      refine v_run 2 (pc' := 41) (ls' := [some (.ref (ad 0)), some (.int (zI ↑k))]) (st' := [.int (zI 5), .ref (ad 0)]) rfl ?_
      refine v_callV (My := mX8_deny) (As := [.int (zI 5)]) (rest := []) (mc := 0) (ms := 0) rfl caX8_deny rfl rfl rfl hc.2.1 rfl rfl (k_deny G _ 5 hA hc hok) rfl rfl (Nat.le_of_ble_eq_true rfl) (by omega) ?_
      rintro _ h9 ⟨rfl, hc9, hf9⟩
      refine v_run 0 (pc' := 44) (ls' := [some (.ref (ad 0)), some (.int (zI ↑k))]) (st' := [.int (zI 0)]) rfl ?_
      rw [show tSalt σ ↑k = (false, sTr σ 5) from (by rw [tSalt, if_neg c5, if_pos (by simp only [Int.toNat_natCast]; omega)])]
      exact v_iret rfl rfl rfl ⟨rfl, hc9, hf9⟩
    · simp (disch := omega) only [zI_lt, zI_le, zI_eq, zI_lt0, zI_le0, zI_0lt, zI_0le, zI_eq0] at c24
      refine v_run 1 (pc' := 28) (ls' := [some (.ref (ad 0)), some (.int (zI ↑k))]) (st' := [.ref (ad 0)]) rfl ?_
      refine v_get rfl hc.2.1 rfl ?_
      refine v_run 0 (pc' := 31) (ls' := [some (.ref (ad 0)), some (.int (zI ↑k))]) (st' := [.ref (ad 33)]) rfl ?_
      refine v_get rfl hc.2.2.2.2.1.1 rfl ?_
      refine v_run 1 (pc' := 35) (ls' := [some (.ref (ad 0)), some (.int (zI ↑k))]) (st' := [.int (zI ↑k), .ref (Rm ad 33 5)]) rfl ?_
      refine v_iaload' rfl hc.2.2.2.2.1.2.2.2.1 (i := k) rfl (by omega) ?_
      refine v_if_ne rfl (fun c36 => ?_) (fun c36 => ?_)
      · simp (disch := omega) only [zI_lt, zI_le, zI_eq, zI_lt0, zI_le0, zI_0lt, zI_0le, zI_eq0] at c36
        refine v_run 1 (pc' := 46) (ls' := [some (.ref (ad 0)), some (.int (zI ↑k))]) (st' := [.ref (ad 0)]) rfl ?_
        refine v_get rfl hc.2.1 rfl ?_
        refine v_run 0 (pc' := 49) (ls' := [some (.ref (ad 0)), some (.int (zI ↑k))]) (st' := [.ref (ad 33)]) rfl ?_
        refine v_get rfl hc.2.2.2.2.1.1 rfl ?_
        refine v_run 0 (pc' := 52) (ls' := [some (.ref (ad 0)), some (.int (zI ↑k))]) (st' := [.int (zI ↑(σ 3 1 0))]) rfl ?_
        refine v_if_ne rfl (fun c52 => ?_) (fun c52 => ?_)
        · simp (disch := omega) only [zI_lt, zI_le, zI_eq, zI_lt0, zI_le0, zI_0lt, zI_0le, zI_eq0] at c52
          refine v_run 1 (pc' := 63) (ls' := [some (.ref (ad 0)), some (.int (zI ↑k))]) (st' := [.ref (ad 0)]) rfl ?_
          refine v_get rfl hc.2.1 rfl ?_
          refine v_run 1 (pc' := 67) (ls' := [some (.ref (ad 0)), some (.int (zI ↑k))]) (st' := [.ref (ad 0), .ref (ad 38)]) rfl ?_
          refine v_get rfl hc.2.1 rfl ?_
          refine v_run 0 (pc' := 70) (ls' := [some (.ref (ad 0)), some (.int (zI ↑k))]) (st' := [.ref (ad 33), .ref (ad 38)]) rfl ?_
          refine v_callV (My := mX7_keep) (As := [.ref (ad 33)]) (rest := []) (mc := 0) (ms := 0) rfl caX7_keep rfl rfl rfl hc.2.2.2.2.2.1.1 rfl rfl (k_keep G _ hA hc hok hz hu) rfl rfl (Nat.le_of_ble_eq_true rfl) (by omega) ?_
          rintro _ h1 ⟨rfl, hc1, hf1⟩
          have hok1 := sKeep_ok hok
          have e3 := sKeep_3 σ
          have e1 := sKeep_1 σ
          refine v_run 0 (pc' := 73) (ls' := [some (.ref (ad 0)), some (.int (zI ↑k))]) (st' := []) rfl ?_
          refine v_run 1 (pc' := 74) (ls' := [some (.ref (ad 0)), some (.int (zI ↑k))]) (st' := [.ref (ad 0)]) rfl ?_
          refine v_get rfl hc1.2.1 rfl ?_
          refine v_run 0 (pc' := 77) (ls' := [some (.ref (ad 0)), some (.int (zI ↑k))]) (st' := [.ref (ad 33)]) rfl ?_
          refine v_get rfl hc1.2.2.2.2.1.1 rfl ?_
          refine v_run 2 (pc' := 82) (ls' := [some (.ref (ad 0)), some (.int (zI ↑k))]) (st' := [.int (zI 1), .int (zI ↑k), .ref (Rm ad 33 3)]) rfl ?_
          refine v_iastore' (y := zI ↑(1 : Nat)) rfl hc1.2.2.2.2.1.2.1 (i := k) rfl (by omega) ?_
          rw [ar_upd]
          generalize he2 : hset h1 _ _ = h2
          have hc2 : CW0 h2 ad pl (sA (sKeep σ) 3 k (1)) := he2 ▸ hc1.nowA3 hA
          have hf2 : frP ad pl h h2 := he2 ▸ hf1.set hA hc.1 (by omega) _
          refine v_run 1 (pc' := 84) (ls' := [some (.ref (ad 0)), some (.int (zI ↑k))]) (st' := [.ref (ad 0)]) rfl ?_
          refine v_get rfl hc2.2.1 rfl ?_
          refine v_run 1 (pc' := 88) (ls' := [some (.ref (ad 0)), some (.int (zI ↑k))]) (st' := [.ref (ad 33), .ref (ad 33)]) rfl ?_
          refine v_get rfl hc2.2.2.2.2.1.1 rfl ?_
          refine v_run 2 (pc' := 93) (ls' := [some (.ref (ad 0)), some (.int (zI ↑k))]) (st' := [.int ((zI ↑((sA (sKeep σ) 3 k (1)) 3 1 0)) - (zI 1)), .ref (ad 33)]) rfl ?_
          rw [show ((zI ↑((sA (sKeep σ) 3 k (1)) 3 1 0)) - (zI 1) : Int32) = zI ↑(σ 3 1 0 - 1) from by rw [show (sA (sKeep σ) 3 k (1)) 3 1 0 = σ 3 1 0 from by rw [← e3]; rfl, zI_sub]; congr 1; omega]
          refine v_put rfl hc2.2.2.2.2.1.1 rfl rfl (Nat.le_of_ble_eq_true rfl) ?_
          generalize he3 : hset h2 (ad 33) _ = h3
          have hc3 : CW0 h3 ad pl (sI (sA (sKeep σ) 3 k (1)) 1 (σ 3 1 0 - 1)) := he3 ▸ hc2.nowI hA (by decide)
          have hf3 : frP ad pl h h3 := he3 ▸ hf2.set hA hc.1 (by omega) _
          refine v_run 1 (pc' := 97) (ls' := [some (.ref (ad 0)), some (.int (zI ↑k))]) (st' := [.ref (ad 0)]) rfl ?_
          refine v_callV (My := mX8_allow) (As := []) (rest := []) (mc := 0) (ms := 0) rfl caX8_allow rfl rfl rfl hc3.2.1 rfl rfl (k_allow G _ hA hc3 (sI_ok (sA_ok3 hok1 (by omega)) (by omega) (by omega) (by omega))) rfl rfl (Nat.le_of_ble_eq_true rfl) (by omega) ?_
          rintro _ h9 ⟨rfl, hc9, hf9⟩
          refine v_run 0 (pc' := 100) (ls' := [some (.ref (ad 0)), some (.int (zI ↑k))]) (st' := [.int (zI 1)]) rfl ?_
          rw [show tSalt σ ↑k = (true, sTr ((sI (sA (sKeep σ) 3 k (1)) 1 (σ 3 1 0 - 1))) 0) from by rw [tSalt, if_neg c5, if_neg (by simp only [Int.toNat_natCast]; omega), if_neg (by omega)]; rfl]
          exact v_iret rfl rfl rfl ⟨rfl, hc9, hf3.tr hf9⟩
        · simp (disch := omega) only [zI_lt, zI_le, zI_eq, zI_lt0, zI_le0, zI_0lt, zI_0le, zI_eq0] at c52
          refine v_run 2 (pc' := 58) (ls' := [some (.ref (ad 0)), some (.int (zI ↑k))]) (st' := [.int (zI 6), .ref (ad 0)]) rfl ?_
          refine v_callV (My := mX8_deny) (As := [.int (zI 6)]) (rest := []) (mc := 0) (ms := 0) rfl caX8_deny rfl rfl rfl hc.2.1 rfl rfl (k_deny G _ 6 hA hc hok) rfl rfl (Nat.le_of_ble_eq_true rfl) (by omega) ?_
          rintro _ h9 ⟨rfl, hc9, hf9⟩
          refine v_run 0 (pc' := 61) (ls' := [some (.ref (ad 0)), some (.int (zI ↑k))]) (st' := [.int (zI 0)]) rfl ?_
          rw [show tSalt σ ↑k = (false, sTr σ 6) from (by rw [tSalt, if_neg c5, if_neg (by simp only [Int.toNat_natCast]; omega), if_pos (by omega)])]
          exact v_iret rfl rfl rfl ⟨rfl, hc9, hf9⟩
      · simp (disch := omega) only [zI_lt, zI_le, zI_eq, zI_lt0, zI_le0, zI_0lt, zI_0le, zI_eq0] at c36
        refine v_run 2 (pc' := 41) (ls' := [some (.ref (ad 0)), some (.int (zI ↑k))]) (st' := [.int (zI 5), .ref (ad 0)]) rfl ?_
        refine v_callV (My := mX8_deny) (As := [.int (zI 5)]) (rest := []) (mc := 0) (ms := 0) rfl caX8_deny rfl rfl rfl hc.2.1 rfl rfl (k_deny G _ 5 hA hc hok) rfl rfl (Nat.le_of_ble_eq_true rfl) (by omega) ?_
        rintro _ h9 ⟨rfl, hc9, hf9⟩
        refine v_run 0 (pc' := 44) (ls' := [some (.ref (ad 0)), some (.int (zI ↑k))]) (st' := [.int (zI 0)]) rfl ?_
        rw [show tSalt σ ↑k = (false, sTr σ 5) from (by rw [tSalt, if_neg c5, if_pos (by simp only [Int.toNat_natCast]; omega)])]
        exact v_iret rfl rfl rfl ⟨rfl, hc9, hf9⟩
  · rw [zb_0, Bool.not_eq_false, decide_eq_true_eq] at c5
    refine v_run 2 (pc' := 10) (ls' := [some (.ref (ad 0)), some (.int (zI s))]) (st' := [.int (zI 1), .ref (ad 0)]) rfl ?_
    refine v_callV (My := mX8_deny) (As := [.int (zI 1)]) (rest := []) (mc := 0) (ms := 0) rfl caX8_deny rfl rfl rfl hc.2.1 rfl rfl (k_deny G _ 1 hA hc hok) rfl rfl (Nat.le_of_ble_eq_true rfl) (by omega) ?_
    rintro _ h9 ⟨rfl, hc9, hf9⟩
    refine v_run 0 (pc' := 13) (ls' := [some (.ref (ad 0)), some (.int (zI s))]) (st' := [.int (zI 0)]) rfl ?_
    rw [show tSalt σ s = (false, sTr σ 1) from if_pos c5]
    exact v_iret rfl rfl rfl ⟨rfl, hc9, hf9⟩

set_option maxRecDepth 100000 in
set_option maxHeartbeats 400000 in
theorem k_move (G : ssG) (h : ssH) {ad : Nat → Nat} {pl : Nat} {σ : sT} (s n : Int) (hA : ∀ k l, ad k = ad l → k = l) (hc : CW0 h ad pl σ) (hok : sOk σ) (hs : -2147483648 ≤ s ∧ s < 2147483648) (hn : -2147483648 ≤ n ∧ n < 2147483648) (hz : sZ σ) (hu : σ 4 1 0 < 16 ∧ σ 4 0 0 ≤ 16) : ssC G mX8_move 3 0 0 [.ref (ad 0), .int (zI s), .int (zI n)] h (cR ad pl (tMove σ s n).2 h (.int (zI (tMove σ s n).1))) := by
  refine c_of_v okX8_move (by decide +kernel) (ls := [some (.ref (ad 0)), some (.int (zI s)), some (.int (zI n)), none]) rfl (Nat.le_of_ble_eq_true rfl) ?_
  obtain ⟨i0, i1, i2, i3, i5, i7, a4, a6, a8, a9, a10, i11, i12, i14, i15⟩ := id hok.1
  obtain ⟨j0, j1, j2, b3, b4, b5, b6⟩ := id (hok.2.2 3 (by decide))
  have i13 := hok.2.1
  have hpl := hc.1
  simp only [fI] at i0 i1 i2 i3 i5 i7 i11 i12 i14 i15 j0 j1 j2
  refine v_run 2 (pc' := 2) (ls' := [some (.ref (ad 0)), some (.int (zI s)), some (.int (zI n)), none]) (st' := [.int (zI s), .ref (ad 0)]) rfl ?_
  refine v_callV (My := mX8_lacksSenator) (As := [.int (zI s)]) (rest := []) (mc := 0) (ms := 0) rfl caX8_lacksSenator rfl rfl rfl hc.2.1 rfl rfl (k_lacksSenator G _ s hA hc hok hs) rfl rfl (Nat.le_of_ble_eq_true rfl) (by omega) ?_
  rintro _ _ ⟨rfl, rfl⟩
  refine v_run 0 (pc' := 5) (ls' := [some (.ref (ad 0)), some (.int (zI s)), some (.int (zI n)), none]) (st' := [.int (zb (decide (s < 0 ∨ ↑(σ 1 5 0) ≤ s)))]) rfl ?_
  refine v_if_ne rfl (fun c5 => ?_) (fun c5 => ?_)
  · rw [zb_0, Bool.not_eq_false, decide_eq_true_eq] at c5
    refine v_run 2 (pc' := 25) (ls' := [some (.ref (ad 0)), some (.int (zI s)), some (.int (zI n)), none]) (st' := [.int (zI 1), .ref (ad 0)]) rfl ?_
    refine v_callV (My := mX8_refuse) (As := [.int (zI 1)]) (rest := []) (mc := 0) (ms := 0) rfl caX8_refuse rfl rfl rfl hc.2.1 rfl rfl (k_refuse G _ 1 hA hc hok) rfl rfl (Nat.le_of_ble_eq_true rfl) (by omega) ?_
    rintro _ h9 ⟨rfl, hc9, hf9⟩
    refine v_run 0 (pc' := 28) (ls' := [some (.ref (ad 0)), some (.int (zI s)), some (.int (zI n)), none]) (st' := [.int (zI (-1))]) rfl ?_
    rw [show tMove σ s n = (-1, sTr σ 1) from if_pos (by omega)]
    exact v_iret rfl rfl rfl ⟨rfl, hc9, hf9⟩
  · rw [zb_0, decide_eq_false_iff_not] at c5
    refine v_run 1 (pc' := 9) (ls' := [some (.ref (ad 0)), some (.int (zI s)), some (.int (zI n)), none]) (st' := [.int (zI n)]) rfl ?_
    refine v_if_lt rfl (fun c9 => ?_) (fun c9 => ?_)
    · simp (disch := omega) only [zI_lt, zI_le, zI_eq, zI_lt0, zI_le0, zI_0lt, zI_0le, zI_eq0] at c9
      refine v_run 2 (pc' := 25) (ls' := [some (.ref (ad 0)), some (.int (zI s)), some (.int (zI n)), none]) (st' := [.int (zI 1), .ref (ad 0)]) rfl ?_
      refine v_callV (My := mX8_refuse) (As := [.int (zI 1)]) (rest := []) (mc := 0) (ms := 0) rfl caX8_refuse rfl rfl rfl hc.2.1 rfl rfl (k_refuse G _ 1 hA hc hok) rfl rfl (Nat.le_of_ble_eq_true rfl) (by omega) ?_
      rintro _ h9 ⟨rfl, hc9, hf9⟩
      refine v_run 0 (pc' := 28) (ls' := [some (.ref (ad 0)), some (.int (zI s)), some (.int (zI n)), none]) (st' := [.int (zI (-1))]) rfl ?_
      rw [show tMove σ s n = (-1, sTr σ 1) from if_pos (by omega)]
      exact v_iret rfl rfl rfl ⟨rfl, hc9, hf9⟩
    · simp (disch := omega) only [zI_lt, zI_le, zI_eq, zI_lt0, zI_le0, zI_0lt, zI_0le, zI_eq0] at c9
      refine v_run 2 (pc' := 14) (ls' := [some (.ref (ad 0)), some (.int (zI s)), some (.int (zI n)), none]) (st' := [.ref (ad 0), .int (zI n)]) rfl ?_
      refine v_get rfl hc.2.1 rfl ?_
      refine v_run 0 (pc' := 17) (ls' := [some (.ref (ad 0)), some (.int (zI s)), some (.int (zI n)), none]) (st' := [.ref (ad pl), .int (zI n)]) rfl ?_
      refine v_get rfl hc.2.2.1.1 rfl ?_
      refine v_run 0 (pc' := 20) (ls' := [some (.ref (ad 0)), some (.int (zI s)), some (.int (zI n)), none]) (st' := [.int (zI ↑(σ 1 3 0)), .int (zI n)]) rfl ?_
      refine v_icmp_lt rfl (fun c20 => ?_) (fun c20 => ?_)
      · simp (disch := omega) only [zI_lt, zI_le, zI_eq, zI_lt0, zI_le0, zI_0lt, zI_0le, zI_eq0] at c20
        obtain ⟨k, rfl⟩ : ∃ z : Nat, s = ↑z := ⟨s.toNat, by omega⟩
        obtain ⟨m, rfl⟩ : ∃ z : Nat, n = ↑z := ⟨n.toNat, by omega⟩
        have q4 := b4 k
        refine v_run 1 (pc' := 30) (ls' := [some (.ref (ad 0)), some (.int (zI ↑k)), some (.int (zI ↑m)), none]) (st' := [.ref (ad 0)]) rfl ?_
        refine v_get rfl hc.2.1 rfl ?_
        refine v_run 0 (pc' := 33) (ls' := [some (.ref (ad 0)), some (.int (zI ↑k)), some (.int (zI ↑m)), none]) (st' := [.ref (ad 33)]) rfl ?_
        refine v_get rfl hc.2.2.2.2.1.1 rfl ?_
        refine v_run 1 (pc' := 37) (ls' := [some (.ref (ad 0)), some (.int (zI ↑k)), some (.int (zI ↑m)), none]) (st' := [.int (zI ↑k), .ref (Rm ad 33 4)]) rfl ?_
        refine v_iaload' rfl hc.2.2.2.2.1.2.2.1 (i := k) rfl (by omega) ?_
        refine v_run 1 (pc' := 39) (ls' := [some (.ref (ad 0)), some (.int (zI ↑k)), some (.int (zI ↑m)), none]) (st' := [.int (zI ↑m), .int ((fun k => zI ↑(σ 3 4 k)) k)]) rfl ?_
        refine v_icmp_ne rfl (fun c39 => ?_) (fun c39 => ?_)
        · simp (disch := omega) only [zI_lt, zI_le, zI_eq, zI_lt0, zI_le0, zI_0lt, zI_0le, zI_eq0] at c39
          refine v_run 1 (pc' := 49) (ls' := [some (.ref (ad 0)), some (.int (zI ↑k)), some (.int (zI ↑m)), none]) (st' := [.ref (ad 0)]) rfl ?_
          refine v_get rfl hc.2.1 rfl ?_
          refine v_run 1 (pc' := 53) (ls' := [some (.ref (ad 0)), some (.int (zI ↑k)), some (.int (zI ↑m)), none]) (st' := [.ref (ad 0), .ref (ad 38)]) rfl ?_
          refine v_get rfl hc.2.1 rfl ?_
          refine v_run 0 (pc' := 56) (ls' := [some (.ref (ad 0)), some (.int (zI ↑k)), some (.int (zI ↑m)), none]) (st' := [.ref (ad 33), .ref (ad 38)]) rfl ?_
          refine v_callV (My := mX7_keep) (As := [.ref (ad 33)]) (rest := []) (mc := 0) (ms := 0) rfl caX7_keep rfl rfl rfl hc.2.2.2.2.2.1.1 rfl rfl (k_keep G _ hA hc hok hz hu) rfl rfl (Nat.le_of_ble_eq_true rfl) (by omega) ?_
          rintro _ h1 ⟨rfl, hc1, hf1⟩
          have hok1 := sKeep_ok hok
          have e3 := sKeep_3 σ
          have e1 := sKeep_1 σ
          refine v_run 0 (pc' := 59) (ls' := [some (.ref (ad 0)), some (.int (zI ↑k)), some (.int (zI ↑m)), none]) (st' := []) rfl ?_
          refine v_run 1 (pc' := 60) (ls' := [some (.ref (ad 0)), some (.int (zI ↑k)), some (.int (zI ↑m)), none]) (st' := [.ref (ad 0)]) rfl ?_
          refine v_get rfl hc1.2.1 rfl ?_
          refine v_run 2 (pc' := 65) (ls' := [some (.ref (ad 0)), some (.int (zI ↑k)), some (.int (zI ↑m)), none]) (st' := [.ref (ad 0), .int (zI ↑m), .ref (ad 33)]) rfl ?_
          refine v_get rfl hc1.2.1 rfl ?_
          refine v_run 0 (pc' := 68) (ls' := [some (.ref (ad 0)), some (.int (zI ↑k)), some (.int (zI ↑m)), none]) (st' := [.ref (ad pl), .int (zI ↑m), .ref (ad 33)]) rfl ?_
          refine v_get rfl hc1.2.2.1.1 rfl ?_
          refine v_run 0 (pc' := 71) (ls' := [some (.ref (ad 0)), some (.int (zI ↑k)), some (.int (zI ↑m)), none]) (st' := [.int (zI ↑((sKeep σ) 1 5 0)), .int (zI ↑m), .ref (ad 33)]) rfl ?_
          refine v_callV (My := mX2_whoHangsAt) (As := [.int (zI ↑m), .int (zI ↑((sKeep σ) 1 5 0))]) (rest := []) (mc := 0) (ms := 0) rfl caX2_whoHangsAt rfl rfl rfl hc1.2.2.2.2.1.1 rfl rfl (k_whoHangsAt G _ m (sKeep σ 1 5 0) hc1.2.2.2.2.1 (hok1.2.2 3 (by decide)) (by omega) (by rw [e1]; exact i5)) rfl rfl (Nat.le_of_ble_eq_true rfl) (by omega) ?_
          rintro _ _ ⟨rfl, rfl⟩
          refine v_run 0 (pc' := 74) (ls' := [some (.ref (ad 0)), some (.int (zI ↑k)), some (.int (zI ↑m)), none]) (st' := [.int (zI (cWho (sKeep σ 3 4) m (sKeep σ 1 5 0)))]) rfl ?_
          rw [show (zI (cWho (sKeep σ 3 4) m (sKeep σ 1 5 0)) : Int32) = zI (cWho (σ 3 4) m (σ 1 5 0)) from by rw [e3, e1]]
          have qw := cWho_bd (σ 3 4) m (σ 1 5 0)
          refine v_run 2 (pc' := 76) (ls' := [some (.ref (ad 0)), some (.int (zI ↑k)), some (.int (zI ↑m)), some (.int (zI (cWho (σ 3 4) m (σ 1 5 0))))]) (st' := [.int (zI (cWho (σ 3 4) m (σ 1 5 0)))]) rfl ?_
          refine v_if_lt rfl (fun c76 => ?_) (fun c76 => ?_)
          · simp (disch := omega) only [zI_lt, zI_le, zI_eq, zI_lt0, zI_le0, zI_0lt, zI_0le, zI_eq0] at c76
            refine v_run 1 (pc' := 98) (ls' := [some (.ref (ad 0)), some (.int (zI ↑k)), some (.int (zI ↑m)), some (.int (zI (cWho (σ 3 4) m (σ 1 5 0))))]) (st' := [.ref (ad 0)]) rfl ?_
            refine v_get rfl hc1.2.1 rfl ?_
            refine v_run 0 (pc' := 101) (ls' := [some (.ref (ad 0)), some (.int (zI ↑k)), some (.int (zI ↑m)), some (.int (zI (cWho (σ 3 4) m (σ 1 5 0))))]) (st' := [.ref (ad 33)]) rfl ?_
            refine v_get rfl hc1.2.2.2.2.1.1 rfl ?_
            refine v_run 2 (pc' := 106) (ls' := [some (.ref (ad 0)), some (.int (zI ↑k)), some (.int (zI ↑m)), some (.int (zI (cWho (σ 3 4) m (σ 1 5 0))))]) (st' := [.int (zI ↑m), .int (zI ↑k), .ref (Rm ad 33 4)]) rfl ?_
            refine v_iastore' (y := zI ↑(m : Nat)) rfl hc1.2.2.2.2.1.2.2.1 (i := k) rfl (by omega) ?_
            rw [ar_upd]
            generalize he2 : hset h1 _ _ = h2
            have hc2 : CW0 h2 ad pl (sA (sKeep σ) 4 k (m)) := he2 ▸ hc1.nowA4 hA
            have hf2 : frP ad pl h h2 := he2 ▸ hf1.set hA hc.1 (by omega) _
            refine v_run 2 (pc' := 109) (ls' := [some (.ref (ad 0)), some (.int (zI ↑k)), some (.int (zI ↑m)), some (.int (zI (cWho (σ 3 4) m (σ 1 5 0))))]) (st' := [.int (zI (cWho (σ 3 4) m (σ 1 5 0))), .ref (ad 0)]) rfl ?_
            refine v_callV (My := mX8_grant) (As := [.int (zI (cWho (σ 3 4) m (σ 1 5 0)))]) (rest := []) (mc := 0) (ms := 0) rfl caX8_grant rfl rfl rfl hc2.2.1 rfl rfl (k_grant G _ ((zI (cWho (σ 3 4) m (σ 1 5 0)))) hA hc2 (sA_ok4 hok1 (by omega))) rfl rfl (Nat.le_of_ble_eq_true rfl) (by omega) ?_
            rintro _ h9 ⟨rfl, hc9, hf9⟩
            refine v_run 0 (pc' := 112) (ls' := [some (.ref (ad 0)), some (.int (zI ↑k)), some (.int (zI ↑m)), some (.int (zI (cWho (σ 3 4) m (σ 1 5 0))))]) (st' := [.int ((zI (cWho (σ 3 4) m (σ 1 5 0))))]) rfl ?_
            rw [show tMove σ ↑k ↑m = (cWho (σ 3 4) m (σ 1 5 0), sTr (sA (sKeep σ) 4 k (m)) 0) from by rw [tMove, if_neg (by omega), if_neg (by simp only [Int.toNat_natCast]; omega)]; simp only [Int.toNat_natCast]; rw [if_pos (by omega)]]
            exact v_iret rfl rfl rfl ⟨rfl, hc9, hf2.tr hf9⟩
          · simp (disch := omega) only [zI_lt, zI_le, zI_eq, zI_lt0, zI_le0, zI_0lt, zI_0le, zI_eq0] at c76
            obtain ⟨x, hx⟩ : ∃ x : Nat, cWho (σ 3 4) m (σ 1 5 0) = ↑x := ⟨(cWho (σ 3 4) m (σ 1 5 0)).toNat, by omega⟩
            have qx : x < 6 := by omega
            refine v_run 1 (pc' := 80) (ls' := [some (.ref (ad 0)), some (.int (zI ↑k)), some (.int (zI ↑m)), some (.int (zI (cWho (σ 3 4) m (σ 1 5 0))))]) (st' := [.ref (ad 0)]) rfl ?_
            refine v_get rfl hc1.2.1 rfl ?_
            refine v_run 0 (pc' := 83) (ls' := [some (.ref (ad 0)), some (.int (zI ↑k)), some (.int (zI ↑m)), some (.int (zI (cWho (σ 3 4) m (σ 1 5 0))))]) (st' := [.ref (ad 33)]) rfl ?_
            refine v_get rfl hc1.2.2.2.2.1.1 rfl ?_
            refine v_run 2 (pc' := 88) (ls' := [some (.ref (ad 0)), some (.int (zI ↑k)), some (.int (zI ↑m)), some (.int (zI (cWho (σ 3 4) m (σ 1 5 0))))]) (st' := [.ref (ad 0), .int (zI (cWho (σ 3 4) m (σ 1 5 0))), .ref (Rm ad 33 4)]) rfl ?_
            refine v_get rfl hc1.2.1 rfl ?_
            refine v_run 0 (pc' := 91) (ls' := [some (.ref (ad 0)), some (.int (zI ↑k)), some (.int (zI ↑m)), some (.int (zI (cWho (σ 3 4) m (σ 1 5 0))))]) (st' := [.ref (ad 33), .int (zI (cWho (σ 3 4) m (σ 1 5 0))), .ref (Rm ad 33 4)]) rfl ?_
            refine v_get rfl hc1.2.2.2.2.1.1 rfl ?_
            refine v_run 1 (pc' := 95) (ls' := [some (.ref (ad 0)), some (.int (zI ↑k)), some (.int (zI ↑m)), some (.int (zI (cWho (σ 3 4) m (σ 1 5 0))))]) (st' := [.int (zI ↑k), .ref (Rm ad 33 4), .int (zI (cWho (σ 3 4) m (σ 1 5 0))), .ref (Rm ad 33 4)]) rfl ?_
            refine v_iaload' rfl hc1.2.2.2.2.1.2.2.1 (i := k) rfl (by omega) ?_
            refine v_iastore' (y := zI ↑(sKeep σ 3 4 k : Nat)) rfl hc1.2.2.2.2.1.2.2.1 (i := x) (by rw [hx]) qx ?_
            rw [ar_upd]
            generalize he2 : hset h1 _ _ = h2
            have hc2 : CW0 h2 ad pl (sA (sKeep σ) 4 x (sKeep σ 3 4 k)) := he2 ▸ hc1.nowA4 hA
            have hf2 : frP ad pl h h2 := he2 ▸ hf1.set hA hc.1 (by omega) _
            refine v_run 1 (pc' := 98) (ls' := [some (.ref (ad 0)), some (.int (zI ↑k)), some (.int (zI ↑m)), some (.int (zI (cWho (σ 3 4) m (σ 1 5 0))))]) (st' := [.ref (ad 0)]) rfl ?_
            refine v_get rfl hc2.2.1 rfl ?_
            refine v_run 0 (pc' := 101) (ls' := [some (.ref (ad 0)), some (.int (zI ↑k)), some (.int (zI ↑m)), some (.int (zI (cWho (σ 3 4) m (σ 1 5 0))))]) (st' := [.ref (ad 33)]) rfl ?_
            refine v_get rfl hc2.2.2.2.2.1.1 rfl ?_
            refine v_run 2 (pc' := 106) (ls' := [some (.ref (ad 0)), some (.int (zI ↑k)), some (.int (zI ↑m)), some (.int (zI (cWho (σ 3 4) m (σ 1 5 0))))]) (st' := [.int (zI ↑m), .int (zI ↑k), .ref (Rm ad 33 4)]) rfl ?_
            refine v_iastore' (y := zI ↑(m : Nat)) rfl hc2.2.2.2.2.1.2.2.1 (i := k) rfl (by omega) ?_
            rw [ar_upd]
            generalize he3 : hset h2 _ _ = h3
            have hc3 : CW0 h3 ad pl (sA (sA (sKeep σ) 4 x (sKeep σ 3 4 k)) 4 k (m)) := he3 ▸ hc2.nowA4 hA
            have hf3 : frP ad pl h h3 := he3 ▸ hf2.set hA hc.1 (by omega) _
            refine v_run 2 (pc' := 109) (ls' := [some (.ref (ad 0)), some (.int (zI ↑k)), some (.int (zI ↑m)), some (.int (zI (cWho (σ 3 4) m (σ 1 5 0))))]) (st' := [.int (zI (cWho (σ 3 4) m (σ 1 5 0))), .ref (ad 0)]) rfl ?_
            refine v_callV (My := mX8_grant) (As := [.int (zI (cWho (σ 3 4) m (σ 1 5 0)))]) (rest := []) (mc := 0) (ms := 0) rfl caX8_grant rfl rfl rfl hc3.2.1 rfl rfl (k_grant G _ ((zI (cWho (σ 3 4) m (σ 1 5 0)))) hA hc3 (sA_ok4 (sA_ok4 hok1 ((hok1.2.2 3 (by decide)).2.2.2.2.1 k)) (by omega))) rfl rfl (Nat.le_of_ble_eq_true rfl) (by omega) ?_
            rintro _ h9 ⟨rfl, hc9, hf9⟩
            refine v_run 0 (pc' := 112) (ls' := [some (.ref (ad 0)), some (.int (zI ↑k)), some (.int (zI ↑m)), some (.int (zI (cWho (σ 3 4) m (σ 1 5 0))))]) (st' := [.int ((zI (cWho (σ 3 4) m (σ 1 5 0))))]) rfl ?_
            rw [show tMove σ ↑k ↑m = (cWho (σ 3 4) m (σ 1 5 0), sTr (sA (sA (sKeep σ) 4 x (sKeep σ 3 4 k)) 4 k (m)) 0) from by rw [tMove, if_neg (by omega), if_neg (by simp only [Int.toNat_natCast]; omega)]; simp only [Int.toNat_natCast]; rw [if_neg (by omega), hx, Int.toNat_natCast]]
            exact v_iret rfl rfl rfl ⟨rfl, hc9, hf3.tr hf9⟩
        · simp (disch := omega) only [zI_lt, zI_le, zI_eq, zI_lt0, zI_le0, zI_0lt, zI_0le, zI_eq0] at c39
          refine v_run 2 (pc' := 44) (ls' := [some (.ref (ad 0)), some (.int (zI ↑k)), some (.int (zI ↑m)), none]) (st' := [.int (zI 5), .ref (ad 0)]) rfl ?_
          refine v_callV (My := mX8_refuse) (As := [.int (zI 5)]) (rest := []) (mc := 0) (ms := 0) rfl caX8_refuse rfl rfl rfl hc.2.1 rfl rfl (k_refuse G _ 5 hA hc hok) rfl rfl (Nat.le_of_ble_eq_true rfl) (by omega) ?_
          rintro _ h9 ⟨rfl, hc9, hf9⟩
          refine v_run 0 (pc' := 47) (ls' := [some (.ref (ad 0)), some (.int (zI ↑k)), some (.int (zI ↑m)), none]) (st' := [.int (zI (-1))]) rfl ?_
          rw [show tMove σ ↑k ↑m = (-1, sTr σ 5) from (by rw [tMove, if_neg (by omega), if_pos (by simp only [Int.toNat_natCast]; omega)])]
          exact v_iret rfl rfl rfl ⟨rfl, hc9, hf9⟩
      · simp (disch := omega) only [zI_lt, zI_le, zI_eq, zI_lt0, zI_le0, zI_0lt, zI_0le, zI_eq0] at c20
        refine v_run 2 (pc' := 25) (ls' := [some (.ref (ad 0)), some (.int (zI s)), some (.int (zI n)), none]) (st' := [.int (zI 1), .ref (ad 0)]) rfl ?_
        refine v_callV (My := mX8_refuse) (As := [.int (zI 1)]) (rest := []) (mc := 0) (ms := 0) rfl caX8_refuse rfl rfl rfl hc.2.1 rfl rfl (k_refuse G _ 1 hA hc hok) rfl rfl (Nat.le_of_ble_eq_true rfl) (by omega) ?_
        rintro _ h9 ⟨rfl, hc9, hf9⟩
        refine v_run 0 (pc' := 28) (ls' := [some (.ref (ad 0)), some (.int (zI s)), some (.int (zI n)), none]) (st' := [.int (zI (-1))]) rfl ?_
        rw [show tMove σ s n = (-1, sTr σ 1) from if_pos (by omega)]
        exact v_iret rfl rfl rfl ⟨rfl, hc9, hf9⟩

