def frH (ad : Nat → Nat) (po : Nat) (h h' : ssH) : Prop := ∀ b, (∀ k, 1 ≤ k → k ≤ 10 → b ≠ ad k) → (∀ k, po ≤ k → k < po + 11 → b ≠ ad k) → h' b = h b
theorem frH.tr {ad : Nat → Nat} {po : Nat} {h h1 h2 : ssH} (a : frH ad po h h1) (b : frH ad po h1 h2) : frH ad po h h2 := fun q a1 a2 => (b q a1 a2).trans (a q a1 a2)
theorem frC.H {ad : Nat → Nat} {po : Nat} {h h1 : ssH} (a : frC ad po h h1) : frH ad po h h1 := fun q a1 a2 => a q (a1 1 (by omega) (by omega)) (a1 2 (by omega) (by omega)) (a1 8 (by omega) (by omega)) (a1 9 (by omega) (by omega)) (a1 10 (by omega) (by omega)) a2
theorem frR.H {ad : Nat → Nat} {po : Nat} {h h1 : ssH} (a : frR ad h h1) : frH ad po h h1 := fun q a1 _ => a q (a1 2 (by omega) (by omega)) (a1 4 (by omega) (by omega)) (a1 5 (by omega) (by omega)) (a1 6 (by omega) (by omega)) (a1 7 (by omega) (by omega))
def QH (ad : Nat → Nat) (po : Nat) (E : pE) (h : ssH) : pR zT → Option Value → ssH → Prop
  | .inl e, a, h' => a = some (.int (zI 0)) ∧ ∃ E' τ' j, PW h' ad po E' τ' j ∧ TOk τ' ∧ τ' 5 1 0 = e.1 ∧ τ' 5 2 0 = e.2 ∧ eL E' = eL E ∧ eB E' = eB E ∧ frH ad po h h'
  | .inr ζ, a, h' => a = some (.int (zI 1)) ∧ ∃ E' τ' j, PW h' ad po E' τ' j ∧ TOk τ' ∧ CR τ' ζ ∧ zOk ζ ∧ ¬ ζ 5 0 = 0 ∧ eL E' = eL E ∧ eB E' = eB E ∧ frH ad po h h'
theorem BadP.H {ad : Nat → Nat} {po : Nat} {E E0 : pE} {h h1 h' : ssH} {e : Nat × Nat} (b : BadP ad po E h1 h' e) (f : frH ad po h h1) (h1 : eL E = eL E0) (h2 : eB E = eB E0) : ∃ E' τ' j, PW h' ad po E' τ' j ∧ TOk τ' ∧ τ' 5 1 0 = e.1 ∧ τ' 5 2 0 = e.2 ∧ eL E' = eL E0 ∧ eB E' = eB E0 ∧ frH ad po h h' := by
  obtain ⟨t, j, b1, b2, b3, b4, b5⟩ := b
  exact ⟨E, t, j, b1, b2, b3, b4, h1, h2, f.tr b5.H⟩
def z00 : zT := fun _ _ => 0
theorem z00_ok : zOk z00 := by
  refine ⟨⟨by simp [z00], by simp [z00], by simp [z00], by simp [z00], by simp [z00], by simp [z00], by simp [z00], by simp [z00], by simp [z00], by simp [z00], by simp [z00]⟩, ⟨fun _ => by simp [z00], fun _ => by simp [z00], fun _ => by simp [z00], fun _ => by simp [z00], fun _ => by simp [z00], fun _ => by simp [z00], fun _ => by simp [z00], fun _ => by simp [z00], fun _ => by simp [z00]⟩, ⟨fun _ => by simp [z00], fun _ => by simp [z00], fun _ => by simp [z00], fun k hk => absurd hk (by simp [z00])⟩, fun _ => ⟨rfl, rfl, rfl, rfl, rfl, rfl, rfl, rfl⟩, fun s hs => absurd hs (by simp [z00]), fun s t hs => absurd hs (by simp [z00]), fun a k hk => ?_, by decide⟩
  rw [show z00 19 a = 0 from rfl, bN_0] at hk; cases hk
def ini (τ : sT) : sT := tU (tU (tU (tU (tU (clrT τ) 5 1 0 0) 5 2 0 0) 5 4 0 0) 5 6 0 0) 5 7 0 0
theorem ini_cr (τ : sT) : CR (ini τ) z00 := by
  refine ⟨⟨rfl, rfl, rfl, rfl, rfl, rfl, rfl, rfl⟩, ⟨rfl, fun h => absurd h (by decide)⟩, fun k hk => absurd hk (by simp [z00]), fun k hk => absurd hk (by simp [z00]), fun k hk => absurd hk (by simp [z00]), fun a ha => ⟨?_, ?_⟩, fun k hk => absurd hk (by simp [z00]), fun k => ⟨fun h => ?_, fun h => ?_⟩, fun a => ?_, fun k h => ?_, fun k h => ?_, show 0 = popN (0 ||| 0) by decide⟩
  · show (if 1 = 1 ∧ (9 = 9 ∨ 9 = 10) ∧ a < 5 then 0 else _) = 0
    rw [if_pos ⟨rfl, Or.inl rfl, ha⟩]
  · show (if 1 = 1 ∧ (10 = 9 ∨ 10 = 10) ∧ a < 5 then 0 else _) = 0
    rw [if_pos ⟨rfl, Or.inr rfl, ha⟩]
  · have h : bitN 0 k = true := h
    rw [bN_0] at h; cases h
  · obtain ⟨s, hs, _⟩ := h
    exact absurd hs (by simp [z00])
  · show 0 = if bitN 0 a = true then 1 else if bitN 0 a = true then 2 else 0
    rw [bN_0]; rfl
  · have h : bitN 0 k = true := h
    rw [bN_0] at h; cases h
  · have h : bitN 0 k = true := h
    rw [bN_0] at h; cases h
set_option maxRecDepth 100000 in
set_option maxHeartbeats 400000 in
theorem c_hear (G : ssG) (h : ssH) {ad : Nat → Nat} {po : Nat} {E : pE} {τ : sT} {i : Nat} {n : Nat} (hA : ∀ k l, ad k = ad l → k = l) (hp : po = 11 ∨ po = 22) (hw : PW h ad po E τ i) (ht : TOk τ) (hB : ∀ k, -128 ≤ eB E k ∧ eB E k ≤ 127) (hn : n ≤ 900) (hk : h (ad 149) = some (arJ 22 kR)) : ssC G mX3_hear 8 0 0 [.ref (ad 1), .int (zI ↑n)] h (QH ad po E h (parse (eB E) n 901 z00 0)) := by
  refine c_of_v okX3_hear (by decide +kernel) (ls := [some (.ref (ad 1)), some (.int (zI ↑n)), none]) rfl (Nat.le_of_ble_eq_true rfl) ?_
  refine v_run 1 (pc' := 1) (ls' := [some (.ref (ad 1)), some (.int (zI ↑n)), none]) (st' := [.ref (ad 1)]) rfl ?_
  refine v_get rfl hw.1 rfl ?_
  refine v_run 0 (pc' := 4) (ls' := [some (.ref (ad 1)), some (.int (zI ↑n)), none]) (st' := [.ref (ad po)]) rfl ?_
  refine v_callV (My := mX4_clear) (As := []) (rest := []) (mc := 0) (ms := 0) rfl caX4_clear rfl rfl rfl hw.2.2.2.2.1.1 rfl rfl (c_clear G _ hA hp hw ht) rfl rfl (Nat.le_of_ble_eq_true rfl) (by omega) ?_
  rintro _ h0 ⟨rfl, hw0, hf0⟩
  refine v_run 0 (pc' := 7) (ls' := [some (.ref (ad 1)), some (.int (zI ↑n)), none]) (st' := []) rfl ?_
  have ht0 : TOk (clrT τ) := (clrR_ok ((((((((ht.up (by simp [bdT])).up (by simp [bdT])).up (by simp [bdT])).up (by simp [bdT])).up (by simp [bdT])).up (by simp [bdT])).up (by simp [bdT])).up (by simp [bdT])) 5)
  refine v_run 2 (pc' := 9) (ls' := [some (.ref (ad 1)), some (.int (zI ↑n)), none]) (st' := [.int (zI 0), .ref (ad 1)]) rfl ?_
  refine v_put rfl hw0.1 rfl rfl (Nat.le_of_ble_eq_true rfl) ?_
  have hw1 := hw0.pI hA hp 1 0 (by omega)
  generalize e1 : hset h0 (ad 1) _ = h1 at hw1 ⊢
  have hf1 : frC ad po h0 h1 := e1 ▸ frC.set (by omega) _
  have ht1 : TOk (tU (clrT τ) 5 1 0 0) := ht0.up (by simp [bdT] <;> omega)
  refine v_run 2 (pc' := 14) (ls' := [some (.ref (ad 1)), some (.int (zI ↑n)), none]) (st' := [.int (zI 0), .ref (ad 1)]) rfl ?_
  refine v_put rfl hw1.1 rfl rfl (Nat.le_of_ble_eq_true rfl) ?_
  have hw2 := hw1.pI hA hp 2 0 (by omega)
  generalize e2 : hset h1 (ad 1) _ = h2 at hw2 ⊢
  have hf2 : frC ad po h1 h2 := e2 ▸ frC.set (by omega) _
  have ht2 : TOk (tU (tU (clrT τ) 5 1 0 0) 5 2 0 0) := ht1.up (by simp [bdT] <;> omega)
  refine v_run 2 (pc' := 19) (ls' := [some (.ref (ad 1)), some (.int (zI ↑n)), none]) (st' := [.int (zI 0), .ref (ad 1)]) rfl ?_
  refine v_put rfl hw2.1 rfl rfl (Nat.le_of_ble_eq_true rfl) ?_
  have hw3 := hw2.pI hA hp 4 0 (by omega)
  generalize e3 : hset h2 (ad 1) _ = h3 at hw3 ⊢
  have hf3 : frC ad po h2 h3 := e3 ▸ frC.set (by omega) _
  have ht3 : TOk (tU (tU (tU (clrT τ) 5 1 0 0) 5 2 0 0) 5 4 0 0) := ht2.up (by simp [bdT] <;> omega)
  refine v_run 2 (pc' := 24) (ls' := [some (.ref (ad 1)), some (.int (zI ↑n)), none]) (st' := [.int (zI 0), .ref (ad 1)]) rfl ?_
  refine v_put rfl hw3.1 rfl rfl (Nat.le_of_ble_eq_true rfl) ?_
  have hw4 := hw3.pI hA hp 6 0 (by omega)
  generalize e4 : hset h3 (ad 1) _ = h4 at hw4 ⊢
  have hf4 : frC ad po h3 h4 := e4 ▸ frC.set (by omega) _
  have ht4 : TOk (tU (tU (tU (tU (clrT τ) 5 1 0 0) 5 2 0 0) 5 4 0 0) 5 6 0 0) := ht3.up (by simp [bdT] <;> omega)
  refine v_run 2 (pc' := 29) (ls' := [some (.ref (ad 1)), some (.int (zI ↑n)), none]) (st' := [.int (zI 0), .ref (ad 1)]) rfl ?_
  refine v_put rfl hw4.1 rfl rfl (Nat.le_of_ble_eq_true rfl) ?_
  have hw5 := hw4.pI hA hp 7 0 (by omega)
  generalize e5 : hset h4 (ad 1) _ = h5 at hw5 ⊢
  have hf5 : frC ad po h4 h5 := e5 ▸ frC.set (by omega) _
  have ht5 : TOk (tU (tU (tU (tU (tU (clrT τ) 5 1 0 0) 5 2 0 0) 5 4 0 0) 5 6 0 0) 5 7 0 0) := ht4.up (by simp [bdT] <;> omega)
  refine v_run 1 (pc' := 33) (ls' := [some (.ref (ad 1)), some (.int (zI ↑n)), none]) (st' := [.ref (ad 1)]) rfl ?_
  refine v_get rfl hw5.1 rfl ?_
  refine v_run 1 (pc' := 37) (ls' := [some (.ref (ad 1)), some (.int (zI ↑n)), none]) (st' := [.int (zI ↑n), .ref (ad 2)]) rfl ?_
  have hks := (((((((hf0.tr hf1).tr hf2).tr hf3).tr hf4).tr hf5)) _ (ad_ne hA (show 149 ≠ 1 by omega)) (ad_ne hA (by omega)) (ad_ne hA (by omega)) (ad_ne hA (by omega)) (ad_ne hA (by omega)) (fun k _ _ => ad_ne hA (by omega))).trans hk
  refine v_callV (My := mX5_split) (As := [.int (zI ↑n)]) (rest := []) (mc := 0) (ms := 0) rfl caX5_split rfl rfl rfl hw5.2.1 rfl rfl (r_split G _ hA hw5.2.1 hw5.2.2.1 hB hn hks) rfl rfl (Nat.le_of_ble_eq_true rfl) (by omega) ?_
  rintro _ h8 ⟨rfl, nx, S, P, K, V, hra, htk, hob, hfr⟩
  refine v_run 0 (pc' := 40) (ls' := [some (.ref (ad 1)), some (.int (zI ↑n)), none]) (st' := []) rfl ?_
  obtain ⟨F, hF⟩ : ∃ F : pE, F = (eL E, nx, n, eB E, S, P, K, V) := ⟨_, rfl⟩
  have hw8 : PW h8 ad po F (ini τ) 0 := by
    rw [hF]
    exact ⟨(hfr _ (ad_ne hA (by omega)) (ad_ne hA (by omega)) (ad_ne hA (by omega)) (ad_ne hA (by omega)) (ad_ne hA (by omega))).trans hw5.1, hob, hra, ⟨(hfr _ (ad_ne hA (by omega)) (ad_ne hA (by omega)) (ad_ne hA (by omega)) (ad_ne hA (by omega)) (ad_ne hA (by omega))).trans hw5.2.2.2.1.1, (hfr _ (ad_ne hA (by omega)) (ad_ne hA (by omega)) (ad_ne hA (by omega)) (ad_ne hA (by omega)) (ad_ne hA (by omega))).trans hw5.2.2.2.1.2.1, (hfr _ (ad_ne hA (by omega)) (ad_ne hA (by omega)) (ad_ne hA (by omega)) (ad_ne hA (by omega)) (ad_ne hA (by omega))).trans hw5.2.2.2.1.2.2⟩, hw5.2.2.2.2.1.ag (fun k _ _ => (hfr _ (ad_ne hA (by omega)) (ad_ne hA (by omega)) (ad_ne hA (by omega)) (ad_ne hA (by omega)) (ad_ne hA (by omega)))), hw5.2.2.2.2.2.ag (fun k _ _ => (hfr _ (ad_ne hA (by omega)) (ad_ne hA (by omega)) (ad_ne hA (by omega)) (ad_ne hA (by omega)) (ad_ne hA (by omega))))⟩
  have eF1 : eL F = eL E := by rw [hF]; rfl
  have eF2 : eB F = eB E := by rw [hF]; rfl
  have eF3 : eN F = n := by rw [hF]; rfl
  have hTk : TkE F := by rw [hF]; exact ⟨htk, hn⟩
  have hf8 : frH ad po h h8 := ((((((hf0.tr hf1).tr hf2).tr hf3).tr hf4).tr hf5)).H.tr hfr.H
  have ht8 : TOk (ini τ) := ht5
  clear hF
  refine v_run 2 (pc' := 42) (ls' := [some (.ref (ad 1)), some (.int (zI ↑n)), some (.int (zI 0))]) (st' := []) rfl ?_
  refine v_drop 1 rfl ?_
  rw [← eF3, ← eF2]
  have lp : ∀ (f : Nat) (c j : Nat) (σ : sT) (ζ : zT) (h1 : ssH), (c ≤ 901 ∧ PW h1 ad po F σ j ∧ TOk σ ∧ CR σ ζ ∧ zOk ζ ∧ liv (eB F) (eN F) j ∧ frH ad po h h1 ∧ parse (eB F) (eN F) (901 - c) ζ j = parse (eB F) (eN F) 901 z00 0) → 901 + 1 ≤ c + f → ssV G mX3_hear 8 0 0 (QH ad po E h (parse (eB F) (eN F) 901 z00 0)) 42 [some (.ref (ad 1)), none, some (.int (zI ↑c))] [] (h1) := by
    intro f
    induction f with
    | zero => intro c j σ ζ h1 hs1 hs2; obtain ⟨q1, hw, ht, cr, hz, hl, hf, hR⟩ := hs1; exact absurd hs2 (by omega)
    | succ f ihlp =>
      intro c j σ ζ h1 hs1 hs2
      obtain ⟨q1, hw, ht, cr, hz, hl, hf, hR⟩ := hs1
      refine v_run 2 (pc' := 46) (ls' := [some (.ref (ad 1)), none, some (.int (zI ↑c))]) (st' := [.int (zI 900), .int (zI ↑c)]) rfl ?_
      refine v_icmp_gt rfl (fun c46 => ?_) (fun c46 => ?_)
      · simp (disch := omega) only [zI_lt, zI_le, zI_eq, zI_lt0, zI_le0, zI_0lt, zI_0le, zI_eq0] at c46
        have ec : c = 901 := by omega
        refine v_run 2 (pc' := 125) (ls' := [some (.ref (ad 1)), none, some (.int (zI ↑c))]) (st' := [.int (zI 1), .ref (ad 1)]) rfl ?_
        refine v_callV (My := mX3_fail) (As := [.int (zI 1)]) (rest := []) (mc := 0) (ms := 0) rfl caX3_fail rfl rfl rfl hw.1 rfl rfl (c_fail G _ (f := 1) hA hp hw ht hTk hl (by decide)) rfl rfl (Nat.le_of_ble_eq_true rfl) (by omega) ?_
        rintro _ h9 ⟨rfl, hb9⟩
        refine v_run 0 (pc' := 128) (ls' := [some (.ref (ad 1)), none, some (.int (zI ↑c))]) (st' := [.int (zI 0)]) rfl ?_
        exact v_iret rfl rfl rfl (by rw [← hR, ec, show 901 - 901 = 0 from rfl, parse]; exact ⟨rfl, hb9.H hf eF1 eF2⟩)
      · simp (disch := omega) only [zI_lt, zI_le, zI_eq, zI_lt0, zI_le0, zI_0lt, zI_0le, zI_eq0] at c46
        have ec : 901 - c = (900 - c) + 1 := by omega
        rw [ec, parse] at hR
        have rel := rel_line (E := F) (i := j) cr hz ⟨ht 1 14 0 (by omega), ht 1 15 0 (by omega)⟩
        refine v_run 1 (pc' := 50) (ls' := [some (.ref (ad 1)), none, some (.int (zI ↑c))]) (st' := [.ref (ad 1)]) rfl ?_
        refine v_callV (My := mX3_hearLine) (As := []) (rest := []) (mc := 0) (ms := 0) rfl caX3_hearLine rfl rfl rfl hw.1 rfl rfl (c_line G _ hA hp hw ht hTk hl (cr.lok hz)) rfl rfl (Nat.le_of_ble_eq_true rfl) (by omega) ?_
        intro an1 h2 hq1
        rcases hr1 : cLine F σ j with e | q
        · rw [hr1] at hq1
          obtain ⟨rfl, hb1⟩ := hq1
          refine v_run 0 (pc' := 53) (ls' := [some (.ref (ad 1)), none, some (.int (zI ↑c))]) (st' := [.int (zI 0)]) rfl ?_
          rw [hr1] at rel
          rcases hr2 : line (eB F) (eN F) ζ j with e2 | r
          · rw [hr2] at rel hR
            have rel : e = e2 := rel
            refine v_if_ne rfl (fun c53 => ?_) (fun c53 => ?_)
            · exact absurd rfl c53
            · refine v_run 1 (pc' := 57) (ls' := [some (.ref (ad 1)), none, some (.int (zI ↑c))]) (st' := [.int (zI 0)]) rfl ?_
              exact v_iret rfl rfl rfl (by rw [← hR, ← rel]; exact ⟨rfl, hb1.H hf eF1 eF2⟩)
          · rw [hr2] at rel; exact rel.elim
        · rw [hr1] at hq1
          obtain ⟨rfl, hw1, hf1, ht1, hl1⟩ := hq1
          rw [hr1] at rel
          rcases hr2 : line (eB F) (eN F) ζ j with e2 | r
          · rw [hr2] at rel; exact rel.elim
          · rw [hr2] at rel hR
            simp only [sb] at hR
            obtain ⟨g1, cr1, hz1⟩ : q.1 = r.1 ∧ CR q.2 r.2 ∧ zOk r.2 := rel
            rw [← g1] at hR
            have hfq : frH ad po h h2 := hf.tr hf1.H
            obtain ⟨s1, s2, s3, s4⟩ := hTk.1 (q.1) (by have := liv_le hl1; have := hTk.2; omega) hl1
            have zk := kS_le (T := eB F) (n := eN F) (pos (eB F) (eN F) q.1)
            have zk : tS (eB F) (eN F) q.1 ≤ 4 := zk
            have zc := cS_le (tS (eB F) (eN F) q.1)
            have b5 : q.2 1 5 0 ≤ 6 := ht1 1 5 0 (by omega)
            have e5 := cr1.1.2.1
            refine v_run 0 (pc' := 53) (ls' := [some (.ref (ad 1)), none, some (.int (zI ↑c))]) (st' := [.int (zI 1)]) rfl ?_
            refine v_if_ne rfl (fun c53 => ?_) (fun c53 => ?_)
            · refine v_run 1 (pc' := 59) (ls' := [some (.ref (ad 1)), none, some (.int (zI ↑c))]) (st' := [.ref (ad 1)]) rfl ?_
              refine v_get rfl hw1.1 rfl ?_
              refine v_run 0 (pc' := 62) (ls' := [some (.ref (ad 1)), none, some (.int (zI ↑c))]) (st' := [.ref (ad 2)]) rfl ?_
              refine v_get rfl hw1.2.1 rfl ?_
              refine v_run 0 (pc' := 65) (ls' := [some (.ref (ad 1)), none, some (.int (zI ↑c))]) (st' := [.int (zI ↑(eS F q.1))]) rfl ?_
              refine v_if_ne rfl (fun c65 => ?_) (fun c65 => ?_)
              · simp (disch := omega) only [zI_lt, zI_le, zI_eq, zI_lt0, zI_le0, zI_0lt, zI_0le, zI_eq0] at c65
                have es : ¬ tS (eB F) (eN F) q.1 = 1 := fun z => by rw [z] at s1; exact c65 (by rw [s1]; rfl)
                rw [if_neg es] at hR
                refine v_run 1 (pc' := 94) (ls' := [some (.ref (ad 1)), none, some (.int (zI ↑c))]) (st' := [.ref (ad 1)]) rfl ?_
                refine v_get rfl hw1.1 rfl ?_
                refine v_run 0 (pc' := 97) (ls' := [some (.ref (ad 1)), none, some (.int (zI ↑c))]) (st' := [.ref (ad 2)]) rfl ?_
                refine v_get rfl hw1.2.1 rfl ?_
                refine v_run 1 (pc' := 101) (ls' := [some (.ref (ad 1)), none, some (.int (zI ↑c))]) (st' := [.int (zI 3), .int (zI ↑(eS F q.1))]) rfl ?_
                refine v_icmp_eq rfl (fun c101 => ?_) (fun c101 => ?_)
                · simp (disch := omega) only [zI_lt, zI_le, zI_eq, zI_lt0, zI_le0, zI_0lt, zI_0le, zI_eq0] at c101
                  have es4 : tS (eB F) (eN F) q.1 = 4 := cS_3.mp (by omega)
                  rw [if_pos es4] at hR
                  have hl2 := liv_s hl1 (show 2 ≤ tS (eB F) (eN F) q.1 by omega)
                  refine v_run 1 (pc' := 111) (ls' := [some (.ref (ad 1)), none, some (.int (zI ↑c))]) (st' := [.ref (ad 1)]) rfl ?_
                  refine v_get rfl hw1.1 rfl ?_
                  refine v_run 0 (pc' := 114) (ls' := [some (.ref (ad 1)), none, some (.int (zI ↑c))]) (st' := [.ref (ad 2)]) rfl ?_
                  refine v_callV (My := mX5_advance) (As := []) (rest := []) (mc := 0) (ms := 0) rfl caX5_advance rfl rfl rfl hw1.2.1 rfl rfl (c_adv G _ hA hp hw1 hTk hl2) rfl rfl (Nat.le_of_ble_eq_true rfl) (by omega) ?_
                  rintro _ h3 ⟨rfl, hw3, hf3⟩
                  refine v_run 0 (pc' := 117) (ls' := [some (.ref (ad 1)), none, some (.int (zI ↑c))]) (st' := []) rfl ?_
                  refine v_run 2 (pc' := 42) (ls' := [some (.ref (ad 1)), none, some (.int ((zI ↑c) + zI 1))]) (st' := []) rfl ?_
                  rw [zI_s1]
                  exact ihlp (c + 1) (q.1 + 1) q.2 r.2 h3 ⟨by omega, hw3, ht1, cr1, hz1, hl2, hfq.tr hf3.H, by rw [show 901 - (c + 1) = 900 - c by omega]; exact hR⟩ (by omega)
                · simp (disch := omega) only [zI_lt, zI_le, zI_eq, zI_lt0, zI_le0, zI_0lt, zI_0le, zI_eq0] at c101
                  have es4 : ¬ tS (eB F) (eN F) q.1 = 4 := fun z => by rw [z] at s1; exact c101 (by rw [s1]; rfl)
                  refine v_run 2 (pc' := 106) (ls' := [some (.ref (ad 1)), none, some (.int (zI ↑c))]) (st' := [.int (zI 1), .ref (ad 1)]) rfl ?_
                  refine v_callV (My := mX3_fail) (As := [.int (zI 1)]) (rest := []) (mc := 0) (ms := 0) rfl caX3_fail rfl rfl rfl hw1.1 rfl rfl (c_fail G _ (f := 1) hA hp hw1 ht1 hTk hl1 (by decide)) rfl rfl (Nat.le_of_ble_eq_true rfl) (by omega) ?_
                  rintro _ h9 ⟨rfl, hb9⟩
                  refine v_run 0 (pc' := 109) (ls' := [some (.ref (ad 1)), none, some (.int (zI ↑c))]) (st' := [.int (zI 0)]) rfl ?_
                  exact v_iret rfl rfl rfl (by rw [← hR, if_neg es4]; exact ⟨rfl, hb9.H hfq eF1 eF2⟩)
              · simp (disch := omega) only [zI_lt, zI_le, zI_eq, zI_lt0, zI_le0, zI_0lt, zI_0le, zI_eq0] at c65
                have es : tS (eB F) (eN F) q.1 = 1 := cS_0.mp (by omega)
                rw [if_pos es] at hR
                refine v_run 1 (pc' := 69) (ls' := [some (.ref (ad 1)), none, some (.int (zI ↑c))]) (st' := [.ref (ad 1)]) rfl ?_
                refine v_get rfl hw1.1 rfl ?_
                refine v_run 0 (pc' := 72) (ls' := [some (.ref (ad 1)), none, some (.int (zI ↑c))]) (st' := [.ref (ad po)]) rfl ?_
                refine v_get rfl hw1.2.2.2.2.1.1 rfl ?_
                refine v_run 0 (pc' := 75) (ls' := [some (.ref (ad 1)), none, some (.int (zI ↑c))]) (st' := [.int (zI ↑(q.2 1 5 0))]) rfl ?_
                refine v_if_gt rfl (fun c75 => ?_) (fun c75 => ?_)
                · simp (disch := omega) only [zI_lt, zI_le, zI_eq, zI_lt0, zI_le0, zI_0lt, zI_0le, zI_eq0] at c75
                  refine v_run 2 (pc' := 92) (ls' := [some (.ref (ad 1)), none, some (.int (zI ↑c))]) (st' := [.int (zI 1)]) rfl ?_
                  exact v_iret rfl rfl rfl (by rw [← hR, if_neg (show ¬ r.2 5 0 = 0 by omega)]; exact ⟨rfl, F, q.2, q.1, hw1, ht1, cr1, hz1, by omega, eF1, eF2, hfq⟩)
                · simp (disch := omega) only [zI_lt, zI_le, zI_eq, zI_lt0, zI_le0, zI_0lt, zI_0le, zI_eq0] at c75
                  refine v_run 2 (pc' := 81) (ls' := [some (.ref (ad 1)), none, some (.int (zI ↑c))]) (st' := [.int (zI 6), .ref (ad 1)]) rfl ?_
                  refine v_callV (My := mX3_fail) (As := [.int (zI 6)]) (rest := []) (mc := 0) (ms := 0) rfl caX3_fail rfl rfl rfl hw1.1 rfl rfl (c_fail G _ (f := 6) hA hp hw1 ht1 hTk hl1 (by decide)) rfl rfl (Nat.le_of_ble_eq_true rfl) (by omega) ?_
                  rintro _ h9 ⟨rfl, hb9⟩
                  refine v_run 0 (pc' := 84) (ls' := [some (.ref (ad 1)), none, some (.int (zI ↑c))]) (st' := [.int (zI 0)]) rfl ?_
                  refine v_if_eq rfl (fun c84 => ?_) (fun c84 => ?_)
                  · refine v_run 1 (pc' := 92) (ls' := [some (.ref (ad 1)), none, some (.int (zI ↑c))]) (st' := [.int (zI 0)]) rfl ?_
                    exact v_iret rfl rfl rfl (by rw [← hR, if_pos (show r.2 5 0 = 0 by omega)]; exact ⟨rfl, hb9.H hfq eF1 eF2⟩)
                  · exact absurd rfl c84
            · exact absurd c53 (by decide)
  exact lp 902 0 0 (ini τ) z00 h8 ⟨by omega, hw8, ht8, ini_cr τ, z00_ok, fun j hj => absurd hj (by omega), hf8, rfl⟩ (by omega)

