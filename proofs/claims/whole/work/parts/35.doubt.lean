theorem CW0.dAg {h h' : ssH} {ad : Nat → Nat} {pl : Nat} {σ : sT} (hc : CW0 h ad pl σ) (ha : ∀ k, k < 144 ∨ 149 ≤ k → h' (ad k) = h (ad k)) (hd : CDoubt h' ad) : CW0 h' ad pl σ := by
  obtain ⟨hpl, hx, hP, hF, hN, hU, hI, hS, hH, hD⟩ := hc
  refine ⟨hpl, (ha 0 (by omega)).trans hx, hP.ag (fun k _ _ => ha k (by omega)), hF.ag (fun k _ _ => ha k (by omega)), hN.ag (fun k _ _ => ha k (by omega)), ⟨(ha 38 (by omega)).trans hU.1, (ha 39 (by omega)).trans hU.2.1, fun m hm => (hU.2.2 m hm).ag (fun k _ _ => ha k (by omega))⟩, ⟨(ha 120 (by omega)).trans hI.1, fun m hm => (hI.2 m hm).ag (fun k _ _ => ha k (by omega))⟩, hS.ag (fun k _ _ => ha k (by omega)), hH.ag (fun k _ _ => ha k (by omega)), hd⟩
def DAt (h : ssH) (ad : Nat → Nat) (n : Nat) (f1 f2 E : Nat → Nat) : Prop := h (ad 144) = some (.inr (0, [.int (zI ↑n), .ref (ad 145), .ref (ad 146), .ref (ad 147)])) ∧ h (ad 145) = some (ar 42 f1) ∧ h (ad 146) = some (ar 42 f2) ∧ SpanAt h (ad 147) (ad 148) E
def DWt (ad : Nat → Nat) (pl : Nat) (σ : sT) (h0 h : ssH) (n : Nat) (f1 f2 E : Nat → Nat) : Prop := CW0 h ad pl σ ∧ frP ad pl h0 h ∧ DAt h ad n f1 f2 E ∧ ∀ k, E k ≤ 99
section DW
variable {ad : Nat → Nat} {pl : Nat} {σ : sT} {h0 h : ssH} {n : Nat} {f1 f2 E : Nat → Nat}
theorem DWt.cnt (hA : ∀ k l, ad k = ad l → k = l) (w : DWt ad pl σ h0 h n f1 f2 E) (m : Nat) : DWt ad pl σ h0 (hset h (ad 144) (.inr (0, [.int (zI ↑m), .ref (ad 145), .ref (ad 146), .ref (ad 147)]))) m f1 f2 E := by
  obtain ⟨hc, hf, ⟨a1, a2, a3, a4, a5⟩, hE⟩ := w
  have d : DAt (hset h (ad 144) (.inr (0, [.int (zI ↑m), .ref (ad 145), .ref (ad 146), .ref (ad 147)]))) ad m f1 f2 E := ⟨hset_self _ _ _, (hset_ne _ _ (ad_ne hA (by decide))).trans a2, (hset_ne _ _ (ad_ne hA (by decide))).trans a3, (hset_ne _ _ (ad_ne hA (by decide))).trans a4, (hset_ne _ _ (ad_ne hA (by decide))).trans a5⟩
  exact ⟨hc.dAg (fun k hk => hset_ne _ _ (ad_ne hA (by omega))) ⟨m, f1, f2, d.1, d.2.1, d.2.2.1, E, d.2.2.2, hE⟩, hf.set hA hc.1 (by omega) _, d, hE⟩
theorem DWt.fts (hA : ∀ k l, ad k = ad l → k = l) (w : DWt ad pl σ h0 h n f1 f2 E) {g : Nat → Nat} : DWt ad pl σ h0 (hset h (ad 145) (ar 42 g)) n g f2 E := by
  obtain ⟨hc, hf, ⟨a1, a2, a3, a4, a5⟩, hE⟩ := w
  have d : DAt (hset h (ad 145) (ar 42 g)) ad n g f2 E := ⟨(hset_ne _ _ (ad_ne hA (by decide))).trans a1, hset_self _ _ _, (hset_ne _ _ (ad_ne hA (by decide))).trans a3, (hset_ne _ _ (ad_ne hA (by decide))).trans a4, (hset_ne _ _ (ad_ne hA (by decide))).trans a5⟩
  exact ⟨hc.dAg (fun k hk => hset_ne _ _ (ad_ne hA (by omega))) ⟨n, g, f2, d.1, d.2.1, d.2.2.1, E, d.2.2.2, hE⟩, hf.set hA hc.1 (by omega) _, d, hE⟩
theorem DWt.gos (hA : ∀ k l, ad k = ad l → k = l) (w : DWt ad pl σ h0 h n f1 f2 E) {g : Nat → Nat} : DWt ad pl σ h0 (hset h (ad 146) (ar 42 g)) n f1 g E := by
  obtain ⟨hc, hf, ⟨a1, a2, a3, a4, a5⟩, hE⟩ := w
  have d : DAt (hset h (ad 146) (ar 42 g)) ad n f1 g E := ⟨(hset_ne _ _ (ad_ne hA (by decide))).trans a1, (hset_ne _ _ (ad_ne hA (by decide))).trans a2, hset_self _ _ _, (hset_ne _ _ (ad_ne hA (by decide))).trans a4, (hset_ne _ _ (ad_ne hA (by decide))).trans a5⟩
  exact ⟨hc.dAg (fun k hk => hset_ne _ _ (ad_ne hA (by omega))) ⟨n, f1, g, d.1, d.2.1, d.2.2.1, E, d.2.2.2, hE⟩, hf.set hA hc.1 (by omega) _, d, hE⟩
theorem DWt.spn (hA : ∀ k l, ad k = ad l → k = l) (w : DWt ad pl σ h0 h n f1 f2 E) {g : Nat → Nat} (hg : ∀ k, g k ≤ 99) : DWt ad pl σ h0 (hset h (ad 148) (ar 6 g)) n f1 f2 g := by
  obtain ⟨hc, hf, ⟨a1, a2, a3, a4, a5⟩, hE⟩ := w
  have d : DAt (hset h (ad 148) (ar 6 g)) ad n f1 f2 g := ⟨(hset_ne _ _ (ad_ne hA (by decide))).trans a1, (hset_ne _ _ (ad_ne hA (by decide))).trans a2, (hset_ne _ _ (ad_ne hA (by decide))).trans a3, (hset_ne _ _ (ad_ne hA (by decide))).trans a4, hset_self _ _ _⟩
  exact ⟨hc.dAg (fun k hk => hset_ne _ _ (ad_ne hA (by omega))) ⟨n, f1, f2, d.1, d.2.1, d.2.2.1, g, d.2.2.2, hg⟩, hf.set hA hc.1 (by omega) _, d, hg⟩
end DW
/-- the days' ends where he who is doubted is off since day d -/
def sD (σ : sT) (d : Nat) : Nat → Nat := fun k => if k = σ 1 13 0 - 1 then d else sG2 σ k
def dFit (σ : sT) (d : Nat) : Bool := decide (andn (σ 1 14 0) (sGo2 σ (sD σ d)) = 0 ∧ σ 1 15 0 &&& sGo2 σ (sD σ d) = 0)
def dC (σ : sT) (d : Nat) : Nat := sumN (fun e => if dFit σ e then 1 else 0) d
theorem dC_le (σ : sT) (d : Nat) : dC σ d ≤ d := by
  have := sumN_le (f := fun e => if dFit σ e then 1 else 0) (c := 1) (fun k => by split <;> omega) d
  unfold dC; omega
def dFt (σ : sT) (f : Nat → Nat) : Nat → Nat → Nat
  | 0 => f
  | d + 1 => if dFit σ d then fun j => if j = dC σ d then d else dFt σ f d j else dFt σ f d
def dGs (σ : sT) (f : Nat → Nat) : Nat → Nat → Nat
  | 0 => f
  | d + 1 => if dFit σ d then fun j => if j = dC σ d then sGo2 σ (sD σ d) else dGs σ f d j else dGs σ f d
def dPost (ad : Nat → Nat) (pl : Nat) (σ : sT) (h0 : ssH) (f1 f2 : Nat → Nat) : Option Value → ssH → Prop := fun r h' => r = none ∧ ∃ E, DWt ad pl σ h0 h' (dC σ 42) (dFt σ f1 42) (dGs σ f2 42) E
section DW2
variable {ad : Nat → Nat} {pl : Nat} {σ : sT} {h0 h : ssH} {n : Nat} {f1 f2 E : Nat → Nat}
theorem DWt.fin (w : DWt ad pl σ h0 h (dC σ n) (dFt σ f1 n) (dGs σ f2 n) E) : ∃ E, DWt ad pl σ h0 h (dC σ n) (dFt σ f1 n) (dGs σ f2 n) E := ⟨E, w⟩
theorem DWt.no (w : DWt ad pl σ h0 h (dC σ n) (dFt σ f1 n) (dGs σ f2 n) E) (hf : dFit σ n = false) : DWt ad pl σ h0 h (dC σ (n + 1)) (dFt σ f1 (n + 1)) (dGs σ f2 (n + 1)) E := by
  have e : dC σ (n + 1) = dC σ n := by simp [dC, sumN, hf]
  rw [e]; simp only [dFt, dGs, hf]; exact w
theorem DWt.yes (w : DWt ad pl σ h0 h (dC σ n + 1) (fun j => if j = dC σ n then n else dFt σ f1 n j) (fun j => if j = dC σ n then sGo2 σ (sD σ n) else dGs σ f2 n j) E) (hf : dFit σ n = true) : DWt ad pl σ h0 h (dC σ (n + 1)) (dFt σ f1 (n + 1)) (dGs σ f2 (n + 1)) E := by
  have e : dC σ (n + 1) = dC σ n + 1 := by simp [dC, sumN, hf]
  rw [e]; simp only [dFt, dGs, hf]; exact w
end DW2
set_option maxRecDepth 100000 in
set_option maxHeartbeats 400000 in
theorem k_weigh (G : ssG) (h : ssH) {ad : Nat → Nat} {pl : Nat} {σ : sT} (hA : ∀ k l, ad k = ad l → k = l) (hc : CW0 h ad pl σ) (hok : sOk σ) (hd : σ 1 13 0 ≠ 0) : ssC G mX0_weigh 4 0 0 [.ref (ad 144), .ref (ad pl)] h (fun r h' => ∃ f1 f2, dPost ad pl σ h f1 f2 r h') := by
  refine c_of_v okX0_weigh (by decide +kernel) (ls := [some (.ref (ad 144)), some (.ref (ad pl)), none, none, none]) rfl (Nat.le_of_ble_eq_true rfl) ?_
  obtain ⟨i0, i1, i2, i3, i5, i7, a4, a6, a8, a9, a10, i11, i12, i14, i15⟩ := id hok.1
  obtain ⟨j0, j1, j2, b3, b4, b5, b6⟩ := id (hok.2.2 3 (by decide))
  have i13 := hok.2.1
  have hpl := hc.1
  simp only [fI] at i0 i1 i2 i3 i5 i7 i11 i12 i14 i15 j0 j1 j2
  obtain ⟨n0, f1, f2, d1, d2, d3, E, hS, hE⟩ := hc.2.2.2.2.2.2.2.2.2
  have w0 : DWt ad pl σ h h n0 f1 f2 E := ⟨hc, frP.rf ad pl h, ⟨d1, d2, d3, hS⟩, hE⟩
  refine v_run 2 (pc' := 2) (ls' := [some (.ref (ad 144)), some (.ref (ad pl)), none, none, none]) (st' := [.int (zI 0), .ref (ad 144)]) rfl ?_
  refine v_put rfl w0.2.2.1.1 rfl rfl (Nat.le_of_ble_eq_true rfl) ?_
  generalize he1 : hset h (ad 144) _ = h1
  have w1 : DWt ad pl σ h h1 0 f1 f2 E := he1 ▸ w0.cnt hA 0
  refine v_run 1 (pc' := 6) (ls' := [some (.ref (ad 144)), some (.ref (ad pl)), none, none, none]) (st' := [.ref (ad pl)]) rfl ?_
  refine v_get rfl w1.1.2.2.1.1 rfl ?_
  refine v_run 2 (pc' := 11) (ls' := [some (.ref (ad 144)), some (.ref (ad pl)), some (.int (zI (↑(σ 1 13 0) - 1))), none, none]) (st' := [.int (zI (↑(σ 1 13 0) - 1))]) rfl ?_
  refine v_if_lt rfl (fun c11 => ?_) (fun c11 => ?_)
  · exfalso; revert c11; simp (disch := omega) only [zI_lt, zI_le, zI_eq, zI_lt0, zI_le0, zI_0lt, zI_0le, zI_eq0] <;> omega
  · refine v_run 2 (pc' := 17) (ls' := [some (.ref (ad 144)), some (.ref (ad pl)), some (.int (zI (↑(σ 1 13 0) - 1))), none, none]) (st' := [.int (zI 6), .int (zI (↑(σ 1 13 0) - 1))]) rfl ?_
    refine v_icmp_lt rfl (fun c17 => ?_) (fun c17 => ?_)
    · obtain ⟨b, hb⟩ : ∃ b, σ 1 13 0 = b + 1 := ⟨σ 1 13 0 - 1, by omega⟩
      refine v_run 1 (pc' := 22) (ls' := [some (.ref (ad 144)), some (.ref (ad pl)), some (.int (zI (↑(σ 1 13 0) - 1))), none, none]) (st' := [.ref (ad 144)]) rfl ?_
      refine v_get rfl w1.2.2.1.1 rfl ?_
      refine v_run 2 (pc' := 27) (ls' := [some (.ref (ad 144)), some (.ref (ad pl)), some (.int (zI (↑(σ 1 13 0) - 1))), none, none]) (st' := [.ref (ad pl), .ref (ad pl), .ref (ad 147)]) rfl ?_
      refine v_get rfl w1.1.2.2.1.1 rfl ?_
      refine v_run 0 (pc' := 30) (ls' := [some (.ref (ad 144)), some (.ref (ad pl)), some (.int (zI (↑(σ 1 13 0) - 1))), none, none]) (st' := [.ref (Rp ad pl 16), .ref (ad pl), .ref (ad 147)]) rfl ?_
      refine v_callV (My := mX6_fill) (As := [.ref (ad pl), .ref (Rp ad pl 16)]) (rest := []) (mc := 0) (ms := 0) rfl caX6_fill rfl rfl rfl w1.2.2.1.2.2.2.1 rfl rfl (k_fill G _ w1.1.2.2.1 hok.1 w1.1.2.2.2.1 (hok.2.2 2 (by decide)) w1.2.2.1.2.2.2 (ad_ne hA (by omega)) ⟨ad_ne hA (by omega), ad_ne hA (by simp; omega), ad_ne hA (by simp; omega), ad_ne hA (by simp; omega), ad_ne hA (by simp; omega), ad_ne hA (by simp; omega), ad_ne hA (by simp; omega), ad_ne hA (by omega), ad_ne hA (by omega), ad_ne hA (by omega), ad_ne hA (by omega)⟩) rfl rfl (Nat.le_of_ble_eq_true rfl) (by omega) ?_
      rintro _ h2 ⟨rfl, e2⟩
      have w2 : DWt ad pl σ h h2 0 f1 f2 (sE2 σ E) := e2 ▸ w1.spn hA (sE2_le σ hE)
      refine v_run 0 (pc' := 33) (ls' := [some (.ref (ad 144)), some (.ref (ad pl)), some (.int (zI (↑(σ 1 13 0) - 1))), none, none]) (st' := []) rfl ?_
      refine v_run 2 (pc' := 35) (ls' := [some (.ref (ad 144)), some (.ref (ad pl)), some (.int (zI (↑(σ 1 13 0) - 1))), some (.int (zI 0)), none]) (st' := []) rfl ?_
      rw [show (zI (↑(σ 1 13 0) - 1) : Int32) = zI ↑b from by congr 1; omega]
      have lp : ∀ (n s : Nat) (X : Nat → Nat) (g : ssH), DWt ad pl σ h g (dC σ s) (dFt σ f1 s) (dGs σ f2 s) X → (∀ k, k < σ 1 5 0 → k ≠ b → X k = sG2 σ k) → s ≤ 42 → 42 + 1 ≤ s + n → ssV G mX0_weigh 4 0 0 (fun r h' => ∃ f1 f2, dPost ad pl σ h f1 f2 r h') 35 [some (.ref (ad 144)), some (.ref (ad pl)), some (.int (zI ↑b)), some (.int (zI ↑s)), none] [] g := by
        intro n
        induction n with
        | zero => intro s X g _ _ hs1 hs2; exact absurd hs2 (by omega)
        | succ n ih =>
          intro s X g hw hX hs1 hs2
          have hcn := dC_le σ s
          refine v_run 2 (pc' := 38) (ls' := [some (.ref (ad 144)), some (.ref (ad pl)), some (.int (zI ↑b)), some (.int (zI ↑s)), none]) (st' := [.int (zI 41), .int (zI ↑s)]) rfl ?_
          refine v_icmp_gt rfl (fun c38 => ?_) (fun c38 => ?_)
          · simp (disch := omega) only [zI_lt, zI_le, zI_eq, zI_lt0, zI_le0, zI_0lt, zI_0le, zI_eq0] at c38
            exact v_vret rfl rfl ⟨f1, f2, rfl, (show s = 42 by omega) ▸ hw.fin⟩
          · simp (disch := omega) only [zI_lt, zI_le, zI_eq, zI_lt0, zI_le0, zI_0lt, zI_0le, zI_eq0] at c38
            refine v_run 1 (pc' := 42) (ls' := [some (.ref (ad 144)), some (.ref (ad pl)), some (.int (zI ↑b)), some (.int (zI ↑s)), none]) (st' := [.ref (ad 144)]) rfl ?_
            refine v_get rfl hw.2.2.1.1 rfl ?_
            refine v_run 0 (pc' := 45) (ls' := [some (.ref (ad 144)), some (.ref (ad pl)), some (.int (zI ↑b)), some (.int (zI ↑s)), none]) (st' := [.ref (ad 147)]) rfl ?_
            refine v_get rfl hw.2.2.1.2.2.2.1 rfl ?_
            refine v_run 2 (pc' := 50) (ls' := [some (.ref (ad 144)), some (.ref (ad pl)), some (.int (zI ↑b)), some (.int (zI ↑s)), none]) (st' := [.int (zI ↑s), .int (zI ↑b), .ref (ad 148)]) rfl ?_
            refine v_iastore' rfl hw.2.2.1.2.2.2.2 (i := b) rfl (by omega) ?_
            rw [ar_upd]
            generalize he1 : hset g _ _ = g1
            have v1 : DWt ad pl σ h g1 (dC σ s) (dFt σ f1 s) (dGs σ f2 s) (fun j => if j = b then s else X j) := he1 ▸ hw.spn hA (g := (fun j => if j = b then s else X j)) (fun k => by show (if k = b then s else X k) ≤ 99; split; omega; exact hw.2.2.2 k)
            refine v_run 3 (pc' := 54) (ls' := [some (.ref (ad 144)), some (.ref (ad pl)), some (.int (zI ↑b)), some (.int (zI ↑s)), none]) (st' := [.ref (ad pl), .ref (ad pl), .ref (ad pl)]) rfl ?_
            refine v_get rfl v1.1.2.2.1.1 rfl ?_
            refine v_run 1 (pc' := 58) (ls' := [some (.ref (ad 144)), some (.ref (ad pl)), some (.int (zI ↑b)), some (.int (zI ↑s)), none]) (st' := [.ref (ad 144), .ref (Rp ad pl 16), .ref (ad pl), .ref (ad pl)]) rfl ?_
            refine v_get rfl v1.2.2.1.1 rfl ?_
            refine v_run 0 (pc' := 61) (ls' := [some (.ref (ad 144)), some (.ref (ad pl)), some (.int (zI ↑b)), some (.int (zI ↑s)), none]) (st' := [.ref (ad 147), .ref (Rp ad pl 16), .ref (ad pl), .ref (ad pl)]) rfl ?_
            refine v_callV (My := mX4_goingAlone) (As := [.ref (Rp ad pl 16), .ref (ad 147)]) (rest := [.ref (ad pl)]) (mc := 0) (ms := 0) rfl caX4_goingAlone rfl rfl rfl v1.1.2.2.1.1 rfl rfl (k_goingAlone G _ v1.1.2.2.1 hok.1 v1.1.2.2.2.1 (hok.2.2 2 (by decide)) v1.2.2.1.2.2.2 v1.2.2.2) rfl rfl (Nat.le_of_ble_eq_true rfl) (by omega) ?_
            rintro _ _ ⟨rfl, rfl⟩
            refine v_run 0 (pc' := 64) (ls' := [some (.ref (ad 144)), some (.ref (ad pl)), some (.int (zI ↑b)), some (.int (zI ↑s)), none]) (st' := [.int (zI ↑(setN (cAloneP (σ 1 0 0) (σ 1 5 0) (σ 1 8) (σ 1 9) (σ 1 6) (σ 2 0 0) (σ 2 6) ((fun j => if j = b then s else X j))) (σ 1 7 0))), .ref (ad pl)]) rfl ?_
            rw [show (zI ↑(setN (cAloneP (σ 1 0 0) (σ 1 5 0) (σ 1 8) (σ 1 9) (σ 1 6) (σ 2 0 0) (σ 2 6) ((fun j => if j = b then s else X j))) (σ 1 7 0)) : Int32) = zI ↑(sAlone2 σ (sD σ s)) from by rw [sAlone2_congr σ (F := sD σ s) (fun k hk => by simp only [sD, hb]; by_cases e : k = b <;> simp [e, hX k hk])]; rfl]
            have q1 := sAlone2_lt (E := sD σ s) i7
            refine v_callV (My := mX4_goingAmong) (As := [.int (zI ↑(sAlone2 σ (sD σ s)))]) (rest := []) (mc := 0) (ms := 0) rfl caX4_goingAmong rfl rfl rfl v1.1.2.2.1.1 rfl rfl (k_goingAmong G _ (sAlone2 σ (sD σ s)) v1.1.2.2.1 hok.1 q1) rfl rfl (Nat.le_of_ble_eq_true rfl) (by omega) ?_
            rintro _ _ ⟨rfl, rfl⟩
            refine v_run 0 (pc' := 67) (ls' := [some (.ref (ad 144)), some (.ref (ad pl)), some (.int (zI ↑b)), some (.int (zI ↑s)), none]) (st' := [.int (zI ↑(sGo2 σ (sD σ s)))]) rfl ?_
            have q2 := sGo2_lt (E := sD σ s) i7
            refine v_run 2 (pc' := 70) (ls' := [some (.ref (ad 144)), some (.ref (ad pl)), some (.int (zI ↑b)), some (.int (zI ↑s)), some (.int (zI ↑(sGo2 σ (sD σ s))))]) (st' := [.ref (ad pl)]) rfl ?_
            refine v_get rfl v1.1.2.2.1.1 rfl ?_
            refine v_run 4 (pc' := 78) (ls' := [some (.ref (ad 144)), some (.ref (ad pl)), some (.int (zI ↑b)), some (.int (zI ↑s)), some (.int (zI ↑(sGo2 σ (sD σ s))))]) (st' := [.int ((zI ↑(σ 1 14 0)) &&& ((zI ↑(sGo2 σ (sD σ s))) ^^^ (zI (-1))))]) rfl ?_
            rw [show ((zI ↑(σ 1 14 0)) &&& ((zI ↑(sGo2 σ (sD σ s))) ^^^ (zI (-1))) : Int32) = zI ↑(andn (σ 1 14 0) (sGo2 σ (sD σ s))) from zI_andn (by omega) (by omega)]
            have q3 := andn_lt (b := sGo2 σ (sD σ s)) (n := 5) i14
            have q4 : σ 1 15 0 &&& sGo2 σ (sD σ s) < 32 := Nat.lt_of_le_of_lt Nat.and_le_left i15
            have hX2 : ∀ k, k < σ 1 5 0 → k ≠ b → (fun j => if j = b then s else X j) k = sG2 σ k := fun k hk hk2 => by dsimp only; rw [if_neg hk2]; exact hX k hk hk2
            refine v_if_ne rfl (fun c78 => ?_) (fun c78 => ?_)
            · simp (disch := omega) only [zI_lt, zI_le, zI_eq, zI_lt0, zI_le0, zI_0lt, zI_0le, zI_eq0] at c78
              refine v_run 2 (pc' := 35) (ls' := [some (.ref (ad 144)), some (.ref (ad pl)), some (.int (zI ↑b)), some (.int ((zI ↑s) + zI 1)), some (.int (zI ↑(sGo2 σ (sD σ s))))]) (st' := []) rfl ?_
              refine v_drop 4 (ls' := [some (.ref (ad 144)), some (.ref (ad pl)), some (.int (zI ↑b)), some (.int ((zI ↑s) + zI 1)), none]) rfl ?_
              rw [zI_s1]
              exact ih (s + 1) _ g1 (v1.no (by simp [dFit]; omega)) hX2 (by omega) (by omega)
            · simp (disch := omega) only [zI_lt, zI_le, zI_eq, zI_lt0, zI_le0, zI_0lt, zI_0le, zI_eq0] at c78
              refine v_run 1 (pc' := 82) (ls' := [some (.ref (ad 144)), some (.ref (ad pl)), some (.int (zI ↑b)), some (.int (zI ↑s)), some (.int (zI ↑(sGo2 σ (sD σ s))))]) (st' := [.ref (ad pl)]) rfl ?_
              refine v_get rfl v1.1.2.2.1.1 rfl ?_
              refine v_run 2 (pc' := 88) (ls' := [some (.ref (ad 144)), some (.ref (ad pl)), some (.int (zI ↑b)), some (.int (zI ↑s)), some (.int (zI ↑(sGo2 σ (sD σ s))))]) (st' := [.int ((zI ↑(σ 1 15 0)) &&& (zI ↑(sGo2 σ (sD σ s))))]) rfl ?_
              rw [show ((zI ↑(σ 1 15 0)) &&& (zI ↑(sGo2 σ (sD σ s))) : Int32) = zI ↑(σ 1 15 0 &&& sGo2 σ (sD σ s)) from zI_land (by omega) (by omega)]
              refine v_if_ne rfl (fun c88 => ?_) (fun c88 => ?_)
              · simp (disch := omega) only [zI_lt, zI_le, zI_eq, zI_lt0, zI_le0, zI_0lt, zI_0le, zI_eq0] at c88
                refine v_run 2 (pc' := 35) (ls' := [some (.ref (ad 144)), some (.ref (ad pl)), some (.int (zI ↑b)), some (.int ((zI ↑s) + zI 1)), some (.int (zI ↑(sGo2 σ (sD σ s))))]) (st' := []) rfl ?_
                refine v_drop 4 (ls' := [some (.ref (ad 144)), some (.ref (ad pl)), some (.int (zI ↑b)), some (.int ((zI ↑s) + zI 1)), none]) rfl ?_
                rw [zI_s1]
                exact ih (s + 1) _ g1 (v1.no (by simp [dFit]; omega)) hX2 (by omega) (by omega)
              · simp (disch := omega) only [zI_lt, zI_le, zI_eq, zI_lt0, zI_le0, zI_0lt, zI_0le, zI_eq0] at c88
                refine v_run 1 (pc' := 92) (ls' := [some (.ref (ad 144)), some (.ref (ad pl)), some (.int (zI ↑b)), some (.int (zI ↑s)), some (.int (zI ↑(sGo2 σ (sD σ s))))]) (st' := [.ref (ad 144)]) rfl ?_
                refine v_get rfl v1.2.2.1.1 rfl ?_
                refine v_run 1 (pc' := 96) (ls' := [some (.ref (ad 144)), some (.ref (ad pl)), some (.int (zI ↑b)), some (.int (zI ↑s)), some (.int (zI ↑(sGo2 σ (sD σ s))))]) (st' := [.ref (ad 144), .ref (ad 145)]) rfl ?_
                refine v_get rfl v1.2.2.1.1 rfl ?_
                refine v_run 1 (pc' := 100) (ls' := [some (.ref (ad 144)), some (.ref (ad pl)), some (.int (zI ↑b)), some (.int (zI ↑s)), some (.int (zI ↑(sGo2 σ (sD σ s))))]) (st' := [.int (zI ↑s), .int (zI ↑(dC σ s)), .ref (ad 145)]) rfl ?_
                refine v_iastore' (y := zI ↑s) rfl v1.2.2.1.2.1 (i := dC σ s) rfl (by omega) ?_
                rw [ar_upd]
                generalize he2 : hset g1 _ _ = g2
                have v2 : DWt ad pl σ h g2 (dC σ s) (fun j => if j = dC σ s then s else dFt σ f1 s j) (dGs σ f2 s) (fun j => if j = b then s else X j) := he2 ▸ v1.fts hA
                refine v_run 1 (pc' := 102) (ls' := [some (.ref (ad 144)), some (.ref (ad pl)), some (.int (zI ↑b)), some (.int (zI ↑s)), some (.int (zI ↑(sGo2 σ (sD σ s))))]) (st' := [.ref (ad 144)]) rfl ?_
                refine v_get rfl v2.2.2.1.1 rfl ?_
                refine v_run 1 (pc' := 106) (ls' := [some (.ref (ad 144)), some (.ref (ad pl)), some (.int (zI ↑b)), some (.int (zI ↑s)), some (.int (zI ↑(sGo2 σ (sD σ s))))]) (st' := [.ref (ad 144), .ref (ad 146)]) rfl ?_
                refine v_get rfl v2.2.2.1.1 rfl ?_
                refine v_run 1 (pc' := 111) (ls' := [some (.ref (ad 144)), some (.ref (ad pl)), some (.int (zI ↑b)), some (.int (zI ↑s)), some (.int (zI ↑(sGo2 σ (sD σ s))))]) (st' := [.int (zI ↑(sGo2 σ (sD σ s))), .int (zI ↑(dC σ s)), .ref (ad 146)]) rfl ?_
                refine v_iastore' (y := zI ↑(sGo2 σ (sD σ s))) rfl v2.2.2.1.2.2.1 (i := dC σ s) rfl (by omega) ?_
                rw [ar_upd]
                generalize he3 : hset g2 _ _ = g3
                have v3 : DWt ad pl σ h g3 (dC σ s) (fun j => if j = dC σ s then s else dFt σ f1 s j) (fun j => if j = dC σ s then sGo2 σ (sD σ s) else dGs σ f2 s j) (fun j => if j = b then s else X j) := he3 ▸ v2.gos hA
                refine v_run 2 (pc' := 114) (ls' := [some (.ref (ad 144)), some (.ref (ad pl)), some (.int (zI ↑b)), some (.int (zI ↑s)), some (.int (zI ↑(sGo2 σ (sD σ s))))]) (st' := [.ref (ad 144), .ref (ad 144)]) rfl ?_
                refine v_get rfl v3.2.2.1.1 rfl ?_
                refine v_run 2 (pc' := 119) (ls' := [some (.ref (ad 144)), some (.ref (ad pl)), some (.int (zI ↑b)), some (.int (zI ↑s)), some (.int (zI ↑(sGo2 σ (sD σ s))))]) (st' := [.int ((zI ↑(dC σ s)) + (zI 1)), .ref (ad 144)]) rfl ?_
                rw [show ((zI ↑(dC σ s)) + (zI 1) : Int32) = zI ↑(dC σ s + 1) from zI_s1 _]
                refine v_put rfl v3.2.2.1.1 rfl rfl (Nat.le_of_ble_eq_true rfl) ?_
                generalize he4 : hset g3 _ _ = g4
                have v4 : DWt ad pl σ h g4 (dC σ s + 1) (fun j => if j = dC σ s then s else dFt σ f1 s j) (fun j => if j = dC σ s then sGo2 σ (sD σ s) else dGs σ f2 s j) (fun j => if j = b then s else X j) := he4 ▸ v3.cnt hA (dC σ s + 1)
                refine v_run 2 (pc' := 35) (ls' := [some (.ref (ad 144)), some (.ref (ad pl)), some (.int (zI ↑b)), some (.int ((zI ↑s) + zI 1)), some (.int (zI ↑(sGo2 σ (sD σ s))))]) (st' := []) rfl ?_
                refine v_drop 4 (ls' := [some (.ref (ad 144)), some (.ref (ad pl)), some (.int (zI ↑b)), some (.int ((zI ↑s) + zI 1)), none]) rfl ?_
                rw [zI_s1]
                exact ih (s + 1) _ g4 (v4.yes (by simp [dFit]; omega)) hX2 (by omega) (by omega)
      exact lp 43 0 (sE2 σ E) h2 w2 (fun k hk _ => sE2_eq σ E k hk) (by omega) (by omega)
    · exfalso; revert c17; simp (disch := omega) only [zI_lt, zI_le, zI_eq, zI_lt0, zI_le0, zI_0lt, zI_0le, zI_eq0] <;> omega

