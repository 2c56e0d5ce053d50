def sWhy (σ : sT) : Nat := if σ 1 5 0 = 0 then 1 else 6
def sPast (σ : sT) : sT := if σ 3 0 0 ≤ 40 then sA σ 6 (σ 3 0 0) (sGood σ) else σ
theorem sPast_o (σ : sT) {o : Nat} (h : o ≠ 3) : sPast σ o = σ o := by
  unfold sPast
  split
  · exact sA_ne σ h
  · rfl
theorem sPast_1 (σ : sT) : sPast σ 1 = σ 1 := sPast_o σ (by decide)
theorem sPast_r (σ : sT) {f : Nat} (h : f ≠ 6) : sPast σ 3 f = σ 3 f := by
  unfold sPast
  split
  · exact sA_row σ h
  · rfl
theorem sPast_i (σ : sT) : sPast σ 3 0 0 = σ 3 0 0 ∧ sPast σ 3 1 0 = σ 3 1 0 ∧ sPast σ 3 2 0 = σ 3 2 0 ∧ True := ⟨by rw [sPast_r σ (by decide)], by rw [sPast_r σ (by decide)], by rw [sPast_r σ (by decide)], trivial⟩
def sSd (σ : sT) : Nat := (75 * σ 3 2 0 + 74) % 65537
def sRho (σ : sT) : sT := sI (sPast σ) 2 (sSd σ)
theorem sRho_1 (σ : sT) : sRho σ 1 = σ 1 := (sI_ne _ (by decide)).trans (sPast_1 σ)
theorem sRho_2 (σ : sT) : sRho σ 3 2 0 = sSd σ := by simp [sRho, sI]
theorem sRho_r (σ : sT) {f : Nat} (h : f ≠ 2 ∧ f ≠ 6) : sRho σ 3 f = σ 3 f := (sI_row _ h.1).trans (sPast_r σ h.2)
theorem sRho_0 (σ : sT) : sRho σ 3 0 0 = σ 3 0 0 := by rw [sRho_r σ (by decide)]
def sThu (σ : sT) : Bool := decide (sSd σ % 100 < σ 1 2 0)
def cLeft (σ : sT) (s : Nat) : Nat := σ 3 5 s - (cLoss (σ 1 1 0) (σ 1 4 (σ 3 4 s)) (σ 3 3 s) (σ 3 0 0) 1 + (if sThu σ = true ∧ σ 3 3 s ≠ 1 then 3 else 0))
def sLf (ρ : sT) (f : Nat → Nat) (n : Nat) : sT := fun o k t => if o = 3 ∧ k = 5 ∧ t < n then f t else ρ o k t
theorem sLf_o (ρ : sT) (f : Nat → Nat) (n : Nat) {o : Nat} (h : o ≠ 3) : sLf ρ f n o = ρ o := by funext k t; simp [sLf, h]
theorem sLf_1 (ρ : sT) (f : Nat → Nat) (n : Nat) : sLf ρ f n 1 = ρ 1 := sLf_o ρ f n (by decide)
theorem sLf_r (ρ : sT) (g : Nat → Nat) (n : Nat) {f : Nat} (h : f ≠ 5) : sLf ρ g n 3 f = ρ 3 f := by funext t; simp [sLf, h]
theorem sLf_s (ρ : sT) (g : Nat → Nat) (n : Nat) : sLf ρ g n 3 5 n = ρ 3 5 n := by simp [sLf]
theorem sLf_0 (ρ : sT) (g : Nat → Nat) : sLf ρ g 0 = ρ := by funext o k t; simp [sLf]
theorem sLf_st (ρ : sT) (f : Nat → Nat) (s : Nat) : sA (sLf ρ f s) 5 s (f s) = sLf ρ f (s + 1) := by
  funext o k t
  simp only [sA, sLf]
  by_cases h1 : o = 3 <;> by_cases h2 : k = 5
  · rcases Nat.lt_trichotomy t s with h3 | h3 | h3
    · simp [h1, h2, h3, show ¬ t = s by omega, show t < s + 1 by omega]
    · simp [h1, h2, h3]
    · simp [h1, h2, show ¬ t = s by omega, show ¬ t < s by omega, show ¬ t < s + 1 by omega]
  · simp [h1, h2]
  · simp [h1, h2]
  · simp [h1, h2]
def sPass (σ : sT) : sT := sI (sLf (sRho σ) (cLeft σ) (σ 1 5 0)) 0 (σ 3 0 0 + 1)
theorem cLoss1_le {heat air kd dy : Nat} (h : heat ≤ 9) : cLoss heat air kd dy 1 ≤ 9 := by
  unfold cLoss
  split
  · split <;> omega
  · split <;> omega
theorem mx_left {a b : Nat} (ha : a ≤ 99) (hb : b ≤ 99) : (if zI 0 < zI ↑a - zI ↑b then zI ↑a - zI ↑b else zI 0 : Int32) = zI ↑(a - b) := by
  rw [zI_sub]
  split
  · rename_i c
    rw [zI_lt (by omega) (by omega) (by omega) (by omega)] at c
    congr 1; omega
  · rename_i c
    rw [zI_lt (by omega) (by omega) (by omega) (by omega)] at c
    congr 1; omega
set_option maxRecDepth 100000 in
set_option maxHeartbeats 400000 in
theorem k_whyNoDoubt (G : ssG) (h : ssH) {ad : Nat → Nat} {pl : Nat} {σ : sT}  (hA : ∀ k l, ad k = ad l → k = l) (hc : CW0 h ad pl σ) (hok : sOk σ)  : ssC G mX8_whyNoDoubt 1 0 0 [.ref (ad 0)] h (rI (zI ↑(sWhy σ)) h) := by
  refine c_of_v okX8_whyNoDoubt (by decide +kernel) (ls := [some (.ref (ad 0))]) rfl (Nat.le_of_ble_eq_true rfl) ?_
  obtain ⟨i0, i1, i2, i3, i5, i7, a4, a6, a8, a9, a10, i11, i12, i14, i15⟩ := id hok.1
  obtain ⟨j0, j1, j2, b3, b4, b5, b6⟩ := id (hok.2.2 3 (by decide))
  have i13 := hok.2.1
  have hpl := hc.1
  simp only [fI] at i0 i1 i2 i3 i5 i7 i11 i12 i14 i15 j0 j1 j2
  refine v_run 1 (pc' := 1) (ls' := [some (.ref (ad 0))]) (st' := [.ref (ad 0)]) rfl ?_
  refine v_callV (My := mX8_lacksSafe) (As := []) (rest := []) (mc := 0) (ms := 0) rfl caX8_lacksSafe rfl rfl rfl hc.2.1 rfl rfl (k_lacksSafe G _ hA hc hok) rfl rfl (Nat.le_of_ble_eq_true rfl) (by omega) ?_
  rintro _ _ ⟨rfl, rfl⟩
  refine v_run 0 (pc' := 4) (ls' := [some (.ref (ad 0))]) (st' := [.int (zb (decide (σ 1 5 0 = 0)))]) rfl ?_
  refine v_if_eq rfl (fun c4 => ?_) (fun c4 => ?_)
  · rw [zb_0, decide_eq_false_iff_not] at c4
    refine v_run 1 (pc' := 13) (ls' := [some (.ref (ad 0))]) (st' := [.int (zI 6)]) rfl ?_
    exact v_iret rfl rfl rfl ⟨by rw [sWhy, if_neg c4]; rfl, rfl⟩
  · rw [zb_0, Bool.not_eq_false, decide_eq_true_eq] at c4
    refine v_run 2 (pc' := 13) (ls' := [some (.ref (ad 0))]) (st' := [.int (zI 1)]) rfl ?_
    exact v_iret rfl rfl rfl ⟨by rw [sWhy, if_pos c4]; rfl, rfl⟩

set_option maxRecDepth 100000 in
set_option maxHeartbeats 400000 in
theorem k_passDay (G : ssG) (h : ssH) {ad : Nat → Nat} {pl : Nat} {σ : sT} (hA : ∀ k l, ad k = ad l → k = l) (hc : CW0 h ad pl σ) (hok : sOk σ) : ssC G mX2_passDay 2 0 0 [.ref (ad 33), .ref (ad pl)] h (cRV ad pl (sPass σ) h) := by
  refine c_of_v okX2_passDay (by decide +kernel) (ls := [some (.ref (ad 33)), some (.ref (ad pl)), none, none, none]) rfl (Nat.le_of_ble_eq_true rfl) ?_
  obtain ⟨i0, i1, i2, i3, i5, i7, a4, a6, a8, a9, a10, i11, i12, i14, i15⟩ := id hok.1
  obtain ⟨j0, j1, j2, b3, b4, b5, b6⟩ := id (hok.2.2 3 (by decide))
  have i13 := hok.2.1
  have hpl := hc.1
  simp only [fI] at i0 i1 i2 i3 i5 i7 i11 i12 i14 i15 j0 j1 j2
  have tl : ∀ (g : ssH), CW0 g ad pl (sPast σ) → frP ad pl h g → ssV G mX2_passDay 2 0 0 (cRV ad pl (sPass σ) h) 33 [some (.ref (ad 33)), some (.ref (ad pl)), none, none, none] [] g := by
    intro g hg hfg
    have r1 := sPast_1 σ
    have r0 := sPast_i σ
    refine v_run 2 (pc' := 35) (ls' := [some (.ref (ad 33)), some (.ref (ad pl)), none, none, none]) (st' := [.ref (ad 33), .ref (ad 33)]) rfl ?_
    refine v_get rfl hg.2.2.2.2.1.1 rfl ?_
    refine v_run 0 (pc' := 38) (ls' := [some (.ref (ad 33)), some (.ref (ad pl)), none, none, none]) (st' := [.int (zI ↑(sPast σ 3 2 0)), .ref (ad 33)]) rfl ?_
    rw [show (zI ↑(sPast σ 3 2 0) : Int32) = zI ↑(σ 3 2 0) from by rw [r0.2.2.1]]
    refine v_callS (My := mX4_seedBehind) (As := [.int (zI ↑(σ 3 2 0))]) (rest := [.ref (ad 33)]) (mc := 0) (ms := 0) rfl caX4_seedBehind rfl rfl (k_seedBehind G _ (σ 3 2 0) (by omega)) rfl rfl (Nat.le_of_ble_eq_true rfl) (by omega) ?_
    rintro _ _ ⟨rfl, rfl⟩
    refine v_run 0 (pc' := 41) (ls' := [some (.ref (ad 33)), some (.ref (ad pl)), none, none, none]) (st' := [.int (zI ↑(sSd σ)), .ref (ad 33)]) rfl ?_
    refine v_put rfl hg.2.2.2.2.1.1 rfl rfl (Nat.le_of_ble_eq_true rfl) ?_
    generalize he1 : hset g (ad 33) _ = h1
    have hc1 : CW0 h1 ad pl (sRho σ) := he1 ▸ hg.nowI hA (by decide)
    have hf1 : frP ad pl h h1 := he1 ▸ hfg.set hA hc.1 (by omega) _
    have hP1 : CPlan h1 ad pl σ := hc1.2.2.1.eq (sRho_1 σ).symm
    have q2 : sSd σ ≤ 65536 := by unfold sSd; omega
    refine v_run 2 (pc' := 46) (ls' := [some (.ref (ad 33)), some (.ref (ad pl)), none, none, none]) (st' := [.ref (ad 33), .ref (ad pl)]) rfl ?_
    refine v_get rfl hc1.2.2.2.2.1.1 rfl ?_
    refine v_run 0 (pc' := 49) (ls' := [some (.ref (ad 33)), some (.ref (ad pl)), none, none, none]) (st' := [.int (zI ↑(sRho σ 3 2 0)), .ref (ad pl)]) rfl ?_
    rw [show (zI ↑(sRho σ 3 2 0) : Int32) = zI ↑(sSd σ) from by rw [sRho_2]]
    refine v_callV (My := mX4_isThunder) (As := [.int (zI ↑(sSd σ))]) (rest := []) (mc := 0) (ms := 0) rfl caX4_isThunder rfl rfl rfl hP1.1 rfl rfl (k_isThunder G _ (sSd σ) hP1 hok.1 q2) rfl rfl (Nat.le_of_ble_eq_true rfl) (by omega) ?_
    rintro _ _ ⟨rfl, rfl⟩
    refine v_run 0 (pc' := 52) (ls' := [some (.ref (ad 33)), some (.ref (ad pl)), none, none, none]) (st' := [.int (zb (sThu σ))]) rfl ?_
    refine v_run 3 (pc' := 55) (ls' := [some (.ref (ad 33)), some (.ref (ad pl)), some (.int (zb (sThu σ))), some (.int (zI 0)), none]) (st' := []) rfl ?_
    have lp : ∀ (n s : Nat) (g : ssH), CW0 g ad pl (sLf (sRho σ) (cLeft σ) s) → frP ad pl h g → s ≤ σ 1 5 0 → σ 1 5 0 + 1 ≤ s + n → ssV G mX2_passDay 2 0 0 (cRV ad pl (sPass σ) h) 55 [some (.ref (ad 33)), some (.ref (ad pl)), some (.int (zb (sThu σ))), some (.int (zI ↑s)), none] [] g := by
      intro n
      induction n with
      | zero => intro s g _ _ hs1 hs2; exact absurd hs2 (by omega)
      | succ n ih =>
        intro s g hg hfg hs1 hs2
        have hP : CPlan g ad pl σ := hg.2.2.1.eq (show σ 1 = (sLf (sRho σ) (cLeft σ) s) 1 from (sLf_1 _ _ _).trans (sRho_1 σ) |>.symm)
        have k3 : g (Rm ad 33 3) = some (ar 6 (σ 3 3)) := by rw [← sRho_r σ (f := 3) (by decide), ← sLf_r (sRho σ) (cLeft σ) s (f := 3) (by decide)]; exact hg.2.2.2.2.1.2.1
        have k4 : g (Rm ad 33 4) = some (ar 6 (σ 3 4)) := by rw [← sRho_r σ (f := 4) (by decide), ← sLf_r (sRho σ) (cLeft σ) s (f := 4) (by decide)]; exact hg.2.2.2.2.1.2.2.1
        have k0 : (sLf (sRho σ) (cLeft σ) s) 3 0 0 = σ 3 0 0 := by rw [sLf_r _ _ _ (by decide)]; exact sRho_0 σ
        have k5 : (sLf (sRho σ) (cLeft σ) s) 3 5 s = σ 3 5 s := by rw [sLf_s]; exact congrFun (sRho_r σ (f := 5) (by decide)) s
        have q3 := b3 s
        have q4 := b4 s
        have q5 := b5 s
        refine v_run 2 (pc' := 57) (ls' := [some (.ref (ad 33)), some (.ref (ad pl)), some (.int (zb (sThu σ))), some (.int (zI ↑s)), none]) (st' := [.ref (ad pl), .int (zI ↑s)]) rfl ?_
        refine v_get rfl hP.1 rfl ?_
        refine v_run 0 (pc' := 60) (ls' := [some (.ref (ad 33)), some (.ref (ad pl)), some (.int (zb (sThu σ))), some (.int (zI ↑s)), none]) (st' := [.int (zI ↑(σ 1 5 0)), .int (zI ↑s)]) rfl ?_
        refine v_icmp_ge rfl (fun c60 => ?_) (fun c60 => ?_)
        · simp (disch := omega) only [zI_lt, zI_le, zI_eq, zI_lt0, zI_le0, zI_0lt, zI_0le, zI_eq0] at c60
          refine v_run 2 (pc' := 136) (ls' := [some (.ref (ad 33)), some (.ref (ad pl)), some (.int (zb (sThu σ))), some (.int (zI ↑s)), none]) (st' := [.ref (ad 33), .ref (ad 33)]) rfl ?_
          refine v_get rfl hg.2.2.2.2.1.1 rfl ?_
          refine v_run 2 (pc' := 141) (ls' := [some (.ref (ad 33)), some (.ref (ad pl)), some (.int (zb (sThu σ))), some (.int (zI ↑s)), none]) (st' := [.int ((zI ↑((sLf (sRho σ) (cLeft σ) s) 3 0 0)) + (zI 1)), .ref (ad 33)]) rfl ?_
          rw [show ((zI ↑((sLf (sRho σ) (cLeft σ) s) 3 0 0)) + (zI 1) : Int32) = zI ↑(σ 3 0 0 + 1) from by rw [k0, zI_s1]]
          refine v_put rfl hg.2.2.2.2.1.1 rfl rfl (Nat.le_of_ble_eq_true rfl) ?_
          generalize he2 : hset g (ad 33) _ = h2
          have hc2 : CW0 h2 ad pl (sPass σ) := by rw [← he2, sPass, ← show s = σ 1 5 0 by omega]; exact hg.nowI hA (by decide)
          have hf2 : frP ad pl h h2 := he2 ▸ hfg.set hA hc.1 (by omega) _
          exact v_vret rfl rfl ⟨rfl, hc2, hf2⟩
        · simp (disch := omega) only [zI_lt, zI_le, zI_eq, zI_lt0, zI_le0, zI_0lt, zI_0le, zI_eq0] at c60
          refine v_run 2 (pc' := 66) (ls' := [some (.ref (ad 33)), some (.ref (ad pl)), some (.int (zb (sThu σ))), some (.int (zI ↑s)), none]) (st' := [.int (zI 6), .int (zI ↑s)]) rfl ?_
          refine v_icmp_ge rfl (fun c66 => ?_) (fun c66 => ?_)
          · exfalso; revert c66; simp (disch := omega) only [zI_lt, zI_le, zI_eq, zI_lt0, zI_le0, zI_0lt, zI_0le, zI_eq0] <;> omega
          · refine v_run 2 (pc' := 71) (ls' := [some (.ref (ad 33)), some (.ref (ad pl)), some (.int (zb (sThu σ))), some (.int (zI ↑s)), none]) (st' := [.ref (ad 33), .ref (ad pl)]) rfl ?_
            refine v_get rfl hg.2.2.2.2.1.1 rfl ?_
            refine v_run 1 (pc' := 75) (ls' := [some (.ref (ad 33)), some (.ref (ad pl)), some (.int (zb (sThu σ))), some (.int (zI ↑s)), none]) (st' := [.int (zI ↑s), .ref (Rm ad 33 3), .ref (ad pl)]) rfl ?_
            refine v_iaload' rfl k3 (i := s) rfl (by omega) ?_
            refine v_run 1 (pc' := 77) (ls' := [some (.ref (ad 33)), some (.ref (ad pl)), some (.int (zb (sThu σ))), some (.int (zI ↑s)), none]) (st' := [.ref (ad 33), .int ((fun k => zI ↑(σ 3 3 k)) s), .ref (ad pl)]) rfl ?_
            refine v_get rfl hg.2.2.2.2.1.1 rfl ?_
            refine v_run 1 (pc' := 81) (ls' := [some (.ref (ad 33)), some (.ref (ad pl)), some (.int (zb (sThu σ))), some (.int (zI ↑s)), none]) (st' := [.int (zI ↑s), .ref (Rm ad 33 4), .int ((fun k => zI ↑(σ 3 3 k)) s), .ref (ad pl)]) rfl ?_
            refine v_iaload' rfl k4 (i := s) rfl (by omega) ?_
            refine v_run 1 (pc' := 83) (ls' := [some (.ref (ad 33)), some (.ref (ad pl)), some (.int (zb (sThu σ))), some (.int (zI ↑s)), none]) (st' := [.ref (ad 33), .int ((fun k => zI ↑(σ 3 4 k)) s), .int ((fun k => zI ↑(σ 3 3 k)) s), .ref (ad pl)]) rfl ?_
            refine v_get rfl hg.2.2.2.2.1.1 rfl ?_
            refine v_run 1 (pc' := 87) (ls' := [some (.ref (ad 33)), some (.ref (ad pl)), some (.int (zb (sThu σ))), some (.int (zI ↑s)), none]) (st' := [.int (zI 1), .int (zI ↑((sLf (sRho σ) (cLeft σ) s) 3 0 0)), .int ((fun k => zI ↑(σ 3 4 k)) s), .int ((fun k => zI ↑(σ 3 3 k)) s), .ref (ad pl)]) rfl ?_
            rw [show (zI ↑((sLf (sRho σ) (cLeft σ) s) 3 0 0) : Int32) = zI ↑(σ 3 0 0) from by rw [k0]]
            refine v_callV (My := mX4_lossOver) (As := [.int ((fun k => zI ↑(σ 3 3 k)) s), .int ((fun k => zI ↑(σ 3 4 k)) s), .int (zI ↑(σ 3 0 0)), .int (zI 1)]) (rest := []) (mc := 0) (ms := 0) rfl caX4_lossOver rfl rfl rfl hP.1 rfl rfl (k_lossOver G _ (σ 3 3 s) (σ 3 4 s) (σ 3 0 0) 1 hP hok.1 q4 q3 (by omega) (by omega)) rfl rfl (Nat.le_of_ble_eq_true rfl) (by omega) ?_
            rintro _ _ ⟨rfl, rfl⟩
            refine v_run 0 (pc' := 90) (ls' := [some (.ref (ad 33)), some (.ref (ad pl)), some (.int (zb (sThu σ))), some (.int (zI ↑s)), none]) (st' := [.int (zI ↑(cLoss (σ 1 1 0) (σ 1 4 (σ 3 4 s)) (σ 3 3 s) (σ 3 0 0) 1))]) rfl ?_
            have q6 : cLoss (σ 1 1 0) (σ 1 4 (σ 3 4 s)) (σ 3 3 s) (σ 3 0 0) 1 ≤ 9 := cLoss1_le i1
            refine v_run 2 (pc' := 93) (ls' := [some (.ref (ad 33)), some (.ref (ad pl)), some (.int (zb (sThu σ))), some (.int (zI ↑s)), some (.int (zI ↑(cLoss (σ 1 1 0) (σ 1 4 (σ 3 4 s)) (σ 3 3 s) (σ 3 0 0) 1)))]) (st' := [.int (zb (sThu σ))]) rfl ?_
            refine v_if_eq rfl (fun c93 => ?_) (fun c93 => ?_)
            · rw [zb_0] at c93
              refine v_run 1 (pc' := 110) (ls' := [some (.ref (ad 33)), some (.ref (ad pl)), some (.int (zb (sThu σ))), some (.int (zI ↑s)), some (.int (zI ↑(cLoss (σ 1 1 0) (σ 1 4 (σ 3 4 s)) (σ 3 3 s) (σ 3 0 0) 1)))]) (st' := [.ref (ad 33)]) rfl ?_
              refine v_get rfl hg.2.2.2.2.1.1 rfl ?_
              refine v_run 3 (pc' := 116) (ls' := [some (.ref (ad 33)), some (.ref (ad pl)), some (.int (zb (sThu σ))), some (.int (zI ↑s)), some (.int (zI ↑(cLoss (σ 1 1 0) (σ 1 4 (σ 3 4 s)) (σ 3 3 s) (σ 3 0 0) 1)))]) (st' := [.ref (ad 33), .int (zI 0), .int (zI ↑s), .ref (Rm ad 33 5)]) rfl ?_
              refine v_get rfl hg.2.2.2.2.1.1 rfl ?_
              refine v_run 1 (pc' := 120) (ls' := [some (.ref (ad 33)), some (.ref (ad pl)), some (.int (zb (sThu σ))), some (.int (zI ↑s)), some (.int (zI ↑(cLoss (σ 1 1 0) (σ 1 4 (σ 3 4 s)) (σ 3 3 s) (σ 3 0 0) 1)))]) (st' := [.int (zI ↑s), .ref (Rm ad 33 5), .int (zI 0), .int (zI ↑s), .ref (Rm ad 33 5)]) rfl ?_
              refine v_iaload' rfl hg.2.2.2.2.1.2.2.2.1 (i := s) rfl (by omega) ?_
              refine v_run 2 (pc' := 124) (ls' := [some (.ref (ad 33)), some (.ref (ad pl)), some (.int (zb (sThu σ))), some (.int (zI ↑s)), some (.int (zI ↑(cLoss (σ 1 1 0) (σ 1 4 (σ 3 4 s)) (σ 3 3 s) (σ 3 0 0) 1)))]) (st' := [.int (((fun k => zI ↑((sLf (sRho σ) (cLeft σ) s) 3 5 k)) s) - (zI ↑(cLoss (σ 1 1 0) (σ 1 4 (σ 3 4 s)) (σ 3 3 s) (σ 3 0 0) 1))), .int (zI 0), .int (zI ↑s), .ref (Rm ad 33 5)]) rfl ?_
              rw [show ((fun k => zI ↑((sLf (sRho σ) (cLeft σ) s) 3 5 k)) s : Int32) = zI ↑(σ 3 5 s) from by show zI ↑((sLf (sRho σ) (cLeft σ) s) 3 5 s) = _; rw [k5]]
              refine v_max rfl rfl (by omega) (Nat.le_of_ble_eq_true rfl) ?_
              rw [show ((if (zI 0) < ((zI ↑(σ 3 5 s)) - (zI ↑(cLoss (σ 1 1 0) (σ 1 4 (σ 3 4 s)) (σ 3 3 s) (σ 3 0 0) 1))) then ((zI ↑(σ 3 5 s)) - (zI ↑(cLoss (σ 1 1 0) (σ 1 4 (σ 3 4 s)) (σ 3 3 s) (σ 3 0 0) 1))) else (zI 0)) : Int32) = zI ↑(cLeft σ s) from (by rw [show cLeft σ s = σ 3 5 s - (cLoss (σ 1 1 0) (σ 1 4 (σ 3 4 s)) (σ 3 3 s) (σ 3 0 0) 1 + 0) from (by simp [cLeft, c93])]; exact mx_left (by omega) (by omega))]
              refine v_iastore' rfl hg.2.2.2.2.1.2.2.2.1 (i := s) rfl (by omega) ?_
              rw [ar_upd]
              generalize he2 : hset g _ _ = h2
              have hc2 : CW0 h2 ad pl (sLf (sRho σ) (cLeft σ) (s + 1)) := by rw [← he2, ← sLf_st]; exact hg.nowA5 hA
              have hf2 : frP ad pl h h2 := he2 ▸ hfg.set hA hc.1 (by omega) _
              refine v_run 2 (pc' := 55) (ls' := [some (.ref (ad 33)), some (.ref (ad pl)), some (.int (zb (sThu σ))), some (.int ((zI ↑s) + zI 1)), some (.int (zI ↑(cLoss (σ 1 1 0) (σ 1 4 (σ 3 4 s)) (σ 3 3 s) (σ 3 0 0) 1)))]) (st' := []) rfl ?_
              refine v_drop 4 (ls' := [some (.ref (ad 33)), some (.ref (ad pl)), some (.int (zb (sThu σ))), some (.int ((zI ↑s) + zI 1)), none]) rfl ?_
              rw [zI_s1]
              exact ih (s + 1) h2 hc2 hf2 (by omega) (by omega)
            · rw [zb_0, Bool.not_eq_false] at c93
              refine v_run 1 (pc' := 97) (ls' := [some (.ref (ad 33)), some (.ref (ad pl)), some (.int (zb (sThu σ))), some (.int (zI ↑s)), some (.int (zI ↑(cLoss (σ 1 1 0) (σ 1 4 (σ 3 4 s)) (σ 3 3 s) (σ 3 0 0) 1)))]) (st' := [.ref (ad 33)]) rfl ?_
              refine v_get rfl hg.2.2.2.2.1.1 rfl ?_
              refine v_run 1 (pc' := 101) (ls' := [some (.ref (ad 33)), some (.ref (ad pl)), some (.int (zb (sThu σ))), some (.int (zI ↑s)), some (.int (zI ↑(cLoss (σ 1 1 0) (σ 1 4 (σ 3 4 s)) (σ 3 3 s) (σ 3 0 0) 1)))]) (st' := [.int (zI ↑s), .ref (Rm ad 33 3)]) rfl ?_
              refine v_iaload' rfl k3 (i := s) rfl (by omega) ?_
              refine v_run 1 (pc' := 103) (ls' := [some (.ref (ad 33)), some (.ref (ad pl)), some (.int (zb (sThu σ))), some (.int (zI ↑s)), some (.int (zI ↑(cLoss (σ 1 1 0) (σ 1 4 (σ 3 4 s)) (σ 3 3 s) (σ 3 0 0) 1)))]) (st' := [.int (zI 1), .int ((fun k => zI ↑(σ 3 3 k)) s)]) rfl ?_
              refine v_icmp_eq rfl (fun c103 => ?_) (fun c103 => ?_)
              · simp (disch := omega) only [zI_lt, zI_le, zI_eq, zI_lt0, zI_le0, zI_0lt, zI_0le, zI_eq0] at c103
                refine v_run 1 (pc' := 110) (ls' := [some (.ref (ad 33)), some (.ref (ad pl)), some (.int (zb (sThu σ))), some (.int (zI ↑s)), some (.int (zI ↑(cLoss (σ 1 1 0) (σ 1 4 (σ 3 4 s)) (σ 3 3 s) (σ 3 0 0) 1)))]) (st' := [.ref (ad 33)]) rfl ?_
                refine v_get rfl hg.2.2.2.2.1.1 rfl ?_
                refine v_run 3 (pc' := 116) (ls' := [some (.ref (ad 33)), some (.ref (ad pl)), some (.int (zb (sThu σ))), some (.int (zI ↑s)), some (.int (zI ↑(cLoss (σ 1 1 0) (σ 1 4 (σ 3 4 s)) (σ 3 3 s) (σ 3 0 0) 1)))]) (st' := [.ref (ad 33), .int (zI 0), .int (zI ↑s), .ref (Rm ad 33 5)]) rfl ?_
                refine v_get rfl hg.2.2.2.2.1.1 rfl ?_
                refine v_run 1 (pc' := 120) (ls' := [some (.ref (ad 33)), some (.ref (ad pl)), some (.int (zb (sThu σ))), some (.int (zI ↑s)), some (.int (zI ↑(cLoss (σ 1 1 0) (σ 1 4 (σ 3 4 s)) (σ 3 3 s) (σ 3 0 0) 1)))]) (st' := [.int (zI ↑s), .ref (Rm ad 33 5), .int (zI 0), .int (zI ↑s), .ref (Rm ad 33 5)]) rfl ?_
                refine v_iaload' rfl hg.2.2.2.2.1.2.2.2.1 (i := s) rfl (by omega) ?_
                refine v_run 2 (pc' := 124) (ls' := [some (.ref (ad 33)), some (.ref (ad pl)), some (.int (zb (sThu σ))), some (.int (zI ↑s)), some (.int (zI ↑(cLoss (σ 1 1 0) (σ 1 4 (σ 3 4 s)) (σ 3 3 s) (σ 3 0 0) 1)))]) (st' := [.int (((fun k => zI ↑((sLf (sRho σ) (cLeft σ) s) 3 5 k)) s) - (zI ↑(cLoss (σ 1 1 0) (σ 1 4 (σ 3 4 s)) (σ 3 3 s) (σ 3 0 0) 1))), .int (zI 0), .int (zI ↑s), .ref (Rm ad 33 5)]) rfl ?_
                rw [show ((fun k => zI ↑((sLf (sRho σ) (cLeft σ) s) 3 5 k)) s : Int32) = zI ↑(σ 3 5 s) from by show zI ↑((sLf (sRho σ) (cLeft σ) s) 3 5 s) = _; rw [k5]]
                refine v_max rfl rfl (by omega) (Nat.le_of_ble_eq_true rfl) ?_
                rw [show ((if (zI 0) < ((zI ↑(σ 3 5 s)) - (zI ↑(cLoss (σ 1 1 0) (σ 1 4 (σ 3 4 s)) (σ 3 3 s) (σ 3 0 0) 1))) then ((zI ↑(σ 3 5 s)) - (zI ↑(cLoss (σ 1 1 0) (σ 1 4 (σ 3 4 s)) (σ 3 3 s) (σ 3 0 0) 1))) else (zI 0)) : Int32) = zI ↑(cLeft σ s) from (by rw [show cLeft σ s = σ 3 5 s - (cLoss (σ 1 1 0) (σ 1 4 (σ 3 4 s)) (σ 3 3 s) (σ 3 0 0) 1 + 0) from (by unfold cLeft; rw [if_neg (by omega)])]; exact mx_left (by omega) (by omega))]
                refine v_iastore' rfl hg.2.2.2.2.1.2.2.2.1 (i := s) rfl (by omega) ?_
                rw [ar_upd]
                generalize he2 : hset g _ _ = h2
                have hc2 : CW0 h2 ad pl (sLf (sRho σ) (cLeft σ) (s + 1)) := by rw [← he2, ← sLf_st]; exact hg.nowA5 hA
                have hf2 : frP ad pl h h2 := he2 ▸ hfg.set hA hc.1 (by omega) _
                refine v_run 2 (pc' := 55) (ls' := [some (.ref (ad 33)), some (.ref (ad pl)), some (.int (zb (sThu σ))), some (.int ((zI ↑s) + zI 1)), some (.int (zI ↑(cLoss (σ 1 1 0) (σ 1 4 (σ 3 4 s)) (σ 3 3 s) (σ 3 0 0) 1)))]) (st' := []) rfl ?_
                refine v_drop 4 (ls' := [some (.ref (ad 33)), some (.ref (ad pl)), some (.int (zb (sThu σ))), some (.int ((zI ↑s) + zI 1)), none]) rfl ?_
                rw [zI_s1]
                exact ih (s + 1) h2 hc2 hf2 (by omega) (by omega)
              · simp (disch := omega) only [zI_lt, zI_le, zI_eq, zI_lt0, zI_le0, zI_0lt, zI_0le, zI_eq0] at c103
                refine v_run 2 (pc' := 110) (ls' := [some (.ref (ad 33)), some (.ref (ad pl)), some (.int (zb (sThu σ))), some (.int (zI ↑s)), some (.int ((zI ↑(cLoss (σ 1 1 0) (σ 1 4 (σ 3 4 s)) (σ 3 3 s) (σ 3 0 0) 1)) + zI 3))]) (st' := [.ref (ad 33)]) rfl ?_
                refine v_get rfl hg.2.2.2.2.1.1 rfl ?_
                refine v_run 3 (pc' := 116) (ls' := [some (.ref (ad 33)), some (.ref (ad pl)), some (.int (zb (sThu σ))), some (.int (zI ↑s)), some (.int ((zI ↑(cLoss (σ 1 1 0) (σ 1 4 (σ 3 4 s)) (σ 3 3 s) (σ 3 0 0) 1)) + zI 3))]) (st' := [.ref (ad 33), .int (zI 0), .int (zI ↑s), .ref (Rm ad 33 5)]) rfl ?_
                refine v_get rfl hg.2.2.2.2.1.1 rfl ?_
                refine v_run 1 (pc' := 120) (ls' := [some (.ref (ad 33)), some (.ref (ad pl)), some (.int (zb (sThu σ))), some (.int (zI ↑s)), some (.int ((zI ↑(cLoss (σ 1 1 0) (σ 1 4 (σ 3 4 s)) (σ 3 3 s) (σ 3 0 0) 1)) + zI 3))]) (st' := [.int (zI ↑s), .ref (Rm ad 33 5), .int (zI 0), .int (zI ↑s), .ref (Rm ad 33 5)]) rfl ?_
                refine v_iaload' rfl hg.2.2.2.2.1.2.2.2.1 (i := s) rfl (by omega) ?_
                refine v_run 2 (pc' := 124) (ls' := [some (.ref (ad 33)), some (.ref (ad pl)), some (.int (zb (sThu σ))), some (.int (zI ↑s)), some (.int ((zI ↑(cLoss (σ 1 1 0) (σ 1 4 (σ 3 4 s)) (σ 3 3 s) (σ 3 0 0) 1)) + zI 3))]) (st' := [.int (((fun k => zI ↑((sLf (sRho σ) (cLeft σ) s) 3 5 k)) s) - ((zI ↑(cLoss (σ 1 1 0) (σ 1 4 (σ 3 4 s)) (σ 3 3 s) (σ 3 0 0) 1)) + zI 3)), .int (zI 0), .int (zI ↑s), .ref (Rm ad 33 5)]) rfl ?_
                rw [show ((fun k => zI ↑((sLf (sRho σ) (cLeft σ) s) 3 5 k)) s : Int32) = zI ↑(σ 3 5 s) from by show zI ↑((sLf (sRho σ) (cLeft σ) s) 3 5 s) = _; rw [k5]]
                rw [show ((zI ↑(cLoss (σ 1 1 0) (σ 1 4 (σ 3 4 s)) (σ 3 3 s) (σ 3 0 0) 1)) + zI 3 : Int32) = zI ↑(cLoss (σ 1 1 0) (σ 1 4 (σ 3 4 s)) (σ 3 3 s) (σ 3 0 0) 1 + 3) from zN_add _ 3]
                refine v_max rfl rfl (by omega) (Nat.le_of_ble_eq_true rfl) ?_
                rw [show ((if (zI 0) < ((zI ↑(σ 3 5 s)) - (zI ↑(cLoss (σ 1 1 0) (σ 1 4 (σ 3 4 s)) (σ 3 3 s) (σ 3 0 0) 1 + 3))) then ((zI ↑(σ 3 5 s)) - (zI ↑(cLoss (σ 1 1 0) (σ 1 4 (σ 3 4 s)) (σ 3 3 s) (σ 3 0 0) 1 + 3))) else (zI 0)) : Int32) = zI ↑(cLeft σ s) from (by rw [show cLeft σ s = σ 3 5 s - (cLoss (σ 1 1 0) (σ 1 4 (σ 3 4 s)) (σ 3 3 s) (σ 3 0 0) 1 + 3) from (by unfold cLeft; rw [if_pos ⟨c93, by omega⟩])]; exact mx_left (by omega) (by omega))]
                refine v_iastore' rfl hg.2.2.2.2.1.2.2.2.1 (i := s) rfl (by omega) ?_
                rw [ar_upd]
                generalize he2 : hset g _ _ = h2
                have hc2 : CW0 h2 ad pl (sLf (sRho σ) (cLeft σ) (s + 1)) := by rw [← he2, ← sLf_st]; exact hg.nowA5 hA
                have hf2 : frP ad pl h h2 := he2 ▸ hfg.set hA hc.1 (by omega) _
                refine v_run 2 (pc' := 55) (ls' := [some (.ref (ad 33)), some (.ref (ad pl)), some (.int (zb (sThu σ))), some (.int ((zI ↑s) + zI 1)), some (.int (zI ↑(cLoss (σ 1 1 0) (σ 1 4 (σ 3 4 s)) (σ 3 3 s) (σ 3 0 0) 1 + 3)))]) (st' := []) rfl ?_
                refine v_drop 4 (ls' := [some (.ref (ad 33)), some (.ref (ad pl)), some (.int (zb (sThu σ))), some (.int ((zI ↑s) + zI 1)), none]) rfl ?_
                rw [zI_s1]
                exact ih (s + 1) h2 hc2 hf2 (by omega) (by omega)
    exact lp (σ 1 5 0 + 1) 0 h1 (by rw [sLf_0]; exact hc1) hf1 (by omega) (by omega)
  refine v_run 1 (pc' := 1) (ls' := [some (.ref (ad 33)), some (.ref (ad pl)), none, none, none]) (st' := [.ref (ad 33)]) rfl ?_
  refine v_get rfl hc.2.2.2.2.1.1 rfl ?_
  refine v_run 0 (pc' := 4) (ls' := [some (.ref (ad 33)), some (.ref (ad pl)), none, none, none]) (st' := [.int (zI ↑(σ 3 0 0))]) rfl ?_
  refine v_if_lt rfl (fun c4 => ?_) (fun c4 => ?_)
  · exfalso; revert c4; simp (disch := omega) only [zI_lt, zI_le, zI_eq, zI_lt0, zI_le0, zI_0lt, zI_0le, zI_eq0] <;> omega
  · refine v_run 1 (pc' := 8) (ls' := [some (.ref (ad 33)), some (.ref (ad pl)), none, none, none]) (st' := [.ref (ad 33)]) rfl ?_
    refine v_get rfl hc.2.2.2.2.1.1 rfl ?_
    refine v_run 1 (pc' := 13) (ls' := [some (.ref (ad 33)), some (.ref (ad pl)), none, none, none]) (st' := [.int (zI 40), .int (zI ↑(σ 3 0 0))]) rfl ?_
    refine v_icmp_gt rfl (fun c13 => ?_) (fun c13 => ?_)
    · simp (disch := omega) only [zI_lt, zI_le, zI_eq, zI_lt0, zI_le0, zI_0lt, zI_0le, zI_eq0] at c13
      exact tl h (by rw [sPast, if_neg (by omega)]; exact hc) (frP.rf ad pl h)
    · simp (disch := omega) only [zI_lt, zI_le, zI_eq, zI_lt0, zI_le0, zI_0lt, zI_0le, zI_eq0] at c13
      refine v_run 1 (pc' := 17) (ls' := [some (.ref (ad 33)), some (.ref (ad pl)), none, none, none]) (st' := [.ref (ad 33)]) rfl ?_
      refine v_get rfl hc.2.2.2.2.1.1 rfl ?_
      refine v_run 1 (pc' := 21) (ls' := [some (.ref (ad 33)), some (.ref (ad pl)), none, none, none]) (st' := [.ref (ad 33), .ref (Rm ad 33 6)]) rfl ?_
      refine v_get rfl hc.2.2.2.2.1.1 rfl ?_
      refine v_run 2 (pc' := 26) (ls' := [some (.ref (ad 33)), some (.ref (ad pl)), none, none, none]) (st' := [.ref (ad pl), .ref (ad 33), .int (zI ↑(σ 3 0 0)), .ref (Rm ad 33 6)]) rfl ?_
      refine v_get rfl hc.2.2.1.1 rfl ?_
      refine v_run 0 (pc' := 29) (ls' := [some (.ref (ad 33)), some (.ref (ad pl)), none, none, none]) (st' := [.int (zI ↑(σ 1 5 0)), .ref (ad 33), .int (zI ↑(σ 3 0 0)), .ref (Rm ad 33 6)]) rfl ?_
      refine v_callV (My := mX2_goodBits) (As := [.int (zI ↑(σ 1 5 0))]) (rest := [.int (zI ↑(σ 3 0 0)), .ref (Rm ad 33 6)]) (mc := 0) (ms := 0) rfl caX2_goodBits rfl rfl rfl hc.2.2.2.2.1.1 rfl rfl (k_goodBits G h (σ 1 5 0) hc.2.2.2.2.1 (hok.2.2 3 (by decide)) i5) rfl rfl (Nat.le_of_ble_eq_true rfl) (by omega) ?_
      rintro _ _ ⟨rfl, rfl⟩
      refine v_run 0 (pc' := 32) (ls' := [some (.ref (ad 33)), some (.ref (ad pl)), none, none, none]) (st' := [.int (zI ↑(setN (fun s => decide (0 < σ 3 5 s)) (σ 1 5 0))), .int (zI ↑(σ 3 0 0)), .ref (Rm ad 33 6)]) rfl ?_
      refine v_iastore' rfl hc.2.2.2.2.1.2.2.2.2 (i := σ 3 0 0) rfl (by omega) ?_
      rw [ar_upd]
      exact tl _ (by rw [sPast, if_pos (by omega)]; exact hc.nowA6 hA) ((frP.rf ad pl h).set hA hc.1 (by omega) _)

