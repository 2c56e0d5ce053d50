/-! ===== move and day go together ===== -/
section RACT2
variable {σ τ : sT} {ζ : Nat → Nat → Nat} {V W P K : Nat → Nat} {o c i : Nat}
theorem RA.hk (ra : RA σ ζ V P K c i) {s n : Nat} (hs : s < σ 1 5 0) (hn : n < σ 1 3 0) : RA (sA σ 4 s n) ζ (mMvS V s n) P K c i := by
  have h5 : σ 1 5 0 ≤ 6 := by rw [← ra.1.1.1.2.2.2.2.2.1]; exact ra.1.2.1.2.2.2.2.2.1
  have h3 : σ 1 3 0 ≤ 6 := by rw [← ra.1.1.1.2.2.2.2.1]; exact ra.1.2.1.2.2.2.2.1
  obtain ⟨w1, w2, w3, w4, w5⟩ := ra.2.1.1
  obtain ⟨x0, x6, x12, x18, x24, x25, x26⟩ := ra.2.1.2
  refine ra.now (fun o ho => sA_ne _ ho) (sA_ok4 ra.1.2.2.1 (by omega)) (sA_z ra.1.2.2.2 (by omega)) ?_ ?_
  · unfold RV
    rw [sA_ne _ (by decide), sA_self, sA_row _ (by decide), sA_row _ (by decide), sA_row _ (by decide), sA_row _ (by decide), sA_row _ (by decide), sA_row _ (by decide)]
    refine ⟨fun t ht => ?_, fun a ha hd => ?_, ?_, ?_, ?_⟩
    · obtain ⟨u1, u2, u3, u4⟩ := w1 t ht
      simp only [mMvS]
      by_cases e : t = s
      · rw [if_pos e, if_pos e, if_neg (by omega), if_neg (by omega)]; exact ⟨rfl, u2, u3, hn⟩
      · rw [if_neg e, if_neg e, if_neg (by omega), if_neg (by omega)]; exact ⟨u1, u2, u3, u4⟩
    · simp only [mMvS]; rw [if_neg (by omega)]; exact w2 a ha hd
    · simp only [mMvS]; rw [if_neg (by omega)]; exact w3
    · simp only [mMvS]; rw [if_neg (by omega)]; exact w4
    · simp only [mMvS]; rw [if_neg (by omega)]; exact w5
  · refine ⟨fun k hk => ?_, fun k hk => ?_, fun k hk => ?_, fun k hk => ?_, ?_, ?_, fun k hk => ?_⟩
    · simp only [mMvS]
      have := x0 k hk
      split <;> omega
    · simp only [mMvS]; rw [if_neg (by omega)]; exact x6 k hk
    · simp only [mMvS]; rw [if_neg (by omega)]; exact x12 k hk
    · simp only [mMvS]; rw [if_neg (by omega)]; exact x18 k hk
    · simp only [mMvS]; rw [if_neg (by omega)]; exact x24
    · simp only [mMvS]; rw [if_neg (by omega)]; exact x25
    · simp only [mMvS]; rw [if_neg (by omega)]; exact x26 k hk
theorem e_move {ρ : Nat → Nat → Nat} {rv : Value} {m : Nat → Int} {ad : Nat → Nat} {h : ssH} (ra : RA σ ζ (ρ 2) (ρ 4) (ρ 5) c i) (hc : m 19 = ↑c) (hi : m 20 = ↑i) (s n : Int) : actOk (tMove σ s n).2 σ ζ rv m ad h (.int (zI (tMove σ s n).1)) (bMoveP ζ rv m ρ ad h c s n) := by
  have p5 := ra.1.1.1.2.2.2.2.2.1
  have p4 := ra.1.1.1.2.2.2.2.1
  unfold tMove bMoveP
  by_cases q1 : (s < 0 ∨ ↑(σ 1 5 0) ≤ s) ∨ n < 0 ∨ ↑(σ 1 3 0) ≤ n
  · rw [if_pos q1, if_pos (by omega)]
    exact actOk.no 1 ra hc hi (by decide) rfl
  · have hq1 : ¬ (¬ (0 ≤ s ∧ s < ↑(ζ 5 0)) ∨ ¬ (0 ≤ n ∧ n < ↑(ζ 4 0))) := by omega
    rw [if_neg q1, if_neg hq1]
    obtain ⟨v1, v2, v3, v4⟩ := ra.2.1.1.1 s.toNat (by omega)
    rw [v1]
    by_cases q2 : (↑(σ 3 4 s.toNat) : Int) = n
    · rw [if_pos q2, if_pos q2]
      exact actOk.no 5 ra hc hi (by decide) rfl
    · rw [if_neg q2, if_neg q2]
      have rk := ra.keep
      have k1 := sKeep_1 σ
      have k3 := sKeep_3 σ
      have hw := r_who ra.1.1 ra.2.1.1 n.toNat
      have hb := cWho_bd (σ 3 4) n.toNat (σ 1 5 0)
      unfold mMv
      rw [hw]
      have e0 : ∀ k, sKeep σ 0 k 0 = σ 0 k 0 := fun k => by rw [sKeep_o (by decide) (by omega)]
      by_cases q3 : cWho (σ 3 4) n.toNat (σ 1 5 0) = -2
      · rw [if_pos (by omega), if_pos q3]
        exact actOk.yes (rk.hk (s := s.toNat) (n := n.toNat) (by rw [k1]; omega) (by rw [k1]; omega)) (by rw [sA_ne _ (by decide)]; exact ⟨e0 7, e0 8⟩) (by rw [hi]; rfl)
      · rw [if_neg (by omega), if_neg q3]
        have r2 := rk.hk (s := (cWho (σ 3 4) n.toNat (σ 1 5 0)).toNat) (n := σ 3 4 s.toNat) (by rw [k1]; omega) (by rw [k1]; exact v4)
        have r3 := r2.hk (s := s.toNat) (n := n.toNat) (by rw [sA_ne _ (by decide), k1]; omega) (by rw [sA_ne _ (by decide), k1]; omega)
        rw [k3]
        exact actOk.yes r3 (by rw [sA_ne _ (by decide), sA_ne _ (by decide)]; exact ⟨e0 7, e0 8⟩) (by rw [hi, ← v1]; rfl)
theorem sLf_z {ρ : sT} {f : Nat → Nat} {n : Nat} (hz : sZ ρ) (hn : n ≤ 6) : sZ (sLf ρ f n) := fun o ho k t hk => by
  simp only [sLf]
  rw [if_neg (by omega)]; exact hz o ho k t hk
theorem sPass_z (hz : sZ σ) (h5 : σ 1 5 0 ≤ 6) : sZ (sPass σ) := by
  have hp : sZ (sPast σ) := by
    unfold sPast
    split
    · exact sA_z hz (by omega)
    · exact hz
  exact sI_z (sLf_z (sI_z hp (by decide)) h5) (by decide)
theorem sPass_o (ho : o ≠ 3) : sPass σ o = σ o := by unfold sPass sRho; rw [sI_ne _ ho, sLf_o _ _ _ ho, sI_ne _ ho, sPast_o _ ho]
theorem RA.pass (ra : RA σ ζ V P K c i) (hd : σ 3 0 0 < 99) : RA (sPass σ) ζ (mDr ζ V) P K c i := by
  have h5 : σ 1 5 0 ≤ 6 := by rw [← ra.1.1.1.2.2.2.2.2.1]; exact ra.1.2.1.2.2.2.2.2.1
  have h7 : σ 1 7 0 ≤ 5 := by rw [← ra.1.1.1.2.2.2.2.2.2.1]; exact ra.1.2.1.2.2.2.2.2.2.1
  have rp := ra.1.1
  have p5 := rp.1.2.2.2.2.2.1
  have p6 := rp.1.2.2.2.2.2.2.1
  have rv := ra.2.1.1
  obtain ⟨w1, w2, w3, w4, w5⟩ := id rv
  obtain ⟨z0, z1, z2, z3, z4, z5, z6, -⟩ := id ra.1.2.1
  have a8 := ra.1.2.2.1.1.2.2.2.2.2.2.2.2.1
  refine ra.now (fun o ho => sPass_o ho) (sPass_ok ra.1.2.2.1 hd) (sPass_z ra.1.2.2.2 h5) ?_ (mDr_ok ra.1.2.1 ra.2.1.2)
  have e0 : sPass σ 3 0 0 = σ 3 0 0 + 1 := by simp [sPass, sI]
  have e2 : sPass σ 3 2 0 = sSd σ := by unfold sPass; rw [sI_row _ (by decide), sLf_r _ _ _ (by decide), sRho_2]
  have er : ∀ f, f ≠ 0 → f ≠ 2 → f ≠ 5 → f ≠ 6 → sPass σ 3 f = σ 3 f := fun f h0 h2 h5 h6 => by unfold sPass; rw [sI_row _ h0, sLf_r _ _ _ h5, sRho_r σ ⟨h2, h6⟩]
  have e5 : ∀ s, s < σ 1 5 0 → sPass σ 3 5 s = cLeft σ s := fun s hs => by
    unfold sPass; rw [sI_row _ (by decide)]; simp only [sLf]; rw [if_pos ⟨trivial, trivial, hs⟩]
  have e6 : sPass σ 3 6 = fun j => if σ 3 0 0 ≤ 40 ∧ j = σ 3 0 0 then sGood σ else σ 3 6 j := by
    unfold sPass; rw [sI_row _ (by decide), sLf_r _ _ _ (by decide)]
    unfold sRho; rw [sI_row _ (by decide)]
    unfold sPast
    funext j
    by_cases q : σ 3 0 0 ≤ 40
    · rw [if_pos q, sA_self]
      show (if j = σ 3 0 0 then sGood σ else σ 3 6 j) = _
      by_cases qj : j = σ 3 0 0
      · rw [if_pos qj, if_pos ⟨q, qj⟩]
      · rw [if_neg qj, if_neg (fun z => qj z.2)]
    · rw [if_neg q, if_neg (fun z => q z.1)]
  have hsd : mSd V = sSd σ := by unfold mSd sSd; rw [w5]
  have hth : mThu ζ V = sThu σ := by unfold mThu sThu; rw [hsd, rp.1.2.2.1]
  have lo : ∀ k, k < 12 → mDr ζ V k = V k := fun k hk => by unfold mDr; rw [mD_lo _ _ hk]; unfold mX25; rw [if_neg (by omega)]
  have x25 : ∀ k, k ≠ 25 → mX25 V (mSd V) k = V k := fun k hk => by unfold mX25; rw [if_neg hk]
  have hG : mG ζ (mX25 V (mSd V)) = sGood σ := by
    rw [← r_G rp rv]
    unfold mG
    exact setN_congr _ (fun s hs => by rw [x25 _ (by omega)])
  unfold RV
  rw [sPass_o (by decide), e6, er 4 (by decide) (by decide) (by decide) (by decide), er 3 (by decide) (by decide) (by decide) (by decide), er 1 (by decide) (by decide) (by decide) (by decide), e0, e2]
  refine ⟨fun s hs => ?_, fun a ha hda => ?_, ?_, ?_, ?_⟩
  · obtain ⟨u1, u2, u3, u4⟩ := w1 s hs
    rw [lo s (by omega), lo (6 + s) (by omega), e5 s hs]
    refine ⟨u1, u2, ?_, u4⟩
    unfold mDr
    rw [mD_l (by omega) z5, x25 _ (by omega), x25 _ (by omega), hth, mLs, x25 _ (by omega), x25 _ (by omega), x25 _ (by omega), r_loss rp rv hs, u3, u2]
    rfl
  · have h8 := (rp.2.2.2.1 a ha).1
    unfold mDr
    rw [mD_p (by omega) z6 z5, x25 _ (by omega), x25 _ (by omega), hG, h8, w3]
    show _ = if σ 3 0 0 ≤ 40 ∧ σ 1 8 a = σ 3 0 0 then sGood σ else σ 3 6 (σ 1 8 a)
    have := a8 a
    by_cases q : σ 1 8 a = σ 3 0 0
    · rw [if_pos q, if_pos ⟨by omega, q⟩]
    · rw [if_neg q, if_neg (fun z => q z.2)]
      exact w2 a ha (by omega)
  · unfold mDr; rw [mD_23, x25 _ (by decide), w3]
  · unfold mDr
    simp only [mD, mD2, mD1]
    rw [if_neg (by omega), if_neg (by omega), if_neg (by omega), x25 _ (by omega), w4]
  · unfold mDr
    rw [mD_25 ra.1.2.1]
    unfold mX25; rw [if_pos rfl, hsd]
theorem e_day {ρ : Nat → Nat → Nat} {rv : Value} {m : Nat → Int} {ad : Nat → Nat} {h : ssH} (ra : RA σ ζ (ρ 2) (ρ 4) (ρ 5) c i) (hc : m 19 = ↑c) (hi : m 20 = ↑i) : actOk (tDay σ).2 σ ζ rv m ad h (.int (zI (tDay σ).1)) (bDayP ζ rv m ρ ad h c) := by
  have h99 := (ra.1.2.2.1.2.2 3 (by decide)).1
  unfold fI at h99
  unfold tDay bDayP
  rw [if_neg (r_told ra.1.1), ra.2.1.1.2.2.1]
  by_cases q1 : 99 ≤ σ 3 0 0
  · rw [if_pos q1, if_pos (by omega)]
    exact actOk.no 3 ra hc hi (by decide) rfl
  · rw [if_neg q1, if_neg (by omega)]
    have rk := ra.keep.pass (by rw [sKeep_3]; omega)
    refine actOk.yes rk (by rw [sPass_o (by decide), sKeep_o (by decide) (by omega)]; exact ⟨rfl, rfl⟩) ?_
    rw [hi, r_G rk.1.1 rk.2.1.1]
    rfl
end RACT2
