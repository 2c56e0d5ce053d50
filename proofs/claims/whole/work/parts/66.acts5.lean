/-! ===== the acts: the class's state and the model's go together ===== -/
section RACTS
variable {σ τ : sT} {ζ : Nat → Nat → Nat} {V W P K : Nat → Nat} {o c i : Nat}
theorem RP.eq (rp : RP σ ζ) (h1 : τ 1 = σ 1) (h2 : τ 2 = σ 2) : RP τ ζ := by
  unfold RP at rp ⊢
  rw [h1, h2]; exact rp
theorem RV.eq {o' : Nat} (rv : RV σ o V) (h1 : τ 1 = σ 1) (h2 : τ o' = σ o) : RV τ o' V := by
  unfold RV at rv ⊢
  rw [h1, h2]; exact rv
theorem RV.ext (rv : RV σ o V) (h : ∀ k, k < 26 → W k = V k) (hz : SaOk ζ) (rp : RP σ ζ) : RV σ o W := by
  have h5 : σ 1 5 0 ≤ 6 := by rw [← rp.1.2.2.2.2.2.1]; exact hz.2.2.2.2.2.1
  have h6 : σ 1 7 0 ≤ 5 := by rw [← rp.1.2.2.2.2.2.2.1]; exact hz.2.2.2.2.2.2.1
  obtain ⟨r1, r2, r3, r4, r5⟩ := rv
  refine ⟨fun s hs => ?_, fun a ha hd => ?_, ?_, ?_, ?_⟩
  · rw [h s (by omega), h (6 + s) (by omega), h (12 + s) (by omega)]; exact r1 s hs
  · rw [h (18 + a) (by omega)]; exact r2 a ha hd
  · rw [h 23 (by omega)]; exact r3
  · rw [h 24 (by omega)]; exact r4
  · rw [h 25 (by omega)]; exact r5
theorem XOk.ext (hv : XOk V) (h : ∀ k, k < 26 → W k = V k) (h2 : ∀ k, 26 ≤ k → W k = 0) : XOk W := by
  obtain ⟨x0, x6, x12, x18, x24, x25, x26⟩ := hv
  refine ⟨fun k hk => ?_, fun k hk => ?_, fun k hk => ?_, fun k hk => ?_, ?_, ?_, h2⟩
  · rw [h k (by omega)]; exact x0 k hk
  · rw [h _ (by omega)]; exact x6 k hk
  · rw [h _ (by omega)]; exact x12 k hk
  · rw [h _ (by omega)]; exact x18 k hk
  · rw [h _ (by omega)]; exact x24
  · rw [h _ (by omega)]; exact x25
theorem cpV_hi (R : Nat → Nat) (d : Nat) : ∀ k, 26 ≤ k → cpV R d k = 0 := fun k hk => by unfold cpV; rw [if_neg (by omega)]
/-- where the j-th of the moments that can be undone lies -/
def rgI (c n j : Nat) : Nat := 10 + (n + 16 - c + j) % 16
def RA (σ : sT) (ζ : Nat → Nat → Nat) (V P K : Nat → Nat) (c i : Nat) : Prop := (RP σ ζ ∧ SaOk ζ ∧ sOk σ ∧ sZ σ) ∧ (RV σ 3 V ∧ XOk V) ∧ (c = σ 4 0 0 ∧ c ≤ 16 ∧ σ 4 1 0 < 16 ∧ ∀ j, j < c → RV σ (rgI c (σ 4 1 0) j) (cpV P j) ∧ XOk (cpV P j)) ∧ (i = σ 0 5 0 ∧ i ≤ 3 ∧ ∀ j, j < i → RV σ (30 + j) (cpV K j) ∧ XOk (cpV K j))
theorem rgI_bd (c n j : Nat) : 10 ≤ rgI c n j ∧ rgI c n j < 26 := by unfold rgI; omega
theorem sTr_sok {t : Nat} (h : sOk σ) (ht : t < 64) : sOk (sTr σ t) := by
  obtain ⟨a, b, c⟩ := h
  have e1 : sTr σ t 1 = σ 1 := sTr_o (by decide)
  refine ⟨by unfold fI at a ⊢; rw [e1]; exact a, by rw [e1]; exact b, fun o ho => ?_⟩
  by_cases h0 : o = 0
  · subst h0
    obtain ⟨c0, c1, c2, c3, c4, c5, c6⟩ := c 0 (by decide)
    exact ⟨c0, c1, c2, c3, c4, c5, fun k => by simp only [sTr]; split; exact ht; exact c6 k⟩
  · have := c o ho
    unfold fI at this ⊢
    rw [sTr_o h0]; exact this
theorem sTr_sz {t : Nat} (hz : sZ σ) : sZ (sTr σ t) := fun o ho k n hk => by
  simp only [sTr]
  rw [if_neg (by omega)]; exact hz o ho k n hk
theorem RA.tr {t : Nat} (ra : RA σ ζ V P K c i) (ht : t < 64) : RA (sTr σ t) ζ V P K c i := by
  obtain ⟨⟨a1, a2, a3, a4⟩, ⟨b1, b2⟩, ⟨c1, c2, c3, c4⟩, d1, d2, d3⟩ := ra
  have e : ∀ o, o ≠ 0 → sTr σ t o = σ o := fun o ho => sTr_o ho
  refine ⟨⟨a1.eq (e 1 (by decide)) (e 2 (by decide)), a2, sTr_sok a3 ht, sTr_sz a4⟩, ⟨b1.eq (e 1 (by decide)) (e 3 (by decide)), b2⟩, ⟨by rw [e 4 (by decide)]; exact c1, c2, by rw [e 4 (by decide)]; exact c3, fun j hj => ?_⟩, d1, d2, fun j hj => ?_⟩
  · have := rgI_bd c (σ 4 1 0) j
    rw [e 4 (by decide)]
    exact ⟨(c4 j hj).1.eq (e 1 (by decide)) (e _ (by omega)), (c4 j hj).2⟩
  · exact ⟨(d3 j hj).1.eq (e 1 (by decide)) (e _ (by omega)), (d3 j hj).2⟩
/-- the present moment alone is another one -/
theorem RA.now (ra : RA σ ζ V P K c i) (e : ∀ o, o ≠ 3 → τ o = σ o) (hok : sOk τ) (hz : sZ τ) (rv : RV τ 3 W) (hx : XOk W) : RA τ ζ W P K c i := by
  obtain ⟨⟨a1, a2, a3, a4⟩, ⟨b1, b2⟩, ⟨c1, c2, c3, c4⟩, d1, d2, d3⟩ := ra
  refine ⟨⟨a1.eq (e 1 (by decide)) (e 2 (by decide)), a2, hok, hz⟩, ⟨rv, hx⟩, ⟨by rw [e 4 (by decide)]; exact c1, c2, by rw [e 4 (by decide)]; exact c3, fun j hj => ?_⟩, by rw [e 0 (by decide)]; exact d1, d2, fun j hj => ?_⟩
  · have := rgI_bd c (σ 4 1 0) j
    rw [e 4 (by decide)]
    exact ⟨(c4 j hj).1.eq (e 1 (by decide)) (e _ (by omega)), (c4 j hj).2⟩
  · exact ⟨(d3 j hj).1.eq (e 1 (by decide)) (e _ (by omega)), (d3 j hj).2⟩
theorem sKeep_z (hz : sZ σ) : sZ (sKeep σ) := by
  unfold sKeep
  exact sUn_z (sCp_z hz (by decide) (by omega))
theorem sKeep_o (ho : o ≠ 4) (h2 : o ≠ 10 + σ 4 1 0) : sKeep σ o = σ o := by unfold sKeep; rw [sUn_ne _ ho, sCp_ne _ h2]
theorem sKeep_n : sKeep σ (10 + σ 4 1 0) = σ 3 := by unfold sKeep; rw [sUn_ne _ (by omega), sCp_self]
theorem RA.keep {ρ : Nat → Nat → Nat} (ra : RA σ ζ (ρ 2) (ρ 4) K c i) : RA (sKeep σ) ζ (ρ 2) (mRm ρ c) K (min c 15 + 1) i := by
  obtain ⟨⟨a1, a2, a3, a4⟩, ⟨b1, b2⟩, ⟨c1, c2, c3, c4⟩, d1, d2, d3⟩ := ra
  have k4 : sKeep σ 4 0 0 = min (σ 4 0 0 + 1) 16 ∧ sKeep σ 4 1 0 = (σ 4 1 0 + 1) % 16 := by unfold sKeep sUn; simp
  have e1 : sKeep σ 1 = σ 1 := sKeep_o (by decide) (by omega)
  have rv : ∀ j, j < min c 15 + 1 → ∃ o U, RV σ o U ∧ XOk U ∧ (∀ k, k < 26 → cpV (mRm ρ c) j k = U k) ∧ sKeep σ (rgI (min c 15 + 1) ((σ 4 1 0 + 1) % 16) j) = σ o := fun j hj => by
    by_cases e : j = min c 15
    · refine ⟨3, ρ 2, b1, b2, fun k hk => ?_, ?_⟩
      · unfold cpV mRm
        rw [if_pos hk]
        by_cases h16 : c = 16
        · rw [if_pos h16]; simp only [mRe]; rw [if_pos (by omega), show 26 * j + k - 26 * 15 = k by omega]
        · rw [if_neg h16]; simp only [mRe]; rw [if_pos (by omega), show 26 * j + k - 26 * c = k by omega]
      · have : rgI (min c 15 + 1) ((σ 4 1 0 + 1) % 16) j = 10 + σ 4 1 0 := by unfold rgI; omega
        rw [this, sKeep_n]
    · by_cases h16 : c = 16
      · obtain ⟨q1, q2⟩ := c4 (j + 1) (by omega)
        refine ⟨rgI c (σ 4 1 0) (j + 1), _, q1, q2, fun k hk => ?_, ?_⟩
        · unfold cpV mRm
          rw [if_pos hk, if_pos hk, if_pos h16]
          simp only [mRe, mSh]
          rw [if_neg (by omega), if_pos (by omega)]
          congr 1; omega
        · rw [sKeep_o (by unfold rgI; omega) (by unfold rgI; omega)]
          congr 1
          unfold rgI; omega
      · obtain ⟨q1, q2⟩ := c4 j (by omega)
        refine ⟨rgI c (σ 4 1 0) j, _, q1, q2, fun k hk => ?_, ?_⟩
        · unfold cpV mRm
          rw [if_pos hk, if_pos hk, if_neg h16]
          simp only [mRe]
          rw [if_neg (by omega)]
        · rw [sKeep_o (by unfold rgI; omega) (by unfold rgI; omega)]
          congr 1
          unfold rgI; omega
  refine ⟨⟨a1.eq e1 (sKeep_o (by decide) (by omega)), a2, sKeep_ok a3, sKeep_z a4⟩, ⟨b1.eq e1 (sKeep_3 σ), b2⟩, ⟨by rw [k4.1]; omega, by omega, by rw [k4.2]; omega, fun j hj => ?_⟩, by rw [sKeep_o (by decide) (by omega)]; exact d1, d2, fun j hj => ?_⟩
  · obtain ⟨o, U, q1, q2, q3, q4⟩ := rv j hj
    rw [k4.2]
    exact ⟨(q1.ext q3 a2 a1).eq e1 q4, q2.ext q3 (cpV_hi _ _)⟩
  · exact ⟨(d3 j hj).1.eq e1 (sKeep_o (by omega) (by omega)), (d3 j hj).2⟩
theorem sI_z {k v : Nat} (hz : sZ σ) (hk : k < 3) : sZ (sI σ k v) := fun o ho f n hf => by
  simp only [sI]
  rw [if_neg (by omega)]; exact hz o ho f n hf
/-- what an act does on both sides -/
def actOk (σ' : sT) (σ : sT) (ζ : Nat → Nat → Nat) (rv : Value) (m : Nat → Int) (ad : Nat → Nat) (h : ssH) (v : Value) (Q : Option Value → ssH → Prop) : Prop := ∃ (t : Nat) (V P K : Nat → Nat) (c i : Nat), Q = mA ζ rv m ad h ↑t V P K ↑c ↑i v ∧ RA σ' ζ V P K c i ∧ σ' 0 6 0 = t ∧ σ' 0 7 0 = σ 0 7 0 ∧ σ' 0 8 0 = σ 0 8 0
theorem actOk.no {ρ : Nat → Nat → Nat} {rv : Value} {m : Nat → Int} {ad : Nat → Nat} {h : ssH} {v : Value} {Q : Option Value → ssH → Prop} (t : Nat) (ra : RA σ ζ (ρ 2) (ρ 4) (ρ 5) c i) (hc : m 19 = ↑c) (hi : m 20 = ↑i) (ht : t < 64) (hQ : Q = mA ζ rv m ad h ↑t (ρ 2) (ρ 4) (ρ 5) (m 19) (m 20) v) : actOk (sTr σ t) σ ζ rv m ad h v Q :=
  ⟨t, ρ 2, ρ 4, ρ 5, c, i, by rw [hQ, hc, hi], ra.tr ht, by simp [sTr], by simp [sTr], by simp [sTr]⟩
theorem actOk.yes {rv : Value} {m : Nat → Int} {ad : Nat → Nat} {h : ssH} {v : Value} {Q : Option Value → ssH → Prop} (ra : RA τ ζ V P K c i) (e : τ 0 7 0 = σ 0 7 0 ∧ τ 0 8 0 = σ 0 8 0) (hQ : Q = mA ζ rv m ad h 0 V P K ↑c ↑i v) : actOk (sTr τ 0) σ ζ rv m ad h v Q :=
  ⟨0, V, P, K, c, i, hQ, ra.tr (by decide), by simp [sTr], by simp [sTr, e.1], by simp [sTr, e.2]⟩
section EACT
variable {ρ : Nat → Nat → Nat} {rv : Value} {m : Nat → Int} {ad : Nat → Nat} {h : ssH}
theorem zb_v (b : Bool) : zb b = if b = true then zI 1 else zI 0 := by cases b <;> rfl
theorem e_salt (ra : RA σ ζ (ρ 2) (ρ 4) (ρ 5) c i) (hc : m 19 = ↑c) (hi : m 20 = ↑i) (s : Int) : actOk (tSalt σ s).2 σ ζ rv m ad h (.int (zb (tSalt σ s).1)) (bSaltP ζ rv m ρ ad h c s) := by
  have p5 := ra.1.1.1.2.2.2.2.2.1
  have h5 : ζ 5 0 ≤ 6 := ra.1.2.1.2.2.2.2.2.1
  unfold tSalt bSaltP
  by_cases q1 : s < 0 ∨ ↑(σ 1 5 0) ≤ s
  · rw [if_pos q1, if_pos (by omega)]
    exact actOk.no 1 ra hc hi (by decide) rfl
  · have hq1 : ¬ ¬ (0 ≤ s ∧ s < ↑(ζ 5 0)) := by omega
    rw [if_neg q1, if_neg hq1]
    obtain ⟨v1, v2, v3, v4⟩ := ra.2.1.1.1 s.toNat (by omega)
    rw [v2, v3, ra.2.1.1.2.2.2.1]
    by_cases q2 : σ 3 3 s.toNat = 1 ∨ σ 3 5 s.toNat = 0
    · rw [if_pos q2, if_pos q2]
      exact actOk.no 5 ra hc hi (by decide) rfl
    · rw [if_neg q2, if_neg q2]
      by_cases q3 : σ 3 1 0 = 0
      · rw [if_pos q3, if_pos q3]
        exact actOk.no 6 ra hc hi (by decide) rfl
      · rw [if_neg q3, if_neg q3]
        have rk := ra.keep
        have h9 := (ra.1.2.2.1.2.2 3 (by decide)).2.1
        unfold fI at h9
        obtain ⟨w1, w2, w3, w4, w5⟩ := rk.2.1.1
        obtain ⟨x0, x6, x12, x18, x24, x25, x26⟩ := ra.2.1.2
        have k1 := sKeep_1 σ
        have k3 := sKeep_3 σ
        refine actOk.yes (rk.now (fun o ho => by rw [sI_ne _ ho, sA_ne _ ho]) (sI_ok (sA_ok3 rk.1.2.2.1 (by decide)) (by decide) (by omega) (by omega) (by omega)) (sI_z (sA_z rk.1.2.2.2 (by omega)) (by decide)) ?_ ?_) ?_ (by rw [hi]; rfl)
        · have e1 : sI (sA (sKeep σ) 3 s.toNat 1) 1 (σ 3 1 0 - 1) 1 = σ 1 := by rw [sI_ne _ (by decide), sA_ne _ (by decide), k1]
          unfold RV
          rw [e1]
          rw [k1, k3] at w1 w2
          rw [k3] at w3 w4 w5
          refine ⟨fun t ht => ?_, fun a ha hd => ?_, ?_, ?_, ?_⟩
          · obtain ⟨u1, u2, u3, u4⟩ := w1 t ht
            rw [sI_row (f := 4) _ (by decide), sI_row (f := 3) _ (by decide), sI_row (f := 5) _ (by decide), sA_row (f := 4) _ (by decide), sA_row (f := 5) _ (by decide), sA_self, k3]
            refine ⟨?_, ?_, ?_, u4⟩
            · show (if t = 24 then _ else if t = 6 + s.toNat then 1 else ρ 2 t) = _
              rw [if_neg (by omega), if_neg (by omega)]; exact u1
            · show (if 6 + t = 24 then _ else if 6 + t = 6 + s.toNat then 1 else ρ 2 (6 + t)) = if t = s.toNat then 1 else σ 3 3 t
              rw [if_neg (by omega)]
              by_cases e : t = s.toNat
              · rw [if_pos (by omega), if_pos e]
              · rw [if_neg (by omega), if_neg e]; exact u2
            · show (if 12 + t = 24 then _ else if 12 + t = 6 + s.toNat then 1 else ρ 2 (12 + t)) = _
              rw [if_neg (by omega), if_neg (by omega)]; exact u3
          · rw [sI_row _ (by decide), sA_row _ (by decide), k3] at hd
            rw [sI_row _ (by decide), sA_row _ (by decide), k3]
            show (if 18 + a = 24 then _ else if 18 + a = 6 + s.toNat then 1 else ρ 2 (18 + a)) = _
            have h7 : σ 1 7 0 ≤ 5 := by rw [← ra.1.1.1.2.2.2.2.2.2.1]; exact ra.1.2.1.2.2.2.2.2.2.1
            rw [if_neg (by omega), if_neg (by omega)]; exact w2 a ha hd
          · rw [sI_row _ (by decide), sA_row _ (by decide), k3]
            show (if 23 = 24 then _ else if 23 = 6 + s.toNat then 1 else ρ 2 23) = _
            rw [if_neg (by omega), if_neg (by omega)]; exact w3
          · simp [sI]
          · rw [sI_row _ (by decide), sA_row _ (by decide), k3]
            show (if 25 = 24 then _ else if 25 = 6 + s.toNat then 1 else ρ 2 25) = _
            rw [if_neg (by omega), if_neg (by omega)]; exact w5
        · refine ⟨fun k hk => ?_, fun k hk => ?_, fun k hk => ?_, fun k hk => ?_, ?_, ?_, fun k hk => ?_⟩
          · show (if k = 24 then _ else if k = 6 + s.toNat then 1 else ρ 2 k) < 6
            rw [if_neg (by omega), if_neg (by omega)]; exact x0 k hk
          · show (if 6 + k = 24 then _ else if 6 + k = 6 + s.toNat then 1 else ρ 2 (6 + k)) ≤ 2
            have := x6 k hk
            rw [if_neg (by omega)]; split <;> omega
          · show (if 12 + k = 24 then _ else if 12 + k = 6 + s.toNat then 1 else ρ 2 (12 + k)) ≤ 99
            rw [if_neg (by omega), if_neg (by omega)]; exact x12 k hk
          · show (if 18 + k = 24 then _ else if 18 + k = 6 + s.toNat then 1 else ρ 2 (18 + k)) < 64
            rw [if_neg (by omega), if_neg (by omega)]; exact x18 k hk
          · show (if 24 = 24 then σ 3 1 0 - 1 else _) ≤ 9
            rw [if_pos rfl]; omega
          · show (if 25 = 24 then _ else if 25 = 6 + s.toNat then 1 else ρ 2 25) ≤ 65536
            rw [if_neg (by omega), if_neg (by omega)]; exact x25
          · show (if k = 24 then _ else if k = 6 + s.toNat then 1 else ρ 2 k) = 0
            rw [if_neg (by omega), if_neg (by omega)]; exact x26 k hk
        · have e0 : sI (sA (sKeep σ) 3 s.toNat 1) 1 (σ 3 1 0 - 1) 0 = σ 0 := by rw [sI_ne _ (by decide), sA_ne _ (by decide), sKeep_o (by decide) (by omega)]
          rw [e0]; exact ⟨rfl, rfl⟩
theorem e_seed (ra : RA σ ζ (ρ 2) (ρ 4) (ρ 5) c i) (hc : m 19 = ↑c) (hi : m 20 = ↑i) (s : Int) : actOk (tSeed σ s).2 σ ζ rv m ad h (.int (zb (tSeed σ s).1)) (bSeedP ζ rv m ρ ad h s) := by
  unfold tSeed bSeedP
  rw [if_neg (r_told ra.1.1)]
  by_cases q1 : s < 0 ∨ 65536 < s
  · rw [if_pos q1, if_pos (by omega)]
    exact actOk.no 2 ra hc hi (by decide) rfl
  · rw [if_neg q1, if_neg (by omega)]
    refine actOk.yes (ra.now (W := mX25 (ρ 2) s.toNat) (τ := sI σ 2 s.toNat) (fun o ho => sI_ne _ ho) (sI_ok ra.1.2.2.1 (by decide) (by omega) (by omega) (by omega)) (sI_z ra.1.2.2.2 (by decide)) ?_ (mX25_ok ra.2.1.2 (by omega))) ?_ (by rw [hc, hi]; rfl)
    · obtain ⟨w1, w2, w3, w4, w5⟩ := ra.2.1.1
      have h7 : σ 1 7 0 ≤ 5 := by rw [← ra.1.1.1.2.2.2.2.2.2.1]; exact ra.1.2.1.2.2.2.2.2.2.1
      have h5 : σ 1 5 0 ≤ 6 := by rw [← ra.1.1.1.2.2.2.2.2.1]; exact ra.1.2.1.2.2.2.2.2.1
      unfold RV
      rw [sI_ne _ (by decide), sI_row _ (by decide), sI_row _ (by decide), sI_row _ (by decide), sI_row _ (by decide), sI_row _ (by decide), sI_row _ (by decide)]
      refine ⟨fun t ht => ?_, fun a ha hd => ?_, w3, w4, by simp [sI, mX25]⟩
      · unfold mX25
        rw [if_neg (by omega), if_neg (by omega), if_neg (by omega)]; exact w1 t ht
      · unfold mX25
        rw [if_neg (by omega)]; exact w2 a ha hd
    · rw [sI_ne _ (by decide)]; exact ⟨rfl, rfl⟩
theorem e_undo (ra : RA σ ζ (ρ 2) (ρ 4) (ρ 5) c i) (hc : m 19 = ↑c) (hi : m 20 = ↑i) : actOk (tUndo σ).2 σ ζ rv m ad h (.int (zb (tUndo σ).1)) (bUndoP ζ rv m ρ ad h c) := by
  obtain ⟨⟨a1, a2, a3, a4⟩, ⟨b1, b2⟩, ⟨c1, c2, c3, c4⟩, d1, d2, d3⟩ := id ra
  unfold tUndo bUndoP
  rw [← c1]
  by_cases q1 : c = 0
  · rw [if_pos q1, if_pos q1]
    exact actOk.no 6 ra hc hi (by decide) rfl
  · rw [if_neg q1, if_neg q1]
    have e : ∀ o, o ≠ 3 → o ≠ 4 → sRest σ o = σ o := fun o h1 h2 => by unfold sRest; rw [sCp_ne _ h1, sUn_ne _ h2]
    have e3 : sRest σ 3 = σ (10 + (σ 4 1 0 + 15) % 16) := by unfold sRest; rw [sCp_self, sUn_ne _ (by omega)]
    have k4 : sRest σ 4 0 0 = σ 4 0 0 - 1 ∧ sRest σ 4 1 0 = (σ 4 1 0 + 15) % 16 := by
      unfold sRest; rw [sCp_ne _ (by decide)]; simp [sUn]
    have hl := c4 (c - 1) (by omega)
    have hr : rgI c (σ 4 1 0) (c - 1) = 10 + (σ 4 1 0 + 15) % 16 := by unfold rgI; omega
    refine actOk.yes (τ := sRest σ) (V := cpV (ρ 4) (c - 1)) (P := ρ 4) (K := ρ 5) (c := c - 1) (i := i) ⟨⟨a1.eq (e 1 (by decide) (by decide)) (e 2 (by decide) (by decide)), a2, sRest_ok a3, ?_⟩, ⟨hl.1.eq (e 1 (by decide) (by decide)) (by rw [e3, hr]), hl.2⟩, ⟨by rw [k4.1]; omega, by omega, by rw [k4.2]; omega, fun j hj => ?_⟩, by rw [e 0 (by decide) (by decide)]; exact d1, d2, fun j hj => ?_⟩ (by rw [e 0 (by decide) (by decide)]; exact ⟨rfl, rfl⟩) (by rw [hi]; rfl)
    · unfold sRest
      exact sCp_z (sUn_z a4) (by omega) (by decide)
    · have hb := rgI_bd (c - 1) (sRest σ 4 1 0) j
      have hj2 := c4 j (by omega)
      have he : rgI (c - 1) (sRest σ 4 1 0) j = rgI c (σ 4 1 0) j := by rw [k4.2]; unfold rgI; omega
      exact ⟨hj2.1.eq (e 1 (by decide) (by decide)) (by rw [e _ (by omega) (by omega), he]), hj2.2⟩
    · exact ⟨(d3 j hj).1.eq (e 1 (by decide) (by decide)) (e _ (by omega) (by omega)), (d3 j hj).2⟩
theorem sX_z {v : Nat} (hz : sZ σ) : sZ (sX σ 5 v) := fun o ho f n hf => by
  simp only [sX]
  rw [if_neg (by omega)]; exact hz o ho f n hf
theorem e_image (ra : RA σ ζ (ρ 2) (ρ 4) (ρ 5) c i) (hc : m 19 = ↑c) (hi : m 20 = ↑i) : actOk (tImage σ).2 σ ζ rv m ad h (.int (zI (tImage σ).1)) (bImageP ζ rv m ρ ad h i) := by
  obtain ⟨⟨a1, a2, a3, a4⟩, ⟨b1, b2⟩, ⟨c1, c2, c3, c4⟩, d1, d2, d3⟩ := id ra
  unfold tImage bImageP
  rw [if_neg (r_told a1), ← d1]
  by_cases q1 : 3 ≤ i
  · rw [if_pos q1, if_pos (by omega)]
    exact actOk.no 3 ra hc hi (by decide) rfl
  · rw [if_neg q1, if_neg (by omega)]
    have e : ∀ o, o ≠ 0 → o ≠ 30 + i → sX (sCp σ 3 (30 + i)) 5 (i + 1) o = σ o := fun o h1 h2 => by rw [sX_ne _ h1, sCp_ne _ h2]
    have ei : sX (sCp σ 3 (30 + i)) 5 (i + 1) (30 + i) = σ 3 := by rw [sX_ne _ (by omega), sCp_self]
    have e1 := e 1 (by decide) (by omega)
    refine actOk.yes (V := ρ 2) (P := ρ 4) (K := mRe (ρ 5) (ρ 2) i 26) (c := c) (i := i + 1) ⟨⟨a1.eq e1 (e 2 (by decide) (by omega)), a2, sX_ok (sCp_ok a3 (by decide) (by omega)) (by omega), sX_z (sCp_z a4 (by decide) (by omega))⟩, ⟨b1.eq e1 (e 3 (by decide) (by omega)), b2⟩, ⟨by rw [e 4 (by decide) (by omega)]; exact c1, c2, by rw [e 4 (by decide) (by omega)]; exact c3, fun j hj => ?_⟩, by simp [sX], by omega, fun j hj => ?_⟩ ?_ (by rw [hc])
    · have := rgI_bd c (σ 4 1 0) j
      rw [e 4 (by decide) (by omega)]
      exact ⟨(c4 j hj).1.eq e1 (e _ (by omega) (by omega)), (c4 j hj).2⟩
    · by_cases ej : j = i
      · subst ej
        have h1 : ∀ k, k < 26 → cpV (mRe (ρ 5) (ρ 2) j 26) j k = ρ 2 k := fun k hk => by
          unfold cpV; rw [if_pos hk]; simp only [mRe]; rw [if_pos (by omega)]; congr 1; omega
        exact ⟨(b1.ext h1 a2 a1).eq e1 ei, b2.ext h1 (cpV_hi _ _)⟩
      · have h1 : ∀ k, k < 26 → cpV (mRe (ρ 5) (ρ 2) i 26) j k = cpV (ρ 5) j k := fun k hk => by
          unfold cpV; rw [if_pos hk, if_pos hk]; simp only [mRe]; rw [if_neg (by omega)]
        have hj2 := d3 j (by omega)
        exact ⟨(hj2.1.ext h1 a2 a1).eq e1 (e _ (by omega) (by omega)), hj2.2.ext h1 (cpV_hi _ _)⟩
    · simp only [sX]
      rw [if_neg (by omega), if_neg (by omega), sCp_ne _ (by omega)]; exact ⟨rfl, rfl⟩
theorem e_back (ra : RA σ ζ (ρ 2) (ρ 4) (ρ 5) c i) (hc : m 19 = ↑c) (hi : m 20 = ↑i) (s : Int) : actOk (tBack σ s).2 σ ζ rv m ad h (.int (zb (tBack σ s).1)) (bBackP ζ rv m ρ ad h i s) := by
  obtain ⟨⟨a1, a2, a3, a4⟩, ⟨b1, b2⟩, ⟨c1, c2, c3, c4⟩, d1, d2, d3⟩ := id ra
  unfold tBack bBackP
  rw [← d1]
  by_cases q1 : s < 0 ∨ ↑i ≤ s
  · rw [if_pos q1, if_pos q1]
    exact actOk.no 1 ra hc hi (by decide) rfl
  · rw [if_neg q1, if_neg q1]
    have e : ∀ o, o ≠ 4 → o ≠ 3 → sUn (sCp σ (30 + s.toNat) 3) 0 0 o = σ o := fun o h1 h2 => by rw [sUn_ne _ h1, sCp_ne _ h2]
    have e3 : sUn (sCp σ (30 + s.toNat) 3) 0 0 3 = σ (30 + s.toNat) := by rw [sUn_ne _ (by decide), sCp_self]
    have e1 := e 1 (by decide) (by decide)
    have hl := d3 s.toNat (by omega)
    refine actOk.yes (V := cpV (ρ 5) s.toNat) (P := ρ 4) (K := ρ 5) (c := 0) (i := i) ⟨⟨a1.eq e1 (e 2 (by decide) (by decide)), a2, sUn_ok (sCp_ok a3 (by omega) (by decide)), sUn_z (sCp_z a4 (by omega) (by decide))⟩, ⟨hl.1.eq e1 e3, hl.2⟩, ⟨by simp [sUn], by omega, by simp [sUn], fun j hj => absurd hj (by omega)⟩, by rw [e 0 (by decide) (by decide)]; exact d1, d2, fun j hj => ⟨(d3 j hj).1.eq e1 (e _ (by omega) (by omega)), (d3 j hj).2⟩⟩ (by rw [e 0 (by decide) (by decide)]; exact ⟨rfl, rfl⟩) (by rw [hi]; rfl)
end EACT
end RACTS
