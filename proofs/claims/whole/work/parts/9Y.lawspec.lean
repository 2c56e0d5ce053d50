/-! ===== the law's invariant over feed, safe, fault, where, trouble, size, led ===== -/
def fW (G : ssG) (j : Nat) : Nat → Int32
  | 0 => zI (scI G (6 * j + 1))
  | 1 => zI (scI G (6 * j + 2))
  | 2 => zI (scI G (6 * j + 3))
  | 3 => zI (scI G (6 * j + 4))
  | _ => zI (scI G (6 * j + 5))
theorem s4_ok {σ : sT} (hok : sOk σ) (τ : sT) : sOk (s4 σ τ) := tU0_ok (tU0_ok hok (Or.inr (Or.inl rfl))) (Or.inr (Or.inr rfl))
theorem s4_z {σ : sT} (hz : sZ σ) (τ : sT) : sZ (s4 σ τ) := fun o ho k n hk => by
  unfold s4 tU
  rw [if_neg (by omega), if_neg (by omega)]
  exact hz o ho k n hk
theorem s4_o {σ : sT} (τ : sT) {o : Nat} (ho : o ≠ 0) : s4 σ τ o = σ o := by
  unfold s4
  rw [tU0_o ho, tU0_o ho]
theorem RA.bad4 {σ : sT} {ζ : Nat → Nat → Nat} {V P K : Nat → Nat} {c i : Nat} (ra : RA σ ζ V P K c i) (τ : sT) : RA (s4 σ τ) ζ V P K c i := by
  obtain ⟨⟨a1, a2, a3, a4⟩, ⟨b1, b2⟩, ⟨c1, c2, c3, c4⟩, d1, d2, d3⟩ := ra
  have e : ∀ o, o ≠ 0 → s4 σ τ o = σ o := fun o ho => s4_o τ ho
  refine ⟨⟨a1.eq (e 1 (by decide)) (e 2 (by decide)), a2, s4_ok a3 τ, s4_z a4 τ⟩, ⟨b1.eq (e 1 (by decide)) (e 3 (by decide)), b2⟩, ⟨by rw [e 4 (by decide)]; exact c1, c2, by rw [e 4 (by decide)]; exact c3, fun j hj => ?_⟩, d1, d2, fun j hj => ?_⟩
  · have := rgI_bd c (σ 4 1 0) j
    rw [e 4 (by decide)]
    exact ⟨(c4 j hj).1.eq (e 1 (by decide)) (e _ (by omega)), (c4 j hj).2⟩
  · exact ⟨(d3 j hj).1.eq (e 1 (by decide)) (e _ (by omega)), (d3 j hj).2⟩
section LAWL
variable {h h1 h2 : ssH} {ad : Nat → Nat} {pl i N c k : Nat} {σ σ' τ : sT} {E : pE} {sv rv : Value} {m : Nat → Int} {ρ ζ : Nat → Nat → Nat} {B : Nat → Int} {r : Option Value} {e : Nat × Nat}
theorem LR.z (lr : LR σ m) (v : Int) : LR σ (mU m 0 v) := lr
theorem LOu.f2 (hA : ∀ k l, ad k = ad l → k = l) (ho : LOu h (ad 209)) (f : fr200 ad h h1) : LOu h1 (ad 209) := by
  obtain ⟨v, hv⟩ := ho
  exact ⟨v, by rw [f.kp hA (by omega)]; exact hv⟩
theorem LOu.set (hA : ∀ k l, ad k = ad l → k = l) (ho : LOu h (ad 209)) {k : Nat} (hk : k ≠ 209) (e : ssE) : LOu (hset h (ad k) e) (ad 209) := by
  obtain ⟨v, hv⟩ := ho
  exact ⟨v, by rw [hset_ne _ _ (ad_ne hA (fun q => hk q.symm))]; exact hv⟩
theorem LTd.f2 (hA : ∀ k l, ad k = ad l → k = l) (lt : LTd h ad σ sv rv m ρ) (f : fr200 ad h h1) : LTd h1 ad σ sv rv m ρ := by
  rcases lt with ⟨ζ, c, k, e, mt, q⟩ | q
  · exact Or.inl ⟨ζ, c, k, e, mt.ag (fun k hk _ _ => f.kp hA hk), q⟩
  · exact Or.inr q
/-- both sides refuse alike -/
theorem LI.tr (hA : ∀ k l, ad k = ad l → k = l) (ho : LOu h (ad 209)) (hl : LC h ad pl σ E τ i N) (hm : LM h ad sv rv m ρ (eB E) N) (lr : LR σ m) (lt : LTd h ad σ sv rv m ρ) {t : Nat} {t' : Int} (e : t' = ↑t) (ht : n4 t) (c1 : CW0 h1 ad pl (sTr σ t)) (f1 : frP ad pl h h1) (s : hset h1 (ad 200) (.inr (10, obM ad sv rv (mT (mU m 0 0) t'))) = h2) : LI (ad 0) (ad 200) (ad 209) h2 := by
  subst e
  have l1 := hl.step c1 f1 (K12.st σ t)
  have m1 : LM h1 ad sv rv m ρ (eB E) N := hm.f2 hA f1.1
  have lt1 := lt.f2 hA f1.1
  have b := ht.le.2
  refine LI.ob (m' := mT (mU m 0 0) ↑t) hA (ho.f2 hA f1.1) l1 m1 (LR.st (σ := σ) (σ' := sTr σ t) rfl rfl ht lr ⟨rfl, rfl, rfl⟩) rfl rfl rfl ?_ s
  rcases lt1 with ⟨ζ, c, k, e, mt, ra, q⟩ | ⟨e, u, hok, hz⟩
  · exact Or.inl ⟨ζ, c, k, e, mt, ra.tr (by omega), q⟩
  · exact Or.inr ⟨e, u.tr t, sTr_sok hok (by omega), sTr_sz hz⟩
theorem LI.feed (hA : ∀ k l, ad k = ad l → k = l) (ho : LOu h (ad 209)) (hl : LC h ad pl σ E τ i N) (hm : LM h ad sv rv m ρ (eB E) N) (lr : LR σ m) (lt : LTd h ad σ sv rv m ρ) (W : Nat → Int32) (h20 : ¬ 900 < N + 20) (s1 : hset (hset h (ad 2) (.inr (5, obE ad (eF E W N) i))) (ad 3) (arB 900 (fB (eB E) W N 20)) = h1) (s2 : hset (hset h1 (ad 200) (.inr (10, obM ad sv rv (mU (mU m 0 0) 6 ↑(N + 20))))) (ad 201) (arB 900 (fB (eB E) W N 20)) = h2) : LI (ad 0) (ad 200) (ad 209) h2 := by
  have l1 : LC h1 ad pl σ (eF E W N) τ i (N + 20) := by rw [← s1]; exact hl.feed hA W h20
  have f1 : fr200 ad h h1 := by rw [← s1]; exact ((fr200.rf ad h).set (by decide) _).set (by decide) _
  have m1 := hm.f2 hA f1
  have lt1 := lt.f2 hA f1
  have ho1 := ho.f2 hA f1
  refine ⟨ad, pl, σ, eF E W N, τ, i, N + 20, sv, rv, mU (mU m 0 0) 6 ↑(N + 20), ρ, hA, ⟨rfl, rfl, rfl⟩, ?_, ?_, by rw [← s2]; exact m1.feed hA W, lr, ?_⟩
  · rw [← s2]
    exact (ho1.set hA (by decide) _).set hA (by decide) _
  · rw [← s2]
    exact l1.ag (fun k hk => (hset_ne _ _ (ad_ne hA (by omega))).trans (hset_ne _ _ (ad_ne hA (by omega))))
  · rcases lt1 with ⟨ζ, c, k, rfl, mt, ra, q1, q2⟩ | q
    · refine Or.inl ⟨ζ, c, k, rfl, ?_, ra, q1, q2⟩
      rw [← s2]
      exact (mt.ob hA rfl).ag (fun k _ h2 _ => hset_ne _ _ (ad_ne hA h2))
    · exact Or.inr q
theorem MT.sf {rv' : Value} {m' : Nat → Int} (mt : MT h ad rv m ζ ρ) (hA : ∀ k l, ad k = ad l → k = l) (o2 : h2 (ad 200) = some (.inr (10, obM ad (.ref (ad 210)) rv' m'))) (fr : ∀ b, h b ≠ none → b ≠ ad 200 → h2 b = h b) : MT h2 ad rv' m' ζ ρ := by
  obtain ⟨⟨a1, ⟨p0, p1, p2, p3, p4, p5, p6, p7, p8, p9⟩, a3⟩, b, c, d, f, g, i, l⟩ := mt
  have K : ∀ {k : Nat} {e : ssE}, h (ad k) = some e → k ≠ 200 → h2 (ad k) = some e := fun q hk => (fr _ (by rw [q]; simp) (ad_ne hA hk)).trans q
  exact ⟨⟨o2, ⟨K p0 (by decide), K p1 (by decide), K p2 (by decide), K p3 (by decide), K p4 (by decide), K p5 (by decide), K p6 (by decide), K p7 (by decide), K p8 (by decide), K p9 (by decide)⟩, K a3 (by decide)⟩, b, K c (by decide), K d (by decide), K f (by decide), K g (by decide), K i (by decide), K l (by decide)⟩
/-- a faulty text on both sides -/
theorem LI.bad {r1 r2 : Option Value} (hA : ∀ k l, ad k = ad l → k = l) (ho : LOu h (ad 209)) (hl : LC h ad pl σ E τ i N) (hm : LM h ad sv rv m ρ (eB E) N) (lt : LTd h ad σ sv rv m ρ) (ks : KsP ad pl (33 - pl) σ E h (.inl e) r1 h1) (sf : SfP ad sv m h1 (.inl e) r2 h2) : r1 = some (.int (zI (-1))) ∧ r2 = some (.int (zI (-1))) ∧ LI (ad 0) (ad 200) (ad 209) h2 := by
  obtain ⟨k1, E', τ', j, l1, eb, t1, t2, f1⟩ := hl.sfBad hA ks
  have m1 := hm.f2 hA f1
  obtain ⟨k2, rv', m', m2, l2, ⟨e0, e1, e2, e12, e6, e19, e20⟩, fr⟩ := m1.sfBad hA l1 sf
  refine ⟨k1, k2, ad, pl, _, E', τ', j, 0, sv, rv', m', ρ, hA, ⟨rfl, rfl, rfl⟩, ?_, l2, by rw [eb]; exact m2, ⟨by rw [e1]; rfl, by rw [e12, ← t1]; rfl, by rw [e2, ← t2]; rfl, (by decide : 4 ≤ 6)⟩, ?_⟩
  · obtain ⟨v, hv⟩ := ho.f2 hA f1
    exact ⟨v, by rw [fr _ (by rw [hv]; simp) (ad_ne hA (by decide))]; exact hv⟩
  · rcases lt.f2 hA f1 with ⟨ζ, c, k, rfl, mt, ra, q1, q2⟩ | ⟨rfl, u, hok, hz⟩
    · exact Or.inl ⟨ζ, c, k, rfl, mt.sf hA m2.1 fr, (ra.bad4 τ').tr (by decide), e19.trans q1, e20.trans q2⟩
    · exact Or.inr ⟨rfl, (u.bad τ').tr 4, sTr_sok (s4_ok hok τ') (by decide), sTr_sz (s4_z hz τ')⟩
/-- a good text on both sides -/
theorem LI.good {r1 r2 : Option Value} {ζ : zT} (hA : ∀ k l, ad k = ad l → k = l) (ho : LOu h (ad 209)) (hl : LC h ad pl σ E τ i N) (hm : LM h ad sv rv m ρ (eB E) N) (lt : LTd h ad σ sv rv m ρ) (ks : KsP ad pl (33 - pl) σ E h (.inr ζ) r1 h1) (sf : SfP ad sv m h1 (.inr ζ) r2 h2) : r1 = some (.int (zI ↑(ζ 5 0))) ∧ r2 = some (.int (zI ↑(ζ 5 0))) ∧ LI (ad 0) (ad 200) (ad 209) h2 := by
  obtain ⟨k1, E', τ', j, l1, eb, cr, zo, z5, to, f1⟩ := hl.sfGood hA ks
  have m1 := hm.f2 hA f1
  have ho1 := ho.f2 hA f1
  obtain ⟨k2, -, -, bd, rv', m', ρ', b1, b2, m2, mt, r2, l2, ⟨e0, e1, e2, e12, e6, e19, e20⟩, fr⟩ := m1.sfGood hA l1 sf
  obtain ⟨v, hv⟩ := ho1
  refine ⟨k1, k2, bd, _, _, E', _, j, 0, _, rv', m', ρ', b1, ⟨b2 0 (by decide) (l1.live (by decide)), b2 200 (by decide) (m1.live (by decide) (by decide)), b2 209 (by decide) (by rw [hv]; simp)⟩, ⟨v, ?_⟩, l2, by rw [eb]; exact m2, ⟨by rw [e1]; rfl, ?_, by rw [e2]; rfl, (by decide : 0 ≤ 6)⟩, Or.inl ⟨ζ, 0, 0, rfl, mt, ?_, e19, e20⟩⟩
  · rw [fr _ (by rw [hv]; simp) (ad_ne hA (by decide)) (fun k hk => ad_ne hA (by omega))]
    exact hv
  · rw [e12, show sSf σ τ' 0 7 0 = τ' 5 1 0 from rfl, cr.1.2.2.2.2.2.2.2]; rfl
  · rw [r2]
    exact sSf_RA cr zo to z5 lt.ok lt.z _ _
end LAWL
