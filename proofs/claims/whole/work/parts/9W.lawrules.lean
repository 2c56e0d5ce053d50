/-! ===== the law's own rules, and what it keeps ===== -/
section LAWR
variable {G : ssG} {M My : ssM} {D mc ms : Nat} {Q Q1 : Option Value → ssH → Prop} {pc pc' : Nat} {ls : List (Option Value)} {st As rest : List Value} {h : ssH} {r0 : List Nat} {v0 : Value}
theorem ssV.wk {mc' ms' : Nat} (k : ssV G M D mc' ms' Q pc ls st h) (h1 : mc' ≤ mc) (h2 : ms' ≤ ms) : ssV G M D mc ms Q pc ls st h := by
  intro p e s m args below meth c R H locs cells slots MC MS la hC hR hW hS hL
  exact k p e s m args below meth c R H locs cells slots MC MS la hC ⟨hR.1, hR.2.1, by omega, hR.2.2.2.1, by omega, hR.2.2.2.2.2⟩ hW hS hL
def scI (G : ssG) (k : Nat) : Int := (zI ↑(gV G (30 + k))).toInt
theorem scI_z (G : ssG) (k : Nat) : zI (scI G k) = zI ↑(gV G (30 + k)) := Int32.ofInt_toInt _
theorem scI_bd (G : ssG) (k : Nat) : -2147483648 ≤ scI G k ∧ scI G k < 2147483648 := ⟨Int32.le_toInt _, Int32.toInt_lt _⟩
theorem v_scr {x : Int32} (hl : ssLk M pc = some (.iaload, 1, r0, v0)) (i : Nat) (hx : x = zI ↑i) (hi : i < gV G 24) (hb : gV G 24 ≤ 3072) (kk : ssV G M D mc ms Q (pc + 1) ls (.int (zI (scI G i)) :: st) h) : ssV G M D mc ms Q pc ls (.int x :: .ref (gV G 23) :: st) h := by
  intro p e s m args below meth c R H locs cells slots MC MS la hC hR hW hS hL
  have hok := hC.2.2.2.2.2.2.2.2.2.2.2
  have hX := hC.2.2.2.2.2.2.2.2.2.1
  obtain ⟨cell, c1, c2, c3, c4, c5, c6, c7⟩ := hX.2.2.1.2.2.2.2
  have c8 : gV G 23 < s.heap.size := (Array.getElem?_eq_some_iff.mp c1).1
  have c9 : H[gV G 23]? = some cell := (hS.2.1 _ c8 c7).trans c1
  have hcl : x.toNatClampNeg = i := by rw [hx]; exact zI_clamp (by omega)
  have hvi : vp_in x (gV G 24) := by rw [hx]; exact zI_in hi (by omega)
  refine W.iald hC.1 hC.2.1 c9 c2 c3 (v := .int (zI (scI G i))) (fun q => hvi (q.imp id (fun z => Nat.le_trans c4 z))) ?_ rfl rfl (ssLk_ok hok hl).1 (kk p e s m args below meth c R H locs cells slots MC MS la hC hR hW hS hL)
  rw [hcl, c6 i hi, scI_z]
theorem v_slen (hl : ssLk M pc = some (.arraylength, 1, r0, v0)) (kk : ssV G M D mc ms Q (pc + 1) ls (.int (zI ↑(gV G 24)) :: st) h) : ssV G M D mc ms Q pc ls (.ref (gV G 23) :: st) h := by
  intro p e s m args below meth c R H locs cells slots MC MS la hC hR hW hS hL
  have hok := hC.2.2.2.2.2.2.2.2.2.2.2
  have hX := hC.2.2.2.2.2.2.2.2.2.1
  obtain ⟨cell, c1, c2, c3, c4, c5, c6, c7⟩ := hX.2.2.1.2.2.2.2
  have c8 : gV G 23 < s.heap.size := (Array.getElem?_eq_some_iff.mp c1).1
  have c9 : H[gV G 23]? = some cell := (hS.2.1 _ c8 c7).trans c1
  exact W.alen hC.1 hC.2.1 c9 c2 (c5.trans (nI_zI _)) rfl rfl (ssLk_ok hok hl).1 (kk p e s m args below meth c R H locs cells slots MC MS la hC hR hW hS hL)
theorem v_arg (k : Int) (j i : Nat) (hr : srun M 4 pc ls st = some (pc', ls, .int (zI ↑j + zI k) :: .ref (gV G 23) :: st)) (hl : ssLk M pc' = some (.iaload, 1, r0, v0)) (hi : (↑j : Int) + k = ↑i) (hi2 : i < gV G 24) (hb : gV G 24 ≤ 3072) (kk : ssV G M D mc ms Q (pc' + 1) ls (.int (zI (scI G i)) :: st) h) : ssV G M D mc ms Q pc ls st h :=
  v_run 4 hr (v_scr hl i (by rw [zI_add, hi]) hi2 hb kk)
theorem v_bit {y : Int} (hy : -2147483648 ≤ y ∧ y < 2147483648) {off : Int} (hl : ssLk M pc = some (.ifCond .eq off, 3, [pc + 7], v0)) (h1 : srun M 2 (pc + 3) ls st = some (pc + 8, ls, .int (zI 1) :: st)) (h2 : srun M 1 (pc + 7) ls st = some (pc + 8, ls, .int (zI 0) :: st)) (kk : ssV G M D mc ms Q (pc + 8) ls (.int (zb (decide (y ≠ 0))) :: st) h) : ssV G M D mc ms Q pc ls (.int (zI y) :: st) h := by
  refine v_if_eq hl (fun c => ?_) (fun c => ?_)
  · rw [zI_eq0 hy.1 hy.2] at c
    refine v_run 1 h2 ?_
    rw [show zb (decide (y ≠ 0)) = zI 0 from by simp [c, zb]] at kk
    exact kk
  · rw [zI_eq0 hy.1 hy.2] at c
    refine v_run 2 h1 ?_
    rw [show zb (decide (y ≠ 0)) = zI 1 from by simp [c, zb]] at kk
    exact kk
theorem v_callV0 {i n pl b D1 ci : Nat} {fs : List Value} {r : vw_C} (hl : ssLk M pc = some (.invokevirtual i, 3, [n, pl, 0], v0)) (hca : ssCa My = true) (hmn : ssPl My 6 = n) (h40 : ssPl My 4 = 0) (hni : ssPl My 7 = 0) (he : h b = some (.inr (ci, fs))) (hr : vwCl[ci]? = some r) (hrc : r.1 = (ssY My).cls) (hc : ssC G My D1 0 0 (.ref b :: As) h Q1) (hAs : ssPl My 5 = As.length) (hst : st = As.reverse ++ .ref b :: rest) (hcat : (rest.map fun v => v.category).sum ≤ 8) (hD : D1 + 1 ≤ D)
    (kk : ∀ r h', Q1 r h' → ssV G M D mc ms Q (pc + 3) ls (r.toList ++ rest) h') : ssV G M D mc ms Q pc ls st h := by
  have := v_callV (mc := mc) (ms := ms) hl hca hmn h40 hni he hr hrc hc hAs hst hcat hD kk
  rwa [Nat.zero_add, Nat.zero_add] at this
end LAWR
theorem n4.le {t : Nat} (h : n4 t) : t ≠ 4 ∧ t ≤ 6 := h
def LR (σ : sT) (m : Nat → Int) : Prop := m 1 = ↑(σ 0 6 0) ∧ m 12 = ↑(σ 0 7 0) ∧ m 2 = aWhere σ ∧ σ 0 6 0 ≤ 6
def LTd (h : ssH) (ad : Nat → Nat) (σ : sT) (sv rv : Value) (m : Nat → Int) (ρ : Nat → Nat → Nat) : Prop := (∃ ζ c k, sv = .ref (ad 210) ∧ MT h ad rv m ζ ρ ∧ RA σ ζ (ρ 2) (ρ 4) (ρ 5) c k ∧ m 19 = ↑c ∧ m 20 = ↑k) ∨ (sv = .null ∧ UT σ ∧ sOk σ ∧ sZ σ)
def LOu (h : ssH) (ao : Nat) : Prop := ∃ v : Nat → Int64, h ao = some (.inl (2, 1, .inr (.inl v)))
def LI (ax am ao : Nat) (h : ssH) : Prop := ∃ (ad : Nat → Nat) (pl : Nat) (σ : sT) (E : pE) (τ : sT) (i N : Nat) (sv rv : Value) (m : Nat → Int) (ρ : Nat → Nat → Nat), (∀ k l, ad k = ad l → k = l) ∧ (ad 0 = ax ∧ ad 200 = am ∧ ad 209 = ao) ∧ LOu h ao ∧ LC h ad pl σ E τ i N ∧ LM h ad sv rv m ρ (eB E) N ∧ LR σ m ∧ LTd h ad σ sv rv m ρ
section LAWJ
variable {h h1 h2 : ssH} {ad : Nat → Nat} {pl i N c k : Nat} {σ σ' τ : sT} {E : pE} {sv rv : Value} {m : Nat → Int} {ρ ζ : Nat → Nat → Nat} {B : Nat → Int}
theorem SafAt.ag {b : Nat} (hs : SafAt h ad b ζ) (e : ∀ k, b ≤ k → k < b + 10 → h1 (ad k) = h (ad k)) : SafAt h1 ad b ζ := by
  obtain ⟨a0, a1, a2, a3, a4, a5, a6, a7, a8, a9⟩ := hs
  exact ⟨(e _ (by omega) (by omega)).trans a0, (e _ (by omega) (by omega)).trans a1, (e _ (by omega) (by omega)).trans a2, (e _ (by omega) (by omega)).trans a3, (e _ (by omega) (by omega)).trans a4, (e _ (by omega) (by omega)).trans a5, (e _ (by omega) (by omega)).trans a6, (e _ (by omega) (by omega)).trans a7, (e _ (by omega) (by omega)).trans a8, (e _ (by omega) (by omega)).trans a9⟩
theorem MT.ag (ht : MT h ad rv m ζ ρ) (e : ∀ k, 200 ≤ k → k ≠ 201 → k ≠ 209 → h1 (ad k) = h (ad k)) : MT h1 ad rv m ζ ρ := by
  obtain ⟨⟨a1, a2, a3⟩, b, c, d, f, g, i, l⟩ := ht
  exact ⟨⟨(e 200 (by omega) (by omega) (by omega)).trans a1, a2.ag (fun k h1 h2 => e k (by omega) (by omega) (by omega)), (e 203 (by omega) (by omega) (by omega)).trans a3⟩, b, (e 202 (by omega) (by omega) (by omega)).trans c, (e 204 (by omega) (by omega) (by omega)).trans d, (e 205 (by omega) (by omega) (by omega)).trans f, (e 206 (by omega) (by omega) (by omega)).trans g, (e 207 (by omega) (by omega) (by omega)).trans i, (e 208 (by omega) (by omega) (by omega)).trans l⟩
theorem fr200.kp (hA : ∀ k l, ad k = ad l → k = l) (f : fr200 ad h h1) {k : Nat} (hk : 200 ≤ k) : h1 (ad k) = h (ad k) := f _ (fun l hl => ad_ne hA (by omega))
theorem frM.kp (hA : ∀ k l, ad k = ad l → k = l) (f : frM ad h h1) {k : Nat} (hk : k < 200 ∨ k = 201 ∨ 209 ≤ k) : h1 (ad k) = h (ad k) := f _ (ad_ne hA (by omega)) (fun l hl => ad_ne hA (by omega))
/-- the class's side after a question or an act -/
theorem LC.step (hl : LC h ad pl σ E τ i N) (c1 : CW0 h1 ad pl σ') (f1 : frP ad pl h h1) (k12 : K12 σ' σ) : LC h1 ad pl σ' E τ i N := by
  obtain ⟨a1, a2, a3, a4, a5, a6, a7, a8⟩ := hl
  have a0 := a1.1
  exact ⟨c1, a2.ag (fun k hk => f1.2 k (by omega)), a3, k12.tp a4, a5, a6, a7, (f1.2 149 (by omega)).trans a8⟩
theorem LM.mt (hA : ∀ k l, ad k = ad l → k = l) (hm : LM h ad sv rv m ρ B N) {ρ' : Nat → Nat → Nat} {m' : Nat → Int} (mt : MT h2 ad rv m' ζ ρ') (f : frM ad h h2) (h6 : m' 6 = ↑N) (hz : ∀ k, 26 ≤ k → ρ' 2 k = 0) : LM h2 ad (.ref (ad 210)) rv m' ρ' B N := by
  obtain ⟨⟨a1, a2, a3⟩, x3, c, d, f', g, i, l⟩ := mt
  exact ⟨a1, (f.kp hA (by omega)).trans hm.2.1, ⟨a3, c, d, f', g, i, l⟩, x3, hz, h6⟩
theorem LR.st {σ' : sT} {m' : Nat → Int} {t : Nat} (e6 : σ' 0 6 0 = t) (e7 : σ' 0 7 0 = σ 0 7 0) (ht : n4 t) (lr : LR σ m) (q : m' 1 = ↑t ∧ m' 2 = -1 ∧ m' 12 = m 12) : LR σ' m' := by
  refine ⟨by rw [e6]; exact q.1, by rw [e7, q.2.2]; exact lr.2.1, ?_, by rw [e6]; exact ht.le.2⟩
  unfold aWhere
  rw [e6, if_neg ht.le.1]
  exact q.2.1
/-- a question, the safe told -/
theorem LI.q1 (hA : ∀ k l, ad k = ad l → k = l) (ho : LOu h (ad 209)) (hl : LC h ad pl σ E τ i N) (hm : LM h ad (.ref (ad 210)) rv m ρ (eB E) N) (lr : LR σ m) (ra : RA σ ζ (ρ 2) (ρ 4) (ρ 5) c k) (h19 : m 19 = ↑c) (h20 : m 20 = ↑k) {t : Nat} (ht : n4 t) (c1 : CW0 h1 ad pl (sTr σ t)) (f1 : frP ad pl h h1) (s : mSt ζ rv m ρ ad h1 ↑t h2) : LI (ad 0) (ad 200) (ad 209) h2 := by
  obtain ⟨m', ρ', mt, ⟨e0, e1, e2, e6, e12, e19, e20⟩, ⟨r2, r4, r5⟩, f2⟩ := s
  have l1 := hl.step c1 f1 (K12.st σ t)
  have l2 : LC h2 ad pl (sTr σ t) E τ i N := l1.ag (fun k hk => f2.kp hA (by omega))
  have m1 : LM h1 ad (.ref (ad 210)) rv m ρ (eB E) N := hm.f2 hA f1.1
  refine ⟨ad, pl, sTr σ t, E, τ, i, N, _, rv, m', ρ', hA, ⟨rfl, rfl, rfl⟩, ?_, l2, m1.mt hA mt f2 (e6.trans hm.2.2.2.2.2) (fun k hk => by rw [r2]; exact hm.2.2.2.2.1 k hk), LR.st (σ := σ) (σ' := sTr σ t) rfl rfl ht lr ⟨e1, e2, e12⟩, Or.inl ⟨ζ, c, k, rfl, mt, ?_, e19.trans h19, e20.trans h20⟩⟩
  · obtain ⟨v, hv⟩ := ho
    exact ⟨v, by rw [f2.kp hA (by omega), f1.1.kp hA (by omega)]; exact hv⟩
  · rw [r2, r4, r5]
    exact ra.tr (by have := ht.le.2; omega)
/-- a question or an act, no safe told -/
theorem LI.q0 (hA : ∀ k l, ad k = ad l → k = l) (ho : LOu h (ad 209)) (hl : LC h ad pl σ E τ i N) (hm : LM h ad .null rv m ρ (eB E) N) (lr : LR σ m) (u : UT σ) (hok : sOk σ) (hz : sZ σ) {t : Nat} {t' : Int} (e : t' = ↑t) (ht : n4 t) (c1 : CW0 h1 ad pl (sTr σ t)) (f1 : frP ad pl h h1) (s : hset h1 (ad 200) (.inr (10, obM ad .null rv (mT (mU m 0 0) t'))) = h2) : LI (ad 0) (ad 200) (ad 209) h2 := by
  subst e
  have l1 := hl.step c1 f1 (K12.st σ t)
  have m1 : LM h1 ad .null rv m ρ (eB E) N := hm.f2 hA f1.1
  subst s
  refine ⟨ad, pl, sTr σ t, E, τ, i, N, .null, rv, mT (mU m 0 0) ↑t, ρ, hA, ⟨rfl, rfl, rfl⟩, ?_, l1.ag (fun k hk => hset_ne _ _ (ad_ne hA (by omega))), m1.ob hA hm.2.2.2.2.2, LR.st (σ := σ) (σ' := sTr σ t) rfl rfl ht lr ⟨rfl, rfl, rfl⟩, Or.inr ⟨rfl, u.tr t, sTr_sok hok (by have := ht.le.2; omega), sTr_sz hz⟩⟩
  obtain ⟨v, hv⟩ := ho
  exact ⟨v, by rw [hset_ne _ _ (ad_ne hA (by decide)), f1.1.kp hA (by omega)]; exact hv⟩
/-- an act, the safe told -/
theorem LI.a1 {v : Value} {Qm : Option Value → ssH → Prop} {r : Option Value} (hA : ∀ k l, ad k = ad l → k = l) (ho : LOu h (ad 209)) (hl : LC h ad pl σ E τ i N) (hm : LM h ad (.ref (ad 210)) rv m ρ (eB E) N) (lr : LR σ m) (k12 : K12 σ' σ) (ht : n4 (σ' 0 6 0)) (c1 : CW0 h1 ad pl σ') (f1 : frP ad pl h h1) (ak : actOk σ' σ ζ rv m ad h1 v Qm) (q : Qm r h2) : r = some v ∧ LI (ad 0) (ad 200) (ad 209) h2 := by
  obtain ⟨t, V, P, K, c', k', rfl, ra, e6, e7, e8⟩ := ak
  obtain ⟨rfl, m', ρ', mt, ⟨e0, e1, e2, e6', e12, e19, e20⟩, ⟨r2, r4, r5⟩, f2⟩ := q
  have l1 := hl.step c1 f1 k12
  have l2 : LC h2 ad pl σ' E τ i N := l1.ag (fun k hk => f2.kp hA (by omega))
  have m1 : LM h1 ad (.ref (ad 210)) rv m ρ (eB E) N := hm.f2 hA f1.1
  refine ⟨rfl, ad, pl, σ', E, τ, i, N, _, rv, m', ρ', hA, ⟨rfl, rfl, rfl⟩, ?_, l2, m1.mt hA mt f2 (e6'.trans hm.2.2.2.2.2) (fun k hk => by rw [r2]; exact ra.2.1.2.2.2.2.2.2.2 k hk), LR.st (σ := σ) (σ' := σ') e6 e7 (e6 ▸ ht) lr ⟨e1, e2, e12⟩, Or.inl ⟨ζ, c', k', rfl, mt, by rw [r2, r4, r5]; exact ra, e19, e20⟩⟩
  obtain ⟨v, hv⟩ := ho
  exact ⟨v, by rw [f2.kp hA (by omega), f1.1.kp hA (by omega)]; exact hv⟩
/-- the model's object alone has changed -/
theorem LI.ob {m' : Nat → Int} (hA : ∀ k l, ad k = ad l → k = l) (ho : LOu h (ad 209)) (hl : LC h ad pl σ E τ i N) (hm : LM h ad sv rv m ρ (eB E) N) (lr : LR σ m') (h6 : m' 6 = m 6) (h19 : m' 19 = m 19) (h20 : m' 20 = m 20) (lt : LTd h ad σ sv rv m ρ) (s : hset h (ad 200) (.inr (10, obM ad sv rv m')) = h2) : LI (ad 0) (ad 200) (ad 209) h2 := by
  have m1 := hm.ob hA (h6.trans hm.2.2.2.2.2)
  refine ⟨ad, pl, σ, E, τ, i, N, sv, rv, m', ρ, hA, ⟨rfl, rfl, rfl⟩, ?_, ?_, by rw [← s]; exact m1, lr, ?_⟩
  · obtain ⟨v, hv⟩ := ho
    exact ⟨v, by rw [← s, hset_ne _ _ (ad_ne hA (by decide))]; exact hv⟩
  · rw [← s]
    exact hl.ag (fun k hk => hset_ne _ _ (ad_ne hA (by omega)))
  · rcases lt with ⟨ζ, c, k, rfl, mt, ra, e19, e20⟩ | lt
    · exact Or.inl ⟨ζ, c, k, rfl, mt.ob hA s, ra, h19.trans e19, h20.trans e20⟩
    · exact Or.inr lt
end LAWJ
