/-! ===== the system's state, by one table σ (object, field, place), at addresses ad ===== -/
abbrev sT : Type := Nat → Nat → Nat → Nat
def fI (σ : sT) (o : Nat) : Nat → Nat := fun k => σ o k 0
def Rp (ad : Nat → Nat) (pl : Nat) : Nat → Nat := fun k => ad (pl + (if k = 4 then 1 else if k = 6 then 2 else if k = 8 then 3 else if k = 9 then 4 else if k = 10 then 5 else 6))
def Rm (ad : Nat → Nat) (b : Nat) : Nat → Nat := fun k => ad (b + (k - 2))
abbrev obX (ad : Nat → Nat) (pl : Nat) (σ : sT) : List Value := [.ref (ad 1), .ref (ad pl), .ref (ad 33), .ref (ad 38), .ref (ad 120), .int (zI ↑(σ 0 5 0)), .int (zI ↑(σ 0 6 0)), .int (zI ↑(σ 0 7 0)), .int (zI ↑(σ 0 8 0)), .ref (ad 136), .ref (ad 138), .ref (ad 144)]
def CPlan (h : ssH) (ad : Nat → Nat) (pl : Nat) (σ : sT) : Prop := PlanAt h (ad pl) (fI σ 1) (Rp ad pl) (↑(σ 1 13 0) - 1) (σ 1)
def CMom (h : ssH) (ad : Nat → Nat) (b : Nat) (σ : sT) (o : Nat) : Prop := MomAt h (ad b) (fI σ o) (Rm ad b) (σ o)
def refs (n : Nat) (f : Nat → Nat) : ssE := .inl (3, n, .inr (.inr (.inr (.inr (fun m => if m < n then some (f m) else none)))))
def CUndo (h : ssH) (ad : Nat → Nat) (σ : sT) : Prop := h (ad 38) = some (.inr (7, [.int (zI ↑(σ 4 0 0)), .int (zI ↑(σ 4 1 0)), .ref (ad 39)])) ∧ h (ad 39) = some (refs 16 (fun m => ad (40 + 5 * m))) ∧ ∀ m, m < 16 → CMom h ad (40 + 5 * m) σ (10 + m)
def CImg (h : ssH) (ad : Nat → Nat) (σ : sT) : Prop := h (ad 120) = some (refs 3 (fun m => ad (121 + 5 * m))) ∧ ∀ m, m < 3 → CMom h ad (121 + 5 * m) σ (30 + m)
def CSpan (h : ssH) (ad : Nat → Nat) (b : Nat) : Prop := ∃ E, SpanAt h (ad b) (ad (b + 1)) E ∧ ∀ k, E k ≤ 99
def CHang (h : ssH) (ad : Nat → Nat) : Prop := ∃ (b : Int) (i f1 f2 f3 : Nat → Nat), h (ad 138) = some (.inr (1, [.int (zI b), .ref (ad 139), .ref (ad 140), .ref (ad 141), .ref (ad 142), .int (zI ↑(i 5)), .int (zI ↑(i 6)), .int (zI ↑(i 7)), .int (zI ↑(i 8))])) ∧ h (ad 139) = some (ar 6 f1) ∧ h (ad 140) = some (ar 6 f2) ∧ h (ad 141) = some (ar 36 f3) ∧ CSpan h ad 142
def CDoubt (h : ssH) (ad : Nat → Nat) : Prop := ∃ (n : Nat) (f1 f2 : Nat → Nat), h (ad 144) = some (.inr (0, [.int (zI ↑n), .ref (ad 145), .ref (ad 146), .ref (ad 147)])) ∧ h (ad 145) = some (ar 42 f1) ∧ h (ad 146) = some (ar 42 f2) ∧ CSpan h ad 147
def sOk (σ : sT) : Prop := PlanOk (fI σ 1) (σ 1) ∧ σ 1 13 0 ≤ 6 ∧ (∀ o, o ≠ 1 ∧ o ≠ 4 → MomOk (fI σ o) (σ o))
/-- the heap at other places is the same -/
theorem PlanAt.fr {h : ssH} {p T : Nat} {i R : Nat → Nat} {d : Int} {A : Nat → Nat → Nat} {e : ssE} (hp : PlanAt h p i R d A) (h0 : p ≠ T) (h4 : R 4 ≠ T) (h6 : R 6 ≠ T) (h8 : R 8 ≠ T) (h9 : R 9 ≠ T) (h10 : R 10 ≠ T) : PlanAt (hset h T e) p i R d A :=
  ⟨(hset_ne h e h0).trans hp.1, (hset_ne h e h4).trans hp.2.1, (hset_ne h e h6).trans hp.2.2.1, (hset_ne h e h8).trans hp.2.2.2.1, (hset_ne h e h9).trans hp.2.2.2.2.1, (hset_ne h e h10).trans hp.2.2.2.2.2⟩
theorem MomAt.fr {h : ssH} {q T : Nat} {j S : Nat → Nat} {B : Nat → Nat → Nat} {e : ssE} (hq : MomAt h q j S B) (h0 : q ≠ T) (h3 : S 3 ≠ T) (h4 : S 4 ≠ T) (h5 : S 5 ≠ T) (h6 : S 6 ≠ T) : MomAt (hset h T e) q j S B :=
  ⟨(hset_ne h e h0).trans hq.1, (hset_ne h e h3).trans hq.2.1, (hset_ne h e h4).trans hq.2.2.1, (hset_ne h e h5).trans hq.2.2.2.1, (hset_ne h e h6).trans hq.2.2.2.2⟩
theorem ad_ne {ad : Nat → Nat} (hA : ∀ k l, ad k = ad l → k = l) {k l : Nat} (h : k ≠ l) : ad k ≠ ad l := fun e => h (hA k l e)
section FR
variable {h : ssH} {ad : Nat → Nat} {pl k b o : Nat} {σ : sT} {e : ssE}
theorem CPlan.fr (hA : ∀ k l, ad k = ad l → k = l) (hp : CPlan h ad pl σ) (hk : k < pl ∨ pl + 6 ≤ k) : CPlan (hset h (ad k) e) ad pl σ :=
  PlanAt.fr hp (ad_ne hA (by omega)) (ad_ne hA (by simp; omega)) (ad_ne hA (by simp; omega)) (ad_ne hA (by simp; omega)) (ad_ne hA (by simp; omega)) (ad_ne hA (by simp; omega))
theorem CMom.fr (hA : ∀ k l, ad k = ad l → k = l) (hq : CMom h ad b σ o) (hk : k < b ∨ b + 5 ≤ k) : CMom (hset h (ad k) e) ad b σ o :=
  MomAt.fr hq (ad_ne hA (by omega)) (ad_ne hA (by omega)) (ad_ne hA (by omega)) (ad_ne hA (by omega)) (ad_ne hA (by omega))
theorem CUndo.fr (hA : ∀ k l, ad k = ad l → k = l) (hu : CUndo h ad σ) (hk : k < 38 ∨ 120 ≤ k) : CUndo (hset h (ad k) e) ad σ :=
  ⟨(hset_ne h e (ad_ne hA (by omega))).trans hu.1, (hset_ne h e (ad_ne hA (by omega))).trans hu.2.1, fun m hm => (hu.2.2 m hm).fr hA (by omega)⟩
theorem CImg.fr (hA : ∀ k l, ad k = ad l → k = l) (hu : CImg h ad σ) (hk : k < 120 ∨ 136 ≤ k) : CImg (hset h (ad k) e) ad σ :=
  ⟨(hset_ne h e (ad_ne hA (by omega))).trans hu.1, fun m hm => (hu.2 m hm).fr hA (by omega)⟩
theorem CSpan.fr (hA : ∀ k l, ad k = ad l → k = l) (hu : CSpan h ad b) (hk : k < b ∨ b + 2 ≤ k) : CSpan (hset h (ad k) e) ad b := by
  obtain ⟨E, ⟨h1, h2⟩, h3⟩ := hu
  exact ⟨E, ⟨(hset_ne h e (ad_ne hA (by omega))).trans h1, (hset_ne h e (ad_ne hA (by omega))).trans h2⟩, h3⟩
theorem CHang.fr (hA : ∀ k l, ad k = ad l → k = l) (hu : CHang h ad) (hk : k < 138 ∨ 144 ≤ k) : CHang (hset h (ad k) e) ad := by
  obtain ⟨b, i, f1, f2, f3, h1, h2, h3, h4, h5⟩ := hu
  exact ⟨b, i, f1, f2, f3, (hset_ne h e (ad_ne hA (by omega))).trans h1, (hset_ne h e (ad_ne hA (by omega))).trans h2, (hset_ne h e (ad_ne hA (by omega))).trans h3, (hset_ne h e (ad_ne hA (by omega))).trans h4, h5.fr hA (by omega)⟩
theorem CDoubt.fr (hA : ∀ k l, ad k = ad l → k = l) (hu : CDoubt h ad) (hk : k < 144 ∨ 149 ≤ k) : CDoubt (hset h (ad k) e) ad := by
  obtain ⟨n, f1, f2, h1, h2, h3, h4⟩ := hu
  exact ⟨n, f1, f2, (hset_ne h e (ad_ne hA (by omega))).trans h1, (hset_ne h e (ad_ne hA (by omega))).trans h2, (hset_ne h e (ad_ne hA (by omega))).trans h3, h4.fr hA (by omega)⟩
end FR
/-- all but the reader of texts -/
def CW0 (h : ssH) (ad : Nat → Nat) (pl : Nat) (σ : sT) : Prop := (pl = 11 ∨ pl = 22) ∧ h (ad 0) = some (.inr (8, obX ad pl σ)) ∧ CPlan h ad pl σ ∧ CMom h ad (pl + 6) σ 2 ∧ CMom h ad 33 σ 3 ∧ CUndo h ad σ ∧ CImg h ad σ ∧ CSpan h ad 136 ∧ CHang h ad ∧ CDoubt h ad
/-- a write to a cell of the questions' own: the rest stays -/
def fr200 (ad : Nat → Nat) (h h' : ssH) : Prop := ∀ b, (∀ k, k < 149 → b ≠ ad k) → h' b = h b
theorem fr200.rf (ad : Nat → Nat) (h : ssH) : fr200 ad h h := fun _ _ => rfl
theorem fr200.tr {ad : Nat → Nat} {h h1 h2 : ssH} (a : fr200 ad h h1) (b : fr200 ad h1 h2) : fr200 ad h h2 := fun q hq => (b q hq).trans (a q hq)
theorem fr200.set {ad : Nat → Nat} {h h1 : ssH} (a : fr200 ad h h1) {k : Nat} (hk : k < 149) (e : ssE) : fr200 ad h (hset h1 (ad k) e) := fun q hq => (hset_ne h1 e (hq k hk)).trans (a q hq)
/-- the texts' reader lies at the places 1 .. 10 and in the other plan: what a question leaves alone -/
def frP (ad : Nat → Nat) (pl : Nat) (h h' : ssH) : Prop := fr200 ad h h' ∧ ∀ k, (1 ≤ k ∧ k < 11) ∨ (149 ≤ k) ∨ (33 - pl ≤ k ∧ k < 44 - pl) → h' (ad k) = h (ad k)
theorem frP.rf (ad : Nat → Nat) (pl : Nat) (h : ssH) : frP ad pl h h := ⟨fr200.rf ad h, fun _ _ => rfl⟩
theorem frP.tr {ad : Nat → Nat} {pl : Nat} {h h1 h2 : ssH} (a : frP ad pl h h1) (b : frP ad pl h1 h2) : frP ad pl h h2 := ⟨a.1.tr b.1, fun k hk => (b.2 k hk).trans (a.2 k hk)⟩
theorem frP.set {ad : Nat → Nat} (hA : ∀ k l, ad k = ad l → k = l) {pl : Nat} (hpl : pl = 11 ∨ pl = 22) {h h1 : ssH} (a : frP ad pl h h1) {k : Nat} (hk : k = 0 ∨ (33 ≤ k ∧ k < 149)) (e : ssE) : frP ad pl h (hset h1 (ad k) e) :=
  ⟨a.1.set (by omega) e, fun l hl => (hset_ne h1 e (ad_ne hA (by omega))).trans (a.2 l hl)⟩
/-- σ with another trouble -/
def sTr (σ : sT) (t : Nat) : sT := fun o k n => if o = 0 ∧ k = 6 ∧ n = 0 then t else σ o k n
theorem sTr_o {σ : sT} {t o : Nat} (h : o ≠ 0) : sTr σ t o = σ o := by funext k n; simp [sTr, h]
theorem sTr_f {σ : sT} {t o : Nat} (h : o ≠ 0) : fI (sTr σ t) o = fI σ o := by funext k; simp [fI, sTr, h]
theorem sTr_ok {σ : sT} {t : Nat} (h : sOk σ) (ht : True) : sOk σ := h
theorem CW0.trouble {h : ssH} {ad : Nat → Nat} {pl : Nat} {σ : sT} (hA : ∀ k l, ad k = ad l → k = l) (hc : CW0 h ad pl σ) (t : Nat) : CW0 (hset h (ad 0) (.inr (8, obX ad pl (sTr σ t)))) ad pl (sTr σ t) := by
  obtain ⟨hpl, hx, hP, hF, hN, hU, hI, hS, hH, hD⟩ := hc
  have e1 : ∀ o, o ≠ 0 → sTr σ t o = σ o := fun o ho => sTr_o ho
  refine ⟨hpl, hset_self _ _ _, ?_, ?_, ?_, ?_, ?_, hS.fr hA (by omega), hH.fr hA (by omega), hD.fr hA (by omega)⟩
  · have := hP.fr (e := .inr (8, obX ad pl (sTr σ t))) (k := 0) hA (by omega)
    unfold CPlan at this ⊢
    rw [sTr_f (by decide), e1 1 (by decide)]; exact this
  · have := hF.fr (e := .inr (8, obX ad pl (sTr σ t))) (k := 0) hA (by omega)
    unfold CMom at this ⊢
    rw [sTr_f (by decide), e1 2 (by decide)]; exact this
  · have := hN.fr (e := .inr (8, obX ad pl (sTr σ t))) (k := 0) hA (by omega)
    unfold CMom at this ⊢
    rw [sTr_f (by decide), e1 3 (by decide)]; exact this
  · have := hU.fr (e := .inr (8, obX ad pl (sTr σ t))) (k := 0) hA (by omega)
    unfold CUndo CMom at this ⊢
    refine ⟨?_, this.2.1, fun m hm => ?_⟩
    · rw [e1 4 (by decide)]; exact this.1
    · rw [sTr_f (by omega), e1 (10 + m) (by omega)]; exact this.2.2 m hm
  · have := hI.fr (e := .inr (8, obX ad pl (sTr σ t))) (k := 0) hA (by omega)
    unfold CImg CMom at this ⊢
    refine ⟨this.1, fun m hm => ?_⟩
    rw [sTr_f (by omega), e1 (30 + m) (by omega)]; exact this.2 m hm
/-- another E of the spans -/
theorem CW0.spans {h : ssH} {ad : Nat → Nat} {pl : Nat} {σ : sT} (hA : ∀ k l, ad k = ad l → k = l) (hc : CW0 h ad pl σ) {E : Nat → Nat} (hE : ∀ k, E k ≤ 99) : CW0 (hset h (ad 137) (ar 6 E)) ad pl σ := by
  obtain ⟨hpl, hx, hP, hF, hN, hU, hI, ⟨E0, ⟨hS1, hS2⟩, hS3⟩, hH, hD⟩ := hc
  exact ⟨hpl, (hset_ne _ _ (ad_ne hA (by omega))).trans hx, hP.fr hA (by omega), hF.fr hA (by omega), hN.fr hA (by omega), hU.fr hA (by omega), hI.fr hA (by omega), ⟨E, ⟨(hset_ne _ _ (ad_ne hA (by omega))).trans hS1, hset_self _ _ _⟩, hE⟩, hH.fr hA (by omega), hD.fr hA (by omega)⟩
