/-! ===== counting, and the quorum's days ===== -/
def cntN (p : Nat → Bool) (n : Nat) : Nat := sumN (fun k => if p k then 1 else 0) n
theorem sumN_tail {f : Nat → Nat} : ∀ {n m : Nat}, n ≤ m → (∀ k, n ≤ k → k < m → f k = 0) → sumN f m = sumN f n
  | n, 0, h, _ => by rw [show n = 0 by omega]
  | n, m + 1, h, hz => by
    by_cases e : n = m + 1
    · rw [e]
    · simp only [sumN]; rw [sumN_tail (show n ≤ m by omega) (fun k h1 h2 => hz k h1 (by omega)), hz m (by omega) (by omega)]; rfl
theorem popN_setN (p : Nat → Bool) {n : Nat} (h : n ≤ 6) : popN (setN p n) = cntN p n := by
  unfold popN cntN
  rw [sumN_tail (n := n) (m := 6) h (fun k h1 h2 => by rw [setN_bit, if_neg (by omega)])]
  exact sumN_congr n (fun k hk => by rw [setN_bit]; by_cases e : p k = true <;> simp [hk, e])
theorem cntN_mono {p q : Nat → Bool} : ∀ n, (∀ k, k < n → p k = true → q k = true) → cntN p n ≤ cntN q n
  | 0, _ => Nat.le_refl _
  | n + 1, h => by
    have ih := cntN_mono n (fun k hk => h k (by omega))
    have h1 := h n (by omega)
    unfold cntN at ih ⊢
    simp only [sumN]
    cases hp : p n <;> cases hq : q n <;> simp_all <;> omega
theorem cntN_congr {p q : Nat → Bool} (n : Nat) (h : ∀ k, k < n → p k = q k) : cntN p n = cntN q n := sumN_congr n (fun k hk => by rw [h k hk])
theorem cntN_pos {p : Nat → Bool} : ∀ n, 0 < cntN p n → ∃ k, k < n ∧ p k = true
  | 0, h => absurd h (by simp [cntN, sumN])
  | n + 1, h => by
    by_cases e : p n = true
    · exact ⟨n, by omega, e⟩
    · have : cntN p (n + 1) = cntN p n := by simp [cntN, sumN, e]
      obtain ⟨k, h1, h2⟩ := cntN_pos (p := p) n (by omega)
      exact ⟨k, by omega, h2⟩
theorem exMin (E : Nat → Nat) (p : Nat → Bool) : ∀ n, (∃ k, k < n ∧ p k = true) → ∃ s, s < n ∧ p s = true ∧ ∀ t, t < n → p t = true → E s ≤ E t
  | 0, ⟨k, h, _⟩ => absurd h (by omega)
  | n + 1, hex => by
    by_cases hn : ∃ k, k < n ∧ p k = true
    · obtain ⟨s, h1, h2, h3⟩ := exMin E p n hn
      by_cases hp : p n = true ∧ E n ≤ E s
      · refine ⟨n, by omega, hp.1, fun t ht hq => ?_⟩
        by_cases e : t = n
        · rw [e]; exact Nat.le_refl _
        · exact Nat.le_trans hp.2 (h3 t (by omega) hq)
      · refine ⟨s, by omega, h2, fun t ht hq => ?_⟩
        by_cases e : t = n
        · subst e
          rcases Nat.lt_or_ge (E s) (E t) with q | q
          · omega
          · exact absurd ⟨hq, q⟩ hp
        · exact h3 t (by omega) hq
    · obtain ⟨k, h1, h2⟩ := hex
      have e : k = n := by
        rcases Nat.lt_or_ge k n with q | q
        · exact absurd ⟨k, q, h2⟩ hn
        · omega
      subst e
      refine ⟨k, h1, h2, fun t ht hq => ?_⟩
      by_cases e : t = k
      · rw [e]; exact Nat.le_refl _
      · exact absurd ⟨t, by omega, hq⟩ hn
theorem cQD_get (E : Nat → Nat) (sc qr : Nat) : ∀ s, cQD E sc qr s = 0 ∨ ∃ t, t < s ∧ cQD E sc qr s = E t ∧ qr ≤ popN (setN (fun u => decide ((↑(E t) - 1 : Int) < ↑(E u))) sc)
  | 0 => Or.inl rfl
  | s + 1 => by
    by_cases h : qr ≤ popN (setN (fun t => decide ((↑(E s) - 1 : Int) < ↑(E t))) sc) ∧ cQD E sc qr s < E s
    · rw [cQD_t E sc qr s h.1 h.2]
      exact Or.inr ⟨s, by omega, rfl, h.1⟩
    · rw [cQD_f E sc qr s h]
      rcases cQD_get E sc qr s with h1 | ⟨t, h1, h2, h3⟩
      · exact Or.inl h1
      · exact Or.inr ⟨t, by omega, h2, h3⟩
theorem cQD_ub (E : Nat → Nat) (sc qr : Nat) : ∀ s t, t < s → qr ≤ popN (setN (fun u => decide ((↑(E t) - 1 : Int) < ↑(E u))) sc) → E t ≤ cQD E sc qr s
  | 0, t, h, _ => absurd h (by omega)
  | s + 1, t, h, hq => by
    by_cases hc : qr ≤ popN (setN (fun t => decide ((↑(E s) - 1 : Int) < ↑(E t))) sc) ∧ cQD E sc qr s < E s
    · rw [cQD_t E sc qr s hc.1 hc.2]
      by_cases e : t = s
      · rw [e]; exact Nat.le_refl _
      · have := cQD_ub E sc qr s t (by omega) hq; omega
    · rw [cQD_f E sc qr s hc]
      by_cases e : t = s
      · subst e
        rcases Nat.lt_or_ge (cQD E sc qr t) (E t) with q | q
        · exact absurd ⟨hq, q⟩ hc
        · exact q
      · exact cQD_ub E sc qr s t (by omega) hq
/-- a quorum lasts n days just if as many as it wants are good as long -/
theorem cQD_iff (E : Nat → Nat) {sc qr n : Nat} (hs : sc ≤ 6) (hq : 1 ≤ qr) (hn : 1 ≤ n) : n ≤ cQD E sc qr sc ↔ qr ≤ cntN (fun t => decide (n ≤ E t)) sc := by
  constructor
  · intro h
    rcases cQD_get E sc qr sc with h1 | ⟨t, h1, h2, h3⟩
    · omega
    · rw [popN_setN _ hs] at h3
      exact Nat.le_trans h3 (cntN_mono sc (fun k hk hp => by simp at hp ⊢; omega))
  · intro h
    obtain ⟨s, h1, h2, h3⟩ := exMin E (fun t => decide (n ≤ E t)) sc (cntN_pos sc (by omega))
    have h4 : qr ≤ popN (setN (fun u => decide ((↑(E s) - 1 : Int) < ↑(E u))) sc) := by
      rw [popN_setN _ hs]
      exact Nat.le_trans h (cntN_mono sc (fun k hk hp => by have := h3 k hk hp; simp; omega))
    have h5 := cQD_ub E sc qr sc s h1 h4
    simp at h2
    omega
/-! ===== all ways to hang ===== -/
def hv (q sen : Nat) (E : Nat → Nat) : Nat := if q = 0 then sumN E sen else cQD E sen q sen
theorem sumN_mono {f g : Nat → Nat} : ∀ n, (∀ k, k < n → f k ≤ g k) → sumN f n ≤ sumN g n
  | 0, _ => Nat.le_refl _
  | n + 1, h => by
    have := sumN_mono n (fun k hk => h k (by omega))
    have := h n (by omega)
    simp only [sumN]; omega
theorem hv_mono {q sen : Nat} {E F : Nat → Nat} (hs : sen ≤ 6) (h : ∀ k, k < sen → E k ≤ F k) : hv q sen E ≤ hv q sen F := by
  unfold hv
  split
  · exact sumN_mono sen h
  · rename_i hq
    rcases Nat.eq_zero_or_pos (cQD E sen q sen) with h0 | h0
    · omega
    · have h1 := (cQD_iff E hs (by omega) h0).mp (Nat.le_refl _)
      refine (cQD_iff F hs (by omega) h0).mpr (Nat.le_trans h1 (cntN_mono sen (fun k hk hp => ?_)))
      have := h k hk
      simp at hp ⊢; omega
theorem hv_congr {q sen : Nat} {E F : Nat → Nat} (h : ∀ k, k < sen → E k = F k) : hv q sen E = hv q sen F := by
  unfold hv
  split
  · exact sumN_congr sen h
  · exact cQD_congr sen q h sen (Nat.le_refl _)
theorem hv_le {q sen : Nat} {E : Nat → Nat} (hs : sen ≤ 6) (h : ∀ k, E k ≤ 99) : hv q sen E ≤ 594 := by
  unfold hv
  split
  · have := sumN_le h sen; omega
  · have := cQD_le h sen q sen; omega
abbrev hS : Type := Int × (Nat → Nat)
abbrev injN (a : Nat → Nat) (n : Nat) : Prop := ∀ i, i < n → ∀ j, j < n → a i = a j → i = j
def hLf (V : (Nat → Nat) → Nat) (a : Nat → Nat) (st : hS) : hS := (↑(V a), fun j => if j < 6 then a j else st.2 j)
def hgI (F : Nat → hS → hS) : Nat → hS → hS
  | 0, st => st
  | n + 1, st => F n (hgI F n st)
def hgL (V : (Nat → Nat) → Nat) (sen hk : Nat) : Nat → Nat → (Nat → Nat) → hS → hS
  | 0, _, a, st => if injN a sen ∧ st.1 < ↑(V a) then hLf V a st else st
  | k + 1, s, a, st => hgI (fun h st => hgL V sen hk k (s + 1) (fun j => if j = s then h else a j) st) hk st
theorem hgI_id {F : Nat → hS → hS} {st : hS} : ∀ n, (∀ k, k < n → F k st = st) → hgI F n st = st
  | 0, _ => rfl
  | n + 1, h => by simp only [hgI]; rw [hgI_id n (fun k hk => h k (by omega))]; exact h n (by omega)
theorem hgI_stop {F : Nat → hS → hS} {st : hS} {h : Nat} : ∀ n, h ≤ n → (∀ k, h ≤ k → k < n → F k (hgI F h st) = hgI F h st) → hgI F n st = hgI F h st
  | 0, h1, _ => by rw [show h = 0 by omega]
  | n + 1, h1, h2 => by
    by_cases e : h = n + 1
    · rw [e]
    · simp only [hgI]; rw [hgI_stop n (by omega) (fun k q1 q2 => h2 k q1 (by omega))]; exact h2 n (by omega) (by omega)
theorem hgI_congr {F F' : Nat → hS → hS} {st : hS} : ∀ n, (∀ k st, k < n → F k st = F' k st) → hgI F n st = hgI F' n st
  | 0, _ => rfl
  | n + 1, h => by simp only [hgI]; rw [hgI_congr n (fun k st hk => h k st (by omega))]; exact h n _ (by omega)
section HG
variable {V : (Nat → Nat) → Nat} {sen hk : Nat}
theorem hgL_congr : ∀ k s {a a' : Nat → Nat} {st : hS}, (∀ t, t < s ∨ s + k ≤ t → a t = a' t) → hgL V sen hk k s a st = hgL V sen hk k s a' st
  | 0, s, a, a', st, h => by rw [show a = a' from funext (fun t => h t (by omega))]
  | k + 1, s, a, a', st, h => by
    simp only [hgL]
    refine hgI_congr hk (fun j st hj => hgL_congr k (s + 1) (fun t ht => ?_))
    by_cases e : t = s
    · simp [e]
    · simp [e]; exact h t (by omega)
theorem hgL_bd {bd : Nat} (hb : ∀ a, (∀ t, t < sen → a t < hk) → V a ≤ bd) : ∀ k s {a : Nat → Nat} {st : hS}, s + k = sen → (∀ t, t < s → a t < hk) → (↑bd : Int) ≤ st.1 → hgL V sen hk k s a st = st
  | 0, s, a, st, hs, ha, hst => by
    have := hb a (fun t ht => ha t (by omega))
    simp only [hgL]
    rw [if_neg (by rintro ⟨_, h2⟩; omega)]
  | k + 1, s, a, st, hs, ha, hst => by
    simp only [hgL]
    refine hgI_id hk (fun j hj => hgL_bd hb k (s + 1) (by omega) (fun t ht => ?_) hst)
    show (if t = s then j else a t) < hk
    split
    · exact hj
    · exact ha t (by omega)
theorem hgL_inj : ∀ k s {a : Nat → Nat} {st : hS}, s + k = sen → (∃ i j, i < j ∧ j < s ∧ a i = a j) → hgL V sen hk k s a st = st
  | 0, s, a, st, hs, ⟨i, j, h1, h2, h3⟩ => by
    simp only [hgL]
    rw [if_neg (by rintro ⟨q, _⟩; have := q i (by omega) j (by omega) h3; omega)]
  | k + 1, s, a, st, hs, ⟨i, j, h1, h2, h3⟩ => by
    simp only [hgL]
    refine hgI_id hk (fun m hm => hgL_inj k (s + 1) (by omega) ⟨i, j, h1, by omega, ?_⟩)
    show (if i = s then m else a i) = (if j = s then m else a j)
    rw [if_neg (by omega), if_neg (by omega)]; exact h3
end HG
/-! ===== the hanging's cells ===== -/
theorem CW0.hAg {h h' : ssH} {ad : Nat → Nat} {pl : Nat} {σ : sT} (hc : CW0 h ad pl σ) (ha : ∀ k, k < 138 ∨ 144 ≤ k → h' (ad k) = h (ad k)) (hd : CHang h' ad) : CW0 h' ad pl σ := by
  obtain ⟨hpl, hx, hP, hF, hN, hU, hI, hS, hH, hD⟩ := hc
  refine ⟨hpl, (ha 0 (by omega)).trans hx, hP.ag (fun k _ _ => ha k (by omega)), hF.ag (fun k _ _ => ha k (by omega)), hN.ag (fun k _ _ => ha k (by omega)), ⟨(ha 38 (by omega)).trans hU.1, (ha 39 (by omega)).trans hU.2.1, fun m hm => (hU.2.2 m hm).ag (fun k _ _ => ha k (by omega))⟩, ⟨(ha 120 (by omega)).trans hI.1, fun m hm => (hI.2 m hm).ag (fun k _ _ => ha k (by omega))⟩, hS.ag (fun k _ _ => ha k (by omega)), hd, hD.ag (fun k _ _ => ha k (by omega))⟩
abbrev obH (ad : Nat → Nat) (b : Int) (i : Nat → Nat) : List Value := [.int (zI b), .ref (ad 139), .ref (ad 140), .ref (ad 141), .ref (ad 142), .int (zI ↑(i 5)), .int (zI ↑(i 6)), .int (zI ↑(i 7)), .int (zI ↑(i 8))]
def HAt (h : ssH) (ad : Nat → Nat) (b : Int) (i f1 f2 f3 E : Nat → Nat) : Prop := h (ad 138) = some (.inr (1, obH ad b i)) ∧ h (ad 139) = some (ar 6 f1) ∧ h (ad 140) = some (ar 6 f2) ∧ h (ad 141) = some (ar 36 f3) ∧ SpanAt h (ad 142) (ad 143) E
def HWt (ad : Nat → Nat) (pl : Nat) (σ : sT) (h0 h : ssH) (b : Int) (i f1 f2 f3 E : Nat → Nat) : Prop := CW0 h ad pl σ ∧ frP ad pl h0 h ∧ HAt h ad b i f1 f2 f3 E ∧ ∀ k, E k ≤ 99
section HWs
variable {ad : Nat → Nat} {pl : Nat} {σ : sT} {h0 h : ssH} {b : Int} {i f1 f2 f3 E : Nat → Nat}
theorem HWt.ob (hA : ∀ k l, ad k = ad l → k = l) (w : HWt ad pl σ h0 h b i f1 f2 f3 E) (c : Int) (j : Nat → Nat) : HWt ad pl σ h0 (hset h (ad 138) (.inr (1, obH ad c j))) c j f1 f2 f3 E := by
  obtain ⟨hc, hf, ⟨a1, a2, a3, a4, a5, a6⟩, hE⟩ := w
  have d : HAt (hset h (ad 138) (.inr (1, obH ad c j))) ad c j f1 f2 f3 E := ⟨hset_self _ _ _, (hset_ne _ _ (ad_ne hA (by decide))).trans a2, (hset_ne _ _ (ad_ne hA (by decide))).trans a3, (hset_ne _ _ (ad_ne hA (by decide))).trans a4, (hset_ne _ _ (ad_ne hA (by decide))).trans a5, (hset_ne _ _ (ad_ne hA (by decide))).trans a6⟩
  exact ⟨hc.hAg (fun k hk => hset_ne _ _ (ad_ne hA (by omega))) ⟨c, j, f1, f2, f3, d.1, d.2.1, d.2.2.1, d.2.2.2.1, E, d.2.2.2.2, hE⟩, hf.set hA hc.1 (by omega) _, d, hE⟩
theorem HWt.r1 (hA : ∀ k l, ad k = ad l → k = l) (w : HWt ad pl σ h0 h b i f1 f2 f3 E) {g : Nat → Nat} : HWt ad pl σ h0 (hset h (ad 139) (ar 6 g)) b i g f2 f3 E := by
  obtain ⟨hc, hf, ⟨a1, a2, a3, a4, a5, a6⟩, hE⟩ := w
  have d : HAt (hset h (ad 139) (ar 6 g)) ad b i g f2 f3 E := ⟨(hset_ne _ _ (ad_ne hA (by decide))).trans a1, hset_self _ _ _, (hset_ne _ _ (ad_ne hA (by decide))).trans a3, (hset_ne _ _ (ad_ne hA (by decide))).trans a4, (hset_ne _ _ (ad_ne hA (by decide))).trans a5, (hset_ne _ _ (ad_ne hA (by decide))).trans a6⟩
  exact ⟨hc.hAg (fun k hk => hset_ne _ _ (ad_ne hA (by omega))) ⟨b, i, g, f2, f3, d.1, d.2.1, d.2.2.1, d.2.2.2.1, E, d.2.2.2.2, hE⟩, hf.set hA hc.1 (by omega) _, d, hE⟩
theorem HWt.r2 (hA : ∀ k l, ad k = ad l → k = l) (w : HWt ad pl σ h0 h b i f1 f2 f3 E) {g : Nat → Nat} : HWt ad pl σ h0 (hset h (ad 140) (ar 6 g)) b i f1 g f3 E := by
  obtain ⟨hc, hf, ⟨a1, a2, a3, a4, a5, a6⟩, hE⟩ := w
  have d : HAt (hset h (ad 140) (ar 6 g)) ad b i f1 g f3 E := ⟨(hset_ne _ _ (ad_ne hA (by decide))).trans a1, (hset_ne _ _ (ad_ne hA (by decide))).trans a2, hset_self _ _ _, (hset_ne _ _ (ad_ne hA (by decide))).trans a4, (hset_ne _ _ (ad_ne hA (by decide))).trans a5, (hset_ne _ _ (ad_ne hA (by decide))).trans a6⟩
  exact ⟨hc.hAg (fun k hk => hset_ne _ _ (ad_ne hA (by omega))) ⟨b, i, f1, g, f3, d.1, d.2.1, d.2.2.1, d.2.2.2.1, E, d.2.2.2.2, hE⟩, hf.set hA hc.1 (by omega) _, d, hE⟩
theorem HWt.r3 (hA : ∀ k l, ad k = ad l → k = l) (w : HWt ad pl σ h0 h b i f1 f2 f3 E) {g : Nat → Nat} : HWt ad pl σ h0 (hset h (ad 141) (ar 36 g)) b i f1 f2 g E := by
  obtain ⟨hc, hf, ⟨a1, a2, a3, a4, a5, a6⟩, hE⟩ := w
  have d : HAt (hset h (ad 141) (ar 36 g)) ad b i f1 f2 g E := ⟨(hset_ne _ _ (ad_ne hA (by decide))).trans a1, (hset_ne _ _ (ad_ne hA (by decide))).trans a2, (hset_ne _ _ (ad_ne hA (by decide))).trans a3, hset_self _ _ _, (hset_ne _ _ (ad_ne hA (by decide))).trans a5, (hset_ne _ _ (ad_ne hA (by decide))).trans a6⟩
  exact ⟨hc.hAg (fun k hk => hset_ne _ _ (ad_ne hA (by omega))) ⟨b, i, f1, f2, g, d.1, d.2.1, d.2.2.1, d.2.2.2.1, E, d.2.2.2.2, hE⟩, hf.set hA hc.1 (by omega) _, d, hE⟩
theorem HWt.sp (hA : ∀ k l, ad k = ad l → k = l) (w : HWt ad pl σ h0 h b i f1 f2 f3 E) {g : Nat → Nat} (hg : ∀ k, g k ≤ 99) : HWt ad pl σ h0 (hset h (ad 143) (ar 6 g)) b i f1 f2 f3 g := by
  obtain ⟨hc, hf, ⟨a1, a2, a3, a4, a5, a6⟩, hE⟩ := w
  have d : HAt (hset h (ad 143) (ar 6 g)) ad b i f1 f2 f3 g := ⟨(hset_ne _ _ (ad_ne hA (by decide))).trans a1, (hset_ne _ _ (ad_ne hA (by decide))).trans a2, (hset_ne _ _ (ad_ne hA (by decide))).trans a3, (hset_ne _ _ (ad_ne hA (by decide))).trans a4, (hset_ne _ _ (ad_ne hA (by decide))).trans a5, hset_self _ _ _⟩
  exact ⟨hc.hAg (fun k hk => hset_ne _ _ (ad_ne hA (by omega))) ⟨b, i, f1, f2, f3, d.1, d.2.1, d.2.2.1, d.2.2.2.1, g, d.2.2.2.2, hg⟩, hf.set hA hc.1 (by omega) _, d, hg⟩
end HWs
theorem cpy6' (f g : Nat → Nat) : (.inl (0, 6, .inl (va_cpy (fun j => zI ↑(f j)) (fun j => zI ↑(g j)) (zI 0).toNatClampNeg (zI 0).toNatClampNeg (zI 6).toNatClampNeg)) : ssE) = ar 6 (fun j => if j < 6 then f j else g j) := by
  unfold ar
  congr 4
  funext j
  rw [show (zI 0).toNatClampNeg = 0 from by decide +kernel, show (zI 6).toNatClampNeg = 6 from by decide +kernel]
  by_cases hj : j < 6
  · rw [pk_cpy_in (by omega) (by omega)]; simp [hj]
  · rw [pk_cpy_out (by omega)]; simp [hj]
