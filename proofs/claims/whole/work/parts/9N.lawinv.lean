/-! ===== what the law keeps from call to call ===== -/
def TP (σ : sT) : Prop := ∀ o k n, (o = 1 ∨ o = 2) → σ o k n ≤ bdT o k n
def LC (h : ssH) (ad : Nat → Nat) (pl : Nat) (σ : sT) (E : pE) (τ : sT) (i N : Nat) : Prop := CW0 h ad pl σ ∧ PW h ad (33 - pl) E τ i ∧ TOk τ ∧ TP σ ∧ eL E = ↑N ∧ N ≤ 900 ∧ (∀ k, -128 ≤ eB E k ∧ eB E k ≤ 127) ∧ h (ad 149) = some (arJ 22 kR)
def LM (h : ssH) (ad : Nat → Nat) (sv rv : Value) (m : Nat → Int) (ρ : Nat → Nat → Nat) (B : Nat → Int) (N : Nat) : Prop := h (ad 200) = some (.inr (10, obM ad sv rv m)) ∧ h (ad 201) = some (arB 900 B) ∧ MRow h ad ρ ∧ XOk (ρ 3) ∧ (∀ k, 26 ≤ k → ρ 2 k = 0) ∧ m 6 = ↑N
section LAWI
variable {h h' : ssH} {ad : Nat → Nat} {pl i N : Nat} {σ τ : sT} {E : pE} {sv rv : Value} {m : Nat → Int} {ρ : Nat → Nat → Nat} {B : Nat → Int}
theorem LC.ag (hl : LC h ad pl σ E τ i N) (e : ∀ k, k < 150 → h' (ad k) = h (ad k)) : LC h' ad pl σ E τ i N := by
  obtain ⟨c1, c2, c3, c4, c5, c6, c7, c8⟩ := hl
  have c0 := c1.1
  exact ⟨c1.ag (fun k hk => e k (by omega)), c2.ag (fun k hk => e k (by omega)), c3, c4, c5, c6, c7, (e 149 (by omega)).trans c8⟩
theorem MRow.ag (hr : MRow h ad ρ) (e : ∀ k, 202 ≤ k → k < 209 → h' (ad k) = h (ad k)) : MRow h' ad ρ := by
  obtain ⟨a, b, c, d, f, g, i⟩ := hr
  exact ⟨(e 203 (by omega) (by omega)).trans a, (e 202 (by omega) (by omega)).trans b, (e 204 (by omega) (by omega)).trans c, (e 205 (by omega) (by omega)).trans d, (e 206 (by omega) (by omega)).trans f, (e 207 (by omega) (by omega)).trans g, (e 208 (by omega) (by omega)).trans i⟩
theorem LM.ag (hl : LM h ad sv rv m ρ B N) (e : ∀ k, 200 ≤ k → k < 209 → h' (ad k) = h (ad k)) : LM h' ad sv rv m ρ B N :=
  ⟨(e 200 (by omega) (by omega)).trans hl.1, (e 201 (by omega) (by omega)).trans hl.2.1, hl.2.2.1.ag (fun k h1 h2 => e k (by omega) h2), hl.2.2.2⟩
def eF (E : pE) (W : Nat → Int32) (N : Nat) : pE := (↑(N + 20), eX E, eN E, fB (eB E) W N 20, eS E, eP E, eK E, eV E)
theorem LC.feed (hA : ∀ k l, ad k = ad l → k = l) (hl : LC h ad pl σ E τ i N) (W : Nat → Int32) (h20 : ¬ 900 < N + 20) : LC (hset (hset h (ad 2) (.inr (5, obE ad (eF E W N) i))) (ad 3) (arB 900 (fB (eB E) W N 20))) ad pl σ (eF E W N) τ i (N + 20) := by
  obtain ⟨c1, c2, c3, c4, c5, c6, c7, c8⟩ := hl
  have c0 := c1.1
  have hk : ∀ k, k ≠ 2 → k ≠ 3 → hset (hset h (ad 2) (.inr (5, obE ad (eF E W N) i))) (ad 3) (arB 900 (fB (eB E) W N 20)) (ad k) = h (ad k) := fun k h1 h2 => (hset_ne _ _ (ad_ne hA h2)).trans (hset_ne _ _ (ad_ne hA h1))
  obtain ⟨p1, p2, ⟨a3, a4, a5, a6, a7⟩, ⟨b8, b9, b10⟩, p5, p6⟩ := c2
  refine ⟨c1.ag (fun k hk2 => hk k (by omega) (by omega)), ⟨(hk 1 (by decide) (by decide)).trans p1, (hset_ne _ _ (ad_ne hA (by decide))).trans (hset_self _ _ _), ⟨hset_self _ _ _, (hk 4 (by decide) (by decide)).trans a4, (hk 5 (by decide) (by decide)).trans a5, (hk 6 (by decide) (by decide)).trans a6, (hk 7 (by decide) (by decide)).trans a7⟩, ⟨(hk 8 (by decide) (by decide)).trans b8, (hk 9 (by decide) (by decide)).trans b9, (hk 10 (by decide) (by decide)).trans b10⟩, p5.ag (fun k _ _ => hk k (by omega) (by omega)), p6.ag (fun k _ _ => hk k (by omega) (by omega))⟩, c3, c4, rfl, by omega, fB_bd c7 W N 20, (hk 149 (by decide) (by decide)).trans c8⟩
theorem LM.feed (hA : ∀ k l, ad k = ad l → k = l) (hl : LM h ad sv rv m ρ B N) (W : Nat → Int32) : LM (hset (hset h (ad 200) (.inr (10, obM ad sv rv (mU (mU m 0 0) 6 ↑(N + 20))))) (ad 201) (arB 900 (fB B W N 20))) ad sv rv (mU (mU m 0 0) 6 ↑(N + 20)) ρ (fB B W N 20) (N + 20) := by
  obtain ⟨c1, c2, c3, c4, c5, c6⟩ := hl
  exact ⟨(hset_ne _ _ (ad_ne hA (by decide))).trans (hset_self _ _ _), hset_self _ _ _, c3.ag (fun k _ _ => (hset_ne _ _ (ad_ne hA (by omega))).trans (hset_ne _ _ (ad_ne hA (by omega)))), c4, c5, rfl⟩
theorem LM.ob (hA : ∀ k l, ad k = ad l → k = l) (hl : LM h ad sv rv m ρ B N) {m' : Nat → Int} (h6 : m' 6 = ↑N) : LM (hset h (ad 200) (.inr (10, obM ad sv rv m'))) ad sv rv m' ρ B N := by
  obtain ⟨c1, c2, c3, c4, c5, c6⟩ := hl
  exact ⟨hset_self _ _ _, (hset_ne _ _ (ad_ne hA (by decide))).trans c2, c3.ag (fun k _ _ => hset_ne _ _ (ad_ne hA (by omega))), c4, c5, h6⟩
end LAWI
