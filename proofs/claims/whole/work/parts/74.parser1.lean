/-! ===== the class's parser: its state by one table τ (1 the plan that is read, 2 its first moment, 5 the parser) ===== -/
def tU (τ : sT) (o k n v : Nat) : sT := fun a b c => if a = o ∧ b = k ∧ c = n then v else τ a b c
section TU
variable (τ : sT) {o k n v a b c : Nat}
theorem tU_s (o k n v : Nat) : tU τ o k n v o k n = v := by simp [tU]
theorem tU_o (h : a ≠ o) : tU τ o k n v a = τ a := by funext b c; simp [tU, h]
theorem tU_k (h : b ≠ k) : tU τ o k n v o b = τ o b := by funext c; simp [tU, h]
theorem tU_r (o k n v : Nat) : tU τ o k n v o k = fun j => if j = n then v else τ o k j := by funext c; simp [tU]
end TU
def bdT (o k n : Nat) : Nat := if o = 1 then (if k = 0 then 6 else if k = 1 then 9 else if k = 2 then 100 else if k = 3 then 6 else if k = 4 then 9 else if k = 5 then 6 else if k = 6 then 9 else if k = 7 then 5 else if k = 8 then 40 else if k = 9 then 63 else if k = 10 then 31 else if k = 11 then 15 else if k = 12 then 6 else if k = 13 then 6 else if k = 14 then 31 else if k = 15 then 31 else 0)
  else if o = 2 then (if k = 1 then 9 else if n < 6 then (if k = 3 then 2 else if k = 4 then 5 else if k = 5 then 99 else 0) else 0)
  else (if k = 1 then 7 else if k = 2 then 900 else if k = 4 then 1 else if k = 5 then 999 else if k = 6 then 63 else if k = 7 then 17 else if k = 8 then 1099511627775 else if k = 9 then 4 else if k = 10 then 5 else 0)
def TOk (τ : sT) : Prop := ∀ o k n, (o = 1 ∨ o = 2 ∨ o = 5) → τ o k n ≤ bdT o k n
theorem TOk.up {τ : sT} {o k n v : Nat} (h : TOk τ) (hv : v ≤ bdT o k n) : TOk (tU τ o k n v) := fun a b c ha => by
  simp only [tU]
  split
  · rename_i q; rw [q.1, q.2.1, q.2.2]; exact hv
  · exact h a b c ha
theorem TOk.plan {τ : sT} (h : TOk τ) : PlanOk (fI τ 1) (τ 1) := by
  refine ⟨?_, ?_, ?_, ?_, ?_, ?_, fun k => ?_, fun k => ?_, fun k => ?_, fun k => ?_, fun k => ?_, ?_, ?_, ?_, ?_⟩
  · exact h 1 0 0 (by omega)
  · exact h 1 1 0 (by omega)
  · exact h 1 2 0 (by omega)
  · exact h 1 3 0 (by omega)
  · exact h 1 5 0 (by omega)
  · exact h 1 7 0 (by omega)
  · exact h 1 4 k (by omega)
  · exact h 1 6 k (by omega)
  · exact h 1 8 k (by omega)
  · exact Nat.lt_succ_of_le (h 1 9 k (by omega))
  · exact Nat.lt_succ_of_le (h 1 10 k (by omega))
  · exact h 1 11 0 (by omega)
  · exact h 1 12 0 (by omega)
  · exact Nat.lt_succ_of_le (h 1 14 0 (by omega))
  · exact Nat.lt_succ_of_le (h 1 15 0 (by omega))
theorem bd2 (k n : Nat) : bdT 2 k n = if k = 1 then 9 else if n < 6 then (if k = 3 then 2 else if k = 4 then 5 else if k = 5 then 99 else 0) else 0 := rfl
theorem TOk.mom {τ : sT} (h : TOk τ) : MomOk (fI τ 2) (τ 2) ∧ τ 2 0 0 = 0 ∧ τ 2 2 0 = 0 ∧ (∀ k n, (3 ≤ k ∧ k ≤ 5 ∧ 6 ≤ n) ∨ k = 6 → τ 2 k n = 0) := by
  have h0 := h 2 0 0 (by omega)
  have h1 := h 2 1 0 (by omega)
  have h2 := h 2 2 0 (by omega)
  rw [bd2] at h0 h1 h2
  simp at h0 h1 h2
  refine ⟨⟨by unfold fI; omega, by unfold fI; omega, by unfold fI; omega, fun k => ?_, fun k => ?_, fun k => ?_, fun k => ?_⟩, h0, h2, fun k n hk => ?_⟩
  · have q := h 2 3 k (by omega)
    simp [bd2] at q
    split at q <;> omega
  · have q := h 2 4 k (by omega)
    simp [bd2] at q
    split at q <;> omega
  · have q := h 2 5 k (by omega)
    simp [bd2] at q
    split at q <;> omega
  · have q := h 2 6 k (by omega)
    simp [bd2] at q
    omega
  · have q := h 2 k n (by omega)
    rcases hk with ⟨q1, q2, q3⟩ | q1
    · rw [bd2, if_neg (by omega), if_neg (by omega)] at q; omega
    · subst q1
      simp [bd2] at q
      omega
/-- what the reader holds of one text -/
abbrev pE : Type := Int × Nat × Nat × (Nat → Int) × (Nat → Nat) × (Nat → Nat) × (Nat → Nat) × (Nat → Int64)
def eL (E : pE) : Int := E.1
def eX (E : pE) : Nat := E.2.1
def eN (E : pE) : Nat := E.2.2.1
def eB (E : pE) : Nat → Int := E.2.2.2.1
def eS (E : pE) : Nat → Nat := E.2.2.2.2.1
def eP (E : pE) : Nat → Nat := E.2.2.2.2.2.1
def eK (E : pE) : Nat → Nat := E.2.2.2.2.2.2.1
def eV (E : pE) : Nat → Int64 := E.2.2.2.2.2.2.2
def TkE (E : pE) : Prop := TkI (eB E) (eN E) 901 (eS E) (eP E) (eK E) (eV E) ∧ eN E ≤ 900
abbrev obP (ad : Nat → Nat) (po : Nat) (τ : sT) : List Value := [.ref (ad 2), .int (zI ↑(τ 5 1 0)), .int (zI ↑(τ 5 2 0)), .ref (ad po), .int (zI ↑(τ 5 4 0)), .int (zI ↑(τ 5 5 0)), .int (zI ↑(τ 5 6 0)), .int (zI ↑(τ 5 7 0)), .ref (ad 8), .ref (ad 9), .ref (ad 10)]
abbrev obE (ad : Nat → Nat) (E : pE) (i : Nat) : List Value := obR ad (eL E) ↑(eS E i) ↑(eP E i) ↑(eK E i) (eV E i) ↑(eX E) ↑(eN E) ↑i
def PW (h : ssH) (ad : Nat → Nat) (po : Nat) (E : pE) (τ : sT) (i : Nat) : Prop := h (ad 1) = some (.inr (3, obP ad po τ)) ∧ h (ad 2) = some (.inr (5, obE ad E i)) ∧ RdA h ad (eB E) (eS E) (eP E) (eK E) (eV E) ∧ (h (ad 8) = some (arL 17 (τ 5 8)) ∧ h (ad 9) = some (ar 17 (τ 5 9)) ∧ h (ad 10) = some (ar 17 (τ 5 10))) ∧ CPlan h ad po τ ∧ CMom h ad (po + 6) τ 2
def frC (ad : Nat → Nat) (po : Nat) (h h' : ssH) : Prop := ∀ b, b ≠ ad 1 → b ≠ ad 2 → b ≠ ad 8 → b ≠ ad 9 → b ≠ ad 10 → (∀ k, po ≤ k → k < po + 11 → b ≠ ad k) → h' b = h b
section PWX
variable {h h1 h2 : ssH} {ad : Nat → Nat} {po : Nat} {E : pE} {τ : sT} {i : Nat}
theorem frC.rf (ad : Nat → Nat) (po : Nat) (h : ssH) : frC ad po h h := fun _ _ _ _ _ _ _ => rfl
theorem frC.tr (a : frC ad po h h1) (b : frC ad po h1 h2) : frC ad po h h2 := fun q a1 a2 a3 a4 a5 a6 => (b q a1 a2 a3 a4 a5 a6).trans (a q a1 a2 a3 a4 a5 a6)
theorem frC.set {k : Nat} (hk : k = 1 ∨ k = 2 ∨ k = 8 ∨ k = 9 ∨ k = 10 ∨ (po ≤ k ∧ k < po + 11)) (e : ssE) : frC ad po h (hset h (ad k) e) := fun q a1 a2 a3 a4 a5 a6 => hset_ne _ _ (fun z => by
  subst z
  rcases hk with rfl | rfl | rfl | rfl | rfl | ⟨h1, h2⟩
  · exact a1 rfl
  · exact a2 rfl
  · exact a3 rfl
  · exact a4 rfl
  · exact a5 rfl
  · exact a6 _ h1 h2 rfl)
theorem RdA.fr {B : Nat → Int} {S P K : Nat → Nat} {V : Nat → Int64} {k : Nat} {e : ssE} (hA : ∀ k l, ad k = ad l → k = l) (ha : RdA h ad B S P K V) (hk : k < 3 ∨ 8 ≤ k) : RdA (hset h (ad k) e) ad B S P K V :=
  ⟨(hset_ne _ _ (ad_ne hA (by omega))).trans ha.1, (hset_ne _ _ (ad_ne hA (by omega))).trans ha.2.1, (hset_ne _ _ (ad_ne hA (by omega))).trans ha.2.2.1, (hset_ne _ _ (ad_ne hA (by omega))).trans ha.2.2.2.1, (hset_ne _ _ (ad_ne hA (by omega))).trans ha.2.2.2.2⟩
theorem PW.ne {o : Nat} {a b : sT} (h : a o = b o) : a o = b o := h
/-- a write to the parser -/
theorem PW.pI (hA : ∀ k l, ad k = ad l → k = l) (hp : po = 11 ∨ po = 22) (hw : PW h ad po E τ i) (k v : Nat) (hk : k = 1 ∨ k = 2 ∨ k = 4 ∨ k = 5 ∨ k = 6 ∨ k = 7) : PW (hset h (ad 1) (.inr (3, (obP ad po τ).set k (.int (zI ↑v))))) ad po E (tU τ 5 k 0 v) i := by
  obtain ⟨w1, w2, w3, ⟨w4, w5, w6⟩, w7, w8⟩ := hw
  refine ⟨?_, (hset_ne _ _ (ad_ne hA (by decide))).trans w2, w3.fr hA (by omega), ⟨?_, ?_, ?_⟩, (w7.fr hA (by omega)).eq (tU_o τ (by decide)), (w8.fr hA (by omega)).eq (tU_o τ (by decide))⟩
  · rw [hset_self]
    rcases hk with rfl | rfl | rfl | rfl | rfl | rfl <;> simp [obP, tU]
  · rw [tU_k τ (by omega)]; exact (hset_ne _ _ (ad_ne hA (by decide))).trans w4
  · rw [tU_k τ (by omega)]; exact (hset_ne _ _ (ad_ne hA (by decide))).trans w5
  · rw [tU_k τ (by omega)]; exact (hset_ne _ _ (ad_ne hA (by decide))).trans w6
theorem PW.ob (hA : ∀ k l, ad k = ad l → k = l) (hp : po = 11 ∨ po = 22) (hw : PW h ad po E τ i) (j : Nat) : PW (hset h (ad 2) (.inr (5, obE ad E j))) ad po E τ j := by
  obtain ⟨w1, w2, w3, ⟨w4, w5, w6⟩, w7, w8⟩ := hw
  exact ⟨(hset_ne _ _ (ad_ne hA (by decide))).trans w1, hset_self _ _ _, w3.fr hA (by omega), ⟨(hset_ne _ _ (ad_ne hA (by decide))).trans w4, (hset_ne _ _ (ad_ne hA (by decide))).trans w5, (hset_ne _ _ (ad_ne hA (by decide))).trans w6⟩, w7.fr hA (by omega), w8.fr hA (by omega)⟩
theorem PW.n8 (hA : ∀ k l, ad k = ad l → k = l) (hp : po = 11 ∨ po = 22) (hw : PW h ad po E τ i) (c v : Nat) : PW (hset h (ad 8) (arL 17 (fun j => if j = c then v else τ 5 8 j))) ad po E (tU τ 5 8 c v) i := by
  obtain ⟨w1, w2, w3, ⟨w4, w5, w6⟩, w7, w8⟩ := hw
  refine ⟨?_, (hset_ne _ _ (ad_ne hA (by decide))).trans w2, w3.fr hA (by omega), ⟨?_, ?_, ?_⟩, (w7.fr hA (by omega)).eq (tU_o τ (by decide)), (w8.fr hA (by omega)).eq (tU_o τ (by decide))⟩
  · rw [hset_ne _ _ (ad_ne hA (by decide)), w1]
    simp [obP, tU]
  · rw [tU_r, hset_self]
  · rw [tU_k τ (by omega)]; exact (hset_ne _ _ (ad_ne hA (by decide))).trans w5
  · rw [tU_k τ (by omega)]; exact (hset_ne _ _ (ad_ne hA (by decide))).trans w6
theorem PW.n9 (hA : ∀ k l, ad k = ad l → k = l) (hp : po = 11 ∨ po = 22) (hw : PW h ad po E τ i) (c v : Nat) : PW (hset h (ad 9) (ar 17 (fun j => if j = c then v else τ 5 9 j))) ad po E (tU τ 5 9 c v) i := by
  obtain ⟨w1, w2, w3, ⟨w4, w5, w6⟩, w7, w8⟩ := hw
  refine ⟨?_, (hset_ne _ _ (ad_ne hA (by decide))).trans w2, w3.fr hA (by omega), ⟨?_, ?_, ?_⟩, (w7.fr hA (by omega)).eq (tU_o τ (by decide)), (w8.fr hA (by omega)).eq (tU_o τ (by decide))⟩
  · rw [hset_ne _ _ (ad_ne hA (by decide)), w1]
    simp [obP, tU]
  · rw [tU_k τ (by omega)]; exact (hset_ne _ _ (ad_ne hA (by decide))).trans w4
  · rw [tU_r, hset_self]
  · rw [tU_k τ (by omega)]; exact (hset_ne _ _ (ad_ne hA (by decide))).trans w6
theorem PW.n10 (hA : ∀ k l, ad k = ad l → k = l) (hp : po = 11 ∨ po = 22) (hw : PW h ad po E τ i) (c v : Nat) : PW (hset h (ad 10) (ar 17 (fun j => if j = c then v else τ 5 10 j))) ad po E (tU τ 5 10 c v) i := by
  obtain ⟨w1, w2, w3, ⟨w4, w5, w6⟩, w7, w8⟩ := hw
  refine ⟨?_, (hset_ne _ _ (ad_ne hA (by decide))).trans w2, w3.fr hA (by omega), ⟨?_, ?_, ?_⟩, (w7.fr hA (by omega)).eq (tU_o τ (by decide)), (w8.fr hA (by omega)).eq (tU_o τ (by decide))⟩
  · rw [hset_ne _ _ (ad_ne hA (by decide)), w1]
    simp [obP, tU]
  · rw [tU_k τ (by omega)]; exact (hset_ne _ _ (ad_ne hA (by decide))).trans w4
  · rw [tU_k τ (by omega)]; exact (hset_ne _ _ (ad_ne hA (by decide))).trans w5
  · rw [tU_r, hset_self]
theorem obP_o {v o k n : Nat} (h : o ≠ 5) : obP ad po (tU τ o k n v) = obP ad po τ := by simp only [obP]; rw [tU_o τ (fun e => h e.symm)]
theorem obP5 {σ : sT} (h : σ 5 = τ 5) : obP ad po σ = obP ad po τ := by simp only [obP]; rw [h]
/-- another plan or first moment in its own cells -/
theorem PW.pl (hA : ∀ k l, ad k = ad l → k = l) (hp : po = 11 ∨ po = 22) (hw : PW h ad po E τ i) {k : Nat} {σ : sT} {e : ssE} (hk : po ≤ k ∧ k < po + 11) (h5 : σ 5 = τ 5) (h7 : CPlan (hset h (ad k) e) ad po σ) (h8 : CMom (hset h (ad k) e) ad (po + 6) σ 2) : PW (hset h (ad k) e) ad po E σ i := by
  obtain ⟨w1, w2, w3, ⟨w4, w5, w6⟩, w7, w8⟩ := hw
  refine ⟨?_, (hset_ne _ _ (ad_ne hA (by omega))).trans w2, w3.fr hA (by omega), ⟨?_, ?_, ?_⟩, h7, h8⟩
  · rw [hset_ne _ _ (ad_ne hA (by omega)), w1, obP5 h5]
  · rw [h5]; exact (hset_ne _ _ (ad_ne hA (by omega))).trans w4
  · rw [h5]; exact (hset_ne _ _ (ad_ne hA (by omega))).trans w5
  · rw [h5]; exact (hset_ne _ _ (ad_ne hA (by omega))).trans w6
theorem PW.plI (hA : ∀ k l, ad k = ad l → k = l) (hp : po = 11 ∨ po = 22) (hw : PW h ad po E τ i) (k v : Nat) (hk : k = 0 ∨ k = 1 ∨ k = 2 ∨ k = 3 ∨ k = 5 ∨ k = 7 ∨ k = 11 ∨ k = 12 ∨ k = 14 ∨ k = 15) : PW (hset h (ad po) (.inr (4, (ob4 (fI τ 1) (Rp ad po) (↑(τ 1 13 0) - 1)).set k (.int (zI ↑v))))) ad po E (tU τ 1 k 0 v) i := by
  have w7 := hw.2.2.2.2.1
  refine hw.pl hA hp ⟨Nat.le_refl _, by omega⟩ (tU_o τ (by decide)) ⟨?_, ?_, ?_, ?_, ?_, ?_⟩ ((hw.2.2.2.2.2.fr hA (by omega)).eq (tU_o τ (by decide)))
  · rw [hset_self]
    rcases hk with rfl | rfl | rfl | rfl | rfl | rfl | rfl | rfl | rfl | rfl <;> simp [ob4, fI, tU]
  · rw [tU_k τ (by omega)]; exact (hset_ne _ _ (ad_ne hA (by simp))).trans w7.2.1
  · rw [tU_k τ (by omega)]; exact (hset_ne _ _ (ad_ne hA (by simp))).trans w7.2.2.1
  · rw [tU_k τ (by omega)]; exact (hset_ne _ _ (ad_ne hA (by simp))).trans w7.2.2.2.1
  · rw [tU_k τ (by omega)]; exact (hset_ne _ _ (ad_ne hA (by simp))).trans w7.2.2.2.2.1
  · rw [tU_k τ (by omega)]; exact (hset_ne _ _ (ad_ne hA (by simp))).trans w7.2.2.2.2.2
theorem PW.plD (hA : ∀ k l, ad k = ad l → k = l) (hp : po = 11 ∨ po = 22) (hw : PW h ad po E τ i) (v : Nat) {x : Int} (hx : x = ↑v - 1) : PW (hset h (ad po) (.inr (4, (ob4 (fI τ 1) (Rp ad po) (↑(τ 1 13 0) - 1)).set 13 (.int (zI x))))) ad po E (tU τ 1 13 0 v) i := by
  have w7 := hw.2.2.2.2.1
  subst hx
  refine hw.pl hA hp ⟨Nat.le_refl _, by omega⟩ (tU_o τ (by decide)) ⟨?_, ?_, ?_, ?_, ?_, ?_⟩ ((hw.2.2.2.2.2.fr hA (by omega)).eq (tU_o τ (by decide)))
  · rw [hset_self]
    simp [ob4, fI, tU]
  · rw [tU_k τ (by omega)]; exact (hset_ne _ _ (ad_ne hA (by simp))).trans w7.2.1
  · rw [tU_k τ (by omega)]; exact (hset_ne _ _ (ad_ne hA (by simp))).trans w7.2.2.1
  · rw [tU_k τ (by omega)]; exact (hset_ne _ _ (ad_ne hA (by simp))).trans w7.2.2.2.1
  · rw [tU_k τ (by omega)]; exact (hset_ne _ _ (ad_ne hA (by simp))).trans w7.2.2.2.2.1
  · rw [tU_k τ (by omega)]; exact (hset_ne _ _ (ad_ne hA (by simp))).trans w7.2.2.2.2.2
theorem PW.pr4 (hA : ∀ k l, ad k = ad l → k = l) (hp : po = 11 ∨ po = 22) (hw : PW h ad po E τ i) (c v : Nat) : PW (hset h (Rp ad po 4) (ar 6 (fun j => if j = c then v else τ 1 4 j))) ad po E (tU τ 1 4 c v) i := by
  have w7 := hw.2.2.2.2.1
  refine hw.pl (k := po + 1) hA hp ⟨by omega, by omega⟩ (tU_o τ (by decide)) ⟨?_, ?_, ?_, ?_, ?_, ?_⟩ ((hw.2.2.2.2.2.fr hA (by omega)).eq (tU_o τ (by decide)))
  · rw [hset_ne _ _ (ad_ne hA (by omega)), w7.1]
    simp [ob4, fI, tU]
  · rw [tU_r]; exact hset_self _ _ _
  · rw [tU_k τ (by omega)]; exact (hset_ne _ _ (ad_ne hA (by simp))).trans w7.2.2.1
  · rw [tU_k τ (by omega)]; exact (hset_ne _ _ (ad_ne hA (by simp))).trans w7.2.2.2.1
  · rw [tU_k τ (by omega)]; exact (hset_ne _ _ (ad_ne hA (by simp))).trans w7.2.2.2.2.1
  · rw [tU_k τ (by omega)]; exact (hset_ne _ _ (ad_ne hA (by simp))).trans w7.2.2.2.2.2
theorem PW.pr6 (hA : ∀ k l, ad k = ad l → k = l) (hp : po = 11 ∨ po = 22) (hw : PW h ad po E τ i) (c v : Nat) : PW (hset h (Rp ad po 6) (ar 6 (fun j => if j = c then v else τ 1 6 j))) ad po E (tU τ 1 6 c v) i := by
  have w7 := hw.2.2.2.2.1
  refine hw.pl (k := po + 2) hA hp ⟨by omega, by omega⟩ (tU_o τ (by decide)) ⟨?_, ?_, ?_, ?_, ?_, ?_⟩ ((hw.2.2.2.2.2.fr hA (by omega)).eq (tU_o τ (by decide)))
  · rw [hset_ne _ _ (ad_ne hA (by omega)), w7.1]
    simp [ob4, fI, tU]
  · rw [tU_k τ (by omega)]; exact (hset_ne _ _ (ad_ne hA (by simp))).trans w7.2.1
  · rw [tU_r]; exact hset_self _ _ _
  · rw [tU_k τ (by omega)]; exact (hset_ne _ _ (ad_ne hA (by simp))).trans w7.2.2.2.1
  · rw [tU_k τ (by omega)]; exact (hset_ne _ _ (ad_ne hA (by simp))).trans w7.2.2.2.2.1
  · rw [tU_k τ (by omega)]; exact (hset_ne _ _ (ad_ne hA (by simp))).trans w7.2.2.2.2.2
theorem PW.pr8 (hA : ∀ k l, ad k = ad l → k = l) (hp : po = 11 ∨ po = 22) (hw : PW h ad po E τ i) (c v : Nat) : PW (hset h (Rp ad po 8) (ar 5 (fun j => if j = c then v else τ 1 8 j))) ad po E (tU τ 1 8 c v) i := by
  have w7 := hw.2.2.2.2.1
  refine hw.pl (k := po + 3) hA hp ⟨by omega, by omega⟩ (tU_o τ (by decide)) ⟨?_, ?_, ?_, ?_, ?_, ?_⟩ ((hw.2.2.2.2.2.fr hA (by omega)).eq (tU_o τ (by decide)))
  · rw [hset_ne _ _ (ad_ne hA (by omega)), w7.1]
    simp [ob4, fI, tU]
  · rw [tU_k τ (by omega)]; exact (hset_ne _ _ (ad_ne hA (by simp))).trans w7.2.1
  · rw [tU_k τ (by omega)]; exact (hset_ne _ _ (ad_ne hA (by simp))).trans w7.2.2.1
  · rw [tU_r]; exact hset_self _ _ _
  · rw [tU_k τ (by omega)]; exact (hset_ne _ _ (ad_ne hA (by simp))).trans w7.2.2.2.2.1
  · rw [tU_k τ (by omega)]; exact (hset_ne _ _ (ad_ne hA (by simp))).trans w7.2.2.2.2.2
theorem PW.pr9 (hA : ∀ k l, ad k = ad l → k = l) (hp : po = 11 ∨ po = 22) (hw : PW h ad po E τ i) (c v : Nat) : PW (hset h (Rp ad po 9) (ar 5 (fun j => if j = c then v else τ 1 9 j))) ad po E (tU τ 1 9 c v) i := by
  have w7 := hw.2.2.2.2.1
  refine hw.pl (k := po + 4) hA hp ⟨by omega, by omega⟩ (tU_o τ (by decide)) ⟨?_, ?_, ?_, ?_, ?_, ?_⟩ ((hw.2.2.2.2.2.fr hA (by omega)).eq (tU_o τ (by decide)))
  · rw [hset_ne _ _ (ad_ne hA (by omega)), w7.1]
    simp [ob4, fI, tU]
  · rw [tU_k τ (by omega)]; exact (hset_ne _ _ (ad_ne hA (by simp))).trans w7.2.1
  · rw [tU_k τ (by omega)]; exact (hset_ne _ _ (ad_ne hA (by simp))).trans w7.2.2.1
  · rw [tU_k τ (by omega)]; exact (hset_ne _ _ (ad_ne hA (by simp))).trans w7.2.2.2.1
  · rw [tU_r]; exact hset_self _ _ _
  · rw [tU_k τ (by omega)]; exact (hset_ne _ _ (ad_ne hA (by simp))).trans w7.2.2.2.2.2
theorem PW.pr10 (hA : ∀ k l, ad k = ad l → k = l) (hp : po = 11 ∨ po = 22) (hw : PW h ad po E τ i) (c v : Nat) : PW (hset h (Rp ad po 10) (ar 5 (fun j => if j = c then v else τ 1 10 j))) ad po E (tU τ 1 10 c v) i := by
  have w7 := hw.2.2.2.2.1
  refine hw.pl (k := po + 5) hA hp ⟨by omega, by omega⟩ (tU_o τ (by decide)) ⟨?_, ?_, ?_, ?_, ?_, ?_⟩ ((hw.2.2.2.2.2.fr hA (by omega)).eq (tU_o τ (by decide)))
  · rw [hset_ne _ _ (ad_ne hA (by omega)), w7.1]
    simp [ob4, fI, tU]
  · rw [tU_k τ (by omega)]; exact (hset_ne _ _ (ad_ne hA (by simp))).trans w7.2.1
  · rw [tU_k τ (by omega)]; exact (hset_ne _ _ (ad_ne hA (by simp))).trans w7.2.2.1
  · rw [tU_k τ (by omega)]; exact (hset_ne _ _ (ad_ne hA (by simp))).trans w7.2.2.2.1
  · rw [tU_k τ (by omega)]; exact (hset_ne _ _ (ad_ne hA (by simp))).trans w7.2.2.2.2.1
  · rw [tU_r]; exact hset_self _ _ _
theorem PW.mr3 (hA : ∀ k l, ad k = ad l → k = l) (hp : po = 11 ∨ po = 22) (hw : PW h ad po E τ i) (c v : Nat) : PW (hset h (Rm ad (po + 6) 3) (ar 6 (fun j => if j = c then v else τ 2 3 j))) ad po E (tU τ 2 3 c v) i := by
  have w8 := hw.2.2.2.2.2
  refine hw.pl (k := po + 6 + (3 - 2)) hA hp ⟨by omega, by omega⟩ (tU_o τ (by decide)) ((hw.2.2.2.2.1.fr hA (by omega)).eq (tU_o τ (by decide))) ⟨?_, ?_, ?_, ?_, ?_⟩
  · rw [hset_ne _ _ (ad_ne hA (by omega)), w8.1]
    simp [ob2, fI, tU]
  · rw [tU_r]; exact hset_self _ _ _
  · rw [tU_k τ (by omega)]; exact (hset_ne _ _ (ad_ne hA (by omega))).trans w8.2.2.1
  · rw [tU_k τ (by omega)]; exact (hset_ne _ _ (ad_ne hA (by omega))).trans w8.2.2.2.1
  · rw [tU_k τ (by omega)]; exact (hset_ne _ _ (ad_ne hA (by omega))).trans w8.2.2.2.2
theorem PW.mr4 (hA : ∀ k l, ad k = ad l → k = l) (hp : po = 11 ∨ po = 22) (hw : PW h ad po E τ i) (c v : Nat) : PW (hset h (Rm ad (po + 6) 4) (ar 6 (fun j => if j = c then v else τ 2 4 j))) ad po E (tU τ 2 4 c v) i := by
  have w8 := hw.2.2.2.2.2
  refine hw.pl (k := po + 6 + (4 - 2)) hA hp ⟨by omega, by omega⟩ (tU_o τ (by decide)) ((hw.2.2.2.2.1.fr hA (by omega)).eq (tU_o τ (by decide))) ⟨?_, ?_, ?_, ?_, ?_⟩
  · rw [hset_ne _ _ (ad_ne hA (by omega)), w8.1]
    simp [ob2, fI, tU]
  · rw [tU_k τ (by omega)]; exact (hset_ne _ _ (ad_ne hA (by omega))).trans w8.2.1
  · rw [tU_r]; exact hset_self _ _ _
  · rw [tU_k τ (by omega)]; exact (hset_ne _ _ (ad_ne hA (by omega))).trans w8.2.2.2.1
  · rw [tU_k τ (by omega)]; exact (hset_ne _ _ (ad_ne hA (by omega))).trans w8.2.2.2.2
theorem PW.mr5 (hA : ∀ k l, ad k = ad l → k = l) (hp : po = 11 ∨ po = 22) (hw : PW h ad po E τ i) (c v : Nat) : PW (hset h (Rm ad (po + 6) 5) (ar 6 (fun j => if j = c then v else τ 2 5 j))) ad po E (tU τ 2 5 c v) i := by
  have w8 := hw.2.2.2.2.2
  refine hw.pl (k := po + 6 + (5 - 2)) hA hp ⟨by omega, by omega⟩ (tU_o τ (by decide)) ((hw.2.2.2.2.1.fr hA (by omega)).eq (tU_o τ (by decide))) ⟨?_, ?_, ?_, ?_, ?_⟩
  · rw [hset_ne _ _ (ad_ne hA (by omega)), w8.1]
    simp [ob2, fI, tU]
  · rw [tU_k τ (by omega)]; exact (hset_ne _ _ (ad_ne hA (by omega))).trans w8.2.1
  · rw [tU_k τ (by omega)]; exact (hset_ne _ _ (ad_ne hA (by omega))).trans w8.2.2.1
  · rw [tU_r]; exact hset_self _ _ _
  · rw [tU_k τ (by omega)]; exact (hset_ne _ _ (ad_ne hA (by omega))).trans w8.2.2.2.2
theorem PW.mI (hA : ∀ k l, ad k = ad l → k = l) (hp : po = 11 ∨ po = 22) (hw : PW h ad po E τ i) (v : Nat) : PW (hset h (ad (po + 6)) (.inr (2, (ob2 (fI τ 2) (Rm ad (po + 6))).set 1 (.int (zI ↑v))))) ad po E (tU τ 2 1 0 v) i := by
  have w8 := hw.2.2.2.2.2
  refine hw.pl (k := po + 6) hA hp ⟨by omega, by omega⟩ (tU_o τ (by decide)) ((hw.2.2.2.2.1.fr hA (by omega)).eq (tU_o τ (by decide))) ⟨?_, ?_, ?_, ?_, ?_⟩
  · rw [hset_self]
    simp [ob2, fI, tU]
  · rw [tU_k τ (by omega)]; exact (hset_ne _ _ (ad_ne hA (by omega))).trans w8.2.1
  · rw [tU_k τ (by omega)]; exact (hset_ne _ _ (ad_ne hA (by omega))).trans w8.2.2.1
  · rw [tU_k τ (by omega)]; exact (hset_ne _ _ (ad_ne hA (by omega))).trans w8.2.2.2.1
  · rw [tU_k τ (by omega)]; exact (hset_ne _ _ (ad_ne hA (by omega))).trans w8.2.2.2.2
end PWX
