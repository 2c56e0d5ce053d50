/-! ===== the hearing of a text, pure ===== -/
abbrev zT : Type := Nat → Nat → Nat
abbrev pR (α : Type) : Type := (Nat × Nat) ⊕ α
def sb {α β : Type} : pR α → (α → pR β) → pR β
  | .inl e, _ => .inl e
  | .inr a, f => f a
def zU (ζ : zT) (k i v : Nat) : zT := fun a b => if a = k ∧ b = i then v else ζ a b
theorem zU_self (ζ : zT) (k i v : Nat) : zU ζ k i v k i = v := by simp [zU]
theorem zU_row (ζ : zT) {k i v a : Nat} (h : a ≠ k) : zU ζ k i v a = ζ a := by funext b; simp [zU, h]
theorem zU_at (ζ : zT) (k i v b : Nat) : zU ζ k i v k b = if b = i then v else ζ k b := by simp [zU]
section PARSE
variable (T : Nat → Int) (n : Nat)
def pWd (k i : Nat) : pR Nat := if tK T n i = k then .inr (i + 1) else .inl (1, tP T n i)
def pVal (lo hi j : Nat) : pR (Nat × Nat) := if tS T n j = 3 then (if lo ≤ tV T n j ∧ tV T n j ≤ hi then .inr (j + 1, tV T n j) else .inl (4, tP T n j)) else .inl (1, tP T n j)
def pNum (k lo hi i : Nat) : pR (Nat × Nat) := sb (pWd T n k i) (fun j => pVal T n lo hi j)
def nmB (i : Nat) : Bool := decide (tS T n i = 2 ∧ (tK T n i = 0 ∨ 9 < tK T n i))
def fnd (ζ : zT) (w : Nat) : Nat := fstN (fun k => decide (ζ 21 k = w)) (ζ 11 0) 0
def pNew (ζ : zT) (i : Nat) : pR Nat := if nmB T n i = false then .inl (1, tP T n i) else if fnd ζ (tV T n i) < ζ 11 0 then .inl (3, tP T n i) else .inr (i + 1)
def pTold (ζ : zT) (s i : Nat) : pR Nat := if nmB T n i = false then .inl (1, tP T n i) else if fnd ζ (tV T n i) < ζ 11 0 ∧ ζ 22 (fnd ζ (tV T n i)) = s then .inr (ζ 23 (fnd ζ (tV T n i))) else .inl (2, tP T n i)
def zNm (ζ : zT) (w s k : Nat) : zT := zU (zU (zU (zU ζ 21 (ζ 11 0) w) 22 (ζ 11 0) s) 23 (ζ 11 0) k) 11 0 (ζ 11 0 + 1)
def lSafe (ζ : zT) (i : Nat) : pR (Nat × zT) := if 0 < ζ 0 0 then .inl (3, tP T n i) else sb (pNum T n 10 1 6 (i + 1)) (fun a => sb (pNum T n 11 1 9 a.1) (fun b => sb (pNum T n 12 0 100 b.1) (fun c => sb (pNum T n 13 0 9 c.1) (fun d => .inr (d.1, zU (zU (zU (zU ζ 0 0 a.2) 1 0 b.2) 2 0 c.2) 3 0 d.2)))))
def lHook (ζ : zT) (i : Nat) : pR (Nat × zT) := if ζ 4 0 = 6 then .inl (5, tP T n i) else sb (pNew T n ζ (i + 1)) (fun j => sb (pNum T n 14 0 9 j) (fun a => .inr (a.1, zU (zU (zNm ζ (tV T n (i + 1)) 0 (ζ 4 0)) 12 (ζ 4 0) a.2) 4 0 (ζ 4 0 + 1))))
def pKind (j : Nat) : pR Nat := if 19 ≤ tK T n j then .inr (tK T n j - 19) else .inl (1, tP T n j)
def hngB (ζ : zT) (h : Nat) : Bool := decide (fstN (fun s => decide (ζ 14 s = h)) (ζ 5 0) 0 < ζ 5 0)
def lSen (ζ : zT) (i : Nat) : pR (Nat × zT) := if ζ 5 0 = 6 then .inl (5, tP T n i) else sb (pNew T n ζ (i + 1)) (fun j => sb (pKind T n j) (fun kd => sb (pWd T n 15 (j + 1)) (fun j2 => sb (pTold T n ζ 0 j2) (fun h => if hngB ζ h = true then .inl (7, tP T n j2) else sb (pNum T n 16 1 99 (j2 + 1)) (fun a => sb (pNum T n 17 0 9 a.1) (fun b => .inr (b.1, zU (zU (zU (zU (zU (zNm ζ (tV T n (i + 1)) 1 (ζ 5 0)) 13 (ζ 5 0) kd) 14 (ζ 5 0) h) 15 (ζ 5 0) a.2) 16 (ζ 5 0) b.2) 5 0 (ζ 5 0 + 1))))))))
def lAct (ζ : zT) (i : Nat) : pR (Nat × zT) := if ζ 6 0 = 5 then .inl (5, tP T n i) else sb (pNew T n ζ (i + 1)) (fun j => sb (pNum T n 18 0 40 j) (fun a => .inr (a.1, zU (zU (zNm ζ (tV T n (i + 1)) 2 (ζ 6 0)) 17 (ζ 6 0) a.2) 6 0 (ζ 6 0 + 1))))
def lFor (ζ : zT) (i : Nat) : pR (Nat × zT) := if ζ 7 0 = 15 then .inl (5, tP T n i) else sb (pTold T n ζ 1 (i + 1)) (fun s => sb (pTold T n ζ 2 (i + 2)) (fun a => if bitN (ζ 18 a) s = true then .inl (3, tP T n (i + 2)) else .inr (i + 3, zU (zU ζ 18 a (ζ 18 a ||| 2 ^ s)) 7 0 (ζ 7 0 + 1))))
def lRests (ζ : zT) (i : Nat) : pR (Nat × zT) := if ζ 8 0 = 6 then .inl (5, tP T n i) else sb (pTold T n ζ 2 (i + 1)) (fun a => sb (pTold T n ζ 2 (i + 2)) (fun b => if a = b ∨ bitN (ζ 19 a) b = true then .inl (3, tP T n (i + 2)) else .inr (i + 3, zU (zU ζ 19 a (ζ 19 a ||| 2 ^ b)) 8 0 (ζ 8 0 + 1))))
def lDoubt (ζ : zT) (i : Nat) : pR (Nat × zT) := if 0 < ζ 9 0 then .inl (3, tP T n i) else sb (pTold T n ζ 1 (i + 1)) (fun s => .inr (i + 2, zU ζ 9 0 (s + 1)))
def lEnd (e : Nat) (ζ : zT) (i : Nat) : pR (Nat × zT) := sb (pTold T n ζ 2 (i + 1)) (fun a => if 0 < ζ 20 a then .inl (3, tP T n (i + 1)) else .inr (i + 2, zU (zU ζ 20 a e) 10 0 (ζ 10 0 + 1)))
def line (ζ : zT) (i : Nat) : pR (Nat × zT) := if tK T n i = 0 ∨ 9 < tK T n i then .inl (1, tP T n i) else if ¬ tK T n i = 1 ∧ ζ 0 0 = 0 then .inl (6, tP T n i) else if tK T n i = 1 then lSafe T n ζ i else if tK T n i = 2 then lHook T n ζ i else if tK T n i = 3 then lSen T n ζ i else if tK T n i = 4 then lAct T n ζ i else if tK T n i = 5 then lFor T n ζ i else if tK T n i = 6 then lRests T n ζ i else if tK T n i = 7 then lDoubt T n ζ i else if tK T n i = 8 then lEnd T n 1 ζ i else lEnd T n 2 ζ i
def parse : Nat → zT → Nat → pR zT
  | 0, _, i => .inl (1, tP T n i)
  | f + 1, ζ, i => sb (line T n ζ i) (fun r => if tS T n r.1 = 1 then (if r.2 5 0 = 0 then .inl (6, tP T n r.1) else .inr r.2) else if tS T n r.1 = 4 then parse f r.2 (r.1 + 1) else .inl (1, tP T n r.1))
end PARSE
theorem fstN_bd (p : Nat → Bool) : ∀ f k, k ≤ fstN p f k ∧ fstN p f k ≤ k + f ∧ (fstN p f k < k + f → p (fstN p f k) = true) ∧ ∀ j, k ≤ j → j < fstN p f k → p j = false
  | 0, k => ⟨Nat.le_refl _, Nat.le_refl _, fun h => absurd h (by simp [fstN]), fun j h1 h2 => absurd h2 (by simp only [fstN]; omega)⟩
  | f + 1, k => by
    simp only [fstN]
    cases h : p k
    · rw [if_neg (by decide)]
      obtain ⟨h1, h2, h3, h4⟩ := fstN_bd p f (k + 1)
      refine ⟨by omega, by omega, fun q => h3 (by omega), fun j q1 q2 => ?_⟩
      by_cases e : j = k
      · rw [e]; exact h
      · exact h4 j (by omega) q2
    · rw [if_pos rfl]
      exact ⟨Nat.le_refl _, by omega, fun _ => h, fun j q1 q2 => absurd q2 (by omega)⟩
theorem fnd_bd (ζ : zT) (w : Nat) : fnd ζ w ≤ ζ 11 0 ∧ (fnd ζ w < ζ 11 0 → ζ 21 (fnd ζ w) = w) ∧ ∀ j, j < fnd ζ w → ¬ ζ 21 j = w := by
  obtain ⟨h1, h2, h3, h4⟩ := fstN_bd (fun k => decide (ζ 21 k = w)) (ζ 11 0) 0
  unfold fnd
  exact ⟨by omega, fun h => by have := h3 (by omega); simpa using this, fun j hj => by have := h4 j (by omega) hj; simpa using this⟩
/-- what stays true while a text is heard -/
def zOk (ζ : zT) : Prop := (ζ 0 0 ≤ 6 ∧ ζ 1 0 ≤ 9 ∧ ζ 2 0 ≤ 100 ∧ ζ 3 0 ≤ 9 ∧ ζ 4 0 ≤ 6 ∧ ζ 5 0 ≤ 6 ∧ ζ 6 0 ≤ 5 ∧ ζ 7 0 ≤ 15 ∧ ζ 8 0 ≤ 6 ∧ ζ 9 0 ≤ ζ 5 0 ∧ ζ 11 0 = ζ 4 0 + ζ 5 0 + ζ 6 0) ∧ ((∀ k, ζ 12 k ≤ 9) ∧ (∀ k, ζ 13 k ≤ 2) ∧ (∀ k, ζ 14 k < 6) ∧ (∀ k, ζ 15 k ≤ 99) ∧ (∀ k, ζ 16 k ≤ 9) ∧ (∀ k, ζ 17 k ≤ 40) ∧ (∀ k, ζ 18 k < 64) ∧ (∀ k, ζ 19 k < 32) ∧ (∀ k, ζ 20 k ≤ 2)) ∧ ((∀ k, ζ 21 k < 1099511627776) ∧ (∀ k, ζ 22 k ≤ 2) ∧ (∀ k, ζ 23 k < 6) ∧ ∀ k, k < ζ 11 0 → (ζ 22 k = 0 → ζ 23 k < ζ 4 0) ∧ (ζ 22 k = 1 → ζ 23 k < ζ 5 0) ∧ (ζ 22 k = 2 → ζ 23 k < ζ 6 0)) ∧ (ζ 0 0 = 0 → ζ 4 0 = 0 ∧ ζ 5 0 = 0 ∧ ζ 6 0 = 0 ∧ ζ 7 0 = 0 ∧ ζ 8 0 = 0 ∧ ζ 9 0 = 0 ∧ ζ 10 0 = 0 ∧ ζ 11 0 = 0) ∧ (∀ s, s < ζ 5 0 → ζ 14 s < ζ 4 0) ∧ (∀ s t, s < ζ 5 0 → t < ζ 5 0 → ζ 14 s = ζ 14 t → s = t) ∧ (∀ a k, bitN (ζ 19 a) k = true → k < ζ 6 0) ∧ ζ 10 0 ≤ 5
