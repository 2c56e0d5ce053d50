/-! ===== moments made in a loop ===== -/
def rfs (N m : Nat) (f : Nat → Nat) : ssE := .inl (3, N, .inr (.inr (.inr (.inr (fun i => if i < m then some (f i) else none)))))
def moF (p : Nat → Nat) : List Value := [.int (zI 0), .int (zI 0), .int (zI 0), .ref (p 1), .ref (p 2), .ref (p 3), .ref (p 4)]
def moC (p : Nat → Nat) (j : Nat) : ssE := if j = 0 then .inr (2, moF p) else if j = 4 then ar 41 (fun _ => 0) else ar 6 (fun _ => 0)
def mo0 : List Value := [.int (zI 0), .int (zI 0), .int (zI 0), .null, .null, .null, .null]
def LpI (h : ssH) (a ci : Nat) (fs : List Value) (B A N : Nat) (q0 : Nat → Nat) (C0 : Nat → ssE) (m : Nat) (q : Nat → Nat) (C : Nat → ssE) (h1 : ssH) : Prop := Ctor h a ci fs (B + 5 * m) q C h1 ∧ (∀ k, k < B → q k = q0 k) ∧ (∀ k, k < B → k ≠ A → C k = C0 k) ∧ C A = rfs N m (fun i => q (B + 5 * i)) ∧ ∀ i j, i < m → j < 5 → C (B + 5 * i + j) = moC (fun t => q (B + 5 * i + t)) j
theorem moC_cg {p p' : Nat → Nat} (e : ∀ t, t < 5 → p t = p' t) (j : Nat) : moC p j = moC p' j := by
  unfold moC moF
  rw [e 1 (by omega), e 2 (by omega), e 3 (by omega), e 4 (by omega)]
section LPI
variable {h h1 h3 : ssH} {a ci B A N m : Nat} {fs : List Value} {q0 q r : Nat → Nat} {C0 C : Nat → ssE} {x : Nat}
theorem LpI.step (hI : LpI h a ci fs B A N q0 C0 m q C h1) (hA : A < B) (hx : h1 x = none) (hd : Ctor (hset h1 x (.inr (2, mo0))) x 2 [.int (zI 0), .int (zI 0), .int (zI 0), .ref (r 0), .ref (r 1), .ref (r 2), .ref (r 3)] 4 r (cC2 r) h3) : h3 (q0 A) = some (rfs N m (fun i => q (B + 5 * i))) ∧ LpI h a ci fs B A N q0 C0 (m + 1) (apN (upN q (B + 5 * m) x) (B + 5 * m + 1) r) (upN (apN (upN (upN C (B + 5 * m) (.inr (2, mo0))) (B + 5 * m) (.inr (2, [.int (zI 0), .int (zI 0), .int (zI 0), .ref (r 0), .ref (r 1), .ref (r 2), .ref (r 3)]))) (B + 5 * m + 1) (cC2 r)) A (.inl (3, N, .inr (.inr (.inr (.inr (va_up (fun i => if i < m then some (q (B + 5 * i)) else none) m (some x)))))))) (hset h3 (q0 A) (.inl (3, N, .inr (.inr (.inr (.inr (va_up (fun i => if i < m then some (q (B + 5 * i)) else none) m (some x)))))))) := by
  obtain ⟨hc, hq, hC, hr, hm⟩ := hI
  have hc1 := hc.push hx (.inr (2, mo0))
  have hd2 : Ctor (hset h1 x (.inr (2, mo0))) (upN q (B + 5 * m) x (B + 5 * m)) 2 [.int (zI 0), .int (zI 0), .int (zI 0), .ref (r 0), .ref (r 1), .ref (r 2), .ref (r 3)] 4 r (cC2 r) h3 := by
    rw [show upN q (B + 5 * m) x (B + 5 * m) = x from if_pos rfl]; exact hd
  have hc2 := hc1.app hd2
  have ql : ∀ k, k < B + 5 * m → apN (upN q (B + 5 * m) x) (B + 5 * m + 1) r k = q k := fun k hk => (if_pos (by omega)).trans (if_neg (by omega))
  have qc : apN (upN q (B + 5 * m) x) (B + 5 * m + 1) r (B + 5 * m) = x := (if_pos (by omega)).trans (if_pos rfl)
  have qh : ∀ j, apN (upN q (B + 5 * m) x) (B + 5 * m + 1) r (B + 5 * m + 1 + j) = r j := fun j => (if_neg (by omega)).trans (congrArg r (by omega))
  have qA : apN (upN q (B + 5 * m) x) (B + 5 * m + 1) r A = q0 A := (ql A (by omega)).trans (hq A hA)
  have cA := (hc2.2.1 A (by omega)).2.2
  rw [qA, show apN (upN (upN C (B + 5 * m) (.inr (2, mo0))) (B + 5 * m) (.inr (2, [.int (zI 0), .int (zI 0), .int (zI 0), .ref (r 0), .ref (r 1), .ref (r 2), .ref (r 3)]))) (B + 5 * m + 1) (cC2 r) A = C A from (if_pos (by omega)).trans ((if_neg (by omega)).trans (if_neg (by omega))), hr] at cA
  refine ⟨cA, ?_⟩
  have hc3 := hc2.setc (k := A) (by omega) (.inl (3, N, .inr (.inr (.inr (.inr (va_up (fun i => if i < m then some (q (B + 5 * i)) else none) m (some x)))))))
  rw [qA] at hc3
  refine ⟨hc3, fun k hk => (ql k (by omega)).trans (hq k hk), fun k hk hkA => ?_, ?_, fun i j hi hj => ?_⟩
  · exact (if_neg hkA).trans ((if_pos (by omega)).trans ((if_neg (by omega)).trans ((if_neg (by omega)).trans (hC k hk hkA))))
  · refine (if_pos rfl).trans ?_
    have ef : va_up (fun i => if i < m then some (q (B + 5 * i)) else none) m (some x) = (fun i => if i < m + 1 then some (apN (upN q (B + 5 * m) x) (B + 5 * m + 1) r (B + 5 * i)) else none) := by
      funext i
      unfold va_up
      by_cases e1 : i = m
      · subst e1
        rw [if_pos rfl, if_pos (by omega), qc]
      · rw [if_neg e1]
        show (if i < m then some (q (B + 5 * i)) else none) = _
        by_cases e2 : i < m
        · rw [if_pos e2, if_pos (by omega), ql _ (by omega)]
        · rw [if_neg e2, if_neg (by omega)]
    rw [ef]; rfl
  · by_cases e1 : i = m
    · subst e1
      refine (if_neg (by omega)).trans ?_
      by_cases e2 : j = 0
      · subst e2
        refine ((if_pos (by omega)).trans (if_pos rfl)).trans ?_
        unfold moC moF
        rw [if_pos rfl, ← qh 0, ← qh 1, ← qh 2, ← qh 3]
      · refine (if_neg (by omega)).trans ?_
        unfold moC
        rw [if_neg e2]
        rcases (show j = 1 ∨ j = 2 ∨ j = 3 ∨ j = 4 by omega) with rfl | rfl | rfl | rfl
        · rw [show B + 5 * i + 1 - (B + 5 * i + 1) = 0 by omega]; rfl
        · rw [show B + 5 * i + 2 - (B + 5 * i + 1) = 1 by omega]; rfl
        · rw [show B + 5 * i + 3 - (B + 5 * i + 1) = 2 by omega]; rfl
        · rw [show B + 5 * i + 4 - (B + 5 * i + 1) = 3 by omega]; rfl
    · refine (if_neg (by omega)).trans ((if_pos (by omega)).trans ((if_neg (by omega)).trans ((if_neg (by omega)).trans ((hm i j (by omega) hj).trans ?_))))
      exact moC_cg (fun t ht => (ql _ (by omega)).symm) j
end LPI
