/-! ===== what a line leaves: its place lives, its room is kept ===== -/
section LIV
variable {T : Nat → Int} {n : Nat} {ζ : zT}
theorem sb_inr {α β : Type} {x : pR α} {f : α → pR β} {r : β} (h : sb x f = .inr r) : ∃ a, x = .inr a ∧ f a = .inr r := by
  cases x with
  | inl e => cases h
  | inr a => exact ⟨a, rfl, h⟩
theorem ite_inr {α : Type} {c : Prop} [Decidable c] {e : Nat × Nat} {x : pR α} {r : α} (h : (if c then (.inl e : pR α) else x) = .inr r) : ¬ c ∧ x = .inr r := by
  by_cases hc : c
  · rw [if_pos hc] at h; cases h
  · rw [if_neg hc] at h; exact ⟨hc, h⟩
theorem tK_s {i : Nat} (h : 1 ≤ tK T n i) : 2 ≤ tS T n i := by
  have := (tK_iff (T := T) (n := n) (i := i) h (tK_le i)).mp rfl
  omega
theorem pWd_l {k i j : Nat} (hk : 1 ≤ k) (hl : liv T n i) (h : pWd T n k i = .inr j) : liv T n j ∧ j = i + 1 := by
  unfold pWd at h
  by_cases c : tK T n i = k
  · rw [if_pos c] at h
    have e := Sum.inr.inj h
    subst e
    exact ⟨liv_s hl (tK_s (by omega)), rfl⟩
  · rw [if_neg c] at h; cases h
theorem pNum_l {k lo hi i : Nat} {a : Nat × Nat} (hk : 1 ≤ k) (hl : liv T n i) (h : pNum T n k lo hi i = .inr a) : liv T n a.1 ∧ i ≤ a.1 := by
  obtain ⟨j, h1, h2⟩ := sb_inr h
  obtain ⟨l1, rfl⟩ := pWd_l hk hl h1
  unfold pVal at h2
  by_cases c : tS T n (i + 1) = 3
  · rw [if_pos c] at h2
    by_cases d : lo ≤ tV T n (i + 1) ∧ tV T n (i + 1) ≤ hi
    · rw [if_pos d] at h2
      have e := Sum.inr.inj h2
      subst e
      exact ⟨liv_s l1 (by omega), by show i ≤ i + 1 + 1; omega⟩
    · rw [if_neg d] at h2; cases h2
  · rw [if_neg c] at h2; cases h2
theorem nmB_s {i : Nat} (h : ¬ nmB T n i = false) : 2 ≤ tS T n i := by
  have := of_decide_eq_true (Bool.not_eq_false _ ▸ h : nmB T n i = true)
  omega
theorem pNew_l {i j : Nat} (hl : liv T n i) (h : pNew T n ζ i = .inr j) : liv T n j ∧ j = i + 1 := by
  obtain ⟨c, h1⟩ := ite_inr h
  obtain ⟨d, h2⟩ := ite_inr h1
  have e := Sum.inr.inj h2
  subst e
  exact ⟨liv_s hl (nmB_s c), rfl⟩
theorem pTold_l {s i k : Nat} (hl : liv T n i) (h : pTold T n ζ s i = .inr k) : liv T n (i + 1) := liv_s hl (nmB_s (ite_inr h).1)
theorem line_l {i : Nat} {r : Nat × zT} (hl : liv T n i) (h : line T n ζ i = .inr r) : liv T n r.1 ∧ i + 1 ≤ r.1 := by
  unfold line at h
  obtain ⟨c0, h⟩ := ite_inr h
  obtain ⟨-, h⟩ := ite_inr h
  have l1 : liv T n (i + 1) := liv_s hl (tK_s (by omega))
  by_cases k1 : tK T n i = 1
  · rw [if_pos k1] at h
    obtain ⟨-, h⟩ := ite_inr h
    obtain ⟨a, ha, h⟩ := sb_inr h
    obtain ⟨b, hb, h⟩ := sb_inr h
    obtain ⟨c, hc, h⟩ := sb_inr h
    obtain ⟨d, hd, h⟩ := sb_inr h
    obtain ⟨m1, n1⟩ := pNum_l (by decide) l1 ha
    obtain ⟨m2, n2⟩ := pNum_l (by decide) m1 hb
    obtain ⟨m3, n3⟩ := pNum_l (by decide) m2 hc
    obtain ⟨m4, n4⟩ := pNum_l (by decide) m3 hd
    have e := Sum.inr.inj h
    subst e
    exact ⟨m4, by show i + 1 ≤ d.1; omega⟩
  rw [if_neg k1] at h
  by_cases k2 : tK T n i = 2
  · rw [if_pos k2] at h
    obtain ⟨-, h⟩ := ite_inr h
    obtain ⟨j, hj, h⟩ := sb_inr h
    obtain ⟨a, ha, h⟩ := sb_inr h
    obtain ⟨m1, n1⟩ := pNew_l l1 hj
    obtain ⟨m2, n2⟩ := pNum_l (by decide) m1 ha
    have e := Sum.inr.inj h
    subst e
    exact ⟨m2, by show i + 1 ≤ a.1; omega⟩
  rw [if_neg k2] at h
  by_cases k3 : tK T n i = 3
  · rw [if_pos k3] at h
    obtain ⟨-, h⟩ := ite_inr h
    obtain ⟨j, hj, h⟩ := sb_inr h
    obtain ⟨kd, hkd, h⟩ := sb_inr h
    obtain ⟨j2, hj2, h⟩ := sb_inr h
    obtain ⟨hh, hhh, h⟩ := sb_inr h
    obtain ⟨-, h⟩ := ite_inr h
    obtain ⟨a, ha, h⟩ := sb_inr h
    obtain ⟨b, hb, h⟩ := sb_inr h
    obtain ⟨m1, n1⟩ := pNew_l l1 hj
    have ks : 19 ≤ tK T n j := by
      unfold pKind at hkd
      by_cases c : 19 ≤ tK T n j
      · exact c
      · rw [if_neg c] at hkd; cases hkd
    have m2 := liv_s m1 (tK_s (T := T) (n := n) (i := j) (by omega))
    obtain ⟨m3, n3⟩ := pWd_l (by decide) m2 hj2
    have m4 := pTold_l m3 hhh
    obtain ⟨m5, n5⟩ := pNum_l (by decide) m4 ha
    obtain ⟨m6, n6⟩ := pNum_l (by decide) m5 hb
    have e := Sum.inr.inj h
    subst e
    exact ⟨m6, by show i + 1 ≤ b.1; omega⟩
  rw [if_neg k3] at h
  by_cases k4 : tK T n i = 4
  · rw [if_pos k4] at h
    obtain ⟨-, h⟩ := ite_inr h
    obtain ⟨j, hj, h⟩ := sb_inr h
    obtain ⟨a, ha, h⟩ := sb_inr h
    obtain ⟨m1, n1⟩ := pNew_l l1 hj
    obtain ⟨m2, n2⟩ := pNum_l (by decide) m1 ha
    have e := Sum.inr.inj h
    subst e
    exact ⟨m2, by show i + 1 ≤ a.1; omega⟩
  rw [if_neg k4] at h
  by_cases k5 : tK T n i = 5
  · rw [if_pos k5] at h
    obtain ⟨-, h⟩ := ite_inr h
    obtain ⟨a, ha, h⟩ := sb_inr h
    obtain ⟨b, hb, h⟩ := sb_inr h
    obtain ⟨-, h⟩ := ite_inr h
    have m1 := pTold_l l1 ha
    have m2 := pTold_l m1 hb
    have e := Sum.inr.inj h
    subst e
    exact ⟨m2, by show i + 1 ≤ i + 3; omega⟩
  rw [if_neg k5] at h
  by_cases k6 : tK T n i = 6
  · rw [if_pos k6] at h
    obtain ⟨-, h⟩ := ite_inr h
    obtain ⟨a, ha, h⟩ := sb_inr h
    obtain ⟨b, hb, h⟩ := sb_inr h
    obtain ⟨-, h⟩ := ite_inr h
    have m1 := pTold_l l1 ha
    have m2 := pTold_l m1 hb
    have e := Sum.inr.inj h
    subst e
    exact ⟨m2, by show i + 1 ≤ i + 3; omega⟩
  rw [if_neg k6] at h
  by_cases k7 : tK T n i = 7
  · rw [if_pos k7] at h
    obtain ⟨-, h⟩ := ite_inr h
    obtain ⟨a, ha, h⟩ := sb_inr h
    have m1 := pTold_l l1 ha
    have e := Sum.inr.inj h
    subst e
    exact ⟨m1, by show i + 1 ≤ i + 2; omega⟩
  rw [if_neg k7] at h
  have en : ∀ q, lEnd T n q ζ i = .inr r → liv T n r.1 ∧ i + 1 ≤ r.1 := fun q h => by
    obtain ⟨a, ha, h⟩ := sb_inr h
    obtain ⟨-, h⟩ := ite_inr h
    have m1 := pTold_l l1 ha
    have e := Sum.inr.inj h
    subst e
    exact ⟨m1, by show i + 1 ≤ i + 2; omega⟩
  by_cases k8 : tK T n i = 8
  · rw [if_pos k8] at h; exact en _ h
  · rw [if_neg k8] at h; exact en _ h
theorem CR.t31 {τ : sT} (cr : CR τ ζ) (hz : zOk ζ) : τ 1 14 0 ≤ 31 ∧ τ 1 15 0 ≤ 31 := by
  have h6 := hz.1.2.2.2.2.2.2.1
  have f : ∀ m : Nat, (∀ k, bitN m k = true → k < ζ 6 0) → m ≤ 31 := fun m hm => bN_le (b := 31) (fun k hk => by
    have := hm k hk
    rw [show (31 : Nat) = 2 ^ 5 - 1 from rfl, bN_t, Nat.testBit_two_pow_sub_one]
    exact decide_eq_true (by omega))
  exact ⟨f _ (fun k hk => (cr.2.2.2.2.2.2.2.2.2.1 k hk).1), f _ (fun k hk => cr.2.2.2.2.2.2.2.2.2.2.1 k hk)⟩
def hzR (ζ : zT) : Prop := zOk ζ ∧ ∃ τ, CR τ ζ
theorem line_z {i : Nat} {r : Nat × zT} (hz : hzR ζ) (h : line T n ζ i = .inr r) : hzR r.2 := by
  obtain ⟨hz, τ, cr⟩ := hz
  have rel := rel_line (E := (0, 0, n, T, fun _ => 0, fun _ => 0, fun _ => 0, fun _ => 0)) (i := i) cr hz (cr.t31 hz)
  have h2 : line (eB (0, 0, n, T, fun _ => 0, fun _ => 0, fun _ => 0, fun _ => 0)) (eN (0, 0, n, T, fun _ => 0, fun _ => 0, fun _ => 0, fun _ => 0)) ζ i = .inr r := h
  rw [h2] at rel
  rcases hr : cLine (0, 0, n, T, fun _ => 0, fun _ => 0, fun _ => 0, fun _ => 0) τ i with e | q
  · rw [hr] at rel; exact rel.elim
  · rw [hr] at rel; exact ⟨rel.2.2, q.2, rel.2.1⟩
theorem hzR_0 : hzR z00 := ⟨z00_ok, _, ini_cr (fun _ _ _ => 0)⟩
def lnQ (T : Nat → Int) (n : Nat) (ζ : zT) (i : Nat) : Nat → pR (Nat × zT)
  | 1 => lSafe T n ζ i
  | 2 => lq T n ζ i (lHook T n ζ i)
  | 3 => lq T n ζ i (lSen T n ζ i)
  | 4 => lq T n ζ i (lAct T n ζ i)
  | 5 => lq T n ζ i (lFor T n ζ i)
  | 6 => lq T n ζ i (lRests T n ζ i)
  | 7 => lq T n ζ i (lDoubt T n ζ i)
  | 8 => lq T n ζ i (lEnd T n 1 ζ i)
  | 9 => lq T n ζ i (lEnd T n 2 ζ i)
  | _ => .inl (1, tP T n i)
theorem line_q {i : Nat} : ∀ q, tK T n i = q → line T n ζ i = lnQ T n ζ i q := by
  intro q hq
  unfold line
  rw [hq]
  rcases (show q = 0 ∨ q = 1 ∨ q = 2 ∨ q = 3 ∨ q = 4 ∨ q = 5 ∨ q = 6 ∨ q = 7 ∨ q = 8 ∨ q = 9 ∨ 10 ≤ q by omega) with rfl | rfl | rfl | rfl | rfl | rfl | rfl | rfl | rfl | rfl | h10
  · rfl
  · rw [if_neg (by decide), if_neg (fun z => z.1 rfl), if_pos rfl]; rfl
  all_goals first | (simp only [lnQ, lq]; rw [if_neg (by decide)]; by_cases h0 : ζ 0 0 = 0 <;> simp [h0]) | skip
  rw [if_pos (Or.inr (by omega))]
  unfold lnQ
  split <;> first | omega | rfl
end LIV
