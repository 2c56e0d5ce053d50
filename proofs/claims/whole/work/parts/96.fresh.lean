/-! ===== faults of a text, and addresses chosen anew ===== -/
def eOk {α : Type} (n : Nat) (x : pR α) : Prop := ∀ e, x = .inl e → 1 ≤ e.1 ∧ e.1 ≤ 7 ∧ e.2 ≤ n
section EOK
variable {T : Nat → Int} {n : Nat} {ζ : zT}
theorem eOk_sb {α β : Type} {x : pR α} {f : α → pR β} (hx : eOk n x) (hf : ∀ a, eOk n (f a)) : eOk n (sb x f) := fun e he => by
  cases x with
  | inl d => exact hx e (by rw [← Sum.inl.inj he])
  | inr a => exact hf a e he
theorem eOk_ite {α : Type} {c : Prop} [Decidable c] {x y : pR α} (hx : eOk n x) (hy : eOk n y) : eOk n (if c then x else y) := by
  by_cases hc : c
  · rw [if_pos hc]; exact hx
  · rw [if_neg hc]; exact hy
theorem eOk_inr {α : Type} (a : α) : eOk n (.inr a : pR α) := fun e he => by cases he
theorem eOk_inl {α : Type} {f i : Nat} (h1 : 1 ≤ f ∧ f ≤ 7) : eOk n (.inl (f, tP T n i) : pR α) := fun e he => by
  have := Sum.inl.inj he
  subst this
  exact ⟨h1.1, h1.2, tP_le i⟩
theorem eOk_wd {k i : Nat} : eOk n (pWd T n k i) := eOk_ite (eOk_inr _) (eOk_inl (by decide))
theorem eOk_num {k lo hi i : Nat} : eOk n (pNum T n k lo hi i) := eOk_sb eOk_wd (fun _ => eOk_ite (eOk_ite (eOk_inr _) (eOk_inl (by decide))) (eOk_inl (by decide)))
theorem eOk_new {i : Nat} : eOk n (pNew T n ζ i) := eOk_ite (eOk_inl (by decide)) (eOk_ite (eOk_inl (by decide)) (eOk_inr _))
theorem eOk_told {s i : Nat} : eOk n (pTold T n ζ s i) := eOk_ite (eOk_inl (by decide)) (eOk_ite (eOk_inr _) (eOk_inl (by decide)))
theorem eOk_kind {i : Nat} : eOk n (pKind T n i) := eOk_ite (eOk_inr _) (eOk_inl (by decide))
theorem eOk_end {q i : Nat} : eOk n (lEnd T n q ζ i) := eOk_sb eOk_told (fun _ => eOk_ite (eOk_inl (by decide)) (eOk_inr _))
theorem eOk_line {i : Nat} : eOk n (line T n ζ i) :=
  eOk_ite (eOk_inl (by decide)) (eOk_ite (eOk_inl (by decide)) (eOk_ite
    (eOk_ite (eOk_inl (by decide)) (eOk_sb eOk_num (fun _ => eOk_sb eOk_num (fun _ => eOk_sb eOk_num (fun _ => eOk_sb eOk_num (fun _ => eOk_inr _))))))
    (eOk_ite (eOk_ite (eOk_inl (by decide)) (eOk_sb eOk_new (fun _ => eOk_sb eOk_num (fun _ => eOk_inr _))))
    (eOk_ite (eOk_ite (eOk_inl (by decide)) (eOk_sb eOk_new (fun _ => eOk_sb eOk_kind (fun _ => eOk_sb eOk_wd (fun _ => eOk_sb eOk_told (fun _ => eOk_ite (eOk_inl (by decide)) (eOk_sb eOk_num (fun _ => eOk_sb eOk_num (fun _ => eOk_inr _)))))))))
    (eOk_ite (eOk_ite (eOk_inl (by decide)) (eOk_sb eOk_new (fun _ => eOk_sb eOk_num (fun _ => eOk_inr _))))
    (eOk_ite (eOk_ite (eOk_inl (by decide)) (eOk_sb eOk_told (fun _ => eOk_sb eOk_told (fun _ => eOk_ite (eOk_inl (by decide)) (eOk_inr _)))))
    (eOk_ite (eOk_ite (eOk_inl (by decide)) (eOk_sb eOk_told (fun _ => eOk_sb eOk_told (fun _ => eOk_ite (eOk_inl (by decide)) (eOk_inr _)))))
    (eOk_ite (eOk_ite (eOk_inl (by decide)) (eOk_sb eOk_told (fun _ => eOk_inr _)))
    (eOk_ite eOk_end eOk_end)))))))))
theorem eOk_parse : ∀ f (ζ : zT) i, eOk n (parse T n f ζ i)
  | 0, _, _ => eOk_inl (by decide)
  | f + 1, _, _ => eOk_sb eOk_line (fun _ => eOk_ite (eOk_ite (eOk_inl (by decide)) (eOk_inr _)) (eOk_ite (eOk_parse f _ _) (eOk_inl (by decide))))
end EOK
def swp (a q x : Nat) : Nat := if x = a then q else if x = q then a else x
theorem swp_inj {a q x y : Nat} (h : swp a q x = swp a q y) : x = y := by
  unfold swp at h
  split at h <;> split at h <;> (try split at h) <;> (try split at h) <;> omega
/-- fresh cells q 0 .. q (c - 1) come to the places 230, 231, .. -/
theorem ad_fresh {ad : Nat → Nat} {h : ssH} {q : Nat → Nat} (hA : ∀ k l, ad k = ad l → k = l) : ∀ c, c ≤ 13 → (∀ k, k < c → h (q k) = none) → (∀ k l, k < c → l < c → q k = q l → k = l) → ∃ bd : Nat → Nat, (∀ k l, bd k = bd l → k = l) ∧ (∀ k, k < c → bd (230 + k) = q k) ∧ ∀ k, k < 230 ∨ 243 ≤ k → h (ad k) ≠ none → bd k = ad k
  | 0, _, _, _ => ⟨ad, hA, fun k hk => absurd hk (by omega), fun _ _ _ => rfl⟩
  | c + 1, hc, h1, h2 => by
    obtain ⟨bd, b1, b2, b3⟩ := ad_fresh hA c (by omega) (fun k hk => h1 k (by omega)) (fun k l hk hl => h2 k l (by omega) (by omega))
    refine ⟨fun k => swp (bd (230 + c)) (q c) (bd k), fun k l hk => b1 k l (swp_inj hk), fun k hk => ?_, fun k hk hl => ?_⟩
    · by_cases e : k = c
      · subst e; exact if_pos rfl
      · have e1 : bd (230 + k) ≠ bd (230 + c) := fun z => by have := b1 _ _ z; omega
        have e2 : bd (230 + k) ≠ q c := fun z => e (h2 k c (by omega) (by omega) ((b2 k (by omega)).symm.trans z))
        exact ((if_neg e1).trans (if_neg e2)).trans (b2 k (by omega))
    · have e0 := b3 k hk hl
      have e1 : bd k ≠ bd (230 + c) := fun z => by have := b1 _ _ z; omega
      have e2 : bd k ≠ q c := fun z => hl (by rw [← e0, z]; exact h1 c (by omega))
      exact ((if_neg e1).trans (if_neg e2)).trans e0
/-- the Safe that was read becomes the Safe -/
def exN (k : Nat) : Nat := if k < 210 then k else if k < 223 then k + 20 else if k < 230 then k else if k < 243 then k - 20 else k
theorem exN_inj {k l : Nat} (h : exN k = exN l) : k = l := by
  unfold exN at h
  repeat' split at h
  all_goals omega
theorem ad_ex {ad : Nat → Nat} (hA : ∀ k l, ad k = ad l → k = l) : ∃ bd : Nat → Nat, (∀ k l, bd k = bd l → k = l) ∧ (∀ k, k < 13 → bd (210 + k) = ad (230 + k)) ∧ ∀ k, k < 210 ∨ (223 ≤ k ∧ k < 230) ∨ 243 ≤ k → bd k = ad k :=
  ⟨fun k => ad (exN k), fun k l hk => exN_inj (hA _ _ hk), fun k hk => congrArg ad (by unfold exN; rw [if_neg (by omega), if_pos (by omega)]; omega), fun k hk => congrArg ad (by
    unfold exN
    rcases hk with hk | hk | hk
    · rw [if_pos hk]
    · rw [if_neg (by omega), if_neg (by omega), if_pos (by omega)]
    · rw [if_neg (by omega), if_neg (by omega), if_neg (by omega), if_neg (by omega)])⟩
