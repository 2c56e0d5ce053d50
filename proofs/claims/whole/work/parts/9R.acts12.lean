/-! ===== acts leave the plan alone ===== -/
def K12 (σ' σ : sT) : Prop := σ' 1 = σ 1 ∧ σ' 2 = σ 2
theorem K12.rf (σ : sT) : K12 σ σ := ⟨rfl, rfl⟩
theorem K12.tr {a b c : sT} (x : K12 a b) (y : K12 b c) : K12 a c := ⟨x.1.trans y.1, x.2.trans y.2⟩
theorem K12.st (σ : sT) (t : Nat) : K12 (sTr σ t) σ := ⟨sTr_o (by decide), sTr_o (by decide)⟩
theorem K12.un (σ : sT) (c n : Nat) : K12 (sUn σ c n) σ := ⟨sUn_ne σ (by decide), sUn_ne σ (by decide)⟩
theorem K12.cp (σ : sT) (a : Nat) {b : Nat} (h1 : 3 ≤ b) : K12 (sCp σ a b) σ := ⟨if_neg (by omega), if_neg (by omega)⟩
theorem K12.keep (σ : sT) : K12 (sKeep σ) σ := (K12.un _ _ _).tr (K12.cp σ 3 (by omega))
theorem K12.rest (σ : sT) : K12 (sRest σ) σ := (K12.cp _ _ (by omega)).tr (K12.un _ _ _)
theorem K12.tp {σ' σ : sT} (k : K12 σ' σ) (t : TP σ) : TP σ' := fun o a n ho => by
  rcases ho with rfl | rfl
  · rw [k.1]; exact t 1 a n (Or.inl rfl)
  · rw [k.2]; exact t 2 a n (Or.inr rfl)
theorem K12.undo (σ : sT) : K12 (tUndo σ).2 σ := by
  unfold tUndo
  split
  · exact K12.st _ _
  · exact (K12.st _ _).tr (K12.rest σ)
theorem K12.back (σ : sT) (n : Int) : K12 (tBack σ n).2 σ := by
  unfold tBack
  split
  · exact K12.st _ _
  · exact (K12.st _ _).tr ((K12.un _ _ _).tr (K12.cp σ _ (by omega)))
theorem K12.i3 (σ : sT) (k v : Nat) : K12 (sI σ k v) σ := ⟨rfl, rfl⟩
theorem K12.a3 (σ : sT) (k i v : Nat) : K12 (sA σ k i v) σ := ⟨rfl, rfl⟩
theorem K12.x0 (σ : sT) (k v : Nat) : K12 (sX σ k v) σ := ⟨rfl, rfl⟩
theorem K12.seed (σ : sT) (v : Int) : K12 (tSeed σ v).2 σ := by
  unfold tSeed
  split
  · exact K12.st _ _
  · split
    · exact K12.st _ _
    · exact (K12.st _ _).tr (K12.i3 σ _ _)
theorem K12.salt (σ : sT) (s : Int) : K12 (tSalt σ s).2 σ := by
  unfold tSalt
  split
  · exact K12.st _ _
  · split
    · exact K12.st _ _
    · split
      · exact K12.st _ _
      · exact (K12.st _ _).tr ((K12.i3 _ _ _).tr ((K12.a3 _ _ _ _).tr (K12.keep σ)))
theorem K12.image (σ : sT) : K12 (tImage σ).2 σ := by
  unfold tImage
  split
  · exact K12.st _ _
  · split
    · exact K12.st _ _
    · exact (K12.st _ _).tr ((K12.x0 _ _ _).tr (K12.cp σ _ (by omega)))
theorem K12.move (σ : sT) (s n : Int) : K12 (tMove σ s n).2 σ := by
  unfold tMove
  split
  · exact K12.st _ _
  · split
    · exact K12.st _ _
    · refine (K12.st _ _).tr ((K12.a3 _ _ _ _).tr ?_)
      split
      · exact K12.keep σ
      · exact (K12.a3 _ _ _ _).tr (K12.keep σ)
theorem K12.past (σ : sT) : K12 (sPast σ) σ := by
  unfold sPast
  split
  · exact K12.a3 σ _ _ _
  · exact K12.rf σ
theorem K12.lf (ρ : sT) (f : Nat → Nat) (n : Nat) : K12 (sLf ρ f n) ρ := ⟨rfl, rfl⟩
theorem K12.pass (σ : sT) : K12 (sPass σ) σ := (K12.i3 _ _ _).tr ((K12.lf _ _ _).tr ((K12.i3 _ _ _).tr (K12.past σ)))
theorem K12.day (σ : sT) : K12 (tDay σ).2 σ := by
  unfold tDay
  split
  · exact K12.st _ _
  · split
    · exact K12.st _ _
    · exact (K12.st _ _).tr ((K12.pass _).tr (K12.keep σ))
/-- the trouble of an act is never that of a faulty text -/
def n4 (t : Nat) : Prop := t ≠ 4 ∧ t ≤ 6
theorem st_6 (σ : sT) (t : Nat) : sTr σ t 0 6 0 = t := rfl
theorem n4.undo (σ : sT) : n4 ((tUndo σ).2 0 6 0) := by
  unfold tUndo
  split <;> (first | exact (⟨by decide, by decide⟩ : n4 0) | exact (⟨by decide, by decide⟩ : n4 1) | exact (⟨by decide, by decide⟩ : n4 2) | exact (⟨by decide, by decide⟩ : n4 3) | exact (⟨by decide, by decide⟩ : n4 5) | exact (⟨by decide, by decide⟩ : n4 6))
theorem n4.back (σ : sT) (n : Int) : n4 ((tBack σ n).2 0 6 0) := by
  unfold tBack
  split <;> (first | exact (⟨by decide, by decide⟩ : n4 0) | exact (⟨by decide, by decide⟩ : n4 1) | exact (⟨by decide, by decide⟩ : n4 2) | exact (⟨by decide, by decide⟩ : n4 3) | exact (⟨by decide, by decide⟩ : n4 5) | exact (⟨by decide, by decide⟩ : n4 6))
theorem n4.seed (σ : sT) (v : Int) : n4 ((tSeed σ v).2 0 6 0) := by
  unfold tSeed
  repeat' split
  all_goals first | exact (⟨by decide, by decide⟩ : n4 0) | exact (⟨by decide, by decide⟩ : n4 1) | exact (⟨by decide, by decide⟩ : n4 2) | exact (⟨by decide, by decide⟩ : n4 3) | exact (⟨by decide, by decide⟩ : n4 5) | exact (⟨by decide, by decide⟩ : n4 6)
theorem n4.salt (σ : sT) (s : Int) : n4 ((tSalt σ s).2 0 6 0) := by
  unfold tSalt
  repeat' split
  all_goals first | exact (⟨by decide, by decide⟩ : n4 0) | exact (⟨by decide, by decide⟩ : n4 1) | exact (⟨by decide, by decide⟩ : n4 2) | exact (⟨by decide, by decide⟩ : n4 3) | exact (⟨by decide, by decide⟩ : n4 5) | exact (⟨by decide, by decide⟩ : n4 6)
theorem n4.image (σ : sT) : n4 ((tImage σ).2 0 6 0) := by
  unfold tImage
  repeat' split
  all_goals first | exact (⟨by decide, by decide⟩ : n4 0) | exact (⟨by decide, by decide⟩ : n4 1) | exact (⟨by decide, by decide⟩ : n4 2) | exact (⟨by decide, by decide⟩ : n4 3) | exact (⟨by decide, by decide⟩ : n4 5) | exact (⟨by decide, by decide⟩ : n4 6)
theorem n4.move (σ : sT) (s n : Int) : n4 ((tMove σ s n).2 0 6 0) := by
  unfold tMove
  split
  · first | exact (⟨by decide, by decide⟩ : n4 0) | exact (⟨by decide, by decide⟩ : n4 1) | exact (⟨by decide, by decide⟩ : n4 2) | exact (⟨by decide, by decide⟩ : n4 3) | exact (⟨by decide, by decide⟩ : n4 5) | exact (⟨by decide, by decide⟩ : n4 6)
  · split <;> (first | exact (⟨by decide, by decide⟩ : n4 0) | exact (⟨by decide, by decide⟩ : n4 1) | exact (⟨by decide, by decide⟩ : n4 2) | exact (⟨by decide, by decide⟩ : n4 3) | exact (⟨by decide, by decide⟩ : n4 5) | exact (⟨by decide, by decide⟩ : n4 6))
theorem n4.day (σ : sT) : n4 ((tDay σ).2 0 6 0) := by
  unfold tDay
  repeat' split
  all_goals first | exact (⟨by decide, by decide⟩ : n4 0) | exact (⟨by decide, by decide⟩ : n4 1) | exact (⟨by decide, by decide⟩ : n4 2) | exact (⟨by decide, by decide⟩ : n4 3) | exact (⟨by decide, by decide⟩ : n4 5) | exact (⟨by decide, by decide⟩ : n4 6)
