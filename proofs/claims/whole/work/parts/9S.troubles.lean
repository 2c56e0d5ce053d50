/-! ===== no question tells of a faulty text ===== -/
theorem n4_aGood (σ : sT) : n4 (aGood σ).2 := by
  unfold aGood
  repeat' split
  all_goals first | exact (⟨by decide, by decide⟩ : n4 0) | exact (⟨by decide, by decide⟩ : n4 1) | exact (⟨by decide, by decide⟩ : n4 2) | exact (⟨by decide, by decide⟩ : n4 3) | exact (⟨by decide, by decide⟩ : n4 5) | exact (⟨by decide, by decide⟩ : n4 6)
theorem n4_aQuorum (σ : sT) : n4 (aQuorum σ).2 := by
  unfold aQuorum
  repeat' split
  all_goals first | exact (⟨by decide, by decide⟩ : n4 0) | exact (⟨by decide, by decide⟩ : n4 1) | exact (⟨by decide, by decide⟩ : n4 2) | exact (⟨by decide, by decide⟩ : n4 3) | exact (⟨by decide, by decide⟩ : n4 5) | exact (⟨by decide, by decide⟩ : n4 6)
theorem n4_aLasts (σ : sT) : n4 (aLasts σ).2 := by
  unfold aLasts
  repeat' split
  all_goals first | exact (⟨by decide, by decide⟩ : n4 0) | exact (⟨by decide, by decide⟩ : n4 1) | exact (⟨by decide, by decide⟩ : n4 2) | exact (⟨by decide, by decide⟩ : n4 3) | exact (⟨by decide, by decide⟩ : n4 5) | exact (⟨by decide, by decide⟩ : n4 6)
theorem n4_aGoing (σ : sT) : n4 (aGoing σ).2 := by
  unfold aGoing
  repeat' split
  all_goals first | exact (⟨by decide, by decide⟩ : n4 0) | exact (⟨by decide, by decide⟩ : n4 1) | exact (⟨by decide, by decide⟩ : n4 2) | exact (⟨by decide, by decide⟩ : n4 3) | exact (⟨by decide, by decide⟩ : n4 5) | exact (⟨by decide, by decide⟩ : n4 6)
theorem n4_aOffIn (σ : sT) (s : Int) : n4 (aOffIn σ s).2 := by
  unfold aOffIn
  repeat' split
  all_goals first | exact (⟨by decide, by decide⟩ : n4 0) | exact (⟨by decide, by decide⟩ : n4 1) | exact (⟨by decide, by decide⟩ : n4 2) | exact (⟨by decide, by decide⟩ : n4 3) | exact (⟨by decide, by decide⟩ : n4 5) | exact (⟨by decide, by decide⟩ : n4 6)
theorem n4_aGoodIn (σ : sT) (s n : Int) : n4 (aGoodIn σ s n).2 := by
  unfold aGoodIn
  repeat' split
  all_goals first | exact (⟨by decide, by decide⟩ : n4 0) | exact (⟨by decide, by decide⟩ : n4 1) | exact (⟨by decide, by decide⟩ : n4 2) | exact (⟨by decide, by decide⟩ : n4 3) | exact (⟨by decide, by decide⟩ : n4 5) | exact (⟨by decide, by decide⟩ : n4 6)
theorem n4_aHook (σ : sT) (s n : Int) : n4 (aHook σ s n).2 := by
  unfold aHook
  repeat' split
  all_goals first | exact (⟨by decide, by decide⟩ : n4 0) | exact (⟨by decide, by decide⟩ : n4 1) | exact (⟨by decide, by decide⟩ : n4 2) | exact (⟨by decide, by decide⟩ : n4 3) | exact (⟨by decide, by decide⟩ : n4 5) | exact (⟨by decide, by decide⟩ : n4 6)
theorem n4_aFalls (σ : sT) (s : Int) : n4 (aFalls σ s).2 := by
  unfold aFalls
  repeat' split
  all_goals first | exact (⟨by decide, by decide⟩ : n4 0) | exact (⟨by decide, by decide⟩ : n4 1) | exact (⟨by decide, by decide⟩ : n4 2) | exact (⟨by decide, by decide⟩ : n4 3) | exact (⟨by decide, by decide⟩ : n4 5) | exact (⟨by decide, by decide⟩ : n4 6)
theorem n4_aMargin (σ : sT) (s : Int) : n4 (aMargin σ s).2 := by
  unfold aMargin
  repeat' split
  all_goals first | exact (⟨by decide, by decide⟩ : n4 0) | exact (⟨by decide, by decide⟩ : n4 1) | exact (⟨by decide, by decide⟩ : n4 2) | exact (⟨by decide, by decide⟩ : n4 3) | exact (⟨by decide, by decide⟩ : n4 5) | exact (⟨by decide, by decide⟩ : n4 6)
theorem n4_aNext (σ : sT) : n4 (aNext σ).2 := by
  unfold aNext
  repeat' split
  all_goals first | exact (⟨by decide, by decide⟩ : n4 0) | exact (⟨by decide, by decide⟩ : n4 1) | exact (⟨by decide, by decide⟩ : n4 2) | exact (⟨by decide, by decide⟩ : n4 3) | exact (⟨by decide, by decide⟩ : n4 5) | exact (⟨by decide, by decide⟩ : n4 6)
theorem n4_aKeystone (σ : sT) : n4 (aKeystone σ).2 := by
  unfold aKeystone
  repeat' split
  all_goals first | exact (⟨by decide, by decide⟩ : n4 0) | exact (⟨by decide, by decide⟩ : n4 1) | exact (⟨by decide, by decide⟩ : n4 2) | exact (⟨by decide, by decide⟩ : n4 3) | exact (⟨by decide, by decide⟩ : n4 5) | exact (⟨by decide, by decide⟩ : n4 6)
theorem n4_aRing (σ : sT) : n4 (aRing σ).2 := by
  unfold aRing
  repeat' split
  all_goals first | exact (⟨by decide, by decide⟩ : n4 0) | exact (⟨by decide, by decide⟩ : n4 1) | exact (⟨by decide, by decide⟩ : n4 2) | exact (⟨by decide, by decide⟩ : n4 3) | exact (⟨by decide, by decide⟩ : n4 5) | exact (⟨by decide, by decide⟩ : n4 6)
theorem n4_aThunders (σ : sT) (s n : Int) : n4 (aThunders σ s n).2 := by
  unfold aThunders
  repeat' split
  all_goals first | exact (⟨by decide, by decide⟩ : n4 0) | exact (⟨by decide, by decide⟩ : n4 1) | exact (⟨by decide, by decide⟩ : n4 2) | exact (⟨by decide, by decide⟩ : n4 3) | exact (⟨by decide, by decide⟩ : n4 5) | exact (⟨by decide, by decide⟩ : n4 6)
theorem n4_aDays (σ : sT) (s n : Int) : n4 (aDays σ s n).2 := by
  unfold aDays
  repeat' split
  all_goals first | exact (⟨by decide, by decide⟩ : n4 0) | exact (⟨by decide, by decide⟩ : n4 1) | exact (⟨by decide, by decide⟩ : n4 2) | exact (⟨by decide, by decide⟩ : n4 3) | exact (⟨by decide, by decide⟩ : n4 5) | exact (⟨by decide, by decide⟩ : n4 6)
theorem n4_aRests (σ : sT) (w : Int) : n4 (aRests σ w).2 := by
  unfold aRests
  repeat' split
  all_goals first | exact (⟨by decide, by decide⟩ : n4 0) | exact (⟨by decide, by decide⟩ : n4 1) | exact (⟨by decide, by decide⟩ : n4 2) | exact (⟨by decide, by decide⟩ : n4 3) | exact (⟨by decide, by decide⟩ : n4 5) | exact (⟨by decide, by decide⟩ : n4 6)
theorem n4_aRest (σ : sT) (w : Int) : n4 (aRest σ w).2 := by
  unfold aRest
  repeat' split
  all_goals first | exact (⟨by decide, by decide⟩ : n4 0) | exact (⟨by decide, by decide⟩ : n4 1) | exact (⟨by decide, by decide⟩ : n4 2) | exact (⟨by decide, by decide⟩ : n4 3) | exact (⟨by decide, by decide⟩ : n4 5) | exact (⟨by decide, by decide⟩ : n4 6)
theorem n4_aWire (σ : sT) (w : Int) (b1 b2 b3 : Bool) : n4 (aWire σ w b1 b2 b3).2 := by
  unfold aWire
  repeat' split
  all_goals first | exact (⟨by decide, by decide⟩ : n4 0) | exact (⟨by decide, by decide⟩ : n4 1) | exact (⟨by decide, by decide⟩ : n4 2) | exact (⟨by decide, by decide⟩ : n4 3) | exact (⟨by decide, by decide⟩ : n4 5) | exact (⟨by decide, by decide⟩ : n4 6)
theorem n4_aStrongest (σ : sT) : n4 (aStrongest σ).2 := by
  unfold aStrongest
  repeat' split
  all_goals first | exact (⟨by decide, by decide⟩ : n4 0) | exact (⟨by decide, by decide⟩ : n4 1) | exact (⟨by decide, by decide⟩ : n4 2) | exact (⟨by decide, by decide⟩ : n4 3) | exact (⟨by decide, by decide⟩ : n4 5) | exact (⟨by decide, by decide⟩ : n4 6)
theorem n4_aSenator (σ : sT) (s n : Int) : n4 (aSenator σ s n).2 := by
  unfold aSenator aSenN
  repeat' split
  all_goals first | exact (⟨by decide, by decide⟩ : n4 0) | exact (⟨by decide, by decide⟩ : n4 1) | exact (⟨by decide, by decide⟩ : n4 2) | exact (⟨by decide, by decide⟩ : n4 3) | exact (⟨by decide, by decide⟩ : n4 5) | exact (⟨by decide, by decide⟩ : n4 6)
theorem n4_aAct (σ : sT) (s n : Int) : n4 (aAct σ s n).2 := by
  unfold aAct aActN
  repeat' split
  all_goals first | exact (⟨by decide, by decide⟩ : n4 0) | exact (⟨by decide, by decide⟩ : n4 1) | exact (⟨by decide, by decide⟩ : n4 2) | exact (⟨by decide, by decide⟩ : n4 3) | exact (⟨by decide, by decide⟩ : n4 5) | exact (⟨by decide, by decide⟩ : n4 6)
theorem n4_aToSalt (σ : sT) : n4 (aToSalt σ).2 := by
  unfold aToSalt
  repeat' split
  all_goals first | exact (⟨by decide, by decide⟩ : n4 0) | exact (⟨by decide, by decide⟩ : n4 1) | exact (⟨by decide, by decide⟩ : n4 2) | exact (⟨by decide, by decide⟩ : n4 3) | exact (⟨by decide, by decide⟩ : n4 5) | exact (⟨by decide, by decide⟩ : n4 6)
theorem n4_aBestSwap (σ : sT) : n4 (aBestSwap σ).2 := by
  unfold aBestSwap
  repeat' split
  all_goals first | exact (⟨by decide, by decide⟩ : n4 0) | exact (⟨by decide, by decide⟩ : n4 1) | exact (⟨by decide, by decide⟩ : n4 2) | exact (⟨by decide, by decide⟩ : n4 3) | exact (⟨by decide, by decide⟩ : n4 5) | exact (⟨by decide, by decide⟩ : n4 6)
theorem n4_aStrike (σ : sT) (s : Int) : n4 (aStrike σ s).2 := by
  unfold aStrike
  repeat' split
  all_goals first | exact (⟨by decide, by decide⟩ : n4 0) | exact (⟨by decide, by decide⟩ : n4 1) | exact (⟨by decide, by decide⟩ : n4 2) | exact (⟨by decide, by decide⟩ : n4 3) | exact (⟨by decide, by decide⟩ : n4 5) | exact (⟨by decide, by decide⟩ : n4 6)
theorem n4_aKeyMan (σ : sT) : n4 (aKeyMan σ).2 := by
  unfold aKeyMan
  repeat' split
  all_goals first | exact (⟨by decide, by decide⟩ : n4 0) | exact (⟨by decide, by decide⟩ : n4 1) | exact (⟨by decide, by decide⟩ : n4 2) | exact (⟨by decide, by decide⟩ : n4 3) | exact (⟨by decide, by decide⟩ : n4 5) | exact (⟨by decide, by decide⟩ : n4 6)
theorem n4_aOdds (σ : sT) (n : Int) (lo : Bool) : n4 (aOdds σ n lo).2 := by
  unfold aOdds
  repeat' split
  all_goals first | exact (⟨by decide, by decide⟩ : n4 0) | exact (⟨by decide, by decide⟩ : n4 1) | exact (⟨by decide, by decide⟩ : n4 2) | exact (⟨by decide, by decide⟩ : n4 3) | exact (⟨by decide, by decide⟩ : n4 5) | exact (⟨by decide, by decide⟩ : n4 6)
theorem n4_aPower (σ : sT) (s : Int) (lo : Bool) : n4 (aPower σ s lo).2 := by
  unfold aPower
  repeat' split
  all_goals first | exact (⟨by decide, by decide⟩ : n4 0) | exact (⟨by decide, by decide⟩ : n4 1) | exact (⟨by decide, by decide⟩ : n4 2) | exact (⟨by decide, by decide⟩ : n4 3) | exact (⟨by decide, by decide⟩ : n4 5) | exact (⟨by decide, by decide⟩ : n4 6)
theorem n4_aGoodOdds (σ : sT) (s n : Int) (lo : Bool) : n4 (aGoodOdds σ s n lo).2 := by
  unfold aGoodOdds
  repeat' split
  all_goals first | exact (⟨by decide, by decide⟩ : n4 0) | exact (⟨by decide, by decide⟩ : n4 1) | exact (⟨by decide, by decide⟩ : n4 2) | exact (⟨by decide, by decide⟩ : n4 3) | exact (⟨by decide, by decide⟩ : n4 5) | exact (⟨by decide, by decide⟩ : n4 6)
theorem n4_aMean (σ : sT) (n : Int) (lo : Bool) : n4 (aMean σ n lo).2 := by
  unfold aMean
  repeat' split
  all_goals first | exact (⟨by decide, by decide⟩ : n4 0) | exact (⟨by decide, by decide⟩ : n4 1) | exact (⟨by decide, by decide⟩ : n4 2) | exact (⟨by decide, by decide⟩ : n4 3) | exact (⟨by decide, by decide⟩ : n4 5) | exact (⟨by decide, by decide⟩ : n4 6)
theorem n4_aJudge (σ : sT) : n4 (aJudge σ).2 := by
  unfold aJudge
  repeat' split
  all_goals first | exact (⟨by decide, by decide⟩ : n4 0) | exact (⟨by decide, by decide⟩ : n4 1) | exact (⟨by decide, by decide⟩ : n4 2) | exact (⟨by decide, by decide⟩ : n4 3) | exact (⟨by decide, by decide⟩ : n4 5) | exact (⟨by decide, by decide⟩ : n4 6)
theorem n4_aSince (σ : sT) : n4 (aSince σ).2 := by
  unfold aSince sWhy
  repeat' split
  all_goals first | exact (⟨by decide, by decide⟩ : n4 0) | exact (⟨by decide, by decide⟩ : n4 1) | exact (⟨by decide, by decide⟩ : n4 2) | exact (⟨by decide, by decide⟩ : n4 3) | exact (⟨by decide, by decide⟩ : n4 5) | exact (⟨by decide, by decide⟩ : n4 6)
theorem n4_aSinceAt (σ : sT) (s : Int) : n4 (aSinceAt σ s).2 := by
  unfold aSinceAt sWhy
  repeat' split
  all_goals first | exact (⟨by decide, by decide⟩ : n4 0) | exact (⟨by decide, by decide⟩ : n4 1) | exact (⟨by decide, by decide⟩ : n4 2) | exact (⟨by decide, by decide⟩ : n4 3) | exact (⟨by decide, by decide⟩ : n4 5) | exact (⟨by decide, by decide⟩ : n4 6)
theorem n4_aLook (σ : sT) : n4 (aLook σ).2 := by
  unfold aLook sWhy
  repeat' split
  all_goals first | exact (⟨by decide, by decide⟩ : n4 0) | exact (⟨by decide, by decide⟩ : n4 1) | exact (⟨by decide, by decide⟩ : n4 2) | exact (⟨by decide, by decide⟩ : n4 3) | exact (⟨by decide, by decide⟩ : n4 5) | exact (⟨by decide, by decide⟩ : n4 6)
theorem n4_aLookL (σ : sT) : n4 (aLookL σ).2 := by
  unfold aLookL sWhy
  repeat' split
  all_goals first | exact (⟨by decide, by decide⟩ : n4 0) | exact (⟨by decide, by decide⟩ : n4 1) | exact (⟨by decide, by decide⟩ : n4 2) | exact (⟨by decide, by decide⟩ : n4 3) | exact (⟨by decide, by decide⟩ : n4 5) | exact (⟨by decide, by decide⟩ : n4 6)
theorem n4_aHang (σ : sT) (n : Int) : n4 (aHang σ n).2 := by
  unfold aHang
  repeat' split
  all_goals first | exact (⟨by decide, by decide⟩ : n4 0) | exact (⟨by decide, by decide⟩ : n4 1) | exact (⟨by decide, by decide⟩ : n4 2) | exact (⟨by decide, by decide⟩ : n4 3) | exact (⟨by decide, by decide⟩ : n4 5) | exact (⟨by decide, by decide⟩ : n4 6)
theorem n4_aHangAt (σ : sT) (s n : Int) : n4 (aHangAt σ s n).2 := by
  unfold aHangAt
  repeat' split
  all_goals first | exact (⟨by decide, by decide⟩ : n4 0) | exact (⟨by decide, by decide⟩ : n4 1) | exact (⟨by decide, by decide⟩ : n4 2) | exact (⟨by decide, by decide⟩ : n4 3) | exact (⟨by decide, by decide⟩ : n4 5) | exact (⟨by decide, by decide⟩ : n4 6)
theorem n4_aLongest (σ : sT) : n4 (aLongest σ).2 := by
  unfold aLongest
  repeat' split
  all_goals first | exact (⟨by decide, by decide⟩ : n4 0) | exact (⟨by decide, by decide⟩ : n4 1) | exact (⟨by decide, by decide⟩ : n4 2) | exact (⟨by decide, by decide⟩ : n4 3) | exact (⟨by decide, by decide⟩ : n4 5) | exact (⟨by decide, by decide⟩ : n4 6)
theorem n4_aLongestAt (σ : sT) (s : Int) : n4 (aLongestAt σ s).2 := by
  unfold aLongestAt
  repeat' split
  all_goals first | exact (⟨by decide, by decide⟩ : n4 0) | exact (⟨by decide, by decide⟩ : n4 1) | exact (⟨by decide, by decide⟩ : n4 2) | exact (⟨by decide, by decide⟩ : n4 3) | exact (⟨by decide, by decide⟩ : n4 5) | exact (⟨by decide, by decide⟩ : n4 6)
