/-! ===== what the law's invariant gives; the answers while no safe is told ===== -/
section LAWK
variable {h : ssH} {ad : Nat → Nat} {c k : Nat} {σ : sT} {sv rv : Value} {m : Nat → Int} {ρ ζ : Nat → Nat → Nat} {V P K : Nat → Nat}
theorem LTd.ok (lt : LTd h ad σ sv rv m ρ) : sOk σ := by
  rcases lt with ⟨ζ, c, k, -, -, ra, -⟩ | ⟨-, -, ok, -⟩
  · exact ra.1.2.2.1
  · exact ok
theorem LTd.z (lt : LTd h ad σ sv rv m ρ) : sZ σ := by
  rcases lt with ⟨ζ, c, k, -, -, ra, -⟩ | ⟨-, -, -, z⟩
  · exact ra.1.2.2.2
  · exact z
theorem LTd.u (lt : LTd h ad σ sv rv m ρ) : σ 4 1 0 < 16 ∧ σ 4 0 0 ≤ 16 := by
  rcases lt with ⟨ζ, c, k, -, -, ra, -⟩ | ⟨-, u, -, -⟩
  · obtain ⟨e, l, n, -⟩ := ra.2.2.1
    exact ⟨n, by omega⟩
  · have e1 := u.1 4 (by decide) 1 0
    have e0 := u.1 4 (by decide) 0 0
    omega
theorem LTd.i3 (lt : LTd h ad σ sv rv m ρ) : σ 0 5 0 ≤ 3 := by
  rcases lt with ⟨ζ, c, k, -, -, ra, -⟩ | ⟨-, u, -, -⟩
  · obtain ⟨e, l, -⟩ := ra.2.2.2
    omega
  · have := u.2
    omega
theorem LTd.hsh (lt : LTd h ad σ sv rv m ρ) : σ 1 5 0 ≤ σ 1 3 0 := by
  rcases lt with ⟨ζ, c, k, -, -, ra, -⟩ | ⟨-, u, -, -⟩
  · exact ra.1.1.2.2.2.2.1.2.2
  · rw [u.1 1 (by decide) 5 0]; exact Nat.zero_le _
theorem RA.d99 (ra : RA σ ζ V P K c k) : V 23 ≤ 99 := by
  rw [ra.2.1.1.2.2.1]
  exact (ra.1.2.2.1.2.2 3 (by decide)).1
theorem RA.h4 (ra : RA σ ζ V P K c k) : 0 < ζ 4 0 := by
  have e4 := ra.1.1.1.2.2.2.2.1
  have b := ra.1.1.2.2.2.2.1
  omega
theorem RA.h45 (ra : RA σ ζ V P K c k) : ζ 5 0 ≤ ζ 4 0 := by
  have e4 := ra.1.1.1.2.2.2.2.1
  have e5 := ra.1.1.1.2.2.2.2.2.1
  have b := ra.1.1.2.2.2.2.1
  omega
end LAWK
theorem lgc_self (x : Int64) : lg_cmp x x = 0 := by
  unfold lg_cmp
  rw [if_neg (fun q => absurd q (Int64.lt_irrefl)), if_pos rfl]
abbrev lL (G : ssG) (ax am ao j : Nat) : List (Option Value) := [some (.ref (gV G 23)), some (.ref ax), some (.ref am), some (.ref ao), some (.int (zI ↑(6 * j))), none, none]
theorem u_aSenator {σ : sT} (u : UT σ) (s n : Int) : aSenator σ s n = (-1, 1) := by
  have e5 := u.1 1 (by decide) 5 0
  have e3 := u.1 1 (by decide) 3 0
  have e7 := u.1 1 (by decide) 7 0
  have e13 := u.1 1 (by decide) 13 0
  have e40 := u.1 4 (by decide) 0 0
  have e05 := u.2
  unfold aSenator
  rw [if_pos (by omega)]
theorem u_aHook {σ : sT} (u : UT σ) (s n : Int) : aHook σ s n = (-1, 1) := by
  have e5 := u.1 1 (by decide) 5 0
  have e3 := u.1 1 (by decide) 3 0
  have e7 := u.1 1 (by decide) 7 0
  have e13 := u.1 1 (by decide) 13 0
  have e40 := u.1 4 (by decide) 0 0
  have e05 := u.2
  unfold aHook
  rw [if_pos (by omega)]
theorem u_aAct {σ : sT} (u : UT σ) (s n : Int) : aAct σ s n = (-1, 1) := by
  have e5 := u.1 1 (by decide) 5 0
  have e3 := u.1 1 (by decide) 3 0
  have e7 := u.1 1 (by decide) 7 0
  have e13 := u.1 1 (by decide) 13 0
  have e40 := u.1 4 (by decide) 0 0
  have e05 := u.2
  unfold aAct
  rw [if_pos (by omega)]
theorem u_aGood {σ : sT} (u : UT σ)  : aGood σ  = (-1, 1) := by
  have e5 := u.1 1 (by decide) 5 0
  have e3 := u.1 1 (by decide) 3 0
  have e7 := u.1 1 (by decide) 7 0
  have e13 := u.1 1 (by decide) 13 0
  have e40 := u.1 4 (by decide) 0 0
  have e05 := u.2
  unfold aGood
  rw [if_pos (by omega)]
theorem u_aQuorum {σ : sT} (u : UT σ)  : aQuorum σ  = (-1, 1) := by
  have e5 := u.1 1 (by decide) 5 0
  have e3 := u.1 1 (by decide) 3 0
  have e7 := u.1 1 (by decide) 7 0
  have e13 := u.1 1 (by decide) 13 0
  have e40 := u.1 4 (by decide) 0 0
  have e05 := u.2
  unfold aQuorum
  rw [if_pos (by omega)]
theorem u_aGoodIn {σ : sT} (u : UT σ) (s n : Int) : aGoodIn σ s n = (-1, 1) := by
  have e5 := u.1 1 (by decide) 5 0
  have e3 := u.1 1 (by decide) 3 0
  have e7 := u.1 1 (by decide) 7 0
  have e13 := u.1 1 (by decide) 13 0
  have e40 := u.1 4 (by decide) 0 0
  have e05 := u.2
  unfold aGoodIn
  rw [if_pos (by omega)]
theorem u_aOffIn {σ : sT} (u : UT σ) (s : Int) : aOffIn σ s = (-1, 1) := by
  have e5 := u.1 1 (by decide) 5 0
  have e3 := u.1 1 (by decide) 3 0
  have e7 := u.1 1 (by decide) 7 0
  have e13 := u.1 1 (by decide) 13 0
  have e40 := u.1 4 (by decide) 0 0
  have e05 := u.2
  unfold aOffIn
  rw [if_pos (by omega)]
theorem u_aLasts {σ : sT} (u : UT σ)  : aLasts σ  = (-1, 1) := by
  have e5 := u.1 1 (by decide) 5 0
  have e3 := u.1 1 (by decide) 3 0
  have e7 := u.1 1 (by decide) 7 0
  have e13 := u.1 1 (by decide) 13 0
  have e40 := u.1 4 (by decide) 0 0
  have e05 := u.2
  unfold aLasts
  rw [if_pos (by omega)]
theorem u_aGoing {σ : sT} (u : UT σ)  : aGoing σ  = (-1, 1) := by
  have e5 := u.1 1 (by decide) 5 0
  have e3 := u.1 1 (by decide) 3 0
  have e7 := u.1 1 (by decide) 7 0
  have e13 := u.1 1 (by decide) 13 0
  have e40 := u.1 4 (by decide) 0 0
  have e05 := u.2
  unfold aGoing
  rw [if_pos (by omega)]
theorem u_aNext {σ : sT} (u : UT σ)  : aNext σ  = (-1, 1) := by
  have e5 := u.1 1 (by decide) 5 0
  have e3 := u.1 1 (by decide) 3 0
  have e7 := u.1 1 (by decide) 7 0
  have e13 := u.1 1 (by decide) 13 0
  have e40 := u.1 4 (by decide) 0 0
  have e05 := u.2
  unfold aNext
  rw [if_pos (by omega)]
theorem u_aMargin {σ : sT} (u : UT σ) (s : Int) : aMargin σ s = (-1, 1) := by
  have e5 := u.1 1 (by decide) 5 0
  have e3 := u.1 1 (by decide) 3 0
  have e7 := u.1 1 (by decide) 7 0
  have e13 := u.1 1 (by decide) 13 0
  have e40 := u.1 4 (by decide) 0 0
  have e05 := u.2
  unfold aMargin
  rw [if_pos (by omega)]
theorem u_aHang {σ : sT} (u : UT σ) (n : Int) : aHang σ n = (-1, 1) := by
  have e5 := u.1 1 (by decide) 5 0
  have e3 := u.1 1 (by decide) 3 0
  have e7 := u.1 1 (by decide) 7 0
  have e13 := u.1 1 (by decide) 13 0
  have e40 := u.1 4 (by decide) 0 0
  have e05 := u.2
  unfold aHang
  rw [if_pos (by omega)]
theorem u_aHangAt {σ : sT} (u : UT σ) (s n : Int) : aHangAt σ s n = (-1, 1) := by
  have e5 := u.1 1 (by decide) 5 0
  have e3 := u.1 1 (by decide) 3 0
  have e7 := u.1 1 (by decide) 7 0
  have e13 := u.1 1 (by decide) 13 0
  have e40 := u.1 4 (by decide) 0 0
  have e05 := u.2
  unfold aHangAt
  rw [if_pos (by omega)]
theorem u_aLongest {σ : sT} (u : UT σ)  : aLongest σ  = (-1, 1) := by
  have e5 := u.1 1 (by decide) 5 0
  have e3 := u.1 1 (by decide) 3 0
  have e7 := u.1 1 (by decide) 7 0
  have e13 := u.1 1 (by decide) 13 0
  have e40 := u.1 4 (by decide) 0 0
  have e05 := u.2
  unfold aLongest
  rw [if_pos (by omega)]
theorem u_aLongestAt {σ : sT} (u : UT σ) (s : Int) : aLongestAt σ s = (-1, 1) := by
  have e5 := u.1 1 (by decide) 5 0
  have e3 := u.1 1 (by decide) 3 0
  have e7 := u.1 1 (by decide) 7 0
  have e13 := u.1 1 (by decide) 13 0
  have e40 := u.1 4 (by decide) 0 0
  have e05 := u.2
  unfold aLongestAt
  rw [if_pos (by omega)]
theorem u_aBestSwap {σ : sT} (u : UT σ)  : aBestSwap σ  = (-1, 1) := by
  have e5 := u.1 1 (by decide) 5 0
  have e3 := u.1 1 (by decide) 3 0
  have e7 := u.1 1 (by decide) 7 0
  have e13 := u.1 1 (by decide) 13 0
  have e40 := u.1 4 (by decide) 0 0
  have e05 := u.2
  unfold aBestSwap
  rw [if_pos (by omega)]
theorem u_aToSalt {σ : sT} (u : UT σ)  : aToSalt σ  = (-1, 1) := by
  have e5 := u.1 1 (by decide) 5 0
  have e3 := u.1 1 (by decide) 3 0
  have e7 := u.1 1 (by decide) 7 0
  have e13 := u.1 1 (by decide) 13 0
  have e40 := u.1 4 (by decide) 0 0
  have e05 := u.2
  unfold aToSalt
  rw [if_pos (by omega)]
theorem u_aKeyMan {σ : sT} (u : UT σ)  : aKeyMan σ  = (-1, 1) := by
  have e5 := u.1 1 (by decide) 5 0
  have e3 := u.1 1 (by decide) 3 0
  have e7 := u.1 1 (by decide) 7 0
  have e13 := u.1 1 (by decide) 13 0
  have e40 := u.1 4 (by decide) 0 0
  have e05 := u.2
  unfold aKeyMan
  rw [if_pos (by omega)]
theorem u_aSince {σ : sT} (u : UT σ)  : aSince σ  = (-1, 1) := by
  have e5 := u.1 1 (by decide) 5 0
  have e3 := u.1 1 (by decide) 3 0
  have e7 := u.1 1 (by decide) 7 0
  have e13 := u.1 1 (by decide) 13 0
  have e40 := u.1 4 (by decide) 0 0
  have e05 := u.2
  unfold aSince sWhy
  rw [if_pos (by omega), if_pos (by omega)]
theorem u_aSinceAt {σ : sT} (u : UT σ) (s : Int) : aSinceAt σ s = (-1, 1) := by
  have e5 := u.1 1 (by decide) 5 0
  have e3 := u.1 1 (by decide) 3 0
  have e7 := u.1 1 (by decide) 7 0
  have e13 := u.1 1 (by decide) 13 0
  have e40 := u.1 4 (by decide) 0 0
  have e05 := u.2
  unfold aSinceAt sWhy
  rw [if_pos (by omega), if_pos (by omega)]
theorem u_aLook {σ : sT} (u : UT σ)  : aLook σ  = (-1, 1) := by
  have e5 := u.1 1 (by decide) 5 0
  have e3 := u.1 1 (by decide) 3 0
  have e7 := u.1 1 (by decide) 7 0
  have e13 := u.1 1 (by decide) 13 0
  have e40 := u.1 4 (by decide) 0 0
  have e05 := u.2
  unfold aLook sWhy
  rw [if_pos (by omega), if_pos (by omega)]
theorem u_aLookL {σ : sT} (u : UT σ)  : aLookL σ  = (-1, 1) := by
  have e5 := u.1 1 (by decide) 5 0
  have e3 := u.1 1 (by decide) 3 0
  have e7 := u.1 1 (by decide) 7 0
  have e13 := u.1 1 (by decide) 13 0
  have e40 := u.1 4 (by decide) 0 0
  have e05 := u.2
  unfold aLookL sWhy
  rw [if_pos (by omega), if_pos (by omega)]
theorem u_aJudge {σ : sT} (u : UT σ)  : aJudge σ  = (-1, 1) := by
  have e5 := u.1 1 (by decide) 5 0
  have e3 := u.1 1 (by decide) 3 0
  have e7 := u.1 1 (by decide) 7 0
  have e13 := u.1 1 (by decide) 13 0
  have e40 := u.1 4 (by decide) 0 0
  have e05 := u.2
  unfold aJudge
  rw [if_pos (by omega)]
theorem u_aFalls {σ : sT} (u : UT σ) (s : Int) : aFalls σ s = (-1, 1) := by
  have e5 := u.1 1 (by decide) 5 0
  have e3 := u.1 1 (by decide) 3 0
  have e7 := u.1 1 (by decide) 7 0
  have e13 := u.1 1 (by decide) 13 0
  have e40 := u.1 4 (by decide) 0 0
  have e05 := u.2
  unfold aFalls
  rw [if_pos (by omega)]
theorem u_aStrike {σ : sT} (u : UT σ) (s : Int) : aStrike σ s = (-1, 1) := by
  have e5 := u.1 1 (by decide) 5 0
  have e3 := u.1 1 (by decide) 3 0
  have e7 := u.1 1 (by decide) 7 0
  have e13 := u.1 1 (by decide) 13 0
  have e40 := u.1 4 (by decide) 0 0
  have e05 := u.2
  unfold aStrike
  rw [if_pos (by omega)]
theorem u_aKeystone {σ : sT} (u : UT σ)  : aKeystone σ  = (-1, 1) := by
  have e5 := u.1 1 (by decide) 5 0
  have e3 := u.1 1 (by decide) 3 0
  have e7 := u.1 1 (by decide) 7 0
  have e13 := u.1 1 (by decide) 13 0
  have e40 := u.1 4 (by decide) 0 0
  have e05 := u.2
  unfold aKeystone
  rw [if_pos (by omega)]
theorem u_aRing {σ : sT} (u : UT σ)  : aRing σ  = (-1, 1) := by
  have e5 := u.1 1 (by decide) 5 0
  have e3 := u.1 1 (by decide) 3 0
  have e7 := u.1 1 (by decide) 7 0
  have e13 := u.1 1 (by decide) 13 0
  have e40 := u.1 4 (by decide) 0 0
  have e05 := u.2
  unfold aRing
  rw [if_pos (by omega)]
theorem u_aPower {σ : sT} (u : UT σ) (s : Int) (lo : Bool) : aPower σ s lo = (-1, 1) := by
  have e5 := u.1 1 (by decide) 5 0
  have e3 := u.1 1 (by decide) 3 0
  have e7 := u.1 1 (by decide) 7 0
  have e13 := u.1 1 (by decide) 13 0
  have e40 := u.1 4 (by decide) 0 0
  have e05 := u.2
  unfold aPower
  rw [if_pos (by omega)]
theorem u_aStrongest {σ : sT} (u : UT σ)  : aStrongest σ  = (-1, 1) := by
  have e5 := u.1 1 (by decide) 5 0
  have e3 := u.1 1 (by decide) 3 0
  have e7 := u.1 1 (by decide) 7 0
  have e13 := u.1 1 (by decide) 13 0
  have e40 := u.1 4 (by decide) 0 0
  have e05 := u.2
  unfold aStrongest
  rw [if_pos (by omega)]
theorem u_aWire {σ : sT} (u : UT σ) (w : Int) (b1 b2 b3 : Bool) : aWire σ w b1 b2 b3 = (-100, 1) := by
  have e5 := u.1 1 (by decide) 5 0
  have e3 := u.1 1 (by decide) 3 0
  have e7 := u.1 1 (by decide) 7 0
  have e13 := u.1 1 (by decide) 13 0
  have e40 := u.1 4 (by decide) 0 0
  have e05 := u.2
  unfold aWire
  rw [if_pos (by omega)]
theorem u_aRests {σ : sT} (u : UT σ) (w : Int) : aRests σ w = (-1, 1) := by
  have e5 := u.1 1 (by decide) 5 0
  have e3 := u.1 1 (by decide) 3 0
  have e7 := u.1 1 (by decide) 7 0
  have e13 := u.1 1 (by decide) 13 0
  have e40 := u.1 4 (by decide) 0 0
  have e05 := u.2
  unfold aRests
  rw [if_pos (by omega)]
theorem u_aRest {σ : sT} (u : UT σ) (w : Int) : aRest σ w = (-1, 1) := by
  have e5 := u.1 1 (by decide) 5 0
  have e3 := u.1 1 (by decide) 3 0
  have e7 := u.1 1 (by decide) 7 0
  have e13 := u.1 1 (by decide) 13 0
  have e40 := u.1 4 (by decide) 0 0
  have e05 := u.2
  unfold aRest
  rw [if_pos (by omega)]
theorem u_aOdds {σ : sT} (u : UT σ) (n : Int) (lo : Bool) : aOdds σ n lo = (-1, 1) := by
  have e5 := u.1 1 (by decide) 5 0
  have e3 := u.1 1 (by decide) 3 0
  have e7 := u.1 1 (by decide) 7 0
  have e13 := u.1 1 (by decide) 13 0
  have e40 := u.1 4 (by decide) 0 0
  have e05 := u.2
  unfold aOdds
  rw [if_pos (by omega)]
theorem u_aGoodOdds {σ : sT} (u : UT σ) (s n : Int) (lo : Bool) : aGoodOdds σ s n lo = (-1, 1) := by
  have e5 := u.1 1 (by decide) 5 0
  have e3 := u.1 1 (by decide) 3 0
  have e7 := u.1 1 (by decide) 7 0
  have e13 := u.1 1 (by decide) 13 0
  have e40 := u.1 4 (by decide) 0 0
  have e05 := u.2
  unfold aGoodOdds
  rw [if_pos (by omega)]
theorem u_aMean {σ : sT} (u : UT σ) (n : Int) (lo : Bool) : aMean σ n lo = (-1, 1) := by
  have e5 := u.1 1 (by decide) 5 0
  have e3 := u.1 1 (by decide) 3 0
  have e7 := u.1 1 (by decide) 7 0
  have e13 := u.1 1 (by decide) 13 0
  have e40 := u.1 4 (by decide) 0 0
  have e05 := u.2
  unfold aMean
  rw [if_pos (by omega)]
theorem u_aDays {σ : sT} (u : UT σ) (s n : Int) : aDays σ s n = (-1, 1) := by
  have e5 := u.1 1 (by decide) 5 0
  have e3 := u.1 1 (by decide) 3 0
  have e7 := u.1 1 (by decide) 7 0
  have e13 := u.1 1 (by decide) 13 0
  have e40 := u.1 4 (by decide) 0 0
  have e05 := u.2
  unfold aDays
  rw [if_pos (by omega)]
theorem u_aThunders {σ : sT} (u : UT σ) (s n : Int) : aThunders σ s n = (-1, 1) := by
  have e5 := u.1 1 (by decide) 5 0
  have e3 := u.1 1 (by decide) 3 0
  have e7 := u.1 1 (by decide) 7 0
  have e13 := u.1 1 (by decide) 13 0
  have e40 := u.1 4 (by decide) 0 0
  have e05 := u.2
  unfold aThunders
  rw [if_pos (by omega)]
theorem u_tDay {σ : sT} (u : UT σ)  : tDay σ  = (-1, sTr σ 1) := by
  have e5 := u.1 1 (by decide) 5 0
  have e3 := u.1 1 (by decide) 3 0
  have e7 := u.1 1 (by decide) 7 0
  have e13 := u.1 1 (by decide) 13 0
  have e40 := u.1 4 (by decide) 0 0
  have e05 := u.2
  unfold tDay
  rw [if_pos (by omega)]
theorem u_tMove {σ : sT} (u : UT σ) (s n : Int) : tMove σ s n = (-1, sTr σ 1) := by
  have e5 := u.1 1 (by decide) 5 0
  have e3 := u.1 1 (by decide) 3 0
  have e7 := u.1 1 (by decide) 7 0
  have e13 := u.1 1 (by decide) 13 0
  have e40 := u.1 4 (by decide) 0 0
  have e05 := u.2
  unfold tMove
  rw [if_pos (by omega)]
theorem u_tSalt {σ : sT} (u : UT σ) (s : Int) : tSalt σ s = (false, sTr σ 1) := by
  have e5 := u.1 1 (by decide) 5 0
  have e3 := u.1 1 (by decide) 3 0
  have e7 := u.1 1 (by decide) 7 0
  have e13 := u.1 1 (by decide) 13 0
  have e40 := u.1 4 (by decide) 0 0
  have e05 := u.2
  unfold tSalt
  rw [if_pos (by omega)]
theorem u_tSeed {σ : sT} (u : UT σ) (v : Int) : tSeed σ v = (false, sTr σ 1) := by
  have e5 := u.1 1 (by decide) 5 0
  have e3 := u.1 1 (by decide) 3 0
  have e7 := u.1 1 (by decide) 7 0
  have e13 := u.1 1 (by decide) 13 0
  have e40 := u.1 4 (by decide) 0 0
  have e05 := u.2
  unfold tSeed
  rw [if_pos (by omega)]
theorem u_tUndo {σ : sT} (u : UT σ)  : tUndo σ  = (false, sTr σ 6) := by
  have e5 := u.1 1 (by decide) 5 0
  have e3 := u.1 1 (by decide) 3 0
  have e7 := u.1 1 (by decide) 7 0
  have e13 := u.1 1 (by decide) 13 0
  have e40 := u.1 4 (by decide) 0 0
  have e05 := u.2
  unfold tUndo
  rw [if_pos (by omega)]
theorem u_tImage {σ : sT} (u : UT σ)  : tImage σ  = (-1, sTr σ 1) := by
  have e5 := u.1 1 (by decide) 5 0
  have e3 := u.1 1 (by decide) 3 0
  have e7 := u.1 1 (by decide) 7 0
  have e13 := u.1 1 (by decide) 13 0
  have e40 := u.1 4 (by decide) 0 0
  have e05 := u.2
  unfold tImage
  rw [if_pos (by omega)]
theorem u_tBack {σ : sT} (u : UT σ) (n : Int) : tBack σ n = (false, sTr σ 1) := by
  have e5 := u.1 1 (by decide) 5 0
  have e3 := u.1 1 (by decide) 3 0
  have e7 := u.1 1 (by decide) 7 0
  have e13 := u.1 1 (by decide) 13 0
  have e40 := u.1 4 (by decide) 0 0
  have e05 := u.2
  unfold tBack
  rw [if_pos (by omega)]
