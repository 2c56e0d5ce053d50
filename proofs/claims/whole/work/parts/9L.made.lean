/-! ===== the class as it is made ===== -/
def piN (k : Nat) : Nat := if k < 8 then k - 1 else if k < 22 then k + 11 else if k < 33 then k - 14 else if k < 121 then k else if k < 136 then k + 13 else if k < 149 then k - 15 else 7
def ad0 (a : Nat) (q : Nat → Nat) : Nat → Nat := fun k => if k = 0 then a else q (piN k)
def s0 : sT := fun _ _ _ => 0
def E00 : pE := (0, 0, 0, fun _ => 0, fun _ => 0, fun _ => 0, fun _ => 0, fun _ => zL 0)
theorem CMom_of {h : ssH} {ad : Nat → Nat} {b o : Nat} (H : ∀ j, j < 5 → h (ad (b + j)) = some (moC (fun t => ad (b + t)) j)) : CMom h ad b s0 o := ⟨H 0 (by decide), H 1 (by decide), H 2 (by decide), H 3 (by decide), H 4 (by decide)⟩
theorem piN_u {k : Nat} (h1 : 33 ≤ k) (h2 : k < 121) : piN k = k := (if_neg (by omega)).trans ((if_neg (by omega)).trans ((if_neg (by omega)).trans (if_pos h2)))
theorem piN_i {k : Nat} (h1 : 121 ≤ k) (h2 : k < 136) : piN k = k + 13 := (if_neg (by omega)).trans ((if_neg (by omega)).trans ((if_neg (by omega)).trans ((if_neg (by omega)).trans (if_pos h2))))
theorem piN_inj {k l : Nat} (hk : 1 ≤ k ∧ k < 150) (hl : 1 ≤ l ∧ l < 150) (h : piN k = piN l) : k = l := by
  unfold piN at h
  repeat' split at h
  all_goals omega
theorem piN_lt {k : Nat} (h1 : k < 150) : piN k < 149 := by
  unfold piN
  repeat' split
  all_goals omega
set_option maxRecDepth 100000 in
set_option maxHeartbeats 1000000 in
theorem init_st {h h' : ssH} {a : Nat} {x1 x5 x9 x13 xi x19 x23 x27 : Nat} {r3 r7 r11 r15 r21 r25 r29 q : Nat → Nat} {C : Nat → ssE} (hI : LpI h a 8 (sxF x1 r3 x5 r7 x9 r11 x13 r15 xi x19 r21 x23 r25 x27 r29) 134 120 3 (sxQ x1 r3 x5 r7 x9 r11 x13 r15 xi x19 r21 x23 r25 x27 r29) (sxC x1 r3 x5 r7 x9 r11 x13 r15 xi x19 r21 x23 r25 x27 r29) 3 q C h') : CW0 h' (ad0 a q) 11 s0 ∧ PW h' (ad0 a q) 22 E00 s0 0 ∧ h' (ad0 a q 149) = some (arJ 22 kR) := by
  obtain ⟨hc, hq, hC, hr, hm⟩ := hI
  have cQ : ∀ K, K < 134 → K ≠ 120 → h' ((sxQ x1 r3 x5 r7 x9 r11 x13 r15 xi x19 r21 x23 r25 x27 r29) K) = some ((sxC x1 r3 x5 r7 x9 r11 x13 r15 xi x19 r21 x23 r25 x27 r29) K) := fun K h1 h2 => by
    have e := (hc.2.1 K (by omega)).2.2
    rw [hq K h1, hC K h1 h2] at e
    exact e
  have uQ : ∀ k, 39 ≤ k → k < 120 → (sxQ x1 r3 x5 r7 x9 r11 x13 r15 xi x19 r21 x23 r25 x27 r29) k = r15 (k - 39) := fun k h1 h2 => ((if_pos (by omega)).trans ((if_neg (by omega)).trans ((if_pos (by omega)).trans ((if_neg (by omega)).trans ((if_pos (by omega)).trans ((if_neg (by omega)).trans ((if_neg (by omega)).trans (if_neg (by omega)))))))))
  have uK : ∀ k, 39 ≤ k → k < 120 → (sxC x1 r3 x5 r7 x9 r11 x13 r15 xi x19 r21 x23 r25 x27 r29) k = uC r15 (k - 39) := fun k h1 h2 => ((if_pos (by omega)).trans ((if_neg (by omega)).trans ((if_neg (by omega)).trans ((if_pos (by omega)).trans ((if_neg (by omega)).trans ((if_neg (by omega)).trans ((if_pos (by omega)).trans ((if_neg (by omega)).trans ((if_neg (by omega)).trans ((if_neg (by omega)).trans (if_neg (by omega))))))))))))
  have ci : h' ((sxQ x1 r3 x5 r7 x9 r11 x13 r15 xi x19 r21 x23 r25 x27 r29) 120) = some (rfs 3 3 (fun i => q (134 + 5 * i))) := by
    have e := (hc.2.1 120 (by omega)).2.2
    rw [hq 120 (by omega), hr] at e
    exact e
  have cm : ∀ i j, i < 3 → j < 5 → h' (q (134 + 5 * i + j)) = some (moC (fun t => q (134 + 5 * i + t)) j) := fun i j h1 h2 => by
    have e := (hc.2.1 (134 + 5 * i + j) (by omega)).2.2
    rw [hm i j h1 h2] at e
    exact e
  have hx := hc.1
  have eqq : q = fun k => if k < 134 then (sxQ x1 r3 x5 r7 x9 r11 x13 r15 xi x19 r21 x23 r25 x27 r29) k else q k := by
    funext k
    by_cases e : k < 134
    · rw [if_pos e]; exact hq k e
    · rw [if_neg e]
  have au : ∀ k, 39 ≤ k → k < 120 → ad0 a (fun k => if k < 134 then (sxQ x1 r3 x5 r7 x9 r11 x13 r15 xi x19 r21 x23 r25 x27 r29) k else q k) k = r15 (k - 39) := fun k h1 h2 => by
    unfold ad0
    rw [if_neg (by omega), piN_u (by omega) (by omega)]
    show (if k < 134 then (sxQ x1 r3 x5 r7 x9 r11 x13 r15 xi x19 r21 x23 r25 x27 r29) k else q k) = _
    rw [if_pos (by omega), uQ _ (by omega) (by omega)]
  have ai : ∀ k, 121 ≤ k → k < 136 → ad0 a (fun k => if k < 134 then (sxQ x1 r3 x5 r7 x9 r11 x13 r15 xi x19 r21 x23 r25 x27 r29) k else q k) k = q (k + 13) := fun k h1 h2 => by
    unfold ad0
    rw [if_neg (by omega), piN_i (by omega) (by omega)]
    exact if_neg (by omega)
  clear hc hq hC hr hm
  have fin : ∀ A : Nat → Nat, A = ad0 a (fun k => if k < 134 then (sxQ x1 r3 x5 r7 x9 r11 x13 r15 xi x19 r21 x23 r25 x27 r29) k else q k) → CW0 h' A 11 s0 ∧ PW h' A 22 E00 s0 0 ∧ h' (A 149) = some (arJ 22 kR) := fun A hA => by
    rw [← hA] at au ai
    have hu : CUndo h' A s0 := by
      refine ⟨by rw [hA]; exact cQ 38 (by decide) (by decide), ?_, fun m hm => CMom_of (fun j hj => ?_)⟩
      · have e := cQ 39 (by decide) (by decide)
        rw [uK 39 (by decide) (by decide), uQ 39 (by decide) (by decide)] at e
        rw [au 39 (by decide) (by decide), refs_cg (f := fun m => A (40 + 5 * m)) (g := fun m => r15 (1 + 5 * m)) (fun m hm => by rw [au _ (by omega) (by omega), show 40 + 5 * m - 39 = 1 + 5 * m by omega])]
        exact e
      · have e := cQ (40 + 5 * m + j) (by omega) (by omega)
        rw [uK _ (by omega) (by omega), uQ _ (by omega) (by omega), show 40 + 5 * m + j - 39 = 1 + 5 * m + j by omega] at e
        rw [au _ (by omega) (by omega), show 40 + 5 * m + j - 39 = 1 + 5 * m + j by omega, e]
        unfold uC
        rw [if_neg (by omega), show (1 + 5 * m + j - 1) % 5 = j by omega, show 1 + 5 * m + j - j = 1 + 5 * m by omega]
        exact congrArg some (moC_cg (fun t ht => by rw [au _ (by omega) (by omega), show 40 + 5 * m + t - 39 = 1 + 5 * m + t by omega]) j)
    have hi : CImg h' A s0 := by
      refine ⟨?_, fun m hm => CMom_of (fun j hj => ?_)⟩
      · rw [refs_cg (f := fun m => A (121 + 5 * m)) (g := fun m => q (134 + 5 * m)) (fun m hm => by rw [ai _ (by omega) (by omega), show 121 + 5 * m + 13 = 134 + 5 * m by omega]), hA]
        exact ci
      · rw [ai _ (by omega) (by omega), show 121 + 5 * m + j + 13 = 134 + 5 * m + j by omega, cm m j hm hj]
        exact congrArg some (moC_cg (fun t ht => by rw [ai _ (by omega) (by omega), show 121 + 5 * m + t + 13 = 134 + 5 * m + t by omega]) j)
    clear au ai uQ uK ci cm
    subst hA
    exact ⟨⟨Or.inl rfl, hx, ⟨cQ 22 (by decide) (by decide), cQ 23 (by decide) (by decide), cQ 24 (by decide) (by decide), cQ 25 (by decide) (by decide), cQ 26 (by decide) (by decide), cQ 27 (by decide) (by decide)⟩, ⟨cQ 28 (by decide) (by decide), cQ 29 (by decide) (by decide), cQ 30 (by decide) (by decide), cQ 31 (by decide) (by decide), cQ 32 (by decide) (by decide)⟩, ⟨cQ 33 (by decide) (by decide), cQ 34 (by decide) (by decide), cQ 35 (by decide) (by decide), cQ 36 (by decide) (by decide), cQ 37 (by decide) (by decide)⟩, hu, hi, ⟨fun _ => 0, ⟨cQ 121 (by decide) (by decide), cQ 122 (by decide) (by decide)⟩, fun _ => Nat.zero_le _⟩, ⟨0, fun _ => 0, fun _ => 0, fun _ => 0, fun _ => 0, cQ 123 (by decide) (by decide), cQ 124 (by decide) (by decide), cQ 125 (by decide) (by decide), cQ 126 (by decide) (by decide), ⟨fun _ => 0, ⟨cQ 127 (by decide) (by decide), cQ 128 (by decide) (by decide)⟩, fun _ => Nat.zero_le _⟩⟩, ⟨0, fun _ => 0, fun _ => 0, cQ 129 (by decide) (by decide), cQ 130 (by decide) (by decide), cQ 131 (by decide) (by decide), ⟨fun _ => 0, ⟨cQ 132 (by decide) (by decide), cQ 133 (by decide) (by decide)⟩, fun _ => Nat.zero_le _⟩⟩⟩, ⟨cQ 0 (by decide) (by decide), cQ 1 (by decide) (by decide), ⟨cQ 2 (by decide) (by decide), cQ 3 (by decide) (by decide), cQ 4 (by decide) (by decide), cQ 5 (by decide) (by decide), cQ 6 (by decide) (by decide)⟩, ⟨cQ 19 (by decide) (by decide), cQ 20 (by decide) (by decide), cQ 21 (by decide) (by decide)⟩, ⟨cQ 8 (by decide) (by decide), cQ 9 (by decide) (by decide), cQ 10 (by decide) (by decide), cQ 11 (by decide) (by decide), cQ 12 (by decide) (by decide), cQ 13 (by decide) (by decide)⟩, ⟨cQ 14 (by decide) (by decide), cQ 15 (by decide) (by decide), cQ 16 (by decide) (by decide), cQ 17 (by decide) (by decide), cQ 18 (by decide) (by decide)⟩⟩, cQ 7 (by decide) (by decide)⟩
  rw [eqq]
  exact fin _ rfl
