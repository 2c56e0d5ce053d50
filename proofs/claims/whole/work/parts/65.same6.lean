/-! ===== ways to hang: codes and rows of hooks ===== -/
theorem hgI_add (G : Nat → hS → hS) (n : Nat) : ∀ m st, hgI G (n + m) st = hgI (fun k st => G (n + k) st) m (hgI G n st)
  | 0, _ => rfl
  | m + 1, st => by
    show G (n + m) (hgI G (n + m) st) = G (n + m) (hgI (fun k st => G (n + k) st) m (hgI G n st))
    rw [hgI_add G n m st]
theorem hgI_mul (G : Nat → hS → hS) (N : Nat) : ∀ M st, hgI (fun h st => hgI (fun c st => G (h * N + c) st) N st) M st = hgI G (M * N) st
  | 0, st => by rw [Nat.zero_mul]; rfl
  | M + 1, st => by
    show hgI (fun c st => G (M * N + c) st) N (hgI (fun h st => hgI (fun c st => G (h * N + c) st) N st) M st) = _
    rw [hgI_mul G N M st, Nat.add_mul, Nat.one_mul, hgI_add G (M * N) N st]
/-- hooks of the senators s .. s + k - 1 by the code c -/
def asg (H : Nat) (a : Nat → Nat) (s k c : Nat) : Nat → Nat := fun j => if s ≤ j ∧ j < s + k then c / H ^ (s + k - 1 - j) % H else a j
def leafS (V : (Nat → Nat) → Nat) (sen : Nat) (a : Nat → Nat) (st : hS) : hS := if injN a sen ∧ st.1 < ↑(V a) then hLf V a st else st
theorem asg_s {H : Nat} (a : Nat → Nat) (s k h c : Nat) (hh : h < H) (hc : c < H ^ k) : asg H (fun j => if j = s then h else a j) (s + 1) k c = asg H a s (k + 1) (h * H ^ k + c) := by
  have hH : 0 < H := by omega
  funext j
  show (if s + 1 ≤ j ∧ j < s + 1 + k then c / H ^ (s + 1 + k - 1 - j) % H else if j = s then h else a j) = if s ≤ j ∧ j < s + (k + 1) then (h * H ^ k + c) / H ^ (s + (k + 1) - 1 - j) % H else a j
  by_cases e : j = s
  · subst e
    rw [if_neg (by omega), if_pos rfl, if_pos (by omega), show j + (k + 1) - 1 - j = k by omega, Nat.add_comm, Nat.add_mul_div_right _ _ (Nat.pow_pos hH), Nat.div_eq_of_lt hc, Nat.zero_add, Nat.mod_eq_of_lt hh]
  · by_cases d : s + 1 ≤ j ∧ j < s + 1 + k
    · rw [if_pos d, if_pos (by omega), show s + (k + 1) - 1 - j = s + 1 + k - 1 - j by omega]
      obtain ⟨e, he⟩ : ∃ e, e = s + 1 + k - 1 - j := ⟨_, rfl⟩
      rw [← he]
      have hp : h * H ^ k = h * H ^ (k - e - 1) * H * H ^ e := by
        rw [Nat.mul_assoc, Nat.mul_assoc, ← Nat.pow_succ', ← Nat.pow_add]
        congr 2
        omega
      rw [hp, Nat.add_comm, Nat.add_mul_div_right _ _ (Nat.pow_pos hH), Nat.add_mul_mod_self_right]
    · rw [if_neg d, if_neg e, if_neg (by omega)]
theorem hgL_code (V : (Nat → Nat) → Nat) (sen H : Nat) : ∀ k s a st, hgL V sen H k s a st = hgI (fun c st => leafS V sen (asg H a s k c) st) (H ^ k) st
  | 0, s, a, st => by
    show _ = leafS V sen (asg H a s 0 0) st
    have : asg H a s 0 0 = a := by funext j; unfold asg; rw [if_neg (by omega)]
    rw [this]
    rfl
  | k + 1, s, a, st => by
    show hgI (fun h st => hgL V sen H k (s + 1) (fun j => if j = s then h else a j) st) H st = _
    rw [Nat.pow_succ', ← hgI_mul (fun c st => leafS V sen (asg H a s (k + 1) c) st) (H ^ k) H st]
    refine hgI_congr H (fun h u hh => ?_)
    show hgL V sen H k (s + 1) (fun j => if j = s then h else a j) u = _
    rw [hgL_code V sen H k (s + 1) _ u]
    refine hgI_congr _ (fun c w hc => ?_)
    show leafS V sen (asg H (fun j => if j = s then h else a j) (s + 1) k c) w = leafS V sen (asg H a s (k + 1) (h * H ^ k + c)) w
    rw [asg_s a s k h c hh hc]
section REL7
variable {σ : sT} {ζ : Nat → Nat → Nat} {V : Nat → Nat}
theorem asg_dg (rp : RP σ ζ) {c k : Nat} (hk : k < σ 1 5 0) : asg (σ 1 3 0) (fun _ => 0) 0 (σ 1 5 0) c k = dgN ζ c k := by
  unfold asg dgN
  rw [if_pos (by omega), rp.1.2.2.2.2.1, rp.1.2.2.2.2.2.1, Nat.zero_add]
theorem injN_congr {a b : Nat → Nat} {n : Nat} (h : ∀ k, k < n → a k = b k) : injN a n ↔ injN b n := by
  constructor
  · intro q i hi j hj e
    exact q i hi j hj (by rw [h i hi, h j hj]; exact e)
  · intro q i hi j hj e
    exact q i hi j hj (by rw [← h i hi, ← h j hj]; exact e)
theorem r_hb (rp : RP σ ζ) (hz : SaOk ζ) {q : Nat} {W : Nat → Nat → Nat} {U : Nat → Nat} (hU : ∀ c, injN (dgN ζ c) (σ 1 5 0) → U c = hv q (σ 1 5 0) (fun t => W t (dgN ζ c t))) (hv_congr : ∀ E F : Nat → Nat, (∀ k, k < σ 1 5 0 → E k = F k) → hv q (σ 1 5 0) E = hv q (σ 1 5 0) F) : ∀ c, (hgI (fun c st => leafS (fun a => hv q (σ 1 5 0) (fun t => W t (a t))) (σ 1 5 0) (asg (σ 1 3 0) (fun _ => 0) 0 (σ 1 5 0) c) st) c (-1, fun _ => 0)).1 = (hbS ζ U c).1 ∧ ∀ s, s < σ 1 5 0 → (hgI (fun c st => leafS (fun a => hv q (σ 1 5 0) (fun t => W t (a t))) (σ 1 5 0) (asg (σ 1 3 0) (fun _ => 0) 0 (σ 1 5 0) c) st) c (-1, fun _ => 0)).2 s = (hbS ζ U c).2 s
  | 0 => ⟨rfl, fun _ _ => rfl⟩
  | c + 1 => by
    obtain ⟨i1, i2⟩ := r_hb rp hz hU hv_congr c
    have h5 : σ 1 5 0 ≤ 6 := by rw [← rp.1.2.2.2.2.2.1]; exact hz.2.2.2.2.2.1
    generalize hX : hgI (fun c st => leafS (fun a => hv q (σ 1 5 0) (fun t => W t (a t))) (σ 1 5 0) (asg (σ 1 3 0) (fun _ => 0) 0 (σ 1 5 0) c) st) c (-1, fun _ => 0) = X at i1 i2
    have e0 : hgI (fun c st => leafS (fun a => hv q (σ 1 5 0) (fun t => W t (a t))) (σ 1 5 0) (asg (σ 1 3 0) (fun _ => 0) 0 (σ 1 5 0) c) st) (c + 1) (-1, fun _ => 0) = leafS (fun a => hv q (σ 1 5 0) (fun t => W t (a t))) (σ 1 5 0) (asg (σ 1 3 0) (fun _ => 0) 0 (σ 1 5 0) c) X := by rw [← hX]; rfl
    rw [e0]
    have ha : ∀ k, k < σ 1 5 0 → asg (σ 1 3 0) (fun _ => 0) 0 (σ 1 5 0) c k = dgN ζ c k := fun k hk => asg_dg rp hk
    have hval : hv q (σ 1 5 0) (fun t => W t (asg (σ 1 3 0) (fun _ => 0) 0 (σ 1 5 0) c t)) = hv q (σ 1 5 0) (fun t => W t (dgN ζ c t)) := hv_congr _ _ (fun k hk => by rw [ha k hk])
    have p5 := rp.1.2.2.2.2.2.1
    by_cases hc : injN (dgN ζ c) (ζ 5 0) ∧ (hbS ζ U c).1 < ↑(U c)
    · have e1 : hbS ζ U (c + 1) = (↑(U c), dgN ζ c) := if_pos hc
      have hc' : injN (dgN ζ c) (σ 1 5 0) := by rw [← p5]; exact hc.1
      have e2 : leafS (fun a => hv q (σ 1 5 0) (fun t => W t (a t))) (σ 1 5 0) (asg (σ 1 3 0) (fun _ => 0) 0 (σ 1 5 0) c) X = hLf (fun a => hv q (σ 1 5 0) (fun t => W t (a t))) (asg (σ 1 3 0) (fun _ => 0) 0 (σ 1 5 0) c) X := if_pos ⟨(injN_congr ha).mpr hc', by rw [i1]; show (hbS ζ U c).1 < ↑(hv q (σ 1 5 0) (fun t => W t (asg (σ 1 3 0) (fun _ => 0) 0 (σ 1 5 0) c t))); rw [hval, ← hU c hc']; exact hc.2⟩
      rw [e1, e2]
      refine ⟨?_, fun s hs => ?_⟩
      · show ((hv q (σ 1 5 0) (fun t => W t (asg (σ 1 3 0) (fun _ => 0) 0 (σ 1 5 0) c t)) : Nat) : Int) = ↑(U c)
        rw [hval, ← hU c hc']
      · show (if s < 6 then asg (σ 1 3 0) (fun _ => 0) 0 (σ 1 5 0) c s else X.2 s) = dgN ζ c s
        rw [if_pos (by omega), ha s hs]
    · have e1 : hbS ζ U (c + 1) = hbS ζ U c := if_neg hc
      have e2 : leafS (fun a => hv q (σ 1 5 0) (fun t => W t (a t))) (σ 1 5 0) (asg (σ 1 3 0) (fun _ => 0) 0 (σ 1 5 0) c) X = X := if_neg (fun z => hc ⟨by rw [p5]; exact (injN_congr ha).mp z.1, by
        have h1 : X.1 < ↑(hv q (σ 1 5 0) (fun t => W t (asg (σ 1 3 0) (fun _ => 0) 0 (σ 1 5 0) c t))) := z.2
        have h2 := (injN_congr ha).mp z.1
        rw [i1, hval, ← hU c h2] at h1
        exact h1⟩)
      rw [e1, e2]; exact ⟨i1, i2⟩
theorem mHg_k {c k : Nat} (hk : 6 ≤ k) (hz : SaOk ζ) : mHg ζ V c k = V k := by
  have := hz.2.2.2.2.2.1
  simp only [mHg]; rw [if_neg (by omega)]
theorem r_hg (rp : RP σ ζ) (hz : SaOk ζ) (rv : RV σ 3 V) {c s : Nat} (hs : s < σ 1 5 0) (n : Nat) : cLoss (ζ 1 0) (ζ 12 (mHg ζ V c s)) (mHg ζ V c (6 + s)) (mHg ζ V c 23) n = cLoss (σ 1 1 0) (σ 1 4 (dgN ζ c s)) (σ 3 3 s) (σ 3 0 0) n := by
  have p5 := rp.1.2.2.2.2.2.1
  have h4 : 0 < ζ 4 0 := by rw [rp.1.2.2.2.2.1]; have := rp.2.2.2.2.1; omega
  have e : mHg ζ V c s = dgN ζ c s := by simp only [mHg]; rw [if_pos (by omega)]
  have hd : dgN ζ c s < ζ 4 0 := Nat.mod_lt _ h4
  rw [e, mHg_k (by omega) hz, mHg_k (by omega) hz, (rv.1 s hs).2.1, rv.2.2.1, rp.1.2.1, rp.2.1 _ (by rw [← rp.1.2.2.2.2.1]; exact hd)]
theorem r_hangW (rp : RP σ ζ) (hz : SaOk ζ) (rv : RV σ 3 V) (n : Int) (hn : 0 ≤ n) (c : Nat) : hbW ζ V n c = hv 0 (σ 1 5 0) (fun t => wG σ n.toNat t (dgN ζ c t)) := by
  have p5 := rp.1.2.2.2.2.2.1
  have h5 : σ 1 5 0 ≤ 6 := by rw [← p5]; exact hz.2.2.2.2.2.1
  unfold hbW hv
  rw [if_neg (by omega), if_pos rfl]
  unfold mG
  rw [p5, popN_setN _ h5]
  refine sumN_congr _ (fun s hs => ?_)
  show (if decide (0 < mDs ζ mF (mHg ζ V c) n.toNat (12 + s)) = true then 1 else 0) = _
  rw [mF_l (mHg ζ V c) (by omega) hz.2.2.2.2.2.1, r_hg rp hz rv hs, mHg_k (by omega) hz, (rv.1 s hs).2.2.1]
  show (if decide _ = true then 1 else 0) = wG σ n.toNat s (dgN ζ c s)
  unfold wG
  by_cases q : cLoss (σ 1 1 0) (σ 1 4 (dgN ζ c s)) (σ 3 3 s) (σ 3 0 0) n.toNat < σ 3 5 s
  · rw [if_pos q, if_pos (by rw [decide_eq_true_eq]; omega)]
  · rw [if_neg q, if_neg (by rw [decide_eq_true_eq]; omega)]
theorem r_longW (rp : RP σ ζ) (hz : SaOk ζ) (rv : RV σ 3 V) (c : Nat) : hbW ζ V (-1) c = hv (σ 1 0 0) (σ 1 5 0) (fun t => wL σ t (dgN ζ c t)) := by
  have hq := rp.2.2.2.2.1.1
  unfold hbW hv
  rw [if_pos (by decide), if_neg (by omega)]
  refine r_last rp hz (fun s hs => ?_)
  have h4 : 0 < ζ 4 0 := by rw [rp.1.2.2.2.2.1]; have := rp.2.2.2.2.1; omega
  have p5 := rp.1.2.2.2.2.2.1
  have e : mHg ζ V c s = dgN ζ c s := by simp only [mHg]; rw [if_pos (by omega)]
  have hd : dgN ζ c s < ζ 4 0 := Nat.mod_lt _ h4
  unfold mE wL
  rw [e, mHg_k (by omega) hz, mHg_k (by omega) hz, mHg_k (by omega) hz, (rv.1 s hs).2.1, (rv.1 s hs).2.2.1, rv.2.2.1, rp.1.2.1, rp.2.1 _ (by rw [← rp.1.2.2.2.2.1]; exact hd)]
theorem hv_c {q sen : Nat} (E F : Nat → Nat) (h : ∀ k, k < sen → E k = F k) : hv q sen E = hv q sen F := by
  unfold hv
  split
  · exact sumN_congr _ h
  · exact cQD_congr _ _ h _ (Nat.le_refl _)
theorem r_hgC (rp : RP σ ζ) (hz : SaOk ζ) {q : Nat} {W : Nat → Nat → Nat} {U : Nat → Nat} (hU : ∀ c, U c = hv q (σ 1 5 0) (fun t => W t (dgN ζ c t))) : (hgC σ q W).1 = (hbS ζ U (ζ 4 0 ^ ζ 5 0)).1 ∧ ∀ s, s < σ 1 5 0 → (hgC σ q W).2 s = (hbS ζ U (ζ 4 0 ^ ζ 5 0)).2 s := by
  unfold hgC hgR
  rw [hgL_code, rp.1.2.2.2.2.1, rp.1.2.2.2.2.2.1]
  exact r_hb rp hz (fun c _ => hU c) (fun E F h => hv_c E F h) _
theorem e_hang (rp : RP σ ζ) (hz : SaOk ζ) (rv : RV σ 3 V) (n : Int) : bHang ζ V n = aHang σ n := by
  rw [bHang, aHang, if_neg (r_told rp)]
  by_cases c : n < 0 ∨ 60 < n
  · rw [why_2 rfl c, if_pos c]; rfl
  · rw [why_3 rfl c, if_neg c, if_neg (by omega), (r_hgC rp hz (fun c => r_hangW rp hz rv n (by omega) c)).1]
theorem e_hangAt (rp : RP σ ζ) (hz : SaOk ζ) (rv : RV σ 3 V) (s n : Int) : bHangAt ζ V s n = aHangAt σ s n := by
  have p5 := rp.1.2.2.2.2.2.1
  unfold bHangAt aHangAt
  by_cases d : s < 0 ∨ ↑(σ 1 5 0) ≤ s
  · rw [why_1 (decide_eq_false (by omega)), if_pos d]; rfl
  · by_cases c : n < 0 ∨ 60 < n
    · rw [why_2 (decide_eq_true (by omega)) c, if_neg d, if_pos c]; rfl
    · rw [why_3 (decide_eq_true (by omega)) c, if_neg d, if_neg c, if_neg (by omega), (r_hgC rp hz (fun c => r_hangW rp hz rv n (by omega) c)).2 _ (by omega)]
theorem e_longest (rp : RP σ ζ) (hz : SaOk ζ) (rv : RV σ 3 V) : bLongest ζ V = aLongest σ := by
  rw [bLongest, aLongest, if_neg (r_told rp), (r_hgC rp hz (fun c => r_longW rp hz rv c)).1]
theorem e_longestAt (rp : RP σ ζ) (hz : SaOk ζ) (rv : RV σ 3 V) (s : Int) : bLongestAt ζ V s = aLongestAt σ s := by
  have p5 := rp.1.2.2.2.2.2.1
  unfold bLongestAt aLongestAt
  by_cases d : s < 0 ∨ ↑(σ 1 5 0) ≤ s
  · rw [if_pos d, if_pos (by omega)]
  · rw [if_neg d, if_neg (by omega), (r_hgC rp hz (fun c => r_longW rp hz rv c)).2 _ (by omega)]
end REL7
