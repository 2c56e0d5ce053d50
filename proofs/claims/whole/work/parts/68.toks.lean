/-! ===== texts: the tape T, its length n, TOKENS by their places ===== -/
def lB (x : Int) : Bool := decide (97 ≤ x ∧ x ≤ 122)
def dB (x : Int) : Bool := decide (48 ≤ x ∧ x ≤ 57)
def bB (x : Int) : Bool := decide (x = 32)
def scn (T : Nat → Int) (n : Nat) (c : Int → Bool) (p : Nat) : Nat := fstN (fun k => decide (n ≤ k) || !c (T k)) (n - p) p
section SCN
variable {T : Nat → Int} {n p : Nat} {c : Int → Bool}
theorem scn_stop (h : n ≤ p) : scn T n c p = p := by unfold scn; rw [show n - p = 0 by omega]; rfl
theorem scn_go (h : p < n) (hc : c (T p) = true) : scn T n c p = scn T n c (p + 1) := by
  unfold scn
  rw [show n - p = (n - (p + 1)) + 1 by omega]
  simp only [fstN]
  rw [if_neg (by rw [hc]; simp; omega)]
theorem scn_end (h : p < n) (hc : c (T p) = false) : scn T n c p = p := by
  unfold scn
  rw [show n - p = (n - (p + 1)) + 1 by omega]
  simp only [fstN]
  rw [if_pos (by rw [hc]; simp)]
theorem scn_ge : ∀ d p, n - p = d → p ≤ scn T n c p
  | 0, p, h => by rw [scn_stop (by omega)]; exact Nat.le_refl _
  | d + 1, p, h => by
    cases hc : c (T p)
    · rw [scn_end (by omega) hc]; exact Nat.le_refl _
    · rw [scn_go (by omega) hc]
      have := scn_ge d (p + 1) (by omega)
      omega
theorem scn_le : ∀ d p, n - p = d → p ≤ n → scn T n c p ≤ n
  | 0, p, h, hp => by rw [scn_stop (by omega)]; exact hp
  | d + 1, p, h, hp => by
    cases hc : c (T p)
    · rw [scn_end (by omega) hc]; exact hp
    · rw [scn_go (by omega) hc]
      exact scn_le d (p + 1) (by omega) (by omega)
theorem scn_in : ∀ d p, n - p = d → ∀ k, p ≤ k → k < scn T n c p → c (T k) = true
  | 0, p, h, k, h1, h2 => by rw [scn_stop (by omega)] at h2; omega
  | d + 1, p, h, k, h1, h2 => by
    cases hc : c (T p)
    · rw [scn_end (by omega) hc] at h2; omega
    · rw [scn_go (by omega) hc] at h2
      by_cases e : k = p
      · rw [e]; exact hc
      · exact scn_in d (p + 1) (by omega) k (by omega) h2
theorem scn_pos (h : p < n) (hc : c (T p) = true) : p + 1 ≤ scn T n c p := by
  rw [scn_go h hc]; exact scn_ge _ _ rfl
/-- where a scan that goes from a has come to, at b, with the same end -/
theorem scn_mid : ∀ d a, n - a = d → scn T n c (scn T n c a) = scn T n c a
  | 0, a, h => by
    have e := scn_stop (T := T) (c := c) (show n ≤ a by omega)
    rw [e, e]
  | d + 1, a, h => by
    cases hc : c (T a)
    · rw [scn_end (by omega) hc, scn_end (by omega) hc]
    · rw [scn_go (by omega) hc]; exact scn_mid d (a + 1) (by omega)
end SCN
/-- letters packed, five bits each; digits -/
def pkF (f : Nat → Nat) (b : Nat) : Nat → Nat
  | 0 => 0
  | m + 1 => b * pkF f b m + f m
theorem pkF_congr {f g : Nat → Nat} {b : Nat} : ∀ m, (∀ k, k < m → f k = g k) → pkF f b m = pkF g b m
  | 0, _ => rfl
  | m + 1, h => by simp only [pkF]; rw [pkF_congr m (fun k hk => h k (by omega)), h m (by omega)]
theorem pkF_lt {f : Nat → Nat} {b : Nat} (hf : ∀ k, f k < b) : ∀ m, pkF f b m < b ^ m
  | 0 => by simp [pkF]
  | m + 1 => by
    have h1 := pkF_lt hf m
    have h2 := hf m
    simp only [pkF]
    rw [Nat.pow_succ]
    have h3 : b * (pkF f b m + 1) ≤ b * b ^ m := Nat.mul_le_mul_left b h1
    rw [Nat.mul_add, Nat.mul_one, Nat.mul_comm b (b ^ m)] at h3
    omega
theorem pkF_inj {f g : Nat → Nat} : ∀ m l, (∀ k, k < m → 1 ≤ f k ∧ f k < 32) → (∀ k, k < l → 1 ≤ g k ∧ g k < 32) → pkF f 32 m = pkF g 32 l → m = l ∧ ∀ k, k < m → f k = g k
  | 0, 0, _, _, _ => ⟨rfl, fun _ h => absurd h (by omega)⟩
  | 0, l + 1, _, hg, h => by
    have := hg l (by omega)
    simp only [pkF] at h; omega
  | m + 1, 0, hf, _, h => by
    have := hf m (by omega)
    simp only [pkF] at h; omega
  | m + 1, l + 1, hf, hg, h => by
    have h1 := hf m (by omega)
    have h2 := hg l (by omega)
    simp only [pkF] at h
    obtain ⟨e1, e2⟩ := pkF_inj m l (fun k hk => hf k (by omega)) (fun k hk => hg k (by omega)) (by omega)
    refine ⟨by omega, fun k hk => ?_⟩
    by_cases e : k = m
    · subst e; subst e1; omega
    · exact e2 k (by omega)
def wF (T : Nat → Int) (a : Nat) : Nat → Nat := fun k => (T (a + k) - 96).toNat
def dF (T : Nat → Int) (a : Nat) : Nat → Nat := fun k => (T (a + k) - 48).toNat
/-- the keywords' letters, by their numbers 1 .. 21 -/
def kLn (k : Nat) : Nat := ssSl.getD (k - 1) 0
def kCh (k i : Nat) : Nat := (((ssSb.getD (k - 1) []).getD i 0).toInt - 96).toNat
def kw (k : Nat) : Nat := pkF (kCh k) 32 (kLn k)
def kfo (w : Nat) : Nat → Nat
  | 0 => 0
  | k + 1 => if kw (k + 1) = w then k + 1 else kfo w k
def keyOf (w : Nat) : Nat := kfo w 21
theorem kfo_le (w : Nat) : ∀ n, kfo w n ≤ n
  | 0 => Nat.le_refl _
  | n + 1 => by
    have := kfo_le w n
    simp only [kfo]; split <;> omega
theorem kfo_kw (w : Nat) : ∀ n, 1 ≤ kfo w n → kw (kfo w n) = w
  | 0, h => absurd h (by simp [kfo])
  | n + 1, h => by
    simp only [kfo] at h ⊢
    split
    · rename_i c; exact c
    · rename_i c; rw [if_neg c] at h; exact kfo_kw w n h
theorem kw_keyOf : ∀ k : Fin 22, 1 ≤ k.val → keyOf (kw k.val) = k.val := by decide +kernel
theorem keyOf_iff {w k : Nat} (h1 : 1 ≤ k) (h2 : k ≤ 21) : keyOf w = k ↔ w = kw k := by
  constructor
  · intro h
    have := kfo_kw w 21 (by show 1 ≤ keyOf w; omega)
    rw [show kfo w 21 = k from h] at this
    exact this.symm
  · intro h
    rw [h]; exact kw_keyOf ⟨k, by omega⟩ h1
theorem kw_facts : ∀ k : Fin 22, 1 ≤ k.val → kLn k.val ≤ 7 ∧ 1 ≤ kLn k.val ∧ (ssSb.getD (k.val - 1) []).length = kLn k.val ∧ (∀ i : Fin 7, i.val < kLn k.val → 1 ≤ kCh k.val i.val ∧ kCh k.val i.val < 32 ∧ ((ssSb.getD (k.val - 1) []).getD i.val 0) = zI (↑(kCh k.val i.val) + 96)) ∧ kw k.val < 1099511627776 := by decide +kernel
theorem keyOf_le (w : Nat) : keyOf w ≤ 21 := kfo_le w 21
/-- what stands at place p of the tape: the TOKEN's sort (0 bad, 1 the end, 2 a word, 3 a whole, 4 a semicolon), where it begins, its value, where it ends -/
def kP (T : Nat → Int) (n p : Nat) : Nat := scn T n bB p
def kS (T : Nat → Int) (n p : Nat) : Nat := if n ≤ kP T n p then 1 else if lB (T (kP T n p)) = true then (if scn T n lB (kP T n p) - kP T n p ≤ 8 then 2 else 0) else if dB (T (kP T n p)) = true then (if scn T n dB (kP T n p) - kP T n p ≤ 3 then 3 else 0) else if T (kP T n p) = 59 then 4 else 0
def kV (T : Nat → Int) (n p : Nat) : Nat := if lB (T (kP T n p)) = true then pkF (wF T (kP T n p)) 32 (scn T n lB (kP T n p) - kP T n p) else pkF (dF T (kP T n p)) 10 (scn T n dB (kP T n p) - kP T n p)
def kN (T : Nat → Int) (n p : Nat) : Nat := if n ≤ kP T n p then kP T n p else if lB (T (kP T n p)) = true then scn T n lB (kP T n p) else if dB (T (kP T n p)) = true then scn T n dB (kP T n p) else if T (kP T n p) = 59 then kP T n p + 1 else kP T n p
def pos (T : Nat → Int) (n : Nat) : Nat → Nat
  | 0 => 0
  | i + 1 => kN T n (pos T n i)
def tS (T : Nat → Int) (n i : Nat) : Nat := kS T n (pos T n i)
def tP (T : Nat → Int) (n i : Nat) : Nat := kP T n (pos T n i)
def tV (T : Nat → Int) (n i : Nat) : Nat := kV T n (pos T n i)
def tK (T : Nat → Int) (n i : Nat) : Nat := if tS T n i = 2 then keyOf (tV T n i) else 0
def liv (T : Nat → Int) (n i : Nat) : Prop := ∀ j, j < i → 2 ≤ tS T n j
section TOK
variable {T : Nat → Int} {n : Nat}
theorem lB_d {x : Int} (h : lB x = true) : dB x = false ∧ bB x = false ∧ ¬ x = 59 ∧ 97 ≤ x ∧ x ≤ 122 := by
  simp only [lB, decide_eq_true_eq] at h
  refine ⟨?_, ?_, by omega, h.1, h.2⟩ <;> simp only [dB, bB, decide_eq_false_iff_not] <;> omega
theorem kP_le {p : Nat} (h : p ≤ n) : kP T n p ≤ n := scn_le _ _ rfl h
theorem kP_ge (p : Nat) : p ≤ kP T n p := scn_ge _ _ rfl
theorem kN_le {p : Nat} (h : p ≤ n) : kN T n p ≤ n := by
  have h1 := kP_le (T := T) h
  unfold kN
  split
  · exact h1
  · split
    · exact scn_le _ _ rfl h1
    · split
      · exact scn_le _ _ rfl h1
      · split <;> omega
theorem kS_le (p : Nat) : kS T n p ≤ 4 := by
  unfold kS
  repeat' split
  all_goals omega
/-- a TOKEN that isn't the last has a sign at least -/
theorem kN_gt {p : Nat} (h : 2 ≤ kS T n p) : kP T n p < n ∧ kP T n p + 1 ≤ kN T n p := by
  unfold kS at h
  unfold kN
  by_cases h1 : n ≤ kP T n p
  · rw [if_pos h1] at h; omega
  · rw [if_neg h1] at h ⊢
    refine ⟨by omega, ?_⟩
    cases h2 : lB (T (kP T n p))
    · rw [h2, if_neg (by decide)] at h
      rw [if_neg (by decide)]
      cases h3 : dB (T (kP T n p))
      · rw [h3, if_neg (by decide)] at h
        rw [if_neg (by decide)]
        by_cases h4 : T (kP T n p) = 59
        · rw [if_pos h4]; exact Nat.le_refl _
        · rw [if_neg h4] at h; omega
      · rw [if_pos rfl]; exact scn_pos (by omega) h3
    · rw [if_pos rfl]; exact scn_pos (by omega) h2
theorem pos_le : ∀ i, pos T n i ≤ n
  | 0 => Nat.zero_le _
  | i + 1 => kN_le (pos_le i)
theorem liv_pos : ∀ i, liv T n i → i ≤ pos T n i
  | 0, _ => Nat.zero_le _
  | i + 1, h => by
    have h1 := liv_pos i (fun j hj => h j (by omega))
    have h2 := kN_gt (h i (by omega))
    have h3 := kP_ge (T := T) (n := n) (pos T n i)
    show i + 1 ≤ kN T n (pos T n i)
    omega
theorem liv_le {i : Nat} (h : liv T n i) : i ≤ n := Nat.le_trans (liv_pos i h) (pos_le i)
theorem liv_s {i : Nat} (h : liv T n i) (h2 : 2 ≤ tS T n i) : liv T n (i + 1) := fun j hj => by
  by_cases e : j = i
  · rw [e]; exact h2
  · exact h j (by omega)
theorem tP_le (i : Nat) : tP T n i ≤ n := kP_le (pos_le i)
/-- a word's number is known by its letters -/
theorem kw_word {a m k : Nat} (h1 : 1 ≤ k) (h2 : k ≤ 21) (hT : ∀ j, j < m → lB (T (a + j)) = true) : pkF (wF T a) 32 m = kw k ↔ m = kLn k ∧ ∀ j, j < m → T (a + j) = ((ssSb.getD (k - 1) []).getD j 0).toInt := by
  obtain ⟨f1, f2, f3, f4, f5⟩ := kw_facts ⟨k, by omega⟩ h1
  simp only at f1 f2 f3 f4 f5
  have hw : ∀ j, j < m → 1 ≤ wF T a j ∧ wF T a j < 32 ∧ T (a + j) = ↑(wF T a j) + 96 := fun j hj => by
    have := (lB_d (hT j hj)).2.2.2
    unfold wF
    omega
  have hc : ∀ j, j < kLn k → 1 ≤ kCh k j ∧ kCh k j < 32 ∧ ((ssSb.getD (k - 1) []).getD j 0).toInt = ↑(kCh k j) + 96 := fun j hj => by
    obtain ⟨g1, g2, g3⟩ := f4 ⟨j, by omega⟩ hj
    simp only at g1 g2 g3
    exact ⟨g1, g2, by rw [g3, zI_toInt (by omega) (by omega)]⟩
  constructor
  · intro h
    obtain ⟨e1, e2⟩ := pkF_inj m (kLn k) (fun j hj => ⟨(hw j hj).1, (hw j hj).2.1⟩) (fun j hj => ⟨(hc j hj).1, (hc j hj).2.1⟩) h
    refine ⟨e1, fun j hj => ?_⟩
    rw [(hw j hj).2.2, (hc j (by omega)).2.2, e2 j hj]
  · rintro ⟨e1, e2⟩
    subst e1
    refine pkF_congr _ (fun j hj => ?_)
    have h3 := e2 j hj
    rw [(hw j hj).2.2, (hc j hj).2.2] at h3
    omega
theorem wF_lt {a m : Nat} (hT : ∀ j, j < m → lB (T (a + j)) = true) (hm : m ≤ 8) : pkF (wF T a) 32 m < 1099511627776 := by
  have h1 : pkF (wF T a) 32 m = pkF (fun j => if j < m then wF T a j else 0) 32 m := pkF_congr _ (fun k hk => by rw [if_pos hk])
  rw [h1]
  have h2 := pkF_lt (f := fun j => if j < m then wF T a j else 0) (b := 32) (fun k => by
    show (if k < m then wF T a k else 0) < 32
    split
    · rename_i q
      have := (lB_d (hT k q)).2.2.2
      unfold wF; omega
    · omega) m
  have h3 : 32 ^ m ≤ 32 ^ 8 := Nat.pow_le_pow_right (by decide) hm
  have h4 : (32 : Nat) ^ 8 = 1099511627776 := by decide
  omega
theorem dF_lt {a m : Nat} (hT : ∀ j, j < m → dB (T (a + j)) = true) (hm : m ≤ 3) : pkF (dF T a) 10 m < 1000 := by
  have h1 : pkF (dF T a) 10 m = pkF (fun j => if j < m then dF T a j else 0) 10 m := pkF_congr _ (fun k hk => by rw [if_pos hk])
  rw [h1]
  have h2 := pkF_lt (f := fun j => if j < m then dF T a j else 0) (b := 10) (fun k => by
    show (if k < m then dF T a k else 0) < 10
    split
    · rename_i q
      have := hT k q
      simp only [dB, decide_eq_true_eq] at this
      unfold dF; omega
    · omega) m
  have h3 : 10 ^ m ≤ 10 ^ 3 := Nat.pow_le_pow_right (by decide) hm
  have h4 : (10 : Nat) ^ 3 = 1000 := by decide
  omega
/-- the TOKEN of a word -/
theorem kS_2 {p : Nat} (h : kS T n p = 2) : kP T n p < n ∧ lB (T (kP T n p)) = true ∧ scn T n lB (kP T n p) - kP T n p ≤ 8 ∧ kV T n p = pkF (wF T (kP T n p)) 32 (scn T n lB (kP T n p) - kP T n p) := by
  unfold kS at h
  by_cases h1 : n ≤ kP T n p
  · rw [if_pos h1] at h; omega
  · rw [if_neg h1] at h
    cases h2 : lB (T (kP T n p))
    · rw [h2, if_neg (by decide)] at h
      split at h
      · split at h <;> omega
      · split at h <;> omega
    · rw [h2, if_pos rfl] at h
      by_cases h3 : scn T n lB (kP T n p) - kP T n p ≤ 8
      · exact ⟨by omega, rfl, h3, by unfold kV; rw [h2, if_pos rfl]⟩
      · rw [if_neg h3] at h; omega
theorem kS_3 {p : Nat} (h : kS T n p = 3) : kP T n p < n ∧ lB (T (kP T n p)) = false ∧ dB (T (kP T n p)) = true ∧ scn T n dB (kP T n p) - kP T n p ≤ 3 ∧ kV T n p = pkF (dF T (kP T n p)) 10 (scn T n dB (kP T n p) - kP T n p) := by
  unfold kS at h
  by_cases h1 : n ≤ kP T n p
  · rw [if_pos h1] at h; omega
  · rw [if_neg h1] at h
    cases h2 : lB (T (kP T n p))
    · rw [h2, if_neg (by decide)] at h
      cases h3 : dB (T (kP T n p))
      · rw [h3, if_neg (by decide)] at h
        split at h <;> omega
      · rw [h3, if_pos rfl] at h
        by_cases h4 : scn T n dB (kP T n p) - kP T n p ≤ 3
        · exact ⟨by omega, rfl, rfl, h4, by unfold kV; rw [h2, if_neg (by decide)]⟩
        · rw [if_neg h4] at h; omega
    · rw [h2, if_pos rfl] at h
      split at h <;> omega
theorem kV_lt2 {p : Nat} (h : kS T n p = 2) : kV T n p < 1099511627776 := by
  obtain ⟨h1, h2, h3, h4⟩ := kS_2 h
  rw [h4]
  exact wF_lt (fun j hj => scn_in (n := n) _ (kP T n p) rfl _ (by omega) (by omega)) h3
theorem kV_lt3 {p : Nat} (h : kS T n p = 3) : kV T n p < 1000 := by
  obtain ⟨h1, h2, h3, h4, h5⟩ := kS_3 h
  rw [h5]
  exact dF_lt (fun j hj => scn_in (n := n) _ (kP T n p) rfl _ (by omega) (by omega)) h4
/-- a keyword is a word -/
theorem tK_iff {i k : Nat} (h1 : 1 ≤ k) (h2 : k ≤ 21) : tK T n i = k ↔ tS T n i = 2 ∧ tV T n i = kw k := by
  unfold tK
  by_cases h : tS T n i = 2
  · rw [if_pos h, keyOf_iff h1 h2]; exact ⟨fun q => ⟨h, q⟩, fun q => q.2⟩
  · rw [if_neg h]; exact ⟨fun q => absurd q (by omega), fun q => absurd q.1 h⟩
theorem tK_le (i : Nat) : tK T n i ≤ 21 := by
  unfold tK
  split
  · exact keyOf_le _
  · omega
end TOK
