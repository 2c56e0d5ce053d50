/-! ===== the class's state and the model's ===== -/
def RP (σ : sT) (ζ : Nat → Nat → Nat) : Prop := (ζ 0 0 = σ 1 0 0 ∧ ζ 1 0 = σ 1 1 0 ∧ ζ 2 0 = σ 1 2 0 ∧ ζ 3 0 = σ 2 1 0 ∧ ζ 4 0 = σ 1 3 0 ∧ ζ 5 0 = σ 1 5 0 ∧ ζ 6 0 = σ 1 7 0 ∧ ζ 7 0 = σ 1 11 0 ∧ ζ 8 0 = σ 1 12 0 ∧ ζ 9 0 = σ 1 13 0 ∧ ζ 10 0 = popN (σ 1 14 0 ||| σ 1 15 0)) ∧ (∀ k, k < σ 1 3 0 → ζ 12 k = σ 1 4 k) ∧ (∀ s, s < σ 1 5 0 → ζ 13 s = σ 2 3 s ∧ ζ 14 s = σ 2 4 s ∧ ζ 15 s = σ 2 5 s ∧ ζ 16 s = σ 1 6 s ∧ σ 2 4 s < σ 1 3 0) ∧ (∀ a, a < σ 1 7 0 → ζ 17 a = σ 1 8 a ∧ ζ 18 a = σ 1 9 a ∧ ζ 19 a = σ 1 10 a ∧ ζ 20 a = if bitN (σ 1 14 0) a = true then 1 else if bitN (σ 1 15 0) a = true then 2 else 0) ∧ (1 ≤ σ 1 0 0 ∧ 1 ≤ σ 1 5 0 ∧ σ 1 5 0 ≤ σ 1 3 0) ∧ (∀ k, bitN (σ 1 14 0) k = true → k < σ 1 7 0 ∧ bitN (σ 1 15 0) k = false) ∧ (∀ k, bitN (σ 1 15 0) k = true → k < σ 1 7 0) ∧ σ 2 0 0 = 0 ∧ σ 2 2 0 = 0 ∧ (∀ a, a < σ 1 7 0 → ∀ k, bitN (σ 1 10 a) k = true → k < σ 1 7 0) ∧ σ 1 13 0 ≤ σ 1 5 0
def RV (σ : sT) (o : Nat) (V : Nat → Nat) : Prop := (∀ s, s < σ 1 5 0 → V s = σ o 4 s ∧ V (6 + s) = σ o 3 s ∧ V (12 + s) = σ o 5 s ∧ σ o 4 s < σ 1 3 0) ∧ (∀ a, a < σ 1 7 0 → σ 1 8 a < σ o 0 0 → V (18 + a) = σ o 6 (σ 1 8 a)) ∧ V 23 = σ o 0 0 ∧ V 24 = σ o 1 0 ∧ V 25 = σ o 2 0
section REL
variable {σ : sT} {ζ : Nat → Nat → Nat} {V : Nat → Nat} {o : Nat}
def sGo (σ : sT) (o t : Nat) : Nat := cGood (σ 1 1 0) (σ 1 4 (σ o 4 t)) (σ o 3 t) (σ o 0 0) (σ o 5 t)
theorem r_E (rp : RP σ ζ) (rv : RV σ o V) {s : Nat} (hs : s < σ 1 5 0) : mE ζ V s = sGo σ o s := by
  obtain ⟨v1, v2, v3, v4⟩ := rv.1 s hs
  unfold mE sGo
  rw [v1, v2, v3, rv.2.2.1, rp.1.2.1, rp.2.1 _ v4]
theorem r_loss (rp : RP σ ζ) (rv : RV σ o V) {s : Nat} (hs : s < σ 1 5 0) (n : Nat) : cLoss (ζ 1 0) (ζ 12 (V s)) (V (6 + s)) (V 23) n = cLoss (σ 1 1 0) (σ 1 4 (σ o 4 s)) (σ o 3 s) (σ o 0 0) n := by
  obtain ⟨v1, v2, v3, v4⟩ := rv.1 s hs
  rw [v1, v2, rv.2.2.1, rp.1.2.1, rp.2.1 _ v4]
theorem r_G (rp : RP σ ζ) (rv : RV σ 3 V) : mG ζ V = sGood σ := by
  unfold mG sGood
  rw [rp.1.2.2.2.2.2.1]
  exact setN_congr _ (fun s hs => by rw [(rv.1 s hs).2.2.1])
theorem aloneP_congr {qr sc : Nat} {ad ad' af af' v v' past E F : Nat → Nat} {dy a : Nat} (h1 : ad a = ad' a) (h2 : af a = af' a) (h3 : ∀ s, s < sc → v s = v' s) (h4 : ∀ s, s < sc → E s = F s) : cAloneP qr sc ad af v dy past E a = cAloneP qr sc ad' af' v' dy past F a := by
  have e : cThen sc ad dy past E a = cThen sc ad' dy past F a := by
    unfold cThen
    rw [h1]
    split
    · rfl
    · exact setN_congr sc (fun k hk => by rw [h4 k hk])
  have el : ∀ f m, cLead v f sc m = cLead v' f sc m := fun f m => by
    unfold cLead
    rw [sumN_congr sc (fun k hk => by rw [h3 k hk]), sumN_congr (f := fun s => v s * (andn m f / 2 ^ s % 2)) (g := fun s => v' s * (andn m f / 2 ^ s % 2)) sc (fun k hk => by rw [h3 k hk])]
  unfold cAloneP
  rw [e, h2, el]
def sAlo (σ : sT) (o : Nat) (E : Nat → Nat) : Nat := setN (cAloneP (σ 1 0 0) (σ 1 5 0) (σ 1 8) (σ 1 9) (σ 1 6) (σ o 0 0) (σ o 6) E) (σ 1 7 0)
/-- with other days of being good -/
theorem r_Al (rp : RP σ ζ) (hz : SaOk ζ) {E : Nat → Nat} (hE : ∀ s, s < σ 1 5 0 → mE ζ V s = E s) (h23 : V 23 = σ o 0 0) (h18 : ∀ a, a < σ 1 7 0 → σ 1 8 a < σ o 0 0 → V (18 + a) = σ o 6 (σ 1 8 a)) : mAl ζ (mPut ζ V) = sAlo σ o E := by
  obtain ⟨p0, p1, p2, p3, p4, p5, p6, -⟩ := rp.1
  rw [mAl_eq V (σ o 6) hz (fun a ha hd => by
    rw [p6] at ha
    have e := (rp.2.2.2.1 a ha).1
    rw [e] at hd ⊢
    rw [h23] at hd
    exact h18 a ha hd)]
  unfold sAlo
  rw [p0, p5, p6, h23]
  exact setN_congr _ (fun a ha => aloneP_congr (rp.2.2.2.1 a ha).1 (rp.2.2.2.1 a ha).2.1 (fun s hs => (rp.2.2.1 s hs).2.2.2.1) hE)
theorem rIn_congr {F F' : Nat → Nat} {st : Nat} : ∀ n r, (∀ k, k < n → F k = F' k) → rIn F st n r = rIn F' st n r
  | 0, _, _ => rfl
  | n + 1, r, h => by
    simp only [rIn]
    rw [rIn_congr n r (fun k hk => h k (by omega)), h n (by omega)]
theorem rOut_congr {F F' : Nat → Nat} {st ac : Nat} (h : ∀ k, k < ac → F k = F' k) : ∀ n r, rOut F st ac n r = rOut F' st ac n r
  | 0, _ => rfl
  | n + 1, r => by simp only [rOut]; rw [rOut_congr h n r, rIn_congr ac _ h]
theorem cRO_congr {F F' : Nat → Nat} {st ac a : Nat} (h : ∀ k, k < ac → F k = F' k) (ha : a < ac) : cRO F ac a st = cRO F' ac a st := by
  unfold cRO
  rw [h a ha, rOut_congr h]
theorem cGfp_congr {F F' : Nat → Nat} {st ac al : Nat} (h : ∀ k, k < ac → F k = F' k) : cGfp F ac st al = cGfp F' ac st al := by
  unfold cGfp
  exact setN_congr _ (fun a ha => by rw [cRO_congr h ha])
theorem r_Go (rp : RP σ ζ) (hz : SaOk ζ) {E : Nat → Nat} (hE : ∀ s, s < σ 1 5 0 → mE ζ V s = E s) (h23 : V 23 = σ o 0 0) (h18 : ∀ a, a < σ 1 7 0 → σ 1 8 a < σ o 0 0 → V (18 + a) = σ o 6 (σ 1 8 a)) (st : Nat) : mGo ζ (mPut ζ V) st = cGfp (σ 1 10) (σ 1 7 0) st (sAlo σ o E) := by
  unfold mGo
  rw [r_Al rp hz hE h23 h18, rp.1.2.2.2.2.2.2.1]
  exact cGfp_congr (fun k hk => (rp.2.2.2.1 k hk).2.2.1)
theorem r_going (rp : RP σ ζ) (hz : SaOk ζ) (rv : RV σ 3 V) : mGo ζ (mPut ζ V) 0 = sGoing σ := by
  rw [r_Go rp hz (fun s hs => r_E rp rv hs) rv.2.2.1 rv.2.1]
  rfl
theorem r_last (rp : RP σ ζ) (hz : SaOk ζ) {E : Nat → Nat} (hE : ∀ s, s < σ 1 5 0 → mE ζ V s = E s) : mLast ζ V = cQD E (σ 1 5 0) (σ 1 0 0) (σ 1 5 0) := by
  obtain ⟨p0, p1, p2, p3, p4, p5, -⟩ := rp.1
  rw [mLast_eq V hz (by rw [p0]; exact rp.2.2.2.2.1.1), p0, p5]
  exact cQD_congr _ _ hE _ (Nat.le_refl _)
theorem r_lasts (rp : RP σ ζ) (hz : SaOk ζ) (rv : RV σ 3 V) : mLast ζ V = sLasts σ := r_last rp hz (fun s hs => r_E rp rv hs)
theorem r_told (rp : RP σ ζ) : ¬ σ 1 5 0 = 0 := by have := rp.2.2.2.2.1.2.1; omega
theorem e_good (rp : RP σ ζ) (rv : RV σ 3 V) : bGood ζ V = aGood σ := by rw [bGood, aGood, if_neg (r_told rp), r_G rp rv]
theorem e_quorum (rp : RP σ ζ) (rv : RV σ 3 V) : bQuorum ζ V = aQuorum σ := by rw [bQuorum, aQuorum, if_neg (r_told rp), r_G rp rv, rp.1.1]
theorem e_lasts (rp : RP σ ζ) (hz : SaOk ζ) (rv : RV σ 3 V) : bLasts ζ V = aLasts σ := by rw [bLasts, aLasts, if_neg (r_told rp), r_lasts rp hz rv]
theorem e_going (rp : RP σ ζ) (hz : SaOk ζ) (rv : RV σ 3 V) : bGoing ζ V = aGoing σ := by rw [bGoing, aGoing, if_neg (r_told rp), r_going rp hz rv]
theorem r_left (rp : RP σ ζ) (hz : SaOk ζ) (rv : RV σ 3 V) {s : Nat} (hs : s < σ 1 5 0) (n : Nat) : mDs ζ mF V n (12 + s) = σ 3 5 s - cLoss (σ 1 1 0) (σ 1 4 (σ 3 4 s)) (σ 3 3 s) (σ 3 0 0) n := by
  obtain ⟨p0, p1, p2, p3, p4, p5, -⟩ := rp.1
  rw [mF_l V (by rw [p5]; exact hs) hz.2.2.2.2.2.1, r_loss rp rv hs, (rv.1 s hs).2.2.1]
theorem why_1 {b : Bool} {s t : Int} (h : b = false) : mWhy b s t = 1 := by rw [mWhy, if_pos h]
theorem why_2 {b : Bool} {s t : Int} (h : b = true) (h2 : s < 0 ∨ t < s) : mWhy b s t = 2 := by rw [mWhy, if_neg (by rw [h]; simp), if_neg (by omega)]
theorem why_3 {b : Bool} {s t : Int} (h : b = true) (h2 : ¬ (s < 0 ∨ t < s)) : mWhy b s t = 0 := by rw [mWhy, if_neg (by rw [h]; simp), if_pos (by omega)]
theorem e_goodIn (rp : RP σ ζ) (hz : SaOk ζ) (rv : RV σ 3 V) (s n : Int) : bGoodIn ζ V s n = aGoodIn σ s n := by
  have p5 := rp.1.2.2.2.2.2.1
  unfold bGoodIn aGoodIn
  rw [p5]
  by_cases c : s < 0 ∨ ↑(σ 1 5 0) ≤ s
  · rw [why_1 (decide_eq_false (by omega)), if_pos c]; rfl
  · by_cases d : n < 0 ∨ 60 < n
    · rw [why_2 (decide_eq_true (by omega)) d, if_neg c, if_pos d]; rfl
    · rw [why_3 (decide_eq_true (by omega)) d, if_neg c, if_neg d, if_neg (by omega), r_left rp hz rv (by omega)]
      congr 1
      omega
theorem fstN_fuel {p : Nat → Bool} : ∀ f g n, f ≤ g → fstN p f n = min (fstN p g n) (n + f)
  | 0, g, n, _ => by
    have : n ≤ fstN p g n := by
      have : ∀ f m, m ≤ fstN p f m := fun f => by
        induction f with
        | zero => intro m; exact Nat.le_refl _
        | succ f ih =>
          intro m
          simp only [fstN]
          split
          · exact Nat.le_refl _
          · have := ih (m + 1); omega
      exact this g n
    simp only [fstN]; omega
  | f + 1, 0, n, h => absurd h (by omega)
  | f + 1, g + 1, n, h => by
    simp only [fstN]
    split
    · omega
    · rw [fstN_fuel f g (n + 1) (by omega)]; omega
theorem fstN_congr {p q : Nat → Bool} : ∀ f n, (∀ k, n ≤ k → k < n + f → p k = q k) → fstN p f n = fstN q f n
  | 0, _, _ => rfl
  | f + 1, n, h => by
    simp only [fstN]
    rw [h n (by omega) (by omega), fstN_congr f (n + 1) (fun k h1 h2 => h k (by omega) (by omega))]
theorem e_offIn (rp : RP σ ζ) (hz : SaOk ζ) (rv : RV σ 3 V) (s : Int) : bOffIn ζ V s = aOffIn σ s := by
  have p5 := rp.1.2.2.2.2.2.1
  unfold bOffIn aOffIn
  rw [p5]
  by_cases c : s < 0 ∨ ↑(σ 1 5 0) ≤ s
  · rw [if_pos c, if_pos (by omega)]
  · rw [if_neg c, if_neg (by omega)]
    have e : mOff ζ V s.toNat = min (sG σ s.toNat) 61 := by
      unfold mOff
      rw [fstN_congr 61 0 (q := fun n => decide (σ 3 5 s.toNat ≤ cLoss (σ 1 1 0) (σ 1 4 (σ 3 4 s.toNat)) (σ 3 3 s.toNat) (σ 3 0 0) n)) (fun k _ _ => by
        rw [mOfP, decide_eq_decide, r_left rp hz rv (by omega)]
        omega), fstN_fuel 61 99 0 (by omega)]
      rfl
    rw [e]
    by_cases d : sG σ s.toNat ≤ 60
    · rw [if_pos (by omega), if_pos d, Nat.min_eq_left (by omega)]
    · rw [if_neg (by omega), if_neg d]
theorem r_next (rp : RP σ ζ) (rv : RV σ 3 V) (hok : sOk σ) : ∀ a, a ≤ σ 1 7 0 → nxA σ a = (bnA ζ V a, if bnA ζ V a = -2 then 41 else σ 1 8 (bnA ζ V a).toNat)
  | 0, _ => rfl
  | a + 1, h => by
    have ih := r_next rp rv hok a (by omega)
    have i2 : (nxA σ a).2 = if bnA ζ V a = -2 then 41 else σ 1 8 (bnA ζ V a).toNat := by rw [ih]
    have hb := bnA_bd ζ V a
    have h8 := hok.1.2.2.2.2.2.2.2.2.1 a
    have ha := (rp.2.2.2.1 a (by omega)).1
    have h23 := rv.2.2.1
    have hj : bnA ζ V a ≠ -2 → ζ 17 (bnA ζ V a).toNat = σ 1 8 (bnA ζ V a).toNat := fun q => (rp.2.2.2.1 _ (by omega)).1
    have hC : (V 23 ≤ ζ 17 a ∧ (bnA ζ V a = -2 ∨ ζ 17 a < ζ 17 (bnA ζ V a).toNat)) ↔ (σ 3 0 0 ≤ σ 1 8 a ∧ σ 1 8 a < (nxA σ a).2) := by
      rw [i2, ha, h23]
      by_cases d : bnA ζ V a = -2
      · rw [if_pos d]
        exact ⟨fun q => ⟨q.1, by omega⟩, fun q => ⟨q.1, Or.inl d⟩⟩
      · rw [if_neg d, hj d]
        exact ⟨fun q => ⟨q.1, q.2.resolve_left d⟩, fun q => ⟨q.1, Or.inr q.2⟩⟩
    by_cases c : V 23 ≤ ζ 17 a ∧ (bnA ζ V a = -2 ∨ ζ 17 a < ζ 17 (bnA ζ V a).toNat)
    · have e1 : bnA ζ V (a + 1) = ↑a := if_pos c
      have e2 : nxA σ (a + 1) = (↑a, σ 1 8 a) := if_pos (hC.mp c)
      rw [e1, e2, if_neg (by omega)]
      rfl
    · have e1 : bnA ζ V (a + 1) = bnA ζ V a := if_neg c
      have e2 : nxA σ (a + 1) = nxA σ a := if_neg (fun q => c (hC.mpr q))
      rw [e1, e2, ih]
theorem e_next (rp : RP σ ζ) (rv : RV σ 3 V) (hok : sOk σ) : bNext ζ V = aNext σ := by
  rw [bNext, aNext, if_neg (r_told rp), r_next rp rv hok _ (Nat.le_refl _), rp.1.2.2.2.2.2.2.1]
theorem e_margin (rp : RP σ ζ) (hz : SaOk ζ) (rv : RV σ 3 V) (s : Int) : bMargin ζ V s = aMargin σ s := by
  obtain ⟨p0, p1, p2, p3, p4, p5, p6, -⟩ := rp.1
  obtain ⟨z0, z1, z2, z3, z4, z5, z6, z9, z12, z13, z14, z15, z16, z17, -⟩ := id hz
  unfold bMargin aMargin
  rw [p6]
  by_cases c : s < 0 ∨ ↑(σ 1 7 0) ≤ s
  · rw [if_pos c, if_pos (by omega)]
  · rw [if_neg c, if_neg (by omega)]
    have ha : s.toNat < σ 1 7 0 := by omega
    obtain ⟨q1, q2, q3, q4⟩ := rp.2.2.2.1 _ ha
    rw [q1, rv.2.2.1]
    by_cases d : σ 1 8 s.toNat < σ 3 0 0
    · rw [if_pos d, if_pos d]
    · rw [if_neg d, if_neg d]
      unfold mMg
      rw [mPut_p V (by omega) z6 z5 (z17 _), q1, rv.2.2.1, if_neg d, q2, p5]
      have e1 : setN (fun t => decide (σ 1 8 s.toNat - σ 3 0 0 < mE ζ V t)) (σ 1 5 0) = setN (fun t => decide ((↑(σ 1 8 s.toNat) - ↑(σ 3 0 0) : Int) < ↑(sG σ t))) (σ 1 5 0) := setN_congr _ (fun t ht => by
        rw [decide_eq_decide, r_E rp rv ht, show sGo σ 3 t = sG σ t from rfl]
        omega)
      rw [e1, Int.add_comm]
      congr 2
      unfold cLead
      rw [sumN_congr (σ 1 5 0) (fun k hk => by rw [(rp.2.2.1 k hk).2.2.2.1]), sumN_congr (f := fun s_1 => ζ 16 s_1 * _) (σ 1 5 0) (fun k hk => by rw [(rp.2.2.1 k hk).2.2.2.1])]
theorem cWhoG_congr {f g : Nat → Nat} {k : Nat} : ∀ n s, (∀ j, s ≤ j → j < s + n → f j = g j) → cWhoG f k n s = cWhoG g k n s
  | 0, _, _ => rfl
  | n + 1, s, h => by
    simp only [cWhoG]
    rw [h s (by omega) (by omega), cWhoG_congr n (s + 1) (fun j h1 h2 => h j (by omega) (by omega))]
theorem r_who (rp : RP σ ζ) (rv : RV σ 3 V) (k : Nat) : cWho V k (ζ 5 0) = cWho (σ 3 4) k (σ 1 5 0) := by
  rw [rp.1.2.2.2.2.2.1]
  exact cWhoG_congr _ _ (fun j _ hj => (rv.1 j (by omega)).1)
theorem e_hook (rp : RP σ ζ) (rv : RV σ 3 V) (s n : Int) : bHook ζ V s n = aHook σ s n := by
  have p4 := rp.1.2.2.2.2.1
  unfold bHook aHook
  rw [p4, r_who rp rv]
  by_cases c : s < 0 ∨ ↑(σ 1 3 0) ≤ s ∨ n < 0 ∨ 1 < n
  · rw [if_pos c, if_pos (by omega)]
  · rw [if_neg c, if_neg (by omega), rp.2.1 _ (by omega)]
theorem e_senator (rp : RP σ ζ) (rv : RV σ 3 V) (s n : Int) : bSenator ζ V s n = aSenator σ s n := by
  have p5 := rp.1.2.2.2.2.2.1
  have p6 := rp.1.2.2.2.2.2.2.1
  unfold bSenator aSenator
  rw [p5]
  by_cases c : (s < 0 ∨ ↑(σ 1 5 0) ≤ s) ∨ (n < 0 ∨ 5 < n)
  · rw [if_pos c, if_pos (by omega)]
  · rw [if_neg c, if_neg (by omega)]
    have hs : s.toNat < σ 1 5 0 := by omega
    obtain ⟨v1, v2, v3, v4⟩ := rv.1 _ hs
    have v16 := (rp.2.2.1 _ hs).2.2.2.1
    have hk : n.toNat ≤ 5 := by omega
    generalize n.toNat = k at hk ⊢
    generalize s.toNat = t at *
    rcases (show k = 0 ∨ k = 1 ∨ k = 2 ∨ k = 3 ∨ k = 4 ∨ k = 5 by omega) with rfl | rfl | rfl | rfl | rfl | rfl
    · show ((V (6 + t) : Int), 0) = ((σ 3 3 t : Int), 0); rw [v2]
    · show ((V t : Int), 0) = ((σ 3 4 t : Int), 0); rw [v1]
    · show ((V (12 + t) : Int), 0) = ((σ 3 5 t : Int), 0); rw [v3]
    · show ((ζ 16 t : Int), 0) = ((σ 1 6 t : Int), 0); rw [v16]
    · show (((setN (fun a => bitN (ζ 18 a) t) (ζ 6 0) : Nat) : Int), 0) = (((setN (fun s => bitN (σ 1 9 s) t) (σ 1 7 0) : Nat) : Int), 0)
      rw [p6, setN_congr (p := fun a => bitN (ζ 18 a) t) (q := fun s => bitN (σ 1 9 s) t) (σ 1 7 0) (fun a ha => by rw [(rp.2.2.2.1 a ha).2.1])]
    · show (((min (V (12 + t)) (mLs ζ V t) : Nat) : Int), 0) = (((min (σ 3 5 t) (cLoss (σ 1 1 0) (σ 1 4 (σ 3 4 t)) (σ 3 3 t) (σ 3 0 0) 1) : Nat) : Int), 0)
      rw [v3, mLs, r_loss rp rv hs]
theorem e_act (rp : RP σ ζ) (hz : SaOk ζ) (rv : RV σ 3 V) (s n : Int) : bAct ζ V s n = aAct σ s n := by
  have p6 := rp.1.2.2.2.2.2.2.1
  unfold bAct aAct
  rw [p6]
  by_cases c : (s < 0 ∨ ↑(σ 1 7 0) ≤ s) ∨ (n < 0 ∨ 3 < n)
  · rw [if_pos c, if_pos (by omega)]
  · rw [if_neg c, if_neg (by omega)]
    obtain ⟨q1, q2, q3, q4⟩ := rp.2.2.2.1 s.toNat (by omega)
    have hk : n.toNat ≤ 3 := by omega
    generalize n.toNat = k at hk ⊢
    generalize s.toNat = t at *
    rcases (show k = 0 ∨ k = 1 ∨ k = 2 ∨ k = 3 by omega) with rfl | rfl | rfl | rfl
    · show ((ζ 17 t : Int), 0) = ((σ 1 8 t : Int), 0); rw [q1]
    · show ((ζ 18 t : Int), 0) = ((σ 1 9 t : Int), 0); rw [q2]
    · show ((ζ 19 t : Int), 0) = ((σ 1 10 t : Int), 0); rw [q3]
    · show (if bitN (mGo ζ (mPut ζ V) 0) t = true then (1, 0) else (0, 0) : Int × Nat) = (((sGoing σ / 2 ^ t % 2 : Nat) : Int), 0)
      rw [r_going rp hz rv]
      have hb := bitN_le (sGoing σ) t
      by_cases d : bitN (sGoing σ) t = true
      · rw [if_pos d, bitN_true.mp d]; rfl
      · rw [if_neg d]
        have : ¬ sGoing σ / 2 ^ t % 2 = 1 := fun q => d (bitN_true.mpr q)
        rw [show sGoing σ / 2 ^ t % 2 = 0 by omega]; rfl
theorem e_wire (rp : RP σ ζ) (s : Int) (b1 b2 b3 : Bool) : bWire s b1 b2 b3 = aWire σ s b1 b2 b3 := by
  rw [bWire, aWire, if_neg (r_told rp)]
  by_cases c : s < 0 ∨ 20 < s
  · rw [if_pos c, if_pos c, if_pos (by decide)]
  · rw [if_neg c, if_neg c, if_neg (by decide)]
theorem e_rests (rp : RP σ ζ) (s : Int) : bRests s = aRests σ s := by
  rw [bRests, aRests, if_neg (r_told rp)]
  by_cases c : s < 0 ∨ 20 < s
  · rw [if_pos c, if_pos c, if_pos (by decide)]
  · rw [if_neg c, if_neg c, if_neg (by decide)]
theorem e_rest (rp : RP σ ζ) (s : Int) : bRest s = aRest σ s := by
  rw [bRest, aRest, if_neg (r_told rp)]
  by_cases c : s < 0 ∨ 20 < s
  · rw [if_pos c, if_pos c, if_pos (by decide)]
  · rw [if_neg c, if_neg c, if_neg (by decide)]
end REL
