theorem mx_z {a b : Nat} (ha : a < 2147483648) (hb : b < 2147483648) : (if zI ↑a < zI ↑b then zI ↑b else zI ↑a : Int32) = zI ↑(max a b) := by
  split
  · rename_i c
    rw [zI_lt (by omega) (by omega) (by omega) (by omega)] at c
    congr 1; omega
  · rename_i c
    rw [zI_lt (by omega) (by omega) (by omega) (by omega)] at c
    congr 1; omega
def dLf (n : Nat) (f2 : Nat → Nat) (a : Nat) : Nat := max (sumN (fun i => f2 i / 2 ^ a % 2) n) (n - sumN (fun i => f2 i / 2 ^ a % 2) n)
theorem dLf_le (n : Nat) (f2 : Nat → Nat) (a : Nat) : dLf n f2 a ≤ n := by
  have := sumN_le (f := fun i => f2 i / 2 ^ a % 2) (c := 1) (fun k => by omega) n
  unfold dLf; omega
def atA (L : Nat → Nat) (n : Nat) : Nat → Int × Nat
  | 0 => (-2, n + 1)
  | a + 1 => if L a < (atA L n a).2 ∧ n ≠ 0 then (↑a, L a) else atA L n a
theorem atA_t (L : Nat → Nat) (n a : Nat) (h : L a < (atA L n a).2 ∧ n ≠ 0) : atA L n (a + 1) = (↑a, L a) := if_pos h
theorem atA_f (L : Nat → Nat) (n a : Nat) (h : ¬ (L a < (atA L n a).2 ∧ n ≠ 0)) : atA L n (a + 1) = atA L n a := if_neg h
theorem atA_le (n : Nat) (f2 : Nat → Nat) : ∀ a, (atA (dLf n f2) n a).2 ≤ n + 1
  | 0 => by simp [atA]
  | a + 1 => by
    have := atA_le n f2 a
    have := dLf_le n f2 a
    simp only [atA]
    split
    · dsimp only; omega
    · assumption
theorem atA_0 (n : Nat) (f2 : Nat → Nat) : ∀ a, n = 0 → atA (dLf n f2) n a = (-2, n + 1)
  | 0, _ => rfl
  | a + 1, h => by rw [atA_f _ _ _ (fun q => q.2 h)]; exact atA_0 n f2 a h
theorem atA_congr {L M : Nat → Nat} (n : Nat) : ∀ a, (∀ k, k < a → L k = M k) → atA L n a = atA M n a
  | 0, _ => rfl
  | a + 1, h => by simp only [atA]; rw [atA_congr n a (fun k hk => h k (by omega)), h a (by omega)]
theorem atA_bd (L : Nat → Nat) (n : Nat) : ∀ a, (atA L n a).1 = -2 ∨ (0 ≤ (atA L n a).1 ∧ (atA L n a).1 < ↑a)
  | 0 => by simp [atA]
  | a + 1 => by
    have := atA_bd L n a
    simp only [atA]
    split
    · right; dsimp only; omega
    · omega
def dNth (σ : sT) (i : Nat) : Nat → Int
  | 0 => -1
  | d + 1 => if dFit σ d ∧ dC σ d = i then ↑d else dNth σ i d
theorem dFt_at {σ : sT} (f : Nat → Nat) : ∀ d i, i < dC σ d → (↑(dFt σ f d i) : Int) = dNth σ i d
  | 0, i, h => absurd h (by simp [dC, sumN])
  | d + 1, i, h => by
    simp only [dFt, dNth]
    by_cases hf : dFit σ d = true
    · have e : dC σ (d + 1) = dC σ d + 1 := by simp [dC, sumN, hf]
      by_cases hi : i = dC σ d
      · simp [hf, hi]
      · simp only [hf, if_true, true_and, if_neg hi, if_neg (Ne.symm hi)]
        exact dFt_at f d i (by omega)
    · have e : dC σ (d + 1) = dC σ d := by simp [dC, sumN, hf]
      simp only [hf, false_and, if_false]
      exact dFt_at f d i (by omega)
theorem dGs_lt {σ : sT} (f : Nat → Nat) (h7 : σ 1 7 0 ≤ 5) : ∀ d i, i < dC σ d → dGs σ f d i < 32
  | 0, i, h => absurd h (by simp [dC, sumN])
  | d + 1, i, h => by
    simp only [dGs]
    by_cases hf : dFit σ d = true
    · have e : dC σ (d + 1) = dC σ d + 1 := by simp [dC, sumN, hf]
      simp only [hf, if_true]
      split
      · exact sGo2_lt h7
      · exact dGs_lt f h7 d i (by omega)
    · have e : dC σ (d + 1) = dC σ d := by simp [dC, sumN, hf]
      simp only [hf, if_false]
      exact dGs_lt f h7 d i (by omega)
def dWn (σ : sT) (a d : Nat) : Nat := sumN (fun e => if dFit σ e then sGo2 σ (sD σ e) / 2 ^ a % 2 else 0) d
theorem dGs_sum {σ : sT} (f : Nat → Nat) (a : Nat) : ∀ d, sumN (fun i => dGs σ f d i / 2 ^ a % 2) (dC σ d) = dWn σ a d
  | 0 => rfl
  | d + 1 => by
    have ih := dGs_sum (σ := σ) f a d
    by_cases hf : dFit σ d = true
    · have e : dC σ (d + 1) = dC σ d + 1 := by simp [dC, sumN, hf]
      have e2 : dWn σ a (d + 1) = dWn σ a d + sGo2 σ (sD σ d) / 2 ^ a % 2 := by simp [dWn, sumN, hf]
      rw [e, e2, ← ih]
      simp only [sumN, dGs, hf, if_true]
      congr 1
      exact sumN_congr _ (fun k hk => by rw [if_neg (by omega)])
    · have e : dC σ (d + 1) = dC σ d := by simp [dC, sumN, hf]
      have e2 : dWn σ a (d + 1) = dWn σ a d := by simp [dWn, sumN, hf]
      rw [e, e2, ← ih]
      simp only [dGs, hf]
      rfl
def sLv (σ : sT) (a : Nat) : Nat := max (dWn σ a 42) (dC σ 42 - dWn σ a 42)
theorem sLv_eq {σ : sT} (f : Nat → Nat) {a : Nat} : dLf (dC σ 42) (dGs σ f 42) a = sLv σ a := by unfold dLf sLv; rw [dGs_sum]
def sAsk (σ : sT) : Int := (atA (sLv σ) (dC σ 42) (σ 1 7 0)).1
theorem sAsk_eq {σ : sT} (f : Nat → Nat) : (atA (dLf (dC σ 42) (dGs σ f 42)) (dC σ 42) (σ 1 7 0)).1 = sAsk σ := by unfold sAsk; rw [atA_congr _ _ (fun k _ => sLv_eq f)]
theorem sAsk_bd (σ : sT) : sAsk σ = -2 ∨ (0 ≤ sAsk σ ∧ sAsk σ < ↑(σ 1 7 0)) := atA_bd _ _ _
theorem sWhy_le (σ : sT) : sWhy σ ≤ 6 := by unfold sWhy; split <;> omega
def aSince (σ : sT) : Int × Nat := if σ 1 13 0 = 0 then (-1, sWhy σ) else (↑(dC σ 42), 0)
def aSinceAt (σ : sT) (s : Int) : Int × Nat := if σ 1 13 0 = 0 then (-1, sWhy σ) else if s < 0 ∨ ↑(dC σ 42) ≤ s then (-1, 1) else (dNth σ s.toNat 42, 0)
def aLook (σ : sT) : Int × Nat := if σ 1 13 0 = 0 then (-1, sWhy σ) else (sAsk σ, 0)
def aLookL (σ : sT) : Int × Nat := if σ 1 13 0 = 0 then (-1, sWhy σ) else if sAsk σ = -2 then (-2, 0) else (↑(sLv σ (sAsk σ).toNat), 0)
set_option maxRecDepth 100000 in
set_option maxHeartbeats 400000 in
theorem k_fitting (G : ssG) (h : ssH) {ad : Nat → Nat} {n : Nat} {f1 f2 E : Nat → Nat} (i : Nat) (hd : DAt h ad n f1 f2 E) (hn : n ≤ 42) (hi : i < n) : ssC G mX0_fitting 0 0 0 [.ref (ad 144), .int (zI ↑i)] h (rI (zI ↑(f1 i)) h) := by
  refine c_of_v okX0_fitting (by decide +kernel) (ls := [some (.ref (ad 144)), some (.int (zI ↑i))]) rfl (Nat.le_of_ble_eq_true rfl) ?_
  refine v_run 1 (pc' := 1) (ls' := [some (.ref (ad 144)), some (.int (zI ↑i))]) (st' := [.int (zI ↑i)]) rfl ?_
  refine v_if_lt rfl (fun c1 => ?_) (fun c1 => ?_)
  · exfalso; revert c1; simp (disch := omega) only [zI_lt, zI_le, zI_eq, zI_lt0, zI_le0, zI_0lt, zI_0le, zI_eq0] <;> omega
  · refine v_run 2 (pc' := 6) (ls' := [some (.ref (ad 144)), some (.int (zI ↑i))]) (st' := [.ref (ad 144), .int (zI ↑i)]) rfl ?_
    refine v_get rfl hd.1 rfl ?_
    refine v_run 0 (pc' := 9) (ls' := [some (.ref (ad 144)), some (.int (zI ↑i))]) (st' := [.int (zI ↑n), .int (zI ↑i)]) rfl ?_
    refine v_icmp_ge rfl (fun c9 => ?_) (fun c9 => ?_)
    · exfalso; revert c9; simp (disch := omega) only [zI_lt, zI_le, zI_eq, zI_lt0, zI_le0, zI_0lt, zI_0le, zI_eq0] <;> omega
    · refine v_run 2 (pc' := 15) (ls' := [some (.ref (ad 144)), some (.int (zI ↑i))]) (st' := [.int (zI 41), .int (zI ↑i)]) rfl ?_
      refine v_icmp_gt rfl (fun c15 => ?_) (fun c15 => ?_)
      · exfalso; revert c15; simp (disch := omega) only [zI_lt, zI_le, zI_eq, zI_lt0, zI_le0, zI_0lt, zI_0le, zI_eq0] <;> omega
      · refine v_run 1 (pc' := 19) (ls' := [some (.ref (ad 144)), some (.int (zI ↑i))]) (st' := [.ref (ad 144)]) rfl ?_
        refine v_get rfl hd.1 rfl ?_
        refine v_run 1 (pc' := 23) (ls' := [some (.ref (ad 144)), some (.int (zI ↑i))]) (st' := [.int (zI ↑i), .ref (ad 145)]) rfl ?_
        refine v_iaload' rfl hd.2.1 (i := i) rfl (by omega) ?_
        refine v_run 1 (pc' := 28) (ls' := [some (.ref (ad 144)), some (.int (zI ↑i))]) (st' := [.int ((fun k => zI ↑(f1 k)) i)]) rfl ?_
        exact v_iret rfl rfl rfl ⟨rfl, rfl⟩

set_option maxRecDepth 100000 in
set_option maxHeartbeats 400000 in
theorem k_leftBy (G : ssG) (h : ssH) {ad : Nat → Nat} {n : Nat} {f1 f2 E : Nat → Nat} (a : Nat) (hd : DAt h ad n f1 f2 E) (hn : n ≤ 42) (hg : ∀ i, i < n → f2 i < 32) (ha : a < 32) : ssC G mX0_leftBy 1 0 0 [.ref (ad 144), .int (zI ↑a)] h (rI (zI ↑(max (sumN (fun i => f2 i / 2 ^ a % 2) n) (n - sumN (fun i => f2 i / 2 ^ a % 2) n))) h) := by
  refine c_of_v okX0_leftBy (by decide +kernel) (ls := [some (.ref (ad 144)), some (.int (zI ↑a)), none, none]) rfl (Nat.le_of_ble_eq_true rfl) ?_
  refine v_run 4 (pc' := 4) (ls' := [some (.ref (ad 144)), some (.int (zI ↑a)), some (.int (zI 0)), some (.int (zI 0))]) (st' := []) rfl ?_
  have lp : ∀ (m s : Nat), s ≤ n → n + 1 ≤ s + m → ssV G mX0_leftBy 1 0 0 (rI (zI ↑(max (sumN (fun i => f2 i / 2 ^ a % 2) n) (n - sumN (fun i => f2 i / 2 ^ a % 2) n))) h) 4 [some (.ref (ad 144)), some (.int (zI ↑a)), some (.int (zI ↑(sumN (fun i => f2 i / 2 ^ a % 2) s))), some (.int (zI ↑s))] [] h := by
    intro m
    induction m with
    | zero => intro s hs1 hs2; exact absurd hs2 (by omega)
    | succ m ih =>
      intro s hs1 hs2
      have q9 := sumN_le (f := fun i => f2 i / 2 ^ a % 2) (c := 1) (fun k => by omega) s
      have q8 := hg s
      refine v_run 2 (pc' := 6) (ls' := [some (.ref (ad 144)), some (.int (zI ↑a)), some (.int (zI ↑(sumN (fun i => f2 i / 2 ^ a % 2) s))), some (.int (zI ↑s))]) (st' := [.ref (ad 144), .int (zI ↑s)]) rfl ?_
      refine v_get rfl hd.1 rfl ?_
      refine v_run 0 (pc' := 9) (ls' := [some (.ref (ad 144)), some (.int (zI ↑a)), some (.int (zI ↑(sumN (fun i => f2 i / 2 ^ a % 2) s))), some (.int (zI ↑s))]) (st' := [.int (zI ↑n), .int (zI ↑s)]) rfl ?_
      refine v_icmp_ge rfl (fun c9 => ?_) (fun c9 => ?_)
      · simp (disch := omega) only [zI_lt, zI_le, zI_eq, zI_lt0, zI_le0, zI_0lt, zI_0le, zI_eq0] at c9
        refine v_run 2 (pc' := 39) (ls' := [some (.ref (ad 144)), some (.int (zI ↑a)), some (.int (zI ↑(sumN (fun i => f2 i / 2 ^ a % 2) s))), some (.int (zI ↑s))]) (st' := [.ref (ad 144), .int (zI ↑(sumN (fun i => f2 i / 2 ^ a % 2) s))]) rfl ?_
        refine v_get rfl hd.1 rfl ?_
        refine v_run 2 (pc' := 44) (ls' := [some (.ref (ad 144)), some (.int (zI ↑a)), some (.int (zI ↑(sumN (fun i => f2 i / 2 ^ a % 2) s))), some (.int (zI ↑s))]) (st' := [.int ((zI ↑n) - (zI ↑(sumN (fun i => f2 i / 2 ^ a % 2) s))), .int (zI ↑(sumN (fun i => f2 i / 2 ^ a % 2) s))]) rfl ?_
        have e : s = n := by omega
        refine v_max rfl rfl (by omega) (Nat.le_of_ble_eq_true rfl) ?_
        rw [show ((if (zI ↑(sumN (fun i => f2 i / 2 ^ a % 2) s)) < ((zI ↑n) - (zI ↑(sumN (fun i => f2 i / 2 ^ a % 2) s))) then ((zI ↑n) - (zI ↑(sumN (fun i => f2 i / 2 ^ a % 2) s))) else (zI ↑(sumN (fun i => f2 i / 2 ^ a % 2) s))) : Int32) = zI ↑(max (sumN (fun i => f2 i / 2 ^ a % 2) s) (n - sumN (fun i => f2 i / 2 ^ a % 2) s)) from (by rw [zN_sub (by omega)]; exact mx_z (by omega) (by omega))]
        exact v_iret rfl rfl rfl ⟨by rw [e], rfl⟩
      · simp (disch := omega) only [zI_lt, zI_le, zI_eq, zI_lt0, zI_le0, zI_0lt, zI_0le, zI_eq0] at c9
        refine v_run 2 (pc' := 15) (ls' := [some (.ref (ad 144)), some (.int (zI ↑a)), some (.int (zI ↑(sumN (fun i => f2 i / 2 ^ a % 2) s))), some (.int (zI ↑s))]) (st' := [.int (zI 41), .int (zI ↑s)]) rfl ?_
        refine v_icmp_gt rfl (fun c15 => ?_) (fun c15 => ?_)
        · exfalso; revert c15; simp (disch := omega) only [zI_lt, zI_le, zI_eq, zI_lt0, zI_le0, zI_0lt, zI_0le, zI_eq0] <;> omega
        · refine v_run 2 (pc' := 20) (ls' := [some (.ref (ad 144)), some (.int (zI ↑a)), some (.int (zI ↑(sumN (fun i => f2 i / 2 ^ a % 2) s))), some (.int (zI ↑s))]) (st' := [.ref (ad 144), .int (zI ↑(sumN (fun i => f2 i / 2 ^ a % 2) s))]) rfl ?_
          refine v_get rfl hd.1 rfl ?_
          refine v_run 1 (pc' := 24) (ls' := [some (.ref (ad 144)), some (.int (zI ↑a)), some (.int (zI ↑(sumN (fun i => f2 i / 2 ^ a % 2) s))), some (.int (zI ↑s))]) (st' := [.int (zI ↑s), .ref (ad 146), .int (zI ↑(sumN (fun i => f2 i / 2 ^ a % 2) s))]) rfl ?_
          refine v_iaload' rfl hd.2.2.1 (i := s) rfl (by omega) ?_
          refine v_run 8 (pc' := 4) (ls' := [some (.ref (ad 144)), some (.int (zI ↑a)), some (.int ((zI ↑(sumN (fun i => f2 i / 2 ^ a % 2) s)) + ((((fun k => zI ↑(f2 k)) s) >>> ((zI ↑a) &&& 31)) &&& (zI 1)))), some (.int ((zI ↑s) + zI 1))]) (st' := []) rfl ?_
          rw [zI_bit (by omega) (by omega), zN_add, zI_s1]
          exact ih (s + 1) (by omega) (by omega)
  exact lp (n + 1) 0 (by omega) (by omega)

set_option maxRecDepth 100000 in
set_option maxHeartbeats 400000 in
theorem k_actToAsk (G : ssG) (h : ssH) {ad : Nat → Nat} {n : Nat} {f1 f2 E : Nat → Nat} (ac : Nat) (hd : DAt h ad n f1 f2 E) (hn : n ≤ 42) (hg : ∀ i, i < n → f2 i < 32) (hac : ac ≤ 5) : ssC G mX0_actToAsk 2 0 0 [.ref (ad 144), .int (zI ↑ac)] h (rI (zI (atA (dLf n f2) n ac).1) h) := by
  refine c_of_v okX0_actToAsk (by decide +kernel) (ls := [some (.ref (ad 144)), some (.int (zI ↑ac)), none, none, none, none]) rfl (Nat.le_of_ble_eq_true rfl) ?_
  refine v_run 1 (pc' := 1) (ls' := [some (.ref (ad 144)), some (.int (zI ↑ac)), none, none, none, none]) (st' := [.ref (ad 144)]) rfl ?_
  refine v_get rfl hd.1 rfl ?_
  refine v_run 7 (pc' := 13) (ls' := [some (.ref (ad 144)), some (.int (zI ↑ac)), some (.int ((zI ↑n) + (zI 1))), some (.int (zI (-2))), some (.int (zI 0)), none]) (st' := []) rfl ?_
  rw [show ((zI ↑n) + (zI 1) : Int32) = zI ↑(n + 1) from zI_s1 _]
  have lp : ∀ (m s : Nat), s ≤ ac → (n = 0 → s = 0) → ac + 1 ≤ s + m → ssV G mX0_actToAsk 2 0 0 (rI (zI (atA (dLf n f2) n ac).1) h) 13 [some (.ref (ad 144)), some (.int (zI ↑ac)), some (.int (zI ↑(atA (dLf n f2) n s).2)), some (.int (zI (atA (dLf n f2) n s).1)), some (.int (zI ↑s)), none] [] h := by
    intro m
    induction m with
    | zero => intro s hs1 _ hs2; exact absurd hs2 (by omega)
    | succ m ih =>
      intro s hs1 hs3 hs2
      have q9 := atA_le n f2 s
      refine v_run 2 (pc' := 16) (ls' := [some (.ref (ad 144)), some (.int (zI ↑ac)), some (.int (zI ↑(atA (dLf n f2) n s).2)), some (.int (zI (atA (dLf n f2) n s).1)), some (.int (zI ↑s)), none]) (st' := [.int (zI ↑ac), .int (zI ↑s)]) rfl ?_
      refine v_icmp_ge rfl (fun c16 => ?_) (fun c16 => ?_)
      · simp (disch := omega) only [zI_lt, zI_le, zI_eq, zI_lt0, zI_le0, zI_0lt, zI_0le, zI_eq0] at c16
        refine v_run 1 (pc' := 53) (ls' := [some (.ref (ad 144)), some (.int (zI ↑ac)), some (.int (zI ↑(atA (dLf n f2) n s).2)), some (.int (zI (atA (dLf n f2) n s).1)), some (.int (zI ↑s)), none]) (st' := [.int (zI (atA (dLf n f2) n s).1)]) rfl ?_
        exact v_iret rfl rfl rfl ⟨by rw [show s = ac by omega], rfl⟩
      · simp (disch := omega) only [zI_lt, zI_le, zI_eq, zI_lt0, zI_le0, zI_0lt, zI_0le, zI_eq0] at c16
        refine v_run 1 (pc' := 20) (ls' := [some (.ref (ad 144)), some (.int (zI ↑ac)), some (.int (zI ↑(atA (dLf n f2) n s).2)), some (.int (zI (atA (dLf n f2) n s).1)), some (.int (zI ↑s)), none]) (st' := [.ref (ad 144)]) rfl ?_
        refine v_get rfl hd.1 rfl ?_
        refine v_run 0 (pc' := 23) (ls' := [some (.ref (ad 144)), some (.int (zI ↑ac)), some (.int (zI ↑(atA (dLf n f2) n s).2)), some (.int (zI (atA (dLf n f2) n s).1)), some (.int (zI ↑s)), none]) (st' := [.int (zI ↑n)]) rfl ?_
        refine v_if_le rfl (fun c23 => ?_) (fun c23 => ?_)
        · simp (disch := omega) only [zI_lt, zI_le, zI_eq, zI_lt0, zI_le0, zI_0lt, zI_0le, zI_eq0] at c23
          refine v_run 1 (pc' := 53) (ls' := [some (.ref (ad 144)), some (.int (zI ↑ac)), some (.int (zI ↑(atA (dLf n f2) n s).2)), some (.int (zI (atA (dLf n f2) n s).1)), some (.int (zI ↑s)), none]) (st' := [.int (zI (atA (dLf n f2) n s).1)]) rfl ?_
          exact v_iret rfl rfl rfl ⟨by have := hs3 (by omega); subst this; rw [atA_0 n f2 ac (by omega)]; rfl, rfl⟩
        · simp (disch := omega) only [zI_lt, zI_le, zI_eq, zI_lt0, zI_le0, zI_0lt, zI_0le, zI_eq0] at c23
          refine v_run 2 (pc' := 29) (ls' := [some (.ref (ad 144)), some (.int (zI ↑ac)), some (.int (zI ↑(atA (dLf n f2) n s).2)), some (.int (zI (atA (dLf n f2) n s).1)), some (.int (zI ↑s)), none]) (st' := [.int (zI ↑s), .ref (ad 144)]) rfl ?_
          refine v_callV (My := mX0_leftBy) (As := [.int (zI ↑s)]) (rest := []) (mc := 0) (ms := 0) rfl caX0_leftBy rfl rfl rfl hd.1 rfl rfl (k_leftBy G _ s hd hn hg (by omega)) rfl rfl (Nat.le_of_ble_eq_true rfl) (by omega) ?_
          rintro _ _ ⟨rfl, rfl⟩
          refine v_run 0 (pc' := 32) (ls' := [some (.ref (ad 144)), some (.int (zI ↑ac)), some (.int (zI ↑(atA (dLf n f2) n s).2)), some (.int (zI (atA (dLf n f2) n s).1)), some (.int (zI ↑s)), none]) (st' := [.int (zI ↑((dLf n f2) s))]) rfl ?_
          have q7 := dLf_le n f2 s
          refine v_run 3 (pc' := 37) (ls' := [some (.ref (ad 144)), some (.int (zI ↑ac)), some (.int (zI ↑(atA (dLf n f2) n s).2)), some (.int (zI (atA (dLf n f2) n s).1)), some (.int (zI ↑s)), some (.int (zI ↑((dLf n f2) s)))]) (st' := [.int (zI ↑(atA (dLf n f2) n s).2), .int (zI ↑((dLf n f2) s))]) rfl ?_
          refine v_icmp_ge rfl (fun c37 => ?_) (fun c37 => ?_)
          · simp (disch := omega) only [zI_lt, zI_le, zI_eq, zI_lt0, zI_le0, zI_0lt, zI_0le, zI_eq0] at c37
            refine v_run 2 (pc' := 13) (ls' := [some (.ref (ad 144)), some (.int (zI ↑ac)), some (.int (zI ↑(atA (dLf n f2) n s).2)), some (.int (zI (atA (dLf n f2) n s).1)), some (.int ((zI ↑s) + zI 1)), some (.int (zI ↑((dLf n f2) s)))]) (st' := []) rfl ?_
            refine v_drop 5 (ls' := [some (.ref (ad 144)), some (.int (zI ↑ac)), some (.int (zI ↑(atA (dLf n f2) n s).2)), some (.int (zI (atA (dLf n f2) n s).1)), some (.int ((zI ↑s) + zI 1)), none]) rfl ?_
            rw [zI_s1, ← atA_f (dLf n f2) n s (by omega)]
            exact ih (s + 1) (by omega) (by omega) (by omega)
          · simp (disch := omega) only [zI_lt, zI_le, zI_eq, zI_lt0, zI_le0, zI_0lt, zI_0le, zI_eq0] at c37
            refine v_run 6 (pc' := 13) (ls' := [some (.ref (ad 144)), some (.int (zI ↑ac)), some (.int (zI ↑((dLf n f2) s))), some (.int (zI ↑s)), some (.int ((zI ↑s) + zI 1)), some (.int (zI ↑((dLf n f2) s)))]) (st' := []) rfl ?_
            refine v_drop 5 (ls' := [some (.ref (ad 144)), some (.int (zI ↑ac)), some (.int (zI ↑((dLf n f2) s))), some (.int (zI ↑s)), some (.int ((zI ↑s) + zI 1)), none]) rfl ?_
            rw [zI_s1]
            have q := ih (s + 1) (by omega) (by omega) (by omega); rw [atA_t (dLf n f2) n s (by omega)] at q; exact q
  exact lp (ac + 1) 0 (by omega) (fun _ => rfl) (by omega)

set_option maxRecDepth 100000 in
set_option maxHeartbeats 400000 in
theorem k_since (G : ssG) (h : ssH) {ad : Nat → Nat} {pl : Nat} {σ : sT}  (hA : ∀ k l, ad k = ad l → k = l) (hc : CW0 h ad pl σ) (hok : sOk σ)  : ssC G mX8_since 5 0 0 [.ref (ad 0)] h (cR ad pl (sTr σ (aSince σ).2) h (.int (zI (aSince σ).1))) := by
  refine c_of_v okX8_since (by decide +kernel) (ls := [some (.ref (ad 0))]) rfl (Nat.le_of_ble_eq_true rfl) ?_
  obtain ⟨i0, i1, i2, i3, i5, i7, a4, a6, a8, a9, a10, i11, i12, i14, i15⟩ := id hok.1
  obtain ⟨j0, j1, j2, b3, b4, b5, b6⟩ := id (hok.2.2 3 (by decide))
  have i13 := hok.2.1
  have hpl := hc.1
  simp only [fI] at i0 i1 i2 i3 i5 i7 i11 i12 i14 i15 j0 j1 j2
  obtain ⟨n0, f10, f20, d1, d2, d3, E0, hS0, hE0⟩ := hc.2.2.2.2.2.2.2.2.2
  refine v_run 1 (pc' := 1) (ls' := [some (.ref (ad 0))]) (st' := [.ref (ad 0)]) rfl ?_
  refine v_callV (My := mX8_lacksDoubt) (As := []) (rest := []) (mc := 0) (ms := 0) rfl caX8_lacksDoubt rfl rfl rfl hc.2.1 rfl rfl (k_lacksDoubt G _ hA hc hok) rfl rfl (Nat.le_of_ble_eq_true rfl) (by omega) ?_
  rintro _ _ ⟨rfl, rfl⟩
  refine v_run 0 (pc' := 4) (ls' := [some (.ref (ad 0))]) (st' := [.int (zb (decide (σ 1 13 0 = 0)))]) rfl ?_
  refine v_if_eq rfl (fun c4 => ?_) (fun c4 => ?_)
  · rw [zb_0, decide_eq_false_iff_not] at c4
    refine v_run 1 (pc' := 17) (ls' := [some (.ref (ad 0))]) (st' := [.ref (ad 0)]) rfl ?_
    refine v_get rfl hc.2.1 rfl ?_
    refine v_run 1 (pc' := 21) (ls' := [some (.ref (ad 0))]) (st' := [.ref (ad 0), .ref (ad 144)]) rfl ?_
    refine v_get rfl hc.2.1 rfl ?_
    refine v_run 0 (pc' := 24) (ls' := [some (.ref (ad 0))]) (st' := [.ref (ad pl), .ref (ad 144)]) rfl ?_
    refine v_callV (My := mX0_weigh) (As := [.ref (ad pl)]) (rest := []) (mc := 0) (ms := 0) rfl caX0_weigh rfl rfl rfl d1 rfl rfl (k_weigh G _ hA hc hok c4) rfl rfl (Nat.le_of_ble_eq_true rfl) (by omega) ?_
    rintro _ h1 ⟨f1, f2, rfl, E, hw⟩
    have hn1 := dC_le σ 42
    have hg1 : ∀ i, i < dC σ 42 → dGs σ f2 42 i < 32 := fun i hi => dGs_lt f2 i7 42 i hi
    refine v_run 0 (pc' := 27) (ls' := [some (.ref (ad 0))]) (st' := []) rfl ?_
    refine v_run 2 (pc' := 29) (ls' := [some (.ref (ad 0))]) (st' := [.ref (ad 0), .ref (ad 0)]) rfl ?_
    refine v_get rfl hw.1.2.1 rfl ?_
    refine v_run 0 (pc' := 32) (ls' := [some (.ref (ad 0))]) (st' := [.ref (ad 144), .ref (ad 0)]) rfl ?_
    refine v_get rfl hw.2.2.1.1 rfl ?_
    refine v_run 0 (pc' := 35) (ls' := [some (.ref (ad 0))]) (st' := [.int (zI ↑(dC σ 42)), .ref (ad 0)]) rfl ?_
    refine v_callV (My := mX8_grant) (As := [.int (zI ↑(dC σ 42))]) (rest := []) (mc := 0) (ms := 0) rfl caX8_grant rfl rfl rfl hw.1.2.1 rfl rfl (k_grant G _ ((zI ↑(dC σ 42))) hA hw.1 hok) rfl rfl (Nat.le_of_ble_eq_true rfl) (by omega) ?_
    rintro _ h9 ⟨rfl, hc9, hf9⟩
    refine v_run 0 (pc' := 38) (ls' := [some (.ref (ad 0))]) (st' := [.int ((zI ↑(dC σ 42)))]) rfl ?_
    rw [show aSince σ = (↑(dC σ 42), 0) from if_neg c4]
    exact v_iret rfl rfl rfl ⟨rfl, hc9, hw.2.1.tr hf9⟩
  · rw [zb_0, Bool.not_eq_false, decide_eq_true_eq] at c4
    have qw := sWhy_le σ
    refine v_run 2 (pc' := 9) (ls' := [some (.ref (ad 0))]) (st' := [.ref (ad 0), .ref (ad 0)]) rfl ?_
    refine v_callV (My := mX8_whyNoDoubt) (As := []) (rest := [.ref (ad 0)]) (mc := 0) (ms := 0) rfl caX8_whyNoDoubt rfl rfl rfl hc.2.1 rfl rfl (k_whyNoDoubt G _ hA hc hok) rfl rfl (Nat.le_of_ble_eq_true rfl) (by omega) ?_
    rintro _ _ ⟨rfl, rfl⟩
    refine v_run 0 (pc' := 12) (ls' := [some (.ref (ad 0))]) (st' := [.int (zI ↑(sWhy σ)), .ref (ad 0)]) rfl ?_
    refine v_callV (My := mX8_refuse) (As := [.int (zI ↑(sWhy σ))]) (rest := []) (mc := 0) (ms := 0) rfl caX8_refuse rfl rfl rfl hc.2.1 rfl rfl (k_refuse G _ (sWhy σ) hA hc hok) rfl rfl (Nat.le_of_ble_eq_true rfl) (by omega) ?_
    rintro _ h9 ⟨rfl, hc9, hf9⟩
    refine v_run 0 (pc' := 15) (ls' := [some (.ref (ad 0))]) (st' := [.int (zI (-1))]) rfl ?_
    rw [show aSince σ = (-1, sWhy σ) from if_pos c4]
    exact v_iret rfl rfl rfl ⟨rfl, hc9, hf9⟩

set_option maxRecDepth 100000 in
set_option maxHeartbeats 400000 in
theorem k_sinceAt (G : ssG) (h : ssH) {ad : Nat → Nat} {pl : Nat} {σ : sT} (s : Int) (hA : ∀ k l, ad k = ad l → k = l) (hc : CW0 h ad pl σ) (hok : sOk σ) (hs : -2147483648 ≤ s ∧ s < 2147483648) : ssC G mX8_sinceAt 5 0 0 [.ref (ad 0), .int (zI s)] h (cR ad pl (sTr σ (aSinceAt σ s).2) h (.int (zI (aSinceAt σ s).1))) := by
  refine c_of_v okX8_sinceAt (by decide +kernel) (ls := [some (.ref (ad 0)), some (.int (zI s))]) rfl (Nat.le_of_ble_eq_true rfl) ?_
  obtain ⟨i0, i1, i2, i3, i5, i7, a4, a6, a8, a9, a10, i11, i12, i14, i15⟩ := id hok.1
  obtain ⟨j0, j1, j2, b3, b4, b5, b6⟩ := id (hok.2.2 3 (by decide))
  have i13 := hok.2.1
  have hpl := hc.1
  simp only [fI] at i0 i1 i2 i3 i5 i7 i11 i12 i14 i15 j0 j1 j2
  obtain ⟨n0, f10, f20, d1, d2, d3, E0, hS0, hE0⟩ := hc.2.2.2.2.2.2.2.2.2
  refine v_run 1 (pc' := 1) (ls' := [some (.ref (ad 0)), some (.int (zI s))]) (st' := [.ref (ad 0)]) rfl ?_
  refine v_callV (My := mX8_lacksDoubt) (As := []) (rest := []) (mc := 0) (ms := 0) rfl caX8_lacksDoubt rfl rfl rfl hc.2.1 rfl rfl (k_lacksDoubt G _ hA hc hok) rfl rfl (Nat.le_of_ble_eq_true rfl) (by omega) ?_
  rintro _ _ ⟨rfl, rfl⟩
  refine v_run 0 (pc' := 4) (ls' := [some (.ref (ad 0)), some (.int (zI s))]) (st' := [.int (zb (decide (σ 1 13 0 = 0)))]) rfl ?_
  refine v_if_eq rfl (fun c4 => ?_) (fun c4 => ?_)
  · rw [zb_0, decide_eq_false_iff_not] at c4
    refine v_run 1 (pc' := 17) (ls' := [some (.ref (ad 0)), some (.int (zI s))]) (st' := [.ref (ad 0)]) rfl ?_
    refine v_get rfl hc.2.1 rfl ?_
    refine v_run 1 (pc' := 21) (ls' := [some (.ref (ad 0)), some (.int (zI s))]) (st' := [.ref (ad 0), .ref (ad 144)]) rfl ?_
    refine v_get rfl hc.2.1 rfl ?_
    refine v_run 0 (pc' := 24) (ls' := [some (.ref (ad 0)), some (.int (zI s))]) (st' := [.ref (ad pl), .ref (ad 144)]) rfl ?_
    refine v_callV (My := mX0_weigh) (As := [.ref (ad pl)]) (rest := []) (mc := 0) (ms := 0) rfl caX0_weigh rfl rfl rfl d1 rfl rfl (k_weigh G _ hA hc hok c4) rfl rfl (Nat.le_of_ble_eq_true rfl) (by omega) ?_
    rintro _ h1 ⟨f1, f2, rfl, E, hw⟩
    have hn1 := dC_le σ 42
    have hg1 : ∀ i, i < dC σ 42 → dGs σ f2 42 i < 32 := fun i hi => dGs_lt f2 i7 42 i hi
    refine v_run 0 (pc' := 27) (ls' := [some (.ref (ad 0)), some (.int (zI s))]) (st' := []) rfl ?_
    refine v_run 1 (pc' := 28) (ls' := [some (.ref (ad 0)), some (.int (zI s))]) (st' := [.int (zI s)]) rfl ?_
    refine v_if_lt rfl (fun c28 => ?_) (fun c28 => ?_)
    · simp (disch := omega) only [zI_lt, zI_le, zI_eq, zI_lt0, zI_le0, zI_0lt, zI_0le, zI_eq0] at c28
      refine v_run 2 (pc' := 44) (ls' := [some (.ref (ad 0)), some (.int (zI s))]) (st' := [.int (zI 1), .ref (ad 0)]) rfl ?_
      refine v_callV (My := mX8_refuse) (As := [.int (zI 1)]) (rest := []) (mc := 0) (ms := 0) rfl caX8_refuse rfl rfl rfl hw.1.2.1 rfl rfl (k_refuse G _ 1 hA hw.1 hok) rfl rfl (Nat.le_of_ble_eq_true rfl) (by omega) ?_
      rintro _ h9 ⟨rfl, hc9, hf9⟩
      refine v_run 0 (pc' := 47) (ls' := [some (.ref (ad 0)), some (.int (zI s))]) (st' := [.int (zI (-1))]) rfl ?_
      rw [show aSinceAt σ s = (-1, 1) from by rw [aSinceAt, if_neg c4, if_pos (by omega)]]
      exact v_iret rfl rfl rfl ⟨rfl, hc9, hw.2.1.tr hf9⟩
    · simp (disch := omega) only [zI_lt, zI_le, zI_eq, zI_lt0, zI_le0, zI_0lt, zI_0le, zI_eq0] at c28
      refine v_run 2 (pc' := 33) (ls' := [some (.ref (ad 0)), some (.int (zI s))]) (st' := [.ref (ad 0), .int (zI s)]) rfl ?_
      refine v_get rfl hw.1.2.1 rfl ?_
      refine v_run 0 (pc' := 36) (ls' := [some (.ref (ad 0)), some (.int (zI s))]) (st' := [.ref (ad 144), .int (zI s)]) rfl ?_
      refine v_get rfl hw.2.2.1.1 rfl ?_
      refine v_run 0 (pc' := 39) (ls' := [some (.ref (ad 0)), some (.int (zI s))]) (st' := [.int (zI ↑(dC σ 42)), .int (zI s)]) rfl ?_
      refine v_icmp_lt rfl (fun c39 => ?_) (fun c39 => ?_)
      · simp (disch := omega) only [zI_lt, zI_le, zI_eq, zI_lt0, zI_le0, zI_0lt, zI_0le, zI_eq0] at c39
        obtain ⟨k, rfl⟩ : ∃ z : Nat, s = ↑z := ⟨s.toNat, by omega⟩
        refine v_run 2 (pc' := 50) (ls' := [some (.ref (ad 0)), some (.int (zI ↑k))]) (st' := [.ref (ad 0), .ref (ad 0)]) rfl ?_
        refine v_get rfl hw.1.2.1 rfl ?_
        refine v_run 1 (pc' := 54) (ls' := [some (.ref (ad 0)), some (.int (zI ↑k))]) (st' := [.int (zI ↑k), .ref (ad 144), .ref (ad 0)]) rfl ?_
        refine v_callV (My := mX0_fitting) (As := [.int (zI ↑k)]) (rest := [.ref (ad 0)]) (mc := 0) (ms := 0) rfl caX0_fitting rfl rfl rfl hw.2.2.1.1 rfl rfl (k_fitting G _ k hw.2.2.1 hn1 (by omega)) rfl rfl (Nat.le_of_ble_eq_true rfl) (by omega) ?_
        rintro _ _ ⟨rfl, rfl⟩
        refine v_run 0 (pc' := 57) (ls' := [some (.ref (ad 0)), some (.int (zI ↑k))]) (st' := [.int (zI ↑(dFt σ f1 42 k)), .ref (ad 0)]) rfl ?_
        rw [show (zI ↑(dFt σ f1 42 k) : Int32) = zI (dNth σ k 42) from by rw [dFt_at f1 42 k (by omega)]]
        refine v_callV (My := mX8_grant) (As := [.int (zI (dNth σ k 42))]) (rest := []) (mc := 0) (ms := 0) rfl caX8_grant rfl rfl rfl hw.1.2.1 rfl rfl (k_grant G _ ((zI (dNth σ k 42))) hA hw.1 hok) rfl rfl (Nat.le_of_ble_eq_true rfl) (by omega) ?_
        rintro _ h9 ⟨rfl, hc9, hf9⟩
        refine v_run 0 (pc' := 60) (ls' := [some (.ref (ad 0)), some (.int (zI ↑k))]) (st' := [.int ((zI (dNth σ k 42)))]) rfl ?_
        rw [show aSinceAt σ ↑k = (dNth σ k 42, 0) from by rw [aSinceAt, if_neg c4, if_neg (by omega)]; rfl]
        exact v_iret rfl rfl rfl ⟨rfl, hc9, hw.2.1.tr hf9⟩
      · simp (disch := omega) only [zI_lt, zI_le, zI_eq, zI_lt0, zI_le0, zI_0lt, zI_0le, zI_eq0] at c39
        refine v_run 2 (pc' := 44) (ls' := [some (.ref (ad 0)), some (.int (zI s))]) (st' := [.int (zI 1), .ref (ad 0)]) rfl ?_
        refine v_callV (My := mX8_refuse) (As := [.int (zI 1)]) (rest := []) (mc := 0) (ms := 0) rfl caX8_refuse rfl rfl rfl hw.1.2.1 rfl rfl (k_refuse G _ 1 hA hw.1 hok) rfl rfl (Nat.le_of_ble_eq_true rfl) (by omega) ?_
        rintro _ h9 ⟨rfl, hc9, hf9⟩
        refine v_run 0 (pc' := 47) (ls' := [some (.ref (ad 0)), some (.int (zI s))]) (st' := [.int (zI (-1))]) rfl ?_
        rw [show aSinceAt σ s = (-1, 1) from by rw [aSinceAt, if_neg c4, if_pos (by omega)]]
        exact v_iret rfl rfl rfl ⟨rfl, hc9, hw.2.1.tr hf9⟩
  · rw [zb_0, Bool.not_eq_false, decide_eq_true_eq] at c4
    have qw := sWhy_le σ
    refine v_run 2 (pc' := 9) (ls' := [some (.ref (ad 0)), some (.int (zI s))]) (st' := [.ref (ad 0), .ref (ad 0)]) rfl ?_
    refine v_callV (My := mX8_whyNoDoubt) (As := []) (rest := [.ref (ad 0)]) (mc := 0) (ms := 0) rfl caX8_whyNoDoubt rfl rfl rfl hc.2.1 rfl rfl (k_whyNoDoubt G _ hA hc hok) rfl rfl (Nat.le_of_ble_eq_true rfl) (by omega) ?_
    rintro _ _ ⟨rfl, rfl⟩
    refine v_run 0 (pc' := 12) (ls' := [some (.ref (ad 0)), some (.int (zI s))]) (st' := [.int (zI ↑(sWhy σ)), .ref (ad 0)]) rfl ?_
    refine v_callV (My := mX8_refuse) (As := [.int (zI ↑(sWhy σ))]) (rest := []) (mc := 0) (ms := 0) rfl caX8_refuse rfl rfl rfl hc.2.1 rfl rfl (k_refuse G _ (sWhy σ) hA hc hok) rfl rfl (Nat.le_of_ble_eq_true rfl) (by omega) ?_
    rintro _ h9 ⟨rfl, hc9, hf9⟩
    refine v_run 0 (pc' := 15) (ls' := [some (.ref (ad 0)), some (.int (zI s))]) (st' := [.int (zI (-1))]) rfl ?_
    rw [show aSinceAt σ s = (-1, sWhy σ) from if_pos c4]
    exact v_iret rfl rfl rfl ⟨rfl, hc9, hf9⟩

set_option maxRecDepth 100000 in
set_option maxHeartbeats 400000 in
theorem k_look (G : ssG) (h : ssH) {ad : Nat → Nat} {pl : Nat} {σ : sT}  (hA : ∀ k l, ad k = ad l → k = l) (hc : CW0 h ad pl σ) (hok : sOk σ)  : ssC G mX8_look 5 0 0 [.ref (ad 0)] h (cR ad pl (sTr σ (aLook σ).2) h (.int (zI (aLook σ).1))) := by
  refine c_of_v okX8_look (by decide +kernel) (ls := [some (.ref (ad 0))]) rfl (Nat.le_of_ble_eq_true rfl) ?_
  obtain ⟨i0, i1, i2, i3, i5, i7, a4, a6, a8, a9, a10, i11, i12, i14, i15⟩ := id hok.1
  obtain ⟨j0, j1, j2, b3, b4, b5, b6⟩ := id (hok.2.2 3 (by decide))
  have i13 := hok.2.1
  have hpl := hc.1
  simp only [fI] at i0 i1 i2 i3 i5 i7 i11 i12 i14 i15 j0 j1 j2
  obtain ⟨n0, f10, f20, d1, d2, d3, E0, hS0, hE0⟩ := hc.2.2.2.2.2.2.2.2.2
  refine v_run 1 (pc' := 1) (ls' := [some (.ref (ad 0))]) (st' := [.ref (ad 0)]) rfl ?_
  refine v_callV (My := mX8_lacksDoubt) (As := []) (rest := []) (mc := 0) (ms := 0) rfl caX8_lacksDoubt rfl rfl rfl hc.2.1 rfl rfl (k_lacksDoubt G _ hA hc hok) rfl rfl (Nat.le_of_ble_eq_true rfl) (by omega) ?_
  rintro _ _ ⟨rfl, rfl⟩
  refine v_run 0 (pc' := 4) (ls' := [some (.ref (ad 0))]) (st' := [.int (zb (decide (σ 1 13 0 = 0)))]) rfl ?_
  refine v_if_eq rfl (fun c4 => ?_) (fun c4 => ?_)
  · rw [zb_0, decide_eq_false_iff_not] at c4
    refine v_run 1 (pc' := 17) (ls' := [some (.ref (ad 0))]) (st' := [.ref (ad 0)]) rfl ?_
    refine v_get rfl hc.2.1 rfl ?_
    refine v_run 1 (pc' := 21) (ls' := [some (.ref (ad 0))]) (st' := [.ref (ad 0), .ref (ad 144)]) rfl ?_
    refine v_get rfl hc.2.1 rfl ?_
    refine v_run 0 (pc' := 24) (ls' := [some (.ref (ad 0))]) (st' := [.ref (ad pl), .ref (ad 144)]) rfl ?_
    refine v_callV (My := mX0_weigh) (As := [.ref (ad pl)]) (rest := []) (mc := 0) (ms := 0) rfl caX0_weigh rfl rfl rfl d1 rfl rfl (k_weigh G _ hA hc hok c4) rfl rfl (Nat.le_of_ble_eq_true rfl) (by omega) ?_
    rintro _ h1 ⟨f1, f2, rfl, E, hw⟩
    have hn1 := dC_le σ 42
    have hg1 : ∀ i, i < dC σ 42 → dGs σ f2 42 i < 32 := fun i hi => dGs_lt f2 i7 42 i hi
    refine v_run 0 (pc' := 27) (ls' := [some (.ref (ad 0))]) (st' := []) rfl ?_
    refine v_run 2 (pc' := 29) (ls' := [some (.ref (ad 0))]) (st' := [.ref (ad 0), .ref (ad 0)]) rfl ?_
    refine v_get rfl hw.1.2.1 rfl ?_
    refine v_run 1 (pc' := 33) (ls' := [some (.ref (ad 0))]) (st' := [.ref (ad 0), .ref (ad 144), .ref (ad 0)]) rfl ?_
    refine v_get rfl hw.1.2.1 rfl ?_
    refine v_run 0 (pc' := 36) (ls' := [some (.ref (ad 0))]) (st' := [.ref (ad pl), .ref (ad 144), .ref (ad 0)]) rfl ?_
    refine v_get rfl hw.1.2.2.1.1 rfl ?_
    refine v_run 0 (pc' := 39) (ls' := [some (.ref (ad 0))]) (st' := [.int (zI ↑(σ 1 7 0)), .ref (ad 144), .ref (ad 0)]) rfl ?_
    refine v_callV (My := mX0_actToAsk) (As := [.int (zI ↑(σ 1 7 0))]) (rest := [.ref (ad 0)]) (mc := 0) (ms := 0) rfl caX0_actToAsk rfl rfl rfl hw.2.2.1.1 rfl rfl (k_actToAsk G _ (σ 1 7 0) hw.2.2.1 hn1 hg1 i7) rfl rfl (Nat.le_of_ble_eq_true rfl) (by omega) ?_
    rintro _ _ ⟨rfl, rfl⟩
    refine v_run 0 (pc' := 42) (ls' := [some (.ref (ad 0))]) (st' := [.int (zI (atA (dLf (dC σ 42) (dGs σ f2 42)) (dC σ 42) (σ 1 7 0)).1), .ref (ad 0)]) rfl ?_
    rw [show (zI (atA (dLf (dC σ 42) (dGs σ f2 42)) (dC σ 42) (σ 1 7 0)).1 : Int32) = zI (sAsk σ) from by rw [sAsk_eq f2]]
    refine v_callV (My := mX8_grant) (As := [.int (zI (sAsk σ))]) (rest := []) (mc := 0) (ms := 0) rfl caX8_grant rfl rfl rfl hw.1.2.1 rfl rfl (k_grant G _ ((zI (sAsk σ))) hA hw.1 hok) rfl rfl (Nat.le_of_ble_eq_true rfl) (by omega) ?_
    rintro _ h9 ⟨rfl, hc9, hf9⟩
    refine v_run 0 (pc' := 45) (ls' := [some (.ref (ad 0))]) (st' := [.int ((zI (sAsk σ)))]) rfl ?_
    rw [show aLook σ = (sAsk σ, 0) from if_neg c4]
    exact v_iret rfl rfl rfl ⟨rfl, hc9, hw.2.1.tr hf9⟩
  · rw [zb_0, Bool.not_eq_false, decide_eq_true_eq] at c4
    have qw := sWhy_le σ
    refine v_run 2 (pc' := 9) (ls' := [some (.ref (ad 0))]) (st' := [.ref (ad 0), .ref (ad 0)]) rfl ?_
    refine v_callV (My := mX8_whyNoDoubt) (As := []) (rest := [.ref (ad 0)]) (mc := 0) (ms := 0) rfl caX8_whyNoDoubt rfl rfl rfl hc.2.1 rfl rfl (k_whyNoDoubt G _ hA hc hok) rfl rfl (Nat.le_of_ble_eq_true rfl) (by omega) ?_
    rintro _ _ ⟨rfl, rfl⟩
    refine v_run 0 (pc' := 12) (ls' := [some (.ref (ad 0))]) (st' := [.int (zI ↑(sWhy σ)), .ref (ad 0)]) rfl ?_
    refine v_callV (My := mX8_refuse) (As := [.int (zI ↑(sWhy σ))]) (rest := []) (mc := 0) (ms := 0) rfl caX8_refuse rfl rfl rfl hc.2.1 rfl rfl (k_refuse G _ (sWhy σ) hA hc hok) rfl rfl (Nat.le_of_ble_eq_true rfl) (by omega) ?_
    rintro _ h9 ⟨rfl, hc9, hf9⟩
    refine v_run 0 (pc' := 15) (ls' := [some (.ref (ad 0))]) (st' := [.int (zI (-1))]) rfl ?_
    rw [show aLook σ = (-1, sWhy σ) from if_pos c4]
    exact v_iret rfl rfl rfl ⟨rfl, hc9, hf9⟩

set_option maxRecDepth 100000 in
set_option maxHeartbeats 400000 in
theorem k_lookLeaves (G : ssG) (h : ssH) {ad : Nat → Nat} {pl : Nat} {σ : sT}  (hA : ∀ k l, ad k = ad l → k = l) (hc : CW0 h ad pl σ) (hok : sOk σ)  : ssC G mX8_lookLeaves 5 0 0 [.ref (ad 0)] h (cR ad pl (sTr σ (aLookL σ).2) h (.int (zI (aLookL σ).1))) := by
  refine c_of_v okX8_lookLeaves (by decide +kernel) (ls := [some (.ref (ad 0)), none]) rfl (Nat.le_of_ble_eq_true rfl) ?_
  obtain ⟨i0, i1, i2, i3, i5, i7, a4, a6, a8, a9, a10, i11, i12, i14, i15⟩ := id hok.1
  obtain ⟨j0, j1, j2, b3, b4, b5, b6⟩ := id (hok.2.2 3 (by decide))
  have i13 := hok.2.1
  have hpl := hc.1
  simp only [fI] at i0 i1 i2 i3 i5 i7 i11 i12 i14 i15 j0 j1 j2
  obtain ⟨n0, f10, f20, d1, d2, d3, E0, hS0, hE0⟩ := hc.2.2.2.2.2.2.2.2.2
  refine v_run 1 (pc' := 1) (ls' := [some (.ref (ad 0)), none]) (st' := [.ref (ad 0)]) rfl ?_
  refine v_callV (My := mX8_lacksDoubt) (As := []) (rest := []) (mc := 0) (ms := 0) rfl caX8_lacksDoubt rfl rfl rfl hc.2.1 rfl rfl (k_lacksDoubt G _ hA hc hok) rfl rfl (Nat.le_of_ble_eq_true rfl) (by omega) ?_
  rintro _ _ ⟨rfl, rfl⟩
  refine v_run 0 (pc' := 4) (ls' := [some (.ref (ad 0)), none]) (st' := [.int (zb (decide (σ 1 13 0 = 0)))]) rfl ?_
  refine v_if_eq rfl (fun c4 => ?_) (fun c4 => ?_)
  · rw [zb_0, decide_eq_false_iff_not] at c4
    refine v_run 1 (pc' := 17) (ls' := [some (.ref (ad 0)), none]) (st' := [.ref (ad 0)]) rfl ?_
    refine v_get rfl hc.2.1 rfl ?_
    refine v_run 1 (pc' := 21) (ls' := [some (.ref (ad 0)), none]) (st' := [.ref (ad 0), .ref (ad 144)]) rfl ?_
    refine v_get rfl hc.2.1 rfl ?_
    refine v_run 0 (pc' := 24) (ls' := [some (.ref (ad 0)), none]) (st' := [.ref (ad pl), .ref (ad 144)]) rfl ?_
    refine v_callV (My := mX0_weigh) (As := [.ref (ad pl)]) (rest := []) (mc := 0) (ms := 0) rfl caX0_weigh rfl rfl rfl d1 rfl rfl (k_weigh G _ hA hc hok c4) rfl rfl (Nat.le_of_ble_eq_true rfl) (by omega) ?_
    rintro _ h1 ⟨f1, f2, rfl, E, hw⟩
    have hn1 := dC_le σ 42
    have hg1 : ∀ i, i < dC σ 42 → dGs σ f2 42 i < 32 := fun i hi => dGs_lt f2 i7 42 i hi
    refine v_run 0 (pc' := 27) (ls' := [some (.ref (ad 0)), none]) (st' := []) rfl ?_
    refine v_run 1 (pc' := 28) (ls' := [some (.ref (ad 0)), none]) (st' := [.ref (ad 0)]) rfl ?_
    refine v_get rfl hw.1.2.1 rfl ?_
    refine v_run 1 (pc' := 32) (ls' := [some (.ref (ad 0)), none]) (st' := [.ref (ad 0), .ref (ad 144)]) rfl ?_
    refine v_get rfl hw.1.2.1 rfl ?_
    refine v_run 0 (pc' := 35) (ls' := [some (.ref (ad 0)), none]) (st' := [.ref (ad pl), .ref (ad 144)]) rfl ?_
    refine v_get rfl hw.1.2.2.1.1 rfl ?_
    refine v_run 0 (pc' := 38) (ls' := [some (.ref (ad 0)), none]) (st' := [.int (zI ↑(σ 1 7 0)), .ref (ad 144)]) rfl ?_
    refine v_callV (My := mX0_actToAsk) (As := [.int (zI ↑(σ 1 7 0))]) (rest := []) (mc := 0) (ms := 0) rfl caX0_actToAsk rfl rfl rfl hw.2.2.1.1 rfl rfl (k_actToAsk G _ (σ 1 7 0) hw.2.2.1 hn1 hg1 i7) rfl rfl (Nat.le_of_ble_eq_true rfl) (by omega) ?_
    rintro _ _ ⟨rfl, rfl⟩
    refine v_run 0 (pc' := 41) (ls' := [some (.ref (ad 0)), none]) (st' := [.int (zI (atA (dLf (dC σ 42) (dGs σ f2 42)) (dC σ 42) (σ 1 7 0)).1)]) rfl ?_
    rw [show (zI (atA (dLf (dC σ 42) (dGs σ f2 42)) (dC σ 42) (σ 1 7 0)).1 : Int32) = zI (sAsk σ) from by rw [sAsk_eq f2]]
    have qa := sAsk_bd σ
    refine v_run 4 (pc' := 46) (ls' := [some (.ref (ad 0)), some (.int (zI (sAsk σ)))]) (st' := [.int (zI (-2)), .int (zI (sAsk σ)), .ref (ad 0)]) rfl ?_
    refine v_icmp_ne rfl (fun c46 => ?_) (fun c46 => ?_)
    · simp (disch := omega) only [zI_lt, zI_le, zI_eq, zI_lt0, zI_le0, zI_0lt, zI_0le, zI_eq0] at c46
      refine v_run 1 (pc' := 55) (ls' := [some (.ref (ad 0)), some (.int (zI (sAsk σ)))]) (st' := [.ref (ad 0), .ref (ad 0)]) rfl ?_
      refine v_get rfl hw.1.2.1 rfl ?_
      refine v_run 1 (pc' := 59) (ls' := [some (.ref (ad 0)), some (.int (zI (sAsk σ)))]) (st' := [.int (zI (sAsk σ)), .ref (ad 144), .ref (ad 0)]) rfl ?_
      obtain ⟨k, hk⟩ : ∃ k : Nat, sAsk σ = ↑k := ⟨(sAsk σ).toNat, by omega⟩
      rw [show (zI (sAsk σ) : Int32) = zI ↑k from by rw [hk]]
      refine v_callV (My := mX0_leftBy) (As := [.int (zI ↑k)]) (rest := [.ref (ad 0)]) (mc := 0) (ms := 0) rfl caX0_leftBy rfl rfl rfl hw.2.2.1.1 rfl rfl (k_leftBy G _ k hw.2.2.1 hn1 hg1 (by omega)) rfl rfl (Nat.le_of_ble_eq_true rfl) (by omega) ?_
      rintro _ _ ⟨rfl, rfl⟩
      refine v_run 0 (pc' := 62) (ls' := [some (.ref (ad 0)), some (.int (zI ↑k))]) (st' := [.int (zI ↑(dLf (dC σ 42) (dGs σ f2 42) k)), .ref (ad 0)]) rfl ?_
      rw [show (zI ↑(dLf (dC σ 42) (dGs σ f2 42) k) : Int32) = zI ↑(sLv σ k) from by rw [sLv_eq f2]]
      refine v_callV (My := mX8_grant) (As := [.int (zI ↑(sLv σ k))]) (rest := []) (mc := 0) (ms := 0) rfl caX8_grant rfl rfl rfl hw.1.2.1 rfl rfl (k_grant G _ ((zI ↑(sLv σ k))) hA hw.1 hok) rfl rfl (Nat.le_of_ble_eq_true rfl) (by omega) ?_
      rintro _ h9 ⟨rfl, hc9, hf9⟩
      refine v_run 0 (pc' := 65) (ls' := [some (.ref (ad 0)), some (.int (zI ↑k))]) (st' := [.int ((zI ↑(sLv σ k)))]) rfl ?_
      rw [show aLookL σ = (↑(sLv σ k), 0) from by rw [aLookL, if_neg c4, if_neg (by omega), hk]; rfl]
      exact v_iret rfl rfl rfl ⟨rfl, hc9, hw.2.1.tr hf9⟩
    · simp (disch := omega) only [zI_lt, zI_le, zI_eq, zI_lt0, zI_le0, zI_0lt, zI_0le, zI_eq0] at c46
      refine v_run 2 (pc' := 62) (ls' := [some (.ref (ad 0)), some (.int (zI (sAsk σ)))]) (st' := [.int (zI (-2)), .ref (ad 0)]) rfl ?_
      refine v_callV (My := mX8_grant) (As := [.int (zI (-2))]) (rest := []) (mc := 0) (ms := 0) rfl caX8_grant rfl rfl rfl hw.1.2.1 rfl rfl (k_grant G _ ((zI (-2))) hA hw.1 hok) rfl rfl (Nat.le_of_ble_eq_true rfl) (by omega) ?_
      rintro _ h9 ⟨rfl, hc9, hf9⟩
      refine v_run 0 (pc' := 65) (ls' := [some (.ref (ad 0)), some (.int (zI (sAsk σ)))]) (st' := [.int ((zI (-2)))]) rfl ?_
      rw [show aLookL σ = (-2, 0) from by rw [aLookL, if_neg c4, if_pos (by omega)]]
      exact v_iret rfl rfl rfl ⟨rfl, hc9, hw.2.1.tr hf9⟩
  · rw [zb_0, Bool.not_eq_false, decide_eq_true_eq] at c4
    have qw := sWhy_le σ
    refine v_run 2 (pc' := 9) (ls' := [some (.ref (ad 0)), none]) (st' := [.ref (ad 0), .ref (ad 0)]) rfl ?_
    refine v_callV (My := mX8_whyNoDoubt) (As := []) (rest := [.ref (ad 0)]) (mc := 0) (ms := 0) rfl caX8_whyNoDoubt rfl rfl rfl hc.2.1 rfl rfl (k_whyNoDoubt G _ hA hc hok) rfl rfl (Nat.le_of_ble_eq_true rfl) (by omega) ?_
    rintro _ _ ⟨rfl, rfl⟩
    refine v_run 0 (pc' := 12) (ls' := [some (.ref (ad 0)), none]) (st' := [.int (zI ↑(sWhy σ)), .ref (ad 0)]) rfl ?_
    refine v_callV (My := mX8_refuse) (As := [.int (zI ↑(sWhy σ))]) (rest := []) (mc := 0) (ms := 0) rfl caX8_refuse rfl rfl rfl hc.2.1 rfl rfl (k_refuse G _ (sWhy σ) hA hc hok) rfl rfl (Nat.le_of_ble_eq_true rfl) (by omega) ?_
    rintro _ h9 ⟨rfl, hc9, hf9⟩
    refine v_run 0 (pc' := 15) (ls' := [some (.ref (ad 0)), none]) (st' := [.int (zI (-1))]) rfl ?_
    rw [show aLookL σ = (-1, sWhy σ) from if_pos c4]
    exact v_iret rfl rfl rfl ⟨rfl, hc9, hf9⟩

