def hRel (sen : Nat) (st st' : hS) : Prop := st.1 = st'.1 ∧ (st.1 ≠ -1 → ∀ t, t < sen → st.2 t = st'.2 t)
theorem hgI_rel {sen : Nat} {F F' : Nat → hS → hS} {st st' : hS} (h0 : hRel sen st st') : ∀ n, (∀ k st st', k < n → hRel sen st st' → hRel sen (F k st) (F' k st')) → hRel sen (hgI F n st) (hgI F' n st')
  | 0, _ => h0
  | n + 1, h => h n _ _ (by omega) (hgI_rel h0 n (fun k a b hk => h k a b (by omega)))
theorem hgL_rel {V V' : (Nat → Nat) → Nat} {sen hk : Nat} (hs6 : sen ≤ 6) (hV : ∀ a a', (∀ t, t < sen → a t = a' t) → V a = V' a') : ∀ k s {a a' : Nat → Nat} {st st' : hS}, s + k = sen → (∀ t, t < s → a t = a' t) → hRel sen st st' → hRel sen (hgL V sen hk k s a st) (hgL V' sen hk k s a' st')
  | 0, s, a, a', st, st', hs, ha, hr => by
    have e := hV a a' (fun t ht => ha t (by omega))
    simp only [hgL]
    by_cases h1 : injN a sen ∧ st.1 < ↑(V a)
    · have h2 : injN a' sen ∧ st'.1 < ↑(V' a') := ⟨fun x hx y hy q => h1.1 x hx y hy (by rw [ha x (by omega), ha y (by omega)]; exact q), by rw [← hr.1, ← e]; exact h1.2⟩
      rw [if_pos h1, if_pos h2]
      refine ⟨by simp only [hLf]; rw [e], fun _ t ht => ?_⟩
      simp only [hLf]
      rw [if_pos (by omega), if_pos (by omega)]
      exact ha t (by omega)
    · have h2 : ¬ (injN a' sen ∧ st'.1 < ↑(V' a')) := fun q => h1 ⟨fun x hx y hy z => q.1 x hx y hy (by rw [← ha x (by omega), ← ha y (by omega)]; exact z), by rw [hr.1, e]; exact q.2⟩
      rw [if_neg h1, if_neg h2]
      exact hr
  | k + 1, s, a, a', st, st', hs, ha, hr => by
    simp only [hgL]
    refine hgI_rel hr hk (fun u x x' hu hx => hgL_rel hs6 hV k (s + 1) (by omega) (fun t ht => ?_) hx)
    show (if t = s then u else a t) = (if t = s then u else a' t)
    split
    · rfl
    · exact ha t (by omega)
theorem hgI_mono {F : Nat → hS → hS} (h : ∀ k st, st.1 ≤ (F k st).1) {st : hS} : ∀ n, st.1 ≤ (hgI F n st).1
  | 0 => Int.le_refl _
  | n + 1 => Int.le_trans (hgI_mono h n) (h n _)
theorem hgL_mono {V : (Nat → Nat) → Nat} {sen hk : Nat} : ∀ k s {a : Nat → Nat} {st : hS}, st.1 ≤ (hgL V sen hk k s a st).1
  | 0, s, a, st => by
    simp only [hgL]
    split
    · rename_i h; simp only [hLf]; omega
    · exact Int.le_refl _
  | k + 1, s, a, st => by
    simp only [hgL]
    exact hgI_mono (fun u st => hgL_mono k (s + 1)) hk
theorem hgI_ge {F : Nat → hS → hS} (h : ∀ k st, st.1 ≤ (F k st).1) {st : hS} {u : Nat} (hu : ∀ st, 0 ≤ (F u st).1) : ∀ n, u < n → 0 ≤ (hgI F n st).1
  | 0, h1 => absurd h1 (by omega)
  | n + 1, h1 => by
    simp only [hgI]
    by_cases e : u = n
    · subst e; exact hu _
    · exact Int.le_trans (hgI_ge h hu n (by omega)) (h n _)
theorem hgL_ge {V : (Nat → Nat) → Nat} {sen hk : Nat} (hs : sen ≤ hk) : ∀ k s {a : Nat → Nat} {st : hS}, s + k = sen → (∀ t, t < s → a t = t) → 0 ≤ (hgL V sen hk k s a st).1
  | 0, s, a, st, h1, h2 => by
    simp only [hgL]
    by_cases q : st.1 < ↑(V a)
    · rw [if_pos ⟨fun x hx y hy z => by rw [h2 x (by omega), h2 y (by omega)] at z; exact z, q⟩]; simp only [hLf]; omega
    · rw [if_neg (fun z => q z.2)]; omega
  | k + 1, s, a, st, h1, h2 => by
    simp only [hgL]
    refine hgI_ge (fun u st => hgL_mono k (s + 1)) (u := s) (fun st => hgL_ge hs k (s + 1) (by omega) (fun t ht => ?_)) hk (by omega)
    show (if t = s then s else a t) = t
    split
    · rename_i e; exact e.symm
    · exact h2 t (by omega)
def hgC (σ : sT) (q : Nat) (W : Nat → Nat → Nat) : hS := hgR σ q W (fun _ => 0) (fun _ => 0)
theorem hgR_c {σ : sT} {q : Nat} {W : Nat → Nat → Nat} (h5 : σ 1 5 0 ≤ 6) (f1 f2 : Nat → Nat) : (hgR σ q W f1 f2).1 = (hgC σ q W).1 ∧ (σ 1 5 0 ≤ σ 1 3 0 → ∀ t, t < σ 1 5 0 → (hgR σ q W f1 f2).2 t = (hgC σ q W).2 t) := by
  have h := hgL_rel (V := fun a => hv q (σ 1 5 0) (fun t => W t (a t))) (V' := fun a => hv q (σ 1 5 0) (fun t => W t (a t))) (hk := σ 1 3 0) h5 (fun a a' ha => hv_congr (fun t ht => by rw [ha t ht])) (σ 1 5 0) 0 (a := f2) (a' := fun _ => 0) (st := (-1, f1)) (st' := (-1, fun _ => 0)) (by omega) (fun t ht => absurd ht (by omega)) ⟨rfl, fun q => absurd rfl q⟩
  refine ⟨h.1, fun hs t ht => h.2 ?_ t ht⟩
  have := hgL_ge (V := fun a => hv q (σ 1 5 0) (fun t => W t (a t))) hs (σ 1 5 0) 0 (a := f2) (st := (-1, f1)) (by omega) (fun t ht => absurd ht (by omega))
  omega
def aHang (σ : sT) (n : Int) : Int × Nat := if σ 1 5 0 = 0 then (-1, 1) else if n < 0 ∨ 60 < n then (-1, 2) else ((hgC σ 0 (wG σ n.toNat)).1, 0)
def aHangAt (σ : sT) (s n : Int) : Int × Nat := if s < 0 ∨ ↑(σ 1 5 0) ≤ s then (-1, 1) else if n < 0 ∨ 60 < n then (-1, 2) else (↑((hgC σ 0 (wG σ n.toNat)).2 s.toNat), 0)
def aLongest (σ : sT) : Int × Nat := if σ 1 5 0 = 0 then (-1, 1) else ((hgC σ (σ 1 0 0) (wL σ)).1, 0)
def aLongestAt (σ : sT) (s : Int) : Int × Nat := if s < 0 ∨ ↑(σ 1 5 0) ≤ s then (-1, 1) else (↑((hgC σ (σ 1 0 0) (wL σ)).2 s.toNat), 0)
set_option maxRecDepth 100000 in
set_option maxHeartbeats 400000 in
theorem k_hang (G : ssG) (h : ssH) {ad : Nat → Nat} {pl : Nat} {σ : sT} (n : Int) (hA : ∀ k l, ad k = ad l → k = l) (hc : CW0 h ad pl σ) (hok : sOk σ) (hn : -2147483648 ≤ n ∧ n < 2147483648) : ssC G mX8_hang 11 0 0 [.ref (ad 0), .int (zI n)] h (cR ad pl (sTr σ (aHang σ n).2) h (.int (zI (aHang σ n).1))) := by
  refine c_of_v okX8_hang (by decide +kernel) (ls := [some (.ref (ad 0)), some (.int (zI n))]) rfl (Nat.le_of_ble_eq_true rfl) ?_
  obtain ⟨i0, i1, i2, i3, i5, i7, a4, a6, a8, a9, a10, i11, i12, i14, i15⟩ := id hok.1
  obtain ⟨j0, j1, j2, b3, b4, b5, b6⟩ := id (hok.2.2 3 (by decide))
  have i13 := hok.2.1
  have hpl := hc.1
  simp only [fI] at i0 i1 i2 i3 i5 i7 i11 i12 i14 i15 j0 j1 j2
  obtain ⟨b0, i0a, f10, f20, f30, d1, d2, d3, d4, d5⟩ := hc.2.2.2.2.2.2.2.2.1
  refine v_run 1 (pc' := 1) (ls' := [some (.ref (ad 0)), some (.int (zI n))]) (st' := [.ref (ad 0)]) rfl ?_
  refine v_callV (My := mX8_lacksSafe) (As := []) (rest := []) (mc := 0) (ms := 0) rfl caX8_lacksSafe rfl rfl rfl hc.2.1 rfl rfl (k_lacksSafe G _ hA hc hok) rfl rfl (Nat.le_of_ble_eq_true rfl) (by omega) ?_
  rintro _ _ ⟨rfl, rfl⟩
  refine v_run 0 (pc' := 4) (ls' := [some (.ref (ad 0)), some (.int (zI n))]) (st' := [.int (zb (decide (σ 1 5 0 = 0)))]) rfl ?_
  refine v_if_eq rfl (fun c4 => ?_) (fun c4 => ?_)
  · rw [zb_0, decide_eq_false_iff_not] at c4
    refine v_run 2 (pc' := 16) (ls' := [some (.ref (ad 0)), some (.int (zI n))]) (st' := [.int (zI 60), .int (zI n)]) rfl ?_
    refine v_callS (My := mX8_outside) (As := [.int (zI n), .int (zI 60)]) (rest := []) (mc := 0) (ms := 0) rfl caX8_outside rfl rfl (k_outside G _ n 60 hn ⟨by omega, by omega⟩) rfl rfl (Nat.le_of_ble_eq_true rfl) (by omega) ?_
    rintro _ _ ⟨rfl, rfl⟩
    refine v_run 0 (pc' := 19) (ls' := [some (.ref (ad 0)), some (.int (zI n))]) (st' := [.int (zb (decide (n < 0 ∨ 60 < n)))]) rfl ?_
    refine v_if_eq rfl (fun c19 => ?_) (fun c19 => ?_)
    · rw [zb_0, decide_eq_false_iff_not] at c19
      obtain ⟨m, rfl⟩ : ∃ z : Nat, n = ↑z := ⟨n.toNat, by omega⟩
      refine v_run 1 (pc' := 29) (ls' := [some (.ref (ad 0)), some (.int (zI ↑m))]) (st' := [.ref (ad 0)]) rfl ?_
      refine v_get rfl hc.2.1 rfl ?_
      refine v_run 1 (pc' := 33) (ls' := [some (.ref (ad 0)), some (.int (zI ↑m))]) (st' := [.ref (ad 0), .ref (ad 138)]) rfl ?_
      refine v_get rfl hc.2.1 rfl ?_
      refine v_run 1 (pc' := 37) (ls' := [some (.ref (ad 0)), some (.int (zI ↑m))]) (st' := [.ref (ad 0), .ref (ad pl), .ref (ad 138)]) rfl ?_
      refine v_get rfl hc.2.1 rfl ?_
      refine v_run 1 (pc' := 41) (ls' := [some (.ref (ad 0)), some (.int (zI ↑m))]) (st' := [.int (zI ↑m), .ref (ad 33), .ref (ad pl), .ref (ad 138)]) rfl ?_
      refine v_callV (My := mX1_forMostGood) (As := [.ref (ad pl), .ref (ad 33), .int (zI ↑m)]) (rest := []) (mc := 0) (ms := 0) rfl caX1_forMostGood rfl rfl rfl d1 rfl rfl (k_forMostGood G _ m hA hc hok (by omega)) rfl rfl (Nat.le_of_ble_eq_true rfl) (by omega) ?_
      rintro _ h1 ⟨rfl, f1, f2, j, f2b, f3, E, hw, hr⟩
      have hcg := hgR_c (σ := σ) (q := 0) (W := (wG σ m)) i5 f1 f2
      refine v_run 0 (pc' := 44) (ls' := [some (.ref (ad 0)), some (.int (zI ↑m))]) (st' := []) rfl ?_
      refine v_run 2 (pc' := 46) (ls' := [some (.ref (ad 0)), some (.int (zI ↑m))]) (st' := [.ref (ad 0), .ref (ad 0)]) rfl ?_
      refine v_get rfl hw.1.2.1 rfl ?_
      refine v_run 0 (pc' := 49) (ls' := [some (.ref (ad 0)), some (.int (zI ↑m))]) (st' := [.ref (ad 138), .ref (ad 0)]) rfl ?_
      refine v_get rfl hw.2.2.1.1 rfl ?_
      refine v_run 0 (pc' := 52) (ls' := [some (.ref (ad 0)), some (.int (zI ↑m))]) (st' := [.int (zI (hgR σ (0) (wG σ m) f1 f2).1), .ref (ad 0)]) rfl ?_
      rw [show (zI (hgR σ (0) (wG σ m) f1 f2).1 : Int32) = zI (hgC σ 0 (wG σ m)).1 from by rw [hcg.1]]
      refine v_callV (My := mX8_grant) (As := [.int (zI (hgC σ 0 (wG σ m)).1)]) (rest := []) (mc := 0) (ms := 0) rfl caX8_grant rfl rfl rfl hw.1.2.1 rfl rfl (k_grant G _ ((zI (hgC σ 0 (wG σ m)).1)) hA hw.1 hok) rfl rfl (Nat.le_of_ble_eq_true rfl) (by omega) ?_
      rintro _ h9 ⟨rfl, hc9, hf9⟩
      refine v_run 0 (pc' := 55) (ls' := [some (.ref (ad 0)), some (.int (zI ↑m))]) (st' := [.int ((zI (hgC σ 0 (wG σ m)).1))]) rfl ?_
      rw [show aHang σ ↑m = ((hgC σ 0 (wG σ m)).1, 0) from by rw [aHang, if_neg c4, if_neg c19]; rfl]
      exact v_iret rfl rfl rfl ⟨rfl, hc9, hw.2.1.tr hf9⟩
    · rw [zb_0, Bool.not_eq_false, decide_eq_true_eq] at c19
      refine v_run 2 (pc' := 24) (ls' := [some (.ref (ad 0)), some (.int (zI n))]) (st' := [.int (zI 2), .ref (ad 0)]) rfl ?_
      refine v_callV (My := mX8_refuse) (As := [.int (zI 2)]) (rest := []) (mc := 0) (ms := 0) rfl caX8_refuse rfl rfl rfl hc.2.1 rfl rfl (k_refuse G _ 2 hA hc hok) rfl rfl (Nat.le_of_ble_eq_true rfl) (by omega) ?_
      rintro _ h9 ⟨rfl, hc9, hf9⟩
      refine v_run 0 (pc' := 27) (ls' := [some (.ref (ad 0)), some (.int (zI n))]) (st' := [.int (zI (-1))]) rfl ?_
      rw [show aHang σ n = (-1, 2) from (by rw [aHang, if_neg c4, if_pos c19])]
      exact v_iret rfl rfl rfl ⟨rfl, hc9, hf9⟩
  · rw [zb_0, Bool.not_eq_false, decide_eq_true_eq] at c4
    refine v_run 2 (pc' := 9) (ls' := [some (.ref (ad 0)), some (.int (zI n))]) (st' := [.int (zI 1), .ref (ad 0)]) rfl ?_
    refine v_callV (My := mX8_refuse) (As := [.int (zI 1)]) (rest := []) (mc := 0) (ms := 0) rfl caX8_refuse rfl rfl rfl hc.2.1 rfl rfl (k_refuse G _ 1 hA hc hok) rfl rfl (Nat.le_of_ble_eq_true rfl) (by omega) ?_
    rintro _ h9 ⟨rfl, hc9, hf9⟩
    refine v_run 0 (pc' := 12) (ls' := [some (.ref (ad 0)), some (.int (zI n))]) (st' := [.int (zI (-1))]) rfl ?_
    rw [show aHang σ n = (-1, 1) from if_pos c4]
    exact v_iret rfl rfl rfl ⟨rfl, hc9, hf9⟩

set_option maxRecDepth 100000 in
set_option maxHeartbeats 400000 in
theorem k_hangAt (G : ssG) (h : ssH) {ad : Nat → Nat} {pl : Nat} {σ : sT} (s n : Int) (hA : ∀ k l, ad k = ad l → k = l) (hc : CW0 h ad pl σ) (hok : sOk σ) (hs : -2147483648 ≤ s ∧ s < 2147483648) (hn : -2147483648 ≤ n ∧ n < 2147483648) (hsh : σ 1 5 0 ≤ σ 1 3 0) : ssC G mX8_hangAt 11 0 0 [.ref (ad 0), .int (zI s), .int (zI n)] h (cR ad pl (sTr σ (aHangAt σ s n).2) h (.int (zI (aHangAt σ s n).1))) := by
  refine c_of_v okX8_hangAt (by decide +kernel) (ls := [some (.ref (ad 0)), some (.int (zI s)), some (.int (zI n))]) rfl (Nat.le_of_ble_eq_true rfl) ?_
  obtain ⟨i0, i1, i2, i3, i5, i7, a4, a6, a8, a9, a10, i11, i12, i14, i15⟩ := id hok.1
  obtain ⟨j0, j1, j2, b3, b4, b5, b6⟩ := id (hok.2.2 3 (by decide))
  have i13 := hok.2.1
  have hpl := hc.1
  simp only [fI] at i0 i1 i2 i3 i5 i7 i11 i12 i14 i15 j0 j1 j2
  obtain ⟨b0, i0a, f10, f20, f30, d1, d2, d3, d4, d5⟩ := hc.2.2.2.2.2.2.2.2.1
  refine v_run 2 (pc' := 2) (ls' := [some (.ref (ad 0)), some (.int (zI s)), some (.int (zI n))]) (st' := [.int (zI s), .ref (ad 0)]) rfl ?_
  refine v_callV (My := mX8_lacksSenator) (As := [.int (zI s)]) (rest := []) (mc := 0) (ms := 0) rfl caX8_lacksSenator rfl rfl rfl hc.2.1 rfl rfl (k_lacksSenator G _ s hA hc hok hs) rfl rfl (Nat.le_of_ble_eq_true rfl) (by omega) ?_
  rintro _ _ ⟨rfl, rfl⟩
  refine v_run 0 (pc' := 5) (ls' := [some (.ref (ad 0)), some (.int (zI s)), some (.int (zI n))]) (st' := [.int (zb (decide (s < 0 ∨ ↑(σ 1 5 0) ≤ s)))]) rfl ?_
  refine v_if_eq rfl (fun c5 => ?_) (fun c5 => ?_)
  · rw [zb_0, decide_eq_false_iff_not] at c5
    refine v_run 2 (pc' := 17) (ls' := [some (.ref (ad 0)), some (.int (zI s)), some (.int (zI n))]) (st' := [.int (zI 60), .int (zI n)]) rfl ?_
    refine v_callS (My := mX8_outside) (As := [.int (zI n), .int (zI 60)]) (rest := []) (mc := 0) (ms := 0) rfl caX8_outside rfl rfl (k_outside G _ n 60 hn ⟨by omega, by omega⟩) rfl rfl (Nat.le_of_ble_eq_true rfl) (by omega) ?_
    rintro _ _ ⟨rfl, rfl⟩
    refine v_run 0 (pc' := 20) (ls' := [some (.ref (ad 0)), some (.int (zI s)), some (.int (zI n))]) (st' := [.int (zb (decide (n < 0 ∨ 60 < n)))]) rfl ?_
    refine v_if_eq rfl (fun c20 => ?_) (fun c20 => ?_)
    · rw [zb_0, decide_eq_false_iff_not] at c20
      obtain ⟨k, rfl⟩ : ∃ z : Nat, s = ↑z := ⟨s.toNat, by omega⟩
      obtain ⟨m, rfl⟩ : ∃ z : Nat, n = ↑z := ⟨n.toNat, by omega⟩
      refine v_run 1 (pc' := 30) (ls' := [some (.ref (ad 0)), some (.int (zI ↑k)), some (.int (zI ↑m))]) (st' := [.ref (ad 0)]) rfl ?_
      refine v_get rfl hc.2.1 rfl ?_
      refine v_run 1 (pc' := 34) (ls' := [some (.ref (ad 0)), some (.int (zI ↑k)), some (.int (zI ↑m))]) (st' := [.ref (ad 0), .ref (ad 138)]) rfl ?_
      refine v_get rfl hc.2.1 rfl ?_
      refine v_run 1 (pc' := 38) (ls' := [some (.ref (ad 0)), some (.int (zI ↑k)), some (.int (zI ↑m))]) (st' := [.ref (ad 0), .ref (ad pl), .ref (ad 138)]) rfl ?_
      refine v_get rfl hc.2.1 rfl ?_
      refine v_run 1 (pc' := 42) (ls' := [some (.ref (ad 0)), some (.int (zI ↑k)), some (.int (zI ↑m))]) (st' := [.int (zI ↑m), .ref (ad 33), .ref (ad pl), .ref (ad 138)]) rfl ?_
      refine v_callV (My := mX1_forMostGood) (As := [.ref (ad pl), .ref (ad 33), .int (zI ↑m)]) (rest := []) (mc := 0) (ms := 0) rfl caX1_forMostGood rfl rfl rfl d1 rfl rfl (k_forMostGood G _ m hA hc hok (by omega)) rfl rfl (Nat.le_of_ble_eq_true rfl) (by omega) ?_
      rintro _ h1 ⟨rfl, f1, f2, j, f2b, f3, E, hw, hr⟩
      have hcg := hgR_c (σ := σ) (q := 0) (W := (wG σ m)) i5 f1 f2
      refine v_run 0 (pc' := 45) (ls' := [some (.ref (ad 0)), some (.int (zI ↑k)), some (.int (zI ↑m))]) (st' := []) rfl ?_
      refine v_run 2 (pc' := 47) (ls' := [some (.ref (ad 0)), some (.int (zI ↑k)), some (.int (zI ↑m))]) (st' := [.ref (ad 0), .ref (ad 0)]) rfl ?_
      refine v_get rfl hw.1.2.1 rfl ?_
      refine v_run 0 (pc' := 50) (ls' := [some (.ref (ad 0)), some (.int (zI ↑k)), some (.int (zI ↑m))]) (st' := [.ref (ad 138), .ref (ad 0)]) rfl ?_
      refine v_get rfl hw.2.2.1.1 rfl ?_
      refine v_run 1 (pc' := 54) (ls' := [some (.ref (ad 0)), some (.int (zI ↑k)), some (.int (zI ↑m))]) (st' := [.int (zI ↑k), .ref (ad 139), .ref (ad 0)]) rfl ?_
      refine v_iaload' rfl hw.2.2.1.2.1 (i := k) rfl (by omega) ?_
      rw [show (zI ↑((hgR σ (0) (wG σ m) f1 f2).2 k) : Int32) = zI ↑((hgC σ 0 (wG σ m)).2 k) from by rw [hcg.2 hsh k (by omega)]]
      refine v_callV (My := mX8_grant) (As := [.int (zI ↑((hgC σ 0 (wG σ m)).2 k))]) (rest := []) (mc := 0) (ms := 0) rfl caX8_grant rfl rfl rfl hw.1.2.1 rfl rfl (k_grant G _ ((zI ↑((hgC σ 0 (wG σ m)).2 k))) hA hw.1 hok) rfl rfl (Nat.le_of_ble_eq_true rfl) (by omega) ?_
      rintro _ h9 ⟨rfl, hc9, hf9⟩
      refine v_run 0 (pc' := 58) (ls' := [some (.ref (ad 0)), some (.int (zI ↑k)), some (.int (zI ↑m))]) (st' := [.int ((zI ↑((hgC σ 0 (wG σ m)).2 k)))]) rfl ?_
      rw [show aHangAt σ ↑k ↑m = (↑((hgC σ 0 (wG σ m)).2 k), 0) from by rw [aHangAt, if_neg c5, if_neg c20]; rfl]
      exact v_iret rfl rfl rfl ⟨rfl, hc9, hw.2.1.tr hf9⟩
    · rw [zb_0, Bool.not_eq_false, decide_eq_true_eq] at c20
      refine v_run 2 (pc' := 25) (ls' := [some (.ref (ad 0)), some (.int (zI s)), some (.int (zI n))]) (st' := [.int (zI 2), .ref (ad 0)]) rfl ?_
      refine v_callV (My := mX8_refuse) (As := [.int (zI 2)]) (rest := []) (mc := 0) (ms := 0) rfl caX8_refuse rfl rfl rfl hc.2.1 rfl rfl (k_refuse G _ 2 hA hc hok) rfl rfl (Nat.le_of_ble_eq_true rfl) (by omega) ?_
      rintro _ h9 ⟨rfl, hc9, hf9⟩
      refine v_run 0 (pc' := 28) (ls' := [some (.ref (ad 0)), some (.int (zI s)), some (.int (zI n))]) (st' := [.int (zI (-1))]) rfl ?_
      rw [show aHangAt σ s n = (-1, 2) from (by rw [aHangAt, if_neg c5, if_pos c20])]
      exact v_iret rfl rfl rfl ⟨rfl, hc9, hf9⟩
  · rw [zb_0, Bool.not_eq_false, decide_eq_true_eq] at c5
    refine v_run 2 (pc' := 10) (ls' := [some (.ref (ad 0)), some (.int (zI s)), some (.int (zI n))]) (st' := [.int (zI 1), .ref (ad 0)]) rfl ?_
    refine v_callV (My := mX8_refuse) (As := [.int (zI 1)]) (rest := []) (mc := 0) (ms := 0) rfl caX8_refuse rfl rfl rfl hc.2.1 rfl rfl (k_refuse G _ 1 hA hc hok) rfl rfl (Nat.le_of_ble_eq_true rfl) (by omega) ?_
    rintro _ h9 ⟨rfl, hc9, hf9⟩
    refine v_run 0 (pc' := 13) (ls' := [some (.ref (ad 0)), some (.int (zI s)), some (.int (zI n))]) (st' := [.int (zI (-1))]) rfl ?_
    rw [show aHangAt σ s n = (-1, 1) from if_pos c5]
    exact v_iret rfl rfl rfl ⟨rfl, hc9, hf9⟩

set_option maxRecDepth 100000 in
set_option maxHeartbeats 400000 in
theorem k_longest (G : ssG) (h : ssH) {ad : Nat → Nat} {pl : Nat} {σ : sT}  (hA : ∀ k l, ad k = ad l → k = l) (hc : CW0 h ad pl σ) (hok : sOk σ)  : ssC G mX8_longest 11 0 0 [.ref (ad 0)] h (cR ad pl (sTr σ (aLongest σ).2) h (.int (zI (aLongest σ).1))) := by
  refine c_of_v okX8_longest (by decide +kernel) (ls := [some (.ref (ad 0))]) rfl (Nat.le_of_ble_eq_true rfl) ?_
  obtain ⟨i0, i1, i2, i3, i5, i7, a4, a6, a8, a9, a10, i11, i12, i14, i15⟩ := id hok.1
  obtain ⟨j0, j1, j2, b3, b4, b5, b6⟩ := id (hok.2.2 3 (by decide))
  have i13 := hok.2.1
  have hpl := hc.1
  simp only [fI] at i0 i1 i2 i3 i5 i7 i11 i12 i14 i15 j0 j1 j2
  obtain ⟨b0, i0a, f10, f20, f30, d1, d2, d3, d4, d5⟩ := hc.2.2.2.2.2.2.2.2.1
  refine v_run 1 (pc' := 1) (ls' := [some (.ref (ad 0))]) (st' := [.ref (ad 0)]) rfl ?_
  refine v_callV (My := mX8_lacksSafe) (As := []) (rest := []) (mc := 0) (ms := 0) rfl caX8_lacksSafe rfl rfl rfl hc.2.1 rfl rfl (k_lacksSafe G _ hA hc hok) rfl rfl (Nat.le_of_ble_eq_true rfl) (by omega) ?_
  rintro _ _ ⟨rfl, rfl⟩
  refine v_run 0 (pc' := 4) (ls' := [some (.ref (ad 0))]) (st' := [.int (zb (decide (σ 1 5 0 = 0)))]) rfl ?_
  refine v_if_eq rfl (fun c4 => ?_) (fun c4 => ?_)
  · rw [zb_0, decide_eq_false_iff_not] at c4
    refine v_run 1 (pc' := 14) (ls' := [some (.ref (ad 0))]) (st' := [.ref (ad 0)]) rfl ?_
    refine v_get rfl hc.2.1 rfl ?_
    refine v_run 1 (pc' := 18) (ls' := [some (.ref (ad 0))]) (st' := [.ref (ad 0), .ref (ad 138)]) rfl ?_
    refine v_get rfl hc.2.1 rfl ?_
    refine v_run 1 (pc' := 22) (ls' := [some (.ref (ad 0))]) (st' := [.ref (ad 0), .ref (ad pl), .ref (ad 138)]) rfl ?_
    refine v_get rfl hc.2.1 rfl ?_
    refine v_run 0 (pc' := 25) (ls' := [some (.ref (ad 0))]) (st' := [.ref (ad 33), .ref (ad pl), .ref (ad 138)]) rfl ?_
    refine v_callV (My := mX1_forLongest) (As := [.ref (ad pl), .ref (ad 33)]) (rest := []) (mc := 0) (ms := 0) rfl caX1_forLongest rfl rfl rfl d1 rfl rfl (k_forLongest G _ hA hc hok) rfl rfl (Nat.le_of_ble_eq_true rfl) (by omega) ?_
    rintro _ h1 ⟨rfl, f1, f2, j, f2b, f3, E, hw, hr⟩
    have hcg := hgR_c (σ := σ) (q := σ 1 0 0) (W := (wL σ)) i5 f1 f2
    refine v_run 0 (pc' := 28) (ls' := [some (.ref (ad 0))]) (st' := []) rfl ?_
    refine v_run 2 (pc' := 30) (ls' := [some (.ref (ad 0))]) (st' := [.ref (ad 0), .ref (ad 0)]) rfl ?_
    refine v_get rfl hw.1.2.1 rfl ?_
    refine v_run 0 (pc' := 33) (ls' := [some (.ref (ad 0))]) (st' := [.ref (ad 138), .ref (ad 0)]) rfl ?_
    refine v_get rfl hw.2.2.1.1 rfl ?_
    refine v_run 0 (pc' := 36) (ls' := [some (.ref (ad 0))]) (st' := [.int (zI (hgR σ (σ 1 0 0) (wL σ) f1 f2).1), .ref (ad 0)]) rfl ?_
    rw [show (zI (hgR σ (σ 1 0 0) (wL σ) f1 f2).1 : Int32) = zI (hgC σ (σ 1 0 0) (wL σ)).1 from by rw [hcg.1]]
    refine v_callV (My := mX8_grant) (As := [.int (zI (hgC σ (σ 1 0 0) (wL σ)).1)]) (rest := []) (mc := 0) (ms := 0) rfl caX8_grant rfl rfl rfl hw.1.2.1 rfl rfl (k_grant G _ ((zI (hgC σ (σ 1 0 0) (wL σ)).1)) hA hw.1 hok) rfl rfl (Nat.le_of_ble_eq_true rfl) (by omega) ?_
    rintro _ h9 ⟨rfl, hc9, hf9⟩
    refine v_run 0 (pc' := 39) (ls' := [some (.ref (ad 0))]) (st' := [.int ((zI (hgC σ (σ 1 0 0) (wL σ)).1))]) rfl ?_
    rw [show aLongest σ = ((hgC σ (σ 1 0 0) (wL σ)).1, 0) from if_neg c4]
    exact v_iret rfl rfl rfl ⟨rfl, hc9, hw.2.1.tr hf9⟩
  · rw [zb_0, Bool.not_eq_false, decide_eq_true_eq] at c4
    refine v_run 2 (pc' := 9) (ls' := [some (.ref (ad 0))]) (st' := [.int (zI 1), .ref (ad 0)]) rfl ?_
    refine v_callV (My := mX8_refuse) (As := [.int (zI 1)]) (rest := []) (mc := 0) (ms := 0) rfl caX8_refuse rfl rfl rfl hc.2.1 rfl rfl (k_refuse G _ 1 hA hc hok) rfl rfl (Nat.le_of_ble_eq_true rfl) (by omega) ?_
    rintro _ h9 ⟨rfl, hc9, hf9⟩
    refine v_run 0 (pc' := 12) (ls' := [some (.ref (ad 0))]) (st' := [.int (zI (-1))]) rfl ?_
    rw [show aLongest σ = (-1, 1) from if_pos c4]
    exact v_iret rfl rfl rfl ⟨rfl, hc9, hf9⟩

set_option maxRecDepth 100000 in
set_option maxHeartbeats 400000 in
theorem k_longestAt (G : ssG) (h : ssH) {ad : Nat → Nat} {pl : Nat} {σ : sT} (s : Int) (hA : ∀ k l, ad k = ad l → k = l) (hc : CW0 h ad pl σ) (hok : sOk σ) (hs : -2147483648 ≤ s ∧ s < 2147483648) (hsh : σ 1 5 0 ≤ σ 1 3 0) : ssC G mX8_longestAt 11 0 0 [.ref (ad 0), .int (zI s)] h (cR ad pl (sTr σ (aLongestAt σ s).2) h (.int (zI (aLongestAt σ s).1))) := by
  refine c_of_v okX8_longestAt (by decide +kernel) (ls := [some (.ref (ad 0)), some (.int (zI s))]) rfl (Nat.le_of_ble_eq_true rfl) ?_
  obtain ⟨i0, i1, i2, i3, i5, i7, a4, a6, a8, a9, a10, i11, i12, i14, i15⟩ := id hok.1
  obtain ⟨j0, j1, j2, b3, b4, b5, b6⟩ := id (hok.2.2 3 (by decide))
  have i13 := hok.2.1
  have hpl := hc.1
  simp only [fI] at i0 i1 i2 i3 i5 i7 i11 i12 i14 i15 j0 j1 j2
  obtain ⟨b0, i0a, f10, f20, f30, d1, d2, d3, d4, d5⟩ := hc.2.2.2.2.2.2.2.2.1
  refine v_run 2 (pc' := 2) (ls' := [some (.ref (ad 0)), some (.int (zI s))]) (st' := [.int (zI s), .ref (ad 0)]) rfl ?_
  refine v_callV (My := mX8_lacksSenator) (As := [.int (zI s)]) (rest := []) (mc := 0) (ms := 0) rfl caX8_lacksSenator rfl rfl rfl hc.2.1 rfl rfl (k_lacksSenator G _ s hA hc hok hs) rfl rfl (Nat.le_of_ble_eq_true rfl) (by omega) ?_
  rintro _ _ ⟨rfl, rfl⟩
  refine v_run 0 (pc' := 5) (ls' := [some (.ref (ad 0)), some (.int (zI s))]) (st' := [.int (zb (decide (s < 0 ∨ ↑(σ 1 5 0) ≤ s)))]) rfl ?_
  refine v_if_eq rfl (fun c5 => ?_) (fun c5 => ?_)
  · rw [zb_0, decide_eq_false_iff_not] at c5
    obtain ⟨k, rfl⟩ : ∃ z : Nat, s = ↑z := ⟨s.toNat, by omega⟩
    refine v_run 1 (pc' := 15) (ls' := [some (.ref (ad 0)), some (.int (zI ↑k))]) (st' := [.ref (ad 0)]) rfl ?_
    refine v_get rfl hc.2.1 rfl ?_
    refine v_run 1 (pc' := 19) (ls' := [some (.ref (ad 0)), some (.int (zI ↑k))]) (st' := [.ref (ad 0), .ref (ad 138)]) rfl ?_
    refine v_get rfl hc.2.1 rfl ?_
    refine v_run 1 (pc' := 23) (ls' := [some (.ref (ad 0)), some (.int (zI ↑k))]) (st' := [.ref (ad 0), .ref (ad pl), .ref (ad 138)]) rfl ?_
    refine v_get rfl hc.2.1 rfl ?_
    refine v_run 0 (pc' := 26) (ls' := [some (.ref (ad 0)), some (.int (zI ↑k))]) (st' := [.ref (ad 33), .ref (ad pl), .ref (ad 138)]) rfl ?_
    refine v_callV (My := mX1_forLongest) (As := [.ref (ad pl), .ref (ad 33)]) (rest := []) (mc := 0) (ms := 0) rfl caX1_forLongest rfl rfl rfl d1 rfl rfl (k_forLongest G _ hA hc hok) rfl rfl (Nat.le_of_ble_eq_true rfl) (by omega) ?_
    rintro _ h1 ⟨rfl, f1, f2, j, f2b, f3, E, hw, hr⟩
    have hcg := hgR_c (σ := σ) (q := σ 1 0 0) (W := (wL σ)) i5 f1 f2
    refine v_run 0 (pc' := 29) (ls' := [some (.ref (ad 0)), some (.int (zI ↑k))]) (st' := []) rfl ?_
    refine v_run 2 (pc' := 31) (ls' := [some (.ref (ad 0)), some (.int (zI ↑k))]) (st' := [.ref (ad 0), .ref (ad 0)]) rfl ?_
    refine v_get rfl hw.1.2.1 rfl ?_
    refine v_run 0 (pc' := 34) (ls' := [some (.ref (ad 0)), some (.int (zI ↑k))]) (st' := [.ref (ad 138), .ref (ad 0)]) rfl ?_
    refine v_get rfl hw.2.2.1.1 rfl ?_
    refine v_run 1 (pc' := 38) (ls' := [some (.ref (ad 0)), some (.int (zI ↑k))]) (st' := [.int (zI ↑k), .ref (ad 139), .ref (ad 0)]) rfl ?_
    refine v_iaload' rfl hw.2.2.1.2.1 (i := k) rfl (by omega) ?_
    rw [show (zI ↑((hgR σ (σ 1 0 0) (wL σ) f1 f2).2 k) : Int32) = zI ↑((hgC σ (σ 1 0 0) (wL σ)).2 k) from by rw [hcg.2 hsh k (by omega)]]
    refine v_callV (My := mX8_grant) (As := [.int (zI ↑((hgC σ (σ 1 0 0) (wL σ)).2 k))]) (rest := []) (mc := 0) (ms := 0) rfl caX8_grant rfl rfl rfl hw.1.2.1 rfl rfl (k_grant G _ ((zI ↑((hgC σ (σ 1 0 0) (wL σ)).2 k))) hA hw.1 hok) rfl rfl (Nat.le_of_ble_eq_true rfl) (by omega) ?_
    rintro _ h9 ⟨rfl, hc9, hf9⟩
    refine v_run 0 (pc' := 42) (ls' := [some (.ref (ad 0)), some (.int (zI ↑k))]) (st' := [.int ((zI ↑((hgC σ (σ 1 0 0) (wL σ)).2 k)))]) rfl ?_
    rw [show aLongestAt σ ↑k = (↑((hgC σ (σ 1 0 0) (wL σ)).2 k), 0) from by rw [aLongestAt, if_neg c5]; rfl]
    exact v_iret rfl rfl rfl ⟨rfl, hc9, hw.2.1.tr hf9⟩
  · rw [zb_0, Bool.not_eq_false, decide_eq_true_eq] at c5
    refine v_run 2 (pc' := 10) (ls' := [some (.ref (ad 0)), some (.int (zI s))]) (st' := [.int (zI 1), .ref (ad 0)]) rfl ?_
    refine v_callV (My := mX8_refuse) (As := [.int (zI 1)]) (rest := []) (mc := 0) (ms := 0) rfl caX8_refuse rfl rfl rfl hc.2.1 rfl rfl (k_refuse G _ 1 hA hc hok) rfl rfl (Nat.le_of_ble_eq_true rfl) (by omega) ?_
    rintro _ h9 ⟨rfl, hc9, hf9⟩
    refine v_run 0 (pc' := 13) (ls' := [some (.ref (ad 0)), some (.int (zI s))]) (st' := [.int (zI (-1))]) rfl ?_
    rw [show aLongestAt σ s = (-1, 1) from if_pos c5]
    exact v_iret rfl rfl rfl ⟨rfl, hc9, hf9⟩

