section SFE
variable {h h' : ssH} {ad : Nat → Nat} {pl po b o o2 i : Nat} {σ σ' τ : sT} {E : pE}
theorem CPlan.cg (e : σ' 1 = σ 1) (hp : CPlan h ad pl σ) : CPlan h ad pl σ' := by unfold CPlan fI at *; rw [e]; exact hp
theorem CMom.cg (e : σ' o2 = σ o) (hq : CMom h ad b σ o) : CMom h ad b σ' o2 := by unfold CMom fI at *; rw [e]; exact hq
theorem CUndo.cg (e4 : σ' 4 = σ 4) (em : ∀ m, m < 16 → σ' (10 + m) = σ (10 + m)) (hu : CUndo h ad σ) : CUndo h ad σ' := ⟨by rw [e4]; exact hu.1, hu.2.1, fun m hm => (hu.2.2 m hm).cg (em m hm)⟩
theorem CImg.cg (em : ∀ m, m < 3 → σ' (30 + m) = σ (30 + m)) (hu : CImg h ad σ) : CImg h ad σ' := ⟨hu.1, fun m hm => (hu.2 m hm).cg (em m hm)⟩
theorem CUndo.ag (hu : CUndo h ad σ) (ha : ∀ k, 38 ≤ k → k < 120 → h' (ad k) = h (ad k)) : CUndo h' ad σ := ⟨(ha 38 (by omega) (by omega)).trans hu.1, (ha 39 (by omega) (by omega)).trans hu.2.1, fun m hm => (hu.2.2 m hm).ag (fun k h1 h2 => ha k (by omega) (by omega))⟩
theorem CImg.ag (hu : CImg h ad σ) (ha : ∀ k, 120 ≤ k → k < 136 → h' (ad k) = h (ad k)) : CImg h' ad σ := ⟨(ha 120 (by omega) (by omega)).trans hu.1, fun m hm => (hu.2 m hm).ag (fun k h1 h2 => ha k (by omega) (by omega))⟩
theorem CW0.ag (hc : CW0 h ad pl σ) (ha : ∀ k, k = 0 ∨ (pl ≤ k ∧ k < pl + 11) ∨ (33 ≤ k ∧ k < 149) → h' (ad k) = h (ad k)) : CW0 h' ad pl σ := by
  obtain ⟨c0, c1, c2, c3, c4, c5, c6, c7, c8, c9⟩ := hc
  exact ⟨c0, (ha 0 (by omega)).trans c1, c2.ag (fun k _ _ => ha k (by omega)), c3.ag (fun k _ _ => ha k (by omega)), c4.ag (fun k _ _ => ha k (by omega)), c5.ag (fun k _ _ => ha k (by omega)), c6.ag (fun k _ _ => ha k (by omega)), c7.ag (fun k _ _ => ha k (by omega)), c8.ag (fun k _ _ => ha k (by omega)), c9.ag (fun k _ _ => ha k (by omega))⟩
theorem CW0.x0 (hA : ∀ k l, ad k = ad l → k = l) (hc : CW0 h ad pl σ) (e : ∀ o, o ≠ 0 → σ' o = σ o) : CW0 (hset h (ad 0) (.inr (8, obX ad pl σ'))) ad pl σ' := by
  obtain ⟨c0, c1, c2, c3, c4, c5, c6, c7, c8, c9⟩ := hc
  exact ⟨c0, hset_self _ _ _, (c2.cg (e 1 (by omega))).fr hA (by omega), (c3.cg (e 2 (by omega))).fr hA (by omega), (c4.cg (e 3 (by omega))).fr hA (by omega), (c5.cg (e 4 (by omega)) (fun m _ => e _ (by omega))).fr hA (by omega), (c6.cg (fun m _ => e _ (by omega))).fr hA (by omega), c7.fr hA (by omega), c8.fr hA (by omega), c9.fr hA (by omega)⟩
theorem PW.ag (hw : PW h ad po E τ i) (ha : ∀ k, (1 ≤ k ∧ k ≤ 10) ∨ (po ≤ k ∧ k < po + 11) → h' (ad k) = h (ad k)) : PW h' ad po E τ i := by
  obtain ⟨p1, p2, ⟨a3, a4, a5, a6, a7⟩, ⟨b8, b9, b10⟩, p5, p6⟩ := hw
  exact ⟨(ha 1 (by omega)).trans p1, (ha 2 (by omega)).trans p2, ⟨(ha 3 (by omega)).trans a3, (ha 4 (by omega)).trans a4, (ha 5 (by omega)).trans a5, (ha 6 (by omega)).trans a6, (ha 7 (by omega)).trans a7⟩, ⟨(ha 8 (by omega)).trans b8, (ha 9 (by omega)).trans b9, (ha 10 (by omega)).trans b10⟩, p5.ag (fun k _ _ => ha k (by omega)), p6.ag (fun k _ _ => ha k (by omega))⟩
/-- the plan that was heard becomes the plan -/
def xch (σ τ : sT) : sT := fun o => if o = 1 then τ 1 else if o = 2 then τ 2 else σ o
def sN3 (σ : sT) : sT := fun o => if o = 3 then σ 2 else σ o
theorem xch_o (σ τ : sT) {o : Nat} (h1 : o ≠ 1) (h2 : o ≠ 2) : xch σ τ o = σ o := (if_neg h1).trans (if_neg h2)
theorem xch_CW (hA : ∀ k l, ad k = ad l → k = l) (hc : CW0 h ad pl σ) (hw : PW h ad po E τ i) (hpl : po + pl = 33) : CW0 (hset (hset h (ad 1) (.inr (3, obP ad pl τ))) (ad 0) (.inr (8, obX ad po (xch σ τ)))) ad po (xch σ τ) := by
  obtain ⟨c0, c1, c2, c3, c4, c5, c6, c7, c8, c9⟩ := hc
  obtain ⟨p1, p2, -, -, p5, p6⟩ := hw
  have hk : ∀ k, 2 ≤ k → hset (hset h (ad 1) (.inr (3, obP ad pl τ))) (ad 0) (.inr (8, obX ad po (xch σ τ))) (ad k) = h (ad k) := fun k hk => (hset_ne _ _ (ad_ne hA (by omega))).trans (hset_ne _ _ (ad_ne hA (by omega)))
  exact ⟨by omega, hset_self _ _ _, (p5.cg (σ' := xch σ τ) rfl).ag (fun k _ _ => hk k (by omega)), (p6.cg (σ' := xch σ τ) (o2 := 2) rfl).ag (fun k _ _ => hk k (by omega)), (c4.cg (σ' := xch σ τ) (o2 := 3) rfl).ag (fun k _ _ => hk k (by omega)), (CUndo.cg (σ := σ) (σ' := xch σ τ) rfl (fun m _ => xch_o σ τ (by omega) (by omega)) c5).ag (fun k _ _ => hk k (by omega)), (CImg.cg (σ := σ) (σ' := xch σ τ) (fun m _ => xch_o σ τ (by omega) (by omega)) c6).ag (fun k _ _ => hk k (by omega)), c7.ag (fun k _ _ => hk k (by omega)), c8.ag (fun k _ _ => hk k (by omega)), c9.ag (fun k _ _ => hk k (by omega))⟩
theorem xch_PW (hA : ∀ k l, ad k = ad l → k = l) (hc : CW0 h ad pl σ) (hw : PW h ad po E τ i) (e : ssE) : PW (hset (hset h (ad 1) (.inr (3, obP ad pl τ))) (ad 0) e) ad pl E (xch τ σ) i := by
  obtain ⟨c0, c1, c2, c3, -⟩ := hc
  obtain ⟨p1, p2, ⟨a3, a4, a5, a6, a7⟩, ⟨b8, b9, b10⟩, p5, p6⟩ := hw
  have hk : ∀ k, 2 ≤ k → hset (hset h (ad 1) (.inr (3, obP ad pl τ))) (ad 0) e (ad k) = h (ad k) := fun k hk => (hset_ne _ _ (ad_ne hA (by omega))).trans (hset_ne _ _ (ad_ne hA (by omega)))
  exact ⟨(hset_ne _ _ (ad_ne hA (by omega))).trans (hset_self _ _ _), (hk 2 (by omega)).trans p2, ⟨(hk 3 (by omega)).trans a3, (hk 4 (by omega)).trans a4, (hk 5 (by omega)).trans a5, (hk 6 (by omega)).trans a6, (hk 7 (by omega)).trans a7⟩, ⟨(hk 8 (by omega)).trans b8, (hk 9 (by omega)).trans b9, (hk 10 (by omega)).trans b10⟩, (c2.cg (σ' := xch τ σ) rfl).ag (fun k _ _ => hk k (by omega)), (c3.cg (σ' := xch τ σ) (o2 := 2) rfl).ag (fun k _ _ => hk k (by omega))⟩
theorem xch_ok (hok : sOk σ) (ht : TOk τ) : sOk (xch σ τ) := ⟨ht.plan, ht 1 13 0 (by omega), fun o ho => by
  by_cases e : o = 2
  · subst e; exact ht.mom.1
  · have := hok.2.2 o ho
    unfold fI at *
    rw [xch_o σ τ ho.1 e]
    exact this⟩
theorem xch_z (hz : sZ σ) (ht : TOk τ) : sZ (xch σ τ) := fun o ho k n hk => by
  by_cases e : o = 2
  · subst e; exact ht.mom.2.2.2 k n (by omega)
  · rw [xch_o σ τ ho e]; exact hz o ho k n hk
theorem sN3_ok (hok : sOk σ) : sOk (sN3 σ) := ⟨hok.1, hok.2.1, fun o ho => by
  by_cases e : o = 3
  · subst e; exact hok.2.2 2 (by omega)
  · have := hok.2.2 o ho
    unfold fI at *
    rw [show sN3 σ o = σ o from if_neg e]
    exact this⟩
theorem sN3_z (hz : sZ σ) : sZ (sN3 σ) := fun o ho k n hk => by
  by_cases e : o = 3
  · subst e; exact hz 2 (by omega) k n hk
  · rw [show sN3 σ o = σ o from if_neg e]; exact hz o ho k n hk
theorem tU0_ok (hok : sOk σ) {k v : Nat} (hk : k = 5 ∧ v = 0 ∨ k = 7 ∨ k = 8) : sOk (tU σ 0 k 0 v) := ⟨hok.1, hok.2.1, fun o ho => by
  have hm := hok.2.2 o ho
  have e : ∀ b c, b < 7 → tU σ 0 k 0 v o b c = σ o b c ∨ (b = 5 ∧ tU σ 0 k 0 v o b c = 0) := fun b c hb => by
    simp only [tU]
    by_cases g : o = 0 ∧ b = k ∧ c = 0
    · rw [if_pos g]; exact Or.inr (by omega)
    · rw [if_neg g]; exact Or.inl rfl
  obtain ⟨m0, m1, m2, m3, m4, m5, m6⟩ := hm
  unfold fI at *
  have f : ∀ b c, b < 7 → b ≠ 5 → tU σ 0 k 0 v o b c = σ o b c := fun b c h1 h2 => (e b c h1).elim id (fun z => absurd z.1 h2)
  refine ⟨by show tU σ 0 k 0 v o 0 0 ≤ 99; rw [f _ _ (by omega) (by omega)]; exact m0, by show tU σ 0 k 0 v o 1 0 ≤ 9; rw [f _ _ (by omega) (by omega)]; exact m1, by show tU σ 0 k 0 v o 2 0 ≤ 65536; rw [f _ _ (by omega) (by omega)]; exact m2, fun c => by rw [f _ _ (by omega) (by omega)]; exact m3 c, fun c => by rw [f _ _ (by omega) (by omega)]; exact m4 c, fun c => ?_, fun c => by rw [f _ _ (by omega) (by omega)]; exact m6 c⟩
  rcases e 5 c (by omega) with g | ⟨-, g⟩
  · rw [g]; exact m5 c
  · rw [g]; omega⟩
theorem tU0_z (hz : sZ σ) {k v : Nat} (hk : k = 5 ∨ k = 7 ∨ k = 8) : sZ (tU σ 0 k 0 v) := fun o ho b n hb => by
  simp only [tU]
  rw [if_neg (by omega)]
  exact hz o ho b n hb
end SFE
set_option maxRecDepth 100000 in
set_option maxHeartbeats 400000 in
theorem c_exch (G : ssG) (h : ssH) {ad : Nat → Nat} {pl po : Nat} {τ : sT} (hp : h (ad 1) = some (.inr (3, obP ad po τ))) : ssC G mX3_exchange 0 0 0 [.ref (ad 1), .ref (ad pl)] h (fun r h' => r = some (.ref (ad po)) ∧ hset h (ad 1) (.inr (3, obP ad pl τ)) = h') := by
  refine c_of_v okX3_exchange (by decide +kernel) (ls := [some (.ref (ad 1)), some (.ref (ad pl)), none]) rfl (Nat.le_of_ble_eq_true rfl) ?_
  refine v_run 1 (pc' := 1) (ls' := [some (.ref (ad 1)), some (.ref (ad pl)), none]) (st' := [.ref (ad 1)]) rfl ?_
  refine v_get rfl hp rfl ?_
  refine v_run 3 (pc' := 7) (ls' := [some (.ref (ad 1)), some (.ref (ad pl)), some (.ref (ad po))]) (st' := [.ref (ad pl), .ref (ad 1)]) rfl ?_
  refine v_put rfl hp rfl rfl (Nat.le_of_ble_eq_true rfl) ?_
  rw [show (obP ad po τ).set 3 (.ref (ad pl)) = obP ad pl τ from rfl]
  refine v_run 1 (pc' := 11) (ls' := [some (.ref (ad 1)), some (.ref (ad pl)), some (.ref (ad po))]) (st' := [.ref (ad po)]) rfl ?_
  exact v_aret rfl rfl ⟨rfl, rfl⟩

