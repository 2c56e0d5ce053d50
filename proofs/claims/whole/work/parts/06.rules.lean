section SSC
variable {G : ssG} {M : ssM} {D mc ms : Nat} {Q : Option Value → ssH → Prop} {pc pc' : Nat} {ls ls' : List (Option Value)} {st st' : List Value} {h : ssH} {r0 : List Nat} {v0 : Value}
def srun (M : ssM) : Nat → Nat → List (Option Value) → List Value → Option (Nat × List (Option Value) × List Value)
  | 0, pc, ls, st => some (pc, ls, st)
  | n + 1, pc, ls, st => match sst M pc ls st with
    | some (a, b, c) => srun M n a b c
    | none => none
theorem v_run (n : Nat) (hs : srun M n pc ls st = some (pc', ls', st')) (kk : ssV G M D mc ms Q pc' ls' st' h) : ssV G M D mc ms Q pc ls st h := by
  induction n generalizing pc ls st with
  | zero => simp only [srun, Option.some.injEq, Prod.mk.injEq] at hs; obtain ⟨rfl, rfl, rfl⟩ := hs; exact kk
  | succ n ih =>
    simp only [srun] at hs
    split at hs
    · rename_i a b c hq
      exact sst_ok hq (ih hs)
    · cases hs
theorem v_mono {D' mc' ms' : Nat} (hD : D' ≤ D) (hm : mc' ≤ mc) (hs : ms' ≤ ms) (kk : ssV G M D' mc' ms' Q pc ls st h) : ssV G M D mc ms Q pc ls st h := by
  intro p e s m args below meth c R H locs cells slots MC MS la hC hR hW hS hL
  exact kk p e s m args below meth c R H locs cells slots MC MS la hC ⟨by omega, by omega, by omega, by omega, by omega, by omega⟩ hW hS hL
theorem v_forget {ls2 : List (Option Value)} (hs : ∀ q ∈ prs ls2 0, q ∈ prs ls 0) (kk : ssV G M D mc ms Q pc ls2 st h) : ssV G M D mc ms Q pc ls st h := by
  intro p e s m args below meth c R H locs cells slots MC MS la hC hR hW hS hL
  exact kk p e s m args below meth c R H locs cells slots MC MS la hC hR hW hS (lv_fewer hL hs)
/-- the returns -/
theorem v_iret {ty : FieldType} {x : Int32} (hl : ssLk M pc = some (.ireturn, 1, r0, v0)) (hr : ssRet M = some ty) (hn : narrow ty (.int x) = .int x) (hq : Q (some (.int x)) h) : ssV G M D mc ms Q pc ls [.int x] h := by
  intro p e s m args below meth c R H locs cells slots MC MS la hC hR hW hS hL
  obtain ⟨hx, hb, hrt, -, -, -, hlocks, -, -, -, -, hok⟩ := hC
  refine W.widen (k := MC) (n := MS) (by omega) (by omega) ?_
  exact W.zret hx hb (hrt.trans hr) hn (fun t ht _ => ⟨⟨_, h, rfl, hq, by rw [ht]; exact hW⟩, hS.F ht⟩) hS.2.2 (ssLk_ok hok hl).1 hlocks
theorem v_lret {x : Int64} (hl : ssLk M pc = some (.lreturn, 1, r0, v0)) (hr : ssRet M = some .long) (hq : Q (some (.long x)) h) : ssV G M D mc ms Q pc ls [.long x] h := by
  intro p e s m args below meth c R H locs cells slots MC MS la hC hR hW hS hL
  obtain ⟨hx, hb, hrt, -, -, -, hlocks, -, -, -, -, hok⟩ := hC
  refine W.widen (k := MC) (n := MS) (by omega) (by omega) ?_
  exact W.lret hx hb (hrt.trans hr) (fun t ht _ => ⟨⟨_, h, rfl, hq, by rw [ht]; exact hW⟩, hS.F ht⟩) hS.2.2 (ssLk_ok hok hl).1 hlocks
theorem v_aret {ty : String} {x : Nat} (hl : ssLk M pc = some (.areturn, 1, r0, v0)) (hr : ssRet M = some (.object ty)) (hq : Q (some (.ref x)) h) : ssV G M D mc ms Q pc ls [.ref x] h := by
  intro p e s m args below meth c R H locs cells slots MC MS la hC hR hW hS hL
  obtain ⟨hx, hb, hrt, -, -, -, hlocks, -, -, -, -, hok⟩ := hC
  refine W.widen (k := MC) (n := MS) (by omega) (by omega) ?_
  exact W.aret hx hb (hrt.trans hr) (Or.inl ⟨_, rfl⟩) (Or.inr ⟨_, rfl⟩) (fun t ht _ => ⟨⟨_, h, rfl, hq, by rw [ht]; exact hW⟩, hS.F ht⟩) hS.2.2 (ssLk_ok hok hl).1 hlocks
theorem v_vret (hl : ssLk M pc = some (.return_, 1, r0, v0)) (hr : ssRet M = none) (hq : Q none h) : ssV G M D mc ms Q pc ls [] h := by
  intro p e s m args below meth c R H locs cells slots MC MS la hC hR hW hS hL
  obtain ⟨hx, hb, hrt, -, -, -, hlocks, -, -, -, -, hok⟩ := hC
  refine W.widen (k := MC) (n := MS) (by omega) (by omega) ?_
  exact W.vret hx hb (hrt.trans hr) (fun t ht _ => ⟨⟨_, h, rfl, hq, by rw [ht]; exact hW⟩, hS.F ht⟩) hS.2.2 (ssLk_ok hok hl).1 hlocks
theorem v_icmp_eq {x y : Int32} {off : Int} {t : Nat} (hl : ssLk M pc = some (.if_icmp .eq off, 3, [t], v0)) (kt : x = y → ssV G M D mc ms Q t ls st h) (kf : ¬ x = y → ssV G M D mc ms Q (pc + 3) ls st h) : ssV G M D mc ms Q pc ls (.int y :: .int x :: st) h := by
  intro p e s m args below meth c R H locs cells slots MC MS la hC hR hW hS hL
  have hok := hC.2.2.2.2.2.2.2.2.2.2.2
  exact lv_icmp_eq hC.1 hC.2.1 (ssLk_ok hok hl).1 (of_decide_eq_true (ssLk_ok hok hl).2) (fun q => kt q p e s m args below meth c R H locs cells slots MC MS la hC hR hW hS hL) (fun q => kf q p e s m args below meth c R H locs cells slots MC MS la hC hR hW hS hL)
theorem v_if_eq {x : Int32} {off : Int} {t : Nat} (hl : ssLk M pc = some (.ifCond .eq off, 3, [t], v0)) (kt : x = 0 → ssV G M D mc ms Q t ls st h) (kf : ¬ x = 0 → ssV G M D mc ms Q (pc + 3) ls st h) : ssV G M D mc ms Q pc ls (.int x :: st) h := by
  intro p e s m args below meth c R H locs cells slots MC MS la hC hR hW hS hL
  have hok := hC.2.2.2.2.2.2.2.2.2.2.2
  exact lv_if_eq hC.1 hC.2.1 (ssLk_ok hok hl).1 (of_decide_eq_true (ssLk_ok hok hl).2) (fun q => kt q p e s m args below meth c R H locs cells slots MC MS la hC hR hW hS hL) (fun q => kf q p e s m args below meth c R H locs cells slots MC MS la hC hR hW hS hL)
theorem v_icmp_ne {x y : Int32} {off : Int} {t : Nat} (hl : ssLk M pc = some (.if_icmp .ne off, 3, [t], v0)) (kt : ¬ x = y → ssV G M D mc ms Q t ls st h) (kf : x = y → ssV G M D mc ms Q (pc + 3) ls st h) : ssV G M D mc ms Q pc ls (.int y :: .int x :: st) h := by
  intro p e s m args below meth c R H locs cells slots MC MS la hC hR hW hS hL
  have hok := hC.2.2.2.2.2.2.2.2.2.2.2
  exact lv_icmp_ne hC.1 hC.2.1 (ssLk_ok hok hl).1 (of_decide_eq_true (ssLk_ok hok hl).2) (fun q => kt q p e s m args below meth c R H locs cells slots MC MS la hC hR hW hS hL) (fun q => kf q p e s m args below meth c R H locs cells slots MC MS la hC hR hW hS hL)
theorem v_if_ne {x : Int32} {off : Int} {t : Nat} (hl : ssLk M pc = some (.ifCond .ne off, 3, [t], v0)) (kt : ¬ x = 0 → ssV G M D mc ms Q t ls st h) (kf : x = 0 → ssV G M D mc ms Q (pc + 3) ls st h) : ssV G M D mc ms Q pc ls (.int x :: st) h := by
  intro p e s m args below meth c R H locs cells slots MC MS la hC hR hW hS hL
  have hok := hC.2.2.2.2.2.2.2.2.2.2.2
  exact lv_if_ne hC.1 hC.2.1 (ssLk_ok hok hl).1 (of_decide_eq_true (ssLk_ok hok hl).2) (fun q => kt q p e s m args below meth c R H locs cells slots MC MS la hC hR hW hS hL) (fun q => kf q p e s m args below meth c R H locs cells slots MC MS la hC hR hW hS hL)
theorem v_icmp_lt {x y : Int32} {off : Int} {t : Nat} (hl : ssLk M pc = some (.if_icmp .lt off, 3, [t], v0)) (kt : x < y → ssV G M D mc ms Q t ls st h) (kf : ¬ x < y → ssV G M D mc ms Q (pc + 3) ls st h) : ssV G M D mc ms Q pc ls (.int y :: .int x :: st) h := by
  intro p e s m args below meth c R H locs cells slots MC MS la hC hR hW hS hL
  have hok := hC.2.2.2.2.2.2.2.2.2.2.2
  exact lv_icmp_lt hC.1 hC.2.1 (ssLk_ok hok hl).1 (of_decide_eq_true (ssLk_ok hok hl).2) (fun q => kt q p e s m args below meth c R H locs cells slots MC MS la hC hR hW hS hL) (fun q => kf q p e s m args below meth c R H locs cells slots MC MS la hC hR hW hS hL)
theorem v_if_lt {x : Int32} {off : Int} {t : Nat} (hl : ssLk M pc = some (.ifCond .lt off, 3, [t], v0)) (kt : x < 0 → ssV G M D mc ms Q t ls st h) (kf : ¬ x < 0 → ssV G M D mc ms Q (pc + 3) ls st h) : ssV G M D mc ms Q pc ls (.int x :: st) h := by
  intro p e s m args below meth c R H locs cells slots MC MS la hC hR hW hS hL
  have hok := hC.2.2.2.2.2.2.2.2.2.2.2
  exact lv_if_lt hC.1 hC.2.1 (ssLk_ok hok hl).1 (of_decide_eq_true (ssLk_ok hok hl).2) (fun q => kt q p e s m args below meth c R H locs cells slots MC MS la hC hR hW hS hL) (fun q => kf q p e s m args below meth c R H locs cells slots MC MS la hC hR hW hS hL)
theorem v_icmp_ge {x y : Int32} {off : Int} {t : Nat} (hl : ssLk M pc = some (.if_icmp .ge off, 3, [t], v0)) (kt : y ≤ x → ssV G M D mc ms Q t ls st h) (kf : ¬ y ≤ x → ssV G M D mc ms Q (pc + 3) ls st h) : ssV G M D mc ms Q pc ls (.int y :: .int x :: st) h := by
  intro p e s m args below meth c R H locs cells slots MC MS la hC hR hW hS hL
  have hok := hC.2.2.2.2.2.2.2.2.2.2.2
  exact lv_icmp_ge hC.1 hC.2.1 (ssLk_ok hok hl).1 (of_decide_eq_true (ssLk_ok hok hl).2) (fun q => kt q p e s m args below meth c R H locs cells slots MC MS la hC hR hW hS hL) (fun q => kf q p e s m args below meth c R H locs cells slots MC MS la hC hR hW hS hL)
theorem v_if_ge {x : Int32} {off : Int} {t : Nat} (hl : ssLk M pc = some (.ifCond .ge off, 3, [t], v0)) (kt : 0 ≤ x → ssV G M D mc ms Q t ls st h) (kf : ¬ 0 ≤ x → ssV G M D mc ms Q (pc + 3) ls st h) : ssV G M D mc ms Q pc ls (.int x :: st) h := by
  intro p e s m args below meth c R H locs cells slots MC MS la hC hR hW hS hL
  have hok := hC.2.2.2.2.2.2.2.2.2.2.2
  exact lv_if_ge hC.1 hC.2.1 (ssLk_ok hok hl).1 (of_decide_eq_true (ssLk_ok hok hl).2) (fun q => kt q p e s m args below meth c R H locs cells slots MC MS la hC hR hW hS hL) (fun q => kf q p e s m args below meth c R H locs cells slots MC MS la hC hR hW hS hL)
theorem v_icmp_gt {x y : Int32} {off : Int} {t : Nat} (hl : ssLk M pc = some (.if_icmp .gt off, 3, [t], v0)) (kt : y < x → ssV G M D mc ms Q t ls st h) (kf : ¬ y < x → ssV G M D mc ms Q (pc + 3) ls st h) : ssV G M D mc ms Q pc ls (.int y :: .int x :: st) h := by
  intro p e s m args below meth c R H locs cells slots MC MS la hC hR hW hS hL
  have hok := hC.2.2.2.2.2.2.2.2.2.2.2
  exact lv_icmp_gt hC.1 hC.2.1 (ssLk_ok hok hl).1 (of_decide_eq_true (ssLk_ok hok hl).2) (fun q => kt q p e s m args below meth c R H locs cells slots MC MS la hC hR hW hS hL) (fun q => kf q p e s m args below meth c R H locs cells slots MC MS la hC hR hW hS hL)
theorem v_if_gt {x : Int32} {off : Int} {t : Nat} (hl : ssLk M pc = some (.ifCond .gt off, 3, [t], v0)) (kt : 0 < x → ssV G M D mc ms Q t ls st h) (kf : ¬ 0 < x → ssV G M D mc ms Q (pc + 3) ls st h) : ssV G M D mc ms Q pc ls (.int x :: st) h := by
  intro p e s m args below meth c R H locs cells slots MC MS la hC hR hW hS hL
  have hok := hC.2.2.2.2.2.2.2.2.2.2.2
  exact lv_if_gt hC.1 hC.2.1 (ssLk_ok hok hl).1 (of_decide_eq_true (ssLk_ok hok hl).2) (fun q => kt q p e s m args below meth c R H locs cells slots MC MS la hC hR hW hS hL) (fun q => kf q p e s m args below meth c R H locs cells slots MC MS la hC hR hW hS hL)
theorem v_icmp_le {x y : Int32} {off : Int} {t : Nat} (hl : ssLk M pc = some (.if_icmp .le off, 3, [t], v0)) (kt : x ≤ y → ssV G M D mc ms Q t ls st h) (kf : ¬ x ≤ y → ssV G M D mc ms Q (pc + 3) ls st h) : ssV G M D mc ms Q pc ls (.int y :: .int x :: st) h := by
  intro p e s m args below meth c R H locs cells slots MC MS la hC hR hW hS hL
  have hok := hC.2.2.2.2.2.2.2.2.2.2.2
  exact lv_icmp_le hC.1 hC.2.1 (ssLk_ok hok hl).1 (of_decide_eq_true (ssLk_ok hok hl).2) (fun q => kt q p e s m args below meth c R H locs cells slots MC MS la hC hR hW hS hL) (fun q => kf q p e s m args below meth c R H locs cells slots MC MS la hC hR hW hS hL)
theorem v_if_le {x : Int32} {off : Int} {t : Nat} (hl : ssLk M pc = some (.ifCond .le off, 3, [t], v0)) (kt : x ≤ 0 → ssV G M D mc ms Q t ls st h) (kf : ¬ x ≤ 0 → ssV G M D mc ms Q (pc + 3) ls st h) : ssV G M D mc ms Q pc ls (.int x :: st) h := by
  intro p e s m args below meth c R H locs cells slots MC MS la hC hR hW hS hL
  have hok := hC.2.2.2.2.2.2.2.2.2.2.2
  exact lv_if_le hC.1 hC.2.1 (ssLk_ok hok hl).1 (of_decide_eq_true (ssLk_ok hok hl).2) (fun q => kt q p e s m args below meth c R H locs cells slots MC MS la hC hR hW hS hL) (fun q => kf q p e s m args below meth c R H locs cells slots MC MS la hC hR hW hS hL)
theorem v_idiv {x y : Int32} (hl : ssLk M pc = some (.idiv, 1, r0, v0)) (hne : ¬ y = 0) (kk : ssV G M D mc ms Q (pc + 1) ls (.int (x / y) :: st) h) : ssV G M D mc ms Q pc ls (.int y :: .int x :: st) h :=
  v_lift (fun p e s m args below meth c R H locs cells slots Q' la hx hb ho ht hok hL k => lv_idiv hx hb (ssLk_ok hok hl).1 hne k) kk
theorem v_irem {x y : Int32} (hl : ssLk M pc = some (.irem, 1, r0, v0)) (hne : ¬ y = 0) (kk : ssV G M D mc ms Q (pc + 1) ls (.int (x - x / y * y) :: st) h) : ssV G M D mc ms Q pc ls (.int y :: .int x :: st) h :=
  v_lift (fun p e s m args below meth c R H locs cells slots Q' la hx hb ho ht hok hL k => lv_irem hx hb (ssLk_ok hok hl).1 hne k) kk
theorem v_ldiv {x y : Int64} (hl : ssLk M pc = some (.ldiv, 1, r0, v0)) (hne : ¬ y = 0) (kk : ssV G M D mc ms Q (pc + 1) ls (.long (x / y) :: st) h) : ssV G M D mc ms Q pc ls (.long y :: .long x :: st) h :=
  v_lift (fun p e s m args below meth c R H locs cells slots Q' la hx hb ho ht hok hL k => lv_ldiv hx hb (ssLk_ok hok hl).1 hne k) kk
theorem v_lrem {x y : Int64} (hl : ssLk M pc = some (.lrem, 1, r0, v0)) (hne : ¬ y = 0) (kk : ssV G M D mc ms Q (pc + 1) ls (.long (x - x / y * y) :: st) h) : ssV G M D mc ms Q pc ls (.long y :: .long x :: st) h :=
  v_lift (fun p e s m args below meth c R H locs cells slots Q' la hx hb ho ht hok hL k => lv_lrem hx hb (ssLk_ok hok hl).1 hne k) kk
theorem v_tabOut {x : Int32} {dflt lo hi : Int} {offs : Array Int} {len t : Nat} (hl : ssLk M pc = some (.tableswitch dflt lo hi offs, len, r0, v0)) (hx0 : x.toInt < lo ∨ hi < x.toInt) (ht : (pc : Int) + dflt = (t : Int)) (kk : ssV G M D mc ms Q t ls st h) : ssV G M D mc ms Q pc ls (.int x :: st) h :=
  v_lift (fun p e s m args below meth c R H locs cells slots Q' la hx hb ho hts hok hL k => lv_tableOut hx hb (ssLk_ok hok hl).1 hx0 ht k) kk
theorem v_tabIn {x : Int32} {dflt lo hi off : Int} {offs : Array Int} {len t : Nat} (hl : ssLk M pc = some (.tableswitch dflt lo hi offs, len, r0, v0)) (h1 : ¬ x.toInt < lo) (h2 : ¬ hi < x.toInt) (ho : offs[(x.toInt - lo).toNat]? = some off) (ht : (pc : Int) + off = (t : Int)) (kk : ssV G M D mc ms Q t ls st h) : ssV G M D mc ms Q pc ls (.int x :: st) h :=
  v_lift (fun p e s m args below meth c R H locs cells slots Q' la hx hb ho' hts hok hL k => lv_tableIn hx hb (ssLk_ok hok hl).1 h1 h2 ho ht k) kk
theorem v_ldcS {i j : Nat} (hl : ssLk M pc = some (.ldc i, 2, [j], .null)) (kk : ssV G M D mc ms Q (pc + 2) ls (.ref (gK G j) :: st) h) : ssV G M D mc ms Q pc ls st h := by
  intro p e s m args below meth c R H locs cells slots MC MS la hC hR hW hS hL
  have hok := hC.2.2.2.2.2.2.2.2.2.2.2
  have hX := hC.2.2.2.2.2.2.2.2.2.1
  have hm := of_decide_eq_true (ssLk_ok hok hl).2
  exact va_ldcS hC.1 hC.2.1 hC.2.2.2.2.1 (hX.2.1 _ hm) (ssLk_ok hok hl).1 (kk p e s m args below meth c R H locs cells slots MC MS la hC hR hW hS hL)
/-- the heap's cells -/
theorem ssWd_set {ws : va_W} {a i : Nat} {e0 : va_E} {e : ssE} (hw : ∀ b f, h b = some f → ∃ i : Nat, ws[i]? = some (b, ce G f)) (hi : ws[i]? = some (a, e0)) (hD : va_D (gA G) ws) : ∀ b f, hset h a e b = some f → ∃ j : Nat, (ws.set i (a, ce G e))[j]? = some (b, ce G f) := by
  intro b f hb
  have hlt := (List.getElem?_eq_some_iff.mp hi).1
  by_cases hba : b = a
  · subst hba
    rw [hset_self] at hb
    cases hb
    exact ⟨i, by rw [List.getElem?_set_self hlt]⟩
  · rw [hset_ne _ _ hba] at hb
    obtain ⟨j, hj⟩ := hw b f hb
    have hij : i ≠ j := by
      intro q
      subst q
      rw [hi] at hj
      cases hj
      exact hba rfl
    exact ⟨j, by rw [List.getElem?_set_ne hij]; exact hj⟩
theorem ssWd_push {ws : va_W} {a : Nat} {e : ssE} (hw : ∀ b f, h b = some f → ∃ i : Nat, ws[i]? = some (b, ce G f)) : ∀ b f, hset h a e b = some f → ∃ j : Nat, (ws ++ [(a, ce G e)])[j]? = some (b, ce G f) := by
  intro b f hb
  by_cases hba : b = a
  · subst hba
    rw [hset_self] at hb
    cases hb
    exact ⟨ws.length, by simp⟩
  · rw [hset_ne _ _ hba] at hb
    obtain ⟨j, hj⟩ := hw b f hb
    exact ⟨j, by rw [List.getElem?_append_left (List.getElem?_eq_some_iff.mp hj).1]; exact hj⟩
theorem ssWd_fresh {ws : va_W} {a : Nat} {e : va_E} (hw : ∀ b f, h b = some f → ∃ i : Nat, ws[i]? = some (b, ce G f)) (hD : va_D (gA G) (ws ++ [(a, e)])) : h a = none := by
  cases ha : h a with
  | none => rfl
  | some f =>
    obtain ⟨i, hi⟩ := hw a f ha
    have hlt := (List.getElem?_eq_some_iff.mp hi).1
    have := hD.1 i ws.length (a, ce G f) (a, e) (by rw [List.getElem?_append_left hlt]; exact hi) (by simp) rfl
    omega
theorem v_get {a i ci k pl nst : Nat} {fs : List Value} {v : Value} (hl : ssLk M pc = some (.getfield i, 3, [ci, k, pl, nst], v0)) (he : h a = some (.inr (ci, fs))) (hv : fs[k]? = some v) (kk : ssV G M D mc ms Q (pc + 3) ls (v :: st) h) : ssV G M D mc ms Q pc ls (.ref a :: st) h := by
  intro p e s m args below meth c R H locs cells slots MC MS la hC hR hW hS hL
  have hok := hC.2.2.2.2.2.2.2.2.2.2.2
  have hX := hC.2.2.2.2.2.2.2.2.2.1
  have hK := hC.2.2.2.2.2.2.2.2.1
  have hts := hC.2.2.2.2.2.1
  have kk' := kk p e s m args below meth c R H locs cells slots MC MS la hC hR hW hS hL
  obtain ⟨hd, h2⟩ := ssLk_ok hok hl
  obtain ⟨ws, hw, hP, hD⟩ := hW
  obtain ⟨j, hj⟩ := hw a _ he
  simp only [chk2] at h2
  split at h2
  · rename_i r hr
    obtain ⟨C, T, N⟩ := r
    rw [Bool.and_eq_true] at h2
    obtain ⟨h3, h4⟩ := h2
    cases hn : Nat.beq nst 1 with
    | true =>
      rw [hn] at h4
      exact va_getN (host := "SafeSenateModel") hC.1 hC.2.1 hts (ss_cls ci _ hr).1 hC.2.2.2.2.1 hK hP j hj hr k (of_decide_eq_true h3) (va_Nw.use rfl (hX.2.2.2.2 _ (inNs_mem h4))) (fun _ q => q) hv hd kk'
    | false =>
      rw [hn] at h4
      exact va_get hC.1 hC.2.1 hts (ss_cls ci _ hr).1 hC.2.2.2.2.1 hK hP j hj hr k (of_decide_eq_true h3) (hts _ (inT_mem h4)) (fun _ q => q) hv hd kk'
  · cases h2
theorem v_put {a i ci k pl nst : Nat} {fs : List Value} {v : Value} (hl : ssLk M pc = some (.putfield i, 3, [ci, k, pl, nst], v0)) (he : h a = some (.inr (ci, fs))) (hnr : narrow (tyOf ci k) v = v) (hft : fits (tyOf ci k) v = true) (hlen : k < fs.length) (kk : ssV G M D mc ms Q (pc + 3) ls st (hset h a (.inr (ci, fs.set k v)))) : ssV G M D mc ms Q pc ls (v :: .ref a :: st) h := by
  intro p e s m args below meth c R H locs cells slots MC MS la hC hR hW hS hL
  have hok := hC.2.2.2.2.2.2.2.2.2.2.2
  have hX := hC.2.2.2.2.2.2.2.2.2.1
  have hK := hC.2.2.2.2.2.2.2.2.1
  have hts := hC.2.2.2.2.2.1
  have hnm := hC.2.2.2.2.2.2.2.1
  have kk' := fun H1 locs1 hW1 hS1 => kk p e s m args below meth c R H1 locs1 cells slots MC MS la hC hR hW1 hS1 hL
  obtain ⟨hd, h2⟩ := ssLk_ok hok hl
  obtain ⟨ws, hw, hP, hD⟩ := hW
  obtain ⟨j, hj⟩ := hw a _ he
  simp only [chk2] at h2
  split at h2
  · rename_i r hr
    obtain ⟨C, T, N⟩ := r
    rw [Bool.and_eq_true] at h2
    obtain ⟨h3, h4⟩ := h2
    have hkN := of_decide_eq_true h3
    obtain ⟨c1, c2, c3, -, -⟩ := ss_cls ci _ hr
    cases hn : Nat.beq nst 1 with
    | true =>
      rw [hn, cond_true, Bool.and_eq_true] at h4
      exact va_putN (host := "SafeSenateModel") hC.1 hC.2.1 hts c1 (tyOf ci) c2 c3 hC.2.2.2.2.1 hK hP hD hS j hj hr k hkN (va_Nw.use rfl (hX.2.2.2.2 _ (inNs_mem h4.2))) (fun _ q => q) (by simpa using h4.1) (c2 k hkN) hnr hft hlen hd
        (fun H1 locs1 q1 q2 q3 => kk' H1 locs1 ⟨_, ssWd_set hw hj hD, q1, q2⟩ q3)
    | false =>
      rw [hn, cond_false, Bool.and_eq_true] at h4
      cases hf : (T k).2.2.2 with
      | false =>
        exact va_put hC.1 hC.2.1 hts c1 (tyOf ci) c2 c3 hC.2.2.2.2.1 hK hP hD hS j hj hr k hkN (hts _ (inT_mem h4.2)) (fun _ q => q) hf (c2 k hkN) hnr hft hlen hd
          (fun H1 locs1 q1 q2 q3 => kk' H1 locs1 ⟨_, ssWd_set hw hj hD, q1, q2⟩ q3)
      | true =>
        have h5 := h4.1
        simp only [hf, Bool.not_true, Bool.false_or, Bool.and_eq_true, decide_eq_true_eq] at h5
        exact va_putF hC.1 hC.2.1 hts c1 (tyOf ci) c2 c3 hC.2.2.2.2.1 hK hP hD hS j hj hr k hkN (hts _ (inT_mem h4.2)) (fun _ q => q) hf (hnm.trans h5.1) h5.2 (c2 k hkN) hnr hft hlen hd
          (fun H1 locs1 q1 q2 q3 => kk' H1 locs1 ⟨_, ssWd_set hw hj hD, q1, q2⟩ q3)
  · cases h2
end SSC
