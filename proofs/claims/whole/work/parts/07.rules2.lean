section SSD
variable {G : ssG} {M : ssM} {D mc ms : Nat} {Q : Option Value → ssH → Prop} {pc pc' : Nat} {ls ls' : List (Option Value)} {st st' : List Value} {h : ssH} {r0 : List Nat} {v0 : Value}
theorem v_iaload {a n : Nat} {f : Nat → Int32} {i : Int32} (hl : ssLk M pc = some (.iaload, 1, r0, v0)) (he : h a = some (.inl (0, n, .inl f))) (hin : vp_in i n) (kk : ssV G M D mc ms Q (pc + 1) ls (.int (f i.toNatClampNeg) :: st) h) : ssV G M D mc ms Q pc ls (.int i :: .ref a :: st) h := by
  intro p e s m args below meth c R H locs cells slots MC MS la hC hR hW hS hL
  have hok := hC.2.2.2.2.2.2.2.2.2.2.2
  have hK := hC.2.2.2.2.2.2.2.2.1
  have kk' := kk p e s m args below meth c R H locs cells slots MC MS la hC hR hW hS hL
  obtain ⟨ws, hw, hP, hD⟩ := hW
  obtain ⟨j, hj⟩ := hw a _ he
  exact va_iald hC.1 hC.2.1 hK hP j 0 hj rfl hin (ssLk_ok hok hl).1 kk'
theorem v_baload {a n : Nat} {f : Nat → Int32} {i : Int32} (hl : ssLk M pc = some (.baload, 1, r0, v0)) (he : h a = some (.inl (1, n, .inl f))) (hin : vp_in i n) (kk : ssV G M D mc ms Q (pc + 1) ls (.int (f i.toNatClampNeg) :: st) h) : ssV G M D mc ms Q pc ls (.int i :: .ref a :: st) h := by
  intro p e s m args below meth c R H locs cells slots MC MS la hC hR hW hS hL
  have hok := hC.2.2.2.2.2.2.2.2.2.2.2
  have hK := hC.2.2.2.2.2.2.2.2.1
  have kk' := kk p e s m args below meth c R H locs cells slots MC MS la hC hR hW hS hL
  obtain ⟨ws, hw, hP, hD⟩ := hW
  obtain ⟨j, hj⟩ := hw a _ he
  exact va_bald hC.1 hC.2.1 hK hP j 1 hj rfl hin (ssLk_ok hok hl).1 kk'
theorem v_laload {a n : Nat} {f : Nat → Int64} {i : Int32} (hl : ssLk M pc = some (.laload, 1, r0, v0)) (he : h a = some (.inl (2, n, .inr (.inl f)))) (hin : vp_in i n) (kk : ssV G M D mc ms Q (pc + 1) ls (.long (f i.toNatClampNeg) :: st) h) : ssV G M D mc ms Q pc ls (.int i :: .ref a :: st) h := by
  intro p e s m args below meth c R H locs cells slots MC MS la hC hR hW hS hL
  have hok := hC.2.2.2.2.2.2.2.2.2.2.2
  have hK := hC.2.2.2.2.2.2.2.2.1
  have kk' := kk p e s m args below meth c R H locs cells slots MC MS la hC hR hW hS hL
  obtain ⟨ws, hw, hP, hD⟩ := hW
  obtain ⟨j, hj⟩ := hw a _ he
  exact va_lald hC.1 hC.2.1 hK hP j 2 hj rfl hin (ssLk_ok hok hl).1 kk'
theorem v_aaload {a n : Nat} {f : Nat → Option Nat} {i : Int32} (hl : ssLk M pc = some (.aaload, 1, r0, v0)) (he : h a = some (.inl (3, n, .inr (.inr (.inr (.inr f)))))) (hin : vp_in i n) (kk : ssV G M D mc ms Q (pc + 1) ls (va_rf (f i.toNatClampNeg) :: st) h) : ssV G M D mc ms Q pc ls (.int i :: .ref a :: st) h := by
  intro p e s m args below meth c R H locs cells slots MC MS la hC hR hW hS hL
  have hok := hC.2.2.2.2.2.2.2.2.2.2.2
  have hK := hC.2.2.2.2.2.2.2.2.1
  have kk' := kk p e s m args below meth c R H locs cells slots MC MS la hC hR hW hS hL
  obtain ⟨ws, hw, hP, hD⟩ := hW
  obtain ⟨j, hj⟩ := hw a _ he
  exact va_aldq hC.1 hC.2.1 hK hP j 3 hj rfl hin (ssLk_ok hok hl).1 kk'
theorem v_iastore {a n : Nat} {f : Nat → Int32} {i : Int32} {x : Int32} (hl : ssLk M pc = some (.iastore, 1, r0, v0)) (he : h a = some (.inl (0, n, .inl f))) (hin : vp_in i n) (kk : ssV G M D mc ms Q (pc + 1) ls st (hset h a (.inl (0, n, .inl (upd f i.toNatClampNeg x))))) : ssV G M D mc ms Q pc ls (.int x :: .int i :: .ref a :: st) h := by
  intro p e s m args below meth c R H locs cells slots MC MS la hC hR hW hS hL
  have hok := hC.2.2.2.2.2.2.2.2.2.2.2
  have hK := hC.2.2.2.2.2.2.2.2.1
  have kk' := fun H1 locs1 hW1 hS1 => kk p e s m args below meth c R H1 locs1 cells slots MC MS la hC hR hW1 hS1 hL
  obtain ⟨ws, hw, hP, hD⟩ := hW
  obtain ⟨j, hj⟩ := hw a _ he
  exact va_iast hC.1 hC.2.1 hK hP hD hS j 0 hj rfl hin (ssLk_ok hok hl).1 (fun H1 locs1 q1 q2 q3 => kk' H1 locs1 ⟨_, ssWd_set hw hj hD, q1, q2⟩ q3)
theorem v_bastore {a n : Nat} {f : Nat → Int32} {i : Int32} {x : Int32} (hl : ssLk M pc = some (.bastore, 1, r0, v0)) (he : h a = some (.inl (1, n, .inl f))) (hin : vp_in i n) (kk : ssV G M D mc ms Q (pc + 1) ls st (hset h a (.inl (1, n, .inl (upd f i.toNatClampNeg (vp_nar .byte x)))))) : ssV G M D mc ms Q pc ls (.int x :: .int i :: .ref a :: st) h := by
  intro p e s m args below meth c R H locs cells slots MC MS la hC hR hW hS hL
  have hok := hC.2.2.2.2.2.2.2.2.2.2.2
  have hK := hC.2.2.2.2.2.2.2.2.1
  have kk' := fun H1 locs1 hW1 hS1 => kk p e s m args below meth c R H1 locs1 cells slots MC MS la hC hR hW1 hS1 hL
  obtain ⟨ws, hw, hP, hD⟩ := hW
  obtain ⟨j, hj⟩ := hw a _ he
  exact va_bast hC.1 hC.2.1 hK hP hD hS j 1 hj rfl hin (ssLk_ok hok hl).1 (fun H1 locs1 q1 q2 q3 => kk' H1 locs1 ⟨_, ssWd_set hw hj hD, q1, q2⟩ q3)
theorem v_lastore {a n : Nat} {f : Nat → Int64} {i : Int32} {x : Int64} (hl : ssLk M pc = some (.lastore, 1, r0, v0)) (he : h a = some (.inl (2, n, .inr (.inl f)))) (hin : vp_in i n) (kk : ssV G M D mc ms Q (pc + 1) ls st (hset h a (.inl (2, n, .inr (.inl (vp_updL f i.toNatClampNeg x)))))) : ssV G M D mc ms Q pc ls (.long x :: .int i :: .ref a :: st) h := by
  intro p e s m args below meth c R H locs cells slots MC MS la hC hR hW hS hL
  have hok := hC.2.2.2.2.2.2.2.2.2.2.2
  have hK := hC.2.2.2.2.2.2.2.2.1
  have kk' := fun H1 locs1 hW1 hS1 => kk p e s m args below meth c R H1 locs1 cells slots MC MS la hC hR hW1 hS1 hL
  obtain ⟨ws, hw, hP, hD⟩ := hW
  obtain ⟨j, hj⟩ := hw a _ he
  exact va_last hC.1 hC.2.1 hK hP hD hS j 2 hj rfl hin (ssLk_ok hok hl).1 (fun H1 locs1 q1 q2 q3 => kk' H1 locs1 ⟨_, ssWd_set hw hj hD, q1, q2⟩ q3)
theorem v_aastore {a n v : Nat} {f : Nat → Option Nat} {vs : List Value} {i : Int32} (hl : ssLk M pc = some (.aastore, 1, r0, v0)) (he : h a = some (.inl (3, n, .inr (.inr (.inr (.inr f)))))) (hv : h v = some (.inr (2, vs))) (hin : vp_in i n) (kk : ssV G M D mc ms Q (pc + 1) ls st (hset h a (.inl (3, n, .inr (.inr (.inr (.inr (va_up f i.toNatClampNeg (some v))))))))) : ssV G M D mc ms Q pc ls (.ref v :: .int i :: .ref a :: st) h := by
  intro p e s m args below meth c R H locs cells slots MC MS la hC hR hW hS hL
  have hok := hC.2.2.2.2.2.2.2.2.2.2.2
  have hK := hC.2.2.2.2.2.2.2.2.1
  have kk' := fun H1 locs1 hW1 hS1 => kk p e s m args below meth c R H1 locs1 cells slots MC MS la hC hR hW1 hS1 hL
  obtain ⟨ws, hw, hP, hD⟩ := hW
  obtain ⟨j, hj⟩ := hw a _ he
  obtain ⟨j2, hj2⟩ := hw v _ hv
  exact va_astq (r := (RX2, TX2, 7)) hC.1 hC.2.1 hK hP hD hS j 3 j2 2 hj rfl hj2 rfl hin (ssLk_ok hok hl).1 (fun H1 locs1 q1 q2 q3 => kk' H1 locs1 ⟨_, ssWd_set hw hj hD, q1, q2⟩ q3)
theorem v_alen {a t n : Nat} {x : (Nat → Int32) ⊕ (Nat → Int64) ⊕ (Nat → UInt32) ⊕ (Nat → UInt64) ⊕ (Nat → Option Nat)} (hl : ssLk M pc = some (.arraylength, 1, r0, v0)) (he : h a = some (.inl (t, n, x))) (ht : t < 4) (kk : ssV G M D mc ms Q (pc + 1) ls (.int (nI n) :: st) h) : ssV G M D mc ms Q pc ls (.ref a :: st) h := by
  intro p e s m args below meth c R H locs cells slots MC MS la hC hR hW hS hL
  have hok := hC.2.2.2.2.2.2.2.2.2.2.2
  have hK := hC.2.2.2.2.2.2.2.2.1
  have kk' := kk p e s m args below meth c R H locs cells slots MC MS la hC hR hW hS hL
  obtain ⟨ws, hw, hP, hD⟩ := hW
  obtain ⟨j, hj⟩ := hw a _ he
  have hty : ∃ ty, (ssTys G)[t]? = some (gC G t, ty) := by
    match t, ht with
    | 0, _ => exact ⟨_, rfl⟩
    | 1, _ => exact ⟨_, rfl⟩
    | 2, _ => exact ⟨_, rfl⟩
    | 3, _ => exact ⟨_, rfl⟩
  obtain ⟨ty, hty⟩ := hty
  exact va_alen hC.1 hC.2.1 hK hP j t hj hty rfl (ssLk_ok hok hl).1 kk'
/-- making -/
theorem v_new {i ci pl : Nat} {r : vw_C} {fs : List Value} (hl : ssLk M pc = some (.new i, 3, [ci, pl], v0)) (hr : vwCl[ci]? = some r) (hfs : ∀ j, j < r.2.2 → defaultValue (tyOf ci j) = vp_V fs j) (kk : ∀ q, h q = none → gz G ≤ q → ssV G M D mc ms Q (pc + 3) ls (.ref q :: st) (hset h q (.inr (ci, fs)))) : ssV G M D (mc + 1) (ms + r.2.2) Q pc ls st h := by
  intro p e s m args below meth c R H locs cells slots MC MS la hC hR hW hS hL
  have hok := hC.2.2.2.2.2.2.2.2.2.2.2
  have hK := hC.2.2.2.2.2.2.2.2.1
  have hts := hC.2.2.2.2.2.1
  have hz := hC.2.2.2.2.2.2.2.2.2.2.1
  obtain ⟨hd, h2⟩ := ssLk_ok hok hl
  obtain ⟨ws, hw, hP, hD⟩ := hW
  obtain ⟨C, T, N⟩ := r
  obtain ⟨c1, c2, c3, c4, c5⟩ := ss_cls ci _ hr
  simp only [chk2, hr] at h2
  exact va_new hC.1 hC.2.1 hts c1 (tyOf ci) c2 hC.2.2.2.2.1 (hts _ (inT_mem h2)) (hts _ c4) (hts _ c5) hK hP hD hS (fun q hq => Nat.le_trans hz hq) hr hfs (by omega) (by have := hR.2.2.2.2.1; have := hR.2.2.2.2.2; dsimp only at *; omega) hd
    (fun q H1 q1 q2 q3 => kk q (ssWd_fresh hw q2) (q2.2 ws.length (q, .inr (ci, fs)) (by simp)) p e s m args below meth c R H1 locs _ _ MC MS la hC ⟨hR.1, hR.2.1, by omega, hR.2.2.2.1, by have := hR.2.2.2.2.1; dsimp only at *; omega, hR.2.2.2.2.2⟩ ⟨_, ssWd_push hw, q1, q2⟩ q3 hL)
theorem v_newarr {at0 : ArrayType} {t N' : Nat} {n : Int32} {a0 : vp_A} (hl : ssLk M pc = some (.newarray at0, 2, [t], v0)) (ha : ∀ cA : ClassId, vp_cell cA a0 = arrV cA N' (fun _ => defaultValue (ssTy t))) (hn : ¬ n < 0) (hN : n.toNatClampNeg = N') (hb8 : N' ≤ 1000) (kk : ∀ q, h q = none → gz G ≤ q → ssV G M D mc ms Q (pc + 2) ls (.ref q :: st) (hset h q (.inl (t, a0)))) : ssV G M D (mc + 1) (ms + N') Q pc ls (.int n :: st) h := by
  intro p e s m args below meth c R H locs cells slots MC MS la hC hR hW hS hL
  have hok := hC.2.2.2.2.2.2.2.2.2.2.2
  have hK := hC.2.2.2.2.2.2.2.2.1
  have hts := hC.2.2.2.2.2.1
  have hz := hC.2.2.2.2.2.2.2.2.2.2.1
  obtain ⟨hd, h2⟩ := ssLk_ok hok hl
  obtain ⟨ws, hw, hP, hD⟩ := hW
  simp only [chk2, Bool.and_eq_true, decide_eq_true_eq] at h2
  obtain ⟨h3, h4⟩ := h2
  have key : (Cond.arrayClass (newarray.typeOf at0)).before args s = true ∧ N' * componentBytes (ssTy t) ≤ 536870912 ∧ ∀ cA : ClassId, va_RA s cA (ssTy t) → cA = gC G t := by
    rw [h3]
    have hk := fun k q => (hK.2 k q)
    match t, h4 with
    | 0, _ => exact ⟨hts _ (inT_mem inAI), by simp only [ssTy, componentBytes]; omega, fun cA hq => by have := (hk 0 _ rfl).2; exact Option.some.inj (Eq.trans (Eq.symm hq) this)⟩
    | 1, _ => exact ⟨hts _ (inT_mem inAB), by simp only [ssTy, componentBytes]; omega, fun cA hq => by have := (hk 1 _ rfl).2; exact Option.some.inj (Eq.trans (Eq.symm hq) this)⟩
    | 2, _ => exact ⟨hts _ (inT_mem inAJ), by simp only [ssTy, componentBytes]; omega, fun cA hq => by have := (hk 2 _ rfl).2; exact Option.some.inj (Eq.trans (Eq.symm hq) this)⟩
  obtain ⟨k1, k2, k3⟩ := key
  exact va_newa hC.1 hC.2.1 k1 h3 hK hP hD hS (fun q hq => Nat.le_trans hz hq) ha hn hN k2 (by omega) (by omega) hd
    (fun q cA H1 qK q1 q2 q3 => by
      have hcA : cA = gC G t := k3 cA (qK.2 (ssTys G).length (cA, ssTy t) (by simp)).2
      subst hcA
      exact kk q (ssWd_fresh hw q2) (q2.2 ws.length (q, .inl (gC G t, a0)) (by simp)) p e s m args below meth c R H1 locs _ _ MC MS la hC ⟨hR.1, hR.2.1, by omega, hR.2.2.2.1, by omega, hR.2.2.2.2.2⟩ ⟨_, ssWd_push hw, q1, q2⟩ q3 hL)
theorem v_anew {i pl N' : Nat} {n : Int32} (hl : ssLk M pc = some (.anewarray i, 3, [pl], v0)) (hn : ¬ n < 0) (hN : n.toNatClampNeg = N') (hb8 : N' ≤ 1000) (kk : ∀ q, h q = none → gz G ≤ q → ssV G M D mc ms Q (pc + 3) ls (.ref q :: st) (hset h q (.inl (3, N', .inr (.inr (.inr (.inr (fun _ => none)))))))) : ssV G M D (mc + 1) (ms + N') Q pc ls (.int n :: st) h := by
  intro p e s m args below meth c R H locs cells slots MC MS la hC hR hW hS hL
  have hok := hC.2.2.2.2.2.2.2.2.2.2.2
  have hX := hC.2.2.2.2.2.2.2.2.2.1
  have hK := hC.2.2.2.2.2.2.2.2.1
  have hts := hC.2.2.2.2.2.1
  have hz := hC.2.2.2.2.2.2.2.2.2.2.1
  obtain ⟨hd, h2⟩ := ssLk_ok hok hl
  obtain ⟨ws, hw, hP, hD⟩ := hW
  exact va_newq hC.1 hC.2.1 hC.2.2.2.2.1 (hts _ (inT_mem h2)) hX.2.2.2.1 hK hP hD hS (fun q hq => Nat.le_trans hz hq) hn hN (by omega) (by omega) (by omega) hd
    (fun q cA H1 qK q1 q2 q3 => by
      have e1 := (qK.2 (ssTys G).length (cA, .object "SafeSenate$Moment") (by simp)).2
      have e2 := (hK.2 3 _ rfl).2
      obtain ⟨_, _, _, _, _, f1⟩ := e1
      obtain ⟨_, _, _, _, _, f2⟩ := e2
      have hcA : cA = gC G 3 := Option.some.inj (f1.symm.trans f2)
      subst hcA
      exact kk q (ssWd_fresh hw q2) (q2.2 ws.length (q, .inl (gC G 3, N', .inr (.inr (.inr (.inr (fun _ => none)))))) (by simp)) p e s m args below meth c R H1 locs _ _ MC MS la hC ⟨hR.1, hR.2.1, by omega, hR.2.2.2.1, by omega, hR.2.2.2.2.2⟩ ⟨_, ssWd_push hw, q1, q2⟩ q3 hL)
/-- calls -/
theorem v_objInit {i n pl a : Nat} (hl : ssLk M pc = some (.invokespecial i, 3, [n, pl, 0], v0)) (hn : ssMN[n]? = some Lib.objectInit) (hD1 : 1 ≤ D) (hcat : (st.map fun v => v.category).sum ≤ 8) (kk : ssV G M D mc ms Q (pc + 3) ls st h) : ssV G M D mc ms Q pc ls (.ref a :: st) h := by
  intro p e s m args below meth c R H locs cells slots MC MS la hC hR hW hS hL
  have hok := hC.2.2.2.2.2.2.2.2.2.2.2
  have hts := hC.2.2.2.2.2.1
  obtain ⟨hd, h2⟩ := ssLk_ok hok hl
  have e1 : ssMN.getD n Lib.objectInit = Lib.objectInit := by rw [List.getD_eq_getElem?_getD, hn]; rfl
  simp only [chk2, Nat.beq, cond_false, e1] at h2
  exact W.objInit hC.1 hC.2.1 hC.2.2.2.2.1 (hts _ (inT_mem h2)) (hts _ (inT_mem inOI)) (hts _ (inT_mem inOC)) rfl (by rw [hC.2.2.2.1]; exact hL.1) rfl hd (by omega) (by have := lv_room (m := m) (pc := pc) (ls := la) (rest := (.ref a :: st)) hcat; omega) (kk p e s m args below meth c R H locs cells slots MC MS la hC hR hW hS hL)
theorem v_max {i n pl : Nat} {x y : Int32} (hl : ssLk M pc = some (.invokestatic i, 3, [n, pl, 0], v0)) (hn : ssMN[n]? = some Lib.Math.max.name) (hD1 : 1 ≤ D) (hcat : (st.map fun v => v.category).sum ≤ 8) (kk : ssV G M D mc ms Q (pc + 3) ls (.int (if x < y then y else x) :: st) h) : ssV G M D mc ms Q pc ls (.int y :: .int x :: st) h := by
  intro p e s m args below meth c R H locs cells slots MC MS la hC hR hW hS hL
  have hok := hC.2.2.2.2.2.2.2.2.2.2.2
  have hts := hC.2.2.2.2.2.1
  obtain ⟨hd, h2⟩ := ssLk_ok hok hl
  have e1 : ssMN.getD n Lib.objectInit = Lib.Math.max.name := by rw [List.getD_eq_getElem?_getD, hn]; rfl
  simp only [chk2, Nat.beq, cond_false, e1] at h2
  exact va_mmax hC.1 hC.2.1 (by rw [hC.2.2.2.1]; exact hL.1.symm) hC.2.2.2.2.1 (hts _ (inT_mem h2)) (hts _ (inT_mem inMS)) (hts _ (inT_mem inMI)) (hts _ (inT_mem inMC)) (by omega) (by omega) (by omega) (by omega) hd (kk p e s m args below meth c R H locs cells slots MC MS la hC hR hW hS hL)
theorem v_min {i n pl : Nat} {x y : Int32} (hl : ssLk M pc = some (.invokestatic i, 3, [n, pl, 0], v0)) (hn : ssMN[n]? = some Lib.Math.min.name) (hD1 : 1 ≤ D) (hcat : (st.map fun v => v.category).sum ≤ 8) (kk : ssV G M D mc ms Q (pc + 3) ls (.int (if y < x then y else x) :: st) h) : ssV G M D mc ms Q pc ls (.int y :: .int x :: st) h := by
  intro p e s m args below meth c R H locs cells slots MC MS la hC hR hW hS hL
  have hok := hC.2.2.2.2.2.2.2.2.2.2.2
  have hts := hC.2.2.2.2.2.1
  obtain ⟨hd, h2⟩ := ssLk_ok hok hl
  have e1 : ssMN.getD n Lib.objectInit = Lib.Math.min.name := by rw [List.getD_eq_getElem?_getD, hn]; rfl
  simp only [chk2, Nat.beq, cond_false, e1] at h2
  exact va_mmin hC.1 hC.2.1 (by rw [hC.2.2.2.1]; exact hL.1.symm) hC.2.2.2.2.1 (hts _ (inT_mem h2)) (hts _ (inT_mem inmS)) (hts _ (inT_mem inMI)) (hts _ (inT_mem inmC)) (by omega) (by omega) (by omega) (by omega) hd (kk p e s m args below meth c R H locs cells slots MC MS la hC hR hW hS hL)
theorem v_copy {i n pl a0 a n0 n1 : Nat} {f g : Nat → Int32} {sp dp len : Int32} (hl : ssLk M pc = some (.invokestatic i, 3, [n, pl, 0], v0)) (hn : ssMN[n]? = some arraycopyName) (hD1 : 1 ≤ D) (hcat : (st.map fun v => v.category).sum ≤ 8) (ha0 : h a0 = some (.inl (0, n0, .inl f))) (ha1 : h a = some (.inl (0, n1, .inl g))) (h1 : ¬ sp < 0) (h2 : ¬ dp < 0) (h3 : ¬ len < 0) (h4 : sp.toNatClampNeg + len.toNatClampNeg ≤ n0) (h5 : dp.toNatClampNeg + len.toNatClampNeg ≤ n1) (kk : ssV G M D mc ms Q (pc + 3) ls st (hset h a (.inl (0, n1, .inl (va_cpy f g sp.toNatClampNeg dp.toNatClampNeg len.toNatClampNeg))))) : ssV G M D mc ms Q pc ls (.int len :: .int dp :: .ref a :: .int sp :: .ref a0 :: st) h := by
  intro p e s m args below meth c R H locs cells slots MC MS la hC hR hW hS hL
  have hok := hC.2.2.2.2.2.2.2.2.2.2.2
  have hts := hC.2.2.2.2.2.1
  have hK := hC.2.2.2.2.2.2.2.2.1
  obtain ⟨hd, hc2⟩ := ssLk_ok hok hl
  have e1 : ssMN.getD n Lib.objectInit = arraycopyName := by rw [List.getD_eq_getElem?_getD, hn]; rfl
  simp only [chk2, Nat.beq, cond_false, e1] at hc2
  have kk' := fun H1 locs1 hW1 hS1 => kk p e s m args below meth c R H1 locs1 cells slots MC MS la hC hR hW1 hS1 hL
  obtain ⟨ws, hw, hP, hD⟩ := hW
  obtain ⟨j0, hj0⟩ := hw a0 _ ha0
  obtain ⟨j1, hj1⟩ := hw a _ ha1
  have hwords : nativeFrameWords "java/lang/System" "arraycopy" 5 + 11 ≤ 50 := by decide +kernel
  exact va_copyi hC.1 hC.2.1 (by rw [hC.2.2.2.1]; exact hL.1.symm) hC.2.2.2.2.1 (hts _ (inT_mem hc2)) (hts _ (inT_mem inCN)) (hts _ (inT_mem inCS)) (hts _ (inT_mem inCI)) hK hP hD hS j0 j1 0 0 hj0 hj1 rfl rfl rfl h1 h2 h3 h4 h5 (fun _ _ => rfl) (by omega) (by omega) hd (fun H1 locs1 q1 q2 q3 => kk' H1 locs1 ⟨_, ssWd_set hw hj1 hD, q1, q2⟩ q3)
end SSD
