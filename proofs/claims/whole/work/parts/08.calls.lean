section SSF
variable {p : Program} {e : Env} {s : State} {m : MethodId} {args : Array Value} {below : List Frame} {meth : Method} {c : Code} {R : Room} {H : Heap} {locs : List Loc} {cells slots mc1 ms1 : Nat} {Q' : State → Prop} {G : ssG} {Q1 : Option Value → ssH → Prop} {pc : Nat} {la : Array Slot} {rest st0 : List Value} {a : Array Value}
theorem ss_cont (hr : va_Run p (gL G) e R s m args below meth c H locs cells slots mc1 ms1 (F0 m pc la st0) rest (ssQ G Q1 a) (gA G)) (hS : va_S (gA G) s.heap H locs)
    (kk : ∀ (r : Option Value) (h' : ssH) (H1 : Heap) (locs1 : List Loc), Q1 r h' → ssWd G h' H1 → va_S (gA G) s.heap H1 locs1 → W p (gL G) e R s m args below meth c H1 locs1 (cells + mc1) (slots + ms1) Q' (F0 m (pc + 3) la (r.toList ++ rest))) : W p (gL G) e R s m args below meth c H locs cells slots Q' (F0 m pc la st0) := by
  intro T hT X
  obtain ⟨v, st₀, t, T', L, h0, X', hL, e1, e2, ⟨⟨r, h', hv, hq, hw⟩, hz, hk⟩, st⟩ := hr T hT X
  cases hv
  rw [h0] at hz hk
  obtain ⟨t2, a1, b1⟩ := kk v h' T'.heap (locs ++ L) hq (by rw [e1]; exact hw)
    ⟨Nat.le_trans hS.1 (by rw [e1]; exact hz), fun q h1 h2 => by rw [e1, hk q (Nat.lt_of_lt_of_le h1 hS.1) h2]; exact hS.2.1 q h1 h2, fun q hq => by
      rcases List.mem_append.mp hq with h | h
      · exact hS.2.2 q h
      · exact hL q h⟩ T' rfl X'
  exact ⟨t2, st t2 a1, b1⟩
end SSF
theorem good_all {ws : List Cond} (h : ∀ w ∈ ws, w ∈ ssTbl) : GoodIn ssTbl ws := fun w hw => ⟨h w hw, good_of_word (List.mem_filter.mp (h w hw)).2⟩
/-- what ssCa says -/
theorem ssCa_ok {M : ssM} (h : ssCa M = true) : Cond.code (ssY M) (ssCC M) (ssML M) (ssRet M) ∈ ssTbl ∧ Cond.initialized (ssY M).cls ∈ ssTbl ∧ plainName (ssY M).cls = true ∧ (ssY M).cls ≠ "java/lang/invoke/MethodHandle" ∧ (ssY M).cls ≠ "java/lang/invoke/VarHandle" ∧ ssML M ≤ 40 ∧ ssMN[ssPl M 6]? = some (ssY M) ∧ (parseMethodDescriptor (ssY M).desc).map (fun d => d.parameters.length) = some (ssPl M 5) ∧
    (ssPl M 4 = 1 → Cond.static (ssY M) ∈ ssTbl) ∧ (ssPl M 4 = 0 → Cond.instanceMethod (ssY M) ∈ ssTbl ∧ (ssPl M 7 = 1 → (ssY M).name = "<init>") ∧ (ssPl M 7 = 0 → Cond.selects (ssY M).cls (ssY M) (ssY M) ∈ ssTbl)) := by
  simp only [ssCa, Bool.and_eq_true, decide_eq_true_eq] at h
  obtain ⟨⟨⟨⟨⟨⟨⟨⟨h1, h2⟩, h3⟩, h4⟩, h5⟩, h6⟩, h7⟩, h8⟩, h9⟩ := h
  refine ⟨inT_mem h1, inT_mem h2, h3, h4, h5, h6, h7, h8, fun q => ?_, fun q => ?_⟩
  · rw [q] at h9
    exact inT_mem h9
  · rw [q] at h9
    simp only [Nat.beq, cond_false, Bool.and_eq_true] at h9
    refine ⟨inT_mem h9.1, fun z => ?_, fun z => ?_⟩
    · have h10 := h9.2
      rw [z] at h10
      exact of_decide_eq_true h10
    · have h10 := h9.2
      rw [z] at h10
      exact inT_mem h10
theorem ss_words {M : ssM} (h : ssCa M = true) : ∀ w ∈ Cond.code (ssY M) (ssCC M) (ssML M) (ssRet M) :: ssTbl, w ∈ ssTbl := fun w hw => (List.mem_cons.mp hw).elim (fun q => q ▸ (ssCa_ok h).1) id
section SSG
variable {G : ssG} {M My : ssM} {D D1 mc ms mc1 ms1 : Nat} {Q Q1 : Option Value → ssH → Prop} {pc : Nat} {ls : List (Option Value)} {st As rest : List Value} {h : ssH} {v0 : Value} {i n pl b : Nat}
theorem v_callV {ci : Nat} {fs : List Value} {r : vw_C} (hl : ssLk M pc = some (.invokevirtual i, 3, [n, pl, 0], v0)) (hca : ssCa My = true) (hmn : ssPl My 6 = n) (h40 : ssPl My 4 = 0) (hni : ssPl My 7 = 0) (he : h b = some (.inr (ci, fs))) (hr : vwCl[ci]? = some r) (hrc : r.1 = (ssY My).cls) (hc : ssC G My D1 mc1 ms1 (.ref b :: As) h Q1) (hAs : ssPl My 5 = As.length) (hst : st = As.reverse ++ .ref b :: rest) (hcat : (rest.map fun v => v.category).sum ≤ 8) (hD : D1 + 1 ≤ D)
    (kk : ∀ r h', Q1 r h' → ssV G M D mc ms Q (pc + 3) ls (r.toList ++ rest) h') : ssV G M D (mc1 + mc) (ms1 + ms) Q pc ls st h := by
  intro p e s m args below meth c R H locs cells slots MC MS la hC hR hW hS hL
  subst hst
  have hok := hC.2.2.2.2.2.2.2.2.2.2.2
  have hX := hC.2.2.2.2.2.2.2.2.2.1
  have hts := hC.2.2.2.2.2.1
  have hK := hC.2.2.2.2.2.2.2.2.1
  have hz := hC.2.2.2.2.2.2.2.2.2.2.1
  obtain ⟨hd, h2⟩ := ssLk_ok hok hl
  obtain ⟨k1, k2, k3, k4, k5, k6, k7, k8, -, k10⟩ := ssCa_ok hca
  obtain ⟨k11, -, k12⟩ := k10 h40
  have k13 := k12 hni
  have e1 : ssMN.getD n Lib.objectInit = ssY My := by rw [List.getD_eq_getElem?_getD, ← hmn, k7]; rfl
  simp only [chk2, e1] at h2
  have hrecv : ∃ cell : Cell, H[b]? = some cell ∧ cell.vm.isStatics = false ∧ s.vm.findClass (ssY My).cls = some cell.cls := by
    obtain ⟨ws, hw, hP, hD⟩ := hW
    obtain ⟨j, hj⟩ := hw b _ he
    rw [← hrc]
    exact va_recv hK hP hr hj
  refine ss_cont (rest := rest) (va_runV (Ts := ssTbl) (own := (ssY M).cls) (nL := ssML M) (As := As) (rest := rest) (n := As.length) ⟨hC.1, hC.2.1, hC.2.2.2.1, hC.2.2.2.2.1, hts⟩ hc
    (cwV As.length hts (good_all (fun w hw => by
      simp only [wsV, List.mem_append, List.mem_cons, List.not_mem_nil, or_false] at hw
      rcases hw with (rfl | rfl | rfl | rfl) | hw
      · exact inT_mem h2
      · exact k11
      · exact k13
      · exact k2
      · exact hw.elim (fun q => q ▸ k1) id)) rfl rfl rfl ⟨rfl, k4, k5, hAs ▸ k8⟩ ⟨Nat.le_trans hD hR.1, ?_⟩)
    ⟨ssP_blind G _ h, hrecv, fun U hU hWm => ⟨rfl, by rw [hU]; exact Nat.le_trans hz hS.1, by rw [hU]; exact hW, va_K.moved hWm.alike hK, by rw [hU]; exact (hX.kept (fun q q1 q2 => hS.2.1 q q1 q2)).warm hWm⟩⟩
    rfl rfl hL.1 rfl (lv_room hcat) hd ⟨by omega, by omega⟩) hS (fun r h' H1 locs1 q1 q2 q3 => kk r h' q1 p e s m args below meth c R H1 locs1 _ _ MC MS la hC ⟨hR.1, hR.2.1, by omega, hR.2.2.2.1, by omega, hR.2.2.2.2.2⟩ q2 q3 hL)
  have := hR.2.1
  show 8 + (ssML My + 11) + 64 * D1 ≤ R.locals
  omega
theorem v_callS (hl : ssLk M pc = some (.invokestatic i, 3, [n, pl, 0], v0)) (hca : ssCa My = true) (hmn : ssPl My 6 = n) (h41 : ssPl My 4 = 1) (hc : ssC G My D1 mc1 ms1 As h Q1) (hAs : ssPl My 5 = As.length) (hst : st = As.reverse ++ rest) (hcat : (rest.map fun v => v.category).sum ≤ 8) (hD : D1 + 1 ≤ D)
    (kk : ∀ r h', Q1 r h' → ssV G M D mc ms Q (pc + 3) ls (r.toList ++ rest) h') : ssV G M D (mc1 + mc) (ms1 + ms) Q pc ls st h := by
  intro p e s m args below meth c R H locs cells slots MC MS la hC hR hW hS hL
  subst hst
  have hok := hC.2.2.2.2.2.2.2.2.2.2.2
  have hX := hC.2.2.2.2.2.2.2.2.2.1
  have hts := hC.2.2.2.2.2.1
  have hK := hC.2.2.2.2.2.2.2.2.1
  have hz := hC.2.2.2.2.2.2.2.2.2.2.1
  obtain ⟨hd, h2⟩ := ssLk_ok hok hl
  obtain ⟨k1, k2, k3, k4, k5, k6, k7, k8, k9, -⟩ := ssCa_ok hca
  have e1 : ssMN.getD n Lib.objectInit = ssY My := by rw [List.getD_eq_getElem?_getD, ← hmn, k7]; rfl
  simp only [chk2, Nat.beq, cond_false, e1] at h2
  refine ss_cont (rest := rest) (va_runS (Ts := ssTbl) (own := (ssY M).cls) (nL := ssML M) (As := As) (rest := rest) (n := As.length) ⟨hC.1, hC.2.1, hC.2.2.2.1, hC.2.2.2.2.1, hts⟩ hc
    ⟨callB_of As.length hts (good_all (ss_words hca)) rfl rfl rfl (hts _ k2) (hts _ (inT_mem h2)) ⟨k4, k5, hAs ▸ k8⟩ ⟨Nat.le_trans hD hR.1, ?_⟩, hts _ (k9 h41)⟩
    ⟨ssP_blind G _ h, fun U hU hWm => ⟨rfl, by rw [hU]; exact Nat.le_trans hz hS.1, by rw [hU]; exact hW, va_K.moved hWm.alike hK, by rw [hU]; exact (hX.kept (fun q q1 q2 => hS.2.1 q q1 q2)).warm hWm⟩⟩
    rfl rfl hL.1 rfl (lv_room hcat) hd ⟨by omega, by omega⟩) hS (fun r h' H1 locs1 q1 q2 q3 => kk r h' q1 p e s m args below meth c R H1 locs1 _ _ MC MS la hC ⟨hR.1, hR.2.1, by omega, hR.2.2.2.1, by omega, hR.2.2.2.2.2⟩ q2 q3 hL)
  have := hR.2.1
  show 8 + (ssML My + 11) + 64 * D1 ≤ R.locals
  omega
theorem v_callSN (hl : ssLk M pc = some (.invokestatic i, 3, [n, pl, 1], v0)) (hca : ssCa My = true) (hmn : ssPl My 6 = n) (h41 : ssPl My 4 = 1) (hc : ssC G My D1 mc1 ms1 As h Q1) (hAs : ssPl My 5 = As.length) (hst : st = As.reverse ++ rest) (hcat : (rest.map fun v => v.category).sum ≤ 8) (hD : D1 + 1 ≤ D)
    (kk : ∀ r h', Q1 r h' → ssV G M D mc ms Q (pc + 3) ls (r.toList ++ rest) h') : ssV G M D (mc1 + mc) (ms1 + ms) Q pc ls st h := by
  intro p e s m args below meth c R H locs cells slots MC MS la hC hR hW hS hL
  subst hst
  have hok := hC.2.2.2.2.2.2.2.2.2.2.2
  have hX := hC.2.2.2.2.2.2.2.2.2.1
  have hts := hC.2.2.2.2.2.1
  have hK := hC.2.2.2.2.2.2.2.2.1
  have hz := hC.2.2.2.2.2.2.2.2.2.2.1
  obtain ⟨hd, h2⟩ := ssLk_ok hok hl
  obtain ⟨k1, k2, k3, k4, k5, k6, k7, k8, k9, -⟩ := ssCa_ok hca
  have e1 : ssMN.getD n Lib.objectInit = ssY My := by rw [List.getD_eq_getElem?_getD, ← hmn, k7]; rfl
  simp only [chk2, Nat.beq, cond_true, e1] at h2
  refine ss_cont (rest := rest) (va_runSN (host := "SafeSenate") (Ts := ssTbl) (own := (ssY M).cls) (nL := ssML M) (As := As) (rest := rest) (n := As.length) ⟨hC.1, hC.2.1, hC.2.2.2.1, hC.2.2.2.2.1, hts⟩ hc
    ⟨va_cnB As.length hts (good_all (ss_words hca)) rfl rfl rfl (hX.2.2.2.2 _ (inNs_mem h2)) (hts _ k2) ⟨k4, k5, hAs ▸ k8⟩ ⟨Nat.le_trans hD hR.1, ?_⟩, hts _ (k9 h41), trivial⟩
    ⟨ssP_blind G _ h, fun U hU hWm => ⟨rfl, by rw [hU]; exact Nat.le_trans hz hS.1, by rw [hU]; exact hW, va_K.moved hWm.alike hK, by rw [hU]; exact (hX.kept (fun q q1 q2 => hS.2.1 q q1 q2)).warm hWm⟩⟩
    rfl rfl hL.1 rfl (lv_room hcat) hd ⟨by omega, by omega⟩) hS (fun r h' H1 locs1 q1 q2 q3 => kk r h' q1 p e s m args below meth c R H1 locs1 _ _ MC MS la hC ⟨hR.1, hR.2.1, by omega, hR.2.2.2.1, by omega, hR.2.2.2.2.2⟩ q2 q3 hL)
  have := hR.2.1
  show 8 + (ssML My + 11) + 64 * D1 ≤ R.locals
  omega
theorem v_callI (hl : ssLk M pc = some (.invokespecial i, 3, [n, pl, 0], v0)) (hca : ssCa My = true) (hmn : ssPl My 6 = n) (h40 : ssPl My 4 = 0) (hni7 : ssPl My 7 = 1) (hrt : ssRet My = none) (hc : ssC G My D1 mc1 ms1 (.ref b :: As) h Q1) (hAs : ssPl My 5 = As.length) (hst : st = As.reverse ++ .ref b :: rest) (hcat : (rest.map fun v => v.category).sum ≤ 8) (hD : D1 + 1 ≤ D)
    (kk : ∀ r h', Q1 r h' → ssV G M D mc ms Q (pc + 3) ls (r.toList ++ rest) h') : ssV G M D (mc1 + mc) (ms1 + ms) Q pc ls st h := by
  intro p e s m args below meth c R H locs cells slots MC MS la hC hR hW hS hL
  subst hst
  have hok := hC.2.2.2.2.2.2.2.2.2.2.2
  have hX := hC.2.2.2.2.2.2.2.2.2.1
  have hts := hC.2.2.2.2.2.1
  have hK := hC.2.2.2.2.2.2.2.2.1
  have hz := hC.2.2.2.2.2.2.2.2.2.2.1
  obtain ⟨hd, h2⟩ := ssLk_ok hok hl
  obtain ⟨k1, k2, k3, k4, k5, k6, k7, k8, -, k10⟩ := ssCa_ok hca
  obtain ⟨k11, k12, -⟩ := k10 h40
  have hni := k12 hni7
  have hw0 := ss_words hca
  unfold ssC at hc
  rw [hrt] at hc hw0
  have e1 : ssMN.getD n Lib.objectInit = ssY My := by rw [List.getD_eq_getElem?_getD, ← hmn, k7]; rfl
  simp only [chk2, Nat.beq, cond_false, e1] at h2
  refine ss_cont (rest := rest) (va_runI (Ts := ssTbl) (own := (ssY M).cls) (nL := ssML M) (As := As) (rest := rest) (n := As.length) ⟨hC.1, hC.2.1, hC.2.2.2.1, hC.2.2.2.2.1, hts⟩ hc
    ⟨callB_of As.length hts (good_all hw0) rfl rfl rfl (hts _ k2) (hts _ (inT_mem h2)) ⟨k4, k5, hAs ▸ k8⟩ ⟨Nat.le_trans hD hR.1, ?_⟩, hni, hts _ k11⟩
    ⟨ssP_blind G _ h, fun U hU hWm => ⟨rfl, by rw [hU]; exact Nat.le_trans hz hS.1, by rw [hU]; exact hW, va_K.moved hWm.alike hK, by rw [hU]; exact (hX.kept (fun q q1 q2 => hS.2.1 q q1 q2)).warm hWm⟩⟩
    rfl rfl hL.1 rfl (lv_room hcat) hd ⟨by omega, by omega⟩) hS (fun r h' H1 locs1 q1 q2 q3 => kk r h' q1 p e s m args below meth c R H1 locs1 _ _ MC MS la hC ⟨hR.1, hR.2.1, by omega, hR.2.2.2.1, by omega, hR.2.2.2.2.2⟩ q2 q3 hL)
  have := hR.2.1
  show 8 + (ssML My + 11) + 64 * D1 ≤ R.locals
  omega
theorem v_callIN (hl : ssLk M pc = some (.invokespecial i, 3, [n, pl, 1], v0)) (hca : ssCa My = true) (hmn : ssPl My 6 = n) (h40 : ssPl My 4 = 0) (hni7 : ssPl My 7 = 1) (hrt : ssRet My = none) (hc : ssC G My D1 mc1 ms1 (.ref b :: As) h Q1) (hAs : ssPl My 5 = As.length) (hst : st = As.reverse ++ .ref b :: rest) (hcat : (rest.map fun v => v.category).sum ≤ 8) (hD : D1 + 1 ≤ D)
    (kk : ∀ r h', Q1 r h' → ssV G M D mc ms Q (pc + 3) ls (r.toList ++ rest) h') : ssV G M D (mc1 + mc) (ms1 + ms) Q pc ls st h := by
  intro p e s m args below meth c R H locs cells slots MC MS la hC hR hW hS hL
  subst hst
  have hok := hC.2.2.2.2.2.2.2.2.2.2.2
  have hX := hC.2.2.2.2.2.2.2.2.2.1
  have hts := hC.2.2.2.2.2.1
  have hK := hC.2.2.2.2.2.2.2.2.1
  have hz := hC.2.2.2.2.2.2.2.2.2.2.1
  obtain ⟨hd, h2⟩ := ssLk_ok hok hl
  obtain ⟨k1, k2, k3, k4, k5, k6, k7, k8, -, k10⟩ := ssCa_ok hca
  obtain ⟨k11, k12, -⟩ := k10 h40
  have hni := k12 hni7
  have hw0 := ss_words hca
  unfold ssC at hc
  rw [hrt] at hc hw0
  have e1 : ssMN.getD n Lib.objectInit = ssY My := by rw [List.getD_eq_getElem?_getD, ← hmn, k7]; rfl
  simp only [chk2, Nat.beq, cond_true, e1] at h2
  refine ss_cont (rest := rest) (va_runIN (host := "SafeSenateModel") (Ts := ssTbl) (own := (ssY M).cls) (nL := ssML M) (As := As) (rest := rest) (n := As.length) ⟨hC.1, hC.2.1, hC.2.2.2.1, hC.2.2.2.2.1, hts⟩ hc
    ⟨va_cnB As.length hts (good_all hw0) rfl rfl rfl (hX.2.2.2.2 _ (inNs_mem h2)) (hts _ k2) ⟨k4, k5, hAs ▸ k8⟩ ⟨Nat.le_trans hD hR.1, ?_⟩, hni, hts _ k11⟩
    ⟨ssP_blind G _ h, fun U hU hWm => ⟨rfl, by rw [hU]; exact Nat.le_trans hz hS.1, by rw [hU]; exact hW, va_K.moved hWm.alike hK, by rw [hU]; exact (hX.kept (fun q q1 q2 => hS.2.1 q q1 q2)).warm hWm⟩⟩
    rfl rfl hL.1 rfl (lv_room hcat) hd ⟨by omega, by omega⟩) hS (fun r h' H1 locs1 q1 q2 q3 => kk r h' q1 p e s m args below meth c R H1 locs1 _ _ MC MS la hC ⟨hR.1, hR.2.1, by omega, hR.2.2.2.1, by omega, hR.2.2.2.2.2⟩ q2 q3 hL)
  have := hR.2.1
  show 8 + (ssML My + 11) + 64 * D1 ≤ R.locals
  omega
end SSG
