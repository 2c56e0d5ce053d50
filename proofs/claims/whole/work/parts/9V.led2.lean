/-! ===== SafeSenateLaw.led: the call with its handler ===== -/
def ssCw (G : ssG) (M : ssM) (hh : List (Nat × Nat × Nat × Nat)) (D mc ms : Nat) (As : List Value) (h : ssH) (Q : Option Value → ssH → Prop) : Prop :=
  Met (gL G) (ssY M) (Cond.codeWith (ssY M) (ssCC M) (ssML M) (ssRet M) hh :: ssTbl) (ssRm D mc ms) (ssP G As h) (ssQ G Q) mc ms (gA G)
def ssVt (G : ssG) (M : ssM) (hh : List (Nat × Nat × Nat × Nat)) (D mc ms : Nat) (Q : Option Value → ssH → Prop) (pc : Nat) (ls : List (Option Value)) (st : List Value) (h : ssH) : Prop :=
  ∀ (p : Program) (e : Env) (s : State) (m : MethodId) (args : Array Value) (below : List Frame) (meth : Method) (c : Code) (R : Room) (H : Heap) (locs : List Loc) (cells slots MC MS : Nat) (la : Array Slot),
    ssCx G M p s m args meth c → (D ≤ R.frames ∧ 64 * D ≤ R.locals ∧ cells + mc ≤ MC ∧ MC ≤ R.cells ∧ slots + ms ≤ MS ∧ MS ≤ R.slots) → c.exceptionTable.toList = tableOf hh → ssWd G h H → va_S (gA G) s.heap H locs → ssL la (ssML M) ls →
    W p (gL G) e R s m args below meth c H locs cells slots (MQ below (ssQ G Q) args s MC MS (gA G)) (F0 m pc la st)
theorem cw_of_vt {G : ssG} {M : ssM} {hh : List (Nat × Nat × Nat × Nat)} {D mc ms : Nat} {Q : Option Value → ssH → Prop} {ls : List (Option Value)} {h : ssH} {As : List Value} (hok : ssOk M = true) (hpl : plainName (ssY M).cls = true) (hls : prs ls 0 = lv_args 0 As) (hn : (lg_sl As).length ≤ ssML M) (hv : ssVt G M hh D mc ms Q 0 ls [] h) : ssCw G M hh D mc ms As h Q := by
  unfold ssCw
  refine MetFree.of_bodyS (code := ssCC M) (maxLocals := ssML M) (ret := ssRet M) hpl ?_ ?_
  · intro args s m h hn
    obtain ⟨m9, meth, c, hn9, h1, h2, h3, h4, -, h5, h6, -⟩ := Cond.codeWith_spec (atoms_spec (ws := Cond.codeWith (ssY M) (ssCC M) (ssML M) (ssRet M) hh :: ssTbl) h _ List.mem_cons_self)
    cases hn.symm.trans hn9
    exact ⟨meth, c, h1, h2, h3, h4, h5, h6⟩
  · intro p e s m args below meth c s₁ B hml hP _
    have hh0 : s₁.heap = s.heap := by rw [B.state]; rfl
    obtain ⟨rfl, h1, h2, h3, h4⟩ := hP
    have hts := atoms_spec (ws := Cond.codeWith (ssY M) (ssCC M) (ssML M) (ssRet M) hh :: ssTbl) B.pre
    have hl := lv_entry As (n := ssML M) hn
    have ht := vx_table (x := ssY M) B (hts _ List.mem_cons_self)
    have K := hv p e s m As.toArray below meth c (ssRm D mc ms) s.heap [] 0 0 mc ms _ ⟨B.exec, B.bytes, B.returns, hml, findClass_of_methodNamed B.named, fun w hw => hts w (List.mem_cons_of_mem _ hw), B.notSynchronized, (name_of_methodNamed B.named B.method).1, h3, h4, h1, hok⟩ ⟨Nat.le_refl _, Nat.le_refl _, by omega, Nat.le_refl _, by omega, Nat.le_refl _⟩ ht h2 va_S.rf (show ssL _ _ _ from by unfold ssL; rw [hls]; exact hl)
    rw [← lg_entry_eq] at K
    obtain ⟨t, a1, o, b1, b2, b3⟩ := K s₁ hh0 (Stand.of_body B)
    exact ⟨t, o, a1, b1, b2, ⟨b3.1, b3.2⟩⟩
/-- going on behind a call that returns or throws -/
theorem ss_contX {p : Program} {e : Env} {s : State} {m : MethodId} {args : Array Value} {below : List Frame} {meth : Method} {c : Code} {R : Room} {H : Heap} {locs : List Loc} {cells slots mc1 ms1 : Nat} {Q' : State → Prop} {G : ssG} {Q1 : Option Value → ssH → Prop} {P : Prop} {h : ssH} {pc : Nat} {la : Array Slot} {rest st0 : List Value} {a : Array Value}
    (hr : vx_Run p (gL G) e R s m args below meth c H locs cells slots mc1 ms1 (F0 m pc la st0) rest (ssQ G Q1 a) (XCl G P h) (gA G)) (hS : va_S (gA G) s.heap H locs)
    (kx : ∀ (ce : Cell) (q : Addr) (H1 : Heap) (locs1 : List Loc), P → ssWd G h H1 → va_S (gA G) s.heap H1 locs1 → H1[q]? = some ce → ce.vm = .none → s.vm.findClass nse = some ce.cls → vx_W p (gL G) e R s m args below meth c H1 locs1 (cells + mc1) (slots + ms1) Q' (F0 m pc la rest) q)
    (kk : ∀ (r : Option Value) (h' : ssH) (H1 : Heap) (locs1 : List Loc), Q1 r h' → ssWd G h' H1 → va_S (gA G) s.heap H1 locs1 → W p (gL G) e R s m args below meth c H1 locs1 (cells + mc1) (slots + ms1) Q' (F0 m (pc + 3) la (r.toList ++ rest))) : W p (gL G) e R s m args below meth c H locs cells slots Q' (F0 m pc la st0) := by
  intro T hT X
  have hSk : ∀ {T' t : State} {L : List Loc}, T'.heap = t.heap → H.size ≤ t.heap.size → (∀ q : Nat, q < H.size → ¬ gA G q → t.heap[q]? = H[q]?) → (∀ q ∈ L, gA G q.base) → va_S (gA G) s.heap T'.heap (locs ++ L) := fun e1 hz hk hL =>
    ⟨Nat.le_trans hS.1 (by rw [e1]; exact hz), fun q h1 h2 => by rw [e1, hk q (Nat.lt_of_lt_of_le h1 hS.1) h2]; exact hS.2.1 q h1 h2, fun q hq => by
      rcases List.mem_append.mp hq with h | h
      · exact hS.2.2 q h
      · exact hL q h⟩
  rcases hr T hT X with ⟨v, st₀, t, T', L, h0, X', hL, e1, e2, ⟨⟨r, h', hv, hq, hw⟩, hz, hk⟩, st⟩ | ⟨q, st₀, t, T', L, E, ce, h0, X', hL, e1, e2, ⟨hp, rfl, hw, hz, hk⟩, hce, hcv, hcl, st⟩
  · cases hv
    rw [h0] at hz hk
    obtain ⟨t2, a1, b1⟩ := kk v h' T'.heap (locs ++ L) hq (by rw [e1]; exact hw) (hSk e1 hz hk hL) T' rfl X'
    exact ⟨t2, st t2 a1, b1⟩
  · rw [h0] at hz hk
    obtain ⟨t2, a1, b1⟩ := kx ce q T'.heap (locs ++ L) hp (by rw [e1]; exact hw) (hSk e1 hz hk hL) (by rw [e1]; exact hce) hcv hcl T' rfl X'
    exact ⟨t2, st.trans a1, b1⟩
abbrev ledH : List (Nat × Nat × Nat × Nat) := [(0, 9, 12, 13)]
set_option maxRecDepth 100000 in
theorem ledT : (decide (Cond.classLink "SafeSenateLaw" 13 nse ∈ lw_tbl) && goodWord (Cond.classLink "SafeSenateLaw" 13 nse) && decide (Cond.castable nse nse ∈ lw_tbl) && isNest (Cond.castable nse nse) && decide (tableOf ledH = [⟨0, 9, 12, 13⟩])) = true := by decide +kernel
set_option maxRecDepth 100000 in
set_option maxHeartbeats 400000 in
theorem t_led (G : ssG) (h : ssH) {ad : Nat → Nat} {pl : Nat} {σ : sT} (i : Int) (hl : (gL G).stackTraces = false) (hc : CW0 h ad pl σ) (hok : sOk σ) (hi : -2147483648 ≤ i ∧ i < 2147483648) {ao : Nat} {v : Nat → Int64} (ho : h ao = some (.inl (2, 1, .inr (.inl v)))) : ssCw G mL_led ledH 7 1 6 [.ref (ad 0), .int (zI i), .ref ao] h (fun r h' => ((aLed σ i).2 = 1 ∧ r = some (.int (zI 1)) ∧ h = h') ∨ ((aLed σ i).2 = 0 ∧ r = some (.int (zI 0)) ∧ hset h ao (.inl (2, 1, .inr (.inl (vp_updL v 0 (zL (aLed σ i).1))))) = h')) := by
  refine cw_of_vt okL_led (by decide +kernel) (ls := [some (.ref (ad 0)), some (.int (zI i)), some (.ref ao), none]) rfl (Nat.le_of_ble_eq_true rfl) ?_
  intro p e s m args below meth c R H locs cells slots MC MS la hC hR htab hW hS hL
  have hok2 := hC.2.2.2.2.2.2.2.2.2.2.2
  have hX := hC.2.2.2.2.2.2.2.2.2.1
  have hts := hC.2.2.2.2.2.1
  have hK := hC.2.2.2.2.2.2.2.2.1
  have hz := hC.2.2.2.2.2.2.2.2.2.2.1
  have hlk : ∀ {pc n : Nat} {i : Instr} {r : List Nat} {v : Value}, ssLk mL_led pc = some (i, n, r, v) → decode (ssCC mL_led) pc = .ok (i, n) ∧ chk2 mL_led (pc, i, n, r, v) = true := fun q => ssLk_ok hok2 q
  refine lv_aload_n hC.1 hC.2.1 (hlk (pc := 0) (r := []) (v := .null) rfl).1 rfl (ssL_get (v := .ref ao) hL rfl) ?_
  refine lv_iconst (v := zI 0) hC.1 hC.2.1 (hlk (pc := 1) (r := []) (v := .int (zI 0)) rfl).1 rfl ?_
  refine lv_aload_n hC.1 hC.2.1 (hlk (pc := 2) (r := []) (v := .null) rfl).1 rfl (ssL_get (v := .ref (ad 0)) hL rfl) ?_
  refine lv_iload_n hC.1 hC.2.1 (hlk (pc := 3) (r := []) (v := .null) rfl).1 rfl (ssL_get (v := .int (zI i)) hL rfl) ?_
  obtain ⟨k1, k2, k3, k4, k5, k6, k7, k8, -, k10⟩ := ssCa_ok caX8_led
  obtain ⟨k11, -, k12⟩ := k10 rfl
  have k13 := k12 rfl
  have h2 := (hlk (pc := 4) (i := .invokevirtual 7) (n := 3) (v := .null) rfl).2
  have e1 : ssMN.getD 127 Lib.objectInit = ssY mX8_led := by rw [List.getD_eq_getElem?_getD, show (127 : Nat) = ssPl mX8_led 6 from rfl, k7]; rfl
  simp only [chk2, e1] at h2
  have hrecv : ∃ cell : Cell, H[ad 0]? = some cell ∧ cell.vm.isStatics = false ∧ s.vm.findClass (ssY mX8_led).cls = some cell.cls := by
    obtain ⟨ws, hw, hP, hD⟩ := hW
    obtain ⟨j, hj⟩ := hw (ad 0) _ hc.2.1
    exact va_recv hK hP (show vwCl[8]? = some (RX8, TX8, _) from rfl) hj
  have a2 := ledT
  simp only [Bool.and_eq_true, decide_eq_true_eq] at a2
  obtain ⟨⟨⟨⟨b1, b2⟩, b3⟩, b4⟩, b5⟩ := a2
  have hr1 := hR.1
  have hr2 := hR.2.1
  refine ss_contX (P := (aLed σ i).2 = 1) (h := h) (rest := [.int (zI 0), .ref ao]) (vx_runV (Ts := ssTbl) (own := (ssY mL_led).cls) (nL := ssML mL_led) (As := [.int (zI i)]) (rest := [.int (zI 0), .ref ao]) (n := 1) ⟨hC.1, hC.2.1, hC.2.2.2.1, hC.2.2.2.2.1, hts⟩ (k_led G h i hl hc hok hi)
    (cwV 1 hts (good_all (fun w hw => by
      simp only [wsV, List.mem_append, List.mem_cons, List.not_mem_nil, or_false] at hw
      rcases hw with (rfl | rfl | rfl | rfl) | hw
      · exact inT_mem h2
      · exact k11
      · exact k13
      · exact k2
      · exact hw.elim (fun q => q ▸ k1) id)) rfl rfl rfl ⟨rfl, k4, k5, k8⟩ ⟨?_, ?_⟩)
    ⟨ssP_blind G _ h, hrecv, fun U hU hWm => ⟨rfl, by rw [hU]; exact Nat.le_trans hz hS.1, by rw [hU]; exact hW, va_K.moved hWm.alike hK, by rw [hU]; exact (hX.kept (fun q q1 q2 => hS.2.1 q q1 q2)).warm hWm⟩⟩
    rfl rfl hL.1 rfl (lv_room (Nat.le_of_ble_eq_true rfl)) (hlk (pc := 4) (i := .invokevirtual 7) (n := 3) (v := .null) rfl).1 ⟨by omega, by omega⟩) hS ?_ ?_
  · show 6 + 1 ≤ R.frames
    omega
  · show 8 + (ssML mX8_led + 11) + 64 * 6 ≤ R.locals
    have : ssML mX8_led = 4 := rfl
    omega
  · intro ce q H1 locs1 hp hw1 hs1 hce hcv hcl
    refine vx_catch (own := "SafeSenateLaw") (name := nse) (E := nse) hC.2.2.2.2.1 [] ⟨0, 9, 12, 13⟩ [] (htab.trans b5) (fun z hz => absurd hz List.not_mem_nil) (by decide) (by decide) (hts _ (List.mem_filter.mpr ⟨b1, b2⟩)) (va_Nw.use rfl (hX.2.2.2.2 _ (List.mem_filter.mpr ⟨b3, b4⟩))) hce hcv hcl ?_
    have K : ssV G mL_led 7 0 0 (fun r h' => ((aLed σ i).2 = 1 ∧ r = some (.int (zI 1)) ∧ h = h') ∨ ((aLed σ i).2 = 0 ∧ r = some (.int (zI 0)) ∧ hset h ao (.inl (2, 1, .inr (.inl (vp_updL v 0 (zL (aLed σ i).1))))) = h')) 12 [some (.ref (ad 0)), some (.int (zI i)), some (.ref ao), none] [.ref q] h := by
      refine v_run 2 (pc' := 14) (ls' := [some (.ref (ad 0)), some (.int (zI i)), some (.ref ao), some (.ref q)]) (st' := [.int (zI 1)]) rfl ?_
      exact v_iret rfl rfl rfl (Or.inl ⟨hp, rfl, rfl⟩)
    exact K p e s m args below meth c R H1 locs1 _ _ MC MS la hC ⟨hR.1, hR.2.1, by omega, hR.2.2.2.1, by omega, hR.2.2.2.2.2⟩ hw1 hs1 hL
  · intro r h' H1 locs1 hq hw1 hs1
    obtain ⟨q0, rfl, rfl⟩ := hq
    have K : ssV G mL_led 7 0 0 (fun r h' => ((aLed σ i).2 = 1 ∧ r = some (.int (zI 1)) ∧ h = h') ∨ ((aLed σ i).2 = 0 ∧ r = some (.int (zI 0)) ∧ hset h ao (.inl (2, 1, .inr (.inl (vp_updL v 0 (zL (aLed σ i).1))))) = h')) 7 [some (.ref (ad 0)), some (.int (zI i)), some (.ref ao), none] [.int (zI (aLed σ i).1), .int (zI 0), .ref ao] h := by
      have hb := lwG_ok (fun k => σ 3 5 (k - 12)) i (σ 1 5 0) 0 0
      have hb5 : σ 1 5 0 ≤ 6 := hok.1.2.2.2.2.1
      refine v_run 1 (pc' := 8) (ls' := [some (.ref (ad 0)), some (.int (zI i)), some (.ref ao), none]) (st' := [.long (zI (aLed σ i).1).toInt64, .int (zI 0), .ref ao]) rfl ?_
      rw [zI_l (a := (aLed σ i).1) (by show _ ≤ (lwG _ _ _ _ _).1; omega) (by show (lwG _ _ _ _ _).1 < _; omega)]
      refine v_lastore rfl ho (zI_in (i := 0) (by decide) (by decide)) ?_
      refine v_run 2 (pc' := 16) (ls' := [some (.ref (ad 0)), some (.int (zI i)), some (.ref ao), none]) (st' := [.int (zI 0)]) rfl ?_
      exact v_iret rfl rfl rfl (Or.inr ⟨q0, rfl, rfl⟩)
    exact K p e s m args below meth c R H1 locs1 _ _ MC MS la hC ⟨hR.1, hR.2.1, by omega, hR.2.2.2.1, by omega, hR.2.2.2.2.2⟩ hw1 hs1 hL
set_option maxRecDepth 100000 in
theorem ledS : (decide (Cond.codeWith (ssY mL_led) (ssCC mL_led) (ssML mL_led) (ssRet mL_led) ledH ∈ lw_tbl) && goodWord (Cond.codeWith (ssY mL_led) (ssCC mL_led) (ssML mL_led) (ssRet mL_led) ledH) && decide (Cond.static (ssY mL_led) ∈ lw_tbl) && goodWord (Cond.static (ssY mL_led)) && decide (Cond.initialized (ssY mL_led).cls ∈ lw_tbl) && goodWord (Cond.initialized (ssY mL_led).cls) && decide (Cond.methodLink (ssY mL_law).cls 219 (ssY mL_led) ∈ lw_tbl) && goodWord (Cond.methodLink (ssY mL_law).cls 219 (ssY mL_led)) && decide ((ssY mL_led).cls ≠ "java/lang/invoke/MethodHandle") && decide ((ssY mL_led).cls ≠ "java/lang/invoke/VarHandle") && decide ((parseMethodDescriptor (ssY mL_led).desc).map (fun d => d.parameters.length) = some 3)) = true := by decide +kernel
set_option maxRecDepth 100000 in
theorem v_ledS {G : ssG} {D D1 mc ms mc1 ms1 : Nat} {Q Q1 : Option Value → ssH → Prop} {ls : List (Option Value)} {st As rest : List Value} {h : ssH} (hc : ssCw G mL_led ledH D1 mc1 ms1 As h Q1) (hAs : As.length = 3) (hst : st = As.reverse ++ rest) (hcat : (rest.map fun v => v.category).sum ≤ 8) (hD : D1 + 1 ≤ D)
    (kk : ∀ r h', Q1 r h' → ssV G mL_law D mc ms Q 1575 ls (r.toList ++ rest) h') : ssV G mL_law D (mc1 + mc) (ms1 + ms) Q 1572 ls st h := by
  intro p e s m args below meth c R H locs cells slots MC MS la hC hR hW hS hL
  subst hst
  have hok := hC.2.2.2.2.2.2.2.2.2.2.2
  have hX := hC.2.2.2.2.2.2.2.2.2.1
  have hts := hC.2.2.2.2.2.1
  have hK := hC.2.2.2.2.2.2.2.2.1
  have hz := hC.2.2.2.2.2.2.2.2.2.2.1
  have a2 := ledS
  simp only [Bool.and_eq_true, decide_eq_true_eq] at a2
  obtain ⟨⟨⟨⟨⟨⟨⟨⟨⟨⟨b1, b2⟩, b3⟩, b4⟩, b5⟩, b6⟩, b7⟩, b8⟩, b9⟩, b10⟩, b11⟩ := a2
  have hr1 := hR.1
  have hr2 := hR.2.1
  refine ss_cont (rest := rest) (vx_runSW (Ts := ssTbl) (own := (ssY mL_law).cls) (nL := ssML mL_law) (As := As) (rest := rest) (n := 3) ⟨hC.1, hC.2.1, hC.2.2.2.1, hC.2.2.2.2.1, hts⟩ hc
    (vx_cwSW 3 hts (good_all (fun w hw => by
      simp only [va_wsS, List.mem_append, List.mem_cons, List.not_mem_nil, or_false] at hw
      rcases hw with (rfl | rfl | rfl) | (rfl | hw)
      · exact List.mem_filter.mpr ⟨b7, b8⟩
      · exact List.mem_filter.mpr ⟨b3, b4⟩
      · exact List.mem_filter.mpr ⟨b5, b6⟩
      · exact List.mem_filter.mpr ⟨b1, b2⟩
      · exact hw)) rfl rfl rfl ⟨b9, b10, b11⟩ ⟨Nat.le_trans hD hR.1, ?_⟩)
    ⟨ssP_blind G _ h, fun U hU hWm => ⟨rfl, by rw [hU]; exact Nat.le_trans hz hS.1, by rw [hU]; exact hW, va_K.moved hWm.alike hK, by rw [hU]; exact (hX.kept (fun q q1 q2 => hS.2.1 q q1 q2)).warm hWm⟩⟩
    rfl hAs hL.1 rfl (lv_room hcat) (ssLk_ok hok (pc := 1572) (i := .invokestatic 219) (n := 3) rfl).1 ⟨by omega, by omega⟩) hS (fun r h' H1 locs1 q1 q2 q3 => kk r h' q1 p e s m args below meth c R H1 locs1 _ _ MC MS la hC ⟨hR.1, hR.2.1, by omega, hR.2.2.2.1, by omega, hR.2.2.2.2.2⟩ q2 q3 hL)
  have : ssML mL_led = 4 := rfl
  show 8 + (ssML mL_led + 11) + 64 * D1 ≤ R.locals
  omega
