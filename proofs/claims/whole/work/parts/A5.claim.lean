/-! ===== THE LAW, from its entry ===== -/
def R_law : String := "SafeSenateLaw"
def lw_P (b : Addr) (xs : List Int32) (args : Array Value) (s : State) : Prop := args = #[.ref b] ∧ s.IntsAt b xs ∧ xs.length ≤ 3072 ∧ (Jvm.Cond.and given_1 narrow_1).before args s = true
def lw_Q (_ : Array Value) (s : State) (o : Outcome) (t : State) : Prop := o = .returned (some (.int 1)) ∧ Framed s o t [] 601024 7293034
def lw_Z (below : List Frame) (a : Array Value) (s : State) : State → Prop := fun t => ∃ o, t.status = .running ∧ Ended t below o ∧ lw_Q a s o t
/-- what holds at the law's entry -/
def lw_At (p : Program) (s : State) (m : MethodId) (meth : Method) (c : Code) (b L : Nat) (xs : Nat → Int32) : Prop :=
  p.tables.exec = Jvm.exec ∧ c.code = code ∧ meth.sig.returnType = ret ∧ c.maxLocals = 7 ∧ s.vm.findClass R_law = some m.cls ∧ (∀ w ∈ lw_tbl, w.before #[Value.ref b] s = true) ∧ va_X b L xs s s.heap ∧ b < s.heap.size ∧ meth.locks = false ∧ (Jvm.Cond.and given_1 narrow_1).before #[Value.ref b] s = true ∧ meth.name = x.name
set_option maxRecDepth 100000 in
theorem whole_start {p : Program} {e : Env} {s : State} {m : MethodId} {below : List Frame} {meth : Method} {c : Code} (l : Launch) (hst : l.stackTraces = false) {b L : Nat} {xs : Nat → Int32} (hL : L ≤ 3072) (C0 : lw_At p s m meth c b L xs) : W p l e room_1 s m #[Value.ref b] below meth c s.heap [] 0 0 (lw_Z below #[Value.ref b] s) (entryFrame m ([Value.ref b] : List Value).toArray 7) := by
  obtain ⟨hx, hb, hr, hml, hown, hts, hX, hbl, hlocks, hgv, hnm⟩ := id C0
  have hF : ∀ w ∈ nF, w.before #[Value.ref b] s = true := flat_of_before _ hgv
  have hA : ∀ a : Nat, a < s.heap.size → ¬ (fun q : Nat => s.heap.size ≤ q) a := fun a h => Nat.not_le.mpr h
  obtain ⟨adK, adV, hS, hev⟩ := str_world (A := fun q : Nat => s.heap.size ≤ q) hF hA
  obtain ⟨dC, dI, hKc⟩ := cls_world hts
  have z := wchZ
  simp only [Bool.and_eq_true] at z
  obtain ⟨⟨⟨⟨⟨⟨⟨⟨⟨⟨⟨⟨z1, z2⟩, z3⟩, z4⟩, z5⟩, z6⟩, z7⟩, z8⟩, z9⟩, z10⟩, z11⟩, z12⟩, z13⟩ := z
  have hao := hts _ (inL_mem z12)
  obtain ⟨gc, hgc⟩ := arr_world hts hao
  obtain ⟨gv, egv⟩ : ∃ gv : Nat → Nat, gv = fun k => if k < 22 then adV k else if k = 23 then b else if k = 24 then L else (xs (k - 30)).toBitVec.toNat := ⟨_, rfl⟩
  have g21 : gv 23 = b := by rw [egv]; rfl
  have g22 : gv 24 = L := by rw [egv]; rfl
  have gS : ∀ i, i < 22 → gv i = adV i := fun i hi => by rw [egv]; exact if_pos hi
  have gX : ∀ j, gv (30 + j) = (xs j).toBitVec.toNat := fun j => by
    rw [egv]
    simp only
    rw [if_neg (by omega), if_neg (by omega), if_neg (by omega), show 30 + j - 30 = j by omega]
  obtain ⟨G, hG⟩ : ∃ G : ssG, G = (l, (dC, dI), gc, s.heap.size, adK, gv) := ⟨_, rfl⟩
  have eL : gL G = l := by rw [hG]; rfl
  have eD : gD G = (dC, dI) := by rw [hG]; rfl
  have eC : gC G = gc := by rw [hG]; rfl
  have eZ : gz G = s.heap.size := by rw [hG]; rfl
  have eK : gK G = adK := by rw [hG]; rfl
  have eV : gV G = gv := by rw [hG]; rfl
  have eA : gA G = fun q : Nat => s.heap.size ≤ q := by rw [hG]; rfl
  have hT : va_T .int (gV G 23) (gV G 24) (fun k => .int (zI ↑(gV G (30 + k)))) (gA G) s s.heap := by
    obtain ⟨scr, h1, h2, h3, h4, h5⟩ := hX
    refine ⟨scr, by rw [eV, g21]; exact h1, h2, h3, by rw [eV, g22, h4]; exact Nat.le_refl _, by rw [eV, g22, h4] <;> rfl, fun j hj => ?_, by rw [eA, eV, g21]; exact hA b hbl⟩
    rw [eV, g22] at hj
    rw [h5 j hj, eV]
    show _ = some (Value.int (zI ↑(gv (30 + j))))
    rw [gX, zI_bt]
  have hXX : ssX G s s.heap := by
    refine ⟨?_, ?_, ⟨?_, ?_, ?_, ?_, hT⟩, va_AO.of hao, fun w hw => ?_⟩
    · rw [eK, eV, eA]
      exact ⟨fun i hi => by rw [gS i hi]; exact hS.1 i hi, hS.2⟩
    · intro q hq
      obtain ⟨n, hn⟩ := List.getElem?_of_mem hq
      have hn2 : n < 22 := by have := (List.getElem?_eq_some_iff.mp hn).1; rw [wchR_ok.2] at this; exact this
      have c := List.all_eq_true.mp wchR_ok.1 n (List.mem_range.mpr hn2)
      unfold wchR at c
      rw [hn] at c
      cases hp : plR[n]? with
      | none => rw [hp] at c; cases c
      | some p =>
        rw [hp] at c
        simp only [Bool.and_eq_true, Bool.or_eq_true, decide_eq_true_eq] at c
        obtain ⟨⟨⟨c1, c2⟩, c3⟩, c4⟩ := c
        rw [eK]
        refine vk_R.of (hts _ (inL_mem c1)) ?_
        rw [c3, c4]; exact hev _ c2
    · rw [eA]; exact va_Zof (hts _ (inL_mem z5)) (hts _ (inL_mem z9)) (va_eqi (hF _ (inF_mem z1))) hA
    · rw [eA]; exact va_Zqof (hts _ (inL_mem z6)) (hts _ (inL_mem z10)) (hF _ (inF_mem z2)) hA
    · rw [eA]; exact vx_Zqof (hts _ (inL_mem z7)) (hts _ (inL_mem z11)) (hF _ (inF_mem z3)) hA
    · rw [eA]; exact vx_Zqof (hts _ (inL_mem z8)) (hts _ (inL_mem z11)) (hF _ (inF_mem z4)) hA
    · exact va_Nw.of (List.all_eq_true.mp z13 w hw) (hts w (List.mem_filter.mp hw).1)
  have hKK : va_K (gD G) vwCl (ssTys G) s := by
    rw [eD]
    unfold ssTys
    rw [eC]
    exact ⟨hKc, hgc⟩
  have hW : ssWd G (fun _ => none) s.heap := ⟨[], fun a e h => (by cases h), fun k q h => by simp at h, ⟨fun i j p q h => by simp at h, fun k q h => by simp at h⟩⟩
  have go := law_go (G := G) (Q := fun r _ => r = some (.int (zI 1))) (by rw [eL]; exact hst) (fun _ => rfl) (by rw [eV, g22]; exact hL)
  rw [lg_entry_eq]
  have hl := lv_entry ([.ref b]) (n := 7) (Nat.le_of_ble_eq_true rfl)
  have K := go p e s m #[Value.ref b] below meth c room_1 s.heap [] 0 0 601024 7293034 _ ⟨hx, hb, hr, hml, hown, fun w hw => hts w (List.mem_filter.mp hw).1, hlocks, hnm, hKK, hXX, by rw [eZ]; exact Nat.le_refl _, okL_law⟩ ⟨by decide, by decide, by decide, by decide, by decide, by decide⟩ hW va_S.rf (show ssL _ 7 _ from by unfold ssL; rw [eV, g21]; exact hl)
  rw [eL] at K
  intro T hT2 X
  obtain ⟨t, a1, o, b1, b2, ⟨⟨r, h', c1, c2, -⟩, -⟩, Lc, ⟨f1, f2, f3⟩, hLc⟩ := K T hT2 X
  refine ⟨t, a1, o, b1, b2, by rw [c1, c2]; rfl, f1, f2, ?_⟩
  exact State.sameButNew.drop_fresh (L := []) f3 (fun x hx => by have := hLc x hx; rw [eA] at this; exact this)
set_option maxHeartbeats 4000000 in
theorem lw_walk (l : Launch) (hst : l.stackTraces = false) (b : Addr) (xs : List Int32) : MetFree l x (headSpec (Jvm.Cond.code x code maxLocals ret :: tables_1) room_1) (lw_P b xs) (fun _ _ _ _ _ => True) lw_Q := by
  refine MetFree.of_bodyS (code := code) (maxLocals := maxLocals) (ret := ret) (by decide) ?_ ?_
  · intro args s m h hn
    obtain ⟨meth, c, h1, h2, h3, h4, h5, h6, -, -⟩ := Cond.code_spec hn (atoms_spec (ws := Jvm.Cond.code x code maxLocals ret :: tables_1) h _ List.mem_cons_self)
    exact ⟨meth, c, h1, h2, h3, h4, h5, h6⟩
  · intro p e s m args below meth c s₁ B hml0 hP _
    obtain ⟨rfl, hx, hbd, hgv⟩ := hP
    obtain ⟨scr, harrAt, hlist, hof, hsmall⟩ := hx
    obtain ⟨hcb, hkn, -, -⟩ := State.arrayAt?_spec harrAt
    have hown : s.vm.findClass R_law = some m.cls := findClass_of_methodNamed B.named
    have hts0 : ∀ c ∈ (Jvm.Cond.code x code maxLocals ret :: tables_1), c.before #[Value.ref b] s = true := atoms_spec (ws := Jvm.Cond.code x code maxLocals ret :: tables_1) B.pre
    have hts : ∀ w ∈ lw_tbl, w.before #[Value.ref b] s = true := k2_hts_sels lw_privs (fun w hw => hts0 w (List.mem_cons_of_mem _ hw)) lw_privs_ok
    have hml : c.maxLocals = 7 := B.maxLocals_eq (hts0 _ List.mem_cons_self)
    have X₀ : Stand p l e room_1 s m #[Value.ref b] below meth c s₁ [] 0 0 := Stand.of_body B
    have hh0 : s₁.heap = s.heap := by rw [B.state]; rfl
    have hsz : scr.slots.size = xs.length := by rw [← Array.length_toList, hlist, List.length_map]
    have hval : ∀ j : Nat, j < xs.length → scr.slots[j]? = some (.int (xs.getD j 0)) := fun j hj => by
      rw [← Array.getElem?_toList, hlist]
      simp [hj]
    have hbl : b < s.heap.size := (Array.getElem?_eq_some_iff.mp hcb).1
    have hX : va_X b xs.length (fun j => xs.getD j 0) s s.heap := ⟨scr, hcb, hof, hkn, hsz, hval⟩
    have K : W p l e room_1 s m #[Value.ref b] below meth c s₁.heap [] 0 0 (lw_Z below #[Value.ref b] s) (entryFrame m ([Value.ref b] : List Value).toArray 7) := by
      rw [hh0]
      exact whole_start l hst hbd ⟨B.exec, B.bytes, B.returns, hml, hown, hts, hX, hbl, B.notSynchronized, hgv, (name_of_methodNamed B.named B.method).1⟩
    obtain ⟨t, a1, o, b1, b2, b3⟩ := K s₁ rfl X₀
    exact ⟨t, o, a1, b1, b2, b3⟩
theorem lw_pre_spec {args : Array Value} {s : State} (h : (Jvm.Cond.and given_1 narrow_1).before args s = true) (hr : rest_1_c.before args s = true) : ∃ (b : Addr) (xs : List Int32), lw_P b xs args s := by
  have hs := flat_of_before _ h
  have hq := flat_of_before _ hr
  have hc : (Cond.count 1).before args s = true := hs _ (by decide +kernel)
  have harr : (Cond.arrayOf (.arg 0) .int).before args s = true := hs _ (by decide +kernel)
  have hle : (Cond.le (.length (.arg 0)) (.int 3072)).before args s = true := hs _ (by decide +kernel)
  have hlen : (Cond.isInt (.length (.arg 0))).before args s = true := hq _ (by decide +kernel)
  have hall : (Cond.all (.arg 0) (.isInt (.elem (.arg 0) (.index 0)))).before args s = true := hq _ (by decide +kernel)
  obtain ⟨b, xs, hb, hx⟩ := State.ints_of_pre rfl harr hlen hall
  have hsm : xs.length < 2 ^ 31 := hx.choose_spec.2.2.2
  have hev : (Term.length (.arg 0)).eval args s none [] s = some (.int xs.length.toInt32) := hx.length_eval hb
  have hv := Cond.le_ints hev (show (Term.int 3072).eval args s none [] s = some (.int 3072) from rfl)
  have hd : xs.length.toInt32 ≤ 3072 := by
    simpa [Cond.before, Cond.holds, hv] using hle
  have hN : xs.length ≤ 3072 := (Int32.ofNat_le_ofNat hsm (by decide)).mp (show Int32.ofNat xs.length ≤ Int32.ofNat 3072 from hd)
  exact ⟨b, xs, Cond.one_arg hc (show args[0]? = some (.ref b) from hb), hx, hN, h⟩
theorem lw_comes (l : Launch) (hst : l.stackTraces = false) : Comes l x (Jvm.Cond.code x code maxLocals ret :: tables_1) room_1 (fun tb e args s => Calls_1 tb e args s ∧ rest_1 tb e args s ∧ Pre_1 tb e args s)
    (fun _ _ args s o t => lw_Q args s o t) := by
  intro p e ha hc hk s m args below hf hfit hheap happ hpre
  obtain ⟨b, xs, hP⟩ := lw_pre_spec hpre.2.2 hpre.2.1
  obtain ⟨k, o, h1, h2, h3, hQ⟩ := lw_walk l hst b xs p e ha hc hk s m args below hf ((Spec.applies_iff_loose hf).mp happ).1 hP trivial
  exact ⟨k, o, h1, h2, h3, hQ⟩
theorem lw_frame {s t : State} {o : Outcome} {args : Array Value} (h : Framed s o t [] 601024 7293034) :
    Framed s o t (fieldLocs frame_1_writes args s ++ arrayLocs frame_1_arrays args s ++ staticLocs frame_1_statics s) 601024 7293034 := h
theorem lw_limb (L : Cond) (hL : ∀ (args : Array Value) (s t : State), L.after args s (.returned (some (.int 1))) t = true) :
    ArmFor flags0 classFile x code maxLocals ret World_1 tables_1 room_1 Calls_1 rest_1 Pre_1
      (fun tb e a s o t => postC L tb e a s o t ∧ Framed s o t (fieldLocs frame_1_writes a s ++ arrayLocs frame_1_arrays a s ++ staticLocs frame_1_statics s) 601024 7293034) := by
  intro l hfl _ _ p e ha hc hk s m args below hf hfit hheap happ hpre
  have hst : l.stackTraces = false := by
    unfold Launch.stackTraces
    rw [hfl]
    decide
  obtain ⟨k, o, h1, h2, h3, rfl, hF⟩ := lw_comes l hst p e ha hc hk s m args below hf hfit hheap happ hpre
  exact ⟨k, _, h1, h2, h3, hL args s _, lw_frame hF⟩
theorem i_vc : Claimed_1_1 ∧ Claimed_1_2 := ⟨lw_limb limb_1_1 (fun args s t => by simp [limb_1_1, Cond.after, Cond.holds, Cond.value]), lw_limb limb_1_2 (fun args s t => Cond.after_iff.mpr (by
  first | (rw [show limb_1_2 = Cond.eq .result (.int 1) from rfl, Cond.eq_ints (x := 1) (y := 1) rfl rfl]; simp; done) | (simp [limb_1_2, Cond.value, Term.eval]; done)))⟩
