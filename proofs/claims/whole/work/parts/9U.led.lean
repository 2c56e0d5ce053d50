/-! ===== led(i) of the class: a senator, or a NoSuchElementException ===== -/
abbrev nse : String := "java/util/NoSuchElementException"
abbrev nsN : List String := ["java/lang/RuntimeException", "java/lang/Exception"]
def XCl (G : ssG) (P : Prop) (h : ssH) : String → State → State → Prop := fun E st t => P ∧ E = nse ∧ ssWd G h t.heap ∧ va_F (gA G) st t
theorem ssWd.grow {G : ssG} {h : ssH} {H H1 : Heap} (hw : ssWd G h H) (hq : ∀ q, q < H.size → H1[q]? = H[q]?) : ssWd G h H1 := by
  obtain ⟨ws, a, b, c⟩ := hw
  exact ⟨ws, a, b.kept (fun k q hk => hq _ (b k q hk).lt), c⟩
def ssCX (G : ssG) (M : ssM) (D mc ms : Nat) (As : List Value) (h : ssH) (Q : Option Value → ssH → Prop) (XC : String → State → State → Prop) : Prop :=
  vx_Met (gL G) (ssY M) (Cond.code (ssY M) (ssCC M) (ssML M) (ssRet M) :: ssTbl) (ssRm D mc ms) (ssP G As h) (ssQ G Q) XC mc ms (gA G)
theorem cx_of_vx {G : ssG} {M : ssM} {D mc ms : Nat} {Q : Option Value → ssH → Prop} {XC : String → State → State → Prop} {ls : List (Option Value)} {h : ssH} {As : List Value} (hok : ssOk M = true) (hpl : plainName (ssY M).cls = true) (hls : prs ls 0 = lv_args 0 As) (hn : (lg_sl As).length ≤ ssML M) (hv : ssVx G M D mc ms Q XC 0 ls [] h) : ssCX G M D mc ms As h Q XC := by
  refine vx_ofW (cc := ssCC M) (maxL := ssML M) (ret := ssRet M) hpl rfl ?_
  intro p e s m args below meth c s₁ B hml htab hv0
  obtain ⟨rfl, h1, h2, h3, h4⟩ := hv0
  rw [lg_entry_eq]
  have hts := atoms_spec (ws := Cond.code (ssY M) (ssCC M) (ssML M) (ssRet M) :: ssTbl) B.pre
  have hl := lv_entry As (n := ssML M) hn
  refine hv p e s m As.toArray below meth c (ssRm D mc ms) s.heap [] 0 0 mc ms _ ⟨B.exec, B.bytes, B.returns, hml, findClass_of_methodNamed B.named, fun w hw => hts w (List.mem_cons_of_mem _ hw), B.notSynchronized, (name_of_methodNamed B.named B.method).1, h3, h4, h1, hok⟩ ⟨Nat.le_refl _, Nat.le_refl _, by omega, Nat.le_refl _, by omega, Nat.le_refl _, htab⟩ h2 va_S.rf ?_
  unfold ssL
  rw [hls]
  exact hl
set_option maxRecDepth 100000 in
theorem at_led : (vx_at0 "SafeSenate" 333 nse nsN).all (fun w => decide (w ∈ lw_tbl) && (goodWord w || isNest w) && vx_ot w && (goodWord w || w.onTables)) = true := by decide +kernel
set_option maxRecDepth 100000 in
theorem at_led2 : (decide (Cond.classLink "SafeSenate" 331 nse ∈ lw_tbl) && goodWord (Cond.classLink "SafeSenate" 331 nse) && decide (Cond.initialized nse ∈ lw_tbl) && goodWord (Cond.initialized nse) && Bundle.fit nse && nsN.all Bundle.fit) = true := by decide +kernel
theorem x_throwNse {G : ssG} {D mc ms : Nat} {Q : Option Value → ssH → Prop} {ls : List (Option Value)} {h : ssH} {P : Prop} (hl : (gL G).stackTraces = false) (hD : 6 ≤ D) (hmc : 1 ≤ mc) (hms : 6 ≤ ms) (hP : P) : ssVx G mX8_led D mc ms Q (XCl G P h) 43 ls [] h := by
  intro p e s m args below meth c R H locs cells slots MC MS la hC hR hW hS hL
  have hok := hC.2.2.2.2.2.2.2.2.2.2.2
  have hX := hC.2.2.2.2.2.2.2.2.2.1
  have hts := hC.2.2.2.2.2.1
  have a1 := at_led
  have a2 := at_led2
  simp only [Bool.and_eq_true, decide_eq_true_eq] at a2
  obtain ⟨⟨⟨⟨⟨b1, b2⟩, b3⟩, b4⟩, b5⟩, b6⟩ := a2
  have t1 : Cond.classLink "SafeSenate" 331 nse ∈ ssTbl := List.mem_filter.mpr ⟨b1, b2⟩
  have t2 : Cond.initialized nse ∈ ssTbl := List.mem_filter.mpr ⟨b3, b4⟩
  have hat : ∀ w ∈ vx_at0 "SafeSenate" 333 nse nsN, w.before args s = true ∧ vx_ot w = true := fun w hw => by
    have q := List.all_eq_true.mp a1 w hw
    simp only [Bool.and_eq_true, decide_eq_true_eq] at q
    obtain ⟨⟨⟨q1, q2⟩, q3⟩, q4⟩ := q
    refine ⟨?_, q3⟩
    cases hg : goodWord w with
    | true => exact hts w (List.mem_filter.mpr ⟨q1, hg⟩)
    | false =>
      rw [hg] at q2 q4
      exact va_Nw.use (by simpa using q4) (hX.2.2.2.2 w (List.mem_filter.mpr ⟨q1, by simpa using q2⟩))
  refine vx_throw0 (own := "SafeSenate") (cls := nse) (names := nsN) (ik := 331) (ic := 333) (A := gA G) hC.1 hC.2.1 hl hC.2.2.2.2.1 b5 (List.all_eq_true.mp b6) (hts _ t1) (hts _ t2) (fun w hw => (hat w hw).1) ?_ hX.2.2.1.2.2.1 hX.2.2.1.2.2.2.1 hS (hL.1.trans hC.2.2.2.1.symm) (ssLk_ok hok (pc := 43) (i := .new 331) (n := 3) rfl).1 (ssLk_ok hok (pc := 46) (i := .dup) (n := 1) (r := []) (v := .null) rfl).1 (ssLk_ok hok (pc := 47) (i := .invokespecial 333) (n := 3) rfl).1 (ssLk_ok hok (pc := 50) (i := .athrow) (n := 1) rfl).1 (fun x hx => (hR.2.2.2.2.2.2 x hx).elim) ?_ ?_ ?_ ?_ hC.2.2.2.2.2.2.1 ?_ hS.2.2 ?_ ?_
  · intro w hw
    rcases List.mem_cons.mp hw with rfl | hw
    · simp [vx_ot, b2]
    · rcases List.mem_cons.mp hw with rfl | hw
      · simp [vx_ot, b4]
      · exact (hat w hw).2
  · have := hR.1
    show 5 < R.frames
    omega
  · have := hR.2.1
    show 0 + (13 * (2 + 1) + 42) ≤ R.locals
    omega
  · have := hR.2.2.1
    have := hR.2.2.2.1
    omega
  · have := hR.2.2.2.2.1
    have := hR.2.2.2.2.2.1
    omega
  · intro t ht1 ht2 ht3
    refine ⟨hP, rfl, hW.grow ht3, Nat.le_trans hS.1 ht2, fun q h1 h2 => ?_⟩
    rw [ht3 q (Nat.lt_of_lt_of_le h1 hS.1)]
    exact hS.2.1 q h1 h2
  · have := hR.2.2.1
    omega
  · have := hR.2.2.2.2.1
    omega
def aLed (σ : sT) (i : Int) : Int × Int := lwG (fun k => σ 3 5 (k - 12)) i (σ 1 5 0) 0 0
theorem lwG_ok (V : Nat → Nat) (i : Int) : ∀ n s k, 0 ≤ (lwG V i n s k).1 ∧ (lwG V i n s k).1 ≤ ↑(s + n) ∧ ((lwG V i n s k).2 = 0 ∨ (lwG V i n s k).2 = 1)
  | 0, s, k => ⟨Int.le_refl _, by simp [lwG], Or.inr rfl⟩
  | n + 1, s, k => by
    rw [lwG]
    split
    · split
      · exact ⟨by simp, by simp; omega, Or.inl rfl⟩
      · have := lwG_ok V i n (s + 1) (k + 1)
        exact ⟨this.1, by have := this.2.1; omega, this.2.2⟩
    · have := lwG_ok V i n (s + 1) k
      exact ⟨this.1, by have := this.2.1; omega, this.2.2⟩
theorem lwG_congr {V W : Nat → Nat} (i : Int) : ∀ n s k, (∀ j, s ≤ j → j < s + n → V (12 + j) = W (12 + j)) → lwG V i n s k = lwG W i n s k
  | 0, s, k, _ => rfl
  | n + 1, s, k, e => by
    rw [lwG, lwG, e s (Nat.le_refl _) (by omega), lwG_congr i n (s + 1) (k + 1) (fun j h1 h2 => e j (by omega) (by omega)), lwG_congr i n (s + 1) k (fun j h1 h2 => e j (by omega) (by omega))]
theorem e_led {σ : sT} {ζ : Nat → Nat → Nat} {V : Nat → Nat} (rp : RP σ ζ) (rv : RV σ 3 V) (i : Int) : lwA ζ V i = aLed σ i := by
  unfold lwA aLed
  rw [rp.1.2.2.2.2.2.1]
  refine lwG_congr i _ _ _ (fun j _ h2 => ?_)
  show V (12 + j) = σ 3 5 (12 + j - 12)
  rw [Nat.add_sub_cancel_left]
  exact (rv.1 j (by omega)).2.2.1
set_option maxRecDepth 100000 in
set_option maxHeartbeats 400000 in
theorem k_led (G : ssG) (h : ssH) {ad : Nat → Nat} {pl : Nat} {σ : sT} (i : Int) (hl : (gL G).stackTraces = false) (hc : CW0 h ad pl σ) (hok : sOk σ) (hi : -2147483648 ≤ i ∧ i < 2147483648) : ssCX G mX8_led 6 1 6 [.ref (ad 0), .int (zI i)] h (fun r h' => (aLed σ i).2 = 0 ∧ r = some (.int (zI (aLed σ i).1)) ∧ h = h') (XCl G ((aLed σ i).2 = 1) h) := by
  refine cx_of_vx okX8_led (by decide +kernel) (ls := [some (.ref (ad 0)), some (.int (zI i)), none, none]) rfl (Nat.le_of_ble_eq_true rfl) ?_
  obtain ⟨i0, i1, i2, i3, i5, i7, a4, a6, a8, a9, a10, i11, i12, i14, i15⟩ := id hok.1
  obtain ⟨j0, j1, j2, b3, b4, b5, b6⟩ := id (hok.2.2 3 (by decide))
  simp only [fI] at i5
  refine x_run 4 (pc' := 4) (ls' := [some (.ref (ad 0)), some (.int (zI i)), some (.int (zI ↑(0 : Nat))), some (.int (zI ↑(0 : Nat)))]) (st' := []) rfl ?_
  have lp : ∀ (n s k : Nat), (s ≤ σ 1 5 0 ∧ k ≤ s ∧ lwG (fun k => σ 3 5 (k - 12)) i (σ 1 5 0 - s) s k = aLed σ i) → σ 1 5 0 + 1 ≤ s + n → ssVx G mX8_led 6 1 6 (fun r h' => (aLed σ i).2 = 0 ∧ r = some (.int (zI (aLed σ i).1)) ∧ h = h') (XCl G ((aLed σ i).2 = 1) h) 4 [some (.ref (ad 0)), some (.int (zI i)), some (.int (zI ↑k)), some (.int (zI ↑s))] [] h := by
    intro n
    induction n with
    | zero => intro s k hs1 hs2; exact absurd hs2 (by omega)
    | succ n ih =>
      intro s k hs1 hs2
      refine x_run 2 (pc' := 6) (ls' := [some (.ref (ad 0)), some (.int (zI i)), some (.int (zI ↑k)), some (.int (zI ↑s))]) (st' := [.ref (ad 0), .int (zI ↑s)]) rfl ?_
      refine x_get rfl hc.2.1 rfl ?_
      refine x_run 0 (pc' := 9) (ls' := [some (.ref (ad 0)), some (.int (zI i)), some (.int (zI ↑k)), some (.int (zI ↑s))]) (st' := [.ref (ad pl), .int (zI ↑s)]) rfl ?_
      refine x_get rfl hc.2.2.1.1 rfl ?_
      refine x_run 0 (pc' := 12) (ls' := [some (.ref (ad 0)), some (.int (zI i)), some (.int (zI ↑k)), some (.int (zI ↑s))]) (st' := [.int (zI ↑(σ 1 5 0)), .int (zI ↑s)]) rfl ?_
      refine x_icmp_ge rfl (fun c12 => ?_) (fun c12 => ?_)
      · simp (disch := omega) only [zI_lt, zI_le, zI_eq, zI_lt0, zI_le0, zI_0lt, zI_0le, zI_eq0] at c12
        exact x_throwNse hl (Nat.le_refl _) (Nat.le_refl _) (Nat.le_refl _) (by rw [← hs1.2.2, show σ 1 5 0 - s = 0 by omega]; rfl)
      · simp (disch := omega) only [zI_lt, zI_le, zI_eq, zI_lt0, zI_le0, zI_0lt, zI_0le, zI_eq0] at c12
        have e0 := hs1.2.2
        rw [show σ 1 5 0 - s = (σ 1 5 0 - (s + 1)) + 1 by omega, lwG, show 12 + s - 12 = s by omega] at e0
        have l12 := b5 s
        refine x_run 1 (pc' := 16) (ls' := [some (.ref (ad 0)), some (.int (zI i)), some (.int (zI ↑k)), some (.int (zI ↑s))]) (st' := [.ref (ad 0)]) rfl ?_
        refine x_get rfl hc.2.1 rfl ?_
        refine x_run 0 (pc' := 19) (ls' := [some (.ref (ad 0)), some (.int (zI i)), some (.int (zI ↑k)), some (.int (zI ↑s))]) (st' := [.ref (ad 33)]) rfl ?_
        refine x_get rfl hc.2.2.2.2.1.1 rfl ?_
        refine x_run 1 (pc' := 23) (ls' := [some (.ref (ad 0)), some (.int (zI i)), some (.int (zI ↑k)), some (.int (zI ↑s))]) (st' := [.int (zI ↑s), .ref (ad 36)]) rfl ?_
        refine x_iaload' rfl hc.2.2.2.2.1.2.2.2.1 s rfl (by omega) ?_
        refine x_run 0 (pc' := 24) (ls' := [some (.ref (ad 0)), some (.int (zI i)), some (.int (zI ↑k)), some (.int (zI ↑s))]) (st' := [.int (zI ↑(σ 3 5 s))]) rfl ?_
        refine x_if_ne rfl (fun c24 => ?_) (fun c24 => ?_)
        · simp (disch := omega) only [zI_lt, zI_le, zI_eq, zI_lt0, zI_le0, zI_0lt, zI_0le, zI_eq0] at c24
          refine x_run 2 (pc' := 4) (ls' := [some (.ref (ad 0)), some (.int (zI i)), some (.int (zI ↑k)), some (.int ((zI ↑s) + zI 1))]) (st' := []) rfl ?_
          rw [zI_s1]
          exact ih (s + 1) k ⟨by omega, by omega, by rw [← e0, if_neg (by omega)]⟩ (by omega)
        · simp (disch := omega) only [zI_lt, zI_le, zI_eq, zI_lt0, zI_le0, zI_0lt, zI_0le, zI_eq0] at c24
          refine x_run 2 (pc' := 29) (ls' := [some (.ref (ad 0)), some (.int (zI i)), some (.int (zI ↑k)), some (.int (zI ↑s))]) (st' := [.int (zI i), .int (zI ↑k)]) rfl ?_
          refine x_icmp_ne rfl (fun c29 => ?_) (fun c29 => ?_)
          · simp (disch := omega) only [zI_lt, zI_le, zI_eq, zI_lt0, zI_le0, zI_0lt, zI_0le, zI_eq0] at c29
            refine x_run 3 (pc' := 4) (ls' := [some (.ref (ad 0)), some (.int (zI i)), some (.int ((zI ↑k) + zI 1)), some (.int ((zI ↑s) + zI 1))]) (st' := []) rfl ?_
            rw [zI_s1, zI_s1]
            exact ih (s + 1) (k + 1) ⟨by omega, by omega, by rw [← e0, if_pos (by omega), if_neg (by omega)]⟩ (by omega)
          · simp (disch := omega) only [zI_lt, zI_le, zI_eq, zI_lt0, zI_le0, zI_0lt, zI_0le, zI_eq0] at c29
            refine x_run 1 (pc' := 33) (ls' := [some (.ref (ad 0)), some (.int (zI i)), some (.int (zI ↑k)), some (.int (zI ↑s))]) (st' := [.int (zI ↑s)]) rfl ?_
            exact ssVx.of (v_iret rfl rfl rfl (by rw [← e0, if_pos (by omega), if_pos (by omega)]; exact ⟨rfl, rfl, rfl⟩))
  exact lp (σ 1 5 0 + 1) 0 0 ⟨by omega, by omega, rfl⟩ (by omega)
