def fndT (τ : sT) (w : Nat) : Nat := fstN (fun k => decide (τ 5 8 k = w)) (τ 5 7 0) 0
def cNew (E : pE) (τ : sT) (s k i : Nat) : pR (Nat × sT) := if nmB (eB E) (eN E) i = false then .inl (1, tP (eB E) (eN E) i) else if fndT τ (tV (eB E) (eN E) i) < τ 5 7 0 then .inl (3, tP (eB E) (eN E) i) else .inr (i + 1, tU (tU (tU (tU τ 5 8 (τ 5 7 0) (tV (eB E) (eN E) i)) 5 9 (τ 5 7 0) s) 5 10 (τ 5 7 0) k) 5 7 0 (τ 5 7 0 + 1))
def cTold (E : pE) (τ : sT) (s i : Nat) : pR Nat := if nmB (eB E) (eN E) i = false then .inl (1, tP (eB E) (eN E) i) else if fndT τ (tV (eB E) (eN E) i) < τ 5 7 0 ∧ τ 5 9 (fndT τ (tV (eB E) (eN E) i)) = s then .inr (τ 5 10 (fndT τ (tV (eB E) (eN E) i))) else .inl (2, tP (eB E) (eN E) i)
set_option maxRecDepth 100000 in
set_option maxHeartbeats 400000 in
theorem c_isName (G : ssG) (h : ssH) {ad : Nat → Nat} {po : Nat} {E : pE} {τ : sT} {i : Nat}  (hA : ∀ k l, ad k = ad l → k = l) (hp : po = 11 ∨ po = 22) (hw : PW h ad po E τ i) (ht : TOk τ) (hT : TkE E) (hl : liv (eB E) (eN E) i)  : ssC G mX3_isName 0 0 0 [.ref (ad 1)] h (rI (zb (nmB (eB E) (eN E) i)) h) := by
  refine c_of_v okX3_isName (by decide +kernel) (ls := [some (.ref (ad 1))]) rfl (Nat.le_of_ble_eq_true rfl) ?_
  obtain ⟨s1, s2, s3, s4⟩ := hT.1 i (by have := liv_le hl; have := hT.2; omega) hl
  have tk1 := kS_le (T := eB E) (n := eN E) (pos (eB E) (eN E) i)
  have tk2 := tK_le (T := eB E) (n := eN E) i
  have tk3 := tP_le (T := eB E) (n := eN E) i
  have tk4 := hT.2
  have tk5 := liv_le hl
  refine v_run 1 (pc' := 1) (ls' := [some (.ref (ad 1))]) (st' := [.ref (ad 1)]) rfl ?_
  refine v_get rfl hw.1 rfl ?_
  refine v_run 0 (pc' := 4) (ls' := [some (.ref (ad 1))]) (st' := [.ref (ad 2)]) rfl ?_
  refine v_get rfl hw.2.1 rfl ?_
  refine v_run 1 (pc' := 8) (ls' := [some (.ref (ad 1))]) (st' := [.int (zI 1), .int (zI ↑(eS E i))]) rfl ?_
  have sc := cS_le (tS (eB E) (eN E) i)
  refine v_icmp_ne rfl (fun c8 => ?_) (fun c8 => ?_)
  · simp (disch := omega) only [zI_lt, zI_le, zI_eq, zI_lt0, zI_le0, zI_0lt, zI_0le, zI_eq0] at c8
    have es : ¬ tS (eB E) (eN E) i = 2 := fun z => by rw [z] at s1; exact c8 (by rw [s1]; rfl)
    refine v_run 1 (pc' := 38) (ls' := [some (.ref (ad 1))]) (st' := [.int (zI 0)]) rfl ?_
    exact v_iret rfl rfl rfl ⟨by rw [show nmB (eB E) (eN E) i = false from decide_eq_false (fun z => es z.1)]; rfl, rfl⟩
  · simp (disch := omega) only [zI_lt, zI_le, zI_eq, zI_lt0, zI_le0, zI_0lt, zI_0le, zI_eq0] at c8
    have es : tS (eB E) (eN E) i = 2 := cS_1.mp (by omega)
    refine v_run 1 (pc' := 12) (ls' := [some (.ref (ad 1))]) (st' := [.ref (ad 1)]) rfl ?_
    refine v_get rfl hw.1 rfl ?_
    refine v_run 0 (pc' := 15) (ls' := [some (.ref (ad 1))]) (st' := [.ref (ad 2)]) rfl ?_
    refine v_get rfl hw.2.1 rfl ?_
    refine v_run 0 (pc' := 18) (ls' := [some (.ref (ad 1))]) (st' := [.int (zI ↑(eK E i))]) rfl ?_
    refine v_if_eq rfl (fun c18 => ?_) (fun c18 => ?_)
    · simp (disch := omega) only [zI_lt, zI_le, zI_eq, zI_lt0, zI_le0, zI_0lt, zI_0le, zI_eq0] at c18
      refine v_run 2 (pc' := 38) (ls' := [some (.ref (ad 1))]) (st' := [.int (zI 1)]) rfl ?_
      exact v_iret rfl rfl rfl ⟨by rw [show nmB (eB E) (eN E) i = true from decide_eq_true ⟨es, by omega⟩]; rfl, rfl⟩
    · simp (disch := omega) only [zI_lt, zI_le, zI_eq, zI_lt0, zI_le0, zI_0lt, zI_0le, zI_eq0] at c18
      refine v_run 1 (pc' := 22) (ls' := [some (.ref (ad 1))]) (st' := [.ref (ad 1)]) rfl ?_
      refine v_get rfl hw.1 rfl ?_
      refine v_run 0 (pc' := 25) (ls' := [some (.ref (ad 1))]) (st' := [.ref (ad 2)]) rfl ?_
      refine v_get rfl hw.2.1 rfl ?_
      refine v_run 1 (pc' := 30) (ls' := [some (.ref (ad 1))]) (st' := [.int (zI 9), .int (zI ↑(eK E i))]) rfl ?_
      refine v_icmp_le rfl (fun c30 => ?_) (fun c30 => ?_)
      · simp (disch := omega) only [zI_lt, zI_le, zI_eq, zI_lt0, zI_le0, zI_0lt, zI_0le, zI_eq0] at c30
        refine v_run 1 (pc' := 38) (ls' := [some (.ref (ad 1))]) (st' := [.int (zI 0)]) rfl ?_
        exact v_iret rfl rfl rfl ⟨by rw [show nmB (eB E) (eN E) i = false from decide_eq_false (fun z => by have := z.2; omega)]; rfl, rfl⟩
      · simp (disch := omega) only [zI_lt, zI_le, zI_eq, zI_lt0, zI_le0, zI_0lt, zI_0le, zI_eq0] at c30
        refine v_run 2 (pc' := 38) (ls' := [some (.ref (ad 1))]) (st' := [.int (zI 1)]) rfl ?_
        exact v_iret rfl rfl rfl ⟨by rw [show nmB (eB E) (eN E) i = true from decide_eq_true ⟨es, by omega⟩]; rfl, rfl⟩

set_option maxRecDepth 100000 in
set_option maxHeartbeats 400000 in
theorem c_index (G : ssG) (h : ssH) {ad : Nat → Nat} {po : Nat} {E : pE} {τ : sT} {i : Nat}  (hA : ∀ k l, ad k = ad l → k = l) (hp : po = 11 ∨ po = 22) (hw : PW h ad po E τ i) (ht : TOk τ) (hT : TkE E) (hl : liv (eB E) (eN E) i) (es : tS (eB E) (eN E) i = 2) : ssC G mX3_nameIndex 0 0 0 [.ref (ad 1)] h (rI (zI (if fndT τ (tV (eB E) (eN E) i) < τ 5 7 0 then ↑(fndT τ (tV (eB E) (eN E) i)) else -1)) h) := by
  refine c_of_v okX3_nameIndex (by decide +kernel) (ls := [some (.ref (ad 1)), none]) rfl (Nat.le_of_ble_eq_true rfl) ?_
  obtain ⟨s1, s2, s3, s4⟩ := hT.1 i (by have := liv_le hl; have := hT.2; omega) hl
  have tk1 := kS_le (T := eB E) (n := eN E) (pos (eB E) (eN E) i)
  have tk2 := tK_le (T := eB E) (n := eN E) i
  have tk3 := tP_le (T := eB E) (n := eN E) i
  have tk4 := hT.2
  have tk5 := liv_le hl
  refine v_run 2 (pc' := 2) (ls' := [some (.ref (ad 1)), some (.int (zI 0))]) (st' := []) rfl ?_
  have ev := s4 (Or.inl es)
  have hv : tV (eB E) (eN E) i < 1099511627776 := kV_lt2 es
  have h17 : τ 5 7 0 ≤ 17 := ht 5 7 0 (by omega)
  obtain ⟨f1, f2, f3, f4⟩ := fstN_bd (fun k => decide (τ 5 8 k = tV (eB E) (eN E) i)) (τ 5 7 0) 0
  have lp : ∀ (f : Nat) (j : Nat), (j ≤ τ 5 7 0 ∧ ∀ d, d < j → ¬ τ 5 8 d = tV (eB E) (eN E) i) → 18 ≤ j + f → ssV G mX3_nameIndex 0 0 0 (rI (zI (if fndT τ (tV (eB E) (eN E) i) < τ 5 7 0 then ↑(fndT τ (tV (eB E) (eN E) i)) else -1)) h) 2 [some (.ref (ad 1)), some (.int (zI ↑j))] [] (h) := by
    intro f
    induction f with
    | zero => intro j hs1 hs2; obtain ⟨q1, q2⟩ := hs1; exact absurd hs2 (by omega)
    | succ f ihlp =>
      intro j hs1 hs2
      obtain ⟨q1, q2⟩ := hs1
      refine v_run 2 (pc' := 4) (ls' := [some (.ref (ad 1)), some (.int (zI ↑j))]) (st' := [.ref (ad 1), .int (zI ↑j)]) rfl ?_
      refine v_get rfl hw.1 rfl ?_
      refine v_run 0 (pc' := 7) (ls' := [some (.ref (ad 1)), some (.int (zI ↑j))]) (st' := [.int (zI ↑(τ 5 7 0)), .int (zI ↑j)]) rfl ?_
      refine v_icmp_ge rfl (fun c7 => ?_) (fun c7 => ?_)
      · simp (disch := omega) only [zI_lt, zI_le, zI_eq, zI_lt0, zI_le0, zI_0lt, zI_0le, zI_eq0] at c7
        have hno : ¬ fndT τ (tV (eB E) (eN E) i) < τ 5 7 0 := fun z => by have := f3 (by unfold fndT at z; omega); rw [decide_eq_true_eq] at this; exact q2 _ (by unfold fndT at z; omega) this
        refine v_run 1 (pc' := 42) (ls' := [some (.ref (ad 1)), some (.int (zI ↑j))]) (st' := [.int (zI (-1))]) rfl ?_
        exact v_iret rfl rfl rfl ⟨by rw [if_neg hno], rfl⟩
      · simp (disch := omega) only [zI_lt, zI_le, zI_eq, zI_lt0, zI_le0, zI_0lt, zI_0le, zI_eq0] at c7
        refine v_run 2 (pc' := 13) (ls' := [some (.ref (ad 1)), some (.int (zI ↑j))]) (st' := [.int (zI 17), .int (zI ↑j)]) rfl ?_
        refine v_icmp_ge rfl (fun c13 => ?_) (fun c13 => ?_)
        · simp (disch := omega) only [zI_lt, zI_le, zI_eq, zI_lt0, zI_le0, zI_0lt, zI_0le, zI_eq0] at c13
          have hno : ¬ fndT τ (tV (eB E) (eN E) i) < τ 5 7 0 := fun z => by have := f3 (by unfold fndT at z; omega); rw [decide_eq_true_eq] at this; exact q2 _ (by unfold fndT at z; omega) this
          refine v_run 1 (pc' := 42) (ls' := [some (.ref (ad 1)), some (.int (zI ↑j))]) (st' := [.int (zI (-1))]) rfl ?_
          exact v_iret rfl rfl rfl ⟨by rw [if_neg hno], rfl⟩
        · simp (disch := omega) only [zI_lt, zI_le, zI_eq, zI_lt0, zI_le0, zI_0lt, zI_0le, zI_eq0] at c13
          have hb : τ 5 8 j ≤ 1099511627775 := ht 5 8 j (by omega)
          refine v_run 1 (pc' := 17) (ls' := [some (.ref (ad 1)), some (.int (zI ↑j))]) (st' := [.ref (ad 1)]) rfl ?_
          refine v_get rfl hw.1 rfl ?_
          refine v_run 1 (pc' := 21) (ls' := [some (.ref (ad 1)), some (.int (zI ↑j))]) (st' := [.int (zI ↑j), .ref (ad 8)]) rfl ?_
          refine v_laload' rfl hw.2.2.2.1.1 (i := j) rfl (by omega) ?_
          refine v_run 1 (pc' := 23) (ls' := [some (.ref (ad 1)), some (.int (zI ↑j))]) (st' := [.ref (ad 1), .long (zL ↑(τ 5 8 j))]) rfl ?_
          refine v_get rfl hw.1 rfl ?_
          refine v_run 0 (pc' := 26) (ls' := [some (.ref (ad 1)), some (.int (zI ↑j))]) (st' := [.ref (ad 2), .long (zL ↑(τ 5 8 j))]) rfl ?_
          refine v_get rfl hw.2.1 rfl ?_
          refine v_run 1 (pc' := 30) (ls' := [some (.ref (ad 1)), some (.int (zI ↑j))]) (st' := [.int (lg_cmp (zL ↑(τ 5 8 j)) (eV E i))]) rfl ?_
          refine v_if_ne rfl (fun c30 => ?_) (fun c30 => ?_)
          · rw [lg_eq0, ev, zL_eq (by omega) (by omega) (by omega) (by omega)] at c30
            refine v_run 2 (pc' := 2) (ls' := [some (.ref (ad 1)), some (.int ((zI ↑j) + zI 1))]) (st' := []) rfl ?_
            rw [zI_s1]
            exact ihlp (j + 1) ⟨by omega, fun d hd => by
              by_cases e : d = j
              · rw [e]; omega
              · exact q2 d (by omega)⟩ (by omega)
          · rw [lg_eq0, ev, zL_eq (by omega) (by omega) (by omega) (by omega)] at c30
            have ej : fndT τ (tV (eB E) (eN E) i) = j := by
                unfold fndT
                rcases Nat.lt_trichotomy (fstN (fun k => decide (τ 5 8 k = tV (eB E) (eN E) i)) (τ 5 7 0) 0) j with z | z | z
                · have := f3 (by omega); rw [decide_eq_true_eq] at this; exact absurd this (q2 _ z)
                · exact z
                · have := f4 j (by omega) z; rw [decide_eq_false_iff_not] at this; exact absurd (by omega) this
            refine v_run 1 (pc' := 34) (ls' := [some (.ref (ad 1)), some (.int (zI ↑j))]) (st' := [.int (zI ↑j)]) rfl ?_
            exact v_iret rfl rfl rfl ⟨by rw [ej, if_pos (by omega)], rfl⟩
  exact lp 18 0 ⟨by omega, fun d hd => absurd hd (by omega)⟩ (by omega)

set_option maxRecDepth 100000 in
set_option maxHeartbeats 400000 in
theorem c_new (G : ssG) (h : ssH) {ad : Nat → Nat} {po : Nat} {E : pE} {τ : sT} {i : Nat} {sr nu : Nat} (hA : ∀ k l, ad k = ad l → k = l) (hp : po = 11 ∨ po = 22) (hw : PW h ad po E τ i) (ht : TOk τ) (hT : TkE E) (hl : liv (eB E) (eN E) i) (h17 : τ 5 7 0 < 17) (hsr : sr ≤ 4) (hnu : nu ≤ 5) : ssC G mX3_hearNewName 1 0 0 [.ref (ad 1), .int (zI ↑sr), .int (zI ↑nu)] h (QP ad po E h (cNew E τ sr nu i)) := by
  refine c_of_v okX3_hearNewName (by decide +kernel) (ls := [some (.ref (ad 1)), some (.int (zI ↑sr)), some (.int (zI ↑nu))]) rfl (Nat.le_of_ble_eq_true rfl) ?_
  obtain ⟨s1, s2, s3, s4⟩ := hT.1 i (by have := liv_le hl; have := hT.2; omega) hl
  have tk1 := kS_le (T := eB E) (n := eN E) (pos (eB E) (eN E) i)
  have tk2 := tK_le (T := eB E) (n := eN E) i
  have tk3 := tP_le (T := eB E) (n := eN E) i
  have tk4 := hT.2
  have tk5 := liv_le hl
  refine v_run 1 (pc' := 1) (ls' := [some (.ref (ad 1)), some (.int (zI ↑sr)), some (.int (zI ↑nu))]) (st' := [.ref (ad 1)]) rfl ?_
  refine v_callV (My := mX3_isName) (As := []) (rest := []) (mc := 0) (ms := 0) rfl caX3_isName rfl rfl rfl hw.1 rfl rfl (c_isName G _ hA hp hw ht hT hl) rfl rfl (Nat.le_of_ble_eq_true rfl) (by omega) ?_
  rintro _ _ ⟨rfl, rfl⟩
  refine v_run 0 (pc' := 4) (ls' := [some (.ref (ad 1)), some (.int (zI ↑sr)), some (.int (zI ↑nu))]) (st' := [.int (zb (nmB (eB E) (eN E) i))]) rfl ?_
  refine v_if_ne rfl (fun c4 => ?_) (fun c4 => ?_)
  · rw [zb_n, Bool.not_eq_false] at c4
    have es : tS (eB E) (eN E) i = 2 := (of_decide_eq_true c4).1
    refine v_run 1 (pc' := 14) (ls' := [some (.ref (ad 1)), some (.int (zI ↑sr)), some (.int (zI ↑nu))]) (st' := [.ref (ad 1)]) rfl ?_
    refine v_callV (My := mX3_nameIndex) (As := []) (rest := []) (mc := 0) (ms := 0) rfl caX3_nameIndex rfl rfl rfl hw.1 rfl rfl (c_index G _ hA hp hw ht hT hl es) rfl rfl (Nat.le_of_ble_eq_true rfl) (by omega) ?_
    rintro _ _ ⟨rfl, rfl⟩
    refine v_run 0 (pc' := 17) (ls' := [some (.ref (ad 1)), some (.int (zI ↑sr)), some (.int (zI ↑nu))]) (st' := [.int (zI (if fndT τ (tV (eB E) (eN E) i) < τ 5 7 0 then ↑(fndT τ (tV (eB E) (eN E) i)) else -1))]) rfl ?_
    have hfb : fndT τ (tV (eB E) (eN E) i) ≤ τ 5 7 0 := by have := (fstN_bd (fun k => decide (τ 5 8 k = tV (eB E) (eN E) i)) (τ 5 7 0) 0).2.1; unfold fndT; omega
    have hnm : ¬ nmB (eB E) (eN E) i = false := by rw [c4]; decide
    refine v_if_lt rfl (fun c17 => ?_) (fun c17 => ?_)
    · have hno : ¬ fndT τ (tV (eB E) (eN E) i) < τ 5 7 0 := fun z => by rw [if_pos z, zI_lt0 (by omega) (by omega)] at c17; omega
      refine v_run 1 (pc' := 27) (ls' := [some (.ref (ad 1)), some (.int (zI ↑sr)), some (.int (zI ↑nu))]) (st' := [.ref (ad 1)]) rfl ?_
      refine v_get rfl hw.1 rfl ?_
      refine v_run 1 (pc' := 32) (ls' := [some (.ref (ad 1)), some (.int (zI ↑sr)), some (.int (zI ↑nu))]) (st' := [.int (zI 17), .int (zI ↑(τ 5 7 0))]) rfl ?_
      refine v_icmp_lt rfl (fun c32 => ?_) (fun c32 => ?_)
      · simp (disch := omega) only [zI_lt, zI_le, zI_eq, zI_lt0, zI_le0, zI_0lt, zI_0le, zI_eq0] at c32
        refine v_run 1 (pc' := 42) (ls' := [some (.ref (ad 1)), some (.int (zI ↑sr)), some (.int (zI ↑nu))]) (st' := [.ref (ad 1)]) rfl ?_
        refine v_get rfl hw.1 rfl ?_
        refine v_run 1 (pc' := 46) (ls' := [some (.ref (ad 1)), some (.int (zI ↑sr)), some (.int (zI ↑nu))]) (st' := [.ref (ad 1), .ref (ad 8)]) rfl ?_
        refine v_get rfl hw.1 rfl ?_
        refine v_run 1 (pc' := 50) (ls' := [some (.ref (ad 1)), some (.int (zI ↑sr)), some (.int (zI ↑nu))]) (st' := [.ref (ad 1), .int (zI ↑(τ 5 7 0)), .ref (ad 8)]) rfl ?_
        refine v_get rfl hw.1 rfl ?_
        refine v_run 0 (pc' := 53) (ls' := [some (.ref (ad 1)), some (.int (zI ↑sr)), some (.int (zI ↑nu))]) (st' := [.ref (ad 2), .int (zI ↑(τ 5 7 0)), .ref (ad 8)]) rfl ?_
        refine v_get rfl hw.2.1 rfl ?_
        refine v_run 0 (pc' := 56) (ls' := [some (.ref (ad 1)), some (.int (zI ↑sr)), some (.int (zI ↑nu))]) (st' := [.long (eV E i), .int (zI ↑(τ 5 7 0)), .ref (ad 8)]) rfl ?_
        have ev := s4 (Or.inl es)
        have hv : tV (eB E) (eN E) i < 1099511627776 := kV_lt2 es
        refine v_lastore' rfl hw.2.2.2.1.1 (i := τ 5 7 0) rfl (by omega) ?_
        rw [ev, arL_upd]
        have hw1 := hw.n8 hA hp (τ 5 7 0) (tV (eB E) (eN E) i)
        generalize e1 : hset h (ad 8) _ = h1 at hw1 ⊢
        refine v_run 1 (pc' := 58) (ls' := [some (.ref (ad 1)), some (.int (zI ↑sr)), some (.int (zI ↑nu))]) (st' := [.ref (ad 1)]) rfl ?_
        refine v_get rfl hw1.1 rfl ?_
        refine v_run 1 (pc' := 62) (ls' := [some (.ref (ad 1)), some (.int (zI ↑sr)), some (.int (zI ↑nu))]) (st' := [.ref (ad 1), .ref (ad 9)]) rfl ?_
        refine v_get rfl hw1.1 rfl ?_
        refine v_run 1 (pc' := 66) (ls' := [some (.ref (ad 1)), some (.int (zI ↑sr)), some (.int (zI ↑nu))]) (st' := [.int (zI ↑sr), .int (zI ↑(τ 5 7 0)), .ref (ad 9)]) rfl ?_
        refine v_iastore' rfl hw1.2.2.2.1.2.1 (i := τ 5 7 0) rfl (by omega) ?_
        rw [ar_upd]
        have hw2 := hw1.n9 hA hp (τ 5 7 0) sr
        rw [show tU τ 5 8 (τ 5 7 0) (tV (eB E) (eN E) i) 5 9 = τ 5 9 from tU_k τ (by decide)] at hw2
        rw [show (fun j => if j = τ 5 7 0 then sr else ((tU τ 5 8 (τ 5 7 0) (tV (eB E) (eN E) i))) 5 9 j) = (fun j => if j = τ 5 7 0 then sr else τ 5 9 j) from by rw [tU_k τ (by decide)]]
        generalize e2 : hset h1 (ad 9) _ = h2 at hw2 ⊢
        refine v_run 1 (pc' := 68) (ls' := [some (.ref (ad 1)), some (.int (zI ↑sr)), some (.int (zI ↑nu))]) (st' := [.ref (ad 1)]) rfl ?_
        refine v_get rfl hw2.1 rfl ?_
        refine v_run 1 (pc' := 72) (ls' := [some (.ref (ad 1)), some (.int (zI ↑sr)), some (.int (zI ↑nu))]) (st' := [.ref (ad 1), .ref (ad 10)]) rfl ?_
        refine v_get rfl hw2.1 rfl ?_
        refine v_run 1 (pc' := 76) (ls' := [some (.ref (ad 1)), some (.int (zI ↑sr)), some (.int (zI ↑nu))]) (st' := [.int (zI ↑nu), .int (zI ↑(τ 5 7 0)), .ref (ad 10)]) rfl ?_
        refine v_iastore' rfl hw2.2.2.2.1.2.2 (i := τ 5 7 0) rfl (by omega) ?_
        rw [ar_upd]
        have hw3 := hw2.n10 hA hp (τ 5 7 0) nu
        generalize e3 : hset h2 (ad 10) _ = h3 at hw3 ⊢
        refine v_run 2 (pc' := 79) (ls' := [some (.ref (ad 1)), some (.int (zI ↑sr)), some (.int (zI ↑nu))]) (st' := [.ref (ad 1), .ref (ad 1)]) rfl ?_
        refine v_get rfl hw3.1 rfl ?_
        refine v_run 2 (pc' := 84) (ls' := [some (.ref (ad 1)), some (.int (zI ↑sr)), some (.int (zI ↑nu))]) (st' := [.int ((zI ↑(τ 5 7 0)) + (zI 1)), .ref (ad 1)]) rfl ?_
        rw [show ((zI ↑(τ 5 7 0)) + (zI 1) : Int32) = zI ↑(τ 5 7 0 + 1) from zI_s1 _]
        refine v_put rfl hw3.1 rfl rfl (Nat.le_of_ble_eq_true rfl) ?_
        have hw4 := hw3.pI hA hp 7 (τ 5 7 0 + 1) (by omega)
        generalize e4 : hset h3 (ad 1) _ = h4 at hw4 ⊢
        refine v_run 1 (pc' := 88) (ls' := [some (.ref (ad 1)), some (.int (zI ↑sr)), some (.int (zI ↑nu))]) (st' := [.ref (ad 1)]) rfl ?_
        refine v_get rfl hw4.1 rfl ?_
        refine v_run 0 (pc' := 91) (ls' := [some (.ref (ad 1)), some (.int (zI ↑sr)), some (.int (zI ↑nu))]) (st' := [.ref (ad 2)]) rfl ?_
        have hl2 : liv (eB E) (eN E) (i + 1) := liv_s hl (by omega)
        refine v_callV (My := mX5_advance) (As := []) (rest := []) (mc := 0) (ms := 0) rfl caX5_advance rfl rfl rfl hw4.2.1 rfl rfl (c_adv G _ hA hp hw4 hT hl2) rfl rfl (Nat.le_of_ble_eq_true rfl) (by omega) ?_
        rintro _ h5 ⟨rfl, hw5, hf5⟩
        refine v_run 0 (pc' := 94) (ls' := [some (.ref (ad 1)), some (.int (zI ↑sr)), some (.int (zI ↑nu))]) (st' := []) rfl ?_
        refine v_run 1 (pc' := 95) (ls' := [some (.ref (ad 1)), some (.int (zI ↑sr)), some (.int (zI ↑nu))]) (st' := [.int (zI 1)]) rfl ?_
        exact v_iret rfl rfl rfl (by rw [cNew, if_neg hnm, if_neg hno]; exact ⟨rfl, hw5, ((((e1 ▸ frC.set (by omega) _ : frC ad po h h1).tr (e2 ▸ frC.set (by omega) _)).tr (e3 ▸ frC.set (by omega) _)).tr (e4 ▸ frC.set (by omega) _)).tr hf5, (((ht.up (by simp [bdT] <;> omega)).up (by simp [bdT] <;> omega)).up (by simp [bdT] <;> omega)).up (by simp [bdT] <;> omega), hl2⟩)
      · exfalso; revert c32; simp (disch := omega) only [zI_lt, zI_le, zI_eq, zI_lt0, zI_le0, zI_0lt, zI_0le, zI_eq0] <;> omega
    · have hyes : fndT τ (tV (eB E) (eN E) i) < τ 5 7 0 := by
          by_cases z : fndT τ (tV (eB E) (eN E) i) < τ 5 7 0
          · exact z
          · rw [if_neg z] at c17; exact absurd (by decide) c17
      refine v_run 2 (pc' := 22) (ls' := [some (.ref (ad 1)), some (.int (zI ↑sr)), some (.int (zI ↑nu))]) (st' := [.int (zI 3), .ref (ad 1)]) rfl ?_
      refine v_callV (My := mX3_fail) (As := [.int (zI 3)]) (rest := []) (mc := 0) (ms := 0) rfl caX3_fail rfl rfl rfl hw.1 rfl rfl (c_fail G _ (f := 3) hA hp hw ht hT hl (by decide)) rfl rfl (Nat.le_of_ble_eq_true rfl) (by omega) ?_
      rintro _ h9 ⟨rfl, hb9⟩
      refine v_run 0 (pc' := 25) (ls' := [some (.ref (ad 1)), some (.int (zI ↑sr)), some (.int (zI ↑nu))]) (st' := [.int (zI 0)]) rfl ?_
      exact v_iret rfl rfl rfl (by rw [cNew, if_neg hnm, if_pos hyes]; exact ⟨rfl, hb9⟩)
  · rw [zb_n] at c4
    refine v_run 2 (pc' := 9) (ls' := [some (.ref (ad 1)), some (.int (zI ↑sr)), some (.int (zI ↑nu))]) (st' := [.int (zI 1), .ref (ad 1)]) rfl ?_
    refine v_callV (My := mX3_fail) (As := [.int (zI 1)]) (rest := []) (mc := 0) (ms := 0) rfl caX3_fail rfl rfl rfl hw.1 rfl rfl (c_fail G _ (f := 1) hA hp hw ht hT hl (by decide)) rfl rfl (Nat.le_of_ble_eq_true rfl) (by omega) ?_
    rintro _ h9 ⟨rfl, hb9⟩
    refine v_run 0 (pc' := 12) (ls' := [some (.ref (ad 1)), some (.int (zI ↑sr)), some (.int (zI ↑nu))]) (st' := [.int (zI 0)]) rfl ?_
    exact v_iret rfl rfl rfl (by rw [cNew, if_pos c4]; exact ⟨rfl, hb9⟩)

set_option maxRecDepth 100000 in
set_option maxHeartbeats 400000 in
theorem c_told (G : ssG) (h : ssH) {ad : Nat → Nat} {po : Nat} {E : pE} {τ : sT} {i : Nat} {sr : Nat} (hA : ∀ k l, ad k = ad l → k = l) (hp : po = 11 ∨ po = 22) (hw : PW h ad po E τ i) (ht : TOk τ) (hT : TkE E) (hl : liv (eB E) (eN E) i) (hsr : sr ≤ 4) : ssC G mX3_toldNumber 1 0 0 [.ref (ad 1), .int (zI ↑sr)] h (QT ad po E h (cTold E τ sr i)) := by
  refine c_of_v okX3_toldNumber (by decide +kernel) (ls := [some (.ref (ad 1)), some (.int (zI ↑sr)), none]) rfl (Nat.le_of_ble_eq_true rfl) ?_
  obtain ⟨s1, s2, s3, s4⟩ := hT.1 i (by have := liv_le hl; have := hT.2; omega) hl
  have tk1 := kS_le (T := eB E) (n := eN E) (pos (eB E) (eN E) i)
  have tk2 := tK_le (T := eB E) (n := eN E) i
  have tk3 := tP_le (T := eB E) (n := eN E) i
  have tk4 := hT.2
  have tk5 := liv_le hl
  refine v_run 1 (pc' := 1) (ls' := [some (.ref (ad 1)), some (.int (zI ↑sr)), none]) (st' := [.ref (ad 1)]) rfl ?_
  refine v_callV (My := mX3_isName) (As := []) (rest := []) (mc := 0) (ms := 0) rfl caX3_isName rfl rfl rfl hw.1 rfl rfl (c_isName G _ hA hp hw ht hT hl) rfl rfl (Nat.le_of_ble_eq_true rfl) (by omega) ?_
  rintro _ _ ⟨rfl, rfl⟩
  refine v_run 0 (pc' := 4) (ls' := [some (.ref (ad 1)), some (.int (zI ↑sr)), none]) (st' := [.int (zb (nmB (eB E) (eN E) i))]) rfl ?_
  refine v_if_eq rfl (fun c4 => ?_) (fun c4 => ?_)
  · rw [zb_n] at c4
    refine v_run 3 (pc' := 17) (ls' := [some (.ref (ad 1)), some (.int (zI ↑sr)), some (.int (zI (-1)))]) (st' := [.int (zI (-1))]) rfl ?_
    refine v_if_lt rfl (fun c17 => ?_) (fun c17 => ?_)
    · refine v_run 2 (pc' := 39) (ls' := [some (.ref (ad 1)), some (.int (zI ↑sr)), some (.int (zI (-1)))]) (st' := [.ref (ad 1), .ref (ad 1)]) rfl ?_
      refine v_callV (My := mX3_isName) (As := []) (rest := [.ref (ad 1)]) (mc := 0) (ms := 0) rfl caX3_isName rfl rfl rfl hw.1 rfl rfl (c_isName G _ hA hp hw ht hT hl) rfl rfl (Nat.le_of_ble_eq_true rfl) (by omega) ?_
      rintro _ _ ⟨rfl, rfl⟩
      refine v_run 0 (pc' := 42) (ls' := [some (.ref (ad 1)), some (.int (zI ↑sr)), some (.int (zI (-1)))]) (st' := [.int (zb (nmB (eB E) (eN E) i)), .ref (ad 1)]) rfl ?_
      refine v_if_eq rfl (fun c42 => ?_) (fun c42 => ?_)
      · refine v_run 1 (pc' := 50) (ls' := [some (.ref (ad 1)), some (.int (zI ↑sr)), some (.int (zI (-1)))]) (st' := [.int (zI 1), .ref (ad 1)]) rfl ?_
        refine v_callV (My := mX3_fail) (As := [.int (zI 1)]) (rest := []) (mc := 0) (ms := 0) rfl caX3_fail rfl rfl rfl hw.1 rfl rfl (c_fail G _ (f := 1) hA hp hw ht hT hl (by decide)) rfl rfl (Nat.le_of_ble_eq_true rfl) (by omega) ?_
        rintro _ h9 ⟨rfl, hb9⟩
        refine v_run 0 (pc' := 53) (ls' := [some (.ref (ad 1)), some (.int (zI ↑sr)), some (.int (zI (-1)))]) (st' := [.int (zI 0)]) rfl ?_
        refine v_run 2 (pc' := 55) (ls' := [some (.ref (ad 1)), some (.int (zI ↑sr)), some (.int (zI (-1)))]) (st' := [.int (zI (-1))]) rfl ?_
        exact v_iret rfl rfl rfl (by rw [cTold, if_pos c4]; exact ⟨rfl, hb9⟩)
      · exact absurd c42 (by rw [c4]; decide)
    · exact absurd (by decide) c17
  · rw [zb_n, Bool.not_eq_false] at c4
    have es : tS (eB E) (eN E) i = 2 := (of_decide_eq_true c4).1
    refine v_run 1 (pc' := 8) (ls' := [some (.ref (ad 1)), some (.int (zI ↑sr)), none]) (st' := [.ref (ad 1)]) rfl ?_
    refine v_callV (My := mX3_nameIndex) (As := []) (rest := []) (mc := 0) (ms := 0) rfl caX3_nameIndex rfl rfl rfl hw.1 rfl rfl (c_index G _ hA hp hw ht hT hl es) rfl rfl (Nat.le_of_ble_eq_true rfl) (by omega) ?_
    rintro _ _ ⟨rfl, rfl⟩
    refine v_run 0 (pc' := 11) (ls' := [some (.ref (ad 1)), some (.int (zI ↑sr)), none]) (st' := [.int (zI (if fndT τ (tV (eB E) (eN E) i) < τ 5 7 0 then ↑(fndT τ (tV (eB E) (eN E) i)) else -1))]) rfl ?_
    have hfb : fndT τ (tV (eB E) (eN E) i) ≤ τ 5 7 0 := by have := (fstN_bd (fun k => decide (τ 5 8 k = tV (eB E) (eN E) i)) (τ 5 7 0) 0).2.1; unfold fndT; omega
    have h17 : τ 5 7 0 ≤ 17 := ht 5 7 0 (by omega)
    have hnm : ¬ nmB (eB E) (eN E) i = false := by rw [c4]; decide
    refine v_run 2 (pc' := 16) (ls' := [some (.ref (ad 1)), some (.int (zI ↑sr)), some (.int (zI (if fndT τ (tV (eB E) (eN E) i) < τ 5 7 0 then ↑(fndT τ (tV (eB E) (eN E) i)) else -1)))]) (st' := []) rfl ?_
    generalize hfd : fndT τ (tV (eB E) (eN E) i) = fd at hfb ⊢
    by_cases hy : fd < τ 5 7 0
    · rw [if_pos hy]
      refine v_run 1 (pc' := 17) (ls' := [some (.ref (ad 1)), some (.int (zI ↑sr)), some (.int (zI ↑fd))]) (st' := [.int (zI ↑fd)]) rfl ?_
      refine v_if_lt rfl (fun c17 => ?_) (fun c17 => ?_)
      · exfalso; revert c17; simp (disch := omega) only [zI_lt, zI_le, zI_eq, zI_lt0, zI_le0, zI_0lt, zI_0le, zI_eq0] <;> omega
      · simp (disch := omega) only [zI_lt, zI_le, zI_eq, zI_lt0, zI_le0, zI_0lt, zI_0le, zI_eq0] at c17
        have q9 : τ 5 9 fd ≤ 4 := ht 5 9 fd (by omega)
        have q10 : τ 5 10 fd ≤ 5 := ht 5 10 fd (by omega)
        refine v_run 1 (pc' := 21) (ls' := [some (.ref (ad 1)), some (.int (zI ↑sr)), some (.int (zI ↑fd))]) (st' := [.ref (ad 1)]) rfl ?_
        refine v_get rfl hw.1 rfl ?_
        refine v_run 1 (pc' := 25) (ls' := [some (.ref (ad 1)), some (.int (zI ↑sr)), some (.int (zI ↑fd))]) (st' := [.int (zI ↑fd), .ref (ad 9)]) rfl ?_
        refine v_iaload' rfl hw.2.2.2.1.2.1 (i := fd) rfl (by omega) ?_
        refine v_run 1 (pc' := 27) (ls' := [some (.ref (ad 1)), some (.int (zI ↑sr)), some (.int (zI ↑fd))]) (st' := [.int (zI ↑sr), .int (zI ↑(τ 5 9 fd))]) rfl ?_
        refine v_icmp_ne rfl (fun c27 => ?_) (fun c27 => ?_)
        · simp (disch := omega) only [zI_lt, zI_le, zI_eq, zI_lt0, zI_le0, zI_0lt, zI_0le, zI_eq0] at c27
          refine v_run 2 (pc' := 39) (ls' := [some (.ref (ad 1)), some (.int (zI ↑sr)), some (.int (zI ↑fd))]) (st' := [.ref (ad 1), .ref (ad 1)]) rfl ?_
          refine v_callV (My := mX3_isName) (As := []) (rest := [.ref (ad 1)]) (mc := 0) (ms := 0) rfl caX3_isName rfl rfl rfl hw.1 rfl rfl (c_isName G _ hA hp hw ht hT hl) rfl rfl (Nat.le_of_ble_eq_true rfl) (by omega) ?_
          rintro _ _ ⟨rfl, rfl⟩
          refine v_run 0 (pc' := 42) (ls' := [some (.ref (ad 1)), some (.int (zI ↑sr)), some (.int (zI ↑fd))]) (st' := [.int (zb (nmB (eB E) (eN E) i)), .ref (ad 1)]) rfl ?_
          refine v_if_eq rfl (fun c42 => ?_) (fun c42 => ?_)
          · exact absurd c42 (by rw [c4]; decide)
          · refine v_run 2 (pc' := 50) (ls' := [some (.ref (ad 1)), some (.int (zI ↑sr)), some (.int (zI ↑fd))]) (st' := [.int (zI 2), .ref (ad 1)]) rfl ?_
            refine v_callV (My := mX3_fail) (As := [.int (zI 2)]) (rest := []) (mc := 0) (ms := 0) rfl caX3_fail rfl rfl rfl hw.1 rfl rfl (c_fail G _ (f := 2) hA hp hw ht hT hl (by decide)) rfl rfl (Nat.le_of_ble_eq_true rfl) (by omega) ?_
            rintro _ h9 ⟨rfl, hb9⟩
            refine v_run 0 (pc' := 53) (ls' := [some (.ref (ad 1)), some (.int (zI ↑sr)), some (.int (zI ↑fd))]) (st' := [.int (zI 0)]) rfl ?_
            refine v_run 2 (pc' := 55) (ls' := [some (.ref (ad 1)), some (.int (zI ↑sr)), some (.int (zI ↑fd))]) (st' := [.int (zI (-1))]) rfl ?_
            exact v_iret rfl rfl rfl (by rw [cTold, if_neg hnm, hfd, if_neg (fun z => by have := z.2; omega)]; exact ⟨rfl, hb9⟩)
        · simp (disch := omega) only [zI_lt, zI_le, zI_eq, zI_lt0, zI_le0, zI_0lt, zI_0le, zI_eq0] at c27
          refine v_run 1 (pc' := 31) (ls' := [some (.ref (ad 1)), some (.int (zI ↑sr)), some (.int (zI ↑fd))]) (st' := [.ref (ad 1)]) rfl ?_
          refine v_get rfl hw.1 rfl ?_
          refine v_run 1 (pc' := 35) (ls' := [some (.ref (ad 1)), some (.int (zI ↑sr)), some (.int (zI ↑fd))]) (st' := [.int (zI ↑fd), .ref (ad 10)]) rfl ?_
          refine v_iaload' rfl hw.2.2.2.1.2.2 (i := fd) rfl (by omega) ?_
          refine v_run 0 (pc' := 36) (ls' := [some (.ref (ad 1)), some (.int (zI ↑sr)), some (.int (zI ↑fd))]) (st' := [.int (zI ↑(τ 5 10 fd))]) rfl ?_
          exact v_iret rfl rfl rfl (by rw [cTold, if_neg hnm, hfd, if_pos ⟨hy, by omega⟩]; exact ⟨rfl, rfl⟩)
    · rw [if_neg hy]
      refine v_run 1 (pc' := 17) (ls' := [some (.ref (ad 1)), some (.int (zI ↑sr)), some (.int (zI (-1)))]) (st' := [.int (zI (-1))]) rfl ?_
      refine v_if_lt rfl (fun c17 => ?_) (fun c17 => ?_)
      · refine v_run 2 (pc' := 39) (ls' := [some (.ref (ad 1)), some (.int (zI ↑sr)), some (.int (zI (-1)))]) (st' := [.ref (ad 1), .ref (ad 1)]) rfl ?_
        refine v_callV (My := mX3_isName) (As := []) (rest := [.ref (ad 1)]) (mc := 0) (ms := 0) rfl caX3_isName rfl rfl rfl hw.1 rfl rfl (c_isName G _ hA hp hw ht hT hl) rfl rfl (Nat.le_of_ble_eq_true rfl) (by omega) ?_
        rintro _ _ ⟨rfl, rfl⟩
        refine v_run 0 (pc' := 42) (ls' := [some (.ref (ad 1)), some (.int (zI ↑sr)), some (.int (zI (-1)))]) (st' := [.int (zb (nmB (eB E) (eN E) i)), .ref (ad 1)]) rfl ?_
        refine v_if_eq rfl (fun c42 => ?_) (fun c42 => ?_)
        · exact absurd c42 (by rw [c4]; decide)
        · refine v_run 2 (pc' := 50) (ls' := [some (.ref (ad 1)), some (.int (zI ↑sr)), some (.int (zI (-1)))]) (st' := [.int (zI 2), .ref (ad 1)]) rfl ?_
          refine v_callV (My := mX3_fail) (As := [.int (zI 2)]) (rest := []) (mc := 0) (ms := 0) rfl caX3_fail rfl rfl rfl hw.1 rfl rfl (c_fail G _ (f := 2) hA hp hw ht hT hl (by decide)) rfl rfl (Nat.le_of_ble_eq_true rfl) (by omega) ?_
          rintro _ h9 ⟨rfl, hb9⟩
          refine v_run 0 (pc' := 53) (ls' := [some (.ref (ad 1)), some (.int (zI ↑sr)), some (.int (zI (-1)))]) (st' := [.int (zI 0)]) rfl ?_
          refine v_run 2 (pc' := 55) (ls' := [some (.ref (ad 1)), some (.int (zI ↑sr)), some (.int (zI (-1)))]) (st' := [.int (zI (-1))]) rfl ?_
          exact v_iret rfl rfl rfl (by rw [cTold, if_neg hnm, hfd, if_neg (fun z => hy z.1)]; exact ⟨rfl, hb9⟩)
      · exact absurd (by decide) c17

