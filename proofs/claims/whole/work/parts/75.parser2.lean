def BadP (ad : Nat → Nat) (po : Nat) (E : pE) (h h' : ssH) (e : Nat × Nat) : Prop := ∃ τ' j, PW h' ad po E τ' j ∧ TOk τ' ∧ τ' 5 1 0 = e.1 ∧ τ' 5 2 0 = e.2 ∧ frC ad po h h'
def QP (ad : Nat → Nat) (po : Nat) (E : pE) (h : ssH) : pR (Nat × sT) → Option Value → ssH → Prop
  | .inl e, a, h' => a = some (.int (zI 0)) ∧ BadP ad po E h h' e
  | .inr q, a, h' => a = some (.int (zI 1)) ∧ PW h' ad po E q.2 q.1 ∧ frC ad po h h' ∧ TOk q.2 ∧ liv (eB E) (eN E) q.1
def QT (ad : Nat → Nat) (po : Nat) (E : pE) (h : ssH) : pR Nat → Option Value → ssH → Prop
  | .inl e, a, h' => a = some (.int (zI (-1))) ∧ BadP ad po E h h' e
  | .inr k, a, h' => a = some (.int (zI ↑k)) ∧ h = h'
theorem BadP.tr {ad : Nat → Nat} {po : Nat} {E : pE} {h h1 h' : ssH} {e : Nat × Nat} (b : BadP ad po E h1 h' e) (f : frC ad po h h1) : BadP ad po E h h' e := by
  obtain ⟨t, j, b1, b2, b3, b4, b5⟩ := b
  exact ⟨t, j, b1, b2, b3, b4, f.tr b5⟩
theorem QP.tr {ad : Nat → Nat} {po : Nat} {E : pE} {h h1 h' : ssH} {r : pR (Nat × sT)} {a : Option Value} (b : QP ad po E h1 r a h') (f : frC ad po h h1) : QP ad po E h r a h' := by
  cases r with
  | inl e => exact ⟨b.1, b.2.tr f⟩
  | inr q => exact ⟨b.1, b.2.1, f.tr b.2.2.1, b.2.2.2⟩
theorem lg_lt0 (x y : Int64) : lg_cmp x y < 0 ↔ x < y := by
  unfold lg_cmp
  by_cases h1 : y < x
  · rw [if_pos h1]
    refine ⟨fun q => absurd q (by decide), fun q => ?_⟩
    rw [Int64.lt_iff_toInt_lt] at h1 q
    omega
  · by_cases h2 : x = y
    · rw [if_neg h1, if_pos h2]
      refine ⟨fun q => absurd q (by decide), fun q => ?_⟩
      rw [h2, Int64.lt_iff_toInt_lt] at q
      omega
    · rw [if_neg h1, if_neg h2]
      refine ⟨fun _ => ?_, fun _ => by decide⟩
      rw [Int64.lt_iff_toInt_lt] at h1 ⊢
      have : x.toInt ≠ y.toInt := fun e => h2 (Int64.toInt_inj.mp e)
      omega
theorem lg_le0 (x y : Int64) : lg_cmp x y ≤ 0 ↔ ¬ y < x := by rw [← lg_gt0, Int32.not_lt]
theorem cS_1 {s : Nat} : cS s = 1 ↔ s = 2 := by unfold cS; (repeat' split) <;> omega
theorem cS_2 {s : Nat} : cS s = 2 ↔ s = 3 := by unfold cS; (repeat' split) <;> omega
theorem cS_0 {s : Nat} : cS s = 0 ↔ s = 1 := by unfold cS; (repeat' split) <;> omega
theorem cS_3 {s : Nat} : cS s = 3 ↔ s = 4 := by unfold cS; (repeat' split) <;> omega
theorem cS_le (s : Nat) : cS s ≤ 4 := by unfold cS; (repeat' split) <;> omega
theorem liv_K {T : Nat → Int} {n i : Nat} (h : liv T n i) (hk : 1 ≤ tK T n i) : liv T n (i + 1) := liv_s h (by
  unfold tK at hk
  split at hk
  · omega
  · omega)
theorem zL_i {a : Nat} : (zL ↑a).toInt32 = zI ↑a := by unfold zL zI; simp
theorem c_adv (G : ssG) (h : ssH) {ad : Nat → Nat} {po : Nat} {E : pE} {τ : sT} {i : Nat} (hA : ∀ k l, ad k = ad l → k = l) (hp : po = 11 ∨ po = 22) (hw : PW h ad po E τ i) (hT : TkE E) (hl : liv (eB E) (eN E) (i + 1)) : ssC G mX5_advance 0 0 0 [.ref (ad 2)] h (fun a h' => a = none ∧ PW h' ad po E τ (i + 1) ∧ frC ad po h h') := by
  have h1 := liv_le hl
  have h2 := hT.2
  have hr : h (ad 2) = some (.inr (5, obR ad (eL E) ↑(eS E i) ↑(eP E i) ↑(eK E i) (eV E i) ↑(eX E) ↑(eN E) (↑(i + 1) - 1))) := by rw [show ((↑(i + 1) : Int) - 1) = ↑i by omega]; exact hw.2.1
  refine ssC.weak (r_advance G h (i := i + 1) hA hr hw.2.2.1 (by omega)) ?_
  rintro r h' ⟨rfl, e⟩
  exact ⟨rfl, e ▸ hw.ob hA hp (i + 1), e ▸ frC.set (Or.inr (Or.inl rfl)) _⟩
set_option maxRecDepth 100000 in
set_option maxHeartbeats 400000 in
theorem c_fail (G : ssG) (h : ssH) {ad : Nat → Nat} {po : Nat} {E : pE} {τ : sT} {i : Nat} {f : Nat} (hA : ∀ k l, ad k = ad l → k = l) (hp : po = 11 ∨ po = 22) (hw : PW h ad po E τ i) (ht : TOk τ) (hT : TkE E) (hl : liv (eB E) (eN E) i) (hf : f ≤ 7) : ssC G mX3_fail 0 0 0 [.ref (ad 1), .int (zI ↑f)] h (QP ad po E h (.inl (f, tP (eB E) (eN E) i))) := by
  refine c_of_v okX3_fail (by decide +kernel) (ls := [some (.ref (ad 1)), some (.int (zI ↑f))]) rfl (Nat.le_of_ble_eq_true rfl) ?_
  obtain ⟨s1, s2, s3, s4⟩ := hT.1 i (by have := liv_le hl; have := hT.2; omega) hl
  have tk1 := kS_le (T := eB E) (n := eN E) (pos (eB E) (eN E) i)
  have tk2 := tK_le (T := eB E) (n := eN E) i
  have tk3 := tP_le (T := eB E) (n := eN E) i
  have tk4 := hT.2
  have tk5 := liv_le hl
  refine v_run 2 (pc' := 2) (ls' := [some (.ref (ad 1)), some (.int (zI ↑f))]) (st' := [.int (zI ↑f), .ref (ad 1)]) rfl ?_
  refine v_put rfl hw.1 rfl rfl (Nat.le_of_ble_eq_true rfl) ?_
  have hw1 := hw.pI hA hp 1 f (by omega)
  generalize e1 : hset h (ad 1) _ = h1 at hw1 ⊢
  refine v_run 2 (pc' := 7) (ls' := [some (.ref (ad 1)), some (.int (zI ↑f))]) (st' := [.ref (ad 1), .ref (ad 1)]) rfl ?_
  refine v_get rfl hw1.1 rfl ?_
  refine v_run 0 (pc' := 10) (ls' := [some (.ref (ad 1)), some (.int (zI ↑f))]) (st' := [.ref (ad 2), .ref (ad 1)]) rfl ?_
  refine v_get rfl hw1.2.1 rfl ?_
  refine v_run 0 (pc' := 13) (ls' := [some (.ref (ad 1)), some (.int (zI ↑f))]) (st' := [.int (zI ↑(eP E i)), .ref (ad 1)]) rfl ?_
  refine v_put rfl hw1.1 rfl rfl (Nat.le_of_ble_eq_true rfl) ?_
  have hw2 := hw1.pI hA hp 2 (eP E i) (by omega)
  generalize e2 : hset h1 (ad 1) _ = h2 at hw2 ⊢
  refine v_run 1 (pc' := 17) (ls' := [some (.ref (ad 1)), some (.int (zI ↑f))]) (st' := [.int (zI 0)]) rfl ?_
  exact v_iret rfl rfl rfl ⟨rfl, _, i, hw2, (ht.up (by simp [bdT]; omega)).up (by simp [bdT]; omega), by simp [tU], by rw [tU_s, s2], e2 ▸ (e1 ▸ frC.set (Or.inl rfl) _ : frC ad po h h1).tr (frC.set (Or.inl rfl) _)⟩

set_option maxRecDepth 100000 in
set_option maxHeartbeats 400000 in
theorem c_word (G : ssG) (h : ssH) {ad : Nat → Nat} {po : Nat} {E : pE} {τ : sT} {i : Nat} {k : Nat} (hA : ∀ k l, ad k = ad l → k = l) (hp : po = 11 ∨ po = 22) (hw : PW h ad po E τ i) (ht : TOk τ) (hT : TkE E) (hl : liv (eB E) (eN E) i) (hk : 1 ≤ k ∧ k ≤ 21) : ssC G mX3_hearWord 1 0 0 [.ref (ad 1), .int (zI ↑k)] h (QP ad po E h (sb (pWd (eB E) (eN E) k i) (fun j => .inr (j, τ)))) := by
  refine c_of_v okX3_hearWord (by decide +kernel) (ls := [some (.ref (ad 1)), some (.int (zI ↑k))]) rfl (Nat.le_of_ble_eq_true rfl) ?_
  obtain ⟨s1, s2, s3, s4⟩ := hT.1 i (by have := liv_le hl; have := hT.2; omega) hl
  have tk1 := kS_le (T := eB E) (n := eN E) (pos (eB E) (eN E) i)
  have tk2 := tK_le (T := eB E) (n := eN E) i
  have tk3 := tP_le (T := eB E) (n := eN E) i
  have tk4 := hT.2
  have tk5 := liv_le hl
  refine v_run 1 (pc' := 1) (ls' := [some (.ref (ad 1)), some (.int (zI ↑k))]) (st' := [.ref (ad 1)]) rfl ?_
  refine v_get rfl hw.1 rfl ?_
  refine v_run 0 (pc' := 4) (ls' := [some (.ref (ad 1)), some (.int (zI ↑k))]) (st' := [.ref (ad 2)]) rfl ?_
  refine v_get rfl hw.2.1 rfl ?_
  refine v_run 1 (pc' := 8) (ls' := [some (.ref (ad 1)), some (.int (zI ↑k))]) (st' := [.int (zI ↑k), .int (zI ↑(eK E i))]) rfl ?_
  refine v_icmp_eq rfl (fun c8 => ?_) (fun c8 => ?_)
  · simp (disch := omega) only [zI_lt, zI_le, zI_eq, zI_lt0, zI_le0, zI_0lt, zI_0le, zI_eq0] at c8
    have ek : tK (eB E) (eN E) i = k := by omega
    have hl1 : liv (eB E) (eN E) (i + 1) := liv_K hl (by omega)
    refine v_run 1 (pc' := 18) (ls' := [some (.ref (ad 1)), some (.int (zI ↑k))]) (st' := [.ref (ad 1)]) rfl ?_
    refine v_get rfl hw.1 rfl ?_
    refine v_run 0 (pc' := 21) (ls' := [some (.ref (ad 1)), some (.int (zI ↑k))]) (st' := [.ref (ad 2)]) rfl ?_
    refine v_callV (My := mX5_advance) (As := []) (rest := []) (mc := 0) (ms := 0) rfl caX5_advance rfl rfl rfl hw.2.1 rfl rfl (c_adv G _ hA hp hw hT hl1) rfl rfl (Nat.le_of_ble_eq_true rfl) (by omega) ?_
    rintro _ h1 ⟨rfl, hw1, hf1⟩
    refine v_run 0 (pc' := 24) (ls' := [some (.ref (ad 1)), some (.int (zI ↑k))]) (st' := []) rfl ?_
    refine v_run 1 (pc' := 25) (ls' := [some (.ref (ad 1)), some (.int (zI ↑k))]) (st' := [.int (zI 1)]) rfl ?_
    exact v_iret rfl rfl rfl (by rw [pWd, if_pos ek]; exact ⟨rfl, hw1, hf1, ht, hl1⟩)
  · simp (disch := omega) only [zI_lt, zI_le, zI_eq, zI_lt0, zI_le0, zI_0lt, zI_0le, zI_eq0] at c8
    refine v_run 2 (pc' := 13) (ls' := [some (.ref (ad 1)), some (.int (zI ↑k))]) (st' := [.int (zI 1), .ref (ad 1)]) rfl ?_
    refine v_callV (My := mX3_fail) (As := [.int (zI 1)]) (rest := []) (mc := 0) (ms := 0) rfl caX3_fail rfl rfl rfl hw.1 rfl rfl (c_fail G _ (f := 1) hA hp hw ht hT hl (by decide)) rfl rfl (Nat.le_of_ble_eq_true rfl) (by omega) ?_
    rintro _ h9 ⟨rfl, hb9⟩
    refine v_run 0 (pc' := 16) (ls' := [some (.ref (ad 1)), some (.int (zI ↑k))]) (st' := [.int (zI 0)]) rfl ?_
    exact v_iret rfl rfl rfl (by rw [pWd, if_neg (by omega)]; exact ⟨rfl, hb9⟩)

set_option maxRecDepth 100000 in
set_option maxHeartbeats 400000 in
theorem c_num (G : ssG) (h : ssH) {ad : Nat → Nat} {po : Nat} {E : pE} {τ : sT} {i : Nat} {k lo hi : Nat} (hA : ∀ k l, ad k = ad l → k = l) (hp : po = 11 ∨ po = 22) (hw : PW h ad po E τ i) (ht : TOk τ) (hT : TkE E) (hl : liv (eB E) (eN E) i) (hk : 1 ≤ k ∧ k ≤ 21) (hlo : lo ≤ 100) (hhi : hi ≤ 100) : ssC G mX3_hearNumber 2 0 0 [.ref (ad 1), .int (zI ↑k), .int (zI ↑lo), .int (zI ↑hi)] h (QP ad po E h (sb (pNum (eB E) (eN E) k lo hi i) (fun a => .inr (a.1, tU τ 5 5 0 a.2)))) := by
  refine c_of_v okX3_hearNumber (by decide +kernel) (ls := [some (.ref (ad 1)), some (.int (zI ↑k)), some (.int (zI ↑lo)), some (.int (zI ↑hi))]) rfl (Nat.le_of_ble_eq_true rfl) ?_
  obtain ⟨s1, s2, s3, s4⟩ := hT.1 i (by have := liv_le hl; have := hT.2; omega) hl
  have tk1 := kS_le (T := eB E) (n := eN E) (pos (eB E) (eN E) i)
  have tk2 := tK_le (T := eB E) (n := eN E) i
  have tk3 := tP_le (T := eB E) (n := eN E) i
  have tk4 := hT.2
  have tk5 := liv_le hl
  refine v_run 2 (pc' := 2) (ls' := [some (.ref (ad 1)), some (.int (zI ↑k)), some (.int (zI ↑lo)), some (.int (zI ↑hi))]) (st' := [.int (zI ↑k), .ref (ad 1)]) rfl ?_
  refine v_callV (My := mX3_hearWord) (As := [.int (zI ↑k)]) (rest := []) (mc := 0) (ms := 0) rfl caX3_hearWord rfl rfl rfl hw.1 rfl rfl (c_word G _ hA hp hw ht hT hl hk) rfl rfl (Nat.le_of_ble_eq_true rfl) (by omega) ?_
  intro a h1 hq
  by_cases ek : tK (eB E) (eN E) i = k
  · rw [pWd, if_pos ek] at hq
    obtain ⟨rfl, hw1, hf1, -, -⟩ := hq
    refine v_run 0 (pc' := 5) (ls' := [some (.ref (ad 1)), some (.int (zI ↑k)), some (.int (zI ↑lo)), some (.int (zI ↑hi))]) (st' := [.int (zI 1)]) rfl ?_
    refine v_if_ne rfl (fun c5 => ?_) (fun c5 => ?_)
    · have hl_i1 : liv (eB E) (eN E) (i + 1) := liv_K hl (by omega)
      simp only at hw1
      obtain ⟨z1, z2, z3, z4⟩ := hT.1 (i + 1) (by have := liv_le hl_i1; omega) hl_i1
      have zk := kS_le (T := eB E) (n := eN E) (pos (eB E) (eN E) (i + 1))
      have zc := cS_le (tS (eB E) (eN E) (i + 1))
      refine v_run 1 (pc' := 11) (ls' := [some (.ref (ad 1)), some (.int (zI ↑k)), some (.int (zI ↑lo)), some (.int (zI ↑hi))]) (st' := [.ref (ad 1)]) rfl ?_
      refine v_get rfl hw1.1 rfl ?_
      refine v_run 0 (pc' := 14) (ls' := [some (.ref (ad 1)), some (.int (zI ↑k)), some (.int (zI ↑lo)), some (.int (zI ↑hi))]) (st' := [.ref (ad 2)]) rfl ?_
      refine v_get rfl hw1.2.1 rfl ?_
      refine v_run 1 (pc' := 18) (ls' := [some (.ref (ad 1)), some (.int (zI ↑k)), some (.int (zI ↑lo)), some (.int (zI ↑hi))]) (st' := [.int (zI 2), .int (zI ↑(eS E (i + 1)))]) rfl ?_
      refine v_icmp_eq rfl (fun c18 => ?_) (fun c18 => ?_)
      · simp (disch := omega) only [zI_lt, zI_le, zI_eq, zI_lt0, zI_le0, zI_0lt, zI_0le, zI_eq0] at c18
        have es : tS (eB E) (eN E) (i + 1) = 3 := cS_2.mp (by omega)
        have ev := z4 (Or.inr es)
        have hv := kV_lt3 es
        have hv : tV (eB E) (eN E) (i + 1) < 1000 := hv
        skip
        refine v_run 1 (pc' := 28) (ls' := [some (.ref (ad 1)), some (.int (zI ↑k)), some (.int (zI ↑lo)), some (.int (zI ↑hi))]) (st' := [.ref (ad 1)]) rfl ?_
        refine v_get rfl hw1.1 rfl ?_
        refine v_run 0 (pc' := 31) (ls' := [some (.ref (ad 1)), some (.int (zI ↑k)), some (.int (zI ↑lo)), some (.int (zI ↑hi))]) (st' := [.ref (ad 2)]) rfl ?_
        refine v_get rfl hw1.2.1 rfl ?_
        refine v_run 3 (pc' := 37) (ls' := [some (.ref (ad 1)), some (.int (zI ↑k)), some (.int (zI ↑lo)), some (.int (zI ↑hi))]) (st' := [.int (lg_cmp (eV E (i + 1)) ((zI ↑lo).toInt64))]) rfl ?_
        rw [ev, zI_l (by omega) (by omega)]
        refine v_if_lt rfl (fun c37 => ?_) (fun c37 => ?_)
        · rw [lg_lt0, zL_lt (by omega) (by omega) (by omega) (by omega)] at c37
          refine v_run 2 (pc' := 55) (ls' := [some (.ref (ad 1)), some (.int (zI ↑k)), some (.int (zI ↑lo)), some (.int (zI ↑hi))]) (st' := [.int (zI 4), .ref (ad 1)]) rfl ?_
          refine v_callV (My := mX3_fail) (As := [.int (zI 4)]) (rest := []) (mc := 0) (ms := 0) rfl caX3_fail rfl rfl rfl hw1.1 rfl rfl (c_fail G _ (f := 4) hA hp hw1 ht hT hl_i1 (by decide)) rfl rfl (Nat.le_of_ble_eq_true rfl) (by omega) ?_
          rintro _ h9 ⟨rfl, hb9⟩
          refine v_run 0 (pc' := 58) (ls' := [some (.ref (ad 1)), some (.int (zI ↑k)), some (.int (zI ↑lo)), some (.int (zI ↑hi))]) (st' := [.int (zI 0)]) rfl ?_
          exact v_iret rfl rfl rfl (by rw [pNum, pWd, if_pos ek, sb, pVal, if_pos es, if_neg (by omega)]; exact ⟨rfl, hb9.tr hf1⟩)
        · rw [lg_lt0, zL_lt (by omega) (by omega) (by omega) (by omega)] at c37
          refine v_run 1 (pc' := 41) (ls' := [some (.ref (ad 1)), some (.int (zI ↑k)), some (.int (zI ↑lo)), some (.int (zI ↑hi))]) (st' := [.ref (ad 1)]) rfl ?_
          refine v_get rfl hw1.1 rfl ?_
          refine v_run 0 (pc' := 44) (ls' := [some (.ref (ad 1)), some (.int (zI ↑k)), some (.int (zI ↑lo)), some (.int (zI ↑hi))]) (st' := [.ref (ad 2)]) rfl ?_
          refine v_get rfl hw1.2.1 rfl ?_
          refine v_run 3 (pc' := 50) (ls' := [some (.ref (ad 1)), some (.int (zI ↑k)), some (.int (zI ↑lo)), some (.int (zI ↑hi))]) (st' := [.int (lg_cmp (eV E (i + 1)) ((zI ↑hi).toInt64))]) rfl ?_
          rw [ev, zI_l (by omega) (by omega)]
          refine v_if_le rfl (fun c50 => ?_) (fun c50 => ?_)
          · rw [lg_le0, zL_lt (by omega) (by omega) (by omega) (by omega)] at c50
            refine v_run 2 (pc' := 61) (ls' := [some (.ref (ad 1)), some (.int (zI ↑k)), some (.int (zI ↑lo)), some (.int (zI ↑hi))]) (st' := [.ref (ad 1), .ref (ad 1)]) rfl ?_
            refine v_get rfl hw1.1 rfl ?_
            refine v_run 0 (pc' := 64) (ls' := [some (.ref (ad 1)), some (.int (zI ↑k)), some (.int (zI ↑lo)), some (.int (zI ↑hi))]) (st' := [.ref (ad 2), .ref (ad 1)]) rfl ?_
            refine v_get rfl hw1.2.1 rfl ?_
            refine v_run 1 (pc' := 68) (ls' := [some (.ref (ad 1)), some (.int (zI ↑k)), some (.int (zI ↑lo)), some (.int (zI ↑hi))]) (st' := [.int ((eV E (i + 1)).toInt32), .ref (ad 1)]) rfl ?_
            rw [show (eV E (i + 1)).toInt32 = zI ↑(tV (eB E) (eN E) (i + 1)) by rw [ev]; exact zL_i]
            refine v_put rfl hw1.1 rfl rfl (Nat.le_of_ble_eq_true rfl) ?_
            have hw2 := hw1.pI hA hp 5 (tV (eB E) (eN E) (i + 1)) (by omega)
            generalize e2 : hset h1 (ad 1) _ = h2 at hw2 ⊢
            have hl2 : liv (eB E) (eN E) (i + 1 + 1) := liv_s hl_i1 (by omega)
            refine v_run 1 (pc' := 72) (ls' := [some (.ref (ad 1)), some (.int (zI ↑k)), some (.int (zI ↑lo)), some (.int (zI ↑hi))]) (st' := [.ref (ad 1)]) rfl ?_
            refine v_get rfl hw2.1 rfl ?_
            refine v_run 0 (pc' := 75) (ls' := [some (.ref (ad 1)), some (.int (zI ↑k)), some (.int (zI ↑lo)), some (.int (zI ↑hi))]) (st' := [.ref (ad 2)]) rfl ?_
            refine v_callV (My := mX5_advance) (As := []) (rest := []) (mc := 0) (ms := 0) rfl caX5_advance rfl rfl rfl hw2.2.1 rfl rfl (c_adv G _ hA hp hw2 hT hl2) rfl rfl (Nat.le_of_ble_eq_true rfl) (by omega) ?_
            rintro _ h3 ⟨rfl, hw3, hf3⟩
            refine v_run 0 (pc' := 78) (ls' := [some (.ref (ad 1)), some (.int (zI ↑k)), some (.int (zI ↑lo)), some (.int (zI ↑hi))]) (st' := []) rfl ?_
            refine v_run 1 (pc' := 79) (ls' := [some (.ref (ad 1)), some (.int (zI ↑k)), some (.int (zI ↑lo)), some (.int (zI ↑hi))]) (st' := [.int (zI 1)]) rfl ?_
            exact v_iret rfl rfl rfl (by rw [pNum, pWd, if_pos ek, sb, pVal, if_pos es, if_pos (by omega)]; exact ⟨rfl, hw3, (hf1.tr (e2 ▸ frC.set (Or.inl rfl) _)).tr hf3, ht.up (by simp [bdT] <;> omega), hl2⟩)
          · rw [lg_le0, Classical.not_not, zL_lt (by omega) (by omega) (by omega) (by omega)] at c50
            refine v_run 2 (pc' := 55) (ls' := [some (.ref (ad 1)), some (.int (zI ↑k)), some (.int (zI ↑lo)), some (.int (zI ↑hi))]) (st' := [.int (zI 4), .ref (ad 1)]) rfl ?_
            refine v_callV (My := mX3_fail) (As := [.int (zI 4)]) (rest := []) (mc := 0) (ms := 0) rfl caX3_fail rfl rfl rfl hw1.1 rfl rfl (c_fail G _ (f := 4) hA hp hw1 ht hT hl_i1 (by decide)) rfl rfl (Nat.le_of_ble_eq_true rfl) (by omega) ?_
            rintro _ h9 ⟨rfl, hb9⟩
            refine v_run 0 (pc' := 58) (ls' := [some (.ref (ad 1)), some (.int (zI ↑k)), some (.int (zI ↑lo)), some (.int (zI ↑hi))]) (st' := [.int (zI 0)]) rfl ?_
            exact v_iret rfl rfl rfl (by rw [pNum, pWd, if_pos ek, sb, pVal, if_pos es, if_neg (by omega)]; exact ⟨rfl, hb9.tr hf1⟩)
      · simp (disch := omega) only [zI_lt, zI_le, zI_eq, zI_lt0, zI_le0, zI_0lt, zI_0le, zI_eq0] at c18
        have es : ¬ tS (eB E) (eN E) (i + 1) = 3 := fun z => by rw [z1, z] at c18; exact absurd rfl c18
        refine v_run 2 (pc' := 23) (ls' := [some (.ref (ad 1)), some (.int (zI ↑k)), some (.int (zI ↑lo)), some (.int (zI ↑hi))]) (st' := [.int (zI 1), .ref (ad 1)]) rfl ?_
        refine v_callV (My := mX3_fail) (As := [.int (zI 1)]) (rest := []) (mc := 0) (ms := 0) rfl caX3_fail rfl rfl rfl hw1.1 rfl rfl (c_fail G _ (f := 1) hA hp hw1 ht hT hl_i1 (by decide)) rfl rfl (Nat.le_of_ble_eq_true rfl) (by omega) ?_
        rintro _ h9 ⟨rfl, hb9⟩
        refine v_run 0 (pc' := 26) (ls' := [some (.ref (ad 1)), some (.int (zI ↑k)), some (.int (zI ↑lo)), some (.int (zI ↑hi))]) (st' := [.int (zI 0)]) rfl ?_
        exact v_iret rfl rfl rfl (by rw [pNum, pWd, if_pos ek, sb, pVal, if_neg es]; exact ⟨rfl, hb9.tr hf1⟩)
    · exact absurd c5 (by decide)
  · rw [pWd, if_neg ek] at hq
    obtain ⟨rfl, hb⟩ := hq
    refine v_run 0 (pc' := 5) (ls' := [some (.ref (ad 1)), some (.int (zI ↑k)), some (.int (zI ↑lo)), some (.int (zI ↑hi))]) (st' := [.int (zI 0)]) rfl ?_
    refine v_if_ne rfl (fun c5 => ?_) (fun c5 => ?_)
    · exact absurd rfl c5
    · refine v_run 1 (pc' := 9) (ls' := [some (.ref (ad 1)), some (.int (zI ↑k)), some (.int (zI ↑lo)), some (.int (zI ↑hi))]) (st' := [.int (zI 0)]) rfl ?_
      exact v_iret rfl rfl rfl (by rw [pNum, pWd, if_neg ek]; exact ⟨rfl, hb⟩)

