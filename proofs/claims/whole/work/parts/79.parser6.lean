def cHook (E : pE) (τ : sT) (i : Nat) : pR (Nat × sT) := if τ 1 3 0 = 6 then .inl (5, tP (eB E) (eN E) i) else sb (cNew E τ 2 (τ 1 3 0) (i + 1)) (fun q => sb (pNum (eB E) (eN E) 14 0 9 q.1) (fun a => .inr (a.1, tU (tU (tU q.2 5 5 0 a.2) 1 4 (τ 1 3 0) a.2) 1 3 0 (τ 1 3 0 + 1))))
def cAct (E : pE) (τ : sT) (i : Nat) : pR (Nat × sT) := if τ 1 7 0 = 5 then .inl (5, tP (eB E) (eN E) i) else sb (cNew E τ 4 (τ 1 7 0) (i + 1)) (fun q => sb (pNum (eB E) (eN E) 18 0 40 q.1) (fun a => .inr (a.1, tU (tU (tU q.2 5 5 0 a.2) 1 8 (τ 1 7 0) a.2) 1 7 0 (τ 1 7 0 + 1))))
def cKind (E : pE) (τ : sT) (s i : Nat) : pR (Nat × sT) := if 19 ≤ tK (eB E) (eN E) i then .inr (i + 1, tU τ 2 3 s (tK (eB E) (eN E) i - 19)) else .inl (1, tP (eB E) (eN E) i)
def cFree (E : pE) (τ : sT) (s i : Nat) : pR (Nat × sT) := sb (cTold E τ 2 i) (fun k => if bitN (τ 5 6 0) k = true then .inl (7, tP (eB E) (eN E) i) else .inr (i + 1, tU (tU τ 5 6 0 (τ 5 6 0 ||| 2 ^ k)) 2 4 s k))
set_option maxRecDepth 100000 in
set_option maxHeartbeats 400000 in
theorem c_cHook (G : ssG) (h : ssH) {ad : Nat → Nat} {po : Nat} {E : pE} {τ : sT} {i : Nat}  (hA : ∀ k l, ad k = ad l → k = l) (hp : po = 11 ∨ po = 22) (hw : PW h ad po E τ i) (ht : TOk τ) (hT : TkE E) (hl : liv (eB E) (eN E) i) (hk : 1 ≤ tK (eB E) (eN E) i) (h17 : τ 1 3 0 < 6 → τ 5 7 0 < 17) : ssC G mX3_hearHook 3 0 0 [.ref (ad 1)] h (QP ad po E h (cHook E τ i)) := by
  refine c_of_v okX3_hearHook (by decide +kernel) (ls := [some (.ref (ad 1)), none]) rfl (Nat.le_of_ble_eq_true rfl) ?_
  obtain ⟨s1, s2, s3, s4⟩ := hT.1 i (by have := liv_le hl; have := hT.2; omega) hl
  have tk1 := kS_le (T := eB E) (n := eN E) (pos (eB E) (eN E) i)
  have tk2 := tK_le (T := eB E) (n := eN E) i
  have tk3 := tP_le (T := eB E) (n := eN E) i
  have tk4 := hT.2
  have tk5 := liv_le hl
  have q7 : τ 5 7 0 ≤ 17 := ht 5 7 0 (by omega)
  have q3 : τ 1 3 0 ≤ 6 := ht 1 3 0 (by omega)
  refine v_run 1 (pc' := 1) (ls' := [some (.ref (ad 1)), none]) (st' := [.ref (ad 1)]) rfl ?_
  refine v_get rfl hw.1 rfl ?_
  refine v_run 0 (pc' := 4) (ls' := [some (.ref (ad 1)), none]) (st' := [.ref (ad po)]) rfl ?_
  refine v_get rfl hw.2.2.2.2.1.1 rfl ?_
  refine v_run 3 (pc' := 11) (ls' := [some (.ref (ad 1)), some (.int (zI ↑(τ 1 3 0)))]) (st' := [.int (zI 6), .int (zI ↑(τ 1 3 0))]) rfl ?_
  refine v_icmp_lt rfl (fun c11 => ?_) (fun c11 => ?_)
  · simp (disch := omega) only [zI_lt, zI_le, zI_eq, zI_lt0, zI_le0, zI_0lt, zI_0le, zI_eq0] at c11
    have h17 := h17 (by omega)
    have hla : liv (eB E) (eN E) (i + 1) := liv_K hl hk
    refine v_run 1 (pc' := 21) (ls' := [some (.ref (ad 1)), some (.int (zI ↑(τ 1 3 0)))]) (st' := [.ref (ad 1)]) rfl ?_
    refine v_get rfl hw.1 rfl ?_
    refine v_run 0 (pc' := 24) (ls' := [some (.ref (ad 1)), some (.int (zI ↑(τ 1 3 0)))]) (st' := [.ref (ad 2)]) rfl ?_
    refine v_callV (My := mX5_advance) (As := []) (rest := []) (mc := 0) (ms := 0) rfl caX5_advance rfl rfl rfl hw.2.1 rfl rfl (c_adv G _ hA hp hw hT hla) rfl rfl (Nat.le_of_ble_eq_true rfl) (by omega) ?_
    rintro _ h1 ⟨rfl, hw1, hf1⟩
    refine v_run 0 (pc' := 27) (ls' := [some (.ref (ad 1)), some (.int (zI ↑(τ 1 3 0)))]) (st' := []) rfl ?_
    refine v_run 3 (pc' := 30) (ls' := [some (.ref (ad 1)), some (.int (zI ↑(τ 1 3 0)))]) (st' := [.int (zI ↑(τ 1 3 0)), .int (zI 2), .ref (ad 1)]) rfl ?_
    refine v_callV (My := mX3_hearNewName) (As := [.int (zI 2), .int (zI ↑(τ 1 3 0))]) (rest := []) (mc := 0) (ms := 0) rfl caX3_hearNewName rfl rfl rfl hw1.1 rfl rfl (c_new G _ (sr := 2) (nu := τ 1 3 0) hA hp hw1 ht hT hla h17 (by decide) (by omega)) rfl rfl (Nat.le_of_ble_eq_true rfl) (by omega) ?_
    intro an2 h2 hq2
    rcases hr2 : cNew E τ 2 (τ 1 3 0) (i + 1) with e | q
    · rw [hr2] at hq2
      obtain ⟨rfl, hb2⟩ := hq2
      refine v_run 0 (pc' := 33) (ls' := [some (.ref (ad 1)), some (.int (zI ↑(τ 1 3 0)))]) (st' := [.int (zI 0)]) rfl ?_
      refine v_if_eq rfl (fun c33 => ?_) (fun c33 => ?_)
      · refine v_run 1 (pc' := 49) (ls' := [some (.ref (ad 1)), some (.int (zI ↑(τ 1 3 0)))]) (st' := [.int (zI 0)]) rfl ?_
        exact v_iret rfl rfl rfl (by rw [show cHook E τ i = .inl e from by simp only [cHook, if_neg (show ¬ τ 1 3 0 = 6 by omega), hr2, sb]]; exact ⟨rfl, hb2.tr hf1⟩)
      · exact absurd rfl c33
    · rw [hr2] at hq2
      obtain ⟨rfl, hw2, hf2, -, -⟩ := hq2
      obtain ⟨rfl, hl2, hs2⟩ := cNew_ok hr2 hla
      simp only at hw2
      have hv2 : tV (eB E) (eN E) (i + 1) < 1099511627776 := kV_lt2 hs2
      have ht2 : TOk (tU (tU (tU (tU τ 5 8 (τ 5 7 0) (tV (eB E) (eN E) (i + 1))) 5 9 (τ 5 7 0) 2) 5 10 (τ 5 7 0) (τ 1 3 0)) 5 7 0 (τ 5 7 0 + 1)) := (((ht.up (by simp [bdT] <;> omega)).up (by simp [bdT] <;> omega)).up (by simp [bdT] <;> omega)).up (by simp [bdT] <;> omega)
      refine v_run 0 (pc' := 33) (ls' := [some (.ref (ad 1)), some (.int (zI ↑(τ 1 3 0)))]) (st' := [.int (zI 1)]) rfl ?_
      refine v_if_eq rfl (fun c33 => ?_) (fun c33 => ?_)
      · exact absurd c33 (by decide)
      · refine v_run 4 (pc' := 42) (ls' := [some (.ref (ad 1)), some (.int (zI ↑(τ 1 3 0)))]) (st' := [.int (zI 9), .int (zI 0), .int (zI 14), .ref (ad 1)]) rfl ?_
        refine v_callV (My := mX3_hearNumber) (As := [.int (zI 14), .int (zI 0), .int (zI 9)]) (rest := []) (mc := 0) (ms := 0) rfl caX3_hearNumber rfl rfl rfl hw2.1 rfl rfl (c_num G _ (k := 14) (lo := 0) (hi := 9) hA hp hw2 ht2 hT hl2 (by decide) (by decide) (by decide)) rfl rfl (Nat.le_of_ble_eq_true rfl) (by omega) ?_
        intro an3 h3 hq3
        rcases hr3 : pNum (eB E) (eN E) 14 0 9 (i + 1 + 1) with e | a
        · rw [hr3] at hq3
          obtain ⟨rfl, hb3⟩ := hq3
          refine v_run 0 (pc' := 45) (ls' := [some (.ref (ad 1)), some (.int (zI ↑(τ 1 3 0)))]) (st' := [.int (zI 0)]) rfl ?_
          refine v_if_ne rfl (fun c45 => ?_) (fun c45 => ?_)
          · exact absurd rfl c45
          · refine v_run 1 (pc' := 49) (ls' := [some (.ref (ad 1)), some (.int (zI ↑(τ 1 3 0)))]) (st' := [.int (zI 0)]) rfl ?_
            exact v_iret rfl rfl rfl (by rw [show cHook E τ i = .inl e from by simp only [cHook, if_neg (show ¬ τ 1 3 0 = 6 by omega), hr2, hr3, sb]]; exact ⟨rfl, hb3.tr (hf1.tr hf2)⟩)
        · rw [hr3] at hq3
          obtain ⟨rfl, hw3, hf3, -, -⟩ := hq3
          obtain ⟨hx3, hl3, ho3, hi3⟩ := pNum_ok hr3 hl2 (by decide)
          simp only at hw3
          have ht3 : TOk (tU (tU (tU (tU (tU τ 5 8 (τ 5 7 0) (tV (eB E) (eN E) (i + 1))) 5 9 (τ 5 7 0) 2) 5 10 (τ 5 7 0) (τ 1 3 0)) 5 7 0 (τ 5 7 0 + 1)) 5 5 0 a.2) := ht2.up (by simp [bdT] <;> omega)
          refine v_run 0 (pc' := 45) (ls' := [some (.ref (ad 1)), some (.int (zI ↑(τ 1 3 0)))]) (st' := [.int (zI 1)]) rfl ?_
          refine v_if_ne rfl (fun c45 => ?_) (fun c45 => ?_)
          · refine v_run 1 (pc' := 51) (ls' := [some (.ref (ad 1)), some (.int (zI ↑(τ 1 3 0)))]) (st' := [.ref (ad 1)]) rfl ?_
            refine v_get rfl hw3.1 rfl ?_
            refine v_run 0 (pc' := 54) (ls' := [some (.ref (ad 1)), some (.int (zI ↑(τ 1 3 0)))]) (st' := [.ref (ad po)]) rfl ?_
            refine v_get rfl hw3.2.2.2.2.1.1 rfl ?_
            refine v_run 2 (pc' := 59) (ls' := [some (.ref (ad 1)), some (.int (zI ↑(τ 1 3 0)))]) (st' := [.ref (ad 1), .int (zI ↑(τ 1 3 0)), .ref (Rp ad po 4)]) rfl ?_
            refine v_get rfl hw3.1 rfl ?_
            refine v_run 0 (pc' := 62) (ls' := [some (.ref (ad 1)), some (.int (zI ↑(τ 1 3 0)))]) (st' := [.int (zI ↑a.2), .int (zI ↑(τ 1 3 0)), .ref (Rp ad po 4)]) rfl ?_
            refine v_iastore' rfl hw3.2.2.2.2.1.2.1 (i := τ 1 3 0) rfl (by omega) ?_
            rw [ar_upd]
            rw [show (fun j => if j = τ 1 3 0 then a.2 else ((tU (tU (tU (tU (tU τ 5 8 (τ 5 7 0) (tV (eB E) (eN E) (i + 1))) 5 9 (τ 5 7 0) 2) 5 10 (τ 5 7 0) (τ 1 3 0)) 5 7 0 (τ 5 7 0 + 1)) 5 5 0 a.2)) 1 4 j) = (fun j => if j = τ 1 3 0 then a.2 else ((tU (tU (tU (tU (tU τ 5 8 (τ 5 7 0) (tV (eB E) (eN E) (i + 1))) 5 9 (τ 5 7 0) 2) 5 10 (τ 5 7 0) (τ 1 3 0)) 5 7 0 (τ 5 7 0 + 1)) 5 5 0 a.2)) 1 4 j) from rfl]
            have hw4 := hw3.pr4 hA hp (τ 1 3 0) a.2
            generalize e4 : hset h3 (Rp ad po 4) _ = h4 at hw4 ⊢
            have hf4 : frC ad po h3 h4 := e4 ▸ frC.set (by simp <;> omega) _
            have ht4 : TOk (tU (tU (tU (tU (tU (tU τ 5 8 (τ 5 7 0) (tV (eB E) (eN E) (i + 1))) 5 9 (τ 5 7 0) 2) 5 10 (τ 5 7 0) (τ 1 3 0)) 5 7 0 (τ 5 7 0 + 1)) 5 5 0 a.2) 1 4 (τ 1 3 0) a.2) := ht3.up (by simp [bdT] <;> omega)
            refine v_run 1 (pc' := 64) (ls' := [some (.ref (ad 1)), some (.int (zI ↑(τ 1 3 0)))]) (st' := [.ref (ad 1)]) rfl ?_
            refine v_get rfl hw4.1 rfl ?_
            refine v_run 1 (pc' := 68) (ls' := [some (.ref (ad 1)), some (.int (zI ↑(τ 1 3 0)))]) (st' := [.ref (ad po), .ref (ad po)]) rfl ?_
            refine v_get rfl hw4.2.2.2.2.1.1 rfl ?_
            refine v_run 2 (pc' := 73) (ls' := [some (.ref (ad 1)), some (.int (zI ↑(τ 1 3 0)))]) (st' := [.int ((zI ↑(τ 1 3 0)) + (zI 1)), .ref (ad po)]) rfl ?_
            rw [show (((zI ↑(τ 1 3 0)) + (zI 1)) : Int32) = zI ↑(τ 1 3 0 + 1) from zI_s1 _]
            refine v_put rfl hw4.2.2.2.2.1.1 rfl rfl (Nat.le_of_ble_eq_true rfl) ?_
            have hw5 := hw4.plI hA hp 3 (τ 1 3 0 + 1) (by omega)
            generalize e5 : hset h4 (ad po) _ = h5 at hw5 ⊢
            have hf5 : frC ad po h4 h5 := e5 ▸ frC.set (by omega) _
            have ht5 : TOk (tU (tU (tU (tU (tU (tU (tU τ 5 8 (τ 5 7 0) (tV (eB E) (eN E) (i + 1))) 5 9 (τ 5 7 0) 2) 5 10 (τ 5 7 0) (τ 1 3 0)) 5 7 0 (τ 5 7 0 + 1)) 5 5 0 a.2) 1 4 (τ 1 3 0) a.2) 1 3 0 (τ 1 3 0 + 1)) := ht4.up (by simp [bdT] <;> omega)
            refine v_run 1 (pc' := 77) (ls' := [some (.ref (ad 1)), some (.int (zI ↑(τ 1 3 0)))]) (st' := [.int (zI 1)]) rfl ?_
            exact v_iret rfl rfl rfl (by rw [show cHook E τ i = .inr (a.1, (tU (tU (tU (tU (tU (tU (tU τ 5 8 (τ 5 7 0) (tV (eB E) (eN E) (i + 1))) 5 9 (τ 5 7 0) 2) 5 10 (τ 5 7 0) (τ 1 3 0)) 5 7 0 (τ 5 7 0 + 1)) 5 5 0 a.2) 1 4 (τ 1 3 0) a.2) 1 3 0 (τ 1 3 0 + 1))) from by simp only [cHook, if_neg (show ¬ τ 1 3 0 = 6 by omega), hr2, hr3, sb]]; exact ⟨rfl, hw5, ((((hf1.tr hf2).tr hf3).tr hf4).tr hf5), ht5, (hx3 ▸ hl3)⟩)
          · exact absurd c45 (by decide)
  · simp (disch := omega) only [zI_lt, zI_le, zI_eq, zI_lt0, zI_le0, zI_0lt, zI_0le, zI_eq0] at c11
    refine v_run 2 (pc' := 16) (ls' := [some (.ref (ad 1)), some (.int (zI ↑(τ 1 3 0)))]) (st' := [.int (zI 5), .ref (ad 1)]) rfl ?_
    refine v_callV (My := mX3_fail) (As := [.int (zI 5)]) (rest := []) (mc := 0) (ms := 0) rfl caX3_fail rfl rfl rfl hw.1 rfl rfl (c_fail G _ (f := 5) hA hp hw ht hT hl (by decide)) rfl rfl (Nat.le_of_ble_eq_true rfl) (by omega) ?_
    rintro _ h99 ⟨rfl, hb99⟩
    refine v_run 0 (pc' := 19) (ls' := [some (.ref (ad 1)), some (.int (zI ↑(τ 1 3 0)))]) (st' := [.int (zI 0)]) rfl ?_
    exact v_iret rfl rfl rfl (by rw [show cHook E τ i = .inl (5, tP (eB E) (eN E) i) from by simp only [cHook, if_pos (show τ 1 3 0 = 6 by omega), sb]]; exact ⟨rfl, hb99⟩)

set_option maxRecDepth 100000 in
set_option maxHeartbeats 400000 in
theorem c_cAct (G : ssG) (h : ssH) {ad : Nat → Nat} {po : Nat} {E : pE} {τ : sT} {i : Nat}  (hA : ∀ k l, ad k = ad l → k = l) (hp : po = 11 ∨ po = 22) (hw : PW h ad po E τ i) (ht : TOk τ) (hT : TkE E) (hl : liv (eB E) (eN E) i) (hk : 1 ≤ tK (eB E) (eN E) i) (h17 : τ 1 7 0 < 5 → τ 5 7 0 < 17) : ssC G mX3_hearAct 3 0 0 [.ref (ad 1)] h (QP ad po E h (cAct E τ i)) := by
  refine c_of_v okX3_hearAct (by decide +kernel) (ls := [some (.ref (ad 1)), none]) rfl (Nat.le_of_ble_eq_true rfl) ?_
  obtain ⟨s1, s2, s3, s4⟩ := hT.1 i (by have := liv_le hl; have := hT.2; omega) hl
  have tk1 := kS_le (T := eB E) (n := eN E) (pos (eB E) (eN E) i)
  have tk2 := tK_le (T := eB E) (n := eN E) i
  have tk3 := tP_le (T := eB E) (n := eN E) i
  have tk4 := hT.2
  have tk5 := liv_le hl
  have q7 : τ 5 7 0 ≤ 17 := ht 5 7 0 (by omega)
  have q3 : τ 1 7 0 ≤ 5 := ht 1 7 0 (by omega)
  refine v_run 1 (pc' := 1) (ls' := [some (.ref (ad 1)), none]) (st' := [.ref (ad 1)]) rfl ?_
  refine v_get rfl hw.1 rfl ?_
  refine v_run 0 (pc' := 4) (ls' := [some (.ref (ad 1)), none]) (st' := [.ref (ad po)]) rfl ?_
  refine v_get rfl hw.2.2.2.2.1.1 rfl ?_
  refine v_run 3 (pc' := 10) (ls' := [some (.ref (ad 1)), some (.int (zI ↑(τ 1 7 0)))]) (st' := [.int (zI 5), .int (zI ↑(τ 1 7 0))]) rfl ?_
  refine v_icmp_lt rfl (fun c10 => ?_) (fun c10 => ?_)
  · simp (disch := omega) only [zI_lt, zI_le, zI_eq, zI_lt0, zI_le0, zI_0lt, zI_0le, zI_eq0] at c10
    have h17 := h17 (by omega)
    have hla : liv (eB E) (eN E) (i + 1) := liv_K hl hk
    refine v_run 1 (pc' := 20) (ls' := [some (.ref (ad 1)), some (.int (zI ↑(τ 1 7 0)))]) (st' := [.ref (ad 1)]) rfl ?_
    refine v_get rfl hw.1 rfl ?_
    refine v_run 0 (pc' := 23) (ls' := [some (.ref (ad 1)), some (.int (zI ↑(τ 1 7 0)))]) (st' := [.ref (ad 2)]) rfl ?_
    refine v_callV (My := mX5_advance) (As := []) (rest := []) (mc := 0) (ms := 0) rfl caX5_advance rfl rfl rfl hw.2.1 rfl rfl (c_adv G _ hA hp hw hT hla) rfl rfl (Nat.le_of_ble_eq_true rfl) (by omega) ?_
    rintro _ h1 ⟨rfl, hw1, hf1⟩
    refine v_run 0 (pc' := 26) (ls' := [some (.ref (ad 1)), some (.int (zI ↑(τ 1 7 0)))]) (st' := []) rfl ?_
    refine v_run 3 (pc' := 29) (ls' := [some (.ref (ad 1)), some (.int (zI ↑(τ 1 7 0)))]) (st' := [.int (zI ↑(τ 1 7 0)), .int (zI 4), .ref (ad 1)]) rfl ?_
    refine v_callV (My := mX3_hearNewName) (As := [.int (zI 4), .int (zI ↑(τ 1 7 0))]) (rest := []) (mc := 0) (ms := 0) rfl caX3_hearNewName rfl rfl rfl hw1.1 rfl rfl (c_new G _ (sr := 4) (nu := τ 1 7 0) hA hp hw1 ht hT hla h17 (by decide) (by omega)) rfl rfl (Nat.le_of_ble_eq_true rfl) (by omega) ?_
    intro an2 h2 hq2
    rcases hr2 : cNew E τ 4 (τ 1 7 0) (i + 1) with e | q
    · rw [hr2] at hq2
      obtain ⟨rfl, hb2⟩ := hq2
      refine v_run 0 (pc' := 32) (ls' := [some (.ref (ad 1)), some (.int (zI ↑(τ 1 7 0)))]) (st' := [.int (zI 0)]) rfl ?_
      refine v_if_eq rfl (fun c32 => ?_) (fun c32 => ?_)
      · refine v_run 1 (pc' := 48) (ls' := [some (.ref (ad 1)), some (.int (zI ↑(τ 1 7 0)))]) (st' := [.int (zI 0)]) rfl ?_
        exact v_iret rfl rfl rfl (by rw [show cAct E τ i = .inl e from by simp only [cAct, if_neg (show ¬ τ 1 7 0 = 5 by omega), hr2, sb]]; exact ⟨rfl, hb2.tr hf1⟩)
      · exact absurd rfl c32
    · rw [hr2] at hq2
      obtain ⟨rfl, hw2, hf2, -, -⟩ := hq2
      obtain ⟨rfl, hl2, hs2⟩ := cNew_ok hr2 hla
      simp only at hw2
      have hv2 : tV (eB E) (eN E) (i + 1) < 1099511627776 := kV_lt2 hs2
      have ht2 : TOk (tU (tU (tU (tU τ 5 8 (τ 5 7 0) (tV (eB E) (eN E) (i + 1))) 5 9 (τ 5 7 0) 4) 5 10 (τ 5 7 0) (τ 1 7 0)) 5 7 0 (τ 5 7 0 + 1)) := (((ht.up (by simp [bdT] <;> omega)).up (by simp [bdT] <;> omega)).up (by simp [bdT] <;> omega)).up (by simp [bdT] <;> omega)
      refine v_run 0 (pc' := 32) (ls' := [some (.ref (ad 1)), some (.int (zI ↑(τ 1 7 0)))]) (st' := [.int (zI 1)]) rfl ?_
      refine v_if_eq rfl (fun c32 => ?_) (fun c32 => ?_)
      · exact absurd c32 (by decide)
      · refine v_run 4 (pc' := 41) (ls' := [some (.ref (ad 1)), some (.int (zI ↑(τ 1 7 0)))]) (st' := [.int (zI 40), .int (zI 0), .int (zI 18), .ref (ad 1)]) rfl ?_
        refine v_callV (My := mX3_hearNumber) (As := [.int (zI 18), .int (zI 0), .int (zI 40)]) (rest := []) (mc := 0) (ms := 0) rfl caX3_hearNumber rfl rfl rfl hw2.1 rfl rfl (c_num G _ (k := 18) (lo := 0) (hi := 40) hA hp hw2 ht2 hT hl2 (by decide) (by decide) (by decide)) rfl rfl (Nat.le_of_ble_eq_true rfl) (by omega) ?_
        intro an3 h3 hq3
        rcases hr3 : pNum (eB E) (eN E) 18 0 40 (i + 1 + 1) with e | a
        · rw [hr3] at hq3
          obtain ⟨rfl, hb3⟩ := hq3
          refine v_run 0 (pc' := 44) (ls' := [some (.ref (ad 1)), some (.int (zI ↑(τ 1 7 0)))]) (st' := [.int (zI 0)]) rfl ?_
          refine v_if_ne rfl (fun c44 => ?_) (fun c44 => ?_)
          · exact absurd rfl c44
          · refine v_run 1 (pc' := 48) (ls' := [some (.ref (ad 1)), some (.int (zI ↑(τ 1 7 0)))]) (st' := [.int (zI 0)]) rfl ?_
            exact v_iret rfl rfl rfl (by rw [show cAct E τ i = .inl e from by simp only [cAct, if_neg (show ¬ τ 1 7 0 = 5 by omega), hr2, hr3, sb]]; exact ⟨rfl, hb3.tr (hf1.tr hf2)⟩)
        · rw [hr3] at hq3
          obtain ⟨rfl, hw3, hf3, -, -⟩ := hq3
          obtain ⟨hx3, hl3, ho3, hi3⟩ := pNum_ok hr3 hl2 (by decide)
          simp only at hw3
          have ht3 : TOk (tU (tU (tU (tU (tU τ 5 8 (τ 5 7 0) (tV (eB E) (eN E) (i + 1))) 5 9 (τ 5 7 0) 4) 5 10 (τ 5 7 0) (τ 1 7 0)) 5 7 0 (τ 5 7 0 + 1)) 5 5 0 a.2) := ht2.up (by simp [bdT] <;> omega)
          refine v_run 0 (pc' := 44) (ls' := [some (.ref (ad 1)), some (.int (zI ↑(τ 1 7 0)))]) (st' := [.int (zI 1)]) rfl ?_
          refine v_if_ne rfl (fun c44 => ?_) (fun c44 => ?_)
          · refine v_run 1 (pc' := 50) (ls' := [some (.ref (ad 1)), some (.int (zI ↑(τ 1 7 0)))]) (st' := [.ref (ad 1)]) rfl ?_
            refine v_get rfl hw3.1 rfl ?_
            refine v_run 0 (pc' := 53) (ls' := [some (.ref (ad 1)), some (.int (zI ↑(τ 1 7 0)))]) (st' := [.ref (ad po)]) rfl ?_
            refine v_get rfl hw3.2.2.2.2.1.1 rfl ?_
            refine v_run 2 (pc' := 58) (ls' := [some (.ref (ad 1)), some (.int (zI ↑(τ 1 7 0)))]) (st' := [.ref (ad 1), .int (zI ↑(τ 1 7 0)), .ref (Rp ad po 8)]) rfl ?_
            refine v_get rfl hw3.1 rfl ?_
            refine v_run 0 (pc' := 61) (ls' := [some (.ref (ad 1)), some (.int (zI ↑(τ 1 7 0)))]) (st' := [.int (zI ↑a.2), .int (zI ↑(τ 1 7 0)), .ref (Rp ad po 8)]) rfl ?_
            refine v_iastore' rfl hw3.2.2.2.2.1.2.2.2.1 (i := τ 1 7 0) rfl (by omega) ?_
            rw [ar_upd]
            rw [show (fun j => if j = τ 1 7 0 then a.2 else ((tU (tU (tU (tU (tU τ 5 8 (τ 5 7 0) (tV (eB E) (eN E) (i + 1))) 5 9 (τ 5 7 0) 4) 5 10 (τ 5 7 0) (τ 1 7 0)) 5 7 0 (τ 5 7 0 + 1)) 5 5 0 a.2)) 1 8 j) = (fun j => if j = τ 1 7 0 then a.2 else ((tU (tU (tU (tU (tU τ 5 8 (τ 5 7 0) (tV (eB E) (eN E) (i + 1))) 5 9 (τ 5 7 0) 4) 5 10 (τ 5 7 0) (τ 1 7 0)) 5 7 0 (τ 5 7 0 + 1)) 5 5 0 a.2)) 1 8 j) from rfl]
            have hw4 := hw3.pr8 hA hp (τ 1 7 0) a.2
            generalize e4 : hset h3 (Rp ad po 8) _ = h4 at hw4 ⊢
            have hf4 : frC ad po h3 h4 := e4 ▸ frC.set (by simp <;> omega) _
            have ht4 : TOk (tU (tU (tU (tU (tU (tU τ 5 8 (τ 5 7 0) (tV (eB E) (eN E) (i + 1))) 5 9 (τ 5 7 0) 4) 5 10 (τ 5 7 0) (τ 1 7 0)) 5 7 0 (τ 5 7 0 + 1)) 5 5 0 a.2) 1 8 (τ 1 7 0) a.2) := ht3.up (by simp [bdT] <;> omega)
            refine v_run 1 (pc' := 63) (ls' := [some (.ref (ad 1)), some (.int (zI ↑(τ 1 7 0)))]) (st' := [.ref (ad 1)]) rfl ?_
            refine v_get rfl hw4.1 rfl ?_
            refine v_run 1 (pc' := 67) (ls' := [some (.ref (ad 1)), some (.int (zI ↑(τ 1 7 0)))]) (st' := [.ref (ad po), .ref (ad po)]) rfl ?_
            refine v_get rfl hw4.2.2.2.2.1.1 rfl ?_
            refine v_run 2 (pc' := 72) (ls' := [some (.ref (ad 1)), some (.int (zI ↑(τ 1 7 0)))]) (st' := [.int ((zI ↑(τ 1 7 0)) + (zI 1)), .ref (ad po)]) rfl ?_
            rw [show (((zI ↑(τ 1 7 0)) + (zI 1)) : Int32) = zI ↑(τ 1 7 0 + 1) from zI_s1 _]
            refine v_put rfl hw4.2.2.2.2.1.1 rfl rfl (Nat.le_of_ble_eq_true rfl) ?_
            have hw5 := hw4.plI hA hp 7 (τ 1 7 0 + 1) (by omega)
            generalize e5 : hset h4 (ad po) _ = h5 at hw5 ⊢
            have hf5 : frC ad po h4 h5 := e5 ▸ frC.set (by omega) _
            have ht5 : TOk (tU (tU (tU (tU (tU (tU (tU τ 5 8 (τ 5 7 0) (tV (eB E) (eN E) (i + 1))) 5 9 (τ 5 7 0) 4) 5 10 (τ 5 7 0) (τ 1 7 0)) 5 7 0 (τ 5 7 0 + 1)) 5 5 0 a.2) 1 8 (τ 1 7 0) a.2) 1 7 0 (τ 1 7 0 + 1)) := ht4.up (by simp [bdT] <;> omega)
            refine v_run 1 (pc' := 76) (ls' := [some (.ref (ad 1)), some (.int (zI ↑(τ 1 7 0)))]) (st' := [.int (zI 1)]) rfl ?_
            exact v_iret rfl rfl rfl (by rw [show cAct E τ i = .inr (a.1, (tU (tU (tU (tU (tU (tU (tU τ 5 8 (τ 5 7 0) (tV (eB E) (eN E) (i + 1))) 5 9 (τ 5 7 0) 4) 5 10 (τ 5 7 0) (τ 1 7 0)) 5 7 0 (τ 5 7 0 + 1)) 5 5 0 a.2) 1 8 (τ 1 7 0) a.2) 1 7 0 (τ 1 7 0 + 1))) from by simp only [cAct, if_neg (show ¬ τ 1 7 0 = 5 by omega), hr2, hr3, sb]]; exact ⟨rfl, hw5, ((((hf1.tr hf2).tr hf3).tr hf4).tr hf5), ht5, (hx3 ▸ hl3)⟩)
          · exact absurd c44 (by decide)
  · simp (disch := omega) only [zI_lt, zI_le, zI_eq, zI_lt0, zI_le0, zI_0lt, zI_0le, zI_eq0] at c10
    refine v_run 2 (pc' := 15) (ls' := [some (.ref (ad 1)), some (.int (zI ↑(τ 1 7 0)))]) (st' := [.int (zI 5), .ref (ad 1)]) rfl ?_
    refine v_callV (My := mX3_fail) (As := [.int (zI 5)]) (rest := []) (mc := 0) (ms := 0) rfl caX3_fail rfl rfl rfl hw.1 rfl rfl (c_fail G _ (f := 5) hA hp hw ht hT hl (by decide)) rfl rfl (Nat.le_of_ble_eq_true rfl) (by omega) ?_
    rintro _ h99 ⟨rfl, hb99⟩
    refine v_run 0 (pc' := 18) (ls' := [some (.ref (ad 1)), some (.int (zI ↑(τ 1 7 0)))]) (st' := [.int (zI 0)]) rfl ?_
    exact v_iret rfl rfl rfl (by rw [show cAct E τ i = .inl (5, tP (eB E) (eN E) i) from by simp only [cAct, if_pos (show τ 1 7 0 = 5 by omega), sb]]; exact ⟨rfl, hb99⟩)

set_option maxRecDepth 100000 in
set_option maxHeartbeats 400000 in
theorem c_cKind (G : ssG) (h : ssH) {ad : Nat → Nat} {po : Nat} {E : pE} {τ : sT} {i : Nat} {s : Nat} (hA : ∀ k l, ad k = ad l → k = l) (hp : po = 11 ∨ po = 22) (hw : PW h ad po E τ i) (ht : TOk τ) (hT : TkE E) (hl : liv (eB E) (eN E) i) (hs : s < 6) : ssC G mX3_hearKind 1 0 0 [.ref (ad 1), .int (zI ↑s)] h (QP ad po E h (cKind E τ s i)) := by
  refine c_of_v okX3_hearKind (by decide +kernel) (ls := [some (.ref (ad 1)), some (.int (zI ↑s))]) rfl (Nat.le_of_ble_eq_true rfl) ?_
  obtain ⟨s1, s2, s3, s4⟩ := hT.1 i (by have := liv_le hl; have := hT.2; omega) hl
  have tk1 := kS_le (T := eB E) (n := eN E) (pos (eB E) (eN E) i)
  have tk2 := tK_le (T := eB E) (n := eN E) i
  have tk3 := tP_le (T := eB E) (n := eN E) i
  have tk4 := hT.2
  have tk5 := liv_le hl
  refine v_run 1 (pc' := 1) (ls' := [some (.ref (ad 1)), some (.int (zI ↑s))]) (st' := [.ref (ad 1)]) rfl ?_
  refine v_get rfl hw.1 rfl ?_
  refine v_run 0 (pc' := 4) (ls' := [some (.ref (ad 1)), some (.int (zI ↑s))]) (st' := [.ref (ad 2)]) rfl ?_
  refine v_get rfl hw.2.1 rfl ?_
  refine v_run 0 (pc' := 7) (ls' := [some (.ref (ad 1)), some (.int (zI ↑s))]) (st' := [.int (zI ↑(eK E i))]) rfl ?_
  rcases (show eK E i = 19 ∨ eK E i = 20 ∨ eK E i = 21 ∨ eK E i < 19 by omega) with ek | ek | ek | ek
  · rw [ek]
    refine v_tabIn (t := 32) rfl (by decide) (by decide) rfl rfl ?_
    refine v_run 1 (pc' := 33) (ls' := [some (.ref (ad 1)), some (.int (zI ↑s))]) (st' := [.ref (ad 1)]) rfl ?_
    refine v_get rfl hw.1 rfl ?_
    refine v_run 0 (pc' := 36) (ls' := [some (.ref (ad 1)), some (.int (zI ↑s))]) (st' := [.ref (ad po)]) rfl ?_
    refine v_get rfl hw.2.2.2.2.1.1 rfl ?_
    refine v_run 0 (pc' := 39) (ls' := [some (.ref (ad 1)), some (.int (zI ↑s))]) (st' := [.ref (ad (po + 6))]) rfl ?_
    refine v_get rfl hw.2.2.2.2.2.1 rfl ?_
    refine v_run 2 (pc' := 44) (ls' := [some (.ref (ad 1)), some (.int (zI ↑s))]) (st' := [.int (zI 0), .int (zI ↑s), .ref (Rm ad (po + 6) 3)]) rfl ?_
    refine v_iastore' rfl hw.2.2.2.2.2.2.1 (i := s) rfl (by omega) ?_
    rw [show (zI 0 : Int32) = zI ↑(0 : Nat) from rfl, ar_upd]
    rw [show (fun j => if j = s then 0 else (τ) 2 3 j) = (fun j => if j = s then (tK (eB E) (eN E) i - 19) else τ 2 3 j) from by rw [show tK (eB E) (eN E) i - 19 = 0 by omega]]
    have hw1 := hw.mr3 hA hp s (tK (eB E) (eN E) i - 19)
    generalize e1 : hset h (Rm ad (po + 6) 3) _ = h1 at hw1 ⊢
    have hf1 : frC ad po h h1 := e1 ▸ frC.set (by omega) _
    have ht1 : TOk (tU τ 2 3 s (tK (eB E) (eN E) i - 19)) := ht.up (by simp [bdT, hs] <;> omega)
    have hla : liv (eB E) (eN E) (i + 1) := liv_K hl (by omega)
    refine v_run 2 (pc' := 87) (ls' := [some (.ref (ad 1)), some (.int (zI ↑s))]) (st' := [.ref (ad 1)]) rfl ?_
    refine v_get rfl hw1.1 rfl ?_
    refine v_run 0 (pc' := 90) (ls' := [some (.ref (ad 1)), some (.int (zI ↑s))]) (st' := [.ref (ad 2)]) rfl ?_
    refine v_callV (My := mX5_advance) (As := []) (rest := []) (mc := 0) (ms := 0) rfl caX5_advance rfl rfl rfl hw1.2.1 rfl rfl (c_adv G _ hA hp hw1 hT hla) rfl rfl (Nat.le_of_ble_eq_true rfl) (by omega) ?_
    rintro _ h2 ⟨rfl, hw2, hf2⟩
    refine v_run 0 (pc' := 93) (ls' := [some (.ref (ad 1)), some (.int (zI ↑s))]) (st' := []) rfl ?_
    refine v_run 1 (pc' := 94) (ls' := [some (.ref (ad 1)), some (.int (zI ↑s))]) (st' := [.int (zI 1)]) rfl ?_
    exact v_iret rfl rfl rfl (by rw [show cKind E τ s i = .inr (i + 1, (tU τ 2 3 s (tK (eB E) (eN E) i - 19))) from by simp only [cKind, if_pos (show 19 ≤ tK (eB E) (eN E) i by omega), sb]]; exact ⟨rfl, hw2, (hf1.tr hf2), ht1, hla⟩)
  · rw [ek]
    refine v_tabIn (t := 48) rfl (by decide) (by decide) rfl rfl ?_
    refine v_run 1 (pc' := 49) (ls' := [some (.ref (ad 1)), some (.int (zI ↑s))]) (st' := [.ref (ad 1)]) rfl ?_
    refine v_get rfl hw.1 rfl ?_
    refine v_run 0 (pc' := 52) (ls' := [some (.ref (ad 1)), some (.int (zI ↑s))]) (st' := [.ref (ad po)]) rfl ?_
    refine v_get rfl hw.2.2.2.2.1.1 rfl ?_
    refine v_run 0 (pc' := 55) (ls' := [some (.ref (ad 1)), some (.int (zI ↑s))]) (st' := [.ref (ad (po + 6))]) rfl ?_
    refine v_get rfl hw.2.2.2.2.2.1 rfl ?_
    refine v_run 2 (pc' := 60) (ls' := [some (.ref (ad 1)), some (.int (zI ↑s))]) (st' := [.int (zI 1), .int (zI ↑s), .ref (Rm ad (po + 6) 3)]) rfl ?_
    refine v_iastore' rfl hw.2.2.2.2.2.2.1 (i := s) rfl (by omega) ?_
    rw [show (zI 1 : Int32) = zI ↑(1 : Nat) from rfl, ar_upd]
    rw [show (fun j => if j = s then 1 else (τ) 2 3 j) = (fun j => if j = s then (tK (eB E) (eN E) i - 19) else τ 2 3 j) from by rw [show tK (eB E) (eN E) i - 19 = 1 by omega]]
    have hw1 := hw.mr3 hA hp s (tK (eB E) (eN E) i - 19)
    generalize e1 : hset h (Rm ad (po + 6) 3) _ = h1 at hw1 ⊢
    have hf1 : frC ad po h h1 := e1 ▸ frC.set (by omega) _
    have ht1 : TOk (tU τ 2 3 s (tK (eB E) (eN E) i - 19)) := ht.up (by simp [bdT, hs] <;> omega)
    have hla : liv (eB E) (eN E) (i + 1) := liv_K hl (by omega)
    refine v_run 2 (pc' := 87) (ls' := [some (.ref (ad 1)), some (.int (zI ↑s))]) (st' := [.ref (ad 1)]) rfl ?_
    refine v_get rfl hw1.1 rfl ?_
    refine v_run 0 (pc' := 90) (ls' := [some (.ref (ad 1)), some (.int (zI ↑s))]) (st' := [.ref (ad 2)]) rfl ?_
    refine v_callV (My := mX5_advance) (As := []) (rest := []) (mc := 0) (ms := 0) rfl caX5_advance rfl rfl rfl hw1.2.1 rfl rfl (c_adv G _ hA hp hw1 hT hla) rfl rfl (Nat.le_of_ble_eq_true rfl) (by omega) ?_
    rintro _ h2 ⟨rfl, hw2, hf2⟩
    refine v_run 0 (pc' := 93) (ls' := [some (.ref (ad 1)), some (.int (zI ↑s))]) (st' := []) rfl ?_
    refine v_run 1 (pc' := 94) (ls' := [some (.ref (ad 1)), some (.int (zI ↑s))]) (st' := [.int (zI 1)]) rfl ?_
    exact v_iret rfl rfl rfl (by rw [show cKind E τ s i = .inr (i + 1, (tU τ 2 3 s (tK (eB E) (eN E) i - 19))) from by simp only [cKind, if_pos (show 19 ≤ tK (eB E) (eN E) i by omega), sb]]; exact ⟨rfl, hw2, (hf1.tr hf2), ht1, hla⟩)
  · rw [ek]
    refine v_tabIn (t := 64) rfl (by decide) (by decide) rfl rfl ?_
    refine v_run 1 (pc' := 65) (ls' := [some (.ref (ad 1)), some (.int (zI ↑s))]) (st' := [.ref (ad 1)]) rfl ?_
    refine v_get rfl hw.1 rfl ?_
    refine v_run 0 (pc' := 68) (ls' := [some (.ref (ad 1)), some (.int (zI ↑s))]) (st' := [.ref (ad po)]) rfl ?_
    refine v_get rfl hw.2.2.2.2.1.1 rfl ?_
    refine v_run 0 (pc' := 71) (ls' := [some (.ref (ad 1)), some (.int (zI ↑s))]) (st' := [.ref (ad (po + 6))]) rfl ?_
    refine v_get rfl hw.2.2.2.2.2.1 rfl ?_
    refine v_run 2 (pc' := 76) (ls' := [some (.ref (ad 1)), some (.int (zI ↑s))]) (st' := [.int (zI 2), .int (zI ↑s), .ref (Rm ad (po + 6) 3)]) rfl ?_
    refine v_iastore' rfl hw.2.2.2.2.2.2.1 (i := s) rfl (by omega) ?_
    rw [show (zI 2 : Int32) = zI ↑(2 : Nat) from rfl, ar_upd]
    rw [show (fun j => if j = s then 2 else (τ) 2 3 j) = (fun j => if j = s then (tK (eB E) (eN E) i - 19) else τ 2 3 j) from by rw [show tK (eB E) (eN E) i - 19 = 2 by omega]]
    have hw1 := hw.mr3 hA hp s (tK (eB E) (eN E) i - 19)
    generalize e1 : hset h (Rm ad (po + 6) 3) _ = h1 at hw1 ⊢
    have hf1 : frC ad po h h1 := e1 ▸ frC.set (by omega) _
    have ht1 : TOk (tU τ 2 3 s (tK (eB E) (eN E) i - 19)) := ht.up (by simp [bdT, hs] <;> omega)
    have hla : liv (eB E) (eN E) (i + 1) := liv_K hl (by omega)
    refine v_run 2 (pc' := 87) (ls' := [some (.ref (ad 1)), some (.int (zI ↑s))]) (st' := [.ref (ad 1)]) rfl ?_
    refine v_get rfl hw1.1 rfl ?_
    refine v_run 0 (pc' := 90) (ls' := [some (.ref (ad 1)), some (.int (zI ↑s))]) (st' := [.ref (ad 2)]) rfl ?_
    refine v_callV (My := mX5_advance) (As := []) (rest := []) (mc := 0) (ms := 0) rfl caX5_advance rfl rfl rfl hw1.2.1 rfl rfl (c_adv G _ hA hp hw1 hT hla) rfl rfl (Nat.le_of_ble_eq_true rfl) (by omega) ?_
    rintro _ h2 ⟨rfl, hw2, hf2⟩
    refine v_run 0 (pc' := 93) (ls' := [some (.ref (ad 1)), some (.int (zI ↑s))]) (st' := []) rfl ?_
    refine v_run 1 (pc' := 94) (ls' := [some (.ref (ad 1)), some (.int (zI ↑s))]) (st' := [.int (zI 1)]) rfl ?_
    exact v_iret rfl rfl rfl (by rw [show cKind E τ s i = .inr (i + 1, (tU τ 2 3 s (tK (eB E) (eN E) i - 19))) from by simp only [cKind, if_pos (show 19 ≤ tK (eB E) (eN E) i by omega), sb]]; exact ⟨rfl, hw2, (hf1.tr hf2), ht1, hla⟩)
  · refine v_tabOut (t := 80) rfl (Or.inl (by rw [zI_toInt (by omega) (by omega)]; omega)) rfl ?_
    refine v_run 2 (pc' := 82) (ls' := [some (.ref (ad 1)), some (.int (zI ↑s))]) (st' := [.int (zI 1), .ref (ad 1)]) rfl ?_
    refine v_callV (My := mX3_fail) (As := [.int (zI 1)]) (rest := []) (mc := 0) (ms := 0) rfl caX3_fail rfl rfl rfl hw.1 rfl rfl (c_fail G _ (f := 1) hA hp hw ht hT hl (by decide)) rfl rfl (Nat.le_of_ble_eq_true rfl) (by omega) ?_
    rintro _ h99 ⟨rfl, hb99⟩
    refine v_run 0 (pc' := 85) (ls' := [some (.ref (ad 1)), some (.int (zI ↑s))]) (st' := [.int (zI 0)]) rfl ?_
    exact v_iret rfl rfl rfl (by rw [show cKind E τ s i = .inl (1, tP (eB E) (eN E) i) from by simp only [cKind, if_neg (show ¬ 19 ≤ tK (eB E) (eN E) i by omega), sb]]; exact ⟨rfl, hb99⟩)

set_option maxRecDepth 100000 in
set_option maxHeartbeats 400000 in
theorem c_cFree (G : ssG) (h : ssH) {ad : Nat → Nat} {po : Nat} {E : pE} {τ : sT} {i : Nat} {s : Nat} (hA : ∀ k l, ad k = ad l → k = l) (hp : po = 11 ∨ po = 22) (hw : PW h ad po E τ i) (ht : TOk τ) (hT : TkE E) (hl : liv (eB E) (eN E) i) (hs : s < 6) : ssC G mX3_hearFreeHook 2 0 0 [.ref (ad 1), .int (zI ↑s)] h (QP ad po E h (cFree E τ s i)) := by
  refine c_of_v okX3_hearFreeHook (by decide +kernel) (ls := [some (.ref (ad 1)), some (.int (zI ↑s)), none]) rfl (Nat.le_of_ble_eq_true rfl) ?_
  obtain ⟨s1, s2, s3, s4⟩ := hT.1 i (by have := liv_le hl; have := hT.2; omega) hl
  have tk1 := kS_le (T := eB E) (n := eN E) (pos (eB E) (eN E) i)
  have tk2 := tK_le (T := eB E) (n := eN E) i
  have tk3 := tP_le (T := eB E) (n := eN E) i
  have tk4 := hT.2
  have tk5 := liv_le hl
  have q6 : τ 5 6 0 ≤ 63 := ht 5 6 0 (by omega)
  refine v_run 2 (pc' := 2) (ls' := [some (.ref (ad 1)), some (.int (zI ↑s)), none]) (st' := [.int (zI 2), .ref (ad 1)]) rfl ?_
  refine v_callV (My := mX3_toldNumber) (As := [.int (zI 2)]) (rest := []) (mc := 0) (ms := 0) rfl caX3_toldNumber rfl rfl rfl hw.1 rfl rfl (c_told G _ (sr := 2) hA hp hw ht hT hl (by decide)) rfl rfl (Nat.le_of_ble_eq_true rfl) (by omega) ?_
  intro an1 h1 hq1
  rcases hr1 : cTold E τ 2 i with e | k
  · rw [hr1] at hq1
    obtain ⟨rfl, hb1⟩ := hq1
    refine v_run 0 (pc' := 5) (ls' := [some (.ref (ad 1)), some (.int (zI ↑s)), none]) (st' := [.int (zI (-1))]) rfl ?_
    refine v_run 2 (pc' := 7) (ls' := [some (.ref (ad 1)), some (.int (zI ↑s)), some (.int (zI (-1)))]) (st' := [.int (zI (-1))]) rfl ?_
    refine v_if_ge rfl (fun c7 => ?_) (fun c7 => ?_)
    · exact absurd c7 (by decide)
    · refine v_run 1 (pc' := 11) (ls' := [some (.ref (ad 1)), some (.int (zI ↑s)), some (.int (zI (-1)))]) (st' := [.int (zI 0)]) rfl ?_
      exact v_iret rfl rfl rfl (by rw [show cFree E τ s i = .inl e from by simp only [cFree, hr1, sb]]; exact ⟨rfl, hb1⟩)
  · rw [hr1] at hq1
    obtain ⟨rfl, rfl⟩ := hq1
    obtain ⟨hl1, hk1, hd1⟩ := cTold_ok hr1 hl ht
    refine v_run 0 (pc' := 5) (ls' := [some (.ref (ad 1)), some (.int (zI ↑s)), none]) (st' := [.int (zI ↑k)]) rfl ?_
    refine v_run 2 (pc' := 7) (ls' := [some (.ref (ad 1)), some (.int (zI ↑s)), some (.int (zI ↑k))]) (st' := [.int (zI ↑k)]) rfl ?_
    refine v_if_ge rfl (fun c7 => ?_) (fun c7 => ?_)
    · simp (disch := omega) only [zI_lt, zI_le, zI_eq, zI_lt0, zI_le0, zI_0lt, zI_0le, zI_eq0] at c7
      refine v_run 1 (pc' := 13) (ls' := [some (.ref (ad 1)), some (.int (zI ↑s)), some (.int (zI ↑k))]) (st' := [.ref (ad 1)]) rfl ?_
      refine v_get rfl hw.1 rfl ?_
      refine v_run 5 (pc' := 21) (ls' := [some (.ref (ad 1)), some (.int (zI ↑s)), some (.int (zI ↑k))]) (st' := [.int (zI 1), .int (((zI ↑(τ 5 6 0)) >>> ((zI ↑k) &&& 31)) &&& (zI 1))]) rfl ?_
      refine v_icmp_ne rfl (fun c21 => ?_) (fun c21 => ?_)
      · rw [bN_zI (by omega) (by omega)] at c21
        refine v_run 2 (pc' := 33) (ls' := [some (.ref (ad 1)), some (.int (zI ↑s)), some (.int (zI ↑k))]) (st' := [.ref (ad 1), .ref (ad 1)]) rfl ?_
        refine v_get rfl hw.1 rfl ?_
        refine v_run 4 (pc' := 40) (ls' := [some (.ref (ad 1)), some (.int (zI ↑s)), some (.int (zI ↑k))]) (st' := [.int ((zI ↑(τ 5 6 0)) ||| ((zI 1) <<< ((zI ↑k) &&& 31))), .ref (ad 1)]) rfl ?_
        rw [show (((zI ↑(τ 5 6 0)) ||| ((zI 1) <<< ((zI ↑k) &&& 31))) : Int32) = zI ↑(τ 5 6 0 ||| 2 ^ k) from zI_or2 (by omega) (by omega)]
        refine v_put rfl hw.1 rfl rfl (Nat.le_of_ble_eq_true rfl) ?_
        have qo : τ 5 6 0 ||| 2 ^ k < 2 ^ 6 := or_lt (by omega) (by omega)
        have hw2 := hw.pI hA hp 6 (τ 5 6 0 ||| 2 ^ k) (by omega)
        generalize e2 : hset h (ad 1) _ = h2 at hw2 ⊢
        have hf2 : frC ad po h h2 := e2 ▸ frC.set (by omega) _
        have ht2 : TOk (tU τ 5 6 0 (τ 5 6 0 ||| 2 ^ k)) := ht.up (by simp [bdT] <;> omega)
        refine v_run 1 (pc' := 44) (ls' := [some (.ref (ad 1)), some (.int (zI ↑s)), some (.int (zI ↑k))]) (st' := [.ref (ad 1)]) rfl ?_
        refine v_get rfl hw2.1 rfl ?_
        refine v_run 0 (pc' := 47) (ls' := [some (.ref (ad 1)), some (.int (zI ↑s)), some (.int (zI ↑k))]) (st' := [.ref (ad po)]) rfl ?_
        refine v_get rfl hw2.2.2.2.2.1.1 rfl ?_
        refine v_run 0 (pc' := 50) (ls' := [some (.ref (ad 1)), some (.int (zI ↑s)), some (.int (zI ↑k))]) (st' := [.ref (ad (po + 6))]) rfl ?_
        refine v_get rfl hw2.2.2.2.2.2.1 rfl ?_
        refine v_run 2 (pc' := 55) (ls' := [some (.ref (ad 1)), some (.int (zI ↑s)), some (.int (zI ↑k))]) (st' := [.int (zI ↑k), .int (zI ↑s), .ref (Rm ad (po + 6) 4)]) rfl ?_
        refine v_iastore' rfl hw2.2.2.2.2.2.2.2.1 (i := s) rfl (by omega) ?_
        rw [ar_upd]
        have hw3 := hw2.mr4 hA hp s k
        generalize e3 : hset h2 (Rm ad (po + 6) 4) _ = h3 at hw3 ⊢
        have hf3 : frC ad po h2 h3 := e3 ▸ frC.set (by omega) _
        have ht3 : TOk (tU (tU τ 5 6 0 (τ 5 6 0 ||| 2 ^ k)) 2 4 s k) := ht2.up (by simp [bdT, hs] <;> omega)
        refine v_run 1 (pc' := 57) (ls' := [some (.ref (ad 1)), some (.int (zI ↑s)), some (.int (zI ↑k))]) (st' := [.ref (ad 1)]) rfl ?_
        refine v_get rfl hw3.1 rfl ?_
        refine v_run 0 (pc' := 60) (ls' := [some (.ref (ad 1)), some (.int (zI ↑s)), some (.int (zI ↑k))]) (st' := [.ref (ad 2)]) rfl ?_
        refine v_callV (My := mX5_advance) (As := []) (rest := []) (mc := 0) (ms := 0) rfl caX5_advance rfl rfl rfl hw3.2.1 rfl rfl (c_adv G _ hA hp hw3 hT hl1) rfl rfl (Nat.le_of_ble_eq_true rfl) (by omega) ?_
        rintro _ h4 ⟨rfl, hw4, hf4⟩
        refine v_run 0 (pc' := 63) (ls' := [some (.ref (ad 1)), some (.int (zI ↑s)), some (.int (zI ↑k))]) (st' := []) rfl ?_
        refine v_run 1 (pc' := 64) (ls' := [some (.ref (ad 1)), some (.int (zI ↑s)), some (.int (zI ↑k))]) (st' := [.int (zI 1)]) rfl ?_
        exact v_iret rfl rfl rfl (by rw [show cFree E τ s i = .inr (i + 1, (tU (tU τ 5 6 0 (τ 5 6 0 ||| 2 ^ k)) 2 4 s k)) from by simp only [cFree, hr1, if_neg c21, sb]]; exact ⟨rfl, hw4, ((hf2.tr hf3).tr hf4), ht3, hl1⟩)
      · rw [bN_zI (by omega) (by omega)] at c21
        refine v_run 2 (pc' := 27) (ls' := [some (.ref (ad 1)), some (.int (zI ↑s)), some (.int (zI ↑k))]) (st' := [.int (zI 7), .ref (ad 1)]) rfl ?_
        refine v_callV (My := mX3_fail) (As := [.int (zI 7)]) (rest := []) (mc := 0) (ms := 0) rfl caX3_fail rfl rfl rfl hw.1 rfl rfl (c_fail G _ (f := 7) hA hp hw ht hT hl (by decide)) rfl rfl (Nat.le_of_ble_eq_true rfl) (by omega) ?_
        rintro _ h99 ⟨rfl, hb99⟩
        refine v_run 0 (pc' := 30) (ls' := [some (.ref (ad 1)), some (.int (zI ↑s)), some (.int (zI ↑k))]) (st' := [.int (zI 0)]) rfl ?_
        exact v_iret rfl rfl rfl (by rw [show cFree E τ s i = .inl (7, tP (eB E) (eN E) i) from by simp only [cFree, hr1, if_pos c21, sb]]; exact ⟨rfl, hb99⟩)
    · exfalso; revert c7; simp (disch := omega) only [zI_lt, zI_le, zI_eq, zI_lt0, zI_le0, zI_0lt, zI_0le, zI_eq0] <;> omega

