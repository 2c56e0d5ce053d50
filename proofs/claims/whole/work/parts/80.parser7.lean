theorem cKind_ok {E : pE} {τ : sT} {s i : Nat} {q : Nat × sT} (h : cKind E τ s i = .inr q) (hl : liv (eB E) (eN E) i) : q = (i + 1, tU τ 2 3 s (tK (eB E) (eN E) i - 19)) ∧ liv (eB E) (eN E) (i + 1) ∧ 19 ≤ tK (eB E) (eN E) i := by
  unfold cKind at h
  by_cases c : 19 ≤ tK (eB E) (eN E) i
  · rw [if_pos c] at h
    exact ⟨(Sum.inr.inj h).symm, liv_K hl (by omega), c⟩
  · rw [if_neg c] at h; cases h
theorem cFree_ok {E : pE} {τ : sT} {s i : Nat} {q : Nat × sT} (h : cFree E τ s i = .inr q) (hl : liv (eB E) (eN E) i) (ht : TOk τ) : ∃ k, cTold E τ 2 i = .inr k ∧ k ≤ 5 ∧ bitN (τ 5 6 0) k = false ∧ q = (i + 1, tU (tU τ 5 6 0 (τ 5 6 0 ||| 2 ^ k)) 2 4 s k) ∧ liv (eB E) (eN E) (i + 1) := by
  unfold cFree at h
  rcases hr : cTold E τ 2 i with e | k
  · rw [hr] at h; cases h
  · rw [hr] at h
    simp only [sb] at h
    obtain ⟨h1, h2, -⟩ := cTold_ok hr hl ht
    by_cases c : bitN (τ 5 6 0) k = true
    · rw [if_pos c] at h; cases h
    · rw [if_neg c] at h
      exact ⟨k, rfl, h2, by simpa using c, (Sum.inr.inj h).symm, h1⟩
def cSen (E : pE) (τ : sT) (i : Nat) : pR (Nat × sT) := if τ 1 5 0 = 6 then .inl (5, tP (eB E) (eN E) i) else sb (cNew E τ 3 (τ 1 5 0) (i + 1)) (fun q => sb (cKind E q.2 (τ 1 5 0) q.1) (fun r => sb (pWd (eB E) (eN E) 15 r.1) (fun j => sb (cFree E r.2 (τ 1 5 0) j) (fun t => sb (pNum (eB E) (eN E) 16 1 99 t.1) (fun a => sb (pNum (eB E) (eN E) 17 0 9 a.1) (fun b => .inr (b.1, tU (tU (tU (tU (tU t.2 5 5 0 a.2) 2 5 (τ 1 5 0) a.2) 5 5 0 b.2) 1 6 (τ 1 5 0) b.2) 1 5 0 (τ 1 5 0 + 1))))))))
def cFor (E : pE) (τ : sT) (i : Nat) : pR (Nat × sT) := if τ 1 11 0 = 15 then .inl (5, tP (eB E) (eN E) i) else sb (cTold E τ 3 (i + 1)) (fun x => sb (cTold E τ 4 (i + 1 + 1)) (fun y => if bitN (τ 1 9 y) x = true then .inl (3, tP (eB E) (eN E) (i + 1 + 1)) else .inr (i + 1 + 1 + 1, tU (tU τ 1 9 y (τ 1 9 y ||| 2 ^ x)) 1 11 0 (τ 1 11 0 + 1))))
def cRests (E : pE) (τ : sT) (i : Nat) : pR (Nat × sT) := if τ 1 12 0 = 6 then .inl (5, tP (eB E) (eN E) i) else sb (cTold E τ 4 (i + 1)) (fun x => sb (cTold E τ 4 (i + 1 + 1)) (fun y => if x = y ∨ bitN (τ 1 10 x) y = true then .inl (3, tP (eB E) (eN E) (i + 1 + 1)) else .inr (i + 1 + 1 + 1, tU (tU τ 1 10 x (τ 1 10 x ||| 2 ^ y)) 1 12 0 (τ 1 12 0 + 1))))
def cDoubt (E : pE) (τ : sT) (i : Nat) : pR (Nat × sT) := if 0 < τ 1 13 0 then .inl (3, tP (eB E) (eN E) i) else sb (cTold E τ 3 (i + 1)) (fun x => .inr (i + 1 + 1, tU τ 1 13 0 (x + 1)))
def cEnd1 (E : pE) (τ : sT) (i : Nat) : pR (Nat × sT) := sb (cTold E τ 4 (i + 1)) (fun x => if bitN (τ 1 14 0 ||| τ 1 15 0) x = true then .inl (3, tP (eB E) (eN E) (i + 1)) else .inr (i + 1 + 1, tU τ 1 14 0 (τ 1 14 0 ||| 2 ^ x)))
def cEnd2 (E : pE) (τ : sT) (i : Nat) : pR (Nat × sT) := sb (cTold E τ 4 (i + 1)) (fun x => if bitN (τ 1 14 0 ||| τ 1 15 0) x = true then .inl (3, tP (eB E) (eN E) (i + 1)) else .inr (i + 1 + 1, tU τ 1 15 0 (τ 1 15 0 ||| 2 ^ x)))
set_option maxRecDepth 100000 in
set_option maxHeartbeats 400000 in
theorem c_cSen (G : ssG) (h : ssH) {ad : Nat → Nat} {po : Nat} {E : pE} {τ : sT} {i : Nat}  (hA : ∀ k l, ad k = ad l → k = l) (hp : po = 11 ∨ po = 22) (hw : PW h ad po E τ i) (ht : TOk τ) (hT : TkE E) (hl : liv (eB E) (eN E) i) (hk : 1 ≤ tK (eB E) (eN E) i) (h17 : τ 1 5 0 < 6 → τ 5 7 0 < 17) : ssC G mX3_hearSenator 3 0 0 [.ref (ad 1)] h (QP ad po E h (cSen E τ i)) := by
  refine c_of_v okX3_hearSenator (by decide +kernel) (ls := [some (.ref (ad 1)), none]) rfl (Nat.le_of_ble_eq_true rfl) ?_
  obtain ⟨s1, s2, s3, s4⟩ := hT.1 i (by have := liv_le hl; have := hT.2; omega) hl
  have tk1 := kS_le (T := eB E) (n := eN E) (pos (eB E) (eN E) i)
  have tk2 := tK_le (T := eB E) (n := eN E) i
  have tk3 := tP_le (T := eB E) (n := eN E) i
  have tk4 := hT.2
  have tk5 := liv_le hl
  have q6 : τ 5 6 0 ≤ 63 := ht 5 6 0 (by omega)
  have q7 : τ 5 7 0 ≤ 17 := ht 5 7 0 (by omega)
  have q3 : τ 1 5 0 ≤ 6 := ht 1 5 0 (by omega)
  refine v_run 1 (pc' := 1) (ls' := [some (.ref (ad 1)), none]) (st' := [.ref (ad 1)]) rfl ?_
  refine v_get rfl hw.1 rfl ?_
  refine v_run 0 (pc' := 4) (ls' := [some (.ref (ad 1)), none]) (st' := [.ref (ad po)]) rfl ?_
  refine v_get rfl hw.2.2.2.2.1.1 rfl ?_
  refine v_run 3 (pc' := 11) (ls' := [some (.ref (ad 1)), some (.int (zI ↑(τ 1 5 0)))]) (st' := [.int (zI 6), .int (zI ↑(τ 1 5 0))]) rfl ?_
  refine v_icmp_lt rfl (fun c11 => ?_) (fun c11 => ?_)
  · simp (disch := omega) only [zI_lt, zI_le, zI_eq, zI_lt0, zI_le0, zI_0lt, zI_0le, zI_eq0] at c11
    have h17 := h17 (by omega)
    have hs6 : τ 1 5 0 < 6 := by omega
    have hla : liv (eB E) (eN E) (i + 1) := liv_K hl hk
    refine v_run 1 (pc' := 21) (ls' := [some (.ref (ad 1)), some (.int (zI ↑(τ 1 5 0)))]) (st' := [.ref (ad 1)]) rfl ?_
    refine v_get rfl hw.1 rfl ?_
    refine v_run 0 (pc' := 24) (ls' := [some (.ref (ad 1)), some (.int (zI ↑(τ 1 5 0)))]) (st' := [.ref (ad 2)]) rfl ?_
    refine v_callV (My := mX5_advance) (As := []) (rest := []) (mc := 0) (ms := 0) rfl caX5_advance rfl rfl rfl hw.2.1 rfl rfl (c_adv G _ hA hp hw hT hla) rfl rfl (Nat.le_of_ble_eq_true rfl) (by omega) ?_
    rintro _ h1 ⟨rfl, hw1, hf1⟩
    refine v_run 0 (pc' := 27) (ls' := [some (.ref (ad 1)), some (.int (zI ↑(τ 1 5 0)))]) (st' := []) rfl ?_
    refine v_run 3 (pc' := 30) (ls' := [some (.ref (ad 1)), some (.int (zI ↑(τ 1 5 0)))]) (st' := [.int (zI ↑(τ 1 5 0)), .int (zI 3), .ref (ad 1)]) rfl ?_
    refine v_callV (My := mX3_hearNewName) (As := [.int (zI 3), .int (zI ↑(τ 1 5 0))]) (rest := []) (mc := 0) (ms := 0) rfl caX3_hearNewName rfl rfl rfl hw1.1 rfl rfl (c_new G _ (sr := 3) (nu := τ 1 5 0) hA hp hw1 ht hT hla h17 (by decide) (by omega)) rfl rfl (Nat.le_of_ble_eq_true rfl) (by omega) ?_
    intro an2 h2 hq2
    rcases hr2 : cNew E τ 3 (τ 1 5 0) (i + 1) with e | q
    · rw [hr2] at hq2
      obtain ⟨rfl, hb2⟩ := hq2
      refine v_run 0 (pc' := 33) (ls' := [some (.ref (ad 1)), some (.int (zI ↑(τ 1 5 0)))]) (st' := [.int (zI 0)]) rfl ?_
      refine v_if_eq rfl (fun c33 => ?_) (fun c33 => ?_)
      · refine v_run 1 (pc' := 62) (ls' := [some (.ref (ad 1)), some (.int (zI ↑(τ 1 5 0)))]) (st' := [.int (zI 0)]) rfl ?_
        exact v_iret rfl rfl rfl (by rw [show cSen E τ i = .inl e from by simp only [cSen, if_neg (show ¬ τ 1 5 0 = 6 by omega), hr2, sb]]; exact ⟨rfl, hb2.tr hf1⟩)
      · exact absurd rfl c33
    · rw [hr2] at hq2
      obtain ⟨rfl, hw2, hf2, -, -⟩ := hq2
      obtain ⟨rfl, hl2, hs2⟩ := cNew_ok hr2 hla
      simp only at hw2
      have hv2 : tV (eB E) (eN E) (i + 1) < 1099511627776 := kV_lt2 hs2
      have ht2 : TOk (tU (tU (tU (tU τ 5 8 (τ 5 7 0) (tV (eB E) (eN E) (i + 1))) 5 9 (τ 5 7 0) 3) 5 10 (τ 5 7 0) (τ 1 5 0)) 5 7 0 (τ 5 7 0 + 1)) := (((ht.up (by simp [bdT] <;> omega)).up (by simp [bdT] <;> omega)).up (by simp [bdT] <;> omega)).up (by simp [bdT] <;> omega)
      refine v_run 0 (pc' := 33) (ls' := [some (.ref (ad 1)), some (.int (zI ↑(τ 1 5 0)))]) (st' := [.int (zI 1)]) rfl ?_
      refine v_if_eq rfl (fun c33 => ?_) (fun c33 => ?_)
      · exact absurd c33 (by decide)
      · refine v_run 2 (pc' := 38) (ls' := [some (.ref (ad 1)), some (.int (zI ↑(τ 1 5 0)))]) (st' := [.int (zI ↑(τ 1 5 0)), .ref (ad 1)]) rfl ?_
        refine v_callV (My := mX3_hearKind) (As := [.int (zI ↑(τ 1 5 0))]) (rest := []) (mc := 0) (ms := 0) rfl caX3_hearKind rfl rfl rfl hw2.1 rfl rfl (c_cKind G _ (s := τ 1 5 0) hA hp hw2 ht2 hT hl2 hs6) rfl rfl (Nat.le_of_ble_eq_true rfl) (by omega) ?_
        intro an3 h3 hq3
        rcases hr3 : cKind E (tU (tU (tU (tU τ 5 8 (τ 5 7 0) (tV (eB E) (eN E) (i + 1))) 5 9 (τ 5 7 0) 3) 5 10 (τ 5 7 0) (τ 1 5 0)) 5 7 0 (τ 5 7 0 + 1)) (τ 1 5 0) (i + 1 + 1) with e | r
        · rw [hr3] at hq3
          obtain ⟨rfl, hb3⟩ := hq3
          refine v_run 0 (pc' := 41) (ls' := [some (.ref (ad 1)), some (.int (zI ↑(τ 1 5 0)))]) (st' := [.int (zI 0)]) rfl ?_
          refine v_if_eq rfl (fun c41 => ?_) (fun c41 => ?_)
          · refine v_run 1 (pc' := 62) (ls' := [some (.ref (ad 1)), some (.int (zI ↑(τ 1 5 0)))]) (st' := [.int (zI 0)]) rfl ?_
            exact v_iret rfl rfl rfl (by rw [show cSen E τ i = .inl e from by simp only [cSen, if_neg (show ¬ τ 1 5 0 = 6 by omega), hr2, hr3, sb]]; exact ⟨rfl, hb3.tr (hf1.tr hf2)⟩)
          · exact absurd rfl c41
        · rw [hr3] at hq3
          obtain ⟨rfl, hw3, hf3, -, -⟩ := hq3
          obtain ⟨rfl, hl3, hg3⟩ := cKind_ok hr3 hl2
          simp only at hw3
          have hz3 := tK_le (T := eB E) (n := eN E) (i + 1 + 1)
          have ht3 : TOk (tU (tU (tU (tU (tU τ 5 8 (τ 5 7 0) (tV (eB E) (eN E) (i + 1))) 5 9 (τ 5 7 0) 3) 5 10 (τ 5 7 0) (τ 1 5 0)) 5 7 0 (τ 5 7 0 + 1)) 2 3 (τ 1 5 0) (tK (eB E) (eN E) (i + 1 + 1) - 19)) := ht2.up (by simp [bdT, hs6] <;> omega)
          refine v_run 0 (pc' := 41) (ls' := [some (.ref (ad 1)), some (.int (zI ↑(τ 1 5 0)))]) (st' := [.int (zI 1)]) rfl ?_
          refine v_if_eq rfl (fun c41 => ?_) (fun c41 => ?_)
          · exact absurd c41 (by decide)
          · refine v_run 2 (pc' := 47) (ls' := [some (.ref (ad 1)), some (.int (zI ↑(τ 1 5 0)))]) (st' := [.int (zI 15), .ref (ad 1)]) rfl ?_
            refine v_callV (My := mX3_hearWord) (As := [.int (zI 15)]) (rest := []) (mc := 0) (ms := 0) rfl caX3_hearWord rfl rfl rfl hw3.1 rfl rfl (c_word G _ (k := 15) hA hp hw3 ht3 hT hl3 (by decide)) rfl rfl (Nat.le_of_ble_eq_true rfl) (by omega) ?_
            intro an4 h4 hq4
            rcases hr4 : pWd (eB E) (eN E) 15 (i + 1 + 1 + 1) with e | j
            · rw [hr4] at hq4
              obtain ⟨rfl, hb4⟩ := hq4
              refine v_run 0 (pc' := 50) (ls' := [some (.ref (ad 1)), some (.int (zI ↑(τ 1 5 0)))]) (st' := [.int (zI 0)]) rfl ?_
              refine v_if_eq rfl (fun c50 => ?_) (fun c50 => ?_)
              · refine v_run 1 (pc' := 62) (ls' := [some (.ref (ad 1)), some (.int (zI ↑(τ 1 5 0)))]) (st' := [.int (zI 0)]) rfl ?_
                exact v_iret rfl rfl rfl (by rw [show cSen E τ i = .inl e from by simp only [cSen, if_neg (show ¬ τ 1 5 0 = 6 by omega), hr2, hr3, hr4, sb]]; exact ⟨rfl, hb4.tr ((hf1.tr hf2).tr hf3)⟩)
              · exact absurd rfl c50
            · rw [hr4] at hq4
              obtain ⟨rfl, hw4, hf4, -, -⟩ := hq4
              obtain ⟨rfl, hl4, -⟩ := pWd_ok hr4 hl3 (by decide)
              simp only at hw4
              refine v_run 0 (pc' := 50) (ls' := [some (.ref (ad 1)), some (.int (zI ↑(τ 1 5 0)))]) (st' := [.int (zI 1)]) rfl ?_
              refine v_if_eq rfl (fun c50 => ?_) (fun c50 => ?_)
              · exact absurd c50 (by decide)
              · refine v_run 2 (pc' := 55) (ls' := [some (.ref (ad 1)), some (.int (zI ↑(τ 1 5 0)))]) (st' := [.int (zI ↑(τ 1 5 0)), .ref (ad 1)]) rfl ?_
                refine v_callV (My := mX3_hearFreeHook) (As := [.int (zI ↑(τ 1 5 0))]) (rest := []) (mc := 0) (ms := 0) rfl caX3_hearFreeHook rfl rfl rfl hw4.1 rfl rfl (c_cFree G _ (s := τ 1 5 0) hA hp hw4 ht3 hT hl4 hs6) rfl rfl (Nat.le_of_ble_eq_true rfl) (by omega) ?_
                intro an5 h5 hq5
                rcases hr5 : cFree E (tU (tU (tU (tU (tU τ 5 8 (τ 5 7 0) (tV (eB E) (eN E) (i + 1))) 5 9 (τ 5 7 0) 3) 5 10 (τ 5 7 0) (τ 1 5 0)) 5 7 0 (τ 5 7 0 + 1)) 2 3 (τ 1 5 0) (tK (eB E) (eN E) (i + 1 + 1) - 19)) (τ 1 5 0) (i + 1 + 1 + 1 + 1) with e | t
                · rw [hr5] at hq5
                  obtain ⟨rfl, hb5⟩ := hq5
                  refine v_run 0 (pc' := 58) (ls' := [some (.ref (ad 1)), some (.int (zI ↑(τ 1 5 0)))]) (st' := [.int (zI 0)]) rfl ?_
                  refine v_if_ne rfl (fun c58 => ?_) (fun c58 => ?_)
                  · exact absurd rfl c58
                  · refine v_run 1 (pc' := 62) (ls' := [some (.ref (ad 1)), some (.int (zI ↑(τ 1 5 0)))]) (st' := [.int (zI 0)]) rfl ?_
                    exact v_iret rfl rfl rfl (by rw [show cSen E τ i = .inl e from by simp only [cSen, if_neg (show ¬ τ 1 5 0 = 6 by omega), hr2, hr3, hr4, hr5, sb]]; exact ⟨rfl, hb5.tr (((hf1.tr hf2).tr hf3).tr hf4)⟩)
                · rw [hr5] at hq5
                  obtain ⟨rfl, hw5, hf5, -, -⟩ := hq5
                  obtain ⟨k, hc5, hk5, -, rfl, hl5⟩ := cFree_ok hr5 hl4 ht3
                  simp only at hw5
                  have e6 : (tU (tU (tU (tU (tU τ 5 8 (τ 5 7 0) (tV (eB E) (eN E) (i + 1))) 5 9 (τ 5 7 0) 3) 5 10 (τ 5 7 0) (τ 1 5 0)) 5 7 0 (τ 5 7 0 + 1)) 2 3 (τ 1 5 0) (tK (eB E) (eN E) (i + 1 + 1) - 19)) 5 6 0 = τ 5 6 0 := by simp [tU]
                  rw [e6] at hw5 hr5
                  have qo : τ 5 6 0 ||| 2 ^ k < 2 ^ 6 := or_lt (by omega) (by omega)
                  have ht5 : TOk (tU (tU (tU (tU (tU (tU (tU τ 5 8 (τ 5 7 0) (tV (eB E) (eN E) (i + 1))) 5 9 (τ 5 7 0) 3) 5 10 (τ 5 7 0) (τ 1 5 0)) 5 7 0 (τ 5 7 0 + 1)) 2 3 (τ 1 5 0) (tK (eB E) (eN E) (i + 1 + 1) - 19)) 5 6 0 (τ 5 6 0 ||| 2 ^ k)) 2 4 (τ 1 5 0) k) := (ht3.up (by simp [bdT] <;> omega)).up (by simp [bdT, hs6] <;> omega)
                  refine v_run 0 (pc' := 58) (ls' := [some (.ref (ad 1)), some (.int (zI ↑(τ 1 5 0)))]) (st' := [.int (zI 1)]) rfl ?_
                  refine v_if_ne rfl (fun c58 => ?_) (fun c58 => ?_)
                  · refine v_run 4 (pc' := 69) (ls' := [some (.ref (ad 1)), some (.int (zI ↑(τ 1 5 0)))]) (st' := [.int (zI 99), .int (zI 1), .int (zI 16), .ref (ad 1)]) rfl ?_
                    refine v_callV (My := mX3_hearNumber) (As := [.int (zI 16), .int (zI 1), .int (zI 99)]) (rest := []) (mc := 0) (ms := 0) rfl caX3_hearNumber rfl rfl rfl hw5.1 rfl rfl (c_num G _ (k := 16) (lo := 1) (hi := 99) hA hp hw5 ht5 hT hl5 (by decide) (by decide) (by decide)) rfl rfl (Nat.le_of_ble_eq_true rfl) (by omega) ?_
                    intro an6 h6 hq6
                    rcases hr6 : pNum (eB E) (eN E) 16 1 99 (i + 1 + 1 + 1 + 1 + 1) with e | a
                    · rw [hr6] at hq6
                      obtain ⟨rfl, hb6⟩ := hq6
                      refine v_run 0 (pc' := 72) (ls' := [some (.ref (ad 1)), some (.int (zI ↑(τ 1 5 0)))]) (st' := [.int (zI 0)]) rfl ?_
                      refine v_if_ne rfl (fun c72 => ?_) (fun c72 => ?_)
                      · exact absurd rfl c72
                      · refine v_run 1 (pc' := 76) (ls' := [some (.ref (ad 1)), some (.int (zI ↑(τ 1 5 0)))]) (st' := [.int (zI 0)]) rfl ?_
                        exact v_iret rfl rfl rfl (by rw [show cSen E τ i = .inl e from by simp only [cSen, if_neg (show ¬ τ 1 5 0 = 6 by omega), hr2, hr3, hr4, hr5, hr6, sb]]; exact ⟨rfl, hb6.tr ((((hf1.tr hf2).tr hf3).tr hf4).tr hf5)⟩)
                    · rw [hr6] at hq6
                      obtain ⟨rfl, hw6, hf6, -, -⟩ := hq6
                      obtain ⟨hx6, hl6, ho6, hi6⟩ := pNum_ok hr6 hl5 (by decide)
                      simp only at hw6
                      have ht6 : TOk (tU (tU (tU (tU (tU (tU (tU (tU τ 5 8 (τ 5 7 0) (tV (eB E) (eN E) (i + 1))) 5 9 (τ 5 7 0) 3) 5 10 (τ 5 7 0) (τ 1 5 0)) 5 7 0 (τ 5 7 0 + 1)) 2 3 (τ 1 5 0) (tK (eB E) (eN E) (i + 1 + 1) - 19)) 5 6 0 (τ 5 6 0 ||| 2 ^ k)) 2 4 (τ 1 5 0) k) 5 5 0 a.2) := ht5.up (by simp [bdT] <;> omega)
                      refine v_run 0 (pc' := 72) (ls' := [some (.ref (ad 1)), some (.int (zI ↑(τ 1 5 0)))]) (st' := [.int (zI 1)]) rfl ?_
                      refine v_if_ne rfl (fun c72 => ?_) (fun c72 => ?_)
                      · refine v_run 1 (pc' := 78) (ls' := [some (.ref (ad 1)), some (.int (zI ↑(τ 1 5 0)))]) (st' := [.ref (ad 1)]) rfl ?_
                        refine v_get rfl hw6.1 rfl ?_
                        refine v_run 0 (pc' := 81) (ls' := [some (.ref (ad 1)), some (.int (zI ↑(τ 1 5 0)))]) (st' := [.ref (ad po)]) rfl ?_
                        refine v_get rfl hw6.2.2.2.2.1.1 rfl ?_
                        refine v_run 0 (pc' := 84) (ls' := [some (.ref (ad 1)), some (.int (zI ↑(τ 1 5 0)))]) (st' := [.ref (ad (po + 6))]) rfl ?_
                        refine v_get rfl hw6.2.2.2.2.2.1 rfl ?_
                        refine v_run 2 (pc' := 89) (ls' := [some (.ref (ad 1)), some (.int (zI ↑(τ 1 5 0)))]) (st' := [.ref (ad 1), .int (zI ↑(τ 1 5 0)), .ref (Rm ad (po + 6) 5)]) rfl ?_
                        refine v_get rfl hw6.1 rfl ?_
                        refine v_run 0 (pc' := 92) (ls' := [some (.ref (ad 1)), some (.int (zI ↑(τ 1 5 0)))]) (st' := [.int (zI ↑a.2), .int (zI ↑(τ 1 5 0)), .ref (Rm ad (po + 6) 5)]) rfl ?_
                        refine v_iastore' rfl hw6.2.2.2.2.2.2.2.2.1 (i := τ 1 5 0) rfl (by omega) ?_
                        rw [ar_upd]
                        have hw7 := hw6.mr5 hA hp (τ 1 5 0) a.2
                        generalize e7 : hset h6 (Rm ad (po + 6) 5) _ = h7 at hw7 ⊢
                        have hf7 : frC ad po h6 h7 := e7 ▸ frC.set (by omega) _
                        have ht7 : TOk (tU (tU (tU (tU (tU (tU (tU (tU (tU τ 5 8 (τ 5 7 0) (tV (eB E) (eN E) (i + 1))) 5 9 (τ 5 7 0) 3) 5 10 (τ 5 7 0) (τ 1 5 0)) 5 7 0 (τ 5 7 0 + 1)) 2 3 (τ 1 5 0) (tK (eB E) (eN E) (i + 1 + 1) - 19)) 5 6 0 (τ 5 6 0 ||| 2 ^ k)) 2 4 (τ 1 5 0) k) 5 5 0 a.2) 2 5 (τ 1 5 0) a.2) := ht6.up (by simp [bdT, hs6] <;> omega)
                        refine v_run 4 (pc' := 99) (ls' := [some (.ref (ad 1)), some (.int (zI ↑(τ 1 5 0)))]) (st' := [.int (zI 9), .int (zI 0), .int (zI 17), .ref (ad 1)]) rfl ?_
                        refine v_callV (My := mX3_hearNumber) (As := [.int (zI 17), .int (zI 0), .int (zI 9)]) (rest := []) (mc := 0) (ms := 0) rfl caX3_hearNumber rfl rfl rfl hw7.1 rfl rfl (c_num G _ (k := 17) (lo := 0) (hi := 9) hA hp hw7 ht7 hT (hx6 ▸ hl6) (by decide) (by decide) (by decide)) rfl rfl (Nat.le_of_ble_eq_true rfl) (by omega) ?_
                        intro an8 h8 hq8
                        rcases hr8 : pNum (eB E) (eN E) 17 0 9 a.1 with e | b
                        · rw [hr8] at hq8
                          obtain ⟨rfl, hb8⟩ := hq8
                          refine v_run 0 (pc' := 102) (ls' := [some (.ref (ad 1)), some (.int (zI ↑(τ 1 5 0)))]) (st' := [.int (zI 0)]) rfl ?_
                          refine v_if_ne rfl (fun c102 => ?_) (fun c102 => ?_)
                          · exact absurd rfl c102
                          · refine v_run 1 (pc' := 106) (ls' := [some (.ref (ad 1)), some (.int (zI ↑(τ 1 5 0)))]) (st' := [.int (zI 0)]) rfl ?_
                            exact v_iret rfl rfl rfl (by rw [show cSen E τ i = .inl e from by simp only [cSen, if_neg (show ¬ τ 1 5 0 = 6 by omega), hr2, hr3, hr4, hr5, hr6, hr8, sb]]; exact ⟨rfl, hb8.tr ((((((hf1.tr hf2).tr hf3).tr hf4).tr hf5).tr hf6).tr hf7)⟩)
                        · rw [hr8] at hq8
                          obtain ⟨rfl, hw8, hf8, -, -⟩ := hq8
                          obtain ⟨hx8, hl8, ho8, hi8⟩ := pNum_ok hr8 (hx6 ▸ hl6) (by decide)
                          simp only at hw8
                          have ht8 : TOk (tU (tU (tU (tU (tU (tU (tU (tU (tU (tU τ 5 8 (τ 5 7 0) (tV (eB E) (eN E) (i + 1))) 5 9 (τ 5 7 0) 3) 5 10 (τ 5 7 0) (τ 1 5 0)) 5 7 0 (τ 5 7 0 + 1)) 2 3 (τ 1 5 0) (tK (eB E) (eN E) (i + 1 + 1) - 19)) 5 6 0 (τ 5 6 0 ||| 2 ^ k)) 2 4 (τ 1 5 0) k) 5 5 0 a.2) 2 5 (τ 1 5 0) a.2) 5 5 0 b.2) := ht7.up (by simp [bdT] <;> omega)
                          refine v_run 0 (pc' := 102) (ls' := [some (.ref (ad 1)), some (.int (zI ↑(τ 1 5 0)))]) (st' := [.int (zI 1)]) rfl ?_
                          refine v_if_ne rfl (fun c102 => ?_) (fun c102 => ?_)
                          · refine v_run 1 (pc' := 108) (ls' := [some (.ref (ad 1)), some (.int (zI ↑(τ 1 5 0)))]) (st' := [.ref (ad 1)]) rfl ?_
                            refine v_get rfl hw8.1 rfl ?_
                            refine v_run 0 (pc' := 111) (ls' := [some (.ref (ad 1)), some (.int (zI ↑(τ 1 5 0)))]) (st' := [.ref (ad po)]) rfl ?_
                            refine v_get rfl hw8.2.2.2.2.1.1 rfl ?_
                            refine v_run 2 (pc' := 116) (ls' := [some (.ref (ad 1)), some (.int (zI ↑(τ 1 5 0)))]) (st' := [.ref (ad 1), .int (zI ↑(τ 1 5 0)), .ref (Rp ad po 6)]) rfl ?_
                            refine v_get rfl hw8.1 rfl ?_
                            refine v_run 0 (pc' := 119) (ls' := [some (.ref (ad 1)), some (.int (zI ↑(τ 1 5 0)))]) (st' := [.int (zI ↑b.2), .int (zI ↑(τ 1 5 0)), .ref (Rp ad po 6)]) rfl ?_
                            refine v_iastore' rfl hw8.2.2.2.2.1.2.2.1 (i := τ 1 5 0) rfl (by omega) ?_
                            rw [ar_upd]
                            have hw9 := hw8.pr6 hA hp (τ 1 5 0) b.2
                            generalize e9 : hset h8 (Rp ad po 6) _ = h9 at hw9 ⊢
                            have hf9 : frC ad po h8 h9 := e9 ▸ frC.set (by simp <;> omega) _
                            have ht9 : TOk (tU (tU (tU (tU (tU (tU (tU (tU (tU (tU (tU τ 5 8 (τ 5 7 0) (tV (eB E) (eN E) (i + 1))) 5 9 (τ 5 7 0) 3) 5 10 (τ 5 7 0) (τ 1 5 0)) 5 7 0 (τ 5 7 0 + 1)) 2 3 (τ 1 5 0) (tK (eB E) (eN E) (i + 1 + 1) - 19)) 5 6 0 (τ 5 6 0 ||| 2 ^ k)) 2 4 (τ 1 5 0) k) 5 5 0 a.2) 2 5 (τ 1 5 0) a.2) 5 5 0 b.2) 1 6 (τ 1 5 0) b.2) := ht8.up (by simp [bdT] <;> omega)
                            refine v_run 1 (pc' := 121) (ls' := [some (.ref (ad 1)), some (.int (zI ↑(τ 1 5 0)))]) (st' := [.ref (ad 1)]) rfl ?_
                            refine v_get rfl hw9.1 rfl ?_
                            refine v_run 1 (pc' := 125) (ls' := [some (.ref (ad 1)), some (.int (zI ↑(τ 1 5 0)))]) (st' := [.ref (ad po), .ref (ad po)]) rfl ?_
                            refine v_get rfl hw9.2.2.2.2.1.1 rfl ?_
                            refine v_run 2 (pc' := 130) (ls' := [some (.ref (ad 1)), some (.int (zI ↑(τ 1 5 0)))]) (st' := [.int ((zI ↑(τ 1 5 0)) + (zI 1)), .ref (ad po)]) rfl ?_
                            rw [show (((zI ↑(τ 1 5 0)) + (zI 1)) : Int32) = zI ↑(τ 1 5 0 + 1) from zI_s1 _]
                            refine v_put rfl hw9.2.2.2.2.1.1 rfl rfl (Nat.le_of_ble_eq_true rfl) ?_
                            have hw10 := hw9.plI hA hp 5 (τ 1 5 0 + 1) (by omega)
                            generalize e10 : hset h9 (ad po) _ = h10 at hw10 ⊢
                            have hf10 : frC ad po h9 h10 := e10 ▸ frC.set (by omega) _
                            have ht10 : TOk (tU (tU (tU (tU (tU (tU (tU (tU (tU (tU (tU (tU τ 5 8 (τ 5 7 0) (tV (eB E) (eN E) (i + 1))) 5 9 (τ 5 7 0) 3) 5 10 (τ 5 7 0) (τ 1 5 0)) 5 7 0 (τ 5 7 0 + 1)) 2 3 (τ 1 5 0) (tK (eB E) (eN E) (i + 1 + 1) - 19)) 5 6 0 (τ 5 6 0 ||| 2 ^ k)) 2 4 (τ 1 5 0) k) 5 5 0 a.2) 2 5 (τ 1 5 0) a.2) 5 5 0 b.2) 1 6 (τ 1 5 0) b.2) 1 5 0 (τ 1 5 0 + 1)) := ht9.up (by simp [bdT] <;> omega)
                            refine v_run 1 (pc' := 134) (ls' := [some (.ref (ad 1)), some (.int (zI ↑(τ 1 5 0)))]) (st' := [.int (zI 1)]) rfl ?_
                            exact v_iret rfl rfl rfl (by rw [show cSen E τ i = .inr (b.1, (tU (tU (tU (tU (tU (tU (tU (tU (tU (tU (tU (tU τ 5 8 (τ 5 7 0) (tV (eB E) (eN E) (i + 1))) 5 9 (τ 5 7 0) 3) 5 10 (τ 5 7 0) (τ 1 5 0)) 5 7 0 (τ 5 7 0 + 1)) 2 3 (τ 1 5 0) (tK (eB E) (eN E) (i + 1 + 1) - 19)) 5 6 0 (τ 5 6 0 ||| 2 ^ k)) 2 4 (τ 1 5 0) k) 5 5 0 a.2) 2 5 (τ 1 5 0) a.2) 5 5 0 b.2) 1 6 (τ 1 5 0) b.2) 1 5 0 (τ 1 5 0 + 1))) from by simp only [cSen, if_neg (show ¬ τ 1 5 0 = 6 by omega), hr2, hr3, hr4, hr5, hr6, hr8, sb]]; exact ⟨rfl, hw10, (((((((((hf1.tr hf2).tr hf3).tr hf4).tr hf5).tr hf6).tr hf7).tr hf8).tr hf9).tr hf10), ht10, (hx8 ▸ hl8)⟩)
                          · exact absurd c102 (by decide)
                      · exact absurd c72 (by decide)
                  · exact absurd c58 (by decide)
  · simp (disch := omega) only [zI_lt, zI_le, zI_eq, zI_lt0, zI_le0, zI_0lt, zI_0le, zI_eq0] at c11
    refine v_run 2 (pc' := 16) (ls' := [some (.ref (ad 1)), some (.int (zI ↑(τ 1 5 0)))]) (st' := [.int (zI 5), .ref (ad 1)]) rfl ?_
    refine v_callV (My := mX3_fail) (As := [.int (zI 5)]) (rest := []) (mc := 0) (ms := 0) rfl caX3_fail rfl rfl rfl hw.1 rfl rfl (c_fail G _ (f := 5) hA hp hw ht hT hl (by decide)) rfl rfl (Nat.le_of_ble_eq_true rfl) (by omega) ?_
    rintro _ h99 ⟨rfl, hb99⟩
    refine v_run 0 (pc' := 19) (ls' := [some (.ref (ad 1)), some (.int (zI ↑(τ 1 5 0)))]) (st' := [.int (zI 0)]) rfl ?_
    exact v_iret rfl rfl rfl (by rw [show cSen E τ i = .inl (5, tP (eB E) (eN E) i) from by simp only [cSen, if_pos (show τ 1 5 0 = 6 by omega), sb]]; exact ⟨rfl, hb99⟩)

set_option maxRecDepth 100000 in
set_option maxHeartbeats 400000 in
theorem c_cFor (G : ssG) (h : ssH) {ad : Nat → Nat} {po : Nat} {E : pE} {τ : sT} {i : Nat}  (hA : ∀ k l, ad k = ad l → k = l) (hp : po = 11 ∨ po = 22) (hw : PW h ad po E τ i) (ht : TOk τ) (hT : TkE E) (hl : liv (eB E) (eN E) i) (hk : 1 ≤ tK (eB E) (eN E) i) (hN : ∀ d, d < τ 5 7 0 → τ 5 9 d = 4 → τ 5 10 d < 5) : ssC G mX3_hearFor 2 0 0 [.ref (ad 1)] h (QP ad po E h (cFor E τ i)) := by
  refine c_of_v okX3_hearFor (by decide +kernel) (ls := [some (.ref (ad 1)), none, none]) rfl (Nat.le_of_ble_eq_true rfl) ?_
  obtain ⟨s1, s2, s3, s4⟩ := hT.1 i (by have := liv_le hl; have := hT.2; omega) hl
  have tk1 := kS_le (T := eB E) (n := eN E) (pos (eB E) (eN E) i)
  have tk2 := tK_le (T := eB E) (n := eN E) i
  have tk3 := tP_le (T := eB E) (n := eN E) i
  have tk4 := hT.2
  have tk5 := liv_le hl
  have q3 : τ 1 11 0 ≤ 15 := ht 1 11 0 (by omega)
  refine v_run 1 (pc' := 1) (ls' := [some (.ref (ad 1)), none, none]) (st' := [.ref (ad 1)]) rfl ?_
  refine v_get rfl hw.1 rfl ?_
  refine v_run 0 (pc' := 4) (ls' := [some (.ref (ad 1)), none, none]) (st' := [.ref (ad po)]) rfl ?_
  refine v_get rfl hw.2.2.2.2.1.1 rfl ?_
  refine v_run 1 (pc' := 9) (ls' := [some (.ref (ad 1)), none, none]) (st' := [.int (zI 15), .int (zI ↑(τ 1 11 0))]) rfl ?_
  refine v_icmp_lt rfl (fun c9 => ?_) (fun c9 => ?_)
  · simp (disch := omega) only [zI_lt, zI_le, zI_eq, zI_lt0, zI_le0, zI_0lt, zI_0le, zI_eq0] at c9
    have hla : liv (eB E) (eN E) (i + 1) := liv_K hl hk
    refine v_run 1 (pc' := 19) (ls' := [some (.ref (ad 1)), none, none]) (st' := [.ref (ad 1)]) rfl ?_
    refine v_get rfl hw.1 rfl ?_
    refine v_run 0 (pc' := 22) (ls' := [some (.ref (ad 1)), none, none]) (st' := [.ref (ad 2)]) rfl ?_
    refine v_callV (My := mX5_advance) (As := []) (rest := []) (mc := 0) (ms := 0) rfl caX5_advance rfl rfl rfl hw.2.1 rfl rfl (c_adv G _ hA hp hw hT hla) rfl rfl (Nat.le_of_ble_eq_true rfl) (by omega) ?_
    rintro _ h1 ⟨rfl, hw1, hf1⟩
    refine v_run 0 (pc' := 25) (ls' := [some (.ref (ad 1)), none, none]) (st' := []) rfl ?_
    refine v_run 2 (pc' := 27) (ls' := [some (.ref (ad 1)), none, none]) (st' := [.int (zI 3), .ref (ad 1)]) rfl ?_
    refine v_callV (My := mX3_toldNumber) (As := [.int (zI 3)]) (rest := []) (mc := 0) (ms := 0) rfl caX3_toldNumber rfl rfl rfl hw1.1 rfl rfl (c_told G _ (sr := 3) hA hp hw1 ht hT hla (by decide)) rfl rfl (Nat.le_of_ble_eq_true rfl) (by omega) ?_
    intro an2 h2 hq2
    rcases hr2 : cTold E τ 3 (i + 1) with e | x
    · rw [hr2] at hq2
      obtain ⟨rfl, hb2⟩ := hq2
      refine v_run 0 (pc' := 30) (ls' := [some (.ref (ad 1)), none, none]) (st' := [.int (zI (-1))]) rfl ?_
      refine v_run 2 (pc' := 32) (ls' := [some (.ref (ad 1)), some (.int (zI (-1))), none]) (st' := [.int (zI (-1))]) rfl ?_
      refine v_if_ge rfl (fun c32 => ?_) (fun c32 => ?_)
      · exact absurd c32 (by decide)
      · refine v_run 1 (pc' := 36) (ls' := [some (.ref (ad 1)), some (.int (zI (-1))), none]) (st' := [.int (zI 0)]) rfl ?_
        exact v_iret rfl rfl rfl (by rw [show cFor E τ i = .inl e from by simp only [cFor, if_neg (show ¬ τ 1 11 0 = 15 by omega), hr2, sb]]; exact ⟨rfl, hb2.tr hf1⟩)
    · rw [hr2] at hq2
      obtain ⟨rfl, rfl⟩ := hq2
      obtain ⟨hl2, hk2, hd2⟩ := cTold_ok hr2 hla ht
      refine v_run 0 (pc' := 30) (ls' := [some (.ref (ad 1)), none, none]) (st' := [.int (zI ↑x)]) rfl ?_
      refine v_run 2 (pc' := 32) (ls' := [some (.ref (ad 1)), some (.int (zI ↑x)), none]) (st' := [.int (zI ↑x)]) rfl ?_
      refine v_if_ge rfl (fun c32 => ?_) (fun c32 => ?_)
      · simp (disch := omega) only [zI_lt, zI_le, zI_eq, zI_lt0, zI_le0, zI_0lt, zI_0le, zI_eq0] at c32
        refine v_run 1 (pc' := 38) (ls' := [some (.ref (ad 1)), some (.int (zI ↑x)), none]) (st' := [.ref (ad 1)]) rfl ?_
        refine v_get rfl hw1.1 rfl ?_
        refine v_run 0 (pc' := 41) (ls' := [some (.ref (ad 1)), some (.int (zI ↑x)), none]) (st' := [.ref (ad 2)]) rfl ?_
        refine v_callV (My := mX5_advance) (As := []) (rest := []) (mc := 0) (ms := 0) rfl caX5_advance rfl rfl rfl hw1.2.1 rfl rfl (c_adv G _ hA hp hw1 hT hl2) rfl rfl (Nat.le_of_ble_eq_true rfl) (by omega) ?_
        rintro _ h3 ⟨rfl, hw3, hf3⟩
        refine v_run 0 (pc' := 44) (ls' := [some (.ref (ad 1)), some (.int (zI ↑x)), none]) (st' := []) rfl ?_
        refine v_run 2 (pc' := 46) (ls' := [some (.ref (ad 1)), some (.int (zI ↑x)), none]) (st' := [.int (zI 4), .ref (ad 1)]) rfl ?_
        refine v_callV (My := mX3_toldNumber) (As := [.int (zI 4)]) (rest := []) (mc := 0) (ms := 0) rfl caX3_toldNumber rfl rfl rfl hw3.1 rfl rfl (c_told G _ (sr := 4) hA hp hw3 ht hT hl2 (by decide)) rfl rfl (Nat.le_of_ble_eq_true rfl) (by omega) ?_
        intro an4 h4 hq4
        rcases hr4 : cTold E τ 4 (i + 1 + 1) with e | y
        · rw [hr4] at hq4
          obtain ⟨rfl, hb4⟩ := hq4
          refine v_run 0 (pc' := 49) (ls' := [some (.ref (ad 1)), some (.int (zI ↑x)), none]) (st' := [.int (zI (-1))]) rfl ?_
          refine v_run 2 (pc' := 51) (ls' := [some (.ref (ad 1)), some (.int (zI ↑x)), some (.int (zI (-1)))]) (st' := [.int (zI (-1))]) rfl ?_
          refine v_if_lt rfl (fun c51 => ?_) (fun c51 => ?_)
          · refine v_run 1 (pc' := 60) (ls' := [some (.ref (ad 1)), some (.int (zI ↑x)), some (.int (zI (-1)))]) (st' := [.int (zI 0)]) rfl ?_
            exact v_iret rfl rfl rfl (by rw [show cFor E τ i = .inl e from by simp only [cFor, if_neg (show ¬ τ 1 11 0 = 15 by omega), hr2, hr4, sb]]; exact ⟨rfl, hb4.tr (hf1.tr hf3)⟩)
          · exact absurd (by decide) c51
        · rw [hr4] at hq4
          obtain ⟨rfl, rfl⟩ := hq4
          obtain ⟨hl4, hk4, hd4⟩ := cTold_ok hr4 hl2 ht
          refine v_run 0 (pc' := 49) (ls' := [some (.ref (ad 1)), some (.int (zI ↑x)), none]) (st' := [.int (zI ↑y)]) rfl ?_
          refine v_run 2 (pc' := 51) (ls' := [some (.ref (ad 1)), some (.int (zI ↑x)), some (.int (zI ↑y))]) (st' := [.int (zI ↑y)]) rfl ?_
          refine v_if_lt rfl (fun c51 => ?_) (fun c51 => ?_)
          · exfalso; revert c51; simp (disch := omega) only [zI_lt, zI_le, zI_eq, zI_lt0, zI_le0, zI_0lt, zI_0le, zI_eq0] <;> omega
          · simp (disch := omega) only [zI_lt, zI_le, zI_eq, zI_lt0, zI_le0, zI_0lt, zI_0le, zI_eq0] at c51
            have h5y : y < 5 := by obtain ⟨d, d1, d2, d3⟩ := hd4; rw [← d3]; exact hN d d1 d2
            refine v_run 2 (pc' := 56) (ls' := [some (.ref (ad 1)), some (.int (zI ↑x)), some (.int (zI ↑y))]) (st' := [.int (zI 5), .int (zI ↑y)]) rfl ?_
            refine v_icmp_lt rfl (fun c56 => ?_) (fun c56 => ?_)
            · simp (disch := omega) only [zI_lt, zI_le, zI_eq, zI_lt0, zI_le0, zI_0lt, zI_0le, zI_eq0] at c56
              have qr : τ 1 9 y ≤ 63 := ht 1 9 y (by omega)
              refine v_run 1 (pc' := 62) (ls' := [some (.ref (ad 1)), some (.int (zI ↑x)), some (.int (zI ↑y))]) (st' := [.ref (ad 1)]) rfl ?_
              refine v_get rfl hw3.1 rfl ?_
              refine v_run 0 (pc' := 65) (ls' := [some (.ref (ad 1)), some (.int (zI ↑x)), some (.int (zI ↑y))]) (st' := [.ref (ad po)]) rfl ?_
              refine v_get rfl hw3.2.2.2.2.1.1 rfl ?_
              refine v_run 1 (pc' := 69) (ls' := [some (.ref (ad 1)), some (.int (zI ↑x)), some (.int (zI ↑y))]) (st' := [.int (zI ↑y), .ref (Rp ad po 9)]) rfl ?_
              refine v_iaload' rfl hw3.2.2.2.2.1.2.2.2.2.1 (i := y) rfl (by omega) ?_
              refine v_run 5 (pc' := 75) (ls' := [some (.ref (ad 1)), some (.int (zI ↑x)), some (.int (zI ↑y))]) (st' := [.int (zI 1), .int (((zI ↑(τ 1 9 y)) >>> ((zI ↑x) &&& 31)) &&& (zI 1))]) rfl ?_
              refine v_icmp_ne rfl (fun c75 => ?_) (fun c75 => ?_)
              · rw [bN_zI (by omega) (by omega)] at c75
                refine v_run 1 (pc' := 85) (ls' := [some (.ref (ad 1)), some (.int (zI ↑x)), some (.int (zI ↑y))]) (st' := [.ref (ad 1)]) rfl ?_
                refine v_get rfl hw3.1 rfl ?_
                refine v_run 0 (pc' := 88) (ls' := [some (.ref (ad 1)), some (.int (zI ↑x)), some (.int (zI ↑y))]) (st' := [.ref (ad po)]) rfl ?_
                refine v_get rfl hw3.2.2.2.2.1.1 rfl ?_
                refine v_run 2 (pc' := 93) (ls' := [some (.ref (ad 1)), some (.int (zI ↑x)), some (.int (zI ↑y))]) (st' := [.int (zI ↑y), .ref (Rp ad po 9), .int (zI ↑y), .ref (Rp ad po 9)]) rfl ?_
                refine v_iaload' rfl hw3.2.2.2.2.1.2.2.2.2.1 (i := y) rfl (by omega) ?_
                refine v_run 4 (pc' := 98) (ls' := [some (.ref (ad 1)), some (.int (zI ↑x)), some (.int (zI ↑y))]) (st' := [.int ((zI ↑(τ 1 9 y)) ||| ((zI 1) <<< ((zI ↑x) &&& 31))), .int (zI ↑y), .ref (Rp ad po 9)]) rfl ?_
                rw [show (((zI ↑(τ 1 9 y)) ||| ((zI 1) <<< ((zI ↑x) &&& 31))) : Int32) = zI ↑(τ 1 9 y ||| 2 ^ x) from zI_or2 (by omega) (by omega)]
                refine v_iastore' rfl hw3.2.2.2.2.1.2.2.2.2.1 (i := y) rfl (by omega) ?_
                rw [ar_upd]
                have qo : τ 1 9 y ||| 2 ^ x < 2 ^ 6 := or_lt (by omega) (by omega)
                have hw5 := hw3.pr9 hA hp y (τ 1 9 y ||| 2 ^ x)
                generalize e5 : hset h3 (Rp ad po 9) _ = h5 at hw5 ⊢
                have hf5 : frC ad po h3 h5 := e5 ▸ frC.set (by simp <;> omega) _
                have ht5 : TOk (tU τ 1 9 y (τ 1 9 y ||| 2 ^ x)) := ht.up (by simp [bdT] <;> omega)
                refine v_run 1 (pc' := 100) (ls' := [some (.ref (ad 1)), some (.int (zI ↑x)), some (.int (zI ↑y))]) (st' := [.ref (ad 1)]) rfl ?_
                refine v_get rfl hw5.1 rfl ?_
                refine v_run 1 (pc' := 104) (ls' := [some (.ref (ad 1)), some (.int (zI ↑x)), some (.int (zI ↑y))]) (st' := [.ref (ad po), .ref (ad po)]) rfl ?_
                refine v_get rfl hw5.2.2.2.2.1.1 rfl ?_
                refine v_run 2 (pc' := 109) (ls' := [some (.ref (ad 1)), some (.int (zI ↑x)), some (.int (zI ↑y))]) (st' := [.int ((zI ↑(τ 1 11 0)) + (zI 1)), .ref (ad po)]) rfl ?_
                rw [show (((zI ↑(τ 1 11 0)) + (zI 1)) : Int32) = zI ↑(τ 1 11 0 + 1) from zI_s1 _]
                refine v_put rfl hw5.2.2.2.2.1.1 rfl rfl (Nat.le_of_ble_eq_true rfl) ?_
                have hw6 := hw5.plI hA hp 11 (τ 1 11 0 + 1) (by omega)
                generalize e6 : hset h5 (ad po) _ = h6 at hw6 ⊢
                have hf6 : frC ad po h5 h6 := e6 ▸ frC.set (by omega) _
                have ht6 : TOk (tU (tU τ 1 9 y (τ 1 9 y ||| 2 ^ x)) 1 11 0 (τ 1 11 0 + 1)) := ht5.up (by simp [bdT] <;> omega)
                refine v_run 1 (pc' := 113) (ls' := [some (.ref (ad 1)), some (.int (zI ↑x)), some (.int (zI ↑y))]) (st' := [.ref (ad 1)]) rfl ?_
                refine v_get rfl hw6.1 rfl ?_
                refine v_run 0 (pc' := 116) (ls' := [some (.ref (ad 1)), some (.int (zI ↑x)), some (.int (zI ↑y))]) (st' := [.ref (ad 2)]) rfl ?_
                refine v_callV (My := mX5_advance) (As := []) (rest := []) (mc := 0) (ms := 0) rfl caX5_advance rfl rfl rfl hw6.2.1 rfl rfl (c_adv G _ hA hp hw6 hT hl4) rfl rfl (Nat.le_of_ble_eq_true rfl) (by omega) ?_
                rintro _ h7 ⟨rfl, hw7, hf7⟩
                refine v_run 0 (pc' := 119) (ls' := [some (.ref (ad 1)), some (.int (zI ↑x)), some (.int (zI ↑y))]) (st' := []) rfl ?_
                refine v_run 1 (pc' := 120) (ls' := [some (.ref (ad 1)), some (.int (zI ↑x)), some (.int (zI ↑y))]) (st' := [.int (zI 1)]) rfl ?_
                exact v_iret rfl rfl rfl (by rw [show cFor E τ i = .inr (i + 1 + 1 + 1, (tU (tU τ 1 9 y (τ 1 9 y ||| 2 ^ x)) 1 11 0 (τ 1 11 0 + 1))) from by simp only [cFor, if_neg (show ¬ τ 1 11 0 = 15 by omega), hr2, hr4, if_neg c75, sb]]; exact ⟨rfl, hw7, ((((hf1.tr hf3).tr hf5).tr hf6).tr hf7), ht6, hl4⟩)
              · rw [bN_zI (by omega) (by omega)] at c75
                refine v_run 2 (pc' := 80) (ls' := [some (.ref (ad 1)), some (.int (zI ↑x)), some (.int (zI ↑y))]) (st' := [.int (zI 3), .ref (ad 1)]) rfl ?_
                refine v_callV (My := mX3_fail) (As := [.int (zI 3)]) (rest := []) (mc := 0) (ms := 0) rfl caX3_fail rfl rfl rfl hw3.1 rfl rfl (c_fail G _ (f := 3) hA hp hw3 ht hT hl2 (by decide)) rfl rfl (Nat.le_of_ble_eq_true rfl) (by omega) ?_
                rintro _ h99 ⟨rfl, hb99⟩
                refine v_run 0 (pc' := 83) (ls' := [some (.ref (ad 1)), some (.int (zI ↑x)), some (.int (zI ↑y))]) (st' := [.int (zI 0)]) rfl ?_
                exact v_iret rfl rfl rfl (by rw [show cFor E τ i = .inl (3, tP (eB E) (eN E) (i + 1 + 1)) from by simp only [cFor, if_neg (show ¬ τ 1 11 0 = 15 by omega), hr2, hr4, if_pos c75, sb]]; exact ⟨rfl, hb99.tr (hf1.tr hf3)⟩)
            · exfalso; revert c56; simp (disch := omega) only [zI_lt, zI_le, zI_eq, zI_lt0, zI_le0, zI_0lt, zI_0le, zI_eq0] <;> omega
      · exfalso; revert c32; simp (disch := omega) only [zI_lt, zI_le, zI_eq, zI_lt0, zI_le0, zI_0lt, zI_0le, zI_eq0] <;> omega
  · simp (disch := omega) only [zI_lt, zI_le, zI_eq, zI_lt0, zI_le0, zI_0lt, zI_0le, zI_eq0] at c9
    refine v_run 2 (pc' := 14) (ls' := [some (.ref (ad 1)), none, none]) (st' := [.int (zI 5), .ref (ad 1)]) rfl ?_
    refine v_callV (My := mX3_fail) (As := [.int (zI 5)]) (rest := []) (mc := 0) (ms := 0) rfl caX3_fail rfl rfl rfl hw.1 rfl rfl (c_fail G _ (f := 5) hA hp hw ht hT hl (by decide)) rfl rfl (Nat.le_of_ble_eq_true rfl) (by omega) ?_
    rintro _ h99 ⟨rfl, hb99⟩
    refine v_run 0 (pc' := 17) (ls' := [some (.ref (ad 1)), none, none]) (st' := [.int (zI 0)]) rfl ?_
    exact v_iret rfl rfl rfl (by rw [show cFor E τ i = .inl (5, tP (eB E) (eN E) i) from by simp only [cFor, if_pos (show τ 1 11 0 = 15 by omega), sb]]; exact ⟨rfl, hb99⟩)

set_option maxRecDepth 100000 in
set_option maxHeartbeats 400000 in
theorem c_cRests (G : ssG) (h : ssH) {ad : Nat → Nat} {po : Nat} {E : pE} {τ : sT} {i : Nat}  (hA : ∀ k l, ad k = ad l → k = l) (hp : po = 11 ∨ po = 22) (hw : PW h ad po E τ i) (ht : TOk τ) (hT : TkE E) (hl : liv (eB E) (eN E) i) (hk : 1 ≤ tK (eB E) (eN E) i) (hN : ∀ d, d < τ 5 7 0 → τ 5 9 d = 4 → τ 5 10 d < 5) : ssC G mX3_hearRests 2 0 0 [.ref (ad 1)] h (QP ad po E h (cRests E τ i)) := by
  refine c_of_v okX3_hearRests (by decide +kernel) (ls := [some (.ref (ad 1)), none, none]) rfl (Nat.le_of_ble_eq_true rfl) ?_
  obtain ⟨s1, s2, s3, s4⟩ := hT.1 i (by have := liv_le hl; have := hT.2; omega) hl
  have tk1 := kS_le (T := eB E) (n := eN E) (pos (eB E) (eN E) i)
  have tk2 := tK_le (T := eB E) (n := eN E) i
  have tk3 := tP_le (T := eB E) (n := eN E) i
  have tk4 := hT.2
  have tk5 := liv_le hl
  have q3 : τ 1 12 0 ≤ 6 := ht 1 12 0 (by omega)
  refine v_run 1 (pc' := 1) (ls' := [some (.ref (ad 1)), none, none]) (st' := [.ref (ad 1)]) rfl ?_
  refine v_get rfl hw.1 rfl ?_
  refine v_run 0 (pc' := 4) (ls' := [some (.ref (ad 1)), none, none]) (st' := [.ref (ad po)]) rfl ?_
  refine v_get rfl hw.2.2.2.2.1.1 rfl ?_
  refine v_run 1 (pc' := 9) (ls' := [some (.ref (ad 1)), none, none]) (st' := [.int (zI 6), .int (zI ↑(τ 1 12 0))]) rfl ?_
  refine v_icmp_lt rfl (fun c9 => ?_) (fun c9 => ?_)
  · simp (disch := omega) only [zI_lt, zI_le, zI_eq, zI_lt0, zI_le0, zI_0lt, zI_0le, zI_eq0] at c9
    have hla : liv (eB E) (eN E) (i + 1) := liv_K hl hk
    refine v_run 1 (pc' := 19) (ls' := [some (.ref (ad 1)), none, none]) (st' := [.ref (ad 1)]) rfl ?_
    refine v_get rfl hw.1 rfl ?_
    refine v_run 0 (pc' := 22) (ls' := [some (.ref (ad 1)), none, none]) (st' := [.ref (ad 2)]) rfl ?_
    refine v_callV (My := mX5_advance) (As := []) (rest := []) (mc := 0) (ms := 0) rfl caX5_advance rfl rfl rfl hw.2.1 rfl rfl (c_adv G _ hA hp hw hT hla) rfl rfl (Nat.le_of_ble_eq_true rfl) (by omega) ?_
    rintro _ h1 ⟨rfl, hw1, hf1⟩
    refine v_run 0 (pc' := 25) (ls' := [some (.ref (ad 1)), none, none]) (st' := []) rfl ?_
    refine v_run 2 (pc' := 27) (ls' := [some (.ref (ad 1)), none, none]) (st' := [.int (zI 4), .ref (ad 1)]) rfl ?_
    refine v_callV (My := mX3_toldNumber) (As := [.int (zI 4)]) (rest := []) (mc := 0) (ms := 0) rfl caX3_toldNumber rfl rfl rfl hw1.1 rfl rfl (c_told G _ (sr := 4) hA hp hw1 ht hT hla (by decide)) rfl rfl (Nat.le_of_ble_eq_true rfl) (by omega) ?_
    intro an2 h2 hq2
    rcases hr2 : cTold E τ 4 (i + 1) with e | x
    · rw [hr2] at hq2
      obtain ⟨rfl, hb2⟩ := hq2
      refine v_run 0 (pc' := 30) (ls' := [some (.ref (ad 1)), none, none]) (st' := [.int (zI (-1))]) rfl ?_
      refine v_run 2 (pc' := 32) (ls' := [some (.ref (ad 1)), some (.int (zI (-1))), none]) (st' := [.int (zI (-1))]) rfl ?_
      refine v_if_lt rfl (fun c32 => ?_) (fun c32 => ?_)
      · refine v_run 1 (pc' := 41) (ls' := [some (.ref (ad 1)), some (.int (zI (-1))), none]) (st' := [.int (zI 0)]) rfl ?_
        exact v_iret rfl rfl rfl (by rw [show cRests E τ i = .inl e from by simp only [cRests, if_neg (show ¬ τ 1 12 0 = 6 by omega), hr2, sb]]; exact ⟨rfl, hb2.tr hf1⟩)
      · exact absurd (by decide) c32
    · rw [hr2] at hq2
      obtain ⟨rfl, rfl⟩ := hq2
      obtain ⟨hl2, hk2, hd2⟩ := cTold_ok hr2 hla ht
      refine v_run 0 (pc' := 30) (ls' := [some (.ref (ad 1)), none, none]) (st' := [.int (zI ↑x)]) rfl ?_
      refine v_run 2 (pc' := 32) (ls' := [some (.ref (ad 1)), some (.int (zI ↑x)), none]) (st' := [.int (zI ↑x)]) rfl ?_
      refine v_if_lt rfl (fun c32 => ?_) (fun c32 => ?_)
      · exfalso; revert c32; simp (disch := omega) only [zI_lt, zI_le, zI_eq, zI_lt0, zI_le0, zI_0lt, zI_0le, zI_eq0] <;> omega
      · simp (disch := omega) only [zI_lt, zI_le, zI_eq, zI_lt0, zI_le0, zI_0lt, zI_0le, zI_eq0] at c32
        have h5x : x < 5 := by obtain ⟨d, d1, d2, d3⟩ := hd2; rw [← d3]; exact hN d d1 d2
        refine v_run 2 (pc' := 37) (ls' := [some (.ref (ad 1)), some (.int (zI ↑x)), none]) (st' := [.int (zI 5), .int (zI ↑x)]) rfl ?_
        refine v_icmp_lt rfl (fun c37 => ?_) (fun c37 => ?_)
        · simp (disch := omega) only [zI_lt, zI_le, zI_eq, zI_lt0, zI_le0, zI_0lt, zI_0le, zI_eq0] at c37
          refine v_run 1 (pc' := 43) (ls' := [some (.ref (ad 1)), some (.int (zI ↑x)), none]) (st' := [.ref (ad 1)]) rfl ?_
          refine v_get rfl hw1.1 rfl ?_
          refine v_run 0 (pc' := 46) (ls' := [some (.ref (ad 1)), some (.int (zI ↑x)), none]) (st' := [.ref (ad 2)]) rfl ?_
          refine v_callV (My := mX5_advance) (As := []) (rest := []) (mc := 0) (ms := 0) rfl caX5_advance rfl rfl rfl hw1.2.1 rfl rfl (c_adv G _ hA hp hw1 hT hl2) rfl rfl (Nat.le_of_ble_eq_true rfl) (by omega) ?_
          rintro _ h3 ⟨rfl, hw3, hf3⟩
          refine v_run 0 (pc' := 49) (ls' := [some (.ref (ad 1)), some (.int (zI ↑x)), none]) (st' := []) rfl ?_
          refine v_run 2 (pc' := 51) (ls' := [some (.ref (ad 1)), some (.int (zI ↑x)), none]) (st' := [.int (zI 4), .ref (ad 1)]) rfl ?_
          refine v_callV (My := mX3_toldNumber) (As := [.int (zI 4)]) (rest := []) (mc := 0) (ms := 0) rfl caX3_toldNumber rfl rfl rfl hw3.1 rfl rfl (c_told G _ (sr := 4) hA hp hw3 ht hT hl2 (by decide)) rfl rfl (Nat.le_of_ble_eq_true rfl) (by omega) ?_
          intro an4 h4 hq4
          rcases hr4 : cTold E τ 4 (i + 1 + 1) with e | y
          · rw [hr4] at hq4
            obtain ⟨rfl, hb4⟩ := hq4
            refine v_run 0 (pc' := 54) (ls' := [some (.ref (ad 1)), some (.int (zI ↑x)), none]) (st' := [.int (zI (-1))]) rfl ?_
            refine v_run 2 (pc' := 56) (ls' := [some (.ref (ad 1)), some (.int (zI ↑x)), some (.int (zI (-1)))]) (st' := [.int (zI (-1))]) rfl ?_
            refine v_if_ge rfl (fun c56 => ?_) (fun c56 => ?_)
            · exact absurd c56 (by decide)
            · refine v_run 1 (pc' := 60) (ls' := [some (.ref (ad 1)), some (.int (zI ↑x)), some (.int (zI (-1)))]) (st' := [.int (zI 0)]) rfl ?_
              exact v_iret rfl rfl rfl (by rw [show cRests E τ i = .inl e from by simp only [cRests, if_neg (show ¬ τ 1 12 0 = 6 by omega), hr2, hr4, sb]]; exact ⟨rfl, hb4.tr (hf1.tr hf3)⟩)
          · rw [hr4] at hq4
            obtain ⟨rfl, rfl⟩ := hq4
            obtain ⟨hl4, hk4, hd4⟩ := cTold_ok hr4 hl2 ht
            refine v_run 0 (pc' := 54) (ls' := [some (.ref (ad 1)), some (.int (zI ↑x)), none]) (st' := [.int (zI ↑y)]) rfl ?_
            refine v_run 2 (pc' := 56) (ls' := [some (.ref (ad 1)), some (.int (zI ↑x)), some (.int (zI ↑y))]) (st' := [.int (zI ↑y)]) rfl ?_
            refine v_if_ge rfl (fun c56 => ?_) (fun c56 => ?_)
            · simp (disch := omega) only [zI_lt, zI_le, zI_eq, zI_lt0, zI_le0, zI_0lt, zI_0le, zI_eq0] at c56
              have h5y : y < 5 := by obtain ⟨d, d1, d2, d3⟩ := hd4; rw [← d3]; exact hN d d1 d2
              have qr : τ 1 10 x ≤ 31 := ht 1 10 x (by omega)
              refine v_run 2 (pc' := 63) (ls' := [some (.ref (ad 1)), some (.int (zI ↑x)), some (.int (zI ↑y))]) (st' := [.int (zI ↑y), .int (zI ↑x)]) rfl ?_
              refine v_icmp_eq rfl (fun c63 => ?_) (fun c63 => ?_)
              · simp (disch := omega) only [zI_lt, zI_le, zI_eq, zI_lt0, zI_le0, zI_0lt, zI_0le, zI_eq0] at c63
                refine v_run 2 (pc' := 85) (ls' := [some (.ref (ad 1)), some (.int (zI ↑x)), some (.int (zI ↑y))]) (st' := [.int (zI 3), .ref (ad 1)]) rfl ?_
                refine v_callV (My := mX3_fail) (As := [.int (zI 3)]) (rest := []) (mc := 0) (ms := 0) rfl caX3_fail rfl rfl rfl hw3.1 rfl rfl (c_fail G _ (f := 3) hA hp hw3 ht hT hl2 (by decide)) rfl rfl (Nat.le_of_ble_eq_true rfl) (by omega) ?_
                rintro _ h99 ⟨rfl, hb99⟩
                refine v_run 0 (pc' := 88) (ls' := [some (.ref (ad 1)), some (.int (zI ↑x)), some (.int (zI ↑y))]) (st' := [.int (zI 0)]) rfl ?_
                exact v_iret rfl rfl rfl (by rw [show cRests E τ i = .inl (3, tP (eB E) (eN E) (i + 1 + 1)) from by simp only [cRests, if_neg (show ¬ τ 1 12 0 = 6 by omega), hr2, hr4, if_pos (Or.inl (show x = y by omega) : x = y ∨ bitN (τ 1 10 x) y = true), sb]]; exact ⟨rfl, hb99.tr (hf1.tr hf3)⟩)
              · simp (disch := omega) only [zI_lt, zI_le, zI_eq, zI_lt0, zI_le0, zI_0lt, zI_0le, zI_eq0] at c63
                refine v_run 1 (pc' := 67) (ls' := [some (.ref (ad 1)), some (.int (zI ↑x)), some (.int (zI ↑y))]) (st' := [.ref (ad 1)]) rfl ?_
                refine v_get rfl hw3.1 rfl ?_
                refine v_run 0 (pc' := 70) (ls' := [some (.ref (ad 1)), some (.int (zI ↑x)), some (.int (zI ↑y))]) (st' := [.ref (ad po)]) rfl ?_
                refine v_get rfl hw3.2.2.2.2.1.1 rfl ?_
                refine v_run 1 (pc' := 74) (ls' := [some (.ref (ad 1)), some (.int (zI ↑x)), some (.int (zI ↑y))]) (st' := [.int (zI ↑x), .ref (Rp ad po 10)]) rfl ?_
                refine v_iaload' rfl hw3.2.2.2.2.1.2.2.2.2.2 (i := x) rfl (by omega) ?_
                refine v_run 5 (pc' := 80) (ls' := [some (.ref (ad 1)), some (.int (zI ↑x)), some (.int (zI ↑y))]) (st' := [.int (zI 1), .int (((zI ↑(τ 1 10 x)) >>> ((zI ↑y) &&& 31)) &&& (zI 1))]) rfl ?_
                refine v_icmp_ne rfl (fun c80 => ?_) (fun c80 => ?_)
                · rw [bN_zI (by omega) (by omega)] at c80
                  have hxy : ¬ (x = y ∨ bitN (τ 1 10 x) y = true) := fun z => z.elim (fun z => by omega) c80
                  refine v_run 1 (pc' := 90) (ls' := [some (.ref (ad 1)), some (.int (zI ↑x)), some (.int (zI ↑y))]) (st' := [.ref (ad 1)]) rfl ?_
                  refine v_get rfl hw3.1 rfl ?_
                  refine v_run 0 (pc' := 93) (ls' := [some (.ref (ad 1)), some (.int (zI ↑x)), some (.int (zI ↑y))]) (st' := [.ref (ad po)]) rfl ?_
                  refine v_get rfl hw3.2.2.2.2.1.1 rfl ?_
                  refine v_run 2 (pc' := 98) (ls' := [some (.ref (ad 1)), some (.int (zI ↑x)), some (.int (zI ↑y))]) (st' := [.int (zI ↑x), .ref (Rp ad po 10), .int (zI ↑x), .ref (Rp ad po 10)]) rfl ?_
                  refine v_iaload' rfl hw3.2.2.2.2.1.2.2.2.2.2 (i := x) rfl (by omega) ?_
                  refine v_run 4 (pc' := 103) (ls' := [some (.ref (ad 1)), some (.int (zI ↑x)), some (.int (zI ↑y))]) (st' := [.int ((zI ↑(τ 1 10 x)) ||| ((zI 1) <<< ((zI ↑y) &&& 31))), .int (zI ↑x), .ref (Rp ad po 10)]) rfl ?_
                  rw [show (((zI ↑(τ 1 10 x)) ||| ((zI 1) <<< ((zI ↑y) &&& 31))) : Int32) = zI ↑(τ 1 10 x ||| 2 ^ y) from zI_or2 (by omega) (by omega)]
                  refine v_iastore' rfl hw3.2.2.2.2.1.2.2.2.2.2 (i := x) rfl (by omega) ?_
                  rw [ar_upd]
                  have qo : τ 1 10 x ||| 2 ^ y < 2 ^ 5 := or_lt (by omega) (by omega)
                  have hw5 := hw3.pr10 hA hp x (τ 1 10 x ||| 2 ^ y)
                  generalize e5 : hset h3 (Rp ad po 10) _ = h5 at hw5 ⊢
                  have hf5 : frC ad po h3 h5 := e5 ▸ frC.set (by simp <;> omega) _
                  have ht5 : TOk (tU τ 1 10 x (τ 1 10 x ||| 2 ^ y)) := ht.up (by simp [bdT] <;> omega)
                  refine v_run 1 (pc' := 105) (ls' := [some (.ref (ad 1)), some (.int (zI ↑x)), some (.int (zI ↑y))]) (st' := [.ref (ad 1)]) rfl ?_
                  refine v_get rfl hw5.1 rfl ?_
                  refine v_run 1 (pc' := 109) (ls' := [some (.ref (ad 1)), some (.int (zI ↑x)), some (.int (zI ↑y))]) (st' := [.ref (ad po), .ref (ad po)]) rfl ?_
                  refine v_get rfl hw5.2.2.2.2.1.1 rfl ?_
                  refine v_run 2 (pc' := 114) (ls' := [some (.ref (ad 1)), some (.int (zI ↑x)), some (.int (zI ↑y))]) (st' := [.int ((zI ↑(τ 1 12 0)) + (zI 1)), .ref (ad po)]) rfl ?_
                  rw [show (((zI ↑(τ 1 12 0)) + (zI 1)) : Int32) = zI ↑(τ 1 12 0 + 1) from zI_s1 _]
                  refine v_put rfl hw5.2.2.2.2.1.1 rfl rfl (Nat.le_of_ble_eq_true rfl) ?_
                  have hw6 := hw5.plI hA hp 12 (τ 1 12 0 + 1) (by omega)
                  generalize e6 : hset h5 (ad po) _ = h6 at hw6 ⊢
                  have hf6 : frC ad po h5 h6 := e6 ▸ frC.set (by omega) _
                  have ht6 : TOk (tU (tU τ 1 10 x (τ 1 10 x ||| 2 ^ y)) 1 12 0 (τ 1 12 0 + 1)) := ht5.up (by simp [bdT] <;> omega)
                  refine v_run 1 (pc' := 118) (ls' := [some (.ref (ad 1)), some (.int (zI ↑x)), some (.int (zI ↑y))]) (st' := [.ref (ad 1)]) rfl ?_
                  refine v_get rfl hw6.1 rfl ?_
                  refine v_run 0 (pc' := 121) (ls' := [some (.ref (ad 1)), some (.int (zI ↑x)), some (.int (zI ↑y))]) (st' := [.ref (ad 2)]) rfl ?_
                  refine v_callV (My := mX5_advance) (As := []) (rest := []) (mc := 0) (ms := 0) rfl caX5_advance rfl rfl rfl hw6.2.1 rfl rfl (c_adv G _ hA hp hw6 hT hl4) rfl rfl (Nat.le_of_ble_eq_true rfl) (by omega) ?_
                  rintro _ h7 ⟨rfl, hw7, hf7⟩
                  refine v_run 0 (pc' := 124) (ls' := [some (.ref (ad 1)), some (.int (zI ↑x)), some (.int (zI ↑y))]) (st' := []) rfl ?_
                  refine v_run 1 (pc' := 125) (ls' := [some (.ref (ad 1)), some (.int (zI ↑x)), some (.int (zI ↑y))]) (st' := [.int (zI 1)]) rfl ?_
                  exact v_iret rfl rfl rfl (by rw [show cRests E τ i = .inr (i + 1 + 1 + 1, (tU (tU τ 1 10 x (τ 1 10 x ||| 2 ^ y)) 1 12 0 (τ 1 12 0 + 1))) from by simp only [cRests, if_neg (show ¬ τ 1 12 0 = 6 by omega), hr2, hr4, if_neg hxy, sb]]; exact ⟨rfl, hw7, ((((hf1.tr hf3).tr hf5).tr hf6).tr hf7), ht6, hl4⟩)
                · rw [bN_zI (by omega) (by omega)] at c80
                  refine v_run 2 (pc' := 85) (ls' := [some (.ref (ad 1)), some (.int (zI ↑x)), some (.int (zI ↑y))]) (st' := [.int (zI 3), .ref (ad 1)]) rfl ?_
                  refine v_callV (My := mX3_fail) (As := [.int (zI 3)]) (rest := []) (mc := 0) (ms := 0) rfl caX3_fail rfl rfl rfl hw3.1 rfl rfl (c_fail G _ (f := 3) hA hp hw3 ht hT hl2 (by decide)) rfl rfl (Nat.le_of_ble_eq_true rfl) (by omega) ?_
                  rintro _ h99 ⟨rfl, hb99⟩
                  refine v_run 0 (pc' := 88) (ls' := [some (.ref (ad 1)), some (.int (zI ↑x)), some (.int (zI ↑y))]) (st' := [.int (zI 0)]) rfl ?_
                  exact v_iret rfl rfl rfl (by rw [show cRests E τ i = .inl (3, tP (eB E) (eN E) (i + 1 + 1)) from by simp only [cRests, if_neg (show ¬ τ 1 12 0 = 6 by omega), hr2, hr4, if_pos (Or.inr c80 : x = y ∨ bitN (τ 1 10 x) y = true), sb]]; exact ⟨rfl, hb99.tr (hf1.tr hf3)⟩)
            · exfalso; revert c56; simp (disch := omega) only [zI_lt, zI_le, zI_eq, zI_lt0, zI_le0, zI_0lt, zI_0le, zI_eq0] <;> omega
        · exfalso; revert c37; simp (disch := omega) only [zI_lt, zI_le, zI_eq, zI_lt0, zI_le0, zI_0lt, zI_0le, zI_eq0] <;> omega
  · simp (disch := omega) only [zI_lt, zI_le, zI_eq, zI_lt0, zI_le0, zI_0lt, zI_0le, zI_eq0] at c9
    refine v_run 2 (pc' := 14) (ls' := [some (.ref (ad 1)), none, none]) (st' := [.int (zI 5), .ref (ad 1)]) rfl ?_
    refine v_callV (My := mX3_fail) (As := [.int (zI 5)]) (rest := []) (mc := 0) (ms := 0) rfl caX3_fail rfl rfl rfl hw.1 rfl rfl (c_fail G _ (f := 5) hA hp hw ht hT hl (by decide)) rfl rfl (Nat.le_of_ble_eq_true rfl) (by omega) ?_
    rintro _ h99 ⟨rfl, hb99⟩
    refine v_run 0 (pc' := 17) (ls' := [some (.ref (ad 1)), none, none]) (st' := [.int (zI 0)]) rfl ?_
    exact v_iret rfl rfl rfl (by rw [show cRests E τ i = .inl (5, tP (eB E) (eN E) i) from by simp only [cRests, if_pos (show τ 1 12 0 = 6 by omega), sb]]; exact ⟨rfl, hb99⟩)

set_option maxRecDepth 100000 in
set_option maxHeartbeats 400000 in
theorem c_cDoubt (G : ssG) (h : ssH) {ad : Nat → Nat} {po : Nat} {E : pE} {τ : sT} {i : Nat}  (hA : ∀ k l, ad k = ad l → k = l) (hp : po = 11 ∨ po = 22) (hw : PW h ad po E τ i) (ht : TOk τ) (hT : TkE E) (hl : liv (eB E) (eN E) i) (hk : 1 ≤ tK (eB E) (eN E) i) : ssC G mX3_hearDoubted 2 0 0 [.ref (ad 1)] h (QP ad po E h (cDoubt E τ i)) := by
  refine c_of_v okX3_hearDoubted (by decide +kernel) (ls := [some (.ref (ad 1)), none]) rfl (Nat.le_of_ble_eq_true rfl) ?_
  obtain ⟨s1, s2, s3, s4⟩ := hT.1 i (by have := liv_le hl; have := hT.2; omega) hl
  have tk1 := kS_le (T := eB E) (n := eN E) (pos (eB E) (eN E) i)
  have tk2 := tK_le (T := eB E) (n := eN E) i
  have tk3 := tP_le (T := eB E) (n := eN E) i
  have tk4 := hT.2
  have tk5 := liv_le hl
  have q3 : τ 1 13 0 ≤ 6 := ht 1 13 0 (by omega)
  refine v_run 1 (pc' := 1) (ls' := [some (.ref (ad 1)), none]) (st' := [.ref (ad 1)]) rfl ?_
  refine v_get rfl hw.1 rfl ?_
  refine v_run 0 (pc' := 4) (ls' := [some (.ref (ad 1)), none]) (st' := [.ref (ad po)]) rfl ?_
  refine v_get rfl hw.2.2.2.2.1.1 rfl ?_
  refine v_run 0 (pc' := 7) (ls' := [some (.ref (ad 1)), none]) (st' := [.int (zI (↑(τ 1 13 0) - 1))]) rfl ?_
  refine v_if_lt rfl (fun c7 => ?_) (fun c7 => ?_)
  · simp (disch := omega) only [zI_lt, zI_le, zI_eq, zI_lt0, zI_le0, zI_0lt, zI_0le, zI_eq0] at c7
    have hla : liv (eB E) (eN E) (i + 1) := liv_K hl hk
    refine v_run 1 (pc' := 17) (ls' := [some (.ref (ad 1)), none]) (st' := [.ref (ad 1)]) rfl ?_
    refine v_get rfl hw.1 rfl ?_
    refine v_run 0 (pc' := 20) (ls' := [some (.ref (ad 1)), none]) (st' := [.ref (ad 2)]) rfl ?_
    refine v_callV (My := mX5_advance) (As := []) (rest := []) (mc := 0) (ms := 0) rfl caX5_advance rfl rfl rfl hw.2.1 rfl rfl (c_adv G _ hA hp hw hT hla) rfl rfl (Nat.le_of_ble_eq_true rfl) (by omega) ?_
    rintro _ h1 ⟨rfl, hw1, hf1⟩
    refine v_run 0 (pc' := 23) (ls' := [some (.ref (ad 1)), none]) (st' := []) rfl ?_
    refine v_run 2 (pc' := 25) (ls' := [some (.ref (ad 1)), none]) (st' := [.int (zI 3), .ref (ad 1)]) rfl ?_
    refine v_callV (My := mX3_toldNumber) (As := [.int (zI 3)]) (rest := []) (mc := 0) (ms := 0) rfl caX3_toldNumber rfl rfl rfl hw1.1 rfl rfl (c_told G _ (sr := 3) hA hp hw1 ht hT hla (by decide)) rfl rfl (Nat.le_of_ble_eq_true rfl) (by omega) ?_
    intro an2 h2 hq2
    rcases hr2 : cTold E τ 3 (i + 1) with e | x
    · rw [hr2] at hq2
      obtain ⟨rfl, hb2⟩ := hq2
      refine v_run 0 (pc' := 28) (ls' := [some (.ref (ad 1)), none]) (st' := [.int (zI (-1))]) rfl ?_
      refine v_run 2 (pc' := 30) (ls' := [some (.ref (ad 1)), some (.int (zI (-1)))]) (st' := [.int (zI (-1))]) rfl ?_
      refine v_if_ge rfl (fun c30 => ?_) (fun c30 => ?_)
      · exact absurd c30 (by decide)
      · refine v_run 1 (pc' := 34) (ls' := [some (.ref (ad 1)), some (.int (zI (-1)))]) (st' := [.int (zI 0)]) rfl ?_
        exact v_iret rfl rfl rfl (by rw [show cDoubt E τ i = .inl e from by simp only [cDoubt, if_neg (show ¬ 0 < τ 1 13 0 by omega), hr2, sb]]; exact ⟨rfl, hb2.tr hf1⟩)
    · rw [hr2] at hq2
      obtain ⟨rfl, rfl⟩ := hq2
      obtain ⟨hl2, hk2, hd2⟩ := cTold_ok hr2 hla ht
      refine v_run 0 (pc' := 28) (ls' := [some (.ref (ad 1)), none]) (st' := [.int (zI ↑x)]) rfl ?_
      refine v_run 2 (pc' := 30) (ls' := [some (.ref (ad 1)), some (.int (zI ↑x))]) (st' := [.int (zI ↑x)]) rfl ?_
      refine v_if_ge rfl (fun c30 => ?_) (fun c30 => ?_)
      · simp (disch := omega) only [zI_lt, zI_le, zI_eq, zI_lt0, zI_le0, zI_0lt, zI_0le, zI_eq0] at c30
        refine v_run 1 (pc' := 36) (ls' := [some (.ref (ad 1)), some (.int (zI ↑x))]) (st' := [.ref (ad 1)]) rfl ?_
        refine v_get rfl hw1.1 rfl ?_
        refine v_run 1 (pc' := 40) (ls' := [some (.ref (ad 1)), some (.int (zI ↑x))]) (st' := [.int (zI ↑x), .ref (ad po)]) rfl ?_
        refine v_put rfl hw1.2.2.2.2.1.1 rfl rfl (Nat.le_of_ble_eq_true rfl) ?_
        have hw3 := hw1.plD hA hp (x + 1) (x := ↑x) (by omega)
        generalize e3 : hset h1 (ad po) _ = h3 at hw3 ⊢
        have hf3 : frC ad po h1 h3 := e3 ▸ frC.set (by omega) _
        have ht3 : TOk (tU τ 1 13 0 (x + 1)) := ht.up (by simp [bdT] <;> omega)
        refine v_run 1 (pc' := 44) (ls' := [some (.ref (ad 1)), some (.int (zI ↑x))]) (st' := [.ref (ad 1)]) rfl ?_
        refine v_get rfl hw3.1 rfl ?_
        refine v_run 0 (pc' := 47) (ls' := [some (.ref (ad 1)), some (.int (zI ↑x))]) (st' := [.ref (ad 2)]) rfl ?_
        refine v_callV (My := mX5_advance) (As := []) (rest := []) (mc := 0) (ms := 0) rfl caX5_advance rfl rfl rfl hw3.2.1 rfl rfl (c_adv G _ hA hp hw3 hT hl2) rfl rfl (Nat.le_of_ble_eq_true rfl) (by omega) ?_
        rintro _ h4 ⟨rfl, hw4, hf4⟩
        refine v_run 0 (pc' := 50) (ls' := [some (.ref (ad 1)), some (.int (zI ↑x))]) (st' := []) rfl ?_
        refine v_run 1 (pc' := 51) (ls' := [some (.ref (ad 1)), some (.int (zI ↑x))]) (st' := [.int (zI 1)]) rfl ?_
        exact v_iret rfl rfl rfl (by rw [show cDoubt E τ i = .inr (i + 1 + 1, (tU τ 1 13 0 (x + 1))) from by simp only [cDoubt, if_neg (show ¬ 0 < τ 1 13 0 by omega), hr2, sb]]; exact ⟨rfl, hw4, ((hf1.tr hf3).tr hf4), ht3, hl2⟩)
      · exfalso; revert c30; simp (disch := omega) only [zI_lt, zI_le, zI_eq, zI_lt0, zI_le0, zI_0lt, zI_0le, zI_eq0] <;> omega
  · simp (disch := omega) only [zI_lt, zI_le, zI_eq, zI_lt0, zI_le0, zI_0lt, zI_0le, zI_eq0] at c7
    refine v_run 2 (pc' := 12) (ls' := [some (.ref (ad 1)), none]) (st' := [.int (zI 3), .ref (ad 1)]) rfl ?_
    refine v_callV (My := mX3_fail) (As := [.int (zI 3)]) (rest := []) (mc := 0) (ms := 0) rfl caX3_fail rfl rfl rfl hw.1 rfl rfl (c_fail G _ (f := 3) hA hp hw ht hT hl (by decide)) rfl rfl (Nat.le_of_ble_eq_true rfl) (by omega) ?_
    rintro _ h99 ⟨rfl, hb99⟩
    refine v_run 0 (pc' := 15) (ls' := [some (.ref (ad 1)), none]) (st' := [.int (zI 0)]) rfl ?_
    exact v_iret rfl rfl rfl (by rw [show cDoubt E τ i = .inl (3, tP (eB E) (eN E) i) from by simp only [cDoubt, if_pos (show 0 < τ 1 13 0 by omega), sb]]; exact ⟨rfl, hb99⟩)

set_option maxRecDepth 100000 in
set_option maxHeartbeats 400000 in
theorem c_cEnd1 (G : ssG) (h : ssH) {ad : Nat → Nat} {po : Nat} {E : pE} {τ : sT} {i : Nat}  (hA : ∀ k l, ad k = ad l → k = l) (hp : po = 11 ∨ po = 22) (hw : PW h ad po E τ i) (ht : TOk τ) (hT : TkE E) (hl : liv (eB E) (eN E) i) (hk : 1 ≤ tK (eB E) (eN E) i) (hN : ∀ d, d < τ 5 7 0 → τ 5 9 d = 4 → τ 5 10 d < 5) : ssC G mX3_hearOutcome 2 0 0 [.ref (ad 1), .int (zI 1)] h (QP ad po E h (cEnd1 E τ i)) := by
  refine c_of_v okX3_hearOutcome (by decide +kernel) (ls := [some (.ref (ad 1)), some (.int (zI 1)), none]) rfl (Nat.le_of_ble_eq_true rfl) ?_
  obtain ⟨s1, s2, s3, s4⟩ := hT.1 i (by have := liv_le hl; have := hT.2; omega) hl
  have tk1 := kS_le (T := eB E) (n := eN E) (pos (eB E) (eN E) i)
  have tk2 := tK_le (T := eB E) (n := eN E) i
  have tk3 := tP_le (T := eB E) (n := eN E) i
  have tk4 := hT.2
  have tk5 := liv_le hl
  have hla : liv (eB E) (eN E) (i + 1) := liv_K hl hk
  have q14 : τ 1 14 0 ≤ 31 := ht 1 14 0 (by omega)
  have q15 : τ 1 15 0 ≤ 31 := ht 1 15 0 (by omega)
  have qb : τ 1 14 0 ||| τ 1 15 0 < 2 ^ 5 := Nat.or_lt_two_pow (by omega) (by omega)
  refine v_run 1 (pc' := 1) (ls' := [some (.ref (ad 1)), some (.int (zI 1)), none]) (st' := [.ref (ad 1)]) rfl ?_
  refine v_get rfl hw.1 rfl ?_
  refine v_run 0 (pc' := 4) (ls' := [some (.ref (ad 1)), some (.int (zI 1)), none]) (st' := [.ref (ad 2)]) rfl ?_
  refine v_callV (My := mX5_advance) (As := []) (rest := []) (mc := 0) (ms := 0) rfl caX5_advance rfl rfl rfl hw.2.1 rfl rfl (c_adv G _ hA hp hw hT hla) rfl rfl (Nat.le_of_ble_eq_true rfl) (by omega) ?_
  rintro _ h1 ⟨rfl, hw1, hf1⟩
  refine v_run 0 (pc' := 7) (ls' := [some (.ref (ad 1)), some (.int (zI 1)), none]) (st' := []) rfl ?_
  refine v_run 2 (pc' := 9) (ls' := [some (.ref (ad 1)), some (.int (zI 1)), none]) (st' := [.int (zI 4), .ref (ad 1)]) rfl ?_
  refine v_callV (My := mX3_toldNumber) (As := [.int (zI 4)]) (rest := []) (mc := 0) (ms := 0) rfl caX3_toldNumber rfl rfl rfl hw1.1 rfl rfl (c_told G _ (sr := 4) hA hp hw1 ht hT hla (by decide)) rfl rfl (Nat.le_of_ble_eq_true rfl) (by omega) ?_
  intro an2 h2 hq2
  rcases hr2 : cTold E τ 4 (i + 1) with e | x
  · rw [hr2] at hq2
    obtain ⟨rfl, hb2⟩ := hq2
    refine v_run 0 (pc' := 12) (ls' := [some (.ref (ad 1)), some (.int (zI 1)), none]) (st' := [.int (zI (-1))]) rfl ?_
    refine v_run 2 (pc' := 14) (ls' := [some (.ref (ad 1)), some (.int (zI 1)), some (.int (zI (-1)))]) (st' := [.int (zI (-1))]) rfl ?_
    refine v_if_ge rfl (fun c14 => ?_) (fun c14 => ?_)
    · exact absurd c14 (by decide)
    · refine v_run 1 (pc' := 18) (ls' := [some (.ref (ad 1)), some (.int (zI 1)), some (.int (zI (-1)))]) (st' := [.int (zI 0)]) rfl ?_
      exact v_iret rfl rfl rfl (by rw [show cEnd1 E τ i = .inl e from by simp only [cEnd1, hr2, sb]]; exact ⟨rfl, hb2.tr hf1⟩)
  · rw [hr2] at hq2
    obtain ⟨rfl, rfl⟩ := hq2
    obtain ⟨hl2, hk2, hd2⟩ := cTold_ok hr2 hla ht
    refine v_run 0 (pc' := 12) (ls' := [some (.ref (ad 1)), some (.int (zI 1)), none]) (st' := [.int (zI ↑x)]) rfl ?_
    refine v_run 2 (pc' := 14) (ls' := [some (.ref (ad 1)), some (.int (zI 1)), some (.int (zI ↑x))]) (st' := [.int (zI ↑x)]) rfl ?_
    refine v_if_ge rfl (fun c14 => ?_) (fun c14 => ?_)
    · simp (disch := omega) only [zI_lt, zI_le, zI_eq, zI_lt0, zI_le0, zI_0lt, zI_0le, zI_eq0] at c14
      have h5x : x < 5 := by obtain ⟨d, d1, d2, d3⟩ := hd2; rw [← d3]; exact hN d d1 d2
      refine v_run 1 (pc' := 20) (ls' := [some (.ref (ad 1)), some (.int (zI 1)), some (.int (zI ↑x))]) (st' := [.ref (ad 1)]) rfl ?_
      refine v_get rfl hw1.1 rfl ?_
      refine v_run 0 (pc' := 23) (ls' := [some (.ref (ad 1)), some (.int (zI 1)), some (.int (zI ↑x))]) (st' := [.ref (ad po)]) rfl ?_
      refine v_get rfl hw1.2.2.2.2.1.1 rfl ?_
      refine v_run 1 (pc' := 27) (ls' := [some (.ref (ad 1)), some (.int (zI 1)), some (.int (zI ↑x))]) (st' := [.ref (ad 1), .int (zI ↑(τ 1 14 0))]) rfl ?_
      refine v_get rfl hw1.1 rfl ?_
      refine v_run 0 (pc' := 30) (ls' := [some (.ref (ad 1)), some (.int (zI 1)), some (.int (zI ↑x))]) (st' := [.ref (ad po), .int (zI ↑(τ 1 14 0))]) rfl ?_
      refine v_get rfl hw1.2.2.2.2.1.1 rfl ?_
      refine v_run 1 (pc' := 34) (ls' := [some (.ref (ad 1)), some (.int (zI 1)), some (.int (zI ↑x))]) (st' := [.int ((zI ↑(τ 1 14 0)) ||| (zI ↑(τ 1 15 0)))]) rfl ?_
      rw [show (((zI ↑(τ 1 14 0)) ||| (zI ↑(τ 1 15 0))) : Int32) = zI ↑(τ 1 14 0 ||| τ 1 15 0) from zI_lor (by omega) (by omega)]
      refine v_run 5 (pc' := 39) (ls' := [some (.ref (ad 1)), some (.int (zI 1)), some (.int (zI ↑x))]) (st' := [.int (zI 1), .int (((zI ↑(τ 1 14 0 ||| τ 1 15 0)) >>> ((zI ↑x) &&& 31)) &&& (zI 1))]) rfl ?_
      refine v_icmp_ne rfl (fun c39 => ?_) (fun c39 => ?_)
      · rw [bN_zI (by omega) (by omega)] at c39
        refine v_run 1 (pc' := 49) (ls' := [some (.ref (ad 1)), some (.int (zI 1)), some (.int (zI ↑x))]) (st' := [.int (zI 1)]) rfl ?_
        refine v_if_eq rfl (fun c49 => ?_) (fun c49 => ?_)
        · exact absurd c49 (by decide)
        · refine v_run 1 (pc' := 53) (ls' := [some (.ref (ad 1)), some (.int (zI 1)), some (.int (zI ↑x))]) (st' := [.ref (ad 1)]) rfl ?_
          refine v_get rfl hw1.1 rfl ?_
          refine v_run 1 (pc' := 57) (ls' := [some (.ref (ad 1)), some (.int (zI 1)), some (.int (zI ↑x))]) (st' := [.ref (ad po), .ref (ad po)]) rfl ?_
          refine v_get rfl hw1.2.2.2.2.1.1 rfl ?_
          refine v_run 4 (pc' := 64) (ls' := [some (.ref (ad 1)), some (.int (zI 1)), some (.int (zI ↑x))]) (st' := [.int ((zI ↑(τ 1 14 0)) ||| ((zI 1) <<< ((zI ↑x) &&& 31))), .ref (ad po)]) rfl ?_
          rw [show (((zI ↑(τ 1 14 0)) ||| ((zI 1) <<< ((zI ↑x) &&& 31))) : Int32) = zI ↑(τ 1 14 0 ||| 2 ^ x) from zI_or2 (by omega) (by omega)]
          have qo : τ 1 14 0 ||| 2 ^ x < 2 ^ 5 := or_lt (by omega) (by omega)
          refine v_put rfl hw1.2.2.2.2.1.1 rfl rfl (Nat.le_of_ble_eq_true rfl) ?_
          have hw3 := hw1.plI hA hp 14 (τ 1 14 0 ||| 2 ^ x) (by omega)
          generalize e3 : hset h1 (ad po) _ = h3 at hw3 ⊢
          have hf3 : frC ad po h1 h3 := e3 ▸ frC.set (by omega) _
          have ht3 : TOk (tU τ 1 14 0 (τ 1 14 0 ||| 2 ^ x)) := ht.up (by simp [bdT] <;> omega)
          refine v_run 2 (pc' := 86) (ls' := [some (.ref (ad 1)), some (.int (zI 1)), some (.int (zI ↑x))]) (st' := [.ref (ad 1)]) rfl ?_
          refine v_get rfl hw3.1 rfl ?_
          refine v_run 0 (pc' := 89) (ls' := [some (.ref (ad 1)), some (.int (zI 1)), some (.int (zI ↑x))]) (st' := [.ref (ad 2)]) rfl ?_
          refine v_callV (My := mX5_advance) (As := []) (rest := []) (mc := 0) (ms := 0) rfl caX5_advance rfl rfl rfl hw3.2.1 rfl rfl (c_adv G _ hA hp hw3 hT hl2) rfl rfl (Nat.le_of_ble_eq_true rfl) (by omega) ?_
          rintro _ h4 ⟨rfl, hw4, hf4⟩
          refine v_run 0 (pc' := 92) (ls' := [some (.ref (ad 1)), some (.int (zI 1)), some (.int (zI ↑x))]) (st' := []) rfl ?_
          refine v_run 1 (pc' := 93) (ls' := [some (.ref (ad 1)), some (.int (zI 1)), some (.int (zI ↑x))]) (st' := [.int (zI 1)]) rfl ?_
          exact v_iret rfl rfl rfl (by rw [show cEnd1 E τ i = .inr (i + 1 + 1, (tU τ 1 14 0 (τ 1 14 0 ||| 2 ^ x))) from by simp only [cEnd1, hr2, if_neg c39, sb]]; exact ⟨rfl, hw4, ((hf1.tr hf3).tr hf4), ht3, hl2⟩)
      · rw [bN_zI (by omega) (by omega)] at c39
        refine v_run 2 (pc' := 44) (ls' := [some (.ref (ad 1)), some (.int (zI 1)), some (.int (zI ↑x))]) (st' := [.int (zI 3), .ref (ad 1)]) rfl ?_
        refine v_callV (My := mX3_fail) (As := [.int (zI 3)]) (rest := []) (mc := 0) (ms := 0) rfl caX3_fail rfl rfl rfl hw1.1 rfl rfl (c_fail G _ (f := 3) hA hp hw1 ht hT hla (by decide)) rfl rfl (Nat.le_of_ble_eq_true rfl) (by omega) ?_
        rintro _ h99 ⟨rfl, hb99⟩
        refine v_run 0 (pc' := 47) (ls' := [some (.ref (ad 1)), some (.int (zI 1)), some (.int (zI ↑x))]) (st' := [.int (zI 0)]) rfl ?_
        exact v_iret rfl rfl rfl (by rw [show cEnd1 E τ i = .inl (3, tP (eB E) (eN E) (i + 1)) from by simp only [cEnd1, hr2, if_pos c39, sb]]; exact ⟨rfl, hb99.tr hf1⟩)
    · exfalso; revert c14; simp (disch := omega) only [zI_lt, zI_le, zI_eq, zI_lt0, zI_le0, zI_0lt, zI_0le, zI_eq0] <;> omega

set_option maxRecDepth 100000 in
set_option maxHeartbeats 400000 in
theorem c_cEnd2 (G : ssG) (h : ssH) {ad : Nat → Nat} {po : Nat} {E : pE} {τ : sT} {i : Nat}  (hA : ∀ k l, ad k = ad l → k = l) (hp : po = 11 ∨ po = 22) (hw : PW h ad po E τ i) (ht : TOk τ) (hT : TkE E) (hl : liv (eB E) (eN E) i) (hk : 1 ≤ tK (eB E) (eN E) i) (hN : ∀ d, d < τ 5 7 0 → τ 5 9 d = 4 → τ 5 10 d < 5) : ssC G mX3_hearOutcome 2 0 0 [.ref (ad 1), .int (zI 0)] h (QP ad po E h (cEnd2 E τ i)) := by
  refine c_of_v okX3_hearOutcome (by decide +kernel) (ls := [some (.ref (ad 1)), some (.int (zI 0)), none]) rfl (Nat.le_of_ble_eq_true rfl) ?_
  obtain ⟨s1, s2, s3, s4⟩ := hT.1 i (by have := liv_le hl; have := hT.2; omega) hl
  have tk1 := kS_le (T := eB E) (n := eN E) (pos (eB E) (eN E) i)
  have tk2 := tK_le (T := eB E) (n := eN E) i
  have tk3 := tP_le (T := eB E) (n := eN E) i
  have tk4 := hT.2
  have tk5 := liv_le hl
  have hla : liv (eB E) (eN E) (i + 1) := liv_K hl hk
  have q14 : τ 1 14 0 ≤ 31 := ht 1 14 0 (by omega)
  have q15 : τ 1 15 0 ≤ 31 := ht 1 15 0 (by omega)
  have qb : τ 1 14 0 ||| τ 1 15 0 < 2 ^ 5 := Nat.or_lt_two_pow (by omega) (by omega)
  refine v_run 1 (pc' := 1) (ls' := [some (.ref (ad 1)), some (.int (zI 0)), none]) (st' := [.ref (ad 1)]) rfl ?_
  refine v_get rfl hw.1 rfl ?_
  refine v_run 0 (pc' := 4) (ls' := [some (.ref (ad 1)), some (.int (zI 0)), none]) (st' := [.ref (ad 2)]) rfl ?_
  refine v_callV (My := mX5_advance) (As := []) (rest := []) (mc := 0) (ms := 0) rfl caX5_advance rfl rfl rfl hw.2.1 rfl rfl (c_adv G _ hA hp hw hT hla) rfl rfl (Nat.le_of_ble_eq_true rfl) (by omega) ?_
  rintro _ h1 ⟨rfl, hw1, hf1⟩
  refine v_run 0 (pc' := 7) (ls' := [some (.ref (ad 1)), some (.int (zI 0)), none]) (st' := []) rfl ?_
  refine v_run 2 (pc' := 9) (ls' := [some (.ref (ad 1)), some (.int (zI 0)), none]) (st' := [.int (zI 4), .ref (ad 1)]) rfl ?_
  refine v_callV (My := mX3_toldNumber) (As := [.int (zI 4)]) (rest := []) (mc := 0) (ms := 0) rfl caX3_toldNumber rfl rfl rfl hw1.1 rfl rfl (c_told G _ (sr := 4) hA hp hw1 ht hT hla (by decide)) rfl rfl (Nat.le_of_ble_eq_true rfl) (by omega) ?_
  intro an2 h2 hq2
  rcases hr2 : cTold E τ 4 (i + 1) with e | x
  · rw [hr2] at hq2
    obtain ⟨rfl, hb2⟩ := hq2
    refine v_run 0 (pc' := 12) (ls' := [some (.ref (ad 1)), some (.int (zI 0)), none]) (st' := [.int (zI (-1))]) rfl ?_
    refine v_run 2 (pc' := 14) (ls' := [some (.ref (ad 1)), some (.int (zI 0)), some (.int (zI (-1)))]) (st' := [.int (zI (-1))]) rfl ?_
    refine v_if_ge rfl (fun c14 => ?_) (fun c14 => ?_)
    · exact absurd c14 (by decide)
    · refine v_run 1 (pc' := 18) (ls' := [some (.ref (ad 1)), some (.int (zI 0)), some (.int (zI (-1)))]) (st' := [.int (zI 0)]) rfl ?_
      exact v_iret rfl rfl rfl (by rw [show cEnd2 E τ i = .inl e from by simp only [cEnd2, hr2, sb]]; exact ⟨rfl, hb2.tr hf1⟩)
  · rw [hr2] at hq2
    obtain ⟨rfl, rfl⟩ := hq2
    obtain ⟨hl2, hk2, hd2⟩ := cTold_ok hr2 hla ht
    refine v_run 0 (pc' := 12) (ls' := [some (.ref (ad 1)), some (.int (zI 0)), none]) (st' := [.int (zI ↑x)]) rfl ?_
    refine v_run 2 (pc' := 14) (ls' := [some (.ref (ad 1)), some (.int (zI 0)), some (.int (zI ↑x))]) (st' := [.int (zI ↑x)]) rfl ?_
    refine v_if_ge rfl (fun c14 => ?_) (fun c14 => ?_)
    · simp (disch := omega) only [zI_lt, zI_le, zI_eq, zI_lt0, zI_le0, zI_0lt, zI_0le, zI_eq0] at c14
      have h5x : x < 5 := by obtain ⟨d, d1, d2, d3⟩ := hd2; rw [← d3]; exact hN d d1 d2
      refine v_run 1 (pc' := 20) (ls' := [some (.ref (ad 1)), some (.int (zI 0)), some (.int (zI ↑x))]) (st' := [.ref (ad 1)]) rfl ?_
      refine v_get rfl hw1.1 rfl ?_
      refine v_run 0 (pc' := 23) (ls' := [some (.ref (ad 1)), some (.int (zI 0)), some (.int (zI ↑x))]) (st' := [.ref (ad po)]) rfl ?_
      refine v_get rfl hw1.2.2.2.2.1.1 rfl ?_
      refine v_run 1 (pc' := 27) (ls' := [some (.ref (ad 1)), some (.int (zI 0)), some (.int (zI ↑x))]) (st' := [.ref (ad 1), .int (zI ↑(τ 1 14 0))]) rfl ?_
      refine v_get rfl hw1.1 rfl ?_
      refine v_run 0 (pc' := 30) (ls' := [some (.ref (ad 1)), some (.int (zI 0)), some (.int (zI ↑x))]) (st' := [.ref (ad po), .int (zI ↑(τ 1 14 0))]) rfl ?_
      refine v_get rfl hw1.2.2.2.2.1.1 rfl ?_
      refine v_run 1 (pc' := 34) (ls' := [some (.ref (ad 1)), some (.int (zI 0)), some (.int (zI ↑x))]) (st' := [.int ((zI ↑(τ 1 14 0)) ||| (zI ↑(τ 1 15 0)))]) rfl ?_
      rw [show (((zI ↑(τ 1 14 0)) ||| (zI ↑(τ 1 15 0))) : Int32) = zI ↑(τ 1 14 0 ||| τ 1 15 0) from zI_lor (by omega) (by omega)]
      refine v_run 5 (pc' := 39) (ls' := [some (.ref (ad 1)), some (.int (zI 0)), some (.int (zI ↑x))]) (st' := [.int (zI 1), .int (((zI ↑(τ 1 14 0 ||| τ 1 15 0)) >>> ((zI ↑x) &&& 31)) &&& (zI 1))]) rfl ?_
      refine v_icmp_ne rfl (fun c39 => ?_) (fun c39 => ?_)
      · rw [bN_zI (by omega) (by omega)] at c39
        refine v_run 1 (pc' := 49) (ls' := [some (.ref (ad 1)), some (.int (zI 0)), some (.int (zI ↑x))]) (st' := [.int (zI 0)]) rfl ?_
        refine v_if_eq rfl (fun c49 => ?_) (fun c49 => ?_)
        · refine v_run 1 (pc' := 71) (ls' := [some (.ref (ad 1)), some (.int (zI 0)), some (.int (zI ↑x))]) (st' := [.ref (ad 1)]) rfl ?_
          refine v_get rfl hw1.1 rfl ?_
          refine v_run 1 (pc' := 75) (ls' := [some (.ref (ad 1)), some (.int (zI 0)), some (.int (zI ↑x))]) (st' := [.ref (ad po), .ref (ad po)]) rfl ?_
          refine v_get rfl hw1.2.2.2.2.1.1 rfl ?_
          refine v_run 4 (pc' := 82) (ls' := [some (.ref (ad 1)), some (.int (zI 0)), some (.int (zI ↑x))]) (st' := [.int ((zI ↑(τ 1 15 0)) ||| ((zI 1) <<< ((zI ↑x) &&& 31))), .ref (ad po)]) rfl ?_
          rw [show (((zI ↑(τ 1 15 0)) ||| ((zI 1) <<< ((zI ↑x) &&& 31))) : Int32) = zI ↑(τ 1 15 0 ||| 2 ^ x) from zI_or2 (by omega) (by omega)]
          have qo : τ 1 15 0 ||| 2 ^ x < 2 ^ 5 := or_lt (by omega) (by omega)
          refine v_put rfl hw1.2.2.2.2.1.1 rfl rfl (Nat.le_of_ble_eq_true rfl) ?_
          have hw3 := hw1.plI hA hp 15 (τ 1 15 0 ||| 2 ^ x) (by omega)
          generalize e3 : hset h1 (ad po) _ = h3 at hw3 ⊢
          have hf3 : frC ad po h1 h3 := e3 ▸ frC.set (by omega) _
          have ht3 : TOk (tU τ 1 15 0 (τ 1 15 0 ||| 2 ^ x)) := ht.up (by simp [bdT] <;> omega)
          refine v_run 1 (pc' := 86) (ls' := [some (.ref (ad 1)), some (.int (zI 0)), some (.int (zI ↑x))]) (st' := [.ref (ad 1)]) rfl ?_
          refine v_get rfl hw3.1 rfl ?_
          refine v_run 0 (pc' := 89) (ls' := [some (.ref (ad 1)), some (.int (zI 0)), some (.int (zI ↑x))]) (st' := [.ref (ad 2)]) rfl ?_
          refine v_callV (My := mX5_advance) (As := []) (rest := []) (mc := 0) (ms := 0) rfl caX5_advance rfl rfl rfl hw3.2.1 rfl rfl (c_adv G _ hA hp hw3 hT hl2) rfl rfl (Nat.le_of_ble_eq_true rfl) (by omega) ?_
          rintro _ h4 ⟨rfl, hw4, hf4⟩
          refine v_run 0 (pc' := 92) (ls' := [some (.ref (ad 1)), some (.int (zI 0)), some (.int (zI ↑x))]) (st' := []) rfl ?_
          refine v_run 1 (pc' := 93) (ls' := [some (.ref (ad 1)), some (.int (zI 0)), some (.int (zI ↑x))]) (st' := [.int (zI 1)]) rfl ?_
          exact v_iret rfl rfl rfl (by rw [show cEnd2 E τ i = .inr (i + 1 + 1, (tU τ 1 15 0 (τ 1 15 0 ||| 2 ^ x))) from by simp only [cEnd2, hr2, if_neg c39, sb]]; exact ⟨rfl, hw4, ((hf1.tr hf3).tr hf4), ht3, hl2⟩)
        · exact absurd rfl c49
      · rw [bN_zI (by omega) (by omega)] at c39
        refine v_run 2 (pc' := 44) (ls' := [some (.ref (ad 1)), some (.int (zI 0)), some (.int (zI ↑x))]) (st' := [.int (zI 3), .ref (ad 1)]) rfl ?_
        refine v_callV (My := mX3_fail) (As := [.int (zI 3)]) (rest := []) (mc := 0) (ms := 0) rfl caX3_fail rfl rfl rfl hw1.1 rfl rfl (c_fail G _ (f := 3) hA hp hw1 ht hT hla (by decide)) rfl rfl (Nat.le_of_ble_eq_true rfl) (by omega) ?_
        rintro _ h99 ⟨rfl, hb99⟩
        refine v_run 0 (pc' := 47) (ls' := [some (.ref (ad 1)), some (.int (zI 0)), some (.int (zI ↑x))]) (st' := [.int (zI 0)]) rfl ?_
        exact v_iret rfl rfl rfl (by rw [show cEnd2 E τ i = .inl (3, tP (eB E) (eN E) (i + 1)) from by simp only [cEnd2, hr2, if_pos c39, sb]]; exact ⟨rfl, hb99.tr hf1⟩)
    · exfalso; revert c14; simp (disch := omega) only [zI_lt, zI_le, zI_eq, zI_lt0, zI_le0, zI_0lt, zI_0le, zI_eq0] <;> omega

