def cSafe (E : pE) (τ : sT) (i : Nat) : pR (Nat × sT) := if τ 5 4 0 = 1 then .inl (3, tP (eB E) (eN E) i) else sb (pNum (eB E) (eN E) 10 1 6 (i + 1)) (fun a => sb (pNum (eB E) (eN E) 11 1 9 a.1) (fun b => sb (pNum (eB E) (eN E) 12 0 100 b.1) (fun c => sb (pNum (eB E) (eN E) 13 0 9 c.1) (fun d => .inr (d.1, (tU (tU (tU (tU (tU (tU (tU (tU (tU τ 5 4 0 1) 5 5 0 a.2) 1 0 0 a.2) 5 5 0 b.2) 1 1 0 b.2) 5 5 0 c.2) 1 2 0 c.2) 5 5 0 d.2) 2 1 0 d.2))))))
set_option maxRecDepth 100000 in
set_option maxHeartbeats 400000 in
theorem c_cSafe (G : ssG) (h : ssH) {ad : Nat → Nat} {po : Nat} {E : pE} {τ : sT} {i : Nat}  (hA : ∀ k l, ad k = ad l → k = l) (hp : po = 11 ∨ po = 22) (hw : PW h ad po E τ i) (ht : TOk τ) (hT : TkE E) (hl : liv (eB E) (eN E) i) (hk : 1 ≤ tK (eB E) (eN E) i) : ssC G mX3_hearSafe 3 0 0 [.ref (ad 1)] h (QP ad po E h (cSafe E τ i)) := by
  refine c_of_v okX3_hearSafe (by decide +kernel) (ls := [some (.ref (ad 1))]) rfl (Nat.le_of_ble_eq_true rfl) ?_
  obtain ⟨s1, s2, s3, s4⟩ := hT.1 i (by have := liv_le hl; have := hT.2; omega) hl
  have tk1 := kS_le (T := eB E) (n := eN E) (pos (eB E) (eN E) i)
  have tk2 := tK_le (T := eB E) (n := eN E) i
  have tk3 := tP_le (T := eB E) (n := eN E) i
  have tk4 := hT.2
  have tk5 := liv_le hl
  have q4 : τ 5 4 0 ≤ 1 := ht 5 4 0 (by omega)
  refine v_run 1 (pc' := 1) (ls' := [some (.ref (ad 1))]) (st' := [.ref (ad 1)]) rfl ?_
  refine v_get rfl hw.1 rfl ?_
  refine v_run 0 (pc' := 4) (ls' := [some (.ref (ad 1))]) (st' := [.int (zI ↑(τ 5 4 0))]) rfl ?_
  refine v_if_eq rfl (fun c4 => ?_) (fun c4 => ?_)
  · simp (disch := omega) only [zI_lt, zI_le, zI_eq, zI_lt0, zI_le0, zI_0lt, zI_0le, zI_eq0] at c4
    refine v_run 2 (pc' := 15) (ls' := [some (.ref (ad 1))]) (st' := [.int (zI 1), .ref (ad 1)]) rfl ?_
    refine v_put rfl hw.1 rfl rfl (Nat.le_of_ble_eq_true rfl) ?_
    have hw1 := hw.pI hA hp 4 1 (by omega)
    generalize e1 : hset h (ad 1) _ = h1 at hw1 ⊢
    have hf1 : frC ad po h h1 := e1 ▸ frC.set (by omega) _
    have ht1 : TOk (tU τ 5 4 0 1) := ht.up (by simp [bdT] <;> omega)
    have hla : liv (eB E) (eN E) (i + 1) := liv_K hl hk
    refine v_run 1 (pc' := 19) (ls' := [some (.ref (ad 1))]) (st' := [.ref (ad 1)]) rfl ?_
    refine v_get rfl hw1.1 rfl ?_
    refine v_run 0 (pc' := 22) (ls' := [some (.ref (ad 1))]) (st' := [.ref (ad 2)]) rfl ?_
    refine v_callV (My := mX5_advance) (As := []) (rest := []) (mc := 0) (ms := 0) rfl caX5_advance rfl rfl rfl hw1.2.1 rfl rfl (c_adv G _ hA hp hw1 hT hla) rfl rfl (Nat.le_of_ble_eq_true rfl) (by omega) ?_
    rintro _ h2 ⟨rfl, hw2, hf2⟩
    refine v_run 0 (pc' := 25) (ls' := [some (.ref (ad 1))]) (st' := []) rfl ?_
    refine v_run 4 (pc' := 31) (ls' := [some (.ref (ad 1))]) (st' := [.int (zI 6), .int (zI 1), .int (zI 10), .ref (ad 1)]) rfl ?_
    refine v_callV (My := mX3_hearNumber) (As := [.int (zI 10), .int (zI 1), .int (zI 6)]) (rest := []) (mc := 0) (ms := 0) rfl caX3_hearNumber rfl rfl rfl hw2.1 rfl rfl (c_num G _ (k := 10) (lo := 1) (hi := 6) hA hp hw2 ht1 hT hla (by decide) (by decide) (by decide)) rfl rfl (Nat.le_of_ble_eq_true rfl) (by omega) ?_
    intro an3 h3 hq3
    rcases hr3 : pNum (eB E) (eN E) 10 1 6 (i + 1) with e | a
    · rw [hr3] at hq3
      obtain ⟨rfl, hb3⟩ := hq3
      refine v_run 0 (pc' := 34) (ls' := [some (.ref (ad 1))]) (st' := [.int (zI 0)]) rfl ?_
      refine v_if_ne rfl (fun c34 => ?_) (fun c34 => ?_)
      · exact absurd rfl c34
      · refine v_run 1 (pc' := 38) (ls' := [some (.ref (ad 1))]) (st' := [.int (zI 0)]) rfl ?_
        exact v_iret rfl rfl rfl (by rw [show cSafe E τ i = .inl e from by simp only [cSafe, if_neg (show ¬ τ 5 4 0 = 1 by omega), hr3, sb]]; exact ⟨rfl, hb3.tr (hf1.tr hf2)⟩)
    · rw [hr3] at hq3
      obtain ⟨rfl, hw3, hf3, -, -⟩ := hq3
      obtain ⟨hx3, hl3, ho3, hi3⟩ := pNum_ok hr3 hla (by decide)
      simp only at hw3
      have ht3 : TOk (tU (tU τ 5 4 0 1) 5 5 0 a.2) := ht1.up (by simp [bdT] <;> omega)
      refine v_run 0 (pc' := 34) (ls' := [some (.ref (ad 1))]) (st' := [.int (zI 1)]) rfl ?_
      refine v_if_ne rfl (fun c34 => ?_) (fun c34 => ?_)
      · refine v_run 1 (pc' := 40) (ls' := [some (.ref (ad 1))]) (st' := [.ref (ad 1)]) rfl ?_
        refine v_get rfl hw3.1 rfl ?_
        refine v_run 1 (pc' := 44) (ls' := [some (.ref (ad 1))]) (st' := [.ref (ad 1), .ref (ad po)]) rfl ?_
        refine v_get rfl hw3.1 rfl ?_
        refine v_run 0 (pc' := 47) (ls' := [some (.ref (ad 1))]) (st' := [.int (zI ↑a.2), .ref (ad po)]) rfl ?_
        refine v_put rfl hw3.2.2.2.2.1.1 rfl rfl (Nat.le_of_ble_eq_true rfl) ?_
        have hw4 := hw3.plI hA hp 0 a.2 (by omega)
        generalize e4 : hset h3 (ad po) _ = h4 at hw4 ⊢
        have hf4 : frC ad po h3 h4 := e4 ▸ frC.set (by omega) _
        have ht4 : TOk (tU (tU (tU τ 5 4 0 1) 5 5 0 a.2) 1 0 0 a.2) := ht3.up (by simp [bdT] <;> omega)
        refine v_run 4 (pc' := 56) (ls' := [some (.ref (ad 1))]) (st' := [.int (zI 9), .int (zI 1), .int (zI 11), .ref (ad 1)]) rfl ?_
        refine v_callV (My := mX3_hearNumber) (As := [.int (zI 11), .int (zI 1), .int (zI 9)]) (rest := []) (mc := 0) (ms := 0) rfl caX3_hearNumber rfl rfl rfl hw4.1 rfl rfl (c_num G _ (k := 11) (lo := 1) (hi := 9) hA hp hw4 ht4 hT (hx3 ▸ hl3) (by decide) (by decide) (by decide)) rfl rfl (Nat.le_of_ble_eq_true rfl) (by omega) ?_
        intro an5 h5 hq5
        rcases hr5 : pNum (eB E) (eN E) 11 1 9 a.1 with e | b
        · rw [hr5] at hq5
          obtain ⟨rfl, hb5⟩ := hq5
          refine v_run 0 (pc' := 59) (ls' := [some (.ref (ad 1))]) (st' := [.int (zI 0)]) rfl ?_
          refine v_if_ne rfl (fun c59 => ?_) (fun c59 => ?_)
          · exact absurd rfl c59
          · refine v_run 1 (pc' := 63) (ls' := [some (.ref (ad 1))]) (st' := [.int (zI 0)]) rfl ?_
            exact v_iret rfl rfl rfl (by rw [show cSafe E τ i = .inl e from by simp only [cSafe, if_neg (show ¬ τ 5 4 0 = 1 by omega), hr3, hr5, sb]]; exact ⟨rfl, hb5.tr (((hf1.tr hf2).tr hf3).tr hf4)⟩)
        · rw [hr5] at hq5
          obtain ⟨rfl, hw5, hf5, -, -⟩ := hq5
          obtain ⟨hx5, hl5, ho5, hi5⟩ := pNum_ok hr5 (hx3 ▸ hl3) (by decide)
          simp only at hw5
          have ht5 : TOk (tU (tU (tU (tU τ 5 4 0 1) 5 5 0 a.2) 1 0 0 a.2) 5 5 0 b.2) := ht4.up (by simp [bdT] <;> omega)
          refine v_run 0 (pc' := 59) (ls' := [some (.ref (ad 1))]) (st' := [.int (zI 1)]) rfl ?_
          refine v_if_ne rfl (fun c59 => ?_) (fun c59 => ?_)
          · refine v_run 1 (pc' := 65) (ls' := [some (.ref (ad 1))]) (st' := [.ref (ad 1)]) rfl ?_
            refine v_get rfl hw5.1 rfl ?_
            refine v_run 1 (pc' := 69) (ls' := [some (.ref (ad 1))]) (st' := [.ref (ad 1), .ref (ad po)]) rfl ?_
            refine v_get rfl hw5.1 rfl ?_
            refine v_run 0 (pc' := 72) (ls' := [some (.ref (ad 1))]) (st' := [.int (zI ↑b.2), .ref (ad po)]) rfl ?_
            refine v_put rfl hw5.2.2.2.2.1.1 rfl rfl (Nat.le_of_ble_eq_true rfl) ?_
            have hw6 := hw5.plI hA hp 1 b.2 (by omega)
            generalize e6 : hset h5 (ad po) _ = h6 at hw6 ⊢
            have hf6 : frC ad po h5 h6 := e6 ▸ frC.set (by omega) _
            have ht6 : TOk (tU (tU (tU (tU (tU τ 5 4 0 1) 5 5 0 a.2) 1 0 0 a.2) 5 5 0 b.2) 1 1 0 b.2) := ht5.up (by simp [bdT] <;> omega)
            refine v_run 4 (pc' := 81) (ls' := [some (.ref (ad 1))]) (st' := [.int (zI 100), .int (zI 0), .int (zI 12), .ref (ad 1)]) rfl ?_
            refine v_callV (My := mX3_hearNumber) (As := [.int (zI 12), .int (zI 0), .int (zI 100)]) (rest := []) (mc := 0) (ms := 0) rfl caX3_hearNumber rfl rfl rfl hw6.1 rfl rfl (c_num G _ (k := 12) (lo := 0) (hi := 100) hA hp hw6 ht6 hT (hx5 ▸ hl5) (by decide) (by decide) (by decide)) rfl rfl (Nat.le_of_ble_eq_true rfl) (by omega) ?_
            intro an7 h7 hq7
            rcases hr7 : pNum (eB E) (eN E) 12 0 100 b.1 with e | c
            · rw [hr7] at hq7
              obtain ⟨rfl, hb7⟩ := hq7
              refine v_run 0 (pc' := 84) (ls' := [some (.ref (ad 1))]) (st' := [.int (zI 0)]) rfl ?_
              refine v_if_ne rfl (fun c84 => ?_) (fun c84 => ?_)
              · exact absurd rfl c84
              · refine v_run 1 (pc' := 88) (ls' := [some (.ref (ad 1))]) (st' := [.int (zI 0)]) rfl ?_
                exact v_iret rfl rfl rfl (by rw [show cSafe E τ i = .inl e from by simp only [cSafe, if_neg (show ¬ τ 5 4 0 = 1 by omega), hr3, hr5, hr7, sb]]; exact ⟨rfl, hb7.tr (((((hf1.tr hf2).tr hf3).tr hf4).tr hf5).tr hf6)⟩)
            · rw [hr7] at hq7
              obtain ⟨rfl, hw7, hf7, -, -⟩ := hq7
              obtain ⟨hx7, hl7, ho7, hi7⟩ := pNum_ok hr7 (hx5 ▸ hl5) (by decide)
              simp only at hw7
              have ht7 : TOk (tU (tU (tU (tU (tU (tU τ 5 4 0 1) 5 5 0 a.2) 1 0 0 a.2) 5 5 0 b.2) 1 1 0 b.2) 5 5 0 c.2) := ht6.up (by simp [bdT] <;> omega)
              refine v_run 0 (pc' := 84) (ls' := [some (.ref (ad 1))]) (st' := [.int (zI 1)]) rfl ?_
              refine v_if_ne rfl (fun c84 => ?_) (fun c84 => ?_)
              · refine v_run 1 (pc' := 90) (ls' := [some (.ref (ad 1))]) (st' := [.ref (ad 1)]) rfl ?_
                refine v_get rfl hw7.1 rfl ?_
                refine v_run 1 (pc' := 94) (ls' := [some (.ref (ad 1))]) (st' := [.ref (ad 1), .ref (ad po)]) rfl ?_
                refine v_get rfl hw7.1 rfl ?_
                refine v_run 0 (pc' := 97) (ls' := [some (.ref (ad 1))]) (st' := [.int (zI ↑c.2), .ref (ad po)]) rfl ?_
                refine v_put rfl hw7.2.2.2.2.1.1 rfl rfl (Nat.le_of_ble_eq_true rfl) ?_
                have hw8 := hw7.plI hA hp 2 c.2 (by omega)
                generalize e8 : hset h7 (ad po) _ = h8 at hw8 ⊢
                have hf8 : frC ad po h7 h8 := e8 ▸ frC.set (by omega) _
                have ht8 : TOk (tU (tU (tU (tU (tU (tU (tU τ 5 4 0 1) 5 5 0 a.2) 1 0 0 a.2) 5 5 0 b.2) 1 1 0 b.2) 5 5 0 c.2) 1 2 0 c.2) := ht7.up (by simp [bdT] <;> omega)
                refine v_run 4 (pc' := 106) (ls' := [some (.ref (ad 1))]) (st' := [.int (zI 9), .int (zI 0), .int (zI 13), .ref (ad 1)]) rfl ?_
                refine v_callV (My := mX3_hearNumber) (As := [.int (zI 13), .int (zI 0), .int (zI 9)]) (rest := []) (mc := 0) (ms := 0) rfl caX3_hearNumber rfl rfl rfl hw8.1 rfl rfl (c_num G _ (k := 13) (lo := 0) (hi := 9) hA hp hw8 ht8 hT (hx7 ▸ hl7) (by decide) (by decide) (by decide)) rfl rfl (Nat.le_of_ble_eq_true rfl) (by omega) ?_
                intro an9 h9 hq9
                rcases hr9 : pNum (eB E) (eN E) 13 0 9 c.1 with e | d
                · rw [hr9] at hq9
                  obtain ⟨rfl, hb9⟩ := hq9
                  refine v_run 0 (pc' := 109) (ls' := [some (.ref (ad 1))]) (st' := [.int (zI 0)]) rfl ?_
                  refine v_if_ne rfl (fun c109 => ?_) (fun c109 => ?_)
                  · exact absurd rfl c109
                  · refine v_run 1 (pc' := 113) (ls' := [some (.ref (ad 1))]) (st' := [.int (zI 0)]) rfl ?_
                    exact v_iret rfl rfl rfl (by rw [show cSafe E τ i = .inl e from by simp only [cSafe, if_neg (show ¬ τ 5 4 0 = 1 by omega), hr3, hr5, hr7, hr9, sb]]; exact ⟨rfl, hb9.tr (((((((hf1.tr hf2).tr hf3).tr hf4).tr hf5).tr hf6).tr hf7).tr hf8)⟩)
                · rw [hr9] at hq9
                  obtain ⟨rfl, hw9, hf9, -, -⟩ := hq9
                  obtain ⟨hx9, hl9, ho9, hi9⟩ := pNum_ok hr9 (hx7 ▸ hl7) (by decide)
                  simp only at hw9
                  have ht9 : TOk (tU (tU (tU (tU (tU (tU (tU (tU τ 5 4 0 1) 5 5 0 a.2) 1 0 0 a.2) 5 5 0 b.2) 1 1 0 b.2) 5 5 0 c.2) 1 2 0 c.2) 5 5 0 d.2) := ht8.up (by simp [bdT] <;> omega)
                  refine v_run 0 (pc' := 109) (ls' := [some (.ref (ad 1))]) (st' := [.int (zI 1)]) rfl ?_
                  refine v_if_ne rfl (fun c109 => ?_) (fun c109 => ?_)
                  · refine v_run 1 (pc' := 115) (ls' := [some (.ref (ad 1))]) (st' := [.ref (ad 1)]) rfl ?_
                    refine v_get rfl hw9.1 rfl ?_
                    refine v_run 0 (pc' := 118) (ls' := [some (.ref (ad 1))]) (st' := [.ref (ad po)]) rfl ?_
                    refine v_get rfl hw9.2.2.2.2.1.1 rfl ?_
                    refine v_run 1 (pc' := 122) (ls' := [some (.ref (ad 1))]) (st' := [.ref (ad 1), .ref (ad (po + 6))]) rfl ?_
                    refine v_get rfl hw9.1 rfl ?_
                    refine v_run 0 (pc' := 125) (ls' := [some (.ref (ad 1))]) (st' := [.int (zI ↑d.2), .ref (ad (po + 6))]) rfl ?_
                    refine v_put rfl hw9.2.2.2.2.2.1 rfl rfl (Nat.le_of_ble_eq_true rfl) ?_
                    have hw10 := hw9.mI hA hp d.2
                    generalize e10 : hset h9 (ad (po + 6)) _ = h10 at hw10 ⊢
                    have hf10 : frC ad po h9 h10 := e10 ▸ frC.set (by omega) _
                    have ht10 : TOk (tU (tU (tU (tU (tU (tU (tU (tU (tU τ 5 4 0 1) 5 5 0 a.2) 1 0 0 a.2) 5 5 0 b.2) 1 1 0 b.2) 5 5 0 c.2) 1 2 0 c.2) 5 5 0 d.2) 2 1 0 d.2) := ht9.up (by simp [bdT] <;> omega)
                    refine v_run 1 (pc' := 129) (ls' := [some (.ref (ad 1))]) (st' := [.int (zI 1)]) rfl ?_
                    exact v_iret rfl rfl rfl (by rw [show cSafe E τ i = .inr (d.1, (tU (tU (tU (tU (tU (tU (tU (tU (tU τ 5 4 0 1) 5 5 0 a.2) 1 0 0 a.2) 5 5 0 b.2) 1 1 0 b.2) 5 5 0 c.2) 1 2 0 c.2) 5 5 0 d.2) 2 1 0 d.2)) from by simp only [cSafe, if_neg (show ¬ τ 5 4 0 = 1 by omega), hr3, hr5, hr7, hr9, sb]]; exact ⟨rfl, hw10, (((((((((hf1.tr hf2).tr hf3).tr hf4).tr hf5).tr hf6).tr hf7).tr hf8).tr hf9).tr hf10), ht10, (hx9 ▸ hl9)⟩)
                  · exact absurd c109 (by decide)
              · exact absurd c84 (by decide)
          · exact absurd c59 (by decide)
      · exact absurd c34 (by decide)
  · simp (disch := omega) only [zI_lt, zI_le, zI_eq, zI_lt0, zI_le0, zI_0lt, zI_0le, zI_eq0] at c4
    refine v_run 2 (pc' := 9) (ls' := [some (.ref (ad 1))]) (st' := [.int (zI 3), .ref (ad 1)]) rfl ?_
    refine v_callV (My := mX3_fail) (As := [.int (zI 3)]) (rest := []) (mc := 0) (ms := 0) rfl caX3_fail rfl rfl rfl hw.1 rfl rfl (c_fail G _ (f := 3) hA hp hw ht hT hl (by decide)) rfl rfl (Nat.le_of_ble_eq_true rfl) (by omega) ?_
    rintro _ h99 ⟨rfl, hb99⟩
    refine v_run 0 (pc' := 12) (ls' := [some (.ref (ad 1))]) (st' := [.int (zI 0)]) rfl ?_
    exact v_iret rfl rfl rfl (by rw [show cSafe E τ i = .inl (3, tP (eB E) (eN E) i) from by simp only [cSafe, if_pos (show τ 5 4 0 = 1 by omega), sb]]; exact ⟨rfl, hb99⟩)

