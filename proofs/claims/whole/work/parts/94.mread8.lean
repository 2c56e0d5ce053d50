def GA (ad : Nat → Nat) (sv : Value) (m : Nat → Int) (B : Nat → Int) (n : Nat) (h : ssH) : pR zT → Option Value → ssH → Prop
  | .inl e, a, h' => a = none ∧ ∃ m' ζ, MRd h' ad sv m' B n ζ (.inl e) ∧ mKp m m' ∧ frN ad h h'
  | .inr ζ, a, h' => a = none ∧ hzR ζ ∧ ¬ ζ 5 0 = 0 ∧ ∃ m' j, MRd h' ad sv m' B n ζ (.inr j) ∧ mKp m m' ∧ frN ad h h'
set_option maxRecDepth 100000 in
set_option maxHeartbeats 400000 in
theorem g_line (G : ssG) (h : ssH) {ad : Nat → Nat} {sv : Value} {m : Nat → Int} {B : Nat → Int} {n : Nat} {ζ : zT} {i : Nat}  (hA : ∀ k l, ad k = ad l → k = l) (hB : ∀ k, -128 ≤ B k ∧ B k ≤ 127) (hn : n ≤ 900) (hm : MRd h ad sv m B n ζ (.inr i)) (hzo : zOk ζ)  : ssC G mX10_readLine 10 0 0 [.ref (ad 200)] h (GL ad sv m B n ζ (line B n ζ i) h) := by
  refine c_of_v okX10_readLine (by decide +kernel) (ls := [some (.ref (ad 200))]) rfl (Nat.le_of_ble_eq_true rfl) ?_
  obtain ⟨⟨z0, z1, z2, z3, z4, z5, z6, z7, z8, z9, z11⟩, ⟨r12, r13, r14, r15, r16, r17, r18, r19, r20⟩, ⟨n1, n2, n3, n4⟩, zd, ze⟩ := id hzo
  have h11 : ζ 11 0 ≤ 17 := by omega
  refine v_run 1 (pc' := 1) (ls' := [some (.ref (ad 200))]) (st' := [.ref (ad 200)]) rfl ?_
  refine v_ldcS rfl ?_
  refine v_run 0 (pc' := 3) (ls' := [some (.ref (ad 200))]) (st' := [.ref (gK G 0), .ref (ad 200)]) rfl ?_
  refine v_callV (My := mX10_isWord) (As := [.ref (gK G 0)]) (rest := []) (mc := 0) (ms := 0) rfl caX10_isWord rfl rfl rfl hm.1 rfl rfl (g_isWord G _ (q := 1) hA hB hn hm (by decide)) rfl rfl (Nat.le_of_ble_eq_true rfl) (by omega) ?_
  rintro _ _ ⟨rfl, rfl⟩
  refine v_run 0 (pc' := 6) (ls' := [some (.ref (ad 200))]) (st' := [.int (zb (isU B n 1 (.inr i)))]) rfl ?_
  refine v_if_eq rfl (fun c6 => ?_) (fun c6 => ?_)
  · rw [zb_n] at c6
    have ek1 : ¬ tK B n i = 1 := of_decide_eq_false c6
    refine v_run 1 (pc' := 17) (ls' := [some (.ref (ad 200))]) (st' := [.ref (ad 200)]) rfl ?_
    refine v_ldcS rfl ?_
    refine v_run 0 (pc' := 19) (ls' := [some (.ref (ad 200))]) (st' := [.ref (gK G 1), .ref (ad 200)]) rfl ?_
    refine v_callV (My := mX10_isWord) (As := [.ref (gK G 1)]) (rest := []) (mc := 0) (ms := 0) rfl caX10_isWord rfl rfl rfl hm.1 rfl rfl (g_isWord G _ (q := 2) hA hB hn hm (by decide)) rfl rfl (Nat.le_of_ble_eq_true rfl) (by omega) ?_
    rintro _ _ ⟨rfl, rfl⟩
    refine v_run 0 (pc' := 22) (ls' := [some (.ref (ad 200))]) (st' := [.int (zb (isU B n 2 (.inr i)))]) rfl ?_
    refine v_if_eq rfl (fun c22 => ?_) (fun c22 => ?_)
    · rw [zb_n] at c22
      have ek2 : ¬ tK B n i = 2 := of_decide_eq_false c22
      refine v_run 1 (pc' := 33) (ls' := [some (.ref (ad 200))]) (st' := [.ref (ad 200)]) rfl ?_
      refine v_ldcS rfl ?_
      refine v_run 0 (pc' := 35) (ls' := [some (.ref (ad 200))]) (st' := [.ref (gK G 2), .ref (ad 200)]) rfl ?_
      refine v_callV (My := mX10_isWord) (As := [.ref (gK G 2)]) (rest := []) (mc := 0) (ms := 0) rfl caX10_isWord rfl rfl rfl hm.1 rfl rfl (g_isWord G _ (q := 3) hA hB hn hm (by decide)) rfl rfl (Nat.le_of_ble_eq_true rfl) (by omega) ?_
      rintro _ _ ⟨rfl, rfl⟩
      refine v_run 0 (pc' := 38) (ls' := [some (.ref (ad 200))]) (st' := [.int (zb (isU B n 3 (.inr i)))]) rfl ?_
      refine v_if_eq rfl (fun c38 => ?_) (fun c38 => ?_)
      · rw [zb_n] at c38
        have ek3 : ¬ tK B n i = 3 := of_decide_eq_false c38
        refine v_run 1 (pc' := 49) (ls' := [some (.ref (ad 200))]) (st' := [.ref (ad 200)]) rfl ?_
        refine v_ldcS rfl ?_
        refine v_run 0 (pc' := 51) (ls' := [some (.ref (ad 200))]) (st' := [.ref (gK G 3), .ref (ad 200)]) rfl ?_
        refine v_callV (My := mX10_isWord) (As := [.ref (gK G 3)]) (rest := []) (mc := 0) (ms := 0) rfl caX10_isWord rfl rfl rfl hm.1 rfl rfl (g_isWord G _ (q := 4) hA hB hn hm (by decide)) rfl rfl (Nat.le_of_ble_eq_true rfl) (by omega) ?_
        rintro _ _ ⟨rfl, rfl⟩
        refine v_run 0 (pc' := 54) (ls' := [some (.ref (ad 200))]) (st' := [.int (zb (isU B n 4 (.inr i)))]) rfl ?_
        refine v_if_eq rfl (fun c54 => ?_) (fun c54 => ?_)
        · rw [zb_n] at c54
          have ek4 : ¬ tK B n i = 4 := of_decide_eq_false c54
          refine v_run 1 (pc' := 65) (ls' := [some (.ref (ad 200))]) (st' := [.ref (ad 200)]) rfl ?_
          refine v_ldcS rfl ?_
          refine v_run 0 (pc' := 67) (ls' := [some (.ref (ad 200))]) (st' := [.ref (gK G 4), .ref (ad 200)]) rfl ?_
          refine v_callV (My := mX10_isWord) (As := [.ref (gK G 4)]) (rest := []) (mc := 0) (ms := 0) rfl caX10_isWord rfl rfl rfl hm.1 rfl rfl (g_isWord G _ (q := 5) hA hB hn hm (by decide)) rfl rfl (Nat.le_of_ble_eq_true rfl) (by omega) ?_
          rintro _ _ ⟨rfl, rfl⟩
          refine v_run 0 (pc' := 70) (ls' := [some (.ref (ad 200))]) (st' := [.int (zb (isU B n 5 (.inr i)))]) rfl ?_
          refine v_if_eq rfl (fun c70 => ?_) (fun c70 => ?_)
          · rw [zb_n] at c70
            have ek5 : ¬ tK B n i = 5 := of_decide_eq_false c70
            refine v_run 1 (pc' := 81) (ls' := [some (.ref (ad 200))]) (st' := [.ref (ad 200)]) rfl ?_
            refine v_ldcS rfl ?_
            refine v_run 0 (pc' := 83) (ls' := [some (.ref (ad 200))]) (st' := [.ref (gK G 5), .ref (ad 200)]) rfl ?_
            refine v_callV (My := mX10_isWord) (As := [.ref (gK G 5)]) (rest := []) (mc := 0) (ms := 0) rfl caX10_isWord rfl rfl rfl hm.1 rfl rfl (g_isWord G _ (q := 6) hA hB hn hm (by decide)) rfl rfl (Nat.le_of_ble_eq_true rfl) (by omega) ?_
            rintro _ _ ⟨rfl, rfl⟩
            refine v_run 0 (pc' := 86) (ls' := [some (.ref (ad 200))]) (st' := [.int (zb (isU B n 6 (.inr i)))]) rfl ?_
            refine v_if_eq rfl (fun c86 => ?_) (fun c86 => ?_)
            · rw [zb_n] at c86
              have ek6 : ¬ tK B n i = 6 := of_decide_eq_false c86
              refine v_run 1 (pc' := 97) (ls' := [some (.ref (ad 200))]) (st' := [.ref (ad 200)]) rfl ?_
              refine v_ldcS rfl ?_
              refine v_run 0 (pc' := 99) (ls' := [some (.ref (ad 200))]) (st' := [.ref (gK G 6), .ref (ad 200)]) rfl ?_
              refine v_callV (My := mX10_isWord) (As := [.ref (gK G 6)]) (rest := []) (mc := 0) (ms := 0) rfl caX10_isWord rfl rfl rfl hm.1 rfl rfl (g_isWord G _ (q := 7) hA hB hn hm (by decide)) rfl rfl (Nat.le_of_ble_eq_true rfl) (by omega) ?_
              rintro _ _ ⟨rfl, rfl⟩
              refine v_run 0 (pc' := 102) (ls' := [some (.ref (ad 200))]) (st' := [.int (zb (isU B n 7 (.inr i)))]) rfl ?_
              refine v_if_eq rfl (fun c102 => ?_) (fun c102 => ?_)
              · rw [zb_n] at c102
                have ek7 : ¬ tK B n i = 7 := of_decide_eq_false c102
                refine v_run 1 (pc' := 113) (ls' := [some (.ref (ad 200))]) (st' := [.ref (ad 200)]) rfl ?_
                refine v_ldcS rfl ?_
                refine v_run 0 (pc' := 115) (ls' := [some (.ref (ad 200))]) (st' := [.ref (gK G 7), .ref (ad 200)]) rfl ?_
                refine v_callV (My := mX10_isWord) (As := [.ref (gK G 7)]) (rest := []) (mc := 0) (ms := 0) rfl caX10_isWord rfl rfl rfl hm.1 rfl rfl (g_isWord G _ (q := 8) hA hB hn hm (by decide)) rfl rfl (Nat.le_of_ble_eq_true rfl) (by omega) ?_
                rintro _ _ ⟨rfl, rfl⟩
                refine v_run 0 (pc' := 118) (ls' := [some (.ref (ad 200))]) (st' := [.int (zb (isU B n 8 (.inr i)))]) rfl ?_
                refine v_if_eq rfl (fun c118 => ?_) (fun c118 => ?_)
                · rw [zb_n] at c118
                  have ek8 : ¬ tK B n i = 8 := of_decide_eq_false c118
                  refine v_run 1 (pc' := 130) (ls' := [some (.ref (ad 200))]) (st' := [.ref (ad 200)]) rfl ?_
                  refine v_ldcS rfl ?_
                  refine v_run 0 (pc' := 132) (ls' := [some (.ref (ad 200))]) (st' := [.ref (gK G 8), .ref (ad 200)]) rfl ?_
                  refine v_callV (My := mX10_isWord) (As := [.ref (gK G 8)]) (rest := []) (mc := 0) (ms := 0) rfl caX10_isWord rfl rfl rfl hm.1 rfl rfl (g_isWord G _ (q := 9) hA hB hn hm (by decide)) rfl rfl (Nat.le_of_ble_eq_true rfl) (by omega) ?_
                  rintro _ _ ⟨rfl, rfl⟩
                  refine v_run 0 (pc' := 135) (ls' := [some (.ref (ad 200))]) (st' := [.int (zb (isU B n 9 (.inr i)))]) rfl ?_
                  refine v_if_eq rfl (fun c135 => ?_) (fun c135 => ?_)
                  · rw [zb_n] at c135
                    have ek9 : ¬ tK B n i = 9 := of_decide_eq_false c135
                    rw [show line B n ζ i = .inl (1, tP B n i) from if_pos (by omega)]
                    refine v_run 2 (pc' := 148) (ls' := [some (.ref (ad 200))]) (st' := [.int (zI 1), .ref (ad 200)]) rfl ?_
                    refine v_callV (My := mX10_flaw) (As := [.int (zI 1)]) (rest := []) (mc := 0) (ms := 0) rfl caX10_flaw rfl rfl rfl hm.1 rfl rfl (g_flaw G _ (f := 1) hA hB hn hm) rfl rfl (Nat.le_of_ble_eq_true rfl) (by omega) ?_
                    rintro _ h1 ⟨rfl, m1, hm1, hk1, hf1⟩
                    refine v_run 0 (pc' := 151) (ls' := [some (.ref (ad 200))]) (st' := []) rfl ?_
                    exact v_vret rfl rfl ⟨rfl, m1, hm1, hk1, hf1⟩
                  · rw [zb_n, Bool.not_eq_false] at c135
                    rw [line_q 9 (of_decide_eq_true c135)]
                    refine v_run 2 (pc' := 140) (ls' := [some (.ref (ad 200))]) (st' := [.int (zI 2), .ref (ad 200)]) rfl ?_
                    refine v_callV (My := mX10_readEnd) (As := [.int (zI 2)]) (rest := []) (mc := 0) (ms := 0) rfl caX10_readEnd rfl rfl rfl hm.1 rfl rfl (g_lEnd G _ hA hB hn hm hzo (q := 2) (by decide)) rfl rfl (Nat.le_of_ble_eq_true rfl) (by omega) ?_
                    rintro _ h1 ⟨rfl, m1, hm1, hk1, hf1⟩
                    refine v_run 0 (pc' := 143) (ls' := [some (.ref (ad 200))]) (st' := []) rfl ?_
                    refine v_run 1 (pc' := 151) (ls' := [some (.ref (ad 200))]) (st' := []) rfl ?_
                    exact v_vret rfl rfl ⟨rfl, m1, hm1, hk1, hf1⟩
                · rw [zb_n, Bool.not_eq_false] at c118
                  rw [line_q 8 (of_decide_eq_true c118)]
                  refine v_run 2 (pc' := 123) (ls' := [some (.ref (ad 200))]) (st' := [.int (zI 1), .ref (ad 200)]) rfl ?_
                  refine v_callV (My := mX10_readEnd) (As := [.int (zI 1)]) (rest := []) (mc := 0) (ms := 0) rfl caX10_readEnd rfl rfl rfl hm.1 rfl rfl (g_lEnd G _ hA hB hn hm hzo (q := 1) (by decide)) rfl rfl (Nat.le_of_ble_eq_true rfl) (by omega) ?_
                  rintro _ h1 ⟨rfl, m1, hm1, hk1, hf1⟩
                  refine v_run 0 (pc' := 126) (ls' := [some (.ref (ad 200))]) (st' := []) rfl ?_
                  refine v_run 1 (pc' := 151) (ls' := [some (.ref (ad 200))]) (st' := []) rfl ?_
                  exact v_vret rfl rfl ⟨rfl, m1, hm1, hk1, hf1⟩
              · rw [zb_n, Bool.not_eq_false] at c102
                rw [line_q 7 (of_decide_eq_true c102)]
                refine v_run 1 (pc' := 106) (ls' := [some (.ref (ad 200))]) (st' := [.ref (ad 200)]) rfl ?_
                refine v_callV (My := mX10_readDoubted) (As := []) (rest := []) (mc := 0) (ms := 0) rfl caX10_readDoubted rfl rfl rfl hm.1 rfl rfl (g_lDoubt G _ hA hB hn hm hzo) rfl rfl (Nat.le_of_ble_eq_true rfl) (by omega) ?_
                rintro _ h1 ⟨rfl, m1, hm1, hk1, hf1⟩
                refine v_run 0 (pc' := 109) (ls' := [some (.ref (ad 200))]) (st' := []) rfl ?_
                refine v_run 1 (pc' := 151) (ls' := [some (.ref (ad 200))]) (st' := []) rfl ?_
                exact v_vret rfl rfl ⟨rfl, m1, hm1, hk1, hf1⟩
            · rw [zb_n, Bool.not_eq_false] at c86
              rw [line_q 6 (of_decide_eq_true c86)]
              refine v_run 1 (pc' := 90) (ls' := [some (.ref (ad 200))]) (st' := [.ref (ad 200)]) rfl ?_
              refine v_callV (My := mX10_readRests) (As := []) (rest := []) (mc := 0) (ms := 0) rfl caX10_readRests rfl rfl rfl hm.1 rfl rfl (g_lRests G _ hA hB hn hm hzo) rfl rfl (Nat.le_of_ble_eq_true rfl) (by omega) ?_
              rintro _ h1 ⟨rfl, m1, hm1, hk1, hf1⟩
              refine v_run 0 (pc' := 93) (ls' := [some (.ref (ad 200))]) (st' := []) rfl ?_
              refine v_run 1 (pc' := 151) (ls' := [some (.ref (ad 200))]) (st' := []) rfl ?_
              exact v_vret rfl rfl ⟨rfl, m1, hm1, hk1, hf1⟩
          · rw [zb_n, Bool.not_eq_false] at c70
            rw [line_q 5 (of_decide_eq_true c70)]
            refine v_run 1 (pc' := 74) (ls' := [some (.ref (ad 200))]) (st' := [.ref (ad 200)]) rfl ?_
            refine v_callV (My := mX10_readFor) (As := []) (rest := []) (mc := 0) (ms := 0) rfl caX10_readFor rfl rfl rfl hm.1 rfl rfl (g_lFor G _ hA hB hn hm hzo) rfl rfl (Nat.le_of_ble_eq_true rfl) (by omega) ?_
            rintro _ h1 ⟨rfl, m1, hm1, hk1, hf1⟩
            refine v_run 0 (pc' := 77) (ls' := [some (.ref (ad 200))]) (st' := []) rfl ?_
            refine v_run 1 (pc' := 151) (ls' := [some (.ref (ad 200))]) (st' := []) rfl ?_
            exact v_vret rfl rfl ⟨rfl, m1, hm1, hk1, hf1⟩
        · rw [zb_n, Bool.not_eq_false] at c54
          rw [line_q 4 (of_decide_eq_true c54)]
          refine v_run 1 (pc' := 58) (ls' := [some (.ref (ad 200))]) (st' := [.ref (ad 200)]) rfl ?_
          refine v_callV (My := mX10_readAct) (As := []) (rest := []) (mc := 0) (ms := 0) rfl caX10_readAct rfl rfl rfl hm.1 rfl rfl (g_lAct G _ hA hB hn hm hzo) rfl rfl (Nat.le_of_ble_eq_true rfl) (by omega) ?_
          rintro _ h1 ⟨rfl, m1, hm1, hk1, hf1⟩
          refine v_run 0 (pc' := 61) (ls' := [some (.ref (ad 200))]) (st' := []) rfl ?_
          refine v_run 1 (pc' := 151) (ls' := [some (.ref (ad 200))]) (st' := []) rfl ?_
          exact v_vret rfl rfl ⟨rfl, m1, hm1, hk1, hf1⟩
      · rw [zb_n, Bool.not_eq_false] at c38
        rw [line_q 3 (of_decide_eq_true c38)]
        refine v_run 1 (pc' := 42) (ls' := [some (.ref (ad 200))]) (st' := [.ref (ad 200)]) rfl ?_
        refine v_callV (My := mX10_readSenator) (As := []) (rest := []) (mc := 0) (ms := 0) rfl caX10_readSenator rfl rfl rfl hm.1 rfl rfl (g_lSen G _ hA hB hn hm hzo) rfl rfl (Nat.le_of_ble_eq_true rfl) (by omega) ?_
        rintro _ h1 ⟨rfl, m1, hm1, hk1, hf1⟩
        refine v_run 0 (pc' := 45) (ls' := [some (.ref (ad 200))]) (st' := []) rfl ?_
        refine v_run 1 (pc' := 151) (ls' := [some (.ref (ad 200))]) (st' := []) rfl ?_
        exact v_vret rfl rfl ⟨rfl, m1, hm1, hk1, hf1⟩
    · rw [zb_n, Bool.not_eq_false] at c22
      rw [line_q 2 (of_decide_eq_true c22)]
      refine v_run 1 (pc' := 26) (ls' := [some (.ref (ad 200))]) (st' := [.ref (ad 200)]) rfl ?_
      refine v_callV (My := mX10_readHook) (As := []) (rest := []) (mc := 0) (ms := 0) rfl caX10_readHook rfl rfl rfl hm.1 rfl rfl (g_lHook G _ hA hB hn hm hzo) rfl rfl (Nat.le_of_ble_eq_true rfl) (by omega) ?_
      rintro _ h1 ⟨rfl, m1, hm1, hk1, hf1⟩
      refine v_run 0 (pc' := 29) (ls' := [some (.ref (ad 200))]) (st' := []) rfl ?_
      refine v_run 1 (pc' := 151) (ls' := [some (.ref (ad 200))]) (st' := []) rfl ?_
      exact v_vret rfl rfl ⟨rfl, m1, hm1, hk1, hf1⟩
  · rw [zb_n, Bool.not_eq_false] at c6
    rw [line_q 1 (of_decide_eq_true c6)]
    refine v_run 1 (pc' := 10) (ls' := [some (.ref (ad 200))]) (st' := [.ref (ad 200)]) rfl ?_
    refine v_callV (My := mX10_readSafe) (As := []) (rest := []) (mc := 0) (ms := 0) rfl caX10_readSafe rfl rfl rfl hm.1 rfl rfl (g_lSafe G _ hA hB hn hm hzo) rfl rfl (Nat.le_of_ble_eq_true rfl) (by omega) ?_
    rintro _ h1 ⟨rfl, m1, hm1, hk1, hf1⟩
    refine v_run 0 (pc' := 13) (ls' := [some (.ref (ad 200))]) (st' := []) rfl ?_
    refine v_run 1 (pc' := 151) (ls' := [some (.ref (ad 200))]) (st' := []) rfl ?_
    exact v_vret rfl rfl ⟨rfl, m1, hm1, hk1, hf1⟩

set_option maxRecDepth 100000 in
set_option maxHeartbeats 400000 in
theorem g_all (G : ssG) (h : ssH) {ad : Nat → Nat} {sv : Value} {m : Nat → Int} {B : Nat → Int} {n : Nat} (hA : ∀ k l, ad k = ad l → k = l) (hB : ∀ k, -128 ≤ B k ∧ B k ≤ 127) (hn : n ≤ 900) (hm : MRd h ad sv m B n z00 (.inr 0)) : ssC G mX10_readAll 11 0 0 [.ref (ad 200)] h (GA ad sv m B n h (parse B n 901 z00 0)) := by
  refine c_of_v okX10_readAll (by decide +kernel) (ls := [some (.ref (ad 200)), none]) rfl (Nat.le_of_ble_eq_true rfl) ?_
  refine v_run 2 (pc' := 2) (ls' := [some (.ref (ad 200)), some (.int (zI 1))]) (st' := []) rfl ?_
  have lp : ∀ (f : Nat) (c j : Nat) (ζ : zT) (m1 : Nat → Int) (h1 : ssH), (c ≤ 900 ∧ c ≤ j ∧ liv B n j ∧ hzR ζ ∧ MRd h1 ad sv m1 B n ζ (.inr j) ∧ mKp m m1 ∧ frN ad h h1 ∧ parse B n (901 - c) ζ j = parse B n 901 z00 0) → 901 + 1 ≤ c + f → ssV G mX10_readAll 11 0 0 (GA ad sv m B n h (parse B n 901 z00 0)) 2 [some (.ref (ad 200)), some (.int (zI 1))] [] (h1) := by
    intro f
    induction f with
    | zero => intro c j ζ m1 h1 hs1 hs2; obtain ⟨q1, q2, hl, hz, hm1, hk1, hf1, hR⟩ := hs1; exact absurd hs2 (by omega)
    | succ f ihlp =>
      intro c j ζ m1 h1 hs1 hs2
      obtain ⟨q1, q2, hl, hz, hm1, hk1, hf1, hR⟩ := hs1
      have ec : 901 - c = (900 - c) + 1 := by omega
      rw [ec, parse] at hR
      refine v_run 1 (pc' := 3) (ls' := [some (.ref (ad 200)), some (.int (zI 1))]) (st' := [.int (zI 1)]) rfl ?_
      refine v_if_eq rfl (fun c3 => ?_) (fun c3 => ?_)
      · exact absurd c3 (by decide)
      · refine v_run 1 (pc' := 7) (ls' := [some (.ref (ad 200)), some (.int (zI 1))]) (st' := [.ref (ad 200)]) rfl ?_
        refine v_callV (My := mX10_readLine) (As := []) (rest := []) (mc := 0) (ms := 0) rfl caX10_readLine rfl rfl rfl hm1.1 rfl rfl (g_line G _ hA hB hn hm1 hz.1) rfl rfl (Nat.le_of_ble_eq_true rfl) (by omega) ?_
        rintro _ h2 ⟨rfl, m2, hm2, hk2, hf2⟩
        refine v_run 0 (pc' := 10) (ls' := [some (.ref (ad 200)), some (.int (zI 1))]) (st' := []) rfl ?_
        rcases hr : line B n ζ j with e | r
        · rw [hr] at hm2 hR
          have hR : (.inl e : pR zT) = parse B n 901 z00 0 := hR
          have hm2 : MRd h2 ad sv m2 B n ζ (.inl e) := hm2
          rw [← hR]
          have b5 := hz.1.1.2.2.2.2.2.1
          refine v_run 1 (pc' := 11) (ls' := [some (.ref (ad 200)), some (.int (zI 1))]) (st' := [.ref (ad 200)]) rfl ?_
          refine v_callV (My := mX10_eatsSemicolon) (As := []) (rest := []) (mc := 0) (ms := 0) rfl caX10_eatsSemicolon rfl rfl rfl hm2.1 rfl rfl (g_eats G _ hA hB hn hm2) rfl rfl (Nat.le_of_ble_eq_true rfl) (by omega) ?_
          rintro _ h3 ⟨rfl, m3, hm3, hk3, hf3⟩
          refine v_run 0 (pc' := 14) (ls' := [some (.ref (ad 200)), some (.int (zI 1))]) (st' := [.int (zI 0)]) rfl ?_
          refine v_run 3 (pc' := 3) (ls' := [some (.ref (ad 200)), some (.int (zI 0))]) (st' := [.int (zI 0)]) rfl ?_
          refine v_if_eq rfl (fun c3 => ?_) (fun c3 => ?_)
          · refine v_run 1 (pc' := 19) (ls' := [some (.ref (ad 200)), some (.int (zI 0))]) (st' := [.ref (ad 200)]) rfl ?_
            refine v_get rfl hm3.1 rfl ?_
            refine v_run 1 (pc' := 23) (ls' := [some (.ref (ad 200)), some (.int (zI 0))]) (st' := [.int (zI 1), .int (zI (m3 9))]) rfl ?_
            refine v_icmp_eq rfl (fun c23 => ?_) (fun c23 => ?_)
            · exact absurd (hm3.2.2.2.2.1 ▸ c23) (by decide)
            · refine v_run 2 (pc' := 28) (ls' := [some (.ref (ad 200)), some (.int (zI 0))]) (st' := [.int (zI 1), .ref (ad 200)]) rfl ?_
              refine v_callV (My := mX10_flaw) (As := [.int (zI 1)]) (rest := []) (mc := 0) (ms := 0) rfl caX10_flaw rfl rfl rfl hm3.1 rfl rfl (g_flaw G _ (f := 1) hA hB hn hm3) rfl rfl (Nat.le_of_ble_eq_true rfl) (by omega) ?_
              rintro _ h4 ⟨rfl, m4, hm4, hk4, hf4⟩
              refine v_run 0 (pc' := 31) (ls' := [some (.ref (ad 200)), some (.int (zI 0))]) (st' := []) rfl ?_
              refine v_run 1 (pc' := 32) (ls' := [some (.ref (ad 200)), some (.int (zI 0))]) (st' := [.ref (ad 200)]) rfl ?_
              refine v_get rfl hm4.1 rfl ?_
              refine v_run 0 (pc' := 35) (ls' := [some (.ref (ad 200)), some (.int (zI 0))]) (st' := [.ref (ad 230)]) rfl ?_
              refine v_get rfl hm4.2.2.1.1.1 rfl ?_
              refine v_run 0 (pc' := 38) (ls' := [some (.ref (ad 200)), some (.int (zI 0))]) (st' := [.int (zI ↑(ζ 5 0))]) rfl ?_
              refine v_if_ne rfl (fun c38 => ?_) (fun c38 => ?_)
              · exact v_vret rfl rfl ⟨rfl, m4, ζ, hm4, (((hk1.tr hk2).tr hk3).tr hk4), (((hf1.tr hf2).tr hf3).tr hf4)⟩
              · refine v_run 2 (pc' := 44) (ls' := [some (.ref (ad 200)), some (.int (zI 0))]) (st' := [.int (zI 6), .ref (ad 200)]) rfl ?_
                refine v_callV (My := mX10_flaw) (As := [.int (zI 6)]) (rest := []) (mc := 0) (ms := 0) rfl caX10_flaw rfl rfl rfl hm4.1 rfl rfl (g_flaw G _ (f := 6) hA hB hn hm4) rfl rfl (Nat.le_of_ble_eq_true rfl) (by omega) ?_
                rintro _ h5 ⟨rfl, m5, hm5, hk5, hf5⟩
                refine v_run 0 (pc' := 47) (ls' := [some (.ref (ad 200)), some (.int (zI 0))]) (st' := []) rfl ?_
                exact v_vret rfl rfl ⟨rfl, m5, ζ, hm5, ((((hk1.tr hk2).tr hk3).tr hk4).tr hk5), ((((hf1.tr hf2).tr hf3).tr hf4).tr hf5)⟩
          · exact absurd rfl c3
        · rw [hr] at hm2 hR
          simp only [sb] at hR
          have hm2 : MRd h2 ad sv m2 B n r.2 (.inr r.1) := hm2
          have hz2 := line_z hz hr
          obtain ⟨hl2, hg2⟩ := line_l hl hr
          have b5 := hz2.1.1.2.2.2.2.2.1
          have k4 : tS B n r.1 ≤ 4 := kS_le _
          have hln := liv_le hl2
          refine v_run 1 (pc' := 11) (ls' := [some (.ref (ad 200)), some (.int (zI 1))]) (st' := [.ref (ad 200)]) rfl ?_
          refine v_callV (My := mX10_eatsSemicolon) (As := []) (rest := []) (mc := 0) (ms := 0) rfl caX10_eatsSemicolon rfl rfl rfl hm2.1 rfl rfl (g_eats G _ hA hB hn hm2) rfl rfl (Nat.le_of_ble_eq_true rfl) (by omega) ?_
          rintro _ h3 ⟨rfl, m3, hm3, hk3, hf3⟩
          refine v_run 0 (pc' := 14) (ls' := [some (.ref (ad 200)), some (.int (zI 1))]) (st' := [.int (zb (smB B n (.inr r.1)))]) rfl ?_
          by_cases es : tS B n r.1 = 4
          · rw [show smU B n (.inr r.1) = .inr (r.1 + 1) from if_pos es] at hm3
            rw [show smB B n (.inr r.1) = true from decide_eq_true es]
            have hl3 := liv_s hl2 (show 2 ≤ tS B n r.1 by omega)
            have hln3 := liv_le hl3
            rw [if_neg (show ¬ tS B n r.1 = 1 by omega), if_pos es] at hR
            refine v_run 2 (pc' := 2) (ls' := [some (.ref (ad 200)), some (.int (zb true))]) (st' := []) rfl ?_
            exact ihlp (c + 1) (r.1 + 1) r.2 m3 h3 ⟨by omega, by omega, hl3, hz2, hm3, ((hk1.tr hk2).tr hk3), ((hf1.tr hf2).tr hf3), by rw [show 901 - (c + 1) = 900 - c by omega]; exact hR⟩ (by omega)
          · rw [show smU B n (.inr r.1) = .inr r.1 from if_neg es] at hm3
            rw [show smB B n (.inr r.1) = false from decide_eq_false es]
            refine v_run 3 (pc' := 3) (ls' := [some (.ref (ad 200)), some (.int (zb false))]) (st' := [.int (zb false)]) rfl ?_
            refine v_if_eq rfl (fun c3 => ?_) (fun c3 => ?_)
            · refine v_run 1 (pc' := 19) (ls' := [some (.ref (ad 200)), some (.int (zb false))]) (st' := [.ref (ad 200)]) rfl ?_
              refine v_get rfl hm3.1 rfl ?_
              refine v_run 1 (pc' := 23) (ls' := [some (.ref (ad 200)), some (.int (zb false))]) (st' := [.int (zI 1), .int (zI (m3 9))]) rfl ?_
              rw [hm3.2.2.2.2.2.1]
              refine v_icmp_eq rfl (fun c23 => ?_) (fun c23 => ?_)
              · simp (disch := omega) only [zI_lt, zI_le, zI_eq, zI_lt0, zI_le0, zI_0lt, zI_0le, zI_eq0] at c23
                have es1 : tS B n r.1 = 1 := by omega
                rw [← hR, if_pos es1]
                refine v_run 1 (pc' := 32) (ls' := [some (.ref (ad 200)), some (.int (zb false))]) (st' := [.ref (ad 200)]) rfl ?_
                refine v_get rfl hm3.1 rfl ?_
                refine v_run 0 (pc' := 35) (ls' := [some (.ref (ad 200)), some (.int (zb false))]) (st' := [.ref (ad 230)]) rfl ?_
                refine v_get rfl hm3.2.2.1.1.1 rfl ?_
                refine v_run 0 (pc' := 38) (ls' := [some (.ref (ad 200)), some (.int (zb false))]) (st' := [.int (zI ↑(r.2 5 0))]) rfl ?_
                refine v_if_ne rfl (fun c38 => ?_) (fun c38 => ?_)
                · simp (disch := omega) only [zI_lt, zI_le, zI_eq, zI_lt0, zI_le0, zI_0lt, zI_0le, zI_eq0] at c38
                  rw [if_neg (show ¬ r.2 5 0 = 0 by omega)]
                  exact v_vret rfl rfl ⟨rfl, hz2, by omega, m3, r.1, hm3, ((hk1.tr hk2).tr hk3), ((hf1.tr hf2).tr hf3)⟩
                · simp (disch := omega) only [zI_lt, zI_le, zI_eq, zI_lt0, zI_le0, zI_0lt, zI_0le, zI_eq0] at c38
                  rw [if_pos (show r.2 5 0 = 0 by omega)]
                  refine v_run 2 (pc' := 44) (ls' := [some (.ref (ad 200)), some (.int (zb false))]) (st' := [.int (zI 6), .ref (ad 200)]) rfl ?_
                  refine v_callV (My := mX10_flaw) (As := [.int (zI 6)]) (rest := []) (mc := 0) (ms := 0) rfl caX10_flaw rfl rfl rfl hm3.1 rfl rfl (g_flaw G _ (f := 6) hA hB hn hm3) rfl rfl (Nat.le_of_ble_eq_true rfl) (by omega) ?_
                  rintro _ h4 ⟨rfl, m4, hm4, hk4, hf4⟩
                  refine v_run 0 (pc' := 47) (ls' := [some (.ref (ad 200)), some (.int (zb false))]) (st' := []) rfl ?_
                  exact v_vret rfl rfl ⟨rfl, m4, r.2, hm4, (((hk1.tr hk2).tr hk3).tr hk4), (((hf1.tr hf2).tr hf3).tr hf4)⟩
              · simp (disch := omega) only [zI_lt, zI_le, zI_eq, zI_lt0, zI_le0, zI_0lt, zI_0le, zI_eq0] at c23
                have es1 : ¬ tS B n r.1 = 1 := by omega
                rw [← hR, if_neg es1, if_neg es]
                refine v_run 2 (pc' := 28) (ls' := [some (.ref (ad 200)), some (.int (zb false))]) (st' := [.int (zI 1), .ref (ad 200)]) rfl ?_
                refine v_callV (My := mX10_flaw) (As := [.int (zI 1)]) (rest := []) (mc := 0) (ms := 0) rfl caX10_flaw rfl rfl rfl hm3.1 rfl rfl (g_flaw G _ (f := 1) hA hB hn hm3) rfl rfl (Nat.le_of_ble_eq_true rfl) (by omega) ?_
                rintro _ h4 ⟨rfl, m4, hm4, hk4, hf4⟩
                refine v_run 0 (pc' := 31) (ls' := [some (.ref (ad 200)), some (.int (zb false))]) (st' := []) rfl ?_
                refine v_run 1 (pc' := 32) (ls' := [some (.ref (ad 200)), some (.int (zb false))]) (st' := [.ref (ad 200)]) rfl ?_
                refine v_get rfl hm4.1 rfl ?_
                refine v_run 0 (pc' := 35) (ls' := [some (.ref (ad 200)), some (.int (zb false))]) (st' := [.ref (ad 230)]) rfl ?_
                refine v_get rfl hm4.2.2.1.1.1 rfl ?_
                refine v_run 0 (pc' := 38) (ls' := [some (.ref (ad 200)), some (.int (zb false))]) (st' := [.int (zI ↑(r.2 5 0))]) rfl ?_
                refine v_if_ne rfl (fun c38 => ?_) (fun c38 => ?_)
                · exact v_vret rfl rfl ⟨rfl, m4, r.2, hm4, (((hk1.tr hk2).tr hk3).tr hk4), (((hf1.tr hf2).tr hf3).tr hf4)⟩
                · refine v_run 2 (pc' := 44) (ls' := [some (.ref (ad 200)), some (.int (zb false))]) (st' := [.int (zI 6), .ref (ad 200)]) rfl ?_
                  refine v_callV (My := mX10_flaw) (As := [.int (zI 6)]) (rest := []) (mc := 0) (ms := 0) rfl caX10_flaw rfl rfl rfl hm4.1 rfl rfl (g_flaw G _ (f := 6) hA hB hn hm4) rfl rfl (Nat.le_of_ble_eq_true rfl) (by omega) ?_
                  rintro _ h5 ⟨rfl, m5, hm5, hk5, hf5⟩
                  refine v_run 0 (pc' := 47) (ls' := [some (.ref (ad 200)), some (.int (zb false))]) (st' := []) rfl ?_
                  exact v_vret rfl rfl ⟨rfl, m5, r.2, hm5, ((((hk1.tr hk2).tr hk3).tr hk4).tr hk5), ((((hf1.tr hf2).tr hf3).tr hf4).tr hf5)⟩
            · exact absurd rfl c3
  exact lp 902 0 0 z00 m h ⟨by omega, Nat.le_refl _, fun j hj => absurd hj (by omega), hzR_0, hm, mKp.rf m, frN.rf ad h, rfl⟩ (by omega)

