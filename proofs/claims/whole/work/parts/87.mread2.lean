set_option maxRecDepth 100000 in
set_option maxHeartbeats 400000 in
theorem g_goesOn (G : ssG) (h : ssH) {ad : Nat → Nat} {sv : Value} {m : Nat → Int} {B : Nat → Int} {n : Nat} {i : Nat} (hA : ∀ k l, ad k = ad l → k = l) (ho : h (ad 200) = some (.inr (10, obM ad sv (.ref (ad 230)) m))) (hta : h (ad 201) = some (arB 900 B)) (hB : ∀ k, -128 ≤ B k ∧ B k ≤ 127) (hn : n ≤ 900) (h7 : m 7 = ↑n) (h9 : ¬ zI (m 9) = zI 5) (h8 : m 8 = ↑(pos B n i)) : ssC G mX10_goesOn 1 0 0 [.ref (ad 200)] h (fun r h' => r = none ∧ ∃ m', hset h (ad 200) (.inr (10, obM ad sv (.ref (ad 230)) m')) = h' ∧ (∀ k, k < 8 ∨ 15 ≤ k ∨ k = 12 ∨ k = 13 → m' k = m k) ∧ m' 8 = ↑(pos B n (i + 1)) ∧ m' 9 = ↑(tS B n i) ∧ m' 10 = ↑(tP B n i) ∧ (tS B n i = 2 → m' 14 = ↑(tV B n i)) ∧ (tS B n i = 3 → m' 11 = ↑(tV B n i))) := by
  refine c_of_v okX10_goesOn (by decide +kernel) (ls := [some (.ref (ad 200)), none, none]) rfl (Nat.le_of_ble_eq_true rfl) ?_
  refine v_run 1 (pc' := 1) (ls' := [some (.ref (ad 200)), none, none]) (st' := [.ref (ad 200)]) rfl ?_
  refine v_get rfl ho rfl ?_
  refine v_run 1 (pc' := 5) (ls' := [some (.ref (ad 200)), none, none]) (st' := [.int (zI 5), .int (zI (m 9))]) rfl ?_
  refine v_icmp_ne rfl (fun c5 => ?_) (fun c5 => ?_)
  · have e0 : hset h (ad 200) (.inr (10, obM ad sv (.ref (ad 230)) (mU m 8 (↑(pos B n i + 0))))) = h := by rw [show (mU m 8 ↑(pos B n i + 0)) = m from by rw [Nat.add_zero, ← h8, mU_same]]; exact hset_same h ho
    have lp : ∀ (f : Nat) (d : Nat), (pos B n i + d ≤ n ∧ kP B n (pos B n i) = scn B n bB (pos B n i + d)) → n + 1 ≤ pos B n i + d + f → ssV G mX10_goesOn 1 0 0 (fun r h' => r = none ∧ ∃ m', hset h (ad 200) (.inr (10, obM ad sv (.ref (ad 230)) m')) = h' ∧ (∀ k, k < 8 ∨ 15 ≤ k ∨ k = 12 ∨ k = 13 → m' k = m k) ∧ m' 8 = ↑(pos B n (i + 1)) ∧ m' 9 = ↑(tS B n i) ∧ m' 10 = ↑(tP B n i) ∧ (tS B n i = 2 → m' 14 = ↑(tV B n i)) ∧ (tS B n i = 3 → m' 11 = ↑(tV B n i))) 9 [some (.ref (ad 200)), none, none] [] (hset h (ad 200) (.inr (10, obM ad sv (.ref (ad 230)) (mU m 8 (↑(pos B n i + d)))))) := by
      intro f
      induction f with
      | zero => intro d hs1 hs2; obtain ⟨q1, q2⟩ := hs1; exact absurd hs2 (by omega)
      | succ f ihlp =>
        intro d hs1 hs2
        obtain ⟨q1, q2⟩ := hs1
        refine v_run 2 (pc' := 11) (ls' := [some (.ref (ad 200)), none, none]) (st' := [.ref (ad 200), .ref (ad 200)]) rfl ?_
        refine v_get rfl (hset_self _ _ _) rfl ?_
        refine v_run 0 (pc' := 14) (ls' := [some (.ref (ad 200)), none, none]) (st' := [.int (zI ↑(pos B n i + d)), .ref (ad 200)]) rfl ?_
        refine v_callV (My := mX10_byteAt) (As := [.int (zI ↑(pos B n i + d))]) (rest := []) (mc := 0) (ms := 0) rfl caX10_byteAt rfl rfl rfl (hset_self _ _ _) rfl rfl (g_byteAt G _ (m := (mU m 8 (↑(pos B n i + d)))) (k := pos B n i + d) hA (hset_self _ _ _) ((hset_ne _ _ (ad_ne hA (by decide))).trans hta) hB hn h7 (by omega)) rfl rfl (Nat.le_of_ble_eq_true rfl) (by omega) ?_
        rintro _ _ ⟨rfl, rfl⟩
        refine v_run 0 (pc' := 17) (ls' := [some (.ref (ad 200)), none, none]) (st' := [.int (zI (bY B n (pos B n i + d)))]) rfl ?_
        have hb := bY_bd (B := B) (n := n) (k := pos B n i + d) hB
        refine v_run 1 (pc' := 19) (ls' := [some (.ref (ad 200)), none, none]) (st' := [.int (zI 32), .int (zI (bY B n (pos B n i + d)))]) rfl ?_
        refine v_icmp_ne rfl (fun c19 => ?_) (fun c19 => ?_)
        · simp (disch := omega) only [zI_lt, zI_le, zI_eq, zI_lt0, zI_le0, zI_0lt, zI_0le, zI_eq0] at c19
          have e1 : kP B n (pos B n i) = pos B n i + d := by
            rw [q2]
            rcases Nat.lt_or_ge (pos B n i + d) n with g | g
            · exact scn_end g (by simp only [bB, decide_eq_false_iff_not]; exact fun g2 => c19 ((bY_eq hB (by decide)).mpr ⟨g, g2⟩))
            · exact scn_stop g
          rw [← e1]
          have hql : kP B n (pos B n i) ≤ n := by omega
          clear q1 q2 hb c19 e1
          refine v_run 2 (pc' := 37) (ls' := [some (.ref (ad 200)), none, none]) (st' := [.ref (ad 200), .ref (ad 200)]) rfl ?_
          refine v_get rfl (hset_self _ _ _) rfl ?_
          refine v_run 0 (pc' := 40) (ls' := [some (.ref (ad 200)), none, none]) (st' := [.int (zI ↑(kP B n (pos B n i))), .ref (ad 200)]) rfl ?_
          refine v_put rfl (hset_self _ _ _) rfl rfl (Nat.le_of_ble_eq_true rfl) ?_
          rw [hset_hset, show (obM ad sv (.ref (ad 230)) (mU m 8 (↑(kP B n (pos B n i))))).set 10 (.int (zI ↑(kP B n (pos B n i)))) = obM ad sv (.ref (ad 230)) (mU (mU m 8 (↑(kP B n (pos B n i)))) 10 (↑(kP B n (pos B n i)))) from rfl]
          refine v_run 2 (pc' := 45) (ls' := [some (.ref (ad 200)), none, none]) (st' := [.int (zI 0), .ref (ad 200)]) rfl ?_
          refine v_put rfl (hset_self _ _ _) rfl rfl (Nat.le_of_ble_eq_true rfl) ?_
          rw [hset_hset, show (obM ad sv (.ref (ad 230)) (mU (mU m 8 (↑(kP B n (pos B n i)))) 10 (↑(kP B n (pos B n i))))).set 9 (.int (zI 0)) = obM ad sv (.ref (ad 230)) (mU (mU (mU m 8 (↑(kP B n (pos B n i)))) 10 (↑(kP B n (pos B n i)))) 9 0) from rfl]
          refine v_run 2 (pc' := 50) (ls' := [some (.ref (ad 200)), none, none]) (st' := [.ref (ad 200), .ref (ad 200)]) rfl ?_
          refine v_get rfl (hset_self _ _ _) rfl ?_
          refine v_run 0 (pc' := 53) (ls' := [some (.ref (ad 200)), none, none]) (st' := [.int (zI ↑(kP B n (pos B n i))), .ref (ad 200)]) rfl ?_
          refine v_callV (My := mX10_byteAt) (As := [.int (zI ↑(kP B n (pos B n i)))]) (rest := []) (mc := 0) (ms := 0) rfl caX10_byteAt rfl rfl rfl (hset_self _ _ _) rfl rfl (g_byteAt G _ (m := (mU (mU (mU m 8 (↑(kP B n (pos B n i)))) 10 (↑(kP B n (pos B n i)))) 9 0)) (k := kP B n (pos B n i)) hA (hset_self _ _ _) ((hset_ne _ _ (ad_ne hA (by decide))).trans hta) hB hn h7 (by omega)) rfl rfl (Nat.le_of_ble_eq_true rfl) (by omega) ?_
          rintro _ _ ⟨rfl, rfl⟩
          refine v_run 0 (pc' := 56) (ls' := [some (.ref (ad 200)), none, none]) (st' := [.int (zI (bY B n (kP B n (pos B n i))))]) rfl ?_
          have hb := bY_bd (B := B) (n := n) (k := kP B n (pos B n i)) hB
          refine v_run 5 (pc' := 61) (ls' := [some (.ref (ad 200)), some (.int (zI (bY B n (kP B n (pos B n i))))), some (.int (zI 0))]) (st' := [.int (zI (-1)), .int (zI (bY B n (kP B n (pos B n i))))]) rfl ?_
          refine v_icmp_ne rfl (fun c61 => ?_) (fun c61 => ?_)
          · simp (disch := omega) only [zI_lt, zI_le, zI_eq, zI_lt0, zI_le0, zI_0lt, zI_0le, zI_eq0] at c61
            have hn0 : ¬ n ≤ kP B n (pos B n i) := fun g => c61 ((bY_m1 hB).mpr g)
            refine v_run 1 (pc' := 73) (ls' := [some (.ref (ad 200)), some (.int (zI (bY B n (kP B n (pos B n i))))), some (.int (zI 0))]) (st' := [.int (zI (bY B n (kP B n (pos B n i))))]) rfl ?_
            refine v_callS (My := mX10_isLetter) (As := [.int (zI (bY B n (kP B n (pos B n i))))]) (rest := []) (mc := 0) (ms := 0) rfl caX10_isLetter rfl rfl (g_isLetter G _ (bY B n (kP B n (pos B n i))) (by omega)) rfl rfl (Nat.le_of_ble_eq_true rfl) (by omega) ?_
            rintro _ _ ⟨rfl, rfl⟩
            refine v_run 0 (pc' := 76) (ls' := [some (.ref (ad 200)), some (.int (zI (bY B n (kP B n (pos B n i))))), some (.int (zI 0))]) (st' := [.int (zb (lB (bY B n (kP B n (pos B n i)))))]) rfl ?_
            rw [bY_l hB, decide_eq_true (show kP B n (pos B n i) < n by omega), Bool.true_and]
            refine v_if_eq rfl (fun c76 => ?_) (fun c76 => ?_)
            · rw [zb_n] at c76
              refine v_run 1 (pc' := 162) (ls' := [some (.ref (ad 200)), some (.int (zI (bY B n (kP B n (pos B n i))))), some (.int (zI 0))]) (st' := [.int (zI (bY B n (kP B n (pos B n i))))]) rfl ?_
              refine v_callS (My := mX10_isDigit) (As := [.int (zI (bY B n (kP B n (pos B n i))))]) (rest := []) (mc := 0) (ms := 0) rfl caX10_isDigit rfl rfl (g_isDigit G _ (bY B n (kP B n (pos B n i))) (by omega)) rfl rfl (Nat.le_of_ble_eq_true rfl) (by omega) ?_
              rintro _ _ ⟨rfl, rfl⟩
              refine v_run 0 (pc' := 165) (ls' := [some (.ref (ad 200)), some (.int (zI (bY B n (kP B n (pos B n i))))), some (.int (zI 0))]) (st' := [.int (zb (dB (bY B n (kP B n (pos B n i)))))]) rfl ?_
              rw [bY_d hB, decide_eq_true (show kP B n (pos B n i) < n by omega), Bool.true_and]
              refine v_if_eq rfl (fun c165 => ?_) (fun c165 => ?_)
              · rw [zb_n] at c165
                refine v_run 2 (pc' := 247) (ls' := [some (.ref (ad 200)), some (.int (zI (bY B n (kP B n (pos B n i))))), some (.int (zI 0))]) (st' := [.int (zI 59), .int (zI (bY B n (kP B n (pos B n i))))]) rfl ?_
                refine v_icmp_ne rfl (fun c247 => ?_) (fun c247 => ?_)
                · simp (disch := omega) only [zI_lt, zI_le, zI_eq, zI_lt0, zI_le0, zI_0lt, zI_0le, zI_eq0] at c247
                  have h59 : ¬ B (kP B n (pos B n i)) = 59 := fun g => c247 ((bY_eq hB (by decide)).mpr ⟨by omega, g⟩)
                  have hs : tS B n i = 0 := by unfold tS kS; rw [if_neg hn0, if_neg (by rw [c76]; decide), if_neg (by rw [c165]; decide), if_neg h59]
                  have hx : pos B n (i + 1) = kP B n (pos B n i) := by show kN B n (pos B n i) = _; unfold kN; rw [if_neg hn0, if_neg (by rw [c76]; decide), if_neg (by rw [c165]; decide), if_neg h59]
                  exact v_vret rfl rfl ⟨rfl, (mU (mU (mU m 8 (↑(kP B n (pos B n i)))) 10 (↑(kP B n (pos B n i)))) 9 0), rfl, fun k hk => by rcases hk with hk | hk | hk | hk <;> simp only [mU] <;> (repeat' (rw [if_neg (by omega)])), by rw [hx]; rfl, by rw [hs]; rfl, rfl, fun g => absurd (hs.symm.trans g) (by decide), fun g => absurd (hs.symm.trans g) (by decide)⟩
                · simp (disch := omega) only [zI_lt, zI_le, zI_eq, zI_lt0, zI_le0, zI_0lt, zI_0le, zI_eq0] at c247
                  have h59 := ((bY_eq (n := n) (k := kP B n (pos B n i)) hB (c := 59) (by decide)).mp (by omega)).2
                  refine v_run 2 (pc' := 252) (ls' := [some (.ref (ad 200)), some (.int (zI (bY B n (kP B n (pos B n i))))), some (.int (zI 0))]) (st' := [.int (zI 4), .ref (ad 200)]) rfl ?_
                  refine v_put rfl (hset_self _ _ _) rfl rfl (Nat.le_of_ble_eq_true rfl) ?_
                  rw [hset_hset, show (obM ad sv (.ref (ad 230)) (mU (mU (mU m 8 (↑(kP B n (pos B n i)))) 10 (↑(kP B n (pos B n i)))) 9 0)).set 9 (.int (zI 4)) = obM ad sv (.ref (ad 230)) (mU (mU (mU (mU m 8 (↑(kP B n (pos B n i)))) 10 (↑(kP B n (pos B n i)))) 9 0) 9 4) from rfl]
                  refine v_run 2 (pc' := 257) (ls' := [some (.ref (ad 200)), some (.int (zI (bY B n (kP B n (pos B n i))))), some (.int (zI 0))]) (st' := [.ref (ad 200), .ref (ad 200)]) rfl ?_
                  refine v_get rfl (hset_self _ _ _) rfl ?_
                  refine v_run 2 (pc' := 262) (ls' := [some (.ref (ad 200)), some (.int (zI (bY B n (kP B n (pos B n i))))), some (.int (zI 0))]) (st' := [.int ((zI ↑(kP B n (pos B n i))) + (zI 1)), .ref (ad 200)]) rfl ?_
                  rw [show ((zI ↑(kP B n (pos B n i))) + (zI 1) : Int32) = zI ↑(kP B n (pos B n i) + 1) from zI_s1 _]
                  refine v_put rfl (hset_self _ _ _) rfl rfl (Nat.le_of_ble_eq_true rfl) ?_
                  rw [hset_hset, show (obM ad sv (.ref (ad 230)) (mU (mU (mU (mU m 8 (↑(kP B n (pos B n i)))) 10 (↑(kP B n (pos B n i)))) 9 0) 9 4)).set 8 (.int (zI ↑(kP B n (pos B n i) + 1))) = obM ad sv (.ref (ad 230)) (mU (mU (mU (mU (mU m 8 (↑(kP B n (pos B n i)))) 10 (↑(kP B n (pos B n i)))) 9 0) 9 4) 8 (↑(kP B n (pos B n i) + 1))) from rfl]
                  have hs : tS B n i = 4 := by unfold tS kS; rw [if_neg hn0, if_neg (by rw [c76]; decide), if_neg (by rw [c165]; decide), if_pos h59]
                  have hx : pos B n (i + 1) = kP B n (pos B n i) + 1 := by show kN B n (pos B n i) = _; unfold kN; rw [if_neg hn0, if_neg (by rw [c76]; decide), if_neg (by rw [c165]; decide), if_pos h59]
                  refine v_run 0 (pc' := 265) (ls' := [some (.ref (ad 200)), some (.int (zI (bY B n (kP B n (pos B n i))))), some (.int (zI 0))]) (st' := []) rfl ?_
                  exact v_vret rfl rfl ⟨rfl, (mU (mU (mU (mU (mU m 8 (↑(kP B n (pos B n i)))) 10 (↑(kP B n (pos B n i)))) 9 0) 9 4) 8 (↑(kP B n (pos B n i) + 1))), rfl, fun k hk => by rcases hk with hk | hk | hk | hk <;> simp only [mU] <;> (repeat' (rw [if_neg (by omega)])), by rw [hx]; rfl, by rw [hs]; rfl, rfl, fun g => absurd (hs.symm.trans g) (by decide), fun g => absurd (hs.symm.trans g) (by decide)⟩
              · rw [zb_n, Bool.not_eq_false] at c165
                refine v_run 2 (pc' := 170) (ls' := [some (.ref (ad 200)), some (.int (zI (bY B n (kP B n (pos B n i))))), some (.int (zI 0))]) (st' := [.int (zI 0), .ref (ad 200)]) rfl ?_
                refine v_put rfl (hset_self _ _ _) rfl rfl (Nat.le_of_ble_eq_true rfl) ?_
                rw [hset_hset, show (obM ad sv (.ref (ad 230)) (mU (mU (mU m 8 (↑(kP B n (pos B n i)))) 10 (↑(kP B n (pos B n i)))) 9 0)).set 11 (.int (zI 0)) = obM ad sv (.ref (ad 230)) (mU (mU (mU (mU m 8 (↑(kP B n (pos B n i)))) 10 (↑(kP B n (pos B n i)))) 9 0) 11 0) from rfl]
                refine v_run 0 (pc' := 173) (ls' := [some (.ref (ad 200)), some (.int (zI (bY B n (kP B n (pos B n i))))), some (.int (zI 0))]) (st' := []) rfl ?_
                refine v_drop 1 rfl ?_
                have ld : ∀ (f2 : Nat) (e : Nat) (W : Int), (kP B n (pos B n i) + e ≤ n ∧ scn B n dB (kP B n (pos B n i)) = scn B n dB (kP B n (pos B n i) + e) ∧ (∀ j, j < e → dB (B (kP B n (pos B n i) + j)) = true) ∧ (e ≤ 3 → W = ↑(pkF (dF B (kP B n (pos B n i))) 10 e))) → n + 1 ≤ kP B n (pos B n i) + e + f2 → ssV G mX10_goesOn 1 0 0 (fun r h' => r = none ∧ ∃ m', hset h (ad 200) (.inr (10, obM ad sv (.ref (ad 230)) m')) = h' ∧ (∀ k, k < 8 ∨ 15 ≤ k ∨ k = 12 ∨ k = 13 → m' k = m k) ∧ m' 8 = ↑(pos B n (i + 1)) ∧ m' 9 = ↑(tS B n i) ∧ m' 10 = ↑(tP B n i) ∧ (tS B n i = 2 → m' 14 = ↑(tV B n i)) ∧ (tS B n i = 3 → m' 11 = ↑(tV B n i))) 173 [some (.ref (ad 200)), none, some (.int (zI ↑e))] [] (hset h (ad 200) (.inr (10, obM ad sv (.ref (ad 230)) (mU (mU (mU (mU m 8 (↑(kP B n (pos B n i) + e))) 10 (↑(kP B n (pos B n i)))) 9 0) 11 W)))) := by
                  intro f2
                  induction f2 with
                  | zero => intro e W hs1 hs2; obtain ⟨g1, g2, g3, g4⟩ := hs1; exact absurd hs2 (by omega)
                  | succ f2 ihld =>
                    intro e W hs1 hs2
                    obtain ⟨g1, g2, g3, g4⟩ := hs1
                    refine v_run 2 (pc' := 175) (ls' := [some (.ref (ad 200)), none, some (.int (zI ↑e))]) (st' := [.ref (ad 200), .ref (ad 200)]) rfl ?_
                    refine v_get rfl (hset_self _ _ _) rfl ?_
                    refine v_run 0 (pc' := 178) (ls' := [some (.ref (ad 200)), none, some (.int (zI ↑e))]) (st' := [.int (zI ↑(kP B n (pos B n i) + e)), .ref (ad 200)]) rfl ?_
                    refine v_callV (My := mX10_byteAt) (As := [.int (zI ↑(kP B n (pos B n i) + e))]) (rest := []) (mc := 0) (ms := 0) rfl caX10_byteAt rfl rfl rfl (hset_self _ _ _) rfl rfl (g_byteAt G _ (m := (mU (mU (mU (mU m 8 (↑(kP B n (pos B n i) + e))) 10 (↑(kP B n (pos B n i)))) 9 0) 11 W)) (k := kP B n (pos B n i) + e) hA (hset_self _ _ _) ((hset_ne _ _ (ad_ne hA (by decide))).trans hta) hB hn h7 (by omega)) rfl rfl (Nat.le_of_ble_eq_true rfl) (by omega) ?_
                    rintro _ _ ⟨rfl, rfl⟩
                    refine v_run 0 (pc' := 181) (ls' := [some (.ref (ad 200)), none, some (.int (zI ↑e))]) (st' := [.int (zI (bY B n (kP B n (pos B n i) + e)))]) rfl ?_
                    have hbe := bY_bd (B := B) (n := n) (k := kP B n (pos B n i) + e) hB
                    refine v_callS (My := mX10_isDigit) (As := [.int (zI (bY B n (kP B n (pos B n i) + e)))]) (rest := []) (mc := 0) (ms := 0) rfl caX10_isDigit rfl rfl (g_isDigit G _ (bY B n (kP B n (pos B n i) + e)) (by omega)) rfl rfl (Nat.le_of_ble_eq_true rfl) (by omega) ?_
                    rintro _ _ ⟨rfl, rfl⟩
                    refine v_run 0 (pc' := 184) (ls' := [some (.ref (ad 200)), none, some (.int (zI ↑e))]) (st' := [.int (zb (dB (bY B n (kP B n (pos B n i) + e))))]) rfl ?_
                    refine v_if_eq rfl (fun c184 => ?_) (fun c184 => ?_)
                    · rw [zb_n, bY_d hB, Bool.and_eq_false_iff, decide_eq_false_iff_not] at c184
                      have es : scn B n dB (kP B n (pos B n i)) = kP B n (pos B n i) + e := by
                        rw [g2]
                        rcases Nat.lt_or_ge (kP B n (pos B n i) + e) n with g | g
                        · exact scn_end g (c184.resolve_left (fun z => z g))
                        · exact scn_stop g
                      have el : scn B n dB (kP B n (pos B n i)) - kP B n (pos B n i) = e := by omega
                      refine v_run 2 (pc' := 233) (ls' := [some (.ref (ad 200)), none, some (.int (zI ↑e))]) (st' := [.int (zI 3), .int (zI ↑e)]) rfl ?_
                      refine v_icmp_gt rfl (fun c233 => ?_) (fun c233 => ?_)
                      · simp (disch := omega) only [zI_lt, zI_le, zI_eq, zI_lt0, zI_le0, zI_0lt, zI_0le, zI_eq0] at c233
                        have hs : tS B n i = 0 := by unfold tS kS; rw [if_neg hn0, if_neg (by rw [c76]; decide), if_pos c165, if_neg (by omega)]
                        have hx : pos B n (i + 1) = kP B n (pos B n i) + e := by show kN B n (pos B n i) = _; unfold kN; rw [if_neg hn0, if_neg (by rw [c76]; decide), if_pos c165, es]
                        exact v_vret rfl rfl ⟨rfl, (mU (mU (mU (mU m 8 (↑(kP B n (pos B n i) + e))) 10 (↑(kP B n (pos B n i)))) 9 0) 11 W), rfl, fun k hk => by rcases hk with hk | hk | hk | hk <;> simp only [mU] <;> (repeat' (rw [if_neg (by omega)])), by rw [hx]; rfl, by rw [hs]; rfl, rfl, fun g => absurd (hs.symm.trans g) (by decide), fun g => absurd (hs.symm.trans g) (by decide)⟩
                      · simp (disch := omega) only [zI_lt, zI_le, zI_eq, zI_lt0, zI_le0, zI_0lt, zI_0le, zI_eq0] at c233
                        refine v_run 2 (pc' := 238) (ls' := [some (.ref (ad 200)), none, some (.int (zI ↑e))]) (st' := [.int (zI 3), .ref (ad 200)]) rfl ?_
                        refine v_put rfl (hset_self _ _ _) rfl rfl (Nat.le_of_ble_eq_true rfl) ?_
                        rw [hset_hset, show (obM ad sv (.ref (ad 230)) (mU (mU (mU (mU m 8 (↑(kP B n (pos B n i) + e))) 10 (↑(kP B n (pos B n i)))) 9 0) 11 W)).set 9 (.int (zI 3)) = obM ad sv (.ref (ad 230)) (mU (mU (mU (mU (mU m 8 (↑(kP B n (pos B n i) + e))) 10 (↑(kP B n (pos B n i)))) 9 0) 11 W) 9 3) from rfl]
                        have hs : tS B n i = 3 := by unfold tS kS; rw [if_neg hn0, if_neg (by rw [c76]; decide), if_pos c165, if_pos (by omega)]
                        have hx : pos B n (i + 1) = kP B n (pos B n i) + e := by show kN B n (pos B n i) = _; unfold kN; rw [if_neg hn0, if_neg (by rw [c76]; decide), if_pos c165, es]
                        refine v_run 1 (pc' := 265) (ls' := [some (.ref (ad 200)), none, some (.int (zI ↑e))]) (st' := []) rfl ?_
                        exact v_vret rfl rfl ⟨rfl, (mU (mU (mU (mU (mU m 8 (↑(kP B n (pos B n i) + e))) 10 (↑(kP B n (pos B n i)))) 9 0) 11 W) 9 3), rfl, fun k hk => by rcases hk with hk | hk | hk | hk <;> simp only [mU] <;> (repeat' (rw [if_neg (by omega)])), by rw [hx]; rfl, by rw [hs]; rfl, rfl, fun g => absurd (hs.symm.trans g) (by decide), fun _ => by rw [show tV B n i = kV B n (pos B n i) from rfl]; unfold kV; rw [if_neg (by rw [c76]; decide), el]; exact g4 (by omega)⟩
                    · rw [zb_n, Bool.not_eq_false, bY_d hB, Bool.and_eq_true, decide_eq_true_eq] at c184
                      have hv : 48 ≤ B (kP B n (pos B n i) + e) ∧ B (kP B n (pos B n i) + e) ≤ 57 := by have := c184.2; simpa [dB] using this
                      have hbv : bY B n (kP B n (pos B n i) + e) = B (kP B n (pos B n i) + e) := bY_v c184.1 (by omega) (by omega)
                      refine v_run 2 (pc' := 189) (ls' := [some (.ref (ad 200)), none, some (.int (zI ↑e))]) (st' := [.int (zI 3), .int (zI ↑e)]) rfl ?_
                      refine v_icmp_ge rfl (fun c189 => ?_) (fun c189 => ?_)
                      · simp (disch := omega) only [zI_lt, zI_le, zI_eq, zI_lt0, zI_le0, zI_0lt, zI_0le, zI_eq0] at c189
                        refine v_run 3 (pc' := 220) (ls' := [some (.ref (ad 200)), none, some (.int ((zI ↑e) + zI 1))]) (st' := [.ref (ad 200), .ref (ad 200)]) rfl ?_
                        refine v_get rfl (hset_self _ _ _) rfl ?_
                        refine v_run 2 (pc' := 225) (ls' := [some (.ref (ad 200)), none, some (.int ((zI ↑e) + zI 1))]) (st' := [.int ((zI ↑(kP B n (pos B n i) + e)) + (zI 1)), .ref (ad 200)]) rfl ?_
                        rw [show ((zI ↑(kP B n (pos B n i) + e)) + (zI 1) : Int32) = zI ↑(kP B n (pos B n i) + e + 1) from zI_s1 _]
                        refine v_put rfl (hset_self _ _ _) rfl rfl (Nat.le_of_ble_eq_true rfl) ?_
                        rw [hset_hset, show (obM ad sv (.ref (ad 230)) (mU (mU (mU (mU m 8 (↑(kP B n (pos B n i) + e))) 10 (↑(kP B n (pos B n i)))) 9 0) 11 W)).set 8 (.int (zI ↑(kP B n (pos B n i) + e + 1))) = obM ad sv (.ref (ad 230)) (mU (mU (mU (mU m 8 ↑(kP B n (pos B n i) + (e + 1))) 10 ↑(kP B n (pos B n i))) 9 0) 11 W) from rfl]
                        refine v_run 1 (pc' := 173) (ls' := [some (.ref (ad 200)), none, some (.int ((zI ↑e) + zI 1))]) (st' := []) rfl ?_
                        rw [zI_s1]
                        exact ihld (e + 1) (W) ⟨by omega, by rw [g2]; exact scn_go c184.1 c184.2, fun j hj => by
                          by_cases ej : j = e
                          · rw [ej]; exact c184.2
                          · exact g3 j (by omega), fun h => absurd h (by omega)⟩ (by omega)
                      · simp (disch := omega) only [zI_lt, zI_le, zI_eq, zI_lt0, zI_le0, zI_0lt, zI_0le, zI_eq0] at c189
                        refine v_run 3 (pc' := 196) (ls' := [some (.ref (ad 200)), none, some (.int (zI ↑e))]) (st' := [.ref (ad 200), .int (zI 10), .ref (ad 200)]) rfl ?_
                        refine v_get rfl (hset_self _ _ _) rfl ?_
                        refine v_run 3 (pc' := 202) (ls' := [some (.ref (ad 200)), none, some (.int (zI ↑e))]) (st' := [.ref (ad 200), .ref (ad 200), .int ((zI 10) * (zI W)), .ref (ad 200)]) rfl ?_
                        refine v_get rfl (hset_self _ _ _) rfl ?_
                        refine v_run 0 (pc' := 205) (ls' := [some (.ref (ad 200)), none, some (.int (zI ↑e))]) (st' := [.int (zI ↑(kP B n (pos B n i) + e)), .ref (ad 200), .int ((zI 10) * (zI W)), .ref (ad 200)]) rfl ?_
                        refine v_callV (My := mX10_byteAt) (As := [.int (zI ↑(kP B n (pos B n i) + e))]) (rest := [.int ((zI 10) * (zI W)), .ref (ad 200)]) (mc := 0) (ms := 0) rfl caX10_byteAt rfl rfl rfl (hset_self _ _ _) rfl rfl (g_byteAt G _ (m := (mU (mU (mU (mU m 8 (↑(kP B n (pos B n i) + e))) 10 (↑(kP B n (pos B n i)))) 9 0) 11 W)) (k := kP B n (pos B n i) + e) hA (hset_self _ _ _) ((hset_ne _ _ (ad_ne hA (by decide))).trans hta) hB hn h7 (by omega)) rfl rfl (Nat.le_of_ble_eq_true rfl) (by omega) ?_
                        rintro _ _ ⟨rfl, rfl⟩
                        refine v_run 0 (pc' := 208) (ls' := [some (.ref (ad 200)), none, some (.int (zI ↑e))]) (st' := [.int (zI (bY B n (kP B n (pos B n i) + e))), .int ((zI 10) * (zI W)), .ref (ad 200)]) rfl ?_
                        rw [hbv]
                        refine v_run 3 (pc' := 212) (ls' := [some (.ref (ad 200)), none, some (.int (zI ↑e))]) (st' := [.int ((((zI 10) * (zI W)) + (zI (B (kP B n (pos B n i) + e)))) - (zI 48)), .ref (ad 200)]) rfl ?_
                        rw [show zI 10 * zI W + zI (B (kP B n (pos B n i) + e)) - zI 48 = zI (10 * W + B (kP B n (pos B n i) + e) - 48) from by rw [zI_mul, zI_add, zI_sub]]
                        refine v_put rfl (hset_self _ _ _) rfl rfl (Nat.le_of_ble_eq_true rfl) ?_
                        rw [hset_hset, show (obM ad sv (.ref (ad 230)) (mU (mU (mU (mU m 8 (↑(kP B n (pos B n i) + e))) 10 (↑(kP B n (pos B n i)))) 9 0) 11 W)).set 11 (.int (zI (10 * W + B (kP B n (pos B n i) + e) - 48))) = obM ad sv (.ref (ad 230)) (mU (mU (mU (mU (mU m 8 (↑(kP B n (pos B n i) + e))) 10 (↑(kP B n (pos B n i)))) 9 0) 11 W) 11 (10 * W + B (kP B n (pos B n i) + e) - 48)) from rfl]
                        refine v_run 3 (pc' := 220) (ls' := [some (.ref (ad 200)), none, some (.int ((zI ↑e) + zI 1))]) (st' := [.ref (ad 200), .ref (ad 200)]) rfl ?_
                        refine v_get rfl (hset_self _ _ _) rfl ?_
                        refine v_run 2 (pc' := 225) (ls' := [some (.ref (ad 200)), none, some (.int ((zI ↑e) + zI 1))]) (st' := [.int ((zI ↑(kP B n (pos B n i) + e)) + (zI 1)), .ref (ad 200)]) rfl ?_
                        rw [show ((zI ↑(kP B n (pos B n i) + e)) + (zI 1) : Int32) = zI ↑(kP B n (pos B n i) + e + 1) from zI_s1 _]
                        refine v_put rfl (hset_self _ _ _) rfl rfl (Nat.le_of_ble_eq_true rfl) ?_
                        rw [hset_hset, show (obM ad sv (.ref (ad 230)) (mU (mU (mU (mU (mU m 8 (↑(kP B n (pos B n i) + e))) 10 (↑(kP B n (pos B n i)))) 9 0) 11 W) 11 (10 * W + B (kP B n (pos B n i) + e) - 48))).set 8 (.int (zI ↑(kP B n (pos B n i) + e + 1))) = obM ad sv (.ref (ad 230)) (mU (mU (mU (mU m 8 ↑(kP B n (pos B n i) + (e + 1))) 10 ↑(kP B n (pos B n i))) 9 0) 11 (10 * W + B (kP B n (pos B n i) + e) - 48)) from rfl]
                        refine v_run 1 (pc' := 173) (ls' := [some (.ref (ad 200)), none, some (.int ((zI ↑e) + zI 1))]) (st' := []) rfl ?_
                        rw [zI_s1]
                        exact ihld (e + 1) (10 * W + B (kP B n (pos B n i) + e) - 48) ⟨by omega, by rw [g2]; exact scn_go c184.1 c184.2, fun j hj => by
                          by_cases ej : j = e
                          · rw [ej]; exact c184.2
                          · exact g3 j (by omega), fun h => by rw [g4 (by omega)]; simp only [pkF, dF]; omega⟩ (by omega)
                exact ld (n + 1) 0 0 ⟨by omega, rfl, fun j hj => absurd hj (by omega), fun _ => rfl⟩ (by omega)
            · rw [zb_n, Bool.not_eq_false] at c76
              refine v_run 2 (pc' := 81) (ls' := [some (.ref (ad 200)), some (.int (zI (bY B n (kP B n (pos B n i))))), some (.int (zI 0))]) (st' := [.long (zL 0), .ref (ad 200)]) rfl ?_
              refine v_put rfl (hset_self _ _ _) rfl rfl (Nat.le_of_ble_eq_true rfl) ?_
              rw [hset_hset, show (obM ad sv (.ref (ad 230)) (mU (mU (mU m 8 (↑(kP B n (pos B n i)))) 10 (↑(kP B n (pos B n i)))) 9 0)).set 14 (.long (zL 0)) = obM ad sv (.ref (ad 230)) (mU (mU (mU (mU m 8 (↑(kP B n (pos B n i)))) 10 (↑(kP B n (pos B n i)))) 9 0) 14 0) from rfl]
              refine v_run 0 (pc' := 84) (ls' := [some (.ref (ad 200)), some (.int (zI (bY B n (kP B n (pos B n i))))), some (.int (zI 0))]) (st' := []) rfl ?_
              refine v_drop 1 rfl ?_
              have lw : ∀ (f2 : Nat) (e : Nat) (W : Int), (kP B n (pos B n i) + e ≤ n ∧ scn B n lB (kP B n (pos B n i)) = scn B n lB (kP B n (pos B n i) + e) ∧ (∀ j, j < e → lB (B (kP B n (pos B n i) + j)) = true) ∧ (e ≤ 8 → W = ↑(pkF (wF B (kP B n (pos B n i))) 32 e))) → n + 1 ≤ kP B n (pos B n i) + e + f2 → ssV G mX10_goesOn 1 0 0 (fun r h' => r = none ∧ ∃ m', hset h (ad 200) (.inr (10, obM ad sv (.ref (ad 230)) m')) = h' ∧ (∀ k, k < 8 ∨ 15 ≤ k ∨ k = 12 ∨ k = 13 → m' k = m k) ∧ m' 8 = ↑(pos B n (i + 1)) ∧ m' 9 = ↑(tS B n i) ∧ m' 10 = ↑(tP B n i) ∧ (tS B n i = 2 → m' 14 = ↑(tV B n i)) ∧ (tS B n i = 3 → m' 11 = ↑(tV B n i))) 84 [some (.ref (ad 200)), none, some (.int (zI ↑e))] [] (hset h (ad 200) (.inr (10, obM ad sv (.ref (ad 230)) (mU (mU (mU (mU m 8 (↑(kP B n (pos B n i) + e))) 10 (↑(kP B n (pos B n i)))) 9 0) 14 W)))) := by
                intro f2
                induction f2 with
                | zero => intro e W hs1 hs2; obtain ⟨g1, g2, g3, g4⟩ := hs1; exact absurd hs2 (by omega)
                | succ f2 ihlw =>
                  intro e W hs1 hs2
                  obtain ⟨g1, g2, g3, g4⟩ := hs1
                  refine v_run 2 (pc' := 86) (ls' := [some (.ref (ad 200)), none, some (.int (zI ↑e))]) (st' := [.ref (ad 200), .ref (ad 200)]) rfl ?_
                  refine v_get rfl (hset_self _ _ _) rfl ?_
                  refine v_run 0 (pc' := 89) (ls' := [some (.ref (ad 200)), none, some (.int (zI ↑e))]) (st' := [.int (zI ↑(kP B n (pos B n i) + e)), .ref (ad 200)]) rfl ?_
                  refine v_callV (My := mX10_byteAt) (As := [.int (zI ↑(kP B n (pos B n i) + e))]) (rest := []) (mc := 0) (ms := 0) rfl caX10_byteAt rfl rfl rfl (hset_self _ _ _) rfl rfl (g_byteAt G _ (m := (mU (mU (mU (mU m 8 (↑(kP B n (pos B n i) + e))) 10 (↑(kP B n (pos B n i)))) 9 0) 14 W)) (k := kP B n (pos B n i) + e) hA (hset_self _ _ _) ((hset_ne _ _ (ad_ne hA (by decide))).trans hta) hB hn h7 (by omega)) rfl rfl (Nat.le_of_ble_eq_true rfl) (by omega) ?_
                  rintro _ _ ⟨rfl, rfl⟩
                  refine v_run 0 (pc' := 92) (ls' := [some (.ref (ad 200)), none, some (.int (zI ↑e))]) (st' := [.int (zI (bY B n (kP B n (pos B n i) + e)))]) rfl ?_
                  have hbe := bY_bd (B := B) (n := n) (k := kP B n (pos B n i) + e) hB
                  refine v_callS (My := mX10_isLetter) (As := [.int (zI (bY B n (kP B n (pos B n i) + e)))]) (rest := []) (mc := 0) (ms := 0) rfl caX10_isLetter rfl rfl (g_isLetter G _ (bY B n (kP B n (pos B n i) + e)) (by omega)) rfl rfl (Nat.le_of_ble_eq_true rfl) (by omega) ?_
                  rintro _ _ ⟨rfl, rfl⟩
                  refine v_run 0 (pc' := 95) (ls' := [some (.ref (ad 200)), none, some (.int (zI ↑e))]) (st' := [.int (zb (lB (bY B n (kP B n (pos B n i) + e))))]) rfl ?_
                  refine v_if_eq rfl (fun c95 => ?_) (fun c95 => ?_)
                  · rw [zb_n, bY_l hB, Bool.and_eq_false_iff, decide_eq_false_iff_not] at c95
                    have es : scn B n lB (kP B n (pos B n i)) = kP B n (pos B n i) + e := by
                      rw [g2]
                      rcases Nat.lt_or_ge (kP B n (pos B n i) + e) n with g | g
                      · exact scn_end g (c95.resolve_left (fun z => z g))
                      · exact scn_stop g
                    have el : scn B n lB (kP B n (pos B n i)) - kP B n (pos B n i) = e := by omega
                    refine v_run 2 (pc' := 150) (ls' := [some (.ref (ad 200)), none, some (.int (zI ↑e))]) (st' := [.int (zI 8), .int (zI ↑e)]) rfl ?_
                    refine v_icmp_gt rfl (fun c150 => ?_) (fun c150 => ?_)
                    · simp (disch := omega) only [zI_lt, zI_le, zI_eq, zI_lt0, zI_le0, zI_0lt, zI_0le, zI_eq0] at c150
                      have hs : tS B n i = 0 := by unfold tS kS; rw [if_neg hn0, if_pos c76, if_neg (by omega)]
                      have hx : pos B n (i + 1) = kP B n (pos B n i) + e := by show kN B n (pos B n i) = _; unfold kN; rw [if_neg hn0, if_pos c76, es]
                      exact v_vret rfl rfl ⟨rfl, (mU (mU (mU (mU m 8 (↑(kP B n (pos B n i) + e))) 10 (↑(kP B n (pos B n i)))) 9 0) 14 W), rfl, fun k hk => by rcases hk with hk | hk | hk | hk <;> simp only [mU] <;> (repeat' (rw [if_neg (by omega)])), by rw [hx]; rfl, by rw [hs]; rfl, rfl, fun g => absurd (hs.symm.trans g) (by decide), fun g => absurd (hs.symm.trans g) (by decide)⟩
                    · simp (disch := omega) only [zI_lt, zI_le, zI_eq, zI_lt0, zI_le0, zI_0lt, zI_0le, zI_eq0] at c150
                      refine v_run 2 (pc' := 155) (ls' := [some (.ref (ad 200)), none, some (.int (zI ↑e))]) (st' := [.int (zI 2), .ref (ad 200)]) rfl ?_
                      refine v_put rfl (hset_self _ _ _) rfl rfl (Nat.le_of_ble_eq_true rfl) ?_
                      rw [hset_hset, show (obM ad sv (.ref (ad 230)) (mU (mU (mU (mU m 8 (↑(kP B n (pos B n i) + e))) 10 (↑(kP B n (pos B n i)))) 9 0) 14 W)).set 9 (.int (zI 2)) = obM ad sv (.ref (ad 230)) (mU (mU (mU (mU (mU m 8 (↑(kP B n (pos B n i) + e))) 10 (↑(kP B n (pos B n i)))) 9 0) 14 W) 9 2) from rfl]
                      have hs : tS B n i = 2 := by unfold tS kS; rw [if_neg hn0, if_pos c76, if_pos (by omega)]
                      have hx : pos B n (i + 1) = kP B n (pos B n i) + e := by show kN B n (pos B n i) = _; unfold kN; rw [if_neg hn0, if_pos c76, es]
                      refine v_run 1 (pc' := 265) (ls' := [some (.ref (ad 200)), none, some (.int (zI ↑e))]) (st' := []) rfl ?_
                      exact v_vret rfl rfl ⟨rfl, (mU (mU (mU (mU (mU m 8 (↑(kP B n (pos B n i) + e))) 10 (↑(kP B n (pos B n i)))) 9 0) 14 W) 9 2), rfl, fun k hk => by rcases hk with hk | hk | hk | hk <;> simp only [mU] <;> (repeat' (rw [if_neg (by omega)])), by rw [hx]; rfl, by rw [hs]; rfl, rfl, fun _ => by rw [show tV B n i = kV B n (pos B n i) from rfl]; unfold kV; rw [if_pos c76, el]; exact g4 (by omega), fun g => absurd (hs.symm.trans g) (by decide)⟩
                  · rw [zb_n, Bool.not_eq_false, bY_l hB, Bool.and_eq_true, decide_eq_true_eq] at c95
                    have hv : 97 ≤ B (kP B n (pos B n i) + e) ∧ B (kP B n (pos B n i) + e) ≤ 122 := by have := c95.2; simpa [lB] using this
                    have hbv : bY B n (kP B n (pos B n i) + e) = B (kP B n (pos B n i) + e) := bY_v c95.1 (by omega) (by omega)
                    refine v_run 2 (pc' := 101) (ls' := [some (.ref (ad 200)), none, some (.int (zI ↑e))]) (st' := [.int (zI 8), .int (zI ↑e)]) rfl ?_
                    refine v_icmp_ge rfl (fun c101 => ?_) (fun c101 => ?_)
                    · simp (disch := omega) only [zI_lt, zI_le, zI_eq, zI_lt0, zI_le0, zI_0lt, zI_0le, zI_eq0] at c101
                      refine v_run 3 (pc' := 136) (ls' := [some (.ref (ad 200)), none, some (.int ((zI ↑e) + zI 1))]) (st' := [.ref (ad 200), .ref (ad 200)]) rfl ?_
                      refine v_get rfl (hset_self _ _ _) rfl ?_
                      refine v_run 2 (pc' := 141) (ls' := [some (.ref (ad 200)), none, some (.int ((zI ↑e) + zI 1))]) (st' := [.int ((zI ↑(kP B n (pos B n i) + e)) + (zI 1)), .ref (ad 200)]) rfl ?_
                      rw [show ((zI ↑(kP B n (pos B n i) + e)) + (zI 1) : Int32) = zI ↑(kP B n (pos B n i) + e + 1) from zI_s1 _]
                      refine v_put rfl (hset_self _ _ _) rfl rfl (Nat.le_of_ble_eq_true rfl) ?_
                      rw [hset_hset, show (obM ad sv (.ref (ad 230)) (mU (mU (mU (mU m 8 (↑(kP B n (pos B n i) + e))) 10 (↑(kP B n (pos B n i)))) 9 0) 14 W)).set 8 (.int (zI ↑(kP B n (pos B n i) + e + 1))) = obM ad sv (.ref (ad 230)) (mU (mU (mU (mU m 8 ↑(kP B n (pos B n i) + (e + 1))) 10 ↑(kP B n (pos B n i))) 9 0) 14 W) from rfl]
                      refine v_run 1 (pc' := 84) (ls' := [some (.ref (ad 200)), none, some (.int ((zI ↑e) + zI 1))]) (st' := []) rfl ?_
                      rw [zI_s1]
                      exact ihlw (e + 1) (W) ⟨by omega, by rw [g2]; exact scn_go c95.1 c95.2, fun j hj => by
                        by_cases ej : j = e
                        · rw [ej]; exact c95.2
                        · exact g3 j (by omega), fun h => absurd h (by omega)⟩ (by omega)
                    · simp (disch := omega) only [zI_lt, zI_le, zI_eq, zI_lt0, zI_le0, zI_0lt, zI_0le, zI_eq0] at c101
                      refine v_run 3 (pc' := 109) (ls' := [some (.ref (ad 200)), none, some (.int (zI ↑e))]) (st' := [.ref (ad 200), .long (zL 32), .ref (ad 200)]) rfl ?_
                      refine v_get rfl (hset_self _ _ _) rfl ?_
                      refine v_run 3 (pc' := 115) (ls' := [some (.ref (ad 200)), none, some (.int (zI ↑e))]) (st' := [.ref (ad 200), .ref (ad 200), .long ((zL 32) * (zL W)), .ref (ad 200)]) rfl ?_
                      refine v_get rfl (hset_self _ _ _) rfl ?_
                      refine v_run 0 (pc' := 118) (ls' := [some (.ref (ad 200)), none, some (.int (zI ↑e))]) (st' := [.int (zI ↑(kP B n (pos B n i) + e)), .ref (ad 200), .long ((zL 32) * (zL W)), .ref (ad 200)]) rfl ?_
                      refine v_callV (My := mX10_byteAt) (As := [.int (zI ↑(kP B n (pos B n i) + e))]) (rest := [.long ((zL 32) * (zL W)), .ref (ad 200)]) (mc := 0) (ms := 0) rfl caX10_byteAt rfl rfl rfl (hset_self _ _ _) rfl rfl (g_byteAt G _ (m := (mU (mU (mU (mU m 8 (↑(kP B n (pos B n i) + e))) 10 (↑(kP B n (pos B n i)))) 9 0) 14 W)) (k := kP B n (pos B n i) + e) hA (hset_self _ _ _) ((hset_ne _ _ (ad_ne hA (by decide))).trans hta) hB hn h7 (by omega)) rfl rfl (Nat.le_of_ble_eq_true rfl) (by omega) ?_
                      rintro _ _ ⟨rfl, rfl⟩
                      refine v_run 0 (pc' := 121) (ls' := [some (.ref (ad 200)), none, some (.int (zI ↑e))]) (st' := [.int (zI (bY B n (kP B n (pos B n i) + e))), .long ((zL 32) * (zL W)), .ref (ad 200)]) rfl ?_
                      rw [hbv]
                      refine v_run 6 (pc' := 128) (ls' := [some (.ref (ad 200)), none, some (.int (zI ↑e))]) (st' := [.long (((zL 32) * (zL W)) + ((((zI (B (kP B n (pos B n i) + e))) - (zI 97)) + (zI 1)).toInt64)), .ref (ad 200)]) rfl ?_
                      rw [show (zL 32 * zL W) + (zI (B (kP B n (pos B n i) + e)) - zI 97 + zI 1).toInt64 = zL (32 * W + (B (kP B n (pos B n i) + e) - 97 + 1)) from by rw [zI_sub, zI_add, zI_l (by omega) (by omega), zL_mul, zL_add]]
                      refine v_put rfl (hset_self _ _ _) rfl rfl (Nat.le_of_ble_eq_true rfl) ?_
                      rw [hset_hset, show (obM ad sv (.ref (ad 230)) (mU (mU (mU (mU m 8 (↑(kP B n (pos B n i) + e))) 10 (↑(kP B n (pos B n i)))) 9 0) 14 W)).set 14 (.long (zL (32 * W + (B (kP B n (pos B n i) + e) - 97 + 1)))) = obM ad sv (.ref (ad 230)) (mU (mU (mU (mU (mU m 8 (↑(kP B n (pos B n i) + e))) 10 (↑(kP B n (pos B n i)))) 9 0) 14 W) 14 (32 * W + (B (kP B n (pos B n i) + e) - 97 + 1))) from rfl]
                      refine v_run 3 (pc' := 136) (ls' := [some (.ref (ad 200)), none, some (.int ((zI ↑e) + zI 1))]) (st' := [.ref (ad 200), .ref (ad 200)]) rfl ?_
                      refine v_get rfl (hset_self _ _ _) rfl ?_
                      refine v_run 2 (pc' := 141) (ls' := [some (.ref (ad 200)), none, some (.int ((zI ↑e) + zI 1))]) (st' := [.int ((zI ↑(kP B n (pos B n i) + e)) + (zI 1)), .ref (ad 200)]) rfl ?_
                      rw [show ((zI ↑(kP B n (pos B n i) + e)) + (zI 1) : Int32) = zI ↑(kP B n (pos B n i) + e + 1) from zI_s1 _]
                      refine v_put rfl (hset_self _ _ _) rfl rfl (Nat.le_of_ble_eq_true rfl) ?_
                      rw [hset_hset, show (obM ad sv (.ref (ad 230)) (mU (mU (mU (mU (mU m 8 (↑(kP B n (pos B n i) + e))) 10 (↑(kP B n (pos B n i)))) 9 0) 14 W) 14 (32 * W + (B (kP B n (pos B n i) + e) - 97 + 1)))).set 8 (.int (zI ↑(kP B n (pos B n i) + e + 1))) = obM ad sv (.ref (ad 230)) (mU (mU (mU (mU m 8 ↑(kP B n (pos B n i) + (e + 1))) 10 ↑(kP B n (pos B n i))) 9 0) 14 (32 * W + (B (kP B n (pos B n i) + e) - 97 + 1))) from rfl]
                      refine v_run 1 (pc' := 84) (ls' := [some (.ref (ad 200)), none, some (.int ((zI ↑e) + zI 1))]) (st' := []) rfl ?_
                      rw [zI_s1]
                      exact ihlw (e + 1) (32 * W + (B (kP B n (pos B n i) + e) - 97 + 1)) ⟨by omega, by rw [g2]; exact scn_go c95.1 c95.2, fun j hj => by
                        by_cases ej : j = e
                        · rw [ej]; exact c95.2
                        · exact g3 j (by omega), fun h => by rw [g4 (by omega)]; simp only [pkF, wF]; omega⟩ (by omega)
              exact lw (n + 1) 0 0 ⟨by omega, rfl, fun j hj => absurd hj (by omega), fun _ => rfl⟩ (by omega)
          · simp (disch := omega) only [zI_lt, zI_le, zI_eq, zI_lt0, zI_le0, zI_0lt, zI_0le, zI_eq0] at c61
            have hn0 := (bY_m1 (n := n) (k := kP B n (pos B n i)) hB).mp (by omega)
            refine v_run 2 (pc' := 66) (ls' := [some (.ref (ad 200)), some (.int (zI (bY B n (kP B n (pos B n i))))), some (.int (zI 0))]) (st' := [.int (zI 1), .ref (ad 200)]) rfl ?_
            refine v_put rfl (hset_self _ _ _) rfl rfl (Nat.le_of_ble_eq_true rfl) ?_
            rw [hset_hset, show (obM ad sv (.ref (ad 230)) (mU (mU (mU m 8 (↑(kP B n (pos B n i)))) 10 (↑(kP B n (pos B n i)))) 9 0)).set 9 (.int (zI 1)) = obM ad sv (.ref (ad 230)) (mU (mU (mU (mU m 8 (↑(kP B n (pos B n i)))) 10 (↑(kP B n (pos B n i)))) 9 0) 9 1) from rfl]
            have hs : tS B n i = 1 := by unfold tS kS; rw [if_pos hn0]
            have hx : pos B n (i + 1) = kP B n (pos B n i) := by show kN B n (pos B n i) = _; unfold kN; rw [if_pos hn0]
            refine v_run 1 (pc' := 265) (ls' := [some (.ref (ad 200)), some (.int (zI (bY B n (kP B n (pos B n i))))), some (.int (zI 0))]) (st' := []) rfl ?_
            exact v_vret rfl rfl ⟨rfl, (mU (mU (mU (mU m 8 (↑(kP B n (pos B n i)))) 10 (↑(kP B n (pos B n i)))) 9 0) 9 1), rfl, fun k hk => by rcases hk with hk | hk | hk | hk <;> simp only [mU] <;> (repeat' (rw [if_neg (by omega)])), by rw [hx]; rfl, by rw [hs]; rfl, rfl, fun g => absurd (hs.symm.trans g) (by decide), fun g => absurd (hs.symm.trans g) (by decide)⟩
        · simp (disch := omega) only [zI_lt, zI_le, zI_eq, zI_lt0, zI_le0, zI_0lt, zI_0le, zI_eq0] at c19
          have hbl := (bY_eq (n := n) (k := pos B n i + d) hB (c := 32) (by decide)).mp (by omega)
          refine v_run 2 (pc' := 24) (ls' := [some (.ref (ad 200)), none, none]) (st' := [.ref (ad 200), .ref (ad 200)]) rfl ?_
          refine v_get rfl (hset_self _ _ _) rfl ?_
          refine v_run 2 (pc' := 29) (ls' := [some (.ref (ad 200)), none, none]) (st' := [.int ((zI ↑(pos B n i + d)) + (zI 1)), .ref (ad 200)]) rfl ?_
          rw [show ((zI ↑(pos B n i + d)) + (zI 1) : Int32) = zI ↑(pos B n i + d + 1) from zI_s1 _]
          refine v_put rfl (hset_self _ _ _) rfl rfl (Nat.le_of_ble_eq_true rfl) ?_
          rw [hset_hset, show (obM ad sv (.ref (ad 230)) (mU m 8 (↑(pos B n i + d)))).set 8 (.int (zI ↑(pos B n i + d + 1))) = obM ad sv (.ref (ad 230)) (mU m 8 ↑(pos B n i + (d + 1))) from rfl]
          refine v_run 1 (pc' := 9) (ls' := [some (.ref (ad 200)), none, none]) (st' := []) rfl ?_
          exact ihlp (d + 1) ⟨by omega, by rw [q2]; exact scn_go (by omega) (by simp [bB]; omega)⟩ (by omega)
    have lz := lp (n + 1) 0 ⟨pos_le i, rfl⟩ (by omega)
    rw [e0] at lz
    exact lz
  · exact absurd c5 h9

