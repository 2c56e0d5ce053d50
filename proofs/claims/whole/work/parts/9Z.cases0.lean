set_option maxRecDepth 100000 in
set_option maxHeartbeats 1000000 in
theorem cs_2 {G : ssG} {mc ms : Nat} {Q : Option Value → ssH → Prop} (hb : gV G 24 ≤ 3072) {ax am ao j : Nat} {h : ssH} (hj : 6 * j + 6 ≤ gV G 24) (li : LI ax am ao h) (kk : ∀ h', LI ax am ao h' → ssV G mL_law 13 mc ms Q 1658 (lL G ax am ao j) [] h') : ssV G mL_law 13 (mc) (ms) Q 358 (lL G ax am ao j) [] h := by
  obtain ⟨ad, pl, σ, E, τ, i, N, sv, rv, m, ρ, hA, ⟨rfl, rfl, rfl⟩, ho, hl, hm, lr, lt⟩ := li
  refine v_run 1 (pc' := 359) (ls' := lL G (ad 0) (ad 200) (ad 209) j) (st' := [.ref (ad 0)]) rfl ?_
  refine v_callV0 (My := mX8_fault) (As := []) (rest := []) rfl caX8_fault rfl rfl rfl hl.1.2.1 rfl rfl (k_fault G h hA hl.1 lt.ok) rfl rfl (Nat.le_of_ble_eq_true rfl) (by decide) (fun r h1 q1 => ?_)
  obtain ⟨rfl, rfl⟩ := q1
  refine v_run 1 (pc' := 363) (ls' := lL G (ad 0) (ad 200) (ad 209) j) (st' := [.ref (ad 200), .int (zI ↑(σ 0 7 0))]) rfl ?_
  refine v_callV0 (My := mX10_fault) (As := []) (rest := [.int (zI ↑(σ 0 7 0))]) rfl caX10_fault rfl rfl rfl hm.1 rfl rfl (q_fault G h hm.1) rfl rfl (Nat.le_of_ble_eq_true rfl) (by decide) (fun r h2 q2 => ?_)
  rw [lr.2.1] at q2
  obtain ⟨rfl, s2⟩ := q2
  refine v_run 0 (pc' := 366) (ls' := lL G (ad 0) (ad 200) (ad 209) j) (st' := [.int (zI ↑(σ 0 7 0)), .int (zI ↑(σ 0 7 0))]) rfl ?_
  exact v_icmp_eq rfl (fun _ => kk h2 (LI.ob hA ho hl hm (lr.z 0) rfl rfl rfl lt s2)) (fun z => absurd rfl z)

set_option maxRecDepth 100000 in
set_option maxHeartbeats 1000000 in
theorem cs_3 {G : ssG} {mc ms : Nat} {Q : Option Value → ssH → Prop} (hb : gV G 24 ≤ 3072) {ax am ao j : Nat} {h : ssH} (hj : 6 * j + 6 ≤ gV G 24) (li : LI ax am ao h) (kk : ∀ h', LI ax am ao h' → ssV G mL_law 13 mc ms Q 1658 (lL G ax am ao j) [] h') : ssV G mL_law 13 (mc) (ms) Q 371 (lL G ax am ao j) [] h := by
  obtain ⟨ad, pl, σ, E, τ, i, N, sv, rv, m, ρ, hA, ⟨rfl, rfl, rfl⟩, ho, hl, hm, lr, lt⟩ := li
  refine v_run 1 (pc' := 372) (ls' := lL G (ad 0) (ad 200) (ad 209) j) (st' := [.ref (ad 0)]) rfl ?_
  refine v_callV0 (My := mX8_where) (As := []) (rest := []) rfl caX8_where rfl rfl rfl hl.1.2.1 rfl rfl (k_where G h hA hl.1 lt.ok lr.2.2.2) rfl rfl (Nat.le_of_ble_eq_true rfl) (by decide) (fun r h1 q1 => ?_)
  obtain ⟨rfl, rfl⟩ := q1
  refine v_run 1 (pc' := 376) (ls' := lL G (ad 0) (ad 200) (ad 209) j) (st' := [.ref (ad 200), .int (zI (aWhere σ))]) rfl ?_
  refine v_callV0 (My := mX10_where) (As := []) (rest := [.int (zI (aWhere σ))]) rfl caX10_where rfl rfl rfl hm.1 rfl rfl (q_where G h hm.1) rfl rfl (Nat.le_of_ble_eq_true rfl) (by decide) (fun r h2 q2 => ?_)
  rw [lr.2.2.1] at q2
  obtain ⟨rfl, s2⟩ := q2
  refine v_run 0 (pc' := 379) (ls' := lL G (ad 0) (ad 200) (ad 209) j) (st' := [.int (zI (aWhere σ)), .int (zI (aWhere σ))]) rfl ?_
  exact v_icmp_eq rfl (fun _ => kk h2 (LI.ob hA ho hl hm (lr.z 0) rfl rfl rfl lt s2)) (fun z => absurd rfl z)

set_option maxRecDepth 100000 in
set_option maxHeartbeats 1000000 in
theorem cs_50 {G : ssG} {mc ms : Nat} {Q : Option Value → ssH → Prop} (hb : gV G 24 ≤ 3072) {ax am ao j : Nat} {h : ssH} (hj : 6 * j + 6 ≤ gV G 24) (li : LI ax am ao h) (kk : ∀ h', LI ax am ao h' → ssV G mL_law 13 mc ms Q 1658 (lL G ax am ao j) [] h') : ssV G mL_law 13 (mc) (ms) Q 1645 (lL G ax am ao j) [] h := by
  obtain ⟨ad, pl, σ, E, τ, i, N, sv, rv, m, ρ, hA, ⟨rfl, rfl, rfl⟩, ho, hl, hm, lr, lt⟩ := li
  refine v_run 1 (pc' := 1646) (ls' := lL G (ad 0) (ad 200) (ad 209) j) (st' := [.ref (ad 0)]) rfl ?_
  refine v_callV0 (My := mX8_trouble) (As := []) (rest := []) rfl caX8_trouble rfl rfl rfl hl.1.2.1 rfl rfl (k_trouble G h hA hl.1 lt.ok) rfl rfl (Nat.le_of_ble_eq_true rfl) (by decide) (fun r h1 q1 => ?_)
  obtain ⟨rfl, rfl⟩ := q1
  refine v_run 1 (pc' := 1650) (ls' := lL G (ad 0) (ad 200) (ad 209) j) (st' := [.ref (ad 200), .int (zI ↑(σ 0 6 0))]) rfl ?_
  refine v_callV0 (My := mX10_trouble) (As := []) (rest := [.int (zI ↑(σ 0 6 0))]) rfl caX10_trouble rfl rfl rfl hm.1 rfl rfl (q_trouble G h hm.1) rfl rfl (Nat.le_of_ble_eq_true rfl) (by decide) (fun r h2 q2 => ?_)
  rw [lr.1] at q2
  obtain ⟨rfl, s2⟩ := q2
  refine v_run 0 (pc' := 1653) (ls' := lL G (ad 0) (ad 200) (ad 209) j) (st' := [.int (zI ↑(σ 0 6 0)), .int (zI ↑(σ 0 6 0))]) rfl ?_
  exact v_icmp_eq rfl (fun _ => kk h2 (LI.ob hA ho hl hm (lr.z 0) rfl rfl rfl lt s2)) (fun z => absurd rfl z)

set_option maxRecDepth 100000 in
set_option maxHeartbeats 1000000 in
theorem cs_49 {G : ssG} {mc ms : Nat} {Q : Option Value → ssH → Prop} (hb : gV G 24 ≤ 3072) {ax am ao j : Nat} {h : ssH} (hj : 6 * j + 6 ≤ gV G 24) (li : LI ax am ao h) (kk : ∀ h', LI ax am ao h' → ssV G mL_law 13 mc ms Q 1658 (lL G ax am ao j) [] h') : ssV G mL_law 13 (mc) (ms) Q 1620 (lL G ax am ao j) [] h := by
  obtain ⟨ad, pl, σ, E, τ, i, N, sv, rv, m, ρ, hA, ⟨rfl, rfl, rfl⟩, ho, hl, hm, lr, lt⟩ := li
  refine v_run 1 (pc' := 1621) (ls' := lL G (ad 0) (ad 200) (ad 209) j) (st' := [.ref (ad 0)]) rfl ?_
  refine v_arg 1 (6 * j) (6 * j + 1) (pc' := 1626) rfl rfl (by omega) (by omega) hb ?_
  refine v_callV0 (My := mX8_size) (As := [.int (zI (scI G (6 * j + 1)))]) (rest := []) rfl caX8_size rfl rfl rfl hl.1.2.1 rfl rfl (k_size G h (L := eL E) hl.1 lt.ok hl.2.1.1 hl.2.1.2.1 (scI_bd G _)) rfl rfl (Nat.le_of_ble_eq_true rfl) (by decide) (fun r h1 q1 => ?_)
  obtain ⟨rfl, rfl⟩ := q1
  refine v_run 1 (pc' := 1631) (ls' := lL G (ad 0) (ad 200) (ad 209) j) (st' := [.ref (ad 200), .int (zI (aSize σ (eL E) (scI G (6 * j + 1))))]) rfl ?_
  refine v_arg 1 (6 * j) (6 * j + 1) (pc' := 1636) rfl rfl (by omega) (by omega) hb ?_
  have h6 : m 6 = eL E := hm.2.2.2.2.2.trans hl.2.2.2.2.1.symm
  have lt0 := lt
  rcases lt with ⟨ζ, c, k, rfl, mt, ra, h19, h20⟩ | ⟨rfl, u, hok, hz⟩
  · rw [size_same ra h6 h19 h20]
    refine v_callV0 (My := mX10_size) (As := [.int (zI (scI G (6 * j + 1)))]) (rest := [.int (zI (bSize ζ (ρ 2) m (scI G (6 * j + 1))))]) rfl caX10_size rfl rfl rfl hm.1 rfl rfl (q_size G h (scI G (6 * j + 1)) hA mt ra.1.2.1 (scI_bd G _)) rfl rfl (Nat.le_of_ble_eq_true rfl) (by decide) (fun r h2 q2 => ?_)
    obtain ⟨rfl, s2⟩ := q2
    refine v_run 0 (pc' := 1640) (ls' := lL G (ad 0) (ad 200) (ad 209) j) (st' := [.int (zI (bSize ζ (ρ 2) m (scI G (6 * j + 1)))), .int (zI (bSize ζ (ρ 2) m (scI G (6 * j + 1))))]) rfl ?_
    exact v_icmp_eq rfl (fun _ => kk h2 (LI.ob hA ho hl hm (lr.z 0) rfl rfl rfl lt0 s2)) (fun z => absurd rfl z)
  · rw [size_none u h6]
    refine v_callV0 (My := mX10_size) (As := [.int (zI (scI G (6 * j + 1)))]) (rest := [.int (zI (bSize0 m (scI G (6 * j + 1))))]) rfl caX10_size rfl rfl rfl hm.1 rfl rfl (q_size0 G h (scI G (6 * j + 1)) hm.1 (scI_bd G _)) rfl rfl (Nat.le_of_ble_eq_true rfl) (by decide) (fun r h2 q2 => ?_)
    obtain ⟨rfl, s2⟩ := q2
    refine v_run 0 (pc' := 1640) (ls' := lL G (ad 0) (ad 200) (ad 209) j) (st' := [.int (zI (bSize0 m (scI G (6 * j + 1)))), .int (zI (bSize0 m (scI G (6 * j + 1))))]) rfl ?_
    exact v_icmp_eq rfl (fun _ => kk h2 (LI.ob hA ho hl hm (lr.z 0) rfl rfl rfl lt0 s2)) (fun z => absurd rfl z)

set_option maxRecDepth 100000 in
set_option maxHeartbeats 1000000 in
theorem cs_0 {G : ssG} {mc ms : Nat} {Q : Option Value → ssH → Prop} (hb : gV G 24 ≤ 3072) {ax am ao j : Nat} {h : ssH} (hj : 6 * j + 6 ≤ gV G 24) (li : LI ax am ao h) (kk : ∀ h', LI ax am ao h' → ssV G mL_law 13 mc ms Q 1658 (lL G ax am ao j) [] h') : ssV G mL_law 13 (mc) (ms) Q 260 (lL G ax am ao j) [] h := by
  obtain ⟨ad, pl, σ, E, τ, i, N, sv, rv, m, ρ, hA, ⟨rfl, rfl, rfl⟩, ho, hl, hm, lr, lt⟩ := li
  refine v_run 1 (pc' := 261) (ls' := lL G (ad 0) (ad 200) (ad 209) j) (st' := [.ref (ad 0)]) rfl ?_
  refine v_arg 1 (6 * j) (6 * j + 1) (pc' := 266) rfl rfl (by omega) (by omega) hb ?_
  refine v_arg 2 (6 * j) (6 * j + 2) (pc' := 272) rfl rfl (by omega) (by omega) hb ?_
  refine v_arg 3 (6 * j) (6 * j + 3) (pc' := 278) rfl rfl (by omega) (by omega) hb ?_
  refine v_arg 4 (6 * j) (6 * j + 4) (pc' := 284) rfl rfl (by omega) (by omega) hb ?_
  refine v_arg 5 (6 * j) (6 * j + 5) (pc' := 290) rfl rfl (by omega) (by omega) hb ?_
  have ho2 : h (ad 2) = some (.inr (5, obR ad ↑N ↑(eS E i) ↑(eP E i) ↑(eK E i) (eV E i) ↑(eX E) ↑(eN E) ↑i)) := by rw [← hl.2.2.2.2.1]; exact hl.2.1.2.1
  refine v_callV0 (My := mX8_feed) (As := [.int (fW G j 0), .int (fW G j 1), .int (fW G j 2), .int (fW G j 3), .int (fW G j 4)]) (rest := []) rfl caX8_feed rfl rfl rfl hl.1.2.1 rfl rfl (k_feed G h (W := fW G j) hA hl.1.2.1 hl.2.1.1 ho2 hl.2.1.2.2.1.1 hl.2.2.2.2.2.1) rfl rfl (Nat.le_of_ble_eq_true rfl) (by decide) (fun r h1 q1 => ?_)
  by_cases h20 : 900 < N + 20
  · rw [cFd, if_pos h20] at q1
    obtain ⟨rfl, rfl⟩ := q1
    refine v_run 1 (pc' := 295) (ls' := lL G (ad 0) (ad 200) (ad 209) j) (st' := [.ref (ad 200), .int (zI (-1))]) rfl ?_
    refine v_arg 1 (6 * j) (6 * j + 1) (pc' := 300) rfl rfl (by omega) (by omega) hb ?_
    refine v_arg 2 (6 * j) (6 * j + 2) (pc' := 306) rfl rfl (by omega) (by omega) hb ?_
    refine v_arg 3 (6 * j) (6 * j + 3) (pc' := 312) rfl rfl (by omega) (by omega) hb ?_
    refine v_arg 4 (6 * j) (6 * j + 4) (pc' := 318) rfl rfl (by omega) (by omega) hb ?_
    refine v_arg 5 (6 * j) (6 * j + 5) (pc' := 324) rfl rfl (by omega) (by omega) hb ?_
    refine v_callV0 (My := mX10_feed) (As := [.int (fW G j 0), .int (fW G j 1), .int (fW G j 2), .int (fW G j 3), .int (fW G j 4)]) (rest := [.int (zI (-1))]) rfl caX10_feed rfl rfl rfl hm.1 rfl rfl (g_feed G h (W := fW G j) hA hm.1 hm.2.1 hm.2.2.2.2.2 hl.2.2.2.2.2.1) rfl rfl (Nat.le_of_ble_eq_true rfl) (by decide) (fun r h2 q2 => ?_)
    rw [mFd, if_pos h20] at q2
    obtain ⟨rfl, s2⟩ := q2
    refine v_run 0 (pc' := 328) (ls' := lL G (ad 0) (ad 200) (ad 209) j) (st' := [.int (zI (-1)), .int (zI (-1))]) rfl ?_
    exact v_icmp_eq rfl (fun _ => kk h2 (LI.ob hA ho hl hm (lr.z 0) rfl rfl rfl lt s2)) (fun z => absurd rfl z)
  · rw [cFd, if_neg h20] at q1
    obtain ⟨rfl, s1⟩ := q1
    have f1 : fr200 ad h h1 := by rw [← s1]; exact ((fr200.rf ad h).set (by decide) _).set (by decide) _
    have m1 := hm.f2 hA f1
    refine v_run 1 (pc' := 295) (ls' := lL G (ad 0) (ad 200) (ad 209) j) (st' := [.ref (ad 200), .int (zI ↑(N + 20))]) rfl ?_
    refine v_arg 1 (6 * j) (6 * j + 1) (pc' := 300) rfl rfl (by omega) (by omega) hb ?_
    refine v_arg 2 (6 * j) (6 * j + 2) (pc' := 306) rfl rfl (by omega) (by omega) hb ?_
    refine v_arg 3 (6 * j) (6 * j + 3) (pc' := 312) rfl rfl (by omega) (by omega) hb ?_
    refine v_arg 4 (6 * j) (6 * j + 4) (pc' := 318) rfl rfl (by omega) (by omega) hb ?_
    refine v_arg 5 (6 * j) (6 * j + 5) (pc' := 324) rfl rfl (by omega) (by omega) hb ?_
    refine v_callV0 (My := mX10_feed) (As := [.int (fW G j 0), .int (fW G j 1), .int (fW G j 2), .int (fW G j 3), .int (fW G j 4)]) (rest := [.int (zI ↑(N + 20))]) rfl caX10_feed rfl rfl rfl m1.1 rfl rfl (g_feed G h1 (W := fW G j) hA m1.1 m1.2.1 m1.2.2.2.2.2 hl.2.2.2.2.2.1) rfl rfl (Nat.le_of_ble_eq_true rfl) (by decide) (fun r h2 q2 => ?_)
    rw [mFd, if_neg h20] at q2
    obtain ⟨rfl, s2⟩ := q2
    refine v_run 0 (pc' := 328) (ls' := lL G (ad 0) (ad 200) (ad 209) j) (st' := [.int (zI ↑(N + 20)), .int (zI ↑(N + 20))]) rfl ?_
    exact v_icmp_eq rfl (fun _ => kk h2 (LI.feed hA ho hl hm lr lt (fW G j) h20 s1 s2)) (fun z => absurd rfl z)

set_option maxRecDepth 100000 in
set_option maxHeartbeats 1000000 in
theorem cs_1 {G : ssG} {mc ms : Nat} {Q : Option Value → ssH → Prop} (hb : gV G 24 ≤ 3072) {ax am ao j : Nat} {h : ssH} (hj : 6 * j + 6 ≤ gV G 24) (li : LI ax am ao h) (kk : ∀ h', LI ax am ao h' → ssV G mL_law 13 mc ms Q 1658 (lL G ax am ao j) [] h') : ssV G mL_law 13 (13 + mc) (125 + ms) Q 333 (lL G ax am ao j) [] h := by
  obtain ⟨ad, pl, σ, E, τ, i, N, sv, rv, m, ρ, hA, ⟨rfl, rfl, rfl⟩, ho, hl, hm, lr, lt⟩ := li
  refine v_run 1 (pc' := 334) (ls' := lL G (ad 0) (ad 200) (ad 209) j) (st' := [.ref (ad 0)]) rfl ?_
  refine v_arg 1 (6 * j) (6 * j + 1) (pc' := 339) rfl rfl (by omega) (by omega) hb ?_
  refine v_callV0 (My := mX8_safe) (As := [.int (zI (scI G (6 * j + 1)))]) (rest := []) rfl caX8_safe rfl rfl rfl hl.1.2.1 rfl rfl (k_safe G h (po := 33 - pl) hA (by have := hl.1.1; omega) (by have := hl.1.1; omega) hl.1 lt.ok lt.z lt.u hl.2.1 hl.2.2.1 hl.2.2.2.2.2.2.1 hl.2.2.2.2.1 hl.2.2.2.2.2.1 (scI_bd G _) hl.2.2.2.2.2.2.2) rfl rfl (Nat.le_of_ble_eq_true rfl) (by decide) (fun r h1 q1 => ?_)
  have hq : ∀ v : Int32, r = some (.int v) → (hm1 : LM h1 ad sv rv m ρ (eB E) N) → (∀ r2 h2, SfA ad sv rv m (eB E) h1 N (scI G (6 * j + 1)) r2 h2 → r2 = some (.int v) ∧ LI (ad 0) (ad 200) (ad 209) h2) → ssV G mL_law 13 (13 + mc) (125 + ms) Q 343 (lL G (ad 0) (ad 200) (ad 209) j) (r.toList ++ []) h1 := by
    intro v hv hm1 fin
    subst hv
    refine v_run 1 (pc' := 344) (ls' := lL G (ad 0) (ad 200) (ad 209) j) (st' := [.ref (ad 200), .int v]) rfl ?_
    refine v_arg 1 (6 * j) (6 * j + 1) (pc' := 349) rfl rfl (by omega) (by omega) hb ?_
    refine v_callV (My := mX10_safe) (As := [.int (zI (scI G (6 * j + 1)))]) (rest := [.int v]) (mc := mc) (ms := ms) rfl caX10_safe rfl rfl rfl hm1.1 rfl rfl (g_safe G h1 hA hl.2.2.2.2.2.2.1 hm1.1 hm1.2.1 hm1.2.2.1 hm1.2.2.2.1 hm1.2.2.2.2.1 hm1.2.2.2.2.2 hl.2.2.2.2.2.1 (scI_bd G _)) rfl rfl (Nat.le_of_ble_eq_true rfl) (by decide) (fun r2 h2 q2 => ?_)
    obtain ⟨rfl, li⟩ := fin r2 h2 q2
    refine v_run 0 (pc' := 353) (ls' := lL G (ad 0) (ad 200) (ad 209) j) (st' := [.int v, .int v]) rfl ?_
    exact v_icmp_eq rfl (fun _ => kk h2 li) (fun z => absurd rfl z)
  by_cases hr : (scI G (6 * j + 1)) < 0 ∨ ↑N < (scI G (6 * j + 1))
  · rw [KsA, if_pos hr] at q1
    obtain ⟨e1, c1, f1⟩ := q1
    refine hq _ e1 (hm.f2 hA f1.1) (fun r2 h2 q2 => ?_)
    rw [SfA, if_pos hr] at q2
    exact ⟨q2.1, LI.tr (t := 2) hA ho hl hm lr lt rfl ⟨by decide, by decide⟩ c1 f1 q2.2⟩
  · rw [KsA, if_neg hr] at q1
    cases hp : parse (eB E) (scI G (6 * j + 1)).toNat 901 z00 0 with
    | inl e =>
      rw [hp] at q1
      have f1 := (hl.sfBad hA q1).2.choose_spec.choose_spec.choose_spec.2.2.2.2
      refine hq _ (hl.sfBad hA q1).1 (hm.f2 hA f1) (fun r2 h2 q2 => ?_)
      rw [SfA, if_neg hr, hp] at q2
      exact (LI.bad hA ho hl hm lt q1 q2).2
    | inr ζ =>
      rw [hp] at q1
      have f1 := (hl.sfGood hA q1).2.choose_spec.choose_spec.choose_spec.2.2.2.2.2.2
      refine hq _ (hl.sfGood hA q1).1 (hm.f2 hA f1) (fun r2 h2 q2 => ?_)
      rw [SfA, if_neg hr, hp] at q2
      exact (LI.good hA ho hl hm lt q1 q2).2

set_option maxRecDepth 100000 in
set_option maxHeartbeats 1000000 in
theorem cs_48 {G : ssG} (hst : (gL G).stackTraces = false) {mc ms : Nat} {Q : Option Value → ssH → Prop} (hb : gV G 24 ≤ 3072) {ax am ao j : Nat} {h : ssH} (hj : 6 * j + 6 ≤ gV G 24) (li : LI ax am ao h) (kk : ∀ h', LI ax am ao h' → ssV G mL_law 13 mc ms Q 1658 (lL G ax am ao j) [] h') : ssV G mL_law 13 (1 + mc) (6 + ms) Q 1564 (lL G ax am ao j) [] h := by
  obtain ⟨ad, pl, σ, E, τ, i, N, sv, rv, m, ρ, hA, ⟨rfl, rfl, rfl⟩, ho, hl, hm, lr, lt⟩ := li
  refine v_run 1 (pc' := 1565) (ls' := lL G (ad 0) (ad 200) (ad 209) j) (st' := [.ref (ad 0)]) rfl ?_
  refine v_arg 1 (6 * j) (6 * j + 1) (pc' := 1570) rfl rfl (by omega) (by omega) hb ?_
  refine v_run 1 (pc' := 1572) (ls' := lL G (ad 0) (ad 200) (ad 209) j) (st' := [.ref (ad 209), .int (zI (scI G (6 * j + 1))), .ref (ad 0)]) rfl ?_
  obtain ⟨v, hv⟩ := ho
  refine v_ledS (As := [.ref (ad 0), .int (zI (scI G (6 * j + 1))), .ref (ad 209)]) (rest := []) (mc := mc) (ms := ms) (t_led G h (scI G (6 * j + 1)) hst hl.1 lt.ok (scI_bd G _) hv) rfl rfl (Nat.le_of_ble_eq_true rfl) (by decide) (fun r h1 q1 => ?_)
  have hb5 : σ 1 5 0 ≤ 6 := lt.ok.1.2.2.2.2.1
  have hbl := lwG_ok (fun k => σ 3 5 (k - 12)) (scI G (6 * j + 1)) (σ 1 5 0) 0 0
  have hq : ∀ (w : Int) (h1 : ssH), (w = 0 ∨ w = 1) → w = (aLed σ (scI G (6 * j + 1))).2 → LOu h1 (ad 209) → LC h1 ad pl σ E τ i N → LM h1 ad sv rv m ρ (eB E) N → LTd h1 ad σ sv rv m ρ → (w = 0 → ∃ v, h1 (ad 209) = some (.inl (2, 1, .inr (.inl v))) ∧ v 0 = zL (aLed σ (scI G (6 * j + 1))).1) → ssV G mL_law 13 mc ms Q 1575 (lL G (ad 0) (ad 200) (ad 209) j) [.int (zI w)] h1 := by
    intro w h1 hw hwa ho1 l1 m1 lt1 hv1
    refine v_run 2 (pc' := 1578) (ls' := [some (.ref (gV G 23)), some (.ref (ad 0)), some (.ref (ad 200)), some (.ref (ad 209)), some (.int (zI ↑(6 * j))), some (.int (zI w)), none]) (st' := [.ref (ad 200)]) rfl ?_
    refine v_arg 1 (6 * j) (6 * j + 1) (pc' := 1583) rfl rfl (by omega) (by omega) hb ?_
    have hm2 : ∃ a : Int, (0 ≤ a ∧ a ≤ 6 ∧ (w = 0 → a = (aLed σ (scI G (6 * j + 1))).1)) ∧ ssC G mX10_led 0 0 0 [.ref (ad 200), .int (zI (scI G (6 * j + 1)))] h1 (fun r h' => r = some (.int (zI a)) ∧ hset h1 (ad 200) (.inr (10, obM ad sv rv (mU m 0 w))) = h') := by
      rcases lt1 with ⟨ζ, c, k, rfl, mt, ra, h19, h20⟩ | ⟨rfl, u, hok, hz⟩
      · have q := q_led G h1 (scI G (6 * j + 1)) hA mt ra.1.2.1 ra.2.1.2 (scI_bd G _)
        rw [e_led ra.1.1 ra.2.1.1, ← hwa] at q
        refine ⟨(aLed σ (scI G (6 * j + 1))).1, ⟨hbl.1, ?_, fun _ => rfl⟩, q⟩
        have := hbl.2.1
        show (lwG _ _ _ _ _).1 ≤ 6
        omega
      · have q := q_led0 G h1 (zI (scI G (6 * j + 1))) m1.1
        have e1 : w = 1 := by rw [hwa]; unfold aLed; rw [u.1 1 (by decide) 5 0]; rfl
        rw [← e1] at q
        exact ⟨0, ⟨by decide, by decide, fun z => absurd (z.symm.trans e1) (by decide)⟩, q⟩
    obtain ⟨a, ⟨ha0, ha6, haw⟩, ca⟩ := hm2
    refine v_callV0 (My := mX10_led) (As := [.int (zI (scI G (6 * j + 1)))]) (rest := []) rfl caX10_led rfl rfl rfl m1.1 rfl rfl ca rfl rfl (Nat.le_of_ble_eq_true rfl) (by decide) (fun r h2 q2 => ?_)
    obtain ⟨rfl, s2⟩ := q2
    have li : LI (ad 0) (ad 200) (ad 209) h2 := LI.ob hA ho1 l1 m1 (lr.z w) rfl rfl rfl lt1 s2
    have o2 : h2 (ad 200) = some (.inr (10, obM ad sv rv (mU m 0 w))) := by rw [← s2]; exact hset_self _ _ _
    have o9 : h2 (ad 209) = h1 (ad 209) := by rw [← s2]; exact hset_ne _ _ (ad_ne hA (by decide))
    refine v_run 2 (pc' := 1590) (ls' := [some (.ref (gV G 23)), some (.ref (ad 0)), some (.ref (ad 200)), some (.ref (ad 209)), some (.int (zI ↑(6 * j))), some (.int (zI w)), some (.int (zI a))]) (st' := [.ref (ad 200)]) rfl ?_
    refine v_callV0 (My := mX10_thrown) (As := []) (rest := []) rfl caX10_thrown rfl rfl rfl o2 rfl rfl (q_thrown G h2 o2) rfl rfl (Nat.le_of_ble_eq_true rfl) (by decide) (fun r h3 q3 => ?_)
    obtain ⟨rfl, rfl⟩ := q3
    refine v_run 1 (pc' := 1595) (ls' := [some (.ref (gV G 23)), some (.ref (ad 0)), some (.ref (ad 200)), some (.ref (ad 209)), some (.int (zI ↑(6 * j))), some (.int (zI w)), some (.int (zI a))]) (st' := [.int (zI w), .int (zI w)]) rfl ?_
    refine v_icmp_eq rfl (fun _ => ?_) (fun z => absurd rfl z)
    refine v_run 1 (pc' := 1602) (ls' := [some (.ref (gV G 23)), some (.ref (ad 0)), some (.ref (ad 200)), some (.ref (ad 209)), some (.int (zI ↑(6 * j))), some (.int (zI w)), some (.int (zI a))]) (st' := [.int (zI w)]) rfl ?_
    have gone : ssV G mL_law 13 mc ms Q 1617 [some (.ref (gV G 23)), some (.ref (ad 0)), some (.ref (ad 200)), some (.ref (ad 209)), some (.int (zI ↑(6 * j))), some (.int (zI w)), some (.int (zI a))] [] h2 := by
      refine v_run 1 (pc' := 1658) (ls' := [some (.ref (gV G 23)), some (.ref (ad 0)), some (.ref (ad 200)), some (.ref (ad 209)), some (.int (zI ↑(6 * j))), some (.int (zI w)), some (.int (zI a))]) (st' := []) rfl ?_
      refine v_drop 5 rfl (v_drop 6 rfl ?_)
      exact kk h2 li
    refine v_if_ne rfl (fun _ => gone) (fun z => ?_)
    rw [zI_eq0 (by omega) (by omega)] at z
    obtain ⟨v, hv, hv0⟩ := hv1 z
    refine v_run 2 (pc' := 1607) (ls' := [some (.ref (gV G 23)), some (.ref (ad 0)), some (.ref (ad 200)), some (.ref (ad 209)), some (.int (zI ↑(6 * j))), some (.int (zI w)), some (.int (zI a))]) (st' := [.int (zI 0), .ref (ad 209)]) rfl ?_
    refine v_laload' rfl (o9.trans hv) 0 rfl (by decide) ?_
    rw [hv0, ← haw z]
    refine v_run 3 (pc' := 1612) (ls' := [some (.ref (gV G 23)), some (.ref (ad 0)), some (.ref (ad 200)), some (.ref (ad 209)), some (.int (zI ↑(6 * j))), some (.int (zI w)), some (.int (zI a))]) (st' := [.int (lg_cmp (zL a) (zI a).toInt64)]) rfl ?_
    rw [zI_l (by omega) (by omega), lgc_self]
    exact v_if_eq rfl (fun _ => gone) (fun z => absurd rfl z)
  rcases q1 with ⟨w1, rfl, rfl⟩ | ⟨w0, rfl, s1⟩
  · exact hq 1 h (Or.inr rfl) w1.symm ⟨v, hv⟩ hl hm lt (fun z => absurd z (by decide))
  · have o9 : h1 (ad 209) = some (.inl (2, 1, .inr (.inl (vp_updL v 0 (zL (aLed σ (scI G (6 * j + 1))).1))))) := by rw [← s1]; exact hset_self _ _ _
    have k9 : ∀ k, k ≠ 209 → h1 (ad k) = h (ad k) := fun k hk => by rw [← s1]; exact hset_ne _ _ (ad_ne hA hk)
    refine hq 0 h1 (Or.inl rfl) w0.symm ⟨_, o9⟩ (hl.ag (fun k hk => k9 k (by omega))) (hm.ag (fun k h1 h2 => k9 k (by omega))) ?_ (fun _ => ⟨_, o9, by simp [vp_updL]⟩)
    rcases lt with ⟨ζ, c, k, rfl, mt, q⟩ | q
    · exact Or.inl ⟨ζ, c, k, rfl, mt.ag (fun k _ _ hk2 => k9 k hk2), q⟩
    · exact Or.inr q

