set_option maxRecDepth 100000 in
set_option maxHeartbeats 1000000 in
theorem cs_4 {G : ssG} {mc ms : Nat} {Q : Option Value → ssH → Prop} (hb : gV G 24 ≤ 3072) {ax am ao j : Nat} {h : ssH} (hj : 6 * j + 6 ≤ gV G 24) (li : LI ax am ao h) (kk : ∀ h', LI ax am ao h' → ssV G mL_law 13 mc ms Q 1658 (lL G ax am ao j) [] h') : ssV G mL_law 13 (mc) (ms) Q 384 (lL G ax am ao j) [] h := by
  obtain ⟨ad, pl, σ, E, τ, i, N, sv, rv, m, ρ, hA, ⟨rfl, rfl, rfl⟩, ho, hl, hm, lr, lt⟩ := li
  refine v_run 1 (pc' := 385) (ls' := lL G (ad 0) (ad 200) (ad 209) j) (st' := [.ref (ad 0)]) rfl ?_
  refine v_arg 1 (6 * j) (6 * j + 1) (pc' := 390) rfl rfl (by omega) (by omega) hb ?_
  refine v_arg 2 (6 * j) (6 * j + 2) (pc' := 396) rfl rfl (by omega) (by omega) hb ?_
  refine v_callV0 (My := mX8_senator) (As := [.int (zI (scI G (6 * j + 1))), .int (zI (scI G (6 * j + 2)))]) (rest := []) rfl caX8_senator rfl rfl rfl hl.1.2.1 rfl rfl (k_senator G h (scI G (6 * j + 1)) (scI G (6 * j + 2)) hA hl.1 lt.ok (scI_bd G _) (scI_bd G _)) rfl rfl (Nat.le_of_ble_eq_true rfl) (by decide) (fun r h1 q1 => ?_)
  obtain ⟨rfl, c1, f1⟩ := q1
  refine v_run 1 (pc' := 401) (ls' := lL G (ad 0) (ad 200) (ad 209) j) (st' := [.ref (ad 200), .int (zI (aSenator σ (scI G (6 * j + 1)) (scI G (6 * j + 2))).1)]) rfl ?_
  refine v_arg 1 (6 * j) (6 * j + 1) (pc' := 406) rfl rfl (by omega) (by omega) hb ?_
  refine v_arg 2 (6 * j) (6 * j + 2) (pc' := 412) rfl rfl (by omega) (by omega) hb ?_
  rcases lt with ⟨ζ, c, k, rfl, mt, ra, h19, h20⟩ | ⟨rfl, u, hok, hz⟩
  · have mt1 := mt.ag (fun k hk _ _ => f1.1.kp hA hk)
    refine v_callV0 (My := mX10_senator) (As := [.int (zI (scI G (6 * j + 1))), .int (zI (scI G (6 * j + 2)))]) (rest := [.int (zI (aSenator σ (scI G (6 * j + 1)) (scI G (6 * j + 2))).1)]) rfl caX10_senator rfl rfl rfl mt1.1.1 rfl rfl (q_senator G h1 (scI G (6 * j + 1)) (scI G (6 * j + 2)) hA mt1 ra.1.2.1 ra.2.1.2 ra.d99 (scI_bd G _) (scI_bd G _)) rfl rfl (Nat.le_of_ble_eq_true rfl) (by decide) (fun r h2 q2 => ?_)
    rw [(e_senator ra.1.1 ra.2.1.1 (scI G (6 * j + 1)) (scI G (6 * j + 2)))] at q2
    obtain ⟨rfl, s2⟩ := q2
    refine v_run 0 (pc' := 416) (ls' := lL G (ad 0) (ad 200) (ad 209) j) (st' := [.int (zI (aSenator σ (scI G (6 * j + 1)) (scI G (6 * j + 2))).1), .int (zI (aSenator σ (scI G (6 * j + 1)) (scI G (6 * j + 2))).1)]) rfl ?_
    exact v_icmp_eq rfl (fun _ => kk h2 (LI.q1 hA ho hl hm lr ra h19 h20 (n4_aSenator σ _ _) c1 f1 s2)) (fun z => absurd rfl z)
  · have m1 := hm.f2 hA f1.1
    rw [u_aSenator u _ _] at c1 ⊢
    rw [show zI ((-1 : Int), (1 : Nat)).1 = zI (-1) from rfl]
    refine v_callV0 (My := mX10_senator) (As := [.int (zI (scI G (6 * j + 1))), .int (zI (scI G (6 * j + 2)))]) (rest := [.int (zI (-1))]) rfl caX10_senator rfl rfl rfl m1.1 rfl rfl (q_senator0 G h1 (zI (scI G (6 * j + 1))) (zI (scI G (6 * j + 2))) m1.1) rfl rfl (Nat.le_of_ble_eq_true rfl) (by decide) (fun r h2 q2 => ?_)
    obtain ⟨rfl, s2⟩ := q2
    refine v_run 0 (pc' := 416) (ls' := lL G (ad 0) (ad 200) (ad 209) j) (st' := [.int (zI (-1)), .int (zI (-1))]) rfl ?_
    exact v_icmp_eq rfl (fun _ => kk h2 (LI.q0 (t := 1) hA ho hl hm lr u hok hz rfl ⟨by decide, by decide⟩ c1 f1 s2)) (fun z => absurd rfl z)

set_option maxRecDepth 100000 in
set_option maxHeartbeats 1000000 in
theorem cs_5 {G : ssG} {mc ms : Nat} {Q : Option Value → ssH → Prop} (hb : gV G 24 ≤ 3072) {ax am ao j : Nat} {h : ssH} (hj : 6 * j + 6 ≤ gV G 24) (li : LI ax am ao h) (kk : ∀ h', LI ax am ao h' → ssV G mL_law 13 mc ms Q 1658 (lL G ax am ao j) [] h') : ssV G mL_law 13 (mc) (ms) Q 421 (lL G ax am ao j) [] h := by
  obtain ⟨ad, pl, σ, E, τ, i, N, sv, rv, m, ρ, hA, ⟨rfl, rfl, rfl⟩, ho, hl, hm, lr, lt⟩ := li
  refine v_run 1 (pc' := 422) (ls' := lL G (ad 0) (ad 200) (ad 209) j) (st' := [.ref (ad 0)]) rfl ?_
  refine v_arg 1 (6 * j) (6 * j + 1) (pc' := 427) rfl rfl (by omega) (by omega) hb ?_
  refine v_arg 2 (6 * j) (6 * j + 2) (pc' := 433) rfl rfl (by omega) (by omega) hb ?_
  refine v_callV0 (My := mX8_hook) (As := [.int (zI (scI G (6 * j + 1))), .int (zI (scI G (6 * j + 2)))]) (rest := []) rfl caX8_hook rfl rfl rfl hl.1.2.1 rfl rfl (k_hook G h (scI G (6 * j + 1)) (scI G (6 * j + 2)) hA hl.1 lt.ok (scI_bd G _) (scI_bd G _)) rfl rfl (Nat.le_of_ble_eq_true rfl) (by decide) (fun r h1 q1 => ?_)
  obtain ⟨rfl, c1, f1⟩ := q1
  refine v_run 1 (pc' := 438) (ls' := lL G (ad 0) (ad 200) (ad 209) j) (st' := [.ref (ad 200), .int (zI (aHook σ (scI G (6 * j + 1)) (scI G (6 * j + 2))).1)]) rfl ?_
  refine v_arg 1 (6 * j) (6 * j + 1) (pc' := 443) rfl rfl (by omega) (by omega) hb ?_
  refine v_arg 2 (6 * j) (6 * j + 2) (pc' := 449) rfl rfl (by omega) (by omega) hb ?_
  rcases lt with ⟨ζ, c, k, rfl, mt, ra, h19, h20⟩ | ⟨rfl, u, hok, hz⟩
  · have mt1 := mt.ag (fun k hk _ _ => f1.1.kp hA hk)
    refine v_callV0 (My := mX10_hook) (As := [.int (zI (scI G (6 * j + 1))), .int (zI (scI G (6 * j + 2)))]) (rest := [.int (zI (aHook σ (scI G (6 * j + 1)) (scI G (6 * j + 2))).1)]) rfl caX10_hook rfl rfl rfl mt1.1.1 rfl rfl (q_hook G h1 (scI G (6 * j + 1)) (scI G (6 * j + 2)) hA mt1 ra.1.2.1 ra.2.1.2 ra.d99 (scI_bd G _) (scI_bd G _)) rfl rfl (Nat.le_of_ble_eq_true rfl) (by decide) (fun r h2 q2 => ?_)
    rw [(e_hook ra.1.1 ra.2.1.1 (scI G (6 * j + 1)) (scI G (6 * j + 2)))] at q2
    obtain ⟨rfl, s2⟩ := q2
    refine v_run 0 (pc' := 453) (ls' := lL G (ad 0) (ad 200) (ad 209) j) (st' := [.int (zI (aHook σ (scI G (6 * j + 1)) (scI G (6 * j + 2))).1), .int (zI (aHook σ (scI G (6 * j + 1)) (scI G (6 * j + 2))).1)]) rfl ?_
    exact v_icmp_eq rfl (fun _ => kk h2 (LI.q1 hA ho hl hm lr ra h19 h20 (n4_aHook σ _ _) c1 f1 s2)) (fun z => absurd rfl z)
  · have m1 := hm.f2 hA f1.1
    rw [u_aHook u _ _] at c1 ⊢
    rw [show zI ((-1 : Int), (1 : Nat)).1 = zI (-1) from rfl]
    refine v_callV0 (My := mX10_hook) (As := [.int (zI (scI G (6 * j + 1))), .int (zI (scI G (6 * j + 2)))]) (rest := [.int (zI (-1))]) rfl caX10_hook rfl rfl rfl m1.1 rfl rfl (q_hook0 G h1 (zI (scI G (6 * j + 1))) (zI (scI G (6 * j + 2))) m1.1) rfl rfl (Nat.le_of_ble_eq_true rfl) (by decide) (fun r h2 q2 => ?_)
    obtain ⟨rfl, s2⟩ := q2
    refine v_run 0 (pc' := 453) (ls' := lL G (ad 0) (ad 200) (ad 209) j) (st' := [.int (zI (-1)), .int (zI (-1))]) rfl ?_
    exact v_icmp_eq rfl (fun _ => kk h2 (LI.q0 (t := 1) hA ho hl hm lr u hok hz rfl ⟨by decide, by decide⟩ c1 f1 s2)) (fun z => absurd rfl z)

set_option maxRecDepth 100000 in
set_option maxHeartbeats 1000000 in
theorem cs_6 {G : ssG} {mc ms : Nat} {Q : Option Value → ssH → Prop} (hb : gV G 24 ≤ 3072) {ax am ao j : Nat} {h : ssH} (hj : 6 * j + 6 ≤ gV G 24) (li : LI ax am ao h) (kk : ∀ h', LI ax am ao h' → ssV G mL_law 13 mc ms Q 1658 (lL G ax am ao j) [] h') : ssV G mL_law 13 (mc) (ms) Q 458 (lL G ax am ao j) [] h := by
  obtain ⟨ad, pl, σ, E, τ, i, N, sv, rv, m, ρ, hA, ⟨rfl, rfl, rfl⟩, ho, hl, hm, lr, lt⟩ := li
  refine v_run 1 (pc' := 459) (ls' := lL G (ad 0) (ad 200) (ad 209) j) (st' := [.ref (ad 0)]) rfl ?_
  refine v_arg 1 (6 * j) (6 * j + 1) (pc' := 464) rfl rfl (by omega) (by omega) hb ?_
  refine v_arg 2 (6 * j) (6 * j + 2) (pc' := 470) rfl rfl (by omega) (by omega) hb ?_
  refine v_callV0 (My := mX8_act) (As := [.int (zI (scI G (6 * j + 1))), .int (zI (scI G (6 * j + 2)))]) (rest := []) rfl caX8_act rfl rfl rfl hl.1.2.1 rfl rfl (k_act G h (scI G (6 * j + 1)) (scI G (6 * j + 2)) hA hl.1 lt.ok (scI_bd G _) (scI_bd G _)) rfl rfl (Nat.le_of_ble_eq_true rfl) (by decide) (fun r h1 q1 => ?_)
  obtain ⟨rfl, c1, f1⟩ := q1
  refine v_run 1 (pc' := 475) (ls' := lL G (ad 0) (ad 200) (ad 209) j) (st' := [.ref (ad 200), .int (zI (aAct σ (scI G (6 * j + 1)) (scI G (6 * j + 2))).1)]) rfl ?_
  refine v_arg 1 (6 * j) (6 * j + 1) (pc' := 480) rfl rfl (by omega) (by omega) hb ?_
  refine v_arg 2 (6 * j) (6 * j + 2) (pc' := 486) rfl rfl (by omega) (by omega) hb ?_
  rcases lt with ⟨ζ, c, k, rfl, mt, ra, h19, h20⟩ | ⟨rfl, u, hok, hz⟩
  · have mt1 := mt.ag (fun k hk _ _ => f1.1.kp hA hk)
    refine v_callV0 (My := mX10_act) (As := [.int (zI (scI G (6 * j + 1))), .int (zI (scI G (6 * j + 2)))]) (rest := [.int (zI (aAct σ (scI G (6 * j + 1)) (scI G (6 * j + 2))).1)]) rfl caX10_act rfl rfl rfl mt1.1.1 rfl rfl (q_act G h1 (scI G (6 * j + 1)) (scI G (6 * j + 2)) hA mt1 ra.1.2.1 ra.2.1.2 ra.d99 (scI_bd G _) (scI_bd G _)) rfl rfl (Nat.le_of_ble_eq_true rfl) (by decide) (fun r h2 q2 => ?_)
    rw [(e_act ra.1.1 ra.1.2.1 ra.2.1.1 (scI G (6 * j + 1)) (scI G (6 * j + 2)))] at q2
    obtain ⟨rfl, s2⟩ := q2
    refine v_run 0 (pc' := 490) (ls' := lL G (ad 0) (ad 200) (ad 209) j) (st' := [.int (zI (aAct σ (scI G (6 * j + 1)) (scI G (6 * j + 2))).1), .int (zI (aAct σ (scI G (6 * j + 1)) (scI G (6 * j + 2))).1)]) rfl ?_
    exact v_icmp_eq rfl (fun _ => kk h2 (LI.q1 hA ho hl hm lr ra h19 h20 (n4_aAct σ _ _) c1 f1 s2)) (fun z => absurd rfl z)
  · have m1 := hm.f2 hA f1.1
    rw [u_aAct u _ _] at c1 ⊢
    rw [show zI ((-1 : Int), (1 : Nat)).1 = zI (-1) from rfl]
    refine v_callV0 (My := mX10_act) (As := [.int (zI (scI G (6 * j + 1))), .int (zI (scI G (6 * j + 2)))]) (rest := [.int (zI (-1))]) rfl caX10_act rfl rfl rfl m1.1 rfl rfl (q_act0 G h1 (zI (scI G (6 * j + 1))) (zI (scI G (6 * j + 2))) m1.1) rfl rfl (Nat.le_of_ble_eq_true rfl) (by decide) (fun r h2 q2 => ?_)
    obtain ⟨rfl, s2⟩ := q2
    refine v_run 0 (pc' := 490) (ls' := lL G (ad 0) (ad 200) (ad 209) j) (st' := [.int (zI (-1)), .int (zI (-1))]) rfl ?_
    exact v_icmp_eq rfl (fun _ => kk h2 (LI.q0 (t := 1) hA ho hl hm lr u hok hz rfl ⟨by decide, by decide⟩ c1 f1 s2)) (fun z => absurd rfl z)

set_option maxRecDepth 100000 in
set_option maxHeartbeats 1000000 in
theorem cs_7 {G : ssG} {mc ms : Nat} {Q : Option Value → ssH → Prop} (hb : gV G 24 ≤ 3072) {ax am ao j : Nat} {h : ssH} (hj : 6 * j + 6 ≤ gV G 24) (li : LI ax am ao h) (kk : ∀ h', LI ax am ao h' → ssV G mL_law 13 mc ms Q 1658 (lL G ax am ao j) [] h') : ssV G mL_law 13 (mc) (ms) Q 495 (lL G ax am ao j) [] h := by
  obtain ⟨ad, pl, σ, E, τ, i, N, sv, rv, m, ρ, hA, ⟨rfl, rfl, rfl⟩, ho, hl, hm, lr, lt⟩ := li
  refine v_run 1 (pc' := 496) (ls' := lL G (ad 0) (ad 200) (ad 209) j) (st' := [.ref (ad 0)]) rfl ?_
  refine v_callV0 (My := mX8_good) (As := []) (rest := []) rfl caX8_good rfl rfl rfl hl.1.2.1 rfl rfl (k_good G h hA hl.1 lt.ok) rfl rfl (Nat.le_of_ble_eq_true rfl) (by decide) (fun r h1 q1 => ?_)
  obtain ⟨rfl, c1, f1⟩ := q1
  refine v_run 1 (pc' := 500) (ls' := lL G (ad 0) (ad 200) (ad 209) j) (st' := [.ref (ad 200), .int (zI (aGood σ).1)]) rfl ?_
  rcases lt with ⟨ζ, c, k, rfl, mt, ra, h19, h20⟩ | ⟨rfl, u, hok, hz⟩
  · have mt1 := mt.ag (fun k hk _ _ => f1.1.kp hA hk)
    refine v_callV0 (My := mX10_good) (As := []) (rest := [.int (zI (aGood σ).1)]) rfl caX10_good rfl rfl rfl mt1.1.1 rfl rfl (q_good G h1 hA mt1 ra.1.2.1 ra.2.1.2 ra.d99) rfl rfl (Nat.le_of_ble_eq_true rfl) (by decide) (fun r h2 q2 => ?_)
    rw [(e_good ra.1.1 ra.2.1.1)] at q2
    obtain ⟨rfl, s2⟩ := q2
    refine v_run 0 (pc' := 503) (ls' := lL G (ad 0) (ad 200) (ad 209) j) (st' := [.int (zI (aGood σ).1), .int (zI (aGood σ).1)]) rfl ?_
    exact v_icmp_eq rfl (fun _ => kk h2 (LI.q1 hA ho hl hm lr ra h19 h20 (n4_aGood σ) c1 f1 s2)) (fun z => absurd rfl z)
  · have m1 := hm.f2 hA f1.1
    rw [u_aGood u] at c1 ⊢
    rw [show zI ((-1 : Int), (1 : Nat)).1 = zI (-1) from rfl]
    refine v_callV0 (My := mX10_good) (As := []) (rest := [.int (zI (-1))]) rfl caX10_good rfl rfl rfl m1.1 rfl rfl (q_good0 G h1 m1.1) rfl rfl (Nat.le_of_ble_eq_true rfl) (by decide) (fun r h2 q2 => ?_)
    obtain ⟨rfl, s2⟩ := q2
    refine v_run 0 (pc' := 503) (ls' := lL G (ad 0) (ad 200) (ad 209) j) (st' := [.int (zI (-1)), .int (zI (-1))]) rfl ?_
    exact v_icmp_eq rfl (fun _ => kk h2 (LI.q0 (t := 1) hA ho hl hm lr u hok hz rfl ⟨by decide, by decide⟩ c1 f1 s2)) (fun z => absurd rfl z)

set_option maxRecDepth 100000 in
set_option maxHeartbeats 1000000 in
theorem cs_8 {G : ssG} {mc ms : Nat} {Q : Option Value → ssH → Prop} (hb : gV G 24 ≤ 3072) {ax am ao j : Nat} {h : ssH} (hj : 6 * j + 6 ≤ gV G 24) (li : LI ax am ao h) (kk : ∀ h', LI ax am ao h' → ssV G mL_law 13 mc ms Q 1658 (lL G ax am ao j) [] h') : ssV G mL_law 13 (mc) (ms) Q 508 (lL G ax am ao j) [] h := by
  obtain ⟨ad, pl, σ, E, τ, i, N, sv, rv, m, ρ, hA, ⟨rfl, rfl, rfl⟩, ho, hl, hm, lr, lt⟩ := li
  refine v_run 1 (pc' := 509) (ls' := lL G (ad 0) (ad 200) (ad 209) j) (st' := [.ref (ad 0)]) rfl ?_
  refine v_callV0 (My := mX8_quorum) (As := []) (rest := []) rfl caX8_quorum rfl rfl rfl hl.1.2.1 rfl rfl (k_quorum G h hA hl.1 lt.ok) rfl rfl (Nat.le_of_ble_eq_true rfl) (by decide) (fun r h1 q1 => ?_)
  obtain ⟨rfl, c1, f1⟩ := q1
  refine v_run 1 (pc' := 513) (ls' := lL G (ad 0) (ad 200) (ad 209) j) (st' := [.ref (ad 200), .int (zI (aQuorum σ).1)]) rfl ?_
  rcases lt with ⟨ζ, c, k, rfl, mt, ra, h19, h20⟩ | ⟨rfl, u, hok, hz⟩
  · have mt1 := mt.ag (fun k hk _ _ => f1.1.kp hA hk)
    refine v_callV0 (My := mX10_quorum) (As := []) (rest := [.int (zI (aQuorum σ).1)]) rfl caX10_quorum rfl rfl rfl mt1.1.1 rfl rfl (q_quorum G h1 hA mt1 ra.1.2.1 ra.2.1.2 ra.d99) rfl rfl (Nat.le_of_ble_eq_true rfl) (by decide) (fun r h2 q2 => ?_)
    rw [(e_quorum ra.1.1 ra.2.1.1)] at q2
    obtain ⟨rfl, s2⟩ := q2
    refine v_run 0 (pc' := 516) (ls' := lL G (ad 0) (ad 200) (ad 209) j) (st' := [.int (zI (aQuorum σ).1), .int (zI (aQuorum σ).1)]) rfl ?_
    exact v_icmp_eq rfl (fun _ => kk h2 (LI.q1 hA ho hl hm lr ra h19 h20 (n4_aQuorum σ) c1 f1 s2)) (fun z => absurd rfl z)
  · have m1 := hm.f2 hA f1.1
    rw [u_aQuorum u] at c1 ⊢
    rw [show zI ((-1 : Int), (1 : Nat)).1 = zI (-1) from rfl]
    refine v_callV0 (My := mX10_quorum) (As := []) (rest := [.int (zI (-1))]) rfl caX10_quorum rfl rfl rfl m1.1 rfl rfl (q_quorum0 G h1 m1.1) rfl rfl (Nat.le_of_ble_eq_true rfl) (by decide) (fun r h2 q2 => ?_)
    obtain ⟨rfl, s2⟩ := q2
    refine v_run 0 (pc' := 516) (ls' := lL G (ad 0) (ad 200) (ad 209) j) (st' := [.int (zI (-1)), .int (zI (-1))]) rfl ?_
    exact v_icmp_eq rfl (fun _ => kk h2 (LI.q0 (t := 1) hA ho hl hm lr u hok hz rfl ⟨by decide, by decide⟩ c1 f1 s2)) (fun z => absurd rfl z)

set_option maxRecDepth 100000 in
set_option maxHeartbeats 1000000 in
theorem cs_9 {G : ssG} {mc ms : Nat} {Q : Option Value → ssH → Prop} (hb : gV G 24 ≤ 3072) {ax am ao j : Nat} {h : ssH} (hj : 6 * j + 6 ≤ gV G 24) (li : LI ax am ao h) (kk : ∀ h', LI ax am ao h' → ssV G mL_law 13 mc ms Q 1658 (lL G ax am ao j) [] h') : ssV G mL_law 13 (mc) (ms) Q 521 (lL G ax am ao j) [] h := by
  obtain ⟨ad, pl, σ, E, τ, i, N, sv, rv, m, ρ, hA, ⟨rfl, rfl, rfl⟩, ho, hl, hm, lr, lt⟩ := li
  refine v_run 1 (pc' := 522) (ls' := lL G (ad 0) (ad 200) (ad 209) j) (st' := [.ref (ad 0)]) rfl ?_
  refine v_arg 1 (6 * j) (6 * j + 1) (pc' := 527) rfl rfl (by omega) (by omega) hb ?_
  refine v_arg 2 (6 * j) (6 * j + 2) (pc' := 533) rfl rfl (by omega) (by omega) hb ?_
  refine v_callV0 (My := mX8_goodIn) (As := [.int (zI (scI G (6 * j + 1))), .int (zI (scI G (6 * j + 2)))]) (rest := []) rfl caX8_goodIn rfl rfl rfl hl.1.2.1 rfl rfl (k_goodIn G h (scI G (6 * j + 1)) (scI G (6 * j + 2)) hA hl.1 lt.ok (scI_bd G _) (scI_bd G _)) rfl rfl (Nat.le_of_ble_eq_true rfl) (by decide) (fun r h1 q1 => ?_)
  obtain ⟨rfl, c1, f1⟩ := q1
  refine v_run 1 (pc' := 538) (ls' := lL G (ad 0) (ad 200) (ad 209) j) (st' := [.ref (ad 200), .int (zI (aGoodIn σ (scI G (6 * j + 1)) (scI G (6 * j + 2))).1)]) rfl ?_
  refine v_arg 1 (6 * j) (6 * j + 1) (pc' := 543) rfl rfl (by omega) (by omega) hb ?_
  refine v_arg 2 (6 * j) (6 * j + 2) (pc' := 549) rfl rfl (by omega) (by omega) hb ?_
  rcases lt with ⟨ζ, c, k, rfl, mt, ra, h19, h20⟩ | ⟨rfl, u, hok, hz⟩
  · have mt1 := mt.ag (fun k hk _ _ => f1.1.kp hA hk)
    refine v_callV0 (My := mX10_goodIn) (As := [.int (zI (scI G (6 * j + 1))), .int (zI (scI G (6 * j + 2)))]) (rest := [.int (zI (aGoodIn σ (scI G (6 * j + 1)) (scI G (6 * j + 2))).1)]) rfl caX10_goodIn rfl rfl rfl mt1.1.1 rfl rfl (q_goodIn G h1 (scI G (6 * j + 1)) (scI G (6 * j + 2)) hA mt1 ra.1.2.1 ra.2.1.2 ra.d99 (scI_bd G _) (scI_bd G _)) rfl rfl (Nat.le_of_ble_eq_true rfl) (by decide) (fun r h2 q2 => ?_)
    rw [(e_goodIn ra.1.1 ra.1.2.1 ra.2.1.1 (scI G (6 * j + 1)) (scI G (6 * j + 2)))] at q2
    obtain ⟨rfl, s2⟩ := q2
    refine v_run 0 (pc' := 553) (ls' := lL G (ad 0) (ad 200) (ad 209) j) (st' := [.int (zI (aGoodIn σ (scI G (6 * j + 1)) (scI G (6 * j + 2))).1), .int (zI (aGoodIn σ (scI G (6 * j + 1)) (scI G (6 * j + 2))).1)]) rfl ?_
    exact v_icmp_eq rfl (fun _ => kk h2 (LI.q1 hA ho hl hm lr ra h19 h20 (n4_aGoodIn σ _ _) c1 f1 s2)) (fun z => absurd rfl z)
  · have m1 := hm.f2 hA f1.1
    rw [u_aGoodIn u _ _] at c1 ⊢
    rw [show zI ((-1 : Int), (1 : Nat)).1 = zI (-1) from rfl]
    refine v_callV0 (My := mX10_goodIn) (As := [.int (zI (scI G (6 * j + 1))), .int (zI (scI G (6 * j + 2)))]) (rest := [.int (zI (-1))]) rfl caX10_goodIn rfl rfl rfl m1.1 rfl rfl (q_goodIn0 G h1 (zI (scI G (6 * j + 1))) (scI G (6 * j + 2)) m1.1 (scI_bd G _)) rfl rfl (Nat.le_of_ble_eq_true rfl) (by decide) (fun r h2 q2 => ?_)
    obtain ⟨rfl, s2⟩ := q2
    refine v_run 0 (pc' := 553) (ls' := lL G (ad 0) (ad 200) (ad 209) j) (st' := [.int (zI (-1)), .int (zI (-1))]) rfl ?_
    exact v_icmp_eq rfl (fun _ => kk h2 (LI.q0 (t := 1) hA ho hl hm lr u hok hz rfl ⟨by decide, by decide⟩ c1 f1 s2)) (fun z => absurd rfl z)

set_option maxRecDepth 100000 in
set_option maxHeartbeats 1000000 in
theorem cs_10 {G : ssG} {mc ms : Nat} {Q : Option Value → ssH → Prop} (hb : gV G 24 ≤ 3072) {ax am ao j : Nat} {h : ssH} (hj : 6 * j + 6 ≤ gV G 24) (li : LI ax am ao h) (kk : ∀ h', LI ax am ao h' → ssV G mL_law 13 mc ms Q 1658 (lL G ax am ao j) [] h') : ssV G mL_law 13 (mc) (ms) Q 558 (lL G ax am ao j) [] h := by
  obtain ⟨ad, pl, σ, E, τ, i, N, sv, rv, m, ρ, hA, ⟨rfl, rfl, rfl⟩, ho, hl, hm, lr, lt⟩ := li
  refine v_run 1 (pc' := 559) (ls' := lL G (ad 0) (ad 200) (ad 209) j) (st' := [.ref (ad 0)]) rfl ?_
  refine v_arg 1 (6 * j) (6 * j + 1) (pc' := 564) rfl rfl (by omega) (by omega) hb ?_
  refine v_callV0 (My := mX8_offIn) (As := [.int (zI (scI G (6 * j + 1)))]) (rest := []) rfl caX8_offIn rfl rfl rfl hl.1.2.1 rfl rfl (k_offIn G h (scI G (6 * j + 1)) hA hl.1 lt.ok (scI_bd G _)) rfl rfl (Nat.le_of_ble_eq_true rfl) (by decide) (fun r h1 q1 => ?_)
  obtain ⟨rfl, c1, f1⟩ := q1
  refine v_run 1 (pc' := 569) (ls' := lL G (ad 0) (ad 200) (ad 209) j) (st' := [.ref (ad 200), .int (zI (aOffIn σ (scI G (6 * j + 1))).1)]) rfl ?_
  refine v_arg 1 (6 * j) (6 * j + 1) (pc' := 574) rfl rfl (by omega) (by omega) hb ?_
  rcases lt with ⟨ζ, c, k, rfl, mt, ra, h19, h20⟩ | ⟨rfl, u, hok, hz⟩
  · have mt1 := mt.ag (fun k hk _ _ => f1.1.kp hA hk)
    refine v_callV0 (My := mX10_offIn) (As := [.int (zI (scI G (6 * j + 1)))]) (rest := [.int (zI (aOffIn σ (scI G (6 * j + 1))).1)]) rfl caX10_offIn rfl rfl rfl mt1.1.1 rfl rfl (q_offIn G h1 (scI G (6 * j + 1)) hA mt1 ra.1.2.1 ra.2.1.2 ra.d99 (scI_bd G _)) rfl rfl (Nat.le_of_ble_eq_true rfl) (by decide) (fun r h2 q2 => ?_)
    rw [(e_offIn ra.1.1 ra.1.2.1 ra.2.1.1 (scI G (6 * j + 1)))] at q2
    obtain ⟨rfl, s2⟩ := q2
    refine v_run 0 (pc' := 578) (ls' := lL G (ad 0) (ad 200) (ad 209) j) (st' := [.int (zI (aOffIn σ (scI G (6 * j + 1))).1), .int (zI (aOffIn σ (scI G (6 * j + 1))).1)]) rfl ?_
    exact v_icmp_eq rfl (fun _ => kk h2 (LI.q1 hA ho hl hm lr ra h19 h20 (n4_aOffIn σ _) c1 f1 s2)) (fun z => absurd rfl z)
  · have m1 := hm.f2 hA f1.1
    rw [u_aOffIn u _] at c1 ⊢
    rw [show zI ((-1 : Int), (1 : Nat)).1 = zI (-1) from rfl]
    refine v_callV0 (My := mX10_offIn) (As := [.int (zI (scI G (6 * j + 1)))]) (rest := [.int (zI (-1))]) rfl caX10_offIn rfl rfl rfl m1.1 rfl rfl (q_offIn0 G h1 (zI (scI G (6 * j + 1))) m1.1) rfl rfl (Nat.le_of_ble_eq_true rfl) (by decide) (fun r h2 q2 => ?_)
    obtain ⟨rfl, s2⟩ := q2
    refine v_run 0 (pc' := 578) (ls' := lL G (ad 0) (ad 200) (ad 209) j) (st' := [.int (zI (-1)), .int (zI (-1))]) rfl ?_
    exact v_icmp_eq rfl (fun _ => kk h2 (LI.q0 (t := 1) hA ho hl hm lr u hok hz rfl ⟨by decide, by decide⟩ c1 f1 s2)) (fun z => absurd rfl z)

set_option maxRecDepth 100000 in
set_option maxHeartbeats 1000000 in
theorem cs_11 {G : ssG} {mc ms : Nat} {Q : Option Value → ssH → Prop} (hb : gV G 24 ≤ 3072) {ax am ao j : Nat} {h : ssH} (hj : 6 * j + 6 ≤ gV G 24) (li : LI ax am ao h) (kk : ∀ h', LI ax am ao h' → ssV G mL_law 13 mc ms Q 1658 (lL G ax am ao j) [] h') : ssV G mL_law 13 (mc) (ms) Q 583 (lL G ax am ao j) [] h := by
  obtain ⟨ad, pl, σ, E, τ, i, N, sv, rv, m, ρ, hA, ⟨rfl, rfl, rfl⟩, ho, hl, hm, lr, lt⟩ := li
  refine v_run 1 (pc' := 584) (ls' := lL G (ad 0) (ad 200) (ad 209) j) (st' := [.ref (ad 0)]) rfl ?_
  refine v_callV0 (My := mX8_lasts) (As := []) (rest := []) rfl caX8_lasts rfl rfl rfl hl.1.2.1 rfl rfl (k_lasts G h hA hl.1 lt.ok) rfl rfl (Nat.le_of_ble_eq_true rfl) (by decide) (fun r h1 q1 => ?_)
  obtain ⟨rfl, c1, f1⟩ := q1
  refine v_run 1 (pc' := 588) (ls' := lL G (ad 0) (ad 200) (ad 209) j) (st' := [.ref (ad 200), .int (zI (aLasts σ).1)]) rfl ?_
  rcases lt with ⟨ζ, c, k, rfl, mt, ra, h19, h20⟩ | ⟨rfl, u, hok, hz⟩
  · have mt1 := mt.ag (fun k hk _ _ => f1.1.kp hA hk)
    refine v_callV0 (My := mX10_lasts) (As := []) (rest := [.int (zI (aLasts σ).1)]) rfl caX10_lasts rfl rfl rfl mt1.1.1 rfl rfl (q_lasts G h1 hA mt1 ra.1.2.1 ra.2.1.2 ra.d99) rfl rfl (Nat.le_of_ble_eq_true rfl) (by decide) (fun r h2 q2 => ?_)
    rw [(e_lasts ra.1.1 ra.1.2.1 ra.2.1.1)] at q2
    obtain ⟨rfl, s2⟩ := q2
    refine v_run 0 (pc' := 591) (ls' := lL G (ad 0) (ad 200) (ad 209) j) (st' := [.int (zI (aLasts σ).1), .int (zI (aLasts σ).1)]) rfl ?_
    exact v_icmp_eq rfl (fun _ => kk h2 (LI.q1 hA ho hl hm lr ra h19 h20 (n4_aLasts σ) c1 f1 s2)) (fun z => absurd rfl z)
  · have m1 := hm.f2 hA f1.1
    rw [u_aLasts u] at c1 ⊢
    rw [show zI ((-1 : Int), (1 : Nat)).1 = zI (-1) from rfl]
    refine v_callV0 (My := mX10_lasts) (As := []) (rest := [.int (zI (-1))]) rfl caX10_lasts rfl rfl rfl m1.1 rfl rfl (q_lasts0 G h1 m1.1) rfl rfl (Nat.le_of_ble_eq_true rfl) (by decide) (fun r h2 q2 => ?_)
    obtain ⟨rfl, s2⟩ := q2
    refine v_run 0 (pc' := 591) (ls' := lL G (ad 0) (ad 200) (ad 209) j) (st' := [.int (zI (-1)), .int (zI (-1))]) rfl ?_
    exact v_icmp_eq rfl (fun _ => kk h2 (LI.q0 (t := 1) hA ho hl hm lr u hok hz rfl ⟨by decide, by decide⟩ c1 f1 s2)) (fun z => absurd rfl z)

set_option maxRecDepth 100000 in
set_option maxHeartbeats 1000000 in
theorem cs_12 {G : ssG} {mc ms : Nat} {Q : Option Value → ssH → Prop} (hb : gV G 24 ≤ 3072) {ax am ao j : Nat} {h : ssH} (hj : 6 * j + 6 ≤ gV G 24) (li : LI ax am ao h) (kk : ∀ h', LI ax am ao h' → ssV G mL_law 13 mc ms Q 1658 (lL G ax am ao j) [] h') : ssV G mL_law 13 (mc) (ms) Q 596 (lL G ax am ao j) [] h := by
  obtain ⟨ad, pl, σ, E, τ, i, N, sv, rv, m, ρ, hA, ⟨rfl, rfl, rfl⟩, ho, hl, hm, lr, lt⟩ := li
  refine v_run 1 (pc' := 597) (ls' := lL G (ad 0) (ad 200) (ad 209) j) (st' := [.ref (ad 0)]) rfl ?_
  refine v_callV0 (My := mX8_going) (As := []) (rest := []) rfl caX8_going rfl rfl rfl hl.1.2.1 rfl rfl (k_going G h hA hl.1 lt.ok) rfl rfl (Nat.le_of_ble_eq_true rfl) (by decide) (fun r h1 q1 => ?_)
  obtain ⟨rfl, c1, f1⟩ := q1
  refine v_run 1 (pc' := 601) (ls' := lL G (ad 0) (ad 200) (ad 209) j) (st' := [.ref (ad 200), .int (zI (aGoing σ).1)]) rfl ?_
  rcases lt with ⟨ζ, c, k, rfl, mt, ra, h19, h20⟩ | ⟨rfl, u, hok, hz⟩
  · have mt1 := mt.ag (fun k hk _ _ => f1.1.kp hA hk)
    refine v_callV0 (My := mX10_going) (As := []) (rest := [.int (zI (aGoing σ).1)]) rfl caX10_going rfl rfl rfl mt1.1.1 rfl rfl (q_going G h1 hA mt1 ra.1.2.1 ra.2.1.2 ra.d99) rfl rfl (Nat.le_of_ble_eq_true rfl) (by decide) (fun r h2 q2 => ?_)
    rw [(e_going ra.1.1 ra.1.2.1 ra.2.1.1)] at q2
    obtain ⟨rfl, s2⟩ := q2
    refine v_run 0 (pc' := 604) (ls' := lL G (ad 0) (ad 200) (ad 209) j) (st' := [.int (zI (aGoing σ).1), .int (zI (aGoing σ).1)]) rfl ?_
    exact v_icmp_eq rfl (fun _ => kk h2 (LI.q1 hA ho hl hm lr ra h19 h20 (n4_aGoing σ) c1 f1 s2)) (fun z => absurd rfl z)
  · have m1 := hm.f2 hA f1.1
    rw [u_aGoing u] at c1 ⊢
    rw [show zI ((-1 : Int), (1 : Nat)).1 = zI (-1) from rfl]
    refine v_callV0 (My := mX10_going) (As := []) (rest := [.int (zI (-1))]) rfl caX10_going rfl rfl rfl m1.1 rfl rfl (q_going0 G h1 m1.1) rfl rfl (Nat.le_of_ble_eq_true rfl) (by decide) (fun r h2 q2 => ?_)
    obtain ⟨rfl, s2⟩ := q2
    refine v_run 0 (pc' := 604) (ls' := lL G (ad 0) (ad 200) (ad 209) j) (st' := [.int (zI (-1)), .int (zI (-1))]) rfl ?_
    exact v_icmp_eq rfl (fun _ => kk h2 (LI.q0 (t := 1) hA ho hl hm lr u hok hz rfl ⟨by decide, by decide⟩ c1 f1 s2)) (fun z => absurd rfl z)

set_option maxRecDepth 100000 in
set_option maxHeartbeats 1000000 in
theorem cs_13 {G : ssG} {mc ms : Nat} {Q : Option Value → ssH → Prop} (hb : gV G 24 ≤ 3072) {ax am ao j : Nat} {h : ssH} (hj : 6 * j + 6 ≤ gV G 24) (li : LI ax am ao h) (kk : ∀ h', LI ax am ao h' → ssV G mL_law 13 mc ms Q 1658 (lL G ax am ao j) [] h') : ssV G mL_law 13 (mc) (ms) Q 609 (lL G ax am ao j) [] h := by
  obtain ⟨ad, pl, σ, E, τ, i, N, sv, rv, m, ρ, hA, ⟨rfl, rfl, rfl⟩, ho, hl, hm, lr, lt⟩ := li
  refine v_run 1 (pc' := 610) (ls' := lL G (ad 0) (ad 200) (ad 209) j) (st' := [.ref (ad 0)]) rfl ?_
  refine v_callV0 (My := mX8_nextAct) (As := []) (rest := []) rfl caX8_nextAct rfl rfl rfl hl.1.2.1 rfl rfl (k_nextAct G h hA hl.1 lt.ok) rfl rfl (Nat.le_of_ble_eq_true rfl) (by decide) (fun r h1 q1 => ?_)
  obtain ⟨rfl, c1, f1⟩ := q1
  refine v_run 1 (pc' := 614) (ls' := lL G (ad 0) (ad 200) (ad 209) j) (st' := [.ref (ad 200), .int (zI (aNext σ).1)]) rfl ?_
  rcases lt with ⟨ζ, c, k, rfl, mt, ra, h19, h20⟩ | ⟨rfl, u, hok, hz⟩
  · have mt1 := mt.ag (fun k hk _ _ => f1.1.kp hA hk)
    refine v_callV0 (My := mX10_nextAct) (As := []) (rest := [.int (zI (aNext σ).1)]) rfl caX10_nextAct rfl rfl rfl mt1.1.1 rfl rfl (q_nextAct G h1 hA mt1 ra.1.2.1 ra.2.1.2 ra.d99) rfl rfl (Nat.le_of_ble_eq_true rfl) (by decide) (fun r h2 q2 => ?_)
    rw [(e_next ra.1.1 ra.2.1.1 ra.1.2.2.1)] at q2
    obtain ⟨rfl, s2⟩ := q2
    refine v_run 0 (pc' := 617) (ls' := lL G (ad 0) (ad 200) (ad 209) j) (st' := [.int (zI (aNext σ).1), .int (zI (aNext σ).1)]) rfl ?_
    exact v_icmp_eq rfl (fun _ => kk h2 (LI.q1 hA ho hl hm lr ra h19 h20 (n4_aNext σ) c1 f1 s2)) (fun z => absurd rfl z)
  · have m1 := hm.f2 hA f1.1
    rw [u_aNext u] at c1 ⊢
    rw [show zI ((-1 : Int), (1 : Nat)).1 = zI (-1) from rfl]
    refine v_callV0 (My := mX10_nextAct) (As := []) (rest := [.int (zI (-1))]) rfl caX10_nextAct rfl rfl rfl m1.1 rfl rfl (q_nextAct0 G h1 m1.1) rfl rfl (Nat.le_of_ble_eq_true rfl) (by decide) (fun r h2 q2 => ?_)
    obtain ⟨rfl, s2⟩ := q2
    refine v_run 0 (pc' := 617) (ls' := lL G (ad 0) (ad 200) (ad 209) j) (st' := [.int (zI (-1)), .int (zI (-1))]) rfl ?_
    exact v_icmp_eq rfl (fun _ => kk h2 (LI.q0 (t := 1) hA ho hl hm lr u hok hz rfl ⟨by decide, by decide⟩ c1 f1 s2)) (fun z => absurd rfl z)

set_option maxRecDepth 100000 in
set_option maxHeartbeats 1000000 in
theorem cs_14 {G : ssG} {mc ms : Nat} {Q : Option Value → ssH → Prop} (hb : gV G 24 ≤ 3072) {ax am ao j : Nat} {h : ssH} (hj : 6 * j + 6 ≤ gV G 24) (li : LI ax am ao h) (kk : ∀ h', LI ax am ao h' → ssV G mL_law 13 mc ms Q 1658 (lL G ax am ao j) [] h') : ssV G mL_law 13 (mc) (ms) Q 622 (lL G ax am ao j) [] h := by
  obtain ⟨ad, pl, σ, E, τ, i, N, sv, rv, m, ρ, hA, ⟨rfl, rfl, rfl⟩, ho, hl, hm, lr, lt⟩ := li
  refine v_run 1 (pc' := 623) (ls' := lL G (ad 0) (ad 200) (ad 209) j) (st' := [.ref (ad 0)]) rfl ?_
  refine v_arg 1 (6 * j) (6 * j + 1) (pc' := 628) rfl rfl (by omega) (by omega) hb ?_
  refine v_callV0 (My := mX8_margin) (As := [.int (zI (scI G (6 * j + 1)))]) (rest := []) rfl caX8_margin rfl rfl rfl hl.1.2.1 rfl rfl (k_margin G h (scI G (6 * j + 1)) hA hl.1 lt.ok (scI_bd G _)) rfl rfl (Nat.le_of_ble_eq_true rfl) (by decide) (fun r h1 q1 => ?_)
  obtain ⟨rfl, c1, f1⟩ := q1
  refine v_run 1 (pc' := 633) (ls' := lL G (ad 0) (ad 200) (ad 209) j) (st' := [.ref (ad 200), .int (zI (aMargin σ (scI G (6 * j + 1))).1)]) rfl ?_
  refine v_arg 1 (6 * j) (6 * j + 1) (pc' := 638) rfl rfl (by omega) (by omega) hb ?_
  rcases lt with ⟨ζ, c, k, rfl, mt, ra, h19, h20⟩ | ⟨rfl, u, hok, hz⟩
  · have mt1 := mt.ag (fun k hk _ _ => f1.1.kp hA hk)
    refine v_callV0 (My := mX10_margin) (As := [.int (zI (scI G (6 * j + 1)))]) (rest := [.int (zI (aMargin σ (scI G (6 * j + 1))).1)]) rfl caX10_margin rfl rfl rfl mt1.1.1 rfl rfl (q_margin G h1 (scI G (6 * j + 1)) hA mt1 ra.1.2.1 ra.2.1.2 ra.d99 (scI_bd G _)) rfl rfl (Nat.le_of_ble_eq_true rfl) (by decide) (fun r h2 q2 => ?_)
    rw [(e_margin ra.1.1 ra.1.2.1 ra.2.1.1 (scI G (6 * j + 1)))] at q2
    obtain ⟨rfl, s2⟩ := q2
    refine v_run 0 (pc' := 642) (ls' := lL G (ad 0) (ad 200) (ad 209) j) (st' := [.int (zI (aMargin σ (scI G (6 * j + 1))).1), .int (zI (aMargin σ (scI G (6 * j + 1))).1)]) rfl ?_
    exact v_icmp_eq rfl (fun _ => kk h2 (LI.q1 hA ho hl hm lr ra h19 h20 (n4_aMargin σ _) c1 f1 s2)) (fun z => absurd rfl z)
  · have m1 := hm.f2 hA f1.1
    rw [u_aMargin u _] at c1 ⊢
    rw [show zI ((-1 : Int), (1 : Nat)).1 = zI (-1) from rfl]
    refine v_callV0 (My := mX10_margin) (As := [.int (zI (scI G (6 * j + 1)))]) (rest := [.int (zI (-1))]) rfl caX10_margin rfl rfl rfl m1.1 rfl rfl (q_margin0 G h1 (zI (scI G (6 * j + 1))) m1.1) rfl rfl (Nat.le_of_ble_eq_true rfl) (by decide) (fun r h2 q2 => ?_)
    obtain ⟨rfl, s2⟩ := q2
    refine v_run 0 (pc' := 642) (ls' := lL G (ad 0) (ad 200) (ad 209) j) (st' := [.int (zI (-1)), .int (zI (-1))]) rfl ?_
    exact v_icmp_eq rfl (fun _ => kk h2 (LI.q0 (t := 1) hA ho hl hm lr u hok hz rfl ⟨by decide, by decide⟩ c1 f1 s2)) (fun z => absurd rfl z)

set_option maxRecDepth 100000 in
set_option maxHeartbeats 1000000 in
theorem cs_15 {G : ssG} {mc ms : Nat} {Q : Option Value → ssH → Prop} (hb : gV G 24 ≤ 3072) {ax am ao j : Nat} {h : ssH} (hj : 6 * j + 6 ≤ gV G 24) (li : LI ax am ao h) (kk : ∀ h', LI ax am ao h' → ssV G mL_law 13 mc ms Q 1658 (lL G ax am ao j) [] h') : ssV G mL_law 13 (mc) (ms) Q 647 (lL G ax am ao j) [] h := by
  obtain ⟨ad, pl, σ, E, τ, i, N, sv, rv, m, ρ, hA, ⟨rfl, rfl, rfl⟩, ho, hl, hm, lr, lt⟩ := li
  refine v_run 1 (pc' := 648) (ls' := lL G (ad 0) (ad 200) (ad 209) j) (st' := [.ref (ad 0)]) rfl ?_
  refine v_arg 1 (6 * j) (6 * j + 1) (pc' := 653) rfl rfl (by omega) (by omega) hb ?_
  refine v_callV0 (My := mX8_hang) (As := [.int (zI (scI G (6 * j + 1)))]) (rest := []) rfl caX8_hang rfl rfl rfl hl.1.2.1 rfl rfl (k_hang G h (scI G (6 * j + 1)) hA hl.1 lt.ok (scI_bd G _)) rfl rfl (Nat.le_of_ble_eq_true rfl) (by decide) (fun r h1 q1 => ?_)
  obtain ⟨rfl, c1, f1⟩ := q1
  refine v_run 1 (pc' := 658) (ls' := lL G (ad 0) (ad 200) (ad 209) j) (st' := [.ref (ad 200), .int (zI (aHang σ (scI G (6 * j + 1))).1)]) rfl ?_
  refine v_arg 1 (6 * j) (6 * j + 1) (pc' := 663) rfl rfl (by omega) (by omega) hb ?_
  rcases lt with ⟨ζ, c, k, rfl, mt, ra, h19, h20⟩ | ⟨rfl, u, hok, hz⟩
  · have mt1 := mt.ag (fun k hk _ _ => f1.1.kp hA hk)
    refine v_callV0 (My := mX10_hang) (As := [.int (zI (scI G (6 * j + 1)))]) (rest := [.int (zI (aHang σ (scI G (6 * j + 1))).1)]) rfl caX10_hang rfl rfl rfl mt1.1.1 rfl rfl (q_hang G h1 (scI G (6 * j + 1)) hA mt1 ra.1.2.1 ra.2.1.2 ra.d99 (scI_bd G _) ra.h4) rfl rfl (Nat.le_of_ble_eq_true rfl) (by decide) (fun r h2 q2 => ?_)
    rw [(e_hang ra.1.1 ra.1.2.1 ra.2.1.1 (scI G (6 * j + 1)))] at q2
    obtain ⟨rfl, s2⟩ := q2
    refine v_run 0 (pc' := 667) (ls' := lL G (ad 0) (ad 200) (ad 209) j) (st' := [.int (zI (aHang σ (scI G (6 * j + 1))).1), .int (zI (aHang σ (scI G (6 * j + 1))).1)]) rfl ?_
    exact v_icmp_eq rfl (fun _ => kk h2 (LI.q1 hA ho hl hm lr ra h19 h20 (n4_aHang σ _) c1 f1 s2)) (fun z => absurd rfl z)
  · have m1 := hm.f2 hA f1.1
    rw [u_aHang u _] at c1 ⊢
    rw [show zI ((-1 : Int), (1 : Nat)).1 = zI (-1) from rfl]
    refine v_callV0 (My := mX10_hang) (As := [.int (zI (scI G (6 * j + 1)))]) (rest := [.int (zI (-1))]) rfl caX10_hang rfl rfl rfl m1.1 rfl rfl (q_hang0 G h1 (scI G (6 * j + 1)) m1.1 (scI_bd G _)) rfl rfl (Nat.le_of_ble_eq_true rfl) (by decide) (fun r h2 q2 => ?_)
    obtain ⟨rfl, s2⟩ := q2
    refine v_run 0 (pc' := 667) (ls' := lL G (ad 0) (ad 200) (ad 209) j) (st' := [.int (zI (-1)), .int (zI (-1))]) rfl ?_
    exact v_icmp_eq rfl (fun _ => kk h2 (LI.q0 (t := 1) hA ho hl hm lr u hok hz rfl ⟨by decide, by decide⟩ c1 f1 s2)) (fun z => absurd rfl z)

set_option maxRecDepth 100000 in
set_option maxHeartbeats 1000000 in
theorem cs_16 {G : ssG} {mc ms : Nat} {Q : Option Value → ssH → Prop} (hb : gV G 24 ≤ 3072) {ax am ao j : Nat} {h : ssH} (hj : 6 * j + 6 ≤ gV G 24) (li : LI ax am ao h) (kk : ∀ h', LI ax am ao h' → ssV G mL_law 13 mc ms Q 1658 (lL G ax am ao j) [] h') : ssV G mL_law 13 (mc) (ms) Q 672 (lL G ax am ao j) [] h := by
  obtain ⟨ad, pl, σ, E, τ, i, N, sv, rv, m, ρ, hA, ⟨rfl, rfl, rfl⟩, ho, hl, hm, lr, lt⟩ := li
  refine v_run 1 (pc' := 673) (ls' := lL G (ad 0) (ad 200) (ad 209) j) (st' := [.ref (ad 0)]) rfl ?_
  refine v_arg 1 (6 * j) (6 * j + 1) (pc' := 678) rfl rfl (by omega) (by omega) hb ?_
  refine v_arg 2 (6 * j) (6 * j + 2) (pc' := 684) rfl rfl (by omega) (by omega) hb ?_
  refine v_callV0 (My := mX8_hangAt) (As := [.int (zI (scI G (6 * j + 1))), .int (zI (scI G (6 * j + 2)))]) (rest := []) rfl caX8_hangAt rfl rfl rfl hl.1.2.1 rfl rfl (k_hangAt G h (scI G (6 * j + 1)) (scI G (6 * j + 2)) hA hl.1 lt.ok (scI_bd G _) (scI_bd G _) lt.hsh) rfl rfl (Nat.le_of_ble_eq_true rfl) (by decide) (fun r h1 q1 => ?_)
  obtain ⟨rfl, c1, f1⟩ := q1
  refine v_run 1 (pc' := 689) (ls' := lL G (ad 0) (ad 200) (ad 209) j) (st' := [.ref (ad 200), .int (zI (aHangAt σ (scI G (6 * j + 1)) (scI G (6 * j + 2))).1)]) rfl ?_
  refine v_arg 1 (6 * j) (6 * j + 1) (pc' := 694) rfl rfl (by omega) (by omega) hb ?_
  refine v_arg 2 (6 * j) (6 * j + 2) (pc' := 700) rfl rfl (by omega) (by omega) hb ?_
  rcases lt with ⟨ζ, c, k, rfl, mt, ra, h19, h20⟩ | ⟨rfl, u, hok, hz⟩
  · have mt1 := mt.ag (fun k hk _ _ => f1.1.kp hA hk)
    refine v_callV0 (My := mX10_hangAt) (As := [.int (zI (scI G (6 * j + 1))), .int (zI (scI G (6 * j + 2)))]) (rest := [.int (zI (aHangAt σ (scI G (6 * j + 1)) (scI G (6 * j + 2))).1)]) rfl caX10_hangAt rfl rfl rfl mt1.1.1 rfl rfl (q_hangAt G h1 (scI G (6 * j + 1)) (scI G (6 * j + 2)) hA mt1 ra.1.2.1 ra.2.1.2 ra.d99 (scI_bd G _) (scI_bd G _) ra.h4 ra.h45) rfl rfl (Nat.le_of_ble_eq_true rfl) (by decide) (fun r h2 q2 => ?_)
    rw [(e_hangAt ra.1.1 ra.1.2.1 ra.2.1.1 (scI G (6 * j + 1)) (scI G (6 * j + 2)))] at q2
    obtain ⟨rfl, s2⟩ := q2
    refine v_run 0 (pc' := 704) (ls' := lL G (ad 0) (ad 200) (ad 209) j) (st' := [.int (zI (aHangAt σ (scI G (6 * j + 1)) (scI G (6 * j + 2))).1), .int (zI (aHangAt σ (scI G (6 * j + 1)) (scI G (6 * j + 2))).1)]) rfl ?_
    exact v_icmp_eq rfl (fun _ => kk h2 (LI.q1 hA ho hl hm lr ra h19 h20 (n4_aHangAt σ _ _) c1 f1 s2)) (fun z => absurd rfl z)
  · have m1 := hm.f2 hA f1.1
    rw [u_aHangAt u _ _] at c1 ⊢
    rw [show zI ((-1 : Int), (1 : Nat)).1 = zI (-1) from rfl]
    refine v_callV0 (My := mX10_hangAt) (As := [.int (zI (scI G (6 * j + 1))), .int (zI (scI G (6 * j + 2)))]) (rest := [.int (zI (-1))]) rfl caX10_hangAt rfl rfl rfl m1.1 rfl rfl (q_hangAt0 G h1 (zI (scI G (6 * j + 1))) (scI G (6 * j + 2)) m1.1 (scI_bd G _)) rfl rfl (Nat.le_of_ble_eq_true rfl) (by decide) (fun r h2 q2 => ?_)
    obtain ⟨rfl, s2⟩ := q2
    refine v_run 0 (pc' := 704) (ls' := lL G (ad 0) (ad 200) (ad 209) j) (st' := [.int (zI (-1)), .int (zI (-1))]) rfl ?_
    exact v_icmp_eq rfl (fun _ => kk h2 (LI.q0 (t := 1) hA ho hl hm lr u hok hz rfl ⟨by decide, by decide⟩ c1 f1 s2)) (fun z => absurd rfl z)

set_option maxRecDepth 100000 in
set_option maxHeartbeats 1000000 in
theorem cs_17 {G : ssG} {mc ms : Nat} {Q : Option Value → ssH → Prop} (hb : gV G 24 ≤ 3072) {ax am ao j : Nat} {h : ssH} (hj : 6 * j + 6 ≤ gV G 24) (li : LI ax am ao h) (kk : ∀ h', LI ax am ao h' → ssV G mL_law 13 mc ms Q 1658 (lL G ax am ao j) [] h') : ssV G mL_law 13 (mc) (ms) Q 709 (lL G ax am ao j) [] h := by
  obtain ⟨ad, pl, σ, E, τ, i, N, sv, rv, m, ρ, hA, ⟨rfl, rfl, rfl⟩, ho, hl, hm, lr, lt⟩ := li
  refine v_run 1 (pc' := 710) (ls' := lL G (ad 0) (ad 200) (ad 209) j) (st' := [.ref (ad 0)]) rfl ?_
  refine v_callV0 (My := mX8_longest) (As := []) (rest := []) rfl caX8_longest rfl rfl rfl hl.1.2.1 rfl rfl (k_longest G h hA hl.1 lt.ok) rfl rfl (Nat.le_of_ble_eq_true rfl) (by decide) (fun r h1 q1 => ?_)
  obtain ⟨rfl, c1, f1⟩ := q1
  refine v_run 1 (pc' := 714) (ls' := lL G (ad 0) (ad 200) (ad 209) j) (st' := [.ref (ad 200), .int (zI (aLongest σ).1)]) rfl ?_
  rcases lt with ⟨ζ, c, k, rfl, mt, ra, h19, h20⟩ | ⟨rfl, u, hok, hz⟩
  · have mt1 := mt.ag (fun k hk _ _ => f1.1.kp hA hk)
    refine v_callV0 (My := mX10_longest) (As := []) (rest := [.int (zI (aLongest σ).1)]) rfl caX10_longest rfl rfl rfl mt1.1.1 rfl rfl (q_longest G h1 hA mt1 ra.1.2.1 ra.2.1.2 ra.d99 ra.h4) rfl rfl (Nat.le_of_ble_eq_true rfl) (by decide) (fun r h2 q2 => ?_)
    rw [(e_longest ra.1.1 ra.1.2.1 ra.2.1.1)] at q2
    obtain ⟨rfl, s2⟩ := q2
    refine v_run 0 (pc' := 717) (ls' := lL G (ad 0) (ad 200) (ad 209) j) (st' := [.int (zI (aLongest σ).1), .int (zI (aLongest σ).1)]) rfl ?_
    exact v_icmp_eq rfl (fun _ => kk h2 (LI.q1 hA ho hl hm lr ra h19 h20 (n4_aLongest σ) c1 f1 s2)) (fun z => absurd rfl z)
  · have m1 := hm.f2 hA f1.1
    rw [u_aLongest u] at c1 ⊢
    rw [show zI ((-1 : Int), (1 : Nat)).1 = zI (-1) from rfl]
    refine v_callV0 (My := mX10_longest) (As := []) (rest := [.int (zI (-1))]) rfl caX10_longest rfl rfl rfl m1.1 rfl rfl (q_longest0 G h1 m1.1) rfl rfl (Nat.le_of_ble_eq_true rfl) (by decide) (fun r h2 q2 => ?_)
    obtain ⟨rfl, s2⟩ := q2
    refine v_run 0 (pc' := 717) (ls' := lL G (ad 0) (ad 200) (ad 209) j) (st' := [.int (zI (-1)), .int (zI (-1))]) rfl ?_
    exact v_icmp_eq rfl (fun _ => kk h2 (LI.q0 (t := 1) hA ho hl hm lr u hok hz rfl ⟨by decide, by decide⟩ c1 f1 s2)) (fun z => absurd rfl z)

set_option maxRecDepth 100000 in
set_option maxHeartbeats 1000000 in
theorem cs_18 {G : ssG} {mc ms : Nat} {Q : Option Value → ssH → Prop} (hb : gV G 24 ≤ 3072) {ax am ao j : Nat} {h : ssH} (hj : 6 * j + 6 ≤ gV G 24) (li : LI ax am ao h) (kk : ∀ h', LI ax am ao h' → ssV G mL_law 13 mc ms Q 1658 (lL G ax am ao j) [] h') : ssV G mL_law 13 (mc) (ms) Q 722 (lL G ax am ao j) [] h := by
  obtain ⟨ad, pl, σ, E, τ, i, N, sv, rv, m, ρ, hA, ⟨rfl, rfl, rfl⟩, ho, hl, hm, lr, lt⟩ := li
  refine v_run 1 (pc' := 723) (ls' := lL G (ad 0) (ad 200) (ad 209) j) (st' := [.ref (ad 0)]) rfl ?_
  refine v_arg 1 (6 * j) (6 * j + 1) (pc' := 728) rfl rfl (by omega) (by omega) hb ?_
  refine v_callV0 (My := mX8_longestAt) (As := [.int (zI (scI G (6 * j + 1)))]) (rest := []) rfl caX8_longestAt rfl rfl rfl hl.1.2.1 rfl rfl (k_longestAt G h (scI G (6 * j + 1)) hA hl.1 lt.ok (scI_bd G _) lt.hsh) rfl rfl (Nat.le_of_ble_eq_true rfl) (by decide) (fun r h1 q1 => ?_)
  obtain ⟨rfl, c1, f1⟩ := q1
  refine v_run 1 (pc' := 733) (ls' := lL G (ad 0) (ad 200) (ad 209) j) (st' := [.ref (ad 200), .int (zI (aLongestAt σ (scI G (6 * j + 1))).1)]) rfl ?_
  refine v_arg 1 (6 * j) (6 * j + 1) (pc' := 738) rfl rfl (by omega) (by omega) hb ?_
  rcases lt with ⟨ζ, c, k, rfl, mt, ra, h19, h20⟩ | ⟨rfl, u, hok, hz⟩
  · have mt1 := mt.ag (fun k hk _ _ => f1.1.kp hA hk)
    refine v_callV0 (My := mX10_longestAt) (As := [.int (zI (scI G (6 * j + 1)))]) (rest := [.int (zI (aLongestAt σ (scI G (6 * j + 1))).1)]) rfl caX10_longestAt rfl rfl rfl mt1.1.1 rfl rfl (q_longestAt G h1 (scI G (6 * j + 1)) hA mt1 ra.1.2.1 ra.2.1.2 ra.d99 (scI_bd G _) ra.h4 ra.h45) rfl rfl (Nat.le_of_ble_eq_true rfl) (by decide) (fun r h2 q2 => ?_)
    rw [(e_longestAt ra.1.1 ra.1.2.1 ra.2.1.1 (scI G (6 * j + 1)))] at q2
    obtain ⟨rfl, s2⟩ := q2
    refine v_run 0 (pc' := 742) (ls' := lL G (ad 0) (ad 200) (ad 209) j) (st' := [.int (zI (aLongestAt σ (scI G (6 * j + 1))).1), .int (zI (aLongestAt σ (scI G (6 * j + 1))).1)]) rfl ?_
    exact v_icmp_eq rfl (fun _ => kk h2 (LI.q1 hA ho hl hm lr ra h19 h20 (n4_aLongestAt σ _) c1 f1 s2)) (fun z => absurd rfl z)
  · have m1 := hm.f2 hA f1.1
    rw [u_aLongestAt u _] at c1 ⊢
    rw [show zI ((-1 : Int), (1 : Nat)).1 = zI (-1) from rfl]
    refine v_callV0 (My := mX10_longestAt) (As := [.int (zI (scI G (6 * j + 1)))]) (rest := [.int (zI (-1))]) rfl caX10_longestAt rfl rfl rfl m1.1 rfl rfl (q_longestAt0 G h1 (zI (scI G (6 * j + 1))) m1.1) rfl rfl (Nat.le_of_ble_eq_true rfl) (by decide) (fun r h2 q2 => ?_)
    obtain ⟨rfl, s2⟩ := q2
    refine v_run 0 (pc' := 742) (ls' := lL G (ad 0) (ad 200) (ad 209) j) (st' := [.int (zI (-1)), .int (zI (-1))]) rfl ?_
    exact v_icmp_eq rfl (fun _ => kk h2 (LI.q0 (t := 1) hA ho hl hm lr u hok hz rfl ⟨by decide, by decide⟩ c1 f1 s2)) (fun z => absurd rfl z)

set_option maxRecDepth 100000 in
set_option maxHeartbeats 1000000 in
theorem cs_19 {G : ssG} {mc ms : Nat} {Q : Option Value → ssH → Prop} (hb : gV G 24 ≤ 3072) {ax am ao j : Nat} {h : ssH} (hj : 6 * j + 6 ≤ gV G 24) (li : LI ax am ao h) (kk : ∀ h', LI ax am ao h' → ssV G mL_law 13 mc ms Q 1658 (lL G ax am ao j) [] h') : ssV G mL_law 13 (mc) (ms) Q 747 (lL G ax am ao j) [] h := by
  obtain ⟨ad, pl, σ, E, τ, i, N, sv, rv, m, ρ, hA, ⟨rfl, rfl, rfl⟩, ho, hl, hm, lr, lt⟩ := li
  refine v_run 1 (pc' := 748) (ls' := lL G (ad 0) (ad 200) (ad 209) j) (st' := [.ref (ad 0)]) rfl ?_
  refine v_callV0 (My := mX8_bestSwap) (As := []) (rest := []) rfl caX8_bestSwap rfl rfl rfl hl.1.2.1 rfl rfl (k_bestSwap G h hA hl.1 lt.ok) rfl rfl (Nat.le_of_ble_eq_true rfl) (by decide) (fun r h1 q1 => ?_)
  obtain ⟨rfl, c1, f1⟩ := q1
  refine v_run 1 (pc' := 752) (ls' := lL G (ad 0) (ad 200) (ad 209) j) (st' := [.ref (ad 200), .int (zI (aBestSwap σ).1)]) rfl ?_
  rcases lt with ⟨ζ, c, k, rfl, mt, ra, h19, h20⟩ | ⟨rfl, u, hok, hz⟩
  · have mt1 := mt.ag (fun k hk _ _ => f1.1.kp hA hk)
    refine v_callV0 (My := mX10_bestSwap) (As := []) (rest := [.int (zI (aBestSwap σ).1)]) rfl caX10_bestSwap rfl rfl rfl mt1.1.1 rfl rfl (q_bestSwap G h1 hA mt1 ra.1.2.1 ra.2.1.2 ra.d99) rfl rfl (Nat.le_of_ble_eq_true rfl) (by decide) (fun r h2 q2 => ?_)
    rw [(e_bestSwap ra.1.1 ra.1.2.1 ra.2.1.1)] at q2
    obtain ⟨rfl, s2⟩ := q2
    refine v_run 0 (pc' := 755) (ls' := lL G (ad 0) (ad 200) (ad 209) j) (st' := [.int (zI (aBestSwap σ).1), .int (zI (aBestSwap σ).1)]) rfl ?_
    exact v_icmp_eq rfl (fun _ => kk h2 (LI.q1 hA ho hl hm lr ra h19 h20 (n4_aBestSwap σ) c1 f1 s2)) (fun z => absurd rfl z)
  · have m1 := hm.f2 hA f1.1
    rw [u_aBestSwap u] at c1 ⊢
    rw [show zI ((-1 : Int), (1 : Nat)).1 = zI (-1) from rfl]
    refine v_callV0 (My := mX10_bestSwap) (As := []) (rest := [.int (zI (-1))]) rfl caX10_bestSwap rfl rfl rfl m1.1 rfl rfl (q_bestSwap0 G h1 m1.1) rfl rfl (Nat.le_of_ble_eq_true rfl) (by decide) (fun r h2 q2 => ?_)
    obtain ⟨rfl, s2⟩ := q2
    refine v_run 0 (pc' := 755) (ls' := lL G (ad 0) (ad 200) (ad 209) j) (st' := [.int (zI (-1)), .int (zI (-1))]) rfl ?_
    exact v_icmp_eq rfl (fun _ => kk h2 (LI.q0 (t := 1) hA ho hl hm lr u hok hz rfl ⟨by decide, by decide⟩ c1 f1 s2)) (fun z => absurd rfl z)

set_option maxRecDepth 100000 in
set_option maxHeartbeats 1000000 in
theorem cs_20 {G : ssG} {mc ms : Nat} {Q : Option Value → ssH → Prop} (hb : gV G 24 ≤ 3072) {ax am ao j : Nat} {h : ssH} (hj : 6 * j + 6 ≤ gV G 24) (li : LI ax am ao h) (kk : ∀ h', LI ax am ao h' → ssV G mL_law 13 mc ms Q 1658 (lL G ax am ao j) [] h') : ssV G mL_law 13 (mc) (ms) Q 760 (lL G ax am ao j) [] h := by
  obtain ⟨ad, pl, σ, E, τ, i, N, sv, rv, m, ρ, hA, ⟨rfl, rfl, rfl⟩, ho, hl, hm, lr, lt⟩ := li
  refine v_run 1 (pc' := 761) (ls' := lL G (ad 0) (ad 200) (ad 209) j) (st' := [.ref (ad 0)]) rfl ?_
  refine v_callV0 (My := mX8_toSalt) (As := []) (rest := []) rfl caX8_toSalt rfl rfl rfl hl.1.2.1 rfl rfl (k_toSalt G h hA hl.1 lt.ok) rfl rfl (Nat.le_of_ble_eq_true rfl) (by decide) (fun r h1 q1 => ?_)
  obtain ⟨rfl, c1, f1⟩ := q1
  refine v_run 1 (pc' := 765) (ls' := lL G (ad 0) (ad 200) (ad 209) j) (st' := [.ref (ad 200), .int (zI (aToSalt σ).1)]) rfl ?_
  rcases lt with ⟨ζ, c, k, rfl, mt, ra, h19, h20⟩ | ⟨rfl, u, hok, hz⟩
  · have mt1 := mt.ag (fun k hk _ _ => f1.1.kp hA hk)
    refine v_callV0 (My := mX10_toSalt) (As := []) (rest := [.int (zI (aToSalt σ).1)]) rfl caX10_toSalt rfl rfl rfl mt1.1.1 rfl rfl (q_toSalt G h1 hA mt1 ra.1.2.1 ra.2.1.2 ra.d99) rfl rfl (Nat.le_of_ble_eq_true rfl) (by decide) (fun r h2 q2 => ?_)
    rw [(e_toSalt ra.1.1 ra.1.2.1 ra.2.1.1)] at q2
    obtain ⟨rfl, s2⟩ := q2
    refine v_run 0 (pc' := 768) (ls' := lL G (ad 0) (ad 200) (ad 209) j) (st' := [.int (zI (aToSalt σ).1), .int (zI (aToSalt σ).1)]) rfl ?_
    exact v_icmp_eq rfl (fun _ => kk h2 (LI.q1 hA ho hl hm lr ra h19 h20 (n4_aToSalt σ) c1 f1 s2)) (fun z => absurd rfl z)
  · have m1 := hm.f2 hA f1.1
    rw [u_aToSalt u] at c1 ⊢
    rw [show zI ((-1 : Int), (1 : Nat)).1 = zI (-1) from rfl]
    refine v_callV0 (My := mX10_toSalt) (As := []) (rest := [.int (zI (-1))]) rfl caX10_toSalt rfl rfl rfl m1.1 rfl rfl (q_toSalt0 G h1 m1.1) rfl rfl (Nat.le_of_ble_eq_true rfl) (by decide) (fun r h2 q2 => ?_)
    obtain ⟨rfl, s2⟩ := q2
    refine v_run 0 (pc' := 768) (ls' := lL G (ad 0) (ad 200) (ad 209) j) (st' := [.int (zI (-1)), .int (zI (-1))]) rfl ?_
    exact v_icmp_eq rfl (fun _ => kk h2 (LI.q0 (t := 1) hA ho hl hm lr u hok hz rfl ⟨by decide, by decide⟩ c1 f1 s2)) (fun z => absurd rfl z)

set_option maxRecDepth 100000 in
set_option maxHeartbeats 1000000 in
theorem cs_21 {G : ssG} {mc ms : Nat} {Q : Option Value → ssH → Prop} (hb : gV G 24 ≤ 3072) {ax am ao j : Nat} {h : ssH} (hj : 6 * j + 6 ≤ gV G 24) (li : LI ax am ao h) (kk : ∀ h', LI ax am ao h' → ssV G mL_law 13 mc ms Q 1658 (lL G ax am ao j) [] h') : ssV G mL_law 13 (mc) (ms) Q 773 (lL G ax am ao j) [] h := by
  obtain ⟨ad, pl, σ, E, τ, i, N, sv, rv, m, ρ, hA, ⟨rfl, rfl, rfl⟩, ho, hl, hm, lr, lt⟩ := li
  refine v_run 1 (pc' := 774) (ls' := lL G (ad 0) (ad 200) (ad 209) j) (st' := [.ref (ad 0)]) rfl ?_
  refine v_callV0 (My := mX8_keyMan) (As := []) (rest := []) rfl caX8_keyMan rfl rfl rfl hl.1.2.1 rfl rfl (k_keyMan G h hA hl.1 lt.ok) rfl rfl (Nat.le_of_ble_eq_true rfl) (by decide) (fun r h1 q1 => ?_)
  obtain ⟨rfl, c1, f1⟩ := q1
  refine v_run 1 (pc' := 778) (ls' := lL G (ad 0) (ad 200) (ad 209) j) (st' := [.ref (ad 200), .int (zI (aKeyMan σ).1)]) rfl ?_
  rcases lt with ⟨ζ, c, k, rfl, mt, ra, h19, h20⟩ | ⟨rfl, u, hok, hz⟩
  · have mt1 := mt.ag (fun k hk _ _ => f1.1.kp hA hk)
    refine v_callV0 (My := mX10_keyMan) (As := []) (rest := [.int (zI (aKeyMan σ).1)]) rfl caX10_keyMan rfl rfl rfl mt1.1.1 rfl rfl (q_keyMan G h1 hA mt1 ra.1.2.1 ra.2.1.2 ra.d99) rfl rfl (Nat.le_of_ble_eq_true rfl) (by decide) (fun r h2 q2 => ?_)
    rw [(e_keyMan ra.1.1 ra.1.2.1 ra.2.1.1)] at q2
    obtain ⟨rfl, s2⟩ := q2
    refine v_run 0 (pc' := 781) (ls' := lL G (ad 0) (ad 200) (ad 209) j) (st' := [.int (zI (aKeyMan σ).1), .int (zI (aKeyMan σ).1)]) rfl ?_
    exact v_icmp_eq rfl (fun _ => kk h2 (LI.q1 hA ho hl hm lr ra h19 h20 (n4_aKeyMan σ) c1 f1 s2)) (fun z => absurd rfl z)
  · have m1 := hm.f2 hA f1.1
    rw [u_aKeyMan u] at c1 ⊢
    rw [show zI ((-1 : Int), (1 : Nat)).1 = zI (-1) from rfl]
    refine v_callV0 (My := mX10_keyMan) (As := []) (rest := [.int (zI (-1))]) rfl caX10_keyMan rfl rfl rfl m1.1 rfl rfl (q_keyMan0 G h1 m1.1) rfl rfl (Nat.le_of_ble_eq_true rfl) (by decide) (fun r h2 q2 => ?_)
    obtain ⟨rfl, s2⟩ := q2
    refine v_run 0 (pc' := 781) (ls' := lL G (ad 0) (ad 200) (ad 209) j) (st' := [.int (zI (-1)), .int (zI (-1))]) rfl ?_
    exact v_icmp_eq rfl (fun _ => kk h2 (LI.q0 (t := 1) hA ho hl hm lr u hok hz rfl ⟨by decide, by decide⟩ c1 f1 s2)) (fun z => absurd rfl z)

set_option maxRecDepth 100000 in
set_option maxHeartbeats 1000000 in
theorem cs_22 {G : ssG} {mc ms : Nat} {Q : Option Value → ssH → Prop} (hb : gV G 24 ≤ 3072) {ax am ao j : Nat} {h : ssH} (hj : 6 * j + 6 ≤ gV G 24) (li : LI ax am ao h) (kk : ∀ h', LI ax am ao h' → ssV G mL_law 13 mc ms Q 1658 (lL G ax am ao j) [] h') : ssV G mL_law 13 (mc) (ms) Q 786 (lL G ax am ao j) [] h := by
  obtain ⟨ad, pl, σ, E, τ, i, N, sv, rv, m, ρ, hA, ⟨rfl, rfl, rfl⟩, ho, hl, hm, lr, lt⟩ := li
  refine v_run 1 (pc' := 787) (ls' := lL G (ad 0) (ad 200) (ad 209) j) (st' := [.ref (ad 0)]) rfl ?_
  refine v_callV0 (My := mX8_since) (As := []) (rest := []) rfl caX8_since rfl rfl rfl hl.1.2.1 rfl rfl (k_since G h hA hl.1 lt.ok) rfl rfl (Nat.le_of_ble_eq_true rfl) (by decide) (fun r h1 q1 => ?_)
  obtain ⟨rfl, c1, f1⟩ := q1
  refine v_run 1 (pc' := 791) (ls' := lL G (ad 0) (ad 200) (ad 209) j) (st' := [.ref (ad 200), .int (zI (aSince σ).1)]) rfl ?_
  rcases lt with ⟨ζ, c, k, rfl, mt, ra, h19, h20⟩ | ⟨rfl, u, hok, hz⟩
  · have mt1 := mt.ag (fun k hk _ _ => f1.1.kp hA hk)
    refine v_callV0 (My := mX10_since) (As := []) (rest := [.int (zI (aSince σ).1)]) rfl caX10_since rfl rfl rfl mt1.1.1 rfl rfl (q_since G h1 hA mt1 ra.1.2.1 ra.2.1.2 ra.d99) rfl rfl (Nat.le_of_ble_eq_true rfl) (by decide) (fun r h2 q2 => ?_)
    rw [(e_since ra.1.1 ra.1.2.1)] at q2
    obtain ⟨rfl, s2⟩ := q2
    refine v_run 0 (pc' := 794) (ls' := lL G (ad 0) (ad 200) (ad 209) j) (st' := [.int (zI (aSince σ).1), .int (zI (aSince σ).1)]) rfl ?_
    exact v_icmp_eq rfl (fun _ => kk h2 (LI.q1 hA ho hl hm lr ra h19 h20 (n4_aSince σ) c1 f1 s2)) (fun z => absurd rfl z)
  · have m1 := hm.f2 hA f1.1
    rw [u_aSince u] at c1 ⊢
    rw [show zI ((-1 : Int), (1 : Nat)).1 = zI (-1) from rfl]
    refine v_callV0 (My := mX10_since) (As := []) (rest := [.int (zI (-1))]) rfl caX10_since rfl rfl rfl m1.1 rfl rfl (q_since0 G h1 m1.1) rfl rfl (Nat.le_of_ble_eq_true rfl) (by decide) (fun r h2 q2 => ?_)
    obtain ⟨rfl, s2⟩ := q2
    refine v_run 0 (pc' := 794) (ls' := lL G (ad 0) (ad 200) (ad 209) j) (st' := [.int (zI (-1)), .int (zI (-1))]) rfl ?_
    exact v_icmp_eq rfl (fun _ => kk h2 (LI.q0 (t := 1) hA ho hl hm lr u hok hz rfl ⟨by decide, by decide⟩ c1 f1 s2)) (fun z => absurd rfl z)

set_option maxRecDepth 100000 in
set_option maxHeartbeats 1000000 in
theorem cs_23 {G : ssG} {mc ms : Nat} {Q : Option Value → ssH → Prop} (hb : gV G 24 ≤ 3072) {ax am ao j : Nat} {h : ssH} (hj : 6 * j + 6 ≤ gV G 24) (li : LI ax am ao h) (kk : ∀ h', LI ax am ao h' → ssV G mL_law 13 mc ms Q 1658 (lL G ax am ao j) [] h') : ssV G mL_law 13 (mc) (ms) Q 799 (lL G ax am ao j) [] h := by
  obtain ⟨ad, pl, σ, E, τ, i, N, sv, rv, m, ρ, hA, ⟨rfl, rfl, rfl⟩, ho, hl, hm, lr, lt⟩ := li
  refine v_run 1 (pc' := 800) (ls' := lL G (ad 0) (ad 200) (ad 209) j) (st' := [.ref (ad 0)]) rfl ?_
  refine v_arg 1 (6 * j) (6 * j + 1) (pc' := 805) rfl rfl (by omega) (by omega) hb ?_
  refine v_callV0 (My := mX8_sinceAt) (As := [.int (zI (scI G (6 * j + 1)))]) (rest := []) rfl caX8_sinceAt rfl rfl rfl hl.1.2.1 rfl rfl (k_sinceAt G h (scI G (6 * j + 1)) hA hl.1 lt.ok (scI_bd G _)) rfl rfl (Nat.le_of_ble_eq_true rfl) (by decide) (fun r h1 q1 => ?_)
  obtain ⟨rfl, c1, f1⟩ := q1
  refine v_run 1 (pc' := 810) (ls' := lL G (ad 0) (ad 200) (ad 209) j) (st' := [.ref (ad 200), .int (zI (aSinceAt σ (scI G (6 * j + 1))).1)]) rfl ?_
  refine v_arg 1 (6 * j) (6 * j + 1) (pc' := 815) rfl rfl (by omega) (by omega) hb ?_
  rcases lt with ⟨ζ, c, k, rfl, mt, ra, h19, h20⟩ | ⟨rfl, u, hok, hz⟩
  · have mt1 := mt.ag (fun k hk _ _ => f1.1.kp hA hk)
    refine v_callV0 (My := mX10_sinceAt) (As := [.int (zI (scI G (6 * j + 1)))]) (rest := [.int (zI (aSinceAt σ (scI G (6 * j + 1))).1)]) rfl caX10_sinceAt rfl rfl rfl mt1.1.1 rfl rfl (q_sinceAt G h1 (scI G (6 * j + 1)) hA mt1 ra.1.2.1 ra.2.1.2 ra.d99 (scI_bd G _)) rfl rfl (Nat.le_of_ble_eq_true rfl) (by decide) (fun r h2 q2 => ?_)
    rw [(e_sinceAt ra.1.1 ra.1.2.1 (scI G (6 * j + 1)))] at q2
    obtain ⟨rfl, s2⟩ := q2
    refine v_run 0 (pc' := 819) (ls' := lL G (ad 0) (ad 200) (ad 209) j) (st' := [.int (zI (aSinceAt σ (scI G (6 * j + 1))).1), .int (zI (aSinceAt σ (scI G (6 * j + 1))).1)]) rfl ?_
    exact v_icmp_eq rfl (fun _ => kk h2 (LI.q1 hA ho hl hm lr ra h19 h20 (n4_aSinceAt σ _) c1 f1 s2)) (fun z => absurd rfl z)
  · have m1 := hm.f2 hA f1.1
    rw [u_aSinceAt u _] at c1 ⊢
    rw [show zI ((-1 : Int), (1 : Nat)).1 = zI (-1) from rfl]
    refine v_callV0 (My := mX10_sinceAt) (As := [.int (zI (scI G (6 * j + 1)))]) (rest := [.int (zI (-1))]) rfl caX10_sinceAt rfl rfl rfl m1.1 rfl rfl (q_sinceAt0 G h1 (zI (scI G (6 * j + 1))) m1.1) rfl rfl (Nat.le_of_ble_eq_true rfl) (by decide) (fun r h2 q2 => ?_)
    obtain ⟨rfl, s2⟩ := q2
    refine v_run 0 (pc' := 819) (ls' := lL G (ad 0) (ad 200) (ad 209) j) (st' := [.int (zI (-1)), .int (zI (-1))]) rfl ?_
    exact v_icmp_eq rfl (fun _ => kk h2 (LI.q0 (t := 1) hA ho hl hm lr u hok hz rfl ⟨by decide, by decide⟩ c1 f1 s2)) (fun z => absurd rfl z)

set_option maxRecDepth 100000 in
set_option maxHeartbeats 1000000 in
theorem cs_24 {G : ssG} {mc ms : Nat} {Q : Option Value → ssH → Prop} (hb : gV G 24 ≤ 3072) {ax am ao j : Nat} {h : ssH} (hj : 6 * j + 6 ≤ gV G 24) (li : LI ax am ao h) (kk : ∀ h', LI ax am ao h' → ssV G mL_law 13 mc ms Q 1658 (lL G ax am ao j) [] h') : ssV G mL_law 13 (mc) (ms) Q 824 (lL G ax am ao j) [] h := by
  obtain ⟨ad, pl, σ, E, τ, i, N, sv, rv, m, ρ, hA, ⟨rfl, rfl, rfl⟩, ho, hl, hm, lr, lt⟩ := li
  refine v_run 1 (pc' := 825) (ls' := lL G (ad 0) (ad 200) (ad 209) j) (st' := [.ref (ad 0)]) rfl ?_
  refine v_callV0 (My := mX8_look) (As := []) (rest := []) rfl caX8_look rfl rfl rfl hl.1.2.1 rfl rfl (k_look G h hA hl.1 lt.ok) rfl rfl (Nat.le_of_ble_eq_true rfl) (by decide) (fun r h1 q1 => ?_)
  obtain ⟨rfl, c1, f1⟩ := q1
  refine v_run 1 (pc' := 829) (ls' := lL G (ad 0) (ad 200) (ad 209) j) (st' := [.ref (ad 200), .int (zI (aLook σ).1)]) rfl ?_
  rcases lt with ⟨ζ, c, k, rfl, mt, ra, h19, h20⟩ | ⟨rfl, u, hok, hz⟩
  · have mt1 := mt.ag (fun k hk _ _ => f1.1.kp hA hk)
    refine v_callV0 (My := mX10_look) (As := []) (rest := [.int (zI (aLook σ).1)]) rfl caX10_look rfl rfl rfl mt1.1.1 rfl rfl (q_look G h1 hA mt1 ra.1.2.1 ra.2.1.2 ra.d99) rfl rfl (Nat.le_of_ble_eq_true rfl) (by decide) (fun r h2 q2 => ?_)
    rw [(e_look ra.1.1 ra.1.2.1)] at q2
    obtain ⟨rfl, s2⟩ := q2
    refine v_run 0 (pc' := 832) (ls' := lL G (ad 0) (ad 200) (ad 209) j) (st' := [.int (zI (aLook σ).1), .int (zI (aLook σ).1)]) rfl ?_
    exact v_icmp_eq rfl (fun _ => kk h2 (LI.q1 hA ho hl hm lr ra h19 h20 (n4_aLook σ) c1 f1 s2)) (fun z => absurd rfl z)
  · have m1 := hm.f2 hA f1.1
    rw [u_aLook u] at c1 ⊢
    rw [show zI ((-1 : Int), (1 : Nat)).1 = zI (-1) from rfl]
    refine v_callV0 (My := mX10_look) (As := []) (rest := [.int (zI (-1))]) rfl caX10_look rfl rfl rfl m1.1 rfl rfl (q_look0 G h1 m1.1) rfl rfl (Nat.le_of_ble_eq_true rfl) (by decide) (fun r h2 q2 => ?_)
    obtain ⟨rfl, s2⟩ := q2
    refine v_run 0 (pc' := 832) (ls' := lL G (ad 0) (ad 200) (ad 209) j) (st' := [.int (zI (-1)), .int (zI (-1))]) rfl ?_
    exact v_icmp_eq rfl (fun _ => kk h2 (LI.q0 (t := 1) hA ho hl hm lr u hok hz rfl ⟨by decide, by decide⟩ c1 f1 s2)) (fun z => absurd rfl z)

set_option maxRecDepth 100000 in
set_option maxHeartbeats 1000000 in
theorem cs_25 {G : ssG} {mc ms : Nat} {Q : Option Value → ssH → Prop} (hb : gV G 24 ≤ 3072) {ax am ao j : Nat} {h : ssH} (hj : 6 * j + 6 ≤ gV G 24) (li : LI ax am ao h) (kk : ∀ h', LI ax am ao h' → ssV G mL_law 13 mc ms Q 1658 (lL G ax am ao j) [] h') : ssV G mL_law 13 (mc) (ms) Q 837 (lL G ax am ao j) [] h := by
  obtain ⟨ad, pl, σ, E, τ, i, N, sv, rv, m, ρ, hA, ⟨rfl, rfl, rfl⟩, ho, hl, hm, lr, lt⟩ := li
  refine v_run 1 (pc' := 838) (ls' := lL G (ad 0) (ad 200) (ad 209) j) (st' := [.ref (ad 0)]) rfl ?_
  refine v_callV0 (My := mX8_lookLeaves) (As := []) (rest := []) rfl caX8_lookLeaves rfl rfl rfl hl.1.2.1 rfl rfl (k_lookLeaves G h hA hl.1 lt.ok) rfl rfl (Nat.le_of_ble_eq_true rfl) (by decide) (fun r h1 q1 => ?_)
  obtain ⟨rfl, c1, f1⟩ := q1
  refine v_run 1 (pc' := 842) (ls' := lL G (ad 0) (ad 200) (ad 209) j) (st' := [.ref (ad 200), .int (zI (aLookL σ).1)]) rfl ?_
  rcases lt with ⟨ζ, c, k, rfl, mt, ra, h19, h20⟩ | ⟨rfl, u, hok, hz⟩
  · have mt1 := mt.ag (fun k hk _ _ => f1.1.kp hA hk)
    refine v_callV0 (My := mX10_lookLeaves) (As := []) (rest := [.int (zI (aLookL σ).1)]) rfl caX10_lookLeaves rfl rfl rfl mt1.1.1 rfl rfl (q_lookLeaves G h1 hA mt1 ra.1.2.1 ra.2.1.2 ra.d99) rfl rfl (Nat.le_of_ble_eq_true rfl) (by decide) (fun r h2 q2 => ?_)
    rw [(e_lookL ra.1.1 ra.1.2.1)] at q2
    obtain ⟨rfl, s2⟩ := q2
    refine v_run 0 (pc' := 845) (ls' := lL G (ad 0) (ad 200) (ad 209) j) (st' := [.int (zI (aLookL σ).1), .int (zI (aLookL σ).1)]) rfl ?_
    exact v_icmp_eq rfl (fun _ => kk h2 (LI.q1 hA ho hl hm lr ra h19 h20 (n4_aLookL σ) c1 f1 s2)) (fun z => absurd rfl z)
  · have m1 := hm.f2 hA f1.1
    rw [u_aLookL u] at c1 ⊢
    rw [show zI ((-1 : Int), (1 : Nat)).1 = zI (-1) from rfl]
    refine v_callV0 (My := mX10_lookLeaves) (As := []) (rest := [.int (zI (-1))]) rfl caX10_lookLeaves rfl rfl rfl m1.1 rfl rfl (q_lookLeaves0 G h1 m1.1) rfl rfl (Nat.le_of_ble_eq_true rfl) (by decide) (fun r h2 q2 => ?_)
    obtain ⟨rfl, s2⟩ := q2
    refine v_run 0 (pc' := 845) (ls' := lL G (ad 0) (ad 200) (ad 209) j) (st' := [.int (zI (-1)), .int (zI (-1))]) rfl ?_
    exact v_icmp_eq rfl (fun _ => kk h2 (LI.q0 (t := 1) hA ho hl hm lr u hok hz rfl ⟨by decide, by decide⟩ c1 f1 s2)) (fun z => absurd rfl z)

