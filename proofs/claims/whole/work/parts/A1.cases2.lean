set_option maxRecDepth 100000 in
set_option maxHeartbeats 1000000 in
theorem cs_26 {G : ssG} {mc ms : Nat} {Q : Option Value → ssH → Prop} (hb : gV G 24 ≤ 3072) {ax am ao j : Nat} {h : ssH} (hj : 6 * j + 6 ≤ gV G 24) (li : LI ax am ao h) (kk : ∀ h', LI ax am ao h' → ssV G mL_law 13 mc ms Q 1658 (lL G ax am ao j) [] h') : ssV G mL_law 13 (mc) (ms) Q 850 (lL G ax am ao j) [] h := by
  obtain ⟨ad, pl, σ, E, τ, i, N, sv, rv, m, ρ, hA, ⟨rfl, rfl, rfl⟩, ho, hl, hm, lr, lt⟩ := li
  refine v_run 1 (pc' := 851) (ls' := lL G (ad 0) (ad 200) (ad 209) j) (st' := [.ref (ad 0)]) rfl ?_
  refine v_callV0 (My := mX8_judge) (As := []) (rest := []) rfl caX8_judge rfl rfl rfl hl.1.2.1 rfl rfl (k_judge G h hA hl.1 lt.ok) rfl rfl (Nat.le_of_ble_eq_true rfl) (by decide) (fun r h1 q1 => ?_)
  obtain ⟨rfl, c1, f1⟩ := q1
  refine v_run 1 (pc' := 855) (ls' := lL G (ad 0) (ad 200) (ad 209) j) (st' := [.ref (ad 200), .int (zI (aJudge σ).1)]) rfl ?_
  rcases lt with ⟨ζ, c, k, rfl, mt, ra, h19, h20⟩ | ⟨rfl, u, hok, hz⟩
  · have mt1 := mt.ag (fun k hk _ _ => f1.1.kp hA hk)
    refine v_callV0 (My := mX10_judge) (As := []) (rest := [.int (zI (aJudge σ).1)]) rfl caX10_judge rfl rfl rfl mt1.1.1 rfl rfl (q_judge G h1 hA mt1 ra.1.2.1 ra.2.1.2 ra.d99) rfl rfl (Nat.le_of_ble_eq_true rfl) (by decide) (fun r h2 q2 => ?_)
    rw [(e_judge ra.1.1 ra.1.2.1)] at q2
    obtain ⟨rfl, s2⟩ := q2
    refine v_run 0 (pc' := 858) (ls' := lL G (ad 0) (ad 200) (ad 209) j) (st' := [.int (zI (aJudge σ).1), .int (zI (aJudge σ).1)]) rfl ?_
    exact v_icmp_eq rfl (fun _ => kk h2 (LI.q1 hA ho hl hm lr ra h19 h20 (n4_aJudge σ) c1 f1 s2)) (fun z => absurd rfl z)
  · have m1 := hm.f2 hA f1.1
    rw [u_aJudge u] at c1 ⊢
    rw [show zI ((-1 : Int), (1 : Nat)).1 = zI (-1) from rfl]
    refine v_callV0 (My := mX10_judge) (As := []) (rest := [.int (zI (-1))]) rfl caX10_judge rfl rfl rfl m1.1 rfl rfl (q_judge0 G h1 m1.1) rfl rfl (Nat.le_of_ble_eq_true rfl) (by decide) (fun r h2 q2 => ?_)
    obtain ⟨rfl, s2⟩ := q2
    refine v_run 0 (pc' := 858) (ls' := lL G (ad 0) (ad 200) (ad 209) j) (st' := [.int (zI (-1)), .int (zI (-1))]) rfl ?_
    exact v_icmp_eq rfl (fun _ => kk h2 (LI.q0 (t := 1) hA ho hl hm lr u hok hz rfl ⟨by decide, by decide⟩ c1 f1 s2)) (fun z => absurd rfl z)

set_option maxRecDepth 100000 in
set_option maxHeartbeats 1000000 in
theorem cs_27 {G : ssG} {mc ms : Nat} {Q : Option Value → ssH → Prop} (hb : gV G 24 ≤ 3072) {ax am ao j : Nat} {h : ssH} (hj : 6 * j + 6 ≤ gV G 24) (li : LI ax am ao h) (kk : ∀ h', LI ax am ao h' → ssV G mL_law 13 mc ms Q 1658 (lL G ax am ao j) [] h') : ssV G mL_law 13 (mc) (ms) Q 863 (lL G ax am ao j) [] h := by
  obtain ⟨ad, pl, σ, E, τ, i, N, sv, rv, m, ρ, hA, ⟨rfl, rfl, rfl⟩, ho, hl, hm, lr, lt⟩ := li
  refine v_run 1 (pc' := 864) (ls' := lL G (ad 0) (ad 200) (ad 209) j) (st' := [.ref (ad 0)]) rfl ?_
  refine v_arg 1 (6 * j) (6 * j + 1) (pc' := 869) rfl rfl (by omega) (by omega) hb ?_
  refine v_callV0 (My := mX8_fallsWith) (As := [.int (zI (scI G (6 * j + 1)))]) (rest := []) rfl caX8_fallsWith rfl rfl rfl hl.1.2.1 rfl rfl (k_fallsWith G h (scI G (6 * j + 1)) hA hl.1 lt.ok (scI_bd G _)) rfl rfl (Nat.le_of_ble_eq_true rfl) (by decide) (fun r h1 q1 => ?_)
  obtain ⟨rfl, c1, f1⟩ := q1
  refine v_run 1 (pc' := 874) (ls' := lL G (ad 0) (ad 200) (ad 209) j) (st' := [.ref (ad 200), .int (zI (aFalls σ (scI G (6 * j + 1))).1)]) rfl ?_
  refine v_arg 1 (6 * j) (6 * j + 1) (pc' := 879) rfl rfl (by omega) (by omega) hb ?_
  rcases lt with ⟨ζ, c, k, rfl, mt, ra, h19, h20⟩ | ⟨rfl, u, hok, hz⟩
  · have mt1 := mt.ag (fun k hk _ _ => f1.1.kp hA hk)
    refine v_callV0 (My := mX10_fallsWith) (As := [.int (zI (scI G (6 * j + 1)))]) (rest := [.int (zI (aFalls σ (scI G (6 * j + 1))).1)]) rfl caX10_fallsWith rfl rfl rfl mt1.1.1 rfl rfl (q_fallsWith G h1 (scI G (6 * j + 1)) hA mt1 ra.1.2.1 ra.2.1.2 ra.d99 (scI_bd G _)) rfl rfl (Nat.le_of_ble_eq_true rfl) (by decide) (fun r h2 q2 => ?_)
    rw [(e_falls ra.1.1 ra.1.2.1 (scI G (6 * j + 1)))] at q2
    obtain ⟨rfl, s2⟩ := q2
    refine v_run 0 (pc' := 883) (ls' := lL G (ad 0) (ad 200) (ad 209) j) (st' := [.int (zI (aFalls σ (scI G (6 * j + 1))).1), .int (zI (aFalls σ (scI G (6 * j + 1))).1)]) rfl ?_
    exact v_icmp_eq rfl (fun _ => kk h2 (LI.q1 hA ho hl hm lr ra h19 h20 (n4_aFalls σ _) c1 f1 s2)) (fun z => absurd rfl z)
  · have m1 := hm.f2 hA f1.1
    rw [u_aFalls u _] at c1 ⊢
    rw [show zI ((-1 : Int), (1 : Nat)).1 = zI (-1) from rfl]
    refine v_callV0 (My := mX10_fallsWith) (As := [.int (zI (scI G (6 * j + 1)))]) (rest := [.int (zI (-1))]) rfl caX10_fallsWith rfl rfl rfl m1.1 rfl rfl (q_fallsWith0 G h1 (zI (scI G (6 * j + 1))) m1.1) rfl rfl (Nat.le_of_ble_eq_true rfl) (by decide) (fun r h2 q2 => ?_)
    obtain ⟨rfl, s2⟩ := q2
    refine v_run 0 (pc' := 883) (ls' := lL G (ad 0) (ad 200) (ad 209) j) (st' := [.int (zI (-1)), .int (zI (-1))]) rfl ?_
    exact v_icmp_eq rfl (fun _ => kk h2 (LI.q0 (t := 1) hA ho hl hm lr u hok hz rfl ⟨by decide, by decide⟩ c1 f1 s2)) (fun z => absurd rfl z)

set_option maxRecDepth 100000 in
set_option maxHeartbeats 1000000 in
theorem cs_28 {G : ssG} {mc ms : Nat} {Q : Option Value → ssH → Prop} (hb : gV G 24 ≤ 3072) {ax am ao j : Nat} {h : ssH} (hj : 6 * j + 6 ≤ gV G 24) (li : LI ax am ao h) (kk : ∀ h', LI ax am ao h' → ssV G mL_law 13 mc ms Q 1658 (lL G ax am ao j) [] h') : ssV G mL_law 13 (mc) (ms) Q 888 (lL G ax am ao j) [] h := by
  obtain ⟨ad, pl, σ, E, τ, i, N, sv, rv, m, ρ, hA, ⟨rfl, rfl, rfl⟩, ho, hl, hm, lr, lt⟩ := li
  refine v_run 1 (pc' := 889) (ls' := lL G (ad 0) (ad 200) (ad 209) j) (st' := [.ref (ad 0)]) rfl ?_
  refine v_arg 1 (6 * j) (6 * j + 1) (pc' := 894) rfl rfl (by omega) (by omega) hb ?_
  refine v_callV0 (My := mX8_strike) (As := [.int (zI (scI G (6 * j + 1)))]) (rest := []) rfl caX8_strike rfl rfl rfl hl.1.2.1 rfl rfl (k_strike G h (scI G (6 * j + 1)) hA hl.1 lt.ok (scI_bd G _)) rfl rfl (Nat.le_of_ble_eq_true rfl) (by decide) (fun r h1 q1 => ?_)
  obtain ⟨rfl, c1, f1⟩ := q1
  refine v_run 1 (pc' := 899) (ls' := lL G (ad 0) (ad 200) (ad 209) j) (st' := [.ref (ad 200), .int (zI (aStrike σ (scI G (6 * j + 1))).1)]) rfl ?_
  refine v_arg 1 (6 * j) (6 * j + 1) (pc' := 904) rfl rfl (by omega) (by omega) hb ?_
  rcases lt with ⟨ζ, c, k, rfl, mt, ra, h19, h20⟩ | ⟨rfl, u, hok, hz⟩
  · have mt1 := mt.ag (fun k hk _ _ => f1.1.kp hA hk)
    refine v_callV0 (My := mX10_strike) (As := [.int (zI (scI G (6 * j + 1)))]) (rest := [.int (zI (aStrike σ (scI G (6 * j + 1))).1)]) rfl caX10_strike rfl rfl rfl mt1.1.1 rfl rfl (q_strike G h1 (scI G (6 * j + 1)) hA mt1 ra.1.2.1 ra.2.1.2 ra.d99 (scI_bd G _)) rfl rfl (Nat.le_of_ble_eq_true rfl) (by decide) (fun r h2 q2 => ?_)
    rw [(e_strike ra.1.1 ra.1.2.1 ra.2.1.1 (scI G (6 * j + 1)))] at q2
    obtain ⟨rfl, s2⟩ := q2
    refine v_run 0 (pc' := 908) (ls' := lL G (ad 0) (ad 200) (ad 209) j) (st' := [.int (zI (aStrike σ (scI G (6 * j + 1))).1), .int (zI (aStrike σ (scI G (6 * j + 1))).1)]) rfl ?_
    exact v_icmp_eq rfl (fun _ => kk h2 (LI.q1 hA ho hl hm lr ra h19 h20 (n4_aStrike σ _) c1 f1 s2)) (fun z => absurd rfl z)
  · have m1 := hm.f2 hA f1.1
    rw [u_aStrike u _] at c1 ⊢
    rw [show zI ((-1 : Int), (1 : Nat)).1 = zI (-1) from rfl]
    refine v_callV0 (My := mX10_strike) (As := [.int (zI (scI G (6 * j + 1)))]) (rest := [.int (zI (-1))]) rfl caX10_strike rfl rfl rfl m1.1 rfl rfl (q_strike0 G h1 (zI (scI G (6 * j + 1))) m1.1) rfl rfl (Nat.le_of_ble_eq_true rfl) (by decide) (fun r h2 q2 => ?_)
    obtain ⟨rfl, s2⟩ := q2
    refine v_run 0 (pc' := 908) (ls' := lL G (ad 0) (ad 200) (ad 209) j) (st' := [.int (zI (-1)), .int (zI (-1))]) rfl ?_
    exact v_icmp_eq rfl (fun _ => kk h2 (LI.q0 (t := 1) hA ho hl hm lr u hok hz rfl ⟨by decide, by decide⟩ c1 f1 s2)) (fun z => absurd rfl z)

set_option maxRecDepth 100000 in
set_option maxHeartbeats 1000000 in
theorem cs_29 {G : ssG} {mc ms : Nat} {Q : Option Value → ssH → Prop} (hb : gV G 24 ≤ 3072) {ax am ao j : Nat} {h : ssH} (hj : 6 * j + 6 ≤ gV G 24) (li : LI ax am ao h) (kk : ∀ h', LI ax am ao h' → ssV G mL_law 13 mc ms Q 1658 (lL G ax am ao j) [] h') : ssV G mL_law 13 (mc) (ms) Q 913 (lL G ax am ao j) [] h := by
  obtain ⟨ad, pl, σ, E, τ, i, N, sv, rv, m, ρ, hA, ⟨rfl, rfl, rfl⟩, ho, hl, hm, lr, lt⟩ := li
  refine v_run 1 (pc' := 914) (ls' := lL G (ad 0) (ad 200) (ad 209) j) (st' := [.ref (ad 0)]) rfl ?_
  refine v_callV0 (My := mX8_keystone) (As := []) (rest := []) rfl caX8_keystone rfl rfl rfl hl.1.2.1 rfl rfl (k_keystone G h hA hl.1 lt.ok) rfl rfl (Nat.le_of_ble_eq_true rfl) (by decide) (fun r h1 q1 => ?_)
  obtain ⟨rfl, c1, f1⟩ := q1
  refine v_run 1 (pc' := 918) (ls' := lL G (ad 0) (ad 200) (ad 209) j) (st' := [.ref (ad 200), .int (zI (aKeystone σ).1)]) rfl ?_
  rcases lt with ⟨ζ, c, k, rfl, mt, ra, h19, h20⟩ | ⟨rfl, u, hok, hz⟩
  · have mt1 := mt.ag (fun k hk _ _ => f1.1.kp hA hk)
    refine v_callV0 (My := mX10_keystone) (As := []) (rest := [.int (zI (aKeystone σ).1)]) rfl caX10_keystone rfl rfl rfl mt1.1.1 rfl rfl (q_keystone G h1 hA mt1 ra.1.2.1 ra.2.1.2 ra.d99) rfl rfl (Nat.le_of_ble_eq_true rfl) (by decide) (fun r h2 q2 => ?_)
    rw [(e_keystone ra.1.1 ra.1.2.1)] at q2
    obtain ⟨rfl, s2⟩ := q2
    refine v_run 0 (pc' := 921) (ls' := lL G (ad 0) (ad 200) (ad 209) j) (st' := [.int (zI (aKeystone σ).1), .int (zI (aKeystone σ).1)]) rfl ?_
    exact v_icmp_eq rfl (fun _ => kk h2 (LI.q1 hA ho hl hm lr ra h19 h20 (n4_aKeystone σ) c1 f1 s2)) (fun z => absurd rfl z)
  · have m1 := hm.f2 hA f1.1
    rw [u_aKeystone u] at c1 ⊢
    rw [show zI ((-1 : Int), (1 : Nat)).1 = zI (-1) from rfl]
    refine v_callV0 (My := mX10_keystone) (As := []) (rest := [.int (zI (-1))]) rfl caX10_keystone rfl rfl rfl m1.1 rfl rfl (q_keystone0 G h1 m1.1) rfl rfl (Nat.le_of_ble_eq_true rfl) (by decide) (fun r h2 q2 => ?_)
    obtain ⟨rfl, s2⟩ := q2
    refine v_run 0 (pc' := 921) (ls' := lL G (ad 0) (ad 200) (ad 209) j) (st' := [.int (zI (-1)), .int (zI (-1))]) rfl ?_
    exact v_icmp_eq rfl (fun _ => kk h2 (LI.q0 (t := 1) hA ho hl hm lr u hok hz rfl ⟨by decide, by decide⟩ c1 f1 s2)) (fun z => absurd rfl z)

set_option maxRecDepth 100000 in
set_option maxHeartbeats 1000000 in
theorem cs_30 {G : ssG} {mc ms : Nat} {Q : Option Value → ssH → Prop} (hb : gV G 24 ≤ 3072) {ax am ao j : Nat} {h : ssH} (hj : 6 * j + 6 ≤ gV G 24) (li : LI ax am ao h) (kk : ∀ h', LI ax am ao h' → ssV G mL_law 13 mc ms Q 1658 (lL G ax am ao j) [] h') : ssV G mL_law 13 (mc) (ms) Q 926 (lL G ax am ao j) [] h := by
  obtain ⟨ad, pl, σ, E, τ, i, N, sv, rv, m, ρ, hA, ⟨rfl, rfl, rfl⟩, ho, hl, hm, lr, lt⟩ := li
  refine v_run 1 (pc' := 927) (ls' := lL G (ad 0) (ad 200) (ad 209) j) (st' := [.ref (ad 0)]) rfl ?_
  refine v_callV0 (My := mX8_ring) (As := []) (rest := []) rfl caX8_ring rfl rfl rfl hl.1.2.1 rfl rfl (k_ring G h hA hl.1 lt.ok) rfl rfl (Nat.le_of_ble_eq_true rfl) (by decide) (fun r h1 q1 => ?_)
  obtain ⟨rfl, c1, f1⟩ := q1
  refine v_run 1 (pc' := 931) (ls' := lL G (ad 0) (ad 200) (ad 209) j) (st' := [.ref (ad 200), .int (zI (aRing σ).1)]) rfl ?_
  rcases lt with ⟨ζ, c, k, rfl, mt, ra, h19, h20⟩ | ⟨rfl, u, hok, hz⟩
  · have mt1 := mt.ag (fun k hk _ _ => f1.1.kp hA hk)
    refine v_callV0 (My := mX10_ring) (As := []) (rest := [.int (zI (aRing σ).1)]) rfl caX10_ring rfl rfl rfl mt1.1.1 rfl rfl (q_ring G h1 hA mt1 ra.1.2.1 ra.2.1.2 ra.d99) rfl rfl (Nat.le_of_ble_eq_true rfl) (by decide) (fun r h2 q2 => ?_)
    rw [(e_ring ra.1.1 ra.1.2.1)] at q2
    obtain ⟨rfl, s2⟩ := q2
    refine v_run 0 (pc' := 934) (ls' := lL G (ad 0) (ad 200) (ad 209) j) (st' := [.int (zI (aRing σ).1), .int (zI (aRing σ).1)]) rfl ?_
    exact v_icmp_eq rfl (fun _ => kk h2 (LI.q1 hA ho hl hm lr ra h19 h20 (n4_aRing σ) c1 f1 s2)) (fun z => absurd rfl z)
  · have m1 := hm.f2 hA f1.1
    rw [u_aRing u] at c1 ⊢
    rw [show zI ((-1 : Int), (1 : Nat)).1 = zI (-1) from rfl]
    refine v_callV0 (My := mX10_ring) (As := []) (rest := [.int (zI (-1))]) rfl caX10_ring rfl rfl rfl m1.1 rfl rfl (q_ring0 G h1 m1.1) rfl rfl (Nat.le_of_ble_eq_true rfl) (by decide) (fun r h2 q2 => ?_)
    obtain ⟨rfl, s2⟩ := q2
    refine v_run 0 (pc' := 934) (ls' := lL G (ad 0) (ad 200) (ad 209) j) (st' := [.int (zI (-1)), .int (zI (-1))]) rfl ?_
    exact v_icmp_eq rfl (fun _ => kk h2 (LI.q0 (t := 1) hA ho hl hm lr u hok hz rfl ⟨by decide, by decide⟩ c1 f1 s2)) (fun z => absurd rfl z)

set_option maxRecDepth 100000 in
set_option maxHeartbeats 1000000 in
theorem cs_31 {G : ssG} {mc ms : Nat} {Q : Option Value → ssH → Prop} (hb : gV G 24 ≤ 3072) {ax am ao j : Nat} {h : ssH} (hj : 6 * j + 6 ≤ gV G 24) (li : LI ax am ao h) (kk : ∀ h', LI ax am ao h' → ssV G mL_law 13 mc ms Q 1658 (lL G ax am ao j) [] h') : ssV G mL_law 13 (mc) (ms) Q 939 (lL G ax am ao j) [] h := by
  obtain ⟨ad, pl, σ, E, τ, i, N, sv, rv, m, ρ, hA, ⟨rfl, rfl, rfl⟩, ho, hl, hm, lr, lt⟩ := li
  refine v_run 1 (pc' := 940) (ls' := lL G (ad 0) (ad 200) (ad 209) j) (st' := [.ref (ad 0)]) rfl ?_
  refine v_arg 1 (6 * j) (6 * j + 1) (pc' := 945) rfl rfl (by omega) (by omega) hb ?_
  refine v_arg 2 (6 * j) (6 * j + 2) (pc' := 951) rfl rfl (by omega) (by omega) hb ?_
  refine v_bit (pc := 952) (scI_bd G _) rfl rfl rfl ?_
  refine v_callV0 (My := mX8_power) (As := [.int (zI (scI G (6 * j + 1))), .int (zb (decide (scI G (6 * j + 2) ≠ 0)))]) (rest := []) rfl caX8_power rfl rfl rfl hl.1.2.1 rfl rfl (k_power G h (scI G (6 * j + 1)) (decide (scI G (6 * j + 2) ≠ 0)) hA hl.1 lt.ok (scI_bd G _)) rfl rfl (Nat.le_of_ble_eq_true rfl) (by decide) (fun r h1 q1 => ?_)
  obtain ⟨rfl, c1, f1⟩ := q1
  refine v_run 1 (pc' := 964) (ls' := lL G (ad 0) (ad 200) (ad 209) j) (st' := [.ref (ad 200), .long (zL (aPower σ (scI G (6 * j + 1)) (decide (scI G (6 * j + 2) ≠ 0))).1)]) rfl ?_
  refine v_arg 1 (6 * j) (6 * j + 1) (pc' := 969) rfl rfl (by omega) (by omega) hb ?_
  refine v_arg 2 (6 * j) (6 * j + 2) (pc' := 975) rfl rfl (by omega) (by omega) hb ?_
  refine v_bit (pc := 976) (scI_bd G _) rfl rfl rfl ?_
  rcases lt with ⟨ζ, c, k, rfl, mt, ra, h19, h20⟩ | ⟨rfl, u, hok, hz⟩
  · have mt1 := mt.ag (fun k hk _ _ => f1.1.kp hA hk)
    refine v_callV0 (My := mX10_power) (As := [.int (zI (scI G (6 * j + 1))), .int (zb (decide (scI G (6 * j + 2) ≠ 0)))]) (rest := [.long (zL (aPower σ (scI G (6 * j + 1)) (decide (scI G (6 * j + 2) ≠ 0))).1)]) rfl caX10_power rfl rfl rfl mt1.1.1 rfl rfl (q_power G h1 (scI G (6 * j + 1)) (decide (scI G (6 * j + 2) ≠ 0)) hA mt1 ra.1.2.1 ra.2.1.2 ra.d99 (scI_bd G _)) rfl rfl (Nat.le_of_ble_eq_true rfl) (by decide) (fun r h2 q2 => ?_)
    rw [(e_power ra.1.1 ra.1.2.1 ra.2.1.1 (scI G (6 * j + 1)) (decide (scI G (6 * j + 2) ≠ 0)))] at q2
    obtain ⟨rfl, s2⟩ := q2
    refine v_run 1 (pc' := 988) (ls' := lL G (ad 0) (ad 200) (ad 209) j) (st' := [.int (lg_cmp ((zL (aPower σ (scI G (6 * j + 1)) (decide (scI G (6 * j + 2) ≠ 0))).1)) ((zL (aPower σ (scI G (6 * j + 1)) (decide (scI G (6 * j + 2) ≠ 0))).1)))]) rfl ?_
    refine v_if_eq rfl (fun _ => kk h2 (LI.q1 hA ho hl hm lr ra h19 h20 (n4_aPower σ _ _) c1 f1 s2)) (fun z => absurd (lgc_self _) z)
  · have m1 := hm.f2 hA f1.1
    rw [u_aPower u _ _] at c1 ⊢
    rw [show zL ((-1 : Int), (1 : Nat)).1 = zL (-1) from rfl]
    refine v_callV0 (My := mX10_power) (As := [.int (zI (scI G (6 * j + 1))), .int (zb (decide (scI G (6 * j + 2) ≠ 0)))]) (rest := [.long (zL (-1))]) rfl caX10_power rfl rfl rfl m1.1 rfl rfl (q_power0 G h1 (zI (scI G (6 * j + 1))) (zb (decide (scI G (6 * j + 2) ≠ 0))) m1.1) rfl rfl (Nat.le_of_ble_eq_true rfl) (by decide) (fun r h2 q2 => ?_)
    obtain ⟨rfl, s2⟩ := q2
    refine v_run 1 (pc' := 988) (ls' := lL G (ad 0) (ad 200) (ad 209) j) (st' := [.int (lg_cmp ((zL (-1))) ((zL (-1))))]) rfl ?_
    refine v_if_eq rfl (fun _ => kk h2 (LI.q0 (t := 1) hA ho hl hm lr u hok hz rfl ⟨by decide, by decide⟩ c1 f1 s2)) (fun z => absurd (lgc_self _) z)

set_option maxRecDepth 100000 in
set_option maxHeartbeats 1000000 in
theorem cs_32 {G : ssG} {mc ms : Nat} {Q : Option Value → ssH → Prop} (hb : gV G 24 ≤ 3072) {ax am ao j : Nat} {h : ssH} (hj : 6 * j + 6 ≤ gV G 24) (li : LI ax am ao h) (kk : ∀ h', LI ax am ao h' → ssV G mL_law 13 mc ms Q 1658 (lL G ax am ao j) [] h') : ssV G mL_law 13 (mc) (ms) Q 993 (lL G ax am ao j) [] h := by
  obtain ⟨ad, pl, σ, E, τ, i, N, sv, rv, m, ρ, hA, ⟨rfl, rfl, rfl⟩, ho, hl, hm, lr, lt⟩ := li
  refine v_run 1 (pc' := 994) (ls' := lL G (ad 0) (ad 200) (ad 209) j) (st' := [.ref (ad 0)]) rfl ?_
  refine v_callV0 (My := mX8_strongest) (As := []) (rest := []) rfl caX8_strongest rfl rfl rfl hl.1.2.1 rfl rfl (k_strongest G h hA hl.1 lt.ok) rfl rfl (Nat.le_of_ble_eq_true rfl) (by decide) (fun r h1 q1 => ?_)
  obtain ⟨rfl, c1, f1⟩ := q1
  refine v_run 1 (pc' := 998) (ls' := lL G (ad 0) (ad 200) (ad 209) j) (st' := [.ref (ad 200), .int (zI (aStrongest σ).1)]) rfl ?_
  rcases lt with ⟨ζ, c, k, rfl, mt, ra, h19, h20⟩ | ⟨rfl, u, hok, hz⟩
  · have mt1 := mt.ag (fun k hk _ _ => f1.1.kp hA hk)
    refine v_callV0 (My := mX10_strongest) (As := []) (rest := [.int (zI (aStrongest σ).1)]) rfl caX10_strongest rfl rfl rfl mt1.1.1 rfl rfl (q_strongest G h1 hA mt1 ra.1.2.1 ra.2.1.2 ra.d99) rfl rfl (Nat.le_of_ble_eq_true rfl) (by decide) (fun r h2 q2 => ?_)
    rw [(e_strongest ra.1.1 ra.1.2.1 ra.2.1.1)] at q2
    obtain ⟨rfl, s2⟩ := q2
    refine v_run 0 (pc' := 1001) (ls' := lL G (ad 0) (ad 200) (ad 209) j) (st' := [.int (zI (aStrongest σ).1), .int (zI (aStrongest σ).1)]) rfl ?_
    exact v_icmp_eq rfl (fun _ => kk h2 (LI.q1 hA ho hl hm lr ra h19 h20 (n4_aStrongest σ) c1 f1 s2)) (fun z => absurd rfl z)
  · have m1 := hm.f2 hA f1.1
    rw [u_aStrongest u] at c1 ⊢
    rw [show zI ((-1 : Int), (1 : Nat)).1 = zI (-1) from rfl]
    refine v_callV0 (My := mX10_strongest) (As := []) (rest := [.int (zI (-1))]) rfl caX10_strongest rfl rfl rfl m1.1 rfl rfl (q_strongest0 G h1 m1.1) rfl rfl (Nat.le_of_ble_eq_true rfl) (by decide) (fun r h2 q2 => ?_)
    obtain ⟨rfl, s2⟩ := q2
    refine v_run 0 (pc' := 1001) (ls' := lL G (ad 0) (ad 200) (ad 209) j) (st' := [.int (zI (-1)), .int (zI (-1))]) rfl ?_
    exact v_icmp_eq rfl (fun _ => kk h2 (LI.q0 (t := 1) hA ho hl hm lr u hok hz rfl ⟨by decide, by decide⟩ c1 f1 s2)) (fun z => absurd rfl z)

set_option maxRecDepth 100000 in
set_option maxHeartbeats 1000000 in
theorem cs_33 {G : ssG} {mc ms : Nat} {Q : Option Value → ssH → Prop} (hb : gV G 24 ≤ 3072) {ax am ao j : Nat} {h : ssH} (hj : 6 * j + 6 ≤ gV G 24) (li : LI ax am ao h) (kk : ∀ h', LI ax am ao h' → ssV G mL_law 13 mc ms Q 1658 (lL G ax am ao j) [] h') : ssV G mL_law 13 (mc) (ms) Q 1006 (lL G ax am ao j) [] h := by
  obtain ⟨ad, pl, σ, E, τ, i, N, sv, rv, m, ρ, hA, ⟨rfl, rfl, rfl⟩, ho, hl, hm, lr, lt⟩ := li
  refine v_run 1 (pc' := 1007) (ls' := lL G (ad 0) (ad 200) (ad 209) j) (st' := [.ref (ad 0)]) rfl ?_
  refine v_arg 1 (6 * j) (6 * j + 1) (pc' := 1012) rfl rfl (by omega) (by omega) hb ?_
  refine v_arg 2 (6 * j) (6 * j + 2) (pc' := 1018) rfl rfl (by omega) (by omega) hb ?_
  refine v_bit (pc := 1019) (scI_bd G _) rfl rfl rfl ?_
  refine v_arg 3 (6 * j) (6 * j + 3) (pc' := 1032) rfl rfl (by omega) (by omega) hb ?_
  refine v_bit (pc := 1033) (scI_bd G _) rfl rfl rfl ?_
  refine v_arg 4 (6 * j) (6 * j + 4) (pc' := 1046) rfl rfl (by omega) (by omega) hb ?_
  refine v_bit (pc := 1047) (scI_bd G _) rfl rfl rfl ?_
  refine v_callV0 (My := mX8_wire) (As := [.int (zI (scI G (6 * j + 1))), .int (zb (decide (scI G (6 * j + 2) ≠ 0))), .int (zb (decide (scI G (6 * j + 3) ≠ 0))), .int (zb (decide (scI G (6 * j + 4) ≠ 0)))]) (rest := []) rfl caX8_wire rfl rfl rfl hl.1.2.1 rfl rfl (k_wire G h (scI G (6 * j + 1)) (decide (scI G (6 * j + 2) ≠ 0)) (decide (scI G (6 * j + 3) ≠ 0)) (decide (scI G (6 * j + 4) ≠ 0)) hA hl.1 lt.ok (scI_bd G _)) rfl rfl (Nat.le_of_ble_eq_true rfl) (by decide) (fun r h1 q1 => ?_)
  obtain ⟨rfl, c1, f1⟩ := q1
  refine v_run 1 (pc' := 1059) (ls' := lL G (ad 0) (ad 200) (ad 209) j) (st' := [.ref (ad 200), .int (zI (aWire σ (scI G (6 * j + 1)) (decide (scI G (6 * j + 2) ≠ 0)) (decide (scI G (6 * j + 3) ≠ 0)) (decide (scI G (6 * j + 4) ≠ 0))).1)]) rfl ?_
  refine v_arg 1 (6 * j) (6 * j + 1) (pc' := 1064) rfl rfl (by omega) (by omega) hb ?_
  refine v_arg 2 (6 * j) (6 * j + 2) (pc' := 1070) rfl rfl (by omega) (by omega) hb ?_
  refine v_bit (pc := 1071) (scI_bd G _) rfl rfl rfl ?_
  refine v_arg 3 (6 * j) (6 * j + 3) (pc' := 1084) rfl rfl (by omega) (by omega) hb ?_
  refine v_bit (pc := 1085) (scI_bd G _) rfl rfl rfl ?_
  refine v_arg 4 (6 * j) (6 * j + 4) (pc' := 1098) rfl rfl (by omega) (by omega) hb ?_
  refine v_bit (pc := 1099) (scI_bd G _) rfl rfl rfl ?_
  rcases lt with ⟨ζ, c, k, rfl, mt, ra, h19, h20⟩ | ⟨rfl, u, hok, hz⟩
  · have mt1 := mt.ag (fun k hk _ _ => f1.1.kp hA hk)
    refine v_callV0 (My := mX10_wire) (As := [.int (zI (scI G (6 * j + 1))), .int (zb (decide (scI G (6 * j + 2) ≠ 0))), .int (zb (decide (scI G (6 * j + 3) ≠ 0))), .int (zb (decide (scI G (6 * j + 4) ≠ 0)))]) (rest := [.int (zI (aWire σ (scI G (6 * j + 1)) (decide (scI G (6 * j + 2) ≠ 0)) (decide (scI G (6 * j + 3) ≠ 0)) (decide (scI G (6 * j + 4) ≠ 0))).1)]) rfl caX10_wire rfl rfl rfl mt1.1.1 rfl rfl (q_wire G h1 (scI G (6 * j + 1)) (decide (scI G (6 * j + 2) ≠ 0)) (decide (scI G (6 * j + 3) ≠ 0)) (decide (scI G (6 * j + 4) ≠ 0)) hA mt1 ra.1.2.1 ra.2.1.2 ra.d99 (scI_bd G _)) rfl rfl (Nat.le_of_ble_eq_true rfl) (by decide) (fun r h2 q2 => ?_)
    rw [(e_wire ra.1.1 (scI G (6 * j + 1)) (decide (scI G (6 * j + 2) ≠ 0)) (decide (scI G (6 * j + 3) ≠ 0)) (decide (scI G (6 * j + 4) ≠ 0)))] at q2
    obtain ⟨rfl, s2⟩ := q2
    refine v_run 0 (pc' := 1110) (ls' := lL G (ad 0) (ad 200) (ad 209) j) (st' := [.int (zI (aWire σ (scI G (6 * j + 1)) (decide (scI G (6 * j + 2) ≠ 0)) (decide (scI G (6 * j + 3) ≠ 0)) (decide (scI G (6 * j + 4) ≠ 0))).1), .int (zI (aWire σ (scI G (6 * j + 1)) (decide (scI G (6 * j + 2) ≠ 0)) (decide (scI G (6 * j + 3) ≠ 0)) (decide (scI G (6 * j + 4) ≠ 0))).1)]) rfl ?_
    exact v_icmp_eq rfl (fun _ => kk h2 (LI.q1 hA ho hl hm lr ra h19 h20 (n4_aWire σ _ _ _ _) c1 f1 s2)) (fun z => absurd rfl z)
  · have m1 := hm.f2 hA f1.1
    rw [u_aWire u _ _ _ _] at c1 ⊢
    rw [show zI ((-100 : Int), (1 : Nat)).1 = zI (-100) from rfl]
    refine v_callV0 (My := mX10_wire) (As := [.int (zI (scI G (6 * j + 1))), .int (zb (decide (scI G (6 * j + 2) ≠ 0))), .int (zb (decide (scI G (6 * j + 3) ≠ 0))), .int (zb (decide (scI G (6 * j + 4) ≠ 0)))]) (rest := [.int (zI (-100))]) rfl caX10_wire rfl rfl rfl m1.1 rfl rfl (q_wire0 G h1 (zI (scI G (6 * j + 1))) (zb (decide (scI G (6 * j + 2) ≠ 0))) (zb (decide (scI G (6 * j + 3) ≠ 0))) (zb (decide (scI G (6 * j + 4) ≠ 0))) m1.1) rfl rfl (Nat.le_of_ble_eq_true rfl) (by decide) (fun r h2 q2 => ?_)
    obtain ⟨rfl, s2⟩ := q2
    refine v_run 0 (pc' := 1110) (ls' := lL G (ad 0) (ad 200) (ad 209) j) (st' := [.int (zI (-100)), .int (zI (-100))]) rfl ?_
    exact v_icmp_eq rfl (fun _ => kk h2 (LI.q0 (t := 1) hA ho hl hm lr u hok hz rfl ⟨by decide, by decide⟩ c1 f1 s2)) (fun z => absurd rfl z)

set_option maxRecDepth 100000 in
set_option maxHeartbeats 1000000 in
theorem cs_34 {G : ssG} {mc ms : Nat} {Q : Option Value → ssH → Prop} (hb : gV G 24 ≤ 3072) {ax am ao j : Nat} {h : ssH} (hj : 6 * j + 6 ≤ gV G 24) (li : LI ax am ao h) (kk : ∀ h', LI ax am ao h' → ssV G mL_law 13 mc ms Q 1658 (lL G ax am ao j) [] h') : ssV G mL_law 13 (mc) (ms) Q 1115 (lL G ax am ao j) [] h := by
  obtain ⟨ad, pl, σ, E, τ, i, N, sv, rv, m, ρ, hA, ⟨rfl, rfl, rfl⟩, ho, hl, hm, lr, lt⟩ := li
  refine v_run 1 (pc' := 1116) (ls' := lL G (ad 0) (ad 200) (ad 209) j) (st' := [.ref (ad 0)]) rfl ?_
  refine v_arg 1 (6 * j) (6 * j + 1) (pc' := 1121) rfl rfl (by omega) (by omega) hb ?_
  refine v_callV0 (My := mX8_rests) (As := [.int (zI (scI G (6 * j + 1)))]) (rest := []) rfl caX8_rests rfl rfl rfl hl.1.2.1 rfl rfl (k_rests G h (scI G (6 * j + 1)) hA hl.1 lt.ok (scI_bd G _)) rfl rfl (Nat.le_of_ble_eq_true rfl) (by decide) (fun r h1 q1 => ?_)
  obtain ⟨rfl, c1, f1⟩ := q1
  refine v_run 1 (pc' := 1126) (ls' := lL G (ad 0) (ad 200) (ad 209) j) (st' := [.ref (ad 200), .int (zI (aRests σ (scI G (6 * j + 1))).1)]) rfl ?_
  refine v_arg 1 (6 * j) (6 * j + 1) (pc' := 1131) rfl rfl (by omega) (by omega) hb ?_
  rcases lt with ⟨ζ, c, k, rfl, mt, ra, h19, h20⟩ | ⟨rfl, u, hok, hz⟩
  · have mt1 := mt.ag (fun k hk _ _ => f1.1.kp hA hk)
    refine v_callV0 (My := mX10_rests) (As := [.int (zI (scI G (6 * j + 1)))]) (rest := [.int (zI (aRests σ (scI G (6 * j + 1))).1)]) rfl caX10_rests rfl rfl rfl mt1.1.1 rfl rfl (q_rests G h1 (scI G (6 * j + 1)) hA mt1 ra.1.2.1 ra.2.1.2 ra.d99 (scI_bd G _)) rfl rfl (Nat.le_of_ble_eq_true rfl) (by decide) (fun r h2 q2 => ?_)
    rw [(e_rests ra.1.1 (scI G (6 * j + 1)))] at q2
    obtain ⟨rfl, s2⟩ := q2
    refine v_run 0 (pc' := 1135) (ls' := lL G (ad 0) (ad 200) (ad 209) j) (st' := [.int (zI (aRests σ (scI G (6 * j + 1))).1), .int (zI (aRests σ (scI G (6 * j + 1))).1)]) rfl ?_
    exact v_icmp_eq rfl (fun _ => kk h2 (LI.q1 hA ho hl hm lr ra h19 h20 (n4_aRests σ _) c1 f1 s2)) (fun z => absurd rfl z)
  · have m1 := hm.f2 hA f1.1
    rw [u_aRests u _] at c1 ⊢
    rw [show zI ((-1 : Int), (1 : Nat)).1 = zI (-1) from rfl]
    refine v_callV0 (My := mX10_rests) (As := [.int (zI (scI G (6 * j + 1)))]) (rest := [.int (zI (-1))]) rfl caX10_rests rfl rfl rfl m1.1 rfl rfl (q_rests0 G h1 (zI (scI G (6 * j + 1))) m1.1) rfl rfl (Nat.le_of_ble_eq_true rfl) (by decide) (fun r h2 q2 => ?_)
    obtain ⟨rfl, s2⟩ := q2
    refine v_run 0 (pc' := 1135) (ls' := lL G (ad 0) (ad 200) (ad 209) j) (st' := [.int (zI (-1)), .int (zI (-1))]) rfl ?_
    exact v_icmp_eq rfl (fun _ => kk h2 (LI.q0 (t := 1) hA ho hl hm lr u hok hz rfl ⟨by decide, by decide⟩ c1 f1 s2)) (fun z => absurd rfl z)

set_option maxRecDepth 100000 in
set_option maxHeartbeats 1000000 in
theorem cs_35 {G : ssG} {mc ms : Nat} {Q : Option Value → ssH → Prop} (hb : gV G 24 ≤ 3072) {ax am ao j : Nat} {h : ssH} (hj : 6 * j + 6 ≤ gV G 24) (li : LI ax am ao h) (kk : ∀ h', LI ax am ao h' → ssV G mL_law 13 mc ms Q 1658 (lL G ax am ao j) [] h') : ssV G mL_law 13 (mc) (ms) Q 1140 (lL G ax am ao j) [] h := by
  obtain ⟨ad, pl, σ, E, τ, i, N, sv, rv, m, ρ, hA, ⟨rfl, rfl, rfl⟩, ho, hl, hm, lr, lt⟩ := li
  refine v_run 1 (pc' := 1141) (ls' := lL G (ad 0) (ad 200) (ad 209) j) (st' := [.ref (ad 0)]) rfl ?_
  refine v_arg 1 (6 * j) (6 * j + 1) (pc' := 1146) rfl rfl (by omega) (by omega) hb ?_
  refine v_callV0 (My := mX8_rest) (As := [.int (zI (scI G (6 * j + 1)))]) (rest := []) rfl caX8_rest rfl rfl rfl hl.1.2.1 rfl rfl (k_rest G h (scI G (6 * j + 1)) hA hl.1 lt.ok (scI_bd G _)) rfl rfl (Nat.le_of_ble_eq_true rfl) (by decide) (fun r h1 q1 => ?_)
  obtain ⟨rfl, c1, f1⟩ := q1
  refine v_run 1 (pc' := 1151) (ls' := lL G (ad 0) (ad 200) (ad 209) j) (st' := [.ref (ad 200), .int (zI (aRest σ (scI G (6 * j + 1))).1)]) rfl ?_
  refine v_arg 1 (6 * j) (6 * j + 1) (pc' := 1156) rfl rfl (by omega) (by omega) hb ?_
  rcases lt with ⟨ζ, c, k, rfl, mt, ra, h19, h20⟩ | ⟨rfl, u, hok, hz⟩
  · have mt1 := mt.ag (fun k hk _ _ => f1.1.kp hA hk)
    refine v_callV0 (My := mX10_rest) (As := [.int (zI (scI G (6 * j + 1)))]) (rest := [.int (zI (aRest σ (scI G (6 * j + 1))).1)]) rfl caX10_rest rfl rfl rfl mt1.1.1 rfl rfl (q_rest G h1 (scI G (6 * j + 1)) hA mt1 ra.1.2.1 ra.2.1.2 ra.d99 (scI_bd G _)) rfl rfl (Nat.le_of_ble_eq_true rfl) (by decide) (fun r h2 q2 => ?_)
    rw [(e_rest ra.1.1 (scI G (6 * j + 1)))] at q2
    obtain ⟨rfl, s2⟩ := q2
    refine v_run 0 (pc' := 1160) (ls' := lL G (ad 0) (ad 200) (ad 209) j) (st' := [.int (zI (aRest σ (scI G (6 * j + 1))).1), .int (zI (aRest σ (scI G (6 * j + 1))).1)]) rfl ?_
    exact v_icmp_eq rfl (fun _ => kk h2 (LI.q1 hA ho hl hm lr ra h19 h20 (n4_aRest σ _) c1 f1 s2)) (fun z => absurd rfl z)
  · have m1 := hm.f2 hA f1.1
    rw [u_aRest u _] at c1 ⊢
    rw [show zI ((-1 : Int), (1 : Nat)).1 = zI (-1) from rfl]
    refine v_callV0 (My := mX10_rest) (As := [.int (zI (scI G (6 * j + 1)))]) (rest := [.int (zI (-1))]) rfl caX10_rest rfl rfl rfl m1.1 rfl rfl (q_rest0 G h1 (zI (scI G (6 * j + 1))) m1.1) rfl rfl (Nat.le_of_ble_eq_true rfl) (by decide) (fun r h2 q2 => ?_)
    obtain ⟨rfl, s2⟩ := q2
    refine v_run 0 (pc' := 1160) (ls' := lL G (ad 0) (ad 200) (ad 209) j) (st' := [.int (zI (-1)), .int (zI (-1))]) rfl ?_
    exact v_icmp_eq rfl (fun _ => kk h2 (LI.q0 (t := 1) hA ho hl hm lr u hok hz rfl ⟨by decide, by decide⟩ c1 f1 s2)) (fun z => absurd rfl z)

set_option maxRecDepth 100000 in
set_option maxHeartbeats 1000000 in
theorem cs_36 {G : ssG} {mc ms : Nat} {Q : Option Value → ssH → Prop} (hb : gV G 24 ≤ 3072) {ax am ao j : Nat} {h : ssH} (hj : 6 * j + 6 ≤ gV G 24) (li : LI ax am ao h) (kk : ∀ h', LI ax am ao h' → ssV G mL_law 13 mc ms Q 1658 (lL G ax am ao j) [] h') : ssV G mL_law 13 (mc) (ms) Q 1165 (lL G ax am ao j) [] h := by
  obtain ⟨ad, pl, σ, E, τ, i, N, sv, rv, m, ρ, hA, ⟨rfl, rfl, rfl⟩, ho, hl, hm, lr, lt⟩ := li
  refine v_run 1 (pc' := 1166) (ls' := lL G (ad 0) (ad 200) (ad 209) j) (st' := [.ref (ad 0)]) rfl ?_
  refine v_arg 1 (6 * j) (6 * j + 1) (pc' := 1171) rfl rfl (by omega) (by omega) hb ?_
  refine v_arg 2 (6 * j) (6 * j + 2) (pc' := 1177) rfl rfl (by omega) (by omega) hb ?_
  refine v_bit (pc := 1178) (scI_bd G _) rfl rfl rfl ?_
  refine v_callV0 (My := mX8_odds) (As := [.int (zI (scI G (6 * j + 1))), .int (zb (decide (scI G (6 * j + 2) ≠ 0)))]) (rest := []) rfl caX8_odds rfl rfl rfl hl.1.2.1 rfl rfl (k_odds G h (scI G (6 * j + 1)) (decide (scI G (6 * j + 2) ≠ 0)) hA hl.1 lt.ok (scI_bd G _)) rfl rfl (Nat.le_of_ble_eq_true rfl) (by decide) (fun r h1 q1 => ?_)
  obtain ⟨rfl, c1, f1⟩ := q1
  refine v_run 1 (pc' := 1190) (ls' := lL G (ad 0) (ad 200) (ad 209) j) (st' := [.ref (ad 200), .long (zL (aOdds σ (scI G (6 * j + 1)) (decide (scI G (6 * j + 2) ≠ 0))).1)]) rfl ?_
  refine v_arg 1 (6 * j) (6 * j + 1) (pc' := 1195) rfl rfl (by omega) (by omega) hb ?_
  refine v_arg 2 (6 * j) (6 * j + 2) (pc' := 1201) rfl rfl (by omega) (by omega) hb ?_
  refine v_bit (pc := 1202) (scI_bd G _) rfl rfl rfl ?_
  rcases lt with ⟨ζ, c, k, rfl, mt, ra, h19, h20⟩ | ⟨rfl, u, hok, hz⟩
  · have mt1 := mt.ag (fun k hk _ _ => f1.1.kp hA hk)
    refine v_callV0 (My := mX10_odds) (As := [.int (zI (scI G (6 * j + 1))), .int (zb (decide (scI G (6 * j + 2) ≠ 0)))]) (rest := [.long (zL (aOdds σ (scI G (6 * j + 1)) (decide (scI G (6 * j + 2) ≠ 0))).1)]) rfl caX10_odds rfl rfl rfl mt1.1.1 rfl rfl (q_odds G h1 (scI G (6 * j + 1)) (decide (scI G (6 * j + 2) ≠ 0)) hA mt1 ra.1.2.1 ra.2.1.2 ra.d99 (scI_bd G _)) rfl rfl (Nat.le_of_ble_eq_true rfl) (by decide) (fun r h2 q2 => ?_)
    rw [(e_odds ra.1.1 ra.1.2.1 ra.2.1.1 (scI G (6 * j + 1)) (decide (scI G (6 * j + 2) ≠ 0)))] at q2
    obtain ⟨rfl, s2⟩ := q2
    refine v_run 1 (pc' := 1214) (ls' := lL G (ad 0) (ad 200) (ad 209) j) (st' := [.int (lg_cmp ((zL (aOdds σ (scI G (6 * j + 1)) (decide (scI G (6 * j + 2) ≠ 0))).1)) ((zL (aOdds σ (scI G (6 * j + 1)) (decide (scI G (6 * j + 2) ≠ 0))).1)))]) rfl ?_
    refine v_if_eq rfl (fun _ => kk h2 (LI.q1 hA ho hl hm lr ra h19 h20 (n4_aOdds σ _ _) c1 f1 s2)) (fun z => absurd (lgc_self _) z)
  · have m1 := hm.f2 hA f1.1
    rw [u_aOdds u _ _] at c1 ⊢
    rw [show zL ((-1 : Int), (1 : Nat)).1 = zL (-1) from rfl]
    refine v_callV0 (My := mX10_odds) (As := [.int (zI (scI G (6 * j + 1))), .int (zb (decide (scI G (6 * j + 2) ≠ 0)))]) (rest := [.long (zL (-1))]) rfl caX10_odds rfl rfl rfl m1.1 rfl rfl (q_odds0 G h1 (scI G (6 * j + 1)) (zb (decide (scI G (6 * j + 2) ≠ 0))) m1.1 (scI_bd G _)) rfl rfl (Nat.le_of_ble_eq_true rfl) (by decide) (fun r h2 q2 => ?_)
    obtain ⟨rfl, s2⟩ := q2
    refine v_run 1 (pc' := 1214) (ls' := lL G (ad 0) (ad 200) (ad 209) j) (st' := [.int (lg_cmp ((zL (-1))) ((zL (-1))))]) rfl ?_
    refine v_if_eq rfl (fun _ => kk h2 (LI.q0 (t := 1) hA ho hl hm lr u hok hz rfl ⟨by decide, by decide⟩ c1 f1 s2)) (fun z => absurd (lgc_self _) z)

set_option maxRecDepth 100000 in
set_option maxHeartbeats 1000000 in
theorem cs_37 {G : ssG} {mc ms : Nat} {Q : Option Value → ssH → Prop} (hb : gV G 24 ≤ 3072) {ax am ao j : Nat} {h : ssH} (hj : 6 * j + 6 ≤ gV G 24) (li : LI ax am ao h) (kk : ∀ h', LI ax am ao h' → ssV G mL_law 13 mc ms Q 1658 (lL G ax am ao j) [] h') : ssV G mL_law 13 (mc) (ms) Q 1219 (lL G ax am ao j) [] h := by
  obtain ⟨ad, pl, σ, E, τ, i, N, sv, rv, m, ρ, hA, ⟨rfl, rfl, rfl⟩, ho, hl, hm, lr, lt⟩ := li
  refine v_run 1 (pc' := 1220) (ls' := lL G (ad 0) (ad 200) (ad 209) j) (st' := [.ref (ad 0)]) rfl ?_
  refine v_arg 1 (6 * j) (6 * j + 1) (pc' := 1225) rfl rfl (by omega) (by omega) hb ?_
  refine v_arg 2 (6 * j) (6 * j + 2) (pc' := 1231) rfl rfl (by omega) (by omega) hb ?_
  refine v_arg 3 (6 * j) (6 * j + 3) (pc' := 1237) rfl rfl (by omega) (by omega) hb ?_
  refine v_bit (pc := 1238) (scI_bd G _) rfl rfl rfl ?_
  refine v_callV0 (My := mX8_goodOdds) (As := [.int (zI (scI G (6 * j + 1))), .int (zI (scI G (6 * j + 2))), .int (zb (decide (scI G (6 * j + 3) ≠ 0)))]) (rest := []) rfl caX8_goodOdds rfl rfl rfl hl.1.2.1 rfl rfl (k_goodOdds G h (scI G (6 * j + 1)) (scI G (6 * j + 2)) (decide (scI G (6 * j + 3) ≠ 0)) hA hl.1 lt.ok (scI_bd G _) (scI_bd G _)) rfl rfl (Nat.le_of_ble_eq_true rfl) (by decide) (fun r h1 q1 => ?_)
  obtain ⟨rfl, c1, f1⟩ := q1
  refine v_run 1 (pc' := 1250) (ls' := lL G (ad 0) (ad 200) (ad 209) j) (st' := [.ref (ad 200), .long (zL (aGoodOdds σ (scI G (6 * j + 1)) (scI G (6 * j + 2)) (decide (scI G (6 * j + 3) ≠ 0))).1)]) rfl ?_
  refine v_arg 1 (6 * j) (6 * j + 1) (pc' := 1255) rfl rfl (by omega) (by omega) hb ?_
  refine v_arg 2 (6 * j) (6 * j + 2) (pc' := 1261) rfl rfl (by omega) (by omega) hb ?_
  refine v_arg 3 (6 * j) (6 * j + 3) (pc' := 1267) rfl rfl (by omega) (by omega) hb ?_
  refine v_bit (pc := 1268) (scI_bd G _) rfl rfl rfl ?_
  rcases lt with ⟨ζ, c, k, rfl, mt, ra, h19, h20⟩ | ⟨rfl, u, hok, hz⟩
  · have mt1 := mt.ag (fun k hk _ _ => f1.1.kp hA hk)
    refine v_callV0 (My := mX10_goodOdds) (As := [.int (zI (scI G (6 * j + 1))), .int (zI (scI G (6 * j + 2))), .int (zb (decide (scI G (6 * j + 3) ≠ 0)))]) (rest := [.long (zL (aGoodOdds σ (scI G (6 * j + 1)) (scI G (6 * j + 2)) (decide (scI G (6 * j + 3) ≠ 0))).1)]) rfl caX10_goodOdds rfl rfl rfl mt1.1.1 rfl rfl (q_goodOdds G h1 (scI G (6 * j + 1)) (scI G (6 * j + 2)) (decide (scI G (6 * j + 3) ≠ 0)) hA mt1 ra.1.2.1 ra.2.1.2 ra.d99 (scI_bd G _) (scI_bd G _)) rfl rfl (Nat.le_of_ble_eq_true rfl) (by decide) (fun r h2 q2 => ?_)
    rw [(e_goodOdds ra.1.1 ra.1.2.1 ra.2.1.1 (scI G (6 * j + 1)) (scI G (6 * j + 2)) (decide (scI G (6 * j + 3) ≠ 0)))] at q2
    obtain ⟨rfl, s2⟩ := q2
    refine v_run 1 (pc' := 1280) (ls' := lL G (ad 0) (ad 200) (ad 209) j) (st' := [.int (lg_cmp ((zL (aGoodOdds σ (scI G (6 * j + 1)) (scI G (6 * j + 2)) (decide (scI G (6 * j + 3) ≠ 0))).1)) ((zL (aGoodOdds σ (scI G (6 * j + 1)) (scI G (6 * j + 2)) (decide (scI G (6 * j + 3) ≠ 0))).1)))]) rfl ?_
    refine v_if_eq rfl (fun _ => kk h2 (LI.q1 hA ho hl hm lr ra h19 h20 (n4_aGoodOdds σ _ _ _) c1 f1 s2)) (fun z => absurd (lgc_self _) z)
  · have m1 := hm.f2 hA f1.1
    rw [u_aGoodOdds u _ _ _] at c1 ⊢
    rw [show zL ((-1 : Int), (1 : Nat)).1 = zL (-1) from rfl]
    refine v_callV0 (My := mX10_goodOdds) (As := [.int (zI (scI G (6 * j + 1))), .int (zI (scI G (6 * j + 2))), .int (zb (decide (scI G (6 * j + 3) ≠ 0)))]) (rest := [.long (zL (-1))]) rfl caX10_goodOdds rfl rfl rfl m1.1 rfl rfl (q_goodOdds0 G h1 (zI (scI G (6 * j + 1))) (scI G (6 * j + 2)) (zb (decide (scI G (6 * j + 3) ≠ 0))) m1.1 (scI_bd G _)) rfl rfl (Nat.le_of_ble_eq_true rfl) (by decide) (fun r h2 q2 => ?_)
    obtain ⟨rfl, s2⟩ := q2
    refine v_run 1 (pc' := 1280) (ls' := lL G (ad 0) (ad 200) (ad 209) j) (st' := [.int (lg_cmp ((zL (-1))) ((zL (-1))))]) rfl ?_
    refine v_if_eq rfl (fun _ => kk h2 (LI.q0 (t := 1) hA ho hl hm lr u hok hz rfl ⟨by decide, by decide⟩ c1 f1 s2)) (fun z => absurd (lgc_self _) z)

set_option maxRecDepth 100000 in
set_option maxHeartbeats 1000000 in
theorem cs_38 {G : ssG} {mc ms : Nat} {Q : Option Value → ssH → Prop} (hb : gV G 24 ≤ 3072) {ax am ao j : Nat} {h : ssH} (hj : 6 * j + 6 ≤ gV G 24) (li : LI ax am ao h) (kk : ∀ h', LI ax am ao h' → ssV G mL_law 13 mc ms Q 1658 (lL G ax am ao j) [] h') : ssV G mL_law 13 (mc) (ms) Q 1285 (lL G ax am ao j) [] h := by
  obtain ⟨ad, pl, σ, E, τ, i, N, sv, rv, m, ρ, hA, ⟨rfl, rfl, rfl⟩, ho, hl, hm, lr, lt⟩ := li
  refine v_run 1 (pc' := 1286) (ls' := lL G (ad 0) (ad 200) (ad 209) j) (st' := [.ref (ad 0)]) rfl ?_
  refine v_arg 1 (6 * j) (6 * j + 1) (pc' := 1291) rfl rfl (by omega) (by omega) hb ?_
  refine v_arg 2 (6 * j) (6 * j + 2) (pc' := 1297) rfl rfl (by omega) (by omega) hb ?_
  refine v_bit (pc := 1298) (scI_bd G _) rfl rfl rfl ?_
  refine v_callV0 (My := mX8_mean) (As := [.int (zI (scI G (6 * j + 1))), .int (zb (decide (scI G (6 * j + 2) ≠ 0)))]) (rest := []) rfl caX8_mean rfl rfl rfl hl.1.2.1 rfl rfl (k_mean G h (scI G (6 * j + 1)) (decide (scI G (6 * j + 2) ≠ 0)) hA hl.1 lt.ok (scI_bd G _)) rfl rfl (Nat.le_of_ble_eq_true rfl) (by decide) (fun r h1 q1 => ?_)
  obtain ⟨rfl, c1, f1⟩ := q1
  refine v_run 1 (pc' := 1310) (ls' := lL G (ad 0) (ad 200) (ad 209) j) (st' := [.ref (ad 200), .long (zL (aMean σ (scI G (6 * j + 1)) (decide (scI G (6 * j + 2) ≠ 0))).1)]) rfl ?_
  refine v_arg 1 (6 * j) (6 * j + 1) (pc' := 1315) rfl rfl (by omega) (by omega) hb ?_
  refine v_arg 2 (6 * j) (6 * j + 2) (pc' := 1321) rfl rfl (by omega) (by omega) hb ?_
  refine v_bit (pc := 1322) (scI_bd G _) rfl rfl rfl ?_
  rcases lt with ⟨ζ, c, k, rfl, mt, ra, h19, h20⟩ | ⟨rfl, u, hok, hz⟩
  · have mt1 := mt.ag (fun k hk _ _ => f1.1.kp hA hk)
    refine v_callV0 (My := mX10_mean) (As := [.int (zI (scI G (6 * j + 1))), .int (zb (decide (scI G (6 * j + 2) ≠ 0)))]) (rest := [.long (zL (aMean σ (scI G (6 * j + 1)) (decide (scI G (6 * j + 2) ≠ 0))).1)]) rfl caX10_mean rfl rfl rfl mt1.1.1 rfl rfl (q_mean G h1 (scI G (6 * j + 1)) (decide (scI G (6 * j + 2) ≠ 0)) hA mt1 ra.1.2.1 ra.2.1.2 ra.d99 (scI_bd G _)) rfl rfl (Nat.le_of_ble_eq_true rfl) (by decide) (fun r h2 q2 => ?_)
    rw [(e_mean ra.1.1 ra.1.2.1 ra.2.1.1 (scI G (6 * j + 1)) (decide (scI G (6 * j + 2) ≠ 0)))] at q2
    obtain ⟨rfl, s2⟩ := q2
    refine v_run 1 (pc' := 1334) (ls' := lL G (ad 0) (ad 200) (ad 209) j) (st' := [.int (lg_cmp ((zL (aMean σ (scI G (6 * j + 1)) (decide (scI G (6 * j + 2) ≠ 0))).1)) ((zL (aMean σ (scI G (6 * j + 1)) (decide (scI G (6 * j + 2) ≠ 0))).1)))]) rfl ?_
    refine v_if_eq rfl (fun _ => kk h2 (LI.q1 hA ho hl hm lr ra h19 h20 (n4_aMean σ _ _) c1 f1 s2)) (fun z => absurd (lgc_self _) z)
  · have m1 := hm.f2 hA f1.1
    rw [u_aMean u _ _] at c1 ⊢
    rw [show zL ((-1 : Int), (1 : Nat)).1 = zL (-1) from rfl]
    refine v_callV0 (My := mX10_mean) (As := [.int (zI (scI G (6 * j + 1))), .int (zb (decide (scI G (6 * j + 2) ≠ 0)))]) (rest := [.long (zL (-1))]) rfl caX10_mean rfl rfl rfl m1.1 rfl rfl (q_mean0 G h1 (scI G (6 * j + 1)) (zb (decide (scI G (6 * j + 2) ≠ 0))) m1.1 (scI_bd G _)) rfl rfl (Nat.le_of_ble_eq_true rfl) (by decide) (fun r h2 q2 => ?_)
    obtain ⟨rfl, s2⟩ := q2
    refine v_run 1 (pc' := 1334) (ls' := lL G (ad 0) (ad 200) (ad 209) j) (st' := [.int (lg_cmp ((zL (-1))) ((zL (-1))))]) rfl ?_
    refine v_if_eq rfl (fun _ => kk h2 (LI.q0 (t := 1) hA ho hl hm lr u hok hz rfl ⟨by decide, by decide⟩ c1 f1 s2)) (fun z => absurd (lgc_self _) z)

set_option maxRecDepth 100000 in
set_option maxHeartbeats 1000000 in
theorem cs_39 {G : ssG} {mc ms : Nat} {Q : Option Value → ssH → Prop} (hb : gV G 24 ≤ 3072) {ax am ao j : Nat} {h : ssH} (hj : 6 * j + 6 ≤ gV G 24) (li : LI ax am ao h) (kk : ∀ h', LI ax am ao h' → ssV G mL_law 13 mc ms Q 1658 (lL G ax am ao j) [] h') : ssV G mL_law 13 (mc) (ms) Q 1339 (lL G ax am ao j) [] h := by
  obtain ⟨ad, pl, σ, E, τ, i, N, sv, rv, m, ρ, hA, ⟨rfl, rfl, rfl⟩, ho, hl, hm, lr, lt⟩ := li
  refine v_run 1 (pc' := 1340) (ls' := lL G (ad 0) (ad 200) (ad 209) j) (st' := [.ref (ad 0)]) rfl ?_
  refine v_arg 1 (6 * j) (6 * j + 1) (pc' := 1345) rfl rfl (by omega) (by omega) hb ?_
  refine v_arg 2 (6 * j) (6 * j + 2) (pc' := 1351) rfl rfl (by omega) (by omega) hb ?_
  refine v_callV0 (My := mX8_days) (As := [.int (zI (scI G (6 * j + 1))), .int (zI (scI G (6 * j + 2)))]) (rest := []) rfl caX8_days rfl rfl rfl hl.1.2.1 rfl rfl (k_days G h (scI G (6 * j + 1)) (scI G (6 * j + 2)) hA hl.1 lt.ok (scI_bd G _) (scI_bd G _)) rfl rfl (Nat.le_of_ble_eq_true rfl) (by decide) (fun r h1 q1 => ?_)
  obtain ⟨rfl, c1, f1⟩ := q1
  refine v_run 1 (pc' := 1356) (ls' := lL G (ad 0) (ad 200) (ad 209) j) (st' := [.ref (ad 200), .int (zI (aDays σ (scI G (6 * j + 1)) (scI G (6 * j + 2))).1)]) rfl ?_
  refine v_arg 1 (6 * j) (6 * j + 1) (pc' := 1361) rfl rfl (by omega) (by omega) hb ?_
  refine v_arg 2 (6 * j) (6 * j + 2) (pc' := 1367) rfl rfl (by omega) (by omega) hb ?_
  rcases lt with ⟨ζ, c, k, rfl, mt, ra, h19, h20⟩ | ⟨rfl, u, hok, hz⟩
  · have mt1 := mt.ag (fun k hk _ _ => f1.1.kp hA hk)
    refine v_callV0 (My := mX10_days) (As := [.int (zI (scI G (6 * j + 1))), .int (zI (scI G (6 * j + 2)))]) (rest := [.int (zI (aDays σ (scI G (6 * j + 1)) (scI G (6 * j + 2))).1)]) rfl caX10_days rfl rfl rfl mt1.1.1 rfl rfl (q_days G h1 (scI G (6 * j + 1)) (scI G (6 * j + 2)) hA mt1 ra.1.2.1 ra.2.1.2 ra.d99 (scI_bd G _) (scI_bd G _)) rfl rfl (Nat.le_of_ble_eq_true rfl) (by decide) (fun r h2 q2 => ?_)
    rw [(e_days ra.1.1 ra.1.2.1 ra.2.1.1 (scI G (6 * j + 1)) (scI G (6 * j + 2)))] at q2
    obtain ⟨rfl, s2⟩ := q2
    refine v_run 0 (pc' := 1371) (ls' := lL G (ad 0) (ad 200) (ad 209) j) (st' := [.int (zI (aDays σ (scI G (6 * j + 1)) (scI G (6 * j + 2))).1), .int (zI (aDays σ (scI G (6 * j + 1)) (scI G (6 * j + 2))).1)]) rfl ?_
    exact v_icmp_eq rfl (fun _ => kk h2 (LI.q1 hA ho hl hm lr ra h19 h20 (n4_aDays σ _ _) c1 f1 s2)) (fun z => absurd rfl z)
  · have m1 := hm.f2 hA f1.1
    rw [u_aDays u _ _] at c1 ⊢
    rw [show zI ((-1 : Int), (1 : Nat)).1 = zI (-1) from rfl]
    refine v_callV0 (My := mX10_days) (As := [.int (zI (scI G (6 * j + 1))), .int (zI (scI G (6 * j + 2)))]) (rest := [.int (zI (-1))]) rfl caX10_days rfl rfl rfl m1.1 rfl rfl (q_days0 G h1 (zI (scI G (6 * j + 1))) (zI (scI G (6 * j + 2))) m1.1) rfl rfl (Nat.le_of_ble_eq_true rfl) (by decide) (fun r h2 q2 => ?_)
    obtain ⟨rfl, s2⟩ := q2
    refine v_run 0 (pc' := 1371) (ls' := lL G (ad 0) (ad 200) (ad 209) j) (st' := [.int (zI (-1)), .int (zI (-1))]) rfl ?_
    exact v_icmp_eq rfl (fun _ => kk h2 (LI.q0 (t := 1) hA ho hl hm lr u hok hz rfl ⟨by decide, by decide⟩ c1 f1 s2)) (fun z => absurd rfl z)

set_option maxRecDepth 100000 in
set_option maxHeartbeats 1000000 in
theorem cs_40 {G : ssG} {mc ms : Nat} {Q : Option Value → ssH → Prop} (hb : gV G 24 ≤ 3072) {ax am ao j : Nat} {h : ssH} (hj : 6 * j + 6 ≤ gV G 24) (li : LI ax am ao h) (kk : ∀ h', LI ax am ao h' → ssV G mL_law 13 mc ms Q 1658 (lL G ax am ao j) [] h') : ssV G mL_law 13 (mc) (ms) Q 1376 (lL G ax am ao j) [] h := by
  obtain ⟨ad, pl, σ, E, τ, i, N, sv, rv, m, ρ, hA, ⟨rfl, rfl, rfl⟩, ho, hl, hm, lr, lt⟩ := li
  refine v_run 1 (pc' := 1377) (ls' := lL G (ad 0) (ad 200) (ad 209) j) (st' := [.ref (ad 0)]) rfl ?_
  refine v_arg 1 (6 * j) (6 * j + 1) (pc' := 1382) rfl rfl (by omega) (by omega) hb ?_
  refine v_arg 2 (6 * j) (6 * j + 2) (pc' := 1388) rfl rfl (by omega) (by omega) hb ?_
  refine v_callV0 (My := mX8_thunders) (As := [.int (zI (scI G (6 * j + 1))), .int (zI (scI G (6 * j + 2)))]) (rest := []) rfl caX8_thunders rfl rfl rfl hl.1.2.1 rfl rfl (k_thunders G h (scI G (6 * j + 1)) (scI G (6 * j + 2)) hA hl.1 lt.ok (scI_bd G _) (scI_bd G _)) rfl rfl (Nat.le_of_ble_eq_true rfl) (by decide) (fun r h1 q1 => ?_)
  obtain ⟨rfl, c1, f1⟩ := q1
  refine v_run 1 (pc' := 1393) (ls' := lL G (ad 0) (ad 200) (ad 209) j) (st' := [.ref (ad 200), .int (zI (aThunders σ (scI G (6 * j + 1)) (scI G (6 * j + 2))).1)]) rfl ?_
  refine v_arg 1 (6 * j) (6 * j + 1) (pc' := 1398) rfl rfl (by omega) (by omega) hb ?_
  refine v_arg 2 (6 * j) (6 * j + 2) (pc' := 1404) rfl rfl (by omega) (by omega) hb ?_
  rcases lt with ⟨ζ, c, k, rfl, mt, ra, h19, h20⟩ | ⟨rfl, u, hok, hz⟩
  · have mt1 := mt.ag (fun k hk _ _ => f1.1.kp hA hk)
    refine v_callV0 (My := mX10_thunders) (As := [.int (zI (scI G (6 * j + 1))), .int (zI (scI G (6 * j + 2)))]) (rest := [.int (zI (aThunders σ (scI G (6 * j + 1)) (scI G (6 * j + 2))).1)]) rfl caX10_thunders rfl rfl rfl mt1.1.1 rfl rfl (q_thunders G h1 (scI G (6 * j + 1)) (scI G (6 * j + 2)) hA mt1 ra.1.2.1 ra.2.1.2 ra.d99 (scI_bd G _) (scI_bd G _)) rfl rfl (Nat.le_of_ble_eq_true rfl) (by decide) (fun r h2 q2 => ?_)
    rw [(e_thunders ra.1.1 (scI G (6 * j + 1)) (scI G (6 * j + 2)))] at q2
    obtain ⟨rfl, s2⟩ := q2
    refine v_run 0 (pc' := 1408) (ls' := lL G (ad 0) (ad 200) (ad 209) j) (st' := [.int (zI (aThunders σ (scI G (6 * j + 1)) (scI G (6 * j + 2))).1), .int (zI (aThunders σ (scI G (6 * j + 1)) (scI G (6 * j + 2))).1)]) rfl ?_
    exact v_icmp_eq rfl (fun _ => kk h2 (LI.q1 hA ho hl hm lr ra h19 h20 (n4_aThunders σ _ _) c1 f1 s2)) (fun z => absurd rfl z)
  · have m1 := hm.f2 hA f1.1
    rw [u_aThunders u _ _] at c1 ⊢
    rw [show zI ((-1 : Int), (1 : Nat)).1 = zI (-1) from rfl]
    refine v_callV0 (My := mX10_thunders) (As := [.int (zI (scI G (6 * j + 1))), .int (zI (scI G (6 * j + 2)))]) (rest := [.int (zI (-1))]) rfl caX10_thunders rfl rfl rfl m1.1 rfl rfl (q_thunders0 G h1 (zI (scI G (6 * j + 1))) (zI (scI G (6 * j + 2))) m1.1) rfl rfl (Nat.le_of_ble_eq_true rfl) (by decide) (fun r h2 q2 => ?_)
    obtain ⟨rfl, s2⟩ := q2
    refine v_run 0 (pc' := 1408) (ls' := lL G (ad 0) (ad 200) (ad 209) j) (st' := [.int (zI (-1)), .int (zI (-1))]) rfl ?_
    exact v_icmp_eq rfl (fun _ => kk h2 (LI.q0 (t := 1) hA ho hl hm lr u hok hz rfl ⟨by decide, by decide⟩ c1 f1 s2)) (fun z => absurd rfl z)

set_option maxRecDepth 100000 in
set_option maxHeartbeats 1000000 in
theorem cs_41 {G : ssG} {mc ms : Nat} {Q : Option Value → ssH → Prop} (hb : gV G 24 ≤ 3072) {ax am ao j : Nat} {h : ssH} (hj : 6 * j + 6 ≤ gV G 24) (li : LI ax am ao h) (kk : ∀ h', LI ax am ao h' → ssV G mL_law 13 mc ms Q 1658 (lL G ax am ao j) [] h') : ssV G mL_law 13 (mc) (ms) Q 1413 (lL G ax am ao j) [] h := by
  obtain ⟨ad, pl, σ, E, τ, i, N, sv, rv, m, ρ, hA, ⟨rfl, rfl, rfl⟩, ho, hl, hm, lr, lt⟩ := li
  refine v_run 1 (pc' := 1414) (ls' := lL G (ad 0) (ad 200) (ad 209) j) (st' := [.ref (ad 0)]) rfl ?_
  refine v_callV0 (My := mX8_day) (As := []) (rest := []) rfl caX8_day rfl rfl rfl hl.1.2.1 rfl rfl (k_day G h hA hl.1 lt.ok lt.z lt.u) rfl rfl (Nat.le_of_ble_eq_true rfl) (by decide) (fun r h1 q1 => ?_)
  obtain ⟨rfl, c1, f1⟩ := q1
  refine v_run 1 (pc' := 1418) (ls' := lL G (ad 0) (ad 200) (ad 209) j) (st' := [.ref (ad 200), .int (zI (tDay σ).1)]) rfl ?_
  rcases lt with ⟨ζ, c, k, rfl, mt, ra, h19, h20⟩ | ⟨rfl, u, hok, hz⟩
  · have mt1 := mt.ag (fun k hk _ _ => f1.1.kp hA hk)
    refine v_callV0 (My := mX10_day) (As := []) (rest := [.int (zI (tDay σ).1)]) rfl caX10_day rfl rfl rfl mt1.1.1 rfl rfl (q_day G h1 c hA mt1 ra.1.2.1 ra.2.1.2 ra.d99 h19 ra.2.2.1.2.1) rfl rfl (Nat.le_of_ble_eq_true rfl) (by decide) (fun r h2 q2 => ?_)
    obtain ⟨rfl, li⟩ := LI.a1 hA ho hl hm lr (K12.day σ) (n4.day σ) c1 f1 (e_day ra h19 h20) q2
    refine v_run 0 (pc' := 1421) (ls' := lL G (ad 0) (ad 200) (ad 209) j) (st' := [.int (zI (tDay σ).1), .int (zI (tDay σ).1)]) rfl ?_
    exact v_icmp_eq rfl (fun _ => kk h2 li) (fun z => absurd rfl z)
  · have m1 := hm.f2 hA f1.1
    rw [u_tDay u] at c1 ⊢
    rw [show zI ((-1 : Int), sTr σ 1).1 = zI (-1) from rfl]
    refine v_callV0 (My := mX10_day) (As := []) (rest := [.int (zI (-1))]) rfl caX10_day rfl rfl rfl m1.1 rfl rfl (q_day0 G h1 m1.1) rfl rfl (Nat.le_of_ble_eq_true rfl) (by decide) (fun r h2 q2 => ?_)
    obtain ⟨rfl, s2⟩ := q2
    refine v_run 0 (pc' := 1421) (ls' := lL G (ad 0) (ad 200) (ad 209) j) (st' := [.int (zI (-1)), .int (zI (-1))]) rfl ?_
    exact v_icmp_eq rfl (fun _ => kk h2 (LI.q0 (t := 1) hA ho hl hm lr u hok hz rfl ⟨by decide, by decide⟩ c1 f1 s2)) (fun z => absurd rfl z)

set_option maxRecDepth 100000 in
set_option maxHeartbeats 1000000 in
theorem cs_42 {G : ssG} {mc ms : Nat} {Q : Option Value → ssH → Prop} (hb : gV G 24 ≤ 3072) {ax am ao j : Nat} {h : ssH} (hj : 6 * j + 6 ≤ gV G 24) (li : LI ax am ao h) (kk : ∀ h', LI ax am ao h' → ssV G mL_law 13 mc ms Q 1658 (lL G ax am ao j) [] h') : ssV G mL_law 13 (mc) (ms) Q 1426 (lL G ax am ao j) [] h := by
  obtain ⟨ad, pl, σ, E, τ, i, N, sv, rv, m, ρ, hA, ⟨rfl, rfl, rfl⟩, ho, hl, hm, lr, lt⟩ := li
  refine v_run 1 (pc' := 1427) (ls' := lL G (ad 0) (ad 200) (ad 209) j) (st' := [.ref (ad 0)]) rfl ?_
  refine v_arg 1 (6 * j) (6 * j + 1) (pc' := 1432) rfl rfl (by omega) (by omega) hb ?_
  refine v_arg 2 (6 * j) (6 * j + 2) (pc' := 1438) rfl rfl (by omega) (by omega) hb ?_
  refine v_callV0 (My := mX8_move) (As := [.int (zI (scI G (6 * j + 1))), .int (zI (scI G (6 * j + 2)))]) (rest := []) rfl caX8_move rfl rfl rfl hl.1.2.1 rfl rfl (k_move G h (scI G (6 * j + 1)) (scI G (6 * j + 2)) hA hl.1 lt.ok (scI_bd G _) (scI_bd G _) lt.z lt.u) rfl rfl (Nat.le_of_ble_eq_true rfl) (by decide) (fun r h1 q1 => ?_)
  obtain ⟨rfl, c1, f1⟩ := q1
  refine v_run 1 (pc' := 1443) (ls' := lL G (ad 0) (ad 200) (ad 209) j) (st' := [.ref (ad 200), .int (zI (tMove σ (scI G (6 * j + 1)) (scI G (6 * j + 2))).1)]) rfl ?_
  refine v_arg 1 (6 * j) (6 * j + 1) (pc' := 1448) rfl rfl (by omega) (by omega) hb ?_
  refine v_arg 2 (6 * j) (6 * j + 2) (pc' := 1454) rfl rfl (by omega) (by omega) hb ?_
  rcases lt with ⟨ζ, c, k, rfl, mt, ra, h19, h20⟩ | ⟨rfl, u, hok, hz⟩
  · have mt1 := mt.ag (fun k hk _ _ => f1.1.kp hA hk)
    refine v_callV0 (My := mX10_move) (As := [.int (zI (scI G (6 * j + 1))), .int (zI (scI G (6 * j + 2)))]) (rest := [.int (zI (tMove σ (scI G (6 * j + 1)) (scI G (6 * j + 2))).1)]) rfl caX10_move rfl rfl rfl mt1.1.1 rfl rfl (q_move G h1 (scI G (6 * j + 1)) (scI G (6 * j + 2)) c hA mt1 ra.1.2.1 ra.2.1.2 ra.d99 (scI_bd G _) (scI_bd G _) h19 ra.2.2.1.2.1) rfl rfl (Nat.le_of_ble_eq_true rfl) (by decide) (fun r h2 q2 => ?_)
    obtain ⟨rfl, li⟩ := LI.a1 hA ho hl hm lr (K12.move σ _ _) (n4.move σ _ _) c1 f1 (e_move ra h19 h20 (scI G (6 * j + 1)) (scI G (6 * j + 2))) q2
    refine v_run 0 (pc' := 1458) (ls' := lL G (ad 0) (ad 200) (ad 209) j) (st' := [.int (zI (tMove σ (scI G (6 * j + 1)) (scI G (6 * j + 2))).1), .int (zI (tMove σ (scI G (6 * j + 1)) (scI G (6 * j + 2))).1)]) rfl ?_
    exact v_icmp_eq rfl (fun _ => kk h2 li) (fun z => absurd rfl z)
  · have m1 := hm.f2 hA f1.1
    rw [u_tMove u _ _] at c1 ⊢
    rw [show zI ((-1 : Int), sTr σ 1).1 = zI (-1) from rfl]
    refine v_callV0 (My := mX10_move) (As := [.int (zI (scI G (6 * j + 1))), .int (zI (scI G (6 * j + 2)))]) (rest := [.int (zI (-1))]) rfl caX10_move rfl rfl rfl m1.1 rfl rfl (q_move0 G h1 (zI (scI G (6 * j + 1))) (zI (scI G (6 * j + 2))) m1.1) rfl rfl (Nat.le_of_ble_eq_true rfl) (by decide) (fun r h2 q2 => ?_)
    obtain ⟨rfl, s2⟩ := q2
    refine v_run 0 (pc' := 1458) (ls' := lL G (ad 0) (ad 200) (ad 209) j) (st' := [.int (zI (-1)), .int (zI (-1))]) rfl ?_
    exact v_icmp_eq rfl (fun _ => kk h2 (LI.q0 (t := 1) hA ho hl hm lr u hok hz rfl ⟨by decide, by decide⟩ c1 f1 s2)) (fun z => absurd rfl z)

set_option maxRecDepth 100000 in
set_option maxHeartbeats 1000000 in
theorem cs_43 {G : ssG} {mc ms : Nat} {Q : Option Value → ssH → Prop} (hb : gV G 24 ≤ 3072) {ax am ao j : Nat} {h : ssH} (hj : 6 * j + 6 ≤ gV G 24) (li : LI ax am ao h) (kk : ∀ h', LI ax am ao h' → ssV G mL_law 13 mc ms Q 1658 (lL G ax am ao j) [] h') : ssV G mL_law 13 (mc) (ms) Q 1463 (lL G ax am ao j) [] h := by
  obtain ⟨ad, pl, σ, E, τ, i, N, sv, rv, m, ρ, hA, ⟨rfl, rfl, rfl⟩, ho, hl, hm, lr, lt⟩ := li
  refine v_run 1 (pc' := 1464) (ls' := lL G (ad 0) (ad 200) (ad 209) j) (st' := [.ref (ad 0)]) rfl ?_
  refine v_arg 1 (6 * j) (6 * j + 1) (pc' := 1469) rfl rfl (by omega) (by omega) hb ?_
  refine v_callV0 (My := mX8_salt) (As := [.int (zI (scI G (6 * j + 1)))]) (rest := []) rfl caX8_salt rfl rfl rfl hl.1.2.1 rfl rfl (k_salt G h (scI G (6 * j + 1)) hA hl.1 lt.ok (scI_bd G _) lt.z lt.u) rfl rfl (Nat.le_of_ble_eq_true rfl) (by decide) (fun r h1 q1 => ?_)
  obtain ⟨rfl, c1, f1⟩ := q1
  refine v_run 1 (pc' := 1474) (ls' := lL G (ad 0) (ad 200) (ad 209) j) (st' := [.ref (ad 200), .int (zb (tSalt σ (scI G (6 * j + 1))).1)]) rfl ?_
  refine v_arg 1 (6 * j) (6 * j + 1) (pc' := 1479) rfl rfl (by omega) (by omega) hb ?_
  rcases lt with ⟨ζ, c, k, rfl, mt, ra, h19, h20⟩ | ⟨rfl, u, hok, hz⟩
  · have mt1 := mt.ag (fun k hk _ _ => f1.1.kp hA hk)
    refine v_callV0 (My := mX10_salt) (As := [.int (zI (scI G (6 * j + 1)))]) (rest := [.int (zb (tSalt σ (scI G (6 * j + 1))).1)]) rfl caX10_salt rfl rfl rfl mt1.1.1 rfl rfl (q_salt G h1 (scI G (6 * j + 1)) c hA mt1 ra.1.2.1 ra.2.1.2 ra.d99 (scI_bd G _) h19 ra.2.2.1.2.1) rfl rfl (Nat.le_of_ble_eq_true rfl) (by decide) (fun r h2 q2 => ?_)
    obtain ⟨rfl, li⟩ := LI.a1 hA ho hl hm lr (K12.salt σ _) (n4.salt σ _) c1 f1 (e_salt ra h19 h20 (scI G (6 * j + 1))) q2
    refine v_run 0 (pc' := 1483) (ls' := lL G (ad 0) (ad 200) (ad 209) j) (st' := [.int (zb (tSalt σ (scI G (6 * j + 1))).1), .int (zb (tSalt σ (scI G (6 * j + 1))).1)]) rfl ?_
    exact v_icmp_eq rfl (fun _ => kk h2 li) (fun z => absurd rfl z)
  · have m1 := hm.f2 hA f1.1
    rw [u_tSalt u _] at c1 ⊢
    rw [show zb (false, sTr σ 1).1 = zI (0) from rfl]
    refine v_callV0 (My := mX10_salt) (As := [.int (zI (scI G (6 * j + 1)))]) (rest := [.int (zI (0))]) rfl caX10_salt rfl rfl rfl m1.1 rfl rfl (q_salt0 G h1 (zI (scI G (6 * j + 1))) m1.1) rfl rfl (Nat.le_of_ble_eq_true rfl) (by decide) (fun r h2 q2 => ?_)
    obtain ⟨rfl, s2⟩ := q2
    refine v_run 0 (pc' := 1483) (ls' := lL G (ad 0) (ad 200) (ad 209) j) (st' := [.int (zI (0)), .int (zI (0))]) rfl ?_
    exact v_icmp_eq rfl (fun _ => kk h2 (LI.q0 (t := 1) hA ho hl hm lr u hok hz rfl ⟨by decide, by decide⟩ c1 f1 s2)) (fun z => absurd rfl z)

set_option maxRecDepth 100000 in
set_option maxHeartbeats 1000000 in
theorem cs_44 {G : ssG} {mc ms : Nat} {Q : Option Value → ssH → Prop} (hb : gV G 24 ≤ 3072) {ax am ao j : Nat} {h : ssH} (hj : 6 * j + 6 ≤ gV G 24) (li : LI ax am ao h) (kk : ∀ h', LI ax am ao h' → ssV G mL_law 13 mc ms Q 1658 (lL G ax am ao j) [] h') : ssV G mL_law 13 (mc) (ms) Q 1488 (lL G ax am ao j) [] h := by
  obtain ⟨ad, pl, σ, E, τ, i, N, sv, rv, m, ρ, hA, ⟨rfl, rfl, rfl⟩, ho, hl, hm, lr, lt⟩ := li
  refine v_run 1 (pc' := 1489) (ls' := lL G (ad 0) (ad 200) (ad 209) j) (st' := [.ref (ad 0)]) rfl ?_
  refine v_arg 1 (6 * j) (6 * j + 1) (pc' := 1494) rfl rfl (by omega) (by omega) hb ?_
  refine v_callV0 (My := mX8_seed) (As := [.int (zI (scI G (6 * j + 1)))]) (rest := []) rfl caX8_seed rfl rfl rfl hl.1.2.1 rfl rfl (k_seed G h (scI G (6 * j + 1)) hA hl.1 lt.ok (scI_bd G _)) rfl rfl (Nat.le_of_ble_eq_true rfl) (by decide) (fun r h1 q1 => ?_)
  obtain ⟨rfl, c1, f1⟩ := q1
  refine v_run 1 (pc' := 1499) (ls' := lL G (ad 0) (ad 200) (ad 209) j) (st' := [.ref (ad 200), .int (zb (tSeed σ (scI G (6 * j + 1))).1)]) rfl ?_
  refine v_arg 1 (6 * j) (6 * j + 1) (pc' := 1504) rfl rfl (by omega) (by omega) hb ?_
  rcases lt with ⟨ζ, c, k, rfl, mt, ra, h19, h20⟩ | ⟨rfl, u, hok, hz⟩
  · have mt1 := mt.ag (fun k hk _ _ => f1.1.kp hA hk)
    refine v_callV0 (My := mX10_seed) (As := [.int (zI (scI G (6 * j + 1)))]) (rest := [.int (zb (tSeed σ (scI G (6 * j + 1))).1)]) rfl caX10_seed rfl rfl rfl mt1.1.1 rfl rfl (q_seed G h1 (scI G (6 * j + 1)) hA mt1 ra.1.2.1 ra.2.1.2 ra.d99 (scI_bd G _)) rfl rfl (Nat.le_of_ble_eq_true rfl) (by decide) (fun r h2 q2 => ?_)
    obtain ⟨rfl, li⟩ := LI.a1 hA ho hl hm lr (K12.seed σ _) (n4.seed σ _) c1 f1 (e_seed ra h19 h20 (scI G (6 * j + 1))) q2
    refine v_run 0 (pc' := 1508) (ls' := lL G (ad 0) (ad 200) (ad 209) j) (st' := [.int (zb (tSeed σ (scI G (6 * j + 1))).1), .int (zb (tSeed σ (scI G (6 * j + 1))).1)]) rfl ?_
    exact v_icmp_eq rfl (fun _ => kk h2 li) (fun z => absurd rfl z)
  · have m1 := hm.f2 hA f1.1
    rw [u_tSeed u _] at c1 ⊢
    rw [show zb (false, sTr σ 1).1 = zI (0) from rfl]
    refine v_callV0 (My := mX10_seed) (As := [.int (zI (scI G (6 * j + 1)))]) (rest := [.int (zI (0))]) rfl caX10_seed rfl rfl rfl m1.1 rfl rfl (q_seed0 G h1 (zI (scI G (6 * j + 1))) m1.1) rfl rfl (Nat.le_of_ble_eq_true rfl) (by decide) (fun r h2 q2 => ?_)
    obtain ⟨rfl, s2⟩ := q2
    refine v_run 0 (pc' := 1508) (ls' := lL G (ad 0) (ad 200) (ad 209) j) (st' := [.int (zI (0)), .int (zI (0))]) rfl ?_
    exact v_icmp_eq rfl (fun _ => kk h2 (LI.q0 (t := 1) hA ho hl hm lr u hok hz rfl ⟨by decide, by decide⟩ c1 f1 s2)) (fun z => absurd rfl z)

set_option maxRecDepth 100000 in
set_option maxHeartbeats 1000000 in
theorem cs_45 {G : ssG} {mc ms : Nat} {Q : Option Value → ssH → Prop} (hb : gV G 24 ≤ 3072) {ax am ao j : Nat} {h : ssH} (hj : 6 * j + 6 ≤ gV G 24) (li : LI ax am ao h) (kk : ∀ h', LI ax am ao h' → ssV G mL_law 13 mc ms Q 1658 (lL G ax am ao j) [] h') : ssV G mL_law 13 (mc) (ms) Q 1513 (lL G ax am ao j) [] h := by
  obtain ⟨ad, pl, σ, E, τ, i, N, sv, rv, m, ρ, hA, ⟨rfl, rfl, rfl⟩, ho, hl, hm, lr, lt⟩ := li
  refine v_run 1 (pc' := 1514) (ls' := lL G (ad 0) (ad 200) (ad 209) j) (st' := [.ref (ad 0)]) rfl ?_
  refine v_callV0 (My := mX8_undo) (As := []) (rest := []) rfl caX8_undo rfl rfl rfl hl.1.2.1 rfl rfl (k_undo G h hA hl.1 lt.ok lt.z lt.u) rfl rfl (Nat.le_of_ble_eq_true rfl) (by decide) (fun r h1 q1 => ?_)
  obtain ⟨rfl, c1, f1⟩ := q1
  refine v_run 1 (pc' := 1518) (ls' := lL G (ad 0) (ad 200) (ad 209) j) (st' := [.ref (ad 200), .int (zb (tUndo σ).1)]) rfl ?_
  rcases lt with ⟨ζ, c, k, rfl, mt, ra, h19, h20⟩ | ⟨rfl, u, hok, hz⟩
  · have mt1 := mt.ag (fun k hk _ _ => f1.1.kp hA hk)
    refine v_callV0 (My := mX10_undo) (As := []) (rest := [.int (zb (tUndo σ).1)]) rfl caX10_undo rfl rfl rfl mt1.1.1 rfl rfl (q_undo G h1 c hA mt1 ra.1.2.1 ra.2.1.2 ra.d99 h19 ra.2.2.1.2.1) rfl rfl (Nat.le_of_ble_eq_true rfl) (by decide) (fun r h2 q2 => ?_)
    obtain ⟨rfl, li⟩ := LI.a1 hA ho hl hm lr (K12.undo σ) (n4.undo σ) c1 f1 (e_undo ra h19 h20) q2
    refine v_run 0 (pc' := 1521) (ls' := lL G (ad 0) (ad 200) (ad 209) j) (st' := [.int (zb (tUndo σ).1), .int (zb (tUndo σ).1)]) rfl ?_
    exact v_icmp_eq rfl (fun _ => kk h2 li) (fun z => absurd rfl z)
  · have m1 := hm.f2 hA f1.1
    rw [u_tUndo u] at c1 ⊢
    rw [show zb (false, sTr σ 6).1 = zI (0) from rfl]
    refine v_callV0 (My := mX10_undo) (As := []) (rest := [.int (zI (0))]) rfl caX10_undo rfl rfl rfl m1.1 rfl rfl (q_undo0 G h1 m1.1) rfl rfl (Nat.le_of_ble_eq_true rfl) (by decide) (fun r h2 q2 => ?_)
    obtain ⟨rfl, s2⟩ := q2
    refine v_run 0 (pc' := 1521) (ls' := lL G (ad 0) (ad 200) (ad 209) j) (st' := [.int (zI (0)), .int (zI (0))]) rfl ?_
    exact v_icmp_eq rfl (fun _ => kk h2 (LI.q0 (t := 6) hA ho hl hm lr u hok hz rfl ⟨by decide, by decide⟩ c1 f1 s2)) (fun z => absurd rfl z)

set_option maxRecDepth 100000 in
set_option maxHeartbeats 1000000 in
theorem cs_46 {G : ssG} {mc ms : Nat} {Q : Option Value → ssH → Prop} (hb : gV G 24 ≤ 3072) {ax am ao j : Nat} {h : ssH} (hj : 6 * j + 6 ≤ gV G 24) (li : LI ax am ao h) (kk : ∀ h', LI ax am ao h' → ssV G mL_law 13 mc ms Q 1658 (lL G ax am ao j) [] h') : ssV G mL_law 13 (mc) (ms) Q 1526 (lL G ax am ao j) [] h := by
  obtain ⟨ad, pl, σ, E, τ, i, N, sv, rv, m, ρ, hA, ⟨rfl, rfl, rfl⟩, ho, hl, hm, lr, lt⟩ := li
  refine v_run 1 (pc' := 1527) (ls' := lL G (ad 0) (ad 200) (ad 209) j) (st' := [.ref (ad 0)]) rfl ?_
  refine v_callV0 (My := mX8_image) (As := []) (rest := []) rfl caX8_image rfl rfl rfl hl.1.2.1 rfl rfl (k_image G h hA hl.1 lt.ok lt.z lt.u lt.i3) rfl rfl (Nat.le_of_ble_eq_true rfl) (by decide) (fun r h1 q1 => ?_)
  obtain ⟨rfl, c1, f1⟩ := q1
  refine v_run 1 (pc' := 1531) (ls' := lL G (ad 0) (ad 200) (ad 209) j) (st' := [.ref (ad 200), .int (zI (tImage σ).1)]) rfl ?_
  rcases lt with ⟨ζ, c, k, rfl, mt, ra, h19, h20⟩ | ⟨rfl, u, hok, hz⟩
  · have mt1 := mt.ag (fun k hk _ _ => f1.1.kp hA hk)
    refine v_callV0 (My := mX10_image) (As := []) (rest := [.int (zI (tImage σ).1)]) rfl caX10_image rfl rfl rfl mt1.1.1 rfl rfl (q_image G h1 k hA mt1 ra.1.2.1 ra.2.1.2 ra.d99 h20 ra.2.2.2.2.1) rfl rfl (Nat.le_of_ble_eq_true rfl) (by decide) (fun r h2 q2 => ?_)
    obtain ⟨rfl, li⟩ := LI.a1 hA ho hl hm lr (K12.image σ) (n4.image σ) c1 f1 (e_image ra h19 h20) q2
    refine v_run 0 (pc' := 1534) (ls' := lL G (ad 0) (ad 200) (ad 209) j) (st' := [.int (zI (tImage σ).1), .int (zI (tImage σ).1)]) rfl ?_
    exact v_icmp_eq rfl (fun _ => kk h2 li) (fun z => absurd rfl z)
  · have m1 := hm.f2 hA f1.1
    rw [u_tImage u] at c1 ⊢
    rw [show zI ((-1 : Int), sTr σ 1).1 = zI (-1) from rfl]
    refine v_callV0 (My := mX10_image) (As := []) (rest := [.int (zI (-1))]) rfl caX10_image rfl rfl rfl m1.1 rfl rfl (q_image0 G h1 m1.1) rfl rfl (Nat.le_of_ble_eq_true rfl) (by decide) (fun r h2 q2 => ?_)
    obtain ⟨rfl, s2⟩ := q2
    refine v_run 0 (pc' := 1534) (ls' := lL G (ad 0) (ad 200) (ad 209) j) (st' := [.int (zI (-1)), .int (zI (-1))]) rfl ?_
    exact v_icmp_eq rfl (fun _ => kk h2 (LI.q0 (t := 1) hA ho hl hm lr u hok hz rfl ⟨by decide, by decide⟩ c1 f1 s2)) (fun z => absurd rfl z)

set_option maxRecDepth 100000 in
set_option maxHeartbeats 1000000 in
theorem cs_47 {G : ssG} {mc ms : Nat} {Q : Option Value → ssH → Prop} (hb : gV G 24 ≤ 3072) {ax am ao j : Nat} {h : ssH} (hj : 6 * j + 6 ≤ gV G 24) (li : LI ax am ao h) (kk : ∀ h', LI ax am ao h' → ssV G mL_law 13 mc ms Q 1658 (lL G ax am ao j) [] h') : ssV G mL_law 13 (mc) (ms) Q 1539 (lL G ax am ao j) [] h := by
  obtain ⟨ad, pl, σ, E, τ, i, N, sv, rv, m, ρ, hA, ⟨rfl, rfl, rfl⟩, ho, hl, hm, lr, lt⟩ := li
  refine v_run 1 (pc' := 1540) (ls' := lL G (ad 0) (ad 200) (ad 209) j) (st' := [.ref (ad 0)]) rfl ?_
  refine v_arg 1 (6 * j) (6 * j + 1) (pc' := 1545) rfl rfl (by omega) (by omega) hb ?_
  refine v_callV0 (My := mX8_back) (As := [.int (zI (scI G (6 * j + 1)))]) (rest := []) rfl caX8_back rfl rfl rfl hl.1.2.1 rfl rfl (k_back G h (scI G (6 * j + 1)) hA hl.1 lt.ok (scI_bd G _) lt.z lt.u lt.i3) rfl rfl (Nat.le_of_ble_eq_true rfl) (by decide) (fun r h1 q1 => ?_)
  obtain ⟨rfl, c1, f1⟩ := q1
  refine v_run 1 (pc' := 1550) (ls' := lL G (ad 0) (ad 200) (ad 209) j) (st' := [.ref (ad 200), .int (zb (tBack σ (scI G (6 * j + 1))).1)]) rfl ?_
  refine v_arg 1 (6 * j) (6 * j + 1) (pc' := 1555) rfl rfl (by omega) (by omega) hb ?_
  rcases lt with ⟨ζ, c, k, rfl, mt, ra, h19, h20⟩ | ⟨rfl, u, hok, hz⟩
  · have mt1 := mt.ag (fun k hk _ _ => f1.1.kp hA hk)
    refine v_callV0 (My := mX10_back) (As := [.int (zI (scI G (6 * j + 1)))]) (rest := [.int (zb (tBack σ (scI G (6 * j + 1))).1)]) rfl caX10_back rfl rfl rfl mt1.1.1 rfl rfl (q_back G h1 (scI G (6 * j + 1)) k hA mt1 ra.1.2.1 ra.2.1.2 ra.d99 (scI_bd G _) h20 ra.2.2.2.2.1) rfl rfl (Nat.le_of_ble_eq_true rfl) (by decide) (fun r h2 q2 => ?_)
    obtain ⟨rfl, li⟩ := LI.a1 hA ho hl hm lr (K12.back σ _) (n4.back σ _) c1 f1 (e_back ra h19 h20 (scI G (6 * j + 1))) q2
    refine v_run 0 (pc' := 1559) (ls' := lL G (ad 0) (ad 200) (ad 209) j) (st' := [.int (zb (tBack σ (scI G (6 * j + 1))).1), .int (zb (tBack σ (scI G (6 * j + 1))).1)]) rfl ?_
    exact v_icmp_eq rfl (fun _ => kk h2 li) (fun z => absurd rfl z)
  · have m1 := hm.f2 hA f1.1
    rw [u_tBack u _] at c1 ⊢
    rw [show zb (false, sTr σ 1).1 = zI (0) from rfl]
    refine v_callV0 (My := mX10_back) (As := [.int (zI (scI G (6 * j + 1)))]) (rest := [.int (zI (0))]) rfl caX10_back rfl rfl rfl m1.1 rfl rfl (q_back0 G h1 (zI (scI G (6 * j + 1))) m1.1) rfl rfl (Nat.le_of_ble_eq_true rfl) (by decide) (fun r h2 q2 => ?_)
    obtain ⟨rfl, s2⟩ := q2
    refine v_run 0 (pc' := 1559) (ls' := lL G (ad 0) (ad 200) (ad 209) j) (st' := [.int (zI (0)), .int (zI (0))]) rfl ?_
    exact v_icmp_eq rfl (fun _ => kk h2 (LI.q0 (t := 1) hA ho hl hm lr u hok hz rfl ⟨by decide, by decide⟩ c1 f1 s2)) (fun z => absurd rfl z)

