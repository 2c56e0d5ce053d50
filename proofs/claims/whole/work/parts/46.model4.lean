def mU (m : Nat → Int) (k : Nat) (v : Int) : Nat → Int := fun j => if j = k then v else m j
def mT (m : Nat → Int) (t : Int) : Nat → Int := fun j => if j = 1 then t else if j = 2 then -1 else m j
def mWhy (b : Bool) (s t : Int) : Nat := if b = false then 1 else if 0 ≤ s ∧ s ≤ t then 0 else 2
set_option maxRecDepth 100000 in
set_option maxHeartbeats 400000 in
theorem q_refused (G : ssG) (h : ssH) {ad : Nat → Nat} {sv rv : Value} {m : Nat → Int} (t : Int) (ho : h (ad 200) = some (.inr (10, obM ad sv rv m))) : ssC G mX10_refused 0 0 0 [.ref (ad 200), .int (zI t)] h (fun r h' => r = some (.int (zI (-1))) ∧ hset h (ad 200) (.inr (10, obM ad sv rv (mT m t))) = h') := by
  refine c_of_v okX10_refused (by decide +kernel) (ls := [some (.ref (ad 200)), some (.int (zI t))]) rfl (Nat.le_of_ble_eq_true rfl) ?_
  refine v_run 2 (pc' := 2) (ls' := [some (.ref (ad 200)), some (.int (zI t))]) (st' := [.int (zI t), .ref (ad 200)]) rfl ?_
  refine v_put rfl ho rfl rfl (Nat.le_of_ble_eq_true rfl) ?_
  refine v_run 2 (pc' := 7) (ls' := [some (.ref (ad 200)), some (.int (zI t))]) (st' := [.int (zI (-1)), .ref (ad 200)]) rfl ?_
  refine v_put rfl (hset_self _ _ _) rfl rfl (Nat.le_of_ble_eq_true rfl) ?_
  rw [hset_hset, show ((obM ad sv rv m).set 1 (.int (zI t))).set 2 (.int (zI (-1))) = obM ad sv rv (mT m t) from rfl]
  refine v_run 1 (pc' := 11) (ls' := [some (.ref (ad 200)), some (.int (zI t))]) (st' := [.int (zI (-1))]) rfl ?_
  exact v_iret rfl rfl rfl ⟨rfl, rfl⟩

set_option maxRecDepth 100000 in
set_option maxHeartbeats 400000 in
theorem q_well (G : ssG) (h : ssH) {ad : Nat → Nat} {sv rv : Value} {m : Nat → Int} (x : Int32) (ho : h (ad 200) = some (.inr (10, obM ad sv rv m))) : ssC G mX10_well 0 0 0 [.ref (ad 200), .int x] h (fun r h' => r = some (.int x) ∧ hset h (ad 200) (.inr (10, obM ad sv rv (mT m 0))) = h') := by
  refine c_of_v okX10_well (by decide +kernel) (ls := [some (.ref (ad 200)), some (.int x)]) rfl (Nat.le_of_ble_eq_true rfl) ?_
  refine v_run 2 (pc' := 2) (ls' := [some (.ref (ad 200)), some (.int x)]) (st' := [.int (zI 0), .ref (ad 200)]) rfl ?_
  refine v_put rfl ho rfl rfl (Nat.le_of_ble_eq_true rfl) ?_
  refine v_run 2 (pc' := 7) (ls' := [some (.ref (ad 200)), some (.int x)]) (st' := [.int (zI (-1)), .ref (ad 200)]) rfl ?_
  refine v_put rfl (hset_self _ _ _) rfl rfl (Nat.le_of_ble_eq_true rfl) ?_
  rw [hset_hset, show ((obM ad sv rv m).set 1 (.int (zI 0))).set 2 (.int (zI (-1))) = obM ad sv rv (mT m 0) from rfl]
  refine v_run 1 (pc' := 11) (ls' := [some (.ref (ad 200)), some (.int x)]) (st' := [.int x]) rfl ?_
  exact v_iret rfl rfl rfl ⟨rfl, rfl⟩

set_option maxRecDepth 100000 in
set_option maxHeartbeats 400000 in
theorem q_lost (G : ssG) (h : ssH) {ad : Nat → Nat} {sv rv : Value} {m : Nat → Int} (t : Int) (ho : h (ad 200) = some (.inr (10, obM ad sv rv m))) : ssC G mX10_lost 1 0 0 [.ref (ad 200), .int (zI t)] h (fun r h' => r = some (.int (zI (-100))) ∧ hset h (ad 200) (.inr (10, obM ad sv rv (mT m t))) = h') := by
  refine c_of_v okX10_lost (by decide +kernel) (ls := [some (.ref (ad 200)), some (.int (zI t))]) rfl (Nat.le_of_ble_eq_true rfl) ?_
  refine v_run 2 (pc' := 2) (ls' := [some (.ref (ad 200)), some (.int (zI t))]) (st' := [.int (zI t), .ref (ad 200)]) rfl ?_
  refine v_callV (My := mX10_refused) (As := [.int (zI t)]) (rest := []) (mc := 0) (ms := 0) rfl caX10_refused rfl rfl rfl ho rfl rfl (q_refused G _ t ho) rfl rfl (Nat.le_of_ble_eq_true rfl) (by omega) ?_
  rintro _ _ ⟨rfl, rfl⟩
  refine v_run 0 (pc' := 5) (ls' := [some (.ref (ad 200)), some (.int (zI t))]) (st' := [.int (zI (-1))]) rfl ?_
  refine v_run 2 (pc' := 8) (ls' := [some (.ref (ad 200)), some (.int (zI t))]) (st' := [.int (zI (-100))]) rfl ?_
  exact v_iret rfl rfl rfl ⟨rfl, rfl⟩

set_option maxRecDepth 100000 in
set_option maxHeartbeats 400000 in
theorem q_denied (G : ssG) (h : ssH) {ad : Nat → Nat} {sv rv : Value} {m : Nat → Int} (t : Int) (ho : h (ad 200) = some (.inr (10, obM ad sv rv m))) : ssC G mX10_denied 1 0 0 [.ref (ad 200), .int (zI t)] h (fun r h' => r = some (.int (zI 0)) ∧ hset h (ad 200) (.inr (10, obM ad sv rv (mT m t))) = h') := by
  refine c_of_v okX10_denied (by decide +kernel) (ls := [some (.ref (ad 200)), some (.int (zI t))]) rfl (Nat.le_of_ble_eq_true rfl) ?_
  refine v_run 2 (pc' := 2) (ls' := [some (.ref (ad 200)), some (.int (zI t))]) (st' := [.int (zI t), .ref (ad 200)]) rfl ?_
  refine v_callV (My := mX10_refused) (As := [.int (zI t)]) (rest := []) (mc := 0) (ms := 0) rfl caX10_refused rfl rfl rfl ho rfl rfl (q_refused G _ t ho) rfl rfl (Nat.le_of_ble_eq_true rfl) (by omega) ?_
  rintro _ _ ⟨rfl, rfl⟩
  refine v_run 0 (pc' := 5) (ls' := [some (.ref (ad 200)), some (.int (zI t))]) (st' := [.int (zI (-1))]) rfl ?_
  refine v_run 2 (pc' := 7) (ls' := [some (.ref (ad 200)), some (.int (zI t))]) (st' := [.int (zI 0)]) rfl ?_
  exact v_iret rfl rfl rfl ⟨rfl, rfl⟩

set_option maxRecDepth 100000 in
set_option maxHeartbeats 400000 in
theorem q_granted (G : ssG) (h : ssH) {ad : Nat → Nat} {sv rv : Value} {m : Nat → Int}  (ho : h (ad 200) = some (.inr (10, obM ad sv rv m))) : ssC G mX10_granted 1 0 0 [.ref (ad 200)] h (fun r h' => r = some (.int (zI 1)) ∧ hset h (ad 200) (.inr (10, obM ad sv rv (mT m 0))) = h') := by
  refine c_of_v okX10_granted (by decide +kernel) (ls := [some (.ref (ad 200))]) rfl (Nat.le_of_ble_eq_true rfl) ?_
  refine v_run 2 (pc' := 2) (ls' := [some (.ref (ad 200))]) (st' := [.int (zI 0), .ref (ad 200)]) rfl ?_
  refine v_callV (My := mX10_well) (As := [.int (zI 0)]) (rest := []) (mc := 0) (ms := 0) rfl caX10_well rfl rfl rfl ho rfl rfl (q_well G _ (zI 0) ho) rfl rfl (Nat.le_of_ble_eq_true rfl) (by omega) ?_
  rintro _ _ ⟨rfl, rfl⟩
  refine v_run 0 (pc' := 5) (ls' := [some (.ref (ad 200))]) (st' := [.int (zI 0)]) rfl ?_
  refine v_run 2 (pc' := 7) (ls' := [some (.ref (ad 200))]) (st' := [.int (zI 1)]) rfl ?_
  exact v_iret rfl rfl rfl ⟨rfl, rfl⟩

set_option maxRecDepth 100000 in
set_option maxHeartbeats 400000 in
theorem q_isSenator (G : ssG) (h : ssH) {ad : Nat → Nat} {rv : Value} {m : Nat → Int} {ζ : Nat → Nat → Nat} {X : Nat → Nat} (s : Int) (hA : ∀ k l, ad k = ad l → k = l) (hm : MX h ad rv m ζ X) (hz : SaOk ζ) (hx : XOk X) (hs : -2147483648 ≤ s ∧ s < 2147483648) : ssC G mX10_isSenator 0 0 0 [.ref (ad 200), .int (zI s)] h (rI (zb (decide (0 ≤ s ∧ s < ↑(ζ 5 0)))) h) := by
  refine c_of_v okX10_isSenator (by decide +kernel) (ls := [some (.ref (ad 200)), some (.int (zI s))]) rfl (Nat.le_of_ble_eq_true rfl) ?_
  obtain ⟨z0, z1, z2, z3, z4, z5, z6, z9, z12, z13, z14, z15, z16, z17, z18, z19, z20⟩ := id hz
  obtain ⟨x0, x6, x12, x18, x24, x25, x26⟩ := id hx
  refine v_run 1 (pc' := 1) (ls' := [some (.ref (ad 200)), some (.int (zI s))]) (st' := [.ref (ad 200)]) rfl ?_
  refine v_get rfl hm.1 rfl ?_
  refine v_run 2 (pc' := 8) (ls' := [some (.ref (ad 200)), some (.int (zI s))]) (st' := [.int (zI s)]) rfl ?_
  refine v_if_lt rfl (fun c8 => ?_) (fun c8 => ?_)
  · simp (disch := omega) only [zI_lt, zI_le, zI_eq, zI_lt0, zI_le0, zI_0lt, zI_0le, zI_eq0] at c8
    refine v_run 1 (pc' := 27) (ls' := [some (.ref (ad 200)), some (.int (zI s))]) (st' := [.int (zI 0)]) rfl ?_
    exact v_iret rfl rfl rfl ⟨by rw [zb, if_neg (by simp; omega)], rfl⟩
  · simp (disch := omega) only [zI_lt, zI_le, zI_eq, zI_lt0, zI_le0, zI_0lt, zI_0le, zI_eq0] at c8
    refine v_run 2 (pc' := 13) (ls' := [some (.ref (ad 200)), some (.int (zI s))]) (st' := [.ref (ad 200), .int (zI s)]) rfl ?_
    refine v_get rfl hm.1 rfl ?_
    refine v_run 0 (pc' := 16) (ls' := [some (.ref (ad 200)), some (.int (zI s))]) (st' := [.ref (ad 210), .int (zI s)]) rfl ?_
    refine v_get rfl hm.2.1.1 rfl ?_
    refine v_run 0 (pc' := 19) (ls' := [some (.ref (ad 200)), some (.int (zI s))]) (st' := [.int (zI ↑(ζ 5 0)), .int (zI s)]) rfl ?_
    refine v_icmp_ge rfl (fun c19 => ?_) (fun c19 => ?_)
    · simp (disch := omega) only [zI_lt, zI_le, zI_eq, zI_lt0, zI_le0, zI_0lt, zI_0le, zI_eq0] at c19
      refine v_run 1 (pc' := 27) (ls' := [some (.ref (ad 200)), some (.int (zI s))]) (st' := [.int (zI 0)]) rfl ?_
      exact v_iret rfl rfl rfl ⟨by rw [zb, if_neg (by simp; omega)], rfl⟩
    · simp (disch := omega) only [zI_lt, zI_le, zI_eq, zI_lt0, zI_le0, zI_0lt, zI_0le, zI_eq0] at c19
      refine v_run 2 (pc' := 27) (ls' := [some (.ref (ad 200)), some (.int (zI s))]) (st' := [.int (zI 1)]) rfl ?_
      exact v_iret rfl rfl rfl ⟨by rw [zb, if_pos (by simp; omega)], rfl⟩
set_option maxRecDepth 100000 in
set_option maxHeartbeats 400000 in
theorem q_isSenator0 (G : ssG) (h : ssH) {ad : Nat → Nat} {rv : Value} {m : Nat → Int} (x : Int32) (ho : h (ad 200) = some (.inr (10, obM ad .null rv m))) : ssC G mX10_isSenator 0 0 0 [.ref (ad 200), .int x] h (rI (zb false) h) := by
  refine c_of_v okX10_isSenator (by decide +kernel) (ls := [some (.ref (ad 200)), some (.int x)]) rfl (Nat.le_of_ble_eq_true rfl) ?_
  refine v_run 1 (pc' := 1) (ls' := [some (.ref (ad 200)), some (.int x)]) (st' := [.ref (ad 200)]) rfl ?_
  refine v_get rfl ho rfl ?_
  refine v_run 2 (pc' := 27) (ls' := [some (.ref (ad 200)), some (.int x)]) (st' := [.int (zI 0)]) rfl ?_
  exact v_iret rfl rfl rfl ⟨rfl, rfl⟩

set_option maxRecDepth 100000 in
set_option maxHeartbeats 400000 in
theorem q_isHook (G : ssG) (h : ssH) {ad : Nat → Nat} {rv : Value} {m : Nat → Int} {ζ : Nat → Nat → Nat} {X : Nat → Nat} (s : Int) (hA : ∀ k l, ad k = ad l → k = l) (hm : MX h ad rv m ζ X) (hz : SaOk ζ) (hx : XOk X) (hs : -2147483648 ≤ s ∧ s < 2147483648) : ssC G mX10_isHook 0 0 0 [.ref (ad 200), .int (zI s)] h (rI (zb (decide (0 ≤ s ∧ s < ↑(ζ 4 0)))) h) := by
  refine c_of_v okX10_isHook (by decide +kernel) (ls := [some (.ref (ad 200)), some (.int (zI s))]) rfl (Nat.le_of_ble_eq_true rfl) ?_
  obtain ⟨z0, z1, z2, z3, z4, z5, z6, z9, z12, z13, z14, z15, z16, z17, z18, z19, z20⟩ := id hz
  obtain ⟨x0, x6, x12, x18, x24, x25, x26⟩ := id hx
  refine v_run 1 (pc' := 1) (ls' := [some (.ref (ad 200)), some (.int (zI s))]) (st' := [.ref (ad 200)]) rfl ?_
  refine v_get rfl hm.1 rfl ?_
  refine v_run 2 (pc' := 8) (ls' := [some (.ref (ad 200)), some (.int (zI s))]) (st' := [.int (zI s)]) rfl ?_
  refine v_if_lt rfl (fun c8 => ?_) (fun c8 => ?_)
  · simp (disch := omega) only [zI_lt, zI_le, zI_eq, zI_lt0, zI_le0, zI_0lt, zI_0le, zI_eq0] at c8
    refine v_run 1 (pc' := 27) (ls' := [some (.ref (ad 200)), some (.int (zI s))]) (st' := [.int (zI 0)]) rfl ?_
    exact v_iret rfl rfl rfl ⟨by rw [zb, if_neg (by simp; omega)], rfl⟩
  · simp (disch := omega) only [zI_lt, zI_le, zI_eq, zI_lt0, zI_le0, zI_0lt, zI_0le, zI_eq0] at c8
    refine v_run 2 (pc' := 13) (ls' := [some (.ref (ad 200)), some (.int (zI s))]) (st' := [.ref (ad 200), .int (zI s)]) rfl ?_
    refine v_get rfl hm.1 rfl ?_
    refine v_run 0 (pc' := 16) (ls' := [some (.ref (ad 200)), some (.int (zI s))]) (st' := [.ref (ad 210), .int (zI s)]) rfl ?_
    refine v_get rfl hm.2.1.1 rfl ?_
    refine v_run 0 (pc' := 19) (ls' := [some (.ref (ad 200)), some (.int (zI s))]) (st' := [.int (zI ↑(ζ 4 0)), .int (zI s)]) rfl ?_
    refine v_icmp_ge rfl (fun c19 => ?_) (fun c19 => ?_)
    · simp (disch := omega) only [zI_lt, zI_le, zI_eq, zI_lt0, zI_le0, zI_0lt, zI_0le, zI_eq0] at c19
      refine v_run 1 (pc' := 27) (ls' := [some (.ref (ad 200)), some (.int (zI s))]) (st' := [.int (zI 0)]) rfl ?_
      exact v_iret rfl rfl rfl ⟨by rw [zb, if_neg (by simp; omega)], rfl⟩
    · simp (disch := omega) only [zI_lt, zI_le, zI_eq, zI_lt0, zI_le0, zI_0lt, zI_0le, zI_eq0] at c19
      refine v_run 2 (pc' := 27) (ls' := [some (.ref (ad 200)), some (.int (zI s))]) (st' := [.int (zI 1)]) rfl ?_
      exact v_iret rfl rfl rfl ⟨by rw [zb, if_pos (by simp; omega)], rfl⟩
set_option maxRecDepth 100000 in
set_option maxHeartbeats 400000 in
theorem q_isHook0 (G : ssG) (h : ssH) {ad : Nat → Nat} {rv : Value} {m : Nat → Int} (x : Int32) (ho : h (ad 200) = some (.inr (10, obM ad .null rv m))) : ssC G mX10_isHook 0 0 0 [.ref (ad 200), .int x] h (rI (zb false) h) := by
  refine c_of_v okX10_isHook (by decide +kernel) (ls := [some (.ref (ad 200)), some (.int x)]) rfl (Nat.le_of_ble_eq_true rfl) ?_
  refine v_run 1 (pc' := 1) (ls' := [some (.ref (ad 200)), some (.int x)]) (st' := [.ref (ad 200)]) rfl ?_
  refine v_get rfl ho rfl ?_
  refine v_run 2 (pc' := 27) (ls' := [some (.ref (ad 200)), some (.int x)]) (st' := [.int (zI 0)]) rfl ?_
  exact v_iret rfl rfl rfl ⟨rfl, rfl⟩

set_option maxRecDepth 100000 in
set_option maxHeartbeats 400000 in
theorem q_isAct (G : ssG) (h : ssH) {ad : Nat → Nat} {rv : Value} {m : Nat → Int} {ζ : Nat → Nat → Nat} {X : Nat → Nat} (s : Int) (hA : ∀ k l, ad k = ad l → k = l) (hm : MX h ad rv m ζ X) (hz : SaOk ζ) (hx : XOk X) (hs : -2147483648 ≤ s ∧ s < 2147483648) : ssC G mX10_isAct 0 0 0 [.ref (ad 200), .int (zI s)] h (rI (zb (decide (0 ≤ s ∧ s < ↑(ζ 6 0)))) h) := by
  refine c_of_v okX10_isAct (by decide +kernel) (ls := [some (.ref (ad 200)), some (.int (zI s))]) rfl (Nat.le_of_ble_eq_true rfl) ?_
  obtain ⟨z0, z1, z2, z3, z4, z5, z6, z9, z12, z13, z14, z15, z16, z17, z18, z19, z20⟩ := id hz
  obtain ⟨x0, x6, x12, x18, x24, x25, x26⟩ := id hx
  refine v_run 1 (pc' := 1) (ls' := [some (.ref (ad 200)), some (.int (zI s))]) (st' := [.ref (ad 200)]) rfl ?_
  refine v_get rfl hm.1 rfl ?_
  refine v_run 2 (pc' := 8) (ls' := [some (.ref (ad 200)), some (.int (zI s))]) (st' := [.int (zI s)]) rfl ?_
  refine v_if_lt rfl (fun c8 => ?_) (fun c8 => ?_)
  · simp (disch := omega) only [zI_lt, zI_le, zI_eq, zI_lt0, zI_le0, zI_0lt, zI_0le, zI_eq0] at c8
    refine v_run 1 (pc' := 27) (ls' := [some (.ref (ad 200)), some (.int (zI s))]) (st' := [.int (zI 0)]) rfl ?_
    exact v_iret rfl rfl rfl ⟨by rw [zb, if_neg (by simp; omega)], rfl⟩
  · simp (disch := omega) only [zI_lt, zI_le, zI_eq, zI_lt0, zI_le0, zI_0lt, zI_0le, zI_eq0] at c8
    refine v_run 2 (pc' := 13) (ls' := [some (.ref (ad 200)), some (.int (zI s))]) (st' := [.ref (ad 200), .int (zI s)]) rfl ?_
    refine v_get rfl hm.1 rfl ?_
    refine v_run 0 (pc' := 16) (ls' := [some (.ref (ad 200)), some (.int (zI s))]) (st' := [.ref (ad 210), .int (zI s)]) rfl ?_
    refine v_get rfl hm.2.1.1 rfl ?_
    refine v_run 0 (pc' := 19) (ls' := [some (.ref (ad 200)), some (.int (zI s))]) (st' := [.int (zI ↑(ζ 6 0)), .int (zI s)]) rfl ?_
    refine v_icmp_ge rfl (fun c19 => ?_) (fun c19 => ?_)
    · simp (disch := omega) only [zI_lt, zI_le, zI_eq, zI_lt0, zI_le0, zI_0lt, zI_0le, zI_eq0] at c19
      refine v_run 1 (pc' := 27) (ls' := [some (.ref (ad 200)), some (.int (zI s))]) (st' := [.int (zI 0)]) rfl ?_
      exact v_iret rfl rfl rfl ⟨by rw [zb, if_neg (by simp; omega)], rfl⟩
    · simp (disch := omega) only [zI_lt, zI_le, zI_eq, zI_lt0, zI_le0, zI_0lt, zI_0le, zI_eq0] at c19
      refine v_run 2 (pc' := 27) (ls' := [some (.ref (ad 200)), some (.int (zI s))]) (st' := [.int (zI 1)]) rfl ?_
      exact v_iret rfl rfl rfl ⟨by rw [zb, if_pos (by simp; omega)], rfl⟩
set_option maxRecDepth 100000 in
set_option maxHeartbeats 400000 in
theorem q_isAct0 (G : ssG) (h : ssH) {ad : Nat → Nat} {rv : Value} {m : Nat → Int} (x : Int32) (ho : h (ad 200) = some (.inr (10, obM ad .null rv m))) : ssC G mX10_isAct 0 0 0 [.ref (ad 200), .int x] h (rI (zb false) h) := by
  refine c_of_v okX10_isAct (by decide +kernel) (ls := [some (.ref (ad 200)), some (.int x)]) rfl (Nat.le_of_ble_eq_true rfl) ?_
  refine v_run 1 (pc' := 1) (ls' := [some (.ref (ad 200)), some (.int x)]) (st' := [.ref (ad 200)]) rfl ?_
  refine v_get rfl ho rfl ?_
  refine v_run 2 (pc' := 27) (ls' := [some (.ref (ad 200)), some (.int x)]) (st' := [.int (zI 0)]) rfl ?_
  exact v_iret rfl rfl rfl ⟨rfl, rfl⟩

set_option maxRecDepth 100000 in
set_option maxHeartbeats 400000 in
theorem q_refusesDays (G : ssG) (h : ssH) {ad : Nat → Nat} (b : Bool) (s t : Int) (hs : -2147483648 ≤ s ∧ s < 2147483648) (ht : -2147483648 ≤ t ∧ t < 2147483648) : ssC G mX10_refusesDays 1 0 0 [.ref (ad 200), .int (zb b), .int (zI s), .int (zI t)] h (rI (zI ↑(mWhy b s t)) h) := by
  refine c_of_v okX10_refusesDays (by decide +kernel) (ls := [some (.ref (ad 200)), some (.int (zb b)), some (.int (zI s)), some (.int (zI t))]) rfl (Nat.le_of_ble_eq_true rfl) ?_
  refine v_run 1 (pc' := 1) (ls' := [some (.ref (ad 200)), some (.int (zb b)), some (.int (zI s)), some (.int (zI t))]) (st' := [.int (zb b)]) rfl ?_
  refine v_if_ne rfl (fun c1 => ?_) (fun c1 => ?_)
  · rw [zb_0, Bool.not_eq_false] at c1
    refine v_run 3 (pc' := 11) (ls' := [some (.ref (ad 200)), some (.int (zb b)), some (.int (zI s)), some (.int (zI t))]) (st' := [.int (zI t), .int (zI 0), .int (zI s)]) rfl ?_
    refine v_callS (My := mX10_in) (As := [.int (zI s), .int (zI 0), .int (zI t)]) (rest := []) (mc := 0) (ms := 0) rfl caX10_in rfl rfl (q_in G _ s 0 t hs (by decide) ht) rfl rfl (Nat.le_of_ble_eq_true rfl) (by omega) ?_
    rintro _ _ ⟨rfl, rfl⟩
    refine v_run 0 (pc' := 14) (ls' := [some (.ref (ad 200)), some (.int (zb b)), some (.int (zI s)), some (.int (zI t))]) (st' := [.int (zb (decide (0 ≤ s ∧ s ≤ t)))]) rfl ?_
    refine v_if_eq rfl (fun c14 => ?_) (fun c14 => ?_)
    · rw [zb_0, decide_eq_false_iff_not] at c14
      refine v_run 1 (pc' := 22) (ls' := [some (.ref (ad 200)), some (.int (zb b)), some (.int (zI s)), some (.int (zI t))]) (st' := [.int (zI 2)]) rfl ?_
      exact v_iret rfl rfl rfl ⟨by rw [mWhy, if_neg (by rw [c1]; simp), if_neg c14]; rfl, rfl⟩
    · rw [zb_0, Bool.not_eq_false, decide_eq_true_eq] at c14
      refine v_run 2 (pc' := 22) (ls' := [some (.ref (ad 200)), some (.int (zb b)), some (.int (zI s)), some (.int (zI t))]) (st' := [.int (zI 0)]) rfl ?_
      exact v_iret rfl rfl rfl ⟨by rw [mWhy, if_neg (by rw [c1]; simp), if_pos c14]; rfl, rfl⟩
  · rw [zb_0] at c1
    refine v_run 2 (pc' := 22) (ls' := [some (.ref (ad 200)), some (.int (zb b)), some (.int (zI s)), some (.int (zI t))]) (st' := [.int (zI 1)]) rfl ?_
    exact v_iret rfl rfl rfl ⟨by rw [mWhy, if_pos c1]; rfl, rfl⟩

set_option maxRecDepth 100000 in
set_option maxHeartbeats 400000 in
theorem q_refusesDoubt (G : ssG) (h : ssH) {ad : Nat → Nat} {rv : Value} {m : Nat → Int} {ζ : Nat → Nat → Nat} {X : Nat → Nat}  (hA : ∀ k l, ad k = ad l → k = l) (hm : MX h ad rv m ζ X) (hz : SaOk ζ) (hx : XOk X)  : ssC G mX10_refusesDoubt 0 0 0 [.ref (ad 200)] h (rI (zI ↑(if ζ 9 0 = 0 then 6 else 0 : Nat)) h) := by
  refine c_of_v okX10_refusesDoubt (by decide +kernel) (ls := [some (.ref (ad 200))]) rfl (Nat.le_of_ble_eq_true rfl) ?_
  obtain ⟨z0, z1, z2, z3, z4, z5, z6, z9, z12, z13, z14, z15, z16, z17, z18, z19, z20⟩ := id hz
  obtain ⟨x0, x6, x12, x18, x24, x25, x26⟩ := id hx
  refine v_run 1 (pc' := 1) (ls' := [some (.ref (ad 200))]) (st' := [.ref (ad 200)]) rfl ?_
  refine v_get rfl hm.1 rfl ?_
  refine v_run 2 (pc' := 12) (ls' := [some (.ref (ad 200))]) (st' := [.ref (ad 200)]) rfl ?_
  refine v_get rfl hm.1 rfl ?_
  refine v_run 0 (pc' := 15) (ls' := [some (.ref (ad 200))]) (st' := [.ref (ad 210)]) rfl ?_
  refine v_get rfl hm.2.1.1 rfl ?_
  refine v_run 1 (pc' := 19) (ls' := [some (.ref (ad 200))]) (st' := [.int (zI (-1)), .int (zI (↑(ζ 9 0) - 1))]) rfl ?_
  refine v_icmp_ne rfl (fun c19 => ?_) (fun c19 => ?_)
  · simp (disch := omega) only [zI_lt, zI_le, zI_eq, zI_lt0, zI_le0, zI_0lt, zI_0le, zI_eq0] at c19
    refine v_run 1 (pc' := 28) (ls' := [some (.ref (ad 200))]) (st' := [.int (zI 0)]) rfl ?_
    exact v_iret rfl rfl rfl ⟨by rw [if_neg (by omega)]; rfl, rfl⟩
  · simp (disch := omega) only [zI_lt, zI_le, zI_eq, zI_lt0, zI_le0, zI_0lt, zI_0le, zI_eq0] at c19
    refine v_run 2 (pc' := 28) (ls' := [some (.ref (ad 200))]) (st' := [.int (zI 6)]) rfl ?_
    exact v_iret rfl rfl rfl ⟨by rw [if_pos (by omega)]; rfl, rfl⟩
set_option maxRecDepth 100000 in
set_option maxHeartbeats 400000 in
theorem q_refusesDoubt0 (G : ssG) (h : ssH) {ad : Nat → Nat} {rv : Value} {m : Nat → Int} (ho : h (ad 200) = some (.inr (10, obM ad .null rv m))) : ssC G mX10_refusesDoubt 0 0 0 [.ref (ad 200)] h (rI (zI 1) h) := by
  refine c_of_v okX10_refusesDoubt (by decide +kernel) (ls := [some (.ref (ad 200))]) rfl (Nat.le_of_ble_eq_true rfl) ?_
  refine v_run 1 (pc' := 1) (ls' := [some (.ref (ad 200))]) (st' := [.ref (ad 200)]) rfl ?_
  refine v_get rfl ho rfl ?_
  refine v_run 3 (pc' := 28) (ls' := [some (.ref (ad 200))]) (st' := [.int (zI 1)]) rfl ?_
  exact v_iret rfl rfl rfl ⟨rfl, rfl⟩

set_option maxRecDepth 100000 in
set_option maxHeartbeats 400000 in
theorem q_refusesSeed (G : ssG) (h : ssH) {ad : Nat → Nat} {rv : Value} {m : Nat → Int} {ζ : Nat → Nat → Nat} {X : Nat → Nat} (s t : Int) (hA : ∀ k l, ad k = ad l → k = l) (hm : MX h ad rv m ζ X) (hz : SaOk ζ) (hx : XOk X) (hs : -2147483648 ≤ s ∧ s < 2147483648) (ht : -2147483648 ≤ t ∧ t < 2147483648) : ssC G mX10_refusesSeed 1 0 0 [.ref (ad 200), .int (zI s), .int (zI t)] h (rI (zI ↑(if (s < 0 ∨ 65536 < s) ∨ (t < 0 ∨ 99 < t) then 2 else 0 : Nat)) h) := by
  refine c_of_v okX10_refusesSeed (by decide +kernel) (ls := [some (.ref (ad 200)), some (.int (zI s)), some (.int (zI t))]) rfl (Nat.le_of_ble_eq_true rfl) ?_
  obtain ⟨z0, z1, z2, z3, z4, z5, z6, z9, z12, z13, z14, z15, z16, z17, z18, z19, z20⟩ := id hz
  obtain ⟨x0, x6, x12, x18, x24, x25, x26⟩ := id hx
  refine v_run 1 (pc' := 1) (ls' := [some (.ref (ad 200)), some (.int (zI s)), some (.int (zI t))]) (st' := [.ref (ad 200)]) rfl ?_
  refine v_get rfl hm.1 rfl ?_
  refine v_run 4 (pc' := 16) (ls' := [some (.ref (ad 200)), some (.int (zI s)), some (.int (zI t))]) (st' := [.int (zI 65536), .int (zI 0), .int (zI s)]) rfl ?_
  refine v_callS (My := mX10_in) (As := [.int (zI s), .int (zI 0), .int (zI 65536)]) (rest := []) (mc := 0) (ms := 0) rfl caX10_in rfl rfl (q_in G _ s 0 65536 hs (by decide) (by decide)) rfl rfl (Nat.le_of_ble_eq_true rfl) (by omega) ?_
  rintro _ _ ⟨rfl, rfl⟩
  refine v_run 0 (pc' := 19) (ls' := [some (.ref (ad 200)), some (.int (zI s)), some (.int (zI t))]) (st' := [.int (zb (decide (0 ≤ s ∧ s ≤ 65536)))]) rfl ?_
  refine v_if_eq rfl (fun c19 => ?_) (fun c19 => ?_)
  · rw [zb_0, decide_eq_false_iff_not] at c19
    refine v_run 1 (pc' := 37) (ls' := [some (.ref (ad 200)), some (.int (zI s)), some (.int (zI t))]) (st' := [.int (zI 2)]) rfl ?_
    exact v_iret rfl rfl rfl ⟨by rw [if_pos (by omega)]; rfl, rfl⟩
  · rw [zb_0, Bool.not_eq_false, decide_eq_true_eq] at c19
    refine v_run 3 (pc' := 26) (ls' := [some (.ref (ad 200)), some (.int (zI s)), some (.int (zI t))]) (st' := [.int (zI 99), .int (zI 0), .int (zI t)]) rfl ?_
    refine v_callS (My := mX10_in) (As := [.int (zI t), .int (zI 0), .int (zI 99)]) (rest := []) (mc := 0) (ms := 0) rfl caX10_in rfl rfl (q_in G _ t 0 99 ht (by decide) (by decide)) rfl rfl (Nat.le_of_ble_eq_true rfl) (by omega) ?_
    rintro _ _ ⟨rfl, rfl⟩
    refine v_run 0 (pc' := 29) (ls' := [some (.ref (ad 200)), some (.int (zI s)), some (.int (zI t))]) (st' := [.int (zb (decide (0 ≤ t ∧ t ≤ 99)))]) rfl ?_
    refine v_if_eq rfl (fun c29 => ?_) (fun c29 => ?_)
    · rw [zb_0, decide_eq_false_iff_not] at c29
      refine v_run 1 (pc' := 37) (ls' := [some (.ref (ad 200)), some (.int (zI s)), some (.int (zI t))]) (st' := [.int (zI 2)]) rfl ?_
      exact v_iret rfl rfl rfl ⟨by rw [if_pos (by omega)]; rfl, rfl⟩
    · rw [zb_0, Bool.not_eq_false, decide_eq_true_eq] at c29
      refine v_run 2 (pc' := 37) (ls' := [some (.ref (ad 200)), some (.int (zI s)), some (.int (zI t))]) (st' := [.int (zI 0)]) rfl ?_
      exact v_iret rfl rfl rfl ⟨by rw [if_neg (by omega)]; rfl, rfl⟩
set_option maxRecDepth 100000 in
set_option maxHeartbeats 400000 in
theorem q_refusesSeed0 (G : ssG) (h : ssH) {ad : Nat → Nat} {rv : Value} {m : Nat → Int} (x y : Int32) (ho : h (ad 200) = some (.inr (10, obM ad .null rv m))) : ssC G mX10_refusesSeed 0 0 0 [.ref (ad 200), .int x, .int y] h (rI (zI 1) h) := by
  refine c_of_v okX10_refusesSeed (by decide +kernel) (ls := [some (.ref (ad 200)), some (.int x), some (.int y)]) rfl (Nat.le_of_ble_eq_true rfl) ?_
  refine v_run 1 (pc' := 1) (ls' := [some (.ref (ad 200)), some (.int x), some (.int y)]) (st' := [.ref (ad 200)]) rfl ?_
  refine v_get rfl ho rfl ?_
  refine v_run 3 (pc' := 37) (ls' := [some (.ref (ad 200)), some (.int x), some (.int y)]) (st' := [.int (zI 1)]) rfl ?_
  exact v_iret rfl rfl rfl ⟨rfl, rfl⟩

set_option maxRecDepth 100000 in
set_option maxHeartbeats 400000 in
theorem q_refusesWorth (G : ssG) (h : ssH) {ad : Nat → Nat} {rv : Value} {m : Nat → Int} {ζ : Nat → Nat → Nat} {X : Nat → Nat} (s : Int) (hA : ∀ k l, ad k = ad l → k = l) (hm : MX h ad rv m ζ X) (hz : SaOk ζ) (hx : XOk X) (hs : -2147483648 ≤ s ∧ s < 2147483648) : ssC G mX10_refusesWorth 1 0 0 [.ref (ad 200), .int (zI s)] h (rI (zI ↑(if s < 0 ∨ 20 < s then 2 else 0 : Nat)) h) := by
  refine c_of_v okX10_refusesWorth (by decide +kernel) (ls := [some (.ref (ad 200)), some (.int (zI s))]) rfl (Nat.le_of_ble_eq_true rfl) ?_
  obtain ⟨z0, z1, z2, z3, z4, z5, z6, z9, z12, z13, z14, z15, z16, z17, z18, z19, z20⟩ := id hz
  obtain ⟨x0, x6, x12, x18, x24, x25, x26⟩ := id hx
  refine v_run 1 (pc' := 1) (ls' := [some (.ref (ad 200)), some (.int (zI s))]) (st' := [.ref (ad 200)]) rfl ?_
  refine v_get rfl hm.1 rfl ?_
  refine v_run 4 (pc' := 15) (ls' := [some (.ref (ad 200)), some (.int (zI s))]) (st' := [.int (zI 20), .int (zI 0), .int (zI s)]) rfl ?_
  refine v_callS (My := mX10_in) (As := [.int (zI s), .int (zI 0), .int (zI 20)]) (rest := []) (mc := 0) (ms := 0) rfl caX10_in rfl rfl (q_in G _ s 0 20 hs (by decide) (by decide)) rfl rfl (Nat.le_of_ble_eq_true rfl) (by omega) ?_
  rintro _ _ ⟨rfl, rfl⟩
  refine v_run 0 (pc' := 18) (ls' := [some (.ref (ad 200)), some (.int (zI s))]) (st' := [.int (zb (decide (0 ≤ s ∧ s ≤ 20)))]) rfl ?_
  refine v_if_eq rfl (fun c18 => ?_) (fun c18 => ?_)
  · rw [zb_0, decide_eq_false_iff_not] at c18
    refine v_run 1 (pc' := 26) (ls' := [some (.ref (ad 200)), some (.int (zI s))]) (st' := [.int (zI 2)]) rfl ?_
    exact v_iret rfl rfl rfl ⟨by rw [if_pos (by omega)]; rfl, rfl⟩
  · rw [zb_0, Bool.not_eq_false, decide_eq_true_eq] at c18
    refine v_run 2 (pc' := 26) (ls' := [some (.ref (ad 200)), some (.int (zI s))]) (st' := [.int (zI 0)]) rfl ?_
    exact v_iret rfl rfl rfl ⟨by rw [if_neg (by omega)]; rfl, rfl⟩
set_option maxRecDepth 100000 in
set_option maxHeartbeats 400000 in
theorem q_refusesWorth0 (G : ssG) (h : ssH) {ad : Nat → Nat} {rv : Value} {m : Nat → Int} (x : Int32) (ho : h (ad 200) = some (.inr (10, obM ad .null rv m))) : ssC G mX10_refusesWorth 0 0 0 [.ref (ad 200), .int x] h (rI (zI 1) h) := by
  refine c_of_v okX10_refusesWorth (by decide +kernel) (ls := [some (.ref (ad 200)), some (.int x)]) rfl (Nat.le_of_ble_eq_true rfl) ?_
  refine v_run 1 (pc' := 1) (ls' := [some (.ref (ad 200)), some (.int x)]) (st' := [.ref (ad 200)]) rfl ?_
  refine v_get rfl ho rfl ?_
  refine v_run 3 (pc' := 26) (ls' := [some (.ref (ad 200)), some (.int x)]) (st' := [.int (zI 1)]) rfl ?_
  exact v_iret rfl rfl rfl ⟨rfl, rfl⟩

set_option maxRecDepth 100000 in
set_option maxHeartbeats 400000 in
theorem q_likes (G : ssG) (h : ssH) {ad : Nat → Nat} {rv : Value} {m : Nat → Int} {ζ : Nat → Nat → Nat} {X : Nat → Nat} (v : Nat) (hA : ∀ k l, ad k = ad l → k = l) (hm : MX h ad rv m ζ X) (hz : SaOk ζ) (hx : XOk X) (hv : v < 6) : ssC G mX10_likes 1 0 0 [.ref (ad 200), .int (zI ↑v)] h (rI (zI ↑(setN (fun a => bitN (ζ 18 a) v) (ζ 6 0))) h) := by
  refine c_of_v okX10_likes (by decide +kernel) (ls := [some (.ref (ad 200)), some (.int (zI ↑v)), none, none]) rfl (Nat.le_of_ble_eq_true rfl) ?_
  obtain ⟨z0, z1, z2, z3, z4, z5, z6, z9, z12, z13, z14, z15, z16, z17, z18, z19, z20⟩ := id hz
  obtain ⟨x0, x6, x12, x18, x24, x25, x26⟩ := id hx
  refine v_run 4 (pc' := 4) (ls' := [some (.ref (ad 200)), some (.int (zI ↑v)), some (.int (zI 0)), some (.int (zI 0))]) (st' := []) rfl ?_
  have lp : ∀ (n s : Nat), s ≤ ζ 6 0 → ζ 6 0 + 1 ≤ s + n → ssV G mX10_likes 1 0 0 (rI (zI ↑(setN (fun a => bitN (ζ 18 a) v) (ζ 6 0))) h) 4 [some (.ref (ad 200)), some (.int (zI ↑v)), some (.int (zI ↑(setN (fun a => bitN (ζ 18 a) v) s))), some (.int (zI ↑s))] [] h := by
    intro n
    induction n with
    | zero => intro s hs1 hs2; exact absurd hs2 (by omega)
    | succ n ih =>
      intro s hs1 hs2
      refine v_run 2 (pc' := 6) (ls' := [some (.ref (ad 200)), some (.int (zI ↑v)), some (.int (zI ↑(setN (fun a => bitN (ζ 18 a) v) s))), some (.int (zI ↑s))]) (st' := [.ref (ad 200), .int (zI ↑s)]) rfl ?_
      refine v_get rfl hm.1 rfl ?_
      refine v_run 0 (pc' := 9) (ls' := [some (.ref (ad 200)), some (.int (zI ↑v)), some (.int (zI ↑(setN (fun a => bitN (ζ 18 a) v) s))), some (.int (zI ↑s))]) (st' := [.ref (ad 210), .int (zI ↑s)]) rfl ?_
      refine v_get rfl hm.2.1.1 rfl ?_
      refine v_run 0 (pc' := 12) (ls' := [some (.ref (ad 200)), some (.int (zI ↑v)), some (.int (zI ↑(setN (fun a => bitN (ζ 18 a) v) s))), some (.int (zI ↑s))]) (st' := [.int (zI ↑(ζ 6 0)), .int (zI ↑s)]) rfl ?_
      refine v_icmp_ge rfl (fun c12 => ?_) (fun c12 => ?_)
      · simp (disch := omega) only [zI_lt, zI_le, zI_eq, zI_lt0, zI_le0, zI_0lt, zI_0le, zI_eq0] at c12
        refine v_run 1 (pc' := 48) (ls' := [some (.ref (ad 200)), some (.int (zI ↑v)), some (.int (zI ↑(setN (fun a => bitN (ζ 18 a) v) s))), some (.int (zI ↑s))]) (st' := [.int (zI ↑(setN (fun a => bitN (ζ 18 a) v) s))]) rfl ?_
        exact v_iret rfl rfl rfl ⟨by rw [show s = ζ 6 0 by omega], rfl⟩
      · simp (disch := omega) only [zI_lt, zI_le, zI_eq, zI_lt0, zI_le0, zI_0lt, zI_0le, zI_eq0] at c12
        have q1 := z18 s
        have q2 := setN_lt (fun a => bitN (ζ 18 a) v) s
        refine v_run 2 (pc' := 17) (ls' := [some (.ref (ad 200)), some (.int (zI ↑v)), some (.int (zI ↑(setN (fun a => bitN (ζ 18 a) v) s))), some (.int (zI ↑s))]) (st' := [.ref (ad 200), .int (zI ↑(setN (fun a => bitN (ζ 18 a) v) s))]) rfl ?_
        refine v_get rfl hm.1 rfl ?_
        refine v_run 0 (pc' := 20) (ls' := [some (.ref (ad 200)), some (.int (zI ↑v)), some (.int (zI ↑(setN (fun a => bitN (ζ 18 a) v) s))), some (.int (zI ↑s))]) (st' := [.ref (ad 210), .int (zI ↑(setN (fun a => bitN (ζ 18 a) v) s))]) rfl ?_
        refine v_get rfl hm.2.1.1 rfl ?_
        refine v_run 1 (pc' := 24) (ls' := [some (.ref (ad 200)), some (.int (zI ↑v)), some (.int (zI ↑(setN (fun a => bitN (ζ 18 a) v) s))), some (.int (zI ↑s))]) (st' := [.int (zI ↑s), .ref (Sf ad 210 18), .int (zI ↑(setN (fun a => bitN (ζ 18 a) v) s))]) rfl ?_
        refine v_iaload' rfl hm.2.1.2.2.2.2.2.2.2.1 (i := s) rfl (by omega) ?_
        refine v_run 1 (pc' := 26) (ls' := [some (.ref (ad 200)), some (.int (zI ↑v)), some (.int (zI ↑(setN (fun a => bitN (ζ 18 a) v) s))), some (.int (zI ↑s))]) (st' := [.int (zI ↑v), .int (zI ↑(ζ 18 s)), .int (zI ↑(setN (fun a => bitN (ζ 18 a) v) s))]) rfl ?_
        refine v_callS (My := mX10_bit) (As := [.int (zI ↑(ζ 18 s)), .int (zI ↑v)]) (rest := [.int (zI ↑(setN (fun a => bitN (ζ 18 a) v) s))]) (mc := 0) (ms := 0) rfl caX10_bit rfl rfl (q_bit G _ (ζ 18 s) v (by omega) (by omega)) rfl rfl (Nat.le_of_ble_eq_true rfl) (by omega) ?_
        rintro _ _ ⟨rfl, rfl⟩
        refine v_run 0 (pc' := 29) (ls' := [some (.ref (ad 200)), some (.int (zI ↑v)), some (.int (zI ↑(setN (fun a => bitN (ζ 18 a) v) s))), some (.int (zI ↑s))]) (st' := [.int (zb (bitN (ζ 18 s) v)), .int (zI ↑(setN (fun a => bitN (ζ 18 a) v) s))]) rfl ?_
        refine v_if_eq rfl (fun c29 => ?_) (fun c29 => ?_)
        · rw [zb_0] at c29
          refine v_run 5 (pc' := 4) (ls' := [some (.ref (ad 200)), some (.int (zI ↑v)), some (.int ((zI ↑(setN (fun a => bitN (ζ 18 a) v) s)) ||| (zI 0))), some (.int ((zI ↑s) + zI 1))]) (st' := []) rfl ?_
          rw [zI_s1, show (zI ↑(setN (fun a => bitN (ζ 18 a) v) s)) ||| (zI 0) = zI ↑(setN (fun a => bitN (ζ 18 a) v) (s + 1)) from by rw [setN_f (p := fun a => bitN (ζ 18 a) v) c29]; exact zI_or0 (by have q3 := Nat.pow_le_pow_right (n := 2) (by decide) (show s ≤ 30 by omega); omega)]
          exact ih (s + 1) (by omega) (by omega)
        · rw [zb_0, Bool.not_eq_false] at c29
          refine v_run 8 (pc' := 4) (ls' := [some (.ref (ad 200)), some (.int (zI ↑v)), some (.int ((zI ↑(setN (fun a => bitN (ζ 18 a) v) s)) ||| ((zI 1) <<< ((zI ↑s) &&& 31)))), some (.int ((zI ↑s) + zI 1))]) (st' := []) rfl ?_
          rw [zI_s1, zI_put (by omega) q2, ← setN_t (p := fun a => bitN (ζ 18 a) v) c29]
          exact ih (s + 1) (by omega) (by omega)
  exact lp (ζ 6 0 + 1) 0 (by omega) (by omega)

set_option maxRecDepth 100000 in
set_option maxHeartbeats 400000 in
theorem q_hangsAt (G : ssG) (h : ssH) {ad : Nat → Nat} {rv : Value} {m : Nat → Int} {ζ : Nat → Nat → Nat} {X : Nat → Nat} {V : Nat → Nat} (t : Nat) (hA : ∀ k l, ad k = ad l → k = l) (hm : MX h ad rv m ζ X) (hz : SaOk ζ) (hx : XOk X) (hv : h (ad 202) = some (ar 26 V)) (hV : XOk V) (ht : t < 6) : ssC G mX10_hangsAt 0 0 0 [.ref (ad 200), .int (zI ↑t)] h (rI (zI (cWho V t (ζ 5 0))) h) := by
  refine c_of_v okX10_hangsAt (by decide +kernel) (ls := [some (.ref (ad 200)), some (.int (zI ↑t)), none]) rfl (Nat.le_of_ble_eq_true rfl) ?_
  obtain ⟨z0, z1, z2, z3, z4, z5, z6, z9, z12, z13, z14, z15, z16, z17, z18, z19, z20⟩ := id hz
  obtain ⟨x0, x6, x12, x18, x24, x25, x26⟩ := id hx
  refine v_run 2 (pc' := 2) (ls' := [some (.ref (ad 200)), some (.int (zI ↑t)), some (.int (zI 0))]) (st' := []) rfl ?_
  have lp : ∀ (n s : Nat), (s ≤ ζ 5 0 ∧ cWhoG V t (ζ 5 0 - s) s = cWho V t (ζ 5 0)) → ζ 5 0 + 1 ≤ s + n → ssV G mX10_hangsAt 0 0 0 (rI (zI (cWho V t (ζ 5 0))) h) 2 [some (.ref (ad 200)), some (.int (zI ↑t)), some (.int (zI ↑s))] [] h := by
    intro n
    induction n with
    | zero => intro s hs1 hs2; exact absurd hs2 (by omega)
    | succ n ih =>
      intro s hs1 hs2
      refine v_run 2 (pc' := 4) (ls' := [some (.ref (ad 200)), some (.int (zI ↑t)), some (.int (zI ↑s))]) (st' := [.ref (ad 200), .int (zI ↑s)]) rfl ?_
      refine v_get rfl hm.1 rfl ?_
      refine v_run 0 (pc' := 7) (ls' := [some (.ref (ad 200)), some (.int (zI ↑t)), some (.int (zI ↑s))]) (st' := [.ref (ad 210), .int (zI ↑s)]) rfl ?_
      refine v_get rfl hm.2.1.1 rfl ?_
      refine v_run 0 (pc' := 10) (ls' := [some (.ref (ad 200)), some (.int (zI ↑t)), some (.int (zI ↑s))]) (st' := [.int (zI ↑(ζ 5 0)), .int (zI ↑s)]) rfl ?_
      refine v_icmp_ge rfl (fun c10 => ?_) (fun c10 => ?_)
      · simp (disch := omega) only [zI_lt, zI_le, zI_eq, zI_lt0, zI_le0, zI_0lt, zI_0le, zI_eq0] at c10
        refine v_run 1 (pc' := 33) (ls' := [some (.ref (ad 200)), some (.int (zI ↑t)), some (.int (zI ↑s))]) (st' := [.int (zI (-2))]) rfl ?_
        exact v_iret rfl rfl rfl ⟨by rw [← hs1.2, show ζ 5 0 - s = 0 by omega]; rfl, rfl⟩
      · simp (disch := omega) only [zI_lt, zI_le, zI_eq, zI_lt0, zI_le0, zI_0lt, zI_0le, zI_eq0] at c10
        have q1 := hV.1 s (by omega)
        have e0 := hs1.2
        rw [show ζ 5 0 - s = (ζ 5 0 - (s + 1)) + 1 by omega, cWhoG] at e0
        refine v_run 1 (pc' := 14) (ls' := [some (.ref (ad 200)), some (.int (zI ↑t)), some (.int (zI ↑s))]) (st' := [.ref (ad 200)]) rfl ?_
        refine v_get rfl hm.1 rfl ?_
        refine v_run 1 (pc' := 18) (ls' := [some (.ref (ad 200)), some (.int (zI ↑t)), some (.int (zI ↑s))]) (st' := [.int (zI ↑s), .ref (ad 202)]) rfl ?_
        refine v_iaload' rfl hv (i := s) rfl (by omega) ?_
        refine v_run 1 (pc' := 20) (ls' := [some (.ref (ad 200)), some (.int (zI ↑t)), some (.int (zI ↑s))]) (st' := [.int (zI ↑t), .int (zI ↑(V s))]) rfl ?_
        refine v_icmp_ne rfl (fun c20 => ?_) (fun c20 => ?_)
        · simp (disch := omega) only [zI_lt, zI_le, zI_eq, zI_lt0, zI_le0, zI_0lt, zI_0le, zI_eq0] at c20
          refine v_run 2 (pc' := 2) (ls' := [some (.ref (ad 200)), some (.int (zI ↑t)), some (.int ((zI ↑s) + zI 1))]) (st' := []) rfl ?_
          rw [zI_s1]
          exact ih (s + 1) ⟨by omega, by rw [← e0, if_neg (by omega)]⟩ (by omega)
        · simp (disch := omega) only [zI_lt, zI_le, zI_eq, zI_lt0, zI_le0, zI_0lt, zI_0le, zI_eq0] at c20
          refine v_run 1 (pc' := 24) (ls' := [some (.ref (ad 200)), some (.int (zI ↑t)), some (.int (zI ↑s))]) (st' := [.int (zI ↑s)]) rfl ?_
          exact v_iret rfl rfl rfl ⟨by rw [← e0, if_pos (by omega)], rfl⟩
  exact lp (ζ 5 0 + 1) 0 ⟨by omega, rfl⟩ (by omega)

