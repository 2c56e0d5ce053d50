set_option maxRecDepth 100000 in
set_option maxHeartbeats 400000 in
theorem r_put (G : ssG) (h : ssH) {ad : Nat → Nat} {s t k : Int} {x : Int64} {nx en a : Int} {B : Nat → Int} {W : Nat → Int32} {N q : Nat} (hA : ∀ k l, ad k = ad l → k = l) (ho : h (ad 2) = some (.inr (5, obR ad ↑(N + 4 * q) s t k x nx en a))) (hta : h (ad 3) = some (arB 900 (fB B W N (4 * q)))) (hN : N + 4 * q + 4 ≤ 900) : ssC G mX5_put 0 0 0 [.ref (ad 2), .int (W q)] h (rV (hset (hset h (ad 2) (.inr (5, obR ad ↑(N + 4 * q + 4) s t k x nx en a))) (ad 3) (arB 900 (fB B W N (4 * q + 4))))) := by
  refine c_of_v okX5_put (by decide +kernel) (ls := [some (.ref (ad 2)), some (.int (W q)), none]) rfl (Nat.le_of_ble_eq_true rfl) ?_
  refine v_run 2 (pc' := 3) (ls' := [some (.ref (ad 2)), some (.int (W q)), some (.int (zI 24))]) (st' := []) rfl ?_
  have lp : ∀ (f : Nat) (j : Nat), j ≤ 4 → 4 + 1 ≤ j + f → ssV G mX5_put 0 0 0 (rV (hset (hset h (ad 2) (.inr (5, obR ad ↑(N + 4 * q + 4) s t k x nx en a))) (ad 3) (arB 900 (fB B W N (4 * q + 4))))) 3 [some (.ref (ad 2)), some (.int (W q)), some (.int (zI (24 - 8 * ↑j)))] [] (hset (hset h (ad 2) (.inr (5, obR ad ↑(N + 4 * q + j) s t k x nx en a))) (ad 3) (arB 900 (fB B W N (4 * q + j)))) := by
    intro f
    induction f with
    | zero => intro j hs1 hs2; have q1 := hs1; exact absurd hs2 (by omega)
    | succ f ihlp =>
      intro j hs1 hs2
      have q1 := hs1
      refine v_run 1 (pc' := 4) (ls' := [some (.ref (ad 2)), some (.int (W q)), some (.int (zI (24 - 8 * ↑j)))]) (st' := [.int (zI (24 - 8 * ↑j))]) rfl ?_
      refine v_if_lt rfl (fun c4 => ?_) (fun c4 => ?_)
      · simp (disch := omega) only [zI_lt, zI_le, zI_eq, zI_lt0, zI_le0, zI_0lt, zI_0le, zI_eq0] at c4
        have ej : j = 4 := by omega
        exact v_vret rfl rfl ⟨rfl, by rw [ej]⟩
      · simp (disch := omega) only [zI_lt, zI_le, zI_eq, zI_lt0, zI_le0, zI_0lt, zI_0le, zI_eq0] at c4
        refine v_run 1 (pc' := 8) (ls' := [some (.ref (ad 2)), some (.int (W q)), some (.int (zI (24 - 8 * ↑j)))]) (st' := [.ref (ad 2)]) rfl ?_
        refine v_get rfl ((hset_ne _ _ (ad_ne hA (by decide))).trans (hset_self _ _ _)) rfl ?_
        refine v_run 1 (pc' := 14) (ls' := [some (.ref (ad 2)), some (.int (W q)), some (.int (zI (24 - 8 * ↑j)))]) (st' := [.int (zI 900), .int (zI ↑(N + 4 * q + j))]) rfl ?_
        refine v_icmp_ge rfl (fun c14 => ?_) (fun c14 => ?_)
        · simp (disch := omega) only [zI_lt, zI_le, zI_eq, zI_lt0, zI_le0, zI_0lt, zI_0le, zI_eq0] at c14
          exact absurd c14 (by omega)
        · clear c14
          rw [show (zI (24 - 8 * ↑j) : Int32) = zI ↑(24 - 8 * j) from by congr 1; omega]
          refine v_run 1 (pc' := 18) (ls' := [some (.ref (ad 2)), some (.int (W q)), some (.int (zI ↑(24 - 8 * j)))]) (st' := [.ref (ad 2)]) rfl ?_
          refine v_get rfl ((hset_ne _ _ (ad_ne hA (by decide))).trans (hset_self _ _ _)) rfl ?_
          refine v_run 1 (pc' := 22) (ls' := [some (.ref (ad 2)), some (.int (W q)), some (.int (zI ↑(24 - 8 * j)))]) (st' := [.ref (ad 2), .ref (ad 3)]) rfl ?_
          refine v_get rfl ((hset_ne _ _ (ad_ne hA (by decide))).trans (hset_self _ _ _)) rfl ?_
          refine v_run 4 (pc' := 29) (ls' := [some (.ref (ad 2)), some (.int (W q)), some (.int (zI ↑(24 - 8 * j)))]) (st' := [.int (((W q) >>> ((zI ↑(24 - 8 * j)) &&& 31)).toInt8.toInt32), .int (zI ↑(N + 4 * q + j)), .ref (ad 3)]) rfl ?_
          refine v_bastore' rfl (hset_self _ _ _) (i := (N + 4 * q + j)) rfl (by omega) ?_
          rw [bt_st, arB_upd, hset_hset]
          rw [show (fun i => if i = N + 4 * q + j then bt (W q) (24 - 8 * j) else fB B W N (4 * q + j) i) = fB B W N (4 * q + (j + 1)) from by have e := fB_s B W N (4 * q + j); rw [show (4 * q + j) / 4 = q by omega, show (4 * q + j) % 4 = j by omega, ← Nat.add_assoc N (4 * q) j] at e; exact e]
          refine v_run 2 (pc' := 32) (ls' := [some (.ref (ad 2)), some (.int (W q)), some (.int (zI ↑(24 - 8 * j)))]) (st' := [.ref (ad 2), .ref (ad 2)]) rfl ?_
          refine v_get rfl ((hset_ne _ _ (ad_ne hA (by decide))).trans (hset_self _ _ _)) rfl ?_
          refine v_run 2 (pc' := 37) (ls' := [some (.ref (ad 2)), some (.int (W q)), some (.int (zI ↑(24 - 8 * j)))]) (st' := [.int ((zI ↑(N + 4 * q + j)) + (zI 1)), .ref (ad 2)]) rfl ?_
          rw [zI_s1]
          refine v_put rfl ((hset_ne _ _ (ad_ne hA (by decide))).trans (hset_self _ _ _)) rfl rfl (Nat.le_of_ble_eq_true rfl) ?_
          rw [show (obR ad ↑(N + 4 * q + j) s t k x nx en a).set 0 (.int (zI ↑(N + 4 * q + j + 1))) = obR ad ↑(N + 4 * q + (j + 1)) s t k x nx en a from rfl]
          rw [hset_comm _ _ _ (ad_ne hA (show 3 ≠ 2 by decide)), hset_hset]
          refine v_run 2 (pc' := 3) (ls' := [some (.ref (ad 2)), some (.int (W q)), some (.int ((zI ↑(24 - 8 * j)) + zI (-8)))]) (st' := []) rfl ?_
          rw [show (zI ↑(24 - 8 * j) + zI (-8) : Int32) = zI (24 - 8 * ↑(j + 1)) from by rw [zI_add]; congr 1; omega]
          exact ihlp (j + 1) (by omega) (by omega)
  have e0 : hset (hset h (ad 2) (.inr (5, obR ad ↑(N + 4 * q + 0) s t k x nx en a))) (ad 3) (arB 900 (fB B W N (4 * q + 0))) = h := by show hset (hset h (ad 2) (.inr (5, obR ad ↑(N + 4 * q) s t k x nx en a))) (ad 3) (arB 900 (fB B W N (4 * q))) = h; rw [hset_same h ho]; exact hset_same h hta
  have lq := lp 5 0 (by omega) (by omega)
  rw [e0] at lq
  exact lq

def cFd (ad : Nat → Nat) (s t k : Int) (x : Int64) (nx en a : Int) (B : Nat → Int) (h : ssH) (N : Nat) (W : Nat → Int32) : Option Value → ssH → Prop := if 900 < N + 20 then (fun r h' => r = some (.int (zI (-1))) ∧ h = h') else (fun r h' => r = some (.int (zI ↑(N + 20))) ∧ hset (hset h (ad 2) (.inr (5, obR ad ↑(N + 20) s t k x nx en a))) (ad 3) (arB 900 (fB B W N 20)) = h')
set_option maxRecDepth 100000 in
set_option maxHeartbeats 400000 in
theorem k_feed (G : ssG) (h : ssH) {ad : Nat → Nat} {s t k : Int} {x : Int64} {nx en a : Int} {B : Nat → Int} {W : Nat → Int32} {N pl po : Nat} {σ τ : sT} (hA : ∀ k l, ad k = ad l → k = l) (hx : h (ad 0) = some (.inr (8, obX ad pl σ))) (hp : h (ad 1) = some (.inr (3, obP ad po τ))) (ho : h (ad 2) = some (.inr (5, obR ad ↑N s t k x nx en a))) (hta : h (ad 3) = some (arB 900 B)) (hN : N ≤ 900) : ssC G mX8_feed 1 0 0 [.ref (ad 0), .int (W 0), .int (W 1), .int (W 2), .int (W 3), .int (W 4)] h (cFd ad s t k x nx en a B h N W) := by
  refine c_of_v okX8_feed (by decide +kernel) (ls := [some (.ref (ad 0)), some (.int (W 0)), some (.int (W 1)), some (.int (W 2)), some (.int (W 3)), some (.int (W 4)), none]) rfl (Nat.le_of_ble_eq_true rfl) ?_
  refine v_run 1 (pc' := 1) (ls' := [some (.ref (ad 0)), some (.int (W 0)), some (.int (W 1)), some (.int (W 2)), some (.int (W 3)), some (.int (W 4)), none]) (st' := [.ref (ad 0)]) rfl ?_
  refine v_get rfl hx rfl ?_
  refine v_run 0 (pc' := 4) (ls' := [some (.ref (ad 0)), some (.int (W 0)), some (.int (W 1)), some (.int (W 2)), some (.int (W 3)), some (.int (W 4)), none]) (st' := [.ref (ad 1)]) rfl ?_
  refine v_get rfl hp rfl ?_
  refine v_run 2 (pc' := 11) (ls' := [some (.ref (ad 0)), some (.int (W 0)), some (.int (W 1)), some (.int (W 2)), some (.int (W 3)), some (.int (W 4)), some (.ref (ad 2))]) (st' := [.ref (ad 2)]) rfl ?_
  refine v_get rfl ho rfl ?_
  refine v_run 3 (pc' := 20) (ls' := [some (.ref (ad 0)), some (.int (W 0)), some (.int (W 1)), some (.int (W 2)), some (.int (W 3)), some (.int (W 4)), some (.ref (ad 2))]) (st' := [.int (zI 900), .int ((zI ↑N) + (zI 20))]) rfl ?_
  rw [zI_add]
  refine v_icmp_le rfl (fun c20 => ?_) (fun c20 => ?_)
  · simp (disch := omega) only [zI_lt, zI_le, zI_eq, zI_lt0, zI_le0, zI_0lt, zI_0le, zI_eq0] at c20
    rw [show cFd ad s t k x nx en a B h N W = _ from if_neg (by omega)]
    have hta0 : h (ad 3) = some (arB 900 (fB B W N (4 * 0))) := by rw [fB_0]; exact hta
    refine v_run 2 (pc' := 28) (ls' := [some (.ref (ad 0)), some (.int (W 0)), some (.int (W 1)), some (.int (W 2)), some (.int (W 3)), some (.int (W 4)), some (.ref (ad 2))]) (st' := [.int (W 0), .ref (ad 2)]) rfl ?_
    refine v_callV (My := mX5_put) (As := [.int (W 0)]) (rest := []) (mc := 0) (ms := 0) rfl caX5_put rfl rfl rfl ho rfl rfl (r_put G _ (q := 0) hA ho hta0 (by omega)) rfl rfl (Nat.le_of_ble_eq_true rfl) (by omega) ?_
    rintro _ h1 ⟨rfl, e1⟩
    refine v_run 0 (pc' := 31) (ls' := [some (.ref (ad 0)), some (.int (W 0)), some (.int (W 1)), some (.int (W 2)), some (.int (W 3)), some (.int (W 4)), some (.ref (ad 2))]) (st' := []) rfl ?_
    have ho1 : h1 (ad 2) = some (.inr (5, obR ad ↑(N + 4 * 1) s t k x nx en a)) := by rw [← e1]; exact ((hset_ne _ _ (ad_ne hA (by decide))).trans (hset_self _ _ _))
    have ht1 : h1 (ad 3) = some (arB 900 (fB B W N (4 * 1))) := by rw [← e1]; exact hset_self _ _ _
    have g1 : hset (hset h (ad 2) (.inr (5, obR ad ↑(N + 4 * 1) s t k x nx en a))) (ad 3) (arB 900 (fB B W N (4 * 1))) = h1 := e1
    refine v_run 2 (pc' := 34) (ls' := [some (.ref (ad 0)), some (.int (W 0)), some (.int (W 1)), some (.int (W 2)), some (.int (W 3)), some (.int (W 4)), some (.ref (ad 2))]) (st' := [.int (W 1), .ref (ad 2)]) rfl ?_
    refine v_callV (My := mX5_put) (As := [.int (W 1)]) (rest := []) (mc := 0) (ms := 0) rfl caX5_put rfl rfl rfl ho1 rfl rfl (r_put G _ (q := 1) hA ho1 ht1 (by omega)) rfl rfl (Nat.le_of_ble_eq_true rfl) (by omega) ?_
    rintro _ h2 ⟨rfl, e2⟩
    refine v_run 0 (pc' := 37) (ls' := [some (.ref (ad 0)), some (.int (W 0)), some (.int (W 1)), some (.int (W 2)), some (.int (W 3)), some (.int (W 4)), some (.ref (ad 2))]) (st' := []) rfl ?_
    have ho2 : h2 (ad 2) = some (.inr (5, obR ad ↑(N + 4 * 2) s t k x nx en a)) := by rw [← e2]; exact ((hset_ne _ _ (ad_ne hA (by decide))).trans (hset_self _ _ _))
    have ht2 : h2 (ad 3) = some (arB 900 (fB B W N (4 * 2))) := by rw [← e2]; exact hset_self _ _ _
    have g2 : hset (hset h (ad 2) (.inr (5, obR ad ↑(N + 4 * 2) s t k x nx en a))) (ad 3) (arB 900 (fB B W N (4 * 2))) = h2 := by rw [← e2, ← g1, hset_comm _ _ _ (ad_ne hA (show 3 ≠ 2 by decide)), hset_hset, hset_hset]
    refine v_run 2 (pc' := 40) (ls' := [some (.ref (ad 0)), some (.int (W 0)), some (.int (W 1)), some (.int (W 2)), some (.int (W 3)), some (.int (W 4)), some (.ref (ad 2))]) (st' := [.int (W 2), .ref (ad 2)]) rfl ?_
    refine v_callV (My := mX5_put) (As := [.int (W 2)]) (rest := []) (mc := 0) (ms := 0) rfl caX5_put rfl rfl rfl ho2 rfl rfl (r_put G _ (q := 2) hA ho2 ht2 (by omega)) rfl rfl (Nat.le_of_ble_eq_true rfl) (by omega) ?_
    rintro _ h3 ⟨rfl, e3⟩
    refine v_run 0 (pc' := 43) (ls' := [some (.ref (ad 0)), some (.int (W 0)), some (.int (W 1)), some (.int (W 2)), some (.int (W 3)), some (.int (W 4)), some (.ref (ad 2))]) (st' := []) rfl ?_
    have ho3 : h3 (ad 2) = some (.inr (5, obR ad ↑(N + 4 * 3) s t k x nx en a)) := by rw [← e3]; exact ((hset_ne _ _ (ad_ne hA (by decide))).trans (hset_self _ _ _))
    have ht3 : h3 (ad 3) = some (arB 900 (fB B W N (4 * 3))) := by rw [← e3]; exact hset_self _ _ _
    have g3 : hset (hset h (ad 2) (.inr (5, obR ad ↑(N + 4 * 3) s t k x nx en a))) (ad 3) (arB 900 (fB B W N (4 * 3))) = h3 := by rw [← e3, ← g2, hset_comm _ _ _ (ad_ne hA (show 3 ≠ 2 by decide)), hset_hset, hset_hset]
    refine v_run 2 (pc' := 47) (ls' := [some (.ref (ad 0)), some (.int (W 0)), some (.int (W 1)), some (.int (W 2)), some (.int (W 3)), some (.int (W 4)), some (.ref (ad 2))]) (st' := [.int (W 3), .ref (ad 2)]) rfl ?_
    refine v_callV (My := mX5_put) (As := [.int (W 3)]) (rest := []) (mc := 0) (ms := 0) rfl caX5_put rfl rfl rfl ho3 rfl rfl (r_put G _ (q := 3) hA ho3 ht3 (by omega)) rfl rfl (Nat.le_of_ble_eq_true rfl) (by omega) ?_
    rintro _ h4 ⟨rfl, e4⟩
    refine v_run 0 (pc' := 50) (ls' := [some (.ref (ad 0)), some (.int (W 0)), some (.int (W 1)), some (.int (W 2)), some (.int (W 3)), some (.int (W 4)), some (.ref (ad 2))]) (st' := []) rfl ?_
    have ho4 : h4 (ad 2) = some (.inr (5, obR ad ↑(N + 4 * 4) s t k x nx en a)) := by rw [← e4]; exact ((hset_ne _ _ (ad_ne hA (by decide))).trans (hset_self _ _ _))
    have ht4 : h4 (ad 3) = some (arB 900 (fB B W N (4 * 4))) := by rw [← e4]; exact hset_self _ _ _
    have g4 : hset (hset h (ad 2) (.inr (5, obR ad ↑(N + 4 * 4) s t k x nx en a))) (ad 3) (arB 900 (fB B W N (4 * 4))) = h4 := by rw [← e4, ← g3, hset_comm _ _ _ (ad_ne hA (show 3 ≠ 2 by decide)), hset_hset, hset_hset]
    refine v_run 2 (pc' := 54) (ls' := [some (.ref (ad 0)), some (.int (W 0)), some (.int (W 1)), some (.int (W 2)), some (.int (W 3)), some (.int (W 4)), some (.ref (ad 2))]) (st' := [.int (W 4), .ref (ad 2)]) rfl ?_
    refine v_callV (My := mX5_put) (As := [.int (W 4)]) (rest := []) (mc := 0) (ms := 0) rfl caX5_put rfl rfl rfl ho4 rfl rfl (r_put G _ (q := 4) hA ho4 ht4 (by omega)) rfl rfl (Nat.le_of_ble_eq_true rfl) (by omega) ?_
    rintro _ h5 ⟨rfl, e5⟩
    refine v_run 0 (pc' := 57) (ls' := [some (.ref (ad 0)), some (.int (W 0)), some (.int (W 1)), some (.int (W 2)), some (.int (W 3)), some (.int (W 4)), some (.ref (ad 2))]) (st' := []) rfl ?_
    have ho5 : h5 (ad 2) = some (.inr (5, obR ad ↑(N + 4 * 5) s t k x nx en a)) := by rw [← e5]; exact ((hset_ne _ _ (ad_ne hA (by decide))).trans (hset_self _ _ _))
    have ht5 : h5 (ad 3) = some (arB 900 (fB B W N (4 * 5))) := by rw [← e5]; exact hset_self _ _ _
    have g5 : hset (hset h (ad 2) (.inr (5, obR ad ↑(N + 4 * 5) s t k x nx en a))) (ad 3) (arB 900 (fB B W N (4 * 5))) = h5 := by rw [← e5, ← g4, hset_comm _ _ _ (ad_ne hA (show 3 ≠ 2 by decide)), hset_hset, hset_hset]
    refine v_run 1 (pc' := 59) (ls' := [some (.ref (ad 0)), some (.int (W 0)), some (.int (W 1)), some (.int (W 2)), some (.int (W 3)), some (.int (W 4)), some (.ref (ad 2))]) (st' := [.ref (ad 2)]) rfl ?_
    refine v_get rfl ho5 rfl ?_
    refine v_run 0 (pc' := 62) (ls' := [some (.ref (ad 0)), some (.int (W 0)), some (.int (W 1)), some (.int (W 2)), some (.int (W 3)), some (.int (W 4)), some (.ref (ad 2))]) (st' := [.int (zI ↑(N + 4 * 5))]) rfl ?_
    exact v_iret rfl rfl rfl ⟨rfl, g5⟩
  · simp (disch := omega) only [zI_lt, zI_le, zI_eq, zI_lt0, zI_le0, zI_0lt, zI_0le, zI_eq0] at c20
    refine v_run 1 (pc' := 24) (ls' := [some (.ref (ad 0)), some (.int (W 0)), some (.int (W 1)), some (.int (W 2)), some (.int (W 3)), some (.int (W 4)), some (.ref (ad 2))]) (st' := [.int (zI (-1))]) rfl ?_
    rw [show cFd ad s t k x nx en a B h N W = _ from if_pos (by omega)]
    exact v_iret rfl rfl rfl ⟨rfl, rfl⟩

