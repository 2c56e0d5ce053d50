def mFd (ad : Nat → Nat) (sv rv : Value) (m : Nat → Int) (B : Nat → Int) (h : ssH) (N : Nat) (W : Nat → Int32) : Option Value → ssH → Prop := if 900 < N + 20 then (fun r h' => r = some (.int (zI (-1))) ∧ hset h (ad 200) (.inr (10, obM ad sv rv (mU m 0 0))) = h') else fun r h' => r = some (.int (zI ↑(N + 20))) ∧ hset (hset h (ad 200) (.inr (10, obM ad sv rv (mU (mU m 0 0) 6 ↑(N + 20))))) (ad 201) (arB 900 (fB B W N 20)) = h'
set_option maxRecDepth 100000 in
set_option maxHeartbeats 400000 in
theorem g_feed (G : ssG) (h : ssH) {ad : Nat → Nat} {sv rv : Value} {m : Nat → Int} {B : Nat → Int} {N : Nat} {W : Nat → Int32} (hA : ∀ k l, ad k = ad l → k = l) (ho : h (ad 200) = some (.inr (10, obM ad sv rv m))) (hta : h (ad 201) = some (arB 900 B)) (h6 : m 6 = ↑N) (hN : N ≤ 900) : ssC G mX10_feed 0 0 0 [.ref (ad 200), .int (W 0), .int (W 1), .int (W 2), .int (W 3), .int (W 4)] h (mFd ad sv rv m B h N W) := by
  refine c_of_v okX10_feed (by decide +kernel) (ls := [some (.ref (ad 200)), some (.int (W 0)), some (.int (W 1)), some (.int (W 2)), some (.int (W 3)), some (.int (W 4)), none, none]) rfl (Nat.le_of_ble_eq_true rfl) ?_
  refine v_run 2 (pc' := 2) (ls' := [some (.ref (ad 200)), some (.int (W 0)), some (.int (W 1)), some (.int (W 2)), some (.int (W 3)), some (.int (W 4)), none, none]) (st' := [.int (zI 0), .ref (ad 200)]) rfl ?_
  refine v_put rfl ho rfl rfl (Nat.le_of_ble_eq_true rfl) ?_
  rw [show (obM ad sv rv m).set 0 (.int (zI 0)) = obM ad sv rv (mU m 0 0) from rfl]
  refine v_run 1 (pc' := 6) (ls' := [some (.ref (ad 200)), some (.int (W 0)), some (.int (W 1)), some (.int (W 2)), some (.int (W 3)), some (.int (W 4)), none, none]) (st' := [.ref (ad 200)]) rfl ?_
  refine v_get rfl (hset_self _ _ _) rfl ?_
  refine v_run 1 (pc' := 11) (ls' := [some (.ref (ad 200)), some (.int (W 0)), some (.int (W 1)), some (.int (W 2)), some (.int (W 3)), some (.int (W 4)), none, none]) (st' := [.int (zI 20), .int (zI (m 6))]) rfl ?_
  rw [h6]
  refine v_run 2 (pc' := 15) (ls' := [some (.ref (ad 200)), some (.int (W 0)), some (.int (W 1)), some (.int (W 2)), some (.int (W 3)), some (.int (W 4)), none, none]) (st' := [.int (zI 900), .int ((zI (↑N)) + (zI 20))]) rfl ?_
  rw [zI_add]
  refine v_icmp_le rfl (fun c15 => ?_) (fun c15 => ?_)
  · simp (disch := omega) only [zI_lt, zI_le, zI_eq, zI_lt0, zI_le0, zI_0lt, zI_0le, zI_eq0] at c15
    rw [show mFd ad sv rv m B h N W = _ from if_neg (by omega)]
    refine v_run 2 (pc' := 23) (ls' := [some (.ref (ad 200)), some (.int (W 0)), some (.int (W 1)), some (.int (W 2)), some (.int (W 3)), some (.int (W 4)), some (.int (zI 0)), none]) (st' := []) rfl ?_
    have lp : ∀ (f : Nat) (k : Nat) (y : Option Value), k ≤ 20 → 20 + 1 ≤ k + f → ssV G mX10_feed 0 0 0 (fun r h' => r = some (.int (zI ↑(N + 20))) ∧ hset (hset h (ad 200) (.inr (10, obM ad sv rv (mU (mU m 0 0) 6 ↑(N + 20))))) (ad 201) (arB 900 (fB B W N 20)) = h') 23 [some (.ref (ad 200)), some (.int (W 0)), some (.int (W 1)), some (.int (W 2)), some (.int (W 3)), some (.int (W 4)), some (.int (zI ↑k)), y] [] (hset (hset h (ad 200) (.inr (10, obM ad sv rv (mU (mU m 0 0) 6 ↑(N + k))))) (ad 201) (arB 900 (fB B W N k))) := by
      intro f
      induction f with
      | zero => intro k y hs1 hs2; have q1 := hs1; exact absurd hs2 (by omega)
      | succ f ihlp =>
        intro k y hs1 hs2
        have q1 := hs1
        refine v_run 2 (pc' := 27) (ls' := [some (.ref (ad 200)), some (.int (W 0)), some (.int (W 1)), some (.int (W 2)), some (.int (W 3)), some (.int (W 4)), some (.int (zI ↑k)), y]) (st' := [.int (zI 20), .int (zI ↑k)]) rfl ?_
        refine v_icmp_ge rfl (fun c27 => ?_) (fun c27 => ?_)
        · simp (disch := omega) only [zI_lt, zI_le, zI_eq, zI_lt0, zI_le0, zI_0lt, zI_0le, zI_eq0] at c27
          have ek : k = 20 := by omega
          refine v_run 1 (pc' := 118) (ls' := [some (.ref (ad 200)), some (.int (W 0)), some (.int (W 1)), some (.int (W 2)), some (.int (W 3)), some (.int (W 4)), some (.int (zI ↑k)), y]) (st' := [.ref (ad 200)]) rfl ?_
          refine v_get rfl ((hset_ne _ _ (ad_ne hA (by decide))).trans (hset_self _ _ _)) rfl ?_
          refine v_run 0 (pc' := 121) (ls' := [some (.ref (ad 200)), some (.int (W 0)), some (.int (W 1)), some (.int (W 2)), some (.int (W 3)), some (.int (W 4)), some (.int (zI ↑k)), y]) (st' := [.int (zI ↑(N + k))]) rfl ?_
          exact v_iret rfl rfl rfl ⟨by rw [ek], by rw [ek]⟩
        · simp (disch := omega) only [zI_lt, zI_le, zI_eq, zI_lt0, zI_le0, zI_0lt, zI_0le, zI_eq0] at c27
          refine v_run 2 (pc' := 33) (ls' := [some (.ref (ad 200)), some (.int (W 0)), some (.int (W 1)), some (.int (W 2)), some (.int (W 3)), some (.int (W 4)), some (.int (zI ↑k)), y]) (st' := [.int (zI 4), .int (zI ↑k)]) rfl ?_
          refine v_icmp_ge rfl (fun c33 => ?_) (fun c33 => ?_)
          · simp (disch := omega) only [zI_lt, zI_le, zI_eq, zI_lt0, zI_le0, zI_0lt, zI_0le, zI_eq0] at c33
            refine v_run 2 (pc' := 44) (ls' := [some (.ref (ad 200)), some (.int (W 0)), some (.int (W 1)), some (.int (W 2)), some (.int (W 3)), some (.int (W 4)), some (.int (zI ↑k)), y]) (st' := [.int (zI 8), .int (zI ↑k)]) rfl ?_
            refine v_icmp_ge rfl (fun c44 => ?_) (fun c44 => ?_)
            · simp (disch := omega) only [zI_lt, zI_le, zI_eq, zI_lt0, zI_le0, zI_0lt, zI_0le, zI_eq0] at c44
              refine v_run 2 (pc' := 55) (ls' := [some (.ref (ad 200)), some (.int (W 0)), some (.int (W 1)), some (.int (W 2)), some (.int (W 3)), some (.int (W 4)), some (.int (zI ↑k)), y]) (st' := [.int (zI 12), .int (zI ↑k)]) rfl ?_
              refine v_icmp_ge rfl (fun c55 => ?_) (fun c55 => ?_)
              · simp (disch := omega) only [zI_lt, zI_le, zI_eq, zI_lt0, zI_le0, zI_0lt, zI_0le, zI_eq0] at c55
                refine v_run 2 (pc' := 66) (ls' := [some (.ref (ad 200)), some (.int (W 0)), some (.int (W 1)), some (.int (W 2)), some (.int (W 3)), some (.int (W 4)), some (.int (zI ↑k)), y]) (st' := [.int (zI 16), .int (zI ↑k)]) rfl ?_
                refine v_icmp_ge rfl (fun c66 => ?_) (fun c66 => ?_)
                · simp (disch := omega) only [zI_lt, zI_le, zI_eq, zI_lt0, zI_le0, zI_0lt, zI_0le, zI_eq0] at c66
                  refine v_run 3 (pc' := 79) (ls' := [some (.ref (ad 200)), some (.int (W 0)), some (.int (W 1)), some (.int (W 2)), some (.int (W 3)), some (.int (W 4)), some (.int (zI ↑k)), some (.int (W 4))]) (st' := [.ref (ad 200)]) rfl ?_
                  refine v_get rfl ((hset_ne _ _ (ad_ne hA (by decide))).trans (hset_self _ _ _)) rfl ?_
                  refine v_run 1 (pc' := 83) (ls' := [some (.ref (ad 200)), some (.int (W 0)), some (.int (W 1)), some (.int (W 2)), some (.int (W 3)), some (.int (W 4)), some (.int (zI ↑k)), some (.int (W 4))]) (st' := [.ref (ad 200), .ref (ad 201)]) rfl ?_
                  refine v_get rfl ((hset_ne _ _ (ad_ne hA (by decide))).trans (hset_self _ _ _)) rfl ?_
                  refine v_run 5 (pc' := 95) (ls' := [some (.ref (ad 200)), some (.int (W 0)), some (.int (W 1)), some (.int (W 2)), some (.int (W 3)), some (.int (W 4)), some (.int (zI ↑k)), some (.int (W 4))]) (st' := [.int (zI 4), .int (zI ↑k), .int (zI 8), .int (zI 24), .int (W 4), .int (zI ↑(N + k)), .ref (ad 201)]) rfl ?_
                  have ew : k / 4 = 4 := by omega
                  refine v_irem rfl (zI_ne0 (by decide) (by decide)) ?_
                  rw [show ((zI ↑k - zI ↑k / zI 4 * zI 4) : Int32) = zI ↑(k % 4) from by rw [show (zI 4) = zI ((4 : Nat) : Int) from rfl, zN_rem (by omega) (by omega) (by omega)]]
                  refine v_run 2 (pc' := 98) (ls' := [some (.ref (ad 200)), some (.int (W 0)), some (.int (W 1)), some (.int (W 2)), some (.int (W 3)), some (.int (W 4)), some (.int (zI ↑k)), some (.int (W 4))]) (st' := [.int ((zI 24) - ((zI 8) * (zI ↑(k % 4)))), .int (W 4), .int (zI ↑(N + k)), .ref (ad 201)]) rfl ?_
                  rw [show (((zI 24) - ((zI 8) * (zI ↑(k % 4)))) : Int32) = zI ↑(24 - 8 * (k % 4)) from by rw [show (zI 8) = zI ((8 : Nat) : Int) from rfl, show (zI 24) = zI ((24 : Nat) : Int) from rfl, zI_mul, zI_sub]; congr 1; omega]
                  refine v_run 2 (pc' := 100) (ls' := [some (.ref (ad 200)), some (.int (W 0)), some (.int (W 1)), some (.int (W 2)), some (.int (W 3)), some (.int (W 4)), some (.int (zI ↑k)), some (.int (W 4))]) (st' := [.int (((W 4) >>> ((zI ↑(24 - 8 * (k % 4))) &&& 31)).toInt8.toInt32), .int (zI ↑(N + k)), .ref (ad 201)]) rfl ?_
                  refine v_bastore' rfl (hset_self _ _ _) (i := (N + k)) rfl (by omega) ?_
                  rw [bt_st, arB_upd, hset_hset, show bt (W 4) (24 - 8 * (k % 4)) = bt (W (k / 4)) (24 - 8 * (k % 4)) from by rw [ew], fB_s]
                  refine v_run 2 (pc' := 103) (ls' := [some (.ref (ad 200)), some (.int (W 0)), some (.int (W 1)), some (.int (W 2)), some (.int (W 3)), some (.int (W 4)), some (.int (zI ↑k)), some (.int (W 4))]) (st' := [.ref (ad 200), .ref (ad 200)]) rfl ?_
                  refine v_get rfl ((hset_ne _ _ (ad_ne hA (by decide))).trans (hset_self _ _ _)) rfl ?_
                  refine v_run 2 (pc' := 108) (ls' := [some (.ref (ad 200)), some (.int (W 0)), some (.int (W 1)), some (.int (W 2)), some (.int (W 3)), some (.int (W 4)), some (.int (zI ↑k)), some (.int (W 4))]) (st' := [.int ((zI ↑(N + k)) + (zI 1)), .ref (ad 200)]) rfl ?_
                  rw [zI_s1]
                  refine v_put rfl ((hset_ne _ _ (ad_ne hA (by decide))).trans (hset_self _ _ _)) rfl rfl (Nat.le_of_ble_eq_true rfl) ?_
                  rw [show (obM ad sv rv (mU (mU m 0 0) 6 ↑(N + k))).set 6 (.int (zI ↑(N + k + 1))) = obM ad sv rv (mU (mU m 0 0) 6 ↑(N + (k + 1))) from rfl]
                  rw [hset_comm _ _ _ (ad_ne hA (show 201 ≠ 200 by decide)), hset_hset]
                  refine v_run 2 (pc' := 23) (ls' := [some (.ref (ad 200)), some (.int (W 0)), some (.int (W 1)), some (.int (W 2)), some (.int (W 3)), some (.int (W 4)), some (.int ((zI ↑k) + zI 1)), some (.int (W 4))]) (st' := []) rfl ?_
                  rw [zI_s1]
                  exact ihlp (k + 1) _ (by omega) (by omega)
                · simp (disch := omega) only [zI_lt, zI_le, zI_eq, zI_lt0, zI_le0, zI_0lt, zI_0le, zI_eq0] at c66
                  have ew : k / 4 = 3 := by omega
                  refine v_run 4 (pc' := 79) (ls' := [some (.ref (ad 200)), some (.int (W 0)), some (.int (W 1)), some (.int (W 2)), some (.int (W 3)), some (.int (W 4)), some (.int (zI ↑k)), some (.int (W 3))]) (st' := [.ref (ad 200)]) rfl ?_
                  refine v_get rfl ((hset_ne _ _ (ad_ne hA (by decide))).trans (hset_self _ _ _)) rfl ?_
                  refine v_run 1 (pc' := 83) (ls' := [some (.ref (ad 200)), some (.int (W 0)), some (.int (W 1)), some (.int (W 2)), some (.int (W 3)), some (.int (W 4)), some (.int (zI ↑k)), some (.int (W 3))]) (st' := [.ref (ad 200), .ref (ad 201)]) rfl ?_
                  refine v_get rfl ((hset_ne _ _ (ad_ne hA (by decide))).trans (hset_self _ _ _)) rfl ?_
                  refine v_run 5 (pc' := 95) (ls' := [some (.ref (ad 200)), some (.int (W 0)), some (.int (W 1)), some (.int (W 2)), some (.int (W 3)), some (.int (W 4)), some (.int (zI ↑k)), some (.int (W 3))]) (st' := [.int (zI 4), .int (zI ↑k), .int (zI 8), .int (zI 24), .int (W 3), .int (zI ↑(N + k)), .ref (ad 201)]) rfl ?_
                  refine v_irem rfl (zI_ne0 (by decide) (by decide)) ?_
                  rw [show ((zI ↑k - zI ↑k / zI 4 * zI 4) : Int32) = zI ↑(k % 4) from by rw [show (zI 4) = zI ((4 : Nat) : Int) from rfl, zN_rem (by omega) (by omega) (by omega)]]
                  refine v_run 2 (pc' := 98) (ls' := [some (.ref (ad 200)), some (.int (W 0)), some (.int (W 1)), some (.int (W 2)), some (.int (W 3)), some (.int (W 4)), some (.int (zI ↑k)), some (.int (W 3))]) (st' := [.int ((zI 24) - ((zI 8) * (zI ↑(k % 4)))), .int (W 3), .int (zI ↑(N + k)), .ref (ad 201)]) rfl ?_
                  rw [show (((zI 24) - ((zI 8) * (zI ↑(k % 4)))) : Int32) = zI ↑(24 - 8 * (k % 4)) from by rw [show (zI 8) = zI ((8 : Nat) : Int) from rfl, show (zI 24) = zI ((24 : Nat) : Int) from rfl, zI_mul, zI_sub]; congr 1; omega]
                  refine v_run 2 (pc' := 100) (ls' := [some (.ref (ad 200)), some (.int (W 0)), some (.int (W 1)), some (.int (W 2)), some (.int (W 3)), some (.int (W 4)), some (.int (zI ↑k)), some (.int (W 3))]) (st' := [.int (((W 3) >>> ((zI ↑(24 - 8 * (k % 4))) &&& 31)).toInt8.toInt32), .int (zI ↑(N + k)), .ref (ad 201)]) rfl ?_
                  refine v_bastore' rfl (hset_self _ _ _) (i := (N + k)) rfl (by omega) ?_
                  rw [bt_st, arB_upd, hset_hset, show bt (W 3) (24 - 8 * (k % 4)) = bt (W (k / 4)) (24 - 8 * (k % 4)) from by rw [ew], fB_s]
                  refine v_run 2 (pc' := 103) (ls' := [some (.ref (ad 200)), some (.int (W 0)), some (.int (W 1)), some (.int (W 2)), some (.int (W 3)), some (.int (W 4)), some (.int (zI ↑k)), some (.int (W 3))]) (st' := [.ref (ad 200), .ref (ad 200)]) rfl ?_
                  refine v_get rfl ((hset_ne _ _ (ad_ne hA (by decide))).trans (hset_self _ _ _)) rfl ?_
                  refine v_run 2 (pc' := 108) (ls' := [some (.ref (ad 200)), some (.int (W 0)), some (.int (W 1)), some (.int (W 2)), some (.int (W 3)), some (.int (W 4)), some (.int (zI ↑k)), some (.int (W 3))]) (st' := [.int ((zI ↑(N + k)) + (zI 1)), .ref (ad 200)]) rfl ?_
                  rw [zI_s1]
                  refine v_put rfl ((hset_ne _ _ (ad_ne hA (by decide))).trans (hset_self _ _ _)) rfl rfl (Nat.le_of_ble_eq_true rfl) ?_
                  rw [show (obM ad sv rv (mU (mU m 0 0) 6 ↑(N + k))).set 6 (.int (zI ↑(N + k + 1))) = obM ad sv rv (mU (mU m 0 0) 6 ↑(N + (k + 1))) from rfl]
                  rw [hset_comm _ _ _ (ad_ne hA (show 201 ≠ 200 by decide)), hset_hset]
                  refine v_run 2 (pc' := 23) (ls' := [some (.ref (ad 200)), some (.int (W 0)), some (.int (W 1)), some (.int (W 2)), some (.int (W 3)), some (.int (W 4)), some (.int ((zI ↑k) + zI 1)), some (.int (W 3))]) (st' := []) rfl ?_
                  rw [zI_s1]
                  exact ihlp (k + 1) _ (by omega) (by omega)
              · simp (disch := omega) only [zI_lt, zI_le, zI_eq, zI_lt0, zI_le0, zI_0lt, zI_0le, zI_eq0] at c55
                have ew : k / 4 = 2 := by omega
                refine v_run 4 (pc' := 79) (ls' := [some (.ref (ad 200)), some (.int (W 0)), some (.int (W 1)), some (.int (W 2)), some (.int (W 3)), some (.int (W 4)), some (.int (zI ↑k)), some (.int (W 2))]) (st' := [.ref (ad 200)]) rfl ?_
                refine v_get rfl ((hset_ne _ _ (ad_ne hA (by decide))).trans (hset_self _ _ _)) rfl ?_
                refine v_run 1 (pc' := 83) (ls' := [some (.ref (ad 200)), some (.int (W 0)), some (.int (W 1)), some (.int (W 2)), some (.int (W 3)), some (.int (W 4)), some (.int (zI ↑k)), some (.int (W 2))]) (st' := [.ref (ad 200), .ref (ad 201)]) rfl ?_
                refine v_get rfl ((hset_ne _ _ (ad_ne hA (by decide))).trans (hset_self _ _ _)) rfl ?_
                refine v_run 5 (pc' := 95) (ls' := [some (.ref (ad 200)), some (.int (W 0)), some (.int (W 1)), some (.int (W 2)), some (.int (W 3)), some (.int (W 4)), some (.int (zI ↑k)), some (.int (W 2))]) (st' := [.int (zI 4), .int (zI ↑k), .int (zI 8), .int (zI 24), .int (W 2), .int (zI ↑(N + k)), .ref (ad 201)]) rfl ?_
                refine v_irem rfl (zI_ne0 (by decide) (by decide)) ?_
                rw [show ((zI ↑k - zI ↑k / zI 4 * zI 4) : Int32) = zI ↑(k % 4) from by rw [show (zI 4) = zI ((4 : Nat) : Int) from rfl, zN_rem (by omega) (by omega) (by omega)]]
                refine v_run 2 (pc' := 98) (ls' := [some (.ref (ad 200)), some (.int (W 0)), some (.int (W 1)), some (.int (W 2)), some (.int (W 3)), some (.int (W 4)), some (.int (zI ↑k)), some (.int (W 2))]) (st' := [.int ((zI 24) - ((zI 8) * (zI ↑(k % 4)))), .int (W 2), .int (zI ↑(N + k)), .ref (ad 201)]) rfl ?_
                rw [show (((zI 24) - ((zI 8) * (zI ↑(k % 4)))) : Int32) = zI ↑(24 - 8 * (k % 4)) from by rw [show (zI 8) = zI ((8 : Nat) : Int) from rfl, show (zI 24) = zI ((24 : Nat) : Int) from rfl, zI_mul, zI_sub]; congr 1; omega]
                refine v_run 2 (pc' := 100) (ls' := [some (.ref (ad 200)), some (.int (W 0)), some (.int (W 1)), some (.int (W 2)), some (.int (W 3)), some (.int (W 4)), some (.int (zI ↑k)), some (.int (W 2))]) (st' := [.int (((W 2) >>> ((zI ↑(24 - 8 * (k % 4))) &&& 31)).toInt8.toInt32), .int (zI ↑(N + k)), .ref (ad 201)]) rfl ?_
                refine v_bastore' rfl (hset_self _ _ _) (i := (N + k)) rfl (by omega) ?_
                rw [bt_st, arB_upd, hset_hset, show bt (W 2) (24 - 8 * (k % 4)) = bt (W (k / 4)) (24 - 8 * (k % 4)) from by rw [ew], fB_s]
                refine v_run 2 (pc' := 103) (ls' := [some (.ref (ad 200)), some (.int (W 0)), some (.int (W 1)), some (.int (W 2)), some (.int (W 3)), some (.int (W 4)), some (.int (zI ↑k)), some (.int (W 2))]) (st' := [.ref (ad 200), .ref (ad 200)]) rfl ?_
                refine v_get rfl ((hset_ne _ _ (ad_ne hA (by decide))).trans (hset_self _ _ _)) rfl ?_
                refine v_run 2 (pc' := 108) (ls' := [some (.ref (ad 200)), some (.int (W 0)), some (.int (W 1)), some (.int (W 2)), some (.int (W 3)), some (.int (W 4)), some (.int (zI ↑k)), some (.int (W 2))]) (st' := [.int ((zI ↑(N + k)) + (zI 1)), .ref (ad 200)]) rfl ?_
                rw [zI_s1]
                refine v_put rfl ((hset_ne _ _ (ad_ne hA (by decide))).trans (hset_self _ _ _)) rfl rfl (Nat.le_of_ble_eq_true rfl) ?_
                rw [show (obM ad sv rv (mU (mU m 0 0) 6 ↑(N + k))).set 6 (.int (zI ↑(N + k + 1))) = obM ad sv rv (mU (mU m 0 0) 6 ↑(N + (k + 1))) from rfl]
                rw [hset_comm _ _ _ (ad_ne hA (show 201 ≠ 200 by decide)), hset_hset]
                refine v_run 2 (pc' := 23) (ls' := [some (.ref (ad 200)), some (.int (W 0)), some (.int (W 1)), some (.int (W 2)), some (.int (W 3)), some (.int (W 4)), some (.int ((zI ↑k) + zI 1)), some (.int (W 2))]) (st' := []) rfl ?_
                rw [zI_s1]
                exact ihlp (k + 1) _ (by omega) (by omega)
            · simp (disch := omega) only [zI_lt, zI_le, zI_eq, zI_lt0, zI_le0, zI_0lt, zI_0le, zI_eq0] at c44
              have ew : k / 4 = 1 := by omega
              refine v_run 4 (pc' := 79) (ls' := [some (.ref (ad 200)), some (.int (W 0)), some (.int (W 1)), some (.int (W 2)), some (.int (W 3)), some (.int (W 4)), some (.int (zI ↑k)), some (.int (W 1))]) (st' := [.ref (ad 200)]) rfl ?_
              refine v_get rfl ((hset_ne _ _ (ad_ne hA (by decide))).trans (hset_self _ _ _)) rfl ?_
              refine v_run 1 (pc' := 83) (ls' := [some (.ref (ad 200)), some (.int (W 0)), some (.int (W 1)), some (.int (W 2)), some (.int (W 3)), some (.int (W 4)), some (.int (zI ↑k)), some (.int (W 1))]) (st' := [.ref (ad 200), .ref (ad 201)]) rfl ?_
              refine v_get rfl ((hset_ne _ _ (ad_ne hA (by decide))).trans (hset_self _ _ _)) rfl ?_
              refine v_run 5 (pc' := 95) (ls' := [some (.ref (ad 200)), some (.int (W 0)), some (.int (W 1)), some (.int (W 2)), some (.int (W 3)), some (.int (W 4)), some (.int (zI ↑k)), some (.int (W 1))]) (st' := [.int (zI 4), .int (zI ↑k), .int (zI 8), .int (zI 24), .int (W 1), .int (zI ↑(N + k)), .ref (ad 201)]) rfl ?_
              refine v_irem rfl (zI_ne0 (by decide) (by decide)) ?_
              rw [show ((zI ↑k - zI ↑k / zI 4 * zI 4) : Int32) = zI ↑(k % 4) from by rw [show (zI 4) = zI ((4 : Nat) : Int) from rfl, zN_rem (by omega) (by omega) (by omega)]]
              refine v_run 2 (pc' := 98) (ls' := [some (.ref (ad 200)), some (.int (W 0)), some (.int (W 1)), some (.int (W 2)), some (.int (W 3)), some (.int (W 4)), some (.int (zI ↑k)), some (.int (W 1))]) (st' := [.int ((zI 24) - ((zI 8) * (zI ↑(k % 4)))), .int (W 1), .int (zI ↑(N + k)), .ref (ad 201)]) rfl ?_
              rw [show (((zI 24) - ((zI 8) * (zI ↑(k % 4)))) : Int32) = zI ↑(24 - 8 * (k % 4)) from by rw [show (zI 8) = zI ((8 : Nat) : Int) from rfl, show (zI 24) = zI ((24 : Nat) : Int) from rfl, zI_mul, zI_sub]; congr 1; omega]
              refine v_run 2 (pc' := 100) (ls' := [some (.ref (ad 200)), some (.int (W 0)), some (.int (W 1)), some (.int (W 2)), some (.int (W 3)), some (.int (W 4)), some (.int (zI ↑k)), some (.int (W 1))]) (st' := [.int (((W 1) >>> ((zI ↑(24 - 8 * (k % 4))) &&& 31)).toInt8.toInt32), .int (zI ↑(N + k)), .ref (ad 201)]) rfl ?_
              refine v_bastore' rfl (hset_self _ _ _) (i := (N + k)) rfl (by omega) ?_
              rw [bt_st, arB_upd, hset_hset, show bt (W 1) (24 - 8 * (k % 4)) = bt (W (k / 4)) (24 - 8 * (k % 4)) from by rw [ew], fB_s]
              refine v_run 2 (pc' := 103) (ls' := [some (.ref (ad 200)), some (.int (W 0)), some (.int (W 1)), some (.int (W 2)), some (.int (W 3)), some (.int (W 4)), some (.int (zI ↑k)), some (.int (W 1))]) (st' := [.ref (ad 200), .ref (ad 200)]) rfl ?_
              refine v_get rfl ((hset_ne _ _ (ad_ne hA (by decide))).trans (hset_self _ _ _)) rfl ?_
              refine v_run 2 (pc' := 108) (ls' := [some (.ref (ad 200)), some (.int (W 0)), some (.int (W 1)), some (.int (W 2)), some (.int (W 3)), some (.int (W 4)), some (.int (zI ↑k)), some (.int (W 1))]) (st' := [.int ((zI ↑(N + k)) + (zI 1)), .ref (ad 200)]) rfl ?_
              rw [zI_s1]
              refine v_put rfl ((hset_ne _ _ (ad_ne hA (by decide))).trans (hset_self _ _ _)) rfl rfl (Nat.le_of_ble_eq_true rfl) ?_
              rw [show (obM ad sv rv (mU (mU m 0 0) 6 ↑(N + k))).set 6 (.int (zI ↑(N + k + 1))) = obM ad sv rv (mU (mU m 0 0) 6 ↑(N + (k + 1))) from rfl]
              rw [hset_comm _ _ _ (ad_ne hA (show 201 ≠ 200 by decide)), hset_hset]
              refine v_run 2 (pc' := 23) (ls' := [some (.ref (ad 200)), some (.int (W 0)), some (.int (W 1)), some (.int (W 2)), some (.int (W 3)), some (.int (W 4)), some (.int ((zI ↑k) + zI 1)), some (.int (W 1))]) (st' := []) rfl ?_
              rw [zI_s1]
              exact ihlp (k + 1) _ (by omega) (by omega)
          · simp (disch := omega) only [zI_lt, zI_le, zI_eq, zI_lt0, zI_le0, zI_0lt, zI_0le, zI_eq0] at c33
            have ew : k / 4 = 0 := by omega
            refine v_run 4 (pc' := 79) (ls' := [some (.ref (ad 200)), some (.int (W 0)), some (.int (W 1)), some (.int (W 2)), some (.int (W 3)), some (.int (W 4)), some (.int (zI ↑k)), some (.int (W 0))]) (st' := [.ref (ad 200)]) rfl ?_
            refine v_get rfl ((hset_ne _ _ (ad_ne hA (by decide))).trans (hset_self _ _ _)) rfl ?_
            refine v_run 1 (pc' := 83) (ls' := [some (.ref (ad 200)), some (.int (W 0)), some (.int (W 1)), some (.int (W 2)), some (.int (W 3)), some (.int (W 4)), some (.int (zI ↑k)), some (.int (W 0))]) (st' := [.ref (ad 200), .ref (ad 201)]) rfl ?_
            refine v_get rfl ((hset_ne _ _ (ad_ne hA (by decide))).trans (hset_self _ _ _)) rfl ?_
            refine v_run 5 (pc' := 95) (ls' := [some (.ref (ad 200)), some (.int (W 0)), some (.int (W 1)), some (.int (W 2)), some (.int (W 3)), some (.int (W 4)), some (.int (zI ↑k)), some (.int (W 0))]) (st' := [.int (zI 4), .int (zI ↑k), .int (zI 8), .int (zI 24), .int (W 0), .int (zI ↑(N + k)), .ref (ad 201)]) rfl ?_
            refine v_irem rfl (zI_ne0 (by decide) (by decide)) ?_
            rw [show ((zI ↑k - zI ↑k / zI 4 * zI 4) : Int32) = zI ↑(k % 4) from by rw [show (zI 4) = zI ((4 : Nat) : Int) from rfl, zN_rem (by omega) (by omega) (by omega)]]
            refine v_run 2 (pc' := 98) (ls' := [some (.ref (ad 200)), some (.int (W 0)), some (.int (W 1)), some (.int (W 2)), some (.int (W 3)), some (.int (W 4)), some (.int (zI ↑k)), some (.int (W 0))]) (st' := [.int ((zI 24) - ((zI 8) * (zI ↑(k % 4)))), .int (W 0), .int (zI ↑(N + k)), .ref (ad 201)]) rfl ?_
            rw [show (((zI 24) - ((zI 8) * (zI ↑(k % 4)))) : Int32) = zI ↑(24 - 8 * (k % 4)) from by rw [show (zI 8) = zI ((8 : Nat) : Int) from rfl, show (zI 24) = zI ((24 : Nat) : Int) from rfl, zI_mul, zI_sub]; congr 1; omega]
            refine v_run 2 (pc' := 100) (ls' := [some (.ref (ad 200)), some (.int (W 0)), some (.int (W 1)), some (.int (W 2)), some (.int (W 3)), some (.int (W 4)), some (.int (zI ↑k)), some (.int (W 0))]) (st' := [.int (((W 0) >>> ((zI ↑(24 - 8 * (k % 4))) &&& 31)).toInt8.toInt32), .int (zI ↑(N + k)), .ref (ad 201)]) rfl ?_
            refine v_bastore' rfl (hset_self _ _ _) (i := (N + k)) rfl (by omega) ?_
            rw [bt_st, arB_upd, hset_hset, show bt (W 0) (24 - 8 * (k % 4)) = bt (W (k / 4)) (24 - 8 * (k % 4)) from by rw [ew], fB_s]
            refine v_run 2 (pc' := 103) (ls' := [some (.ref (ad 200)), some (.int (W 0)), some (.int (W 1)), some (.int (W 2)), some (.int (W 3)), some (.int (W 4)), some (.int (zI ↑k)), some (.int (W 0))]) (st' := [.ref (ad 200), .ref (ad 200)]) rfl ?_
            refine v_get rfl ((hset_ne _ _ (ad_ne hA (by decide))).trans (hset_self _ _ _)) rfl ?_
            refine v_run 2 (pc' := 108) (ls' := [some (.ref (ad 200)), some (.int (W 0)), some (.int (W 1)), some (.int (W 2)), some (.int (W 3)), some (.int (W 4)), some (.int (zI ↑k)), some (.int (W 0))]) (st' := [.int ((zI ↑(N + k)) + (zI 1)), .ref (ad 200)]) rfl ?_
            rw [zI_s1]
            refine v_put rfl ((hset_ne _ _ (ad_ne hA (by decide))).trans (hset_self _ _ _)) rfl rfl (Nat.le_of_ble_eq_true rfl) ?_
            rw [show (obM ad sv rv (mU (mU m 0 0) 6 ↑(N + k))).set 6 (.int (zI ↑(N + k + 1))) = obM ad sv rv (mU (mU m 0 0) 6 ↑(N + (k + 1))) from rfl]
            rw [hset_comm _ _ _ (ad_ne hA (show 201 ≠ 200 by decide)), hset_hset]
            refine v_run 2 (pc' := 23) (ls' := [some (.ref (ad 200)), some (.int (W 0)), some (.int (W 1)), some (.int (W 2)), some (.int (W 3)), some (.int (W 4)), some (.int ((zI ↑k) + zI 1)), some (.int (W 0))]) (st' := []) rfl ?_
            rw [zI_s1]
            exact ihlp (k + 1) _ (by omega) (by omega)
    have e0 : hset (hset h (ad 200) (.inr (10, obM ad sv rv (mU (mU m 0 0) 6 ↑(N + 0))))) (ad 201) (arB 900 (fB B W N 0)) = hset h (ad 200) (.inr (10, obM ad sv rv (mU m 0 0))) := by rw [fB_0, show mU (mU m 0 0) 6 ↑(N + 0) = mU m 0 0 from by rw [Nat.add_zero, ← h6]; exact mU_same (m := mU m 0 0) (k := 6)]; exact hset_same _ (((hset_ne _ _ (ad_ne hA (by decide))).trans hta))
    have lq := lp 21 0 none (by omega) (by omega)
    rw [e0] at lq
    exact lq
  · simp (disch := omega) only [zI_lt, zI_le, zI_eq, zI_lt0, zI_le0, zI_0lt, zI_0le, zI_eq0] at c15
    refine v_run 1 (pc' := 19) (ls' := [some (.ref (ad 200)), some (.int (W 0)), some (.int (W 1)), some (.int (W 2)), some (.int (W 3)), some (.int (W 4)), none, none]) (st' := [.int (zI (-1))]) rfl ?_
    rw [show mFd ad sv rv m B h N W = _ from if_pos (by omega)]
    exact v_iret rfl rfl rfl ⟨rfl, rfl⟩

