set_option maxRecDepth 100000 in
set_option maxHeartbeats 4000000 in
theorem k_airAt (G : ssG) (h : ssH) (p k : Nat) (i : Nat → Nat) (R : Nat → Nat) (A : Nat → Nat) (d : Int) (hp : h p = some (.inr (4, ob4 i R d))) (ha : h (R 4) = some (ar 6 A)) (hk : k < 6) : ssC G mX4_airAt 0 0 0 [.ref p, .int (zI ↑k)] h (rI (zI ↑(A k)) h) := by
  refine c_of_v okX4_airAt (by decide +kernel) (ls := [some (.ref p), some (.int (zI ↑k))]) rfl (Nat.le_of_ble_eq_true rfl) ?_
  refine v_run 1 (pc' := 1) (ls' := [some (.ref p), some (.int (zI ↑k))]) (st' := [.int (zI ↑k)]) rfl ?_
  refine v_if_lt rfl (fun c1 => ?_) (fun c1 => ?_)
  · exact absurd (zI_lt0 (by omega) (by omega) |>.mp c1) (by omega)
  · refine v_run 2 (pc' := 7) (ls' := [some (.ref p), some (.int (zI ↑k))]) (st' := [.int (zI 6), .int (zI ↑k)]) rfl ?_
    refine v_icmp_ge rfl (fun c7 => ?_) (fun c7 => ?_)
    · exact absurd (zI_le (by omega) (by omega) (by omega) (by omega) |>.mp c7) (by omega)
    · refine v_run 1 (pc' := 11) (ls' := [some (.ref p), some (.int (zI ↑k))]) (st' := [.ref p]) rfl ?_
      refine v_get rfl hp rfl ?_
      refine v_run 1 (pc' := 15) (ls' := [some (.ref p), some (.int (zI ↑k))]) (st' := [.int (zI ↑k), .ref (R 4)]) rfl ?_
      refine v_iaload' rfl ha (i := k) rfl (by omega) ?_
      refine v_run 1 (pc' := 20) (ls' := [some (.ref p), some (.int (zI ↑k))]) (st' := [.int ((fun j => zI ↑(A j)) k)]) rfl ?_
      exact v_iret rfl rfl rfl ⟨rfl, rfl⟩

