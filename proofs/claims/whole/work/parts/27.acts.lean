/-- rows hold 0 behind their ends -/
def sZ (σ : sT) : Prop := ∀ o, o ≠ 1 → ∀ k n, (3 ≤ k ∧ k ≤ 5 ∧ 6 ≤ n) ∨ (k = 6 ∧ 41 ≤ n) → σ o k n = 0
theorem cpy6 {f g : Nat → Nat} (hfg : ∀ m, 6 ≤ m → f m = g m) : (.inl (0, 6, .inl (va_cpy (fun j => zI ↑(f j)) (fun j => zI ↑(g j)) (zI 0).toNatClampNeg (zI 0).toNatClampNeg (zI 6).toNatClampNeg)) : ssE) = ar 6 f := by
  unfold ar
  congr 4
  funext j
  rw [show (zI 0).toNatClampNeg = 0 from by decide +kernel, show (zI 6).toNatClampNeg = 6 from by decide +kernel]
  by_cases hj : j < 6
  · rw [pk_cpy_in (by omega) (by omega)]; simp
  · rw [pk_cpy_out (by omega), hfg j (by omega)]
theorem cpy41 {f g : Nat → Nat} (hfg : ∀ m, 41 ≤ m → f m = g m) : (.inl (0, 41, .inl (va_cpy (fun j => zI ↑(f j)) (fun j => zI ↑(g j)) (zI 0).toNatClampNeg (zI 0).toNatClampNeg (zI 41).toNatClampNeg)) : ssE) = ar 41 f := by
  unfold ar
  congr 4
  funext j
  rw [show (zI 0).toNatClampNeg = 0 from by decide +kernel, show (zI 41).toNatClampNeg = 41 from by decide +kernel]
  by_cases hj : j < 41
  · rw [pk_cpy_in (by omega) (by omega)]; simp
  · rw [pk_cpy_out (by omega), hfg j (by omega)]
set_option maxRecDepth 100000 in
set_option maxHeartbeats 400000 in
theorem k_copyFrom (G : ssG) (h : ssH) {ad : Nat → Nat} {σ : sT} {b1 b2 o1 o2 : Nat} (hA : ∀ k l, ad k = ad l → k = l) (c1 : CMom h ad b1 σ o1) (c2 : CMom h ad b2 σ o2) (hd : b1 + 5 ≤ b2 ∨ b2 + 5 ≤ b1) (hz : sZ σ) (h1 : o1 ≠ 1) (h2 : o2 ≠ 1) : ssC G mX2_copyFrom 1 0 0 [.ref (ad b2), .ref (ad b1)] h (fun r h' => r = none ∧ MomAt h' (ad b2) (fI σ o1) (Rm ad b2) (σ o1) ∧ ∀ b, (∀ k, b2 ≤ k → k < b2 + 5 → b ≠ ad k) → h' b = h b) := by
  refine c_of_v okX2_copyFrom (by decide +kernel) (ls := [some (.ref (ad b2)), some (.ref (ad b1))]) rfl (Nat.le_of_ble_eq_true rfl) ?_
  refine v_run 2 (pc' := 2) (ls' := [some (.ref (ad b2)), some (.ref (ad b1))]) (st' := [.ref (ad b1), .ref (ad b2)]) rfl ?_
  refine v_get rfl c1.1 rfl ?_
  refine v_run 0 (pc' := 5) (ls' := [some (.ref (ad b2)), some (.ref (ad b1))]) (st' := [.int (zI ↑(σ o1 0 0)), .ref (ad b2)]) rfl ?_
  refine v_put rfl c2.1 rfl rfl (Nat.le_of_ble_eq_true rfl) ?_
  refine v_run 2 (pc' := 10) (ls' := [some (.ref (ad b2)), some (.ref (ad b1))]) (st' := [.ref (ad b1), .ref (ad b2)]) rfl ?_
  refine v_get rfl ((hset_ne _ _ (ad_ne hA (by omega))).trans c1.1) rfl ?_
  refine v_run 0 (pc' := 13) (ls' := [some (.ref (ad b2)), some (.ref (ad b1))]) (st' := [.int (zI ↑(σ o1 1 0)), .ref (ad b2)]) rfl ?_
  refine v_put rfl (hset_self _ _ _) rfl rfl (Nat.le_of_ble_eq_true rfl) ?_
  refine v_run 2 (pc' := 18) (ls' := [some (.ref (ad b2)), some (.ref (ad b1))]) (st' := [.ref (ad b1), .ref (ad b2)]) rfl ?_
  refine v_get rfl ((hset_ne _ _ (ad_ne hA (by omega))).trans ((hset_ne _ _ (ad_ne hA (by omega))).trans c1.1)) rfl ?_
  refine v_run 0 (pc' := 21) (ls' := [some (.ref (ad b2)), some (.ref (ad b1))]) (st' := [.int (zI ↑(σ o1 2 0)), .ref (ad b2)]) rfl ?_
  refine v_put rfl (hset_self _ _ _) rfl rfl (Nat.le_of_ble_eq_true rfl) ?_
  refine v_run 1 (pc' := 25) (ls' := [some (.ref (ad b2)), some (.ref (ad b1))]) (st' := [.ref (ad b1)]) rfl ?_
  refine v_get rfl ((hset_ne _ _ (ad_ne hA (by omega))).trans ((hset_ne _ _ (ad_ne hA (by omega))).trans ((hset_ne _ _ (ad_ne hA (by omega))).trans c1.1))) rfl ?_
  refine v_run 2 (pc' := 30) (ls' := [some (.ref (ad b2)), some (.ref (ad b1))]) (st' := [.ref (ad b2), .int (zI 0), .ref (Rm ad b1 3)]) rfl ?_
  refine v_get rfl (hset_self _ _ _) rfl ?_
  refine v_run 2 (pc' := 36) (ls' := [some (.ref (ad b2)), some (.ref (ad b1))]) (st' := [.int (zI 6), .int (zI 0), .ref (Rm ad b2 3), .int (zI 0), .ref (Rm ad b1 3)]) rfl ?_
  refine v_copy rfl rfl (by omega) (Nat.le_of_ble_eq_true rfl) ((hset_ne _ _ (ad_ne hA (by omega))).trans ((hset_ne _ _ (ad_ne hA (by omega))).trans ((hset_ne _ _ (ad_ne hA (by omega))).trans c1.2.1))) ((hset_ne _ _ (ad_ne hA (by omega))).trans ((hset_ne _ _ (ad_ne hA (by omega))).trans ((hset_ne _ _ (ad_ne hA (by omega))).trans c2.2.1))) (by decide +kernel) (by decide +kernel) (by decide +kernel) (by decide +kernel) (by decide +kernel) ?_
  rw [cpy6 (fun m hm => by rw [hz o1 h1 3 m (by omega), hz o2 h2 3 m (by omega)])]
  refine v_run 1 (pc' := 40) (ls' := [some (.ref (ad b2)), some (.ref (ad b1))]) (st' := [.ref (ad b1)]) rfl ?_
  refine v_get rfl ((hset_ne _ _ (ad_ne hA (by omega))).trans ((hset_ne _ _ (ad_ne hA (by omega))).trans ((hset_ne _ _ (ad_ne hA (by omega))).trans ((hset_ne _ _ (ad_ne hA (by omega))).trans c1.1)))) rfl ?_
  refine v_run 2 (pc' := 45) (ls' := [some (.ref (ad b2)), some (.ref (ad b1))]) (st' := [.ref (ad b2), .int (zI 0), .ref (Rm ad b1 4)]) rfl ?_
  refine v_get rfl ((hset_ne _ _ (ad_ne hA (by omega))).trans (hset_self _ _ _)) rfl ?_
  refine v_run 2 (pc' := 51) (ls' := [some (.ref (ad b2)), some (.ref (ad b1))]) (st' := [.int (zI 6), .int (zI 0), .ref (Rm ad b2 4), .int (zI 0), .ref (Rm ad b1 4)]) rfl ?_
  refine v_copy rfl rfl (by omega) (Nat.le_of_ble_eq_true rfl) ((hset_ne _ _ (ad_ne hA (by omega))).trans ((hset_ne _ _ (ad_ne hA (by omega))).trans ((hset_ne _ _ (ad_ne hA (by omega))).trans ((hset_ne _ _ (ad_ne hA (by omega))).trans c1.2.2.1)))) ((hset_ne _ _ (ad_ne hA (by omega))).trans ((hset_ne _ _ (ad_ne hA (by omega))).trans ((hset_ne _ _ (ad_ne hA (by omega))).trans ((hset_ne _ _ (ad_ne hA (by omega))).trans c2.2.2.1)))) (by decide +kernel) (by decide +kernel) (by decide +kernel) (by decide +kernel) (by decide +kernel) ?_
  rw [cpy6 (fun m hm => by rw [hz o1 h1 4 m (by omega), hz o2 h2 4 m (by omega)])]
  refine v_run 1 (pc' := 55) (ls' := [some (.ref (ad b2)), some (.ref (ad b1))]) (st' := [.ref (ad b1)]) rfl ?_
  refine v_get rfl ((hset_ne _ _ (ad_ne hA (by omega))).trans ((hset_ne _ _ (ad_ne hA (by omega))).trans ((hset_ne _ _ (ad_ne hA (by omega))).trans ((hset_ne _ _ (ad_ne hA (by omega))).trans ((hset_ne _ _ (ad_ne hA (by omega))).trans c1.1))))) rfl ?_
  refine v_run 2 (pc' := 60) (ls' := [some (.ref (ad b2)), some (.ref (ad b1))]) (st' := [.ref (ad b2), .int (zI 0), .ref (Rm ad b1 5)]) rfl ?_
  refine v_get rfl ((hset_ne _ _ (ad_ne hA (by omega))).trans ((hset_ne _ _ (ad_ne hA (by omega))).trans (hset_self _ _ _))) rfl ?_
  refine v_run 2 (pc' := 66) (ls' := [some (.ref (ad b2)), some (.ref (ad b1))]) (st' := [.int (zI 6), .int (zI 0), .ref (Rm ad b2 5), .int (zI 0), .ref (Rm ad b1 5)]) rfl ?_
  refine v_copy rfl rfl (by omega) (Nat.le_of_ble_eq_true rfl) ((hset_ne _ _ (ad_ne hA (by omega))).trans ((hset_ne _ _ (ad_ne hA (by omega))).trans ((hset_ne _ _ (ad_ne hA (by omega))).trans ((hset_ne _ _ (ad_ne hA (by omega))).trans ((hset_ne _ _ (ad_ne hA (by omega))).trans c1.2.2.2.1))))) ((hset_ne _ _ (ad_ne hA (by omega))).trans ((hset_ne _ _ (ad_ne hA (by omega))).trans ((hset_ne _ _ (ad_ne hA (by omega))).trans ((hset_ne _ _ (ad_ne hA (by omega))).trans ((hset_ne _ _ (ad_ne hA (by omega))).trans c2.2.2.2.1))))) (by decide +kernel) (by decide +kernel) (by decide +kernel) (by decide +kernel) (by decide +kernel) ?_
  rw [cpy6 (fun m hm => by rw [hz o1 h1 5 m (by omega), hz o2 h2 5 m (by omega)])]
  refine v_run 1 (pc' := 70) (ls' := [some (.ref (ad b2)), some (.ref (ad b1))]) (st' := [.ref (ad b1)]) rfl ?_
  refine v_get rfl ((hset_ne _ _ (ad_ne hA (by omega))).trans ((hset_ne _ _ (ad_ne hA (by omega))).trans ((hset_ne _ _ (ad_ne hA (by omega))).trans ((hset_ne _ _ (ad_ne hA (by omega))).trans ((hset_ne _ _ (ad_ne hA (by omega))).trans ((hset_ne _ _ (ad_ne hA (by omega))).trans c1.1)))))) rfl ?_
  refine v_run 2 (pc' := 75) (ls' := [some (.ref (ad b2)), some (.ref (ad b1))]) (st' := [.ref (ad b2), .int (zI 0), .ref (Rm ad b1 6)]) rfl ?_
  refine v_get rfl ((hset_ne _ _ (ad_ne hA (by omega))).trans ((hset_ne _ _ (ad_ne hA (by omega))).trans ((hset_ne _ _ (ad_ne hA (by omega))).trans (hset_self _ _ _)))) rfl ?_
  refine v_run 2 (pc' := 81) (ls' := [some (.ref (ad b2)), some (.ref (ad b1))]) (st' := [.int (zI 41), .int (zI 0), .ref (Rm ad b2 6), .int (zI 0), .ref (Rm ad b1 6)]) rfl ?_
  refine v_copy rfl rfl (by omega) (Nat.le_of_ble_eq_true rfl) ((hset_ne _ _ (ad_ne hA (by omega))).trans ((hset_ne _ _ (ad_ne hA (by omega))).trans ((hset_ne _ _ (ad_ne hA (by omega))).trans ((hset_ne _ _ (ad_ne hA (by omega))).trans ((hset_ne _ _ (ad_ne hA (by omega))).trans ((hset_ne _ _ (ad_ne hA (by omega))).trans c1.2.2.2.2)))))) ((hset_ne _ _ (ad_ne hA (by omega))).trans ((hset_ne _ _ (ad_ne hA (by omega))).trans ((hset_ne _ _ (ad_ne hA (by omega))).trans ((hset_ne _ _ (ad_ne hA (by omega))).trans ((hset_ne _ _ (ad_ne hA (by omega))).trans ((hset_ne _ _ (ad_ne hA (by omega))).trans c2.2.2.2.2)))))) (by decide +kernel) (by decide +kernel) (by decide +kernel) (by decide +kernel) (by decide +kernel) ?_
  rw [cpy41 (fun m hm => by rw [hz o1 h1 6 m (by omega), hz o2 h2 6 m (by omega)])]
  refine v_vret rfl rfl ⟨rfl, ⟨((hset_ne _ _ (ad_ne hA (by omega))).trans ((hset_ne _ _ (ad_ne hA (by omega))).trans ((hset_ne _ _ (ad_ne hA (by omega))).trans ((hset_ne _ _ (ad_ne hA (by omega))).trans (hset_self _ _ _))))), ((hset_ne _ _ (ad_ne hA (by omega))).trans ((hset_ne _ _ (ad_ne hA (by omega))).trans ((hset_ne _ _ (ad_ne hA (by omega))).trans (hset_self _ _ _)))), ((hset_ne _ _ (ad_ne hA (by omega))).trans ((hset_ne _ _ (ad_ne hA (by omega))).trans (hset_self _ _ _))), ((hset_ne _ _ (ad_ne hA (by omega))).trans (hset_self _ _ _)), (hset_self _ _ _)⟩, ?_⟩
  intro b hb
  exact ((hset_ne _ _ (hb _ (by omega) (by omega))).trans ((hset_ne _ _ (hb _ (by omega) (by omega))).trans ((hset_ne _ _ (hb _ (by omega) (by omega))).trans ((hset_ne _ _ (hb _ (by omega) (by omega))).trans ((hset_ne _ _ (hb _ (by omega) (by omega))).trans ((hset_ne _ _ (hb _ (by omega) (by omega))).trans (hset_ne _ _ (hb _ (by omega) (by omega)))))))))

