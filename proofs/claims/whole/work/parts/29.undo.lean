section AAL
variable {G : ssG} {M : ssM} {D mc ms : Nat} {Q : Option Value → ssH → Prop} {pc : Nat} {ls : List (Option Value)} {st : List Value} {h : ssH} {r0 : List Nat} {v0 : Value}
theorem v_aaload' {a n : Nat} {f : Nat → Nat} {x : Int32} (hl : ssLk M pc = some (.aaload, 1, r0, v0)) (he : h a = some (refs n f)) (i : Nat) (hx : x = zI (i : Int)) (hi : i < n) (kk : ssV G M D mc ms Q (pc + 1) ls (.ref (f i) :: st) h) (hn : n < 2147483648 := by decide) : ssV G M D mc ms Q pc ls (.int x :: .ref a :: st) h := by
  refine v_aaload hl he (by rw [hx]; exact zI_in hi hn) ?_
  rw [hx, zI_clamp (by omega), refs_at hi]
  exact kk
end AAL
def sKeep (σ : sT) : sT := sUn (sCp σ 3 (10 + σ 4 1 0)) (min (σ 4 0 0 + 1) 16) ((σ 4 1 0 + 1) % 16)
def sRest (σ : sT) : sT := sCp (sUn σ (σ 4 0 0 - 1) ((σ 4 1 0 + 15) % 16)) (10 + (σ 4 1 0 + 15) % 16) 3
theorem sUn_z {σ : sT} {c n : Nat} (hz : sZ σ) : sZ (sUn σ c n) := fun o ho k m hk => by
  simp only [sUn]
  rw [if_neg (by omega), if_neg (by omega)]
  exact hz o ho k m hk
set_option maxRecDepth 100000 in
set_option maxHeartbeats 400000 in
theorem k_clear (G : ssG) (h : ssH) {ad : Nat → Nat} {pl : Nat} {σ : sT} (hA : ∀ k l, ad k = ad l → k = l) (hc : CW0 h ad pl σ) (hok : sOk σ) (hz : sZ σ) (hu : σ 4 1 0 < 16 ∧ σ 4 0 0 ≤ 16)  : ssC G mX7_clear 0 0 0 [.ref (ad 38)] h (cRV ad pl (sUn σ 0 0) h) := by
  refine c_of_v okX7_clear (by decide +kernel) (ls := [some (.ref (ad 38))]) rfl (Nat.le_of_ble_eq_true rfl) ?_
  obtain ⟨i0, i1, i2, i3, i5, i7, a4, a6, a8, a9, a10, i11, i12, i14, i15⟩ := id hok.1
  obtain ⟨j0, j1, j2, b3, b4, b5, b6⟩ := id (hok.2.2 3 (by decide))
  have i13 := hok.2.1
  have hpl := hc.1
  simp only [fI] at i0 i1 i2 i3 i5 i7 i11 i12 i14 i15 j0 j1 j2
  refine v_run 2 (pc' := 2) (ls' := [some (.ref (ad 38))]) (st' := [.int (zI 0), .ref (ad 38)]) rfl ?_
  refine v_put rfl hc.2.2.2.2.2.1.1 rfl rfl (Nat.le_of_ble_eq_true rfl) ?_
  refine v_run 2 (pc' := 7) (ls' := [some (.ref (ad 38))]) (st' := [.int (zI 0), .ref (ad 38)]) rfl ?_
  refine v_put rfl (hset_self _ _ _) rfl rfl (Nat.le_of_ble_eq_true rfl) ?_
  rw [hset_hset]
  exact v_vret rfl rfl ⟨rfl, hc.un hA 0 0, (frP.rf ad pl h).set hA hc.1 (by omega) _⟩

set_option maxRecDepth 100000 in
set_option maxHeartbeats 400000 in
theorem k_keep (G : ssG) (h : ssH) {ad : Nat → Nat} {pl : Nat} {σ : sT} (hA : ∀ k l, ad k = ad l → k = l) (hc : CW0 h ad pl σ) (hok : sOk σ) (hz : sZ σ) (hu : σ 4 1 0 < 16 ∧ σ 4 0 0 ≤ 16)  : ssC G mX7_keep 2 0 0 [.ref (ad 38), .ref (ad 33)] h (cRV ad pl (sKeep σ) h) := by
  refine c_of_v okX7_keep (by decide +kernel) (ls := [some (.ref (ad 38)), some (.ref (ad 33))]) rfl (Nat.le_of_ble_eq_true rfl) ?_
  obtain ⟨i0, i1, i2, i3, i5, i7, a4, a6, a8, a9, a10, i11, i12, i14, i15⟩ := id hok.1
  obtain ⟨j0, j1, j2, b3, b4, b5, b6⟩ := id (hok.2.2 3 (by decide))
  have i13 := hok.2.1
  have hpl := hc.1
  simp only [fI] at i0 i1 i2 i3 i5 i7 i11 i12 i14 i15 j0 j1 j2
  refine v_run 1 (pc' := 1) (ls' := [some (.ref (ad 38)), some (.ref (ad 33))]) (st' := [.ref (ad 38)]) rfl ?_
  refine v_get rfl hc.2.2.2.2.2.1.1 rfl ?_
  refine v_run 1 (pc' := 5) (ls' := [some (.ref (ad 38)), some (.ref (ad 33))]) (st' := [.ref (ad 38), .ref (ad 39)]) rfl ?_
  refine v_get rfl hc.2.2.2.2.2.1.1 rfl ?_
  refine v_aaload' rfl hc.2.2.2.2.2.1.2.1 (i := σ 4 1 0) rfl (by omega) ?_
  refine v_run 1 (pc' := 10) (ls' := [some (.ref (ad 38)), some (.ref (ad 33))]) (st' := [.ref (ad 33), .ref (ad (40 + 5 * σ 4 1 0))]) rfl ?_
  refine v_callV (My := mX2_copyFrom) (As := [.ref (ad 33)]) (rest := []) (mc := 0) (ms := 0) rfl caX2_copyFrom rfl rfl rfl (hc.2.2.2.2.2.1.2.2 (σ 4 1 0) hu.1).1 rfl rfl (k_copyFrom G _ hA hc.2.2.2.2.1 (hc.2.2.2.2.2.1.2.2 (σ 4 1 0) hu.1) (by omega) hz (by decide) (by omega)) rfl rfl (Nat.le_of_ble_eq_true rfl) (by omega) ?_
  rintro _ h1 ⟨rfl, hm1, hf1⟩
  have hmo : isMo (40 + 5 * σ 4 1 0) (10 + σ 4 1 0) := Or.inr (Or.inl ⟨_, hu.1, rfl, rfl⟩)
  have hc1 : CW0 h1 ad pl (sCp σ 3 (10 + σ 4 1 0)) := hc.mv hA hmo (fun q hq => sCp_ne σ hq) (by unfold CMom fI; rw [sCp_self]; exact hm1) hf1
  have hfr1 : frP ad pl h h1 := (frP.rf ad pl h).mo hA hc.1 hmo hf1
  have hU1 := (hf1 (ad 38) (fun k _ _ => ad_ne hA (by omega))).trans hc.2.2.2.2.2.1.1
  refine v_run 0 (pc' := 13) (ls' := [some (.ref (ad 38)), some (.ref (ad 33))]) (st' := []) rfl ?_
  refine v_run 2 (pc' := 15) (ls' := [some (.ref (ad 38)), some (.ref (ad 33))]) (st' := [.ref (ad 38), .ref (ad 38)]) rfl ?_
  refine v_get rfl hU1 rfl ?_
  refine v_run 3 (pc' := 22) (ls' := [some (.ref (ad 38)), some (.ref (ad 33))]) (st' := [.int (zI 16), .int ((zI ↑(σ 4 1 0)) + (zI 1)), .ref (ad 38)]) rfl ?_
  refine v_irem rfl (zI_ne0 (by decide) (by decide)) ?_
  rw [show ((((zI ↑(σ 4 1 0)) + (zI 1)) - ((zI ↑(σ 4 1 0)) + (zI 1)) / zI 16 * zI 16) : Int32) = zI ↑((σ 4 1 0 + 1) % 16) from by rw [zI_s1, show zI 16 = zI ((16 : Nat) : Int) from rfl, zN_rem (by omega) (by omega) (by omega)]]
  refine v_put rfl hU1 rfl rfl (Nat.le_of_ble_eq_true rfl) ?_
  refine v_run 2 (pc' := 28) (ls' := [some (.ref (ad 38)), some (.ref (ad 33))]) (st' := [.ref (ad 38), .ref (ad 38)]) rfl ?_
  refine v_get rfl (hset_self _ _ _) rfl ?_
  refine v_run 3 (pc' := 35) (ls' := [some (.ref (ad 38)), some (.ref (ad 33))]) (st' := [.int (zI 16), .int ((zI ↑(σ 4 0 0)) + (zI 1)), .ref (ad 38)]) rfl ?_
  refine v_min rfl rfl (by omega) (Nat.le_of_ble_eq_true rfl) ?_
  rw [show ((if (zI 16) < ((zI ↑(σ 4 0 0)) + (zI 1)) then (zI 16) else ((zI ↑(σ 4 0 0)) + (zI 1))) : Int32) = zI ↑(min (σ 4 0 0 + 1) 16) from (by rw [zI_s1]; exact mn_z (a := σ 4 0 0 + 1) (b := 16) (by omega) (by omega))]
  refine v_put rfl (hset_self _ _ _) rfl rfl (Nat.le_of_ble_eq_true rfl) ?_
  rw [hset_hset]
  exact v_vret rfl rfl ⟨rfl, hc1.un hA (min (σ 4 0 0 + 1) 16) ((σ 4 1 0 + 1) % 16), hfr1.set hA hc.1 (by omega) _⟩

set_option maxRecDepth 100000 in
set_option maxHeartbeats 400000 in
theorem k_restore (G : ssG) (h : ssH) {ad : Nat → Nat} {pl : Nat} {σ : sT} (hA : ∀ k l, ad k = ad l → k = l) (hc : CW0 h ad pl σ) (hok : sOk σ) (hz : sZ σ) (hu : σ 4 1 0 < 16 ∧ σ 4 0 0 ≤ 16) (hcn : 0 < σ 4 0 0) : ssC G mX7_restore 2 0 0 [.ref (ad 38), .ref (ad 33)] h (cRV ad pl (sRest σ) h) := by
  refine c_of_v okX7_restore (by decide +kernel) (ls := [some (.ref (ad 38)), some (.ref (ad 33))]) rfl (Nat.le_of_ble_eq_true rfl) ?_
  obtain ⟨i0, i1, i2, i3, i5, i7, a4, a6, a8, a9, a10, i11, i12, i14, i15⟩ := id hok.1
  obtain ⟨j0, j1, j2, b3, b4, b5, b6⟩ := id (hok.2.2 3 (by decide))
  have i13 := hok.2.1
  have hpl := hc.1
  simp only [fI] at i0 i1 i2 i3 i5 i7 i11 i12 i14 i15 j0 j1 j2
  refine v_run 2 (pc' := 2) (ls' := [some (.ref (ad 38)), some (.ref (ad 33))]) (st' := [.ref (ad 38), .ref (ad 38)]) rfl ?_
  refine v_get rfl hc.2.2.2.2.2.1.1 rfl ?_
  refine v_run 5 (pc' := 12) (ls' := [some (.ref (ad 38)), some (.ref (ad 33))]) (st' := [.int (zI 16), .int (((zI ↑(σ 4 1 0)) + (zI 16)) - (zI 1)), .ref (ad 38)]) rfl ?_
  refine v_irem rfl (zI_ne0 (by decide) (by decide)) ?_
  rw [show (((((zI ↑(σ 4 1 0)) + (zI 16)) - (zI 1)) - (((zI ↑(σ 4 1 0)) + (zI 16)) - (zI 1)) / zI 16 * zI 16) : Int32) = zI ↑((σ 4 1 0 + 15) % 16) from by rw [show zI 16 = zI ((16 : Nat) : Int) from rfl, zN_add, zI_sub, show ((↑(σ 4 1 0 + 16) : Int) - 1) = ↑(σ 4 1 0 + 15) by omega, zN_rem (by omega) (by omega) (by omega)]]
  refine v_put rfl hc.2.2.2.2.2.1.1 rfl rfl (Nat.le_of_ble_eq_true rfl) ?_
  refine v_run 2 (pc' := 18) (ls' := [some (.ref (ad 38)), some (.ref (ad 33))]) (st' := [.ref (ad 38), .ref (ad 38)]) rfl ?_
  refine v_get rfl (hset_self _ _ _) rfl ?_
  refine v_run 2 (pc' := 23) (ls' := [some (.ref (ad 38)), some (.ref (ad 33))]) (st' := [.int ((zI ↑(σ 4 0 0)) - (zI 1)), .ref (ad 38)]) rfl ?_
  rw [show ((zI ↑(σ 4 0 0)) - (zI 1) : Int32) = zI ↑(σ 4 0 0 - 1) from by rw [zI_sub]; congr 1; omega]
  refine v_put rfl (hset_self _ _ _) rfl rfl (Nat.le_of_ble_eq_true rfl) ?_
  rw [hset_hset]
  generalize he1 : hset h (ad 38) _ = h1
  have hc1 : CW0 h1 ad pl (sUn σ (σ 4 0 0 - 1) ((σ 4 1 0 + 15) % 16)) := he1 ▸ hc.un hA (σ 4 0 0 - 1) ((σ 4 1 0 + 15) % 16)
  have hf1 : frP ad pl h h1 := he1 ▸ (frP.rf ad pl h).set hA hc.1 (by omega) _
  have hU1 : h1 (ad 38) = some (.inr (7, [.int (zI ↑(σ 4 0 0 - 1)), .int (zI ↑((σ 4 1 0 + 15) % 16)), .ref (ad 39)])) := he1 ▸ hset_self _ _ _
  refine v_run 2 (pc' := 28) (ls' := [some (.ref (ad 38)), some (.ref (ad 33))]) (st' := [.ref (ad 38), .ref (ad 33)]) rfl ?_
  refine v_get rfl hU1 rfl ?_
  refine v_run 1 (pc' := 32) (ls' := [some (.ref (ad 38)), some (.ref (ad 33))]) (st' := [.ref (ad 38), .ref (ad 39), .ref (ad 33)]) rfl ?_
  refine v_get rfl hU1 rfl ?_
  refine v_aaload' rfl hc1.2.2.2.2.2.1.2.1 (i := (σ 4 1 0 + 15) % 16) rfl (by omega) ?_
  refine v_callV (My := mX2_copyFrom) (As := [.ref (ad (40 + 5 * ((σ 4 1 0 + 15) % 16)))]) (rest := []) (mc := 0) (ms := 0) rfl caX2_copyFrom rfl rfl rfl hc1.2.2.2.2.1.1 rfl rfl (k_copyFrom G _ hA (hc1.2.2.2.2.2.1.2.2 ((σ 4 1 0 + 15) % 16) (by omega)) hc1.2.2.2.2.1 (by omega) (sUn_z hz) (by omega) (by decide)) rfl rfl (Nat.le_of_ble_eq_true rfl) (by omega) ?_
  rintro _ h2 ⟨rfl, hm2, hf2⟩
  have hmo : isMo 33 3 := Or.inl ⟨rfl, rfl⟩
  have hc2 : CW0 h2 ad pl (sCp (sUn σ (σ 4 0 0 - 1) ((σ 4 1 0 + 15) % 16)) (10 + ((σ 4 1 0 + 15) % 16)) 3) := hc1.mv hA hmo (fun q hq => sCp_ne _ hq) (by unfold CMom fI; rw [sCp_self]; exact hm2) hf2
  have hfr2 : frP ad pl h h2 := hf1.mo hA hc.1 hmo hf2
  refine v_run 0 (pc' := 39) (ls' := [some (.ref (ad 38)), some (.ref (ad 33))]) (st' := []) rfl ?_
  exact v_vret rfl rfl ⟨rfl, hc2, hfr2⟩

