def eZ (E : pE) : pE := (0, E.2)
def s4 (σ τ : sT) : sT := tU (tU σ 0 7 0 (τ 5 1 0)) 0 8 0 (τ 5 2 0)
def sSf (σ τ : sT) : sT := sTr (tU (sUn (sN3 (xch (s4 σ τ) τ)) 0 0) 0 5 0 0) 0
def KsP (ad : Nat → Nat) (pl po : Nat) (σ : sT) (E : pE) (h : ssH) : pR zT → Option Value → ssH → Prop
  | .inl e, r, h' => r = some (.int (zI (-1))) ∧ ∃ E' τ' j, PW h' ad po E' τ' j ∧ TOk τ' ∧ eL E' = 0 ∧ eB E' = eB E ∧ τ' 5 1 0 = e.1 ∧ τ' 5 2 0 = e.2 ∧ CW0 h' ad pl (sTr (s4 σ τ') 4) ∧ fr200 ad h h'
  | .inr ζ, r, h' => r = some (.int (zI ↑(ζ 5 0))) ∧ ∃ E' τ' j, PW h' ad pl E' (xch τ' (s4 σ τ')) j ∧ TOk τ' ∧ CR τ' ζ ∧ zOk ζ ∧ ¬ ζ 5 0 = 0 ∧ eL E' = 0 ∧ eB E' = eB E ∧ CW0 h' ad po (sSf σ τ') ∧ fr200 ad h h'
def KsA (ad : Nat → Nat) (pl po : Nat) (σ : sT) (E : pE) (h : ssH) (N : Nat) (n : Int) : Option Value → ssH → Prop := if n < 0 ∨ ↑N < n then cR ad pl (sTr σ 2) h (.int (zI (-1))) else KsP ad pl po σ E h (parse (eB E) n.toNat 901 z00 0)
section SFG
variable {h h' : ssH} {ad : Nat → Nat} {pl po i : Nat} {σ σ' τ : sT} {E : pE}
theorem PW.z (hA : ∀ k l, ad k = ad l → k = l) (hp : po = 11 ∨ po = 22) (hw : PW h ad po E τ i) : PW (hset h (ad 2) (.inr (5, obE ad (eZ E) i))) ad po (eZ E) τ i := by
  obtain ⟨p1, p2, ⟨a3, a4, a5, a6, a7⟩, ⟨b8, b9, b10⟩, p5, p6⟩ := hw
  exact ⟨(hset_ne _ _ (ad_ne hA (by omega))).trans p1, hset_self _ _ _, ⟨(hset_ne _ _ (ad_ne hA (by omega))).trans a3, (hset_ne _ _ (ad_ne hA (by omega))).trans a4, (hset_ne _ _ (ad_ne hA (by omega))).trans a5, (hset_ne _ _ (ad_ne hA (by omega))).trans a6, (hset_ne _ _ (ad_ne hA (by omega))).trans a7⟩, ⟨(hset_ne _ _ (ad_ne hA (by omega))).trans b8, (hset_ne _ _ (ad_ne hA (by omega))).trans b9, (hset_ne _ _ (ad_ne hA (by omega))).trans b10⟩, p5.fr hA (by omega), p6.fr hA (by omega)⟩
theorem sN3_CW (hA : ∀ k l, ad k = ad l → k = l) (hc : CW0 h ad pl σ) (hm : MomAt h' (ad 33) (fI σ 2) (Rm ad 33) (σ 2)) (hf : ∀ b, (∀ k, 33 ≤ k → k < 33 + 5 → b ≠ ad k) → h' b = h b) : CW0 h' ad pl (sN3 σ) := by
  obtain ⟨c0, c1, c2, c3, c4, c5, c6, c7, c8, c9⟩ := hc
  have hk : ∀ k, k < 33 ∨ 38 ≤ k → h' (ad k) = h (ad k) := fun k hk => hf _ (fun q _ _ => ad_ne hA (by omega))
  exact ⟨c0, (hk 0 (by omega)).trans c1, (CPlan.cg (σ := σ) (σ' := sN3 σ) rfl c2).ag (fun k _ _ => hk k (by omega)), (CMom.cg (σ := σ) (σ' := sN3 σ) (o := 2) (o2 := 2) rfl c3).ag (fun k _ _ => hk k (by omega)), hm, (CUndo.cg (σ := σ) (σ' := sN3 σ) rfl (fun m _ => if_neg (by omega)) c5).ag (fun k _ _ => hk k (by omega)), (CImg.cg (σ := σ) (σ' := sN3 σ) (fun m _ => if_neg (by omega)) c6).ag (fun k _ _ => hk k (by omega)), c7.ag (fun k _ _ => hk k (by omega)), c8.ag (fun k _ _ => hk k (by omega)), c9.ag (fun k _ _ => hk k (by omega))⟩
theorem tU0_o {σ : sT} {k v o : Nat} (ho : o ≠ 0) : tU σ 0 k 0 v o = σ o := by
  funext b c
  exact if_neg (fun z => ho z.1)
theorem frH.f2 (f : frH ad po h h') (hp : po = 11 ∨ po = 22) : fr200 ad h h' := fun b hb => f b (fun k _ _ => hb k (by omega)) (fun k _ _ => hb k (by omega))
end SFG
set_option maxRecDepth 100000 in
set_option maxHeartbeats 400000 in
theorem k_safe (G : ssG) (h : ssH) {ad : Nat → Nat} {pl po i N : Nat} {σ τ : sT} {E : pE} {n : Int} (hA : ∀ k l, ad k = ad l → k = l) (hp : po = 11 ∨ po = 22) (hpl : po + pl = 33) (hc : CW0 h ad pl σ) (hok : sOk σ) (hz : sZ σ) (hu : σ 4 1 0 < 16 ∧ σ 4 0 0 ≤ 16) (hw : PW h ad po E τ i) (ht : TOk τ) (hB : ∀ k, -128 ≤ eB E k ∧ eB E k ≤ 127) (hL : eL E = ↑N) (hN : N ≤ 900) (hn : -2147483648 ≤ n ∧ n < 2147483648) (hk : h (ad 149) = some (arJ 22 kR)) : ssC G mX8_safe 9 0 0 [.ref (ad 0), .int (zI n)] h (KsA ad pl po σ E h N n) := by
  refine c_of_v okX8_safe (by decide +kernel) (ls := [some (.ref (ad 0)), some (.int (zI n)), none]) rfl (Nat.le_of_ble_eq_true rfl) ?_
  refine v_run 2 (pc' := 2) (ls' := [some (.ref (ad 0)), some (.int (zI n)), none]) (st' := [.ref (ad 0), .int (zI n)]) rfl ?_
  refine v_get rfl hc.2.1 rfl ?_
  refine v_run 0 (pc' := 5) (ls' := [some (.ref (ad 0)), some (.int (zI n)), none]) (st' := [.ref (ad 1), .int (zI n)]) rfl ?_
  refine v_get rfl hw.1 rfl ?_
  refine v_run 0 (pc' := 8) (ls' := [some (.ref (ad 0)), some (.int (zI n)), none]) (st' := [.ref (ad 2), .int (zI n)]) rfl ?_
  refine v_get rfl hw.2.1 rfl ?_
  refine v_run 0 (pc' := 11) (ls' := [some (.ref (ad 0)), some (.int (zI n)), none]) (st' := [.int (zI (eL E)), .int (zI n)]) rfl ?_
  rw [hL]
  refine v_callS (My := mX8_outside) (As := [.int (zI n), .int (zI (↑N))]) (rest := []) (mc := 0) (ms := 0) rfl caX8_outside rfl rfl (k_outside G _ n ↑N hn (by omega)) rfl rfl (Nat.le_of_ble_eq_true rfl) (by omega) ?_
  rintro _ _ ⟨rfl, rfl⟩
  refine v_run 0 (pc' := 14) (ls' := [some (.ref (ad 0)), some (.int (zI n)), none]) (st' := [.int (zb (decide (n < 0 ∨ ↑N < n)))]) rfl ?_
  refine v_if_eq rfl (fun c14 => ?_) (fun c14 => ?_)
  · rw [zb_n] at c14
    have hin := of_decide_eq_false c14
    obtain ⟨k, rfl⟩ : ∃ k : Nat, n = ↑k := ⟨n.toNat, by omega⟩
    rw [show KsA ad pl po σ E h N ↑k = _ from if_neg hin, show (↑k : Int).toNat = k by omega]
    refine v_run 1 (pc' := 24) (ls' := [some (.ref (ad 0)), some (.int (zI ↑k)), none]) (st' := [.ref (ad 0)]) rfl ?_
    refine v_get rfl hc.2.1 rfl ?_
    refine v_run 1 (pc' := 28) (ls' := [some (.ref (ad 0)), some (.int (zI ↑k)), none]) (st' := [.int (zI ↑k), .ref (ad 1)]) rfl ?_
    refine v_callV (My := mX3_hear) (As := [.int (zI ↑k)]) (rest := []) (mc := 0) (ms := 0) rfl caX3_hear rfl rfl rfl hw.1 rfl rfl (c_hear G _ hA hp hw ht hB (show k ≤ 900 by omega) hk) rfl rfl (Nat.le_of_ble_eq_true rfl) (by omega) ?_
    rintro rx h1 hq1
    rcases hp1 : parse (eB E) k 901 z00 0 with e | ζ
    · rw [hp1] at hq1
      obtain ⟨rfl, E1, τ1, j, hw1, ht1, f1, f2, eL1, eB1, hf1⟩ := hq1
      have hc1 : CW0 h1 ad pl σ := hc.ag (fun k hk => hf1 (ad k) (fun q _ _ => ad_ne hA (by omega)) (fun q _ _ => ad_ne hA (by omega)))
      have fr1 := hf1.f2 hp
      refine v_run 2 (pc' := 33) (ls' := [some (.ref (ad 0)), some (.int (zI ↑k)), some (.int (zI 0))]) (st' := [.ref (ad 0)]) rfl ?_
      refine v_get rfl hc1.2.1 rfl ?_
      refine v_run 0 (pc' := 36) (ls' := [some (.ref (ad 0)), some (.int (zI ↑k)), some (.int (zI 0))]) (st' := [.ref (ad 1)]) rfl ?_
      refine v_get rfl hw1.1 rfl ?_
      refine v_run 1 (pc' := 40) (ls' := [some (.ref (ad 0)), some (.int (zI ↑k)), some (.int (zI 0))]) (st' := [.int (zI 0), .ref (ad 2)]) rfl ?_
      refine v_put rfl hw1.2.1 rfl rfl (Nat.le_of_ble_eq_true rfl) ?_
      rw [show (obE ad E1 j).set 0 (.int (zI 0)) = obE ad (eZ E1) j from rfl]
      have hw2 := hw1.z hA hp
      have hc2 : CW0 (hset h1 (ad 2) (.inr (5, obE ad (eZ E1) j))) ad pl σ := hc1.ag (fun k hk => hset_ne _ _ (ad_ne hA (by omega)))
      have fr2 := fr1.set (k := 2) (by omega) (.inr (5, obE ad (eZ E1) j))
      generalize e2 : hset h1 (ad 2) _ = h2 at hw2 hc2 fr2 ⊢
      refine v_run 2 (pc' := 45) (ls' := [some (.ref (ad 0)), some (.int (zI ↑k)), some (.int (zI 0))]) (st' := [.ref (ad 0), .ref (ad 0)]) rfl ?_
      refine v_get rfl hc2.2.1 rfl ?_
      refine v_run 0 (pc' := 48) (ls' := [some (.ref (ad 0)), some (.int (zI ↑k)), some (.int (zI 0))]) (st' := [.ref (ad 1), .ref (ad 0)]) rfl ?_
      refine v_get rfl hw2.1 rfl ?_
      refine v_run 0 (pc' := 51) (ls' := [some (.ref (ad 0)), some (.int (zI ↑k)), some (.int (zI 0))]) (st' := [.int (zI ↑(τ1 5 1 0)), .ref (ad 0)]) rfl ?_
      refine v_put rfl hc2.2.1 rfl rfl (Nat.le_of_ble_eq_true rfl) ?_
      rw [show (obX ad pl σ).set 7 (.int (zI ↑(τ1 5 1 0))) = obX ad pl (tU σ 0 7 0 (τ1 5 1 0)) from rfl]
      have hc3 := hc2.x0 (σ' := (tU σ 0 7 0 (τ1 5 1 0))) hA (fun o ho => tU0_o ho)
      have hw3 : PW (hset h2 (ad 0) (.inr (8, obX ad pl (tU σ 0 7 0 (τ1 5 1 0))))) ad po (eZ E1) τ1 j := hw2.ag (fun k hk => hset_ne _ _ (ad_ne hA (by omega)))
      have fr3 := fr2.set (k := 0) (by omega) (.inr (8, obX ad pl (tU σ 0 7 0 (τ1 5 1 0))))
      generalize e3 : hset h2 (ad 0) _ = h3 at hw3 hc3 fr3 ⊢
      refine v_run 2 (pc' := 56) (ls' := [some (.ref (ad 0)), some (.int (zI ↑k)), some (.int (zI 0))]) (st' := [.ref (ad 0), .ref (ad 0)]) rfl ?_
      refine v_get rfl hc3.2.1 rfl ?_
      refine v_run 0 (pc' := 59) (ls' := [some (.ref (ad 0)), some (.int (zI ↑k)), some (.int (zI 0))]) (st' := [.ref (ad 1), .ref (ad 0)]) rfl ?_
      refine v_get rfl hw3.1 rfl ?_
      refine v_run 0 (pc' := 62) (ls' := [some (.ref (ad 0)), some (.int (zI ↑k)), some (.int (zI 0))]) (st' := [.int (zI ↑(τ1 5 2 0)), .ref (ad 0)]) rfl ?_
      refine v_put rfl hc3.2.1 rfl rfl (Nat.le_of_ble_eq_true rfl) ?_
      rw [show (obX ad pl (tU σ 0 7 0 (τ1 5 1 0))).set 8 (.int (zI ↑(τ1 5 2 0))) = obX ad pl (tU (tU σ 0 7 0 (τ1 5 1 0)) 0 8 0 (τ1 5 2 0)) from rfl]
      have hc4 := hc3.x0 (σ' := (tU (tU σ 0 7 0 (τ1 5 1 0)) 0 8 0 (τ1 5 2 0))) hA (fun o ho => tU0_o ho)
      have hw4 : PW (hset h3 (ad 0) (.inr (8, obX ad pl (tU (tU σ 0 7 0 (τ1 5 1 0)) 0 8 0 (τ1 5 2 0))))) ad po (eZ E1) τ1 j := hw3.ag (fun k hk => hset_ne _ _ (ad_ne hA (by omega)))
      have fr4 := fr3.set (k := 0) (by omega) (.inr (8, obX ad pl (tU (tU σ 0 7 0 (τ1 5 1 0)) 0 8 0 (τ1 5 2 0))))
      generalize e4 : hset h3 (ad 0) _ = h4 at hw4 hc4 fr4 ⊢
      have hok4 : sOk (s4 σ τ1) := tU0_ok (tU0_ok hok (by omega)) (by omega)
      have hz4 : sZ (s4 σ τ1) := tU0_z (tU0_z hz (by omega)) (by omega)
      have hc4 : CW0 h4 ad pl (s4 σ τ1) := hc4
      refine v_run 1 (pc' := 66) (ls' := [some (.ref (ad 0)), some (.int (zI ↑k)), some (.int (zI 0))]) (st' := [.int (zI 0)]) rfl ?_
      refine v_if_ne rfl (fun c66 => ?_) (fun c66 => ?_)
      · exact absurd rfl c66
      · refine v_run 2 (pc' := 71) (ls' := [some (.ref (ad 0)), some (.int (zI ↑k)), some (.int (zI 0))]) (st' := [.int (zI 4), .ref (ad 0)]) rfl ?_
        refine v_callV (My := mX8_refuse) (As := [.int (zI 4)]) (rest := []) (mc := 0) (ms := 0) rfl caX8_refuse rfl rfl rfl hc4.2.1 rfl rfl (k_refuse G _ 4 hA hc4 hok4) rfl rfl (Nat.le_of_ble_eq_true rfl) (by omega) ?_
        rintro _ h5 ⟨rfl, hc5, hf5⟩
        refine v_run 0 (pc' := 74) (ls' := [some (.ref (ad 0)), some (.int (zI ↑k)), some (.int (zI 0))]) (st' := [.int (zI (-1))]) rfl ?_
        have hw5 := hw4.ag (h' := h5) (fun k hk => hf5.2 k (by omega))
        exact v_iret rfl rfl rfl ⟨rfl, eZ E1, τ1, j, hw5, ht1, rfl, eB1, f1, f2, hc5, fr4.tr hf5.1⟩
    · rw [hp1] at hq1
      obtain ⟨rfl, E1, τ1, j, hw1, ht1, cr, hzo, h5n, eL1, eB1, hf1⟩ := hq1
      have hc1 : CW0 h1 ad pl σ := hc.ag (fun k hk => hf1 (ad k) (fun q _ _ => ad_ne hA (by omega)) (fun q _ _ => ad_ne hA (by omega)))
      have fr1 := hf1.f2 hp
      refine v_run 2 (pc' := 33) (ls' := [some (.ref (ad 0)), some (.int (zI ↑k)), some (.int (zI 1))]) (st' := [.ref (ad 0)]) rfl ?_
      refine v_get rfl hc1.2.1 rfl ?_
      refine v_run 0 (pc' := 36) (ls' := [some (.ref (ad 0)), some (.int (zI ↑k)), some (.int (zI 1))]) (st' := [.ref (ad 1)]) rfl ?_
      refine v_get rfl hw1.1 rfl ?_
      refine v_run 1 (pc' := 40) (ls' := [some (.ref (ad 0)), some (.int (zI ↑k)), some (.int (zI 1))]) (st' := [.int (zI 0), .ref (ad 2)]) rfl ?_
      refine v_put rfl hw1.2.1 rfl rfl (Nat.le_of_ble_eq_true rfl) ?_
      rw [show (obE ad E1 j).set 0 (.int (zI 0)) = obE ad (eZ E1) j from rfl]
      have hw2 := hw1.z hA hp
      have hc2 : CW0 (hset h1 (ad 2) (.inr (5, obE ad (eZ E1) j))) ad pl σ := hc1.ag (fun k hk => hset_ne _ _ (ad_ne hA (by omega)))
      have fr2 := fr1.set (k := 2) (by omega) (.inr (5, obE ad (eZ E1) j))
      generalize e2 : hset h1 (ad 2) _ = h2 at hw2 hc2 fr2 ⊢
      refine v_run 2 (pc' := 45) (ls' := [some (.ref (ad 0)), some (.int (zI ↑k)), some (.int (zI 1))]) (st' := [.ref (ad 0), .ref (ad 0)]) rfl ?_
      refine v_get rfl hc2.2.1 rfl ?_
      refine v_run 0 (pc' := 48) (ls' := [some (.ref (ad 0)), some (.int (zI ↑k)), some (.int (zI 1))]) (st' := [.ref (ad 1), .ref (ad 0)]) rfl ?_
      refine v_get rfl hw2.1 rfl ?_
      refine v_run 0 (pc' := 51) (ls' := [some (.ref (ad 0)), some (.int (zI ↑k)), some (.int (zI 1))]) (st' := [.int (zI ↑(τ1 5 1 0)), .ref (ad 0)]) rfl ?_
      refine v_put rfl hc2.2.1 rfl rfl (Nat.le_of_ble_eq_true rfl) ?_
      rw [show (obX ad pl σ).set 7 (.int (zI ↑(τ1 5 1 0))) = obX ad pl (tU σ 0 7 0 (τ1 5 1 0)) from rfl]
      have hc3 := hc2.x0 (σ' := (tU σ 0 7 0 (τ1 5 1 0))) hA (fun o ho => tU0_o ho)
      have hw3 : PW (hset h2 (ad 0) (.inr (8, obX ad pl (tU σ 0 7 0 (τ1 5 1 0))))) ad po (eZ E1) τ1 j := hw2.ag (fun k hk => hset_ne _ _ (ad_ne hA (by omega)))
      have fr3 := fr2.set (k := 0) (by omega) (.inr (8, obX ad pl (tU σ 0 7 0 (τ1 5 1 0))))
      generalize e3 : hset h2 (ad 0) _ = h3 at hw3 hc3 fr3 ⊢
      refine v_run 2 (pc' := 56) (ls' := [some (.ref (ad 0)), some (.int (zI ↑k)), some (.int (zI 1))]) (st' := [.ref (ad 0), .ref (ad 0)]) rfl ?_
      refine v_get rfl hc3.2.1 rfl ?_
      refine v_run 0 (pc' := 59) (ls' := [some (.ref (ad 0)), some (.int (zI ↑k)), some (.int (zI 1))]) (st' := [.ref (ad 1), .ref (ad 0)]) rfl ?_
      refine v_get rfl hw3.1 rfl ?_
      refine v_run 0 (pc' := 62) (ls' := [some (.ref (ad 0)), some (.int (zI ↑k)), some (.int (zI 1))]) (st' := [.int (zI ↑(τ1 5 2 0)), .ref (ad 0)]) rfl ?_
      refine v_put rfl hc3.2.1 rfl rfl (Nat.le_of_ble_eq_true rfl) ?_
      rw [show (obX ad pl (tU σ 0 7 0 (τ1 5 1 0))).set 8 (.int (zI ↑(τ1 5 2 0))) = obX ad pl (tU (tU σ 0 7 0 (τ1 5 1 0)) 0 8 0 (τ1 5 2 0)) from rfl]
      have hc4 := hc3.x0 (σ' := (tU (tU σ 0 7 0 (τ1 5 1 0)) 0 8 0 (τ1 5 2 0))) hA (fun o ho => tU0_o ho)
      have hw4 : PW (hset h3 (ad 0) (.inr (8, obX ad pl (tU (tU σ 0 7 0 (τ1 5 1 0)) 0 8 0 (τ1 5 2 0))))) ad po (eZ E1) τ1 j := hw3.ag (fun k hk => hset_ne _ _ (ad_ne hA (by omega)))
      have fr4 := fr3.set (k := 0) (by omega) (.inr (8, obX ad pl (tU (tU σ 0 7 0 (τ1 5 1 0)) 0 8 0 (τ1 5 2 0))))
      generalize e4 : hset h3 (ad 0) _ = h4 at hw4 hc4 fr4 ⊢
      have hok4 : sOk (s4 σ τ1) := tU0_ok (tU0_ok hok (by omega)) (by omega)
      have hz4 : sZ (s4 σ τ1) := tU0_z (tU0_z hz (by omega)) (by omega)
      have hc4 : CW0 h4 ad pl (s4 σ τ1) := hc4
      refine v_run 1 (pc' := 66) (ls' := [some (.ref (ad 0)), some (.int (zI ↑k)), some (.int (zI 1))]) (st' := [.int (zI 1)]) rfl ?_
      refine v_if_ne rfl (fun c66 => ?_) (fun c66 => ?_)
      · refine v_run 2 (pc' := 77) (ls' := [some (.ref (ad 0)), some (.int (zI ↑k)), some (.int (zI 1))]) (st' := [.ref (ad 0), .ref (ad 0)]) rfl ?_
        refine v_get rfl hc4.2.1 rfl ?_
        refine v_run 1 (pc' := 81) (ls' := [some (.ref (ad 0)), some (.int (zI ↑k)), some (.int (zI 1))]) (st' := [.ref (ad 0), .ref (ad 1), .ref (ad 0)]) rfl ?_
        refine v_get rfl hc4.2.1 rfl ?_
        refine v_run 0 (pc' := 84) (ls' := [some (.ref (ad 0)), some (.int (zI ↑k)), some (.int (zI 1))]) (st' := [.ref (ad pl), .ref (ad 1), .ref (ad 0)]) rfl ?_
        refine v_callV (My := mX3_exchange) (As := [.ref (ad pl)]) (rest := [.ref (ad 0)]) (mc := 0) (ms := 0) rfl caX3_exchange rfl rfl rfl hw4.1 rfl rfl (c_exch G _ (pl := pl) hw4.1) rfl rfl (Nat.le_of_ble_eq_true rfl) (by omega) ?_
        rintro _ _ ⟨rfl, rfl⟩
        refine v_run 0 (pc' := 87) (ls' := [some (.ref (ad 0)), some (.int (zI ↑k)), some (.int (zI 1))]) (st' := [.ref (ad po), .ref (ad 0)]) rfl ?_
        refine v_put rfl ((hset_ne _ _ (ad_ne hA (by decide))).trans hc4.2.1) rfl rfl (Nat.le_of_ble_eq_true rfl) ?_
        rw [show (obX ad pl (s4 σ τ1)).set 1 (.ref (ad po)) = obX ad po (xch (s4 σ τ1) τ1) from rfl]
        have hc5 := xch_CW hA hc4 hw4 hpl
        have hw5 := xch_PW hA hc4 hw4 (.inr (8, obX ad po (xch (s4 σ τ1) τ1)))
        have fr5 := (fr4.set (k := 1) (by omega) (.inr (3, obP ad pl τ1))).set (k := 0) (by omega) (.inr (8, obX ad po (xch (s4 σ τ1) τ1)))
        generalize e5 : hset (hset h4 (ad 1) _) (ad 0) _ = h5 at hw5 hc5 fr5 ⊢
        have hok5 := xch_ok hok4 ht1
        have hz5 := xch_z hz4 ht1
        have hpl2 : pl = 11 ∨ pl = 22 := by omega
        refine v_run 1 (pc' := 91) (ls' := [some (.ref (ad 0)), some (.int (zI ↑k)), some (.int (zI 1))]) (st' := [.ref (ad 0)]) rfl ?_
        refine v_get rfl hc5.2.1 rfl ?_
        refine v_run 1 (pc' := 95) (ls' := [some (.ref (ad 0)), some (.int (zI ↑k)), some (.int (zI 1))]) (st' := [.ref (ad 0), .ref (ad 33)]) rfl ?_
        refine v_get rfl hc5.2.1 rfl ?_
        refine v_run 0 (pc' := 98) (ls' := [some (.ref (ad 0)), some (.int (zI ↑k)), some (.int (zI 1))]) (st' := [.ref (ad po), .ref (ad 33)]) rfl ?_
        refine v_get rfl hc5.2.2.1.1 rfl ?_
        refine v_run 0 (pc' := 101) (ls' := [some (.ref (ad 0)), some (.int (zI ↑k)), some (.int (zI 1))]) (st' := [.ref (ad (po + 6)), .ref (ad 33)]) rfl ?_
        refine v_callV (My := mX2_copyFrom) (As := [.ref (ad (po + 6))]) (rest := []) (mc := 0) (ms := 0) rfl caX2_copyFrom rfl rfl rfl hc5.2.2.2.2.1.1 rfl rfl (k_copyFrom G _ (b1 := po + 6) (b2 := 33) (o1 := 2) (o2 := 3) hA hc5.2.2.2.1 hc5.2.2.2.2.1 (by omega) hz5 (by decide) (by decide)) rfl rfl (Nat.le_of_ble_eq_true rfl) (by omega) ?_
        rintro _ h6 ⟨rfl, hm6, hf6⟩
        refine v_run 0 (pc' := 104) (ls' := [some (.ref (ad 0)), some (.int (zI ↑k)), some (.int (zI 1))]) (st' := []) rfl ?_
        have hc6 := sN3_CW hA hc5 hm6 hf6
        have hw6 := hw5.ag (h' := h6) (fun k hk => hf6 _ (fun q _ _ => ad_ne hA (by omega)))
        have fr6 : fr200 ad h h6 := fun b hb => (hf6 b (fun k _ _ => hb k (by omega))).trans (fr5 b hb)
        refine v_run 1 (pc' := 105) (ls' := [some (.ref (ad 0)), some (.int (zI ↑k)), some (.int (zI 1))]) (st' := [.ref (ad 0)]) rfl ?_
        refine v_get rfl hc6.2.1 rfl ?_
        refine v_run 0 (pc' := 108) (ls' := [some (.ref (ad 0)), some (.int (zI ↑k)), some (.int (zI 1))]) (st' := [.ref (ad 38)]) rfl ?_
        refine v_callV (My := mX7_clear) (As := []) (rest := []) (mc := 0) (ms := 0) rfl caX7_clear rfl rfl rfl hc6.2.2.2.2.2.1.1 rfl rfl (k_clear G _ hA hc6 (sN3_ok hok5) (sN3_z hz5) hu) rfl rfl (Nat.le_of_ble_eq_true rfl) (by omega) ?_
        rintro _ h7 ⟨rfl, hc7, hf7⟩
        refine v_run 0 (pc' := 111) (ls' := [some (.ref (ad 0)), some (.int (zI ↑k)), some (.int (zI 1))]) (st' := []) rfl ?_
        have hw7 := hw6.ag (h' := h7) (fun k hk => hf7.2 k (by omega))
        have fr7 := fr6.tr hf7.1
        refine v_run 2 (pc' := 113) (ls' := [some (.ref (ad 0)), some (.int (zI ↑k)), some (.int (zI 1))]) (st' := [.int (zI 0), .ref (ad 0)]) rfl ?_
        refine v_put rfl hc7.2.1 rfl rfl (Nat.le_of_ble_eq_true rfl) ?_
        rw [show (obX ad po (sUn (sN3 (xch (s4 σ τ1) τ1)) 0 0)).set 5 (.int (zI 0)) = obX ad po (tU (sUn (sN3 (xch (s4 σ τ1) τ1)) 0 0) 0 5 0 0) from rfl]
        have hc8 := hc7.x0 (σ' := tU (sUn (sN3 (xch (s4 σ τ1) τ1)) 0 0) 0 5 0 0) hA (fun o ho => tU0_o ho)
        have hw8 : PW (hset h7 (ad 0) (.inr (8, obX ad po (tU (sUn (sN3 (xch (s4 σ τ1) τ1)) 0 0) 0 5 0 0)))) ad pl (eZ E1) (xch τ1 (s4 σ τ1)) j := hw7.ag (fun k hk => hset_ne _ _ (ad_ne hA (by omega)))
        have fr8 := fr7.set (k := 0) (by omega) (.inr (8, obX ad po (tU (sUn (sN3 (xch (s4 σ τ1) τ1)) 0 0) 0 5 0 0)))
        generalize e8 : hset h7 (ad 0) _ = h8 at hw8 hc8 fr8 ⊢
        have hok8 : sOk (tU (sUn (sN3 (xch (s4 σ τ1) τ1)) 0 0) 0 5 0 0) := tU0_ok (sUn_ok (sN3_ok hok5)) (by omega)
        refine v_run 2 (pc' := 118) (ls' := [some (.ref (ad 0)), some (.int (zI ↑k)), some (.int (zI 1))]) (st' := [.ref (ad 0), .ref (ad 0)]) rfl ?_
        refine v_get rfl hc8.2.1 rfl ?_
        refine v_run 0 (pc' := 121) (ls' := [some (.ref (ad 0)), some (.int (zI ↑k)), some (.int (zI 1))]) (st' := [.ref (ad po), .ref (ad 0)]) rfl ?_
        refine v_get rfl hc8.2.2.1.1 rfl ?_
        refine v_run 0 (pc' := 124) (ls' := [some (.ref (ad 0)), some (.int (zI ↑k)), some (.int (zI 1))]) (st' := [.int (zI ↑(τ1 1 5 0)), .ref (ad 0)]) rfl ?_
        refine v_callV (My := mX8_grant) (As := [.int (zI ↑(τ1 1 5 0))]) (rest := []) (mc := 0) (ms := 0) rfl caX8_grant rfl rfl rfl hc8.2.1 rfl rfl (k_grant G _ (zI ↑(τ1 1 5 0)) hA hc8 hok8) rfl rfl (Nat.le_of_ble_eq_true rfl) (by omega) ?_
        rintro _ h9 ⟨rfl, hc9, hf9⟩
        refine v_run 0 (pc' := 127) (ls' := [some (.ref (ad 0)), some (.int (zI ↑k)), some (.int (zI 1))]) (st' := [.int (zI ↑(τ1 1 5 0))]) rfl ?_
        have hw9 := hw8.ag (h' := h9) (fun k hk => hf9.2 k (by omega))
        exact v_iret rfl rfl rfl ⟨by rw [cr.1.2.1], eZ E1, τ1, j, hw9, ht1, cr, hzo, h5n, rfl, eB1, hc9, fr8.tr hf9.1⟩
      · exact absurd c66 (by decide)
  · rw [zb_n, Bool.not_eq_false] at c14
    have hout := of_decide_eq_true c14
    refine v_run 2 (pc' := 19) (ls' := [some (.ref (ad 0)), some (.int (zI n)), none]) (st' := [.int (zI 2), .ref (ad 0)]) rfl ?_
    refine v_callV (My := mX8_refuse) (As := [.int (zI 2)]) (rest := []) (mc := 0) (ms := 0) rfl caX8_refuse rfl rfl rfl hc.2.1 rfl rfl (k_refuse G _ 2 hA hc hok) rfl rfl (Nat.le_of_ble_eq_true rfl) (by omega) ?_
    rintro _ h1 ⟨rfl, hc1, hf1⟩
    refine v_run 0 (pc' := 22) (ls' := [some (.ref (ad 0)), some (.int (zI n)), none]) (st' := [.int (zI (-1))]) rfl ?_
    rw [show KsA ad pl po σ E h N n = _ from if_pos hout]
    exact v_iret rfl rfl rfl ⟨rfl, hc1, hf1⟩

