def SfP (ad : Nat → Nat) (sv : Value) (m : Nat → Int) (h : ssH) : pR zT → Option Value → ssH → Prop
  | .inl e, r, h' => r = some (.int (zI (-1))) ∧ ∃ rv' m', h' (ad 200) = some (.inr (10, obM ad sv rv' m')) ∧ (m' 0 = 0 ∧ m' 1 = 4 ∧ m' 2 = ↑e.2 ∧ m' 12 = ↑e.1 ∧ m' 6 = 0 ∧ m' 19 = m 19 ∧ m' 20 = m 20) ∧ ∀ b, h b ≠ none → b ≠ ad 200 → h' b = h b
  | .inr ζ, r, h' => r = some (.int (zI ↑(ζ 5 0))) ∧ hzR ζ ∧ ¬ ζ 5 0 = 0 ∧ ∃ (bd : Nat → Nat) (rv' : Value) (m' : Nat → Int) (ρ' : Nat → Nat → Nat), (∀ k l, bd k = bd l → k = l) ∧ (∀ k, k < 210 → h (ad k) ≠ none → bd k = ad k) ∧ MT h' bd rv' m' ζ ρ' ∧ ρ' 2 = mTold ζ ∧ (m' 0 = 0 ∧ m' 1 = 0 ∧ m' 2 = -1 ∧ m' 12 = 0 ∧ m' 6 = 0 ∧ m' 19 = 0 ∧ m' 20 = 0) ∧ ∀ b, h b ≠ none → b ≠ ad 200 → (∀ k, 202 ≤ k ∧ k < 209 → b ≠ ad k) → h' b = h b
def SfA (ad : Nat → Nat) (sv rv : Value) (m : Nat → Int) (B : Nat → Int) (h : ssH) (N : Nat) (n : Int) : Option Value → ssH → Prop := if n < 0 ∨ ↑N < n then (fun r h' => r = some (.int (zI (-1))) ∧ hset h (ad 200) (.inr (10, obM ad sv rv (mT (mU m 0 0) 2))) = h') else SfP ad sv m h (parse B n.toNat 901 z00 0)
theorem zOk.sa {ζ : zT} (hz : zOk ζ) : SaOk ζ := by
  obtain ⟨⟨z0, z1, z2, z3, z4, z5, z6, z7, z8, z9, z11⟩, ⟨r12, r13, r14, r15, r16, r17, r18, r19, r20⟩, _⟩ := hz
  exact ⟨z0, z1, z2, z3, z4, z5, z6, z9, r12, r13, r14, r15, r16, r17, r18, r19, r20⟩
set_option maxRecDepth 100000 in
set_option maxHeartbeats 400000 in
theorem g_safe (G : ssG) (h : ssH) {ad : Nat → Nat} {sv rv : Value} {m : Nat → Int} {B : Nat → Int} {ρ : Nat → Nat → Nat} {N : Nat} {n : Int} (hA : ∀ k l, ad k = ad l → k = l) (hB : ∀ k, -128 ≤ B k ∧ B k ≤ 127) (ho : h (ad 200) = some (.inr (10, obM ad sv rv m))) (hta : h (ad 201) = some (arB 900 B)) (hr : MRow h ad ρ) (hx : XOk (ρ 3)) (hV : ∀ k, 26 ≤ k → ρ 2 k = 0) (h6 : m 6 = ↑N) (hN : N ≤ 900) (hn : -2147483648 ≤ n ∧ n < 2147483648) : ssC G mX10_safe 12 13 125 [.ref (ad 200), .int (zI n)] h (SfA ad sv rv m B h N n) := by
  refine c_of_v okX10_safe (by decide +kernel) (ls := [some (.ref (ad 200)), some (.int (zI n)), none]) rfl (Nat.le_of_ble_eq_true rfl) ?_
  refine v_run 2 (pc' := 2) (ls' := [some (.ref (ad 200)), some (.int (zI n)), none]) (st' := [.int (zI 0), .ref (ad 200)]) rfl ?_
  refine v_put rfl ho rfl rfl (Nat.le_of_ble_eq_true rfl) ?_
  rw [show (obM ad sv rv m).set 0 (.int (zI 0)) = obM ad sv rv (mU m 0 0) from rfl]
  refine v_run 1 (pc' := 6) (ls' := [some (.ref (ad 200)), some (.int (zI n)), none]) (st' := [.int (zI n)]) rfl ?_
  refine v_if_lt rfl (fun c6 => ?_) (fun c6 => ?_)
  · simp (disch := omega) only [zI_lt, zI_le, zI_eq, zI_lt0, zI_le0, zI_0lt, zI_0le, zI_eq0] at c6
    refine v_run 2 (pc' := 19) (ls' := [some (.ref (ad 200)), some (.int (zI n)), none]) (st' := [.int (zI 2), .ref (ad 200)]) rfl ?_
    refine v_callV (My := mX10_refused) (As := [.int (zI 2)]) (rest := []) (mc := 13) (ms := 125) rfl caX10_refused rfl rfl rfl (hset_self _ _ _) rfl rfl (q_refused G _ 2 (hset_self _ _ _)) rfl rfl (Nat.le_of_ble_eq_true rfl) (by omega) ?_
    rintro _ _ ⟨rfl, rfl⟩
    refine v_run 0 (pc' := 22) (ls' := [some (.ref (ad 200)), some (.int (zI n)), none]) (st' := [.int (zI (-1))]) rfl ?_
    rw [show SfA ad sv rv m B h N n = _ from if_pos (Or.inl (by omega))]
    exact v_iret rfl rfl rfl ⟨rfl, by rw [hset_hset]⟩
  · simp (disch := omega) only [zI_lt, zI_le, zI_eq, zI_lt0, zI_le0, zI_0lt, zI_0le, zI_eq0] at c6
    refine v_run 2 (pc' := 11) (ls' := [some (.ref (ad 200)), some (.int (zI n)), none]) (st' := [.ref (ad 200), .int (zI n)]) rfl ?_
    refine v_get rfl (hset_self _ _ _) rfl ?_
    refine v_run 0 (pc' := 14) (ls' := [some (.ref (ad 200)), some (.int (zI n)), none]) (st' := [.int (zI (m 6)), .int (zI n)]) rfl ?_
    rw [h6]
    refine v_icmp_le rfl (fun c14 => ?_) (fun c14 => ?_)
    · simp (disch := omega) only [zI_lt, zI_le, zI_eq, zI_lt0, zI_le0, zI_0lt, zI_0le, zI_eq0] at c14
      obtain ⟨k, rfl⟩ : ∃ k : Nat, n = ↑k := ⟨n.toNat, by omega⟩
      rw [show SfA ad sv rv m B h N ↑k = _ from if_neg (by omega)]
      rw [show (↑k : Int).toNat = k by omega]
      refine v_run 2 (pc' := 25) (ls' := [some (.ref (ad 200)), some (.int (zI ↑k)), none]) (st' := [.int (zI ↑k), .ref (ad 200)]) rfl ?_
      refine v_put rfl (hset_self _ _ _) rfl rfl (Nat.le_of_ble_eq_true rfl) ?_
      rw [show (obM ad sv rv (mU m 0 0)).set 7 (.int (zI ↑k)) = obM ad sv rv (mU (mU m 0 0) 7 ↑k) from rfl]
      rw [hset_hset]
      refine v_run 2 (pc' := 30) (ls' := [some (.ref (ad 200)), some (.int (zI ↑k)), none]) (st' := [.int (zI 0), .ref (ad 200)]) rfl ?_
      refine v_put rfl (hset_self _ _ _) rfl rfl (Nat.le_of_ble_eq_true rfl) ?_
      rw [show (obM ad sv rv (mU (mU m 0 0) 7 ↑k)).set 6 (.int (zI 0)) = obM ad sv rv (mU (mU (mU m 0 0) 7 ↑k) 6 0) from rfl]
      rw [hset_hset]
      refine v_run 2 (pc' := 35) (ls' := [some (.ref (ad 200)), some (.int (zI ↑k)), none]) (st' := [.int (zI 0), .ref (ad 200)]) rfl ?_
      refine v_put rfl (hset_self _ _ _) rfl rfl (Nat.le_of_ble_eq_true rfl) ?_
      rw [show (obM ad sv rv (mU (mU (mU m 0 0) 7 ↑k) 6 0)).set 8 (.int (zI 0)) = obM ad sv rv (mU (mU (mU (mU m 0 0) 7 ↑k) 6 0) 8 0) from rfl]
      rw [hset_hset]
      refine v_run 2 (pc' := 40) (ls' := [some (.ref (ad 200)), some (.int (zI ↑k)), none]) (st' := [.int (zI 0), .ref (ad 200)]) rfl ?_
      refine v_put rfl (hset_self _ _ _) rfl rfl (Nat.le_of_ble_eq_true rfl) ?_
      rw [show (obM ad sv rv (mU (mU (mU (mU m 0 0) 7 ↑k) 6 0) 8 0)).set 12 (.int (zI 0)) = obM ad sv rv (mU (mU (mU (mU (mU m 0 0) 7 ↑k) 6 0) 8 0) 12 0) from rfl]
      rw [hset_hset]
      obtain ⟨M, hM⟩ : ∃ M, M = (mU (mU (mU (mU (mU m 0 0) 7 ↑k) 6 0) 8 0) 12 0) := ⟨_, rfl⟩
      rw [← hM]
      generalize e1 : hset h (ad 200) (.inr (10, obM ad sv rv M)) = h1
      have ho1 : h1 (ad 200) = some (.inr (10, obM ad sv rv M)) := e1 ▸ hset_self _ _ _
      have k1 : ∀ b, b ≠ ad 200 → h1 b = h b := fun b hb => e1 ▸ hset_ne _ _ hb
      refine v_run 1 (pc' := 44) (ls' := [some (.ref (ad 200)), some (.int (zI ↑k)), none]) (st' := [.ref (ad 200)]) rfl ?_
      refine v_new (mc := 12) (ms := 101) (ci := 9) (r := (RX9, TX9, 24)) (fs := [.int (zI 0), .int (zI 0), .int (zI 0), .int (zI 0), .int (zI 0), .int (zI 0), .int (zI 0), .int (zI 0), .int (zI 0), .int (zI 0), .int (zI 0), .int (zI 0), .null, .null, .null, .null, .null, .null, .null, .null, .null, .null, .null, .null]) rfl rfl (fun j hj => ?_) (fun x0 hx0 _ => ?_)
      · rcases (show j = 0 ∨ j = 1 ∨ j = 2 ∨ j = 3 ∨ j = 4 ∨ j = 5 ∨ j = 6 ∨ j = 7 ∨ j = 8 ∨ j = 9 ∨ j = 10 ∨ j = 11 ∨ j = 12 ∨ j = 13 ∨ j = 14 ∨ j = 15 ∨ j = 16 ∨ j = 17 ∨ j = 18 ∨ j = 19 ∨ j = 20 ∨ j = 21 ∨ j = 22 ∨ j = 23 from by have hj : j < 24 := hj; omega) with rfl | rfl | rfl | rfl | rfl | rfl | rfl | rfl | rfl | rfl | rfl | rfl | rfl | rfl | rfl | rfl | rfl | rfl | rfl | rfl | rfl | rfl | rfl | rfl <;> rfl
      · refine v_run 1 (pc' := 48) (ls' := [some (.ref (ad 200)), some (.int (zI ↑k)), none]) (st' := [.ref x0, .ref x0, .ref (ad 200)]) rfl ?_
        refine v_callIN (My := mX9_init) (b := x0) (As := []) (rest := [.ref x0, .ref (ad 200)]) (mc := 0) (ms := 0) rfl caX9_init rfl rfl rfl rfl (g_safeInit G _ (a := x0) (hset_self _ _ _)) rfl rfl (Nat.le_of_ble_eq_true rfl) (by omega) ?_
        rintro _ h3 ⟨rfl, q, hc⟩
        refine v_run 0 (pc' := 51) (ls' := [some (.ref (ad 200)), some (.int (zI ↑k)), none]) (st' := [.ref x0, .ref (ad 200)]) rfl ?_
        have x200 : ad 200 ≠ x0 := fun z => by rw [← z, ho1] at hx0; cases hx0
        have fq : ∀ k, k < 12 → h1 (q k) = none ∧ q k ≠ x0 := fun k hk => by
          obtain ⟨f1, f2, -⟩ := hc.2.1 k hk
          rw [hset_ne _ _ f2] at f1
          exact ⟨f1, f2⟩
        have keep : ∀ b, h1 b ≠ none → b ≠ x0 ∧ (∀ k, k < 12 → b ≠ q k) ∧ h3 b = h1 b := fun b hb => by
          have f1 : b ≠ x0 := fun z => hb (by rw [z]; exact hx0)
          have f2 : ∀ k, k < 12 → b ≠ q k := fun k hk z => hb (by rw [z]; exact (fq k hk).1)
          exact ⟨f1, f2, (hc.2.2.2 b f1 f2).trans (hset_ne _ _ f1)⟩
        obtain ⟨bd, hbi, hbq, hbk⟩ := ad_fresh (h := h1) (q := fun k => if k = 0 then x0 else q (k - 1)) hA 13 (by omega) (fun k hk => by
          by_cases e : k = 0
          · rw [if_pos e]; exact hx0
          · rw [if_neg e]; exact (fq _ (by omega)).1) (fun k l hk hl he => by
          by_cases e : k = 0
          · by_cases g : l = 0
            · omega
            · simp only [if_pos e, if_neg g] at he; exact absurd he.symm (fq _ (by omega)).2
          · by_cases g : l = 0
            · simp only [if_neg e, if_pos g] at he; exact absurd he (fq _ (by omega)).2
            · simp only [if_neg e, if_neg g] at he
              have := hc.2.2.1 _ _ (by omega) (by omega) he
              omega)
        have b230 : bd 230 = x0 := hbq 0 (by omega)
        have b231 : bd 231 = q 0 := hbq 1 (by omega)
        have b232 : bd 232 = q 1 := hbq 2 (by omega)
        have b233 : bd 233 = q 2 := hbq 3 (by omega)
        have b234 : bd 234 = q 3 := hbq 4 (by omega)
        have b235 : bd 235 = q 4 := hbq 5 (by omega)
        have b236 : bd 236 = q 5 := hbq 6 (by omega)
        have b237 : bd 237 = q 6 := hbq 7 (by omega)
        have b238 : bd 238 = q 7 := hbq 8 (by omega)
        have b239 : bd 239 = q 8 := hbq 9 (by omega)
        have b240 : bd 240 = q 9 := hbq 10 (by omega)
        have b241 : bd 241 = q 10 := hbq 11 (by omega)
        have b242 : bd 242 = q 11 := hbq 12 (by omega)
        have e200 : bd 200 = ad 200 := hbk 200 (by omega) (by rw [ho1]; simp)
        obtain ⟨r203, r202, r204, r205, r206, r207, r208⟩ := id hr
        have e201 : bd 201 = ad 201 := hbk 201 (by omega) (by rw [k1 _ (ad_ne hA (by decide)), hta]; simp)
        have e202 : bd 202 = ad 202 := hbk 202 (by omega) (by rw [k1 _ (ad_ne hA (by decide)), r202]; simp)
        have e203 : bd 203 = ad 203 := hbk 203 (by omega) (by rw [k1 _ (ad_ne hA (by decide)), r203]; simp)
        have e204 : bd 204 = ad 204 := hbk 204 (by omega) (by rw [k1 _ (ad_ne hA (by decide)), r204]; simp)
        have e205 : bd 205 = ad 205 := hbk 205 (by omega) (by rw [k1 _ (ad_ne hA (by decide)), r205]; simp)
        have e206 : bd 206 = ad 206 := hbk 206 (by omega) (by rw [k1 _ (ad_ne hA (by decide)), r206]; simp)
        have e207 : bd 207 = ad 207 := hbk 207 (by omega) (by rw [k1 _ (ad_ne hA (by decide)), r207]; simp)
        have e208 : bd 208 = ad 208 := hbk 208 (by omega) (by rw [k1 _ (ad_ne hA (by decide)), r208]; simp)
        have eo : ∀ (rv : Value) (m : Nat → Int), obM ad sv rv m = obM bd sv rv m := fun rv m => by show obM ad sv rv m = [.int (zI (m 0)), .int (zI (m 1)), .int (zI (m 2)), sv, rv, .ref (bd 201), .int (zI (m 6)), .int (zI (m 7)), .int (zI (m 8)), .int (zI (m 9)), .int (zI (m 10)), .int (zI (m 11)), .int (zI (m 12)), .int (zI (m 13)), .long (zL (m 14)), .ref (bd 202), .ref (bd 203), .ref (bd 204), .ref (bd 205), .int (zI (m 19)), .int (zI (m 20)), .ref (bd 206), .int (zI (m 22)), .ref (bd 207), .int (zI (m 24)), .ref (bd 208), .long (zL (m 26)), .long (zL (m 27)), .long (zL (m 28))]; rw [e201, e202, e203, e204, e205, e206, e207, e208]
        have ho3 : h3 (bd 200) = some (.inr (10, obM bd sv rv M)) := by rw [e200, (keep _ (by rw [ho1]; simp)).2.2, ho1, eo]
        rw [← e200, ← b230]
        refine v_run 0 (pc' := 51) (ls' := [some (.ref (bd 200)), some (.int (zI ↑k)), none]) (st' := [.ref (bd 230), .ref (bd 200)]) rfl ?_
        refine v_put rfl ho3 rfl rfl (Nat.le_of_ble_eq_true rfl) ?_
        rw [show (obM bd sv rv M).set 4 (.ref (bd 230)) = obM bd sv (.ref (bd 230)) M from rfl]
        have kp4 : ∀ b, h b ≠ none → b ≠ ad 200 → hset h3 (bd 200) (.inr (10, obM bd sv (.ref (bd 230)) M)) b = h b ∧ ∀ k, 230 ≤ k → k < 243 → b ≠ bd k := fun b hb h2 => by
          obtain ⟨f1, f2, f3⟩ := keep b (by rw [k1 b h2]; exact hb)
          refine ⟨(hset_ne _ _ (by rw [e200]; exact h2)).trans (f3.trans (k1 b h2)), fun k g1 g2 => ?_⟩
          have := hbq (k - 230) (by omega)
          rw [show 230 + (k - 230) = k by omega] at this
          rw [this]
          by_cases e : k - 230 = 0
          · rw [if_pos e]; exact f1
          · rw [if_neg e]; exact f2 _ (by omega)
        have hrd : RdAt (hset h3 (bd 200) (.inr (10, obM bd sv (.ref (bd 230)) M))) bd z00 := by
          have c0 : h3 (bd 230) = some (.inr (9, obS bd 230 z00)) := by
            rw [b230, hc.1]
            show (some (.inr (9, sfF q)) : Option ssE) = some (.inr (9, [.int (zI ↑(z00 0 0)), .int (zI ↑(z00 1 0)), .int (zI ↑(z00 2 0)), .int (zI ↑(z00 3 0)), .int (zI ↑(z00 4 0)), .int (zI ↑(z00 5 0)), .int (zI ↑(z00 6 0)), .int (zI ↑(z00 7 0)), .int (zI ↑(z00 8 0)), .int (zI (↑(z00 9 0) - 1)), .int (zI ↑(z00 10 0)), .int (zI ↑(z00 11 0)), .ref (bd 231), .ref (bd 232), .ref (bd 233), .ref (bd 234), .ref (bd 235), .ref (bd 236), .ref (bd 237), .ref (bd 238), .ref (bd 239), .ref (bd 240), .ref (bd 241), .ref (bd 242)]))
            rw [b231, b232, b233, b234, b235, b236, b237, b238, b239, b240, b241, b242]; rfl
          have c1 : RdAt h3 bd z00 := ⟨⟨c0, (congrArg h3 b231).trans (hc.2.1 0 (by omega)).2.2, (congrArg h3 b232).trans (hc.2.1 1 (by omega)).2.2, (congrArg h3 b233).trans (hc.2.1 2 (by omega)).2.2, (congrArg h3 b234).trans (hc.2.1 3 (by omega)).2.2, (congrArg h3 b235).trans (hc.2.1 4 (by omega)).2.2, (congrArg h3 b236).trans (hc.2.1 5 (by omega)).2.2, (congrArg h3 b237).trans (hc.2.1 6 (by omega)).2.2, (congrArg h3 b238).trans (hc.2.1 7 (by omega)).2.2, (congrArg h3 b239).trans (hc.2.1 8 (by omega)).2.2⟩, (congrArg h3 b240).trans (hc.2.1 9 (by omega)).2.2, (congrArg h3 b241).trans (hc.2.1 10 (by omega)).2.2, (congrArg h3 b242).trans (hc.2.1 11 (by omega)).2.2⟩
          exact c1.fr hbi (by omega)
        generalize e4 : hset h3 (bd 200) (.inr (10, obM bd sv (.ref (bd 230)) M)) = h4 at kp4 hrd ⊢
        have ho4 : h4 (bd 200) = some (.inr (10, obM bd sv (.ref (bd 230)) M)) := e4 ▸ hset_self _ _ _
        have kp : ∀ j, j < 8 → h (ad (201 + j)) ≠ none → h4 (bd (201 + j)) = h (ad (201 + j)) := fun j hj hl => by
          have n2 := ad_ne hA (show 201 + j ≠ 200 by omega)
          rw [hbk (201 + j) (by omega) (by rw [k1 _ n2]; exact hl)]
          exact (kp4 _ hl n2).1
        refine v_run 0 (pc' := 54) (ls' := [some (.ref (bd 200)), some (.int (zI ↑k)), none]) (st' := []) rfl ?_
        have hta4 : h4 (bd 201) = some (arB 900 B) := (kp 0 (by omega) (by rw [show 201 + 0 = 201 from rfl, hta]; simp)).trans hta
        refine sf_mid G h4 (ad := bd) (B := B) (n := k) hbi hB (by omega) ho4 hta4 hrd (by rw [hM]; rfl) (by rw [hM]; rfl) (by rw [hM]; rfl) (fun e hp m' h' ho' hm3 hk hf => ?_) (fun ζ hp hz h5 m' h' j hm hk hf => ?_)
        · rw [hp]
          have f0 : m' 0 = 0 := (hk 0 (by omega)).trans (by rw [hM]; rfl)
          have f6 : m' 6 = 0 := (hk 6 (by omega)).trans (by rw [hM]; rfl)
          have f19 : m' 19 = m 19 := (hk 19 (by omega)).trans (by rw [hM]; rfl)
          have f20 : m' 20 = m 20 := (hk 20 (by omega)).trans (by rw [hM]; rfl)
          exact ⟨rfl, .ref (bd 230), m', by rw [← e200, eo]; exact ho', ⟨f0, hm3.1, hm3.2.1, hm3.2.2, f6, f19, f20⟩, fun b hb h2 => (hf b (by rw [e200]; exact h2) (kp4 b hb h2).2).trans (kp4 b hb h2).1⟩
        · rw [hp]
          obtain ⟨cd, hci, hcq, hck⟩ := ad_ex hbi
          have c210 : cd 210 = bd 230 := hcq 0 (by omega)
          have c211 : cd 211 = bd 231 := hcq 1 (by omega)
          have c212 : cd 212 = bd 232 := hcq 2 (by omega)
          have c213 : cd 213 = bd 233 := hcq 3 (by omega)
          have c214 : cd 214 = bd 234 := hcq 4 (by omega)
          have c215 : cd 215 = bd 235 := hcq 5 (by omega)
          have c216 : cd 216 = bd 236 := hcq 6 (by omega)
          have c217 : cd 217 = bd 237 := hcq 7 (by omega)
          have c218 : cd 218 = bd 238 := hcq 8 (by omega)
          have c219 : cd 219 = bd 239 := hcq 9 (by omega)
          have c220 : cd 220 = bd 240 := hcq 10 (by omega)
          have c221 : cd 221 = bd 241 := hcq 11 (by omega)
          have c222 : cd 222 = bd 242 := hcq 12 (by omega)
          have d200 : cd 200 = bd 200 := hck 200 (by omega)
          have d201 : cd 201 = bd 201 := hck 201 (by omega)
          have d202 : cd 202 = bd 202 := hck 202 (by omega)
          have d203 : cd 203 = bd 203 := hck 203 (by omega)
          have d204 : cd 204 = bd 204 := hck 204 (by omega)
          have d205 : cd 205 = bd 205 := hck 205 (by omega)
          have d206 : cd 206 = bd 206 := hck 206 (by omega)
          have d207 : cd 207 = bd 207 := hck 207 (by omega)
          have d208 : cd 208 = bd 208 := hck 208 (by omega)
          have eo2 : ∀ (rv : Value) (m : Nat → Int), obM bd sv rv m = obM cd sv rv m := fun rv m => by show obM bd sv rv m = [.int (zI (m 0)), .int (zI (m 1)), .int (zI (m 2)), sv, rv, .ref (cd 201), .int (zI (m 6)), .int (zI (m 7)), .int (zI (m 8)), .int (zI (m 9)), .int (zI (m 10)), .int (zI (m 11)), .int (zI (m 12)), .int (zI (m 13)), .long (zL (m 14)), .ref (cd 202), .ref (cd 203), .ref (cd 204), .ref (cd 205), .int (zI (m 19)), .int (zI (m 20)), .ref (cd 206), .int (zI (m 22)), .ref (cd 207), .int (zI (m 24)), .ref (cd 208), .long (zL (m 26)), .long (zL (m 27)), .long (zL (m 28))]; rw [d201, d202, d203, d204, d205, d206, d207, d208]
          have ho5 : h' (cd 200) = some (.inr (10, obM cd sv (.ref (cd 210)) m')) := by rw [d200, c210, ← eo2]; exact hm.1
          have hs5 : SafAt h' cd 210 ζ := by
            obtain ⟨s0, s1, s2, s3, s4, s5, s6, s7, s8, s9⟩ := hm.2.2.1.1
            refine ⟨?_, (congrArg h' c211).trans s1, (congrArg h' c212).trans s2, (congrArg h' c213).trans s3, (congrArg h' c214).trans s4, (congrArg h' c215).trans s5, (congrArg h' c216).trans s6, (congrArg h' c217).trans s7, (congrArg h' c218).trans s8, (congrArg h' c219).trans s9⟩
            rw [c210, s0]
            show (some (.inr (9, obS bd 230 ζ)) : Option ssE) = some (.inr (9, [.int (zI ↑(ζ 0 0)), .int (zI ↑(ζ 1 0)), .int (zI ↑(ζ 2 0)), .int (zI ↑(ζ 3 0)), .int (zI ↑(ζ 4 0)), .int (zI ↑(ζ 5 0)), .int (zI ↑(ζ 6 0)), .int (zI ↑(ζ 7 0)), .int (zI ↑(ζ 8 0)), .int (zI (↑(ζ 9 0) - 1)), .int (zI ↑(ζ 10 0)), .int (zI ↑(ζ 11 0)), .ref (cd 211), .ref (cd 212), .ref (cd 213), .ref (cd 214), .ref (cd 215), .ref (cd 216), .ref (cd 217), .ref (cd 218), .ref (cd 219), .ref (cd 220), .ref (cd 221), .ref (cd 222)]))
            rw [c211, c212, c213, c214, c215, c216, c217, c218, c219, c220, c221, c222]; rfl
          have kr : ∀ j, 1 ≤ j → j < 8 → h (ad (201 + j)) ≠ none → h' (cd (201 + j)) = h (ad (201 + j)) := fun j j1 hj hl => by
            have n2 := ad_ne hA (show 201 + j ≠ 200 by omega)
            have eb := hbk (201 + j) (by omega) (by rw [k1 _ n2]; exact hl)
            rw [hck (201 + j) (by omega)]
            rw [hf _ (ad_ne hbi (by omega)) (fun k g1 g2 => ad_ne hbi (by omega)), eb]
            exact (kp4 _ hl n2).1
          have hr5 : MRow h' cd ρ := ⟨(kr 2 (by omega) (by omega) (by rw [show 201 + 2 = 203 from rfl, r203]; simp)).trans r203, (kr 1 (by omega) (by omega) (by rw [show 201 + 1 = 202 from rfl, r202]; simp)).trans r202, (kr 3 (by omega) (by omega) (by rw [show 201 + 3 = 204 from rfl, r204]; simp)).trans r204, (kr 4 (by omega) (by omega) (by rw [show 201 + 4 = 205 from rfl, r205]; simp)).trans r205, (kr 5 (by omega) (by omega) (by rw [show 201 + 5 = 206 from rfl, r206]; simp)).trans r206, (kr 6 (by omega) (by omega) (by rw [show 201 + 6 = 207 from rfl, r207]; simp)).trans r207, (kr 7 (by omega) (by omega) (by rw [show 201 + 7 = 208 from rfl, r208]; simp)).trans r208⟩
          rw [← d200]
          refine sf_tail G h' hci ho5 hs5 hr5 hx hV hz.1.sa (fun h2 ρ2 ht h2t hfm => ⟨rfl, hz, h5, cd, _, _, ρ2, hci, fun k hk hl => ?_, ht, h2t, ⟨?_, rfl, rfl, ?_, ?_, rfl, rfl⟩, fun b hb n2 n3 => ?_⟩)
          · by_cases e : k = 200
            · rw [e, d200, e200]
            · rw [hck k (by omega)]; exact hbk k (by omega) (by rw [k1 _ (ad_ne hA e)]; exact hl)
          · exact (hk 0 (by omega)).trans (by rw [hM]; rfl)
          · exact hm.2.2.2.2.2.2.2.2.2
          · exact (hk 6 (by omega)).trans (by rw [hM]; rfl)
          · refine (hfm b (by rw [d200, e200]; exact n2) (fun k hk => ?_)).trans ((hf b (by rw [e200]; exact n2) (kp4 b hb n2).2).trans (kp4 b hb n2).1)
            rcases (show k = 202 ∨ k = 203 ∨ k = 204 ∨ k = 205 ∨ k = 206 ∨ k = 207 ∨ k = 208 by omega) with rfl | rfl | rfl | rfl | rfl | rfl | rfl
            · rw [d202, e202]; exact n3 202 (by omega)
            · rw [d203, e203]; exact n3 203 (by omega)
            · rw [d204, e204]; exact n3 204 (by omega)
            · rw [d205, e205]; exact n3 205 (by omega)
            · rw [d206, e206]; exact n3 206 (by omega)
            · rw [d207, e207]; exact n3 207 (by omega)
            · rw [d208, e208]; exact n3 208 (by omega)
    · simp (disch := omega) only [zI_lt, zI_le, zI_eq, zI_lt0, zI_le0, zI_0lt, zI_0le, zI_eq0] at c14
      refine v_run 2 (pc' := 19) (ls' := [some (.ref (ad 200)), some (.int (zI n)), none]) (st' := [.int (zI 2), .ref (ad 200)]) rfl ?_
      refine v_callV (My := mX10_refused) (As := [.int (zI 2)]) (rest := []) (mc := 13) (ms := 125) rfl caX10_refused rfl rfl rfl (hset_self _ _ _) rfl rfl (q_refused G _ 2 (hset_self _ _ _)) rfl rfl (Nat.le_of_ble_eq_true rfl) (by omega) ?_
      rintro _ _ ⟨rfl, rfl⟩
      refine v_run 0 (pc' := 22) (ls' := [some (.ref (ad 200)), some (.int (zI n)), none]) (st' := [.int (zI (-1))]) rfl ?_
      rw [show SfA ad sv rv m B h N n = _ from if_pos (Or.inr (by omega))]
      exact v_iret rfl rfl rfl ⟨rfl, by rw [hset_hset]⟩

