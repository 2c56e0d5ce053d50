theorem v_lastore' {G : ssG} {M : ssM} {D mc ms : Nat} {Q : Option Value → ssH → Prop} {pc : Nat} {ls : List (Option Value)} {st : List Value} {h : ssH} {r0 : List Nat} {v0 : Value} {a n : Nat} {f : Nat → Int64} {x : Int32} {y : Int64} (hl : ssLk M pc = some (.lastore, 1, r0, v0)) (he : h a = some (.inl (2, n, .inr (.inl f)))) (i : Nat) (hx : x = zI (i : Int)) (hi : i < n) (kk : ssV G M D mc ms Q (pc + 1) ls st (hset h a (.inl (2, n, .inr (.inl (vp_updL f i y)))))) (hn : n < 2147483648 := by decide) : ssV G M D mc ms Q pc ls (.long y :: .int x :: .ref a :: st) h := by
  refine v_lastore hl he (by rw [hx]; exact zI_in hi hn) ?_
  rw [hx, zI_clamp (by omega)]
  exact kk
theorem arL_upd (f : Nat → Nat) (n s v : Nat) : (.inl (2, n, .inr (.inl (vp_updL (fun j => zL ↑(f j)) s (zL ↑v)))) : ssE) = arL n (fun j => if j = s then v else f j) := by
  unfold arL
  congr 5
  funext j
  by_cases hj : j = s <;> simp [vp_updL, hj]
def prN (ζ : Nat → Nat → Nat) (c : Nat) : Nat → Nat
  | 0 => 1
  | k + 1 => prN ζ c k * (if bitN c k = true then ζ 2 0 else 100 - ζ 2 0)
def tbN (ζ : Nat → Nat → Nat) (V : Nat → Nat) (c n : Nat) : Nat → Nat := mDs ζ (fun k => bitN c k) V n
def sQN (ζ : Nat → Nat → Nat) (V : Nat → Nat) (n c : Nat) : Nat := if ζ 0 0 ≤ popN (mG ζ (tbN ζ V c n)) then prN ζ c n else 0
def sSN (ζ : Nat → Nat → Nat) (V : Nat → Nat) (n c : Nat) : Nat := prN ζ c n * popN (mG ζ (tbN ζ V c n))
def sON (ζ : Nat → Nat → Nat) (V : Nat → Nat) (n s c : Nat) : Nat := if 0 < tbN ζ V c n (12 + s) then prN ζ c n else 0
def mStI (ζ : Nat → Nat → Nat) (rv : Value) (m : Nat → Int) (ρ : Nat → Nat → Nat) (ad : Nat → Nat) (h : ssH) (n c : Nat) (h' : ssH) : Prop := ∃ m' ρ', MQs h ad rv m ζ ρ h' m' ρ' ∧ m' 26 = ↑(100 ^ n) ∧ m' 27 = ↑(sumN (sQN ζ (ρ 2) n) c) ∧ m' 28 = ↑(sumN (sSN ζ (ρ 2) n) c) ∧ ∀ s, s < ζ 5 0 → ρ' 8 s = sumN (sON ζ (ρ 2) n s) c
def mStQ (ζ : Nat → Nat → Nat) (rv : Value) (m : Nat → Int) (ρ : Nat → Nat → Nat) (ad : Nat → Nat) (h : ssH) (n : Nat) (h' : ssH) : Prop := mStI ζ rv m ρ ad h n (2 ^ n) h'
set_option maxRecDepth 100000 in
set_option maxHeartbeats 400000 in
theorem q_storms (G : ssG) (h : ssH) {ad : Nat → Nat} {rv : Value} {m : Nat → Int} {ζ ρ : Nat → Nat → Nat} (n : Nat) (hA : ∀ k l, ad k = ad l → k = l) (ht : MT h ad rv m ζ ρ) (hz : SaOk ζ) (hV : XOk (ρ 2)) (hd : ρ 2 23 ≤ 99) (hn : n ≤ 6) : ssC G mX10_storms 3 0 0 [.ref (ad 200), .int (zI ↑n)] h (fun r h' => r = none ∧ mStQ ζ rv m ρ ad h n h') := by
  refine c_of_v okX10_storms (by decide +kernel) (ls := [some (.ref (ad 200)), some (.int (zI ↑n)), none, none, none, none]) rfl (Nat.le_of_ble_eq_true rfl) ?_
  obtain ⟨z0, z1, z2, z3, z4, z5, z6, z9, z12, z13, z14, z15, z16, z17, z18, z19, z20⟩ := id hz
  refine v_run 2 (pc' := 2) (ls' := [some (.ref (ad 200)), some (.int (zI ↑n)), none, none, none, none]) (st' := [.long (zL 1), .ref (ad 200)]) rfl ?_
  refine v_put rfl ht.1.1 rfl rfl (Nat.le_of_ble_eq_true rfl) ?_
  generalize e1 : hset h (ad 200) _ = h1
  have t1 : MT h1 ad rv (mU m 26 1) ζ ρ := ht.ob hA e1
  refine v_run 2 (pc' := 7) (ls' := [some (.ref (ad 200)), some (.int (zI ↑n)), none, none, none, none]) (st' := [.long (zL 0), .ref (ad 200)]) rfl ?_
  refine v_put rfl t1.1.1 rfl rfl (Nat.le_of_ble_eq_true rfl) ?_
  generalize e2 : hset h1 (ad 200) _ = h2
  have t2 : MT h2 ad rv (mU (mU m 26 1) 27 0) ζ ρ := t1.ob hA e2
  refine v_run 2 (pc' := 12) (ls' := [some (.ref (ad 200)), some (.int (zI ↑n)), none, none, none, none]) (st' := [.long (zL 0), .ref (ad 200)]) rfl ?_
  refine v_put rfl t2.1.1 rfl rfl (Nat.le_of_ble_eq_true rfl) ?_
  generalize e3 : hset h2 (ad 200) _ = h3
  have t3 : MT h3 ad rv (mU (mU (mU m 26 1) 27 0) 28 0) ζ ρ := t2.ob hA e3
  have f3 := (((frM.rf ad h).ob e1).ob e2).ob e3
  refine v_run 2 (pc' := 17) (ls' := [some (.ref (ad 200)), some (.int (zI ↑n)), some (.int (zI 0)), none, none, none]) (st' := []) rfl ?_
  have lp : ∀ (n1 s : Nat), s ≤ 6 → 6 + 1 ≤ s + n1 → ssV G mX10_storms 3 0 0 (fun r h' => r = none ∧ mStQ ζ rv m ρ ad h n h') 17 [some (.ref (ad 200)), some (.int (zI ↑n)), some (.int (zI ↑s)), none, none, none] [] (hset h3 (ad 208) (arL 6 (fun k => if k < s then 0 else ρ 8 k))) := by
    intro n1
    induction n1 with
    | zero => intro s hs1 hs2; exact absurd hs2 (by omega)
    | succ n1 ih =>
      intro s hs1 hs2
      refine v_run 2 (pc' := 20) (ls' := [some (.ref (ad 200)), some (.int (zI ↑n)), some (.int (zI ↑s)), none, none, none]) (st' := [.int (zI 6), .int (zI ↑s)]) rfl ?_
      refine v_icmp_ge rfl (fun c20 => ?_) (fun c20 => ?_)
      · simp (disch := omega) only [zI_lt, zI_le, zI_eq, zI_lt0, zI_le0, zI_0lt, zI_0le, zI_eq0] at c20
        have s6 : s = 6 := by omega
        refine v_run 2 (pc' := 38) (ls' := [some (.ref (ad 200)), some (.int (zI ↑n)), some (.int (zI 0)), none, none, none]) (st' := []) rfl ?_
        generalize e4 : hset h3 (ad 208) (arL 6 (fun k => if k < s then 0 else ρ 8 k)) = h4
        have q4 : MQs h ad rv m ζ ρ h4 (mU (mU (mU (mU m 26 1) 27 0) 28 0) 26 ↑(100 ^ 0)) (rU ρ 8 (fun k => if k < s then 0 else ρ 8 k)) := ⟨by rw [show mU (mU (mU (mU m 26 1) 27 0) 28 0) 26 ↑(100 ^ 0) = (mU (mU (mU m 26 1) 27 0) 28 0) from by funext j; simp only [mU]; by_cases q : j = 26 <;> simp [q]]; exact t3.l8 hA e4, ⟨rfl, rfl, rfl, rfl, rfl, rfl, rfl⟩, ⟨rfl, rfl, rfl⟩, f3.k e4 (by decide)⟩
        obtain ⟨r4, hr4⟩ : ∃ r4, r4 = (rU ρ 8 (fun k => if k < s then 0 else ρ 8 k)) := ⟨_, rfl⟩
        rw [← hr4] at q4
        have z8 : ∀ b, b < 6 → r4 8 b = 0 := fun b hb => by rw [hr4]; show (if b < s then 0 else ρ 8 b) = 0; rw [if_pos (by omega)]
        have v2 : r4 2 = ρ 2 := by rw [hr4]; rfl
        clear hr4
        have lq : ∀ (n2 s : Nat) (hh : ssH), (s ≤ n ∧ MQs h ad rv m ζ ρ hh (mU (mU (mU (mU m 26 1) 27 0) 28 0) 26 ↑(100 ^ s)) r4) → n + 1 ≤ s + n2 → ssV G mX10_storms 3 0 0 (fun r h' => r = none ∧ mStQ ζ rv m ρ ad h n h') 38 [some (.ref (ad 200)), some (.int (zI ↑n)), some (.int (zI ↑s)), none, none, none] [] hh := by
          intro n2
          induction n2 with
          | zero => intro s hh hi1 hi2; exact absurd hi2 (by omega)
          | succ n2 ih2 =>
            intro s hh hi1 hi2
            refine v_run 2 (pc' := 40) (ls' := [some (.ref (ad 200)), some (.int (zI ↑n)), some (.int (zI ↑s)), none, none, none]) (st' := [.int (zI ↑n), .int (zI ↑s)]) rfl ?_
            refine v_icmp_ge rfl (fun c40 => ?_) (fun c40 => ?_)
            · simp (disch := omega) only [zI_lt, zI_le, zI_eq, zI_lt0, zI_le0, zI_0lt, zI_0le, zI_eq0] at c40
              have sn : s = n := by omega
              refine v_run 2 (pc' := 63) (ls' := [some (.ref (ad 200)), some (.int (zI ↑n)), some (.int (zI 0)), none, none, none]) (st' := []) rfl ?_
              obtain ⟨pw, hpw⟩ : ∃ pw, pw = 2 ^ n := ⟨_, rfl⟩
              have p6 : pw ≤ 64 := hpw ▸ Nat.pow_le_pow_right (n := 2) (by decide) hn
              have I0 : mStI ζ rv m ρ ad h n 0 hh := ⟨_, _, hi1.2, by rw [sn]; rfl, rfl, rfl, fun b hb => z8 b (by omega)⟩
              have lr : ∀ (n3 c : Nat) (hh : ssH), (c ≤ pw ∧ mStI ζ rv m ρ ad h n c hh) → pw + 1 ≤ c + n3 → ssV G mX10_storms 3 0 0 (fun r h' => r = none ∧ mStQ ζ rv m ρ ad h n h') 63 [some (.ref (ad 200)), some (.int (zI ↑n)), some (.int (zI ↑c)), none, none, none] [] hh := by
                intro n3
                induction n3 with
                | zero => intro c hh hc1 hc2; exact absurd hc2 (by omega)
                | succ n3 ihc =>
                  intro c hh hc1 hc2
                  obtain ⟨cp, mm, rr, hq, g26, g27, g28, g8⟩ := id hc1
                  refine v_run 4 (pc' := 67) (ls' := [some (.ref (ad 200)), some (.int (zI ↑n)), some (.int (zI ↑c)), none, none, none]) (st' := [.int ((zI 1) <<< ((zI ↑n) &&& 31)), .int (zI ↑c)]) rfl ?_
                  rw [show ((zI 1) <<< ((zI ↑n) &&& 31) : Int32) = zI ↑pw from by rw [hpw]; exact zI_1shl (by omega)]
                  refine v_icmp_ge rfl (fun c67 => ?_) (fun c67 => ?_)
                  · simp (disch := omega) only [zI_lt, zI_le, zI_eq, zI_lt0, zI_le0, zI_0lt, zI_0le, zI_eq0] at c67
                    exact v_vret rfl rfl ⟨rfl, by rw [mStQ, ← hpw, ← show c = pw by omega]; exact hc1.2⟩
                  · simp (disch := omega) only [zI_lt, zI_le, zI_eq, zI_lt0, zI_le0, zI_0lt, zI_0le, zI_eq0] at c67
                    have rv2 : rr 2 = ρ 2 := hq.2.2.1.1
                    have hV2 : XOk (rr 2) := by rw [rv2]; exact hV
                    refine v_run 3 (pc' := 73) (ls' := [some (.ref (ad 200)), some (.int (zI ↑n)), some (.int (zI ↑c)), some (.long (zL 1)), none, none]) (st' := [.ref (ad 200)]) rfl ?_
                    refine v_callV (My := mX10_works) (As := []) (rest := []) (mc := 0) (ms := 0) rfl caX10_works rfl rfl rfl hq.1.1.1 rfl rfl (q_works G _ hA hq.1.1 hz hq.1.2.1 hq.1.2.2.1 hV2) rfl rfl (Nat.le_of_ble_eq_true rfl) (by omega) ?_
                    rintro _ h6 ⟨rfl, e6⟩
                    refine v_run 0 (pc' := 76) (ls' := [some (.ref (ad 200)), some (.int (zI ↑n)), some (.int (zI ↑c)), some (.long (zL 1)), none, none]) (st' := []) rfl ?_
                    rw [rv2] at e6
                    have hx6 : MX h6 ad rv mm ζ (ρ 2) := e6 ▸ hq.1.1.x hA _
                    refine v_run 2 (pc' := 79) (ls' := [some (.ref (ad 200)), some (.int (zI ↑n)), some (.int (zI ↑c)), some (.long (zL 1)), none, some (.int (zI 0))]) (st' := []) rfl ?_
                    have ls : ∀ (n4 k : Nat), k ≤ n → n + 1 ≤ k + n4 → ssV G mX10_storms 3 0 0 (fun r h' => r = none ∧ mStQ ζ rv m ρ ad h n h') 79 [some (.ref (ad 200)), some (.int (zI ↑n)), some (.int (zI ↑c)), some (.long (zL ↑(prN ζ c k))), none, some (.int (zI ↑k))] [] (hset h6 (ad 203) (ar 26 (tbN ζ (ρ 2) c k))) := by
                      intro n4
                      induction n4 with
                      | zero => intro k hk1 hk2; exact absurd hk2 (by omega)
                      | succ n4 ih3 =>
                        intro k hk1 hk2
                        have hx7 := hx6.x hA (tbN ζ (ρ 2) c k)
                        have ox7 : XOk (tbN ζ (ρ 2) c k) := mDs_ok hz hV k
                        have d23 : tbN ζ (ρ 2) c k 23 = ρ 2 23 + k := mDs_23 _ _ k
                        refine v_run 2 (pc' := 82) (ls' := [some (.ref (ad 200)), some (.int (zI ↑n)), some (.int (zI ↑c)), some (.long (zL ↑(prN ζ c k))), none, some (.int (zI ↑k))]) (st' := [.int (zI ↑n), .int (zI ↑k)]) rfl ?_
                        refine v_icmp_ge rfl (fun c82 => ?_) (fun c82 => ?_)
                        · simp (disch := omega) only [zI_lt, zI_le, zI_eq, zI_lt0, zI_le0, zI_0lt, zI_0le, zI_eq0] at c82
                          have kn : k = n := by omega
                          generalize e7 : hset h6 (ad 203) (ar 26 (tbN ζ (ρ 2) c k)) = h7
                          have q7 : MQs h ad rv m ζ ρ h7 mm (rU rr 3 (tbN ζ (ρ 2) c k)) := ⟨hq.1.xs hA (by rw [← e7, ← e6, hset_hset]) ox7, hq.2.1, ⟨hq.2.2.1.1, hq.2.2.1.2.1, hq.2.2.1.2.2⟩, (hq.2.2.2.k e6 (by decide)).k e7 (by decide)⟩
                          refine v_run 2 (pc' := 137) (ls' := [some (.ref (ad 200)), some (.int (zI ↑n)), some (.int (zI ↑c)), some (.long (zL ↑(prN ζ c k))), none, some (.int (zI ↑k))]) (st' := [.ref (ad 200), .ref (ad 200)]) rfl ?_
                          refine v_get rfl q7.1.1.1 rfl ?_
                          refine v_run 0 (pc' := 140) (ls' := [some (.ref (ad 200)), some (.int (zI ↑n)), some (.int (zI ↑c)), some (.long (zL ↑(prN ζ c k))), none, some (.int (zI ↑k))]) (st' := [.long (zL (mm 27)), .ref (ad 200)]) rfl ?_
                          rw [show (zL (mm 27) : Int64) = zL ↑(sumN (sQN ζ (ρ 2) n) c) from by rw [g27]]
                          refine v_run 1 (pc' := 141) (ls' := [some (.ref (ad 200)), some (.int (zI ↑n)), some (.int (zI ↑c)), some (.long (zL ↑(prN ζ c k))), none, some (.int (zI ↑k))]) (st' := [.ref (ad 200), .long (zL ↑(sumN (sQN ζ (ρ 2) n) c)), .ref (ad 200)]) rfl ?_
                          refine v_callV (My := mX10_isQuorum) (As := []) (rest := [.long (zL ↑(sumN (sQN ζ (ρ 2) n) c)), .ref (ad 200)]) (mc := 0) (ms := 0) rfl caX10_isQuorum rfl rfl rfl q7.1.1.1 rfl rfl (q_isQuorum G _ hA q7.1.1 hz ox7) rfl rfl (Nat.le_of_ble_eq_true rfl) (by omega) ?_
                          rintro _ _ ⟨rfl, rfl⟩
                          refine v_run 0 (pc' := 144) (ls' := [some (.ref (ad 200)), some (.int (zI ↑n)), some (.int (zI ↑c)), some (.long (zL ↑(prN ζ c k))), none, some (.int (zI ↑k))]) (st' := [.int (zb (decide (ζ 0 0 ≤ popN (mG ζ (tbN ζ (ρ 2) c k))))), .long (zL ↑(sumN (sQN ζ (ρ 2) n) c)), .ref (ad 200)]) rfl ?_
                          refine v_if_eq rfl (fun c144 => ?_) (fun c144 => ?_)
                          · rw [zb_0, decide_eq_false_iff_not] at c144
                            refine v_run 2 (pc' := 153) (ls' := [some (.ref (ad 200)), some (.int (zI ↑n)), some (.int (zI ↑c)), some (.long (zL ↑(prN ζ c k))), none, some (.int (zI ↑k))]) (st' := [.long ((zL ↑(sumN (sQN ζ (ρ 2) n) c)) + (zL 0)), .ref (ad 200)]) rfl ?_
                            rw [show ((zL ↑(sumN (sQN ζ (ρ 2) n) c)) + (zL 0) : Int64) = zL ↑(sumN (sQN ζ (ρ 2) n) (c + 1)) from by rw [show (zL 0) = zL ((0 : Nat) : Int) from rfl, zLN_add]; simp only [sumN]; rw [show sQN ζ (ρ 2) n c = 0 from by unfold sQN; rw [← kn, if_neg c144]]]
                            refine v_put rfl q7.1.1.1 rfl rfl (Nat.le_of_ble_eq_true rfl) ?_
                            generalize e8 : hset h7 (ad 200) _ = h8
                            have q8 : MQs h ad rv m ζ ρ h8 (mU mm 27 ↑(sumN (sQN ζ (ρ 2) n) (c + 1))) (rU rr 3 (tbN ζ (ρ 2) c k)) := ⟨q7.1.ob hA e8, ⟨q7.2.1.1, q7.2.1.2.1, q7.2.1.2.2.1, q7.2.1.2.2.2.1, q7.2.1.2.2.2.2.1, q7.2.1.2.2.2.2.2.1, q7.2.1.2.2.2.2.2.2⟩, q7.2.2.1, q7.2.2.2.ob e8⟩
                            refine v_run 2 (pc' := 158) (ls' := [some (.ref (ad 200)), some (.int (zI ↑n)), some (.int (zI ↑c)), some (.long (zL ↑(prN ζ c k))), none, some (.int (zI ↑k))]) (st' := [.ref (ad 200), .ref (ad 200)]) rfl ?_
                            refine v_get rfl q8.1.1.1 rfl ?_
                            refine v_run 0 (pc' := 161) (ls' := [some (.ref (ad 200)), some (.int (zI ↑n)), some (.int (zI ↑c)), some (.long (zL ↑(prN ζ c k))), none, some (.int (zI ↑k))]) (st' := [.long (zL ((mU mm 27 ↑(sumN (sQN ζ (ρ 2) n) (c + 1))) 28)), .ref (ad 200)]) rfl ?_
                            rw [show (zL ((mU mm 27 ↑(sumN (sQN ζ (ρ 2) n) (c + 1))) 28) : Int64) = zL ↑(sumN (sSN ζ (ρ 2) n) c) from by rw [show (mU mm 27 ↑(sumN (sQN ζ (ρ 2) n) (c + 1))) 28 = mm 28 from rfl, g28]]
                            refine v_run 2 (pc' := 163) (ls' := [some (.ref (ad 200)), some (.int (zI ↑n)), some (.int (zI ↑c)), some (.long (zL ↑(prN ζ c k))), none, some (.int (zI ↑k))]) (st' := [.ref (ad 200), .long (zL ↑(prN ζ c k)), .long (zL ↑(sumN (sSN ζ (ρ 2) n) c)), .ref (ad 200)]) rfl ?_
                            refine v_callV (My := mX10_goodNow) (As := []) (rest := [.long (zL ↑(prN ζ c k)), .long (zL ↑(sumN (sSN ζ (ρ 2) n) c)), .ref (ad 200)]) (mc := 0) (ms := 0) rfl caX10_goodNow rfl rfl rfl q8.1.1.1 rfl rfl (q_goodNow G _ hA q8.1.1 hz ox7) rfl rfl (Nat.le_of_ble_eq_true rfl) (by omega) ?_
                            rintro _ _ ⟨rfl, rfl⟩
                            refine v_run 0 (pc' := 166) (ls' := [some (.ref (ad 200)), some (.int (zI ↑n)), some (.int (zI ↑c)), some (.long (zL ↑(prN ζ c k))), none, some (.int (zI ↑k))]) (st' := [.int (zI ↑(mG ζ (tbN ζ (ρ 2) c k))), .long (zL ↑(prN ζ c k)), .long (zL ↑(sumN (sSN ζ (ρ 2) n) c)), .ref (ad 200)]) rfl ?_
                            refine v_callS (My := mX10_bits) (As := [.int (zI ↑(mG ζ (tbN ζ (ρ 2) c k)))]) (rest := [.long (zL ↑(prN ζ c k)), .long (zL ↑(sumN (sSN ζ (ρ 2) n) c)), .ref (ad 200)]) (mc := 0) (ms := 0) rfl caX10_bits rfl rfl (q_bits G _ (mG ζ (tbN ζ (ρ 2) c k)) (setN_lt64 _ z5)) rfl rfl (Nat.le_of_ble_eq_true rfl) (by omega) ?_
                            rintro _ _ ⟨rfl, rfl⟩
                            refine v_run 0 (pc' := 169) (ls' := [some (.ref (ad 200)), some (.int (zI ↑n)), some (.int (zI ↑c)), some (.long (zL ↑(prN ζ c k))), none, some (.int (zI ↑k))]) (st' := [.int (zI ↑(popN (mG ζ (tbN ζ (ρ 2) c k)))), .long (zL ↑(prN ζ c k)), .long (zL ↑(sumN (sSN ζ (ρ 2) n) c)), .ref (ad 200)]) rfl ?_
                            have pl := popN_le (mG ζ (tbN ζ (ρ 2) c k))
                            refine v_run 1 (pc' := 170) (ls' := [some (.ref (ad 200)), some (.int (zI ↑n)), some (.int (zI ↑c)), some (.long (zL ↑(prN ζ c k))), none, some (.int (zI ↑k))]) (st' := [.long ((zI ↑(popN (mG ζ (tbN ζ (ρ 2) c k)))).toInt64), .long (zL ↑(prN ζ c k)), .long (zL ↑(sumN (sSN ζ (ρ 2) n) c)), .ref (ad 200)]) rfl ?_
                            rw [show ((zI ↑(popN (mG ζ (tbN ζ (ρ 2) c k)))).toInt64 : Int64) = zL ↑(popN (mG ζ (tbN ζ (ρ 2) c k))) from zI_l (by omega) (by omega)]
                            refine v_run 2 (pc' := 172) (ls' := [some (.ref (ad 200)), some (.int (zI ↑n)), some (.int (zI ↑c)), some (.long (zL ↑(prN ζ c k))), none, some (.int (zI ↑k))]) (st' := [.long ((zL ↑(sumN (sSN ζ (ρ 2) n) c)) + ((zL ↑(prN ζ c k)) * (zL ↑(popN (mG ζ (tbN ζ (ρ 2) c k)))))), .ref (ad 200)]) rfl ?_
                            rw [show ((zL ↑(sumN (sSN ζ (ρ 2) n) c)) + ((zL ↑(prN ζ c k)) * (zL ↑(popN (mG ζ (tbN ζ (ρ 2) c k))))) : Int64) = zL ↑(sumN (sSN ζ (ρ 2) n) (c + 1)) from by rw [zLN_mul, zLN_add]; simp only [sumN]; rw [show sSN ζ (ρ 2) n c = prN ζ c k * popN (mG ζ (tbN ζ (ρ 2) c k)) from by unfold sSN; rw [← kn]]]
                            refine v_put rfl q8.1.1.1 rfl rfl (Nat.le_of_ble_eq_true rfl) ?_
                            generalize e9 : hset h8 (ad 200) _ = h9
                            have q9 : MQs h ad rv m ζ ρ h9 (mU (mU mm 27 ↑(sumN (sQN ζ (ρ 2) n) (c + 1))) 28 ↑(sumN (sSN ζ (ρ 2) n) (c + 1))) (rU rr 3 (tbN ζ (ρ 2) c k)) := ⟨q8.1.ob hA e9, ⟨q8.2.1.1, q8.2.1.2.1, q8.2.1.2.2.1, q8.2.1.2.2.2.1, q8.2.1.2.2.2.2.1, q8.2.1.2.2.2.2.2.1, q8.2.1.2.2.2.2.2.2⟩, q8.2.2.1, q8.2.2.2.ob e9⟩
                            refine v_run 2 (pc' := 178) (ls' := [some (.ref (ad 200)), some (.int (zI ↑n)), some (.int (zI ↑c)), some (.long (zL ↑(prN ζ c k))), none, some (.int (zI 0))]) (st' := []) rfl ?_
                            have lt_ : ∀ (n5 a : Nat) (hh : ssH) (r2 : Nat → Nat → Nat), (a ≤ ζ 5 0 ∧ MQs h ad rv m ζ ρ hh (mU (mU mm 27 ↑(sumN (sQN ζ (ρ 2) n) (c + 1))) 28 ↑(sumN (sSN ζ (ρ 2) n) (c + 1))) r2 ∧ r2 3 = tbN ζ (ρ 2) c k ∧ (∀ b, b < ζ 5 0 → r2 8 b = if b < a then sumN (sON ζ (ρ 2) n b) (c + 1) else sumN (sON ζ (ρ 2) n b) c)) → ζ 5 0 + 1 ≤ a + n5 → ssV G mX10_storms 3 0 0 (fun r h' => r = none ∧ mStQ ζ rv m ρ ad h n h') 178 [some (.ref (ad 200)), some (.int (zI ↑n)), some (.int (zI ↑c)), some (.long (zL ↑(prN ζ c k))), none, some (.int (zI ↑a))] [] hh := by
                              intro n5
                              induction n5 with
                              | zero => intro a hh r2 ha1 ha2; exact absurd ha2 (by omega)
                              | succ n5 ihl =>
                                intro a hh r2 ha1 ha2
                                obtain ⟨oa, hr, hr3, hw⟩ := id ha1
                                refine v_run 2 (pc' := 181) (ls' := [some (.ref (ad 200)), some (.int (zI ↑n)), some (.int (zI ↑c)), some (.long (zL ↑(prN ζ c k))), none, some (.int (zI ↑a))]) (st' := [.ref (ad 200), .int (zI ↑a)]) rfl ?_
                                refine v_get rfl hr.1.1.1 rfl ?_
                                refine v_run 0 (pc' := 184) (ls' := [some (.ref (ad 200)), some (.int (zI ↑n)), some (.int (zI ↑c)), some (.long (zL ↑(prN ζ c k))), none, some (.int (zI ↑a))]) (st' := [.ref (ad 210), .int (zI ↑a)]) rfl ?_
                                refine v_get rfl hr.1.1.2.1.1 rfl ?_
                                refine v_run 0 (pc' := 187) (ls' := [some (.ref (ad 200)), some (.int (zI ↑n)), some (.int (zI ↑c)), some (.long (zL ↑(prN ζ c k))), none, some (.int (zI ↑a))]) (st' := [.int (zI ↑(ζ 5 0)), .int (zI ↑a)]) rfl ?_
                                refine v_icmp_ge rfl (fun c187 => ?_) (fun c187 => ?_)
                                · simp (disch := omega) only [zI_lt, zI_le, zI_eq, zI_lt0, zI_le0, zI_0lt, zI_0le, zI_eq0] at c187
                                  refine v_run 2 (pc' := 63) (ls' := [some (.ref (ad 200)), some (.int (zI ↑n)), some (.int ((zI ↑c) + zI 1)), some (.long (zL ↑(prN ζ c k))), none, some (.int (zI ↑a))]) (st' := []) rfl ?_
                                  refine v_drop 3 (ls' := [some (.ref (ad 200)), some (.int (zI ↑n)), some (.int ((zI ↑c) + zI 1)), none, none, some (.int (zI ↑a))]) rfl ?_
                                  refine v_drop 5 (ls' := [some (.ref (ad 200)), some (.int (zI ↑n)), some (.int ((zI ↑c) + zI 1)), none, none, none]) rfl ?_
                                  rw [zI_s1]
                                  exact ihc (c + 1) hh ⟨by omega, _, r2, hr, by rw [← g26]; rfl, rfl, rfl, fun b hb => by rw [hw b hb, if_pos (by omega)]⟩ (by omega)
                                · simp (disch := omega) only [zI_lt, zI_le, zI_eq, zI_lt0, zI_le0, zI_0lt, zI_0le, zI_eq0] at c187
                                  have wa := hw a (by omega)
                                  rw [if_neg (by omega)] at wa
                                  refine v_run 1 (pc' := 191) (ls' := [some (.ref (ad 200)), some (.int (zI ↑n)), some (.int (zI ↑c)), some (.long (zL ↑(prN ζ c k))), none, some (.int (zI ↑a))]) (st' := [.ref (ad 200)]) rfl ?_
                                  refine v_get rfl hr.1.1.1 rfl ?_
                                  refine v_run 2 (pc' := 197) (ls' := [some (.ref (ad 200)), some (.int (zI ↑n)), some (.int (zI ↑c)), some (.long (zL ↑(prN ζ c k))), none, some (.int (zI ↑a))]) (st' := [.int (zI ↑a), .ref (ad 208), .int (zI ↑a), .ref (ad 208)]) rfl ?_
                                  refine v_laload' rfl hr.1.2.2.2.2.2.2.2 (i := a) rfl (by omega) ?_
                                  refine v_run 0 (pc' := 198) (ls' := [some (.ref (ad 200)), some (.int (zI ↑n)), some (.int (zI ↑c)), some (.long (zL ↑(prN ζ c k))), none, some (.int (zI ↑a))]) (st' := [.long (zL ↑(r2 8 a)), .int (zI ↑a), .ref (ad 208)]) rfl ?_
                                  rw [show (zL ↑(r2 8 a) : Int64) = zL ↑(sumN (sON ζ (ρ 2) n a) c) from by rw [wa]]
                                  refine v_run 1 (pc' := 199) (ls' := [some (.ref (ad 200)), some (.int (zI ↑n)), some (.int (zI ↑c)), some (.long (zL ↑(prN ζ c k))), none, some (.int (zI ↑a))]) (st' := [.ref (ad 200), .long (zL ↑(sumN (sON ζ (ρ 2) n a) c)), .int (zI ↑a), .ref (ad 208)]) rfl ?_
                                  refine v_get rfl hr.1.1.1 rfl ?_
                                  refine v_run 3 (pc' := 207) (ls' := [some (.ref (ad 200)), some (.int (zI ↑n)), some (.int (zI ↑c)), some (.long (zL ↑(prN ζ c k))), none, some (.int (zI ↑a))]) (st' := [.int ((zI 12) + (zI ↑a)), .ref (ad 203), .long (zL ↑(sumN (sON ζ (ρ 2) n a) c)), .int (zI ↑a), .ref (ad 208)]) rfl ?_
                                  refine v_iaload' rfl hr.1.1.2.2 (i := (12 + a)) (zN_add 12 a) (by omega) ?_
                                  refine v_run 0 (pc' := 208) (ls' := [some (.ref (ad 200)), some (.int (zI ↑n)), some (.int (zI ↑c)), some (.long (zL ↑(prN ζ c k))), none, some (.int (zI ↑a))]) (st' := [.int (zI ↑(r2 3 (12 + a))), .long (zL ↑(sumN (sON ζ (ρ 2) n a) c)), .int (zI ↑a), .ref (ad 208)]) rfl ?_
                                  rw [show (zI ↑(r2 3 (12 + a)) : Int32) = zI ↑((tbN ζ (ρ 2) c k) (12 + a)) from congrArg (fun n : Nat => zI ↑n) (by rw [hr3])]
                                  have o12 := ox7.2.2.1 a (by omega)
                                  refine v_if_le rfl (fun c208 => ?_) (fun c208 => ?_)
                                  · simp (disch := omega) only [zI_lt, zI_le, zI_eq, zI_lt0, zI_le0, zI_0lt, zI_0le, zI_eq0] at c208
                                    refine v_run 2 (pc' := 217) (ls' := [some (.ref (ad 200)), some (.int (zI ↑n)), some (.int (zI ↑c)), some (.long (zL ↑(prN ζ c k))), none, some (.int (zI ↑a))]) (st' := [.long ((zL ↑(sumN (sON ζ (ρ 2) n a) c)) + (zL 0)), .int (zI ↑a), .ref (ad 208)]) rfl ?_
                                    rw [show ((zL ↑(sumN (sON ζ (ρ 2) n a) c)) + (zL 0) : Int64) = zL ↑(sumN (sON ζ (ρ 2) n a) (c + 1)) from by rw [show (zL 0) = zL ((0 : Nat) : Int) from rfl, zLN_add]; simp only [sumN]; rw [show sON ζ (ρ 2) n a c = 0 from by unfold sON; rw [← kn, if_neg (by omega)]]]
                                    refine v_lastore' rfl hr.1.2.2.2.2.2.2.2 (i := a) rfl (by omega) ?_
                                    rw [arL_upd]
                                    generalize e10 : hset hh (ad 208) _ = h10
                                    refine v_run 2 (pc' := 178) (ls' := [some (.ref (ad 200)), some (.int (zI ↑n)), some (.int (zI ↑c)), some (.long (zL ↑(prN ζ c k))), none, some (.int ((zI ↑a) + zI 1))]) (st' := []) rfl ?_
                                    rw [zI_s1]
                                    exact ihl (a + 1) h10 _ ⟨by omega, ⟨hr.1.l8 hA e10, hr.2.1, ⟨hr.2.2.1.1, hr.2.2.1.2.1, hr.2.2.1.2.2⟩, hr.2.2.2.k e10 (by decide)⟩, hr3, mW_st (P := fun b => sumN (sON ζ (ρ 2) n b) (c + 1)) (R := fun b => sumN (sON ζ (ρ 2) n b) c) hw⟩ (by omega)
                                  · simp (disch := omega) only [zI_lt, zI_le, zI_eq, zI_lt0, zI_le0, zI_0lt, zI_0le, zI_eq0] at c208
                                    refine v_run 3 (pc' := 217) (ls' := [some (.ref (ad 200)), some (.int (zI ↑n)), some (.int (zI ↑c)), some (.long (zL ↑(prN ζ c k))), none, some (.int (zI ↑a))]) (st' := [.long ((zL ↑(sumN (sON ζ (ρ 2) n a) c)) + (zL ↑(prN ζ c k))), .int (zI ↑a), .ref (ad 208)]) rfl ?_
                                    rw [show ((zL ↑(sumN (sON ζ (ρ 2) n a) c)) + (zL ↑(prN ζ c k)) : Int64) = zL ↑(sumN (sON ζ (ρ 2) n a) (c + 1)) from by rw [zLN_add]; simp only [sumN]; rw [show sON ζ (ρ 2) n a c = prN ζ c k from by unfold sON; rw [← kn, if_pos (by omega)]]]
                                    refine v_lastore' rfl hr.1.2.2.2.2.2.2.2 (i := a) rfl (by omega) ?_
                                    rw [arL_upd]
                                    generalize e10 : hset hh (ad 208) _ = h10
                                    refine v_run 2 (pc' := 178) (ls' := [some (.ref (ad 200)), some (.int (zI ↑n)), some (.int (zI ↑c)), some (.long (zL ↑(prN ζ c k))), none, some (.int ((zI ↑a) + zI 1))]) (st' := []) rfl ?_
                                    rw [zI_s1]
                                    exact ihl (a + 1) h10 _ ⟨by omega, ⟨hr.1.l8 hA e10, hr.2.1, ⟨hr.2.2.1.1, hr.2.2.1.2.1, hr.2.2.1.2.2⟩, hr.2.2.2.k e10 (by decide)⟩, hr3, mW_st (P := fun b => sumN (sON ζ (ρ 2) n b) (c + 1)) (R := fun b => sumN (sON ζ (ρ 2) n b) c) hw⟩ (by omega)
                            exact lt_ (ζ 5 0 + 1) 0 h9 _ ⟨by omega, q9, rfl, fun b hb => by rw [if_neg (by omega)]; exact g8 b hb⟩ (by omega)
                          · rw [zb_0, Bool.not_eq_false, decide_eq_true_eq] at c144
                            refine v_run 3 (pc' := 153) (ls' := [some (.ref (ad 200)), some (.int (zI ↑n)), some (.int (zI ↑c)), some (.long (zL ↑(prN ζ c k))), none, some (.int (zI ↑k))]) (st' := [.long ((zL ↑(sumN (sQN ζ (ρ 2) n) c)) + (zL ↑(prN ζ c k))), .ref (ad 200)]) rfl ?_
                            rw [show ((zL ↑(sumN (sQN ζ (ρ 2) n) c)) + (zL ↑(prN ζ c k)) : Int64) = zL ↑(sumN (sQN ζ (ρ 2) n) (c + 1)) from by rw [zLN_add]; simp only [sumN]; rw [show sQN ζ (ρ 2) n c = prN ζ c k from by unfold sQN; rw [← kn, if_pos c144]]]
                            refine v_put rfl q7.1.1.1 rfl rfl (Nat.le_of_ble_eq_true rfl) ?_
                            generalize e8 : hset h7 (ad 200) _ = h8
                            have q8 : MQs h ad rv m ζ ρ h8 (mU mm 27 ↑(sumN (sQN ζ (ρ 2) n) (c + 1))) (rU rr 3 (tbN ζ (ρ 2) c k)) := ⟨q7.1.ob hA e8, ⟨q7.2.1.1, q7.2.1.2.1, q7.2.1.2.2.1, q7.2.1.2.2.2.1, q7.2.1.2.2.2.2.1, q7.2.1.2.2.2.2.2.1, q7.2.1.2.2.2.2.2.2⟩, q7.2.2.1, q7.2.2.2.ob e8⟩
                            refine v_run 2 (pc' := 158) (ls' := [some (.ref (ad 200)), some (.int (zI ↑n)), some (.int (zI ↑c)), some (.long (zL ↑(prN ζ c k))), none, some (.int (zI ↑k))]) (st' := [.ref (ad 200), .ref (ad 200)]) rfl ?_
                            refine v_get rfl q8.1.1.1 rfl ?_
                            refine v_run 0 (pc' := 161) (ls' := [some (.ref (ad 200)), some (.int (zI ↑n)), some (.int (zI ↑c)), some (.long (zL ↑(prN ζ c k))), none, some (.int (zI ↑k))]) (st' := [.long (zL ((mU mm 27 ↑(sumN (sQN ζ (ρ 2) n) (c + 1))) 28)), .ref (ad 200)]) rfl ?_
                            rw [show (zL ((mU mm 27 ↑(sumN (sQN ζ (ρ 2) n) (c + 1))) 28) : Int64) = zL ↑(sumN (sSN ζ (ρ 2) n) c) from by rw [show (mU mm 27 ↑(sumN (sQN ζ (ρ 2) n) (c + 1))) 28 = mm 28 from rfl, g28]]
                            refine v_run 2 (pc' := 163) (ls' := [some (.ref (ad 200)), some (.int (zI ↑n)), some (.int (zI ↑c)), some (.long (zL ↑(prN ζ c k))), none, some (.int (zI ↑k))]) (st' := [.ref (ad 200), .long (zL ↑(prN ζ c k)), .long (zL ↑(sumN (sSN ζ (ρ 2) n) c)), .ref (ad 200)]) rfl ?_
                            refine v_callV (My := mX10_goodNow) (As := []) (rest := [.long (zL ↑(prN ζ c k)), .long (zL ↑(sumN (sSN ζ (ρ 2) n) c)), .ref (ad 200)]) (mc := 0) (ms := 0) rfl caX10_goodNow rfl rfl rfl q8.1.1.1 rfl rfl (q_goodNow G _ hA q8.1.1 hz ox7) rfl rfl (Nat.le_of_ble_eq_true rfl) (by omega) ?_
                            rintro _ _ ⟨rfl, rfl⟩
                            refine v_run 0 (pc' := 166) (ls' := [some (.ref (ad 200)), some (.int (zI ↑n)), some (.int (zI ↑c)), some (.long (zL ↑(prN ζ c k))), none, some (.int (zI ↑k))]) (st' := [.int (zI ↑(mG ζ (tbN ζ (ρ 2) c k))), .long (zL ↑(prN ζ c k)), .long (zL ↑(sumN (sSN ζ (ρ 2) n) c)), .ref (ad 200)]) rfl ?_
                            refine v_callS (My := mX10_bits) (As := [.int (zI ↑(mG ζ (tbN ζ (ρ 2) c k)))]) (rest := [.long (zL ↑(prN ζ c k)), .long (zL ↑(sumN (sSN ζ (ρ 2) n) c)), .ref (ad 200)]) (mc := 0) (ms := 0) rfl caX10_bits rfl rfl (q_bits G _ (mG ζ (tbN ζ (ρ 2) c k)) (setN_lt64 _ z5)) rfl rfl (Nat.le_of_ble_eq_true rfl) (by omega) ?_
                            rintro _ _ ⟨rfl, rfl⟩
                            refine v_run 0 (pc' := 169) (ls' := [some (.ref (ad 200)), some (.int (zI ↑n)), some (.int (zI ↑c)), some (.long (zL ↑(prN ζ c k))), none, some (.int (zI ↑k))]) (st' := [.int (zI ↑(popN (mG ζ (tbN ζ (ρ 2) c k)))), .long (zL ↑(prN ζ c k)), .long (zL ↑(sumN (sSN ζ (ρ 2) n) c)), .ref (ad 200)]) rfl ?_
                            have pl := popN_le (mG ζ (tbN ζ (ρ 2) c k))
                            refine v_run 1 (pc' := 170) (ls' := [some (.ref (ad 200)), some (.int (zI ↑n)), some (.int (zI ↑c)), some (.long (zL ↑(prN ζ c k))), none, some (.int (zI ↑k))]) (st' := [.long ((zI ↑(popN (mG ζ (tbN ζ (ρ 2) c k)))).toInt64), .long (zL ↑(prN ζ c k)), .long (zL ↑(sumN (sSN ζ (ρ 2) n) c)), .ref (ad 200)]) rfl ?_
                            rw [show ((zI ↑(popN (mG ζ (tbN ζ (ρ 2) c k)))).toInt64 : Int64) = zL ↑(popN (mG ζ (tbN ζ (ρ 2) c k))) from zI_l (by omega) (by omega)]
                            refine v_run 2 (pc' := 172) (ls' := [some (.ref (ad 200)), some (.int (zI ↑n)), some (.int (zI ↑c)), some (.long (zL ↑(prN ζ c k))), none, some (.int (zI ↑k))]) (st' := [.long ((zL ↑(sumN (sSN ζ (ρ 2) n) c)) + ((zL ↑(prN ζ c k)) * (zL ↑(popN (mG ζ (tbN ζ (ρ 2) c k)))))), .ref (ad 200)]) rfl ?_
                            rw [show ((zL ↑(sumN (sSN ζ (ρ 2) n) c)) + ((zL ↑(prN ζ c k)) * (zL ↑(popN (mG ζ (tbN ζ (ρ 2) c k))))) : Int64) = zL ↑(sumN (sSN ζ (ρ 2) n) (c + 1)) from by rw [zLN_mul, zLN_add]; simp only [sumN]; rw [show sSN ζ (ρ 2) n c = prN ζ c k * popN (mG ζ (tbN ζ (ρ 2) c k)) from by unfold sSN; rw [← kn]]]
                            refine v_put rfl q8.1.1.1 rfl rfl (Nat.le_of_ble_eq_true rfl) ?_
                            generalize e9 : hset h8 (ad 200) _ = h9
                            have q9 : MQs h ad rv m ζ ρ h9 (mU (mU mm 27 ↑(sumN (sQN ζ (ρ 2) n) (c + 1))) 28 ↑(sumN (sSN ζ (ρ 2) n) (c + 1))) (rU rr 3 (tbN ζ (ρ 2) c k)) := ⟨q8.1.ob hA e9, ⟨q8.2.1.1, q8.2.1.2.1, q8.2.1.2.2.1, q8.2.1.2.2.2.1, q8.2.1.2.2.2.2.1, q8.2.1.2.2.2.2.2.1, q8.2.1.2.2.2.2.2.2⟩, q8.2.2.1, q8.2.2.2.ob e9⟩
                            refine v_run 2 (pc' := 178) (ls' := [some (.ref (ad 200)), some (.int (zI ↑n)), some (.int (zI ↑c)), some (.long (zL ↑(prN ζ c k))), none, some (.int (zI 0))]) (st' := []) rfl ?_
                            have lt_ : ∀ (n5 a : Nat) (hh : ssH) (r2 : Nat → Nat → Nat), (a ≤ ζ 5 0 ∧ MQs h ad rv m ζ ρ hh (mU (mU mm 27 ↑(sumN (sQN ζ (ρ 2) n) (c + 1))) 28 ↑(sumN (sSN ζ (ρ 2) n) (c + 1))) r2 ∧ r2 3 = tbN ζ (ρ 2) c k ∧ (∀ b, b < ζ 5 0 → r2 8 b = if b < a then sumN (sON ζ (ρ 2) n b) (c + 1) else sumN (sON ζ (ρ 2) n b) c)) → ζ 5 0 + 1 ≤ a + n5 → ssV G mX10_storms 3 0 0 (fun r h' => r = none ∧ mStQ ζ rv m ρ ad h n h') 178 [some (.ref (ad 200)), some (.int (zI ↑n)), some (.int (zI ↑c)), some (.long (zL ↑(prN ζ c k))), none, some (.int (zI ↑a))] [] hh := by
                              intro n5
                              induction n5 with
                              | zero => intro a hh r2 ha1 ha2; exact absurd ha2 (by omega)
                              | succ n5 ihl =>
                                intro a hh r2 ha1 ha2
                                obtain ⟨oa, hr, hr3, hw⟩ := id ha1
                                refine v_run 2 (pc' := 181) (ls' := [some (.ref (ad 200)), some (.int (zI ↑n)), some (.int (zI ↑c)), some (.long (zL ↑(prN ζ c k))), none, some (.int (zI ↑a))]) (st' := [.ref (ad 200), .int (zI ↑a)]) rfl ?_
                                refine v_get rfl hr.1.1.1 rfl ?_
                                refine v_run 0 (pc' := 184) (ls' := [some (.ref (ad 200)), some (.int (zI ↑n)), some (.int (zI ↑c)), some (.long (zL ↑(prN ζ c k))), none, some (.int (zI ↑a))]) (st' := [.ref (ad 210), .int (zI ↑a)]) rfl ?_
                                refine v_get rfl hr.1.1.2.1.1 rfl ?_
                                refine v_run 0 (pc' := 187) (ls' := [some (.ref (ad 200)), some (.int (zI ↑n)), some (.int (zI ↑c)), some (.long (zL ↑(prN ζ c k))), none, some (.int (zI ↑a))]) (st' := [.int (zI ↑(ζ 5 0)), .int (zI ↑a)]) rfl ?_
                                refine v_icmp_ge rfl (fun c187 => ?_) (fun c187 => ?_)
                                · simp (disch := omega) only [zI_lt, zI_le, zI_eq, zI_lt0, zI_le0, zI_0lt, zI_0le, zI_eq0] at c187
                                  refine v_run 2 (pc' := 63) (ls' := [some (.ref (ad 200)), some (.int (zI ↑n)), some (.int ((zI ↑c) + zI 1)), some (.long (zL ↑(prN ζ c k))), none, some (.int (zI ↑a))]) (st' := []) rfl ?_
                                  refine v_drop 3 (ls' := [some (.ref (ad 200)), some (.int (zI ↑n)), some (.int ((zI ↑c) + zI 1)), none, none, some (.int (zI ↑a))]) rfl ?_
                                  refine v_drop 5 (ls' := [some (.ref (ad 200)), some (.int (zI ↑n)), some (.int ((zI ↑c) + zI 1)), none, none, none]) rfl ?_
                                  rw [zI_s1]
                                  exact ihc (c + 1) hh ⟨by omega, _, r2, hr, by rw [← g26]; rfl, rfl, rfl, fun b hb => by rw [hw b hb, if_pos (by omega)]⟩ (by omega)
                                · simp (disch := omega) only [zI_lt, zI_le, zI_eq, zI_lt0, zI_le0, zI_0lt, zI_0le, zI_eq0] at c187
                                  have wa := hw a (by omega)
                                  rw [if_neg (by omega)] at wa
                                  refine v_run 1 (pc' := 191) (ls' := [some (.ref (ad 200)), some (.int (zI ↑n)), some (.int (zI ↑c)), some (.long (zL ↑(prN ζ c k))), none, some (.int (zI ↑a))]) (st' := [.ref (ad 200)]) rfl ?_
                                  refine v_get rfl hr.1.1.1 rfl ?_
                                  refine v_run 2 (pc' := 197) (ls' := [some (.ref (ad 200)), some (.int (zI ↑n)), some (.int (zI ↑c)), some (.long (zL ↑(prN ζ c k))), none, some (.int (zI ↑a))]) (st' := [.int (zI ↑a), .ref (ad 208), .int (zI ↑a), .ref (ad 208)]) rfl ?_
                                  refine v_laload' rfl hr.1.2.2.2.2.2.2.2 (i := a) rfl (by omega) ?_
                                  refine v_run 0 (pc' := 198) (ls' := [some (.ref (ad 200)), some (.int (zI ↑n)), some (.int (zI ↑c)), some (.long (zL ↑(prN ζ c k))), none, some (.int (zI ↑a))]) (st' := [.long (zL ↑(r2 8 a)), .int (zI ↑a), .ref (ad 208)]) rfl ?_
                                  rw [show (zL ↑(r2 8 a) : Int64) = zL ↑(sumN (sON ζ (ρ 2) n a) c) from by rw [wa]]
                                  refine v_run 1 (pc' := 199) (ls' := [some (.ref (ad 200)), some (.int (zI ↑n)), some (.int (zI ↑c)), some (.long (zL ↑(prN ζ c k))), none, some (.int (zI ↑a))]) (st' := [.ref (ad 200), .long (zL ↑(sumN (sON ζ (ρ 2) n a) c)), .int (zI ↑a), .ref (ad 208)]) rfl ?_
                                  refine v_get rfl hr.1.1.1 rfl ?_
                                  refine v_run 3 (pc' := 207) (ls' := [some (.ref (ad 200)), some (.int (zI ↑n)), some (.int (zI ↑c)), some (.long (zL ↑(prN ζ c k))), none, some (.int (zI ↑a))]) (st' := [.int ((zI 12) + (zI ↑a)), .ref (ad 203), .long (zL ↑(sumN (sON ζ (ρ 2) n a) c)), .int (zI ↑a), .ref (ad 208)]) rfl ?_
                                  refine v_iaload' rfl hr.1.1.2.2 (i := (12 + a)) (zN_add 12 a) (by omega) ?_
                                  refine v_run 0 (pc' := 208) (ls' := [some (.ref (ad 200)), some (.int (zI ↑n)), some (.int (zI ↑c)), some (.long (zL ↑(prN ζ c k))), none, some (.int (zI ↑a))]) (st' := [.int (zI ↑(r2 3 (12 + a))), .long (zL ↑(sumN (sON ζ (ρ 2) n a) c)), .int (zI ↑a), .ref (ad 208)]) rfl ?_
                                  rw [show (zI ↑(r2 3 (12 + a)) : Int32) = zI ↑((tbN ζ (ρ 2) c k) (12 + a)) from congrArg (fun n : Nat => zI ↑n) (by rw [hr3])]
                                  have o12 := ox7.2.2.1 a (by omega)
                                  refine v_if_le rfl (fun c208 => ?_) (fun c208 => ?_)
                                  · simp (disch := omega) only [zI_lt, zI_le, zI_eq, zI_lt0, zI_le0, zI_0lt, zI_0le, zI_eq0] at c208
                                    refine v_run 2 (pc' := 217) (ls' := [some (.ref (ad 200)), some (.int (zI ↑n)), some (.int (zI ↑c)), some (.long (zL ↑(prN ζ c k))), none, some (.int (zI ↑a))]) (st' := [.long ((zL ↑(sumN (sON ζ (ρ 2) n a) c)) + (zL 0)), .int (zI ↑a), .ref (ad 208)]) rfl ?_
                                    rw [show ((zL ↑(sumN (sON ζ (ρ 2) n a) c)) + (zL 0) : Int64) = zL ↑(sumN (sON ζ (ρ 2) n a) (c + 1)) from by rw [show (zL 0) = zL ((0 : Nat) : Int) from rfl, zLN_add]; simp only [sumN]; rw [show sON ζ (ρ 2) n a c = 0 from by unfold sON; rw [← kn, if_neg (by omega)]]]
                                    refine v_lastore' rfl hr.1.2.2.2.2.2.2.2 (i := a) rfl (by omega) ?_
                                    rw [arL_upd]
                                    generalize e10 : hset hh (ad 208) _ = h10
                                    refine v_run 2 (pc' := 178) (ls' := [some (.ref (ad 200)), some (.int (zI ↑n)), some (.int (zI ↑c)), some (.long (zL ↑(prN ζ c k))), none, some (.int ((zI ↑a) + zI 1))]) (st' := []) rfl ?_
                                    rw [zI_s1]
                                    exact ihl (a + 1) h10 _ ⟨by omega, ⟨hr.1.l8 hA e10, hr.2.1, ⟨hr.2.2.1.1, hr.2.2.1.2.1, hr.2.2.1.2.2⟩, hr.2.2.2.k e10 (by decide)⟩, hr3, mW_st (P := fun b => sumN (sON ζ (ρ 2) n b) (c + 1)) (R := fun b => sumN (sON ζ (ρ 2) n b) c) hw⟩ (by omega)
                                  · simp (disch := omega) only [zI_lt, zI_le, zI_eq, zI_lt0, zI_le0, zI_0lt, zI_0le, zI_eq0] at c208
                                    refine v_run 3 (pc' := 217) (ls' := [some (.ref (ad 200)), some (.int (zI ↑n)), some (.int (zI ↑c)), some (.long (zL ↑(prN ζ c k))), none, some (.int (zI ↑a))]) (st' := [.long ((zL ↑(sumN (sON ζ (ρ 2) n a) c)) + (zL ↑(prN ζ c k))), .int (zI ↑a), .ref (ad 208)]) rfl ?_
                                    rw [show ((zL ↑(sumN (sON ζ (ρ 2) n a) c)) + (zL ↑(prN ζ c k)) : Int64) = zL ↑(sumN (sON ζ (ρ 2) n a) (c + 1)) from by rw [zLN_add]; simp only [sumN]; rw [show sON ζ (ρ 2) n a c = prN ζ c k from by unfold sON; rw [← kn, if_pos (by omega)]]]
                                    refine v_lastore' rfl hr.1.2.2.2.2.2.2.2 (i := a) rfl (by omega) ?_
                                    rw [arL_upd]
                                    generalize e10 : hset hh (ad 208) _ = h10
                                    refine v_run 2 (pc' := 178) (ls' := [some (.ref (ad 200)), some (.int (zI ↑n)), some (.int (zI ↑c)), some (.long (zL ↑(prN ζ c k))), none, some (.int ((zI ↑a) + zI 1))]) (st' := []) rfl ?_
                                    rw [zI_s1]
                                    exact ihl (a + 1) h10 _ ⟨by omega, ⟨hr.1.l8 hA e10, hr.2.1, ⟨hr.2.2.1.1, hr.2.2.1.2.1, hr.2.2.1.2.2⟩, hr.2.2.2.k e10 (by decide)⟩, hr3, mW_st (P := fun b => sumN (sON ζ (ρ 2) n b) (c + 1)) (R := fun b => sumN (sON ζ (ρ 2) n b) c) hw⟩ (by omega)
                            exact lt_ (ζ 5 0 + 1) 0 h9 _ ⟨by omega, q9, rfl, fun b hb => by rw [if_neg (by omega)]; exact g8 b hb⟩ (by omega)
                        · simp (disch := omega) only [zI_lt, zI_le, zI_eq, zI_lt0, zI_le0, zI_0lt, zI_0le, zI_eq0] at c82
                          refine v_run 3 (pc' := 89) (ls' := [some (.ref (ad 200)), some (.int (zI ↑n)), some (.int (zI ↑c)), some (.long (zL ↑(prN ζ c k))), none, some (.int (zI ↑k))]) (st' := [.int (zI ↑k), .int (zI ↑c), .ref (ad 200)]) rfl ?_
                          refine v_callS (My := mX10_bit) (As := [.int (zI ↑c), .int (zI ↑k)]) (rest := [.ref (ad 200)]) (mc := 0) (ms := 0) rfl caX10_bit rfl rfl (q_bit G _ c k (by omega) (by omega)) rfl rfl (Nat.le_of_ble_eq_true rfl) (by omega) ?_
                          rintro _ _ ⟨rfl, rfl⟩
                          refine v_run 0 (pc' := 92) (ls' := [some (.ref (ad 200)), some (.int (zI ↑n)), some (.int (zI ↑c)), some (.long (zL ↑(prN ζ c k))), none, some (.int (zI ↑k))]) (st' := [.int (zb (bitN c k)), .ref (ad 200)]) rfl ?_
                          refine v_callV (My := mX10_aDay) (As := [.int (zb (bitN c k))]) (rest := []) (mc := 0) (ms := 0) rfl caX10_aDay rfl rfl rfl hx7.1 rfl rfl (q_aDay G _ (bitN c k) hA hx7 hz ox7 (by omega)) rfl rfl (Nat.le_of_ble_eq_true rfl) (by omega) ?_
                          rintro _ _ ⟨rfl, rfl⟩
                          rw [hset_hset]
                          refine v_run 0 (pc' := 95) (ls' := [some (.ref (ad 200)), some (.int (zI ↑n)), some (.int (zI ↑c)), some (.long (zL ↑(prN ζ c k))), none, some (.int (zI ↑k))]) (st' := []) rfl ?_
                          refine v_run 3 (pc' := 99) (ls' := [some (.ref (ad 200)), some (.int (zI ↑n)), some (.int (zI ↑c)), some (.long (zL ↑(prN ζ c k))), none, some (.int (zI ↑k))]) (st' := [.int (zI ↑k), .int (zI ↑c), .long (zL ↑(prN ζ c k))]) rfl ?_
                          refine v_callS (My := mX10_bit) (As := [.int (zI ↑c), .int (zI ↑k)]) (rest := [.long (zL ↑(prN ζ c k))]) (mc := 0) (ms := 0) rfl caX10_bit rfl rfl (q_bit G _ c k (by omega) (by omega)) rfl rfl (Nat.le_of_ble_eq_true rfl) (by omega) ?_
                          rintro _ _ ⟨rfl, rfl⟩
                          refine v_run 0 (pc' := 102) (ls' := [some (.ref (ad 200)), some (.int (zI ↑n)), some (.int (zI ↑c)), some (.long (zL ↑(prN ζ c k))), none, some (.int (zI ↑k))]) (st' := [.int (zb (bitN c k)), .long (zL ↑(prN ζ c k))]) rfl ?_
                          refine v_if_eq rfl (fun c102 => ?_) (fun c102 => ?_)
                          · rw [zb_0] at c102
                            refine v_run 2 (pc' := 119) (ls' := [some (.ref (ad 200)), some (.int (zI ↑n)), some (.int (zI ↑c)), some (.long (zL ↑(prN ζ c k))), none, some (.int (zI ↑k))]) (st' := [.ref (ad 200), .int (zI 100), .long (zL ↑(prN ζ c k))]) rfl ?_
                            refine v_get rfl (hx6.x hA (mD ζ (bitN c k) (tbN ζ (ρ 2) c k))).1 rfl ?_
                            refine v_run 0 (pc' := 122) (ls' := [some (.ref (ad 200)), some (.int (zI ↑n)), some (.int (zI ↑c)), some (.long (zL ↑(prN ζ c k))), none, some (.int (zI ↑k))]) (st' := [.ref (ad 210), .int (zI 100), .long (zL ↑(prN ζ c k))]) rfl ?_
                            refine v_get rfl (hx6.x hA (mD ζ (bitN c k) (tbN ζ (ρ 2) c k))).2.1.1 rfl ?_
                            refine v_run 2 (pc' := 127) (ls' := [some (.ref (ad 200)), some (.int (zI ↑n)), some (.int (zI ↑c)), some (.long (zL ↑(prN ζ c k))), none, some (.int (zI ↑k))]) (st' := [.long (((zI 100) - (zI ↑(ζ 2 0))).toInt64), .long (zL ↑(prN ζ c k))]) rfl ?_
                            rw [show (((zI 100) - (zI ↑(ζ 2 0))).toInt64 : Int64) = zL ↑(100 - ζ 2 0) from by rw [show (zI 100) = zI ((100 : Nat) : Int) from rfl, zN_sub (by omega), zI_l (by omega) (by omega)]]
                            refine v_run 1 (pc' := 128) (ls' := [some (.ref (ad 200)), some (.int (zI ↑n)), some (.int (zI ↑c)), some (.long (zL ↑(prN ζ c k))), none, some (.int (zI ↑k))]) (st' := [.long ((zL ↑(prN ζ c k)) * (zL ↑(100 - ζ 2 0)))]) rfl ?_
                            rw [show ((zL ↑(prN ζ c k)) * (zL ↑(100 - ζ 2 0)) : Int64) = zL ↑(prN ζ c (k + 1)) from by rw [zLN_mul]; simp only [prN]; rw [c102]; rfl]
                            refine v_run 3 (pc' := 79) (ls' := [some (.ref (ad 200)), some (.int (zI ↑n)), some (.int (zI ↑c)), some (.long (zL ↑(prN ζ c (k + 1)))), none, some (.int ((zI ↑k) + zI 1))]) (st' := []) rfl ?_
                            rw [zI_s1]
                            exact ih3 (k + 1) (by omega) (by omega)
                          · rw [zb_0, Bool.not_eq_false] at c102
                            refine v_run 1 (pc' := 106) (ls' := [some (.ref (ad 200)), some (.int (zI ↑n)), some (.int (zI ↑c)), some (.long (zL ↑(prN ζ c k))), none, some (.int (zI ↑k))]) (st' := [.ref (ad 200), .long (zL ↑(prN ζ c k))]) rfl ?_
                            refine v_get rfl (hx6.x hA (mD ζ (bitN c k) (tbN ζ (ρ 2) c k))).1 rfl ?_
                            refine v_run 0 (pc' := 109) (ls' := [some (.ref (ad 200)), some (.int (zI ↑n)), some (.int (zI ↑c)), some (.long (zL ↑(prN ζ c k))), none, some (.int (zI ↑k))]) (st' := [.ref (ad 210), .long (zL ↑(prN ζ c k))]) rfl ?_
                            refine v_get rfl (hx6.x hA (mD ζ (bitN c k) (tbN ζ (ρ 2) c k))).2.1.1 rfl ?_
                            refine v_run 2 (pc' := 127) (ls' := [some (.ref (ad 200)), some (.int (zI ↑n)), some (.int (zI ↑c)), some (.long (zL ↑(prN ζ c k))), none, some (.int (zI ↑k))]) (st' := [.long ((zI ↑(ζ 2 0)).toInt64), .long (zL ↑(prN ζ c k))]) rfl ?_
                            rw [show ((zI ↑(ζ 2 0)).toInt64 : Int64) = zL ↑(ζ 2 0) from zI_l (by omega) (by omega)]
                            refine v_run 1 (pc' := 128) (ls' := [some (.ref (ad 200)), some (.int (zI ↑n)), some (.int (zI ↑c)), some (.long (zL ↑(prN ζ c k))), none, some (.int (zI ↑k))]) (st' := [.long ((zL ↑(prN ζ c k)) * (zL ↑(ζ 2 0)))]) rfl ?_
                            rw [show ((zL ↑(prN ζ c k)) * (zL ↑(ζ 2 0)) : Int64) = zL ↑(prN ζ c (k + 1)) from by rw [zLN_mul]; simp only [prN]; rw [c102]; rfl]
                            refine v_run 3 (pc' := 79) (ls' := [some (.ref (ad 200)), some (.int (zI ↑n)), some (.int (zI ↑c)), some (.long (zL ↑(prN ζ c (k + 1)))), none, some (.int ((zI ↑k) + zI 1))]) (st' := []) rfl ?_
                            rw [zI_s1]
                            exact ih3 (k + 1) (by omega) (by omega)
                    have lz := ls (n + 1) 0 (by omega) (by omega)
                    rw [show tbN ζ (ρ 2) c 0 = ρ 2 from rfl, hset_same h6 (a := ad 203) (e := ar 26 (ρ 2)) (hx6.2.2)] at lz
                    exact lz
              exact lr (pw + 1) 0 hh ⟨by omega, I0⟩ (by omega)
            · simp (disch := omega) only [zI_lt, zI_le, zI_eq, zI_lt0, zI_le0, zI_0lt, zI_0le, zI_eq0] at c40
              refine v_run 2 (pc' := 45) (ls' := [some (.ref (ad 200)), some (.int (zI ↑n)), some (.int (zI ↑s)), none, none, none]) (st' := [.ref (ad 200), .ref (ad 200)]) rfl ?_
              refine v_get rfl hi1.2.1.1.1 rfl ?_
              refine v_run 1 (pc' := 51) (ls' := [some (.ref (ad 200)), some (.int (zI ↑n)), some (.int (zI ↑s)), none, none, none]) (st' := [.long (zL 100), .long (zL ((mU (mU (mU (mU m 26 1) 27 0) 28 0) 26 ↑(100 ^ s)) 26)), .ref (ad 200)]) rfl ?_
              rw [show (zL ((mU (mU (mU (mU m 26 1) 27 0) 28 0) 26 ↑(100 ^ s)) 26) : Int64) = zL ↑(100 ^ s) from rfl]
              refine v_run 1 (pc' := 52) (ls' := [some (.ref (ad 200)), some (.int (zI ↑n)), some (.int (zI ↑s)), none, none, none]) (st' := [.long ((zL ↑(100 ^ s)) * (zL 100)), .ref (ad 200)]) rfl ?_
              rw [show ((zL ↑(100 ^ s)) * (zL 100) : Int64) = zL ↑(100 ^ (s + 1)) from by rw [zL_mul, ← Int.pow_succ]]
              refine v_put rfl hi1.2.1.1.1 rfl rfl (Nat.le_of_ble_eq_true rfl) ?_
              generalize e5 : hset hh (ad 200) _ = h5
              have q5 : MQs h ad rv m ζ ρ h5 (mU (mU (mU (mU m 26 1) 27 0) 28 0) 26 ↑(100 ^ (s + 1))) r4 := ⟨by rw [← mU_mU (mU (mU (mU m 26 1) 27 0) 28 0) 26 ↑(100 ^ s)]; exact hi1.2.1.ob hA e5, hi1.2.2.1, hi1.2.2.2.1, hi1.2.2.2.2.ob e5⟩
              refine v_run 2 (pc' := 38) (ls' := [some (.ref (ad 200)), some (.int (zI ↑n)), some (.int ((zI ↑s) + zI 1)), none, none, none]) (st' := []) rfl ?_
              rw [zI_s1]
              exact ih2 (s + 1) h5 ⟨by omega, q5⟩ (by omega)
        exact lq (n + 1) 0 h4 ⟨by omega, q4⟩ (by omega)
      · simp (disch := omega) only [zI_lt, zI_le, zI_eq, zI_lt0, zI_le0, zI_0lt, zI_0le, zI_eq0] at c20
        refine v_run 1 (pc' := 24) (ls' := [some (.ref (ad 200)), some (.int (zI ↑n)), some (.int (zI ↑s)), none, none, none]) (st' := [.ref (ad 200)]) rfl ?_
        refine v_get rfl ((hset_ne _ _ (ad_ne hA (by decide))).trans t3.1.1) rfl ?_
        refine v_run 2 (pc' := 29) (ls' := [some (.ref (ad 200)), some (.int (zI ↑n)), some (.int (zI ↑s)), none, none, none]) (st' := [.long (zL 0), .int (zI ↑s), .ref (ad 208)]) rfl ?_
        refine v_lastore' rfl (hset_self _ _ _) (i := s) rfl (by omega) ?_
        rw [show (zL 0) = zL ↑(0 : Nat) from rfl, arL_upd, hset_hset, show (fun j => if j = s then 0 else (fun k => if k < s then 0 else ρ 8 k) j) = (fun k => if k < s + 1 then 0 else ρ 8 k) from fill_step (g := fun _ => 0) s]
        refine v_run 2 (pc' := 17) (ls' := [some (.ref (ad 200)), some (.int (zI ↑n)), some (.int ((zI ↑s) + zI 1)), none, none, none]) (st' := []) rfl ?_
        rw [zI_s1]
        exact ih (s + 1) (by omega) (by omega)
  have lz := lp 7 0 (by omega) (by omega)
  rw [show (fun k => if k < 0 then 0 else ρ 8 k) = ρ 8 from by funext t; simp, hset_same h3 t3.2.2.2.2.2.2.2] at lz
  exact lz

