/-- the end of an act -/
def mAt (ζ : Nat → Nat → Nat) (rv : Value) (m : Nat → Int) (ad : Nat → Nat) (h : ssH) (t : Int) (V P K : Nat → Nat) (a19 a20 : Int) (h' : ssH) : Prop := ∃ m' ρ', MT h' ad rv m' ζ ρ' ∧ (m' 0 = 0 ∧ m' 1 = t ∧ m' 2 = -1 ∧ m' 6 = m 6 ∧ m' 12 = m 12 ∧ m' 19 = a19 ∧ m' 20 = a20) ∧ (ρ' 2 = V ∧ ρ' 4 = P ∧ ρ' 5 = K) ∧ frM ad h h'
def mA (ζ : Nat → Nat → Nat) (rv : Value) (m : Nat → Int) (ad : Nat → Nat) (h : ssH) (t : Int) (V P K : Nat → Nat) (a19 a20 : Int) (v : Value) : Option Value → ssH → Prop := fun r h' => r = some v ∧ mAt ζ rv m ad h t V P K a19 a20 h'
section MQA
variable {h h1 h' : ssH} {ad : Nat → Nat} {rv : Value} {m m1 : Nat → Int} {ζ ρ ρ1 : Nat → Nat → Nat}
theorem MQs.finA (hA : ∀ k l, ad k = ad l → k = l) (q : MQs h ad rv (mU m 0 0) ζ ρ h1 m1 ρ1) {t : Int} (e : hset h1 (ad 200) (.inr (10, obM ad (.ref (ad 210)) rv (mT m1 t))) = h') : mAt ζ rv m ad h t (ρ 2) (ρ 4) (ρ 5) (m 19) (m 20) h' := q.fin hA e
theorem mFin (ht : MT h1 ad rv m1 ζ ρ1) (hA : ∀ k l, ad k = ad l → k = l) (hf : frM ad h h1) {t a19 a20 : Int} {V P K : Nat → Nat} (e : hset h1 (ad 200) (.inr (10, obM ad (.ref (ad 210)) rv (mT m1 t))) = h') (hm : m1 0 = 0 ∧ m1 6 = m 6 ∧ m1 12 = m 12 ∧ m1 19 = a19 ∧ m1 20 = a20) (hr : ρ1 2 = V ∧ ρ1 4 = P ∧ ρ1 5 = K) : mAt ζ rv m ad h t V P K a19 a20 h' :=
  ⟨mT m1 t, ρ1, ht.ob hA e, ⟨hm.1, rfl, rfl, hm.2.1, hm.2.2.1, hm.2.2.2.1, hm.2.2.2.2⟩, hr, hf.ob e⟩
end MQA
theorem vfull {V X : Nat → Nat} (h : ∀ k, 26 ≤ k → V k = X k) : (fun k => if k < 26 then X k else V k) = X := by
  funext k
  by_cases hk : k < 26
  · simp [hk]
  · simp [hk, h k (by omega)]
def cpV (R : Nat → Nat) (d : Nat) : Nat → Nat := fun k => if k < 26 then R (26 * d + k) else 0
theorem cpV_eq {R V : Nat → Nat} {d : Nat} (h : ∀ k, 26 ≤ k → V k = 0) : (fun k => if k < 26 then R (26 * d + k) else V k) = cpV R d := by
  funext k
  unfold cpV
  by_cases hk : k < 26
  · simp [hk]
  · simp [hk, h k (by omega)]
theorem mDr_ok {ζ : Nat → Nat → Nat} {V : Nat → Nat} (hz : SaOk ζ) (hV : XOk V) : XOk (mDr ζ V) := mD_ok hz (mX25_ok hV (mSd_le _))
def bDayP (ζ : Nat → Nat → Nat) (rv : Value) (m : Nat → Int) (ρ : Nat → Nat → Nat) (ad : Nat → Nat) (h : ssH) (c : Nat) : Option Value → ssH → Prop := if ρ 2 23 = 99 then mA ζ rv m ad h 3 (ρ 2) (ρ 4) (ρ 5) (m 19) (m 20) (.int (zI (-1))) else mA ζ rv m ad h 0 (mDr ζ (ρ 2)) (mRm ρ c) (ρ 5) (↑(min c 15) + 1) (m 20) (.int (zI ↑(mG ζ (mDr ζ (ρ 2)))))
def mMvS (V : Nat → Nat) (s h : Nat) : Nat → Nat := fun j => if j = s then h else V j
def mMv (V : Nat → Nat) (s h sc : Nat) : Nat → Nat := if cWho V h sc = -2 then mMvS V s h else mMvS (fun i => if i = (cWho V h sc).toNat then V s else V i) s h
def bMoveP (ζ : Nat → Nat → Nat) (rv : Value) (m : Nat → Int) (ρ : Nat → Nat → Nat) (ad : Nat → Nat) (h : ssH) (c : Nat) (s n : Int) : Option Value → ssH → Prop := if ¬ (0 ≤ s ∧ s < ↑(ζ 5 0)) ∨ ¬ (0 ≤ n ∧ n < ↑(ζ 4 0)) then mA ζ rv m ad h 1 (ρ 2) (ρ 4) (ρ 5) (m 19) (m 20) (.int (zI (-1))) else if (↑(ρ 2 s.toNat) : Int) = n then mA ζ rv m ad h 5 (ρ 2) (ρ 4) (ρ 5) (m 19) (m 20) (.int (zI (-1))) else mA ζ rv m ad h 0 (mMv (ρ 2) s.toNat n.toNat (ζ 5 0)) (mRm ρ c) (ρ 5) (↑(min c 15) + 1) (m 20) (.int (zI (cWho (ρ 2) n.toNat (ζ 5 0))))
def bSaltP (ζ : Nat → Nat → Nat) (rv : Value) (m : Nat → Int) (ρ : Nat → Nat → Nat) (ad : Nat → Nat) (h : ssH) (c : Nat) (s : Int) : Option Value → ssH → Prop := if ¬ (0 ≤ s ∧ s < ↑(ζ 5 0)) then mA ζ rv m ad h 1 (ρ 2) (ρ 4) (ρ 5) (m 19) (m 20) (.int (zI 0)) else if ρ 2 (6 + s.toNat) = 1 ∨ ρ 2 (12 + s.toNat) = 0 then mA ζ rv m ad h 5 (ρ 2) (ρ 4) (ρ 5) (m 19) (m 20) (.int (zI 0)) else if ρ 2 24 = 0 then mA ζ rv m ad h 6 (ρ 2) (ρ 4) (ρ 5) (m 19) (m 20) (.int (zI 0)) else mA ζ rv m ad h 0 (fun j => if j = 24 then ρ 2 24 - 1 else (fun j => if j = 6 + s.toNat then 1 else ρ 2 j) j) (mRm ρ c) (ρ 5) (↑(min c 15) + 1) (m 20) (.int (zI 1))
def bSeedP (ζ : Nat → Nat → Nat) (rv : Value) (m : Nat → Int) (ρ : Nat → Nat → Nat) (ad : Nat → Nat) (h : ssH) (s : Int) : Option Value → ssH → Prop := if ¬ (0 ≤ s ∧ s ≤ 65536) then mA ζ rv m ad h 2 (ρ 2) (ρ 4) (ρ 5) (m 19) (m 20) (.int (zI 0)) else mA ζ rv m ad h 0 (mX25 (ρ 2) s.toNat) (ρ 4) (ρ 5) (m 19) (m 20) (.int (zI 1))
def bUndoP (ζ : Nat → Nat → Nat) (rv : Value) (m : Nat → Int) (ρ : Nat → Nat → Nat) (ad : Nat → Nat) (h : ssH) (c : Nat) : Option Value → ssH → Prop := if c = 0 then mA ζ rv m ad h 6 (ρ 2) (ρ 4) (ρ 5) (m 19) (m 20) (.int (zI 0)) else mA ζ rv m ad h 0 (cpV (ρ 4) (c - 1)) (ρ 4) (ρ 5) (↑(c - 1)) (m 20) (.int (zI 1))
def bImageP (ζ : Nat → Nat → Nat) (rv : Value) (m : Nat → Int) (ρ : Nat → Nat → Nat) (ad : Nat → Nat) (h : ssH) (i : Nat) : Option Value → ssH → Prop := if i = 3 then mA ζ rv m ad h 3 (ρ 2) (ρ 4) (ρ 5) (m 19) (m 20) (.int (zI (-1))) else mA ζ rv m ad h 0 (ρ 2) (ρ 4) (mRe (ρ 5) (ρ 2) i 26) (m 19) (↑(i + 1)) (.int (zI ↑i))
def bBackP (ζ : Nat → Nat → Nat) (rv : Value) (m : Nat → Int) (ρ : Nat → Nat → Nat) (ad : Nat → Nat) (h : ssH) (i : Nat) (s : Int) : Option Value → ssH → Prop := if s < 0 ∨ ↑i ≤ s then mA ζ rv m ad h 1 (ρ 2) (ρ 4) (ρ 5) (m 19) (m 20) (.int (zI 0)) else mA ζ rv m ad h 0 (cpV (ρ 5) s.toNat) (ρ 4) (ρ 5) 0 (m 20) (.int (zI 1))
set_option maxRecDepth 100000 in
set_option maxHeartbeats 400000 in
theorem q_day (G : ssG) (h : ssH) {ad : Nat → Nat} {rv : Value} {m : Nat → Int} {ζ ρ : Nat → Nat → Nat} (c : Nat) (hA : ∀ k l, ad k = ad l → k = l) (ht : MT h ad rv m ζ ρ) (hz : SaOk ζ) (hV : XOk (ρ 2)) (hd : ρ 2 23 ≤ 99) (hc : m 19 = ↑c) (hc16 : c ≤ 16) : ssC G mX10_day 4 0 0 [.ref (ad 200)] h (bDayP ζ rv m ρ ad h c) := by
  refine c_of_v okX10_day (by decide +kernel) (ls := [some (.ref (ad 200)), none]) rfl (Nat.le_of_ble_eq_true rfl) ?_
  obtain ⟨z0, z1, z2, z3, z4, z5, z6, z9, z12, z13, z14, z15, z16, z17, z18, z19, z20⟩ := id hz
  refine v_run 2 (pc' := 2) (ls' := [some (.ref (ad 200)), none]) (st' := [.int (zI 0), .ref (ad 200)]) rfl ?_
  refine v_put rfl ht.1.1 rfl rfl (Nat.le_of_ble_eq_true rfl) ?_
  generalize e1 : hset h (ad 200) _ = h1
  have q1 : MQs h ad rv (mU m 0 0) ζ ρ h1 (mU m 0 0) ρ := ⟨ht.ob hA e1, mSm.rf _, rSm.rf ρ, (frM.rf ad h).ob e1⟩
  refine v_run 1 (pc' := 6) (ls' := [some (.ref (ad 200)), none]) (st' := [.ref (ad 200)]) rfl ?_
  refine v_get rfl q1.1.1.1 rfl ?_
  refine v_run 2 (pc' := 19) (ls' := [some (.ref (ad 200)), none]) (st' := [.ref (ad 200)]) rfl ?_
  refine v_get rfl q1.1.1.1 rfl ?_
  refine v_run 1 (pc' := 24) (ls' := [some (.ref (ad 200)), none]) (st' := [.int (zI 23), .ref (ad 202)]) rfl ?_
  refine v_iaload' rfl q1.1.2.2.1 (i := 23) rfl (by decide) ?_
  refine v_run 1 (pc' := 27) (ls' := [some (.ref (ad 200)), none]) (st' := [.int (zI 99), .int (zI ↑(ρ 2 23))]) rfl ?_
  refine v_icmp_ne rfl (fun c27 => ?_) (fun c27 => ?_)
  · simp (disch := omega) only [zI_lt, zI_le, zI_eq, zI_lt0, zI_le0, zI_0lt, zI_0le, zI_eq0] at c27
    refine v_run 1 (pc' := 37) (ls' := [some (.ref (ad 200)), none]) (st' := [.ref (ad 200)]) rfl ?_
    refine v_callV (My := mX10_remembers) (As := []) (rest := []) (mc := 0) (ms := 0) rfl caX10_remembers rfl rfl rfl q1.1.1.1 rfl rfl (q_remembers G _ c hA q1.1 hz hc hc16) rfl rfl (Nat.le_of_ble_eq_true rfl) (by omega) ?_
    rintro _ h2 ⟨rfl, t2, f2⟩
    refine v_run 0 (pc' := 40) (ls' := [some (.ref (ad 200)), none]) (st' := []) rfl ?_
    have f2 := q1.2.2.2.tr f2
    have x3 : XOk (rU ρ 4 (mRm ρ c) 3) := t2.2.1
    refine v_run 1 (pc' := 41) (ls' := [some (.ref (ad 200)), none]) (st' := [.ref (ad 200)]) rfl ?_
    refine v_callV (My := mX10_works) (As := []) (rest := []) (mc := 0) (ms := 0) rfl caX10_works rfl rfl rfl t2.1.1 rfl rfl (q_works G _ hA t2.1 hz t2.2.1 t2.2.2.1 hV) rfl rfl (Nat.le_of_ble_eq_true rfl) (by omega) ?_
    rintro _ h3 ⟨rfl, e3⟩
    refine v_run 0 (pc' := 44) (ls' := [some (.ref (ad 200)), none]) (st' := []) rfl ?_
    have t3 := t2.xs hA e3 hV
    have f3 := f2.k e3 (by decide)
    refine v_run 1 (pc' := 45) (ls' := [some (.ref (ad 200)), none]) (st' := [.ref (ad 200)]) rfl ?_
    refine v_callV (My := mX10_aDrawnDay) (As := []) (rest := []) (mc := 0) (ms := 0) rfl caX10_aDrawnDay rfl rfl rfl t3.1.1 rfl rfl (q_aDrawnDay G _ hA t3.1 hz t3.2.1 (by show ρ 2 23 ≤ 1000; omega)) rfl rfl (Nat.le_of_ble_eq_true rfl) (by omega) ?_
    rintro _ h4 ⟨rfl, e4⟩
    refine v_run 0 (pc' := 48) (ls' := [some (.ref (ad 200)), none]) (st' := [.int (zb (mThu ζ (ρ 2)))]) rfl ?_
    have ox : XOk (mDr ζ (ρ 2)) := mDr_ok hz hV
    have t4 := t3.xs hA e4 ox
    have f4 := f3.k e4 (by decide)
    refine v_run 3 (pc' := 51) (ls' := [some (.ref (ad 200)), some (.int (zI 0))]) (st' := []) rfl ?_
    have lp : ∀ (n s : Nat), s ≤ 26 → 26 + 1 ≤ s + n → ssV G mX10_day 4 0 0 (bDayP ζ rv m ρ ad h c) 51 [some (.ref (ad 200)), some (.int (zI ↑s))] [] (hset h4 (ad 202) (ar 26 (fun k => if k < s then mDr ζ (ρ 2) k else ρ 2 k))) := by
      intro n
      induction n with
      | zero => intro s hs1 hs2; exact absurd hs2 (by omega)
      | succ n ih =>
        intro s hs1 hs2
        refine v_run 2 (pc' := 54) (ls' := [some (.ref (ad 200)), some (.int (zI ↑s))]) (st' := [.int (zI 26), .int (zI ↑s)]) rfl ?_
        refine v_icmp_ge rfl (fun c54 => ?_) (fun c54 => ?_)
        · simp (disch := omega) only [zI_lt, zI_le, zI_eq, zI_lt0, zI_le0, zI_0lt, zI_0le, zI_eq0] at c54
          have eV : (fun k => if k < s then mDr ζ (ρ 2) k else ρ 2 k) = mDr ζ (ρ 2) := by rw [show s = 26 by omega]; exact vfull (fun k hk => (hV.2.2.2.2.2.2 k hk).trans (ox.2.2.2.2.2.2 k hk).symm)
          rw [eV]
          generalize e5 : hset h4 (ad 202) _ = h5
          have t5 := t4.v2 hA e5
          have f5 := f4.k e5 (by decide)
          refine v_run 2 (pc' := 77) (ls' := [some (.ref (ad 200)), some (.int (zI ↑s))]) (st' := [.ref (ad 200), .ref (ad 200)]) rfl ?_
          refine v_callV (My := mX10_goodNow) (As := []) (rest := [.ref (ad 200)]) (mc := 0) (ms := 0) rfl caX10_goodNow rfl rfl rfl t5.1.1 rfl rfl (q_goodNow G _ hA t5.1 hz t5.2.1) rfl rfl (Nat.le_of_ble_eq_true rfl) (by omega) ?_
          rintro _ _ ⟨rfl, rfl⟩
          refine v_run 0 (pc' := 80) (ls' := [some (.ref (ad 200)), some (.int (zI ↑s))]) (st' := [.int (zI ↑(mG ζ (mDr ζ (ρ 2)))), .ref (ad 200)]) rfl ?_
          refine v_callV (My := mX10_well) (As := [.int (zI ↑(mG ζ (mDr ζ (ρ 2))))]) (rest := []) (mc := 0) (ms := 0) rfl caX10_well rfl rfl rfl t5.1.1 rfl rfl (q_well G _ (zI ↑(mG ζ (mDr ζ (ρ 2)))) t5.1.1) rfl rfl (Nat.le_of_ble_eq_true rfl) (by omega) ?_
          rintro _ h99 ⟨rfl, e99⟩
          refine v_run 0 (pc' := 83) (ls' := [some (.ref (ad 200)), some (.int (zI ↑s))]) (st' := [.int (zI ↑(mG ζ (mDr ζ (ρ 2))))]) rfl ?_
          unfold bDayP
          rw [if_neg (by omega)]
          exact v_iret rfl rfl rfl ⟨rfl, mFin t5 hA f5 e99 ⟨rfl, rfl, rfl, rfl, rfl⟩ ⟨rfl, rfl, rfl⟩⟩
        · simp (disch := omega) only [zI_lt, zI_le, zI_eq, zI_lt0, zI_le0, zI_0lt, zI_0le, zI_eq0] at c54
          refine v_run 1 (pc' := 58) (ls' := [some (.ref (ad 200)), some (.int (zI ↑s))]) (st' := [.ref (ad 200)]) rfl ?_
          refine v_get rfl ((hset_ne _ _ (ad_ne hA (by decide))).trans t4.1.1) rfl ?_
          refine v_run 2 (pc' := 63) (ls' := [some (.ref (ad 200)), some (.int (zI ↑s))]) (st' := [.ref (ad 200), .int (zI ↑s), .ref (ad 202)]) rfl ?_
          refine v_get rfl ((hset_ne _ _ (ad_ne hA (by decide))).trans t4.1.1) rfl ?_
          refine v_run 1 (pc' := 67) (ls' := [some (.ref (ad 200)), some (.int (zI ↑s))]) (st' := [.int (zI ↑s), .ref (ad 203), .int (zI ↑s), .ref (ad 202)]) rfl ?_
          refine v_iaload' rfl ((hset_ne _ _ (ad_ne hA (by decide))).trans t4.1.2.2) (i := s) rfl (by omega) ?_
          refine v_run 0 (pc' := 68) (ls' := [some (.ref (ad 200)), some (.int (zI ↑s))]) (st' := [.int (zI ↑(mDr ζ (ρ 2) s)), .int (zI ↑s), .ref (ad 202)]) rfl ?_
          refine v_iastore' rfl (hset_self _ _ _) (i := s) rfl (by omega) ?_
          rw [ar_upd, hset_hset, show (fun j => if j = s then mDr ζ (ρ 2) s else (fun k => if k < s then mDr ζ (ρ 2) k else ρ 2 k) j) = (fun k => if k < s + 1 then mDr ζ (ρ 2) k else ρ 2 k) from fill_step s]
          refine v_run 2 (pc' := 51) (ls' := [some (.ref (ad 200)), some (.int ((zI ↑s) + zI 1))]) (st' := []) rfl ?_
          rw [zI_s1]
          exact ih (s + 1) (by omega) (by omega)
    have lz := lp 27 0 (by omega) (by omega)
    rw [show (fun k => if k < 0 then mDr ζ (ρ 2) k else ρ 2 k) = ρ 2 from by funext t; simp, hset_same h4 (a := ad 202) (e := ar 26 (ρ 2)) t4.2.2.1] at lz
    exact lz
  · simp (disch := omega) only [zI_lt, zI_le, zI_eq, zI_lt0, zI_le0, zI_0lt, zI_0le, zI_eq0] at c27
    unfold bDayP
    refine v_run 2 (pc' := 32) (ls' := [some (.ref (ad 200)), none]) (st' := [.int (zI 3), .ref (ad 200)]) rfl ?_
    refine v_callV (My := mX10_refused) (As := [.int (zI 3)]) (rest := []) (mc := 0) (ms := 0) rfl caX10_refused rfl rfl rfl q1.1.1.1 rfl rfl (q_refused G _ 3 q1.1.1.1) rfl rfl (Nat.le_of_ble_eq_true rfl) (by omega) ?_
    rintro _ h99 ⟨rfl, e99⟩
    refine v_run 0 (pc' := 35) (ls' := [some (.ref (ad 200)), none]) (st' := [.int (zI (-1))]) rfl ?_
    rw [if_pos (by omega)]
    exact v_iret rfl rfl rfl ⟨rfl, q1.finA hA e99⟩

set_option maxRecDepth 100000 in
set_option maxHeartbeats 400000 in
theorem q_move (G : ssG) (h : ssH) {ad : Nat → Nat} {rv : Value} {m : Nat → Int} {ζ ρ : Nat → Nat → Nat} (s n : Int) (c : Nat) (hA : ∀ k l, ad k = ad l → k = l) (ht : MT h ad rv m ζ ρ) (hz : SaOk ζ) (hV : XOk (ρ 2)) (hd : ρ 2 23 ≤ 99) (hs : -2147483648 ≤ s ∧ s < 2147483648) (hn : -2147483648 ≤ n ∧ n < 2147483648) (hc : m 19 = ↑c) (hc16 : c ≤ 16) : ssC G mX10_move 2 0 0 [.ref (ad 200), .int (zI s), .int (zI n)] h (bMoveP ζ rv m ρ ad h c s n) := by
  refine c_of_v okX10_move (by decide +kernel) (ls := [some (.ref (ad 200)), some (.int (zI s)), some (.int (zI n)), none]) rfl (Nat.le_of_ble_eq_true rfl) ?_
  obtain ⟨z0, z1, z2, z3, z4, z5, z6, z9, z12, z13, z14, z15, z16, z17, z18, z19, z20⟩ := id hz
  refine v_run 2 (pc' := 2) (ls' := [some (.ref (ad 200)), some (.int (zI s)), some (.int (zI n)), none]) (st' := [.int (zI 0), .ref (ad 200)]) rfl ?_
  refine v_put rfl ht.1.1 rfl rfl (Nat.le_of_ble_eq_true rfl) ?_
  generalize e1 : hset h (ad 200) _ = h1
  have q1 : MQs h ad rv (mU m 0 0) ζ ρ h1 (mU m 0 0) ρ := ⟨ht.ob hA e1, mSm.rf _, rSm.rf ρ, (frM.rf ad h).ob e1⟩
  refine v_run 2 (pc' := 7) (ls' := [some (.ref (ad 200)), some (.int (zI s)), some (.int (zI n)), none]) (st' := [.int (zI s), .ref (ad 200)]) rfl ?_
  refine v_callV (My := mX10_isSenator) (As := [.int (zI s)]) (rest := []) (mc := 0) (ms := 0) rfl caX10_isSenator rfl rfl rfl q1.1.1.1 rfl rfl (q_isSenator G _ s hA q1.1.1 hz q1.1.2.1 hs) rfl rfl (Nat.le_of_ble_eq_true rfl) (by omega) ?_
  rintro _ _ ⟨rfl, rfl⟩
  refine v_run 0 (pc' := 10) (ls' := [some (.ref (ad 200)), some (.int (zI s)), some (.int (zI n)), none]) (st' := [.int (zb (decide (0 ≤ s ∧ s < ↑(ζ 5 0))))]) rfl ?_
  refine v_if_eq rfl (fun c10 => ?_) (fun c10 => ?_)
  · rw [zb_0, decide_eq_false_iff_not] at c10
    unfold bMoveP
    refine v_run 2 (pc' := 23) (ls' := [some (.ref (ad 200)), some (.int (zI s)), some (.int (zI n)), none]) (st' := [.int (zI 1), .ref (ad 200)]) rfl ?_
    refine v_callV (My := mX10_refused) (As := [.int (zI 1)]) (rest := []) (mc := 0) (ms := 0) rfl caX10_refused rfl rfl rfl q1.1.1.1 rfl rfl (q_refused G _ 1 q1.1.1.1) rfl rfl (Nat.le_of_ble_eq_true rfl) (by omega) ?_
    rintro _ h99 ⟨rfl, e99⟩
    refine v_run 0 (pc' := 26) (ls' := [some (.ref (ad 200)), some (.int (zI s)), some (.int (zI n)), none]) (st' := [.int (zI (-1))]) rfl ?_
    rw [if_pos (by omega)]
    exact v_iret rfl rfl rfl ⟨rfl, q1.finA hA e99⟩
  · rw [zb_0, Bool.not_eq_false, decide_eq_true_eq] at c10
    have hs9 := c10
    refine v_run 2 (pc' := 15) (ls' := [some (.ref (ad 200)), some (.int (zI s)), some (.int (zI n)), none]) (st' := [.int (zI n), .ref (ad 200)]) rfl ?_
    refine v_callV (My := mX10_isHook) (As := [.int (zI n)]) (rest := []) (mc := 0) (ms := 0) rfl caX10_isHook rfl rfl rfl q1.1.1.1 rfl rfl (q_isHook G _ n hA q1.1.1 hz q1.1.2.1 hn) rfl rfl (Nat.le_of_ble_eq_true rfl) (by omega) ?_
    rintro _ _ ⟨rfl, rfl⟩
    refine v_run 0 (pc' := 18) (ls' := [some (.ref (ad 200)), some (.int (zI s)), some (.int (zI n)), none]) (st' := [.int (zb (decide (0 ≤ n ∧ n < ↑(ζ 4 0))))]) rfl ?_
    refine v_if_ne rfl (fun c18 => ?_) (fun c18 => ?_)
    · rw [zb_0, Bool.not_eq_false, decide_eq_true_eq] at c18
      have hn9 := c18
      obtain ⟨k, rfl⟩ : ∃ z : Nat, s = ↑z := ⟨s.toNat, by omega⟩
      obtain ⟨t, rfl⟩ : ∃ z : Nat, n = ↑z := ⟨n.toNat, by omega⟩
      have vk := hV.1 k (by omega)
      refine v_run 1 (pc' := 28) (ls' := [some (.ref (ad 200)), some (.int (zI ↑k)), some (.int (zI ↑t)), none]) (st' := [.ref (ad 200)]) rfl ?_
      refine v_get rfl q1.1.1.1 rfl ?_
      refine v_run 1 (pc' := 32) (ls' := [some (.ref (ad 200)), some (.int (zI ↑k)), some (.int (zI ↑t)), none]) (st' := [.int (zI ↑k), .ref (ad 202)]) rfl ?_
      refine v_iaload' rfl q1.1.2.2.1 (i := k) rfl (by omega) ?_
      refine v_run 1 (pc' := 34) (ls' := [some (.ref (ad 200)), some (.int (zI ↑k)), some (.int (zI ↑t)), none]) (st' := [.int (zI ↑t), .int (zI ↑(ρ 2 k))]) rfl ?_
      refine v_icmp_ne rfl (fun c34 => ?_) (fun c34 => ?_)
      · simp (disch := omega) only [zI_lt, zI_le, zI_eq, zI_lt0, zI_le0, zI_0lt, zI_0le, zI_eq0] at c34
        refine v_run 1 (pc' := 44) (ls' := [some (.ref (ad 200)), some (.int (zI ↑k)), some (.int (zI ↑t)), none]) (st' := [.ref (ad 200)]) rfl ?_
        refine v_callV (My := mX10_remembers) (As := []) (rest := []) (mc := 0) (ms := 0) rfl caX10_remembers rfl rfl rfl q1.1.1.1 rfl rfl (q_remembers G _ c hA q1.1 hz hc hc16) rfl rfl (Nat.le_of_ble_eq_true rfl) (by omega) ?_
        rintro _ h2 ⟨rfl, t2, f2⟩
        refine v_run 0 (pc' := 47) (ls' := [some (.ref (ad 200)), some (.int (zI ↑k)), some (.int (zI ↑t)), none]) (st' := []) rfl ?_
        have f2 := q1.2.2.2.tr f2
        refine v_run 2 (pc' := 49) (ls' := [some (.ref (ad 200)), some (.int (zI ↑k)), some (.int (zI ↑t)), none]) (st' := [.int (zI ↑t), .ref (ad 200)]) rfl ?_
        refine v_callV (My := mX10_hangsAt) (As := [.int (zI ↑t)]) (rest := []) (mc := 0) (ms := 0) rfl caX10_hangsAt rfl rfl rfl t2.1.1 rfl rfl (q_hangsAt G _ t hA t2.1 hz t2.2.1 t2.2.2.1 hV (by omega)) rfl rfl (Nat.le_of_ble_eq_true rfl) (by omega) ?_
        rintro _ _ ⟨rfl, rfl⟩
        refine v_run 0 (pc' := 52) (ls' := [some (.ref (ad 200)), some (.int (zI ↑k)), some (.int (zI ↑t)), none]) (st' := [.int (zI (cWho (ρ 2) t (ζ 5 0)))]) rfl ?_
        have wb := cWho_bd (ρ 2) t (ζ 5 0)
        refine v_run 3 (pc' := 56) (ls' := [some (.ref (ad 200)), some (.int (zI ↑k)), some (.int (zI ↑t)), some (.int (zI (cWho (ρ 2) t (ζ 5 0))))]) (st' := [.int (zI (-2)), .int (zI (cWho (ρ 2) t (ζ 5 0)))]) rfl ?_
        refine v_icmp_eq rfl (fun c56 => ?_) (fun c56 => ?_)
        · simp (disch := omega) only [zI_lt, zI_le, zI_eq, zI_lt0, zI_le0, zI_0lt, zI_0le, zI_eq0] at c56
          refine v_run 1 (pc' := 72) (ls' := [some (.ref (ad 200)), some (.int (zI ↑k)), some (.int (zI ↑t)), some (.int (zI (cWho (ρ 2) t (ζ 5 0))))]) (st' := [.ref (ad 200)]) rfl ?_
          refine v_get rfl t2.1.1 rfl ?_
          refine v_run 2 (pc' := 77) (ls' := [some (.ref (ad 200)), some (.int (zI ↑k)), some (.int (zI ↑t)), some (.int (zI (cWho (ρ 2) t (ζ 5 0))))]) (st' := [.int (zI ↑t), .int (zI ↑k), .ref (ad 202)]) rfl ?_
          refine v_iastore' rfl t2.2.2.1 (i := k) rfl (by omega) ?_
          rw [ar_upd]
          generalize e2 : hset h2 (ad 202) _ = h2
          have t2 := t2.v2 hA e2
          have f2 := f2.k e2 (by decide)
          refine v_run 2 (pc' := 80) (ls' := [some (.ref (ad 200)), some (.int (zI ↑k)), some (.int (zI ↑t)), some (.int (zI (cWho (ρ 2) t (ζ 5 0))))]) (st' := [.int (zI (cWho (ρ 2) t (ζ 5 0))), .ref (ad 200)]) rfl ?_
          refine v_callV (My := mX10_well) (As := [.int (zI (cWho (ρ 2) t (ζ 5 0)))]) (rest := []) (mc := 0) (ms := 0) rfl caX10_well rfl rfl rfl t2.1.1 rfl rfl (q_well G _ (zI (cWho (ρ 2) t (ζ 5 0))) t2.1.1) rfl rfl (Nat.le_of_ble_eq_true rfl) (by omega) ?_
          rintro _ h99 ⟨rfl, e99⟩
          refine v_run 0 (pc' := 83) (ls' := [some (.ref (ad 200)), some (.int (zI ↑k)), some (.int (zI ↑t)), some (.int (zI (cWho (ρ 2) t (ζ 5 0))))]) (st' := [.int (zI (cWho (ρ 2) t (ζ 5 0)))]) rfl ?_
          unfold bMoveP
          rw [if_neg (by omega), if_neg (by simp only [Int.toNat_natCast]; omega)]
          exact v_iret rfl rfl rfl ⟨rfl, mFin t2 hA f2 e99 ⟨rfl, rfl, rfl, rfl, rfl⟩ ⟨by show mMvS (ρ 2) k t = mMv (ρ 2) (Int.toNat ↑k) (Int.toNat ↑t) (ζ 5 0); rw [Int.toNat_natCast, Int.toNat_natCast, mMv, if_pos (by omega)], rfl, rfl⟩⟩
        · simp (disch := omega) only [zI_lt, zI_le, zI_eq, zI_lt0, zI_le0, zI_0lt, zI_0le, zI_eq0] at c56
          obtain ⟨j, hj⟩ : ∃ j : Nat, cWho (ρ 2) t (ζ 5 0) = ↑j := ⟨(cWho (ρ 2) t (ζ 5 0)).toNat, by omega⟩
          refine v_run 1 (pc' := 60) (ls' := [some (.ref (ad 200)), some (.int (zI ↑k)), some (.int (zI ↑t)), some (.int (zI (cWho (ρ 2) t (ζ 5 0))))]) (st' := [.ref (ad 200)]) rfl ?_
          refine v_get rfl t2.1.1 rfl ?_
          refine v_run 1 (pc' := 64) (ls' := [some (.ref (ad 200)), some (.int (zI ↑k)), some (.int (zI ↑t)), some (.int (zI (cWho (ρ 2) t (ζ 5 0))))]) (st' := [.int (zI (cWho (ρ 2) t (ζ 5 0))), .ref (ad 202)]) rfl ?_
          rw [show (zI (cWho (ρ 2) t (ζ 5 0)) : Int32) = zI ↑j from by rw [hj]]
          refine v_run 1 (pc' := 65) (ls' := [some (.ref (ad 200)), some (.int (zI ↑k)), some (.int (zI ↑t)), some (.int (zI ↑j))]) (st' := [.ref (ad 200), .int (zI ↑j), .ref (ad 202)]) rfl ?_
          refine v_get rfl t2.1.1 rfl ?_
          refine v_run 1 (pc' := 69) (ls' := [some (.ref (ad 200)), some (.int (zI ↑k)), some (.int (zI ↑t)), some (.int (zI ↑j))]) (st' := [.int (zI ↑k), .ref (ad 202), .int (zI ↑j), .ref (ad 202)]) rfl ?_
          refine v_iaload' rfl t2.2.2.1 (i := k) rfl (by omega) ?_
          refine v_run 0 (pc' := 70) (ls' := [some (.ref (ad 200)), some (.int (zI ↑k)), some (.int (zI ↑t)), some (.int (zI ↑j))]) (st' := [.int (zI ↑(ρ 2 k)), .int (zI ↑j), .ref (ad 202)]) rfl ?_
          refine v_iastore' rfl t2.2.2.1 (i := j) rfl (by omega) ?_
          rw [ar_upd]
          generalize e3 : hset h2 (ad 202) _ = h3
          have t3 := t2.v2 hA e3
          have f3 := f2.k e3 (by decide)
          rw [← hj]
          refine v_run 1 (pc' := 72) (ls' := [some (.ref (ad 200)), some (.int (zI ↑k)), some (.int (zI ↑t)), some (.int (zI (cWho (ρ 2) t (ζ 5 0))))]) (st' := [.ref (ad 200)]) rfl ?_
          refine v_get rfl t3.1.1 rfl ?_
          refine v_run 2 (pc' := 77) (ls' := [some (.ref (ad 200)), some (.int (zI ↑k)), some (.int (zI ↑t)), some (.int (zI (cWho (ρ 2) t (ζ 5 0))))]) (st' := [.int (zI ↑t), .int (zI ↑k), .ref (ad 202)]) rfl ?_
          refine v_iastore' rfl t3.2.2.1 (i := k) rfl (by omega) ?_
          rw [ar_upd]
          generalize e4 : hset h3 (ad 202) _ = h4
          have t4 := t3.v2 hA e4
          have f4 := f3.k e4 (by decide)
          refine v_run 2 (pc' := 80) (ls' := [some (.ref (ad 200)), some (.int (zI ↑k)), some (.int (zI ↑t)), some (.int (zI (cWho (ρ 2) t (ζ 5 0))))]) (st' := [.int (zI (cWho (ρ 2) t (ζ 5 0))), .ref (ad 200)]) rfl ?_
          refine v_callV (My := mX10_well) (As := [.int (zI (cWho (ρ 2) t (ζ 5 0)))]) (rest := []) (mc := 0) (ms := 0) rfl caX10_well rfl rfl rfl t4.1.1 rfl rfl (q_well G _ (zI (cWho (ρ 2) t (ζ 5 0))) t4.1.1) rfl rfl (Nat.le_of_ble_eq_true rfl) (by omega) ?_
          rintro _ h99 ⟨rfl, e99⟩
          refine v_run 0 (pc' := 83) (ls' := [some (.ref (ad 200)), some (.int (zI ↑k)), some (.int (zI ↑t)), some (.int (zI (cWho (ρ 2) t (ζ 5 0))))]) (st' := [.int (zI (cWho (ρ 2) t (ζ 5 0)))]) rfl ?_
          unfold bMoveP
          rw [if_neg (by omega), if_neg (by simp only [Int.toNat_natCast]; omega)]
          exact v_iret rfl rfl rfl ⟨rfl, mFin t4 hA f4 e99 ⟨rfl, rfl, rfl, rfl, rfl⟩ ⟨by show mMvS (fun i => if i = j then ρ 2 k else ρ 2 i) k t = mMv (ρ 2) (Int.toNat ↑k) (Int.toNat ↑t) (ζ 5 0); rw [Int.toNat_natCast, Int.toNat_natCast, mMv, if_neg (by omega), hj]; rfl, rfl, rfl⟩⟩
      · simp (disch := omega) only [zI_lt, zI_le, zI_eq, zI_lt0, zI_le0, zI_0lt, zI_0le, zI_eq0] at c34
        unfold bMoveP
        refine v_run 2 (pc' := 39) (ls' := [some (.ref (ad 200)), some (.int (zI ↑k)), some (.int (zI ↑t)), none]) (st' := [.int (zI 5), .ref (ad 200)]) rfl ?_
        refine v_callV (My := mX10_refused) (As := [.int (zI 5)]) (rest := []) (mc := 0) (ms := 0) rfl caX10_refused rfl rfl rfl q1.1.1.1 rfl rfl (q_refused G _ 5 q1.1.1.1) rfl rfl (Nat.le_of_ble_eq_true rfl) (by omega) ?_
        rintro _ h99 ⟨rfl, e99⟩
        refine v_run 0 (pc' := 42) (ls' := [some (.ref (ad 200)), some (.int (zI ↑k)), some (.int (zI ↑t)), none]) (st' := [.int (zI (-1))]) rfl ?_
        rw [if_neg (by omega), if_pos (by simp only [Int.toNat_natCast]; omega)]
        exact v_iret rfl rfl rfl ⟨rfl, q1.finA hA e99⟩
    · rw [zb_0, decide_eq_false_iff_not] at c18
      unfold bMoveP
      refine v_run 2 (pc' := 23) (ls' := [some (.ref (ad 200)), some (.int (zI s)), some (.int (zI n)), none]) (st' := [.int (zI 1), .ref (ad 200)]) rfl ?_
      refine v_callV (My := mX10_refused) (As := [.int (zI 1)]) (rest := []) (mc := 0) (ms := 0) rfl caX10_refused rfl rfl rfl q1.1.1.1 rfl rfl (q_refused G _ 1 q1.1.1.1) rfl rfl (Nat.le_of_ble_eq_true rfl) (by omega) ?_
      rintro _ h99 ⟨rfl, e99⟩
      refine v_run 0 (pc' := 26) (ls' := [some (.ref (ad 200)), some (.int (zI s)), some (.int (zI n)), none]) (st' := [.int (zI (-1))]) rfl ?_
      rw [if_pos (by omega)]
      exact v_iret rfl rfl rfl ⟨rfl, q1.finA hA e99⟩

set_option maxRecDepth 100000 in
set_option maxHeartbeats 400000 in
theorem q_salt (G : ssG) (h : ssH) {ad : Nat → Nat} {rv : Value} {m : Nat → Int} {ζ ρ : Nat → Nat → Nat} (s : Int) (c : Nat) (hA : ∀ k l, ad k = ad l → k = l) (ht : MT h ad rv m ζ ρ) (hz : SaOk ζ) (hV : XOk (ρ 2)) (hd : ρ 2 23 ≤ 99) (hs : -2147483648 ≤ s ∧ s < 2147483648) (hc : m 19 = ↑c) (hc16 : c ≤ 16) : ssC G mX10_salt 2 0 0 [.ref (ad 200), .int (zI s)] h (bSaltP ζ rv m ρ ad h c s) := by
  refine c_of_v okX10_salt (by decide +kernel) (ls := [some (.ref (ad 200)), some (.int (zI s))]) rfl (Nat.le_of_ble_eq_true rfl) ?_
  obtain ⟨z0, z1, z2, z3, z4, z5, z6, z9, z12, z13, z14, z15, z16, z17, z18, z19, z20⟩ := id hz
  refine v_run 2 (pc' := 2) (ls' := [some (.ref (ad 200)), some (.int (zI s))]) (st' := [.int (zI 0), .ref (ad 200)]) rfl ?_
  refine v_put rfl ht.1.1 rfl rfl (Nat.le_of_ble_eq_true rfl) ?_
  generalize e1 : hset h (ad 200) _ = h1
  have q1 : MQs h ad rv (mU m 0 0) ζ ρ h1 (mU m 0 0) ρ := ⟨ht.ob hA e1, mSm.rf _, rSm.rf ρ, (frM.rf ad h).ob e1⟩
  refine v_run 2 (pc' := 7) (ls' := [some (.ref (ad 200)), some (.int (zI s))]) (st' := [.int (zI s), .ref (ad 200)]) rfl ?_
  refine v_callV (My := mX10_isSenator) (As := [.int (zI s)]) (rest := []) (mc := 0) (ms := 0) rfl caX10_isSenator rfl rfl rfl q1.1.1.1 rfl rfl (q_isSenator G _ s hA q1.1.1 hz q1.1.2.1 hs) rfl rfl (Nat.le_of_ble_eq_true rfl) (by omega) ?_
  rintro _ _ ⟨rfl, rfl⟩
  refine v_run 0 (pc' := 10) (ls' := [some (.ref (ad 200)), some (.int (zI s))]) (st' := [.int (zb (decide (0 ≤ s ∧ s < ↑(ζ 5 0))))]) rfl ?_
  refine v_if_ne rfl (fun c10 => ?_) (fun c10 => ?_)
  · rw [zb_0, Bool.not_eq_false, decide_eq_true_eq] at c10
    have hs9 := c10
    obtain ⟨k, rfl⟩ : ∃ z : Nat, s = ↑z := ⟨s.toNat, by omega⟩
    have v6 := hV.2.1 k (by omega)
    have v12 := hV.2.2.1 k (by omega)
    have v24 := hV.2.2.2.2.1
    refine v_run 1 (pc' := 20) (ls' := [some (.ref (ad 200)), some (.int (zI ↑k))]) (st' := [.ref (ad 200)]) rfl ?_
    refine v_get rfl q1.1.1.1 rfl ?_
    refine v_run 3 (pc' := 27) (ls' := [some (.ref (ad 200)), some (.int (zI ↑k))]) (st' := [.int ((zI 6) + (zI ↑k)), .ref (ad 202)]) rfl ?_
    refine v_iaload' rfl q1.1.2.2.1 (i := (6 + k)) (zN_add 6 k) (by omega) ?_
    refine v_run 1 (pc' := 29) (ls' := [some (.ref (ad 200)), some (.int (zI ↑k))]) (st' := [.int (zI 1), .int (zI ↑(ρ 2 (6 + k)))]) rfl ?_
    refine v_icmp_eq rfl (fun c29 => ?_) (fun c29 => ?_)
    · simp (disch := omega) only [zI_lt, zI_le, zI_eq, zI_lt0, zI_le0, zI_0lt, zI_0le, zI_eq0] at c29
      unfold bSaltP
      refine v_run 2 (pc' := 46) (ls' := [some (.ref (ad 200)), some (.int (zI ↑k))]) (st' := [.int (zI 5), .ref (ad 200)]) rfl ?_
      refine v_callV (My := mX10_denied) (As := [.int (zI 5)]) (rest := []) (mc := 0) (ms := 0) rfl caX10_denied rfl rfl rfl q1.1.1.1 rfl rfl (q_denied G _ 5 q1.1.1.1) rfl rfl (Nat.le_of_ble_eq_true rfl) (by omega) ?_
      rintro _ h99 ⟨rfl, e99⟩
      refine v_run 0 (pc' := 49) (ls' := [some (.ref (ad 200)), some (.int (zI ↑k))]) (st' := [.int (zI 0)]) rfl ?_
      rw [if_neg (by simpa using hs9), if_pos (by simp only [Int.toNat_natCast]; omega)]
      exact v_iret rfl rfl rfl ⟨rfl, q1.finA hA e99⟩
    · simp (disch := omega) only [zI_lt, zI_le, zI_eq, zI_lt0, zI_le0, zI_0lt, zI_0le, zI_eq0] at c29
      refine v_run 1 (pc' := 33) (ls' := [some (.ref (ad 200)), some (.int (zI ↑k))]) (st' := [.ref (ad 200)]) rfl ?_
      refine v_get rfl q1.1.1.1 rfl ?_
      refine v_run 3 (pc' := 40) (ls' := [some (.ref (ad 200)), some (.int (zI ↑k))]) (st' := [.int ((zI 12) + (zI ↑k)), .ref (ad 202)]) rfl ?_
      refine v_iaload' rfl q1.1.2.2.1 (i := (12 + k)) (zN_add 12 k) (by omega) ?_
      refine v_run 0 (pc' := 41) (ls' := [some (.ref (ad 200)), some (.int (zI ↑k))]) (st' := [.int (zI ↑(ρ 2 (12 + k)))]) rfl ?_
      refine v_if_ne rfl (fun c41 => ?_) (fun c41 => ?_)
      · simp (disch := omega) only [zI_lt, zI_le, zI_eq, zI_lt0, zI_le0, zI_0lt, zI_0le, zI_eq0] at c41
        refine v_run 1 (pc' := 51) (ls' := [some (.ref (ad 200)), some (.int (zI ↑k))]) (st' := [.ref (ad 200)]) rfl ?_
        refine v_get rfl q1.1.1.1 rfl ?_
        refine v_run 1 (pc' := 56) (ls' := [some (.ref (ad 200)), some (.int (zI ↑k))]) (st' := [.int (zI 24), .ref (ad 202)]) rfl ?_
        refine v_iaload' rfl q1.1.2.2.1 (i := 24) rfl (by decide) ?_
        refine v_run 0 (pc' := 57) (ls' := [some (.ref (ad 200)), some (.int (zI ↑k))]) (st' := [.int (zI ↑(ρ 2 24))]) rfl ?_
        refine v_if_ne rfl (fun c57 => ?_) (fun c57 => ?_)
        · simp (disch := omega) only [zI_lt, zI_le, zI_eq, zI_lt0, zI_le0, zI_0lt, zI_0le, zI_eq0] at c57
          refine v_run 1 (pc' := 68) (ls' := [some (.ref (ad 200)), some (.int (zI ↑k))]) (st' := [.ref (ad 200)]) rfl ?_
          refine v_callV (My := mX10_remembers) (As := []) (rest := []) (mc := 0) (ms := 0) rfl caX10_remembers rfl rfl rfl q1.1.1.1 rfl rfl (q_remembers G _ c hA q1.1 hz hc hc16) rfl rfl (Nat.le_of_ble_eq_true rfl) (by omega) ?_
          rintro _ h2 ⟨rfl, t2, f2⟩
          refine v_run 0 (pc' := 71) (ls' := [some (.ref (ad 200)), some (.int (zI ↑k))]) (st' := []) rfl ?_
          have f2 := q1.2.2.2.tr f2
          refine v_run 1 (pc' := 72) (ls' := [some (.ref (ad 200)), some (.int (zI ↑k))]) (st' := [.ref (ad 200)]) rfl ?_
          refine v_get rfl t2.1.1 rfl ?_
          refine v_run 4 (pc' := 80) (ls' := [some (.ref (ad 200)), some (.int (zI ↑k))]) (st' := [.int (zI 1), .int ((zI 6) + (zI ↑k)), .ref (ad 202)]) rfl ?_
          refine v_iastore' rfl t2.2.2.1 (i := (6 + k)) (zN_add 6 k) (by omega) ?_
          rw [show (zI 1) = zI ↑(1 : Nat) from rfl, ar_upd]
          generalize e5 : hset h2 (ad 202) _ = h5
          have t5 := t2.v2 hA e5
          have f5 := f2.k e5 (by decide)
          refine v_run 1 (pc' := 82) (ls' := [some (.ref (ad 200)), some (.int (zI ↑k))]) (st' := [.ref (ad 200)]) rfl ?_
          refine v_get rfl t5.1.1 rfl ?_
          refine v_run 2 (pc' := 88) (ls' := [some (.ref (ad 200)), some (.int (zI ↑k))]) (st' := [.int (zI 24), .ref (ad 202), .int (zI 24), .ref (ad 202)]) rfl ?_
          refine v_iaload' rfl t5.2.2.1 (i := 24) rfl (by decide) ?_
          refine v_run 1 (pc' := 90) (ls' := [some (.ref (ad 200)), some (.int (zI ↑k))]) (st' := [.int (zI 1), .int (zI ↑((fun j => if j = 6 + k then 1 else ρ 2 j) 24)), .int (zI 24), .ref (ad 202)]) rfl ?_
          rw [show (zI ↑((fun j => if j = 6 + k then 1 else ρ 2 j) 24) : Int32) = zI ↑(ρ 2 24) from congrArg (fun n : Nat => zI ↑n) (by show (if 24 = 6 + k then 1 else ρ 2 24) = ρ 2 24; rw [if_neg (by omega)])]
          refine v_run 1 (pc' := 91) (ls' := [some (.ref (ad 200)), some (.int (zI ↑k))]) (st' := [.int ((zI ↑(ρ 2 24)) - (zI 1)), .int (zI 24), .ref (ad 202)]) rfl ?_
          rw [show ((zI ↑(ρ 2 24)) - (zI 1) : Int32) = zI ↑(ρ 2 24 - 1) from zN_sub (b := 1) (by omega)]
          refine v_iastore' rfl t5.2.2.1 (i := 24) rfl (by decide) ?_
          rw [ar_upd]
          generalize e6 : hset h5 (ad 202) _ = h6
          have t6 := t5.v2 hA e6
          have f6 := f5.k e6 (by decide)
          refine v_run 1 (pc' := 93) (ls' := [some (.ref (ad 200)), some (.int (zI ↑k))]) (st' := [.ref (ad 200)]) rfl ?_
          refine v_callV (My := mX10_granted) (As := []) (rest := []) (mc := 0) (ms := 0) rfl caX10_granted rfl rfl rfl t6.1.1 rfl rfl (q_granted G _ t6.1.1) rfl rfl (Nat.le_of_ble_eq_true rfl) (by omega) ?_
          rintro _ h99 ⟨rfl, e99⟩
          refine v_run 0 (pc' := 96) (ls' := [some (.ref (ad 200)), some (.int (zI ↑k))]) (st' := [.int (zI 1)]) rfl ?_
          unfold bSaltP
          rw [if_neg (by simpa using hs9), if_neg (by simp only [Int.toNat_natCast]; omega), if_neg (by omega)]
          exact v_iret rfl rfl rfl ⟨rfl, mFin t6 hA f6 e99 ⟨rfl, rfl, rfl, rfl, rfl⟩ ⟨rfl, rfl, rfl⟩⟩
        · simp (disch := omega) only [zI_lt, zI_le, zI_eq, zI_lt0, zI_le0, zI_0lt, zI_0le, zI_eq0] at c57
          unfold bSaltP
          refine v_run 2 (pc' := 63) (ls' := [some (.ref (ad 200)), some (.int (zI ↑k))]) (st' := [.int (zI 6), .ref (ad 200)]) rfl ?_
          refine v_callV (My := mX10_denied) (As := [.int (zI 6)]) (rest := []) (mc := 0) (ms := 0) rfl caX10_denied rfl rfl rfl q1.1.1.1 rfl rfl (q_denied G _ 6 q1.1.1.1) rfl rfl (Nat.le_of_ble_eq_true rfl) (by omega) ?_
          rintro _ h99 ⟨rfl, e99⟩
          refine v_run 0 (pc' := 66) (ls' := [some (.ref (ad 200)), some (.int (zI ↑k))]) (st' := [.int (zI 0)]) rfl ?_
          rw [if_neg (by simpa using hs9), if_neg (by simp only [Int.toNat_natCast]; omega), if_pos (by omega)]
          exact v_iret rfl rfl rfl ⟨rfl, q1.finA hA e99⟩
      · simp (disch := omega) only [zI_lt, zI_le, zI_eq, zI_lt0, zI_le0, zI_0lt, zI_0le, zI_eq0] at c41
        unfold bSaltP
        refine v_run 2 (pc' := 46) (ls' := [some (.ref (ad 200)), some (.int (zI ↑k))]) (st' := [.int (zI 5), .ref (ad 200)]) rfl ?_
        refine v_callV (My := mX10_denied) (As := [.int (zI 5)]) (rest := []) (mc := 0) (ms := 0) rfl caX10_denied rfl rfl rfl q1.1.1.1 rfl rfl (q_denied G _ 5 q1.1.1.1) rfl rfl (Nat.le_of_ble_eq_true rfl) (by omega) ?_
        rintro _ h99 ⟨rfl, e99⟩
        refine v_run 0 (pc' := 49) (ls' := [some (.ref (ad 200)), some (.int (zI ↑k))]) (st' := [.int (zI 0)]) rfl ?_
        rw [if_neg (by simpa using hs9), if_pos (by simp only [Int.toNat_natCast]; omega)]
        exact v_iret rfl rfl rfl ⟨rfl, q1.finA hA e99⟩
  · rw [zb_0, decide_eq_false_iff_not] at c10
    unfold bSaltP
    refine v_run 2 (pc' := 15) (ls' := [some (.ref (ad 200)), some (.int (zI s))]) (st' := [.int (zI 1), .ref (ad 200)]) rfl ?_
    refine v_callV (My := mX10_denied) (As := [.int (zI 1)]) (rest := []) (mc := 0) (ms := 0) rfl caX10_denied rfl rfl rfl q1.1.1.1 rfl rfl (q_denied G _ 1 q1.1.1.1) rfl rfl (Nat.le_of_ble_eq_true rfl) (by omega) ?_
    rintro _ h99 ⟨rfl, e99⟩
    refine v_run 0 (pc' := 18) (ls' := [some (.ref (ad 200)), some (.int (zI s))]) (st' := [.int (zI 0)]) rfl ?_
    rw [if_pos c10]
    exact v_iret rfl rfl rfl ⟨rfl, q1.finA hA e99⟩

set_option maxRecDepth 100000 in
set_option maxHeartbeats 400000 in
theorem q_seed (G : ssG) (h : ssH) {ad : Nat → Nat} {rv : Value} {m : Nat → Int} {ζ ρ : Nat → Nat → Nat} (s : Int) (hA : ∀ k l, ad k = ad l → k = l) (ht : MT h ad rv m ζ ρ) (hz : SaOk ζ) (hV : XOk (ρ 2)) (hd : ρ 2 23 ≤ 99) (hs : -2147483648 ≤ s ∧ s < 2147483648) : ssC G mX10_seed 2 0 0 [.ref (ad 200), .int (zI s)] h (bSeedP ζ rv m ρ ad h s) := by
  refine c_of_v okX10_seed (by decide +kernel) (ls := [some (.ref (ad 200)), some (.int (zI s))]) rfl (Nat.le_of_ble_eq_true rfl) ?_
  obtain ⟨z0, z1, z2, z3, z4, z5, z6, z9, z12, z13, z14, z15, z16, z17, z18, z19, z20⟩ := id hz
  refine v_run 2 (pc' := 2) (ls' := [some (.ref (ad 200)), some (.int (zI s))]) (st' := [.int (zI 0), .ref (ad 200)]) rfl ?_
  refine v_put rfl ht.1.1 rfl rfl (Nat.le_of_ble_eq_true rfl) ?_
  generalize e1 : hset h (ad 200) _ = h1
  have q1 : MQs h ad rv (mU m 0 0) ζ ρ h1 (mU m 0 0) ρ := ⟨ht.ob hA e1, mSm.rf _, rSm.rf ρ, (frM.rf ad h).ob e1⟩
  refine v_run 1 (pc' := 6) (ls' := [some (.ref (ad 200)), some (.int (zI s))]) (st' := [.ref (ad 200)]) rfl ?_
  refine v_get rfl q1.1.1.1 rfl ?_
  refine v_run 4 (pc' := 23) (ls' := [some (.ref (ad 200)), some (.int (zI s))]) (st' := [.int (zI 65536), .int (zI 0), .int (zI s)]) rfl ?_
  refine v_callS (My := mX10_in) (As := [.int (zI s), .int (zI 0), .int (zI 65536)]) (rest := []) (mc := 0) (ms := 0) rfl caX10_in rfl rfl (q_in G _ s 0 65536 hs (by decide) (by decide)) rfl rfl (Nat.le_of_ble_eq_true rfl) (by omega) ?_
  rintro _ _ ⟨rfl, rfl⟩
  refine v_run 0 (pc' := 26) (ls' := [some (.ref (ad 200)), some (.int (zI s))]) (st' := [.int (zb (decide (0 ≤ s ∧ s ≤ 65536)))]) rfl ?_
  refine v_if_ne rfl (fun c26 => ?_) (fun c26 => ?_)
  · rw [zb_0, Bool.not_eq_false, decide_eq_true_eq] at c26
    have hs9 := c26
    obtain ⟨k, rfl⟩ : ∃ z : Nat, s = ↑z := ⟨s.toNat, by omega⟩
    refine v_run 1 (pc' := 36) (ls' := [some (.ref (ad 200)), some (.int (zI ↑k))]) (st' := [.ref (ad 200)]) rfl ?_
    refine v_get rfl q1.1.1.1 rfl ?_
    refine v_run 2 (pc' := 42) (ls' := [some (.ref (ad 200)), some (.int (zI ↑k))]) (st' := [.int (zI ↑k), .int (zI 25), .ref (ad 202)]) rfl ?_
    refine v_iastore' rfl q1.1.2.2.1 (i := 25) rfl (by decide) ?_
    rw [ar_upd]
    generalize e7 : hset h1 (ad 202) _ = h7
    have t7 := q1.1.v2 hA e7
    have f7 := q1.2.2.2.k e7 (by decide)
    refine v_run 1 (pc' := 44) (ls' := [some (.ref (ad 200)), some (.int (zI ↑k))]) (st' := [.ref (ad 200)]) rfl ?_
    refine v_callV (My := mX10_granted) (As := []) (rest := []) (mc := 0) (ms := 0) rfl caX10_granted rfl rfl rfl t7.1.1 rfl rfl (q_granted G _ t7.1.1) rfl rfl (Nat.le_of_ble_eq_true rfl) (by omega) ?_
    rintro _ h99 ⟨rfl, e99⟩
    refine v_run 0 (pc' := 47) (ls' := [some (.ref (ad 200)), some (.int (zI ↑k))]) (st' := [.int (zI 1)]) rfl ?_
    unfold bSeedP
    rw [if_neg (by simpa using hs9)]
    exact v_iret rfl rfl rfl ⟨rfl, mFin t7 hA f7 e99 ⟨rfl, rfl, rfl, rfl, rfl⟩ ⟨rfl, rfl, rfl⟩⟩
  · rw [zb_0, decide_eq_false_iff_not] at c26
    unfold bSeedP
    refine v_run 2 (pc' := 31) (ls' := [some (.ref (ad 200)), some (.int (zI s))]) (st' := [.int (zI 2), .ref (ad 200)]) rfl ?_
    refine v_callV (My := mX10_denied) (As := [.int (zI 2)]) (rest := []) (mc := 0) (ms := 0) rfl caX10_denied rfl rfl rfl q1.1.1.1 rfl rfl (q_denied G _ 2 q1.1.1.1) rfl rfl (Nat.le_of_ble_eq_true rfl) (by omega) ?_
    rintro _ h99 ⟨rfl, e99⟩
    refine v_run 0 (pc' := 34) (ls' := [some (.ref (ad 200)), some (.int (zI s))]) (st' := [.int (zI 0)]) rfl ?_
    rw [if_pos c26]
    exact v_iret rfl rfl rfl ⟨rfl, q1.finA hA e99⟩

set_option maxRecDepth 100000 in
set_option maxHeartbeats 400000 in
theorem q_undo (G : ssG) (h : ssH) {ad : Nat → Nat} {rv : Value} {m : Nat → Int} {ζ ρ : Nat → Nat → Nat} (c : Nat) (hA : ∀ k l, ad k = ad l → k = l) (ht : MT h ad rv m ζ ρ) (hz : SaOk ζ) (hV : XOk (ρ 2)) (hd : ρ 2 23 ≤ 99) (hc : m 19 = ↑c) (hc16 : c ≤ 16) : ssC G mX10_undo 2 0 0 [.ref (ad 200)] h (bUndoP ζ rv m ρ ad h c) := by
  refine c_of_v okX10_undo (by decide +kernel) (ls := [some (.ref (ad 200)), none]) rfl (Nat.le_of_ble_eq_true rfl) ?_
  obtain ⟨z0, z1, z2, z3, z4, z5, z6, z9, z12, z13, z14, z15, z16, z17, z18, z19, z20⟩ := id hz
  refine v_run 2 (pc' := 2) (ls' := [some (.ref (ad 200)), none]) (st' := [.int (zI 0), .ref (ad 200)]) rfl ?_
  refine v_put rfl ht.1.1 rfl rfl (Nat.le_of_ble_eq_true rfl) ?_
  generalize e1 : hset h (ad 200) _ = h1
  have q1 : MQs h ad rv (mU m 0 0) ζ ρ h1 (mU m 0 0) ρ := ⟨ht.ob hA e1, mSm.rf _, rSm.rf ρ, (frM.rf ad h).ob e1⟩
  refine v_run 1 (pc' := 6) (ls' := [some (.ref (ad 200)), none]) (st' := [.ref (ad 200)]) rfl ?_
  refine v_get rfl q1.1.1.1 rfl ?_
  refine v_run 2 (pc' := 13) (ls' := [some (.ref (ad 200)), none]) (st' := [.ref (ad 200)]) rfl ?_
  refine v_get rfl q1.1.1.1 rfl ?_
  refine v_run 0 (pc' := 16) (ls' := [some (.ref (ad 200)), none]) (st' := [.int (zI ((mU m 0 0) 19))]) rfl ?_
  rw [show (zI ((mU m 0 0) 19) : Int32) = zI ↑c from by rw [show (mU m 0 0) 19 = m 19 from rfl, hc]]
  refine v_if_ne rfl (fun c16 => ?_) (fun c16 => ?_)
  · simp (disch := omega) only [zI_lt, zI_le, zI_eq, zI_lt0, zI_le0, zI_0lt, zI_0le, zI_eq0] at c16
    obtain ⟨d, hd1⟩ : ∃ d, c = d + 1 := ⟨c - 1, by omega⟩
    refine v_run 2 (pc' := 28) (ls' := [some (.ref (ad 200)), none]) (st' := [.ref (ad 200), .ref (ad 200)]) rfl ?_
    refine v_get rfl q1.1.1.1 rfl ?_
    refine v_run 0 (pc' := 31) (ls' := [some (.ref (ad 200)), none]) (st' := [.int (zI ((mU m 0 0) 19)), .ref (ad 200)]) rfl ?_
    rw [show (zI ((mU m 0 0) 19) : Int32) = zI ↑(d + 1) from by rw [show (mU m 0 0) 19 = m 19 from rfl, hc, hd1]]
    refine v_run 2 (pc' := 33) (ls' := [some (.ref (ad 200)), none]) (st' := [.int ((zI ↑(d + 1)) - (zI 1)), .ref (ad 200)]) rfl ?_
    rw [show ((zI ↑(d + 1)) - (zI 1) : Int32) = zI ↑d from by rw [show (zI 1) = zI ((1 : Nat) : Int) from rfl, zN_sub (by omega)]; rfl]
    refine v_put rfl q1.1.1.1 rfl rfl (Nat.le_of_ble_eq_true rfl) ?_
    generalize e2 : hset h1 (ad 200) _ = h2
    have t2 : MT h2 ad rv (mU (mU m 0 0) 19 ↑d) ζ ρ := q1.1.ob hA e2
    have f2 := q1.2.2.2.ob e2
    refine v_run 2 (pc' := 38) (ls' := [some (.ref (ad 200)), some (.int (zI 0))]) (st' := []) rfl ?_
    have lp : ∀ (n s : Nat), s ≤ 26 → 26 + 1 ≤ s + n → ssV G mX10_undo 2 0 0 (bUndoP ζ rv m ρ ad h c) 38 [some (.ref (ad 200)), some (.int (zI ↑s))] [] (hset h2 (ad 202) (ar 26 (fun k => if k < s then ρ 4 (26 * d + k) else ρ 2 k))) := by
      intro n
      induction n with
      | zero => intro s hs1 hs2; exact absurd hs2 (by omega)
      | succ n ih =>
        intro s hs1 hs2
        refine v_run 2 (pc' := 41) (ls' := [some (.ref (ad 200)), some (.int (zI ↑s))]) (st' := [.int (zI 26), .int (zI ↑s)]) rfl ?_
        refine v_icmp_ge rfl (fun c41 => ?_) (fun c41 => ?_)
        · simp (disch := omega) only [zI_lt, zI_le, zI_eq, zI_lt0, zI_le0, zI_0lt, zI_0le, zI_eq0] at c41
          have eV : (fun k => if k < s then ρ 4 (26 * d + k) else ρ 2 k) = cpV (ρ 4) d := by rw [show s = 26 by omega]; exact cpV_eq (hV.2.2.2.2.2.2)
          rw [eV]
          generalize e5 : hset h2 (ad 202) _ = h5
          have t5 := t2.v2 hA e5
          have f5 := f2.k e5 (by decide)
          refine v_run 1 (pc' := 71) (ls' := [some (.ref (ad 200)), some (.int (zI ↑s))]) (st' := [.ref (ad 200)]) rfl ?_
          refine v_callV (My := mX10_granted) (As := []) (rest := []) (mc := 0) (ms := 0) rfl caX10_granted rfl rfl rfl t5.1.1 rfl rfl (q_granted G _ t5.1.1) rfl rfl (Nat.le_of_ble_eq_true rfl) (by omega) ?_
          rintro _ h99 ⟨rfl, e99⟩
          refine v_run 0 (pc' := 74) (ls' := [some (.ref (ad 200)), some (.int (zI ↑s))]) (st' := [.int (zI 1)]) rfl ?_
          unfold bUndoP
          rw [if_neg (by omega), show c - 1 = d by omega]
          exact v_iret rfl rfl rfl ⟨rfl, mFin t5 hA f5 e99 ⟨rfl, rfl, rfl, rfl, rfl⟩ ⟨rfl, rfl, rfl⟩⟩
        · simp (disch := omega) only [zI_lt, zI_le, zI_eq, zI_lt0, zI_le0, zI_0lt, zI_0le, zI_eq0] at c41
          refine v_run 1 (pc' := 45) (ls' := [some (.ref (ad 200)), some (.int (zI ↑s))]) (st' := [.ref (ad 200)]) rfl ?_
          refine v_get rfl ((hset_ne _ _ (ad_ne hA (by decide))).trans t2.1.1) rfl ?_
          refine v_run 2 (pc' := 50) (ls' := [some (.ref (ad 200)), some (.int (zI ↑s))]) (st' := [.ref (ad 200), .int (zI ↑s), .ref (ad 202)]) rfl ?_
          refine v_get rfl ((hset_ne _ _ (ad_ne hA (by decide))).trans t2.1.1) rfl ?_
          refine v_run 2 (pc' := 56) (ls' := [some (.ref (ad 200)), some (.int (zI ↑s))]) (st' := [.ref (ad 200), .int (zI 26), .ref (ad 204), .int (zI ↑s), .ref (ad 202)]) rfl ?_
          refine v_get rfl ((hset_ne _ _ (ad_ne hA (by decide))).trans t2.1.1) rfl ?_
          refine v_run 0 (pc' := 59) (ls' := [some (.ref (ad 200)), some (.int (zI ↑s))]) (st' := [.int (zI ((mU (mU m 0 0) 19 ↑d) 19)), .int (zI 26), .ref (ad 204), .int (zI ↑s), .ref (ad 202)]) rfl ?_
          rw [show (zI ((mU (mU m 0 0) 19 ↑d) 19) : Int32) = zI ↑d from rfl]
          refine v_run 3 (pc' := 62) (ls' := [some (.ref (ad 200)), some (.int (zI ↑s))]) (st' := [.int (((zI 26) * (zI ↑d)) + (zI ↑s)), .ref (ad 204), .int (zI ↑s), .ref (ad 202)]) rfl ?_
          rw [show (((zI 26) * (zI ↑d)) + (zI ↑s) : Int32) = zI ↑(26 * d + s) from by rw [show (zI 26) = zI ((26 : Nat) : Int) from rfl, zN_mul, zN_add]]
          refine v_iaload' rfl ((hset_ne _ _ (ad_ne hA (by decide))).trans t2.2.2.2.1) (i := (26 * d + s)) rfl (by omega) ?_
          refine v_run 0 (pc' := 63) (ls' := [some (.ref (ad 200)), some (.int (zI ↑s))]) (st' := [.int (zI ↑(ρ 4 (26 * d + s))), .int (zI ↑s), .ref (ad 202)]) rfl ?_
          refine v_iastore' rfl (hset_self _ _ _) (i := s) rfl (by omega) ?_
          rw [ar_upd, hset_hset, show (fun j => if j = s then ρ 4 (26 * d + s) else (fun k => if k < s then ρ 4 (26 * d + k) else ρ 2 k) j) = (fun k => if k < s + 1 then ρ 4 (26 * d + k) else ρ 2 k) from fill_step (g := fun k => ρ 4 (26 * d + k)) s]
          refine v_run 2 (pc' := 38) (ls' := [some (.ref (ad 200)), some (.int ((zI ↑s) + zI 1))]) (st' := []) rfl ?_
          rw [zI_s1]
          exact ih (s + 1) (by omega) (by omega)
    have lz := lp 27 0 (by omega) (by omega)
    rw [show (fun k => if k < 0 then ρ 4 (26 * d + k) else ρ 2 k) = ρ 2 from by funext t; simp, hset_same h2 (a := ad 202) (e := ar 26 (ρ 2)) t2.2.2.1] at lz
    exact lz
  · simp (disch := omega) only [zI_lt, zI_le, zI_eq, zI_lt0, zI_le0, zI_0lt, zI_0le, zI_eq0] at c16
    unfold bUndoP
    refine v_run 2 (pc' := 22) (ls' := [some (.ref (ad 200)), none]) (st' := [.int (zI 6), .ref (ad 200)]) rfl ?_
    refine v_callV (My := mX10_denied) (As := [.int (zI 6)]) (rest := []) (mc := 0) (ms := 0) rfl caX10_denied rfl rfl rfl q1.1.1.1 rfl rfl (q_denied G _ 6 q1.1.1.1) rfl rfl (Nat.le_of_ble_eq_true rfl) (by omega) ?_
    rintro _ h99 ⟨rfl, e99⟩
    refine v_run 0 (pc' := 25) (ls' := [some (.ref (ad 200)), none]) (st' := [.int (zI 0)]) rfl ?_
    rw [if_pos (by omega)]
    exact v_iret rfl rfl rfl ⟨rfl, q1.finA hA e99⟩

set_option maxRecDepth 100000 in
set_option maxHeartbeats 400000 in
theorem q_back (G : ssG) (h : ssH) {ad : Nat → Nat} {rv : Value} {m : Nat → Int} {ζ ρ : Nat → Nat → Nat} (s : Int) (i : Nat) (hA : ∀ k l, ad k = ad l → k = l) (ht : MT h ad rv m ζ ρ) (hz : SaOk ζ) (hV : XOk (ρ 2)) (hd : ρ 2 23 ≤ 99) (hs : -2147483648 ≤ s ∧ s < 2147483648) (hi : m 20 = ↑i) (hi3 : i ≤ 3) : ssC G mX10_back 2 0 0 [.ref (ad 200), .int (zI s)] h (bBackP ζ rv m ρ ad h i s) := by
  refine c_of_v okX10_back (by decide +kernel) (ls := [some (.ref (ad 200)), some (.int (zI s)), none]) rfl (Nat.le_of_ble_eq_true rfl) ?_
  obtain ⟨z0, z1, z2, z3, z4, z5, z6, z9, z12, z13, z14, z15, z16, z17, z18, z19, z20⟩ := id hz
  refine v_run 2 (pc' := 2) (ls' := [some (.ref (ad 200)), some (.int (zI s)), none]) (st' := [.int (zI 0), .ref (ad 200)]) rfl ?_
  refine v_put rfl ht.1.1 rfl rfl (Nat.le_of_ble_eq_true rfl) ?_
  generalize e1 : hset h (ad 200) _ = h1
  have q1 : MQs h ad rv (mU m 0 0) ζ ρ h1 (mU m 0 0) ρ := ⟨ht.ob hA e1, mSm.rf _, rSm.rf ρ, (frM.rf ad h).ob e1⟩
  refine v_run 1 (pc' := 6) (ls' := [some (.ref (ad 200)), some (.int (zI s)), none]) (st' := [.ref (ad 200)]) rfl ?_
  refine v_get rfl q1.1.1.1 rfl ?_
  refine v_run 2 (pc' := 13) (ls' := [some (.ref (ad 200)), some (.int (zI s)), none]) (st' := [.int (zI s)]) rfl ?_
  refine v_if_lt rfl (fun c13 => ?_) (fun c13 => ?_)
  · simp (disch := omega) only [zI_lt, zI_le, zI_eq, zI_lt0, zI_le0, zI_0lt, zI_0le, zI_eq0] at c13
    unfold bBackP
    refine v_run 2 (pc' := 26) (ls' := [some (.ref (ad 200)), some (.int (zI s)), none]) (st' := [.int (zI 1), .ref (ad 200)]) rfl ?_
    refine v_callV (My := mX10_denied) (As := [.int (zI 1)]) (rest := []) (mc := 0) (ms := 0) rfl caX10_denied rfl rfl rfl q1.1.1.1 rfl rfl (q_denied G _ 1 q1.1.1.1) rfl rfl (Nat.le_of_ble_eq_true rfl) (by omega) ?_
    rintro _ h99 ⟨rfl, e99⟩
    refine v_run 0 (pc' := 29) (ls' := [some (.ref (ad 200)), some (.int (zI s)), none]) (st' := [.int (zI 0)]) rfl ?_
    rw [if_pos (by omega)]
    exact v_iret rfl rfl rfl ⟨rfl, q1.finA hA e99⟩
  · simp (disch := omega) only [zI_lt, zI_le, zI_eq, zI_lt0, zI_le0, zI_0lt, zI_0le, zI_eq0] at c13
    refine v_run 2 (pc' := 18) (ls' := [some (.ref (ad 200)), some (.int (zI s)), none]) (st' := [.ref (ad 200), .int (zI s)]) rfl ?_
    refine v_get rfl q1.1.1.1 rfl ?_
    refine v_run 0 (pc' := 21) (ls' := [some (.ref (ad 200)), some (.int (zI s)), none]) (st' := [.int (zI ((mU m 0 0) 20)), .int (zI s)]) rfl ?_
    rw [show (zI ((mU m 0 0) 20) : Int32) = zI ↑i from by rw [show (mU m 0 0) 20 = m 20 from rfl, hi]]
    refine v_icmp_lt rfl (fun c21 => ?_) (fun c21 => ?_)
    · simp (disch := omega) only [zI_lt, zI_le, zI_eq, zI_lt0, zI_le0, zI_0lt, zI_0le, zI_eq0] at c21
      obtain ⟨d, rfl⟩ : ∃ z : Nat, s = ↑z := ⟨s.toNat, by omega⟩
      refine v_run 2 (pc' := 32) (ls' := [some (.ref (ad 200)), some (.int (zI ↑d)), some (.int (zI 0))]) (st' := []) rfl ?_
      have lp : ∀ (n s : Nat), s ≤ 26 → 26 + 1 ≤ s + n → ssV G mX10_back 2 0 0 (bBackP ζ rv m ρ ad h i ↑d) 32 [some (.ref (ad 200)), some (.int (zI ↑d)), some (.int (zI ↑s))] [] (hset h1 (ad 202) (ar 26 (fun k => if k < s then ρ 5 (26 * d + k) else ρ 2 k))) := by
        intro n
        induction n with
        | zero => intro s hs1 hs2; exact absurd hs2 (by omega)
        | succ n ih =>
          intro s hs1 hs2
          refine v_run 2 (pc' := 35) (ls' := [some (.ref (ad 200)), some (.int (zI ↑d)), some (.int (zI ↑s))]) (st' := [.int (zI 26), .int (zI ↑s)]) rfl ?_
          refine v_icmp_ge rfl (fun c35 => ?_) (fun c35 => ?_)
          · simp (disch := omega) only [zI_lt, zI_le, zI_eq, zI_lt0, zI_le0, zI_0lt, zI_0le, zI_eq0] at c35
            have eV : (fun k => if k < s then ρ 5 (26 * d + k) else ρ 2 k) = cpV (ρ 5) d := by rw [show s = 26 by omega]; exact cpV_eq (hV.2.2.2.2.2.2)
            rw [eV]
            generalize e5 : hset h1 (ad 202) _ = h5
            have t5 := q1.1.v2 hA e5
            have f5 := q1.2.2.2.k e5 (by decide)
            refine v_run 2 (pc' := 63) (ls' := [some (.ref (ad 200)), some (.int (zI ↑d)), some (.int (zI ↑s))]) (st' := [.int (zI 0), .ref (ad 200)]) rfl ?_
            refine v_put rfl t5.1.1 rfl rfl (Nat.le_of_ble_eq_true rfl) ?_
            generalize e6 : hset h5 (ad 200) _ = h6
            have t6 : MT h6 ad rv (mU (mU m 0 0) 19 0) ζ _ := t5.ob hA e6
            have f6 := f5.ob e6
            refine v_run 1 (pc' := 67) (ls' := [some (.ref (ad 200)), some (.int (zI ↑d)), some (.int (zI ↑s))]) (st' := [.ref (ad 200)]) rfl ?_
            refine v_callV (My := mX10_granted) (As := []) (rest := []) (mc := 0) (ms := 0) rfl caX10_granted rfl rfl rfl t6.1.1 rfl rfl (q_granted G _ t6.1.1) rfl rfl (Nat.le_of_ble_eq_true rfl) (by omega) ?_
            rintro _ h99 ⟨rfl, e99⟩
            refine v_run 0 (pc' := 70) (ls' := [some (.ref (ad 200)), some (.int (zI ↑d)), some (.int (zI ↑s))]) (st' := [.int (zI 1)]) rfl ?_
            unfold bBackP
            rw [if_neg (by omega)]
            exact v_iret rfl rfl rfl ⟨rfl, mFin t6 hA f6 e99 ⟨rfl, rfl, rfl, rfl, rfl⟩ ⟨rfl, rfl, rfl⟩⟩
          · simp (disch := omega) only [zI_lt, zI_le, zI_eq, zI_lt0, zI_le0, zI_0lt, zI_0le, zI_eq0] at c35
            refine v_run 1 (pc' := 39) (ls' := [some (.ref (ad 200)), some (.int (zI ↑d)), some (.int (zI ↑s))]) (st' := [.ref (ad 200)]) rfl ?_
            refine v_get rfl ((hset_ne _ _ (ad_ne hA (by decide))).trans q1.1.1.1) rfl ?_
            refine v_run 2 (pc' := 44) (ls' := [some (.ref (ad 200)), some (.int (zI ↑d)), some (.int (zI ↑s))]) (st' := [.ref (ad 200), .int (zI ↑s), .ref (ad 202)]) rfl ?_
            refine v_get rfl ((hset_ne _ _ (ad_ne hA (by decide))).trans q1.1.1.1) rfl ?_
            refine v_run 5 (pc' := 53) (ls' := [some (.ref (ad 200)), some (.int (zI ↑d)), some (.int (zI ↑s))]) (st' := [.int (((zI 26) * (zI ↑d)) + (zI ↑s)), .ref (ad 205), .int (zI ↑s), .ref (ad 202)]) rfl ?_
            rw [show (((zI 26) * (zI ↑d)) + (zI ↑s) : Int32) = zI ↑(26 * d + s) from by rw [show (zI 26) = zI ((26 : Nat) : Int) from rfl, zN_mul, zN_add]]
            refine v_iaload' rfl ((hset_ne _ _ (ad_ne hA (by decide))).trans q1.1.2.2.2.2.1) (i := (26 * d + s)) rfl (by omega) ?_
            refine v_run 0 (pc' := 54) (ls' := [some (.ref (ad 200)), some (.int (zI ↑d)), some (.int (zI ↑s))]) (st' := [.int (zI ↑(ρ 5 (26 * d + s))), .int (zI ↑s), .ref (ad 202)]) rfl ?_
            refine v_iastore' rfl (hset_self _ _ _) (i := s) rfl (by omega) ?_
            rw [ar_upd, hset_hset, show (fun j => if j = s then ρ 5 (26 * d + s) else (fun k => if k < s then ρ 5 (26 * d + k) else ρ 2 k) j) = (fun k => if k < s + 1 then ρ 5 (26 * d + k) else ρ 2 k) from fill_step (g := fun k => ρ 5 (26 * d + k)) s]
            refine v_run 2 (pc' := 32) (ls' := [some (.ref (ad 200)), some (.int (zI ↑d)), some (.int ((zI ↑s) + zI 1))]) (st' := []) rfl ?_
            rw [zI_s1]
            exact ih (s + 1) (by omega) (by omega)
      have lz := lp 27 0 (by omega) (by omega)
      rw [show (fun k => if k < 0 then ρ 5 (26 * d + k) else ρ 2 k) = ρ 2 from by funext t; simp, hset_same h1 (a := ad 202) (e := ar 26 (ρ 2)) q1.1.2.2.1] at lz
      exact lz
    · simp (disch := omega) only [zI_lt, zI_le, zI_eq, zI_lt0, zI_le0, zI_0lt, zI_0le, zI_eq0] at c21
      unfold bBackP
      refine v_run 2 (pc' := 26) (ls' := [some (.ref (ad 200)), some (.int (zI s)), none]) (st' := [.int (zI 1), .ref (ad 200)]) rfl ?_
      refine v_callV (My := mX10_denied) (As := [.int (zI 1)]) (rest := []) (mc := 0) (ms := 0) rfl caX10_denied rfl rfl rfl q1.1.1.1 rfl rfl (q_denied G _ 1 q1.1.1.1) rfl rfl (Nat.le_of_ble_eq_true rfl) (by omega) ?_
      rintro _ h99 ⟨rfl, e99⟩
      refine v_run 0 (pc' := 29) (ls' := [some (.ref (ad 200)), some (.int (zI s)), none]) (st' := [.int (zI 0)]) rfl ?_
      rw [if_pos (by omega)]
      exact v_iret rfl rfl rfl ⟨rfl, q1.finA hA e99⟩

set_option maxRecDepth 100000 in
set_option maxHeartbeats 400000 in
theorem q_image (G : ssG) (h : ssH) {ad : Nat → Nat} {rv : Value} {m : Nat → Int} {ζ ρ : Nat → Nat → Nat} (i : Nat) (hA : ∀ k l, ad k = ad l → k = l) (ht : MT h ad rv m ζ ρ) (hz : SaOk ζ) (hV : XOk (ρ 2)) (hd : ρ 2 23 ≤ 99) (hi : m 20 = ↑i) (hi3 : i ≤ 3) : ssC G mX10_image 2 0 0 [.ref (ad 200)] h (bImageP ζ rv m ρ ad h i) := by
  refine c_of_v okX10_image (by decide +kernel) (ls := [some (.ref (ad 200)), none]) rfl (Nat.le_of_ble_eq_true rfl) ?_
  obtain ⟨z0, z1, z2, z3, z4, z5, z6, z9, z12, z13, z14, z15, z16, z17, z18, z19, z20⟩ := id hz
  refine v_run 2 (pc' := 2) (ls' := [some (.ref (ad 200)), none]) (st' := [.int (zI 0), .ref (ad 200)]) rfl ?_
  refine v_put rfl ht.1.1 rfl rfl (Nat.le_of_ble_eq_true rfl) ?_
  generalize e1 : hset h (ad 200) _ = h1
  have q1 : MQs h ad rv (mU m 0 0) ζ ρ h1 (mU m 0 0) ρ := ⟨ht.ob hA e1, mSm.rf _, rSm.rf ρ, (frM.rf ad h).ob e1⟩
  refine v_run 1 (pc' := 6) (ls' := [some (.ref (ad 200)), none]) (st' := [.ref (ad 200)]) rfl ?_
  refine v_get rfl q1.1.1.1 rfl ?_
  refine v_run 2 (pc' := 19) (ls' := [some (.ref (ad 200)), none]) (st' := [.ref (ad 200)]) rfl ?_
  refine v_get rfl q1.1.1.1 rfl ?_
  refine v_run 1 (pc' := 23) (ls' := [some (.ref (ad 200)), none]) (st' := [.int (zI 3), .int (zI ((mU m 0 0) 20))]) rfl ?_
  rw [show (zI ((mU m 0 0) 20) : Int32) = zI ↑i from by rw [show (mU m 0 0) 20 = m 20 from rfl, hi]]
  refine v_icmp_ne rfl (fun c23 => ?_) (fun c23 => ?_)
  · simp (disch := omega) only [zI_lt, zI_le, zI_eq, zI_lt0, zI_le0, zI_0lt, zI_0le, zI_eq0] at c23
    refine v_run 2 (pc' := 34) (ls' := [some (.ref (ad 200)), some (.int (zI 0))]) (st' := []) rfl ?_
    have lp : ∀ (n s : Nat), s ≤ 26 → 26 + 1 ≤ s + n → ssV G mX10_image 2 0 0 (bImageP ζ rv m ρ ad h i) 34 [some (.ref (ad 200)), some (.int (zI ↑s))] [] (hset h1 (ad 205) (ar 78 (mRe (ρ 5) (ρ 2) i s))) := by
      intro n
      induction n with
      | zero => intro s hs1 hs2; exact absurd hs2 (by omega)
      | succ n ih =>
        intro s hs1 hs2
        refine v_run 2 (pc' := 37) (ls' := [some (.ref (ad 200)), some (.int (zI ↑s))]) (st' := [.int (zI 26), .int (zI ↑s)]) rfl ?_
        refine v_icmp_ge rfl (fun c37 => ?_) (fun c37 => ?_)
        · simp (disch := omega) only [zI_lt, zI_le, zI_eq, zI_lt0, zI_le0, zI_0lt, zI_0le, zI_eq0] at c37
          have s26 : s = 26 := by omega
          refine v_run 2 (pc' := 68) (ls' := [some (.ref (ad 200)), some (.int (zI ↑s))]) (st' := [.ref (ad 200), .ref (ad 200)]) rfl ?_
          refine v_get rfl ((hset_ne _ _ (ad_ne hA (by decide))).trans q1.1.1.1) rfl ?_
          refine v_run 0 (pc' := 71) (ls' := [some (.ref (ad 200)), some (.int (zI ↑s))]) (st' := [.int (zI ((mU m 0 0) 20)), .ref (ad 200)]) rfl ?_
          rw [show (zI ((mU m 0 0) 20) : Int32) = zI ↑i from by rw [show (mU m 0 0) 20 = m 20 from rfl, hi]]
          refine v_run 2 (pc' := 73) (ls' := [some (.ref (ad 200)), some (.int (zI ↑s))]) (st' := [.int ((zI ↑i) + (zI 1)), .ref (ad 200)]) rfl ?_
          rw [show ((zI ↑i) + (zI 1) : Int32) = zI ↑(i + 1) from zI_s1 _]
          refine v_put rfl ((hset_ne _ _ (ad_ne hA (by decide))).trans q1.1.1.1) rfl rfl (Nat.le_of_ble_eq_true rfl) ?_
          generalize e5 : hset h1 (ad 205) (ar 78 (mRe (ρ 5) (ρ 2) i s)) = h5
          generalize e6 : hset h5 (ad 200) _ = h6
          have t5 := q1.1.k5 hA e5
          have t6 : MT h6 ad rv (mU (mU m 0 0) 20 ↑(i + 1)) ζ _ := t5.ob hA e6
          have f6 := (q1.2.2.2.k e5 (by decide)).ob e6
          refine v_run 2 (pc' := 78) (ls' := [some (.ref (ad 200)), some (.int (zI ↑s))]) (st' := [.ref (ad 200), .ref (ad 200)]) rfl ?_
          refine v_get rfl t6.1.1 rfl ?_
          refine v_run 0 (pc' := 81) (ls' := [some (.ref (ad 200)), some (.int (zI ↑s))]) (st' := [.int (zI ((mU (mU m 0 0) 20 ↑(i + 1)) 20)), .ref (ad 200)]) rfl ?_
          rw [show (zI ((mU (mU m 0 0) 20 ↑(i + 1)) 20) : Int32) = zI ↑(i + 1) from rfl]
          refine v_run 2 (pc' := 83) (ls' := [some (.ref (ad 200)), some (.int (zI ↑s))]) (st' := [.int ((zI ↑(i + 1)) - (zI 1)), .ref (ad 200)]) rfl ?_
          rw [show ((zI ↑(i + 1)) - (zI 1) : Int32) = zI ↑i from by rw [show (zI 1) = zI ((1 : Nat) : Int) from rfl, zN_sub (by omega)]; rfl]
          refine v_callV (My := mX10_well) (As := [.int (zI ↑i)]) (rest := []) (mc := 0) (ms := 0) rfl caX10_well rfl rfl rfl t6.1.1 rfl rfl (q_well G _ (zI ↑i) t6.1.1) rfl rfl (Nat.le_of_ble_eq_true rfl) (by omega) ?_
          rintro _ h99 ⟨rfl, e99⟩
          refine v_run 0 (pc' := 86) (ls' := [some (.ref (ad 200)), some (.int (zI ↑s))]) (st' := [.int (zI ↑i)]) rfl ?_
          unfold bImageP
          rw [if_neg (by omega)]
          exact v_iret rfl rfl rfl ⟨rfl, mFin t6 hA f6 e99 ⟨rfl, rfl, rfl, rfl, rfl⟩ ⟨rfl, rfl, by rw [s26]; rfl⟩⟩
        · simp (disch := omega) only [zI_lt, zI_le, zI_eq, zI_lt0, zI_le0, zI_0lt, zI_0le, zI_eq0] at c37
          refine v_run 1 (pc' := 41) (ls' := [some (.ref (ad 200)), some (.int (zI ↑s))]) (st' := [.ref (ad 200)]) rfl ?_
          refine v_get rfl ((hset_ne _ _ (ad_ne hA (by decide))).trans q1.1.1.1) rfl ?_
          refine v_run 2 (pc' := 47) (ls' := [some (.ref (ad 200)), some (.int (zI ↑s))]) (st' := [.ref (ad 200), .int (zI 26), .ref (ad 205)]) rfl ?_
          refine v_get rfl ((hset_ne _ _ (ad_ne hA (by decide))).trans q1.1.1.1) rfl ?_
          refine v_run 0 (pc' := 50) (ls' := [some (.ref (ad 200)), some (.int (zI ↑s))]) (st' := [.int (zI ((mU m 0 0) 20)), .int (zI 26), .ref (ad 205)]) rfl ?_
          rw [show (zI ((mU m 0 0) 20) : Int32) = zI ↑i from by rw [show (mU m 0 0) 20 = m 20 from rfl, hi]]
          refine v_run 3 (pc' := 53) (ls' := [some (.ref (ad 200)), some (.int (zI ↑s))]) (st' := [.int (((zI 26) * (zI ↑i)) + (zI ↑s)), .ref (ad 205)]) rfl ?_
          rw [show (((zI 26) * (zI ↑i)) + (zI ↑s) : Int32) = zI ↑(26 * i + s) from by rw [show (zI 26) = zI ((26 : Nat) : Int) from rfl, zN_mul, zN_add]]
          refine v_run 1 (pc' := 54) (ls' := [some (.ref (ad 200)), some (.int (zI ↑s))]) (st' := [.ref (ad 200), .int (zI ↑(26 * i + s)), .ref (ad 205)]) rfl ?_
          refine v_get rfl ((hset_ne _ _ (ad_ne hA (by decide))).trans q1.1.1.1) rfl ?_
          refine v_run 1 (pc' := 58) (ls' := [some (.ref (ad 200)), some (.int (zI ↑s))]) (st' := [.int (zI ↑s), .ref (ad 202), .int (zI ↑(26 * i + s)), .ref (ad 205)]) rfl ?_
          refine v_iaload' rfl ((hset_ne _ _ (ad_ne hA (by decide))).trans q1.1.2.2.1) (i := s) rfl (by omega) ?_
          refine v_run 0 (pc' := 59) (ls' := [some (.ref (ad 200)), some (.int (zI ↑s))]) (st' := [.int (zI ↑(ρ 2 s)), .int (zI ↑(26 * i + s)), .ref (ad 205)]) rfl ?_
          refine v_iastore' rfl (hset_self _ _ _) (i := (26 * i + s)) rfl (by omega) ?_
          rw [ar_upd, hset_hset, mRe_s (ρ 5) (ρ 2) i s]
          refine v_run 2 (pc' := 34) (ls' := [some (.ref (ad 200)), some (.int ((zI ↑s) + zI 1))]) (st' := []) rfl ?_
          rw [zI_s1]
          exact ih (s + 1) (by omega) (by omega)
    have lz := lp 27 0 (by omega) (by omega)
    rw [mRe_0, hset_same h1 q1.1.2.2.2.2.1] at lz
    exact lz
  · simp (disch := omega) only [zI_lt, zI_le, zI_eq, zI_lt0, zI_le0, zI_0lt, zI_0le, zI_eq0] at c23
    unfold bImageP
    refine v_run 2 (pc' := 28) (ls' := [some (.ref (ad 200)), none]) (st' := [.int (zI 3), .ref (ad 200)]) rfl ?_
    refine v_callV (My := mX10_refused) (As := [.int (zI 3)]) (rest := []) (mc := 0) (ms := 0) rfl caX10_refused rfl rfl rfl q1.1.1.1 rfl rfl (q_refused G _ 3 q1.1.1.1) rfl rfl (Nat.le_of_ble_eq_true rfl) (by omega) ?_
    rintro _ h99 ⟨rfl, e99⟩
    refine v_run 0 (pc' := 31) (ls' := [some (.ref (ad 200)), none]) (st' := [.int (zI (-1))]) rfl ?_
    rw [if_pos (by omega)]
    exact v_iret rfl rfl rfl ⟨rfl, q1.finA hA e99⟩

