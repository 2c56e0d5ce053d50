/-- the end of a question -/
def mSt (ζ : Nat → Nat → Nat) (rv : Value) (m : Nat → Int) (ρ : Nat → Nat → Nat) (ad : Nat → Nat) (h : ssH) (t : Int) (h' : ssH) : Prop := ∃ m' ρ', MT h' ad rv m' ζ ρ' ∧ (m' 0 = 0 ∧ m' 1 = t ∧ m' 2 = -1 ∧ m' 6 = m 6 ∧ m' 12 = m 12 ∧ m' 19 = m 19 ∧ m' 20 = m 20) ∧ rSm ρ ρ' ∧ frM ad h h'
def mR (ζ : Nat → Nat → Nat) (rv : Value) (m : Nat → Int) (ρ : Nat → Nat → Nat) (ad : Nat → Nat) (h : ssH) (t : Int) (v : Value) : Option Value → ssH → Prop := fun r h' => r = some v ∧ mSt ζ rv m ρ ad h t h'
section MQF
variable {h h1 h' : ssH} {ad : Nat → Nat} {rv : Value} {m m1 : Nat → Int} {ζ ρ ρ1 : Nat → Nat → Nat}
theorem MQs.fin (hA : ∀ k l, ad k = ad l → k = l) (q : MQs h ad rv (mU m 0 0) ζ ρ h1 m1 ρ1) {t : Int} (e : hset h1 (ad 200) (.inr (10, obM ad (.ref (ad 210)) rv (mT m1 t))) = h') : mSt ζ rv m ρ ad h t h' := by
  obtain ⟨a, ⟨b0, b1, b2, b3, b4, b5, b6⟩, c, d⟩ := q
  exact ⟨mT m1 t, ρ1, a.ob hA e, ⟨b0, rfl, rfl, b3, b4, b5, b6⟩, c, d.ob e⟩
theorem MQs.xs (hA : ∀ k l, ad k = ad l → k = l) (q : MQs h ad rv m ζ ρ h1 m1 ρ1) {Y : Nat → Nat} (e : hset h1 (ad 203) (ar 26 Y) = h') (hY : XOk Y) (h2 : ρ1 2 = ρ 2 := by rfl) (h4 : ρ1 4 = ρ 4 := by rfl) (h5 : ρ1 5 = ρ 5 := by rfl) (h6 : rU ρ1 3 Y = rU ρ 3 Y := by first | rfl | exact rU_rU _ _ _ _) : MQs h ad rv m ζ ρ h' m1 (rU ρ 3 Y) := by
  rw [← h6]
  exact ⟨q.1.xs hA e hY, q.2.1, ⟨h2, h4, h5⟩, q.2.2.2.k e (by decide)⟩
theorem MQs.xs2 (hA : ∀ k l, ad k = ad l → k = l) {X Y : Nat → Nat} (q : MQs h ad rv m ζ ρ h1 m1 (rU ρ 3 X)) (e : hset h1 (ad 203) (ar 26 Y) = h') (hY : XOk Y) : MQs h ad rv m ζ ρ h' m1 (rU ρ 3 Y) := q.xs hA e hY
end MQF
theorem mWhy_0 {b : Bool} {s t : Int} (h : mWhy b s t = 0) : b = true ∧ 0 ≤ s ∧ s ≤ t := by
  unfold mWhy at h
  split at h
  · cases h
  · rename_i c
    split at h
    · rename_i d
      exact ⟨by cases b <;> simp_all, d⟩
    · cases h
def bGood (ζ : Nat → Nat → Nat) (V : Nat → Nat) : Int × Nat := (↑(mG ζ V), 0)
def bQuorum (ζ : Nat → Nat → Nat) (V : Nat → Nat) : Int × Nat := if ζ 0 0 ≤ popN (mG ζ V) then (1, 0) else (0, 0)
def bLasts (ζ : Nat → Nat → Nat) (V : Nat → Nat) : Int × Nat := (↑(mLast ζ V), 0)
def bGoing (ζ : Nat → Nat → Nat) (V : Nat → Nat) : Int × Nat := (↑(mGo ζ (mPut ζ V) 0), 0)
def bGoodIn (ζ : Nat → Nat → Nat) (V : Nat → Nat) (s n : Int) : Int × Nat := if 0 < mWhy (decide (0 ≤ s ∧ s < ↑(ζ 5 0))) n 60 then (-1, mWhy (decide (0 ≤ s ∧ s < ↑(ζ 5 0))) n 60) else (↑(mDs ζ mF V n.toNat (12 + s.toNat)), 0)
def mOfP (ζ : Nat → Nat → Nat) (V : Nat → Nat) (s : Nat) : Nat → Bool := fun n => decide (mDs ζ mF V n (12 + s) = 0)
def mOff (ζ : Nat → Nat → Nat) (V : Nat → Nat) (s : Nat) : Nat := fstN (mOfP ζ V s) 61 0
def bOffIn (ζ : Nat → Nat → Nat) (V : Nat → Nat) (s : Int) : Int × Nat := if ¬ (0 ≤ s ∧ s < ↑(ζ 5 0)) then (-1, 1) else if mOff ζ V s.toNat ≤ 60 then (↑(mOff ζ V s.toNat), 0) else (-2, 0)
def bnA (ζ : Nat → Nat → Nat) (V : Nat → Nat) : Nat → Int
  | 0 => -2
  | a + 1 => if V 23 ≤ ζ 17 a ∧ (bnA ζ V a = -2 ∨ ζ 17 a < ζ 17 (bnA ζ V a).toNat) then ↑a else bnA ζ V a
theorem bnA_bd (ζ : Nat → Nat → Nat) (V : Nat → Nat) : ∀ a, bnA ζ V a = -2 ∨ (0 ≤ bnA ζ V a ∧ bnA ζ V a < ↑a)
  | 0 => Or.inl rfl
  | a + 1 => by
    have := bnA_bd ζ V a
    simp only [bnA]
    split <;> omega
def bNext (ζ : Nat → Nat → Nat) (V : Nat → Nat) : Int × Nat := (bnA ζ V (ζ 6 0), 0)
def bMargin (ζ : Nat → Nat → Nat) (V : Nat → Nat) (s : Int) : Int × Nat := if ¬ (0 ≤ s ∧ s < ↑(ζ 6 0)) then (-1, 1) else if ζ 17 s.toNat < V 23 then (-1, 5) else (1000 + mMg ζ (mPut ζ V) s.toNat, 0)
def bJudge (ζ : Nat → Nat → Nat) : Int × Nat := (mWr ζ (mGo ζ (mPut ζ (mTold ζ)) 0), 0)
set_option maxRecDepth 100000 in
set_option maxHeartbeats 400000 in
theorem q_good (G : ssG) (h : ssH) {ad : Nat → Nat} {rv : Value} {m : Nat → Int} {ζ ρ : Nat → Nat → Nat}  (hA : ∀ k l, ad k = ad l → k = l) (ht : MT h ad rv m ζ ρ) (hz : SaOk ζ) (hV : XOk (ρ 2)) (hd : ρ 2 23 ≤ 99)  : ssC G mX10_good 2 0 0 [.ref (ad 200)] h (mR ζ rv m ρ ad h ↑(bGood ζ (ρ 2)).2 (.int (zI (bGood ζ (ρ 2)).1))) := by
  refine c_of_v okX10_good (by decide +kernel) (ls := [some (.ref (ad 200))]) rfl (Nat.le_of_ble_eq_true rfl) ?_
  obtain ⟨z0, z1, z2, z3, z4, z5, z6, z9, z12, z13, z14, z15, z16, z17, z18, z19, z20⟩ := id hz
  refine v_run 2 (pc' := 2) (ls' := [some (.ref (ad 200))]) (st' := [.int (zI 0), .ref (ad 200)]) rfl ?_
  refine v_put rfl ht.1.1 rfl rfl (Nat.le_of_ble_eq_true rfl) ?_
  generalize e1 : hset h (ad 200) _ = h1
  have q1 : MQs h ad rv (mU m 0 0) ζ ρ h1 (mU m 0 0) ρ := ⟨ht.ob hA e1, mSm.rf _, rSm.rf ρ, (frM.rf ad h).ob e1⟩
  refine v_run 1 (pc' := 6) (ls' := [some (.ref (ad 200))]) (st' := [.ref (ad 200)]) rfl ?_
  refine v_get rfl q1.1.1.1 rfl ?_
  refine v_run 2 (pc' := 19) (ls' := [some (.ref (ad 200))]) (st' := [.ref (ad 200)]) rfl ?_
  refine v_callV (My := mX10_works) (As := []) (rest := []) (mc := 0) (ms := 0) rfl caX10_works rfl rfl rfl q1.1.1.1 rfl rfl (q_works G _ hA q1.1.1 hz q1.1.2.1 q1.1.2.2.1 hV) rfl rfl (Nat.le_of_ble_eq_true rfl) (by omega) ?_
  rintro _ h2 ⟨rfl, e2⟩
  have q2 : MQs h ad rv (mU m 0 0) ζ ρ h2 (mU m 0 0) (rU ρ 3 (ρ 2)) := q1.xs hA e2 (hV)
  refine v_run 0 (pc' := 22) (ls' := [some (.ref (ad 200))]) (st' := []) rfl ?_
  refine v_run 2 (pc' := 24) (ls' := [some (.ref (ad 200))]) (st' := [.ref (ad 200), .ref (ad 200)]) rfl ?_
  refine v_callV (My := mX10_goodNow) (As := []) (rest := [.ref (ad 200)]) (mc := 0) (ms := 0) rfl caX10_goodNow rfl rfl rfl q2.1.1.1 rfl rfl (q_goodNow G _ hA q2.1.1 hz q2.1.2.1) rfl rfl (Nat.le_of_ble_eq_true rfl) (by omega) ?_
  rintro _ _ ⟨rfl, rfl⟩
  refine v_run 0 (pc' := 27) (ls' := [some (.ref (ad 200))]) (st' := [.int (zI ↑(mG ζ (ρ 2))), .ref (ad 200)]) rfl ?_
  refine v_callV (My := mX10_well) (As := [.int (zI ↑(mG ζ (ρ 2)))]) (rest := []) (mc := 0) (ms := 0) rfl caX10_well rfl rfl rfl q2.1.1.1 rfl rfl (q_well G _ ((zI ↑(mG ζ (ρ 2)))) q2.1.1.1) rfl rfl (Nat.le_of_ble_eq_true rfl) (by omega) ?_
  rintro _ h99 ⟨rfl, e99⟩
  refine v_run 0 (pc' := 30) (ls' := [some (.ref (ad 200))]) (st' := [.int ((zI ↑(mG ζ (ρ 2))))]) rfl ?_
  rw [show bGood ζ (ρ 2) = (↑(mG ζ (ρ 2)), 0) from rfl]
  exact v_iret rfl rfl rfl ⟨rfl, q2.fin hA e99⟩

set_option maxRecDepth 100000 in
set_option maxHeartbeats 400000 in
theorem q_quorum (G : ssG) (h : ssH) {ad : Nat → Nat} {rv : Value} {m : Nat → Int} {ζ ρ : Nat → Nat → Nat}  (hA : ∀ k l, ad k = ad l → k = l) (ht : MT h ad rv m ζ ρ) (hz : SaOk ζ) (hV : XOk (ρ 2)) (hd : ρ 2 23 ≤ 99)  : ssC G mX10_quorum 2 0 0 [.ref (ad 200)] h (mR ζ rv m ρ ad h ↑(bQuorum ζ (ρ 2)).2 (.int (zI (bQuorum ζ (ρ 2)).1))) := by
  refine c_of_v okX10_quorum (by decide +kernel) (ls := [some (.ref (ad 200))]) rfl (Nat.le_of_ble_eq_true rfl) ?_
  obtain ⟨z0, z1, z2, z3, z4, z5, z6, z9, z12, z13, z14, z15, z16, z17, z18, z19, z20⟩ := id hz
  refine v_run 2 (pc' := 2) (ls' := [some (.ref (ad 200))]) (st' := [.int (zI 0), .ref (ad 200)]) rfl ?_
  refine v_put rfl ht.1.1 rfl rfl (Nat.le_of_ble_eq_true rfl) ?_
  generalize e1 : hset h (ad 200) _ = h1
  have q1 : MQs h ad rv (mU m 0 0) ζ ρ h1 (mU m 0 0) ρ := ⟨ht.ob hA e1, mSm.rf _, rSm.rf ρ, (frM.rf ad h).ob e1⟩
  refine v_run 1 (pc' := 6) (ls' := [some (.ref (ad 200))]) (st' := [.ref (ad 200)]) rfl ?_
  refine v_get rfl q1.1.1.1 rfl ?_
  refine v_run 2 (pc' := 19) (ls' := [some (.ref (ad 200))]) (st' := [.ref (ad 200)]) rfl ?_
  refine v_callV (My := mX10_works) (As := []) (rest := []) (mc := 0) (ms := 0) rfl caX10_works rfl rfl rfl q1.1.1.1 rfl rfl (q_works G _ hA q1.1.1 hz q1.1.2.1 q1.1.2.2.1 hV) rfl rfl (Nat.le_of_ble_eq_true rfl) (by omega) ?_
  rintro _ h3 ⟨rfl, e3⟩
  have q3 : MQs h ad rv (mU m 0 0) ζ ρ h3 (mU m 0 0) (rU ρ 3 (ρ 2)) := q1.xs hA e3 (hV)
  refine v_run 0 (pc' := 22) (ls' := [some (.ref (ad 200))]) (st' := []) rfl ?_
  refine v_run 2 (pc' := 24) (ls' := [some (.ref (ad 200))]) (st' := [.ref (ad 200), .ref (ad 200)]) rfl ?_
  refine v_callV (My := mX10_isQuorum) (As := []) (rest := [.ref (ad 200)]) (mc := 0) (ms := 0) rfl caX10_isQuorum rfl rfl rfl q3.1.1.1 rfl rfl (q_isQuorum G _ hA q3.1.1 hz q3.1.2.1) rfl rfl (Nat.le_of_ble_eq_true rfl) (by omega) ?_
  rintro _ _ ⟨rfl, rfl⟩
  refine v_run 0 (pc' := 27) (ls' := [some (.ref (ad 200))]) (st' := [.int (zb (decide (ζ 0 0 ≤ popN (mG ζ (ρ 2))))), .ref (ad 200)]) rfl ?_
  refine v_if_eq rfl (fun c27 => ?_) (fun c27 => ?_)
  · rw [zb_0, decide_eq_false_iff_not] at c27
    refine v_run 1 (pc' := 35) (ls' := [some (.ref (ad 200))]) (st' := [.int (zI 0), .ref (ad 200)]) rfl ?_
    refine v_callV (My := mX10_well) (As := [.int (zI 0)]) (rest := []) (mc := 0) (ms := 0) rfl caX10_well rfl rfl rfl q3.1.1.1 rfl rfl (q_well G _ ((zI 0)) q3.1.1.1) rfl rfl (Nat.le_of_ble_eq_true rfl) (by omega) ?_
    rintro _ h99 ⟨rfl, e99⟩
    refine v_run 0 (pc' := 38) (ls' := [some (.ref (ad 200))]) (st' := [.int ((zI 0))]) rfl ?_
    rw [show bQuorum ζ (ρ 2) = (0, 0) from if_neg c27]
    exact v_iret rfl rfl rfl ⟨rfl, q3.fin hA e99⟩
  · rw [zb_0, Bool.not_eq_false, decide_eq_true_eq] at c27
    refine v_run 2 (pc' := 35) (ls' := [some (.ref (ad 200))]) (st' := [.int (zI 1), .ref (ad 200)]) rfl ?_
    refine v_callV (My := mX10_well) (As := [.int (zI 1)]) (rest := []) (mc := 0) (ms := 0) rfl caX10_well rfl rfl rfl q3.1.1.1 rfl rfl (q_well G _ ((zI 1)) q3.1.1.1) rfl rfl (Nat.le_of_ble_eq_true rfl) (by omega) ?_
    rintro _ h99 ⟨rfl, e99⟩
    refine v_run 0 (pc' := 38) (ls' := [some (.ref (ad 200))]) (st' := [.int ((zI 1))]) rfl ?_
    rw [show bQuorum ζ (ρ 2) = (1, 0) from if_pos c27]
    exact v_iret rfl rfl rfl ⟨rfl, q3.fin hA e99⟩

set_option maxRecDepth 100000 in
set_option maxHeartbeats 400000 in
theorem q_lasts (G : ssG) (h : ssH) {ad : Nat → Nat} {rv : Value} {m : Nat → Int} {ζ ρ : Nat → Nat → Nat}  (hA : ∀ k l, ad k = ad l → k = l) (ht : MT h ad rv m ζ ρ) (hz : SaOk ζ) (hV : XOk (ρ 2)) (hd : ρ 2 23 ≤ 99)  : ssC G mX10_lasts 3 0 0 [.ref (ad 200)] h (mR ζ rv m ρ ad h ↑(bLasts ζ (ρ 2)).2 (.int (zI (bLasts ζ (ρ 2)).1))) := by
  refine c_of_v okX10_lasts (by decide +kernel) (ls := [some (.ref (ad 200))]) rfl (Nat.le_of_ble_eq_true rfl) ?_
  obtain ⟨z0, z1, z2, z3, z4, z5, z6, z9, z12, z13, z14, z15, z16, z17, z18, z19, z20⟩ := id hz
  refine v_run 2 (pc' := 2) (ls' := [some (.ref (ad 200))]) (st' := [.int (zI 0), .ref (ad 200)]) rfl ?_
  refine v_put rfl ht.1.1 rfl rfl (Nat.le_of_ble_eq_true rfl) ?_
  generalize e1 : hset h (ad 200) _ = h1
  have q1 : MQs h ad rv (mU m 0 0) ζ ρ h1 (mU m 0 0) ρ := ⟨ht.ob hA e1, mSm.rf _, rSm.rf ρ, (frM.rf ad h).ob e1⟩
  refine v_run 1 (pc' := 6) (ls' := [some (.ref (ad 200))]) (st' := [.ref (ad 200)]) rfl ?_
  refine v_get rfl q1.1.1.1 rfl ?_
  refine v_run 2 (pc' := 19) (ls' := [some (.ref (ad 200))]) (st' := [.ref (ad 200)]) rfl ?_
  refine v_callV (My := mX10_works) (As := []) (rest := []) (mc := 0) (ms := 0) rfl caX10_works rfl rfl rfl q1.1.1.1 rfl rfl (q_works G _ hA q1.1.1 hz q1.1.2.1 q1.1.2.2.1 hV) rfl rfl (Nat.le_of_ble_eq_true rfl) (by omega) ?_
  rintro _ h4 ⟨rfl, e4⟩
  have q4 : MQs h ad rv (mU m 0 0) ζ ρ h4 (mU m 0 0) (rU ρ 3 (ρ 2)) := q1.xs hA e4 (hV)
  refine v_run 0 (pc' := 22) (ls' := [some (.ref (ad 200))]) (st' := []) rfl ?_
  refine v_run 2 (pc' := 24) (ls' := [some (.ref (ad 200))]) (st' := [.ref (ad 200), .ref (ad 200)]) rfl ?_
  refine v_callV (My := mX10_lastsNow) (As := []) (rest := [.ref (ad 200)]) (mc := 0) (ms := 0) rfl caX10_lastsNow rfl rfl rfl q4.1.1.1 rfl rfl (q_lastsNow G _ hA q4.1.1 hz q4.1.2.1 (by show ρ 2 23 + 99 ≤ 1000; omega)) rfl rfl (Nat.le_of_ble_eq_true rfl) (by omega) ?_
  rintro _ h5 ⟨rfl, e5⟩
  have q5 : MQs h ad rv (mU m 0 0) ζ ρ h5 (mU m 0 0) (rU ρ 3 (mDs ζ mF (ρ 2) (mLast ζ (ρ 2)))) := q4.xs hA e5 (mDs_ok hz hV _)
  refine v_run 0 (pc' := 27) (ls' := [some (.ref (ad 200))]) (st' := [.int (zI ↑(mLast ζ (ρ 2))), .ref (ad 200)]) rfl ?_
  refine v_callV (My := mX10_well) (As := [.int (zI ↑(mLast ζ (ρ 2)))]) (rest := []) (mc := 0) (ms := 0) rfl caX10_well rfl rfl rfl q5.1.1.1 rfl rfl (q_well G _ ((zI ↑(mLast ζ (ρ 2)))) q5.1.1.1) rfl rfl (Nat.le_of_ble_eq_true rfl) (by omega) ?_
  rintro _ h99 ⟨rfl, e99⟩
  refine v_run 0 (pc' := 30) (ls' := [some (.ref (ad 200))]) (st' := [.int ((zI ↑(mLast ζ (ρ 2))))]) rfl ?_
  rw [show bLasts ζ (ρ 2) = (↑(mLast ζ (ρ 2)), 0) from rfl]
  exact v_iret rfl rfl rfl ⟨rfl, q5.fin hA e99⟩

set_option maxRecDepth 100000 in
set_option maxHeartbeats 400000 in
theorem q_going (G : ssG) (h : ssH) {ad : Nat → Nat} {rv : Value} {m : Nat → Int} {ζ ρ : Nat → Nat → Nat}  (hA : ∀ k l, ad k = ad l → k = l) (ht : MT h ad rv m ζ ρ) (hz : SaOk ζ) (hV : XOk (ρ 2)) (hd : ρ 2 23 ≤ 99)  : ssC G mX10_going 6 0 0 [.ref (ad 200)] h (mR ζ rv m ρ ad h ↑(bGoing ζ (ρ 2)).2 (.int (zI (bGoing ζ (ρ 2)).1))) := by
  refine c_of_v okX10_going (by decide +kernel) (ls := [some (.ref (ad 200))]) rfl (Nat.le_of_ble_eq_true rfl) ?_
  obtain ⟨z0, z1, z2, z3, z4, z5, z6, z9, z12, z13, z14, z15, z16, z17, z18, z19, z20⟩ := id hz
  refine v_run 2 (pc' := 2) (ls' := [some (.ref (ad 200))]) (st' := [.int (zI 0), .ref (ad 200)]) rfl ?_
  refine v_put rfl ht.1.1 rfl rfl (Nat.le_of_ble_eq_true rfl) ?_
  generalize e1 : hset h (ad 200) _ = h1
  have q1 : MQs h ad rv (mU m 0 0) ζ ρ h1 (mU m 0 0) ρ := ⟨ht.ob hA e1, mSm.rf _, rSm.rf ρ, (frM.rf ad h).ob e1⟩
  refine v_run 1 (pc' := 6) (ls' := [some (.ref (ad 200))]) (st' := [.ref (ad 200)]) rfl ?_
  refine v_get rfl q1.1.1.1 rfl ?_
  refine v_run 3 (pc' := 22) (ls' := [some (.ref (ad 200))]) (st' := [.ref (ad 200), .ref (ad 200)]) rfl ?_
  refine v_callV (My := mX10_goingNow) (As := []) (rest := [.ref (ad 200)]) (mc := 0) (ms := 0) rfl caX10_goingNow rfl rfl rfl q1.1.1.1 rfl rfl (q_goingNow G _ hA q1.1.1 hz q1.1.2.1 q1.1.2.2.1 hV hd) rfl rfl (Nat.le_of_ble_eq_true rfl) (by omega) ?_
  rintro _ h6 ⟨rfl, e6⟩
  have q6 : MQs h ad rv (mU m 0 0) ζ ρ h6 (mU m 0 0) (rU ρ 3 (mPut ζ (ρ 2))) := q1.xs hA e6 (mDs_ok hz hV _)
  refine v_run 0 (pc' := 25) (ls' := [some (.ref (ad 200))]) (st' := [.int (zI ↑(mGo ζ (mPut ζ (ρ 2)) 0)), .ref (ad 200)]) rfl ?_
  refine v_callV (My := mX10_well) (As := [.int (zI ↑(mGo ζ (mPut ζ (ρ 2)) 0))]) (rest := []) (mc := 0) (ms := 0) rfl caX10_well rfl rfl rfl q6.1.1.1 rfl rfl (q_well G _ ((zI ↑(mGo ζ (mPut ζ (ρ 2)) 0))) q6.1.1.1) rfl rfl (Nat.le_of_ble_eq_true rfl) (by omega) ?_
  rintro _ h99 ⟨rfl, e99⟩
  refine v_run 0 (pc' := 28) (ls' := [some (.ref (ad 200))]) (st' := [.int ((zI ↑(mGo ζ (mPut ζ (ρ 2)) 0)))]) rfl ?_
  rw [show bGoing ζ (ρ 2) = (↑(mGo ζ (mPut ζ (ρ 2)) 0), 0) from rfl]
  exact v_iret rfl rfl rfl ⟨rfl, q6.fin hA e99⟩

set_option maxRecDepth 100000 in
set_option maxHeartbeats 400000 in
theorem q_goodIn (G : ssG) (h : ssH) {ad : Nat → Nat} {rv : Value} {m : Nat → Int} {ζ ρ : Nat → Nat → Nat} (s n : Int) (hA : ∀ k l, ad k = ad l → k = l) (ht : MT h ad rv m ζ ρ) (hz : SaOk ζ) (hV : XOk (ρ 2)) (hd : ρ 2 23 ≤ 99) (hs : -2147483648 ≤ s ∧ s < 2147483648) (hn : -2147483648 ≤ n ∧ n < 2147483648) : ssC G mX10_goodIn 3 0 0 [.ref (ad 200), .int (zI s), .int (zI n)] h (mR ζ rv m ρ ad h ↑(bGoodIn ζ (ρ 2) s n).2 (.int (zI (bGoodIn ζ (ρ 2) s n).1))) := by
  refine c_of_v okX10_goodIn (by decide +kernel) (ls := [some (.ref (ad 200)), some (.int (zI s)), some (.int (zI n)), none]) rfl (Nat.le_of_ble_eq_true rfl) ?_
  obtain ⟨z0, z1, z2, z3, z4, z5, z6, z9, z12, z13, z14, z15, z16, z17, z18, z19, z20⟩ := id hz
  refine v_run 2 (pc' := 2) (ls' := [some (.ref (ad 200)), some (.int (zI s)), some (.int (zI n)), none]) (st' := [.int (zI 0), .ref (ad 200)]) rfl ?_
  refine v_put rfl ht.1.1 rfl rfl (Nat.le_of_ble_eq_true rfl) ?_
  generalize e1 : hset h (ad 200) _ = h1
  have q1 : MQs h ad rv (mU m 0 0) ζ ρ h1 (mU m 0 0) ρ := ⟨ht.ob hA e1, mSm.rf _, rSm.rf ρ, (frM.rf ad h).ob e1⟩
  refine v_run 3 (pc' := 8) (ls' := [some (.ref (ad 200)), some (.int (zI s)), some (.int (zI n)), none]) (st' := [.int (zI s), .ref (ad 200), .ref (ad 200)]) rfl ?_
  refine v_callV (My := mX10_isSenator) (As := [.int (zI s)]) (rest := [.ref (ad 200)]) (mc := 0) (ms := 0) rfl caX10_isSenator rfl rfl rfl q1.1.1.1 rfl rfl (q_isSenator G _ s hA q1.1.1 hz q1.1.2.1 hs) rfl rfl (Nat.le_of_ble_eq_true rfl) (by omega) ?_
  rintro _ _ ⟨rfl, rfl⟩
  refine v_run 0 (pc' := 11) (ls' := [some (.ref (ad 200)), some (.int (zI s)), some (.int (zI n)), none]) (st' := [.int (zb (decide (0 ≤ s ∧ s < ↑(ζ 5 0)))), .ref (ad 200)]) rfl ?_
  refine v_run 2 (pc' := 14) (ls' := [some (.ref (ad 200)), some (.int (zI s)), some (.int (zI n)), none]) (st' := [.int (zI 60), .int (zI n), .int (zb (decide (0 ≤ s ∧ s < ↑(ζ 5 0)))), .ref (ad 200)]) rfl ?_
  refine v_callV (My := mX10_refusesDays) (As := [.int (zb (decide (0 ≤ s ∧ s < ↑(ζ 5 0)))), .int (zI n), .int (zI 60)]) (rest := []) (mc := 0) (ms := 0) rfl caX10_refusesDays rfl rfl rfl q1.1.1.1 rfl rfl (q_refusesDays G _ (decide (0 ≤ s ∧ s < ↑(ζ 5 0))) n 60 hn (by decide)) rfl rfl (Nat.le_of_ble_eq_true rfl) (by omega) ?_
  rintro _ _ ⟨rfl, rfl⟩
  refine v_run 0 (pc' := 17) (ls' := [some (.ref (ad 200)), some (.int (zI s)), some (.int (zI n)), none]) (st' := [.int (zI ↑(mWhy (decide (0 ≤ s ∧ s < ↑(ζ 5 0))) n 60))]) rfl ?_
  have wy : mWhy (decide (0 ≤ s ∧ s < ↑(ζ 5 0))) n 60 ≤ 6 := by unfold mWhy; split; decide; split <;> decide
  refine v_run 2 (pc' := 19) (ls' := [some (.ref (ad 200)), some (.int (zI s)), some (.int (zI n)), some (.int (zI ↑(mWhy (decide (0 ≤ s ∧ s < ↑(ζ 5 0))) n 60)))]) (st' := [.int (zI ↑(mWhy (decide (0 ≤ s ∧ s < ↑(ζ 5 0))) n 60))]) rfl ?_
  refine v_if_le rfl (fun c19 => ?_) (fun c19 => ?_)
  · simp (disch := omega) only [zI_lt, zI_le, zI_eq, zI_lt0, zI_le0, zI_0lt, zI_0le, zI_eq0] at c19
    have w0 := mWhy_0 (show mWhy (decide (0 ≤ s ∧ s < ↑(ζ 5 0))) n 60 = 0 by omega)
    rw [decide_eq_true_eq] at w0
    have wz : mWhy (decide (0 ≤ s ∧ s < ↑(ζ 5 0))) n 60 = 0 := by omega
    obtain ⟨k, rfl⟩ : ∃ z : Nat, s = ↑z := ⟨s.toNat, by omega⟩
    obtain ⟨t, rfl⟩ : ∃ z : Nat, n = ↑z := ⟨n.toNat, by omega⟩
    refine v_drop 3 (ls' := [some (.ref (ad 200)), some (.int (zI ↑k)), some (.int (zI ↑t)), none]) rfl ?_
    refine v_run 1 (pc' := 29) (ls' := [some (.ref (ad 200)), some (.int (zI ↑k)), some (.int (zI ↑t)), none]) (st' := [.ref (ad 200)]) rfl ?_
    refine v_callV (My := mX10_works) (As := []) (rest := []) (mc := 0) (ms := 0) rfl caX10_works rfl rfl rfl q1.1.1.1 rfl rfl (q_works G _ hA q1.1.1 hz q1.1.2.1 q1.1.2.2.1 hV) rfl rfl (Nat.le_of_ble_eq_true rfl) (by omega) ?_
    rintro _ h7 ⟨rfl, e7⟩
    have q7 : MQs h ad rv (mU m 0 0) ζ ρ h7 (mU m 0 0) (rU ρ 3 (ρ 2)) := q1.xs hA e7 (hV)
    refine v_run 0 (pc' := 32) (ls' := [some (.ref (ad 200)), some (.int (zI ↑k)), some (.int (zI ↑t)), none]) (st' := []) rfl ?_
    refine v_run 2 (pc' := 34) (ls' := [some (.ref (ad 200)), some (.int (zI ↑k)), some (.int (zI ↑t)), none]) (st' := [.int (zI ↑t), .ref (ad 200)]) rfl ?_
    refine v_callV (My := mX10_daysOn) (As := [.int (zI ↑t)]) (rest := []) (mc := 0) (ms := 0) rfl caX10_daysOn rfl rfl rfl q7.1.1.1 rfl rfl (q_daysOn G _ t hA q7.1.1 hz q7.1.2.1 (by show ρ 2 23 + t ≤ 1000; omega)) rfl rfl (Nat.le_of_ble_eq_true rfl) (by omega) ?_
    rintro _ h8 ⟨rfl, e8⟩
    have q8 : MQs h ad rv (mU m 0 0) ζ ρ h8 (mU m 0 0) (rU ρ 3 (mDs ζ mF (ρ 2) t)) := q7.xs hA e8 (mDs_ok hz hV _)
    refine v_run 0 (pc' := 37) (ls' := [some (.ref (ad 200)), some (.int (zI ↑k)), some (.int (zI ↑t)), none]) (st' := []) rfl ?_
    refine v_run 2 (pc' := 39) (ls' := [some (.ref (ad 200)), some (.int (zI ↑k)), some (.int (zI ↑t)), none]) (st' := [.ref (ad 200), .ref (ad 200)]) rfl ?_
    refine v_get rfl q8.1.1.1 rfl ?_
    refine v_run 3 (pc' := 46) (ls' := [some (.ref (ad 200)), some (.int (zI ↑k)), some (.int (zI ↑t)), none]) (st' := [.int ((zI 12) + (zI ↑k)), .ref (ad 203), .ref (ad 200)]) rfl ?_
    refine v_iaload' rfl q8.1.1.2.2 (i := (12 + k)) (zN_add 12 k) (by omega) ?_
    refine v_run 0 (pc' := 47) (ls' := [some (.ref (ad 200)), some (.int (zI ↑k)), some (.int (zI ↑t)), none]) (st' := [.int (zI ↑(mDs ζ mF (ρ 2) t (12 + k))), .ref (ad 200)]) rfl ?_
    refine v_callV (My := mX10_well) (As := [.int (zI ↑(mDs ζ mF (ρ 2) t (12 + k)))]) (rest := []) (mc := 0) (ms := 0) rfl caX10_well rfl rfl rfl q8.1.1.1 rfl rfl (q_well G _ ((zI ↑(mDs ζ mF (ρ 2) t (12 + k)))) q8.1.1.1) rfl rfl (Nat.le_of_ble_eq_true rfl) (by omega) ?_
    rintro _ h99 ⟨rfl, e99⟩
    refine v_run 0 (pc' := 50) (ls' := [some (.ref (ad 200)), some (.int (zI ↑k)), some (.int (zI ↑t)), none]) (st' := [.int ((zI ↑(mDs ζ mF (ρ 2) t (12 + k))))]) rfl ?_
    rw [show bGoodIn ζ (ρ 2) ↑k ↑t = (↑(mDs ζ mF (ρ 2) t (12 + k)), 0) from by rw [bGoodIn, if_neg (by omega)]; rfl]
    exact v_iret rfl rfl rfl ⟨rfl, q8.fin hA e99⟩
  · simp (disch := omega) only [zI_lt, zI_le, zI_eq, zI_lt0, zI_le0, zI_0lt, zI_0le, zI_eq0] at c19
    refine v_run 2 (pc' := 24) (ls' := [some (.ref (ad 200)), some (.int (zI s)), some (.int (zI n)), some (.int (zI ↑(mWhy (decide (0 ≤ s ∧ s < ↑(ζ 5 0))) n 60)))]) (st' := [.int (zI ↑(mWhy (decide (0 ≤ s ∧ s < ↑(ζ 5 0))) n 60)), .ref (ad 200)]) rfl ?_
    refine v_callV (My := mX10_refused) (As := [.int (zI ↑(mWhy (decide (0 ≤ s ∧ s < ↑(ζ 5 0))) n 60))]) (rest := []) (mc := 0) (ms := 0) rfl caX10_refused rfl rfl rfl q1.1.1.1 rfl rfl (q_refused G _ ↑(mWhy (decide (0 ≤ s ∧ s < ↑(ζ 5 0))) n 60) q1.1.1.1) rfl rfl (Nat.le_of_ble_eq_true rfl) (by omega) ?_
    rintro _ h99 ⟨rfl, e99⟩
    refine v_run 0 (pc' := 27) (ls' := [some (.ref (ad 200)), some (.int (zI s)), some (.int (zI n)), some (.int (zI ↑(mWhy (decide (0 ≤ s ∧ s < ↑(ζ 5 0))) n 60)))]) (st' := [.int (zI (-1))]) rfl ?_
    rw [show bGoodIn ζ (ρ 2) s n = (-1, mWhy (decide (0 ≤ s ∧ s < ↑(ζ 5 0))) n 60) from if_pos (by omega)]
    exact v_iret rfl rfl rfl ⟨rfl, q1.fin hA e99⟩

set_option maxRecDepth 100000 in
set_option maxHeartbeats 400000 in
theorem q_offIn (G : ssG) (h : ssH) {ad : Nat → Nat} {rv : Value} {m : Nat → Int} {ζ ρ : Nat → Nat → Nat} (s : Int) (hA : ∀ k l, ad k = ad l → k = l) (ht : MT h ad rv m ζ ρ) (hz : SaOk ζ) (hV : XOk (ρ 2)) (hd : ρ 2 23 ≤ 99) (hs : -2147483648 ≤ s ∧ s < 2147483648) : ssC G mX10_offIn 2 0 0 [.ref (ad 200), .int (zI s)] h (mR ζ rv m ρ ad h ↑(bOffIn ζ (ρ 2) s).2 (.int (zI (bOffIn ζ (ρ 2) s).1))) := by
  refine c_of_v okX10_offIn (by decide +kernel) (ls := [some (.ref (ad 200)), some (.int (zI s)), none]) rfl (Nat.le_of_ble_eq_true rfl) ?_
  obtain ⟨z0, z1, z2, z3, z4, z5, z6, z9, z12, z13, z14, z15, z16, z17, z18, z19, z20⟩ := id hz
  refine v_run 2 (pc' := 2) (ls' := [some (.ref (ad 200)), some (.int (zI s)), none]) (st' := [.int (zI 0), .ref (ad 200)]) rfl ?_
  refine v_put rfl ht.1.1 rfl rfl (Nat.le_of_ble_eq_true rfl) ?_
  generalize e1 : hset h (ad 200) _ = h1
  have q1 : MQs h ad rv (mU m 0 0) ζ ρ h1 (mU m 0 0) ρ := ⟨ht.ob hA e1, mSm.rf _, rSm.rf ρ, (frM.rf ad h).ob e1⟩
  refine v_run 2 (pc' := 7) (ls' := [some (.ref (ad 200)), some (.int (zI s)), none]) (st' := [.int (zI s), .ref (ad 200)]) rfl ?_
  refine v_callV (My := mX10_isSenator) (As := [.int (zI s)]) (rest := []) (mc := 0) (ms := 0) rfl caX10_isSenator rfl rfl rfl q1.1.1.1 rfl rfl (q_isSenator G _ s hA q1.1.1 hz q1.1.2.1 hs) rfl rfl (Nat.le_of_ble_eq_true rfl) (by omega) ?_
  rintro _ _ ⟨rfl, rfl⟩
  refine v_run 0 (pc' := 10) (ls' := [some (.ref (ad 200)), some (.int (zI s)), none]) (st' := [.int (zb (decide (0 ≤ s ∧ s < ↑(ζ 5 0))))]) rfl ?_
  refine v_if_ne rfl (fun c10 => ?_) (fun c10 => ?_)
  · rw [zb_0, Bool.not_eq_false, decide_eq_true_eq] at c10
    have hs9 := c10
    obtain ⟨k, rfl⟩ : ∃ z : Nat, s = ↑z := ⟨s.toNat, by omega⟩
    refine v_run 1 (pc' := 20) (ls' := [some (.ref (ad 200)), some (.int (zI ↑k)), none]) (st' := [.ref (ad 200)]) rfl ?_
    refine v_callV (My := mX10_works) (As := []) (rest := []) (mc := 0) (ms := 0) rfl caX10_works rfl rfl rfl q1.1.1.1 rfl rfl (q_works G _ hA q1.1.1 hz q1.1.2.1 q1.1.2.2.1 hV) rfl rfl (Nat.le_of_ble_eq_true rfl) (by omega) ?_
    rintro _ h9 ⟨rfl, e9⟩
    have q9 : MQs h ad rv (mU m 0 0) ζ ρ h9 (mU m 0 0) (rU ρ 3 (ρ 2)) := q1.xs hA e9 (hV)
    refine v_run 0 (pc' := 23) (ls' := [some (.ref (ad 200)), some (.int (zI ↑k)), none]) (st' := []) rfl ?_
    refine v_run 2 (pc' := 25) (ls' := [some (.ref (ad 200)), some (.int (zI ↑k)), some (.int (zI 0))]) (st' := []) rfl ?_
    have hmx : MX h9 ad rv (mU m 0 0) ζ (ρ 2) := q9.1.1
    have lp : ∀ (n s : Nat), (s ≤ 61 ∧ mOff ζ (ρ 2) k = fstN (mOfP ζ (ρ 2) k) (61 - s) s) → 61 + 1 ≤ s + n → ssV G mX10_offIn 2 0 0 (mR ζ rv m ρ ad h ↑(bOffIn ζ (ρ 2) ↑k).2 (.int (zI (bOffIn ζ (ρ 2) ↑k).1))) 25 [some (.ref (ad 200)), some (.int (zI ↑k)), some (.int (zI ↑s))] [] (hset h9 (ad 203) (ar 26 (mDs ζ mF (ρ 2) s))) := by
      intro n
      induction n with
      | zero => intro s hs1 hs2; exact absurd hs2 (by omega)
      | succ n ih =>
        intro s hs1 hs2
        have ox := mDs_ok hz (b := mF) hV s
        have d23 := mDs_23 (ζ := ζ) mF (ρ 2) s
        have hm2 := hmx.x hA (mDs ζ mF (ρ 2) s)
        have o12 := ox.2.2.1 k (by omega)
        refine v_run 2 (pc' := 28) (ls' := [some (.ref (ad 200)), some (.int (zI ↑k)), some (.int (zI ↑s))]) (st' := [.int (zI 60), .int (zI ↑s)]) rfl ?_
        refine v_icmp_gt rfl (fun c28 => ?_) (fun c28 => ?_)
        · simp (disch := omega) only [zI_lt, zI_le, zI_eq, zI_lt0, zI_le0, zI_0lt, zI_0le, zI_eq0] at c28
          generalize eb : hset h9 (ad 203) (ar 26 (mDs ζ mF (ρ 2) s)) = hb
          have qb : MQs h ad rv (mU m 0 0) ζ ρ hb (mU m 0 0) (rU ρ 3 (mDs ζ mF (ρ 2) s)) := q9.xs2 hA eb ox
          refine v_run 2 (pc' := 63) (ls' := [some (.ref (ad 200)), some (.int (zI ↑k)), some (.int (zI ↑s))]) (st' := [.int (zI (-2)), .ref (ad 200)]) rfl ?_
          refine v_callV (My := mX10_well) (As := [.int (zI (-2))]) (rest := []) (mc := 0) (ms := 0) rfl caX10_well rfl rfl rfl qb.1.1.1 rfl rfl (q_well G _ ((zI (-2))) qb.1.1.1) rfl rfl (Nat.le_of_ble_eq_true rfl) (by omega) ?_
          rintro _ h99 ⟨rfl, e99⟩
          refine v_run 0 (pc' := 66) (ls' := [some (.ref (ad 200)), some (.int (zI ↑k)), some (.int (zI ↑s))]) (st' := [.int ((zI (-2)))]) rfl ?_
          rw [show bOffIn ζ (ρ 2) ↑k = (-2, 0) from by rw [bOffIn, if_neg (by simpa using hs9), show mOff ζ (ρ 2) (Int.toNat ↑k) = 61 from by rw [Int.toNat_natCast, hs1.2, show s = 61 by omega]; rfl]; rfl]
          exact v_iret rfl rfl rfl ⟨rfl, qb.fin hA e99⟩
        · simp (disch := omega) only [zI_lt, zI_le, zI_eq, zI_lt0, zI_le0, zI_0lt, zI_0le, zI_eq0] at c28
          refine v_run 1 (pc' := 32) (ls' := [some (.ref (ad 200)), some (.int (zI ↑k)), some (.int (zI ↑s))]) (st' := [.ref (ad 200)]) rfl ?_
          refine v_get rfl (hmx.x hA (mDs ζ mF (ρ 2) s)).1 rfl ?_
          refine v_run 3 (pc' := 39) (ls' := [some (.ref (ad 200)), some (.int (zI ↑k)), some (.int (zI ↑s))]) (st' := [.int ((zI 12) + (zI ↑k)), .ref (ad 203)]) rfl ?_
          refine v_iaload' rfl (hmx.x hA (mDs ζ mF (ρ 2) s)).2.2 (i := (12 + k)) (zN_add 12 k) (by omega) ?_
          refine v_run 0 (pc' := 40) (ls' := [some (.ref (ad 200)), some (.int (zI ↑k)), some (.int (zI ↑s))]) (st' := [.int (zI ↑(mDs ζ mF (ρ 2) s (12 + k)))]) rfl ?_
          refine v_if_ne rfl (fun c40 => ?_) (fun c40 => ?_)
          · simp (disch := omega) only [zI_lt, zI_le, zI_eq, zI_lt0, zI_le0, zI_0lt, zI_0le, zI_eq0] at c40
            refine v_run 2 (pc' := 51) (ls' := [some (.ref (ad 200)), some (.int (zI ↑k)), some (.int (zI ↑s))]) (st' := [.int (zI 0), .ref (ad 200)]) rfl ?_
            refine v_callV (My := mX10_aDay) (As := [.int (zI 0)]) (rest := []) (mc := 0) (ms := 0) rfl caX10_aDay rfl rfl rfl hm2.1 rfl rfl (q_aDay G _ false hA hm2 hz ox (by omega)) rfl rfl (Nat.le_of_ble_eq_true rfl) (by omega) ?_
            rintro _ _ ⟨rfl, rfl⟩
            rw [hset_hset]
            refine v_run 0 (pc' := 54) (ls' := [some (.ref (ad 200)), some (.int (zI ↑k)), some (.int (zI ↑s))]) (st' := []) rfl ?_
            refine v_run 2 (pc' := 25) (ls' := [some (.ref (ad 200)), some (.int (zI ↑k)), some (.int ((zI ↑s) + zI 1))]) (st' := []) rfl ?_
            rw [zI_s1]
            exact ih (s + 1) ⟨by omega, by rw [hs1.2, show 61 - s = (60 - s) + 1 by omega, fstN, if_neg (by simp [mOfP]; omega), show 61 - (s + 1) = 60 - s by omega]⟩ (by omega)
          · simp (disch := omega) only [zI_lt, zI_le, zI_eq, zI_lt0, zI_le0, zI_0lt, zI_0le, zI_eq0] at c40
            generalize eb : hset h9 (ad 203) (ar 26 (mDs ζ mF (ρ 2) s)) = hb
            have qb : MQs h ad rv (mU m 0 0) ζ ρ hb (mU m 0 0) (rU ρ 3 (mDs ζ mF (ρ 2) s)) := q9.xs2 hA eb ox
            refine v_run 2 (pc' := 45) (ls' := [some (.ref (ad 200)), some (.int (zI ↑k)), some (.int (zI ↑s))]) (st' := [.int (zI ↑s), .ref (ad 200)]) rfl ?_
            refine v_callV (My := mX10_well) (As := [.int (zI ↑s)]) (rest := []) (mc := 0) (ms := 0) rfl caX10_well rfl rfl rfl qb.1.1.1 rfl rfl (q_well G _ ((zI ↑s)) qb.1.1.1) rfl rfl (Nat.le_of_ble_eq_true rfl) (by omega) ?_
            rintro _ h99 ⟨rfl, e99⟩
            refine v_run 0 (pc' := 48) (ls' := [some (.ref (ad 200)), some (.int (zI ↑k)), some (.int (zI ↑s))]) (st' := [.int ((zI ↑s))]) rfl ?_
            rw [show bOffIn ζ (ρ 2) ↑k = (↑s, 0) from by rw [bOffIn, if_neg (by simpa using hs9), show mOff ζ (ρ 2) (Int.toNat ↑k) = s from by rw [Int.toNat_natCast, hs1.2, show 61 - s = (60 - s) + 1 by omega, fstN, if_pos (by simp [mOfP]; omega)], if_pos (by omega)]]
            exact v_iret rfl rfl rfl ⟨rfl, qb.fin hA e99⟩
    have lz := lp 62 0 ⟨by omega, rfl⟩ (by omega)
    rw [show mDs ζ mF (ρ 2) 0 = ρ 2 from rfl, hset_same h9 hmx.2.2] at lz
    exact lz
  · rw [zb_0, decide_eq_false_iff_not] at c10
    refine v_run 2 (pc' := 15) (ls' := [some (.ref (ad 200)), some (.int (zI s)), none]) (st' := [.int (zI 1), .ref (ad 200)]) rfl ?_
    refine v_callV (My := mX10_refused) (As := [.int (zI 1)]) (rest := []) (mc := 0) (ms := 0) rfl caX10_refused rfl rfl rfl q1.1.1.1 rfl rfl (q_refused G _ 1 q1.1.1.1) rfl rfl (Nat.le_of_ble_eq_true rfl) (by omega) ?_
    rintro _ h99 ⟨rfl, e99⟩
    refine v_run 0 (pc' := 18) (ls' := [some (.ref (ad 200)), some (.int (zI s)), none]) (st' := [.int (zI (-1))]) rfl ?_
    rw [show bOffIn ζ (ρ 2) s = (-1, 1) from if_pos c10]
    exact v_iret rfl rfl rfl ⟨rfl, q1.fin hA e99⟩

set_option maxRecDepth 100000 in
set_option maxHeartbeats 400000 in
theorem q_nextAct (G : ssG) (h : ssH) {ad : Nat → Nat} {rv : Value} {m : Nat → Int} {ζ ρ : Nat → Nat → Nat}  (hA : ∀ k l, ad k = ad l → k = l) (ht : MT h ad rv m ζ ρ) (hz : SaOk ζ) (hV : XOk (ρ 2)) (hd : ρ 2 23 ≤ 99)  : ssC G mX10_nextAct 1 0 0 [.ref (ad 200)] h (mR ζ rv m ρ ad h ↑(bNext ζ (ρ 2)).2 (.int (zI (bNext ζ (ρ 2)).1))) := by
  refine c_of_v okX10_nextAct (by decide +kernel) (ls := [some (.ref (ad 200)), none, none]) rfl (Nat.le_of_ble_eq_true rfl) ?_
  obtain ⟨z0, z1, z2, z3, z4, z5, z6, z9, z12, z13, z14, z15, z16, z17, z18, z19, z20⟩ := id hz
  refine v_run 2 (pc' := 2) (ls' := [some (.ref (ad 200)), none, none]) (st' := [.int (zI 0), .ref (ad 200)]) rfl ?_
  refine v_put rfl ht.1.1 rfl rfl (Nat.le_of_ble_eq_true rfl) ?_
  generalize e1 : hset h (ad 200) _ = h1
  have q1 : MQs h ad rv (mU m 0 0) ζ ρ h1 (mU m 0 0) ρ := ⟨ht.ob hA e1, mSm.rf _, rSm.rf ρ, (frM.rf ad h).ob e1⟩
  refine v_run 1 (pc' := 6) (ls' := [some (.ref (ad 200)), none, none]) (st' := [.ref (ad 200)]) rfl ?_
  refine v_get rfl q1.1.1.1 rfl ?_
  refine v_run 5 (pc' := 23) (ls' := [some (.ref (ad 200)), some (.int (zI (-2))), some (.int (zI 0))]) (st' := []) rfl ?_
  have lp : ∀ (n s : Nat), s ≤ ζ 6 0 → ζ 6 0 + 1 ≤ s + n → ssV G mX10_nextAct 1 0 0 (mR ζ rv m ρ ad h ↑(bNext ζ (ρ 2)).2 (.int (zI (bNext ζ (ρ 2)).1))) 23 [some (.ref (ad 200)), some (.int (zI (bnA ζ (ρ 2) s))), some (.int (zI ↑s))] [] h1 := by
    intro n
    induction n with
    | zero => intro s hs1 hs2; exact absurd hs2 (by omega)
    | succ n ih =>
      intro s hs1 hs2
      have nb := bnA_bd ζ (ρ 2) s
      have n17 := z17 s
      refine v_run 2 (pc' := 25) (ls' := [some (.ref (ad 200)), some (.int (zI (bnA ζ (ρ 2) s))), some (.int (zI ↑s))]) (st' := [.ref (ad 200), .int (zI ↑s)]) rfl ?_
      refine v_get rfl q1.1.1.1 rfl ?_
      refine v_run 0 (pc' := 28) (ls' := [some (.ref (ad 200)), some (.int (zI (bnA ζ (ρ 2) s))), some (.int (zI ↑s))]) (st' := [.ref (ad 210), .int (zI ↑s)]) rfl ?_
      refine v_get rfl q1.1.1.2.1.1 rfl ?_
      refine v_run 0 (pc' := 31) (ls' := [some (.ref (ad 200)), some (.int (zI (bnA ζ (ρ 2) s))), some (.int (zI ↑s))]) (st' := [.int (zI ↑(ζ 6 0)), .int (zI ↑s)]) rfl ?_
      refine v_icmp_ge rfl (fun c31 => ?_) (fun c31 => ?_)
      · simp (disch := omega) only [zI_lt, zI_le, zI_eq, zI_lt0, zI_le0, zI_0lt, zI_0le, zI_eq0] at c31
        refine v_run 2 (pc' := 90) (ls' := [some (.ref (ad 200)), some (.int (zI (bnA ζ (ρ 2) s))), some (.int (zI ↑s))]) (st' := [.int (zI (bnA ζ (ρ 2) s)), .ref (ad 200)]) rfl ?_
        refine v_callV (My := mX10_well) (As := [.int (zI (bnA ζ (ρ 2) s))]) (rest := []) (mc := 0) (ms := 0) rfl caX10_well rfl rfl rfl q1.1.1.1 rfl rfl (q_well G _ ((zI (bnA ζ (ρ 2) s))) q1.1.1.1) rfl rfl (Nat.le_of_ble_eq_true rfl) (by omega) ?_
        rintro _ h99 ⟨rfl, e99⟩
        refine v_run 0 (pc' := 93) (ls' := [some (.ref (ad 200)), some (.int (zI (bnA ζ (ρ 2) s))), some (.int (zI ↑s))]) (st' := [.int ((zI (bnA ζ (ρ 2) s)))]) rfl ?_
        rw [show bNext ζ (ρ 2) = (bnA ζ (ρ 2) s, 0) from by rw [bNext, show s = ζ 6 0 by omega]]
        exact v_iret rfl rfl rfl ⟨rfl, q1.fin hA e99⟩
      · simp (disch := omega) only [zI_lt, zI_le, zI_eq, zI_lt0, zI_le0, zI_0lt, zI_0le, zI_eq0] at c31
        refine v_run 1 (pc' := 35) (ls' := [some (.ref (ad 200)), some (.int (zI (bnA ζ (ρ 2) s))), some (.int (zI ↑s))]) (st' := [.ref (ad 200)]) rfl ?_
        refine v_get rfl q1.1.1.1 rfl ?_
        refine v_run 0 (pc' := 38) (ls' := [some (.ref (ad 200)), some (.int (zI (bnA ζ (ρ 2) s))), some (.int (zI ↑s))]) (st' := [.ref (ad 210)]) rfl ?_
        refine v_get rfl q1.1.1.2.1.1 rfl ?_
        refine v_run 1 (pc' := 42) (ls' := [some (.ref (ad 200)), some (.int (zI (bnA ζ (ρ 2) s))), some (.int (zI ↑s))]) (st' := [.int (zI ↑s), .ref (Sf ad 210 17)]) rfl ?_
        refine v_iaload' rfl q1.1.1.2.1.2.2.2.2.2.2.1 (i := s) rfl (by omega) ?_
        refine v_run 1 (pc' := 44) (ls' := [some (.ref (ad 200)), some (.int (zI (bnA ζ (ρ 2) s))), some (.int (zI ↑s))]) (st' := [.ref (ad 200), .int (zI ↑(ζ 17 s))]) rfl ?_
        refine v_get rfl q1.1.1.1 rfl ?_
        refine v_run 1 (pc' := 49) (ls' := [some (.ref (ad 200)), some (.int (zI (bnA ζ (ρ 2) s))), some (.int (zI ↑s))]) (st' := [.int (zI 23), .ref (ad 202), .int (zI ↑(ζ 17 s))]) rfl ?_
        refine v_iaload' rfl q1.1.2.2.1 (i := 23) rfl (by decide) ?_
        refine v_run 0 (pc' := 50) (ls' := [some (.ref (ad 200)), some (.int (zI (bnA ζ (ρ 2) s))), some (.int (zI ↑s))]) (st' := [.int (zI ↑(ρ 2 23)), .int (zI ↑(ζ 17 s))]) rfl ?_
        refine v_icmp_lt rfl (fun c50 => ?_) (fun c50 => ?_)
        · simp (disch := omega) only [zI_lt, zI_le, zI_eq, zI_lt0, zI_le0, zI_0lt, zI_0le, zI_eq0] at c50
          refine v_run 2 (pc' := 23) (ls' := [some (.ref (ad 200)), some (.int (zI (bnA ζ (ρ 2) s))), some (.int ((zI ↑s) + zI 1))]) (st' := []) rfl ?_
          rw [zI_s1, show bnA ζ (ρ 2) s = bnA ζ (ρ 2) (s + 1) from by simp only [bnA]; rw [if_neg (by omega)]]
          exact ih (s + 1) (by omega) (by omega)
        · simp (disch := omega) only [zI_lt, zI_le, zI_eq, zI_lt0, zI_le0, zI_0lt, zI_0le, zI_eq0] at c50
          refine v_run 2 (pc' := 56) (ls' := [some (.ref (ad 200)), some (.int (zI (bnA ζ (ρ 2) s))), some (.int (zI ↑s))]) (st' := [.int (zI (-2)), .int (zI (bnA ζ (ρ 2) s))]) rfl ?_
          refine v_icmp_eq rfl (fun c56 => ?_) (fun c56 => ?_)
          · simp (disch := omega) only [zI_lt, zI_le, zI_eq, zI_lt0, zI_le0, zI_0lt, zI_0le, zI_eq0] at c56
            refine v_run 4 (pc' := 23) (ls' := [some (.ref (ad 200)), some (.int (zI ↑s)), some (.int ((zI ↑s) + zI 1))]) (st' := []) rfl ?_
            have en : bnA ζ (ρ 2) (s + 1) = ↑s := by simp only [bnA]; rw [if_pos (by omega)]
            refine v_run 0 (pc' := 23) (ls' := [some (.ref (ad 200)), some (.int (zI (bnA ζ (ρ 2) (s + 1)))), some (.int (zI ↑(s + 1)))]) (st' := []) (by rw [en, ← zI_s1]; rfl) ?_
            exact ih (s + 1) (by omega) (by omega)
          · simp (disch := omega) only [zI_lt, zI_le, zI_eq, zI_lt0, zI_le0, zI_0lt, zI_0le, zI_eq0] at c56
            obtain ⟨j, hj⟩ : ∃ j : Nat, bnA ζ (ρ 2) s = ↑j := ⟨(bnA ζ (ρ 2) s).toNat, by omega⟩
            have j17 := z17 j
            refine v_run 1 (pc' := 60) (ls' := [some (.ref (ad 200)), some (.int (zI (bnA ζ (ρ 2) s))), some (.int (zI ↑s))]) (st' := [.ref (ad 200)]) rfl ?_
            refine v_get rfl q1.1.1.1 rfl ?_
            refine v_run 0 (pc' := 63) (ls' := [some (.ref (ad 200)), some (.int (zI (bnA ζ (ρ 2) s))), some (.int (zI ↑s))]) (st' := [.ref (ad 210)]) rfl ?_
            refine v_get rfl q1.1.1.2.1.1 rfl ?_
            refine v_run 1 (pc' := 67) (ls' := [some (.ref (ad 200)), some (.int (zI (bnA ζ (ρ 2) s))), some (.int (zI ↑s))]) (st' := [.int (zI ↑s), .ref (Sf ad 210 17)]) rfl ?_
            refine v_iaload' rfl q1.1.1.2.1.2.2.2.2.2.2.1 (i := s) rfl (by omega) ?_
            refine v_run 1 (pc' := 69) (ls' := [some (.ref (ad 200)), some (.int (zI (bnA ζ (ρ 2) s))), some (.int (zI ↑s))]) (st' := [.ref (ad 200), .int (zI ↑(ζ 17 s))]) rfl ?_
            refine v_get rfl q1.1.1.1 rfl ?_
            refine v_run 0 (pc' := 72) (ls' := [some (.ref (ad 200)), some (.int (zI (bnA ζ (ρ 2) s))), some (.int (zI ↑s))]) (st' := [.ref (ad 210), .int (zI ↑(ζ 17 s))]) rfl ?_
            refine v_get rfl q1.1.1.2.1.1 rfl ?_
            refine v_run 1 (pc' := 76) (ls' := [some (.ref (ad 200)), some (.int (zI (bnA ζ (ρ 2) s))), some (.int (zI ↑s))]) (st' := [.int (zI (bnA ζ (ρ 2) s)), .ref (Sf ad 210 17), .int (zI ↑(ζ 17 s))]) rfl ?_
            rw [show (zI (bnA ζ (ρ 2) s) : Int32) = zI ↑j from by rw [hj]]
            refine v_iaload' rfl q1.1.1.2.1.2.2.2.2.2.2.1 (i := j) rfl (by omega) ?_
            refine v_run 0 (pc' := 77) (ls' := [some (.ref (ad 200)), some (.int (zI ↑j)), some (.int (zI ↑s))]) (st' := [.int (zI ↑(ζ 17 j)), .int (zI ↑(ζ 17 s))]) rfl ?_
            refine v_icmp_ge rfl (fun c77 => ?_) (fun c77 => ?_)
            · simp (disch := omega) only [zI_lt, zI_le, zI_eq, zI_lt0, zI_le0, zI_0lt, zI_0le, zI_eq0] at c77
              rw [← hj]
              refine v_run 2 (pc' := 23) (ls' := [some (.ref (ad 200)), some (.int (zI (bnA ζ (ρ 2) s))), some (.int ((zI ↑s) + zI 1))]) (st' := []) rfl ?_
              rw [zI_s1, show bnA ζ (ρ 2) s = bnA ζ (ρ 2) (s + 1) from by simp only [bnA]; rw [if_neg (by rw [hj, Int.toNat_natCast]; omega)]]
              exact ih (s + 1) (by omega) (by omega)
            · simp (disch := omega) only [zI_lt, zI_le, zI_eq, zI_lt0, zI_le0, zI_0lt, zI_0le, zI_eq0] at c77
              refine v_run 4 (pc' := 23) (ls' := [some (.ref (ad 200)), some (.int (zI ↑s)), some (.int ((zI ↑s) + zI 1))]) (st' := []) rfl ?_
              have en : bnA ζ (ρ 2) (s + 1) = ↑s := by simp only [bnA]; rw [if_pos (by rw [hj, Int.toNat_natCast]; omega)]
              refine v_run 0 (pc' := 23) (ls' := [some (.ref (ad 200)), some (.int (zI (bnA ζ (ρ 2) (s + 1)))), some (.int (zI ↑(s + 1)))]) (st' := []) (by rw [en, ← zI_s1]; rfl) ?_
              exact ih (s + 1) (by omega) (by omega)
  exact lp (ζ 6 0 + 1) 0 (by omega) (by omega)

set_option maxRecDepth 100000 in
set_option maxHeartbeats 400000 in
theorem q_margin (G : ssG) (h : ssH) {ad : Nat → Nat} {rv : Value} {m : Nat → Int} {ζ ρ : Nat → Nat → Nat} (s : Int) (hA : ∀ k l, ad k = ad l → k = l) (ht : MT h ad rv m ζ ρ) (hz : SaOk ζ) (hV : XOk (ρ 2)) (hd : ρ 2 23 ≤ 99) (hs : -2147483648 ≤ s ∧ s < 2147483648) : ssC G mX10_margin 3 0 0 [.ref (ad 200), .int (zI s)] h (mR ζ rv m ρ ad h ↑(bMargin ζ (ρ 2) s).2 (.int (zI (bMargin ζ (ρ 2) s).1))) := by
  refine c_of_v okX10_margin (by decide +kernel) (ls := [some (.ref (ad 200)), some (.int (zI s))]) rfl (Nat.le_of_ble_eq_true rfl) ?_
  obtain ⟨z0, z1, z2, z3, z4, z5, z6, z9, z12, z13, z14, z15, z16, z17, z18, z19, z20⟩ := id hz
  refine v_run 2 (pc' := 2) (ls' := [some (.ref (ad 200)), some (.int (zI s))]) (st' := [.int (zI 0), .ref (ad 200)]) rfl ?_
  refine v_put rfl ht.1.1 rfl rfl (Nat.le_of_ble_eq_true rfl) ?_
  generalize e1 : hset h (ad 200) _ = h1
  have q1 : MQs h ad rv (mU m 0 0) ζ ρ h1 (mU m 0 0) ρ := ⟨ht.ob hA e1, mSm.rf _, rSm.rf ρ, (frM.rf ad h).ob e1⟩
  refine v_run 2 (pc' := 7) (ls' := [some (.ref (ad 200)), some (.int (zI s))]) (st' := [.int (zI s), .ref (ad 200)]) rfl ?_
  refine v_callV (My := mX10_isAct) (As := [.int (zI s)]) (rest := []) (mc := 0) (ms := 0) rfl caX10_isAct rfl rfl rfl q1.1.1.1 rfl rfl (q_isAct G _ s hA q1.1.1 hz q1.1.2.1 hs) rfl rfl (Nat.le_of_ble_eq_true rfl) (by omega) ?_
  rintro _ _ ⟨rfl, rfl⟩
  refine v_run 0 (pc' := 10) (ls' := [some (.ref (ad 200)), some (.int (zI s))]) (st' := [.int (zb (decide (0 ≤ s ∧ s < ↑(ζ 6 0))))]) rfl ?_
  refine v_if_ne rfl (fun c10 => ?_) (fun c10 => ?_)
  · rw [zb_0, Bool.not_eq_false, decide_eq_true_eq] at c10
    have hs9 := c10
    obtain ⟨k, rfl⟩ : ∃ z : Nat, s = ↑z := ⟨s.toNat, by omega⟩
    have k17 := z17 k
    refine v_run 1 (pc' := 20) (ls' := [some (.ref (ad 200)), some (.int (zI ↑k))]) (st' := [.ref (ad 200)]) rfl ?_
    refine v_get rfl q1.1.1.1 rfl ?_
    refine v_run 0 (pc' := 23) (ls' := [some (.ref (ad 200)), some (.int (zI ↑k))]) (st' := [.ref (ad 210)]) rfl ?_
    refine v_get rfl q1.1.1.2.1.1 rfl ?_
    refine v_run 1 (pc' := 27) (ls' := [some (.ref (ad 200)), some (.int (zI ↑k))]) (st' := [.int (zI ↑k), .ref (Sf ad 210 17)]) rfl ?_
    refine v_iaload' rfl q1.1.1.2.1.2.2.2.2.2.2.1 (i := k) rfl (by omega) ?_
    refine v_run 1 (pc' := 29) (ls' := [some (.ref (ad 200)), some (.int (zI ↑k))]) (st' := [.ref (ad 200), .int (zI ↑(ζ 17 k))]) rfl ?_
    refine v_get rfl q1.1.1.1 rfl ?_
    refine v_run 1 (pc' := 34) (ls' := [some (.ref (ad 200)), some (.int (zI ↑k))]) (st' := [.int (zI 23), .ref (ad 202), .int (zI ↑(ζ 17 k))]) rfl ?_
    refine v_iaload' rfl q1.1.2.2.1 (i := 23) rfl (by decide) ?_
    refine v_run 0 (pc' := 35) (ls' := [some (.ref (ad 200)), some (.int (zI ↑k))]) (st' := [.int (zI ↑(ρ 2 23)), .int (zI ↑(ζ 17 k))]) rfl ?_
    refine v_icmp_ge rfl (fun c35 => ?_) (fun c35 => ?_)
    · simp (disch := omega) only [zI_lt, zI_le, zI_eq, zI_lt0, zI_le0, zI_0lt, zI_0le, zI_eq0] at c35
      refine v_run 1 (pc' := 45) (ls' := [some (.ref (ad 200)), some (.int (zI ↑k))]) (st' := [.ref (ad 200)]) rfl ?_
      refine v_callV (My := mX10_works) (As := []) (rest := []) (mc := 0) (ms := 0) rfl caX10_works rfl rfl rfl q1.1.1.1 rfl rfl (q_works G _ hA q1.1.1 hz q1.1.2.1 q1.1.2.2.1 hV) rfl rfl (Nat.le_of_ble_eq_true rfl) (by omega) ?_
      rintro _ h10 ⟨rfl, e10⟩
      have q10 : MQs h ad rv (mU m 0 0) ζ ρ h10 (mU m 0 0) (rU ρ 3 (ρ 2)) := q1.xs hA e10 (hV)
      refine v_run 0 (pc' := 48) (ls' := [some (.ref (ad 200)), some (.int (zI ↑k))]) (st' := []) rfl ?_
      refine v_run 1 (pc' := 49) (ls' := [some (.ref (ad 200)), some (.int (zI ↑k))]) (st' := [.ref (ad 200)]) rfl ?_
      refine v_callV (My := mX10_putsAll) (As := []) (rest := []) (mc := 0) (ms := 0) rfl caX10_putsAll rfl rfl rfl q10.1.1.1 rfl rfl (q_putsAll G _ hA q10.1.1 hz q10.1.2.1 (by show ρ 2 23 ≤ 900; omega)) rfl rfl (Nat.le_of_ble_eq_true rfl) (by omega) ?_
      rintro _ h11 ⟨rfl, e11⟩
      have q11 : MQs h ad rv (mU m 0 0) ζ ρ h11 (mU m 0 0) (rU ρ 3 (mPut ζ (ρ 2))) := q10.xs hA e11 (mDs_ok hz hV _)
      refine v_run 0 (pc' := 52) (ls' := [some (.ref (ad 200)), some (.int (zI ↑k))]) (st' := []) rfl ?_
      refine v_run 4 (pc' := 58) (ls' := [some (.ref (ad 200)), some (.int (zI ↑k))]) (st' := [.int (zI ↑k), .ref (ad 200), .int (zI 1000), .ref (ad 200)]) rfl ?_
      refine v_callV (My := mX10_marginNow) (As := [.int (zI ↑k)]) (rest := [.int (zI 1000), .ref (ad 200)]) (mc := 0) (ms := 0) rfl caX10_marginNow rfl rfl rfl q11.1.1.1 rfl rfl (q_marginNow G _ k hA q11.1.1 hz q11.1.2.1 (by omega)) rfl rfl (Nat.le_of_ble_eq_true rfl) (by omega) ?_
      rintro _ _ ⟨rfl, rfl⟩
      refine v_run 0 (pc' := 61) (ls' := [some (.ref (ad 200)), some (.int (zI ↑k))]) (st' := [.int (zI (mMg ζ (mPut ζ (ρ 2)) k)), .int (zI 1000), .ref (ad 200)]) rfl ?_
      refine v_run 1 (pc' := 62) (ls' := [some (.ref (ad 200)), some (.int (zI ↑k))]) (st' := [.int ((zI 1000) + (zI (mMg ζ (mPut ζ (ρ 2)) k))), .ref (ad 200)]) rfl ?_
      rw [show ((zI 1000) + (zI (mMg ζ (mPut ζ (ρ 2)) k)) : Int32) = zI (1000 + mMg ζ (mPut ζ (ρ 2)) k) from zI_add _ _]
      refine v_callV (My := mX10_well) (As := [.int (zI (1000 + mMg ζ (mPut ζ (ρ 2)) k))]) (rest := []) (mc := 0) (ms := 0) rfl caX10_well rfl rfl rfl q11.1.1.1 rfl rfl (q_well G _ ((zI (1000 + mMg ζ (mPut ζ (ρ 2)) k))) q11.1.1.1) rfl rfl (Nat.le_of_ble_eq_true rfl) (by omega) ?_
      rintro _ h99 ⟨rfl, e99⟩
      refine v_run 0 (pc' := 65) (ls' := [some (.ref (ad 200)), some (.int (zI ↑k))]) (st' := [.int ((zI (1000 + mMg ζ (mPut ζ (ρ 2)) k)))]) rfl ?_
      rw [show bMargin ζ (ρ 2) ↑k = (1000 + mMg ζ (mPut ζ (ρ 2)) k, 0) from by rw [bMargin, if_neg (by simpa using hs9), if_neg (by simp only [Int.toNat_natCast]; omega)]; rfl]
      exact v_iret rfl rfl rfl ⟨rfl, q11.fin hA e99⟩
    · simp (disch := omega) only [zI_lt, zI_le, zI_eq, zI_lt0, zI_le0, zI_0lt, zI_0le, zI_eq0] at c35
      refine v_run 2 (pc' := 40) (ls' := [some (.ref (ad 200)), some (.int (zI ↑k))]) (st' := [.int (zI 5), .ref (ad 200)]) rfl ?_
      refine v_callV (My := mX10_refused) (As := [.int (zI 5)]) (rest := []) (mc := 0) (ms := 0) rfl caX10_refused rfl rfl rfl q1.1.1.1 rfl rfl (q_refused G _ 5 q1.1.1.1) rfl rfl (Nat.le_of_ble_eq_true rfl) (by omega) ?_
      rintro _ h99 ⟨rfl, e99⟩
      refine v_run 0 (pc' := 43) (ls' := [some (.ref (ad 200)), some (.int (zI ↑k))]) (st' := [.int (zI (-1))]) rfl ?_
      rw [show bMargin ζ (ρ 2) ↑k = (-1, 5) from by rw [bMargin, if_neg (by simpa using hs9), if_pos (by simp only [Int.toNat_natCast]; omega)]]
      exact v_iret rfl rfl rfl ⟨rfl, q1.fin hA e99⟩
  · rw [zb_0, decide_eq_false_iff_not] at c10
    refine v_run 2 (pc' := 15) (ls' := [some (.ref (ad 200)), some (.int (zI s))]) (st' := [.int (zI 1), .ref (ad 200)]) rfl ?_
    refine v_callV (My := mX10_refused) (As := [.int (zI 1)]) (rest := []) (mc := 0) (ms := 0) rfl caX10_refused rfl rfl rfl q1.1.1.1 rfl rfl (q_refused G _ 1 q1.1.1.1) rfl rfl (Nat.le_of_ble_eq_true rfl) (by omega) ?_
    rintro _ h99 ⟨rfl, e99⟩
    refine v_run 0 (pc' := 18) (ls' := [some (.ref (ad 200)), some (.int (zI s))]) (st' := [.int (zI (-1))]) rfl ?_
    rw [show bMargin ζ (ρ 2) s = (-1, 1) from if_pos c10]
    exact v_iret rfl rfl rfl ⟨rfl, q1.fin hA e99⟩

set_option maxRecDepth 100000 in
set_option maxHeartbeats 400000 in
theorem q_judge (G : ssG) (h : ssH) {ad : Nat → Nat} {rv : Value} {m : Nat → Int} {ζ ρ : Nat → Nat → Nat}  (hA : ∀ k l, ad k = ad l → k = l) (ht : MT h ad rv m ζ ρ) (hz : SaOk ζ) (hV : XOk (ρ 2)) (hd : ρ 2 23 ≤ 99)  : ssC G mX10_judge 5 0 0 [.ref (ad 200)] h (mR ζ rv m ρ ad h ↑(bJudge ζ).2 (.int (zI (bJudge ζ).1))) := by
  refine c_of_v okX10_judge (by decide +kernel) (ls := [some (.ref (ad 200))]) rfl (Nat.le_of_ble_eq_true rfl) ?_
  obtain ⟨z0, z1, z2, z3, z4, z5, z6, z9, z12, z13, z14, z15, z16, z17, z18, z19, z20⟩ := id hz
  refine v_run 2 (pc' := 2) (ls' := [some (.ref (ad 200))]) (st' := [.int (zI 0), .ref (ad 200)]) rfl ?_
  refine v_put rfl ht.1.1 rfl rfl (Nat.le_of_ble_eq_true rfl) ?_
  generalize e1 : hset h (ad 200) _ = h1
  have q1 : MQs h ad rv (mU m 0 0) ζ ρ h1 (mU m 0 0) ρ := ⟨ht.ob hA e1, mSm.rf _, rSm.rf ρ, (frM.rf ad h).ob e1⟩
  refine v_run 1 (pc' := 6) (ls' := [some (.ref (ad 200))]) (st' := [.ref (ad 200)]) rfl ?_
  refine v_get rfl q1.1.1.1 rfl ?_
  refine v_run 2 (pc' := 19) (ls' := [some (.ref (ad 200))]) (st' := [.ref (ad 200)]) rfl ?_
  refine v_callV (My := mX10_asTold) (As := []) (rest := []) (mc := 0) (ms := 0) rfl caX10_asTold rfl rfl rfl q1.1.1.1 rfl rfl (q_asTold G _ hA q1.1.1 hz q1.1.2.1) rfl rfl (Nat.le_of_ble_eq_true rfl) (by omega) ?_
  rintro _ h12 ⟨rfl, e12⟩
  have q12 : MQs h ad rv (mU m 0 0) ζ ρ h12 (mU m 0 0) (rU ρ 3 (mTold ζ)) := q1.xs hA e12 (mTold_ok hz)
  refine v_run 0 (pc' := 22) (ls' := [some (.ref (ad 200))]) (st' := []) rfl ?_
  refine v_run 1 (pc' := 23) (ls' := [some (.ref (ad 200))]) (st' := [.ref (ad 200)]) rfl ?_
  have t23 : mTold ζ 23 = 0 := mSi_23 ζ hz 0 0
  refine v_callV (My := mX10_putsAll) (As := []) (rest := []) (mc := 0) (ms := 0) rfl caX10_putsAll rfl rfl rfl q12.1.1.1 rfl rfl (q_putsAll G _ hA q12.1.1 hz q12.1.2.1 (by show mTold ζ 23 ≤ 900; omega)) rfl rfl (Nat.le_of_ble_eq_true rfl) (by omega) ?_
  rintro _ h13 ⟨rfl, e13⟩
  have q13 : MQs h ad rv (mU m 0 0) ζ ρ h13 (mU m 0 0) (rU ρ 3 (mPut ζ (mTold ζ))) := q12.xs hA e13 (mDs_ok hz (mTold_ok hz) _)
  refine v_run 0 (pc' := 26) (ls' := [some (.ref (ad 200))]) (st' := []) rfl ?_
  refine v_run 4 (pc' := 30) (ls' := [some (.ref (ad 200))]) (st' := [.int (zI 0), .ref (ad 200), .ref (ad 200), .ref (ad 200)]) rfl ?_
  refine v_callV (My := mX10_goingBut) (As := [.int (zI 0)]) (rest := [.ref (ad 200), .ref (ad 200)]) (mc := 0) (ms := 0) rfl caX10_goingBut rfl rfl rfl q13.1.1.1 rfl rfl (q_goingBut G _ 0 hA q13.1.1 hz q13.1.2.1 (by omega)) rfl rfl (Nat.le_of_ble_eq_true rfl) (by omega) ?_
  rintro _ _ ⟨rfl, rfl⟩
  refine v_run 0 (pc' := 33) (ls' := [some (.ref (ad 200))]) (st' := [.int (zI ↑(mGo ζ (mPut ζ (mTold ζ)) 0)), .ref (ad 200), .ref (ad 200)]) rfl ?_
  refine v_callV (My := mX10_wrong) (As := [.int (zI ↑(mGo ζ (mPut ζ (mTold ζ)) 0))]) (rest := [.ref (ad 200)]) (mc := 0) (ms := 0) rfl caX10_wrong rfl rfl rfl q13.1.1.1 rfl rfl (q_wrong G _ (mGo ζ (mPut ζ (mTold ζ)) 0) hA q13.1.1 hz q13.1.2.1 (cGfp_lt z6)) rfl rfl (Nat.le_of_ble_eq_true rfl) (by omega) ?_
  rintro _ _ ⟨rfl, rfl⟩
  refine v_run 0 (pc' := 36) (ls' := [some (.ref (ad 200))]) (st' := [.int (zI (mWr ζ (mGo ζ (mPut ζ (mTold ζ)) 0))), .ref (ad 200)]) rfl ?_
  refine v_callV (My := mX10_well) (As := [.int (zI (mWr ζ (mGo ζ (mPut ζ (mTold ζ)) 0)))]) (rest := []) (mc := 0) (ms := 0) rfl caX10_well rfl rfl rfl q13.1.1.1 rfl rfl (q_well G _ ((zI (mWr ζ (mGo ζ (mPut ζ (mTold ζ)) 0)))) q13.1.1.1) rfl rfl (Nat.le_of_ble_eq_true rfl) (by omega) ?_
  rintro _ h99 ⟨rfl, e99⟩
  refine v_run 0 (pc' := 39) (ls' := [some (.ref (ad 200))]) (st' := [.int ((zI (mWr ζ (mGo ζ (mPut ζ (mTold ζ)) 0))))]) rfl ?_
  rw [show bJudge ζ = (mWr ζ (mGo ζ (mPut ζ (mTold ζ)) 0), 0) from rfl]
  exact v_iret rfl rfl rfl ⟨rfl, q13.fin hA e99⟩

