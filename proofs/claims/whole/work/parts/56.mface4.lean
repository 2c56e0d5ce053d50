theorem rU_id (ρ : Nat → Nat → Nat) (k : Nat) : rU ρ k (ρ k) = ρ := by
  funext j
  simp only [rU]
  by_cases h : j = k <;> simp [h]
def mSwp (V : Nat → Nat) (s q : Nat) : Nat → Nat := fun j => if j = q then V s else (fun j => if j = s then V q else V j) j
def mSlt (V : Nat → Nat) (s : Nat) : Nat → Nat := fun j => if j = 6 + s then 1 else V j
def mLz (V : Nat → Nat) (s : Nat) : Nat → Nat := fun j => if j = 12 + s then 0 else V j
theorem mSwp_23 {V : Nat → Nat} {s q : Nat} (hs : s < 6) (hq : q < 6) : mSwp V s q 23 = V 23 := by simp only [mSwp]; rw [if_neg (by omega), if_neg (by omega)]
theorem mSlt_23 {V : Nat → Nat} {s : Nat} (hs : s < 6) : mSlt V s 23 = V 23 := by simp only [mSlt]; rw [if_neg (by omega)]
theorem mLz_23 {V : Nat → Nat} {s : Nat} (hs : s < 6) : mLz V s 23 = V 23 := by simp only [mLz]; rw [if_neg (by omega)]
theorem xH_ok {V : Nat → Nat} {s v : Nat} (hV : XOk V) (hs : s < 6) (hv : v < 6) : XOk (fun j => if j = s then v else V j) := by
  obtain ⟨x0, x6, x12, x18, x24, x25, x26⟩ := hV
  refine ⟨fun k hk => ?_, fun k hk => ?_, fun k hk => ?_, fun k hk => ?_, ?_, ?_, fun k hk => ?_⟩
  · show (if k = s then v else V k) < 6
    split
    · exact hv
    · exact x0 k hk
  · show (if 6 + k = s then v else V (6 + k)) ≤ 2
    rw [if_neg (by omega)]; exact x6 k hk
  · show (if 12 + k = s then v else V (12 + k)) ≤ 99
    rw [if_neg (by omega)]; exact x12 k hk
  · show (if 18 + k = s then v else V (18 + k)) < 64
    rw [if_neg (by omega)]; exact x18 k hk
  · show (if 24 = s then v else V 24) ≤ 9
    rw [if_neg (by omega)]; exact x24
  · show (if 25 = s then v else V 25) ≤ 65536
    rw [if_neg (by omega)]; exact x25
  · show (if k = s then v else V k) = 0
    rw [if_neg (by omega)]; exact x26 k hk
theorem xK_ok {V : Nat → Nat} {s v : Nat} (hV : XOk V) (hs : s < 6) (hv : v ≤ 2) : XOk (fun j => if j = 6 + s then v else V j) := by
  obtain ⟨x0, x6, x12, x18, x24, x25, x26⟩ := hV
  refine ⟨fun k hk => ?_, fun k hk => ?_, fun k hk => ?_, fun k hk => ?_, ?_, ?_, fun k hk => ?_⟩
  · show (if k = 6 + s then v else V k) < 6
    rw [if_neg (by omega)]; exact x0 k hk
  · show (if 6 + k = 6 + s then v else V (6 + k)) ≤ 2
    split
    · exact hv
    · exact x6 k hk
  · show (if 12 + k = 6 + s then v else V (12 + k)) ≤ 99
    rw [if_neg (by omega)]; exact x12 k hk
  · show (if 18 + k = 6 + s then v else V (18 + k)) < 64
    rw [if_neg (by omega)]; exact x18 k hk
  · show (if 24 = 6 + s then v else V 24) ≤ 9
    rw [if_neg (by omega)]; exact x24
  · show (if 25 = 6 + s then v else V 25) ≤ 65536
    rw [if_neg (by omega)]; exact x25
  · show (if k = 6 + s then v else V k) = 0
    rw [if_neg (by omega)]; exact x26 k hk
theorem xL_ok {V : Nat → Nat} {s v : Nat} (hV : XOk V) (hs : s < 6) (hv : v ≤ 99) : XOk (fun j => if j = 12 + s then v else V j) := by
  obtain ⟨x0, x6, x12, x18, x24, x25, x26⟩ := hV
  refine ⟨fun k hk => ?_, fun k hk => ?_, fun k hk => ?_, fun k hk => ?_, ?_, ?_, fun k hk => ?_⟩
  · show (if k = 12 + s then v else V k) < 6
    rw [if_neg (by omega)]; exact x0 k hk
  · show (if 6 + k = 12 + s then v else V (6 + k)) ≤ 2
    rw [if_neg (by omega)]; exact x6 k hk
  · show (if 12 + k = 12 + s then v else V (12 + k)) ≤ 99
    split
    · exact hv
    · exact x12 k hk
  · show (if 18 + k = 12 + s then v else V (18 + k)) < 64
    rw [if_neg (by omega)]; exact x18 k hk
  · show (if 24 = 12 + s then v else V 24) ≤ 9
    rw [if_neg (by omega)]; exact x24
  · show (if 25 = 12 + s then v else V 25) ≤ 65536
    rw [if_neg (by omega)]; exact x25
  · show (if k = 12 + s then v else V k) = 0
    rw [if_neg (by omega)]; exact x26 k hk
def bwI (ζ : Nat → Nat → Nat) (V : Nat → Nat) (s : Nat) (r : Int × Nat) : Nat → Int × Nat
  | 0 => r
  | t + 1 => if (bwI ζ V s r t).2 < mLast ζ (mSwp V s (s + 1 + t)) then (10 * ↑s + ↑(s + 1 + t), mLast ζ (mSwp V s (s + 1 + t))) else bwI ζ V s r t
def bwO (ζ : Nat → Nat → Nat) (V : Nat → Nat) : Nat → Int × Nat
  | 0 => (-2, mLast ζ V)
  | s + 1 => bwI ζ V s (bwO ζ V s) (ζ 5 0 - (s + 1))
theorem bwI_l (ζ : Nat → Nat → Nat) (V : Nat → Nat) (s : Nat) {r : Int × Nat} (hr : r.2 ≤ 99) : ∀ t, (bwI ζ V s r t).2 ≤ 99
  | 0 => hr
  | t + 1 => by
    have h := bwI_l ζ V s hr t
    have h2 := mLast_le ζ (mSwp V s (s + 1 + t))
    simp only [bwI]
    split
    · exact h2
    · exact h
theorem bwO_le (ζ : Nat → Nat → Nat) (V : Nat → Nat) : ∀ s, (bwO ζ V s).2 ≤ 99
  | 0 => mLast_le ζ V
  | s + 1 => bwI_l ζ V s (bwO_le ζ V s) _
theorem bwI_le (ζ : Nat → Nat → Nat) (V : Nat → Nat) (s t : Nat) : (bwI ζ V s (bwO ζ V s) t).2 ≤ 99 := bwI_l ζ V s (bwO_le ζ V s) t
def bBestSwap (ζ : Nat → Nat → Nat) (V : Nat → Nat) : Int × Nat := ((bwO ζ V (ζ 5 0)).1, 0)
def twO (ζ : Nat → Nat → Nat) (V : Nat → Nat) : Nat → Int × Nat
  | 0 => (-2, mLast ζ V)
  | s + 1 => if ¬ V 24 = 0 ∧ ¬ V (6 + s) = 1 ∧ (twO ζ V s).2 < mLast ζ (mSlt V s) then (↑s, mLast ζ (mSlt V s)) else twO ζ V s
theorem twO_le (ζ : Nat → Nat → Nat) (V : Nat → Nat) : ∀ s, (twO ζ V s).2 ≤ 99
  | 0 => mLast_le ζ V
  | s + 1 => by
    have h := twO_le ζ V s
    have h2 := mLast_le ζ (mSlt V s)
    simp only [twO]
    split
    · exact h2
    · exact h
theorem twO_0 {ζ : Nat → Nat → Nat} {V : Nat → Nat} (h : V 24 = 0) : ∀ {s}, (twO ζ V s).1 = -2
  | 0 => rfl
  | s + 1 => by simp only [twO]; rw [if_neg (fun q => q.1 h)]; exact twO_0 h
def bToSalt (ζ : Nat → Nat → Nat) (V : Nat → Nat) : Int × Nat := ((twO ζ V (ζ 5 0)).1, 0)
def kwO (ζ : Nat → Nat → Nat) (V : Nat → Nat) : Nat → Nat × Nat
  | 0 => (0, 6)
  | s + 1 => if popN (mGo ζ (mPut ζ (mLz V s)) 0) < (kwO ζ V s).2 then (s, popN (mGo ζ (mPut ζ (mLz V s)) 0)) else kwO ζ V s
theorem kwO_le (ζ : Nat → Nat → Nat) (V : Nat → Nat) : ∀ s, (kwO ζ V s).2 ≤ 6
  | 0 => Nat.le_refl _
  | s + 1 => by
    have h := kwO_le ζ V s
    simp only [kwO]
    split
    · exact popN_le _
    · exact h
def bKeyMan (ζ : Nat → Nat → Nat) (V : Nat → Nat) : Int × Nat := (↑(kwO ζ V (ζ 5 0)).1, 0)
def swO (ζ : Nat → Nat → Nat) (P : Nat → Nat) (k : Nat) : Nat → Int
  | 0 => -2
  | s + 1 => if bitN s k = false ∧ (swO ζ P k s = -2 ∨ popN s < popN (swO ζ P k s).toNat) ∧ bitN (mGo ζ P s) k = true then ↑s else swO ζ P k s
theorem swO_bd (ζ : Nat → Nat → Nat) (P : Nat → Nat) (k : Nat) : ∀ s, swO ζ P k s = -2 ∨ (0 ≤ swO ζ P k s ∧ swO ζ P k s < ↑s)
  | 0 => Or.inl rfl
  | s + 1 => by
    have := swO_bd ζ P k s
    simp only [swO]
    split <;> omega
def bStrike (ζ : Nat → Nat → Nat) (V : Nat → Nat) (s : Int) : Int × Nat := if ¬ (0 ≤ s ∧ s < ↑(ζ 6 0)) then (-1, 1) else (swO ζ (mPut ζ V) s.toNat (2 ^ ζ 6 0), 0)
def ksO (ζ : Nat → Nat → Nat) : Nat → Int
  | 0 => -2
  | s + 1 => if ksO ζ s = -2 ∨ popN (fwO (ζ 19) (ζ 6 0) (ζ 6 0) (2 ^ (ksO ζ s).toNat)) < popN (fwO (ζ 19) (ζ 6 0) (ζ 6 0) (2 ^ s)) then ↑s else ksO ζ s
theorem ksO_bd (ζ : Nat → Nat → Nat) : ∀ s, ksO ζ s = -2 ∨ (0 ≤ ksO ζ s ∧ ksO ζ s < ↑s)
  | 0 => Or.inl rfl
  | s + 1 => by
    have := ksO_bd ζ s
    simp only [ksO]
    split <;> omega
def bKeystone (ζ : Nat → Nat → Nat) : Int × Nat := (ksO ζ (ζ 6 0), 0)
def rgS (ζ : Nat → Nat → Nat) (s : Nat) : Nat := setN (fun b => bitN (ζ 19 b) s) (ζ 6 0)
def rgG (ζ : Nat → Nat → Nat) : Nat → Nat → Int
  | 0, _ => 0
  | n + 1, s => if ¬ rgS ζ s = 0 ∧ bitN (fwO (ζ 19) (ζ 6 0) (ζ 6 0) (rgS ζ s)) s = true then 1 else rgG ζ n (s + 1)
def bRing (ζ : Nat → Nat → Nat) : Int × Nat := (rgG ζ (ζ 6 0) 0, 0)
def sgO (ζ : Nat → Nat → Nat) (V : Nat → Nat) : Nat → Int
  | 0 => -2
  | s + 1 => if 0 < V (12 + s) ∧ (sgO ζ V s = -2 ∨ mTu ζ (mG ζ V) (sgO ζ V s).toNat < mTu ζ (mG ζ V) s) then ↑s else sgO ζ V s
theorem sgO_bd (ζ : Nat → Nat → Nat) (V : Nat → Nat) : ∀ s, sgO ζ V s = -2 ∨ (0 ≤ sgO ζ V s ∧ sgO ζ V s < ↑s)
  | 0 => Or.inl rfl
  | s + 1 => by
    have := sgO_bd ζ V s
    simp only [sgO]
    split <;> omega
def bStrongest (ζ : Nat → Nat → Nat) (V : Nat → Nat) : Int × Nat := (sgO ζ V (ζ 5 0), 0)
set_option maxRecDepth 100000 in
set_option maxHeartbeats 400000 in
theorem q_bestSwap (G : ssG) (h : ssH) {ad : Nat → Nat} {rv : Value} {m : Nat → Int} {ζ ρ : Nat → Nat → Nat}  (hA : ∀ k l, ad k = ad l → k = l) (ht : MT h ad rv m ζ ρ) (hz : SaOk ζ) (hV : XOk (ρ 2)) (hd : ρ 2 23 ≤ 99)  : ssC G mX10_bestSwap 4 0 0 [.ref (ad 200)] h (mR ζ rv m ρ ad h ↑(bBestSwap ζ (ρ 2)).2 (.int (zI (bBestSwap ζ (ρ 2)).1))) := by
  refine c_of_v okX10_bestSwap (by decide +kernel) (ls := [some (.ref (ad 200)), none, none, none, none, none]) rfl (Nat.le_of_ble_eq_true rfl) ?_
  obtain ⟨z0, z1, z2, z3, z4, z5, z6, z9, z12, z13, z14, z15, z16, z17, z18, z19, z20⟩ := id hz
  refine v_run 2 (pc' := 2) (ls' := [some (.ref (ad 200)), none, none, none, none, none]) (st' := [.int (zI 0), .ref (ad 200)]) rfl ?_
  refine v_put rfl ht.1.1 rfl rfl (Nat.le_of_ble_eq_true rfl) ?_
  generalize e1 : hset h (ad 200) _ = h1
  have q1 : MQs h ad rv (mU m 0 0) ζ ρ h1 (mU m 0 0) ρ := ⟨ht.ob hA e1, mSm.rf _, rSm.rf ρ, (frM.rf ad h).ob e1⟩
  refine v_run 1 (pc' := 6) (ls' := [some (.ref (ad 200)), none, none, none, none, none]) (st' := [.ref (ad 200)]) rfl ?_
  refine v_get rfl q1.1.1.1 rfl ?_
  refine v_run 2 (pc' := 19) (ls' := [some (.ref (ad 200)), none, none, none, none, none]) (st' := [.ref (ad 200)]) rfl ?_
  refine v_callV (My := mX10_lastsAsIs) (As := []) (rest := []) (mc := 0) (ms := 0) rfl caX10_lastsAsIs rfl rfl rfl q1.1.1.1 rfl rfl (q_lastsAsIs G _ hA q1.1.1 hz q1.1.2.1 q1.1.2.2.1 hV hd) rfl rfl (Nat.le_of_ble_eq_true rfl) (by omega) ?_
  rintro _ h2 ⟨rfl, e2⟩
  have q2 : MQs h ad rv (mU m 0 0) ζ ρ h2 (mU m 0 0) (rU ρ 3 (mDs ζ mF (ρ 2) (mLast ζ (ρ 2)))) := q1.xs hA e2 (mDs_ok hz hV _)
  refine v_run 0 (pc' := 22) (ls' := [some (.ref (ad 200)), none, none, none, none, none]) (st' := [.int (zI ↑(mLast ζ (ρ 2)))]) rfl ?_
  refine v_run 5 (pc' := 28) (ls' := [some (.ref (ad 200)), some (.int (zI ↑(mLast ζ (ρ 2)))), some (.int (zI (-2))), some (.int (zI 0)), none, none]) (st' := []) rfl ?_
  have lp : ∀ (n s : Nat) (hh : ssH) (Y : Nat → Nat), (s ≤ ζ 5 0 ∧ MQs h ad rv (mU m 0 0) ζ ρ hh (mU m 0 0) (rU ρ 3 Y)) → ζ 5 0 + 1 ≤ s + n → ssV G mX10_bestSwap 4 0 0 (mR ζ rv m ρ ad h ↑(bBestSwap ζ (ρ 2)).2 (.int (zI (bBestSwap ζ (ρ 2)).1))) 28 [some (.ref (ad 200)), some (.int (zI ↑(bwO ζ (ρ 2) s).2)), some (.int (zI (bwO ζ (ρ 2) s).1)), some (.int (zI ↑s)), none, none] [] hh := by
    intro n
    induction n with
    | zero => intro s hh Y hs1 hs2; exact absurd hs2 (by omega)
    | succ n ih =>
      intro s hh Y hs1 hs2
      refine v_run 2 (pc' := 30) (ls' := [some (.ref (ad 200)), some (.int (zI ↑(bwO ζ (ρ 2) s).2)), some (.int (zI (bwO ζ (ρ 2) s).1)), some (.int (zI ↑s)), none, none]) (st' := [.ref (ad 200), .int (zI ↑s)]) rfl ?_
      refine v_get rfl hs1.2.1.1.1 rfl ?_
      refine v_run 0 (pc' := 33) (ls' := [some (.ref (ad 200)), some (.int (zI ↑(bwO ζ (ρ 2) s).2)), some (.int (zI (bwO ζ (ρ 2) s).1)), some (.int (zI ↑s)), none, none]) (st' := [.ref (ad 210), .int (zI ↑s)]) rfl ?_
      refine v_get rfl hs1.2.1.1.2.1.1 rfl ?_
      refine v_run 0 (pc' := 36) (ls' := [some (.ref (ad 200)), some (.int (zI ↑(bwO ζ (ρ 2) s).2)), some (.int (zI (bwO ζ (ρ 2) s).1)), some (.int (zI ↑s)), none, none]) (st' := [.int (zI ↑(ζ 5 0)), .int (zI ↑s)]) rfl ?_
      refine v_icmp_ge rfl (fun c36 => ?_) (fun c36 => ?_)
      · simp (disch := omega) only [zI_lt, zI_le, zI_eq, zI_lt0, zI_le0, zI_0lt, zI_0le, zI_eq0] at c36
        refine v_run 2 (pc' := 126) (ls' := [some (.ref (ad 200)), some (.int (zI ↑(bwO ζ (ρ 2) s).2)), some (.int (zI (bwO ζ (ρ 2) s).1)), some (.int (zI ↑s)), none, none]) (st' := [.int (zI (bwO ζ (ρ 2) s).1), .ref (ad 200)]) rfl ?_
        refine v_callV (My := mX10_well) (As := [.int (zI (bwO ζ (ρ 2) s).1)]) (rest := []) (mc := 0) (ms := 0) rfl caX10_well rfl rfl rfl hs1.2.1.1.1 rfl rfl (q_well G _ ((zI (bwO ζ (ρ 2) s).1)) hs1.2.1.1.1) rfl rfl (Nat.le_of_ble_eq_true rfl) (by omega) ?_
        rintro _ h99 ⟨rfl, e99⟩
        refine v_run 0 (pc' := 129) (ls' := [some (.ref (ad 200)), some (.int (zI ↑(bwO ζ (ρ 2) s).2)), some (.int (zI (bwO ζ (ρ 2) s).1)), some (.int (zI ↑s)), none, none]) (st' := [.int ((zI (bwO ζ (ρ 2) s).1))]) rfl ?_
        rw [show bBestSwap ζ (ρ 2) = ((bwO ζ (ρ 2) s).1, 0) from by rw [bBestSwap, show s = ζ 5 0 by omega]]
        exact v_iret rfl rfl rfl ⟨rfl, hs1.2.fin hA e99⟩
      · simp (disch := omega) only [zI_lt, zI_le, zI_eq, zI_lt0, zI_le0, zI_0lt, zI_0le, zI_eq0] at c36
        refine v_run 4 (pc' := 44) (ls' := [some (.ref (ad 200)), some (.int (zI ↑(bwO ζ (ρ 2) s).2)), some (.int (zI (bwO ζ (ρ 2) s).1)), some (.int (zI ↑s)), some (.int ((zI ↑s) + (zI 1))), none]) (st' := []) rfl ?_
        rw [zI_s1]
        refine v_run 0 (pc' := 44) (ls' := [some (.ref (ad 200)), some (.int (zI ↑(bwI ζ (ρ 2) s (bwO ζ (ρ 2) s) 0).2)), some (.int (zI (bwI ζ (ρ 2) s (bwO ζ (ρ 2) s) 0).1)), some (.int (zI ↑s)), some (.int (zI ↑(s + 1 + 0))), none]) (st' := []) rfl ?_
        have lq : ∀ (ni t : Nat) (hh : ssH) (Y : Nat → Nat), (s + 1 + t ≤ ζ 5 0 ∧ MQs h ad rv (mU m 0 0) ζ ρ hh (mU m 0 0) (rU ρ 3 Y)) → ζ 5 0 - (s + 1) + 1 ≤ t + ni → ssV G mX10_bestSwap 4 0 0 (mR ζ rv m ρ ad h ↑(bBestSwap ζ (ρ 2)).2 (.int (zI (bBestSwap ζ (ρ 2)).1))) 44 [some (.ref (ad 200)), some (.int (zI ↑(bwI ζ (ρ 2) s (bwO ζ (ρ 2) s) t).2)), some (.int (zI (bwI ζ (ρ 2) s (bwO ζ (ρ 2) s) t).1)), some (.int (zI ↑s)), some (.int (zI ↑(s + 1 + t))), none] [] hh := by
          intro ni
          induction ni with
          | zero => intro t hh Y hi1 hi2; exact absurd hi2 (by omega)
          | succ ni ih2 =>
            intro t hh Y hi1 hi2
            have ib := bwI_le ζ (ρ 2) s t
            refine v_run 2 (pc' := 47) (ls' := [some (.ref (ad 200)), some (.int (zI ↑(bwI ζ (ρ 2) s (bwO ζ (ρ 2) s) t).2)), some (.int (zI (bwI ζ (ρ 2) s (bwO ζ (ρ 2) s) t).1)), some (.int (zI ↑s)), some (.int (zI ↑(s + 1 + t))), none]) (st' := [.ref (ad 200), .int (zI ↑(s + 1 + t))]) rfl ?_
            refine v_get rfl hi1.2.1.1.1 rfl ?_
            refine v_run 0 (pc' := 50) (ls' := [some (.ref (ad 200)), some (.int (zI ↑(bwI ζ (ρ 2) s (bwO ζ (ρ 2) s) t).2)), some (.int (zI (bwI ζ (ρ 2) s (bwO ζ (ρ 2) s) t).1)), some (.int (zI ↑s)), some (.int (zI ↑(s + 1 + t))), none]) (st' := [.ref (ad 210), .int (zI ↑(s + 1 + t))]) rfl ?_
            refine v_get rfl hi1.2.1.1.2.1.1 rfl ?_
            refine v_run 0 (pc' := 53) (ls' := [some (.ref (ad 200)), some (.int (zI ↑(bwI ζ (ρ 2) s (bwO ζ (ρ 2) s) t).2)), some (.int (zI (bwI ζ (ρ 2) s (bwO ζ (ρ 2) s) t).1)), some (.int (zI ↑s)), some (.int (zI ↑(s + 1 + t))), none]) (st' := [.int (zI ↑(ζ 5 0)), .int (zI ↑(s + 1 + t))]) rfl ?_
            refine v_icmp_ge rfl (fun c53 => ?_) (fun c53 => ?_)
            · simp (disch := omega) only [zI_lt, zI_le, zI_eq, zI_lt0, zI_le0, zI_0lt, zI_0le, zI_eq0] at c53
              refine v_run 2 (pc' := 28) (ls' := [some (.ref (ad 200)), some (.int (zI ↑(bwI ζ (ρ 2) s (bwO ζ (ρ 2) s) t).2)), some (.int (zI (bwI ζ (ρ 2) s (bwO ζ (ρ 2) s) t).1)), some (.int ((zI ↑s) + zI 1)), some (.int (zI ↑(s + 1 + t))), none]) (st' := []) rfl ?_
              refine v_drop 4 (ls' := [some (.ref (ad 200)), some (.int (zI ↑(bwI ζ (ρ 2) s (bwO ζ (ρ 2) s) t).2)), some (.int (zI (bwI ζ (ρ 2) s (bwO ζ (ρ 2) s) t).1)), some (.int ((zI ↑s) + zI 1)), none, none]) rfl ?_
              rw [zI_s1, show (bwI ζ (ρ 2) s (bwO ζ (ρ 2) s) t) = bwO ζ (ρ 2) (s + 1) from by rw [show t = ζ 5 0 - (s + 1) by omega]; rfl]
              exact ih (s + 1) hh Y ⟨by omega, hi1.2⟩ (by omega)
            · simp (disch := omega) only [zI_lt, zI_le, zI_eq, zI_lt0, zI_le0, zI_0lt, zI_0le, zI_eq0] at c53
              refine v_run 1 (pc' := 57) (ls' := [some (.ref (ad 200)), some (.int (zI ↑(bwI ζ (ρ 2) s (bwO ζ (ρ 2) s) t).2)), some (.int (zI (bwI ζ (ρ 2) s (bwO ζ (ρ 2) s) t).1)), some (.int (zI ↑s)), some (.int (zI ↑(s + 1 + t))), none]) (st' := [.ref (ad 200)]) rfl ?_
              refine v_callV (My := mX10_works) (As := []) (rest := []) (mc := 0) (ms := 0) rfl caX10_works rfl rfl rfl hi1.2.1.1.1 rfl rfl (q_works G _ hA hi1.2.1.1 hz hi1.2.1.2.1 hi1.2.1.2.2.1 hV) rfl rfl (Nat.le_of_ble_eq_true rfl) (by omega) ?_
              rintro _ h3 ⟨rfl, e3⟩
              have q3 : MQs h ad rv (mU m 0 0) ζ ρ h3 (mU m 0 0) (rU ρ 3 (ρ 2)) := hi1.2.xs hA e3 (hV)
              refine v_run 0 (pc' := 60) (ls' := [some (.ref (ad 200)), some (.int (zI ↑(bwI ζ (ρ 2) s (bwO ζ (ρ 2) s) t).2)), some (.int (zI (bwI ζ (ρ 2) s (bwO ζ (ρ 2) s) t).1)), some (.int (zI ↑s)), some (.int (zI ↑(s + 1 + t))), none]) (st' := []) rfl ?_
              refine v_run 1 (pc' := 61) (ls' := [some (.ref (ad 200)), some (.int (zI ↑(bwI ζ (ρ 2) s (bwO ζ (ρ 2) s) t).2)), some (.int (zI (bwI ζ (ρ 2) s (bwO ζ (ρ 2) s) t).1)), some (.int (zI ↑s)), some (.int (zI ↑(s + 1 + t))), none]) (st' := [.ref (ad 200)]) rfl ?_
              refine v_get rfl q3.1.1.1 rfl ?_
              refine v_run 2 (pc' := 66) (ls' := [some (.ref (ad 200)), some (.int (zI ↑(bwI ζ (ρ 2) s (bwO ζ (ρ 2) s) t).2)), some (.int (zI (bwI ζ (ρ 2) s (bwO ζ (ρ 2) s) t).1)), some (.int (zI ↑s)), some (.int (zI ↑(s + 1 + t))), none]) (st' := [.ref (ad 200), .int (zI ↑s), .ref (ad 203)]) rfl ?_
              refine v_get rfl q3.1.1.1 rfl ?_
              refine v_run 1 (pc' := 71) (ls' := [some (.ref (ad 200)), some (.int (zI ↑(bwI ζ (ρ 2) s (bwO ζ (ρ 2) s) t).2)), some (.int (zI (bwI ζ (ρ 2) s (bwO ζ (ρ 2) s) t).1)), some (.int (zI ↑s)), some (.int (zI ↑(s + 1 + t))), none]) (st' := [.int (zI ↑(s + 1 + t)), .ref (ad 202), .int (zI ↑s), .ref (ad 203)]) rfl ?_
              refine v_iaload' rfl q3.1.2.2.1 (i := (s + 1 + t)) rfl (by omega) ?_
              refine v_run 0 (pc' := 72) (ls' := [some (.ref (ad 200)), some (.int (zI ↑(bwI ζ (ρ 2) s (bwO ζ (ρ 2) s) t).2)), some (.int (zI (bwI ζ (ρ 2) s (bwO ζ (ρ 2) s) t).1)), some (.int (zI ↑s)), some (.int (zI ↑(s + 1 + t))), none]) (st' := [.int (zI ↑(ρ 2 (s + 1 + t))), .int (zI ↑s), .ref (ad 203)]) rfl ?_
              refine v_iastore' rfl q3.1.1.2.2 (i := s) rfl (by omega) ?_
              rw [ar_upd]
              generalize e4 : hset h3 (ad 203) _ = h4
              have q4 : MQs h ad rv (mU m 0 0) ζ ρ h4 (mU m 0 0) (rU ρ 3 (fun j => if j = s then ρ 2 (s + 1 + t) else ρ 2 j)) := q3.xs hA e4 (xH_ok hV (by omega) (hV.1 _ (by omega)))
              refine v_run 1 (pc' := 74) (ls' := [some (.ref (ad 200)), some (.int (zI ↑(bwI ζ (ρ 2) s (bwO ζ (ρ 2) s) t).2)), some (.int (zI (bwI ζ (ρ 2) s (bwO ζ (ρ 2) s) t).1)), some (.int (zI ↑s)), some (.int (zI ↑(s + 1 + t))), none]) (st' := [.ref (ad 200)]) rfl ?_
              refine v_get rfl q4.1.1.1 rfl ?_
              refine v_run 2 (pc' := 80) (ls' := [some (.ref (ad 200)), some (.int (zI ↑(bwI ζ (ρ 2) s (bwO ζ (ρ 2) s) t).2)), some (.int (zI (bwI ζ (ρ 2) s (bwO ζ (ρ 2) s) t).1)), some (.int (zI ↑s)), some (.int (zI ↑(s + 1 + t))), none]) (st' := [.ref (ad 200), .int (zI ↑(s + 1 + t)), .ref (ad 203)]) rfl ?_
              refine v_get rfl q4.1.1.1 rfl ?_
              refine v_run 1 (pc' := 84) (ls' := [some (.ref (ad 200)), some (.int (zI ↑(bwI ζ (ρ 2) s (bwO ζ (ρ 2) s) t).2)), some (.int (zI (bwI ζ (ρ 2) s (bwO ζ (ρ 2) s) t).1)), some (.int (zI ↑s)), some (.int (zI ↑(s + 1 + t))), none]) (st' := [.int (zI ↑s), .ref (ad 202), .int (zI ↑(s + 1 + t)), .ref (ad 203)]) rfl ?_
              refine v_iaload' rfl q4.1.2.2.1 (i := s) rfl (by omega) ?_
              refine v_run 0 (pc' := 85) (ls' := [some (.ref (ad 200)), some (.int (zI ↑(bwI ζ (ρ 2) s (bwO ζ (ρ 2) s) t).2)), some (.int (zI (bwI ζ (ρ 2) s (bwO ζ (ρ 2) s) t).1)), some (.int (zI ↑s)), some (.int (zI ↑(s + 1 + t))), none]) (st' := [.int (zI ↑(ρ 2 s)), .int (zI ↑(s + 1 + t)), .ref (ad 203)]) rfl ?_
              refine v_iastore' rfl q4.1.1.2.2 (i := (s + 1 + t)) rfl (by omega) ?_
              rw [ar_upd]
              generalize e5 : hset h4 (ad 203) _ = h5
              have q5 : MQs h ad rv (mU m 0 0) ζ ρ h5 (mU m 0 0) (rU ρ 3 (mSwp (ρ 2) s (s + 1 + t))) := q4.xs hA e5 (xH_ok (xH_ok hV (by omega) (hV.1 _ (by omega))) (by omega) (hV.1 _ (by omega)))
              refine v_run 1 (pc' := 87) (ls' := [some (.ref (ad 200)), some (.int (zI ↑(bwI ζ (ρ 2) s (bwO ζ (ρ 2) s) t).2)), some (.int (zI (bwI ζ (ρ 2) s (bwO ζ (ρ 2) s) t).1)), some (.int (zI ↑s)), some (.int (zI ↑(s + 1 + t))), none]) (st' := [.ref (ad 200)]) rfl ?_
              have ml := mLast_le ζ (mSwp (ρ 2) s (s + 1 + t))
              refine v_callV (My := mX10_lastsNow) (As := []) (rest := []) (mc := 0) (ms := 0) rfl caX10_lastsNow rfl rfl rfl q5.1.1.1 rfl rfl (q_lastsNow G _ hA q5.1.1 hz q5.1.2.1 (by show mSwp (ρ 2) s (s + 1 + t) 23 + 99 ≤ 1000; rw [mSwp_23 (by omega) (by omega)]; omega)) rfl rfl (Nat.le_of_ble_eq_true rfl) (by omega) ?_
              rintro _ h6 ⟨rfl, e6⟩
              have q6 : MQs h ad rv (mU m 0 0) ζ ρ h6 (mU m 0 0) (rU ρ 3 (mDs ζ mF (mSwp (ρ 2) s (s + 1 + t)) (mLast ζ (mSwp (ρ 2) s (s + 1 + t))))) := q5.xs hA e6 (mDs_ok hz (xH_ok (xH_ok hV (by omega) (hV.1 _ (by omega))) (by omega) (hV.1 _ (by omega))) _)
              refine v_run 0 (pc' := 90) (ls' := [some (.ref (ad 200)), some (.int (zI ↑(bwI ζ (ρ 2) s (bwO ζ (ρ 2) s) t).2)), some (.int (zI (bwI ζ (ρ 2) s (bwO ζ (ρ 2) s) t).1)), some (.int (zI ↑s)), some (.int (zI ↑(s + 1 + t))), none]) (st' := [.int (zI ↑(mLast ζ (mSwp (ρ 2) s (s + 1 + t))))]) rfl ?_
              refine v_run 3 (pc' := 95) (ls' := [some (.ref (ad 200)), some (.int (zI ↑(bwI ζ (ρ 2) s (bwO ζ (ρ 2) s) t).2)), some (.int (zI (bwI ζ (ρ 2) s (bwO ζ (ρ 2) s) t).1)), some (.int (zI ↑s)), some (.int (zI ↑(s + 1 + t))), some (.int (zI ↑(mLast ζ (mSwp (ρ 2) s (s + 1 + t)))))]) (st' := [.int (zI ↑(bwI ζ (ρ 2) s (bwO ζ (ρ 2) s) t).2), .int (zI ↑(mLast ζ (mSwp (ρ 2) s (s + 1 + t))))]) rfl ?_
              refine v_icmp_gt rfl (fun c95 => ?_) (fun c95 => ?_)
              · simp (disch := omega) only [zI_lt, zI_le, zI_eq, zI_lt0, zI_le0, zI_0lt, zI_0le, zI_eq0] at c95
                refine v_run 10 (pc' := 44) (ls' := [some (.ref (ad 200)), some (.int (zI ↑(mLast ζ (mSwp (ρ 2) s (s + 1 + t))))), some (.int (((zI 10) * (zI ↑s)) + (zI ↑(s + 1 + t)))), some (.int (zI ↑s)), some (.int ((zI ↑(s + 1 + t)) + zI 1)), some (.int (zI ↑(mLast ζ (mSwp (ρ 2) s (s + 1 + t)))))]) (st' := []) rfl ?_
                refine v_drop 5 (ls' := [some (.ref (ad 200)), some (.int (zI ↑(mLast ζ (mSwp (ρ 2) s (s + 1 + t))))), some (.int (((zI 10) * (zI ↑s)) + (zI ↑(s + 1 + t)))), some (.int (zI ↑s)), some (.int ((zI ↑(s + 1 + t)) + zI 1)), none]) rfl ?_
                have en : (bwI ζ (ρ 2) s (bwO ζ (ρ 2) s) (t + 1)) = ((10 * (s : Int) + ((s + 1 + t : Nat) : Int), mLast ζ (mSwp (ρ 2) s (s + 1 + t))) : Int × Nat) := by simp only [bwI]; rw [if_pos (by omega)]
                refine v_run 0 (pc' := 44) (ls' := [some (.ref (ad 200)), some (.int (zI ↑(bwI ζ (ρ 2) s (bwO ζ (ρ 2) s) (t + 1)).2)), some (.int (zI (bwI ζ (ρ 2) s (bwO ζ (ρ 2) s) (t + 1)).1)), some (.int (zI ↑s)), some (.int (zI ↑(s + 1 + (t + 1)))), none]) (st' := []) (by rw [en, ← Nat.add_assoc, ← zI_s1, ← zI_add, ← zI_mul]; rfl) ?_
                exact ih2 (t + 1) _ _ ⟨by omega, q6⟩ (by omega)
              · simp (disch := omega) only [zI_lt, zI_le, zI_eq, zI_lt0, zI_le0, zI_0lt, zI_0le, zI_eq0] at c95
                refine v_run 3 (pc' := 44) (ls' := [some (.ref (ad 200)), some (.int (zI ↑(bwI ζ (ρ 2) s (bwO ζ (ρ 2) s) t).2)), some (.int (zI (bwI ζ (ρ 2) s (bwO ζ (ρ 2) s) t).1)), some (.int (zI ↑s)), some (.int ((zI ↑(s + 1 + t)) + zI 1)), some (.int (zI ↑(mLast ζ (mSwp (ρ 2) s (s + 1 + t)))))]) (st' := []) rfl ?_
                refine v_drop 5 (ls' := [some (.ref (ad 200)), some (.int (zI ↑(bwI ζ (ρ 2) s (bwO ζ (ρ 2) s) t).2)), some (.int (zI (bwI ζ (ρ 2) s (bwO ζ (ρ 2) s) t).1)), some (.int (zI ↑s)), some (.int ((zI ↑(s + 1 + t)) + zI 1)), none]) rfl ?_
                rw [zI_s1, show (bwI ζ (ρ 2) s (bwO ζ (ρ 2) s) t) = (bwI ζ (ρ 2) s (bwO ζ (ρ 2) s) (t + 1)) from by simp only [bwI]; rw [if_neg (by omega)]]
                exact ih2 (t + 1) _ _ ⟨by omega, q6⟩ (by omega)
        exact lq (ζ 5 0 - (s + 1) + 1) 0 hh Y ⟨by omega, hs1.2⟩ (by omega)
  exact lp (ζ 5 0 + 1) 0 _ _ ⟨by omega, q2⟩ (by omega)

set_option maxRecDepth 100000 in
set_option maxHeartbeats 400000 in
theorem q_toSalt (G : ssG) (h : ssH) {ad : Nat → Nat} {rv : Value} {m : Nat → Int} {ζ ρ : Nat → Nat → Nat}  (hA : ∀ k l, ad k = ad l → k = l) (ht : MT h ad rv m ζ ρ) (hz : SaOk ζ) (hV : XOk (ρ 2)) (hd : ρ 2 23 ≤ 99)  : ssC G mX10_toSalt 4 0 0 [.ref (ad 200)] h (mR ζ rv m ρ ad h ↑(bToSalt ζ (ρ 2)).2 (.int (zI (bToSalt ζ (ρ 2)).1))) := by
  refine c_of_v okX10_toSalt (by decide +kernel) (ls := [some (.ref (ad 200)), none, none, none, none]) rfl (Nat.le_of_ble_eq_true rfl) ?_
  obtain ⟨z0, z1, z2, z3, z4, z5, z6, z9, z12, z13, z14, z15, z16, z17, z18, z19, z20⟩ := id hz
  refine v_run 2 (pc' := 2) (ls' := [some (.ref (ad 200)), none, none, none, none]) (st' := [.int (zI 0), .ref (ad 200)]) rfl ?_
  refine v_put rfl ht.1.1 rfl rfl (Nat.le_of_ble_eq_true rfl) ?_
  generalize e1 : hset h (ad 200) _ = h1
  have q1 : MQs h ad rv (mU m 0 0) ζ ρ h1 (mU m 0 0) ρ := ⟨ht.ob hA e1, mSm.rf _, rSm.rf ρ, (frM.rf ad h).ob e1⟩
  refine v_run 1 (pc' := 6) (ls' := [some (.ref (ad 200)), none, none, none, none]) (st' := [.ref (ad 200)]) rfl ?_
  refine v_get rfl q1.1.1.1 rfl ?_
  refine v_run 2 (pc' := 19) (ls' := [some (.ref (ad 200)), none, none, none, none]) (st' := [.ref (ad 200)]) rfl ?_
  refine v_callV (My := mX10_lastsAsIs) (As := []) (rest := []) (mc := 0) (ms := 0) rfl caX10_lastsAsIs rfl rfl rfl q1.1.1.1 rfl rfl (q_lastsAsIs G _ hA q1.1.1 hz q1.1.2.1 q1.1.2.2.1 hV hd) rfl rfl (Nat.le_of_ble_eq_true rfl) (by omega) ?_
  rintro _ h7 ⟨rfl, e7⟩
  have q7 : MQs h ad rv (mU m 0 0) ζ ρ h7 (mU m 0 0) (rU ρ 3 (mDs ζ mF (ρ 2) (mLast ζ (ρ 2)))) := q1.xs hA e7 (mDs_ok hz hV _)
  refine v_run 0 (pc' := 22) (ls' := [some (.ref (ad 200)), none, none, none, none]) (st' := [.int (zI ↑(mLast ζ (ρ 2)))]) rfl ?_
  refine v_run 5 (pc' := 28) (ls' := [some (.ref (ad 200)), some (.int (zI ↑(mLast ζ (ρ 2)))), some (.int (zI (-2))), some (.int (zI 0)), none]) (st' := []) rfl ?_
  have lp : ∀ (n s : Nat) (hh : ssH) (Y : Nat → Nat), (s ≤ ζ 5 0 ∧ MQs h ad rv (mU m 0 0) ζ ρ hh (mU m 0 0) (rU ρ 3 Y)) → ζ 5 0 + 1 ≤ s + n → ssV G mX10_toSalt 4 0 0 (mR ζ rv m ρ ad h ↑(bToSalt ζ (ρ 2)).2 (.int (zI (bToSalt ζ (ρ 2)).1))) 28 [some (.ref (ad 200)), some (.int (zI ↑(twO ζ (ρ 2) s).2)), some (.int (zI (twO ζ (ρ 2) s).1)), some (.int (zI ↑s)), none] [] hh := by
    intro n
    induction n with
    | zero => intro s hh Y hs1 hs2; exact absurd hs2 (by omega)
    | succ n ih =>
      intro s hh Y hs1 hs2
      have ib := twO_le ζ (ρ 2) s
      have v24 := hV.2.2.2.2.1
      refine v_run 2 (pc' := 30) (ls' := [some (.ref (ad 200)), some (.int (zI ↑(twO ζ (ρ 2) s).2)), some (.int (zI (twO ζ (ρ 2) s).1)), some (.int (zI ↑s)), none]) (st' := [.ref (ad 200), .int (zI ↑s)]) rfl ?_
      refine v_get rfl hs1.2.1.1.1 rfl ?_
      refine v_run 0 (pc' := 33) (ls' := [some (.ref (ad 200)), some (.int (zI ↑(twO ζ (ρ 2) s).2)), some (.int (zI (twO ζ (ρ 2) s).1)), some (.int (zI ↑s)), none]) (st' := [.ref (ad 210), .int (zI ↑s)]) rfl ?_
      refine v_get rfl hs1.2.1.1.2.1.1 rfl ?_
      refine v_run 0 (pc' := 36) (ls' := [some (.ref (ad 200)), some (.int (zI ↑(twO ζ (ρ 2) s).2)), some (.int (zI (twO ζ (ρ 2) s).1)), some (.int (zI ↑s)), none]) (st' := [.int (zI ↑(ζ 5 0)), .int (zI ↑s)]) rfl ?_
      refine v_icmp_ge rfl (fun c36 => ?_) (fun c36 => ?_)
      · simp (disch := omega) only [zI_lt, zI_le, zI_eq, zI_lt0, zI_le0, zI_0lt, zI_0le, zI_eq0] at c36
        refine v_run 2 (pc' := 107) (ls' := [some (.ref (ad 200)), some (.int (zI ↑(twO ζ (ρ 2) s).2)), some (.int (zI (twO ζ (ρ 2) s).1)), some (.int (zI ↑s)), none]) (st' := [.int (zI (twO ζ (ρ 2) s).1), .ref (ad 200)]) rfl ?_
        refine v_callV (My := mX10_well) (As := [.int (zI (twO ζ (ρ 2) s).1)]) (rest := []) (mc := 0) (ms := 0) rfl caX10_well rfl rfl rfl hs1.2.1.1.1 rfl rfl (q_well G _ ((zI (twO ζ (ρ 2) s).1)) hs1.2.1.1.1) rfl rfl (Nat.le_of_ble_eq_true rfl) (by omega) ?_
        rintro _ h99 ⟨rfl, e99⟩
        refine v_run 0 (pc' := 110) (ls' := [some (.ref (ad 200)), some (.int (zI ↑(twO ζ (ρ 2) s).2)), some (.int (zI (twO ζ (ρ 2) s).1)), some (.int (zI ↑s)), none]) (st' := [.int ((zI (twO ζ (ρ 2) s).1))]) rfl ?_
        rw [show bToSalt ζ (ρ 2) = ((twO ζ (ρ 2) s).1, 0) from by rw [bToSalt, show s = ζ 5 0 by omega]]
        exact v_iret rfl rfl rfl ⟨rfl, hs1.2.fin hA e99⟩
      · simp (disch := omega) only [zI_lt, zI_le, zI_eq, zI_lt0, zI_le0, zI_0lt, zI_0le, zI_eq0] at c36
        refine v_run 1 (pc' := 40) (ls' := [some (.ref (ad 200)), some (.int (zI ↑(twO ζ (ρ 2) s).2)), some (.int (zI (twO ζ (ρ 2) s).1)), some (.int (zI ↑s)), none]) (st' := [.ref (ad 200)]) rfl ?_
        refine v_get rfl hs1.2.1.1.1 rfl ?_
        refine v_run 1 (pc' := 45) (ls' := [some (.ref (ad 200)), some (.int (zI ↑(twO ζ (ρ 2) s).2)), some (.int (zI (twO ζ (ρ 2) s).1)), some (.int (zI ↑s)), none]) (st' := [.int (zI 24), .ref (ad 202)]) rfl ?_
        refine v_iaload' rfl hs1.2.1.2.2.1 (i := 24) rfl (by decide) ?_
        refine v_run 0 (pc' := 46) (ls' := [some (.ref (ad 200)), some (.int (zI ↑(twO ζ (ρ 2) s).2)), some (.int (zI (twO ζ (ρ 2) s).1)), some (.int (zI ↑s)), none]) (st' := [.int (zI ↑(ρ 2 24))]) rfl ?_
        refine v_if_le rfl (fun c46 => ?_) (fun c46 => ?_)
        · simp (disch := omega) only [zI_lt, zI_le, zI_eq, zI_lt0, zI_le0, zI_0lt, zI_0le, zI_eq0] at c46
          refine v_run 2 (pc' := 107) (ls' := [some (.ref (ad 200)), some (.int (zI ↑(twO ζ (ρ 2) s).2)), some (.int (zI (twO ζ (ρ 2) s).1)), some (.int (zI ↑s)), none]) (st' := [.int (zI (twO ζ (ρ 2) s).1), .ref (ad 200)]) rfl ?_
          refine v_callV (My := mX10_well) (As := [.int (zI (twO ζ (ρ 2) s).1)]) (rest := []) (mc := 0) (ms := 0) rfl caX10_well rfl rfl rfl hs1.2.1.1.1 rfl rfl (q_well G _ ((zI (twO ζ (ρ 2) s).1)) hs1.2.1.1.1) rfl rfl (Nat.le_of_ble_eq_true rfl) (by omega) ?_
          rintro _ h99 ⟨rfl, e99⟩
          refine v_run 0 (pc' := 110) (ls' := [some (.ref (ad 200)), some (.int (zI ↑(twO ζ (ρ 2) s).2)), some (.int (zI (twO ζ (ρ 2) s).1)), some (.int (zI ↑s)), none]) (st' := [.int ((zI (twO ζ (ρ 2) s).1))]) rfl ?_
          rw [show bToSalt ζ (ρ 2) = ((twO ζ (ρ 2) s).1, 0) from by rw [bToSalt, twO_0 (by omega), twO_0 (by omega)]]
          exact v_iret rfl rfl rfl ⟨rfl, hs1.2.fin hA e99⟩
        · simp (disch := omega) only [zI_lt, zI_le, zI_eq, zI_lt0, zI_le0, zI_0lt, zI_0le, zI_eq0] at c46
          have v6 := hV.2.1 s (by omega)
          refine v_run 1 (pc' := 50) (ls' := [some (.ref (ad 200)), some (.int (zI ↑(twO ζ (ρ 2) s).2)), some (.int (zI (twO ζ (ρ 2) s).1)), some (.int (zI ↑s)), none]) (st' := [.ref (ad 200)]) rfl ?_
          refine v_get rfl hs1.2.1.1.1 rfl ?_
          refine v_run 3 (pc' := 57) (ls' := [some (.ref (ad 200)), some (.int (zI ↑(twO ζ (ρ 2) s).2)), some (.int (zI (twO ζ (ρ 2) s).1)), some (.int (zI ↑s)), none]) (st' := [.int ((zI 6) + (zI ↑s)), .ref (ad 202)]) rfl ?_
          refine v_iaload' rfl hs1.2.1.2.2.1 (i := (6 + s)) (zN_add 6 s) (by omega) ?_
          refine v_run 1 (pc' := 59) (ls' := [some (.ref (ad 200)), some (.int (zI ↑(twO ζ (ρ 2) s).2)), some (.int (zI (twO ζ (ρ 2) s).1)), some (.int (zI ↑s)), none]) (st' := [.int (zI 1), .int (zI ↑(ρ 2 (6 + s)))]) rfl ?_
          refine v_icmp_ne rfl (fun c59 => ?_) (fun c59 => ?_)
          · simp (disch := omega) only [zI_lt, zI_le, zI_eq, zI_lt0, zI_le0, zI_0lt, zI_0le, zI_eq0] at c59
            refine v_run 1 (pc' := 66) (ls' := [some (.ref (ad 200)), some (.int (zI ↑(twO ζ (ρ 2) s).2)), some (.int (zI (twO ζ (ρ 2) s).1)), some (.int (zI ↑s)), none]) (st' := [.ref (ad 200)]) rfl ?_
            refine v_callV (My := mX10_works) (As := []) (rest := []) (mc := 0) (ms := 0) rfl caX10_works rfl rfl rfl hs1.2.1.1.1 rfl rfl (q_works G _ hA hs1.2.1.1 hz hs1.2.1.2.1 hs1.2.1.2.2.1 hV) rfl rfl (Nat.le_of_ble_eq_true rfl) (by omega) ?_
            rintro _ h8 ⟨rfl, e8⟩
            have q8 : MQs h ad rv (mU m 0 0) ζ ρ h8 (mU m 0 0) (rU ρ 3 (ρ 2)) := hs1.2.xs hA e8 (hV)
            refine v_run 0 (pc' := 69) (ls' := [some (.ref (ad 200)), some (.int (zI ↑(twO ζ (ρ 2) s).2)), some (.int (zI (twO ζ (ρ 2) s).1)), some (.int (zI ↑s)), none]) (st' := []) rfl ?_
            refine v_run 1 (pc' := 70) (ls' := [some (.ref (ad 200)), some (.int (zI ↑(twO ζ (ρ 2) s).2)), some (.int (zI (twO ζ (ρ 2) s).1)), some (.int (zI ↑s)), none]) (st' := [.ref (ad 200)]) rfl ?_
            refine v_get rfl q8.1.1.1 rfl ?_
            refine v_run 4 (pc' := 78) (ls' := [some (.ref (ad 200)), some (.int (zI ↑(twO ζ (ρ 2) s).2)), some (.int (zI (twO ζ (ρ 2) s).1)), some (.int (zI ↑s)), none]) (st' := [.int (zI 1), .int ((zI 6) + (zI ↑s)), .ref (ad 203)]) rfl ?_
            refine v_iastore' rfl q8.1.1.2.2 (i := (6 + s)) (zN_add 6 s) (by omega) ?_
            rw [show (zI 1) = zI ↑(1 : Nat) from rfl, ar_upd]
            generalize e9 : hset h8 (ad 203) _ = h9
            have q9 : MQs h ad rv (mU m 0 0) ζ ρ h9 (mU m 0 0) (rU ρ 3 (mSlt (ρ 2) s)) := q8.xs hA e9 (xK_ok hV (by omega) (by decide))
            refine v_run 1 (pc' := 80) (ls' := [some (.ref (ad 200)), some (.int (zI ↑(twO ζ (ρ 2) s).2)), some (.int (zI (twO ζ (ρ 2) s).1)), some (.int (zI ↑s)), none]) (st' := [.ref (ad 200)]) rfl ?_
            have ml := mLast_le ζ (mSlt (ρ 2) s)
            refine v_callV (My := mX10_lastsNow) (As := []) (rest := []) (mc := 0) (ms := 0) rfl caX10_lastsNow rfl rfl rfl q9.1.1.1 rfl rfl (q_lastsNow G _ hA q9.1.1 hz q9.1.2.1 (by show mSlt (ρ 2) s 23 + 99 ≤ 1000; rw [mSlt_23 (by omega)]; omega)) rfl rfl (Nat.le_of_ble_eq_true rfl) (by omega) ?_
            rintro _ h10 ⟨rfl, e10⟩
            have q10 : MQs h ad rv (mU m 0 0) ζ ρ h10 (mU m 0 0) (rU ρ 3 (mDs ζ mF (mSlt (ρ 2) s) (mLast ζ (mSlt (ρ 2) s)))) := q9.xs hA e10 (mDs_ok hz (xK_ok hV (by omega) (by decide)) _)
            refine v_run 0 (pc' := 83) (ls' := [some (.ref (ad 200)), some (.int (zI ↑(twO ζ (ρ 2) s).2)), some (.int (zI (twO ζ (ρ 2) s).1)), some (.int (zI ↑s)), none]) (st' := [.int (zI ↑(mLast ζ (mSlt (ρ 2) s)))]) rfl ?_
            refine v_run 3 (pc' := 88) (ls' := [some (.ref (ad 200)), some (.int (zI ↑(twO ζ (ρ 2) s).2)), some (.int (zI (twO ζ (ρ 2) s).1)), some (.int (zI ↑s)), some (.int (zI ↑(mLast ζ (mSlt (ρ 2) s))))]) (st' := [.int (zI ↑(twO ζ (ρ 2) s).2), .int (zI ↑(mLast ζ (mSlt (ρ 2) s)))]) rfl ?_
            refine v_icmp_gt rfl (fun c88 => ?_) (fun c88 => ?_)
            · simp (disch := omega) only [zI_lt, zI_le, zI_eq, zI_lt0, zI_le0, zI_0lt, zI_0le, zI_eq0] at c88
              refine v_run 6 (pc' := 28) (ls' := [some (.ref (ad 200)), some (.int (zI ↑(mLast ζ (mSlt (ρ 2) s)))), some (.int (zI ↑s)), some (.int ((zI ↑s) + zI 1)), some (.int (zI ↑(mLast ζ (mSlt (ρ 2) s))))]) (st' := []) rfl ?_
              refine v_drop 4 (ls' := [some (.ref (ad 200)), some (.int (zI ↑(mLast ζ (mSlt (ρ 2) s)))), some (.int (zI ↑s)), some (.int ((zI ↑s) + zI 1)), none]) rfl ?_
              have en : (twO ζ (ρ 2) (s + 1)) = (↑s, mLast ζ (mSlt (ρ 2) s)) := by simp only [twO]; rw [if_pos (by omega)]
              refine v_run 0 (pc' := 28) (ls' := [some (.ref (ad 200)), some (.int (zI ↑(twO ζ (ρ 2) (s + 1)).2)), some (.int (zI (twO ζ (ρ 2) (s + 1)).1)), some (.int (zI ↑(s + 1))), none]) (st' := []) (by rw [en, ← zI_s1]; rfl) ?_
              exact ih (s + 1) _ _ ⟨by omega, q10⟩ (by omega)
            · simp (disch := omega) only [zI_lt, zI_le, zI_eq, zI_lt0, zI_le0, zI_0lt, zI_0le, zI_eq0] at c88
              refine v_run 3 (pc' := 28) (ls' := [some (.ref (ad 200)), some (.int (zI ↑(twO ζ (ρ 2) s).2)), some (.int (zI (twO ζ (ρ 2) s).1)), some (.int ((zI ↑s) + zI 1)), some (.int (zI ↑(mLast ζ (mSlt (ρ 2) s))))]) (st' := []) rfl ?_
              refine v_drop 4 (ls' := [some (.ref (ad 200)), some (.int (zI ↑(twO ζ (ρ 2) s).2)), some (.int (zI (twO ζ (ρ 2) s).1)), some (.int ((zI ↑s) + zI 1)), none]) rfl ?_
              rw [zI_s1, show (twO ζ (ρ 2) s) = (twO ζ (ρ 2) (s + 1)) from by simp only [twO]; rw [if_neg (by omega)]]
              exact ih (s + 1) _ _ ⟨by omega, q10⟩ (by omega)
          · simp (disch := omega) only [zI_lt, zI_le, zI_eq, zI_lt0, zI_le0, zI_0lt, zI_0le, zI_eq0] at c59
            refine v_run 3 (pc' := 28) (ls' := [some (.ref (ad 200)), some (.int (zI ↑(twO ζ (ρ 2) s).2)), some (.int (zI (twO ζ (ρ 2) s).1)), some (.int ((zI ↑s) + zI 1)), none]) (st' := []) rfl ?_
            rw [zI_s1, show (twO ζ (ρ 2) s) = (twO ζ (ρ 2) (s + 1)) from by simp only [twO]; rw [if_neg (by omega)]]
            exact ih (s + 1) _ _ ⟨by omega, hs1.2⟩ (by omega)
  exact lp (ζ 5 0 + 1) 0 _ _ ⟨by omega, q7⟩ (by omega)

set_option maxRecDepth 100000 in
set_option maxHeartbeats 400000 in
theorem q_keyMan (G : ssG) (h : ssH) {ad : Nat → Nat} {rv : Value} {m : Nat → Int} {ζ ρ : Nat → Nat → Nat}  (hA : ∀ k l, ad k = ad l → k = l) (ht : MT h ad rv m ζ ρ) (hz : SaOk ζ) (hV : XOk (ρ 2)) (hd : ρ 2 23 ≤ 99)  : ssC G mX10_keyMan 5 0 0 [.ref (ad 200)] h (mR ζ rv m ρ ad h ↑(bKeyMan ζ (ρ 2)).2 (.int (zI (bKeyMan ζ (ρ 2)).1))) := by
  refine c_of_v okX10_keyMan (by decide +kernel) (ls := [some (.ref (ad 200)), none, none, none, none]) rfl (Nat.le_of_ble_eq_true rfl) ?_
  obtain ⟨z0, z1, z2, z3, z4, z5, z6, z9, z12, z13, z14, z15, z16, z17, z18, z19, z20⟩ := id hz
  refine v_run 2 (pc' := 2) (ls' := [some (.ref (ad 200)), none, none, none, none]) (st' := [.int (zI 0), .ref (ad 200)]) rfl ?_
  refine v_put rfl ht.1.1 rfl rfl (Nat.le_of_ble_eq_true rfl) ?_
  generalize e1 : hset h (ad 200) _ = h1
  have q1 : MQs h ad rv (mU m 0 0) ζ ρ h1 (mU m 0 0) ρ := ⟨ht.ob hA e1, mSm.rf _, rSm.rf ρ, (frM.rf ad h).ob e1⟩
  refine v_run 1 (pc' := 6) (ls' := [some (.ref (ad 200)), none, none, none, none]) (st' := [.ref (ad 200)]) rfl ?_
  refine v_get rfl q1.1.1.1 rfl ?_
  refine v_run 7 (pc' := 25) (ls' := [some (.ref (ad 200)), some (.int (zI 0)), some (.int (zI 6)), some (.int (zI 0)), none]) (st' := []) rfl ?_
  have lp : ∀ (n s : Nat) (hh : ssH) (Y : Nat → Nat), (s ≤ ζ 5 0 ∧ MQs h ad rv (mU m 0 0) ζ ρ hh (mU m 0 0) (rU ρ 3 Y)) → ζ 5 0 + 1 ≤ s + n → ssV G mX10_keyMan 5 0 0 (mR ζ rv m ρ ad h ↑(bKeyMan ζ (ρ 2)).2 (.int (zI (bKeyMan ζ (ρ 2)).1))) 25 [some (.ref (ad 200)), some (.int (zI ↑(kwO ζ (ρ 2) s).1)), some (.int (zI ↑(kwO ζ (ρ 2) s).2)), some (.int (zI ↑s)), none] [] hh := by
    intro n
    induction n with
    | zero => intro s hh Y hs1 hs2; exact absurd hs2 (by omega)
    | succ n ih =>
      intro s hh Y hs1 hs2
      have ib := kwO_le ζ (ρ 2) s
      refine v_run 2 (pc' := 27) (ls' := [some (.ref (ad 200)), some (.int (zI ↑(kwO ζ (ρ 2) s).1)), some (.int (zI ↑(kwO ζ (ρ 2) s).2)), some (.int (zI ↑s)), none]) (st' := [.ref (ad 200), .int (zI ↑s)]) rfl ?_
      refine v_get rfl hs1.2.1.1.1 rfl ?_
      refine v_run 0 (pc' := 30) (ls' := [some (.ref (ad 200)), some (.int (zI ↑(kwO ζ (ρ 2) s).1)), some (.int (zI ↑(kwO ζ (ρ 2) s).2)), some (.int (zI ↑s)), none]) (st' := [.ref (ad 210), .int (zI ↑s)]) rfl ?_
      refine v_get rfl hs1.2.1.1.2.1.1 rfl ?_
      refine v_run 0 (pc' := 33) (ls' := [some (.ref (ad 200)), some (.int (zI ↑(kwO ζ (ρ 2) s).1)), some (.int (zI ↑(kwO ζ (ρ 2) s).2)), some (.int (zI ↑s)), none]) (st' := [.int (zI ↑(ζ 5 0)), .int (zI ↑s)]) rfl ?_
      refine v_icmp_ge rfl (fun c33 => ?_) (fun c33 => ?_)
      · simp (disch := omega) only [zI_lt, zI_le, zI_eq, zI_lt0, zI_le0, zI_0lt, zI_0le, zI_eq0] at c33
        refine v_run 2 (pc' := 86) (ls' := [some (.ref (ad 200)), some (.int (zI ↑(kwO ζ (ρ 2) s).1)), some (.int (zI ↑(kwO ζ (ρ 2) s).2)), some (.int (zI ↑s)), none]) (st' := [.int (zI ↑(kwO ζ (ρ 2) s).1), .ref (ad 200)]) rfl ?_
        refine v_callV (My := mX10_well) (As := [.int (zI ↑(kwO ζ (ρ 2) s).1)]) (rest := []) (mc := 0) (ms := 0) rfl caX10_well rfl rfl rfl hs1.2.1.1.1 rfl rfl (q_well G _ ((zI ↑(kwO ζ (ρ 2) s).1)) hs1.2.1.1.1) rfl rfl (Nat.le_of_ble_eq_true rfl) (by omega) ?_
        rintro _ h99 ⟨rfl, e99⟩
        refine v_run 0 (pc' := 89) (ls' := [some (.ref (ad 200)), some (.int (zI ↑(kwO ζ (ρ 2) s).1)), some (.int (zI ↑(kwO ζ (ρ 2) s).2)), some (.int (zI ↑s)), none]) (st' := [.int ((zI ↑(kwO ζ (ρ 2) s).1))]) rfl ?_
        rw [show bKeyMan ζ (ρ 2) = (↑(kwO ζ (ρ 2) s).1, 0) from by rw [bKeyMan, show s = ζ 5 0 by omega]]
        exact v_iret rfl rfl rfl ⟨rfl, hs1.2.fin hA e99⟩
      · simp (disch := omega) only [zI_lt, zI_le, zI_eq, zI_lt0, zI_le0, zI_0lt, zI_0le, zI_eq0] at c33
        refine v_run 1 (pc' := 37) (ls' := [some (.ref (ad 200)), some (.int (zI ↑(kwO ζ (ρ 2) s).1)), some (.int (zI ↑(kwO ζ (ρ 2) s).2)), some (.int (zI ↑s)), none]) (st' := [.ref (ad 200)]) rfl ?_
        refine v_callV (My := mX10_works) (As := []) (rest := []) (mc := 0) (ms := 0) rfl caX10_works rfl rfl rfl hs1.2.1.1.1 rfl rfl (q_works G _ hA hs1.2.1.1 hz hs1.2.1.2.1 hs1.2.1.2.2.1 hV) rfl rfl (Nat.le_of_ble_eq_true rfl) (by omega) ?_
        rintro _ h11 ⟨rfl, e11⟩
        have q11 : MQs h ad rv (mU m 0 0) ζ ρ h11 (mU m 0 0) (rU ρ 3 (ρ 2)) := hs1.2.xs hA e11 (hV)
        refine v_run 0 (pc' := 40) (ls' := [some (.ref (ad 200)), some (.int (zI ↑(kwO ζ (ρ 2) s).1)), some (.int (zI ↑(kwO ζ (ρ 2) s).2)), some (.int (zI ↑s)), none]) (st' := []) rfl ?_
        refine v_run 1 (pc' := 41) (ls' := [some (.ref (ad 200)), some (.int (zI ↑(kwO ζ (ρ 2) s).1)), some (.int (zI ↑(kwO ζ (ρ 2) s).2)), some (.int (zI ↑s)), none]) (st' := [.ref (ad 200)]) rfl ?_
        refine v_get rfl q11.1.1.1 rfl ?_
        refine v_run 4 (pc' := 49) (ls' := [some (.ref (ad 200)), some (.int (zI ↑(kwO ζ (ρ 2) s).1)), some (.int (zI ↑(kwO ζ (ρ 2) s).2)), some (.int (zI ↑s)), none]) (st' := [.int (zI 0), .int ((zI 12) + (zI ↑s)), .ref (ad 203)]) rfl ?_
        refine v_iastore' rfl q11.1.1.2.2 (i := (12 + s)) (zN_add 12 s) (by omega) ?_
        rw [show (zI 0) = zI ↑(0 : Nat) from rfl, ar_upd]
        generalize e12 : hset h11 (ad 203) _ = h12
        have o12 : XOk (mLz (ρ 2) s) := xL_ok hV (by omega) (by decide)
        have q12 : MQs h ad rv (mU m 0 0) ζ ρ h12 (mU m 0 0) (rU ρ 3 (mLz (ρ 2) s)) := q11.xs hA e12 o12
        refine v_run 1 (pc' := 51) (ls' := [some (.ref (ad 200)), some (.int (zI ↑(kwO ζ (ρ 2) s).1)), some (.int (zI ↑(kwO ζ (ρ 2) s).2)), some (.int (zI ↑s)), none]) (st' := [.ref (ad 200)]) rfl ?_
        refine v_callV (My := mX10_putsAll) (As := []) (rest := []) (mc := 0) (ms := 0) rfl caX10_putsAll rfl rfl rfl q12.1.1.1 rfl rfl (q_putsAll G _ hA q12.1.1 hz q12.1.2.1 (by show mLz (ρ 2) s 23 ≤ 900; rw [mLz_23 (by omega)]; omega)) rfl rfl (Nat.le_of_ble_eq_true rfl) (by omega) ?_
        rintro _ h13 ⟨rfl, e13⟩
        have q13 : MQs h ad rv (mU m 0 0) ζ ρ h13 (mU m 0 0) (rU ρ 3 (mPut ζ (mLz (ρ 2) s))) := q12.xs hA e13 (mDs_ok hz o12 _)
        refine v_run 0 (pc' := 54) (ls' := [some (.ref (ad 200)), some (.int (zI ↑(kwO ζ (ρ 2) s).1)), some (.int (zI ↑(kwO ζ (ρ 2) s).2)), some (.int (zI ↑s)), none]) (st' := []) rfl ?_
        refine v_run 2 (pc' := 56) (ls' := [some (.ref (ad 200)), some (.int (zI ↑(kwO ζ (ρ 2) s).1)), some (.int (zI ↑(kwO ζ (ρ 2) s).2)), some (.int (zI ↑s)), none]) (st' := [.int (zI 0), .ref (ad 200)]) rfl ?_
        refine v_callV (My := mX10_goingBut) (As := [.int (zI 0)]) (rest := []) (mc := 0) (ms := 0) rfl caX10_goingBut rfl rfl rfl q13.1.1.1 rfl rfl (q_goingBut G _ 0 hA q13.1.1 hz q13.1.2.1 (by omega)) rfl rfl (Nat.le_of_ble_eq_true rfl) (by omega) ?_
        rintro _ _ ⟨rfl, rfl⟩
        refine v_run 0 (pc' := 59) (ls' := [some (.ref (ad 200)), some (.int (zI ↑(kwO ζ (ρ 2) s).1)), some (.int (zI ↑(kwO ζ (ρ 2) s).2)), some (.int (zI ↑s)), none]) (st' := [.int (zI ↑(mGo ζ (mPut ζ (mLz (ρ 2) s)) 0))]) rfl ?_
        have g32 : mGo ζ (mPut ζ (mLz (ρ 2) s)) 0 < 32 := cGfp_lt z6
        have gp := popN_le (mGo ζ (mPut ζ (mLz (ρ 2) s)) 0)
        refine v_callS (My := mX10_bits) (As := [.int (zI ↑(mGo ζ (mPut ζ (mLz (ρ 2) s)) 0))]) (rest := []) (mc := 0) (ms := 0) rfl caX10_bits rfl rfl (q_bits G _ (mGo ζ (mPut ζ (mLz (ρ 2) s)) 0) (by omega)) rfl rfl (Nat.le_of_ble_eq_true rfl) (by omega) ?_
        rintro _ _ ⟨rfl, rfl⟩
        refine v_run 0 (pc' := 62) (ls' := [some (.ref (ad 200)), some (.int (zI ↑(kwO ζ (ρ 2) s).1)), some (.int (zI ↑(kwO ζ (ρ 2) s).2)), some (.int (zI ↑s)), none]) (st' := [.int (zI ↑(popN (mGo ζ (mPut ζ (mLz (ρ 2) s)) 0)))]) rfl ?_
        refine v_run 3 (pc' := 67) (ls' := [some (.ref (ad 200)), some (.int (zI ↑(kwO ζ (ρ 2) s).1)), some (.int (zI ↑(kwO ζ (ρ 2) s).2)), some (.int (zI ↑s)), some (.int (zI ↑(popN (mGo ζ (mPut ζ (mLz (ρ 2) s)) 0))))]) (st' := [.int (zI ↑(kwO ζ (ρ 2) s).2), .int (zI ↑(popN (mGo ζ (mPut ζ (mLz (ρ 2) s)) 0)))]) rfl ?_
        refine v_icmp_lt rfl (fun c67 => ?_) (fun c67 => ?_)
        · simp (disch := omega) only [zI_lt, zI_le, zI_eq, zI_lt0, zI_le0, zI_0lt, zI_0le, zI_eq0] at c67
          refine v_run 6 (pc' := 25) (ls' := [some (.ref (ad 200)), some (.int (zI ↑s)), some (.int (zI ↑(popN (mGo ζ (mPut ζ (mLz (ρ 2) s)) 0)))), some (.int ((zI ↑s) + zI 1)), some (.int (zI ↑(popN (mGo ζ (mPut ζ (mLz (ρ 2) s)) 0))))]) (st' := []) rfl ?_
          refine v_drop 4 (ls' := [some (.ref (ad 200)), some (.int (zI ↑s)), some (.int (zI ↑(popN (mGo ζ (mPut ζ (mLz (ρ 2) s)) 0)))), some (.int ((zI ↑s) + zI 1)), none]) rfl ?_
          have en : (kwO ζ (ρ 2) (s + 1)) = (s, popN (mGo ζ (mPut ζ (mLz (ρ 2) s)) 0)) := by simp only [kwO]; rw [if_pos (by omega)]
          refine v_run 0 (pc' := 25) (ls' := [some (.ref (ad 200)), some (.int (zI ↑(kwO ζ (ρ 2) (s + 1)).1)), some (.int (zI ↑(kwO ζ (ρ 2) (s + 1)).2)), some (.int (zI ↑(s + 1))), none]) (st' := []) (by rw [en, ← zI_s1]; rfl) ?_
          exact ih (s + 1) _ _ ⟨by omega, q13⟩ (by omega)
        · simp (disch := omega) only [zI_lt, zI_le, zI_eq, zI_lt0, zI_le0, zI_0lt, zI_0le, zI_eq0] at c67
          refine v_run 3 (pc' := 25) (ls' := [some (.ref (ad 200)), some (.int (zI ↑(kwO ζ (ρ 2) s).1)), some (.int (zI ↑(kwO ζ (ρ 2) s).2)), some (.int ((zI ↑s) + zI 1)), some (.int (zI ↑(popN (mGo ζ (mPut ζ (mLz (ρ 2) s)) 0))))]) (st' := []) rfl ?_
          refine v_drop 4 (ls' := [some (.ref (ad 200)), some (.int (zI ↑(kwO ζ (ρ 2) s).1)), some (.int (zI ↑(kwO ζ (ρ 2) s).2)), some (.int ((zI ↑s) + zI 1)), none]) rfl ?_
          rw [zI_s1, show (kwO ζ (ρ 2) s) = (kwO ζ (ρ 2) (s + 1)) from by simp only [kwO]; rw [if_neg (by omega)]]
          exact ih (s + 1) _ _ ⟨by omega, q13⟩ (by omega)
  exact lp (ζ 5 0 + 1) 0 _ (ρ 3) ⟨by omega, by rw [rU_id]; exact q1⟩ (by omega)

set_option maxRecDepth 100000 in
set_option maxHeartbeats 400000 in
theorem q_strike (G : ssG) (h : ssH) {ad : Nat → Nat} {rv : Value} {m : Nat → Int} {ζ ρ : Nat → Nat → Nat} (s : Int) (hA : ∀ k l, ad k = ad l → k = l) (ht : MT h ad rv m ζ ρ) (hz : SaOk ζ) (hV : XOk (ρ 2)) (hd : ρ 2 23 ≤ 99) (hs : -2147483648 ≤ s ∧ s < 2147483648) : ssC G mX10_strike 5 0 0 [.ref (ad 200), .int (zI s)] h (mR ζ rv m ρ ad h ↑(bStrike ζ (ρ 2) s).2 (.int (zI (bStrike ζ (ρ 2) s).1))) := by
  refine c_of_v okX10_strike (by decide +kernel) (ls := [some (.ref (ad 200)), some (.int (zI s)), none, none]) rfl (Nat.le_of_ble_eq_true rfl) ?_
  obtain ⟨z0, z1, z2, z3, z4, z5, z6, z9, z12, z13, z14, z15, z16, z17, z18, z19, z20⟩ := id hz
  refine v_run 2 (pc' := 2) (ls' := [some (.ref (ad 200)), some (.int (zI s)), none, none]) (st' := [.int (zI 0), .ref (ad 200)]) rfl ?_
  refine v_put rfl ht.1.1 rfl rfl (Nat.le_of_ble_eq_true rfl) ?_
  generalize e1 : hset h (ad 200) _ = h1
  have q1 : MQs h ad rv (mU m 0 0) ζ ρ h1 (mU m 0 0) ρ := ⟨ht.ob hA e1, mSm.rf _, rSm.rf ρ, (frM.rf ad h).ob e1⟩
  refine v_run 2 (pc' := 7) (ls' := [some (.ref (ad 200)), some (.int (zI s)), none, none]) (st' := [.int (zI s), .ref (ad 200)]) rfl ?_
  refine v_callV (My := mX10_isAct) (As := [.int (zI s)]) (rest := []) (mc := 0) (ms := 0) rfl caX10_isAct rfl rfl rfl q1.1.1.1 rfl rfl (q_isAct G _ s hA q1.1.1 hz q1.1.2.1 hs) rfl rfl (Nat.le_of_ble_eq_true rfl) (by omega) ?_
  rintro _ _ ⟨rfl, rfl⟩
  refine v_run 0 (pc' := 10) (ls' := [some (.ref (ad 200)), some (.int (zI s)), none, none]) (st' := [.int (zb (decide (0 ≤ s ∧ s < ↑(ζ 6 0))))]) rfl ?_
  refine v_if_ne rfl (fun c10 => ?_) (fun c10 => ?_)
  · rw [zb_0, Bool.not_eq_false, decide_eq_true_eq] at c10
    have hs9 := c10
    obtain ⟨k, rfl⟩ : ∃ z : Nat, s = ↑z := ⟨s.toNat, by omega⟩
    refine v_run 1 (pc' := 20) (ls' := [some (.ref (ad 200)), some (.int (zI ↑k)), none, none]) (st' := [.ref (ad 200)]) rfl ?_
    refine v_callV (My := mX10_works) (As := []) (rest := []) (mc := 0) (ms := 0) rfl caX10_works rfl rfl rfl q1.1.1.1 rfl rfl (q_works G _ hA q1.1.1 hz q1.1.2.1 q1.1.2.2.1 hV) rfl rfl (Nat.le_of_ble_eq_true rfl) (by omega) ?_
    rintro _ h14 ⟨rfl, e14⟩
    have q14 : MQs h ad rv (mU m 0 0) ζ ρ h14 (mU m 0 0) (rU ρ 3 (ρ 2)) := q1.xs hA e14 (hV)
    refine v_run 0 (pc' := 23) (ls' := [some (.ref (ad 200)), some (.int (zI ↑k)), none, none]) (st' := []) rfl ?_
    refine v_run 1 (pc' := 24) (ls' := [some (.ref (ad 200)), some (.int (zI ↑k)), none, none]) (st' := [.ref (ad 200)]) rfl ?_
    refine v_callV (My := mX10_putsAll) (As := []) (rest := []) (mc := 0) (ms := 0) rfl caX10_putsAll rfl rfl rfl q14.1.1.1 rfl rfl (q_putsAll G _ hA q14.1.1 hz q14.1.2.1 (by show ρ 2 23 ≤ 900; omega)) rfl rfl (Nat.le_of_ble_eq_true rfl) (by omega) ?_
    rintro _ h15 ⟨rfl, e15⟩
    have q15 : MQs h ad rv (mU m 0 0) ζ ρ h15 (mU m 0 0) (rU ρ 3 (mPut ζ (ρ 2))) := q14.xs hA e15 (mDs_ok hz hV _)
    refine v_run 0 (pc' := 27) (ls' := [some (.ref (ad 200)), some (.int (zI ↑k)), none, none]) (st' := []) rfl ?_
    refine v_run 4 (pc' := 32) (ls' := [some (.ref (ad 200)), some (.int (zI ↑k)), some (.int (zI (-2))), some (.int (zI 0))]) (st' := []) rfl ?_
    obtain ⟨pw, hpw⟩ : ∃ pw, pw = 2 ^ ζ 6 0 := ⟨_, rfl⟩
    have p6 : pw ≤ 32 := hpw ▸ Nat.pow_le_pow_right (n := 2) (by decide) z6
    have lp : ∀ (n s : Nat), s ≤ pw → pw + 1 ≤ s + n → ssV G mX10_strike 5 0 0 (mR ζ rv m ρ ad h ↑(bStrike ζ (ρ 2) ↑k).2 (.int (zI (bStrike ζ (ρ 2) ↑k).1))) 32 [some (.ref (ad 200)), some (.int (zI ↑k)), some (.int (zI (swO ζ (mPut ζ (ρ 2)) k s))), some (.int (zI ↑s))] [] h15 := by
      intro n
      induction n with
      | zero => intro s hs1 hs2; exact absurd hs2 (by omega)
      | succ n ih =>
        intro s hs1 hs2
        have ib := swO_bd ζ (mPut ζ (ρ 2)) k s
        refine v_run 3 (pc' := 35) (ls' := [some (.ref (ad 200)), some (.int (zI ↑k)), some (.int (zI (swO ζ (mPut ζ (ρ 2)) k s))), some (.int (zI ↑s))]) (st' := [.ref (ad 200), .int (zI 1), .int (zI ↑s)]) rfl ?_
        refine v_get rfl q15.1.1.1 rfl ?_
        refine v_run 0 (pc' := 38) (ls' := [some (.ref (ad 200)), some (.int (zI ↑k)), some (.int (zI (swO ζ (mPut ζ (ρ 2)) k s))), some (.int (zI ↑s))]) (st' := [.ref (ad 210), .int (zI 1), .int (zI ↑s)]) rfl ?_
        refine v_get rfl q15.1.1.2.1.1 rfl ?_
        refine v_run 1 (pc' := 42) (ls' := [some (.ref (ad 200)), some (.int (zI ↑k)), some (.int (zI (swO ζ (mPut ζ (ρ 2)) k s))), some (.int (zI ↑s))]) (st' := [.int ((zI 1) <<< ((zI ↑(ζ 6 0)) &&& 31)), .int (zI ↑s)]) rfl ?_
        rw [show ((zI 1) <<< ((zI ↑(ζ 6 0)) &&& 31) : Int32) = zI ↑pw from by rw [hpw]; exact zI_1shl (by omega)]
        refine v_icmp_ge rfl (fun c42 => ?_) (fun c42 => ?_)
        · simp (disch := omega) only [zI_lt, zI_le, zI_eq, zI_lt0, zI_le0, zI_0lt, zI_0le, zI_eq0] at c42
          refine v_run 2 (pc' := 95) (ls' := [some (.ref (ad 200)), some (.int (zI ↑k)), some (.int (zI (swO ζ (mPut ζ (ρ 2)) k s))), some (.int (zI ↑s))]) (st' := [.int (zI (swO ζ (mPut ζ (ρ 2)) k s)), .ref (ad 200)]) rfl ?_
          refine v_callV (My := mX10_well) (As := [.int (zI (swO ζ (mPut ζ (ρ 2)) k s))]) (rest := []) (mc := 0) (ms := 0) rfl caX10_well rfl rfl rfl q15.1.1.1 rfl rfl (q_well G _ ((zI (swO ζ (mPut ζ (ρ 2)) k s))) q15.1.1.1) rfl rfl (Nat.le_of_ble_eq_true rfl) (by omega) ?_
          rintro _ h99 ⟨rfl, e99⟩
          refine v_run 0 (pc' := 98) (ls' := [some (.ref (ad 200)), some (.int (zI ↑k)), some (.int (zI (swO ζ (mPut ζ (ρ 2)) k s))), some (.int (zI ↑s))]) (st' := [.int ((zI (swO ζ (mPut ζ (ρ 2)) k s)))]) rfl ?_
          rw [show bStrike ζ (ρ 2) ↑k = ((swO ζ (mPut ζ (ρ 2)) k s), 0) from by rw [bStrike, if_neg (by simpa using hs9), ← hpw, ← show s = pw by omega]; rfl]
          exact v_iret rfl rfl rfl ⟨rfl, q15.fin hA e99⟩
        · simp (disch := omega) only [zI_lt, zI_le, zI_eq, zI_lt0, zI_le0, zI_0lt, zI_0le, zI_eq0] at c42
          have pb := popN_le s
          refine v_run 2 (pc' := 47) (ls' := [some (.ref (ad 200)), some (.int (zI ↑k)), some (.int (zI (swO ζ (mPut ζ (ρ 2)) k s))), some (.int (zI ↑s))]) (st' := [.int (zI ↑k), .int (zI ↑s)]) rfl ?_
          refine v_callS (My := mX10_bit) (As := [.int (zI ↑s), .int (zI ↑k)]) (rest := []) (mc := 0) (ms := 0) rfl caX10_bit rfl rfl (q_bit G _ s k (by omega) (by omega)) rfl rfl (Nat.le_of_ble_eq_true rfl) (by omega) ?_
          rintro _ _ ⟨rfl, rfl⟩
          refine v_run 0 (pc' := 50) (ls' := [some (.ref (ad 200)), some (.int (zI ↑k)), some (.int (zI (swO ζ (mPut ζ (ρ 2)) k s))), some (.int (zI ↑s))]) (st' := [.int (zb (bitN s k))]) rfl ?_
          refine v_if_ne rfl (fun c50 => ?_) (fun c50 => ?_)
          · rw [zb_0, Bool.not_eq_false] at c50
            refine v_run 2 (pc' := 32) (ls' := [some (.ref (ad 200)), some (.int (zI ↑k)), some (.int (zI (swO ζ (mPut ζ (ρ 2)) k s))), some (.int ((zI ↑s) + zI 1))]) (st' := []) rfl ?_
            rw [zI_s1, show (swO ζ (mPut ζ (ρ 2)) k s) = (swO ζ (mPut ζ (ρ 2)) k (s + 1)) from by simp only [swO]; rw [if_neg (by rw [c50]; simp)]]
            exact ih (s + 1) (by omega) (by omega)
          · rw [zb_0] at c50
            refine v_run 2 (pc' := 56) (ls' := [some (.ref (ad 200)), some (.int (zI ↑k)), some (.int (zI (swO ζ (mPut ζ (ρ 2)) k s))), some (.int (zI ↑s))]) (st' := [.int (zI (-2)), .int (zI (swO ζ (mPut ζ (ρ 2)) k s))]) rfl ?_
            refine v_icmp_eq rfl (fun c56 => ?_) (fun c56 => ?_)
            · simp (disch := omega) only [zI_lt, zI_le, zI_eq, zI_lt0, zI_le0, zI_0lt, zI_0le, zI_eq0] at c56
              refine v_run 2 (pc' := 75) (ls' := [some (.ref (ad 200)), some (.int (zI ↑k)), some (.int (zI (swO ζ (mPut ζ (ρ 2)) k s))), some (.int (zI ↑s))]) (st' := [.int (zI ↑s), .ref (ad 200)]) rfl ?_
              refine v_callV (My := mX10_goingBut) (As := [.int (zI ↑s)]) (rest := []) (mc := 0) (ms := 0) rfl caX10_goingBut rfl rfl rfl q15.1.1.1 rfl rfl (q_goingBut G _ s hA q15.1.1 hz q15.1.2.1 (by omega)) rfl rfl (Nat.le_of_ble_eq_true rfl) (by omega) ?_
              rintro _ _ ⟨rfl, rfl⟩
              refine v_run 0 (pc' := 78) (ls' := [some (.ref (ad 200)), some (.int (zI ↑k)), some (.int (zI (swO ζ (mPut ζ (ρ 2)) k s))), some (.int (zI ↑s))]) (st' := [.int (zI ↑(mGo ζ (mPut ζ (ρ 2)) s))]) rfl ?_
              have g32 : mGo ζ (mPut ζ (ρ 2)) s < 32 := cGfp_lt z6
              refine v_run 1 (pc' := 79) (ls' := [some (.ref (ad 200)), some (.int (zI ↑k)), some (.int (zI (swO ζ (mPut ζ (ρ 2)) k s))), some (.int (zI ↑s))]) (st' := [.int (zI ↑k), .int (zI ↑(mGo ζ (mPut ζ (ρ 2)) s))]) rfl ?_
              refine v_callS (My := mX10_bit) (As := [.int (zI ↑(mGo ζ (mPut ζ (ρ 2)) s)), .int (zI ↑k)]) (rest := []) (mc := 0) (ms := 0) rfl caX10_bit rfl rfl (q_bit G _ (mGo ζ (mPut ζ (ρ 2)) s) k (by omega) (by omega)) rfl rfl (Nat.le_of_ble_eq_true rfl) (by omega) ?_
              rintro _ _ ⟨rfl, rfl⟩
              refine v_run 0 (pc' := 82) (ls' := [some (.ref (ad 200)), some (.int (zI ↑k)), some (.int (zI (swO ζ (mPut ζ (ρ 2)) k s))), some (.int (zI ↑s))]) (st' := [.int (zb (bitN (mGo ζ (mPut ζ (ρ 2)) s) k))]) rfl ?_
              refine v_if_eq rfl (fun c82 => ?_) (fun c82 => ?_)
              · rw [zb_0] at c82
                refine v_run 2 (pc' := 32) (ls' := [some (.ref (ad 200)), some (.int (zI ↑k)), some (.int (zI (swO ζ (mPut ζ (ρ 2)) k s))), some (.int ((zI ↑s) + zI 1))]) (st' := []) rfl ?_
                rw [zI_s1, show (swO ζ (mPut ζ (ρ 2)) k s) = (swO ζ (mPut ζ (ρ 2)) k (s + 1)) from by simp only [swO]; rw [if_neg (by rw [c82]; simp)]]
                exact ih (s + 1) (by omega) (by omega)
              · rw [zb_0, Bool.not_eq_false] at c82
                refine v_run 4 (pc' := 32) (ls' := [some (.ref (ad 200)), some (.int (zI ↑k)), some (.int (zI ↑s)), some (.int ((zI ↑s) + zI 1))]) (st' := []) rfl ?_
                have en : (swO ζ (mPut ζ (ρ 2)) k (s + 1)) = ↑s := by simp only [swO]; rw [if_pos ⟨c50, Or.inl (by omega), c82⟩]
                refine v_run 0 (pc' := 32) (ls' := [some (.ref (ad 200)), some (.int (zI ↑k)), some (.int (zI (swO ζ (mPut ζ (ρ 2)) k (s + 1)))), some (.int (zI ↑(s + 1)))]) (st' := []) (by rw [en, ← zI_s1]; rfl) ?_
                exact ih (s + 1) (by omega) (by omega)
            · simp (disch := omega) only [zI_lt, zI_le, zI_eq, zI_lt0, zI_le0, zI_0lt, zI_0le, zI_eq0] at c56
              obtain ⟨j, hj⟩ : ∃ j : Nat, (swO ζ (mPut ζ (ρ 2)) k s) = ↑j := ⟨((swO ζ (mPut ζ (ρ 2)) k s)).toNat, by omega⟩
              have pj := popN_le j
              refine v_run 1 (pc' := 60) (ls' := [some (.ref (ad 200)), some (.int (zI ↑k)), some (.int (zI (swO ζ (mPut ζ (ρ 2)) k s))), some (.int (zI ↑s))]) (st' := [.int (zI ↑s)]) rfl ?_
              refine v_callS (My := mX10_bits) (As := [.int (zI ↑s)]) (rest := []) (mc := 0) (ms := 0) rfl caX10_bits rfl rfl (q_bits G _ s (by omega)) rfl rfl (Nat.le_of_ble_eq_true rfl) (by omega) ?_
              rintro _ _ ⟨rfl, rfl⟩
              refine v_run 0 (pc' := 63) (ls' := [some (.ref (ad 200)), some (.int (zI ↑k)), some (.int (zI (swO ζ (mPut ζ (ρ 2)) k s))), some (.int (zI ↑s))]) (st' := [.int (zI ↑(popN s))]) rfl ?_
              refine v_run 1 (pc' := 64) (ls' := [some (.ref (ad 200)), some (.int (zI ↑k)), some (.int (zI (swO ζ (mPut ζ (ρ 2)) k s))), some (.int (zI ↑s))]) (st' := [.int (zI (swO ζ (mPut ζ (ρ 2)) k s)), .int (zI ↑(popN s))]) rfl ?_
              rw [show (zI (swO ζ (mPut ζ (ρ 2)) k s) : Int32) = zI ↑j from by rw [hj]]
              refine v_callS (My := mX10_bits) (As := [.int (zI ↑j)]) (rest := [.int (zI ↑(popN s))]) (mc := 0) (ms := 0) rfl caX10_bits rfl rfl (q_bits G _ j (by omega)) rfl rfl (Nat.le_of_ble_eq_true rfl) (by omega) ?_
              rintro _ _ ⟨rfl, rfl⟩
              refine v_run 0 (pc' := 67) (ls' := [some (.ref (ad 200)), some (.int (zI ↑k)), some (.int (zI ↑j)), some (.int (zI ↑s))]) (st' := [.int (zI ↑(popN j)), .int (zI ↑(popN s))]) rfl ?_
              refine v_icmp_lt rfl (fun c67 => ?_) (fun c67 => ?_)
              · simp (disch := omega) only [zI_lt, zI_le, zI_eq, zI_lt0, zI_le0, zI_0lt, zI_0le, zI_eq0] at c67
                rw [← hj]
                refine v_run 2 (pc' := 75) (ls' := [some (.ref (ad 200)), some (.int (zI ↑k)), some (.int (zI (swO ζ (mPut ζ (ρ 2)) k s))), some (.int (zI ↑s))]) (st' := [.int (zI ↑s), .ref (ad 200)]) rfl ?_
                refine v_callV (My := mX10_goingBut) (As := [.int (zI ↑s)]) (rest := []) (mc := 0) (ms := 0) rfl caX10_goingBut rfl rfl rfl q15.1.1.1 rfl rfl (q_goingBut G _ s hA q15.1.1 hz q15.1.2.1 (by omega)) rfl rfl (Nat.le_of_ble_eq_true rfl) (by omega) ?_
                rintro _ _ ⟨rfl, rfl⟩
                refine v_run 0 (pc' := 78) (ls' := [some (.ref (ad 200)), some (.int (zI ↑k)), some (.int (zI (swO ζ (mPut ζ (ρ 2)) k s))), some (.int (zI ↑s))]) (st' := [.int (zI ↑(mGo ζ (mPut ζ (ρ 2)) s))]) rfl ?_
                have g32 : mGo ζ (mPut ζ (ρ 2)) s < 32 := cGfp_lt z6
                refine v_run 1 (pc' := 79) (ls' := [some (.ref (ad 200)), some (.int (zI ↑k)), some (.int (zI (swO ζ (mPut ζ (ρ 2)) k s))), some (.int (zI ↑s))]) (st' := [.int (zI ↑k), .int (zI ↑(mGo ζ (mPut ζ (ρ 2)) s))]) rfl ?_
                refine v_callS (My := mX10_bit) (As := [.int (zI ↑(mGo ζ (mPut ζ (ρ 2)) s)), .int (zI ↑k)]) (rest := []) (mc := 0) (ms := 0) rfl caX10_bit rfl rfl (q_bit G _ (mGo ζ (mPut ζ (ρ 2)) s) k (by omega) (by omega)) rfl rfl (Nat.le_of_ble_eq_true rfl) (by omega) ?_
                rintro _ _ ⟨rfl, rfl⟩
                refine v_run 0 (pc' := 82) (ls' := [some (.ref (ad 200)), some (.int (zI ↑k)), some (.int (zI (swO ζ (mPut ζ (ρ 2)) k s))), some (.int (zI ↑s))]) (st' := [.int (zb (bitN (mGo ζ (mPut ζ (ρ 2)) s) k))]) rfl ?_
                refine v_if_eq rfl (fun c82 => ?_) (fun c82 => ?_)
                · rw [zb_0] at c82
                  refine v_run 2 (pc' := 32) (ls' := [some (.ref (ad 200)), some (.int (zI ↑k)), some (.int (zI (swO ζ (mPut ζ (ρ 2)) k s))), some (.int ((zI ↑s) + zI 1))]) (st' := []) rfl ?_
                  rw [zI_s1, show (swO ζ (mPut ζ (ρ 2)) k s) = (swO ζ (mPut ζ (ρ 2)) k (s + 1)) from by simp only [swO]; rw [if_neg (by rw [c82]; simp)]]
                  exact ih (s + 1) (by omega) (by omega)
                · rw [zb_0, Bool.not_eq_false] at c82
                  refine v_run 4 (pc' := 32) (ls' := [some (.ref (ad 200)), some (.int (zI ↑k)), some (.int (zI ↑s)), some (.int ((zI ↑s) + zI 1))]) (st' := []) rfl ?_
                  have en : (swO ζ (mPut ζ (ρ 2)) k (s + 1)) = ↑s := by simp only [swO]; rw [if_pos ⟨c50, Or.inr (by rw [hj, Int.toNat_natCast]; omega), c82⟩]
                  refine v_run 0 (pc' := 32) (ls' := [some (.ref (ad 200)), some (.int (zI ↑k)), some (.int (zI (swO ζ (mPut ζ (ρ 2)) k (s + 1)))), some (.int (zI ↑(s + 1)))]) (st' := []) (by rw [en, ← zI_s1]; rfl) ?_
                  exact ih (s + 1) (by omega) (by omega)
              · simp (disch := omega) only [zI_lt, zI_le, zI_eq, zI_lt0, zI_le0, zI_0lt, zI_0le, zI_eq0] at c67
                rw [← hj]
                refine v_run 3 (pc' := 32) (ls' := [some (.ref (ad 200)), some (.int (zI ↑k)), some (.int (zI (swO ζ (mPut ζ (ρ 2)) k s))), some (.int ((zI ↑s) + zI 1))]) (st' := []) rfl ?_
                rw [zI_s1, show (swO ζ (mPut ζ (ρ 2)) k s) = (swO ζ (mPut ζ (ρ 2)) k (s + 1)) from by simp only [swO]; rw [if_neg (by rw [hj, Int.toNat_natCast]; omega)]]
                exact ih (s + 1) (by omega) (by omega)
    exact lp (pw + 1) 0 (by omega) (by omega)
  · rw [zb_0, decide_eq_false_iff_not] at c10
    refine v_run 2 (pc' := 15) (ls' := [some (.ref (ad 200)), some (.int (zI s)), none, none]) (st' := [.int (zI 1), .ref (ad 200)]) rfl ?_
    refine v_callV (My := mX10_refused) (As := [.int (zI 1)]) (rest := []) (mc := 0) (ms := 0) rfl caX10_refused rfl rfl rfl q1.1.1.1 rfl rfl (q_refused G _ 1 q1.1.1.1) rfl rfl (Nat.le_of_ble_eq_true rfl) (by omega) ?_
    rintro _ h99 ⟨rfl, e99⟩
    refine v_run 0 (pc' := 18) (ls' := [some (.ref (ad 200)), some (.int (zI s)), none, none]) (st' := [.int (zI (-1))]) rfl ?_
    rw [show bStrike ζ (ρ 2) s = (-1, 1) from if_pos c10]
    exact v_iret rfl rfl rfl ⟨rfl, q1.fin hA e99⟩

set_option maxRecDepth 100000 in
set_option maxHeartbeats 400000 in
theorem q_keystone (G : ssG) (h : ssH) {ad : Nat → Nat} {rv : Value} {m : Nat → Int} {ζ ρ : Nat → Nat → Nat}  (hA : ∀ k l, ad k = ad l → k = l) (ht : MT h ad rv m ζ ρ) (hz : SaOk ζ) (hV : XOk (ρ 2)) (hd : ρ 2 23 ≤ 99)  : ssC G mX10_keystone 2 0 0 [.ref (ad 200)] h (mR ζ rv m ρ ad h ↑(bKeystone ζ).2 (.int (zI (bKeystone ζ).1))) := by
  refine c_of_v okX10_keystone (by decide +kernel) (ls := [some (.ref (ad 200)), none, none]) rfl (Nat.le_of_ble_eq_true rfl) ?_
  obtain ⟨z0, z1, z2, z3, z4, z5, z6, z9, z12, z13, z14, z15, z16, z17, z18, z19, z20⟩ := id hz
  refine v_run 2 (pc' := 2) (ls' := [some (.ref (ad 200)), none, none]) (st' := [.int (zI 0), .ref (ad 200)]) rfl ?_
  refine v_put rfl ht.1.1 rfl rfl (Nat.le_of_ble_eq_true rfl) ?_
  generalize e1 : hset h (ad 200) _ = h1
  have q1 : MQs h ad rv (mU m 0 0) ζ ρ h1 (mU m 0 0) ρ := ⟨ht.ob hA e1, mSm.rf _, rSm.rf ρ, (frM.rf ad h).ob e1⟩
  refine v_run 1 (pc' := 6) (ls' := [some (.ref (ad 200)), none, none]) (st' := [.ref (ad 200)]) rfl ?_
  refine v_get rfl q1.1.1.1 rfl ?_
  refine v_run 5 (pc' := 23) (ls' := [some (.ref (ad 200)), some (.int (zI (-2))), some (.int (zI 0))]) (st' := []) rfl ?_
  have lp : ∀ (n s : Nat), s ≤ ζ 6 0 → ζ 6 0 + 1 ≤ s + n → ssV G mX10_keystone 2 0 0 (mR ζ rv m ρ ad h ↑(bKeystone ζ).2 (.int (zI (bKeystone ζ).1))) 23 [some (.ref (ad 200)), some (.int (zI (ksO ζ s))), some (.int (zI ↑s))] [] h1 := by
    intro n
    induction n with
    | zero => intro s hs1 hs2; exact absurd hs2 (by omega)
    | succ n ih =>
      intro s hs1 hs2
      have ib := ksO_bd ζ s
      refine v_run 2 (pc' := 25) (ls' := [some (.ref (ad 200)), some (.int (zI (ksO ζ s))), some (.int (zI ↑s))]) (st' := [.ref (ad 200), .int (zI ↑s)]) rfl ?_
      refine v_get rfl q1.1.1.1 rfl ?_
      refine v_run 0 (pc' := 28) (ls' := [some (.ref (ad 200)), some (.int (zI (ksO ζ s))), some (.int (zI ↑s))]) (st' := [.ref (ad 210), .int (zI ↑s)]) rfl ?_
      refine v_get rfl q1.1.1.2.1.1 rfl ?_
      refine v_run 0 (pc' := 31) (ls' := [some (.ref (ad 200)), some (.int (zI (ksO ζ s))), some (.int (zI ↑s))]) (st' := [.int (zI ↑(ζ 6 0)), .int (zI ↑s)]) rfl ?_
      refine v_icmp_ge rfl (fun c31 => ?_) (fun c31 => ?_)
      · simp (disch := omega) only [zI_lt, zI_le, zI_eq, zI_lt0, zI_le0, zI_0lt, zI_0le, zI_eq0] at c31
        refine v_run 2 (pc' := 73) (ls' := [some (.ref (ad 200)), some (.int (zI (ksO ζ s))), some (.int (zI ↑s))]) (st' := [.int (zI (ksO ζ s)), .ref (ad 200)]) rfl ?_
        refine v_callV (My := mX10_well) (As := [.int (zI (ksO ζ s))]) (rest := []) (mc := 0) (ms := 0) rfl caX10_well rfl rfl rfl q1.1.1.1 rfl rfl (q_well G _ ((zI (ksO ζ s))) q1.1.1.1) rfl rfl (Nat.le_of_ble_eq_true rfl) (by omega) ?_
        rintro _ h99 ⟨rfl, e99⟩
        refine v_run 0 (pc' := 76) (ls' := [some (.ref (ad 200)), some (.int (zI (ksO ζ s))), some (.int (zI ↑s))]) (st' := [.int ((zI (ksO ζ s)))]) rfl ?_
        rw [show bKeystone ζ = ((ksO ζ s), 0) from by rw [bKeystone, show s = ζ 6 0 by omega]]
        exact v_iret rfl rfl rfl ⟨rfl, q1.fin hA e99⟩
      · simp (disch := omega) only [zI_lt, zI_le, zI_eq, zI_lt0, zI_le0, zI_0lt, zI_0le, zI_eq0] at c31
        refine v_run 2 (pc' := 37) (ls' := [some (.ref (ad 200)), some (.int (zI (ksO ζ s))), some (.int (zI ↑s))]) (st' := [.int (zI (-2)), .int (zI (ksO ζ s))]) rfl ?_
        refine v_icmp_eq rfl (fun c37 => ?_) (fun c37 => ?_)
        · simp (disch := omega) only [zI_lt, zI_le, zI_eq, zI_lt0, zI_le0, zI_0lt, zI_0le, zI_eq0] at c37
          refine v_run 4 (pc' := 23) (ls' := [some (.ref (ad 200)), some (.int (zI ↑s)), some (.int ((zI ↑s) + zI 1))]) (st' := []) rfl ?_
          have en : (ksO ζ (s + 1)) = ↑s := by simp only [ksO]; rw [if_pos (Or.inl (by omega))]
          refine v_run 0 (pc' := 23) (ls' := [some (.ref (ad 200)), some (.int (zI (ksO ζ (s + 1)))), some (.int (zI ↑(s + 1)))]) (st' := []) (by rw [en, ← zI_s1]; rfl) ?_
          exact ih (s + 1) (by omega) (by omega)
        · simp (disch := omega) only [zI_lt, zI_le, zI_eq, zI_lt0, zI_le0, zI_0lt, zI_0le, zI_eq0] at c37
          obtain ⟨j, hj⟩ : ∃ j : Nat, (ksO ζ s) = ↑j := ⟨((ksO ζ s)).toNat, by omega⟩
          have ws := Nat.pow_lt_pow_right (a := 2) (by decide) (show s < 5 by omega)
          have fs : fwO (ζ 19) (ζ 6 0) (ζ 6 0) (2 ^ s) < 32 := fwO_lt z6 _ (by omega)
          have os := popN_le (fwO (ζ 19) (ζ 6 0) (ζ 6 0) (2 ^ s))
          have wj := Nat.pow_lt_pow_right (a := 2) (by decide) (show j < 5 by omega)
          have fj : fwO (ζ 19) (ζ 6 0) (ζ 6 0) (2 ^ j) < 32 := fwO_lt z6 _ (by omega)
          have oj := popN_le (fwO (ζ 19) (ζ 6 0) (ζ 6 0) (2 ^ j))
          refine v_run 4 (pc' := 44) (ls' := [some (.ref (ad 200)), some (.int (zI (ksO ζ s))), some (.int (zI ↑s))]) (st' := [.int ((zI 1) <<< ((zI ↑s) &&& 31)), .ref (ad 200)]) rfl ?_
          rw [show ((zI 1) <<< ((zI ↑s) &&& 31) : Int32) = zI ↑(2 ^ s) from zI_1shl (by omega)]
          refine v_callV (My := mX10_fallen) (As := [.int (zI ↑(2 ^ s))]) (rest := []) (mc := 0) (ms := 0) rfl caX10_fallen rfl rfl rfl q1.1.1.1 rfl rfl (q_fallen G _ (2 ^ s) hA q1.1.1 hz q1.1.2.1 (by omega)) rfl rfl (Nat.le_of_ble_eq_true rfl) (by omega) ?_
          rintro _ _ ⟨rfl, rfl⟩
          refine v_run 0 (pc' := 47) (ls' := [some (.ref (ad 200)), some (.int (zI (ksO ζ s))), some (.int (zI ↑s))]) (st' := [.int (zI ↑(fwO (ζ 19) (ζ 6 0) (ζ 6 0) (2 ^ s)))]) rfl ?_
          refine v_callS (My := mX10_bits) (As := [.int (zI ↑(fwO (ζ 19) (ζ 6 0) (ζ 6 0) (2 ^ s)))]) (rest := []) (mc := 0) (ms := 0) rfl caX10_bits rfl rfl (q_bits G _ (fwO (ζ 19) (ζ 6 0) (ζ 6 0) (2 ^ s)) (by omega)) rfl rfl (Nat.le_of_ble_eq_true rfl) (by omega) ?_
          rintro _ _ ⟨rfl, rfl⟩
          refine v_run 0 (pc' := 50) (ls' := [some (.ref (ad 200)), some (.int (zI (ksO ζ s))), some (.int (zI ↑s))]) (st' := [.int (zI ↑(popN (fwO (ζ 19) (ζ 6 0) (ζ 6 0) (2 ^ s))))]) rfl ?_
          refine v_run 3 (pc' := 53) (ls' := [some (.ref (ad 200)), some (.int (zI (ksO ζ s))), some (.int (zI ↑s))]) (st' := [.int (zI (ksO ζ s)), .int (zI 1), .ref (ad 200), .int (zI ↑(popN (fwO (ζ 19) (ζ 6 0) (ζ 6 0) (2 ^ s))))]) rfl ?_
          rw [show (zI (ksO ζ s) : Int32) = zI ↑j from by rw [hj]]
          refine v_run 1 (pc' := 54) (ls' := [some (.ref (ad 200)), some (.int (zI ↑j)), some (.int (zI ↑s))]) (st' := [.int ((zI 1) <<< ((zI ↑j) &&& 31)), .ref (ad 200), .int (zI ↑(popN (fwO (ζ 19) (ζ 6 0) (ζ 6 0) (2 ^ s))))]) rfl ?_
          rw [show ((zI 1) <<< ((zI ↑j) &&& 31) : Int32) = zI ↑(2 ^ j) from zI_1shl (by omega)]
          refine v_callV (My := mX10_fallen) (As := [.int (zI ↑(2 ^ j))]) (rest := [.int (zI ↑(popN (fwO (ζ 19) (ζ 6 0) (ζ 6 0) (2 ^ s))))]) (mc := 0) (ms := 0) rfl caX10_fallen rfl rfl rfl q1.1.1.1 rfl rfl (q_fallen G _ (2 ^ j) hA q1.1.1 hz q1.1.2.1 (by omega)) rfl rfl (Nat.le_of_ble_eq_true rfl) (by omega) ?_
          rintro _ _ ⟨rfl, rfl⟩
          refine v_run 0 (pc' := 57) (ls' := [some (.ref (ad 200)), some (.int (zI ↑j)), some (.int (zI ↑s))]) (st' := [.int (zI ↑(fwO (ζ 19) (ζ 6 0) (ζ 6 0) (2 ^ j))), .int (zI ↑(popN (fwO (ζ 19) (ζ 6 0) (ζ 6 0) (2 ^ s))))]) rfl ?_
          refine v_callS (My := mX10_bits) (As := [.int (zI ↑(fwO (ζ 19) (ζ 6 0) (ζ 6 0) (2 ^ j)))]) (rest := [.int (zI ↑(popN (fwO (ζ 19) (ζ 6 0) (ζ 6 0) (2 ^ s))))]) (mc := 0) (ms := 0) rfl caX10_bits rfl rfl (q_bits G _ (fwO (ζ 19) (ζ 6 0) (ζ 6 0) (2 ^ j)) (by omega)) rfl rfl (Nat.le_of_ble_eq_true rfl) (by omega) ?_
          rintro _ _ ⟨rfl, rfl⟩
          refine v_run 0 (pc' := 60) (ls' := [some (.ref (ad 200)), some (.int (zI ↑j)), some (.int (zI ↑s))]) (st' := [.int (zI ↑(popN (fwO (ζ 19) (ζ 6 0) (ζ 6 0) (2 ^ j)))), .int (zI ↑(popN (fwO (ζ 19) (ζ 6 0) (ζ 6 0) (2 ^ s))))]) rfl ?_
          refine v_icmp_le rfl (fun c60 => ?_) (fun c60 => ?_)
          · simp (disch := omega) only [zI_lt, zI_le, zI_eq, zI_lt0, zI_le0, zI_0lt, zI_0le, zI_eq0] at c60
            rw [← hj]
            refine v_run 2 (pc' := 23) (ls' := [some (.ref (ad 200)), some (.int (zI (ksO ζ s))), some (.int ((zI ↑s) + zI 1))]) (st' := []) rfl ?_
            rw [zI_s1, show (ksO ζ s) = (ksO ζ (s + 1)) from by simp only [ksO]; rw [if_neg (by rw [hj, Int.toNat_natCast]; omega)]]
            exact ih (s + 1) (by omega) (by omega)
          · simp (disch := omega) only [zI_lt, zI_le, zI_eq, zI_lt0, zI_le0, zI_0lt, zI_0le, zI_eq0] at c60
            refine v_run 4 (pc' := 23) (ls' := [some (.ref (ad 200)), some (.int (zI ↑s)), some (.int ((zI ↑s) + zI 1))]) (st' := []) rfl ?_
            have en : (ksO ζ (s + 1)) = ↑s := by simp only [ksO]; rw [if_pos (Or.inr (by rw [hj, Int.toNat_natCast]; omega))]
            refine v_run 0 (pc' := 23) (ls' := [some (.ref (ad 200)), some (.int (zI (ksO ζ (s + 1)))), some (.int (zI ↑(s + 1)))]) (st' := []) (by rw [en, ← zI_s1]; rfl) ?_
            exact ih (s + 1) (by omega) (by omega)
  exact lp (ζ 6 0 + 1) 0 (by omega) (by omega)

set_option maxRecDepth 100000 in
set_option maxHeartbeats 400000 in
theorem q_ring (G : ssG) (h : ssH) {ad : Nat → Nat} {rv : Value} {m : Nat → Int} {ζ ρ : Nat → Nat → Nat}  (hA : ∀ k l, ad k = ad l → k = l) (ht : MT h ad rv m ζ ρ) (hz : SaOk ζ) (hV : XOk (ρ 2)) (hd : ρ 2 23 ≤ 99)  : ssC G mX10_ring 2 0 0 [.ref (ad 200)] h (mR ζ rv m ρ ad h ↑(bRing ζ).2 (.int (zI (bRing ζ).1))) := by
  refine c_of_v okX10_ring (by decide +kernel) (ls := [some (.ref (ad 200)), none, none, none]) rfl (Nat.le_of_ble_eq_true rfl) ?_
  obtain ⟨z0, z1, z2, z3, z4, z5, z6, z9, z12, z13, z14, z15, z16, z17, z18, z19, z20⟩ := id hz
  refine v_run 2 (pc' := 2) (ls' := [some (.ref (ad 200)), none, none, none]) (st' := [.int (zI 0), .ref (ad 200)]) rfl ?_
  refine v_put rfl ht.1.1 rfl rfl (Nat.le_of_ble_eq_true rfl) ?_
  generalize e1 : hset h (ad 200) _ = h1
  have q1 : MQs h ad rv (mU m 0 0) ζ ρ h1 (mU m 0 0) ρ := ⟨ht.ob hA e1, mSm.rf _, rSm.rf ρ, (frM.rf ad h).ob e1⟩
  refine v_run 1 (pc' := 6) (ls' := [some (.ref (ad 200)), none, none, none]) (st' := [.ref (ad 200)]) rfl ?_
  refine v_get rfl q1.1.1.1 rfl ?_
  refine v_run 3 (pc' := 20) (ls' := [some (.ref (ad 200)), some (.int (zI 0)), none, none]) (st' := []) rfl ?_
  refine v_run 0 (pc' := 20) (ls' := [some (.ref (ad 200)), some (.int (zI ↑(0 : Nat))), none, none]) (st' := []) rfl ?_
  have lp : ∀ (n s : Nat), (s ≤ ζ 6 0 ∧ rgG ζ (ζ 6 0 - s) s = rgG ζ (ζ 6 0) 0) → ζ 6 0 + 1 ≤ s + n → ssV G mX10_ring 2 0 0 (mR ζ rv m ρ ad h ↑(bRing ζ).2 (.int (zI (bRing ζ).1))) 20 [some (.ref (ad 200)), some (.int (zI ↑s)), none, none] [] h1 := by
    intro n
    induction n with
    | zero => intro s hs1 hs2; exact absurd hs2 (by omega)
    | succ n ih =>
      intro s hs1 hs2
      refine v_run 2 (pc' := 22) (ls' := [some (.ref (ad 200)), some (.int (zI ↑s)), none, none]) (st' := [.ref (ad 200), .int (zI ↑s)]) rfl ?_
      refine v_get rfl q1.1.1.1 rfl ?_
      refine v_run 0 (pc' := 25) (ls' := [some (.ref (ad 200)), some (.int (zI ↑s)), none, none]) (st' := [.ref (ad 210), .int (zI ↑s)]) rfl ?_
      refine v_get rfl q1.1.1.2.1.1 rfl ?_
      refine v_run 0 (pc' := 28) (ls' := [some (.ref (ad 200)), some (.int (zI ↑s)), none, none]) (st' := [.int (zI ↑(ζ 6 0)), .int (zI ↑s)]) rfl ?_
      refine v_icmp_ge rfl (fun c28 => ?_) (fun c28 => ?_)
      · simp (disch := omega) only [zI_lt, zI_le, zI_eq, zI_lt0, zI_le0, zI_0lt, zI_0le, zI_eq0] at c28
        refine v_run 2 (pc' := 108) (ls' := [some (.ref (ad 200)), some (.int (zI ↑s)), none, none]) (st' := [.int (zI 0), .ref (ad 200)]) rfl ?_
        refine v_callV (My := mX10_well) (As := [.int (zI 0)]) (rest := []) (mc := 0) (ms := 0) rfl caX10_well rfl rfl rfl q1.1.1.1 rfl rfl (q_well G _ ((zI 0)) q1.1.1.1) rfl rfl (Nat.le_of_ble_eq_true rfl) (by omega) ?_
        rintro _ h99 ⟨rfl, e99⟩
        refine v_run 0 (pc' := 111) (ls' := [some (.ref (ad 200)), some (.int (zI ↑s)), none, none]) (st' := [.int ((zI 0))]) rfl ?_
        rw [show bRing ζ = (0, 0) from by rw [bRing, ← hs1.2, show ζ 6 0 - s = 0 by omega]; rfl]
        exact v_iret rfl rfl rfl ⟨rfl, q1.fin hA e99⟩
      · simp (disch := omega) only [zI_lt, zI_le, zI_eq, zI_lt0, zI_le0, zI_0lt, zI_0le, zI_eq0] at c28
        have e0 := hs1.2
        rw [show ζ 6 0 - s = (ζ 6 0 - (s + 1)) + 1 by omega, rgG] at e0
        refine v_run 4 (pc' := 35) (ls' := [some (.ref (ad 200)), some (.int (zI ↑s)), some (.int (zI 0)), some (.int (zI 0))]) (st' := []) rfl ?_
        refine v_run 0 (pc' := 35) (ls' := [some (.ref (ad 200)), some (.int (zI ↑s)), some (.int (zI ↑(setN (fun b => bitN (ζ 19 b) s) 0))), some (.int (zI ↑(0 : Nat)))]) (st' := []) rfl ?_
        have lq : ∀ (ni t : Nat), t ≤ ζ 6 0 → ζ 6 0 + 1 ≤ t + ni → ssV G mX10_ring 2 0 0 (mR ζ rv m ρ ad h ↑(bRing ζ).2 (.int (zI (bRing ζ).1))) 35 [some (.ref (ad 200)), some (.int (zI ↑s)), some (.int (zI ↑(setN (fun b => bitN (ζ 19 b) s) t))), some (.int (zI ↑t))] [] h1 := by
          intro ni
          induction ni with
          | zero => intro t hi1 hi2; exact absurd hi2 (by omega)
          | succ ni ih2 =>
            intro t hi1 hi2
            have q2 := setN_lt (fun b => bitN (ζ 19 b) s) t
            refine v_run 2 (pc' := 37) (ls' := [some (.ref (ad 200)), some (.int (zI ↑s)), some (.int (zI ↑(setN (fun b => bitN (ζ 19 b) s) t))), some (.int (zI ↑t))]) (st' := [.ref (ad 200), .int (zI ↑t)]) rfl ?_
            refine v_get rfl q1.1.1.1 rfl ?_
            refine v_run 0 (pc' := 40) (ls' := [some (.ref (ad 200)), some (.int (zI ↑s)), some (.int (zI ↑(setN (fun b => bitN (ζ 19 b) s) t))), some (.int (zI ↑t))]) (st' := [.ref (ad 210), .int (zI ↑t)]) rfl ?_
            refine v_get rfl q1.1.1.2.1.1 rfl ?_
            refine v_run 0 (pc' := 43) (ls' := [some (.ref (ad 200)), some (.int (zI ↑s)), some (.int (zI ↑(setN (fun b => bitN (ζ 19 b) s) t))), some (.int (zI ↑t))]) (st' := [.int (zI ↑(ζ 6 0)), .int (zI ↑t)]) rfl ?_
            refine v_icmp_ge rfl (fun c43 => ?_) (fun c43 => ?_)
            · simp (disch := omega) only [zI_lt, zI_le, zI_eq, zI_lt0, zI_le0, zI_0lt, zI_0le, zI_eq0] at c43
              have on : setN (fun b => bitN (ζ 19 b) s) t = rgS ζ s := by rw [show t = ζ 6 0 by omega]; rfl
              refine v_drop 3 (ls' := [some (.ref (ad 200)), some (.int (zI ↑s)), some (.int (zI ↑(setN (fun b => bitN (ζ 19 b) s) t))), none]) rfl ?_
              rw [show (zI ↑(setN (fun b => bitN (ζ 19 b) s) t) : Int32) = zI ↑(rgS ζ s) from congrArg (fun n : Nat => zI ↑n) (on)]
              have o32 : rgS ζ s < 32 := Nat.lt_of_lt_of_le (setN_lt _ _) (Nat.pow_le_pow_right (n := 2) (by decide) z6)
              refine v_run 1 (pc' := 79) (ls' := [some (.ref (ad 200)), some (.int (zI ↑s)), some (.int (zI ↑(rgS ζ s))), none]) (st' := [.int (zI ↑(rgS ζ s))]) rfl ?_
              refine v_if_eq rfl (fun c79 => ?_) (fun c79 => ?_)
              · simp (disch := omega) only [zI_lt, zI_le, zI_eq, zI_lt0, zI_le0, zI_0lt, zI_0le, zI_eq0] at c79
                refine v_run 2 (pc' := 20) (ls' := [some (.ref (ad 200)), some (.int ((zI ↑s) + zI 1)), some (.int (zI ↑(rgS ζ s))), none]) (st' := []) rfl ?_
                refine v_drop 2 (ls' := [some (.ref (ad 200)), some (.int ((zI ↑s) + zI 1)), none, none]) rfl ?_
                rw [zI_s1]
                exact ih (s + 1) ⟨by omega, by rw [← e0, if_neg (by omega)]⟩ (by omega)
              · simp (disch := omega) only [zI_lt, zI_le, zI_eq, zI_lt0, zI_le0, zI_0lt, zI_0le, zI_eq0] at c79
                refine v_run 2 (pc' := 84) (ls' := [some (.ref (ad 200)), some (.int (zI ↑s)), some (.int (zI ↑(rgS ζ s))), none]) (st' := [.int (zI ↑(rgS ζ s)), .ref (ad 200)]) rfl ?_
                refine v_callV (My := mX10_fallen) (As := [.int (zI ↑(rgS ζ s))]) (rest := []) (mc := 0) (ms := 0) rfl caX10_fallen rfl rfl rfl q1.1.1.1 rfl rfl (q_fallen G _ (rgS ζ s) hA q1.1.1 hz q1.1.2.1 o32) rfl rfl (Nat.le_of_ble_eq_true rfl) (by omega) ?_
                rintro _ _ ⟨rfl, rfl⟩
                refine v_run 0 (pc' := 87) (ls' := [some (.ref (ad 200)), some (.int (zI ↑s)), some (.int (zI ↑(rgS ζ s))), none]) (st' := [.int (zI ↑(fwO (ζ 19) (ζ 6 0) (ζ 6 0) (rgS ζ s)))]) rfl ?_
                have fl : fwO (ζ 19) (ζ 6 0) (ζ 6 0) (rgS ζ s) < 32 := fwO_lt z6 _ o32
                refine v_run 1 (pc' := 88) (ls' := [some (.ref (ad 200)), some (.int (zI ↑s)), some (.int (zI ↑(rgS ζ s))), none]) (st' := [.int (zI ↑s), .int (zI ↑(fwO (ζ 19) (ζ 6 0) (ζ 6 0) (rgS ζ s)))]) rfl ?_
                refine v_callS (My := mX10_bit) (As := [.int (zI ↑(fwO (ζ 19) (ζ 6 0) (ζ 6 0) (rgS ζ s))), .int (zI ↑s)]) (rest := []) (mc := 0) (ms := 0) rfl caX10_bit rfl rfl (q_bit G _ (fwO (ζ 19) (ζ 6 0) (ζ 6 0) (rgS ζ s)) s (by omega) (by omega)) rfl rfl (Nat.le_of_ble_eq_true rfl) (by omega) ?_
                rintro _ _ ⟨rfl, rfl⟩
                refine v_run 0 (pc' := 91) (ls' := [some (.ref (ad 200)), some (.int (zI ↑s)), some (.int (zI ↑(rgS ζ s))), none]) (st' := [.int (zb (bitN (fwO (ζ 19) (ζ 6 0) (ζ 6 0) (rgS ζ s)) s))]) rfl ?_
                refine v_if_eq rfl (fun c91 => ?_) (fun c91 => ?_)
                · rw [zb_0] at c91
                  refine v_run 2 (pc' := 20) (ls' := [some (.ref (ad 200)), some (.int ((zI ↑s) + zI 1)), some (.int (zI ↑(rgS ζ s))), none]) (st' := []) rfl ?_
                  refine v_drop 2 (ls' := [some (.ref (ad 200)), some (.int ((zI ↑s) + zI 1)), none, none]) rfl ?_
                  rw [zI_s1]
                  exact ih (s + 1) ⟨by omega, by rw [← e0, if_neg (by rw [c91]; simp)]⟩ (by omega)
                · rw [zb_0, Bool.not_eq_false] at c91
                  refine v_run 2 (pc' := 96) (ls' := [some (.ref (ad 200)), some (.int (zI ↑s)), some (.int (zI ↑(rgS ζ s))), none]) (st' := [.int (zI 1), .ref (ad 200)]) rfl ?_
                  refine v_callV (My := mX10_well) (As := [.int (zI 1)]) (rest := []) (mc := 0) (ms := 0) rfl caX10_well rfl rfl rfl q1.1.1.1 rfl rfl (q_well G _ ((zI 1)) q1.1.1.1) rfl rfl (Nat.le_of_ble_eq_true rfl) (by omega) ?_
                  rintro _ h99 ⟨rfl, e99⟩
                  refine v_run 0 (pc' := 99) (ls' := [some (.ref (ad 200)), some (.int (zI ↑s)), some (.int (zI ↑(rgS ζ s))), none]) (st' := [.int ((zI 1))]) rfl ?_
                  rw [show bRing ζ = (1, 0) from by rw [bRing, ← e0, if_pos ⟨by omega, c91⟩]]
                  exact v_iret rfl rfl rfl ⟨rfl, q1.fin hA e99⟩
            · simp (disch := omega) only [zI_lt, zI_le, zI_eq, zI_lt0, zI_le0, zI_0lt, zI_0le, zI_eq0] at c43
              have f32 := z19 t
              refine v_run 2 (pc' := 48) (ls' := [some (.ref (ad 200)), some (.int (zI ↑s)), some (.int (zI ↑(setN (fun b => bitN (ζ 19 b) s) t))), some (.int (zI ↑t))]) (st' := [.ref (ad 200), .int (zI ↑(setN (fun b => bitN (ζ 19 b) s) t))]) rfl ?_
              refine v_get rfl q1.1.1.1 rfl ?_
              refine v_run 0 (pc' := 51) (ls' := [some (.ref (ad 200)), some (.int (zI ↑s)), some (.int (zI ↑(setN (fun b => bitN (ζ 19 b) s) t))), some (.int (zI ↑t))]) (st' := [.ref (ad 210), .int (zI ↑(setN (fun b => bitN (ζ 19 b) s) t))]) rfl ?_
              refine v_get rfl q1.1.1.2.1.1 rfl ?_
              refine v_run 1 (pc' := 55) (ls' := [some (.ref (ad 200)), some (.int (zI ↑s)), some (.int (zI ↑(setN (fun b => bitN (ζ 19 b) s) t))), some (.int (zI ↑t))]) (st' := [.int (zI ↑t), .ref (Sf ad 210 19), .int (zI ↑(setN (fun b => bitN (ζ 19 b) s) t))]) rfl ?_
              refine v_iaload' rfl q1.1.1.2.1.2.2.2.2.2.2.2.2.1 (i := t) rfl (by omega) ?_
              refine v_run 1 (pc' := 57) (ls' := [some (.ref (ad 200)), some (.int (zI ↑s)), some (.int (zI ↑(setN (fun b => bitN (ζ 19 b) s) t))), some (.int (zI ↑t))]) (st' := [.int (zI ↑s), .int (zI ↑(ζ 19 t)), .int (zI ↑(setN (fun b => bitN (ζ 19 b) s) t))]) rfl ?_
              refine v_callS (My := mX10_bit) (As := [.int (zI ↑(ζ 19 t)), .int (zI ↑s)]) (rest := [.int (zI ↑(setN (fun b => bitN (ζ 19 b) s) t))]) (mc := 0) (ms := 0) rfl caX10_bit rfl rfl (q_bit G _ (ζ 19 t) s (by omega) (by omega)) rfl rfl (Nat.le_of_ble_eq_true rfl) (by omega) ?_
              rintro _ _ ⟨rfl, rfl⟩
              refine v_run 0 (pc' := 60) (ls' := [some (.ref (ad 200)), some (.int (zI ↑s)), some (.int (zI ↑(setN (fun b => bitN (ζ 19 b) s) t))), some (.int (zI ↑t))]) (st' := [.int (zb (bitN (ζ 19 t) s)), .int (zI ↑(setN (fun b => bitN (ζ 19 b) s) t))]) rfl ?_
              refine v_if_eq rfl (fun c60 => ?_) (fun c60 => ?_)
              · rw [zb_0] at c60
                refine v_run 5 (pc' := 35) (ls' := [some (.ref (ad 200)), some (.int (zI ↑s)), some (.int ((zI ↑(setN (fun b => bitN (ζ 19 b) s) t)) ||| (zI 0))), some (.int ((zI ↑t) + zI 1))]) (st' := []) rfl ?_
                rw [zI_s1, show (zI ↑(setN (fun b => bitN (ζ 19 b) s) t)) ||| (zI 0) = zI ↑(setN (fun b => bitN (ζ 19 b) s) (t + 1)) from by rw [setN_f (p := fun b => bitN (ζ 19 b) s) c60]; exact zI_or0 (by have q3 := Nat.pow_le_pow_right (n := 2) (by decide) (show t ≤ 30 by omega); omega)]
                exact ih2 (t + 1) (by omega) (by omega)
              · rw [zb_0, Bool.not_eq_false] at c60
                refine v_run 8 (pc' := 35) (ls' := [some (.ref (ad 200)), some (.int (zI ↑s)), some (.int ((zI ↑(setN (fun b => bitN (ζ 19 b) s) t)) ||| ((zI 1) <<< ((zI ↑t) &&& 31)))), some (.int ((zI ↑t) + zI 1))]) (st' := []) rfl ?_
                rw [zI_s1, zI_put (by omega) q2, ← setN_t (p := fun b => bitN (ζ 19 b) s) c60]
                exact ih2 (t + 1) (by omega) (by omega)
        exact lq (ζ 6 0 + 1) 0 (by omega) (by omega)
  exact lp (ζ 6 0 + 1) 0 ⟨by omega, rfl⟩ (by omega)

set_option maxRecDepth 100000 in
set_option maxHeartbeats 400000 in
theorem q_strongest (G : ssG) (h : ssH) {ad : Nat → Nat} {rv : Value} {m : Nat → Int} {ζ ρ : Nat → Nat → Nat}  (hA : ∀ k l, ad k = ad l → k = l) (ht : MT h ad rv m ζ ρ) (hz : SaOk ζ) (hV : XOk (ρ 2)) (hd : ρ 2 23 ≤ 99)  : ssC G mX10_strongest 4 0 0 [.ref (ad 200)] h (mR ζ rv m ρ ad h ↑(bStrongest ζ (ρ 2)).2 (.int (zI (bStrongest ζ (ρ 2)).1))) := by
  refine c_of_v okX10_strongest (by decide +kernel) (ls := [some (.ref (ad 200)), none, none]) rfl (Nat.le_of_ble_eq_true rfl) ?_
  obtain ⟨z0, z1, z2, z3, z4, z5, z6, z9, z12, z13, z14, z15, z16, z17, z18, z19, z20⟩ := id hz
  refine v_run 2 (pc' := 2) (ls' := [some (.ref (ad 200)), none, none]) (st' := [.int (zI 0), .ref (ad 200)]) rfl ?_
  refine v_put rfl ht.1.1 rfl rfl (Nat.le_of_ble_eq_true rfl) ?_
  generalize e1 : hset h (ad 200) _ = h1
  have q1 : MQs h ad rv (mU m 0 0) ζ ρ h1 (mU m 0 0) ρ := ⟨ht.ob hA e1, mSm.rf _, rSm.rf ρ, (frM.rf ad h).ob e1⟩
  refine v_run 1 (pc' := 6) (ls' := [some (.ref (ad 200)), none, none]) (st' := [.ref (ad 200)]) rfl ?_
  refine v_get rfl q1.1.1.1 rfl ?_
  refine v_run 5 (pc' := 23) (ls' := [some (.ref (ad 200)), some (.int (zI (-2))), some (.int (zI 0))]) (st' := []) rfl ?_
  have lp : ∀ (n s : Nat) (hh : ssH) (Y : Nat → Nat), (s ≤ ζ 5 0 ∧ MQs h ad rv (mU m 0 0) ζ ρ hh (mU m 0 0) (rU ρ 3 Y)) → ζ 5 0 + 1 ≤ s + n → ssV G mX10_strongest 4 0 0 (mR ζ rv m ρ ad h ↑(bStrongest ζ (ρ 2)).2 (.int (zI (bStrongest ζ (ρ 2)).1))) 23 [some (.ref (ad 200)), some (.int (zI (sgO ζ (ρ 2) s))), some (.int (zI ↑s))] [] hh := by
    intro n
    induction n with
    | zero => intro s hh Y hs1 hs2; exact absurd hs2 (by omega)
    | succ n ih =>
      intro s hh Y hs1 hs2
      have ib := sgO_bd ζ (ρ 2) s
      refine v_run 2 (pc' := 25) (ls' := [some (.ref (ad 200)), some (.int (zI (sgO ζ (ρ 2) s))), some (.int (zI ↑s))]) (st' := [.ref (ad 200), .int (zI ↑s)]) rfl ?_
      refine v_get rfl hs1.2.1.1.1 rfl ?_
      refine v_run 0 (pc' := 28) (ls' := [some (.ref (ad 200)), some (.int (zI (sgO ζ (ρ 2) s))), some (.int (zI ↑s))]) (st' := [.ref (ad 210), .int (zI ↑s)]) rfl ?_
      refine v_get rfl hs1.2.1.1.2.1.1 rfl ?_
      refine v_run 0 (pc' := 31) (ls' := [some (.ref (ad 200)), some (.int (zI (sgO ζ (ρ 2) s))), some (.int (zI ↑s))]) (st' := [.int (zI ↑(ζ 5 0)), .int (zI ↑s)]) rfl ?_
      refine v_icmp_ge rfl (fun c31 => ?_) (fun c31 => ?_)
      · simp (disch := omega) only [zI_lt, zI_le, zI_eq, zI_lt0, zI_le0, zI_0lt, zI_0le, zI_eq0] at c31
        refine v_run 2 (pc' := 75) (ls' := [some (.ref (ad 200)), some (.int (zI (sgO ζ (ρ 2) s))), some (.int (zI ↑s))]) (st' := [.int (zI (sgO ζ (ρ 2) s)), .ref (ad 200)]) rfl ?_
        refine v_callV (My := mX10_well) (As := [.int (zI (sgO ζ (ρ 2) s))]) (rest := []) (mc := 0) (ms := 0) rfl caX10_well rfl rfl rfl hs1.2.1.1.1 rfl rfl (q_well G _ ((zI (sgO ζ (ρ 2) s))) hs1.2.1.1.1) rfl rfl (Nat.le_of_ble_eq_true rfl) (by omega) ?_
        rintro _ h99 ⟨rfl, e99⟩
        refine v_run 0 (pc' := 78) (ls' := [some (.ref (ad 200)), some (.int (zI (sgO ζ (ρ 2) s))), some (.int (zI ↑s))]) (st' := [.int ((zI (sgO ζ (ρ 2) s)))]) rfl ?_
        rw [show bStrongest ζ (ρ 2) = ((sgO ζ (ρ 2) s), 0) from by rw [bStrongest, show s = ζ 5 0 by omega]]
        exact v_iret rfl rfl rfl ⟨rfl, hs1.2.fin hA e99⟩
      · simp (disch := omega) only [zI_lt, zI_le, zI_eq, zI_lt0, zI_le0, zI_0lt, zI_0le, zI_eq0] at c31
        have l12 := hV.2.2.1 s (by omega)
        refine v_run 1 (pc' := 35) (ls' := [some (.ref (ad 200)), some (.int (zI (sgO ζ (ρ 2) s))), some (.int (zI ↑s))]) (st' := [.ref (ad 200)]) rfl ?_
        refine v_get rfl hs1.2.1.1.1 rfl ?_
        refine v_run 3 (pc' := 42) (ls' := [some (.ref (ad 200)), some (.int (zI (sgO ζ (ρ 2) s))), some (.int (zI ↑s))]) (st' := [.int ((zI 12) + (zI ↑s)), .ref (ad 202)]) rfl ?_
        refine v_iaload' rfl hs1.2.1.2.2.1 (i := (12 + s)) (zN_add 12 s) (by omega) ?_
        refine v_run 0 (pc' := 43) (ls' := [some (.ref (ad 200)), some (.int (zI (sgO ζ (ρ 2) s))), some (.int (zI ↑s))]) (st' := [.int (zI ↑(ρ 2 (12 + s)))]) rfl ?_
        refine v_if_le rfl (fun c43 => ?_) (fun c43 => ?_)
        · simp (disch := omega) only [zI_lt, zI_le, zI_eq, zI_lt0, zI_le0, zI_0lt, zI_0le, zI_eq0] at c43
          refine v_run 2 (pc' := 23) (ls' := [some (.ref (ad 200)), some (.int (zI (sgO ζ (ρ 2) s))), some (.int ((zI ↑s) + zI 1))]) (st' := []) rfl ?_
          rw [zI_s1, show (sgO ζ (ρ 2) s) = (sgO ζ (ρ 2) (s + 1)) from by simp only [sgO]; rw [if_neg (by omega)]]
          exact ih (s + 1) _ _ ⟨by omega, hs1.2⟩ (by omega)
        · simp (disch := omega) only [zI_lt, zI_le, zI_eq, zI_lt0, zI_le0, zI_0lt, zI_0le, zI_eq0] at c43
          refine v_run 2 (pc' := 49) (ls' := [some (.ref (ad 200)), some (.int (zI (sgO ζ (ρ 2) s))), some (.int (zI ↑s))]) (st' := [.int (zI (-2)), .int (zI (sgO ζ (ρ 2) s))]) rfl ?_
          refine v_icmp_eq rfl (fun c49 => ?_) (fun c49 => ?_)
          · simp (disch := omega) only [zI_lt, zI_le, zI_eq, zI_lt0, zI_le0, zI_0lt, zI_0le, zI_eq0] at c49
            refine v_run 4 (pc' := 23) (ls' := [some (.ref (ad 200)), some (.int (zI ↑s)), some (.int ((zI ↑s) + zI 1))]) (st' := []) rfl ?_
            have en : (sgO ζ (ρ 2) (s + 1)) = ↑s := by simp only [sgO]; rw [if_pos ⟨by omega, Or.inl (by omega)⟩]
            refine v_run 0 (pc' := 23) (ls' := [some (.ref (ad 200)), some (.int (zI (sgO ζ (ρ 2) (s + 1)))), some (.int (zI ↑(s + 1)))]) (st' := []) (by rw [en, ← zI_s1]; rfl) ?_
            exact ih (s + 1) _ _ ⟨by omega, hs1.2⟩ (by omega)
          · simp (disch := omega) only [zI_lt, zI_le, zI_eq, zI_lt0, zI_le0, zI_0lt, zI_0le, zI_eq0] at c49
            obtain ⟨j, hj⟩ : ∃ j : Nat, (sgO ζ (ρ 2) s) = ↑j := ⟨((sgO ζ (ρ 2) s)).toNat, by omega⟩
            have t1 := mTu_le ζ (mG ζ (ρ 2)) s z5
            have t2 := mTu_le ζ (mG ζ (ρ 2)) j z5
            refine v_run 2 (pc' := 54) (ls' := [some (.ref (ad 200)), some (.int (zI (sgO ζ (ρ 2) s))), some (.int (zI ↑s))]) (st' := [.int (zI ↑s), .ref (ad 200)]) rfl ?_
            refine v_callV (My := mX10_turns) (As := [.int (zI ↑s)]) (rest := []) (mc := 0) (ms := 0) rfl caX10_turns rfl rfl rfl hs1.2.1.1.1 rfl rfl (q_turns G _ s hA hs1.2.1.1 hz hs1.2.1.2.1 hs1.2.1.2.2.1 hV (by omega)) rfl rfl (Nat.le_of_ble_eq_true rfl) (by omega) ?_
            rintro _ h16 ⟨rfl, e16⟩
            have q16 : MQs h ad rv (mU m 0 0) ζ ρ h16 (mU m 0 0) (rU ρ 3 (ρ 2)) := hs1.2.xs hA e16 (hV)
            refine v_run 0 (pc' := 57) (ls' := [some (.ref (ad 200)), some (.int (zI (sgO ζ (ρ 2) s))), some (.int (zI ↑s))]) (st' := [.int (zI ↑(mTu ζ (mG ζ (ρ 2)) s))]) rfl ?_
            refine v_run 2 (pc' := 59) (ls' := [some (.ref (ad 200)), some (.int (zI (sgO ζ (ρ 2) s))), some (.int (zI ↑s))]) (st' := [.int (zI (sgO ζ (ρ 2) s)), .ref (ad 200), .int (zI ↑(mTu ζ (mG ζ (ρ 2)) s))]) rfl ?_
            rw [show (zI (sgO ζ (ρ 2) s) : Int32) = zI ↑j from by rw [hj]]
            refine v_callV (My := mX10_turns) (As := [.int (zI ↑j)]) (rest := [.int (zI ↑(mTu ζ (mG ζ (ρ 2)) s))]) (mc := 0) (ms := 0) rfl caX10_turns rfl rfl rfl q16.1.1.1 rfl rfl (q_turns G _ j hA q16.1.1 hz q16.1.2.1 q16.1.2.2.1 hV (by omega)) rfl rfl (Nat.le_of_ble_eq_true rfl) (by omega) ?_
            rintro _ h17 ⟨rfl, e17⟩
            have q17 : MQs h ad rv (mU m 0 0) ζ ρ h17 (mU m 0 0) (rU ρ 3 (ρ 2)) := q16.xs hA e17 (hV)
            refine v_run 0 (pc' := 62) (ls' := [some (.ref (ad 200)), some (.int (zI ↑j)), some (.int (zI ↑s))]) (st' := [.int (zI ↑(mTu ζ (mG ζ (ρ 2)) j)), .int (zI ↑(mTu ζ (mG ζ (ρ 2)) s))]) rfl ?_
            refine v_icmp_le rfl (fun c62 => ?_) (fun c62 => ?_)
            · simp (disch := omega) only [zI_lt, zI_le, zI_eq, zI_lt0, zI_le0, zI_0lt, zI_0le, zI_eq0] at c62
              rw [← hj]
              refine v_run 2 (pc' := 23) (ls' := [some (.ref (ad 200)), some (.int (zI (sgO ζ (ρ 2) s))), some (.int ((zI ↑s) + zI 1))]) (st' := []) rfl ?_
              rw [zI_s1, show (sgO ζ (ρ 2) s) = (sgO ζ (ρ 2) (s + 1)) from by simp only [sgO]; rw [if_neg (by rw [hj, Int.toNat_natCast]; omega)]]
              exact ih (s + 1) _ _ ⟨by omega, q17⟩ (by omega)
            · simp (disch := omega) only [zI_lt, zI_le, zI_eq, zI_lt0, zI_le0, zI_0lt, zI_0le, zI_eq0] at c62
              refine v_run 4 (pc' := 23) (ls' := [some (.ref (ad 200)), some (.int (zI ↑s)), some (.int ((zI ↑s) + zI 1))]) (st' := []) rfl ?_
              have en : (sgO ζ (ρ 2) (s + 1)) = ↑s := by simp only [sgO]; rw [if_pos ⟨by omega, Or.inr (by rw [hj, Int.toNat_natCast]; omega)⟩]
              refine v_run 0 (pc' := 23) (ls' := [some (.ref (ad 200)), some (.int (zI (sgO ζ (ρ 2) (s + 1)))), some (.int (zI ↑(s + 1)))]) (st' := []) (by rw [en, ← zI_s1]; rfl) ?_
              exact ih (s + 1) _ _ ⟨by omega, q17⟩ (by omega)
  exact lp (ζ 5 0 + 1) 0 _ (ρ 3) ⟨by omega, by rw [rU_id]; exact q1⟩ (by omega)

