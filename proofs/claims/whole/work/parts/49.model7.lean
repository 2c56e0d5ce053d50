/-- the hook of senator k by a code -/
def dgN (ζ : Nat → Nat → Nat) (c k : Nat) : Nat := c / ζ 4 0 ^ (ζ 5 0 - 1 - k) % ζ 4 0
def hgX (ζ : Nat → Nat → Nat) (V : Nat → Nat) (c j : Nat) : Nat → Nat := fun k => if ζ 5 0 ≤ k + j ∧ k < ζ 5 0 then dgN ζ c k else V k
def mHg (ζ : Nat → Nat → Nat) (V : Nat → Nat) (c : Nat) : Nat → Nat := fun k => if k < ζ 5 0 then dgN ζ c k else V k
theorem hgX_0 (ζ : Nat → Nat → Nat) (V : Nat → Nat) (c : Nat) : hgX ζ V c 0 = V := by funext k; simp only [hgX]; rw [if_neg (by omega)]
theorem hgX_all (ζ : Nat → Nat → Nat) (V : Nat → Nat) (c : Nat) : mHg ζ V c = hgX ζ V c (ζ 5 0) := by
  funext k
  simp only [hgX, mHg]
  by_cases h : k < ζ 5 0
  · rw [if_pos h, if_pos (by omega)]
  · rw [if_neg h, if_neg (by omega)]
theorem hgX_s (ζ : Nat → Nat → Nat) (V : Nat → Nat) (c : Nat) {u j : Nat} (hu : u + 1 + j = ζ 5 0) : (fun i => if i = u then c / ζ 4 0 ^ j % ζ 4 0 else hgX ζ V c j i) = hgX ζ V c (j + 1) := by
  funext i
  simp only [hgX]
  by_cases h : i = u
  · subst h
    rw [if_pos rfl, if_pos (by omega), dgN, show ζ 5 0 - 1 - i = j by omega]
  · rw [if_neg h]
    by_cases h2 : ζ 5 0 ≤ i + j ∧ i < ζ 5 0
    · rw [if_pos h2, if_pos (by omega)]
    · rw [if_neg h2, if_neg (by omega)]
theorem hgX_u (ζ : Nat → Nat → Nat) (V : Nat → Nat) (c : Nat) {u j : Nat} (hu : u + 1 + j = ζ 5 0) : hgX ζ V c (j + 1) u = c / ζ 4 0 ^ j % ζ 4 0 := by
  simp only [hgX]
  rw [if_pos (by omega), dgN, show ζ 5 0 - 1 - u = j by omega]
theorem hgX_ok {ζ : Nat → Nat → Nat} {V : Nat → Nat} {c j : Nat} (hz : SaOk ζ) (hV : XOk V) (h4 : 0 < ζ 4 0) (hj : j ≤ ζ 5 0) : XOk (hgX ζ V c j) := by
  obtain ⟨z0, z1, z2, z3, z4, z5, z6, z9, -⟩ := id hz
  obtain ⟨x0, x6, x12, x18, x24, x25, x26⟩ := id hV
  have e : ∀ k, 6 ≤ k → hgX ζ V c j k = V k := fun k hk => by simp only [hgX]; rw [if_neg (by omega)]
  refine ⟨fun k hk => ?_, fun k hk => by rw [e _ (by omega)]; exact x6 k hk, fun k hk => by rw [e _ (by omega)]; exact x12 k hk, fun k hk => by rw [e _ (by omega)]; exact x18 k hk, by rw [e _ (by omega)]; exact x24, by rw [e _ (by omega)]; exact x25, fun k hk => by rw [e _ (by omega)]; exact x26 k hk⟩
  simp only [hgX]
  split
  · have : dgN ζ c k < ζ 4 0 := Nat.mod_lt _ h4
    omega
  · exact x0 k hk
theorem mHg_ok {ζ : Nat → Nat → Nat} {V : Nat → Nat} {c : Nat} (hz : SaOk ζ) (hV : XOk V) (h4 : 0 < ζ 4 0) : XOk (mHg ζ V c) := by rw [hgX_all]; exact hgX_ok hz hV h4 (Nat.le_refl _)
/-- t holds the hooks of the last j senators, which are distinct -/
def mHi (ζ : Nat → Nat → Nat) (c j t : Nat) : Prop := (∀ u, bitN t u = true ↔ ∃ i, i < j ∧ c / ζ 4 0 ^ i % ζ 4 0 = u) ∧ (∀ i, i < j → ∀ k, k < j → c / ζ 4 0 ^ i % ζ 4 0 = c / ζ 4 0 ^ k % ζ 4 0 → i = k)
theorem mHi_0 (ζ : Nat → Nat → Nat) (c : Nat) : mHi ζ c 0 0 := ⟨fun u => ⟨fun h => (by rw [bN_0] at h; cases h), fun ⟨i, hi, _⟩ => absurd hi (by omega)⟩, fun i hi => absurd hi (by omega)⟩
theorem mHi_s {ζ : Nat → Nat → Nat} {c j t : Nat} (h : mHi ζ c j t) (hb : bitN t (c / ζ 4 0 ^ j % ζ 4 0) = false) : mHi ζ c (j + 1) (t ||| 2 ^ (c / ζ 4 0 ^ j % ζ 4 0)) := by
  have hn : ∀ i, i < j → ¬ c / ζ 4 0 ^ i % ζ 4 0 = c / ζ 4 0 ^ j % ζ 4 0 := fun i hi e => by
    have := (h.1 (c / ζ 4 0 ^ j % ζ 4 0)).mpr ⟨i, hi, e⟩
    rw [hb] at this; cases this
  refine ⟨fun u => ?_, fun i hi k hk e => ?_⟩
  · rw [bN_or, Bool.or_eq_true, h.1 u, bN_pow, decide_eq_true_eq]
    constructor
    · rintro (⟨i, hi, e⟩ | e)
      · exact ⟨i, by omega, e⟩
      · exact ⟨j, by omega, e⟩
    · rintro ⟨i, hi, e⟩
      by_cases hij : i = j
      · right; rw [← hij]; exact e
      · left; exact ⟨i, by omega, e⟩
  · by_cases h1 : i = j
    · by_cases h2 : k = j
      · omega
      · subst h1; exact absurd e.symm (hn k (by omega))
    · by_cases h2 : k = j
      · subst h2; exact absurd e (hn i (by omega))
      · exact h.2 i (by omega) k (by omega) e
theorem mHi_inj {ζ : Nat → Nat → Nat} {c j t : Nat} (hj : j = ζ 5 0) (h : mHi ζ c j t) : injN (dgN ζ c) (ζ 5 0) := by
  intro a ha b hb e
  have := h.2 (ζ 5 0 - 1 - a) (by omega) (ζ 5 0 - 1 - b) (by omega) e
  omega
theorem mHi_no {ζ : Nat → Nat → Nat} {c j t u : Nat} (hu : u + 1 + j = ζ 5 0) (h : mHi ζ c j t) (hb : bitN t (c / ζ 4 0 ^ j % ζ 4 0) = true) : ¬ injN (dgN ζ c) (ζ 5 0) := by
  intro q
  obtain ⟨i, hi, e⟩ := (h.1 _).mp hb
  have := q (ζ 5 0 - 1 - i) (by omega) u (by omega) (by
    unfold dgN
    rw [show ζ 5 0 - 1 - (ζ 5 0 - 1 - i) = i by omega, show ζ 5 0 - 1 - u = j by omega]
    exact e)
  omega
def mHQ (ζ : Nat → Nat → Nat) (V : Nat → Nat) (c : Nat) (ad : Nat → Nat) (h : ssH) : Option Value → ssH → Prop := fun r h' => r = some (.int (zb (decide (injN (dgN ζ c) (ζ 5 0))))) ∧ ∃ Y, XOk Y ∧ (injN (dgN ζ c) (ζ 5 0) → Y = mHg ζ V c) ∧ hset h (ad 203) (ar 26 Y) = h'
theorem mHQ_t {ζ : Nat → Nat → Nat} {V : Nat → Nat} {c : Nat} {ad : Nat → Nat} {h h' : ssH} (hz : SaOk ζ) (hV : XOk V) (h4 : 0 < ζ 4 0) (hi : injN (dgN ζ c) (ζ 5 0)) (e : hset h (ad 203) (ar 26 (mHg ζ V c)) = h') : mHQ ζ V c ad h (some (.int (zI 1))) h' := ⟨by rw [decide_eq_true hi]; rfl, _, mHg_ok hz hV h4, fun _ => rfl, e⟩
theorem mHQ_f {ζ : Nat → Nat → Nat} {V Y : Nat → Nat} {c : Nat} {ad : Nat → Nat} {h h' : ssH} (hi : ¬ injN (dgN ζ c) (ζ 5 0)) (hY : XOk Y) (e : hset h (ad 203) (ar 26 Y) = h') : mHQ ζ V c ad h (some (.int (zI 0))) h' := ⟨by rw [decide_eq_false hi]; rfl, _, hY, fun q => absurd q hi, e⟩
/-- the best way to hang among the first codes, by the worth W -/
def hbS (ζ : Nat → Nat → Nat) (W : Nat → Nat) : Nat → Int × (Nat → Nat)
  | 0 => (-1, fun _ => 0)
  | c + 1 => if injN (dgN ζ c) (ζ 5 0) ∧ (hbS ζ W c).1 < ↑(W c) then (↑(W c), dgN ζ c) else hbS ζ W c
theorem hbS_bd (ζ : Nat → Nat → Nat) {W : Nat → Nat} (hW : ∀ c, W c ≤ 99) : ∀ c, -1 ≤ (hbS ζ W c).1 ∧ (hbS ζ W c).1 ≤ 99
  | 0 => ⟨by show (-1 : Int) ≤ -1; decide, by show (-1 : Int) ≤ 99; decide⟩
  | c + 1 => by
    have h1 := hbS_bd ζ hW c
    have h2 := hW c
    simp only [hbS]
    split
    · exact ⟨by simp only; omega, by simp only; omega⟩
    · exact h1
def hbW (ζ : Nat → Nat → Nat) (V : Nat → Nat) (n : Int) (c : Nat) : Nat := if n < 0 then mLast ζ (mHg ζ V c) else popN (mG ζ (mDs ζ mF (mHg ζ V c) n.toNat))
theorem mLast_le (ζ : Nat → Nat → Nat) (X : Nat → Nat) : mLast ζ X ≤ 99 := by
  have := fstN_le (mNoQ ζ X) 99 0
  unfold mLast; omega
theorem hbW_le (ζ : Nat → Nat → Nat) (V : Nat → Nat) (n : Int) (c : Nat) : hbW ζ V n c ≤ 99 := by
  unfold hbW
  split
  · exact mLast_le _ _
  · have := popN_le (mG ζ (mDs ζ mF (mHg ζ V c) n.toNat)); omega
/-- only x and the best hooks have changed -/
def frK (ad : Nat → Nat) (h h' : ssH) : Prop := ∀ b, b ≠ ad 203 → b ≠ ad 206 → h' b = h b
theorem frK.rf (ad : Nat → Nat) (h : ssH) : frK ad h h := fun _ _ _ => rfl
theorem frK.x {ad : Nat → Nat} {h h1 h2 : ssH} (a : frK ad h h1) {e : ssE} (e2 : hset h1 (ad 203) e = h2) : frK ad h h2 := fun b p q => by rw [← e2, hset_ne _ _ p]; exact a b p q
theorem frK.b {ad : Nat → Nat} {h h1 h2 : ssH} (a : frK ad h h1) {e : ssE} (e2 : hset h1 (ad 206) e = h2) : frK ad h h2 := fun b p q => by rw [← e2, hset_ne _ _ q]; exact a b p q
def hbI (ζ : Nat → Nat → Nat) (V : Nat → Nat) (n : Int) (ad : Nat → Nat) (rv : Value) (m : Nat → Int) (h : ssH) (c : Nat) (hh : ssH) : Prop := ∃ Y B, MX hh ad rv m ζ Y ∧ XOk Y ∧ hh (ad 202) = some (ar 26 V) ∧ hh (ad 206) = some (ar 6 B) ∧ frK ad h hh ∧ (0 ≤ (hbS ζ (hbW ζ V n) c).1 → ∀ s, s < ζ 5 0 → B s = (hbS ζ (hbW ζ V n) c).2 s)
theorem MX.b {h : ssH} {ad : Nat → Nat} {rv : Value} {m : Nat → Int} {ζ : Nat → Nat → Nat} {X : Nat → Nat} (hA : ∀ k l, ad k = ad l → k = l) (hm : MX h ad rv m ζ X) {k : Nat} (hk : 204 ≤ k ∧ k < 210) (e : ssE) : MX (hset h (ad k) e) ad rv m ζ X :=
  ⟨(hset_ne _ _ (ad_ne hA (by omega))).trans hm.1, hm.2.1.fr hA (by omega), (hset_ne _ _ (ad_ne hA (by omega))).trans hm.2.2⟩
theorem mD_lo {ζ : Nat → Nat → Nat} (b : Bool) (X : Nat → Nat) {k : Nat} (hk : k < 12) : mD ζ b X k = X k := by simp only [mD]; rw [if_neg (by omega), mD2_lo _ _ _ _ _ hk]
theorem mDs_lo {ζ : Nat → Nat → Nat} (b : Nat → Bool) (X : Nat → Nat) {k : Nat} (hk : k < 12) : ∀ n, mDs ζ b X n k = X k
  | 0 => rfl
  | n + 1 => (mD_lo _ _ hk).trans (mDs_lo b X hk n)
set_option maxRecDepth 100000 in
set_option maxHeartbeats 400000 in
theorem q_hangs (G : ssG) (h : ssH) {ad : Nat → Nat} {rv : Value} {m : Nat → Int} {ζ : Nat → Nat → Nat} {X : Nat → Nat} {V : Nat → Nat} (c : Nat) (hA : ∀ k l, ad k = ad l → k = l) (hm : MX h ad rv m ζ X) (hz : SaOk ζ) (hx : XOk X) (hv : h (ad 202) = some (ar 26 V)) (hV : XOk V) (h4 : 0 < ζ 4 0) (hc : c < 2147483648) : ssC G mX10_hangs 1 0 0 [.ref (ad 200), .int (zI ↑c)] h (mHQ ζ V c ad h) := by
  refine c_of_v okX10_hangs (by decide +kernel) (ls := [some (.ref (ad 200)), some (.int (zI ↑c)), none, none, none]) rfl (Nat.le_of_ble_eq_true rfl) ?_
  obtain ⟨z0, z1, z2, z3, z4, z5, z6, z9, z12, z13, z14, z15, z16, z17, z18, z19, z20⟩ := id hz
  obtain ⟨x0, x6, x12, x18, x24, x25, x26⟩ := id hx
  refine v_run 1 (pc' := 1) (ls' := [some (.ref (ad 200)), some (.int (zI ↑c)), none, none, none]) (st' := [.ref (ad 200)]) rfl ?_
  refine v_callV (My := mX10_works) (As := []) (rest := []) (mc := 0) (ms := 0) rfl caX10_works rfl rfl rfl hm.1 rfl rfl (q_works G _ hA hm hz hx hv hV) rfl rfl (Nat.le_of_ble_eq_true rfl) (by omega) ?_
  rintro _ _ ⟨rfl, rfl⟩
  refine v_run 0 (pc' := 4) (ls' := [some (.ref (ad 200)), some (.int (zI ↑c)), none, none, none]) (st' := []) rfl ?_
  refine v_run 5 (pc' := 9) (ls' := [some (.ref (ad 200)), some (.int (zI ↑c)), some (.int (zI ↑c)), some (.int (zI 0)), none]) (st' := [.ref (ad 200)]) rfl ?_
  refine v_get rfl (hm.x hA (V)).1 rfl ?_
  refine v_run 0 (pc' := 12) (ls' := [some (.ref (ad 200)), some (.int (zI ↑c)), some (.int (zI ↑c)), some (.int (zI 0)), none]) (st' := [.ref (ad 210)]) rfl ?_
  refine v_get rfl (hm.x hA (V)).2.1.1 rfl ?_
  refine v_run 3 (pc' := 19) (ls' := [some (.ref (ad 200)), some (.int (zI ↑c)), some (.int (zI ↑c)), some (.int (zI 0)), some (.int ((zI ↑(ζ 5 0)) - (zI 1)))]) (st' := []) rfl ?_
  refine v_run 0 (pc' := 19) (ls' := [some (.ref (ad 200)), some (.int (zI ↑c)), some (.int (zI ↑(c / ζ 4 0 ^ 0))), some (.int (zI ↑(0 : Nat))), some (.int (zI (↑(ζ 5 0) - 1 - ↑(0 : Nat))))]) (st' := []) (by rw [show (zI ↑(ζ 5 0)) - (zI 1) = zI (↑(ζ 5 0) - 1 - ↑(0 : Nat)) from by rw [zI_sub]; congr 1; omega, show c / ζ 4 0 ^ 0 = c by simp]; rfl) ?_
  refine v_drop 1 rfl ?_
  have lp : ∀ (n j t : Nat), (j ≤ ζ 5 0 ∧ t < 64 ∧ mHi ζ c j t) → ζ 5 0 + 1 ≤ j + n → ssV G mX10_hangs 1 0 0 (mHQ ζ V c ad h) 19 [some (.ref (ad 200)), none, some (.int (zI ↑(c / ζ 4 0 ^ j))), some (.int (zI ↑t)), some (.int (zI (↑(ζ 5 0) - 1 - ↑j)))] [] (hset h (ad 203) (ar 26 (hgX ζ V c j))) := by
    intro n
    induction n with
    | zero => intro j t hs1 hs2; exact absurd hs2 (by omega)
    | succ n ih =>
      intro j t hs1 hs2
      have c6 : c / ζ 4 0 ^ j < 2147483648 := Nat.lt_of_le_of_lt (Nat.div_le_self _ _) hc
      refine v_run 1 (pc' := 21) (ls' := [some (.ref (ad 200)), none, some (.int (zI ↑(c / ζ 4 0 ^ j))), some (.int (zI ↑t)), some (.int (zI (↑(ζ 5 0) - 1 - ↑j)))]) (st' := [.int (zI (↑(ζ 5 0) - 1 - ↑j))]) rfl ?_
      refine v_if_lt rfl (fun c21 => ?_) (fun c21 => ?_)
      · simp (disch := omega) only [zI_lt, zI_le, zI_eq, zI_lt0, zI_le0, zI_0lt, zI_0le, zI_eq0] at c21
        refine v_run 1 (pc' := 85) (ls' := [some (.ref (ad 200)), none, some (.int (zI ↑(c / ζ 4 0 ^ j))), some (.int (zI ↑t)), some (.int (zI (↑(ζ 5 0) - 1 - ↑j)))]) (st' := [.int (zI 1)]) rfl ?_
        exact v_iret rfl rfl rfl (mHQ_t hz hV h4 (mHi_inj (show j = ζ 5 0 by omega) hs1.2.2) (by rw [show j = ζ 5 0 by omega]; exact congrArg (fun z => hset h (ad 203) (ar 26 z)) (hgX_all ζ V c)))
      · simp (disch := omega) only [zI_lt, zI_le, zI_eq, zI_lt0, zI_le0, zI_0lt, zI_0le, zI_eq0] at c21
        obtain ⟨u, hu⟩ : ∃ u, u + 1 + j = ζ 5 0 := ⟨ζ 5 0 - 1 - j, by omega⟩
        rw [show (zI (↑(ζ 5 0) - 1 - ↑j) : Int32) = zI ↑u from by congr 1; omega]
        have dl : c / ζ 4 0 ^ j % ζ 4 0 < ζ 4 0 := Nat.mod_lt _ h4
        refine v_run 1 (pc' := 25) (ls' := [some (.ref (ad 200)), none, some (.int (zI ↑(c / ζ 4 0 ^ j))), some (.int (zI ↑t)), some (.int (zI ↑u))]) (st' := [.ref (ad 200)]) rfl ?_
        refine v_get rfl (hm.x hA (hgX ζ V c j)).1 rfl ?_
        refine v_run 3 (pc' := 32) (ls' := [some (.ref (ad 200)), none, some (.int (zI ↑(c / ζ 4 0 ^ j))), some (.int (zI ↑t)), some (.int (zI ↑u))]) (st' := [.ref (ad 200), .int (zI ↑(c / ζ 4 0 ^ j)), .int (zI ↑u), .ref (ad 203)]) rfl ?_
        refine v_get rfl (hm.x hA (hgX ζ V c j)).1 rfl ?_
        refine v_run 0 (pc' := 35) (ls' := [some (.ref (ad 200)), none, some (.int (zI ↑(c / ζ 4 0 ^ j))), some (.int (zI ↑t)), some (.int (zI ↑u))]) (st' := [.ref (ad 210), .int (zI ↑(c / ζ 4 0 ^ j)), .int (zI ↑u), .ref (ad 203)]) rfl ?_
        refine v_get rfl (hm.x hA (hgX ζ V c j)).2.1.1 rfl ?_
        refine v_run 0 (pc' := 38) (ls' := [some (.ref (ad 200)), none, some (.int (zI ↑(c / ζ 4 0 ^ j))), some (.int (zI ↑t)), some (.int (zI ↑u))]) (st' := [.int (zI ↑(ζ 4 0)), .int (zI ↑(c / ζ 4 0 ^ j)), .int (zI ↑u), .ref (ad 203)]) rfl ?_
        refine v_irem rfl (zI_ne0 (by omega) (by omega)) ?_
        rw [show ((zI ↑(c / ζ 4 0 ^ j) - zI ↑(c / ζ 4 0 ^ j) / zI ↑(ζ 4 0) * zI ↑(ζ 4 0)) : Int32) = zI ↑(c / ζ 4 0 ^ j % ζ 4 0) from zN_rem (by omega) (by omega) (by omega)]
        refine v_iastore' rfl (hm.x hA (hgX ζ V c j)).2.2 (i := u) rfl (by omega) ?_
        rw [ar_upd, hset_hset, show (fun i => if i = u then c / ζ 4 0 ^ j % ζ 4 0 else hgX ζ V c j i) = hgX ζ V c (j + 1) from hgX_s ζ V c hu]
        have eu : hgX ζ V c (j + 1) u = c / ζ 4 0 ^ j % ζ 4 0 := hgX_u ζ V c hu
        refine v_run 2 (pc' := 42) (ls' := [some (.ref (ad 200)), none, some (.int (zI ↑(c / ζ 4 0 ^ j))), some (.int (zI ↑t)), some (.int (zI ↑u))]) (st' := [.ref (ad 200), .int (zI ↑(c / ζ 4 0 ^ j))]) rfl ?_
        refine v_get rfl (hm.x hA ((hgX ζ V c (j + 1)))).1 rfl ?_
        refine v_run 0 (pc' := 45) (ls' := [some (.ref (ad 200)), none, some (.int (zI ↑(c / ζ 4 0 ^ j))), some (.int (zI ↑t)), some (.int (zI ↑u))]) (st' := [.ref (ad 210), .int (zI ↑(c / ζ 4 0 ^ j))]) rfl ?_
        refine v_get rfl (hm.x hA ((hgX ζ V c (j + 1)))).2.1.1 rfl ?_
        refine v_run 0 (pc' := 48) (ls' := [some (.ref (ad 200)), none, some (.int (zI ↑(c / ζ 4 0 ^ j))), some (.int (zI ↑t)), some (.int (zI ↑u))]) (st' := [.int (zI ↑(ζ 4 0)), .int (zI ↑(c / ζ 4 0 ^ j))]) rfl ?_
        refine v_idiv rfl (zI_ne0 (by omega) (by omega)) ?_
        rw [show ((zI ↑(c / ζ 4 0 ^ j) / zI ↑(ζ 4 0)) : Int32) = zI ↑(c / ζ 4 0 ^ (j + 1)) from by rw [zN_div (by omega) (by omega) (by omega), Nat.div_div_eq_div_mul, Nat.pow_succ]]
        refine v_run 3 (pc' := 52) (ls' := [some (.ref (ad 200)), none, some (.int (zI ↑(c / ζ 4 0 ^ (j + 1)))), some (.int (zI ↑t)), some (.int (zI ↑u))]) (st' := [.ref (ad 200), .int (zI ↑t)]) rfl ?_
        refine v_get rfl (hm.x hA ((hgX ζ V c (j + 1)))).1 rfl ?_
        refine v_run 1 (pc' := 57) (ls' := [some (.ref (ad 200)), none, some (.int (zI ↑(c / ζ 4 0 ^ (j + 1)))), some (.int (zI ↑t)), some (.int (zI ↑u))]) (st' := [.int (zI ↑u), .ref (ad 203), .int (zI ↑t)]) rfl ?_
        refine v_iaload' rfl (hm.x hA ((hgX ζ V c (j + 1)))).2.2 (i := u) rfl (by omega) ?_
        refine v_run 0 (pc' := 58) (ls' := [some (.ref (ad 200)), none, some (.int (zI ↑(c / ζ 4 0 ^ (j + 1)))), some (.int (zI ↑t)), some (.int (zI ↑u))]) (st' := [.int (zI ↑((hgX ζ V c (j + 1)) u)), .int (zI ↑t)]) rfl ?_
        rw [show (zI ↑((hgX ζ V c (j + 1)) u) : Int32) = zI ↑(c / ζ 4 0 ^ j % ζ 4 0) from congrArg (fun n : Nat => zI ↑n) (eu)]
        refine v_callS (My := mX10_bit) (As := [.int (zI ↑t), .int (zI ↑(c / ζ 4 0 ^ j % ζ 4 0))]) (rest := []) (mc := 0) (ms := 0) rfl caX10_bit rfl rfl (q_bit G _ t (c / ζ 4 0 ^ j % ζ 4 0) (by omega) (by omega)) rfl rfl (Nat.le_of_ble_eq_true rfl) (by omega) ?_
        rintro _ _ ⟨rfl, rfl⟩
        refine v_run 0 (pc' := 61) (ls' := [some (.ref (ad 200)), none, some (.int (zI ↑(c / ζ 4 0 ^ (j + 1)))), some (.int (zI ↑t)), some (.int (zI ↑u))]) (st' := [.int (zb (bitN t (c / ζ 4 0 ^ j % ζ 4 0)))]) rfl ?_
        refine v_if_eq rfl (fun c61 => ?_) (fun c61 => ?_)
        · rw [zb_0] at c61
          refine v_run 3 (pc' := 69) (ls' := [some (.ref (ad 200)), none, some (.int (zI ↑(c / ζ 4 0 ^ (j + 1)))), some (.int (zI ↑t)), some (.int (zI ↑u))]) (st' := [.ref (ad 200), .int (zI 1), .int (zI ↑t)]) rfl ?_
          refine v_get rfl (hm.x hA ((hgX ζ V c (j + 1)))).1 rfl ?_
          refine v_run 1 (pc' := 74) (ls' := [some (.ref (ad 200)), none, some (.int (zI ↑(c / ζ 4 0 ^ (j + 1)))), some (.int (zI ↑t)), some (.int (zI ↑u))]) (st' := [.int (zI ↑u), .ref (ad 203), .int (zI 1), .int (zI ↑t)]) rfl ?_
          refine v_iaload' rfl (hm.x hA ((hgX ζ V c (j + 1)))).2.2 (i := u) rfl (by omega) ?_
          refine v_run 0 (pc' := 75) (ls' := [some (.ref (ad 200)), none, some (.int (zI ↑(c / ζ 4 0 ^ (j + 1)))), some (.int (zI ↑t)), some (.int (zI ↑u))]) (st' := [.int (zI ↑((hgX ζ V c (j + 1)) u)), .int (zI 1), .int (zI ↑t)]) rfl ?_
          rw [show (zI ↑((hgX ζ V c (j + 1)) u) : Int32) = zI ↑(c / ζ 4 0 ^ j % ζ 4 0) from congrArg (fun n : Nat => zI ↑n) (eu)]
          refine v_run 2 (pc' := 77) (ls' := [some (.ref (ad 200)), none, some (.int (zI ↑(c / ζ 4 0 ^ (j + 1)))), some (.int (zI ↑t)), some (.int (zI ↑u))]) (st' := [.int ((zI ↑t) ||| ((zI 1) <<< ((zI ↑(c / ζ 4 0 ^ j % ζ 4 0)) &&& 31)))]) rfl ?_
          rw [show ((zI ↑t) ||| ((zI 1) <<< ((zI ↑(c / ζ 4 0 ^ j % ζ 4 0)) &&& 31)) : Int32) = zI ↑(t ||| 2 ^ (c / ζ 4 0 ^ j % ζ 4 0)) from by rw [zI_1shl (by omega), zI_lor (by omega) (by have p5 := Nat.pow_le_pow_right (n := 2) (by decide) (show c / ζ 4 0 ^ j % ζ 4 0 ≤ 6 by omega); omega)]]
          refine v_run 3 (pc' := 19) (ls' := [some (.ref (ad 200)), none, some (.int (zI ↑(c / ζ 4 0 ^ (j + 1)))), some (.int (zI ↑(t ||| 2 ^ (c / ζ 4 0 ^ j % ζ 4 0)))), some (.int ((zI ↑u) + zI (-1)))]) (st' := []) rfl ?_
          rw [show (zI ↑u) + (zI (-1)) = zI (↑(ζ 5 0) - 1 - ↑(j + 1)) from by rw [zI_add]; congr 1; omega]
          exact ih (j + 1) (t ||| 2 ^ (c / ζ 4 0 ^ j % ζ 4 0)) ⟨by omega, Nat.or_lt_two_pow (n := 6) hs1.2.1 (Nat.pow_lt_pow_right (a := 2) (by decide) (by omega)), mHi_s hs1.2.2 c61⟩ (by omega)
        · rw [zb_0, Bool.not_eq_false] at c61
          refine v_run 1 (pc' := 65) (ls' := [some (.ref (ad 200)), none, some (.int (zI ↑(c / ζ 4 0 ^ (j + 1)))), some (.int (zI ↑t)), some (.int (zI ↑u))]) (st' := [.int (zI 0)]) rfl ?_
          exact v_iret rfl rfl rfl (mHQ_f (mHi_no hu hs1.2.2 c61) (hgX_ok hz hV h4 (by omega)) rfl)
  have lr := lp (ζ 5 0 + 1) 0 0 ⟨by omega, by omega, mHi_0 ζ c⟩ (by omega)
  rw [hgX_0] at lr
  exact lr

set_option maxRecDepth 100000 in
set_option maxHeartbeats 400000 in
theorem q_keeps (G : ssG) (h : ssH) {ad : Nat → Nat} {rv : Value} {m : Nat → Int} {ζ : Nat → Nat → Nat} {X : Nat → Nat} {B : Nat → Nat} (hA : ∀ k l, ad k = ad l → k = l) (hm : MX h ad rv m ζ X) (hz : SaOk ζ) (hx : XOk X) (hb : h (ad 206) = some (ar 6 B)) : ssC G mX10_keeps 0 0 0 [.ref (ad 200)] h (rV (hset h (ad 206) (ar 6 (fun k => if k < 6 then X k else B k)))) := by
  refine c_of_v okX10_keeps (by decide +kernel) (ls := [some (.ref (ad 200)), none]) rfl (Nat.le_of_ble_eq_true rfl) ?_
  obtain ⟨z0, z1, z2, z3, z4, z5, z6, z9, z12, z13, z14, z15, z16, z17, z18, z19, z20⟩ := id hz
  obtain ⟨x0, x6, x12, x18, x24, x25, x26⟩ := id hx
  refine v_run 2 (pc' := 2) (ls' := [some (.ref (ad 200)), some (.int (zI 0))]) (st' := []) rfl ?_
  have lp : ∀ (n s : Nat), s ≤ 6 → 6 + 1 ≤ s + n → ssV G mX10_keeps 0 0 0 (rV (hset h (ad 206) (ar 6 (fun k => if k < 6 then X k else B k)))) 2 [some (.ref (ad 200)), some (.int (zI ↑s))] [] (hset h (ad 206) (ar 6 (fun k => if k < s then X k else B k))) := by
    intro n
    induction n with
    | zero => intro s hs1 hs2; exact absurd hs2 (by omega)
    | succ n ih =>
      intro s hs1 hs2
      refine v_run 2 (pc' := 5) (ls' := [some (.ref (ad 200)), some (.int (zI ↑s))]) (st' := [.int (zI 6), .int (zI ↑s)]) rfl ?_
      refine v_icmp_ge rfl (fun c5 => ?_) (fun c5 => ?_)
      · simp (disch := omega) only [zI_lt, zI_le, zI_eq, zI_lt0, zI_le0, zI_0lt, zI_0le, zI_eq0] at c5
        exact v_vret rfl rfl ⟨rfl, by rw [show s = 6 by omega]⟩
      · simp (disch := omega) only [zI_lt, zI_le, zI_eq, zI_lt0, zI_le0, zI_0lt, zI_0le, zI_eq0] at c5
        refine v_run 1 (pc' := 9) (ls' := [some (.ref (ad 200)), some (.int (zI ↑s))]) (st' := [.ref (ad 200)]) rfl ?_
        refine v_get rfl ((hset_ne _ _ (ad_ne hA (by decide))).trans hm.1) rfl ?_
        refine v_run 2 (pc' := 14) (ls' := [some (.ref (ad 200)), some (.int (zI ↑s))]) (st' := [.ref (ad 200), .int (zI ↑s), .ref (ad 206)]) rfl ?_
        refine v_get rfl ((hset_ne _ _ (ad_ne hA (by decide))).trans hm.1) rfl ?_
        refine v_run 1 (pc' := 18) (ls' := [some (.ref (ad 200)), some (.int (zI ↑s))]) (st' := [.int (zI ↑s), .ref (ad 203), .int (zI ↑s), .ref (ad 206)]) rfl ?_
        refine v_iaload' rfl ((hset_ne _ _ (ad_ne hA (by decide))).trans hm.2.2) (i := s) rfl (by omega) ?_
        refine v_run 0 (pc' := 19) (ls' := [some (.ref (ad 200)), some (.int (zI ↑s))]) (st' := [.int (zI ↑(X s)), .int (zI ↑s), .ref (ad 206)]) rfl ?_
        refine v_iastore' rfl (hset_self _ _ _) (i := s) rfl (by omega) ?_
        rw [ar_upd, hset_hset, show (fun j => if j = s then X s else (fun k => if k < s then X k else B k) j) = (fun k => if k < s + 1 then X k else B k) from fill_step s]
        refine v_run 2 (pc' := 2) (ls' := [some (.ref (ad 200)), some (.int ((zI ↑s) + zI 1))]) (st' := []) rfl ?_
        rw [zI_s1]
        exact ih (s + 1) (by omega) (by omega)
  have lr := lp 7 0 (by omega) (by omega)
  rw [show (fun k => if k < 0 then X k else B k) = B from by funext t; simp, hset_same h hb] at lr
  exact lr

set_option maxRecDepth 100000 in
set_option maxHeartbeats 400000 in
theorem q_hangsBestN (G : ssG) (h : ssH) {ad : Nat → Nat} {rv : Value} {m : Nat → Int} {ζ : Nat → Nat → Nat} {X : Nat → Nat} {V B : Nat → Nat} (k : Nat) (hA : ∀ k l, ad k = ad l → k = l) (hm : MX h ad rv m ζ X) (hz : SaOk ζ) (hx : XOk X) (hv : h (ad 202) = some (ar 26 V)) (hV : XOk V) (hb : h (ad 206) = some (ar 6 B)) (h4 : 0 < ζ 4 0) (hd : V 23 ≤ 99) (hk : k ≤ 60) : ssC G mX10_hangsBest 4 0 0 [.ref (ad 200), .int (zI ↑k)] h (fun r h' => r = some (.int (zI (hbS ζ (hbW ζ V ↑k) (ζ 4 0 ^ ζ 5 0)).1)) ∧ hbI ζ V ↑k ad rv m h (ζ 4 0 ^ ζ 5 0) h') := by
  refine c_of_v okX10_hangsBest (by decide +kernel) (ls := [some (.ref (ad 200)), some (.int (zI ↑k)), none, none, none]) rfl (Nat.le_of_ble_eq_true rfl) ?_
  obtain ⟨z0, z1, z2, z3, z4, z5, z6, z9, z12, z13, z14, z15, z16, z17, z18, z19, z20⟩ := id hz
  obtain ⟨x0, x6, x12, x18, x24, x25, x26⟩ := id hx
  refine v_run 4 (pc' := 4) (ls' := [some (.ref (ad 200)), some (.int (zI ↑k)), some (.int (zI (-1))), some (.int (zI 0)), none]) (st' := []) rfl ?_
  obtain ⟨pw, hpw⟩ : ∃ pw, pw = ζ 4 0 ^ ζ 5 0 := ⟨_, rfl⟩
  have p6 : pw ≤ 46656 := hpw ▸ Nat.le_trans (Nat.pow_le_pow_left z4 (ζ 5 0)) (Nat.pow_le_pow_right (n := 6) (by decide) z5)
  have lp : ∀ (n c : Nat) (hh : ssH), (c ≤ pw ∧ hbI ζ V ↑k ad rv m h c hh) → pw + 1 ≤ c + n → ssV G mX10_hangsBest 4 0 0 (fun r h' => r = some (.int (zI (hbS ζ (hbW ζ V ↑k) (ζ 4 0 ^ ζ 5 0)).1)) ∧ hbI ζ V ↑k ad rv m h (ζ 4 0 ^ ζ 5 0) h') 4 [some (.ref (ad 200)), some (.int (zI ↑k)), some (.int (zI (hbS ζ (hbW ζ V ↑k) c).1)), some (.int (zI ↑c)), none] [] hh := by
    intro n
    induction n with
    | zero => intro c hh hs1 hs2; exact absurd hs2 (by omega)
    | succ n ih =>
      intro c hh hs1 hs2
      obtain ⟨hc0, Y, B, hm0, hY, hv0, hb0, hf0, hk0⟩ := id hs1
      have bd := hbS_bd ζ (hbW_le ζ V ↑k) c
      have wl := hbW_le ζ V ↑k c
      refine v_run 2 (pc' := 6) (ls' := [some (.ref (ad 200)), some (.int (zI ↑k)), some (.int (zI (hbS ζ (hbW ζ V ↑k) c).1)), some (.int (zI ↑c)), none]) (st' := [.ref (ad 200), .int (zI ↑c)]) rfl ?_
      refine v_callV (My := mX10_rows) (As := []) (rest := [.int (zI ↑c)]) (mc := 0) (ms := 0) rfl caX10_rows rfl rfl rfl hm0.1 rfl rfl (q_rows G _ hA hm0 hz hY) rfl rfl (Nat.le_of_ble_eq_true rfl) (by omega) ?_
      rintro _ _ ⟨rfl, rfl⟩
      refine v_run 0 (pc' := 9) (ls' := [some (.ref (ad 200)), some (.int (zI ↑k)), some (.int (zI (hbS ζ (hbW ζ V ↑k) c).1)), some (.int (zI ↑c)), none]) (st' := [.int (zI ↑(ζ 4 0 ^ ζ 5 0)), .int (zI ↑c)]) rfl ?_
      rw [show (zI ↑(ζ 4 0 ^ ζ 5 0) : Int32) = zI ↑pw from by rw [hpw]]
      refine v_icmp_ge rfl (fun c9 => ?_) (fun c9 => ?_)
      · simp (disch := omega) only [zI_lt, zI_le, zI_eq, zI_lt0, zI_le0, zI_0lt, zI_0le, zI_eq0] at c9
        refine v_run 1 (pc' := 75) (ls' := [some (.ref (ad 200)), some (.int (zI ↑k)), some (.int (zI (hbS ζ (hbW ζ V ↑k) c).1)), some (.int (zI ↑c)), none]) (st' := [.int (zI (hbS ζ (hbW ζ V ↑k) c).1)]) rfl ?_
        exact v_iret rfl rfl rfl (by rw [← hpw, ← show c = pw by omega]; exact ⟨rfl, hs1.2⟩)
      · simp (disch := omega) only [zI_lt, zI_le, zI_eq, zI_lt0, zI_le0, zI_0lt, zI_0le, zI_eq0] at c9
        refine v_run 2 (pc' := 14) (ls' := [some (.ref (ad 200)), some (.int (zI ↑k)), some (.int (zI (hbS ζ (hbW ζ V ↑k) c).1)), some (.int (zI ↑c)), none]) (st' := [.int (zI ↑c), .ref (ad 200)]) rfl ?_
        refine v_callV (My := mX10_hangs) (As := [.int (zI ↑c)]) (rest := []) (mc := 0) (ms := 0) rfl caX10_hangs rfl rfl rfl hm0.1 rfl rfl (q_hangs G _ c hA hm0 hz hY hv0 hV h4 (by omega)) rfl rfl (Nat.le_of_ble_eq_true rfl) (by omega) ?_
        rintro _ h1 ⟨rfl, Y1, hY1, eY, e1⟩
        have hm1 : MX h1 ad rv m ζ Y1 := e1 ▸ hm0.x hA Y1
        have hv1 : h1 (ad 202) = some (ar 26 V) := by rw [← e1, hset_ne _ _ (ad_ne hA (by decide))]; exact hv0
        have hb1 : h1 (ad 206) = some (ar 6 B) := by rw [← e1, hset_ne _ _ (ad_ne hA (by decide))]; exact hb0
        have hf1 := hf0.x e1
        refine v_run 0 (pc' := 17) (ls' := [some (.ref (ad 200)), some (.int (zI ↑k)), some (.int (zI (hbS ζ (hbW ζ V ↑k) c).1)), some (.int (zI ↑c)), none]) (st' := [.int (zb (decide (injN (dgN ζ c) (ζ 5 0))))]) rfl ?_
        refine v_if_ne rfl (fun c17 => ?_) (fun c17 => ?_)
        · rw [zb_0, Bool.not_eq_false, decide_eq_true_eq] at c17
          obtain rfl := eY c17
          refine v_run 1 (pc' := 24) (ls' := [some (.ref (ad 200)), some (.int (zI ↑k)), some (.int (zI (hbS ζ (hbW ζ V ↑k) c).1)), some (.int (zI ↑c)), none]) (st' := [.int (zI ↑k)]) rfl ?_
          have d23 : mHg ζ V c 23 = V 23 := by simp only [mHg]; rw [if_neg (by omega)]
          refine v_if_lt rfl (fun c24 => ?_) (fun c24 => ?_)
          · exfalso; revert c24; simp (disch := omega) only [zI_lt, zI_le, zI_eq, zI_lt0, zI_le0, zI_0lt, zI_0le, zI_eq0]; omega
          · refine v_run 2 (pc' := 29) (ls' := [some (.ref (ad 200)), some (.int (zI ↑k)), some (.int (zI (hbS ζ (hbW ζ V ↑k) c).1)), some (.int (zI ↑c)), none]) (st' := [.int (zI ↑k), .ref (ad 200)]) rfl ?_
            refine v_callV (My := mX10_daysOn) (As := [.int (zI ↑k)]) (rest := []) (mc := 0) (ms := 0) rfl caX10_daysOn rfl rfl rfl hm1.1 rfl rfl (q_daysOn G _ k hA hm1 hz hY1 (by rw [d23]; omega)) rfl rfl (Nat.le_of_ble_eq_true rfl) (by omega) ?_
            rintro _ h2 ⟨rfl, e2⟩
            refine v_run 0 (pc' := 32) (ls' := [some (.ref (ad 200)), some (.int (zI ↑k)), some (.int (zI (hbS ζ (hbW ζ V ↑k) c).1)), some (.int (zI ↑c)), none]) (st' := []) rfl ?_
            have hY2 : XOk (mDs ζ mF (mHg ζ V c) k) := mDs_ok hz hY1 _
            have hm2 : MX h2 ad rv m ζ (mDs ζ mF (mHg ζ V c) k) := e2 ▸ hm1.x hA _
            have hv2 : h2 (ad 202) = some (ar 26 V) := by rw [← e2, hset_ne _ _ (ad_ne hA (by decide))]; exact hv1
            have hb2 : h2 (ad 206) = some (ar 6 B) := by rw [← e2, hset_ne _ _ (ad_ne hA (by decide))]; exact hb1
            have hf2 := hf1.x e2
            refine v_run 1 (pc' := 33) (ls' := [some (.ref (ad 200)), some (.int (zI ↑k)), some (.int (zI (hbS ζ (hbW ζ V ↑k) c).1)), some (.int (zI ↑c)), none]) (st' := [.int (zI ↑k)]) rfl ?_
            refine v_if_ge rfl (fun c33 => ?_) (fun c33 => ?_)
            · refine v_run 1 (pc' := 44) (ls' := [some (.ref (ad 200)), some (.int (zI ↑k)), some (.int (zI (hbS ζ (hbW ζ V ↑k) c).1)), some (.int (zI ↑c)), none]) (st' := [.ref (ad 200)]) rfl ?_
              refine v_callV (My := mX10_goodNow) (As := []) (rest := []) (mc := 0) (ms := 0) rfl caX10_goodNow rfl rfl rfl hm2.1 rfl rfl (q_goodNow G _ hA hm2 hz hY2) rfl rfl (Nat.le_of_ble_eq_true rfl) (by omega) ?_
              rintro _ _ ⟨rfl, rfl⟩
              refine v_run 0 (pc' := 47) (ls' := [some (.ref (ad 200)), some (.int (zI ↑k)), some (.int (zI (hbS ζ (hbW ζ V ↑k) c).1)), some (.int (zI ↑c)), none]) (st' := [.int (zI ↑(mG ζ (mDs ζ mF (mHg ζ V c) k)))]) rfl ?_
              refine v_callS (My := mX10_bits) (As := [.int (zI ↑(mG ζ (mDs ζ mF (mHg ζ V c) k)))]) (rest := []) (mc := 0) (ms := 0) rfl caX10_bits rfl rfl (q_bits G _ (mG ζ (mDs ζ mF (mHg ζ V c) k)) (setN_lt64 _ z5)) rfl rfl (Nat.le_of_ble_eq_true rfl) (by omega) ?_
              rintro _ _ ⟨rfl, rfl⟩
              refine v_run 0 (pc' := 50) (ls' := [some (.ref (ad 200)), some (.int (zI ↑k)), some (.int (zI (hbS ζ (hbW ζ V ↑k) c).1)), some (.int (zI ↑c)), none]) (st' := [.int (zI ↑(popN (mG ζ (mDs ζ mF (mHg ζ V c) k))))]) rfl ?_
              rw [show (zI ↑(popN (mG ζ (mDs ζ mF (mHg ζ V c) k))) : Int32) = zI ↑(hbW ζ V ↑k c) from by rw [hbW, if_neg (by omega)]; rfl]
              refine v_run 3 (pc' := 55) (ls' := [some (.ref (ad 200)), some (.int (zI ↑k)), some (.int (zI (hbS ζ (hbW ζ V ↑k) c).1)), some (.int (zI ↑c)), some (.int (zI ↑(hbW ζ V ↑k c)))]) (st' := [.int (zI (hbS ζ (hbW ζ V ↑k) c).1), .int (zI ↑(hbW ζ V ↑k c))]) rfl ?_
              refine v_icmp_gt rfl (fun c55 => ?_) (fun c55 => ?_)
              · simp (disch := omega) only [zI_lt, zI_le, zI_eq, zI_lt0, zI_le0, zI_0lt, zI_0le, zI_eq0] at c55
                refine v_run 3 (pc' := 65) (ls' := [some (.ref (ad 200)), some (.int (zI ↑k)), some (.int (zI ↑(hbW ζ V ↑k c))), some (.int (zI ↑c)), some (.int (zI ↑(hbW ζ V ↑k c)))]) (st' := [.ref (ad 200)]) rfl ?_
                refine v_callV (My := mX10_keeps) (As := []) (rest := []) (mc := 0) (ms := 0) rfl caX10_keeps rfl rfl rfl hm2.1 rfl rfl (q_keeps G _ hA hm2 hz hY2 hb2) rfl rfl (Nat.le_of_ble_eq_true rfl) (by omega) ?_
                rintro _ h3 ⟨rfl, e3⟩
                refine v_run 0 (pc' := 68) (ls' := [some (.ref (ad 200)), some (.int (zI ↑k)), some (.int (zI ↑(hbW ζ V ↑k c))), some (.int (zI ↑c)), some (.int (zI ↑(hbW ζ V ↑k c)))]) (st' := []) rfl ?_
                refine v_run 2 (pc' := 4) (ls' := [some (.ref (ad 200)), some (.int (zI ↑k)), some (.int (zI ↑(hbW ζ V ↑k c))), some (.int ((zI ↑c) + zI 1)), some (.int (zI ↑(hbW ζ V ↑k c)))]) (st' := []) rfl ?_
                refine v_drop 4 (ls' := [some (.ref (ad 200)), some (.int (zI ↑k)), some (.int (zI ↑(hbW ζ V ↑k c))), some (.int ((zI ↑c) + zI 1)), none]) rfl ?_
                have es : hbS ζ (hbW ζ V ↑k) (c + 1) = (↑(hbW ζ V ↑k c), dgN ζ c) := by simp only [hbS]; rw [if_pos ⟨c17, by omega⟩]
                rw [zI_s1, show zI ↑(hbW ζ V ↑k c) = zI (hbS ζ (hbW ζ V ↑k) (c + 1)).1 from by rw [es]]
                exact ih (c + 1) _ ⟨by omega, mDs ζ mF (mHg ζ V c) k, _, e3 ▸ hm2.b hA (by omega) _, hY2, by rw [← e3, hset_ne _ _ (ad_ne hA (by decide))]; exact hv2, by rw [← e3]; exact hset_self _ _ _, hf2.b e3, fun _ s hs => by rw [es]; show (if s < 6 then mDs ζ mF (mHg ζ V c) k s else B s) = _; rw [if_pos (by omega), mDs_lo _ _ (by omega)]; simp only [mHg]; rw [if_pos hs]⟩ (by omega)
              · simp (disch := omega) only [zI_lt, zI_le, zI_eq, zI_lt0, zI_le0, zI_0lt, zI_0le, zI_eq0] at c55
                refine v_run 3 (pc' := 4) (ls' := [some (.ref (ad 200)), some (.int (zI ↑k)), some (.int (zI (hbS ζ (hbW ζ V ↑k) c).1)), some (.int ((zI ↑c) + zI 1)), some (.int (zI ↑(hbW ζ V ↑k c)))]) (st' := []) rfl ?_
                refine v_drop 4 (ls' := [some (.ref (ad 200)), some (.int (zI ↑k)), some (.int (zI (hbS ζ (hbW ζ V ↑k) c).1)), some (.int ((zI ↑c) + zI 1)), none]) rfl ?_
                have es : hbS ζ (hbW ζ V ↑k) (c + 1) = hbS ζ (hbW ζ V ↑k) c := by simp only [hbS]; rw [if_neg (fun q => by omega)]
                rw [zI_s1, ← es]
                exact ih (c + 1) _ ⟨by omega, _, B, hm2, hY2, hv2, hb2, hf2, by rw [es]; exact hk0⟩ (by omega)
            · exfalso; revert c33; simp (disch := omega) only [zI_lt, zI_le, zI_eq, zI_lt0, zI_le0, zI_0lt, zI_0le, zI_eq0]; omega
        · rw [zb_0, decide_eq_false_iff_not] at c17
          refine v_run 3 (pc' := 4) (ls' := [some (.ref (ad 200)), some (.int (zI ↑k)), some (.int (zI (hbS ζ (hbW ζ V ↑k) c).1)), some (.int ((zI ↑c) + zI 1)), none]) (st' := []) rfl ?_
          have es : hbS ζ (hbW ζ V ↑k) (c + 1) = hbS ζ (hbW ζ V ↑k) c := by simp only [hbS]; rw [if_neg (fun q => c17 q.1)]
          rw [zI_s1, ← es]
          exact ih (c + 1) _ ⟨by omega, Y1, B, hm1, hY1, hv1, hb1, hf1, by rw [es]; exact hk0⟩ (by omega)
  exact lp (pw + 1) 0 h ⟨by omega, X, B, hm, hx, hv, hb, frK.rf ad h, fun q => absurd q (by show ¬ (0 : Int) ≤ -1; decide)⟩ (by omega)

set_option maxRecDepth 100000 in
set_option maxHeartbeats 400000 in
theorem q_hangsBestL (G : ssG) (h : ssH) {ad : Nat → Nat} {rv : Value} {m : Nat → Int} {ζ : Nat → Nat → Nat} {X : Nat → Nat} {V B : Nat → Nat} (hA : ∀ k l, ad k = ad l → k = l) (hm : MX h ad rv m ζ X) (hz : SaOk ζ) (hx : XOk X) (hv : h (ad 202) = some (ar 26 V)) (hV : XOk V) (hb : h (ad 206) = some (ar 6 B)) (h4 : 0 < ζ 4 0) (hd : V 23 ≤ 99) : ssC G mX10_hangsBest 4 0 0 [.ref (ad 200), .int (zI (-1))] h (fun r h' => r = some (.int (zI (hbS ζ (hbW ζ V (-1)) (ζ 4 0 ^ ζ 5 0)).1)) ∧ hbI ζ V (-1) ad rv m h (ζ 4 0 ^ ζ 5 0) h') := by
  refine c_of_v okX10_hangsBest (by decide +kernel) (ls := [some (.ref (ad 200)), some (.int (zI (-1))), none, none, none]) rfl (Nat.le_of_ble_eq_true rfl) ?_
  obtain ⟨z0, z1, z2, z3, z4, z5, z6, z9, z12, z13, z14, z15, z16, z17, z18, z19, z20⟩ := id hz
  obtain ⟨x0, x6, x12, x18, x24, x25, x26⟩ := id hx
  refine v_run 4 (pc' := 4) (ls' := [some (.ref (ad 200)), some (.int (zI (-1))), some (.int (zI (-1))), some (.int (zI 0)), none]) (st' := []) rfl ?_
  obtain ⟨pw, hpw⟩ : ∃ pw, pw = ζ 4 0 ^ ζ 5 0 := ⟨_, rfl⟩
  have p6 : pw ≤ 46656 := hpw ▸ Nat.le_trans (Nat.pow_le_pow_left z4 (ζ 5 0)) (Nat.pow_le_pow_right (n := 6) (by decide) z5)
  have lp : ∀ (n c : Nat) (hh : ssH), (c ≤ pw ∧ hbI ζ V (-1) ad rv m h c hh) → pw + 1 ≤ c + n → ssV G mX10_hangsBest 4 0 0 (fun r h' => r = some (.int (zI (hbS ζ (hbW ζ V (-1)) (ζ 4 0 ^ ζ 5 0)).1)) ∧ hbI ζ V (-1) ad rv m h (ζ 4 0 ^ ζ 5 0) h') 4 [some (.ref (ad 200)), some (.int (zI (-1))), some (.int (zI (hbS ζ (hbW ζ V (-1)) c).1)), some (.int (zI ↑c)), none] [] hh := by
    intro n
    induction n with
    | zero => intro c hh hs1 hs2; exact absurd hs2 (by omega)
    | succ n ih =>
      intro c hh hs1 hs2
      obtain ⟨hc0, Y, B, hm0, hY, hv0, hb0, hf0, hk0⟩ := id hs1
      have bd := hbS_bd ζ (hbW_le ζ V (-1)) c
      have wl := hbW_le ζ V (-1) c
      refine v_run 2 (pc' := 6) (ls' := [some (.ref (ad 200)), some (.int (zI (-1))), some (.int (zI (hbS ζ (hbW ζ V (-1)) c).1)), some (.int (zI ↑c)), none]) (st' := [.ref (ad 200), .int (zI ↑c)]) rfl ?_
      refine v_callV (My := mX10_rows) (As := []) (rest := [.int (zI ↑c)]) (mc := 0) (ms := 0) rfl caX10_rows rfl rfl rfl hm0.1 rfl rfl (q_rows G _ hA hm0 hz hY) rfl rfl (Nat.le_of_ble_eq_true rfl) (by omega) ?_
      rintro _ _ ⟨rfl, rfl⟩
      refine v_run 0 (pc' := 9) (ls' := [some (.ref (ad 200)), some (.int (zI (-1))), some (.int (zI (hbS ζ (hbW ζ V (-1)) c).1)), some (.int (zI ↑c)), none]) (st' := [.int (zI ↑(ζ 4 0 ^ ζ 5 0)), .int (zI ↑c)]) rfl ?_
      rw [show (zI ↑(ζ 4 0 ^ ζ 5 0) : Int32) = zI ↑pw from by rw [hpw]]
      refine v_icmp_ge rfl (fun c9 => ?_) (fun c9 => ?_)
      · simp (disch := omega) only [zI_lt, zI_le, zI_eq, zI_lt0, zI_le0, zI_0lt, zI_0le, zI_eq0] at c9
        refine v_run 1 (pc' := 75) (ls' := [some (.ref (ad 200)), some (.int (zI (-1))), some (.int (zI (hbS ζ (hbW ζ V (-1)) c).1)), some (.int (zI ↑c)), none]) (st' := [.int (zI (hbS ζ (hbW ζ V (-1)) c).1)]) rfl ?_
        exact v_iret rfl rfl rfl (by rw [← hpw, ← show c = pw by omega]; exact ⟨rfl, hs1.2⟩)
      · simp (disch := omega) only [zI_lt, zI_le, zI_eq, zI_lt0, zI_le0, zI_0lt, zI_0le, zI_eq0] at c9
        refine v_run 2 (pc' := 14) (ls' := [some (.ref (ad 200)), some (.int (zI (-1))), some (.int (zI (hbS ζ (hbW ζ V (-1)) c).1)), some (.int (zI ↑c)), none]) (st' := [.int (zI ↑c), .ref (ad 200)]) rfl ?_
        refine v_callV (My := mX10_hangs) (As := [.int (zI ↑c)]) (rest := []) (mc := 0) (ms := 0) rfl caX10_hangs rfl rfl rfl hm0.1 rfl rfl (q_hangs G _ c hA hm0 hz hY hv0 hV h4 (by omega)) rfl rfl (Nat.le_of_ble_eq_true rfl) (by omega) ?_
        rintro _ h1 ⟨rfl, Y1, hY1, eY, e1⟩
        have hm1 : MX h1 ad rv m ζ Y1 := e1 ▸ hm0.x hA Y1
        have hv1 : h1 (ad 202) = some (ar 26 V) := by rw [← e1, hset_ne _ _ (ad_ne hA (by decide))]; exact hv0
        have hb1 : h1 (ad 206) = some (ar 6 B) := by rw [← e1, hset_ne _ _ (ad_ne hA (by decide))]; exact hb0
        have hf1 := hf0.x e1
        refine v_run 0 (pc' := 17) (ls' := [some (.ref (ad 200)), some (.int (zI (-1))), some (.int (zI (hbS ζ (hbW ζ V (-1)) c).1)), some (.int (zI ↑c)), none]) (st' := [.int (zb (decide (injN (dgN ζ c) (ζ 5 0))))]) rfl ?_
        refine v_if_ne rfl (fun c17 => ?_) (fun c17 => ?_)
        · rw [zb_0, Bool.not_eq_false, decide_eq_true_eq] at c17
          obtain rfl := eY c17
          refine v_run 1 (pc' := 24) (ls' := [some (.ref (ad 200)), some (.int (zI (-1))), some (.int (zI (hbS ζ (hbW ζ V (-1)) c).1)), some (.int (zI ↑c)), none]) (st' := [.int (zI (-1))]) rfl ?_
          have d23 : mHg ζ V c 23 = V 23 := by simp only [mHg]; rw [if_neg (by omega)]
          refine v_if_lt rfl (fun c24 => ?_) (fun c24 => ?_)
          · refine v_run 1 (pc' := 33) (ls' := [some (.ref (ad 200)), some (.int (zI (-1))), some (.int (zI (hbS ζ (hbW ζ V (-1)) c).1)), some (.int (zI ↑c)), none]) (st' := [.int (zI (-1))]) rfl ?_
            refine v_if_ge rfl (fun c33 => ?_) (fun c33 => ?_)
            · exact absurd c33 (by decide +kernel)
            · refine v_run 1 (pc' := 37) (ls' := [some (.ref (ad 200)), some (.int (zI (-1))), some (.int (zI (hbS ζ (hbW ζ V (-1)) c).1)), some (.int (zI ↑c)), none]) (st' := [.ref (ad 200)]) rfl ?_
              refine v_callV (My := mX10_lastsNow) (As := []) (rest := []) (mc := 0) (ms := 0) rfl caX10_lastsNow rfl rfl rfl hm1.1 rfl rfl (q_lastsNow G _ hA hm1 hz hY1 (by rw [d23]; omega)) rfl rfl (Nat.le_of_ble_eq_true rfl) (by omega) ?_
              rintro _ h2 ⟨rfl, e2⟩
              refine v_run 0 (pc' := 40) (ls' := [some (.ref (ad 200)), some (.int (zI (-1))), some (.int (zI (hbS ζ (hbW ζ V (-1)) c).1)), some (.int (zI ↑c)), none]) (st' := [.int (zI ↑(mLast ζ (mHg ζ V c)))]) rfl ?_
              rw [show (zI ↑(mLast ζ (mHg ζ V c)) : Int32) = zI ↑(hbW ζ V (-1) c) from by rw [hbW, if_pos (by decide)]]
              have hY2 : XOk (mDs ζ mF (mHg ζ V c) (mLast ζ (mHg ζ V c))) := mDs_ok hz hY1 _
              have hm2 : MX h2 ad rv m ζ (mDs ζ mF (mHg ζ V c) (mLast ζ (mHg ζ V c))) := e2 ▸ hm1.x hA _
              have hv2 : h2 (ad 202) = some (ar 26 V) := by rw [← e2, hset_ne _ _ (ad_ne hA (by decide))]; exact hv1
              have hb2 : h2 (ad 206) = some (ar 6 B) := by rw [← e2, hset_ne _ _ (ad_ne hA (by decide))]; exact hb1
              have hf2 := hf1.x e2
              refine v_run 4 (pc' := 55) (ls' := [some (.ref (ad 200)), some (.int (zI (-1))), some (.int (zI (hbS ζ (hbW ζ V (-1)) c).1)), some (.int (zI ↑c)), some (.int (zI ↑(hbW ζ V (-1) c)))]) (st' := [.int (zI (hbS ζ (hbW ζ V (-1)) c).1), .int (zI ↑(hbW ζ V (-1) c))]) rfl ?_
              refine v_icmp_gt rfl (fun c55 => ?_) (fun c55 => ?_)
              · simp (disch := omega) only [zI_lt, zI_le, zI_eq, zI_lt0, zI_le0, zI_0lt, zI_0le, zI_eq0] at c55
                refine v_run 3 (pc' := 65) (ls' := [some (.ref (ad 200)), some (.int (zI (-1))), some (.int (zI ↑(hbW ζ V (-1) c))), some (.int (zI ↑c)), some (.int (zI ↑(hbW ζ V (-1) c)))]) (st' := [.ref (ad 200)]) rfl ?_
                refine v_callV (My := mX10_keeps) (As := []) (rest := []) (mc := 0) (ms := 0) rfl caX10_keeps rfl rfl rfl hm2.1 rfl rfl (q_keeps G _ hA hm2 hz hY2 hb2) rfl rfl (Nat.le_of_ble_eq_true rfl) (by omega) ?_
                rintro _ h3 ⟨rfl, e3⟩
                refine v_run 0 (pc' := 68) (ls' := [some (.ref (ad 200)), some (.int (zI (-1))), some (.int (zI ↑(hbW ζ V (-1) c))), some (.int (zI ↑c)), some (.int (zI ↑(hbW ζ V (-1) c)))]) (st' := []) rfl ?_
                refine v_run 2 (pc' := 4) (ls' := [some (.ref (ad 200)), some (.int (zI (-1))), some (.int (zI ↑(hbW ζ V (-1) c))), some (.int ((zI ↑c) + zI 1)), some (.int (zI ↑(hbW ζ V (-1) c)))]) (st' := []) rfl ?_
                refine v_drop 4 (ls' := [some (.ref (ad 200)), some (.int (zI (-1))), some (.int (zI ↑(hbW ζ V (-1) c))), some (.int ((zI ↑c) + zI 1)), none]) rfl ?_
                have es : hbS ζ (hbW ζ V (-1)) (c + 1) = (↑(hbW ζ V (-1) c), dgN ζ c) := by simp only [hbS]; rw [if_pos ⟨c17, by omega⟩]
                rw [zI_s1, show zI ↑(hbW ζ V (-1) c) = zI (hbS ζ (hbW ζ V (-1)) (c + 1)).1 from by rw [es]]
                exact ih (c + 1) _ ⟨by omega, mDs ζ mF (mHg ζ V c) (mLast ζ (mHg ζ V c)), _, e3 ▸ hm2.b hA (by omega) _, hY2, by rw [← e3, hset_ne _ _ (ad_ne hA (by decide))]; exact hv2, by rw [← e3]; exact hset_self _ _ _, hf2.b e3, fun _ s hs => by rw [es]; show (if s < 6 then mDs ζ mF (mHg ζ V c) (mLast ζ (mHg ζ V c)) s else B s) = _; rw [if_pos (by omega), mDs_lo _ _ (by omega)]; simp only [mHg]; rw [if_pos hs]⟩ (by omega)
              · simp (disch := omega) only [zI_lt, zI_le, zI_eq, zI_lt0, zI_le0, zI_0lt, zI_0le, zI_eq0] at c55
                refine v_run 3 (pc' := 4) (ls' := [some (.ref (ad 200)), some (.int (zI (-1))), some (.int (zI (hbS ζ (hbW ζ V (-1)) c).1)), some (.int ((zI ↑c) + zI 1)), some (.int (zI ↑(hbW ζ V (-1) c)))]) (st' := []) rfl ?_
                refine v_drop 4 (ls' := [some (.ref (ad 200)), some (.int (zI (-1))), some (.int (zI (hbS ζ (hbW ζ V (-1)) c).1)), some (.int ((zI ↑c) + zI 1)), none]) rfl ?_
                have es : hbS ζ (hbW ζ V (-1)) (c + 1) = hbS ζ (hbW ζ V (-1)) c := by simp only [hbS]; rw [if_neg (fun q => by omega)]
                rw [zI_s1, ← es]
                exact ih (c + 1) _ ⟨by omega, _, B, hm2, hY2, hv2, hb2, hf2, by rw [es]; exact hk0⟩ (by omega)
          · exact absurd c24 (by decide +kernel)
        · rw [zb_0, decide_eq_false_iff_not] at c17
          refine v_run 3 (pc' := 4) (ls' := [some (.ref (ad 200)), some (.int (zI (-1))), some (.int (zI (hbS ζ (hbW ζ V (-1)) c).1)), some (.int ((zI ↑c) + zI 1)), none]) (st' := []) rfl ?_
          have es : hbS ζ (hbW ζ V (-1)) (c + 1) = hbS ζ (hbW ζ V (-1)) c := by simp only [hbS]; rw [if_neg (fun q => c17 q.1)]
          rw [zI_s1, ← es]
          exact ih (c + 1) _ ⟨by omega, Y1, B, hm1, hY1, hv1, hb1, hf1, by rw [es]; exact hk0⟩ (by omega)
  exact lp (pw + 1) 0 h ⟨by omega, X, B, hm, hx, hv, hb, frK.rf ad h, fun q => absurd q (by show ¬ (0 : Int) ≤ -1; decide)⟩ (by omega)

