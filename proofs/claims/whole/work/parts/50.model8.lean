/-! ===== the whole model, told a safe ===== -/
abbrev arL (n : Nat) (f : Nat → Nat) : ssE := .inl (2, n, .inr (.inl (fun j => zL ↑(f j))))
def MT (h : ssH) (ad : Nat → Nat) (rv : Value) (m : Nat → Int) (ζ ρ : Nat → Nat → Nat) : Prop := MX h ad rv m ζ (ρ 3) ∧ XOk (ρ 3) ∧ h (ad 202) = some (ar 26 (ρ 2)) ∧ h (ad 204) = some (ar 416 (ρ 4)) ∧ h (ad 205) = some (ar 78 (ρ 5)) ∧ h (ad 206) = some (ar 6 (ρ 6)) ∧ h (ad 207) = some (ar 5 (ρ 7)) ∧ h (ad 208) = some (arL 6 (ρ 8))
def rU (ρ : Nat → Nat → Nat) (k : Nat) (f : Nat → Nat) : Nat → Nat → Nat := fun j => if j = k then f else ρ j
def mSm (m m' : Nat → Int) : Prop := m' 0 = m 0 ∧ m' 1 = m 1 ∧ m' 2 = m 2 ∧ m' 6 = m 6 ∧ m' 12 = m 12 ∧ m' 19 = m 19 ∧ m' 20 = m 20
def rSm (ρ ρ' : Nat → Nat → Nat) : Prop := ρ' 2 = ρ 2 ∧ ρ' 4 = ρ 4 ∧ ρ' 5 = ρ 5
theorem rSm.rf (ρ : Nat → Nat → Nat) : rSm ρ ρ := ⟨rfl, rfl, rfl⟩
theorem mSm.rf (m : Nat → Int) : mSm m m := ⟨rfl, rfl, rfl, rfl, rfl, rfl, rfl⟩
theorem rSm.tr {a b c : Nat → Nat → Nat} (p : rSm a b) (q : rSm b c) : rSm a c := ⟨q.1.trans p.1, q.2.1.trans p.2.1, q.2.2.trans p.2.2⟩
theorem mSm.tr {a b c : Nat → Int} (p : mSm a b) (q : mSm b c) : mSm a c := ⟨q.1.trans p.1, q.2.1.trans p.2.1, q.2.2.1.trans p.2.2.1, q.2.2.2.1.trans p.2.2.2.1, q.2.2.2.2.1.trans p.2.2.2.2.1, q.2.2.2.2.2.1.trans p.2.2.2.2.2.1, q.2.2.2.2.2.2.trans p.2.2.2.2.2.2⟩
/-- only the model's own cells have changed, the tape not -/
def frM (ad : Nat → Nat) (h h' : ssH) : Prop := ∀ b, b ≠ ad 200 → (∀ k, 202 ≤ k ∧ k < 209 → b ≠ ad k) → h' b = h b
theorem frM.rf (ad : Nat → Nat) (h : ssH) : frM ad h h := fun _ _ _ => rfl
theorem frM.tr {ad : Nat → Nat} {h h1 h2 : ssH} (a : frM ad h h1) (b : frM ad h1 h2) : frM ad h h2 := fun q p r => (b q p r).trans (a q p r)
theorem frM.ob {ad : Nat → Nat} {h h1 h2 : ssH} (a : frM ad h h1) {e : ssE} (e2 : hset h1 (ad 200) e = h2) : frM ad h h2 := fun q p r => by rw [← e2, hset_ne _ _ p]; exact a q p r
theorem frM.k {ad : Nat → Nat} {h h1 h2 : ssH} (a : frM ad h h1) {k : Nat} {e : ssE} (e2 : hset h1 (ad k) e = h2) (hk : 202 ≤ k ∧ k < 209) : frM ad h h2 := fun q p r => by rw [← e2, hset_ne _ _ (r k hk)]; exact a q p r
section MTS
variable {h h' : ssH} {ad : Nat → Nat} {rv : Value} {m m' : Nat → Int} {ζ ρ : Nat → Nat → Nat}
theorem MT.ob (hA : ∀ k l, ad k = ad l → k = l) (ht : MT h ad rv m ζ ρ) (e : hset h (ad 200) (.inr (10, obM ad (.ref (ad 210)) rv m')) = h') : MT h' ad rv m' ζ ρ := by
  subst e
  obtain ⟨⟨a1, a2, a3⟩, b, c, d, f, g, i, j⟩ := ht
  exact ⟨⟨hset_self _ _ _, a2.fr hA (by omega), (hset_ne _ _ (ad_ne hA (by omega))).trans a3⟩, b, (hset_ne _ _ (ad_ne hA (by omega))).trans c, (hset_ne _ _ (ad_ne hA (by omega))).trans d, (hset_ne _ _ (ad_ne hA (by omega))).trans f, (hset_ne _ _ (ad_ne hA (by omega))).trans g, (hset_ne _ _ (ad_ne hA (by omega))).trans i, (hset_ne _ _ (ad_ne hA (by omega))).trans j⟩
theorem MT.xs (hA : ∀ k l, ad k = ad l → k = l) (ht : MT h ad rv m ζ ρ) {Y : Nat → Nat} (e : hset h (ad 203) (ar 26 Y) = h') (hY : XOk Y) : MT h' ad rv m ζ (rU ρ 3 Y) := by
  subst e
  obtain ⟨a, b, c, d, f, g, i, j⟩ := ht
  exact ⟨a.x hA Y, hY, (hset_ne _ _ (ad_ne hA (by omega))).trans c, (hset_ne _ _ (ad_ne hA (by omega))).trans d, (hset_ne _ _ (ad_ne hA (by omega))).trans f, (hset_ne _ _ (ad_ne hA (by omega))).trans g, (hset_ne _ _ (ad_ne hA (by omega))).trans i, (hset_ne _ _ (ad_ne hA (by omega))).trans j⟩
theorem MX.n (hA : ∀ k l, ad k = ad l → k = l) {X : Nat → Nat} (hm : MX h ad rv m ζ X) {k : Nat} (hk : k = 202 ∨ (204 ≤ k ∧ k < 210)) (e : ssE) : MX (hset h (ad k) e) ad rv m ζ X :=
  ⟨(hset_ne _ _ (ad_ne hA (by omega))).trans hm.1, hm.2.1.fr hA (by omega), (hset_ne _ _ (ad_ne hA (by omega))).trans hm.2.2⟩
theorem MT.v2 (hA : ∀ k l, ad k = ad l → k = l) (ht : MT h ad rv m ζ ρ) {Y : Nat → Nat} (e : hset h (ad 202) (ar 26 Y) = h') : MT h' ad rv m ζ (rU ρ 2 Y) := by
  subst e
  obtain ⟨a, b, c, d, f, g, i, j⟩ := ht
  exact ⟨a.n hA (by omega) _, b, hset_self _ _ _, (hset_ne _ _ (ad_ne hA (by omega))).trans d, (hset_ne _ _ (ad_ne hA (by omega))).trans f, (hset_ne _ _ (ad_ne hA (by omega))).trans g, (hset_ne _ _ (ad_ne hA (by omega))).trans i, (hset_ne _ _ (ad_ne hA (by omega))).trans j⟩
theorem MT.p4 (hA : ∀ k l, ad k = ad l → k = l) (ht : MT h ad rv m ζ ρ) {Y : Nat → Nat} (e : hset h (ad 204) (ar 416 Y) = h') : MT h' ad rv m ζ (rU ρ 4 Y) := by
  subst e
  obtain ⟨a, b, c, d, f, g, i, j⟩ := ht
  exact ⟨a.n hA (by omega) _, b, (hset_ne _ _ (ad_ne hA (by omega))).trans c, hset_self _ _ _, (hset_ne _ _ (ad_ne hA (by omega))).trans f, (hset_ne _ _ (ad_ne hA (by omega))).trans g, (hset_ne _ _ (ad_ne hA (by omega))).trans i, (hset_ne _ _ (ad_ne hA (by omega))).trans j⟩
theorem MT.k5 (hA : ∀ k l, ad k = ad l → k = l) (ht : MT h ad rv m ζ ρ) {Y : Nat → Nat} (e : hset h (ad 205) (ar 78 Y) = h') : MT h' ad rv m ζ (rU ρ 5 Y) := by
  subst e
  obtain ⟨a, b, c, d, f, g, i, j⟩ := ht
  exact ⟨a.n hA (by omega) _, b, (hset_ne _ _ (ad_ne hA (by omega))).trans c, (hset_ne _ _ (ad_ne hA (by omega))).trans d, hset_self _ _ _, (hset_ne _ _ (ad_ne hA (by omega))).trans g, (hset_ne _ _ (ad_ne hA (by omega))).trans i, (hset_ne _ _ (ad_ne hA (by omega))).trans j⟩
theorem MT.b6 (hA : ∀ k l, ad k = ad l → k = l) (ht : MT h ad rv m ζ ρ) {Y : Nat → Nat} (e : hset h (ad 206) (ar 6 Y) = h') : MT h' ad rv m ζ (rU ρ 6 Y) := by
  subst e
  obtain ⟨a, b, c, d, f, g, i, j⟩ := ht
  exact ⟨a.n hA (by omega) _, b, (hset_ne _ _ (ad_ne hA (by omega))).trans c, (hset_ne _ _ (ad_ne hA (by omega))).trans d, (hset_ne _ _ (ad_ne hA (by omega))).trans f, hset_self _ _ _, (hset_ne _ _ (ad_ne hA (by omega))).trans i, (hset_ne _ _ (ad_ne hA (by omega))).trans j⟩
theorem MT.w7 (hA : ∀ k l, ad k = ad l → k = l) (ht : MT h ad rv m ζ ρ) {Y : Nat → Nat} (e : hset h (ad 207) (ar 5 Y) = h') : MT h' ad rv m ζ (rU ρ 7 Y) := by
  subst e
  obtain ⟨a, b, c, d, f, g, i, j⟩ := ht
  exact ⟨a.n hA (by omega) _, b, (hset_ne _ _ (ad_ne hA (by omega))).trans c, (hset_ne _ _ (ad_ne hA (by omega))).trans d, (hset_ne _ _ (ad_ne hA (by omega))).trans f, (hset_ne _ _ (ad_ne hA (by omega))).trans g, hset_self _ _ _, (hset_ne _ _ (ad_ne hA (by omega))).trans j⟩
theorem MT.l8 (hA : ∀ k l, ad k = ad l → k = l) (ht : MT h ad rv m ζ ρ) {Y : Nat → Nat} (e : hset h (ad 208) (arL 6 Y) = h') : MT h' ad rv m ζ (rU ρ 8 Y) := by
  subst e
  obtain ⟨a, b, c, d, f, g, i, j⟩ := ht
  exact ⟨a.n hA (by omega) _, b, (hset_ne _ _ (ad_ne hA (by omega))).trans c, (hset_ne _ _ (ad_ne hA (by omega))).trans d, (hset_ne _ _ (ad_ne hA (by omega))).trans f, (hset_ne _ _ (ad_ne hA (by omega))).trans g, (hset_ne _ _ (ad_ne hA (by omega))).trans i, hset_self _ _ _⟩
end MTS
/-- what a question leaves: the model with other working rows -/
def MQs (h : ssH) (ad : Nat → Nat) (rv : Value) (m : Nat → Int) (ζ ρ : Nat → Nat → Nat) (h' : ssH) (m' : Nat → Int) (ρ' : Nat → Nat → Nat) : Prop := MT h' ad rv m' ζ ρ' ∧ mSm m m' ∧ rSm ρ ρ' ∧ frM ad h h'
def mGs (ζ : Nat → Nat → Nat) (d : Nat) : Nat := mGo ζ (mSi ζ d 41) 0
def mFit (ζ : Nat → Nat → Nat) (d : Nat) : Bool := decide (mWr ζ (mGs ζ d) = -2)
def mFc (ζ : Nat → Nat → Nat) (d : Nat) : Nat := sumN (fun e => if mFit ζ e then 1 else 0) d
def mWn (ζ : Nat → Nat → Nat) (a d : Nat) : Nat := sumN (fun e => if mFit ζ e then mGs ζ e / 2 ^ a % 2 else 0) d
def mNth (ζ : Nat → Nat → Nat) (i : Int) : Nat → Int
  | 0 => -1
  | d + 1 => if mFit ζ d ∧ (↑(mFc ζ d) : Int) = i then ↑d else mNth ζ i d
theorem mFc_le (ζ : Nat → Nat → Nat) (d : Nat) : mFc ζ d ≤ d := cntN_le (mFit ζ) d
theorem mFc_f {ζ : Nat → Nat → Nat} {d : Nat} (h : mFit ζ d = false) : mFc ζ (d + 1) = mFc ζ d := by simp [mFc, sumN, h]
theorem mFc_t {ζ : Nat → Nat → Nat} {d : Nat} (h : mFit ζ d = true) : mFc ζ (d + 1) = mFc ζ d + 1 := by simp [mFc, sumN, h]
theorem mWn_f {ζ : Nat → Nat → Nat} {a d : Nat} (h : mFit ζ d = false) : mWn ζ a (d + 1) = mWn ζ a d := by simp [mWn, sumN, h]
theorem mWn_t {ζ : Nat → Nat → Nat} {a d : Nat} (h : mFit ζ d = true) : mWn ζ a (d + 1) = mWn ζ a d + mGs ζ d / 2 ^ a % 2 := by simp [mWn, sumN, h]
theorem cGfp_lt {F : Nat → Nat} {ac st al : Nat} (h : ac ≤ 5) : cGfp F ac st al < 32 := Nat.lt_of_lt_of_le (setN_lt _ _) (Nat.pow_le_pow_right (n := 2) (by decide) h)
theorem mWrG_bd (ζ : Nat → Nat → Nat) (g : Nat) : ∀ n s, mWrG ζ g n s = -2 ∨ (↑s ≤ mWrG ζ g n s ∧ mWrG ζ g n s < ↑(s + n))
  | 0, s => Or.inl rfl
  | n + 1, s => by
    simp only [mWrG]
    split
    · right; omega
    · rcases mWrG_bd ζ g n (s + 1) with h | h
      · exact Or.inl h
      · right; omega
theorem mWr_bd (ζ : Nat → Nat → Nat) (g : Nat) : -2 ≤ mWr ζ g ∧ mWr ζ g < 0 + ↑(ζ 6 0) ∨ mWr ζ g = -2 := by
  have := mWrG_bd ζ g (ζ 6 0) 0
  unfold mWr
  omega
theorem mW_st {n a : Nat} {P R r : Nat → Nat} (hw : ∀ b, b < n → r b = if b < a then P b else R b) : ∀ b, b < n → (if b = a then P a else r b) = if b < a + 1 then P b else R b := by
  intro b hb
  by_cases e : b = a
  · rw [if_pos e, if_pos (by omega), e]
  · rw [if_neg e, hw b hb]
    by_cases e2 : b < a
    · rw [if_pos e2, if_pos (by omega)]
    · rw [if_neg e2, if_neg (by omega)]
def mFQ (ζ : Nat → Nat → Nat) (rv : Value) (m : Nat → Int) (ρ : Nat → Nat → Nat) (ad : Nat → Nat) (h : ssH) (d : Nat) (h' : ssH) : Prop := ∃ m' ρ', MQs h ad rv m ζ ρ h' m' ρ' ∧ m' 22 = ↑(mFc ζ d) ∧ ∀ a, a < ζ 6 0 → ρ' 7 a = mWn ζ a d
set_option maxRecDepth 100000 in
set_option maxHeartbeats 400000 in
theorem q_fitting (G : ssG) (h : ssH) {ad : Nat → Nat} {rv : Value} {m : Nat → Int} {ζ ρ : Nat → Nat → Nat} (i : Int) (hA : ∀ k l, ad k = ad l → k = l) (ht : MT h ad rv m ζ ρ) (hz : SaOk ζ) (hd9 : 1 ≤ ζ 9 0) (hi : -2147483648 ≤ i ∧ i < 2147483648) : ssC G mX10_fitting 7 0 0 [.ref (ad 200), .int (zI i)] h (fun r h' => r = some (.int (zI (mNth ζ i 42))) ∧ mFQ ζ rv m ρ ad h 42 h') := by
  refine c_of_v okX10_fitting (by decide +kernel) (ls := [some (.ref (ad 200)), some (.int (zI i)), none, none, none, none]) rfl (Nat.le_of_ble_eq_true rfl) ?_
  obtain ⟨z0, z1, z2, z3, z4, z5, z6, z9, z12, z13, z14, z15, z16, z17, z18, z19, z20⟩ := id hz
  refine v_run 2 (pc' := 2) (ls' := [some (.ref (ad 200)), some (.int (zI i)), none, none, none, none]) (st' := [.int (zI 0), .ref (ad 200)]) rfl ?_
  refine v_put rfl ht.1.1 rfl rfl (Nat.le_of_ble_eq_true rfl) ?_
  generalize e1 : hset h (ad 200) _ = h1
  have hq1 : MQs h ad rv m ζ ρ h1 (mU m 22 0) ρ := ⟨ht.ob hA e1, ⟨rfl, rfl, rfl, rfl, rfl, rfl, rfl⟩, rSm.rf ρ, (frM.rf ad h).ob e1⟩
  refine v_run 4 (pc' := 9) (ls' := [some (.ref (ad 200)), some (.int (zI i)), some (.int (zI (-1))), some (.int (zI 0)), none, none]) (st' := []) rfl ?_
  have lp : ∀ (n s : Nat), s ≤ 5 → 5 + 1 ≤ s + n → ssV G mX10_fitting 7 0 0 (fun r h' => r = some (.int (zI (mNth ζ i 42))) ∧ mFQ ζ rv m ρ ad h 42 h') 9 [some (.ref (ad 200)), some (.int (zI i)), some (.int (zI (-1))), some (.int (zI ↑s)), none, none] [] (hset h1 (ad 207) (ar 5 (fun k => if k < s then 0 else ρ 7 k))) := by
    intro n
    induction n with
    | zero => intro s hs1 hs2; exact absurd hs2 (by omega)
    | succ n ih =>
      intro s hs1 hs2
      refine v_run 2 (pc' := 11) (ls' := [some (.ref (ad 200)), some (.int (zI i)), some (.int (zI (-1))), some (.int (zI ↑s)), none, none]) (st' := [.int (zI 5), .int (zI ↑s)]) rfl ?_
      refine v_icmp_ge rfl (fun c11 => ?_) (fun c11 => ?_)
      · simp (disch := omega) only [zI_lt, zI_le, zI_eq, zI_lt0, zI_le0, zI_0lt, zI_0le, zI_eq0] at c11
        refine v_run 2 (pc' := 29) (ls' := [some (.ref (ad 200)), some (.int (zI i)), some (.int (zI (-1))), some (.int (zI 0)), none, none]) (st' := []) rfl ?_
        generalize e2 : hset h1 (ad 207) (ar 5 (fun k => if k < s then 0 else ρ 7 k)) = h2
        have hq2 : mFQ ζ rv m ρ ad h 0 h2 := ⟨_, _, ⟨hq1.1.w7 hA e2, hq1.2.1, ⟨rfl, rfl, rfl⟩, hq1.2.2.2.k e2 (by decide)⟩, rfl, fun a ha => by show (if a < s then 0 else ρ 7 a) = 0; rw [if_pos (by omega)]⟩
        have lq : ∀ (no d : Nat) (hh : ssH), (d ≤ 42 ∧ mFQ ζ rv m ρ ad h d hh) → 42 + 1 ≤ d + no → ssV G mX10_fitting 7 0 0 (fun r h' => r = some (.int (zI (mNth ζ i 42))) ∧ mFQ ζ rv m ρ ad h 42 h') 29 [some (.ref (ad 200)), some (.int (zI i)), some (.int (zI (mNth ζ i d))), some (.int (zI ↑d)), none, none] [] hh := by
          intro no
          induction no with
          | zero => intro d hh ho1 ho2; exact absurd ho2 (by omega)
          | succ no ih2 =>
            intro d hh ho1 ho2
            obtain ⟨od, mm, rr, hq, hm22, hw7⟩ := id ho1
            have cl := mFc_le ζ d
            refine v_run 2 (pc' := 32) (ls' := [some (.ref (ad 200)), some (.int (zI i)), some (.int (zI (mNth ζ i d))), some (.int (zI ↑d)), none, none]) (st' := [.int (zI 41), .int (zI ↑d)]) rfl ?_
            refine v_icmp_gt rfl (fun c32 => ?_) (fun c32 => ?_)
            · simp (disch := omega) only [zI_lt, zI_le, zI_eq, zI_lt0, zI_le0, zI_0lt, zI_0le, zI_eq0] at c32
              refine v_run 1 (pc' := 129) (ls' := [some (.ref (ad 200)), some (.int (zI i)), some (.int (zI (mNth ζ i d))), some (.int (zI ↑d)), none, none]) (st' := [.int (zI (mNth ζ i d))]) rfl ?_
              exact v_iret rfl rfl rfl (by rw [← show d = 42 by omega]; exact ⟨rfl, ho1.2⟩)
            · simp (disch := omega) only [zI_lt, zI_le, zI_eq, zI_lt0, zI_le0, zI_0lt, zI_0le, zI_eq0] at c32
              refine v_run 2 (pc' := 37) (ls' := [some (.ref (ad 200)), some (.int (zI i)), some (.int (zI (mNth ζ i d))), some (.int (zI ↑d)), none, none]) (st' := [.int (zI ↑d), .ref (ad 200)]) rfl ?_
              refine v_callV (My := mX10_goingSince) (As := [.int (zI ↑d)]) (rest := []) (mc := 0) (ms := 0) rfl caX10_goingSince rfl rfl rfl hq.1.1.1 rfl rfl (q_goingSince G _ d hA hq.1.1 hz hq.1.2.1 (by omega) hd9) rfl rfl (Nat.le_of_ble_eq_true rfl) (by omega) ?_
              rintro _ h3 ⟨rfl, e3⟩
              have hq3 : MQs h ad rv m ζ ρ h3 mm (rU rr 3 (mSi ζ d 41)) := ⟨hq.1.xs hA e3 (mSi_ok hz hd9 d 41), hq.2.1, hq.2.2.1, hq.2.2.2.k e3 (by decide)⟩
              have g32 : mGs ζ d < 32 := cGfp_lt z6
              refine v_run 0 (pc' := 40) (ls' := [some (.ref (ad 200)), some (.int (zI i)), some (.int (zI (mNth ζ i d))), some (.int (zI ↑d)), none, none]) (st' := [.int (zI ↑(mGs ζ d))]) rfl ?_
              refine v_run 3 (pc' := 45) (ls' := [some (.ref (ad 200)), some (.int (zI i)), some (.int (zI (mNth ζ i d))), some (.int (zI ↑d)), some (.int (zI ↑(mGs ζ d))), none]) (st' := [.int (zI ↑(mGs ζ d)), .ref (ad 200)]) rfl ?_
              refine v_callV (My := mX10_wrong) (As := [.int (zI ↑(mGs ζ d))]) (rest := []) (mc := 0) (ms := 0) rfl caX10_wrong rfl rfl rfl hq3.1.1.1 rfl rfl (q_wrong G _ (mGs ζ d) hA hq3.1.1 hz hq3.1.2.1 g32) rfl rfl (Nat.le_of_ble_eq_true rfl) (by omega) ?_
              rintro _ _ ⟨rfl, rfl⟩
              refine v_run 0 (pc' := 48) (ls' := [some (.ref (ad 200)), some (.int (zI i)), some (.int (zI (mNth ζ i d))), some (.int (zI ↑d)), some (.int (zI ↑(mGs ζ d))), none]) (st' := [.int (zI (mWr ζ (mGs ζ d)))]) rfl ?_
              have wb := mWr_bd ζ (mGs ζ d)
              refine v_run 1 (pc' := 50) (ls' := [some (.ref (ad 200)), some (.int (zI i)), some (.int (zI (mNth ζ i d))), some (.int (zI ↑d)), some (.int (zI ↑(mGs ζ d))), none]) (st' := [.int (zI (-2)), .int (zI (mWr ζ (mGs ζ d)))]) rfl ?_
              refine v_icmp_eq rfl (fun c50 => ?_) (fun c50 => ?_)
              · simp (disch := omega) only [zI_lt, zI_le, zI_eq, zI_lt0, zI_le0, zI_0lt, zI_0le, zI_eq0] at c50
                have nf : mFit ζ d = true := by unfold mFit; simp; omega
                refine v_run 1 (pc' := 57) (ls' := [some (.ref (ad 200)), some (.int (zI i)), some (.int (zI (mNth ζ i d))), some (.int (zI ↑d)), some (.int (zI ↑(mGs ζ d))), none]) (st' := [.ref (ad 200)]) rfl ?_
                refine v_get rfl hq3.1.1.1 rfl ?_
                refine v_run 0 (pc' := 60) (ls' := [some (.ref (ad 200)), some (.int (zI i)), some (.int (zI (mNth ζ i d))), some (.int (zI ↑d)), some (.int (zI ↑(mGs ζ d))), none]) (st' := [.int (zI (mm 22))]) rfl ?_
                rw [show (zI (mm 22) : Int32) = zI ↑(mFc ζ d) from by rw [hm22]]
                refine v_run 1 (pc' := 61) (ls' := [some (.ref (ad 200)), some (.int (zI i)), some (.int (zI (mNth ζ i d))), some (.int (zI ↑d)), some (.int (zI ↑(mGs ζ d))), none]) (st' := [.int (zI i), .int (zI ↑(mFc ζ d))]) rfl ?_
                refine v_icmp_ne rfl (fun c61 => ?_) (fun c61 => ?_)
                · simp (disch := omega) only [zI_lt, zI_le, zI_eq, zI_lt0, zI_le0, zI_0lt, zI_0le, zI_eq0] at c61
                  refine v_run 2 (pc' := 68) (ls' := [some (.ref (ad 200)), some (.int (zI i)), some (.int (zI (mNth ζ i d))), some (.int (zI ↑d)), some (.int (zI ↑(mGs ζ d))), none]) (st' := [.ref (ad 200), .ref (ad 200)]) rfl ?_
                  refine v_get rfl hq3.1.1.1 rfl ?_
                  refine v_run 1 (pc' := 72) (ls' := [some (.ref (ad 200)), some (.int (zI i)), some (.int (zI (mNth ζ i d))), some (.int (zI ↑d)), some (.int (zI ↑(mGs ζ d))), none]) (st' := [.int (zI 1), .int (zI (mm 22)), .ref (ad 200)]) rfl ?_
                  rw [show (zI (mm 22) : Int32) = zI ↑(mFc ζ d) from by rw [hm22]]
                  refine v_run 1 (pc' := 73) (ls' := [some (.ref (ad 200)), some (.int (zI i)), some (.int (zI (mNth ζ i d))), some (.int (zI ↑d)), some (.int (zI ↑(mGs ζ d))), none]) (st' := [.int ((zI ↑(mFc ζ d)) + (zI 1)), .ref (ad 200)]) rfl ?_
                  rw [show ((zI ↑(mFc ζ d)) + (zI 1) : Int32) = zI ↑(mFc ζ d + 1) from zI_s1 _]
                  refine v_put rfl hq3.1.1.1 rfl rfl (Nat.le_of_ble_eq_true rfl) ?_
                  generalize e4 : hset h3 (ad 200) _ = h4
                  have hq4 : MQs h ad rv m ζ ρ h4 (mU mm 22 ↑(mFc ζ d + 1)) (rU rr 3 (mSi ζ d 41)) := ⟨hq3.1.ob hA e4, ⟨hq.2.1.1, hq.2.1.2.1, hq.2.1.2.2.1, hq.2.1.2.2.2.1, hq.2.1.2.2.2.2.1, hq.2.1.2.2.2.2.2.1, hq.2.1.2.2.2.2.2.2⟩, hq3.2.2.1, hq3.2.2.2.ob e4⟩
                  refine v_run 2 (pc' := 79) (ls' := [some (.ref (ad 200)), some (.int (zI i)), some (.int (zI (mNth ζ i d))), some (.int (zI ↑d)), some (.int (zI ↑(mGs ζ d))), some (.int (zI 0))]) (st' := []) rfl ?_
                  have en : mNth ζ i (d + 1) = mNth ζ i d := by simp only [mNth]; rw [if_neg (fun q => c61 q.2)]
                  refine v_run 0 (pc' := 79) (ls' := [some (.ref (ad 200)), some (.int (zI i)), some (.int (zI (mNth ζ i (d + 1)))), some (.int (zI ↑d)), some (.int (zI ↑(mGs ζ d))), some (.int (zI ↑(0 : Nat)))]) (st' := []) (by rw [en]; rfl) ?_
                  have lr : ∀ (ni a : Nat) (hh : ssH) (r2 : Nat → Nat → Nat), (a ≤ ζ 6 0 ∧ MQs h ad rv m ζ ρ hh (mU mm 22 ↑(mFc ζ d + 1)) r2 ∧ (∀ b, b < ζ 6 0 → r2 7 b = if b < a then mWn ζ b (d + 1) else mWn ζ b d)) → ζ 6 0 + 1 ≤ a + ni → ssV G mX10_fitting 7 0 0 (fun r h' => r = some (.int (zI (mNth ζ i 42))) ∧ mFQ ζ rv m ρ ad h 42 h') 79 [some (.ref (ad 200)), some (.int (zI i)), some (.int (zI (mNth ζ i (d + 1)))), some (.int (zI ↑d)), some (.int (zI ↑(mGs ζ d))), some (.int (zI ↑a))] [] hh := by
                    intro ni
                    induction ni with
                    | zero => intro a hh r2 hi1 hi2; exact absurd hi2 (by omega)
                    | succ ni ih3 =>
                      intro a hh r2 hi1 hi2
                      obtain ⟨oa, hr, hw⟩ := id hi1
                      refine v_run 2 (pc' := 82) (ls' := [some (.ref (ad 200)), some (.int (zI i)), some (.int (zI (mNth ζ i (d + 1)))), some (.int (zI ↑d)), some (.int (zI ↑(mGs ζ d))), some (.int (zI ↑a))]) (st' := [.ref (ad 200), .int (zI ↑a)]) rfl ?_
                      refine v_get rfl hr.1.1.1 rfl ?_
                      refine v_run 0 (pc' := 85) (ls' := [some (.ref (ad 200)), some (.int (zI i)), some (.int (zI (mNth ζ i (d + 1)))), some (.int (zI ↑d)), some (.int (zI ↑(mGs ζ d))), some (.int (zI ↑a))]) (st' := [.ref (ad 210), .int (zI ↑a)]) rfl ?_
                      refine v_get rfl hr.1.1.2.1.1 rfl ?_
                      refine v_run 0 (pc' := 88) (ls' := [some (.ref (ad 200)), some (.int (zI i)), some (.int (zI (mNth ζ i (d + 1)))), some (.int (zI ↑d)), some (.int (zI ↑(mGs ζ d))), some (.int (zI ↑a))]) (st' := [.int (zI ↑(ζ 6 0)), .int (zI ↑a)]) rfl ?_
                      refine v_icmp_ge rfl (fun c88 => ?_) (fun c88 => ?_)
                      · simp (disch := omega) only [zI_lt, zI_le, zI_eq, zI_lt0, zI_le0, zI_0lt, zI_0le, zI_eq0] at c88
                        refine v_run 2 (pc' := 29) (ls' := [some (.ref (ad 200)), some (.int (zI i)), some (.int (zI (mNth ζ i (d + 1)))), some (.int ((zI ↑d) + zI 1)), some (.int (zI ↑(mGs ζ d))), some (.int (zI ↑a))]) (st' := []) rfl ?_
                        refine v_drop 4 (ls' := [some (.ref (ad 200)), some (.int (zI i)), some (.int (zI (mNth ζ i (d + 1)))), some (.int ((zI ↑d) + zI 1)), none, some (.int (zI ↑a))]) rfl ?_
                        refine v_drop 5 (ls' := [some (.ref (ad 200)), some (.int (zI i)), some (.int (zI (mNth ζ i (d + 1)))), some (.int ((zI ↑d) + zI 1)), none, none]) rfl ?_
                        rw [zI_s1]
                        exact ih2 (d + 1) hh ⟨by omega, _, r2, hr, by rw [mFc_t nf]; rfl, fun b hb => by rw [hw b hb, if_pos (by omega)]⟩ (by omega)
                      · simp (disch := omega) only [zI_lt, zI_le, zI_eq, zI_lt0, zI_le0, zI_0lt, zI_0le, zI_eq0] at c88
                        have wa := hw a (by omega)
                        rw [if_neg (by omega)] at wa
                        refine v_run 1 (pc' := 92) (ls' := [some (.ref (ad 200)), some (.int (zI i)), some (.int (zI (mNth ζ i (d + 1)))), some (.int (zI ↑d)), some (.int (zI ↑(mGs ζ d))), some (.int (zI ↑a))]) (st' := [.ref (ad 200)]) rfl ?_
                        refine v_get rfl hr.1.1.1 rfl ?_
                        refine v_run 2 (pc' := 98) (ls' := [some (.ref (ad 200)), some (.int (zI i)), some (.int (zI (mNth ζ i (d + 1)))), some (.int (zI ↑d)), some (.int (zI ↑(mGs ζ d))), some (.int (zI ↑a))]) (st' := [.int (zI ↑a), .ref (ad 207), .int (zI ↑a), .ref (ad 207)]) rfl ?_
                        refine v_iaload' rfl hr.1.2.2.2.2.2.2.1 (i := a) rfl (by omega) ?_
                        refine v_run 2 (pc' := 103) (ls' := [some (.ref (ad 200)), some (.int (zI i)), some (.int (zI (mNth ζ i (d + 1)))), some (.int (zI ↑d)), some (.int (zI ↑(mGs ζ d))), some (.int (zI ↑a))]) (st' := [.int (zI ↑a), .int (zI ↑(mGs ζ d)), .int (zI ↑(r2 7 a)), .int (zI ↑a), .ref (ad 207)]) rfl ?_
                        rw [show (zI ↑(r2 7 a) : Int32) = zI ↑(mWn ζ a d) from congrArg (fun n : Nat => zI ↑n) (wa)]
                        refine v_callS (My := mX10_bit) (As := [.int (zI ↑(mGs ζ d)), .int (zI ↑a)]) (rest := [.int (zI ↑(mWn ζ a d)), .int (zI ↑a), .ref (ad 207)]) (mc := 0) (ms := 0) rfl caX10_bit rfl rfl (q_bit G _ (mGs ζ d) a (by omega) (by omega)) rfl rfl (Nat.le_of_ble_eq_true rfl) (by omega) ?_
                        rintro _ _ ⟨rfl, rfl⟩
                        refine v_run 0 (pc' := 106) (ls' := [some (.ref (ad 200)), some (.int (zI i)), some (.int (zI (mNth ζ i (d + 1)))), some (.int (zI ↑d)), some (.int (zI ↑(mGs ζ d))), some (.int (zI ↑a))]) (st' := [.int (zb (bitN (mGs ζ d) a)), .int (zI ↑(mWn ζ a d)), .int (zI ↑a), .ref (ad 207)]) rfl ?_
                        refine v_if_eq rfl (fun c106 => ?_) (fun c106 => ?_)
                        · rw [zb_0, bitN_false] at c106
                          have b2 := bitN_le (mGs ζ d) a
                          refine v_run 2 (pc' := 115) (ls' := [some (.ref (ad 200)), some (.int (zI i)), some (.int (zI (mNth ζ i (d + 1)))), some (.int (zI ↑d)), some (.int (zI ↑(mGs ζ d))), some (.int (zI ↑a))]) (st' := [.int ((zI ↑(mWn ζ a d)) + (zI 0)), .int (zI ↑a), .ref (ad 207)]) rfl ?_
                          rw [show ((zI ↑(mWn ζ a d)) + (zI 0) : Int32) = zI ↑(mWn ζ a (d + 1)) from by rw [show (zI 0) = zI ↑(0 : Nat) from rfl, zN_add, mWn_t nf, show mGs ζ d / 2 ^ a % 2 = 0 by omega]]
                          refine v_iastore' rfl hr.1.2.2.2.2.2.2.1 (i := a) rfl (by omega) ?_
                          rw [ar_upd]
                          generalize e6 : hset hh (ad 207) _ = h6
                          refine v_run 2 (pc' := 79) (ls' := [some (.ref (ad 200)), some (.int (zI i)), some (.int (zI (mNth ζ i (d + 1)))), some (.int (zI ↑d)), some (.int (zI ↑(mGs ζ d))), some (.int ((zI ↑a) + zI 1))]) (st' := []) rfl ?_
                          rw [zI_s1]
                          exact ih3 (a + 1) h6 _ ⟨by omega, ⟨hr.1.w7 hA e6, hr.2.1, ⟨hr.2.2.1.1, hr.2.2.1.2.1, hr.2.2.1.2.2⟩, hr.2.2.2.k e6 (by decide)⟩, mW_st hw⟩ (by omega)
                        · rw [zb_0, Bool.not_eq_false, bitN_true] at c106
                          have b2 := bitN_le (mGs ζ d) a
                          refine v_run 3 (pc' := 115) (ls' := [some (.ref (ad 200)), some (.int (zI i)), some (.int (zI (mNth ζ i (d + 1)))), some (.int (zI ↑d)), some (.int (zI ↑(mGs ζ d))), some (.int (zI ↑a))]) (st' := [.int ((zI ↑(mWn ζ a d)) + (zI 1)), .int (zI ↑a), .ref (ad 207)]) rfl ?_
                          rw [show ((zI ↑(mWn ζ a d)) + (zI 1) : Int32) = zI ↑(mWn ζ a (d + 1)) from by rw [show (zI 1) = zI ↑(1 : Nat) from rfl, zN_add, mWn_t nf, show mGs ζ d / 2 ^ a % 2 = 1 by omega]]
                          refine v_iastore' rfl hr.1.2.2.2.2.2.2.1 (i := a) rfl (by omega) ?_
                          rw [ar_upd]
                          generalize e6 : hset hh (ad 207) _ = h6
                          refine v_run 2 (pc' := 79) (ls' := [some (.ref (ad 200)), some (.int (zI i)), some (.int (zI (mNth ζ i (d + 1)))), some (.int (zI ↑d)), some (.int (zI ↑(mGs ζ d))), some (.int ((zI ↑a) + zI 1))]) (st' := []) rfl ?_
                          rw [zI_s1]
                          exact ih3 (a + 1) h6 _ ⟨by omega, ⟨hr.1.w7 hA e6, hr.2.1, ⟨hr.2.2.1.1, hr.2.2.1.2.1, hr.2.2.1.2.2⟩, hr.2.2.2.k e6 (by decide)⟩, mW_st hw⟩ (by omega)
                  exact lr (ζ 6 0 + 1) 0 h4 _ ⟨by omega, hq4, fun b hb => by rw [if_neg (by omega)]; exact hw7 b hb⟩ (by omega)
                · simp (disch := omega) only [zI_lt, zI_le, zI_eq, zI_lt0, zI_le0, zI_0lt, zI_0le, zI_eq0] at c61
                  refine v_run 4 (pc' := 68) (ls' := [some (.ref (ad 200)), some (.int (zI i)), some (.int (zI ↑d)), some (.int (zI ↑d)), some (.int (zI ↑(mGs ζ d))), none]) (st' := [.ref (ad 200), .ref (ad 200)]) rfl ?_
                  refine v_get rfl hq3.1.1.1 rfl ?_
                  refine v_run 1 (pc' := 72) (ls' := [some (.ref (ad 200)), some (.int (zI i)), some (.int (zI ↑d)), some (.int (zI ↑d)), some (.int (zI ↑(mGs ζ d))), none]) (st' := [.int (zI 1), .int (zI (mm 22)), .ref (ad 200)]) rfl ?_
                  rw [show (zI (mm 22) : Int32) = zI ↑(mFc ζ d) from by rw [hm22]]
                  refine v_run 1 (pc' := 73) (ls' := [some (.ref (ad 200)), some (.int (zI i)), some (.int (zI ↑d)), some (.int (zI ↑d)), some (.int (zI ↑(mGs ζ d))), none]) (st' := [.int ((zI ↑(mFc ζ d)) + (zI 1)), .ref (ad 200)]) rfl ?_
                  rw [show ((zI ↑(mFc ζ d)) + (zI 1) : Int32) = zI ↑(mFc ζ d + 1) from zI_s1 _]
                  refine v_put rfl hq3.1.1.1 rfl rfl (Nat.le_of_ble_eq_true rfl) ?_
                  generalize e4 : hset h3 (ad 200) _ = h4
                  have hq4 : MQs h ad rv m ζ ρ h4 (mU mm 22 ↑(mFc ζ d + 1)) (rU rr 3 (mSi ζ d 41)) := ⟨hq3.1.ob hA e4, ⟨hq.2.1.1, hq.2.1.2.1, hq.2.1.2.2.1, hq.2.1.2.2.2.1, hq.2.1.2.2.2.2.1, hq.2.1.2.2.2.2.2.1, hq.2.1.2.2.2.2.2.2⟩, hq3.2.2.1, hq3.2.2.2.ob e4⟩
                  refine v_run 2 (pc' := 79) (ls' := [some (.ref (ad 200)), some (.int (zI i)), some (.int (zI ↑d)), some (.int (zI ↑d)), some (.int (zI ↑(mGs ζ d))), some (.int (zI 0))]) (st' := []) rfl ?_
                  have en : mNth ζ i (d + 1) = ↑d := by simp only [mNth]; rw [if_pos ⟨nf, c61⟩]
                  refine v_run 0 (pc' := 79) (ls' := [some (.ref (ad 200)), some (.int (zI i)), some (.int (zI (mNth ζ i (d + 1)))), some (.int (zI ↑d)), some (.int (zI ↑(mGs ζ d))), some (.int (zI ↑(0 : Nat)))]) (st' := []) (by rw [en]; rfl) ?_
                  have lr : ∀ (ni a : Nat) (hh : ssH) (r2 : Nat → Nat → Nat), (a ≤ ζ 6 0 ∧ MQs h ad rv m ζ ρ hh (mU mm 22 ↑(mFc ζ d + 1)) r2 ∧ (∀ b, b < ζ 6 0 → r2 7 b = if b < a then mWn ζ b (d + 1) else mWn ζ b d)) → ζ 6 0 + 1 ≤ a + ni → ssV G mX10_fitting 7 0 0 (fun r h' => r = some (.int (zI (mNth ζ i 42))) ∧ mFQ ζ rv m ρ ad h 42 h') 79 [some (.ref (ad 200)), some (.int (zI i)), some (.int (zI (mNth ζ i (d + 1)))), some (.int (zI ↑d)), some (.int (zI ↑(mGs ζ d))), some (.int (zI ↑a))] [] hh := by
                    intro ni
                    induction ni with
                    | zero => intro a hh r2 hi1 hi2; exact absurd hi2 (by omega)
                    | succ ni ih3 =>
                      intro a hh r2 hi1 hi2
                      obtain ⟨oa, hr, hw⟩ := id hi1
                      refine v_run 2 (pc' := 82) (ls' := [some (.ref (ad 200)), some (.int (zI i)), some (.int (zI (mNth ζ i (d + 1)))), some (.int (zI ↑d)), some (.int (zI ↑(mGs ζ d))), some (.int (zI ↑a))]) (st' := [.ref (ad 200), .int (zI ↑a)]) rfl ?_
                      refine v_get rfl hr.1.1.1 rfl ?_
                      refine v_run 0 (pc' := 85) (ls' := [some (.ref (ad 200)), some (.int (zI i)), some (.int (zI (mNth ζ i (d + 1)))), some (.int (zI ↑d)), some (.int (zI ↑(mGs ζ d))), some (.int (zI ↑a))]) (st' := [.ref (ad 210), .int (zI ↑a)]) rfl ?_
                      refine v_get rfl hr.1.1.2.1.1 rfl ?_
                      refine v_run 0 (pc' := 88) (ls' := [some (.ref (ad 200)), some (.int (zI i)), some (.int (zI (mNth ζ i (d + 1)))), some (.int (zI ↑d)), some (.int (zI ↑(mGs ζ d))), some (.int (zI ↑a))]) (st' := [.int (zI ↑(ζ 6 0)), .int (zI ↑a)]) rfl ?_
                      refine v_icmp_ge rfl (fun c88 => ?_) (fun c88 => ?_)
                      · simp (disch := omega) only [zI_lt, zI_le, zI_eq, zI_lt0, zI_le0, zI_0lt, zI_0le, zI_eq0] at c88
                        refine v_run 2 (pc' := 29) (ls' := [some (.ref (ad 200)), some (.int (zI i)), some (.int (zI (mNth ζ i (d + 1)))), some (.int ((zI ↑d) + zI 1)), some (.int (zI ↑(mGs ζ d))), some (.int (zI ↑a))]) (st' := []) rfl ?_
                        refine v_drop 4 (ls' := [some (.ref (ad 200)), some (.int (zI i)), some (.int (zI (mNth ζ i (d + 1)))), some (.int ((zI ↑d) + zI 1)), none, some (.int (zI ↑a))]) rfl ?_
                        refine v_drop 5 (ls' := [some (.ref (ad 200)), some (.int (zI i)), some (.int (zI (mNth ζ i (d + 1)))), some (.int ((zI ↑d) + zI 1)), none, none]) rfl ?_
                        rw [zI_s1]
                        exact ih2 (d + 1) hh ⟨by omega, _, r2, hr, by rw [mFc_t nf]; rfl, fun b hb => by rw [hw b hb, if_pos (by omega)]⟩ (by omega)
                      · simp (disch := omega) only [zI_lt, zI_le, zI_eq, zI_lt0, zI_le0, zI_0lt, zI_0le, zI_eq0] at c88
                        have wa := hw a (by omega)
                        rw [if_neg (by omega)] at wa
                        refine v_run 1 (pc' := 92) (ls' := [some (.ref (ad 200)), some (.int (zI i)), some (.int (zI (mNth ζ i (d + 1)))), some (.int (zI ↑d)), some (.int (zI ↑(mGs ζ d))), some (.int (zI ↑a))]) (st' := [.ref (ad 200)]) rfl ?_
                        refine v_get rfl hr.1.1.1 rfl ?_
                        refine v_run 2 (pc' := 98) (ls' := [some (.ref (ad 200)), some (.int (zI i)), some (.int (zI (mNth ζ i (d + 1)))), some (.int (zI ↑d)), some (.int (zI ↑(mGs ζ d))), some (.int (zI ↑a))]) (st' := [.int (zI ↑a), .ref (ad 207), .int (zI ↑a), .ref (ad 207)]) rfl ?_
                        refine v_iaload' rfl hr.1.2.2.2.2.2.2.1 (i := a) rfl (by omega) ?_
                        refine v_run 2 (pc' := 103) (ls' := [some (.ref (ad 200)), some (.int (zI i)), some (.int (zI (mNth ζ i (d + 1)))), some (.int (zI ↑d)), some (.int (zI ↑(mGs ζ d))), some (.int (zI ↑a))]) (st' := [.int (zI ↑a), .int (zI ↑(mGs ζ d)), .int (zI ↑(r2 7 a)), .int (zI ↑a), .ref (ad 207)]) rfl ?_
                        rw [show (zI ↑(r2 7 a) : Int32) = zI ↑(mWn ζ a d) from congrArg (fun n : Nat => zI ↑n) (wa)]
                        refine v_callS (My := mX10_bit) (As := [.int (zI ↑(mGs ζ d)), .int (zI ↑a)]) (rest := [.int (zI ↑(mWn ζ a d)), .int (zI ↑a), .ref (ad 207)]) (mc := 0) (ms := 0) rfl caX10_bit rfl rfl (q_bit G _ (mGs ζ d) a (by omega) (by omega)) rfl rfl (Nat.le_of_ble_eq_true rfl) (by omega) ?_
                        rintro _ _ ⟨rfl, rfl⟩
                        refine v_run 0 (pc' := 106) (ls' := [some (.ref (ad 200)), some (.int (zI i)), some (.int (zI (mNth ζ i (d + 1)))), some (.int (zI ↑d)), some (.int (zI ↑(mGs ζ d))), some (.int (zI ↑a))]) (st' := [.int (zb (bitN (mGs ζ d) a)), .int (zI ↑(mWn ζ a d)), .int (zI ↑a), .ref (ad 207)]) rfl ?_
                        refine v_if_eq rfl (fun c106 => ?_) (fun c106 => ?_)
                        · rw [zb_0, bitN_false] at c106
                          have b2 := bitN_le (mGs ζ d) a
                          refine v_run 2 (pc' := 115) (ls' := [some (.ref (ad 200)), some (.int (zI i)), some (.int (zI (mNth ζ i (d + 1)))), some (.int (zI ↑d)), some (.int (zI ↑(mGs ζ d))), some (.int (zI ↑a))]) (st' := [.int ((zI ↑(mWn ζ a d)) + (zI 0)), .int (zI ↑a), .ref (ad 207)]) rfl ?_
                          rw [show ((zI ↑(mWn ζ a d)) + (zI 0) : Int32) = zI ↑(mWn ζ a (d + 1)) from by rw [show (zI 0) = zI ↑(0 : Nat) from rfl, zN_add, mWn_t nf, show mGs ζ d / 2 ^ a % 2 = 0 by omega]]
                          refine v_iastore' rfl hr.1.2.2.2.2.2.2.1 (i := a) rfl (by omega) ?_
                          rw [ar_upd]
                          generalize e6 : hset hh (ad 207) _ = h6
                          refine v_run 2 (pc' := 79) (ls' := [some (.ref (ad 200)), some (.int (zI i)), some (.int (zI (mNth ζ i (d + 1)))), some (.int (zI ↑d)), some (.int (zI ↑(mGs ζ d))), some (.int ((zI ↑a) + zI 1))]) (st' := []) rfl ?_
                          rw [zI_s1]
                          exact ih3 (a + 1) h6 _ ⟨by omega, ⟨hr.1.w7 hA e6, hr.2.1, ⟨hr.2.2.1.1, hr.2.2.1.2.1, hr.2.2.1.2.2⟩, hr.2.2.2.k e6 (by decide)⟩, mW_st hw⟩ (by omega)
                        · rw [zb_0, Bool.not_eq_false, bitN_true] at c106
                          have b2 := bitN_le (mGs ζ d) a
                          refine v_run 3 (pc' := 115) (ls' := [some (.ref (ad 200)), some (.int (zI i)), some (.int (zI (mNth ζ i (d + 1)))), some (.int (zI ↑d)), some (.int (zI ↑(mGs ζ d))), some (.int (zI ↑a))]) (st' := [.int ((zI ↑(mWn ζ a d)) + (zI 1)), .int (zI ↑a), .ref (ad 207)]) rfl ?_
                          rw [show ((zI ↑(mWn ζ a d)) + (zI 1) : Int32) = zI ↑(mWn ζ a (d + 1)) from by rw [show (zI 1) = zI ↑(1 : Nat) from rfl, zN_add, mWn_t nf, show mGs ζ d / 2 ^ a % 2 = 1 by omega]]
                          refine v_iastore' rfl hr.1.2.2.2.2.2.2.1 (i := a) rfl (by omega) ?_
                          rw [ar_upd]
                          generalize e6 : hset hh (ad 207) _ = h6
                          refine v_run 2 (pc' := 79) (ls' := [some (.ref (ad 200)), some (.int (zI i)), some (.int (zI (mNth ζ i (d + 1)))), some (.int (zI ↑d)), some (.int (zI ↑(mGs ζ d))), some (.int ((zI ↑a) + zI 1))]) (st' := []) rfl ?_
                          rw [zI_s1]
                          exact ih3 (a + 1) h6 _ ⟨by omega, ⟨hr.1.w7 hA e6, hr.2.1, ⟨hr.2.2.1.1, hr.2.2.1.2.1, hr.2.2.1.2.2⟩, hr.2.2.2.k e6 (by decide)⟩, mW_st hw⟩ (by omega)
                  exact lr (ζ 6 0 + 1) 0 h4 _ ⟨by omega, hq4, fun b hb => by rw [if_neg (by omega)]; exact hw7 b hb⟩ (by omega)
              · simp (disch := omega) only [zI_lt, zI_le, zI_eq, zI_lt0, zI_le0, zI_0lt, zI_0le, zI_eq0] at c50
                refine v_run 3 (pc' := 29) (ls' := [some (.ref (ad 200)), some (.int (zI i)), some (.int (zI (mNth ζ i d))), some (.int ((zI ↑d) + zI 1)), some (.int (zI ↑(mGs ζ d))), none]) (st' := []) rfl ?_
                refine v_drop 4 (ls' := [some (.ref (ad 200)), some (.int (zI i)), some (.int (zI (mNth ζ i d))), some (.int ((zI ↑d) + zI 1)), none, none]) rfl ?_
                have nf : mFit ζ d = false := by unfold mFit; simp; omega
                rw [zI_s1, show mNth ζ i d = mNth ζ i (d + 1) from by simp only [mNth]; rw [if_neg (by rw [nf]; simp)]]
                exact ih2 (d + 1) h3 ⟨by omega, mm, _, hq3, by rw [hm22, mFc_f nf], fun a ha => by rw [mWn_f nf]; exact hw7 a ha⟩ (by omega)
        exact lq 43 0 h2 ⟨by omega, hq2⟩ (by omega)
      · simp (disch := omega) only [zI_lt, zI_le, zI_eq, zI_lt0, zI_le0, zI_0lt, zI_0le, zI_eq0] at c11
        refine v_run 1 (pc' := 15) (ls' := [some (.ref (ad 200)), some (.int (zI i)), some (.int (zI (-1))), some (.int (zI ↑s)), none, none]) (st' := [.ref (ad 200)]) rfl ?_
        refine v_get rfl ((hset_ne _ _ (ad_ne hA (by decide))).trans hq1.1.1.1) rfl ?_
        refine v_run 2 (pc' := 20) (ls' := [some (.ref (ad 200)), some (.int (zI i)), some (.int (zI (-1))), some (.int (zI ↑s)), none, none]) (st' := [.int (zI 0), .int (zI ↑s), .ref (ad 207)]) rfl ?_
        refine v_iastore' rfl (hset_self _ _ _) (i := s) rfl (by omega) ?_
        rw [show (zI 0) = zI ↑(0 : Nat) from rfl, ar_upd, hset_hset, show (fun j => if j = s then 0 else (fun k => if k < s then 0 else ρ 7 k) j) = (fun k => if k < s + 1 then 0 else ρ 7 k) from fill_step (g := fun _ => 0) s]
        refine v_run 2 (pc' := 9) (ls' := [some (.ref (ad 200)), some (.int (zI i)), some (.int (zI (-1))), some (.int ((zI ↑s) + zI 1)), none, none]) (st' := []) rfl ?_
        rw [zI_s1]
        exact ih (s + 1) (by omega) (by omega)
  have lr := lp 6 0 (by omega) (by omega)
  rw [show (fun k => if k < 0 then 0 else ρ 7 k) = ρ 7 from by funext t; simp, hset_same h1 hq1.1.2.2.2.2.2.2.1] at lr
  exact lr

