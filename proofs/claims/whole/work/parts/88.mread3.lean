def uS (B : Nat → Int) (n : Nat) (m : Nat → Int) : pR Nat → Prop
  | .inl e => m 9 = 5 ∧ m 12 = ↑e.1 ∧ m 13 = ↑e.2
  | .inr i => m 8 = ↑(pos B n (i + 1)) ∧ m 9 = ↑(tS B n i) ∧ m 10 = ↑(tP B n i) ∧ (tS B n i = 2 → m 14 = ↑(tV B n i)) ∧ (tS B n i = 3 → m 11 = ↑(tV B n i)) ∧ m 12 = 0
def RdAt (h : ssH) (ad : Nat → Nat) (ζ : zT) : Prop := SafAt h ad 230 ζ ∧ h (Sf ad 230 21) = some (arL 17 (ζ 21)) ∧ h (Sf ad 230 22) = some (ar 17 (ζ 22)) ∧ h (Sf ad 230 23) = some (ar 17 (ζ 23))
def MRd (h : ssH) (ad : Nat → Nat) (sv : Value) (m : Nat → Int) (B : Nat → Int) (n : Nat) (ζ : zT) (u : pR Nat) : Prop := h (ad 200) = some (.inr (10, obM ad sv (.ref (ad 230)) m)) ∧ h (ad 201) = some (arB 900 B) ∧ RdAt h ad ζ ∧ m 7 = ↑n ∧ uS B n m u
def mKp (m m' : Nat → Int) : Prop := ∀ k, k < 8 ∨ 15 ≤ k → m' k = m k
def frN (ad : Nat → Nat) (h h' : ssH) : Prop := ∀ b, b ≠ ad 200 → (∀ k, 230 ≤ k → k < 243 → b ≠ ad k) → h' b = h b
def GQ (ad : Nat → Nat) (sv : Value) (m : Nat → Int) (B : Nat → Int) (n : Nat) (ζ : zT) (u : pR Nat) (r0 : Option Value) (h : ssH) : Option Value → ssH → Prop := fun r h' => r = r0 ∧ ∃ m', MRd h' ad sv m' B n ζ u ∧ mKp m m' ∧ frN ad h h'
section GX
variable {h h1 h2 : ssH} {ad : Nat → Nat} {sv : Value} {m m' : Nat → Int} {B : Nat → Int} {n : Nat} {ζ : zT} {u u' : pR Nat}
theorem mKp.rf (m : Nat → Int) : mKp m m := fun _ _ => rfl
theorem mKp.tr {m1 m2 m3 : Nat → Int} (a : mKp m1 m2) (b : mKp m2 m3) : mKp m1 m3 := fun k hk => (b k hk).trans (a k hk)
theorem frN.rf (ad : Nat → Nat) (h : ssH) : frN ad h h := fun _ _ _ => rfl
theorem frN.tr (a : frN ad h h1) (b : frN ad h1 h2) : frN ad h h2 := fun q a1 a2 => (b q a1 a2).trans (a q a1 a2)
theorem frN.set {k : Nat} (hk : k = 200 ∨ (230 ≤ k ∧ k < 243)) (e : ssE) : frN ad h (hset h (ad k) e) := fun q a1 a2 => hset_ne _ _ (fun z => by
  rcases hk with rfl | ⟨h1, h2⟩
  · exact a1 z
  · exact a2 _ h1 h2 z)
theorem RdAt.fr {k : Nat} {e : ssE} (hA : ∀ k l, ad k = ad l → k = l) (hr : RdAt h ad ζ) (hk : k < 230 ∨ 243 ≤ k) : RdAt (hset h (ad k) e) ad ζ :=
  ⟨hr.1.fr hA (by omega), (hset_ne _ _ (ad_ne hA (by omega))).trans hr.2.1, (hset_ne _ _ (ad_ne hA (by omega))).trans hr.2.2.1, (hset_ne _ _ (ad_ne hA (by omega))).trans hr.2.2.2⟩
theorem MRd.st (hA : ∀ k l, ad k = ad l → k = l) (hm : MRd h ad sv m B n ζ u) (h7 : m' 7 = ↑n) (hu : uS B n m' u') : MRd (hset h (ad 200) (.inr (10, obM ad sv (.ref (ad 230)) m'))) ad sv m' B n ζ u' :=
  ⟨hset_self _ _ _, (hset_ne _ _ (ad_ne hA (by decide))).trans hm.2.1, hm.2.2.1.fr hA (by omega), h7, hu⟩
theorem m9_ne (i : Nat) : ¬ zI ↑(tS B n i) = zI 5 := by
  have := kS_le (T := B) (n := n) (pos B n i)
  have h : tS B n i ≤ 4 := this
  rw [zI_eq (by omega) (by omega) (by omega) (by omega)]
  omega
end GX
theorem g_on (G : ssG) (h : ssH) {ad : Nat → Nat} {sv : Value} {m : Nat → Int} {B : Nat → Int} {n : Nat} {ζ : zT} {u : pR Nat} (hA : ∀ k l, ad k = ad l → k = l) (hB : ∀ k, -128 ≤ B k ∧ B k ≤ 127) (hn : n ≤ 900) (hm : MRd h ad sv m B n ζ u) : ssC G mX10_goesOn 1 0 0 [.ref (ad 200)] h (GQ ad sv m B n ζ (sb u (fun i => .inr (i + 1))) none h) := by
  cases u with
  | inl e =>
    refine c_of_v okX10_goesOn (by decide +kernel) (ls := [some (.ref (ad 200)), none, none]) rfl (Nat.le_of_ble_eq_true rfl) ?_
    refine v_run 1 (pc' := 1) (ls' := [some (.ref (ad 200)), none, none]) (st' := [.ref (ad 200)]) rfl ?_
    refine v_get rfl hm.1 rfl ?_
    refine v_run 1 (pc' := 5) (ls' := [some (.ref (ad 200)), none, none]) (st' := [.int (zI 5), .int (zI (m 9))]) rfl ?_
    refine v_icmp_ne rfl (fun c => absurd (by rw [hm.2.2.2.2.1]) c) (fun _ => ?_)
    exact v_vret rfl rfl ⟨rfl, m, hm, mKp.rf m, frN.rf ad h⟩
  | inr i =>
    obtain ⟨u1, u2, u3, u4, u5, u6⟩ := hm.2.2.2.2
    refine ssC.weak (g_goesOn G h (i := i + 1) hA hm.1 hm.2.1 hB hn hm.2.2.2.1 (by rw [u2]; exact m9_ne i) u1) ?_
    rintro r h' ⟨rfl, m', e, k, e8, e9, e10, e14, e11⟩
    exact ⟨rfl, m', e ▸ hm.st hA ((k 7 (by omega)).trans hm.2.2.2.1) ⟨e8, e9, e10, e14, e11, (k 12 (by omega)).trans u6⟩, fun j hj => k j (by omega), e ▸ frN.set (Or.inl rfl) _⟩
set_option maxRecDepth 100000 in
set_option maxHeartbeats 400000 in
theorem g_flaw (G : ssG) (h : ssH) {ad : Nat → Nat} {sv : Value} {m : Nat → Int} {B : Nat → Int} {n : Nat} {ζ : zT} {u : pR Nat} {f : Nat} (hA : ∀ k l, ad k = ad l → k = l) (hB : ∀ k, -128 ≤ B k ∧ B k ≤ 127) (hn : n ≤ 900) (hm : MRd h ad sv m B n ζ u)  : ssC G mX10_flaw 0 0 0 [.ref (ad 200), .int (zI ↑f)] h (GQ ad sv m B n ζ (sb u (fun i => .inl (f, tP B n i))) (none) h) := by
  refine c_of_v okX10_flaw (by decide +kernel) (ls := [some (.ref (ad 200)), some (.int (zI ↑f))]) rfl (Nat.le_of_ble_eq_true rfl) ?_
  rcases u with e | i
  · refine v_run 1 (pc' := 1) (ls' := [some (.ref (ad 200)), some (.int (zI ↑f))]) (st' := [.ref (ad 200)]) rfl ?_
    refine v_get rfl hm.1 rfl ?_
    refine v_run 1 (pc' := 5) (ls' := [some (.ref (ad 200)), some (.int (zI ↑f))]) (st' := [.int (zI 5), .int (zI (m 9))]) rfl ?_
    refine v_icmp_ne rfl (fun c5 => ?_) (fun c5 => ?_)
    · exact absurd (by rw [hm.2.2.2.2.1]) c5
    · exact v_vret rfl rfl ⟨rfl, m, hm, mKp.rf m, frN.rf ad h⟩
  · obtain ⟨u1, u2, u3, u4, u5, u6⟩ := id hm.2.2.2.2
    refine v_run 1 (pc' := 1) (ls' := [some (.ref (ad 200)), some (.int (zI ↑f))]) (st' := [.ref (ad 200)]) rfl ?_
    refine v_get rfl hm.1 rfl ?_
    refine v_run 1 (pc' := 5) (ls' := [some (.ref (ad 200)), some (.int (zI ↑f))]) (st' := [.int (zI 5), .int (zI (m 9))]) rfl ?_
    refine v_icmp_ne rfl (fun c5 => ?_) (fun c5 => ?_)
    · refine v_run 2 (pc' := 11) (ls' := [some (.ref (ad 200)), some (.int (zI ↑f))]) (st' := [.int (zI ↑f), .ref (ad 200)]) rfl ?_
      refine v_put rfl hm.1 rfl rfl (Nat.le_of_ble_eq_true rfl) ?_
      rw [show (obM ad sv (.ref (ad 230)) m).set 12 (.int (zI ↑f)) = obM ad sv (.ref (ad 230)) (mU m 12 ↑f) from rfl]
      refine v_run 2 (pc' := 16) (ls' := [some (.ref (ad 200)), some (.int (zI ↑f))]) (st' := [.ref (ad 200), .ref (ad 200)]) rfl ?_
      refine v_get rfl (hset_self _ _ _) rfl ?_
      refine v_run 0 (pc' := 19) (ls' := [some (.ref (ad 200)), some (.int (zI ↑f))]) (st' := [.int (zI (m 10)), .ref (ad 200)]) rfl ?_
      refine v_put rfl (hset_self _ _ _) rfl rfl (Nat.le_of_ble_eq_true rfl) ?_
      rw [hset_hset, show (obM ad sv (.ref (ad 230)) (mU m 12 ↑f)).set 13 (.int (zI (m 10))) = obM ad sv (.ref (ad 230)) (mU (mU m 12 ↑f) 13 (m 10)) from rfl]
      refine v_run 2 (pc' := 24) (ls' := [some (.ref (ad 200)), some (.int (zI ↑f))]) (st' := [.int (zI 5), .ref (ad 200)]) rfl ?_
      refine v_put rfl (hset_self _ _ _) rfl rfl (Nat.le_of_ble_eq_true rfl) ?_
      rw [hset_hset, show (obM ad sv (.ref (ad 230)) (mU (mU m 12 ↑f) 13 (m 10))).set 9 (.int (zI 5)) = obM ad sv (.ref (ad 230)) (mU (mU (mU m 12 ↑f) 13 (m 10)) 9 5) from rfl]
      refine v_run 0 (pc' := 27) (ls' := [some (.ref (ad 200)), some (.int (zI ↑f))]) (st' := []) rfl ?_
      exact v_vret rfl rfl ⟨rfl, (mU (mU (mU m 12 ↑f) 13 (m 10)) 9 5), hm.st hA hm.2.2.2.1 ⟨rfl, rfl, u3⟩, fun k hk => by simp only [mU]; rw [if_neg (by omega), if_neg (by omega), if_neg (by omega)], frN.set (Or.inl rfl) _⟩
    · exact absurd (u2 ▸ c5) (m9_ne i)

set_option maxRecDepth 100000 in
set_option maxHeartbeats 400000 in
theorem g_packed (G : ssG) (h : ssH) {q : Nat} (hq : 1 ≤ q ∧ q ≤ 21) : ssC G mX10_packed 4 0 0 [.ref (gK G (q - 1))] h (fun r h' => r = some (.long (zL ↑(kw q))) ∧ h = h') := by
  refine c_of_v okX10_packed (by decide +kernel) (ls := [some (.ref (gK G (q - 1))), none, none, none]) rfl (Nat.le_of_ble_eq_true rfl) ?_
  obtain ⟨f1, f2, f3, f4, f5⟩ := kw_facts ⟨q, by omega⟩ hq.1
  simp only at f1 f2 f3 f4 f5
  refine v_run 4 (pc' := 4) (ls' := [some (.ref (gK G (q - 1))), some (.long (zL 0)), none, some (.int (zI 0))]) (st' := []) rfl ?_
  have lp : ∀ (f : Nat) (k : Nat), k ≤ kLn q → kLn q + 1 ≤ k + f → ssV G mX10_packed 4 0 0 (fun r h' => r = some (.long (zL ↑(kw q))) ∧ h = h') 4 [some (.ref (gK G (q - 1))), some (.long (zL ↑(pkF (kCh q) 32 k))), none, some (.int (zI ↑k))] [] (h) := by
    intro f
    induction f with
    | zero => intro k hs1 hs2; have q1 := hs1; exact absurd hs2 (by omega)
    | succ f ihlp =>
      intro k hs1 hs2
      have q1 := hs1
      refine v_run 2 (pc' := 6) (ls' := [some (.ref (gK G (q - 1))), some (.long (zL ↑(pkF (kCh q) 32 k))), none, some (.int (zI ↑k))]) (st' := [.ref (gK G (q - 1)), .int (zI ↑k)]) rfl ?_
      refine v_callT (My := mJ0_length_8abf5) (As := []) (rest := [.int (zI ↑k)]) (mc := 0) (ms := 0) (show q - 1 < 22 by omega) rfl caJ0_length_8abf5 rfl rfl rfl rfl (s_length G _ (show q - 1 < 22 by omega)) rfl rfl (Nat.le_of_ble_eq_true rfl) (by omega) ?_
      rintro _ _ ⟨rfl, rfl⟩
      refine v_run 0 (pc' := 9) (ls' := [some (.ref (gK G (q - 1))), some (.long (zL ↑(pkF (kCh q) 32 k))), none, some (.int (zI ↑k))]) (st' := [.int (zI ↑(kLn q)), .int (zI ↑k)]) rfl ?_
      refine v_icmp_ge rfl (fun c9 => ?_) (fun c9 => ?_)
      · simp (disch := omega) only [zI_lt, zI_le, zI_eq, zI_lt0, zI_le0, zI_0lt, zI_0le, zI_eq0] at c9
        refine v_run 1 (pc' := 37) (ls' := [some (.ref (gK G (q - 1))), some (.long (zL ↑(pkF (kCh q) 32 k))), none, some (.int (zI ↑k))]) (st' := [.long (zL ↑(pkF (kCh q) 32 k))]) rfl ?_
        exact v_lret rfl rfl ⟨by rw [show k = kLn q by omega]; rfl, rfl⟩
      · simp (disch := omega) only [zI_lt, zI_le, zI_eq, zI_lt0, zI_le0, zI_0lt, zI_0le, zI_eq0] at c9
        refine v_run 5 (pc' := 19) (ls' := [some (.ref (gK G (q - 1))), some (.long (zL ↑(pkF (kCh q) 32 k))), none, some (.int (zI ↑k))]) (st' := [.int (zI ↑k), .ref (gK G (q - 1)), .long ((zL 32) * (zL ↑(pkF (kCh q) 32 k)))]) rfl ?_
        refine v_callT (My := mJ0_charAt_5068e) (As := [.int (zI ↑k)]) (rest := [.long ((zL 32) * (zL ↑(pkF (kCh q) 32 k)))]) (mc := 0) (ms := 0) (show q - 1 < 22 by omega) rfl caJ0_charAt_5068e rfl rfl rfl rfl (s_charAt G _ (show q - 1 < 22 by omega) (show k < ssSl.getD (q - 1) 0 by show k < kLn q; omega)) rfl rfl (Nat.le_of_ble_eq_true rfl) (by omega) ?_
        rintro _ _ ⟨rfl, rfl⟩
        refine v_run 0 (pc' := 22) (ls' := [some (.ref (gK G (q - 1))), some (.long (zL ↑(pkF (kCh q) 32 k))), none, some (.int (zI ↑k))]) (st' := [.int ((ssSb.getD (q - 1) []).getD k 0), .long ((zL 32) * (zL ↑(pkF (kCh q) 32 k)))]) rfl ?_
        obtain ⟨c1, c2, c3⟩ := f4 ⟨k, by omega⟩ (by simp only; omega)
        simp only at c1 c2 c3
        rw [c3]
        refine v_run 6 (pc' := 29) (ls' := [some (.ref (gK G (q - 1))), some (.long (zL ↑(pkF (kCh q) 32 k))), none, some (.int (zI ↑k))]) (st' := [.long (((zL 32) * (zL ↑(pkF (kCh q) 32 k))) + ((((zI (↑(kCh q k) + 96)) - (zI 97)) + (zI 1)).toInt64))]) rfl ?_
        rw [show (zL 32 * zL ↑(pkF (kCh q) 32 k)) + (zI (↑(kCh q k) + 96) - zI 97 + zI 1).toInt64 = zL ↑(pkF (kCh q) 32 (k + 1)) from by rw [zI_sub, zI_add, zI_l (by omega) (by omega), zL_mul, zL_add]; congr 1; simp only [pkF]; omega]
        refine v_run 3 (pc' := 4) (ls' := [some (.ref (gK G (q - 1))), some (.long (zL ↑(pkF (kCh q) 32 (k + 1)))), none, some (.int ((zI ↑k) + zI 1))]) (st' := []) rfl ?_
        rw [zI_s1]
        exact ihlp (k + 1) (by omega) (by omega)
  exact lp (kLn q + 1) 0 (by omega) (by omega)

def isU (B : Nat → Int) (n q : Nat) : pR Nat → Bool
  | .inl _ => false
  | .inr i => decide (tK B n i = q)
def nmU (B : Nat → Int) (n : Nat) : pR Nat → Bool
  | .inl _ => false
  | .inr i => nmB B n i
set_option maxRecDepth 100000 in
set_option maxHeartbeats 400000 in
theorem g_isWord (G : ssG) (h : ssH) {ad : Nat → Nat} {sv : Value} {m : Nat → Int} {B : Nat → Int} {n : Nat} {ζ : zT} {u : pR Nat} {q : Nat} (hA : ∀ k l, ad k = ad l → k = l) (hB : ∀ k, -128 ≤ B k ∧ B k ≤ 127) (hn : n ≤ 900) (hm : MRd h ad sv m B n ζ u) (hq : 1 ≤ q ∧ q ≤ 21) : ssC G mX10_isWord 5 0 0 [.ref (ad 200), .ref (gK G (q - 1))] h (rI (zb (isU B n q u)) h) := by
  refine c_of_v okX10_isWord (by decide +kernel) (ls := [some (.ref (ad 200)), some (.ref (gK G (q - 1)))]) rfl (Nat.le_of_ble_eq_true rfl) ?_
  rcases u with e | i
  · refine v_run 1 (pc' := 1) (ls' := [some (.ref (ad 200)), some (.ref (gK G (q - 1)))]) (st' := [.ref (ad 200)]) rfl ?_
    refine v_get rfl hm.1 rfl ?_
    refine v_run 1 (pc' := 5) (ls' := [some (.ref (ad 200)), some (.ref (gK G (q - 1)))]) (st' := [.int (zI 2), .int (zI (m 9))]) rfl ?_
    refine v_icmp_ne rfl (fun c5 => ?_) (fun c5 => ?_)
    · refine v_run 1 (pc' := 25) (ls' := [some (.ref (ad 200)), some (.ref (gK G (q - 1)))]) (st' := [.int (zI 0)]) rfl ?_
      exact v_iret rfl rfl rfl ⟨rfl, rfl⟩
    · exact absurd (hm.2.2.2.2.1 ▸ c5) (by decide)
  · obtain ⟨u1, u2, u3, u4, u5, u6⟩ := id hm.2.2.2.2
    have k4 : tS B n i ≤ 4 := kS_le _
    have hiff := tK_iff (T := B) (n := n) (i := i) hq.1 hq.2
    refine v_run 1 (pc' := 1) (ls' := [some (.ref (ad 200)), some (.ref (gK G (q - 1)))]) (st' := [.ref (ad 200)]) rfl ?_
    refine v_get rfl hm.1 rfl ?_
    refine v_run 1 (pc' := 5) (ls' := [some (.ref (ad 200)), some (.ref (gK G (q - 1)))]) (st' := [.int (zI 2), .int (zI (m 9))]) rfl ?_
    rw [u2]
    refine v_icmp_ne rfl (fun c5 => ?_) (fun c5 => ?_)
    · simp (disch := omega) only [zI_lt, zI_le, zI_eq, zI_lt0, zI_le0, zI_0lt, zI_0le, zI_eq0] at c5
      refine v_run 1 (pc' := 25) (ls' := [some (.ref (ad 200)), some (.ref (gK G (q - 1)))]) (st' := [.int (zI 0)]) rfl ?_
      exact v_iret rfl rfl rfl ⟨by rw [show isU B n q (.inr i) = false from decide_eq_false (fun z => c5 (by have := (hiff.mp z).1; omega))]; rfl, rfl⟩
    · simp (disch := omega) only [zI_lt, zI_le, zI_eq, zI_lt0, zI_le0, zI_0lt, zI_0le, zI_eq0] at c5
      have es : tS B n i = 2 := by omega
      have hv : tV B n i < 1099511627776 := kV_lt2 es
      have f5 := (kw_facts ⟨q, by omega⟩ hq.1).2.2.2.2
      simp only at f5
      refine v_run 1 (pc' := 9) (ls' := [some (.ref (ad 200)), some (.ref (gK G (q - 1)))]) (st' := [.ref (ad 200)]) rfl ?_
      refine v_get rfl hm.1 rfl ?_
      refine v_run 1 (pc' := 13) (ls' := [some (.ref (ad 200)), some (.ref (gK G (q - 1)))]) (st' := [.ref (gK G (q - 1)), .long (zL (m 14))]) rfl ?_
      refine v_callS (My := mX10_packed) (As := [.ref (gK G (q - 1))]) (rest := [.long (zL (m 14))]) (mc := 0) (ms := 0) rfl caX10_packed rfl rfl (g_packed G _ hq) rfl rfl (Nat.le_of_ble_eq_true rfl) (by omega) ?_
      rintro _ _ ⟨rfl, rfl⟩
      refine v_run 0 (pc' := 16) (ls' := [some (.ref (ad 200)), some (.ref (gK G (q - 1)))]) (st' := [.long (zL ↑(kw q)), .long (zL (m 14))]) rfl ?_
      rw [u4 es]
      refine v_run 1 (pc' := 17) (ls' := [some (.ref (ad 200)), some (.ref (gK G (q - 1)))]) (st' := [.int (lg_cmp (zL ↑(tV B n i)) (zL ↑(kw q)))]) rfl ?_
      refine v_if_ne rfl (fun c17 => ?_) (fun c17 => ?_)
      · rw [lg_eq0, zL_eq (by omega) (by omega) (by omega) (by omega)] at c17
        refine v_run 1 (pc' := 25) (ls' := [some (.ref (ad 200)), some (.ref (gK G (q - 1)))]) (st' := [.int (zI 0)]) rfl ?_
        exact v_iret rfl rfl rfl ⟨by rw [show isU B n q (.inr i) = false from decide_eq_false (fun z => c17 (by rw [(hiff.mp z).2]))]; rfl, rfl⟩
      · rw [lg_eq0, zL_eq (by omega) (by omega) (by omega) (by omega)] at c17
        refine v_run 2 (pc' := 25) (ls' := [some (.ref (ad 200)), some (.ref (gK G (q - 1)))]) (st' := [.int (zI 1)]) rfl ?_
        exact v_iret rfl rfl rfl ⟨by rw [show isU B n q (.inr i) = true from decide_eq_true (hiff.mpr ⟨es, by omega⟩)]; rfl, rfl⟩

