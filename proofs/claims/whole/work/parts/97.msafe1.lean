def MRow (h : ssH) (ad : Nat → Nat) (ρ : Nat → Nat → Nat) : Prop := h (ad 203) = some (ar 26 (ρ 3)) ∧ h (ad 202) = some (ar 26 (ρ 2)) ∧ h (ad 204) = some (ar 416 (ρ 4)) ∧ h (ad 205) = some (ar 78 (ρ 5)) ∧ h (ad 206) = some (ar 6 (ρ 6)) ∧ h (ad 207) = some (ar 5 (ρ 7)) ∧ h (ad 208) = some (arL 6 (ρ 8))
set_option maxRecDepth 100000 in
set_option maxHeartbeats 400000 in
theorem sf_tail (G : ssG) (h : ssH) {ad : Nat → Nat} {sv : Value} {m : Nat → Int} {Q : Option Value → ssH → Prop} {x : Int32} {ζ : zT} {ρ : Nat → Nat → Nat} (hA : ∀ k l, ad k = ad l → k = l) (ho : h (ad 200) = some (.inr (10, obM ad sv (.ref (ad 210)) m))) (hs : SafAt h ad 210 ζ) (hr : MRow h ad ρ) (hx : XOk (ρ 3)) (hV : ∀ k, 26 ≤ k → ρ 2 k = 0) (hz : SaOk ζ) (hQ : ∀ h' ρ', MT h' ad (.ref (ad 210)) (mT (mU (mU m 19 0) 20 0) 0) ζ ρ' → ρ' 2 = mTold ζ → frM ad h h' → Q (some (.int (zI ↑(ζ 5 0)))) h') : ssV G mX10_safe 12 0 0 Q 89 [some (.ref (ad 200)), some (.int x), none] [] h := by
  refine v_run 2 (pc' := 91) (ls' := [some (.ref (ad 200)), some (.int x), none]) (st' := [.ref (ad 200), .ref (ad 200)]) rfl ?_
  refine v_get rfl ho rfl ?_
  refine v_run 0 (pc' := 94) (ls' := [some (.ref (ad 200)), some (.int x), none]) (st' := [.ref (ad 210), .ref (ad 200)]) rfl ?_
  refine v_put rfl ho rfl rfl (Nat.le_of_ble_eq_true rfl) ?_
  rw [show (obM ad sv (.ref (ad 210)) m).set 3 (.ref (ad 210)) = obM ad (.ref (ad 210)) (.ref (ad 210)) m from rfl]
  have ht1 : MT (hset h (ad 200) (.inr (10, obM ad (.ref (ad 210)) (.ref (ad 210)) m))) ad (.ref (ad 210)) m ζ ρ := ⟨⟨hset_self _ _ _, hs.fr hA (by omega), ((hset_ne _ _ (ad_ne hA (by decide))).trans hr.1)⟩, hx, ((hset_ne _ _ (ad_ne hA (by decide))).trans hr.2.1), ((hset_ne _ _ (ad_ne hA (by decide))).trans hr.2.2.1), ((hset_ne _ _ (ad_ne hA (by decide))).trans hr.2.2.2.1), ((hset_ne _ _ (ad_ne hA (by decide))).trans hr.2.2.2.2.1), ((hset_ne _ _ (ad_ne hA (by decide))).trans hr.2.2.2.2.2.1), ((hset_ne _ _ (ad_ne hA (by decide))).trans hr.2.2.2.2.2.2)⟩
  generalize e1 : hset h (ad 200) _ = h1 at ht1 ⊢
  have hf1 : frM ad h h1 := (frM.rf ad h).ob e1
  refine v_run 1 (pc' := 98) (ls' := [some (.ref (ad 200)), some (.int x), none]) (st' := [.ref (ad 200)]) rfl ?_
  refine v_callV (My := mX10_asTold) (As := []) (rest := []) (mc := 0) (ms := 0) rfl caX10_asTold rfl rfl rfl ht1.1.1 rfl rfl (q_asTold G _ hA ht1.1 hz ht1.2.1) rfl rfl (Nat.le_of_ble_eq_true rfl) (by omega) ?_
  rintro _ h2 ⟨rfl, e2⟩
  refine v_run 0 (pc' := 101) (ls' := [some (.ref (ad 200)), some (.int x), none]) (st' := []) rfl ?_
  have ht2 := ht1.xs hA e2 (mTold_ok hz)
  have hf2 := hf1.k e2 (by decide)
  have x26 := (mTold_ok hz).2.2.2.2.2.2
  refine v_run 2 (pc' := 103) (ls' := [some (.ref (ad 200)), some (.int x), some (.int (zI 0))]) (st' := []) rfl ?_
  have lp : ∀ (f : Nat) (s : Nat), s ≤ 26 → 26 + 1 ≤ s + f → ssV G mX10_safe 12 0 0 (Q) 103 [some (.ref (ad 200)), some (.int x), some (.int (zI ↑s))] [] (hset h2 (ad 202) (ar 26 (fun k => if k < s then mTold ζ k else ρ 2 k))) := by
    intro f
    induction f with
    | zero => intro s hs1 hs2; have q1 := hs1; exact absurd hs2 (by omega)
    | succ f ihlp =>
      intro s hs1 hs2
      have q1 := hs1
      refine v_run 2 (pc' := 106) (ls' := [some (.ref (ad 200)), some (.int x), some (.int (zI ↑s))]) (st' := [.int (zI 26), .int (zI ↑s)]) rfl ?_
      refine v_icmp_ge rfl (fun c106 => ?_) (fun c106 => ?_)
      · simp (disch := omega) only [zI_lt, zI_le, zI_eq, zI_lt0, zI_le0, zI_0lt, zI_0le, zI_eq0] at c106
        have es : s = 26 := by omega
        subst es
        rw [← hx26 (mTold ζ) (ρ 2) (fun k hk => (x26 k hk).trans (hV k hk).symm)]
        generalize e3 : hset h2 (ad 202) _ = h3
        have ht3 := ht2.v2 hA e3
        have hf3 := hf2.k e3 (by decide)
        refine v_drop 2 rfl ?_
        refine v_run 2 (pc' := 129) (ls' := [some (.ref (ad 200)), some (.int x), none]) (st' := [.int (zI 0), .ref (ad 200)]) rfl ?_
        refine v_put rfl ht3.1.1 rfl rfl (Nat.le_of_ble_eq_true rfl) ?_
        rw [show (obM ad (.ref (ad 210)) (.ref (ad 210)) m).set 19 (.int (zI 0)) = obM ad (.ref (ad 210)) (.ref (ad 210)) (mU m 19 0) from rfl]
        generalize e4 : hset h3 (ad 200) _ = h4
        have ht4 := ht3.ob hA e4
        have hf4 := hf3.ob e4
        refine v_run 2 (pc' := 134) (ls' := [some (.ref (ad 200)), some (.int x), none]) (st' := [.int (zI 0), .ref (ad 200)]) rfl ?_
        refine v_put rfl ht4.1.1 rfl rfl (Nat.le_of_ble_eq_true rfl) ?_
        rw [show (obM ad (.ref (ad 210)) (.ref (ad 210)) (mU m 19 0)).set 20 (.int (zI 0)) = obM ad (.ref (ad 210)) (.ref (ad 210)) (mU (mU m 19 0) 20 0) from rfl]
        generalize e5 : hset h4 (ad 200) _ = h5
        have ht5 := ht4.ob hA e5
        have hf5 := hf4.ob e5
        refine v_run 2 (pc' := 139) (ls' := [some (.ref (ad 200)), some (.int x), none]) (st' := [.ref (ad 200), .ref (ad 200)]) rfl ?_
        refine v_get rfl ht5.1.1 rfl ?_
        refine v_run 0 (pc' := 142) (ls' := [some (.ref (ad 200)), some (.int x), none]) (st' := [.ref (ad 210), .ref (ad 200)]) rfl ?_
        refine v_get rfl ht5.1.2.1.1 rfl ?_
        refine v_run 0 (pc' := 145) (ls' := [some (.ref (ad 200)), some (.int x), none]) (st' := [.int (zI ↑(ζ 5 0)), .ref (ad 200)]) rfl ?_
        refine v_callV (My := mX10_well) (As := [.int (zI ↑(ζ 5 0))]) (rest := []) (mc := 0) (ms := 0) rfl caX10_well rfl rfl rfl ht5.1.1 rfl rfl (q_well G _ _ ht5.1.1) rfl rfl (Nat.le_of_ble_eq_true rfl) (by omega) ?_
        rintro _ h6 ⟨rfl, e6⟩
        refine v_run 0 (pc' := 148) (ls' := [some (.ref (ad 200)), some (.int x), none]) (st' := [.int (zI ↑(ζ 5 0))]) rfl ?_
        have ht6 := ht5.ob hA e6
        have hf6 := hf5.ob e6
        exact v_iret rfl rfl rfl (hQ _ _ ht6 rfl hf6)
      · simp (disch := omega) only [zI_lt, zI_le, zI_eq, zI_lt0, zI_le0, zI_0lt, zI_0le, zI_eq0] at c106
        refine v_run 1 (pc' := 110) (ls' := [some (.ref (ad 200)), some (.int x), some (.int (zI ↑s))]) (st' := [.ref (ad 200)]) rfl ?_
        refine v_get rfl ((hset_ne _ _ (ad_ne hA (by decide))).trans ht2.1.1) rfl ?_
        refine v_run 2 (pc' := 115) (ls' := [some (.ref (ad 200)), some (.int x), some (.int (zI ↑s))]) (st' := [.ref (ad 200), .int (zI ↑s), .ref (ad 202)]) rfl ?_
        refine v_get rfl ((hset_ne _ _ (ad_ne hA (by decide))).trans ht2.1.1) rfl ?_
        refine v_run 1 (pc' := 119) (ls' := [some (.ref (ad 200)), some (.int x), some (.int (zI ↑s))]) (st' := [.int (zI ↑s), .ref (ad 203), .int (zI ↑s), .ref (ad 202)]) rfl ?_
        refine v_iaload' rfl ((hset_ne _ _ (ad_ne hA (by decide))).trans ht2.1.2.2) (i := s) rfl (by omega) ?_
        refine v_run 0 (pc' := 120) (ls' := [some (.ref (ad 200)), some (.int x), some (.int (zI ↑s))]) (st' := [.int (zI ↑(mTold ζ s)), .int (zI ↑s), .ref (ad 202)]) rfl ?_
        refine v_iastore' rfl (hset_self _ _ _) (i := s) rfl (by omega) ?_
        rw [ar_upd, hset_hset, show (fun j => if j = s then mTold ζ s else (fun k => if k < s then mTold ζ k else ρ 2 k) j) = (fun k => if k < (s + 1) then mTold ζ k else ρ 2 k) from fill_step s]
        refine v_run 2 (pc' := 103) (ls' := [some (.ref (ad 200)), some (.int x), some (.int ((zI ↑s) + zI 1))]) (st' := []) rfl ?_
        rw [zI_s1]
        exact ihlp (s + 1) (by omega) (by omega)
  have e0 : hset h2 (ad 202) (ar 26 (fun k => if k < 0 then mTold ζ k else ρ 2 k)) = h2 := by rw [show (fun k => if k < 0 then mTold ζ k else ρ 2 k) = ρ 2 from by funext t; simp]; exact hset_same h2 ht2.2.2.1
  have lq := lp 27 0 (by omega) (by omega)
  rw [e0] at lq
  exact lq

theorem GA_n {ad : Nat → Nat} {sv : Value} {m : Nat → Int} {B : Nat → Int} {n : Nat} {h h' : ssH} {r : pR zT} {a : Option Value} (q : GA ad sv m B n h r a h') : a = none := by
  cases r with
  | inl e => exact q.1
  | inr z => exact q.1
set_option maxRecDepth 100000 in
set_option maxHeartbeats 400000 in
theorem sf_mid (G : ssG) (h : ssH) {ad : Nat → Nat} {sv : Value} {m : Nat → Int} {Q : Option Value → ssH → Prop} {x : Int32} {B : Nat → Int} {n : Nat} (hA : ∀ k l, ad k = ad l → k = l) (hB : ∀ k, -128 ≤ B k ∧ B k ≤ 127) (hn : n ≤ 900) (ho : h (ad 200) = some (.inr (10, obM ad sv (.ref (ad 230)) m))) (hta : h (ad 201) = some (arB 900 B)) (hrd : RdAt h ad z00) (h7 : m 7 = ↑n) (h8 : m 8 = 0) (h12 : m 12 = 0) (kb : ∀ e, parse B n 901 z00 0 = .inl e → ∀ m' h', h' (ad 200) = some (.inr (10, obM ad sv (.ref (ad 230)) m')) → (m' 1 = 4 ∧ m' 2 = ↑e.2 ∧ m' 12 = ↑e.1) → (∀ k, k = 0 ∨ (3 ≤ k ∧ k < 8) ∨ 15 ≤ k → m' k = m k) → frN ad h h' → Q (some (.int (zI (-1)))) h') (kg : ∀ ζ, parse B n 901 z00 0 = .inr ζ → hzR ζ → ¬ ζ 5 0 = 0 → ∀ m' h' j, MRd h' ad sv m' B n ζ (.inr j) → mKp m m' → frN ad h h' → ssV G mX10_safe 12 0 0 Q 89 [some (.ref (ad 200)), some (.int x), none] [] h') : ssV G mX10_safe 12 0 0 Q 54 [some (.ref (ad 200)), some (.int x), none] [] h := by
  refine v_run 2 (pc' := 56) (ls' := [some (.ref (ad 200)), some (.int x), none]) (st' := [.int (zI 0), .ref (ad 200)]) rfl ?_
  refine v_put rfl ho rfl rfl (Nat.le_of_ble_eq_true rfl) ?_
  rw [show (obM ad sv (.ref (ad 230)) m).set 9 (.int (zI 0)) = obM ad sv (.ref (ad 230)) (mU m 9 0) from rfl]
  refine v_run 1 (pc' := 60) (ls' := [some (.ref (ad 200)), some (.int x), none]) (st' := [.ref (ad 200)]) rfl ?_
  refine v_callV (My := mX10_goesOn) (As := []) (rest := []) (mc := 0) (ms := 0) rfl caX10_goesOn rfl rfl rfl (hset_self _ _ _) rfl rfl (g_goesOn G _ (i := 0) hA (hset_self _ _ _) ((hset_ne _ _ (ad_ne hA (by decide))).trans hta) hB hn h7 (show ¬ zI 0 = zI 5 by decide) h8) rfl rfl (Nat.le_of_ble_eq_true rfl) (by omega) ?_
  rintro _ _ ⟨rfl, m1, rfl, k1, e8, e9, e10, e14, e11⟩
  refine v_run 0 (pc' := 63) (ls' := [some (.ref (ad 200)), some (.int x), none]) (st' := []) rfl ?_
  rw [hset_hset]
  have hm : MRd (hset h (ad 200) (.inr (10, obM ad sv (.ref (ad 230)) m1))) ad sv m1 B n z00 (.inr 0) := ⟨hset_self _ _ _, ((hset_ne _ _ (ad_ne hA (by decide))).trans hta), hrd.fr hA (by omega), (k1 7 (by omega)).trans h7, e8, e9, e10, e14, e11, (k1 12 (by omega)).trans h12⟩
  generalize e1 : hset h (ad 200) _ = h1 at hm ⊢
  have hf1 : frN ad h h1 := e1 ▸ frN.set (Or.inl rfl) _
  have hk1 : mKp m m1 := fun k hk => (k1 k (by omega)).trans (if_neg (by omega))
  have heo := eOk_parse (T := B) (n := n) 901 z00 0
  refine v_run 1 (pc' := 64) (ls' := [some (.ref (ad 200)), some (.int x), none]) (st' := [.ref (ad 200)]) rfl ?_
  refine v_callV (My := mX10_readAll) (As := []) (rest := []) (mc := 0) (ms := 0) rfl caX10_readAll rfl rfl rfl hm.1 rfl rfl (g_all G _ hA hB hn hm) rfl rfl (Nat.le_of_ble_eq_true rfl) (by omega) ?_
  rintro rx h2 hq2
  obtain rfl := GA_n hq2
  refine v_run 0 (pc' := 67) (ls' := [some (.ref (ad 200)), some (.int x), none]) (st' := []) rfl ?_
  rcases hp : parse B n 901 z00 0 with e | ζ
  · rw [hp] at hq2
    obtain ⟨-, m2, ζ, hm2, hk2, hf2⟩ := hq2
    obtain ⟨b1, b2, b3⟩ := heo e hp
    obtain ⟨u9, u12, u13⟩ := id hm2.2.2.2.2
    refine v_run 1 (pc' := 68) (ls' := [some (.ref (ad 200)), some (.int x), none]) (st' := [.ref (ad 200)]) rfl ?_
    refine v_get rfl hm2.1 rfl ?_
    refine v_run 0 (pc' := 71) (ls' := [some (.ref (ad 200)), some (.int x), none]) (st' := [.int (zI (m2 12))]) rfl ?_
    rw [u12]
    refine v_if_le rfl (fun c71 => ?_) (fun c71 => ?_)
    · exact absurd c71 (by rw [zI_le0 (by omega) (by omega)]; omega)
    · refine v_run 2 (pc' := 76) (ls' := [some (.ref (ad 200)), some (.int x), none]) (st' := [.int (zI 4), .ref (ad 200)]) rfl ?_
      refine v_put rfl hm2.1 rfl rfl (Nat.le_of_ble_eq_true rfl) ?_
      rw [show (obM ad sv (.ref (ad 230)) m2).set 1 (.int (zI 4)) = obM ad sv (.ref (ad 230)) (mU m2 1 4) from rfl]
      refine v_run 2 (pc' := 81) (ls' := [some (.ref (ad 200)), some (.int x), none]) (st' := [.ref (ad 200), .ref (ad 200)]) rfl ?_
      refine v_get rfl (hset_self _ _ _) rfl ?_
      refine v_run 0 (pc' := 84) (ls' := [some (.ref (ad 200)), some (.int x), none]) (st' := [.int (zI (m2 13)), .ref (ad 200)]) rfl ?_
      refine v_put rfl (hset_self _ _ _) rfl rfl (Nat.le_of_ble_eq_true rfl) ?_
      rw [show (obM ad sv (.ref (ad 230)) (mU m2 1 4)).set 2 (.int (zI (m2 13))) = obM ad sv (.ref (ad 230)) (mU (mU m2 1 4) 2 (m2 13)) from rfl]
      rw [hset_hset]
      refine v_run 1 (pc' := 88) (ls' := [some (.ref (ad 200)), some (.int x), none]) (st' := [.int (zI (-1))]) rfl ?_
      exact v_iret rfl rfl rfl (kb e hp (mU (mU m2 1 4) 2 (m2 13)) _ (hset_self _ _ _) ⟨rfl, u13, u12⟩ (fun k hk => by simp only [mU]; rw [if_neg (by omega), if_neg (by omega)]; exact (hk1.tr hk2) k (by omega)) ((hf1.tr hf2).tr (frN.set (Or.inl rfl) _)))
  · rw [hp] at hq2
    obtain ⟨-, hz, h5, m2, j, hm2, hk2, hf2⟩ := hq2
    have u12 := hm2.2.2.2.2.2.2.2.2.2
    refine v_run 1 (pc' := 68) (ls' := [some (.ref (ad 200)), some (.int x), none]) (st' := [.ref (ad 200)]) rfl ?_
    refine v_get rfl hm2.1 rfl ?_
    refine v_run 0 (pc' := 71) (ls' := [some (.ref (ad 200)), some (.int x), none]) (st' := [.int (zI (m2 12))]) rfl ?_
    rw [u12]
    refine v_if_le rfl (fun c71 => ?_) (fun c71 => ?_)
    · exact kg ζ hp hz h5 m2 h2 j hm2 (hk1.tr hk2) (hf1.tr hf2)
    · exact absurd (by decide) c71

